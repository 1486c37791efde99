/-! Integer.bitCount: 0 of 0 alone -/
def bc9 (x : Int32) : Int32 :=
  let x1 := x - ((x.toUInt32 >>> ((1 : Int32).toUInt32 &&& Int32.toUInt32 31)).toInt32 &&& 1431655765)
  let x2 := (x1 &&& 858993459) + ((x1.toUInt32 >>> ((2 : Int32).toUInt32 &&& Int32.toUInt32 31)).toInt32 &&& 858993459)
  let x3 := (x2 + (x2.toUInt32 >>> ((4 : Int32).toUInt32 &&& Int32.toUInt32 31)).toInt32) &&& 252645135
  let x4 := x3 + (x3.toUInt32 >>> ((8 : Int32).toUInt32 &&& Int32.toUInt32 31)).toInt32
  let x5 := x4 + (x4.toUInt32 >>> ((16 : Int32).toUInt32 &&& Int32.toUInt32 31)).toInt32
  x5 &&& 63
theorem bc_all : ∀ a, a < 64 → ∀ b, b < 64 → 0 ≤ (bc9 (Int32.ofNat (64 * a + b))).toInt ∧ ((bc9 (Int32.ofNat (64 * a + b))).toInt = 0 ↔ 64 * a + b = 0) := by decide +kernel
theorem bc_z {x : Int32} (h : 0 ≤ x.toInt ∧ x.toInt ≤ 4095) : 0 ≤ (bc9 x).toInt ∧ ((bc9 x).toInt = 0 ↔ x.toInt = 0) := by
  have h1 := kn_nat (x := x) (n := x.toInt.toNat) (by omega)
  have h2 := bc_all (x.toInt.toNat / 64) (by omega) (x.toInt.toNat % 64) (by omega)
  rw [show 64 * (x.toInt.toNat / 64) + x.toInt.toNat % 64 = x.toInt.toNat by omega, ← h1] at h2
  exact ⟨h2.1, h2.2.trans (by omega)⟩
theorem or_z {x y v : Int32} (hx : 0 ≤ x.toInt ∧ x.toInt ≤ 4095) (hy : 0 ≤ y.toInt ∧ y.toInt ≤ 4095) (e : v = x ||| y) : (0 ≤ v.toInt ∧ v.toInt ≤ 4095) ∧ (v.toInt = 0 ↔ x.toInt = 0 ∧ y.toInt = 0) := by
  have q : ∀ {z : Int32}, 0 ≤ z.toInt ∧ z.toInt ≤ 4095 → (z.toBitVec.toNat : Int) = z.toInt := fun {z} hz => by
    have h2 := z.toBitVec.isLt
    rw [← Int32.toInt_toBitVec, BitVec.toInt_eq_toNat_cond] at hz ⊢
    split at hz <;> split <;> omega
  have hx2 := q hx
  have hy2 := q hy
  have h1 : v.toBitVec.toNat = x.toBitVec.toNat ||| y.toBitVec.toNat := by rw [e, Int32.toBitVec_or, BitVec.toNat_or]
  have h2 : x.toBitVec.toNat ||| y.toBitVec.toNat < 2 ^ 12 := Nat.or_lt_two_pow (by omega) (by omega)
  have h3 : (v.toInt) = (v.toBitVec.toNat : Int) := by
    rw [← Int32.toInt_toBitVec, BitVec.toInt_eq_toNat_cond, h1, if_pos (by omega)]
  rw [h3, h1]
  refine ⟨by omega, ?_⟩
  have h4 := Nat.or_eq_zero_iff (n := x.toBitVec.toNat) (m := y.toBitVec.toNat)
  constructor
  · intro z
    have := h4.mp (by omega)
    omega
  · intro z
    have := h4.mpr (by omega)
    omega
theorem and_z {x u w t r : Int32} (hx : x.toInt = 0) (e1 : t = x &&& u) (e2 : r = t &&& w) : r.toInt = 0 := by
  have hx2 : x = 0 := (kn_eq _ _).mpr (by rw [hx]; rfl)
  subst hx2
  rw [e2, e1, Int32.zero_and, Int32.zero_and]
  rfl
theorem shl_all : ∀ k, k < 12 → 1 ≤ ((1 : Int32) <<< (Int32.ofNat k &&& 31)).toInt ∧ ((1 : Int32) <<< (Int32.ofNat k &&& 31)).toInt ≤ 2048 := by decide +kernel
theorem shl_b {r z v : Int32} (hr : 0 ≤ r.toInt ∧ r.toInt ≤ 11) (hz : z.toInt = 1) (e : v = z <<< (r &&& 31)) : 1 ≤ v.toInt ∧ v.toInt ≤ 2048 := by
  have h1 := kn_nat (x := r) (n := r.toInt.toNat) (by omega)
  have hz2 : z = 1 := (kn_eq _ _).mpr (by rw [hz]; rfl)
  have h2 := shl_all r.toInt.toNat (by omega)
  rw [← h1] at h2
  rw [e, hz2]
  exact h2
theorem pow_all : ∀ k, k ≤ 6 → ((1 : Int32) <<< (Int32.ofNat (2 * k) &&& 31)).toInt = ((2 ^ (2 * k) : Nat) : Int) := by decide +kernel
theorem shl_p {n : Nat} {r z v : Int32} (hn : n ≤ 6) (hr : r.toInt = ((2 * n : Nat) : Int)) (hz : z.toInt = 1) (e : v = z <<< (r &&& 31)) : v.toInt = ((2 ^ (2 * n) : Nat) : Int) := by
  have h1 := kn_nat (x := r) (n := 2 * n) hr
  have hz2 : z = 1 := (kn_eq _ _).mpr (by rw [hz]; rfl)
  rw [e, hz2, h1]
  exact pow_all n hn
section
variable {l : Launch} {D : va_G} {tys : List (ClassId × FieldType)} {A : Nat → Prop} {X : State → Prop} {fr lo : Nat} {M : ch_M} {Q : Option Value → ch_H → Prop} {pc : Nat} {lv : List (Nat × Value)} {st : List Value} {cA : Nat → ClassId} {h : ch_H}
theorem w_subE {x y : Int32} (hd : decode M.2.1 pc = .ok (.isub, 1)) (k : ∀ v : Int32, v = x - y → ww l D tys A X fr lo M Q (pc + 1) lv (.int v :: st) h) : ww l D tys A X fr lo M Q pc lv (.int y :: .int x :: st) h := tt_isub hd (k _ rfl)
theorem w_addE {x y : Int32} (hd : decode M.2.1 pc = .ok (.iadd, 1)) (k : ∀ v : Int32, v = x + y → ww l D tys A X fr lo M Q (pc + 1) lv (.int v :: st) h) : ww l D tys A X fr lo M Q pc lv (.int y :: .int x :: st) h := tt_iadd hd (k _ rfl)
theorem w_andE {x y : Int32} (hd : decode M.2.1 pc = .ok (.iand, 1)) (k : ∀ v : Int32, v = x &&& y → ww l D tys A X fr lo M Q (pc + 1) lv (.int v :: st) h) : ww l D tys A X fr lo M Q pc lv (.int y :: .int x :: st) h := tt_iand hd (k _ rfl)
theorem w_ushE {x y : Int32} (hd : decode M.2.1 pc = .ok (.iushr, 1)) (k : ∀ v : Int32, v = (x.toUInt32 >>> (y.toUInt32 &&& Int32.toUInt32 31)).toInt32 → ww l D tys A X fr lo M Q (pc + 1) lv (.int v :: st) h) : ww l D tys A X fr lo M Q pc lv (.int y :: .int x :: st) h := tt_iushr hd (k _ rfl)
theorem w_xorE {x y : Int32} (hd : decode M.2.1 pc = .ok (.ixor, 1)) (k : ∀ v : Int32, ww l D tys A X fr lo M Q (pc + 1) lv (.int v :: st) h) : ww l D tys A X fr lo M Q pc lv (.int y :: .int x :: st) h := tt_ixor hd (k _)
theorem w_negE {x : Int32} (hd : decode M.2.1 pc = .ok (.ineg, 1)) (k : ∀ v : Int32, ww l D tys A X fr lo M Q (pc + 1) lv (.int v :: st) h) : ww l D tys A X fr lo M Q pc lv (.int x :: st) h := tt_ineg hd (k _)
end
section
variable {l : Launch} {D : va_G} {tys : List (ClassId × FieldType)} {A : Nat → Prop} {X : State → Prop} {fr lo : Nat} {Q : Option Value → ch_H → Prop} {cA : Nat → ClassId} {h : ch_H} {ρ : aRw} {B : Nat → Prop}
theorem r_bitCount {x : Int32} (hq : Q (some (.int (bc9 x))) h) : ww l D tys A X fr lo mJ6_bitCount_0f7a4 Q 0 [(0, .int x)] [] h := by
  refine w_iload_n (List.Mem.head _) (tJ6_bitCount_0f7a4_0_ok (0, .iload_n 0, 1) (List.mem_of_getElem? (i := 0) rfl)) ?_
  refine w_iload_n (List.Mem.head _) (tJ6_bitCount_0f7a4_0_ok (1, .iload_n 0, 1) (List.mem_of_getElem? (i := 1) rfl)) ?_
  refine tt_iconst (v := 1) rfl (tJ6_bitCount_0f7a4_0_ok (2, .iconst 1, 1) (List.mem_of_getElem? (i := 2) rfl)) ?_
  refine w_ushE (tJ6_bitCount_0f7a4_0_ok (3, .iushr, 1) (List.mem_of_getElem? (i := 3) rfl)) (fun v1 e1 => ?_)
  refine tt_ldcw (v := 1431655765) (wA7 98 rfl rfl) (tJ6_bitCount_0f7a4_0_ok (4, .ldc_w 265, 3) (List.mem_of_getElem? (i := 4) rfl)) ?_
  refine w_andE (tJ6_bitCount_0f7a4_0_ok (7, .iand, 1) (List.mem_of_getElem? (i := 5) rfl)) (fun v2 e2 => ?_)
  refine w_subE (tJ6_bitCount_0f7a4_0_ok (8, .isub, 1) (List.mem_of_getElem? (i := 6) rfl)) (fun v3 e3 => ?_)
  refine w_istore_n [(0, .int v3)] rfl (Nat.le_of_ble_eq_true rfl) (tJ6_bitCount_0f7a4_0_ok (9, .istore_n 0, 1) (List.mem_of_getElem? (i := 7) rfl)) ?_
  refine w_iload_n (List.Mem.head _) (tJ6_bitCount_0f7a4_0_ok (10, .iload_n 0, 1) (List.mem_of_getElem? (i := 8) rfl)) ?_
  refine tt_ldcw (v := 858993459) (wA7 99 rfl rfl) (tJ6_bitCount_0f7a4_0_ok (11, .ldc_w 266, 3) (List.mem_of_getElem? (i := 9) rfl)) ?_
  refine w_andE (tJ6_bitCount_0f7a4_0_ok (14, .iand, 1) (List.mem_of_getElem? (i := 10) rfl)) (fun v4 e4 => ?_)
  refine w_iload_n (List.Mem.head _) (tJ6_bitCount_0f7a4_0_ok (15, .iload_n 0, 1) (List.mem_of_getElem? (i := 11) rfl)) ?_
  refine tt_iconst (v := 2) rfl (tJ6_bitCount_0f7a4_0_ok (16, .iconst 2, 1) (List.mem_of_getElem? (i := 12) rfl)) ?_
  refine w_ushE (tJ6_bitCount_0f7a4_0_ok (17, .iushr, 1) (List.mem_of_getElem? (i := 13) rfl)) (fun v5 e5 => ?_)
  refine tt_ldcw (v := 858993459) (wA7 99 rfl rfl) (tJ6_bitCount_0f7a4_0_ok (18, .ldc_w 266, 3) (List.mem_of_getElem? (i := 14) rfl)) ?_
  refine w_andE (tJ6_bitCount_0f7a4_0_ok (21, .iand, 1) (List.mem_of_getElem? (i := 15) rfl)) (fun v6 e6 => ?_)
  refine w_addE (tJ6_bitCount_0f7a4_0_ok (22, .iadd, 1) (List.mem_of_getElem? (i := 16) rfl)) (fun v7 e7 => ?_)
  refine w_istore_n [(0, .int v7)] rfl (Nat.le_of_ble_eq_true rfl) (tJ6_bitCount_0f7a4_0_ok (23, .istore_n 0, 1) (List.mem_of_getElem? (i := 17) rfl)) ?_
  refine w_iload_n (List.Mem.head _) (tJ6_bitCount_0f7a4_0_ok (24, .iload_n 0, 1) (List.mem_of_getElem? (i := 18) rfl)) ?_
  refine w_iload_n (List.Mem.head _) (tJ6_bitCount_0f7a4_0_ok (25, .iload_n 0, 1) (List.mem_of_getElem? (i := 19) rfl)) ?_
  refine tt_iconst (v := 4) rfl (tJ6_bitCount_0f7a4_0_ok (26, .iconst 4, 1) (List.mem_of_getElem? (i := 20) rfl)) ?_
  refine w_ushE (tJ6_bitCount_0f7a4_0_ok (27, .iushr, 1) (List.mem_of_getElem? (i := 21) rfl)) (fun v8 e8 => ?_)
  refine w_addE (tJ6_bitCount_0f7a4_0_ok (28, .iadd, 1) (List.mem_of_getElem? (i := 22) rfl)) (fun v9 e9 => ?_)
  refine tt_ldcw (v := 252645135) (wA7 100 rfl rfl) (tJ6_bitCount_0f7a4_0_ok (29, .ldc_w 267, 3) (List.mem_of_getElem? (i := 23) rfl)) ?_
  refine w_andE (tJ6_bitCount_0f7a4_0_ok (32, .iand, 1) (List.mem_of_getElem? (i := 24) rfl)) (fun v10 e10 => ?_)
  refine w_istore_n [(0, .int v10)] rfl (Nat.le_of_ble_eq_true rfl) (tJ6_bitCount_0f7a4_0_ok (33, .istore_n 0, 1) (List.mem_of_getElem? (i := 25) rfl)) ?_
  refine w_iload_n (List.Mem.head _) (tJ6_bitCount_0f7a4_0_ok (34, .iload_n 0, 1) (List.mem_of_getElem? (i := 26) rfl)) ?_
  refine w_iload_n (List.Mem.head _) (tJ6_bitCount_0f7a4_0_ok (35, .iload_n 0, 1) (List.mem_of_getElem? (i := 27) rfl)) ?_
  refine tt_bipush (v := 8) rfl (tJ6_bitCount_0f7a4_0_ok (36, .bipush 8, 2) (List.mem_of_getElem? (i := 28) rfl)) ?_
  refine w_ushE (tJ6_bitCount_0f7a4_0_ok (38, .iushr, 1) (List.mem_of_getElem? (i := 29) rfl)) (fun v11 e11 => ?_)
  refine w_addE (tJ6_bitCount_0f7a4_0_ok (39, .iadd, 1) (List.mem_of_getElem? (i := 30) rfl)) (fun v12 e12 => ?_)
  refine w_istore_n [(0, .int v12)] rfl (Nat.le_of_ble_eq_true rfl) (tJ6_bitCount_0f7a4_0_ok (40, .istore_n 0, 1) (List.mem_of_getElem? (i := 31) rfl)) ?_
  refine w_iload_n (List.Mem.head _) (tJ6_bitCount_0f7a4_0_ok (41, .iload_n 0, 1) (List.mem_of_getElem? (i := 32) rfl)) ?_
  refine w_iload_n (List.Mem.head _) (tJ6_bitCount_0f7a4_0_ok (42, .iload_n 0, 1) (List.mem_of_getElem? (i := 33) rfl)) ?_
  refine tt_bipush (v := 16) rfl (tJ6_bitCount_0f7a4_0_ok (43, .bipush 16, 2) (List.mem_of_getElem? (i := 34) rfl)) ?_
  refine w_ushE (tJ6_bitCount_0f7a4_0_ok (45, .iushr, 1) (List.mem_of_getElem? (i := 35) rfl)) (fun v13 e13 => ?_)
  refine w_addE (tJ6_bitCount_0f7a4_0_ok (46, .iadd, 1) (List.mem_of_getElem? (i := 36) rfl)) (fun v14 e14 => ?_)
  refine w_istore_n [(0, .int v14)] rfl (Nat.le_of_ble_eq_true rfl) (tJ6_bitCount_0f7a4_0_ok (47, .istore_n 0, 1) (List.mem_of_getElem? (i := 37) rfl)) ?_
  refine w_iload_n (List.Mem.head _) (tJ6_bitCount_0f7a4_0_ok (48, .iload_n 0, 1) (List.mem_of_getElem? (i := 38) rfl)) ?_
  refine tt_bipush (v := 63) rfl (tJ6_bitCount_0f7a4_0_ok (49, .bipush 63, 2) (List.mem_of_getElem? (i := 39) rfl)) ?_
  refine w_andE (tJ6_bitCount_0f7a4_0_ok (51, .iand, 1) (List.mem_of_getElem? (i := 40) rfl)) (fun v15 e15 => ?_)
  refine w_iret rfl (tJ6_bitCount_0f7a4_0_ok (52, .ireturn, 1) (List.mem_of_getElem? (i := 41) rfl)) ?_
  have e0 : v15 = bc9 x := by
    subst e1 e2 e3 e4 e5 e6 e7 e8 e9 e10 e11 e12 e13 e14 e15
    rfl
  rw [e0]
  exact hq
theorem r_before {x y : Int32} (hf : 1 ≤ fr) (hl : 30 ≤ lo) (hx : 0 ≤ x.toInt ∧ x.toInt ≤ 4095) (hy : 0 ≤ y.toInt ∧ y.toInt ≤ 4095) (hq : ∀ v : Int32, 0 ≤ v.toInt → v.toInt ≤ 1 → (y.toInt = 0 → v.toInt = 0) → (x.toInt = 0 → ¬ y.toInt = 0 → v.toInt = 1) → Q (some (.int v)) h) : ww l D tys A X fr lo mX11_isBefore Q 0 [(0, .int x), (1, .int y)] [] h := by
  have zx := bc_z hx
  have zy := bc_z hy
  refine w_iload_n (List.Mem.head _) (tX11_isBefore_0_ok (0, .iload_n 0, 1) (List.mem_of_getElem? (i := 0) rfl)) ?_
  refine w_callS (own := 16) (mi := 11) [.int x] [] [(0, .int x)] rfl (cllw_X11 (353, 1, 11) (List.mem_of_getElem? (i := 62) rfl)) rfl rfl (by omega) (w_lo (n := 20) rfl (by omega)) (Nat.le_of_ble_eq_true rfl) (Nat.le_of_ble_eq_true rfl) rfl (tX11_isBefore_0_ok (1, .invokestatic 353, 3) (List.mem_of_getElem? (i := 1) rfl)) (r_bitCount ?_)
  show ww l D tys A X fr lo mX11_isBefore Q 4 [(0, .int x), (1, .int y)] [.int (bc9 x)] h
  refine w_istore_n [(2, .int (bc9 x)), (0, .int x), (1, .int y)] rfl (Nat.le_of_ble_eq_true rfl) (tX11_isBefore_0_ok (4, .istore_n 2, 1) (List.mem_of_getElem? (i := 2) rfl)) ?_
  refine w_iload_n (List.Mem.tail _ (List.Mem.tail _ (List.Mem.head _))) (tX11_isBefore_0_ok (5, .iload_n 1, 1) (List.mem_of_getElem? (i := 3) rfl)) ?_
  refine w_callS (own := 16) (mi := 11) [.int y] [] [(0, .int y)] rfl (cllw_X11 (353, 1, 11) (List.mem_of_getElem? (i := 62) rfl)) rfl rfl (by omega) (w_lo (n := 20) rfl (by omega)) (Nat.le_of_ble_eq_true rfl) (Nat.le_of_ble_eq_true rfl) rfl (tX11_isBefore_0_ok (6, .invokestatic 353, 3) (List.mem_of_getElem? (i := 4) rfl)) (r_bitCount ?_)
  show ww l D tys A X fr lo mX11_isBefore Q 9 [(2, .int (bc9 x)), (0, .int x), (1, .int y)] [.int (bc9 y)] h
  refine w_istore_n [(3, .int (bc9 y)), (2, .int (bc9 x)), (0, .int x), (1, .int y)] rfl (Nat.le_of_ble_eq_true rfl) (tX11_isBefore_0_ok (9, .istore_n 3, 1) (List.mem_of_getElem? (i := 5) rfl)) ?_
  refine w_iload_n (List.Mem.tail _ (List.Mem.tail _ (List.Mem.head _))) (tX11_isBefore_0_ok (10, .iload_n 0, 1) (List.mem_of_getElem? (i := 6) rfl)) ?_
  refine w_iload_n (List.Mem.tail _ (List.Mem.tail _ (List.Mem.tail _ (List.Mem.head _)))) (tX11_isBefore_0_ok (11, .iload_n 1, 1) (List.mem_of_getElem? (i := 7) rfl)) ?_
  refine w_xorE (tX11_isBefore_0_ok (12, .ixor, 1) (List.mem_of_getElem? (i := 8) rfl)) (fun zv1 => ?_)
  refine w_istore [(4, .int zv1), (3, .int (bc9 y)), (2, .int (bc9 x)), (0, .int x), (1, .int y)] rfl (Nat.le_of_ble_eq_true rfl) (tX11_isBefore_0_ok (13, .istore 4, 2) (List.mem_of_getElem? (i := 9) rfl)) ?_
  refine w_iload_n (List.Mem.tail _ (List.Mem.tail _ (List.Mem.head _))) (tX11_isBefore_0_ok (15, .iload_n 2, 1) (List.mem_of_getElem? (i := 10) rfl)) ?_
  refine w_iload_n (List.Mem.tail _ (List.Mem.head _)) (tX11_isBefore_0_ok (16, .iload_n 3, 1) (List.mem_of_getElem? (i := 11) rfl)) ?_
  refine w_icmp_eq (tgt := 33) (tX11_isBefore_0_ok (17, .if_icmp .eq 16, 3) (List.mem_of_getElem? (i := 12) rfl)) rfl (fun zb2 => ?_) (fun zb2 => ?_)
  · refine w_iload_n (List.Mem.tail _ (List.Mem.tail _ (List.Mem.tail _ (List.Mem.head _)))) (tX11_isBefore_0_ok (33, .iload_n 0, 1) (List.mem_of_getElem? (i := 20) rfl)) ?_
    refine w_iload (List.Mem.head _) (tX11_isBefore_0_ok (34, .iload 4, 2) (List.mem_of_getElem? (i := 21) rfl)) ?_
    refine w_iand (tX11_isBefore_0_ok (36, .iand, 1) (List.mem_of_getElem? (i := 22) rfl)) (fun zv3 ze4 => ?_)
    refine w_iload (List.Mem.head _) (tX11_isBefore_0_ok (37, .iload 4, 2) (List.mem_of_getElem? (i := 23) rfl)) ?_
    refine w_negE (tX11_isBefore_0_ok (39, .ineg, 1) (List.mem_of_getElem? (i := 24) rfl)) (fun zv5 => ?_)
    refine w_iand (tX11_isBefore_0_ok (40, .iand, 1) (List.mem_of_getElem? (i := 25) rfl)) (fun zv6 ze7 => ?_)
    refine w_if_eq (tgt := 48) (tX11_isBefore_0_ok (41, .ifCond .eq 7, 3) (List.mem_of_getElem? (i := 26) rfl)) rfl (fun zb8 => ?_) (fun zb8 => ?_)
    · refine w_iconst (by decide) (tX11_isBefore_0_ok (48, .iconst 0, 1) (List.mem_of_getElem? (i := 29) rfl)) (fun zv9 ze10 => ?_)
      refine w_zret rfl (by omega) (by omega) (tX11_isBefore_0_ok (49, .ireturn, 1) (List.mem_of_getElem? (i := 30) rfl)) ?_
      refine hq _ (by omega) (by omega) (fun y0 => ?_) (fun x0 y0 => by omega)
      have za := and_z (x := x) (by omega) ze4 ze7
      omega
    · refine w_iconst (by decide) (tX11_isBefore_0_ok (44, .iconst 1, 1) (List.mem_of_getElem? (i := 27) rfl)) (fun zv11 ze12 => ?_)
      refine w_goto (tgt := 49) (tX11_isBefore_0_ok (45, .goto 4, 3) (List.mem_of_getElem? (i := 28) rfl)) rfl ?_
      refine w_zret rfl (by omega) (by omega) (tX11_isBefore_0_ok (49, .ireturn, 1) (List.mem_of_getElem? (i := 30) rfl)) ?_
      refine hq _ (by omega) (by omega) (fun y0 => ?_) (fun x0 y0 => by omega)
      have za := and_z (x := x) (by omega) ze4 ze7
      omega
  · refine w_iload_n (List.Mem.tail _ (List.Mem.tail _ (List.Mem.head _))) (tX11_isBefore_0_ok (20, .iload_n 2, 1) (List.mem_of_getElem? (i := 13) rfl)) ?_
    refine w_iload_n (List.Mem.tail _ (List.Mem.head _)) (tX11_isBefore_0_ok (21, .iload_n 3, 1) (List.mem_of_getElem? (i := 14) rfl)) ?_
    refine w_icmp_ge (tgt := 29) (tX11_isBefore_0_ok (22, .if_icmp .ge 7, 3) (List.mem_of_getElem? (i := 15) rfl)) rfl (fun zb13 => ?_) (fun zb13 => ?_)
    · refine w_iconst (by decide) (tX11_isBefore_0_ok (29, .iconst 0, 1) (List.mem_of_getElem? (i := 18) rfl)) (fun zv14 ze15 => ?_)
      refine w_goto (tgt := 49) (tX11_isBefore_0_ok (30, .goto 19, 3) (List.mem_of_getElem? (i := 19) rfl)) rfl ?_
      refine w_zret rfl (by omega) (by omega) (tX11_isBefore_0_ok (49, .ireturn, 1) (List.mem_of_getElem? (i := 30) rfl)) ?_
      exact hq _ (by omega) (by omega) (fun y0 => by omega) (fun x0 y0 => by omega)
    · refine w_iconst (by decide) (tX11_isBefore_0_ok (25, .iconst 1, 1) (List.mem_of_getElem? (i := 16) rfl)) (fun zv16 ze17 => ?_)
      refine w_goto (tgt := 49) (tX11_isBefore_0_ok (26, .goto 23, 3) (List.mem_of_getElem? (i := 17) rfl)) rfl ?_
      refine w_zret rfl (by omega) (by omega) (tX11_isBefore_0_ok (49, .ireturn, 1) (List.mem_of_getElem? (i := 30) rfl)) ?_
      exact hq _ (by omega) (by omega) (fun y0 => by omega) (fun x0 y0 => by omega)
theorem r_offAt (hT : k_tys tys cA) {m ro wa : Nat} {fs : List Value} {R gw : Nat → Int32} {rp : Int32} {hh : Nat} (c_m : h m = some (.inr (10, fs))) (f19 : fs[19]? = some (.ref ro)) (f20 : fs[20]? = some (.int rp)) (f26 : fs[26]? = some (.ref wa)) (c_ro : h ro = some (.inl (cA 0, 108, .inl R))) (c_wa : h wa = some (.inl (cA 0, 12, .inl gw))) (hw : ∀ r, r < 12 → (B r → (gw r).toInt = (hh : Int)) ∧ (¬ B r → (gw r).toInt = -1)) (hn : 0 ≤ rp.toInt ∧ rp.toInt ≤ 6) (wf : wfR rp.toInt.toNat ρ) (hρ : ∀ q, q < rp.toInt.toNat → ∀ w, w < 9 → (R (9 * q + w)).toInt = ρ q w) {r d : Int32} (hr : 0 ≤ r.toInt ∧ r.toInt ≤ 11) (hq : ∀ v : Int32, 0 ≤ v.toInt ∧ v.toInt ≤ 4095 ∧ (v.toInt = 0 ↔ (B r.toInt.toNat → d.toInt = (hh : Int))) → Q (some (.int v)) h) : ww l D tys A X fr lo mX11_offAt Q 0 [(0, .ref m), (1, .int r), (2, .int d)] [] h := by
  have hw9 := hw r.toInt.toNat (by omega)
  refine w_aload_n (List.Mem.head _) (tX11_offAt_0_ok (0, .aload_n 0, 1) (List.mem_of_getElem? (i := 0) rfl)) ?_
  refine w_get (own := 16) rfl rfl (by decide) c_m f26 (tX11_offAt_0_ok (1, .getfield 57, 3) (List.mem_of_getElem? (i := 1) rfl)) ?_
  refine w_iload_n (List.Mem.tail _ (List.Mem.head _)) (tX11_offAt_0_ok (4, .iload_n 1, 1) (List.mem_of_getElem? (i := 2) rfl)) ?_
  refine w_iald hT c_wa (by omega) (by omega) (tX11_offAt_0_ok (5, .iaload, 1) (List.mem_of_getElem? (i := 3) rfl)) (fun zv1 ze2 => ?_)
  refine w_iconst (by decide) (tX11_offAt_0_ok (6, .iconst (-1), 1) (List.mem_of_getElem? (i := 4) rfl)) (fun zv3 ze4 => ?_)
  refine w_icmp_eq (tgt := 26) (tX11_offAt_0_ok (7, .if_icmp .eq 19, 3) (List.mem_of_getElem? (i := 5) rfl)) rfl (fun zb5 => ?_) (fun zb5 => ?_)
  · refine w_iconst (by decide) (tX11_offAt_0_ok (26, .iconst 0, 1) (List.mem_of_getElem? (i := 16) rfl)) (fun zv6 ze7 => ?_)
    refine w_iret rfl (tX11_offAt_0_ok (27, .ireturn, 1) (List.mem_of_getElem? (i := 17) rfl)) ?_
    refine hq _ ⟨by omega, by omega, fun _ hb => ?_, fun _ => by omega⟩
    have := hw9.1 hb
    omega
  · refine w_aload_n (List.Mem.head _) (tX11_offAt_0_ok (10, .aload_n 0, 1) (List.mem_of_getElem? (i := 6) rfl)) ?_
    refine w_get (own := 16) rfl rfl (by decide) c_m f26 (tX11_offAt_0_ok (11, .getfield 57, 3) (List.mem_of_getElem? (i := 7) rfl)) ?_
    refine w_iload_n (List.Mem.tail _ (List.Mem.head _)) (tX11_offAt_0_ok (14, .iload_n 1, 1) (List.mem_of_getElem? (i := 8) rfl)) ?_
    refine w_iald hT c_wa (by omega) (by omega) (tX11_offAt_0_ok (15, .iaload, 1) (List.mem_of_getElem? (i := 9) rfl)) (fun zv8 ze9 => ?_)
    refine w_iload_n (List.Mem.tail _ (List.Mem.tail _ (List.Mem.head _))) (tX11_offAt_0_ok (16, .iload_n 2, 1) (List.mem_of_getElem? (i := 10) rfl)) ?_
    refine w_icmp_eq (tgt := 26) (tX11_offAt_0_ok (17, .if_icmp .eq 9, 3) (List.mem_of_getElem? (i := 11) rfl)) rfl (fun zb10 => ?_) (fun zb10 => ?_)
    · refine w_iconst (by decide) (tX11_offAt_0_ok (26, .iconst 0, 1) (List.mem_of_getElem? (i := 16) rfl)) (fun zv11 ze12 => ?_)
      refine w_iret rfl (tX11_offAt_0_ok (27, .ireturn, 1) (List.mem_of_getElem? (i := 17) rfl)) ?_
      refine hq _ ⟨by omega, by omega, fun _ hb => ?_, fun _ => by omega⟩
      have := hw9.1 hb
      omega
    · refine w_iconst (by decide) (tX11_offAt_0_ok (20, .iconst 1, 1) (List.mem_of_getElem? (i := 12) rfl)) (fun zv13 ze14 => ?_)
      refine w_iload_n (List.Mem.tail _ (List.Mem.head _)) (tX11_offAt_0_ok (21, .iload_n 1, 1) (List.mem_of_getElem? (i := 13) rfl)) ?_
      refine w_ishl (tX11_offAt_0_ok (22, .ishl, 1) (List.mem_of_getElem? (i := 14) rfl)) (fun zv15 ze16 => ?_)
      have sb9 := shl_b (r := r) (by omega) (by omega) ze16
      refine w_goto (tgt := 27) (tX11_offAt_0_ok (23, .goto 4, 3) (List.mem_of_getElem? (i := 15) rfl)) rfl ?_
      refine w_iret rfl (tX11_offAt_0_ok (27, .ireturn, 1) (List.mem_of_getElem? (i := 17) rfl)) ?_
      refine hq _ ⟨by omega, by omega, fun _ => by omega, fun z => ?_⟩
      by_cases hb : B r.toInt.toNat
      · have := hw9.1 hb
        have := z hb
        omega
      · have := hw9.2 hb
        omega
theorem r_placeOf (hT : k_tys tys cA) {m ro wa : Nat} {fs : List Value} {R gw : Nat → Int32} {rp : Int32} {hh : Nat} (c_m : h m = some (.inr (10, fs))) (f19 : fs[19]? = some (.ref ro)) (f20 : fs[20]? = some (.int rp)) (f26 : fs[26]? = some (.ref wa)) (c_ro : h ro = some (.inl (cA 0, 108, .inl R))) (c_wa : h wa = some (.inl (cA 0, 12, .inl gw))) (hw : ∀ r, r < 12 → (B r → (gw r).toInt = (hh : Int)) ∧ (¬ B r → (gw r).toInt = -1)) (hn : 0 ≤ rp.toInt ∧ rp.toInt ≤ 6) (wf : wfR rp.toInt.toNat ρ) (hρ : ∀ q, q < rp.toInt.toNat → ∀ w, w < 9 → (R (9 * q + w)).toInt = ρ q w) {p s x : Int32} (hf : 1 ≤ fr) (hl : 30 ≤ lo) (hp : 0 ≤ p.toInt ∧ p.toInt < rp.toInt) (hs : 0 ≤ s.toInt ∧ s.toInt ≤ 1) (hx : 0 ≤ x.toInt ∧ x.toInt ≤ ρ p.toInt.toNat 1) (hq : ∀ v : Int32, v.toInt = f_pl ρ p.toInt.toNat s.toInt.toNat x.toInt → Q (some (.int v)) h) : ww l D tys A X fr lo mX11_placeOf Q 0 [(0, .ref m), (1, .int p), (2, .int s), (3, .int x)] [] h := by
  have hl9 := (wf.2 p.toInt.toNat (by omega)).1.2.1
  refine w_iload_n (List.Mem.tail _ (List.Mem.tail _ (List.Mem.head _))) (tX11_placeOf_0_ok (0, .iload_n 2, 1) (List.mem_of_getElem? (i := 0) rfl)) ?_
  refine w_if_ne (tgt := 8) (tX11_placeOf_0_ok (1, .ifCond .ne 7, 3) (List.mem_of_getElem? (i := 1) rfl)) rfl (fun zb1 => ?_) (fun zb1 => ?_)
  · refine w_aload_n (List.Mem.head _) (tX11_placeOf_0_ok (8, .aload_n 0, 1) (List.mem_of_getElem? (i := 4) rfl)) ?_
    refine w_iload_n (List.Mem.tail _ (List.Mem.head _)) (tX11_placeOf_0_ok (9, .iload_n 1, 1) (List.mem_of_getElem? (i := 5) rfl)) ?_
    refine w_iconst (by decide) (tX11_placeOf_0_ok (10, .iconst 0, 1) (List.mem_of_getElem? (i := 6) rfl)) (fun zv2 ze3 => ?_)
    refine w_callV (own := 16) (mi := 219) [.int p, .int zv2] [] [(0, .ref m), (1, .int p), (2, .int zv2)] rfl (cllw_X11 (255, 0, 219) (List.mem_of_getElem? (i := 34) rfl)) rfl rfl c_m rfl (by omega) (w_lo (n := 22) rfl (by omega)) (Nat.le_of_ble_eq_true rfl) (Nat.le_of_ble_eq_true rfl) rfl (tX11_placeOf_0_ok (11, .invokevirtual 255, 3) (List.mem_of_getElem? (i := 7) rfl)) (h_of2 hT (by omega) (by omega) c_m f19 c_ro (fun zv4 ze5 => ?_))
    have ze5r : zv4.toInt = ρ p.toInt.toNat 0 := by rw [ze5, show 9 * p.toInt.toNat + zv2.toInt.toNat = 9 * p.toInt.toNat + 0 by omega]; exact hρ _ (by omega) 0 (by decide)
    show ww l D tys A X fr lo mX11_placeOf Q 14 [(0, .ref m), (1, .int p), (2, .int s), (3, .int x)] [.int zv4] h
    refine w_iconst (by decide) (tX11_placeOf_0_ok (14, .iconst 1, 1) (List.mem_of_getElem? (i := 8) rfl)) (fun zv6 ze7 => ?_)
    refine w_icmp_ne (tgt := 31) (tX11_placeOf_0_ok (15, .if_icmp .ne 16, 3) (List.mem_of_getElem? (i := 9) rfl)) rfl (fun zb8 => ?_) (fun zb8 => ?_)
    · refine w_aload_n (List.Mem.head _) (tX11_placeOf_0_ok (31, .aload_n 0, 1) (List.mem_of_getElem? (i := 19) rfl)) ?_
      refine w_iload_n (List.Mem.tail _ (List.Mem.head _)) (tX11_placeOf_0_ok (32, .iload_n 1, 1) (List.mem_of_getElem? (i := 20) rfl)) ?_
      refine w_iconst (by decide) (tX11_placeOf_0_ok (33, .iconst 1, 1) (List.mem_of_getElem? (i := 21) rfl)) (fun zv9 ze10 => ?_)
      refine w_callV (own := 16) (mi := 219) [.int p, .int zv9] [] [(0, .ref m), (1, .int p), (2, .int zv9)] rfl (cllw_X11 (255, 0, 219) (List.mem_of_getElem? (i := 34) rfl)) rfl rfl c_m rfl (by omega) (w_lo (n := 22) rfl (by omega)) (Nat.le_of_ble_eq_true rfl) (Nat.le_of_ble_eq_true rfl) rfl (tX11_placeOf_0_ok (34, .invokevirtual 255, 3) (List.mem_of_getElem? (i := 22) rfl)) (h_of2 hT (by omega) (by omega) c_m f19 c_ro (fun zv11 ze12 => ?_))
      have ze12r : zv11.toInt = ρ p.toInt.toNat 1 := by rw [ze12, show 9 * p.toInt.toNat + zv9.toInt.toNat = 9 * p.toInt.toNat + 1 by omega]; exact hρ _ (by omega) 1 (by decide)
      show ww l D tys A X fr lo mX11_placeOf Q 37 [(0, .ref m), (1, .int p), (2, .int s), (3, .int x)] [.int zv11] h
      refine w_iload_n (List.Mem.tail _ (List.Mem.tail _ (List.Mem.tail _ (List.Mem.head _)))) (tX11_placeOf_0_ok (37, .iload_n 3, 1) (List.mem_of_getElem? (i := 23) rfl)) ?_
      refine w_isub (by omega) (by omega) (tX11_placeOf_0_ok (38, .isub, 1) (List.mem_of_getElem? (i := 24) rfl)) (fun zv13 ze14 => ?_)
      refine w_iret rfl (tX11_placeOf_0_ok (39, .ireturn, 1) (List.mem_of_getElem? (i := 25) rfl)) ?_
      refine hq _ ?_
      unfold f_pl
      repeat (first | rw [if_pos (by omega)] | rw [if_neg (by omega)])
      all_goals omega
    · refine w_aload_n (List.Mem.head _) (tX11_placeOf_0_ok (18, .aload_n 0, 1) (List.mem_of_getElem? (i := 10) rfl)) ?_
      refine w_iload_n (List.Mem.tail _ (List.Mem.head _)) (tX11_placeOf_0_ok (19, .iload_n 1, 1) (List.mem_of_getElem? (i := 11) rfl)) ?_
      refine w_iconst (by decide) (tX11_placeOf_0_ok (20, .iconst 1, 1) (List.mem_of_getElem? (i := 12) rfl)) (fun zv15 ze16 => ?_)
      refine w_callV (own := 16) (mi := 219) [.int p, .int zv15] [] [(0, .ref m), (1, .int p), (2, .int zv15)] rfl (cllw_X11 (255, 0, 219) (List.mem_of_getElem? (i := 34) rfl)) rfl rfl c_m rfl (by omega) (w_lo (n := 22) rfl (by omega)) (Nat.le_of_ble_eq_true rfl) (Nat.le_of_ble_eq_true rfl) rfl (tX11_placeOf_0_ok (21, .invokevirtual 255, 3) (List.mem_of_getElem? (i := 13) rfl)) (h_of2 hT (by omega) (by omega) c_m f19 c_ro (fun zv17 ze18 => ?_))
      have ze18r : zv17.toInt = ρ p.toInt.toNat 1 := by rw [ze18, show 9 * p.toInt.toNat + zv15.toInt.toNat = 9 * p.toInt.toNat + 1 by omega]; exact hρ _ (by omega) 1 (by decide)
      show ww l D tys A X fr lo mX11_placeOf Q 24 [(0, .ref m), (1, .int p), (2, .int s), (3, .int x)] [.int zv17] h
      refine w_iload_n (List.Mem.tail _ (List.Mem.tail _ (List.Mem.tail _ (List.Mem.head _)))) (tX11_placeOf_0_ok (24, .iload_n 3, 1) (List.mem_of_getElem? (i := 14) rfl)) ?_
      refine w_isub (by omega) (by omega) (tX11_placeOf_0_ok (25, .isub, 1) (List.mem_of_getElem? (i := 15) rfl)) (fun zv19 ze20 => ?_)
      refine w_iconst (by decide) (tX11_placeOf_0_ok (26, .iconst 2, 1) (List.mem_of_getElem? (i := 16) rfl)) (fun zv21 ze22 => ?_)
      refine w_idiv2 (by omega) (by omega) (tX11_placeOf_0_ok (27, .idiv, 1) (List.mem_of_getElem? (i := 17) rfl)) (fun zv23 ze24 => ?_)
      refine w_goto (tgt := 39) (tX11_placeOf_0_ok (28, .goto 11, 3) (List.mem_of_getElem? (i := 18) rfl)) rfl ?_
      refine w_iret rfl (tX11_placeOf_0_ok (39, .ireturn, 1) (List.mem_of_getElem? (i := 25) rfl)) ?_
      refine hq _ ?_
      unfold f_pl
      repeat (first | rw [if_pos (by omega)] | rw [if_neg (by omega)])
      all_goals omega
  · refine w_iload_n (List.Mem.tail _ (List.Mem.tail _ (List.Mem.tail _ (List.Mem.head _)))) (tX11_placeOf_0_ok (4, .iload_n 3, 1) (List.mem_of_getElem? (i := 2) rfl)) ?_
    refine w_goto (tgt := 39) (tX11_placeOf_0_ok (5, .goto 34, 3) (List.mem_of_getElem? (i := 3) rfl)) rfl ?_
    refine w_iret rfl (tX11_placeOf_0_ok (39, .ireturn, 1) (List.mem_of_getElem? (i := 25) rfl)) ?_
    refine hq _ ?_
    unfold f_pl
    repeat (first | rw [if_pos (by omega)] | rw [if_neg (by omega)])
    all_goals omega
/-- what outOf answers, wherever there is room for it -/
def oF (l : Launch) (D : va_G) (tys : List (ClassId × FieldType)) (A : Nat → Prop) (X : State → Prop) (h : ch_H) (m n : Nat) (ρ : aRw) (B : Nat → Prop) (hh : Int) (p : Nat) (base : Int) (fb lb : Nat) : Prop := ∀ (fr lo : Nat) (Q : Option Value → ch_H → Prop) (pI bI : Int32), fb ≤ fr → lb ≤ lo → pI.toInt = (p : Int) → bI.toInt = base → (∀ v : Int32, 0 ≤ v.toInt ∧ v.toInt ≤ 4095 ∧ (v.toInt = 0 ↔ f_F n ρ B 6 p (hh - base)) → Q (some (.int v)) h) → ww l D tys A X fr lo mX11_outOf Q 0 [(0, .ref m), (1, .int pI), (2, .int bI)] [] h
theorem r_onL (hT : k_tys tys cA) {m ro wa : Nat} {fs : List Value} {R gw : Nat → Int32} {rp : Int32} {hh : Nat} (c_m : h m = some (.inr (10, fs))) (f19 : fs[19]? = some (.ref ro)) (f20 : fs[20]? = some (.int rp)) (f26 : fs[26]? = some (.ref wa)) (c_ro : h ro = some (.inl (cA 0, 108, .inl R))) (c_wa : h wa = some (.inl (cA 0, 12, .inl gw))) (hw : ∀ r, r < 12 → (B r → (gw r).toInt = (hh : Int)) ∧ (¬ B r → (gw r).toInt = -1)) (hn : 0 ≤ rp.toInt ∧ rp.toInt ≤ 6) (wf : wfR rp.toInt.toNat ρ) (hρ : ∀ q, q < rp.toInt.toNat → ∀ w, w < 9 → (R (9 * q + w)).toInt = ρ q w) {r d : Int32} {fb lb : Nat} (hof : ∀ q, q < rp.toInt.toNat → ρ q 8 = r.toInt → oF l D tys A X h m rp.toInt.toNat ρ B (hh : Int) q d.toInt fb lb) (hf : fb + 1 ≤ fr ∧ 1 ≤ fr) (hl : lb + 27 ≤ lo ∧ 27 ≤ lo) : ∀ (j : Nat) (p b : Int32), p.toInt + j = rp.toInt → 0 ≤ p.toInt → 0 ≤ b.toInt ∧ b.toInt ≤ 4095 → (b.toInt = 0 ↔ (∀ q, q < p.toInt.toNat → ρ q 8 = r.toInt → f_F rp.toInt.toNat ρ B 6 q ((hh : Int) - d.toInt))) → (∀ v : Int32, 0 ≤ v.toInt ∧ v.toInt ≤ 4095 ∧ (v.toInt = 0 ↔ (∀ q, q < rp.toInt.toNat → ρ q 8 = r.toInt → f_F rp.toInt.toNat ρ B 6 q ((hh : Int) - d.toInt))) → Q (some (.int v)) h) → ww l D tys A X fr lo mX11_outOn Q 5 [(4, .int p), (3, .int b), (0, .ref m), (1, .int r), (2, .int d)] [] h := by
  intro j
  induction j using Nat.strongRecOn with
  | ind j ih =>
    intro p b hj hp0 hb hi hq
    refine w_iload (List.Mem.head _) (tX11_outOn_0_ok (5, .iload 4, 2) (List.mem_of_getElem? (i := 4) rfl)) ?_
    refine w_aload_n (List.Mem.tail _ (List.Mem.tail _ (List.Mem.head _))) (tX11_outOn_0_ok (7, .aload_n 0, 1) (List.mem_of_getElem? (i := 5) rfl)) ?_
    refine w_get (own := 16) rfl rfl (by decide) c_m f20 (tX11_outOn_0_ok (8, .getfield 248, 3) (List.mem_of_getElem? (i := 6) rfl)) ?_
    refine w_icmp_ge (tgt := 46) (tX11_outOn_0_ok (11, .if_icmp .ge 35, 3) (List.mem_of_getElem? (i := 7) rfl)) rfl (fun zb1 => ?_) (fun zb1 => ?_)
    · refine w_iload_n (List.Mem.tail _ (List.Mem.head _)) (tX11_outOn_0_ok (46, .iload_n 3, 1) (List.mem_of_getElem? (i := 25) rfl)) ?_
      refine w_iret rfl (tX11_outOn_0_ok (47, .ireturn, 1) (List.mem_of_getElem? (i := 26) rfl)) ?_
      exact hq _ ⟨hb.1, hb.2, hi.trans ⟨fun z q h1 h2 => z q (by omega) h2, fun z q h1 h2 => z q (by omega) h2⟩⟩
    · refine w_iload_n (List.Mem.tail _ (List.Mem.head _)) (tX11_outOn_0_ok (14, .iload_n 3, 1) (List.mem_of_getElem? (i := 8) rfl)) ?_
      refine w_aload_n (List.Mem.tail _ (List.Mem.tail _ (List.Mem.head _))) (tX11_outOn_0_ok (15, .aload_n 0, 1) (List.mem_of_getElem? (i := 9) rfl)) ?_
      refine w_iload (List.Mem.head _) (tX11_outOn_0_ok (16, .iload 4, 2) (List.mem_of_getElem? (i := 10) rfl)) ?_
      refine w_bipush (by decide) (tX11_outOn_0_ok (18, .bipush 8, 2) (List.mem_of_getElem? (i := 11) rfl)) (fun zv2 ze3 => ?_)
      refine w_callV (own := 16) (mi := 219) [.int p, .int zv2] [.int b] [(0, .ref m), (1, .int p), (2, .int zv2)] rfl (cllw_X11 (255, 0, 219) (List.mem_of_getElem? (i := 34) rfl)) rfl rfl c_m rfl (by omega) (w_lo (n := 22) rfl (by omega)) (Nat.le_of_ble_eq_true rfl) (Nat.le_of_ble_eq_true rfl) rfl (tX11_outOn_0_ok (20, .invokevirtual 255, 3) (List.mem_of_getElem? (i := 12) rfl)) (h_of2 hT (by omega) (by omega) c_m f19 c_ro (fun zv4 ze5 => ?_))
      have ze5r : zv4.toInt = ρ p.toInt.toNat 8 := by rw [ze5, show 9 * p.toInt.toNat + zv2.toInt.toNat = 9 * p.toInt.toNat + 8 by omega]; exact hρ _ (by omega) 8 (by decide)
      show ww l D tys A X fr lo mX11_outOn Q 23 [(4, .int p), (3, .int b), (0, .ref m), (1, .int r), (2, .int d)] [.int zv4, .int b] h
      refine w_iload_n (List.Mem.tail _ (List.Mem.tail _ (List.Mem.tail _ (List.Mem.head _)))) (tX11_outOn_0_ok (23, .iload_n 1, 1) (List.mem_of_getElem? (i := 13) rfl)) ?_
      refine w_icmp_ne (tgt := 37) (tX11_outOn_0_ok (24, .if_icmp .ne 13, 3) (List.mem_of_getElem? (i := 14) rfl)) rfl (fun zb6 => ?_) (fun zb6 => ?_)
      · refine w_iconst (by decide) (tX11_outOn_0_ok (37, .iconst 0, 1) (List.mem_of_getElem? (i := 20) rfl)) (fun zv7 ze8 => ?_)
        refine w_ior (tX11_outOn_0_ok (38, .ior, 1) (List.mem_of_getElem? (i := 21) rfl)) (fun zv9 ze10 => ?_)
        have or9 := or_z (x := b) (y := zv7) (by omega) (by omega) ze10
        obtain ⟨or1, or2⟩ := or9
        refine w_istore_n [(3, .int zv9), (4, .int p), (0, .ref m), (1, .int r), (2, .int d)] rfl (Nat.le_of_ble_eq_true rfl) (tX11_outOn_0_ok (39, .istore_n 3, 1) (List.mem_of_getElem? (i := 22) rfl)) ?_
        refine w_iinc (fun zv11 => [(4, .int zv11), (3, .int zv9), (0, .ref m), (1, .int r), (2, .int d)]) (fun _ => rfl) (List.Mem.tail _ (List.Mem.head _)) (Nat.le_of_ble_eq_true rfl) (by decide) (by omega) (by omega) (tX11_outOn_0_ok (40, .iinc 4 1, 3) (List.mem_of_getElem? (i := 23) rfl)) (fun zv11 ze12 => ?_)
        refine w_goto (tgt := 5) (tX11_outOn_0_ok (43, .goto (-38), 3) (List.mem_of_getElem? (i := 24) rfl)) rfl ?_
        refine w_lv [(4, .int zv11), (3, .int zv9), (0, .ref m), (1, .int r), (2, .int d)] (by intro q hq; simp only [List.mem_cons, List.not_mem_nil, or_false] at hq ⊢; rcases hq with e | e | e | e | e <;> subst e <;> simp) ?_
        refine ih (j - 1) (by omega) _ _ (by omega) (by omega) or1 (or2.trans ⟨fun z q h1 h2 => ?_, fun z => ⟨hi.mpr (fun q h1 h2 => z q (by omega) h2), ?_⟩⟩) hq
        · by_cases c9 : q = p.toInt.toNat
          · subst c9
            exact absurd h2 (by omega)
          · exact hi.mp z.1 q (by omega) h2
        · omega
      · refine w_aload_n (List.Mem.tail _ (List.Mem.tail _ (List.Mem.head _))) (tX11_outOn_0_ok (27, .aload_n 0, 1) (List.mem_of_getElem? (i := 15) rfl)) ?_
        refine w_iload (List.Mem.head _) (tX11_outOn_0_ok (28, .iload 4, 2) (List.mem_of_getElem? (i := 16) rfl)) ?_
        refine w_iload_n (List.Mem.tail _ (List.Mem.tail _ (List.Mem.tail _ (List.Mem.tail _ (List.Mem.head _))))) (tX11_outOn_0_ok (30, .iload_n 2, 1) (List.mem_of_getElem? (i := 17) rfl)) ?_
        refine w_callV (own := 16) (mi := 224) [.int p, .int d] [.int b] [(0, .ref m), (1, .int p), (2, .int d)] rfl (cllw_X11 (358, 0, 224) (List.mem_of_getElem? (i := 59) rfl)) rfl rfl c_m rfl (by omega) (w_lo (n := 27) rfl (by omega)) (Nat.le_of_ble_eq_true rfl) (Nat.le_of_ble_eq_true rfl) rfl (tX11_outOn_0_ok (31, .invokevirtual 358, 3) (List.mem_of_getElem? (i := 18) rfl)) (hof p.toInt.toNat (by omega) (by omega) _ _ _ _ _ (by omega) (w_sub (n := 27) rfl (by omega)) (by omega) rfl (fun zv13 ze14 => ?_))
        obtain ⟨ze14a, ze14b, ze14c⟩ := ze14
        show ww l D tys A X fr lo mX11_outOn Q 34 [(4, .int p), (3, .int b), (0, .ref m), (1, .int r), (2, .int d)] [.int zv13, .int b] h
        refine w_goto (tgt := 38) (tX11_outOn_0_ok (34, .goto 4, 3) (List.mem_of_getElem? (i := 19) rfl)) rfl ?_
        refine w_ior (tX11_outOn_0_ok (38, .ior, 1) (List.mem_of_getElem? (i := 21) rfl)) (fun zv15 ze16 => ?_)
        have or9 := or_z (x := b) (y := zv13) (by omega) (by omega) ze16
        obtain ⟨or1, or2⟩ := or9
        refine w_istore_n [(3, .int zv15), (4, .int p), (0, .ref m), (1, .int r), (2, .int d)] rfl (Nat.le_of_ble_eq_true rfl) (tX11_outOn_0_ok (39, .istore_n 3, 1) (List.mem_of_getElem? (i := 22) rfl)) ?_
        refine w_iinc (fun zv17 => [(4, .int zv17), (3, .int zv15), (0, .ref m), (1, .int r), (2, .int d)]) (fun _ => rfl) (List.Mem.tail _ (List.Mem.head _)) (Nat.le_of_ble_eq_true rfl) (by decide) (by omega) (by omega) (tX11_outOn_0_ok (40, .iinc 4 1, 3) (List.mem_of_getElem? (i := 23) rfl)) (fun zv17 ze18 => ?_)
        refine w_goto (tgt := 5) (tX11_outOn_0_ok (43, .goto (-38), 3) (List.mem_of_getElem? (i := 24) rfl)) rfl ?_
        refine w_lv [(4, .int zv17), (3, .int zv15), (0, .ref m), (1, .int r), (2, .int d)] (by intro q hq; simp only [List.mem_cons, List.not_mem_nil, or_false] at hq ⊢; rcases hq with e | e | e | e | e <;> subst e <;> simp) ?_
        refine ih (j - 1) (by omega) _ _ (by omega) (by omega) or1 (or2.trans ⟨fun z q h1 h2 => ?_, fun z => ⟨hi.mpr (fun q h1 h2 => z q (by omega) h2), ?_⟩⟩) hq
        · by_cases c9 : q = p.toInt.toNat
          · subst c9
            exact ze14c.mp z.2
          · exact hi.mp z.1 q (by omega) h2
        · exact ze14c.mpr (z _ (by omega) (by omega))
theorem r_outOn (hT : k_tys tys cA) {m ro wa : Nat} {fs : List Value} {R gw : Nat → Int32} {rp : Int32} {hh : Nat} (c_m : h m = some (.inr (10, fs))) (f19 : fs[19]? = some (.ref ro)) (f20 : fs[20]? = some (.int rp)) (f26 : fs[26]? = some (.ref wa)) (c_ro : h ro = some (.inl (cA 0, 108, .inl R))) (c_wa : h wa = some (.inl (cA 0, 12, .inl gw))) (hw : ∀ r, r < 12 → (B r → (gw r).toInt = (hh : Int)) ∧ (¬ B r → (gw r).toInt = -1)) (hn : 0 ≤ rp.toInt ∧ rp.toInt ≤ 6) (wf : wfR rp.toInt.toNat ρ) (hρ : ∀ q, q < rp.toInt.toNat → ∀ w, w < 9 → (R (9 * q + w)).toInt = ρ q w) {r d : Int32} {fb lb : Nat} (hof : ∀ q, q < rp.toInt.toNat → ρ q 8 = r.toInt → oF l D tys A X h m rp.toInt.toNat ρ B (hh : Int) q d.toInt fb lb) (hf : fb + 1 ≤ fr ∧ 1 ≤ fr) (hl : lb + 27 ≤ lo ∧ 27 ≤ lo) (hq : ∀ v : Int32, 0 ≤ v.toInt ∧ v.toInt ≤ 4095 ∧ (v.toInt = 0 ↔ (∀ q, q < rp.toInt.toNat → ρ q 8 = r.toInt → f_F rp.toInt.toNat ρ B 6 q ((hh : Int) - d.toInt))) → Q (some (.int v)) h) : ww l D tys A X fr lo mX11_outOn Q 0 [(0, .ref m), (1, .int r), (2, .int d)] [] h := by
  refine w_iconst (by decide) (tX11_outOn_0_ok (0, .iconst 0, 1) (List.mem_of_getElem? (i := 0) rfl)) (fun zv1 ze2 => ?_)
  refine w_istore_n [(3, .int zv1), (0, .ref m), (1, .int r), (2, .int d)] rfl (Nat.le_of_ble_eq_true rfl) (tX11_outOn_0_ok (1, .istore_n 3, 1) (List.mem_of_getElem? (i := 1) rfl)) ?_
  refine w_iconst (by decide) (tX11_outOn_0_ok (2, .iconst 0, 1) (List.mem_of_getElem? (i := 2) rfl)) (fun zv3 ze4 => ?_)
  refine w_istore [(4, .int zv3), (3, .int zv1), (0, .ref m), (1, .int r), (2, .int d)] rfl (Nat.le_of_ble_eq_true rfl) (tX11_outOn_0_ok (3, .istore 4, 2) (List.mem_of_getElem? (i := 3) rfl)) ?_
  refine w_lv [(4, .int zv3), (3, .int zv1), (0, .ref m), (1, .int r), (2, .int d)] (by intro q hq; simp only [List.mem_cons, List.not_mem_nil, or_false] at hq ⊢; rcases hq with e | e | e | e | e <;> subst e <;> simp) ?_
  exact r_onL hT c_m f19 f20 f26 c_ro c_wa hw hn wf hρ hof hf hl (rp.toInt - zv3.toInt).toNat _ _ (by omega) (by omega) (by omega) ⟨fun _ q h1 _ => absurd h1 (by omega), fun _ => by omega⟩ hq
theorem r_ofS (hT : k_tys tys cA) {m ro wa : Nat} {fs : List Value} {R gw : Nat → Int32} {rp : Int32} {hh : Nat} (c_m : h m = some (.inr (10, fs))) (f19 : fs[19]? = some (.ref ro)) (f20 : fs[20]? = some (.int rp)) (f26 : fs[26]? = some (.ref wa)) (c_ro : h ro = some (.inl (cA 0, 108, .inl R))) (c_wa : h wa = some (.inl (cA 0, 12, .inl gw))) (hw : ∀ r, r < 12 → (B r → (gw r).toInt = (hh : Int)) ∧ (¬ B r → (gw r).toInt = -1)) (hn : 0 ≤ rp.toInt ∧ rp.toInt ≤ 6) (wf : wfR rp.toInt.toNat ρ) (hρ : ∀ q, q < rp.toInt.toNat → ∀ w, w < 9 → (R (9 * q + w)).toInt = ρ q w) {p ba x be : Int32} {fb lb : Nat} (hof : ∀ q, 0 ≤ rp.toInt → q < rp.toInt.toNat → ∀ s : Nat, s < 2 → ρ q 8 = ((2 * p.toInt.toNat + s : Nat) : Int) → ∀ d : Int, ba.toInt ≤ d ∧ d ≤ ba.toInt + 20 → oF l D tys A X h m rp.toInt.toNat ρ B (hh : Int) q d fb lb) (hf : fb + 2 ≤ fr) (hl : lb + 60 ≤ lo) (hp : 0 ≤ p.toInt ∧ p.toInt < rp.toInt) (hba : 0 ≤ ba.toInt ∧ ba.toInt ≤ 120) (hx9 : f_x ρ p.toInt.toNat x.toInt) : ∀ (j : Nat) (s b : Int32), s.toInt + j = 2 → 0 ≤ s.toInt → 0 ≤ b.toInt ∧ b.toInt ≤ 4095 → (b.toInt = 0 ↔ ∀ s9, s9 < s.toInt.toNat → ((B (2 * p.toInt.toNat + s9) → (hh : Int) - ba.toInt = f_pl ρ p.toInt.toNat s9 x.toInt) ∧ ∀ q, q < rp.toInt.toNat → ρ q 8 = ((2 * p.toInt.toNat + s9 : Nat) : Int) → f_F rp.toInt.toNat ρ B 6 q ((hh : Int) - ba.toInt - f_pl ρ p.toInt.toNat s9 x.toInt))) → (∀ s1 b1 : Int32, 0 ≤ b1.toInt ∧ b1.toInt ≤ 4095 → (b1.toInt = 0 ↔ ∀ s9, s9 < 2 → ((B (2 * p.toInt.toNat + s9) → (hh : Int) - ba.toInt = f_pl ρ p.toInt.toNat s9 x.toInt) ∧ ∀ q, q < rp.toInt.toNat → ρ q 8 = ((2 * p.toInt.toNat + s9 : Nat) : Int) → f_F rp.toInt.toNat ρ B 6 q ((hh : Int) - ba.toInt - f_pl ρ p.toInt.toNat s9 x.toInt))) → ww l D tys A X fr lo mX11_outOf Q 77 [(6, .int s1), (5, .int b1), (4, .int x), (3, .int be), (0, .ref m), (1, .int p), (2, .int ba)] [] h) → ww l D tys A X fr lo mX11_outOf Q 22 [(6, .int s), (5, .int b), (4, .int x), (3, .int be), (0, .ref m), (1, .int p), (2, .int ba)] [] h := by
  intro j
  induction j using Nat.strongRecOn with
  | ind j ih =>
    intro s b hj hs0 hb hi hq
    have hx8 := f_x0 hx9
    refine w_iload (List.Mem.head _) (tX11_outOf_0_ok (22, .iload 6, 2) (List.mem_of_getElem? (i := 14) rfl)) ?_
    refine w_iconst (by decide) (tX11_outOf_0_ok (24, .iconst 2, 1) (List.mem_of_getElem? (i := 15) rfl)) (fun zv1 ze2 => ?_)
    refine w_icmp_ge (tgt := 77) (tX11_outOf_0_ok (25, .if_icmp .ge 52, 3) (List.mem_of_getElem? (i := 16) rfl)) rfl (fun zb3 => ?_) (fun zb3 => ?_)
    · exact hq s b hb (hi.trans ⟨fun z s9 h1 => z s9 (by omega), fun z s9 h1 => z s9 (by omega)⟩)
    · refine w_iload_n (List.Mem.tail _ (List.Mem.tail _ (List.Mem.tail _ (List.Mem.tail _ (List.Mem.tail _ (List.Mem.tail _ (List.Mem.head _))))))) (tX11_outOf_0_ok (28, .iload_n 2, 1) (List.mem_of_getElem? (i := 17) rfl)) ?_
      refine w_aload_n (List.Mem.tail _ (List.Mem.tail _ (List.Mem.tail _ (List.Mem.tail _ (List.Mem.head _))))) (tX11_outOf_0_ok (29, .aload_n 0, 1) (List.mem_of_getElem? (i := 18) rfl)) ?_
      refine w_iload_n (List.Mem.tail _ (List.Mem.tail _ (List.Mem.tail _ (List.Mem.tail _ (List.Mem.tail _ (List.Mem.head _)))))) (tX11_outOf_0_ok (30, .iload_n 1, 1) (List.mem_of_getElem? (i := 19) rfl)) ?_
      refine w_iload (List.Mem.head _) (tX11_outOf_0_ok (31, .iload 6, 2) (List.mem_of_getElem? (i := 20) rfl)) ?_
      refine w_iload (List.Mem.tail _ (List.Mem.tail _ (List.Mem.head _))) (tX11_outOf_0_ok (33, .iload 4, 2) (List.mem_of_getElem? (i := 21) rfl)) ?_
      refine w_callV (own := 16) (mi := 229) [.int p, .int s, .int x] [.int ba] [(0, .ref m), (1, .int p), (2, .int s), (3, .int x)] rfl (cllw_X11 (277, 0, 229) (List.mem_of_getElem? (i := 40) rfl)) rfl rfl c_m rfl (by omega) (w_lo (n := 23) rfl (by omega)) (Nat.le_of_ble_eq_true rfl) (Nat.le_of_ble_eq_true rfl) rfl (tX11_outOf_0_ok (35, .invokevirtual 277, 3) (List.mem_of_getElem? (i := 22) rfl)) (r_placeOf hT c_m f19 f20 f26 c_ro c_wa hw hn wf hρ (by omega) (w_sub (n := 23) rfl (by omega)) (by omega) (by omega) (by omega) (fun zv4 ze5 => ?_))
      have plb := f_pl_b wf (s := s.toInt.toNat) (p := p.toInt.toNat) (by omega) hx9
      show ww l D tys A X fr lo mX11_outOf Q 38 [(6, .int s), (5, .int b), (4, .int x), (3, .int be), (0, .ref m), (1, .int p), (2, .int ba)] [.int zv4, .int ba] h
      refine w_iadd (by omega) (by omega) (tX11_outOf_0_ok (38, .iadd, 1) (List.mem_of_getElem? (i := 23) rfl)) (fun zv6 ze7 => ?_)
      refine w_istore [(7, .int zv6), (6, .int s), (5, .int b), (4, .int x), (3, .int be), (0, .ref m), (1, .int p), (2, .int ba)] rfl (Nat.le_of_ble_eq_true rfl) (tX11_outOf_0_ok (39, .istore 7, 2) (List.mem_of_getElem? (i := 24) rfl)) ?_
      refine w_iload (List.Mem.tail _ (List.Mem.tail _ (List.Mem.head _))) (tX11_outOf_0_ok (41, .iload 5, 2) (List.mem_of_getElem? (i := 25) rfl)) ?_
      refine w_aload_n (List.Mem.tail _ (List.Mem.tail _ (List.Mem.tail _ (List.Mem.tail _ (List.Mem.tail _ (List.Mem.head _)))))) (tX11_outOf_0_ok (43, .aload_n 0, 1) (List.mem_of_getElem? (i := 26) rfl)) ?_
      refine w_iconst (by decide) (tX11_outOf_0_ok (44, .iconst 2, 1) (List.mem_of_getElem? (i := 27) rfl)) (fun zv8 ze9 => ?_)
      refine w_iload_n (List.Mem.tail _ (List.Mem.tail _ (List.Mem.tail _ (List.Mem.tail _ (List.Mem.tail _ (List.Mem.tail _ (List.Mem.head _))))))) (tX11_outOf_0_ok (45, .iload_n 1, 1) (List.mem_of_getElem? (i := 28) rfl)) ?_
      refine w_imul (by assumption) (by omega) (by omega) (tX11_outOf_0_ok (46, .imul, 1) (List.mem_of_getElem? (i := 29) rfl)) (fun zv10 ze11 => ?_)
      refine w_iload (List.Mem.tail _ (List.Mem.head _)) (tX11_outOf_0_ok (47, .iload 6, 2) (List.mem_of_getElem? (i := 30) rfl)) ?_
      refine w_iadd (by omega) (by omega) (tX11_outOf_0_ok (49, .iadd, 1) (List.mem_of_getElem? (i := 31) rfl)) (fun zv12 ze13 => ?_)
      refine w_iload (List.Mem.head _) (tX11_outOf_0_ok (50, .iload 7, 2) (List.mem_of_getElem? (i := 32) rfl)) ?_
      refine w_callV (own := 16) (mi := 220) [.int zv12, .int zv6] [.int b] [(0, .ref m), (1, .int zv12), (2, .int zv6)] rfl (cllw_X11 (361, 0, 220) (List.mem_of_getElem? (i := 60) rfl)) rfl rfl c_m rfl (by omega) (w_lo (n := 22) rfl (by omega)) (Nat.le_of_ble_eq_true rfl) (Nat.le_of_ble_eq_true rfl) rfl (tX11_outOf_0_ok (52, .invokevirtual 361, 3) (List.mem_of_getElem? (i := 33) rfl)) (r_offAt hT c_m f19 f20 f26 c_ro c_wa hw hn wf hρ (by omega) (fun zv14 ze15 => ?_))
      obtain ⟨ze15a, ze15b, ze15c⟩ := ze15
      show ww l D tys A X fr lo mX11_outOf Q 55 [(7, .int zv6), (6, .int s), (5, .int b), (4, .int x), (3, .int be), (0, .ref m), (1, .int p), (2, .int ba)] [.int zv14, .int b] h
      refine w_aload_n (List.Mem.tail _ (List.Mem.tail _ (List.Mem.tail _ (List.Mem.tail _ (List.Mem.tail _ (List.Mem.head _)))))) (tX11_outOf_0_ok (55, .aload_n 0, 1) (List.mem_of_getElem? (i := 34) rfl)) ?_
      refine w_iconst (by decide) (tX11_outOf_0_ok (56, .iconst 2, 1) (List.mem_of_getElem? (i := 35) rfl)) (fun zv16 ze17 => ?_)
      refine w_iload_n (List.Mem.tail _ (List.Mem.tail _ (List.Mem.tail _ (List.Mem.tail _ (List.Mem.tail _ (List.Mem.tail _ (List.Mem.head _))))))) (tX11_outOf_0_ok (57, .iload_n 1, 1) (List.mem_of_getElem? (i := 36) rfl)) ?_
      refine w_imul (by assumption) (by omega) (by omega) (tX11_outOf_0_ok (58, .imul, 1) (List.mem_of_getElem? (i := 37) rfl)) (fun zv18 ze19 => ?_)
      refine w_iload (List.Mem.tail _ (List.Mem.head _)) (tX11_outOf_0_ok (59, .iload 6, 2) (List.mem_of_getElem? (i := 38) rfl)) ?_
      refine w_iadd (by omega) (by omega) (tX11_outOf_0_ok (61, .iadd, 1) (List.mem_of_getElem? (i := 39) rfl)) (fun zv20 ze21 => ?_)
      refine w_iload (List.Mem.head _) (tX11_outOf_0_ok (62, .iload 7, 2) (List.mem_of_getElem? (i := 40) rfl)) ?_
      refine w_callV (own := 16) (mi := 225) [.int zv20, .int zv6] [.int zv14, .int b] [(0, .ref m), (1, .int zv20), (2, .int zv6)] rfl (cllw_X11 (364, 0, 225) (List.mem_of_getElem? (i := 58) rfl)) rfl rfl c_m rfl (by omega) (w_lo (n := 24) rfl (by omega)) (Nat.le_of_ble_eq_true rfl) (Nat.le_of_ble_eq_true rfl) rfl (tX11_outOf_0_ok (64, .invokevirtual 364, 3) (List.mem_of_getElem? (i := 41) rfl)) (r_outOn hT c_m f19 f20 f26 c_ro c_wa hw hn wf hρ (fb := fb) (lb := lb) (fun q h1 h2 => hof q (by omega) h1 s.toInt.toNat (by omega) (by omega) zv6.toInt (by omega)) (by omega) ⟨w_sub (n := 24) rfl (by omega), w_sub (n := 24) rfl (by omega)⟩ (fun zv22 ze23 => ?_))
      obtain ⟨ze23a, ze23b, ze23c⟩ := ze23
      show ww l D tys A X fr lo mX11_outOf Q 67 [(7, .int zv6), (6, .int s), (5, .int b), (4, .int x), (3, .int be), (0, .ref m), (1, .int p), (2, .int ba)] [.int zv22, .int zv14, .int b] h
      refine w_ior (tX11_outOf_0_ok (67, .ior, 1) (List.mem_of_getElem? (i := 42) rfl)) (fun zv24 ze25 => ?_)
      have or68 := or_z (x := zv14) (y := zv22) (by omega) (by omega) ze25
      obtain ⟨or68x, or68y⟩ := or68
      refine w_ior (tX11_outOf_0_ok (68, .ior, 1) (List.mem_of_getElem? (i := 43) rfl)) (fun zv26 ze27 => ?_)
      have or69 := or_z (x := b) (y := zv24) (by omega) (by omega) ze27
      obtain ⟨or69x, or69y⟩ := or69
      refine w_istore [(5, .int zv26), (7, .int zv6), (6, .int s), (4, .int x), (3, .int be), (0, .ref m), (1, .int p), (2, .int ba)] rfl (Nat.le_of_ble_eq_true rfl) (tX11_outOf_0_ok (69, .istore 5, 2) (List.mem_of_getElem? (i := 44) rfl)) ?_
      refine w_iinc (fun zv28 => [(6, .int zv28), (5, .int zv26), (7, .int zv6), (4, .int x), (3, .int be), (0, .ref m), (1, .int p), (2, .int ba)]) (fun _ => rfl) (List.Mem.tail _ (List.Mem.tail _ (List.Mem.head _))) (Nat.le_of_ble_eq_true rfl) (by decide) (by omega) (by omega) (tX11_outOf_0_ok (71, .iinc 6 1, 3) (List.mem_of_getElem? (i := 45) rfl)) (fun zv28 ze29 => ?_)
      refine w_goto (tgt := 22) (tX11_outOf_0_ok (74, .goto (-52), 3) (List.mem_of_getElem? (i := 46) rfl)) rfl ?_
      refine w_lv [(6, .int zv28), (5, .int zv26), (4, .int x), (3, .int be), (0, .ref m), (1, .int p), (2, .int ba)] (by intro q hq; simp only [List.mem_cons, List.not_mem_nil, or_false] at hq ⊢; rcases hq with e | e | e | e | e | e | e <;> subst e <;> simp) ?_
      have rs9 : zv12.toInt.toNat = 2 * p.toInt.toNat + s.toInt.toNat := by omega
      have rt9 : zv20.toInt = ((2 * p.toInt.toNat + s.toInt.toNat : Nat) : Int) := by omega
      have dd9 : (hh : Int) - zv6.toInt = (hh : Int) - ba.toInt - f_pl ρ p.toInt.toNat s.toInt.toNat x.toInt := by omega
      rw [rs9] at ze15c
      rw [rt9, dd9] at ze23c
      refine ih (j - 1) (by omega) _ _ (by omega) (by omega) or69x (or69y.trans ⟨fun z s9 h1 => ?_, fun z => ⟨hi.mpr (fun s9 h1 => z s9 (by omega)), or68y.mpr ⟨ze15c.mpr (fun hb => ?_), ze23c.mpr (z s.toInt.toNat (by omega)).2⟩⟩⟩) hq
      · by_cases c9 : s9 = s.toInt.toNat
        · subst c9
          have z2 := or68y.mp z.2
          exact ⟨fun hb => by have := ze15c.mp z2.1 hb; omega, ze23c.mp z2.2⟩
        · exact hi.mp z.1 s9 (by omega)
      · have := (z s.toInt.toNat (by omega)).1 hb
        omega
/-- the best so far -/
def o_be (n : Nat) (ρ : aRw) (B : Nat → Prop) (hh : Int) (p : Nat) (ba x be : Int) : Prop := be = -1 ∧ (∀ y, f_x ρ p y → x ≤ y) ∨ (0 ≤ be ∧ be ≤ 4095) ∧ (be = 0 ↔ ∃ y, f_x ρ p y ∧ y < x ∧ ∀ s9, s9 < 2 → ((B (2 * p + s9) → hh - ba = f_pl ρ p s9 y) ∧ ∀ q, q < n → ρ q 8 = ((2 * p + s9 : Nat) : Int) → f_F n ρ B 6 q (hh - ba - f_pl ρ p s9 y)))
theorem r_ofX (hT : k_tys tys cA) {m ro wa : Nat} {fs : List Value} {R gw : Nat → Int32} {rp : Int32} {hh : Nat} (c_m : h m = some (.inr (10, fs))) (f19 : fs[19]? = some (.ref ro)) (f20 : fs[20]? = some (.int rp)) (f26 : fs[26]? = some (.ref wa)) (c_ro : h ro = some (.inl (cA 0, 108, .inl R))) (c_wa : h wa = some (.inl (cA 0, 12, .inl gw))) (hw : ∀ r, r < 12 → (B r → (gw r).toInt = (hh : Int)) ∧ (¬ B r → (gw r).toInt = -1)) (hn : 0 ≤ rp.toInt ∧ rp.toInt ≤ 6) (wf : wfR rp.toInt.toNat ρ) (hρ : ∀ q, q < rp.toInt.toNat → ∀ w, w < 9 → (R (9 * q + w)).toInt = ρ q w) {p ba : Int32} {fb lb : Nat} (hof : ∀ q, 0 ≤ rp.toInt → q < rp.toInt.toNat → ∀ s : Nat, s < 2 → ρ q 8 = ((2 * p.toInt.toNat + s : Nat) : Int) → ∀ d : Int, ba.toInt ≤ d ∧ d ≤ ba.toInt + 20 → oF l D tys A X h m rp.toInt.toNat ρ B (hh : Int) q d fb lb) (hf : fb + 2 ≤ fr) (hl : lb + 60 ≤ lo) (hp : 0 ≤ p.toInt ∧ p.toInt < rp.toInt) (hba : 0 ≤ ba.toInt ∧ ba.toInt ≤ 120) (hq : ∀ v : Int32, 0 ≤ v.toInt ∧ v.toInt ≤ 4095 ∧ (v.toInt = 0 ↔ f_F rp.toInt.toNat ρ B 6 p.toInt.toNat ((hh : Int) - ba.toInt)) → Q (some (.int v)) h) : ∀ (j : Nat) (x be : Int32), (ρ p.toInt.toNat 1 + 1 - x.toInt).toNat = j → (∃ i : Nat, x.toInt = f_st ρ p.toInt.toNat * i) → 0 ≤ x.toInt ∧ x.toInt ≤ 24 → o_be rp.toInt.toNat ρ B (hh : Int) p.toInt.toNat ba.toInt x.toInt be.toInt → ww l D tys A X fr lo mX11_outOf Q 5 [(4, .int x), (3, .int be), (0, .ref m), (1, .int p), (2, .int ba)] [] h := by
  intro j
  induction j using Nat.strongRecOn with
  | ind j ih =>
    intro x be hj hi hx1 hbe
    have hl9 := (wf.2 p.toInt.toNat (by omega)).1.2.1
    have hs9 := f_st_b ρ p.toInt.toNat
    refine w_iload (List.Mem.head _) (tX11_outOf_0_ok (5, .iload 4, 2) (List.mem_of_getElem? (i := 4) rfl)) ?_
    refine w_aload_n (List.Mem.tail _ (List.Mem.tail _ (List.Mem.head _))) (tX11_outOf_0_ok (7, .aload_n 0, 1) (List.mem_of_getElem? (i := 5) rfl)) ?_
    refine w_iload_n (List.Mem.tail _ (List.Mem.tail _ (List.Mem.tail _ (List.Mem.head _)))) (tX11_outOf_0_ok (8, .iload_n 1, 1) (List.mem_of_getElem? (i := 6) rfl)) ?_
    refine w_iconst (by decide) (tX11_outOf_0_ok (9, .iconst 1, 1) (List.mem_of_getElem? (i := 7) rfl)) (fun zv1 ze2 => ?_)
    refine w_callV (own := 16) (mi := 219) [.int p, .int zv1] [.int x] [(0, .ref m), (1, .int p), (2, .int zv1)] rfl (cllw_X11 (255, 0, 219) (List.mem_of_getElem? (i := 34) rfl)) rfl rfl c_m rfl (by omega) (w_lo (n := 22) rfl (by omega)) (Nat.le_of_ble_eq_true rfl) (Nat.le_of_ble_eq_true rfl) rfl (tX11_outOf_0_ok (10, .invokevirtual 255, 3) (List.mem_of_getElem? (i := 8) rfl)) (h_of2 hT (by omega) (by omega) c_m f19 c_ro (fun zv3 ze4 => ?_))
    have ze4r : zv3.toInt = ρ p.toInt.toNat 1 := by rw [ze4, show 9 * p.toInt.toNat + zv1.toInt.toNat = 9 * p.toInt.toNat + 1 by omega]; exact hρ _ (by omega) 1 (by decide)
    show ww l D tys A X fr lo mX11_outOf Q 13 [(4, .int x), (3, .int be), (0, .ref m), (1, .int p), (2, .int ba)] [.int zv3, .int x] h
    refine w_icmp_gt (tgt := 117) (tX11_outOf_0_ok (13, .if_icmp .gt 104, 3) (List.mem_of_getElem? (i := 9) rfl)) rfl (fun zb5 => ?_) (fun zb5 => ?_)
    · refine w_iload_n (List.Mem.tail _ (List.Mem.head _)) (tX11_outOf_1_ok (117, .iload_n 3, 1) (List.mem_of_getElem? (i := 9) rfl)) ?_
      refine w_iret rfl (tX11_outOf_1_ok (118, .ireturn, 1) (List.mem_of_getElem? (i := 10) rfl)) ?_
      rcases hbe with ⟨z1, z2⟩ | ⟨z1, z2⟩
      · exact absurd (z2 0 ⟨0, by simp, by omega⟩) (by omega)
      · refine hq _ ⟨z1.1, z1.2, z2.trans ?_⟩
        rw [f_G wf (by omega)]
        constructor
        · rintro ⟨y, hy, -, z⟩
          exact ⟨y, hy, z⟩
        · rintro ⟨y, hy, z⟩
          exact ⟨y, hy, by have := f_x0 hy; omega, z⟩
    · have hx9 : f_x ρ p.toInt.toNat x.toInt := hi.elim (fun i e => ⟨i, e, by omega⟩)
      have hx8 := f_x0 hx9
      refine w_iconst (by decide) (tX11_outOf_0_ok (16, .iconst 0, 1) (List.mem_of_getElem? (i := 10) rfl)) (fun zv6 ze7 => ?_)
      refine w_istore [(5, .int zv6), (4, .int x), (3, .int be), (0, .ref m), (1, .int p), (2, .int ba)] rfl (Nat.le_of_ble_eq_true rfl) (tX11_outOf_0_ok (17, .istore 5, 2) (List.mem_of_getElem? (i := 11) rfl)) ?_
      refine w_iconst (by decide) (tX11_outOf_0_ok (19, .iconst 0, 1) (List.mem_of_getElem? (i := 12) rfl)) (fun zv8 ze9 => ?_)
      refine w_istore [(6, .int zv8), (5, .int zv6), (4, .int x), (3, .int be), (0, .ref m), (1, .int p), (2, .int ba)] rfl (Nat.le_of_ble_eq_true rfl) (tX11_outOf_0_ok (20, .istore 6, 2) (List.mem_of_getElem? (i := 13) rfl)) ?_
      refine w_lv [(6, .int zv8), (5, .int zv6), (4, .int x), (3, .int be), (0, .ref m), (1, .int p), (2, .int ba)] (by intro q hq; simp only [List.mem_cons, List.not_mem_nil, or_false] at hq ⊢; rcases hq with e | e | e | e | e | e | e <;> subst e <;> simp) ?_
      refine r_ofS hT c_m f19 f20 f26 c_ro c_wa hw hn wf hρ hof hf hl hp hba hx9 2 _ _ (by omega) (by omega) (by omega) ⟨fun _ s9 h1 => absurd h1 (by omega), fun _ => by omega⟩ (fun zs10 zb11 zq12 zq13 => ?_)
      show ww l D tys A X fr lo mX11_outOf Q 77 [(6, .int zs10), (5, .int zb11), (4, .int x), (3, .int be), (0, .ref m), (1, .int p), (2, .int ba)] [] h
      refine w_iload_n (List.Mem.tail _ (List.Mem.tail _ (List.Mem.tail _ (List.Mem.head _)))) (tX11_outOf_0_ok (77, .iload_n 3, 1) (List.mem_of_getElem? (i := 47) rfl)) ?_
      refine w_iconst (by decide) (tX11_outOf_0_ok (78, .iconst (-1), 1) (List.mem_of_getElem? (i := 48) rfl)) (fun zv14 ze15 => ?_)
      refine w_icmp_eq (tgt := 91) (tX11_outOf_0_ok (79, .if_icmp .eq 12, 3) (List.mem_of_getElem? (i := 49) rfl)) rfl (fun zb16 => ?_) (fun zb16 => ?_)
      · refine w_iload (List.Mem.tail _ (List.Mem.head _)) (tX11_outOf_0_ok (91, .iload 5, 2) (List.mem_of_getElem? (i := 54) rfl)) ?_
        refine w_istore_n [(3, .int zb11), (6, .int zs10), (5, .int zb11), (4, .int x), (0, .ref m), (1, .int p), (2, .int ba)] rfl (Nat.le_of_ble_eq_true rfl) (tX11_outOf_0_ok (93, .istore_n 3, 1) (List.mem_of_getElem? (i := 55) rfl)) ?_
        refine w_iload (List.Mem.tail _ (List.Mem.tail _ (List.Mem.tail _ (List.Mem.head _)))) (tX11_outOf_0_ok (94, .iload 4, 2) (List.mem_of_getElem? (i := 56) rfl)) ?_
        refine w_aload_n (List.Mem.tail _ (List.Mem.tail _ (List.Mem.tail _ (List.Mem.tail _ (List.Mem.head _))))) (tX11_outOf_0_ok (96, .aload_n 0, 1) (List.mem_of_getElem? (i := 57) rfl)) ?_
        refine w_iload_n (List.Mem.tail _ (List.Mem.tail _ (List.Mem.tail _ (List.Mem.tail _ (List.Mem.tail _ (List.Mem.head _)))))) (tX11_outOf_0_ok (97, .iload_n 1, 1) (List.mem_of_getElem? (i := 58) rfl)) ?_
        refine w_iconst (by decide) (tX11_outOf_0_ok (98, .iconst 0, 1) (List.mem_of_getElem? (i := 59) rfl)) (fun zv17 ze18 => ?_)
        refine w_callV (own := 16) (mi := 219) [.int p, .int zv17] [.int x] [(0, .ref m), (1, .int p), (2, .int zv17)] rfl (cllw_X11 (255, 0, 219) (List.mem_of_getElem? (i := 34) rfl)) rfl rfl c_m rfl (by omega) (w_lo (n := 22) rfl (by omega)) (Nat.le_of_ble_eq_true rfl) (Nat.le_of_ble_eq_true rfl) rfl (tX11_outOf_1_ok (99, .invokevirtual 255, 3) (List.mem_of_getElem? (i := 0) rfl)) (h_of2 hT (by omega) (by omega) c_m f19 c_ro (fun zv19 ze20 => ?_))
        have ze20r : zv19.toInt = ρ p.toInt.toNat 0 := by rw [ze20, show 9 * p.toInt.toNat + zv17.toInt.toNat = 9 * p.toInt.toNat + 0 by omega]; exact hρ _ (by omega) 0 (by decide)
        show ww l D tys A X fr lo mX11_outOf Q 102 [(3, .int zb11), (6, .int zs10), (5, .int zb11), (4, .int x), (0, .ref m), (1, .int p), (2, .int ba)] [.int zv19, .int x] h
        refine w_iconst (by decide) (tX11_outOf_1_ok (102, .iconst 1, 1) (List.mem_of_getElem? (i := 1) rfl)) (fun zv21 ze22 => ?_)
        refine w_icmp_ne (tgt := 110) (tX11_outOf_1_ok (103, .if_icmp .ne 7, 3) (List.mem_of_getElem? (i := 2) rfl)) rfl (fun zb23 => ?_) (fun zb23 => ?_)
        · refine w_iconst (by decide) (tX11_outOf_1_ok (110, .iconst 1, 1) (List.mem_of_getElem? (i := 5) rfl)) (fun zv24 ze25 => ?_)
          refine w_iadd (by omega) (by omega) (tX11_outOf_1_ok (111, .iadd, 1) (List.mem_of_getElem? (i := 6) rfl)) (fun zv26 ze27 => ?_)
          refine w_istore [(4, .int zv26), (3, .int zb11), (6, .int zs10), (5, .int zb11), (0, .ref m), (1, .int p), (2, .int ba)] rfl (Nat.le_of_ble_eq_true rfl) (tX11_outOf_1_ok (112, .istore 4, 2) (List.mem_of_getElem? (i := 7) rfl)) ?_
          refine w_goto (tgt := 5) (tX11_outOf_1_ok (114, .goto (-109), 3) (List.mem_of_getElem? (i := 8) rfl)) rfl ?_
          refine w_lv [(4, .int zv26), (3, .int zb11), (0, .ref m), (1, .int p), (2, .int ba)] (by intro q hq; simp only [List.mem_cons, List.not_mem_nil, or_false] at hq ⊢; rcases hq with e | e | e | e | e <;> subst e <;> simp) ?_
          have st9 : zv26.toInt = x.toInt + f_st ρ p.toInt.toNat := by
            unfold f_st
            first | rw [if_pos (by omega)] | rw [if_neg (by omega)]
            omega
          refine ih (ρ p.toInt.toNat 1 + 1 - zv26.toInt).toNat (by omega) _ _ rfl ?_ (by omega) (Or.inr ⟨⟨by omega, by omega⟩, ?_⟩)
          · obtain ⟨i, hi⟩ := hi
            exact ⟨i + 1, by rw [st9, hi]; push_cast; rw [Int.mul_add, Int.mul_one]⟩
          · have old : ∀ y, f_x ρ p.toInt.toNat y → y < x.toInt → ¬ zb11.toInt = 0 → ¬ (∀ s9, s9 < 2 → ((B (2 * p.toInt.toNat + s9) → (hh : Int) - ba.toInt = f_pl ρ p.toInt.toNat s9 y) ∧ ∀ q, q < rp.toInt.toNat → ρ q 8 = ((2 * p.toInt.toNat + s9 : Nat) : Int) → f_F rp.toInt.toNat ρ B 6 q ((hh : Int) - ba.toInt - f_pl ρ p.toInt.toNat s9 y))) := fun y hy hlt nz => by
              rcases hbe with ⟨z1, z2⟩ | ⟨z1, z2⟩
              · exact absurd hlt (by have := z2 y hy; omega)
              · intro z3
                have z4 := z2.mpr ⟨y, hy, hlt, z3⟩
                omega
            constructor
            · intro z
              exact ⟨x.toInt, hx9, by omega, zq13.mp (by omega)⟩
            · rintro ⟨y, hy, hlt, z⟩
              by_cases c9 : y = x.toInt
              · subst c9
                exact zq13.mpr z
              · by_cases c8 : zb11.toInt = 0
                · exact c8
                · exact absurd z (old y hy (f_x_next hi hy (by omega) c9) c8)
        · refine w_iconst (by decide) (tX11_outOf_1_ok (106, .iconst 2, 1) (List.mem_of_getElem? (i := 3) rfl)) (fun zv28 ze29 => ?_)
          refine w_goto (tgt := 111) (tX11_outOf_1_ok (107, .goto 4, 3) (List.mem_of_getElem? (i := 4) rfl)) rfl ?_
          refine w_iadd (by omega) (by omega) (tX11_outOf_1_ok (111, .iadd, 1) (List.mem_of_getElem? (i := 6) rfl)) (fun zv30 ze31 => ?_)
          refine w_istore [(4, .int zv30), (3, .int zb11), (6, .int zs10), (5, .int zb11), (0, .ref m), (1, .int p), (2, .int ba)] rfl (Nat.le_of_ble_eq_true rfl) (tX11_outOf_1_ok (112, .istore 4, 2) (List.mem_of_getElem? (i := 7) rfl)) ?_
          refine w_goto (tgt := 5) (tX11_outOf_1_ok (114, .goto (-109), 3) (List.mem_of_getElem? (i := 8) rfl)) rfl ?_
          refine w_lv [(4, .int zv30), (3, .int zb11), (0, .ref m), (1, .int p), (2, .int ba)] (by intro q hq; simp only [List.mem_cons, List.not_mem_nil, or_false] at hq ⊢; rcases hq with e | e | e | e | e <;> subst e <;> simp) ?_
          have st9 : zv30.toInt = x.toInt + f_st ρ p.toInt.toNat := by
            unfold f_st
            first | rw [if_pos (by omega)] | rw [if_neg (by omega)]
            omega
          refine ih (ρ p.toInt.toNat 1 + 1 - zv30.toInt).toNat (by omega) _ _ rfl ?_ (by omega) (Or.inr ⟨⟨by omega, by omega⟩, ?_⟩)
          · obtain ⟨i, hi⟩ := hi
            exact ⟨i + 1, by rw [st9, hi]; push_cast; rw [Int.mul_add, Int.mul_one]⟩
          · have old : ∀ y, f_x ρ p.toInt.toNat y → y < x.toInt → ¬ zb11.toInt = 0 → ¬ (∀ s9, s9 < 2 → ((B (2 * p.toInt.toNat + s9) → (hh : Int) - ba.toInt = f_pl ρ p.toInt.toNat s9 y) ∧ ∀ q, q < rp.toInt.toNat → ρ q 8 = ((2 * p.toInt.toNat + s9 : Nat) : Int) → f_F rp.toInt.toNat ρ B 6 q ((hh : Int) - ba.toInt - f_pl ρ p.toInt.toNat s9 y))) := fun y hy hlt nz => by
              rcases hbe with ⟨z1, z2⟩ | ⟨z1, z2⟩
              · exact absurd hlt (by have := z2 y hy; omega)
              · intro z3
                have z4 := z2.mpr ⟨y, hy, hlt, z3⟩
                omega
            constructor
            · intro z
              exact ⟨x.toInt, hx9, by omega, zq13.mp (by omega)⟩
            · rintro ⟨y, hy, hlt, z⟩
              by_cases c9 : y = x.toInt
              · subst c9
                exact zq13.mpr z
              · by_cases c8 : zb11.toInt = 0
                · exact c8
                · exact absurd z (old y hy (f_x_next hi hy (by omega) c9) c8)
      · have hbe2 : 0 ≤ be.toInt ∧ be.toInt ≤ 4095 := hbe.elim (fun z => absurd z.1 (by omega)) (fun z => z.1)
        refine w_iload (List.Mem.tail _ (List.Mem.head _)) (tX11_outOf_0_ok (82, .iload 5, 2) (List.mem_of_getElem? (i := 50) rfl)) ?_
        refine w_iload_n (List.Mem.tail _ (List.Mem.tail _ (List.Mem.tail _ (List.Mem.head _)))) (tX11_outOf_0_ok (84, .iload_n 3, 1) (List.mem_of_getElem? (i := 51) rfl)) ?_
        refine w_callS (own := 16) (mi := 197) [.int zb11, .int be] [] [(0, .int zb11), (1, .int be)] rfl (cllw_X11 (367, 1, 197) (List.mem_of_getElem? (i := 61) rfl)) rfl rfl (by omega) (w_lo (n := 24) rfl (by omega)) (Nat.le_of_ble_eq_true rfl) (Nat.le_of_ble_eq_true rfl) rfl (tX11_outOf_0_ok (85, .invokestatic 367, 3) (List.mem_of_getElem? (i := 52) rfl)) (r_before (by omega) (w_sub (n := 24) rfl (by omega)) (by omega) (by omega) (fun zv32 ze33 ze34 ze35 ze36 => ?_))
        show ww l D tys A X fr lo mX11_outOf Q 88 [(6, .int zs10), (5, .int zb11), (4, .int x), (3, .int be), (0, .ref m), (1, .int p), (2, .int ba)] [.int zv32] h
        refine w_if_eq (tgt := 94) (tX11_outOf_0_ok (88, .ifCond .eq 6, 3) (List.mem_of_getElem? (i := 53) rfl)) rfl (fun zb37 => ?_) (fun zb37 => ?_)
        · refine w_iload (List.Mem.tail _ (List.Mem.tail _ (List.Mem.head _))) (tX11_outOf_0_ok (94, .iload 4, 2) (List.mem_of_getElem? (i := 56) rfl)) ?_
          refine w_aload_n (List.Mem.tail _ (List.Mem.tail _ (List.Mem.tail _ (List.Mem.tail _ (List.Mem.head _))))) (tX11_outOf_0_ok (96, .aload_n 0, 1) (List.mem_of_getElem? (i := 57) rfl)) ?_
          refine w_iload_n (List.Mem.tail _ (List.Mem.tail _ (List.Mem.tail _ (List.Mem.tail _ (List.Mem.tail _ (List.Mem.head _)))))) (tX11_outOf_0_ok (97, .iload_n 1, 1) (List.mem_of_getElem? (i := 58) rfl)) ?_
          refine w_iconst (by decide) (tX11_outOf_0_ok (98, .iconst 0, 1) (List.mem_of_getElem? (i := 59) rfl)) (fun zv38 ze39 => ?_)
          refine w_callV (own := 16) (mi := 219) [.int p, .int zv38] [.int x] [(0, .ref m), (1, .int p), (2, .int zv38)] rfl (cllw_X11 (255, 0, 219) (List.mem_of_getElem? (i := 34) rfl)) rfl rfl c_m rfl (by omega) (w_lo (n := 22) rfl (by omega)) (Nat.le_of_ble_eq_true rfl) (Nat.le_of_ble_eq_true rfl) rfl (tX11_outOf_1_ok (99, .invokevirtual 255, 3) (List.mem_of_getElem? (i := 0) rfl)) (h_of2 hT (by omega) (by omega) c_m f19 c_ro (fun zv40 ze41 => ?_))
          have ze41r : zv40.toInt = ρ p.toInt.toNat 0 := by rw [ze41, show 9 * p.toInt.toNat + zv38.toInt.toNat = 9 * p.toInt.toNat + 0 by omega]; exact hρ _ (by omega) 0 (by decide)
          show ww l D tys A X fr lo mX11_outOf Q 102 [(6, .int zs10), (5, .int zb11), (4, .int x), (3, .int be), (0, .ref m), (1, .int p), (2, .int ba)] [.int zv40, .int x] h
          refine w_iconst (by decide) (tX11_outOf_1_ok (102, .iconst 1, 1) (List.mem_of_getElem? (i := 1) rfl)) (fun zv42 ze43 => ?_)
          refine w_icmp_ne (tgt := 110) (tX11_outOf_1_ok (103, .if_icmp .ne 7, 3) (List.mem_of_getElem? (i := 2) rfl)) rfl (fun zb44 => ?_) (fun zb44 => ?_)
          · refine w_iconst (by decide) (tX11_outOf_1_ok (110, .iconst 1, 1) (List.mem_of_getElem? (i := 5) rfl)) (fun zv45 ze46 => ?_)
            refine w_iadd (by omega) (by omega) (tX11_outOf_1_ok (111, .iadd, 1) (List.mem_of_getElem? (i := 6) rfl)) (fun zv47 ze48 => ?_)
            refine w_istore [(4, .int zv47), (6, .int zs10), (5, .int zb11), (3, .int be), (0, .ref m), (1, .int p), (2, .int ba)] rfl (Nat.le_of_ble_eq_true rfl) (tX11_outOf_1_ok (112, .istore 4, 2) (List.mem_of_getElem? (i := 7) rfl)) ?_
            refine w_goto (tgt := 5) (tX11_outOf_1_ok (114, .goto (-109), 3) (List.mem_of_getElem? (i := 8) rfl)) rfl ?_
            refine w_lv [(4, .int zv47), (3, .int be), (0, .ref m), (1, .int p), (2, .int ba)] (by intro q hq; simp only [List.mem_cons, List.not_mem_nil, or_false] at hq ⊢; rcases hq with e | e | e | e | e <;> subst e <;> simp) ?_
            have st9 : zv47.toInt = x.toInt + f_st ρ p.toInt.toNat := by
              unfold f_st
              first | rw [if_pos (by omega)] | rw [if_neg (by omega)]
              omega
            refine ih (ρ p.toInt.toNat 1 + 1 - zv47.toInt).toNat (by omega) _ _ rfl ?_ (by omega) (Or.inr ⟨⟨by omega, by omega⟩, ?_⟩)
            · obtain ⟨i, hi⟩ := hi
              exact ⟨i + 1, by rw [st9, hi]; push_cast; rw [Int.mul_add, Int.mul_one]⟩
            · rcases hbe with ⟨z1, z2⟩ | ⟨z1, z2⟩
              · omega
              · constructor
                · intro z
                  obtain ⟨y, hy, hlt, z3⟩ := z2.mp z
                  exact ⟨y, hy, by omega, z3⟩
                · rintro ⟨y, hy, hlt, z⟩
                  by_cases c9 : y = x.toInt
                  · subst c9
                    have z4 := zq13.mpr z
                    by_cases c8 : be.toInt = 0
                    · exact c8
                    · have := ze36 z4 c8
                      omega
                  · exact z2.mpr ⟨y, hy, f_x_next hi hy (by omega) c9, z⟩
          · refine w_iconst (by decide) (tX11_outOf_1_ok (106, .iconst 2, 1) (List.mem_of_getElem? (i := 3) rfl)) (fun zv49 ze50 => ?_)
            refine w_goto (tgt := 111) (tX11_outOf_1_ok (107, .goto 4, 3) (List.mem_of_getElem? (i := 4) rfl)) rfl ?_
            refine w_iadd (by omega) (by omega) (tX11_outOf_1_ok (111, .iadd, 1) (List.mem_of_getElem? (i := 6) rfl)) (fun zv51 ze52 => ?_)
            refine w_istore [(4, .int zv51), (6, .int zs10), (5, .int zb11), (3, .int be), (0, .ref m), (1, .int p), (2, .int ba)] rfl (Nat.le_of_ble_eq_true rfl) (tX11_outOf_1_ok (112, .istore 4, 2) (List.mem_of_getElem? (i := 7) rfl)) ?_
            refine w_goto (tgt := 5) (tX11_outOf_1_ok (114, .goto (-109), 3) (List.mem_of_getElem? (i := 8) rfl)) rfl ?_
            refine w_lv [(4, .int zv51), (3, .int be), (0, .ref m), (1, .int p), (2, .int ba)] (by intro q hq; simp only [List.mem_cons, List.not_mem_nil, or_false] at hq ⊢; rcases hq with e | e | e | e | e <;> subst e <;> simp) ?_
            have st9 : zv51.toInt = x.toInt + f_st ρ p.toInt.toNat := by
              unfold f_st
              first | rw [if_pos (by omega)] | rw [if_neg (by omega)]
              omega
            refine ih (ρ p.toInt.toNat 1 + 1 - zv51.toInt).toNat (by omega) _ _ rfl ?_ (by omega) (Or.inr ⟨⟨by omega, by omega⟩, ?_⟩)
            · obtain ⟨i, hi⟩ := hi
              exact ⟨i + 1, by rw [st9, hi]; push_cast; rw [Int.mul_add, Int.mul_one]⟩
            · rcases hbe with ⟨z1, z2⟩ | ⟨z1, z2⟩
              · omega
              · constructor
                · intro z
                  obtain ⟨y, hy, hlt, z3⟩ := z2.mp z
                  exact ⟨y, hy, by omega, z3⟩
                · rintro ⟨y, hy, hlt, z⟩
                  by_cases c9 : y = x.toInt
                  · subst c9
                    have z4 := zq13.mpr z
                    by_cases c8 : be.toInt = 0
                    · exact c8
                    · have := ze36 z4 c8
                      omega
                  · exact z2.mpr ⟨y, hy, f_x_next hi hy (by omega) c9, z⟩
        · refine w_iload (List.Mem.tail _ (List.Mem.head _)) (tX11_outOf_0_ok (91, .iload 5, 2) (List.mem_of_getElem? (i := 54) rfl)) ?_
          refine w_istore_n [(3, .int zb11), (6, .int zs10), (5, .int zb11), (4, .int x), (0, .ref m), (1, .int p), (2, .int ba)] rfl (Nat.le_of_ble_eq_true rfl) (tX11_outOf_0_ok (93, .istore_n 3, 1) (List.mem_of_getElem? (i := 55) rfl)) ?_
          refine w_iload (List.Mem.tail _ (List.Mem.tail _ (List.Mem.tail _ (List.Mem.head _)))) (tX11_outOf_0_ok (94, .iload 4, 2) (List.mem_of_getElem? (i := 56) rfl)) ?_
          refine w_aload_n (List.Mem.tail _ (List.Mem.tail _ (List.Mem.tail _ (List.Mem.tail _ (List.Mem.head _))))) (tX11_outOf_0_ok (96, .aload_n 0, 1) (List.mem_of_getElem? (i := 57) rfl)) ?_
          refine w_iload_n (List.Mem.tail _ (List.Mem.tail _ (List.Mem.tail _ (List.Mem.tail _ (List.Mem.tail _ (List.Mem.head _)))))) (tX11_outOf_0_ok (97, .iload_n 1, 1) (List.mem_of_getElem? (i := 58) rfl)) ?_
          refine w_iconst (by decide) (tX11_outOf_0_ok (98, .iconst 0, 1) (List.mem_of_getElem? (i := 59) rfl)) (fun zv53 ze54 => ?_)
          refine w_callV (own := 16) (mi := 219) [.int p, .int zv53] [.int x] [(0, .ref m), (1, .int p), (2, .int zv53)] rfl (cllw_X11 (255, 0, 219) (List.mem_of_getElem? (i := 34) rfl)) rfl rfl c_m rfl (by omega) (w_lo (n := 22) rfl (by omega)) (Nat.le_of_ble_eq_true rfl) (Nat.le_of_ble_eq_true rfl) rfl (tX11_outOf_1_ok (99, .invokevirtual 255, 3) (List.mem_of_getElem? (i := 0) rfl)) (h_of2 hT (by omega) (by omega) c_m f19 c_ro (fun zv55 ze56 => ?_))
          have ze56r : zv55.toInt = ρ p.toInt.toNat 0 := by rw [ze56, show 9 * p.toInt.toNat + zv53.toInt.toNat = 9 * p.toInt.toNat + 0 by omega]; exact hρ _ (by omega) 0 (by decide)
          show ww l D tys A X fr lo mX11_outOf Q 102 [(3, .int zb11), (6, .int zs10), (5, .int zb11), (4, .int x), (0, .ref m), (1, .int p), (2, .int ba)] [.int zv55, .int x] h
          refine w_iconst (by decide) (tX11_outOf_1_ok (102, .iconst 1, 1) (List.mem_of_getElem? (i := 1) rfl)) (fun zv57 ze58 => ?_)
          refine w_icmp_ne (tgt := 110) (tX11_outOf_1_ok (103, .if_icmp .ne 7, 3) (List.mem_of_getElem? (i := 2) rfl)) rfl (fun zb59 => ?_) (fun zb59 => ?_)
          · refine w_iconst (by decide) (tX11_outOf_1_ok (110, .iconst 1, 1) (List.mem_of_getElem? (i := 5) rfl)) (fun zv60 ze61 => ?_)
            refine w_iadd (by omega) (by omega) (tX11_outOf_1_ok (111, .iadd, 1) (List.mem_of_getElem? (i := 6) rfl)) (fun zv62 ze63 => ?_)
            refine w_istore [(4, .int zv62), (3, .int zb11), (6, .int zs10), (5, .int zb11), (0, .ref m), (1, .int p), (2, .int ba)] rfl (Nat.le_of_ble_eq_true rfl) (tX11_outOf_1_ok (112, .istore 4, 2) (List.mem_of_getElem? (i := 7) rfl)) ?_
            refine w_goto (tgt := 5) (tX11_outOf_1_ok (114, .goto (-109), 3) (List.mem_of_getElem? (i := 8) rfl)) rfl ?_
            refine w_lv [(4, .int zv62), (3, .int zb11), (0, .ref m), (1, .int p), (2, .int ba)] (by intro q hq; simp only [List.mem_cons, List.not_mem_nil, or_false] at hq ⊢; rcases hq with e | e | e | e | e <;> subst e <;> simp) ?_
            have st9 : zv62.toInt = x.toInt + f_st ρ p.toInt.toNat := by
              unfold f_st
              first | rw [if_pos (by omega)] | rw [if_neg (by omega)]
              omega
            refine ih (ρ p.toInt.toNat 1 + 1 - zv62.toInt).toNat (by omega) _ _ rfl ?_ (by omega) (Or.inr ⟨⟨by omega, by omega⟩, ?_⟩)
            · obtain ⟨i, hi⟩ := hi
              exact ⟨i + 1, by rw [st9, hi]; push_cast; rw [Int.mul_add, Int.mul_one]⟩
            · have old : ∀ y, f_x ρ p.toInt.toNat y → y < x.toInt → ¬ zb11.toInt = 0 → ¬ (∀ s9, s9 < 2 → ((B (2 * p.toInt.toNat + s9) → (hh : Int) - ba.toInt = f_pl ρ p.toInt.toNat s9 y) ∧ ∀ q, q < rp.toInt.toNat → ρ q 8 = ((2 * p.toInt.toNat + s9 : Nat) : Int) → f_F rp.toInt.toNat ρ B 6 q ((hh : Int) - ba.toInt - f_pl ρ p.toInt.toNat s9 y))) := fun y hy hlt nz => by
                rcases hbe with ⟨z1, z2⟩ | ⟨z1, z2⟩
                · exact absurd hlt (by have := z2 y hy; omega)
                · intro z3
                  have z4 := z2.mpr ⟨y, hy, hlt, z3⟩
                  omega
              constructor
              · intro z
                exact ⟨x.toInt, hx9, by omega, zq13.mp (by omega)⟩
              · rintro ⟨y, hy, hlt, z⟩
                by_cases c9 : y = x.toInt
                · subst c9
                  exact zq13.mpr z
                · by_cases c8 : zb11.toInt = 0
                  · exact c8
                  · exact absurd z (old y hy (f_x_next hi hy (by omega) c9) c8)
          · refine w_iconst (by decide) (tX11_outOf_1_ok (106, .iconst 2, 1) (List.mem_of_getElem? (i := 3) rfl)) (fun zv64 ze65 => ?_)
            refine w_goto (tgt := 111) (tX11_outOf_1_ok (107, .goto 4, 3) (List.mem_of_getElem? (i := 4) rfl)) rfl ?_
            refine w_iadd (by omega) (by omega) (tX11_outOf_1_ok (111, .iadd, 1) (List.mem_of_getElem? (i := 6) rfl)) (fun zv66 ze67 => ?_)
            refine w_istore [(4, .int zv66), (3, .int zb11), (6, .int zs10), (5, .int zb11), (0, .ref m), (1, .int p), (2, .int ba)] rfl (Nat.le_of_ble_eq_true rfl) (tX11_outOf_1_ok (112, .istore 4, 2) (List.mem_of_getElem? (i := 7) rfl)) ?_
            refine w_goto (tgt := 5) (tX11_outOf_1_ok (114, .goto (-109), 3) (List.mem_of_getElem? (i := 8) rfl)) rfl ?_
            refine w_lv [(4, .int zv66), (3, .int zb11), (0, .ref m), (1, .int p), (2, .int ba)] (by intro q hq; simp only [List.mem_cons, List.not_mem_nil, or_false] at hq ⊢; rcases hq with e | e | e | e | e <;> subst e <;> simp) ?_
            have st9 : zv66.toInt = x.toInt + f_st ρ p.toInt.toNat := by
              unfold f_st
              first | rw [if_pos (by omega)] | rw [if_neg (by omega)]
              omega
            refine ih (ρ p.toInt.toNat 1 + 1 - zv66.toInt).toNat (by omega) _ _ rfl ?_ (by omega) (Or.inr ⟨⟨by omega, by omega⟩, ?_⟩)
            · obtain ⟨i, hi⟩ := hi
              exact ⟨i + 1, by rw [st9, hi]; push_cast; rw [Int.mul_add, Int.mul_one]⟩
            · have old : ∀ y, f_x ρ p.toInt.toNat y → y < x.toInt → ¬ zb11.toInt = 0 → ¬ (∀ s9, s9 < 2 → ((B (2 * p.toInt.toNat + s9) → (hh : Int) - ba.toInt = f_pl ρ p.toInt.toNat s9 y) ∧ ∀ q, q < rp.toInt.toNat → ρ q 8 = ((2 * p.toInt.toNat + s9 : Nat) : Int) → f_F rp.toInt.toNat ρ B 6 q ((hh : Int) - ba.toInt - f_pl ρ p.toInt.toNat s9 y))) := fun y hy hlt nz => by
                rcases hbe with ⟨z1, z2⟩ | ⟨z1, z2⟩
                · exact absurd hlt (by have := z2 y hy; omega)
                · intro z3
                  have z4 := z2.mpr ⟨y, hy, hlt, z3⟩
                  omega
              constructor
              · intro z
                exact ⟨x.toInt, hx9, by omega, zq13.mp (by omega)⟩
              · rintro ⟨y, hy, hlt, z⟩
                by_cases c9 : y = x.toInt
                · subst c9
                  exact zq13.mpr z
                · by_cases c8 : zb11.toInt = 0
                  · exact c8
                  · exact absurd z (old y hy (f_x_next hi hy (by omega) c9) c8)
theorem r_outOf (hT : k_tys tys cA) {m ro wa : Nat} {fs : List Value} {R gw : Nat → Int32} {rp : Int32} {hh : Nat} (c_m : h m = some (.inr (10, fs))) (f19 : fs[19]? = some (.ref ro)) (f20 : fs[20]? = some (.int rp)) (f26 : fs[26]? = some (.ref wa)) (c_ro : h ro = some (.inl (cA 0, 108, .inl R))) (c_wa : h wa = some (.inl (cA 0, 12, .inl gw))) (hw : ∀ r, r < 12 → (B r → (gw r).toInt = (hh : Int)) ∧ (¬ B r → (gw r).toInt = -1)) (hn : 0 ≤ rp.toInt ∧ rp.toInt ≤ 6) (wf : wfR rp.toInt.toNat ρ) (hρ : ∀ q, q < rp.toInt.toNat → ∀ w, w < 9 → (R (9 * q + w)).toInt = ρ q w) : ∀ (k p : Nat), p < rp.toInt.toNat → 6 ≤ p + k → ∀ base : Int, 0 ≤ base ∧ base ≤ 20 * p → oF l D tys A X h m rp.toInt.toNat ρ B (hh : Int) p base (2 * k + 2) (60 * k + 60)
  | 0, p, hp, h6, base, hb => by
    have := wf.1
    omega
  | k + 1, p, hp, h6, base, hb => by
    intro fr lo Q pI bI hf hl ep eb hq
    have h66 := wf.1
    have pp9 : pI.toInt.toNat = p := by omega
    refine w_iconst (by decide) (tX11_outOf_0_ok (0, .iconst (-1), 1) (List.mem_of_getElem? (i := 0) rfl)) (fun zv1 ze2 => ?_)
    refine w_istore_n [(3, .int zv1), (0, .ref m), (1, .int pI), (2, .int bI)] rfl (Nat.le_of_ble_eq_true rfl) (tX11_outOf_0_ok (1, .istore_n 3, 1) (List.mem_of_getElem? (i := 1) rfl)) ?_
    refine w_iconst (by decide) (tX11_outOf_0_ok (2, .iconst 0, 1) (List.mem_of_getElem? (i := 2) rfl)) (fun zv3 ze4 => ?_)
    refine w_istore [(4, .int zv3), (3, .int zv1), (0, .ref m), (1, .int pI), (2, .int bI)] rfl (Nat.le_of_ble_eq_true rfl) (tX11_outOf_0_ok (3, .istore 4, 2) (List.mem_of_getElem? (i := 3) rfl)) ?_
    refine w_lv [(4, .int zv3), (3, .int zv1), (0, .ref m), (1, .int pI), (2, .int bI)] (by intro q hq; simp only [List.mem_cons, List.not_mem_nil, or_false] at hq ⊢; rcases hq with e | e | e | e | e <;> subst e <;> simp) ?_
    refine r_ofX hT c_m f19 f20 f26 c_ro c_wa hw hn wf hρ (fb := 2 * k + 2) (lb := 60 * k + 60) (fun q _ h1 s h2 h3 dd h4 => r_outOf hT c_m f19 f20 f26 c_ro c_wa hw hn wf hρ k q h1 (by have := f_up wf (p := pI.toInt.toNat) (s := s) h1 h3; omega) dd (by have := f_up wf (p := pI.toInt.toNat) (s := s) h1 h3; omega)) (by omega) (by omega) (by omega) (by omega) (fun v hv => hq v ?_) _ _ _ rfl ⟨0, by simp; omega⟩ (by omega) (Or.inl ⟨by omega, fun y hy => by have := f_x0 hy; omega⟩)
    rw [pp9, eb] at hv
    exact hv
theorem r_fA (hT : k_tys tys cA) {m ro wa kw : Nat} {fs : List Value} {R : Nat → Int32} {rp w : Int32} (f19 : fs[19]? = some (.ref ro)) (f20 : fs[20]? = some (.int rp)) (f26 : fs[26]? = some (.ref wa)) (f46 : fs[46]? = some (.ref kw)) (nd : (ro ≠ m ∧ wa ≠ m ∧ kw ≠ m) ∧ (m ≠ wa ∧ ro ≠ wa ∧ kw ≠ wa) ∧ m ≠ kw ∧ ro ≠ kw ∧ wa ≠ kw) {be : Int32} : ∀ (j : Nat) (k : Int32) (h : ch_H) (gw gk : Nat → Int32), k.toInt + j = 12 → 0 ≤ k.toInt → h m = some (.inr (10, fs)) → h ro = some (.inl (cA 0, 108, .inl R)) → h wa = some (.inl (cA 0, 12, .inl gw)) → h kw = some (.inl (cA 0, 12, .inl gk)) → (∀ (g : ch_H) (k1 : Int32) (gw gk : Nat → Int32), g m = some (.inr (10, fs)) → g ro = some (.inl (cA 0, 108, .inl R)) → g wa = some (.inl (cA 0, 12, .inl gw)) → g kw = some (.inl (cA 0, 12, .inl gk)) → (∀ q, q ≠ wa ∧ q ≠ kw → g q = h q) → ww l D tys A X fr lo mX11_feast Q 58 [(3, .int k1), (2, .int be), (0, .ref m), (1, .int w)] [] g) → ww l D tys A X fr lo mX11_feast Q 34 [(3, .int k), (2, .int be), (0, .ref m), (1, .int w)] [] h := by
  intro j
  induction j using Nat.strongRecOn with
  | ind j ih =>
    intro k h gw gk hj hk0 c_m c_ro c_wa c_kw hq
    have n_ro_m := nd.1.1
    have n_wa_m := nd.1.2.1
    have n_kw_m := nd.1.2.2
    have n_m_wa := nd.2.1.1
    have n_ro_wa := nd.2.1.2.1
    have n_kw_wa := nd.2.1.2.2
    have n_m_kw := nd.2.2.1
    have n_ro_kw := nd.2.2.2.1
    have n_wa_kw := nd.2.2.2.2
    refine w_iload_n (List.Mem.head _) (tX11_feast_0_ok (34, .iload_n 3, 1) (List.mem_of_getElem? (i := 22) rfl)) ?_
    refine w_bipush (by decide) (tX11_feast_0_ok (35, .bipush 12, 2) (List.mem_of_getElem? (i := 23) rfl)) (fun zv1 ze2 => ?_)
    refine w_icmp_ge (tgt := 58) (tX11_feast_0_ok (37, .if_icmp .ge 21, 3) (List.mem_of_getElem? (i := 24) rfl)) rfl (fun zb3 => ?_) (fun zb3 => ?_)
    · exact hq h k gw gk c_m c_ro c_wa c_kw (fun _ _ => rfl)
    · refine w_aload_n (List.Mem.tail _ (List.Mem.tail _ (List.Mem.head _))) (tX11_feast_0_ok (40, .aload_n 0, 1) (List.mem_of_getElem? (i := 25) rfl)) ?_
      refine w_get (own := 16) rfl rfl (by decide) c_m f46 (tX11_feast_0_ok (41, .getfield 82, 3) (List.mem_of_getElem? (i := 26) rfl)) ?_
      refine w_iload_n (List.Mem.head _) (tX11_feast_0_ok (44, .iload_n 3, 1) (List.mem_of_getElem? (i := 27) rfl)) ?_
      refine w_aload_n (List.Mem.tail _ (List.Mem.tail _ (List.Mem.head _))) (tX11_feast_0_ok (45, .aload_n 0, 1) (List.mem_of_getElem? (i := 28) rfl)) ?_
      refine w_get (own := 16) rfl rfl (by decide) c_m f26 (tX11_feast_0_ok (46, .getfield 57, 3) (List.mem_of_getElem? (i := 29) rfl)) ?_
      refine w_iload_n (List.Mem.head _) (tX11_feast_0_ok (49, .iload_n 3, 1) (List.mem_of_getElem? (i := 30) rfl)) ?_
      refine w_iald hT c_wa (by omega) (by omega) (tX11_feast_0_ok (50, .iaload, 1) (List.mem_of_getElem? (i := 31) rfl)) (fun zv4 ze5 => ?_)
      refine w_iast hT c_kw (by omega) (by omega) (tX11_feast_0_ok (51, .iastore, 1) (List.mem_of_getElem? (i := 32) rfl)) (fun zh6 zc7 zo8 => ?_)
      have zc9 := (zo8 m n_m_kw).trans c_m
      have zc10 := (zo8 ro n_ro_kw).trans c_ro
      have zc11 := (zo8 wa n_wa_kw).trans c_wa
      refine w_iinc (fun zv12 => [(3, .int zv12), (2, .int be), (0, .ref m), (1, .int w)]) (fun _ => rfl) (List.Mem.head _) (Nat.le_of_ble_eq_true rfl) (by decide) (by omega) (by omega) (tX11_feast_0_ok (52, .iinc 3 1, 3) (List.mem_of_getElem? (i := 33) rfl)) (fun zv12 ze13 => ?_)
      refine w_goto (tgt := 34) (tX11_feast_0_ok (55, .goto (-21), 3) (List.mem_of_getElem? (i := 34) rfl)) rfl ?_
      refine w_lv [(3, .int zv12), (2, .int be), (0, .ref m), (1, .int w)] (by intro q hq; simp only [List.mem_cons, List.not_mem_nil, or_false] at hq ⊢; rcases hq with e | e | e | e <;> subst e <;> simp) ?_
      exact ih (j - 1) (by omega) _ _ _ _ (by omega) (by omega) zc9 zc10 zc11 zc7 (fun g k1 gw1 gk1 z1 z2 z3 z4 z5 => hq g k1 gw1 gk1 z1 z2 z3 z4 (fun q hq9 => (z5 q hq9).trans (zo8 q hq9.2)))
theorem r_fD (hT : k_tys tys cA) {m ro wa kw : Nat} {fs : List Value} {R : Nat → Int32} {rp w : Int32} (f19 : fs[19]? = some (.ref ro)) (f20 : fs[20]? = some (.int rp)) (f26 : fs[26]? = some (.ref wa)) (f46 : fs[46]? = some (.ref kw)) (nd : (ro ≠ m ∧ wa ≠ m ∧ kw ≠ m) ∧ (m ≠ wa ∧ ro ≠ wa ∧ kw ≠ wa) ∧ m ≠ kw ∧ ro ≠ kw ∧ wa ≠ kw) {be : Int32} : ∀ (j : Nat) (k : Int32) (h : ch_H) (gw gk : Nat → Int32), k.toInt + j = 12 → 0 ≤ k.toInt → h m = some (.inr (10, fs)) → h ro = some (.inl (cA 0, 108, .inl R)) → h wa = some (.inl (cA 0, 12, .inl gw)) → h kw = some (.inl (cA 0, 12, .inl gk)) → (∀ (g : ch_H) (k1 : Int32) (gw gk : Nat → Int32), g m = some (.inr (10, fs)) → g ro = some (.inl (cA 0, 108, .inl R)) → g wa = some (.inl (cA 0, 12, .inl gw)) → g kw = some (.inl (cA 0, 12, .inl gk)) → (∀ q, q ≠ wa ∧ q ≠ kw → g q = h q) → ww l D tys A X fr lo mX11_feast Q 152 [(3, .int k1), (2, .int be), (0, .ref m), (1, .int w)] [] g) → ww l D tys A X fr lo mX11_feast Q 128 [(3, .int k), (2, .int be), (0, .ref m), (1, .int w)] [] h := by
  intro j
  induction j using Nat.strongRecOn with
  | ind j ih =>
    intro k h gw gk hj hk0 c_m c_ro c_wa c_kw hq
    have n_ro_m := nd.1.1
    have n_wa_m := nd.1.2.1
    have n_kw_m := nd.1.2.2
    have n_m_wa := nd.2.1.1
    have n_ro_wa := nd.2.1.2.1
    have n_kw_wa := nd.2.1.2.2
    have n_m_kw := nd.2.2.1
    have n_ro_kw := nd.2.2.2.1
    have n_wa_kw := nd.2.2.2.2
    refine w_iload_n (List.Mem.head _) (tX11_feast_1_ok (128, .iload_n 3, 1) (List.mem_of_getElem? (i := 12) rfl)) ?_
    refine w_bipush (by decide) (tX11_feast_1_ok (129, .bipush 12, 2) (List.mem_of_getElem? (i := 13) rfl)) (fun zv1 ze2 => ?_)
    refine w_icmp_ge (tgt := 152) (tX11_feast_1_ok (131, .if_icmp .ge 21, 3) (List.mem_of_getElem? (i := 14) rfl)) rfl (fun zb3 => ?_) (fun zb3 => ?_)
    · exact hq h k gw gk c_m c_ro c_wa c_kw (fun _ _ => rfl)
    · refine w_aload_n (List.Mem.tail _ (List.Mem.tail _ (List.Mem.head _))) (tX11_feast_1_ok (134, .aload_n 0, 1) (List.mem_of_getElem? (i := 15) rfl)) ?_
      refine w_get (own := 16) rfl rfl (by decide) c_m f26 (tX11_feast_1_ok (135, .getfield 57, 3) (List.mem_of_getElem? (i := 16) rfl)) ?_
      refine w_iload_n (List.Mem.head _) (tX11_feast_1_ok (138, .iload_n 3, 1) (List.mem_of_getElem? (i := 17) rfl)) ?_
      refine w_aload_n (List.Mem.tail _ (List.Mem.tail _ (List.Mem.head _))) (tX11_feast_1_ok (139, .aload_n 0, 1) (List.mem_of_getElem? (i := 18) rfl)) ?_
      refine w_get (own := 16) rfl rfl (by decide) c_m f46 (tX11_feast_1_ok (140, .getfield 82, 3) (List.mem_of_getElem? (i := 19) rfl)) ?_
      refine w_iload_n (List.Mem.head _) (tX11_feast_1_ok (143, .iload_n 3, 1) (List.mem_of_getElem? (i := 20) rfl)) ?_
      refine w_iald hT c_kw (by omega) (by omega) (tX11_feast_1_ok (144, .iaload, 1) (List.mem_of_getElem? (i := 21) rfl)) (fun zv4 ze5 => ?_)
      refine w_iast hT c_wa (by omega) (by omega) (tX11_feast_1_ok (145, .iastore, 1) (List.mem_of_getElem? (i := 22) rfl)) (fun zh6 zc7 zo8 => ?_)
      have zc9 := (zo8 m n_m_wa).trans c_m
      have zc10 := (zo8 ro n_ro_wa).trans c_ro
      have zc11 := (zo8 kw n_kw_wa).trans c_kw
      refine w_iinc (fun zv12 => [(3, .int zv12), (2, .int be), (0, .ref m), (1, .int w)]) (fun _ => rfl) (List.Mem.head _) (Nat.le_of_ble_eq_true rfl) (by decide) (by omega) (by omega) (tX11_feast_1_ok (146, .iinc 3 1, 3) (List.mem_of_getElem? (i := 23) rfl)) (fun zv12 ze13 => ?_)
      refine w_goto (tgt := 128) (tX11_feast_1_ok (149, .goto (-21), 3) (List.mem_of_getElem? (i := 24) rfl)) rfl ?_
      refine w_lv [(3, .int zv12), (2, .int be), (0, .ref m), (1, .int w)] (by intro q hq; simp only [List.mem_cons, List.not_mem_nil, or_false] at hq ⊢; rcases hq with e | e | e | e <;> subst e <;> simp) ?_
      exact ih (j - 1) (by omega) _ _ _ _ (by omega) (by omega) zc9 zc10 zc7 zc11 (fun g k1 gw1 gk1 z1 z2 z3 z4 z5 => hq g k1 gw1 gk1 z1 z2 z3 z4 (fun q hq9 => (z5 q hq9).trans (zo8 q hq9.1)))
theorem r_fB (hT : k_tys tys cA) {m ro wa kw : Nat} {fs : List Value} {R : Nat → Int32} {rp w : Int32} (f19 : fs[19]? = some (.ref ro)) (f20 : fs[20]? = some (.int rp)) (f26 : fs[26]? = some (.ref wa)) (f46 : fs[46]? = some (.ref kw)) (nd : (ro ≠ m ∧ wa ≠ m ∧ kw ≠ m) ∧ (m ≠ wa ∧ ro ≠ wa ∧ kw ≠ wa) ∧ m ≠ kw ∧ ro ≠ kw ∧ wa ≠ kw) {be hh : Int32} {gk : Nat → Int32} (hf : 1 ≤ fr) (hl : 30 ≤ lo) : ∀ (j : Nat) (k : Int32) (h : ch_H) (gw : Nat → Int32), k.toInt + j = 12 → 0 ≤ k.toInt → (∀ r, r < k.toInt.toNat → (bt9 w r = true → (gw r).toInt = hh.toInt) ∧ (¬ bt9 w r = true → (gw r).toInt = -1)) → h m = some (.inr (10, fs)) → h ro = some (.inl (cA 0, 108, .inl R)) → h wa = some (.inl (cA 0, 12, .inl gw)) → h kw = some (.inl (cA 0, 12, .inl gk)) → (∀ (g : ch_H) (k1 : Int32) (gw : Nat → Int32), (∀ r, r < 12 → (bt9 w r = true → (gw r).toInt = hh.toInt) ∧ (¬ bt9 w r = true → (gw r).toInt = -1)) → g m = some (.inr (10, fs)) → g ro = some (.inl (cA 0, 108, .inl R)) → g wa = some (.inl (cA 0, 12, .inl gw)) → g kw = some (.inl (cA 0, 12, .inl gk)) → (∀ q, q ≠ wa → g q = h q) → ww l D tys A X fr lo mX11_feast Q 109 [(4, .int k1), (3, .int hh), (2, .int be), (0, .ref m), (1, .int w)] [] g) → ww l D tys A X fr lo mX11_feast Q 75 [(4, .int k), (3, .int hh), (2, .int be), (0, .ref m), (1, .int w)] [] h := by
  intro j
  induction j using Nat.strongRecOn with
  | ind j ih =>
    intro k h gw hj hk0 hi c_m c_ro c_wa c_kw hq
    have n_ro_m := nd.1.1
    have n_wa_m := nd.1.2.1
    have n_kw_m := nd.1.2.2
    have n_m_wa := nd.2.1.1
    have n_ro_wa := nd.2.1.2.1
    have n_kw_wa := nd.2.1.2.2
    have n_m_kw := nd.2.2.1
    have n_ro_kw := nd.2.2.2.1
    have n_wa_kw := nd.2.2.2.2
    refine w_iload (List.Mem.head _) (tX11_feast_0_ok (75, .iload 4, 2) (List.mem_of_getElem? (i := 45) rfl)) ?_
    refine w_bipush (by decide) (tX11_feast_0_ok (77, .bipush 12, 2) (List.mem_of_getElem? (i := 46) rfl)) (fun zv1 ze2 => ?_)
    refine w_icmp_ge (tgt := 109) (tX11_feast_0_ok (79, .if_icmp .ge 30, 3) (List.mem_of_getElem? (i := 47) rfl)) rfl (fun zb3 => ?_) (fun zb3 => ?_)
    · exact hq h k gw (fun r h1 => hi r (by omega)) c_m c_ro c_wa c_kw (fun _ _ => rfl)
    · refine w_aload_n (List.Mem.tail _ (List.Mem.tail _ (List.Mem.tail _ (List.Mem.head _)))) (tX11_feast_0_ok (82, .aload_n 0, 1) (List.mem_of_getElem? (i := 48) rfl)) ?_
      refine w_get (own := 16) rfl rfl (by decide) c_m f26 (tX11_feast_0_ok (83, .getfield 57, 3) (List.mem_of_getElem? (i := 49) rfl)) ?_
      refine w_iload (List.Mem.head _) (tX11_feast_0_ok (86, .iload 4, 2) (List.mem_of_getElem? (i := 50) rfl)) ?_
      refine w_iload_n (List.Mem.tail _ (List.Mem.tail _ (List.Mem.tail _ (List.Mem.tail _ (List.Mem.head _))))) (tX11_feast_0_ok (88, .iload_n 1, 1) (List.mem_of_getElem? (i := 51) rfl)) ?_
      refine w_iload (List.Mem.head _) (tX11_feast_0_ok (89, .iload 4, 2) (List.mem_of_getElem? (i := 52) rfl)) ?_
      refine w_callS (own := 16) (mi := 191) [.int w, .int k] [.int k, .ref wa] [(0, .int w), (1, .int k)] rfl (cllw_X11 (217, 1, 191) (List.mem_of_getElem? (i := 10) rfl)) rfl rfl (by omega) (w_lo (n := 21) rfl (by omega)) (Nat.le_of_ble_eq_true rfl) (Nat.le_of_ble_eq_true rfl) rfl (tX11_feast_0_ok (91, .invokestatic 217, 3) (List.mem_of_getElem? (i := 53) rfl)) (h_has (kk := k.toInt.toNat) (by omega) (by omega) (fun zv4 ze5 => ?_))
      obtain ⟨ze5a, ze5b⟩ := ze5
      show ww l D tys A X fr lo mX11_feast Q 94 [(4, .int k), (3, .int hh), (2, .int be), (0, .ref m), (1, .int w)] [.int zv4, .int k, .ref wa] h
      refine w_if_eq (tgt := 101) (tX11_feast_0_ok (94, .ifCond .eq 7, 3) (List.mem_of_getElem? (i := 54) rfl)) rfl (fun zb6 => ?_) (fun zb6 => ?_)
      · refine w_iconst (by decide) (tX11_feast_0_ok (101, .iconst (-1), 1) (List.mem_of_getElem? (i := 57) rfl)) (fun zv7 ze8 => ?_)
        refine w_iast hT c_wa (by omega) (by omega) (tX11_feast_0_ok (102, .iastore, 1) (List.mem_of_getElem? (i := 58) rfl)) (fun zh9 zc10 zo11 => ?_)
        have zc12 := (zo11 m n_m_wa).trans c_m
        have zc13 := (zo11 ro n_ro_wa).trans c_ro
        have zc14 := (zo11 kw n_kw_wa).trans c_kw
        refine w_iinc (fun zv15 => [(4, .int zv15), (3, .int hh), (2, .int be), (0, .ref m), (1, .int w)]) (fun _ => rfl) (List.Mem.head _) (Nat.le_of_ble_eq_true rfl) (by decide) (by omega) (by omega) (tX11_feast_0_ok (103, .iinc 4 1, 3) (List.mem_of_getElem? (i := 59) rfl)) (fun zv15 ze16 => ?_)
        refine w_goto (tgt := 75) (tX11_feast_1_ok (106, .goto (-31), 3) (List.mem_of_getElem? (i := 0) rfl)) rfl ?_
        refine w_lv [(4, .int zv15), (3, .int hh), (2, .int be), (0, .ref m), (1, .int w)] (by intro q hq; simp only [List.mem_cons, List.not_mem_nil, or_false] at hq ⊢; rcases hq with e | e | e | e | e <;> subst e <;> simp) ?_
        refine ih (j - 1) (by omega) _ _ _ (by omega) (by omega) (fun r h1 => ?_) zc12 zc13 zc10 zc14 (fun g k1 gw1 z0 z1 z2 z3 z4 z5 => hq g k1 gw1 z0 z1 z2 z3 z4 (fun q hq9 => (z5 q hq9).trans (zo11 q hq9)))
        by_cases c9 : r = k.toInt.toNat
        · subst c9
          rw [upd_s]
          exact ⟨fun z => absurd (ze5b.mpr z) (by omega), fun _ => by omega⟩
        · rw [upd_n _ _ c9]
          exact hi r (by omega)
      · refine w_iload_n (List.Mem.tail _ (List.Mem.head _)) (tX11_feast_0_ok (97, .iload_n 3, 1) (List.mem_of_getElem? (i := 55) rfl)) ?_
        refine w_goto (tgt := 102) (tX11_feast_0_ok (98, .goto 4, 3) (List.mem_of_getElem? (i := 56) rfl)) rfl ?_
        refine w_iast hT c_wa (by omega) (by omega) (tX11_feast_0_ok (102, .iastore, 1) (List.mem_of_getElem? (i := 58) rfl)) (fun zh17 zc18 zo19 => ?_)
        have zc20 := (zo19 m n_m_wa).trans c_m
        have zc21 := (zo19 ro n_ro_wa).trans c_ro
        have zc22 := (zo19 kw n_kw_wa).trans c_kw
        refine w_iinc (fun zv23 => [(4, .int zv23), (3, .int hh), (2, .int be), (0, .ref m), (1, .int w)]) (fun _ => rfl) (List.Mem.head _) (Nat.le_of_ble_eq_true rfl) (by decide) (by omega) (by omega) (tX11_feast_0_ok (103, .iinc 4 1, 3) (List.mem_of_getElem? (i := 59) rfl)) (fun zv23 ze24 => ?_)
        refine w_goto (tgt := 75) (tX11_feast_1_ok (106, .goto (-31), 3) (List.mem_of_getElem? (i := 0) rfl)) rfl ?_
        refine w_lv [(4, .int zv23), (3, .int hh), (2, .int be), (0, .ref m), (1, .int w)] (by intro q hq; simp only [List.mem_cons, List.not_mem_nil, or_false] at hq ⊢; rcases hq with e | e | e | e | e <;> subst e <;> simp) ?_
        refine ih (j - 1) (by omega) _ _ _ (by omega) (by omega) (fun r h1 => ?_) zc20 zc21 zc18 zc22 (fun g k1 gw1 z0 z1 z2 z3 z4 z5 => hq g k1 gw1 z0 z1 z2 z3 z4 (fun q hq9 => (z5 q hq9).trans (zo19 q hq9)))
        by_cases c9 : r = k.toInt.toNat
        · subst c9
          rw [upd_s]
          exact ⟨fun _ => rfl, fun z => absurd (ze5b.mp (by omega)) z⟩
        · rw [upd_n _ _ c9]
          exact hi r (by omega)
theorem r_fC (hT : k_tys tys cA) {m ro wa kw : Nat} {fs : List Value} {R : Nat → Int32} {rp w : Int32} (f19 : fs[19]? = some (.ref ro)) (f20 : fs[20]? = some (.int rp)) (f26 : fs[26]? = some (.ref wa)) (f46 : fs[46]? = some (.ref kw)) (nd : (ro ≠ m ∧ wa ≠ m ∧ kw ≠ m) ∧ (m ≠ wa ∧ ro ≠ wa ∧ kw ≠ wa) ∧ m ≠ kw ∧ ro ≠ kw ∧ wa ≠ kw) (hn : 0 ≤ rp.toInt ∧ rp.toInt ≤ 6) (wf : wfR rp.toInt.toNat ρ) (hρ : ∀ q, q < rp.toInt.toNat → ∀ w, w < 9 → (R (9 * q + w)).toInt = ρ q w) (hf : 16 ≤ fr) (hl : 600 ≤ lo) : ∀ (j : Nat) (hh be : Int32) (h : ch_H) (gw gk : Nat → Int32), hh.toInt + j = 201 → 0 ≤ hh.toInt → (be.toInt = -1 ∧ (∀ g9 : Nat, g9 < hh.toInt.toNat → ¬ f_all rp.toInt.toNat ρ (fun r => bt9 w r = true) (g9 : Int)) ∨ 0 ≤ be.toInt ∧ be.toInt < hh.toInt ∧ f_all rp.toInt.toNat ρ (fun r => bt9 w r = true) ((be.toInt.toNat : Nat) : Int) ∧ ∀ g9 : Nat, g9 < be.toInt.toNat → ¬ f_all rp.toInt.toNat ρ (fun r => bt9 w r = true) (g9 : Int)) → h m = some (.inr (10, fs)) → h ro = some (.inl (cA 0, 108, .inl R)) → h wa = some (.inl (cA 0, 12, .inl gw)) → h kw = some (.inl (cA 0, 12, .inl gk)) → (∀ (g : ch_H) (h1 be : Int32) (gw gk : Nat → Int32), f_least rp.toInt.toNat ρ (fun r => bt9 w r = true) 200 be.toInt → g m = some (.inr (10, fs)) → g ro = some (.inl (cA 0, 108, .inl R)) → g wa = some (.inl (cA 0, 12, .inl gw)) → g kw = some (.inl (cA 0, 12, .inl gk)) → (∀ q, q ≠ wa ∧ q ≠ kw → g q = h q) → ww l D tys A X fr lo mX11_feast Q 126 [(3, .int h1), (2, .int be), (0, .ref m), (1, .int w)] [] g) → ww l D tys A X fr lo mX11_feast Q 60 [(3, .int hh), (2, .int be), (0, .ref m), (1, .int w)] [] h := by
  intro j
  induction j using Nat.strongRecOn with
  | ind j ih =>
    intro hh be h gw gk hj hh0 hi c_m c_ro c_wa c_kw hq
    have n_ro_m := nd.1.1
    have n_wa_m := nd.1.2.1
    have n_kw_m := nd.1.2.2
    have n_m_wa := nd.2.1.1
    have n_ro_wa := nd.2.1.2.1
    have n_kw_wa := nd.2.1.2.2
    have n_m_kw := nd.2.2.1
    have n_ro_kw := nd.2.2.2.1
    have n_wa_kw := nd.2.2.2.2
    refine w_iload_n (List.Mem.head _) (tX11_feast_0_ok (60, .iload_n 3, 1) (List.mem_of_getElem? (i := 37) rfl)) ?_
    refine w_sipush (by decide) (tX11_feast_0_ok (61, .sipush 200, 3) (List.mem_of_getElem? (i := 38) rfl)) (fun zv1 ze2 => ?_)
    refine w_icmp_gt (tgt := 126) (tX11_feast_0_ok (64, .if_icmp .gt 62, 3) (List.mem_of_getElem? (i := 39) rfl)) rfl (fun zb3 => ?_) (fun zb3 => ?_)
    · refine hq h hh be gw gk ?_ c_m c_ro c_wa c_kw (fun _ _ => rfl)
      rcases hi with ⟨y1, y2⟩ | ⟨y1, y2, y3, y4⟩
      · exact Or.inr ⟨y1, fun g9 hg => y2 g9 (by omega)⟩
      · exact Or.inl ⟨be.toInt.toNat, by omega, by omega, y3, y4⟩
    · refine w_iload_n (List.Mem.tail _ (List.Mem.head _)) (tX11_feast_0_ok (67, .iload_n 2, 1) (List.mem_of_getElem? (i := 40) rfl)) ?_
      refine w_iconst (by decide) (tX11_feast_0_ok (68, .iconst (-1), 1) (List.mem_of_getElem? (i := 41) rfl)) (fun zv4 ze5 => ?_)
      refine w_icmp_ne (tgt := 126) (tX11_feast_0_ok (69, .if_icmp .ne 57, 3) (List.mem_of_getElem? (i := 42) rfl)) rfl (fun zb6 => ?_) (fun zb6 => ?_)
      · refine hq h hh be gw gk ?_ c_m c_ro c_wa c_kw (fun _ _ => rfl)
        rcases hi with ⟨y1, y2⟩ | ⟨y1, y2, y3, y4⟩
        · exact Or.inr ⟨y1, fun g9 hg => y2 g9 (by omega)⟩
        · exact Or.inl ⟨be.toInt.toNat, by omega, by omega, y3, y4⟩
      · refine w_iconst (by decide) (tX11_feast_0_ok (72, .iconst 0, 1) (List.mem_of_getElem? (i := 43) rfl)) (fun zv7 ze8 => ?_)
        refine w_istore [(4, .int zv7), (3, .int hh), (2, .int be), (0, .ref m), (1, .int w)] rfl (Nat.le_of_ble_eq_true rfl) (tX11_feast_0_ok (73, .istore 4, 2) (List.mem_of_getElem? (i := 44) rfl)) ?_
        refine w_lv [(4, .int zv7), (3, .int hh), (2, .int be), (0, .ref m), (1, .int w)] (by intro q hq; simp only [List.mem_cons, List.not_mem_nil, or_false] at hq ⊢; rcases hq with e | e | e | e | e <;> subst e <;> simp) ?_
        refine r_fB hT f19 f20 f26 f46 nd (by omega) (by omega) 12 _ _ gw (by omega) (by omega) (fun r h1 => absurd h1 (by omega)) c_m c_ro c_wa c_kw (fun zg9 zk10 zgw11 zq12 zq13 zq14 zq15 zq16 zq17 => ?_)
        show ww l D tys A X fr lo mX11_feast Q 109 [(4, .int zk10), (3, .int hh), (2, .int be), (0, .ref m), (1, .int w)] [] zg9
        refine w_aload_n (List.Mem.tail _ (List.Mem.tail _ (List.Mem.tail _ (List.Mem.head _)))) (tX11_feast_1_ok (109, .aload_n 0, 1) (List.mem_of_getElem? (i := 1) rfl)) ?_
        refine w_iconst (by decide) (tX11_feast_1_ok (110, .iconst (-1), 1) (List.mem_of_getElem? (i := 2) rfl)) (fun zv18 ze19 => ?_)
        refine w_iconst (by decide) (tX11_feast_1_ok (111, .iconst 0, 1) (List.mem_of_getElem? (i := 3) rfl)) (fun zv20 ze21 => ?_)
        have hw9 : ∀ r, r < 12 → ((fun r => bt9 w r = true) r → (zgw11 r).toInt = ((hh.toInt.toNat : Nat) : Int)) ∧ (¬ (fun r => bt9 w r = true) r → (zgw11 r).toInt = -1) := fun r h1 => ⟨fun z9 => by have := (zq12 r h1).1 z9; omega, fun z9 => (zq12 r h1).2 z9⟩
        refine w_callV (own := 16) (mi := 225) [.int zv18, .int zv20] [] [(0, .ref m), (1, .int zv18), (2, .int zv20)] rfl (cllw_X11 (364, 0, 225) (List.mem_of_getElem? (i := 58) rfl)) rfl rfl zq13 rfl (by omega) (w_lo (n := 24) rfl (by omega)) (Nat.le_of_ble_eq_true rfl) (Nat.le_of_ble_eq_true rfl) rfl (tX11_feast_1_ok (112, .invokevirtual 364, 3) (List.mem_of_getElem? (i := 4) rfl)) (r_outOn hT (B := (fun r => bt9 w r = true)) (hh := hh.toInt.toNat) zq13 f19 f20 f26 zq14 zq15 hw9 hn wf hρ (fb := 14) (lb := 420) (fun q h1 h2 => r_outOf hT (B := (fun r => bt9 w r = true)) (hh := hh.toInt.toNat) zq13 f19 f20 f26 zq14 zq15 hw9 hn wf hρ 6 q h1 (by omega) _ (by omega)) (by omega) ⟨w_sub (n := 24) rfl (by omega), w_sub (n := 24) rfl (by omega)⟩ (fun zv22 ze23 => ?_))
        obtain ⟨ze23a, ze23b, ze23c⟩ := ze23
        show ww l D tys A X fr lo mX11_feast Q 115 [(4, .int zk10), (3, .int hh), (2, .int be), (0, .ref m), (1, .int w)] [.int zv22] zg9
        have al9 : zv22.toInt = 0 ↔ f_all rp.toInt.toNat ρ (fun r => bt9 w r = true) ((hh.toInt.toNat : Nat) : Int) := ze23c.trans ⟨fun z9 p9 h1 h2 => by have := z9 p9 h1 (by omega); rw [show ((hh.toInt.toNat : Nat) : Int) - zv20.toInt = ((hh.toInt.toNat : Nat) : Int) by omega] at this; exact this, fun z9 p9 h1 h2 => by rw [show ((hh.toInt.toNat : Nat) : Int) - zv20.toInt = ((hh.toInt.toNat : Nat) : Int) by omega]; exact z9 p9 h1 (by omega)⟩
        refine w_if_ne (tgt := 120) (tX11_feast_1_ok (115, .ifCond .ne 5, 3) (List.mem_of_getElem? (i := 5) rfl)) rfl (fun zb24 => ?_) (fun zb24 => ?_)
        · refine w_iinc (fun zv25 => [(3, .int zv25), (4, .int zk10), (2, .int be), (0, .ref m), (1, .int w)]) (fun _ => rfl) (List.Mem.tail _ (List.Mem.head _)) (Nat.le_of_ble_eq_true rfl) (by decide) (by omega) (by omega) (tX11_feast_1_ok (120, .iinc 3 1, 3) (List.mem_of_getElem? (i := 8) rfl)) (fun zv25 ze26 => ?_)
          refine w_goto (tgt := 60) (tX11_feast_1_ok (123, .goto (-63), 3) (List.mem_of_getElem? (i := 9) rfl)) rfl ?_
          refine w_lv [(3, .int zv25), (2, .int be), (0, .ref m), (1, .int w)] (by intro q hq; simp only [List.mem_cons, List.not_mem_nil, or_false] at hq ⊢; rcases hq with e | e | e | e <;> subst e <;> simp) ?_
          refine ih (j - 1) (by omega) _ _ _ _ _ (by omega) (by omega) ?_ zq13 zq14 zq15 zq16 (fun g1 h1 be1 gw1 gk1 y0 y1 y2 y3 y4 y5 => hq g1 h1 be1 gw1 gk1 y0 y1 y2 y3 y4 (fun q hq9 => (y5 q hq9).trans (zq17 q hq9.1)))
          refine Or.inl ⟨by omega, fun g9 hg => ?_⟩
          by_cases c9 : g9 = hh.toInt.toNat
          · subst c9
            exact fun z9 => absurd (al9.mpr z9) (by omega)
          · rcases hi with ⟨y1, y2⟩ | ⟨y1, y2, y3, y4⟩
            · exact y2 g9 (by omega)
            · omega
        · refine w_iload_n (List.Mem.tail _ (List.Mem.head _)) (tX11_feast_1_ok (118, .iload_n 3, 1) (List.mem_of_getElem? (i := 6) rfl)) ?_
          refine w_istore_n [(2, .int hh), (4, .int zk10), (3, .int hh), (0, .ref m), (1, .int w)] rfl (Nat.le_of_ble_eq_true rfl) (tX11_feast_1_ok (119, .istore_n 2, 1) (List.mem_of_getElem? (i := 7) rfl)) ?_
          refine w_iinc (fun zv27 => [(3, .int zv27), (2, .int hh), (4, .int zk10), (0, .ref m), (1, .int w)]) (fun _ => rfl) (List.Mem.tail _ (List.Mem.tail _ (List.Mem.head _))) (Nat.le_of_ble_eq_true rfl) (by decide) (by omega) (by omega) (tX11_feast_1_ok (120, .iinc 3 1, 3) (List.mem_of_getElem? (i := 8) rfl)) (fun zv27 ze28 => ?_)
          refine w_goto (tgt := 60) (tX11_feast_1_ok (123, .goto (-63), 3) (List.mem_of_getElem? (i := 9) rfl)) rfl ?_
          refine w_lv [(3, .int zv27), (2, .int hh), (0, .ref m), (1, .int w)] (by intro q hq; simp only [List.mem_cons, List.not_mem_nil, or_false] at hq ⊢; rcases hq with e | e | e | e <;> subst e <;> simp) ?_
          refine ih (j - 1) (by omega) _ _ _ _ _ (by omega) (by omega) ?_ zq13 zq14 zq15 zq16 (fun g1 h1 be1 gw1 gk1 y0 y1 y2 y3 y4 y5 => hq g1 h1 be1 gw1 gk1 y0 y1 y2 y3 y4 (fun q hq9 => (y5 q hq9).trans (zq17 q hq9.1)))
          refine Or.inr ⟨by omega, by omega, ?_, fun g9 hg => ?_⟩
          · exact al9.mp (by omega)
          · rcases hi with ⟨y1, y2⟩ | ⟨y1, y2, y3, y4⟩
            · exact y2 g9 (by omega)
            · omega
theorem r_feast (hT : k_tys tys cA) {m ro wa kw : Nat} {fs : List Value} {R : Nat → Int32} {rp w : Int32} (f19 : fs[19]? = some (.ref ro)) (f20 : fs[20]? = some (.int rp)) (f26 : fs[26]? = some (.ref wa)) (f46 : fs[46]? = some (.ref kw)) (nd : (ro ≠ m ∧ wa ≠ m ∧ kw ≠ m) ∧ (m ≠ wa ∧ ro ≠ wa ∧ kw ≠ wa) ∧ m ≠ kw ∧ ro ≠ kw ∧ wa ≠ kw) (hn : 0 ≤ rp.toInt ∧ rp.toInt ≤ 6) (wf : wfR rp.toInt.toNat ρ) (hρ : ∀ q, q < rp.toInt.toNat → ∀ w, w < 9 → (R (9 * q + w)).toInt = ρ q w) {gw gk : Nat → Int32} (fl : fs.length = 47) (c_m : h m = some (.inr (10, fs))) (c_ro : h ro = some (.inl (cA 0, 108, .inl R))) (c_wa : h wa = some (.inl (cA 0, 12, .inl gw))) (c_kw : h kw = some (.inl (cA 0, 12, .inl gk))) (hf : 16 ≤ fr) (hl : 600 ≤ lo) (hq : ∀ (g : ch_H) (v : Int32) (fs1 : List Value), f_is w rp.toInt.toNat ρ v.toInt → g m = some (.inr (10, fs1)) → fs1[19]? = some (.ref ro) → (∀ q, q ≠ m ∧ q ≠ wa ∧ q ≠ kw → g q = h q) → Q (some (.int v)) g) : ww l D tys A X fr lo mX11_feast Q 0 [(0, .ref m), (1, .int w)] [] h := by
  have n_ro_m := nd.1.1
  have n_wa_m := nd.1.2.1
  have n_kw_m := nd.1.2.2
  have n_m_wa := nd.2.1.1
  have n_ro_wa := nd.2.1.2.1
  have n_kw_wa := nd.2.1.2.2
  have n_m_kw := nd.2.2.1
  have n_ro_kw := nd.2.2.2.1
  have n_wa_kw := nd.2.2.2.2
  have p0 : rp.toInt = 0 → ((2 ^ (2 * rp.toInt.toNat) : Nat) : Int) = 1 := fun z => by rw [show rp.toInt.toNat = 0 by omega]; rfl
  refine w_aload_n (List.Mem.head _) (tX11_feast_0_ok (0, .aload_n 0, 1) (List.mem_of_getElem? (i := 0) rfl)) ?_
  refine w_iconst (by decide) (tX11_feast_0_ok (1, .iconst 0, 1) (List.mem_of_getElem? (i := 1) rfl)) (fun zv1 ze2 => ?_)
  refine w_putF (own := 16) (ci := 10) (k := 0) rfl rfl (by decide) rfl ⟨rfl, rfl⟩ c_m (by rw [fl]; decide) (tX11_feast_0_ok (2, .putfield 85, 3) (List.mem_of_getElem? (i := 2) rfl)) (fun zh3 zfs6 zl7 zk8 zj9 zc4 zo5 => ?_)
  rw [fl] at zl7
  have zf10 := (zj9 19 (by decide)).trans f19
  have zf11 := (zj9 20 (by decide)).trans f20
  have zf12 := (zj9 26 (by decide)).trans f26
  have zf13 := (zj9 46 (by decide)).trans f46
  have zc14 := (zo5 ro n_ro_m).trans c_ro
  have zc15 := (zo5 wa n_wa_m).trans c_wa
  have zc16 := (zo5 kw n_kw_m).trans c_kw
  refine w_aload_n (List.Mem.head _) (tX11_feast_0_ok (5, .aload_n 0, 1) (List.mem_of_getElem? (i := 3) rfl)) ?_
  refine w_get (own := 16) rfl rfl (by decide) zc4 zf11 (tX11_feast_0_ok (6, .getfield 248, 3) (List.mem_of_getElem? (i := 4) rfl)) ?_
  refine w_if_eq (tgt := 28) (tX11_feast_0_ok (9, .ifCond .eq 19, 3) (List.mem_of_getElem? (i := 5) rfl)) rfl (fun zb17 => ?_) (fun zb17 => ?_)
  · refine w_iconst (by decide) (tX11_feast_0_ok (28, .iconst (-1), 1) (List.mem_of_getElem? (i := 16) rfl)) (fun zv18 ze19 => ?_)
    refine w_iret rfl (tX11_feast_0_ok (29, .ireturn, 1) (List.mem_of_getElem? (i := 17) rfl)) ?_
    have p1 := p0 (by omega)
    exact hq _ _ _ ⟨fun z => absurd z (by omega), fun _ => by omega⟩ zc4 zf10 (fun q hq9 => zo5 q hq9.1)
  · refine w_iload_n (List.Mem.tail _ (List.Mem.head _)) (tX11_feast_0_ok (12, .iload_n 1, 1) (List.mem_of_getElem? (i := 6) rfl)) ?_
    refine w_if_le (tgt := 28) (tX11_feast_0_ok (13, .ifCond .le 15, 3) (List.mem_of_getElem? (i := 7) rfl)) rfl (fun zb20 => ?_) (fun zb20 => ?_)
    · refine w_iconst (by decide) (tX11_feast_0_ok (28, .iconst (-1), 1) (List.mem_of_getElem? (i := 16) rfl)) (fun zv21 ze22 => ?_)
      refine w_iret rfl (tX11_feast_0_ok (29, .ireturn, 1) (List.mem_of_getElem? (i := 17) rfl)) ?_
      exact hq _ _ _ ⟨fun z => absurd z (by omega), fun _ => by omega⟩ zc4 zf10 (fun q hq9 => zo5 q hq9.1)
    · refine w_iload_n (List.Mem.tail _ (List.Mem.head _)) (tX11_feast_0_ok (16, .iload_n 1, 1) (List.mem_of_getElem? (i := 8) rfl)) ?_
      refine w_iconst (by decide) (tX11_feast_0_ok (17, .iconst 1, 1) (List.mem_of_getElem? (i := 9) rfl)) (fun zv23 ze24 => ?_)
      refine w_iconst (by decide) (tX11_feast_0_ok (18, .iconst 2, 1) (List.mem_of_getElem? (i := 10) rfl)) (fun zv25 ze26 => ?_)
      refine w_aload_n (List.Mem.head _) (tX11_feast_0_ok (19, .aload_n 0, 1) (List.mem_of_getElem? (i := 11) rfl)) ?_
      refine w_get (own := 16) rfl rfl (by decide) zc4 zf11 (tX11_feast_0_ok (20, .getfield 248, 3) (List.mem_of_getElem? (i := 12) rfl)) ?_
      refine w_imul (by assumption) (by omega) (by omega) (tX11_feast_0_ok (23, .imul, 1) (List.mem_of_getElem? (i := 13) rfl)) (fun zv27 ze28 => ?_)
      refine w_ishl (tX11_feast_0_ok (24, .ishl, 1) (List.mem_of_getElem? (i := 14) rfl)) (fun zv29 ze30 => ?_)
      have sp9 := shl_p (n := rp.toInt.toNat) (by omega) (by omega) (by omega) ze30
      refine w_icmp_lt (tgt := 30) (tX11_feast_0_ok (25, .if_icmp .lt 5, 3) (List.mem_of_getElem? (i := 15) rfl)) rfl (fun zb31 => ?_) (fun zb31 => ?_)
      · refine w_iconst (by decide) (tX11_feast_0_ok (30, .iconst (-1), 1) (List.mem_of_getElem? (i := 18) rfl)) (fun zv32 ze33 => ?_)
        refine w_istore_n [(2, .int zv32), (0, .ref m), (1, .int w)] rfl (Nat.le_of_ble_eq_true rfl) (tX11_feast_0_ok (31, .istore_n 2, 1) (List.mem_of_getElem? (i := 19) rfl)) ?_
        refine w_iconst (by decide) (tX11_feast_0_ok (32, .iconst 0, 1) (List.mem_of_getElem? (i := 20) rfl)) (fun zv34 ze35 => ?_)
        refine w_istore_n [(3, .int zv34), (2, .int zv32), (0, .ref m), (1, .int w)] rfl (Nat.le_of_ble_eq_true rfl) (tX11_feast_0_ok (33, .istore_n 3, 1) (List.mem_of_getElem? (i := 21) rfl)) ?_
        refine w_lv [(3, .int zv34), (2, .int zv32), (0, .ref m), (1, .int w)] (by intro q hq; simp only [List.mem_cons, List.not_mem_nil, or_false] at hq ⊢; rcases hq with e | e | e | e <;> subst e <;> simp) ?_
        refine r_fA hT zf10 zf11 zf12 zf13 nd 12 _ _ gw gk (by omega) (by omega) zc4 zc14 zc15 zc16 (fun zg43 zk44 zgw45 zgk46 zq36 zq37 zq38 zq39 zq40 => ?_)
        show ww l D tys A X fr lo mX11_feast Q 58 [(3, .int zk44), (2, .int zv32), (0, .ref m), (1, .int w)] [] zg43
        refine w_iconst (by decide) (tX11_feast_0_ok (58, .iconst 0, 1) (List.mem_of_getElem? (i := 35) rfl)) (fun zv47 ze48 => ?_)
        refine w_istore_n [(3, .int zv47), (2, .int zv32), (0, .ref m), (1, .int w)] rfl (Nat.le_of_ble_eq_true rfl) (tX11_feast_0_ok (59, .istore_n 3, 1) (List.mem_of_getElem? (i := 36) rfl)) ?_
        refine w_lv [(3, .int zv47), (2, .int zv32), (0, .ref m), (1, .int w)] (by intro q hq; simp only [List.mem_cons, List.not_mem_nil, or_false] at hq ⊢; rcases hq with e | e | e | e <;> subst e <;> simp) ?_
        refine r_fC hT zf10 zf11 zf12 zf13 nd hn wf hρ hf hl 201 _ _ _ zgw45 zgk46 (by omega) (by omega) (Or.inl ⟨by omega, fun g9 hg => absurd hg (by omega)⟩) zq36 zq37 zq38 zq39 (fun zg56 zk57 zbe58 zgw59 zgk60 zq49 zq50 zq51 zq52 zq53 zq54 => ?_)
        show ww l D tys A X fr lo mX11_feast Q 126 [(3, .int zk57), (2, .int zbe58), (0, .ref m), (1, .int w)] [] zg56
        refine w_iconst (by decide) (tX11_feast_1_ok (126, .iconst 0, 1) (List.mem_of_getElem? (i := 10) rfl)) (fun zv61 ze62 => ?_)
        refine w_istore_n [(3, .int zv61), (2, .int zbe58), (0, .ref m), (1, .int w)] rfl (Nat.le_of_ble_eq_true rfl) (tX11_feast_1_ok (127, .istore_n 3, 1) (List.mem_of_getElem? (i := 11) rfl)) ?_
        refine w_lv [(3, .int zv61), (2, .int zbe58), (0, .ref m), (1, .int w)] (by intro q hq; simp only [List.mem_cons, List.not_mem_nil, or_false] at hq ⊢; rcases hq with e | e | e | e <;> subst e <;> simp) ?_
        refine r_fD hT zf10 zf11 zf12 zf13 nd 12 _ _ zgw59 zgk60 (by omega) (by omega) zq50 zq51 zq52 zq53 (fun zg70 zk71 zgw72 zgk73 zq63 zq64 zq65 zq66 zq67 => ?_)
        show ww l D tys A X fr lo mX11_feast Q 152 [(3, .int zk71), (2, .int zbe58), (0, .ref m), (1, .int w)] [] zg70
        refine w_iload_n (List.Mem.tail _ (List.Mem.head _)) (tX11_feast_1_ok (152, .iload_n 2, 1) (List.mem_of_getElem? (i := 25) rfl)) ?_
        refine w_iret rfl (tX11_feast_1_ok (153, .ireturn, 1) (List.mem_of_getElem? (i := 26) rfl)) ?_
        refine hq _ _ _ ⟨fun _ => ?_, fun z => absurd ⟨by omega, by omega⟩ z⟩ zq63 zf10 (fun q hq9 => ((zq67 q hq9.2).trans ((zq54 q hq9.2).trans (zq40 q hq9.2))).trans (zo5 q hq9.1))
        obtain ⟨r9, hr9⟩ := bt_ex w (by omega)
        exact f_least_m wf (bt_lt w (2 * rp.toInt.toNat) (by omega) (by omega) r9 hr9) hr9 (by decide) zq49
      · refine w_iconst (by decide) (tX11_feast_0_ok (28, .iconst (-1), 1) (List.mem_of_getElem? (i := 16) rfl)) (fun zv74 ze75 => ?_)
        refine w_iret rfl (tX11_feast_0_ok (29, .ireturn, 1) (List.mem_of_getElem? (i := 17) rfl)) ?_
        exact hq _ _ _ ⟨fun z => absurd z (by omega), fun _ => by omega⟩ zc4 zf10 (fun q hq9 => zo5 q hq9.1)
end
