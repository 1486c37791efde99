/-! ints as integers (the first rows begin from the kit's COUNTS.to-paste) -/
theorem fb_rng (x : Int32) : -2147483648 ≤ x.toInt ∧ x.toInt < 2147483648 := by
  have h1 := Int32.le_toInt x
  have h2 := Int32.toInt_lt x
  omega
theorem fb_bmod {z : Int} (h1 : -2147483648 ≤ z) (h2 : z < 2147483648) : z.bmod (2 ^ 32) = z := by
  rw [Int.bmod_eq_of_le (by omega) (by omega)]
theorem fb_addI {x y : Int32} (h1 : -2147483648 ≤ x.toInt + y.toInt) (h2 : x.toInt + y.toInt < 2147483648) : (x + y).toInt = x.toInt + y.toInt := by
  rw [Int32.toInt_add, fb_bmod h1 h2]
theorem fb_subI {x y : Int32} (h1 : -2147483648 ≤ x.toInt - y.toInt) (h2 : x.toInt - y.toInt < 2147483648) : (x - y).toInt = x.toInt - y.toInt := by
  rw [Int32.toInt_sub, fb_bmod h1 h2]
theorem fb_mulI {x y : Int32} (h1 : -2147483648 ≤ x.toInt * y.toInt) (h2 : x.toInt * y.toInt < 2147483648) : (x * y).toInt = x.toInt * y.toInt := by
  rw [Int32.toInt_mul, fb_bmod h1 h2]
theorem fb_negI {x : Int32} (h : x.toInt ≠ -2147483648) : (-x).toInt = -x.toInt := by
  have := fb_rng x
  rw [Int32.toInt_neg, fb_bmod (by omega) (by omega)]
theorem fb_ofI {z : Int} (h1 : -2147483648 ≤ z) (h2 : z < 2147483648) : (Int32.ofInt z).toInt = z := by
  rw [Int32.toInt_ofInt, fb_bmod h1 h2]
theorem fb_asI (x : Int32) : Int32.ofInt x.toInt = x := Int32.ofInt_toInt x
theorem kn_tn {y : Int32} (h : 0 ≤ y.toInt) : (y.toBitVec.toNat : Int) = y.toInt := by
  have e : y.toInt = y.toBitVec.toInt := rfl
  rw [e] at h ⊢
  rw [BitVec.toInt_eq_toNat_cond] at h ⊢
  split
  · rfl
  · rename_i h2
    rw [if_neg h2] at h
    have := y.toBitVec.isLt
    omega
theorem kn_and (x : Int32) {y : Int32} (h : 0 ≤ y.toInt) : 0 ≤ (x &&& y).toInt ∧ (x &&& y).toInt ≤ y.toInt := by
  have e : (x &&& y).toInt = (x &&& y).toBitVec.toInt := rfl
  have hle : (x &&& y).toBitVec.toNat ≤ y.toBitVec.toNat := by
    rw [Int32.toBitVec_and, BitVec.toNat_and]
    exact Nat.and_le_right
  have h1 := kn_tn h
  have h3 : y.toInt < 2147483648 := (fb_rng y).2
  rw [e, BitVec.toInt_eq_toNat_cond, if_pos (by omega)]
  omega
theorem kn_andL {x : Int32} (y : Int32) (h : 0 ≤ x.toInt) : 0 ≤ (x &&& y).toInt ∧ (x &&& y).toInt ≤ x.toInt := by
  have e : x &&& y = y &&& x := by
    apply Int32.toBitVec_inj.mp
    rw [Int32.toBitVec_and, Int32.toBitVec_and, BitVec.and_comm]
  rw [e]
  exact kn_and y h
theorem kn_m31 {k : Nat} (hk : k < 32) : ((Int32.ofInt k &&& 31).toBitVec.smod 32).toNat = k := by
  have : ∀ j : Fin 32, ((Int32.ofInt (j.val : Int) &&& 31).toBitVec.smod 32).toNat = j.val := by decide +kernel
  exact this ⟨k, hk⟩
theorem kn_shr (x y : Int32) {k : Nat} (hk : k < 32) (hy : y.toInt = k) : (x >>> (y &&& 31)).toInt = x.toInt / (2 ^ k : Nat) := by
  have hy2 : y = Int32.ofInt k := by rw [← hy, fb_asI]
  rw [hy2, pk_shr x _ k (kn_m31 hk), Int.shiftRight_eq_div_pow]
theorem kn_div {x y : Int32} (hx : 0 ≤ x.toInt) (hy : 0 < y.toInt) : (x / y).toInt = x.toInt / y.toInt := lg_idiv_nonneg hx (by omega)
theorem kn_div0 {x y : Int32} (hx : x.toInt < 0) (hy : -y.toInt < x.toInt) : (x / y).toInt = 0 := by
  have h0 : x.toInt.tdiv y.toInt = 0 := by
    have e : x.toInt = -(-x.toInt) := by omega
    rw [e, Int.neg_tdiv, Int.tdiv_eq_zero_of_lt (by omega) (by omega)]
    rfl
  rw [Int32.toInt_div, h0]
  rfl
theorem kn_rem {x y : Int32} (hx : 0 ≤ x.toInt) (hy : 0 < y.toInt) : (x - x / y * y).toInt = x.toInt % y.toInt := by
  have h1 := kn_div hx hy
  have h2 := fb_rng x
  have h3 := Int.ediv_mul_le x.toInt (b := y.toInt) (by omega)
  have h4 : 0 ≤ x.toInt / y.toInt := Int.ediv_nonneg hx (by omega)
  have h5 : 0 ≤ x.toInt / y.toInt * y.toInt := Int.mul_nonneg h4 (by omega)
  have h6 : (x / y * y).toInt = x.toInt / y.toInt * y.toInt := by
    rw [fb_mulI (by rw [h1]; omega) (by rw [h1]; omega), h1]
  rw [fb_subI (by rw [h6]; omega) (by rw [h6]; omega), h6, Int.emod_def, Int.mul_comm]
theorem kn_lt (x y : Int32) : x < y ↔ x.toInt < y.toInt := Int32.lt_iff_toInt_lt
theorem kn_le (x y : Int32) : x ≤ y ↔ x.toInt ≤ y.toInt := Int32.le_iff_toInt_le
theorem kn_eq (x y : Int32) : x = y ↔ x.toInt = y.toInt := Int32.toInt_inj.symm
theorem kn_in {x : Int32} {n : Nat} (h0 : 0 ≤ x.toInt) (h1 : x.toInt < n) : vp_in x n := vp_in_iff.mpr ⟨h0, h1⟩
theorem kn_cl {x : Int32} (h0 : 0 ≤ x.toInt) : (x.toNatClampNeg : Int) = x.toInt := by
  show ((x.toInt.toNat : Nat) : Int) = x.toInt
  omega
theorem kn_bi {n : Int} (h1 : -128 ≤ n) (h2 : n ≤ 127) : (Int8.ofInt n).toInt32.toInt = n := by
  rw [Int8.toInt_toInt32, Int8.toInt_ofInt, Int.bmod_eq_of_le (by simp only [Int8.size]; omega) (by simp only [Int8.size]; omega)]
theorem kn_si {n : Int} (h1 : -32768 ≤ n) (h2 : n ≤ 32767) : (Int16.ofInt n).toInt32.toInt = n := by
  rw [Int16.toInt_toInt32, Int16.toInt_ofInt, Int.bmod_eq_of_le (by simp only [Int16.size]; omega) (by simp only [Int16.size]; omega)]
theorem kn_bool {x : Int32} (h0 : 0 ≤ x.toInt) (h1 : x.toInt ≤ 1) : x = 0 ∨ x = 1 := by
  rcases (show x.toInt = 0 ∨ x.toInt = 1 by omega) with h | h
  · exact Or.inl ((kn_eq x 0).mpr (by rw [h]; rfl))
  · exact Or.inr ((kn_eq x 1).mpr (by rw [h]; rfl))
theorem kn_nz {x : Int32} (h0 : 0 ≤ x.toInt) (h1 : x.toInt ≤ 1) : narrow .boolean (.int x) = .int x ∧ fits .boolean (.int x) = true ∧ vp_nar .boolean x = x := by
  rcases kn_bool h0 h1 with rfl | rfl
  · decide +kernel
  · decide +kernel
