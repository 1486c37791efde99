/-! the sign of a number, as Integer.signum finds it -/
theorem sg_u (x : Int32) : (x.toUInt32 >>> ((31 : Int32).toUInt32 &&& Int32.toUInt32 31)).toInt32.toInt = if x.toInt < 0 then 1 else 0 := by
  have h1 : ((31 : Int32).toUInt32 &&& Int32.toUInt32 31) = 31 := by decide
  rw [h1]
  have h2 : (x.toUInt32 >>> 31).toNat = x.toBitVec.toNat / 2147483648 := by
    rw [UInt32.toNat_shiftRight]
    show x.toBitVec.toNat >>> (31 % 32) = _
    rw [Nat.shiftRight_eq_div_pow]
  have h3 := x.toBitVec.isLt
  have h4 : (x.toUInt32 >>> 31).toInt32.toInt = ((x.toUInt32 >>> 31).toNat : Int).bmod 4294967296 := by
    rw [← Int32.toInt_toBitVec]
    exact BitVec.toInt_eq_toNat_bmod _
  rw [h4, h2, ← Int32.toInt_toBitVec x, BitVec.toInt_eq_toNat_cond]
  rw [Int.bmod_def]
  split <;> split <;> split <;> omega
theorem sg_v {x v : Int32} (hx : -1000000000 ≤ x.toInt ∧ x.toInt ≤ 1000000000) (e : v = (x >>> (31 &&& 31)) ||| ((-x).toUInt32 >>> ((31 : Int32).toUInt32 &&& Int32.toUInt32 31)).toInt32) : v.toInt = if 0 < x.toInt then 1 else if x.toInt < 0 then -1 else 0 := by
  have h1 := kn_shr x 31 (k := 31) (by decide) (by decide)
  have h2 := sg_u (-x)
  have h3 : (-x).toInt = -x.toInt := by
    rw [Int32.toInt_neg]
    rw [Int.bmod_def]
    split <;> omega
  rw [h3] at h2
  generalize (x >>> (31 &&& 31)) = a at *
  generalize ((-x).toUInt32 >>> ((31 : Int32).toUInt32 &&& Int32.toUInt32 31)).toInt32 = b at *
  have h9 : ((2 ^ 31 : Nat) : Int) = 2147483648 := by decide
  rw [h9] at h1
  by_cases c1 : 0 < x.toInt
  · have ha : a = 0 := (kn_eq _ _).mpr (by rw [h1]; show _ = (0 : Int); omega)
    have hb : b = 1 := (kn_eq _ _).mpr (by rw [h2, if_pos (by omega)]; rfl)
    rw [e, ha, hb, if_pos c1]
    decide
  · by_cases c2 : x.toInt < 0
    · have ha : a = -1 := (kn_eq _ _).mpr (by rw [h1]; show _ = (-1 : Int); omega)
      have hb : b = 0 := (kn_eq _ _).mpr (by rw [h2, if_neg (by omega)]; rfl)
      rw [e, ha, hb, if_neg c1, if_pos c2]
      decide
    · have ha : a = 0 := (kn_eq _ _).mpr (by rw [h1]; show _ = (0 : Int); omega)
      have hb : b = 0 := (kn_eq _ _).mpr (by rw [h2, if_neg (by omega)]; rfl)
      rw [e, ha, hb, if_neg c1, if_neg c2]
      decide
