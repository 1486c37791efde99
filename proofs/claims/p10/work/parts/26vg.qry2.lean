/-! strain, above: what is answered (made by gen_qry2) -/
def st9 (τ : aN) (φ : zP) (p : Nat) : Int := kb τ φ (2 * p) + kb τ φ (2 * p + 1) + φ.2.2.1 p 7 * φ.2.2.1 p 1
/-- the first of the greatest among 0 .. k -/
def am9 (s : Nat → Int) : Nat → Nat
  | 0 => 0
  | k + 1 => if s (am9 s k) < s (k + 1) then k + 1 else am9 s k
theorem am9_le (s : Nat → Int) : ∀ k, am9 s k ≤ k
  | 0 => Nat.le_refl 0
  | k + 1 => by
    have := am9_le s k
    show (if s (am9 s k) < s (k + 1) then k + 1 else am9 s k) ≤ k + 1
    split <;> omega
theorem am9_t {s : Nat → Int} {k : Nat} (h : s (am9 s k) < s (k + 1)) : am9 s (k + 1) = k + 1 := if_pos h
theorem am9_f {s : Nat → Int} {k : Nat} (h : ¬ s (am9 s k) < s (k + 1)) : am9 s (k + 1) = am9 s k := if_neg h
abbrev c9_strain (p : Int32) (τ : aN) : Prop := ¬ τ.1 = 0 ∧ (p.toInt = -1 ∨ 0 ≤ p.toInt ∧ p.toInt < (τ.1 : Int))
def q9_strain (p : Int32) (τ : aN) (φ : zP) : Int := if p.toInt = -1 then ((am9 (st9 τ φ) (τ.1 - 1) : Nat) : Int) else st9 τ φ p.toInt.toNat
def b9_strain (p : Int32) (τ : aN) (φ : zP) (v : Option Value) : Prop := ∃ x : Int32, v = some (.int x) ∧ (c9_strain p τ ∧ x.toInt = q9_strain p τ φ ∨ ¬ c9_strain p τ ∧ x.toInt = -1)
/-- a set of rooms, bit by bit -/
def ab9 (P : Nat → Bool) : Nat → Int32
  | 0 => 0
  | k + 1 => ab9 P k ||| (if P k = true then (1 : Int32) <<< (Int32.ofNat k &&& 31) else 0)
theorem ab9_t {P : Nat → Bool} {k : Nat} (h : P k = true) : ab9 P (k + 1) = ab9 P k ||| (1 : Int32) <<< (Int32.ofNat k &&& 31) := by
  show ab9 P k ||| (if P k = true then (1 : Int32) <<< (Int32.ofNat k &&& 31) else 0) = _
  rw [if_pos h]
theorem ab9_f {P : Nat → Bool} {k : Nat} (h : ¬ P k = true) : ab9 P (k + 1) = ab9 P k ||| 0 := by
  show ab9 P k ||| (if P k = true then (1 : Int32) <<< (Int32.ofNat k &&& 31) else 0) = _
  rw [if_neg h]
def p9_above (r : Nat) (φ : zP) : Nat → Bool := fun k => decide (hT9 φ.2.2.1 (φ.1 56) r < hT9 φ.2.2.1 (φ.1 56) k)
abbrev c9_above (p : Int32) (τ : aN) : Prop := 0 ≤ p.toInt ∧ p.toInt < 2 * (τ.1 : Int)
def b9_above (p : Int32) (τ : aN) (φ : zP) (v : Option Value) : Prop := ∃ x : Int32, v = some (.int x) ∧ (c9_above p τ ∧ x = ab9 (p9_above p.toInt.toNat φ) (2 * τ.1) ∨ ¬ c9_above p τ ∧ x.toInt = -1)
theorem un_strain {p w1 w2 : Int32} {τ : aN} {φ : zP} (h1 : b9_strain p τ φ (some (.int w1))) (h2 : b9_strain p τ φ (some (.int w2))) : w1.toInt = w2.toInt := by
  obtain ⟨x1, e1, h1⟩ := h1
  cases e1
  obtain ⟨x2, e2, h2⟩ := h2
  cases e2
  exact un_9 (fun c d => d c) h1 h2
theorem un_above {p w1 w2 : Int32} {τ : aN} {φ : zP} (h1 : b9_above p τ φ (some (.int w1))) (h2 : b9_above p τ φ (some (.int w2))) : w1.toInt = w2.toInt := by
  obtain ⟨x1, e1, h1⟩ := h1
  cases e1
  obtain ⟨x2, e2, h2⟩ := h2
  cases e2
  rcases h1 with ⟨c, e⟩ | ⟨c, e⟩ <;> rcases h2 with ⟨d, f⟩ | ⟨d, f⟩
  · rw [e, f]
  · exact absurd c d
  · exact absurd d c
  · exact e.trans f.symm
section
variable {l : Launch} {D : va_G} {tys : List (ClassId × FieldType)} {A : Nat → Prop} {X : State → Prop} {fr lo : Nat} {M : ch_M} {Q : Option Value → ch_H → Prop} {pc : Nat} {lv : List (Nat × Value)} {st : List Value} {cA : Nat → ClassId} {h : ch_H} {ad : Nat → Nat} {I I1 : zI} {W W1 : zW} {O : zO} {n j pe ga : Nat} {T T1 : Nat → Int32} {d d1 : Int64} {τ : aN} {φ : zP} {b : Nat → Int} {ρ : aRw}
theorem kb_b (hk : kok τ φ) {q : Nat} (hq : q < 2 * τ.1) : -68040 ≤ kb τ φ q ∧ kb τ φ q ≤ 68040 := by
  have n6 := hk.1.1
  have h1 := sp_br_b hk.bo 12 q (by omega)
  have h2 := pw_b (q / 2)
  unfold kb bb
  omega
theorem st_b (hk : kok τ φ) {p : Nat} (hp : p < τ.1) : -200000 ≤ st9 τ φ p ∧ st9 τ φ p ≤ 200000 := by
  have h1 := kb_b hk (q := 2 * p) (by omega)
  have h2 := kb_b hk (q := 2 * p + 1) (by omega)
  obtain ⟨w0, wL, wX, -, -, wD, wI, wV, wH⟩ := (hk.1.2 p hp).1
  have h3 := mul_bd wV (y := φ.2.2.1 p 1) (by omega)
  unfold st9
  omega
theorem z9q_strainOf (hT : k_tys tys cA) {p : Int32} (hz : zr zNC cA ad I W O h) (hk : kok τ φ) (h1 : pz I τ.1 φ.2.2.1) (hb25 : ∀ q, q < 2 * τ.1 → (I 25 q).toInt = kb τ φ q) (h0 : 0 ≤ p.toInt ∧ p.toInt < (τ.1 : Int)) (hq : ∀ v : Int32, v.toInt = st9 τ φ p.toInt.toNat → Q (some (.int v)) h) : ww l D tys A X fr lo mX9_strainOf Q 0 [(0, .ref (ad 4)), (1, .ref (ad 2)), (2, .int p)] [] h := by
  have n6 := hk.1.1
  have hp9 : p.toInt.toNat < τ.1 := by omega
  obtain ⟨-, rL, -, -, -, -, -, rV, -⟩ := h1.2.2 _ hp9
  obtain ⟨w0, wL, wX, -, -, wD, wI, wV, wH⟩ := (hk.1.2 _ hp9).1
  have k1 := kb_b hk (q := 2 * p.toInt.toNat) (by omega)
  have k2 := kb_b hk (q := 2 * p.toInt.toNat + 1) (by omega)
  refine w_aload_n (List.Mem.head _) (tX9_strainOf_0_ok (0, .aload_n 0, 1) (List.mem_of_getElem? (i := 0) rfl)) ?_
  refine z_getR (L1 := 25) (own := 14) (k := 0) hz rfl rfl rfl rfl rfl rfl rfl (by decide) (tX9_strainOf_0_ok (1, .getfield 9, 3) (List.mem_of_getElem? (i := 1) rfl)) ?_
  refine w_iconst (by decide) (tX9_strainOf_0_ok (4, .iconst 2, 1) (List.mem_of_getElem? (i := 2) rfl)) (fun zv1 ze2 => ?_)
  refine w_iload_n (List.Mem.tail _ (List.Mem.tail _ (List.Mem.head _))) (tX9_strainOf_0_ok (5, .iload_n 2, 1) (List.mem_of_getElem? (i := 3) rfl)) ?_
  refine w_imul (by assumption) (by omega) (by omega) (tX9_strainOf_0_ok (6, .imul, 1) (List.mem_of_getElem? (i := 4) rfl)) (fun zv3 ze4 => ?_)
  refine z_iald (f := (I 25)) hT hz rfl rfl rfl (by omega) (by omega) (tX9_strainOf_0_ok (7, .iaload, 1) (List.mem_of_getElem? (i := 5) rfl)) (fun zv5 zu6 => ?_)
  have ze7 : zv5.toInt = ((I 25) zv3.toInt.toNat).toInt := congrArg _ zu6
  rw [show zv3.toInt.toNat = 2 * p.toInt.toNat by omega] at ze7
  rw [hb25 _ (by omega)] at ze7
  refine w_aload_n (List.Mem.head _) (tX9_strainOf_0_ok (8, .aload_n 0, 1) (List.mem_of_getElem? (i := 6) rfl)) ?_
  refine z_getR (L1 := 25) (own := 14) (k := 0) hz rfl rfl rfl rfl rfl rfl rfl (by decide) (tX9_strainOf_0_ok (9, .getfield 9, 3) (List.mem_of_getElem? (i := 7) rfl)) ?_
  refine w_iconst (by decide) (tX9_strainOf_0_ok (12, .iconst 2, 1) (List.mem_of_getElem? (i := 8) rfl)) (fun zv8 ze9 => ?_)
  refine w_iload_n (List.Mem.tail _ (List.Mem.tail _ (List.Mem.head _))) (tX9_strainOf_0_ok (13, .iload_n 2, 1) (List.mem_of_getElem? (i := 9) rfl)) ?_
  refine w_imul (by assumption) (by omega) (by omega) (tX9_strainOf_0_ok (14, .imul, 1) (List.mem_of_getElem? (i := 10) rfl)) (fun zv10 ze11 => ?_)
  refine w_iconst (by decide) (tX9_strainOf_0_ok (15, .iconst 1, 1) (List.mem_of_getElem? (i := 11) rfl)) (fun zv12 ze13 => ?_)
  refine w_iadd (by omega) (by omega) (tX9_strainOf_0_ok (16, .iadd, 1) (List.mem_of_getElem? (i := 12) rfl)) (fun zv14 ze15 => ?_)
  refine z_iald (f := (I 25)) hT hz rfl rfl rfl (by omega) (by omega) (tX9_strainOf_0_ok (17, .iaload, 1) (List.mem_of_getElem? (i := 13) rfl)) (fun zv16 zu17 => ?_)
  have ze18 : zv16.toInt = ((I 25) zv14.toInt.toNat).toInt := congrArg _ zu17
  rw [show zv14.toInt.toNat = 2 * p.toInt.toNat + 1 by omega] at ze18
  rw [hb25 _ (by omega)] at ze18
  refine w_iadd (by omega) (by omega) (tX9_strainOf_0_ok (18, .iadd, 1) (List.mem_of_getElem? (i := 14) rfl)) (fun zv19 ze20 => ?_)
  refine w_aload_n (List.Mem.tail _ (List.Mem.head _)) (tX9_strainOf_0_ok (19, .aload_n 1, 1) (List.mem_of_getElem? (i := 15) rfl)) ?_
  refine z_getR (L1 := 17) (own := 14) (k := 7) hz rfl rfl rfl rfl rfl rfl rfl (by decide) (tX9_strainOf_0_ok (20, .getfield 54, 3) (List.mem_of_getElem? (i := 16) rfl)) ?_
  refine w_iload_n (List.Mem.tail _ (List.Mem.tail _ (List.Mem.head _))) (tX9_strainOf_0_ok (23, .iload_n 2, 1) (List.mem_of_getElem? (i := 17) rfl)) ?_
  refine z_iald (f := (I 17)) hT hz rfl rfl rfl (by omega) (by omega) (tX9_strainOf_0_ok (24, .iaload, 1) (List.mem_of_getElem? (i := 18) rfl)) (fun zv21 zu22 => ?_)
  have ze23 : zv21.toInt = ((I 17) p.toInt.toNat).toInt := congrArg _ zu22
  refine w_aload_n (List.Mem.tail _ (List.Mem.head _)) (tX9_strainOf_0_ok (25, .aload_n 1, 1) (List.mem_of_getElem? (i := 19) rfl)) ?_
  refine z_getR (L1 := 12) (own := 14) (k := 2) hz rfl rfl rfl rfl rfl rfl rfl (by decide) (tX9_strainOf_0_ok (26, .getfield 57, 3) (List.mem_of_getElem? (i := 20) rfl)) ?_
  refine w_iload_n (List.Mem.tail _ (List.Mem.tail _ (List.Mem.head _))) (tX9_strainOf_0_ok (29, .iload_n 2, 1) (List.mem_of_getElem? (i := 21) rfl)) ?_
  refine z_iald (f := (I 12)) hT hz rfl rfl rfl (by omega) (by omega) (tX9_strainOf_0_ok (30, .iaload, 1) (List.mem_of_getElem? (i := 22) rfl)) (fun zv24 zu25 => ?_)
  have ze26 : zv24.toInt = ((I 12) p.toInt.toNat).toInt := congrArg _ zu25
  refine w_imulB (by omega) (by omega) (tX9_strainOf_0_ok (31, .imul, 1) (List.mem_of_getElem? (i := 23) rfl)) (fun zv27 ze28 zb29 zb30 => ?_)
  refine w_iadd (by omega) (by omega) (tX9_strainOf_0_ok (32, .iadd, 1) (List.mem_of_getElem? (i := 24) rfl)) (fun zv31 ze32 => ?_)
  refine w_iret rfl (tX9_strainOf_0_ok (33, .ireturn, 1) (List.mem_of_getElem? (i := 25) rfl)) ?_
  rw [ze23, rV, ze26, rL] at ze28
  refine hq _ ?_
  unfold st9
  omega
theorem y9q_strainOf (hT : k_tys tys cA) {p : Int32} (hz : zr zNM cA ad I W O h) (hk : kok τ φ) (h1 : qz I τ.1 φ.2.2.1) (hy : yz I τ.1 τ.2.2.1 (kb τ φ)) (hf : 20 ≤ fr) (hlo : 600 ≤ lo) (h0 : 0 ≤ p.toInt ∧ p.toInt < (τ.1 : Int)) (hq : ∀ v : Int32, v.toInt = st9 τ φ p.toInt.toNat → Q (some (.int v)) h) : ww l D tys A X fr lo mX11_strainOf Q 0 [(0, .ref (ad 50)), (1, .int p)] [] h := by
  have n6 := hk.1.1
  have hp9 : p.toInt.toNat < τ.1 := by omega
  obtain ⟨w0, wL, wX, -, -, wD, wI, wV, wH⟩ := (hk.1.2 _ hp9).1
  have k1 := kb_b hk (q := 2 * p.toInt.toNat) (by omega)
  have k2 := kb_b hk (q := 2 * p.toInt.toNat + 1) (by omega)
  refine w_aload_n (List.Mem.head _) (tX11_strainOf_0_ok (0, .aload_n 0, 1) (List.mem_of_getElem? (i := 0) rfl)) ?_
  refine w_iconst (by decide) (tX11_strainOf_0_ok (1, .iconst 2, 1) (List.mem_of_getElem? (i := 1) rfl)) (fun zv1 ze2 => ?_)
  refine w_iload_n (List.Mem.tail _ (List.Mem.head _)) (tX11_strainOf_0_ok (2, .iload_n 1, 1) (List.mem_of_getElem? (i := 2) rfl)) ?_
  refine w_imul (by assumption) (by omega) (by omega) (tX11_strainOf_0_ok (3, .imul, 1) (List.mem_of_getElem? (i := 3) rfl)) (fun zv3 ze4 => ?_)
  refine w_callV (own := 16) (mi := 163) [.int zv3] [] [(0, .ref (ad 50)), (1, .int zv3)] rfl (cllw_X11 (283, 0, 163) (List.mem_of_getElem? (i := 37) rfl)) rfl rfl (hz.ob rfl rfl) rfl (by omega) (w_lo (n := 23) rfl (by omega)) (Nat.le_of_ble_eq_true rfl) (Nat.le_of_ble_eq_true rfl) rfl (tX11_strainOf_0_ok (4, .invokevirtual 283, 3) (List.mem_of_getElem? (i := 4) rfl)) (y_bears hT hz h1 hy ⟨by omega, by omega⟩ (by omega) (w_sub (n := 23) rfl (by omega)) (fun zv5 ze6 => ?_))
  show ww l D tys A X fr lo mX11_strainOf Q 7 [(0, .ref (ad 50)), (1, .int p)] [.int zv5] h
  rw [show zv3.toInt.toNat = 2 * p.toInt.toNat by omega] at ze6
  refine w_aload_n (List.Mem.head _) (tX11_strainOf_0_ok (7, .aload_n 0, 1) (List.mem_of_getElem? (i := 5) rfl)) ?_
  refine w_iconst (by decide) (tX11_strainOf_0_ok (8, .iconst 2, 1) (List.mem_of_getElem? (i := 6) rfl)) (fun zv7 ze8 => ?_)
  refine w_iload_n (List.Mem.tail _ (List.Mem.head _)) (tX11_strainOf_0_ok (9, .iload_n 1, 1) (List.mem_of_getElem? (i := 7) rfl)) ?_
  refine w_imul (by assumption) (by omega) (by omega) (tX11_strainOf_0_ok (10, .imul, 1) (List.mem_of_getElem? (i := 8) rfl)) (fun zv9 ze10 => ?_)
  refine w_iconst (by decide) (tX11_strainOf_0_ok (11, .iconst 1, 1) (List.mem_of_getElem? (i := 9) rfl)) (fun zv11 ze12 => ?_)
  refine w_iadd (by omega) (by omega) (tX11_strainOf_0_ok (12, .iadd, 1) (List.mem_of_getElem? (i := 10) rfl)) (fun zv13 ze14 => ?_)
  refine w_callV (own := 16) (mi := 163) [.int zv13] [.int zv5] [(0, .ref (ad 50)), (1, .int zv13)] rfl (cllw_X11 (283, 0, 163) (List.mem_of_getElem? (i := 37) rfl)) rfl rfl (hz.ob rfl rfl) rfl (by omega) (w_lo (n := 23) rfl (by omega)) (Nat.le_of_ble_eq_true rfl) (Nat.le_of_ble_eq_true rfl) rfl (tX11_strainOf_0_ok (13, .invokevirtual 283, 3) (List.mem_of_getElem? (i := 11) rfl)) (y_bears hT hz h1 hy ⟨by omega, by omega⟩ (by omega) (w_sub (n := 23) rfl (by omega)) (fun zv15 ze16 => ?_))
  show ww l D tys A X fr lo mX11_strainOf Q 16 [(0, .ref (ad 50)), (1, .int p)] [.int zv15, .int zv5] h
  rw [show zv13.toInt.toNat = 2 * p.toInt.toNat + 1 by omega] at ze16
  refine w_iadd (by omega) (by omega) (tX11_strainOf_0_ok (16, .iadd, 1) (List.mem_of_getElem? (i := 12) rfl)) (fun zv17 ze18 => ?_)
  refine w_aload_n (List.Mem.head _) (tX11_strainOf_0_ok (17, .aload_n 0, 1) (List.mem_of_getElem? (i := 13) rfl)) ?_
  refine w_iload_n (List.Mem.tail _ (List.Mem.head _)) (tX11_strainOf_0_ok (18, .iload_n 1, 1) (List.mem_of_getElem? (i := 14) rfl)) ?_
  refine w_bipush (by decide) (tX11_strainOf_0_ok (19, .bipush 7, 2) (List.mem_of_getElem? (i := 15) rfl)) (fun zv19 ze20 => ?_)
  refine w_callV (own := 16) (mi := 219) [.int p, .int zv19] [.int zv17] [(0, .ref (ad 50)), (1, .int p), (2, .int zv19)] rfl (cllw_X11 (255, 0, 219) (List.mem_of_getElem? (i := 34) rfl)) rfl rfl (hz.ob rfl rfl) rfl (by omega) (w_lo (n := 22) rfl (by omega)) (Nat.le_of_ble_eq_true rfl) (Nat.le_of_ble_eq_true rfl) rfl (tX11_strainOf_0_ok (21, .invokevirtual 255, 3) (List.mem_of_getElem? (i := 16) rfl)) (y_of hT hz h1 h0 (by omega) (fun zv21 ze22 => ?_))
  show ww l D tys A X fr lo mX11_strainOf Q 24 [(0, .ref (ad 50)), (1, .int p)] [.int zv21, .int zv17] h
  rw [show zv19.toInt.toNat = 7 by omega] at ze22
  refine w_aload_n (List.Mem.head _) (tX11_strainOf_0_ok (24, .aload_n 0, 1) (List.mem_of_getElem? (i := 17) rfl)) ?_
  refine w_iload_n (List.Mem.tail _ (List.Mem.head _)) (tX11_strainOf_0_ok (25, .iload_n 1, 1) (List.mem_of_getElem? (i := 18) rfl)) ?_
  refine w_iconst (by decide) (tX11_strainOf_0_ok (26, .iconst 1, 1) (List.mem_of_getElem? (i := 19) rfl)) (fun zv23 ze24 => ?_)
  refine w_callV (own := 16) (mi := 219) [.int p, .int zv23] [.int zv21, .int zv17] [(0, .ref (ad 50)), (1, .int p), (2, .int zv23)] rfl (cllw_X11 (255, 0, 219) (List.mem_of_getElem? (i := 34) rfl)) rfl rfl (hz.ob rfl rfl) rfl (by omega) (w_lo (n := 22) rfl (by omega)) (Nat.le_of_ble_eq_true rfl) (Nat.le_of_ble_eq_true rfl) rfl (tX11_strainOf_0_ok (27, .invokevirtual 255, 3) (List.mem_of_getElem? (i := 20) rfl)) (y_of hT hz h1 h0 (by omega) (fun zv25 ze26 => ?_))
  show ww l D tys A X fr lo mX11_strainOf Q 30 [(0, .ref (ad 50)), (1, .int p)] [.int zv25, .int zv21, .int zv17] h
  rw [show zv23.toInt.toNat = 1 by omega] at ze26
  refine w_imulB (by omega) (by omega) (tX11_strainOf_0_ok (30, .imul, 1) (List.mem_of_getElem? (i := 21) rfl)) (fun zv27 ze28 zb29 zb30 => ?_)
  refine w_iadd (by omega) (by omega) (tX11_strainOf_0_ok (31, .iadd, 1) (List.mem_of_getElem? (i := 22) rfl)) (fun zv31 ze32 => ?_)
  refine w_iret rfl (tX11_strainOf_0_ok (32, .ireturn, 1) (List.mem_of_getElem? (i := 23) rfl)) ?_
  rw [ze22, ze26] at ze28
  refine hq _ ?_
  unfold st9
  omega
theorem z9q_stL (hT : k_tys tys cA) {r : Int32} (hz : zr zNC cA ad I W O h) (hk : kok τ φ) (h1 : pz I τ.1 φ.2.2.1) (hb25 : ∀ q, q < 2 * τ.1 → (I 25 q).toInt = kb τ φ q) (hf : 30 ≤ fr) (hlo : 800 ≤ lo) (hn : 1 ≤ τ.1) (hq : ∀ v : Int32, v.toInt = ((am9 (st9 τ φ) (τ.1 - 1) : Nat) : Int) → Q (some (.int v)) h) : ∀ (j9 : Nat) (p mo : Int32), p.toInt + j9 = (τ.1 : Int) → 1 ≤ p.toInt → mo.toInt.toNat = am9 (st9 τ φ) (p.toInt.toNat - 1) ∧ 0 ≤ mo.toInt → ww l D tys A X fr lo mX10_strain Q 66 [(2, .int mo), (3, .int p), (0, .ref (ad 0)), (1, .int r)] [] h := by
  intro j9
  induction j9 using Nat.strongRecOn with
  | ind j9 ih =>
    intro p mo hj9 hp1 ⟨em, m0⟩
    have n6 := hk.1.1
    have al := am9_le (st9 τ φ) (p.toInt.toNat - 1)
    have r0 := h1.1
    refine w_iload_n (List.Mem.tail _ (List.Mem.head _)) (tX10_strain_0_ok (66, .iload_n 3, 1) (List.mem_of_getElem? (i := 36) rfl)) ?_
    refine w_aload_n (List.Mem.tail _ (List.Mem.tail _ (List.Mem.head _))) (tX10_strain_0_ok (67, .aload_n 0, 1) (List.mem_of_getElem? (i := 37) rfl)) ?_
    refine z_getR (L1 := 2) (own := 15) (k := 1) hz rfl rfl rfl rfl rfl rfl rfl (by decide) (tX10_strain_0_ok (68, .getfield 19, 3) (List.mem_of_getElem? (i := 38) rfl)) ?_
    refine z_get (f := (I 2)) (own := 15) (k := 0) hz rfl rfl rfl rfl rfl rfl rfl (by decide) (tX10_strain_0_ok (71, .getfield 95, 3) (List.mem_of_getElem? (i := 39) rfl)) ?_
    refine w_icmp_ge (tgt := 112) (tX10_strain_0_ok (74, .if_icmp .ge 38, 3) (List.mem_of_getElem? (i := 40) rfl)) rfl (fun zb1 => ?_) (fun zb1 => ?_)
    · refine w_iload_n (List.Mem.head _) (tX10_strain_0_ok (112, .iload_n 2, 1) (List.mem_of_getElem? (i := 58) rfl)) ?_
      refine w_iret rfl (tX10_strain_0_ok (113, .ireturn, 1) (List.mem_of_getElem? (i := 59) rfl)) ?_
      refine hq _ ?_
      rw [show τ.1 - 1 = p.toInt.toNat - 1 by omega, ← em]
      omega
    · refine w_aload_n (List.Mem.tail _ (List.Mem.tail _ (List.Mem.head _))) (tX10_strain_0_ok (77, .aload_n 0, 1) (List.mem_of_getElem? (i := 41) rfl)) ?_
      refine z_getR (L1 := 4) (own := 15) (k := 9) hz rfl rfl rfl rfl rfl rfl rfl (by decide) (tX10_strain_0_ok (78, .getfield 49, 3) (List.mem_of_getElem? (i := 42) rfl)) ?_
      refine w_aload_n (List.Mem.tail _ (List.Mem.tail _ (List.Mem.head _))) (tX10_strain_0_ok (81, .aload_n 0, 1) (List.mem_of_getElem? (i := 43) rfl)) ?_
      refine z_getR (L1 := 2) (own := 15) (k := 1) hz rfl rfl rfl rfl rfl rfl rfl (by decide) (tX10_strain_0_ok (82, .getfield 19, 3) (List.mem_of_getElem? (i := 44) rfl)) ?_
      refine w_iload_n (List.Mem.tail _ (List.Mem.head _)) (tX10_strain_0_ok (85, .iload_n 3, 1) (List.mem_of_getElem? (i := 45) rfl)) ?_
      refine w_callV (own := 15) (mi := 98) [.ref (ad 2), .int p] [] [(0, .ref (ad 4)), (1, .ref (ad 2)), (2, .int p)] rfl (cllw_X10 (354, 0, 98) (List.mem_of_getElem? (i := 42) rfl)) rfl rfl (hz.ob rfl rfl) rfl (by omega) (w_lo (n := 22) rfl (by omega)) (Nat.le_of_ble_eq_true rfl) (Nat.le_of_ble_eq_true rfl) rfl (tX10_strain_0_ok (86, .invokevirtual 354, 3) (List.mem_of_getElem? (i := 46) rfl)) (z9q_strainOf hT hz hk h1 hb25 ⟨by omega, by omega⟩ (fun zv2 ze3 => ?_))
      show ww l D tys A X fr lo mX10_strain Q 89 [(2, .int mo), (3, .int p), (0, .ref (ad 0)), (1, .int r)] [.int zv2] h
      refine w_aload_n (List.Mem.tail _ (List.Mem.tail _ (List.Mem.head _))) (tX10_strain_0_ok (89, .aload_n 0, 1) (List.mem_of_getElem? (i := 47) rfl)) ?_
      refine z_getR (L1 := 4) (own := 15) (k := 9) hz rfl rfl rfl rfl rfl rfl rfl (by decide) (tX10_strain_0_ok (90, .getfield 49, 3) (List.mem_of_getElem? (i := 48) rfl)) ?_
      refine w_aload_n (List.Mem.tail _ (List.Mem.tail _ (List.Mem.head _))) (tX10_strain_0_ok (93, .aload_n 0, 1) (List.mem_of_getElem? (i := 49) rfl)) ?_
      refine z_getR (L1 := 2) (own := 15) (k := 1) hz rfl rfl rfl rfl rfl rfl rfl (by decide) (tX10_strain_0_ok (94, .getfield 19, 3) (List.mem_of_getElem? (i := 50) rfl)) ?_
      refine w_iload_n (List.Mem.head _) (tX10_strain_0_ok (97, .iload_n 2, 1) (List.mem_of_getElem? (i := 51) rfl)) ?_
      refine w_callV (own := 15) (mi := 98) [.ref (ad 2), .int mo] [.int zv2] [(0, .ref (ad 4)), (1, .ref (ad 2)), (2, .int mo)] rfl (cllw_X10 (354, 0, 98) (List.mem_of_getElem? (i := 42) rfl)) rfl rfl (hz.ob rfl rfl) rfl (by omega) (w_lo (n := 22) rfl (by omega)) (Nat.le_of_ble_eq_true rfl) (Nat.le_of_ble_eq_true rfl) rfl (tX10_strain_0_ok (98, .invokevirtual 354, 3) (List.mem_of_getElem? (i := 52) rfl)) (z9q_strainOf hT hz hk h1 hb25 ⟨by omega, by omega⟩ (fun zv4 ze5 => ?_))
      show ww l D tys A X fr lo mX10_strain Q 101 [(2, .int mo), (3, .int p), (0, .ref (ad 0)), (1, .int r)] [.int zv4, .int zv2] h
      refine w_icmp_le (tgt := 106) (tX10_strain_0_ok (101, .if_icmp .le 5, 3) (List.mem_of_getElem? (i := 53) rfl)) rfl (fun zb6 => ?_) (fun zb6 => ?_)
      · refine w_iinc (fun zv7 => [(3, .int zv7), (2, .int mo), (0, .ref (ad 0)), (1, .int r)]) (fun _ => rfl) (List.Mem.tail _ (List.Mem.head _)) (Nat.le_of_ble_eq_true rfl) (by decide) (by omega) (by omega) (tX10_strain_0_ok (106, .iinc 3 1, 3) (List.mem_of_getElem? (i := 56) rfl)) (fun zv7 ze8 => ?_)
        refine w_goto (tgt := 66) (tX10_strain_0_ok (109, .goto (-43), 3) (List.mem_of_getElem? (i := 57) rfl)) rfl ?_
        rw [em] at ze5
        have ek : p.toInt.toNat = p.toInt.toNat - 1 + 1 := by omega
        rw [ek] at ze3
        refine w_lv [(2, .int mo), (3, .int zv7), (0, .ref (ad 0)), (1, .int r)] (by intro q hq; simp only [List.mem_cons, List.not_mem_nil, or_false] at hq ⊢; rcases hq with e | e | e | e <;> subst e <;> simp) ?_
        refine ih (j9 - 1) (by omega) _ _ (by omega) (by omega) ⟨?_, by omega⟩
        rw [show zv7.toInt.toNat - 1 = p.toInt.toNat - 1 + 1 by omega, am9_f (by omega)]
        exact em
      · refine w_iload_n (List.Mem.tail _ (List.Mem.head _)) (tX10_strain_0_ok (104, .iload_n 3, 1) (List.mem_of_getElem? (i := 54) rfl)) ?_
        refine w_istore_n [(2, .int p), (3, .int p), (0, .ref (ad 0)), (1, .int r)] rfl (Nat.le_of_ble_eq_true rfl) (tX10_strain_0_ok (105, .istore_n 2, 1) (List.mem_of_getElem? (i := 55) rfl)) ?_
        refine w_iinc (fun zv9 => [(3, .int zv9), (2, .int p), (0, .ref (ad 0)), (1, .int r)]) (fun _ => rfl) (List.Mem.tail _ (List.Mem.head _)) (Nat.le_of_ble_eq_true rfl) (by decide) (by omega) (by omega) (tX10_strain_0_ok (106, .iinc 3 1, 3) (List.mem_of_getElem? (i := 56) rfl)) (fun zv9 ze10 => ?_)
        refine w_goto (tgt := 66) (tX10_strain_0_ok (109, .goto (-43), 3) (List.mem_of_getElem? (i := 57) rfl)) rfl ?_
        rw [em] at ze5
        have ek : p.toInt.toNat = p.toInt.toNat - 1 + 1 := by omega
        rw [ek] at ze3
        refine w_lv [(2, .int p), (3, .int zv9), (0, .ref (ad 0)), (1, .int r)] (by intro q hq; simp only [List.mem_cons, List.not_mem_nil, or_false] at hq ⊢; rcases hq with e | e | e | e <;> subst e <;> simp) ?_
        refine ih (j9 - 1) (by omega) _ _ (by omega) (by omega) ⟨?_, by omega⟩
        rw [show zv9.toInt.toNat - 1 = p.toInt.toNat - 1 + 1 by omega, am9_t (by omega)]
        omega
theorem y9q_stL (hT : k_tys tys cA) {r : Int32} (hz : zr zNM cA ad I W O h) (hk : kok τ φ) (h1 : qz I τ.1 φ.2.2.1) (hy : yz I τ.1 τ.2.2.1 (kb τ φ)) (hf : 30 ≤ fr) (hlo : 800 ≤ lo) (hn : 1 ≤ τ.1) (hq : ∀ v : Int32, v.toInt = ((am9 (st9 τ φ) (τ.1 - 1) : Nat) : Int) → Q (some (.int v)) h) : ∀ (j9 : Nat) (p mo : Int32), p.toInt + j9 = (τ.1 : Int) → 1 ≤ p.toInt → mo.toInt.toNat = am9 (st9 τ φ) (p.toInt.toNat - 1) ∧ 0 ≤ mo.toInt → ww l D tys A X fr lo mX11_strain Q 42 [(2, .int mo), (3, .int p), (0, .ref (ad 50)), (1, .int r)] [] h := by
  intro j9
  induction j9 using Nat.strongRecOn with
  | ind j9 ih =>
    intro p mo hj9 hp1 ⟨em, m0⟩
    have n6 := hk.1.1
    have al := am9_le (st9 τ φ) (p.toInt.toNat - 1)
    have r0 := h1.1
    refine w_iload_n (List.Mem.tail _ (List.Mem.head _)) (tX11_strain_0_ok (42, .iload_n 3, 1) (List.mem_of_getElem? (i := 26) rfl)) ?_
    refine w_aload_n (List.Mem.tail _ (List.Mem.tail _ (List.Mem.head _))) (tX11_strain_0_ok (43, .aload_n 0, 1) (List.mem_of_getElem? (i := 27) rfl)) ?_
    refine z_get (f := (I 50)) (own := 16) (k := 20) hz rfl rfl rfl rfl rfl rfl rfl (by decide) (tX11_strain_0_ok (44, .getfield 248, 3) (List.mem_of_getElem? (i := 28) rfl)) ?_
    refine w_icmp_ge (tgt := 71) (tX11_strain_0_ok (47, .if_icmp .ge 24, 3) (List.mem_of_getElem? (i := 29) rfl)) rfl (fun zb1 => ?_) (fun zb1 => ?_)
    · refine w_iload_n (List.Mem.head _) (tX11_strain_0_ok (71, .iload_n 2, 1) (List.mem_of_getElem? (i := 41) rfl)) ?_
      refine w_iret rfl (tX11_strain_0_ok (72, .ireturn, 1) (List.mem_of_getElem? (i := 42) rfl)) ?_
      refine hq _ ?_
      rw [show τ.1 - 1 = p.toInt.toNat - 1 by omega, ← em]
      omega
    · refine w_aload_n (List.Mem.tail _ (List.Mem.tail _ (List.Mem.head _))) (tX11_strain_0_ok (50, .aload_n 0, 1) (List.mem_of_getElem? (i := 30) rfl)) ?_
      refine w_iload_n (List.Mem.tail _ (List.Mem.head _)) (tX11_strain_0_ok (51, .iload_n 3, 1) (List.mem_of_getElem? (i := 31) rfl)) ?_
      refine w_callV (own := 16) (mi := 245) [.int p] [] [(0, .ref (ad 50)), (1, .int p)] rfl (cllw_X11 (405, 0, 245) (List.mem_of_getElem? (i := 70) rfl)) rfl rfl (hz.ob rfl rfl) rfl (by omega) (w_lo (n := 21) rfl (by omega)) (Nat.le_of_ble_eq_true rfl) (Nat.le_of_ble_eq_true rfl) rfl (tX11_strain_0_ok (52, .invokevirtual 405, 3) (List.mem_of_getElem? (i := 32) rfl)) (y9q_strainOf hT hz hk h1 hy (by omega) (w_sub (n := 21) rfl (by omega)) ⟨by omega, by omega⟩ (fun zv2 ze3 => ?_))
      show ww l D tys A X fr lo mX11_strain Q 55 [(2, .int mo), (3, .int p), (0, .ref (ad 50)), (1, .int r)] [.int zv2] h
      refine w_aload_n (List.Mem.tail _ (List.Mem.tail _ (List.Mem.head _))) (tX11_strain_0_ok (55, .aload_n 0, 1) (List.mem_of_getElem? (i := 33) rfl)) ?_
      refine w_iload_n (List.Mem.head _) (tX11_strain_0_ok (56, .iload_n 2, 1) (List.mem_of_getElem? (i := 34) rfl)) ?_
      refine w_callV (own := 16) (mi := 245) [.int mo] [.int zv2] [(0, .ref (ad 50)), (1, .int mo)] rfl (cllw_X11 (405, 0, 245) (List.mem_of_getElem? (i := 70) rfl)) rfl rfl (hz.ob rfl rfl) rfl (by omega) (w_lo (n := 21) rfl (by omega)) (Nat.le_of_ble_eq_true rfl) (Nat.le_of_ble_eq_true rfl) rfl (tX11_strain_0_ok (57, .invokevirtual 405, 3) (List.mem_of_getElem? (i := 35) rfl)) (y9q_strainOf hT hz hk h1 hy (by omega) (w_sub (n := 21) rfl (by omega)) ⟨by omega, by omega⟩ (fun zv4 ze5 => ?_))
      show ww l D tys A X fr lo mX11_strain Q 60 [(2, .int mo), (3, .int p), (0, .ref (ad 50)), (1, .int r)] [.int zv4, .int zv2] h
      refine w_icmp_le (tgt := 65) (tX11_strain_0_ok (60, .if_icmp .le 5, 3) (List.mem_of_getElem? (i := 36) rfl)) rfl (fun zb6 => ?_) (fun zb6 => ?_)
      · refine w_iinc (fun zv7 => [(3, .int zv7), (2, .int mo), (0, .ref (ad 50)), (1, .int r)]) (fun _ => rfl) (List.Mem.tail _ (List.Mem.head _)) (Nat.le_of_ble_eq_true rfl) (by decide) (by omega) (by omega) (tX11_strain_0_ok (65, .iinc 3 1, 3) (List.mem_of_getElem? (i := 39) rfl)) (fun zv7 ze8 => ?_)
        refine w_goto (tgt := 42) (tX11_strain_0_ok (68, .goto (-26), 3) (List.mem_of_getElem? (i := 40) rfl)) rfl ?_
        rw [em] at ze5
        have ek : p.toInt.toNat = p.toInt.toNat - 1 + 1 := by omega
        rw [ek] at ze3
        refine w_lv [(2, .int mo), (3, .int zv7), (0, .ref (ad 50)), (1, .int r)] (by intro q hq; simp only [List.mem_cons, List.not_mem_nil, or_false] at hq ⊢; rcases hq with e | e | e | e <;> subst e <;> simp) ?_
        refine ih (j9 - 1) (by omega) _ _ (by omega) (by omega) ⟨?_, by omega⟩
        rw [show zv7.toInt.toNat - 1 = p.toInt.toNat - 1 + 1 by omega, am9_f (by omega)]
        exact em
      · refine w_iload_n (List.Mem.tail _ (List.Mem.head _)) (tX11_strain_0_ok (63, .iload_n 3, 1) (List.mem_of_getElem? (i := 37) rfl)) ?_
        refine w_istore_n [(2, .int p), (3, .int p), (0, .ref (ad 50)), (1, .int r)] rfl (Nat.le_of_ble_eq_true rfl) (tX11_strain_0_ok (64, .istore_n 2, 1) (List.mem_of_getElem? (i := 38) rfl)) ?_
        refine w_iinc (fun zv9 => [(3, .int zv9), (2, .int p), (0, .ref (ad 50)), (1, .int r)]) (fun _ => rfl) (List.Mem.tail _ (List.Mem.head _)) (Nat.le_of_ble_eq_true rfl) (by decide) (by omega) (by omega) (tX11_strain_0_ok (65, .iinc 3 1, 3) (List.mem_of_getElem? (i := 39) rfl)) (fun zv9 ze10 => ?_)
        refine w_goto (tgt := 42) (tX11_strain_0_ok (68, .goto (-26), 3) (List.mem_of_getElem? (i := 40) rfl)) rfl ?_
        rw [em] at ze5
        have ek : p.toInt.toNat = p.toInt.toNat - 1 + 1 := by omega
        rw [ek] at ze3
        refine w_lv [(2, .int p), (3, .int zv9), (0, .ref (ad 50)), (1, .int r)] (by intro q hq; simp only [List.mem_cons, List.not_mem_nil, or_false] at hq ⊢; rcases hq with e | e | e | e <;> subst e <;> simp) ?_
        refine ih (j9 - 1) (by omega) _ _ (by omega) (by omega) ⟨?_, by omega⟩
        rw [show zv9.toInt.toNat - 1 = p.toInt.toNat - 1 + 1 by omega, am9_t (by omega)]
        omega
theorem z9q_strain (hT : k_tys tys cA) {p : Int32} (hz : zr zNC cA ad I W O h) (hk : kok τ φ) (H : cS τ φ I W) (hf : 30 ≤ fr) (hlo : 900 ≤ lo) (hq : ∀ (g : ch_H) (v : Int32), (c9_strain p τ ∧ v.toInt = q9_strain p τ φ ∨ ¬ c9_strain p τ ∧ v.toInt = -1) → Q (some (.int v)) g) : ww l D tys A X fr lo mX10_strain Q 0 [(0, .ref (ad 0)), (1, .int p)] [] h := by
  have n6 := hk.1.1
  obtain ⟨ga6, pe8, ta6⟩ := hk.2.2.2.1
  obtain ⟨h1, ⟨h21, h22, h23⟩, h3, h4, h5, h6, h7, h8, h9, h10, h11⟩ := id H
  have r0 := h1.1
  refine w_aload_n (List.Mem.head _) (tX10_strain_0_ok (0, .aload_n 0, 1) (List.mem_of_getElem? (i := 0) rfl)) ?_
  refine z_getR (L1 := 2) (own := 15) (k := 1) hz rfl rfl rfl rfl rfl rfl rfl (by decide) (tX10_strain_0_ok (1, .getfield 19, 3) (List.mem_of_getElem? (i := 1) rfl)) ?_
  refine z_get (f := (I 2)) (own := 15) (k := 0) hz rfl rfl rfl rfl rfl rfl rfl (by decide) (tX10_strain_0_ok (4, .getfield 95, 3) (List.mem_of_getElem? (i := 2) rfl)) ?_
  refine w_if_eq (tgt := 23) (tX10_strain_0_ok (7, .ifCond .eq 16, 3) (List.mem_of_getElem? (i := 3) rfl)) rfl (fun zb1 => ?_) (fun zb1 => ?_)
  · refine w_iconst (by decide) (tX10_strain_0_ok (23, .iconst (-1), 1) (List.mem_of_getElem? (i := 11) rfl)) (fun zv2 ze3 => ?_)
    refine w_iret rfl (tX10_strain_0_ok (24, .ireturn, 1) (List.mem_of_getElem? (i := 12) rfl)) ?_
    have no : ¬ c9_strain p τ := by unfold c9_strain; omega
    exact hq _ _ (Or.inr ⟨no, by omega⟩)
  · refine w_iload_n (List.Mem.tail _ (List.Mem.head _)) (tX10_strain_0_ok (10, .iload_n 1, 1) (List.mem_of_getElem? (i := 4) rfl)) ?_
    refine w_iconst (by decide) (tX10_strain_0_ok (11, .iconst (-1), 1) (List.mem_of_getElem? (i := 5) rfl)) (fun zv4 ze5 => ?_)
    refine w_icmp_eq (tgt := 25) (tX10_strain_0_ok (12, .if_icmp .eq 13, 3) (List.mem_of_getElem? (i := 6) rfl)) rfl (fun zb6 => ?_) (fun zb6 => ?_)
    · refine w_aload_n (List.Mem.head _) (tX10_strain_0_ok (25, .aload_n 0, 1) (List.mem_of_getElem? (i := 13) rfl)) ?_
      refine z_getR (L1 := 4) (own := 15) (k := 9) hz rfl rfl rfl rfl rfl rfl rfl (by decide) (tX10_strain_0_ok (26, .getfield 49, 3) (List.mem_of_getElem? (i := 14) rfl)) ?_
      refine w_aload_n (List.Mem.head _) (tX10_strain_0_ok (29, .aload_n 0, 1) (List.mem_of_getElem? (i := 15) rfl)) ?_
      refine z_getR (L1 := 2) (own := 15) (k := 1) hz rfl rfl rfl rfl rfl rfl rfl (by decide) (tX10_strain_0_ok (30, .getfield 19, 3) (List.mem_of_getElem? (i := 16) rfl)) ?_
      refine w_aload_n (List.Mem.head _) (tX10_strain_0_ok (33, .aload_n 0, 1) (List.mem_of_getElem? (i := 17) rfl)) ?_
      refine z_getR (L1 := 100) (own := 15) (k := 3) hz rfl rfl rfl rfl rfl rfl rfl (by decide) (tX10_strain_0_ok (34, .getfield 29, 3) (List.mem_of_getElem? (i := 18) rfl)) ?_
      refine w_aload_n (List.Mem.head _) (tX10_strain_0_ok (37, .aload_n 0, 1) (List.mem_of_getElem? (i := 19) rfl)) ?_
      refine z_getR (L1 := 3) (own := 15) (k := 8) hz rfl rfl rfl rfl rfl rfl rfl (by decide) (tX10_strain_0_ok (38, .getfield 42, 3) (List.mem_of_getElem? (i := 20) rfl)) ?_
      refine w_callV (own := 15) (mi := 100) [.ref (ad 2), .ref (ad 100), .ref (ad 3)] [] [(0, .ref (ad 4)), (1, .ref (ad 2)), (2, .ref (ad 100)), (3, .ref (ad 3))] rfl (cllw_X10 (194, 0, 100) (List.mem_of_getElem? (i := 12) rfl)) rfl rfl (hz.ob rfl rfl) rfl (by omega) (w_lo (n := 28) rfl (by omega)) (Nat.le_of_ble_eq_true rfl) (Nat.le_of_ble_eq_true rfl) rfl (tX10_strain_0_ok (41, .invokevirtual 194, 3) (List.mem_of_getElem? (i := 21) rfl)) (z_weigh hT (j := 0) (T := φ.1 56) (Wt := φ.1 62) (by decide) hz h1 ⟨h22, pe8⟩ hk.bo h3.2.1 h3.2.2.1 h6 (by omega) (w_sub (n := 28) rfl (by omega)) (fun g1 I1 w1 w2 w3 w4 w5 => ?_))
      show ww l D tys A X fr lo mX10_strain Q 44 [(0, .ref (ad 0)), (1, .int p)] [] g1
      refine w_iload_n (List.Mem.tail _ (List.Mem.head _)) (tX10_strain_0_ok (44, .iload_n 1, 1) (List.mem_of_getElem? (i := 22) rfl)) ?_
      refine w_iconst (by decide) (tX10_strain_0_ok (45, .iconst (-1), 1) (List.mem_of_getElem? (i := 23) rfl)) (fun zv7 ze8 => ?_)
      refine w_icmp_eq (tgt := 62) (tX10_strain_0_ok (46, .if_icmp .eq 16, 3) (List.mem_of_getElem? (i := 24) rfl)) rfl (fun zb9 => ?_) (fun zb9 => ?_)
      · refine w_iconst (by decide) (tX10_strain_0_ok (62, .iconst 0, 1) (List.mem_of_getElem? (i := 32) rfl)) (fun zv10 ze11 => ?_)
        refine w_istore_n [(2, .int zv10), (0, .ref (ad 0)), (1, .int p)] rfl (Nat.le_of_ble_eq_true rfl) (tX10_strain_0_ok (63, .istore_n 2, 1) (List.mem_of_getElem? (i := 33) rfl)) ?_
        refine w_iconst (by decide) (tX10_strain_0_ok (64, .iconst 1, 1) (List.mem_of_getElem? (i := 34) rfl)) (fun zv12 ze13 => ?_)
        refine w_istore_n [(3, .int zv12), (2, .int zv10), (0, .ref (ad 0)), (1, .int p)] rfl (Nat.le_of_ble_eq_true rfl) (tX10_strain_0_ok (65, .istore_n 3, 1) (List.mem_of_getElem? (i := 35) rfl)) ?_
        have ye : c9_strain p τ := by unfold c9_strain; omega
        refine w_lv [(2, .int zv10), (3, .int zv12), (0, .ref (ad 0)), (1, .int p)] (by intro q hq; simp only [List.mem_cons, List.not_mem_nil, or_false] at hq ⊢; rcases hq with e | e | e | e <;> subst e <;> simp) ?_
        refine z9q_stL hT w4 hk (h1.mv (fun L hL => w3 L (by omega) (by omega))) w1 (by omega) (by omega) (by omega) (fun v e => hq _ v (Or.inl ⟨ye, ?_⟩)) (τ.1 - 1) _ _ (by omega) (by omega) ⟨?_, by omega⟩
        · rw [show q9_strain p τ φ = _ from if_pos (by omega)]
          exact e
        · rw [show zv12.toInt.toNat - 1 = 0 by omega]
          show zv10.toInt.toNat = 0
          omega
      · exfalso; omega
    · refine w_aload_n (List.Mem.head _) (tX10_strain_0_ok (15, .aload_n 0, 1) (List.mem_of_getElem? (i := 7) rfl)) ?_
      refine w_iload_n (List.Mem.tail _ (List.Mem.head _)) (tX10_strain_0_ok (16, .iload_n 1, 1) (List.mem_of_getElem? (i := 8) rfl)) ?_
      refine w_callV (own := 15) (mi := 123) [.int p] [] [(0, .ref (ad 0)), (1, .int p)] rfl (cllw_X10 (154, 0, 123) (List.mem_of_getElem? (i := 13) rfl)) rfl rfl (hz.ob rfl rfl) rfl (by omega) (w_lo (n := 21) rfl (by omega)) (Nat.le_of_ble_eq_true rfl) (Nat.le_of_ble_eq_true rfl) rfl (tX10_strain_0_ok (17, .invokevirtual 154, 3) (List.mem_of_getElem? (i := 9) rfl)) (z_isRope hT hz r0 n6 (fun zv14 ze15 => ?_))
      show ww l D tys A X fr lo mX10_strain Q 20 [(0, .ref (ad 0)), (1, .int p)] [.int zv14] h
      refine w_if_ne (tgt := 25) (tX10_strain_0_ok (20, .ifCond .ne 5, 3) (List.mem_of_getElem? (i := 10) rfl)) rfl (fun zb16 => ?_) (fun zb16 => ?_)
      · refine w_aload_n (List.Mem.head _) (tX10_strain_0_ok (25, .aload_n 0, 1) (List.mem_of_getElem? (i := 13) rfl)) ?_
        refine z_getR (L1 := 4) (own := 15) (k := 9) hz rfl rfl rfl rfl rfl rfl rfl (by decide) (tX10_strain_0_ok (26, .getfield 49, 3) (List.mem_of_getElem? (i := 14) rfl)) ?_
        refine w_aload_n (List.Mem.head _) (tX10_strain_0_ok (29, .aload_n 0, 1) (List.mem_of_getElem? (i := 15) rfl)) ?_
        refine z_getR (L1 := 2) (own := 15) (k := 1) hz rfl rfl rfl rfl rfl rfl rfl (by decide) (tX10_strain_0_ok (30, .getfield 19, 3) (List.mem_of_getElem? (i := 16) rfl)) ?_
        refine w_aload_n (List.Mem.head _) (tX10_strain_0_ok (33, .aload_n 0, 1) (List.mem_of_getElem? (i := 17) rfl)) ?_
        refine z_getR (L1 := 100) (own := 15) (k := 3) hz rfl rfl rfl rfl rfl rfl rfl (by decide) (tX10_strain_0_ok (34, .getfield 29, 3) (List.mem_of_getElem? (i := 18) rfl)) ?_
        refine w_aload_n (List.Mem.head _) (tX10_strain_0_ok (37, .aload_n 0, 1) (List.mem_of_getElem? (i := 19) rfl)) ?_
        refine z_getR (L1 := 3) (own := 15) (k := 8) hz rfl rfl rfl rfl rfl rfl rfl (by decide) (tX10_strain_0_ok (38, .getfield 42, 3) (List.mem_of_getElem? (i := 20) rfl)) ?_
        refine w_callV (own := 15) (mi := 100) [.ref (ad 2), .ref (ad 100), .ref (ad 3)] [] [(0, .ref (ad 4)), (1, .ref (ad 2)), (2, .ref (ad 100)), (3, .ref (ad 3))] rfl (cllw_X10 (194, 0, 100) (List.mem_of_getElem? (i := 12) rfl)) rfl rfl (hz.ob rfl rfl) rfl (by omega) (w_lo (n := 28) rfl (by omega)) (Nat.le_of_ble_eq_true rfl) (Nat.le_of_ble_eq_true rfl) rfl (tX10_strain_0_ok (41, .invokevirtual 194, 3) (List.mem_of_getElem? (i := 21) rfl)) (z_weigh hT (j := 0) (T := φ.1 56) (Wt := φ.1 62) (by decide) hz h1 ⟨h22, pe8⟩ hk.bo h3.2.1 h3.2.2.1 h6 (by omega) (w_sub (n := 28) rfl (by omega)) (fun g1 I1 w1 w2 w3 w4 w5 => ?_))
        show ww l D tys A X fr lo mX10_strain Q 44 [(0, .ref (ad 0)), (1, .int p)] [] g1
        refine w_iload_n (List.Mem.tail _ (List.Mem.head _)) (tX10_strain_0_ok (44, .iload_n 1, 1) (List.mem_of_getElem? (i := 22) rfl)) ?_
        refine w_iconst (by decide) (tX10_strain_0_ok (45, .iconst (-1), 1) (List.mem_of_getElem? (i := 23) rfl)) (fun zv17 ze18 => ?_)
        refine w_icmp_eq (tgt := 62) (tX10_strain_0_ok (46, .if_icmp .eq 16, 3) (List.mem_of_getElem? (i := 24) rfl)) rfl (fun zb19 => ?_) (fun zb19 => ?_)
        · refine w_iconst (by decide) (tX10_strain_0_ok (62, .iconst 0, 1) (List.mem_of_getElem? (i := 32) rfl)) (fun zv20 ze21 => ?_)
          refine w_istore_n [(2, .int zv20), (0, .ref (ad 0)), (1, .int p)] rfl (Nat.le_of_ble_eq_true rfl) (tX10_strain_0_ok (63, .istore_n 2, 1) (List.mem_of_getElem? (i := 33) rfl)) ?_
          refine w_iconst (by decide) (tX10_strain_0_ok (64, .iconst 1, 1) (List.mem_of_getElem? (i := 34) rfl)) (fun zv22 ze23 => ?_)
          refine w_istore_n [(3, .int zv22), (2, .int zv20), (0, .ref (ad 0)), (1, .int p)] rfl (Nat.le_of_ble_eq_true rfl) (tX10_strain_0_ok (65, .istore_n 3, 1) (List.mem_of_getElem? (i := 35) rfl)) ?_
          have ye : c9_strain p τ := by unfold c9_strain; omega
          refine w_lv [(2, .int zv20), (3, .int zv22), (0, .ref (ad 0)), (1, .int p)] (by intro q hq; simp only [List.mem_cons, List.not_mem_nil, or_false] at hq ⊢; rcases hq with e | e | e | e <;> subst e <;> simp) ?_
          refine z9q_stL hT w4 hk (h1.mv (fun L hL => w3 L (by omega) (by omega))) w1 (by omega) (by omega) (by omega) (fun v e => hq _ v (Or.inl ⟨ye, ?_⟩)) (τ.1 - 1) _ _ (by omega) (by omega) ⟨?_, by omega⟩
          · rw [show q9_strain p τ φ = _ from if_pos (by omega)]
            exact e
          · rw [show zv22.toInt.toNat - 1 = 0 by omega]
            show zv20.toInt.toNat = 0
            omega
        · refine w_aload_n (List.Mem.head _) (tX10_strain_0_ok (49, .aload_n 0, 1) (List.mem_of_getElem? (i := 25) rfl)) ?_
          refine z_getR (L1 := 4) (own := 15) (k := 9) w4 rfl rfl rfl rfl rfl rfl rfl (by decide) (tX10_strain_0_ok (50, .getfield 49, 3) (List.mem_of_getElem? (i := 26) rfl)) ?_
          refine w_aload_n (List.Mem.head _) (tX10_strain_0_ok (53, .aload_n 0, 1) (List.mem_of_getElem? (i := 27) rfl)) ?_
          refine z_getR (L1 := 2) (own := 15) (k := 1) w4 rfl rfl rfl rfl rfl rfl rfl (by decide) (tX10_strain_0_ok (54, .getfield 19, 3) (List.mem_of_getElem? (i := 28) rfl)) ?_
          refine w_iload_n (List.Mem.tail _ (List.Mem.head _)) (tX10_strain_0_ok (57, .iload_n 1, 1) (List.mem_of_getElem? (i := 29) rfl)) ?_
          refine w_callV (own := 15) (mi := 98) [.ref (ad 2), .int p] [] [(0, .ref (ad 4)), (1, .ref (ad 2)), (2, .int p)] rfl (cllw_X10 (354, 0, 98) (List.mem_of_getElem? (i := 42) rfl)) rfl rfl (w4.ob rfl rfl) rfl (by omega) (w_lo (n := 22) rfl (by omega)) (Nat.le_of_ble_eq_true rfl) (Nat.le_of_ble_eq_true rfl) rfl (tX10_strain_0_ok (58, .invokevirtual 354, 3) (List.mem_of_getElem? (i := 30) rfl)) (z9q_strainOf hT w4 hk (h1.mv (fun L hL => w3 L (by omega) (by omega))) w1 ⟨by omega, by omega⟩ (fun zv24 ze25 => ?_))
          show ww l D tys A X fr lo mX10_strain Q 61 [(0, .ref (ad 0)), (1, .int p)] [.int zv24] g1
          refine w_iret rfl (tX10_strain_0_ok (61, .ireturn, 1) (List.mem_of_getElem? (i := 31) rfl)) ?_
          have ye : c9_strain p τ := by unfold c9_strain; omega
          refine hq _ _ (Or.inl ⟨ye, ?_⟩)
          rw [show q9_strain p τ φ = _ from if_neg (by omega)]
          exact ze25
      · refine w_iconst (by decide) (tX10_strain_0_ok (23, .iconst (-1), 1) (List.mem_of_getElem? (i := 11) rfl)) (fun zv26 ze27 => ?_)
        refine w_iret rfl (tX10_strain_0_ok (24, .ireturn, 1) (List.mem_of_getElem? (i := 12) rfl)) ?_
        have no : ¬ c9_strain p τ := by unfold c9_strain; omega
        exact hq _ _ (Or.inr ⟨no, by omega⟩)
theorem y9q_strain5 (hT : k_tys tys cA) {p : Int32} (hz : zr zNM cA ad I W O h) (hk : kok τ φ) (H : rS τ φ I W) (hf : 30 ≤ fr) (hlo : 900 ≤ lo) (hbo : ¬ τ.1 = 0 → bo (I 55) (I 56) (I 62) τ.2.2.1 τ.1) (hq : ∀ (g : ch_H) (v : Int32), (c9_strain p τ ∧ v.toInt = q9_strain p τ φ ∨ ¬ c9_strain p τ ∧ v.toInt = -1) → Q (some (.int v)) g) : ww l D tys A X fr lo mX11_strain Q 5 [(0, .ref (ad 50)), (1, .int p)] [] h := by
  have n6 := hk.1.1
  obtain ⟨ga6, pe8, ta6⟩ := hk.2.2.2.1
  obtain ⟨h1, ⟨h21, h22, h23⟩, ⟨h3, h32⟩, h4, h5, h6, h7, h8, h9, h10, h11⟩ := id H
  have r0 := h1.1
  refine w_aload_n (List.Mem.head _) (tX11_strain_0_ok (5, .aload_n 0, 1) (List.mem_of_getElem? (i := 3) rfl)) ?_
  refine z_get (f := (I 50)) (own := 16) (k := 20) hz rfl rfl rfl rfl rfl rfl rfl (by decide) (tX11_strain_0_ok (6, .getfield 248, 3) (List.mem_of_getElem? (i := 4) rfl)) ?_
  refine w_if_eq (tgt := 25) (tX11_strain_0_ok (9, .ifCond .eq 16, 3) (List.mem_of_getElem? (i := 5) rfl)) rfl (fun zb1 => ?_) (fun zb1 => ?_)
  · refine w_iconst (by decide) (tX11_strain_0_ok (25, .iconst (-1), 1) (List.mem_of_getElem? (i := 13) rfl)) (fun zv2 ze3 => ?_)
    refine w_iret rfl (tX11_strain_0_ok (26, .ireturn, 1) (List.mem_of_getElem? (i := 14) rfl)) ?_
    have no : ¬ c9_strain p τ := by unfold c9_strain; omega
    exact hq _ _ (Or.inr ⟨no, by omega⟩)
  · refine w_iload_n (List.Mem.tail _ (List.Mem.head _)) (tX11_strain_0_ok (12, .iload_n 1, 1) (List.mem_of_getElem? (i := 6) rfl)) ?_
    refine w_iconst (by decide) (tX11_strain_0_ok (13, .iconst (-1), 1) (List.mem_of_getElem? (i := 7) rfl)) (fun zv4 ze5 => ?_)
    refine w_icmp_eq (tgt := 27) (tX11_strain_0_ok (14, .if_icmp .eq 13, 3) (List.mem_of_getElem? (i := 8) rfl)) rfl (fun zb6 => ?_) (fun zb6 => ?_)
    · refine w_iload_n (List.Mem.tail _ (List.Mem.head _)) (tX11_strain_0_ok (27, .iload_n 1, 1) (List.mem_of_getElem? (i := 15) rfl)) ?_
      refine w_iconst (by decide) (tX11_strain_0_ok (28, .iconst (-1), 1) (List.mem_of_getElem? (i := 16) rfl)) (fun zv7 ze8 => ?_)
      refine w_icmp_eq (tgt := 38) (tX11_strain_0_ok (29, .if_icmp .eq 9, 3) (List.mem_of_getElem? (i := 17) rfl)) rfl (fun zb9 => ?_) (fun zb9 => ?_)
      · refine w_iconst (by decide) (tX11_strain_0_ok (38, .iconst 0, 1) (List.mem_of_getElem? (i := 22) rfl)) (fun zv10 ze11 => ?_)
        refine w_istore_n [(2, .int zv10), (0, .ref (ad 50)), (1, .int p)] rfl (Nat.le_of_ble_eq_true rfl) (tX11_strain_0_ok (39, .istore_n 2, 1) (List.mem_of_getElem? (i := 23) rfl)) ?_
        refine w_iconst (by decide) (tX11_strain_0_ok (40, .iconst 1, 1) (List.mem_of_getElem? (i := 24) rfl)) (fun zv12 ze13 => ?_)
        refine w_istore_n [(3, .int zv12), (2, .int zv10), (0, .ref (ad 50)), (1, .int p)] rfl (Nat.le_of_ble_eq_true rfl) (tX11_strain_0_ok (41, .istore_n 3, 1) (List.mem_of_getElem? (i := 25) rfl)) ?_
        have ye : c9_strain p τ := by unfold c9_strain; omega
        refine w_lv [(2, .int zv10), (3, .int zv12), (0, .ref (ad 50)), (1, .int p)] (by intro q hq; simp only [List.mem_cons, List.not_mem_nil, or_false] at hq ⊢; rcases hq with e | e | e | e <;> subst e <;> simp) ?_
        refine y9q_stL hT hz hk h1 (H.yz_ n6 (hbo (by omega))) (by omega) (by omega) (by omega) (fun v e => hq _ v (Or.inl ⟨ye, ?_⟩)) (τ.1 - 1) _ _ (by omega) (by omega) ⟨?_, by omega⟩
        · rw [show q9_strain p τ φ = _ from if_pos (by omega)]
          exact e
        · rw [show zv12.toInt.toNat - 1 = 0 by omega]
          show zv10.toInt.toNat = 0
          omega
      · exfalso; omega
    · refine w_aload_n (List.Mem.head _) (tX11_strain_0_ok (17, .aload_n 0, 1) (List.mem_of_getElem? (i := 9) rfl)) ?_
      refine w_iload_n (List.Mem.tail _ (List.Mem.head _)) (tX11_strain_0_ok (18, .iload_n 1, 1) (List.mem_of_getElem? (i := 10) rfl)) ?_
      refine w_callV (own := 16) (mi := 204) [.int p] [] [(0, .ref (ad 50)), (1, .int p)] rfl (cllw_X11 (286, 0, 204) (List.mem_of_getElem? (i := 35) rfl)) rfl rfl (hz.ob rfl rfl) rfl (by omega) (w_lo (n := 21) rfl (by omega)) (Nat.le_of_ble_eq_true rfl) (Nat.le_of_ble_eq_true rfl) rfl (tX11_strain_0_ok (19, .invokevirtual 286, 3) (List.mem_of_getElem? (i := 11) rfl)) (y_isRope hT hz r0 n6 (fun zv14 ze15 => ?_))
      show ww l D tys A X fr lo mX11_strain Q 22 [(0, .ref (ad 50)), (1, .int p)] [.int zv14] h
      refine w_if_ne (tgt := 27) (tX11_strain_0_ok (22, .ifCond .ne 5, 3) (List.mem_of_getElem? (i := 12) rfl)) rfl (fun zb16 => ?_) (fun zb16 => ?_)
      · refine w_iload_n (List.Mem.tail _ (List.Mem.head _)) (tX11_strain_0_ok (27, .iload_n 1, 1) (List.mem_of_getElem? (i := 15) rfl)) ?_
        refine w_iconst (by decide) (tX11_strain_0_ok (28, .iconst (-1), 1) (List.mem_of_getElem? (i := 16) rfl)) (fun zv17 ze18 => ?_)
        refine w_icmp_eq (tgt := 38) (tX11_strain_0_ok (29, .if_icmp .eq 9, 3) (List.mem_of_getElem? (i := 17) rfl)) rfl (fun zb19 => ?_) (fun zb19 => ?_)
        · refine w_iconst (by decide) (tX11_strain_0_ok (38, .iconst 0, 1) (List.mem_of_getElem? (i := 22) rfl)) (fun zv20 ze21 => ?_)
          refine w_istore_n [(2, .int zv20), (0, .ref (ad 50)), (1, .int p)] rfl (Nat.le_of_ble_eq_true rfl) (tX11_strain_0_ok (39, .istore_n 2, 1) (List.mem_of_getElem? (i := 23) rfl)) ?_
          refine w_iconst (by decide) (tX11_strain_0_ok (40, .iconst 1, 1) (List.mem_of_getElem? (i := 24) rfl)) (fun zv22 ze23 => ?_)
          refine w_istore_n [(3, .int zv22), (2, .int zv20), (0, .ref (ad 50)), (1, .int p)] rfl (Nat.le_of_ble_eq_true rfl) (tX11_strain_0_ok (41, .istore_n 3, 1) (List.mem_of_getElem? (i := 25) rfl)) ?_
          have ye : c9_strain p τ := by unfold c9_strain; omega
          refine w_lv [(2, .int zv20), (3, .int zv22), (0, .ref (ad 50)), (1, .int p)] (by intro q hq; simp only [List.mem_cons, List.not_mem_nil, or_false] at hq ⊢; rcases hq with e | e | e | e <;> subst e <;> simp) ?_
          refine y9q_stL hT hz hk h1 (H.yz_ n6 (hbo (by omega))) (by omega) (by omega) (by omega) (fun v e => hq _ v (Or.inl ⟨ye, ?_⟩)) (τ.1 - 1) _ _ (by omega) (by omega) ⟨?_, by omega⟩
          · rw [show q9_strain p τ φ = _ from if_pos (by omega)]
            exact e
          · rw [show zv22.toInt.toNat - 1 = 0 by omega]
            show zv20.toInt.toNat = 0
            omega
        · refine w_aload_n (List.Mem.head _) (tX11_strain_0_ok (32, .aload_n 0, 1) (List.mem_of_getElem? (i := 18) rfl)) ?_
          refine w_iload_n (List.Mem.tail _ (List.Mem.head _)) (tX11_strain_0_ok (33, .iload_n 1, 1) (List.mem_of_getElem? (i := 19) rfl)) ?_
          refine w_callV (own := 16) (mi := 245) [.int p] [] [(0, .ref (ad 50)), (1, .int p)] rfl (cllw_X11 (405, 0, 245) (List.mem_of_getElem? (i := 70) rfl)) rfl rfl (hz.ob rfl rfl) rfl (by omega) (w_lo (n := 21) rfl (by omega)) (Nat.le_of_ble_eq_true rfl) (Nat.le_of_ble_eq_true rfl) rfl (tX11_strain_0_ok (34, .invokevirtual 405, 3) (List.mem_of_getElem? (i := 20) rfl)) (y9q_strainOf hT hz hk h1 (H.yz_ n6 (hbo (by omega))) (by omega) (w_sub (n := 21) rfl (by omega)) ⟨by omega, by omega⟩ (fun zv24 ze25 => ?_))
          show ww l D tys A X fr lo mX11_strain Q 37 [(0, .ref (ad 50)), (1, .int p)] [.int zv24] h
          refine w_iret rfl (tX11_strain_0_ok (37, .ireturn, 1) (List.mem_of_getElem? (i := 21) rfl)) ?_
          have ye : c9_strain p τ := by unfold c9_strain; omega
          refine hq _ _ (Or.inl ⟨ye, ?_⟩)
          rw [show q9_strain p τ φ = _ from if_neg (by omega)]
          exact ze25
      · refine w_iconst (by decide) (tX11_strain_0_ok (25, .iconst (-1), 1) (List.mem_of_getElem? (i := 13) rfl)) (fun zv26 ze27 => ?_)
        refine w_iret rfl (tX11_strain_0_ok (26, .ireturn, 1) (List.mem_of_getElem? (i := 14) rfl)) ?_
        have no : ¬ c9_strain p τ := by unfold c9_strain; omega
        exact hq _ _ (Or.inr ⟨no, by omega⟩)
theorem y9q_strain (hT : k_tys tys cA) {p : Int32} (hz : zr zNM cA ad I W O h) (hk : kok τ φ) (H : rS τ φ I W) (hf : 30 ≤ fr) (hlo : 900 ≤ lo) (hbo : ¬ τ.1 = 0 → bo (I 55) (I 56) (I 62) τ.2.2.1 τ.1) (hq : ∀ (g : ch_H) (v : Int32), (c9_strain p τ ∧ v.toInt = q9_strain p τ φ ∨ ¬ c9_strain p τ ∧ v.toInt = -1) → Q (some (.int v)) g) : ww l D tys A X fr lo mX11_strain Q 0 [(0, .ref (ad 50)), (1, .int p)] [] h := by
  refine w_aload_n (List.Mem.head _) (tX11_strain_0_ok (0, .aload_n 0, 1) (List.mem_of_getElem? (i := 0) rfl)) ?_
  refine w_iconst (by decide) (tX11_strain_0_ok (1, .iconst 0, 1) (List.mem_of_getElem? (i := 1) rfl)) (fun zv1 ze2 => ?_)
  refine z_put (f := (I 50)) (own := 16) (k := 0) hz rfl rfl rfl rfl rfl rfl rfl (by decide) rfl ⟨rfl, rfl⟩ (tX11_strain_0_ok (2, .putfield 85, 3) (List.mem_of_getElem? (i := 2) rfl)) (fun zh3 zI4 zq5 zz6 zf7 => ?_)
  exact y9q_strain5 hT zz6 hk (H.th zq5) hf hlo (by rw [zq5, s2_n (by decide), s2_n (by decide), s2_n (by decide)]; exact hbo) hq
theorem z9q_abL (hT : k_tys tys cA) {r : Int32} (hz : zr zNC cA ad I W O h) (hk : kok τ φ) (h1 : pz I τ.1 φ.2.2.1) (hlv : ∀ q, q < 2 * τ.1 → (I 27 q).toInt = hT9 φ.2.2.1 (φ.1 56) q) (hf : 30 ≤ fr) (hlo : 800 ≤ lo) (hr : 0 ≤ r.toInt ∧ r.toInt < 2 * (τ.1 : Int)) (hq : ∀ v : Int32, v = ab9 (p9_above r.toInt.toNat φ) (2 * τ.1) → Q (some (.int v)) h) : ∀ (j9 : Nat) (k bi : Int32), k.toInt + j9 = 2 * (τ.1 : Int) → 0 ≤ k.toInt → bi = ab9 (p9_above r.toInt.toNat φ) k.toInt.toNat → ww l D tys A X fr lo mX10_above Q 33 [(2, .int bi), (3, .int k), (0, .ref (ad 0)), (1, .int r)] [] h := by
  intro j9
  induction j9 using Nat.strongRecOn with
  | ind j9 ih =>
    intro k bi hj9 hk0 eb
    have n6 := hk.1.1
    have r0 := h1.1
    refine w_iload_n (List.Mem.tail _ (List.Mem.head _)) (tX10_above_0_ok (33, .iload_n 3, 1) (List.mem_of_getElem? (i := 19) rfl)) ?_
    refine w_iconst (by decide) (tX10_above_0_ok (34, .iconst 2, 1) (List.mem_of_getElem? (i := 20) rfl)) (fun zv1 ze2 => ?_)
    refine w_aload_n (List.Mem.tail _ (List.Mem.tail _ (List.Mem.head _))) (tX10_above_0_ok (35, .aload_n 0, 1) (List.mem_of_getElem? (i := 21) rfl)) ?_
    refine z_getR (L1 := 2) (own := 15) (k := 1) hz rfl rfl rfl rfl rfl rfl rfl (by decide) (tX10_above_0_ok (36, .getfield 19, 3) (List.mem_of_getElem? (i := 22) rfl)) ?_
    refine z_get (f := (I 2)) (own := 15) (k := 0) hz rfl rfl rfl rfl rfl rfl rfl (by decide) (tX10_above_0_ok (39, .getfield 95, 3) (List.mem_of_getElem? (i := 23) rfl)) ?_
    refine w_imul (by assumption) (by omega) (by omega) (tX10_above_0_ok (42, .imul, 1) (List.mem_of_getElem? (i := 24) rfl)) (fun zv3 ze4 => ?_)
    refine w_icmp_ge (tgt := 79) (tX10_above_0_ok (43, .if_icmp .ge 36, 3) (List.mem_of_getElem? (i := 25) rfl)) rfl (fun zb5 => ?_) (fun zb5 => ?_)
    · refine w_iload_n (List.Mem.head _) (tX10_above_0_ok (79, .iload_n 2, 1) (List.mem_of_getElem? (i := 45) rfl)) ?_
      refine w_iret rfl (tX10_above_0_ok (80, .ireturn, 1) (List.mem_of_getElem? (i := 46) rfl)) ?_
      exact hq _ (by rw [eb, show k.toInt.toNat = 2 * τ.1 by omega])
    · refine w_aload_n (List.Mem.tail _ (List.Mem.tail _ (List.Mem.head _))) (tX10_above_0_ok (46, .aload_n 0, 1) (List.mem_of_getElem? (i := 26) rfl)) ?_
      refine z_getR (L1 := 4) (own := 15) (k := 9) hz rfl rfl rfl rfl rfl rfl rfl (by decide) (tX10_above_0_ok (47, .getfield 49, 3) (List.mem_of_getElem? (i := 27) rfl)) ?_
      refine z_getR (L1 := 27) (own := 15) (k := 2) hz rfl rfl rfl rfl rfl rfl rfl (by decide) (tX10_above_0_ok (50, .getfield 277, 3) (List.mem_of_getElem? (i := 28) rfl)) ?_
      refine w_iload_n (List.Mem.tail _ (List.Mem.head _)) (tX10_above_0_ok (53, .iload_n 3, 1) (List.mem_of_getElem? (i := 29) rfl)) ?_
      refine z_iald (f := (I 27)) hT hz rfl rfl rfl (by omega) (by omega) (tX10_above_0_ok (54, .iaload, 1) (List.mem_of_getElem? (i := 30) rfl)) (fun zv6 zu7 => ?_)
      have ze8 : zv6.toInt = ((I 27) k.toInt.toNat).toInt := congrArg _ zu7
      rw [hlv _ (by omega)] at ze8
      refine w_aload_n (List.Mem.tail _ (List.Mem.tail _ (List.Mem.head _))) (tX10_above_0_ok (55, .aload_n 0, 1) (List.mem_of_getElem? (i := 31) rfl)) ?_
      refine z_getR (L1 := 4) (own := 15) (k := 9) hz rfl rfl rfl rfl rfl rfl rfl (by decide) (tX10_above_0_ok (56, .getfield 49, 3) (List.mem_of_getElem? (i := 32) rfl)) ?_
      refine z_getR (L1 := 27) (own := 15) (k := 2) hz rfl rfl rfl rfl rfl rfl rfl (by decide) (tX10_above_0_ok (59, .getfield 277, 3) (List.mem_of_getElem? (i := 33) rfl)) ?_
      refine w_iload_n (List.Mem.tail _ (List.Mem.tail _ (List.Mem.tail _ (List.Mem.head _)))) (tX10_above_0_ok (62, .iload_n 1, 1) (List.mem_of_getElem? (i := 34) rfl)) ?_
      refine z_iald (f := (I 27)) hT hz rfl rfl rfl (by omega) (by omega) (tX10_above_0_ok (63, .iaload, 1) (List.mem_of_getElem? (i := 35) rfl)) (fun zv9 zu10 => ?_)
      have ze11 : zv9.toInt = ((I 27) r.toInt.toNat).toInt := congrArg _ zu10
      rw [hlv _ (by omega)] at ze11
      refine w_icmp_le (tgt := 73) (tX10_above_0_ok (64, .if_icmp .le 9, 3) (List.mem_of_getElem? (i := 36) rfl)) rfl (fun zb12 => ?_) (fun zb12 => ?_)
      · refine w_iinc (fun zv13 => [(3, .int zv13), (2, .int bi), (0, .ref (ad 0)), (1, .int r)]) (fun _ => rfl) (List.Mem.tail _ (List.Mem.head _)) (Nat.le_of_ble_eq_true rfl) (by decide) (by omega) (by omega) (tX10_above_0_ok (73, .iinc 3 1, 3) (List.mem_of_getElem? (i := 43) rfl)) (fun zv13 ze14 => ?_)
        refine w_goto (tgt := 33) (tX10_above_0_ok (76, .goto (-43), 3) (List.mem_of_getElem? (i := 44) rfl)) rfl ?_
        refine w_lv [(2, .int bi), (3, .int zv13), (0, .ref (ad 0)), (1, .int r)] (by intro q hq; simp only [List.mem_cons, List.not_mem_nil, or_false] at hq ⊢; rcases hq with e | e | e | e <;> subst e <;> simp) ?_
        have kk : Int32.ofNat k.toInt.toNat = k := (kn_eq _ _).mpr (by rw [Int32.toInt_ofNat_of_lt (by omega)]; omega)
        refine ih (j9 - 1) (by omega) _ _ (by omega) (by omega) ?_
        rw [show zv13.toInt.toNat = k.toInt.toNat + 1 by omega, ab9_f (by unfold p9_above; rw [decide_eq_true_eq]; omega)]
        rw [Int32.or_zero]
        exact eb
      · refine w_iload_n (List.Mem.head _) (tX10_above_0_ok (67, .iload_n 2, 1) (List.mem_of_getElem? (i := 37) rfl)) ?_
        refine w_iconst (by decide) (tX10_above_0_ok (68, .iconst 1, 1) (List.mem_of_getElem? (i := 38) rfl)) (fun zv15 ze16 => ?_)
        refine w_iload_n (List.Mem.tail _ (List.Mem.head _)) (tX10_above_0_ok (69, .iload_n 3, 1) (List.mem_of_getElem? (i := 39) rfl)) ?_
        refine w_ishl (tX10_above_0_ok (70, .ishl, 1) (List.mem_of_getElem? (i := 40) rfl)) (fun zv17 ze18 => ?_)
        refine w_ior (tX10_above_0_ok (71, .ior, 1) (List.mem_of_getElem? (i := 41) rfl)) (fun zv19 ze20 => ?_)
        refine w_istore_n [(2, .int zv19), (3, .int k), (0, .ref (ad 0)), (1, .int r)] rfl (Nat.le_of_ble_eq_true rfl) (tX10_above_0_ok (72, .istore_n 2, 1) (List.mem_of_getElem? (i := 42) rfl)) ?_
        refine w_iinc (fun zv21 => [(3, .int zv21), (2, .int zv19), (0, .ref (ad 0)), (1, .int r)]) (fun _ => rfl) (List.Mem.tail _ (List.Mem.head _)) (Nat.le_of_ble_eq_true rfl) (by decide) (by omega) (by omega) (tX10_above_0_ok (73, .iinc 3 1, 3) (List.mem_of_getElem? (i := 43) rfl)) (fun zv21 ze22 => ?_)
        refine w_goto (tgt := 33) (tX10_above_0_ok (76, .goto (-43), 3) (List.mem_of_getElem? (i := 44) rfl)) rfl ?_
        refine w_lv [(2, .int zv19), (3, .int zv21), (0, .ref (ad 0)), (1, .int r)] (by intro q hq; simp only [List.mem_cons, List.not_mem_nil, or_false] at hq ⊢; rcases hq with e | e | e | e <;> subst e <;> simp) ?_
        have kk : Int32.ofNat k.toInt.toNat = k := (kn_eq _ _).mpr (by rw [Int32.toInt_ofNat_of_lt (by omega)]; omega)
        refine ih (j9 - 1) (by omega) _ _ (by omega) (by omega) ?_
        rw [show zv21.toInt.toNat = k.toInt.toNat + 1 by omega, ab9_t (by unfold p9_above; rw [decide_eq_true_eq]; omega)]
        rw [ze20, ze18, eb, kk, show zv15 = 1 from (kn_eq _ _).mpr (by rw [ze16]; rfl)]
theorem y9q_abL (hT : k_tys tys cA) {r : Int32} (hz : zr zNM cA ad I W O h) (hk : kok τ φ) (h1 : qz I τ.1 φ.2.2.1) (hXT : ∀ q, q < τ.1 → I 56 q = φ.1 56 q) (h4 : ∀ g, g < τ.2.1 → I 59 (12 + g) = GK φ.1 g) (ga6 : τ.2.1 ≤ 6) (hf : 30 ≤ fr) (hlo : 800 ≤ lo) (hr : 0 ≤ r.toInt ∧ r.toInt < 2 * (τ.1 : Int)) (hq : ∀ v : Int32, v = ab9 (p9_above r.toInt.toNat φ) (2 * τ.1) → Q (some (.int v)) h) : ∀ (j9 : Nat) (k bi : Int32), k.toInt + j9 = 2 * (τ.1 : Int) → 0 ≤ k.toInt → bi = ab9 (p9_above r.toInt.toNat φ) k.toInt.toNat → ww l D tys A X fr lo mX11_above Q 19 [(2, .int bi), (3, .int k), (0, .ref (ad 50)), (1, .int r)] [] h := by
  intro j9
  induction j9 using Nat.strongRecOn with
  | ind j9 ih =>
    intro k bi hj9 hk0 eb
    have n6 := hk.1.1
    have r0 := h1.1
    refine w_iload_n (List.Mem.tail _ (List.Mem.head _)) (tX11_above_0_ok (19, .iload_n 3, 1) (List.mem_of_getElem? (i := 13) rfl)) ?_
    refine w_iconst (by decide) (tX11_above_0_ok (20, .iconst 2, 1) (List.mem_of_getElem? (i := 14) rfl)) (fun zv1 ze2 => ?_)
    refine w_aload_n (List.Mem.tail _ (List.Mem.tail _ (List.Mem.head _))) (tX11_above_0_ok (21, .aload_n 0, 1) (List.mem_of_getElem? (i := 15) rfl)) ?_
    refine z_get (f := (I 50)) (own := 16) (k := 20) hz rfl rfl rfl rfl rfl rfl rfl (by decide) (tX11_above_0_ok (22, .getfield 248, 3) (List.mem_of_getElem? (i := 16) rfl)) ?_
    refine w_imul (by assumption) (by omega) (by omega) (tX11_above_0_ok (25, .imul, 1) (List.mem_of_getElem? (i := 17) rfl)) (fun zv3 ze4 => ?_)
    refine w_icmp_ge (tgt := 58) (tX11_above_0_ok (26, .if_icmp .ge 32, 3) (List.mem_of_getElem? (i := 18) rfl)) rfl (fun zb5 => ?_) (fun zb5 => ?_)
    · refine w_iload_n (List.Mem.head _) (tX11_above_0_ok (58, .iload_n 2, 1) (List.mem_of_getElem? (i := 36) rfl)) ?_
      refine w_iret rfl (tX11_above_0_ok (59, .ireturn, 1) (List.mem_of_getElem? (i := 37) rfl)) ?_
      exact hq _ (by rw [eb, show k.toInt.toNat = 2 * τ.1 by omega])
    · refine w_iload_n (List.Mem.head _) (tX11_above_0_ok (29, .iload_n 2, 1) (List.mem_of_getElem? (i := 19) rfl)) ?_
      refine w_aload_n (List.Mem.tail _ (List.Mem.tail _ (List.Mem.head _))) (tX11_above_0_ok (30, .aload_n 0, 1) (List.mem_of_getElem? (i := 20) rfl)) ?_
      refine w_iload_n (List.Mem.tail _ (List.Mem.head _)) (tX11_above_0_ok (31, .iload_n 3, 1) (List.mem_of_getElem? (i := 21) rfl)) ?_
      refine w_callV (own := 16) (mi := 192) [.int k] [.int bi] [(0, .ref (ad 50)), (1, .int k)] rfl (cllw_X11 (280, 0, 192) (List.mem_of_getElem? (i := 39) rfl)) rfl rfl (hz.ob rfl rfl) rfl (by omega) (w_lo (n := 22) rfl (by omega)) (Nat.le_of_ble_eq_true rfl) (Nat.le_of_ble_eq_true rfl) rfl (tX11_above_0_ok (32, .invokevirtual 280, 3) (List.mem_of_getElem? (i := 22) rfl)) (y_height (GH := GK φ.1) hT hz h1 hk.2.1.1 hXT h4 ga6 (by omega) (w_sub (n := 22) rfl (by omega)) (Or.inl ⟨by omega, by omega⟩) (fun zv6 ze7 => ?_))
      show ww l D tys A X fr lo mX11_above Q 35 [(2, .int bi), (3, .int k), (0, .ref (ad 50)), (1, .int r)] [.int zv6, .int bi] h
      have ze8 : zv6.toInt = hT9 φ.2.2.1 (φ.1 56) k.toInt.toNat := ze7.trans (if_pos (by omega))
      refine w_aload_n (List.Mem.tail _ (List.Mem.tail _ (List.Mem.head _))) (tX11_above_0_ok (35, .aload_n 0, 1) (List.mem_of_getElem? (i := 23) rfl)) ?_
      refine w_iload_n (List.Mem.tail _ (List.Mem.tail _ (List.Mem.tail _ (List.Mem.head _)))) (tX11_above_0_ok (36, .iload_n 1, 1) (List.mem_of_getElem? (i := 24) rfl)) ?_
      refine w_callV (own := 16) (mi := 192) [.int r] [.int zv6, .int bi] [(0, .ref (ad 50)), (1, .int r)] rfl (cllw_X11 (280, 0, 192) (List.mem_of_getElem? (i := 39) rfl)) rfl rfl (hz.ob rfl rfl) rfl (by omega) (w_lo (n := 22) rfl (by omega)) (Nat.le_of_ble_eq_true rfl) (Nat.le_of_ble_eq_true rfl) rfl (tX11_above_0_ok (37, .invokevirtual 280, 3) (List.mem_of_getElem? (i := 25) rfl)) (y_height (GH := GK φ.1) hT hz h1 hk.2.1.1 hXT h4 ga6 (by omega) (w_sub (n := 22) rfl (by omega)) (Or.inl ⟨by omega, by omega⟩) (fun zv9 ze10 => ?_))
      show ww l D tys A X fr lo mX11_above Q 40 [(2, .int bi), (3, .int k), (0, .ref (ad 50)), (1, .int r)] [.int zv9, .int zv6, .int bi] h
      have ze11 : zv9.toInt = hT9 φ.2.2.1 (φ.1 56) r.toInt.toNat := ze10.trans (if_pos (by omega))
      refine w_icmp_le (tgt := 49) (tX11_above_0_ok (40, .if_icmp .le 9, 3) (List.mem_of_getElem? (i := 26) rfl)) rfl (fun zb12 => ?_) (fun zb12 => ?_)
      · refine w_iconst (by decide) (tX11_above_0_ok (49, .iconst 0, 1) (List.mem_of_getElem? (i := 31) rfl)) (fun zv13 ze14 => ?_)
        refine w_ior (tX11_above_0_ok (50, .ior, 1) (List.mem_of_getElem? (i := 32) rfl)) (fun zv15 ze16 => ?_)
        refine w_istore_n [(2, .int zv15), (3, .int k), (0, .ref (ad 50)), (1, .int r)] rfl (Nat.le_of_ble_eq_true rfl) (tX11_above_0_ok (51, .istore_n 2, 1) (List.mem_of_getElem? (i := 33) rfl)) ?_
        refine w_iinc (fun zv17 => [(3, .int zv17), (2, .int zv15), (0, .ref (ad 50)), (1, .int r)]) (fun _ => rfl) (List.Mem.tail _ (List.Mem.head _)) (Nat.le_of_ble_eq_true rfl) (by decide) (by omega) (by omega) (tX11_above_0_ok (52, .iinc 3 1, 3) (List.mem_of_getElem? (i := 34) rfl)) (fun zv17 ze18 => ?_)
        refine w_goto (tgt := 19) (tX11_above_0_ok (55, .goto (-36), 3) (List.mem_of_getElem? (i := 35) rfl)) rfl ?_
        refine w_lv [(2, .int zv15), (3, .int zv17), (0, .ref (ad 50)), (1, .int r)] (by intro q hq; simp only [List.mem_cons, List.not_mem_nil, or_false] at hq ⊢; rcases hq with e | e | e | e <;> subst e <;> simp) ?_
        have kk : Int32.ofNat k.toInt.toNat = k := (kn_eq _ _).mpr (by rw [Int32.toInt_ofNat_of_lt (by omega)]; omega)
        refine ih (j9 - 1) (by omega) _ _ (by omega) (by omega) ?_
        rw [show zv17.toInt.toNat = k.toInt.toNat + 1 by omega, ab9_f (by unfold p9_above; rw [decide_eq_true_eq]; omega)]
        rw [ze16, eb, show zv13 = 0 from (kn_eq _ _).mpr (by rw [ze14]; rfl)]
      · refine w_iconst (by decide) (tX11_above_0_ok (43, .iconst 1, 1) (List.mem_of_getElem? (i := 27) rfl)) (fun zv19 ze20 => ?_)
        refine w_iload_n (List.Mem.tail _ (List.Mem.head _)) (tX11_above_0_ok (44, .iload_n 3, 1) (List.mem_of_getElem? (i := 28) rfl)) ?_
        refine w_ishl (tX11_above_0_ok (45, .ishl, 1) (List.mem_of_getElem? (i := 29) rfl)) (fun zv21 ze22 => ?_)
        refine w_goto (tgt := 50) (tX11_above_0_ok (46, .goto 4, 3) (List.mem_of_getElem? (i := 30) rfl)) rfl ?_
        refine w_ior (tX11_above_0_ok (50, .ior, 1) (List.mem_of_getElem? (i := 32) rfl)) (fun zv23 ze24 => ?_)
        refine w_istore_n [(2, .int zv23), (3, .int k), (0, .ref (ad 50)), (1, .int r)] rfl (Nat.le_of_ble_eq_true rfl) (tX11_above_0_ok (51, .istore_n 2, 1) (List.mem_of_getElem? (i := 33) rfl)) ?_
        refine w_iinc (fun zv25 => [(3, .int zv25), (2, .int zv23), (0, .ref (ad 50)), (1, .int r)]) (fun _ => rfl) (List.Mem.tail _ (List.Mem.head _)) (Nat.le_of_ble_eq_true rfl) (by decide) (by omega) (by omega) (tX11_above_0_ok (52, .iinc 3 1, 3) (List.mem_of_getElem? (i := 34) rfl)) (fun zv25 ze26 => ?_)
        refine w_goto (tgt := 19) (tX11_above_0_ok (55, .goto (-36), 3) (List.mem_of_getElem? (i := 35) rfl)) rfl ?_
        refine w_lv [(2, .int zv23), (3, .int zv25), (0, .ref (ad 50)), (1, .int r)] (by intro q hq; simp only [List.mem_cons, List.not_mem_nil, or_false] at hq ⊢; rcases hq with e | e | e | e <;> subst e <;> simp) ?_
        have kk : Int32.ofNat k.toInt.toNat = k := (kn_eq _ _).mpr (by rw [Int32.toInt_ofNat_of_lt (by omega)]; omega)
        refine ih (j9 - 1) (by omega) _ _ (by omega) (by omega) ?_
        rw [show zv25.toInt.toNat = k.toInt.toNat + 1 by omega, ab9_t (by unfold p9_above; rw [decide_eq_true_eq]; omega)]
        rw [ze24, ze22, eb, kk, show zv19 = 1 from (kn_eq _ _).mpr (by rw [ze20]; rfl)]
theorem z9q_above (hT : k_tys tys cA) {p : Int32} (hz : zr zNC cA ad I W O h) (hk : kok τ φ) (H : cS τ φ I W) (hf : 30 ≤ fr) (hlo : 900 ≤ lo) (hq : ∀ (g : ch_H) (v : Int32), (c9_above p τ ∧ v = ab9 (p9_above p.toInt.toNat φ) (2 * τ.1) ∨ ¬ c9_above p τ ∧ v.toInt = -1) → Q (some (.int v)) g) : ww l D tys A X fr lo mX10_above Q 0 [(0, .ref (ad 0)), (1, .int p)] [] h := by
  have n6 := hk.1.1
  obtain ⟨ga6, pe8, ta6⟩ := hk.2.2.2.1
  obtain ⟨h1, ⟨h21, h22, h23⟩, h3, h4, h5, h6, h7, h8, h9, h10, h11⟩ := id H
  have r0 := h1.1
  refine w_aload_n (List.Mem.head _) (tX10_above_0_ok (0, .aload_n 0, 1) (List.mem_of_getElem? (i := 0) rfl)) ?_
  refine w_iload_n (List.Mem.tail _ (List.Mem.head _)) (tX10_above_0_ok (1, .iload_n 1, 1) (List.mem_of_getElem? (i := 1) rfl)) ?_
  refine w_callV (own := 15) (mi := 122) [.int p] [] [(0, .ref (ad 0)), (1, .int p)] rfl (cllw_X10 (144, 0, 122) (List.mem_of_getElem? (i := 8) rfl)) rfl rfl (hz.ob rfl rfl) rfl (by omega) (w_lo (n := 21) rfl (by omega)) (Nat.le_of_ble_eq_true rfl) (Nat.le_of_ble_eq_true rfl) rfl (tX10_above_0_ok (2, .invokevirtual 144, 3) (List.mem_of_getElem? (i := 2) rfl)) (z_isRoom hT hz r0 n6 (fun zv1 ze2 => ?_))
  show ww l D tys A X fr lo mX10_above Q 5 [(0, .ref (ad 0)), (1, .int p)] [.int zv1] h
  refine w_if_ne (tgt := 10) (tX10_above_0_ok (5, .ifCond .ne 5, 3) (List.mem_of_getElem? (i := 3) rfl)) rfl (fun zb3 => ?_) (fun zb3 => ?_)
  · refine w_aload_n (List.Mem.head _) (tX10_above_0_ok (10, .aload_n 0, 1) (List.mem_of_getElem? (i := 6) rfl)) ?_
    refine z_getR (L1 := 4) (own := 15) (k := 9) hz rfl rfl rfl rfl rfl rfl rfl (by decide) (tX10_above_0_ok (11, .getfield 49, 3) (List.mem_of_getElem? (i := 7) rfl)) ?_
    refine w_aload_n (List.Mem.head _) (tX10_above_0_ok (14, .aload_n 0, 1) (List.mem_of_getElem? (i := 8) rfl)) ?_
    refine z_getR (L1 := 2) (own := 15) (k := 1) hz rfl rfl rfl rfl rfl rfl rfl (by decide) (tX10_above_0_ok (15, .getfield 19, 3) (List.mem_of_getElem? (i := 9) rfl)) ?_
    refine w_aload_n (List.Mem.head _) (tX10_above_0_ok (18, .aload_n 0, 1) (List.mem_of_getElem? (i := 10) rfl)) ?_
    refine z_getR (L1 := 100) (own := 15) (k := 3) hz rfl rfl rfl rfl rfl rfl rfl (by decide) (tX10_above_0_ok (19, .getfield 29, 3) (List.mem_of_getElem? (i := 11) rfl)) ?_
    refine w_aload_n (List.Mem.head _) (tX10_above_0_ok (22, .aload_n 0, 1) (List.mem_of_getElem? (i := 12) rfl)) ?_
    refine z_getR (L1 := 3) (own := 15) (k := 8) hz rfl rfl rfl rfl rfl rfl rfl (by decide) (tX10_above_0_ok (23, .getfield 42, 3) (List.mem_of_getElem? (i := 13) rfl)) ?_
    refine w_callV (own := 15) (mi := 92) [.ref (ad 2), .ref (ad 100), .ref (ad 3)] [] [(0, .ref (ad 4)), (1, .ref (ad 2)), (2, .ref (ad 100)), (3, .ref (ad 3))] rfl (cllw_X10 (274, 0, 92) (List.mem_of_getElem? (i := 25) rfl)) rfl rfl (hz.ob rfl rfl) rfl (by omega) (w_lo (n := 26) rfl (by omega)) (Nat.le_of_ble_eq_true rfl) (Nat.le_of_ble_eq_true rfl) rfl (tX10_above_0_ok (26, .invokevirtual 274, 3) (List.mem_of_getElem? (i := 14) rfl)) (z_level hT (j := 0) (by decide) (T := φ.1 56) (GH := GK φ.1) hz h1 hk.2.1.1 (fun q hq9 => (h3.1 q hq9).1) h21 h4 ga6 (by omega) (w_sub (n := 26) rfl (by omega)) (fun g1 I1 w1 w2 w3 w4 w5 => ?_))
    show ww l D tys A X fr lo mX10_above Q 29 [(0, .ref (ad 0)), (1, .int p)] [] g1
    refine w_iconst (by decide) (tX10_above_0_ok (29, .iconst 0, 1) (List.mem_of_getElem? (i := 15) rfl)) (fun zv4 ze5 => ?_)
    refine w_istore_n [(2, .int zv4), (0, .ref (ad 0)), (1, .int p)] rfl (Nat.le_of_ble_eq_true rfl) (tX10_above_0_ok (30, .istore_n 2, 1) (List.mem_of_getElem? (i := 16) rfl)) ?_
    refine w_iconst (by decide) (tX10_above_0_ok (31, .iconst 0, 1) (List.mem_of_getElem? (i := 17) rfl)) (fun zv6 ze7 => ?_)
    refine w_istore_n [(3, .int zv6), (2, .int zv4), (0, .ref (ad 0)), (1, .int p)] rfl (Nat.le_of_ble_eq_true rfl) (tX10_above_0_ok (32, .istore_n 3, 1) (List.mem_of_getElem? (i := 18) rfl)) ?_
    refine w_lv [(2, .int zv4), (3, .int zv6), (0, .ref (ad 0)), (1, .int p)] (by intro q hq; simp only [List.mem_cons, List.not_mem_nil, or_false] at hq ⊢; rcases hq with e | e | e | e <;> subst e <;> simp) ?_
    refine z9q_abL hT w4 hk (h1.mv (fun L hL => w3 L (by omega))) w1 (by omega) (by omega) ⟨by omega, by omega⟩ (fun v e => hq _ v (Or.inl ⟨⟨by omega, by omega⟩, e⟩)) (2 * τ.1) _ _ (by omega) (by omega) ?_
    rw [show zv6.toInt.toNat = 0 by omega]
    exact (kn_eq _ _).mpr (by rw [ze5]; rfl)
  · refine w_iconst (by decide) (tX10_above_0_ok (8, .iconst (-1), 1) (List.mem_of_getElem? (i := 4) rfl)) (fun zv8 ze9 => ?_)
    refine w_iret rfl (tX10_above_0_ok (9, .ireturn, 1) (List.mem_of_getElem? (i := 5) rfl)) ?_
    exact hq _ _ (Or.inr ⟨fun z => by obtain ⟨z1, z2⟩ := z; omega, by omega⟩)
theorem y9q_above5 (hT : k_tys tys cA) {p : Int32} (hz : zr zNM cA ad I W O h) (hk : kok τ φ) (H : rS τ φ I W) (hf : 30 ≤ fr) (hlo : 900 ≤ lo) (hq : ∀ (g : ch_H) (v : Int32), (c9_above p τ ∧ v = ab9 (p9_above p.toInt.toNat φ) (2 * τ.1) ∨ ¬ c9_above p τ ∧ v.toInt = -1) → Q (some (.int v)) g) : ww l D tys A X fr lo mX11_above Q 5 [(0, .ref (ad 50)), (1, .int p)] [] h := by
  have n6 := hk.1.1
  obtain ⟨ga6, pe8, ta6⟩ := hk.2.2.2.1
  obtain ⟨h1, ⟨h21, h22, h23⟩, ⟨h3, h32⟩, h4, h5, h6, h7, h8, h9, h10, h11⟩ := id H
  have r0 := h1.1
  refine w_aload_n (List.Mem.head _) (tX11_above_0_ok (5, .aload_n 0, 1) (List.mem_of_getElem? (i := 3) rfl)) ?_
  refine w_iload_n (List.Mem.tail _ (List.Mem.head _)) (tX11_above_0_ok (6, .iload_n 1, 1) (List.mem_of_getElem? (i := 4) rfl)) ?_
  refine w_callV (own := 16) (mi := 203) [.int p] [] [(0, .ref (ad 50)), (1, .int p)] rfl (cllw_X11 (274, 0, 203) (List.mem_of_getElem? (i := 38) rfl)) rfl rfl (hz.ob rfl rfl) rfl (by omega) (w_lo (n := 21) rfl (by omega)) (Nat.le_of_ble_eq_true rfl) (Nat.le_of_ble_eq_true rfl) rfl (tX11_above_0_ok (7, .invokevirtual 274, 3) (List.mem_of_getElem? (i := 5) rfl)) (y_isRoom hT hz r0 n6 (fun zv1 ze2 => ?_))
  show ww l D tys A X fr lo mX11_above Q 10 [(0, .ref (ad 50)), (1, .int p)] [.int zv1] h
  refine w_if_ne (tgt := 15) (tX11_above_0_ok (10, .ifCond .ne 5, 3) (List.mem_of_getElem? (i := 6) rfl)) rfl (fun zb3 => ?_) (fun zb3 => ?_)
  · refine w_iconst (by decide) (tX11_above_0_ok (15, .iconst 0, 1) (List.mem_of_getElem? (i := 9) rfl)) (fun zv4 ze5 => ?_)
    refine w_istore_n [(2, .int zv4), (0, .ref (ad 50)), (1, .int p)] rfl (Nat.le_of_ble_eq_true rfl) (tX11_above_0_ok (16, .istore_n 2, 1) (List.mem_of_getElem? (i := 10) rfl)) ?_
    refine w_iconst (by decide) (tX11_above_0_ok (17, .iconst 0, 1) (List.mem_of_getElem? (i := 11) rfl)) (fun zv6 ze7 => ?_)
    refine w_istore_n [(3, .int zv6), (2, .int zv4), (0, .ref (ad 50)), (1, .int p)] rfl (Nat.le_of_ble_eq_true rfl) (tX11_above_0_ok (18, .istore_n 3, 1) (List.mem_of_getElem? (i := 12) rfl)) ?_
    refine w_lv [(2, .int zv4), (3, .int zv6), (0, .ref (ad 50)), (1, .int p)] (by intro q hq; simp only [List.mem_cons, List.not_mem_nil, or_false] at hq ⊢; rcases hq with e | e | e | e <;> subst e <;> simp) ?_
    refine y9q_abL hT hz hk h1 (fun q hq9 => (h3.1 q hq9).1) h4 ga6 (by omega) (by omega) ⟨by omega, by omega⟩ (fun v e => hq _ v (Or.inl ⟨⟨by omega, by omega⟩, e⟩)) (2 * τ.1) _ _ (by omega) (by omega) ?_
    rw [show zv6.toInt.toNat = 0 by omega]
    exact (kn_eq _ _).mpr (by rw [ze5]; rfl)
  · refine w_iconst (by decide) (tX11_above_0_ok (13, .iconst (-1), 1) (List.mem_of_getElem? (i := 7) rfl)) (fun zv8 ze9 => ?_)
    refine w_iret rfl (tX11_above_0_ok (14, .ireturn, 1) (List.mem_of_getElem? (i := 8) rfl)) ?_
    exact hq _ _ (Or.inr ⟨fun z => by obtain ⟨z1, z2⟩ := z; omega, by omega⟩)
theorem y9q_above (hT : k_tys tys cA) {p : Int32} (hz : zr zNM cA ad I W O h) (hk : kok τ φ) (H : rS τ φ I W) (hf : 30 ≤ fr) (hlo : 900 ≤ lo) (hq : ∀ (g : ch_H) (v : Int32), (c9_above p τ ∧ v = ab9 (p9_above p.toInt.toNat φ) (2 * τ.1) ∨ ¬ c9_above p τ ∧ v.toInt = -1) → Q (some (.int v)) g) : ww l D tys A X fr lo mX11_above Q 0 [(0, .ref (ad 50)), (1, .int p)] [] h := by
  refine w_aload_n (List.Mem.head _) (tX11_above_0_ok (0, .aload_n 0, 1) (List.mem_of_getElem? (i := 0) rfl)) ?_
  refine w_iconst (by decide) (tX11_above_0_ok (1, .iconst 0, 1) (List.mem_of_getElem? (i := 1) rfl)) (fun zv1 ze2 => ?_)
  refine z_put (f := (I 50)) (own := 16) (k := 0) hz rfl rfl rfl rfl rfl rfl rfl (by decide) rfl ⟨rfl, rfl⟩ (tX11_above_0_ok (2, .putfield 85, 3) (List.mem_of_getElem? (i := 2) rfl)) (fun zh3 zI4 zq5 zz6 zf7 => ?_)
  exact y9q_above5 hT zz6 hk (H.th zq5) hf hlo hq
end
section
variable {l : Launch} {D : va_G} {tys : List (ClassId × FieldType)} {A : Nat → Prop} {X : State → Prop} {cA : Nat → ClassId} {x m : Nat}
theorem hC_strain (hT : k_TX tys cA A X) {p : Int32} : sG (kE cA) l D tys A X cA 100 6000 0 0 mX10_strain x [.int p] (fun σ => σ) (fun _ v => isI v) (fun _ u => (u.1, u.2)) (fun u v => b9_strain p u.1 u.2 v) :=
  sG_an (fC_strain hT) (fun Sg h σ θ hH sx _ H => by
    obtain ⟨-, ⟨hk, ad, I, W, O, hz, rfl, hS, hA⟩, -⟩ := H
    show ww l D tys A X 100 6000 mX10_strain _ 0 [(0, .ref (ad 0)), (1, .int p)] [] h
    exact z9q_strain hT.1 hz hk hS (by decide) (by decide) (fun g v e => ⟨v, rfl, e⟩))
theorem hR_strain (hT : k_TX tys cA A X) {p : Int32} : tG (kF cA) l D tys A X cA 100 6000 0 0 mX11_strain m [.int p] (fun σ => σ) (fun _ v => isI v) (fun _ u => (u.1, u.2)) (fun u v => b9_strain p u.1 u.2 v) :=
  tG_an (fR_strain hT) (fun Sg h σ θ hH sm _ H => by
    obtain ⟨-, ⟨hk, ad, I, W, O, hz, rfl, hS⟩, -⟩ := H
    show ww l D tys A X 100 6000 mX11_strain _ 0 [(0, .ref (ad 50)), (1, .int p)] [] h
    exact y9q_strain hT.1 hz hk hS (by decide) (by decide) (FR_bo hH hz hk hS sm.1) (fun g v e => ⟨v, rfl, e⟩))
theorem hC_above (hT : k_TX tys cA A X) {p : Int32} : sG (kE cA) l D tys A X cA 100 6000 0 0 mX10_above x [.int p] (fun σ => σ) (fun _ v => isI v) (fun _ u => (u.1, u.2)) (fun u v => b9_above p u.1 u.2 v) :=
  sG_an (fC_above hT) (fun Sg h σ θ hH sx _ H => by
    obtain ⟨-, ⟨hk, ad, I, W, O, hz, rfl, hS, hA⟩, -⟩ := H
    show ww l D tys A X 100 6000 mX10_above _ 0 [(0, .ref (ad 0)), (1, .int p)] [] h
    exact z9q_above hT.1 hz hk hS (by decide) (by decide) (fun g v e => ⟨v, rfl, e⟩))
theorem hR_above (hT : k_TX tys cA A X) {p : Int32} : tG (kF cA) l D tys A X cA 100 6000 0 0 mX11_above m [.int p] (fun σ => σ) (fun _ v => isI v) (fun _ u => (u.1, u.2)) (fun u v => b9_above p u.1 u.2 v) :=
  tG_an (fR_above hT) (fun Sg h σ θ hH sm _ H => by
    obtain ⟨-, ⟨hk, ad, I, W, O, hz, rfl, hS⟩, -⟩ := H
    show ww l D tys A X 100 6000 mX11_above _ 0 [(0, .ref (ad 50)), (1, .int p)] [] h
    exact y9q_above hT.1 hz hk hS (by decide) (by decide) (fun g v e => ⟨v, rfl, e⟩))
end
