/-! the class over stores: a state takes another's place, begins; who is BESIDE whom -/
theorem bt9_andn {x k z v u w m : Int32} {kk : Nat} (hk : k.toInt = (kk : Int)) (h18 : kk < 18) (hz : z.toInt = 1) (hm : m.toInt = -1) (e1 : v = z <<< (k &&& 31)) (e2 : u = v ^^^ m) (e3 : w = x &&& u) : ∀ j, j < 18 → bt9 w j = (bt9 x j && !decide (j = kk)) := by
  intro j hj
  have h1 : z = 1 := (kn_eq _ _).mpr (by rw [hz]; rfl)
  have h2 := kn_nat (x := k) (n := kk) (by omega)
  have h3 : m = -1 := (kn_eq _ _).mpr (by rw [hm]; rfl)
  have h4 := bt9_one kk h18 j hj
  subst e3 e2 e1 h1 h3
  rw [← h2] at h4
  unfold bt9 at *
  rw [Int32.toBitVec_and, Int32.toBitVec_xor, BitVec.getLsbD_and, BitVec.getLsbD_xor, h4]
  have h5 : (-1 : Int32).toBitVec.getLsbD j = true := by
    have : ∀ q, q < 18 → (-1 : Int32).toBitVec.getLsbD q = true := by decide +kernel
    exact this j hj
  rw [h5, Bool.xor_true]
section
variable {l : Launch} {D : va_G} {tys : List (ClassId × FieldType)} {A : Nat → Prop} {X : State → Prop} {fr lo : Nat} {M : ch_M} {Q : Option Value → ch_H → Prop} {pc : Nat} {lv : List (Nat × Value)} {st : List Value} {cA : Nat → ClassId} {h : ch_H} {N : Nat → Bool} {ad : Nat → Nat} {I : zI} {W : zW} {O : zO} {n i j : Nat}
theorem w_ixor {x y : Int32} (hd : decode M.2.1 pc = .ok (.ixor, 1)) (k : ∀ v : Int32, v = x ^^^ y → ww l D tys A X fr lo M Q (pc + 1) lv (.int v :: st) h) : ww l D tys A X fr lo M Q pc lv (.int y :: .int x :: st) h := tt_ixor hd (k _ rfl)
theorem z_copy {ix n L1 L2 : Nat} {f g0 : Nat → Int32} {sp dp k : Int32} (hT : k_tys tys cA) (hz : zr N cA ad I W O h) (h1 : N L1 = true) (h2 : N L2 = true) (t1 : zZ L1 = (1, 0, n, [])) (t2 : zZ L2 = (1, 0, n, [])) (e1 : I L1 = f) (e2 : I L2 = g0) (hsp : sp.toInt = 0) (hdp : dp.toInt = 0) (hk : k.toInt = (n : Int)) (hw : Cond.methodLink M.1.cls ix arraycopyName ∈ wsA) (hf : 1 ≤ fr) (hlo : 100 ≤ lo) (hd : decode M.2.1 pc = .ok (.invokestatic ix, 3)) (kk : ∀ (g : ch_H) (I1 : zI) (f1 : Nat → Int32), I1 = s2 I L2 f1 → (∀ q, q < n → f1 q = f q) → zr N cA ad I1 W O g → zf N ad h g → ww l D tys A X fr lo M Q (pc + 3) lv [] g) : ww l D tys A X fr lo M Q pc lv [.int k, .int dp, .ref (ad L2), .int sp, .ref (ad L1)] h := by
  have z0 : (0 : Int32).toInt = 0 := rfl
  have c0 : sp.toNatClampNeg = 0 := by have := kn_cl (x := sp) (by omega); omega
  have c1 : dp.toNatClampNeg = 0 := by have := kn_cl (x := dp) (by omega); omega
  have c2 : k.toNatClampNeg = n := by have := kn_cl (x := k) (by omega); omega
  refine tt_copy hw hf (by show 0 + 100 ≤ lo; omega) (hz.ar h1 t1 e1) (hz.ar h2 t2 e2) (hT 0 (by omega)) (by rw [kn_lt, z0]; omega) (by rw [kn_lt, z0]; omega) (by rw [kn_lt, z0]; omega) (by omega) (by omega) hd ?_
  refine kk _ _ _ rfl (fun q hq => ?_) (hz.one h2 (z_ar_of t2 (ch_up_s _ _ _)) (fun q hq => ch_up_n _ _ hq)) (zf.one h2 (fun q hq => ch_up_n _ _ hq))
  unfold va_cpy
  rw [if_pos (by omega)]
  congr 1
  omega
theorem pg_copyw : Cond.methodLink mX6_take.1.cls 41 arraycopyName ∈ wsA := cllw_X6 (41, 13, 0) (List.mem_of_getElem? (i := 0) rfl)
theorem z_tkL (hT : k_tys tys cA) (hj_j : j < 10) (hj_i : i < 10) (hij : i ≠ j) {o9f : Nat → Int32} {I0 : zI} (hb9 : ∀ q, q < 6 → 0 ≤ (o9f q).toInt ∧ (o9f q).toInt ≤ 1) : ∀ (j9 : Nat) (h : ch_H) (I : zI) (p : Int32), p.toInt + j9 = 6 → 0 ≤ p.toInt → (∀ q, q < p.toInt.toNat → I (100 + 6 * j + 3) q = o9f q) → I (100 + 6 * i + 3) = o9f → (∀ L, L ≠ (100 + 6 * j + 3) → I L = I0 L) → zr zNC cA ad I W O h → (∀ (g : ch_H) (I1 : zI) (W1 : zW), (∀ q, q < 6 → I1 (100 + 6 * j + 3) q = o9f q) → I1 (100 + 6 * j) 5 = I0 (100 + 6 * i) 5 → W1 (100 + 6 * j) 6 = W (100 + 6 * i) 6 → (∀ L, L ≠ (100 + 6 * j + 3) → L ≠ (100 + 6 * j) → I1 L = I0 L) → (∀ L, L ≠ (100 + 6 * j) → W1 L = W L) → zr zNC cA ad I1 W1 O g → zf zNC ad h g → Q none g) → ww l D tys A X fr lo mX6_take Q 62 [(2, .int p), (0, .ref (ad (100 + 6 * j))), (1, .ref (ad (100 + 6 * i)))] [] h := by
  intro j9
  induction j9 using Nat.strongRecOn with
  | ind j9 ih =>
    intro h I p hj9 hp0 hD hO hI hz hq
    refine w_iload_n (List.Mem.head _) (tX6_take_0_ok (62, .iload_n 2, 1) (List.mem_of_getElem? (i := 34) rfl)) ?_
    refine w_bipush (by decide) (tX6_take_0_ok (63, .bipush 6, 2) (List.mem_of_getElem? (i := 35) rfl)) (fun zv1 ze2 => ?_)
    refine w_icmp_ge (tgt := 86) (tX6_take_0_ok (65, .if_icmp .ge 21, 3) (List.mem_of_getElem? (i := 36) rfl)) rfl (fun zb3 => ?_) (fun zb3 => ?_)
    · refine w_aload_n (List.Mem.tail _ (List.Mem.head _)) (tX6_take_0_ok (86, .aload_n 0, 1) (List.mem_of_getElem? (i := 47) rfl)) ?_
      refine w_aload_n (List.Mem.tail _ (List.Mem.tail _ (List.Mem.head _))) (tX6_take_0_ok (87, .aload_n 1, 1) (List.mem_of_getElem? (i := 48) rfl)) ?_
      refine z_get (f := (I (100 + 6 * i))) (own := 11) (k := 5) hz (zNC_s (k := 0) hj_i (by decide)) (zZ_s i) rfl rfl rfl rfl rfl (by decide) (tX6_take_0_ok (88, .getfield 33, 3) (List.mem_of_getElem? (i := 49) rfl)) ?_
      refine z_put (f := (I (100 + 6 * j))) (own := 11) (k := 5) hz (zNC_s (k := 0) hj_j (by decide)) (zZ_s j) rfl rfl rfl rfl rfl (by decide) rfl ⟨rfl, rfl⟩ (tX6_take_0_ok (91, .putfield 33, 3) (List.mem_of_getElem? (i := 50) rfl)) (fun zh4 zI5 zq6 zz7 zf8 => ?_)
      refine w_aload_n (List.Mem.tail _ (List.Mem.head _)) (tX6_take_0_ok (94, .aload_n 0, 1) (List.mem_of_getElem? (i := 51) rfl)) ?_
      refine w_aload_n (List.Mem.tail _ (List.Mem.tail _ (List.Mem.head _))) (tX6_take_0_ok (95, .aload_n 1, 1) (List.mem_of_getElem? (i := 52) rfl)) ?_
      refine z_getJ (own := 11) (k := 6) zz7 (zNC_s (k := 0) hj_i (by decide)) (zZ_s i) rfl rfl rfl rfl rfl (by decide) (tX6_take_0_ok (96, .getfield 37, 3) (List.mem_of_getElem? (i := 53) rfl)) ?_
      refine z_putJ (w := (W (100 + 6 * j))) (own := 11) (k := 6) zz7 (zNC_s (k := 0) hj_j (by decide)) (zZ_s j) rfl rfl rfl rfl rfl (by decide) rfl ⟨rfl, rfl⟩ (tX6_take_0_ok (99, .putfield 37, 3) (List.mem_of_getElem? (i := 54) rfl)) (fun zh9 zI10 zq11 zz12 zf13 => ?_)
      refine w_vret rfl (tX6_take_0_ok (102, .return_, 1) (List.mem_of_getElem? (i := 55) rfl)) ?_
      have c5 := ((congrFun zq6 (100 + 6 * j)).trans (s2_s _ _ _))
      have c6 := ((congrFun zq11 (100 + 6 * j)).trans (s2_s _ _ _))
      refine hq zh9 zI5 zI10 (fun q h1 => ?_) ?_ ?_ (fun L9 n1 n2 => ?_) (fun L9 n1 => ?_) zz12 (zf8.tr zf13)
      · rw [zq6, s2_n (by omega)]
        exact hD q (by omega)
      · rw [c5, upd_s, hI _ (by omega)]
      · rw [c6, wpd_s]
      · rw [zq6, s2_n n2]
        exact hI L9 n1
      · rw [zq11, s2_n n1]
    · refine w_aload_n (List.Mem.tail _ (List.Mem.head _)) (tX6_take_0_ok (68, .aload_n 0, 1) (List.mem_of_getElem? (i := 37) rfl)) ?_
      refine z_getR (L1 := (100 + 6 * j + 3)) (own := 11) (k := 2) hz (zNC_s (k := 0) hj_j (by decide)) (zZ_s j) rfl rfl rfl rfl rfl (by decide) (tX6_take_0_ok (69, .getfield 18, 3) (List.mem_of_getElem? (i := 38) rfl)) ?_
      refine w_iload_n (List.Mem.head _) (tX6_take_0_ok (72, .iload_n 2, 1) (List.mem_of_getElem? (i := 39) rfl)) ?_
      refine w_aload_n (List.Mem.tail _ (List.Mem.tail _ (List.Mem.head _))) (tX6_take_0_ok (73, .aload_n 1, 1) (List.mem_of_getElem? (i := 40) rfl)) ?_
      refine z_getR (L1 := (100 + 6 * i + 3)) (own := 11) (k := 2) hz (zNC_s (k := 0) hj_i (by decide)) (zZ_s i) rfl rfl rfl rfl rfl (by decide) (tX6_take_0_ok (74, .getfield 18, 3) (List.mem_of_getElem? (i := 41) rfl)) ?_
      refine w_iload_n (List.Mem.head _) (tX6_take_0_ok (77, .iload_n 2, 1) (List.mem_of_getElem? (i := 42) rfl)) ?_
      refine z_zald (f := o9f) hT hz (zNC_s (k := 3) hj_i (by decide)) (zZ_s3 i) (hO) (by omega) (by omega) (tX6_take_0_ok (78, .baload, 1) (List.mem_of_getElem? (i := 43) rfl)) (fun zv14 zu15 => ?_)
      have ze16 : zv14.toInt = (o9f p.toInt.toNat).toInt := congrArg _ zu15
      have ob9 := hb9 p.toInt.toNat (by omega)
      rw [← zu15] at ob9
      refine z_zast (f := (I (100 + 6 * j + 3))) hT hz (zNC_s (k := 3) hj_j (by decide)) (zZ_s3 j) rfl (by omega) (by omega) (by omega) (tX6_take_0_ok (79, .bastore, 1) (List.mem_of_getElem? (i := 44) rfl)) (fun zh17 zI18 zq19 zz20 zf21 => ?_)
      refine w_iinc (fun zv22 => [(2, .int zv22), (0, .ref (ad (100 + 6 * j))), (1, .ref (ad (100 + 6 * i)))]) (fun _ => rfl) (List.Mem.head _) (Nat.le_of_ble_eq_true rfl) (by decide) (by omega) (by omega) (tX6_take_0_ok (80, .iinc 2 1, 3) (List.mem_of_getElem? (i := 45) rfl)) (fun zv22 ze23 => ?_)
      refine w_goto (tgt := 62) (tX6_take_0_ok (83, .goto (-21), 3) (List.mem_of_getElem? (i := 46) rfl)) rfl ?_
      have c1 := ((congrFun zq19 (100 + 6 * j + 3)).trans (s2_s _ _ _))
      refine w_lv [(2, .int zv22), (0, .ref (ad (100 + 6 * j))), (1, .ref (ad (100 + 6 * i)))] (by intro q hq; simp only [List.mem_cons, List.not_mem_nil, or_false] at hq ⊢; rcases hq with e | e | e <;> subst e <;> simp) ?_
      have ep : zv22.toInt.toNat = p.toInt.toNat + 1 := by omega
      refine ih (j9 - 1) (by omega) zh17 zI18 _ (by omega) (by omega) (fun q h1 => ?_) ((congrFun zq19 _).trans ((s2_n (by omega)).trans hO)) (fun L9 n1 => (congrFun zq19 _).trans ((s2_n n1).trans (hI L9 n1))) zz20 (fun g2 I2 W2 z1 z2 z3 z4 z5 z6 z7 => hq g2 I2 W2 z1 z2 z3 z4 z5 z6 (zf21.tr z7))
      rw [c1]
      by_cases c9 : q = p.toInt.toNat
      · subst c9
        rw [upd_s, zu15]
      · rw [upd_n _ _ c9]
        exact hD q (by omega)
theorem z_take (hT : k_tys tys cA) (hj_j : j < 10) (hj_i : i < 10) (hij : i ≠ j) (hz : zr zNC cA ad I W O h) (hf : 1 ≤ fr) (hlo : 100 ≤ lo) (hb9 : ∀ q, q < 6 → 0 ≤ (I (100 + 6 * i + 3) q).toInt ∧ (I (100 + 6 * i + 3) q).toInt ≤ 1) (hq : (∀ (g : ch_H) (I1 : zI) (W1 : zW), (∀ q, q < 6 → I1 (100 + 6 * j + 1) q = I (100 + 6 * i + 1) q ∧ I1 (100 + 6 * j + 2) q = I (100 + 6 * i + 2) q ∧ I1 (100 + 6 * j + 3) q = I (100 + 6 * i + 3) q) → (∀ q, q < 12 → I1 (100 + 6 * j + 4) q = I (100 + 6 * i + 4) q) → (∀ q, q < 8 → I1 (100 + 6 * j + 5) q = I (100 + 6 * i + 5) q) → I1 (100 + 6 * j) 5 = I (100 + 6 * i) 5 → W1 (100 + 6 * j) 6 = W (100 + 6 * i) 6 → (∀ L, (L < 100 + 6 * j ∨ 100 + 6 * j + 6 ≤ L) → I1 L = I L) → (∀ L, L ≠ (100 + 6 * j) → W1 L = W L) → zr zNC cA ad I1 W1 O g → zf zNC ad h g → Q none g)) : ww l D tys A X fr lo mX6_take Q 0 [(0, .ref (ad (100 + 6 * j))), (1, .ref (ad (100 + 6 * i)))] [] h := by
  refine w_aload_n (List.Mem.tail _ (List.Mem.head _)) (tX6_take_0_ok (0, .aload_n 1, 1) (List.mem_of_getElem? (i := 0) rfl)) ?_
  refine z_getR (L1 := (100 + 6 * i + 1)) (own := 11) (k := 0) hz (zNC_s (k := 0) hj_i (by decide)) (zZ_s i) rfl rfl rfl rfl rfl (by decide) (tX6_take_0_ok (1, .getfield 9, 3) (List.mem_of_getElem? (i := 1) rfl)) ?_
  refine w_iconst (by decide) (tX6_take_0_ok (4, .iconst 0, 1) (List.mem_of_getElem? (i := 2) rfl)) (fun zv1 ze2 => ?_)
  refine w_aload_n (List.Mem.head _) (tX6_take_0_ok (5, .aload_n 0, 1) (List.mem_of_getElem? (i := 3) rfl)) ?_
  refine z_getR (L1 := (100 + 6 * j + 1)) (own := 11) (k := 0) hz (zNC_s (k := 0) hj_j (by decide)) (zZ_s j) rfl rfl rfl rfl rfl (by decide) (tX6_take_0_ok (6, .getfield 9, 3) (List.mem_of_getElem? (i := 4) rfl)) ?_
  refine w_iconst (by decide) (tX6_take_0_ok (9, .iconst 0, 1) (List.mem_of_getElem? (i := 5) rfl)) (fun zv3 ze4 => ?_)
  refine w_bipush (by decide) (tX6_take_0_ok (10, .bipush 6, 2) (List.mem_of_getElem? (i := 6) rfl)) (fun zv5 ze6 => ?_)
  refine z_copy (f := (I (100 + 6 * i + 1))) (g0 := (I (100 + 6 * j + 1))) hT hz (zNC_s (k := 1) hj_i (by decide)) (zNC_s (k := 1) hj_j (by decide)) (zZ_s1 i) (zZ_s1 j) rfl rfl (by omega) (by omega) (by omega) (pg_copyw) (by omega) hlo (tX6_take_0_ok (12, .invokestatic 41, 3) (List.mem_of_getElem? (i := 7) rfl)) (fun zh7 zI8 zg9 zq10 ze11 zz12 zf13 => ?_)
  refine w_aload_n (List.Mem.tail _ (List.Mem.head _)) (tX6_take_0_ok (15, .aload_n 1, 1) (List.mem_of_getElem? (i := 8) rfl)) ?_
  refine z_getR (L1 := (100 + 6 * i + 2)) (own := 11) (k := 1) zz12 (zNC_s (k := 0) hj_i (by decide)) (zZ_s i) rfl rfl rfl rfl rfl (by decide) (tX6_take_0_ok (16, .getfield 15, 3) (List.mem_of_getElem? (i := 9) rfl)) ?_
  refine w_iconst (by decide) (tX6_take_0_ok (19, .iconst 0, 1) (List.mem_of_getElem? (i := 10) rfl)) (fun zv14 ze15 => ?_)
  refine w_aload_n (List.Mem.head _) (tX6_take_0_ok (20, .aload_n 0, 1) (List.mem_of_getElem? (i := 11) rfl)) ?_
  refine z_getR (L1 := (100 + 6 * j + 2)) (own := 11) (k := 1) zz12 (zNC_s (k := 0) hj_j (by decide)) (zZ_s j) rfl rfl rfl rfl rfl (by decide) (tX6_take_0_ok (21, .getfield 15, 3) (List.mem_of_getElem? (i := 12) rfl)) ?_
  refine w_iconst (by decide) (tX6_take_0_ok (24, .iconst 0, 1) (List.mem_of_getElem? (i := 13) rfl)) (fun zv16 ze17 => ?_)
  refine w_bipush (by decide) (tX6_take_0_ok (25, .bipush 6, 2) (List.mem_of_getElem? (i := 14) rfl)) (fun zv18 ze19 => ?_)
  refine z_copy (f := (I (100 + 6 * i + 2))) (g0 := (I (100 + 6 * j + 2))) hT zz12 (zNC_s (k := 2) hj_i (by decide)) (zNC_s (k := 2) hj_j (by decide)) (zZ_s2 i) (zZ_s2 j) ((congrFun zq10 (100 + 6 * i + 2)).trans (s2_n (by omega))) ((congrFun zq10 (100 + 6 * j + 2)).trans (s2_n (by omega))) (by omega) (by omega) (by omega) (pg_copyw) (by omega) hlo (tX6_take_0_ok (27, .invokestatic 41, 3) (List.mem_of_getElem? (i := 15) rfl)) (fun zh20 zI21 zg22 zq23 ze24 zz25 zf26 => ?_)
  refine w_aload_n (List.Mem.tail _ (List.Mem.head _)) (tX6_take_0_ok (30, .aload_n 1, 1) (List.mem_of_getElem? (i := 16) rfl)) ?_
  refine z_getR (L1 := (100 + 6 * i + 4)) (own := 11) (k := 3) zz25 (zNC_s (k := 0) hj_i (by decide)) (zZ_s i) rfl rfl rfl rfl rfl (by decide) (tX6_take_0_ok (31, .getfield 22, 3) (List.mem_of_getElem? (i := 17) rfl)) ?_
  refine w_iconst (by decide) (tX6_take_0_ok (34, .iconst 0, 1) (List.mem_of_getElem? (i := 18) rfl)) (fun zv27 ze28 => ?_)
  refine w_aload_n (List.Mem.head _) (tX6_take_0_ok (35, .aload_n 0, 1) (List.mem_of_getElem? (i := 19) rfl)) ?_
  refine z_getR (L1 := (100 + 6 * j + 4)) (own := 11) (k := 3) zz25 (zNC_s (k := 0) hj_j (by decide)) (zZ_s j) rfl rfl rfl rfl rfl (by decide) (tX6_take_0_ok (36, .getfield 22, 3) (List.mem_of_getElem? (i := 20) rfl)) ?_
  refine w_iconst (by decide) (tX6_take_0_ok (39, .iconst 0, 1) (List.mem_of_getElem? (i := 21) rfl)) (fun zv29 ze30 => ?_)
  refine w_bipush (by decide) (tX6_take_0_ok (40, .bipush 12, 2) (List.mem_of_getElem? (i := 22) rfl)) (fun zv31 ze32 => ?_)
  refine z_copy (f := (I (100 + 6 * i + 4))) (g0 := (I (100 + 6 * j + 4))) hT zz25 (zNC_s (k := 4) hj_i (by decide)) (zNC_s (k := 4) hj_j (by decide)) (zZ_s4 i) (zZ_s4 j) (((congrFun zq23 (100 + 6 * i + 4)).trans (s2_n (by omega))).trans ((congrFun zq10 (100 + 6 * i + 4)).trans (s2_n (by omega)))) (((congrFun zq23 (100 + 6 * j + 4)).trans (s2_n (by omega))).trans ((congrFun zq10 (100 + 6 * j + 4)).trans (s2_n (by omega)))) (by omega) (by omega) (by omega) (pg_copyw) (by omega) hlo (tX6_take_0_ok (42, .invokestatic 41, 3) (List.mem_of_getElem? (i := 23) rfl)) (fun zh33 zI34 zg35 zq36 ze37 zz38 zf39 => ?_)
  refine w_aload_n (List.Mem.tail _ (List.Mem.head _)) (tX6_take_0_ok (45, .aload_n 1, 1) (List.mem_of_getElem? (i := 24) rfl)) ?_
  refine z_getR (L1 := (100 + 6 * i + 5)) (own := 11) (k := 4) zz38 (zNC_s (k := 0) hj_i (by decide)) (zZ_s i) rfl rfl rfl rfl rfl (by decide) (tX6_take_0_ok (46, .getfield 25, 3) (List.mem_of_getElem? (i := 25) rfl)) ?_
  refine w_iconst (by decide) (tX6_take_0_ok (49, .iconst 0, 1) (List.mem_of_getElem? (i := 26) rfl)) (fun zv40 ze41 => ?_)
  refine w_aload_n (List.Mem.head _) (tX6_take_0_ok (50, .aload_n 0, 1) (List.mem_of_getElem? (i := 27) rfl)) ?_
  refine z_getR (L1 := (100 + 6 * j + 5)) (own := 11) (k := 4) zz38 (zNC_s (k := 0) hj_j (by decide)) (zZ_s j) rfl rfl rfl rfl rfl (by decide) (tX6_take_0_ok (51, .getfield 25, 3) (List.mem_of_getElem? (i := 28) rfl)) ?_
  refine w_iconst (by decide) (tX6_take_0_ok (54, .iconst 0, 1) (List.mem_of_getElem? (i := 29) rfl)) (fun zv42 ze43 => ?_)
  refine w_bipush (by decide) (tX6_take_0_ok (55, .bipush 8, 2) (List.mem_of_getElem? (i := 30) rfl)) (fun zv44 ze45 => ?_)
  refine z_copy (f := (I (100 + 6 * i + 5))) (g0 := (I (100 + 6 * j + 5))) hT zz38 (zNC_s (k := 5) hj_i (by decide)) (zNC_s (k := 5) hj_j (by decide)) (zZ_s5 i) (zZ_s5 j) ((((congrFun zq36 (100 + 6 * i + 5)).trans (s2_n (by omega))).trans ((congrFun zq23 (100 + 6 * i + 5)).trans (s2_n (by omega)))).trans ((congrFun zq10 (100 + 6 * i + 5)).trans (s2_n (by omega)))) ((((congrFun zq36 (100 + 6 * j + 5)).trans (s2_n (by omega))).trans ((congrFun zq23 (100 + 6 * j + 5)).trans (s2_n (by omega)))).trans ((congrFun zq10 (100 + 6 * j + 5)).trans (s2_n (by omega)))) (by omega) (by omega) (by omega) (pg_copyw) (by omega) hlo (tX6_take_0_ok (57, .invokestatic 41, 3) (List.mem_of_getElem? (i := 31) rfl)) (fun zh46 zI47 zg48 zq49 ze50 zz51 zf52 => ?_)
  refine w_iconst (by decide) (tX6_take_0_ok (60, .iconst 0, 1) (List.mem_of_getElem? (i := 32) rfl)) (fun zv53 ze54 => ?_)
  refine w_istore_n [(2, .int zv53), (0, .ref (ad (100 + 6 * j))), (1, .ref (ad (100 + 6 * i)))] rfl (Nat.le_of_ble_eq_true rfl) (tX6_take_0_ok (61, .istore_n 2, 1) (List.mem_of_getElem? (i := 33) rfl)) ?_
  refine w_lv [(2, .int zv53), (0, .ref (ad (100 + 6 * j))), (1, .ref (ad (100 + 6 * i)))] (by intro q hq; simp only [List.mem_cons, List.not_mem_nil, or_false] at hq ⊢; rcases hq with e | e | e <;> subst e <;> simp) ?_
  have c1 := (((((congrFun zq49 (100 + 6 * j + 1)).trans (s2_n (by omega))).trans ((congrFun zq36 (100 + 6 * j + 1)).trans (s2_n (by omega)))).trans ((congrFun zq23 (100 + 6 * j + 1)).trans (s2_n (by omega)))).trans ((congrFun zq10 (100 + 6 * j + 1)).trans (s2_s _ _ _)))
  have c2 := ((((congrFun zq49 (100 + 6 * j + 2)).trans (s2_n (by omega))).trans ((congrFun zq36 (100 + 6 * j + 2)).trans (s2_n (by omega)))).trans ((congrFun zq23 (100 + 6 * j + 2)).trans (s2_s _ _ _)))
  have c4 := (((congrFun zq49 (100 + 6 * j + 4)).trans (s2_n (by omega))).trans ((congrFun zq36 (100 + 6 * j + 4)).trans (s2_s _ _ _)))
  have c5 := ((congrFun zq49 (100 + 6 * j + 5)).trans (s2_s _ _ _))
  refine z_tkL hT hj_j hj_i hij (I0 := zI47) (o9f := I (100 + 6 * i + 3)) hb9 6 zh46 zI47 _ (by omega) (by omega) (fun q h1 => absurd h1 (by omega)) (((((congrFun zq49 (100 + 6 * i + 3)).trans (s2_n (by omega))).trans ((congrFun zq36 (100 + 6 * i + 3)).trans (s2_n (by omega)))).trans ((congrFun zq23 (100 + 6 * i + 3)).trans (s2_n (by omega)))).trans ((congrFun zq10 (100 + 6 * i + 3)).trans (s2_n (by omega)))) (fun _ _ => rfl) zz51 (fun g9 I9 W9 y1 y2 y3 y4 y5 y6 y7 => ?_)
  refine hq g9 I9 W9 (fun q h1 => ⟨?_, ?_, y1 q h1⟩) (fun q h1 => ?_) (fun q h1 => ?_) ?_ y3 (fun L9 n1 => ?_) y5 y6 ((((zf13.tr zf26).tr zf39).tr zf52).tr y7)
  · rw [y4 _ (by omega) (by omega), c1]
    exact ze11 q h1
  · rw [y4 _ (by omega) (by omega), c2]
    exact ze24 q h1
  · rw [y4 _ (by omega) (by omega), c4]
    exact ze37 q h1
  · rw [y4 _ (by omega) (by omega), c5]
    exact ze50 q h1
  · rw [y2, zq49, s2_n (by omega), zq36, s2_n (by omega), zq23, s2_n (by omega), zq10, s2_n (by omega)]
  · rw [y4 L9 (by omega) (by omega), zq49, s2_n (by omega), zq36, s2_n (by omega), zq23, s2_n (by omega), zq10, s2_n (by omega)]
theorem w_lload_nb {k4 : Fin 4} {x : Int64} (hm : ((k4 : Nat), Value.long x) ∈ lv) (hd : decode M.2.1 pc = .ok (.lload_n k4, 1)) (k : ww l D tys A X fr lo M Q (pc + 1) lv (.long x :: st) h) : ww l D tys A X fr lo M Q pc lv st h := tt_lload_n rfl hm hd k
theorem z_bgL (hT : k_tys tys cA) (hj_j : j < 10) {sd : Int64} {I0 : zI} : ∀ (j9 : Nat) (h : ch_H) (I : zI) (p : Int32), p.toInt + j9 = 6 → 0 ≤ p.toInt → (∀ q, q < p.toInt.toNat → I (100 + 6 * j + 1) q = I0 13 q ∧ I (100 + 6 * j + 2) q = 0 ∧ I (100 + 6 * j + 3) q = 1 ∧ I (100 + 6 * j + 4) (2 * q) = 0 ∧ I (100 + 6 * j + 4) (2 * q + 1) = 0) → (∀ L, (L < 100 + 6 * j ∨ 100 + 6 * j + 5 ≤ L ∨ L = 100 + 6 * j) → I L = I0 L) → zr zNC cA ad I W O h → (∀ (g : ch_H) (I1 : zI) (W1 : zW), (∀ q, q < 6 → I1 (100 + 6 * j + 1) q = I0 13 q ∧ I1 (100 + 6 * j + 2) q = 0 ∧ I1 (100 + 6 * j + 3) q = 1 ∧ I1 (100 + 6 * j + 4) (2 * q) = 0 ∧ I1 (100 + 6 * j + 4) (2 * q + 1) = 0) → I1 (100 + 6 * j) 5 = 0 → W1 (100 + 6 * j) 6 = sd → (∀ L, (L < 100 + 6 * j ∨ 100 + 6 * j + 5 ≤ L) → I1 L = I0 L) → (∀ L, L ≠ (100 + 6 * j) → W1 L = W L) → zr zNC cA ad I1 W1 O g → zf zNC ad h g → Q none g) → ww l D tys A X fr lo mX6_begin Q 3 [(4, .int p), (0, .ref (ad (100 + 6 * j))), (1, .ref (ad 2)), (2, .long sd)] [] h := by
  intro j9
  induction j9 using Nat.strongRecOn with
  | ind j9 ih =>
    intro h I p hj9 hp0 hD hI hz hq
    refine w_iload (List.Mem.head _) (tX6_begin_0_ok (3, .iload 4, 2) (List.mem_of_getElem? (i := 2) rfl)) ?_
    refine w_bipush (by decide) (tX6_begin_0_ok (5, .bipush 6, 2) (List.mem_of_getElem? (i := 3) rfl)) (fun zv1 ze2 => ?_)
    refine w_icmp_ge (tgt := 68) (tX6_begin_0_ok (7, .if_icmp .ge 61, 3) (List.mem_of_getElem? (i := 4) rfl)) rfl (fun zb3 => ?_) (fun zb3 => ?_)
    · refine w_aload_n (List.Mem.tail _ (List.Mem.head _)) (tX6_begin_0_ok (68, .aload_n 0, 1) (List.mem_of_getElem? (i := 41) rfl)) ?_
      refine w_iconst (by decide) (tX6_begin_0_ok (69, .iconst 0, 1) (List.mem_of_getElem? (i := 42) rfl)) (fun zv4 ze5 => ?_)
      refine z_put (f := (I (100 + 6 * j))) (own := 11) (k := 5) hz (zNC_s (k := 0) hj_j (by decide)) (zZ_s j) rfl rfl rfl rfl rfl (by decide) rfl ⟨rfl, rfl⟩ (tX6_begin_0_ok (70, .putfield 33, 3) (List.mem_of_getElem? (i := 43) rfl)) (fun zh6 zI7 zq8 zz9 zf10 => ?_)
      refine w_aload_n (List.Mem.tail _ (List.Mem.head _)) (tX6_begin_0_ok (73, .aload_n 0, 1) (List.mem_of_getElem? (i := 44) rfl)) ?_
      refine w_lload_n (List.Mem.tail _ (List.Mem.tail _ (List.Mem.tail _ (List.Mem.head _)))) (tX6_begin_0_ok (74, .lload_n 2, 1) (List.mem_of_getElem? (i := 45) rfl)) ?_
      refine z_putJ (w := (W (100 + 6 * j))) (own := 11) (k := 6) zz9 (zNC_s (k := 0) hj_j (by decide)) (zZ_s j) rfl rfl rfl rfl rfl (by decide) rfl ⟨rfl, rfl⟩ (tX6_begin_0_ok (75, .putfield 37, 3) (List.mem_of_getElem? (i := 46) rfl)) (fun zh11 zI12 zq13 zz14 zf15 => ?_)
      refine w_vret rfl (tX6_begin_0_ok (78, .return_, 1) (List.mem_of_getElem? (i := 47) rfl)) ?_
      have c5 := ((congrFun zq8 (100 + 6 * j)).trans (s2_s _ _ _))
      have c6 := ((congrFun zq13 (100 + 6 * j)).trans (s2_s _ _ _))
      refine hq zh11 zI7 zI12 (fun q h1 => ?_) ?_ ?_ (fun L9 n1 => ?_) (fun L9 n1 => ?_) zz14 (zf10.tr zf15)
      · rw [zq8, s2_n (by omega), s2_n (by omega), s2_n (by omega), s2_n (by omega)]
        exact hD q (by omega)
      · rw [c5, upd_s]
        exact (kn_eq _ _).mpr (by rw [ze5]; rfl)
      · rw [c6, wpd_s]
      · rw [zq8, s2_n (by omega)]
        exact hI L9 (by omega)
      · rw [zq13, s2_n n1]
    · refine w_aload_n (List.Mem.tail _ (List.Mem.head _)) (tX6_begin_0_ok (10, .aload_n 0, 1) (List.mem_of_getElem? (i := 5) rfl)) ?_
      refine z_getR (L1 := (100 + 6 * j + 1)) (own := 11) (k := 0) hz (zNC_s (k := 0) hj_j (by decide)) (zZ_s j) rfl rfl rfl rfl rfl (by decide) (tX6_begin_0_ok (11, .getfield 9, 3) (List.mem_of_getElem? (i := 6) rfl)) ?_
      refine w_iload (List.Mem.head _) (tX6_begin_0_ok (14, .iload 4, 2) (List.mem_of_getElem? (i := 7) rfl)) ?_
      refine w_aload_n (List.Mem.tail _ (List.Mem.tail _ (List.Mem.head _))) (tX6_begin_0_ok (16, .aload_n 1, 1) (List.mem_of_getElem? (i := 8) rfl)) ?_
      refine z_getR (L1 := 13) (own := 11) (k := 3) hz rfl rfl rfl rfl rfl rfl rfl (by decide) (tX6_begin_0_ok (17, .getfield 28, 3) (List.mem_of_getElem? (i := 9) rfl)) ?_
      refine w_iload (List.Mem.head _) (tX6_begin_0_ok (20, .iload 4, 2) (List.mem_of_getElem? (i := 10) rfl)) ?_
      refine z_iald (f := (I 13)) hT hz rfl rfl rfl (by omega) (by omega) (tX6_begin_0_ok (22, .iaload, 1) (List.mem_of_getElem? (i := 11) rfl)) (fun zv16 zu17 => ?_)
      have ze18 : zv16.toInt = ((I 13) p.toInt.toNat).toInt := congrArg _ zu17
      refine z_iast (f := (I (100 + 6 * j + 1))) hT hz (zNC_s (k := 1) hj_j (by decide)) (zZ_s1 j) rfl (by omega) (by omega) (tX6_begin_0_ok (23, .iastore, 1) (List.mem_of_getElem? (i := 12) rfl)) (fun zh19 zI20 zq21 zz22 zf23 => ?_)
      refine w_aload_n (List.Mem.tail _ (List.Mem.head _)) (tX6_begin_0_ok (24, .aload_n 0, 1) (List.mem_of_getElem? (i := 13) rfl)) ?_
      refine z_getR (L1 := (100 + 6 * j + 2)) (own := 11) (k := 1) zz22 (zNC_s (k := 0) hj_j (by decide)) (zZ_s j) rfl rfl rfl rfl rfl (by decide) (tX6_begin_0_ok (25, .getfield 15, 3) (List.mem_of_getElem? (i := 14) rfl)) ?_
      refine w_iload (List.Mem.head _) (tX6_begin_0_ok (28, .iload 4, 2) (List.mem_of_getElem? (i := 15) rfl)) ?_
      refine w_iconst (by decide) (tX6_begin_0_ok (30, .iconst 0, 1) (List.mem_of_getElem? (i := 16) rfl)) (fun zv24 ze25 => ?_)
      refine z_iast (f := (I (100 + 6 * j + 2))) hT zz22 (zNC_s (k := 2) hj_j (by decide)) (zZ_s2 j) ((congrFun zq21 (100 + 6 * j + 2)).trans (s2_n (by omega))) (by omega) (by omega) (tX6_begin_0_ok (31, .iastore, 1) (List.mem_of_getElem? (i := 17) rfl)) (fun zh26 zI27 zq28 zz29 zf30 => ?_)
      refine w_aload_n (List.Mem.tail _ (List.Mem.head _)) (tX6_begin_0_ok (32, .aload_n 0, 1) (List.mem_of_getElem? (i := 18) rfl)) ?_
      refine z_getR (L1 := (100 + 6 * j + 3)) (own := 11) (k := 2) zz29 (zNC_s (k := 0) hj_j (by decide)) (zZ_s j) rfl rfl rfl rfl rfl (by decide) (tX6_begin_0_ok (33, .getfield 18, 3) (List.mem_of_getElem? (i := 19) rfl)) ?_
      refine w_iload (List.Mem.head _) (tX6_begin_0_ok (36, .iload 4, 2) (List.mem_of_getElem? (i := 20) rfl)) ?_
      refine w_iconst (by decide) (tX6_begin_0_ok (38, .iconst 1, 1) (List.mem_of_getElem? (i := 21) rfl)) (fun zv31 ze32 => ?_)
      refine z_zast (f := (I (100 + 6 * j + 3))) hT zz29 (zNC_s (k := 3) hj_j (by decide)) (zZ_s3 j) (((congrFun zq28 (100 + 6 * j + 3)).trans (s2_n (by omega))).trans ((congrFun zq21 (100 + 6 * j + 3)).trans (s2_n (by omega)))) (by omega) (by omega) (by omega) (tX6_begin_0_ok (39, .bastore, 1) (List.mem_of_getElem? (i := 22) rfl)) (fun zh33 zI34 zq35 zz36 zf37 => ?_)
      refine w_aload_n (List.Mem.tail _ (List.Mem.head _)) (tX6_begin_0_ok (40, .aload_n 0, 1) (List.mem_of_getElem? (i := 23) rfl)) ?_
      refine z_getR (L1 := (100 + 6 * j + 4)) (own := 11) (k := 3) zz36 (zNC_s (k := 0) hj_j (by decide)) (zZ_s j) rfl rfl rfl rfl rfl (by decide) (tX6_begin_0_ok (41, .getfield 22, 3) (List.mem_of_getElem? (i := 24) rfl)) ?_
      refine w_iconst (by decide) (tX6_begin_0_ok (44, .iconst 2, 1) (List.mem_of_getElem? (i := 25) rfl)) (fun zv38 ze39 => ?_)
      refine w_iload (List.Mem.head _) (tX6_begin_0_ok (45, .iload 4, 2) (List.mem_of_getElem? (i := 26) rfl)) ?_
      refine w_imul (by assumption) (by omega) (by omega) (tX6_begin_0_ok (47, .imul, 1) (List.mem_of_getElem? (i := 27) rfl)) (fun zv40 ze41 => ?_)
      refine w_iconst (by decide) (tX6_begin_0_ok (48, .iconst 0, 1) (List.mem_of_getElem? (i := 28) rfl)) (fun zv42 ze43 => ?_)
      refine z_iast (f := (I (100 + 6 * j + 4))) hT zz36 (zNC_s (k := 4) hj_j (by decide)) (zZ_s4 j) ((((congrFun zq35 (100 + 6 * j + 4)).trans (s2_n (by omega))).trans ((congrFun zq28 (100 + 6 * j + 4)).trans (s2_n (by omega)))).trans ((congrFun zq21 (100 + 6 * j + 4)).trans (s2_n (by omega)))) (by omega) (by omega) (tX6_begin_0_ok (49, .iastore, 1) (List.mem_of_getElem? (i := 29) rfl)) (fun zh44 zI45 zq46 zz47 zf48 => ?_)
      refine w_aload_n (List.Mem.tail _ (List.Mem.head _)) (tX6_begin_0_ok (50, .aload_n 0, 1) (List.mem_of_getElem? (i := 30) rfl)) ?_
      refine z_getR (L1 := (100 + 6 * j + 4)) (own := 11) (k := 3) zz47 (zNC_s (k := 0) hj_j (by decide)) (zZ_s j) rfl rfl rfl rfl rfl (by decide) (tX6_begin_0_ok (51, .getfield 22, 3) (List.mem_of_getElem? (i := 31) rfl)) ?_
      refine w_iconst (by decide) (tX6_begin_0_ok (54, .iconst 2, 1) (List.mem_of_getElem? (i := 32) rfl)) (fun zv49 ze50 => ?_)
      refine w_iload (List.Mem.head _) (tX6_begin_0_ok (55, .iload 4, 2) (List.mem_of_getElem? (i := 33) rfl)) ?_
      refine w_imul (by assumption) (by omega) (by omega) (tX6_begin_0_ok (57, .imul, 1) (List.mem_of_getElem? (i := 34) rfl)) (fun zv51 ze52 => ?_)
      refine w_iconst (by decide) (tX6_begin_0_ok (58, .iconst 1, 1) (List.mem_of_getElem? (i := 35) rfl)) (fun zv53 ze54 => ?_)
      refine w_iadd (by omega) (by omega) (tX6_begin_0_ok (59, .iadd, 1) (List.mem_of_getElem? (i := 36) rfl)) (fun zv55 ze56 => ?_)
      refine w_iconst (by decide) (tX6_begin_0_ok (60, .iconst 0, 1) (List.mem_of_getElem? (i := 37) rfl)) (fun zv57 ze58 => ?_)
      refine z_iast (f := (upd (I (100 + 6 * j + 4)) zv40.toInt.toNat zv42)) hT zz47 (zNC_s (k := 4) hj_j (by decide)) (zZ_s4 j) ((congrFun zq46 (100 + 6 * j + 4)).trans (s2_s _ _ _)) (by omega) (by omega) (tX6_begin_0_ok (61, .iastore, 1) (List.mem_of_getElem? (i := 38) rfl)) (fun zh59 zI60 zq61 zz62 zf63 => ?_)
      refine w_iinc (fun zv64 => [(4, .int zv64), (0, .ref (ad (100 + 6 * j))), (1, .ref (ad 2)), (2, .long sd)]) (fun _ => rfl) (List.Mem.head _) (Nat.le_of_ble_eq_true rfl) (by decide) (by omega) (by omega) (tX6_begin_0_ok (62, .iinc 4 1, 3) (List.mem_of_getElem? (i := 39) rfl)) (fun zv64 ze65 => ?_)
      refine w_goto (tgt := 3) (tX6_begin_0_ok (65, .goto (-62), 3) (List.mem_of_getElem? (i := 40) rfl)) rfl ?_
      have ep : zv64.toInt.toNat = p.toInt.toNat + 1 := by omega
      have i3 : zv40.toInt.toNat = 2 * p.toInt.toNat := by omega
      have i4 : zv55.toInt.toNat = 2 * p.toInt.toNat + 1 := by omega
      have c1 := ((((((congrFun zq61 (100 + 6 * j + 1)).trans (s2_n (by omega))).trans ((congrFun zq46 (100 + 6 * j + 1)).trans (s2_n (by omega)))).trans ((congrFun zq35 (100 + 6 * j + 1)).trans (s2_n (by omega)))).trans ((congrFun zq28 (100 + 6 * j + 1)).trans (s2_n (by omega)))).trans ((congrFun zq21 (100 + 6 * j + 1)).trans (s2_s _ _ _)))
      have c2 := (((((congrFun zq61 (100 + 6 * j + 2)).trans (s2_n (by omega))).trans ((congrFun zq46 (100 + 6 * j + 2)).trans (s2_n (by omega)))).trans ((congrFun zq35 (100 + 6 * j + 2)).trans (s2_n (by omega)))).trans ((congrFun zq28 (100 + 6 * j + 2)).trans (s2_s _ _ _)))
      have c3 := ((((congrFun zq61 (100 + 6 * j + 3)).trans (s2_n (by omega))).trans ((congrFun zq46 (100 + 6 * j + 3)).trans (s2_n (by omega)))).trans ((congrFun zq35 (100 + 6 * j + 3)).trans (s2_s _ _ _)))
      have c4 := ((congrFun zq61 (100 + 6 * j + 4)).trans (s2_s _ _ _))
      rw [i3, i4] at c4
      refine w_lv [(4, .int zv64), (0, .ref (ad (100 + 6 * j))), (1, .ref (ad 2)), (2, .long sd)] (by intro q hq; simp only [List.mem_cons, List.not_mem_nil, or_false] at hq ⊢; rcases hq with e | e | e | e <;> subst e <;> simp) ?_
      refine ih (j9 - 1) (by omega) zh59 zI60 _ (by omega) (by omega) (fun q h1 => ?_) (fun L9 n1 => ?_) zz62 (fun g2 I2 W2 z1 z2 z3 z4 z5 z6 z7 => hq g2 I2 W2 z1 z2 z3 z4 z5 z6 (((((zf23.tr zf30).tr zf37).tr zf48).tr zf63).tr z7))
      · rw [c1, c2, c3, c4]
        by_cases c9 : q = p.toInt.toNat
        · subst c9
          rw [upd_s, upd_s, upd_s, upd_n _ _ (show ¬ 2 * p.toInt.toNat = 2 * p.toInt.toNat + 1 by omega), upd_s, upd_s, zu17, show zv24 = 0 from (kn_eq _ _).mpr (by rw [ze25]; rfl), show zv31 = 1 from (kn_eq _ _).mpr (by rw [ze32]; rfl), show zv42 = 0 from (kn_eq _ _).mpr (by rw [ze43]; rfl), show zv57 = 0 from (kn_eq _ _).mpr (by rw [ze58]; rfl), hI 13 (by omega)]
          exact ⟨rfl, rfl, rfl, rfl, rfl⟩
        · rw [upd_n _ _ c9, upd_n _ _ c9, upd_n _ _ c9, upd_n _ _ (by omega), upd_n _ _ (by omega), upd_n _ _ (by omega), upd_n _ _ (by omega)]
          exact hD q (by omega)
      · rw [zq61, s2_n (by omega), zq46, s2_n (by omega), zq35, s2_n (by omega), zq28, s2_n (by omega), zq21, s2_n (by omega)]
        exact hI L9 n1
theorem z_begin (hT : k_tys tys cA) (hj_j : j < 10) {sd : Int64} (hz : zr zNC cA ad I W O h) (hq : (∀ (g : ch_H) (I1 : zI) (W1 : zW), (∀ q, q < 6 → I1 (100 + 6 * j + 1) q = I 13 q ∧ I1 (100 + 6 * j + 2) q = 0 ∧ I1 (100 + 6 * j + 3) q = 1 ∧ I1 (100 + 6 * j + 4) (2 * q) = 0 ∧ I1 (100 + 6 * j + 4) (2 * q + 1) = 0) → I1 (100 + 6 * j) 5 = 0 → W1 (100 + 6 * j) 6 = sd → (∀ L, (L < 100 + 6 * j ∨ 100 + 6 * j + 5 ≤ L) → I1 L = I L) → (∀ L, L ≠ (100 + 6 * j) → W1 L = W L) → zr zNC cA ad I1 W1 O g → zf zNC ad h g → Q none g)) : ww l D tys A X fr lo mX6_begin Q 0 [(0, .ref (ad (100 + 6 * j))), (1, .ref (ad 2)), (2, .long sd)] [] h := by
  refine w_iconst (by decide) (tX6_begin_0_ok (0, .iconst 0, 1) (List.mem_of_getElem? (i := 0) rfl)) (fun zv1 ze2 => ?_)
  refine w_istore [(4, .int zv1), (0, .ref (ad (100 + 6 * j))), (1, .ref (ad 2)), (2, .long sd)] rfl (Nat.le_of_ble_eq_true rfl) (tX6_begin_0_ok (1, .istore 4, 2) (List.mem_of_getElem? (i := 1) rfl)) ?_
  refine w_lv [(4, .int zv1), (0, .ref (ad (100 + 6 * j))), (1, .ref (ad 2)), (2, .long sd)] (by intro q hq; simp only [List.mem_cons, List.not_mem_nil, or_false] at hq ⊢; rcases hq with e | e | e | e <;> subst e <;> simp) ?_
  exact z_bgL hT hj_j (I0 := I) 6 h I _ (by omega) (by omega) (fun q h1 => absurd h1 (by omega)) (fun _ _ => rfl) hz hq
theorem z_join (hT : k_tys tys cA) {o9 q9 is9 : Int32} {isb : Bool} (hz : zr zNC cA ad I W O h) (h1 : 0 ≤ o9.toInt ∧ o9.toInt < 18) (h2 : 0 ≤ q9.toInt ∧ q9.toInt < 18) (hne : ¬ o9.toInt = q9.toInt) (hib : is9.toInt = 0 ∧ isb = false ∨ is9.toInt = 1 ∧ isb = true) (hq : ∀ (g : ch_H) (I1 : zI), (∀ a b, a < 18 → b < 18 → bt9 (I1 21 a) b = if a = o9.toInt.toNat ∧ b = q9.toInt.toNat ∨ a = q9.toInt.toNat ∧ b = o9.toInt.toNat then isb else bt9 (I 21 a) b) → (∀ L, L ≠ 21 → I1 L = I L) → zr zNC cA ad I1 W O g → zf zNC ad h g → Q none g) : ww l D tys A X fr lo mX1_join Q 0 [(0, .ref (ad 3)), (1, .int o9), (2, .int q9), (3, .int is9)] [] h := by
  refine w_iload_n (List.Mem.tail _ (List.Mem.tail _ (List.Mem.tail _ (List.Mem.head _)))) (tX1_join_0_ok (0, .iload_n 3, 1) (List.mem_of_getElem? (i := 0) rfl)) ?_
  refine w_if_eq (tgt := 31) (tX1_join_0_ok (1, .ifCond .eq 30, 3) (List.mem_of_getElem? (i := 1) rfl)) rfl (fun zb1 => ?_) (fun zb1 => ?_)
  · have his : isb = false := by
      rcases hib with ⟨-, z⟩ | ⟨z, -⟩
      · exact z
      · omega
    refine w_aload_n (List.Mem.head _) (tX1_join_0_ok (31, .aload_n 0, 1) (List.mem_of_getElem? (i := 23) rfl)) ?_
    refine z_getR (L1 := 21) (own := 6) (k := 2) hz rfl rfl rfl rfl rfl rfl rfl (by decide) (tX1_join_0_ok (32, .getfield 15, 3) (List.mem_of_getElem? (i := 24) rfl)) ?_
    refine w_iload_n (List.Mem.tail _ (List.Mem.head _)) (tX1_join_0_ok (35, .iload_n 1, 1) (List.mem_of_getElem? (i := 25) rfl)) ?_
    refine tt_dup2 rfl rfl (tX1_join_0_ok (36, .dup2, 1) (List.mem_of_getElem? (i := 26) rfl)) ?_
    show ww l D tys A X fr lo mX1_join Q 37 [(0, .ref (ad 3)), (1, .int o9), (2, .int q9), (3, .int is9)] [.int o9, .ref (ad 21), .int o9, .ref (ad 21)] h
    refine z_iald (f := (I 21)) hT hz rfl rfl rfl (by omega) (by omega) (tX1_join_0_ok (37, .iaload, 1) (List.mem_of_getElem? (i := 27) rfl)) (fun zv2 zu3 => ?_)
    have ze4 : zv2.toInt = ((I 21) o9.toInt.toNat).toInt := congrArg _ zu3
    refine w_iconst (by decide) (tX1_join_0_ok (38, .iconst 1, 1) (List.mem_of_getElem? (i := 28) rfl)) (fun zv5 ze6 => ?_)
    refine w_iload_n (List.Mem.tail _ (List.Mem.tail _ (List.Mem.head _))) (tX1_join_0_ok (39, .iload_n 2, 1) (List.mem_of_getElem? (i := 29) rfl)) ?_
    refine w_ishl (tX1_join_0_ok (40, .ishl, 1) (List.mem_of_getElem? (i := 30) rfl)) (fun zv7 ze8 => ?_)
    refine w_iconst (by decide) (tX1_join_0_ok (41, .iconst (-1), 1) (List.mem_of_getElem? (i := 31) rfl)) (fun zv9 ze10 => ?_)
    refine w_ixor (tX1_join_0_ok (42, .ixor, 1) (List.mem_of_getElem? (i := 32) rfl)) (fun zv11 ze12 => ?_)
    refine w_iand (tX1_join_0_ok (43, .iand, 1) (List.mem_of_getElem? (i := 33) rfl)) (fun zv13 ze14 => ?_)
    have b1_ := bt9_andn (x := zv2) (k := q9) (kk := q9.toInt.toNat) (by omega) (by omega) (z := zv5) (m := zv9) (by omega) (by omega) ze8 ze12 ze14
    refine z_iast (f := (I 21)) hT hz rfl rfl rfl (by omega) (by omega) (tX1_join_0_ok (44, .iastore, 1) (List.mem_of_getElem? (i := 34) rfl)) (fun zh15 zI16 zq17 zz18 zf19 => ?_)
    refine w_aload_n (List.Mem.head _) (tX1_join_0_ok (45, .aload_n 0, 1) (List.mem_of_getElem? (i := 35) rfl)) ?_
    refine z_getR (L1 := 21) (own := 6) (k := 2) zz18 rfl rfl rfl rfl rfl rfl rfl (by decide) (tX1_join_0_ok (46, .getfield 15, 3) (List.mem_of_getElem? (i := 36) rfl)) ?_
    refine w_iload_n (List.Mem.tail _ (List.Mem.tail _ (List.Mem.head _))) (tX1_join_0_ok (49, .iload_n 2, 1) (List.mem_of_getElem? (i := 37) rfl)) ?_
    refine tt_dup2 rfl rfl (tX1_join_0_ok (50, .dup2, 1) (List.mem_of_getElem? (i := 38) rfl)) ?_
    show ww l D tys A X fr lo mX1_join Q 51 [(0, .ref (ad 3)), (1, .int o9), (2, .int q9), (3, .int is9)] [.int q9, .ref (ad 21), .int q9, .ref (ad 21)] zh15
    refine z_iald (f := (upd (I 21) o9.toInt.toNat zv13)) hT zz18 rfl rfl ((congrFun zq17 21).trans (s2_s _ _ _)) (by omega) (by omega) (tX1_join_0_ok (51, .iaload, 1) (List.mem_of_getElem? (i := 39) rfl)) (fun zv20 zu21 => ?_)
    have ze22 : zv20.toInt = ((upd (I 21) o9.toInt.toNat zv13) q9.toInt.toNat).toInt := congrArg _ zu21
    refine w_iconst (by decide) (tX1_join_0_ok (52, .iconst 1, 1) (List.mem_of_getElem? (i := 40) rfl)) (fun zv23 ze24 => ?_)
    refine w_iload_n (List.Mem.tail _ (List.Mem.head _)) (tX1_join_0_ok (53, .iload_n 1, 1) (List.mem_of_getElem? (i := 41) rfl)) ?_
    refine w_ishl (tX1_join_0_ok (54, .ishl, 1) (List.mem_of_getElem? (i := 42) rfl)) (fun zv25 ze26 => ?_)
    refine w_iconst (by decide) (tX1_join_0_ok (55, .iconst (-1), 1) (List.mem_of_getElem? (i := 43) rfl)) (fun zv27 ze28 => ?_)
    refine w_ixor (tX1_join_0_ok (56, .ixor, 1) (List.mem_of_getElem? (i := 44) rfl)) (fun zv29 ze30 => ?_)
    refine w_iand (tX1_join_0_ok (57, .iand, 1) (List.mem_of_getElem? (i := 45) rfl)) (fun zv31 ze32 => ?_)
    have b2_ := bt9_andn (x := zv20) (k := o9) (kk := o9.toInt.toNat) (by omega) (by omega) (z := zv23) (m := zv27) (by omega) (by omega) ze26 ze30 ze32
    refine z_iast (f := (upd (I 21) o9.toInt.toNat zv13)) hT zz18 rfl rfl ((congrFun zq17 21).trans (s2_s _ _ _)) (by omega) (by omega) (tX1_join_0_ok (58, .iastore, 1) (List.mem_of_getElem? (i := 46) rfl)) (fun zh33 zI34 zq35 zz36 zf37 => ?_)
    refine w_vret rfl (tX1_join_0_ok (59, .return_, 1) (List.mem_of_getElem? (i := 47) rfl)) ?_
    have cc := ((congrFun zq35 21).trans (s2_s _ _ _))
    refine hq zh33 zI34 (fun a b ha hb => ?_) (fun L9 n1 => ?_) zz36 (zf19.tr zf37)
    · rw [cc]
      by_cases e1 : a = o9.toInt.toNat
      · subst e1
        rw [upd_n _ _ (by omega), upd_s, b1_ b hb, zu3]
        by_cases e2 : b = q9.toInt.toNat
        · subst e2
          rw [decide_eq_true rfl, Bool.not_true, Bool.and_false, if_pos (by omega), his]
        · rw [decide_eq_false e2, Bool.not_false, Bool.and_true, if_neg (by omega)]
      · by_cases e3 : a = q9.toInt.toNat
        · subst e3
          rw [upd_s, b2_ b hb, zu21, upd_n _ _ (by omega)]
          by_cases e2 : b = o9.toInt.toNat
          · subst e2
            rw [decide_eq_true rfl, Bool.not_true, Bool.and_false, if_pos (by omega), his]
          · rw [decide_eq_false e2, Bool.not_false, Bool.and_true, if_neg (by omega)]
        · rw [upd_n _ _ e3, upd_n _ _ e1, if_neg (by omega)]
    · rw [zq35, s2_n n1, zq17, s2_n n1]
  · have his : isb = true := by
      rcases hib with ⟨z, -⟩ | ⟨-, z⟩
      · omega
      · exact z
    refine w_aload_n (List.Mem.head _) (tX1_join_0_ok (4, .aload_n 0, 1) (List.mem_of_getElem? (i := 2) rfl)) ?_
    refine z_getR (L1 := 21) (own := 6) (k := 2) hz rfl rfl rfl rfl rfl rfl rfl (by decide) (tX1_join_0_ok (5, .getfield 15, 3) (List.mem_of_getElem? (i := 3) rfl)) ?_
    refine w_iload_n (List.Mem.tail _ (List.Mem.head _)) (tX1_join_0_ok (8, .iload_n 1, 1) (List.mem_of_getElem? (i := 4) rfl)) ?_
    refine tt_dup2 rfl rfl (tX1_join_0_ok (9, .dup2, 1) (List.mem_of_getElem? (i := 5) rfl)) ?_
    show ww l D tys A X fr lo mX1_join Q 10 [(0, .ref (ad 3)), (1, .int o9), (2, .int q9), (3, .int is9)] [.int o9, .ref (ad 21), .int o9, .ref (ad 21)] h
    refine z_iald (f := (I 21)) hT hz rfl rfl rfl (by omega) (by omega) (tX1_join_0_ok (10, .iaload, 1) (List.mem_of_getElem? (i := 6) rfl)) (fun zv38 zu39 => ?_)
    have ze40 : zv38.toInt = ((I 21) o9.toInt.toNat).toInt := congrArg _ zu39
    refine w_iconst (by decide) (tX1_join_0_ok (11, .iconst 1, 1) (List.mem_of_getElem? (i := 7) rfl)) (fun zv41 ze42 => ?_)
    refine w_iload_n (List.Mem.tail _ (List.Mem.tail _ (List.Mem.head _))) (tX1_join_0_ok (12, .iload_n 2, 1) (List.mem_of_getElem? (i := 8) rfl)) ?_
    refine w_ishl (tX1_join_0_ok (13, .ishl, 1) (List.mem_of_getElem? (i := 9) rfl)) (fun zv43 ze44 => ?_)
    refine w_ior (tX1_join_0_ok (14, .ior, 1) (List.mem_of_getElem? (i := 10) rfl)) (fun zv45 ze46 => ?_)
    have b1_ := bt9_or (x := zv38) (k := q9) (kk := q9.toInt.toNat) (by omega) (by omega) (z := zv41) (by omega) ze44 ze46
    refine z_iast (f := (I 21)) hT hz rfl rfl rfl (by omega) (by omega) (tX1_join_0_ok (15, .iastore, 1) (List.mem_of_getElem? (i := 11) rfl)) (fun zh47 zI48 zq49 zz50 zf51 => ?_)
    refine w_aload_n (List.Mem.head _) (tX1_join_0_ok (16, .aload_n 0, 1) (List.mem_of_getElem? (i := 12) rfl)) ?_
    refine z_getR (L1 := 21) (own := 6) (k := 2) zz50 rfl rfl rfl rfl rfl rfl rfl (by decide) (tX1_join_0_ok (17, .getfield 15, 3) (List.mem_of_getElem? (i := 13) rfl)) ?_
    refine w_iload_n (List.Mem.tail _ (List.Mem.tail _ (List.Mem.head _))) (tX1_join_0_ok (20, .iload_n 2, 1) (List.mem_of_getElem? (i := 14) rfl)) ?_
    refine tt_dup2 rfl rfl (tX1_join_0_ok (21, .dup2, 1) (List.mem_of_getElem? (i := 15) rfl)) ?_
    show ww l D tys A X fr lo mX1_join Q 22 [(0, .ref (ad 3)), (1, .int o9), (2, .int q9), (3, .int is9)] [.int q9, .ref (ad 21), .int q9, .ref (ad 21)] zh47
    refine z_iald (f := (upd (I 21) o9.toInt.toNat zv45)) hT zz50 rfl rfl ((congrFun zq49 21).trans (s2_s _ _ _)) (by omega) (by omega) (tX1_join_0_ok (22, .iaload, 1) (List.mem_of_getElem? (i := 16) rfl)) (fun zv52 zu53 => ?_)
    have ze54 : zv52.toInt = ((upd (I 21) o9.toInt.toNat zv45) q9.toInt.toNat).toInt := congrArg _ zu53
    refine w_iconst (by decide) (tX1_join_0_ok (23, .iconst 1, 1) (List.mem_of_getElem? (i := 17) rfl)) (fun zv55 ze56 => ?_)
    refine w_iload_n (List.Mem.tail _ (List.Mem.head _)) (tX1_join_0_ok (24, .iload_n 1, 1) (List.mem_of_getElem? (i := 18) rfl)) ?_
    refine w_ishl (tX1_join_0_ok (25, .ishl, 1) (List.mem_of_getElem? (i := 19) rfl)) (fun zv57 ze58 => ?_)
    refine w_ior (tX1_join_0_ok (26, .ior, 1) (List.mem_of_getElem? (i := 20) rfl)) (fun zv59 ze60 => ?_)
    have b2_ := bt9_or (x := zv52) (k := o9) (kk := o9.toInt.toNat) (by omega) (by omega) (z := zv55) (by omega) ze58 ze60
    refine z_iast (f := (upd (I 21) o9.toInt.toNat zv45)) hT zz50 rfl rfl ((congrFun zq49 21).trans (s2_s _ _ _)) (by omega) (by omega) (tX1_join_0_ok (27, .iastore, 1) (List.mem_of_getElem? (i := 21) rfl)) (fun zh61 zI62 zq63 zz64 zf65 => ?_)
    refine w_goto (tgt := 59) (tX1_join_0_ok (28, .goto 31, 3) (List.mem_of_getElem? (i := 22) rfl)) rfl ?_
    refine w_vret rfl (tX1_join_0_ok (59, .return_, 1) (List.mem_of_getElem? (i := 47) rfl)) ?_
    have cc := ((congrFun zq63 21).trans (s2_s _ _ _))
    refine hq zh61 zI62 (fun a b ha hb => ?_) (fun L9 n1 => ?_) zz64 (zf51.tr zf65)
    · rw [cc]
      by_cases e1 : a = o9.toInt.toNat
      · subst e1
        rw [upd_n _ _ (by omega), upd_s, b1_ b hb, zu39]
        by_cases e2 : b = q9.toInt.toNat
        · subst e2
          rw [decide_eq_true rfl, Bool.or_true, if_pos (by omega), his]
        · rw [decide_eq_false e2, Bool.or_false, if_neg (by omega)]
      · by_cases e3 : a = q9.toInt.toNat
        · subst e3
          rw [upd_s, b2_ b hb, zu53, upd_n _ _ (by omega)]
          by_cases e2 : b = o9.toInt.toNat
          · subst e2
            rw [decide_eq_true rfl, Bool.or_true, if_pos (by omega), his]
          · rw [decide_eq_false e2, Bool.or_false, if_neg (by omega)]
        · rw [upd_n _ _ e3, upd_n _ _ e1, if_neg (by omega)]
    · rw [zq63, s2_n n1, zq49, s2_n n1]
theorem z_leL (hT : k_tys tys cA) {I0 : zI} : ∀ (j9 : Nat) (h : ch_H) (I : zI) (i9 : Int32), i9.toInt + j9 = 18 → 0 ≤ i9.toInt → (∀ q, q < i9.toInt.toNat → I 21 q = 0) → (I 3 0 = 0 ∧ I 3 3 = 0 ∧ I 3 5 = 0) → (∀ L, L ≠ 21 → L ≠ 3 → I L = I0 L) → zr zNC cA ad I W O h → (∀ (g : ch_H) (I1 : zI), (∀ q, q < 18 → I1 21 q = 0) → I1 3 0 = 0 → I1 3 3 = 0 → I1 3 5 = 0 → (∀ L, L ≠ 21 → L ≠ 3 → I1 L = I0 L) → zr zNC cA ad I1 W O g → zf zNC ad h g → Q none g) → ww l D tys A X fr lo mX1_leave Q 17 [(1, .int i9), (0, .ref (ad 3))] [] h := by
  intro j9
  induction j9 using Nat.strongRecOn with
  | ind j9 ih =>
    intro h I i9 hj9 hi0 hD h3 hI hz hq
    refine w_iload_n (List.Mem.head _) (tX1_leave_0_ok (17, .iload_n 1, 1) (List.mem_of_getElem? (i := 11) rfl)) ?_
    refine w_bipush (by decide) (tX1_leave_0_ok (18, .bipush 18, 2) (List.mem_of_getElem? (i := 12) rfl)) (fun zv1 ze2 => ?_)
    refine w_icmp_ge (tgt := 36) (tX1_leave_0_ok (20, .if_icmp .ge 16, 3) (List.mem_of_getElem? (i := 13) rfl)) rfl (fun zb3 => ?_) (fun zb3 => ?_)
    · refine w_vret rfl (tX1_leave_0_ok (36, .return_, 1) (List.mem_of_getElem? (i := 21) rfl)) ?_
      exact hq h I (fun q h1 => hD q (by omega)) h3.1 h3.2.1 h3.2.2 hI hz zf.rf
    · refine w_aload_n (List.Mem.tail _ (List.Mem.head _)) (tX1_leave_0_ok (23, .aload_n 0, 1) (List.mem_of_getElem? (i := 14) rfl)) ?_
      refine z_getR (L1 := 21) (own := 6) (k := 2) hz rfl rfl rfl rfl rfl rfl rfl (by decide) (tX1_leave_0_ok (24, .getfield 15, 3) (List.mem_of_getElem? (i := 15) rfl)) ?_
      refine w_iload_n (List.Mem.head _) (tX1_leave_0_ok (27, .iload_n 1, 1) (List.mem_of_getElem? (i := 16) rfl)) ?_
      refine w_iconst (by decide) (tX1_leave_0_ok (28, .iconst 0, 1) (List.mem_of_getElem? (i := 17) rfl)) (fun zv4 ze5 => ?_)
      refine z_iast (f := (I 21)) hT hz rfl rfl rfl (by omega) (by omega) (tX1_leave_0_ok (29, .iastore, 1) (List.mem_of_getElem? (i := 18) rfl)) (fun zh6 zI7 zq8 zz9 zf10 => ?_)
      refine w_iinc (fun zv11 => [(1, .int zv11), (0, .ref (ad 3))]) (fun _ => rfl) (List.Mem.head _) (Nat.le_of_ble_eq_true rfl) (by decide) (by omega) (by omega) (tX1_leave_0_ok (30, .iinc 1 1, 3) (List.mem_of_getElem? (i := 19) rfl)) (fun zv11 ze12 => ?_)
      refine w_goto (tgt := 17) (tX1_leave_0_ok (33, .goto (-16), 3) (List.mem_of_getElem? (i := 20) rfl)) rfl ?_
      have c1 := ((congrFun zq8 21).trans (s2_s _ _ _))
      refine w_lv [(1, .int zv11), (0, .ref (ad 3))] (by intro q hq; simp only [List.mem_cons, List.not_mem_nil, or_false] at hq ⊢; rcases hq with e | e <;> subst e <;> simp) ?_
      refine ih (j9 - 1) (by omega) zh6 zI7 _ (by omega) (by omega) (fun q h1 => ?_) ?_ (fun L9 n1 n2 => ?_) zz9 (fun g2 I2 z1 z2 z3 z4 z5 z6 z7 => hq g2 I2 z1 z2 z3 z4 z5 z6 (zf10.tr z7))
      · rw [c1]
        by_cases c9 : q = i9.toInt.toNat
        · subst c9
          rw [upd_s, show zv4 = 0 from (kn_eq _ _).mpr (by rw [ze5]; rfl)]
        · rw [upd_n _ _ c9]
          exact hD q (by omega)
      · rw [zq8, s2_n (by decide)]
        exact h3
      · rw [zq8, s2_n n1]
        exact hI L9 n1 n2
theorem z_leave (hT : k_tys tys cA) (hz : zr zNC cA ad I W O h) (hq : (∀ (g : ch_H) (I1 : zI), (∀ q, q < 18 → I1 21 q = 0) → I1 3 0 = 0 → I1 3 3 = 0 → I1 3 5 = 0 → (∀ L, L ≠ 21 → L ≠ 3 → I1 L = I L) → zr zNC cA ad I1 W O g → zf zNC ad h g → Q none g)) : ww l D tys A X fr lo mX1_leave Q 0 [(0, .ref (ad 3))] [] h := by
  refine w_aload_n (List.Mem.head _) (tX1_leave_0_ok (0, .aload_n 0, 1) (List.mem_of_getElem? (i := 0) rfl)) ?_
  refine w_iconst (by decide) (tX1_leave_0_ok (1, .iconst 0, 1) (List.mem_of_getElem? (i := 1) rfl)) (fun zv1 ze2 => ?_)
  refine z_put (f := (I 3)) (own := 6) (k := 0) hz rfl rfl rfl rfl rfl rfl rfl (by decide) rfl ⟨rfl, rfl⟩ (tX1_leave_0_ok (2, .putfield 27, 3) (List.mem_of_getElem? (i := 2) rfl)) (fun zh3 zI4 zq5 zz6 zf7 => ?_)
  refine w_aload_n (List.Mem.head _) (tX1_leave_0_ok (5, .aload_n 0, 1) (List.mem_of_getElem? (i := 3) rfl)) ?_
  refine w_iconst (by decide) (tX1_leave_0_ok (6, .iconst 0, 1) (List.mem_of_getElem? (i := 4) rfl)) (fun zv8 ze9 => ?_)
  refine z_put (f := (upd (I 3) 0 zv1)) (own := 6) (k := 3) zz6 rfl rfl rfl rfl ((congrFun zq5 3).trans (s2_s _ _ _)) rfl rfl (by decide) rfl ⟨rfl, rfl⟩ (tX1_leave_0_ok (7, .putfield 31, 3) (List.mem_of_getElem? (i := 5) rfl)) (fun zh10 zI11 zq12 zz13 zf14 => ?_)
  refine w_aload_n (List.Mem.head _) (tX1_leave_0_ok (10, .aload_n 0, 1) (List.mem_of_getElem? (i := 6) rfl)) ?_
  refine w_iconst (by decide) (tX1_leave_0_ok (11, .iconst 0, 1) (List.mem_of_getElem? (i := 7) rfl)) (fun zv15 ze16 => ?_)
  refine z_put (f := (upd (upd (I 3) 0 zv1) 3 zv8)) (own := 6) (k := 5) zz13 rfl rfl rfl rfl ((congrFun zq12 3).trans (s2_s _ _ _)) rfl rfl (by decide) rfl ⟨rfl, rfl⟩ (tX1_leave_0_ok (12, .putfield 34, 3) (List.mem_of_getElem? (i := 8) rfl)) (fun zh17 zI18 zq19 zz20 zf21 => ?_)
  refine w_iconst (by decide) (tX1_leave_0_ok (15, .iconst 0, 1) (List.mem_of_getElem? (i := 9) rfl)) (fun zv22 ze23 => ?_)
  refine w_istore_n [(1, .int zv22), (0, .ref (ad 3))] rfl (Nat.le_of_ble_eq_true rfl) (tX1_leave_0_ok (16, .istore_n 1, 1) (List.mem_of_getElem? (i := 10) rfl)) ?_
  have c3 := ((congrFun zq19 3).trans (s2_s _ _ _))
  refine w_lv [(1, .int zv22), (0, .ref (ad 3))] (by intro q hq; simp only [List.mem_cons, List.not_mem_nil, or_false] at hq ⊢; rcases hq with e | e <;> subst e <;> simp) ?_
  refine z_leL hT (I0 := I) 18 zh17 zI18 _ (by omega) (by omega) (fun q h1 => absurd h1 (by omega)) ?_ (fun L9 n1 n2 => ?_) zz20 (fun g2 I2 z1 z2 z3 z4 z5 z6 z7 => hq g2 I2 z1 z2 z3 z4 z5 z6 (((zf7.tr zf14).tr zf21).tr z7))
  · rw [c3, upd_s, upd_n _ _ (by decide), upd_n _ _ (by decide), upd_s, upd_n _ _ (by decide), upd_s]
    exact ⟨(kn_eq _ _).mpr (by rw [ze2]; rfl), (kn_eq _ _).mpr (by rw [ze9]; rfl), (kn_eq _ _).mpr (by rw [ze16]; rfl)⟩
  · rw [zq19, s2_n n2, zq12, s2_n n2, zq5, s2_n n2]
end
