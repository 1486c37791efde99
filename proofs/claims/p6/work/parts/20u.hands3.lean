/-! leastCost by hand -/
section
variable {l : Launch} {D : va_G} {tys : List (ClassId × FieldType)} {A : Nat → Prop} {X : State → Prop} {fr lo : Nat} {M : ch_M} {Q : Option Value → ch_H → Prop} {pc : Nat} {lv : List (Nat × Value)} {st : List Value} {h : ch_H} {cA : Nat → ClassId} {Sg : Nat → Option Nat}
theorem w_iaddA {x y : Int32} (hd : decode M.2.1 pc = .ok (.iadd, 1)) (k : ∀ v : Int32, ww l D tys A X fr lo M Q (pc + 1) lv (.int v :: st) h) : ww l D tys A X fr lo M Q pc lv (.int y :: .int x :: st) h := tt_iadd hd (k _)
theorem w_isubA {x y : Int32} (hd : decode M.2.1 pc = .ok (.isub, 1)) (k : ∀ v : Int32, ww l D tys A X fr lo M Q (pc + 1) lv (.int v :: st) h) : ww l D tys A X fr lo M Q pc lv (.int y :: .int x :: st) h := tt_isub hd (k _)
theorem w_ldcA {ix : Nat} {v : Int32} (hw : Cond.constant M.1.cls ix v ∈ wsA) (hd : decode M.2.1 pc = .ok (.ldc ix, 2)) (k : ∀ v : Int32, ww l D tys A X fr lo M Q (pc + 2) lv (.int v :: st) h) : ww l D tys A X fr lo M Q pc lv st h := tt_ldc hw hd (k _)
theorem idiv2 : ∀ x, x < 21 → (Int32.ofNat x / 2).toInt = ((x / 2 : Nat) : Int) := by decide +kernel
theorem w_idiv2 {x y : Int32} (hy : y.toInt = 2) (hx : 0 ≤ x.toInt ∧ x.toInt ≤ 20) (hd : decode M.2.1 pc = .ok (.idiv, 1)) (k : ∀ v : Int32, v.toInt = x.toInt / 2 → ww l D tys A X fr lo M Q (pc + 1) lv (.int v :: st) h) : ww l D tys A X fr lo M Q pc lv (.int y :: .int x :: st) h := by
  have hy2 : y = 2 := (kn_eq _ _).mpr (by rw [hy]; rfl)
  subst hy2
  refine tt_idiv (by decide) hd (k _ ?_)
  have h1 := idiv2 x.toInt.toNat (by omega)
  rw [← kn_nat (x := x) (n := x.toInt.toNat) (by omega)] at h1
  rw [h1]
  omega
theorem w_aald {a n b : Nat} {f : Nat → Option Nat} {i : Int32} (hT : k_tys tys cA) (ha : h a = some (.inl (cA 5, n, .inr (.inr (.inr (.inr f)))))) (h0 : 0 ≤ i.toInt) (h1 : i.toInt < n) (hb : va_rf (f i.toInt.toNat) = .ref b) (hd : decode M.2.1 pc = .ok (.aaload, 1)) (kk : ww l D tys A X fr lo M Q (pc + 1) lv (.ref b :: st) h) : ww l D tys A X fr lo M Q pc lv (.int i :: .ref a :: st) h := by
  have e : i.toNatClampNeg = i.toInt.toNat := by have := kn_cl h0; omega
  refine tt_aald ha rfl (hT 5 (by omega)) (kn_in h0 h1) hd ?_
  rw [e, hb]
  exact kk
theorem odd_r : ∀ p, p < 6 → (Int32.ofNat (2 * p + 1) &&& 1).toInt = 1 ∧ (Int32.ofNat (2 * p + 1) >>> ((1 : Int32) &&& 31)).toInt = (p : Int) := by decide +kernel
theorem odd_and {r z v : Int32} {p : Int} (hp : 0 ≤ p ∧ p ≤ 5) (hr : r.toInt = 2 * p + 1) (hz : z.toInt = 1) (e : v = r &&& z) : v.toInt = 1 := by
  have hz2 : z = 1 := (kn_eq _ _).mpr (by rw [hz]; rfl)
  have h1 := (odd_r p.toNat (by omega)).1
  rw [← kn_nat (x := r) (n := 2 * p.toNat + 1) (by omega)] at h1
  rw [e, hz2]
  exact h1
theorem odd_shr {r z v : Int32} {p : Int} (hp : 0 ≤ p ∧ p ≤ 5) (hr : r.toInt = 2 * p + 1) (hz : z.toInt = 1) (e : v = r >>> (z &&& 31)) : v.toInt = p := by
  have hz2 : z = 1 := (kn_eq _ _).mpr (by rw [hz]; rfl)
  have h1 := (odd_r p.toNat (by omega)).2
  rw [← kn_nat (x := r) (n := 2 * p.toNat + 1) (by omega)] at h1
  rw [e, hz2, h1]
  omega
theorem h_place (hT : k_tys tys cA) {P a1 a2 a8 : Nat} {ps : List Value} {ro : Int32} {gk gn gh : Nat → Int32} (c_P : h P = some (.inr (4, ps))) (fP0 : ps[0]? = some (.int ro)) (fP1 : ps[1]? = some (.ref a1)) (fP2 : ps[2]? = some (.ref a2)) (fP8 : ps[8]? = some (.ref a8)) (c_a1 : h a1 = some (.inl (cA 0, 6, .inl gk))) (c_a2 : h a2 = some (.inl (cA 0, 6, .inl gn))) (c_a8 : h a8 = some (.inl (cA 0, 6, .inl gh))) (hro : 0 ≤ ro.toInt ∧ ro.toInt ≤ 6) (hgn : ∀ i, i < 6 → 0 ≤ (gn i).toInt ∧ (gn i).toInt ≤ 20) {rom xx : Int32} {p : Int} (hp : 0 ≤ p ∧ p ≤ 5) (hr : rom.toInt = 2 * p + 1) (hx : 0 ≤ xx.toInt ∧ xx.toInt ≤ (gn p.toNat).toInt) (hq : ∀ v : Int32, 0 ≤ v.toInt ∧ v.toInt ≤ 20 → Q (some (.int v)) h) : ww l D tys A X fr lo mX4_place Q 0 [(0, .ref P), (1, .int rom), (2, .int xx)] [] h := by
  have hgp := hgn p.toNat (by omega)
  refine w_iload_n (List.Mem.tail _ (List.Mem.head _)) (tX4_place_0_ok (0, .iload_n 1, 1) (List.mem_of_getElem? (i := 0) rfl)) ?_
  refine w_iconst (by decide) (tX4_place_0_ok (1, .iconst 1, 1) (List.mem_of_getElem? (i := 1) rfl)) (fun v1 e2 => ?_)
  refine w_iand (tX4_place_0_ok (2, .iand, 1) (List.mem_of_getElem? (i := 2) rfl)) (fun v3 e4 => ?_)
  have v3d := odd_and hp hr (by omega) e4
  refine w_if_ne (tgt := 8) (tX4_place_0_ok (3, .ifCond .ne 5, 3) (List.mem_of_getElem? (i := 3) rfl)) rfl (fun b5 => ?_) (fun b5 => ?_)
  · refine w_iload_n (List.Mem.tail _ (List.Mem.head _)) (tX4_place_0_ok (8, .iload_n 1, 1) (List.mem_of_getElem? (i := 6) rfl)) ?_
    refine w_iconst (by decide) (tX4_place_0_ok (9, .iconst 1, 1) (List.mem_of_getElem? (i := 7) rfl)) (fun v6 e7 => ?_)
    refine w_ishr (tX4_place_0_ok (10, .ishr, 1) (List.mem_of_getElem? (i := 8) rfl)) (fun v8 e9 => ?_)
    have v8d := odd_shr hp hr (by omega) e9
    refine w_istore_n [(3, .int v8), (0, .ref P), (1, .int rom), (2, .int xx)] rfl (Nat.le_of_ble_eq_true rfl) (tX4_place_0_ok (11, .istore_n 3, 1) (List.mem_of_getElem? (i := 9) rfl)) ?_
    refine w_aload_n (List.Mem.tail _ (List.Mem.head _)) (tX4_place_0_ok (12, .aload_n 0, 1) (List.mem_of_getElem? (i := 10) rfl)) ?_
    refine w_get (own := 9) rfl rfl (by decide) c_P fP1 (tX4_place_0_ok (13, .getfield 9, 3) (List.mem_of_getElem? (i := 11) rfl)) ?_
    refine w_iload_n (List.Mem.head _) (tX4_place_0_ok (16, .iload_n 3, 1) (List.mem_of_getElem? (i := 12) rfl)) ?_
    refine w_iald hT c_a1 (by omega) (by omega) (tX4_place_0_ok (17, .iaload, 1) (List.mem_of_getElem? (i := 13) rfl)) (fun v10 e11 => ?_)
    have i12 : v8.toInt.toNat = p.toNat := by omega
    rw [i12] at e11
    refine w_iconst (by decide) (tX4_place_0_ok (18, .iconst 1, 1) (List.mem_of_getElem? (i := 14) rfl)) (fun v13 e14 => ?_)
    refine w_icmp_ne (tgt := 35) (tX4_place_0_ok (19, .if_icmp .ne 16, 3) (List.mem_of_getElem? (i := 15) rfl)) rfl (fun b15 => ?_) (fun b15 => ?_)
    · refine w_aload_n (List.Mem.tail _ (List.Mem.head _)) (tX4_place_0_ok (35, .aload_n 0, 1) (List.mem_of_getElem? (i := 25) rfl)) ?_
      refine w_get (own := 9) rfl rfl (by decide) c_P fP2 (tX4_place_0_ok (36, .getfield 15, 3) (List.mem_of_getElem? (i := 26) rfl)) ?_
      refine w_iload_n (List.Mem.head _) (tX4_place_0_ok (39, .iload_n 3, 1) (List.mem_of_getElem? (i := 27) rfl)) ?_
      refine w_iald hT c_a2 (by omega) (by omega) (tX4_place_0_ok (40, .iaload, 1) (List.mem_of_getElem? (i := 28) rfl)) (fun v16 e17 => ?_)
      have i18 : v8.toInt.toNat = p.toNat := by omega
      rw [i18] at e17
      refine w_iload_n (List.Mem.tail _ (List.Mem.tail _ (List.Mem.tail _ (List.Mem.head _)))) (tX4_place_0_ok (41, .iload_n 2, 1) (List.mem_of_getElem? (i := 29) rfl)) ?_
      refine w_isub (by omega) (by omega) (tX4_place_0_ok (42, .isub, 1) (List.mem_of_getElem? (i := 30) rfl)) (fun v19 e20 => ?_)
      refine w_iret rfl (tX4_place_0_ok (43, .ireturn, 1) (List.mem_of_getElem? (i := 31) rfl)) ?_
      exact hq v19 (by omega)
    · refine w_aload_n (List.Mem.tail _ (List.Mem.head _)) (tX4_place_0_ok (22, .aload_n 0, 1) (List.mem_of_getElem? (i := 16) rfl)) ?_
      refine w_get (own := 9) rfl rfl (by decide) c_P fP2 (tX4_place_0_ok (23, .getfield 15, 3) (List.mem_of_getElem? (i := 17) rfl)) ?_
      refine w_iload_n (List.Mem.head _) (tX4_place_0_ok (26, .iload_n 3, 1) (List.mem_of_getElem? (i := 18) rfl)) ?_
      refine w_iald hT c_a2 (by omega) (by omega) (tX4_place_0_ok (27, .iaload, 1) (List.mem_of_getElem? (i := 19) rfl)) (fun v21 e22 => ?_)
      have i23 : v8.toInt.toNat = p.toNat := by omega
      rw [i23] at e22
      refine w_iload_n (List.Mem.tail _ (List.Mem.tail _ (List.Mem.tail _ (List.Mem.head _)))) (tX4_place_0_ok (28, .iload_n 2, 1) (List.mem_of_getElem? (i := 20) rfl)) ?_
      refine w_isub (by omega) (by omega) (tX4_place_0_ok (29, .isub, 1) (List.mem_of_getElem? (i := 21) rfl)) (fun v24 e25 => ?_)
      refine w_iconst (by decide) (tX4_place_0_ok (30, .iconst 2, 1) (List.mem_of_getElem? (i := 22) rfl)) (fun v26 e27 => ?_)
      refine w_idiv2 (by omega) (by omega) (tX4_place_0_ok (31, .idiv, 1) (List.mem_of_getElem? (i := 23) rfl)) (fun v28 e29 => ?_)
      refine w_goto (tgt := 43) (tX4_place_0_ok (32, .goto 11, 3) (List.mem_of_getElem? (i := 24) rfl)) rfl ?_
      refine w_iret rfl (tX4_place_0_ok (43, .ireturn, 1) (List.mem_of_getElem? (i := 31) rfl)) ?_
      exact hq v28 (by omega)
  · exfalso; omega
theorem h_stride (hT : k_tys tys cA) {P a1 a2 a8 : Nat} {ps : List Value} {ro : Int32} {gk gn gh : Nat → Int32} (c_P : h P = some (.inr (4, ps))) (fP0 : ps[0]? = some (.int ro)) (fP1 : ps[1]? = some (.ref a1)) (fP2 : ps[2]? = some (.ref a2)) (fP8 : ps[8]? = some (.ref a8)) (c_a1 : h a1 = some (.inl (cA 0, 6, .inl gk))) (c_a2 : h a2 = some (.inl (cA 0, 6, .inl gn))) (c_a8 : h a8 = some (.inl (cA 0, 6, .inl gh))) (hro : 0 ≤ ro.toInt ∧ ro.toInt ≤ 6) (hgn : ∀ i, i < 6 → 0 ≤ (gn i).toInt ∧ (gn i).toInt ≤ 20) {pp : Int32} (hp : 0 ≤ pp.toInt ∧ pp.toInt ≤ 5) (hq : ∀ v : Int32, 1 ≤ v.toInt ∧ v.toInt ≤ 2 → Q (some (.int v)) h) : ww l D tys A X fr lo mX4_stride Q 0 [(0, .ref P), (1, .int pp)] [] h := by
  refine w_aload_n (List.Mem.head _) (tX4_stride_0_ok (0, .aload_n 0, 1) (List.mem_of_getElem? (i := 0) rfl)) ?_
  refine w_get (own := 9) rfl rfl (by decide) c_P fP1 (tX4_stride_0_ok (1, .getfield 9, 3) (List.mem_of_getElem? (i := 1) rfl)) ?_
  refine w_iload_n (List.Mem.tail _ (List.Mem.head _)) (tX4_stride_0_ok (4, .iload_n 1, 1) (List.mem_of_getElem? (i := 2) rfl)) ?_
  refine w_iald hT c_a1 (by omega) (by omega) (tX4_stride_0_ok (5, .iaload, 1) (List.mem_of_getElem? (i := 3) rfl)) (fun v1 e2 => ?_)
  refine w_iconst (by decide) (tX4_stride_0_ok (6, .iconst 1, 1) (List.mem_of_getElem? (i := 4) rfl)) (fun v3 e4 => ?_)
  refine w_icmp_ne (tgt := 14) (tX4_stride_0_ok (7, .if_icmp .ne 7, 3) (List.mem_of_getElem? (i := 5) rfl)) rfl (fun b5 => ?_) (fun b5 => ?_)
  · refine w_iconst (by decide) (tX4_stride_0_ok (14, .iconst 1, 1) (List.mem_of_getElem? (i := 8) rfl)) (fun v6 e7 => ?_)
    refine w_iret rfl (tX4_stride_0_ok (15, .ireturn, 1) (List.mem_of_getElem? (i := 9) rfl)) ?_
    exact hq v6 (by omega)
  · refine w_iconst (by decide) (tX4_stride_0_ok (10, .iconst 2, 1) (List.mem_of_getElem? (i := 6) rfl)) (fun v8 e9 => ?_)
    refine w_goto (tgt := 15) (tX4_stride_0_ok (11, .goto 4, 3) (List.mem_of_getElem? (i := 7) rfl)) rfl ?_
    refine w_iret rfl (tX4_stride_0_ok (15, .ireturn, 1) (List.mem_of_getElem? (i := 9) rfl)) ?_
    exact hq v8 (by omega)
theorem h_costOf (hT : k_tys tys cA) {wa : Nat} {gw : Nat → Int32} (c_w : h wa = some (.inl (cA 0, 12, .inl gw))) {rom hh : Int32} (hr : 0 ≤ rom.toInt ∧ rom.toInt ≤ 11) (hq : ∀ v : Int32, Q (some (.int v)) h) : ww l D tys A X fr lo mX0_costOf Q 0 [(0, .ref wa), (1, .int rom), (2, .int hh)] [] h := by
  refine w_aload_n (List.Mem.head _) (tX0_costOf_0_ok (0, .aload_n 0, 1) (List.mem_of_getElem? (i := 0) rfl)) ?_
  refine w_iload_n (List.Mem.tail _ (List.Mem.head _)) (tX0_costOf_0_ok (1, .iload_n 1, 1) (List.mem_of_getElem? (i := 1) rfl)) ?_
  refine w_iald hT c_w (by omega) (by omega) (tX0_costOf_0_ok (2, .iaload, 1) (List.mem_of_getElem? (i := 2) rfl)) (fun v1 e2 => ?_)
  refine w_iconst (by decide) (tX0_costOf_0_ok (3, .iconst (-1), 1) (List.mem_of_getElem? (i := 3) rfl)) (fun v3 e4 => ?_)
  refine w_icmp_eq (tgt := 14) (tX0_costOf_0_ok (4, .if_icmp .eq 10, 3) (List.mem_of_getElem? (i := 4) rfl)) rfl (fun b5 => ?_) (fun b5 => ?_)
  · refine w_iconst (by decide) (tX0_costOf_0_ok (14, .iconst 0, 1) (List.mem_of_getElem? (i := 10) rfl)) (fun v6 e7 => ?_)
    refine w_iret rfl (tX0_costOf_0_ok (15, .ireturn, 1) (List.mem_of_getElem? (i := 11) rfl)) ?_
    exact hq v6
  · refine w_aload_n (List.Mem.head _) (tX0_costOf_0_ok (7, .aload_n 0, 1) (List.mem_of_getElem? (i := 5) rfl)) ?_
    refine w_iload_n (List.Mem.tail _ (List.Mem.head _)) (tX0_costOf_0_ok (8, .iload_n 1, 1) (List.mem_of_getElem? (i := 6) rfl)) ?_
    refine w_iald hT c_w (by omega) (by omega) (tX0_costOf_0_ok (9, .iaload, 1) (List.mem_of_getElem? (i := 7) rfl)) (fun v8 e9 => ?_)
    refine w_iload_n (List.Mem.tail _ (List.Mem.tail _ (List.Mem.head _))) (tX0_costOf_0_ok (10, .iload_n 2, 1) (List.mem_of_getElem? (i := 8) rfl)) ?_
    refine w_icmp_ne (tgt := 16) (tX0_costOf_0_ok (11, .if_icmp .ne 5, 3) (List.mem_of_getElem? (i := 9) rfl)) rfl (fun b10 => ?_) (fun b10 => ?_)
    · refine w_sipush (by decide) (tX0_costOf_0_ok (16, .sipush 8192, 3) (List.mem_of_getElem? (i := 12) rfl)) (fun v11 e12 => ?_)
      refine w_iconst (by decide) (tX0_costOf_0_ok (19, .iconst 1, 1) (List.mem_of_getElem? (i := 13) rfl)) (fun v13 e14 => ?_)
      refine w_bipush (by decide) (tX0_costOf_0_ok (20, .bipush 11, 2) (List.mem_of_getElem? (i := 14) rfl)) (fun v15 e16 => ?_)
      refine w_iload_n (List.Mem.tail _ (List.Mem.head _)) (tX0_costOf_0_ok (22, .iload_n 1, 1) (List.mem_of_getElem? (i := 15) rfl)) ?_
      refine w_isub (by omega) (by omega) (tX0_costOf_0_ok (23, .isub, 1) (List.mem_of_getElem? (i := 16) rfl)) (fun v17 e18 => ?_)
      refine w_ishl (tX0_costOf_0_ok (24, .ishl, 1) (List.mem_of_getElem? (i := 17) rfl)) (fun v19 e20 => ?_)
      refine w_isubA (tX0_costOf_0_ok (25, .isub, 1) (List.mem_of_getElem? (i := 18) rfl)) (fun v21 => ?_)
      refine w_iret rfl (tX0_costOf_0_ok (26, .ireturn, 1) (List.mem_of_getElem? (i := 19) rfl)) ?_
      exact hq v21
    · refine w_iconst (by decide) (tX0_costOf_0_ok (14, .iconst 0, 1) (List.mem_of_getElem? (i := 10) rfl)) (fun v22 e23 => ?_)
      refine w_iret rfl (tX0_costOf_0_ok (15, .ireturn, 1) (List.mem_of_getElem? (i := 11) rfl)) ?_
      exact hq v22
theorem w_minA {x y : Int32} (hM : M.1.cls = RX0) (hf : 1 ≤ fr) (hl : 30 ≤ lo) (hd : decode M.2.1 pc = .ok (.invokestatic 40, 3)) (k : ∀ v : Int32, ww l D tys A X fr lo M Q (pc + 3) lv [.int v] h) : ww l D tys A X fr lo M Q pc lv [.int y, .int x] h := by
  have hw : Cond.methodLink M.1.cls 40 Lib.Math.min.name ∈ wsA := by rw [hM]; exact cllw_X0 (40, 11, 0) (List.mem_of_getElem? (i := 1) rfl)
  exact tt_mmin hw pg_min.1 pg_math pg_min.2 hf (by show 13 ≤ lo; omega) (Nat.le_refl _) (Nat.le_refl _) hd (k _)
theorem h_lcI (hT : k_tys tys cA) {P a1 a2 a8 : Nat} {ps : List Value} {ro : Int32} {gk gn gh : Nat → Int32} (c_P : h P = some (.inr (4, ps))) (fP0 : ps[0]? = some (.int ro)) (fP1 : ps[1]? = some (.ref a1)) (fP2 : ps[2]? = some (.ref a2)) (fP8 : ps[8]? = some (.ref a8)) (c_a1 : h a1 = some (.inl (cA 0, 6, .inl gk))) (c_a2 : h a2 = some (.inl (cA 0, 6, .inl gn))) (c_a8 : h a8 = some (.inl (cA 0, 6, .inl gh))) (hro : 0 ≤ ro.toInt ∧ ro.toInt ≤ 6) (hgn : ∀ i, i < 6 → 0 ≤ (gn i).toInt ∧ (gn i).toInt ≤ 20) {x wa tb : Nat} {xs : List Value} {gw : Nat → Int32} {ftb : Nat → Option Nat} (c_x : h x = some (.inr (0, xs))) (fX0 : xs[0]? = some (.ref tb)) (c_w : h wa = some (.inl (cA 0, 12, .inl gw))) (c_tb : h tb = some (.inl (cA 5, 6, .inr (.inr (.inr (.inr ftb)))))) (htab : ∀ i, i < 6 → ∃ b : Nat, va_rf (ftb i) = .ref b ∧ ∃ gb : Nat → Int32, h b = some (.inl (cA 0, 121, .inl gb))) {pp ft fi sc xx lst : Int32} (hp : 0 ≤ pp.toInt ∧ pp.toInt ≤ 5) (hfi : 0 ≤ fi.toInt) (hsc : 0 ≤ sc.toInt) : ∀ (j : Nat) (q co : Int32), 0 ≤ q.toInt → q.toInt + j = 7 → (∀ q1 co1 : Int32, ww l D tys A X fr lo mX0_leastCost Q 166 [(10, .int q1), (9, .int co1), (8, .int sc), (7, .int fi), (6, .int xx), (5, .int lst), (0, .ref x), (1, .ref P), (2, .ref wa), (3, .int pp), (4, .int ft)] [] h) → ww l D tys A X fr lo mX0_leastCost Q 69 [(10, .int q), (9, .int co), (8, .int sc), (7, .int fi), (6, .int xx), (5, .int lst), (0, .ref x), (1, .ref P), (2, .ref wa), (3, .int pp), (4, .int ft)] [] h := by
  intro j
  induction j using Nat.strongRecOn with
  | ind j ih =>
    intro q co hq0 hj hq
    refine w_iload (List.Mem.head _) (tX0_leastCost_0_ok (69, .iload 10, 2) (List.mem_of_getElem? (i := 45) rfl)) ?_
    refine w_aload_n (List.Mem.tail _ (List.Mem.tail _ (List.Mem.tail _ (List.Mem.tail _ (List.Mem.tail _ (List.Mem.tail _ (List.Mem.tail _ (List.Mem.head _)))))))) (tX0_leastCost_0_ok (71, .aload_n 1, 1) (List.mem_of_getElem? (i := 46) rfl)) ?_
    refine w_get (own := 5) rfl rfl (by decide) c_P fP0 (tX0_leastCost_0_ok (72, .getfield 24, 3) (List.mem_of_getElem? (i := 47) rfl)) ?_
    refine w_icmp_ge (tgt := 166) (tX0_leastCost_0_ok (75, .if_icmp .ge 91, 3) (List.mem_of_getElem? (i := 48) rfl)) rfl (fun b1 => ?_) (fun b1 => ?_)
    · exact hq q co
    · refine w_iload (List.Mem.tail _ (List.Mem.head _)) (tX0_leastCost_0_ok (78, .iload 9, 2) (List.mem_of_getElem? (i := 49) rfl)) ?_
      refine w_iload (List.Mem.tail _ (List.Mem.tail _ (List.Mem.tail _ (List.Mem.tail _ (List.Mem.tail _ (List.Mem.head _)))))) (tX0_leastCost_0_ok (80, .iload 5, 2) (List.mem_of_getElem? (i := 50) rfl)) ?_
      refine w_icmp_ge (tgt := 166) (tX0_leastCost_0_ok (82, .if_icmp .ge 84, 3) (List.mem_of_getElem? (i := 51) rfl)) rfl (fun b2 => ?_) (fun b2 => ?_)
      · exact hq q co
      · refine w_aload_n (List.Mem.tail _ (List.Mem.tail _ (List.Mem.tail _ (List.Mem.tail _ (List.Mem.tail _ (List.Mem.tail _ (List.Mem.tail _ (List.Mem.head _)))))))) (tX0_leastCost_0_ok (85, .aload_n 1, 1) (List.mem_of_getElem? (i := 52) rfl)) ?_
        refine w_get (own := 5) rfl rfl (by decide) c_P fP8 (tX0_leastCost_0_ok (86, .getfield 34, 3) (List.mem_of_getElem? (i := 53) rfl)) ?_
        refine w_iload (List.Mem.head _) (tX0_leastCost_0_ok (89, .iload 10, 2) (List.mem_of_getElem? (i := 54) rfl)) ?_
        refine w_iald hT c_a8 (by omega) (by omega) (tX0_leastCost_0_ok (91, .iaload, 1) (List.mem_of_getElem? (i := 55) rfl)) (fun v3 e4 => ?_)
        refine w_iconst (by decide) (tX0_leastCost_0_ok (92, .iconst 2, 1) (List.mem_of_getElem? (i := 56) rfl)) (fun v5 e6 => ?_)
        refine w_iload_n (List.Mem.tail _ (List.Mem.tail _ (List.Mem.tail _ (List.Mem.tail _ (List.Mem.tail _ (List.Mem.tail _ (List.Mem.tail _ (List.Mem.tail _ (List.Mem.tail _ (List.Mem.head _)))))))))) (tX0_leastCost_0_ok (93, .iload_n 3, 1) (List.mem_of_getElem? (i := 57) rfl)) ?_
        refine w_imul (by assumption) (by omega) (by omega) (tX0_leastCost_0_ok (94, .imul, 1) (List.mem_of_getElem? (i := 58) rfl)) (fun v7 e8 => ?_)
        refine w_icmp_ne (tgt := 123) (tX0_leastCost_0_ok (95, .if_icmp .ne 28, 3) (List.mem_of_getElem? (i := 59) rfl)) rfl (fun b9 => ?_) (fun b9 => ?_)
        · refine w_aload_n (List.Mem.tail _ (List.Mem.tail _ (List.Mem.tail _ (List.Mem.tail _ (List.Mem.tail _ (List.Mem.tail _ (List.Mem.tail _ (List.Mem.head _)))))))) (tX0_leastCost_1_ok (123, .aload_n 1, 1) (List.mem_of_getElem? (i := 13) rfl)) ?_
          refine w_get (own := 5) rfl rfl (by decide) c_P fP8 (tX0_leastCost_1_ok (124, .getfield 34, 3) (List.mem_of_getElem? (i := 14) rfl)) ?_
          refine w_iload (List.Mem.head _) (tX0_leastCost_1_ok (127, .iload 10, 2) (List.mem_of_getElem? (i := 15) rfl)) ?_
          refine w_iald hT c_a8 (by omega) (by omega) (tX0_leastCost_1_ok (129, .iaload, 1) (List.mem_of_getElem? (i := 16) rfl)) (fun v10 e11 => ?_)
          refine w_iconst (by decide) (tX0_leastCost_1_ok (130, .iconst 2, 1) (List.mem_of_getElem? (i := 17) rfl)) (fun v12 e13 => ?_)
          refine w_iload_n (List.Mem.tail _ (List.Mem.tail _ (List.Mem.tail _ (List.Mem.tail _ (List.Mem.tail _ (List.Mem.tail _ (List.Mem.tail _ (List.Mem.tail _ (List.Mem.tail _ (List.Mem.head _)))))))))) (tX0_leastCost_1_ok (131, .iload_n 3, 1) (List.mem_of_getElem? (i := 18) rfl)) ?_
          refine w_imul (by assumption) (by omega) (by omega) (tX0_leastCost_1_ok (132, .imul, 1) (List.mem_of_getElem? (i := 19) rfl)) (fun v14 e15 => ?_)
          refine w_iconst (by decide) (tX0_leastCost_1_ok (133, .iconst 1, 1) (List.mem_of_getElem? (i := 20) rfl)) (fun v16 e17 => ?_)
          refine w_iadd (by omega) (by omega) (tX0_leastCost_1_ok (134, .iadd, 1) (List.mem_of_getElem? (i := 21) rfl)) (fun v18 e19 => ?_)
          refine w_icmp_ne (tgt := 160) (tX0_leastCost_1_ok (135, .if_icmp .ne 25, 3) (List.mem_of_getElem? (i := 22) rfl)) rfl (fun b20 => ?_) (fun b20 => ?_)
          · refine w_iinc (fun v21 => [(10, .int v21), (9, .int co), (8, .int sc), (7, .int fi), (6, .int xx), (5, .int lst), (0, .ref x), (1, .ref P), (2, .ref wa), (3, .int pp), (4, .int ft)]) (fun _ => rfl) (List.Mem.head _) (Nat.le_of_ble_eq_true rfl) (by decide) (by omega) (by omega) (tX0_leastCost_1_ok (160, .iinc 10 1, 3) (List.mem_of_getElem? (i := 35) rfl)) (fun v21 e22 => ?_)
            refine w_goto (tgt := 69) (tX0_leastCost_1_ok (163, .goto (-94), 3) (List.mem_of_getElem? (i := 36) rfl)) rfl ?_
            refine w_lv [(10, .int v21), (9, .int co), (8, .int sc), (7, .int fi), (6, .int xx), (5, .int lst), (0, .ref x), (1, .ref P), (2, .ref wa), (3, .int pp), (4, .int ft)] (by intro q hq; simp only [List.mem_cons, List.not_mem_nil, or_false] at hq ⊢; rcases hq with e | e | e | e | e | e | e | e | e | e | e <;> subst e <;> simp) ?_
            exact ih (j - 1) (by omega) _ _ (by omega) (by omega) hq
          · refine w_iload (List.Mem.tail _ (List.Mem.tail _ (List.Mem.head _))) (tX0_leastCost_1_ok (138, .iload 8, 2) (List.mem_of_getElem? (i := 23) rfl)) ?_
            refine w_bipush (by decide) (tX0_leastCost_1_ok (140, .bipush 120, 2) (List.mem_of_getElem? (i := 24) rfl)) (fun v23 e24 => ?_)
            refine w_icmp_gt (tgt := 160) (tX0_leastCost_1_ok (142, .if_icmp .gt 18, 3) (List.mem_of_getElem? (i := 25) rfl)) rfl (fun b25 => ?_) (fun b25 => ?_)
            · refine w_iinc (fun v26 => [(10, .int v26), (9, .int co), (8, .int sc), (7, .int fi), (6, .int xx), (5, .int lst), (0, .ref x), (1, .ref P), (2, .ref wa), (3, .int pp), (4, .int ft)]) (fun _ => rfl) (List.Mem.head _) (Nat.le_of_ble_eq_true rfl) (by decide) (by omega) (by omega) (tX0_leastCost_1_ok (160, .iinc 10 1, 3) (List.mem_of_getElem? (i := 35) rfl)) (fun v26 e27 => ?_)
              refine w_goto (tgt := 69) (tX0_leastCost_1_ok (163, .goto (-94), 3) (List.mem_of_getElem? (i := 36) rfl)) rfl ?_
              refine w_lv [(10, .int v26), (9, .int co), (8, .int sc), (7, .int fi), (6, .int xx), (5, .int lst), (0, .ref x), (1, .ref P), (2, .ref wa), (3, .int pp), (4, .int ft)] (by intro q hq; simp only [List.mem_cons, List.not_mem_nil, or_false] at hq ⊢; rcases hq with e | e | e | e | e | e | e | e | e | e | e <;> subst e <;> simp) ?_
              exact ih (j - 1) (by omega) _ _ (by omega) (by omega) hq
            · refine w_iload (List.Mem.tail _ (List.Mem.head _)) (tX0_leastCost_1_ok (145, .iload 9, 2) (List.mem_of_getElem? (i := 26) rfl)) ?_
              refine w_aload_n (List.Mem.tail _ (List.Mem.tail _ (List.Mem.tail _ (List.Mem.tail _ (List.Mem.tail _ (List.Mem.tail _ (List.Mem.head _))))))) (tX0_leastCost_1_ok (147, .aload_n 0, 1) (List.mem_of_getElem? (i := 27) rfl)) ?_
              refine w_get (own := 5) rfl rfl (by decide) c_x fX0 (tX0_leastCost_1_ok (148, .getfield 13, 3) (List.mem_of_getElem? (i := 28) rfl)) ?_
              refine w_iload (List.Mem.head _) (tX0_leastCost_1_ok (151, .iload 10, 2) (List.mem_of_getElem? (i := 29) rfl)) ?_
              obtain ⟨tbr28, e29, gb31, c32⟩ := htab q.toInt.toNat (by omega)
              refine w_aald hT c_tb (by omega) (by omega) e29 (tX0_leastCost_1_ok (153, .aaload, 1) (List.mem_of_getElem? (i := 30) rfl)) ?_
              refine w_iload (List.Mem.tail _ (List.Mem.tail _ (List.Mem.head _))) (tX0_leastCost_1_ok (154, .iload 8, 2) (List.mem_of_getElem? (i := 31) rfl)) ?_
              refine w_iald hT c32 (by omega) (by omega) (tX0_leastCost_1_ok (156, .iaload, 1) (List.mem_of_getElem? (i := 32) rfl)) (fun v33 e34 => ?_)
              refine w_iaddA (tX0_leastCost_1_ok (157, .iadd, 1) (List.mem_of_getElem? (i := 33) rfl)) (fun v35 => ?_)
              refine w_istore [(9, .int v35), (10, .int q), (8, .int sc), (7, .int fi), (6, .int xx), (5, .int lst), (0, .ref x), (1, .ref P), (2, .ref wa), (3, .int pp), (4, .int ft)] rfl (Nat.le_of_ble_eq_true rfl) (tX0_leastCost_1_ok (158, .istore 9, 2) (List.mem_of_getElem? (i := 34) rfl)) ?_
              refine w_iinc (fun v36 => [(10, .int v36), (9, .int v35), (8, .int sc), (7, .int fi), (6, .int xx), (5, .int lst), (0, .ref x), (1, .ref P), (2, .ref wa), (3, .int pp), (4, .int ft)]) (fun _ => rfl) (List.Mem.tail _ (List.Mem.head _)) (Nat.le_of_ble_eq_true rfl) (by decide) (by omega) (by omega) (tX0_leastCost_1_ok (160, .iinc 10 1, 3) (List.mem_of_getElem? (i := 35) rfl)) (fun v36 e37 => ?_)
              refine w_goto (tgt := 69) (tX0_leastCost_1_ok (163, .goto (-94), 3) (List.mem_of_getElem? (i := 36) rfl)) rfl ?_
              refine w_lv [(10, .int v36), (9, .int v35), (8, .int sc), (7, .int fi), (6, .int xx), (5, .int lst), (0, .ref x), (1, .ref P), (2, .ref wa), (3, .int pp), (4, .int ft)] (by intro q hq; simp only [List.mem_cons, List.not_mem_nil, or_false] at hq ⊢; rcases hq with e | e | e | e | e | e | e | e | e | e | e <;> subst e <;> simp) ?_
              exact ih (j - 1) (by omega) _ _ (by omega) (by omega) hq
        · refine w_iload (List.Mem.tail _ (List.Mem.tail _ (List.Mem.tail _ (List.Mem.head _)))) (tX0_leastCost_1_ok (98, .iload 7, 2) (List.mem_of_getElem? (i := 0) rfl)) ?_
          refine w_bipush (by decide) (tX0_leastCost_1_ok (100, .bipush 120, 2) (List.mem_of_getElem? (i := 1) rfl)) (fun v38 e39 => ?_)
          refine w_icmp_gt (tgt := 123) (tX0_leastCost_1_ok (102, .if_icmp .gt 21, 3) (List.mem_of_getElem? (i := 2) rfl)) rfl (fun b40 => ?_) (fun b40 => ?_)
          · refine w_aload_n (List.Mem.tail _ (List.Mem.tail _ (List.Mem.tail _ (List.Mem.tail _ (List.Mem.tail _ (List.Mem.tail _ (List.Mem.tail _ (List.Mem.head _)))))))) (tX0_leastCost_1_ok (123, .aload_n 1, 1) (List.mem_of_getElem? (i := 13) rfl)) ?_
            refine w_get (own := 5) rfl rfl (by decide) c_P fP8 (tX0_leastCost_1_ok (124, .getfield 34, 3) (List.mem_of_getElem? (i := 14) rfl)) ?_
            refine w_iload (List.Mem.head _) (tX0_leastCost_1_ok (127, .iload 10, 2) (List.mem_of_getElem? (i := 15) rfl)) ?_
            refine w_iald hT c_a8 (by omega) (by omega) (tX0_leastCost_1_ok (129, .iaload, 1) (List.mem_of_getElem? (i := 16) rfl)) (fun v41 e42 => ?_)
            refine w_iconst (by decide) (tX0_leastCost_1_ok (130, .iconst 2, 1) (List.mem_of_getElem? (i := 17) rfl)) (fun v43 e44 => ?_)
            refine w_iload_n (List.Mem.tail _ (List.Mem.tail _ (List.Mem.tail _ (List.Mem.tail _ (List.Mem.tail _ (List.Mem.tail _ (List.Mem.tail _ (List.Mem.tail _ (List.Mem.tail _ (List.Mem.head _)))))))))) (tX0_leastCost_1_ok (131, .iload_n 3, 1) (List.mem_of_getElem? (i := 18) rfl)) ?_
            refine w_imul (by assumption) (by omega) (by omega) (tX0_leastCost_1_ok (132, .imul, 1) (List.mem_of_getElem? (i := 19) rfl)) (fun v45 e46 => ?_)
            refine w_iconst (by decide) (tX0_leastCost_1_ok (133, .iconst 1, 1) (List.mem_of_getElem? (i := 20) rfl)) (fun v47 e48 => ?_)
            refine w_iadd (by omega) (by omega) (tX0_leastCost_1_ok (134, .iadd, 1) (List.mem_of_getElem? (i := 21) rfl)) (fun v49 e50 => ?_)
            refine w_icmp_ne (tgt := 160) (tX0_leastCost_1_ok (135, .if_icmp .ne 25, 3) (List.mem_of_getElem? (i := 22) rfl)) rfl (fun b51 => ?_) (fun b51 => ?_)
            · refine w_iinc (fun v52 => [(10, .int v52), (9, .int co), (8, .int sc), (7, .int fi), (6, .int xx), (5, .int lst), (0, .ref x), (1, .ref P), (2, .ref wa), (3, .int pp), (4, .int ft)]) (fun _ => rfl) (List.Mem.head _) (Nat.le_of_ble_eq_true rfl) (by decide) (by omega) (by omega) (tX0_leastCost_1_ok (160, .iinc 10 1, 3) (List.mem_of_getElem? (i := 35) rfl)) (fun v52 e53 => ?_)
              refine w_goto (tgt := 69) (tX0_leastCost_1_ok (163, .goto (-94), 3) (List.mem_of_getElem? (i := 36) rfl)) rfl ?_
              refine w_lv [(10, .int v52), (9, .int co), (8, .int sc), (7, .int fi), (6, .int xx), (5, .int lst), (0, .ref x), (1, .ref P), (2, .ref wa), (3, .int pp), (4, .int ft)] (by intro q hq; simp only [List.mem_cons, List.not_mem_nil, or_false] at hq ⊢; rcases hq with e | e | e | e | e | e | e | e | e | e | e <;> subst e <;> simp) ?_
              exact ih (j - 1) (by omega) _ _ (by omega) (by omega) hq
            · refine w_iload (List.Mem.tail _ (List.Mem.tail _ (List.Mem.head _))) (tX0_leastCost_1_ok (138, .iload 8, 2) (List.mem_of_getElem? (i := 23) rfl)) ?_
              refine w_bipush (by decide) (tX0_leastCost_1_ok (140, .bipush 120, 2) (List.mem_of_getElem? (i := 24) rfl)) (fun v54 e55 => ?_)
              refine w_icmp_gt (tgt := 160) (tX0_leastCost_1_ok (142, .if_icmp .gt 18, 3) (List.mem_of_getElem? (i := 25) rfl)) rfl (fun b56 => ?_) (fun b56 => ?_)
              · refine w_iinc (fun v57 => [(10, .int v57), (9, .int co), (8, .int sc), (7, .int fi), (6, .int xx), (5, .int lst), (0, .ref x), (1, .ref P), (2, .ref wa), (3, .int pp), (4, .int ft)]) (fun _ => rfl) (List.Mem.head _) (Nat.le_of_ble_eq_true rfl) (by decide) (by omega) (by omega) (tX0_leastCost_1_ok (160, .iinc 10 1, 3) (List.mem_of_getElem? (i := 35) rfl)) (fun v57 e58 => ?_)
                refine w_goto (tgt := 69) (tX0_leastCost_1_ok (163, .goto (-94), 3) (List.mem_of_getElem? (i := 36) rfl)) rfl ?_
                refine w_lv [(10, .int v57), (9, .int co), (8, .int sc), (7, .int fi), (6, .int xx), (5, .int lst), (0, .ref x), (1, .ref P), (2, .ref wa), (3, .int pp), (4, .int ft)] (by intro q hq; simp only [List.mem_cons, List.not_mem_nil, or_false] at hq ⊢; rcases hq with e | e | e | e | e | e | e | e | e | e | e <;> subst e <;> simp) ?_
                exact ih (j - 1) (by omega) _ _ (by omega) (by omega) hq
              · refine w_iload (List.Mem.tail _ (List.Mem.head _)) (tX0_leastCost_1_ok (145, .iload 9, 2) (List.mem_of_getElem? (i := 26) rfl)) ?_
                refine w_aload_n (List.Mem.tail _ (List.Mem.tail _ (List.Mem.tail _ (List.Mem.tail _ (List.Mem.tail _ (List.Mem.tail _ (List.Mem.head _))))))) (tX0_leastCost_1_ok (147, .aload_n 0, 1) (List.mem_of_getElem? (i := 27) rfl)) ?_
                refine w_get (own := 5) rfl rfl (by decide) c_x fX0 (tX0_leastCost_1_ok (148, .getfield 13, 3) (List.mem_of_getElem? (i := 28) rfl)) ?_
                refine w_iload (List.Mem.head _) (tX0_leastCost_1_ok (151, .iload 10, 2) (List.mem_of_getElem? (i := 29) rfl)) ?_
                obtain ⟨tbr59, e60, gb62, c63⟩ := htab q.toInt.toNat (by omega)
                refine w_aald hT c_tb (by omega) (by omega) e60 (tX0_leastCost_1_ok (153, .aaload, 1) (List.mem_of_getElem? (i := 30) rfl)) ?_
                refine w_iload (List.Mem.tail _ (List.Mem.tail _ (List.Mem.head _))) (tX0_leastCost_1_ok (154, .iload 8, 2) (List.mem_of_getElem? (i := 31) rfl)) ?_
                refine w_iald hT c63 (by omega) (by omega) (tX0_leastCost_1_ok (156, .iaload, 1) (List.mem_of_getElem? (i := 32) rfl)) (fun v64 e65 => ?_)
                refine w_iaddA (tX0_leastCost_1_ok (157, .iadd, 1) (List.mem_of_getElem? (i := 33) rfl)) (fun v66 => ?_)
                refine w_istore [(9, .int v66), (10, .int q), (8, .int sc), (7, .int fi), (6, .int xx), (5, .int lst), (0, .ref x), (1, .ref P), (2, .ref wa), (3, .int pp), (4, .int ft)] rfl (Nat.le_of_ble_eq_true rfl) (tX0_leastCost_1_ok (158, .istore 9, 2) (List.mem_of_getElem? (i := 34) rfl)) ?_
                refine w_iinc (fun v67 => [(10, .int v67), (9, .int v66), (8, .int sc), (7, .int fi), (6, .int xx), (5, .int lst), (0, .ref x), (1, .ref P), (2, .ref wa), (3, .int pp), (4, .int ft)]) (fun _ => rfl) (List.Mem.tail _ (List.Mem.head _)) (Nat.le_of_ble_eq_true rfl) (by decide) (by omega) (by omega) (tX0_leastCost_1_ok (160, .iinc 10 1, 3) (List.mem_of_getElem? (i := 35) rfl)) (fun v67 e68 => ?_)
                refine w_goto (tgt := 69) (tX0_leastCost_1_ok (163, .goto (-94), 3) (List.mem_of_getElem? (i := 36) rfl)) rfl ?_
                refine w_lv [(10, .int v67), (9, .int v66), (8, .int sc), (7, .int fi), (6, .int xx), (5, .int lst), (0, .ref x), (1, .ref P), (2, .ref wa), (3, .int pp), (4, .int ft)] (by intro q hq; simp only [List.mem_cons, List.not_mem_nil, or_false] at hq ⊢; rcases hq with e | e | e | e | e | e | e | e | e | e | e <;> subst e <;> simp) ?_
                exact ih (j - 1) (by omega) _ _ (by omega) (by omega) hq
          · refine w_iload (List.Mem.tail _ (List.Mem.head _)) (tX0_leastCost_1_ok (105, .iload 9, 2) (List.mem_of_getElem? (i := 3) rfl)) ?_
            refine w_aload_n (List.Mem.tail _ (List.Mem.tail _ (List.Mem.tail _ (List.Mem.tail _ (List.Mem.tail _ (List.Mem.tail _ (List.Mem.head _))))))) (tX0_leastCost_1_ok (107, .aload_n 0, 1) (List.mem_of_getElem? (i := 4) rfl)) ?_
            refine w_get (own := 5) rfl rfl (by decide) c_x fX0 (tX0_leastCost_1_ok (108, .getfield 13, 3) (List.mem_of_getElem? (i := 5) rfl)) ?_
            refine w_iload (List.Mem.head _) (tX0_leastCost_1_ok (111, .iload 10, 2) (List.mem_of_getElem? (i := 6) rfl)) ?_
            obtain ⟨tbr69, e70, gb72, c73⟩ := htab q.toInt.toNat (by omega)
            refine w_aald hT c_tb (by omega) (by omega) e70 (tX0_leastCost_1_ok (113, .aaload, 1) (List.mem_of_getElem? (i := 7) rfl)) ?_
            refine w_iload (List.Mem.tail _ (List.Mem.tail _ (List.Mem.tail _ (List.Mem.head _)))) (tX0_leastCost_1_ok (114, .iload 7, 2) (List.mem_of_getElem? (i := 8) rfl)) ?_
            refine w_iald hT c73 (by omega) (by omega) (tX0_leastCost_1_ok (116, .iaload, 1) (List.mem_of_getElem? (i := 9) rfl)) (fun v74 e75 => ?_)
            refine w_iaddA (tX0_leastCost_1_ok (117, .iadd, 1) (List.mem_of_getElem? (i := 10) rfl)) (fun v76 => ?_)
            refine w_istore [(9, .int v76), (10, .int q), (8, .int sc), (7, .int fi), (6, .int xx), (5, .int lst), (0, .ref x), (1, .ref P), (2, .ref wa), (3, .int pp), (4, .int ft)] rfl (Nat.le_of_ble_eq_true rfl) (tX0_leastCost_1_ok (118, .istore 9, 2) (List.mem_of_getElem? (i := 11) rfl)) ?_
            refine w_goto (tgt := 160) (tX0_leastCost_1_ok (120, .goto 40, 3) (List.mem_of_getElem? (i := 12) rfl)) rfl ?_
            refine w_iinc (fun v77 => [(10, .int v77), (9, .int v76), (8, .int sc), (7, .int fi), (6, .int xx), (5, .int lst), (0, .ref x), (1, .ref P), (2, .ref wa), (3, .int pp), (4, .int ft)]) (fun _ => rfl) (List.Mem.tail _ (List.Mem.head _)) (Nat.le_of_ble_eq_true rfl) (by decide) (by omega) (by omega) (tX0_leastCost_1_ok (160, .iinc 10 1, 3) (List.mem_of_getElem? (i := 35) rfl)) (fun v77 e78 => ?_)
            refine w_goto (tgt := 69) (tX0_leastCost_1_ok (163, .goto (-94), 3) (List.mem_of_getElem? (i := 36) rfl)) rfl ?_
            refine w_lv [(10, .int v77), (9, .int v76), (8, .int sc), (7, .int fi), (6, .int xx), (5, .int lst), (0, .ref x), (1, .ref P), (2, .ref wa), (3, .int pp), (4, .int ft)] (by intro q hq; simp only [List.mem_cons, List.not_mem_nil, or_false] at hq ⊢; rcases hq with e | e | e | e | e | e | e | e | e | e | e <;> subst e <;> simp) ?_
            exact ih (j - 1) (by omega) _ _ (by omega) (by omega) hq
theorem h_lcO (hT : k_tys tys cA) {P a1 a2 a8 : Nat} {ps : List Value} {ro : Int32} {gk gn gh : Nat → Int32} (c_P : h P = some (.inr (4, ps))) (fP0 : ps[0]? = some (.int ro)) (fP1 : ps[1]? = some (.ref a1)) (fP2 : ps[2]? = some (.ref a2)) (fP8 : ps[8]? = some (.ref a8)) (c_a1 : h a1 = some (.inl (cA 0, 6, .inl gk))) (c_a2 : h a2 = some (.inl (cA 0, 6, .inl gn))) (c_a8 : h a8 = some (.inl (cA 0, 6, .inl gh))) (hro : 0 ≤ ro.toInt ∧ ro.toInt ≤ 6) (hgn : ∀ i, i < 6 → 0 ≤ (gn i).toInt ∧ (gn i).toInt ≤ 20) {x wa tb : Nat} {xs : List Value} {gw : Nat → Int32} {ftb : Nat → Option Nat} (c_x : h x = some (.inr (0, xs))) (fX0 : xs[0]? = some (.ref tb)) (c_w : h wa = some (.inl (cA 0, 12, .inl gw))) (c_tb : h tb = some (.inl (cA 5, 6, .inr (.inr (.inr (.inr ftb)))))) (htab : ∀ i, i < 6 → ∃ b : Nat, va_rf (ftb i) = .ref b ∧ ∃ gb : Nat → Int32, h b = some (.inl (cA 0, 121, .inl gb))) {pp ft : Int32} (hp : 0 ≤ pp.toInt ∧ pp.toInt ≤ 5) (hft : 0 ≤ ft.toInt ∧ ft.toInt ≤ 120) (hf : 1 ≤ fr) (hl : 30 ≤ lo) : ∀ (j : Nat) (xx lst : Int32), 0 ≤ xx.toInt → xx.toInt ≤ 22 → xx.toInt + j = 22 → (∀ v : Int32, Q (some (.int v)) h) → ww l D tys A X fr lo mX0_leastCost Q 7 [(6, .int xx), (5, .int lst), (0, .ref x), (1, .ref P), (2, .ref wa), (3, .int pp), (4, .int ft)] [] h := by
  intro j
  induction j using Nat.strongRecOn with
  | ind j ih =>
    intro xx lst hx0 hx2 hj hq
    refine w_iload (List.Mem.head _) (tX0_leastCost_0_ok (7, .iload 6, 2) (List.mem_of_getElem? (i := 4) rfl)) ?_
    refine w_aload_n (List.Mem.tail _ (List.Mem.tail _ (List.Mem.tail _ (List.Mem.head _)))) (tX0_leastCost_0_ok (9, .aload_n 1, 1) (List.mem_of_getElem? (i := 5) rfl)) ?_
    refine w_get (own := 5) rfl rfl (by decide) c_P fP2 (tX0_leastCost_0_ok (10, .getfield 37, 3) (List.mem_of_getElem? (i := 6) rfl)) ?_
    refine w_iload_n (List.Mem.tail _ (List.Mem.tail _ (List.Mem.tail _ (List.Mem.tail _ (List.Mem.tail _ (List.Mem.head _)))))) (tX0_leastCost_0_ok (13, .iload_n 3, 1) (List.mem_of_getElem? (i := 7) rfl)) ?_
    refine w_iald hT c_a2 (by omega) (by omega) (tX0_leastCost_0_ok (14, .iaload, 1) (List.mem_of_getElem? (i := 8) rfl)) (fun v1 e2 => ?_)
    have v1b := hgn pp.toInt.toNat (by omega)
    refine w_icmp_gt (tgt := 188) (tX0_leastCost_0_ok (15, .if_icmp .gt 173, 3) (List.mem_of_getElem? (i := 9) rfl)) rfl (fun b3 => ?_) (fun b3 => ?_)
    · refine w_iload (List.Mem.tail _ (List.Mem.head _)) (tX0_leastCost_1_ok (188, .iload 5, 2) (List.mem_of_getElem? (i := 48) rfl)) ?_
      refine w_iret rfl (tX0_leastCost_1_ok (190, .ireturn, 1) (List.mem_of_getElem? (i := 49) rfl)) ?_
      exact hq lst
    · refine w_iload (List.Mem.tail _ (List.Mem.tail _ (List.Mem.tail _ (List.Mem.tail _ (List.Mem.tail _ (List.Mem.tail _ (List.Mem.head _))))))) (tX0_leastCost_0_ok (18, .iload 4, 2) (List.mem_of_getElem? (i := 10) rfl)) ?_
      refine w_iload (List.Mem.head _) (tX0_leastCost_0_ok (20, .iload 6, 2) (List.mem_of_getElem? (i := 11) rfl)) ?_
      refine w_iadd (by omega) (by omega) (tX0_leastCost_0_ok (22, .iadd, 1) (List.mem_of_getElem? (i := 12) rfl)) (fun v4 e5 => ?_)
      refine w_istore [(7, .int v4), (6, .int xx), (5, .int lst), (0, .ref x), (1, .ref P), (2, .ref wa), (3, .int pp), (4, .int ft)] rfl (Nat.le_of_ble_eq_true rfl) (tX0_leastCost_0_ok (23, .istore 7, 2) (List.mem_of_getElem? (i := 13) rfl)) ?_
      refine w_iload (List.Mem.tail _ (List.Mem.tail _ (List.Mem.tail _ (List.Mem.tail _ (List.Mem.tail _ (List.Mem.tail _ (List.Mem.tail _ (List.Mem.head _)))))))) (tX0_leastCost_0_ok (25, .iload 4, 2) (List.mem_of_getElem? (i := 14) rfl)) ?_
      refine w_aload_n (List.Mem.tail _ (List.Mem.tail _ (List.Mem.tail _ (List.Mem.tail _ (List.Mem.head _))))) (tX0_leastCost_0_ok (27, .aload_n 1, 1) (List.mem_of_getElem? (i := 15) rfl)) ?_
      refine w_iconst (by decide) (tX0_leastCost_0_ok (28, .iconst 2, 1) (List.mem_of_getElem? (i := 16) rfl)) (fun v6 e7 => ?_)
      refine w_iload_n (List.Mem.tail _ (List.Mem.tail _ (List.Mem.tail _ (List.Mem.tail _ (List.Mem.tail _ (List.Mem.tail _ (List.Mem.head _))))))) (tX0_leastCost_0_ok (29, .iload_n 3, 1) (List.mem_of_getElem? (i := 17) rfl)) ?_
      refine w_imul (by assumption) (by omega) (by omega) (tX0_leastCost_0_ok (30, .imul, 1) (List.mem_of_getElem? (i := 18) rfl)) (fun v8 e9 => ?_)
      refine w_iconst (by decide) (tX0_leastCost_0_ok (31, .iconst 1, 1) (List.mem_of_getElem? (i := 19) rfl)) (fun v10 e11 => ?_)
      refine w_iadd (by omega) (by omega) (tX0_leastCost_0_ok (32, .iadd, 1) (List.mem_of_getElem? (i := 20) rfl)) (fun v12 e13 => ?_)
      refine w_iload (List.Mem.tail _ (List.Mem.head _)) (tX0_leastCost_0_ok (33, .iload 6, 2) (List.mem_of_getElem? (i := 21) rfl)) ?_
      refine w_callV (own := 5) (mi := 48) [.int v12, .int xx] [.int ft] [(0, .ref P), (1, .int v12), (2, .int xx)] rfl (cllw_X0 (47, 0, 48) (List.mem_of_getElem? (i := 3) rfl)) rfl rfl c_P rfl (by omega) (w_lo (n := 23) rfl (by omega)) (Nat.le_of_ble_eq_true rfl) (Nat.le_of_ble_eq_true rfl) rfl (tX0_leastCost_0_ok (35, .invokevirtual 47, 3) (List.mem_of_getElem? (i := 22) rfl)) (h_place hT c_P fP0 fP1 fP2 fP8 c_a1 c_a2 c_a8 hro hgn (p := pp.toInt) hp (by omega) (by omega) (fun v14 e15 => ?_))
      show ww l D tys A X fr lo mX0_leastCost Q 38 [(7, .int v4), (6, .int xx), (5, .int lst), (0, .ref x), (1, .ref P), (2, .ref wa), (3, .int pp), (4, .int ft)] [.int v14, .int ft] h
      refine w_iadd (by omega) (by omega) (tX0_leastCost_0_ok (38, .iadd, 1) (List.mem_of_getElem? (i := 23) rfl)) (fun v16 e17 => ?_)
      refine w_istore [(8, .int v16), (7, .int v4), (6, .int xx), (5, .int lst), (0, .ref x), (1, .ref P), (2, .ref wa), (3, .int pp), (4, .int ft)] rfl (Nat.le_of_ble_eq_true rfl) (tX0_leastCost_0_ok (39, .istore 8, 2) (List.mem_of_getElem? (i := 24) rfl)) ?_
      refine w_aload_n (List.Mem.tail _ (List.Mem.tail _ (List.Mem.tail _ (List.Mem.tail _ (List.Mem.tail _ (List.Mem.tail _ (List.Mem.head _))))))) (tX0_leastCost_0_ok (41, .aload_n 2, 1) (List.mem_of_getElem? (i := 25) rfl)) ?_
      refine w_iconst (by decide) (tX0_leastCost_0_ok (42, .iconst 2, 1) (List.mem_of_getElem? (i := 26) rfl)) (fun v18 e19 => ?_)
      refine w_iload_n (List.Mem.tail _ (List.Mem.tail _ (List.Mem.tail _ (List.Mem.tail _ (List.Mem.tail _ (List.Mem.tail _ (List.Mem.tail _ (List.Mem.head _)))))))) (tX0_leastCost_0_ok (43, .iload_n 3, 1) (List.mem_of_getElem? (i := 27) rfl)) ?_
      refine w_imul (by assumption) (by omega) (by omega) (tX0_leastCost_0_ok (44, .imul, 1) (List.mem_of_getElem? (i := 28) rfl)) (fun v20 e21 => ?_)
      refine w_iload (List.Mem.tail _ (List.Mem.head _)) (tX0_leastCost_0_ok (45, .iload 7, 2) (List.mem_of_getElem? (i := 29) rfl)) ?_
      refine w_callS (own := 5) (mi := 15) [.ref wa, .int v20, .int v4] [] [(0, .ref wa), (1, .int v20), (2, .int v4)] rfl (cllw_X0 (50, 1, 15) (List.mem_of_getElem? (i := 4) rfl)) rfl rfl (by omega) (w_lo (n := 22) rfl (by omega)) (Nat.le_of_ble_eq_true rfl) (Nat.le_of_ble_eq_true rfl) rfl (tX0_leastCost_0_ok (47, .invokestatic 50, 3) (List.mem_of_getElem? (i := 30) rfl)) (h_costOf hT c_w (by omega) (fun v22 => ?_))
      show ww l D tys A X fr lo mX0_leastCost Q 50 [(8, .int v16), (7, .int v4), (6, .int xx), (5, .int lst), (0, .ref x), (1, .ref P), (2, .ref wa), (3, .int pp), (4, .int ft)] [.int v22] h
      refine w_aload_n (List.Mem.tail _ (List.Mem.tail _ (List.Mem.tail _ (List.Mem.tail _ (List.Mem.tail _ (List.Mem.tail _ (List.Mem.head _))))))) (tX0_leastCost_0_ok (50, .aload_n 2, 1) (List.mem_of_getElem? (i := 31) rfl)) ?_
      refine w_iconst (by decide) (tX0_leastCost_0_ok (51, .iconst 2, 1) (List.mem_of_getElem? (i := 32) rfl)) (fun v23 e24 => ?_)
      refine w_iload_n (List.Mem.tail _ (List.Mem.tail _ (List.Mem.tail _ (List.Mem.tail _ (List.Mem.tail _ (List.Mem.tail _ (List.Mem.tail _ (List.Mem.head _)))))))) (tX0_leastCost_0_ok (52, .iload_n 3, 1) (List.mem_of_getElem? (i := 33) rfl)) ?_
      refine w_imul (by assumption) (by omega) (by omega) (tX0_leastCost_0_ok (53, .imul, 1) (List.mem_of_getElem? (i := 34) rfl)) (fun v25 e26 => ?_)
      refine w_iconst (by decide) (tX0_leastCost_0_ok (54, .iconst 1, 1) (List.mem_of_getElem? (i := 35) rfl)) (fun v27 e28 => ?_)
      refine w_iadd (by omega) (by omega) (tX0_leastCost_0_ok (55, .iadd, 1) (List.mem_of_getElem? (i := 36) rfl)) (fun v29 e30 => ?_)
      refine w_iload (List.Mem.head _) (tX0_leastCost_0_ok (56, .iload 8, 2) (List.mem_of_getElem? (i := 37) rfl)) ?_
      refine w_callS (own := 5) (mi := 15) [.ref wa, .int v29, .int v16] [.int v22] [(0, .ref wa), (1, .int v29), (2, .int v16)] rfl (cllw_X0 (50, 1, 15) (List.mem_of_getElem? (i := 4) rfl)) rfl rfl (by omega) (w_lo (n := 22) rfl (by omega)) (Nat.le_of_ble_eq_true rfl) (Nat.le_of_ble_eq_true rfl) rfl (tX0_leastCost_0_ok (58, .invokestatic 50, 3) (List.mem_of_getElem? (i := 38) rfl)) (h_costOf hT c_w (by omega) (fun v31 => ?_))
      show ww l D tys A X fr lo mX0_leastCost Q 61 [(8, .int v16), (7, .int v4), (6, .int xx), (5, .int lst), (0, .ref x), (1, .ref P), (2, .ref wa), (3, .int pp), (4, .int ft)] [.int v31, .int v22] h
      refine w_iaddA (tX0_leastCost_0_ok (61, .iadd, 1) (List.mem_of_getElem? (i := 39) rfl)) (fun v32 => ?_)
      refine w_istore [(9, .int v32), (8, .int v16), (7, .int v4), (6, .int xx), (5, .int lst), (0, .ref x), (1, .ref P), (2, .ref wa), (3, .int pp), (4, .int ft)] rfl (Nat.le_of_ble_eq_true rfl) (tX0_leastCost_0_ok (62, .istore 9, 2) (List.mem_of_getElem? (i := 40) rfl)) ?_
      refine w_iload_n (List.Mem.tail _ (List.Mem.tail _ (List.Mem.tail _ (List.Mem.tail _ (List.Mem.tail _ (List.Mem.tail _ (List.Mem.tail _ (List.Mem.tail _ (List.Mem.head _))))))))) (tX0_leastCost_0_ok (64, .iload_n 3, 1) (List.mem_of_getElem? (i := 41) rfl)) ?_
      refine w_iconst (by decide) (tX0_leastCost_0_ok (65, .iconst 1, 1) (List.mem_of_getElem? (i := 42) rfl)) (fun v33 e34 => ?_)
      refine w_iadd (by omega) (by omega) (tX0_leastCost_0_ok (66, .iadd, 1) (List.mem_of_getElem? (i := 43) rfl)) (fun v35 e36 => ?_)
      refine w_istore [(10, .int v35), (9, .int v32), (8, .int v16), (7, .int v4), (6, .int xx), (5, .int lst), (0, .ref x), (1, .ref P), (2, .ref wa), (3, .int pp), (4, .int ft)] rfl (Nat.le_of_ble_eq_true rfl) (tX0_leastCost_0_ok (67, .istore 10, 2) (List.mem_of_getElem? (i := 44) rfl)) ?_
      refine w_lv [(10, .int v35), (9, .int v32), (8, .int v16), (7, .int v4), (6, .int xx), (5, .int lst), (0, .ref x), (1, .ref P), (2, .ref wa), (3, .int pp), (4, .int ft)] (by intro q hq; simp only [List.mem_cons, List.not_mem_nil, or_false] at hq ⊢; rcases hq with e | e | e | e | e | e | e | e | e | e | e <;> subst e <;> simp) ?_
      refine h_lcI hT c_P fP0 fP1 fP2 fP8 c_a1 c_a2 c_a8 hro hgn c_x fX0 c_w c_tb htab hp (by omega) (by omega) (7 - v35.toInt).toNat _ _ (by omega) (by omega) (fun qa37 ca38 => ?_)
      show ww l D tys A X fr lo mX0_leastCost Q 166 [(10, .int qa37), (9, .int ca38), (8, .int v16), (7, .int v4), (6, .int xx), (5, .int lst), (0, .ref x), (1, .ref P), (2, .ref wa), (3, .int pp), (4, .int ft)] [] h
      refine w_iload (List.Mem.tail _ (List.Mem.tail _ (List.Mem.tail _ (List.Mem.tail _ (List.Mem.tail _ (List.Mem.head _)))))) (tX0_leastCost_1_ok (166, .iload 5, 2) (List.mem_of_getElem? (i := 37) rfl)) ?_
      refine w_iload (List.Mem.tail _ (List.Mem.head _)) (tX0_leastCost_1_ok (168, .iload 9, 2) (List.mem_of_getElem? (i := 38) rfl)) ?_
      refine w_minA rfl (by omega) (by omega) (tX0_leastCost_1_ok (170, .invokestatic 40, 3) (List.mem_of_getElem? (i := 39) rfl)) (fun v39 => ?_)
      refine w_istore [(5, .int v39), (10, .int qa37), (9, .int ca38), (8, .int v16), (7, .int v4), (6, .int xx), (0, .ref x), (1, .ref P), (2, .ref wa), (3, .int pp), (4, .int ft)] rfl (Nat.le_of_ble_eq_true rfl) (tX0_leastCost_1_ok (173, .istore 5, 2) (List.mem_of_getElem? (i := 40) rfl)) ?_
      refine w_iload (List.Mem.tail _ (List.Mem.tail _ (List.Mem.tail _ (List.Mem.tail _ (List.Mem.tail _ (List.Mem.head _)))))) (tX0_leastCost_1_ok (175, .iload 6, 2) (List.mem_of_getElem? (i := 41) rfl)) ?_
      refine w_aload_n (List.Mem.tail _ (List.Mem.tail _ (List.Mem.tail _ (List.Mem.tail _ (List.Mem.tail _ (List.Mem.tail _ (List.Mem.tail _ (List.Mem.head _)))))))) (tX0_leastCost_1_ok (177, .aload_n 1, 1) (List.mem_of_getElem? (i := 42) rfl)) ?_
      refine w_iload_n (List.Mem.tail _ (List.Mem.tail _ (List.Mem.tail _ (List.Mem.tail _ (List.Mem.tail _ (List.Mem.tail _ (List.Mem.tail _ (List.Mem.tail _ (List.Mem.tail _ (List.Mem.head _)))))))))) (tX0_leastCost_1_ok (178, .iload_n 3, 1) (List.mem_of_getElem? (i := 43) rfl)) ?_
      refine w_callV (own := 5) (mi := 49) [.int pp] [.int xx] [(0, .ref P), (1, .int pp)] rfl (cllw_X0 (54, 0, 49) (List.mem_of_getElem? (i := 5) rfl)) rfl rfl c_P rfl (by omega) (w_lo (n := 21) rfl (by omega)) (Nat.le_of_ble_eq_true rfl) (Nat.le_of_ble_eq_true rfl) rfl (tX0_leastCost_1_ok (179, .invokevirtual 54, 3) (List.mem_of_getElem? (i := 44) rfl)) (h_stride hT c_P fP0 fP1 fP2 fP8 c_a1 c_a2 c_a8 hro hgn hp (fun v40 e41 => ?_))
      show ww l D tys A X fr lo mX0_leastCost Q 182 [(5, .int v39), (10, .int qa37), (9, .int ca38), (8, .int v16), (7, .int v4), (6, .int xx), (0, .ref x), (1, .ref P), (2, .ref wa), (3, .int pp), (4, .int ft)] [.int v40, .int xx] h
      refine w_iadd (by omega) (by omega) (tX0_leastCost_1_ok (182, .iadd, 1) (List.mem_of_getElem? (i := 45) rfl)) (fun v42 e43 => ?_)
      refine w_istore [(6, .int v42), (5, .int v39), (10, .int qa37), (9, .int ca38), (8, .int v16), (7, .int v4), (0, .ref x), (1, .ref P), (2, .ref wa), (3, .int pp), (4, .int ft)] rfl (Nat.le_of_ble_eq_true rfl) (tX0_leastCost_1_ok (183, .istore 6, 2) (List.mem_of_getElem? (i := 46) rfl)) ?_
      refine w_goto (tgt := 7) (tX0_leastCost_1_ok (185, .goto (-178), 3) (List.mem_of_getElem? (i := 47) rfl)) rfl ?_
      refine w_lv [(6, .int v42), (5, .int v39), (0, .ref x), (1, .ref P), (2, .ref wa), (3, .int pp), (4, .int ft)] (by intro q hq; simp only [List.mem_cons, List.not_mem_nil, or_false] at hq ⊢; rcases hq with e | e | e | e | e | e | e <;> subst e <;> simp) ?_
      exact ih (22 - v42.toInt).toNat (by omega) _ _ (by omega) (by omega) (by omega) hq
theorem hand_X0_leastCost {mi : Nat} (hT : k_TX tys cA A X) (hm : k_pM mi = mX0_leastCost) : k_sat l D tys A X Sg cA Lb (mi, [(2, 8, 0), (2, 2, 0), (2, 32, 0), (0, 0, 5), (0, 0, 120)], [], some (0, -2147483648, 2147483647), [], 2, 60) := by
  intro h vals hH hlen hv hk
  obtain ⟨w0, p0, q0⟩ := hv 0 _ rfl
  obtain ⟨w1, p1, q1⟩ := hv 1 _ rfl
  obtain ⟨w2, p2, q2⟩ := hv 2 _ rfl
  obtain ⟨w3, p3, q3⟩ := hv 3 _ rfl
  obtain ⟨w4, p4, q4⟩ := hv 4 _ rfl
  obtain ⟨x, rfl, sx⟩ := k_v.ref q0
  obtain ⟨P, rfl, sP⟩ := k_v.ref q1
  obtain ⟨wa, rfl, sw⟩ := k_v.ref q2
  obtain ⟨pp, rfl, b1, b2⟩ := k_v.int q3
  obtain ⟨ft, rfl, b3, b4⟩ := k_v.int q4
  match vals, hlen, p0, p1, p2, p3, p4 with
  | [_, _, _, _, _], _, p0, p1, p2, p3, p4 =>
    cases p0
    cases p1
    cases p2
    cases p3
    cases p4
    obtain ⟨xs, c_x, xl, ty⟩ := hH.obj sx (L := 8) rfl
    obtain ⟨v0, fX0, t0⟩ := ty 0 _ rfl
    obtain ⟨tb, rfl, stb⟩ := k_v.ref t0
    obtain ⟨ps, c_P, pl, typ⟩ := hH.obj sP (L := 2) rfl
    obtain ⟨u0, fP0, r0⟩ := typ 0 _ rfl
    obtain ⟨ro, rfl, r1, r2⟩ := k_v.int r0
    obtain ⟨u1, fP1, s1⟩ := typ 1 _ rfl
    obtain ⟨a1, rfl, sa1⟩ := k_v.ref s1
    obtain ⟨u2, fP2, s2⟩ := typ 2 _ rfl
    obtain ⟨a2, rfl, sa2⟩ := k_v.ref s2
    obtain ⟨u8, fP8, s8⟩ := typ 8 _ rfl
    obtain ⟨a8, rfl, sa8⟩ := k_v.ref s8
    obtain ⟨gk, c_a1, -⟩ := hH.arr sa1 (L := 11) rfl
    obtain ⟨gn, c_a2, hgn⟩ := hH.arr sa2 (L := 12) rfl
    obtain ⟨gh, c_a8, -⟩ := hH.arr sa8 (L := 18) rfl
    obtain ⟨gw, c_w, -⟩ := hH.arr sw (L := 32) rfl
    obtain ⟨e, c_tb, ce⟩ := hH tb 42 stb
    rcases ce with ⟨q, -⟩ | ⟨q, -⟩ | ⟨-, ftb, rfl, hft⟩
    · cases q
    · cases q
    have htab : ∀ i, i < 6 → ∃ b : Nat, va_rf (ftb i) = .ref b ∧ ∃ gb : Nat → Int32, h b = some (.inl (cA 0, 121, .inl gb)) := by
      intro i hi
      obtain ⟨b, e1, e2⟩ := k_v.ref (hft i hi)
      obtain ⟨gb, e3, -⟩ := hH.arr e2 (L := 43) rfl
      exact ⟨b, e1, gb, e3⟩
    have hro : 0 ≤ ro.toInt ∧ ro.toInt ≤ 6 := ⟨r1, r2⟩
    have hp : 0 ≤ pp.toInt ∧ pp.toInt ≤ 5 := ⟨b1, b2⟩
    show tt l D tys A X 2 60 0 0 (k_pM mi) _ 0 _ [] h 0 0
    rw [hm]
    show ww l D tys A X 2 60 mX0_leastCost _ 0 [(0, .ref x), (1, .ref P), (2, .ref wa), (3, .int pp), (4, .int ft)] [] h
    refine w_ldcA (pg_kw 5 (46, 1000000) (List.mem_of_getElem? (i := 0) rfl)) (tX0_leastCost_0_ok (0, .ldc 46, 2) (List.mem_of_getElem? (i := 0) rfl)) (fun v1 => ?_)
    refine w_istore [(5, .int v1), (0, .ref x), (1, .ref P), (2, .ref wa), (3, .int pp), (4, .int ft)] rfl (Nat.le_of_ble_eq_true rfl) (tX0_leastCost_0_ok (2, .istore 5, 2) (List.mem_of_getElem? (i := 1) rfl)) ?_
    refine w_iconst (by decide) (tX0_leastCost_0_ok (4, .iconst 0, 1) (List.mem_of_getElem? (i := 2) rfl)) (fun v2 e3 => ?_)
    refine w_istore [(6, .int v2), (5, .int v1), (0, .ref x), (1, .ref P), (2, .ref wa), (3, .int pp), (4, .int ft)] rfl (Nat.le_of_ble_eq_true rfl) (tX0_leastCost_0_ok (5, .istore 6, 2) (List.mem_of_getElem? (i := 3) rfl)) ?_
    refine w_lv [(6, .int v2), (5, .int v1), (0, .ref x), (1, .ref P), (2, .ref wa), (3, .int pp), (4, .int ft)] (by intro q hq; simp only [List.mem_cons, List.not_mem_nil, or_false] at hq ⊢; rcases hq with e | e | e | e | e | e | e <;> subst e <;> simp) ?_
    exact h_lcO hT.1 c_P fP0 fP1 fP2 fP8 c_a1 c_a2 c_a8 hro hgn c_x fX0 c_w c_tb htab hp ⟨b3, b4⟩ (by decide) (by decide) 22 _ _ (by omega) (by omega) (by omega) (fun v => ⟨hH, k_U.rf, _, rfl, k_v.top v⟩)
end
