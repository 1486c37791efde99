/-! the class over stores: a MINUTE, going on, coming to rest -/
/-- the plan in force has these rows -/
def pz (I : zI) (n : Nat) (ρ : aRw) : Prop := (I 2 0).toInt = (n : Int) ∧ wfR n ρ ∧ ∀ q, q < n → (I 11 q).toInt = ρ q 0 ∧ (I 12 q).toInt = ρ q 1 ∧ (I 13 q).toInt = ρ q 2 ∧ (I 14 (2 * q)).toInt = ρ q 3 ∧ (I 14 (2 * q + 1)).toInt = ρ q 4 ∧ (I 15 q).toInt = ρ q 5 ∧ (I 16 q).toInt = ρ q 6 ∧ (I 17 q).toInt = ρ q 7 ∧ (I 18 q).toInt = ρ q 8
theorem pz.mv {I I1 : zI} {n : Nat} {ρ : aRw} (H : pz I n ρ) (o : ∀ L, L = 2 ∨ 11 ≤ L ∧ L ≤ 18 → I1 L = I L) : pz I1 n ρ := by
  refine ⟨by rw [o 2 (Or.inl rfl)]; exact H.1, H.2.1, fun q hq => ?_⟩
  rw [o 11 (by omega), o 12 (by omega), o 13 (by omega), o 14 (by omega), o 15 (by omega), o 16 (by omega), o 17 (by omega), o 18 (by omega)]
  exact H.2.2 q hq
/-- how ROPES lean, by what their rooms bear -/
def lz (I : zI) (n : Nat) (ρ : aRw) (b : Nat → Int) : Prop := ∀ q, q < n → (I 26 q).toInt = ln9 (ρ q 0) (b (2 * q)) (b (2 * q + 1)) ∧ -1000000 ≤ (I 26 q).toInt ∧ (I 26 q).toInt ≤ 1000000
theorem lz.mv {I I1 : zI} {n : Nat} {ρ : aRw} {b : Nat → Int} (H : lz I n ρ b) (o : I1 26 = I 26) : lz I1 n ρ b := fun q hq => by
  rw [o]
  exact H q hq
theorem m_pu_b {ρ : aRw} {b : Nat → Int} {p : Nat} {x : Int} (hK : 0 ≤ ρ p 0 ∧ ρ p 0 ≤ 2) (hL : 2 ≤ ρ p 1 ∧ ρ p 1 ≤ 20) (hV : 0 ≤ ρ p 7 ∧ ρ p 7 ≤ 9) (hl : -1000000 ≤ ln9 (ρ p 0) (b (2 * p)) (b (2 * p + 1)) ∧ ln9 (ρ p 0) (b (2 * p)) (b (2 * p + 1)) ≤ 1000000) (hx : 0 ≤ x ∧ x ≤ 20) : -1000000000 ≤ m_pu ρ b p x ∧ m_pu ρ b p x ≤ 1000000000 := by
  unfold m_pu sp_pl9
  unfold ln9 at hl
  have hm := mul_bd hV (y := ρ p 1 - 2 * x) (by omega)
  split
  · omega
  · next c =>
    rw [if_neg c] at hl
    split
    · next c2 =>
      rw [if_pos c2] at hl
      omega
    · next c2 =>
      rw [if_neg c2] at hl
      omega
section
variable {l : Launch} {D : va_G} {tys : List (ClassId × FieldType)} {A : Nat → Prop} {X : State → Prop} {fr lo : Nat} {Q : Option Value → ch_H → Prop} {cA : Nat → ClassId} {h : ch_H} {ad : Nat → Nat} {I : zI} {W : zW} {O : zO} {n j : Nat} {ρ : aRw} {b : Nat → Int}
theorem z_heading (hT : k_tys tys cA) {p x fe : Int32} {fb : Bool} (hz : zr zNC cA ad I W O h) (hp : pz I n ρ) (hl : lz I n ρ b) (hf : 1 ≤ fr) (hlo : 30 ≤ lo) (h0 : 0 ≤ p.toInt ∧ p.toInt < (n : Int)) (hx : 0 ≤ x.toInt ∧ x.toInt ≤ ρ p.toInt.toNat 1) (hfe : fe.toInt = 0 ∧ fb = false ∨ fe.toInt = 1 ∧ fb = true) (hq : ∀ v : Int32, v.toInt = m_hd ρ b p.toInt.toNat x.toInt fb → Q (some (.int v)) h) : ww l D tys A X fr lo mX9_heading Q 0 [(0, .ref (ad 4)), (1, .ref (ad 2)), (2, .int p), (3, .int x), (4, .int fe)] [] h := by
  have hp9 : p.toInt.toNat < n := by omega
  have r9 := hp.2.2 _ hp9
  obtain ⟨w0, wL, wX, -, -, wD, wI, wV, wH⟩ := (hp.2.1.2 _ hp9).1
  have n6 := hp.2.1.1
  have l9 := hl _ hp9
  have pb9 := m_pu_b (b := b) (ρ := ρ) (p := p.toInt.toNat) (x := x.toInt) w0 wL wV (by rw [← l9.1]; exact l9.2) (by omega)
  refine c_heading hT (pl := ad 2) (pk := ad 11) (pn := ad 12) (pv := ad 17) (pd := ad 15) (w := ad 4) (wl := ad 26) (b1 := b (2 * p.toInt.toNat)) (b2 := b (2 * p.toInt.toNat + 1)) hf hlo (by omega) (by omega) (by rw [r9.1]; exact w0) (by rw [r9.2.1]; omega) (by rw [r9.2.2.2.2.2.2.2.1]; exact wV) (by rw [r9.1]; exact l9.1) l9.2 (by rw [r9.1, r9.2.1, r9.2.2.2.2.2.2.2.1]; exact pb9) (hz.ob (L := 2) rfl rfl) (z_fsR (k := 1) rfl rfl rfl) (hz.ar (L := 11) rfl rfl rfl) (z_fsR (k := 2) rfl rfl rfl) (hz.ar (L := 12) rfl rfl rfl) (z_fsR (k := 7) rfl rfl rfl) (hz.ar (L := 17) rfl rfl rfl) (hz.ob (L := 4) rfl rfl) (z_fsR (k := 1) rfl rfl rfl) (hz.ar (L := 26) rfl rfl rfl) (z_fsR (k := 5) rfl rfl rfl) (hz.ar (L := 15) rfl rfl rfl) (fun v e => hq v ?_)
  rw [e, r9.1, r9.2.1, r9.2.2.2.2.2.1, r9.2.2.2.2.2.2.2.1]
  unfold m_hd m_pu
  rcases hfe with ⟨c9, rfl⟩ | ⟨c9, rfl⟩ <;> simp [c9]
theorem z_pull (hT : k_tys tys cA) {p x : Int32} (hz : zr zNC cA ad I W O h) (hp : pz I n ρ) (hl : lz I n ρ b) (h0 : 0 ≤ p.toInt ∧ p.toInt < (n : Int)) (hx : 0 ≤ x.toInt ∧ x.toInt ≤ ρ p.toInt.toNat 1) (hq : ∀ v : Int32, v.toInt = m_pu ρ b p.toInt.toNat x.toInt → Q (some (.int v)) h) : ww l D tys A X fr lo mX9_pull Q 0 [(0, .ref (ad 4)), (1, .ref (ad 2)), (2, .int p), (3, .int x)] [] h := by
  have hp9 : p.toInt.toNat < n := by omega
  have r9 := hp.2.2 _ hp9
  obtain ⟨w0, wL, wX, -, -, wD, wI, wV, wH⟩ := (hp.2.1.2 _ hp9).1
  have n6 := hp.2.1.1
  have l9 := hl _ hp9
  refine c_pull hT (pl := ad 2) (pk := ad 11) (pn := ad 12) (pv := ad 17) (w := ad 4) (wl := ad 26) (b1 := b (2 * p.toInt.toNat)) (b2 := b (2 * p.toInt.toNat + 1)) (by omega) (by omega) (by rw [r9.1]; exact w0) (by rw [r9.2.1]; omega) (by rw [r9.2.2.2.2.2.2.2.1]; exact wV) (by rw [r9.1]; exact l9.1) l9.2 (hz.ob (L := 2) rfl rfl) (z_fsR (k := 1) rfl rfl rfl) (hz.ar (L := 11) rfl rfl rfl) (z_fsR (k := 2) rfl rfl rfl) (hz.ar (L := 12) rfl rfl rfl) (z_fsR (k := 7) rfl rfl rfl) (hz.ar (L := 17) rfl rfl rfl) (hz.ob (L := 4) rfl rfl) (z_fsR (k := 1) rfl rfl rfl) (hz.ar (L := 26) rfl rfl rfl) (fun v e => hq v ?_)
  rw [e, r9.1, r9.2.1, r9.2.2.2.2.2.2.2.1]
  rfl
theorem z_stride (hT : k_tys tys cA) {p : Int32} (hz : zr zNC cA ad I W O h) (hp : pz I n ρ) (h0 : 0 ≤ p.toInt ∧ p.toInt < (n : Int)) (hq : ∀ v : Int32, v.toInt = f_st ρ p.toInt.toNat → Q (some (.int v)) h) : ww l D tys A X fr lo mX4_stride Q 0 [(0, .ref (ad 2)), (1, .int p)] [] h := by
  have hp9 : p.toInt.toNat < n := by omega
  have r9 := hp.2.2 _ hp9
  obtain ⟨w0, wL, wX, -, -, wD, wI, wV, wH⟩ := (hp.2.1.2 _ hp9).1
  have n6 := hp.2.1.1
  refine c_stride hT (pk := ad 11) (by omega) (hz.ob (L := 2) rfl rfl) (z_fsR (k := 1) rfl rfl rfl) (hz.ar (L := 11) rfl rfl rfl) (fun v e => hq v ?_)
  rw [e, r9.1]
  rfl
/-- where a room is above the foot of its ROPE -/
def m_pc (ρ : aRw) (k : Nat) (x : Int) : Int := if k % 2 = 0 then x else if ρ (k / 2) 0 = 1 then (ρ (k / 2) 1 - x) / 2 else ρ (k / 2) 1 - x
theorem z_place (hT : k_tys tys cA) {k x : Int32} (hz : zr zNC cA ad I W O h) (hp : pz I n ρ) (h0 : 0 ≤ k.toInt ∧ k.toInt < 2 * (n : Int)) (hx : 0 ≤ x.toInt ∧ x.toInt ≤ ρ (k.toInt.toNat / 2) 1) (hq : ∀ v : Int32, v.toInt = m_pc ρ k.toInt.toNat x.toInt → Q (some (.int v)) h) : ww l D tys A X fr lo mX4_place Q 0 [(0, .ref (ad 2)), (1, .int k), (2, .int x)] [] h := by
  have hp9 : k.toInt.toNat / 2 < n := by omega
  have r9 := hp.2.2 _ hp9
  obtain ⟨w0, wL, wX, -, -, wD, wI, wV, wH⟩ := (hp.2.1.2 _ hp9).1
  have n6 := hp.2.1.1
  have r91 := r9.1
  have r92 := r9.2.1
  refine w_iload_n (List.Mem.tail _ (List.Mem.head _)) (tX4_place_0_ok (0, .iload_n 1, 1) (List.mem_of_getElem? (i := 0) rfl)) ?_
  refine w_iconst (by decide) (tX4_place_0_ok (1, .iconst 1, 1) (List.mem_of_getElem? (i := 1) rfl)) (fun yv1 ye2 => ?_)
  refine w_iand (tX4_place_0_ok (2, .iand, 1) (List.mem_of_getElem? (i := 2) rfl)) (fun yv3 ye4 => ?_)
  have ha9 := and1w (x := k) (z := yv1) (by omega) (by omega) ye4
  refine w_if_ne (tgt := 8) (tX4_place_0_ok (3, .ifCond .ne 5, 3) (List.mem_of_getElem? (i := 3) rfl)) rfl (fun yb5 => ?_) (fun yb5 => ?_)
  · refine w_iload_n (List.Mem.tail _ (List.Mem.head _)) (tX4_place_0_ok (8, .iload_n 1, 1) (List.mem_of_getElem? (i := 6) rfl)) ?_
    refine w_iconst (by decide) (tX4_place_0_ok (9, .iconst 1, 1) (List.mem_of_getElem? (i := 7) rfl)) (fun yv6 ye7 => ?_)
    refine w_ishr (tX4_place_0_ok (10, .ishr, 1) (List.mem_of_getElem? (i := 8) rfl)) (fun yv8 ye9 => ?_)
    have hs9 := shr1w (x := k) (z := yv6) (by omega) (by omega) ye9
    refine w_istore_n [(3, .int yv8), (0, .ref (ad 2)), (1, .int k), (2, .int x)] rfl (Nat.le_of_ble_eq_true rfl) (tX4_place_0_ok (11, .istore_n 3, 1) (List.mem_of_getElem? (i := 9) rfl)) ?_
    refine w_aload_n (List.Mem.tail _ (List.Mem.head _)) (tX4_place_0_ok (12, .aload_n 0, 1) (List.mem_of_getElem? (i := 10) rfl)) ?_
    refine z_getR (L1 := 11) (own := 9) (k := 1) hz rfl rfl rfl rfl rfl rfl rfl (by decide) (tX4_place_0_ok (13, .getfield 9, 3) (List.mem_of_getElem? (i := 11) rfl)) ?_
    refine w_iload_n (List.Mem.head _) (tX4_place_0_ok (16, .iload_n 3, 1) (List.mem_of_getElem? (i := 12) rfl)) ?_
    refine z_iald (f := (I 11)) hT hz rfl rfl rfl (by omega) (by omega) (tX4_place_0_ok (17, .iaload, 1) (List.mem_of_getElem? (i := 13) rfl)) (fun yv10 yu11 => ?_)
    have ye12 : yv10.toInt = ((I 11) yv8.toInt.toNat).toInt := congrArg _ yu11
    have yi13 : yv8.toInt.toNat = k.toInt.toNat / 2 := by omega
    rw [yi13] at ye12
    refine w_iconst (by decide) (tX4_place_0_ok (18, .iconst 1, 1) (List.mem_of_getElem? (i := 14) rfl)) (fun yv14 ye15 => ?_)
    refine w_icmp_ne (tgt := 35) (tX4_place_0_ok (19, .if_icmp .ne 16, 3) (List.mem_of_getElem? (i := 15) rfl)) rfl (fun yb16 => ?_) (fun yb16 => ?_)
    · refine w_aload_n (List.Mem.tail _ (List.Mem.head _)) (tX4_place_0_ok (35, .aload_n 0, 1) (List.mem_of_getElem? (i := 25) rfl)) ?_
      refine z_getR (L1 := 12) (own := 9) (k := 2) hz rfl rfl rfl rfl rfl rfl rfl (by decide) (tX4_place_0_ok (36, .getfield 15, 3) (List.mem_of_getElem? (i := 26) rfl)) ?_
      refine w_iload_n (List.Mem.head _) (tX4_place_0_ok (39, .iload_n 3, 1) (List.mem_of_getElem? (i := 27) rfl)) ?_
      refine z_iald (f := (I 12)) hT hz rfl rfl rfl (by omega) (by omega) (tX4_place_0_ok (40, .iaload, 1) (List.mem_of_getElem? (i := 28) rfl)) (fun yv17 yu18 => ?_)
      have ye19 : yv17.toInt = ((I 12) yv8.toInt.toNat).toInt := congrArg _ yu18
      have yi20 : yv8.toInt.toNat = k.toInt.toNat / 2 := by omega
      rw [yi20] at ye19
      refine w_iload_n (List.Mem.tail _ (List.Mem.tail _ (List.Mem.tail _ (List.Mem.head _)))) (tX4_place_0_ok (41, .iload_n 2, 1) (List.mem_of_getElem? (i := 29) rfl)) ?_
      refine w_isub (by omega) (by omega) (tX4_place_0_ok (42, .isub, 1) (List.mem_of_getElem? (i := 30) rfl)) (fun yv21 ye22 => ?_)
      refine w_iret rfl (tX4_place_0_ok (43, .ireturn, 1) (List.mem_of_getElem? (i := 31) rfl)) ?_
      refine hq _ ?_
      unfold m_pc
      repeat (first | rw [if_pos (by omega)] | rw [if_neg (by omega)])
      all_goals omega
    · refine w_aload_n (List.Mem.tail _ (List.Mem.head _)) (tX4_place_0_ok (22, .aload_n 0, 1) (List.mem_of_getElem? (i := 16) rfl)) ?_
      refine z_getR (L1 := 12) (own := 9) (k := 2) hz rfl rfl rfl rfl rfl rfl rfl (by decide) (tX4_place_0_ok (23, .getfield 15, 3) (List.mem_of_getElem? (i := 17) rfl)) ?_
      refine w_iload_n (List.Mem.head _) (tX4_place_0_ok (26, .iload_n 3, 1) (List.mem_of_getElem? (i := 18) rfl)) ?_
      refine z_iald (f := (I 12)) hT hz rfl rfl rfl (by omega) (by omega) (tX4_place_0_ok (27, .iaload, 1) (List.mem_of_getElem? (i := 19) rfl)) (fun yv23 yu24 => ?_)
      have ye25 : yv23.toInt = ((I 12) yv8.toInt.toNat).toInt := congrArg _ yu24
      have yi26 : yv8.toInt.toNat = k.toInt.toNat / 2 := by omega
      rw [yi26] at ye25
      refine w_iload_n (List.Mem.tail _ (List.Mem.tail _ (List.Mem.tail _ (List.Mem.head _)))) (tX4_place_0_ok (28, .iload_n 2, 1) (List.mem_of_getElem? (i := 20) rfl)) ?_
      refine w_isub (by omega) (by omega) (tX4_place_0_ok (29, .isub, 1) (List.mem_of_getElem? (i := 21) rfl)) (fun yv27 ye28 => ?_)
      refine w_iconst (by decide) (tX4_place_0_ok (30, .iconst 2, 1) (List.mem_of_getElem? (i := 22) rfl)) (fun yv29 ye30 => ?_)
      refine w_idiv2 (by omega) (by omega) (tX4_place_0_ok (31, .idiv, 1) (List.mem_of_getElem? (i := 23) rfl)) (fun yv31 ye32 => ?_)
      refine w_goto (tgt := 43) (tX4_place_0_ok (32, .goto 11, 3) (List.mem_of_getElem? (i := 24) rfl)) rfl ?_
      refine w_iret rfl (tX4_place_0_ok (43, .ireturn, 1) (List.mem_of_getElem? (i := 31) rfl)) ?_
      refine hq _ ?_
      unfold m_pc
      repeat (first | rw [if_pos (by omega)] | rw [if_neg (by omega)])
      all_goals omega
  · refine w_iload_n (List.Mem.tail _ (List.Mem.tail _ (List.Mem.head _))) (tX4_place_0_ok (6, .iload_n 2, 1) (List.mem_of_getElem? (i := 4) rfl)) ?_
    refine w_iret rfl (tX4_place_0_ok (7, .ireturn, 1) (List.mem_of_getElem? (i := 5) rfl)) ?_
    refine hq _ ?_
    unfold m_pc
    repeat (first | rw [if_pos (by omega)] | rw [if_neg (by omega)])
    all_goals omega
theorem z_draw (hj_j : j < 10) (hz : zr zNC cA ad I W O h) (hq : ∀ (g : ch_H) (W1 : zW) (v : Int32), v = d_v (d_nx (W (100 + 6 * j) 6)) → W1 = s2 W (100 + 6 * j) (wpd (W (100 + 6 * j)) 6 (d_nx (W (100 + 6 * j) 6))) → zr zNC cA ad I W1 O g → zf zNC ad h g → Q (some (.int v)) g) : ww l D tys A X fr lo mX6_draw Q 0 [(0, .ref (ad (100 + 6 * j)))] [] h := by
  refine w_aload_n (List.Mem.head _) (tX6_draw_0_ok (0, .aload_n 0, 1) (List.mem_of_getElem? (i := 0) rfl)) ?_
  refine w_aload_n (List.Mem.head _) (tX6_draw_0_ok (1, .aload_n 0, 1) (List.mem_of_getElem? (i := 1) rfl)) ?_
  refine z_getJ (own := 11) (k := 6) (w := W (100 + 6 * j)) hz (zNC_s (k := 0) hj_j (by decide)) (zZ_s j) rfl rfl rfl rfl rfl (by decide) (tX6_draw_0_ok (2, .getfield 37, 3) (List.mem_of_getElem? (i := 2) rfl)) ?_
  refine tt_ldc2 (wA3 103 rfl rfl) (tX6_draw_0_ok (5, .ldc2_w 47, 3) (List.mem_of_getElem? (i := 3) rfl)) ?_
  refine tt_lmul (tX6_draw_0_ok (8, .lmul, 1) (List.mem_of_getElem? (i := 4) rfl)) ?_
  refine tt_ldc2 (wA3 104 rfl rfl) (tX6_draw_0_ok (9, .ldc2_w 49, 3) (List.mem_of_getElem? (i := 5) rfl)) ?_
  refine tt_ladd (tX6_draw_0_ok (12, .ladd, 1) (List.mem_of_getElem? (i := 6) rfl)) ?_
  refine z_putJ (own := 11) (k := 6) (w := W (100 + 6 * j)) hz (zNC_s (k := 0) hj_j (by decide)) (zZ_s j) rfl rfl rfl rfl rfl (by decide) rfl ⟨rfl, rfl⟩ (tX6_draw_0_ok (13, .putfield 37, 3) (List.mem_of_getElem? (i := 7) rfl)) (fun g W1 q1 z1 f1 => ?_)
  refine w_aload_n (List.Mem.head _) (tX6_draw_0_ok (16, .aload_n 0, 1) (List.mem_of_getElem? (i := 8) rfl)) ?_
  refine z_getJ (own := 11) (k := 6) z1 (zNC_s (k := 0) hj_j (by decide)) (zZ_s j) rfl rfl ((congrFun q1 _).trans (s2_s _ _ _)) rfl rfl (by decide) (tX6_draw_0_ok (17, .getfield 37, 3) (List.mem_of_getElem? (i := 9) rfl)) ?_
  rw [wpd_s]
  refine tt_bipush (v := 33) rfl (tX6_draw_0_ok (20, .bipush 33, 2) (List.mem_of_getElem? (i := 10) rfl)) ?_
  refine tt_lushr (tX6_draw_0_ok (22, .lushr, 1) (List.mem_of_getElem? (i := 11) rfl)) ?_
  refine tt_ldc2 (wA3 105 rfl rfl) (tX6_draw_0_ok (23, .ldc2_w 51, 3) (List.mem_of_getElem? (i := 12) rfl)) ?_
  refine tt_lrem (by decide) (tX6_draw_0_ok (26, .lrem, 1) (List.mem_of_getElem? (i := 13) rfl)) ?_
  refine tt_l2i (tX6_draw_0_ok (27, .l2i, 1) (List.mem_of_getElem? (i := 14) rfl)) ?_
  refine tt_iret rfl ?_ (by decide) (by decide) (tX6_draw_0_ok (28, .ireturn, 1) (List.mem_of_getElem? (i := 15) rfl))
  exact hq g W1 _ rfl q1 z1 f1
theorem z_mnB (hT : k_tys tys cA) (hj_j : j < 10) {T : Nat → Int32} {d : Int64} {sl9 sp p fe : Int32} {fb : Bool} (hz : zr zNC cA ad I W O h) (hp : pz I n ρ) (hl : lz I n ρ b) (hf : 2 ≤ fr) (hlo : 80 ≤ lo) (h0 : 0 ≤ p.toInt ∧ p.toInt < (n : Int)) (hsp : 0 ≤ sp.toInt ∧ sp.toInt ≤ 6) (hfe : fe.toInt = 0 ∧ fb = false ∨ fe.toInt = 1 ∧ fb = true) (hx : m_ok n ρ T) (hXT : ∀ q, q < n → I (100 + 6 * j + 1) q = T q ∧ I (100 + 6 * j + 2) q = T (6 + q)) (kk : ∀ (g : ch_H) (I1 : zI) (sp1 p1 : Int32), p1.toInt = p.toInt + 1 → sp1.toInt = (m_0 ρ b p.toInt.toNat fb T d sp.toInt).2.2 → (∀ q, q < n → I1 (100 + 6 * j + 1) q = (m_0 ρ b p.toInt.toNat fb T d sp.toInt).1 q ∧ I1 (100 + 6 * j + 2) q = (m_0 ρ b p.toInt.toNat fb T d sp.toInt).1 (6 + q)) → (∀ L, L ≠ (100 + 6 * j + 1) → L ≠ (100 + 6 * j + 2) → I1 L = I L) → zr zNC cA ad I1 W O g → zf zNC ad h g → ww l D tys A X fr lo mX9_minute Q 6 [(4, .int sp1), (5, .int p1), (0, .ref (ad 4)), (1, .ref (ad 2)), (2, .ref (ad (100 + 6 * j))), (3, .int sl9)] [] g) : ww l D tys A X fr lo mX9_minute Q 72 [(0, .ref (ad 4)), (1, .ref (ad 2)), (2, .ref (ad (100 + 6 * j))), (3, .int sl9), (4, .int sp), (5, .int p), (6, .int fe)] [] h := by
  have hp9 : p.toInt.toNat < n := by omega
  have r9 := hp.2.2 _ hp9
  obtain ⟨w0, wL, wX, -, -, wD, wI, wV, wH⟩ := (hp.2.1.2 _ hp9).1
  have n6 := hp.2.1.1
  have x9 := hx _ hp9
  have r92 := r9.2.1
  refine w_aload_n (List.Mem.tail _ (List.Mem.tail _ (List.Mem.head _))) (tX9_minute_0_ok (72, .aload_n 2, 1) (List.mem_of_getElem? (i := 37) rfl)) ?_
  refine z_getR (L1 := (100 + 6 * j + 1)) (own := 14) (k := 0) hz (zNC_s (k := 0) hj_j (by decide)) (zZ_s j) rfl rfl rfl rfl rfl (by decide) (tX9_minute_0_ok (73, .getfield 88, 3) (List.mem_of_getElem? (i := 38) rfl)) ?_
  refine w_iload (List.Mem.tail _ (List.Mem.tail _ (List.Mem.tail _ (List.Mem.tail _ (List.Mem.tail _ (List.Mem.head _)))))) (tX9_minute_0_ok (76, .iload 5, 2) (List.mem_of_getElem? (i := 39) rfl)) ?_
  refine z_iald (f := (I (100 + 6 * j + 1))) hT hz (zNC_s (k := 1) hj_j (by decide)) (zZ_s1 j) rfl (by omega) (by omega) (tX9_minute_0_ok (78, .iaload, 1) (List.mem_of_getElem? (i := 40) rfl)) (fun zv1 zu2 => ?_)
  have ze3 : zv1.toInt = ((I (100 + 6 * j + 1)) p.toInt.toNat).toInt := congrArg _ zu2
  have yzv1 : zv1.toInt = (T p.toInt.toNat).toInt := by rw [zu2, (hXT _ hp9).1]
  refine w_aload_n (List.Mem.head _) (tX9_minute_0_ok (79, .aload_n 0, 1) (List.mem_of_getElem? (i := 41) rfl)) ?_
  refine w_aload_n (List.Mem.tail _ (List.Mem.head _)) (tX9_minute_0_ok (80, .aload_n 1, 1) (List.mem_of_getElem? (i := 42) rfl)) ?_
  refine w_iload (List.Mem.tail _ (List.Mem.tail _ (List.Mem.tail _ (List.Mem.tail _ (List.Mem.tail _ (List.Mem.head _)))))) (tX9_minute_0_ok (81, .iload 5, 2) (List.mem_of_getElem? (i := 43) rfl)) ?_
  refine w_aload_n (List.Mem.tail _ (List.Mem.tail _ (List.Mem.head _))) (tX9_minute_0_ok (83, .aload_n 2, 1) (List.mem_of_getElem? (i := 44) rfl)) ?_
  refine z_getR (L1 := (100 + 6 * j + 1)) (own := 14) (k := 0) hz (zNC_s (k := 0) hj_j (by decide)) (zZ_s j) rfl rfl rfl rfl rfl (by decide) (tX9_minute_0_ok (84, .getfield 88, 3) (List.mem_of_getElem? (i := 45) rfl)) ?_
  refine w_iload (List.Mem.tail _ (List.Mem.tail _ (List.Mem.tail _ (List.Mem.tail _ (List.Mem.tail _ (List.Mem.head _)))))) (tX9_minute_0_ok (87, .iload 5, 2) (List.mem_of_getElem? (i := 46) rfl)) ?_
  refine z_iald (f := (I (100 + 6 * j + 1))) hT hz (zNC_s (k := 1) hj_j (by decide)) (zZ_s1 j) rfl (by omega) (by omega) (tX9_minute_0_ok (89, .iaload, 1) (List.mem_of_getElem? (i := 47) rfl)) (fun zv4 zu5 => ?_)
  have ze6 : zv4.toInt = ((I (100 + 6 * j + 1)) p.toInt.toNat).toInt := congrArg _ zu5
  have yzv4 : zv4.toInt = (T p.toInt.toNat).toInt := by rw [zu5, (hXT _ hp9).1]
  refine w_iload (List.Mem.tail _ (List.Mem.tail _ (List.Mem.tail _ (List.Mem.tail _ (List.Mem.tail _ (List.Mem.tail _ (List.Mem.head _))))))) (tX9_minute_0_ok (90, .iload 6, 2) (List.mem_of_getElem? (i := 48) rfl)) ?_
  have x8 : 0 ≤ zv4.toInt ∧ zv4.toInt ≤ ρ p.toInt.toNat 1 := by rw [zu5, (hXT _ hp9).1]; exact x9
  refine w_callV (own := 14) (mi := 88) [.ref (ad 2), .int p, .int zv4, .int fe] [.int zv1] [(0, .ref (ad 4)), (1, .ref (ad 2)), (2, .int p), (3, .int zv4), (4, .int fe)] rfl (cllw_X9 (91, 0, 88) (List.mem_of_getElem? (i := 5) rfl)) rfl rfl (hz.ob rfl rfl) rfl (by omega) (w_lo (n := 25) rfl (by omega)) (Nat.le_of_ble_eq_true rfl) (Nat.le_of_ble_eq_true rfl) rfl (tX9_minute_0_ok (92, .invokevirtual 91, 3) (List.mem_of_getElem? (i := 49) rfl)) (z_heading hT hz hp hl (by omega) (w_sub (n := 25) rfl (by omega)) h0 x8 hfe (fun zv7 ze8 => ?_))
  show ww l D tys A X fr lo mX9_minute Q 95 [(0, .ref (ad 4)), (1, .ref (ad 2)), (2, .ref (ad (100 + 6 * j))), (3, .int sl9), (4, .int sp), (5, .int p), (6, .int fe)] [.int zv7, .int zv1] h
  rw [zu5, (hXT _ hp9).1] at ze8
  refine w_aload_n (List.Mem.tail _ (List.Mem.head _)) (tX9_minute_0_ok (95, .aload_n 1, 1) (List.mem_of_getElem? (i := 50) rfl)) ?_
  refine w_iload (List.Mem.tail _ (List.Mem.tail _ (List.Mem.tail _ (List.Mem.tail _ (List.Mem.tail _ (List.Mem.head _)))))) (tX9_minute_0_ok (96, .iload 5, 2) (List.mem_of_getElem? (i := 51) rfl)) ?_
  refine w_callV (own := 14) (mi := 49) [.int p] [.int zv7, .int zv1] [(0, .ref (ad 2)), (1, .int p)] rfl (cllw_X9 (95, 0, 49) (List.mem_of_getElem? (i := 9) rfl)) rfl rfl (hz.ob rfl rfl) rfl (by omega) (w_lo (n := 21) rfl (by omega)) (Nat.le_of_ble_eq_true rfl) (Nat.le_of_ble_eq_true rfl) rfl (tX9_minute_0_ok (98, .invokevirtual 95, 3) (List.mem_of_getElem? (i := 52) rfl)) (z_stride hT hz hp h0 (fun zv9 ze10 => ?_))
  show ww l D tys A X fr lo mX9_minute Q 101 [(0, .ref (ad 4)), (1, .ref (ad 2)), (2, .ref (ad (100 + 6 * j))), (3, .int sl9), (4, .int sp), (5, .int p), (6, .int fe)] [.int zv9, .int zv7, .int zv1] h
  have hb9 := m_hd_b (ρ := ρ) (b := b) p.toInt.toNat (T p.toInt.toNat).toInt fb
  have sb9 := f_st_2 (ρ := ρ) p.toInt.toNat
  refine w_imulS (by omega) (by omega) (tX9_minute_0_ok (101, .imul, 1) (List.mem_of_getElem? (i := 53) rfl)) (fun zv11 ze12 _ _ => ?_)
  rw [ze8, ze10] at ze12
  have nb9 : -2 ≤ m_hd ρ b p.toInt.toNat (T p.toInt.toNat).toInt fb * f_st ρ p.toInt.toNat ∧ m_hd ρ b p.toInt.toNat (T p.toInt.toNat).toInt fb * f_st ρ p.toInt.toNat ≤ 2 := by rcases hb9 with c | c | c <;> rcases sb9 with c2 | c2 <;> rw [c, c2] <;> decide
  refine w_iadd (by omega) (by omega) (tX9_minute_0_ok (102, .iadd, 1) (List.mem_of_getElem? (i := 54) rfl)) (fun zv13 ze14 => ?_)
  refine w_istore [(7, .int zv13), (0, .ref (ad 4)), (1, .ref (ad 2)), (2, .ref (ad (100 + 6 * j))), (3, .int sl9), (4, .int sp), (5, .int p), (6, .int fe)] rfl (Nat.le_of_ble_eq_true rfl) (tX9_minute_0_ok (103, .istore 7, 2) (List.mem_of_getElem? (i := 55) rfl)) ?_
  refine w_iload (List.Mem.head _) (tX9_minute_0_ok (105, .iload 7, 2) (List.mem_of_getElem? (i := 56) rfl)) ?_
  refine w_aload_n (List.Mem.tail _ (List.Mem.tail _ (List.Mem.tail _ (List.Mem.head _)))) (tX9_minute_0_ok (107, .aload_n 2, 1) (List.mem_of_getElem? (i := 57) rfl)) ?_
  refine z_getR (L1 := (100 + 6 * j + 1)) (own := 14) (k := 0) hz (zNC_s (k := 0) hj_j (by decide)) (zZ_s j) rfl rfl rfl rfl rfl (by decide) (tX9_minute_0_ok (108, .getfield 88, 3) (List.mem_of_getElem? (i := 58) rfl)) ?_
  refine w_iload (List.Mem.tail _ (List.Mem.tail _ (List.Mem.tail _ (List.Mem.tail _ (List.Mem.tail _ (List.Mem.tail _ (List.Mem.head _))))))) (tX9_minute_0_ok (111, .iload 5, 2) (List.mem_of_getElem? (i := 59) rfl)) ?_
  refine z_iald (f := (I (100 + 6 * j + 1))) hT hz (zNC_s (k := 1) hj_j (by decide)) (zZ_s1 j) rfl (by omega) (by omega) (tX9_minute_1_ok (113, .iaload, 1) (List.mem_of_getElem? (i := 0) rfl)) (fun zv15 zu16 => ?_)
  have ze17 : zv15.toInt = ((I (100 + 6 * j + 1)) p.toInt.toNat).toInt := congrArg _ zu16
  have yzv15 : zv15.toInt = (T p.toInt.toNat).toInt := by rw [zu16, (hXT _ hp9).1]
  refine w_icmp_eq (tgt := 157) (tX9_minute_1_ok (114, .if_icmp .eq 43, 3) (List.mem_of_getElem? (i := 1) rfl)) rfl (fun zb18 => ?_) (fun zb18 => ?_)
  · refine w_iinc (fun zv19 => [(5, .int zv19), (7, .int zv13), (0, .ref (ad 4)), (1, .ref (ad 2)), (2, .ref (ad (100 + 6 * j))), (3, .int sl9), (4, .int sp), (6, .int fe)]) (fun _ => rfl) (List.Mem.tail _ (List.Mem.tail _ (List.Mem.tail _ (List.Mem.tail _ (List.Mem.tail _ (List.Mem.tail _ (List.Mem.head _))))))) (Nat.le_of_ble_eq_true rfl) (by decide) (by omega) (by omega) (tX9_minute_1_ok (157, .iinc 5 1, 3) (List.mem_of_getElem? (i := 24) rfl)) (fun zv19 ze20 => ?_)
    refine w_goto (tgt := 6) (tX9_minute_1_ok (160, .goto (-154), 3) (List.mem_of_getElem? (i := 25) rfl)) rfl ?_
    have e0 : m_0 ρ b p.toInt.toNat fb T d sp.toInt = (T, d, sp.toInt) := if_pos (by
      unfold m_nx
      split <;> omega)
    refine w_lv [(4, .int sp), (5, .int zv19), (0, .ref (ad 4)), (1, .ref (ad 2)), (2, .ref (ad (100 + 6 * j))), (3, .int sl9)] (by intro q hq; simp only [List.mem_cons, List.not_mem_nil, or_false] at hq ⊢; rcases hq with e | e | e | e | e | e <;> subst e <;> simp) ?_
    exact kk h I _ _ (by omega) (by rw [e0]) (fun q hq => by rw [e0]; exact hXT q hq) (fun _ _ _ => rfl) hz zf.rf
  · refine w_iload (List.Mem.head _) (tX9_minute_1_ok (117, .iload 7, 2) (List.mem_of_getElem? (i := 2) rfl)) ?_
    refine w_if_lt (tgt := 157) (tX9_minute_1_ok (119, .ifCond .lt 38, 3) (List.mem_of_getElem? (i := 3) rfl)) rfl (fun zb21 => ?_) (fun zb21 => ?_)
    · refine w_iinc (fun zv22 => [(5, .int zv22), (7, .int zv13), (0, .ref (ad 4)), (1, .ref (ad 2)), (2, .ref (ad (100 + 6 * j))), (3, .int sl9), (4, .int sp), (6, .int fe)]) (fun _ => rfl) (List.Mem.tail _ (List.Mem.tail _ (List.Mem.tail _ (List.Mem.tail _ (List.Mem.tail _ (List.Mem.tail _ (List.Mem.head _))))))) (Nat.le_of_ble_eq_true rfl) (by decide) (by omega) (by omega) (tX9_minute_1_ok (157, .iinc 5 1, 3) (List.mem_of_getElem? (i := 24) rfl)) (fun zv22 ze23 => ?_)
      refine w_goto (tgt := 6) (tX9_minute_1_ok (160, .goto (-154), 3) (List.mem_of_getElem? (i := 25) rfl)) rfl ?_
      have e0 : m_0 ρ b p.toInt.toNat fb T d sp.toInt = (T, d, sp.toInt) := if_pos (by
        unfold m_nx
        split <;> omega)
      refine w_lv [(4, .int sp), (5, .int zv22), (0, .ref (ad 4)), (1, .ref (ad 2)), (2, .ref (ad (100 + 6 * j))), (3, .int sl9)] (by intro q hq; simp only [List.mem_cons, List.not_mem_nil, or_false] at hq ⊢; rcases hq with e | e | e | e | e | e <;> subst e <;> simp) ?_
      exact kk h I _ _ (by omega) (by rw [e0]) (fun q hq => by rw [e0]; exact hXT q hq) (fun _ _ _ => rfl) hz zf.rf
    · refine w_iload (List.Mem.head _) (tX9_minute_1_ok (122, .iload 7, 2) (List.mem_of_getElem? (i := 4) rfl)) ?_
      refine w_aload_n (List.Mem.tail _ (List.Mem.tail _ (List.Mem.head _))) (tX9_minute_1_ok (124, .aload_n 1, 1) (List.mem_of_getElem? (i := 5) rfl)) ?_
      refine z_getR (L1 := 12) (own := 14) (k := 2) hz rfl rfl rfl rfl rfl rfl rfl (by decide) (tX9_minute_1_ok (125, .getfield 57, 3) (List.mem_of_getElem? (i := 6) rfl)) ?_
      refine w_iload (List.Mem.tail _ (List.Mem.tail _ (List.Mem.tail _ (List.Mem.tail _ (List.Mem.tail _ (List.Mem.tail _ (List.Mem.head _))))))) (tX9_minute_1_ok (128, .iload 5, 2) (List.mem_of_getElem? (i := 7) rfl)) ?_
      refine z_iald (f := (I 12)) hT hz rfl rfl rfl (by omega) (by omega) (tX9_minute_1_ok (130, .iaload, 1) (List.mem_of_getElem? (i := 8) rfl)) (fun zv24 zu25 => ?_)
      have ze26 : zv24.toInt = ((I 12) p.toInt.toNat).toInt := congrArg _ zu25
      refine w_icmp_gt (tgt := 157) (tX9_minute_1_ok (131, .if_icmp .gt 26, 3) (List.mem_of_getElem? (i := 9) rfl)) rfl (fun zb27 => ?_) (fun zb27 => ?_)
      · refine w_iinc (fun zv28 => [(5, .int zv28), (7, .int zv13), (0, .ref (ad 4)), (1, .ref (ad 2)), (2, .ref (ad (100 + 6 * j))), (3, .int sl9), (4, .int sp), (6, .int fe)]) (fun _ => rfl) (List.Mem.tail _ (List.Mem.tail _ (List.Mem.tail _ (List.Mem.tail _ (List.Mem.tail _ (List.Mem.tail _ (List.Mem.head _))))))) (Nat.le_of_ble_eq_true rfl) (by decide) (by omega) (by omega) (tX9_minute_1_ok (157, .iinc 5 1, 3) (List.mem_of_getElem? (i := 24) rfl)) (fun zv28 ze29 => ?_)
        refine w_goto (tgt := 6) (tX9_minute_1_ok (160, .goto (-154), 3) (List.mem_of_getElem? (i := 25) rfl)) rfl ?_
        have e0 : m_0 ρ b p.toInt.toNat fb T d sp.toInt = (T, d, sp.toInt) := if_pos (by
          unfold m_nx
          split <;> omega)
        refine w_lv [(4, .int sp), (5, .int zv28), (0, .ref (ad 4)), (1, .ref (ad 2)), (2, .ref (ad (100 + 6 * j))), (3, .int sl9)] (by intro q hq; simp only [List.mem_cons, List.not_mem_nil, or_false] at hq ⊢; rcases hq with e | e | e | e | e | e <;> subst e <;> simp) ?_
        exact kk h I _ _ (by omega) (by rw [e0]) (fun q hq => by rw [e0]; exact hXT q hq) (fun _ _ _ => rfl) hz zf.rf
      · refine w_aload_n (List.Mem.tail _ (List.Mem.tail _ (List.Mem.tail _ (List.Mem.head _)))) (tX9_minute_1_ok (134, .aload_n 2, 1) (List.mem_of_getElem? (i := 10) rfl)) ?_
        refine z_getR (L1 := (100 + 6 * j + 1)) (own := 14) (k := 0) hz (zNC_s (k := 0) hj_j (by decide)) (zZ_s j) rfl rfl rfl rfl rfl (by decide) (tX9_minute_1_ok (135, .getfield 88, 3) (List.mem_of_getElem? (i := 11) rfl)) ?_
        refine w_iload (List.Mem.tail _ (List.Mem.tail _ (List.Mem.tail _ (List.Mem.tail _ (List.Mem.tail _ (List.Mem.tail _ (List.Mem.head _))))))) (tX9_minute_1_ok (138, .iload 5, 2) (List.mem_of_getElem? (i := 12) rfl)) ?_
        refine w_iload (List.Mem.head _) (tX9_minute_1_ok (140, .iload 7, 2) (List.mem_of_getElem? (i := 13) rfl)) ?_
        refine z_iast (f := (I (100 + 6 * j + 1))) hT hz (zNC_s (k := 1) hj_j (by decide)) (zZ_s1 j) rfl (by omega) (by omega) (tX9_minute_1_ok (142, .iastore, 1) (List.mem_of_getElem? (i := 14) rfl)) (fun zh30 zI31 zq32 zz33 zf34 => ?_)
        refine w_aload_n (List.Mem.tail _ (List.Mem.tail _ (List.Mem.tail _ (List.Mem.head _)))) (tX9_minute_1_ok (143, .aload_n 2, 1) (List.mem_of_getElem? (i := 15) rfl)) ?_
        refine z_getR (L1 := (100 + 6 * j + 2)) (own := 14) (k := 1) zz33 (zNC_s (k := 0) hj_j (by decide)) (zZ_s j) rfl rfl rfl rfl rfl (by decide) (tX9_minute_1_ok (144, .getfield 98, 3) (List.mem_of_getElem? (i := 16) rfl)) ?_
        refine w_iload (List.Mem.tail _ (List.Mem.tail _ (List.Mem.tail _ (List.Mem.tail _ (List.Mem.tail _ (List.Mem.tail _ (List.Mem.head _))))))) (tX9_minute_1_ok (147, .iload 5, 2) (List.mem_of_getElem? (i := 17) rfl)) ?_
        refine tt_dup2 rfl rfl (tX9_minute_1_ok (149, .dup2, 1) (List.mem_of_getElem? (i := 18) rfl)) ?_
        show ww l D tys A X fr lo mX9_minute Q 150 [(7, .int zv13), (0, .ref (ad 4)), (1, .ref (ad 2)), (2, .ref (ad (100 + 6 * j))), (3, .int sl9), (4, .int sp), (5, .int p), (6, .int fe)] [.int p, .ref (ad (100 + 6 * j + 2)), .int p, .ref (ad (100 + 6 * j + 2))] zh30
        refine z_iald (f := (I (100 + 6 * j + 2))) hT zz33 (zNC_s (k := 2) hj_j (by decide)) (zZ_s2 j) ((congrFun zq32 (100 + 6 * j + 2)).trans (s2_n (by omega))) (by omega) (by omega) (tX9_minute_1_ok (150, .iaload, 1) (List.mem_of_getElem? (i := 19) rfl)) (fun zv35 zu36 => ?_)
        have ze37 : zv35.toInt = ((I (100 + 6 * j + 2)) p.toInt.toNat).toInt := congrArg _ zu36
        refine w_iconst (by decide) (tX9_minute_1_ok (151, .iconst 1, 1) (List.mem_of_getElem? (i := 20) rfl)) (fun zv38 ze39 => ?_)
        refine w_addE (tX9_minute_1_ok (152, .iadd, 1) (List.mem_of_getElem? (i := 21) rfl)) (fun zv40 ze41 => ?_)
        refine z_iast (f := (I (100 + 6 * j + 2))) hT zz33 (zNC_s (k := 2) hj_j (by decide)) (zZ_s2 j) ((congrFun zq32 (100 + 6 * j + 2)).trans (s2_n (by omega))) (by omega) (by omega) (tX9_minute_1_ok (153, .iastore, 1) (List.mem_of_getElem? (i := 22) rfl)) (fun zh42 zI43 zq44 zz45 zf46 => ?_)
        refine w_iinc (fun zv47 => [(4, .int zv47), (7, .int zv13), (0, .ref (ad 4)), (1, .ref (ad 2)), (2, .ref (ad (100 + 6 * j))), (3, .int sl9), (5, .int p), (6, .int fe)]) (fun _ => rfl) (List.Mem.tail _ (List.Mem.tail _ (List.Mem.tail _ (List.Mem.tail _ (List.Mem.tail _ (List.Mem.head _)))))) (Nat.le_of_ble_eq_true rfl) (by decide) (by omega) (by omega) (tX9_minute_1_ok (154, .iinc 4 1, 3) (List.mem_of_getElem? (i := 23) rfl)) (fun zv47 ze48 => ?_)
        refine w_iinc (fun zv49 => [(5, .int zv49), (4, .int zv47), (7, .int zv13), (0, .ref (ad 4)), (1, .ref (ad 2)), (2, .ref (ad (100 + 6 * j))), (3, .int sl9), (6, .int fe)]) (fun _ => rfl) (List.Mem.tail _ (List.Mem.tail _ (List.Mem.tail _ (List.Mem.tail _ (List.Mem.tail _ (List.Mem.tail _ (List.Mem.head _))))))) (Nat.le_of_ble_eq_true rfl) (by decide) (by omega) (by omega) (tX9_minute_1_ok (157, .iinc 5 1, 3) (List.mem_of_getElem? (i := 24) rfl)) (fun zv49 ze50 => ?_)
        refine w_goto (tgt := 6) (tX9_minute_1_ok (160, .goto (-154), 3) (List.mem_of_getElem? (i := 25) rfl)) rfl ?_
        have en : m_nx ρ b p.toInt.toNat (T p.toInt.toNat).toInt fb = zv13.toInt := by
          unfold m_nx
          rw [if_pos (by omega)]
          omega
        have e0 : m_0 ρ b p.toInt.toNat fb T d sp.toInt = (upd (upd T p.toInt.toNat (Int32.ofInt (m_nx ρ b p.toInt.toNat (T p.toInt.toNat).toInt fb))) (6 + p.toInt.toNat) (T (6 + p.toInt.toNat) + 1), d, sp.toInt + 1) := if_neg (by
          rw [en]
          omega)
        rw [en] at e0
        have ei : Int32.ofInt zv13.toInt = zv13 := (kn_eq _ _).mpr (ofInt_b (by omega))
        rw [ei] at e0
        have ev : zv40 = T (6 + p.toInt.toNat) + 1 := by
          rw [ze41, zu36, (hXT _ hp9).2, show zv38 = 1 from (kn_eq _ _).mpr (by rw [ze39]; rfl)]
        refine w_lv [(4, .int zv47), (5, .int zv49), (0, .ref (ad 4)), (1, .ref (ad 2)), (2, .ref (ad (100 + 6 * j))), (3, .int sl9)] (by intro q hq; simp only [List.mem_cons, List.not_mem_nil, or_false] at hq ⊢; rcases hq with e | e | e | e | e | e <;> subst e <;> simp) ?_
        refine kk zh42 zI43 _ _ (by omega) (by rw [e0]; show _ = sp.toInt + 1; omega) (fun q hq => ?_) (fun L9 n1 n2 => ?_) zz45 (zf34.tr zf46)
        · have c1 := (((congrFun zq44 (100 + 6 * j + 1)).trans (s2_n (by omega))).trans ((congrFun zq32 (100 + 6 * j + 1)).trans (s2_s _ _ _)))
          have c2 := ((congrFun zq44 (100 + 6 * j + 2)).trans (s2_s _ _ _))
          rw [e0, c1, c2]
          by_cases c9 : q = p.toInt.toNat
          · subst c9
            refine ⟨?_, ?_⟩
            · show upd _ p.toInt.toNat zv13 p.toInt.toNat = upd (upd T p.toInt.toNat zv13) (6 + p.toInt.toNat) _ p.toInt.toNat
              rw [upd_s, upd_n _ _ (by omega), upd_s]
            · show upd _ p.toInt.toNat _ p.toInt.toNat = upd (upd T p.toInt.toNat zv13) (6 + p.toInt.toNat) _ (6 + p.toInt.toNat)
              rw [upd_s, upd_s, ev]
          · refine ⟨?_, ?_⟩
            · show upd _ p.toInt.toNat zv13 q = upd (upd T p.toInt.toNat zv13) (6 + p.toInt.toNat) _ q
              rw [upd_n _ _ c9, upd_n _ _ (by omega), upd_n _ _ c9]
              exact (hXT q hq).1
            · show upd _ p.toInt.toNat _ q = upd (upd T p.toInt.toNat zv13) (6 + p.toInt.toNat) _ (6 + q)
              rw [upd_n _ _ c9, upd_n _ _ (by omega), upd_n _ _ (by omega)]
              exact (hXT q hq).2
        · rw [zq44, s2_n n2, zq32, s2_n n1]
theorem z_mnL (hT : k_tys tys cA) (hj_j : j < 10) {T : Nat → Int32} {d : Int64} {sl9 : Int32} {slb : Bool} {o9f : Nat → Int32} (wf : wfR n ρ) (hf : 2 ≤ fr) (hlo : 80 ≤ lo) (hsl : sl9.toInt = 0 ∧ slb = false ∨ sl9.toInt = 1 ∧ slb = true) (hx : m_ok n ρ T) (hOT : ∀ q, q < n → (o9f q).toInt = (T (12 + q)).toInt ∧ 0 ≤ (o9f q).toInt ∧ (o9f q).toInt ≤ 1) : ∀ (j9 : Nat) (h : ch_H) (I : zI) (W : zW) (sp p : Int32), p.toInt + j9 = n → 0 ≤ p.toInt → sp.toInt = (m_k ρ b slb (T, d, 0) p.toInt.toNat).2.2 → (∀ q, q < n → I (100 + 6 * j + 1) q = (m_k ρ b slb (T, d, 0) p.toInt.toNat).1 q ∧ I (100 + 6 * j + 2) q = (m_k ρ b slb (T, d, 0) p.toInt.toNat).1 (6 + q)) → W (100 + 6 * j) 6 = (m_k ρ b slb (T, d, 0) p.toInt.toNat).2.1 → pz I n ρ → lz I n ρ b → I (100 + 6 * j + 3) = o9f → zr zNC cA ad I W O h → (∀ (g : ch_H) (I1 : zI) (W1 : zW) (v : Int32), v.toInt = (m_k ρ b slb (T, d, 0) n).2.2 → (∀ q, q < n → I1 (100 + 6 * j + 1) q = (m_k ρ b slb (T, d, 0) n).1 q ∧ I1 (100 + 6 * j + 2) q = (m_k ρ b slb (T, d, 0) n).1 (6 + q)) → W1 (100 + 6 * j) 6 = (m_k ρ b slb (T, d, 0) n).2.1 → (∀ L, L ≠ (100 + 6 * j) → W1 L = W L) → (∀ k, k ≠ 6 → W1 (100 + 6 * j) k = W (100 + 6 * j) k) → (∀ L, L ≠ (100 + 6 * j + 1) → L ≠ (100 + 6 * j + 2) → I1 L = I L) → zr zNC cA ad I1 W1 O g → zf zNC ad h g → Q (some (.int v)) g) → ww l D tys A X fr lo mX9_minute Q 6 [(4, .int sp), (5, .int p), (0, .ref (ad 4)), (1, .ref (ad 2)), (2, .ref (ad (100 + 6 * j))), (3, .int sl9)] [] h := by
  intro j9
  induction j9 using Nat.strongRecOn with
  | ind j9 ih =>
    intro h I W sp p hj9 hp0 hsp hXT hd hp hl hO9 hz hq
    have n6 := wf.1
    have r0 := hp.1
    have hs1 : ¬ sl9.toInt = 0 → slb = true := by
      intro z
      rcases hsl with ⟨c, -⟩ | ⟨-, c⟩
      · exact absurd c z
      · exact c
    have hs0 : sl9.toInt = 0 → slb = false := by
      intro z
      rcases hsl with ⟨-, c⟩ | ⟨c, -⟩
      · exact c
      · omega
    have sb9 := m_k_s (ρ := ρ) (b := b) (sl := slb) (T, d, 0) p.toInt.toNat
    have sb8 : ((T, d, (0 : Int)) : mS).2.2 = 0 := rfl
    refine w_iload (List.Mem.tail _ (List.Mem.head _)) (tX9_minute_0_ok (6, .iload 5, 2) (List.mem_of_getElem? (i := 4) rfl)) ?_
    refine w_aload_n (List.Mem.tail _ (List.Mem.tail _ (List.Mem.tail _ (List.Mem.head _)))) (tX9_minute_0_ok (8, .aload_n 1, 1) (List.mem_of_getElem? (i := 5) rfl)) ?_
    refine z_get (f := (I 2)) (own := 14) (k := 0) hz rfl rfl rfl rfl rfl rfl rfl (by decide) (tX9_minute_0_ok (9, .getfield 21, 3) (List.mem_of_getElem? (i := 6) rfl)) ?_
    refine w_icmp_ge (tgt := 163) (tX9_minute_0_ok (12, .if_icmp .ge 151, 3) (List.mem_of_getElem? (i := 7) rfl)) rfl (fun zb1 => ?_) (fun zb1 => ?_)
    · refine w_iload (List.Mem.head _) (tX9_minute_1_ok (163, .iload 4, 2) (List.mem_of_getElem? (i := 26) rfl)) ?_
      refine w_iret rfl (tX9_minute_1_ok (165, .ireturn, 1) (List.mem_of_getElem? (i := 27) rfl)) ?_
      have ep : p.toInt.toNat = n := by omega
      rw [ep] at hsp hXT hd
      exact hq h I W sp hsp hXT hd (fun _ _ => rfl) (fun _ _ => rfl) (fun _ _ _ => rfl) hz zf.rf
    · have hp9 : p.toInt.toNat < n := by omega
      have r9 := hp.2.2 _ hp9
      have r97 := r9.2.2.2.2.2.2.1
      have ot9 : ((m_k ρ b slb (T, d, 0) p.toInt.toNat).1 (12 + p.toInt.toNat)).toInt = (I (100 + 6 * j + 3) p.toInt.toNat).toInt := by
        rw [m_k_hi _ p.toInt.toNat (12 + p.toInt.toNat) (by omega) (by omega), hO9]
        exact ((hOT p.toInt.toNat hp9).1).symm
      have o9 := (hOT p.toInt.toNat hp9).2
      rw [← hO9] at o9
      refine w_aload_n (List.Mem.tail _ (List.Mem.tail _ (List.Mem.tail _ (List.Mem.tail _ (List.Mem.head _))))) (tX9_minute_0_ok (15, .aload_n 2, 1) (List.mem_of_getElem? (i := 8) rfl)) ?_
      refine z_getR (L1 := (100 + 6 * j + 3)) (own := 14) (k := 2) hz (zNC_s (k := 0) hj_j (by decide)) (zZ_s j) rfl rfl rfl rfl rfl (by decide) (tX9_minute_0_ok (16, .getfield 77, 3) (List.mem_of_getElem? (i := 9) rfl)) ?_
      refine w_iload (List.Mem.tail _ (List.Mem.head _)) (tX9_minute_0_ok (19, .iload 5, 2) (List.mem_of_getElem? (i := 10) rfl)) ?_
      refine z_zald (f := (I (100 + 6 * j + 3))) hT hz (zNC_s (k := 3) hj_j (by decide)) (zZ_s3 j) rfl (by omega) (by omega) (tX9_minute_0_ok (21, .baload, 1) (List.mem_of_getElem? (i := 11) rfl)) (fun zv2 zu3 => ?_)
      have ze4 : zv2.toInt = ((I (100 + 6 * j + 3)) p.toInt.toNat).toInt := congrArg _ zu3
      refine w_if_ne (tgt := 29) (tX9_minute_0_ok (22, .ifCond .ne 7, 3) (List.mem_of_getElem? (i := 12) rfl)) rfl (fun zb5 => ?_) (fun zb5 => ?_)
      · refine w_iconst (by decide) (tX9_minute_0_ok (29, .iconst 0, 1) (List.mem_of_getElem? (i := 15) rfl)) (fun zv6 ze7 => ?_)
        refine w_istore [(6, .int zv6), (4, .int sp), (5, .int p), (0, .ref (ad 4)), (1, .ref (ad 2)), (2, .ref (ad (100 + 6 * j))), (3, .int sl9)] rfl (Nat.le_of_ble_eq_true rfl) (tX9_minute_0_ok (30, .istore 6, 2) (List.mem_of_getElem? (i := 16) rfl)) ?_
        refine w_iload_n (List.Mem.tail _ (List.Mem.tail _ (List.Mem.tail _ (List.Mem.tail _ (List.Mem.tail _ (List.Mem.tail _ (List.Mem.head _))))))) (tX9_minute_0_ok (32, .iload_n 3, 1) (List.mem_of_getElem? (i := 17) rfl)) ?_
        refine w_if_eq (tgt := 72) (tX9_minute_0_ok (33, .ifCond .eq 39, 3) (List.mem_of_getElem? (i := 18) rfl)) rfl (fun zb8 => ?_) (fun zb8 => ?_)
        · have ef : m_fr ρ slb p.toInt.toNat (m_k ρ b slb (T, d, 0) p.toInt.toNat).1 (m_k ρ b slb (T, d, 0) p.toInt.toNat).2.1 = false := m_fr_f (by omega) (Or.inl (hs0 (by omega)))
          have ed : m_d ρ slb p.toInt.toNat (m_k ρ b slb (T, d, 0) p.toInt.toNat).1 (m_k ρ b slb (T, d, 0) p.toInt.toNat).2.1 = (m_k ρ b slb (T, d, 0) p.toInt.toNat).2.1 := m_d_f (Or.inr (Or.inl (hs0 (by omega))))
          refine w_lv [(0, .ref (ad 4)), (1, .ref (ad 2)), (2, .ref (ad (100 + 6 * j))), (3, .int sl9), (4, .int sp), (5, .int p), (6, .int zv6)] (by intro q hq; simp only [List.mem_cons, List.not_mem_nil, or_false] at hq ⊢; rcases hq with e | e | e | e | e | e | e <;> subst e <;> simp) ?_
          refine z_mnB hT hj_j (fb := false) (T := (m_k ρ b slb (T, d, 0) p.toInt.toNat).1) (d := (m_k ρ b slb (T, d, 0) p.toInt.toNat).2.1) hz hp hl hf hlo (by omega) (by omega) (Or.inl ⟨by omega, rfl⟩) (m_k_ok hp.2.1 hx p.toInt.toNat (by omega)) hXT (fun g9 I9 sp9 p9 y1 y2 y3 y4 y5 y6 => ?_)
          have em : m_0 ρ b p.toInt.toNat false (m_k ρ b slb (T, d, 0) p.toInt.toNat).1 ((m_k ρ b slb (T, d, 0) p.toInt.toNat).2.1) (m_k ρ b slb (T, d, 0) p.toInt.toNat).2.2 = m_k ρ b slb (T, d, 0) (p.toInt.toNat + 1) := by
            show _ = m_0 ρ b p.toInt.toNat (m_fr ρ slb p.toInt.toNat (m_k ρ b slb (T, d, 0) p.toInt.toNat).1 (m_k ρ b slb (T, d, 0) p.toInt.toNat).2.1) (m_k ρ b slb (T, d, 0) p.toInt.toNat).1 (m_d ρ slb p.toInt.toNat (m_k ρ b slb (T, d, 0) p.toInt.toNat).1 (m_k ρ b slb (T, d, 0) p.toInt.toNat).2.1) (m_k ρ b slb (T, d, 0) p.toInt.toNat).2.2
            rw [ef, ed]
          rw [← hsp] at em
          rw [em] at y2 y3
          have ep : p9.toInt.toNat = p.toInt.toNat + 1 := by omega
          rw [← ep] at y2 y3
          have ed9 : W (100 + 6 * j) 6 = (m_k ρ b slb (T, d, 0) p9.toInt.toNat).2.1 := by
            rw [ep, show (m_k ρ b slb (T, d, 0) (p.toInt.toNat + 1)).2.1 = m_d ρ slb p.toInt.toNat (m_k ρ b slb (T, d, 0) p.toInt.toNat).1 (m_k ρ b slb (T, d, 0) p.toInt.toNat).2.1 from m_0_d _ _ _ _ _, ed]
            exact hd
          exact ih (j9 - 1) (by omega) g9 I9 W sp9 p9 (by omega) (by omega) y2 y3 ed9 (hp.mv (fun L9 h9 => y4 L9 (by omega) (by omega))) (hl.mv (y4 26 (by omega) (by omega))) ((y4 (100 + 6 * j + 3) (by omega) (by omega)).trans hO9) y5 (fun g1 I1 W1 v z1 z2 z3 z4 z5 z6 z7 z8 => hq g1 I1 W1 v z1 z2 z3 z4 z5 (fun L9 n1 n2 => (z6 L9 n1 n2).trans (y4 L9 n1 n2)) z7 ((zf.rf.tr y6).tr z8))
        · refine w_iload (List.Mem.head _) (tX9_minute_0_ok (36, .iload 6, 2) (List.mem_of_getElem? (i := 19) rfl)) ?_
          refine w_if_ne (tgt := 72) (tX9_minute_0_ok (38, .ifCond .ne 34, 3) (List.mem_of_getElem? (i := 20) rfl)) rfl (fun zb9 => ?_) (fun zb9 => ?_)
          · exfalso; omega
          · refine w_aload_n (List.Mem.tail _ (List.Mem.tail _ (List.Mem.tail _ (List.Mem.tail _ (List.Mem.head _))))) (tX9_minute_0_ok (41, .aload_n 1, 1) (List.mem_of_getElem? (i := 21) rfl)) ?_
            refine z_getR (L1 := 16) (own := 14) (k := 6) hz rfl rfl rfl rfl rfl rfl rfl (by decide) (tX9_minute_0_ok (42, .getfield 81, 3) (List.mem_of_getElem? (i := 22) rfl)) ?_
            refine w_iload (List.Mem.tail _ (List.Mem.tail _ (List.Mem.head _))) (tX9_minute_0_ok (45, .iload 5, 2) (List.mem_of_getElem? (i := 23) rfl)) ?_
            refine z_iald (f := (I 16)) hT hz rfl rfl rfl (by omega) (by omega) (tX9_minute_0_ok (47, .iaload, 1) (List.mem_of_getElem? (i := 24) rfl)) (fun zv10 zu11 => ?_)
            have ze12 : zv10.toInt = ((I 16) p.toInt.toNat).toInt := congrArg _ zu11
            refine w_if_le (tgt := 72) (tX9_minute_0_ok (48, .ifCond .le 24, 3) (List.mem_of_getElem? (i := 25) rfl)) rfl (fun zb13 => ?_) (fun zb13 => ?_)
            · have ef : m_fr ρ slb p.toInt.toNat (m_k ρ b slb (T, d, 0) p.toInt.toNat).1 (m_k ρ b slb (T, d, 0) p.toInt.toNat).2.1 = false := m_fr_f (by omega) (Or.inr (by omega))
              have ed : m_d ρ slb p.toInt.toNat (m_k ρ b slb (T, d, 0) p.toInt.toNat).1 (m_k ρ b slb (T, d, 0) p.toInt.toNat).2.1 = (m_k ρ b slb (T, d, 0) p.toInt.toNat).2.1 := m_d_f (Or.inr (Or.inr (by omega)))
              refine w_lv [(0, .ref (ad 4)), (1, .ref (ad 2)), (2, .ref (ad (100 + 6 * j))), (3, .int sl9), (4, .int sp), (5, .int p), (6, .int zv6)] (by intro q hq; simp only [List.mem_cons, List.not_mem_nil, or_false] at hq ⊢; rcases hq with e | e | e | e | e | e | e <;> subst e <;> simp) ?_
              refine z_mnB hT hj_j (fb := false) (T := (m_k ρ b slb (T, d, 0) p.toInt.toNat).1) (d := (m_k ρ b slb (T, d, 0) p.toInt.toNat).2.1) hz hp hl hf hlo (by omega) (by omega) (Or.inl ⟨by omega, rfl⟩) (m_k_ok hp.2.1 hx p.toInt.toNat (by omega)) hXT (fun g9 I9 sp9 p9 y1 y2 y3 y4 y5 y6 => ?_)
              have em : m_0 ρ b p.toInt.toNat false (m_k ρ b slb (T, d, 0) p.toInt.toNat).1 ((m_k ρ b slb (T, d, 0) p.toInt.toNat).2.1) (m_k ρ b slb (T, d, 0) p.toInt.toNat).2.2 = m_k ρ b slb (T, d, 0) (p.toInt.toNat + 1) := by
                show _ = m_0 ρ b p.toInt.toNat (m_fr ρ slb p.toInt.toNat (m_k ρ b slb (T, d, 0) p.toInt.toNat).1 (m_k ρ b slb (T, d, 0) p.toInt.toNat).2.1) (m_k ρ b slb (T, d, 0) p.toInt.toNat).1 (m_d ρ slb p.toInt.toNat (m_k ρ b slb (T, d, 0) p.toInt.toNat).1 (m_k ρ b slb (T, d, 0) p.toInt.toNat).2.1) (m_k ρ b slb (T, d, 0) p.toInt.toNat).2.2
                rw [ef, ed]
              rw [← hsp] at em
              rw [em] at y2 y3
              have ep : p9.toInt.toNat = p.toInt.toNat + 1 := by omega
              rw [← ep] at y2 y3
              have ed9 : W (100 + 6 * j) 6 = (m_k ρ b slb (T, d, 0) p9.toInt.toNat).2.1 := by
                rw [ep, show (m_k ρ b slb (T, d, 0) (p.toInt.toNat + 1)).2.1 = m_d ρ slb p.toInt.toNat (m_k ρ b slb (T, d, 0) p.toInt.toNat).1 (m_k ρ b slb (T, d, 0) p.toInt.toNat).2.1 from m_0_d _ _ _ _ _, ed]
                exact hd
              exact ih (j9 - 1) (by omega) g9 I9 W sp9 p9 (by omega) (by omega) y2 y3 ed9 (hp.mv (fun L9 h9 => y4 L9 (by omega) (by omega))) (hl.mv (y4 26 (by omega) (by omega))) ((y4 (100 + 6 * j + 3) (by omega) (by omega)).trans hO9) y5 (fun g1 I1 W1 v z1 z2 z3 z4 z5 z6 z7 z8 => hq g1 I1 W1 v z1 z2 z3 z4 z5 (fun L9 n1 n2 => (z6 L9 n1 n2).trans (y4 L9 n1 n2)) z7 ((zf.rf.tr y6).tr z8))
            · refine w_aload_n (List.Mem.tail _ (List.Mem.tail _ (List.Mem.tail _ (List.Mem.tail _ (List.Mem.tail _ (List.Mem.head _)))))) (tX9_minute_0_ok (51, .aload_n 2, 1) (List.mem_of_getElem? (i := 26) rfl)) ?_
              refine w_callV (own := 14) (mi := 68) [] [] [(0, .ref (ad (100 + 6 * j)))] rfl (cllw_X9 (84, 0, 68) (List.mem_of_getElem? (i := 4) rfl)) rfl rfl (hz.ob (zNC_s (k := 0) hj_j (by decide)) (zZ_s j)) rfl (by omega) (w_lo (n := 20) rfl (by omega)) (Nat.le_of_ble_eq_true rfl) (Nat.le_of_ble_eq_true rfl) rfl (tX9_minute_0_ok (52, .invokevirtual 84, 3) (List.mem_of_getElem? (i := 27) rfl)) (z_draw hj_j hz (fun zh14 zW15 zv19 ze20 zq16 zz17 zf18 => ?_))
              show ww l D tys A X fr lo mX9_minute Q 55 [(6, .int zv6), (4, .int sp), (5, .int p), (0, .ref (ad 4)), (1, .ref (ad 2)), (2, .ref (ad (100 + 6 * j))), (3, .int sl9)] [.int zv19] zh14
              rw [hd] at zq16 ze20
              refine w_aload_n (List.Mem.tail _ (List.Mem.tail _ (List.Mem.tail _ (List.Mem.tail _ (List.Mem.head _))))) (tX9_minute_0_ok (55, .aload_n 1, 1) (List.mem_of_getElem? (i := 28) rfl)) ?_
              refine z_getR (L1 := 16) (own := 14) (k := 6) zz17 rfl rfl rfl rfl rfl rfl rfl (by decide) (tX9_minute_0_ok (56, .getfield 81, 3) (List.mem_of_getElem? (i := 29) rfl)) ?_
              refine w_iload (List.Mem.tail _ (List.Mem.tail _ (List.Mem.head _))) (tX9_minute_0_ok (59, .iload 5, 2) (List.mem_of_getElem? (i := 30) rfl)) ?_
              refine z_iald (f := (I 16)) hT zz17 rfl rfl rfl (by omega) (by omega) (tX9_minute_0_ok (61, .iaload, 1) (List.mem_of_getElem? (i := 31) rfl)) (fun zv21 zu22 => ?_)
              have ze23 : zv21.toInt = ((I 16) p.toInt.toNat).toInt := congrArg _ zu22
              refine w_icmp_ge (tgt := 69) (tX9_minute_0_ok (62, .if_icmp .ge 7, 3) (List.mem_of_getElem? (i := 32) rfl)) rfl (fun zb24 => ?_) (fun zb24 => ?_)
              · refine w_iconst (by decide) (tX9_minute_0_ok (69, .iconst 0, 1) (List.mem_of_getElem? (i := 35) rfl)) (fun zv25 ze26 => ?_)
                refine w_istore [(6, .int zv25), (4, .int sp), (5, .int p), (0, .ref (ad 4)), (1, .ref (ad 2)), (2, .ref (ad (100 + 6 * j))), (3, .int sl9)] rfl (Nat.le_of_ble_eq_true rfl) (tX9_minute_0_ok (70, .istore 6, 2) (List.mem_of_getElem? (i := 36) rfl)) ?_
                have ef : m_fr ρ slb p.toInt.toNat (m_k ρ b slb (T, d, 0) p.toInt.toNat).1 (m_k ρ b slb (T, d, 0) p.toInt.toNat).2.1 = false := (m_fr_t ze20 (by omega) (hs1 (by omega)) (by omega)).trans (decide_eq_false (by omega))
                have ed : m_d ρ slb p.toInt.toNat (m_k ρ b slb (T, d, 0) p.toInt.toNat).1 (m_k ρ b slb (T, d, 0) p.toInt.toNat).2.1 = d_nx (m_k ρ b slb (T, d, 0) p.toInt.toNat).2.1 := m_d_t (by omega) (hs1 (by omega)) (by omega)
                refine w_lv [(0, .ref (ad 4)), (1, .ref (ad 2)), (2, .ref (ad (100 + 6 * j))), (3, .int sl9), (4, .int sp), (5, .int p), (6, .int zv25)] (by intro q hq; simp only [List.mem_cons, List.not_mem_nil, or_false] at hq ⊢; rcases hq with e | e | e | e | e | e | e <;> subst e <;> simp) ?_
                refine z_mnB hT hj_j (fb := false) (T := (m_k ρ b slb (T, d, 0) p.toInt.toNat).1) (d := d_nx (m_k ρ b slb (T, d, 0) p.toInt.toNat).2.1) zz17 hp hl hf hlo (by omega) (by omega) (Or.inl ⟨by omega, rfl⟩) (m_k_ok hp.2.1 hx p.toInt.toNat (by omega)) hXT (fun g9 I9 sp9 p9 y1 y2 y3 y4 y5 y6 => ?_)
                have em : m_0 ρ b p.toInt.toNat false (m_k ρ b slb (T, d, 0) p.toInt.toNat).1 (d_nx (m_k ρ b slb (T, d, 0) p.toInt.toNat).2.1) (m_k ρ b slb (T, d, 0) p.toInt.toNat).2.2 = m_k ρ b slb (T, d, 0) (p.toInt.toNat + 1) := by
                  show _ = m_0 ρ b p.toInt.toNat (m_fr ρ slb p.toInt.toNat (m_k ρ b slb (T, d, 0) p.toInt.toNat).1 (m_k ρ b slb (T, d, 0) p.toInt.toNat).2.1) (m_k ρ b slb (T, d, 0) p.toInt.toNat).1 (m_d ρ slb p.toInt.toNat (m_k ρ b slb (T, d, 0) p.toInt.toNat).1 (m_k ρ b slb (T, d, 0) p.toInt.toNat).2.1) (m_k ρ b slb (T, d, 0) p.toInt.toNat).2.2
                  rw [ef, ed]
                rw [← hsp] at em
                rw [em] at y2 y3
                have ep : p9.toInt.toNat = p.toInt.toNat + 1 := by omega
                rw [← ep] at y2 y3
                have ed9 : zW15 (100 + 6 * j) 6 = (m_k ρ b slb (T, d, 0) p9.toInt.toNat).2.1 := by
                  rw [ep, show (m_k ρ b slb (T, d, 0) (p.toInt.toNat + 1)).2.1 = m_d ρ slb p.toInt.toNat (m_k ρ b slb (T, d, 0) p.toInt.toNat).1 (m_k ρ b slb (T, d, 0) p.toInt.toNat).2.1 from m_0_d _ _ _ _ _, ed]
                  rw [zq16, s2_s, wpd_s]
                exact ih (j9 - 1) (by omega) g9 I9 zW15 sp9 p9 (by omega) (by omega) y2 y3 ed9 (hp.mv (fun L9 h9 => y4 L9 (by omega) (by omega))) (hl.mv (y4 26 (by omega) (by omega))) ((y4 (100 + 6 * j + 3) (by omega) (by omega)).trans hO9) y5 (fun g1 I1 W1 v z1 z2 z3 z4 z5 z6 z7 z8 => hq g1 I1 W1 v z1 z2 z3 (fun L9 n1 => (z4 L9 n1).trans (by rw [zq16, s2_n n1])) (fun k nk => (z5 k nk).trans (by rw [zq16, s2_s, wpd_n _ _ nk])) (fun L9 n1 n2 => (z6 L9 n1 n2).trans (y4 L9 n1 n2)) z7 ((zf18.tr y6).tr z8))
              · refine w_iconst (by decide) (tX9_minute_0_ok (65, .iconst 1, 1) (List.mem_of_getElem? (i := 33) rfl)) (fun zv27 ze28 => ?_)
                refine w_goto (tgt := 70) (tX9_minute_0_ok (66, .goto 4, 3) (List.mem_of_getElem? (i := 34) rfl)) rfl ?_
                refine w_istore [(6, .int zv27), (4, .int sp), (5, .int p), (0, .ref (ad 4)), (1, .ref (ad 2)), (2, .ref (ad (100 + 6 * j))), (3, .int sl9)] rfl (Nat.le_of_ble_eq_true rfl) (tX9_minute_0_ok (70, .istore 6, 2) (List.mem_of_getElem? (i := 36) rfl)) ?_
                have ef : m_fr ρ slb p.toInt.toNat (m_k ρ b slb (T, d, 0) p.toInt.toNat).1 (m_k ρ b slb (T, d, 0) p.toInt.toNat).2.1 = true := (m_fr_t ze20 (by omega) (hs1 (by omega)) (by omega)).trans (decide_eq_true (by omega))
                have ed : m_d ρ slb p.toInt.toNat (m_k ρ b slb (T, d, 0) p.toInt.toNat).1 (m_k ρ b slb (T, d, 0) p.toInt.toNat).2.1 = d_nx (m_k ρ b slb (T, d, 0) p.toInt.toNat).2.1 := m_d_t (by omega) (hs1 (by omega)) (by omega)
                refine w_lv [(0, .ref (ad 4)), (1, .ref (ad 2)), (2, .ref (ad (100 + 6 * j))), (3, .int sl9), (4, .int sp), (5, .int p), (6, .int zv27)] (by intro q hq; simp only [List.mem_cons, List.not_mem_nil, or_false] at hq ⊢; rcases hq with e | e | e | e | e | e | e <;> subst e <;> simp) ?_
                refine z_mnB hT hj_j (fb := true) (T := (m_k ρ b slb (T, d, 0) p.toInt.toNat).1) (d := d_nx (m_k ρ b slb (T, d, 0) p.toInt.toNat).2.1) zz17 hp hl hf hlo (by omega) (by omega) (Or.inr ⟨by omega, rfl⟩) (m_k_ok hp.2.1 hx p.toInt.toNat (by omega)) hXT (fun g9 I9 sp9 p9 y1 y2 y3 y4 y5 y6 => ?_)
                have em : m_0 ρ b p.toInt.toNat true (m_k ρ b slb (T, d, 0) p.toInt.toNat).1 (d_nx (m_k ρ b slb (T, d, 0) p.toInt.toNat).2.1) (m_k ρ b slb (T, d, 0) p.toInt.toNat).2.2 = m_k ρ b slb (T, d, 0) (p.toInt.toNat + 1) := by
                  show _ = m_0 ρ b p.toInt.toNat (m_fr ρ slb p.toInt.toNat (m_k ρ b slb (T, d, 0) p.toInt.toNat).1 (m_k ρ b slb (T, d, 0) p.toInt.toNat).2.1) (m_k ρ b slb (T, d, 0) p.toInt.toNat).1 (m_d ρ slb p.toInt.toNat (m_k ρ b slb (T, d, 0) p.toInt.toNat).1 (m_k ρ b slb (T, d, 0) p.toInt.toNat).2.1) (m_k ρ b slb (T, d, 0) p.toInt.toNat).2.2
                  rw [ef, ed]
                rw [← hsp] at em
                rw [em] at y2 y3
                have ep : p9.toInt.toNat = p.toInt.toNat + 1 := by omega
                rw [← ep] at y2 y3
                have ed9 : zW15 (100 + 6 * j) 6 = (m_k ρ b slb (T, d, 0) p9.toInt.toNat).2.1 := by
                  rw [ep, show (m_k ρ b slb (T, d, 0) (p.toInt.toNat + 1)).2.1 = m_d ρ slb p.toInt.toNat (m_k ρ b slb (T, d, 0) p.toInt.toNat).1 (m_k ρ b slb (T, d, 0) p.toInt.toNat).2.1 from m_0_d _ _ _ _ _, ed]
                  rw [zq16, s2_s, wpd_s]
                exact ih (j9 - 1) (by omega) g9 I9 zW15 sp9 p9 (by omega) (by omega) y2 y3 ed9 (hp.mv (fun L9 h9 => y4 L9 (by omega) (by omega))) (hl.mv (y4 26 (by omega) (by omega))) ((y4 (100 + 6 * j + 3) (by omega) (by omega)).trans hO9) y5 (fun g1 I1 W1 v z1 z2 z3 z4 z5 z6 z7 z8 => hq g1 I1 W1 v z1 z2 z3 (fun L9 n1 => (z4 L9 n1).trans (by rw [zq16, s2_n n1])) (fun k nk => (z5 k nk).trans (by rw [zq16, s2_s, wpd_n _ _ nk])) (fun L9 n1 n2 => (z6 L9 n1 n2).trans (y4 L9 n1 n2)) z7 ((zf18.tr y6).tr z8))
      · refine w_iconst (by decide) (tX9_minute_0_ok (25, .iconst 1, 1) (List.mem_of_getElem? (i := 13) rfl)) (fun zv29 ze30 => ?_)
        refine w_goto (tgt := 30) (tX9_minute_0_ok (26, .goto 4, 3) (List.mem_of_getElem? (i := 14) rfl)) rfl ?_
        refine w_istore [(6, .int zv29), (4, .int sp), (5, .int p), (0, .ref (ad 4)), (1, .ref (ad 2)), (2, .ref (ad (100 + 6 * j))), (3, .int sl9)] rfl (Nat.le_of_ble_eq_true rfl) (tX9_minute_0_ok (30, .istore 6, 2) (List.mem_of_getElem? (i := 16) rfl)) ?_
        refine w_iload_n (List.Mem.tail _ (List.Mem.tail _ (List.Mem.tail _ (List.Mem.tail _ (List.Mem.tail _ (List.Mem.tail _ (List.Mem.head _))))))) (tX9_minute_0_ok (32, .iload_n 3, 1) (List.mem_of_getElem? (i := 17) rfl)) ?_
        refine w_if_eq (tgt := 72) (tX9_minute_0_ok (33, .ifCond .eq 39, 3) (List.mem_of_getElem? (i := 18) rfl)) rfl (fun zb31 => ?_) (fun zb31 => ?_)
        · have ef : m_fr ρ slb p.toInt.toNat (m_k ρ b slb (T, d, 0) p.toInt.toNat).1 (m_k ρ b slb (T, d, 0) p.toInt.toNat).2.1 = true := m_fr_o (by omega)
          have ed : m_d ρ slb p.toInt.toNat (m_k ρ b slb (T, d, 0) p.toInt.toNat).1 (m_k ρ b slb (T, d, 0) p.toInt.toNat).2.1 = (m_k ρ b slb (T, d, 0) p.toInt.toNat).2.1 := m_d_f (Or.inl (by omega))
          refine w_lv [(0, .ref (ad 4)), (1, .ref (ad 2)), (2, .ref (ad (100 + 6 * j))), (3, .int sl9), (4, .int sp), (5, .int p), (6, .int zv29)] (by intro q hq; simp only [List.mem_cons, List.not_mem_nil, or_false] at hq ⊢; rcases hq with e | e | e | e | e | e | e <;> subst e <;> simp) ?_
          refine z_mnB hT hj_j (fb := true) (T := (m_k ρ b slb (T, d, 0) p.toInt.toNat).1) (d := (m_k ρ b slb (T, d, 0) p.toInt.toNat).2.1) hz hp hl hf hlo (by omega) (by omega) (Or.inr ⟨by omega, rfl⟩) (m_k_ok hp.2.1 hx p.toInt.toNat (by omega)) hXT (fun g9 I9 sp9 p9 y1 y2 y3 y4 y5 y6 => ?_)
          have em : m_0 ρ b p.toInt.toNat true (m_k ρ b slb (T, d, 0) p.toInt.toNat).1 ((m_k ρ b slb (T, d, 0) p.toInt.toNat).2.1) (m_k ρ b slb (T, d, 0) p.toInt.toNat).2.2 = m_k ρ b slb (T, d, 0) (p.toInt.toNat + 1) := by
            show _ = m_0 ρ b p.toInt.toNat (m_fr ρ slb p.toInt.toNat (m_k ρ b slb (T, d, 0) p.toInt.toNat).1 (m_k ρ b slb (T, d, 0) p.toInt.toNat).2.1) (m_k ρ b slb (T, d, 0) p.toInt.toNat).1 (m_d ρ slb p.toInt.toNat (m_k ρ b slb (T, d, 0) p.toInt.toNat).1 (m_k ρ b slb (T, d, 0) p.toInt.toNat).2.1) (m_k ρ b slb (T, d, 0) p.toInt.toNat).2.2
            rw [ef, ed]
          rw [← hsp] at em
          rw [em] at y2 y3
          have ep : p9.toInt.toNat = p.toInt.toNat + 1 := by omega
          rw [← ep] at y2 y3
          have ed9 : W (100 + 6 * j) 6 = (m_k ρ b slb (T, d, 0) p9.toInt.toNat).2.1 := by
            rw [ep, show (m_k ρ b slb (T, d, 0) (p.toInt.toNat + 1)).2.1 = m_d ρ slb p.toInt.toNat (m_k ρ b slb (T, d, 0) p.toInt.toNat).1 (m_k ρ b slb (T, d, 0) p.toInt.toNat).2.1 from m_0_d _ _ _ _ _, ed]
            exact hd
          exact ih (j9 - 1) (by omega) g9 I9 W sp9 p9 (by omega) (by omega) y2 y3 ed9 (hp.mv (fun L9 h9 => y4 L9 (by omega) (by omega))) (hl.mv (y4 26 (by omega) (by omega))) ((y4 (100 + 6 * j + 3) (by omega) (by omega)).trans hO9) y5 (fun g1 I1 W1 v z1 z2 z3 z4 z5 z6 z7 z8 => hq g1 I1 W1 v z1 z2 z3 z4 z5 (fun L9 n1 n2 => (z6 L9 n1 n2).trans (y4 L9 n1 n2)) z7 ((zf.rf.tr y6).tr z8))
        · refine w_iload (List.Mem.head _) (tX9_minute_0_ok (36, .iload 6, 2) (List.mem_of_getElem? (i := 19) rfl)) ?_
          refine w_if_ne (tgt := 72) (tX9_minute_0_ok (38, .ifCond .ne 34, 3) (List.mem_of_getElem? (i := 20) rfl)) rfl (fun zb32 => ?_) (fun zb32 => ?_)
          · have ef : m_fr ρ slb p.toInt.toNat (m_k ρ b slb (T, d, 0) p.toInt.toNat).1 (m_k ρ b slb (T, d, 0) p.toInt.toNat).2.1 = true := m_fr_o (by omega)
            have ed : m_d ρ slb p.toInt.toNat (m_k ρ b slb (T, d, 0) p.toInt.toNat).1 (m_k ρ b slb (T, d, 0) p.toInt.toNat).2.1 = (m_k ρ b slb (T, d, 0) p.toInt.toNat).2.1 := m_d_f (Or.inl (by omega))
            refine w_lv [(0, .ref (ad 4)), (1, .ref (ad 2)), (2, .ref (ad (100 + 6 * j))), (3, .int sl9), (4, .int sp), (5, .int p), (6, .int zv29)] (by intro q hq; simp only [List.mem_cons, List.not_mem_nil, or_false] at hq ⊢; rcases hq with e | e | e | e | e | e | e <;> subst e <;> simp) ?_
            refine z_mnB hT hj_j (fb := true) (T := (m_k ρ b slb (T, d, 0) p.toInt.toNat).1) (d := (m_k ρ b slb (T, d, 0) p.toInt.toNat).2.1) hz hp hl hf hlo (by omega) (by omega) (Or.inr ⟨by omega, rfl⟩) (m_k_ok hp.2.1 hx p.toInt.toNat (by omega)) hXT (fun g9 I9 sp9 p9 y1 y2 y3 y4 y5 y6 => ?_)
            have em : m_0 ρ b p.toInt.toNat true (m_k ρ b slb (T, d, 0) p.toInt.toNat).1 ((m_k ρ b slb (T, d, 0) p.toInt.toNat).2.1) (m_k ρ b slb (T, d, 0) p.toInt.toNat).2.2 = m_k ρ b slb (T, d, 0) (p.toInt.toNat + 1) := by
              show _ = m_0 ρ b p.toInt.toNat (m_fr ρ slb p.toInt.toNat (m_k ρ b slb (T, d, 0) p.toInt.toNat).1 (m_k ρ b slb (T, d, 0) p.toInt.toNat).2.1) (m_k ρ b slb (T, d, 0) p.toInt.toNat).1 (m_d ρ slb p.toInt.toNat (m_k ρ b slb (T, d, 0) p.toInt.toNat).1 (m_k ρ b slb (T, d, 0) p.toInt.toNat).2.1) (m_k ρ b slb (T, d, 0) p.toInt.toNat).2.2
              rw [ef, ed]
            rw [← hsp] at em
            rw [em] at y2 y3
            have ep : p9.toInt.toNat = p.toInt.toNat + 1 := by omega
            rw [← ep] at y2 y3
            have ed9 : W (100 + 6 * j) 6 = (m_k ρ b slb (T, d, 0) p9.toInt.toNat).2.1 := by
              rw [ep, show (m_k ρ b slb (T, d, 0) (p.toInt.toNat + 1)).2.1 = m_d ρ slb p.toInt.toNat (m_k ρ b slb (T, d, 0) p.toInt.toNat).1 (m_k ρ b slb (T, d, 0) p.toInt.toNat).2.1 from m_0_d _ _ _ _ _, ed]
              exact hd
            exact ih (j9 - 1) (by omega) g9 I9 W sp9 p9 (by omega) (by omega) y2 y3 ed9 (hp.mv (fun L9 h9 => y4 L9 (by omega) (by omega))) (hl.mv (y4 26 (by omega) (by omega))) ((y4 (100 + 6 * j + 3) (by omega) (by omega)).trans hO9) y5 (fun g1 I1 W1 v z1 z2 z3 z4 z5 z6 z7 z8 => hq g1 I1 W1 v z1 z2 z3 z4 z5 (fun L9 n1 n2 => (z6 L9 n1 n2).trans (y4 L9 n1 n2)) z7 ((zf.rf.tr y6).tr z8))
          · exfalso; omega
theorem z_minute (hT : k_tys tys cA) (hj_j : j < 10) {T : Nat → Int32} {d : Int64} {sl9 : Int32} {slb : Bool} (hz : zr zNC cA ad I W O h) (hp : pz I n ρ) (hl : lz I n ρ b) (hf : 2 ≤ fr) (hlo : 80 ≤ lo) (hsl : sl9.toInt = 0 ∧ slb = false ∨ sl9.toInt = 1 ∧ slb = true) (hx : m_ok n ρ T) (hOT : ∀ q, q < n → (I (100 + 6 * j + 3) q).toInt = (T (12 + q)).toInt ∧ 0 ≤ (I (100 + 6 * j + 3) q).toInt ∧ (I (100 + 6 * j + 3) q).toInt ≤ 1) (hXT : ∀ q, q < n → I (100 + 6 * j + 1) q = T q ∧ I (100 + 6 * j + 2) q = T (6 + q)) (hd : W (100 + 6 * j) 6 = d) (hq : ∀ (g : ch_H) (I1 : zI) (W1 : zW) (v : Int32), v.toInt = (m_k ρ b slb (T, d, 0) n).2.2 → (∀ q, q < n → I1 (100 + 6 * j + 1) q = (m_k ρ b slb (T, d, 0) n).1 q ∧ I1 (100 + 6 * j + 2) q = (m_k ρ b slb (T, d, 0) n).1 (6 + q)) → W1 (100 + 6 * j) 6 = (m_k ρ b slb (T, d, 0) n).2.1 → (∀ L, L ≠ (100 + 6 * j) → W1 L = W L) → (∀ k, k ≠ 6 → W1 (100 + 6 * j) k = W (100 + 6 * j) k) → (∀ L, L ≠ (100 + 6 * j + 1) → L ≠ (100 + 6 * j + 2) → I1 L = I L) → zr zNC cA ad I1 W1 O g → zf zNC ad h g → Q (some (.int v)) g) : ww l D tys A X fr lo mX9_minute Q 0 [(0, .ref (ad 4)), (1, .ref (ad 2)), (2, .ref (ad (100 + 6 * j))), (3, .int sl9)] [] h := by
  refine w_iconst (by decide) (tX9_minute_0_ok (0, .iconst 0, 1) (List.mem_of_getElem? (i := 0) rfl)) (fun zv1 ze2 => ?_)
  refine w_istore [(4, .int zv1), (0, .ref (ad 4)), (1, .ref (ad 2)), (2, .ref (ad (100 + 6 * j))), (3, .int sl9)] rfl (Nat.le_of_ble_eq_true rfl) (tX9_minute_0_ok (1, .istore 4, 2) (List.mem_of_getElem? (i := 1) rfl)) ?_
  refine w_iconst (by decide) (tX9_minute_0_ok (3, .iconst 0, 1) (List.mem_of_getElem? (i := 2) rfl)) (fun zv3 ze4 => ?_)
  refine w_istore [(5, .int zv3), (4, .int zv1), (0, .ref (ad 4)), (1, .ref (ad 2)), (2, .ref (ad (100 + 6 * j))), (3, .int sl9)] rfl (Nat.le_of_ble_eq_true rfl) (tX9_minute_0_ok (4, .istore 5, 2) (List.mem_of_getElem? (i := 3) rfl)) ?_
  refine w_lv [(4, .int zv1), (5, .int zv3), (0, .ref (ad 4)), (1, .ref (ad 2)), (2, .ref (ad (100 + 6 * j))), (3, .int sl9)] (by intro q hq; simp only [List.mem_cons, List.not_mem_nil, or_false] at hq ⊢; rcases hq with e | e | e | e | e | e <;> subst e <;> simp) ?_
  exact z_mnL hT hj_j hp.2.1 hf hlo hsl hx (fun q hq => hOT q hq) n h I W _ _ (by omega) (by omega) (by rw [show zv3.toInt.toNat = 0 by omega]; show _ = (0 : Int); omega) (by rw [show zv3.toInt.toNat = 0 by omega]; exact hXT) (by rw [show zv3.toInt.toNat = 0 by omega]; exact hd) hp hl rfl hz hq
end
