/-! rope: what is answered (made by gen_p6) -/
abbrev c9_rope (p w : Int32) (τ : aN) : Prop := (0 ≤ p.toInt ∧ p.toInt < (τ.1 : Int)) ∧ 0 ≤ w.toInt ∧ w.toInt ≤ 9
def q9_rope (p w : Nat) (τ : aN) (φ : zP) : Int := if w = 0 then φ.2.2.1 p 0 else if w = 1 then φ.2.2.1 p 1 else if w = 2 then (φ.1 56 p).toInt else if w = 3 then φ.2.2.1 p 5 else if w = 4 then φ.2.2.1 p 6 else if w = 5 then φ.2.2.1 p 8 else if w = 6 then (φ.1 56 (12 + p)).toInt else if w = 7 then (φ.1 56 (6 + p)).toInt else if w = 8 then m_pu φ.2.2.1 (kb τ φ) p (φ.1 56 p).toInt else φ.2.2.1 p 7
section
variable {l : Launch} {D : va_G} {tys : List (ClassId × FieldType)} {A : Nat → Prop} {X : State → Prop} {fr lo : Nat} {M : ch_M} {Q : Option Value → ch_H → Prop} {pc : Nat} {lv : List (Nat × Value)} {st : List Value} {cA : Nat → ClassId} {h : ch_H} {ad : Nat → Nat} {I I1 : zI} {W W1 : zW} {O : zO} {n j pe ga : Nat} {T T1 : Nat → Int32} {d d1 : Int64} {τ : aN} {φ : zP}
theorem z9q_pullNow (hT : k_tys tys cA) {p : Int32} (hz : zr zNC cA ad I W O h) (hk : kok τ φ) (H : cS τ φ I W) (hf : 4 ≤ fr) (hlo : 100 ≤ lo) (h0 : 0 ≤ p.toInt ∧ p.toInt < (τ.1 : Int)) (hq : ∀ (g : ch_H) (v : Int32), v.toInt = m_pu φ.2.2.1 (kb τ φ) p.toInt.toNat (φ.1 56 p.toInt.toNat).toInt → Q (some (.int v)) g) : ww l D tys A X fr lo mX10_pullNow Q 0 [(0, .ref (ad 0)), (1, .int p)] [] h := by
  have n6 := hk.1.1
  obtain ⟨ga6, pe8, ta6⟩ := hk.2.2.2.1
  obtain ⟨h1, ⟨h21, h22, h23⟩, h3, h4, h5, h6, h7, h8, h9, h10, h11⟩ := id H
  have r0 := h1.1
  refine w_aload_n (List.Mem.head _) (tX10_pullNow_0_ok (0, .aload_n 0, 1) (List.mem_of_getElem? (i := 0) rfl)) ?_
  refine z_getR (L1 := 4) (own := 15) (k := 9) hz rfl rfl rfl rfl rfl rfl rfl (by decide) (tX10_pullNow_0_ok (1, .getfield 49, 3) (List.mem_of_getElem? (i := 1) rfl)) ?_
  refine w_aload_n (List.Mem.head _) (tX10_pullNow_0_ok (4, .aload_n 0, 1) (List.mem_of_getElem? (i := 2) rfl)) ?_
  refine z_getR (L1 := 2) (own := 15) (k := 1) hz rfl rfl rfl rfl rfl rfl rfl (by decide) (tX10_pullNow_0_ok (5, .getfield 19, 3) (List.mem_of_getElem? (i := 3) rfl)) ?_
  refine w_aload_n (List.Mem.head _) (tX10_pullNow_0_ok (8, .aload_n 0, 1) (List.mem_of_getElem? (i := 4) rfl)) ?_
  refine z_getR (L1 := 100) (own := 15) (k := 3) hz rfl rfl rfl rfl rfl rfl rfl (by decide) (tX10_pullNow_0_ok (9, .getfield 29, 3) (List.mem_of_getElem? (i := 5) rfl)) ?_
  refine w_aload_n (List.Mem.head _) (tX10_pullNow_0_ok (12, .aload_n 0, 1) (List.mem_of_getElem? (i := 6) rfl)) ?_
  refine z_getR (L1 := 3) (own := 15) (k := 8) hz rfl rfl rfl rfl rfl rfl rfl (by decide) (tX10_pullNow_0_ok (13, .getfield 42, 3) (List.mem_of_getElem? (i := 7) rfl)) ?_
  refine w_callV (own := 15) (mi := 100) [.ref (ad 2), .ref (ad 100), .ref (ad 3)] [] [(0, .ref (ad 4)), (1, .ref (ad 2)), (2, .ref (ad 100)), (3, .ref (ad 3))] rfl (cllw_X10 (194, 0, 100) (List.mem_of_getElem? (i := 12) rfl)) rfl rfl (hz.ob rfl rfl) rfl (by omega) (w_lo (n := 28) rfl (by omega)) (Nat.le_of_ble_eq_true rfl) (Nat.le_of_ble_eq_true rfl) rfl (tX10_pullNow_0_ok (16, .invokevirtual 194, 3) (List.mem_of_getElem? (i := 8) rfl)) (z_weigh hT (j := 0) (T := φ.1 56) (Wt := φ.1 62) (by decide) hz h1 ⟨h22, pe8⟩ hk.bo h3.2.1 h3.2.2.1 h6 (by omega) (w_sub (n := 28) rfl (by omega)) (fun g1 I1 w1 w2 w3 w4 w5 => ?_))
  show ww l D tys A X fr lo mX10_pullNow Q 19 [(0, .ref (ad 0)), (1, .int p)] [] g1
  refine w_aload_n (List.Mem.head _) (tX10_pullNow_0_ok (19, .aload_n 0, 1) (List.mem_of_getElem? (i := 9) rfl)) ?_
  refine z_getR (L1 := 4) (own := 15) (k := 9) w4 rfl rfl rfl rfl rfl rfl rfl (by decide) (tX10_pullNow_0_ok (20, .getfield 49, 3) (List.mem_of_getElem? (i := 10) rfl)) ?_
  refine w_aload_n (List.Mem.head _) (tX10_pullNow_0_ok (23, .aload_n 0, 1) (List.mem_of_getElem? (i := 11) rfl)) ?_
  refine z_getR (L1 := 2) (own := 15) (k := 1) w4 rfl rfl rfl rfl rfl rfl rfl (by decide) (tX10_pullNow_0_ok (24, .getfield 19, 3) (List.mem_of_getElem? (i := 12) rfl)) ?_
  refine w_iload_n (List.Mem.tail _ (List.Mem.head _)) (tX10_pullNow_0_ok (27, .iload_n 1, 1) (List.mem_of_getElem? (i := 13) rfl)) ?_
  refine w_aload_n (List.Mem.head _) (tX10_pullNow_0_ok (28, .aload_n 0, 1) (List.mem_of_getElem? (i := 14) rfl)) ?_
  refine z_getR (L1 := 100) (own := 15) (k := 3) w4 rfl rfl rfl rfl rfl rfl rfl (by decide) (tX10_pullNow_0_ok (29, .getfield 29, 3) (List.mem_of_getElem? (i := 15) rfl)) ?_
  refine z_getR (L1 := 101) (own := 15) (k := 0) w4 rfl rfl rfl rfl rfl rfl rfl (by decide) (tX10_pullNow_0_ok (32, .getfield 169, 3) (List.mem_of_getElem? (i := 16) rfl)) ?_
  refine w_iload_n (List.Mem.tail _ (List.Mem.head _)) (tX10_pullNow_0_ok (35, .iload_n 1, 1) (List.mem_of_getElem? (i := 17) rfl)) ?_
  refine z_iald (f := (I1 101)) hT w4 rfl rfl rfl (by omega) (by omega) (tX10_pullNow_0_ok (36, .iaload, 1) (List.mem_of_getElem? (i := 18) rfl)) (fun zv1 zu2 => ?_)
  have ze3 : zv1.toInt = ((I1 101) p.toInt.toNat).toInt := congrArg _ zu2
  have ex : zv1 = φ.1 56 p.toInt.toNat := by
    rw [zu2, w3 101 (by decide) (by decide)]
    exact (h3.1 _ (by omega)).1
  refine w_callV (own := 15) (mi := 95) [.ref (ad 2), .int p, .int zv1] [] [(0, .ref (ad 4)), (1, .ref (ad 2)), (2, .int p), (3, .int zv1)] rfl (cllw_X10 (198, 0, 95) (List.mem_of_getElem? (i := 36) rfl)) rfl rfl (w4.ob rfl rfl) rfl (by omega) (w_lo (n := 23) rfl (by omega)) (Nat.le_of_ble_eq_true rfl) (Nat.le_of_ble_eq_true rfl) rfl (tX10_pullNow_0_ok (37, .invokevirtual 198, 3) (List.mem_of_getElem? (i := 19) rfl)) (z_pull hT w4 (h1.mv (fun L hL => w3 L (by omega) (by omega))) w2 h0 (by rw [ex]; exact hk.2.1.1 _ (by omega)) (fun zv4 ze5 => ?_))
  show ww l D tys A X fr lo mX10_pullNow Q 40 [(0, .ref (ad 0)), (1, .int p)] [.int zv4] g1
  rw [ex] at ze5
  refine w_iret rfl (tX10_pullNow_0_ok (40, .ireturn, 1) (List.mem_of_getElem? (i := 20) rfl)) ?_
  exact hq _ _ ze5
theorem z9q_rope (hT : k_tys tys cA) {p w : Int32} (hz : zr zNC cA ad I W O h) (hk : kok τ φ) (H : cS τ φ I W) (hf : 6 ≤ fr) (hlo : 140 ≤ lo) (h0 : c9_rope p w τ) (hq : ∀ (g : ch_H) (v : Int32), v.toInt = (q9_rope p.toInt.toNat w.toInt.toNat τ φ) → Q (some (.int v)) g) : ww l D tys A X fr lo mX10_rope Q 28 [(0, .ref (ad 0)), (1, .int p), (2, .int w)] [] h := by
  have n6 := hk.1.1
  obtain ⟨ga6, pe8, ta6⟩ := hk.2.2.2.1
  obtain ⟨h1, ⟨h21, h22, h23⟩, h3, h4, h5, h6, h7, h8, h9, h10, h11⟩ := id H
  have r0 := h1.1
  refine w_iload_n (List.Mem.tail _ (List.Mem.tail _ (List.Mem.head _))) (tX10_rope_0_ok (28, .iload_n 2, 1) (List.mem_of_getElem? (i := 14) rfl)) ?_
  have zb1 : (w.toInt < 0 ∨ 8 < w.toInt) ∨ w.toInt = 0 ∨ w.toInt = 1 ∨ w.toInt = 2 ∨ w.toInt = 3 ∨ w.toInt = 4 ∨ w.toInt = 5 ∨ w.toInt = 6 ∨ w.toInt = 7 ∨ w.toInt = 8 := by omega
  rcases zb1 with zb1 | zb1 | zb1 | zb1 | zb1 | zb1 | zb1 | zb1 | zb1 | zb1
  · refine w_tabOut (tgt := 174) (tX10_rope_0_ok (29, .tableswitch 145 0 8 #[51, 61, 71, 81, 91, 101, 111, 129, 139], 51) (List.mem_of_getElem? (i := 15) rfl)) zb1 rfl ?_
    refine w_aload_n (List.Mem.head _) (tX10_rope_1_ok (174, .aload_n 0, 1) (List.mem_of_getElem? (i := 12) rfl)) ?_
    refine z_getR (L1 := 2) (own := 15) (k := 1) hz rfl rfl rfl rfl rfl rfl rfl (by decide) (tX10_rope_1_ok (175, .getfield 19, 3) (List.mem_of_getElem? (i := 13) rfl)) ?_
    refine z_getR (L1 := 17) (own := 15) (k := 7) hz rfl rfl rfl rfl rfl rfl rfl (by decide) (tX10_rope_1_ok (178, .getfield 191, 3) (List.mem_of_getElem? (i := 14) rfl)) ?_
    refine w_iload_n (List.Mem.tail _ (List.Mem.head _)) (tX10_rope_1_ok (181, .iload_n 1, 1) (List.mem_of_getElem? (i := 15) rfl)) ?_
    refine z_iald (f := (I 17)) hT hz rfl rfl rfl (by omega) (by omega) (tX10_rope_1_ok (182, .iaload, 1) (List.mem_of_getElem? (i := 16) rfl)) (fun zv2 zu3 => ?_)
    have ze4 : zv2.toInt = ((I 17) p.toInt.toNat).toInt := congrArg _ zu3
    refine w_iret rfl (tX10_rope_1_ok (183, .ireturn, 1) (List.mem_of_getElem? (i := 17) rfl)) ?_
    refine hq _ _ ?_
    unfold q9_rope
    rw [if_neg (by omega)]
    rw [if_neg (by omega)]
    rw [if_neg (by omega)]
    rw [if_neg (by omega)]
    rw [if_neg (by omega)]
    rw [if_neg (by omega)]
    rw [if_neg (by omega)]
    rw [if_neg (by omega)]
    rw [if_neg (by omega)]
    rw [zu3]
    exact (h1.2.2 _ (by omega)).2.2.2.2.2.2.2.1
  · refine w_tabIn (tgt := 80) (tX10_rope_0_ok (29, .tableswitch 145 0 8 #[51, 61, 71, 81, 91, 101, 111, 129, 139], 51) (List.mem_of_getElem? (i := 15) rfl)) zb1 (by decide) (by decide) rfl rfl ?_
    refine w_aload_n (List.Mem.head _) (tX10_rope_0_ok (80, .aload_n 0, 1) (List.mem_of_getElem? (i := 16) rfl)) ?_
    refine z_getR (L1 := 2) (own := 15) (k := 1) hz rfl rfl rfl rfl rfl rfl rfl (by decide) (tX10_rope_0_ok (81, .getfield 19, 3) (List.mem_of_getElem? (i := 17) rfl)) ?_
    refine z_getR (L1 := 11) (own := 15) (k := 1) hz rfl rfl rfl rfl rfl rfl rfl (by decide) (tX10_rope_0_ok (84, .getfield 164, 3) (List.mem_of_getElem? (i := 18) rfl)) ?_
    refine w_iload_n (List.Mem.tail _ (List.Mem.head _)) (tX10_rope_0_ok (87, .iload_n 1, 1) (List.mem_of_getElem? (i := 19) rfl)) ?_
    refine z_iald (f := (I 11)) hT hz rfl rfl rfl (by omega) (by omega) (tX10_rope_0_ok (88, .iaload, 1) (List.mem_of_getElem? (i := 20) rfl)) (fun zv5 zu6 => ?_)
    have ze7 : zv5.toInt = ((I 11) p.toInt.toNat).toInt := congrArg _ zu6
    refine w_iret rfl (tX10_rope_0_ok (89, .ireturn, 1) (List.mem_of_getElem? (i := 21) rfl)) ?_
    refine hq _ _ ?_
    unfold q9_rope
    rw [if_pos (by omega)]
    rw [zu6]
    exact (h1.2.2 _ (by omega)).1
  · refine w_tabIn (tgt := 90) (tX10_rope_0_ok (29, .tableswitch 145 0 8 #[51, 61, 71, 81, 91, 101, 111, 129, 139], 51) (List.mem_of_getElem? (i := 15) rfl)) zb1 (by decide) (by decide) rfl rfl ?_
    refine w_aload_n (List.Mem.head _) (tX10_rope_0_ok (90, .aload_n 0, 1) (List.mem_of_getElem? (i := 22) rfl)) ?_
    refine z_getR (L1 := 2) (own := 15) (k := 1) hz rfl rfl rfl rfl rfl rfl rfl (by decide) (tX10_rope_0_ok (91, .getfield 19, 3) (List.mem_of_getElem? (i := 23) rfl)) ?_
    refine z_getR (L1 := 12) (own := 15) (k := 2) hz rfl rfl rfl rfl rfl rfl rfl (by decide) (tX10_rope_0_ok (94, .getfield 167, 3) (List.mem_of_getElem? (i := 24) rfl)) ?_
    refine w_iload_n (List.Mem.tail _ (List.Mem.head _)) (tX10_rope_0_ok (97, .iload_n 1, 1) (List.mem_of_getElem? (i := 25) rfl)) ?_
    refine z_iald (f := (I 12)) hT hz rfl rfl rfl (by omega) (by omega) (tX10_rope_0_ok (98, .iaload, 1) (List.mem_of_getElem? (i := 26) rfl)) (fun zv8 zu9 => ?_)
    have ze10 : zv8.toInt = ((I 12) p.toInt.toNat).toInt := congrArg _ zu9
    refine w_iret rfl (tX10_rope_0_ok (99, .ireturn, 1) (List.mem_of_getElem? (i := 27) rfl)) ?_
    refine hq _ _ ?_
    unfold q9_rope
    rw [if_neg (by omega)]
    rw [if_pos (by omega)]
    rw [zu9]
    exact (h1.2.2 _ (by omega)).2.1
  · refine w_tabIn (tgt := 100) (tX10_rope_0_ok (29, .tableswitch 145 0 8 #[51, 61, 71, 81, 91, 101, 111, 129, 139], 51) (List.mem_of_getElem? (i := 15) rfl)) zb1 (by decide) (by decide) rfl rfl ?_
    refine w_aload_n (List.Mem.head _) (tX10_rope_0_ok (100, .aload_n 0, 1) (List.mem_of_getElem? (i := 28) rfl)) ?_
    refine z_getR (L1 := 100) (own := 15) (k := 3) hz rfl rfl rfl rfl rfl rfl rfl (by decide) (tX10_rope_0_ok (101, .getfield 29, 3) (List.mem_of_getElem? (i := 29) rfl)) ?_
    refine z_getR (L1 := 101) (own := 15) (k := 0) hz rfl rfl rfl rfl rfl rfl rfl (by decide) (tX10_rope_0_ok (104, .getfield 169, 3) (List.mem_of_getElem? (i := 30) rfl)) ?_
    refine w_iload_n (List.Mem.tail _ (List.Mem.head _)) (tX10_rope_0_ok (107, .iload_n 1, 1) (List.mem_of_getElem? (i := 31) rfl)) ?_
    refine z_iald (f := (I 101)) hT hz rfl rfl rfl (by omega) (by omega) (tX10_rope_0_ok (108, .iaload, 1) (List.mem_of_getElem? (i := 32) rfl)) (fun zv11 zu12 => ?_)
    have ze13 : zv11.toInt = ((I 101) p.toInt.toNat).toInt := congrArg _ zu12
    refine w_iret rfl (tX10_rope_0_ok (109, .ireturn, 1) (List.mem_of_getElem? (i := 33) rfl)) ?_
    refine hq _ _ ?_
    unfold q9_rope
    rw [if_neg (by omega)]
    rw [if_neg (by omega)]
    rw [if_pos (by omega)]
    rw [zu12, (h3.1 _ (by omega)).1]
  · refine w_tabIn (tgt := 110) (tX10_rope_0_ok (29, .tableswitch 145 0 8 #[51, 61, 71, 81, 91, 101, 111, 129, 139], 51) (List.mem_of_getElem? (i := 15) rfl)) zb1 (by decide) (by decide) rfl rfl ?_
    refine w_aload_n (List.Mem.head _) (tX10_rope_0_ok (110, .aload_n 0, 1) (List.mem_of_getElem? (i := 34) rfl)) ?_
    refine z_getR (L1 := 2) (own := 15) (k := 1) hz rfl rfl rfl rfl rfl rfl rfl (by decide) (tX10_rope_0_ok (111, .getfield 19, 3) (List.mem_of_getElem? (i := 35) rfl)) ?_
    refine z_getR (L1 := 15) (own := 15) (k := 5) hz rfl rfl rfl rfl rfl rfl rfl (by decide) (tX10_rope_0_ok (114, .getfield 172, 3) (List.mem_of_getElem? (i := 36) rfl)) ?_
    refine w_iload_n (List.Mem.tail _ (List.Mem.head _)) (tX10_rope_0_ok (117, .iload_n 1, 1) (List.mem_of_getElem? (i := 37) rfl)) ?_
    refine z_iald (f := (I 15)) hT hz rfl rfl rfl (by omega) (by omega) (tX10_rope_0_ok (118, .iaload, 1) (List.mem_of_getElem? (i := 38) rfl)) (fun zv14 zu15 => ?_)
    have ze16 : zv14.toInt = ((I 15) p.toInt.toNat).toInt := congrArg _ zu15
    refine w_iret rfl (tX10_rope_0_ok (119, .ireturn, 1) (List.mem_of_getElem? (i := 39) rfl)) ?_
    refine hq _ _ ?_
    unfold q9_rope
    rw [if_neg (by omega)]
    rw [if_neg (by omega)]
    rw [if_neg (by omega)]
    rw [if_pos (by omega)]
    rw [zu15]
    exact (h1.2.2 _ (by omega)).2.2.2.2.2.1
  · refine w_tabIn (tgt := 120) (tX10_rope_0_ok (29, .tableswitch 145 0 8 #[51, 61, 71, 81, 91, 101, 111, 129, 139], 51) (List.mem_of_getElem? (i := 15) rfl)) zb1 (by decide) (by decide) rfl rfl ?_
    refine w_aload_n (List.Mem.head _) (tX10_rope_0_ok (120, .aload_n 0, 1) (List.mem_of_getElem? (i := 40) rfl)) ?_
    refine z_getR (L1 := 2) (own := 15) (k := 1) hz rfl rfl rfl rfl rfl rfl rfl (by decide) (tX10_rope_0_ok (121, .getfield 19, 3) (List.mem_of_getElem? (i := 41) rfl)) ?_
    refine z_getR (L1 := 16) (own := 15) (k := 6) hz rfl rfl rfl rfl rfl rfl rfl (by decide) (tX10_rope_0_ok (124, .getfield 175, 3) (List.mem_of_getElem? (i := 42) rfl)) ?_
    refine w_iload_n (List.Mem.tail _ (List.Mem.head _)) (tX10_rope_0_ok (127, .iload_n 1, 1) (List.mem_of_getElem? (i := 43) rfl)) ?_
    refine z_iald (f := (I 16)) hT hz rfl rfl rfl (by omega) (by omega) (tX10_rope_0_ok (128, .iaload, 1) (List.mem_of_getElem? (i := 44) rfl)) (fun zv17 zu18 => ?_)
    have ze19 : zv17.toInt = ((I 16) p.toInt.toNat).toInt := congrArg _ zu18
    refine w_iret rfl (tX10_rope_0_ok (129, .ireturn, 1) (List.mem_of_getElem? (i := 45) rfl)) ?_
    refine hq _ _ ?_
    unfold q9_rope
    rw [if_neg (by omega)]
    rw [if_neg (by omega)]
    rw [if_neg (by omega)]
    rw [if_neg (by omega)]
    rw [if_pos (by omega)]
    rw [zu18]
    exact (h1.2.2 _ (by omega)).2.2.2.2.2.2.1
  · refine w_tabIn (tgt := 130) (tX10_rope_0_ok (29, .tableswitch 145 0 8 #[51, 61, 71, 81, 91, 101, 111, 129, 139], 51) (List.mem_of_getElem? (i := 15) rfl)) zb1 (by decide) (by decide) rfl rfl ?_
    refine w_aload_n (List.Mem.head _) (tX10_rope_0_ok (130, .aload_n 0, 1) (List.mem_of_getElem? (i := 46) rfl)) ?_
    refine z_getR (L1 := 2) (own := 15) (k := 1) hz rfl rfl rfl rfl rfl rfl rfl (by decide) (tX10_rope_0_ok (131, .getfield 19, 3) (List.mem_of_getElem? (i := 47) rfl)) ?_
    refine z_getR (L1 := 18) (own := 15) (k := 8) hz rfl rfl rfl rfl rfl rfl rfl (by decide) (tX10_rope_0_ok (134, .getfield 178, 3) (List.mem_of_getElem? (i := 48) rfl)) ?_
    refine w_iload_n (List.Mem.tail _ (List.Mem.head _)) (tX10_rope_0_ok (137, .iload_n 1, 1) (List.mem_of_getElem? (i := 49) rfl)) ?_
    refine z_iald (f := (I 18)) hT hz rfl rfl rfl (by omega) (by omega) (tX10_rope_0_ok (138, .iaload, 1) (List.mem_of_getElem? (i := 50) rfl)) (fun zv20 zu21 => ?_)
    have ze22 : zv20.toInt = ((I 18) p.toInt.toNat).toInt := congrArg _ zu21
    refine w_iret rfl (tX10_rope_0_ok (139, .ireturn, 1) (List.mem_of_getElem? (i := 51) rfl)) ?_
    refine hq _ _ ?_
    unfold q9_rope
    rw [if_neg (by omega)]
    rw [if_neg (by omega)]
    rw [if_neg (by omega)]
    rw [if_neg (by omega)]
    rw [if_neg (by omega)]
    rw [if_pos (by omega)]
    rw [zu21]
    exact (h1.2.2 _ (by omega)).2.2.2.2.2.2.2.2
  · refine w_tabIn (tgt := 140) (tX10_rope_0_ok (29, .tableswitch 145 0 8 #[51, 61, 71, 81, 91, 101, 111, 129, 139], 51) (List.mem_of_getElem? (i := 15) rfl)) zb1 (by decide) (by decide) rfl rfl ?_
    refine w_aload_n (List.Mem.head _) (tX10_rope_0_ok (140, .aload_n 0, 1) (List.mem_of_getElem? (i := 52) rfl)) ?_
    refine z_getR (L1 := 100) (own := 15) (k := 3) hz rfl rfl rfl rfl rfl rfl rfl (by decide) (tX10_rope_0_ok (141, .getfield 29, 3) (List.mem_of_getElem? (i := 53) rfl)) ?_
    refine z_getR (L1 := 103) (own := 15) (k := 2) hz rfl rfl rfl rfl rfl rfl rfl (by decide) (tX10_rope_0_ok (144, .getfield 181, 3) (List.mem_of_getElem? (i := 54) rfl)) ?_
    refine w_iload_n (List.Mem.tail _ (List.Mem.head _)) (tX10_rope_0_ok (147, .iload_n 1, 1) (List.mem_of_getElem? (i := 55) rfl)) ?_
    refine z_zald (f := (I 103)) hT hz rfl rfl rfl (by omega) (by omega) (tX10_rope_0_ok (148, .baload, 1) (List.mem_of_getElem? (i := 56) rfl)) (fun zv23 zu24 => ?_)
    have ze25 : zv23.toInt = ((I 103) p.toInt.toNat).toInt := congrArg _ zu24
    refine w_if_eq (tgt := 156) (tX10_rope_0_ok (149, .ifCond .eq 7, 3) (List.mem_of_getElem? (i := 57) rfl)) rfl (fun zb26 => ?_) (fun zb26 => ?_)
    · refine w_iconst (by decide) (tX10_rope_1_ok (156, .iconst 0, 1) (List.mem_of_getElem? (i := 0) rfl)) (fun zv27 ze28 => ?_)
      refine w_iret rfl (tX10_rope_1_ok (157, .ireturn, 1) (List.mem_of_getElem? (i := 1) rfl)) ?_
      refine hq _ _ ?_
      unfold q9_rope
      rw [if_neg (by omega)]
      rw [if_neg (by omega)]
      rw [if_neg (by omega)]
      rw [if_neg (by omega)]
      rw [if_neg (by omega)]
      rw [if_neg (by omega)]
      rw [if_pos (by omega)]
      have eo := congrArg Int32.toInt (h3.1 p.toInt.toNat (by omega)).2.2
      have eo : (I 103 p.toInt.toNat).toInt = (φ.1 56 (12 + p.toInt.toNat)).toInt := eo
      have bo := hk.2.1.2.2.1 p.toInt.toNat (by omega)
      omega
    · refine w_iconst (by decide) (tX10_rope_0_ok (152, .iconst 1, 1) (List.mem_of_getElem? (i := 58) rfl)) (fun zv29 ze30 => ?_)
      refine w_goto (tgt := 157) (tX10_rope_0_ok (153, .goto 4, 3) (List.mem_of_getElem? (i := 59) rfl)) rfl ?_
      refine w_iret rfl (tX10_rope_1_ok (157, .ireturn, 1) (List.mem_of_getElem? (i := 1) rfl)) ?_
      refine hq _ _ ?_
      unfold q9_rope
      rw [if_neg (by omega)]
      rw [if_neg (by omega)]
      rw [if_neg (by omega)]
      rw [if_neg (by omega)]
      rw [if_neg (by omega)]
      rw [if_neg (by omega)]
      rw [if_pos (by omega)]
      have eo := congrArg Int32.toInt (h3.1 p.toInt.toNat (by omega)).2.2
      have eo : (I 103 p.toInt.toNat).toInt = (φ.1 56 (12 + p.toInt.toNat)).toInt := eo
      have bo := hk.2.1.2.2.1 p.toInt.toNat (by omega)
      omega
  · refine w_tabIn (tgt := 158) (tX10_rope_0_ok (29, .tableswitch 145 0 8 #[51, 61, 71, 81, 91, 101, 111, 129, 139], 51) (List.mem_of_getElem? (i := 15) rfl)) zb1 (by decide) (by decide) rfl rfl ?_
    refine w_aload_n (List.Mem.head _) (tX10_rope_1_ok (158, .aload_n 0, 1) (List.mem_of_getElem? (i := 2) rfl)) ?_
    refine z_getR (L1 := 100) (own := 15) (k := 3) hz rfl rfl rfl rfl rfl rfl rfl (by decide) (tX10_rope_1_ok (159, .getfield 29, 3) (List.mem_of_getElem? (i := 3) rfl)) ?_
    refine z_getR (L1 := 102) (own := 15) (k := 1) hz rfl rfl rfl rfl rfl rfl rfl (by decide) (tX10_rope_1_ok (162, .getfield 185, 3) (List.mem_of_getElem? (i := 4) rfl)) ?_
    refine w_iload_n (List.Mem.tail _ (List.Mem.head _)) (tX10_rope_1_ok (165, .iload_n 1, 1) (List.mem_of_getElem? (i := 5) rfl)) ?_
    refine z_iald (f := (I 102)) hT hz rfl rfl rfl (by omega) (by omega) (tX10_rope_1_ok (166, .iaload, 1) (List.mem_of_getElem? (i := 6) rfl)) (fun zv31 zu32 => ?_)
    have ze33 : zv31.toInt = ((I 102) p.toInt.toNat).toInt := congrArg _ zu32
    refine w_iret rfl (tX10_rope_1_ok (167, .ireturn, 1) (List.mem_of_getElem? (i := 7) rfl)) ?_
    refine hq _ _ ?_
    unfold q9_rope
    rw [if_neg (by omega)]
    rw [if_neg (by omega)]
    rw [if_neg (by omega)]
    rw [if_neg (by omega)]
    rw [if_neg (by omega)]
    rw [if_neg (by omega)]
    rw [if_neg (by omega)]
    rw [if_pos (by omega)]
    rw [zu32, (h3.1 _ (by omega)).2.1]
  · refine w_tabIn (tgt := 168) (tX10_rope_0_ok (29, .tableswitch 145 0 8 #[51, 61, 71, 81, 91, 101, 111, 129, 139], 51) (List.mem_of_getElem? (i := 15) rfl)) zb1 (by decide) (by decide) rfl rfl ?_
    refine w_aload_n (List.Mem.head _) (tX10_rope_1_ok (168, .aload_n 0, 1) (List.mem_of_getElem? (i := 8) rfl)) ?_
    refine w_iload_n (List.Mem.tail _ (List.Mem.head _)) (tX10_rope_1_ok (169, .iload_n 1, 1) (List.mem_of_getElem? (i := 9) rfl)) ?_
    refine w_callV (own := 15) (mi := 135) [.int p] [] [(0, .ref (ad 0)), (1, .int p)] rfl (cllw_X10 (188, 0, 135) (List.mem_of_getElem? (i := 43) rfl)) rfl rfl (hz.ob rfl rfl) rfl (by omega) (w_lo (n := 21) rfl (by omega)) (Nat.le_of_ble_eq_true rfl) (Nat.le_of_ble_eq_true rfl) rfl (tX10_rope_1_ok (170, .invokevirtual 188, 3) (List.mem_of_getElem? (i := 10) rfl)) (z9q_pullNow hT hz hk H (by omega) (w_sub (n := 21) rfl (by omega)) h0.1 (fun g1 v1 e1 => ?_))
    show ww l D tys A X fr lo mX10_rope Q 173 [(0, .ref (ad 0)), (1, .int p), (2, .int w)] [.int v1] g1
    refine w_iret rfl (tX10_rope_1_ok (173, .ireturn, 1) (List.mem_of_getElem? (i := 11) rfl)) ?_
    refine hq _ _ ?_
    unfold q9_rope
    rw [if_neg (by omega)]
    rw [if_neg (by omega)]
    rw [if_neg (by omega)]
    rw [if_neg (by omega)]
    rw [if_neg (by omega)]
    rw [if_neg (by omega)]
    rw [if_neg (by omega)]
    rw [if_neg (by omega)]
    rw [if_pos (by omega)]
    exact e1
theorem y9q_rope27 (hT : k_tys tys cA) {p w : Int32} (hz : zr zNM cA ad I W O h) (hk : kok τ φ) (H : rS τ φ I W) (hf : 40 ≤ fr) (hlo : 1000 ≤ lo) (hbo : ¬ τ.1 = 0 → bo (I 55) (I 56) (I 62) τ.2.2.1 τ.1) (h0 : (I 50 0).toInt = 0 ∧ c9_rope p w τ ∨ (I 50 0).toInt = 1 ∧ ¬ c9_rope p w τ) (hq : ∀ v : Int32, (c9_rope p w τ ∧ v.toInt = (q9_rope p.toInt.toNat w.toInt.toNat τ φ) ∨ ¬ c9_rope p w τ ∧ v.toInt = 0) → Q (some (.int v)) h) : ww l D tys A X fr lo mX11_rope Q 27 [(0, .ref (ad 50)), (1, .int p), (2, .int w)] [] h := by
  have n6 := hk.1.1
  obtain ⟨ga6, pe8, ta6⟩ := hk.2.2.2.1
  obtain ⟨h1, ⟨h21, h22, h23⟩, ⟨h3, h32⟩, h4, h5, h6, h7, h8, h9, h10, h11⟩ := id H
  have r0 := h1.1
  refine w_aload_n (List.Mem.head _) (tX11_rope_0_ok (27, .aload_n 0, 1) (List.mem_of_getElem? (i := 14) rfl)) ?_
  refine z_get (f := (I 50)) (own := 16) (k := 0) hz rfl rfl rfl rfl rfl rfl rfl (by decide) (tX11_rope_0_ok (28, .getfield 85, 3) (List.mem_of_getElem? (i := 15) rfl)) ?_
  refine w_if_le (tgt := 36) (tX11_rope_0_ok (31, .ifCond .le 5, 3) (List.mem_of_getElem? (i := 16) rfl)) rfl (fun zb1 => ?_) (fun zb1 => ?_)
  · have c9 : c9_rope p w τ := by
      rcases h0 with ⟨-, d⟩ | ⟨d, -⟩
      · exact d
      · exfalso
        omega
    have c91 := c9.1
    have c92 := c9.2
    refine w_iload_n (List.Mem.tail _ (List.Mem.tail _ (List.Mem.head _))) (tX11_rope_0_ok (36, .iload_n 2, 1) (List.mem_of_getElem? (i := 19) rfl)) ?_
    have zb2 : (w.toInt < 0 ∨ 8 < w.toInt) ∨ w.toInt = 0 ∨ w.toInt = 1 ∨ w.toInt = 2 ∨ w.toInt = 3 ∨ w.toInt = 4 ∨ w.toInt = 5 ∨ w.toInt = 6 ∨ w.toInt = 7 ∨ w.toInt = 8 := by omega
    rcases zb2 with zb2 | zb2 | zb2 | zb2 | zb2 | zb2 | zb2 | zb2 | zb2 | zb2
    · refine w_tabOut (tgt := 158) (tX11_rope_0_ok (37, .tableswitch 121 0 8 #[51, 58, 65, 72, 79, 87, 95, 105, 115], 51) (List.mem_of_getElem? (i := 20) rfl)) zb2 rfl ?_
      refine w_aload_n (List.Mem.head _) (tX11_rope_1_ok (158, .aload_n 0, 1) (List.mem_of_getElem? (i := 9) rfl)) ?_
      refine w_iload_n (List.Mem.tail _ (List.Mem.head _)) (tX11_rope_1_ok (159, .iload_n 1, 1) (List.mem_of_getElem? (i := 10) rfl)) ?_
      refine w_bipush (by decide) (tX11_rope_1_ok (160, .bipush 7, 2) (List.mem_of_getElem? (i := 11) rfl)) (fun zv3 ze4 => ?_)
      refine w_callV (own := 16) (mi := 219) [.int p, .int zv3] [] [(0, .ref (ad 50)), (1, .int p), (2, .int zv3)] rfl (cllw_X11 (255, 0, 219) (List.mem_of_getElem? (i := 34) rfl)) rfl rfl (hz.ob rfl rfl) rfl (by omega) (w_lo (n := 22) rfl (by omega)) (Nat.le_of_ble_eq_true rfl) (Nat.le_of_ble_eq_true rfl) rfl (tX11_rope_1_ok (162, .invokevirtual 255, 3) (List.mem_of_getElem? (i := 12) rfl)) (y_of hT hz h1 ⟨by omega, by omega⟩ (by omega) (fun zv5 ze6 => ?_))
      show ww l D tys A X fr lo mX11_rope Q 165 [(0, .ref (ad 50)), (1, .int p), (2, .int w)] [.int zv5] h
      refine w_iret rfl (tX11_rope_1_ok (165, .ireturn, 1) (List.mem_of_getElem? (i := 13) rfl)) ?_
      refine hq _ (Or.inl ⟨c9, ?_⟩)
      unfold q9_rope
      rw [if_neg (by omega)]
      rw [if_neg (by omega)]
      rw [if_neg (by omega)]
      rw [if_neg (by omega)]
      rw [if_neg (by omega)]
      rw [if_neg (by omega)]
      rw [if_neg (by omega)]
      rw [if_neg (by omega)]
      rw [if_neg (by omega)]
      rw [show zv3.toInt.toNat = 7 by omega] at ze6
      exact ze6
    · refine w_tabIn (tgt := 88) (tX11_rope_0_ok (37, .tableswitch 121 0 8 #[51, 58, 65, 72, 79, 87, 95, 105, 115], 51) (List.mem_of_getElem? (i := 20) rfl)) zb2 (by decide) (by decide) rfl rfl ?_
      refine w_aload_n (List.Mem.head _) (tX11_rope_0_ok (88, .aload_n 0, 1) (List.mem_of_getElem? (i := 21) rfl)) ?_
      refine w_iload_n (List.Mem.tail _ (List.Mem.head _)) (tX11_rope_0_ok (89, .iload_n 1, 1) (List.mem_of_getElem? (i := 22) rfl)) ?_
      refine w_iconst (by decide) (tX11_rope_0_ok (90, .iconst 0, 1) (List.mem_of_getElem? (i := 23) rfl)) (fun zv7 ze8 => ?_)
      refine w_callV (own := 16) (mi := 219) [.int p, .int zv7] [] [(0, .ref (ad 50)), (1, .int p), (2, .int zv7)] rfl (cllw_X11 (255, 0, 219) (List.mem_of_getElem? (i := 34) rfl)) rfl rfl (hz.ob rfl rfl) rfl (by omega) (w_lo (n := 22) rfl (by omega)) (Nat.le_of_ble_eq_true rfl) (Nat.le_of_ble_eq_true rfl) rfl (tX11_rope_0_ok (91, .invokevirtual 255, 3) (List.mem_of_getElem? (i := 24) rfl)) (y_of hT hz h1 ⟨by omega, by omega⟩ (by omega) (fun zv9 ze10 => ?_))
      show ww l D tys A X fr lo mX11_rope Q 94 [(0, .ref (ad 50)), (1, .int p), (2, .int w)] [.int zv9] h
      refine w_iret rfl (tX11_rope_0_ok (94, .ireturn, 1) (List.mem_of_getElem? (i := 25) rfl)) ?_
      refine hq _ (Or.inl ⟨c9, ?_⟩)
      unfold q9_rope
      rw [if_pos (by omega)]
      rw [show zv7.toInt.toNat = 0 by omega] at ze10
      exact ze10
    · refine w_tabIn (tgt := 95) (tX11_rope_0_ok (37, .tableswitch 121 0 8 #[51, 58, 65, 72, 79, 87, 95, 105, 115], 51) (List.mem_of_getElem? (i := 20) rfl)) zb2 (by decide) (by decide) rfl rfl ?_
      refine w_aload_n (List.Mem.head _) (tX11_rope_0_ok (95, .aload_n 0, 1) (List.mem_of_getElem? (i := 26) rfl)) ?_
      refine w_iload_n (List.Mem.tail _ (List.Mem.head _)) (tX11_rope_0_ok (96, .iload_n 1, 1) (List.mem_of_getElem? (i := 27) rfl)) ?_
      refine w_iconst (by decide) (tX11_rope_0_ok (97, .iconst 1, 1) (List.mem_of_getElem? (i := 28) rfl)) (fun zv11 ze12 => ?_)
      refine w_callV (own := 16) (mi := 219) [.int p, .int zv11] [] [(0, .ref (ad 50)), (1, .int p), (2, .int zv11)] rfl (cllw_X11 (255, 0, 219) (List.mem_of_getElem? (i := 34) rfl)) rfl rfl (hz.ob rfl rfl) rfl (by omega) (w_lo (n := 22) rfl (by omega)) (Nat.le_of_ble_eq_true rfl) (Nat.le_of_ble_eq_true rfl) rfl (tX11_rope_0_ok (98, .invokevirtual 255, 3) (List.mem_of_getElem? (i := 29) rfl)) (y_of hT hz h1 ⟨by omega, by omega⟩ (by omega) (fun zv13 ze14 => ?_))
      show ww l D tys A X fr lo mX11_rope Q 101 [(0, .ref (ad 50)), (1, .int p), (2, .int w)] [.int zv13] h
      refine w_iret rfl (tX11_rope_0_ok (101, .ireturn, 1) (List.mem_of_getElem? (i := 30) rfl)) ?_
      refine hq _ (Or.inl ⟨c9, ?_⟩)
      unfold q9_rope
      rw [if_neg (by omega)]
      rw [if_pos (by omega)]
      rw [show zv11.toInt.toNat = 1 by omega] at ze14
      exact ze14
    · refine w_tabIn (tgt := 102) (tX11_rope_0_ok (37, .tableswitch 121 0 8 #[51, 58, 65, 72, 79, 87, 95, 105, 115], 51) (List.mem_of_getElem? (i := 20) rfl)) zb2 (by decide) (by decide) rfl rfl ?_
      refine w_aload_n (List.Mem.head _) (tX11_rope_0_ok (102, .aload_n 0, 1) (List.mem_of_getElem? (i := 31) rfl)) ?_
      refine z_getR (L1 := 56) (own := 16) (k := 22) hz rfl rfl rfl rfl rfl rfl rfl (by decide) (tX11_rope_0_ok (103, .getfield 45, 3) (List.mem_of_getElem? (i := 32) rfl)) ?_
      refine w_iload_n (List.Mem.tail _ (List.Mem.head _)) (tX11_rope_0_ok (106, .iload_n 1, 1) (List.mem_of_getElem? (i := 33) rfl)) ?_
      refine z_iald (f := (I 56)) hT hz rfl rfl rfl (by omega) (by omega) (tX11_rope_0_ok (107, .iaload, 1) (List.mem_of_getElem? (i := 34) rfl)) (fun zv15 zu16 => ?_)
      have ze17 : zv15.toInt = ((I 56) p.toInt.toNat).toInt := congrArg _ zu16
      refine w_iret rfl (tX11_rope_0_ok (108, .ireturn, 1) (List.mem_of_getElem? (i := 35) rfl)) ?_
      refine hq _ (Or.inl ⟨c9, ?_⟩)
      unfold q9_rope
      rw [if_neg (by omega)]
      rw [if_neg (by omega)]
      rw [if_pos (by omega)]
      rw [zu16, show p.toInt.toNat = p.toInt.toNat by omega, (h3.1 _ (by omega)).1]
    · refine w_tabIn (tgt := 109) (tX11_rope_0_ok (37, .tableswitch 121 0 8 #[51, 58, 65, 72, 79, 87, 95, 105, 115], 51) (List.mem_of_getElem? (i := 20) rfl)) zb2 (by decide) (by decide) rfl rfl ?_
      refine w_aload_n (List.Mem.head _) (tX11_rope_0_ok (109, .aload_n 0, 1) (List.mem_of_getElem? (i := 36) rfl)) ?_
      refine w_iload_n (List.Mem.tail _ (List.Mem.head _)) (tX11_rope_0_ok (110, .iload_n 1, 1) (List.mem_of_getElem? (i := 37) rfl)) ?_
      refine w_iconst (by decide) (tX11_rope_0_ok (111, .iconst 5, 1) (List.mem_of_getElem? (i := 38) rfl)) (fun zv18 ze19 => ?_)
      refine w_callV (own := 16) (mi := 219) [.int p, .int zv18] [] [(0, .ref (ad 50)), (1, .int p), (2, .int zv18)] rfl (cllw_X11 (255, 0, 219) (List.mem_of_getElem? (i := 34) rfl)) rfl rfl (hz.ob rfl rfl) rfl (by omega) (w_lo (n := 22) rfl (by omega)) (Nat.le_of_ble_eq_true rfl) (Nat.le_of_ble_eq_true rfl) rfl (tX11_rope_0_ok (112, .invokevirtual 255, 3) (List.mem_of_getElem? (i := 39) rfl)) (y_of hT hz h1 ⟨by omega, by omega⟩ (by omega) (fun zv20 ze21 => ?_))
      show ww l D tys A X fr lo mX11_rope Q 115 [(0, .ref (ad 50)), (1, .int p), (2, .int w)] [.int zv20] h
      refine w_iret rfl (tX11_rope_0_ok (115, .ireturn, 1) (List.mem_of_getElem? (i := 40) rfl)) ?_
      refine hq _ (Or.inl ⟨c9, ?_⟩)
      unfold q9_rope
      rw [if_neg (by omega)]
      rw [if_neg (by omega)]
      rw [if_neg (by omega)]
      rw [if_pos (by omega)]
      rw [show zv18.toInt.toNat = 5 by omega] at ze21
      exact ze21
    · refine w_tabIn (tgt := 116) (tX11_rope_0_ok (37, .tableswitch 121 0 8 #[51, 58, 65, 72, 79, 87, 95, 105, 115], 51) (List.mem_of_getElem? (i := 20) rfl)) zb2 (by decide) (by decide) rfl rfl ?_
      refine w_aload_n (List.Mem.head _) (tX11_rope_0_ok (116, .aload_n 0, 1) (List.mem_of_getElem? (i := 41) rfl)) ?_
      refine w_iload_n (List.Mem.tail _ (List.Mem.head _)) (tX11_rope_0_ok (117, .iload_n 1, 1) (List.mem_of_getElem? (i := 42) rfl)) ?_
      refine w_bipush (by decide) (tX11_rope_0_ok (118, .bipush 6, 2) (List.mem_of_getElem? (i := 43) rfl)) (fun zv22 ze23 => ?_)
      refine w_callV (own := 16) (mi := 219) [.int p, .int zv22] [] [(0, .ref (ad 50)), (1, .int p), (2, .int zv22)] rfl (cllw_X11 (255, 0, 219) (List.mem_of_getElem? (i := 34) rfl)) rfl rfl (hz.ob rfl rfl) rfl (by omega) (w_lo (n := 22) rfl (by omega)) (Nat.le_of_ble_eq_true rfl) (Nat.le_of_ble_eq_true rfl) rfl (tX11_rope_0_ok (120, .invokevirtual 255, 3) (List.mem_of_getElem? (i := 44) rfl)) (y_of hT hz h1 ⟨by omega, by omega⟩ (by omega) (fun zv24 ze25 => ?_))
      show ww l D tys A X fr lo mX11_rope Q 123 [(0, .ref (ad 50)), (1, .int p), (2, .int w)] [.int zv24] h
      refine w_iret rfl (tX11_rope_0_ok (123, .ireturn, 1) (List.mem_of_getElem? (i := 45) rfl)) ?_
      refine hq _ (Or.inl ⟨c9, ?_⟩)
      unfold q9_rope
      rw [if_neg (by omega)]
      rw [if_neg (by omega)]
      rw [if_neg (by omega)]
      rw [if_neg (by omega)]
      rw [if_pos (by omega)]
      rw [show zv22.toInt.toNat = 6 by omega] at ze25
      exact ze25
    · refine w_tabIn (tgt := 124) (tX11_rope_0_ok (37, .tableswitch 121 0 8 #[51, 58, 65, 72, 79, 87, 95, 105, 115], 51) (List.mem_of_getElem? (i := 20) rfl)) zb2 (by decide) (by decide) rfl rfl ?_
      refine w_aload_n (List.Mem.head _) (tX11_rope_0_ok (124, .aload_n 0, 1) (List.mem_of_getElem? (i := 46) rfl)) ?_
      refine w_iload_n (List.Mem.tail _ (List.Mem.head _)) (tX11_rope_0_ok (125, .iload_n 1, 1) (List.mem_of_getElem? (i := 47) rfl)) ?_
      refine w_bipush (by decide) (tX11_rope_0_ok (126, .bipush 8, 2) (List.mem_of_getElem? (i := 48) rfl)) (fun zv26 ze27 => ?_)
      refine w_callV (own := 16) (mi := 219) [.int p, .int zv26] [] [(0, .ref (ad 50)), (1, .int p), (2, .int zv26)] rfl (cllw_X11 (255, 0, 219) (List.mem_of_getElem? (i := 34) rfl)) rfl rfl (hz.ob rfl rfl) rfl (by omega) (w_lo (n := 22) rfl (by omega)) (Nat.le_of_ble_eq_true rfl) (Nat.le_of_ble_eq_true rfl) rfl (tX11_rope_0_ok (128, .invokevirtual 255, 3) (List.mem_of_getElem? (i := 49) rfl)) (y_of hT hz h1 ⟨by omega, by omega⟩ (by omega) (fun zv28 ze29 => ?_))
      show ww l D tys A X fr lo mX11_rope Q 131 [(0, .ref (ad 50)), (1, .int p), (2, .int w)] [.int zv28] h
      refine w_iret rfl (tX11_rope_0_ok (131, .ireturn, 1) (List.mem_of_getElem? (i := 50) rfl)) ?_
      refine hq _ (Or.inl ⟨c9, ?_⟩)
      unfold q9_rope
      rw [if_neg (by omega)]
      rw [if_neg (by omega)]
      rw [if_neg (by omega)]
      rw [if_neg (by omega)]
      rw [if_neg (by omega)]
      rw [if_pos (by omega)]
      rw [show zv26.toInt.toNat = 8 by omega] at ze29
      exact ze29
    · refine w_tabIn (tgt := 132) (tX11_rope_0_ok (37, .tableswitch 121 0 8 #[51, 58, 65, 72, 79, 87, 95, 105, 115], 51) (List.mem_of_getElem? (i := 20) rfl)) zb2 (by decide) (by decide) rfl rfl ?_
      refine w_aload_n (List.Mem.head _) (tX11_rope_0_ok (132, .aload_n 0, 1) (List.mem_of_getElem? (i := 51) rfl)) ?_
      refine z_getR (L1 := 56) (own := 16) (k := 22) hz rfl rfl rfl rfl rfl rfl rfl (by decide) (tX11_rope_0_ok (133, .getfield 45, 3) (List.mem_of_getElem? (i := 52) rfl)) ?_
      refine w_bipush (by decide) (tX11_rope_0_ok (136, .bipush 12, 2) (List.mem_of_getElem? (i := 53) rfl)) (fun zv30 ze31 => ?_)
      refine w_iload_n (List.Mem.tail _ (List.Mem.head _)) (tX11_rope_0_ok (138, .iload_n 1, 1) (List.mem_of_getElem? (i := 54) rfl)) ?_
      refine w_iadd (by omega) (by omega) (tX11_rope_0_ok (139, .iadd, 1) (List.mem_of_getElem? (i := 55) rfl)) (fun zv32 ze33 => ?_)
      refine z_iald (f := (I 56)) hT hz rfl rfl rfl (by omega) (by omega) (tX11_rope_0_ok (140, .iaload, 1) (List.mem_of_getElem? (i := 56) rfl)) (fun zv34 zu35 => ?_)
      have ze36 : zv34.toInt = ((I 56) zv32.toInt.toNat).toInt := congrArg _ zu35
      refine w_iret rfl (tX11_rope_0_ok (141, .ireturn, 1) (List.mem_of_getElem? (i := 57) rfl)) ?_
      refine hq _ (Or.inl ⟨c9, ?_⟩)
      unfold q9_rope
      rw [if_neg (by omega)]
      rw [if_neg (by omega)]
      rw [if_neg (by omega)]
      rw [if_neg (by omega)]
      rw [if_neg (by omega)]
      rw [if_neg (by omega)]
      rw [if_pos (by omega)]
      rw [zu35, show zv32.toInt.toNat = 12 + p.toInt.toNat by omega, (h3.1 _ (by omega)).2.2]
    · refine w_tabIn (tgt := 142) (tX11_rope_0_ok (37, .tableswitch 121 0 8 #[51, 58, 65, 72, 79, 87, 95, 105, 115], 51) (List.mem_of_getElem? (i := 20) rfl)) zb2 (by decide) (by decide) rfl rfl ?_
      refine w_aload_n (List.Mem.head _) (tX11_rope_0_ok (142, .aload_n 0, 1) (List.mem_of_getElem? (i := 58) rfl)) ?_
      refine z_getR (L1 := 56) (own := 16) (k := 22) hz rfl rfl rfl rfl rfl rfl rfl (by decide) (tX11_rope_0_ok (143, .getfield 45, 3) (List.mem_of_getElem? (i := 59) rfl)) ?_
      refine w_bipush (by decide) (tX11_rope_1_ok (146, .bipush 6, 2) (List.mem_of_getElem? (i := 0) rfl)) (fun zv37 ze38 => ?_)
      refine w_iload_n (List.Mem.tail _ (List.Mem.head _)) (tX11_rope_1_ok (148, .iload_n 1, 1) (List.mem_of_getElem? (i := 1) rfl)) ?_
      refine w_iadd (by omega) (by omega) (tX11_rope_1_ok (149, .iadd, 1) (List.mem_of_getElem? (i := 2) rfl)) (fun zv39 ze40 => ?_)
      refine z_iald (f := (I 56)) hT hz rfl rfl rfl (by omega) (by omega) (tX11_rope_1_ok (150, .iaload, 1) (List.mem_of_getElem? (i := 3) rfl)) (fun zv41 zu42 => ?_)
      have ze43 : zv41.toInt = ((I 56) zv39.toInt.toNat).toInt := congrArg _ zu42
      refine w_iret rfl (tX11_rope_1_ok (151, .ireturn, 1) (List.mem_of_getElem? (i := 4) rfl)) ?_
      refine hq _ (Or.inl ⟨c9, ?_⟩)
      unfold q9_rope
      rw [if_neg (by omega)]
      rw [if_neg (by omega)]
      rw [if_neg (by omega)]
      rw [if_neg (by omega)]
      rw [if_neg (by omega)]
      rw [if_neg (by omega)]
      rw [if_neg (by omega)]
      rw [if_pos (by omega)]
      rw [zu42, show zv39.toInt.toNat = 6 + p.toInt.toNat by omega, (h3.1 _ (by omega)).2.1]
    · refine w_tabIn (tgt := 152) (tX11_rope_0_ok (37, .tableswitch 121 0 8 #[51, 58, 65, 72, 79, 87, 95, 105, 115], 51) (List.mem_of_getElem? (i := 20) rfl)) zb2 (by decide) (by decide) rfl rfl ?_
      refine w_aload_n (List.Mem.head _) (tX11_rope_1_ok (152, .aload_n 0, 1) (List.mem_of_getElem? (i := 5) rfl)) ?_
      refine w_iload_n (List.Mem.tail _ (List.Mem.head _)) (tX11_rope_1_ok (153, .iload_n 1, 1) (List.mem_of_getElem? (i := 6) rfl)) ?_
      refine w_callV (own := 16) (mi := 230) [.int p] [] [(0, .ref (ad 50)), (1, .int p)] rfl (cllw_X11 (289, 0, 230) (List.mem_of_getElem? (i := 36) rfl)) rfl rfl (hz.ob rfl rfl) rfl (by omega) (w_lo (n := 23) rfl (by omega)) (Nat.le_of_ble_eq_true rfl) (Nat.le_of_ble_eq_true rfl) rfl (tX11_rope_1_ok (154, .invokevirtual 289, 3) (List.mem_of_getElem? (i := 7) rfl)) (y_pull hT hz h1 (H.yz_ n6 (hbo (by omega))) ⟨by omega, by omega⟩ (x := (φ.1 56 p.toInt.toNat).toInt) (by rw [(h3.1 _ (by omega)).1]) (hk.2.1.1 _ (by omega)) (by omega) (w_sub (n := 23) rfl (by omega)) (fun zv44 ze45 zb46 zb47 => ?_))
      show ww l D tys A X fr lo mX11_rope Q 157 [(0, .ref (ad 50)), (1, .int p), (2, .int w)] [.int zv44] h
      refine w_iret rfl (tX11_rope_1_ok (157, .ireturn, 1) (List.mem_of_getElem? (i := 8) rfl)) ?_
      refine hq _ (Or.inl ⟨c9, ?_⟩)
      unfold q9_rope
      rw [if_neg (by omega)]
      rw [if_neg (by omega)]
      rw [if_neg (by omega)]
      rw [if_neg (by omega)]
      rw [if_neg (by omega)]
      rw [if_neg (by omega)]
      rw [if_neg (by omega)]
      rw [if_neg (by omega)]
      rw [if_pos (by omega)]
      exact ze45
  · refine w_iconst (by decide) (tX11_rope_0_ok (34, .iconst 0, 1) (List.mem_of_getElem? (i := 17) rfl)) (fun zv48 ze49 => ?_)
    refine w_iret rfl (tX11_rope_0_ok (35, .ireturn, 1) (List.mem_of_getElem? (i := 18) rfl)) ?_
    exact hq _ (Or.inr ⟨fun z => by rcases h0 with ⟨d, -⟩ | ⟨-, d⟩; omega; exact d z, by omega⟩)
theorem y9q_rope (hT : k_tys tys cA) {p w : Int32} (hz : zr zNM cA ad I W O h) (hk : kok τ φ) (H : rS τ φ I W) (hf : 40 ≤ fr) (hlo : 1000 ≤ lo) (hbo : ¬ τ.1 = 0 → bo (I 55) (I 56) (I 62) τ.2.2.1 τ.1) (hq : ∀ (g : ch_H) (I1 : zI) (v : Int32), (c9_rope p w τ ∧ v.toInt = (q9_rope p.toInt.toNat w.toInt.toNat τ φ) ∧ (I1 50 0).toInt = 0 ∨ ¬ c9_rope p w τ ∧ (I1 50 0).toInt = 1) → zr zNM cA ad I1 W O g → Q (some (.int v)) g) : ww l D tys A X fr lo mX11_rope Q 0 [(0, .ref (ad 50)), (1, .int p), (2, .int w)] [] h := by
  have n6 := hk.1.1
  obtain ⟨ga6, pe8, ta6⟩ := hk.2.2.2.1
  obtain ⟨h1, ⟨h21, h22, h23⟩, ⟨h3, h32⟩, h4, h5, h6, h7, h8, h9, h10, h11⟩ := id H
  have r0 := h1.1
  refine w_aload_n (List.Mem.head _) (tX11_rope_0_ok (0, .aload_n 0, 1) (List.mem_of_getElem? (i := 0) rfl)) ?_
  refine w_aload_n (List.Mem.head _) (tX11_rope_0_ok (1, .aload_n 0, 1) (List.mem_of_getElem? (i := 1) rfl)) ?_
  refine w_iload_n (List.Mem.tail _ (List.Mem.head _)) (tX11_rope_0_ok (2, .iload_n 1, 1) (List.mem_of_getElem? (i := 2) rfl)) ?_
  refine w_callV (own := 16) (mi := 204) [.int p] [.ref (ad 50)] [(0, .ref (ad 50)), (1, .int p)] rfl (cllw_X11 (286, 0, 204) (List.mem_of_getElem? (i := 35) rfl)) rfl rfl (hz.ob rfl rfl) rfl (by omega) (w_lo (n := 21) rfl (by omega)) (Nat.le_of_ble_eq_true rfl) (Nat.le_of_ble_eq_true rfl) rfl (tX11_rope_0_ok (3, .invokevirtual 286, 3) (List.mem_of_getElem? (i := 3) rfl)) (y_isRope hT hz r0 n6 (fun zv1 ze2 => ?_))
  show ww l D tys A X fr lo mX11_rope Q 6 [(0, .ref (ad 50)), (1, .int p), (2, .int w)] [.int zv1, .ref (ad 50)] h
  refine w_if_eq (tgt := 23) (tX11_rope_0_ok (6, .ifCond .eq 17, 3) (List.mem_of_getElem? (i := 4) rfl)) rfl (fun zb3 => ?_) (fun zb3 => ?_)
  · refine w_iconst (by decide) (tX11_rope_0_ok (23, .iconst 1, 1) (List.mem_of_getElem? (i := 12) rfl)) (fun zv4 ze5 => ?_)
    refine z_put (f := (I 50)) (own := 16) (k := 0) hz rfl rfl rfl rfl rfl rfl rfl (by decide) rfl ⟨rfl, rfl⟩ (tX11_rope_0_ok (24, .putfield 85, 3) (List.mem_of_getElem? (i := 13) rfl)) (fun zh6 zI7 zq8 zz9 zf10 => ?_)
    have e0 : zI7 50 0 = zv4 := by rw [zq8, s2_s, upd_s]
    have c9 : ¬ c9_rope p w τ := fun z => by obtain ⟨⟨z1, z2⟩, z3, z4⟩ := z; omega
    exact y9q_rope27 hT zz9 hk (H.th zq8) hf hlo (by rw [zq8, s2_n (by decide), s2_n (by decide), s2_n (by decide)]; exact hbo) (Or.inr ⟨by rw [e0]; omega, c9⟩) (fun v d => hq _ zI7 v (by rcases d with ⟨d1, d2⟩ | ⟨d1, d2⟩; exact absurd d1 c9; exact Or.inr ⟨d1, by rw [e0]; omega⟩) zz9)
  · refine w_iload_n (List.Mem.tail _ (List.Mem.tail _ (List.Mem.head _))) (tX11_rope_0_ok (9, .iload_n 2, 1) (List.mem_of_getElem? (i := 5) rfl)) ?_
    refine w_iconst (by decide) (tX11_rope_0_ok (10, .iconst 0, 1) (List.mem_of_getElem? (i := 6) rfl)) (fun zv11 ze12 => ?_)
    refine w_bipush (by decide) (tX11_rope_0_ok (11, .bipush 9, 2) (List.mem_of_getElem? (i := 7) rfl)) (fun zv13 ze14 => ?_)
    refine w_callS (own := 16) (mi := 199) [.int w, .int zv11, .int zv13] [.ref (ad 50)] [(0, .int w), (1, .int zv11), (2, .int zv13)] rfl (cllw_X11 (207, 1, 199) (List.mem_of_getElem? (i := 2) rfl)) rfl rfl (by omega) (w_lo (n := 22) rfl (by omega)) (Nat.le_of_ble_eq_true rfl) (Nat.le_of_ble_eq_true rfl) rfl (tX11_rope_0_ok (13, .invokestatic 207, 3) (List.mem_of_getElem? (i := 8) rfl)) (r_isIn (fun zv15 ze16 => ?_))
    show ww l D tys A X fr lo mX11_rope Q 16 [(0, .ref (ad 50)), (1, .int p), (2, .int w)] [.int zv15, .ref (ad 50)] h
    refine w_if_eq (tgt := 23) (tX11_rope_0_ok (16, .ifCond .eq 7, 3) (List.mem_of_getElem? (i := 9) rfl)) rfl (fun zb17 => ?_) (fun zb17 => ?_)
    · refine w_iconst (by decide) (tX11_rope_0_ok (23, .iconst 1, 1) (List.mem_of_getElem? (i := 12) rfl)) (fun zv18 ze19 => ?_)
      refine z_put (f := (I 50)) (own := 16) (k := 0) hz rfl rfl rfl rfl rfl rfl rfl (by decide) rfl ⟨rfl, rfl⟩ (tX11_rope_0_ok (24, .putfield 85, 3) (List.mem_of_getElem? (i := 13) rfl)) (fun zh20 zI21 zq22 zz23 zf24 => ?_)
      have e0 : zI21 50 0 = zv18 := by rw [zq22, s2_s, upd_s]
      have c9 : ¬ c9_rope p w τ := fun z => by obtain ⟨⟨z1, z2⟩, z3, z4⟩ := z; omega
      exact y9q_rope27 hT zz23 hk (H.th zq22) hf hlo (by rw [zq22, s2_n (by decide), s2_n (by decide), s2_n (by decide)]; exact hbo) (Or.inr ⟨by rw [e0]; omega, c9⟩) (fun v d => hq _ zI21 v (by rcases d with ⟨d1, d2⟩ | ⟨d1, d2⟩; exact absurd d1 c9; exact Or.inr ⟨d1, by rw [e0]; omega⟩) zz23)
    · refine w_iconst (by decide) (tX11_rope_0_ok (19, .iconst 0, 1) (List.mem_of_getElem? (i := 10) rfl)) (fun zv25 ze26 => ?_)
      refine w_goto (tgt := 24) (tX11_rope_0_ok (20, .goto 4, 3) (List.mem_of_getElem? (i := 11) rfl)) rfl ?_
      refine z_put (f := (I 50)) (own := 16) (k := 0) hz rfl rfl rfl rfl rfl rfl rfl (by decide) rfl ⟨rfl, rfl⟩ (tX11_rope_0_ok (24, .putfield 85, 3) (List.mem_of_getElem? (i := 13) rfl)) (fun zh27 zI28 zq29 zz30 zf31 => ?_)
      have e0 : zI28 50 0 = zv25 := by rw [zq29, s2_s, upd_s]
      have c9 : c9_rope p w τ := ⟨⟨by omega, by omega⟩, by omega, by omega⟩
      exact y9q_rope27 hT zz30 hk (H.th zq29) hf hlo (by rw [zq29, s2_n (by decide), s2_n (by decide), s2_n (by decide)]; exact hbo) (Or.inl ⟨by rw [e0]; omega, c9⟩) (fun v d => hq _ zI28 v (by rcases d with ⟨d1, d2⟩ | ⟨d1, d2⟩; exact Or.inl ⟨d1, d2, by rw [e0]; omega⟩; exact absurd c9 d1) zz30)
end
/-- what rope of the reference leaves: its answer, and whether it threw -/
def r9_rope (p w : Int32) (τ : aN) (φ : zP) (m : Nat) (v : Option Value) (g : ch_H) : Prop := ∃ (y t : Int32) (fs : List Value), v = some (.int y) ∧ g m = some (.inr (10, fs)) ∧ fs[0]? = some (.int t) ∧ (c9_rope p w τ ∧ y.toInt = q9_rope p.toInt.toNat w.toInt.toNat τ φ ∧ t.toInt = 0 ∨ ¬ c9_rope p w τ ∧ t.toInt = 1)
section
variable {l : Launch} {D : va_G} {tys : List (ClassId × FieldType)} {A : Nat → Prop} {X : State → Prop} {cA : Nat → ClassId} {x m : Nat}
theorem hR_rope (hT : k_TX tys cA A X) {p w : Int32} (Sg : Nat → Option Nat) (h : ch_H) (σ : aS) (hH : k_H Sg cA Lb h) (sm : sgM Sg m) (hR : aR cA h m σ) : tt l D tys A X 100 6000 0 0 mX11_rope (fun v g => ∃ Sg1, k_H Sg1 cA Lb g ∧ sgM Sg1 m ∧ (∀ a L, Sg a = some L → L < 50 → Sg1 a = some L ∧ g a = h a) ∧ aR cA g m σ ∧ ∀ θ, kF cA h m θ → kF cA g m θ ∧ r9_rope p w θ.1 θ.2 m v g) 0 (lv_args 0 (.ref m :: [.int p, .int w])) [] h 0 0 := by
  refine tt_mono (fun v g H => ?_) (tt_alls (I := aN × zP) (P := fun q => kF cA h m q) (Q2 := fun q v g => r9_rope p w q.1 q.2 m v g) (fR_rope (p := p) (q := w) hT Sg h σ hH sm hR) (fun q hq => ?_))
  · obtain ⟨⟨Sg1, q1, q2, q3, q4, q5, q6⟩, q7⟩ := H
    refine ⟨Sg1, q1, q2, q3, q4, fun q hq => ⟨(q5 q hq).1, ?_⟩⟩
    obtain ⟨g2, a1, a2, a3, y, t, fs, e1, e2, e3, e4⟩ := q7 q hq
    obtain ⟨fs1, c1, l1⟩ : ∃ fs1, g m = some (.inr (10, fs1)) ∧ fs1.length = 47 := by
      rcases q2.1 with s | s
      · obtain ⟨f1, c1, l1, -⟩ := q1.obj s (L := 50) rfl
        exact ⟨f1, c1, l1⟩
      · obtain ⟨f1, c1, l1, -⟩ := q1.obj s (L := 70) rfl
        exact ⟨f1, c1, l1⟩
    exact ⟨y, t, fs1, e1, c1, a1.get c1 e2 (by decide) (by rw [l1]; decide) e3, e4⟩
  · obtain ⟨-, ⟨hk, ad, I, W, O, hz, rfl, hS⟩, -⟩ := hq
    show ww l D tys A X 100 6000 mX11_rope _ 0 [(0, .ref (ad 50)), (1, .int p), (2, .int w)] [] h
    exact y9q_rope hT.1 hz hk hS (by decide) (by decide) (FR_bo hH hz hk hS sm.1) (fun g I1 v d z => ⟨v, I1 50 0, _, rfl, z.ob (L := 50) rfl rfl, rfl, d⟩)
theorem t_thrown {h : ch_H} {fs : List Value} {t : Int32} (c_m : h m = some (.inr (10, fs))) (f0 : fs[0]? = some (.int t)) : ww l D tys A X 2 40 mX11_thrown (fun v g => v = some (.int t) ∧ g = h) 0 [(0, .ref m)] [] h := by
  refine w_aload_n (List.Mem.head _) (tX11_thrown_0_ok (0, .aload_n 0, 1) (List.mem_of_getElem? (i := 0) rfl)) ?_
  refine w_get (own := 16) rfl rfl (by decide) c_m f0 (tX11_thrown_0_ok (1, .getfield 85, 3) (List.mem_of_getElem? (i := 1) rfl)) ?_
  exact w_iret rfl (tX11_thrown_0_ok (4, .ireturn, 1) (List.mem_of_getElem? (i := 2) rfl)) ⟨rfl, rfl⟩
theorem tt_lald {fr lo mc ms : Nat} {M : ch_M} {Q : Option Value → ch_H → Prop} {pc : Nat} {lv : List (Nat × Value)} {st : List Value} {h : ch_H} {c z : Nat} {a n t0 : Nat} {cB : ClassId} {f : Nat → Int64} {i : Int32} (ha : h a = some (.inl (cB, n, .inr (.inl f)))) (ht : tys[t0]? = some (cB, .long)) (hin : vp_in i n) (hd : decode M.2.1 pc = .ok (.laload, 1)) (kk : tt l D tys A X fr lo mc ms M Q (pc + 1) lv (.long (f i.toNatClampNeg) :: st) h c z) : tt l D tys A X fr lo mc ms M Q pc lv (.int i :: .ref a :: st) h c z := by
  intro p e s m args below meth cd H locs ls C hl hr hS
  obtain ⟨ws, h1, hP, hD⟩ := id hr
  obtain ⟨q0, hq⟩ := h1 a _ ha
  exact va_lald C.1 C.2.1 C.2.2.2.2.2.2.1 hP q0 t0 hq ht hin hd (kk p e s m args below meth cd H locs ls C hl hr hS)
theorem lg_cmp_self (x : Int64) : lg_cmp x x = 0 := by
  unfold lg_cmp
  simp
end
