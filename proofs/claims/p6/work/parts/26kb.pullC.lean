/-! the class: stride, place, pull -/
section
variable {l : Launch} {D : va_G} {tys : List (ClassId × FieldType)} {A : Nat → Prop} {X : State → Prop} {fr lo : Nat} {Q : Option Value → ch_H → Prop} {cA : Nat → ClassId} {h : ch_H} {pl pk pn pv w wl : Nat} {ps ws : List Value} {gK gN gV gL : Nat → Int32}
theorem c_stride (hT : k_tys tys cA) {p : Int32} (hp : 0 ≤ p.toInt ∧ p.toInt ≤ 5) (c_pl : h pl = some (.inr (4, ps))) (p1 : ps[1]? = some (.ref pk)) (c_pk : h pk = some (.inl (cA 0, 6, .inl gK))) (hq : ∀ v : Int32, v.toInt = (if (gK p.toInt.toNat).toInt = 1 then 2 else 1) → Q (some (.int v)) h) : ww l D tys A X fr lo mX4_stride Q 0 [(0, .ref pl), (1, .int p)] [] h := by
  refine w_aload_n (List.Mem.head _) (tX4_stride_0_ok (0, .aload_n 0, 1) (List.mem_of_getElem? (i := 0) rfl)) ?_
  refine w_get (own := 9) rfl rfl (by decide) c_pl p1 (tX4_stride_0_ok (1, .getfield 9, 3) (List.mem_of_getElem? (i := 1) rfl)) ?_
  refine w_iload_n (List.Mem.tail _ (List.Mem.head _)) (tX4_stride_0_ok (4, .iload_n 1, 1) (List.mem_of_getElem? (i := 2) rfl)) ?_
  refine w_iald hT c_pk (by omega) (by omega) (tX4_stride_0_ok (5, .iaload, 1) (List.mem_of_getElem? (i := 3) rfl)) (fun v1 e2 => ?_)
  refine w_iconst (by decide) (tX4_stride_0_ok (6, .iconst 1, 1) (List.mem_of_getElem? (i := 4) rfl)) (fun v3 e4 => ?_)
  refine w_icmp_ne (tgt := 14) (tX4_stride_0_ok (7, .if_icmp .ne 7, 3) (List.mem_of_getElem? (i := 5) rfl)) rfl (fun b5 => ?_) (fun b5 => ?_)
  · refine w_iconst (by decide) (tX4_stride_0_ok (14, .iconst 1, 1) (List.mem_of_getElem? (i := 8) rfl)) (fun v6 e7 => ?_)
    refine w_iret rfl (tX4_stride_0_ok (15, .ireturn, 1) (List.mem_of_getElem? (i := 9) rfl)) ?_
    refine hq _ ?_
    repeat (first | rw [if_pos (by omega)] | rw [if_neg (by omega)])
    all_goals omega
  · refine w_iconst (by decide) (tX4_stride_0_ok (10, .iconst 2, 1) (List.mem_of_getElem? (i := 6) rfl)) (fun v8 e9 => ?_)
    refine w_goto (tgt := 15) (tX4_stride_0_ok (11, .goto 4, 3) (List.mem_of_getElem? (i := 7) rfl)) rfl ?_
    refine w_iret rfl (tX4_stride_0_ok (15, .ireturn, 1) (List.mem_of_getElem? (i := 9) rfl)) ?_
    refine hq _ ?_
    repeat (first | rw [if_pos (by omega)] | rw [if_neg (by omega)])
    all_goals omega
theorem c_place (hT : k_tys tys cA) {k x : Int32} (hk : 0 ≤ k.toInt ∧ k.toInt ≤ 11) (hx : 0 ≤ x.toInt ∧ x.toInt ≤ (gN (k.toInt.toNat / 2)).toInt) (hL : ∀ q, q < 6 → 0 ≤ (gN q).toInt ∧ (gN q).toInt ≤ 20) (c_pl : h pl = some (.inr (4, ps))) (p1 : ps[1]? = some (.ref pk)) (c_pk : h pk = some (.inl (cA 0, 6, .inl gK))) (p2 : ps[2]? = some (.ref pn)) (c_pn : h pn = some (.inl (cA 0, 6, .inl gN))) (hq : ∀ v : Int32, v.toInt = (if k.toInt % 2 = 0 then x.toInt else if (gK (k.toInt.toNat / 2)).toInt = 1 then ((gN (k.toInt.toNat / 2)).toInt - x.toInt) / 2 else (gN (k.toInt.toNat / 2)).toInt - x.toInt) → Q (some (.int v)) h) : ww l D tys A X fr lo mX4_place Q 0 [(0, .ref pl), (1, .int k), (2, .int x)] [] h := by
  refine w_iload_n (List.Mem.tail _ (List.Mem.head _)) (tX4_place_0_ok (0, .iload_n 1, 1) (List.mem_of_getElem? (i := 0) rfl)) ?_
  refine w_iconst (by decide) (tX4_place_0_ok (1, .iconst 1, 1) (List.mem_of_getElem? (i := 1) rfl)) (fun yv1 ye2 => ?_)
  refine w_iand (tX4_place_0_ok (2, .iand, 1) (List.mem_of_getElem? (i := 2) rfl)) (fun yv3 ye4 => ?_)
  have ha9 := and1w (x := k) (z := yv1) (by omega) (by omega) ye4
  refine w_if_ne (tgt := 8) (tX4_place_0_ok (3, .ifCond .ne 5, 3) (List.mem_of_getElem? (i := 3) rfl)) rfl (fun yb5 => ?_) (fun yb5 => ?_)
  · refine w_iload_n (List.Mem.tail _ (List.Mem.head _)) (tX4_place_0_ok (8, .iload_n 1, 1) (List.mem_of_getElem? (i := 6) rfl)) ?_
    refine w_iconst (by decide) (tX4_place_0_ok (9, .iconst 1, 1) (List.mem_of_getElem? (i := 7) rfl)) (fun yv6 ye7 => ?_)
    refine w_ishr (tX4_place_0_ok (10, .ishr, 1) (List.mem_of_getElem? (i := 8) rfl)) (fun yv8 ye9 => ?_)
    have hs9 := shr1w (x := k) (z := yv6) (by omega) (by omega) ye9
    refine w_istore_n [(3, .int yv8), (0, .ref pl), (1, .int k), (2, .int x)] rfl (Nat.le_of_ble_eq_true rfl) (tX4_place_0_ok (11, .istore_n 3, 1) (List.mem_of_getElem? (i := 9) rfl)) ?_
    refine w_aload_n (List.Mem.tail _ (List.Mem.head _)) (tX4_place_0_ok (12, .aload_n 0, 1) (List.mem_of_getElem? (i := 10) rfl)) ?_
    refine w_get (own := 9) rfl rfl (by decide) c_pl p1 (tX4_place_0_ok (13, .getfield 9, 3) (List.mem_of_getElem? (i := 11) rfl)) ?_
    refine w_iload_n (List.Mem.head _) (tX4_place_0_ok (16, .iload_n 3, 1) (List.mem_of_getElem? (i := 12) rfl)) ?_
    refine w_iald hT c_pk (by omega) (by omega) (tX4_place_0_ok (17, .iaload, 1) (List.mem_of_getElem? (i := 13) rfl)) (fun yv10 ye11 => ?_)
    have yi12 : yv8.toInt.toNat = k.toInt.toNat / 2 := by omega
    rw [yi12] at ye11
    have yi12c : yv10.toInt = (gK (k.toInt.toNat / 2)).toInt := by rw [ye11]
    refine w_iconst (by decide) (tX4_place_0_ok (18, .iconst 1, 1) (List.mem_of_getElem? (i := 14) rfl)) (fun yv13 ye14 => ?_)
    refine w_icmp_ne (tgt := 35) (tX4_place_0_ok (19, .if_icmp .ne 16, 3) (List.mem_of_getElem? (i := 15) rfl)) rfl (fun yb15 => ?_) (fun yb15 => ?_)
    · refine w_aload_n (List.Mem.tail _ (List.Mem.head _)) (tX4_place_0_ok (35, .aload_n 0, 1) (List.mem_of_getElem? (i := 25) rfl)) ?_
      refine w_get (own := 9) rfl rfl (by decide) c_pl p2 (tX4_place_0_ok (36, .getfield 15, 3) (List.mem_of_getElem? (i := 26) rfl)) ?_
      refine w_iload_n (List.Mem.head _) (tX4_place_0_ok (39, .iload_n 3, 1) (List.mem_of_getElem? (i := 27) rfl)) ?_
      refine w_iald hT c_pn (by omega) (by omega) (tX4_place_0_ok (40, .iaload, 1) (List.mem_of_getElem? (i := 28) rfl)) (fun yv16 ye17 => ?_)
      have yi18 : yv8.toInt.toNat = k.toInt.toNat / 2 := by omega
      rw [yi18] at ye17
      have yi18b := hL (k.toInt.toNat / 2) (by omega)
      have yi18c : yv16.toInt = (gN (k.toInt.toNat / 2)).toInt := by rw [ye17]
      refine w_iload_n (List.Mem.tail _ (List.Mem.tail _ (List.Mem.tail _ (List.Mem.head _)))) (tX4_place_0_ok (41, .iload_n 2, 1) (List.mem_of_getElem? (i := 29) rfl)) ?_
      refine w_isub (by omega) (by omega) (tX4_place_0_ok (42, .isub, 1) (List.mem_of_getElem? (i := 30) rfl)) (fun yv19 ye20 => ?_)
      refine w_iret rfl (tX4_place_0_ok (43, .ireturn, 1) (List.mem_of_getElem? (i := 31) rfl)) ?_
      refine hq _ ?_
      repeat (first | rw [if_pos (by omega)] | rw [if_neg (by omega)])
      all_goals omega
    · refine w_aload_n (List.Mem.tail _ (List.Mem.head _)) (tX4_place_0_ok (22, .aload_n 0, 1) (List.mem_of_getElem? (i := 16) rfl)) ?_
      refine w_get (own := 9) rfl rfl (by decide) c_pl p2 (tX4_place_0_ok (23, .getfield 15, 3) (List.mem_of_getElem? (i := 17) rfl)) ?_
      refine w_iload_n (List.Mem.head _) (tX4_place_0_ok (26, .iload_n 3, 1) (List.mem_of_getElem? (i := 18) rfl)) ?_
      refine w_iald hT c_pn (by omega) (by omega) (tX4_place_0_ok (27, .iaload, 1) (List.mem_of_getElem? (i := 19) rfl)) (fun yv21 ye22 => ?_)
      have yi23 : yv8.toInt.toNat = k.toInt.toNat / 2 := by omega
      rw [yi23] at ye22
      have yi23b := hL (k.toInt.toNat / 2) (by omega)
      have yi23c : yv21.toInt = (gN (k.toInt.toNat / 2)).toInt := by rw [ye22]
      refine w_iload_n (List.Mem.tail _ (List.Mem.tail _ (List.Mem.tail _ (List.Mem.head _)))) (tX4_place_0_ok (28, .iload_n 2, 1) (List.mem_of_getElem? (i := 20) rfl)) ?_
      refine w_isub (by omega) (by omega) (tX4_place_0_ok (29, .isub, 1) (List.mem_of_getElem? (i := 21) rfl)) (fun yv24 ye25 => ?_)
      refine w_iconst (by decide) (tX4_place_0_ok (30, .iconst 2, 1) (List.mem_of_getElem? (i := 22) rfl)) (fun yv26 ye27 => ?_)
      refine w_idiv2 (by omega) (by omega) (tX4_place_0_ok (31, .idiv, 1) (List.mem_of_getElem? (i := 23) rfl)) (fun yv28 ye29 => ?_)
      refine w_goto (tgt := 43) (tX4_place_0_ok (32, .goto 11, 3) (List.mem_of_getElem? (i := 24) rfl)) rfl ?_
      refine w_iret rfl (tX4_place_0_ok (43, .ireturn, 1) (List.mem_of_getElem? (i := 31) rfl)) ?_
      refine hq _ ?_
      repeat (first | rw [if_pos (by omega)] | rw [if_neg (by omega)])
      all_goals omega
  · refine w_iload_n (List.Mem.tail _ (List.Mem.tail _ (List.Mem.head _))) (tX4_place_0_ok (6, .iload_n 2, 1) (List.mem_of_getElem? (i := 4) rfl)) ?_
    refine w_iret rfl (tX4_place_0_ok (7, .ireturn, 1) (List.mem_of_getElem? (i := 5) rfl)) ?_
    refine hq _ ?_
    repeat (first | rw [if_pos (by omega)] | rw [if_neg (by omega)])
    all_goals omega
theorem c_pull (hT : k_tys tys cA) {p x : Int32} {b1 b2 : Int} (hp : 0 ≤ p.toInt ∧ p.toInt ≤ 5) (hx : 0 ≤ x.toInt ∧ x.toInt ≤ 20) (hK : 0 ≤ (gK p.toInt.toNat).toInt ∧ (gK p.toInt.toNat).toInt ≤ 2) (hN : 0 ≤ (gN p.toInt.toNat).toInt ∧ (gN p.toInt.toNat).toInt ≤ 20) (hV : 0 ≤ (gV p.toInt.toNat).toInt ∧ (gV p.toInt.toNat).toInt ≤ 9) (hl : (gL p.toInt.toNat).toInt = ln9 (gK p.toInt.toNat).toInt b1 b2) (hlb : -1000000 ≤ (gL p.toInt.toNat).toInt ∧ (gL p.toInt.toNat).toInt ≤ 1000000) (c_pl : h pl = some (.inr (4, ps))) (p1 : ps[1]? = some (.ref pk)) (c_pk : h pk = some (.inl (cA 0, 6, .inl gK))) (p2 : ps[2]? = some (.ref pn)) (c_pn : h pn = some (.inl (cA 0, 6, .inl gN))) (p7 : ps[7]? = some (.ref pv)) (c_pv : h pv = some (.inl (cA 0, 6, .inl gV))) (c_w : h w = some (.inr (8, ws))) (w1 : ws[1]? = some (.ref wl)) (c_wl : h wl = some (.inl (cA 0, 6, .inl gL))) (hq : ∀ v : Int32, v.toInt = sp_pl9 (gK p.toInt.toNat).toInt (gV p.toInt.toNat).toInt (gN p.toInt.toNat).toInt x.toInt b1 b2 → Q (some (.int v)) h) : ww l D tys A X fr lo mX9_pull Q 0 [(0, .ref w), (1, .ref pl), (2, .int p), (3, .int x)] [] h := by
  refine w_aload_n (List.Mem.tail _ (List.Mem.head _)) (tX9_pull_0_ok (0, .aload_n 1, 1) (List.mem_of_getElem? (i := 0) rfl)) ?_
  refine w_get (own := 14) rfl rfl (by decide) c_pl p1 (tX9_pull_0_ok (1, .getfield 51, 3) (List.mem_of_getElem? (i := 1) rfl)) ?_
  refine w_iload_n (List.Mem.tail _ (List.Mem.tail _ (List.Mem.head _))) (tX9_pull_0_ok (4, .iload_n 2, 1) (List.mem_of_getElem? (i := 2) rfl)) ?_
  refine w_iald hT c_pk (by omega) (by omega) (tX9_pull_0_ok (5, .iaload, 1) (List.mem_of_getElem? (i := 3) rfl)) (fun yv1 ye2 => ?_)
  have yi3c : yv1.toInt = (gK p.toInt.toNat).toInt := by rw [ye2]
  refine w_if_eq (tgt := 16) (tX9_pull_0_ok (6, .ifCond .eq 10, 3) (List.mem_of_getElem? (i := 4) rfl)) rfl (fun yb4 => ?_) (fun yb4 => ?_)
  · refine w_aload_n (List.Mem.head _) (tX9_pull_0_ok (16, .aload_n 0, 1) (List.mem_of_getElem? (i := 10) rfl)) ?_
    refine w_get (own := 14) rfl rfl (by decide) c_w w1 (tX9_pull_0_ok (17, .getfield 15, 3) (List.mem_of_getElem? (i := 11) rfl)) ?_
    refine w_iload_n (List.Mem.tail _ (List.Mem.tail _ (List.Mem.head _))) (tX9_pull_0_ok (20, .iload_n 2, 1) (List.mem_of_getElem? (i := 12) rfl)) ?_
    refine w_iald hT c_wl (by omega) (by omega) (tX9_pull_0_ok (21, .iaload, 1) (List.mem_of_getElem? (i := 13) rfl)) (fun yv5 ye6 => ?_)
    have yi7c : yv5.toInt = (gL p.toInt.toNat).toInt := by rw [ye6]
    refine w_aload_n (List.Mem.tail _ (List.Mem.head _)) (tX9_pull_0_ok (22, .aload_n 1, 1) (List.mem_of_getElem? (i := 14) rfl)) ?_
    refine w_get (own := 14) rfl rfl (by decide) c_pl p7 (tX9_pull_0_ok (23, .getfield 54, 3) (List.mem_of_getElem? (i := 15) rfl)) ?_
    refine w_iload_n (List.Mem.tail _ (List.Mem.tail _ (List.Mem.head _))) (tX9_pull_0_ok (26, .iload_n 2, 1) (List.mem_of_getElem? (i := 16) rfl)) ?_
    refine w_iald hT c_pv (by omega) (by omega) (tX9_pull_0_ok (27, .iaload, 1) (List.mem_of_getElem? (i := 17) rfl)) (fun yv8 ye9 => ?_)
    have yi10c : yv8.toInt = (gV p.toInt.toNat).toInt := by rw [ye9]
    refine w_aload_n (List.Mem.tail _ (List.Mem.head _)) (tX9_pull_0_ok (28, .aload_n 1, 1) (List.mem_of_getElem? (i := 18) rfl)) ?_
    refine w_get (own := 14) rfl rfl (by decide) c_pl p2 (tX9_pull_0_ok (29, .getfield 57, 3) (List.mem_of_getElem? (i := 19) rfl)) ?_
    refine w_iload_n (List.Mem.tail _ (List.Mem.tail _ (List.Mem.head _))) (tX9_pull_0_ok (32, .iload_n 2, 1) (List.mem_of_getElem? (i := 20) rfl)) ?_
    refine w_iald hT c_pn (by omega) (by omega) (tX9_pull_0_ok (33, .iaload, 1) (List.mem_of_getElem? (i := 21) rfl)) (fun yv11 ye12 => ?_)
    have yi13c : yv11.toInt = (gN p.toInt.toNat).toInt := by rw [ye12]
    refine w_iconst (by decide) (tX9_pull_0_ok (34, .iconst 2, 1) (List.mem_of_getElem? (i := 22) rfl)) (fun yv14 ye15 => ?_)
    refine w_iload_n (List.Mem.tail _ (List.Mem.tail _ (List.Mem.tail _ (List.Mem.head _)))) (tX9_pull_0_ok (35, .iload_n 3, 1) (List.mem_of_getElem? (i := 23) rfl)) ?_
    refine w_imul (by assumption) (by omega) (by omega) (tX9_pull_0_ok (36, .imul, 1) (List.mem_of_getElem? (i := 24) rfl)) (fun yv16 ye17 => ?_)
    refine w_isub (by omega) (by omega) (tX9_pull_0_ok (37, .isub, 1) (List.mem_of_getElem? (i := 25) rfl)) (fun yv18 ye19 => ?_)
    refine w_imulB (by omega) (by omega) (tX9_pull_0_ok (38, .imul, 1) (List.mem_of_getElem? (i := 26) rfl)) (fun yv20 ye21 yb22 yb23 => ?_)
    refine w_iadd (by omega) (by omega) (tX9_pull_0_ok (39, .iadd, 1) (List.mem_of_getElem? (i := 27) rfl)) (fun yv24 ye25 => ?_)
    refine w_iret rfl (tX9_pull_0_ok (40, .ireturn, 1) (List.mem_of_getElem? (i := 28) rfl)) ?_
    refine hq _ ?_
    unfold sp_pl9
    have m9 := ye21
    rw [show yv8.toInt = (gV p.toInt.toNat).toInt by omega, show yv18.toInt = (gN p.toInt.toNat).toInt - 2 * x.toInt by omega] at m9
    unfold ln9 at hl
    rw [if_neg (by omega), if_neg (by omega)] at hl
    rw [if_neg (by omega), if_neg (by omega)]
    omega
  · refine w_aload_n (List.Mem.head _) (tX9_pull_0_ok (9, .aload_n 0, 1) (List.mem_of_getElem? (i := 5) rfl)) ?_
    refine w_get (own := 14) rfl rfl (by decide) c_w w1 (tX9_pull_0_ok (10, .getfield 15, 3) (List.mem_of_getElem? (i := 6) rfl)) ?_
    refine w_iload_n (List.Mem.tail _ (List.Mem.tail _ (List.Mem.head _))) (tX9_pull_0_ok (13, .iload_n 2, 1) (List.mem_of_getElem? (i := 7) rfl)) ?_
    refine w_iald hT c_wl (by omega) (by omega) (tX9_pull_0_ok (14, .iaload, 1) (List.mem_of_getElem? (i := 8) rfl)) (fun yv26 ye27 => ?_)
    have yi28c : yv26.toInt = (gL p.toInt.toNat).toInt := by rw [ye27]
    refine w_iret rfl (tX9_pull_0_ok (15, .ireturn, 1) (List.mem_of_getElem? (i := 9) rfl)) ?_
    refine hq _ ?_
    unfold sp_pl9
    unfold ln9 at hl
    by_cases k2 : (gK p.toInt.toNat).toInt = 2
    · rw [if_pos k2] at hl ⊢
      omega
    · rw [if_neg k2, if_pos (by omega)] at hl
      rw [if_neg k2, if_pos (by omega)]
      omega
end
