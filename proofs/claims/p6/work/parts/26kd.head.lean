/-! Integer.signum; the class's heading -/
theorem neg_v {x : Int32} (hx : -1000000000 ≤ x.toInt ∧ x.toInt ≤ 1000000000) : (-x).toInt = -x.toInt := by
  rw [Int32.toInt_neg]
  rw [Int.bmod_def]
  split <;> omega
theorem abs_v {x : Int32} (hx : -1000000000 ≤ x.toInt ∧ x.toInt ≤ 1000000000) : (if 0 ≤ x then x else 0 - x).toInt = (if x.toInt < 0 then -x.toInt else x.toInt) := by
  have h0 : (0 : Int32).toInt = 0 := rfl
  by_cases c : 0 ≤ x
  · have c2 := Int32.le_iff_toInt_le.mp c
    rw [if_pos c, if_neg (by omega)]
  · have c2 := mt Int32.le_iff_toInt_le.mpr c
    have e := fb_subI (x := 0) (y := x) (by omega) (by omega)
    rw [if_neg c, if_pos (by omega)]
    omega
section
variable {l : Launch} {D : va_G} {tys : List (ClassId × FieldType)} {A : Nat → Prop} {X : State → Prop} {fr lo : Nat} {Q : Option Value → ch_H → Prop} {cA : Nat → ClassId} {h : ch_H}
theorem c_signum {x : Int32} (hx : -1000000000 ≤ x.toInt ∧ x.toInt ≤ 1000000000) (hq : ∀ v : Int32, v.toInt = (if 0 < x.toInt then 1 else if x.toInt < 0 then -1 else 0) → Q (some (.int v)) h) : ww l D tys A X fr lo mJ6_signum_0f7a4 Q 0 [(0, .int x)] [] h := by
  refine tt_iload_n rfl (List.Mem.head _) (tJ6_signum_0f7a4_0_ok (0, .iload_n 0, 1) (List.mem_of_getElem? (i := 0) rfl)) ?_
  refine tt_bipush (v := 31) rfl (tJ6_signum_0f7a4_0_ok (1, .bipush 31, 2) (List.mem_of_getElem? (i := 1) rfl)) ?_
  refine tt_ishr (tJ6_signum_0f7a4_0_ok (3, .ishr, 1) (List.mem_of_getElem? (i := 2) rfl)) ?_
  refine tt_iload_n rfl (List.Mem.head _) (tJ6_signum_0f7a4_0_ok (4, .iload_n 0, 1) (List.mem_of_getElem? (i := 3) rfl)) ?_
  refine tt_ineg (tJ6_signum_0f7a4_0_ok (5, .ineg, 1) (List.mem_of_getElem? (i := 4) rfl)) ?_
  refine tt_bipush (v := 31) rfl (tJ6_signum_0f7a4_0_ok (6, .bipush 31, 2) (List.mem_of_getElem? (i := 5) rfl)) ?_
  refine tt_iushr (tJ6_signum_0f7a4_0_ok (8, .iushr, 1) (List.mem_of_getElem? (i := 6) rfl)) ?_
  refine tt_ior (tJ6_signum_0f7a4_0_ok (9, .ior, 1) (List.mem_of_getElem? (i := 7) rfl)) ?_
  exact tt_iret rfl (hq _ (sg_v hx rfl)) (Nat.le_refl _) (Nat.le_refl _) (tJ6_signum_0f7a4_0_ok (10, .ireturn, 1) (List.mem_of_getElem? (i := 8) rfl))
theorem w_absC {M : ch_M} {pc : Nat} {lv : List (Nat × Value)} {st : List Value} {x : Int32} (hx : -1000000000 ≤ x.toInt ∧ x.toInt ≤ 1000000000) (hM : M.1.cls = RX9) (hst : (st.map fun v => v.category).sum + 13 ≤ lo) (hf : 1 ≤ fr) (hd : decode M.2.1 pc = .ok (.invokestatic 64, 3)) (k : ∀ v : Int32, v.toInt = (if x.toInt < 0 then -x.toInt else x.toInt) → ww l D tys A X fr lo M Q (pc + 3) lv (.int v :: st) h) : ww l D tys A X fr lo M Q pc lv (.int x :: st) h := by
  have hw : Cond.methodLink M.1.cls 64 Lib.Math.abs.name ∈ wsA := by rw [hM]; exact cllw_X9 (64, 12, 0) (List.mem_of_getElem? (i := 7) rfl)
  exact tt_mabs hw pg_abs.1 pg_math pg_abs.2 hf hst (Nat.le_refl _) (Nat.le_refl _) hd (k _ (abs_v hx))
theorem w_inegB {M : ch_M} {pc : Nat} {lv : List (Nat × Value)} {st : List Value} {x : Int32} (hx : -1000000000 ≤ x.toInt ∧ x.toInt ≤ 1000000000) (hd : decode M.2.1 pc = .ok (.ineg, 1)) (k : ∀ v : Int32, v.toInt = -x.toInt → ww l D tys A X fr lo M Q (pc + 1) lv (.int v :: st) h) : ww l D tys A X fr lo M Q pc lv (.int x :: st) h := tt_ineg hd (k _ (neg_v hx))
theorem c_heading (hT : k_tys tys cA) {pl pk pn pv pd w wl : Nat} {ps ws : List Value} {gK gN gV gL gD : Nat → Int32} {p x fe : Int32} {b1 b2 : Int} (hf : 1 ≤ fr) (hlo : 30 ≤ lo) (hp : 0 ≤ p.toInt ∧ p.toInt ≤ 5) (hx : 0 ≤ x.toInt ∧ x.toInt ≤ 20) (hK : 0 ≤ (gK p.toInt.toNat).toInt ∧ (gK p.toInt.toNat).toInt ≤ 2) (hN : 0 ≤ (gN p.toInt.toNat).toInt ∧ (gN p.toInt.toNat).toInt ≤ 20) (hV : 0 ≤ (gV p.toInt.toNat).toInt ∧ (gV p.toInt.toNat).toInt ≤ 9) (hl : (gL p.toInt.toNat).toInt = ln9 (gK p.toInt.toNat).toInt b1 b2) (hlb : -1000000 ≤ (gL p.toInt.toNat).toInt ∧ (gL p.toInt.toNat).toInt ≤ 1000000) (hpb : -1000000000 ≤ sp_pl9 (gK p.toInt.toNat).toInt (gV p.toInt.toNat).toInt (gN p.toInt.toNat).toInt x.toInt b1 b2 ∧ sp_pl9 (gK p.toInt.toNat).toInt (gV p.toInt.toNat).toInt (gN p.toInt.toNat).toInt x.toInt b1 b2 ≤ 1000000000) (c_pl : h pl = some (.inr (4, ps))) (p1 : ps[1]? = some (.ref pk)) (c_pk : h pk = some (.inl (cA 0, 6, .inl gK))) (p2 : ps[2]? = some (.ref pn)) (c_pn : h pn = some (.inl (cA 0, 6, .inl gN))) (p7 : ps[7]? = some (.ref pv)) (c_pv : h pv = some (.inl (cA 0, 6, .inl gV))) (c_w : h w = some (.inr (8, ws))) (w1 : ws[1]? = some (.ref wl)) (c_wl : h wl = some (.inl (cA 0, 6, .inl gL))) (p5 : ps[5]? = some (.ref pd)) (c_pd : h pd = some (.inl (cA 0, 6, .inl gD))) (hq : ∀ v : Int32, v.toInt = (if fe.toInt = 0 ∧ -(gD p.toInt.toNat).toInt ≤ sp_pl9 (gK p.toInt.toNat).toInt (gV p.toInt.toNat).toInt (gN p.toInt.toNat).toInt x.toInt b1 b2 ∧ sp_pl9 (gK p.toInt.toNat).toInt (gV p.toInt.toNat).toInt (gN p.toInt.toNat).toInt x.toInt b1 b2 ≤ (gD p.toInt.toNat).toInt then 0 else if 0 < sp_pl9 (gK p.toInt.toNat).toInt (gV p.toInt.toNat).toInt (gN p.toInt.toNat).toInt x.toInt b1 b2 then -1 else if sp_pl9 (gK p.toInt.toNat).toInt (gV p.toInt.toNat).toInt (gN p.toInt.toNat).toInt x.toInt b1 b2 < 0 then 1 else 0) → Q (some (.int v)) h) : ww l D tys A X fr lo mX9_heading Q 0 [(0, .ref w), (1, .ref pl), (2, .int p), (3, .int x), (4, .int fe)] [] h := by
  refine w_aload_n (List.Mem.head _) (tX9_heading_0_ok (0, .aload_n 0, 1) (List.mem_of_getElem? (i := 0) rfl)) ?_
  refine w_aload_n (List.Mem.tail _ (List.Mem.head _)) (tX9_heading_0_ok (1, .aload_n 1, 1) (List.mem_of_getElem? (i := 1) rfl)) ?_
  refine w_iload_n (List.Mem.tail _ (List.Mem.tail _ (List.Mem.head _))) (tX9_heading_0_ok (2, .iload_n 2, 1) (List.mem_of_getElem? (i := 2) rfl)) ?_
  refine w_iload_n (List.Mem.tail _ (List.Mem.tail _ (List.Mem.tail _ (List.Mem.head _)))) (tX9_heading_0_ok (3, .iload_n 3, 1) (List.mem_of_getElem? (i := 3) rfl)) ?_
  refine w_callV (own := 14) (mi := 95) [.ref pl, .int p, .int x] [] [(0, .ref w), (1, .ref pl), (2, .int p), (3, .int x)] rfl (cllw_X9 (60, 0, 95) (List.mem_of_getElem? (i := 6) rfl)) rfl rfl c_w rfl (by omega) (w_lo (n := 23) rfl (by omega)) (Nat.le_of_ble_eq_true rfl) (Nat.le_of_ble_eq_true rfl) rfl (tX9_heading_0_ok (4, .invokevirtual 60, 3) (List.mem_of_getElem? (i := 4) rfl)) (c_pull hT hp hx hK hN hV hl hlb c_pl p1 c_pk p2 c_pn p7 c_pv c_w w1 c_wl (fun yv1 ye2 => ?_))
  show ww l D tys A X fr lo mX9_heading Q 7 [(0, .ref w), (1, .ref pl), (2, .int p), (3, .int x), (4, .int fe)] [.int yv1] h
  have hb9 : -1000000000 ≤ yv1.toInt ∧ yv1.toInt ≤ 1000000000 := by rw [ye2]; exact hpb
  refine w_istore [(5, .int yv1), (0, .ref w), (1, .ref pl), (2, .int p), (3, .int x), (4, .int fe)] rfl (Nat.le_of_ble_eq_true rfl) (tX9_heading_0_ok (7, .istore 5, 2) (List.mem_of_getElem? (i := 5) rfl)) ?_
  refine w_iload (List.Mem.tail _ (List.Mem.tail _ (List.Mem.tail _ (List.Mem.tail _ (List.Mem.tail _ (List.Mem.head _)))))) (tX9_heading_0_ok (9, .iload 4, 2) (List.mem_of_getElem? (i := 6) rfl)) ?_
  refine w_if_ne (tgt := 30) (tX9_heading_0_ok (11, .ifCond .ne 19, 3) (List.mem_of_getElem? (i := 7) rfl)) rfl (fun yb3 => ?_) (fun yb3 => ?_)
  · refine w_iload (List.Mem.head _) (tX9_heading_0_ok (30, .iload 5, 2) (List.mem_of_getElem? (i := 17) rfl)) ?_
    refine w_callS (own := 14) (mi := 12) [.int yv1] [] [(0, .int yv1)] rfl (cllw_X9 (72, 1, 12) (List.mem_of_getElem? (i := 8) rfl)) rfl rfl (by omega) (w_lo (n := 20) rfl (by omega)) (Nat.le_of_ble_eq_true rfl) (Nat.le_of_ble_eq_true rfl) rfl (tX9_heading_0_ok (32, .invokestatic 72, 3) (List.mem_of_getElem? (i := 18) rfl)) (c_signum hb9 (fun yv4 ye5 => ?_))
    show ww l D tys A X fr lo mX9_heading Q 35 [(5, .int yv1), (0, .ref w), (1, .ref pl), (2, .int p), (3, .int x), (4, .int fe)] [.int yv4] h
    have hs9 : -1 ≤ yv4.toInt ∧ yv4.toInt ≤ 1 := by rw [ye5]; split <;> (try split) <;> omega
    refine w_inegB (by omega) (tX9_heading_0_ok (35, .ineg, 1) (List.mem_of_getElem? (i := 19) rfl)) (fun yv6 ye7 => ?_)
    refine w_iret rfl (tX9_heading_0_ok (36, .ireturn, 1) (List.mem_of_getElem? (i := 20) rfl)) ?_
    refine hq _ ?_
    rw [← ye2]
    have s9 := ye5
    all_goals (split at s9 <;> (try split at s9) <;> (repeat split) <;> omega)
  · refine w_iload (List.Mem.head _) (tX9_heading_0_ok (14, .iload 5, 2) (List.mem_of_getElem? (i := 8) rfl)) ?_
    refine w_absC hb9 rfl (by show 13 ≤ lo; omega) (by omega) (tX9_heading_0_ok (16, .invokestatic 64, 3) (List.mem_of_getElem? (i := 9) rfl)) (fun yv8 ye9 => ?_)
    refine w_aload_n (List.Mem.tail _ (List.Mem.tail _ (List.Mem.head _))) (tX9_heading_0_ok (19, .aload_n 1, 1) (List.mem_of_getElem? (i := 10) rfl)) ?_
    refine w_get (own := 14) rfl rfl (by decide) c_pl p5 (tX9_heading_0_ok (20, .getfield 69, 3) (List.mem_of_getElem? (i := 11) rfl)) ?_
    refine w_iload_n (List.Mem.tail _ (List.Mem.tail _ (List.Mem.tail _ (List.Mem.head _)))) (tX9_heading_0_ok (23, .iload_n 2, 1) (List.mem_of_getElem? (i := 12) rfl)) ?_
    refine w_iald hT c_pd (by omega) (by omega) (tX9_heading_0_ok (24, .iaload, 1) (List.mem_of_getElem? (i := 13) rfl)) (fun yv10 ye11 => ?_)
    have yi12c : yv10.toInt = (gD p.toInt.toNat).toInt := by rw [ye11]
    refine w_icmp_gt (tgt := 30) (tX9_heading_0_ok (25, .if_icmp .gt 5, 3) (List.mem_of_getElem? (i := 14) rfl)) rfl (fun yb13 => ?_) (fun yb13 => ?_)
    · refine w_iload (List.Mem.head _) (tX9_heading_0_ok (30, .iload 5, 2) (List.mem_of_getElem? (i := 17) rfl)) ?_
      refine w_callS (own := 14) (mi := 12) [.int yv1] [] [(0, .int yv1)] rfl (cllw_X9 (72, 1, 12) (List.mem_of_getElem? (i := 8) rfl)) rfl rfl (by omega) (w_lo (n := 20) rfl (by omega)) (Nat.le_of_ble_eq_true rfl) (Nat.le_of_ble_eq_true rfl) rfl (tX9_heading_0_ok (32, .invokestatic 72, 3) (List.mem_of_getElem? (i := 18) rfl)) (c_signum hb9 (fun yv14 ye15 => ?_))
      show ww l D tys A X fr lo mX9_heading Q 35 [(5, .int yv1), (0, .ref w), (1, .ref pl), (2, .int p), (3, .int x), (4, .int fe)] [.int yv14] h
      have hs9 : -1 ≤ yv14.toInt ∧ yv14.toInt ≤ 1 := by rw [ye15]; split <;> (try split) <;> omega
      refine w_inegB (by omega) (tX9_heading_0_ok (35, .ineg, 1) (List.mem_of_getElem? (i := 19) rfl)) (fun yv16 ye17 => ?_)
      refine w_iret rfl (tX9_heading_0_ok (36, .ireturn, 1) (List.mem_of_getElem? (i := 20) rfl)) ?_
      refine hq _ ?_
      rw [← ye2]
      have a9 := ye9
      have s9 := ye15
      split at a9
      all_goals (split at s9 <;> (try split at s9) <;> (repeat split) <;> omega)
    · refine w_iconst (by decide) (tX9_heading_0_ok (28, .iconst 0, 1) (List.mem_of_getElem? (i := 15) rfl)) (fun yv18 ye19 => ?_)
      refine w_iret rfl (tX9_heading_0_ok (29, .ireturn, 1) (List.mem_of_getElem? (i := 16) rfl)) ?_
      refine hq _ ?_
      rw [← ye2]
      have a9 := ye9
      split at a9 <;> (repeat split) <;> omega
end
