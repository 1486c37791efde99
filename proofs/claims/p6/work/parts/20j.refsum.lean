/-! the reference: atoms, terms, sums, units, conditions -/
theorem r_tkq {a0 f0 f1 : Int32} {Y : Nat ⊕ Nat} {Z W : Prop} (e : ¬ f0.toInt = -1 ∧ f1.toInt = f0.toInt ∧ Z ∨ f0.toInt = -1 ∧ sp_is Y a0 f1 ∧ W) : ¬ f0.toInt = -1 ∧ f1.toInt = f0.toInt ∨ f0.toInt = -1 ∧ sp_is Y a0 f1 := by
  rcases e with ⟨e1, e2, -⟩ | ⟨e1, e2, -⟩
  · exact Or.inl ⟨e1, e2⟩
  · exact Or.inr ⟨e1, e2⟩
theorem sp_pl_0 : sp_pl 0 = false := rfl
theorem sp_an_0 : sp_an 0 = false := rfl
def sp_no (c1 c2 c : Int) : Prop := ¬ c = c1 ∧ ¬ c = c2
/-- a term: where it ends, no sign of its own stands -/
def tmP (f : Nat → Int32) (len : Nat) (Y : Nat ⊕ Nat) (L : Nat → Nat ⊕ Nat) (c1 c2 : Int) (n0 : Nat) (a fl0 : Int32) : Prop := sp_st Y L a fl0 ∧ (fl0.toInt = -1 → n0 < a.toInt.toNat ∧ sp_sk f len a.toInt.toNat = a.toInt.toNat ∧ ¬ sp_sg f len a.toInt.toNat = c1 ∧ ¬ sp_sg f len a.toInt.toNat = c2)
section
variable {l : Launch} {D : va_G} {tys : List (ClassId × FieldType)} {A : Nat → Prop} {X : State → Prop} {fr lo : Nat} {Q : Option Value → ch_H → Prop} {cA : Nat → ClassId} {h : ch_H} {m tx n le : Nat} {fs : List Value} {g f : Nat → Int32} {bg en at0 fl0 dp : Int32} {aK aV : Nat → Nat}
theorem r_atom0 (hT : k_tys tys cA) (hX : ∀ s, X s → xs A aK aV s) : PM l D tys A X cA m tx n le g f bg en mX11_atom [(0, .ref m)] (6) false (fun n9 a9 fl9 => sp_is (sp_atom f en.toInt.toNat .inl n9) a9 fl9) (6) (140) := by
  intro fr lo Q h fs at0 fl0 dp hf hl hfl hdp H hq
  have hr1 : 1 ≤ fr := by omega
  have hr2 : 30 ≤ lo := by omega
  obtain ⟨⟨⟨c_m, fl, f5, f8, f9, f10, f11⟩, f12, n_tx_m, c_x, hs, hb, ha⟩, f4, n_le_m, gl, c_le⟩ := H
  refine w_aload_n (List.Mem.head _) (tX11_atom_0_ok (0, .aload_n 0, 1) (List.mem_of_getElem? (i := 0) rfl)) ?_
  refine w_callV (own := 16) (mi := 212) [] [] [(0, .ref m)] rfl (cllw_X11 (128, 0, 212) (List.mem_of_getElem? (i := 7) rfl)) rfl rfl c_m rfl hr1 (w_lo (n := 20) rfl (Nat.le_trans (Nat.le_of_ble_eq_true rfl) hr2)) (Nat.le_of_ble_eq_true rfl) (Nat.le_of_ble_eq_true rfl) rfl (tX11_atom_0_ok (1, .invokevirtual 128, 3) (List.mem_of_getElem? (i := 1) rfl)) (r_look hT ⟨⟨c_m, fl, f5, f8, f9, f10, f11⟩, f12, n_tx_m, c_x, hs, hb, ha.1, ha.2⟩ (fun h1 fs2 at3 v4 p5 e6 e7 k8 o9 => ?_))
  obtain ⟨⟨c10, l11, f12, f13, f14, f15, f16⟩, f17, -, c18, -, -, a19, a20⟩ := p5
  have f21 := (k8 4 (by decide)).trans f4
  have c22 := (o9 le n_le_m).trans c_le
  show ww l D tys A X fr lo mX11_atom Q 4 [(0, .ref m)] [.int v4] h1
  refine w_istore_n [(1, .int v4), (0, .ref m)] rfl (Nat.le_of_ble_eq_true rfl) (tX11_atom_0_ok (4, .istore_n 1, 1) (List.mem_of_getElem? (i := 2) rfl)) ?_
  refine tt_ldcS (fun s x => (hX s x).2.2.2.2.1) (tX11_atom_0_ok (5, .ldc 32, 2) (List.mem_of_getElem? (i := 3) rfl)) ?_
  refine w_iload_n (List.Mem.head _) (tX11_atom_0_ok (7, .iload_n 1, 1) (List.mem_of_getElem? (i := 4) rfl)) ?_
  refine w_callS (own := 16) (mi := 196) [.ref (aK 1), .int v4] [] [(0, .ref (aK 1)), (1, .int v4)] rfl (cllw_X11 (144, 1, 196) (List.mem_of_getElem? (i := 20) rfl)) rfl rfl hr1 (w_lo (n := 22) rfl (Nat.le_trans (Nat.le_of_ble_eq_true rfl) hr2)) (Nat.le_of_ble_eq_true rfl) (Nat.le_of_ble_eq_true rfl) rfl (tX11_atom_0_ok (8, .invokestatic 144, 3) (List.mem_of_getElem? (i := 5) rfl)) (r_amongL7 hX ⟨by omega, w_sub (n := 22) rfl (by omega)⟩ (fun v23 e24 => ?_))
  show ww l D tys A X fr lo mX11_atom Q 11 [(1, .int v4), (0, .ref m)] [.int v23] h1
  have x25 : sp_letO v4.toInt ↔ sp_letO (sp_sg f en.toInt.toNat (sp_sk f en.toInt.toNat at0.toInt.toNat)) := sp_let_v (by omega)
  refine w_if_eq (tgt := 31) (tX11_atom_0_ok (11, .ifCond .eq 20, 3) (List.mem_of_getElem? (i := 6) rfl)) rfl (fun b26 => ?_) (fun b26 => ?_)
  · have hl9 : ¬ sp_letO (sp_sg f en.toInt.toNat (sp_sk f en.toInt.toNat at0.toInt.toNat)) := fun z9 => absurd (e24.2.mpr (x25.mpr z9)) (by omega)
    refine w_iload_n (List.Mem.head _) (tX11_atom_0_ok (31, .iload_n 1, 1) (List.mem_of_getElem? (i := 18) rfl)) ?_
    refine w_bipush (by decide) (tX11_atom_0_ok (32, .bipush 91, 2) (List.mem_of_getElem? (i := 19) rfl)) (fun v27 e28 => ?_)
    refine w_icmp_ne (tgt := 74) (tX11_atom_0_ok (34, .if_icmp .ne 40, 3) (List.mem_of_getElem? (i := 20) rfl)) rfl (fun b29 => ?_) (fun b29 => ?_)
    · refine w_aload_n (List.Mem.tail _ (List.Mem.head _)) (tX11_atom_0_ok (74, .aload_n 0, 1) (List.mem_of_getElem? (i := 43) rfl)) ?_
      refine w_callV (own := 16) (mi := 198) [] [] [(0, .ref m)] rfl (cllw_X11 (158, 0, 198) (List.mem_of_getElem? (i := 16) rfl)) rfl rfl c10 rfl hr1 (w_lo (n := 20) rfl (Nat.le_trans (Nat.le_of_ble_eq_true rfl) hr2)) (Nat.le_of_ble_eq_true rfl) (Nat.le_of_ble_eq_true rfl) rfl (tX11_atom_0_ok (75, .invokevirtual 158, 3) (List.mem_of_getElem? (i := 44) rfl)) (r_dig hT ⟨⟨c10, l11, f12, f13, f14, f15, f16⟩, f17, n_tx_m, c18, hs, hb, a19, a20⟩ (fun v31 e32 => ?_))
      show ww l D tys A X fr lo mX11_atom Q 78 [(1, .int v4), (0, .ref m)] [.int v31] h1
      refine w_if_ne (tgt := 86) (tX11_atom_0_ok (78, .ifCond .ne 8, 3) (List.mem_of_getElem? (i := 45) rfl)) rfl (fun b33 => ?_) (fun b33 => ?_)
      · refine w_iconst (by decide) (tX11_atom_0_ok (86, .iconst 0, 1) (List.mem_of_getElem? (i := 49) rfl)) (fun v34 e35 => ?_)
        refine w_istore_n [(2, .int v34), (1, .int v4), (0, .ref m)] rfl (Nat.le_of_ble_eq_true rfl) (tX11_atom_0_ok (87, .istore_n 2, 1) (List.mem_of_getElem? (i := 50) rfl)) ?_
        refine w_iconst (by decide) (tX11_atom_0_ok (88, .iconst 0, 1) (List.mem_of_getElem? (i := 51) rfl)) (fun v36 e37 => ?_)
        refine w_istore_n [(3, .int v36), (2, .int v34), (1, .int v4), (0, .ref m)] rfl (Nat.le_of_ble_eq_true rfl) (tX11_atom_0_ok (89, .istore_n 3, 1) (List.mem_of_getElem? (i := 52) rfl)) ?_
        have y1 : sp_isd f en.toInt.toNat (sp_sk f en.toInt.toNat at0.toInt.toNat) := by rw [e6] at e32; omega
        refine w_lv [(3, .int v36), (2, .int v34), (1, .int v4), (0, .ref m)] (by intro q hq; simp only [List.mem_cons, List.not_mem_nil, or_false] at hq ⊢; rcases hq with e | e | e | e <;> subst e <;> simp) ?_
        refine r_atomD hT (by omega) 4 _ _ _ _ _ _ (by omega) (by omega) (by omega) (by omega) (by omega) ⟨⟨⟨c10, l11, f12, f13, f14, f15, f16⟩, f17, n_tx_m, c18, hs, hb, a19, a20⟩, f21, n_le_m, _, c22⟩ (fun h1 fs1 at1 fl1 u p1 p2 p3 p4 => hq h1 fs1 at1 fl1 _ u p1 ?_ (by omega) (fun h9 => by cases h9) (fun j hj => (p3 j hj).trans (k8 j hj)) (fun q hq => (p4 q hq).trans (o9 q hq)))
        dsimp only
        have z9 : v34.toInt = 0 := by omega
        rw [e6, z9] at p2
        unfold sp_atom
        rw [if_neg (by omega), if_neg (show ¬ sp_let (sp_sg f en.toInt.toNat (sp_sk f en.toInt.toNat at0.toInt.toNat)) from hl9)]
        unfold sp_num
        rw [sp_sk_sk, if_pos y1]
        split <;> (simp only [sp_is]; omega)
      · refine w_aload_n (List.Mem.tail _ (List.Mem.head _)) (tX11_atom_0_ok (81, .aload_n 0, 1) (List.mem_of_getElem? (i := 46) rfl)) ?_
        refine w_callV (own := 16) (mi := 180) [] [] [(0, .ref m)] rfl (cllw_X11 (124, 0, 180) (List.mem_of_getElem? (i := 11) rfl)) rfl rfl c10 rfl hr1 (w_lo (n := 20) rfl (Nat.le_trans (Nat.le_of_ble_eq_true rfl) hr2)) (Nat.le_of_ble_eq_true rfl) (Nat.le_of_ble_eq_true rfl) rfl (tX11_atom_0_ok (82, .invokevirtual 124, 3) (List.mem_of_getElem? (i := 47) rfl)) (r_fail ⟨⟨c10, l11, f12, f13, f14, f15, f16⟩, f17, n_tx_m, c18, hs, hb, a19, a20⟩ (fun h38 fs39 fl40 v41 p42 e43 e44 k45 o46 => ?_))
        obtain ⟨⟨c47, l48, f49, f50, f51, f52, f53⟩, f54, -, c55, -, -, a56, a57⟩ := p42
        have f58 := (k45 4 (by decide)).trans f21
        have c59 := (o46 le n_le_m).trans c22
        show ww l D tys A X fr lo mX11_atom Q 85 [(1, .int v4), (0, .ref m)] [.int v41] h38
        refine w_pop rfl (tX11_atom_0_ok (85, .pop, 1) (List.mem_of_getElem? (i := 48) rfl)) ?_
        refine w_iconst (by decide) (tX11_atom_0_ok (86, .iconst 0, 1) (List.mem_of_getElem? (i := 49) rfl)) (fun v60 e61 => ?_)
        refine w_istore_n [(2, .int v60), (1, .int v4), (0, .ref m)] rfl (Nat.le_of_ble_eq_true rfl) (tX11_atom_0_ok (87, .istore_n 2, 1) (List.mem_of_getElem? (i := 50) rfl)) ?_
        refine w_iconst (by decide) (tX11_atom_0_ok (88, .iconst 0, 1) (List.mem_of_getElem? (i := 51) rfl)) (fun v62 e63 => ?_)
        refine w_istore_n [(3, .int v62), (2, .int v60), (1, .int v4), (0, .ref m)] rfl (Nat.le_of_ble_eq_true rfl) (tX11_atom_0_ok (89, .istore_n 3, 1) (List.mem_of_getElem? (i := 52) rfl)) ?_
        refine w_aload_n (List.Mem.tail _ (List.Mem.tail _ (List.Mem.tail _ (List.Mem.head _)))) (tX11_atom_0_ok (90, .aload_n 0, 1) (List.mem_of_getElem? (i := 53) rfl)) ?_
        refine w_callV (own := 16) (mi := 198) [] [] [(0, .ref m)] rfl (cllw_X11 (158, 0, 198) (List.mem_of_getElem? (i := 16) rfl)) rfl rfl c47 rfl hr1 (w_lo (n := 20) rfl (Nat.le_trans (Nat.le_of_ble_eq_true rfl) hr2)) (Nat.le_of_ble_eq_true rfl) (Nat.le_of_ble_eq_true rfl) rfl (tX11_atom_0_ok (91, .invokevirtual 158, 3) (List.mem_of_getElem? (i := 54) rfl)) (r_dig hT ⟨⟨c47, l48, f49, f50, f51, f52, f53⟩, f54, n_tx_m, c55, hs, hb, a56, a57⟩ (fun v64 e65 => ?_))
        show ww l D tys A X fr lo mX11_atom Q 94 [(3, .int v62), (2, .int v60), (1, .int v4), (0, .ref m)] [.int v64] h38
        refine w_if_eq (tgt := 156) (tX11_atom_0_ok (94, .ifCond .eq 62, 3) (List.mem_of_getElem? (i := 55) rfl)) rfl (fun b66 => ?_) (fun b66 => ?_)
        · refine w_iload_n (List.Mem.tail _ (List.Mem.head _)) (tX11_atom_1_ok (156, .iload_n 2, 1) (List.mem_of_getElem? (i := 31) rfl)) ?_
          refine w_iret rfl (tX11_atom_1_ok (157, .ireturn, 1) (List.mem_of_getElem? (i := 32) rfl)) ?_
          refine hq h38 fs39 at3 fl40 dp v60 ⟨⟨⟨c47, l48, f49, f50, f51, f52, f53⟩, f54, n_tx_m, c55, hs, hb, a56, a57⟩, f58, n_le_m, _, c59⟩ ?_ (by omega) (fun h9 => by cases h9) (fun j hj => (k45 j hj).trans (k8 j hj)) (fun q hq => (o46 q hq).trans (o9 q hq))
          dsimp only
          have y1 : ¬ sp_isd f en.toInt.toNat (sp_sk f en.toInt.toNat at0.toInt.toNat) := by rw [e6] at e32; omega
          unfold sp_atom
          rw [if_neg (by omega), if_neg (show ¬ sp_let (sp_sg f en.toInt.toNat (sp_sk f en.toInt.toNat at0.toInt.toNat)) from hl9)]
          unfold sp_num
          rw [sp_sk_sk, if_neg y1]
          show _ = _
          omega
        · exfalso; omega
    · have g67 : sp_sg f en.toInt.toNat (sp_sk f en.toInt.toNat at0.toInt.toNat) = 91 ∧ at3.toInt < en.toInt ∧ v4.toInt = 91 := by omega
      clear e7 b29
      refine w_aload_n (List.Mem.tail _ (List.Mem.head _)) (tX11_atom_0_ok (37, .aload_n 0, 1) (List.mem_of_getElem? (i := 21) rfl)) ?_
      refine w_callV (own := 16) (mi := 189) [] [] [(0, .ref m)] rfl (cllw_X11 (148, 0, 189) (List.mem_of_getElem? (i := 28) rfl)) rfl rfl c10 rfl hr1 (w_lo (n := 20) rfl (Nat.le_trans (Nat.le_of_ble_eq_true rfl) hr2)) (Nat.le_of_ble_eq_true rfl) (Nat.le_of_ble_eq_true rfl) rfl (tX11_atom_0_ok (38, .invokevirtual 148, 3) (List.mem_of_getElem? (i := 22) rfl)) (r_goesIn hT ⟨by omega, w_sub (n := 20) rfl (by omega)⟩ (by omega) (by omega) (by omega) ⟨⟨c10, l11, f12, f13, f14, f15, f16⟩, f17, n_tx_m, c18, hs, hb, a19, a20⟩ (fun h68 fs69 at70 fl71 dp72 v73 p74 e75 k76 o77 => ?_))
      obtain ⟨⟨c78, l79, f80, f81, f82, f83, f84⟩, f85, -, c86, -, -, a87, a88⟩ := p74
      have f89 := (k76 4 (by decide)).trans f21
      have c90 := (o77 le n_le_m).trans c22
      show ww l D tys A X fr lo mX11_atom Q 41 [(1, .int v4), (0, .ref m)] [.int v73] h68
      refine w_if_ne (tgt := 46) (tX11_atom_0_ok (41, .ifCond .ne 5, 3) (List.mem_of_getElem? (i := 23) rfl)) rfl (fun b91 => ?_) (fun b91 => ?_)
      · exfalso; omega
      · refine w_iconst (by decide) (tX11_atom_0_ok (44, .iconst 0, 1) (List.mem_of_getElem? (i := 24) rfl)) (fun v92 e93 => ?_)
        refine w_iret rfl (tX11_atom_0_ok (45, .ireturn, 1) (List.mem_of_getElem? (i := 25) rfl)) ?_
        refine hq h68 fs69 at70 fl71 dp72 v92 ⟨⟨⟨c78, l79, f80, f81, f82, f83, f84⟩, f85, n_tx_m, c86, hs, hb, a87, a88⟩, f89, n_le_m, _, c90⟩ ?_ (by omega) (fun h9 => by cases h9) (fun j hj => (k76 j hj).trans (k8 j hj)) (fun q hq => (o77 q hq).trans (o9 q hq))
        dsimp only
        unfold sp_atom
        rw [if_pos (by omega)]
        show _ = _
        omega
  · have hl9 := x25.mp (e24.2.mp (by omega))
    have hl8 := sp_let_b hl9
    refine w_aload_n (List.Mem.tail _ (List.Mem.head _)) (tX11_atom_0_ok (14, .aload_n 0, 1) (List.mem_of_getElem? (i := 7) rfl)) ?_
    refine w_dup rfl (tX11_atom_0_ok (15, .dup, 1) (List.mem_of_getElem? (i := 8) rfl)) ?_
    refine w_get (own := 16) rfl rfl (by decide) c10 f15 (tX11_atom_0_ok (16, .getfield 109, 3) (List.mem_of_getElem? (i := 9) rfl)) ?_
    refine w_iconst (by decide) (tX11_atom_0_ok (19, .iconst 1, 1) (List.mem_of_getElem? (i := 10) rfl)) (fun v94 e95 => ?_)
    refine w_iadd (by omega) (by omega) (tX11_atom_0_ok (20, .iadd, 1) (List.mem_of_getElem? (i := 11) rfl)) (fun v96 e97 => ?_)
    refine w_putF (own := 16) rfl rfl (by decide) rfl ⟨rfl, rfl⟩ c10 (by rw [l11]; decide) (tX11_atom_0_ok (21, .putfield 109, 3) (List.mem_of_getElem? (i := 12) rfl)) (fun h98 fs101 l102 k103 j104 c99 o100 => ?_)
    rw [l11] at l102
    have f105 := (j104 5 (by decide)).trans f12
    have f106 := (j104 8 (by decide)).trans f13
    have f107 := (j104 9 (by decide)).trans f14
    have f108 := (j104 11 (by decide)).trans f16
    have f109 := (j104 12 (by decide)).trans f17
    have f110 := (j104 4 (by decide)).trans f21
    have c111 := (o100 tx n_tx_m).trans c18
    have c112 := (o100 le n_le_m).trans c22
    refine w_aload_n (List.Mem.tail _ (List.Mem.head _)) (tX11_atom_0_ok (24, .aload_n 0, 1) (List.mem_of_getElem? (i := 13) rfl)) ?_
    refine w_get (own := 16) rfl rfl (by decide) c99 f110 (tX11_atom_0_ok (25, .getfield 20, 3) (List.mem_of_getElem? (i := 14) rfl)) ?_
    refine w_iload_n (List.Mem.head _) (tX11_atom_0_ok (28, .iload_n 1, 1) (List.mem_of_getElem? (i := 15) rfl)) ?_
    refine w_iald hT c112 (by omega) (by omega) (tX11_atom_0_ok (29, .iaload, 1) (List.mem_of_getElem? (i := 16) rfl)) (fun v113 e114 => ?_)
    refine w_iret rfl (tX11_atom_0_ok (30, .ireturn, 1) (List.mem_of_getElem? (i := 17) rfl)) ?_
    refine hq h98 fs101 v96 fl0 dp v113 ⟨⟨⟨c99, l102, f105, f106, f107, k103, f108⟩, f109, n_tx_m, c111, hs, hb, by omega, by omega⟩, f110, n_le_m, _, c112⟩ ?_ (by omega) (fun h9 => by cases h9) (fun j hj => (j104 j hj.1).trans (k8 j hj)) (fun q hq => (o100 q hq).trans (o9 q hq))
    dsimp only
    unfold sp_atom
    rw [if_neg (by omega), if_pos (show sp_let (sp_sg f en.toInt.toNat (sp_sk f en.toInt.toNat at0.toInt.toNat)) from hl9)]
    exact ⟨by omega, by omega⟩
theorem r_atomS (hT : k_tys tys cA) (hX : ∀ s, X s → xs A aK aV s) {d : Nat} {N : Nat → Nat ⊕ Nat} (h6 : d ≤ 5) (hsum : PM l D tys A X cA m tx n le g f bg en mX11_sum [(0, .ref m)] (6 - (d : Int)) false (fun n9 a9 fl9 => sp_is (sp_sum f en.toInt.toNat N n9) a9 fl9) (3 * d + 8) (75 * d + 190)) : PM l D tys A X cA m tx n le g f bg en mX11_atom [(0, .ref m)] (5 - (d : Int)) false (fun n9 a9 fl9 => sp_is (sp_atom f en.toInt.toNat (fun m9 => sp_bd (sp_sum f en.toInt.toNat N (m9 + 1)) (sp_tk f en.toInt.toNat 93)) n9) a9 fl9) (3 * d + 9) (75 * d + 215) := by
  intro fr lo Q h fs at0 fl0 dp hf hl hfl hdp H hq
  have hr1 : 1 ≤ fr := by omega
  have hr2 : 30 ≤ lo := by omega
  obtain ⟨⟨⟨c_m, fl, f5, f8, f9, f10, f11⟩, f12, n_tx_m, c_x, hs, hb, ha⟩, f4, n_le_m, gl, c_le⟩ := H
  refine w_aload_n (List.Mem.head _) (tX11_atom_0_ok (0, .aload_n 0, 1) (List.mem_of_getElem? (i := 0) rfl)) ?_
  refine w_callV (own := 16) (mi := 212) [] [] [(0, .ref m)] rfl (cllw_X11 (128, 0, 212) (List.mem_of_getElem? (i := 7) rfl)) rfl rfl c_m rfl hr1 (w_lo (n := 20) rfl (Nat.le_trans (Nat.le_of_ble_eq_true rfl) hr2)) (Nat.le_of_ble_eq_true rfl) (Nat.le_of_ble_eq_true rfl) rfl (tX11_atom_0_ok (1, .invokevirtual 128, 3) (List.mem_of_getElem? (i := 1) rfl)) (r_look hT ⟨⟨c_m, fl, f5, f8, f9, f10, f11⟩, f12, n_tx_m, c_x, hs, hb, ha.1, ha.2⟩ (fun h1 fs2 at3 v4 p5 e6 e7 k8 o9 => ?_))
  obtain ⟨⟨c10, l11, f12, f13, f14, f15, f16⟩, f17, -, c18, -, -, a19, a20⟩ := p5
  have f21 := (k8 4 (by decide)).trans f4
  have c22 := (o9 le n_le_m).trans c_le
  show ww l D tys A X fr lo mX11_atom Q 4 [(0, .ref m)] [.int v4] h1
  refine w_istore_n [(1, .int v4), (0, .ref m)] rfl (Nat.le_of_ble_eq_true rfl) (tX11_atom_0_ok (4, .istore_n 1, 1) (List.mem_of_getElem? (i := 2) rfl)) ?_
  refine tt_ldcS (fun s x => (hX s x).2.2.2.2.1) (tX11_atom_0_ok (5, .ldc 32, 2) (List.mem_of_getElem? (i := 3) rfl)) ?_
  refine w_iload_n (List.Mem.head _) (tX11_atom_0_ok (7, .iload_n 1, 1) (List.mem_of_getElem? (i := 4) rfl)) ?_
  refine w_callS (own := 16) (mi := 196) [.ref (aK 1), .int v4] [] [(0, .ref (aK 1)), (1, .int v4)] rfl (cllw_X11 (144, 1, 196) (List.mem_of_getElem? (i := 20) rfl)) rfl rfl hr1 (w_lo (n := 22) rfl (Nat.le_trans (Nat.le_of_ble_eq_true rfl) hr2)) (Nat.le_of_ble_eq_true rfl) (Nat.le_of_ble_eq_true rfl) rfl (tX11_atom_0_ok (8, .invokestatic 144, 3) (List.mem_of_getElem? (i := 5) rfl)) (r_amongL7 hX ⟨by omega, w_sub (n := 22) rfl (by omega)⟩ (fun v23 e24 => ?_))
  show ww l D tys A X fr lo mX11_atom Q 11 [(1, .int v4), (0, .ref m)] [.int v23] h1
  have x25 : sp_letO v4.toInt ↔ sp_letO (sp_sg f en.toInt.toNat (sp_sk f en.toInt.toNat at0.toInt.toNat)) := sp_let_v (by omega)
  refine w_if_eq (tgt := 31) (tX11_atom_0_ok (11, .ifCond .eq 20, 3) (List.mem_of_getElem? (i := 6) rfl)) rfl (fun b26 => ?_) (fun b26 => ?_)
  · have hl9 : ¬ sp_letO (sp_sg f en.toInt.toNat (sp_sk f en.toInt.toNat at0.toInt.toNat)) := fun z9 => absurd (e24.2.mpr (x25.mpr z9)) (by omega)
    refine w_iload_n (List.Mem.head _) (tX11_atom_0_ok (31, .iload_n 1, 1) (List.mem_of_getElem? (i := 18) rfl)) ?_
    refine w_bipush (by decide) (tX11_atom_0_ok (32, .bipush 91, 2) (List.mem_of_getElem? (i := 19) rfl)) (fun v27 e28 => ?_)
    refine w_icmp_ne (tgt := 74) (tX11_atom_0_ok (34, .if_icmp .ne 40, 3) (List.mem_of_getElem? (i := 20) rfl)) rfl (fun b29 => ?_) (fun b29 => ?_)
    · refine w_aload_n (List.Mem.tail _ (List.Mem.head _)) (tX11_atom_0_ok (74, .aload_n 0, 1) (List.mem_of_getElem? (i := 43) rfl)) ?_
      refine w_callV (own := 16) (mi := 198) [] [] [(0, .ref m)] rfl (cllw_X11 (158, 0, 198) (List.mem_of_getElem? (i := 16) rfl)) rfl rfl c10 rfl hr1 (w_lo (n := 20) rfl (Nat.le_trans (Nat.le_of_ble_eq_true rfl) hr2)) (Nat.le_of_ble_eq_true rfl) (Nat.le_of_ble_eq_true rfl) rfl (tX11_atom_0_ok (75, .invokevirtual 158, 3) (List.mem_of_getElem? (i := 44) rfl)) (r_dig hT ⟨⟨c10, l11, f12, f13, f14, f15, f16⟩, f17, n_tx_m, c18, hs, hb, a19, a20⟩ (fun v31 e32 => ?_))
      show ww l D tys A X fr lo mX11_atom Q 78 [(1, .int v4), (0, .ref m)] [.int v31] h1
      refine w_if_ne (tgt := 86) (tX11_atom_0_ok (78, .ifCond .ne 8, 3) (List.mem_of_getElem? (i := 45) rfl)) rfl (fun b33 => ?_) (fun b33 => ?_)
      · refine w_iconst (by decide) (tX11_atom_0_ok (86, .iconst 0, 1) (List.mem_of_getElem? (i := 49) rfl)) (fun v34 e35 => ?_)
        refine w_istore_n [(2, .int v34), (1, .int v4), (0, .ref m)] rfl (Nat.le_of_ble_eq_true rfl) (tX11_atom_0_ok (87, .istore_n 2, 1) (List.mem_of_getElem? (i := 50) rfl)) ?_
        refine w_iconst (by decide) (tX11_atom_0_ok (88, .iconst 0, 1) (List.mem_of_getElem? (i := 51) rfl)) (fun v36 e37 => ?_)
        refine w_istore_n [(3, .int v36), (2, .int v34), (1, .int v4), (0, .ref m)] rfl (Nat.le_of_ble_eq_true rfl) (tX11_atom_0_ok (89, .istore_n 3, 1) (List.mem_of_getElem? (i := 52) rfl)) ?_
        have y1 : sp_isd f en.toInt.toNat (sp_sk f en.toInt.toNat at0.toInt.toNat) := by rw [e6] at e32; omega
        refine w_lv [(3, .int v36), (2, .int v34), (1, .int v4), (0, .ref m)] (by intro q hq; simp only [List.mem_cons, List.not_mem_nil, or_false] at hq ⊢; rcases hq with e | e | e | e <;> subst e <;> simp) ?_
        refine r_atomD hT (by omega) 4 _ _ _ _ _ _ (by omega) (by omega) (by omega) (by omega) (by omega) ⟨⟨⟨c10, l11, f12, f13, f14, f15, f16⟩, f17, n_tx_m, c18, hs, hb, a19, a20⟩, f21, n_le_m, _, c22⟩ (fun h1 fs1 at1 fl1 u p1 p2 p3 p4 => hq h1 fs1 at1 fl1 _ u p1 ?_ (by omega) (fun h9 => by cases h9) (fun j hj => (p3 j hj).trans (k8 j hj)) (fun q hq => (p4 q hq).trans (o9 q hq)))
        dsimp only
        have z9 : v34.toInt = 0 := by omega
        rw [e6, z9] at p2
        unfold sp_atom
        rw [if_neg (by omega), if_neg (show ¬ sp_let (sp_sg f en.toInt.toNat (sp_sk f en.toInt.toNat at0.toInt.toNat)) from hl9)]
        unfold sp_num
        rw [sp_sk_sk, if_pos y1]
        split <;> (simp only [sp_is]; omega)
      · refine w_aload_n (List.Mem.tail _ (List.Mem.head _)) (tX11_atom_0_ok (81, .aload_n 0, 1) (List.mem_of_getElem? (i := 46) rfl)) ?_
        refine w_callV (own := 16) (mi := 180) [] [] [(0, .ref m)] rfl (cllw_X11 (124, 0, 180) (List.mem_of_getElem? (i := 11) rfl)) rfl rfl c10 rfl hr1 (w_lo (n := 20) rfl (Nat.le_trans (Nat.le_of_ble_eq_true rfl) hr2)) (Nat.le_of_ble_eq_true rfl) (Nat.le_of_ble_eq_true rfl) rfl (tX11_atom_0_ok (82, .invokevirtual 124, 3) (List.mem_of_getElem? (i := 47) rfl)) (r_fail ⟨⟨c10, l11, f12, f13, f14, f15, f16⟩, f17, n_tx_m, c18, hs, hb, a19, a20⟩ (fun h38 fs39 fl40 v41 p42 e43 e44 k45 o46 => ?_))
        obtain ⟨⟨c47, l48, f49, f50, f51, f52, f53⟩, f54, -, c55, -, -, a56, a57⟩ := p42
        have f58 := (k45 4 (by decide)).trans f21
        have c59 := (o46 le n_le_m).trans c22
        show ww l D tys A X fr lo mX11_atom Q 85 [(1, .int v4), (0, .ref m)] [.int v41] h38
        refine w_pop rfl (tX11_atom_0_ok (85, .pop, 1) (List.mem_of_getElem? (i := 48) rfl)) ?_
        refine w_iconst (by decide) (tX11_atom_0_ok (86, .iconst 0, 1) (List.mem_of_getElem? (i := 49) rfl)) (fun v60 e61 => ?_)
        refine w_istore_n [(2, .int v60), (1, .int v4), (0, .ref m)] rfl (Nat.le_of_ble_eq_true rfl) (tX11_atom_0_ok (87, .istore_n 2, 1) (List.mem_of_getElem? (i := 50) rfl)) ?_
        refine w_iconst (by decide) (tX11_atom_0_ok (88, .iconst 0, 1) (List.mem_of_getElem? (i := 51) rfl)) (fun v62 e63 => ?_)
        refine w_istore_n [(3, .int v62), (2, .int v60), (1, .int v4), (0, .ref m)] rfl (Nat.le_of_ble_eq_true rfl) (tX11_atom_0_ok (89, .istore_n 3, 1) (List.mem_of_getElem? (i := 52) rfl)) ?_
        refine w_aload_n (List.Mem.tail _ (List.Mem.tail _ (List.Mem.tail _ (List.Mem.head _)))) (tX11_atom_0_ok (90, .aload_n 0, 1) (List.mem_of_getElem? (i := 53) rfl)) ?_
        refine w_callV (own := 16) (mi := 198) [] [] [(0, .ref m)] rfl (cllw_X11 (158, 0, 198) (List.mem_of_getElem? (i := 16) rfl)) rfl rfl c47 rfl hr1 (w_lo (n := 20) rfl (Nat.le_trans (Nat.le_of_ble_eq_true rfl) hr2)) (Nat.le_of_ble_eq_true rfl) (Nat.le_of_ble_eq_true rfl) rfl (tX11_atom_0_ok (91, .invokevirtual 158, 3) (List.mem_of_getElem? (i := 54) rfl)) (r_dig hT ⟨⟨c47, l48, f49, f50, f51, f52, f53⟩, f54, n_tx_m, c55, hs, hb, a56, a57⟩ (fun v64 e65 => ?_))
        show ww l D tys A X fr lo mX11_atom Q 94 [(3, .int v62), (2, .int v60), (1, .int v4), (0, .ref m)] [.int v64] h38
        refine w_if_eq (tgt := 156) (tX11_atom_0_ok (94, .ifCond .eq 62, 3) (List.mem_of_getElem? (i := 55) rfl)) rfl (fun b66 => ?_) (fun b66 => ?_)
        · refine w_iload_n (List.Mem.tail _ (List.Mem.head _)) (tX11_atom_1_ok (156, .iload_n 2, 1) (List.mem_of_getElem? (i := 31) rfl)) ?_
          refine w_iret rfl (tX11_atom_1_ok (157, .ireturn, 1) (List.mem_of_getElem? (i := 32) rfl)) ?_
          refine hq h38 fs39 at3 fl40 dp v60 ⟨⟨⟨c47, l48, f49, f50, f51, f52, f53⟩, f54, n_tx_m, c55, hs, hb, a56, a57⟩, f58, n_le_m, _, c59⟩ ?_ (by omega) (fun h9 => by cases h9) (fun j hj => (k45 j hj).trans (k8 j hj)) (fun q hq => (o46 q hq).trans (o9 q hq))
          dsimp only
          have y1 : ¬ sp_isd f en.toInt.toNat (sp_sk f en.toInt.toNat at0.toInt.toNat) := by rw [e6] at e32; omega
          unfold sp_atom
          rw [if_neg (by omega), if_neg (show ¬ sp_let (sp_sg f en.toInt.toNat (sp_sk f en.toInt.toNat at0.toInt.toNat)) from hl9)]
          unfold sp_num
          rw [sp_sk_sk, if_neg y1]
          show _ = _
          omega
        · exfalso; omega
    · have g67 : sp_sg f en.toInt.toNat (sp_sk f en.toInt.toNat at0.toInt.toNat) = 91 ∧ at3.toInt < en.toInt ∧ v4.toInt = 91 := by omega
      clear e7 b29
      refine w_aload_n (List.Mem.tail _ (List.Mem.head _)) (tX11_atom_0_ok (37, .aload_n 0, 1) (List.mem_of_getElem? (i := 21) rfl)) ?_
      refine w_callV (own := 16) (mi := 189) [] [] [(0, .ref m)] rfl (cllw_X11 (148, 0, 189) (List.mem_of_getElem? (i := 28) rfl)) rfl rfl c10 rfl hr1 (w_lo (n := 20) rfl (Nat.le_trans (Nat.le_of_ble_eq_true rfl) hr2)) (Nat.le_of_ble_eq_true rfl) (Nat.le_of_ble_eq_true rfl) rfl (tX11_atom_0_ok (38, .invokevirtual 148, 3) (List.mem_of_getElem? (i := 22) rfl)) (r_goesIn hT ⟨by omega, w_sub (n := 20) rfl (by omega)⟩ (by omega) (by omega) (by omega) ⟨⟨c10, l11, f12, f13, f14, f15, f16⟩, f17, n_tx_m, c18, hs, hb, a19, a20⟩ (fun h68 fs69 at70 fl71 dp72 v73 p74 e75 k76 o77 => ?_))
      obtain ⟨⟨c78, l79, f80, f81, f82, f83, f84⟩, f85, -, c86, -, -, a87, a88⟩ := p74
      have f89 := (k76 4 (by decide)).trans f21
      have c90 := (o77 le n_le_m).trans c22
      show ww l D tys A X fr lo mX11_atom Q 41 [(1, .int v4), (0, .ref m)] [.int v73] h68
      refine w_if_ne (tgt := 46) (tX11_atom_0_ok (41, .ifCond .ne 5, 3) (List.mem_of_getElem? (i := 23) rfl)) rfl (fun b91 => ?_) (fun b91 => ?_)
      · refine w_aload_n (List.Mem.tail _ (List.Mem.head _)) (tX11_atom_0_ok (46, .aload_n 0, 1) (List.mem_of_getElem? (i := 26) rfl)) ?_
        refine w_callV (own := 16) (mi := 246) [] [] [(0, .ref m)] rfl (cllw_X11 (151, 0, 246) (List.mem_of_getElem? (i := 25) rfl)) rfl rfl c78 rfl hr1 (w_lo (n := 24) rfl (Nat.le_trans (Nat.le_of_ble_eq_true rfl) hr2)) (Nat.le_of_ble_eq_true rfl) (Nat.le_of_ble_eq_true rfl) rfl (tX11_atom_0_ok (47, .invokevirtual 151, 3) (List.mem_of_getElem? (i := 27) rfl)) (hsum _ _ _ _ _ _ _ _ (by omega) (w_sub (n := 24) rfl (by omega)) (by omega) (by omega) ⟨⟨⟨c78, l79, f80, f81, f82, f83, f84⟩, f85, n_tx_m, c86, hs, hb, a87, a88⟩, f89, n_le_m, _, c90⟩ (fun h92 fs93 at94 fl95 dp96 v97 p98 e99 e100 e101 k102 o103 => ?_))
        dsimp only at e99
        have p104 := p98.1
        obtain ⟨⟨c105, l106, f107, f108, f109, f110, f111⟩, f112, -, c113, -, -, a114, a115⟩ := p104
        have f116 := (k102 4 (by decide)).trans f89
        have c117 := (o103 le n_le_m).trans c90
        show ww l D tys A X fr lo mX11_atom Q 50 [(1, .int v4), (0, .ref m)] [.int v97] h92
        refine w_istore_n [(2, .int v97), (1, .int v4), (0, .ref m)] rfl (Nat.le_of_ble_eq_true rfl) (tX11_atom_0_ok (50, .istore_n 2, 1) (List.mem_of_getElem? (i := 28) rfl)) ?_
        refine w_aload_n (List.Mem.tail _ (List.Mem.tail _ (List.Mem.head _))) (tX11_atom_0_ok (51, .aload_n 0, 1) (List.mem_of_getElem? (i := 29) rfl)) ?_
        refine w_bipush (by decide) (tX11_atom_0_ok (52, .bipush 93, 2) (List.mem_of_getElem? (i := 30) rfl)) (fun v118 e119 => ?_)
        refine w_callV (own := 16) (mi := 248) [.int v118] [] [(0, .ref m), (1, .int v118)] rfl (cllw_X11 (154, 0, 248) (List.mem_of_getElem? (i := 21) rfl)) rfl rfl c105 rfl hr1 (w_lo (n := 21) rfl (Nat.le_trans (Nat.le_of_ble_eq_true rfl) hr2)) (Nat.le_of_ble_eq_true rfl) (Nat.le_of_ble_eq_true rfl) rfl (tX11_atom_0_ok (54, .invokevirtual 154, 3) (List.mem_of_getElem? (i := 31) rfl)) (r_takes hT (by omega) ⟨by omega, w_sub (n := 21) rfl (by omega)⟩ ⟨⟨c105, l106, f107, f108, f109, f110, f111⟩, f112, n_tx_m, c113, hs, hb, a114, a115⟩ (fun h120 fs121 at122 fl123 v124 p125 e126 k127 o128 => ?_))
        have d129 : v118.toInt = 93 := by omega
        rw [d129] at e126
        obtain ⟨⟨c130, l131, f132, f133, f134, f135, f136⟩, f137, -, c138, -, -, a139, a140⟩ := p125
        have f141 := (k127 4 (by decide)).trans f116
        have c142 := (o128 le n_le_m).trans c117
        show ww l D tys A X fr lo mX11_atom Q 57 [(2, .int v97), (1, .int v4), (0, .ref m)] [.int v124] h120
        refine w_if_ne (tgt := 62) (tX11_atom_0_ok (57, .ifCond .ne 5, 3) (List.mem_of_getElem? (i := 32) rfl)) rfl (fun b143 => ?_) (fun b143 => ?_)
        · refine w_aload_n (List.Mem.tail _ (List.Mem.tail _ (List.Mem.head _))) (tX11_atom_0_ok (62, .aload_n 0, 1) (List.mem_of_getElem? (i := 35) rfl)) ?_
          refine w_dup rfl (tX11_atom_0_ok (63, .dup, 1) (List.mem_of_getElem? (i := 36) rfl)) ?_
          refine w_get (own := 16) rfl rfl (by decide) c130 f137 (tX11_atom_0_ok (64, .getfield 121, 3) (List.mem_of_getElem? (i := 37) rfl)) ?_
          refine w_iconst (by decide) (tX11_atom_0_ok (67, .iconst 1, 1) (List.mem_of_getElem? (i := 38) rfl)) (fun v144 e145 => ?_)
          refine w_isub (by omega) (by omega) (tX11_atom_0_ok (68, .isub, 1) (List.mem_of_getElem? (i := 39) rfl)) (fun v146 e147 => ?_)
          refine w_putF (own := 16) rfl rfl (by decide) rfl ⟨rfl, rfl⟩ c130 (by rw [l131]; decide) (tX11_atom_0_ok (69, .putfield 121, 3) (List.mem_of_getElem? (i := 40) rfl)) (fun h148 fs151 l152 k153 j154 c149 o150 => ?_)
          rw [l131] at l152
          have f155 := (j154 5 (by decide)).trans f132
          have f156 := (j154 8 (by decide)).trans f133
          have f157 := (j154 9 (by decide)).trans f134
          have f158 := (j154 10 (by decide)).trans f135
          have f159 := (j154 11 (by decide)).trans f136
          have f160 := (j154 4 (by decide)).trans f141
          have c161 := (o150 tx n_tx_m).trans c138
          have c162 := (o150 le n_le_m).trans c142
          refine w_iload_n (List.Mem.head _) (tX11_atom_0_ok (72, .iload_n 2, 1) (List.mem_of_getElem? (i := 41) rfl)) ?_
          refine w_iret rfl (tX11_atom_0_ok (73, .ireturn, 1) (List.mem_of_getElem? (i := 42) rfl)) ?_
          refine hq h148 fs151 at122 fl123 v146 v97 ⟨⟨⟨c149, l152, f155, f156, f157, f158, f159⟩, k153, n_tx_m, c161, hs, hb, a139, a140⟩, f160, n_le_m, _, c162⟩ ?_ (by omega) (fun h9 => by cases h9) (fun j hj => (j154 j hj.2.2).trans ((k127 j hj).trans ((k102 j hj).trans ((k76 j hj).trans (k8 j hj))))) (fun q hq => (o150 q hq).trans ((o128 q hq).trans ((o103 q hq).trans ((o77 q hq).trans (o9 q hq)))))
          dsimp only
          have y1 : at70.toInt.toNat = sp_sk f en.toInt.toNat at0.toInt.toNat + 1 := by omega
          rw [y1] at e99
          unfold sp_atom
          rw [if_pos (by omega)]
          exact sp_is.bd e99 (r_tkq e126)
        · refine w_iconst (by decide) (tX11_atom_0_ok (60, .iconst 0, 1) (List.mem_of_getElem? (i := 33) rfl)) (fun v163 e164 => ?_)
          refine w_iret rfl (tX11_atom_0_ok (61, .ireturn, 1) (List.mem_of_getElem? (i := 34) rfl)) ?_
          refine hq h120 fs121 at122 fl123 dp96 v163 ⟨⟨⟨c130, l131, f132, f133, f134, f135, f136⟩, f137, n_tx_m, c138, hs, hb, a139, a140⟩, f141, n_le_m, _, c142⟩ ?_ (by omega) (fun h9 => by cases h9) (fun j hj => (k127 j hj).trans ((k102 j hj).trans ((k76 j hj).trans (k8 j hj)))) (fun q hq => (o128 q hq).trans ((o103 q hq).trans ((o77 q hq).trans (o9 q hq))))
          dsimp only
          have y1 : at70.toInt.toNat = sp_sk f en.toInt.toNat at0.toInt.toNat + 1 := by omega
          rw [y1] at e99
          unfold sp_atom
          rw [if_pos (by omega)]
          exact sp_is.bd e99 (r_tkq e126)
      · exfalso; omega
  · have hl9 := x25.mp (e24.2.mp (by omega))
    have hl8 := sp_let_b hl9
    refine w_aload_n (List.Mem.tail _ (List.Mem.head _)) (tX11_atom_0_ok (14, .aload_n 0, 1) (List.mem_of_getElem? (i := 7) rfl)) ?_
    refine w_dup rfl (tX11_atom_0_ok (15, .dup, 1) (List.mem_of_getElem? (i := 8) rfl)) ?_
    refine w_get (own := 16) rfl rfl (by decide) c10 f15 (tX11_atom_0_ok (16, .getfield 109, 3) (List.mem_of_getElem? (i := 9) rfl)) ?_
    refine w_iconst (by decide) (tX11_atom_0_ok (19, .iconst 1, 1) (List.mem_of_getElem? (i := 10) rfl)) (fun v165 e166 => ?_)
    refine w_iadd (by omega) (by omega) (tX11_atom_0_ok (20, .iadd, 1) (List.mem_of_getElem? (i := 11) rfl)) (fun v167 e168 => ?_)
    refine w_putF (own := 16) rfl rfl (by decide) rfl ⟨rfl, rfl⟩ c10 (by rw [l11]; decide) (tX11_atom_0_ok (21, .putfield 109, 3) (List.mem_of_getElem? (i := 12) rfl)) (fun h169 fs172 l173 k174 j175 c170 o171 => ?_)
    rw [l11] at l173
    have f176 := (j175 5 (by decide)).trans f12
    have f177 := (j175 8 (by decide)).trans f13
    have f178 := (j175 9 (by decide)).trans f14
    have f179 := (j175 11 (by decide)).trans f16
    have f180 := (j175 12 (by decide)).trans f17
    have f181 := (j175 4 (by decide)).trans f21
    have c182 := (o171 tx n_tx_m).trans c18
    have c183 := (o171 le n_le_m).trans c22
    refine w_aload_n (List.Mem.tail _ (List.Mem.head _)) (tX11_atom_0_ok (24, .aload_n 0, 1) (List.mem_of_getElem? (i := 13) rfl)) ?_
    refine w_get (own := 16) rfl rfl (by decide) c170 f181 (tX11_atom_0_ok (25, .getfield 20, 3) (List.mem_of_getElem? (i := 14) rfl)) ?_
    refine w_iload_n (List.Mem.head _) (tX11_atom_0_ok (28, .iload_n 1, 1) (List.mem_of_getElem? (i := 15) rfl)) ?_
    refine w_iald hT c183 (by omega) (by omega) (tX11_atom_0_ok (29, .iaload, 1) (List.mem_of_getElem? (i := 16) rfl)) (fun v184 e185 => ?_)
    refine w_iret rfl (tX11_atom_0_ok (30, .ireturn, 1) (List.mem_of_getElem? (i := 17) rfl)) ?_
    refine hq h169 fs172 v167 fl0 dp v184 ⟨⟨⟨c170, l173, f176, f177, f178, k174, f179⟩, f180, n_tx_m, c182, hs, hb, by omega, by omega⟩, f181, n_le_m, _, c183⟩ ?_ (by omega) (fun h9 => by cases h9) (fun j hj => (j175 j hj.1).trans (k8 j hj)) (fun q hq => (o171 q hq).trans (o9 q hq))
    dsimp only
    unfold sp_atom
    rw [if_neg (by omega), if_pos (show sp_let (sp_sg f en.toInt.toNat (sp_sk f en.toInt.toNat at0.toInt.toNat)) from hl9)]
    exact ⟨by omega, by omega⟩
theorem r_termL (hT : k_tys tys cA) {d : Nat} {N : Nat → Nat ⊕ Nat} (hNp : sp_pg N) {dv : Int} (hdv : 0 ≤ dv) (hatom : PM l D tys A X cA m tx n le g f bg en mX11_atom [(0, .ref m)] (dv) false (fun n9 a9 fl9 => sp_is (sp_atom f en.toInt.toNat N n9) a9 fl9) (3 * d + 6) (75 * d + 140)) (hf : 3 * d + 7 ≤ fr) (hl : 75 * d + 165 ≤ lo) {Y : Nat ⊕ Nat} {n0 : Nat} : ∀ (k : Nat) (vv at0 fl0 dp : Int32) (h : ch_H) (fs : List Value), (fl0.toInt = -1 → en.toInt - at0.toInt ≤ k) → dv ≤ dp.toInt ∧ dp.toInt ≤ 6 ∧ (fl0.toInt = -1 → dp.toInt = dv) → sp_st Y (sp_loop f en.toInt.toNat sp_pl (sp_atom f en.toInt.toNat N) 160) at0 fl0 → (fl0.toInt = -1 → n0 < at0.toInt.toNat) → rl cA h m fs tx n le g f bg en at0 fl0 dp → (∀ (h1 : ch_H) (fs1 : List Value) (at1 fl1 dp1 v : Int32), rl cA h1 m fs1 tx n le g f bg en at1 fl1 dp1 → tmP f en.toInt.toNat Y (sp_loop f en.toInt.toNat sp_pl (sp_atom f en.toInt.toNat N) 160) 42 47 n0 at1 fl1 → dv ≤ dp1.toInt ∧ dp1.toInt ≤ 6 ∧ (fl1.toInt = -1 → dp1.toInt = dv) → (false = true → 0 ≤ v.toInt ∧ v.toInt ≤ 1) → (∀ j, j ≠ 10 ∧ j ≠ 11 ∧ j ≠ 12 → fs1[j]? = fs[j]?) → (∀ q, q ≠ m → h1 q = h q) → Q (some (.int v)) h1) → ww l D tys A X fr lo mX11_term Q 5 [(1, .int vv), (0, .ref m)] [] h := by
  intro k
  induction k using Nat.strongRecOn with
  | ind k ih =>
    intro vv at0 fl0 dp h fs hk hdp hst hn0 H hq
    have hr1 : 1 ≤ fr := by omega
    have hr2 : 30 ≤ lo := by omega
    obtain ⟨⟨⟨c_m, fl, f5, f8, f9, f10, f11⟩, f12, n_tx_m, c_x, hs, hb, ha⟩, f4, n_le_m, gl, c_le⟩ := H
    refine w_aload_n (List.Mem.tail _ (List.Mem.head _)) (tX11_term_0_ok (5, .aload_n 0, 1) (List.mem_of_getElem? (i := 3) rfl)) ?_
    refine w_get (own := 16) rfl rfl (by decide) c_m f11 (tX11_term_0_ok (6, .getfield 118, 3) (List.mem_of_getElem? (i := 4) rfl)) ?_
    refine w_iconst (by decide) (tX11_term_0_ok (9, .iconst (-1), 1) (List.mem_of_getElem? (i := 5) rfl)) (fun v1 e2 => ?_)
    refine w_icmp_ne (tgt := 94) (tX11_term_0_ok (10, .if_icmp .ne 84, 3) (List.mem_of_getElem? (i := 6) rfl)) rfl (fun b3 => ?_) (fun b3 => ?_)
    · refine w_iload_n (List.Mem.head _) (tX11_term_0_ok (94, .iload_n 1, 1) (List.mem_of_getElem? (i := 53) rfl)) ?_
      refine w_iret rfl (tX11_term_0_ok (95, .ireturn, 1) (List.mem_of_getElem? (i := 54) rfl)) ?_
      refine hq h fs at0 fl0 dp vv ⟨⟨⟨c_m, fl, f5, f8, f9, f10, f11⟩, f12, n_tx_m, c_x, hs, hb, ha.1, ha.2⟩, f4, n_le_m, _, c_le⟩ ?_ (by omega) (fun h9 => by cases h9) (fun j hj => rfl) (fun q hq => rfl)
      exact ⟨hst, fun z9 => absurd z9 (by omega)⟩
    · have hfl9 : fl0.toInt = -1 := by omega
      have hk9 := hk hfl9
      have hd9 := hdp.2.2 hfl9
      have hd8 := hdp.2.1
      have hd7 := hdp.1
      have hn9 := hn0 hfl9
      have hsk := sp_sk_le f en.toInt.toNat at0.toInt.toNat
      clear hk hdp hn0
      refine w_aload_n (List.Mem.tail _ (List.Mem.head _)) (tX11_term_0_ok (13, .aload_n 0, 1) (List.mem_of_getElem? (i := 7) rfl)) ?_
      refine w_callV (own := 16) (mi := 212) [] [] [(0, .ref m)] rfl (cllw_X11 (128, 0, 212) (List.mem_of_getElem? (i := 7) rfl)) rfl rfl c_m rfl hr1 (w_lo (n := 20) rfl (Nat.le_trans (Nat.le_of_ble_eq_true rfl) hr2)) (Nat.le_of_ble_eq_true rfl) (Nat.le_of_ble_eq_true rfl) rfl (tX11_term_0_ok (14, .invokevirtual 128, 3) (List.mem_of_getElem? (i := 8) rfl)) (r_look hT ⟨⟨c_m, fl, f5, f8, f9, f10, f11⟩, f12, n_tx_m, c_x, hs, hb, ha.1, ha.2⟩ (fun h4 fs5 at6 v7 p8 e9 e10 k11 o12 => ?_))
      obtain ⟨⟨c13, l14, f15, f16, f17, f18, f19⟩, f20, -, c21, -, -, a22, a23⟩ := p8
      have f24 := (k11 4 (by decide)).trans f4
      have c25 := (o12 le n_le_m).trans c_le
      show ww l D tys A X fr lo mX11_term Q 17 [(1, .int vv), (0, .ref m)] [.int v7] h4
      refine w_bipush (by decide) (tX11_term_0_ok (17, .bipush 42, 2) (List.mem_of_getElem? (i := 9) rfl)) (fun v26 e27 => ?_)
      refine w_icmp_eq (tgt := 31) (tX11_term_0_ok (19, .if_icmp .eq 12, 3) (List.mem_of_getElem? (i := 10) rfl)) rfl (fun b28 => ?_) (fun b28 => ?_)
      · have g29 : sp_sg f en.toInt.toNat (sp_sk f en.toInt.toNat at0.toInt.toNat) = 42 ∧ at6.toInt < en.toInt ∧ v7.toInt = 42 := by omega
        clear e10 b28
        refine w_aload_n (List.Mem.tail _ (List.Mem.head _)) (tX11_term_0_ok (31, .aload_n 0, 1) (List.mem_of_getElem? (i := 15) rfl)) ?_
        refine w_callV (own := 16) (mi := 212) [] [] [(0, .ref m)] rfl (cllw_X11 (128, 0, 212) (List.mem_of_getElem? (i := 7) rfl)) rfl rfl c13 rfl hr1 (w_lo (n := 20) rfl (Nat.le_trans (Nat.le_of_ble_eq_true rfl) hr2)) (Nat.le_of_ble_eq_true rfl) (Nat.le_of_ble_eq_true rfl) rfl (tX11_term_0_ok (32, .invokevirtual 128, 3) (List.mem_of_getElem? (i := 16) rfl)) (r_look hT ⟨⟨c13, l14, f15, f16, f17, f18, f19⟩, f20, n_tx_m, c21, hs, hb, a22, a23⟩ (fun h30 fs31 at32 v33 p34 e35 e36 k37 o38 => ?_))
        obtain ⟨⟨c39, l40, f41, f42, f43, f44, f45⟩, f46, -, c47, -, -, a48, a49⟩ := p34
        have f50 := (k37 4 (by decide)).trans f24
        have c51 := (o38 le n_le_m).trans c25
        rw [e9, sp_sk_sk] at e35 e36
        show ww l D tys A X fr lo mX11_term Q 35 [(1, .int vv), (0, .ref m)] [.int v33] h30
        refine w_bipush (by decide) (tX11_term_0_ok (35, .bipush 42, 2) (List.mem_of_getElem? (i := 17) rfl)) (fun v52 e53 => ?_)
        refine w_icmp_ne (tgt := 44) (tX11_term_0_ok (37, .if_icmp .ne 7, 3) (List.mem_of_getElem? (i := 18) rfl)) rfl (fun b54 => ?_) (fun b54 => ?_)
        · exfalso; omega
        · have g56 : sp_sg f en.toInt.toNat (sp_sk f en.toInt.toNat at0.toInt.toNat) = 42 ∧ at32.toInt < en.toInt ∧ v33.toInt = 42 := by omega
          clear e36 b54
          refine w_iconst (by decide) (tX11_term_0_ok (40, .iconst 1, 1) (List.mem_of_getElem? (i := 19) rfl)) (fun v57 e58 => ?_)
          refine w_goto (tgt := 45) (tX11_term_0_ok (41, .goto 4, 3) (List.mem_of_getElem? (i := 20) rfl)) rfl ?_
          refine w_istore_n [(2, .int v57), (1, .int vv), (0, .ref m)] rfl (Nat.le_of_ble_eq_true rfl) (tX11_term_0_ok (45, .istore_n 2, 1) (List.mem_of_getElem? (i := 22) rfl)) ?_
          refine w_aload_n (List.Mem.tail _ (List.Mem.tail _ (List.Mem.head _))) (tX11_term_0_ok (46, .aload_n 0, 1) (List.mem_of_getElem? (i := 23) rfl)) ?_
          refine w_dup rfl (tX11_term_0_ok (47, .dup, 1) (List.mem_of_getElem? (i := 24) rfl)) ?_
          refine w_get (own := 16) rfl rfl (by decide) c39 f44 (tX11_term_0_ok (48, .getfield 109, 3) (List.mem_of_getElem? (i := 25) rfl)) ?_
          refine w_iconst (by decide) (tX11_term_0_ok (51, .iconst 1, 1) (List.mem_of_getElem? (i := 26) rfl)) (fun v59 e60 => ?_)
          refine w_iadd (by omega) (by omega) (tX11_term_0_ok (52, .iadd, 1) (List.mem_of_getElem? (i := 27) rfl)) (fun v61 e62 => ?_)
          refine w_putF (own := 16) rfl rfl (by decide) rfl ⟨rfl, rfl⟩ c39 (by rw [l40]; decide) (tX11_term_0_ok (53, .putfield 109, 3) (List.mem_of_getElem? (i := 28) rfl)) (fun h63 fs66 l67 k68 j69 c64 o65 => ?_)
          rw [l40] at l67
          have f70 := (j69 5 (by decide)).trans f41
          have f71 := (j69 8 (by decide)).trans f42
          have f72 := (j69 9 (by decide)).trans f43
          have f73 := (j69 11 (by decide)).trans f45
          have f74 := (j69 12 (by decide)).trans f46
          have f75 := (j69 4 (by decide)).trans f50
          have c76 := (o65 tx n_tx_m).trans c47
          have c77 := (o65 le n_le_m).trans c51
          refine w_aload_n (List.Mem.tail _ (List.Mem.tail _ (List.Mem.head _))) (tX11_term_0_ok (56, .aload_n 0, 1) (List.mem_of_getElem? (i := 29) rfl)) ?_
          refine w_callV (own := 16) (mi := 161) [] [] [(0, .ref m)] rfl (cllw_X11 (161, 0, 161) (List.mem_of_getElem? (i := 27) rfl)) rfl rfl c64 rfl hr1 (w_lo (n := 23) rfl (Nat.le_trans (Nat.le_of_ble_eq_true rfl) hr2)) (Nat.le_of_ble_eq_true rfl) (Nat.le_of_ble_eq_true rfl) rfl (tX11_term_0_ok (57, .invokevirtual 161, 3) (List.mem_of_getElem? (i := 30) rfl)) (hatom _ _ _ _ _ _ _ _ (by omega) (w_sub (n := 23) rfl (by omega)) (by omega) (by omega) ⟨⟨⟨c64, l67, f70, f71, f72, k68, f73⟩, f74, n_tx_m, c76, hs, hb, by omega, by omega⟩, f75, n_le_m, _, c77⟩ (fun h78 fs79 at80 fl81 dp82 v83 p84 e85 e86 e87 k88 o89 => ?_))
          dsimp only at e85
          have p90 := p84.1
          obtain ⟨⟨c91, l92, f93, f94, f95, f96, f97⟩, f98, -, c99, -, -, a100, a101⟩ := p90
          have f102 := (k88 4 (by decide)).trans f75
          have c103 := (o89 le n_le_m).trans c77
          show ww l D tys A X fr lo mX11_term Q 60 [(2, .int v57), (1, .int vv), (0, .ref m)] [.int v83] h78
          refine w_i2l (tX11_term_0_ok (60, .i2l, 1) (List.mem_of_getElem? (i := 31) rfl)) (fun v104 => ?_)
          refine w_lstore_n [(3, .long v104), (2, .int v57), (1, .int vv), (0, .ref m)] rfl (Nat.le_of_ble_eq_true rfl) (tX11_term_0_ok (61, .lstore_n 3, 1) (List.mem_of_getElem? (i := 32) rfl)) ?_
          refine w_iload_n (List.Mem.tail _ (List.Mem.head _)) (tX11_term_0_ok (62, .iload_n 2, 1) (List.mem_of_getElem? (i := 33) rfl)) ?_
          refine w_if_eq (tgt := 73) (tX11_term_0_ok (63, .ifCond .eq 10, 3) (List.mem_of_getElem? (i := 34) rfl)) rfl (fun b105 => ?_) (fun b105 => ?_)
          · exfalso; omega
          · refine w_iload_n (List.Mem.tail _ (List.Mem.tail _ (List.Mem.head _))) (tX11_term_0_ok (66, .iload_n 1, 1) (List.mem_of_getElem? (i := 35) rfl)) ?_
            refine w_i2l (tX11_term_0_ok (67, .i2l, 1) (List.mem_of_getElem? (i := 36) rfl)) (fun v106 => ?_)
            refine w_lload_n (List.Mem.head _) (tX11_term_0_ok (68, .lload_n 3, 1) (List.mem_of_getElem? (i := 37) rfl)) ?_
            refine w_lmul (tX11_term_0_ok (69, .lmul, 1) (List.mem_of_getElem? (i := 38) rfl)) (fun v107 => ?_)
            refine w_goto (tgt := 87) (tX11_term_0_ok (70, .goto 17, 3) (List.mem_of_getElem? (i := 39) rfl)) rfl ?_
            refine w_callS (own := 16) (mi := 265) [.long v107] [] [(0, .long v107)] rfl (cllw_X11 (164, 1, 265) (List.mem_of_getElem? (i := 29) rfl)) rfl rfl hr1 (w_lo (n := 21) rfl (Nat.le_trans (Nat.le_of_ble_eq_true rfl) hr2)) (Nat.le_of_ble_eq_true rfl) (Nat.le_of_ble_eq_true rfl) rfl (tX11_term_0_ok (87, .invokestatic 164, 3) (List.mem_of_getElem? (i := 50) rfl)) (h_within (by omega) (w_sub (n := 21) rfl (by omega)) (fun v108 e109 => ?_))
            show ww l D tys A X fr lo mX11_term Q 90 [(3, .long v104), (2, .int v57), (1, .int vv), (0, .ref m)] [.int v108] h78
            refine w_istore_n [(1, .int v108), (3, .long v104), (2, .int v57), (0, .ref m)] rfl (Nat.le_of_ble_eq_true rfl) (tX11_term_0_ok (90, .istore_n 1, 1) (List.mem_of_getElem? (i := 51) rfl)) ?_
            refine w_goto (tgt := 5) (tX11_term_0_ok (91, .goto (-86), 3) (List.mem_of_getElem? (i := 52) rfl)) rfl ?_
            have y1 : v61.toInt.toNat = sp_sk f en.toInt.toNat at0.toInt.toNat + 1 := by omega
            rw [y1] at e85
            have y2 : Y = sp_loop f en.toInt.toNat sp_pl (sp_atom f en.toInt.toNat N) 160 at0.toInt.toNat := by rcases hst with ⟨z1, z2⟩ | ⟨z1, z2⟩ <;> first | exact z2 | exact absurd hfl9 z1
            rw [sp_lp sp_pl_0 (by omega) (sp_atom_pg hNp), if_pos (sp_pl_iff.mpr (by omega))] at y2
            refine w_lv [(1, .int v108), (0, .ref m)] (by intro q hq; simp only [List.mem_cons, List.not_mem_nil, or_false] at hq ⊢; rcases hq with e | e <;> subst e <;> simp) ?_
            refine ih (k - 1) (by omega) _ _ _ _ _ _ (fun z9 => by obtain ⟨q9, q8, q7⟩ := sp_is.inr e85 z9; have q6 := (sp_atom_pg hNp) _ _ q8; omega) (by omega) (sp_st.go y2 rfl e85) (fun z9 => by obtain ⟨q9, q8, q7⟩ := sp_is.inr e85 z9; have q6 := (sp_atom_pg hNp) _ _ q8; omega) ⟨⟨⟨c91, l92, f93, f94, f95, f96, f97⟩, f98, n_tx_m, c99, hs, hb, a100, a101⟩, f102, n_le_m, _, c103⟩ (fun h1 fs1 at1 fl1 dp1 u p1 p2 p5 p6 p3 p4 => hq h1 fs1 at1 fl1 dp1 u p1 p2 p5 p6 (fun j hj => (p3 j hj).trans ((k88 j hj).trans ((j69 j hj.1).trans ((k37 j hj).trans (k11 j hj))))) (fun q hq => (p4 q hq).trans ((o89 q hq).trans ((o65 q hq).trans ((o38 q hq).trans (o12 q hq))))))
      · have g110 : ¬ sp_sg f en.toInt.toNat (sp_sk f en.toInt.toNat at0.toInt.toNat) = 42 := by omega
        clear e10 b28
        refine w_aload_n (List.Mem.tail _ (List.Mem.head _)) (tX11_term_0_ok (22, .aload_n 0, 1) (List.mem_of_getElem? (i := 11) rfl)) ?_
        refine w_callV (own := 16) (mi := 212) [] [] [(0, .ref m)] rfl (cllw_X11 (128, 0, 212) (List.mem_of_getElem? (i := 7) rfl)) rfl rfl c13 rfl hr1 (w_lo (n := 20) rfl (Nat.le_trans (Nat.le_of_ble_eq_true rfl) hr2)) (Nat.le_of_ble_eq_true rfl) (Nat.le_of_ble_eq_true rfl) rfl (tX11_term_0_ok (23, .invokevirtual 128, 3) (List.mem_of_getElem? (i := 12) rfl)) (r_look hT ⟨⟨c13, l14, f15, f16, f17, f18, f19⟩, f20, n_tx_m, c21, hs, hb, a22, a23⟩ (fun h111 fs112 at113 v114 p115 e116 e117 k118 o119 => ?_))
        obtain ⟨⟨c120, l121, f122, f123, f124, f125, f126⟩, f127, -, c128, -, -, a129, a130⟩ := p115
        have f131 := (k118 4 (by decide)).trans f24
        have c132 := (o119 le n_le_m).trans c25
        rw [e9, sp_sk_sk] at e116 e117
        show ww l D tys A X fr lo mX11_term Q 26 [(1, .int vv), (0, .ref m)] [.int v114] h111
        refine w_bipush (by decide) (tX11_term_0_ok (26, .bipush 47, 2) (List.mem_of_getElem? (i := 13) rfl)) (fun v133 e134 => ?_)
        refine w_icmp_ne (tgt := 94) (tX11_term_0_ok (28, .if_icmp .ne 66, 3) (List.mem_of_getElem? (i := 14) rfl)) rfl (fun b135 => ?_) (fun b135 => ?_)
        · have g136 : ¬ sp_sg f en.toInt.toNat (sp_sk f en.toInt.toNat at0.toInt.toNat) = 47 := by omega
          clear e117 b135
          refine w_iload_n (List.Mem.head _) (tX11_term_0_ok (94, .iload_n 1, 1) (List.mem_of_getElem? (i := 53) rfl)) ?_
          refine w_iret rfl (tX11_term_0_ok (95, .ireturn, 1) (List.mem_of_getElem? (i := 54) rfl)) ?_
          have y2 : Y = sp_loop f en.toInt.toNat sp_pl (sp_atom f en.toInt.toNat N) 160 at0.toInt.toNat := by rcases hst with ⟨z1, z2⟩ | ⟨z1, z2⟩ <;> first | exact z2 | exact absurd hfl9 z1
          refine hq h111 fs112 at113 fl0 dp vv ⟨⟨⟨c120, l121, f122, f123, f124, f125, f126⟩, f127, n_tx_m, c128, hs, hb, a129, a130⟩, f131, n_le_m, _, c132⟩ ?_ (by omega) (fun h9 => by cases h9) (fun j hj => (k118 j hj).trans (k11 j hj)) (fun q hq => (o119 q hq).trans (o12 q hq))
          refine ⟨Or.inr ⟨by omega, ?_⟩, fun z9 => ⟨by have z8 := sp_sk_le f en.toInt.toNat at0.toInt.toNat; omega, ?_, ?_⟩⟩
          · rw [y2]; exact sp_lp_sk sp_pl_0 (by omega) (sp_atom_pg hNp) (by omega)
          · rw [e116, sp_sk_sk]
          · rw [e116]; exact ⟨by omega, by omega⟩
        · have g137 : sp_sg f en.toInt.toNat (sp_sk f en.toInt.toNat at0.toInt.toNat) = 47 ∧ at113.toInt < en.toInt ∧ v114.toInt = 47 := by omega
          clear e117 b135
          refine w_aload_n (List.Mem.tail _ (List.Mem.head _)) (tX11_term_0_ok (31, .aload_n 0, 1) (List.mem_of_getElem? (i := 15) rfl)) ?_
          refine w_callV (own := 16) (mi := 212) [] [] [(0, .ref m)] rfl (cllw_X11 (128, 0, 212) (List.mem_of_getElem? (i := 7) rfl)) rfl rfl c120 rfl hr1 (w_lo (n := 20) rfl (Nat.le_trans (Nat.le_of_ble_eq_true rfl) hr2)) (Nat.le_of_ble_eq_true rfl) (Nat.le_of_ble_eq_true rfl) rfl (tX11_term_0_ok (32, .invokevirtual 128, 3) (List.mem_of_getElem? (i := 16) rfl)) (r_look hT ⟨⟨c120, l121, f122, f123, f124, f125, f126⟩, f127, n_tx_m, c128, hs, hb, a129, a130⟩ (fun h138 fs139 at140 v141 p142 e143 e144 k145 o146 => ?_))
          obtain ⟨⟨c147, l148, f149, f150, f151, f152, f153⟩, f154, -, c155, -, -, a156, a157⟩ := p142
          have f158 := (k145 4 (by decide)).trans f131
          have c159 := (o146 le n_le_m).trans c132
          rw [e116, sp_sk_sk] at e143 e144
          show ww l D tys A X fr lo mX11_term Q 35 [(1, .int vv), (0, .ref m)] [.int v141] h138
          refine w_bipush (by decide) (tX11_term_0_ok (35, .bipush 42, 2) (List.mem_of_getElem? (i := 17) rfl)) (fun v160 e161 => ?_)
          refine w_icmp_ne (tgt := 44) (tX11_term_0_ok (37, .if_icmp .ne 7, 3) (List.mem_of_getElem? (i := 18) rfl)) rfl (fun b162 => ?_) (fun b162 => ?_)
          · have g163 : ¬ sp_sg f en.toInt.toNat (sp_sk f en.toInt.toNat at0.toInt.toNat) = 42 := by omega
            clear e144 b162
            refine w_iconst (by decide) (tX11_term_0_ok (44, .iconst 0, 1) (List.mem_of_getElem? (i := 21) rfl)) (fun v164 e165 => ?_)
            refine w_istore_n [(2, .int v164), (1, .int vv), (0, .ref m)] rfl (Nat.le_of_ble_eq_true rfl) (tX11_term_0_ok (45, .istore_n 2, 1) (List.mem_of_getElem? (i := 22) rfl)) ?_
            refine w_aload_n (List.Mem.tail _ (List.Mem.tail _ (List.Mem.head _))) (tX11_term_0_ok (46, .aload_n 0, 1) (List.mem_of_getElem? (i := 23) rfl)) ?_
            refine w_dup rfl (tX11_term_0_ok (47, .dup, 1) (List.mem_of_getElem? (i := 24) rfl)) ?_
            refine w_get (own := 16) rfl rfl (by decide) c147 f152 (tX11_term_0_ok (48, .getfield 109, 3) (List.mem_of_getElem? (i := 25) rfl)) ?_
            refine w_iconst (by decide) (tX11_term_0_ok (51, .iconst 1, 1) (List.mem_of_getElem? (i := 26) rfl)) (fun v166 e167 => ?_)
            refine w_iadd (by omega) (by omega) (tX11_term_0_ok (52, .iadd, 1) (List.mem_of_getElem? (i := 27) rfl)) (fun v168 e169 => ?_)
            refine w_putF (own := 16) rfl rfl (by decide) rfl ⟨rfl, rfl⟩ c147 (by rw [l148]; decide) (tX11_term_0_ok (53, .putfield 109, 3) (List.mem_of_getElem? (i := 28) rfl)) (fun h170 fs173 l174 k175 j176 c171 o172 => ?_)
            rw [l148] at l174
            have f177 := (j176 5 (by decide)).trans f149
            have f178 := (j176 8 (by decide)).trans f150
            have f179 := (j176 9 (by decide)).trans f151
            have f180 := (j176 11 (by decide)).trans f153
            have f181 := (j176 12 (by decide)).trans f154
            have f182 := (j176 4 (by decide)).trans f158
            have c183 := (o172 tx n_tx_m).trans c155
            have c184 := (o172 le n_le_m).trans c159
            refine w_aload_n (List.Mem.tail _ (List.Mem.tail _ (List.Mem.head _))) (tX11_term_0_ok (56, .aload_n 0, 1) (List.mem_of_getElem? (i := 29) rfl)) ?_
            refine w_callV (own := 16) (mi := 161) [] [] [(0, .ref m)] rfl (cllw_X11 (161, 0, 161) (List.mem_of_getElem? (i := 27) rfl)) rfl rfl c171 rfl hr1 (w_lo (n := 23) rfl (Nat.le_trans (Nat.le_of_ble_eq_true rfl) hr2)) (Nat.le_of_ble_eq_true rfl) (Nat.le_of_ble_eq_true rfl) rfl (tX11_term_0_ok (57, .invokevirtual 161, 3) (List.mem_of_getElem? (i := 30) rfl)) (hatom _ _ _ _ _ _ _ _ (by omega) (w_sub (n := 23) rfl (by omega)) (by omega) (by omega) ⟨⟨⟨c171, l174, f177, f178, f179, k175, f180⟩, f181, n_tx_m, c183, hs, hb, by omega, by omega⟩, f182, n_le_m, _, c184⟩ (fun h185 fs186 at187 fl188 dp189 v190 p191 e192 e193 e194 k195 o196 => ?_))
            dsimp only at e192
            have p197 := p191.1
            obtain ⟨⟨c198, l199, f200, f201, f202, f203, f204⟩, f205, -, c206, -, -, a207, a208⟩ := p197
            have f209 := (k195 4 (by decide)).trans f182
            have c210 := (o196 le n_le_m).trans c184
            show ww l D tys A X fr lo mX11_term Q 60 [(2, .int v164), (1, .int vv), (0, .ref m)] [.int v190] h185
            refine w_i2l (tX11_term_0_ok (60, .i2l, 1) (List.mem_of_getElem? (i := 31) rfl)) (fun v211 => ?_)
            refine w_lstore_n [(3, .long v211), (2, .int v164), (1, .int vv), (0, .ref m)] rfl (Nat.le_of_ble_eq_true rfl) (tX11_term_0_ok (61, .lstore_n 3, 1) (List.mem_of_getElem? (i := 32) rfl)) ?_
            refine w_iload_n (List.Mem.tail _ (List.Mem.head _)) (tX11_term_0_ok (62, .iload_n 2, 1) (List.mem_of_getElem? (i := 33) rfl)) ?_
            refine w_if_eq (tgt := 73) (tX11_term_0_ok (63, .ifCond .eq 10, 3) (List.mem_of_getElem? (i := 34) rfl)) rfl (fun b212 => ?_) (fun b212 => ?_)
            · refine w_lload_n (List.Mem.head _) (tX11_term_0_ok (73, .lload_n 3, 1) (List.mem_of_getElem? (i := 40) rfl)) ?_
              refine w_lconst (tX11_term_0_ok (74, .lconst 0, 1) (List.mem_of_getElem? (i := 41) rfl)) (fun v213 e214 => ?_)
              refine w_lcmp (tX11_term_0_ok (75, .lcmp, 1) (List.mem_of_getElem? (i := 42) rfl)) (fun v215 e216 => ?_)
              refine w_if_ne (tgt := 83) (tX11_term_0_ok (76, .ifCond .ne 7, 3) (List.mem_of_getElem? (i := 43) rfl)) rfl (fun b217 => ?_) (fun b217 => ?_)
              · refine w_iload_n (List.Mem.tail _ (List.Mem.tail _ (List.Mem.head _))) (tX11_term_0_ok (83, .iload_n 1, 1) (List.mem_of_getElem? (i := 46) rfl)) ?_
                refine w_i2l (tX11_term_0_ok (84, .i2l, 1) (List.mem_of_getElem? (i := 47) rfl)) (fun v218 => ?_)
                refine w_lload_n (List.Mem.head _) (tX11_term_0_ok (85, .lload_n 3, 1) (List.mem_of_getElem? (i := 48) rfl)) ?_
                refine w_ldiv (fun q9 => e216 (by omega) (q9.trans e214.symm)) (tX11_term_0_ok (86, .ldiv, 1) (List.mem_of_getElem? (i := 49) rfl)) (fun v219 => ?_)
                refine w_callS (own := 16) (mi := 265) [.long v219] [] [(0, .long v219)] rfl (cllw_X11 (164, 1, 265) (List.mem_of_getElem? (i := 29) rfl)) rfl rfl hr1 (w_lo (n := 21) rfl (Nat.le_trans (Nat.le_of_ble_eq_true rfl) hr2)) (Nat.le_of_ble_eq_true rfl) (Nat.le_of_ble_eq_true rfl) rfl (tX11_term_0_ok (87, .invokestatic 164, 3) (List.mem_of_getElem? (i := 50) rfl)) (h_within (by omega) (w_sub (n := 21) rfl (by omega)) (fun v220 e221 => ?_))
                show ww l D tys A X fr lo mX11_term Q 90 [(3, .long v211), (2, .int v164), (1, .int vv), (0, .ref m)] [.int v220] h185
                refine w_istore_n [(1, .int v220), (3, .long v211), (2, .int v164), (0, .ref m)] rfl (Nat.le_of_ble_eq_true rfl) (tX11_term_0_ok (90, .istore_n 1, 1) (List.mem_of_getElem? (i := 51) rfl)) ?_
                refine w_goto (tgt := 5) (tX11_term_0_ok (91, .goto (-86), 3) (List.mem_of_getElem? (i := 52) rfl)) rfl ?_
                have y1 : v168.toInt.toNat = sp_sk f en.toInt.toNat at0.toInt.toNat + 1 := by omega
                rw [y1] at e192
                have y2 : Y = sp_loop f en.toInt.toNat sp_pl (sp_atom f en.toInt.toNat N) 160 at0.toInt.toNat := by rcases hst with ⟨z1, z2⟩ | ⟨z1, z2⟩ <;> first | exact z2 | exact absurd hfl9 z1
                rw [sp_lp sp_pl_0 (by omega) (sp_atom_pg hNp), if_pos (sp_pl_iff.mpr (by omega))] at y2
                refine w_lv [(1, .int v220), (0, .ref m)] (by intro q hq; simp only [List.mem_cons, List.not_mem_nil, or_false] at hq ⊢; rcases hq with e | e <;> subst e <;> simp) ?_
                refine ih (k - 1) (by omega) _ _ _ _ _ _ (fun z9 => by obtain ⟨q9, q8, q7⟩ := sp_is.inr e192 z9; have q6 := (sp_atom_pg hNp) _ _ q8; omega) (by omega) (sp_st.go y2 rfl e192) (fun z9 => by obtain ⟨q9, q8, q7⟩ := sp_is.inr e192 z9; have q6 := (sp_atom_pg hNp) _ _ q8; omega) ⟨⟨⟨c198, l199, f200, f201, f202, f203, f204⟩, f205, n_tx_m, c206, hs, hb, a207, a208⟩, f209, n_le_m, _, c210⟩ (fun h1 fs1 at1 fl1 dp1 u p1 p2 p5 p6 p3 p4 => hq h1 fs1 at1 fl1 dp1 u p1 p2 p5 p6 (fun j hj => (p3 j hj).trans ((k195 j hj).trans ((j176 j hj.1).trans ((k145 j hj).trans ((k118 j hj).trans (k11 j hj)))))) (fun q hq => (p4 q hq).trans ((o196 q hq).trans ((o172 q hq).trans ((o146 q hq).trans ((o119 q hq).trans (o12 q hq)))))))
              · refine w_lconst (tX11_term_0_ok (79, .lconst 0, 1) (List.mem_of_getElem? (i := 44) rfl)) (fun v222 e223 => ?_)
                refine w_goto (tgt := 87) (tX11_term_0_ok (80, .goto 7, 3) (List.mem_of_getElem? (i := 45) rfl)) rfl ?_
                refine w_callS (own := 16) (mi := 265) [.long v222] [] [(0, .long v222)] rfl (cllw_X11 (164, 1, 265) (List.mem_of_getElem? (i := 29) rfl)) rfl rfl hr1 (w_lo (n := 21) rfl (Nat.le_trans (Nat.le_of_ble_eq_true rfl) hr2)) (Nat.le_of_ble_eq_true rfl) (Nat.le_of_ble_eq_true rfl) rfl (tX11_term_0_ok (87, .invokestatic 164, 3) (List.mem_of_getElem? (i := 50) rfl)) (h_within (by omega) (w_sub (n := 21) rfl (by omega)) (fun v224 e225 => ?_))
                show ww l D tys A X fr lo mX11_term Q 90 [(3, .long v211), (2, .int v164), (1, .int vv), (0, .ref m)] [.int v224] h185
                refine w_istore_n [(1, .int v224), (3, .long v211), (2, .int v164), (0, .ref m)] rfl (Nat.le_of_ble_eq_true rfl) (tX11_term_0_ok (90, .istore_n 1, 1) (List.mem_of_getElem? (i := 51) rfl)) ?_
                refine w_goto (tgt := 5) (tX11_term_0_ok (91, .goto (-86), 3) (List.mem_of_getElem? (i := 52) rfl)) rfl ?_
                have y1 : v168.toInt.toNat = sp_sk f en.toInt.toNat at0.toInt.toNat + 1 := by omega
                rw [y1] at e192
                have y2 : Y = sp_loop f en.toInt.toNat sp_pl (sp_atom f en.toInt.toNat N) 160 at0.toInt.toNat := by rcases hst with ⟨z1, z2⟩ | ⟨z1, z2⟩ <;> first | exact z2 | exact absurd hfl9 z1
                rw [sp_lp sp_pl_0 (by omega) (sp_atom_pg hNp), if_pos (sp_pl_iff.mpr (by omega))] at y2
                refine w_lv [(1, .int v224), (0, .ref m)] (by intro q hq; simp only [List.mem_cons, List.not_mem_nil, or_false] at hq ⊢; rcases hq with e | e <;> subst e <;> simp) ?_
                refine ih (k - 1) (by omega) _ _ _ _ _ _ (fun z9 => by obtain ⟨q9, q8, q7⟩ := sp_is.inr e192 z9; have q6 := (sp_atom_pg hNp) _ _ q8; omega) (by omega) (sp_st.go y2 rfl e192) (fun z9 => by obtain ⟨q9, q8, q7⟩ := sp_is.inr e192 z9; have q6 := (sp_atom_pg hNp) _ _ q8; omega) ⟨⟨⟨c198, l199, f200, f201, f202, f203, f204⟩, f205, n_tx_m, c206, hs, hb, a207, a208⟩, f209, n_le_m, _, c210⟩ (fun h1 fs1 at1 fl1 dp1 u p1 p2 p5 p6 p3 p4 => hq h1 fs1 at1 fl1 dp1 u p1 p2 p5 p6 (fun j hj => (p3 j hj).trans ((k195 j hj).trans ((j176 j hj.1).trans ((k145 j hj).trans ((k118 j hj).trans (k11 j hj)))))) (fun q hq => (p4 q hq).trans ((o196 q hq).trans ((o172 q hq).trans ((o146 q hq).trans ((o119 q hq).trans (o12 q hq)))))))
            · exfalso; omega
          · exfalso; omega
theorem r_term (hT : k_tys tys cA) {d : Nat} {N : Nat → Nat ⊕ Nat} (hNp : sp_pg N) {dv : Int} (hdv : 0 ≤ dv) (hatom : PM l D tys A X cA m tx n le g f bg en mX11_atom [(0, .ref m)] (dv) false (fun n9 a9 fl9 => sp_is (sp_atom f en.toInt.toNat N n9) a9 fl9) (3 * d + 6) (75 * d + 140)) : PM l D tys A X cA m tx n le g f bg en mX11_term [(0, .ref m)] (dv) false (fun n9 a9 fl9 => tmP f en.toInt.toNat (sp_sum f en.toInt.toNat N n9) (sp_loop f en.toInt.toNat sp_pl (sp_atom f en.toInt.toNat N) 160) 42 47 n9 a9 fl9) (3 * d + 7) (75 * d + 165) := by
  intro fr lo Q h fs at0 fl0 dp hf hl hfl hdp H hq
  have hr1 : 1 ≤ fr := by omega
  have hr2 : 30 ≤ lo := by omega
  obtain ⟨⟨⟨c_m, fl, f5, f8, f9, f10, f11⟩, f12, n_tx_m, c_x, hs, hb, ha⟩, f4, n_le_m, gl, c_le⟩ := H
  refine w_aload_n (List.Mem.head _) (tX11_term_0_ok (0, .aload_n 0, 1) (List.mem_of_getElem? (i := 0) rfl)) ?_
  refine w_callV (own := 16) (mi := 161) [] [] [(0, .ref m)] rfl (cllw_X11 (161, 0, 161) (List.mem_of_getElem? (i := 27) rfl)) rfl rfl c_m rfl hr1 (w_lo (n := 23) rfl (Nat.le_trans (Nat.le_of_ble_eq_true rfl) hr2)) (Nat.le_of_ble_eq_true rfl) (Nat.le_of_ble_eq_true rfl) rfl (tX11_term_0_ok (1, .invokevirtual 161, 3) (List.mem_of_getElem? (i := 1) rfl)) (hatom _ _ _ _ _ _ _ _ (by omega) (w_sub (n := 23) rfl (by omega)) (by omega) (by omega) ⟨⟨⟨c_m, fl, f5, f8, f9, f10, f11⟩, f12, n_tx_m, c_x, hs, hb, ha.1, ha.2⟩, f4, n_le_m, _, c_le⟩ (fun h1 fs2 at3 fl4 dp5 v6 p7 e8 e9 e10 k11 o12 => ?_))
  dsimp only at e8
  have p13 := p7.1
  obtain ⟨⟨c14, l15, f16, f17, f18, f19, f20⟩, f21, -, c22, -, -, a23, a24⟩ := p13
  have f25 := (k11 4 (by decide)).trans f4
  have c26 := (o12 le n_le_m).trans c_le
  show ww l D tys A X fr lo mX11_term Q 4 [(0, .ref m)] [.int v6] h1
  refine w_istore_n [(1, .int v6), (0, .ref m)] rfl (Nat.le_of_ble_eq_true rfl) (tX11_term_0_ok (4, .istore_n 1, 1) (List.mem_of_getElem? (i := 2) rfl)) ?_
  refine r_termL hT hNp hdv hatom hf hl (en.toInt - at3.toInt).toNat _ _ _ _ _ _ (fun z9 => by omega) (by omega) (sp_st.of e8) (n0 := at0.toInt.toNat) (fun z9 => by obtain ⟨q9, q8, q7⟩ := sp_is.inr e8 z9; have q6 := (sp_atom_pg hNp) _ _ q8; omega) ⟨⟨⟨c14, l15, f16, f17, f18, f19, f20⟩, f21, n_tx_m, c22, hs, hb, a23, a24⟩, f25, n_le_m, _, c26⟩ (fun h1 fs1 at1 fl1 dp1 u p1 p2 p5 p6 p3 p4 => hq h1 fs1 at1 fl1 dp1 u p1 p2 p5 p6 (fun j hj => (p3 j hj).trans (k11 j hj)) (fun q hq => (p4 q hq).trans (o12 q hq)))
theorem r_sumL (hT : k_tys tys cA) {d : Nat} {N : Nat → Nat ⊕ Nat} (hNp : sp_pg N) {dv : Int} (hdv : 0 ≤ dv) (hterm : PM l D tys A X cA m tx n le g f bg en mX11_term [(0, .ref m)] (dv) false (fun n9 a9 fl9 => tmP f en.toInt.toNat (sp_sum f en.toInt.toNat N n9) (sp_loop f en.toInt.toNat sp_pl (sp_atom f en.toInt.toNat N) 160) 42 47 n9 a9 fl9) (3 * d + 7) (75 * d + 165)) (hf : 3 * d + 8 ≤ fr) (hl : 75 * d + 190 ≤ lo) {Y : Nat ⊕ Nat} {n0 : Nat} : ∀ (k : Nat) (vv at0 fl0 dp : Int32) (h : ch_H) (fs : List Value), (fl0.toInt = -1 → en.toInt - at0.toInt ≤ k) → dv ≤ dp.toInt ∧ dp.toInt ≤ 6 ∧ (fl0.toInt = -1 → dp.toInt = dv) → sp_st Y (sp_loop f en.toInt.toNat sp_pl (sp_atom f en.toInt.toNat N) 160) at0 fl0 → (fl0.toInt = -1 → n0 < at0.toInt.toNat) → (fl0.toInt = -1 → sp_sk f en.toInt.toNat at0.toInt.toNat = at0.toInt.toNat ∧ sp_no 42 47 (sp_sg f en.toInt.toNat at0.toInt.toNat)) → rl cA h m fs tx n le g f bg en at0 fl0 dp → (∀ (h1 : ch_H) (fs1 : List Value) (at1 fl1 dp1 v : Int32), rl cA h1 m fs1 tx n le g f bg en at1 fl1 dp1 → sp_is Y at1 fl1 → dv ≤ dp1.toInt ∧ dp1.toInt ≤ 6 ∧ (fl1.toInt = -1 → dp1.toInt = dv) → (false = true → 0 ≤ v.toInt ∧ v.toInt ≤ 1) → (∀ j, j ≠ 10 ∧ j ≠ 11 ∧ j ≠ 12 → fs1[j]? = fs[j]?) → (∀ q, q ≠ m → h1 q = h q) → Q (some (.int v)) h1) → ww l D tys A X fr lo mX11_sum Q 5 [(1, .int vv), (0, .ref m)] [] h := by
  intro k
  induction k using Nat.strongRecOn with
  | ind k ih =>
    intro vv at0 fl0 dp h fs hk hdp hst hn0 hs9 H hq
    have hr1 : 1 ≤ fr := by omega
    have hr2 : 30 ≤ lo := by omega
    obtain ⟨⟨⟨c_m, fl, f5, f8, f9, f10, f11⟩, f12, n_tx_m, c_x, hs, hb, ha⟩, f4, n_le_m, gl, c_le⟩ := H
    refine w_aload_n (List.Mem.tail _ (List.Mem.head _)) (tX11_sum_0_ok (5, .aload_n 0, 1) (List.mem_of_getElem? (i := 3) rfl)) ?_
    refine w_get (own := 16) rfl rfl (by decide) c_m f11 (tX11_sum_0_ok (6, .getfield 118, 3) (List.mem_of_getElem? (i := 4) rfl)) ?_
    refine w_iconst (by decide) (tX11_sum_0_ok (9, .iconst (-1), 1) (List.mem_of_getElem? (i := 5) rfl)) (fun v1 e2 => ?_)
    refine w_icmp_ne (tgt := 84) (tX11_sum_0_ok (10, .if_icmp .ne 74, 3) (List.mem_of_getElem? (i := 6) rfl)) rfl (fun b3 => ?_) (fun b3 => ?_)
    · refine w_iload_n (List.Mem.head _) (tX11_sum_0_ok (84, .iload_n 1, 1) (List.mem_of_getElem? (i := 47) rfl)) ?_
      refine w_iret rfl (tX11_sum_0_ok (85, .ireturn, 1) (List.mem_of_getElem? (i := 48) rfl)) ?_
      refine hq h fs at0 fl0 dp vv ⟨⟨⟨c_m, fl, f5, f8, f9, f10, f11⟩, f12, n_tx_m, c_x, hs, hb, ha.1, ha.2⟩, f4, n_le_m, _, c_le⟩ ?_ (by omega) (fun h9 => by cases h9) (fun j hj => rfl) (fun q hq => rfl)
      rcases hst with ⟨z1, z2⟩ | ⟨z1, z2⟩
      · exact z2
      · exact absurd z1 (by omega)
    · have hfl9 : fl0.toInt = -1 := by omega
      have hk9 := hk hfl9
      have hd9 := hdp.2.2 hfl9
      have hd8 := hdp.2.1
      have hd7 := hdp.1
      have hn9 := hn0 hfl9
      have hsk := sp_sk_le f en.toInt.toNat at0.toInt.toNat
      clear hk hdp hn0
      have y3 := hs9 hfl9
      clear hs9
      refine w_aload_n (List.Mem.tail _ (List.Mem.head _)) (tX11_sum_0_ok (13, .aload_n 0, 1) (List.mem_of_getElem? (i := 7) rfl)) ?_
      refine w_callV (own := 16) (mi := 212) [] [] [(0, .ref m)] rfl (cllw_X11 (128, 0, 212) (List.mem_of_getElem? (i := 7) rfl)) rfl rfl c_m rfl hr1 (w_lo (n := 20) rfl (Nat.le_trans (Nat.le_of_ble_eq_true rfl) hr2)) (Nat.le_of_ble_eq_true rfl) (Nat.le_of_ble_eq_true rfl) rfl (tX11_sum_0_ok (14, .invokevirtual 128, 3) (List.mem_of_getElem? (i := 8) rfl)) (r_look hT ⟨⟨c_m, fl, f5, f8, f9, f10, f11⟩, f12, n_tx_m, c_x, hs, hb, ha.1, ha.2⟩ (fun h4 fs5 at6 v7 p8 e9 e10 k11 o12 => ?_))
      obtain ⟨⟨c13, l14, f15, f16, f17, f18, f19⟩, f20, -, c21, -, -, a22, a23⟩ := p8
      have f24 := (k11 4 (by decide)).trans f4
      have c25 := (o12 le n_le_m).trans c_le
      show ww l D tys A X fr lo mX11_sum Q 17 [(1, .int vv), (0, .ref m)] [.int v7] h4
      refine w_bipush (by decide) (tX11_sum_0_ok (17, .bipush 43, 2) (List.mem_of_getElem? (i := 9) rfl)) (fun v26 e27 => ?_)
      refine w_icmp_eq (tgt := 31) (tX11_sum_0_ok (19, .if_icmp .eq 12, 3) (List.mem_of_getElem? (i := 10) rfl)) rfl (fun b28 => ?_) (fun b28 => ?_)
      · have g29 : sp_sg f en.toInt.toNat (sp_sk f en.toInt.toNat at0.toInt.toNat) = 43 ∧ at6.toInt < en.toInt ∧ v7.toInt = 43 := by omega
        clear e10 b28
        refine w_aload_n (List.Mem.tail _ (List.Mem.head _)) (tX11_sum_0_ok (31, .aload_n 0, 1) (List.mem_of_getElem? (i := 15) rfl)) ?_
        refine w_callV (own := 16) (mi := 212) [] [] [(0, .ref m)] rfl (cllw_X11 (128, 0, 212) (List.mem_of_getElem? (i := 7) rfl)) rfl rfl c13 rfl hr1 (w_lo (n := 20) rfl (Nat.le_trans (Nat.le_of_ble_eq_true rfl) hr2)) (Nat.le_of_ble_eq_true rfl) (Nat.le_of_ble_eq_true rfl) rfl (tX11_sum_0_ok (32, .invokevirtual 128, 3) (List.mem_of_getElem? (i := 16) rfl)) (r_look hT ⟨⟨c13, l14, f15, f16, f17, f18, f19⟩, f20, n_tx_m, c21, hs, hb, a22, a23⟩ (fun h30 fs31 at32 v33 p34 e35 e36 k37 o38 => ?_))
        obtain ⟨⟨c39, l40, f41, f42, f43, f44, f45⟩, f46, -, c47, -, -, a48, a49⟩ := p34
        have f50 := (k37 4 (by decide)).trans f24
        have c51 := (o38 le n_le_m).trans c25
        rw [e9, sp_sk_sk] at e35 e36
        show ww l D tys A X fr lo mX11_sum Q 35 [(1, .int vv), (0, .ref m)] [.int v33] h30
        refine w_bipush (by decide) (tX11_sum_0_ok (35, .bipush 43, 2) (List.mem_of_getElem? (i := 17) rfl)) (fun v52 e53 => ?_)
        refine w_icmp_ne (tgt := 44) (tX11_sum_0_ok (37, .if_icmp .ne 7, 3) (List.mem_of_getElem? (i := 18) rfl)) rfl (fun b54 => ?_) (fun b54 => ?_)
        · exfalso; omega
        · have g56 : sp_sg f en.toInt.toNat (sp_sk f en.toInt.toNat at0.toInt.toNat) = 43 ∧ at32.toInt < en.toInt ∧ v33.toInt = 43 := by omega
          clear e36 b54
          refine w_iconst (by decide) (tX11_sum_0_ok (40, .iconst 1, 1) (List.mem_of_getElem? (i := 19) rfl)) (fun v57 e58 => ?_)
          refine w_goto (tgt := 45) (tX11_sum_0_ok (41, .goto 4, 3) (List.mem_of_getElem? (i := 20) rfl)) rfl ?_
          refine w_istore_n [(2, .int v57), (1, .int vv), (0, .ref m)] rfl (Nat.le_of_ble_eq_true rfl) (tX11_sum_0_ok (45, .istore_n 2, 1) (List.mem_of_getElem? (i := 22) rfl)) ?_
          refine w_aload_n (List.Mem.tail _ (List.Mem.tail _ (List.Mem.head _))) (tX11_sum_0_ok (46, .aload_n 0, 1) (List.mem_of_getElem? (i := 23) rfl)) ?_
          refine w_dup rfl (tX11_sum_0_ok (47, .dup, 1) (List.mem_of_getElem? (i := 24) rfl)) ?_
          refine w_get (own := 16) rfl rfl (by decide) c39 f44 (tX11_sum_0_ok (48, .getfield 109, 3) (List.mem_of_getElem? (i := 25) rfl)) ?_
          refine w_iconst (by decide) (tX11_sum_0_ok (51, .iconst 1, 1) (List.mem_of_getElem? (i := 26) rfl)) (fun v59 e60 => ?_)
          refine w_iadd (by omega) (by omega) (tX11_sum_0_ok (52, .iadd, 1) (List.mem_of_getElem? (i := 27) rfl)) (fun v61 e62 => ?_)
          refine w_putF (own := 16) rfl rfl (by decide) rfl ⟨rfl, rfl⟩ c39 (by rw [l40]; decide) (tX11_sum_0_ok (53, .putfield 109, 3) (List.mem_of_getElem? (i := 28) rfl)) (fun h63 fs66 l67 k68 j69 c64 o65 => ?_)
          rw [l40] at l67
          have f70 := (j69 5 (by decide)).trans f41
          have f71 := (j69 8 (by decide)).trans f42
          have f72 := (j69 9 (by decide)).trans f43
          have f73 := (j69 11 (by decide)).trans f45
          have f74 := (j69 12 (by decide)).trans f46
          have f75 := (j69 4 (by decide)).trans f50
          have c76 := (o65 tx n_tx_m).trans c47
          have c77 := (o65 le n_le_m).trans c51
          refine w_aload_n (List.Mem.tail _ (List.Mem.tail _ (List.Mem.head _))) (tX11_sum_0_ok (56, .aload_n 0, 1) (List.mem_of_getElem? (i := 29) rfl)) ?_
          refine w_callV (own := 16) (mi := 250) [] [] [(0, .ref m)] rfl (cllw_X11 (168, 0, 250) (List.mem_of_getElem? (i := 26) rfl)) rfl rfl c64 rfl hr1 (w_lo (n := 24) rfl (Nat.le_trans (Nat.le_of_ble_eq_true rfl) hr2)) (Nat.le_of_ble_eq_true rfl) (Nat.le_of_ble_eq_true rfl) rfl (tX11_sum_0_ok (57, .invokevirtual 168, 3) (List.mem_of_getElem? (i := 30) rfl)) (hterm _ _ _ _ _ _ _ _ (by omega) (w_sub (n := 24) rfl (by omega)) (by omega) (by omega) ⟨⟨⟨c64, l67, f70, f71, f72, k68, f73⟩, f74, n_tx_m, c76, hs, hb, by omega, by omega⟩, f75, n_le_m, _, c77⟩ (fun h78 fs79 at80 fl81 dp82 v83 p84 e85 e86 e87 k88 o89 => ?_))
          dsimp only at e85
          have p90 := p84.1
          obtain ⟨⟨c91, l92, f93, f94, f95, f96, f97⟩, f98, -, c99, -, -, a100, a101⟩ := p90
          have f102 := (k88 4 (by decide)).trans f75
          have c103 := (o89 le n_le_m).trans c77
          show ww l D tys A X fr lo mX11_sum Q 60 [(2, .int v57), (1, .int vv), (0, .ref m)] [.int v83] h78
          refine w_i2l (tX11_sum_0_ok (60, .i2l, 1) (List.mem_of_getElem? (i := 31) rfl)) (fun v104 => ?_)
          refine w_lstore_n [(3, .long v104), (2, .int v57), (1, .int vv), (0, .ref m)] rfl (Nat.le_of_ble_eq_true rfl) (tX11_sum_0_ok (61, .lstore_n 3, 1) (List.mem_of_getElem? (i := 32) rfl)) ?_
          refine w_iload_n (List.Mem.tail _ (List.Mem.head _)) (tX11_sum_0_ok (62, .iload_n 2, 1) (List.mem_of_getElem? (i := 33) rfl)) ?_
          refine w_if_eq (tgt := 73) (tX11_sum_0_ok (63, .ifCond .eq 10, 3) (List.mem_of_getElem? (i := 34) rfl)) rfl (fun b105 => ?_) (fun b105 => ?_)
          · exfalso; omega
          · refine w_iload_n (List.Mem.tail _ (List.Mem.tail _ (List.Mem.head _))) (tX11_sum_0_ok (66, .iload_n 1, 1) (List.mem_of_getElem? (i := 35) rfl)) ?_
            refine w_i2l (tX11_sum_0_ok (67, .i2l, 1) (List.mem_of_getElem? (i := 36) rfl)) (fun v106 => ?_)
            refine w_lload_n (List.Mem.head _) (tX11_sum_0_ok (68, .lload_n 3, 1) (List.mem_of_getElem? (i := 37) rfl)) ?_
            refine w_ladd (tX11_sum_0_ok (69, .ladd, 1) (List.mem_of_getElem? (i := 38) rfl)) (fun v107 => ?_)
            refine w_goto (tgt := 77) (tX11_sum_0_ok (70, .goto 7, 3) (List.mem_of_getElem? (i := 39) rfl)) rfl ?_
            refine w_callS (own := 16) (mi := 265) [.long v107] [] [(0, .long v107)] rfl (cllw_X11 (164, 1, 265) (List.mem_of_getElem? (i := 29) rfl)) rfl rfl hr1 (w_lo (n := 21) rfl (Nat.le_trans (Nat.le_of_ble_eq_true rfl) hr2)) (Nat.le_of_ble_eq_true rfl) (Nat.le_of_ble_eq_true rfl) rfl (tX11_sum_0_ok (77, .invokestatic 164, 3) (List.mem_of_getElem? (i := 44) rfl)) (h_within (by omega) (w_sub (n := 21) rfl (by omega)) (fun v108 e109 => ?_))
            show ww l D tys A X fr lo mX11_sum Q 80 [(3, .long v104), (2, .int v57), (1, .int vv), (0, .ref m)] [.int v108] h78
            refine w_istore_n [(1, .int v108), (3, .long v104), (2, .int v57), (0, .ref m)] rfl (Nat.le_of_ble_eq_true rfl) (tX11_sum_0_ok (80, .istore_n 1, 1) (List.mem_of_getElem? (i := 45) rfl)) ?_
            refine w_goto (tgt := 5) (tX11_sum_0_ok (81, .goto (-76), 3) (List.mem_of_getElem? (i := 46) rfl)) rfl ?_
            have y1 : v61.toInt.toNat = sp_sk f en.toInt.toNat at0.toInt.toNat + 1 := by omega
            rw [y1] at e85
            have y2 : Y = sp_loop f en.toInt.toNat sp_pl (sp_atom f en.toInt.toNat N) 160 at0.toInt.toNat := by rcases hst with ⟨z1, z2⟩ | ⟨z1, z2⟩ <;> first | exact z2 | exact absurd hfl9 z1
            rw [sp_lp sp_pl_0 (by omega) (sp_atom_pg hNp), if_pos (sp_pl_iff.mpr (by omega))] at y2
            refine w_lv [(1, .int v108), (0, .ref m)] (by intro q hq; simp only [List.mem_cons, List.not_mem_nil, or_false] at hq ⊢; rcases hq with e | e <;> subst e <;> simp) ?_
            refine ih (k - 1) (by omega) _ _ _ _ _ _ (fun z9 => by have q6 := (e85.2 z9).1; omega) (by omega) (by rw [y2]; exact e85.1) (fun z9 => by have q6 := (e85.2 z9).1; omega) (fun z9 => (e85.2 z9).2) ⟨⟨⟨c91, l92, f93, f94, f95, f96, f97⟩, f98, n_tx_m, c99, hs, hb, a100, a101⟩, f102, n_le_m, _, c103⟩ (fun h1 fs1 at1 fl1 dp1 u p1 p2 p5 p6 p3 p4 => hq h1 fs1 at1 fl1 dp1 u p1 p2 p5 p6 (fun j hj => (p3 j hj).trans ((k88 j hj).trans ((j69 j hj.1).trans ((k37 j hj).trans (k11 j hj))))) (fun q hq => (p4 q hq).trans ((o89 q hq).trans ((o65 q hq).trans ((o38 q hq).trans (o12 q hq))))))
      · have g110 : ¬ sp_sg f en.toInt.toNat (sp_sk f en.toInt.toNat at0.toInt.toNat) = 43 := by omega
        clear e10 b28
        refine w_aload_n (List.Mem.tail _ (List.Mem.head _)) (tX11_sum_0_ok (22, .aload_n 0, 1) (List.mem_of_getElem? (i := 11) rfl)) ?_
        refine w_callV (own := 16) (mi := 212) [] [] [(0, .ref m)] rfl (cllw_X11 (128, 0, 212) (List.mem_of_getElem? (i := 7) rfl)) rfl rfl c13 rfl hr1 (w_lo (n := 20) rfl (Nat.le_trans (Nat.le_of_ble_eq_true rfl) hr2)) (Nat.le_of_ble_eq_true rfl) (Nat.le_of_ble_eq_true rfl) rfl (tX11_sum_0_ok (23, .invokevirtual 128, 3) (List.mem_of_getElem? (i := 12) rfl)) (r_look hT ⟨⟨c13, l14, f15, f16, f17, f18, f19⟩, f20, n_tx_m, c21, hs, hb, a22, a23⟩ (fun h111 fs112 at113 v114 p115 e116 e117 k118 o119 => ?_))
        obtain ⟨⟨c120, l121, f122, f123, f124, f125, f126⟩, f127, -, c128, -, -, a129, a130⟩ := p115
        have f131 := (k118 4 (by decide)).trans f24
        have c132 := (o119 le n_le_m).trans c25
        rw [e9, sp_sk_sk] at e116 e117
        show ww l D tys A X fr lo mX11_sum Q 26 [(1, .int vv), (0, .ref m)] [.int v114] h111
        refine w_bipush (by decide) (tX11_sum_0_ok (26, .bipush 45, 2) (List.mem_of_getElem? (i := 13) rfl)) (fun v133 e134 => ?_)
        refine w_icmp_ne (tgt := 84) (tX11_sum_0_ok (28, .if_icmp .ne 56, 3) (List.mem_of_getElem? (i := 14) rfl)) rfl (fun b135 => ?_) (fun b135 => ?_)
        · have g136 : ¬ sp_sg f en.toInt.toNat (sp_sk f en.toInt.toNat at0.toInt.toNat) = 45 := by omega
          clear e117 b135
          refine w_iload_n (List.Mem.head _) (tX11_sum_0_ok (84, .iload_n 1, 1) (List.mem_of_getElem? (i := 47) rfl)) ?_
          refine w_iret rfl (tX11_sum_0_ok (85, .ireturn, 1) (List.mem_of_getElem? (i := 48) rfl)) ?_
          have y2 : Y = sp_loop f en.toInt.toNat sp_pl (sp_atom f en.toInt.toNat N) 160 at0.toInt.toNat := by rcases hst with ⟨z1, z2⟩ | ⟨z1, z2⟩ <;> first | exact z2 | exact absurd hfl9 z1
          rw [y3.1] at e116
          rw [y3.1] at g110
          rw [y3.1] at g136
          rw [sp_lp sp_pl_0 (by omega) (sp_atom_pg hNp), y3.1, if_neg (fun z9 => by have z8 := sp_pl_iff.mp z9; have z7 := y3.2.1; have z6 := y3.2.2; omega)] at y2
          refine hq h111 fs112 at113 fl0 dp vv ⟨⟨⟨c120, l121, f122, f123, f124, f125, f126⟩, f127, n_tx_m, c128, hs, hb, a129, a130⟩, f131, n_le_m, _, c132⟩ ?_ (by omega) (fun h9 => by cases h9) (fun j hj => (k118 j hj).trans (k11 j hj)) (fun q hq => (o119 q hq).trans (o12 q hq))
          rw [y2]
          exact ⟨by omega, by omega⟩
        · have g137 : sp_sg f en.toInt.toNat (sp_sk f en.toInt.toNat at0.toInt.toNat) = 45 ∧ at113.toInt < en.toInt ∧ v114.toInt = 45 := by omega
          clear e117 b135
          refine w_aload_n (List.Mem.tail _ (List.Mem.head _)) (tX11_sum_0_ok (31, .aload_n 0, 1) (List.mem_of_getElem? (i := 15) rfl)) ?_
          refine w_callV (own := 16) (mi := 212) [] [] [(0, .ref m)] rfl (cllw_X11 (128, 0, 212) (List.mem_of_getElem? (i := 7) rfl)) rfl rfl c120 rfl hr1 (w_lo (n := 20) rfl (Nat.le_trans (Nat.le_of_ble_eq_true rfl) hr2)) (Nat.le_of_ble_eq_true rfl) (Nat.le_of_ble_eq_true rfl) rfl (tX11_sum_0_ok (32, .invokevirtual 128, 3) (List.mem_of_getElem? (i := 16) rfl)) (r_look hT ⟨⟨c120, l121, f122, f123, f124, f125, f126⟩, f127, n_tx_m, c128, hs, hb, a129, a130⟩ (fun h138 fs139 at140 v141 p142 e143 e144 k145 o146 => ?_))
          obtain ⟨⟨c147, l148, f149, f150, f151, f152, f153⟩, f154, -, c155, -, -, a156, a157⟩ := p142
          have f158 := (k145 4 (by decide)).trans f131
          have c159 := (o146 le n_le_m).trans c132
          rw [e116, sp_sk_sk] at e143 e144
          show ww l D tys A X fr lo mX11_sum Q 35 [(1, .int vv), (0, .ref m)] [.int v141] h138
          refine w_bipush (by decide) (tX11_sum_0_ok (35, .bipush 43, 2) (List.mem_of_getElem? (i := 17) rfl)) (fun v160 e161 => ?_)
          refine w_icmp_ne (tgt := 44) (tX11_sum_0_ok (37, .if_icmp .ne 7, 3) (List.mem_of_getElem? (i := 18) rfl)) rfl (fun b162 => ?_) (fun b162 => ?_)
          · have g163 : ¬ sp_sg f en.toInt.toNat (sp_sk f en.toInt.toNat at0.toInt.toNat) = 43 := by omega
            clear e144 b162
            refine w_iconst (by decide) (tX11_sum_0_ok (44, .iconst 0, 1) (List.mem_of_getElem? (i := 21) rfl)) (fun v164 e165 => ?_)
            refine w_istore_n [(2, .int v164), (1, .int vv), (0, .ref m)] rfl (Nat.le_of_ble_eq_true rfl) (tX11_sum_0_ok (45, .istore_n 2, 1) (List.mem_of_getElem? (i := 22) rfl)) ?_
            refine w_aload_n (List.Mem.tail _ (List.Mem.tail _ (List.Mem.head _))) (tX11_sum_0_ok (46, .aload_n 0, 1) (List.mem_of_getElem? (i := 23) rfl)) ?_
            refine w_dup rfl (tX11_sum_0_ok (47, .dup, 1) (List.mem_of_getElem? (i := 24) rfl)) ?_
            refine w_get (own := 16) rfl rfl (by decide) c147 f152 (tX11_sum_0_ok (48, .getfield 109, 3) (List.mem_of_getElem? (i := 25) rfl)) ?_
            refine w_iconst (by decide) (tX11_sum_0_ok (51, .iconst 1, 1) (List.mem_of_getElem? (i := 26) rfl)) (fun v166 e167 => ?_)
            refine w_iadd (by omega) (by omega) (tX11_sum_0_ok (52, .iadd, 1) (List.mem_of_getElem? (i := 27) rfl)) (fun v168 e169 => ?_)
            refine w_putF (own := 16) rfl rfl (by decide) rfl ⟨rfl, rfl⟩ c147 (by rw [l148]; decide) (tX11_sum_0_ok (53, .putfield 109, 3) (List.mem_of_getElem? (i := 28) rfl)) (fun h170 fs173 l174 k175 j176 c171 o172 => ?_)
            rw [l148] at l174
            have f177 := (j176 5 (by decide)).trans f149
            have f178 := (j176 8 (by decide)).trans f150
            have f179 := (j176 9 (by decide)).trans f151
            have f180 := (j176 11 (by decide)).trans f153
            have f181 := (j176 12 (by decide)).trans f154
            have f182 := (j176 4 (by decide)).trans f158
            have c183 := (o172 tx n_tx_m).trans c155
            have c184 := (o172 le n_le_m).trans c159
            refine w_aload_n (List.Mem.tail _ (List.Mem.tail _ (List.Mem.head _))) (tX11_sum_0_ok (56, .aload_n 0, 1) (List.mem_of_getElem? (i := 29) rfl)) ?_
            refine w_callV (own := 16) (mi := 250) [] [] [(0, .ref m)] rfl (cllw_X11 (168, 0, 250) (List.mem_of_getElem? (i := 26) rfl)) rfl rfl c171 rfl hr1 (w_lo (n := 24) rfl (Nat.le_trans (Nat.le_of_ble_eq_true rfl) hr2)) (Nat.le_of_ble_eq_true rfl) (Nat.le_of_ble_eq_true rfl) rfl (tX11_sum_0_ok (57, .invokevirtual 168, 3) (List.mem_of_getElem? (i := 30) rfl)) (hterm _ _ _ _ _ _ _ _ (by omega) (w_sub (n := 24) rfl (by omega)) (by omega) (by omega) ⟨⟨⟨c171, l174, f177, f178, f179, k175, f180⟩, f181, n_tx_m, c183, hs, hb, by omega, by omega⟩, f182, n_le_m, _, c184⟩ (fun h185 fs186 at187 fl188 dp189 v190 p191 e192 e193 e194 k195 o196 => ?_))
            dsimp only at e192
            have p197 := p191.1
            obtain ⟨⟨c198, l199, f200, f201, f202, f203, f204⟩, f205, -, c206, -, -, a207, a208⟩ := p197
            have f209 := (k195 4 (by decide)).trans f182
            have c210 := (o196 le n_le_m).trans c184
            show ww l D tys A X fr lo mX11_sum Q 60 [(2, .int v164), (1, .int vv), (0, .ref m)] [.int v190] h185
            refine w_i2l (tX11_sum_0_ok (60, .i2l, 1) (List.mem_of_getElem? (i := 31) rfl)) (fun v211 => ?_)
            refine w_lstore_n [(3, .long v211), (2, .int v164), (1, .int vv), (0, .ref m)] rfl (Nat.le_of_ble_eq_true rfl) (tX11_sum_0_ok (61, .lstore_n 3, 1) (List.mem_of_getElem? (i := 32) rfl)) ?_
            refine w_iload_n (List.Mem.tail _ (List.Mem.head _)) (tX11_sum_0_ok (62, .iload_n 2, 1) (List.mem_of_getElem? (i := 33) rfl)) ?_
            refine w_if_eq (tgt := 73) (tX11_sum_0_ok (63, .ifCond .eq 10, 3) (List.mem_of_getElem? (i := 34) rfl)) rfl (fun b212 => ?_) (fun b212 => ?_)
            · refine w_iload_n (List.Mem.tail _ (List.Mem.tail _ (List.Mem.head _))) (tX11_sum_0_ok (73, .iload_n 1, 1) (List.mem_of_getElem? (i := 40) rfl)) ?_
              refine w_i2l (tX11_sum_0_ok (74, .i2l, 1) (List.mem_of_getElem? (i := 41) rfl)) (fun v213 => ?_)
              refine w_lload_n (List.Mem.head _) (tX11_sum_0_ok (75, .lload_n 3, 1) (List.mem_of_getElem? (i := 42) rfl)) ?_
              refine w_lsub (tX11_sum_0_ok (76, .lsub, 1) (List.mem_of_getElem? (i := 43) rfl)) (fun v214 => ?_)
              refine w_callS (own := 16) (mi := 265) [.long v214] [] [(0, .long v214)] rfl (cllw_X11 (164, 1, 265) (List.mem_of_getElem? (i := 29) rfl)) rfl rfl hr1 (w_lo (n := 21) rfl (Nat.le_trans (Nat.le_of_ble_eq_true rfl) hr2)) (Nat.le_of_ble_eq_true rfl) (Nat.le_of_ble_eq_true rfl) rfl (tX11_sum_0_ok (77, .invokestatic 164, 3) (List.mem_of_getElem? (i := 44) rfl)) (h_within (by omega) (w_sub (n := 21) rfl (by omega)) (fun v215 e216 => ?_))
              show ww l D tys A X fr lo mX11_sum Q 80 [(3, .long v211), (2, .int v164), (1, .int vv), (0, .ref m)] [.int v215] h185
              refine w_istore_n [(1, .int v215), (3, .long v211), (2, .int v164), (0, .ref m)] rfl (Nat.le_of_ble_eq_true rfl) (tX11_sum_0_ok (80, .istore_n 1, 1) (List.mem_of_getElem? (i := 45) rfl)) ?_
              refine w_goto (tgt := 5) (tX11_sum_0_ok (81, .goto (-76), 3) (List.mem_of_getElem? (i := 46) rfl)) rfl ?_
              have y1 : v168.toInt.toNat = sp_sk f en.toInt.toNat at0.toInt.toNat + 1 := by omega
              rw [y1] at e192
              have y2 : Y = sp_loop f en.toInt.toNat sp_pl (sp_atom f en.toInt.toNat N) 160 at0.toInt.toNat := by rcases hst with ⟨z1, z2⟩ | ⟨z1, z2⟩ <;> first | exact z2 | exact absurd hfl9 z1
              rw [sp_lp sp_pl_0 (by omega) (sp_atom_pg hNp), if_pos (sp_pl_iff.mpr (by omega))] at y2
              refine w_lv [(1, .int v215), (0, .ref m)] (by intro q hq; simp only [List.mem_cons, List.not_mem_nil, or_false] at hq ⊢; rcases hq with e | e <;> subst e <;> simp) ?_
              refine ih (k - 1) (by omega) _ _ _ _ _ _ (fun z9 => by have q6 := (e192.2 z9).1; omega) (by omega) (by rw [y2]; exact e192.1) (fun z9 => by have q6 := (e192.2 z9).1; omega) (fun z9 => (e192.2 z9).2) ⟨⟨⟨c198, l199, f200, f201, f202, f203, f204⟩, f205, n_tx_m, c206, hs, hb, a207, a208⟩, f209, n_le_m, _, c210⟩ (fun h1 fs1 at1 fl1 dp1 u p1 p2 p5 p6 p3 p4 => hq h1 fs1 at1 fl1 dp1 u p1 p2 p5 p6 (fun j hj => (p3 j hj).trans ((k195 j hj).trans ((j176 j hj.1).trans ((k145 j hj).trans ((k118 j hj).trans (k11 j hj)))))) (fun q hq => (p4 q hq).trans ((o196 q hq).trans ((o172 q hq).trans ((o146 q hq).trans ((o119 q hq).trans (o12 q hq)))))))
            · exfalso; omega
          · exfalso; omega
theorem r_sum (hT : k_tys tys cA) {d : Nat} {N : Nat → Nat ⊕ Nat} (hNp : sp_pg N) {dv : Int} (hdv : 0 ≤ dv) (hterm : PM l D tys A X cA m tx n le g f bg en mX11_term [(0, .ref m)] (dv) false (fun n9 a9 fl9 => tmP f en.toInt.toNat (sp_sum f en.toInt.toNat N n9) (sp_loop f en.toInt.toNat sp_pl (sp_atom f en.toInt.toNat N) 160) 42 47 n9 a9 fl9) (3 * d + 7) (75 * d + 165)) : PM l D tys A X cA m tx n le g f bg en mX11_sum [(0, .ref m)] (dv) false (fun n9 a9 fl9 => sp_is (sp_sum f en.toInt.toNat N n9) a9 fl9) (3 * d + 8) (75 * d + 190) := by
  intro fr lo Q h fs at0 fl0 dp hf hl hfl hdp H hq
  have hr1 : 1 ≤ fr := by omega
  have hr2 : 30 ≤ lo := by omega
  obtain ⟨⟨⟨c_m, fl, f5, f8, f9, f10, f11⟩, f12, n_tx_m, c_x, hs, hb, ha⟩, f4, n_le_m, gl, c_le⟩ := H
  refine w_aload_n (List.Mem.head _) (tX11_sum_0_ok (0, .aload_n 0, 1) (List.mem_of_getElem? (i := 0) rfl)) ?_
  refine w_callV (own := 16) (mi := 250) [] [] [(0, .ref m)] rfl (cllw_X11 (168, 0, 250) (List.mem_of_getElem? (i := 26) rfl)) rfl rfl c_m rfl hr1 (w_lo (n := 24) rfl (Nat.le_trans (Nat.le_of_ble_eq_true rfl) hr2)) (Nat.le_of_ble_eq_true rfl) (Nat.le_of_ble_eq_true rfl) rfl (tX11_sum_0_ok (1, .invokevirtual 168, 3) (List.mem_of_getElem? (i := 1) rfl)) (hterm _ _ _ _ _ _ _ _ (by omega) (w_sub (n := 24) rfl (by omega)) (by omega) (by omega) ⟨⟨⟨c_m, fl, f5, f8, f9, f10, f11⟩, f12, n_tx_m, c_x, hs, hb, ha.1, ha.2⟩, f4, n_le_m, _, c_le⟩ (fun h1 fs2 at3 fl4 dp5 v6 p7 e8 e9 e10 k11 o12 => ?_))
  dsimp only at e8
  have p13 := p7.1
  obtain ⟨⟨c14, l15, f16, f17, f18, f19, f20⟩, f21, -, c22, -, -, a23, a24⟩ := p13
  have f25 := (k11 4 (by decide)).trans f4
  have c26 := (o12 le n_le_m).trans c_le
  show ww l D tys A X fr lo mX11_sum Q 4 [(0, .ref m)] [.int v6] h1
  refine w_istore_n [(1, .int v6), (0, .ref m)] rfl (Nat.le_of_ble_eq_true rfl) (tX11_sum_0_ok (4, .istore_n 1, 1) (List.mem_of_getElem? (i := 2) rfl)) ?_
  refine r_sumL hT hNp hdv hterm hf hl (en.toInt - at3.toInt).toNat _ _ _ _ _ _ (fun z9 => by omega) (by omega) e8.1 (n0 := at0.toInt.toNat) (fun z9 => (e8.2 z9).1) (fun z9 => (e8.2 z9).2) ⟨⟨⟨c14, l15, f16, f17, f18, f19, f20⟩, f21, n_tx_m, c22, hs, hb, a23, a24⟩, f25, n_le_m, _, c26⟩ (fun h1 fs1 at1 fl1 dp1 u p1 p2 p5 p6 p3 p4 => hq h1 fs1 at1 fl1 dp1 u p1 p2 p5 p6 (fun j hj => (p3 j hj).trans (k11 j hj)) (fun q hq => (p4 q hq).trans (o12 q hq)))
end
