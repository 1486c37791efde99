/-! room, where, meet: what is answered (made by gen_qry) -/
def q9_room (r w : Nat) (τ : aN) (φ : zP) : Int := if w = 0 then hP9 φ.2.2.1 (φ.1 56) (GK φ.1) r else if w = 1 then φ.2.2.1 (r / 2) (3 + r % 2) else if w = 2 then kb τ φ r else (φ.1 56 (18 + r)).toInt
def b9_room (r w : Int32) (τ : aN) (φ : zP) (v : Option Value) : Prop := ∃ x : Int32, v = some (.int x) ∧ (((0 ≤ r.toInt ∧ r.toInt < 2 * (τ.1 : Int)) ∧ 0 ≤ w.toInt ∧ w.toInt ≤ 3) ∧ x.toInt = q9_room r.toInt.toNat w.toInt.toNat τ φ ∨ ¬ ((0 ≤ r.toInt ∧ r.toInt < 2 * (τ.1 : Int)) ∧ 0 ≤ w.toInt ∧ w.toInt ≤ 3) ∧ x.toInt = -1000000)
def b9_where (p : Int32) (τ : aN) (φ : zP) (v : Option Value) : Prop := ∃ x : Int32, v = some (.int x) ∧ ((0 ≤ p.toInt ∧ p.toInt < (τ.2.2.1 : Int)) ∧ x.toInt = (φ.1 56 (30 + p.toInt.toNat)).toInt ∨ ¬ (0 ≤ p.toInt ∧ p.toInt < (τ.2.2.1 : Int)) ∧ x.toInt = -1)
abbrev c9_meet (p q : Int32) (τ : aN) : Prop := isPl τ.1 τ.2.1 p.toInt ∧ isPl τ.1 τ.2.1 q.toInt ∧ ¬ p.toInt = q.toInt
def b9_meet (p q : Int32) (τ : aN) (φ : zP) (v : Option Value) : Prop := ∃ x : Int32, v = some (.int x) ∧ ((c9_meet p q τ ∧ k9_meet φ p.toInt.toNat q.toInt.toNat) ∧ x.toInt = 1 ∨ ¬ (c9_meet p q τ ∧ k9_meet φ p.toInt.toNat q.toInt.toNat) ∧ (c9_meet p q τ ∧ x.toInt = 0 ∨ ¬ c9_meet p q τ ∧ x.toInt = -1))
theorem un_room {p q w1 w2 : Int32} {τ : aN} {φ : zP} (h1 : b9_room p q τ φ (some (.int w1))) (h2 : b9_room p q τ φ (some (.int w2))) : w1.toInt = w2.toInt := by
  obtain ⟨x1, e1, h1⟩ := h1
  cases e1
  obtain ⟨x2, e2, h2⟩ := h2
  cases e2
  exact un_9 (fun c d => d c) h1 h2
theorem un_where {p w1 w2 : Int32} {τ : aN} {φ : zP} (h1 : b9_where p τ φ (some (.int w1))) (h2 : b9_where p τ φ (some (.int w2))) : w1.toInt = w2.toInt := by
  obtain ⟨x1, e1, h1⟩ := h1
  cases e1
  obtain ⟨x2, e2, h2⟩ := h2
  cases e2
  exact un_9 (fun c d => d c) h1 h2
theorem un_meet {p q w1 w2 : Int32} {τ : aN} {φ : zP} (h1 : b9_meet p q τ φ (some (.int w1))) (h2 : b9_meet p q τ φ (some (.int w2))) : w1.toInt = w2.toInt := by
  obtain ⟨x1, e1, h1⟩ := h1
  cases e1
  obtain ⟨x2, e2, h2⟩ := h2
  cases e2
  rcases h1 with ⟨c, e⟩ | ⟨c, h1⟩ <;> rcases h2 with ⟨d, f⟩ | ⟨d, h2⟩
  · exact e.trans f.symm
  · exact absurd c d
  · exact absurd d c
  · exact un_9 (fun c d => d c) h1 h2
section
variable {l : Launch} {D : va_G} {tys : List (ClassId × FieldType)} {A : Nat → Prop} {X : State → Prop} {fr lo : Nat} {M : ch_M} {Q : Option Value → ch_H → Prop} {pc : Nat} {lv : List (Nat × Value)} {st : List Value} {cA : Nat → ClassId} {h : ch_H} {ad : Nat → Nat} {I I1 : zI} {W W1 : zW} {O : zO} {n j pe ga : Nat} {T T1 : Nat → Int32} {d d1 : Int64} {τ : aN} {φ : zP}
theorem w_ldcN {ix : Nat} {u : Int32} (hw : Cond.constant M.1.cls ix u ∈ wsA) (hd : decode M.2.1 pc = .ok (.ldc ix, 2)) (k : ∀ v : Int32, v.toInt = u.toInt → ww l D tys A X fr lo M Q (pc + 2) lv (.int v :: st) h) : ww l D tys A X fr lo M Q pc lv st h := tt_ldc hw hd (k _ rfl)
theorem w_ldcwN {ix : Nat} {u : Int32} (hw : Cond.constant M.1.cls ix u ∈ wsA) (hd : decode M.2.1 pc = .ok (.ldc_w ix, 3)) (k : ∀ v : Int32, v.toInt = u.toInt → ww l D tys A X fr lo M Q (pc + 3) lv (.int v :: st) h) : ww l D tys A X fr lo M Q pc lv st h := tt_ldcw hw hd (k _ rfl)
theorem z9q_heightNow (hT : k_tys tys cA) {k : Int32} (hz : zr zNC cA ad I W O h) (hk : kok τ φ) (H : cS τ φ I W) (hf : 24 ≤ fr) (hlo : 700 ≤ lo) (h0 : isPl τ.1 τ.2.1 k.toInt) (hq : ∀ (g : ch_H) (v : Int32), v.toInt = hP9 φ.2.2.1 (φ.1 56) (GK φ.1) k.toInt.toNat → Q (some (.int v)) g) : ww l D tys A X fr lo mX10_heightNow Q 0 [(0, .ref (ad 0)), (1, .int k)] [] h := by
  have n6 := hk.1.1
  obtain ⟨ga6, pe8, ta6⟩ := hk.2.2.2.1
  obtain ⟨h1, ⟨h21, h22, h23⟩, h3, h4, h5, h6, h7, h8, h9, h10, h11⟩ := id H
  have r0 := h1.1
  refine w_aload_n (List.Mem.head _) (tX10_heightNow_0_ok (0, .aload_n 0, 1) (List.mem_of_getElem? (i := 0) rfl)) ?_
  refine z_getR (L1 := 4) (own := 15) (k := 9) hz rfl rfl rfl rfl rfl rfl rfl (by decide) (tX10_heightNow_0_ok (1, .getfield 49, 3) (List.mem_of_getElem? (i := 1) rfl)) ?_
  refine w_aload_n (List.Mem.head _) (tX10_heightNow_0_ok (4, .aload_n 0, 1) (List.mem_of_getElem? (i := 2) rfl)) ?_
  refine z_getR (L1 := 2) (own := 15) (k := 1) hz rfl rfl rfl rfl rfl rfl rfl (by decide) (tX10_heightNow_0_ok (5, .getfield 19, 3) (List.mem_of_getElem? (i := 3) rfl)) ?_
  refine w_aload_n (List.Mem.head _) (tX10_heightNow_0_ok (8, .aload_n 0, 1) (List.mem_of_getElem? (i := 4) rfl)) ?_
  refine z_getR (L1 := 100) (own := 15) (k := 3) hz rfl rfl rfl rfl rfl rfl rfl (by decide) (tX10_heightNow_0_ok (9, .getfield 29, 3) (List.mem_of_getElem? (i := 5) rfl)) ?_
  refine w_aload_n (List.Mem.head _) (tX10_heightNow_0_ok (12, .aload_n 0, 1) (List.mem_of_getElem? (i := 6) rfl)) ?_
  refine z_getR (L1 := 3) (own := 15) (k := 8) hz rfl rfl rfl rfl rfl rfl rfl (by decide) (tX10_heightNow_0_ok (13, .getfield 42, 3) (List.mem_of_getElem? (i := 7) rfl)) ?_
  refine w_iload_n (List.Mem.tail _ (List.Mem.head _)) (tX10_heightNow_0_ok (16, .iload_n 1, 1) (List.mem_of_getElem? (i := 8) rfl)) ?_
  refine w_callV (own := 15) (mi := 89) [.ref (ad 2), .ref (ad 100), .ref (ad 3), .int k] [] [(0, .ref (ad 4)), (1, .ref (ad 2)), (2, .ref (ad 100)), (3, .ref (ad 3)), (4, .int k)] rfl (cllw_X10 (215, 0, 89) (List.mem_of_getElem? (i := 10) rfl)) rfl rfl (hz.ob rfl rfl) rfl (by omega) (w_lo (n := 27) rfl (by omega)) (Nat.le_of_ble_eq_true rfl) (Nat.le_of_ble_eq_true rfl) rfl (tX10_heightNow_0_ok (17, .invokevirtual 215, 3) (List.mem_of_getElem? (i := 9) rfl)) (z_height hT (j := 0) (by decide) (T := φ.1 56) (GH := GK φ.1) hz h1 hk.2.1.1 (fun q hq9 => (h3.1 q hq9).1) h4 ga6 (by omega) (w_sub (n := 27) rfl (by omega)) h0 (fun zv1 ze2 => ?_))
  show ww l D tys A X fr lo mX10_heightNow Q 20 [(0, .ref (ad 0)), (1, .int k)] [.int zv1] h
  refine w_iret rfl (tX10_heightNow_0_ok (20, .ireturn, 1) (List.mem_of_getElem? (i := 10) rfl)) ?_
  exact hq _ _ ze2
theorem z9q_bearsNow (hT : k_tys tys cA) {k : Int32} (hz : zr zNC cA ad I W O h) (hk : kok τ φ) (H : cS τ φ I W) (hf : 24 ≤ fr) (hlo : 700 ≤ lo) (h0 : 0 ≤ k.toInt ∧ k.toInt < 2 * (τ.1 : Int)) (hq : ∀ (g : ch_H) (v : Int32), v.toInt = kb τ φ k.toInt.toNat → Q (some (.int v)) g) : ww l D tys A X fr lo mX10_bearsNow Q 0 [(0, .ref (ad 0)), (1, .int k)] [] h := by
  have n6 := hk.1.1
  obtain ⟨ga6, pe8, ta6⟩ := hk.2.2.2.1
  obtain ⟨h1, ⟨h21, h22, h23⟩, h3, h4, h5, h6, h7, h8, h9, h10, h11⟩ := id H
  have r0 := h1.1
  refine w_aload_n (List.Mem.head _) (tX10_bearsNow_0_ok (0, .aload_n 0, 1) (List.mem_of_getElem? (i := 0) rfl)) ?_
  refine z_getR (L1 := 4) (own := 15) (k := 9) hz rfl rfl rfl rfl rfl rfl rfl (by decide) (tX10_bearsNow_0_ok (1, .getfield 49, 3) (List.mem_of_getElem? (i := 1) rfl)) ?_
  refine w_aload_n (List.Mem.head _) (tX10_bearsNow_0_ok (4, .aload_n 0, 1) (List.mem_of_getElem? (i := 2) rfl)) ?_
  refine z_getR (L1 := 2) (own := 15) (k := 1) hz rfl rfl rfl rfl rfl rfl rfl (by decide) (tX10_bearsNow_0_ok (5, .getfield 19, 3) (List.mem_of_getElem? (i := 3) rfl)) ?_
  refine w_aload_n (List.Mem.head _) (tX10_bearsNow_0_ok (8, .aload_n 0, 1) (List.mem_of_getElem? (i := 4) rfl)) ?_
  refine z_getR (L1 := 100) (own := 15) (k := 3) hz rfl rfl rfl rfl rfl rfl rfl (by decide) (tX10_bearsNow_0_ok (9, .getfield 29, 3) (List.mem_of_getElem? (i := 5) rfl)) ?_
  refine w_aload_n (List.Mem.head _) (tX10_bearsNow_0_ok (12, .aload_n 0, 1) (List.mem_of_getElem? (i := 6) rfl)) ?_
  refine z_getR (L1 := 3) (own := 15) (k := 8) hz rfl rfl rfl rfl rfl rfl rfl (by decide) (tX10_bearsNow_0_ok (13, .getfield 42, 3) (List.mem_of_getElem? (i := 7) rfl)) ?_
  refine w_callV (own := 15) (mi := 100) [.ref (ad 2), .ref (ad 100), .ref (ad 3)] [] [(0, .ref (ad 4)), (1, .ref (ad 2)), (2, .ref (ad 100)), (3, .ref (ad 3))] rfl (cllw_X10 (194, 0, 100) (List.mem_of_getElem? (i := 12) rfl)) rfl rfl (hz.ob rfl rfl) rfl (by omega) (w_lo (n := 28) rfl (by omega)) (Nat.le_of_ble_eq_true rfl) (Nat.le_of_ble_eq_true rfl) rfl (tX10_bearsNow_0_ok (16, .invokevirtual 194, 3) (List.mem_of_getElem? (i := 8) rfl)) (z_weigh hT (j := 0) (T := φ.1 56) (Wt := φ.1 62) (by decide) hz h1 ⟨h22, pe8⟩ hk.bo h3.2.1 h3.2.2.1 h6 (by omega) (w_sub (n := 28) rfl (by omega)) (fun g1 I1 w1 w2 w3 w4 w5 => ?_))
  show ww l D tys A X fr lo mX10_bearsNow Q 19 [(0, .ref (ad 0)), (1, .int k)] [] g1
  refine w_aload_n (List.Mem.head _) (tX10_bearsNow_0_ok (19, .aload_n 0, 1) (List.mem_of_getElem? (i := 9) rfl)) ?_
  refine z_getR (L1 := 4) (own := 15) (k := 9) w4 rfl rfl rfl rfl rfl rfl rfl (by decide) (tX10_bearsNow_0_ok (20, .getfield 49, 3) (List.mem_of_getElem? (i := 10) rfl)) ?_
  refine z_getR (L1 := 25) (own := 15) (k := 0) w4 rfl rfl rfl rfl rfl rfl rfl (by decide) (tX10_bearsNow_0_ok (23, .getfield 219, 3) (List.mem_of_getElem? (i := 11) rfl)) ?_
  refine w_iload_n (List.Mem.tail _ (List.Mem.head _)) (tX10_bearsNow_0_ok (26, .iload_n 1, 1) (List.mem_of_getElem? (i := 12) rfl)) ?_
  refine z_iald (f := (I1 25)) hT w4 rfl rfl rfl (by omega) (by omega) (tX10_bearsNow_0_ok (27, .iaload, 1) (List.mem_of_getElem? (i := 13) rfl)) (fun zv1 zu2 => ?_)
  have ze3 : zv1.toInt = ((I1 25) k.toInt.toNat).toInt := congrArg _ zu2
  refine w_iret rfl (tX10_bearsNow_0_ok (28, .ireturn, 1) (List.mem_of_getElem? (i := 14) rfl)) ?_
  exact hq _ _ (by rw [zu2]; exact w1 _ (by omega))
theorem z9q_room (hT : k_tys tys cA) {r w : Int32} (hz : zr zNC cA ad I W O h) (hk : kok τ φ) (H : cS τ φ I W) (hf : 30 ≤ fr) (hlo : 900 ≤ lo) (hq : ∀ (g : ch_H) (v : Int32), (((0 ≤ r.toInt ∧ r.toInt < 2 * (τ.1 : Int)) ∧ 0 ≤ w.toInt ∧ w.toInt ≤ 3) ∧ v.toInt = q9_room r.toInt.toNat w.toInt.toNat τ φ ∨ ¬ ((0 ≤ r.toInt ∧ r.toInt < 2 * (τ.1 : Int)) ∧ 0 ≤ w.toInt ∧ w.toInt ≤ 3) ∧ v.toInt = -1000000) → Q (some (.int v)) g) : ww l D tys A X fr lo mX10_room Q 0 [(0, .ref (ad 0)), (1, .int r), (2, .int w)] [] h := by
  have n6 := hk.1.1
  obtain ⟨ga6, pe8, ta6⟩ := hk.2.2.2.1
  obtain ⟨h1, ⟨h21, h22, h23⟩, h3, h4, h5, h6, h7, h8, h9, h10, h11⟩ := id H
  have r0 := h1.1
  refine w_aload_n (List.Mem.head _) (tX10_room_0_ok (0, .aload_n 0, 1) (List.mem_of_getElem? (i := 0) rfl)) ?_
  refine w_iload_n (List.Mem.tail _ (List.Mem.head _)) (tX10_room_0_ok (1, .iload_n 1, 1) (List.mem_of_getElem? (i := 1) rfl)) ?_
  refine w_callV (own := 15) (mi := 122) [.int r] [] [(0, .ref (ad 0)), (1, .int r)] rfl (cllw_X10 (144, 0, 122) (List.mem_of_getElem? (i := 8) rfl)) rfl rfl (hz.ob rfl rfl) rfl (by omega) (w_lo (n := 21) rfl (by omega)) (Nat.le_of_ble_eq_true rfl) (Nat.le_of_ble_eq_true rfl) rfl (tX10_room_0_ok (2, .invokevirtual 144, 3) (List.mem_of_getElem? (i := 2) rfl)) (z_isRoom hT hz r0 n6 (fun zv1 ze2 => ?_))
  show ww l D tys A X fr lo mX10_room Q 5 [(0, .ref (ad 0)), (1, .int r), (2, .int w)] [.int zv1] h
  refine w_if_ne (tgt := 11) (tX10_room_0_ok (5, .ifCond .ne 6, 3) (List.mem_of_getElem? (i := 3) rfl)) rfl (fun zb3 => ?_) (fun zb3 => ?_)
  · refine w_iload_n (List.Mem.tail _ (List.Mem.tail _ (List.Mem.head _))) (tX10_room_0_ok (11, .iload_n 2, 1) (List.mem_of_getElem? (i := 6) rfl)) ?_
    have zb4 : (w.toInt < 0 ∨ 3 < w.toInt) ∨ w.toInt = 0 ∨ w.toInt = 1 ∨ w.toInt = 2 ∨ w.toInt = 3 := by omega
    rcases zb4 with zb4 | zb4 | zb4 | zb4 | zb4
    · refine w_tabOut (tgt := 76) (tX10_room_0_ok (12, .tableswitch 64 0 3 #[32, 38, 48, 54], 32) (List.mem_of_getElem? (i := 7) rfl)) zb4 rfl ?_
      refine w_ldcN (u := -1000000) (wA3 33 rfl rfl) (tX10_room_0_ok (76, .ldc 202, 2) (List.mem_of_getElem? (i := 28) rfl)) (fun zv5 ze6 => ?_)
      have ze6 : zv5.toInt = -1000000 := ze6
      refine w_iret rfl (tX10_room_0_ok (78, .ireturn, 1) (List.mem_of_getElem? (i := 29) rfl)) ?_
      exact hq _ _ (Or.inr ⟨by omega, by omega⟩)
    · refine w_tabIn (tgt := 44) (tX10_room_0_ok (12, .tableswitch 64 0 3 #[32, 38, 48, 54], 32) (List.mem_of_getElem? (i := 7) rfl)) zb4 (by decide) (by decide) rfl rfl ?_
      refine w_aload_n (List.Mem.head _) (tX10_room_0_ok (44, .aload_n 0, 1) (List.mem_of_getElem? (i := 8) rfl)) ?_
      refine w_iload_n (List.Mem.tail _ (List.Mem.head _)) (tX10_room_0_ok (45, .iload_n 1, 1) (List.mem_of_getElem? (i := 9) rfl)) ?_
      refine w_callV (own := 15) (mi := 117) [.int r] [] [(0, .ref (ad 0)), (1, .int r)] rfl (cllw_X10 (203, 0, 117) (List.mem_of_getElem? (i := 9) rfl)) rfl rfl (hz.ob rfl rfl) rfl (by omega) (w_lo (n := 21) rfl (by omega)) (Nat.le_of_ble_eq_true rfl) (Nat.le_of_ble_eq_true rfl) rfl (tX10_room_0_ok (46, .invokevirtual 203, 3) (List.mem_of_getElem? (i := 10) rfl)) (z9q_heightNow hT hz hk H (by omega) (w_sub (n := 21) rfl (by omega)) (Or.inl ⟨by omega, by omega⟩) (fun zg7 zv8 ze9 => ?_))
      show ww l D tys A X fr lo mX10_room Q 49 [(0, .ref (ad 0)), (1, .int r), (2, .int w)] [.int zv8] zg7
      refine w_iret rfl (tX10_room_0_ok (49, .ireturn, 1) (List.mem_of_getElem? (i := 11) rfl)) ?_
      refine hq _ _ (Or.inl ⟨⟨by omega, by omega, by omega⟩, ?_⟩)
      unfold q9_room
      rw [if_pos (by omega)]
      exact ze9
    · refine w_tabIn (tgt := 50) (tX10_room_0_ok (12, .tableswitch 64 0 3 #[32, 38, 48, 54], 32) (List.mem_of_getElem? (i := 7) rfl)) zb4 (by decide) (by decide) rfl rfl ?_
      refine w_aload_n (List.Mem.head _) (tX10_room_0_ok (50, .aload_n 0, 1) (List.mem_of_getElem? (i := 12) rfl)) ?_
      refine z_getR (L1 := 2) (own := 15) (k := 1) hz rfl rfl rfl rfl rfl rfl rfl (by decide) (tX10_room_0_ok (51, .getfield 19, 3) (List.mem_of_getElem? (i := 13) rfl)) ?_
      refine z_getR (L1 := 14) (own := 15) (k := 4) hz rfl rfl rfl rfl rfl rfl rfl (by decide) (tX10_room_0_ok (54, .getfield 206, 3) (List.mem_of_getElem? (i := 14) rfl)) ?_
      refine w_iload_n (List.Mem.tail _ (List.Mem.head _)) (tX10_room_0_ok (57, .iload_n 1, 1) (List.mem_of_getElem? (i := 15) rfl)) ?_
      refine z_iald (f := (I 14)) hT hz rfl rfl rfl (by omega) (by omega) (tX10_room_0_ok (58, .iaload, 1) (List.mem_of_getElem? (i := 16) rfl)) (fun zv10 zu11 => ?_)
      have ze12 : zv10.toInt = ((I 14) r.toInt.toNat).toInt := congrArg _ zu11
      refine w_iret rfl (tX10_room_0_ok (59, .ireturn, 1) (List.mem_of_getElem? (i := 17) rfl)) ?_
      refine hq _ _ (Or.inl ⟨⟨by omega, by omega, by omega⟩, ?_⟩)
      unfold q9_room
      rw [if_neg (by omega)]
      rw [if_pos (by omega)]
      rw [zu11]
      have r9 := h1.2.2 (r.toInt.toNat / 2) (by omega)
      obtain ⟨-, -, -, w3, w4, -⟩ := r9
      by_cases c : r.toInt.toNat % 2 = 0
      · have e9 : 2 * (r.toInt.toNat / 2) = r.toInt.toNat := by omega
        rw [e9] at w3
        rw [c]
        exact w3
      · have e9 : 2 * (r.toInt.toNat / 2) + 1 = r.toInt.toNat := by omega
        rw [e9] at w4
        rw [show r.toInt.toNat % 2 = 1 by omega]
        exact w4
    · refine w_tabIn (tgt := 60) (tX10_room_0_ok (12, .tableswitch 64 0 3 #[32, 38, 48, 54], 32) (List.mem_of_getElem? (i := 7) rfl)) zb4 (by decide) (by decide) rfl rfl ?_
      refine w_aload_n (List.Mem.head _) (tX10_room_0_ok (60, .aload_n 0, 1) (List.mem_of_getElem? (i := 18) rfl)) ?_
      refine w_iload_n (List.Mem.tail _ (List.Mem.head _)) (tX10_room_0_ok (61, .iload_n 1, 1) (List.mem_of_getElem? (i := 19) rfl)) ?_
      refine w_callV (own := 15) (mi := 103) [.int r] [] [(0, .ref (ad 0)), (1, .int r)] rfl (cllw_X10 (209, 0, 103) (List.mem_of_getElem? (i := 11) rfl)) rfl rfl (hz.ob rfl rfl) rfl (by omega) (w_lo (n := 21) rfl (by omega)) (Nat.le_of_ble_eq_true rfl) (Nat.le_of_ble_eq_true rfl) rfl (tX10_room_0_ok (62, .invokevirtual 209, 3) (List.mem_of_getElem? (i := 20) rfl)) (z9q_bearsNow hT hz hk H (by omega) (w_sub (n := 21) rfl (by omega)) ⟨by omega, by omega⟩ (fun zg13 zv14 ze15 => ?_))
      show ww l D tys A X fr lo mX10_room Q 65 [(0, .ref (ad 0)), (1, .int r), (2, .int w)] [.int zv14] zg13
      refine w_iret rfl (tX10_room_0_ok (65, .ireturn, 1) (List.mem_of_getElem? (i := 21) rfl)) ?_
      refine hq _ _ (Or.inl ⟨⟨by omega, by omega, by omega⟩, ?_⟩)
      unfold q9_room
      rw [if_neg (by omega)]
      rw [if_neg (by omega)]
      rw [if_pos (by omega)]
      exact ze15
    · refine w_tabIn (tgt := 66) (tX10_room_0_ok (12, .tableswitch 64 0 3 #[32, 38, 48, 54], 32) (List.mem_of_getElem? (i := 7) rfl)) zb4 (by decide) (by decide) rfl rfl ?_
      refine w_aload_n (List.Mem.head _) (tX10_room_0_ok (66, .aload_n 0, 1) (List.mem_of_getElem? (i := 22) rfl)) ?_
      refine z_getR (L1 := 100) (own := 15) (k := 3) hz rfl rfl rfl rfl rfl rfl rfl (by decide) (tX10_room_0_ok (67, .getfield 29, 3) (List.mem_of_getElem? (i := 23) rfl)) ?_
      refine z_getR (L1 := 104) (own := 15) (k := 3) hz rfl rfl rfl rfl rfl rfl rfl (by decide) (tX10_room_0_ok (70, .getfield 212, 3) (List.mem_of_getElem? (i := 24) rfl)) ?_
      refine w_iload_n (List.Mem.tail _ (List.Mem.head _)) (tX10_room_0_ok (73, .iload_n 1, 1) (List.mem_of_getElem? (i := 25) rfl)) ?_
      refine z_iald (f := (I 104)) hT hz rfl rfl rfl (by omega) (by omega) (tX10_room_0_ok (74, .iaload, 1) (List.mem_of_getElem? (i := 26) rfl)) (fun zv16 zu17 => ?_)
      have ze18 : zv16.toInt = ((I 104) r.toInt.toNat).toInt := congrArg _ zu17
      refine w_iret rfl (tX10_room_0_ok (75, .ireturn, 1) (List.mem_of_getElem? (i := 27) rfl)) ?_
      refine hq _ _ (Or.inl ⟨⟨by omega, by omega, by omega⟩, ?_⟩)
      unfold q9_room
      rw [if_neg (by omega)]
      rw [if_neg (by omega)]
      rw [if_neg (by omega)]
      rw [zu17, h3.2.1 _ (by omega)]
  · refine w_ldcN (u := -1000000) (wA3 33 rfl rfl) (tX10_room_0_ok (8, .ldc 202, 2) (List.mem_of_getElem? (i := 4) rfl)) (fun zv19 ze20 => ?_)
    have ze20 : zv19.toInt = -1000000 := ze20
    refine w_iret rfl (tX10_room_0_ok (10, .ireturn, 1) (List.mem_of_getElem? (i := 5) rfl)) ?_
    exact hq _ _ (Or.inr ⟨by omega, by omega⟩)
theorem z9q_where (hT : k_tys tys cA) {p : Int32} (hz : zr zNC cA ad I W O h) (hk : kok τ φ) (H : cS τ φ I W) (hf : 30 ≤ fr) (hlo : 900 ≤ lo) (hq : ∀ (g : ch_H) (v : Int32), ((0 ≤ p.toInt ∧ p.toInt < (τ.2.2.1 : Int)) ∧ v.toInt = (φ.1 56 (30 + p.toInt.toNat)).toInt ∨ ¬ (0 ≤ p.toInt ∧ p.toInt < (τ.2.2.1 : Int)) ∧ v.toInt = -1) → Q (some (.int v)) g) : ww l D tys A X fr lo mX10_where Q 0 [(0, .ref (ad 0)), (1, .int p)] [] h := by
  have n6 := hk.1.1
  obtain ⟨ga6, pe8, ta6⟩ := hk.2.2.2.1
  obtain ⟨h1, ⟨h21, h22, h23⟩, h3, h4, h5, h6, h7, h8, h9, h10, h11⟩ := id H
  have r0 := h1.1
  refine w_aload_n (List.Mem.head _) (tX10_where_0_ok (0, .aload_n 0, 1) (List.mem_of_getElem? (i := 0) rfl)) ?_
  refine w_iload_n (List.Mem.tail _ (List.Mem.head _)) (tX10_where_0_ok (1, .iload_n 1, 1) (List.mem_of_getElem? (i := 1) rfl)) ?_
  refine w_callV (own := 15) (mi := 120) [.int p] [] [(0, .ref (ad 0)), (1, .int p)] rfl (cllw_X10 (268, 0, 120) (List.mem_of_getElem? (i := 22) rfl)) rfl rfl (hz.ob rfl rfl) rfl (by omega) (w_lo (n := 21) rfl (by omega)) (Nat.le_of_ble_eq_true rfl) (Nat.le_of_ble_eq_true rfl) rfl (tX10_where_0_ok (2, .invokevirtual 268, 3) (List.mem_of_getElem? (i := 2) rfl)) (z_isPerson hT hz h22 (fun zv1 ze2 => ?_))
  show ww l D tys A X fr lo mX10_where Q 5 [(0, .ref (ad 0)), (1, .int p)] [.int zv1] h
  refine w_if_eq (tgt := 20) (tX10_where_0_ok (5, .ifCond .eq 15, 3) (List.mem_of_getElem? (i := 3) rfl)) rfl (fun zb3 => ?_) (fun zb3 => ?_)
  · refine w_iconst (by decide) (tX10_where_0_ok (20, .iconst (-1), 1) (List.mem_of_getElem? (i := 10) rfl)) (fun zv4 ze5 => ?_)
    refine w_iret rfl (tX10_where_0_ok (21, .ireturn, 1) (List.mem_of_getElem? (i := 11) rfl)) ?_
    exact hq _ _ (Or.inr ⟨by omega, by omega⟩)
  · refine w_aload_n (List.Mem.head _) (tX10_where_0_ok (8, .aload_n 0, 1) (List.mem_of_getElem? (i := 4) rfl)) ?_
    refine z_getR (L1 := 100) (own := 15) (k := 3) hz rfl rfl rfl rfl rfl rfl rfl (by decide) (tX10_where_0_ok (9, .getfield 29, 3) (List.mem_of_getElem? (i := 5) rfl)) ?_
    refine z_getR (L1 := 105) (own := 15) (k := 4) hz rfl rfl rfl rfl rfl rfl rfl (by decide) (tX10_where_0_ok (12, .getfield 265, 3) (List.mem_of_getElem? (i := 6) rfl)) ?_
    refine w_iload_n (List.Mem.tail _ (List.Mem.head _)) (tX10_where_0_ok (15, .iload_n 1, 1) (List.mem_of_getElem? (i := 7) rfl)) ?_
    refine z_iald (f := (I 105)) hT hz rfl rfl rfl (by omega) (by omega) (tX10_where_0_ok (16, .iaload, 1) (List.mem_of_getElem? (i := 8) rfl)) (fun zv6 zu7 => ?_)
    have ze8 : zv6.toInt = ((I 105) p.toInt.toNat).toInt := congrArg _ zu7
    refine w_goto (tgt := 21) (tX10_where_0_ok (17, .goto 4, 3) (List.mem_of_getElem? (i := 9) rfl)) rfl ?_
    refine w_iret rfl (tX10_where_0_ok (21, .ireturn, 1) (List.mem_of_getElem? (i := 11) rfl)) ?_
    exact hq _ _ (Or.inl ⟨⟨by omega, by omega⟩, by rw [zu7, h3.2.2.1 _ (by omega)]⟩)
theorem z9q_meet (hT : k_tys tys cA) {p q : Int32} (hz : zr zNC cA ad I W O h) (hk : kok τ φ) (H : cS τ φ I W) (hf : 30 ≤ fr) (hlo : 900 ≤ lo) (hq : ∀ (g : ch_H) (v : Int32), ((c9_meet p q τ ∧ k9_meet φ p.toInt.toNat q.toInt.toNat) ∧ v.toInt = 1 ∨ ¬ (c9_meet p q τ ∧ k9_meet φ p.toInt.toNat q.toInt.toNat) ∧ (c9_meet p q τ ∧ v.toInt = 0 ∨ ¬ c9_meet p q τ ∧ v.toInt = -1)) → Q (some (.int v)) g) : ww l D tys A X fr lo mX10_meet Q 0 [(0, .ref (ad 0)), (1, .int p), (2, .int q)] [] h := by
  have n6 := hk.1.1
  obtain ⟨ga6, pe8, ta6⟩ := hk.2.2.2.1
  obtain ⟨h1, ⟨h21, h22, h23⟩, h3, h4, h5, h6, h7, h8, h9, h10, h11⟩ := id H
  have r0 := h1.1
  refine w_aload_n (List.Mem.head _) (tX10_meet_0_ok (0, .aload_n 0, 1) (List.mem_of_getElem? (i := 0) rfl)) ?_
  refine w_iload_n (List.Mem.tail _ (List.Mem.head _)) (tX10_meet_0_ok (1, .iload_n 1, 1) (List.mem_of_getElem? (i := 1) rfl)) ?_
  refine w_callV (own := 15) (mi := 121) [.int p] [] [(0, .ref (ad 0)), (1, .int p)] rfl (cllw_X10 (253, 0, 121) (List.mem_of_getElem? (i := 19) rfl)) rfl rfl (hz.ob rfl rfl) rfl (by omega) (w_lo (n := 21) rfl (by omega)) (Nat.le_of_ble_eq_true rfl) (Nat.le_of_ble_eq_true rfl) rfl (tX10_meet_0_ok (2, .invokevirtual 253, 3) (List.mem_of_getElem? (i := 2) rfl)) (z_isPlace hT hz r0 n6 h21 ga6 (by omega) (w_sub (n := 21) rfl (by omega)) (fun zv1 ze2 => ?_))
  show ww l D tys A X fr lo mX10_meet Q 5 [(0, .ref (ad 0)), (1, .int p), (2, .int q)] [.int zv1] h
  unfold isPl at ze2
  refine w_if_eq (tgt := 21) (tX10_meet_0_ok (5, .ifCond .eq 16, 3) (List.mem_of_getElem? (i := 3) rfl)) rfl (fun zb3 => ?_) (fun zb3 => ?_)
  · refine w_iconst (by decide) (tX10_meet_0_ok (21, .iconst (-1), 1) (List.mem_of_getElem? (i := 11) rfl)) (fun zv4 ze5 => ?_)
    refine w_iret rfl (tX10_meet_0_ok (22, .ireturn, 1) (List.mem_of_getElem? (i := 12) rfl)) ?_
    have nc : ¬ c9_meet p q τ := by unfold c9_meet isPl; omega
    exact hq _ _ (Or.inr ⟨fun z => nc z.1, Or.inr ⟨nc, by omega⟩⟩)
  · refine w_aload_n (List.Mem.head _) (tX10_meet_0_ok (8, .aload_n 0, 1) (List.mem_of_getElem? (i := 4) rfl)) ?_
    refine w_iload_n (List.Mem.tail _ (List.Mem.tail _ (List.Mem.head _))) (tX10_meet_0_ok (9, .iload_n 2, 1) (List.mem_of_getElem? (i := 5) rfl)) ?_
    refine w_callV (own := 15) (mi := 121) [.int q] [] [(0, .ref (ad 0)), (1, .int q)] rfl (cllw_X10 (253, 0, 121) (List.mem_of_getElem? (i := 19) rfl)) rfl rfl (hz.ob rfl rfl) rfl (by omega) (w_lo (n := 21) rfl (by omega)) (Nat.le_of_ble_eq_true rfl) (Nat.le_of_ble_eq_true rfl) rfl (tX10_meet_0_ok (10, .invokevirtual 253, 3) (List.mem_of_getElem? (i := 6) rfl)) (z_isPlace hT hz r0 n6 h21 ga6 (by omega) (w_sub (n := 21) rfl (by omega)) (fun zv6 ze7 => ?_))
    show ww l D tys A X fr lo mX10_meet Q 13 [(0, .ref (ad 0)), (1, .int p), (2, .int q)] [.int zv6] h
    unfold isPl at ze7
    refine w_if_eq (tgt := 21) (tX10_meet_0_ok (13, .ifCond .eq 8, 3) (List.mem_of_getElem? (i := 7) rfl)) rfl (fun zb8 => ?_) (fun zb8 => ?_)
    · refine w_iconst (by decide) (tX10_meet_0_ok (21, .iconst (-1), 1) (List.mem_of_getElem? (i := 11) rfl)) (fun zv9 ze10 => ?_)
      refine w_iret rfl (tX10_meet_0_ok (22, .ireturn, 1) (List.mem_of_getElem? (i := 12) rfl)) ?_
      have nc : ¬ c9_meet p q τ := by unfold c9_meet isPl; omega
      exact hq _ _ (Or.inr ⟨fun z => nc z.1, Or.inr ⟨nc, by omega⟩⟩)
    · refine w_iload_n (List.Mem.tail _ (List.Mem.head _)) (tX10_meet_0_ok (16, .iload_n 1, 1) (List.mem_of_getElem? (i := 8) rfl)) ?_
      refine w_iload_n (List.Mem.tail _ (List.Mem.tail _ (List.Mem.head _))) (tX10_meet_0_ok (17, .iload_n 2, 1) (List.mem_of_getElem? (i := 9) rfl)) ?_
      refine w_icmp_ne (tgt := 23) (tX10_meet_0_ok (18, .if_icmp .ne 5, 3) (List.mem_of_getElem? (i := 10) rfl)) rfl (fun zb11 => ?_) (fun zb11 => ?_)
      · refine w_aload_n (List.Mem.head _) (tX10_meet_0_ok (23, .aload_n 0, 1) (List.mem_of_getElem? (i := 13) rfl)) ?_
        refine z_getR (L1 := 4) (own := 15) (k := 9) hz rfl rfl rfl rfl rfl rfl rfl (by decide) (tX10_meet_0_ok (24, .getfield 49, 3) (List.mem_of_getElem? (i := 14) rfl)) ?_
        refine w_aload_n (List.Mem.head _) (tX10_meet_0_ok (27, .aload_n 0, 1) (List.mem_of_getElem? (i := 15) rfl)) ?_
        refine z_getR (L1 := 2) (own := 15) (k := 1) hz rfl rfl rfl rfl rfl rfl rfl (by decide) (tX10_meet_0_ok (28, .getfield 19, 3) (List.mem_of_getElem? (i := 16) rfl)) ?_
        refine w_aload_n (List.Mem.head _) (tX10_meet_0_ok (31, .aload_n 0, 1) (List.mem_of_getElem? (i := 17) rfl)) ?_
        refine z_getR (L1 := 100) (own := 15) (k := 3) hz rfl rfl rfl rfl rfl rfl rfl (by decide) (tX10_meet_0_ok (32, .getfield 29, 3) (List.mem_of_getElem? (i := 18) rfl)) ?_
        refine w_aload_n (List.Mem.head _) (tX10_meet_0_ok (35, .aload_n 0, 1) (List.mem_of_getElem? (i := 19) rfl)) ?_
        refine z_getR (L1 := 3) (own := 15) (k := 8) hz rfl rfl rfl rfl rfl rfl rfl (by decide) (tX10_meet_0_ok (36, .getfield 42, 3) (List.mem_of_getElem? (i := 20) rfl)) ?_
        refine w_iload_n (List.Mem.tail _ (List.Mem.head _)) (tX10_meet_0_ok (39, .iload_n 1, 1) (List.mem_of_getElem? (i := 21) rfl)) ?_
        refine w_iload_n (List.Mem.tail _ (List.Mem.tail _ (List.Mem.head _))) (tX10_meet_0_ok (40, .iload_n 2, 1) (List.mem_of_getElem? (i := 22) rfl)) ?_
        have cm : c9_meet p q τ := by unfold c9_meet isPl; omega
        refine w_callV (own := 15) (mi := 93) [.ref (ad 2), .ref (ad 100), .ref (ad 3), .int p, .int q] [] [(0, .ref (ad 4)), (1, .ref (ad 2)), (2, .ref (ad 100)), (3, .ref (ad 3)), (4, .int p), (5, .int q)] rfl (cllw_X10 (260, 0, 93) (List.mem_of_getElem? (i := 21) rfl)) rfl rfl (hz.ob rfl rfl) rfl (by omega) (w_lo (n := 25) rfl (by omega)) (Nat.le_of_ble_eq_true rfl) (Nat.le_of_ble_eq_true rfl) rfl (tX10_meet_0_ok (41, .invokevirtual 260, 3) (List.mem_of_getElem? (i := 23) rfl)) (z_meeting hT (j := 0) (by decide) (T := φ.1 56) (GH := GK φ.1) (BS := BSK φ.1) hz h1 hk.2.1.1 (fun q hq9 => (h3.1 q hq9).1) h4 ga6 h5 (by omega) (w_sub (n := 25) rfl (by omega)) cm.1 cm.2.1 (fun zv12 ze13 => ?_))
        show ww l D tys A X fr lo mX10_meet Q 44 [(0, .ref (ad 0)), (1, .int p), (2, .int q)] [.int zv12] h
        refine w_if_eq (tgt := 51) (tX10_meet_0_ok (44, .ifCond .eq 7, 3) (List.mem_of_getElem? (i := 24) rfl)) rfl (fun zb14 => ?_) (fun zb14 => ?_)
        · refine w_iconst (by decide) (tX10_meet_0_ok (51, .iconst 0, 1) (List.mem_of_getElem? (i := 27) rfl)) (fun zv15 ze16 => ?_)
          refine w_iret rfl (tX10_meet_0_ok (52, .ireturn, 1) (List.mem_of_getElem? (i := 28) rfl)) ?_
          rcases ze13 with ⟨c, d⟩ | ⟨c, d⟩
          · exfalso
            omega
          · exact hq _ _ (Or.inr ⟨fun z => d z.2, Or.inl ⟨cm, by omega⟩⟩)
        · refine w_iconst (by decide) (tX10_meet_0_ok (47, .iconst 1, 1) (List.mem_of_getElem? (i := 25) rfl)) (fun zv17 ze18 => ?_)
          refine w_goto (tgt := 52) (tX10_meet_0_ok (48, .goto 4, 3) (List.mem_of_getElem? (i := 26) rfl)) rfl ?_
          refine w_iret rfl (tX10_meet_0_ok (52, .ireturn, 1) (List.mem_of_getElem? (i := 28) rfl)) ?_
          rcases ze13 with ⟨c, d⟩ | ⟨c, d⟩
          · exact hq _ _ (Or.inl ⟨⟨cm, d⟩, by omega⟩)
          · exfalso
            omega
      · refine w_iconst (by decide) (tX10_meet_0_ok (21, .iconst (-1), 1) (List.mem_of_getElem? (i := 11) rfl)) (fun zv19 ze20 => ?_)
        refine w_iret rfl (tX10_meet_0_ok (22, .ireturn, 1) (List.mem_of_getElem? (i := 12) rfl)) ?_
        have nc : ¬ c9_meet p q τ := by unfold c9_meet isPl; omega
        exact hq _ _ (Or.inr ⟨fun z => nc z.1, Or.inr ⟨nc, by omega⟩⟩)
theorem y9q_room5 (hT : k_tys tys cA) {r w : Int32} (hz : zr zNM cA ad I W O h) (hk : kok τ φ) (H : rS τ φ I W) (hf : 30 ≤ fr) (hlo : 900 ≤ lo) (hbo : ¬ τ.1 = 0 → bo (I 55) (I 56) (I 62) τ.2.2.1 τ.1) (hq : ∀ (g : ch_H) (v : Int32), (((0 ≤ r.toInt ∧ r.toInt < 2 * (τ.1 : Int)) ∧ 0 ≤ w.toInt ∧ w.toInt ≤ 3) ∧ v.toInt = q9_room r.toInt.toNat w.toInt.toNat τ φ ∨ ¬ ((0 ≤ r.toInt ∧ r.toInt < 2 * (τ.1 : Int)) ∧ 0 ≤ w.toInt ∧ w.toInt ≤ 3) ∧ v.toInt = -1000000) → Q (some (.int v)) g) : ww l D tys A X fr lo mX11_room Q 5 [(0, .ref (ad 50)), (1, .int r), (2, .int w)] [] h := by
  have n6 := hk.1.1
  obtain ⟨ga6, pe8, ta6⟩ := hk.2.2.2.1
  obtain ⟨h1, ⟨h21, h22, h23⟩, ⟨h3, h32⟩, h4, h5, h6, h7, h8, h9, h10, h11⟩ := id H
  have r0 := h1.1
  refine w_aload_n (List.Mem.head _) (tX11_room_0_ok (5, .aload_n 0, 1) (List.mem_of_getElem? (i := 3) rfl)) ?_
  refine w_iload_n (List.Mem.tail _ (List.Mem.head _)) (tX11_room_0_ok (6, .iload_n 1, 1) (List.mem_of_getElem? (i := 4) rfl)) ?_
  refine w_callV (own := 16) (mi := 203) [.int r] [] [(0, .ref (ad 50)), (1, .int r)] rfl (cllw_X11 (274, 0, 203) (List.mem_of_getElem? (i := 38) rfl)) rfl rfl (hz.ob rfl rfl) rfl (by omega) (w_lo (n := 21) rfl (by omega)) (Nat.le_of_ble_eq_true rfl) (Nat.le_of_ble_eq_true rfl) rfl (tX11_room_0_ok (7, .invokevirtual 274, 3) (List.mem_of_getElem? (i := 5) rfl)) (y_isRoom hT hz r0 n6 (fun zv1 ze2 => ?_))
  show ww l D tys A X fr lo mX11_room Q 10 [(0, .ref (ad 50)), (1, .int r), (2, .int w)] [.int zv1] h
  refine w_if_eq (tgt := 22) (tX11_room_0_ok (10, .ifCond .eq 12, 3) (List.mem_of_getElem? (i := 6) rfl)) rfl (fun zb3 => ?_) (fun zb3 => ?_)
  · refine w_ldcwN (u := -1000000) (wA6 182 rfl rfl) (tX11_room_0_ok (22, .ldc_w 292, 3) (List.mem_of_getElem? (i := 12) rfl)) (fun zv4 ze5 => ?_)
    have ze5 : zv4.toInt = -1000000 := ze5
    refine w_iret rfl (tX11_room_0_ok (25, .ireturn, 1) (List.mem_of_getElem? (i := 13) rfl)) ?_
    exact hq _ _ (Or.inr ⟨by omega, by omega⟩)
  · refine w_iload_n (List.Mem.tail _ (List.Mem.tail _ (List.Mem.head _))) (tX11_room_0_ok (13, .iload_n 2, 1) (List.mem_of_getElem? (i := 7) rfl)) ?_
    refine w_iconst (by decide) (tX11_room_0_ok (14, .iconst 0, 1) (List.mem_of_getElem? (i := 8) rfl)) (fun zv6 ze7 => ?_)
    refine w_iconst (by decide) (tX11_room_0_ok (15, .iconst 3, 1) (List.mem_of_getElem? (i := 9) rfl)) (fun zv8 ze9 => ?_)
    refine w_callS (own := 16) (mi := 199) [.int w, .int zv6, .int zv8] [] [(0, .int w), (1, .int zv6), (2, .int zv8)] rfl (cllw_X11 (207, 1, 199) (List.mem_of_getElem? (i := 2) rfl)) rfl rfl (by omega) (w_lo (n := 22) rfl (by omega)) (Nat.le_of_ble_eq_true rfl) (Nat.le_of_ble_eq_true rfl) rfl (tX11_room_0_ok (16, .invokestatic 207, 3) (List.mem_of_getElem? (i := 10) rfl)) (r_isIn (fun zv10 ze11 => ?_))
    show ww l D tys A X fr lo mX11_room Q 19 [(0, .ref (ad 50)), (1, .int r), (2, .int w)] [.int zv10] h
    refine w_if_ne (tgt := 26) (tX11_room_0_ok (19, .ifCond .ne 7, 3) (List.mem_of_getElem? (i := 11) rfl)) rfl (fun zb12 => ?_) (fun zb12 => ?_)
    · refine w_iload_n (List.Mem.tail _ (List.Mem.tail _ (List.Mem.head _))) (tX11_room_0_ok (26, .iload_n 2, 1) (List.mem_of_getElem? (i := 14) rfl)) ?_
      refine w_if_ne (tgt := 38) (tX11_room_0_ok (27, .ifCond .ne 11, 3) (List.mem_of_getElem? (i := 15) rfl)) rfl (fun zb13 => ?_) (fun zb13 => ?_)
      · refine w_iload_n (List.Mem.tail _ (List.Mem.tail _ (List.Mem.head _))) (tX11_room_0_ok (38, .iload_n 2, 1) (List.mem_of_getElem? (i := 20) rfl)) ?_
        refine w_iconst (by decide) (tX11_room_0_ok (39, .iconst 1, 1) (List.mem_of_getElem? (i := 21) rfl)) (fun zv14 ze15 => ?_)
        refine w_icmp_ne (tgt := 58) (tX11_room_0_ok (40, .if_icmp .ne 18, 3) (List.mem_of_getElem? (i := 22) rfl)) rfl (fun zb16 => ?_) (fun zb16 => ?_)
        · refine w_iload_n (List.Mem.tail _ (List.Mem.tail _ (List.Mem.head _))) (tX11_room_0_ok (58, .iload_n 2, 1) (List.mem_of_getElem? (i := 34) rfl)) ?_
          refine w_iconst (by decide) (tX11_room_0_ok (59, .iconst 2, 1) (List.mem_of_getElem? (i := 35) rfl)) (fun zv17 ze18 => ?_)
          refine w_icmp_ne (tgt := 71) (tX11_room_0_ok (60, .if_icmp .ne 11, 3) (List.mem_of_getElem? (i := 36) rfl)) rfl (fun zb19 => ?_) (fun zb19 => ?_)
          · refine w_aload_n (List.Mem.head _) (tX11_room_0_ok (71, .aload_n 0, 1) (List.mem_of_getElem? (i := 41) rfl)) ?_
            refine z_getR (L1 := 56) (own := 16) (k := 22) hz rfl rfl rfl rfl rfl rfl rfl (by decide) (tX11_room_0_ok (72, .getfield 45, 3) (List.mem_of_getElem? (i := 42) rfl)) ?_
            refine w_bipush (by decide) (tX11_room_0_ok (75, .bipush 18, 2) (List.mem_of_getElem? (i := 43) rfl)) (fun zv20 ze21 => ?_)
            refine w_iload_n (List.Mem.tail _ (List.Mem.head _)) (tX11_room_0_ok (77, .iload_n 1, 1) (List.mem_of_getElem? (i := 44) rfl)) ?_
            refine w_iadd (by omega) (by omega) (tX11_room_0_ok (78, .iadd, 1) (List.mem_of_getElem? (i := 45) rfl)) (fun zv22 ze23 => ?_)
            refine z_iald (f := (I 56)) hT hz rfl rfl rfl (by omega) (by omega) (tX11_room_0_ok (79, .iaload, 1) (List.mem_of_getElem? (i := 46) rfl)) (fun zv24 zu25 => ?_)
            have ze26 : zv24.toInt = ((I 56) zv22.toInt.toNat).toInt := congrArg _ zu25
            refine w_iret rfl (tX11_room_0_ok (80, .ireturn, 1) (List.mem_of_getElem? (i := 47) rfl)) ?_
            refine hq _ _ (Or.inl ⟨⟨by omega, by omega, by omega⟩, ?_⟩)
            unfold q9_room
            rw [if_neg (by omega)]
            rw [if_neg (by omega)]
            rw [if_neg (by omega)]
            rw [zu25, show zv22.toInt.toNat = 18 + r.toInt.toNat by omega, h3.2.1 _ (by omega)]
          · refine w_aload_n (List.Mem.head _) (tX11_room_0_ok (63, .aload_n 0, 1) (List.mem_of_getElem? (i := 37) rfl)) ?_
            refine w_iload_n (List.Mem.tail _ (List.Mem.head _)) (tX11_room_0_ok (64, .iload_n 1, 1) (List.mem_of_getElem? (i := 38) rfl)) ?_
            refine w_callV (own := 16) (mi := 163) [.int r] [] [(0, .ref (ad 50)), (1, .int r)] rfl (cllw_X11 (283, 0, 163) (List.mem_of_getElem? (i := 37) rfl)) rfl rfl (hz.ob rfl rfl) rfl (by omega) (w_lo (n := 23) rfl (by omega)) (Nat.le_of_ble_eq_true rfl) (Nat.le_of_ble_eq_true rfl) rfl (tX11_room_0_ok (65, .invokevirtual 283, 3) (List.mem_of_getElem? (i := 39) rfl)) (y_bears hT hz h1 (H.yz_ n6 (hbo (by omega))) ⟨by omega, by omega⟩ (by omega) (w_sub (n := 23) rfl (by omega)) (fun zv27 ze28 => ?_))
            show ww l D tys A X fr lo mX11_room Q 68 [(0, .ref (ad 50)), (1, .int r), (2, .int w)] [.int zv27] h
            refine w_goto (tgt := 80) (tX11_room_0_ok (68, .goto 12, 3) (List.mem_of_getElem? (i := 40) rfl)) rfl ?_
            refine w_iret rfl (tX11_room_0_ok (80, .ireturn, 1) (List.mem_of_getElem? (i := 47) rfl)) ?_
            refine hq _ _ (Or.inl ⟨⟨by omega, by omega, by omega⟩, ?_⟩)
            unfold q9_room
            rw [if_neg (by omega)]
            rw [if_neg (by omega)]
            rw [if_pos (by omega)]
            exact ze28
        · refine w_aload_n (List.Mem.head _) (tX11_room_0_ok (43, .aload_n 0, 1) (List.mem_of_getElem? (i := 23) rfl)) ?_
          refine w_iload_n (List.Mem.tail _ (List.Mem.head _)) (tX11_room_0_ok (44, .iload_n 1, 1) (List.mem_of_getElem? (i := 24) rfl)) ?_
          refine w_iconst (by decide) (tX11_room_0_ok (45, .iconst 2, 1) (List.mem_of_getElem? (i := 25) rfl)) (fun zv29 ze30 => ?_)
          refine w_idiv2 (by omega) (by omega) (tX11_room_0_ok (46, .idiv, 1) (List.mem_of_getElem? (i := 26) rfl)) (fun zv31 ze32 => ?_)
          refine w_iconst (by decide) (tX11_room_0_ok (47, .iconst 3, 1) (List.mem_of_getElem? (i := 27) rfl)) (fun zv33 ze34 => ?_)
          refine w_iload_n (List.Mem.tail _ (List.Mem.head _)) (tX11_room_0_ok (48, .iload_n 1, 1) (List.mem_of_getElem? (i := 28) rfl)) ?_
          refine w_iconst (by decide) (tX11_room_0_ok (49, .iconst 2, 1) (List.mem_of_getElem? (i := 29) rfl)) (fun zv35 ze36 => ?_)
          refine w_irem2 (by omega) (by omega) (tX11_room_0_ok (50, .irem, 1) (List.mem_of_getElem? (i := 30) rfl)) (fun zv37 ze38 => ?_)
          refine w_iadd (by omega) (by omega) (tX11_room_0_ok (51, .iadd, 1) (List.mem_of_getElem? (i := 31) rfl)) (fun zv39 ze40 => ?_)
          refine w_callV (own := 16) (mi := 219) [.int zv31, .int zv39] [] [(0, .ref (ad 50)), (1, .int zv31), (2, .int zv39)] rfl (cllw_X11 (255, 0, 219) (List.mem_of_getElem? (i := 34) rfl)) rfl rfl (hz.ob rfl rfl) rfl (by omega) (w_lo (n := 22) rfl (by omega)) (Nat.le_of_ble_eq_true rfl) (Nat.le_of_ble_eq_true rfl) rfl (tX11_room_0_ok (52, .invokevirtual 255, 3) (List.mem_of_getElem? (i := 32) rfl)) (y_of hT hz h1 ⟨by omega, by omega⟩ (by omega) (fun zv41 ze42 => ?_))
          show ww l D tys A X fr lo mX11_room Q 55 [(0, .ref (ad 50)), (1, .int r), (2, .int w)] [.int zv41] h
          refine w_goto (tgt := 80) (tX11_room_0_ok (55, .goto 25, 3) (List.mem_of_getElem? (i := 33) rfl)) rfl ?_
          refine w_iret rfl (tX11_room_0_ok (80, .ireturn, 1) (List.mem_of_getElem? (i := 47) rfl)) ?_
          refine hq _ _ (Or.inl ⟨⟨by omega, by omega, by omega⟩, ?_⟩)
          unfold q9_room
          rw [if_neg (by omega)]
          rw [if_pos (by omega)]
          rw [show zv31.toInt.toNat = r.toInt.toNat / 2 by omega, show zv39.toInt.toNat = 3 + r.toInt.toNat % 2 by omega] at ze42
          exact ze42
      · refine w_aload_n (List.Mem.head _) (tX11_room_0_ok (30, .aload_n 0, 1) (List.mem_of_getElem? (i := 16) rfl)) ?_
        refine w_iload_n (List.Mem.tail _ (List.Mem.head _)) (tX11_room_0_ok (31, .iload_n 1, 1) (List.mem_of_getElem? (i := 17) rfl)) ?_
        refine w_callV (own := 16) (mi := 192) [.int r] [] [(0, .ref (ad 50)), (1, .int r)] rfl (cllw_X11 (280, 0, 192) (List.mem_of_getElem? (i := 39) rfl)) rfl rfl (hz.ob rfl rfl) rfl (by omega) (w_lo (n := 22) rfl (by omega)) (Nat.le_of_ble_eq_true rfl) (Nat.le_of_ble_eq_true rfl) rfl (tX11_room_0_ok (32, .invokevirtual 280, 3) (List.mem_of_getElem? (i := 18) rfl)) (y_height hT hz h1 hk.2.1.1 (fun q hq9 => (h3.1 q hq9).1) h4 ga6 (by omega) (w_sub (n := 22) rfl (by omega)) (Or.inl ⟨by omega, by omega⟩) (fun zv43 ze44 => ?_))
        show ww l D tys A X fr lo mX11_room Q 35 [(0, .ref (ad 50)), (1, .int r), (2, .int w)] [.int zv43] h
        refine w_goto (tgt := 80) (tX11_room_0_ok (35, .goto 45, 3) (List.mem_of_getElem? (i := 19) rfl)) rfl ?_
        refine w_iret rfl (tX11_room_0_ok (80, .ireturn, 1) (List.mem_of_getElem? (i := 47) rfl)) ?_
        refine hq _ _ (Or.inl ⟨⟨by omega, by omega, by omega⟩, ?_⟩)
        unfold q9_room
        rw [if_pos (by omega)]
        exact ze44
    · refine w_ldcwN (u := -1000000) (wA6 182 rfl rfl) (tX11_room_0_ok (22, .ldc_w 292, 3) (List.mem_of_getElem? (i := 12) rfl)) (fun zv45 ze46 => ?_)
      have ze46 : zv45.toInt = -1000000 := ze46
      refine w_iret rfl (tX11_room_0_ok (25, .ireturn, 1) (List.mem_of_getElem? (i := 13) rfl)) ?_
      exact hq _ _ (Or.inr ⟨by omega, by omega⟩)
theorem y9q_room (hT : k_tys tys cA) {r w : Int32} (hz : zr zNM cA ad I W O h) (hk : kok τ φ) (H : rS τ φ I W) (hf : 30 ≤ fr) (hlo : 900 ≤ lo) (hbo : ¬ τ.1 = 0 → bo (I 55) (I 56) (I 62) τ.2.2.1 τ.1) (hq : ∀ (g : ch_H) (v : Int32), (((0 ≤ r.toInt ∧ r.toInt < 2 * (τ.1 : Int)) ∧ 0 ≤ w.toInt ∧ w.toInt ≤ 3) ∧ v.toInt = q9_room r.toInt.toNat w.toInt.toNat τ φ ∨ ¬ ((0 ≤ r.toInt ∧ r.toInt < 2 * (τ.1 : Int)) ∧ 0 ≤ w.toInt ∧ w.toInt ≤ 3) ∧ v.toInt = -1000000) → Q (some (.int v)) g) : ww l D tys A X fr lo mX11_room Q 0 [(0, .ref (ad 50)), (1, .int r), (2, .int w)] [] h := by
  refine w_aload_n (List.Mem.head _) (tX11_room_0_ok (0, .aload_n 0, 1) (List.mem_of_getElem? (i := 0) rfl)) ?_
  refine w_iconst (by decide) (tX11_room_0_ok (1, .iconst 0, 1) (List.mem_of_getElem? (i := 1) rfl)) (fun zv1 ze2 => ?_)
  refine z_put (f := (I 50)) (own := 16) (k := 0) hz rfl rfl rfl rfl rfl rfl rfl (by decide) rfl ⟨rfl, rfl⟩ (tX11_room_0_ok (2, .putfield 85, 3) (List.mem_of_getElem? (i := 2) rfl)) (fun zh3 zI4 zq5 zz6 zf7 => ?_)
  exact y9q_room5 hT zz6 hk (H.th zq5) hf hlo (by rw [zq5, s2_n (by decide), s2_n (by decide), s2_n (by decide)]; exact hbo) hq
theorem y9q_where5 (hT : k_tys tys cA) {p : Int32} (hz : zr zNM cA ad I W O h) (hk : kok τ φ) (H : rS τ φ I W) (hf : 30 ≤ fr) (hlo : 900 ≤ lo) (hq : ∀ (g : ch_H) (v : Int32), ((0 ≤ p.toInt ∧ p.toInt < (τ.2.2.1 : Int)) ∧ v.toInt = (φ.1 56 (30 + p.toInt.toNat)).toInt ∨ ¬ (0 ≤ p.toInt ∧ p.toInt < (τ.2.2.1 : Int)) ∧ v.toInt = -1) → Q (some (.int v)) g) : ww l D tys A X fr lo mX11_where Q 5 [(0, .ref (ad 50)), (1, .int p)] [] h := by
  have n6 := hk.1.1
  obtain ⟨ga6, pe8, ta6⟩ := hk.2.2.2.1
  obtain ⟨h1, ⟨h21, h22, h23⟩, ⟨h3, h32⟩, h4, h5, h6, h7, h8, h9, h10, h11⟩ := id H
  have r0 := h1.1
  refine w_aload_n (List.Mem.head _) (tX11_where_0_ok (5, .aload_n 0, 1) (List.mem_of_getElem? (i := 3) rfl)) ?_
  refine w_iload_n (List.Mem.tail _ (List.Mem.head _)) (tX11_where_0_ok (6, .iload_n 1, 1) (List.mem_of_getElem? (i := 4) rfl)) ?_
  refine w_callV (own := 16) (mi := 201) [.int p] [] [(0, .ref (ad 50)), (1, .int p)] rfl (cllw_X11 (326, 0, 201) (List.mem_of_getElem? (i := 49) rfl)) rfl rfl (hz.ob rfl rfl) rfl (by omega) (w_lo (n := 21) rfl (by omega)) (Nat.le_of_ble_eq_true rfl) (Nat.le_of_ble_eq_true rfl) rfl (tX11_where_0_ok (7, .invokevirtual 326, 3) (List.mem_of_getElem? (i := 5) rfl)) (y_isPerson hT hz h22 (fun zv1 ze2 => ?_))
  show ww l D tys A X fr lo mX11_where Q 10 [(0, .ref (ad 50)), (1, .int p)] [.int zv1] h
  refine w_if_eq (tgt := 25) (tX11_where_0_ok (10, .ifCond .eq 15, 3) (List.mem_of_getElem? (i := 6) rfl)) rfl (fun zb3 => ?_) (fun zb3 => ?_)
  · refine w_iconst (by decide) (tX11_where_0_ok (25, .iconst (-1), 1) (List.mem_of_getElem? (i := 14) rfl)) (fun zv4 ze5 => ?_)
    refine w_iret rfl (tX11_where_0_ok (26, .ireturn, 1) (List.mem_of_getElem? (i := 15) rfl)) ?_
    exact hq _ _ (Or.inr ⟨by omega, by omega⟩)
  · refine w_aload_n (List.Mem.head _) (tX11_where_0_ok (13, .aload_n 0, 1) (List.mem_of_getElem? (i := 7) rfl)) ?_
    refine z_getR (L1 := 56) (own := 16) (k := 22) hz rfl rfl rfl rfl rfl rfl rfl (by decide) (tX11_where_0_ok (14, .getfield 45, 3) (List.mem_of_getElem? (i := 8) rfl)) ?_
    refine w_bipush (by decide) (tX11_where_0_ok (17, .bipush 30, 2) (List.mem_of_getElem? (i := 9) rfl)) (fun zv6 ze7 => ?_)
    refine w_iload_n (List.Mem.tail _ (List.Mem.head _)) (tX11_where_0_ok (19, .iload_n 1, 1) (List.mem_of_getElem? (i := 10) rfl)) ?_
    refine w_iadd (by omega) (by omega) (tX11_where_0_ok (20, .iadd, 1) (List.mem_of_getElem? (i := 11) rfl)) (fun zv8 ze9 => ?_)
    refine z_iald (f := (I 56)) hT hz rfl rfl rfl (by omega) (by omega) (tX11_where_0_ok (21, .iaload, 1) (List.mem_of_getElem? (i := 12) rfl)) (fun zv10 zu11 => ?_)
    have ze12 : zv10.toInt = ((I 56) zv8.toInt.toNat).toInt := congrArg _ zu11
    refine w_goto (tgt := 26) (tX11_where_0_ok (22, .goto 4, 3) (List.mem_of_getElem? (i := 13) rfl)) rfl ?_
    refine w_iret rfl (tX11_where_0_ok (26, .ireturn, 1) (List.mem_of_getElem? (i := 15) rfl)) ?_
    exact hq _ _ (Or.inl ⟨⟨by omega, by omega⟩, by rw [zu11, show zv8.toInt.toNat = 30 + p.toInt.toNat by omega, h3.2.2.1 _ (by omega)]⟩)
theorem y9q_where (hT : k_tys tys cA) {p : Int32} (hz : zr zNM cA ad I W O h) (hk : kok τ φ) (H : rS τ φ I W) (hf : 30 ≤ fr) (hlo : 900 ≤ lo) (hq : ∀ (g : ch_H) (v : Int32), ((0 ≤ p.toInt ∧ p.toInt < (τ.2.2.1 : Int)) ∧ v.toInt = (φ.1 56 (30 + p.toInt.toNat)).toInt ∨ ¬ (0 ≤ p.toInt ∧ p.toInt < (τ.2.2.1 : Int)) ∧ v.toInt = -1) → Q (some (.int v)) g) : ww l D tys A X fr lo mX11_where Q 0 [(0, .ref (ad 50)), (1, .int p)] [] h := by
  refine w_aload_n (List.Mem.head _) (tX11_where_0_ok (0, .aload_n 0, 1) (List.mem_of_getElem? (i := 0) rfl)) ?_
  refine w_iconst (by decide) (tX11_where_0_ok (1, .iconst 0, 1) (List.mem_of_getElem? (i := 1) rfl)) (fun zv1 ze2 => ?_)
  refine z_put (f := (I 50)) (own := 16) (k := 0) hz rfl rfl rfl rfl rfl rfl rfl (by decide) rfl ⟨rfl, rfl⟩ (tX11_where_0_ok (2, .putfield 85, 3) (List.mem_of_getElem? (i := 2) rfl)) (fun zh3 zI4 zq5 zz6 zf7 => ?_)
  exact y9q_where5 hT zz6 hk (H.th zq5) hf hlo hq
theorem y9q_meet5 (hT : k_tys tys cA) {p q : Int32} (hz : zr zNM cA ad I W O h) (hk : kok τ φ) (H : rS τ φ I W) (hf : 30 ≤ fr) (hlo : 900 ≤ lo) (hq : ∀ (g : ch_H) (v : Int32), ((c9_meet p q τ ∧ k9_meet φ p.toInt.toNat q.toInt.toNat) ∧ v.toInt = 1 ∨ ¬ (c9_meet p q τ ∧ k9_meet φ p.toInt.toNat q.toInt.toNat) ∧ (c9_meet p q τ ∧ v.toInt = 0 ∨ ¬ c9_meet p q τ ∧ v.toInt = -1)) → Q (some (.int v)) g) : ww l D tys A X fr lo mX11_meet Q 5 [(0, .ref (ad 50)), (1, .int p), (2, .int q)] [] h := by
  have n6 := hk.1.1
  obtain ⟨ga6, pe8, ta6⟩ := hk.2.2.2.1
  obtain ⟨h1, ⟨h21, h22, h23⟩, ⟨h3, h32⟩, h4, h5, h6, h7, h8, h9, h10, h11⟩ := id H
  have r0 := h1.1
  refine w_aload_n (List.Mem.head _) (tX11_meet_0_ok (5, .aload_n 0, 1) (List.mem_of_getElem? (i := 3) rfl)) ?_
  refine w_iload_n (List.Mem.tail _ (List.Mem.head _)) (tX11_meet_0_ok (6, .iload_n 1, 1) (List.mem_of_getElem? (i := 4) rfl)) ?_
  refine w_iload_n (List.Mem.tail _ (List.Mem.tail _ (List.Mem.head _))) (tX11_meet_0_ok (7, .iload_n 2, 1) (List.mem_of_getElem? (i := 5) rfl)) ?_
  refine w_callV (own := 16) (mi := 160) [.int p, .int q] [] [(0, .ref (ad 50)), (1, .int p), (2, .int q)] rfl (cllw_X11 (320, 0, 160) (List.mem_of_getElem? (i := 46) rfl)) rfl rfl (hz.ob rfl rfl) rfl (by omega) (w_lo (n := 22) rfl (by omega)) (Nat.le_of_ble_eq_true rfl) (Nat.le_of_ble_eq_true rfl) rfl (tX11_meet_0_ok (8, .invokevirtual 320, 3) (List.mem_of_getElem? (i := 6) rfl)) (y_areTwo hT hz r0 n6 h21 ga6 (by omega) (w_sub (n := 22) rfl (by omega)) (fun zv1 ze2 => ?_))
  show ww l D tys A X fr lo mX11_meet Q 11 [(0, .ref (ad 50)), (1, .int p), (2, .int q)] [.int zv1] h
  unfold isPl at ze2
  refine w_if_eq (tgt := 31) (tX11_meet_0_ok (11, .ifCond .eq 20, 3) (List.mem_of_getElem? (i := 7) rfl)) rfl (fun zb3 => ?_) (fun zb3 => ?_)
  · refine w_iconst (by decide) (tX11_meet_0_ok (31, .iconst (-1), 1) (List.mem_of_getElem? (i := 17) rfl)) (fun zv4 ze5 => ?_)
    refine w_iret rfl (tX11_meet_0_ok (32, .ireturn, 1) (List.mem_of_getElem? (i := 18) rfl)) ?_
    have nc : ¬ c9_meet p q τ := by unfold c9_meet isPl; omega
    exact hq _ _ (Or.inr ⟨fun z => nc z.1, Or.inr ⟨nc, by omega⟩⟩)
  · refine w_aload_n (List.Mem.head _) (tX11_meet_0_ok (14, .aload_n 0, 1) (List.mem_of_getElem? (i := 8) rfl)) ?_
    refine w_iload_n (List.Mem.tail _ (List.Mem.head _)) (tX11_meet_0_ok (15, .iload_n 1, 1) (List.mem_of_getElem? (i := 9) rfl)) ?_
    refine w_iload_n (List.Mem.tail _ (List.Mem.tail _ (List.Mem.head _))) (tX11_meet_0_ok (16, .iload_n 2, 1) (List.mem_of_getElem? (i := 10) rfl)) ?_
    have cm : c9_meet p q τ := by unfold c9_meet isPl; omega
    refine w_callV (own := 16) (mi := 214) [.int p, .int q] [] [(0, .ref (ad 50)), (1, .int p), (2, .int q)] rfl (cllw_X11 (323, 0, 214) (List.mem_of_getElem? (i := 48) rfl)) rfl rfl (hz.ob rfl rfl) rfl (by omega) (w_lo (n := 22) rfl (by omega)) (Nat.le_of_ble_eq_true rfl) (Nat.le_of_ble_eq_true rfl) rfl (tX11_meet_0_ok (17, .invokevirtual 323, 3) (List.mem_of_getElem? (i := 11) rfl)) (y_meets hT (BS := BSK φ.1) hz h1 hk.2.1.1 (fun q hq9 => (h3.1 q hq9).1) h4 ga6 (fun a b ha hb => ⟨by rw [(h5 a b ha hb).1]; unfold BSK; exact (decide_eq_true_iff).symm, by rw [(h5 a b ha hb).1]; exact (h5 a b ha hb).2⟩) (by omega) (w_sub (n := 22) rfl (by omega)) cm.1 cm.2.1 (fun zv6 ze7 => ?_))
    show ww l D tys A X fr lo mX11_meet Q 20 [(0, .ref (ad 50)), (1, .int p), (2, .int q)] [.int zv6] h
    refine w_if_eq (tgt := 27) (tX11_meet_0_ok (20, .ifCond .eq 7, 3) (List.mem_of_getElem? (i := 12) rfl)) rfl (fun zb8 => ?_) (fun zb8 => ?_)
    · refine w_iconst (by decide) (tX11_meet_0_ok (27, .iconst 0, 1) (List.mem_of_getElem? (i := 15) rfl)) (fun zv9 ze10 => ?_)
      refine w_goto (tgt := 32) (tX11_meet_0_ok (28, .goto 4, 3) (List.mem_of_getElem? (i := 16) rfl)) rfl ?_
      refine w_iret rfl (tX11_meet_0_ok (32, .ireturn, 1) (List.mem_of_getElem? (i := 18) rfl)) ?_
      rcases ze7 with ⟨c, d⟩ | ⟨c, d⟩
      · exfalso
        omega
      · exact hq _ _ (Or.inr ⟨fun z => d z.2, Or.inl ⟨cm, by omega⟩⟩)
    · refine w_iconst (by decide) (tX11_meet_0_ok (23, .iconst 1, 1) (List.mem_of_getElem? (i := 13) rfl)) (fun zv11 ze12 => ?_)
      refine w_goto (tgt := 32) (tX11_meet_0_ok (24, .goto 8, 3) (List.mem_of_getElem? (i := 14) rfl)) rfl ?_
      refine w_iret rfl (tX11_meet_0_ok (32, .ireturn, 1) (List.mem_of_getElem? (i := 18) rfl)) ?_
      rcases ze7 with ⟨c, d⟩ | ⟨c, d⟩
      · exact hq _ _ (Or.inl ⟨⟨cm, d⟩, by omega⟩)
      · exfalso
        omega
theorem y9q_meet (hT : k_tys tys cA) {p q : Int32} (hz : zr zNM cA ad I W O h) (hk : kok τ φ) (H : rS τ φ I W) (hf : 30 ≤ fr) (hlo : 900 ≤ lo) (hq : ∀ (g : ch_H) (v : Int32), ((c9_meet p q τ ∧ k9_meet φ p.toInt.toNat q.toInt.toNat) ∧ v.toInt = 1 ∨ ¬ (c9_meet p q τ ∧ k9_meet φ p.toInt.toNat q.toInt.toNat) ∧ (c9_meet p q τ ∧ v.toInt = 0 ∨ ¬ c9_meet p q τ ∧ v.toInt = -1)) → Q (some (.int v)) g) : ww l D tys A X fr lo mX11_meet Q 0 [(0, .ref (ad 50)), (1, .int p), (2, .int q)] [] h := by
  refine w_aload_n (List.Mem.head _) (tX11_meet_0_ok (0, .aload_n 0, 1) (List.mem_of_getElem? (i := 0) rfl)) ?_
  refine w_iconst (by decide) (tX11_meet_0_ok (1, .iconst 0, 1) (List.mem_of_getElem? (i := 1) rfl)) (fun zv1 ze2 => ?_)
  refine z_put (f := (I 50)) (own := 16) (k := 0) hz rfl rfl rfl rfl rfl rfl rfl (by decide) rfl ⟨rfl, rfl⟩ (tX11_meet_0_ok (2, .putfield 85, 3) (List.mem_of_getElem? (i := 2) rfl)) (fun zh3 zI4 zq5 zz6 zf7 => ?_)
  exact y9q_meet5 hT zz6 hk (H.th zq5) hf hlo hq
end
section
variable {l : Launch} {D : va_G} {tys : List (ClassId × FieldType)} {A : Nat → Prop} {X : State → Prop} {cA : Nat → ClassId} {x m : Nat}
theorem hC_room (hT : k_TX tys cA A X) {p q : Int32} : sG (kE cA) l D tys A X cA 100 6000 0 0 mX10_room x [.int p, .int q] (fun σ => σ) (fun _ v => isI v) (fun _ u => (u.1, u.2)) (fun u v => b9_room p q u.1 u.2 v) :=
  sG_an (fC_room hT) (fun Sg h σ θ hH sx _ H => by
    obtain ⟨-, ⟨hk, ad, I, W, O, hz, rfl, hS, hA⟩, -⟩ := H
    show ww l D tys A X 100 6000 mX10_room _ 0 [(0, .ref (ad 0)), (1, .int p), (2, .int q)] [] h
    exact z9q_room hT.1 hz hk hS (by decide) (by decide) (fun g v e => ⟨v, rfl, e⟩))
theorem hR_room (hT : k_TX tys cA A X) {p q : Int32} : tG (kF cA) l D tys A X cA 100 6000 0 0 mX11_room m [.int p, .int q] (fun σ => σ) (fun _ v => isI v) (fun _ u => (u.1, u.2)) (fun u v => b9_room p q u.1 u.2 v) :=
  tG_an (fR_room hT) (fun Sg h σ θ hH sm _ H => by
    obtain ⟨-, ⟨hk, ad, I, W, O, hz, rfl, hS⟩, -⟩ := H
    show ww l D tys A X 100 6000 mX11_room _ 0 [(0, .ref (ad 50)), (1, .int p), (2, .int q)] [] h
    exact y9q_room hT.1 hz hk hS (by decide) (by decide) (FR_bo hH hz hk hS sm.1) (fun g v e => ⟨v, rfl, e⟩))
theorem hC_where (hT : k_TX tys cA A X) {p : Int32} : sG (kE cA) l D tys A X cA 100 6000 0 0 mX10_where x [.int p] (fun σ => σ) (fun _ v => isI v) (fun _ u => (u.1, u.2)) (fun u v => b9_where p u.1 u.2 v) :=
  sG_an (fC_where hT) (fun Sg h σ θ hH sx _ H => by
    obtain ⟨-, ⟨hk, ad, I, W, O, hz, rfl, hS, hA⟩, -⟩ := H
    show ww l D tys A X 100 6000 mX10_where _ 0 [(0, .ref (ad 0)), (1, .int p)] [] h
    exact z9q_where hT.1 hz hk hS (by decide) (by decide) (fun g v e => ⟨v, rfl, e⟩))
theorem hR_where (hT : k_TX tys cA A X) {p : Int32} : tG (kF cA) l D tys A X cA 100 6000 0 0 mX11_where m [.int p] (fun σ => σ) (fun _ v => isI v) (fun _ u => (u.1, u.2)) (fun u v => b9_where p u.1 u.2 v) :=
  tG_an (fR_where hT) (fun Sg h σ θ hH sm _ H => by
    obtain ⟨-, ⟨hk, ad, I, W, O, hz, rfl, hS⟩, -⟩ := H
    show ww l D tys A X 100 6000 mX11_where _ 0 [(0, .ref (ad 50)), (1, .int p)] [] h
    exact y9q_where hT.1 hz hk hS (by decide) (by decide) (fun g v e => ⟨v, rfl, e⟩))
theorem hC_meet (hT : k_TX tys cA A X) {p q : Int32} : sG (kE cA) l D tys A X cA 100 6000 0 0 mX10_meet x [.int p, .int q] (fun σ => σ) (fun _ v => isI v) (fun _ u => (u.1, u.2)) (fun u v => b9_meet p q u.1 u.2 v) :=
  sG_an (fC_meet hT) (fun Sg h σ θ hH sx _ H => by
    obtain ⟨-, ⟨hk, ad, I, W, O, hz, rfl, hS, hA⟩, -⟩ := H
    show ww l D tys A X 100 6000 mX10_meet _ 0 [(0, .ref (ad 0)), (1, .int p), (2, .int q)] [] h
    exact z9q_meet hT.1 hz hk hS (by decide) (by decide) (fun g v e => ⟨v, rfl, e⟩))
theorem hR_meet (hT : k_TX tys cA A X) {p q : Int32} : tG (kF cA) l D tys A X cA 100 6000 0 0 mX11_meet m [.int p, .int q] (fun σ => σ) (fun _ v => isI v) (fun _ u => (u.1, u.2)) (fun u v => b9_meet p q u.1 u.2 v) :=
  tG_an (fR_meet hT) (fun Sg h σ θ hH sm _ H => by
    obtain ⟨-, ⟨hk, ad, I, W, O, hz, rfl, hS⟩, -⟩ := H
    show ww l D tys A X 100 6000 mX11_meet _ 0 [(0, .ref (ad 50)), (1, .int p), (2, .int q)] [] h
    exact y9q_meet hT.1 hz hk hS (by decide) (by decide) (fun g v e => ⟨v, rfl, e⟩))
end
