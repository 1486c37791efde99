/-! the class's calls on what a TOWN shows -/
section
variable {l : Launch} {D : va_G} {tys : List (ClassId × FieldType)} {A : Nat → Prop} {X : State → Prop} {fr lo : Nat} {M : ch_M} {Q : Option Value → ch_H → Prop} {pc : Nat} {lv : List (Nat × Value)} {st : List Value} {cA : Nat → ClassId} {h : ch_H} {ad : Nat → Nat} {I I1 : zI} {W W1 : zW} {O : zO} {n j pe ga : Nat} {T T1 : Nat → Int32} {d d1 : Int64} {τ : aN} {φ : zP}
theorem sx.on_ {p : Nat} {o : Int32} (H : sx I W j n pe T d) (n6 : n ≤ 6) (ho : 0 ≤ o.toInt ∧ o.toInt ≤ 1) (c : I1 (100 + 6 * j + 3) = upd (I (100 + 6 * j + 3)) p o) (hp : p < 6) (om : ∀ L, 100 + 6 * j ≤ L → L < 100 + 6 * j + 6 → L ≠ 100 + 6 * j + 3 → I1 L = I L) : sx I1 W j n pe (upd T (12 + p) o) d := by
  obtain ⟨h1, h2, h3, h4, h5, h6⟩ := H
  refine ⟨fun q hq => ?_, fun q hq => ?_, fun i hi => ?_, ?_, h5, fun q hq => ?_⟩
  · rw [om _ (by omega) (by omega) (by omega), om _ (by omega) (by omega) (by omega), c, upd_n _ _ (show ¬ q = 12 + p by omega), upd_n _ _ (show ¬ 6 + q = 12 + p by omega)]
    refine ⟨(h1 q hq).1, (h1 q hq).2.1, ?_⟩
    by_cases e : q = p
    · subst e
      rw [upd_s, upd_s]
    · rw [upd_n _ _ e, upd_n _ _ (by omega)]
      exact (h1 q hq).2.2
  · rw [om _ (by omega) (by omega) (by omega), upd_n _ _ (by omega)]
    exact h2 q hq
  · rw [om _ (by omega) (by omega) (by omega), upd_n _ _ (by omega)]
    exact h3 i hi
  · rw [om _ (by omega) (by omega) (by omega), upd_n _ _ (by omega)]
    exact h4
  · rw [c]
    by_cases e : q = p
    · subst e
      rw [upd_s]
      exact ho
    · rw [upd_n _ _ e]
      exact h6 q hq
theorem sx.wat {r : Nat} {o : Int32} (H : sx I W j n pe T d) (n6 : n ≤ 6) (c : I1 (100 + 6 * j + 4) = upd (I (100 + 6 * j + 4)) r o) (hr : r < 12) (om : ∀ L, 100 + 6 * j ≤ L → L < 100 + 6 * j + 6 → L ≠ 100 + 6 * j + 4 → I1 L = I L) : sx I1 W j n pe (upd T (18 + r) o) d := by
  obtain ⟨h1, h2, h3, h4, h5, h6⟩ := H
  refine ⟨fun q hq => ?_, fun q hq => ?_, fun i hi => ?_, ?_, h5, fun q hq => ?_⟩
  · rw [om _ (by omega) (by omega) (by omega), om _ (by omega) (by omega) (by omega), om _ (by omega) (by omega) (by omega), upd_n _ _ (show ¬ q = 18 + r by omega), upd_n _ _ (show ¬ 6 + q = 18 + r by omega), upd_n _ _ (show ¬ 12 + q = 18 + r by omega)]
    exact h1 q hq
  · rw [c]
    by_cases e : q = r
    · subst e
      rw [upd_s, upd_s]
    · rw [upd_n _ _ e, upd_n _ _ (by omega)]
      exact h2 q hq
  · rw [om _ (by omega) (by omega) (by omega), upd_n _ _ (by omega)]
    exact h3 i hi
  · rw [om _ (by omega) (by omega) (by omega), upd_n _ _ (by omega)]
    exact h4
  · rw [om _ (by omega) (by omega) (by omega)]
    exact h6 q hq
theorem sx.x_ {p : Nat} {o : Int32} (H : sx I W j n pe T d) (n6 : n ≤ 6) (c : I1 (100 + 6 * j + 1) = upd (I (100 + 6 * j + 1)) p o) (hp : p < 6) (om : ∀ L, 100 + 6 * j ≤ L → L < 100 + 6 * j + 6 → L ≠ 100 + 6 * j + 1 → I1 L = I L) : sx I1 W j n pe (upd T p o) d := by
  obtain ⟨h1, h2, h3, h4, h5, h6⟩ := H
  refine ⟨fun q hq => ?_, fun q hq => ?_, fun i hi => ?_, ?_, h5, fun q hq => ?_⟩
  · rw [om (100 + 6 * j + 2) (by omega) (by omega) (by omega), om (100 + 6 * j + 3) (by omega) (by omega) (by omega), c, upd_n _ _ (show ¬ 6 + q = p by omega), upd_n _ _ (show ¬ 12 + q = p by omega)]
    refine ⟨?_, (h1 q hq).2.1, (h1 q hq).2.2⟩
    by_cases e : q = p
    · subst e
      rw [upd_s, upd_s]
    · rw [upd_n _ _ e, upd_n _ _ e]
      exact (h1 q hq).1
  · rw [om _ (by omega) (by omega) (by omega), upd_n _ _ (by omega)]
    exact h2 q hq
  · rw [om _ (by omega) (by omega) (by omega), upd_n _ _ (by omega)]
    exact h3 i hi
  · rw [om _ (by omega) (by omega) (by omega), upd_n _ _ (by omega)]
    exact h4
  · rw [om _ (by omega) (by omega) (by omega)]
    exact h6 q hq
theorem sx.at_ {i pe1 : Nat} {o : Int32} (H : sx I W j n pe T d) (n6 : n ≤ 6) (c : I1 (100 + 6 * j + 5) = upd (I (100 + 6 * j + 5)) i o) (hi : i < 8) (h1 : ∀ k, k < pe1 → k ≠ i → k < pe) (om : ∀ L, 100 + 6 * j ≤ L → L < 100 + 6 * j + 6 → L ≠ 100 + 6 * j + 5 → I1 L = I L) : sx I1 W j n pe1 (upd T (30 + i) o) d := by
  obtain ⟨g1, g2, g3, g4, g5, g6⟩ := H
  refine ⟨fun q hq => ?_, fun q hq => ?_, fun k hk => ?_, ?_, g5, fun q hq => ?_⟩
  · rw [om _ (by omega) (by omega) (by omega), om _ (by omega) (by omega) (by omega), om _ (by omega) (by omega) (by omega), upd_n _ _ (show ¬ q = 30 + i by omega), upd_n _ _ (show ¬ 6 + q = 30 + i by omega), upd_n _ _ (show ¬ 12 + q = 30 + i by omega)]
    exact g1 q hq
  · rw [om _ (by omega) (by omega) (by omega), upd_n _ _ (by omega)]
    exact g2 q hq
  · rw [c]
    by_cases e : k = i
    · subst e
      rw [upd_s, upd_s]
    · rw [upd_n _ _ e, upd_n _ _ (by omega)]
      exact g3 k (h1 k hk e)
  · rw [om _ (by omega) (by omega) (by omega), upd_n _ _ (by omega)]
    exact g4
  · rw [om _ (by omega) (by omega) (by omega)]
    exact g6 q hq
theorem sx.go (H : sx I W j n pe T d) (n6 : n ≤ 6) (p8 : pe ≤ 8) (c : ∀ q, q < n → I1 (100 + 6 * j + 1) q = T1 q ∧ I1 (100 + 6 * j + 2) q = T1 (6 + q)) (hi : ∀ k, 12 ≤ k → k < 38 → T1 k = T k) (hm : I1 (100 + 6 * j) 5 = T1 38) (hw : W1 (100 + 6 * j) 6 = d1) (om : ∀ L, 100 + 6 * j + 2 < L → L < 100 + 6 * j + 6 → I1 L = I L) : sx I1 W1 j n pe T1 d1 := by
  obtain ⟨h1, h2, h3, h4, h5, h6⟩ := H
  refine ⟨fun q hq => ⟨(c q hq).1, (c q hq).2, ?_⟩, fun q hq => ?_, fun i h9 => ?_, hm, hw, fun q hq => ?_⟩
  · rw [om _ (by omega) (by omega), hi _ (by omega) (by omega)]
    exact (h1 q hq).2.2
  · rw [om _ (by omega) (by omega), hi _ (by omega) (by omega)]
    exact h2 q hq
  · rw [om _ (by omega) (by omega), hi _ (by omega) (by omega)]
    exact h3 i h9
  · rw [om _ (by omega) (by omega)]
    exact h6 q hq
theorem z_isRope (hT : k_tys tys cA) {p : Int32} (hz : zr zNC cA ad I W O h) (hn : (I 2 0).toInt = (n : Int)) (n6 : n ≤ 6) (hq : ∀ v : Int32, (v.toInt = 1 ∧ (0 ≤ p.toInt ∧ p.toInt < (n : Int)) ∨ v.toInt = 0 ∧ ¬ (0 ≤ p.toInt ∧ p.toInt < (n : Int))) → Q (some (.int v)) h) : ww l D tys A X fr lo mX10_isRope Q 0 [(0, .ref (ad 0)), (1, .int p)] [] h := by
  refine w_iload_n (List.Mem.tail _ (List.Mem.head _)) (tX10_isRope_0_ok (0, .iload_n 1, 1) (List.mem_of_getElem? (i := 0) rfl)) ?_
  refine w_if_lt (tgt := 19) (tX10_isRope_0_ok (1, .ifCond .lt 18, 3) (List.mem_of_getElem? (i := 1) rfl)) rfl (fun zb1 => ?_) (fun zb1 => ?_)
  · refine w_iconst (by decide) (tX10_isRope_0_ok (19, .iconst 0, 1) (List.mem_of_getElem? (i := 9) rfl)) (fun zv2 ze3 => ?_)
    refine w_zret rfl (by omega) (by omega) (tX10_isRope_0_ok (20, .ireturn, 1) (List.mem_of_getElem? (i := 10) rfl)) ?_
    exact hq _ (by omega)
  · refine w_iload_n (List.Mem.tail _ (List.Mem.head _)) (tX10_isRope_0_ok (4, .iload_n 1, 1) (List.mem_of_getElem? (i := 2) rfl)) ?_
    refine w_aload_n (List.Mem.head _) (tX10_isRope_0_ok (5, .aload_n 0, 1) (List.mem_of_getElem? (i := 3) rfl)) ?_
    refine z_getR (L1 := 2) (own := 15) (k := 1) hz rfl rfl rfl rfl rfl rfl rfl (by decide) (tX10_isRope_0_ok (6, .getfield 19, 3) (List.mem_of_getElem? (i := 4) rfl)) ?_
    refine z_get (f := (I 2)) (own := 15) (k := 0) hz rfl rfl rfl rfl rfl rfl rfl (by decide) (tX10_isRope_0_ok (9, .getfield 95, 3) (List.mem_of_getElem? (i := 5) rfl)) ?_
    refine w_icmp_ge (tgt := 19) (tX10_isRope_0_ok (12, .if_icmp .ge 7, 3) (List.mem_of_getElem? (i := 6) rfl)) rfl (fun zb4 => ?_) (fun zb4 => ?_)
    · refine w_iconst (by decide) (tX10_isRope_0_ok (19, .iconst 0, 1) (List.mem_of_getElem? (i := 9) rfl)) (fun zv5 ze6 => ?_)
      refine w_zret rfl (by omega) (by omega) (tX10_isRope_0_ok (20, .ireturn, 1) (List.mem_of_getElem? (i := 10) rfl)) ?_
      exact hq _ (by omega)
    · refine w_iconst (by decide) (tX10_isRope_0_ok (15, .iconst 1, 1) (List.mem_of_getElem? (i := 7) rfl)) (fun zv7 ze8 => ?_)
      refine w_goto (tgt := 20) (tX10_isRope_0_ok (16, .goto 4, 3) (List.mem_of_getElem? (i := 8) rfl)) rfl ?_
      refine w_zret rfl (by omega) (by omega) (tX10_isRope_0_ok (20, .ireturn, 1) (List.mem_of_getElem? (i := 10) rfl)) ?_
      exact hq _ (by omega)
theorem z_isRoom (hT : k_tys tys cA) {p : Int32} (hz : zr zNC cA ad I W O h) (hn : (I 2 0).toInt = (n : Int)) (n6 : n ≤ 6) (hq : ∀ v : Int32, (v.toInt = 1 ∧ (0 ≤ p.toInt ∧ p.toInt < 2 * (n : Int)) ∨ v.toInt = 0 ∧ ¬ (0 ≤ p.toInt ∧ p.toInt < 2 * (n : Int))) → Q (some (.int v)) h) : ww l D tys A X fr lo mX10_isRoom Q 0 [(0, .ref (ad 0)), (1, .int p)] [] h := by
  refine w_iload_n (List.Mem.tail _ (List.Mem.head _)) (tX10_isRoom_0_ok (0, .iload_n 1, 1) (List.mem_of_getElem? (i := 0) rfl)) ?_
  refine w_if_lt (tgt := 21) (tX10_isRoom_0_ok (1, .ifCond .lt 20, 3) (List.mem_of_getElem? (i := 1) rfl)) rfl (fun zb1 => ?_) (fun zb1 => ?_)
  · refine w_iconst (by decide) (tX10_isRoom_0_ok (21, .iconst 0, 1) (List.mem_of_getElem? (i := 11) rfl)) (fun zv2 ze3 => ?_)
    refine w_zret rfl (by omega) (by omega) (tX10_isRoom_0_ok (22, .ireturn, 1) (List.mem_of_getElem? (i := 12) rfl)) ?_
    exact hq _ (by omega)
  · refine w_iload_n (List.Mem.tail _ (List.Mem.head _)) (tX10_isRoom_0_ok (4, .iload_n 1, 1) (List.mem_of_getElem? (i := 2) rfl)) ?_
    refine w_iconst (by decide) (tX10_isRoom_0_ok (5, .iconst 2, 1) (List.mem_of_getElem? (i := 3) rfl)) (fun zv4 ze5 => ?_)
    refine w_aload_n (List.Mem.head _) (tX10_isRoom_0_ok (6, .aload_n 0, 1) (List.mem_of_getElem? (i := 4) rfl)) ?_
    refine z_getR (L1 := 2) (own := 15) (k := 1) hz rfl rfl rfl rfl rfl rfl rfl (by decide) (tX10_isRoom_0_ok (7, .getfield 19, 3) (List.mem_of_getElem? (i := 5) rfl)) ?_
    refine z_get (f := (I 2)) (own := 15) (k := 0) hz rfl rfl rfl rfl rfl rfl rfl (by decide) (tX10_isRoom_0_ok (10, .getfield 95, 3) (List.mem_of_getElem? (i := 6) rfl)) ?_
    refine w_imul (by assumption) (by omega) (by omega) (tX10_isRoom_0_ok (13, .imul, 1) (List.mem_of_getElem? (i := 7) rfl)) (fun zv6 ze7 => ?_)
    refine w_icmp_ge (tgt := 21) (tX10_isRoom_0_ok (14, .if_icmp .ge 7, 3) (List.mem_of_getElem? (i := 8) rfl)) rfl (fun zb8 => ?_) (fun zb8 => ?_)
    · refine w_iconst (by decide) (tX10_isRoom_0_ok (21, .iconst 0, 1) (List.mem_of_getElem? (i := 11) rfl)) (fun zv9 ze10 => ?_)
      refine w_zret rfl (by omega) (by omega) (tX10_isRoom_0_ok (22, .ireturn, 1) (List.mem_of_getElem? (i := 12) rfl)) ?_
      exact hq _ (by omega)
    · refine w_iconst (by decide) (tX10_isRoom_0_ok (17, .iconst 1, 1) (List.mem_of_getElem? (i := 9) rfl)) (fun zv11 ze12 => ?_)
      refine w_goto (tgt := 22) (tX10_isRoom_0_ok (18, .goto 4, 3) (List.mem_of_getElem? (i := 10) rfl)) rfl ?_
      refine w_zret rfl (by omega) (by omega) (tX10_isRoom_0_ok (22, .ireturn, 1) (List.mem_of_getElem? (i := 12) rfl)) ?_
      exact hq _ (by omega)
theorem z_isPerson (hT : k_tys tys cA) {p : Int32} (hz : zr zNC cA ad I W O h) (hn : (I 3 3).toInt = (pe : Int)) (hq : ∀ v : Int32, (v.toInt = 1 ∧ (0 ≤ p.toInt ∧ p.toInt < (pe : Int)) ∨ v.toInt = 0 ∧ ¬ (0 ≤ p.toInt ∧ p.toInt < (pe : Int))) → Q (some (.int v)) h) : ww l D tys A X fr lo mX10_isPerson Q 0 [(0, .ref (ad 0)), (1, .int p)] [] h := by
  refine w_iload_n (List.Mem.tail _ (List.Mem.head _)) (tX10_isPerson_0_ok (0, .iload_n 1, 1) (List.mem_of_getElem? (i := 0) rfl)) ?_
  refine w_if_lt (tgt := 19) (tX10_isPerson_0_ok (1, .ifCond .lt 18, 3) (List.mem_of_getElem? (i := 1) rfl)) rfl (fun zb1 => ?_) (fun zb1 => ?_)
  · refine w_iconst (by decide) (tX10_isPerson_0_ok (19, .iconst 0, 1) (List.mem_of_getElem? (i := 9) rfl)) (fun zv2 ze3 => ?_)
    refine w_zret rfl (by omega) (by omega) (tX10_isPerson_0_ok (20, .ireturn, 1) (List.mem_of_getElem? (i := 10) rfl)) ?_
    exact hq _ (by omega)
  · refine w_iload_n (List.Mem.tail _ (List.Mem.head _)) (tX10_isPerson_0_ok (4, .iload_n 1, 1) (List.mem_of_getElem? (i := 2) rfl)) ?_
    refine w_aload_n (List.Mem.head _) (tX10_isPerson_0_ok (5, .aload_n 0, 1) (List.mem_of_getElem? (i := 3) rfl)) ?_
    refine z_getR (L1 := 3) (own := 15) (k := 8) hz rfl rfl rfl rfl rfl rfl rfl (by decide) (tX10_isPerson_0_ok (6, .getfield 42, 3) (List.mem_of_getElem? (i := 4) rfl)) ?_
    refine z_get (f := (I 3)) (own := 15) (k := 3) hz rfl rfl rfl rfl rfl rfl rfl (by decide) (tX10_isPerson_0_ok (9, .getfield 151, 3) (List.mem_of_getElem? (i := 5) rfl)) ?_
    refine w_icmp_ge (tgt := 19) (tX10_isPerson_0_ok (12, .if_icmp .ge 7, 3) (List.mem_of_getElem? (i := 6) rfl)) rfl (fun zb4 => ?_) (fun zb4 => ?_)
    · refine w_iconst (by decide) (tX10_isPerson_0_ok (19, .iconst 0, 1) (List.mem_of_getElem? (i := 9) rfl)) (fun zv5 ze6 => ?_)
      refine w_zret rfl (by omega) (by omega) (tX10_isPerson_0_ok (20, .ireturn, 1) (List.mem_of_getElem? (i := 10) rfl)) ?_
      exact hq _ (by omega)
    · refine w_iconst (by decide) (tX10_isPerson_0_ok (15, .iconst 1, 1) (List.mem_of_getElem? (i := 7) rfl)) (fun zv7 ze8 => ?_)
      refine w_goto (tgt := 20) (tX10_isPerson_0_ok (16, .goto 4, 3) (List.mem_of_getElem? (i := 8) rfl)) rfl ?_
      refine w_zret rfl (by omega) (by omega) (tX10_isPerson_0_ok (20, .ireturn, 1) (List.mem_of_getElem? (i := 10) rfl)) ?_
      exact hq _ (by omega)
theorem z_isPlace (hT : k_tys tys cA) {p : Int32} (hz : zr zNC cA ad I W O h) (hn : (I 2 0).toInt = (n : Int)) (n6 : n ≤ 6) (hg : (I 3 0).toInt = (ga : Int)) (g6 : ga ≤ 6) (hf : 1 ≤ fr) (hlo : 30 ≤ lo) (hq : ∀ v : Int32, (v.toInt = 1 ∧ isPl n ga p.toInt ∨ v.toInt = 0 ∧ ¬ isPl n ga p.toInt) → Q (some (.int v)) h) : ww l D tys A X fr lo mX10_isPlace Q 0 [(0, .ref (ad 0)), (1, .int p)] [] h := by
  refine w_aload_n (List.Mem.head _) (tX10_isPlace_0_ok (0, .aload_n 0, 1) (List.mem_of_getElem? (i := 0) rfl)) ?_
  refine w_iload_n (List.Mem.tail _ (List.Mem.head _)) (tX10_isPlace_0_ok (1, .iload_n 1, 1) (List.mem_of_getElem? (i := 1) rfl)) ?_
  refine w_callV (own := 15) (mi := 122) [.int p] [] [(0, .ref (ad 0)), (1, .int p)] rfl (cllw_X10 (144, 0, 122) (List.mem_of_getElem? (i := 8) rfl)) rfl rfl (hz.ob rfl rfl) rfl (by omega) (w_lo (n := 21) rfl (by omega)) (Nat.le_of_ble_eq_true rfl) (Nat.le_of_ble_eq_true rfl) rfl (tX10_isPlace_0_ok (2, .invokevirtual 144, 3) (List.mem_of_getElem? (i := 2) rfl)) (z_isRoom hT hz hn n6 (fun zv1 ze2 => ?_))
  show ww l D tys A X fr lo mX10_isPlace Q 5 [(0, .ref (ad 0)), (1, .int p)] [.int zv1] h
  refine w_if_ne (tgt := 28) (tX10_isPlace_0_ok (5, .ifCond .ne 23, 3) (List.mem_of_getElem? (i := 3) rfl)) rfl (fun zb3 => ?_) (fun zb3 => ?_)
  · refine w_iconst (by decide) (tX10_isPlace_0_ok (28, .iconst 1, 1) (List.mem_of_getElem? (i := 14) rfl)) (fun zv4 ze5 => ?_)
    refine w_goto (tgt := 33) (tX10_isPlace_0_ok (29, .goto 4, 3) (List.mem_of_getElem? (i := 15) rfl)) rfl ?_
    refine w_zret rfl (by omega) (by omega) (tX10_isPlace_0_ok (33, .ireturn, 1) (List.mem_of_getElem? (i := 17) rfl)) ?_
    unfold isPl at hq
    exact hq _ (by omega)
  · refine w_iload_n (List.Mem.tail _ (List.Mem.head _)) (tX10_isPlace_0_ok (8, .iload_n 1, 1) (List.mem_of_getElem? (i := 4) rfl)) ?_
    refine w_bipush (by decide) (tX10_isPlace_0_ok (9, .bipush 12, 2) (List.mem_of_getElem? (i := 5) rfl)) (fun zv6 ze7 => ?_)
    refine w_icmp_lt (tgt := 32) (tX10_isPlace_0_ok (11, .if_icmp .lt 21, 3) (List.mem_of_getElem? (i := 6) rfl)) rfl (fun zb8 => ?_) (fun zb8 => ?_)
    · refine w_iconst (by decide) (tX10_isPlace_0_ok (32, .iconst 0, 1) (List.mem_of_getElem? (i := 16) rfl)) (fun zv9 ze10 => ?_)
      refine w_zret rfl (by omega) (by omega) (tX10_isPlace_0_ok (33, .ireturn, 1) (List.mem_of_getElem? (i := 17) rfl)) ?_
      unfold isPl at hq
      exact hq _ (by omega)
    · refine w_iload_n (List.Mem.tail _ (List.Mem.head _)) (tX10_isPlace_0_ok (14, .iload_n 1, 1) (List.mem_of_getElem? (i := 7) rfl)) ?_
      refine w_bipush (by decide) (tX10_isPlace_0_ok (15, .bipush 12, 2) (List.mem_of_getElem? (i := 8) rfl)) (fun zv11 ze12 => ?_)
      refine w_aload_n (List.Mem.head _) (tX10_isPlace_0_ok (17, .aload_n 0, 1) (List.mem_of_getElem? (i := 9) rfl)) ?_
      refine z_getR (L1 := 3) (own := 15) (k := 8) hz rfl rfl rfl rfl rfl rfl rfl (by decide) (tX10_isPlace_0_ok (18, .getfield 42, 3) (List.mem_of_getElem? (i := 10) rfl)) ?_
      refine z_get (f := (I 3)) (own := 15) (k := 0) hz rfl rfl rfl rfl rfl rfl rfl (by decide) (tX10_isPlace_0_ok (21, .getfield 148, 3) (List.mem_of_getElem? (i := 11) rfl)) ?_
      refine w_iadd (by omega) (by omega) (tX10_isPlace_0_ok (24, .iadd, 1) (List.mem_of_getElem? (i := 12) rfl)) (fun zv13 ze14 => ?_)
      refine w_icmp_ge (tgt := 32) (tX10_isPlace_0_ok (25, .if_icmp .ge 7, 3) (List.mem_of_getElem? (i := 13) rfl)) rfl (fun zb15 => ?_) (fun zb15 => ?_)
      · refine w_iconst (by decide) (tX10_isPlace_0_ok (32, .iconst 0, 1) (List.mem_of_getElem? (i := 16) rfl)) (fun zv16 ze17 => ?_)
        refine w_zret rfl (by omega) (by omega) (tX10_isPlace_0_ok (33, .ireturn, 1) (List.mem_of_getElem? (i := 17) rfl)) ?_
        unfold isPl at hq
        exact hq _ (by omega)
      · refine w_iconst (by decide) (tX10_isPlace_0_ok (28, .iconst 1, 1) (List.mem_of_getElem? (i := 14) rfl)) (fun zv18 ze19 => ?_)
        refine w_goto (tgt := 33) (tX10_isPlace_0_ok (29, .goto 4, 3) (List.mem_of_getElem? (i := 15) rfl)) rfl ?_
        refine w_zret rfl (by omega) (by omega) (tX10_isPlace_0_ok (33, .ireturn, 1) (List.mem_of_getElem? (i := 17) rfl)) ?_
        unfold isPl at hq
        exact hq _ (by omega)
theorem z_isSpan {p k : Int32} (hq : ∀ v : Int32, (v.toInt = 1 ∧ k.toInt ≤ p.toInt ∧ p.toInt ≤ 60 ∨ v.toInt = 0 ∧ ¬ (k.toInt ≤ p.toInt ∧ p.toInt ≤ 60)) → Q (some (.int v)) h) : ww l D tys A X fr lo mX10_isSpan Q 0 [(0, .int p), (1, .int k)] [] h := by
  refine w_iload_n (List.Mem.head _) (tX10_isSpan_0_ok (0, .iload_n 0, 1) (List.mem_of_getElem? (i := 0) rfl)) ?_
  refine w_iload_n (List.Mem.tail _ (List.Mem.head _)) (tX10_isSpan_0_ok (1, .iload_n 1, 1) (List.mem_of_getElem? (i := 1) rfl)) ?_
  refine w_icmp_lt (tgt := 15) (tX10_isSpan_0_ok (2, .if_icmp .lt 13, 3) (List.mem_of_getElem? (i := 2) rfl)) rfl (fun zb1 => ?_) (fun zb1 => ?_)
  · refine w_iconst (by decide) (tX10_isSpan_0_ok (15, .iconst 0, 1) (List.mem_of_getElem? (i := 8) rfl)) (fun zv2 ze3 => ?_)
    refine w_zret rfl (by omega) (by omega) (tX10_isSpan_0_ok (16, .ireturn, 1) (List.mem_of_getElem? (i := 9) rfl)) ?_
    exact hq _ (by omega)
  · refine w_iload_n (List.Mem.head _) (tX10_isSpan_0_ok (5, .iload_n 0, 1) (List.mem_of_getElem? (i := 3) rfl)) ?_
    refine w_bipush (by decide) (tX10_isSpan_0_ok (6, .bipush 60, 2) (List.mem_of_getElem? (i := 4) rfl)) (fun zv4 ze5 => ?_)
    refine w_icmp_gt (tgt := 15) (tX10_isSpan_0_ok (8, .if_icmp .gt 7, 3) (List.mem_of_getElem? (i := 5) rfl)) rfl (fun zb6 => ?_) (fun zb6 => ?_)
    · refine w_iconst (by decide) (tX10_isSpan_0_ok (15, .iconst 0, 1) (List.mem_of_getElem? (i := 8) rfl)) (fun zv7 ze8 => ?_)
      refine w_zret rfl (by omega) (by omega) (tX10_isSpan_0_ok (16, .ireturn, 1) (List.mem_of_getElem? (i := 9) rfl)) ?_
      exact hq _ (by omega)
    · refine w_iconst (by decide) (tX10_isSpan_0_ok (11, .iconst 1, 1) (List.mem_of_getElem? (i := 6) rfl)) (fun zv9 ze10 => ?_)
      refine w_goto (tgt := 16) (tX10_isSpan_0_ok (12, .goto 4, 3) (List.mem_of_getElem? (i := 7) rfl)) rfl ?_
      refine w_zret rfl (by omega) (by omega) (tX10_isSpan_0_ok (16, .ireturn, 1) (List.mem_of_getElem? (i := 9) rfl)) ?_
      exact hq _ (by omega)
theorem z9_brake (hT : k_tys tys cA) {p o : Int32} (hz : zr zNC cA ad I W O h) (hk : kok τ φ) (H : cS τ φ I W) (hf : 20 ≤ fr) (hlo : 600 ≤ lo) (ho : 0 ≤ o.toInt ∧ o.toInt ≤ 1) (hq : ∀ (g : ch_H) (I1 : zI) (W1 : zW) (v : Int32), cS τ (k9_brake p o τ φ) I1 W1 → zr zNC cA ad I1 W1 O g → zf zNC ad h g → Q (some (.int v)) g) : ww l D tys A X fr lo mX10_brake Q 0 [(0, .ref (ad 0)), (1, .int p), (2, .int o)] [] h := by
  have n6 := hk.1.1
  obtain ⟨ga6, pe8, ta6⟩ := hk.2.2.2.1
  obtain ⟨h1, ⟨h21, h22, h23⟩, h3, h4, h5, h6, h7, h8, h9, h10, h11⟩ := id H
  have r0 := h1.1
  refine w_aload_n (List.Mem.head _) (tX10_brake_0_ok (0, .aload_n 0, 1) (List.mem_of_getElem? (i := 0) rfl)) ?_
  refine w_iload_n (List.Mem.tail _ (List.Mem.head _)) (tX10_brake_0_ok (1, .iload_n 1, 1) (List.mem_of_getElem? (i := 1) rfl)) ?_
  refine w_callV (own := 15) (mi := 123) [.int p] [] [(0, .ref (ad 0)), (1, .int p)] rfl (cllw_X10 (154, 0, 123) (List.mem_of_getElem? (i := 13) rfl)) rfl rfl (hz.ob rfl rfl) rfl (by omega) (w_lo (n := 21) rfl (by omega)) (Nat.le_of_ble_eq_true rfl) (Nat.le_of_ble_eq_true rfl) rfl (tX10_brake_0_ok (2, .invokevirtual 154, 3) (List.mem_of_getElem? (i := 2) rfl)) (z_isRope hT hz r0 n6 (fun zv1 ze2 => ?_))
  show ww l D tys A X fr lo mX10_brake Q 5 [(0, .ref (ad 0)), (1, .int p), (2, .int o)] [.int zv1] h
  refine w_if_ne (tgt := 10) (tX10_brake_0_ok (5, .ifCond .ne 5, 3) (List.mem_of_getElem? (i := 3) rfl)) rfl (fun zb3 => ?_) (fun zb3 => ?_)
  · refine w_aload_n (List.Mem.head _) (tX10_brake_0_ok (10, .aload_n 0, 1) (List.mem_of_getElem? (i := 6) rfl)) ?_
    refine z_getR (L1 := 100) (own := 15) (k := 3) hz rfl rfl rfl rfl rfl rfl rfl (by decide) (tX10_brake_0_ok (11, .getfield 29, 3) (List.mem_of_getElem? (i := 7) rfl)) ?_
    refine z_getR (L1 := 103) (own := 15) (k := 2) hz rfl rfl rfl rfl rfl rfl rfl (by decide) (tX10_brake_0_ok (14, .getfield 181, 3) (List.mem_of_getElem? (i := 8) rfl)) ?_
    refine w_iload_n (List.Mem.tail _ (List.Mem.head _)) (tX10_brake_0_ok (17, .iload_n 1, 1) (List.mem_of_getElem? (i := 9) rfl)) ?_
    refine w_iload_n (List.Mem.tail _ (List.Mem.tail _ (List.Mem.head _))) (tX10_brake_0_ok (18, .iload_n 2, 1) (List.mem_of_getElem? (i := 10) rfl)) ?_
    refine z_zast (f := (I 103)) hT hz rfl rfl rfl (by omega) (by omega) (by omega) (tX10_brake_0_ok (19, .bastore, 1) (List.mem_of_getElem? (i := 11) rfl)) (fun zh4 zI5 zq6 zz7 zf8 => ?_)
    refine w_iconst (by decide) (tX10_brake_0_ok (20, .iconst 1, 1) (List.mem_of_getElem? (i := 12) rfl)) (fun zv9 ze10 => ?_)
    refine w_zret rfl (by omega) (by omega) (tX10_brake_0_ok (21, .ireturn, 1) (List.mem_of_getElem? (i := 13) rfl)) ?_
    have ek : k9_brake p o τ φ = k56 φ (upd (φ.1 56) (12 + p.toInt.toNat) o) := if_pos (by omega)
    have c1 := ((congrFun zq6 103).trans (s2_s _ _ _))
    refine hq zh4 zI5 W _ ?_ zz7 zf8
    rw [ek]
    refine cS.t (K := s2 φ.1 56 _) (V := φ.2.1) H (fun L hL => s2_n hL) rfl (fun L n1 n2 => ?_) rfl ?_
    · rw [zq6, s2_n (by omega)]
    · rw [s2_s]
      exact h3.on_ (j := 0) n6 ho c1 (by omega) (fun L n1 n2 n3 => by rw [zq6, s2_n n3])
  · refine w_iconst (by decide) (tX10_brake_0_ok (8, .iconst 0, 1) (List.mem_of_getElem? (i := 4) rfl)) (fun zv11 ze12 => ?_)
    refine w_zret rfl (by omega) (by omega) (tX10_brake_0_ok (9, .ireturn, 1) (List.mem_of_getElem? (i := 5) rfl)) ?_
    have ek : k9_brake p o τ φ = φ := if_neg (by omega)
    exact hq h I W _ (by rw [ek]; exact H) hz zf.rf
theorem z9_water (hT : k_tys tys cA) {r v9 : Int32} (hz : zr zNC cA ad I W O h) (hk : kok τ φ) (H : cS τ φ I W) (hf : 20 ≤ fr) (hlo : 600 ≤ lo) (hq : ∀ (g : ch_H) (I1 : zI) (W1 : zW) (v : Int32), cS τ (k9_water r v9 τ φ) I1 W1 → zr zNC cA ad I1 W1 O g → zf zNC ad h g → Q (some (.int v)) g) : ww l D tys A X fr lo mX10_water Q 0 [(0, .ref (ad 0)), (1, .int r), (2, .int v9)] [] h := by
  have n6 := hk.1.1
  obtain ⟨ga6, pe8, ta6⟩ := hk.2.2.2.1
  obtain ⟨h1, ⟨h21, h22, h23⟩, h3, h4, h5, h6, h7, h8, h9, h10, h11⟩ := id H
  have r0 := h1.1
  refine w_aload_n (List.Mem.head _) (tX10_water_0_ok (0, .aload_n 0, 1) (List.mem_of_getElem? (i := 0) rfl)) ?_
  refine w_iload_n (List.Mem.tail _ (List.Mem.head _)) (tX10_water_0_ok (1, .iload_n 1, 1) (List.mem_of_getElem? (i := 1) rfl)) ?_
  refine w_callV (own := 15) (mi := 122) [.int r] [] [(0, .ref (ad 0)), (1, .int r)] rfl (cllw_X10 (144, 0, 122) (List.mem_of_getElem? (i := 8) rfl)) rfl rfl (hz.ob rfl rfl) rfl (by omega) (w_lo (n := 21) rfl (by omega)) (Nat.le_of_ble_eq_true rfl) (Nat.le_of_ble_eq_true rfl) rfl (tX10_water_0_ok (2, .invokevirtual 144, 3) (List.mem_of_getElem? (i := 2) rfl)) (z_isRoom hT hz r0 n6 (fun zv1 ze2 => ?_))
  show ww l D tys A X fr lo mX10_water Q 5 [(0, .ref (ad 0)), (1, .int r), (2, .int v9)] [.int zv1] h
  refine w_if_eq (tgt := 18) (tX10_water_0_ok (5, .ifCond .eq 13, 3) (List.mem_of_getElem? (i := 3) rfl)) rfl (fun zb3 => ?_) (fun zb3 => ?_)
  · refine w_iconst (by decide) (tX10_water_0_ok (18, .iconst 0, 1) (List.mem_of_getElem? (i := 9) rfl)) (fun zv4 ze5 => ?_)
    refine w_zret rfl (by omega) (by omega) (tX10_water_0_ok (19, .ireturn, 1) (List.mem_of_getElem? (i := 10) rfl)) ?_
    have ek : k9_water r v9 τ φ = φ := if_neg (by omega)
    exact hq h I W _ (by rw [ek]; exact H) hz zf.rf
  · refine w_iload_n (List.Mem.tail _ (List.Mem.tail _ (List.Mem.head _))) (tX10_water_0_ok (8, .iload_n 2, 1) (List.mem_of_getElem? (i := 4) rfl)) ?_
    refine w_if_lt (tgt := 18) (tX10_water_0_ok (9, .ifCond .lt 9, 3) (List.mem_of_getElem? (i := 5) rfl)) rfl (fun zb6 => ?_) (fun zb6 => ?_)
    · refine w_iconst (by decide) (tX10_water_0_ok (18, .iconst 0, 1) (List.mem_of_getElem? (i := 9) rfl)) (fun zv7 ze8 => ?_)
      refine w_zret rfl (by omega) (by omega) (tX10_water_0_ok (19, .ireturn, 1) (List.mem_of_getElem? (i := 10) rfl)) ?_
      have ek : k9_water r v9 τ φ = φ := if_neg (by omega)
      exact hq h I W _ (by rw [ek]; exact H) hz zf.rf
    · refine w_iload_n (List.Mem.tail _ (List.Mem.tail _ (List.Mem.head _))) (tX10_water_0_ok (12, .iload_n 2, 1) (List.mem_of_getElem? (i := 6) rfl)) ?_
      refine w_bipush (by decide) (tX10_water_0_ok (13, .bipush 99, 2) (List.mem_of_getElem? (i := 7) rfl)) (fun zv9 ze10 => ?_)
      refine w_icmp_le (tgt := 20) (tX10_water_0_ok (15, .if_icmp .le 5, 3) (List.mem_of_getElem? (i := 8) rfl)) rfl (fun zb11 => ?_) (fun zb11 => ?_)
      · refine w_aload_n (List.Mem.head _) (tX10_water_0_ok (20, .aload_n 0, 1) (List.mem_of_getElem? (i := 11) rfl)) ?_
        refine z_getR (L1 := 100) (own := 15) (k := 3) hz rfl rfl rfl rfl rfl rfl rfl (by decide) (tX10_water_0_ok (21, .getfield 29, 3) (List.mem_of_getElem? (i := 12) rfl)) ?_
        refine z_getR (L1 := 104) (own := 15) (k := 3) hz rfl rfl rfl rfl rfl rfl rfl (by decide) (tX10_water_0_ok (24, .getfield 212, 3) (List.mem_of_getElem? (i := 13) rfl)) ?_
        refine w_iload_n (List.Mem.tail _ (List.Mem.head _)) (tX10_water_0_ok (27, .iload_n 1, 1) (List.mem_of_getElem? (i := 14) rfl)) ?_
        refine w_iload_n (List.Mem.tail _ (List.Mem.tail _ (List.Mem.head _))) (tX10_water_0_ok (28, .iload_n 2, 1) (List.mem_of_getElem? (i := 15) rfl)) ?_
        refine z_iast (f := (I 104)) hT hz rfl rfl rfl (by omega) (by omega) (tX10_water_0_ok (29, .iastore, 1) (List.mem_of_getElem? (i := 16) rfl)) (fun zh12 zI13 zq14 zz15 zf16 => ?_)
        refine w_iconst (by decide) (tX10_water_0_ok (30, .iconst 1, 1) (List.mem_of_getElem? (i := 17) rfl)) (fun zv17 ze18 => ?_)
        refine w_zret rfl (by omega) (by omega) (tX10_water_0_ok (31, .ireturn, 1) (List.mem_of_getElem? (i := 18) rfl)) ?_
        have ek : k9_water r v9 τ φ = k56 φ (upd (φ.1 56) (18 + r.toInt.toNat) v9) := if_pos (by omega)
        have c1 := ((congrFun zq14 104).trans (s2_s _ _ _))
        refine hq zh12 zI13 W _ ?_ zz15 zf16
        rw [ek]
        refine cS.t (K := s2 φ.1 56 _) (V := φ.2.1) H (fun L hL => s2_n hL) rfl (fun L n1 n2 => ?_) rfl ?_
        · rw [zq14, s2_n (by omega)]
        · rw [s2_s]
          exact h3.wat (j := 0) n6 c1 (by omega) (fun L n1 n2 n3 => by rw [zq14, s2_n n3])
      · refine w_iconst (by decide) (tX10_water_0_ok (18, .iconst 0, 1) (List.mem_of_getElem? (i := 9) rfl)) (fun zv19 ze20 => ?_)
        refine w_zret rfl (by omega) (by omega) (tX10_water_0_ok (19, .ireturn, 1) (List.mem_of_getElem? (i := 10) rfl)) ?_
        have ek : k9_water r v9 τ φ = φ := if_neg (by omega)
        exact hq h I W _ (by rw [ek]; exact H) hz zf.rf
theorem w_minT {x y : Int32} (hM : M.1.cls = RX10) (hf : 1 ≤ fr) (hl : (st.map fun v => v.category).sum + 13 ≤ lo) (hd : decode M.2.1 pc = .ok (.invokestatic 222, 3)) (k : ∀ v : Int32, v.toInt = min x.toInt y.toInt → ww l D tys A X fr lo M Q (pc + 3) lv (.int v :: st) h) : ww l D tys A X fr lo M Q pc lv (.int y :: .int x :: st) h := by
  have hw : Cond.methodLink M.1.cls 222 Lib.Math.min.name ∈ wsA := by rw [hM]; exact cllw_X10 (222, 11, 0) (List.mem_of_getElem? (i := 14) rfl)
  refine tt_mmin hw pg_min.1 pg_math pg_min.2 hf hl (Nat.le_refl _) (Nat.le_refl _) hd (k _ ?_)
  by_cases c : y < x
  · have := Int32.lt_iff_toInt_lt.mp c
    rw [if_pos c]
    omega
  · have := mt Int32.lt_iff_toInt_lt.mpr c
    rw [if_neg c]
    omega
theorem w_maxT {x y : Int32} (hM : M.1.cls = RX10) (hf : 1 ≤ fr) (hl : (st.map fun v => v.category).sum + 13 ≤ lo) (hd : decode M.2.1 pc = .ok (.invokestatic 228, 3)) (k : ∀ v : Int32, v.toInt = max x.toInt y.toInt → ww l D tys A X fr lo M Q (pc + 3) lv (.int v :: st) h) : ww l D tys A X fr lo M Q pc lv (.int y :: .int x :: st) h := by
  have hw : Cond.methodLink M.1.cls 228 Lib.Math.max.name ∈ wsA := by rw [hM]; exact cllw_X10 (228, 10, 0) (List.mem_of_getElem? (i := 15) rfl)
  refine tt_mmax hw pg_max.1 pg_math pg_max.2 hf hl (Nat.le_refl _) (Nat.le_refl _) hd (k _ ?_)
  by_cases c : x < y
  · have := Int32.lt_iff_toInt_lt.mp c
    rw [if_pos c]
    omega
  · have := mt Int32.lt_iff_toInt_lt.mpr c
    rw [if_neg c]
    omega
theorem z9_turn (hT : k_tys tys cA) {p k : Int32} (hz : zr zNC cA ad I W O h) (hk : kok τ φ) (H : cS τ φ I W) (hf : 20 ≤ fr) (hlo : 600 ≤ lo) (hq : ∀ (g : ch_H) (I1 : zI) (W1 : zW) (v : Int32), (((0 ≤ p.toInt ∧ p.toInt < (τ.1 : Int)) ∧ φ.2.2.1 p.toInt.toNat 0 = 2 ∧ -20 ≤ k.toInt ∧ k.toInt ≤ 20) ∧ v.toInt = k9_trn p.toInt.toNat k.toInt φ ∨ ¬ ((0 ≤ p.toInt ∧ p.toInt < (τ.1 : Int)) ∧ φ.2.2.1 p.toInt.toNat 0 = 2 ∧ -20 ≤ k.toInt ∧ k.toInt ≤ 20) ∧ v.toInt = -1) → cS τ (k9_turn p k τ φ) I1 W1 → zr zNC cA ad I1 W1 O g → zf zNC ad h g → Q (some (.int v)) g) : ww l D tys A X fr lo mX10_turn Q 0 [(0, .ref (ad 0)), (1, .int p), (2, .int k)] [] h := by
  have n6 := hk.1.1
  obtain ⟨ga6, pe8, ta6⟩ := hk.2.2.2.1
  obtain ⟨h1, ⟨h21, h22, h23⟩, h3, h4, h5, h6, h7, h8, h9, h10, h11⟩ := id H
  have r0 := h1.1
  refine w_aload_n (List.Mem.head _) (tX10_turn_0_ok (0, .aload_n 0, 1) (List.mem_of_getElem? (i := 0) rfl)) ?_
  refine w_iload_n (List.Mem.tail _ (List.Mem.head _)) (tX10_turn_0_ok (1, .iload_n 1, 1) (List.mem_of_getElem? (i := 1) rfl)) ?_
  refine w_callV (own := 15) (mi := 123) [.int p] [] [(0, .ref (ad 0)), (1, .int p)] rfl (cllw_X10 (154, 0, 123) (List.mem_of_getElem? (i := 13) rfl)) rfl rfl (hz.ob rfl rfl) rfl (by omega) (w_lo (n := 21) rfl (by omega)) (Nat.le_of_ble_eq_true rfl) (Nat.le_of_ble_eq_true rfl) rfl (tX10_turn_0_ok (2, .invokevirtual 154, 3) (List.mem_of_getElem? (i := 2) rfl)) (z_isRope hT hz r0 n6 (fun zv1 ze2 => ?_))
  show ww l D tys A X fr lo mX10_turn Q 5 [(0, .ref (ad 0)), (1, .int p), (2, .int k)] [.int zv1] h
  refine w_if_eq (tgt := 33) (tX10_turn_0_ok (5, .ifCond .eq 28, 3) (List.mem_of_getElem? (i := 3) rfl)) rfl (fun zb3 => ?_) (fun zb3 => ?_)
  · refine w_iconst (by decide) (tX10_turn_0_ok (33, .iconst (-1), 1) (List.mem_of_getElem? (i := 17) rfl)) (fun zv4 ze5 => ?_)
    refine w_iret rfl (tX10_turn_0_ok (34, .ireturn, 1) (List.mem_of_getElem? (i := 18) rfl)) ?_
    have ek : k9_turn p k τ φ = φ := if_neg (by omega)
    exact hq h I W _ (Or.inr ⟨by omega, by omega⟩) (by rw [ek]; exact H) hz zf.rf
  · refine w_aload_n (List.Mem.head _) (tX10_turn_0_ok (8, .aload_n 0, 1) (List.mem_of_getElem? (i := 4) rfl)) ?_
    refine z_getR (L1 := 2) (own := 15) (k := 1) hz rfl rfl rfl rfl rfl rfl rfl (by decide) (tX10_turn_0_ok (9, .getfield 19, 3) (List.mem_of_getElem? (i := 5) rfl)) ?_
    refine z_getR (L1 := 11) (own := 15) (k := 1) hz rfl rfl rfl rfl rfl rfl rfl (by decide) (tX10_turn_0_ok (12, .getfield 164, 3) (List.mem_of_getElem? (i := 6) rfl)) ?_
    refine w_iload_n (List.Mem.tail _ (List.Mem.head _)) (tX10_turn_0_ok (15, .iload_n 1, 1) (List.mem_of_getElem? (i := 7) rfl)) ?_
    refine z_iald (f := (I 11)) hT hz rfl rfl rfl (by omega) (by omega) (tX10_turn_0_ok (16, .iaload, 1) (List.mem_of_getElem? (i := 8) rfl)) (fun zv6 zu7 => ?_)
    have ze8 : zv6.toInt = ((I 11) p.toInt.toNat).toInt := congrArg _ zu7
    have zy9 := (h1.2.2 _ (show p.toInt.toNat < τ.1 by omega)).1
    refine w_iconst (by decide) (tX10_turn_0_ok (17, .iconst 2, 1) (List.mem_of_getElem? (i := 9) rfl)) (fun zv10 ze11 => ?_)
    refine w_icmp_ne (tgt := 33) (tX10_turn_0_ok (18, .if_icmp .ne 15, 3) (List.mem_of_getElem? (i := 10) rfl)) rfl (fun zb12 => ?_) (fun zb12 => ?_)
    · refine w_iconst (by decide) (tX10_turn_0_ok (33, .iconst (-1), 1) (List.mem_of_getElem? (i := 17) rfl)) (fun zv13 ze14 => ?_)
      refine w_iret rfl (tX10_turn_0_ok (34, .ireturn, 1) (List.mem_of_getElem? (i := 18) rfl)) ?_
      have ek : k9_turn p k τ φ = φ := if_neg (by omega)
      exact hq h I W _ (Or.inr ⟨by omega, by omega⟩) (by rw [ek]; exact H) hz zf.rf
    · refine w_iload_n (List.Mem.tail _ (List.Mem.tail _ (List.Mem.head _))) (tX10_turn_0_ok (21, .iload_n 2, 1) (List.mem_of_getElem? (i := 11) rfl)) ?_
      refine w_bipush (by decide) (tX10_turn_0_ok (22, .bipush (-20), 2) (List.mem_of_getElem? (i := 12) rfl)) (fun zv15 ze16 => ?_)
      refine w_icmp_lt (tgt := 33) (tX10_turn_0_ok (24, .if_icmp .lt 9, 3) (List.mem_of_getElem? (i := 13) rfl)) rfl (fun zb17 => ?_) (fun zb17 => ?_)
      · refine w_iconst (by decide) (tX10_turn_0_ok (33, .iconst (-1), 1) (List.mem_of_getElem? (i := 17) rfl)) (fun zv18 ze19 => ?_)
        refine w_iret rfl (tX10_turn_0_ok (34, .ireturn, 1) (List.mem_of_getElem? (i := 18) rfl)) ?_
        have ek : k9_turn p k τ φ = φ := if_neg (by omega)
        exact hq h I W _ (Or.inr ⟨by omega, by omega⟩) (by rw [ek]; exact H) hz zf.rf
      · refine w_iload_n (List.Mem.tail _ (List.Mem.tail _ (List.Mem.head _))) (tX10_turn_0_ok (27, .iload_n 2, 1) (List.mem_of_getElem? (i := 14) rfl)) ?_
        refine w_bipush (by decide) (tX10_turn_0_ok (28, .bipush 20, 2) (List.mem_of_getElem? (i := 15) rfl)) (fun zv20 ze21 => ?_)
        refine w_icmp_le (tgt := 35) (tX10_turn_0_ok (30, .if_icmp .le 5, 3) (List.mem_of_getElem? (i := 16) rfl)) rfl (fun zb22 => ?_) (fun zb22 => ?_)
        · refine w_aload_n (List.Mem.head _) (tX10_turn_0_ok (35, .aload_n 0, 1) (List.mem_of_getElem? (i := 19) rfl)) ?_
          refine z_getR (L1 := 100) (own := 15) (k := 3) hz rfl rfl rfl rfl rfl rfl rfl (by decide) (tX10_turn_0_ok (36, .getfield 29, 3) (List.mem_of_getElem? (i := 20) rfl)) ?_
          refine z_getR (L1 := 101) (own := 15) (k := 0) hz rfl rfl rfl rfl rfl rfl rfl (by decide) (tX10_turn_0_ok (39, .getfield 169, 3) (List.mem_of_getElem? (i := 21) rfl)) ?_
          refine w_iload_n (List.Mem.tail _ (List.Mem.head _)) (tX10_turn_0_ok (42, .iload_n 1, 1) (List.mem_of_getElem? (i := 22) rfl)) ?_
          refine w_iconst (by decide) (tX10_turn_0_ok (43, .iconst 0, 1) (List.mem_of_getElem? (i := 23) rfl)) (fun zv23 ze24 => ?_)
          refine w_aload_n (List.Mem.head _) (tX10_turn_0_ok (44, .aload_n 0, 1) (List.mem_of_getElem? (i := 24) rfl)) ?_
          refine z_getR (L1 := 2) (own := 15) (k := 1) hz rfl rfl rfl rfl rfl rfl rfl (by decide) (tX10_turn_0_ok (45, .getfield 19, 3) (List.mem_of_getElem? (i := 25) rfl)) ?_
          refine z_getR (L1 := 12) (own := 15) (k := 2) hz rfl rfl rfl rfl rfl rfl rfl (by decide) (tX10_turn_0_ok (48, .getfield 167, 3) (List.mem_of_getElem? (i := 26) rfl)) ?_
          refine w_iload_n (List.Mem.tail _ (List.Mem.head _)) (tX10_turn_0_ok (51, .iload_n 1, 1) (List.mem_of_getElem? (i := 27) rfl)) ?_
          refine z_iald (f := (I 12)) hT hz rfl rfl rfl (by omega) (by omega) (tX10_turn_0_ok (52, .iaload, 1) (List.mem_of_getElem? (i := 28) rfl)) (fun zv25 zu26 => ?_)
          have ze27 : zv25.toInt = ((I 12) p.toInt.toNat).toInt := congrArg _ zu26
          have zy28 := (h1.2.2 _ (show p.toInt.toNat < τ.1 by omega)).2.1
          have zy28b := (hk.1.2 _ (show p.toInt.toNat < τ.1 by omega)).1.2.1
          refine w_aload_n (List.Mem.head _) (tX10_turn_0_ok (53, .aload_n 0, 1) (List.mem_of_getElem? (i := 29) rfl)) ?_
          refine z_getR (L1 := 100) (own := 15) (k := 3) hz rfl rfl rfl rfl rfl rfl rfl (by decide) (tX10_turn_0_ok (54, .getfield 29, 3) (List.mem_of_getElem? (i := 30) rfl)) ?_
          refine z_getR (L1 := 101) (own := 15) (k := 0) hz rfl rfl rfl rfl rfl rfl rfl (by decide) (tX10_turn_0_ok (57, .getfield 169, 3) (List.mem_of_getElem? (i := 31) rfl)) ?_
          refine w_iload_n (List.Mem.tail _ (List.Mem.head _)) (tX10_turn_0_ok (60, .iload_n 1, 1) (List.mem_of_getElem? (i := 32) rfl)) ?_
          refine z_iald (f := (I 101)) hT hz rfl rfl rfl (by omega) (by omega) (tX10_turn_0_ok (61, .iaload, 1) (List.mem_of_getElem? (i := 33) rfl)) (fun zv29 zu30 => ?_)
          have ze31 : zv29.toInt = ((I 101) p.toInt.toNat).toInt := congrArg _ zu30
          have zy32 : zv29 = φ.1 56 p.toInt.toNat := by rw [zu30]; exact (h3.1 _ (show p.toInt.toNat < τ.1 by omega)).1
          have zy32b := hk.2.1.1 _ (show p.toInt.toNat < τ.1 by omega)
          rw [← zy32] at zy32b
          refine w_iload_n (List.Mem.tail _ (List.Mem.tail _ (List.Mem.head _))) (tX10_turn_0_ok (62, .iload_n 2, 1) (List.mem_of_getElem? (i := 34) rfl)) ?_
          refine w_iadd (by omega) (by omega) (tX10_turn_0_ok (63, .iadd, 1) (List.mem_of_getElem? (i := 35) rfl)) (fun zv33 ze34 => ?_)
          refine w_minT rfl (by omega) (by show 1 + (1 + (1 + (0))) + 13 ≤ lo; omega) (tX10_turn_0_ok (64, .invokestatic 222, 3) (List.mem_of_getElem? (i := 36) rfl)) (fun zv35 ze36 => ?_)
          refine w_maxT rfl (by omega) (by show 1 + (1 + (0)) + 13 ≤ lo; omega) (tX10_turn_0_ok (67, .invokestatic 228, 3) (List.mem_of_getElem? (i := 37) rfl)) (fun zv37 ze38 => ?_)
          refine z_iast (f := (I 101)) hT hz rfl rfl rfl (by omega) (by omega) (tX10_turn_0_ok (70, .iastore, 1) (List.mem_of_getElem? (i := 38) rfl)) (fun zh39 zI40 zq41 zz42 zf43 => ?_)
          refine w_aload_n (List.Mem.head _) (tX10_turn_0_ok (71, .aload_n 0, 1) (List.mem_of_getElem? (i := 39) rfl)) ?_
          refine z_getR (L1 := 100) (own := 15) (k := 3) zz42 rfl rfl rfl rfl rfl rfl rfl (by decide) (tX10_turn_0_ok (72, .getfield 29, 3) (List.mem_of_getElem? (i := 40) rfl)) ?_
          refine z_getR (L1 := 101) (own := 15) (k := 0) zz42 rfl rfl rfl rfl rfl rfl rfl (by decide) (tX10_turn_0_ok (75, .getfield 169, 3) (List.mem_of_getElem? (i := 41) rfl)) ?_
          refine w_iload_n (List.Mem.tail _ (List.Mem.head _)) (tX10_turn_0_ok (78, .iload_n 1, 1) (List.mem_of_getElem? (i := 42) rfl)) ?_
          refine z_iald (f := (upd (I 101) p.toInt.toNat zv37)) hT zz42 rfl rfl ((congrFun zq41 101).trans (s2_s _ _ _)) (by omega) (by omega) (tX10_turn_0_ok (79, .iaload, 1) (List.mem_of_getElem? (i := 43) rfl)) (fun zv44 zu45 => ?_)
          have ze46 : zv44.toInt = ((upd (I 101) p.toInt.toNat zv37) p.toInt.toNat).toInt := congrArg _ zu45
          refine w_iret rfl (tX10_turn_0_ok (80, .ireturn, 1) (List.mem_of_getElem? (i := 44) rfl)) ?_
          have ec : (0 ≤ p.toInt ∧ p.toInt < (τ.1 : Int)) ∧ φ.2.2.1 p.toInt.toNat 0 = 2 ∧ -20 ≤ k.toInt ∧ k.toInt ≤ 20 := by omega
          have et : k9_trn p.toInt.toNat k.toInt φ = zv37.toInt := by
            unfold k9_trn
            rw [← zy32]
            omega
          have tb := k9_trn_b hk (p := p.toInt.toNat) (by omega) k.toInt
          have ev : Int32.ofInt (k9_trn p.toInt.toNat k.toInt φ) = zv37 := (kn_eq _ _).mpr (by rw [et, ofInt_b (by omega)])
          have ek : k9_turn p k τ φ = k56 φ (upd (φ.1 56) p.toInt.toNat (Int32.ofInt (k9_trn p.toInt.toNat k.toInt φ))) := if_pos ec
          have c1 := ((congrFun zq41 101).trans (s2_s _ _ _))
          refine hq zh39 zI40 W _ (Or.inl ⟨ec, ?_⟩) ?_ zz42 zf43
          · rw [zu45, upd_s, et]
          · rw [ek, ev]
            refine cS.t (K := s2 φ.1 56 _) (V := φ.2.1) H (fun L hL => s2_n hL) rfl (fun L n1 n2 => ?_) rfl ?_
            · rw [zq41, s2_n (by omega)]
            · rw [s2_s]
              exact h3.x_ (j := 0) n6 c1 (by omega) (fun L n1 n2 n3 => by rw [zq41, s2_n n3])
        · refine w_iconst (by decide) (tX10_turn_0_ok (33, .iconst (-1), 1) (List.mem_of_getElem? (i := 17) rfl)) (fun zv48 ze49 => ?_)
          refine w_iret rfl (tX10_turn_0_ok (34, .ireturn, 1) (List.mem_of_getElem? (i := 18) rfl)) ?_
          have ek : k9_turn p k τ φ = φ := if_neg (by omega)
          exact hq h I W _ (Or.inr ⟨by omega, by omega⟩) (by rw [ek]; exact H) hz zf.rf
theorem z9_minutes (hT : k_tys tys cA) {k : Int32} (hz : zr zNC cA ad I W O h) (hk : kok τ φ) (H : cS τ φ I W) (hf : 20 ≤ fr) (hlo : 600 ≤ lo) (hq : ∀ (g : ch_H) (I1 : zI) (W1 : zW) (v : Int32), ((¬ τ.1 = 0 ∧ 1 ≤ k.toInt ∧ k.toInt ≤ 60) ∧ v.toInt = (k9_g τ φ k.toInt.toNat).2.2 ∨ ¬ (¬ τ.1 = 0 ∧ 1 ≤ k.toInt ∧ k.toInt ≤ 60) ∧ v.toInt = -1) → cS τ (k9_minutes k τ φ) I1 W1 → zr zNC cA ad I1 W1 O g → zf zNC ad h g → Q (some (.int v)) g) : ww l D tys A X fr lo mX10_minutes Q 0 [(0, .ref (ad 0)), (1, .int k)] [] h := by
  have n6 := hk.1.1
  obtain ⟨ga6, pe8, ta6⟩ := hk.2.2.2.1
  obtain ⟨h1, ⟨h21, h22, h23⟩, h3, h4, h5, h6, h7, h8, h9, h10, h11⟩ := id H
  have r0 := h1.1
  refine w_aload_n (List.Mem.head _) (tX10_minutes_0_ok (0, .aload_n 0, 1) (List.mem_of_getElem? (i := 0) rfl)) ?_
  refine z_getR (L1 := 2) (own := 15) (k := 1) hz rfl rfl rfl rfl rfl rfl rfl (by decide) (tX10_minutes_0_ok (1, .getfield 19, 3) (List.mem_of_getElem? (i := 1) rfl)) ?_
  refine z_get (f := (I 2)) (own := 15) (k := 0) hz rfl rfl rfl rfl rfl rfl rfl (by decide) (tX10_minutes_0_ok (4, .getfield 95, 3) (List.mem_of_getElem? (i := 2) rfl)) ?_
  refine w_if_eq (tgt := 18) (tX10_minutes_0_ok (7, .ifCond .eq 11, 3) (List.mem_of_getElem? (i := 3) rfl)) rfl (fun zb1 => ?_) (fun zb1 => ?_)
  · refine w_iconst (by decide) (tX10_minutes_0_ok (18, .iconst (-1), 1) (List.mem_of_getElem? (i := 8) rfl)) (fun zv2 ze3 => ?_)
    refine w_iret rfl (tX10_minutes_0_ok (19, .ireturn, 1) (List.mem_of_getElem? (i := 9) rfl)) ?_
    have ek : k9_minutes k τ φ = φ := if_neg (by omega)
    exact hq h I W _ (Or.inr ⟨by omega, by omega⟩) (by rw [ek]; exact H) hz zf.rf
  · refine w_iload_n (List.Mem.tail _ (List.Mem.head _)) (tX10_minutes_0_ok (10, .iload_n 1, 1) (List.mem_of_getElem? (i := 4) rfl)) ?_
    refine w_iconst (by decide) (tX10_minutes_0_ok (11, .iconst 1, 1) (List.mem_of_getElem? (i := 5) rfl)) (fun zv4 ze5 => ?_)
    refine w_callS (own := 15) (mi := 124) [.int k, .int zv4] [] [(0, .int k), (1, .int zv4)] rfl (cllw_X10 (235, 1, 124) (List.mem_of_getElem? (i := 16) rfl)) rfl rfl (by omega) (w_lo (n := 21) rfl (by omega)) (Nat.le_of_ble_eq_true rfl) (Nat.le_of_ble_eq_true rfl) rfl (tX10_minutes_0_ok (12, .invokestatic 235, 3) (List.mem_of_getElem? (i := 6) rfl)) (z_isSpan (fun zv6 ze7 => ?_))
    show ww l D tys A X fr lo mX10_minutes Q 15 [(0, .ref (ad 0)), (1, .int k)] [.int zv6] h
    refine w_if_ne (tgt := 20) (tX10_minutes_0_ok (15, .ifCond .ne 5, 3) (List.mem_of_getElem? (i := 7) rfl)) rfl (fun zb8 => ?_) (fun zb8 => ?_)
    · refine w_aload_n (List.Mem.head _) (tX10_minutes_0_ok (20, .aload_n 0, 1) (List.mem_of_getElem? (i := 10) rfl)) ?_
      refine z_getR (L1 := 4) (own := 15) (k := 9) hz rfl rfl rfl rfl rfl rfl rfl (by decide) (tX10_minutes_0_ok (21, .getfield 49, 3) (List.mem_of_getElem? (i := 11) rfl)) ?_
      refine w_aload_n (List.Mem.head _) (tX10_minutes_0_ok (24, .aload_n 0, 1) (List.mem_of_getElem? (i := 12) rfl)) ?_
      refine z_getR (L1 := 2) (own := 15) (k := 1) hz rfl rfl rfl rfl rfl rfl rfl (by decide) (tX10_minutes_0_ok (25, .getfield 19, 3) (List.mem_of_getElem? (i := 13) rfl)) ?_
      refine w_aload_n (List.Mem.head _) (tX10_minutes_0_ok (28, .aload_n 0, 1) (List.mem_of_getElem? (i := 14) rfl)) ?_
      refine z_getR (L1 := 100) (own := 15) (k := 3) hz rfl rfl rfl rfl rfl rfl rfl (by decide) (tX10_minutes_0_ok (29, .getfield 29, 3) (List.mem_of_getElem? (i := 15) rfl)) ?_
      refine w_aload_n (List.Mem.head _) (tX10_minutes_0_ok (32, .aload_n 0, 1) (List.mem_of_getElem? (i := 16) rfl)) ?_
      refine z_getR (L1 := 3) (own := 15) (k := 8) hz rfl rfl rfl rfl rfl rfl rfl (by decide) (tX10_minutes_0_ok (33, .getfield 42, 3) (List.mem_of_getElem? (i := 17) rfl)) ?_
      refine w_callV (own := 15) (mi := 100) [.ref (ad 2), .ref (ad 100), .ref (ad 3)] [] [(0, .ref (ad 4)), (1, .ref (ad 2)), (2, .ref (ad 100)), (3, .ref (ad 3))] rfl (cllw_X10 (194, 0, 100) (List.mem_of_getElem? (i := 12) rfl)) rfl rfl (hz.ob rfl rfl) rfl (by omega) (w_lo (n := 28) rfl (by omega)) (Nat.le_of_ble_eq_true rfl) (Nat.le_of_ble_eq_true rfl) rfl (tX10_minutes_0_ok (36, .invokevirtual 194, 3) (List.mem_of_getElem? (i := 18) rfl)) (z_weigh hT (j := 0) (T := φ.1 56) (Wt := φ.1 62) (by decide) hz h1 ⟨h22, pe8⟩ hk.bo h3.2.1 h3.2.2.1 h6 (by omega) (w_sub (n := 28) rfl (by omega)) (fun g1 I1 w1 w2 w3 w4 w5 => ?_))
      show ww l D tys A X fr lo mX10_minutes Q 39 [(0, .ref (ad 0)), (1, .int k)] [] g1
      have p1 : pz I1 τ.1 φ.2.2.1 := h1.mv (fun L hL => w3 L (by omega) (by omega))
      have s1 : sx I1 W 0 τ.1 τ.2.2.1 (φ.1 56) (φ.2.1 36) := h3.mv (fun L a b => w3 L (by omega) (by omega)) rfl
      refine w_aload_n (List.Mem.head _) (tX10_minutes_0_ok (39, .aload_n 0, 1) (List.mem_of_getElem? (i := 19) rfl)) ?_
      refine z_getR (L1 := 4) (own := 15) (k := 9) w4 rfl rfl rfl rfl rfl rfl rfl (by decide) (tX10_minutes_0_ok (40, .getfield 49, 3) (List.mem_of_getElem? (i := 20) rfl)) ?_
      refine w_aload_n (List.Mem.head _) (tX10_minutes_0_ok (43, .aload_n 0, 1) (List.mem_of_getElem? (i := 21) rfl)) ?_
      refine z_getR (L1 := 2) (own := 15) (k := 1) w4 rfl rfl rfl rfl rfl rfl rfl (by decide) (tX10_minutes_0_ok (44, .getfield 19, 3) (List.mem_of_getElem? (i := 22) rfl)) ?_
      refine w_aload_n (List.Mem.head _) (tX10_minutes_0_ok (47, .aload_n 0, 1) (List.mem_of_getElem? (i := 23) rfl)) ?_
      refine z_getR (L1 := 100) (own := 15) (k := 3) w4 rfl rfl rfl rfl rfl rfl rfl (by decide) (tX10_minutes_0_ok (48, .getfield 29, 3) (List.mem_of_getElem? (i := 24) rfl)) ?_
      refine w_iload_n (List.Mem.tail _ (List.Mem.head _)) (tX10_minutes_0_ok (51, .iload_n 1, 1) (List.mem_of_getElem? (i := 25) rfl)) ?_
      refine w_iconst (by decide) (tX10_minutes_0_ok (52, .iconst 1, 1) (List.mem_of_getElem? (i := 26) rfl)) (fun zv9 ze10 => ?_)
      refine w_callV (own := 15) (mi := 87) [.ref (ad 2), .ref (ad 100), .int k, .int zv9] [] [(0, .ref (ad 4)), (1, .ref (ad 2)), (2, .ref (ad 100)), (3, .int k), (4, .int zv9)] rfl (cllw_X10 (239, 0, 87) (List.mem_of_getElem? (i := 17) rfl)) rfl rfl (w4.ob rfl rfl) rfl (by omega) (w_lo (n := 26) rfl (by omega)) (Nat.le_of_ble_eq_true rfl) (Nat.le_of_ble_eq_true rfl) rfl (tX10_minutes_0_ok (53, .invokevirtual 239, 3) (List.mem_of_getElem? (i := 27) rfl)) (z_goOn hT (j := 0) (by decide) (T := φ.1 56) (d := φ.2.1 36) (b := kb τ φ) (slb := true) (nn := k.toInt.toNat) w4 p1 w2 ⟨by omega, by omega⟩ (by omega) (w_sub (n := 26) rfl (by omega)) (Or.inr ⟨by omega, rfl⟩) hk.2.1.1 (fun q hq9 => ⟨by rw [(s1.1 q hq9).2.2], s1.2.2.2.2.2 q (by omega)⟩) (fun q hq9 => ⟨(s1.1 q hq9).1, (s1.1 q hq9).2.1⟩) s1.2.2.2.2.1 (fun g2 I2 W2 v y1 y2 y3 y4 y5 y6 y7 y8 => ?_))
      show ww l D tys A X fr lo mX10_minutes Q 56 [(0, .ref (ad 0)), (1, .int k)] [.int v] g2
      refine w_istore_n [(2, .int v), (0, .ref (ad 0)), (1, .int k)] rfl (Nat.le_of_ble_eq_true rfl) (tX10_minutes_0_ok (56, .istore_n 2, 1) (List.mem_of_getElem? (i := 28) rfl)) ?_
      refine w_aload_n (List.Mem.tail _ (List.Mem.head _)) (tX10_minutes_0_ok (57, .aload_n 0, 1) (List.mem_of_getElem? (i := 29) rfl)) ?_
      refine z_getR (L1 := 100) (own := 15) (k := 3) y7 rfl rfl rfl rfl rfl rfl rfl (by decide) (tX10_minutes_0_ok (58, .getfield 29, 3) (List.mem_of_getElem? (i := 30) rfl)) ?_
      refine w_dup rfl (tX10_minutes_0_ok (61, .dup, 1) (List.mem_of_getElem? (i := 31) rfl)) ?_
      refine z_get (f := (I 100)) (own := 15) (k := 5) y7 rfl rfl rfl rfl ((y6 100 (by decide) (by decide)).trans (w3 100 (by decide) (by decide))) rfl rfl (by decide) (tX10_minutes_0_ok (62, .getfield 243, 3) (List.mem_of_getElem? (i := 32) rfl)) ?_
      refine w_iload_n (List.Mem.tail _ (List.Mem.tail _ (List.Mem.head _))) (tX10_minutes_0_ok (65, .iload_n 1, 1) (List.mem_of_getElem? (i := 33) rfl)) ?_
      refine w_addE (tX10_minutes_0_ok (66, .iadd, 1) (List.mem_of_getElem? (i := 34) rfl)) (fun zv11 ze12 => ?_)
      refine z_put (f := (I 100)) (own := 15) (k := 5) y7 rfl rfl rfl rfl ((y6 100 (by decide) (by decide)).trans (w3 100 (by decide) (by decide))) rfl rfl (by decide) rfl ⟨rfl, rfl⟩ (tX10_minutes_0_ok (67, .putfield 243, 3) (List.mem_of_getElem? (i := 35) rfl)) (fun zh13 zI14 zq15 zz16 zf17 => ?_)
      refine w_iload_n (List.Mem.head _) (tX10_minutes_0_ok (70, .iload_n 2, 1) (List.mem_of_getElem? (i := 36) rfl)) ?_
      refine w_iret rfl (tX10_minutes_0_ok (71, .ireturn, 1) (List.mem_of_getElem? (i := 37) rfl)) ?_
      have ec : ¬ τ.1 = 0 ∧ 1 ≤ k.toInt ∧ k.toInt ≤ 60 := by omega
      have ek : k9_minutes k τ φ = (s2 φ.1 56 (fun q => if q = 38 then φ.1 56 38 + k else (k9_g τ φ k.toInt.toNat).1 q), (fun q => if q = 36 then (k9_g τ φ k.toInt.toNat).2.1 else φ.2.1 q), φ.2.2) := if_pos ec
      have c5 := ((congrFun zq15 100).trans (s2_s _ _ _))
      refine hq zh13 zI14 W2 v (Or.inl ⟨ec, y1⟩) ?_ zz16 ((w5.tr y8).tr zf17)
      rw [ek]
      obtain ⟨T9, eT⟩ : ∃ T9 : Nat → Int32, T9 = (fun q => if q = 38 then φ.1 56 38 + k else (k9_g τ φ k.toInt.toNat).1 q) := ⟨_, rfl⟩
      obtain ⟨V9, eV⟩ : ∃ V9 : Nat → Int64, V9 = (fun q => if q = 36 then (k9_g τ φ k.toInt.toNat).2.1 else φ.2.1 q) := ⟨_, rfl⟩
      rw [← eT, ← eV]
      have V_s : V9 36 = (k9_g τ φ k.toInt.toNat).2.1 := (congrFun eV 36).trans (if_pos rfl)
      have V_n : V9 38 = φ.2.1 38 := (congrFun eV 38).trans (if_neg (by decide))
      have T_s : T9 38 = φ.1 56 38 + k := (congrFun eT 38).trans (if_pos rfl)
      have T_n : ∀ q, ¬ q = 38 → T9 q = (k9_g τ φ k.toInt.toNat).1 q := fun q hq8 => (congrFun eT q).trans (if_neg hq8)
      refine cS.t (K := s2 φ.1 56 T9) (V := V9) H (fun L hL => s2_n hL) V_n (fun L n1 n2 => ?_) ((y4 112 (by decide))) ?_
      · have n3 : ¬ L = 25 ∧ ¬ L = 26 := by
          unfold scr at n1
          omega
        rw [zq15, s2_n (by omega), y6 L (by omega) (by omega), w3 L n3.1 n3.2]
      · rw [s2_s]
        refine s1.go (j := 0) n6 pe8 (fun q hq9 => ?_) (fun k9 k1 k2 => ?_) ?_ ?_ (fun L n1 n2 => ?_)
        · rw [T_n _ (by omega), T_n _ (by omega), zq15, s2_n (by decide), s2_n (by decide)]
          exact y2 q hq9
        · rw [T_n _ (by omega)]
          exact m_g_hi n6 _ _ k1
        · show zI14 100 5 = _
          rw [c5, upd_s, T_s, ze12, show I 100 5 = φ.1 56 38 from h3.2.2.2.1]
        · rw [V_s]
          exact y3
        · rw [zq15, s2_n (by omega), y6 L (by omega) (by omega)]
    · refine w_iconst (by decide) (tX10_minutes_0_ok (18, .iconst (-1), 1) (List.mem_of_getElem? (i := 8) rfl)) (fun zv18 ze19 => ?_)
      refine w_iret rfl (tX10_minutes_0_ok (19, .ireturn, 1) (List.mem_of_getElem? (i := 9) rfl)) ?_
      have ek : k9_minutes k τ φ = φ := if_neg (by omega)
      exact hq h I W _ (Or.inr ⟨by omega, by omega⟩) (by rw [ek]; exact H) hz zf.rf
theorem z9_rest (hT : k_tys tys cA) (hz : zr zNC cA ad I W O h) (hk : kok τ φ) (H : cS τ φ I W) (hf : 20 ≤ fr) (hlo : 600 ≤ lo) (hq : ∀ (g : ch_H) (I1 : zI) (W1 : zW) (v : Int32), (¬ τ.1 = 0 ∧ v.toInt = k9_M τ φ ∨ τ.1 = 0 ∧ v.toInt = -1) → cS τ (k9_rest τ φ) I1 W1 → zr zNC cA ad I1 W1 O g → zf zNC ad h g → Q (some (.int v)) g) : ww l D tys A X fr lo mX10_rest Q 0 [(0, .ref (ad 0))] [] h := by
  have n6 := hk.1.1
  obtain ⟨ga6, pe8, ta6⟩ := hk.2.2.2.1
  obtain ⟨h1, ⟨h21, h22, h23⟩, h3, h4, h5, h6, h7, h8, h9, h10, h11⟩ := id H
  have r0 := h1.1
  refine w_aload_n (List.Mem.head _) (tX10_rest_0_ok (0, .aload_n 0, 1) (List.mem_of_getElem? (i := 0) rfl)) ?_
  refine z_getR (L1 := 2) (own := 15) (k := 1) hz rfl rfl rfl rfl rfl rfl rfl (by decide) (tX10_rest_0_ok (1, .getfield 19, 3) (List.mem_of_getElem? (i := 1) rfl)) ?_
  refine z_get (f := (I 2)) (own := 15) (k := 0) hz rfl rfl rfl rfl rfl rfl rfl (by decide) (tX10_rest_0_ok (4, .getfield 95, 3) (List.mem_of_getElem? (i := 2) rfl)) ?_
  refine w_if_ne (tgt := 12) (tX10_rest_0_ok (7, .ifCond .ne 5, 3) (List.mem_of_getElem? (i := 3) rfl)) rfl (fun zb1 => ?_) (fun zb1 => ?_)
  · refine w_aload_n (List.Mem.head _) (tX10_rest_0_ok (12, .aload_n 0, 1) (List.mem_of_getElem? (i := 6) rfl)) ?_
    refine z_getR (L1 := 4) (own := 15) (k := 9) hz rfl rfl rfl rfl rfl rfl rfl (by decide) (tX10_rest_0_ok (13, .getfield 49, 3) (List.mem_of_getElem? (i := 7) rfl)) ?_
    refine w_aload_n (List.Mem.head _) (tX10_rest_0_ok (16, .aload_n 0, 1) (List.mem_of_getElem? (i := 8) rfl)) ?_
    refine z_getR (L1 := 2) (own := 15) (k := 1) hz rfl rfl rfl rfl rfl rfl rfl (by decide) (tX10_rest_0_ok (17, .getfield 19, 3) (List.mem_of_getElem? (i := 9) rfl)) ?_
    refine w_aload_n (List.Mem.head _) (tX10_rest_0_ok (20, .aload_n 0, 1) (List.mem_of_getElem? (i := 10) rfl)) ?_
    refine z_getR (L1 := 100) (own := 15) (k := 3) hz rfl rfl rfl rfl rfl rfl rfl (by decide) (tX10_rest_0_ok (21, .getfield 29, 3) (List.mem_of_getElem? (i := 11) rfl)) ?_
    refine w_aload_n (List.Mem.head _) (tX10_rest_0_ok (24, .aload_n 0, 1) (List.mem_of_getElem? (i := 12) rfl)) ?_
    refine z_getR (L1 := 3) (own := 15) (k := 8) hz rfl rfl rfl rfl rfl rfl rfl (by decide) (tX10_rest_0_ok (25, .getfield 42, 3) (List.mem_of_getElem? (i := 13) rfl)) ?_
    refine w_callV (own := 15) (mi := 100) [.ref (ad 2), .ref (ad 100), .ref (ad 3)] [] [(0, .ref (ad 4)), (1, .ref (ad 2)), (2, .ref (ad 100)), (3, .ref (ad 3))] rfl (cllw_X10 (194, 0, 100) (List.mem_of_getElem? (i := 12) rfl)) rfl rfl (hz.ob rfl rfl) rfl (by omega) (w_lo (n := 28) rfl (by omega)) (Nat.le_of_ble_eq_true rfl) (Nat.le_of_ble_eq_true rfl) rfl (tX10_rest_0_ok (28, .invokevirtual 194, 3) (List.mem_of_getElem? (i := 14) rfl)) (z_weigh hT (j := 0) (T := φ.1 56) (Wt := φ.1 62) (by decide) hz h1 ⟨h22, pe8⟩ hk.bo h3.2.1 h3.2.2.1 h6 (by omega) (w_sub (n := 28) rfl (by omega)) (fun g1 I1 w1 w2 w3 w4 w5 => ?_))
    show ww l D tys A X fr lo mX10_rest Q 31 [(0, .ref (ad 0))] [] g1
    have p1 : pz I1 τ.1 φ.2.2.1 := h1.mv (fun L hL => w3 L (by omega) (by omega))
    have s1 : sx I1 W 0 τ.1 τ.2.2.1 (φ.1 56) (φ.2.1 36) := h3.mv (fun L a b => w3 L (by omega) (by omega)) rfl
    refine w_aload_n (List.Mem.head _) (tX10_rest_0_ok (31, .aload_n 0, 1) (List.mem_of_getElem? (i := 15) rfl)) ?_
    refine z_getR (L1 := 4) (own := 15) (k := 9) w4 rfl rfl rfl rfl rfl rfl rfl (by decide) (tX10_rest_0_ok (32, .getfield 49, 3) (List.mem_of_getElem? (i := 16) rfl)) ?_
    refine w_aload_n (List.Mem.head _) (tX10_rest_0_ok (35, .aload_n 0, 1) (List.mem_of_getElem? (i := 17) rfl)) ?_
    refine z_getR (L1 := 2) (own := 15) (k := 1) w4 rfl rfl rfl rfl rfl rfl rfl (by decide) (tX10_rest_0_ok (36, .getfield 19, 3) (List.mem_of_getElem? (i := 18) rfl)) ?_
    refine w_aload_n (List.Mem.head _) (tX10_rest_0_ok (39, .aload_n 0, 1) (List.mem_of_getElem? (i := 19) rfl)) ?_
    refine z_getR (L1 := 100) (own := 15) (k := 3) w4 rfl rfl rfl rfl rfl rfl rfl (by decide) (tX10_rest_0_ok (40, .getfield 29, 3) (List.mem_of_getElem? (i := 20) rfl)) ?_
    refine w_callV (own := 15) (mi := 97) [.ref (ad 2), .ref (ad 100)] [] [(0, .ref (ad 4)), (1, .ref (ad 2)), (2, .ref (ad 100))] rfl (cllw_X10 (246, 0, 97) (List.mem_of_getElem? (i := 18) rfl)) rfl rfl (w4.ob rfl rfl) rfl (by omega) (w_lo (n := 26) rfl (by omega)) (Nat.le_of_ble_eq_true rfl) (Nat.le_of_ble_eq_true rfl) rfl (tX10_rest_0_ok (43, .invokevirtual 246, 3) (List.mem_of_getElem? (i := 21) rfl)) (z_settle hT (j := 0) (by decide) (T := φ.1 56) (b := kb τ φ) w4 p1 w2 (by omega) (w_sub (n := 26) rfl (by omega)) hk.2.1.1 hk.2.1.2.1 (fun q hq9 => ⟨by rw [(s1.1 q hq9).2.2], s1.2.2.2.2.2 q (by omega)⟩) (fun q hq9 => ⟨(s1.1 q hq9).1, (s1.1 q hq9).2.1⟩) (fun g2 I2 v y1 y2 y6 y7 y8 => ?_))
    show ww l D tys A X fr lo mX10_rest Q 46 [(0, .ref (ad 0))] [.int v] g2
    refine w_istore_n [(1, .int v), (0, .ref (ad 0))] rfl (Nat.le_of_ble_eq_true rfl) (tX10_rest_0_ok (46, .istore_n 1, 1) (List.mem_of_getElem? (i := 22) rfl)) ?_
    refine w_aload_n (List.Mem.tail _ (List.Mem.head _)) (tX10_rest_0_ok (47, .aload_n 0, 1) (List.mem_of_getElem? (i := 23) rfl)) ?_
    refine z_getR (L1 := 100) (own := 15) (k := 3) y7 rfl rfl rfl rfl rfl rfl rfl (by decide) (tX10_rest_0_ok (48, .getfield 29, 3) (List.mem_of_getElem? (i := 24) rfl)) ?_
    refine w_dup rfl (tX10_rest_0_ok (51, .dup, 1) (List.mem_of_getElem? (i := 25) rfl)) ?_
    refine z_get (f := (I 100)) (own := 15) (k := 5) y7 rfl rfl rfl rfl ((y6 100 (by decide) (by decide)).trans (w3 100 (by decide) (by decide))) rfl rfl (by decide) (tX10_rest_0_ok (52, .getfield 243, 3) (List.mem_of_getElem? (i := 26) rfl)) ?_
    refine w_iload_n (List.Mem.head _) (tX10_rest_0_ok (55, .iload_n 1, 1) (List.mem_of_getElem? (i := 27) rfl)) ?_
    refine w_addE (tX10_rest_0_ok (56, .iadd, 1) (List.mem_of_getElem? (i := 28) rfl)) (fun zv2 ze3 => ?_)
    refine z_put (f := (I 100)) (own := 15) (k := 5) y7 rfl rfl rfl rfl ((y6 100 (by decide) (by decide)).trans (w3 100 (by decide) (by decide))) rfl rfl (by decide) rfl ⟨rfl, rfl⟩ (tX10_rest_0_ok (57, .putfield 243, 3) (List.mem_of_getElem? (i := 29) rfl)) (fun zh4 zI5 zq6 zz7 zf8 => ?_)
    refine w_iload_n (List.Mem.head _) (tX10_rest_0_ok (60, .iload_n 1, 1) (List.mem_of_getElem? (i := 30) rfl)) ?_
    refine w_iret rfl (tX10_rest_0_ok (61, .ireturn, 1) (List.mem_of_getElem? (i := 31) rfl)) ?_
    have ec : ¬ τ.1 = 0 := by omega
    have ek : k9_rest τ φ = k56 φ (k9_rt τ φ) := if_pos ec
    have c5 := ((congrFun zq6 100).trans (s2_s _ _ _))
    have mb := r_M_b (b := kb τ φ) hk.2.1.1 hk.1 τ.1 (Nat.le_refl _)
    refine hq zh4 zI5 W v (Or.inl ⟨ec, y1⟩) ?_ zz7 ((w5.tr y8).tr zf8)
    rw [ek]
    refine cS.t (K := s2 φ.1 56 _) (V := φ.2.1) H (fun L hL => s2_n hL) rfl (fun L n1 n2 => ?_) rfl ?_
    · have n3 : ¬ L = 25 ∧ ¬ L = 26 := by
        unfold scr at n1
        omega
      rw [zq6, s2_n (by omega), y6 L (by omega) (by omega), w3 L n3.1 n3.2]
    · rw [s2_s]
      refine s1.go (j := 0) n6 pe8 (fun q hq9 => ?_) (fun k9 k1 k2 => k9_rt_n n6 k1 (by omega)) ?_ s1.2.2.2.2.1 (fun L n1 n2 => ?_)
      · rw [k9_rt_x hq9, k9_rt_t n6 hq9, zq6, s2_n (by decide), s2_n (by decide)]
        exact y2 q hq9
      · show zI5 100 5 = _
        have ev : Int32.ofInt (k9_M τ φ) = v := (kn_eq _ _).mpr (by unfold k9_M; rw [ofInt_b (by omega), y1])
        rw [c5, upd_s, k9_rt_m n6, ev, ze3, show I 100 5 = φ.1 56 38 from h3.2.2.2.1]
      · rw [zq6, s2_n (by omega), y6 L (by omega) (by omega)]
  · refine w_iconst (by decide) (tX10_rest_0_ok (10, .iconst (-1), 1) (List.mem_of_getElem? (i := 4) rfl)) (fun zv9 ze10 => ?_)
    refine w_iret rfl (tX10_rest_0_ok (11, .ireturn, 1) (List.mem_of_getElem? (i := 5) rfl)) ?_
    have ek : k9_rest τ φ = φ := if_neg (by omega)
    exact hq h I W _ (Or.inr ⟨by omega, by omega⟩) (by rw [ek]; exact H) hz zf.rf
theorem z9_gallery (hT : k_tys tys cA) {p : Int32} (hz : zr zNC cA ad I W O h) (hk : kok τ φ) (H : cS τ φ I W) (hf : 20 ≤ fr) (hlo : 600 ≤ lo) (hq : ∀ (g : ch_H) (I1 : zI) (W1 : zW) (v : Int32), cS (n_gallery p τ) (k9_gallery p τ φ) I1 W1 → zr zNC cA ad I1 W1 O g → zf zNC ad h g → Q (some (.int v)) g) : ww l D tys A X fr lo mX10_gallery Q 0 [(0, .ref (ad 0)), (1, .int p)] [] h := by
  have n6 := hk.1.1
  obtain ⟨ga6, pe8, ta6⟩ := hk.2.2.2.1
  obtain ⟨h1, ⟨h21, h22, h23⟩, h3, h4, h5, h6, h7, h8, h9, h10, h11⟩ := id H
  have r0 := h1.1
  refine w_aload_n (List.Mem.head _) (tX10_gallery_0_ok (0, .aload_n 0, 1) (List.mem_of_getElem? (i := 0) rfl)) ?_
  refine z_getR (L1 := 2) (own := 15) (k := 1) hz rfl rfl rfl rfl rfl rfl rfl (by decide) (tX10_gallery_0_ok (1, .getfield 19, 3) (List.mem_of_getElem? (i := 1) rfl)) ?_
  refine z_get (f := (I 2)) (own := 15) (k := 0) hz rfl rfl rfl rfl rfl rfl rfl (by decide) (tX10_gallery_0_ok (4, .getfield 95, 3) (List.mem_of_getElem? (i := 2) rfl)) ?_
  refine w_if_eq (tgt := 32) (tX10_gallery_0_ok (7, .ifCond .eq 25, 3) (List.mem_of_getElem? (i := 3) rfl)) rfl (fun zb1 => ?_) (fun zb1 => ?_)
  · refine w_iconst (by decide) (tX10_gallery_0_ok (32, .iconst (-1), 1) (List.mem_of_getElem? (i := 14) rfl)) (fun zv2 ze3 => ?_)
    refine w_iret rfl (tX10_gallery_0_ok (33, .ireturn, 1) (List.mem_of_getElem? (i := 15) rfl)) ?_
    have ek : k9_gallery p τ φ = φ := if_neg (by omega)
    have en : n_gallery p τ = τ := if_neg (by omega)
    exact hq h I W _ (by rw [ek, en]; exact H) hz zf.rf
  · refine w_iload_n (List.Mem.tail _ (List.Mem.head _)) (tX10_gallery_0_ok (10, .iload_n 1, 1) (List.mem_of_getElem? (i := 4) rfl)) ?_
    refine w_if_lt (tgt := 32) (tX10_gallery_0_ok (11, .ifCond .lt 21, 3) (List.mem_of_getElem? (i := 5) rfl)) rfl (fun zb4 => ?_) (fun zb4 => ?_)
    · refine w_iconst (by decide) (tX10_gallery_0_ok (32, .iconst (-1), 1) (List.mem_of_getElem? (i := 14) rfl)) (fun zv5 ze6 => ?_)
      refine w_iret rfl (tX10_gallery_0_ok (33, .ireturn, 1) (List.mem_of_getElem? (i := 15) rfl)) ?_
      have ek : k9_gallery p τ φ = φ := if_neg (by omega)
      have en : n_gallery p τ = τ := if_neg (by omega)
      exact hq h I W _ (by rw [ek, en]; exact H) hz zf.rf
    · refine w_iload_n (List.Mem.tail _ (List.Mem.head _)) (tX10_gallery_0_ok (14, .iload_n 1, 1) (List.mem_of_getElem? (i := 6) rfl)) ?_
      refine w_bipush (by decide) (tX10_gallery_0_ok (15, .bipush 60, 2) (List.mem_of_getElem? (i := 7) rfl)) (fun zv7 ze8 => ?_)
      refine w_icmp_gt (tgt := 32) (tX10_gallery_0_ok (17, .if_icmp .gt 15, 3) (List.mem_of_getElem? (i := 8) rfl)) rfl (fun zb9 => ?_) (fun zb9 => ?_)
      · refine w_iconst (by decide) (tX10_gallery_0_ok (32, .iconst (-1), 1) (List.mem_of_getElem? (i := 14) rfl)) (fun zv10 ze11 => ?_)
        refine w_iret rfl (tX10_gallery_0_ok (33, .ireturn, 1) (List.mem_of_getElem? (i := 15) rfl)) ?_
        have ek : k9_gallery p τ φ = φ := if_neg (by omega)
        have en : n_gallery p τ = τ := if_neg (by omega)
        exact hq h I W _ (by rw [ek, en]; exact H) hz zf.rf
      · refine w_aload_n (List.Mem.head _) (tX10_gallery_0_ok (20, .aload_n 0, 1) (List.mem_of_getElem? (i := 9) rfl)) ?_
        refine z_getR (L1 := 3) (own := 15) (k := 8) hz rfl rfl rfl rfl rfl rfl rfl (by decide) (tX10_gallery_0_ok (21, .getfield 42, 3) (List.mem_of_getElem? (i := 10) rfl)) ?_
        refine z_get (f := (I 3)) (own := 15) (k := 0) hz rfl rfl rfl rfl rfl rfl rfl (by decide) (tX10_gallery_0_ok (24, .getfield 148, 3) (List.mem_of_getElem? (i := 11) rfl)) ?_
        refine w_bipush (by decide) (tX10_gallery_0_ok (27, .bipush 6, 2) (List.mem_of_getElem? (i := 12) rfl)) (fun zv12 ze13 => ?_)
        refine w_icmp_lt (tgt := 34) (tX10_gallery_0_ok (29, .if_icmp .lt 5, 3) (List.mem_of_getElem? (i := 13) rfl)) rfl (fun zb14 => ?_) (fun zb14 => ?_)
        · refine w_aload_n (List.Mem.head _) (tX10_gallery_0_ok (34, .aload_n 0, 1) (List.mem_of_getElem? (i := 16) rfl)) ?_
          refine z_getR (L1 := 3) (own := 15) (k := 8) hz rfl rfl rfl rfl rfl rfl rfl (by decide) (tX10_gallery_0_ok (35, .getfield 42, 3) (List.mem_of_getElem? (i := 17) rfl)) ?_
          refine z_getR (L1 := 20) (own := 15) (k := 1) hz rfl rfl rfl rfl rfl rfl rfl (by decide) (tX10_gallery_0_ok (38, .getfield 250, 3) (List.mem_of_getElem? (i := 18) rfl)) ?_
          refine w_aload_n (List.Mem.head _) (tX10_gallery_0_ok (41, .aload_n 0, 1) (List.mem_of_getElem? (i := 19) rfl)) ?_
          refine z_getR (L1 := 3) (own := 15) (k := 8) hz rfl rfl rfl rfl rfl rfl rfl (by decide) (tX10_gallery_0_ok (42, .getfield 42, 3) (List.mem_of_getElem? (i := 20) rfl)) ?_
          refine z_get (f := (I 3)) (own := 15) (k := 0) hz rfl rfl rfl rfl rfl rfl rfl (by decide) (tX10_gallery_0_ok (45, .getfield 148, 3) (List.mem_of_getElem? (i := 21) rfl)) ?_
          refine w_iload_n (List.Mem.tail _ (List.Mem.head _)) (tX10_gallery_0_ok (48, .iload_n 1, 1) (List.mem_of_getElem? (i := 22) rfl)) ?_
          refine z_iast (f := (I 20)) hT hz rfl rfl rfl (by omega) (by omega) (tX10_gallery_0_ok (49, .iastore, 1) (List.mem_of_getElem? (i := 23) rfl)) (fun zh15 zI16 zq17 zz18 zf19 => ?_)
          refine w_aload_n (List.Mem.head _) (tX10_gallery_0_ok (50, .aload_n 0, 1) (List.mem_of_getElem? (i := 24) rfl)) ?_
          refine z_getR (L1 := 3) (own := 15) (k := 8) zz18 rfl rfl rfl rfl rfl rfl rfl (by decide) (tX10_gallery_0_ok (51, .getfield 42, 3) (List.mem_of_getElem? (i := 25) rfl)) ?_
          refine w_dup rfl (tX10_gallery_0_ok (54, .dup, 1) (List.mem_of_getElem? (i := 26) rfl)) ?_
          refine z_get (f := (I 3)) (own := 15) (k := 0) zz18 rfl rfl rfl rfl ((congrFun zq17 3).trans (s2_n (by decide))) rfl rfl (by decide) (tX10_gallery_0_ok (55, .getfield 148, 3) (List.mem_of_getElem? (i := 27) rfl)) ?_
          refine w_iconst (by decide) (tX10_gallery_0_ok (58, .iconst 1, 1) (List.mem_of_getElem? (i := 28) rfl)) (fun zv20 ze21 => ?_)
          refine w_iadd (by omega) (by omega) (tX10_gallery_0_ok (59, .iadd, 1) (List.mem_of_getElem? (i := 29) rfl)) (fun zv22 ze23 => ?_)
          refine z_put (f := (I 3)) (own := 15) (k := 0) zz18 rfl rfl rfl rfl ((congrFun zq17 3).trans (s2_n (by decide))) rfl rfl (by decide) rfl ⟨rfl, rfl⟩ (tX10_gallery_0_ok (60, .putfield 148, 3) (List.mem_of_getElem? (i := 30) rfl)) (fun zh24 zI25 zq26 zz27 zf28 => ?_)
          refine w_bipush (by decide) (tX10_gallery_0_ok (63, .bipush 12, 2) (List.mem_of_getElem? (i := 31) rfl)) (fun zv29 ze30 => ?_)
          refine w_aload_n (List.Mem.head _) (tX10_gallery_0_ok (65, .aload_n 0, 1) (List.mem_of_getElem? (i := 32) rfl)) ?_
          refine z_getR (L1 := 3) (own := 15) (k := 8) zz27 rfl rfl rfl rfl rfl rfl rfl (by decide) (tX10_gallery_0_ok (66, .getfield 42, 3) (List.mem_of_getElem? (i := 33) rfl)) ?_
          refine z_get (f := (upd (I 3) 0 zv22)) (own := 15) (k := 0) zz27 rfl rfl rfl rfl ((congrFun zq26 3).trans (s2_s _ _ _)) rfl rfl (by decide) (tX10_gallery_0_ok (69, .getfield 148, 3) (List.mem_of_getElem? (i := 34) rfl)) ?_
          show ww l D tys A X fr lo mX10_gallery Q 72 [(0, .ref (ad 0)), (1, .int p)] [.int zv22, .int zv29] zh24
          refine w_iadd (by omega) (by omega) (tX10_gallery_0_ok (72, .iadd, 1) (List.mem_of_getElem? (i := 35) rfl)) (fun zv31 ze32 => ?_)
          refine w_iconst (by decide) (tX10_gallery_0_ok (73, .iconst 1, 1) (List.mem_of_getElem? (i := 36) rfl)) (fun zv33 ze34 => ?_)
          refine w_isub (by omega) (by omega) (tX10_gallery_0_ok (74, .isub, 1) (List.mem_of_getElem? (i := 37) rfl)) (fun zv35 ze36 => ?_)
          refine w_iret rfl (tX10_gallery_0_ok (75, .ireturn, 1) (List.mem_of_getElem? (i := 38) rfl)) ?_
          have ec : 1 ≤ τ.1 ∧ 0 ≤ p.toInt ∧ p.toInt ≤ 60 ∧ τ.2.1 < 6 := by omega
          have ek : k9_gallery p τ φ = (s2 φ.1 59 (upd (φ.1 59) (12 + τ.2.1) p), φ.2) := if_pos ec
          have en : n_gallery p τ = (τ.1, τ.2.1 + 1, τ.2.2.1, τ.2.2.2) := if_pos ec
          have c20 := (((congrFun zq26 20).trans (s2_n (by decide))).trans ((congrFun zq17 20).trans (s2_s _ _ _)))
          have c3 := ((congrFun zq26 3).trans (s2_s _ _ _))
          have o : ∀ L, L ≠ 20 → L ≠ 3 → zI25 L = I L := fun L n1 n2 => by rw [zq26, s2_n n2, zq17, s2_n n1]
          refine hq zh24 zI25 W _ ?_ zz27 (zf19.tr zf28)
          rw [ek, en]
          obtain ⟨K9, eK⟩ : ∃ K9 : zI, K9 = s2 φ.1 59 (upd (φ.1 59) (12 + τ.2.1) p) := ⟨_, rfl⟩
          rw [← eK]
          have k_59 := (congrFun eK 59).trans (s2_s _ _ _)
          have k_n : ∀ L, L ≠ 59 → K9 L = φ.1 L := fun L hL => by rw [eK, s2_n hL]
          refine ⟨h1.mv (fun L hL => o L (by omega) (by omega)), ⟨?_, ?_, ?_⟩, (by show sx _ _ _ _ _ (K9 56) _; rw [k_n 56 (by decide)]; exact h3.mv (fun L a b => o L (by omega) (by omega)) rfl), fun g hg => ?_, fun a b ha hb => ?_, fun i hi => ?_, fun i hi => ?_, fun r hr => ?_, ?_, ?_, ?_⟩
          · show (zI25 3 0).toInt = ((τ.2.1 + 1 : Nat) : Int)
            rw [c3, upd_s]
            omega
          · show (zI25 3 3).toInt = _
            rw [c3, upd_n _ _ (by decide)]
            exact h22
          · show (zI25 3 5).toInt = _
            rw [c3, upd_n _ _ (by decide)]
            exact h23
          · show zI25 20 g = K9 59 (12 + g)
            have hg : g < τ.2.1 + 1 := hg
            rw [c20, k_59]
            by_cases e : g = τ.2.1
            · subst e
              rw [show ((I 3) 0).toInt.toNat = τ.2.1 by omega, upd_s, upd_s]
            · rw [upd_n _ _ (by omega), upd_n _ _ (by omega)]
              exact h4 g (by omega)
          · show bt9 (zI25 21 a) b = decide ((K9 65 (18 * a + b)).toInt = 1)
            rw [o 21 (by decide) (by decide), k_n 65 (by decide)]
            exact h5 a b ha hb
          · show zI25 22 i = K9 62 i
            rw [o 22 (by decide) (by decide), k_n 62 (by decide)]
            exact h6 i hi
          · show zI25 23 i = K9 63 i ∧ zI25 24 i = K9 64 i
            rw [o 23 (by decide) (by decide), o 24 (by decide) (by decide), k_n 63 (by decide), k_n 64 (by decide)]
            exact h7 i hi
          · show zI25 5 r = K9 60 r ∧ zI25 6 r = K9 61 r
            rw [o 5 (by decide) (by decide), o 6 (by decide) (by decide), k_n 60 (by decide), k_n 61 (by decide)]
            exact h8 r hr
          · show (zI25 0 6).toInt = (K9 50 39).toInt
            rw [o 0 (by decide) (by decide), k_n 50 (by decide)]
            exact h9
          · show (K9 50 39).toInt = 1 → (zI25 0 7).toInt = (K9 50 35).toInt ∧ sx zI25 W 2 τ.1 (K9 50 35).toInt.toNat (K9 58) (φ.2.1 38)
            rw [o 0 (by decide) (by decide), k_n 50 (by decide), k_n 58 (by decide)]
            exact fun z => ⟨(h10 z).1, (h10 z).2.mv (fun L a b => o L (by omega) (by omega)) rfl⟩
          · show zI25 0 14 = K9 50 7
            rw [o 0 (by decide) (by decide), k_n 50 (by decide)]
            exact h11
        · refine w_iconst (by decide) (tX10_gallery_0_ok (32, .iconst (-1), 1) (List.mem_of_getElem? (i := 14) rfl)) (fun zv37 ze38 => ?_)
          refine w_iret rfl (tX10_gallery_0_ok (33, .ireturn, 1) (List.mem_of_getElem? (i := 15) rfl)) ?_
          have ek : k9_gallery p τ φ = φ := if_neg (by omega)
          have en : n_gallery p τ = τ := if_neg (by omega)
          exact hq h I W _ (by rw [ek, en]; exact H) hz zf.rf
theorem z9_want (hT : k_tys tys cA) {r w : Int32} (hz : zr zNC cA ad I W O h) (hk : kok τ φ) (H : cS τ φ I W) (hf : 20 ≤ fr) (hlo : 600 ≤ lo) (hq : ∀ (g : ch_H) (I1 : zI) (W1 : zW) (v : Int32), cS τ (k9_want r w τ φ) I1 W1 → zr zNC cA ad I1 W1 O g → zf zNC ad h g → Q (some (.int v)) g) : ww l D tys A X fr lo mX10_want Q 0 [(0, .ref (ad 0)), (1, .int r), (2, .int w)] [] h := by
  have n6 := hk.1.1
  obtain ⟨ga6, pe8, ta6⟩ := hk.2.2.2.1
  obtain ⟨h1, ⟨h21, h22, h23⟩, h3, h4, h5, h6, h7, h8, h9, h10, h11⟩ := id H
  have r0 := h1.1
  refine w_aload_n (List.Mem.head _) (tX10_want_0_ok (0, .aload_n 0, 1) (List.mem_of_getElem? (i := 0) rfl)) ?_
  refine w_iload_n (List.Mem.tail _ (List.Mem.head _)) (tX10_want_0_ok (1, .iload_n 1, 1) (List.mem_of_getElem? (i := 1) rfl)) ?_
  refine w_callV (own := 15) (mi := 122) [.int r] [] [(0, .ref (ad 0)), (1, .int r)] rfl (cllw_X10 (144, 0, 122) (List.mem_of_getElem? (i := 8) rfl)) rfl rfl (hz.ob rfl rfl) rfl (by omega) (w_lo (n := 21) rfl (by omega)) (Nat.le_of_ble_eq_true rfl) (Nat.le_of_ble_eq_true rfl) rfl (tX10_want_0_ok (2, .invokevirtual 144, 3) (List.mem_of_getElem? (i := 2) rfl)) (z_isRoom hT hz r0 n6 (fun zv1 ze2 => ?_))
  show ww l D tys A X fr lo mX10_want Q 5 [(0, .ref (ad 0)), (1, .int r), (2, .int w)] [.int zv1] h
  refine w_if_eq (tgt := 20) (tX10_want_0_ok (5, .ifCond .eq 15, 3) (List.mem_of_getElem? (i := 3) rfl)) rfl (fun zb3 => ?_) (fun zb3 => ?_)
  · refine w_iconst (by decide) (tX10_want_0_ok (20, .iconst 0, 1) (List.mem_of_getElem? (i := 10) rfl)) (fun zv4 ze5 => ?_)
    refine w_zret rfl (by omega) (by omega) (tX10_want_0_ok (21, .ireturn, 1) (List.mem_of_getElem? (i := 11) rfl)) ?_
    have ek : k9_want r w τ φ = φ := if_neg (by omega)
    exact hq h I W _ (by rw [ek]; exact H) hz zf.rf
  · refine w_iload_n (List.Mem.tail _ (List.Mem.tail _ (List.Mem.head _))) (tX10_want_0_ok (8, .iload_n 2, 1) (List.mem_of_getElem? (i := 4) rfl)) ?_
    refine w_iconst (by decide) (tX10_want_0_ok (9, .iconst (-1), 1) (List.mem_of_getElem? (i := 5) rfl)) (fun zv6 ze7 => ?_)
    refine w_icmp_lt (tgt := 20) (tX10_want_0_ok (10, .if_icmp .lt 10, 3) (List.mem_of_getElem? (i := 6) rfl)) rfl (fun zb8 => ?_) (fun zb8 => ?_)
    · refine w_iconst (by decide) (tX10_want_0_ok (20, .iconst 0, 1) (List.mem_of_getElem? (i := 10) rfl)) (fun zv9 ze10 => ?_)
      refine w_zret rfl (by omega) (by omega) (tX10_want_0_ok (21, .ireturn, 1) (List.mem_of_getElem? (i := 11) rfl)) ?_
      have ek : k9_want r w τ φ = φ := if_neg (by omega)
      exact hq h I W _ (by rw [ek]; exact H) hz zf.rf
    · refine w_iload_n (List.Mem.tail _ (List.Mem.tail _ (List.Mem.head _))) (tX10_want_0_ok (13, .iload_n 2, 1) (List.mem_of_getElem? (i := 7) rfl)) ?_
      refine w_sipush (by decide) (tX10_want_0_ok (14, .sipush 200, 3) (List.mem_of_getElem? (i := 8) rfl)) (fun zv11 ze12 => ?_)
      refine w_icmp_le (tgt := 22) (tX10_want_0_ok (17, .if_icmp .le 5, 3) (List.mem_of_getElem? (i := 9) rfl)) rfl (fun zb13 => ?_) (fun zb13 => ?_)
      · refine w_aload_n (List.Mem.head _) (tX10_want_0_ok (22, .aload_n 0, 1) (List.mem_of_getElem? (i := 12) rfl)) ?_
        refine z_getR (L1 := 5) (own := 15) (k := 10) hz rfl rfl rfl rfl rfl rfl rfl (by decide) (tX10_want_0_ok (23, .getfield 53, 3) (List.mem_of_getElem? (i := 13) rfl)) ?_
        refine w_iload_n (List.Mem.tail _ (List.Mem.head _)) (tX10_want_0_ok (26, .iload_n 1, 1) (List.mem_of_getElem? (i := 14) rfl)) ?_
        refine w_iload_n (List.Mem.tail _ (List.Mem.tail _ (List.Mem.head _))) (tX10_want_0_ok (27, .iload_n 2, 1) (List.mem_of_getElem? (i := 15) rfl)) ?_
        refine z_iast (f := (I 5)) hT hz rfl rfl rfl (by omega) (by omega) (tX10_want_0_ok (28, .iastore, 1) (List.mem_of_getElem? (i := 16) rfl)) (fun zh14 zI15 zq16 zz17 zf18 => ?_)
        refine w_iconst (by decide) (tX10_want_0_ok (29, .iconst 1, 1) (List.mem_of_getElem? (i := 17) rfl)) (fun zv19 ze20 => ?_)
        refine w_zret rfl (by omega) (by omega) (tX10_want_0_ok (30, .ireturn, 1) (List.mem_of_getElem? (i := 18) rfl)) ?_
        have ec : (0 ≤ r.toInt ∧ r.toInt < 2 * (τ.1 : Int)) ∧ -1 ≤ w.toInt ∧ w.toInt ≤ 200 := by omega
        have ek : k9_want r w τ φ = (s2 φ.1 60 (upd (φ.1 60) r.toInt.toNat w), φ.2) := if_pos ec
        have c1 := ((congrFun zq16 5).trans (s2_s _ _ _))
        have o : ∀ L, L ≠ 5 → zI15 L = I L := fun L n1 => by rw [zq16, s2_n n1]
        refine hq zh14 zI15 W _ ?_ zz17 zf18
        rw [ek]
        obtain ⟨K9, eK⟩ : ∃ K9 : zI, K9 = s2 φ.1 60 (upd (φ.1 60) r.toInt.toNat w) := ⟨_, rfl⟩
        rw [← eK]
        have k_60 := (congrFun eK 60).trans (s2_s _ _ _)
        have k_n : ∀ L, L ≠ 60 → K9 L = φ.1 L := fun L hL => by rw [eK, s2_n hL]
        refine ⟨h1.mv (fun L hL => o L (by omega)), ?_, (by show sx _ _ _ _ _ (K9 56) _; rw [k_n 56 (by decide)]; exact h3.mv (fun L a b => o L (by omega)) rfl), fun g hg => ?_, fun a b ha hb => ?_, fun i hi => ?_, fun i hi => ?_, fun r9 hr => ?_, ?_, ?_, ?_⟩
        · rw [o 3 (by decide)]
          exact ⟨h21, h22, h23⟩
        · show zI15 20 g = K9 59 (12 + g)
          rw [o 20 (by decide), k_n 59 (by decide)]
          exact h4 g hg
        · show bt9 (zI15 21 a) b = decide ((K9 65 (18 * a + b)).toInt = 1)
          rw [o 21 (by decide), k_n 65 (by decide)]
          exact h5 a b ha hb
        · show zI15 22 i = K9 62 i
          rw [o 22 (by decide), k_n 62 (by decide)]
          exact h6 i hi
        · show zI15 23 i = K9 63 i ∧ zI15 24 i = K9 64 i
          rw [o 23 (by decide), o 24 (by decide), k_n 63 (by decide), k_n 64 (by decide)]
          exact h7 i hi
        · show zI15 5 r9 = K9 60 r9 ∧ zI15 6 r9 = K9 61 r9
          rw [c1, o 6 (by decide), k_60, k_n 61 (by decide)]
          refine ⟨?_, (h8 r9 hr).2⟩
          by_cases e : r9 = r.toInt.toNat
          · subst e
            rw [upd_s, upd_s]
          · rw [upd_n _ _ e, upd_n _ _ e]
            exact (h8 r9 hr).1
        · show (zI15 0 6).toInt = (K9 50 39).toInt
          rw [o 0 (by decide), k_n 50 (by decide)]
          exact h9
        · show (K9 50 39).toInt = 1 → (zI15 0 7).toInt = (K9 50 35).toInt ∧ sx zI15 W 2 τ.1 (K9 50 35).toInt.toNat (K9 58) (φ.2.1 38)
          rw [o 0 (by decide), k_n 50 (by decide), k_n 58 (by decide)]
          exact fun z => ⟨(h10 z).1, (h10 z).2.mv (fun L a b => o L (by omega)) rfl⟩
        · show zI15 0 14 = K9 50 7
          rw [o 0 (by decide), k_n 50 (by decide)]
          exact h11
      · refine w_iconst (by decide) (tX10_want_0_ok (20, .iconst 0, 1) (List.mem_of_getElem? (i := 10) rfl)) (fun zv21 ze22 => ?_)
        refine w_zret rfl (by omega) (by omega) (tX10_want_0_ok (21, .ireturn, 1) (List.mem_of_getElem? (i := 11) rfl)) ?_
        have ek : k9_want r w τ φ = φ := if_neg (by omega)
        exact hq h I W _ (by rw [ek]; exact H) hz zf.rf
theorem z9_woke (hT : k_tys tys cA) {r w : Int32} (hz : zr zNC cA ad I W O h) (hk : kok τ φ) (H : cS τ φ I W) (hf : 20 ≤ fr) (hlo : 600 ≤ lo) (hq : ∀ (g : ch_H) (I1 : zI) (W1 : zW) (v : Int32), cS τ (k9_woke r w τ φ) I1 W1 → zr zNC cA ad I1 W1 O g → zf zNC ad h g → Q (some (.int v)) g) : ww l D tys A X fr lo mX10_woke Q 0 [(0, .ref (ad 0)), (1, .int r), (2, .int w)] [] h := by
  have n6 := hk.1.1
  obtain ⟨ga6, pe8, ta6⟩ := hk.2.2.2.1
  obtain ⟨h1, ⟨h21, h22, h23⟩, h3, h4, h5, h6, h7, h8, h9, h10, h11⟩ := id H
  have r0 := h1.1
  refine w_aload_n (List.Mem.head _) (tX10_woke_0_ok (0, .aload_n 0, 1) (List.mem_of_getElem? (i := 0) rfl)) ?_
  refine w_iload_n (List.Mem.tail _ (List.Mem.head _)) (tX10_woke_0_ok (1, .iload_n 1, 1) (List.mem_of_getElem? (i := 1) rfl)) ?_
  refine w_callV (own := 15) (mi := 122) [.int r] [] [(0, .ref (ad 0)), (1, .int r)] rfl (cllw_X10 (144, 0, 122) (List.mem_of_getElem? (i := 8) rfl)) rfl rfl (hz.ob rfl rfl) rfl (by omega) (w_lo (n := 21) rfl (by omega)) (Nat.le_of_ble_eq_true rfl) (Nat.le_of_ble_eq_true rfl) rfl (tX10_woke_0_ok (2, .invokevirtual 144, 3) (List.mem_of_getElem? (i := 2) rfl)) (z_isRoom hT hz r0 n6 (fun zv1 ze2 => ?_))
  show ww l D tys A X fr lo mX10_woke Q 5 [(0, .ref (ad 0)), (1, .int r), (2, .int w)] [.int zv1] h
  refine w_if_eq (tgt := 20) (tX10_woke_0_ok (5, .ifCond .eq 15, 3) (List.mem_of_getElem? (i := 3) rfl)) rfl (fun zb3 => ?_) (fun zb3 => ?_)
  · refine w_iconst (by decide) (tX10_woke_0_ok (20, .iconst 0, 1) (List.mem_of_getElem? (i := 10) rfl)) (fun zv4 ze5 => ?_)
    refine w_zret rfl (by omega) (by omega) (tX10_woke_0_ok (21, .ireturn, 1) (List.mem_of_getElem? (i := 11) rfl)) ?_
    have ek : k9_woke r w τ φ = φ := if_neg (by omega)
    exact hq h I W _ (by rw [ek]; exact H) hz zf.rf
  · refine w_iload_n (List.Mem.tail _ (List.Mem.tail _ (List.Mem.head _))) (tX10_woke_0_ok (8, .iload_n 2, 1) (List.mem_of_getElem? (i := 4) rfl)) ?_
    refine w_iconst (by decide) (tX10_woke_0_ok (9, .iconst (-1), 1) (List.mem_of_getElem? (i := 5) rfl)) (fun zv6 ze7 => ?_)
    refine w_icmp_lt (tgt := 20) (tX10_woke_0_ok (10, .if_icmp .lt 10, 3) (List.mem_of_getElem? (i := 6) rfl)) rfl (fun zb8 => ?_) (fun zb8 => ?_)
    · refine w_iconst (by decide) (tX10_woke_0_ok (20, .iconst 0, 1) (List.mem_of_getElem? (i := 10) rfl)) (fun zv9 ze10 => ?_)
      refine w_zret rfl (by omega) (by omega) (tX10_woke_0_ok (21, .ireturn, 1) (List.mem_of_getElem? (i := 11) rfl)) ?_
      have ek : k9_woke r w τ φ = φ := if_neg (by omega)
      exact hq h I W _ (by rw [ek]; exact H) hz zf.rf
    · refine w_iload_n (List.Mem.tail _ (List.Mem.tail _ (List.Mem.head _))) (tX10_woke_0_ok (13, .iload_n 2, 1) (List.mem_of_getElem? (i := 7) rfl)) ?_
      refine w_sipush (by decide) (tX10_woke_0_ok (14, .sipush 200, 3) (List.mem_of_getElem? (i := 8) rfl)) (fun zv11 ze12 => ?_)
      refine w_icmp_le (tgt := 22) (tX10_woke_0_ok (17, .if_icmp .le 5, 3) (List.mem_of_getElem? (i := 9) rfl)) rfl (fun zb13 => ?_) (fun zb13 => ?_)
      · refine w_aload_n (List.Mem.head _) (tX10_woke_0_ok (22, .aload_n 0, 1) (List.mem_of_getElem? (i := 12) rfl)) ?_
        refine z_getR (L1 := 6) (own := 15) (k := 11) hz rfl rfl rfl rfl rfl rfl rfl (by decide) (tX10_woke_0_ok (23, .getfield 57, 3) (List.mem_of_getElem? (i := 13) rfl)) ?_
        refine w_iload_n (List.Mem.tail _ (List.Mem.head _)) (tX10_woke_0_ok (26, .iload_n 1, 1) (List.mem_of_getElem? (i := 14) rfl)) ?_
        refine w_iload_n (List.Mem.tail _ (List.Mem.tail _ (List.Mem.head _))) (tX10_woke_0_ok (27, .iload_n 2, 1) (List.mem_of_getElem? (i := 15) rfl)) ?_
        refine z_iast (f := (I 6)) hT hz rfl rfl rfl (by omega) (by omega) (tX10_woke_0_ok (28, .iastore, 1) (List.mem_of_getElem? (i := 16) rfl)) (fun zh14 zI15 zq16 zz17 zf18 => ?_)
        refine w_iconst (by decide) (tX10_woke_0_ok (29, .iconst 1, 1) (List.mem_of_getElem? (i := 17) rfl)) (fun zv19 ze20 => ?_)
        refine w_zret rfl (by omega) (by omega) (tX10_woke_0_ok (30, .ireturn, 1) (List.mem_of_getElem? (i := 18) rfl)) ?_
        have ec : (0 ≤ r.toInt ∧ r.toInt < 2 * (τ.1 : Int)) ∧ -1 ≤ w.toInt ∧ w.toInt ≤ 200 := by omega
        have ek : k9_woke r w τ φ = (s2 φ.1 61 (upd (φ.1 61) r.toInt.toNat w), φ.2) := if_pos ec
        have c1 := ((congrFun zq16 6).trans (s2_s _ _ _))
        have o : ∀ L, L ≠ 6 → zI15 L = I L := fun L n1 => by rw [zq16, s2_n n1]
        refine hq zh14 zI15 W _ ?_ zz17 zf18
        rw [ek]
        obtain ⟨K9, eK⟩ : ∃ K9 : zI, K9 = s2 φ.1 61 (upd (φ.1 61) r.toInt.toNat w) := ⟨_, rfl⟩
        rw [← eK]
        have k_61 := (congrFun eK 61).trans (s2_s _ _ _)
        have k_n : ∀ L, L ≠ 61 → K9 L = φ.1 L := fun L hL => by rw [eK, s2_n hL]
        refine ⟨h1.mv (fun L hL => o L (by omega)), ?_, (by show sx _ _ _ _ _ (K9 56) _; rw [k_n 56 (by decide)]; exact h3.mv (fun L a b => o L (by omega)) rfl), fun g hg => ?_, fun a b ha hb => ?_, fun i hi => ?_, fun i hi => ?_, fun r9 hr => ?_, ?_, ?_, ?_⟩
        · rw [o 3 (by decide)]
          exact ⟨h21, h22, h23⟩
        · show zI15 20 g = K9 59 (12 + g)
          rw [o 20 (by decide), k_n 59 (by decide)]
          exact h4 g hg
        · show bt9 (zI15 21 a) b = decide ((K9 65 (18 * a + b)).toInt = 1)
          rw [o 21 (by decide), k_n 65 (by decide)]
          exact h5 a b ha hb
        · show zI15 22 i = K9 62 i
          rw [o 22 (by decide), k_n 62 (by decide)]
          exact h6 i hi
        · show zI15 23 i = K9 63 i ∧ zI15 24 i = K9 64 i
          rw [o 23 (by decide), o 24 (by decide), k_n 63 (by decide), k_n 64 (by decide)]
          exact h7 i hi
        · show zI15 5 r9 = K9 60 r9 ∧ zI15 6 r9 = K9 61 r9
          rw [c1, o 5 (by decide), k_n 60 (by decide), k_61]
          refine ⟨(h8 r9 hr).1, ?_⟩
          by_cases e : r9 = r.toInt.toNat
          · subst e
            rw [upd_s, upd_s]
          · rw [upd_n _ _ e, upd_n _ _ e]
            exact (h8 r9 hr).2
        · show (zI15 0 6).toInt = (K9 50 39).toInt
          rw [o 0 (by decide), k_n 50 (by decide)]
          exact h9
        · show (K9 50 39).toInt = 1 → (zI15 0 7).toInt = (K9 50 35).toInt ∧ sx zI15 W 2 τ.1 (K9 50 35).toInt.toNat (K9 58) (φ.2.1 38)
          rw [o 0 (by decide), k_n 50 (by decide), k_n 58 (by decide)]
          exact fun z => ⟨(h10 z).1, (h10 z).2.mv (fun L a b => o L (by omega)) rfl⟩
        · show zI15 0 14 = K9 50 7
          rw [o 0 (by decide), k_n 50 (by decide)]
          exact h11
      · refine w_iconst (by decide) (tX10_woke_0_ok (20, .iconst 0, 1) (List.mem_of_getElem? (i := 10) rfl)) (fun zv21 ze22 => ?_)
        refine w_zret rfl (by omega) (by omega) (tX10_woke_0_ok (21, .ireturn, 1) (List.mem_of_getElem? (i := 11) rfl)) ?_
        have ek : k9_woke r w τ φ = φ := if_neg (by omega)
        exact hq h I W _ (by rw [ek]; exact H) hz zf.rf
theorem z9_beside (hT : k_tys tys cA) {a b o : Int32} (hz : zr zNC cA ad I W O h) (hk : kok τ φ) (H : cS τ φ I W) (hf : 20 ≤ fr) (hlo : 600 ≤ lo) (ho : 0 ≤ o.toInt ∧ o.toInt ≤ 1) (hq : ∀ (g : ch_H) (I1 : zI) (W1 : zW) (v : Int32), cS τ (k9_beside a b o τ φ) I1 W1 → zr zNC cA ad I1 W1 O g → zf zNC ad h g → Q (some (.int v)) g) : ww l D tys A X fr lo mX10_beside Q 0 [(0, .ref (ad 0)), (1, .int a), (2, .int b), (3, .int o)] [] h := by
  have n6 := hk.1.1
  obtain ⟨ga6, pe8, ta6⟩ := hk.2.2.2.1
  obtain ⟨h1, ⟨h21, h22, h23⟩, h3, h4, h5, h6, h7, h8, h9, h10, h11⟩ := id H
  have r0 := h1.1
  refine w_aload_n (List.Mem.head _) (tX10_beside_0_ok (0, .aload_n 0, 1) (List.mem_of_getElem? (i := 0) rfl)) ?_
  refine w_iload_n (List.Mem.tail _ (List.Mem.head _)) (tX10_beside_0_ok (1, .iload_n 1, 1) (List.mem_of_getElem? (i := 1) rfl)) ?_
  refine w_callV (own := 15) (mi := 121) [.int a] [] [(0, .ref (ad 0)), (1, .int a)] rfl (cllw_X10 (253, 0, 121) (List.mem_of_getElem? (i := 19) rfl)) rfl rfl (hz.ob rfl rfl) rfl (by omega) (w_lo (n := 21) rfl (by omega)) (Nat.le_of_ble_eq_true rfl) (Nat.le_of_ble_eq_true rfl) rfl (tX10_beside_0_ok (2, .invokevirtual 253, 3) (List.mem_of_getElem? (i := 2) rfl)) (z_isPlace hT hz r0 n6 h21 ga6 (by omega) (w_sub (n := 21) rfl (by omega)) (fun zv1 ze2 => ?_))
  show ww l D tys A X fr lo mX10_beside Q 5 [(0, .ref (ad 0)), (1, .int a), (2, .int b), (3, .int o)] [.int zv1] h
  unfold isPl at ze2
  refine w_if_eq (tgt := 21) (tX10_beside_0_ok (5, .ifCond .eq 16, 3) (List.mem_of_getElem? (i := 3) rfl)) rfl (fun zb3 => ?_) (fun zb3 => ?_)
  · refine w_iconst (by decide) (tX10_beside_0_ok (21, .iconst 0, 1) (List.mem_of_getElem? (i := 11) rfl)) (fun zv4 ze5 => ?_)
    refine w_zret rfl (by omega) (by omega) (tX10_beside_0_ok (22, .ireturn, 1) (List.mem_of_getElem? (i := 12) rfl)) ?_
    have ek : k9_beside a b o τ φ = φ := if_neg (by unfold isPl; omega)
    exact hq h I W _ (by rw [ek]; exact H) hz zf.rf
  · refine w_aload_n (List.Mem.head _) (tX10_beside_0_ok (8, .aload_n 0, 1) (List.mem_of_getElem? (i := 4) rfl)) ?_
    refine w_iload_n (List.Mem.tail _ (List.Mem.tail _ (List.Mem.head _))) (tX10_beside_0_ok (9, .iload_n 2, 1) (List.mem_of_getElem? (i := 5) rfl)) ?_
    refine w_callV (own := 15) (mi := 121) [.int b] [] [(0, .ref (ad 0)), (1, .int b)] rfl (cllw_X10 (253, 0, 121) (List.mem_of_getElem? (i := 19) rfl)) rfl rfl (hz.ob rfl rfl) rfl (by omega) (w_lo (n := 21) rfl (by omega)) (Nat.le_of_ble_eq_true rfl) (Nat.le_of_ble_eq_true rfl) rfl (tX10_beside_0_ok (10, .invokevirtual 253, 3) (List.mem_of_getElem? (i := 6) rfl)) (z_isPlace hT hz r0 n6 h21 ga6 (by omega) (w_sub (n := 21) rfl (by omega)) (fun zv6 ze7 => ?_))
    show ww l D tys A X fr lo mX10_beside Q 13 [(0, .ref (ad 0)), (1, .int a), (2, .int b), (3, .int o)] [.int zv6] h
    unfold isPl at ze7
    refine w_if_eq (tgt := 21) (tX10_beside_0_ok (13, .ifCond .eq 8, 3) (List.mem_of_getElem? (i := 7) rfl)) rfl (fun zb8 => ?_) (fun zb8 => ?_)
    · refine w_iconst (by decide) (tX10_beside_0_ok (21, .iconst 0, 1) (List.mem_of_getElem? (i := 11) rfl)) (fun zv9 ze10 => ?_)
      refine w_zret rfl (by omega) (by omega) (tX10_beside_0_ok (22, .ireturn, 1) (List.mem_of_getElem? (i := 12) rfl)) ?_
      have ek : k9_beside a b o τ φ = φ := if_neg (by unfold isPl; omega)
      exact hq h I W _ (by rw [ek]; exact H) hz zf.rf
    · refine w_iload_n (List.Mem.tail _ (List.Mem.head _)) (tX10_beside_0_ok (16, .iload_n 1, 1) (List.mem_of_getElem? (i := 8) rfl)) ?_
      refine w_iload_n (List.Mem.tail _ (List.Mem.tail _ (List.Mem.head _))) (tX10_beside_0_ok (17, .iload_n 2, 1) (List.mem_of_getElem? (i := 9) rfl)) ?_
      refine w_icmp_ne (tgt := 23) (tX10_beside_0_ok (18, .if_icmp .ne 5, 3) (List.mem_of_getElem? (i := 10) rfl)) rfl (fun zb11 => ?_) (fun zb11 => ?_)
      · refine w_aload_n (List.Mem.head _) (tX10_beside_0_ok (23, .aload_n 0, 1) (List.mem_of_getElem? (i := 13) rfl)) ?_
        refine z_getR (L1 := 3) (own := 15) (k := 8) hz rfl rfl rfl rfl rfl rfl rfl (by decide) (tX10_beside_0_ok (24, .getfield 42, 3) (List.mem_of_getElem? (i := 14) rfl)) ?_
        refine w_iload_n (List.Mem.tail _ (List.Mem.head _)) (tX10_beside_0_ok (27, .iload_n 1, 1) (List.mem_of_getElem? (i := 15) rfl)) ?_
        refine w_iload_n (List.Mem.tail _ (List.Mem.tail _ (List.Mem.head _))) (tX10_beside_0_ok (28, .iload_n 2, 1) (List.mem_of_getElem? (i := 16) rfl)) ?_
        refine w_iload_n (List.Mem.tail _ (List.Mem.tail _ (List.Mem.tail _ (List.Mem.head _)))) (tX10_beside_0_ok (29, .iload_n 3, 1) (List.mem_of_getElem? (i := 17) rfl)) ?_
        refine w_callV (own := 15) (mi := 24) [.int a, .int b, .int o] [] [(0, .ref (ad 3)), (1, .int a), (2, .int b), (3, .int o)] rfl (cllw_X10 (256, 0, 24) (List.mem_of_getElem? (i := 20) rfl)) rfl rfl (hz.ob rfl rfl) rfl (by omega) (w_lo (n := 23) rfl (by omega)) (Nat.le_of_ble_eq_true rfl) (Nat.le_of_ble_eq_true rfl) rfl (tX10_beside_0_ok (30, .invokevirtual 256, 3) (List.mem_of_getElem? (i := 18) rfl)) (z_join hT (isb := decide (o.toInt = 1)) hz (by omega) (by omega) (by omega) (by rcases (show o.toInt = 0 ∨ o.toInt = 1 by omega) with e | e; exact Or.inl ⟨e, decide_eq_false (by omega)⟩; exact Or.inr ⟨e, decide_eq_true e⟩) (fun g1 I1 y1 y2 y3 y4 => ?_))
        show ww l D tys A X fr lo mX10_beside Q 33 [(0, .ref (ad 0)), (1, .int a), (2, .int b), (3, .int o)] [] g1
        refine w_iconst (by decide) (tX10_beside_0_ok (33, .iconst 1, 1) (List.mem_of_getElem? (i := 19) rfl)) (fun zv12 ze13 => ?_)
        refine w_zret rfl (by omega) (by omega) (tX10_beside_0_ok (34, .ireturn, 1) (List.mem_of_getElem? (i := 20) rfl)) ?_
        have ec : isPl τ.1 τ.2.1 a.toInt ∧ isPl τ.1 τ.2.1 b.toInt ∧ ¬ a.toInt = b.toInt := by
          unfold isPl
          omega
        have ek : k9_beside a b o τ φ = (s2 φ.1 65 (upd (upd (φ.1 65) (18 * a.toInt.toNat + b.toInt.toNat) o) (18 * b.toInt.toNat + a.toInt.toNat) o), φ.2) := if_pos ec
        refine hq g1 I1 W _ ?_ y3 y4
        rw [ek]
        obtain ⟨K9, eK⟩ : ∃ K9 : zI, K9 = s2 φ.1 65 (upd (upd (φ.1 65) (18 * a.toInt.toNat + b.toInt.toNat) o) (18 * b.toInt.toNat + a.toInt.toNat) o) := ⟨_, rfl⟩
        rw [← eK]
        have k_65 := (congrFun eK 65).trans (s2_s _ _ _)
        have k_n : ∀ L, L ≠ 65 → K9 L = φ.1 L := fun L hL => by rw [eK, s2_n hL]
        refine ⟨h1.mv (fun L hL => y2 L (by omega)), ?_, (by show sx _ _ _ _ _ (K9 56) _; rw [k_n 56 (by decide)]; exact h3.mv (fun L a b => y2 L (by omega)) rfl), fun g hg => ?_, fun a9 b9 ha hb => ?_, fun i hi => ?_, fun i hi => ?_, fun r hr => ?_, ?_, ?_, ?_⟩
        · rw [y2 3 (by decide)]
          exact ⟨h21, h22, h23⟩
        · show I1 20 g = K9 59 (12 + g)
          rw [y2 20 (by decide), k_n 59 (by decide)]
          exact h4 g hg
        · show bt9 (I1 21 a9) b9 = decide ((K9 65 (18 * a9 + b9)).toInt = 1)
          rw [y1 a9 b9 ha hb, k_65]
          by_cases e1 : a9 = a.toInt.toNat ∧ b9 = b.toInt.toNat
          · rw [if_pos (Or.inl e1), e1.1, e1.2, upd_n _ _ (by omega), upd_s]
          · by_cases e2 : a9 = b.toInt.toNat ∧ b9 = a.toInt.toNat
            · rw [if_pos (Or.inr e2), e2.1, e2.2, upd_s]
            · rw [if_neg (fun z => z.elim e1 e2), upd_n _ _ (by omega), upd_n _ _ (by omega)]
              exact h5 a9 b9 ha hb
        · show I1 22 i = K9 62 i
          rw [y2 22 (by decide), k_n 62 (by decide)]
          exact h6 i hi
        · show I1 23 i = K9 63 i ∧ I1 24 i = K9 64 i
          rw [y2 23 (by decide), y2 24 (by decide), k_n 63 (by decide), k_n 64 (by decide)]
          exact h7 i hi
        · show I1 5 r = K9 60 r ∧ I1 6 r = K9 61 r
          rw [y2 5 (by decide), y2 6 (by decide), k_n 60 (by decide), k_n 61 (by decide)]
          exact h8 r hr
        · show (I1 0 6).toInt = (K9 50 39).toInt
          rw [y2 0 (by decide), k_n 50 (by decide)]
          exact h9
        · show (K9 50 39).toInt = 1 → (I1 0 7).toInt = (K9 50 35).toInt ∧ sx I1 W 2 τ.1 (K9 50 35).toInt.toNat (K9 58) (φ.2.1 38)
          rw [y2 0 (by decide), k_n 50 (by decide), k_n 58 (by decide)]
          exact fun z => ⟨(h10 z).1, (h10 z).2.mv (fun L a b => y2 L (by omega)) rfl⟩
        · show I1 0 14 = K9 50 7
          rw [y2 0 (by decide), k_n 50 (by decide)]
          exact h11
      · refine w_iconst (by decide) (tX10_beside_0_ok (21, .iconst 0, 1) (List.mem_of_getElem? (i := 11) rfl)) (fun zv14 ze15 => ?_)
        refine w_zret rfl (by omega) (by omega) (tX10_beside_0_ok (22, .ireturn, 1) (List.mem_of_getElem? (i := 12) rfl)) ?_
        have ek : k9_beside a b o τ φ = φ := if_neg (by unfold isPl; omega)
        exact hq h I W _ (by rw [ek]; exact H) hz zf.rf
theorem z9_person (hT : k_tys tys cA) {w p : Int32} (hz : zr zNC cA ad I W O h) (hk : kok τ φ) (H : cS τ φ I W) (hf : 20 ≤ fr) (hlo : 600 ≤ lo) (hq : ∀ (g : ch_H) (I1 : zI) (W1 : zW) (v : Int32), cS (n_person w p τ) (k9_person w p τ φ) I1 W1 → zr zNC cA ad I1 W1 O g → zf zNC ad h g → Q (some (.int v)) g) : ww l D tys A X fr lo mX10_person Q 0 [(0, .ref (ad 0)), (1, .int w), (2, .int p)] [] h := by
  have n6 := hk.1.1
  obtain ⟨ga6, pe8, ta6⟩ := hk.2.2.2.1
  obtain ⟨h1, ⟨h21, h22, h23⟩, h3, h4, h5, h6, h7, h8, h9, h10, h11⟩ := id H
  have r0 := h1.1
  refine w_iload_n (List.Mem.tail _ (List.Mem.head _)) (tX10_person_0_ok (0, .iload_n 1, 1) (List.mem_of_getElem? (i := 0) rfl)) ?_
  refine w_iconst (by decide) (tX10_person_0_ok (1, .iconst 1, 1) (List.mem_of_getElem? (i := 1) rfl)) (fun zv1 ze2 => ?_)
  refine w_icmp_lt (tgt := 31) (tX10_person_0_ok (2, .if_icmp .lt 29, 3) (List.mem_of_getElem? (i := 2) rfl)) rfl (fun zb3 => ?_) (fun zb3 => ?_)
  · refine w_iconst (by decide) (tX10_person_0_ok (31, .iconst (-1), 1) (List.mem_of_getElem? (i := 15) rfl)) (fun zv4 ze5 => ?_)
    refine w_iret rfl (tX10_person_0_ok (32, .ireturn, 1) (List.mem_of_getElem? (i := 16) rfl)) ?_
    have ek : k9_person w p τ φ = φ := if_neg (by unfold isPl; omega)
    have en : n_person w p τ = τ := if_neg (by omega)
    exact hq h I W _ (by rw [ek, en]; exact H) hz zf.rf
  · refine w_iload_n (List.Mem.tail _ (List.Mem.head _)) (tX10_person_0_ok (5, .iload_n 1, 1) (List.mem_of_getElem? (i := 3) rfl)) ?_
    refine w_bipush (by decide) (tX10_person_0_ok (6, .bipush 9, 2) (List.mem_of_getElem? (i := 4) rfl)) (fun zv6 ze7 => ?_)
    refine w_icmp_gt (tgt := 31) (tX10_person_0_ok (8, .if_icmp .gt 23, 3) (List.mem_of_getElem? (i := 5) rfl)) rfl (fun zb8 => ?_) (fun zb8 => ?_)
    · refine w_iconst (by decide) (tX10_person_0_ok (31, .iconst (-1), 1) (List.mem_of_getElem? (i := 15) rfl)) (fun zv9 ze10 => ?_)
      refine w_iret rfl (tX10_person_0_ok (32, .ireturn, 1) (List.mem_of_getElem? (i := 16) rfl)) ?_
      have ek : k9_person w p τ φ = φ := if_neg (by unfold isPl; omega)
      have en : n_person w p τ = τ := if_neg (by omega)
      exact hq h I W _ (by rw [ek, en]; exact H) hz zf.rf
    · refine w_aload_n (List.Mem.head _) (tX10_person_0_ok (11, .aload_n 0, 1) (List.mem_of_getElem? (i := 6) rfl)) ?_
      refine w_iload_n (List.Mem.tail _ (List.Mem.tail _ (List.Mem.head _))) (tX10_person_0_ok (12, .iload_n 2, 1) (List.mem_of_getElem? (i := 7) rfl)) ?_
      refine w_callV (own := 15) (mi := 121) [.int p] [] [(0, .ref (ad 0)), (1, .int p)] rfl (cllw_X10 (253, 0, 121) (List.mem_of_getElem? (i := 19) rfl)) rfl rfl (hz.ob rfl rfl) rfl (by omega) (w_lo (n := 21) rfl (by omega)) (Nat.le_of_ble_eq_true rfl) (Nat.le_of_ble_eq_true rfl) rfl (tX10_person_0_ok (13, .invokevirtual 253, 3) (List.mem_of_getElem? (i := 8) rfl)) (z_isPlace hT hz r0 n6 h21 ga6 (by omega) (w_sub (n := 21) rfl (by omega)) (fun zv11 ze12 => ?_))
      show ww l D tys A X fr lo mX10_person Q 16 [(0, .ref (ad 0)), (1, .int w), (2, .int p)] [.int zv11] h
      unfold isPl at ze12
      refine w_if_eq (tgt := 31) (tX10_person_0_ok (16, .ifCond .eq 15, 3) (List.mem_of_getElem? (i := 9) rfl)) rfl (fun zb13 => ?_) (fun zb13 => ?_)
      · refine w_iconst (by decide) (tX10_person_0_ok (31, .iconst (-1), 1) (List.mem_of_getElem? (i := 15) rfl)) (fun zv14 ze15 => ?_)
        refine w_iret rfl (tX10_person_0_ok (32, .ireturn, 1) (List.mem_of_getElem? (i := 16) rfl)) ?_
        have ek : k9_person w p τ φ = φ := if_neg (by unfold isPl; omega)
        have en : n_person w p τ = τ := if_neg (by omega)
        exact hq h I W _ (by rw [ek, en]; exact H) hz zf.rf
      · refine w_aload_n (List.Mem.head _) (tX10_person_0_ok (19, .aload_n 0, 1) (List.mem_of_getElem? (i := 10) rfl)) ?_
        refine z_getR (L1 := 3) (own := 15) (k := 8) hz rfl rfl rfl rfl rfl rfl rfl (by decide) (tX10_person_0_ok (20, .getfield 42, 3) (List.mem_of_getElem? (i := 11) rfl)) ?_
        refine z_get (f := (I 3)) (own := 15) (k := 3) hz rfl rfl rfl rfl rfl rfl rfl (by decide) (tX10_person_0_ok (23, .getfield 151, 3) (List.mem_of_getElem? (i := 12) rfl)) ?_
        refine w_bipush (by decide) (tX10_person_0_ok (26, .bipush 8, 2) (List.mem_of_getElem? (i := 13) rfl)) (fun zv16 ze17 => ?_)
        refine w_icmp_lt (tgt := 33) (tX10_person_0_ok (28, .if_icmp .lt 5, 3) (List.mem_of_getElem? (i := 14) rfl)) rfl (fun zb18 => ?_) (fun zb18 => ?_)
        · refine w_aload_n (List.Mem.head _) (tX10_person_0_ok (33, .aload_n 0, 1) (List.mem_of_getElem? (i := 17) rfl)) ?_
          refine z_getR (L1 := 3) (own := 15) (k := 8) hz rfl rfl rfl rfl rfl rfl rfl (by decide) (tX10_person_0_ok (34, .getfield 42, 3) (List.mem_of_getElem? (i := 18) rfl)) ?_
          refine z_getR (L1 := 22) (own := 15) (k := 4) hz rfl rfl rfl rfl rfl rfl rfl (by decide) (tX10_person_0_ok (37, .getfield 264, 3) (List.mem_of_getElem? (i := 19) rfl)) ?_
          refine w_aload_n (List.Mem.head _) (tX10_person_0_ok (40, .aload_n 0, 1) (List.mem_of_getElem? (i := 20) rfl)) ?_
          refine z_getR (L1 := 3) (own := 15) (k := 8) hz rfl rfl rfl rfl rfl rfl rfl (by decide) (tX10_person_0_ok (41, .getfield 42, 3) (List.mem_of_getElem? (i := 21) rfl)) ?_
          refine z_get (f := (I 3)) (own := 15) (k := 3) hz rfl rfl rfl rfl rfl rfl rfl (by decide) (tX10_person_0_ok (44, .getfield 151, 3) (List.mem_of_getElem? (i := 22) rfl)) ?_
          refine w_iload_n (List.Mem.tail _ (List.Mem.head _)) (tX10_person_0_ok (47, .iload_n 1, 1) (List.mem_of_getElem? (i := 23) rfl)) ?_
          refine z_iast (f := (I 22)) hT hz rfl rfl rfl (by omega) (by omega) (tX10_person_0_ok (48, .iastore, 1) (List.mem_of_getElem? (i := 24) rfl)) (fun zh19 zI20 zq21 zz22 zf23 => ?_)
          refine w_aload_n (List.Mem.head _) (tX10_person_0_ok (49, .aload_n 0, 1) (List.mem_of_getElem? (i := 25) rfl)) ?_
          refine z_getR (L1 := 100) (own := 15) (k := 3) zz22 rfl rfl rfl rfl rfl rfl rfl (by decide) (tX10_person_0_ok (50, .getfield 29, 3) (List.mem_of_getElem? (i := 26) rfl)) ?_
          refine z_getR (L1 := 105) (own := 15) (k := 4) zz22 rfl rfl rfl rfl rfl rfl rfl (by decide) (tX10_person_0_ok (53, .getfield 265, 3) (List.mem_of_getElem? (i := 27) rfl)) ?_
          refine w_aload_n (List.Mem.head _) (tX10_person_0_ok (56, .aload_n 0, 1) (List.mem_of_getElem? (i := 28) rfl)) ?_
          refine z_getR (L1 := 3) (own := 15) (k := 8) zz22 rfl rfl rfl rfl rfl rfl rfl (by decide) (tX10_person_0_ok (57, .getfield 42, 3) (List.mem_of_getElem? (i := 29) rfl)) ?_
          refine z_get (f := (I 3)) (own := 15) (k := 3) zz22 rfl rfl rfl rfl ((congrFun zq21 3).trans (s2_n (by decide))) rfl rfl (by decide) (tX10_person_0_ok (60, .getfield 151, 3) (List.mem_of_getElem? (i := 30) rfl)) ?_
          refine w_iload_n (List.Mem.tail _ (List.Mem.tail _ (List.Mem.head _))) (tX10_person_0_ok (63, .iload_n 2, 1) (List.mem_of_getElem? (i := 31) rfl)) ?_
          refine z_iast (f := (I 105)) hT zz22 rfl rfl ((congrFun zq21 105).trans (s2_n (by decide))) (by omega) (by omega) (tX10_person_0_ok (64, .iastore, 1) (List.mem_of_getElem? (i := 32) rfl)) (fun zh24 zI25 zq26 zz27 zf28 => ?_)
          refine w_aload_n (List.Mem.head _) (tX10_person_0_ok (65, .aload_n 0, 1) (List.mem_of_getElem? (i := 33) rfl)) ?_
          refine z_getR (L1 := 3) (own := 15) (k := 8) zz27 rfl rfl rfl rfl rfl rfl rfl (by decide) (tX10_person_0_ok (66, .getfield 42, 3) (List.mem_of_getElem? (i := 34) rfl)) ?_
          refine w_dup rfl (tX10_person_0_ok (69, .dup, 1) (List.mem_of_getElem? (i := 35) rfl)) ?_
          refine z_get (f := (I 3)) (own := 15) (k := 3) zz27 rfl rfl rfl rfl (((congrFun zq26 3).trans (s2_n (by decide))).trans ((congrFun zq21 3).trans (s2_n (by decide)))) rfl rfl (by decide) (tX10_person_0_ok (70, .getfield 151, 3) (List.mem_of_getElem? (i := 36) rfl)) ?_
          refine w_iconst (by decide) (tX10_person_0_ok (73, .iconst 1, 1) (List.mem_of_getElem? (i := 37) rfl)) (fun zv29 ze30 => ?_)
          refine w_iadd (by omega) (by omega) (tX10_person_0_ok (74, .iadd, 1) (List.mem_of_getElem? (i := 38) rfl)) (fun zv31 ze32 => ?_)
          refine z_put (f := (I 3)) (own := 15) (k := 3) zz27 rfl rfl rfl rfl (((congrFun zq26 3).trans (s2_n (by decide))).trans ((congrFun zq21 3).trans (s2_n (by decide)))) rfl rfl (by decide) rfl ⟨rfl, rfl⟩ (tX10_person_0_ok (75, .putfield 151, 3) (List.mem_of_getElem? (i := 39) rfl)) (fun zh33 zI34 zq35 zz36 zf37 => ?_)
          refine w_aload_n (List.Mem.head _) (tX10_person_0_ok (78, .aload_n 0, 1) (List.mem_of_getElem? (i := 40) rfl)) ?_
          refine z_getR (L1 := 3) (own := 15) (k := 8) zz36 rfl rfl rfl rfl rfl rfl rfl (by decide) (tX10_person_0_ok (79, .getfield 42, 3) (List.mem_of_getElem? (i := 41) rfl)) ?_
          refine z_get (f := (upd (I 3) 3 zv31)) (own := 15) (k := 3) zz36 rfl rfl rfl rfl ((congrFun zq35 3).trans (s2_s _ _ _)) rfl rfl (by decide) (tX10_person_0_ok (82, .getfield 151, 3) (List.mem_of_getElem? (i := 42) rfl)) ?_
          show ww l D tys A X fr lo mX10_person Q 85 [(0, .ref (ad 0)), (1, .int w), (2, .int p)] [.int zv31] zh33
          refine w_iconst (by decide) (tX10_person_0_ok (85, .iconst 1, 1) (List.mem_of_getElem? (i := 43) rfl)) (fun zv38 ze39 => ?_)
          refine w_isub (by omega) (by omega) (tX10_person_0_ok (86, .isub, 1) (List.mem_of_getElem? (i := 44) rfl)) (fun zv40 ze41 => ?_)
          refine w_iret rfl (tX10_person_0_ok (87, .ireturn, 1) (List.mem_of_getElem? (i := 45) rfl)) ?_
          have ec : 1 ≤ w.toInt ∧ w.toInt ≤ 9 ∧ isPl τ.1 τ.2.1 p.toInt ∧ τ.2.2.1 < 8 := by
            unfold isPl
            omega
          have ek : k9_person w p τ φ = (s2 (s2 φ.1 62 (upd (φ.1 62) τ.2.2.1 w)) 56 (upd (φ.1 56) (30 + τ.2.2.1) p), φ.2) := if_pos ec
          have en : n_person w p τ = (τ.1, τ.2.1, τ.2.2.1 + 1, τ.2.2.2) := if_pos ec
          have i1 : ((I 3) 3).toInt.toNat = τ.2.2.1 := by omega
          have i2 : ((I 3) 3).toInt.toNat = τ.2.2.1 := by omega
          have c22 := ((((congrFun zq35 22).trans (s2_n (by decide))).trans ((congrFun zq26 22).trans (s2_n (by decide)))).trans ((congrFun zq21 22).trans (s2_s _ _ _)))
          have c5 := (((congrFun zq35 105).trans (s2_n (by decide))).trans ((congrFun zq26 105).trans (s2_s _ _ _)))
          have c3 := ((congrFun zq35 3).trans (s2_s _ _ _))
          rw [i1] at c22
          rw [i2] at c5
          have o : ∀ L, L ≠ 22 → L ≠ 105 → L ≠ 3 → zI34 L = I L := fun L n1 n2 n3 => by rw [zq35, s2_n n3, zq26, s2_n n2, zq21, s2_n n1]
          refine hq zh33 zI34 W _ ?_ zz36 ((zf23.tr zf28).tr zf37)
          rw [ek, en]
          obtain ⟨K9, eK⟩ : ∃ K9 : zI, K9 = s2 (s2 φ.1 62 (upd (φ.1 62) τ.2.2.1 w)) 56 (upd (φ.1 56) (30 + τ.2.2.1) p) := ⟨_, rfl⟩
          rw [← eK]
          have k_56 := (congrFun eK 56).trans (s2_s _ _ _)
          have k_62 := ((congrFun eK 62).trans (s2_n (by decide))).trans (s2_s _ _ _)
          have k_n : ∀ L, L ≠ 56 ∧ L ≠ 62 → K9 L = φ.1 L := fun L hL => by rw [eK, s2_n hL.1, s2_n hL.2]
          refine ⟨h1.mv (fun L hL => o L (by omega) (by omega) (by omega)), ⟨?_, ?_, ?_⟩, ?_, fun g hg => ?_, fun a b ha hb => ?_, fun i hi => ?_, fun i hi => ?_, fun r hr => ?_, ?_, ?_, ?_⟩
          · show (zI34 3 0).toInt = _
            rw [c3, upd_n _ _ (by decide)]
            exact h21
          · show (zI34 3 3).toInt = ((τ.2.2.1 + 1 : Nat) : Int)
            rw [c3, upd_s]
            omega
          · show (zI34 3 5).toInt = _
            rw [c3, upd_n _ _ (by decide)]
            exact h23
          · show sx zI34 W 0 τ.1 (τ.2.2.1 + 1) (K9 56) (φ.2.1 36)
            rw [k_56]
            exact h3.at_ (j := 0) n6 c5 (by omega) (fun k h1 h2 => by omega) (fun L a b c => o L (by omega) c (by omega))
          · show zI34 20 g = K9 59 (12 + g)
            rw [o 20 (by decide) (by decide) (by decide), k_n 59 (by decide)]
            exact h4 g hg
          · show bt9 (zI34 21 a) b = decide ((K9 65 (18 * a + b)).toInt = 1)
            rw [o 21 (by decide) (by decide) (by decide), k_n 65 (by decide)]
            exact h5 a b ha hb
          · show zI34 22 i = K9 62 i
            have hi : i < τ.2.2.1 + 1 := hi
            rw [c22, k_62]
            by_cases e : i = τ.2.2.1
            · subst e
              rw [upd_s, upd_s]
            · rw [upd_n _ _ e, upd_n _ _ e]
              exact h6 i (by omega)
          · show zI34 23 i = K9 63 i ∧ zI34 24 i = K9 64 i
            rw [o 23 (by decide) (by decide) (by decide), o 24 (by decide) (by decide) (by decide), k_n 63 (by decide), k_n 64 (by decide)]
            exact h7 i hi
          · show zI34 5 r = K9 60 r ∧ zI34 6 r = K9 61 r
            rw [o 5 (by decide) (by decide) (by decide), o 6 (by decide) (by decide) (by decide), k_n 60 (by decide), k_n 61 (by decide)]
            exact h8 r hr
          · show (zI34 0 6).toInt = (K9 50 39).toInt
            rw [o 0 (by decide) (by decide) (by decide), k_n 50 (by decide)]
            exact h9
          · show (K9 50 39).toInt = 1 → (zI34 0 7).toInt = (K9 50 35).toInt ∧ sx zI34 W 2 τ.1 (K9 50 35).toInt.toNat (K9 58) (φ.2.1 38)
            rw [o 0 (by decide) (by decide) (by decide), k_n 50 (by decide), k_n 58 (by decide)]
            exact fun z => ⟨(h10 z).1, (h10 z).2.mv (fun L a b => o L (by omega) (by omega) (by omega)) rfl⟩
          · show zI34 0 14 = K9 50 7
            rw [o 0 (by decide) (by decide) (by decide), k_n 50 (by decide)]
            exact h11
        · refine w_iconst (by decide) (tX10_person_0_ok (31, .iconst (-1), 1) (List.mem_of_getElem? (i := 15) rfl)) (fun zv42 ze43 => ?_)
          refine w_iret rfl (tX10_person_0_ok (32, .ireturn, 1) (List.mem_of_getElem? (i := 16) rfl)) ?_
          have ek : k9_person w p τ φ = φ := if_neg (by unfold isPl; omega)
          have en : n_person w p τ = τ := if_neg (by omega)
          exact hq h I W _ (by rw [ek, en]; exact H) hz zf.rf
theorem z9_task (hT : k_tys tys cA) {p q : Int32} (hz : zr zNC cA ad I W O h) (hk : kok τ φ) (H : cS τ φ I W) (hf : 20 ≤ fr) (hlo : 600 ≤ lo) (hq : ∀ (g : ch_H) (I1 : zI) (W1 : zW) (v : Int32), cS (n_task p q τ) (k9_task p q τ φ) I1 W1 → zr zNC cA ad I1 W1 O g → zf zNC ad h g → Q (some (.int v)) g) : ww l D tys A X fr lo mX10_task Q 0 [(0, .ref (ad 0)), (1, .int p), (2, .int q)] [] h := by
  have n6 := hk.1.1
  obtain ⟨ga6, pe8, ta6⟩ := hk.2.2.2.1
  obtain ⟨h1, ⟨h21, h22, h23⟩, h3, h4, h5, h6, h7, h8, h9, h10, h11⟩ := id H
  have r0 := h1.1
  refine w_aload_n (List.Mem.head _) (tX10_task_0_ok (0, .aload_n 0, 1) (List.mem_of_getElem? (i := 0) rfl)) ?_
  refine w_iload_n (List.Mem.tail _ (List.Mem.head _)) (tX10_task_0_ok (1, .iload_n 1, 1) (List.mem_of_getElem? (i := 1) rfl)) ?_
  refine w_callV (own := 15) (mi := 120) [.int p] [] [(0, .ref (ad 0)), (1, .int p)] rfl (cllw_X10 (268, 0, 120) (List.mem_of_getElem? (i := 22) rfl)) rfl rfl (hz.ob rfl rfl) rfl (by omega) (w_lo (n := 21) rfl (by omega)) (Nat.le_of_ble_eq_true rfl) (Nat.le_of_ble_eq_true rfl) rfl (tX10_task_0_ok (2, .invokevirtual 268, 3) (List.mem_of_getElem? (i := 2) rfl)) (z_isPerson hT hz h22 (fun zv1 ze2 => ?_))
  show ww l D tys A X fr lo mX10_task Q 5 [(0, .ref (ad 0)), (1, .int p), (2, .int q)] [.int zv1] h
  refine w_if_eq (tgt := 28) (tX10_task_0_ok (5, .ifCond .eq 23, 3) (List.mem_of_getElem? (i := 3) rfl)) rfl (fun zb3 => ?_) (fun zb3 => ?_)
  · refine w_iconst (by decide) (tX10_task_0_ok (28, .iconst (-1), 1) (List.mem_of_getElem? (i := 13) rfl)) (fun zv4 ze5 => ?_)
    refine w_iret rfl (tX10_task_0_ok (29, .ireturn, 1) (List.mem_of_getElem? (i := 14) rfl)) ?_
    have ek : k9_task p q τ φ = φ := if_neg (by unfold isPl; omega)
    have en : n_task p q τ = τ := if_neg (by omega)
    exact hq h I W _ (by rw [ek, en]; exact H) hz zf.rf
  · refine w_aload_n (List.Mem.head _) (tX10_task_0_ok (8, .aload_n 0, 1) (List.mem_of_getElem? (i := 4) rfl)) ?_
    refine w_iload_n (List.Mem.tail _ (List.Mem.tail _ (List.Mem.head _))) (tX10_task_0_ok (9, .iload_n 2, 1) (List.mem_of_getElem? (i := 5) rfl)) ?_
    refine w_callV (own := 15) (mi := 121) [.int q] [] [(0, .ref (ad 0)), (1, .int q)] rfl (cllw_X10 (253, 0, 121) (List.mem_of_getElem? (i := 19) rfl)) rfl rfl (hz.ob rfl rfl) rfl (by omega) (w_lo (n := 21) rfl (by omega)) (Nat.le_of_ble_eq_true rfl) (Nat.le_of_ble_eq_true rfl) rfl (tX10_task_0_ok (10, .invokevirtual 253, 3) (List.mem_of_getElem? (i := 6) rfl)) (z_isPlace hT hz r0 n6 h21 ga6 (by omega) (w_sub (n := 21) rfl (by omega)) (fun zv6 ze7 => ?_))
    show ww l D tys A X fr lo mX10_task Q 13 [(0, .ref (ad 0)), (1, .int p), (2, .int q)] [.int zv6] h
    unfold isPl at ze7
    refine w_if_eq (tgt := 28) (tX10_task_0_ok (13, .ifCond .eq 15, 3) (List.mem_of_getElem? (i := 7) rfl)) rfl (fun zb8 => ?_) (fun zb8 => ?_)
    · refine w_iconst (by decide) (tX10_task_0_ok (28, .iconst (-1), 1) (List.mem_of_getElem? (i := 13) rfl)) (fun zv9 ze10 => ?_)
      refine w_iret rfl (tX10_task_0_ok (29, .ireturn, 1) (List.mem_of_getElem? (i := 14) rfl)) ?_
      have ek : k9_task p q τ φ = φ := if_neg (by unfold isPl; omega)
      have en : n_task p q τ = τ := if_neg (by omega)
      exact hq h I W _ (by rw [ek, en]; exact H) hz zf.rf
    · refine w_aload_n (List.Mem.head _) (tX10_task_0_ok (16, .aload_n 0, 1) (List.mem_of_getElem? (i := 8) rfl)) ?_
      refine z_getR (L1 := 3) (own := 15) (k := 8) hz rfl rfl rfl rfl rfl rfl rfl (by decide) (tX10_task_0_ok (17, .getfield 42, 3) (List.mem_of_getElem? (i := 9) rfl)) ?_
      refine z_get (f := (I 3)) (own := 15) (k := 5) hz rfl rfl rfl rfl rfl rfl rfl (by decide) (tX10_task_0_ok (20, .getfield 299, 3) (List.mem_of_getElem? (i := 10) rfl)) ?_
      refine w_bipush (by decide) (tX10_task_0_ok (23, .bipush 6, 2) (List.mem_of_getElem? (i := 11) rfl)) (fun zv11 ze12 => ?_)
      refine w_icmp_lt (tgt := 30) (tX10_task_0_ok (25, .if_icmp .lt 5, 3) (List.mem_of_getElem? (i := 12) rfl)) rfl (fun zb13 => ?_) (fun zb13 => ?_)
      · refine w_aload_n (List.Mem.head _) (tX10_task_0_ok (30, .aload_n 0, 1) (List.mem_of_getElem? (i := 15) rfl)) ?_
        refine z_getR (L1 := 3) (own := 15) (k := 8) hz rfl rfl rfl rfl rfl rfl rfl (by decide) (tX10_task_0_ok (31, .getfield 42, 3) (List.mem_of_getElem? (i := 16) rfl)) ?_
        refine z_getR (L1 := 23) (own := 15) (k := 6) hz rfl rfl rfl rfl rfl rfl rfl (by decide) (tX10_task_0_ok (34, .getfield 302, 3) (List.mem_of_getElem? (i := 17) rfl)) ?_
        refine w_aload_n (List.Mem.head _) (tX10_task_0_ok (37, .aload_n 0, 1) (List.mem_of_getElem? (i := 18) rfl)) ?_
        refine z_getR (L1 := 3) (own := 15) (k := 8) hz rfl rfl rfl rfl rfl rfl rfl (by decide) (tX10_task_0_ok (38, .getfield 42, 3) (List.mem_of_getElem? (i := 19) rfl)) ?_
        refine z_get (f := (I 3)) (own := 15) (k := 5) hz rfl rfl rfl rfl rfl rfl rfl (by decide) (tX10_task_0_ok (41, .getfield 299, 3) (List.mem_of_getElem? (i := 20) rfl)) ?_
        refine w_iload_n (List.Mem.tail _ (List.Mem.head _)) (tX10_task_0_ok (44, .iload_n 1, 1) (List.mem_of_getElem? (i := 21) rfl)) ?_
        refine z_iast (f := (I 23)) hT hz rfl rfl rfl (by omega) (by omega) (tX10_task_0_ok (45, .iastore, 1) (List.mem_of_getElem? (i := 22) rfl)) (fun zh14 zI15 zq16 zz17 zf18 => ?_)
        refine w_aload_n (List.Mem.head _) (tX10_task_0_ok (46, .aload_n 0, 1) (List.mem_of_getElem? (i := 23) rfl)) ?_
        refine z_getR (L1 := 3) (own := 15) (k := 8) zz17 rfl rfl rfl rfl rfl rfl rfl (by decide) (tX10_task_0_ok (47, .getfield 42, 3) (List.mem_of_getElem? (i := 24) rfl)) ?_
        refine z_getR (L1 := 24) (own := 15) (k := 7) zz17 rfl rfl rfl rfl rfl rfl rfl (by decide) (tX10_task_0_ok (50, .getfield 305, 3) (List.mem_of_getElem? (i := 25) rfl)) ?_
        refine w_aload_n (List.Mem.head _) (tX10_task_0_ok (53, .aload_n 0, 1) (List.mem_of_getElem? (i := 26) rfl)) ?_
        refine z_getR (L1 := 3) (own := 15) (k := 8) zz17 rfl rfl rfl rfl rfl rfl rfl (by decide) (tX10_task_0_ok (54, .getfield 42, 3) (List.mem_of_getElem? (i := 27) rfl)) ?_
        refine z_get (f := (I 3)) (own := 15) (k := 5) zz17 rfl rfl rfl rfl ((congrFun zq16 3).trans (s2_n (by decide))) rfl rfl (by decide) (tX10_task_0_ok (57, .getfield 299, 3) (List.mem_of_getElem? (i := 28) rfl)) ?_
        refine w_iload_n (List.Mem.tail _ (List.Mem.tail _ (List.Mem.head _))) (tX10_task_0_ok (60, .iload_n 2, 1) (List.mem_of_getElem? (i := 29) rfl)) ?_
        refine z_iast (f := (I 24)) hT zz17 rfl rfl ((congrFun zq16 24).trans (s2_n (by decide))) (by omega) (by omega) (tX10_task_0_ok (61, .iastore, 1) (List.mem_of_getElem? (i := 30) rfl)) (fun zh19 zI20 zq21 zz22 zf23 => ?_)
        refine w_aload_n (List.Mem.head _) (tX10_task_0_ok (62, .aload_n 0, 1) (List.mem_of_getElem? (i := 31) rfl)) ?_
        refine z_getR (L1 := 3) (own := 15) (k := 8) zz22 rfl rfl rfl rfl rfl rfl rfl (by decide) (tX10_task_0_ok (63, .getfield 42, 3) (List.mem_of_getElem? (i := 32) rfl)) ?_
        refine w_dup rfl (tX10_task_0_ok (66, .dup, 1) (List.mem_of_getElem? (i := 33) rfl)) ?_
        refine z_get (f := (I 3)) (own := 15) (k := 5) zz22 rfl rfl rfl rfl (((congrFun zq21 3).trans (s2_n (by decide))).trans ((congrFun zq16 3).trans (s2_n (by decide)))) rfl rfl (by decide) (tX10_task_0_ok (67, .getfield 299, 3) (List.mem_of_getElem? (i := 34) rfl)) ?_
        refine w_iconst (by decide) (tX10_task_0_ok (70, .iconst 1, 1) (List.mem_of_getElem? (i := 35) rfl)) (fun zv24 ze25 => ?_)
        refine w_iadd (by omega) (by omega) (tX10_task_0_ok (71, .iadd, 1) (List.mem_of_getElem? (i := 36) rfl)) (fun zv26 ze27 => ?_)
        refine z_put (f := (I 3)) (own := 15) (k := 5) zz22 rfl rfl rfl rfl (((congrFun zq21 3).trans (s2_n (by decide))).trans ((congrFun zq16 3).trans (s2_n (by decide)))) rfl rfl (by decide) rfl ⟨rfl, rfl⟩ (tX10_task_0_ok (72, .putfield 299, 3) (List.mem_of_getElem? (i := 37) rfl)) (fun zh28 zI29 zq30 zz31 zf32 => ?_)
        refine w_aload_n (List.Mem.head _) (tX10_task_0_ok (75, .aload_n 0, 1) (List.mem_of_getElem? (i := 38) rfl)) ?_
        refine z_getR (L1 := 3) (own := 15) (k := 8) zz31 rfl rfl rfl rfl rfl rfl rfl (by decide) (tX10_task_0_ok (76, .getfield 42, 3) (List.mem_of_getElem? (i := 39) rfl)) ?_
        refine z_get (f := (upd (I 3) 5 zv26)) (own := 15) (k := 5) zz31 rfl rfl rfl rfl ((congrFun zq30 3).trans (s2_s _ _ _)) rfl rfl (by decide) (tX10_task_0_ok (79, .getfield 299, 3) (List.mem_of_getElem? (i := 40) rfl)) ?_
        show ww l D tys A X fr lo mX10_task Q 82 [(0, .ref (ad 0)), (1, .int p), (2, .int q)] [.int zv26] zh28
        refine w_iret rfl (tX10_task_0_ok (82, .ireturn, 1) (List.mem_of_getElem? (i := 41) rfl)) ?_
        have ec : 0 ≤ p.toInt ∧ p.toInt < (τ.2.2.1 : Int) ∧ isPl τ.1 τ.2.1 q.toInt ∧ τ.2.2.2 < 6 := by
          unfold isPl
          omega
        have ek : k9_task p q τ φ = (s2 (s2 φ.1 63 (upd (φ.1 63) τ.2.2.2 p)) 64 (upd (φ.1 64) τ.2.2.2 q), φ.2) := if_pos ec
        have en : n_task p q τ = (τ.1, τ.2.1, τ.2.2.1, τ.2.2.2 + 1) := if_pos ec
        have i1 : ((I 3) 5).toInt.toNat = τ.2.2.2 := by omega
        have i2 : ((I 3) 5).toInt.toNat = τ.2.2.2 := by omega
        have c23 := ((((congrFun zq30 23).trans (s2_n (by decide))).trans ((congrFun zq21 23).trans (s2_n (by decide)))).trans ((congrFun zq16 23).trans (s2_s _ _ _)))
        have c24 := (((congrFun zq30 24).trans (s2_n (by decide))).trans ((congrFun zq21 24).trans (s2_s _ _ _)))
        have c3 := ((congrFun zq30 3).trans (s2_s _ _ _))
        rw [i1] at c23
        rw [i2] at c24
        have o : ∀ L, L ≠ 23 → L ≠ 24 → L ≠ 3 → zI29 L = I L := fun L n1 n2 n3 => by rw [zq30, s2_n n3, zq21, s2_n n2, zq16, s2_n n1]
        refine hq zh28 zI29 W _ ?_ zz31 ((zf18.tr zf23).tr zf32)
        rw [ek, en]
        obtain ⟨K9, eK⟩ : ∃ K9 : zI, K9 = s2 (s2 φ.1 63 (upd (φ.1 63) τ.2.2.2 p)) 64 (upd (φ.1 64) τ.2.2.2 q) := ⟨_, rfl⟩
        rw [← eK]
        have k_64 := (congrFun eK 64).trans (s2_s _ _ _)
        have k_63 := ((congrFun eK 63).trans (s2_n (by decide))).trans (s2_s _ _ _)
        have k_n : ∀ L, L ≠ 64 ∧ L ≠ 63 → K9 L = φ.1 L := fun L hL => by rw [eK, s2_n hL.1, s2_n hL.2]
        refine ⟨h1.mv (fun L hL => o L (by omega) (by omega) (by omega)), ⟨?_, ?_, ?_⟩, ?_, fun g hg => ?_, fun a b ha hb => ?_, fun i hi => ?_, fun i hi => ?_, fun r hr => ?_, ?_, ?_, ?_⟩
        · show (zI29 3 0).toInt = _
          rw [c3, upd_n _ _ (by decide)]
          exact h21
        · show (zI29 3 3).toInt = _
          rw [c3, upd_n _ _ (by decide)]
          exact h22
        · show (zI29 3 5).toInt = ((τ.2.2.2 + 1 : Nat) : Int)
          rw [c3, upd_s]
          omega
        · show sx zI29 W 0 τ.1 τ.2.2.1 (K9 56) (φ.2.1 36)
          rw [k_n 56 (by decide)]
          exact h3.mv (fun L a b => o L (by omega) (by omega) (by omega)) rfl
        · show zI29 20 g = K9 59 (12 + g)
          rw [o 20 (by decide) (by decide) (by decide), k_n 59 (by decide)]
          exact h4 g hg
        · show bt9 (zI29 21 a) b = decide ((K9 65 (18 * a + b)).toInt = 1)
          rw [o 21 (by decide) (by decide) (by decide), k_n 65 (by decide)]
          exact h5 a b ha hb
        · show zI29 22 i = K9 62 i
          rw [o 22 (by decide) (by decide) (by decide), k_n 62 (by decide)]
          exact h6 i hi
        · show zI29 23 i = K9 63 i ∧ zI29 24 i = K9 64 i
          have hi : i < τ.2.2.2 + 1 := hi
          rw [c23, c24, k_63, k_64]
          by_cases e : i = τ.2.2.2
          · subst e
            rw [upd_s, upd_s, upd_s, upd_s]
            exact ⟨rfl, rfl⟩
          · rw [upd_n _ _ e, upd_n _ _ e, upd_n _ _ e, upd_n _ _ e]
            exact h7 i (by omega)
        · show zI29 5 r = K9 60 r ∧ zI29 6 r = K9 61 r
          rw [o 5 (by decide) (by decide) (by decide), o 6 (by decide) (by decide) (by decide), k_n 60 (by decide), k_n 61 (by decide)]
          exact h8 r hr
        · show (zI29 0 6).toInt = (K9 50 39).toInt
          rw [o 0 (by decide) (by decide) (by decide), k_n 50 (by decide)]
          exact h9
        · show (K9 50 39).toInt = 1 → (zI29 0 7).toInt = (K9 50 35).toInt ∧ sx zI29 W 2 τ.1 (K9 50 35).toInt.toNat (K9 58) (φ.2.1 38)
          rw [o 0 (by decide) (by decide) (by decide), k_n 50 (by decide), k_n 58 (by decide)]
          exact fun z => ⟨(h10 z).1, (h10 z).2.mv (fun L a b => o L (by omega) (by omega) (by omega)) rfl⟩
        · show zI29 0 14 = K9 50 7
          rw [o 0 (by decide) (by decide) (by decide), k_n 50 (by decide)]
          exact h11
      · refine w_iconst (by decide) (tX10_task_0_ok (28, .iconst (-1), 1) (List.mem_of_getElem? (i := 13) rfl)) (fun zv33 ze34 => ?_)
        refine w_iret rfl (tX10_task_0_ok (29, .ireturn, 1) (List.mem_of_getElem? (i := 14) rfl)) ?_
        have ek : k9_task p q τ φ = φ := if_neg (by unfold isPl; omega)
        have en : n_task p q τ = τ := if_neg (by omega)
        exact hq h I W _ (by rw [ek, en]; exact H) hz zf.rf
theorem z9_step (hT : k_tys tys cA) {p q : Int32} (hz : zr zNC cA ad I W O h) (hk : kok τ φ) (H : cS τ φ I W) (hf : 20 ≤ fr) (hlo : 600 ≤ lo) (hq : ∀ (g : ch_H) (I1 : zI) (W1 : zW) (v : Int32), (((0 ≤ p.toInt ∧ p.toInt < (τ.2.2.1 : Int)) ∧ isPl τ.1 τ.2.1 q.toInt ∧ BSK φ.1 (φ.1 56 (30 + p.toInt.toNat)).toInt.toNat q.toInt.toNat = true ∧ hP9 φ.2.2.1 (φ.1 56) (GK φ.1) (φ.1 56 (30 + p.toInt.toNat)).toInt.toNat = hP9 φ.2.2.1 (φ.1 56) (GK φ.1) q.toInt.toNat) ∧ v.toInt = 1 ∨ ¬ ((0 ≤ p.toInt ∧ p.toInt < (τ.2.2.1 : Int)) ∧ isPl τ.1 τ.2.1 q.toInt ∧ BSK φ.1 (φ.1 56 (30 + p.toInt.toNat)).toInt.toNat q.toInt.toNat = true ∧ hP9 φ.2.2.1 (φ.1 56) (GK φ.1) (φ.1 56 (30 + p.toInt.toNat)).toInt.toNat = hP9 φ.2.2.1 (φ.1 56) (GK φ.1) q.toInt.toNat) ∧ v.toInt = 0) → cS τ (k9_step p q τ φ) I1 W1 → zr zNC cA ad I1 W1 O g → zf zNC ad h g → Q (some (.int v)) g) : ww l D tys A X fr lo mX10_step Q 0 [(0, .ref (ad 0)), (1, .int p), (2, .int q)] [] h := by
  have n6 := hk.1.1
  obtain ⟨ga6, pe8, ta6⟩ := hk.2.2.2.1
  obtain ⟨h1, ⟨h21, h22, h23⟩, h3, h4, h5, h6, h7, h8, h9, h10, h11⟩ := id H
  have r0 := h1.1
  refine w_aload_n (List.Mem.head _) (tX10_step_0_ok (0, .aload_n 0, 1) (List.mem_of_getElem? (i := 0) rfl)) ?_
  refine w_iload_n (List.Mem.tail _ (List.Mem.head _)) (tX10_step_0_ok (1, .iload_n 1, 1) (List.mem_of_getElem? (i := 1) rfl)) ?_
  refine w_callV (own := 15) (mi := 120) [.int p] [] [(0, .ref (ad 0)), (1, .int p)] rfl (cllw_X10 (268, 0, 120) (List.mem_of_getElem? (i := 22) rfl)) rfl rfl (hz.ob rfl rfl) rfl (by omega) (w_lo (n := 21) rfl (by omega)) (Nat.le_of_ble_eq_true rfl) (Nat.le_of_ble_eq_true rfl) rfl (tX10_step_0_ok (2, .invokevirtual 268, 3) (List.mem_of_getElem? (i := 2) rfl)) (z_isPerson hT hz h22 (fun zv1 ze2 => ?_))
  show ww l D tys A X fr lo mX10_step Q 5 [(0, .ref (ad 0)), (1, .int p), (2, .int q)] [.int zv1] h
  refine w_if_eq (tgt := 16) (tX10_step_0_ok (5, .ifCond .eq 11, 3) (List.mem_of_getElem? (i := 3) rfl)) rfl (fun zb3 => ?_) (fun zb3 => ?_)
  · refine w_iconst (by decide) (tX10_step_0_ok (16, .iconst 0, 1) (List.mem_of_getElem? (i := 8) rfl)) (fun zv4 ze5 => ?_)
    refine w_zret rfl (by omega) (by omega) (tX10_step_0_ok (17, .ireturn, 1) (List.mem_of_getElem? (i := 9) rfl)) ?_
    have ec : ¬ ((0 ≤ p.toInt ∧ p.toInt < (τ.2.2.1 : Int)) ∧ isPl τ.1 τ.2.1 q.toInt ∧ BSK φ.1 (φ.1 56 (30 + p.toInt.toNat)).toInt.toNat q.toInt.toNat = true ∧ hP9 φ.2.2.1 (φ.1 56) (GK φ.1) (φ.1 56 (30 + p.toInt.toNat)).toInt.toNat = hP9 φ.2.2.1 (φ.1 56) (GK φ.1) q.toInt.toNat) := by
      unfold isPl
      intro z
      omega
    have ek : k9_step p q τ φ = φ := if_neg ec
    exact hq h I W _ (Or.inr ⟨ec, by omega⟩) (by rw [ek]; exact H) hz zf.rf
  · refine w_aload_n (List.Mem.head _) (tX10_step_0_ok (8, .aload_n 0, 1) (List.mem_of_getElem? (i := 4) rfl)) ?_
    refine w_iload_n (List.Mem.tail _ (List.Mem.tail _ (List.Mem.head _))) (tX10_step_0_ok (9, .iload_n 2, 1) (List.mem_of_getElem? (i := 5) rfl)) ?_
    refine w_callV (own := 15) (mi := 121) [.int q] [] [(0, .ref (ad 0)), (1, .int q)] rfl (cllw_X10 (253, 0, 121) (List.mem_of_getElem? (i := 19) rfl)) rfl rfl (hz.ob rfl rfl) rfl (by omega) (w_lo (n := 21) rfl (by omega)) (Nat.le_of_ble_eq_true rfl) (Nat.le_of_ble_eq_true rfl) rfl (tX10_step_0_ok (10, .invokevirtual 253, 3) (List.mem_of_getElem? (i := 6) rfl)) (z_isPlace hT hz r0 n6 h21 ga6 (by omega) (w_sub (n := 21) rfl (by omega)) (fun zv6 ze7 => ?_))
    show ww l D tys A X fr lo mX10_step Q 13 [(0, .ref (ad 0)), (1, .int p), (2, .int q)] [.int zv6] h
    unfold isPl at ze7
    refine w_if_ne (tgt := 18) (tX10_step_0_ok (13, .ifCond .ne 5, 3) (List.mem_of_getElem? (i := 7) rfl)) rfl (fun zb8 => ?_) (fun zb8 => ?_)
    · refine w_aload_n (List.Mem.head _) (tX10_step_0_ok (18, .aload_n 0, 1) (List.mem_of_getElem? (i := 10) rfl)) ?_
      refine z_getR (L1 := 4) (own := 15) (k := 9) hz rfl rfl rfl rfl rfl rfl rfl (by decide) (tX10_step_0_ok (19, .getfield 49, 3) (List.mem_of_getElem? (i := 11) rfl)) ?_
      refine w_aload_n (List.Mem.head _) (tX10_step_0_ok (22, .aload_n 0, 1) (List.mem_of_getElem? (i := 12) rfl)) ?_
      refine z_getR (L1 := 2) (own := 15) (k := 1) hz rfl rfl rfl rfl rfl rfl rfl (by decide) (tX10_step_0_ok (23, .getfield 19, 3) (List.mem_of_getElem? (i := 13) rfl)) ?_
      refine w_aload_n (List.Mem.head _) (tX10_step_0_ok (26, .aload_n 0, 1) (List.mem_of_getElem? (i := 14) rfl)) ?_
      refine z_getR (L1 := 100) (own := 15) (k := 3) hz rfl rfl rfl rfl rfl rfl rfl (by decide) (tX10_step_0_ok (27, .getfield 29, 3) (List.mem_of_getElem? (i := 15) rfl)) ?_
      refine w_aload_n (List.Mem.head _) (tX10_step_0_ok (30, .aload_n 0, 1) (List.mem_of_getElem? (i := 16) rfl)) ?_
      refine z_getR (L1 := 3) (own := 15) (k := 8) hz rfl rfl rfl rfl rfl rfl rfl (by decide) (tX10_step_0_ok (31, .getfield 42, 3) (List.mem_of_getElem? (i := 17) rfl)) ?_
      refine w_aload_n (List.Mem.head _) (tX10_step_0_ok (34, .aload_n 0, 1) (List.mem_of_getElem? (i := 18) rfl)) ?_
      refine z_getR (L1 := 100) (own := 15) (k := 3) hz rfl rfl rfl rfl rfl rfl rfl (by decide) (tX10_step_0_ok (35, .getfield 29, 3) (List.mem_of_getElem? (i := 19) rfl)) ?_
      refine z_getR (L1 := 105) (own := 15) (k := 4) hz rfl rfl rfl rfl rfl rfl rfl (by decide) (tX10_step_0_ok (38, .getfield 265, 3) (List.mem_of_getElem? (i := 20) rfl)) ?_
      refine w_iload_n (List.Mem.tail _ (List.Mem.head _)) (tX10_step_0_ok (41, .iload_n 1, 1) (List.mem_of_getElem? (i := 21) rfl)) ?_
      refine z_iald (f := (I 105)) hT hz rfl rfl rfl (by omega) (by omega) (tX10_step_0_ok (42, .iaload, 1) (List.mem_of_getElem? (i := 22) rfl)) (fun zv9 zu10 => ?_)
      have ze11 : zv9.toInt = ((I 105) p.toInt.toNat).toInt := congrArg _ zu10
      refine w_iload_n (List.Mem.tail _ (List.Mem.tail _ (List.Mem.head _))) (tX10_step_0_ok (43, .iload_n 2, 1) (List.mem_of_getElem? (i := 23) rfl)) ?_
      have ea : zv9 = φ.1 56 (30 + p.toInt.toNat) := by rw [zu10]; exact h3.2.2.1 _ (by omega)
      have pa := hk.2.1.2.2.2.2 p.toInt.toNat (by omega)
      unfold isPl at pa
      rw [← ea] at pa
      refine w_callV (own := 15) (mi := 93) [.ref (ad 2), .ref (ad 100), .ref (ad 3), .int zv9, .int q] [] [(0, .ref (ad 4)), (1, .ref (ad 2)), (2, .ref (ad 100)), (3, .ref (ad 3)), (4, .int zv9), (5, .int q)] rfl (cllw_X10 (260, 0, 93) (List.mem_of_getElem? (i := 21) rfl)) rfl rfl (hz.ob rfl rfl) rfl (by omega) (w_lo (n := 25) rfl (by omega)) (Nat.le_of_ble_eq_true rfl) (Nat.le_of_ble_eq_true rfl) rfl (tX10_step_0_ok (44, .invokevirtual 260, 3) (List.mem_of_getElem? (i := 24) rfl)) (z_meeting hT (j := 0) (by decide) (T := φ.1 56) (GH := GK φ.1) (BS := BSK φ.1) hz h1 hk.2.1.1 (fun q hq9 => (h3.1 q hq9).1) h4 ga6 h5 (by omega) (w_sub (n := 25) rfl (by omega)) pa (by omega) (fun zv12 ze13 => ?_))
      show ww l D tys A X fr lo mX10_step Q 47 [(0, .ref (ad 0)), (1, .int p), (2, .int q)] [.int zv12] h
      rw [ea] at ze13
      refine w_if_ne (tgt := 52) (tX10_step_0_ok (47, .ifCond .ne 5, 3) (List.mem_of_getElem? (i := 25) rfl)) rfl (fun zb14 => ?_) (fun zb14 => ?_)
      · refine w_aload_n (List.Mem.head _) (tX10_step_0_ok (52, .aload_n 0, 1) (List.mem_of_getElem? (i := 28) rfl)) ?_
        refine z_getR (L1 := 100) (own := 15) (k := 3) hz rfl rfl rfl rfl rfl rfl rfl (by decide) (tX10_step_0_ok (53, .getfield 29, 3) (List.mem_of_getElem? (i := 29) rfl)) ?_
        refine z_getR (L1 := 105) (own := 15) (k := 4) hz rfl rfl rfl rfl rfl rfl rfl (by decide) (tX10_step_0_ok (56, .getfield 265, 3) (List.mem_of_getElem? (i := 30) rfl)) ?_
        refine w_iload_n (List.Mem.tail _ (List.Mem.head _)) (tX10_step_0_ok (59, .iload_n 1, 1) (List.mem_of_getElem? (i := 31) rfl)) ?_
        refine w_iload_n (List.Mem.tail _ (List.Mem.tail _ (List.Mem.head _))) (tX10_step_0_ok (60, .iload_n 2, 1) (List.mem_of_getElem? (i := 32) rfl)) ?_
        refine z_iast (f := (I 105)) hT hz rfl rfl rfl (by omega) (by omega) (tX10_step_0_ok (61, .iastore, 1) (List.mem_of_getElem? (i := 33) rfl)) (fun zh15 zI16 zq17 zz18 zf19 => ?_)
        refine w_iconst (by decide) (tX10_step_0_ok (62, .iconst 1, 1) (List.mem_of_getElem? (i := 34) rfl)) (fun zv20 ze21 => ?_)
        refine w_zret rfl (by omega) (by omega) (tX10_step_0_ok (63, .ireturn, 1) (List.mem_of_getElem? (i := 35) rfl)) ?_
        have ec : ((0 ≤ p.toInt ∧ p.toInt < (τ.2.2.1 : Int)) ∧ isPl τ.1 τ.2.1 q.toInt ∧ BSK φ.1 (φ.1 56 (30 + p.toInt.toNat)).toInt.toNat q.toInt.toNat = true ∧ hP9 φ.2.2.1 (φ.1 56) (GK φ.1) (φ.1 56 (30 + p.toInt.toNat)).toInt.toNat = hP9 φ.2.2.1 (φ.1 56) (GK φ.1) q.toInt.toNat) := by
          refine ⟨by omega, by unfold isPl; omega, ?_⟩
          rcases ze13 with c | c
          · exact c.2
          · omega
        have ek : k9_step p q τ φ = k56 φ (upd (φ.1 56) (30 + p.toInt.toNat) q) := if_pos ec
        have c1 := ((congrFun zq17 105).trans (s2_s _ _ _))
        refine hq zh15 zI16 W _ (Or.inl ⟨ec, by omega⟩) ?_ zz18 zf19
        rw [ek]
        refine cS.t (K := s2 φ.1 56 _) (V := φ.2.1) H (fun L hL => s2_n hL) rfl (fun L n1 n2 => ?_) rfl ?_
        · rw [zq17, s2_n (by omega)]
        · rw [s2_s]
          exact h3.at_ (j := 0) n6 c1 (by omega) (fun k h1 h2 => h1) (fun L n1 n2 n3 => by rw [zq17, s2_n n3])
      · refine w_iconst (by decide) (tX10_step_0_ok (50, .iconst 0, 1) (List.mem_of_getElem? (i := 26) rfl)) (fun zv22 ze23 => ?_)
        refine w_zret rfl (by omega) (by omega) (tX10_step_0_ok (51, .ireturn, 1) (List.mem_of_getElem? (i := 27) rfl)) ?_
        have ec : ¬ ((0 ≤ p.toInt ∧ p.toInt < (τ.2.2.1 : Int)) ∧ isPl τ.1 τ.2.1 q.toInt ∧ BSK φ.1 (φ.1 56 (30 + p.toInt.toNat)).toInt.toNat q.toInt.toNat = true ∧ hP9 φ.2.2.1 (φ.1 56) (GK φ.1) (φ.1 56 (30 + p.toInt.toNat)).toInt.toNat = hP9 φ.2.2.1 (φ.1 56) (GK φ.1) q.toInt.toNat) := by
          intro z
          rcases ze13 with c | c
          · omega
          · exact c.2 z.2.2
        have ek : k9_step p q τ φ = φ := if_neg ec
        exact hq h I W _ (Or.inr ⟨ec, by omega⟩) (by rw [ek]; exact H) hz zf.rf
    · refine w_iconst (by decide) (tX10_step_0_ok (16, .iconst 0, 1) (List.mem_of_getElem? (i := 8) rfl)) (fun zv24 ze25 => ?_)
      refine w_zret rfl (by omega) (by omega) (tX10_step_0_ok (17, .ireturn, 1) (List.mem_of_getElem? (i := 9) rfl)) ?_
      have ec : ¬ ((0 ≤ p.toInt ∧ p.toInt < (τ.2.2.1 : Int)) ∧ isPl τ.1 τ.2.1 q.toInt ∧ BSK φ.1 (φ.1 56 (30 + p.toInt.toNat)).toInt.toNat q.toInt.toNat = true ∧ hP9 φ.2.2.1 (φ.1 56) (GK φ.1) (φ.1 56 (30 + p.toInt.toNat)).toInt.toNat = hP9 φ.2.2.1 (φ.1 56) (GK φ.1) q.toInt.toNat) := by
        unfold isPl
        intro z
        omega
      have ek : k9_step p q τ φ = φ := if_neg ec
      exact hq h I W _ (Or.inr ⟨ec, by omega⟩) (by rw [ek]; exact H) hz zf.rf
theorem z9_image (hT : k_tys tys cA) (hz : zr zNC cA ad I W O h) (hk : kok τ φ) (H : cS τ φ I W) (hf : 20 ≤ fr) (hlo : 600 ≤ lo) (hq : ∀ (g : ch_H) (I1 : zI) (W1 : zW) (v : Int32), (¬ τ.1 = 0 ∧ v = φ.1 56 38 ∨ τ.1 = 0 ∧ v.toInt = -1) → cS τ (k9_image τ φ) I1 W1 → zr zNC cA ad I1 W1 O g → zf zNC ad h g → Q (some (.int v)) g) : ww l D tys A X fr lo mX10_image Q 0 [(0, .ref (ad 0))] [] h := by
  have n6 := hk.1.1
  obtain ⟨ga6, pe8, ta6⟩ := hk.2.2.2.1
  obtain ⟨h1, ⟨h21, h22, h23⟩, h3, h4, h5, h6, h7, h8, h9, h10, h11⟩ := id H
  have r0 := h1.1
  refine w_aload_n (List.Mem.head _) (tX10_image_0_ok (0, .aload_n 0, 1) (List.mem_of_getElem? (i := 0) rfl)) ?_
  refine z_getR (L1 := 2) (own := 15) (k := 1) hz rfl rfl rfl rfl rfl rfl rfl (by decide) (tX10_image_0_ok (1, .getfield 19, 3) (List.mem_of_getElem? (i := 1) rfl)) ?_
  refine z_get (f := (I 2)) (own := 15) (k := 0) hz rfl rfl rfl rfl rfl rfl rfl (by decide) (tX10_image_0_ok (4, .getfield 95, 3) (List.mem_of_getElem? (i := 2) rfl)) ?_
  refine w_if_ne (tgt := 12) (tX10_image_0_ok (7, .ifCond .ne 5, 3) (List.mem_of_getElem? (i := 3) rfl)) rfl (fun zb1 => ?_) (fun zb1 => ?_)
  · refine w_aload_n (List.Mem.head _) (tX10_image_0_ok (12, .aload_n 0, 1) (List.mem_of_getElem? (i := 6) rfl)) ?_
    refine z_getR (L1 := 112) (own := 15) (k := 5) hz rfl rfl rfl rfl rfl rfl rfl (by decide) (tX10_image_0_ok (13, .getfield 36, 3) (List.mem_of_getElem? (i := 7) rfl)) ?_
    refine w_aload_n (List.Mem.head _) (tX10_image_0_ok (16, .aload_n 0, 1) (List.mem_of_getElem? (i := 8) rfl)) ?_
    refine z_getR (L1 := 100) (own := 15) (k := 3) hz rfl rfl rfl rfl rfl rfl rfl (by decide) (tX10_image_0_ok (17, .getfield 29, 3) (List.mem_of_getElem? (i := 9) rfl)) ?_
    refine w_callV (own := 15) (mi := 70) [.ref (ad 100)] [] [(0, .ref (ad 112)), (1, .ref (ad 100))] rfl (cllw_X10 (231, 0, 70) (List.mem_of_getElem? (i := 24) rfl)) rfl rfl (hz.ob rfl rfl) rfl (by omega) (w_lo (n := 22) rfl (by omega)) (Nat.le_of_ble_eq_true rfl) (Nat.le_of_ble_eq_true rfl) rfl (tX10_image_0_ok (20, .invokevirtual 231, 3) (List.mem_of_getElem? (i := 10) rfl)) (z_take hT (j := 2) (i := 0) (by decide) (by decide) (by decide) hz (by omega) (w_sub (n := 22) rfl (by omega)) h3.2.2.2.2.2 (fun g1 I1 W1 y1 y2 y3 y4 y5 y6 y7 y8 y9 => ?_))
    show ww l D tys A X fr lo mX10_image Q 23 [(0, .ref (ad 0))] [] g1
    refine w_aload_n (List.Mem.head _) (tX10_image_0_ok (23, .aload_n 0, 1) (List.mem_of_getElem? (i := 11) rfl)) ?_
    refine w_iconst (by decide) (tX10_image_0_ok (24, .iconst 1, 1) (List.mem_of_getElem? (i := 12) rfl)) (fun zv2 ze3 => ?_)
    refine z_put (f := (I 0)) (own := 15) (k := 6) y8 rfl rfl rfl rfl (y6 0 (by decide)) rfl rfl (by decide) rfl ⟨(kn_nz (by omega) (by omega)).1, (kn_nz (by omega) (by omega)).2.1⟩ (tX10_image_0_ok (25, .putfield 137, 3) (List.mem_of_getElem? (i := 13) rfl)) (fun zh4 zI5 zq6 zz7 zf8 => ?_)
    refine w_aload_n (List.Mem.head _) (tX10_image_0_ok (28, .aload_n 0, 1) (List.mem_of_getElem? (i := 14) rfl)) ?_
    refine w_aload_n (List.Mem.head _) (tX10_image_0_ok (29, .aload_n 0, 1) (List.mem_of_getElem? (i := 15) rfl)) ?_
    refine z_getR (L1 := 3) (own := 15) (k := 8) zz7 rfl rfl rfl rfl rfl rfl rfl (by decide) (tX10_image_0_ok (30, .getfield 42, 3) (List.mem_of_getElem? (i := 16) rfl)) ?_
    refine z_get (f := (I 3)) (own := 15) (k := 3) zz7 rfl rfl rfl rfl (((congrFun zq6 3).trans (s2_n (by decide))).trans (y6 3 (by decide))) rfl rfl (by decide) (tX10_image_0_ok (33, .getfield 151, 3) (List.mem_of_getElem? (i := 17) rfl)) ?_
    refine z_put (f := (upd (I 0) 6 zv2)) (own := 15) (k := 7) zz7 rfl rfl rfl rfl ((congrFun zq6 0).trans (s2_s _ _ _)) rfl rfl (by decide) rfl ⟨rfl, rfl⟩ (tX10_image_0_ok (36, .putfield 361, 3) (List.mem_of_getElem? (i := 18) rfl)) (fun zh9 zI10 zq11 zz12 zf13 => ?_)
    refine w_aload_n (List.Mem.head _) (tX10_image_0_ok (39, .aload_n 0, 1) (List.mem_of_getElem? (i := 19) rfl)) ?_
    refine z_getR (L1 := 100) (own := 15) (k := 3) zz12 rfl rfl rfl rfl rfl rfl rfl (by decide) (tX10_image_0_ok (40, .getfield 29, 3) (List.mem_of_getElem? (i := 20) rfl)) ?_
    refine z_get (f := (I 100)) (own := 15) (k := 5) zz12 rfl rfl rfl rfl ((((congrFun zq11 100).trans (s2_n (by decide))).trans ((congrFun zq6 100).trans (s2_n (by decide)))).trans (y6 100 (by decide))) rfl rfl (by decide) (tX10_image_0_ok (43, .getfield 243, 3) (List.mem_of_getElem? (i := 21) rfl)) ?_
    refine w_iret rfl (tX10_image_0_ok (46, .ireturn, 1) (List.mem_of_getElem? (i := 22) rfl)) ?_
    have ec : ¬ τ.1 = 0 := by omega
    have ek : k9_image τ φ = (s2 (s2 φ.1 58 (φ.1 56)) 50 (upd (upd (φ.1 50) 39 1) 35 (Int32.ofNat τ.2.2.1)), (fun q => if q = 38 then φ.2.1 36 else φ.2.1 q), φ.2.2) := if_pos ec
    have e35 : (Int32.ofNat τ.2.2.1).toInt = (τ.2.2.1 : Int) := by
      rw [show Int32.ofNat τ.2.2.1 = Int32.ofInt (τ.2.2.1 : Int) from rfl, ofInt_b (by omega)]
    have c0 := ((congrFun zq11 0).trans (s2_s _ _ _))
    have o : ∀ L, (L < 112 ∨ 118 ≤ L) → L ≠ 0 → zI10 L = I L := fun L n1 n2 => by rw [zq11, s2_n n2, zq6, s2_n n2, y6 L (by omega)]
    have o2 : ∀ L, 112 ≤ L → L < 118 → zI10 L = I1 L := fun L n1 n2 => by rw [zq11, s2_n (by omega), zq6, s2_n (by omega)]
    refine hq zh9 zI10 W1 _ (Or.inl ⟨ec, ?_⟩) ?_ zz12 ((y9.tr zf8).tr zf13)
    · exact h3.2.2.2.1
    · rw [ek]
      obtain ⟨K9, eK⟩ : ∃ K9 : zI, K9 = s2 (s2 φ.1 58 (φ.1 56)) 50 (upd (upd (φ.1 50) 39 1) 35 (Int32.ofNat τ.2.2.1)) := ⟨_, rfl⟩
      rw [← eK]
      have k_50 := (congrFun eK 50).trans (s2_s _ _ _)
      have k_58 := ((congrFun eK 58).trans (s2_n (by decide))).trans (s2_s _ _ _)
      have k_n : ∀ L, L ≠ 50 ∧ L ≠ 58 → K9 L = φ.1 L := fun L hL => by rw [eK, s2_n hL.1, s2_n hL.2]
      refine ⟨h1.mv (fun L hL => o L (by omega) (by omega)), ?_, ?_, fun g hg => ?_, fun a b ha hb => ?_, fun i hi => ?_, fun i hi => ?_, fun r hr => ?_, ?_, ?_, ?_⟩
      · rw [o 3 (by decide) (by decide)]
        exact ⟨h21, h22, h23⟩
      · show sx zI10 W1 0 τ.1 τ.2.2.1 (K9 56) (if 36 = 38 then φ.2.1 36 else φ.2.1 36)
        rw [k_n 56 (by decide), if_neg (by decide)]
        exact h3.mv (fun L a b => o L (by omega) (by omega)) (congrFun (y7 100 (by decide)) 6)
      · show zI10 20 g = K9 59 (12 + g)
        rw [o 20 (by decide) (by decide), k_n 59 (by decide)]
        exact h4 g hg
      · show bt9 (zI10 21 a) b = decide ((K9 65 (18 * a + b)).toInt = 1)
        rw [o 21 (by decide) (by decide), k_n 65 (by decide)]
        exact h5 a b ha hb
      · show zI10 22 i = K9 62 i
        rw [o 22 (by decide) (by decide), k_n 62 (by decide)]
        exact h6 i hi
      · show zI10 23 i = K9 63 i ∧ zI10 24 i = K9 64 i
        rw [o 23 (by decide) (by decide), o 24 (by decide) (by decide), k_n 63 (by decide), k_n 64 (by decide)]
        exact h7 i hi
      · show zI10 5 r = K9 60 r ∧ zI10 6 r = K9 61 r
        rw [o 5 (by decide) (by decide), o 6 (by decide) (by decide), k_n 60 (by decide), k_n 61 (by decide)]
        exact h8 r hr
      · show (zI10 0 6).toInt = (K9 50 39).toInt
        rw [c0, k_50, upd_n _ _ (by decide), upd_s, upd_n _ _ (by decide), upd_s, ze3]
        rfl
      · show (K9 50 39).toInt = 1 → (zI10 0 7).toInt = (K9 50 35).toInt ∧ sx zI10 W1 2 τ.1 (K9 50 35).toInt.toNat (K9 58) (if 38 = 38 then φ.2.1 36 else φ.2.1 38)
        refine fun _ => ?_
        rw [c0, k_50, k_58, upd_s, upd_s, e35, Int.toNat_natCast, if_pos rfl]
        refine ⟨h22, ?_⟩
        obtain ⟨t1, t2, t3, t4, t5, t6⟩ := h3
        have z1 : ∀ L, 112 ≤ L → L < 118 → zI10 L = I1 L := o2
        refine ⟨fun q hq9 => ?_, fun q hq9 => ?_, fun i hi => ?_, ?_, y5.trans t5, fun q hq9 => ?_⟩
        · rw [z1 _ (by omega) (by omega), z1 _ (by omega) (by omega), z1 _ (by omega) (by omega), (y1 q (by omega)).1, (y1 q (by omega)).2.1, (y1 q (by omega)).2.2]
          exact t1 q hq9
        · rw [z1 _ (by omega) (by omega), y2 q hq9]
          exact t2 q hq9
        · rw [z1 _ (by omega) (by omega), y3 i (by omega)]
          exact t3 i hi
        · rw [z1 _ (by omega) (by omega), y4]
          exact t4
        · rw [z1 _ (by omega) (by omega), (y1 q hq9).2.2]
          exact t6 q hq9
      · show zI10 0 14 = K9 50 7
        rw [c0, k_50, upd_n _ _ (by decide), upd_n _ _ (by decide), upd_n _ _ (by decide), upd_n _ _ (by decide)]
        exact h11
  · refine w_iconst (by decide) (tX10_image_0_ok (10, .iconst (-1), 1) (List.mem_of_getElem? (i := 4) rfl)) (fun zv14 ze15 => ?_)
    refine w_iret rfl (tX10_image_0_ok (11, .ireturn, 1) (List.mem_of_getElem? (i := 5) rfl)) ?_
    have ek : k9_image τ φ = φ := if_neg (by omega)
    exact hq h I W _ (Or.inr ⟨by omega, by omega⟩) (by rw [ek]; exact H) hz zf.rf
theorem z_bkL (hT : k_tys tys cA) {I0 : zI} {ip pe : Nat} (hpe : (I0 3 3).toInt = (pe : Int) ∧ pe ≤ 8) (hq0 : ip ≤ 8) : ∀ (j9 : Nat) (h : ch_H) (I : zI) (i : Int32), (pe : Int) - i.toInt ≤ j9 → (ip : Int) ≤ i.toInt → (∀ q, ip ≤ q → q < i.toInt.toNat → I 117 q = I0 105 q) → (∀ q, q < ip → I 117 q = I0 117 q) → (∀ L, L ≠ 117 → I L = I0 L) → zr zNC cA ad I W O h → (∀ (g : ch_H) (I1 : zI) (i1 : Int32), (∀ q, ip ≤ q → q < pe → I1 117 q = I0 105 q) → (∀ q, q < ip → I1 117 q = I0 117 q) → (∀ L, L ≠ 117 → I1 L = I0 L) → zr zNC cA ad I1 W O g → zf zNC ad h g → ww l D tys A X fr lo mX10_back Q 49 [(1, .int i1), (0, .ref (ad 0))] [] g) → ww l D tys A X fr lo mX10_back Q 14 [(1, .int i), (0, .ref (ad 0))] [] h := by
  intro j9
  induction j9 using Nat.strongRecOn with
  | ind j9 ih =>
    intro h I i hj9 hi0 hD hE hI hz hq
    refine w_iload_n (List.Mem.head _) (tX10_back_0_ok (14, .iload_n 1, 1) (List.mem_of_getElem? (i := 8) rfl)) ?_
    refine w_aload_n (List.Mem.tail _ (List.Mem.head _)) (tX10_back_0_ok (15, .aload_n 0, 1) (List.mem_of_getElem? (i := 9) rfl)) ?_
    refine z_getR (L1 := 3) (own := 15) (k := 8) hz rfl rfl rfl rfl rfl rfl rfl (by decide) (tX10_back_0_ok (16, .getfield 42, 3) (List.mem_of_getElem? (i := 10) rfl)) ?_
    refine z_get (f := (I0 3)) (own := 15) (k := 3) hz rfl rfl rfl rfl (hI 3 (by decide)) rfl rfl (by decide) (tX10_back_0_ok (19, .getfield 151, 3) (List.mem_of_getElem? (i := 11) rfl)) ?_
    refine w_icmp_ge (tgt := 49) (tX10_back_0_ok (22, .if_icmp .ge 27, 3) (List.mem_of_getElem? (i := 12) rfl)) rfl (fun zb1 => ?_) (fun zb1 => ?_)
    · refine w_lv [(1, .int i), (0, .ref (ad 0))] (by intro q hq; simp only [List.mem_cons, List.not_mem_nil, or_false] at hq ⊢; rcases hq with e | e <;> subst e <;> simp) ?_
      exact hq h I i (fun q a1 a2 => hD q a1 (by omega)) hE hI hz zf.rf
    · refine w_aload_n (List.Mem.tail _ (List.Mem.head _)) (tX10_back_0_ok (25, .aload_n 0, 1) (List.mem_of_getElem? (i := 13) rfl)) ?_
      refine z_getR (L1 := 112) (own := 15) (k := 5) hz rfl rfl rfl rfl rfl rfl rfl (by decide) (tX10_back_0_ok (26, .getfield 36, 3) (List.mem_of_getElem? (i := 14) rfl)) ?_
      refine z_getR (L1 := 117) (own := 15) (k := 4) hz rfl rfl rfl rfl rfl rfl rfl (by decide) (tX10_back_0_ok (29, .getfield 265, 3) (List.mem_of_getElem? (i := 15) rfl)) ?_
      refine w_iload_n (List.Mem.head _) (tX10_back_0_ok (32, .iload_n 1, 1) (List.mem_of_getElem? (i := 16) rfl)) ?_
      refine w_aload_n (List.Mem.tail _ (List.Mem.head _)) (tX10_back_0_ok (33, .aload_n 0, 1) (List.mem_of_getElem? (i := 17) rfl)) ?_
      refine z_getR (L1 := 100) (own := 15) (k := 3) hz rfl rfl rfl rfl rfl rfl rfl (by decide) (tX10_back_0_ok (34, .getfield 29, 3) (List.mem_of_getElem? (i := 18) rfl)) ?_
      refine z_getR (L1 := 105) (own := 15) (k := 4) hz rfl rfl rfl rfl rfl rfl rfl (by decide) (tX10_back_0_ok (37, .getfield 265, 3) (List.mem_of_getElem? (i := 19) rfl)) ?_
      refine w_iload_n (List.Mem.head _) (tX10_back_0_ok (40, .iload_n 1, 1) (List.mem_of_getElem? (i := 20) rfl)) ?_
      refine z_iald (f := (I 105)) hT hz rfl rfl rfl (by omega) (by omega) (tX10_back_0_ok (41, .iaload, 1) (List.mem_of_getElem? (i := 21) rfl)) (fun zv2 zu3 => ?_)
      have ze4 : zv2.toInt = ((I 105) i.toInt.toNat).toInt := congrArg _ zu3
      refine z_iast (f := (I 117)) hT hz rfl rfl rfl (by omega) (by omega) (tX10_back_0_ok (42, .iastore, 1) (List.mem_of_getElem? (i := 22) rfl)) (fun zh5 zI6 zq7 zz8 zf9 => ?_)
      refine w_iinc (fun zv10 => [(1, .int zv10), (0, .ref (ad 0))]) (fun _ => rfl) (List.Mem.head _) (Nat.le_of_ble_eq_true rfl) (by decide) (by omega) (by omega) (tX10_back_0_ok (43, .iinc 1 1, 3) (List.mem_of_getElem? (i := 23) rfl)) (fun zv10 ze11 => ?_)
      refine w_goto (tgt := 14) (tX10_back_0_ok (46, .goto (-32), 3) (List.mem_of_getElem? (i := 24) rfl)) rfl ?_
      have c1 := ((congrFun zq7 117).trans (s2_s _ _ _))
      refine w_lv [(1, .int zv10), (0, .ref (ad 0))] (by intro q hq; simp only [List.mem_cons, List.not_mem_nil, or_false] at hq ⊢; rcases hq with e | e <;> subst e <;> simp) ?_
      refine ih (j9 - 1) (by omega) zh5 zI6 _ (by omega) (by omega) (fun q a1 a2 => ?_) (fun q a1 => ?_) (fun L n1 => ?_) zz8 (fun g2 I2 r2 z1 z2 z3 z4 z5 => hq g2 I2 r2 z1 z2 z3 z4 (zf9.tr z5))
      · rw [c1]
        by_cases e : q = i.toInt.toNat
        · subst e
          rw [upd_s, zu3, hI 105 (by decide)]
        · rw [upd_n _ _ e]
          exact hD q a1 (by omega)
      · rw [c1, upd_n _ _ (by omega)]
        exact hE q a1
      · rw [zq7, s2_n n1]
        exact hI L n1
theorem cS.t2 {K : zI} {V : Nat → Int64} (H : cS τ φ I W) (hK : ∀ L, L ≠ 56 → K L = φ.1 L) (o : ∀ L, ¬ scr L → ¬ (100 ≤ L ∧ L < 106) → L ≠ 117 → I1 L = I L) (hs : sx I1 W1 0 τ.1 τ.2.2.1 (K 56) (V 36)) (hi : (φ.1 50 39).toInt = 1 → sx I1 W1 2 τ.1 (φ.1 50 35).toInt.toNat (φ.1 58) (V 38)) : cS τ (K, V, φ.2.2) I1 W1 := by
  obtain ⟨h1, h2, h3, h4, h5, h6, h7, h8, h9, h10, h11⟩ := H
  unfold scr at o
  refine ⟨h1.mv (fun L hL => o L (by omega) (by omega) (by omega)), ?_, hs, fun g hg => ?_, fun a b ha hb => ?_, fun i hi => ?_, fun i hi => ?_, fun r hr => ?_, ?_, ?_, ?_⟩
  · rw [o 3 (by omega) (by omega) (by omega)]
    exact h2
  · show I1 20 g = K 59 (12 + g)
    rw [o 20 (by omega) (by omega) (by omega), hK 59 (by decide)]
    exact h4 g hg
  · show bt9 (I1 21 a) b = decide ((K 65 (18 * a + b)).toInt = 1)
    rw [o 21 (by omega) (by omega) (by omega), hK 65 (by decide)]
    exact h5 a b ha hb
  · show I1 22 i = K 62 i
    rw [o 22 (by omega) (by omega) (by omega), hK 62 (by decide)]
    exact h6 i hi
  · show I1 23 i = K 63 i ∧ I1 24 i = K 64 i
    rw [o 23 (by omega) (by omega) (by omega), o 24 (by omega) (by omega) (by omega), hK 63 (by decide), hK 64 (by decide)]
    exact h7 i hi
  · show I1 5 r = K 60 r ∧ I1 6 r = K 61 r
    rw [o 5 (by omega) (by omega) (by omega), o 6 (by omega) (by omega) (by omega), hK 60 (by decide), hK 61 (by decide)]
    exact h8 r hr
  · show (I1 0 6).toInt = (K 50 39).toInt
    rw [o 0 (by omega) (by omega) (by omega), hK 50 (by decide)]
    exact h9
  · show (K 50 39).toInt = 1 → (I1 0 7).toInt = (K 50 35).toInt ∧ sx I1 W1 2 τ.1 (K 50 35).toInt.toNat (K 58) (V 38)
    rw [o 0 (by omega) (by omega) (by omega), hK 50 (by decide), hK 58 (by decide)]
    exact fun z => ⟨(h10 z).1, hi z⟩
  · show I1 0 14 = K 50 7
    rw [o 0 (by omega) (by omega) (by omega), hK 50 (by decide)]
    exact h11
theorem z9_back (hT : k_tys tys cA) (hz : zr zNC cA ad I W O h) (hk : kok τ φ) (H : cS τ φ I W) (hf : 20 ≤ fr) (hlo : 600 ≤ lo) (hq : ∀ (g : ch_H) (I1 : zI) (W1 : zW) (v : Int32), ((φ.1 50 39).toInt = 1 ∧ v = φ.1 58 38 ∨ ¬ (φ.1 50 39).toInt = 1 ∧ v.toInt = -1) → cS τ (k9_back φ) I1 W1 → zr zNC cA ad I1 W1 O g → zf zNC ad h g → Q (some (.int v)) g) : ww l D tys A X fr lo mX10_back Q 0 [(0, .ref (ad 0))] [] h := by
  have n6 := hk.1.1
  obtain ⟨ga6, pe8, ta6⟩ := hk.2.2.2.1
  obtain ⟨h1, ⟨h21, h22, h23⟩, h3, h4, h5, h6, h7, h8, h9, h10, h11⟩ := id H
  have r0 := h1.1
  refine w_aload_n (List.Mem.head _) (tX10_back_0_ok (0, .aload_n 0, 1) (List.mem_of_getElem? (i := 0) rfl)) ?_
  refine z_get (f := (I 0)) (own := 15) (k := 6) hz rfl rfl rfl rfl rfl rfl rfl (by decide) (tX10_back_0_ok (1, .getfield 137, 3) (List.mem_of_getElem? (i := 1) rfl)) ?_
  refine w_if_ne (tgt := 9) (tX10_back_0_ok (4, .ifCond .ne 5, 3) (List.mem_of_getElem? (i := 2) rfl)) rfl (fun zb1 => ?_) (fun zb1 => ?_)
  · refine w_aload_n (List.Mem.head _) (tX10_back_0_ok (9, .aload_n 0, 1) (List.mem_of_getElem? (i := 5) rfl)) ?_
    refine z_get (f := (I 0)) (own := 15) (k := 7) hz rfl rfl rfl rfl rfl rfl rfl (by decide) (tX10_back_0_ok (10, .getfield 361, 3) (List.mem_of_getElem? (i := 6) rfl)) ?_
    refine w_istore_n [(1, .int ((I 0) 7)), (0, .ref (ad 0))] rfl (Nat.le_of_ble_eq_true rfl) (tX10_back_0_ok (13, .istore_n 1, 1) (List.mem_of_getElem? (i := 7) rfl)) ?_
    have ec : (φ.1 50 39).toInt = 1 := by
      rcases hk.2.2.2.2.2.1 with z | z
      · omega
      · exact z.1
    have ib : 0 ≤ (φ.1 50 35).toInt ∧ (φ.1 50 35).toInt ≤ (τ.2.2.1 : Int) := by
      rcases hk.2.2.2.2.2.1 with z | z
      · omega
      · exact ⟨z.2.1, z.2.2.1⟩
    obtain ⟨k0, k1, k2, k3, k4, k5, k6⟩ := h10 ec
    refine w_lv [(1, .int ((I 0) 7)), (0, .ref (ad 0))] (by intro q hq; simp only [List.mem_cons, List.not_mem_nil, or_false] at hq ⊢; rcases hq with e | e <;> subst e <;> simp) ?_
    refine z_bkL hT (I0 := I) (ip := (φ.1 50 35).toInt.toNat) (pe := τ.2.2.1) ⟨h22, pe8⟩ (by omega) τ.2.2.1 h I _ (by omega) (by omega) (fun q a1 a2 => absurd a2 (by omega)) (fun _ _ => rfl) (fun _ _ => rfl) hz (fun g2 I2 i2 x1 x2 x3 x4 x5 => ?_)
    refine w_aload_n (List.Mem.tail _ (List.Mem.head _)) (tX10_back_0_ok (49, .aload_n 0, 1) (List.mem_of_getElem? (i := 25) rfl)) ?_
    refine z_getR (L1 := 100) (own := 15) (k := 3) x4 rfl rfl rfl rfl rfl rfl rfl (by decide) (tX10_back_0_ok (50, .getfield 29, 3) (List.mem_of_getElem? (i := 26) rfl)) ?_
    refine w_aload_n (List.Mem.tail _ (List.Mem.head _)) (tX10_back_0_ok (53, .aload_n 0, 1) (List.mem_of_getElem? (i := 27) rfl)) ?_
    refine z_getR (L1 := 112) (own := 15) (k := 5) x4 rfl rfl rfl rfl rfl rfl rfl (by decide) (tX10_back_0_ok (54, .getfield 36, 3) (List.mem_of_getElem? (i := 28) rfl)) ?_
    refine w_callV (own := 15) (mi := 70) [.ref (ad 112)] [] [(0, .ref (ad 100)), (1, .ref (ad 112))] rfl (cllw_X10 (231, 0, 70) (List.mem_of_getElem? (i := 24) rfl)) rfl rfl (x4.ob rfl rfl) rfl (by omega) (w_lo (n := 22) rfl (by omega)) (Nat.le_of_ble_eq_true rfl) (Nat.le_of_ble_eq_true rfl) rfl (tX10_back_0_ok (57, .invokevirtual 231, 3) (List.mem_of_getElem? (i := 29) rfl)) (z_take hT (j := 0) (i := 2) (by decide) (by decide) (by decide) x4 (by omega) (w_sub (n := 22) rfl (by omega)) (fun q hq9 => by show 0 ≤ (I2 115 q).toInt ∧ (I2 115 q).toInt ≤ 1; rw [x3 115 (by decide)]; exact k6 q hq9) (fun g1 I1 W1 y1 y2 y3 y4 y5 y6 y7 y8 y9 => ?_))
    show ww l D tys A X fr lo mX10_back Q 60 [(1, .int i2), (0, .ref (ad 0))] [] g1
    refine w_aload_n (List.Mem.tail _ (List.Mem.head _)) (tX10_back_0_ok (60, .aload_n 0, 1) (List.mem_of_getElem? (i := 30) rfl)) ?_
    refine z_getR (L1 := 100) (own := 15) (k := 3) y8 rfl rfl rfl rfl rfl rfl rfl (by decide) (tX10_back_0_ok (61, .getfield 29, 3) (List.mem_of_getElem? (i := 31) rfl)) ?_
    refine z_get (f := (I1 100)) (own := 15) (k := 5) y8 rfl rfl rfl rfl rfl rfl rfl (by decide) (tX10_back_0_ok (64, .getfield 243, 3) (List.mem_of_getElem? (i := 32) rfl)) ?_
    refine w_iret rfl (tX10_back_0_ok (67, .ireturn, 1) (List.mem_of_getElem? (i := 33) rfl)) ?_
    have ek : k9_back φ = (s2 φ.1 56 (fun q => if 30 + (φ.1 50 35).toInt.toNat ≤ q ∧ q ≤ 37 then φ.1 56 q else φ.1 58 q), (fun q => if q = 36 then φ.2.1 38 else φ.2.1 q), φ.2.2) := if_pos ec
    have m2 : ∀ L, 106 ≤ L → L ≠ 117 → I1 L = I L := fun L n1 n2 => (y6 L (by omega)).trans (x3 L n2)
    have m0 : ∀ L, L < 100 → I1 L = I L := fun L n1 => (y6 L (by omega)).trans (x3 L (by omega))
    have e117 : I1 117 = I2 117 := y6 117 (by decide)
    refine hq g1 I1 W1 _ (Or.inl ⟨ec, ?_⟩) ?_ y8 (x5.tr y9)
    · exact (y4.trans (congrFun (x3 112 (by decide)) 5)).trans k4
    · rw [ek]
      obtain ⟨T9, eT⟩ : ∃ T9 : Nat → Int32, T9 = (fun q => if 30 + (φ.1 50 35).toInt.toNat ≤ q ∧ q ≤ 37 then φ.1 56 q else φ.1 58 q) := ⟨_, rfl⟩
      obtain ⟨V9, eV⟩ : ∃ V9 : Nat → Int64, V9 = (fun q => if q = 36 then φ.2.1 38 else φ.2.1 q) := ⟨_, rfl⟩
      rw [← eT, ← eV]
      have V_s : V9 36 = φ.2.1 38 := (congrFun eV 36).trans (if_pos rfl)
      have V_n : V9 38 = φ.2.1 38 := (congrFun eV 38).trans (if_neg (by decide))
      have T_p : ∀ q, (30 + (φ.1 50 35).toInt.toNat ≤ q ∧ q ≤ 37) → T9 q = φ.1 56 q := fun q hq8 => (congrFun eT q).trans (if_pos hq8)
      have T_n : ∀ q, ¬ (30 + (φ.1 50 35).toInt.toNat ≤ q ∧ q ≤ 37) → T9 q = φ.1 58 q := fun q hq8 => (congrFun eT q).trans (if_neg hq8)
      refine cS.t2 (K := s2 φ.1 56 T9) (V := V9) H (fun L hL => s2_n hL) (fun L n1 n2 n3 => ?_) ?_ ?_
      · by_cases e : L < 100
        · exact m0 L e
        · exact m2 L (by omega) n3
      · rw [s2_s]
        refine ⟨fun q hq9 => ?_, fun q hq9 => ?_, fun i9 hi => ?_, ?_, ?_, fun q hq9 => ?_⟩
        · have a1 : I1 101 q = I2 113 q ∧ I1 102 q = I2 114 q ∧ I1 103 q = I2 115 q := y1 q (by omega)
          rw [x3 113 (by decide), x3 114 (by decide), x3 115 (by decide)] at a1
          rw [T_n _ (by omega), T_n _ (by omega), T_n _ (by omega)]
          exact ⟨a1.1.trans (k1 q hq9).1, a1.2.1.trans (k1 q hq9).2.1, a1.2.2.trans (k1 q hq9).2.2⟩
        · have a1 : I1 104 q = I2 116 q := y2 q hq9
          rw [x3 116 (by decide)] at a1
          rw [T_n _ (by omega)]
          exact a1.trans (k2 q hq9)
        · have a1 : I1 105 i9 = I2 117 i9 := y3 i9 (by omega)
          by_cases e : i9 < (φ.1 50 35).toInt.toNat
          · rw [T_n _ (by omega)]
            exact (a1.trans (x2 i9 e)).trans (k3 i9 e)
          · rw [T_p _ (by omega)]
            exact (a1.trans (x1 i9 (by omega) hi)).trans (h3.2.2.1 i9 hi)
        · rw [T_n _ (by omega)]
          exact (y4.trans (congrFun (x3 112 (by decide)) 5)).trans k4
        · rw [V_s]
          exact y5.trans k5
        · have a1 : I1 103 q = I2 115 q := (y1 q hq9).2.2
          rw [x3 115 (by decide)] at a1
          show 0 ≤ (I1 103 q).toInt ∧ (I1 103 q).toInt ≤ 1
          rw [a1]
          exact k6 q hq9
      · refine fun _ => ⟨fun q hq9 => ?_, fun q hq9 => ?_, fun i9 hi => ?_, ?_, ?_, fun q hq9 => ?_⟩
        · rw [m2 _ (by omega) (by omega), m2 _ (by omega) (by omega), m2 _ (by omega) (by omega)]
          exact k1 q hq9
        · rw [m2 _ (by omega) (by omega)]
          exact k2 q hq9
        · show I1 117 i9 = _
          rw [e117, x2 i9 hi]
          exact k3 i9 hi
        · rw [m2 _ (by omega) (by omega)]
          exact k4
        · show W1 112 6 = V9 38
          rw [V_n, y7 112 (by decide)]
          exact k5
        · rw [m2 _ (by omega) (by omega)]
          exact k6 q hq9
  · refine w_iconst (by decide) (tX10_back_0_ok (7, .iconst (-1), 1) (List.mem_of_getElem? (i := 3) rfl)) (fun zv2 ze3 => ?_)
    refine w_iret rfl (tX10_back_0_ok (8, .ireturn, 1) (List.mem_of_getElem? (i := 4) rfl)) ?_
    have ec : ¬ (φ.1 50 39).toInt = 1 := by omega
    have ek : k9_back φ = φ := if_neg ec
    exact hq h I W _ (Or.inr ⟨ec, by omega⟩) (by rw [ek]; exact H) hz zf.rf
end
