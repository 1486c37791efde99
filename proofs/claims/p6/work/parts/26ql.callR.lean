/-! the reference's calls on what a TOWN shows -/
section
variable {l : Launch} {D : va_G} {tys : List (ClassId × FieldType)} {A : Nat → Prop} {X : State → Prop} {fr lo : Nat} {M : ch_M} {Q : Option Value → ch_H → Prop} {pc : Nat} {lv : List (Nat × Value)} {st : List Value} {cA : Nat → ClassId} {h : ch_H} {ad : Nat → Nat} {I I1 : zI} {W W1 : zW} {O : zO} {n j pe ga : Nat} {T T1 : Nat → Int32} {d d1 : Int64} {τ : aN} {φ : zP}
theorem rS.th {x : Int32} (H : rS τ φ I W) (e : I1 = s2 I 50 (upd (I 50) 0 x)) : rS τ φ I1 W := by
  have H1 : rS τ (φ.1, φ.2.1, φ.2.2) I1 W := by
    refine H.t (K := φ.1) (V := φ.2.1) (fun _ _ => rfl) rfl (fun L n1 n2 => by rw [e, s2_n n2]) (fun k hk => ?_) rfl ⟨H.2.2.1.1.mv (by rw [e, s2_n (by decide)]), H.2.2.1.2⟩
    rw [e, s2_s, upd_n _ _ (by omega)]
  exact H1
/-- what rooms bear, by the raw rows -/
theorem rS.yz_ (H : rS τ φ I W) (n6 : τ.1 ≤ 6) (hb : bo (I 55) (I 56) (I 62) τ.2.2.1 τ.1) : yz I τ.1 τ.2.2.1 (kb τ φ) := by
  obtain ⟨h1, ⟨h21, h22, h23⟩, ⟨⟨t1, t2, t3, t4⟩, h32⟩, h4, h5, h6, -⟩ := H
  refine ⟨h22, hb, fun q hq => ?_⟩
  unfold kb bb
  exact sp_br_cg (fun p hp w hw => by rw [h1.2.2 p hp w hw, Rn_at h1.2.1 hp hw]) t2 t3 h6 n6 12 q hq
theorem tx.one_ {L k : Nat} {o : Int32} (H : tx I L n pe T) (c : I1 L = upd (I L) k o) (h1 : ∀ i, i < pe → True) : tx I1 L n pe (upd T k o) := by
  have h9 : ∀ q, I L q = T q → upd (I L) k o q = upd T k o q := fun q e => by
    by_cases c9 : q = k
    · subst c9
      rw [upd_s, upd_s]
    · rw [upd_n _ _ c9, upd_n _ _ c9, e]
  obtain ⟨g1, g2, g3, g4⟩ := H
  refine ⟨fun q hq => ⟨?_, ?_, ?_⟩, fun q hq => ?_, fun i hi => ?_, ?_⟩
  · rw [c]
    exact h9 _ (g1 q hq).1
  · rw [c]
    exact h9 _ (g1 q hq).2.1
  · rw [c]
    exact h9 _ (g1 q hq).2.2
  · rw [c]
    exact h9 _ (g2 q hq)
  · rw [c]
    exact h9 _ (g3 i hi)
  · rw [c]
    exact h9 _ g4
theorem tx.at_ {L i pe1 : Nat} {o : Int32} (H : tx I L n pe T) (c : I1 L = upd (I L) (30 + i) o) (n6 : n ≤ 6) (h1 : ∀ k, k < pe1 → k ≠ i → k < pe) (i8 : i < 8) : tx I1 L n pe1 (upd T (30 + i) o) := by
  have h9 : ∀ q, I L q = T q → upd (I L) (30 + i) o q = upd T (30 + i) o q := fun q e => by
    by_cases c9 : q = 30 + i
    · subst c9
      rw [upd_s, upd_s]
    · rw [upd_n _ _ c9, upd_n _ _ c9, e]
  obtain ⟨g1, g2, g3, g4⟩ := H
  refine ⟨fun q hq => ⟨?_, ?_, ?_⟩, fun q hq => ?_, fun k hk => ?_, ?_⟩
  · rw [c]
    exact h9 _ (g1 q hq).1
  · rw [c]
    exact h9 _ (g1 q hq).2.1
  · rw [c]
    exact h9 _ (g1 q hq).2.2
  · rw [c]
    exact h9 _ (g2 q hq)
  · rw [c]
    by_cases e : k = i
    · subst e
      rw [upd_s, upd_s]
    · exact h9 _ (g3 k (h1 k hk e))
  · rw [c]
    exact h9 _ g4
theorem y_isRope (hT : k_tys tys cA) {p : Int32} (hz : zr zNM cA ad I W O h) (hn : (I 50 20).toInt = (n : Int)) (n6 : n ≤ 6) (hq : ∀ v : Int32, (v.toInt = 1 ∧ (0 ≤ p.toInt ∧ p.toInt < (n : Int)) ∨ v.toInt = 0 ∧ ¬ (0 ≤ p.toInt ∧ p.toInt < (n : Int))) → Q (some (.int v)) h) : ww l D tys A X fr lo mX11_isRope Q 0 [(0, .ref (ad 50)), (1, .int p)] [] h := by
  refine w_iload_n (List.Mem.tail _ (List.Mem.head _)) (tX11_isRope_0_ok (0, .iload_n 1, 1) (List.mem_of_getElem? (i := 0) rfl)) ?_
  refine w_if_lt (tgt := 16) (tX11_isRope_0_ok (1, .ifCond .lt 15, 3) (List.mem_of_getElem? (i := 1) rfl)) rfl (fun zb1 => ?_) (fun zb1 => ?_)
  · refine w_iconst (by decide) (tX11_isRope_0_ok (16, .iconst 0, 1) (List.mem_of_getElem? (i := 8) rfl)) (fun zv2 ze3 => ?_)
    refine w_zret rfl (by omega) (by omega) (tX11_isRope_0_ok (17, .ireturn, 1) (List.mem_of_getElem? (i := 9) rfl)) ?_
    exact hq _ (by omega)
  · refine w_iload_n (List.Mem.tail _ (List.Mem.head _)) (tX11_isRope_0_ok (4, .iload_n 1, 1) (List.mem_of_getElem? (i := 2) rfl)) ?_
    refine w_aload_n (List.Mem.head _) (tX11_isRope_0_ok (5, .aload_n 0, 1) (List.mem_of_getElem? (i := 3) rfl)) ?_
    refine z_get (f := (I 50)) (own := 16) (k := 20) hz rfl rfl rfl rfl rfl rfl rfl (by decide) (tX11_isRope_0_ok (6, .getfield 248, 3) (List.mem_of_getElem? (i := 4) rfl)) ?_
    refine w_icmp_ge (tgt := 16) (tX11_isRope_0_ok (9, .if_icmp .ge 7, 3) (List.mem_of_getElem? (i := 5) rfl)) rfl (fun zb4 => ?_) (fun zb4 => ?_)
    · refine w_iconst (by decide) (tX11_isRope_0_ok (16, .iconst 0, 1) (List.mem_of_getElem? (i := 8) rfl)) (fun zv5 ze6 => ?_)
      refine w_zret rfl (by omega) (by omega) (tX11_isRope_0_ok (17, .ireturn, 1) (List.mem_of_getElem? (i := 9) rfl)) ?_
      exact hq _ (by omega)
    · refine w_iconst (by decide) (tX11_isRope_0_ok (12, .iconst 1, 1) (List.mem_of_getElem? (i := 6) rfl)) (fun zv7 ze8 => ?_)
      refine w_goto (tgt := 17) (tX11_isRope_0_ok (13, .goto 4, 3) (List.mem_of_getElem? (i := 7) rfl)) rfl ?_
      refine w_zret rfl (by omega) (by omega) (tX11_isRope_0_ok (17, .ireturn, 1) (List.mem_of_getElem? (i := 9) rfl)) ?_
      exact hq _ (by omega)
theorem y_isRoom (hT : k_tys tys cA) {p : Int32} (hz : zr zNM cA ad I W O h) (hn : (I 50 20).toInt = (n : Int)) (n6 : n ≤ 6) (hq : ∀ v : Int32, (v.toInt = 1 ∧ (0 ≤ p.toInt ∧ p.toInt < 2 * (n : Int)) ∨ v.toInt = 0 ∧ ¬ (0 ≤ p.toInt ∧ p.toInt < 2 * (n : Int))) → Q (some (.int v)) h) : ww l D tys A X fr lo mX11_isRoom Q 0 [(0, .ref (ad 50)), (1, .int p)] [] h := by
  refine w_iload_n (List.Mem.tail _ (List.Mem.head _)) (tX11_isRoom_0_ok (0, .iload_n 1, 1) (List.mem_of_getElem? (i := 0) rfl)) ?_
  refine w_if_lt (tgt := 18) (tX11_isRoom_0_ok (1, .ifCond .lt 17, 3) (List.mem_of_getElem? (i := 1) rfl)) rfl (fun zb1 => ?_) (fun zb1 => ?_)
  · refine w_iconst (by decide) (tX11_isRoom_0_ok (18, .iconst 0, 1) (List.mem_of_getElem? (i := 10) rfl)) (fun zv2 ze3 => ?_)
    refine w_zret rfl (by omega) (by omega) (tX11_isRoom_0_ok (19, .ireturn, 1) (List.mem_of_getElem? (i := 11) rfl)) ?_
    exact hq _ (by omega)
  · refine w_iload_n (List.Mem.tail _ (List.Mem.head _)) (tX11_isRoom_0_ok (4, .iload_n 1, 1) (List.mem_of_getElem? (i := 2) rfl)) ?_
    refine w_iconst (by decide) (tX11_isRoom_0_ok (5, .iconst 2, 1) (List.mem_of_getElem? (i := 3) rfl)) (fun zv4 ze5 => ?_)
    refine w_aload_n (List.Mem.head _) (tX11_isRoom_0_ok (6, .aload_n 0, 1) (List.mem_of_getElem? (i := 4) rfl)) ?_
    refine z_get (f := (I 50)) (own := 16) (k := 20) hz rfl rfl rfl rfl rfl rfl rfl (by decide) (tX11_isRoom_0_ok (7, .getfield 248, 3) (List.mem_of_getElem? (i := 5) rfl)) ?_
    refine w_imul (by assumption) (by omega) (by omega) (tX11_isRoom_0_ok (10, .imul, 1) (List.mem_of_getElem? (i := 6) rfl)) (fun zv6 ze7 => ?_)
    refine w_icmp_ge (tgt := 18) (tX11_isRoom_0_ok (11, .if_icmp .ge 7, 3) (List.mem_of_getElem? (i := 7) rfl)) rfl (fun zb8 => ?_) (fun zb8 => ?_)
    · refine w_iconst (by decide) (tX11_isRoom_0_ok (18, .iconst 0, 1) (List.mem_of_getElem? (i := 10) rfl)) (fun zv9 ze10 => ?_)
      refine w_zret rfl (by omega) (by omega) (tX11_isRoom_0_ok (19, .ireturn, 1) (List.mem_of_getElem? (i := 11) rfl)) ?_
      exact hq _ (by omega)
    · refine w_iconst (by decide) (tX11_isRoom_0_ok (14, .iconst 1, 1) (List.mem_of_getElem? (i := 8) rfl)) (fun zv11 ze12 => ?_)
      refine w_goto (tgt := 19) (tX11_isRoom_0_ok (15, .goto 4, 3) (List.mem_of_getElem? (i := 9) rfl)) rfl ?_
      refine w_zret rfl (by omega) (by omega) (tX11_isRoom_0_ok (19, .ireturn, 1) (List.mem_of_getElem? (i := 11) rfl)) ?_
      exact hq _ (by omega)
theorem y_isPerson (hT : k_tys tys cA) {p : Int32} (hz : zr zNM cA ad I W O h) (hn : (I 50 33).toInt = (pe : Int)) (hq : ∀ v : Int32, (v.toInt = 1 ∧ (0 ≤ p.toInt ∧ p.toInt < (pe : Int)) ∨ v.toInt = 0 ∧ ¬ (0 ≤ p.toInt ∧ p.toInt < (pe : Int))) → Q (some (.int v)) h) : ww l D tys A X fr lo mX11_isPerson Q 0 [(0, .ref (ad 50)), (1, .int p)] [] h := by
  refine w_iload_n (List.Mem.tail _ (List.Mem.head _)) (tX11_isPerson_0_ok (0, .iload_n 1, 1) (List.mem_of_getElem? (i := 0) rfl)) ?_
  refine w_if_lt (tgt := 16) (tX11_isPerson_0_ok (1, .ifCond .lt 15, 3) (List.mem_of_getElem? (i := 1) rfl)) rfl (fun zb1 => ?_) (fun zb1 => ?_)
  · refine w_iconst (by decide) (tX11_isPerson_0_ok (16, .iconst 0, 1) (List.mem_of_getElem? (i := 8) rfl)) (fun zv2 ze3 => ?_)
    refine w_zret rfl (by omega) (by omega) (tX11_isPerson_0_ok (17, .ireturn, 1) (List.mem_of_getElem? (i := 9) rfl)) ?_
    exact hq _ (by omega)
  · refine w_iload_n (List.Mem.tail _ (List.Mem.head _)) (tX11_isPerson_0_ok (4, .iload_n 1, 1) (List.mem_of_getElem? (i := 2) rfl)) ?_
    refine w_aload_n (List.Mem.head _) (tX11_isPerson_0_ok (5, .aload_n 0, 1) (List.mem_of_getElem? (i := 3) rfl)) ?_
    refine z_get (f := (I 50)) (own := 16) (k := 33) hz rfl rfl rfl rfl rfl rfl rfl (by decide) (tX11_isPerson_0_ok (6, .getfield 261, 3) (List.mem_of_getElem? (i := 4) rfl)) ?_
    refine w_icmp_ge (tgt := 16) (tX11_isPerson_0_ok (9, .if_icmp .ge 7, 3) (List.mem_of_getElem? (i := 5) rfl)) rfl (fun zb4 => ?_) (fun zb4 => ?_)
    · refine w_iconst (by decide) (tX11_isPerson_0_ok (16, .iconst 0, 1) (List.mem_of_getElem? (i := 8) rfl)) (fun zv5 ze6 => ?_)
      refine w_zret rfl (by omega) (by omega) (tX11_isPerson_0_ok (17, .ireturn, 1) (List.mem_of_getElem? (i := 9) rfl)) ?_
      exact hq _ (by omega)
    · refine w_iconst (by decide) (tX11_isPerson_0_ok (12, .iconst 1, 1) (List.mem_of_getElem? (i := 6) rfl)) (fun zv7 ze8 => ?_)
      refine w_goto (tgt := 17) (tX11_isPerson_0_ok (13, .goto 4, 3) (List.mem_of_getElem? (i := 7) rfl)) rfl ?_
      refine w_zret rfl (by omega) (by omega) (tX11_isPerson_0_ok (17, .ireturn, 1) (List.mem_of_getElem? (i := 9) rfl)) ?_
      exact hq _ (by omega)
theorem y_isPlace (hT : k_tys tys cA) {p : Int32} (hz : zr zNM cA ad I W O h) (hn : (I 50 20).toInt = (n : Int)) (n6 : n ≤ 6) (hg : (I 50 32).toInt = (ga : Int)) (g6 : ga ≤ 6) (hf : 1 ≤ fr) (hlo : 30 ≤ lo) (hq : ∀ v : Int32, (v.toInt = 1 ∧ isPl n ga p.toInt ∨ v.toInt = 0 ∧ ¬ isPl n ga p.toInt) → Q (some (.int v)) h) : ww l D tys A X fr lo mX11_isPlace Q 0 [(0, .ref (ad 50)), (1, .int p)] [] h := by
  refine w_aload_n (List.Mem.head _) (tX11_isPlace_0_ok (0, .aload_n 0, 1) (List.mem_of_getElem? (i := 0) rfl)) ?_
  refine w_iload_n (List.Mem.tail _ (List.Mem.head _)) (tX11_isPlace_0_ok (1, .iload_n 1, 1) (List.mem_of_getElem? (i := 1) rfl)) ?_
  refine w_callV (own := 16) (mi := 203) [.int p] [] [(0, .ref (ad 50)), (1, .int p)] rfl (cllw_X11 (274, 0, 203) (List.mem_of_getElem? (i := 38) rfl)) rfl rfl (hz.ob rfl rfl) rfl (by omega) (w_lo (n := 21) rfl (by omega)) (Nat.le_of_ble_eq_true rfl) (Nat.le_of_ble_eq_true rfl) rfl (tX11_isPlace_0_ok (2, .invokevirtual 274, 3) (List.mem_of_getElem? (i := 2) rfl)) (y_isRoom hT hz hn n6 (fun zv1 ze2 => ?_))
  show ww l D tys A X fr lo mX11_isPlace Q 5 [(0, .ref (ad 50)), (1, .int p)] [.int zv1] h
  refine w_if_ne (tgt := 25) (tX11_isPlace_0_ok (5, .ifCond .ne 20, 3) (List.mem_of_getElem? (i := 3) rfl)) rfl (fun zb3 => ?_) (fun zb3 => ?_)
  · refine w_iconst (by decide) (tX11_isPlace_0_ok (25, .iconst 1, 1) (List.mem_of_getElem? (i := 13) rfl)) (fun zv4 ze5 => ?_)
    refine w_goto (tgt := 30) (tX11_isPlace_0_ok (26, .goto 4, 3) (List.mem_of_getElem? (i := 14) rfl)) rfl ?_
    refine w_zret rfl (by omega) (by omega) (tX11_isPlace_0_ok (30, .ireturn, 1) (List.mem_of_getElem? (i := 16) rfl)) ?_
    unfold isPl at hq
    exact hq _ (by omega)
  · refine w_iload_n (List.Mem.tail _ (List.Mem.head _)) (tX11_isPlace_0_ok (8, .iload_n 1, 1) (List.mem_of_getElem? (i := 4) rfl)) ?_
    refine w_bipush (by decide) (tX11_isPlace_0_ok (9, .bipush 12, 2) (List.mem_of_getElem? (i := 5) rfl)) (fun zv6 ze7 => ?_)
    refine w_icmp_lt (tgt := 29) (tX11_isPlace_0_ok (11, .if_icmp .lt 18, 3) (List.mem_of_getElem? (i := 6) rfl)) rfl (fun zb8 => ?_) (fun zb8 => ?_)
    · refine w_iconst (by decide) (tX11_isPlace_0_ok (29, .iconst 0, 1) (List.mem_of_getElem? (i := 15) rfl)) (fun zv9 ze10 => ?_)
      refine w_zret rfl (by omega) (by omega) (tX11_isPlace_0_ok (30, .ireturn, 1) (List.mem_of_getElem? (i := 16) rfl)) ?_
      unfold isPl at hq
      exact hq _ (by omega)
    · refine w_iload_n (List.Mem.tail _ (List.Mem.head _)) (tX11_isPlace_0_ok (14, .iload_n 1, 1) (List.mem_of_getElem? (i := 7) rfl)) ?_
      refine w_bipush (by decide) (tX11_isPlace_0_ok (15, .bipush 12, 2) (List.mem_of_getElem? (i := 8) rfl)) (fun zv11 ze12 => ?_)
      refine w_aload_n (List.Mem.head _) (tX11_isPlace_0_ok (17, .aload_n 0, 1) (List.mem_of_getElem? (i := 9) rfl)) ?_
      refine z_get (f := (I 50)) (own := 16) (k := 32) hz rfl rfl rfl rfl rfl rfl rfl (by decide) (tX11_isPlace_0_ok (18, .getfield 258, 3) (List.mem_of_getElem? (i := 10) rfl)) ?_
      refine w_iadd (by omega) (by omega) (tX11_isPlace_0_ok (21, .iadd, 1) (List.mem_of_getElem? (i := 11) rfl)) (fun zv13 ze14 => ?_)
      refine w_icmp_ge (tgt := 29) (tX11_isPlace_0_ok (22, .if_icmp .ge 7, 3) (List.mem_of_getElem? (i := 12) rfl)) rfl (fun zb15 => ?_) (fun zb15 => ?_)
      · refine w_iconst (by decide) (tX11_isPlace_0_ok (29, .iconst 0, 1) (List.mem_of_getElem? (i := 15) rfl)) (fun zv16 ze17 => ?_)
        refine w_zret rfl (by omega) (by omega) (tX11_isPlace_0_ok (30, .ireturn, 1) (List.mem_of_getElem? (i := 16) rfl)) ?_
        unfold isPl at hq
        exact hq _ (by omega)
      · refine w_iconst (by decide) (tX11_isPlace_0_ok (25, .iconst 1, 1) (List.mem_of_getElem? (i := 13) rfl)) (fun zv18 ze19 => ?_)
        refine w_goto (tgt := 30) (tX11_isPlace_0_ok (26, .goto 4, 3) (List.mem_of_getElem? (i := 14) rfl)) rfl ?_
        refine w_zret rfl (by omega) (by omega) (tX11_isPlace_0_ok (30, .ireturn, 1) (List.mem_of_getElem? (i := 16) rfl)) ?_
        unfold isPl at hq
        exact hq _ (by omega)
theorem y_areTwo (hT : k_tys tys cA) {p q : Int32} (hz : zr zNM cA ad I W O h) (hn : (I 50 20).toInt = (n : Int)) (n6 : n ≤ 6) (hg : (I 50 32).toInt = (ga : Int)) (g6 : ga ≤ 6) (hf : 2 ≤ fr) (hlo : 60 ≤ lo) (hq : ∀ v : Int32, (v.toInt = 1 ∧ (isPl n ga p.toInt ∧ isPl n ga q.toInt ∧ ¬ p.toInt = q.toInt) ∨ v.toInt = 0 ∧ ¬ (isPl n ga p.toInt ∧ isPl n ga q.toInt ∧ ¬ p.toInt = q.toInt)) → Q (some (.int v)) h) : ww l D tys A X fr lo mX11_areTwo Q 0 [(0, .ref (ad 50)), (1, .int p), (2, .int q)] [] h := by
  refine w_aload_n (List.Mem.head _) (tX11_areTwo_0_ok (0, .aload_n 0, 1) (List.mem_of_getElem? (i := 0) rfl)) ?_
  refine w_iload_n (List.Mem.tail _ (List.Mem.head _)) (tX11_areTwo_0_ok (1, .iload_n 1, 1) (List.mem_of_getElem? (i := 1) rfl)) ?_
  refine w_callV (own := 16) (mi := 202) [.int p] [] [(0, .ref (ad 50)), (1, .int p)] rfl (cllw_X11 (317, 0, 202) (List.mem_of_getElem? (i := 47) rfl)) rfl rfl (hz.ob rfl rfl) rfl (by omega) (w_lo (n := 21) rfl (by omega)) (Nat.le_of_ble_eq_true rfl) (Nat.le_of_ble_eq_true rfl) rfl (tX11_areTwo_0_ok (2, .invokevirtual 317, 3) (List.mem_of_getElem? (i := 2) rfl)) (y_isPlace hT hz hn n6 hg g6 (by omega) (w_sub (n := 21) rfl (by omega)) (fun zv1 ze2 => ?_))
  show ww l D tys A X fr lo mX11_areTwo Q 5 [(0, .ref (ad 50)), (1, .int p), (2, .int q)] [.int zv1] h
  unfold isPl at ze2
  refine w_if_eq (tgt := 25) (tX11_areTwo_0_ok (5, .ifCond .eq 20, 3) (List.mem_of_getElem? (i := 3) rfl)) rfl (fun zb3 => ?_) (fun zb3 => ?_)
  · refine w_iconst (by decide) (tX11_areTwo_0_ok (25, .iconst 0, 1) (List.mem_of_getElem? (i := 13) rfl)) (fun zv4 ze5 => ?_)
    refine w_zret rfl (by omega) (by omega) (tX11_areTwo_0_ok (26, .ireturn, 1) (List.mem_of_getElem? (i := 14) rfl)) ?_
    unfold isPl at hq
    exact hq _ (by omega)
  · refine w_aload_n (List.Mem.head _) (tX11_areTwo_0_ok (8, .aload_n 0, 1) (List.mem_of_getElem? (i := 4) rfl)) ?_
    refine w_iload_n (List.Mem.tail _ (List.Mem.tail _ (List.Mem.head _))) (tX11_areTwo_0_ok (9, .iload_n 2, 1) (List.mem_of_getElem? (i := 5) rfl)) ?_
    refine w_callV (own := 16) (mi := 202) [.int q] [] [(0, .ref (ad 50)), (1, .int q)] rfl (cllw_X11 (317, 0, 202) (List.mem_of_getElem? (i := 47) rfl)) rfl rfl (hz.ob rfl rfl) rfl (by omega) (w_lo (n := 21) rfl (by omega)) (Nat.le_of_ble_eq_true rfl) (Nat.le_of_ble_eq_true rfl) rfl (tX11_areTwo_0_ok (10, .invokevirtual 317, 3) (List.mem_of_getElem? (i := 6) rfl)) (y_isPlace hT hz hn n6 hg g6 (by omega) (w_sub (n := 21) rfl (by omega)) (fun zv6 ze7 => ?_))
    show ww l D tys A X fr lo mX11_areTwo Q 13 [(0, .ref (ad 50)), (1, .int p), (2, .int q)] [.int zv6] h
    unfold isPl at ze7
    refine w_if_eq (tgt := 25) (tX11_areTwo_0_ok (13, .ifCond .eq 12, 3) (List.mem_of_getElem? (i := 7) rfl)) rfl (fun zb8 => ?_) (fun zb8 => ?_)
    · refine w_iconst (by decide) (tX11_areTwo_0_ok (25, .iconst 0, 1) (List.mem_of_getElem? (i := 13) rfl)) (fun zv9 ze10 => ?_)
      refine w_zret rfl (by omega) (by omega) (tX11_areTwo_0_ok (26, .ireturn, 1) (List.mem_of_getElem? (i := 14) rfl)) ?_
      unfold isPl at hq
      exact hq _ (by omega)
    · refine w_iload_n (List.Mem.tail _ (List.Mem.head _)) (tX11_areTwo_0_ok (16, .iload_n 1, 1) (List.mem_of_getElem? (i := 8) rfl)) ?_
      refine w_iload_n (List.Mem.tail _ (List.Mem.tail _ (List.Mem.head _))) (tX11_areTwo_0_ok (17, .iload_n 2, 1) (List.mem_of_getElem? (i := 9) rfl)) ?_
      refine w_icmp_eq (tgt := 25) (tX11_areTwo_0_ok (18, .if_icmp .eq 7, 3) (List.mem_of_getElem? (i := 10) rfl)) rfl (fun zb11 => ?_) (fun zb11 => ?_)
      · refine w_iconst (by decide) (tX11_areTwo_0_ok (25, .iconst 0, 1) (List.mem_of_getElem? (i := 13) rfl)) (fun zv12 ze13 => ?_)
        refine w_zret rfl (by omega) (by omega) (tX11_areTwo_0_ok (26, .ireturn, 1) (List.mem_of_getElem? (i := 14) rfl)) ?_
        unfold isPl at hq
        exact hq _ (by omega)
      · refine w_iconst (by decide) (tX11_areTwo_0_ok (21, .iconst 1, 1) (List.mem_of_getElem? (i := 11) rfl)) (fun zv14 ze15 => ?_)
        refine w_goto (tgt := 26) (tX11_areTwo_0_ok (22, .goto 4, 3) (List.mem_of_getElem? (i := 12) rfl)) rfl ?_
        refine w_zret rfl (by omega) (by omega) (tX11_areTwo_0_ok (26, .ireturn, 1) (List.mem_of_getElem? (i := 14) rfl)) ?_
        unfold isPl at hq
        exact hq _ (by omega)
theorem y9_brake5 (hT : k_tys tys cA) {p o : Int32} (hz : zr zNM cA ad I W O h) (hk : kok τ φ) (H : rS τ φ I W) (hf : 30 ≤ fr) (hlo : 900 ≤ lo) (ho : 0 ≤ o.toInt ∧ o.toInt ≤ 1) (hq : ∀ (g : ch_H) (I1 : zI) (W1 : zW) (v : Int32), rS τ (k9_brake p o τ φ) I1 W1 → zr zNM cA ad I1 W1 O g → zf zNM ad h g → Q (some (.int v)) g) : ww l D tys A X fr lo mX11_brake Q 5 [(0, .ref (ad 50)), (1, .int p), (2, .int o)] [] h := by
  have n6 := hk.1.1
  obtain ⟨ga6, pe8, ta6⟩ := hk.2.2.2.1
  obtain ⟨h1, ⟨h21, h22, h23⟩, ⟨h3, h32⟩, h4, h5, h6, h7, h8, h9, h10, h11⟩ := id H
  have r0 := h1.1
  refine w_aload_n (List.Mem.head _) (tX11_brake_0_ok (5, .aload_n 0, 1) (List.mem_of_getElem? (i := 3) rfl)) ?_
  refine w_iload_n (List.Mem.tail _ (List.Mem.head _)) (tX11_brake_0_ok (6, .iload_n 1, 1) (List.mem_of_getElem? (i := 4) rfl)) ?_
  refine w_callV (own := 16) (mi := 204) [.int p] [] [(0, .ref (ad 50)), (1, .int p)] rfl (cllw_X11 (286, 0, 204) (List.mem_of_getElem? (i := 35) rfl)) rfl rfl (hz.ob rfl rfl) rfl (by omega) (w_lo (n := 21) rfl (by omega)) (Nat.le_of_ble_eq_true rfl) (Nat.le_of_ble_eq_true rfl) rfl (tX11_brake_0_ok (7, .invokevirtual 286, 3) (List.mem_of_getElem? (i := 5) rfl)) (y_isRope hT hz r0 n6 (fun zv1 ze2 => ?_))
  show ww l D tys A X fr lo mX11_brake Q 10 [(0, .ref (ad 50)), (1, .int p), (2, .int o)] [.int zv1] h
  refine w_if_ne (tgt := 15) (tX11_brake_0_ok (10, .ifCond .ne 5, 3) (List.mem_of_getElem? (i := 6) rfl)) rfl (fun zb3 => ?_) (fun zb3 => ?_)
  · refine w_aload_n (List.Mem.head _) (tX11_brake_0_ok (15, .aload_n 0, 1) (List.mem_of_getElem? (i := 9) rfl)) ?_
    refine z_getR (L1 := 56) (own := 16) (k := 22) hz rfl rfl rfl rfl rfl rfl rfl (by decide) (tX11_brake_0_ok (16, .getfield 45, 3) (List.mem_of_getElem? (i := 10) rfl)) ?_
    refine w_bipush (by decide) (tX11_brake_0_ok (19, .bipush 12, 2) (List.mem_of_getElem? (i := 11) rfl)) (fun zv4 ze5 => ?_)
    refine w_iload_n (List.Mem.tail _ (List.Mem.head _)) (tX11_brake_0_ok (21, .iload_n 1, 1) (List.mem_of_getElem? (i := 12) rfl)) ?_
    refine w_iadd (by omega) (by omega) (tX11_brake_0_ok (22, .iadd, 1) (List.mem_of_getElem? (i := 13) rfl)) (fun zv6 ze7 => ?_)
    refine w_iload_n (List.Mem.tail _ (List.Mem.tail _ (List.Mem.head _))) (tX11_brake_0_ok (23, .iload_n 2, 1) (List.mem_of_getElem? (i := 14) rfl)) ?_
    refine w_if_eq (tgt := 31) (tX11_brake_0_ok (24, .ifCond .eq 7, 3) (List.mem_of_getElem? (i := 15) rfl)) rfl (fun zb8 => ?_) (fun zb8 => ?_)
    · refine w_iconst (by decide) (tX11_brake_0_ok (31, .iconst 0, 1) (List.mem_of_getElem? (i := 18) rfl)) (fun zv9 ze10 => ?_)
      refine z_iast (f := (I 56)) hT hz rfl rfl rfl (by omega) (by omega) (tX11_brake_0_ok (32, .iastore, 1) (List.mem_of_getElem? (i := 19) rfl)) (fun zh11 zI12 zq13 zz14 zf15 => ?_)
      refine w_iconst (by decide) (tX11_brake_0_ok (33, .iconst 1, 1) (List.mem_of_getElem? (i := 20) rfl)) (fun zv16 ze17 => ?_)
      refine w_zret rfl (by omega) (by omega) (tX11_brake_0_ok (34, .ireturn, 1) (List.mem_of_getElem? (i := 21) rfl)) ?_
      have ek : k9_brake p o τ φ = k56 φ (upd (φ.1 56) (12 + p.toInt.toNat) o) := if_pos (by omega)
      have c1 := ((congrFun zq13 56).trans (s2_s _ _ _))
      rw [show zv6.toInt.toNat = 12 + p.toInt.toNat by omega, show zv9 = o from (kn_eq _ _).mpr (by omega)] at c1
      refine hq zh11 zI12 W _ ?_ zz14 zf15
      rw [ek]
      refine rS.t (K := s2 φ.1 56 _) (V := φ.2.1) H (fun L hL => s2_n hL) rfl (fun L n1 n2 => by rw [zq13, s2_n n1]) (fun k9 _ => by rw [zq13, s2_n (by decide)]) rfl ⟨?_, h32⟩
      rw [s2_s]
      exact h3.one_ c1 (fun _ _ => trivial)
    · refine w_iconst (by decide) (tX11_brake_0_ok (27, .iconst 1, 1) (List.mem_of_getElem? (i := 16) rfl)) (fun zv18 ze19 => ?_)
      refine w_goto (tgt := 32) (tX11_brake_0_ok (28, .goto 4, 3) (List.mem_of_getElem? (i := 17) rfl)) rfl ?_
      refine z_iast (f := (I 56)) hT hz rfl rfl rfl (by omega) (by omega) (tX11_brake_0_ok (32, .iastore, 1) (List.mem_of_getElem? (i := 19) rfl)) (fun zh20 zI21 zq22 zz23 zf24 => ?_)
      refine w_iconst (by decide) (tX11_brake_0_ok (33, .iconst 1, 1) (List.mem_of_getElem? (i := 20) rfl)) (fun zv25 ze26 => ?_)
      refine w_zret rfl (by omega) (by omega) (tX11_brake_0_ok (34, .ireturn, 1) (List.mem_of_getElem? (i := 21) rfl)) ?_
      have ek : k9_brake p o τ φ = k56 φ (upd (φ.1 56) (12 + p.toInt.toNat) o) := if_pos (by omega)
      have c1 := ((congrFun zq22 56).trans (s2_s _ _ _))
      rw [show zv6.toInt.toNat = 12 + p.toInt.toNat by omega, show zv18 = o from (kn_eq _ _).mpr (by omega)] at c1
      refine hq zh20 zI21 W _ ?_ zz23 zf24
      rw [ek]
      refine rS.t (K := s2 φ.1 56 _) (V := φ.2.1) H (fun L hL => s2_n hL) rfl (fun L n1 n2 => by rw [zq22, s2_n n1]) (fun k9 _ => by rw [zq22, s2_n (by decide)]) rfl ⟨?_, h32⟩
      rw [s2_s]
      exact h3.one_ c1 (fun _ _ => trivial)
  · refine w_iconst (by decide) (tX11_brake_0_ok (13, .iconst 0, 1) (List.mem_of_getElem? (i := 7) rfl)) (fun zv27 ze28 => ?_)
    refine w_zret rfl (by omega) (by omega) (tX11_brake_0_ok (14, .ireturn, 1) (List.mem_of_getElem? (i := 8) rfl)) ?_
    have ek : k9_brake p o τ φ = φ := if_neg (by omega)
    exact hq h I W _ (by rw [ek]; exact H) hz zf.rf
theorem y9_brake (hT : k_tys tys cA) {p o : Int32} (hz : zr zNM cA ad I W O h) (hk : kok τ φ) (H : rS τ φ I W) (hf : 30 ≤ fr) (hlo : 900 ≤ lo) (ho : 0 ≤ o.toInt ∧ o.toInt ≤ 1) (hq : ∀ (g : ch_H) (I1 : zI) (W1 : zW) (v : Int32), rS τ (k9_brake p o τ φ) I1 W1 → zr zNM cA ad I1 W1 O g → zf zNM ad h g → Q (some (.int v)) g) : ww l D tys A X fr lo mX11_brake Q 0 [(0, .ref (ad 50)), (1, .int p), (2, .int o)] [] h := by
  refine w_aload_n (List.Mem.head _) (tX11_brake_0_ok (0, .aload_n 0, 1) (List.mem_of_getElem? (i := 0) rfl)) ?_
  refine w_iconst (by decide) (tX11_brake_0_ok (1, .iconst 0, 1) (List.mem_of_getElem? (i := 1) rfl)) (fun zv1 ze2 => ?_)
  refine z_put (f := (I 50)) (own := 16) (k := 0) hz rfl rfl rfl rfl rfl rfl rfl (by decide) rfl ⟨rfl, rfl⟩ (tX11_brake_0_ok (2, .putfield 85, 3) (List.mem_of_getElem? (i := 2) rfl)) (fun zh3 zI4 zq5 zz6 zf7 => ?_)
  exact y9_brake5 hT zz6 hk (H.th zq5) hf hlo ho (fun g I1 W1 v a b c => hq g I1 W1 v a b (zf7.tr c))
theorem y9_water5 (hT : k_tys tys cA) {r v9 : Int32} (hz : zr zNM cA ad I W O h) (hk : kok τ φ) (H : rS τ φ I W) (hf : 30 ≤ fr) (hlo : 900 ≤ lo) (hq : ∀ (g : ch_H) (I1 : zI) (W1 : zW) (v : Int32), rS τ (k9_water r v9 τ φ) I1 W1 → zr zNM cA ad I1 W1 O g → zf zNM ad h g → Q (some (.int v)) g) : ww l D tys A X fr lo mX11_water Q 5 [(0, .ref (ad 50)), (1, .int r), (2, .int v9)] [] h := by
  have n6 := hk.1.1
  obtain ⟨ga6, pe8, ta6⟩ := hk.2.2.2.1
  obtain ⟨h1, ⟨h21, h22, h23⟩, ⟨h3, h32⟩, h4, h5, h6, h7, h8, h9, h10, h11⟩ := id H
  have r0 := h1.1
  refine w_aload_n (List.Mem.head _) (tX11_water_0_ok (5, .aload_n 0, 1) (List.mem_of_getElem? (i := 3) rfl)) ?_
  refine w_iload_n (List.Mem.tail _ (List.Mem.head _)) (tX11_water_0_ok (6, .iload_n 1, 1) (List.mem_of_getElem? (i := 4) rfl)) ?_
  refine w_callV (own := 16) (mi := 203) [.int r] [] [(0, .ref (ad 50)), (1, .int r)] rfl (cllw_X11 (274, 0, 203) (List.mem_of_getElem? (i := 38) rfl)) rfl rfl (hz.ob rfl rfl) rfl (by omega) (w_lo (n := 21) rfl (by omega)) (Nat.le_of_ble_eq_true rfl) (Nat.le_of_ble_eq_true rfl) rfl (tX11_water_0_ok (7, .invokevirtual 274, 3) (List.mem_of_getElem? (i := 5) rfl)) (y_isRoom hT hz r0 n6 (fun zv1 ze2 => ?_))
  show ww l D tys A X fr lo mX11_water Q 10 [(0, .ref (ad 50)), (1, .int r), (2, .int v9)] [.int zv1] h
  refine w_if_eq (tgt := 23) (tX11_water_0_ok (10, .ifCond .eq 13, 3) (List.mem_of_getElem? (i := 6) rfl)) rfl (fun zb3 => ?_) (fun zb3 => ?_)
  · refine w_iconst (by decide) (tX11_water_0_ok (23, .iconst 0, 1) (List.mem_of_getElem? (i := 12) rfl)) (fun zv4 ze5 => ?_)
    refine w_zret rfl (by omega) (by omega) (tX11_water_0_ok (24, .ireturn, 1) (List.mem_of_getElem? (i := 13) rfl)) ?_
    have ek : k9_water r v9 τ φ = φ := if_neg (by omega)
    exact hq h I W _ (by rw [ek]; exact H) hz zf.rf
  · refine w_iload_n (List.Mem.tail _ (List.Mem.tail _ (List.Mem.head _))) (tX11_water_0_ok (13, .iload_n 2, 1) (List.mem_of_getElem? (i := 7) rfl)) ?_
    refine w_iconst (by decide) (tX11_water_0_ok (14, .iconst 0, 1) (List.mem_of_getElem? (i := 8) rfl)) (fun zv6 ze7 => ?_)
    refine w_bipush (by decide) (tX11_water_0_ok (15, .bipush 99, 2) (List.mem_of_getElem? (i := 9) rfl)) (fun zv8 ze9 => ?_)
    refine w_callS (own := 16) (mi := 199) [.int v9, .int zv6, .int zv8] [] [(0, .int v9), (1, .int zv6), (2, .int zv8)] rfl (cllw_X11 (207, 1, 199) (List.mem_of_getElem? (i := 2) rfl)) rfl rfl (by omega) (w_lo (n := 22) rfl (by omega)) (Nat.le_of_ble_eq_true rfl) (Nat.le_of_ble_eq_true rfl) rfl (tX11_water_0_ok (17, .invokestatic 207, 3) (List.mem_of_getElem? (i := 10) rfl)) (r_isIn (fun zv10 ze11 => ?_))
    show ww l D tys A X fr lo mX11_water Q 20 [(0, .ref (ad 50)), (1, .int r), (2, .int v9)] [.int zv10] h
    refine w_if_ne (tgt := 25) (tX11_water_0_ok (20, .ifCond .ne 5, 3) (List.mem_of_getElem? (i := 11) rfl)) rfl (fun zb12 => ?_) (fun zb12 => ?_)
    · refine w_aload_n (List.Mem.head _) (tX11_water_0_ok (25, .aload_n 0, 1) (List.mem_of_getElem? (i := 14) rfl)) ?_
      refine z_getR (L1 := 56) (own := 16) (k := 22) hz rfl rfl rfl rfl rfl rfl rfl (by decide) (tX11_water_0_ok (26, .getfield 45, 3) (List.mem_of_getElem? (i := 15) rfl)) ?_
      refine w_bipush (by decide) (tX11_water_0_ok (29, .bipush 18, 2) (List.mem_of_getElem? (i := 16) rfl)) (fun zv13 ze14 => ?_)
      refine w_iload_n (List.Mem.tail _ (List.Mem.head _)) (tX11_water_0_ok (31, .iload_n 1, 1) (List.mem_of_getElem? (i := 17) rfl)) ?_
      refine w_iadd (by omega) (by omega) (tX11_water_0_ok (32, .iadd, 1) (List.mem_of_getElem? (i := 18) rfl)) (fun zv15 ze16 => ?_)
      refine w_iload_n (List.Mem.tail _ (List.Mem.tail _ (List.Mem.head _))) (tX11_water_0_ok (33, .iload_n 2, 1) (List.mem_of_getElem? (i := 19) rfl)) ?_
      refine z_iast (f := (I 56)) hT hz rfl rfl rfl (by omega) (by omega) (tX11_water_0_ok (34, .iastore, 1) (List.mem_of_getElem? (i := 20) rfl)) (fun zh17 zI18 zq19 zz20 zf21 => ?_)
      refine w_iconst (by decide) (tX11_water_0_ok (35, .iconst 1, 1) (List.mem_of_getElem? (i := 21) rfl)) (fun zv22 ze23 => ?_)
      refine w_zret rfl (by omega) (by omega) (tX11_water_0_ok (36, .ireturn, 1) (List.mem_of_getElem? (i := 22) rfl)) ?_
      have ek : k9_water r v9 τ φ = k56 φ (upd (φ.1 56) (18 + r.toInt.toNat) v9) := if_pos (by omega)
      have c1 := ((congrFun zq19 56).trans (s2_s _ _ _))
      rw [show zv15.toInt.toNat = 18 + r.toInt.toNat by omega] at c1
      refine hq zh17 zI18 W _ ?_ zz20 zf21
      rw [ek]
      refine rS.t (K := s2 φ.1 56 _) (V := φ.2.1) H (fun L hL => s2_n hL) rfl (fun L n1 n2 => by rw [zq19, s2_n n1]) (fun k9 _ => by rw [zq19, s2_n (by decide)]) rfl ⟨?_, h32⟩
      rw [s2_s]
      exact h3.one_ c1 (fun _ _ => trivial)
    · refine w_iconst (by decide) (tX11_water_0_ok (23, .iconst 0, 1) (List.mem_of_getElem? (i := 12) rfl)) (fun zv24 ze25 => ?_)
      refine w_zret rfl (by omega) (by omega) (tX11_water_0_ok (24, .ireturn, 1) (List.mem_of_getElem? (i := 13) rfl)) ?_
      have ek : k9_water r v9 τ φ = φ := if_neg (by omega)
      exact hq h I W _ (by rw [ek]; exact H) hz zf.rf
theorem y9_water (hT : k_tys tys cA) {r v9 : Int32} (hz : zr zNM cA ad I W O h) (hk : kok τ φ) (H : rS τ φ I W) (hf : 30 ≤ fr) (hlo : 900 ≤ lo) (hq : ∀ (g : ch_H) (I1 : zI) (W1 : zW) (v : Int32), rS τ (k9_water r v9 τ φ) I1 W1 → zr zNM cA ad I1 W1 O g → zf zNM ad h g → Q (some (.int v)) g) : ww l D tys A X fr lo mX11_water Q 0 [(0, .ref (ad 50)), (1, .int r), (2, .int v9)] [] h := by
  refine w_aload_n (List.Mem.head _) (tX11_water_0_ok (0, .aload_n 0, 1) (List.mem_of_getElem? (i := 0) rfl)) ?_
  refine w_iconst (by decide) (tX11_water_0_ok (1, .iconst 0, 1) (List.mem_of_getElem? (i := 1) rfl)) (fun zv1 ze2 => ?_)
  refine z_put (f := (I 50)) (own := 16) (k := 0) hz rfl rfl rfl rfl rfl rfl rfl (by decide) rfl ⟨rfl, rfl⟩ (tX11_water_0_ok (2, .putfield 85, 3) (List.mem_of_getElem? (i := 2) rfl)) (fun zh3 zI4 zq5 zz6 zf7 => ?_)
  exact y9_water5 hT zz6 hk (H.th zq5) hf hlo (fun g I1 W1 v a b c => hq g I1 W1 v a b (zf7.tr c))
theorem w_minU {x y : Int32} (hM : M.1.cls = RX11) (hf : 1 ≤ fr) (hl : (st.map fun v => v.category).sum + 13 ≤ lo) (hd : decode M.2.1 pc = .ok (.invokestatic 293, 3)) (k : ∀ v : Int32, v.toInt = min x.toInt y.toInt → ww l D tys A X fr lo M Q (pc + 3) lv (.int v :: st) h) : ww l D tys A X fr lo M Q pc lv (.int y :: .int x :: st) h := by
  have hw : Cond.methodLink M.1.cls 293 Lib.Math.min.name ∈ wsA := by rw [hM]; exact cllw_X11 (293, 11, 0) (List.mem_of_getElem? (i := 41) rfl)
  refine tt_mmin hw pg_min.1 pg_math pg_min.2 hf hl (Nat.le_refl _) (Nat.le_refl _) hd (k _ ?_)
  by_cases c : y < x
  · have := Int32.lt_iff_toInt_lt.mp c
    rw [if_pos c]
    omega
  · have := mt Int32.lt_iff_toInt_lt.mpr c
    rw [if_neg c]
    omega
theorem w_maxU {x y : Int32} (hM : M.1.cls = RX11) (hf : 1 ≤ fr) (hl : (st.map fun v => v.category).sum + 13 ≤ lo) (hd : decode M.2.1 pc = .ok (.invokestatic 211, 3)) (k : ∀ v : Int32, v.toInt = max x.toInt y.toInt → ww l D tys A X fr lo M Q (pc + 3) lv (.int v :: st) h) : ww l D tys A X fr lo M Q pc lv (.int y :: .int x :: st) h := by
  have hw : Cond.methodLink M.1.cls 211 Lib.Math.max.name ∈ wsA := by rw [hM]; exact cllw_X11 (211, 10, 0) (List.mem_of_getElem? (i := 13) rfl)
  refine tt_mmax hw pg_max.1 pg_math pg_max.2 hf hl (Nat.le_refl _) (Nat.le_refl _) hd (k _ ?_)
  by_cases c : x < y
  · have := Int32.lt_iff_toInt_lt.mp c
    rw [if_pos c]
    omega
  · have := mt Int32.lt_iff_toInt_lt.mpr c
    rw [if_neg c]
    omega
theorem y9_turn5 (hT : k_tys tys cA) {p k : Int32} (hz : zr zNM cA ad I W O h) (hk : kok τ φ) (H : rS τ φ I W) (hf : 30 ≤ fr) (hlo : 900 ≤ lo) (hq : ∀ (g : ch_H) (I1 : zI) (W1 : zW) (v : Int32), (((0 ≤ p.toInt ∧ p.toInt < (τ.1 : Int)) ∧ φ.2.2.1 p.toInt.toNat 0 = 2 ∧ -20 ≤ k.toInt ∧ k.toInt ≤ 20) ∧ v.toInt = k9_trn p.toInt.toNat k.toInt φ ∨ ¬ ((0 ≤ p.toInt ∧ p.toInt < (τ.1 : Int)) ∧ φ.2.2.1 p.toInt.toNat 0 = 2 ∧ -20 ≤ k.toInt ∧ k.toInt ≤ 20) ∧ v.toInt = -1) → rS τ (k9_turn p k τ φ) I1 W1 → zr zNM cA ad I1 W1 O g → zf zNM ad h g → Q (some (.int v)) g) : ww l D tys A X fr lo mX11_turn Q 5 [(0, .ref (ad 50)), (1, .int p), (2, .int k)] [] h := by
  have n6 := hk.1.1
  obtain ⟨ga6, pe8, ta6⟩ := hk.2.2.2.1
  obtain ⟨h1, ⟨h21, h22, h23⟩, ⟨h3, h32⟩, h4, h5, h6, h7, h8, h9, h10, h11⟩ := id H
  have r0 := h1.1
  refine w_aload_n (List.Mem.head _) (tX11_turn_0_ok (5, .aload_n 0, 1) (List.mem_of_getElem? (i := 3) rfl)) ?_
  refine w_iload_n (List.Mem.tail _ (List.Mem.head _)) (tX11_turn_0_ok (6, .iload_n 1, 1) (List.mem_of_getElem? (i := 4) rfl)) ?_
  refine w_callV (own := 16) (mi := 204) [.int p] [] [(0, .ref (ad 50)), (1, .int p)] rfl (cllw_X11 (286, 0, 204) (List.mem_of_getElem? (i := 35) rfl)) rfl rfl (hz.ob rfl rfl) rfl (by omega) (w_lo (n := 21) rfl (by omega)) (Nat.le_of_ble_eq_true rfl) (Nat.le_of_ble_eq_true rfl) rfl (tX11_turn_0_ok (7, .invokevirtual 286, 3) (List.mem_of_getElem? (i := 5) rfl)) (y_isRope hT hz r0 n6 (fun zv1 ze2 => ?_))
  show ww l D tys A X fr lo mX11_turn Q 10 [(0, .ref (ad 50)), (1, .int p), (2, .int k)] [.int zv1] h
  refine w_if_eq (tgt := 34) (tX11_turn_0_ok (10, .ifCond .eq 24, 3) (List.mem_of_getElem? (i := 6) rfl)) rfl (fun zb3 => ?_) (fun zb3 => ?_)
  · refine w_iconst (by decide) (tX11_turn_0_ok (34, .iconst (-1), 1) (List.mem_of_getElem? (i := 18) rfl)) (fun zv4 ze5 => ?_)
    refine w_iret rfl (tX11_turn_0_ok (35, .ireturn, 1) (List.mem_of_getElem? (i := 19) rfl)) ?_
    have ek : k9_turn p k τ φ = φ := if_neg (by omega)
    exact hq h I W _ (Or.inr ⟨by omega, by omega⟩) (by rw [ek]; exact H) hz zf.rf
  · refine w_aload_n (List.Mem.head _) (tX11_turn_0_ok (13, .aload_n 0, 1) (List.mem_of_getElem? (i := 7) rfl)) ?_
    refine w_iload_n (List.Mem.tail _ (List.Mem.head _)) (tX11_turn_0_ok (14, .iload_n 1, 1) (List.mem_of_getElem? (i := 8) rfl)) ?_
    refine w_iconst (by decide) (tX11_turn_0_ok (15, .iconst 0, 1) (List.mem_of_getElem? (i := 9) rfl)) (fun zv6 ze7 => ?_)
    refine w_callV (own := 16) (mi := 219) [.int p, .int zv6] [] [(0, .ref (ad 50)), (1, .int p), (2, .int zv6)] rfl (cllw_X11 (255, 0, 219) (List.mem_of_getElem? (i := 34) rfl)) rfl rfl (hz.ob rfl rfl) rfl (by omega) (w_lo (n := 22) rfl (by omega)) (Nat.le_of_ble_eq_true rfl) (Nat.le_of_ble_eq_true rfl) rfl (tX11_turn_0_ok (16, .invokevirtual 255, 3) (List.mem_of_getElem? (i := 10) rfl)) (y_of hT hz h1 ⟨by omega, by omega⟩ (by omega) (fun zv8 ze9 => ?_))
    show ww l D tys A X fr lo mX11_turn Q 19 [(0, .ref (ad 50)), (1, .int p), (2, .int k)] [.int zv8] h
    rw [show zv6.toInt.toNat = 0 by omega] at ze9
    refine w_iconst (by decide) (tX11_turn_0_ok (19, .iconst 2, 1) (List.mem_of_getElem? (i := 11) rfl)) (fun zv10 ze11 => ?_)
    refine w_icmp_ne (tgt := 34) (tX11_turn_0_ok (20, .if_icmp .ne 14, 3) (List.mem_of_getElem? (i := 12) rfl)) rfl (fun zb12 => ?_) (fun zb12 => ?_)
    · refine w_iconst (by decide) (tX11_turn_0_ok (34, .iconst (-1), 1) (List.mem_of_getElem? (i := 18) rfl)) (fun zv13 ze14 => ?_)
      refine w_iret rfl (tX11_turn_0_ok (35, .ireturn, 1) (List.mem_of_getElem? (i := 19) rfl)) ?_
      have ek : k9_turn p k τ φ = φ := if_neg (by omega)
      exact hq h I W _ (Or.inr ⟨by omega, by omega⟩) (by rw [ek]; exact H) hz zf.rf
    · refine w_iload_n (List.Mem.tail _ (List.Mem.tail _ (List.Mem.head _))) (tX11_turn_0_ok (23, .iload_n 2, 1) (List.mem_of_getElem? (i := 13) rfl)) ?_
      refine w_bipush (by decide) (tX11_turn_0_ok (24, .bipush (-20), 2) (List.mem_of_getElem? (i := 14) rfl)) (fun zv15 ze16 => ?_)
      refine w_bipush (by decide) (tX11_turn_0_ok (26, .bipush 20, 2) (List.mem_of_getElem? (i := 15) rfl)) (fun zv17 ze18 => ?_)
      refine w_callS (own := 16) (mi := 199) [.int k, .int zv15, .int zv17] [] [(0, .int k), (1, .int zv15), (2, .int zv17)] rfl (cllw_X11 (207, 1, 199) (List.mem_of_getElem? (i := 2) rfl)) rfl rfl (by omega) (w_lo (n := 22) rfl (by omega)) (Nat.le_of_ble_eq_true rfl) (Nat.le_of_ble_eq_true rfl) rfl (tX11_turn_0_ok (28, .invokestatic 207, 3) (List.mem_of_getElem? (i := 16) rfl)) (r_isIn (fun zv19 ze20 => ?_))
      show ww l D tys A X fr lo mX11_turn Q 31 [(0, .ref (ad 50)), (1, .int p), (2, .int k)] [.int zv19] h
      refine w_if_ne (tgt := 36) (tX11_turn_0_ok (31, .ifCond .ne 5, 3) (List.mem_of_getElem? (i := 17) rfl)) rfl (fun zb21 => ?_) (fun zb21 => ?_)
      · refine w_aload_n (List.Mem.head _) (tX11_turn_0_ok (36, .aload_n 0, 1) (List.mem_of_getElem? (i := 20) rfl)) ?_
        refine z_getR (L1 := 56) (own := 16) (k := 22) hz rfl rfl rfl rfl rfl rfl rfl (by decide) (tX11_turn_0_ok (37, .getfield 45, 3) (List.mem_of_getElem? (i := 21) rfl)) ?_
        refine w_iload_n (List.Mem.tail _ (List.Mem.head _)) (tX11_turn_0_ok (40, .iload_n 1, 1) (List.mem_of_getElem? (i := 22) rfl)) ?_
        refine w_iconst (by decide) (tX11_turn_0_ok (41, .iconst 0, 1) (List.mem_of_getElem? (i := 23) rfl)) (fun zv22 ze23 => ?_)
        refine w_aload_n (List.Mem.head _) (tX11_turn_0_ok (42, .aload_n 0, 1) (List.mem_of_getElem? (i := 24) rfl)) ?_
        refine w_iload_n (List.Mem.tail _ (List.Mem.head _)) (tX11_turn_0_ok (43, .iload_n 1, 1) (List.mem_of_getElem? (i := 25) rfl)) ?_
        refine w_iconst (by decide) (tX11_turn_0_ok (44, .iconst 1, 1) (List.mem_of_getElem? (i := 26) rfl)) (fun zv24 ze25 => ?_)
        refine w_callV (own := 16) (mi := 219) [.int p, .int zv24] [.int zv22, .int p, .ref (ad 56)] [(0, .ref (ad 50)), (1, .int p), (2, .int zv24)] rfl (cllw_X11 (255, 0, 219) (List.mem_of_getElem? (i := 34) rfl)) rfl rfl (hz.ob rfl rfl) rfl (by omega) (w_lo (n := 22) rfl (by omega)) (Nat.le_of_ble_eq_true rfl) (Nat.le_of_ble_eq_true rfl) rfl (tX11_turn_0_ok (45, .invokevirtual 255, 3) (List.mem_of_getElem? (i := 27) rfl)) (y_of hT hz h1 ⟨by omega, by omega⟩ (by omega) (fun zv26 ze27 => ?_))
        show ww l D tys A X fr lo mX11_turn Q 48 [(0, .ref (ad 50)), (1, .int p), (2, .int k)] [.int zv26, .int zv22, .int p, .ref (ad 56)] h
        rw [show zv24.toInt.toNat = 1 by omega] at ze27
        refine w_aload_n (List.Mem.head _) (tX11_turn_0_ok (48, .aload_n 0, 1) (List.mem_of_getElem? (i := 28) rfl)) ?_
        refine z_getR (L1 := 56) (own := 16) (k := 22) hz rfl rfl rfl rfl rfl rfl rfl (by decide) (tX11_turn_0_ok (49, .getfield 45, 3) (List.mem_of_getElem? (i := 29) rfl)) ?_
        refine w_iload_n (List.Mem.tail _ (List.Mem.head _)) (tX11_turn_0_ok (52, .iload_n 1, 1) (List.mem_of_getElem? (i := 30) rfl)) ?_
        refine z_iald (f := (I 56)) hT hz rfl rfl rfl (by omega) (by omega) (tX11_turn_0_ok (53, .iaload, 1) (List.mem_of_getElem? (i := 31) rfl)) (fun zv28 zu29 => ?_)
        have ze30 : zv28.toInt = ((I 56) p.toInt.toNat).toInt := congrArg _ zu29
        have zy31 : zv28 = φ.1 56 p.toInt.toNat := by rw [zu29]; exact (h3.1 _ (show p.toInt.toNat < τ.1 by omega)).1
        have zy31b := hk.2.1.1 _ (show p.toInt.toNat < τ.1 by omega)
        rw [← zy31] at zy31b
        have zy31c := (hk.1.2 _ (show p.toInt.toNat < τ.1 by omega)).1.2.1
        refine w_iload_n (List.Mem.tail _ (List.Mem.tail _ (List.Mem.head _))) (tX11_turn_0_ok (54, .iload_n 2, 1) (List.mem_of_getElem? (i := 32) rfl)) ?_
        refine w_iadd (by omega) (by omega) (tX11_turn_0_ok (55, .iadd, 1) (List.mem_of_getElem? (i := 33) rfl)) (fun zv32 ze33 => ?_)
        refine w_minU rfl (by omega) (by show 1 + (1 + (1 + (0))) + 13 ≤ lo; omega) (tX11_turn_0_ok (56, .invokestatic 293, 3) (List.mem_of_getElem? (i := 34) rfl)) (fun zv34 ze35 => ?_)
        refine w_maxU rfl (by omega) (by show 1 + (1 + (0)) + 13 ≤ lo; omega) (tX11_turn_0_ok (59, .invokestatic 211, 3) (List.mem_of_getElem? (i := 35) rfl)) (fun zv36 ze37 => ?_)
        refine z_iast (f := (I 56)) hT hz rfl rfl rfl (by omega) (by omega) (tX11_turn_0_ok (62, .iastore, 1) (List.mem_of_getElem? (i := 36) rfl)) (fun zh38 zI39 zq40 zz41 zf42 => ?_)
        refine w_aload_n (List.Mem.head _) (tX11_turn_0_ok (63, .aload_n 0, 1) (List.mem_of_getElem? (i := 37) rfl)) ?_
        refine z_getR (L1 := 56) (own := 16) (k := 22) zz41 rfl rfl rfl rfl rfl rfl rfl (by decide) (tX11_turn_0_ok (64, .getfield 45, 3) (List.mem_of_getElem? (i := 38) rfl)) ?_
        refine w_iload_n (List.Mem.tail _ (List.Mem.head _)) (tX11_turn_0_ok (67, .iload_n 1, 1) (List.mem_of_getElem? (i := 39) rfl)) ?_
        refine z_iald (f := (upd (I 56) p.toInt.toNat zv36)) hT zz41 rfl rfl ((congrFun zq40 56).trans (s2_s _ _ _)) (by omega) (by omega) (tX11_turn_0_ok (68, .iaload, 1) (List.mem_of_getElem? (i := 40) rfl)) (fun zv43 zu44 => ?_)
        have ze45 : zv43.toInt = ((upd (I 56) p.toInt.toNat zv36) p.toInt.toNat).toInt := congrArg _ zu44
        refine w_iret rfl (tX11_turn_0_ok (69, .ireturn, 1) (List.mem_of_getElem? (i := 41) rfl)) ?_
        have ec : ((0 ≤ p.toInt ∧ p.toInt < (τ.1 : Int)) ∧ φ.2.2.1 p.toInt.toNat 0 = 2 ∧ -20 ≤ k.toInt ∧ k.toInt ≤ 20) := by omega
        have et : k9_trn p.toInt.toNat k.toInt φ = zv36.toInt := by
          unfold k9_trn
          rw [← zy31]
          omega
        have tb := k9_trn_b hk (p := p.toInt.toNat) (by omega) k.toInt
        have ev : Int32.ofInt (k9_trn p.toInt.toNat k.toInt φ) = zv36 := (kn_eq _ _).mpr (by rw [et, ofInt_b (by omega)])
        have ek : k9_turn p k τ φ = k56 φ (upd (φ.1 56) p.toInt.toNat (Int32.ofInt (k9_trn p.toInt.toNat k.toInt φ))) := if_pos ec
        have c1 := ((congrFun zq40 56).trans (s2_s _ _ _))
        refine hq zh38 zI39 W _ (Or.inl ⟨ec, ?_⟩) ?_ zz41 zf42
        · rw [zu44, upd_s, et]
        · rw [ek, ev]
          refine rS.t (K := s2 φ.1 56 _) (V := φ.2.1) H (fun L hL => s2_n hL) rfl (fun L n1 n2 => by rw [zq40, s2_n n1]) (fun k9 _ => by rw [zq40, s2_n (by decide)]) rfl ⟨?_, h32⟩
          rw [s2_s]
          exact h3.one_ c1 (fun _ _ => trivial)
      · refine w_iconst (by decide) (tX11_turn_0_ok (34, .iconst (-1), 1) (List.mem_of_getElem? (i := 18) rfl)) (fun zv46 ze47 => ?_)
        refine w_iret rfl (tX11_turn_0_ok (35, .ireturn, 1) (List.mem_of_getElem? (i := 19) rfl)) ?_
        have ek : k9_turn p k τ φ = φ := if_neg (by omega)
        exact hq h I W _ (Or.inr ⟨by omega, by omega⟩) (by rw [ek]; exact H) hz zf.rf
theorem y9_turn (hT : k_tys tys cA) {p k : Int32} (hz : zr zNM cA ad I W O h) (hk : kok τ φ) (H : rS τ φ I W) (hf : 30 ≤ fr) (hlo : 900 ≤ lo) (hq : ∀ (g : ch_H) (I1 : zI) (W1 : zW) (v : Int32), (((0 ≤ p.toInt ∧ p.toInt < (τ.1 : Int)) ∧ φ.2.2.1 p.toInt.toNat 0 = 2 ∧ -20 ≤ k.toInt ∧ k.toInt ≤ 20) ∧ v.toInt = k9_trn p.toInt.toNat k.toInt φ ∨ ¬ ((0 ≤ p.toInt ∧ p.toInt < (τ.1 : Int)) ∧ φ.2.2.1 p.toInt.toNat 0 = 2 ∧ -20 ≤ k.toInt ∧ k.toInt ≤ 20) ∧ v.toInt = -1) → rS τ (k9_turn p k τ φ) I1 W1 → zr zNM cA ad I1 W1 O g → zf zNM ad h g → Q (some (.int v)) g) : ww l D tys A X fr lo mX11_turn Q 0 [(0, .ref (ad 50)), (1, .int p), (2, .int k)] [] h := by
  refine w_aload_n (List.Mem.head _) (tX11_turn_0_ok (0, .aload_n 0, 1) (List.mem_of_getElem? (i := 0) rfl)) ?_
  refine w_iconst (by decide) (tX11_turn_0_ok (1, .iconst 0, 1) (List.mem_of_getElem? (i := 1) rfl)) (fun zv1 ze2 => ?_)
  refine z_put (f := (I 50)) (own := 16) (k := 0) hz rfl rfl rfl rfl rfl rfl rfl (by decide) rfl ⟨rfl, rfl⟩ (tX11_turn_0_ok (2, .putfield 85, 3) (List.mem_of_getElem? (i := 2) rfl)) (fun zh3 zI4 zq5 zz6 zf7 => ?_)
  exact y9_turn5 hT zz6 hk (H.th zq5) hf hlo (fun g I1 W1 v e a b c => hq g I1 W1 v e a b (zf7.tr c))
theorem y_miL (hT : k_tys tys cA) {k : Int32} {I0 : zI} {W0 : zW} (hk : kok τ φ) (hk6 : 1 ≤ k.toInt ∧ k.toInt ≤ 60) (hf : 20 ≤ fr) (hlo : 600 ≤ lo) (hOT : ∀ q, q < τ.1 → I0 56 (12 + q) = φ.1 56 (12 + q)) : ∀ (j9 : Nat) (h : ch_H) (I : zI) (W : zW) (sp t : Int32), t.toInt + j9 = k.toInt → 0 ≤ t.toInt → sp.toInt = (m_g φ.2.2.1 (kb τ φ) true τ.1 (φ.1 56) (φ.2.1 36) t.toInt.toNat).2.2 → (∀ q, q < τ.1 → I 56 q = (m_g φ.2.2.1 (kb τ φ) true τ.1 (φ.1 56) (φ.2.1 36) t.toInt.toNat).1 q ∧ I 56 (6 + q) = (m_g φ.2.2.1 (kb τ φ) true τ.1 (φ.1 56) (φ.2.1 36) t.toInt.toNat).1 (6 + q)) → W 50 36 = (m_g φ.2.2.1 (kb τ φ) true τ.1 (φ.1 56) (φ.2.1 36) t.toInt.toNat).2.1 → qz I τ.1 φ.2.2.1 → yz I τ.1 τ.2.2.1 (kb τ φ) → (∀ k9, 12 ≤ k9 → k9 ≠ 38 → I 56 k9 = I0 56 k9) → I 56 38 = I0 56 38 + t → (∀ L, L ≠ 56 → I L = I0 L) → (∀ k9, k9 ≠ 36 → W 50 k9 = W0 50 k9) → zr zNM cA ad I W O h → (∀ (g : ch_H) (I1 : zI) (W1 : zW) (v : Int32), v.toInt = (m_g φ.2.2.1 (kb τ φ) true τ.1 (φ.1 56) (φ.2.1 36) k.toInt.toNat).2.2 → (∀ q, q < τ.1 → I1 56 q = (m_g φ.2.2.1 (kb τ φ) true τ.1 (φ.1 56) (φ.2.1 36) k.toInt.toNat).1 q ∧ I1 56 (6 + q) = (m_g φ.2.2.1 (kb τ φ) true τ.1 (φ.1 56) (φ.2.1 36) k.toInt.toNat).1 (6 + q)) → W1 50 36 = (m_g φ.2.2.1 (kb τ φ) true τ.1 (φ.1 56) (φ.2.1 36) k.toInt.toNat).2.1 → (∀ k9, 12 ≤ k9 → k9 ≠ 38 → I1 56 k9 = I0 56 k9) → I1 56 38 = I0 56 38 + k → (∀ L, L ≠ 56 → I1 L = I0 L) → (∀ k9, k9 ≠ 36 → W1 50 k9 = W0 50 k9) → zr zNM cA ad I1 W1 O g → zf zNM ad h g → Q (some (.int v)) g) → ww l D tys A X fr lo mX11_minutes Q 28 [(2, .int sp), (3, .int t), (0, .ref (ad 50)), (1, .int k)] [] h := by
  intro j9
  induction j9 using Nat.strongRecOn with
  | ind j9 ih =>
    intro h I W sp t hj9 ht0 hsp hXT hd hp hy hhi h38 hI hW hz hq
    have n6 := hk.1.1
    have sb9 := m_g_s6 (ρ := φ.2.2.1) (b := kb τ φ) (sl := true) (T := φ.1 56) (d := φ.2.1 36) n6 t.toInt.toNat
    refine w_iload_n (List.Mem.tail _ (List.Mem.head _)) (tX11_minutes_0_ok (28, .iload_n 3, 1) (List.mem_of_getElem? (i := 17) rfl)) ?_
    refine w_iload_n (List.Mem.tail _ (List.Mem.tail _ (List.Mem.tail _ (List.Mem.head _)))) (tX11_minutes_0_ok (29, .iload_n 1, 1) (List.mem_of_getElem? (i := 18) rfl)) ?_
    refine w_icmp_ge (tgt := 47) (tX11_minutes_0_ok (30, .if_icmp .ge 17, 3) (List.mem_of_getElem? (i := 19) rfl)) rfl (fun zb1 => ?_) (fun zb1 => ?_)
    · refine w_iload_n (List.Mem.head _) (tX11_minutes_0_ok (47, .iload_n 2, 1) (List.mem_of_getElem? (i := 28) rfl)) ?_
      refine w_iret rfl (tX11_minutes_0_ok (48, .ireturn, 1) (List.mem_of_getElem? (i := 29) rfl)) ?_
      have ep : t.toInt.toNat = k.toInt.toNat := by omega
      have et : t = k := (kn_eq _ _).mpr (by omega)
      rw [ep] at hsp hXT hd
      rw [et] at h38
      exact hq h I W sp hsp hXT hd hhi h38 hI hW hz zf.rf
    · refine w_iload_n (List.Mem.head _) (tX11_minutes_0_ok (33, .iload_n 2, 1) (List.mem_of_getElem? (i := 20) rfl)) ?_
      refine w_aload_n (List.Mem.tail _ (List.Mem.tail _ (List.Mem.head _))) (tX11_minutes_0_ok (34, .aload_n 0, 1) (List.mem_of_getElem? (i := 21) rfl)) ?_
      refine w_iconst (by decide) (tX11_minutes_0_ok (35, .iconst 1, 1) (List.mem_of_getElem? (i := 22) rfl)) (fun zv2 ze3 => ?_)
      refine w_callV (own := 16) (mi := 215) [.int zv2] [.int sp] [(0, .ref (ad 50)), (1, .int zv2)] rfl (cllw_X11 (307, 0, 215) (List.mem_of_getElem? (i := 42) rfl)) rfl rfl (hz.ob rfl rfl) rfl (by omega) (w_lo (n := 28) rfl (by omega)) (Nat.le_of_ble_eq_true rfl) (Nat.le_of_ble_eq_true rfl) rfl (tX11_minutes_0_ok (36, .invokevirtual 307, 3) (List.mem_of_getElem? (i := 23) rfl)) (y_minute hT (T := (m_g φ.2.2.1 (kb τ φ) true τ.1 (φ.1 56) (φ.2.1 36) t.toInt.toNat).1) (d := (m_g φ.2.2.1 (kb τ φ) true τ.1 (φ.1 56) (φ.2.1 36) t.toInt.toNat).2.1) (slb := true) hz hp hy (by omega) (w_sub (n := 28) rfl (by omega)) (Or.inr ⟨by omega, rfl⟩) (m_g_ok hk.1 hk.2.1.1 _) (fun q hq9 => ?_) hXT hd (fun g I1 W1 v y1 y2 y3 y4 y5 y6 y7 y8 => ?_))
      · rw [m_g_hi n6 _ _ (by omega), hhi _ (by omega) (by omega)]
        exact hOT q hq9
      obtain ⟨y71, y72, y73⟩ := y7
      show ww l D tys A X fr lo mX11_minutes Q 39 [(2, .int sp), (3, .int t), (0, .ref (ad 50)), (1, .int k)] [.int v, .int sp] g
      have y9 : sp.toInt + v.toInt = (m_g φ.2.2.1 (kb τ φ) true τ.1 (φ.1 56) (φ.2.1 36) (t.toInt.toNat + 1)).2.2 := by
        show _ = (m_g φ.2.2.1 (kb τ φ) true τ.1 (φ.1 56) (φ.2.1 36) t.toInt.toNat).2.2 + (m_k φ.2.2.1 (kb τ φ) true ((m_g φ.2.2.1 (kb τ φ) true τ.1 (φ.1 56) (φ.2.1 36) t.toInt.toNat).1, (m_g φ.2.2.1 (kb τ φ) true τ.1 (φ.1 56) (φ.2.1 36) t.toInt.toNat).2.1, 0) τ.1).2.2
        omega
      have yb := m_g_s6 (ρ := φ.2.2.1) (b := kb τ φ) (sl := true) (T := φ.1 56) (d := φ.2.1 36) n6 (t.toInt.toNat + 1)
      refine w_iadd (by omega) (by omega) (tX11_minutes_0_ok (39, .iadd, 1) (List.mem_of_getElem? (i := 24) rfl)) (fun zv4 ze5 => ?_)
      refine w_istore_n [(2, .int zv4), (3, .int t), (0, .ref (ad 50)), (1, .int k)] rfl (Nat.le_of_ble_eq_true rfl) (tX11_minutes_0_ok (40, .istore_n 2, 1) (List.mem_of_getElem? (i := 25) rfl)) ?_
      refine w_iinc (fun zv6 => [(3, .int zv6), (2, .int zv4), (0, .ref (ad 50)), (1, .int k)]) (fun _ => rfl) (List.Mem.tail _ (List.Mem.head _)) (Nat.le_of_ble_eq_true rfl) (by decide) (by omega) (by omega) (tX11_minutes_0_ok (41, .iinc 3 1, 3) (List.mem_of_getElem? (i := 26) rfl)) (fun zv6 ze7 => ?_)
      refine w_goto (tgt := 28) (tX11_minutes_0_ok (44, .goto (-16), 3) (List.mem_of_getElem? (i := 27) rfl)) rfl ?_
      refine w_lv [(2, .int zv4), (3, .int zv6), (0, .ref (ad 50)), (1, .int k)] (by intro q hq; simp only [List.mem_cons, List.not_mem_nil, or_false] at hq ⊢; rcases hq with e | e | e | e <;> subst e <;> simp) ?_
      have ep : zv6.toInt.toNat = t.toInt.toNat + 1 := by omega
      have e5 : zv4.toInt = (m_g φ.2.2.1 (kb τ φ) true τ.1 (φ.1 56) (φ.2.1 36) (t.toInt.toNat + 1)).2.2 := by
        omega
      rw [← ep] at e5
      refine ih (j9 - 1) (by omega) g I1 W1 _ _ (by omega) (by omega) e5 (by rw [ep]; exact y2) (by rw [ep]; exact y3) (hp.mv (by rw [y6 50 (by decide)]) (y6 55 (by decide))) (hy.mv (by rw [y6 50 (by decide)]) (y6 55 (by decide)) (y6 62 (by decide)) (fun k9 a b => y72 k9 (by omega) (by omega))) (fun k9 a b => (y72 k9 a b).trans (hhi k9 a b)) ?_ (fun L n1 => (y6 L n1).trans (hI L n1)) (fun k9 n1 => (y5 k9 n1).trans (hW k9 n1)) y73 (fun g2 I2 W2 v2 z1 z2 z3 z4 z5 z6 z7 z8 z9 => hq g2 I2 W2 v2 z1 z2 z3 z4 z5 z6 z7 z8 (y8.tr z9))
      rw [y71, h38, Int32.add_assoc]
      congr 1
      refine (kn_eq _ _).mpr ?_
      rw [fb_addI (by have := (show (1 : Int32).toInt = 1 from rfl); omega) (by have := (show (1 : Int32).toInt = 1 from rfl); omega)]
      have := (show (1 : Int32).toInt = 1 from rfl)
      omega
theorem y9_minutes5 (hT : k_tys tys cA) {k : Int32} (hz : zr zNM cA ad I W O h) (hk : kok τ φ) (H : rS τ φ I W) (hf : 30 ≤ fr) (hlo : 900 ≤ lo) (hbo : ¬ τ.1 = 0 → bo (I 55) (I 56) (I 62) τ.2.2.1 τ.1) (hq : ∀ (g : ch_H) (I1 : zI) (W1 : zW) (v : Int32), ((¬ τ.1 = 0 ∧ 1 ≤ k.toInt ∧ k.toInt ≤ 60) ∧ v.toInt = (k9_g τ φ k.toInt.toNat).2.2 ∨ ¬ (¬ τ.1 = 0 ∧ 1 ≤ k.toInt ∧ k.toInt ≤ 60) ∧ v.toInt = -1) → rS τ (k9_minutes k τ φ) I1 W1 → zr zNM cA ad I1 W1 O g → zf zNM ad h g → Q (some (.int v)) g) : ww l D tys A X fr lo mX11_minutes Q 5 [(0, .ref (ad 50)), (1, .int k)] [] h := by
  have n6 := hk.1.1
  obtain ⟨ga6, pe8, ta6⟩ := hk.2.2.2.1
  obtain ⟨h1, ⟨h21, h22, h23⟩, ⟨h3, h32⟩, h4, h5, h6, h7, h8, h9, h10, h11⟩ := id H
  have r0 := h1.1
  refine w_aload_n (List.Mem.head _) (tX11_minutes_0_ok (5, .aload_n 0, 1) (List.mem_of_getElem? (i := 3) rfl)) ?_
  refine z_get (f := (I 50)) (own := 16) (k := 20) hz rfl rfl rfl rfl rfl rfl rfl (by decide) (tX11_minutes_0_ok (6, .getfield 248, 3) (List.mem_of_getElem? (i := 4) rfl)) ?_
  refine w_if_eq (tgt := 22) (tX11_minutes_0_ok (9, .ifCond .eq 13, 3) (List.mem_of_getElem? (i := 5) rfl)) rfl (fun zb1 => ?_) (fun zb1 => ?_)
  · refine w_iconst (by decide) (tX11_minutes_0_ok (22, .iconst (-1), 1) (List.mem_of_getElem? (i := 11) rfl)) (fun zv2 ze3 => ?_)
    refine w_iret rfl (tX11_minutes_0_ok (23, .ireturn, 1) (List.mem_of_getElem? (i := 12) rfl)) ?_
    have ek : k9_minutes k τ φ = φ := if_neg (by omega)
    exact hq h I W _ (Or.inr ⟨by omega, by omega⟩) (by rw [ek]; exact H) hz zf.rf
  · refine w_iload_n (List.Mem.tail _ (List.Mem.head _)) (tX11_minutes_0_ok (12, .iload_n 1, 1) (List.mem_of_getElem? (i := 6) rfl)) ?_
    refine w_iconst (by decide) (tX11_minutes_0_ok (13, .iconst 1, 1) (List.mem_of_getElem? (i := 7) rfl)) (fun zv4 ze5 => ?_)
    refine w_bipush (by decide) (tX11_minutes_0_ok (14, .bipush 60, 2) (List.mem_of_getElem? (i := 8) rfl)) (fun zv6 ze7 => ?_)
    refine w_callS (own := 16) (mi := 199) [.int k, .int zv4, .int zv6] [] [(0, .int k), (1, .int zv4), (2, .int zv6)] rfl (cllw_X11 (207, 1, 199) (List.mem_of_getElem? (i := 2) rfl)) rfl rfl (by omega) (w_lo (n := 22) rfl (by omega)) (Nat.le_of_ble_eq_true rfl) (Nat.le_of_ble_eq_true rfl) rfl (tX11_minutes_0_ok (16, .invokestatic 207, 3) (List.mem_of_getElem? (i := 9) rfl)) (r_isIn (fun zv8 ze9 => ?_))
    show ww l D tys A X fr lo mX11_minutes Q 19 [(0, .ref (ad 50)), (1, .int k)] [.int zv8] h
    refine w_if_ne (tgt := 24) (tX11_minutes_0_ok (19, .ifCond .ne 5, 3) (List.mem_of_getElem? (i := 10) rfl)) rfl (fun zb10 => ?_) (fun zb10 => ?_)
    · refine w_iconst (by decide) (tX11_minutes_0_ok (24, .iconst 0, 1) (List.mem_of_getElem? (i := 13) rfl)) (fun zv11 ze12 => ?_)
      refine w_istore_n [(2, .int zv11), (0, .ref (ad 50)), (1, .int k)] rfl (Nat.le_of_ble_eq_true rfl) (tX11_minutes_0_ok (25, .istore_n 2, 1) (List.mem_of_getElem? (i := 14) rfl)) ?_
      refine w_iconst (by decide) (tX11_minutes_0_ok (26, .iconst 0, 1) (List.mem_of_getElem? (i := 15) rfl)) (fun zv13 ze14 => ?_)
      refine w_istore_n [(3, .int zv13), (2, .int zv11), (0, .ref (ad 50)), (1, .int k)] rfl (Nat.le_of_ble_eq_true rfl) (tX11_minutes_0_ok (27, .istore_n 3, 1) (List.mem_of_getElem? (i := 16) rfl)) ?_
      refine w_lv [(2, .int zv11), (3, .int zv13), (0, .ref (ad 50)), (1, .int k)] (by intro q hq; simp only [List.mem_cons, List.not_mem_nil, or_false] at hq ⊢; rcases hq with e | e | e | e <;> subst e <;> simp) ?_
      have ec : (¬ τ.1 = 0 ∧ 1 ≤ k.toInt ∧ k.toInt ≤ 60) := by omega
      have ek : k9_minutes k τ φ = (s2 φ.1 56 (fun q => if q = 38 then φ.1 56 38 + k else (k9_g τ φ k.toInt.toNat).1 q), (fun q => if q = 36 then (k9_g τ φ k.toInt.toNat).2.1 else φ.2.1 q), φ.2.2) := if_pos ec
      have e6 : zv13.toInt.toNat = 0 := by omega
      have e7 : zv13 = 0 := (kn_eq _ _).mpr (by rw [ze14]; rfl)
      refine y_miL hT (I0 := I) (W0 := W) hk ec.2 (by omega) (by omega) (fun q hq9 => (h3.1 q hq9).2.2) k.toInt.toNat h I W _ _ (by omega) (by omega) (by rw [e6]; show _ = (0 : Int); omega) (by rw [e6]; exact fun q hq9 => ⟨(h3.1 q hq9).1, (h3.1 q hq9).2.1⟩) (by rw [e6]; exact h32) h1 (H.yz_ n6 (hbo ec.1)) (fun _ _ _ => rfl) (by rw [e7, Int32.add_zero]) (fun _ _ => rfl) (fun _ _ => rfl) hz (fun g I1 W1 v y1 y2 y3 y4 y5 y6 y7 y8 y9 => ?_)
      refine hq g I1 W1 v (Or.inl ⟨ec, y1⟩) ?_ y8 y9
      rw [ek]
      obtain ⟨T9, eT⟩ : ∃ T9 : Nat → Int32, T9 = (fun q => if q = 38 then φ.1 56 38 + k else (k9_g τ φ k.toInt.toNat).1 q) := ⟨_, rfl⟩
      obtain ⟨V9, eV⟩ : ∃ V9 : Nat → Int64, V9 = (fun q => if q = 36 then (k9_g τ φ k.toInt.toNat).2.1 else φ.2.1 q) := ⟨_, rfl⟩
      rw [← eT, ← eV]
      have V_s : V9 36 = (k9_g τ φ k.toInt.toNat).2.1 := (congrFun eV 36).trans (if_pos rfl)
      have V_n : V9 38 = φ.2.1 38 := (congrFun eV 38).trans (if_neg (by decide))
      have T_s : T9 38 = φ.1 56 38 + k := (congrFun eT 38).trans (if_pos rfl)
      have T_n : ∀ q, ¬ q = 38 → T9 q = (k9_g τ φ k.toInt.toNat).1 q := fun q hq8 => (congrFun eT q).trans (if_neg hq8)
      refine rS.t (K := s2 φ.1 56 T9) (V := V9) H (fun L hL => s2_n hL) V_n (fun L n1 n2 => y6 L n1) (fun k9 _ => by rw [y6 50 (by decide)]) (y7 38 (by decide)) ⟨?_, ?_⟩
      · rw [s2_s]
        obtain ⟨t1, t2, t3, t4⟩ := h3
        refine ⟨fun q hq9 => ⟨?_, ?_, ?_⟩, fun q hq9 => ?_, fun i hi => ?_, ?_⟩
        · rw [T_n _ (by omega)]
          exact (y2 q hq9).1
        · rw [T_n _ (by omega)]
          exact (y2 q hq9).2
        · rw [T_n _ (by omega), y4 _ (by omega) (by omega), (t1 q hq9).2.2]
          exact (m_g_hi n6 _ _ (by omega)).symm
        · rw [T_n _ (by omega), y4 _ (by omega) (by omega), t2 q hq9]
          exact (m_g_hi n6 _ _ (by omega)).symm
        · rw [T_n _ (by omega), y4 _ (by omega) (by omega), t3 i hi]
          exact (m_g_hi n6 _ _ (by omega)).symm
        · rw [T_s, y5, t4]
      · rw [V_s]
        exact y3
    · refine w_iconst (by decide) (tX11_minutes_0_ok (22, .iconst (-1), 1) (List.mem_of_getElem? (i := 11) rfl)) (fun zv15 ze16 => ?_)
      refine w_iret rfl (tX11_minutes_0_ok (23, .ireturn, 1) (List.mem_of_getElem? (i := 12) rfl)) ?_
      have ek : k9_minutes k τ φ = φ := if_neg (by omega)
      exact hq h I W _ (Or.inr ⟨by omega, by omega⟩) (by rw [ek]; exact H) hz zf.rf
theorem y9_minutes (hT : k_tys tys cA) {k : Int32} (hz : zr zNM cA ad I W O h) (hk : kok τ φ) (H : rS τ φ I W) (hf : 30 ≤ fr) (hlo : 900 ≤ lo) (hbo : ¬ τ.1 = 0 → bo (I 55) (I 56) (I 62) τ.2.2.1 τ.1) (hq : ∀ (g : ch_H) (I1 : zI) (W1 : zW) (v : Int32), ((¬ τ.1 = 0 ∧ 1 ≤ k.toInt ∧ k.toInt ≤ 60) ∧ v.toInt = (k9_g τ φ k.toInt.toNat).2.2 ∨ ¬ (¬ τ.1 = 0 ∧ 1 ≤ k.toInt ∧ k.toInt ≤ 60) ∧ v.toInt = -1) → rS τ (k9_minutes k τ φ) I1 W1 → zr zNM cA ad I1 W1 O g → zf zNM ad h g → Q (some (.int v)) g) : ww l D tys A X fr lo mX11_minutes Q 0 [(0, .ref (ad 50)), (1, .int k)] [] h := by
  refine w_aload_n (List.Mem.head _) (tX11_minutes_0_ok (0, .aload_n 0, 1) (List.mem_of_getElem? (i := 0) rfl)) ?_
  refine w_iconst (by decide) (tX11_minutes_0_ok (1, .iconst 0, 1) (List.mem_of_getElem? (i := 1) rfl)) (fun zv1 ze2 => ?_)
  refine z_put (f := (I 50)) (own := 16) (k := 0) hz rfl rfl rfl rfl rfl rfl rfl (by decide) rfl ⟨rfl, rfl⟩ (tX11_minutes_0_ok (2, .putfield 85, 3) (List.mem_of_getElem? (i := 2) rfl)) (fun zh3 zI4 zq5 zz6 zf7 => ?_)
  exact y9_minutes5 hT zz6 hk (H.th zq5) hf hlo (by rw [zq5, s2_n (by decide), s2_n (by decide), s2_n (by decide)]; exact hbo) (fun g I1 W1 v e a b c => hq g I1 W1 v e a b (zf7.tr c))
theorem y9_rest5 (hT : k_tys tys cA) (hz : zr zNM cA ad I W O h) (hk : kok τ φ) (H : rS τ φ I W) (hf : 30 ≤ fr) (hlo : 900 ≤ lo) (hbo : ¬ τ.1 = 0 → bo (I 55) (I 56) (I 62) τ.2.2.1 τ.1) (hq : ∀ (g : ch_H) (I1 : zI) (W1 : zW) (v : Int32), (¬ τ.1 = 0 ∧ v.toInt = k9_M τ φ ∨ τ.1 = 0 ∧ v.toInt = -1) → rS τ (k9_rest τ φ) I1 W1 → zr zNM cA ad I1 W1 O g → zf zNM ad h g → Q (some (.int v)) g) : ww l D tys A X fr lo mX11_rest Q 5 [(0, .ref (ad 50))] [] h := by
  have n6 := hk.1.1
  obtain ⟨ga6, pe8, ta6⟩ := hk.2.2.2.1
  obtain ⟨h1, ⟨h21, h22, h23⟩, ⟨h3, h32⟩, h4, h5, h6, h7, h8, h9, h10, h11⟩ := id H
  have r0 := h1.1
  refine w_aload_n (List.Mem.head _) (tX11_rest_0_ok (5, .aload_n 0, 1) (List.mem_of_getElem? (i := 3) rfl)) ?_
  refine z_get (f := (I 50)) (own := 16) (k := 20) hz rfl rfl rfl rfl rfl rfl rfl (by decide) (tX11_rest_0_ok (6, .getfield 248, 3) (List.mem_of_getElem? (i := 4) rfl)) ?_
  refine w_if_ne (tgt := 16) (tX11_rest_0_ok (9, .ifCond .ne 7, 3) (List.mem_of_getElem? (i := 5) rfl)) rfl (fun zb1 => ?_) (fun zb1 => ?_)
  · refine w_aload_n (List.Mem.head _) (tX11_rest_0_ok (16, .aload_n 0, 1) (List.mem_of_getElem? (i := 8) rfl)) ?_
    refine w_callV (own := 16) (mi := 237) [] [] [(0, .ref (ad 50))] rfl (cllw_X11 (311, 0, 237) (List.mem_of_getElem? (i := 45) rfl)) rfl rfl (hz.ob rfl rfl) rfl (by omega) (w_lo (n := 21) rfl (by omega)) (Nat.le_of_ble_eq_true rfl) (Nat.le_of_ble_eq_true rfl) rfl (tX11_rest_0_ok (17, .invokevirtual 311, 3) (List.mem_of_getElem? (i := 9) rfl)) (y_rests hT (T := φ.1 56) (d := φ.2.1 36) (b := kb τ φ) (by omega) (w_sub (n := 21) rfl (by omega)) hk.2.1.1 hk.2.1.2.1 hz h1 (H.yz_ n6 (hbo (by omega))) (fun q hq9 => (h3.1 q hq9).2.2) (fun q hq9 => ⟨(h3.1 q hq9).1, (h3.1 q hq9).2.1⟩) h32 (fun g I1 v y1 y2 y3 y4 y5 y6 y7 => ?_))
    obtain ⟨W1, w1, w2, w3, w4⟩ := y6
    show ww l D tys A X fr lo mX11_rest Q 20 [(0, .ref (ad 50))] [.int v] g
    refine w_iret rfl (tX11_rest_0_ok (20, .ireturn, 1) (List.mem_of_getElem? (i := 10) rfl)) ?_
    have ec : ¬ τ.1 = 0 := by omega
    have ek : k9_rest τ φ = k56 φ (k9_rt τ φ) := if_pos ec
    have mb := r_M_b (b := kb τ φ) hk.2.1.1 hk.1 τ.1 (Nat.le_refl _)
    refine hq g I1 W1 v (Or.inl ⟨ec, y1⟩) ?_ w4 y7
    rw [ek]
    refine rS.t (K := s2 φ.1 56 _) (V := φ.2.1) H (fun L hL => s2_n hL) rfl (fun L n1 n2 => y5 L n1) (fun k9 _ => by rw [y5 50 (by decide)]) (w3 38 (by decide)) ⟨?_, w1⟩
    rw [s2_s]
    obtain ⟨t1, t2, t3, t4⟩ := h3
    refine ⟨fun q hq9 => ⟨?_, ?_, ?_⟩, fun q hq9 => ?_, fun i hi => ?_, ?_⟩
    · rw [k9_rt_x hq9]
      exact (y2 q hq9).1
    · rw [k9_rt_t n6 hq9]
      exact (y2 q hq9).2
    · rw [k9_rt_n n6 (by omega) (by omega), y3 _ (by omega) (by omega)]
      exact (t1 q hq9).2.2
    · rw [k9_rt_n n6 (by omega) (by omega), y3 _ (by omega) (by omega)]
      exact t2 q hq9
    · rw [k9_rt_n n6 (by omega) (by omega), y3 _ (by omega) (by omega)]
      exact t3 i hi
    · have ev : Int32.ofInt (k9_M τ φ) = v := (kn_eq _ _).mpr (by unfold k9_M; rw [ofInt_b (by omega), y1])
      rw [k9_rt_m n6, ev, y4, t4]
  · refine w_iconst (by decide) (tX11_rest_0_ok (12, .iconst (-1), 1) (List.mem_of_getElem? (i := 6) rfl)) (fun zv2 ze3 => ?_)
    refine w_goto (tgt := 20) (tX11_rest_0_ok (13, .goto 7, 3) (List.mem_of_getElem? (i := 7) rfl)) rfl ?_
    refine w_iret rfl (tX11_rest_0_ok (20, .ireturn, 1) (List.mem_of_getElem? (i := 10) rfl)) ?_
    have ek : k9_rest τ φ = φ := if_neg (by omega)
    exact hq h I W _ (Or.inr ⟨by omega, by omega⟩) (by rw [ek]; exact H) hz zf.rf
theorem y9_rest (hT : k_tys tys cA) (hz : zr zNM cA ad I W O h) (hk : kok τ φ) (H : rS τ φ I W) (hf : 30 ≤ fr) (hlo : 900 ≤ lo) (hbo : ¬ τ.1 = 0 → bo (I 55) (I 56) (I 62) τ.2.2.1 τ.1) (hq : ∀ (g : ch_H) (I1 : zI) (W1 : zW) (v : Int32), (¬ τ.1 = 0 ∧ v.toInt = k9_M τ φ ∨ τ.1 = 0 ∧ v.toInt = -1) → rS τ (k9_rest τ φ) I1 W1 → zr zNM cA ad I1 W1 O g → zf zNM ad h g → Q (some (.int v)) g) : ww l D tys A X fr lo mX11_rest Q 0 [(0, .ref (ad 50))] [] h := by
  refine w_aload_n (List.Mem.head _) (tX11_rest_0_ok (0, .aload_n 0, 1) (List.mem_of_getElem? (i := 0) rfl)) ?_
  refine w_iconst (by decide) (tX11_rest_0_ok (1, .iconst 0, 1) (List.mem_of_getElem? (i := 1) rfl)) (fun zv1 ze2 => ?_)
  refine z_put (f := (I 50)) (own := 16) (k := 0) hz rfl rfl rfl rfl rfl rfl rfl (by decide) rfl ⟨rfl, rfl⟩ (tX11_rest_0_ok (2, .putfield 85, 3) (List.mem_of_getElem? (i := 2) rfl)) (fun zh3 zI4 zq5 zz6 zf7 => ?_)
  exact y9_rest5 hT zz6 hk (H.th zq5) hf hlo (by rw [zq5, s2_n (by decide), s2_n (by decide), s2_n (by decide)]; exact hbo) (fun g I1 W1 v e a b c => hq g I1 W1 v e a b (zf7.tr c))
theorem y9_want5 (hT : k_tys tys cA) {r w : Int32} (hz : zr zNM cA ad I W O h) (hk : kok τ φ) (H : rS τ φ I W) (hf : 30 ≤ fr) (hlo : 900 ≤ lo) (hq : ∀ (g : ch_H) (I1 : zI) (W1 : zW) (v : Int32), rS τ (k9_want r w τ φ) I1 W1 → zr zNM cA ad I1 W1 O g → zf zNM ad h g → Q (some (.int v)) g) : ww l D tys A X fr lo mX11_want Q 5 [(0, .ref (ad 50)), (1, .int r), (2, .int w)] [] h := by
  have n6 := hk.1.1
  obtain ⟨ga6, pe8, ta6⟩ := hk.2.2.2.1
  obtain ⟨h1, ⟨h21, h22, h23⟩, ⟨h3, h32⟩, h4, h5, h6, h7, h8, h9, h10, h11⟩ := id H
  have r0 := h1.1
  refine w_aload_n (List.Mem.head _) (tX11_want_0_ok (5, .aload_n 0, 1) (List.mem_of_getElem? (i := 3) rfl)) ?_
  refine w_iload_n (List.Mem.tail _ (List.Mem.head _)) (tX11_want_0_ok (6, .iload_n 1, 1) (List.mem_of_getElem? (i := 4) rfl)) ?_
  refine w_callV (own := 16) (mi := 203) [.int r] [] [(0, .ref (ad 50)), (1, .int r)] rfl (cllw_X11 (274, 0, 203) (List.mem_of_getElem? (i := 38) rfl)) rfl rfl (hz.ob rfl rfl) rfl (by omega) (w_lo (n := 21) rfl (by omega)) (Nat.le_of_ble_eq_true rfl) (Nat.le_of_ble_eq_true rfl) rfl (tX11_want_0_ok (7, .invokevirtual 274, 3) (List.mem_of_getElem? (i := 5) rfl)) (y_isRoom hT hz r0 n6 (fun zv1 ze2 => ?_))
  show ww l D tys A X fr lo mX11_want Q 10 [(0, .ref (ad 50)), (1, .int r), (2, .int w)] [.int zv1] h
  refine w_if_eq (tgt := 24) (tX11_want_0_ok (10, .ifCond .eq 14, 3) (List.mem_of_getElem? (i := 6) rfl)) rfl (fun zb3 => ?_) (fun zb3 => ?_)
  · refine w_iconst (by decide) (tX11_want_0_ok (24, .iconst 0, 1) (List.mem_of_getElem? (i := 12) rfl)) (fun zv4 ze5 => ?_)
    refine w_zret rfl (by omega) (by omega) (tX11_want_0_ok (25, .ireturn, 1) (List.mem_of_getElem? (i := 13) rfl)) ?_
    have ek : k9_want r w τ φ = φ := if_neg (by omega)
    exact hq h I W _ (by rw [ek]; exact H) hz zf.rf
  · refine w_iload_n (List.Mem.tail _ (List.Mem.tail _ (List.Mem.head _))) (tX11_want_0_ok (13, .iload_n 2, 1) (List.mem_of_getElem? (i := 7) rfl)) ?_
    refine w_iconst (by decide) (tX11_want_0_ok (14, .iconst (-1), 1) (List.mem_of_getElem? (i := 8) rfl)) (fun zv6 ze7 => ?_)
    refine w_sipush (by decide) (tX11_want_0_ok (15, .sipush 200, 3) (List.mem_of_getElem? (i := 9) rfl)) (fun zv8 ze9 => ?_)
    refine w_callS (own := 16) (mi := 199) [.int w, .int zv6, .int zv8] [] [(0, .int w), (1, .int zv6), (2, .int zv8)] rfl (cllw_X11 (207, 1, 199) (List.mem_of_getElem? (i := 2) rfl)) rfl rfl (by omega) (w_lo (n := 22) rfl (by omega)) (Nat.le_of_ble_eq_true rfl) (Nat.le_of_ble_eq_true rfl) rfl (tX11_want_0_ok (18, .invokestatic 207, 3) (List.mem_of_getElem? (i := 10) rfl)) (r_isIn (fun zv10 ze11 => ?_))
    show ww l D tys A X fr lo mX11_want Q 21 [(0, .ref (ad 50)), (1, .int r), (2, .int w)] [.int zv10] h
    refine w_if_ne (tgt := 26) (tX11_want_0_ok (21, .ifCond .ne 5, 3) (List.mem_of_getElem? (i := 11) rfl)) rfl (fun zb12 => ?_) (fun zb12 => ?_)
    · refine w_aload_n (List.Mem.head _) (tX11_want_0_ok (26, .aload_n 0, 1) (List.mem_of_getElem? (i := 14) rfl)) ?_
      refine z_getR (L1 := 60) (own := 16) (k := 26) hz rfl rfl rfl rfl rfl rfl rfl (by decide) (tX11_want_0_ok (27, .getfield 57, 3) (List.mem_of_getElem? (i := 15) rfl)) ?_
      refine w_iload_n (List.Mem.tail _ (List.Mem.head _)) (tX11_want_0_ok (30, .iload_n 1, 1) (List.mem_of_getElem? (i := 16) rfl)) ?_
      refine w_iload_n (List.Mem.tail _ (List.Mem.tail _ (List.Mem.head _))) (tX11_want_0_ok (31, .iload_n 2, 1) (List.mem_of_getElem? (i := 17) rfl)) ?_
      refine z_iast (f := (I 60)) hT hz rfl rfl rfl (by omega) (by omega) (tX11_want_0_ok (32, .iastore, 1) (List.mem_of_getElem? (i := 18) rfl)) (fun zh13 zI14 zq15 zz16 zf17 => ?_)
      refine w_iconst (by decide) (tX11_want_0_ok (33, .iconst 1, 1) (List.mem_of_getElem? (i := 19) rfl)) (fun zv18 ze19 => ?_)
      refine w_zret rfl (by omega) (by omega) (tX11_want_0_ok (34, .ireturn, 1) (List.mem_of_getElem? (i := 20) rfl)) ?_
      have ec : (0 ≤ r.toInt ∧ r.toInt < 2 * (τ.1 : Int)) ∧ -1 ≤ w.toInt ∧ w.toInt ≤ 200 := by omega
      have ek : k9_want r w τ φ = (s2 φ.1 60 (upd (φ.1 60) r.toInt.toNat w), φ.2) := if_pos ec
      have c1 := ((congrFun zq15 60).trans (s2_s _ _ _))
      have o : ∀ L, L ≠ 60 → zI14 L = I L := fun L n1 => by rw [zq15, s2_n n1]
      have o5 : ∀ k9, zI14 50 k9 = I 50 k9 := fun k9 => by rw [o 50 (by decide)]
      refine hq zh13 zI14 W _ ?_ zz16 zf17
      rw [ek]
      obtain ⟨K9, eK⟩ : ∃ K9 : zI, K9 = s2 φ.1 60 (upd (φ.1 60) r.toInt.toNat w) := ⟨_, rfl⟩
      rw [← eK]
      have k_60 := (congrFun eK 60).trans (s2_s _ _ _)
      have k_n : ∀ L, L ≠ 60 → K9 L = φ.1 L := fun L hL => by rw [eK, s2_n hL]
      refine ⟨h1.mv (o5 20) (o 55 (by decide)), ?_, ?_, fun g hg => ?_, fun a b ha hb => ?_, fun i hi => ?_, fun i hi => ?_, fun r9 hr => ?_, ?_, ?_, ?_⟩
      · rw [o5 32, o5 33, o5 34]
        exact ⟨h21, h22, h23⟩
      · show tx zI14 56 τ.1 τ.2.2.1 (K9 56) ∧ _
        rw [k_n 56 (by decide)]
        exact ⟨h3.mv (o 56 (by decide)), h32⟩
      · show zI14 59 (12 + g) = K9 59 (12 + g)
        rw [o 59 (by decide), k_n 59 (by decide)]
        exact h4 g hg
      · show zI14 65 (18 * a + b) = K9 65 (18 * a + b) ∧ 0 ≤ (K9 65 (18 * a + b)).toInt ∧ (K9 65 (18 * a + b)).toInt ≤ 1
        rw [o 65 (by decide), k_n 65 (by decide)]
        exact h5 a b ha hb
      · show zI14 62 i = K9 62 i
        rw [o 62 (by decide), k_n 62 (by decide)]
        exact h6 i hi
      · show zI14 63 i = K9 63 i ∧ zI14 64 i = K9 64 i
        rw [o 63 (by decide), o 64 (by decide), k_n 63 (by decide), k_n 64 (by decide)]
        exact h7 i hi
      · show zI14 60 r9 = K9 60 r9 ∧ zI14 61 r9 = K9 61 r9
        rw [c1, o 61 (by decide), k_60, k_n 61 (by decide)]
        refine ⟨?_, (h8 r9 hr).2⟩
        by_cases e : r9 = r.toInt.toNat
        · subst e
          rw [upd_s, upd_s]
        · rw [upd_n _ _ e, upd_n _ _ e]
          exact (h8 r9 hr).1
      · show (zI14 50 39).toInt = (K9 50 39).toInt
        rw [o5 39, k_n 50 (by decide)]
        exact h9
      · show (K9 50 39).toInt = 1 → (zI14 50 35).toInt = (K9 50 35).toInt ∧ tx zI14 58 τ.1 (K9 50 35).toInt.toNat (K9 58) ∧ W 50 38 = φ.2.1 38
        rw [o5 35, k_n 50 (by decide), k_n 58 (by decide)]
        exact fun z => ⟨(h10 z).1, (h10 z).2.1.mv (o 58 (by decide)), (h10 z).2.2⟩
      · show zI14 50 7 = K9 50 7
        rw [o5 7, k_n 50 (by decide)]
        exact h11
    · refine w_iconst (by decide) (tX11_want_0_ok (24, .iconst 0, 1) (List.mem_of_getElem? (i := 12) rfl)) (fun zv20 ze21 => ?_)
      refine w_zret rfl (by omega) (by omega) (tX11_want_0_ok (25, .ireturn, 1) (List.mem_of_getElem? (i := 13) rfl)) ?_
      have ek : k9_want r w τ φ = φ := if_neg (by omega)
      exact hq h I W _ (by rw [ek]; exact H) hz zf.rf
theorem y9_want (hT : k_tys tys cA) {r w : Int32} (hz : zr zNM cA ad I W O h) (hk : kok τ φ) (H : rS τ φ I W) (hf : 30 ≤ fr) (hlo : 900 ≤ lo) (hq : ∀ (g : ch_H) (I1 : zI) (W1 : zW) (v : Int32), rS τ (k9_want r w τ φ) I1 W1 → zr zNM cA ad I1 W1 O g → zf zNM ad h g → Q (some (.int v)) g) : ww l D tys A X fr lo mX11_want Q 0 [(0, .ref (ad 50)), (1, .int r), (2, .int w)] [] h := by
  refine w_aload_n (List.Mem.head _) (tX11_want_0_ok (0, .aload_n 0, 1) (List.mem_of_getElem? (i := 0) rfl)) ?_
  refine w_iconst (by decide) (tX11_want_0_ok (1, .iconst 0, 1) (List.mem_of_getElem? (i := 1) rfl)) (fun zv1 ze2 => ?_)
  refine z_put (f := (I 50)) (own := 16) (k := 0) hz rfl rfl rfl rfl rfl rfl rfl (by decide) rfl ⟨rfl, rfl⟩ (tX11_want_0_ok (2, .putfield 85, 3) (List.mem_of_getElem? (i := 2) rfl)) (fun zh3 zI4 zq5 zz6 zf7 => ?_)
  exact y9_want5 hT zz6 hk (H.th zq5) hf hlo (fun g I1 W1 v a b c => hq g I1 W1 v a b (zf7.tr c))
theorem y9_woke5 (hT : k_tys tys cA) {r w : Int32} (hz : zr zNM cA ad I W O h) (hk : kok τ φ) (H : rS τ φ I W) (hf : 30 ≤ fr) (hlo : 900 ≤ lo) (hq : ∀ (g : ch_H) (I1 : zI) (W1 : zW) (v : Int32), rS τ (k9_woke r w τ φ) I1 W1 → zr zNM cA ad I1 W1 O g → zf zNM ad h g → Q (some (.int v)) g) : ww l D tys A X fr lo mX11_woke Q 5 [(0, .ref (ad 50)), (1, .int r), (2, .int w)] [] h := by
  have n6 := hk.1.1
  obtain ⟨ga6, pe8, ta6⟩ := hk.2.2.2.1
  obtain ⟨h1, ⟨h21, h22, h23⟩, ⟨h3, h32⟩, h4, h5, h6, h7, h8, h9, h10, h11⟩ := id H
  have r0 := h1.1
  refine w_aload_n (List.Mem.head _) (tX11_woke_0_ok (5, .aload_n 0, 1) (List.mem_of_getElem? (i := 3) rfl)) ?_
  refine w_iload_n (List.Mem.tail _ (List.Mem.head _)) (tX11_woke_0_ok (6, .iload_n 1, 1) (List.mem_of_getElem? (i := 4) rfl)) ?_
  refine w_callV (own := 16) (mi := 203) [.int r] [] [(0, .ref (ad 50)), (1, .int r)] rfl (cllw_X11 (274, 0, 203) (List.mem_of_getElem? (i := 38) rfl)) rfl rfl (hz.ob rfl rfl) rfl (by omega) (w_lo (n := 21) rfl (by omega)) (Nat.le_of_ble_eq_true rfl) (Nat.le_of_ble_eq_true rfl) rfl (tX11_woke_0_ok (7, .invokevirtual 274, 3) (List.mem_of_getElem? (i := 5) rfl)) (y_isRoom hT hz r0 n6 (fun zv1 ze2 => ?_))
  show ww l D tys A X fr lo mX11_woke Q 10 [(0, .ref (ad 50)), (1, .int r), (2, .int w)] [.int zv1] h
  refine w_if_eq (tgt := 24) (tX11_woke_0_ok (10, .ifCond .eq 14, 3) (List.mem_of_getElem? (i := 6) rfl)) rfl (fun zb3 => ?_) (fun zb3 => ?_)
  · refine w_iconst (by decide) (tX11_woke_0_ok (24, .iconst 0, 1) (List.mem_of_getElem? (i := 12) rfl)) (fun zv4 ze5 => ?_)
    refine w_zret rfl (by omega) (by omega) (tX11_woke_0_ok (25, .ireturn, 1) (List.mem_of_getElem? (i := 13) rfl)) ?_
    have ek : k9_woke r w τ φ = φ := if_neg (by omega)
    exact hq h I W _ (by rw [ek]; exact H) hz zf.rf
  · refine w_iload_n (List.Mem.tail _ (List.Mem.tail _ (List.Mem.head _))) (tX11_woke_0_ok (13, .iload_n 2, 1) (List.mem_of_getElem? (i := 7) rfl)) ?_
    refine w_iconst (by decide) (tX11_woke_0_ok (14, .iconst (-1), 1) (List.mem_of_getElem? (i := 8) rfl)) (fun zv6 ze7 => ?_)
    refine w_sipush (by decide) (tX11_woke_0_ok (15, .sipush 200, 3) (List.mem_of_getElem? (i := 9) rfl)) (fun zv8 ze9 => ?_)
    refine w_callS (own := 16) (mi := 199) [.int w, .int zv6, .int zv8] [] [(0, .int w), (1, .int zv6), (2, .int zv8)] rfl (cllw_X11 (207, 1, 199) (List.mem_of_getElem? (i := 2) rfl)) rfl rfl (by omega) (w_lo (n := 22) rfl (by omega)) (Nat.le_of_ble_eq_true rfl) (Nat.le_of_ble_eq_true rfl) rfl (tX11_woke_0_ok (18, .invokestatic 207, 3) (List.mem_of_getElem? (i := 10) rfl)) (r_isIn (fun zv10 ze11 => ?_))
    show ww l D tys A X fr lo mX11_woke Q 21 [(0, .ref (ad 50)), (1, .int r), (2, .int w)] [.int zv10] h
    refine w_if_ne (tgt := 26) (tX11_woke_0_ok (21, .ifCond .ne 5, 3) (List.mem_of_getElem? (i := 11) rfl)) rfl (fun zb12 => ?_) (fun zb12 => ?_)
    · refine w_aload_n (List.Mem.head _) (tX11_woke_0_ok (26, .aload_n 0, 1) (List.mem_of_getElem? (i := 14) rfl)) ?_
      refine z_getR (L1 := 61) (own := 16) (k := 27) hz rfl rfl rfl rfl rfl rfl rfl (by decide) (tX11_woke_0_ok (27, .getfield 60, 3) (List.mem_of_getElem? (i := 15) rfl)) ?_
      refine w_iload_n (List.Mem.tail _ (List.Mem.head _)) (tX11_woke_0_ok (30, .iload_n 1, 1) (List.mem_of_getElem? (i := 16) rfl)) ?_
      refine w_iload_n (List.Mem.tail _ (List.Mem.tail _ (List.Mem.head _))) (tX11_woke_0_ok (31, .iload_n 2, 1) (List.mem_of_getElem? (i := 17) rfl)) ?_
      refine z_iast (f := (I 61)) hT hz rfl rfl rfl (by omega) (by omega) (tX11_woke_0_ok (32, .iastore, 1) (List.mem_of_getElem? (i := 18) rfl)) (fun zh13 zI14 zq15 zz16 zf17 => ?_)
      refine w_iconst (by decide) (tX11_woke_0_ok (33, .iconst 1, 1) (List.mem_of_getElem? (i := 19) rfl)) (fun zv18 ze19 => ?_)
      refine w_zret rfl (by omega) (by omega) (tX11_woke_0_ok (34, .ireturn, 1) (List.mem_of_getElem? (i := 20) rfl)) ?_
      have ec : (0 ≤ r.toInt ∧ r.toInt < 2 * (τ.1 : Int)) ∧ -1 ≤ w.toInt ∧ w.toInt ≤ 200 := by omega
      have ek : k9_woke r w τ φ = (s2 φ.1 61 (upd (φ.1 61) r.toInt.toNat w), φ.2) := if_pos ec
      have c1 := ((congrFun zq15 61).trans (s2_s _ _ _))
      have o : ∀ L, L ≠ 61 → zI14 L = I L := fun L n1 => by rw [zq15, s2_n n1]
      have o5 : ∀ k9, zI14 50 k9 = I 50 k9 := fun k9 => by rw [o 50 (by decide)]
      refine hq zh13 zI14 W _ ?_ zz16 zf17
      rw [ek]
      obtain ⟨K9, eK⟩ : ∃ K9 : zI, K9 = s2 φ.1 61 (upd (φ.1 61) r.toInt.toNat w) := ⟨_, rfl⟩
      rw [← eK]
      have k_61 := (congrFun eK 61).trans (s2_s _ _ _)
      have k_n : ∀ L, L ≠ 61 → K9 L = φ.1 L := fun L hL => by rw [eK, s2_n hL]
      refine ⟨h1.mv (o5 20) (o 55 (by decide)), ?_, ?_, fun g hg => ?_, fun a b ha hb => ?_, fun i hi => ?_, fun i hi => ?_, fun r9 hr => ?_, ?_, ?_, ?_⟩
      · rw [o5 32, o5 33, o5 34]
        exact ⟨h21, h22, h23⟩
      · show tx zI14 56 τ.1 τ.2.2.1 (K9 56) ∧ _
        rw [k_n 56 (by decide)]
        exact ⟨h3.mv (o 56 (by decide)), h32⟩
      · show zI14 59 (12 + g) = K9 59 (12 + g)
        rw [o 59 (by decide), k_n 59 (by decide)]
        exact h4 g hg
      · show zI14 65 (18 * a + b) = K9 65 (18 * a + b) ∧ 0 ≤ (K9 65 (18 * a + b)).toInt ∧ (K9 65 (18 * a + b)).toInt ≤ 1
        rw [o 65 (by decide), k_n 65 (by decide)]
        exact h5 a b ha hb
      · show zI14 62 i = K9 62 i
        rw [o 62 (by decide), k_n 62 (by decide)]
        exact h6 i hi
      · show zI14 63 i = K9 63 i ∧ zI14 64 i = K9 64 i
        rw [o 63 (by decide), o 64 (by decide), k_n 63 (by decide), k_n 64 (by decide)]
        exact h7 i hi
      · show zI14 60 r9 = K9 60 r9 ∧ zI14 61 r9 = K9 61 r9
        rw [o 60 (by decide), c1, k_n 60 (by decide), k_61]
        refine ⟨(h8 r9 hr).1, ?_⟩
        by_cases e : r9 = r.toInt.toNat
        · subst e
          rw [upd_s, upd_s]
        · rw [upd_n _ _ e, upd_n _ _ e]
          exact (h8 r9 hr).2
      · show (zI14 50 39).toInt = (K9 50 39).toInt
        rw [o5 39, k_n 50 (by decide)]
        exact h9
      · show (K9 50 39).toInt = 1 → (zI14 50 35).toInt = (K9 50 35).toInt ∧ tx zI14 58 τ.1 (K9 50 35).toInt.toNat (K9 58) ∧ W 50 38 = φ.2.1 38
        rw [o5 35, k_n 50 (by decide), k_n 58 (by decide)]
        exact fun z => ⟨(h10 z).1, (h10 z).2.1.mv (o 58 (by decide)), (h10 z).2.2⟩
      · show zI14 50 7 = K9 50 7
        rw [o5 7, k_n 50 (by decide)]
        exact h11
    · refine w_iconst (by decide) (tX11_woke_0_ok (24, .iconst 0, 1) (List.mem_of_getElem? (i := 12) rfl)) (fun zv20 ze21 => ?_)
      refine w_zret rfl (by omega) (by omega) (tX11_woke_0_ok (25, .ireturn, 1) (List.mem_of_getElem? (i := 13) rfl)) ?_
      have ek : k9_woke r w τ φ = φ := if_neg (by omega)
      exact hq h I W _ (by rw [ek]; exact H) hz zf.rf
theorem y9_woke (hT : k_tys tys cA) {r w : Int32} (hz : zr zNM cA ad I W O h) (hk : kok τ φ) (H : rS τ φ I W) (hf : 30 ≤ fr) (hlo : 900 ≤ lo) (hq : ∀ (g : ch_H) (I1 : zI) (W1 : zW) (v : Int32), rS τ (k9_woke r w τ φ) I1 W1 → zr zNM cA ad I1 W1 O g → zf zNM ad h g → Q (some (.int v)) g) : ww l D tys A X fr lo mX11_woke Q 0 [(0, .ref (ad 50)), (1, .int r), (2, .int w)] [] h := by
  refine w_aload_n (List.Mem.head _) (tX11_woke_0_ok (0, .aload_n 0, 1) (List.mem_of_getElem? (i := 0) rfl)) ?_
  refine w_iconst (by decide) (tX11_woke_0_ok (1, .iconst 0, 1) (List.mem_of_getElem? (i := 1) rfl)) (fun zv1 ze2 => ?_)
  refine z_put (f := (I 50)) (own := 16) (k := 0) hz rfl rfl rfl rfl rfl rfl rfl (by decide) rfl ⟨rfl, rfl⟩ (tX11_woke_0_ok (2, .putfield 85, 3) (List.mem_of_getElem? (i := 2) rfl)) (fun zh3 zI4 zq5 zz6 zf7 => ?_)
  exact y9_woke5 hT zz6 hk (H.th zq5) hf hlo (fun g I1 W1 v a b c => hq g I1 W1 v a b (zf7.tr c))
theorem y9_gallery5 (hT : k_tys tys cA) {p : Int32} (hz : zr zNM cA ad I W O h) (hk : kok τ φ) (H : rS τ φ I W) (hf : 30 ≤ fr) (hlo : 900 ≤ lo) (hq : ∀ (g : ch_H) (I1 : zI) (W1 : zW) (v : Int32), rS (n_gallery p τ) (k9_gallery p τ φ) I1 W1 → zr zNM cA ad I1 W1 O g → zf zNM ad h g → Q (some (.int v)) g) : ww l D tys A X fr lo mX11_gallery Q 5 [(0, .ref (ad 50)), (1, .int p)] [] h := by
  have n6 := hk.1.1
  obtain ⟨ga6, pe8, ta6⟩ := hk.2.2.2.1
  obtain ⟨h1, ⟨h21, h22, h23⟩, ⟨h3, h32⟩, h4, h5, h6, h7, h8, h9, h10, h11⟩ := id H
  have r0 := h1.1
  refine w_aload_n (List.Mem.head _) (tX11_gallery_0_ok (5, .aload_n 0, 1) (List.mem_of_getElem? (i := 3) rfl)) ?_
  refine z_get (f := (I 50)) (own := 16) (k := 20) hz rfl rfl rfl rfl rfl rfl rfl (by decide) (tX11_gallery_0_ok (6, .getfield 248, 3) (List.mem_of_getElem? (i := 4) rfl)) ?_
  refine w_if_eq (tgt := 31) (tX11_gallery_0_ok (9, .ifCond .eq 22, 3) (List.mem_of_getElem? (i := 5) rfl)) rfl (fun zb1 => ?_) (fun zb1 => ?_)
  · refine w_iconst (by decide) (tX11_gallery_0_ok (31, .iconst (-1), 1) (List.mem_of_getElem? (i := 15) rfl)) (fun zv2 ze3 => ?_)
    refine w_iret rfl (tX11_gallery_0_ok (32, .ireturn, 1) (List.mem_of_getElem? (i := 16) rfl)) ?_
    have ek : k9_gallery p τ φ = φ := if_neg (by omega)
    have en : n_gallery p τ = τ := if_neg (by omega)
    exact hq h I W _ (by rw [ek, en]; exact H) hz zf.rf
  · refine w_aload_n (List.Mem.head _) (tX11_gallery_0_ok (12, .aload_n 0, 1) (List.mem_of_getElem? (i := 6) rfl)) ?_
    refine z_get (f := (I 50)) (own := 16) (k := 32) hz rfl rfl rfl rfl rfl rfl rfl (by decide) (tX11_gallery_0_ok (13, .getfield 258, 3) (List.mem_of_getElem? (i := 7) rfl)) ?_
    refine w_bipush (by decide) (tX11_gallery_0_ok (16, .bipush 6, 2) (List.mem_of_getElem? (i := 8) rfl)) (fun zv4 ze5 => ?_)
    refine w_icmp_eq (tgt := 31) (tX11_gallery_0_ok (18, .if_icmp .eq 13, 3) (List.mem_of_getElem? (i := 9) rfl)) rfl (fun zb6 => ?_) (fun zb6 => ?_)
    · refine w_iconst (by decide) (tX11_gallery_0_ok (31, .iconst (-1), 1) (List.mem_of_getElem? (i := 15) rfl)) (fun zv7 ze8 => ?_)
      refine w_iret rfl (tX11_gallery_0_ok (32, .ireturn, 1) (List.mem_of_getElem? (i := 16) rfl)) ?_
      have ek : k9_gallery p τ φ = φ := if_neg (by omega)
      have en : n_gallery p τ = τ := if_neg (by omega)
      exact hq h I W _ (by rw [ek, en]; exact H) hz zf.rf
    · refine w_iload_n (List.Mem.tail _ (List.Mem.head _)) (tX11_gallery_0_ok (21, .iload_n 1, 1) (List.mem_of_getElem? (i := 10) rfl)) ?_
      refine w_iconst (by decide) (tX11_gallery_0_ok (22, .iconst 0, 1) (List.mem_of_getElem? (i := 11) rfl)) (fun zv9 ze10 => ?_)
      refine w_bipush (by decide) (tX11_gallery_0_ok (23, .bipush 60, 2) (List.mem_of_getElem? (i := 12) rfl)) (fun zv11 ze12 => ?_)
      refine w_callS (own := 16) (mi := 199) [.int p, .int zv9, .int zv11] [] [(0, .int p), (1, .int zv9), (2, .int zv11)] rfl (cllw_X11 (207, 1, 199) (List.mem_of_getElem? (i := 2) rfl)) rfl rfl (by omega) (w_lo (n := 22) rfl (by omega)) (Nat.le_of_ble_eq_true rfl) (Nat.le_of_ble_eq_true rfl) rfl (tX11_gallery_0_ok (25, .invokestatic 207, 3) (List.mem_of_getElem? (i := 13) rfl)) (r_isIn (fun zv13 ze14 => ?_))
      show ww l D tys A X fr lo mX11_gallery Q 28 [(0, .ref (ad 50)), (1, .int p)] [.int zv13] h
      refine w_if_ne (tgt := 33) (tX11_gallery_0_ok (28, .ifCond .ne 5, 3) (List.mem_of_getElem? (i := 14) rfl)) rfl (fun zb15 => ?_) (fun zb15 => ?_)
      · refine w_aload_n (List.Mem.head _) (tX11_gallery_0_ok (33, .aload_n 0, 1) (List.mem_of_getElem? (i := 17) rfl)) ?_
        refine z_getR (L1 := 59) (own := 16) (k := 25) hz rfl rfl rfl rfl rfl rfl rfl (by decide) (tX11_gallery_0_ok (34, .getfield 54, 3) (List.mem_of_getElem? (i := 18) rfl)) ?_
        refine w_bipush (by decide) (tX11_gallery_0_ok (37, .bipush 12, 2) (List.mem_of_getElem? (i := 19) rfl)) (fun zv16 ze17 => ?_)
        refine w_aload_n (List.Mem.head _) (tX11_gallery_0_ok (39, .aload_n 0, 1) (List.mem_of_getElem? (i := 20) rfl)) ?_
        refine z_get (f := (I 50)) (own := 16) (k := 32) hz rfl rfl rfl rfl rfl rfl rfl (by decide) (tX11_gallery_0_ok (40, .getfield 258, 3) (List.mem_of_getElem? (i := 21) rfl)) ?_
        refine w_iadd (by omega) (by omega) (tX11_gallery_0_ok (43, .iadd, 1) (List.mem_of_getElem? (i := 22) rfl)) (fun zv18 ze19 => ?_)
        refine w_iload_n (List.Mem.tail _ (List.Mem.head _)) (tX11_gallery_0_ok (44, .iload_n 1, 1) (List.mem_of_getElem? (i := 23) rfl)) ?_
        refine z_iast (f := (I 59)) hT hz rfl rfl rfl (by omega) (by omega) (tX11_gallery_0_ok (45, .iastore, 1) (List.mem_of_getElem? (i := 24) rfl)) (fun zh20 zI21 zq22 zz23 zf24 => ?_)
        refine w_aload_n (List.Mem.head _) (tX11_gallery_0_ok (46, .aload_n 0, 1) (List.mem_of_getElem? (i := 25) rfl)) ?_
        refine w_dup rfl (tX11_gallery_0_ok (47, .dup, 1) (List.mem_of_getElem? (i := 26) rfl)) ?_
        refine z_get (f := (I 50)) (own := 16) (k := 32) zz23 rfl rfl rfl rfl ((congrFun zq22 50).trans (s2_n (by decide))) rfl rfl (by decide) (tX11_gallery_0_ok (48, .getfield 258, 3) (List.mem_of_getElem? (i := 27) rfl)) ?_
        refine w_iconst (by decide) (tX11_gallery_0_ok (51, .iconst 1, 1) (List.mem_of_getElem? (i := 28) rfl)) (fun zv25 ze26 => ?_)
        refine w_iadd (by omega) (by omega) (tX11_gallery_0_ok (52, .iadd, 1) (List.mem_of_getElem? (i := 29) rfl)) (fun zv27 ze28 => ?_)
        refine z_put (f := (I 50)) (own := 16) (k := 32) zz23 rfl rfl rfl rfl ((congrFun zq22 50).trans (s2_n (by decide))) rfl rfl (by decide) rfl ⟨rfl, rfl⟩ (tX11_gallery_0_ok (53, .putfield 258, 3) (List.mem_of_getElem? (i := 30) rfl)) (fun zh29 zI30 zq31 zz32 zf33 => ?_)
        refine w_bipush (by decide) (tX11_gallery_0_ok (56, .bipush 12, 2) (List.mem_of_getElem? (i := 31) rfl)) (fun zv34 ze35 => ?_)
        refine w_aload_n (List.Mem.head _) (tX11_gallery_0_ok (58, .aload_n 0, 1) (List.mem_of_getElem? (i := 32) rfl)) ?_
        refine z_get (f := (upd (I 50) 32 zv27)) (own := 16) (k := 32) zz32 rfl rfl rfl rfl ((congrFun zq31 50).trans (s2_s _ _ _)) rfl rfl (by decide) (tX11_gallery_0_ok (59, .getfield 258, 3) (List.mem_of_getElem? (i := 33) rfl)) ?_
        show ww l D tys A X fr lo mX11_gallery Q 62 [(0, .ref (ad 50)), (1, .int p)] [.int zv27, .int zv34] zh29
        refine w_iadd (by omega) (by omega) (tX11_gallery_0_ok (62, .iadd, 1) (List.mem_of_getElem? (i := 34) rfl)) (fun zv36 ze37 => ?_)
        refine w_iconst (by decide) (tX11_gallery_0_ok (63, .iconst 1, 1) (List.mem_of_getElem? (i := 35) rfl)) (fun zv38 ze39 => ?_)
        refine w_isub (by omega) (by omega) (tX11_gallery_0_ok (64, .isub, 1) (List.mem_of_getElem? (i := 36) rfl)) (fun zv40 ze41 => ?_)
        refine w_iret rfl (tX11_gallery_0_ok (65, .ireturn, 1) (List.mem_of_getElem? (i := 37) rfl)) ?_
        have ec : 1 ≤ τ.1 ∧ 0 ≤ p.toInt ∧ p.toInt ≤ 60 ∧ τ.2.1 < 6 := by omega
        have ek : k9_gallery p τ φ = (s2 φ.1 59 (upd (φ.1 59) (12 + τ.2.1) p), φ.2) := if_pos ec
        have en : n_gallery p τ = (τ.1, τ.2.1 + 1, τ.2.2.1, τ.2.2.2) := if_pos ec
        have c1 := (((congrFun zq31 59).trans (s2_n (by decide))).trans ((congrFun zq22 59).trans (s2_s _ _ _)))
        rw [show zv18.toInt.toNat = 12 + τ.2.1 by omega] at c1
        have c5 := ((congrFun zq31 50).trans (s2_s _ _ _))
        have o : ∀ L, L ≠ 59 → L ≠ 50 → zI30 L = I L := fun L n1 n2 => by rw [zq31, s2_n n2, zq22, s2_n n1]
        have o5 : ∀ k9, k9 ≠ 32 → zI30 50 k9 = I 50 k9 := fun k9 n1 => by rw [c5, upd_n _ _ n1]
        refine hq zh29 zI30 W _ ?_ zz32 (zf24.tr zf33)
        rw [ek, en]
        obtain ⟨K9, eK⟩ : ∃ K9 : zI, K9 = s2 φ.1 59 (upd (φ.1 59) (12 + τ.2.1) p) := ⟨_, rfl⟩
        rw [← eK]
        have k_59 := (congrFun eK 59).trans (s2_s _ _ _)
        have k_n : ∀ L, L ≠ 59 → K9 L = φ.1 L := fun L hL => by rw [eK, s2_n hL]
        refine ⟨h1.mv (o5 20 (by decide)) (o 55 (by decide) (by decide)), ?_, ?_, fun g hg => ?_, fun a b ha hb => ?_, fun i hi => ?_, fun i hi => ?_, fun r9 hr => ?_, ?_, ?_, ?_⟩
        · show (zI30 50 32).toInt = ((τ.2.1 + 1 : Nat) : Int) ∧ (zI30 50 33).toInt = _ ∧ (zI30 50 34).toInt = _
          rw [o5 33 (by decide), o5 34 (by decide), c5, upd_s]
          exact ⟨by omega, h22, h23⟩
        · show tx zI30 56 τ.1 τ.2.2.1 (K9 56) ∧ _
          rw [k_n 56 (by decide)]
          exact ⟨h3.mv (o 56 (by decide) (by decide)), h32⟩
        · show zI30 59 (12 + g) = K9 59 (12 + g)
          have hg : g < τ.2.1 + 1 := hg
          rw [c1, k_59]
          by_cases e : g = τ.2.1
          · subst e
            rw [upd_s, upd_s]
          · rw [upd_n _ _ (by omega), upd_n _ _ (by omega)]
            exact h4 g (by omega)
        · show zI30 65 (18 * a + b) = K9 65 (18 * a + b) ∧ 0 ≤ (K9 65 (18 * a + b)).toInt ∧ (K9 65 (18 * a + b)).toInt ≤ 1
          rw [o 65 (by decide) (by decide), k_n 65 (by decide)]
          exact h5 a b ha hb
        · show zI30 62 i = K9 62 i
          rw [o 62 (by decide) (by decide), k_n 62 (by decide)]
          exact h6 i hi
        · show zI30 63 i = K9 63 i ∧ zI30 64 i = K9 64 i
          rw [o 63 (by decide) (by decide), o 64 (by decide) (by decide), k_n 63 (by decide), k_n 64 (by decide)]
          exact h7 i hi
        · show zI30 60 r9 = K9 60 r9 ∧ zI30 61 r9 = K9 61 r9
          rw [o 60 (by decide) (by decide), o 61 (by decide) (by decide), k_n 60 (by decide), k_n 61 (by decide)]
          exact h8 r9 hr
        · show (zI30 50 39).toInt = (K9 50 39).toInt
          rw [o5 39 (by decide), k_n 50 (by decide)]
          exact h9
        · show (K9 50 39).toInt = 1 → (zI30 50 35).toInt = (K9 50 35).toInt ∧ tx zI30 58 τ.1 (K9 50 35).toInt.toNat (K9 58) ∧ W 50 38 = φ.2.1 38
          rw [o5 35 (by decide), k_n 50 (by decide), k_n 58 (by decide)]
          exact fun z => ⟨(h10 z).1, (h10 z).2.1.mv (o 58 (by decide) (by decide)), (h10 z).2.2⟩
        · show zI30 50 7 = K9 50 7
          rw [o5 7 (by decide), k_n 50 (by decide)]
          exact h11
      · refine w_iconst (by decide) (tX11_gallery_0_ok (31, .iconst (-1), 1) (List.mem_of_getElem? (i := 15) rfl)) (fun zv42 ze43 => ?_)
        refine w_iret rfl (tX11_gallery_0_ok (32, .ireturn, 1) (List.mem_of_getElem? (i := 16) rfl)) ?_
        have ek : k9_gallery p τ φ = φ := if_neg (by omega)
        have en : n_gallery p τ = τ := if_neg (by omega)
        exact hq h I W _ (by rw [ek, en]; exact H) hz zf.rf
theorem y9_gallery (hT : k_tys tys cA) {p : Int32} (hz : zr zNM cA ad I W O h) (hk : kok τ φ) (H : rS τ φ I W) (hf : 30 ≤ fr) (hlo : 900 ≤ lo) (hq : ∀ (g : ch_H) (I1 : zI) (W1 : zW) (v : Int32), rS (n_gallery p τ) (k9_gallery p τ φ) I1 W1 → zr zNM cA ad I1 W1 O g → zf zNM ad h g → Q (some (.int v)) g) : ww l D tys A X fr lo mX11_gallery Q 0 [(0, .ref (ad 50)), (1, .int p)] [] h := by
  refine w_aload_n (List.Mem.head _) (tX11_gallery_0_ok (0, .aload_n 0, 1) (List.mem_of_getElem? (i := 0) rfl)) ?_
  refine w_iconst (by decide) (tX11_gallery_0_ok (1, .iconst 0, 1) (List.mem_of_getElem? (i := 1) rfl)) (fun zv1 ze2 => ?_)
  refine z_put (f := (I 50)) (own := 16) (k := 0) hz rfl rfl rfl rfl rfl rfl rfl (by decide) rfl ⟨rfl, rfl⟩ (tX11_gallery_0_ok (2, .putfield 85, 3) (List.mem_of_getElem? (i := 2) rfl)) (fun zh3 zI4 zq5 zz6 zf7 => ?_)
  exact y9_gallery5 hT zz6 hk (H.th zq5) hf hlo (fun g I1 W1 v a b c => hq g I1 W1 v a b (zf7.tr c))
theorem y9_beside5 (hT : k_tys tys cA) {a b o : Int32} (hz : zr zNM cA ad I W O h) (hk : kok τ φ) (H : rS τ φ I W) (hf : 30 ≤ fr) (hlo : 900 ≤ lo) (ho : 0 ≤ o.toInt ∧ o.toInt ≤ 1) (hq : ∀ (g : ch_H) (I1 : zI) (W1 : zW) (v : Int32), rS τ (k9_beside a b o τ φ) I1 W1 → zr zNM cA ad I1 W1 O g → zf zNM ad h g → Q (some (.int v)) g) : ww l D tys A X fr lo mX11_beside Q 5 [(0, .ref (ad 50)), (1, .int a), (2, .int b), (3, .int o)] [] h := by
  have n6 := hk.1.1
  obtain ⟨ga6, pe8, ta6⟩ := hk.2.2.2.1
  obtain ⟨h1, ⟨h21, h22, h23⟩, ⟨h3, h32⟩, h4, h5, h6, h7, h8, h9, h10, h11⟩ := id H
  have r0 := h1.1
  refine w_aload_n (List.Mem.head _) (tX11_beside_0_ok (5, .aload_n 0, 1) (List.mem_of_getElem? (i := 3) rfl)) ?_
  refine w_iload_n (List.Mem.tail _ (List.Mem.head _)) (tX11_beside_0_ok (6, .iload_n 1, 1) (List.mem_of_getElem? (i := 4) rfl)) ?_
  refine w_iload_n (List.Mem.tail _ (List.Mem.tail _ (List.Mem.head _))) (tX11_beside_0_ok (7, .iload_n 2, 1) (List.mem_of_getElem? (i := 5) rfl)) ?_
  refine w_callV (own := 16) (mi := 160) [.int a, .int b] [] [(0, .ref (ad 50)), (1, .int a), (2, .int b)] rfl (cllw_X11 (320, 0, 160) (List.mem_of_getElem? (i := 46) rfl)) rfl rfl (hz.ob rfl rfl) rfl (by omega) (w_lo (n := 22) rfl (by omega)) (Nat.le_of_ble_eq_true rfl) (Nat.le_of_ble_eq_true rfl) rfl (tX11_beside_0_ok (8, .invokevirtual 320, 3) (List.mem_of_getElem? (i := 6) rfl)) (y_areTwo hT hz r0 n6 h21 ga6 (by omega) (w_sub (n := 22) rfl (by omega)) (fun zv1 ze2 => ?_))
  show ww l D tys A X fr lo mX11_beside Q 11 [(0, .ref (ad 50)), (1, .int a), (2, .int b), (3, .int o)] [.int zv1] h
  unfold isPl at ze2
  refine w_if_ne (tgt := 16) (tX11_beside_0_ok (11, .ifCond .ne 5, 3) (List.mem_of_getElem? (i := 7) rfl)) rfl (fun zb3 => ?_) (fun zb3 => ?_)
  · refine w_aload_n (List.Mem.head _) (tX11_beside_0_ok (16, .aload_n 0, 1) (List.mem_of_getElem? (i := 10) rfl)) ?_
    refine z_getR (L1 := 65) (own := 16) (k := 31) hz rfl rfl rfl rfl rfl rfl rfl (by decide) (tX11_beside_0_ok (17, .getfield 72, 3) (List.mem_of_getElem? (i := 11) rfl)) ?_
    refine w_bipush (by decide) (tX11_beside_0_ok (20, .bipush 18, 2) (List.mem_of_getElem? (i := 12) rfl)) (fun zv4 ze5 => ?_)
    refine w_iload_n (List.Mem.tail _ (List.Mem.head _)) (tX11_beside_0_ok (22, .iload_n 1, 1) (List.mem_of_getElem? (i := 13) rfl)) ?_
    refine w_imul (by assumption) (by omega) (by omega) (tX11_beside_0_ok (23, .imul, 1) (List.mem_of_getElem? (i := 14) rfl)) (fun zv6 ze7 => ?_)
    refine w_iload_n (List.Mem.tail _ (List.Mem.tail _ (List.Mem.head _))) (tX11_beside_0_ok (24, .iload_n 2, 1) (List.mem_of_getElem? (i := 15) rfl)) ?_
    refine w_iadd (by omega) (by omega) (tX11_beside_0_ok (25, .iadd, 1) (List.mem_of_getElem? (i := 16) rfl)) (fun zv8 ze9 => ?_)
    refine w_iload_n (List.Mem.tail _ (List.Mem.tail _ (List.Mem.tail _ (List.Mem.head _)))) (tX11_beside_0_ok (26, .iload_n 3, 1) (List.mem_of_getElem? (i := 17) rfl)) ?_
    refine z_zast (f := (I 65)) hT hz rfl rfl rfl (by omega) (by omega) (by omega) (tX11_beside_0_ok (27, .bastore, 1) (List.mem_of_getElem? (i := 18) rfl)) (fun zh10 zI11 zq12 zz13 zf14 => ?_)
    refine w_aload_n (List.Mem.head _) (tX11_beside_0_ok (28, .aload_n 0, 1) (List.mem_of_getElem? (i := 19) rfl)) ?_
    refine z_getR (L1 := 65) (own := 16) (k := 31) zz13 rfl rfl rfl rfl rfl rfl rfl (by decide) (tX11_beside_0_ok (29, .getfield 72, 3) (List.mem_of_getElem? (i := 20) rfl)) ?_
    refine w_bipush (by decide) (tX11_beside_0_ok (32, .bipush 18, 2) (List.mem_of_getElem? (i := 21) rfl)) (fun zv15 ze16 => ?_)
    refine w_iload_n (List.Mem.tail _ (List.Mem.tail _ (List.Mem.head _))) (tX11_beside_0_ok (34, .iload_n 2, 1) (List.mem_of_getElem? (i := 22) rfl)) ?_
    refine w_imul (by assumption) (by omega) (by omega) (tX11_beside_0_ok (35, .imul, 1) (List.mem_of_getElem? (i := 23) rfl)) (fun zv17 ze18 => ?_)
    refine w_iload_n (List.Mem.tail _ (List.Mem.head _)) (tX11_beside_0_ok (36, .iload_n 1, 1) (List.mem_of_getElem? (i := 24) rfl)) ?_
    refine w_iadd (by omega) (by omega) (tX11_beside_0_ok (37, .iadd, 1) (List.mem_of_getElem? (i := 25) rfl)) (fun zv19 ze20 => ?_)
    refine w_iload_n (List.Mem.tail _ (List.Mem.tail _ (List.Mem.tail _ (List.Mem.head _)))) (tX11_beside_0_ok (38, .iload_n 3, 1) (List.mem_of_getElem? (i := 26) rfl)) ?_
    refine z_zast (f := (upd (I 65) zv8.toInt.toNat o)) hT zz13 rfl rfl ((congrFun zq12 65).trans (s2_s _ _ _)) (by omega) (by omega) (by omega) (tX11_beside_0_ok (39, .bastore, 1) (List.mem_of_getElem? (i := 27) rfl)) (fun zh21 zI22 zq23 zz24 zf25 => ?_)
    refine w_iconst (by decide) (tX11_beside_0_ok (40, .iconst 1, 1) (List.mem_of_getElem? (i := 28) rfl)) (fun zv26 ze27 => ?_)
    refine w_zret rfl (by omega) (by omega) (tX11_beside_0_ok (41, .ireturn, 1) (List.mem_of_getElem? (i := 29) rfl)) ?_
    have ec : isPl τ.1 τ.2.1 a.toInt ∧ isPl τ.1 τ.2.1 b.toInt ∧ ¬ a.toInt = b.toInt := by
      unfold isPl
      omega
    have ek : k9_beside a b o τ φ = (s2 φ.1 65 (upd (upd (φ.1 65) (18 * a.toInt.toNat + b.toInt.toNat) o) (18 * b.toInt.toNat + a.toInt.toNat) o), φ.2) := if_pos ec
    have c1 := ((congrFun zq23 65).trans (s2_s _ _ _))
    rw [show zv8.toInt.toNat = 18 * a.toInt.toNat + b.toInt.toNat by omega, show zv19.toInt.toNat = 18 * b.toInt.toNat + a.toInt.toNat by omega] at c1
    have om : ∀ L, L ≠ 65 → zI22 L = I L := fun L n1 => by rw [zq23, s2_n n1, zq12, s2_n n1]
    have o5 : ∀ k9, zI22 50 k9 = I 50 k9 := fun k9 => by rw [om 50 (by decide)]
    refine hq zh21 zI22 W _ ?_ zz24 (zf14.tr zf25)
    rw [ek]
    obtain ⟨K9, eK⟩ : ∃ K9 : zI, K9 = s2 φ.1 65 (upd (upd (φ.1 65) (18 * a.toInt.toNat + b.toInt.toNat) o) (18 * b.toInt.toNat + a.toInt.toNat) o) := ⟨_, rfl⟩
    rw [← eK]
    have k_65 := (congrFun eK 65).trans (s2_s _ _ _)
    have k_n : ∀ L, L ≠ 65 → K9 L = φ.1 L := fun L hL => by rw [eK, s2_n hL]
    refine ⟨h1.mv (o5 20) (om 55 (by decide)), ?_, ?_, fun g hg => ?_, fun a9 b9 ha hb => ?_, fun i hi => ?_, fun i hi => ?_, fun r9 hr => ?_, ?_, ?_, ?_⟩
    · rw [o5 32, o5 33, o5 34]
      exact ⟨h21, h22, h23⟩
    · show tx zI22 56 τ.1 τ.2.2.1 (K9 56) ∧ _
      rw [k_n 56 (by decide)]
      exact ⟨h3.mv (om 56 (by decide)), h32⟩
    · show zI22 59 (12 + g) = K9 59 (12 + g)
      rw [om 59 (by decide), k_n 59 (by decide)]
      exact h4 g hg
    · show zI22 65 (18 * a9 + b9) = K9 65 (18 * a9 + b9) ∧ 0 ≤ (K9 65 (18 * a9 + b9)).toInt ∧ (K9 65 (18 * a9 + b9)).toInt ≤ 1
      rw [c1, k_65]
      by_cases e2 : 18 * a9 + b9 = 18 * b.toInt.toNat + a.toInt.toNat
      · rw [e2, upd_s, upd_s]
        exact ⟨rfl, ho⟩
      · rw [upd_n _ _ e2, upd_n _ _ e2]
        by_cases e1 : 18 * a9 + b9 = 18 * a.toInt.toNat + b.toInt.toNat
        · rw [e1, upd_s, upd_s]
          exact ⟨rfl, ho⟩
        · rw [upd_n _ _ e1, upd_n _ _ e1]
          exact h5 a9 b9 ha hb
    · show zI22 62 i = K9 62 i
      rw [om 62 (by decide), k_n 62 (by decide)]
      exact h6 i hi
    · show zI22 63 i = K9 63 i ∧ zI22 64 i = K9 64 i
      rw [om 63 (by decide), om 64 (by decide), k_n 63 (by decide), k_n 64 (by decide)]
      exact h7 i hi
    · show zI22 60 r9 = K9 60 r9 ∧ zI22 61 r9 = K9 61 r9
      rw [om 60 (by decide), om 61 (by decide), k_n 60 (by decide), k_n 61 (by decide)]
      exact h8 r9 hr
    · show (zI22 50 39).toInt = (K9 50 39).toInt
      rw [o5 39, k_n 50 (by decide)]
      exact h9
    · show (K9 50 39).toInt = 1 → (zI22 50 35).toInt = (K9 50 35).toInt ∧ tx zI22 58 τ.1 (K9 50 35).toInt.toNat (K9 58) ∧ W 50 38 = φ.2.1 38
      rw [o5 35, k_n 50 (by decide), k_n 58 (by decide)]
      exact fun z => ⟨(h10 z).1, (h10 z).2.1.mv (om 58 (by decide)), (h10 z).2.2⟩
    · show zI22 50 7 = K9 50 7
      rw [o5 7, k_n 50 (by decide)]
      exact h11
  · refine w_iconst (by decide) (tX11_beside_0_ok (14, .iconst 0, 1) (List.mem_of_getElem? (i := 8) rfl)) (fun zv28 ze29 => ?_)
    refine w_zret rfl (by omega) (by omega) (tX11_beside_0_ok (15, .ireturn, 1) (List.mem_of_getElem? (i := 9) rfl)) ?_
    have ek : k9_beside a b o τ φ = φ := if_neg (by unfold isPl; omega)
    exact hq h I W _ (by rw [ek]; exact H) hz zf.rf
theorem y9_beside (hT : k_tys tys cA) {a b o : Int32} (hz : zr zNM cA ad I W O h) (hk : kok τ φ) (H : rS τ φ I W) (hf : 30 ≤ fr) (hlo : 900 ≤ lo) (ho : 0 ≤ o.toInt ∧ o.toInt ≤ 1) (hq : ∀ (g : ch_H) (I1 : zI) (W1 : zW) (v : Int32), rS τ (k9_beside a b o τ φ) I1 W1 → zr zNM cA ad I1 W1 O g → zf zNM ad h g → Q (some (.int v)) g) : ww l D tys A X fr lo mX11_beside Q 0 [(0, .ref (ad 50)), (1, .int a), (2, .int b), (3, .int o)] [] h := by
  refine w_aload_n (List.Mem.head _) (tX11_beside_0_ok (0, .aload_n 0, 1) (List.mem_of_getElem? (i := 0) rfl)) ?_
  refine w_iconst (by decide) (tX11_beside_0_ok (1, .iconst 0, 1) (List.mem_of_getElem? (i := 1) rfl)) (fun zv1 ze2 => ?_)
  refine z_put (f := (I 50)) (own := 16) (k := 0) hz rfl rfl rfl rfl rfl rfl rfl (by decide) rfl ⟨rfl, rfl⟩ (tX11_beside_0_ok (2, .putfield 85, 3) (List.mem_of_getElem? (i := 2) rfl)) (fun zh3 zI4 zq5 zz6 zf7 => ?_)
  exact y9_beside5 hT zz6 hk (H.th zq5) hf hlo ho (fun g I1 W1 v a b c => hq g I1 W1 v a b (zf7.tr c))
theorem y9_person5 (hT : k_tys tys cA) {w p : Int32} (hz : zr zNM cA ad I W O h) (hk : kok τ φ) (H : rS τ φ I W) (hf : 30 ≤ fr) (hlo : 900 ≤ lo) (hq : ∀ (g : ch_H) (I1 : zI) (W1 : zW) (v : Int32), rS (n_person w p τ) (k9_person w p τ φ) I1 W1 → zr zNM cA ad I1 W1 O g → zf zNM ad h g → Q (some (.int v)) g) : ww l D tys A X fr lo mX11_person Q 5 [(0, .ref (ad 50)), (1, .int w), (2, .int p)] [] h := by
  have n6 := hk.1.1
  obtain ⟨ga6, pe8, ta6⟩ := hk.2.2.2.1
  obtain ⟨h1, ⟨h21, h22, h23⟩, ⟨h3, h32⟩, h4, h5, h6, h7, h8, h9, h10, h11⟩ := id H
  have r0 := h1.1
  refine w_aload_n (List.Mem.head _) (tX11_person_0_ok (5, .aload_n 0, 1) (List.mem_of_getElem? (i := 3) rfl)) ?_
  refine z_get (f := (I 50)) (own := 16) (k := 33) hz rfl rfl rfl rfl rfl rfl rfl (by decide) (tX11_person_0_ok (6, .getfield 261, 3) (List.mem_of_getElem? (i := 4) rfl)) ?_
  refine w_bipush (by decide) (tX11_person_0_ok (9, .bipush 8, 2) (List.mem_of_getElem? (i := 5) rfl)) (fun zv1 ze2 => ?_)
  refine w_icmp_eq (tgt := 32) (tX11_person_0_ok (11, .if_icmp .eq 21, 3) (List.mem_of_getElem? (i := 6) rfl)) rfl (fun zb3 => ?_) (fun zb3 => ?_)
  · refine w_iconst (by decide) (tX11_person_0_ok (32, .iconst (-1), 1) (List.mem_of_getElem? (i := 16) rfl)) (fun zv4 ze5 => ?_)
    refine w_iret rfl (tX11_person_0_ok (33, .ireturn, 1) (List.mem_of_getElem? (i := 17) rfl)) ?_
    have ek : k9_person w p τ φ = φ := if_neg (by unfold isPl; omega)
    have en : n_person w p τ = τ := if_neg (by omega)
    exact hq h I W _ (by rw [ek, en]; exact H) hz zf.rf
  · refine w_iload_n (List.Mem.tail _ (List.Mem.head _)) (tX11_person_0_ok (14, .iload_n 1, 1) (List.mem_of_getElem? (i := 7) rfl)) ?_
    refine w_iconst (by decide) (tX11_person_0_ok (15, .iconst 1, 1) (List.mem_of_getElem? (i := 8) rfl)) (fun zv6 ze7 => ?_)
    refine w_bipush (by decide) (tX11_person_0_ok (16, .bipush 9, 2) (List.mem_of_getElem? (i := 9) rfl)) (fun zv8 ze9 => ?_)
    refine w_callS (own := 16) (mi := 199) [.int w, .int zv6, .int zv8] [] [(0, .int w), (1, .int zv6), (2, .int zv8)] rfl (cllw_X11 (207, 1, 199) (List.mem_of_getElem? (i := 2) rfl)) rfl rfl (by omega) (w_lo (n := 22) rfl (by omega)) (Nat.le_of_ble_eq_true rfl) (Nat.le_of_ble_eq_true rfl) rfl (tX11_person_0_ok (18, .invokestatic 207, 3) (List.mem_of_getElem? (i := 10) rfl)) (r_isIn (fun zv10 ze11 => ?_))
    show ww l D tys A X fr lo mX11_person Q 21 [(0, .ref (ad 50)), (1, .int w), (2, .int p)] [.int zv10] h
    refine w_if_eq (tgt := 32) (tX11_person_0_ok (21, .ifCond .eq 11, 3) (List.mem_of_getElem? (i := 11) rfl)) rfl (fun zb12 => ?_) (fun zb12 => ?_)
    · refine w_iconst (by decide) (tX11_person_0_ok (32, .iconst (-1), 1) (List.mem_of_getElem? (i := 16) rfl)) (fun zv13 ze14 => ?_)
      refine w_iret rfl (tX11_person_0_ok (33, .ireturn, 1) (List.mem_of_getElem? (i := 17) rfl)) ?_
      have ek : k9_person w p τ φ = φ := if_neg (by unfold isPl; omega)
      have en : n_person w p τ = τ := if_neg (by omega)
      exact hq h I W _ (by rw [ek, en]; exact H) hz zf.rf
    · refine w_aload_n (List.Mem.head _) (tX11_person_0_ok (24, .aload_n 0, 1) (List.mem_of_getElem? (i := 12) rfl)) ?_
      refine w_iload_n (List.Mem.tail _ (List.Mem.tail _ (List.Mem.head _))) (tX11_person_0_ok (25, .iload_n 2, 1) (List.mem_of_getElem? (i := 13) rfl)) ?_
      refine w_callV (own := 16) (mi := 202) [.int p] [] [(0, .ref (ad 50)), (1, .int p)] rfl (cllw_X11 (317, 0, 202) (List.mem_of_getElem? (i := 47) rfl)) rfl rfl (hz.ob rfl rfl) rfl (by omega) (w_lo (n := 21) rfl (by omega)) (Nat.le_of_ble_eq_true rfl) (Nat.le_of_ble_eq_true rfl) rfl (tX11_person_0_ok (26, .invokevirtual 317, 3) (List.mem_of_getElem? (i := 14) rfl)) (y_isPlace hT hz r0 n6 h21 ga6 (by omega) (w_sub (n := 21) rfl (by omega)) (fun zv15 ze16 => ?_))
      show ww l D tys A X fr lo mX11_person Q 29 [(0, .ref (ad 50)), (1, .int w), (2, .int p)] [.int zv15] h
      unfold isPl at ze16
      refine w_if_ne (tgt := 34) (tX11_person_0_ok (29, .ifCond .ne 5, 3) (List.mem_of_getElem? (i := 15) rfl)) rfl (fun zb17 => ?_) (fun zb17 => ?_)
      · refine w_aload_n (List.Mem.head _) (tX11_person_0_ok (34, .aload_n 0, 1) (List.mem_of_getElem? (i := 18) rfl)) ?_
        refine z_getR (L1 := 62) (own := 16) (k := 28) hz rfl rfl rfl rfl rfl rfl rfl (by decide) (tX11_person_0_ok (35, .getfield 63, 3) (List.mem_of_getElem? (i := 19) rfl)) ?_
        refine w_aload_n (List.Mem.head _) (tX11_person_0_ok (38, .aload_n 0, 1) (List.mem_of_getElem? (i := 20) rfl)) ?_
        refine z_get (f := (I 50)) (own := 16) (k := 33) hz rfl rfl rfl rfl rfl rfl rfl (by decide) (tX11_person_0_ok (39, .getfield 261, 3) (List.mem_of_getElem? (i := 21) rfl)) ?_
        refine w_iload_n (List.Mem.tail _ (List.Mem.head _)) (tX11_person_0_ok (42, .iload_n 1, 1) (List.mem_of_getElem? (i := 22) rfl)) ?_
        refine z_iast (f := (I 62)) hT hz rfl rfl rfl (by omega) (by omega) (tX11_person_0_ok (43, .iastore, 1) (List.mem_of_getElem? (i := 23) rfl)) (fun zh18 zI19 zq20 zz21 zf22 => ?_)
        refine w_aload_n (List.Mem.head _) (tX11_person_0_ok (44, .aload_n 0, 1) (List.mem_of_getElem? (i := 24) rfl)) ?_
        refine z_getR (L1 := 56) (own := 16) (k := 22) zz21 rfl rfl rfl rfl rfl rfl rfl (by decide) (tX11_person_0_ok (45, .getfield 45, 3) (List.mem_of_getElem? (i := 25) rfl)) ?_
        refine w_bipush (by decide) (tX11_person_0_ok (48, .bipush 30, 2) (List.mem_of_getElem? (i := 26) rfl)) (fun zv23 ze24 => ?_)
        refine w_aload_n (List.Mem.head _) (tX11_person_0_ok (50, .aload_n 0, 1) (List.mem_of_getElem? (i := 27) rfl)) ?_
        refine z_get (f := (I 50)) (own := 16) (k := 33) zz21 rfl rfl rfl rfl ((congrFun zq20 50).trans (s2_n (by decide))) rfl rfl (by decide) (tX11_person_0_ok (51, .getfield 261, 3) (List.mem_of_getElem? (i := 28) rfl)) ?_
        refine w_iadd (by omega) (by omega) (tX11_person_0_ok (54, .iadd, 1) (List.mem_of_getElem? (i := 29) rfl)) (fun zv25 ze26 => ?_)
        refine w_iload_n (List.Mem.tail _ (List.Mem.tail _ (List.Mem.head _))) (tX11_person_0_ok (55, .iload_n 2, 1) (List.mem_of_getElem? (i := 30) rfl)) ?_
        refine z_iast (f := (I 56)) hT zz21 rfl rfl ((congrFun zq20 56).trans (s2_n (by decide))) (by omega) (by omega) (tX11_person_0_ok (56, .iastore, 1) (List.mem_of_getElem? (i := 31) rfl)) (fun zh27 zI28 zq29 zz30 zf31 => ?_)
        refine w_aload_n (List.Mem.head _) (tX11_person_0_ok (57, .aload_n 0, 1) (List.mem_of_getElem? (i := 32) rfl)) ?_
        refine w_dup rfl (tX11_person_0_ok (58, .dup, 1) (List.mem_of_getElem? (i := 33) rfl)) ?_
        refine z_get (f := (I 50)) (own := 16) (k := 33) zz30 rfl rfl rfl rfl (((congrFun zq29 50).trans (s2_n (by decide))).trans ((congrFun zq20 50).trans (s2_n (by decide)))) rfl rfl (by decide) (tX11_person_0_ok (59, .getfield 261, 3) (List.mem_of_getElem? (i := 34) rfl)) ?_
        refine w_iconst (by decide) (tX11_person_0_ok (62, .iconst 1, 1) (List.mem_of_getElem? (i := 35) rfl)) (fun zv32 ze33 => ?_)
        refine w_iadd (by omega) (by omega) (tX11_person_0_ok (63, .iadd, 1) (List.mem_of_getElem? (i := 36) rfl)) (fun zv34 ze35 => ?_)
        refine z_put (f := (I 50)) (own := 16) (k := 33) zz30 rfl rfl rfl rfl (((congrFun zq29 50).trans (s2_n (by decide))).trans ((congrFun zq20 50).trans (s2_n (by decide)))) rfl rfl (by decide) rfl ⟨rfl, rfl⟩ (tX11_person_0_ok (64, .putfield 261, 3) (List.mem_of_getElem? (i := 37) rfl)) (fun zh36 zI37 zq38 zz39 zf40 => ?_)
        refine w_aload_n (List.Mem.head _) (tX11_person_0_ok (67, .aload_n 0, 1) (List.mem_of_getElem? (i := 38) rfl)) ?_
        refine z_get (f := (upd (I 50) 33 zv34)) (own := 16) (k := 33) zz39 rfl rfl rfl rfl ((congrFun zq38 50).trans (s2_s _ _ _)) rfl rfl (by decide) (tX11_person_0_ok (68, .getfield 261, 3) (List.mem_of_getElem? (i := 39) rfl)) ?_
        show ww l D tys A X fr lo mX11_person Q 71 [(0, .ref (ad 50)), (1, .int w), (2, .int p)] [.int zv34] zh36
        refine w_iconst (by decide) (tX11_person_0_ok (71, .iconst 1, 1) (List.mem_of_getElem? (i := 40) rfl)) (fun zv41 ze42 => ?_)
        refine w_isub (by omega) (by omega) (tX11_person_0_ok (72, .isub, 1) (List.mem_of_getElem? (i := 41) rfl)) (fun zv43 ze44 => ?_)
        refine w_iret rfl (tX11_person_0_ok (73, .ireturn, 1) (List.mem_of_getElem? (i := 42) rfl)) ?_
        have ec : 1 ≤ w.toInt ∧ w.toInt ≤ 9 ∧ isPl τ.1 τ.2.1 p.toInt ∧ τ.2.2.1 < 8 := by
          unfold isPl
          omega
        have ek : k9_person w p τ φ = (s2 (s2 φ.1 62 (upd (φ.1 62) τ.2.2.1 w)) 56 (upd (φ.1 56) (30 + τ.2.2.1) p), φ.2) := if_pos ec
        have en : n_person w p τ = (τ.1, τ.2.1, τ.2.2.1 + 1, τ.2.2.2) := if_pos ec
        have c1 := ((((congrFun zq38 62).trans (s2_n (by decide))).trans ((congrFun zq29 62).trans (s2_n (by decide)))).trans ((congrFun zq20 62).trans (s2_s _ _ _)))
        have c2 := (((congrFun zq38 56).trans (s2_n (by decide))).trans ((congrFun zq29 56).trans (s2_s _ _ _)))
        rw [show ((I 50) 33).toInt.toNat = τ.2.2.1 by omega] at c1
        rw [show zv25.toInt.toNat = 30 + τ.2.2.1 by omega] at c2
        have c5 := ((congrFun zq38 50).trans (s2_s _ _ _))
        have o : ∀ L, L ≠ 62 → L ≠ 56 → L ≠ 50 → zI37 L = I L := fun L n1 n2 n3 => by rw [zq38, s2_n n3, zq29, s2_n n2, zq20, s2_n n1]
        have o5 : ∀ k9, k9 ≠ 33 → zI37 50 k9 = I 50 k9 := fun k9 n1 => by rw [c5, upd_n _ _ n1]
        refine hq zh36 zI37 W _ ?_ zz39 ((zf22.tr zf31).tr zf40)
        rw [ek, en]
        obtain ⟨K9, eK⟩ : ∃ K9 : zI, K9 = s2 (s2 φ.1 62 (upd (φ.1 62) τ.2.2.1 w)) 56 (upd (φ.1 56) (30 + τ.2.2.1) p) := ⟨_, rfl⟩
        rw [← eK]
        have k_56 := (congrFun eK 56).trans (s2_s _ _ _)
        have k_62 := ((congrFun eK 62).trans (s2_n (by decide))).trans (s2_s _ _ _)
        have k_n : ∀ L, L ≠ 56 ∧ L ≠ 62 → K9 L = φ.1 L := fun L hL => by rw [eK, s2_n hL.1, s2_n hL.2]
        refine ⟨h1.mv (o5 20 (by decide)) (o 55 (by decide) (by decide) (by decide)), ?_, ?_, fun g hg => ?_, fun a b ha hb => ?_, fun i hi => ?_, fun i hi => ?_, fun r9 hr => ?_, ?_, ?_, ?_⟩
        · show (zI37 50 32).toInt = _ ∧ (zI37 50 33).toInt = ((τ.2.2.1 + 1 : Nat) : Int) ∧ (zI37 50 34).toInt = _
          rw [o5 32 (by decide), o5 34 (by decide), c5, upd_s]
          exact ⟨h21, by omega, h23⟩
        · show tx zI37 56 τ.1 (τ.2.2.1 + 1) (K9 56) ∧ _
          rw [k_56]
          exact ⟨h3.at_ c2 n6 (fun k h1 h2 => by omega) (by omega), h32⟩
        · show zI37 59 (12 + g) = K9 59 (12 + g)
          rw [o 59 (by decide) (by decide) (by decide), k_n 59 (by decide)]
          exact h4 g hg
        · show zI37 65 (18 * a + b) = K9 65 (18 * a + b) ∧ 0 ≤ (K9 65 (18 * a + b)).toInt ∧ (K9 65 (18 * a + b)).toInt ≤ 1
          rw [o 65 (by decide) (by decide) (by decide), k_n 65 (by decide)]
          exact h5 a b ha hb
        · show zI37 62 i = K9 62 i
          have hi : i < τ.2.2.1 + 1 := hi
          rw [c1, k_62]
          by_cases e : i = τ.2.2.1
          · subst e
            rw [upd_s, upd_s]
          · rw [upd_n _ _ e, upd_n _ _ e]
            exact h6 i (by omega)
        · show zI37 63 i = K9 63 i ∧ zI37 64 i = K9 64 i
          rw [o 63 (by decide) (by decide) (by decide), o 64 (by decide) (by decide) (by decide), k_n 63 (by decide), k_n 64 (by decide)]
          exact h7 i hi
        · show zI37 60 r9 = K9 60 r9 ∧ zI37 61 r9 = K9 61 r9
          rw [o 60 (by decide) (by decide) (by decide), o 61 (by decide) (by decide) (by decide), k_n 60 (by decide), k_n 61 (by decide)]
          exact h8 r9 hr
        · show (zI37 50 39).toInt = (K9 50 39).toInt
          rw [o5 39 (by decide), k_n 50 (by decide)]
          exact h9
        · show (K9 50 39).toInt = 1 → (zI37 50 35).toInt = (K9 50 35).toInt ∧ tx zI37 58 τ.1 (K9 50 35).toInt.toNat (K9 58) ∧ W 50 38 = φ.2.1 38
          rw [o5 35 (by decide), k_n 50 (by decide), k_n 58 (by decide)]
          exact fun z => ⟨(h10 z).1, (h10 z).2.1.mv (o 58 (by decide) (by decide) (by decide)), (h10 z).2.2⟩
        · show zI37 50 7 = K9 50 7
          rw [o5 7 (by decide), k_n 50 (by decide)]
          exact h11
      · refine w_iconst (by decide) (tX11_person_0_ok (32, .iconst (-1), 1) (List.mem_of_getElem? (i := 16) rfl)) (fun zv45 ze46 => ?_)
        refine w_iret rfl (tX11_person_0_ok (33, .ireturn, 1) (List.mem_of_getElem? (i := 17) rfl)) ?_
        have ek : k9_person w p τ φ = φ := if_neg (by unfold isPl; omega)
        have en : n_person w p τ = τ := if_neg (by omega)
        exact hq h I W _ (by rw [ek, en]; exact H) hz zf.rf
theorem y9_person (hT : k_tys tys cA) {w p : Int32} (hz : zr zNM cA ad I W O h) (hk : kok τ φ) (H : rS τ φ I W) (hf : 30 ≤ fr) (hlo : 900 ≤ lo) (hq : ∀ (g : ch_H) (I1 : zI) (W1 : zW) (v : Int32), rS (n_person w p τ) (k9_person w p τ φ) I1 W1 → zr zNM cA ad I1 W1 O g → zf zNM ad h g → Q (some (.int v)) g) : ww l D tys A X fr lo mX11_person Q 0 [(0, .ref (ad 50)), (1, .int w), (2, .int p)] [] h := by
  refine w_aload_n (List.Mem.head _) (tX11_person_0_ok (0, .aload_n 0, 1) (List.mem_of_getElem? (i := 0) rfl)) ?_
  refine w_iconst (by decide) (tX11_person_0_ok (1, .iconst 0, 1) (List.mem_of_getElem? (i := 1) rfl)) (fun zv1 ze2 => ?_)
  refine z_put (f := (I 50)) (own := 16) (k := 0) hz rfl rfl rfl rfl rfl rfl rfl (by decide) rfl ⟨rfl, rfl⟩ (tX11_person_0_ok (2, .putfield 85, 3) (List.mem_of_getElem? (i := 2) rfl)) (fun zh3 zI4 zq5 zz6 zf7 => ?_)
  exact y9_person5 hT zz6 hk (H.th zq5) hf hlo (fun g I1 W1 v a b c => hq g I1 W1 v a b (zf7.tr c))
theorem y9_task5 (hT : k_tys tys cA) {p q : Int32} (hz : zr zNM cA ad I W O h) (hk : kok τ φ) (H : rS τ φ I W) (hf : 30 ≤ fr) (hlo : 900 ≤ lo) (hq : ∀ (g : ch_H) (I1 : zI) (W1 : zW) (v : Int32), rS (n_task p q τ) (k9_task p q τ φ) I1 W1 → zr zNM cA ad I1 W1 O g → zf zNM ad h g → Q (some (.int v)) g) : ww l D tys A X fr lo mX11_task Q 5 [(0, .ref (ad 50)), (1, .int p), (2, .int q)] [] h := by
  have n6 := hk.1.1
  obtain ⟨ga6, pe8, ta6⟩ := hk.2.2.2.1
  obtain ⟨h1, ⟨h21, h22, h23⟩, ⟨h3, h32⟩, h4, h5, h6, h7, h8, h9, h10, h11⟩ := id H
  have r0 := h1.1
  refine w_aload_n (List.Mem.head _) (tX11_task_0_ok (5, .aload_n 0, 1) (List.mem_of_getElem? (i := 3) rfl)) ?_
  refine z_get (f := (I 50)) (own := 16) (k := 34) hz rfl rfl rfl rfl rfl rfl rfl (by decide) (tX11_task_0_ok (6, .getfield 264, 3) (List.mem_of_getElem? (i := 4) rfl)) ?_
  refine w_bipush (by decide) (tX11_task_0_ok (9, .bipush 6, 2) (List.mem_of_getElem? (i := 5) rfl)) (fun zv1 ze2 => ?_)
  refine w_icmp_eq (tgt := 30) (tX11_task_0_ok (11, .if_icmp .eq 19, 3) (List.mem_of_getElem? (i := 6) rfl)) rfl (fun zb3 => ?_) (fun zb3 => ?_)
  · refine w_iconst (by decide) (tX11_task_0_ok (30, .iconst (-1), 1) (List.mem_of_getElem? (i := 15) rfl)) (fun zv4 ze5 => ?_)
    refine w_iret rfl (tX11_task_0_ok (31, .ireturn, 1) (List.mem_of_getElem? (i := 16) rfl)) ?_
    have ek : k9_task p q τ φ = φ := if_neg (by unfold isPl; omega)
    have en : n_task p q τ = τ := if_neg (by omega)
    exact hq h I W _ (by rw [ek, en]; exact H) hz zf.rf
  · refine w_aload_n (List.Mem.head _) (tX11_task_0_ok (14, .aload_n 0, 1) (List.mem_of_getElem? (i := 7) rfl)) ?_
    refine w_iload_n (List.Mem.tail _ (List.Mem.head _)) (tX11_task_0_ok (15, .iload_n 1, 1) (List.mem_of_getElem? (i := 8) rfl)) ?_
    refine w_callV (own := 16) (mi := 201) [.int p] [] [(0, .ref (ad 50)), (1, .int p)] rfl (cllw_X11 (326, 0, 201) (List.mem_of_getElem? (i := 49) rfl)) rfl rfl (hz.ob rfl rfl) rfl (by omega) (w_lo (n := 21) rfl (by omega)) (Nat.le_of_ble_eq_true rfl) (Nat.le_of_ble_eq_true rfl) rfl (tX11_task_0_ok (16, .invokevirtual 326, 3) (List.mem_of_getElem? (i := 9) rfl)) (y_isPerson hT hz h22 (fun zv6 ze7 => ?_))
    show ww l D tys A X fr lo mX11_task Q 19 [(0, .ref (ad 50)), (1, .int p), (2, .int q)] [.int zv6] h
    refine w_if_eq (tgt := 30) (tX11_task_0_ok (19, .ifCond .eq 11, 3) (List.mem_of_getElem? (i := 10) rfl)) rfl (fun zb8 => ?_) (fun zb8 => ?_)
    · refine w_iconst (by decide) (tX11_task_0_ok (30, .iconst (-1), 1) (List.mem_of_getElem? (i := 15) rfl)) (fun zv9 ze10 => ?_)
      refine w_iret rfl (tX11_task_0_ok (31, .ireturn, 1) (List.mem_of_getElem? (i := 16) rfl)) ?_
      have ek : k9_task p q τ φ = φ := if_neg (by unfold isPl; omega)
      have en : n_task p q τ = τ := if_neg (by omega)
      exact hq h I W _ (by rw [ek, en]; exact H) hz zf.rf
    · refine w_aload_n (List.Mem.head _) (tX11_task_0_ok (22, .aload_n 0, 1) (List.mem_of_getElem? (i := 11) rfl)) ?_
      refine w_iload_n (List.Mem.tail _ (List.Mem.tail _ (List.Mem.head _))) (tX11_task_0_ok (23, .iload_n 2, 1) (List.mem_of_getElem? (i := 12) rfl)) ?_
      refine w_callV (own := 16) (mi := 202) [.int q] [] [(0, .ref (ad 50)), (1, .int q)] rfl (cllw_X11 (317, 0, 202) (List.mem_of_getElem? (i := 47) rfl)) rfl rfl (hz.ob rfl rfl) rfl (by omega) (w_lo (n := 21) rfl (by omega)) (Nat.le_of_ble_eq_true rfl) (Nat.le_of_ble_eq_true rfl) rfl (tX11_task_0_ok (24, .invokevirtual 317, 3) (List.mem_of_getElem? (i := 13) rfl)) (y_isPlace hT hz r0 n6 h21 ga6 (by omega) (w_sub (n := 21) rfl (by omega)) (fun zv11 ze12 => ?_))
      show ww l D tys A X fr lo mX11_task Q 27 [(0, .ref (ad 50)), (1, .int p), (2, .int q)] [.int zv11] h
      unfold isPl at ze12
      refine w_if_ne (tgt := 32) (tX11_task_0_ok (27, .ifCond .ne 5, 3) (List.mem_of_getElem? (i := 14) rfl)) rfl (fun zb13 => ?_) (fun zb13 => ?_)
      · refine w_aload_n (List.Mem.head _) (tX11_task_0_ok (32, .aload_n 0, 1) (List.mem_of_getElem? (i := 17) rfl)) ?_
        refine z_getR (L1 := 63) (own := 16) (k := 29) hz rfl rfl rfl rfl rfl rfl rfl (by decide) (tX11_task_0_ok (33, .getfield 66, 3) (List.mem_of_getElem? (i := 18) rfl)) ?_
        refine w_aload_n (List.Mem.head _) (tX11_task_0_ok (36, .aload_n 0, 1) (List.mem_of_getElem? (i := 19) rfl)) ?_
        refine z_get (f := (I 50)) (own := 16) (k := 34) hz rfl rfl rfl rfl rfl rfl rfl (by decide) (tX11_task_0_ok (37, .getfield 264, 3) (List.mem_of_getElem? (i := 20) rfl)) ?_
        refine w_iload_n (List.Mem.tail _ (List.Mem.head _)) (tX11_task_0_ok (40, .iload_n 1, 1) (List.mem_of_getElem? (i := 21) rfl)) ?_
        refine z_iast (f := (I 63)) hT hz rfl rfl rfl (by omega) (by omega) (tX11_task_0_ok (41, .iastore, 1) (List.mem_of_getElem? (i := 22) rfl)) (fun zh14 zI15 zq16 zz17 zf18 => ?_)
        refine w_aload_n (List.Mem.head _) (tX11_task_0_ok (42, .aload_n 0, 1) (List.mem_of_getElem? (i := 23) rfl)) ?_
        refine z_getR (L1 := 64) (own := 16) (k := 30) zz17 rfl rfl rfl rfl rfl rfl rfl (by decide) (tX11_task_0_ok (43, .getfield 69, 3) (List.mem_of_getElem? (i := 24) rfl)) ?_
        refine w_aload_n (List.Mem.head _) (tX11_task_0_ok (46, .aload_n 0, 1) (List.mem_of_getElem? (i := 25) rfl)) ?_
        refine z_get (f := (I 50)) (own := 16) (k := 34) zz17 rfl rfl rfl rfl ((congrFun zq16 50).trans (s2_n (by decide))) rfl rfl (by decide) (tX11_task_0_ok (47, .getfield 264, 3) (List.mem_of_getElem? (i := 26) rfl)) ?_
        refine w_iload_n (List.Mem.tail _ (List.Mem.tail _ (List.Mem.head _))) (tX11_task_0_ok (50, .iload_n 2, 1) (List.mem_of_getElem? (i := 27) rfl)) ?_
        refine z_iast (f := (I 64)) hT zz17 rfl rfl ((congrFun zq16 64).trans (s2_n (by decide))) (by omega) (by omega) (tX11_task_0_ok (51, .iastore, 1) (List.mem_of_getElem? (i := 28) rfl)) (fun zh19 zI20 zq21 zz22 zf23 => ?_)
        refine w_aload_n (List.Mem.head _) (tX11_task_0_ok (52, .aload_n 0, 1) (List.mem_of_getElem? (i := 29) rfl)) ?_
        refine w_dup rfl (tX11_task_0_ok (53, .dup, 1) (List.mem_of_getElem? (i := 30) rfl)) ?_
        refine z_get (f := (I 50)) (own := 16) (k := 34) zz22 rfl rfl rfl rfl (((congrFun zq21 50).trans (s2_n (by decide))).trans ((congrFun zq16 50).trans (s2_n (by decide)))) rfl rfl (by decide) (tX11_task_0_ok (54, .getfield 264, 3) (List.mem_of_getElem? (i := 31) rfl)) ?_
        refine w_iconst (by decide) (tX11_task_0_ok (57, .iconst 1, 1) (List.mem_of_getElem? (i := 32) rfl)) (fun zv24 ze25 => ?_)
        refine w_iadd (by omega) (by omega) (tX11_task_0_ok (58, .iadd, 1) (List.mem_of_getElem? (i := 33) rfl)) (fun zv26 ze27 => ?_)
        refine z_put (f := (I 50)) (own := 16) (k := 34) zz22 rfl rfl rfl rfl (((congrFun zq21 50).trans (s2_n (by decide))).trans ((congrFun zq16 50).trans (s2_n (by decide)))) rfl rfl (by decide) rfl ⟨rfl, rfl⟩ (tX11_task_0_ok (59, .putfield 264, 3) (List.mem_of_getElem? (i := 34) rfl)) (fun zh28 zI29 zq30 zz31 zf32 => ?_)
        refine w_aload_n (List.Mem.head _) (tX11_task_0_ok (62, .aload_n 0, 1) (List.mem_of_getElem? (i := 35) rfl)) ?_
        refine z_get (f := (upd (I 50) 34 zv26)) (own := 16) (k := 34) zz31 rfl rfl rfl rfl ((congrFun zq30 50).trans (s2_s _ _ _)) rfl rfl (by decide) (tX11_task_0_ok (63, .getfield 264, 3) (List.mem_of_getElem? (i := 36) rfl)) ?_
        show ww l D tys A X fr lo mX11_task Q 66 [(0, .ref (ad 50)), (1, .int p), (2, .int q)] [.int zv26] zh28
        refine w_iret rfl (tX11_task_0_ok (66, .ireturn, 1) (List.mem_of_getElem? (i := 37) rfl)) ?_
        have ec : 0 ≤ p.toInt ∧ p.toInt < (τ.2.2.1 : Int) ∧ isPl τ.1 τ.2.1 q.toInt ∧ τ.2.2.2 < 6 := by
          unfold isPl
          omega
        have ek : k9_task p q τ φ = (s2 (s2 φ.1 63 (upd (φ.1 63) τ.2.2.2 p)) 64 (upd (φ.1 64) τ.2.2.2 q), φ.2) := if_pos ec
        have en : n_task p q τ = (τ.1, τ.2.1, τ.2.2.1, τ.2.2.2 + 1) := if_pos ec
        have c1 := ((((congrFun zq30 63).trans (s2_n (by decide))).trans ((congrFun zq21 63).trans (s2_n (by decide)))).trans ((congrFun zq16 63).trans (s2_s _ _ _)))
        have c2 := (((congrFun zq30 64).trans (s2_n (by decide))).trans ((congrFun zq21 64).trans (s2_s _ _ _)))
        rw [show ((I 50) 34).toInt.toNat = τ.2.2.2 by omega] at c1
        rw [show ((I 50) 34).toInt.toNat = τ.2.2.2 by omega] at c2
        have c5 := ((congrFun zq30 50).trans (s2_s _ _ _))
        have o : ∀ L, L ≠ 63 → L ≠ 64 → L ≠ 50 → zI29 L = I L := fun L n1 n2 n3 => by rw [zq30, s2_n n3, zq21, s2_n n2, zq16, s2_n n1]
        have o5 : ∀ k9, k9 ≠ 34 → zI29 50 k9 = I 50 k9 := fun k9 n1 => by rw [c5, upd_n _ _ n1]
        refine hq zh28 zI29 W _ ?_ zz31 ((zf18.tr zf23).tr zf32)
        rw [ek, en]
        obtain ⟨K9, eK⟩ : ∃ K9 : zI, K9 = s2 (s2 φ.1 63 (upd (φ.1 63) τ.2.2.2 p)) 64 (upd (φ.1 64) τ.2.2.2 q) := ⟨_, rfl⟩
        rw [← eK]
        have k_64 := (congrFun eK 64).trans (s2_s _ _ _)
        have k_63 := ((congrFun eK 63).trans (s2_n (by decide))).trans (s2_s _ _ _)
        have k_n : ∀ L, L ≠ 64 ∧ L ≠ 63 → K9 L = φ.1 L := fun L hL => by rw [eK, s2_n hL.1, s2_n hL.2]
        refine ⟨h1.mv (o5 20 (by decide)) (o 55 (by decide) (by decide) (by decide)), ?_, ?_, fun g hg => ?_, fun a b ha hb => ?_, fun i hi => ?_, fun i hi => ?_, fun r9 hr => ?_, ?_, ?_, ?_⟩
        · show (zI29 50 32).toInt = _ ∧ (zI29 50 33).toInt = _ ∧ (zI29 50 34).toInt = ((τ.2.2.2 + 1 : Nat) : Int)
          rw [o5 32 (by decide), o5 33 (by decide), c5, upd_s]
          exact ⟨h21, h22, by omega⟩
        · show tx zI29 56 τ.1 τ.2.2.1 (K9 56) ∧ _
          rw [k_n 56 (by decide)]
          exact ⟨h3.mv (o 56 (by decide) (by decide) (by decide)), h32⟩
        · show zI29 59 (12 + g) = K9 59 (12 + g)
          rw [o 59 (by decide) (by decide) (by decide), k_n 59 (by decide)]
          exact h4 g hg
        · show zI29 65 (18 * a + b) = K9 65 (18 * a + b) ∧ 0 ≤ (K9 65 (18 * a + b)).toInt ∧ (K9 65 (18 * a + b)).toInt ≤ 1
          rw [o 65 (by decide) (by decide) (by decide), k_n 65 (by decide)]
          exact h5 a b ha hb
        · show zI29 62 i = K9 62 i
          rw [o 62 (by decide) (by decide) (by decide), k_n 62 (by decide)]
          exact h6 i hi
        · show zI29 63 i = K9 63 i ∧ zI29 64 i = K9 64 i
          have hi : i < τ.2.2.2 + 1 := hi
          rw [c1, c2, k_63, k_64]
          by_cases e : i = τ.2.2.2
          · subst e
            rw [upd_s, upd_s, upd_s, upd_s]
            exact ⟨rfl, rfl⟩
          · rw [upd_n _ _ e, upd_n _ _ e, upd_n _ _ e, upd_n _ _ e]
            exact h7 i (by omega)
        · show zI29 60 r9 = K9 60 r9 ∧ zI29 61 r9 = K9 61 r9
          rw [o 60 (by decide) (by decide) (by decide), o 61 (by decide) (by decide) (by decide), k_n 60 (by decide), k_n 61 (by decide)]
          exact h8 r9 hr
        · show (zI29 50 39).toInt = (K9 50 39).toInt
          rw [o5 39 (by decide), k_n 50 (by decide)]
          exact h9
        · show (K9 50 39).toInt = 1 → (zI29 50 35).toInt = (K9 50 35).toInt ∧ tx zI29 58 τ.1 (K9 50 35).toInt.toNat (K9 58) ∧ W 50 38 = φ.2.1 38
          rw [o5 35 (by decide), k_n 50 (by decide), k_n 58 (by decide)]
          exact fun z => ⟨(h10 z).1, (h10 z).2.1.mv (o 58 (by decide) (by decide) (by decide)), (h10 z).2.2⟩
        · show zI29 50 7 = K9 50 7
          rw [o5 7 (by decide), k_n 50 (by decide)]
          exact h11
      · refine w_iconst (by decide) (tX11_task_0_ok (30, .iconst (-1), 1) (List.mem_of_getElem? (i := 15) rfl)) (fun zv33 ze34 => ?_)
        refine w_iret rfl (tX11_task_0_ok (31, .ireturn, 1) (List.mem_of_getElem? (i := 16) rfl)) ?_
        have ek : k9_task p q τ φ = φ := if_neg (by unfold isPl; omega)
        have en : n_task p q τ = τ := if_neg (by omega)
        exact hq h I W _ (by rw [ek, en]; exact H) hz zf.rf
theorem y9_task (hT : k_tys tys cA) {p q : Int32} (hz : zr zNM cA ad I W O h) (hk : kok τ φ) (H : rS τ φ I W) (hf : 30 ≤ fr) (hlo : 900 ≤ lo) (hq : ∀ (g : ch_H) (I1 : zI) (W1 : zW) (v : Int32), rS (n_task p q τ) (k9_task p q τ φ) I1 W1 → zr zNM cA ad I1 W1 O g → zf zNM ad h g → Q (some (.int v)) g) : ww l D tys A X fr lo mX11_task Q 0 [(0, .ref (ad 50)), (1, .int p), (2, .int q)] [] h := by
  refine w_aload_n (List.Mem.head _) (tX11_task_0_ok (0, .aload_n 0, 1) (List.mem_of_getElem? (i := 0) rfl)) ?_
  refine w_iconst (by decide) (tX11_task_0_ok (1, .iconst 0, 1) (List.mem_of_getElem? (i := 1) rfl)) (fun zv1 ze2 => ?_)
  refine z_put (f := (I 50)) (own := 16) (k := 0) hz rfl rfl rfl rfl rfl rfl rfl (by decide) rfl ⟨rfl, rfl⟩ (tX11_task_0_ok (2, .putfield 85, 3) (List.mem_of_getElem? (i := 2) rfl)) (fun zh3 zI4 zq5 zz6 zf7 => ?_)
  exact y9_task5 hT zz6 hk (H.th zq5) hf hlo (fun g I1 W1 v a b c => hq g I1 W1 v a b (zf7.tr c))
theorem y9_steps (hT : k_tys tys cA) {p q : Int32} (hz : zr zNM cA ad I W O h) (hk : kok τ φ) (H : rS τ φ I W) (hf : 20 ≤ fr) (hlo : 600 ≤ lo) (hp : 0 ≤ p.toInt ∧ p.toInt < (τ.2.2.1 : Int)) (hpl : 0 ≤ q.toInt ∧ q.toInt < 2 * (τ.1 : Int) ∨ 12 ≤ q.toInt ∧ q.toInt < 12 + (τ.2.1 : Int)) (hq : ∀ (g : ch_H) (I1 : zI) (W1 : zW) (v : Int32), (((0 ≤ p.toInt ∧ p.toInt < (τ.2.2.1 : Int)) ∧ isPl τ.1 τ.2.1 q.toInt ∧ BSK φ.1 (φ.1 56 (30 + p.toInt.toNat)).toInt.toNat q.toInt.toNat = true ∧ hP9 φ.2.2.1 (φ.1 56) (GK φ.1) (φ.1 56 (30 + p.toInt.toNat)).toInt.toNat = hP9 φ.2.2.1 (φ.1 56) (GK φ.1) q.toInt.toNat) ∧ v.toInt = 1 ∨ ¬ ((0 ≤ p.toInt ∧ p.toInt < (τ.2.2.1 : Int)) ∧ isPl τ.1 τ.2.1 q.toInt ∧ BSK φ.1 (φ.1 56 (30 + p.toInt.toNat)).toInt.toNat q.toInt.toNat = true ∧ hP9 φ.2.2.1 (φ.1 56) (GK φ.1) (φ.1 56 (30 + p.toInt.toNat)).toInt.toNat = hP9 φ.2.2.1 (φ.1 56) (GK φ.1) q.toInt.toNat) ∧ v.toInt = 0) → rS τ (k9_step p q τ φ) I1 W1 → zr zNM cA ad I1 W1 O g → zf zNM ad h g → Q (some (.int v)) g) : ww l D tys A X fr lo mX11_steps Q 0 [(0, .ref (ad 50)), (1, .int p), (2, .int q)] [] h := by
  have n6 := hk.1.1
  obtain ⟨ga6, pe8, ta6⟩ := hk.2.2.2.1
  obtain ⟨h1, ⟨h21, h22, h23⟩, ⟨h3, h32⟩, h4, h5, h6, h7, h8, h9, h10, h11⟩ := id H
  have r0 := h1.1
  refine w_aload_n (List.Mem.head _) (tX11_steps_0_ok (0, .aload_n 0, 1) (List.mem_of_getElem? (i := 0) rfl)) ?_
  refine z_getR (L1 := 56) (own := 16) (k := 22) hz rfl rfl rfl rfl rfl rfl rfl (by decide) (tX11_steps_0_ok (1, .getfield 45, 3) (List.mem_of_getElem? (i := 1) rfl)) ?_
  refine w_bipush (by decide) (tX11_steps_0_ok (4, .bipush 30, 2) (List.mem_of_getElem? (i := 2) rfl)) (fun zv1 ze2 => ?_)
  refine w_iload_n (List.Mem.tail _ (List.Mem.head _)) (tX11_steps_0_ok (6, .iload_n 1, 1) (List.mem_of_getElem? (i := 3) rfl)) ?_
  refine w_iadd (by omega) (by omega) (tX11_steps_0_ok (7, .iadd, 1) (List.mem_of_getElem? (i := 4) rfl)) (fun zv3 ze4 => ?_)
  refine z_iald (f := (I 56)) hT hz rfl rfl rfl (by omega) (by omega) (tX11_steps_0_ok (8, .iaload, 1) (List.mem_of_getElem? (i := 5) rfl)) (fun zv5 zu6 => ?_)
  have ze7 : zv5.toInt = ((I 56) zv3.toInt.toNat).toInt := congrArg _ zu6
  have ea : zv5 = φ.1 56 (30 + p.toInt.toNat) := by rw [zu6, show zv3.toInt.toNat = 30 + p.toInt.toNat by omega]; exact h3.2.2.1 _ (by omega)
  have pa := hk.2.1.2.2.2.2 p.toInt.toNat (by omega)
  unfold isPl at pa
  rw [← ea] at pa
  refine w_istore_n [(3, .int zv5), (0, .ref (ad 50)), (1, .int p), (2, .int q)] rfl (Nat.le_of_ble_eq_true rfl) (tX11_steps_0_ok (9, .istore_n 3, 1) (List.mem_of_getElem? (i := 6) rfl)) ?_
  refine w_aload_n (List.Mem.tail _ (List.Mem.head _)) (tX11_steps_0_ok (10, .aload_n 0, 1) (List.mem_of_getElem? (i := 7) rfl)) ?_
  refine w_iload_n (List.Mem.head _) (tX11_steps_0_ok (11, .iload_n 3, 1) (List.mem_of_getElem? (i := 8) rfl)) ?_
  refine w_iload_n (List.Mem.tail _ (List.Mem.tail _ (List.Mem.tail _ (List.Mem.head _)))) (tX11_steps_0_ok (12, .iload_n 2, 1) (List.mem_of_getElem? (i := 9) rfl)) ?_
  refine w_callV (own := 16) (mi := 160) [.int zv5, .int q] [] [(0, .ref (ad 50)), (1, .int zv5), (2, .int q)] rfl (cllw_X11 (320, 0, 160) (List.mem_of_getElem? (i := 46) rfl)) rfl rfl (hz.ob rfl rfl) rfl (by omega) (w_lo (n := 22) rfl (by omega)) (Nat.le_of_ble_eq_true rfl) (Nat.le_of_ble_eq_true rfl) rfl (tX11_steps_0_ok (13, .invokevirtual 320, 3) (List.mem_of_getElem? (i := 10) rfl)) (y_areTwo hT hz r0 n6 h21 ga6 (by omega) (w_sub (n := 22) rfl (by omega)) (fun zv8 ze9 => ?_))
  show ww l D tys A X fr lo mX11_steps Q 16 [(3, .int zv5), (0, .ref (ad 50)), (1, .int p), (2, .int q)] [.int zv8] h
  unfold isPl at ze9
  refine w_if_eq (tgt := 28) (tX11_steps_0_ok (16, .ifCond .eq 12, 3) (List.mem_of_getElem? (i := 11) rfl)) rfl (fun zb10 => ?_) (fun zb10 => ?_)
  · refine w_iconst (by decide) (tX11_steps_0_ok (28, .iconst 0, 1) (List.mem_of_getElem? (i := 17) rfl)) (fun zv11 ze12 => ?_)
    refine w_zret rfl (by omega) (by omega) (tX11_steps_0_ok (29, .ireturn, 1) (List.mem_of_getElem? (i := 18) rfl)) ?_
    have eq9 : (φ.1 56 (30 + p.toInt.toNat)).toInt.toNat = q.toInt.toNat := by rw [← ea]; omega
    have ec : ¬ ((0 ≤ p.toInt ∧ p.toInt < (τ.2.2.1 : Int)) ∧ isPl τ.1 τ.2.1 q.toInt ∧ BSK φ.1 (φ.1 56 (30 + p.toInt.toNat)).toInt.toNat q.toInt.toNat = true ∧ hP9 φ.2.2.1 (φ.1 56) (GK φ.1) (φ.1 56 (30 + p.toInt.toNat)).toInt.toNat = hP9 φ.2.2.1 (φ.1 56) (GK φ.1) q.toInt.toNat) := by
      intro z
      have z1 := z.2.2.1
      rw [eq9, hk.2.2.2.2.1 _ (by omega)] at z1
      cases z1
    have ek : k9_step p q τ φ = φ := if_neg ec
    exact hq h I W _ (Or.inr ⟨ec, by omega⟩) (by rw [ek]; exact H) hz zf.rf
  · refine w_aload_n (List.Mem.tail _ (List.Mem.head _)) (tX11_steps_0_ok (19, .aload_n 0, 1) (List.mem_of_getElem? (i := 12) rfl)) ?_
    refine w_iload_n (List.Mem.head _) (tX11_steps_0_ok (20, .iload_n 3, 1) (List.mem_of_getElem? (i := 13) rfl)) ?_
    refine w_iload_n (List.Mem.tail _ (List.Mem.tail _ (List.Mem.tail _ (List.Mem.head _)))) (tX11_steps_0_ok (21, .iload_n 2, 1) (List.mem_of_getElem? (i := 14) rfl)) ?_
    refine w_callV (own := 16) (mi := 214) [.int zv5, .int q] [] [(0, .ref (ad 50)), (1, .int zv5), (2, .int q)] rfl (cllw_X11 (323, 0, 214) (List.mem_of_getElem? (i := 48) rfl)) rfl rfl (hz.ob rfl rfl) rfl (by omega) (w_lo (n := 22) rfl (by omega)) (Nat.le_of_ble_eq_true rfl) (Nat.le_of_ble_eq_true rfl) rfl (tX11_steps_0_ok (22, .invokevirtual 323, 3) (List.mem_of_getElem? (i := 15) rfl)) (y_meets hT (T := φ.1 56) (GH := GK φ.1) (BS := BSK φ.1) hz h1 hk.2.1.1 (fun q hq9 => (h3.1 q hq9).1) h4 ga6 (fun a b ha hb => ⟨by rw [(h5 a b ha hb).1]; exact decide_eq_true_iff.symm, by rw [(h5 a b ha hb).1]; exact (h5 a b ha hb).2⟩) (by omega) (w_sub (n := 22) rfl (by omega)) pa (by omega) (fun zv13 ze14 => ?_))
    show ww l D tys A X fr lo mX11_steps Q 25 [(3, .int zv5), (0, .ref (ad 50)), (1, .int p), (2, .int q)] [.int zv13] h
    rw [ea] at ze14
    refine w_if_ne (tgt := 30) (tX11_steps_0_ok (25, .ifCond .ne 5, 3) (List.mem_of_getElem? (i := 16) rfl)) rfl (fun zb15 => ?_) (fun zb15 => ?_)
    · refine w_aload_n (List.Mem.tail _ (List.Mem.head _)) (tX11_steps_0_ok (30, .aload_n 0, 1) (List.mem_of_getElem? (i := 19) rfl)) ?_
      refine z_getR (L1 := 56) (own := 16) (k := 22) hz rfl rfl rfl rfl rfl rfl rfl (by decide) (tX11_steps_0_ok (31, .getfield 45, 3) (List.mem_of_getElem? (i := 20) rfl)) ?_
      refine w_bipush (by decide) (tX11_steps_0_ok (34, .bipush 30, 2) (List.mem_of_getElem? (i := 21) rfl)) (fun zv16 ze17 => ?_)
      refine w_iload_n (List.Mem.tail _ (List.Mem.tail _ (List.Mem.head _))) (tX11_steps_0_ok (36, .iload_n 1, 1) (List.mem_of_getElem? (i := 22) rfl)) ?_
      refine w_iadd (by omega) (by omega) (tX11_steps_0_ok (37, .iadd, 1) (List.mem_of_getElem? (i := 23) rfl)) (fun zv18 ze19 => ?_)
      refine w_iload_n (List.Mem.tail _ (List.Mem.tail _ (List.Mem.tail _ (List.Mem.head _)))) (tX11_steps_0_ok (38, .iload_n 2, 1) (List.mem_of_getElem? (i := 24) rfl)) ?_
      refine z_iast (f := (I 56)) hT hz rfl rfl rfl (by omega) (by omega) (tX11_steps_0_ok (39, .iastore, 1) (List.mem_of_getElem? (i := 25) rfl)) (fun zh20 zI21 zq22 zz23 zf24 => ?_)
      refine w_iconst (by decide) (tX11_steps_0_ok (40, .iconst 1, 1) (List.mem_of_getElem? (i := 26) rfl)) (fun zv25 ze26 => ?_)
      refine w_zret rfl (by omega) (by omega) (tX11_steps_0_ok (41, .ireturn, 1) (List.mem_of_getElem? (i := 27) rfl)) ?_
      have ec : ((0 ≤ p.toInt ∧ p.toInt < (τ.2.2.1 : Int)) ∧ isPl τ.1 τ.2.1 q.toInt ∧ BSK φ.1 (φ.1 56 (30 + p.toInt.toNat)).toInt.toNat q.toInt.toNat = true ∧ hP9 φ.2.2.1 (φ.1 56) (GK φ.1) (φ.1 56 (30 + p.toInt.toNat)).toInt.toNat = hP9 φ.2.2.1 (φ.1 56) (GK φ.1) q.toInt.toNat) := by
        refine ⟨by omega, by unfold isPl; omega, ?_⟩
        rcases ze14 with c | c
        · exact c.2
        · omega
      have ek : k9_step p q τ φ = k56 φ (upd (φ.1 56) (30 + p.toInt.toNat) q) := if_pos ec
      have c1 := ((congrFun zq22 56).trans (s2_s _ _ _))
      rw [show zv18.toInt.toNat = 30 + p.toInt.toNat by omega] at c1
      refine hq zh20 zI21 W _ (Or.inl ⟨ec, by omega⟩) ?_ zz23 zf24
      rw [ek]
      refine rS.t (K := s2 φ.1 56 _) (V := φ.2.1) H (fun L hL => s2_n hL) rfl (fun L n1 n2 => by rw [zq22, s2_n n1]) (fun k9 _ => by rw [zq22, s2_n (by decide)]) rfl ⟨?_, h32⟩
      rw [s2_s]
      exact h3.one_ c1 (fun _ _ => trivial)
    · refine w_iconst (by decide) (tX11_steps_0_ok (28, .iconst 0, 1) (List.mem_of_getElem? (i := 17) rfl)) (fun zv27 ze28 => ?_)
      refine w_zret rfl (by omega) (by omega) (tX11_steps_0_ok (29, .ireturn, 1) (List.mem_of_getElem? (i := 18) rfl)) ?_
      have ec : ¬ ((0 ≤ p.toInt ∧ p.toInt < (τ.2.2.1 : Int)) ∧ isPl τ.1 τ.2.1 q.toInt ∧ BSK φ.1 (φ.1 56 (30 + p.toInt.toNat)).toInt.toNat q.toInt.toNat = true ∧ hP9 φ.2.2.1 (φ.1 56) (GK φ.1) (φ.1 56 (30 + p.toInt.toNat)).toInt.toNat = hP9 φ.2.2.1 (φ.1 56) (GK φ.1) q.toInt.toNat) := by
        intro z
        rcases ze14 with c | c
        · omega
        · exact c.2 z.2.2
      have ek : k9_step p q τ φ = φ := if_neg ec
      exact hq h I W _ (Or.inr ⟨ec, by omega⟩) (by rw [ek]; exact H) hz zf.rf
theorem y9_step5 (hT : k_tys tys cA) {p q : Int32} (hz : zr zNM cA ad I W O h) (hk : kok τ φ) (H : rS τ φ I W) (hf : 30 ≤ fr) (hlo : 900 ≤ lo) (hq : ∀ (g : ch_H) (I1 : zI) (W1 : zW) (v : Int32), (((0 ≤ p.toInt ∧ p.toInt < (τ.2.2.1 : Int)) ∧ isPl τ.1 τ.2.1 q.toInt ∧ BSK φ.1 (φ.1 56 (30 + p.toInt.toNat)).toInt.toNat q.toInt.toNat = true ∧ hP9 φ.2.2.1 (φ.1 56) (GK φ.1) (φ.1 56 (30 + p.toInt.toNat)).toInt.toNat = hP9 φ.2.2.1 (φ.1 56) (GK φ.1) q.toInt.toNat) ∧ v.toInt = 1 ∨ ¬ ((0 ≤ p.toInt ∧ p.toInt < (τ.2.2.1 : Int)) ∧ isPl τ.1 τ.2.1 q.toInt ∧ BSK φ.1 (φ.1 56 (30 + p.toInt.toNat)).toInt.toNat q.toInt.toNat = true ∧ hP9 φ.2.2.1 (φ.1 56) (GK φ.1) (φ.1 56 (30 + p.toInt.toNat)).toInt.toNat = hP9 φ.2.2.1 (φ.1 56) (GK φ.1) q.toInt.toNat) ∧ v.toInt = 0) → rS τ (k9_step p q τ φ) I1 W1 → zr zNM cA ad I1 W1 O g → zf zNM ad h g → Q (some (.int v)) g) : ww l D tys A X fr lo mX11_step Q 5 [(0, .ref (ad 50)), (1, .int p), (2, .int q)] [] h := by
  have n6 := hk.1.1
  obtain ⟨ga6, pe8, ta6⟩ := hk.2.2.2.1
  obtain ⟨h1, ⟨h21, h22, h23⟩, ⟨h3, h32⟩, h4, h5, h6, h7, h8, h9, h10, h11⟩ := id H
  have r0 := h1.1
  refine w_aload_n (List.Mem.head _) (tX11_step_0_ok (5, .aload_n 0, 1) (List.mem_of_getElem? (i := 3) rfl)) ?_
  refine w_iload_n (List.Mem.tail _ (List.Mem.head _)) (tX11_step_0_ok (6, .iload_n 1, 1) (List.mem_of_getElem? (i := 4) rfl)) ?_
  refine w_callV (own := 16) (mi := 201) [.int p] [] [(0, .ref (ad 50)), (1, .int p)] rfl (cllw_X11 (326, 0, 201) (List.mem_of_getElem? (i := 49) rfl)) rfl rfl (hz.ob rfl rfl) rfl (by omega) (w_lo (n := 21) rfl (by omega)) (Nat.le_of_ble_eq_true rfl) (Nat.le_of_ble_eq_true rfl) rfl (tX11_step_0_ok (7, .invokevirtual 326, 3) (List.mem_of_getElem? (i := 5) rfl)) (y_isPerson hT hz h22 (fun zv1 ze2 => ?_))
  show ww l D tys A X fr lo mX11_step Q 10 [(0, .ref (ad 50)), (1, .int p), (2, .int q)] [.int zv1] h
  refine w_if_eq (tgt := 34) (tX11_step_0_ok (10, .ifCond .eq 24, 3) (List.mem_of_getElem? (i := 6) rfl)) rfl (fun zb3 => ?_) (fun zb3 => ?_)
  · refine w_iconst (by decide) (tX11_step_0_ok (34, .iconst 0, 1) (List.mem_of_getElem? (i := 18) rfl)) (fun zv4 ze5 => ?_)
    refine w_zret rfl (by omega) (by omega) (tX11_step_0_ok (35, .ireturn, 1) (List.mem_of_getElem? (i := 19) rfl)) ?_
    have ec : ¬ ((0 ≤ p.toInt ∧ p.toInt < (τ.2.2.1 : Int)) ∧ isPl τ.1 τ.2.1 q.toInt ∧ BSK φ.1 (φ.1 56 (30 + p.toInt.toNat)).toInt.toNat q.toInt.toNat = true ∧ hP9 φ.2.2.1 (φ.1 56) (GK φ.1) (φ.1 56 (30 + p.toInt.toNat)).toInt.toNat = hP9 φ.2.2.1 (φ.1 56) (GK φ.1) q.toInt.toNat) := by
      unfold isPl
      intro z
      omega
    have ek : k9_step p q τ φ = φ := if_neg ec
    exact hq h I W _ (Or.inr ⟨ec, by omega⟩) (by rw [ek]; exact H) hz zf.rf
  · refine w_aload_n (List.Mem.head _) (tX11_step_0_ok (13, .aload_n 0, 1) (List.mem_of_getElem? (i := 7) rfl)) ?_
    refine w_iload_n (List.Mem.tail _ (List.Mem.tail _ (List.Mem.head _))) (tX11_step_0_ok (14, .iload_n 2, 1) (List.mem_of_getElem? (i := 8) rfl)) ?_
    refine w_callV (own := 16) (mi := 202) [.int q] [] [(0, .ref (ad 50)), (1, .int q)] rfl (cllw_X11 (317, 0, 202) (List.mem_of_getElem? (i := 47) rfl)) rfl rfl (hz.ob rfl rfl) rfl (by omega) (w_lo (n := 21) rfl (by omega)) (Nat.le_of_ble_eq_true rfl) (Nat.le_of_ble_eq_true rfl) rfl (tX11_step_0_ok (15, .invokevirtual 317, 3) (List.mem_of_getElem? (i := 9) rfl)) (y_isPlace hT hz r0 n6 h21 ga6 (by omega) (w_sub (n := 21) rfl (by omega)) (fun zv6 ze7 => ?_))
    show ww l D tys A X fr lo mX11_step Q 18 [(0, .ref (ad 50)), (1, .int p), (2, .int q)] [.int zv6] h
    unfold isPl at ze7
    refine w_if_eq (tgt := 34) (tX11_step_0_ok (18, .ifCond .eq 16, 3) (List.mem_of_getElem? (i := 10) rfl)) rfl (fun zb8 => ?_) (fun zb8 => ?_)
    · refine w_iconst (by decide) (tX11_step_0_ok (34, .iconst 0, 1) (List.mem_of_getElem? (i := 18) rfl)) (fun zv9 ze10 => ?_)
      refine w_zret rfl (by omega) (by omega) (tX11_step_0_ok (35, .ireturn, 1) (List.mem_of_getElem? (i := 19) rfl)) ?_
      have ec : ¬ ((0 ≤ p.toInt ∧ p.toInt < (τ.2.2.1 : Int)) ∧ isPl τ.1 τ.2.1 q.toInt ∧ BSK φ.1 (φ.1 56 (30 + p.toInt.toNat)).toInt.toNat q.toInt.toNat = true ∧ hP9 φ.2.2.1 (φ.1 56) (GK φ.1) (φ.1 56 (30 + p.toInt.toNat)).toInt.toNat = hP9 φ.2.2.1 (φ.1 56) (GK φ.1) q.toInt.toNat) := by
        unfold isPl
        intro z
        omega
      have ek : k9_step p q τ φ = φ := if_neg ec
      exact hq h I W _ (Or.inr ⟨ec, by omega⟩) (by rw [ek]; exact H) hz zf.rf
    · refine w_aload_n (List.Mem.head _) (tX11_step_0_ok (21, .aload_n 0, 1) (List.mem_of_getElem? (i := 11) rfl)) ?_
      refine w_iload_n (List.Mem.tail _ (List.Mem.head _)) (tX11_step_0_ok (22, .iload_n 1, 1) (List.mem_of_getElem? (i := 12) rfl)) ?_
      refine w_iload_n (List.Mem.tail _ (List.Mem.tail _ (List.Mem.head _))) (tX11_step_0_ok (23, .iload_n 2, 1) (List.mem_of_getElem? (i := 13) rfl)) ?_
      refine w_callV (own := 16) (mi := 243) [.int p, .int q] [] [(0, .ref (ad 50)), (1, .int p), (2, .int q)] rfl (cllw_X11 (329, 0, 243) (List.mem_of_getElem? (i := 50) rfl)) rfl rfl (hz.ob rfl rfl) rfl (by omega) (w_lo (n := 23) rfl (by omega)) (Nat.le_of_ble_eq_true rfl) (Nat.le_of_ble_eq_true rfl) rfl (tX11_step_0_ok (24, .invokevirtual 329, 3) (List.mem_of_getElem? (i := 14) rfl)) (y9_steps hT hz hk H (by omega) (w_sub (n := 23) rfl (by omega)) (by omega) (by omega) (fun g1 I1 W1 v y1 y2 y3 y4 => ?_))
      show ww l D tys A X fr lo mX11_step Q 27 [(0, .ref (ad 50)), (1, .int p), (2, .int q)] [.int v] g1
      refine w_if_eq (tgt := 34) (tX11_step_0_ok (27, .ifCond .eq 7, 3) (List.mem_of_getElem? (i := 15) rfl)) rfl (fun zb11 => ?_) (fun zb11 => ?_)
      · refine w_iconst (by decide) (tX11_step_0_ok (34, .iconst 0, 1) (List.mem_of_getElem? (i := 18) rfl)) (fun zv12 ze13 => ?_)
        refine w_zret rfl (by omega) (by omega) (tX11_step_0_ok (35, .ireturn, 1) (List.mem_of_getElem? (i := 19) rfl)) ?_
        refine hq g1 I1 W1 _ ?_ y2 y3 y4
        rcases y1 with c | c
        · omega
        · exact Or.inr ⟨c.1, by omega⟩
      · refine w_iconst (by decide) (tX11_step_0_ok (30, .iconst 1, 1) (List.mem_of_getElem? (i := 16) rfl)) (fun zv14 ze15 => ?_)
        refine w_goto (tgt := 35) (tX11_step_0_ok (31, .goto 4, 3) (List.mem_of_getElem? (i := 17) rfl)) rfl ?_
        refine w_zret rfl (by omega) (by omega) (tX11_step_0_ok (35, .ireturn, 1) (List.mem_of_getElem? (i := 19) rfl)) ?_
        refine hq g1 I1 W1 _ ?_ y2 y3 y4
        rcases y1 with c | c
        · exact Or.inl ⟨c.1, by omega⟩
        · omega
theorem y9_step (hT : k_tys tys cA) {p q : Int32} (hz : zr zNM cA ad I W O h) (hk : kok τ φ) (H : rS τ φ I W) (hf : 30 ≤ fr) (hlo : 900 ≤ lo) (hq : ∀ (g : ch_H) (I1 : zI) (W1 : zW) (v : Int32), (((0 ≤ p.toInt ∧ p.toInt < (τ.2.2.1 : Int)) ∧ isPl τ.1 τ.2.1 q.toInt ∧ BSK φ.1 (φ.1 56 (30 + p.toInt.toNat)).toInt.toNat q.toInt.toNat = true ∧ hP9 φ.2.2.1 (φ.1 56) (GK φ.1) (φ.1 56 (30 + p.toInt.toNat)).toInt.toNat = hP9 φ.2.2.1 (φ.1 56) (GK φ.1) q.toInt.toNat) ∧ v.toInt = 1 ∨ ¬ ((0 ≤ p.toInt ∧ p.toInt < (τ.2.2.1 : Int)) ∧ isPl τ.1 τ.2.1 q.toInt ∧ BSK φ.1 (φ.1 56 (30 + p.toInt.toNat)).toInt.toNat q.toInt.toNat = true ∧ hP9 φ.2.2.1 (φ.1 56) (GK φ.1) (φ.1 56 (30 + p.toInt.toNat)).toInt.toNat = hP9 φ.2.2.1 (φ.1 56) (GK φ.1) q.toInt.toNat) ∧ v.toInt = 0) → rS τ (k9_step p q τ φ) I1 W1 → zr zNM cA ad I1 W1 O g → zf zNM ad h g → Q (some (.int v)) g) : ww l D tys A X fr lo mX11_step Q 0 [(0, .ref (ad 50)), (1, .int p), (2, .int q)] [] h := by
  refine w_aload_n (List.Mem.head _) (tX11_step_0_ok (0, .aload_n 0, 1) (List.mem_of_getElem? (i := 0) rfl)) ?_
  refine w_iconst (by decide) (tX11_step_0_ok (1, .iconst 0, 1) (List.mem_of_getElem? (i := 1) rfl)) (fun zv1 ze2 => ?_)
  refine z_put (f := (I 50)) (own := 16) (k := 0) hz rfl rfl rfl rfl rfl rfl rfl (by decide) rfl ⟨rfl, rfl⟩ (tX11_step_0_ok (2, .putfield 85, 3) (List.mem_of_getElem? (i := 2) rfl)) (fun zh3 zI4 zq5 zz6 zf7 => ?_)
  exact y9_step5 hT zz6 hk (H.th zq5) hf hlo (fun g I1 W1 v e a b c => hq g I1 W1 v e a b (zf7.tr c))
theorem y_imL (hT : k_tys tys cA) {I0 : zI} : ∀ (j9 : Nat) (h : ch_H) (I : zI) (i : Int32), i.toInt + j9 = 39 → 0 ≤ i.toInt → (∀ q, q < i.toInt.toNat → I 58 q = I0 56 q) → (∀ L, L ≠ 58 → I L = I0 L) → zr zNM cA ad I W O h → (∀ (g : ch_H) (I1 : zI), (∀ q, q < 39 → I1 58 q = I0 56 q) → (∀ L, L ≠ 58 → I1 L = I0 L) → zr zNM cA ad I1 W O g → zf zNM ad h g → ww l D tys A X fr lo mX11_image Q 40 [(0, .ref (ad 50))] [] g) → ww l D tys A X fr lo mX11_image Q 16 [(1, .int i), (0, .ref (ad 50))] [] h := by
  intro j9
  induction j9 using Nat.strongRecOn with
  | ind j9 ih =>
    intro h I i hj9 hi0 hD hI hz hq
    refine w_iload_n (List.Mem.head _) (tX11_image_0_ok (16, .iload_n 1, 1) (List.mem_of_getElem? (i := 10) rfl)) ?_
    refine w_bipush (by decide) (tX11_image_0_ok (17, .bipush 39, 2) (List.mem_of_getElem? (i := 11) rfl)) (fun zv1 ze2 => ?_)
    refine w_icmp_ge (tgt := 40) (tX11_image_0_ok (19, .if_icmp .ge 21, 3) (List.mem_of_getElem? (i := 12) rfl)) rfl (fun zb3 => ?_) (fun zb3 => ?_)
    · refine w_lv [(0, .ref (ad 50))] (by intro q hq; simp only [List.mem_cons, List.not_mem_nil, or_false] at hq ⊢; subst hq; simp) ?_
      exact hq h I (fun q a1 => hD q (by omega)) hI hz zf.rf
    · refine w_aload_n (List.Mem.tail _ (List.Mem.head _)) (tX11_image_0_ok (22, .aload_n 0, 1) (List.mem_of_getElem? (i := 13) rfl)) ?_
      refine z_getR (L1 := 58) (own := 16) (k := 24) hz rfl rfl rfl rfl rfl rfl rfl (by decide) (tX11_image_0_ok (23, .getfield 51, 3) (List.mem_of_getElem? (i := 14) rfl)) ?_
      refine w_iload_n (List.Mem.head _) (tX11_image_0_ok (26, .iload_n 1, 1) (List.mem_of_getElem? (i := 15) rfl)) ?_
      refine w_aload_n (List.Mem.tail _ (List.Mem.head _)) (tX11_image_0_ok (27, .aload_n 0, 1) (List.mem_of_getElem? (i := 16) rfl)) ?_
      refine z_getR (L1 := 56) (own := 16) (k := 22) hz rfl rfl rfl rfl rfl rfl rfl (by decide) (tX11_image_0_ok (28, .getfield 45, 3) (List.mem_of_getElem? (i := 17) rfl)) ?_
      refine w_iload_n (List.Mem.head _) (tX11_image_0_ok (31, .iload_n 1, 1) (List.mem_of_getElem? (i := 18) rfl)) ?_
      refine z_iald (f := (I 56)) hT hz rfl rfl rfl (by omega) (by omega) (tX11_image_0_ok (32, .iaload, 1) (List.mem_of_getElem? (i := 19) rfl)) (fun zv4 zu5 => ?_)
      have ze6 : zv4.toInt = ((I 56) i.toInt.toNat).toInt := congrArg _ zu5
      refine z_iast (f := (I 58)) hT hz rfl rfl rfl (by omega) (by omega) (tX11_image_0_ok (33, .iastore, 1) (List.mem_of_getElem? (i := 20) rfl)) (fun zh7 zI8 zq9 zz10 zf11 => ?_)
      refine w_iinc (fun zv12 => [(1, .int zv12), (0, .ref (ad 50))]) (fun _ => rfl) (List.Mem.head _) (Nat.le_of_ble_eq_true rfl) (by decide) (by omega) (by omega) (tX11_image_0_ok (34, .iinc 1 1, 3) (List.mem_of_getElem? (i := 21) rfl)) (fun zv12 ze13 => ?_)
      refine w_goto (tgt := 16) (tX11_image_0_ok (37, .goto (-21), 3) (List.mem_of_getElem? (i := 22) rfl)) rfl ?_
      have c1 := ((congrFun zq9 58).trans (s2_s _ _ _))
      refine w_lv [(1, .int zv12), (0, .ref (ad 50))] (by intro q hq; simp only [List.mem_cons, List.not_mem_nil, or_false] at hq ⊢; rcases hq with e | e <;> subst e <;> simp) ?_
      refine ih (j9 - 1) (by omega) zh7 zI8 _ (by omega) (by omega) (fun q a1 => ?_) (fun L n1 => ?_) zz10 (fun g2 I2 z1 z2 z3 z4 => hq g2 I2 z1 z2 z3 (zf11.tr z4))
      · rw [c1]
        by_cases e : q = i.toInt.toNat
        · subst e
          rw [upd_s, zu5, hI 56 (by decide)]
        · rw [upd_n _ _ e]
          exact hD q (by omega)
      · rw [zq9, s2_n n1]
        exact hI L n1
theorem y9_image5 (hT : k_tys tys cA) (hz : zr zNM cA ad I W O h) (hk : kok τ φ) (H : rS τ φ I W) (hf : 30 ≤ fr) (hlo : 900 ≤ lo) (hq : ∀ (g : ch_H) (I1 : zI) (W1 : zW) (v : Int32), (¬ τ.1 = 0 ∧ v = φ.1 56 38 ∨ τ.1 = 0 ∧ v.toInt = -1) → rS τ (k9_image τ φ) I1 W1 → zr zNM cA ad I1 W1 O g → zf zNM ad h g → Q (some (.int v)) g) : ww l D tys A X fr lo mX11_image Q 5 [(0, .ref (ad 50))] [] h := by
  have n6 := hk.1.1
  obtain ⟨ga6, pe8, ta6⟩ := hk.2.2.2.1
  obtain ⟨h1, ⟨h21, h22, h23⟩, ⟨h3, h32⟩, h4, h5, h6, h7, h8, h9, h10, h11⟩ := id H
  have r0 := h1.1
  refine w_aload_n (List.Mem.head _) (tX11_image_0_ok (5, .aload_n 0, 1) (List.mem_of_getElem? (i := 3) rfl)) ?_
  refine z_get (f := (I 50)) (own := 16) (k := 20) hz rfl rfl rfl rfl rfl rfl rfl (by decide) (tX11_image_0_ok (6, .getfield 248, 3) (List.mem_of_getElem? (i := 4) rfl)) ?_
  refine w_if_ne (tgt := 14) (tX11_image_0_ok (9, .ifCond .ne 5, 3) (List.mem_of_getElem? (i := 5) rfl)) rfl (fun zb1 => ?_) (fun zb1 => ?_)
  · refine w_iconst (by decide) (tX11_image_0_ok (14, .iconst 0, 1) (List.mem_of_getElem? (i := 8) rfl)) (fun zv2 ze3 => ?_)
    refine w_istore_n [(1, .int zv2), (0, .ref (ad 50))] rfl (Nat.le_of_ble_eq_true rfl) (tX11_image_0_ok (15, .istore_n 1, 1) (List.mem_of_getElem? (i := 9) rfl)) ?_
    refine w_lv [(1, .int zv2), (0, .ref (ad 50))] (by intro q hq; simp only [List.mem_cons, List.not_mem_nil, or_false] at hq ⊢; rcases hq with e | e <;> subst e <;> simp) ?_
    refine y_imL hT (I0 := I) 39 h I _ (by omega) (by omega) (fun q a1 => absurd a1 (by omega)) (fun _ _ => rfl) hz (fun g2 I2 x1 x2 x3 x4 => ?_)
    refine w_aload_n (List.Mem.head _) (tX11_image_0_ok (40, .aload_n 0, 1) (List.mem_of_getElem? (i := 23) rfl)) ?_
    refine w_aload_n (List.Mem.head _) (tX11_image_0_ok (41, .aload_n 0, 1) (List.mem_of_getElem? (i := 24) rfl)) ?_
    refine z_get (f := (I2 50)) (own := 16) (k := 33) x3 rfl rfl rfl rfl rfl rfl rfl (by decide) (tX11_image_0_ok (42, .getfield 261, 3) (List.mem_of_getElem? (i := 25) rfl)) ?_
    refine z_put (f := (I2 50)) (own := 16) (k := 35) x3 rfl rfl rfl rfl rfl rfl rfl (by decide) rfl ⟨rfl, rfl⟩ (tX11_image_0_ok (45, .putfield 412, 3) (List.mem_of_getElem? (i := 26) rfl)) (fun yh1 yI2 yq3 yz4 yf5 => ?_)
    refine w_aload_n (List.Mem.head _) (tX11_image_0_ok (48, .aload_n 0, 1) (List.mem_of_getElem? (i := 27) rfl)) ?_
    refine w_aload_n (List.Mem.head _) (tX11_image_0_ok (49, .aload_n 0, 1) (List.mem_of_getElem? (i := 28) rfl)) ?_
    refine z_getJ (own := 16) (k := 36) yz4 rfl rfl rfl rfl rfl rfl rfl (by decide) (tX11_image_0_ok (50, .getfield 270, 3) (List.mem_of_getElem? (i := 29) rfl)) ?_
    refine z_putJ (w := (W 50)) (own := 16) (k := 38) yz4 rfl rfl rfl rfl rfl rfl rfl (by decide) rfl ⟨rfl, rfl⟩ (tX11_image_0_ok (53, .putfield 415, 3) (List.mem_of_getElem? (i := 30) rfl)) (fun yh6 yI7 yq8 yz9 yf10 => ?_)
    refine w_aload_n (List.Mem.head _) (tX11_image_0_ok (56, .aload_n 0, 1) (List.mem_of_getElem? (i := 31) rfl)) ?_
    refine w_iconst (by decide) (tX11_image_0_ok (57, .iconst 1, 1) (List.mem_of_getElem? (i := 32) rfl)) (fun yv11 ye12 => ?_)
    refine z_put (f := (upd (I2 50) 35 ((I2 50) 33))) (own := 16) (k := 39) yz9 rfl rfl rfl rfl ((congrFun yq3 50).trans (s2_s _ _ _)) rfl rfl (by decide) rfl ⟨(kn_nz (by omega) (by omega)).1, (kn_nz (by omega) (by omega)).2.1⟩ (tX11_image_0_ok (58, .putfield 267, 3) (List.mem_of_getElem? (i := 33) rfl)) (fun yh13 yI14 yq15 yz16 yf17 => ?_)
    refine w_aload_n (List.Mem.head _) (tX11_image_0_ok (61, .aload_n 0, 1) (List.mem_of_getElem? (i := 34) rfl)) ?_
    refine z_getR (L1 := 56) (own := 16) (k := 22) yz16 rfl rfl rfl rfl rfl rfl rfl (by decide) (tX11_image_0_ok (62, .getfield 45, 3) (List.mem_of_getElem? (i := 35) rfl)) ?_
    refine w_bipush (by decide) (tX11_image_0_ok (65, .bipush 38, 2) (List.mem_of_getElem? (i := 36) rfl)) (fun yv18 ye19 => ?_)
    refine z_iald (f := (I2 56)) hT yz16 rfl rfl (((congrFun yq15 56).trans (s2_n (by decide))).trans ((congrFun yq3 56).trans (s2_n (by decide)))) (by omega) (by omega) (tX11_image_0_ok (67, .iaload, 1) (List.mem_of_getElem? (i := 37) rfl)) (fun yv20 yu21 => ?_)
    have ye22 : yv20.toInt = ((I2 56) yv18.toInt.toNat).toInt := congrArg _ yu21
    refine w_iret rfl (tX11_image_0_ok (68, .ireturn, 1) (List.mem_of_getElem? (i := 38) rfl)) ?_
    have ec : ¬ τ.1 = 0 := by omega
    have ek : k9_image τ φ = (s2 (s2 φ.1 58 (φ.1 56)) 50 (upd (upd (φ.1 50) 39 1) 35 (Int32.ofNat τ.2.2.1)), (fun q => if q = 38 then φ.2.1 36 else φ.2.1 q), φ.2.2) := if_pos ec
    have e35 : (Int32.ofNat τ.2.2.1).toInt = (τ.2.2.1 : Int) := by
      rw [show Int32.ofNat τ.2.2.1 = Int32.ofInt (τ.2.2.1 : Int) from rfl, ofInt_b (by omega)]
    have c5 := ((congrFun yq15 50).trans (s2_s _ _ _))
    have cw := ((congrFun yq8 50).trans (s2_s _ _ _))
    have o : ∀ L, L ≠ 58 → L ≠ 50 → yI14 L = I L := fun L n1 n2 => by rw [yq15, s2_n n2, yq3, s2_n n2, x2 L n1]
    have o58 : yI14 58 = I2 58 := by rw [yq15, s2_n (by decide), yq3, s2_n (by decide)]
    have o5 : ∀ k9, k9 ≠ 35 → k9 ≠ 39 → yI14 50 k9 = I 50 k9 := fun k9 n1 n2 => by rw [c5, upd_n _ _ n2, upd_n _ _ n1, x2 50 (by decide)]
    refine hq yh13 yI14 yI7 _ (Or.inl ⟨ec, ?_⟩) ?_ yz16 (x4.tr ((yf5.tr yf10).tr yf17))
    · rw [yu21, show yv18.toInt.toNat = 38 by omega, x2 56 (by decide)]
      exact h3.2.2.2
    · rw [ek]
      obtain ⟨K9, eK⟩ : ∃ K9 : zI, K9 = s2 (s2 φ.1 58 (φ.1 56)) 50 (upd (upd (φ.1 50) 39 1) 35 (Int32.ofNat τ.2.2.1)) := ⟨_, rfl⟩
      rw [← eK]
      have k_50 := (congrFun eK 50).trans (s2_s _ _ _)
      have k_58 := ((congrFun eK 58).trans (s2_n (by decide))).trans (s2_s _ _ _)
      have k_n : ∀ L, L ≠ 50 ∧ L ≠ 58 → K9 L = φ.1 L := fun L hL => by rw [eK, s2_n hL.1, s2_n hL.2]
      refine ⟨h1.mv (o5 20 (by decide) (by decide)) (o 55 (by decide) (by decide)), ?_, ?_, fun g hg => ?_, fun a b ha hb => ?_, fun i hi => ?_, fun i hi => ?_, fun r9 hr => ?_, ?_, ?_, ?_⟩
      · rw [o5 32 (by decide) (by decide), o5 33 (by decide) (by decide), o5 34 (by decide) (by decide)]
        exact ⟨h21, h22, h23⟩
      · show tx yI14 56 τ.1 τ.2.2.1 (K9 56) ∧ yI7 50 36 = (if 36 = 38 then φ.2.1 36 else φ.2.1 36)
        rw [k_n 56 (by decide), cw, wpd_n _ _ (by decide), if_neg (by decide)]
        exact ⟨h3.mv (o 56 (by decide) (by decide)), h32⟩
      · show yI14 59 (12 + g) = K9 59 (12 + g)
        rw [o 59 (by decide) (by decide), k_n 59 (by decide)]
        exact h4 g hg
      · show yI14 65 (18 * a + b) = K9 65 (18 * a + b) ∧ 0 ≤ (K9 65 (18 * a + b)).toInt ∧ (K9 65 (18 * a + b)).toInt ≤ 1
        rw [o 65 (by decide) (by decide), k_n 65 (by decide)]
        exact h5 a b ha hb
      · show yI14 62 i = K9 62 i
        rw [o 62 (by decide) (by decide), k_n 62 (by decide)]
        exact h6 i hi
      · show yI14 63 i = K9 63 i ∧ yI14 64 i = K9 64 i
        rw [o 63 (by decide) (by decide), o 64 (by decide) (by decide), k_n 63 (by decide), k_n 64 (by decide)]
        exact h7 i hi
      · show yI14 60 r9 = K9 60 r9 ∧ yI14 61 r9 = K9 61 r9
        rw [o 60 (by decide) (by decide), o 61 (by decide) (by decide), k_n 60 (by decide), k_n 61 (by decide)]
        exact h8 r9 hr
      · show (yI14 50 39).toInt = (K9 50 39).toInt
        rw [c5, upd_s, k_50, upd_n _ _ (by decide), upd_s, ye12]
        rfl
      · show (K9 50 39).toInt = 1 → (yI14 50 35).toInt = (K9 50 35).toInt ∧ tx yI14 58 τ.1 (K9 50 35).toInt.toNat (K9 58) ∧ yI7 50 38 = (if 38 = 38 then φ.2.1 36 else φ.2.1 38)
        refine fun _ => ?_
        rw [c5, upd_n _ _ (by decide), upd_s, k_50, k_58, upd_s, e35, Int.toNat_natCast, cw, wpd_s, if_pos rfl, x2 50 (by decide)]
        refine ⟨h22, ?_, h32⟩
        obtain ⟨t1, t2, t3, t4⟩ := h3
        refine ⟨fun q hq9 => ⟨?_, ?_, ?_⟩, fun q hq9 => ?_, fun i hi => ?_, ?_⟩
        · rw [o58, x1 _ (by omega)]
          exact (t1 q hq9).1
        · rw [o58, x1 _ (by omega)]
          exact (t1 q hq9).2.1
        · rw [o58, x1 _ (by omega)]
          exact (t1 q hq9).2.2
        · rw [o58, x1 _ (by omega)]
          exact t2 q hq9
        · rw [o58, x1 _ (by omega)]
          exact t3 i hi
        · rw [o58, x1 _ (by omega)]
          exact t4
      · show yI14 50 7 = K9 50 7
        rw [o5 7 (by decide) (by decide), k_50, upd_n _ _ (by decide), upd_n _ _ (by decide)]
        exact h11
  · refine w_iconst (by decide) (tX11_image_0_ok (12, .iconst (-1), 1) (List.mem_of_getElem? (i := 6) rfl)) (fun zv4 ze5 => ?_)
    refine w_iret rfl (tX11_image_0_ok (13, .ireturn, 1) (List.mem_of_getElem? (i := 7) rfl)) ?_
    have ek : k9_image τ φ = φ := if_neg (by omega)
    exact hq h I W _ (Or.inr ⟨by omega, by omega⟩) (by rw [ek]; exact H) hz zf.rf
theorem y9_image (hT : k_tys tys cA) (hz : zr zNM cA ad I W O h) (hk : kok τ φ) (H : rS τ φ I W) (hf : 30 ≤ fr) (hlo : 900 ≤ lo) (hq : ∀ (g : ch_H) (I1 : zI) (W1 : zW) (v : Int32), (¬ τ.1 = 0 ∧ v = φ.1 56 38 ∨ τ.1 = 0 ∧ v.toInt = -1) → rS τ (k9_image τ φ) I1 W1 → zr zNM cA ad I1 W1 O g → zf zNM ad h g → Q (some (.int v)) g) : ww l D tys A X fr lo mX11_image Q 0 [(0, .ref (ad 50))] [] h := by
  refine w_aload_n (List.Mem.head _) (tX11_image_0_ok (0, .aload_n 0, 1) (List.mem_of_getElem? (i := 0) rfl)) ?_
  refine w_iconst (by decide) (tX11_image_0_ok (1, .iconst 0, 1) (List.mem_of_getElem? (i := 1) rfl)) (fun zv1 ze2 => ?_)
  refine z_put (f := (I 50)) (own := 16) (k := 0) hz rfl rfl rfl rfl rfl rfl rfl (by decide) rfl ⟨rfl, rfl⟩ (tX11_image_0_ok (2, .putfield 85, 3) (List.mem_of_getElem? (i := 2) rfl)) (fun zh3 zI4 zq5 zz6 zf7 => ?_)
  exact y9_image5 hT zz6 hk (H.th zq5) hf hlo (fun g I1 W1 v e a b c => hq g I1 W1 v e a b (zf7.tr c))
theorem y_bkL (hT : k_tys tys cA) {I0 : zI} {ip : Nat} (hip : (I0 50 35).toInt = (ip : Int) ∧ ip ≤ 8) (hf : 1 ≤ fr) (hlo : 30 ≤ lo) : ∀ (j9 : Nat) (h : ch_H) (I : zI) (i : Int32), i.toInt + j9 = 39 → 0 ≤ i.toInt → (∀ q, q < i.toInt.toNat → I 56 q = (if 30 + ip ≤ q ∧ q ≤ 37 then I0 56 q else I0 58 q)) → (∀ q, i.toInt.toNat ≤ q → I 56 q = I0 56 q) → (∀ L, L ≠ 56 → I L = I0 L) → zr zNM cA ad I W O h → (∀ (g : ch_H) (I1 : zI), (∀ q, q < 39 → I1 56 q = (if 30 + ip ≤ q ∧ q ≤ 37 then I0 56 q else I0 58 q)) → (∀ L, L ≠ 56 → I1 L = I0 L) → zr zNM cA ad I1 W O g → zf zNM ad h g → ww l D tys A X fr lo mX11_back Q 56 [(0, .ref (ad 50))] [] g) → ww l D tys A X fr lo mX11_back Q 16 [(1, .int i), (0, .ref (ad 50))] [] h := by
  intro j9
  induction j9 using Nat.strongRecOn with
  | ind j9 ih =>
    intro h I i hj9 hi0 hD hE hI hz hq
    refine w_iload_n (List.Mem.head _) (tX11_back_0_ok (16, .iload_n 1, 1) (List.mem_of_getElem? (i := 10) rfl)) ?_
    refine w_bipush (by decide) (tX11_back_0_ok (17, .bipush 39, 2) (List.mem_of_getElem? (i := 11) rfl)) (fun zv1 ze2 => ?_)
    refine w_icmp_ge (tgt := 56) (tX11_back_0_ok (19, .if_icmp .ge 37, 3) (List.mem_of_getElem? (i := 12) rfl)) rfl (fun zb3 => ?_) (fun zb3 => ?_)
    · refine w_lv [(0, .ref (ad 50))] (by intro q hq; simp only [List.mem_cons, List.not_mem_nil, or_false] at hq ⊢; subst hq; simp) ?_
      exact hq h I (fun q a1 => hD q (by omega)) hI hz zf.rf
    · refine w_iload_n (List.Mem.head _) (tX11_back_0_ok (22, .iload_n 1, 1) (List.mem_of_getElem? (i := 13) rfl)) ?_
      refine w_bipush (by decide) (tX11_back_0_ok (23, .bipush 30, 2) (List.mem_of_getElem? (i := 14) rfl)) (fun zv4 ze5 => ?_)
      refine w_aload_n (List.Mem.tail _ (List.Mem.head _)) (tX11_back_0_ok (25, .aload_n 0, 1) (List.mem_of_getElem? (i := 15) rfl)) ?_
      refine z_get (f := (I0 50)) (own := 16) (k := 35) hz rfl rfl rfl rfl (hI 50 (by decide)) rfl rfl (by decide) (tX11_back_0_ok (26, .getfield 412, 3) (List.mem_of_getElem? (i := 16) rfl)) ?_
      refine w_iadd (by omega) (by omega) (tX11_back_0_ok (29, .iadd, 1) (List.mem_of_getElem? (i := 17) rfl)) (fun zv6 ze7 => ?_)
      refine w_bipush (by decide) (tX11_back_0_ok (30, .bipush 37, 2) (List.mem_of_getElem? (i := 18) rfl)) (fun zv8 ze9 => ?_)
      refine w_callS (own := 16) (mi := 199) [.int i, .int zv6, .int zv8] [] [(0, .int i), (1, .int zv6), (2, .int zv8)] rfl (cllw_X11 (207, 1, 199) (List.mem_of_getElem? (i := 2) rfl)) rfl rfl (by omega) (w_lo (n := 22) rfl (by omega)) (Nat.le_of_ble_eq_true rfl) (Nat.le_of_ble_eq_true rfl) rfl (tX11_back_0_ok (32, .invokestatic 207, 3) (List.mem_of_getElem? (i := 19) rfl)) (r_isIn (fun zv10 ze11 => ?_))
      show ww l D tys A X fr lo mX11_back Q 35 [(1, .int i), (0, .ref (ad 50))] [.int zv10] h
      refine w_if_ne (tgt := 50) (tX11_back_0_ok (35, .ifCond .ne 15, 3) (List.mem_of_getElem? (i := 20) rfl)) rfl (fun zb12 => ?_) (fun zb12 => ?_)
      · refine w_iinc (fun zv13 => [(1, .int zv13), (0, .ref (ad 50))]) (fun _ => rfl) (List.Mem.head _) (Nat.le_of_ble_eq_true rfl) (by decide) (by omega) (by omega) (tX11_back_0_ok (50, .iinc 1 1, 3) (List.mem_of_getElem? (i := 29) rfl)) (fun zv13 ze14 => ?_)
        refine w_goto (tgt := 16) (tX11_back_0_ok (53, .goto (-37), 3) (List.mem_of_getElem? (i := 30) rfl)) rfl ?_
        refine w_lv [(1, .int zv13), (0, .ref (ad 50))] (by intro q hq; simp only [List.mem_cons, List.not_mem_nil, or_false] at hq ⊢; rcases hq with e | e <;> subst e <;> simp) ?_
        refine ih (j9 - 1) (by omega) h I _ (by omega) (by omega) (fun q a1 => ?_) (fun q a1 => hE q (by omega)) hI hz hq
        by_cases e : q = i.toInt.toNat
        · subst e
          rw [if_pos (by omega)]
          exact hE _ (by omega)
        · exact hD q (by omega)
      · refine w_aload_n (List.Mem.tail _ (List.Mem.head _)) (tX11_back_0_ok (38, .aload_n 0, 1) (List.mem_of_getElem? (i := 21) rfl)) ?_
        refine z_getR (L1 := 56) (own := 16) (k := 22) hz rfl rfl rfl rfl rfl rfl rfl (by decide) (tX11_back_0_ok (39, .getfield 45, 3) (List.mem_of_getElem? (i := 22) rfl)) ?_
        refine w_iload_n (List.Mem.head _) (tX11_back_0_ok (42, .iload_n 1, 1) (List.mem_of_getElem? (i := 23) rfl)) ?_
        refine w_aload_n (List.Mem.tail _ (List.Mem.head _)) (tX11_back_0_ok (43, .aload_n 0, 1) (List.mem_of_getElem? (i := 24) rfl)) ?_
        refine z_getR (L1 := 58) (own := 16) (k := 24) hz rfl rfl rfl rfl rfl rfl rfl (by decide) (tX11_back_0_ok (44, .getfield 51, 3) (List.mem_of_getElem? (i := 25) rfl)) ?_
        refine w_iload_n (List.Mem.head _) (tX11_back_0_ok (47, .iload_n 1, 1) (List.mem_of_getElem? (i := 26) rfl)) ?_
        refine z_iald (f := (I 58)) hT hz rfl rfl rfl (by omega) (by omega) (tX11_back_0_ok (48, .iaload, 1) (List.mem_of_getElem? (i := 27) rfl)) (fun zv15 zu16 => ?_)
        have ze17 : zv15.toInt = ((I 58) i.toInt.toNat).toInt := congrArg _ zu16
        refine z_iast (f := (I 56)) hT hz rfl rfl rfl (by omega) (by omega) (tX11_back_0_ok (49, .iastore, 1) (List.mem_of_getElem? (i := 28) rfl)) (fun zh18 zI19 zq20 zz21 zf22 => ?_)
        refine w_iinc (fun zv23 => [(1, .int zv23), (0, .ref (ad 50))]) (fun _ => rfl) (List.Mem.head _) (Nat.le_of_ble_eq_true rfl) (by decide) (by omega) (by omega) (tX11_back_0_ok (50, .iinc 1 1, 3) (List.mem_of_getElem? (i := 29) rfl)) (fun zv23 ze24 => ?_)
        refine w_goto (tgt := 16) (tX11_back_0_ok (53, .goto (-37), 3) (List.mem_of_getElem? (i := 30) rfl)) rfl ?_
        have c1 := ((congrFun zq20 56).trans (s2_s _ _ _))
        refine w_lv [(1, .int zv23), (0, .ref (ad 50))] (by intro q hq; simp only [List.mem_cons, List.not_mem_nil, or_false] at hq ⊢; rcases hq with e | e <;> subst e <;> simp) ?_
        refine ih (j9 - 1) (by omega) zh18 zI19 _ (by omega) (by omega) (fun q a1 => ?_) (fun q a1 => ?_) (fun L n1 => ?_) zz21 (fun g2 I2 z1 z2 z3 z4 => hq g2 I2 z1 z2 z3 (zf22.tr z4))
        · rw [c1]
          by_cases e : q = i.toInt.toNat
          · subst e
            rw [upd_s, if_neg (by omega), zu16, hI 58 (by decide)]
          · rw [upd_n _ _ e]
            exact hD q (by omega)
        · rw [c1, upd_n _ _ (by omega)]
          exact hE q (by omega)
        · rw [zq20, s2_n n1]
          exact hI L n1
theorem y9_back5 (hT : k_tys tys cA) (hz : zr zNM cA ad I W O h) (hk : kok τ φ) (H : rS τ φ I W) (hf : 30 ≤ fr) (hlo : 900 ≤ lo) (hq : ∀ (g : ch_H) (I1 : zI) (W1 : zW) (v : Int32), ((φ.1 50 39).toInt = 1 ∧ v = φ.1 58 38 ∨ ¬ (φ.1 50 39).toInt = 1 ∧ v.toInt = -1) → rS τ (k9_back φ) I1 W1 → zr zNM cA ad I1 W1 O g → zf zNM ad h g → Q (some (.int v)) g) : ww l D tys A X fr lo mX11_back Q 5 [(0, .ref (ad 50))] [] h := by
  have n6 := hk.1.1
  obtain ⟨ga6, pe8, ta6⟩ := hk.2.2.2.1
  obtain ⟨h1, ⟨h21, h22, h23⟩, ⟨h3, h32⟩, h4, h5, h6, h7, h8, h9, h10, h11⟩ := id H
  have r0 := h1.1
  refine w_aload_n (List.Mem.head _) (tX11_back_0_ok (5, .aload_n 0, 1) (List.mem_of_getElem? (i := 3) rfl)) ?_
  refine z_get (f := (I 50)) (own := 16) (k := 39) hz rfl rfl rfl rfl rfl rfl rfl (by decide) (tX11_back_0_ok (6, .getfield 267, 3) (List.mem_of_getElem? (i := 4) rfl)) ?_
  refine w_if_ne (tgt := 14) (tX11_back_0_ok (9, .ifCond .ne 5, 3) (List.mem_of_getElem? (i := 5) rfl)) rfl (fun zb1 => ?_) (fun zb1 => ?_)
  · refine w_iconst (by decide) (tX11_back_0_ok (14, .iconst 0, 1) (List.mem_of_getElem? (i := 8) rfl)) (fun zv2 ze3 => ?_)
    refine w_istore_n [(1, .int zv2), (0, .ref (ad 50))] rfl (Nat.le_of_ble_eq_true rfl) (tX11_back_0_ok (15, .istore_n 1, 1) (List.mem_of_getElem? (i := 9) rfl)) ?_
    have ec : (φ.1 50 39).toInt = 1 := by
      rcases hk.2.2.2.2.2.1 with z | z
      · omega
      · exact z.1
    have ib : 0 ≤ (φ.1 50 35).toInt ∧ (φ.1 50 35).toInt ≤ (τ.2.2.1 : Int) := by
      rcases hk.2.2.2.2.2.1 with z | z
      · omega
      · exact ⟨z.2.1, z.2.2.1⟩
    obtain ⟨k1, k2, k3⟩ := h10 ec
    refine w_lv [(1, .int zv2), (0, .ref (ad 50))] (by intro q hq; simp only [List.mem_cons, List.not_mem_nil, or_false] at hq ⊢; rcases hq with e | e <;> subst e <;> simp) ?_
    refine y_bkL hT (I0 := I) (ip := (φ.1 50 35).toInt.toNat) ⟨by omega, by omega⟩ (by omega) (by omega) 39 h I _ (by omega) (by omega) (fun q a1 => absurd a1 (by omega)) (fun _ _ => rfl) (fun _ _ => rfl) hz (fun g2 I2 x1 x2 x3 x4 => ?_)
    refine w_aload_n (List.Mem.head _) (tX11_back_0_ok (56, .aload_n 0, 1) (List.mem_of_getElem? (i := 31) rfl)) ?_
    refine w_aload_n (List.Mem.head _) (tX11_back_0_ok (57, .aload_n 0, 1) (List.mem_of_getElem? (i := 32) rfl)) ?_
    refine z_getJ (own := 16) (k := 38) x3 rfl rfl rfl rfl rfl rfl rfl (by decide) (tX11_back_0_ok (58, .getfield 415, 3) (List.mem_of_getElem? (i := 33) rfl)) ?_
    refine z_putJ (w := (W 50)) (own := 16) (k := 36) x3 rfl rfl rfl rfl rfl rfl rfl (by decide) rfl ⟨rfl, rfl⟩ (tX11_back_0_ok (61, .putfield 270, 3) (List.mem_of_getElem? (i := 34) rfl)) (fun yh1 yI2 yq3 yz4 yf5 => ?_)
    refine w_aload_n (List.Mem.head _) (tX11_back_0_ok (64, .aload_n 0, 1) (List.mem_of_getElem? (i := 35) rfl)) ?_
    refine z_getR (L1 := 56) (own := 16) (k := 22) yz4 rfl rfl rfl rfl rfl rfl rfl (by decide) (tX11_back_0_ok (65, .getfield 45, 3) (List.mem_of_getElem? (i := 36) rfl)) ?_
    refine w_bipush (by decide) (tX11_back_0_ok (68, .bipush 38, 2) (List.mem_of_getElem? (i := 37) rfl)) (fun yv6 ye7 => ?_)
    refine z_iald (f := (I2 56)) hT yz4 rfl rfl rfl (by omega) (by omega) (tX11_back_0_ok (70, .iaload, 1) (List.mem_of_getElem? (i := 38) rfl)) (fun yv8 yu9 => ?_)
    have ye10 : yv8.toInt = ((I2 56) yv6.toInt.toNat).toInt := congrArg _ yu9
    refine w_iret rfl (tX11_back_0_ok (71, .ireturn, 1) (List.mem_of_getElem? (i := 39) rfl)) ?_
    have ek : k9_back φ = (s2 φ.1 56 (fun q => if 30 + (φ.1 50 35).toInt.toNat ≤ q ∧ q ≤ 37 then φ.1 56 q else φ.1 58 q), (fun q => if q = 36 then φ.2.1 38 else φ.2.1 q), φ.2.2) := if_pos ec
    have cw := ((congrFun yq3 50).trans (s2_s _ _ _))
    refine hq yh1 I2 yI2 _ (Or.inl ⟨ec, ?_⟩) ?_ yz4 (x4.tr yf5)
    · rw [yu9, show yv6.toInt.toNat = 38 by omega, x1 38 (by decide), if_neg (by omega)]
      exact k2.2.2.2
    · rw [ek]
      obtain ⟨T9, eT⟩ : ∃ T9 : Nat → Int32, T9 = (fun q => if 30 + (φ.1 50 35).toInt.toNat ≤ q ∧ q ≤ 37 then φ.1 56 q else φ.1 58 q) := ⟨_, rfl⟩
      obtain ⟨V9, eV⟩ : ∃ V9 : Nat → Int64, V9 = (fun q => if q = 36 then φ.2.1 38 else φ.2.1 q) := ⟨_, rfl⟩
      rw [← eT, ← eV]
      have V_s : V9 36 = φ.2.1 38 := (congrFun eV 36).trans (if_pos rfl)
      have V_n : V9 38 = φ.2.1 38 := (congrFun eV 38).trans (if_neg (by decide))
      have T_p : ∀ q, (30 + (φ.1 50 35).toInt.toNat ≤ q ∧ q ≤ 37) → T9 q = φ.1 56 q := fun q hq8 => (congrFun eT q).trans (if_pos hq8)
      have T_n : ∀ q, ¬ (30 + (φ.1 50 35).toInt.toNat ≤ q ∧ q ≤ 37) → T9 q = φ.1 58 q := fun q hq8 => (congrFun eT q).trans (if_neg hq8)
      refine rS.t (K := s2 φ.1 56 T9) (V := V9) H (fun L hL => s2_n hL) V_n (fun L n1 n2 => x2 L n1) (fun k9 _ => by rw [x2 50 (by decide)]) (by rw [cw, wpd_n _ _ (by decide)]) ⟨?_, ?_⟩
      · rw [s2_s]
        obtain ⟨t1, t2, t3, t4⟩ := k2
        refine ⟨fun q hq9 => ⟨?_, ?_, ?_⟩, fun q hq9 => ?_, fun i hi => ?_, ?_⟩
        · rw [x1 _ (by omega), if_neg (by omega), T_n _ (by omega)]
          exact (t1 q hq9).1
        · rw [x1 _ (by omega), if_neg (by omega), T_n _ (by omega)]
          exact (t1 q hq9).2.1
        · rw [x1 _ (by omega), if_neg (by omega), T_n _ (by omega)]
          exact (t1 q hq9).2.2
        · rw [x1 _ (by omega), if_neg (by omega), T_n _ (by omega)]
          exact t2 q hq9
        · rw [x1 _ (by omega)]
          by_cases e : i < (φ.1 50 35).toInt.toNat
          · rw [if_neg (by omega), T_n _ (by omega)]
            exact t3 i e
          · rw [if_pos (by omega), T_p _ (by omega)]
            exact h3.2.2.1 i hi
        · rw [x1 _ (by omega), if_neg (by omega), T_n _ (by omega)]
          exact t4
      · rw [cw, wpd_s, V_s]
        exact k3
  · refine w_iconst (by decide) (tX11_back_0_ok (12, .iconst (-1), 1) (List.mem_of_getElem? (i := 6) rfl)) (fun zv4 ze5 => ?_)
    refine w_iret rfl (tX11_back_0_ok (13, .ireturn, 1) (List.mem_of_getElem? (i := 7) rfl)) ?_
    have ec : ¬ (φ.1 50 39).toInt = 1 := by omega
    have ek : k9_back φ = φ := if_neg ec
    exact hq h I W _ (Or.inr ⟨ec, by omega⟩) (by rw [ek]; exact H) hz zf.rf
theorem y9_back (hT : k_tys tys cA) (hz : zr zNM cA ad I W O h) (hk : kok τ φ) (H : rS τ φ I W) (hf : 30 ≤ fr) (hlo : 900 ≤ lo) (hq : ∀ (g : ch_H) (I1 : zI) (W1 : zW) (v : Int32), ((φ.1 50 39).toInt = 1 ∧ v = φ.1 58 38 ∨ ¬ (φ.1 50 39).toInt = 1 ∧ v.toInt = -1) → rS τ (k9_back φ) I1 W1 → zr zNM cA ad I1 W1 O g → zf zNM ad h g → Q (some (.int v)) g) : ww l D tys A X fr lo mX11_back Q 0 [(0, .ref (ad 50))] [] h := by
  refine w_aload_n (List.Mem.head _) (tX11_back_0_ok (0, .aload_n 0, 1) (List.mem_of_getElem? (i := 0) rfl)) ?_
  refine w_iconst (by decide) (tX11_back_0_ok (1, .iconst 0, 1) (List.mem_of_getElem? (i := 1) rfl)) (fun zv1 ze2 => ?_)
  refine z_put (f := (I 50)) (own := 16) (k := 0) hz rfl rfl rfl rfl rfl rfl rfl (by decide) rfl ⟨rfl, rfl⟩ (tX11_back_0_ok (2, .putfield 85, 3) (List.mem_of_getElem? (i := 2) rfl)) (fun zh3 zI4 zq5 zz6 zf7 => ?_)
  exact y9_back5 hT zz6 hk (H.th zq5) hf hlo (fun g I1 W1 v e a b c => hq g I1 W1 v e a b (zf7.tr c))
end
