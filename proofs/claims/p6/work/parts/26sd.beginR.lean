/-! the reference: begin, a new TOWN -/
section
variable {l : Launch} {D : va_G} {tys : List (ClassId × FieldType)} {A : Nat → Prop} {X : State → Prop} {fr lo : Nat} {Q : Option Value → ch_H → Prop} {cA : Nat → ClassId} {h : ch_H} {ad : Nat → Nat} {I : zI} {W : zW} {O : zO} {seed : Int64} {n : Nat} {ρ : aRw}
theorem y_bg1 (hT : k_tys tys cA) {I0 : zI} : ∀ (j9 : Nat) (h : ch_H) (I : zI) (k : Int32), k.toInt + j9 = 39 → 0 ≤ k.toInt → zr zNM cA ad I W O h → (∀ q, q < k.toInt.toNat → I 56 q = 0) → (∀ L, L ≠ 56 → I L = I0 L) → (∀ (g : ch_H) (I1 : zI) (k1 : Int32), (∀ q, q < 39 → I1 56 q = 0) → (∀ L, L ≠ 56 → I1 L = I0 L) → zr zNM cA ad I1 W O g → zf zNM ad h g → ww l D tys A X fr lo mX11_begin Q 21 [(3, .int k1), (0, .ref (ad 50)), (1, .long seed)] [] g) → ww l D tys A X fr lo mX11_begin Q 2 [(3, .int k), (0, .ref (ad 50)), (1, .long seed)] [] h := by
  intro j9
  induction j9 using Nat.strongRecOn with
  | ind j9 ih =>
    intro h I k hj9 hk0 hz hD hI hq
    refine w_iload_n (List.Mem.head _) (tX11_begin_0_ok (2, .iload_n 3, 1) (List.mem_of_getElem? (i := 2) rfl)) ?_
    refine w_bipush (by decide) (tX11_begin_0_ok (3, .bipush 39, 2) (List.mem_of_getElem? (i := 3) rfl)) (fun zv1 ze2 => ?_)
    refine w_icmp_ge (tgt := 21) (tX11_begin_0_ok (5, .if_icmp .ge 16, 3) (List.mem_of_getElem? (i := 4) rfl)) rfl (fun zb3 => ?_) (fun zb3 => ?_)
    · refine w_lv [(3, .int k), (0, .ref (ad 50)), (1, .long seed)] (by intro q hq; simp only [List.mem_cons, List.not_mem_nil, or_false] at hq ⊢; rcases hq with e | e | e <;> subst e <;> simp) ?_
      exact hq h I k (fun q a1 => hD q (by omega)) hI hz zf.rf
    · refine w_aload_n (List.Mem.tail _ (List.Mem.head _)) (tX11_begin_0_ok (8, .aload_n 0, 1) (List.mem_of_getElem? (i := 5) rfl)) ?_
      refine z_getR (L1 := 56) (own := 16) (k := 22) hz rfl rfl rfl rfl rfl rfl rfl (by decide) (tX11_begin_0_ok (9, .getfield 45, 3) (List.mem_of_getElem? (i := 6) rfl)) ?_
      refine w_iload_n (List.Mem.head _) (tX11_begin_0_ok (12, .iload_n 3, 1) (List.mem_of_getElem? (i := 7) rfl)) ?_
      refine w_iconst (by decide) (tX11_begin_0_ok (13, .iconst 0, 1) (List.mem_of_getElem? (i := 8) rfl)) (fun zv4 ze5 => ?_)
      refine z_iast (f := (I 56)) hT hz rfl rfl rfl (by omega) (by omega) (tX11_begin_0_ok (14, .iastore, 1) (List.mem_of_getElem? (i := 9) rfl)) (fun zh6 zI7 zq8 zz9 zf10 => ?_)
      refine w_iinc (fun zv11 => [(3, .int zv11), (0, .ref (ad 50)), (1, .long seed)]) (fun _ => rfl) (List.Mem.head _) (Nat.le_of_ble_eq_true rfl) (by decide) (by omega) (by omega) (tX11_begin_0_ok (15, .iinc 3 1, 3) (List.mem_of_getElem? (i := 10) rfl)) (fun zv11 ze12 => ?_)
      refine w_goto (tgt := 2) (tX11_begin_0_ok (18, .goto (-16), 3) (List.mem_of_getElem? (i := 11) rfl)) rfl ?_
      have c56 := ((congrFun zq8 56).trans (s2_s _ _ _))
      refine w_lv [(3, .int zv11), (0, .ref (ad 50)), (1, .long seed)] (by intro q hq; simp only [List.mem_cons, List.not_mem_nil, or_false] at hq ⊢; rcases hq with e | e | e <;> subst e <;> simp) ?_
      refine ih (j9 - 1) (by omega) zh6 zI7 _ (by omega) (by omega) zz9 (fun q a1 => ?_) (fun L n56 => ?_) (fun g2 I2 k2 z1 z2 z3 z4 => hq g2 I2 k2 z1 z2 z3 (zf10.tr z4))
      · rw [c56]
        by_cases e : q = k.toInt.toNat
        · subst e
          rw [upd_s]
          exact (kn_eq _ _).mpr (ze5.trans (by decide))
        · rw [upd_n _ _ e]
          exact hD q (by omega)
      · rw [zq8, s2_n n56]
        exact hI L n56
theorem y_bg2 (hT : k_tys tys cA) {I0 : zI} (hp : qz I0 n ρ) (hf : 1 ≤ fr) (hlo : 30 ≤ lo) : ∀ (j9 : Nat) (h : ch_H) (I : zI) (k : Int32), k.toInt + j9 = (n : Int) → 0 ≤ k.toInt → zr zNM cA ad I W O h → (∀ q, q < k.toInt.toNat → (I 56 q).toInt = ρ q 2 ∧ I 56 (12 + q) = 1) → (∀ q, (6 ≤ q ∧ q < 12 ∨ 18 ≤ q ∧ q < 39) → I 56 q = 0) → (∀ L, L ≠ 56 → I L = I0 L) → (∀ (g : ch_H) (I1 : zI) (k1 : Int32), (∀ q, q < n → (I1 56 q).toInt = ρ q 2 ∧ I1 56 (12 + q) = 1) → (∀ q, (6 ≤ q ∧ q < 12 ∨ 18 ≤ q ∧ q < 39) → I1 56 q = 0) → (∀ L, L ≠ 56 → I1 L = I0 L) → zr zNM cA ad I1 W O g → zf zNM ad h g → ww l D tys A X fr lo mX11_begin Q 59 [(3, .int k1), (0, .ref (ad 50)), (1, .long seed)] [] g) → ww l D tys A X fr lo mX11_begin Q 23 [(3, .int k), (0, .ref (ad 50)), (1, .long seed)] [] h := by
  intro j9
  induction j9 using Nat.strongRecOn with
  | ind j9 ih =>
    intro h I k hj9 hk0 hz hD hE hI hq
    have hp9 : qz I n ρ := hp.mv (by rw [hI 50 (by decide)]) (hI 55 (by decide))
    have hn0 := hp.1
    have n6 := hp.2.1.1
    refine w_iload_n (List.Mem.head _) (tX11_begin_0_ok (23, .iload_n 3, 1) (List.mem_of_getElem? (i := 14) rfl)) ?_
    refine w_aload_n (List.Mem.tail _ (List.Mem.head _)) (tX11_begin_0_ok (24, .aload_n 0, 1) (List.mem_of_getElem? (i := 15) rfl)) ?_
    refine z_get (f := (I0 50)) (own := 16) (k := 20) hz rfl rfl rfl rfl (hI 50 (by decide)) rfl rfl (by decide) (tX11_begin_0_ok (25, .getfield 248, 3) (List.mem_of_getElem? (i := 16) rfl)) ?_
    refine w_icmp_ge (tgt := 59) (tX11_begin_0_ok (28, .if_icmp .ge 31, 3) (List.mem_of_getElem? (i := 17) rfl)) rfl (fun zb1 => ?_) (fun zb1 => ?_)
    · refine w_lv [(3, .int k), (0, .ref (ad 50)), (1, .long seed)] (by intro q hq; simp only [List.mem_cons, List.not_mem_nil, or_false] at hq ⊢; rcases hq with e | e | e <;> subst e <;> simp) ?_
      exact hq h I k (fun q a1 => hD q (by omega)) (fun q a1 => hE q (by omega)) hI hz zf.rf
    · refine w_aload_n (List.Mem.tail _ (List.Mem.head _)) (tX11_begin_0_ok (31, .aload_n 0, 1) (List.mem_of_getElem? (i := 18) rfl)) ?_
      refine z_getR (L1 := 56) (own := 16) (k := 22) hz rfl rfl rfl rfl rfl rfl rfl (by decide) (tX11_begin_0_ok (32, .getfield 45, 3) (List.mem_of_getElem? (i := 19) rfl)) ?_
      refine w_iload_n (List.Mem.head _) (tX11_begin_0_ok (35, .iload_n 3, 1) (List.mem_of_getElem? (i := 20) rfl)) ?_
      refine w_aload_n (List.Mem.tail _ (List.Mem.head _)) (tX11_begin_0_ok (36, .aload_n 0, 1) (List.mem_of_getElem? (i := 21) rfl)) ?_
      refine w_iload_n (List.Mem.head _) (tX11_begin_0_ok (37, .iload_n 3, 1) (List.mem_of_getElem? (i := 22) rfl)) ?_
      refine w_iconst (by decide) (tX11_begin_0_ok (38, .iconst 2, 1) (List.mem_of_getElem? (i := 23) rfl)) (fun zv2 ze3 => ?_)
      refine w_callV (own := 16) (mi := 219) [.int k, .int zv2] [.int k, .ref (ad 56)] [(0, .ref (ad 50)), (1, .int k), (2, .int zv2)] rfl (cllw_X11 (255, 0, 219) (List.mem_of_getElem? (i := 34) rfl)) rfl rfl (hz.ob rfl rfl) rfl (by omega) (w_lo (n := 22) rfl (by omega)) (Nat.le_of_ble_eq_true rfl) (Nat.le_of_ble_eq_true rfl) rfl (tX11_begin_0_ok (39, .invokevirtual 255, 3) (List.mem_of_getElem? (i := 24) rfl)) (y_of hT hz hp9 ⟨by omega, by omega⟩ (by omega) (fun zv4 ze5 => ?_))
      show ww l D tys A X fr lo mX11_begin Q 42 [(3, .int k), (0, .ref (ad 50)), (1, .long seed)] [.int zv4, .int k, .ref (ad 56)] h
      rw [show zv2.toInt.toNat = 2 by omega] at ze5
      refine z_iast (f := (I 56)) hT hz rfl rfl rfl (by omega) (by omega) (tX11_begin_0_ok (42, .iastore, 1) (List.mem_of_getElem? (i := 25) rfl)) (fun zh6 zI7 zq8 zz9 zf10 => ?_)
      refine w_aload_n (List.Mem.tail _ (List.Mem.head _)) (tX11_begin_0_ok (43, .aload_n 0, 1) (List.mem_of_getElem? (i := 26) rfl)) ?_
      refine z_getR (L1 := 56) (own := 16) (k := 22) zz9 rfl rfl rfl rfl rfl rfl rfl (by decide) (tX11_begin_0_ok (44, .getfield 45, 3) (List.mem_of_getElem? (i := 27) rfl)) ?_
      refine w_bipush (by decide) (tX11_begin_0_ok (47, .bipush 12, 2) (List.mem_of_getElem? (i := 28) rfl)) (fun zv11 ze12 => ?_)
      refine w_iload_n (List.Mem.head _) (tX11_begin_0_ok (49, .iload_n 3, 1) (List.mem_of_getElem? (i := 29) rfl)) ?_
      refine w_iadd (by omega) (by omega) (tX11_begin_0_ok (50, .iadd, 1) (List.mem_of_getElem? (i := 30) rfl)) (fun zv13 ze14 => ?_)
      refine w_iconst (by decide) (tX11_begin_0_ok (51, .iconst 1, 1) (List.mem_of_getElem? (i := 31) rfl)) (fun zv15 ze16 => ?_)
      refine z_iast (f := (upd (I 56) k.toInt.toNat zv4)) hT zz9 rfl rfl ((congrFun zq8 56).trans (s2_s _ _ _)) (by omega) (by omega) (tX11_begin_0_ok (52, .iastore, 1) (List.mem_of_getElem? (i := 32) rfl)) (fun zh17 zI18 zq19 zz20 zf21 => ?_)
      refine w_iinc (fun zv22 => [(3, .int zv22), (0, .ref (ad 50)), (1, .long seed)]) (fun _ => rfl) (List.Mem.head _) (Nat.le_of_ble_eq_true rfl) (by decide) (by omega) (by omega) (tX11_begin_0_ok (53, .iinc 3 1, 3) (List.mem_of_getElem? (i := 33) rfl)) (fun zv22 ze23 => ?_)
      refine w_goto (tgt := 23) (tX11_begin_0_ok (56, .goto (-33), 3) (List.mem_of_getElem? (i := 34) rfl)) rfl ?_
      have c56 := ((congrFun zq19 56).trans (s2_s _ _ _))
      refine w_lv [(3, .int zv22), (0, .ref (ad 50)), (1, .long seed)] (by intro q hq; simp only [List.mem_cons, List.not_mem_nil, or_false] at hq ⊢; rcases hq with e | e | e <;> subst e <;> simp) ?_
      refine ih (j9 - 1) (by omega) zh17 zI18 _ (by omega) (by omega) zz20 (fun q a1 => ?_) (fun q a1 => ?_) (fun L n56 => ?_) (fun g2 I2 k2 z1 z9 z2 z3 z4 => hq g2 I2 k2 z1 z9 z2 z3 ((zf10.tr zf21).tr z4))
      · rw [c56, show zv13.toInt.toNat = 12 + k.toInt.toNat by omega]
        by_cases e : q = k.toInt.toNat
        · subst e
          rw [upd_n _ _ (by omega), upd_s, upd_s]
          exact ⟨ze5, (kn_eq _ _).mpr (ze16.trans (by decide))⟩
        · rw [upd_n _ _ (show ¬ q = 12 + k.toInt.toNat by omega), upd_n _ _ e, upd_n _ _ (show ¬ 12 + q = 12 + k.toInt.toNat by omega), upd_n _ _ (show ¬ 12 + q = k.toInt.toNat by omega)]
          exact hD q (by omega)
      · rw [c56, show zv13.toInt.toNat = 12 + k.toInt.toNat by omega, upd_n _ _ (show ¬ q = 12 + k.toInt.toNat by omega), upd_n _ _ (show ¬ q = k.toInt.toNat by omega)]
        exact hE q (by omega)
      · rw [zq19, s2_n n56, zq8, s2_n n56]
        exact hI L n56
theorem y_bg3 (hT : k_tys tys cA) {I0 : zI} : ∀ (j9 : Nat) (h : ch_H) (I : zI) (k : Int32), k.toInt + j9 = 324 → 0 ≤ k.toInt → zr zNM cA ad I W O h → (∀ q, q < k.toInt.toNat → I 65 q = 0) → (∀ L, L ≠ 65 → I L = I0 L) → (∀ (g : ch_H) (I1 : zI) (k1 : Int32), (∀ q, q < 324 → I1 65 q = 0) → (∀ L, L ≠ 65 → I1 L = I0 L) → zr zNM cA ad I1 W O g → zf zNM ad h g → ww l D tys A X fr lo mX11_begin Q 81 [(3, .int k1), (0, .ref (ad 50)), (1, .long seed)] [] g) → ww l D tys A X fr lo mX11_begin Q 61 [(3, .int k), (0, .ref (ad 50)), (1, .long seed)] [] h := by
  intro j9
  induction j9 using Nat.strongRecOn with
  | ind j9 ih =>
    intro h I k hj9 hk0 hz hD hI hq
    refine w_iload_n (List.Mem.head _) (tX11_begin_0_ok (61, .iload_n 3, 1) (List.mem_of_getElem? (i := 37) rfl)) ?_
    refine w_sipush (by decide) (tX11_begin_0_ok (62, .sipush 324, 3) (List.mem_of_getElem? (i := 38) rfl)) (fun zv1 ze2 => ?_)
    refine w_icmp_ge (tgt := 81) (tX11_begin_0_ok (65, .if_icmp .ge 16, 3) (List.mem_of_getElem? (i := 39) rfl)) rfl (fun zb3 => ?_) (fun zb3 => ?_)
    · refine w_lv [(3, .int k), (0, .ref (ad 50)), (1, .long seed)] (by intro q hq; simp only [List.mem_cons, List.not_mem_nil, or_false] at hq ⊢; rcases hq with e | e | e <;> subst e <;> simp) ?_
      exact hq h I k (fun q a1 => hD q (by omega)) hI hz zf.rf
    · refine w_aload_n (List.Mem.tail _ (List.Mem.head _)) (tX11_begin_0_ok (68, .aload_n 0, 1) (List.mem_of_getElem? (i := 40) rfl)) ?_
      refine z_getR (L1 := 65) (own := 16) (k := 31) hz rfl rfl rfl rfl rfl rfl rfl (by decide) (tX11_begin_0_ok (69, .getfield 72, 3) (List.mem_of_getElem? (i := 41) rfl)) ?_
      refine w_iload_n (List.Mem.head _) (tX11_begin_0_ok (72, .iload_n 3, 1) (List.mem_of_getElem? (i := 42) rfl)) ?_
      refine w_iconst (by decide) (tX11_begin_0_ok (73, .iconst 0, 1) (List.mem_of_getElem? (i := 43) rfl)) (fun zv4 ze5 => ?_)
      refine z_zast (f := (I 65)) hT hz rfl rfl rfl (by omega) (by omega) (by omega) (tX11_begin_0_ok (74, .bastore, 1) (List.mem_of_getElem? (i := 44) rfl)) (fun zh6 zI7 zq8 zz9 zf10 => ?_)
      refine w_iinc (fun zv11 => [(3, .int zv11), (0, .ref (ad 50)), (1, .long seed)]) (fun _ => rfl) (List.Mem.head _) (Nat.le_of_ble_eq_true rfl) (by decide) (by omega) (by omega) (tX11_begin_0_ok (75, .iinc 3 1, 3) (List.mem_of_getElem? (i := 45) rfl)) (fun zv11 ze12 => ?_)
      refine w_goto (tgt := 61) (tX11_begin_0_ok (78, .goto (-17), 3) (List.mem_of_getElem? (i := 46) rfl)) rfl ?_
      have c65 := ((congrFun zq8 65).trans (s2_s _ _ _))
      refine w_lv [(3, .int zv11), (0, .ref (ad 50)), (1, .long seed)] (by intro q hq; simp only [List.mem_cons, List.not_mem_nil, or_false] at hq ⊢; rcases hq with e | e | e <;> subst e <;> simp) ?_
      refine ih (j9 - 1) (by omega) zh6 zI7 _ (by omega) (by omega) zz9 (fun q a1 => ?_) (fun L n65 => ?_) (fun g2 I2 k2 z1 z2 z3 z4 => hq g2 I2 k2 z1 z2 z3 (zf10.tr z4))
      · rw [c65]
        by_cases e : q = k.toInt.toNat
        · subst e
          rw [upd_s]
          exact (kn_eq _ _).mpr (ze5.trans (by decide))
        · rw [upd_n _ _ e]
          exact hD q (by omega)
      · rw [zq8, s2_n n65]
        exact hI L n65
theorem y_bg4 (hT : k_tys tys cA) {I0 : zI} : ∀ (j9 : Nat) (h : ch_H) (I : zI) (k : Int32), k.toInt + j9 = 12 → 0 ≤ k.toInt → zr zNM cA ad I W O h → (∀ q, q < k.toInt.toNat → I 60 q = -1 ∧ I 61 q = -1) → (∀ L, L ≠ 60 → L ≠ 61 → I L = I0 L) → (∀ (g : ch_H) (I1 : zI) (k1 : Int32), (∀ q, q < 12 → I1 60 q = -1 ∧ I1 61 q = -1) → (∀ L, L ≠ 60 → L ≠ 61 → I1 L = I0 L) → zr zNM cA ad I1 W O g → zf zNM ad h g → ww l D tys A X fr lo mX11_begin Q 109 [(3, .int k1), (0, .ref (ad 50)), (1, .long seed)] [] g) → ww l D tys A X fr lo mX11_begin Q 83 [(3, .int k), (0, .ref (ad 50)), (1, .long seed)] [] h := by
  intro j9
  induction j9 using Nat.strongRecOn with
  | ind j9 ih =>
    intro h I k hj9 hk0 hz hD hI hq
    refine w_iload_n (List.Mem.head _) (tX11_begin_0_ok (83, .iload_n 3, 1) (List.mem_of_getElem? (i := 49) rfl)) ?_
    refine w_bipush (by decide) (tX11_begin_0_ok (84, .bipush 12, 2) (List.mem_of_getElem? (i := 50) rfl)) (fun zv1 ze2 => ?_)
    refine w_icmp_ge (tgt := 109) (tX11_begin_0_ok (86, .if_icmp .ge 23, 3) (List.mem_of_getElem? (i := 51) rfl)) rfl (fun zb3 => ?_) (fun zb3 => ?_)
    · refine w_lv [(3, .int k), (0, .ref (ad 50)), (1, .long seed)] (by intro q hq; simp only [List.mem_cons, List.not_mem_nil, or_false] at hq ⊢; rcases hq with e | e | e <;> subst e <;> simp) ?_
      exact hq h I k (fun q a1 => hD q (by omega)) hI hz zf.rf
    · refine w_aload_n (List.Mem.tail _ (List.Mem.head _)) (tX11_begin_0_ok (89, .aload_n 0, 1) (List.mem_of_getElem? (i := 52) rfl)) ?_
      refine z_getR (L1 := 60) (own := 16) (k := 26) hz rfl rfl rfl rfl rfl rfl rfl (by decide) (tX11_begin_0_ok (90, .getfield 57, 3) (List.mem_of_getElem? (i := 53) rfl)) ?_
      refine w_iload_n (List.Mem.head _) (tX11_begin_0_ok (93, .iload_n 3, 1) (List.mem_of_getElem? (i := 54) rfl)) ?_
      refine w_iconst (by decide) (tX11_begin_0_ok (94, .iconst (-1), 1) (List.mem_of_getElem? (i := 55) rfl)) (fun zv4 ze5 => ?_)
      refine z_iast (f := (I 60)) hT hz rfl rfl rfl (by omega) (by omega) (tX11_begin_0_ok (95, .iastore, 1) (List.mem_of_getElem? (i := 56) rfl)) (fun zh6 zI7 zq8 zz9 zf10 => ?_)
      refine w_aload_n (List.Mem.tail _ (List.Mem.head _)) (tX11_begin_0_ok (96, .aload_n 0, 1) (List.mem_of_getElem? (i := 57) rfl)) ?_
      refine z_getR (L1 := 61) (own := 16) (k := 27) zz9 rfl rfl rfl rfl rfl rfl rfl (by decide) (tX11_begin_0_ok (97, .getfield 60, 3) (List.mem_of_getElem? (i := 58) rfl)) ?_
      refine w_iload_n (List.Mem.head _) (tX11_begin_0_ok (100, .iload_n 3, 1) (List.mem_of_getElem? (i := 59) rfl)) ?_
      refine w_iconst (by decide) (tX11_begin_1_ok (101, .iconst (-1), 1) (List.mem_of_getElem? (i := 0) rfl)) (fun zv11 ze12 => ?_)
      refine z_iast (f := (I 61)) hT zz9 rfl rfl ((congrFun zq8 61).trans (s2_n (by decide))) (by omega) (by omega) (tX11_begin_1_ok (102, .iastore, 1) (List.mem_of_getElem? (i := 1) rfl)) (fun zh13 zI14 zq15 zz16 zf17 => ?_)
      refine w_iinc (fun zv18 => [(3, .int zv18), (0, .ref (ad 50)), (1, .long seed)]) (fun _ => rfl) (List.Mem.head _) (Nat.le_of_ble_eq_true rfl) (by decide) (by omega) (by omega) (tX11_begin_1_ok (103, .iinc 3 1, 3) (List.mem_of_getElem? (i := 2) rfl)) (fun zv18 ze19 => ?_)
      refine w_goto (tgt := 83) (tX11_begin_1_ok (106, .goto (-23), 3) (List.mem_of_getElem? (i := 3) rfl)) rfl ?_
      have c60 := (((congrFun zq15 60).trans (s2_n (by decide))).trans ((congrFun zq8 60).trans (s2_s _ _ _)))
      have c61 := ((congrFun zq15 61).trans (s2_s _ _ _))
      refine w_lv [(3, .int zv18), (0, .ref (ad 50)), (1, .long seed)] (by intro q hq; simp only [List.mem_cons, List.not_mem_nil, or_false] at hq ⊢; rcases hq with e | e | e <;> subst e <;> simp) ?_
      refine ih (j9 - 1) (by omega) zh13 zI14 _ (by omega) (by omega) zz16 (fun q a1 => ?_) (fun L n60 n61 => ?_) (fun g2 I2 k2 z1 z2 z3 z4 => hq g2 I2 k2 z1 z2 z3 ((zf10.tr zf17).tr z4))
      · rw [c60, c61]
        by_cases e : q = k.toInt.toNat
        · subst e
          rw [upd_s, upd_s]
          exact ⟨(kn_eq _ _).mpr (ze5.trans (by decide)), (kn_eq _ _).mpr (ze12.trans (by decide))⟩
        · rw [upd_n _ _ e, upd_n _ _ e]
          exact hD q (by omega)
      · rw [zq15, s2_n n61, zq8, s2_n n60]
        exact hI L n60 n61
theorem y_begin (hT : k_tys tys cA) (hz : zr zNM cA ad I W O h) (hp : qz I n ρ) (hf : 2 ≤ fr) (hlo : 60 ≤ lo) (hq : ∀ (g : ch_H) (I1 : zI) (W1 : zW), (∀ q, q < n → (I1 56 q).toInt = ρ q 2 ∧ I1 56 (12 + q) = 1) → (∀ q, (6 ≤ q ∧ q < 12 ∨ 18 ≤ q ∧ q < 39) → I1 56 q = 0) → (∀ q, q < 324 → I1 65 q = 0) → (∀ q, q < 12 → I1 60 q = -1 ∧ I1 61 q = -1) → (I1 50 32 = 0 ∧ I1 50 33 = 0 ∧ I1 50 34 = 0 ∧ I1 50 39 = 0) → (∀ k, k ≠ 32 → k ≠ 33 → k ≠ 34 → k ≠ 39 → I1 50 k = I 50 k) → (∀ L, L ≠ 50 → L ≠ 56 → L ≠ 60 → L ≠ 61 → L ≠ 65 → I1 L = I L) → W1 50 36 = seed → (∀ k, k ≠ 36 → W1 50 k = W 50 k) → zr zNM cA ad I1 W1 O g → zf zNM ad h g → Q none g) : ww l D tys A X fr lo mX11_begin Q 0 [(0, .ref (ad 50)), (1, .long seed)] [] h := by
  have n6 := hp.2.1.1
  have hn0 := hp.1
  refine w_iconst (by decide) (tX11_begin_0_ok (0, .iconst 0, 1) (List.mem_of_getElem? (i := 0) rfl)) (fun zv1 ze2 => ?_)
  refine w_istore_n [(3, .int zv1), (0, .ref (ad 50)), (1, .long seed)] rfl (Nat.le_of_ble_eq_true rfl) (tX11_begin_0_ok (1, .istore_n 3, 1) (List.mem_of_getElem? (i := 1) rfl)) ?_
  refine w_lv [(3, .int zv1), (0, .ref (ad 50)), (1, .long seed)] (by intro q hq; simp only [List.mem_cons, List.not_mem_nil, or_false] at hq ⊢; rcases hq with e | e | e <;> subst e <;> simp) ?_
  refine y_bg1 hT (I0 := I) 39 h I _ (by omega) (by omega) hz (fun q a1 => absurd a1 (by omega)) (fun _ _ => rfl) (fun g1 I1 k1 a1 a2 a3 a4 => ?_)
  refine w_iconst (by decide) (tX11_begin_0_ok (21, .iconst 0, 1) (List.mem_of_getElem? (i := 12) rfl)) (fun zv3 ze4 => ?_)
  refine w_istore_n [(3, .int zv3), (0, .ref (ad 50)), (1, .long seed)] rfl (Nat.le_of_ble_eq_true rfl) (tX11_begin_0_ok (22, .istore_n 3, 1) (List.mem_of_getElem? (i := 13) rfl)) ?_
  refine w_lv [(3, .int zv3), (0, .ref (ad 50)), (1, .long seed)] (by intro q hq; simp only [List.mem_cons, List.not_mem_nil, or_false] at hq ⊢; rcases hq with e | e | e <;> subst e <;> simp) ?_
  have hp1 : qz I1 n ρ := hp.mv (by rw [a2 50 (by decide)]) (a2 55 (by decide))
  refine y_bg2 hT (I0 := I1) hp1 (by omega) (by omega) n g1 I1 _ (by omega) (by omega) a3 (fun q b1 => absurd b1 (by omega)) (fun q b1 => a1 q (by omega)) (fun _ _ => rfl) (fun g2 I2 k2 b1 b9 b2 b3 b4 => ?_)
  refine w_iconst (by decide) (tX11_begin_0_ok (59, .iconst 0, 1) (List.mem_of_getElem? (i := 35) rfl)) (fun zv5 ze6 => ?_)
  refine w_istore_n [(3, .int zv5), (0, .ref (ad 50)), (1, .long seed)] rfl (Nat.le_of_ble_eq_true rfl) (tX11_begin_0_ok (60, .istore_n 3, 1) (List.mem_of_getElem? (i := 36) rfl)) ?_
  refine w_lv [(3, .int zv5), (0, .ref (ad 50)), (1, .long seed)] (by intro q hq; simp only [List.mem_cons, List.not_mem_nil, or_false] at hq ⊢; rcases hq with e | e | e <;> subst e <;> simp) ?_
  refine y_bg3 hT (I0 := I2) 324 g2 I2 _ (by omega) (by omega) b3 (fun q b1 => absurd b1 (by omega)) (fun _ _ => rfl) (fun g3 I3 k3 d1 d2 d3 d4 => ?_)
  refine w_iconst (by decide) (tX11_begin_0_ok (81, .iconst 0, 1) (List.mem_of_getElem? (i := 47) rfl)) (fun zv7 ze8 => ?_)
  refine w_istore_n [(3, .int zv7), (0, .ref (ad 50)), (1, .long seed)] rfl (Nat.le_of_ble_eq_true rfl) (tX11_begin_0_ok (82, .istore_n 3, 1) (List.mem_of_getElem? (i := 48) rfl)) ?_
  refine w_lv [(3, .int zv7), (0, .ref (ad 50)), (1, .long seed)] (by intro q hq; simp only [List.mem_cons, List.not_mem_nil, or_false] at hq ⊢; rcases hq with e | e | e <;> subst e <;> simp) ?_
  refine y_bg4 hT (I0 := I3) 12 g3 I3 _ (by omega) (by omega) d3 (fun q b1 => absurd b1 (by omega)) (fun _ _ _ => rfl) (fun g4 I4 k4 e1 e2 e3 e4 => ?_)
  refine w_aload_n (List.Mem.tail _ (List.Mem.head _)) (tX11_begin_1_ok (109, .aload_n 0, 1) (List.mem_of_getElem? (i := 4) rfl)) ?_
  refine w_iconst (by decide) (tX11_begin_1_ok (110, .iconst 0, 1) (List.mem_of_getElem? (i := 5) rfl)) (fun zv9 ze10 => ?_)
  refine z_put (f := (I4 50)) (own := 16) (k := 32) e3 rfl rfl rfl rfl rfl rfl rfl (by decide) rfl ⟨rfl, rfl⟩ (tX11_begin_1_ok (111, .putfield 258, 3) (List.mem_of_getElem? (i := 6) rfl)) (fun zh11 zI12 zq13 zz14 zf15 => ?_)
  refine w_aload_n (List.Mem.tail _ (List.Mem.head _)) (tX11_begin_1_ok (114, .aload_n 0, 1) (List.mem_of_getElem? (i := 7) rfl)) ?_
  refine w_iconst (by decide) (tX11_begin_1_ok (115, .iconst 0, 1) (List.mem_of_getElem? (i := 8) rfl)) (fun zv16 ze17 => ?_)
  refine z_put (f := (upd (I4 50) 32 zv9)) (own := 16) (k := 33) zz14 rfl rfl rfl rfl ((congrFun zq13 50).trans (s2_s _ _ _)) rfl rfl (by decide) rfl ⟨rfl, rfl⟩ (tX11_begin_1_ok (116, .putfield 261, 3) (List.mem_of_getElem? (i := 9) rfl)) (fun zh18 zI19 zq20 zz21 zf22 => ?_)
  refine w_aload_n (List.Mem.tail _ (List.Mem.head _)) (tX11_begin_1_ok (119, .aload_n 0, 1) (List.mem_of_getElem? (i := 10) rfl)) ?_
  refine w_iconst (by decide) (tX11_begin_1_ok (120, .iconst 0, 1) (List.mem_of_getElem? (i := 11) rfl)) (fun zv23 ze24 => ?_)
  refine z_put (f := (upd (upd (I4 50) 32 zv9) 33 zv16)) (own := 16) (k := 34) zz21 rfl rfl rfl rfl ((congrFun zq20 50).trans (s2_s _ _ _)) rfl rfl (by decide) rfl ⟨rfl, rfl⟩ (tX11_begin_1_ok (121, .putfield 264, 3) (List.mem_of_getElem? (i := 12) rfl)) (fun zh25 zI26 zq27 zz28 zf29 => ?_)
  refine w_aload_n (List.Mem.tail _ (List.Mem.head _)) (tX11_begin_1_ok (124, .aload_n 0, 1) (List.mem_of_getElem? (i := 13) rfl)) ?_
  refine w_iconst (by decide) (tX11_begin_1_ok (125, .iconst 0, 1) (List.mem_of_getElem? (i := 14) rfl)) (fun zv30 ze31 => ?_)
  refine z_put (f := (upd (upd (upd (I4 50) 32 zv9) 33 zv16) 34 zv23)) (own := 16) (k := 39) zz28 rfl rfl rfl rfl ((congrFun zq27 50).trans (s2_s _ _ _)) rfl rfl (by decide) rfl ⟨(kn_nz (by omega) (by omega)).1, (kn_nz (by omega) (by omega)).2.1⟩ (tX11_begin_1_ok (126, .putfield 267, 3) (List.mem_of_getElem? (i := 15) rfl)) (fun zh32 zI33 zq34 zz35 zf36 => ?_)
  refine w_aload_n (List.Mem.tail _ (List.Mem.head _)) (tX11_begin_1_ok (129, .aload_n 0, 1) (List.mem_of_getElem? (i := 16) rfl)) ?_
  refine w_lload_n (List.Mem.tail _ (List.Mem.tail _ (List.Mem.head _))) (tX11_begin_1_ok (130, .lload_n 1, 1) (List.mem_of_getElem? (i := 17) rfl)) ?_
  refine z_putJ (w := (W 50)) (own := 16) (k := 36) zz35 rfl rfl rfl rfl rfl rfl rfl (by decide) rfl ⟨rfl, rfl⟩ (tX11_begin_1_ok (131, .putfield 270, 3) (List.mem_of_getElem? (i := 18) rfl)) (fun zh37 zI38 zq39 zz40 zf41 => ?_)
  refine w_vret rfl (tX11_begin_1_ok (134, .return_, 1) (List.mem_of_getElem? (i := 19) rfl)) ?_
  have c5 := ((congrFun zq34 50).trans (s2_s _ _ _))
  have cw := ((congrFun zq39 50).trans (s2_s _ _ _))
  have e50 : I4 50 = I 50 := by rw [e2 50 (by decide) (by decide), d2 50 (by decide), b2 50 (by decide), a2 50 (by decide)]
  have oo : ∀ L, L ≠ 50 → zI33 L = I4 L := fun L hL => by rw [zq34, s2_n hL, zq27, s2_n hL, zq20, s2_n hL, zq13, s2_n hL]
  refine hq _ zI33 zI38 (fun q hq9 => ?_) (fun q hq9 => ?_) (fun q hq9 => ?_) (fun q hq9 => ?_) ⟨?_, ?_, ?_, ?_⟩ (fun k h32 h33 h34 h39 => ?_) (fun L n5 n6 n7 n8 n9 => ?_) ?_ (fun k hk => ?_) zz40 (a4.tr (b4.tr (d4.tr (e4.tr ((((zf15.tr zf22).tr zf29).tr zf36).tr zf41)))))
  · rw [oo 56 (by decide), e2 56 (by decide) (by decide), d2 56 (by decide)]
    exact b1 q hq9
  · rw [oo 56 (by decide), e2 56 (by decide) (by decide), d2 56 (by decide)]
    exact b9 q hq9
  · rw [oo 65 (by decide), e2 65 (by decide) (by decide)]
    exact d1 q hq9
  · rw [oo 60 (by decide), oo 61 (by decide)]
    exact e1 q hq9
  · rw [c5, upd_n _ _ (by decide), upd_n _ _ (by decide), upd_n _ _ (by decide), upd_s]
    exact (kn_eq _ _).mpr (ze10.trans (by decide))
  · rw [c5, upd_n _ _ (by decide), upd_n _ _ (by decide), upd_s]
    exact (kn_eq _ _).mpr (ze17.trans (by decide))
  · rw [c5, upd_n _ _ (by decide), upd_s]
    exact (kn_eq _ _).mpr (ze24.trans (by decide))
  · rw [c5, upd_s]
    exact (kn_eq _ _).mpr (ze31.trans (by decide))
  · rw [c5, upd_n _ _ h39, upd_n _ _ h34, upd_n _ _ h33, upd_n _ _ h32, e50]
  · rw [oo L n5, e2 L n7 n8, d2 L n9, b2 L n6, a2 L n6]
  · rw [cw, wpd_s]
  · rw [cw, wpd_n _ _ hk]
end
section
variable {τ : aN} {φ : zP} {n : Nat} {ρ : aRw} {seed : Int64} {I I1 : zI} {W W1 : zW}
/-- the reference's store shows a new TOWN -/
theorem rS.new (H7 : I1 50 7 = φ.1 50 7) (hp : qz I1 n ρ) (h1 : ∀ q, q < n → (I1 56 q).toInt = ρ q 2 ∧ I1 56 (12 + q) = 1) (h2 : ∀ q, (6 ≤ q ∧ q < 12 ∨ 18 ≤ q ∧ q < 39) → I1 56 q = 0) (h3 : ∀ q, q < 324 → I1 65 q = 0) (h4 : ∀ q, q < 12 → I1 60 q = -1 ∧ I1 61 q = -1) (h5 : I1 50 32 = 0 ∧ I1 50 33 = 0 ∧ I1 50 34 = 0 ∧ I1 50 39 = 0) (hw : W1 50 36 = seed) : rS (n, 0, 0, 0) (k9_new n ρ seed φ) I1 W1 := by
  have n6 : n ≤ 6 := hp.2.1.1
  obtain ⟨K9, eK⟩ : ∃ K9 : zI, K9 = s2 (s2 (s2 (s2 (s2 φ.1 56 (fun q => if q < n then Int32.ofInt (ρ q 2) else if 12 ≤ q ∧ q < 12 + n then 1 else 0)) 60 (fun _ => -1)) 61 (fun _ => -1)) 65 (fun _ => 0)) 50 (upd (φ.1 50) 39 0) := ⟨_, rfl⟩
  show rS (n, 0, 0, 0) (s2 (s2 (s2 (s2 (s2 φ.1 56 _) 60 _) 61 _) 65 _) 50 _, _, ρ, φ.2.2.2) I1 W1
  rw [← eK]
  have k56 : K9 56 = fun q => if q < n then Int32.ofInt (ρ q 2) else if 12 ≤ q ∧ q < 12 + n then 1 else 0 := by
    rw [eK, s2_n (by decide), s2_n (by decide), s2_n (by decide), s2_n (by decide), s2_s]
  have tz : ∀ q, 6 ≤ q → (q < 12 ∨ 18 ≤ q) → K9 56 q = 0 := fun q hq h9 => by
    rw [k56]
    show (if q < n then _ else if 12 ≤ q ∧ q < 12 + n then (1 : Int32) else 0) = 0
    rw [if_neg (by omega), if_neg (by omega)]
  have t1 : ∀ q, q < n → K9 56 (12 + q) = 1 := fun q hq => by
    rw [k56]
    show (if 12 + q < n then _ else if 12 ≤ 12 + q ∧ 12 + q < 12 + n then (1 : Int32) else 0) = 1
    rw [if_neg (by omega), if_pos (by omega)]
  have k50 : K9 50 = upd (φ.1 50) 39 0 := by rw [eK, s2_s]
  refine ⟨hp, ⟨by rw [h5.1]; rfl, by rw [h5.2.1]; rfl, by rw [h5.2.2.1]; rfl⟩, ⟨⟨fun q hq => ?_, fun q hq => ?_, fun i hi => absurd hi (Nat.not_lt_zero i), ?_⟩, ?_⟩, fun g hg => absurd hg (Nat.not_lt_zero g), fun a b ha hb => ?_, fun i hi => absurd hi (Nat.not_lt_zero i), fun i hi => absurd hi (Nat.not_lt_zero i), fun r hr => ?_, ?_, fun z => ?_, ?_⟩
  · show I1 56 q = K9 56 q ∧ I1 56 (6 + q) = K9 56 (6 + q) ∧ I1 56 (12 + q) = K9 56 (12 + q)
    have hq : q < n := hq
    refine ⟨?_, ?_, ?_⟩
    · rw [k56]
      show _ = (if q < n then Int32.ofInt (ρ q 2) else _)
      rw [if_pos hq]
      refine (kn_eq _ _).mpr ?_
      obtain ⟨-, u1, u2, -⟩ := (hp.2.1.2 q hq).1
      rw [(h1 q hq).1, ofInt_b (by omega)]
    · rw [h2 (6 + q) (by omega), tz (6 + q) (by omega) (by omega)]
    · rw [(h1 q hq).2, t1 q hq]
  · show I1 56 (18 + q) = K9 56 (18 + q)
    rw [h2 (18 + q) (by omega), tz (18 + q) (by omega) (by omega)]
  · show I1 56 38 = K9 56 38
    rw [h2 38 (by omega), tz 38 (by omega) (by omega)]
  · show W1 50 36 = (if (36 : Nat) = 36 then seed else φ.2.1 36)
    rw [if_pos rfl]
    exact hw
  · show I1 65 (18 * a + b) = K9 65 (18 * a + b) ∧ 0 ≤ (K9 65 (18 * a + b)).toInt ∧ (K9 65 (18 * a + b)).toInt ≤ 1
    rw [h3 (18 * a + b) (by omega), eK, s2_n (by decide), s2_s]
    exact ⟨rfl, by decide, by decide⟩
  · show I1 60 r = K9 60 r ∧ I1 61 r = K9 61 r
    rw [(h4 r hr).1, (h4 r hr).2, eK, s2_n (by decide), s2_n (by decide), s2_n (by decide), s2_s, s2_n (by decide), s2_n (by decide), s2_s]
    exact ⟨rfl, rfl⟩
  · show (I1 50 39).toInt = (K9 50 39).toInt
    rw [h5.2.2.2, k50, upd_s]
  · have z : (K9 50 39).toInt = 1 := z
    rw [k50, upd_s] at z
    exact absurd z (by decide)
  · show I1 50 7 = K9 50 7
    rw [H7, k50, upd_n _ _ (by decide)]
end
