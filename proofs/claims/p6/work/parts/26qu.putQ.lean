/-! the queries -/
section
variable {l : Launch} {D : va_G} {tys : List (ClassId × FieldType)} {A : Nat → Prop} {X : State → Prop} {fr lo : Nat} {M : ch_M} {Q : Option Value → ch_H → Prop} {pc : Nat} {lv : List (Nat × Value)} {st : List Value} {h : ch_H} {cA : Nat → ClassId} {Sg : Nat → Option Nat} {ad : Nat → Nat} {I0 : zI} {W0 : zW}
theorem x_wayL {p q : Int32} (hT : k_TX tys cA A X) (hl : ∀ L, zNM L = true → Sg (ad L) = some (lbR 50 55 L)) (hf : 70 ≤ fr) (hlo : 3000 ≤ lo) (hp : 0 ≤ q.toInt ∧ q.toInt ≤ 17) (hq : ∀ (g : ch_H) (v : Int32), jX Sg cA ad (jF I0 W0) g → Q (some (.int v)) g) : ∀ (j9 : Nat) (h : ch_H) (k f b : Int32), 0 ≤ k.toInt → k.toInt + j9 = 61 → jX Sg cA ad (jG I0 W0) h → ww l D tys A X fr lo mX11_way Q 37 [(5, .int k), (4, .int f), (3, .int b), (2, .int q), (1, .int p), (0, .ref (ad 50))] [] h := by
  intro j9
  induction j9 using Nat.strongRecOn with
  | ind j9 ih =>
    intro h k f b hj0 hj1 J
    refine w_iload (List.Mem.head _) (tX11_way_0_ok (37, .iload 5, 2) (List.mem_of_getElem? (i := 23) rfl)) ?_
    refine w_bipush (by decide) (tX11_way_0_ok (39, .bipush 60, 2) (List.mem_of_getElem? (i := 24) rfl)) (fun zv1 ze2 => ?_)
    refine w_icmp_gt (tgt := 81) (tX11_way_0_ok (41, .if_icmp .gt 40, 3) (List.mem_of_getElem? (i := 25) rfl)) rfl (fun zb3 => ?_) (fun zb3 => ?_)
    · refine w_aload_n (List.Mem.tail _ (List.Mem.tail _ (List.Mem.tail _ (List.Mem.tail _ (List.Mem.tail _ (List.Mem.head _)))))) (tX11_way_0_ok (81, .aload_n 0, 1) (List.mem_of_getElem? (i := 45) rfl)) ?_
      obtain ⟨zI4, zW5, zO6, zz7, zH8, zp9⟩ := id J
      refine w_callV (own := 16) (mi := 232) [] [] [(0, .ref (ad 50))] rfl (cllw_X11 (338, 0, 232) (List.mem_of_getElem? (i := 53) rfl)) rfl rfl (zz7.ob rfl rfl) rfl (by omega) (w_lo (n := 21) rfl (by omega)) (Nat.le_of_ble_eq_true rfl) (Nat.le_of_ble_eq_true rfl) rfl (tX11_way_0_ok (82, .invokevirtual 338, 3) (List.mem_of_getElem? (i := 46) rfl)) (x_putBack hT.1 hl J (fun zh10 zJ11 => ?_))
      show ww l D tys A X fr lo mX11_way Q 85 [(5, .int k), (4, .int f), (3, .int b), (2, .int q), (1, .int p), (0, .ref (ad 50))] [] zh10
      refine w_iload (List.Mem.tail _ (List.Mem.head _)) (tX11_way_0_ok (85, .iload 4, 2) (List.mem_of_getElem? (i := 47) rfl)) ?_
      refine w_iret rfl (tX11_way_0_ok (87, .ireturn, 1) (List.mem_of_getElem? (i := 48) rfl)) ?_
      exact hq _ _ zJ11
    · refine w_iload (List.Mem.tail _ (List.Mem.head _)) (tX11_way_0_ok (44, .iload 4, 2) (List.mem_of_getElem? (i := 26) rfl)) ?_
      refine w_iconst (by decide) (tX11_way_0_ok (46, .iconst (-1), 1) (List.mem_of_getElem? (i := 27) rfl)) (fun zv12 ze13 => ?_)
      refine w_icmp_ne (tgt := 81) (tX11_way_0_ok (47, .if_icmp .ne 34, 3) (List.mem_of_getElem? (i := 28) rfl)) rfl (fun zb14 => ?_) (fun zb14 => ?_)
      · refine w_aload_n (List.Mem.tail _ (List.Mem.tail _ (List.Mem.tail _ (List.Mem.tail _ (List.Mem.tail _ (List.Mem.head _)))))) (tX11_way_0_ok (81, .aload_n 0, 1) (List.mem_of_getElem? (i := 45) rfl)) ?_
        obtain ⟨zI15, zW16, zO17, zz18, zH19, zp20⟩ := id J
        refine w_callV (own := 16) (mi := 232) [] [] [(0, .ref (ad 50))] rfl (cllw_X11 (338, 0, 232) (List.mem_of_getElem? (i := 53) rfl)) rfl rfl (zz18.ob rfl rfl) rfl (by omega) (w_lo (n := 21) rfl (by omega)) (Nat.le_of_ble_eq_true rfl) (Nat.le_of_ble_eq_true rfl) rfl (tX11_way_0_ok (82, .invokevirtual 338, 3) (List.mem_of_getElem? (i := 46) rfl)) (x_putBack hT.1 hl J (fun zh21 zJ22 => ?_))
        show ww l D tys A X fr lo mX11_way Q 85 [(5, .int k), (4, .int f), (3, .int b), (2, .int q), (1, .int p), (0, .ref (ad 50))] [] zh21
        refine w_iload (List.Mem.tail _ (List.Mem.head _)) (tX11_way_0_ok (85, .iload 4, 2) (List.mem_of_getElem? (i := 47) rfl)) ?_
        refine w_iret rfl (tX11_way_0_ok (87, .ireturn, 1) (List.mem_of_getElem? (i := 48) rfl)) ?_
        exact hq _ _ zJ22
      · refine w_aload_n (List.Mem.tail _ (List.Mem.tail _ (List.Mem.tail _ (List.Mem.tail _ (List.Mem.tail _ (List.Mem.head _)))))) (tX11_way_0_ok (50, .aload_n 0, 1) (List.mem_of_getElem? (i := 29) rfl)) ?_
        refine w_iload_n (List.Mem.tail _ (List.Mem.tail _ (List.Mem.head _))) (tX11_way_0_ok (51, .iload_n 3, 1) (List.mem_of_getElem? (i := 30) rfl)) ?_
        refine z_cI (own := 16) (mi := 241) (Wr := []) [.int b] [] hl J (fun _ _ _ _ a b => jG.q rfl a b) rfl (cllw_X11 (335, 0, 241) (List.mem_of_getElem? (i := 52) rfl)) rfl rfl rfl rfl (sat_153 hT) ⟨⟨_, rfl, rfl, (i32b _).1, (i32b _).2⟩, trivial⟩ rfl (by omega) (Nat.le_trans (m := 2900) (Nat.le_of_ble_eq_true rfl) (by omega)) (Nat.le_of_ble_eq_true rfl) (Nat.le_of_ble_eq_true rfl) (tX11_way_0_ok (52, .invokevirtual 335, 3) (List.mem_of_getElem? (i := 31) rfl)) (fun zv25 zh23 zJ24 zb26 zb27 => ?_)
        show ww l D tys A X fr lo mX11_way Q 55 [(5, .int k), (4, .int f), (3, .int b), (2, .int q), (1, .int p), (0, .ref (ad 50))] [.int zv25] zh23
        refine w_istore_n [(3, .int zv25), (5, .int k), (4, .int f), (2, .int q), (1, .int p), (0, .ref (ad 50))] rfl (Nat.le_of_ble_eq_true rfl) (tX11_way_0_ok (55, .istore_n 3, 1) (List.mem_of_getElem? (i := 32) rfl)) ?_
        refine w_iload_n (List.Mem.head _) (tX11_way_0_ok (56, .iload_n 3, 1) (List.mem_of_getElem? (i := 33) rfl)) ?_
        refine w_iload_n (List.Mem.tail _ (List.Mem.tail _ (List.Mem.tail _ (List.Mem.head _)))) (tX11_way_0_ok (57, .iload_n 2, 1) (List.mem_of_getElem? (i := 34) rfl)) ?_
        refine w_callS (own := 16) (mi := 191) [.int zv25, .int q] [] [(0, .int zv25), (1, .int q)] rfl (cllw_X11 (217, 1, 191) (List.mem_of_getElem? (i := 10) rfl)) rfl rfl (by omega) (w_lo (n := 21) rfl (by omega)) (Nat.le_of_ble_eq_true rfl) (Nat.le_of_ble_eq_true rfl) rfl (tX11_way_0_ok (58, .invokestatic 217, 3) (List.mem_of_getElem? (i := 35) rfl)) (y_hasA (fun zv28 ze29 => ?_))
        show ww l D tys A X fr lo mX11_way Q 61 [(3, .int zv25), (5, .int k), (4, .int f), (2, .int q), (1, .int p), (0, .ref (ad 50))] [.int zv28] zh23
        refine w_if_eq (tgt := 68) (tX11_way_0_ok (61, .ifCond .eq 7, 3) (List.mem_of_getElem? (i := 36) rfl)) rfl (fun zb30 => ?_) (fun zb30 => ?_)
        · refine w_aload_n (List.Mem.tail _ (List.Mem.tail _ (List.Mem.tail _ (List.Mem.tail _ (List.Mem.tail _ (List.Mem.head _)))))) (tX11_way_0_ok (68, .aload_n 0, 1) (List.mem_of_getElem? (i := 39) rfl)) ?_
          refine w_iconst (by decide) (tX11_way_0_ok (69, .iconst 0, 1) (List.mem_of_getElem? (i := 40) rfl)) (fun zv31 ze32 => ?_)
          refine z_cI (own := 16) (mi := 215) (Wr := [(50, 36), (56, 0)]) [.int zv31] [] hl zJ24 (fun _ _ _ _ a b => jG.q rfl a b) rfl (cllw_X11 (307, 0, 215) (List.mem_of_getElem? (i := 42) rfl)) rfl rfl rfl rfl (sat_138 hT) ⟨⟨_, rfl, rfl, (by show (0 : Int) ≤ _; omega), (by show _ ≤ (1 : Int); omega)⟩, trivial⟩ rfl (by omega) (Nat.le_trans (m := 2900) (Nat.le_of_ble_eq_true rfl) (by omega)) (Nat.le_of_ble_eq_true rfl) (Nat.le_of_ble_eq_true rfl) (tX11_way_0_ok (70, .invokevirtual 307, 3) (List.mem_of_getElem? (i := 41) rfl)) (fun zv35 zh33 zJ34 zb36 zb37 => ?_)
          show ww l D tys A X fr lo mX11_way Q 73 [(3, .int zv25), (5, .int k), (4, .int f), (2, .int q), (1, .int p), (0, .ref (ad 50))] [.int zv35] zh33
          refine w_istore [(6, .int zv35), (3, .int zv25), (5, .int k), (4, .int f), (2, .int q), (1, .int p), (0, .ref (ad 50))] rfl (Nat.le_of_ble_eq_true rfl) (tX11_way_0_ok (73, .istore 6, 2) (List.mem_of_getElem? (i := 42) rfl)) ?_
          refine w_iinc (fun zv38 => [(5, .int zv38), (6, .int zv35), (3, .int zv25), (4, .int f), (2, .int q), (1, .int p), (0, .ref (ad 50))]) (fun _ => rfl) (List.Mem.tail _ (List.Mem.tail _ (List.Mem.head _))) (Nat.le_of_ble_eq_true rfl) (by decide) (by omega) (by omega) (tX11_way_0_ok (75, .iinc 5 1, 3) (List.mem_of_getElem? (i := 43) rfl)) (fun zv38 ze39 => ?_)
          refine w_goto (tgt := 37) (tX11_way_0_ok (78, .goto (-41), 3) (List.mem_of_getElem? (i := 44) rfl)) rfl ?_
          refine w_lv [(5, .int zv38), (4, .int f), (3, .int zv25), (2, .int q), (1, .int p), (0, .ref (ad 50))] (by intro q hq; simp only [List.mem_cons, List.not_mem_nil, or_false] at hq ⊢; rcases hq with e | e | e | e | e | e <;> subst e <;> simp) ?_
          exact ih (j9 - 1) (by omega) _ _ _ _ (by omega) (by omega) zJ34
        · refine w_iload (List.Mem.tail _ (List.Mem.head _)) (tX11_way_0_ok (64, .iload 5, 2) (List.mem_of_getElem? (i := 37) rfl)) ?_
          refine w_istore [(4, .int k), (3, .int zv25), (5, .int k), (2, .int q), (1, .int p), (0, .ref (ad 50))] rfl (Nat.le_of_ble_eq_true rfl) (tX11_way_0_ok (66, .istore 4, 2) (List.mem_of_getElem? (i := 38) rfl)) ?_
          refine w_aload_n (List.Mem.tail _ (List.Mem.tail _ (List.Mem.tail _ (List.Mem.tail _ (List.Mem.tail _ (List.Mem.head _)))))) (tX11_way_0_ok (68, .aload_n 0, 1) (List.mem_of_getElem? (i := 39) rfl)) ?_
          refine w_iconst (by decide) (tX11_way_0_ok (69, .iconst 0, 1) (List.mem_of_getElem? (i := 40) rfl)) (fun zv40 ze41 => ?_)
          refine z_cI (own := 16) (mi := 215) (Wr := [(50, 36), (56, 0)]) [.int zv40] [] hl zJ24 (fun _ _ _ _ a b => jG.q rfl a b) rfl (cllw_X11 (307, 0, 215) (List.mem_of_getElem? (i := 42) rfl)) rfl rfl rfl rfl (sat_138 hT) ⟨⟨_, rfl, rfl, (by show (0 : Int) ≤ _; omega), (by show _ ≤ (1 : Int); omega)⟩, trivial⟩ rfl (by omega) (Nat.le_trans (m := 2900) (Nat.le_of_ble_eq_true rfl) (by omega)) (Nat.le_of_ble_eq_true rfl) (Nat.le_of_ble_eq_true rfl) (tX11_way_0_ok (70, .invokevirtual 307, 3) (List.mem_of_getElem? (i := 41) rfl)) (fun zv44 zh42 zJ43 zb45 zb46 => ?_)
          show ww l D tys A X fr lo mX11_way Q 73 [(4, .int k), (3, .int zv25), (5, .int k), (2, .int q), (1, .int p), (0, .ref (ad 50))] [.int zv44] zh42
          refine w_istore [(6, .int zv44), (4, .int k), (3, .int zv25), (5, .int k), (2, .int q), (1, .int p), (0, .ref (ad 50))] rfl (Nat.le_of_ble_eq_true rfl) (tX11_way_0_ok (73, .istore 6, 2) (List.mem_of_getElem? (i := 42) rfl)) ?_
          refine w_iinc (fun zv47 => [(5, .int zv47), (6, .int zv44), (4, .int k), (3, .int zv25), (2, .int q), (1, .int p), (0, .ref (ad 50))]) (fun _ => rfl) (List.Mem.tail _ (List.Mem.tail _ (List.Mem.tail _ (List.Mem.head _)))) (Nat.le_of_ble_eq_true rfl) (by decide) (by omega) (by omega) (tX11_way_0_ok (75, .iinc 5 1, 3) (List.mem_of_getElem? (i := 43) rfl)) (fun zv47 ze48 => ?_)
          refine w_goto (tgt := 37) (tX11_way_0_ok (78, .goto (-41), 3) (List.mem_of_getElem? (i := 44) rfl)) rfl ?_
          refine w_lv [(5, .int zv47), (4, .int k), (3, .int zv25), (2, .int q), (1, .int p), (0, .ref (ad 50))] (by intro q hq; simp only [List.mem_cons, List.not_mem_nil, or_false] at hq ⊢; rcases hq with e | e | e | e | e | e <;> subst e <;> simp) ?_
          exact ih (j9 - 1) (by omega) _ _ _ _ (by omega) (by omega) zJ43
theorem x_way {p q : Int32} (hT : k_TX tys cA A X) (hl : ∀ L, zNM L = true → Sg (ad L) = some (lbR 50 55 L)) (hf : 70 ≤ fr) (hlo : 3000 ≤ lo) (J : jX Sg cA ad (jF I0 W0) h) (hq : ∀ (g : ch_H) (v : Int32), jX Sg cA ad (jF I0 W0) g → Q (some (.int v)) g) : ww l D tys A X fr lo mX11_way Q 0 [(0, .ref (ad 50)), (1, .int p), (2, .int q)] [] h := by
  refine w_aload_n (List.Mem.head _) (tX11_way_0_ok (0, .aload_n 0, 1) (List.mem_of_getElem? (i := 0) rfl)) ?_
  refine w_iconst (by decide) (tX11_way_0_ok (1, .iconst 0, 1) (List.mem_of_getElem? (i := 1) rfl)) (fun zv1 ze2 => ?_)
  refine x_putI (own := 16) (k := 0) (lo1 := -2147483648) (hi1 := 2147483647) hl J (fun _ _ _ e hp => jF.f (k := 0) (by decide) e hp) rfl rfl (i32b _) rfl rfl (by decide) rfl ⟨rfl, rfl⟩ (tX11_way_0_ok (2, .putfield 85, 3) (List.mem_of_getElem? (i := 2) rfl)) (fun zh3 zJ4 => ?_)
  refine w_aload_n (List.Mem.head _) (tX11_way_0_ok (5, .aload_n 0, 1) (List.mem_of_getElem? (i := 3) rfl)) ?_
  refine w_iload_n (List.Mem.tail _ (List.Mem.head _)) (tX11_way_0_ok (6, .iload_n 1, 1) (List.mem_of_getElem? (i := 4) rfl)) ?_
  obtain ⟨zI5, zW6, zO7, zz8, zH9, zp10⟩ := id zJ4
  have zb11 := k5_bd hl zz8 zH9 (k := 20) (lo1 := 0) (hi1 := 6) rfl rfl
  have zb12 := k5_bd hl zz8 zH9 (k := 32) (lo1 := 0) (hi1 := 6) rfl rfl
  refine w_callV (own := 16) (mi := 202) [.int p] [] [(0, .ref (ad 50)), (1, .int p)] rfl (cllw_X11 (317, 0, 202) (List.mem_of_getElem? (i := 47) rfl)) rfl rfl (zz8.ob rfl rfl) rfl (by omega) (w_lo (n := 21) rfl (by omega)) (Nat.le_of_ble_eq_true rfl) (Nat.le_of_ble_eq_true rfl) rfl (tX11_way_0_ok (7, .invokevirtual 317, 3) (List.mem_of_getElem? (i := 5) rfl)) (y_isPlace hT.1 zz8 (n := (zI5 50 20).toInt.toNat) (by omega) (by omega) (ga := (zI5 50 32).toInt.toNat) (by omega) (by omega) (by omega) (w_sub (n := 21) rfl (by omega)) (fun zv13 ze14 => ?_))
  show ww l D tys A X fr lo mX11_way Q 10 [(0, .ref (ad 50)), (1, .int p), (2, .int q)] [.int zv13] zh3
  unfold isPl at ze14
  refine w_if_eq (tgt := 21) (tX11_way_0_ok (10, .ifCond .eq 11, 3) (List.mem_of_getElem? (i := 6) rfl)) rfl (fun zb15 => ?_) (fun zb15 => ?_)
  · refine w_iconst (by decide) (tX11_way_0_ok (21, .iconst (-1), 1) (List.mem_of_getElem? (i := 11) rfl)) (fun zv16 ze17 => ?_)
    refine w_iret rfl (tX11_way_0_ok (22, .ireturn, 1) (List.mem_of_getElem? (i := 12) rfl)) ?_
    exact hq _ _ zJ4
  · refine w_aload_n (List.Mem.head _) (tX11_way_0_ok (13, .aload_n 0, 1) (List.mem_of_getElem? (i := 7) rfl)) ?_
    refine w_iload_n (List.Mem.tail _ (List.Mem.tail _ (List.Mem.head _))) (tX11_way_0_ok (14, .iload_n 2, 1) (List.mem_of_getElem? (i := 8) rfl)) ?_
    obtain ⟨zI18, zW19, zO20, zz21, zH22, zp23⟩ := id zJ4
    have zb24 := k5_bd hl zz21 zH22 (k := 20) (lo1 := 0) (hi1 := 6) rfl rfl
    have zb25 := k5_bd hl zz21 zH22 (k := 32) (lo1 := 0) (hi1 := 6) rfl rfl
    refine w_callV (own := 16) (mi := 202) [.int q] [] [(0, .ref (ad 50)), (1, .int q)] rfl (cllw_X11 (317, 0, 202) (List.mem_of_getElem? (i := 47) rfl)) rfl rfl (zz21.ob rfl rfl) rfl (by omega) (w_lo (n := 21) rfl (by omega)) (Nat.le_of_ble_eq_true rfl) (Nat.le_of_ble_eq_true rfl) rfl (tX11_way_0_ok (15, .invokevirtual 317, 3) (List.mem_of_getElem? (i := 9) rfl)) (y_isPlace hT.1 zz21 (n := (zI18 50 20).toInt.toNat) (by omega) (by omega) (ga := (zI18 50 32).toInt.toNat) (by omega) (by omega) (by omega) (w_sub (n := 21) rfl (by omega)) (fun zv26 ze27 => ?_))
    show ww l D tys A X fr lo mX11_way Q 18 [(0, .ref (ad 50)), (1, .int p), (2, .int q)] [.int zv26] zh3
    unfold isPl at ze27
    refine w_if_ne (tgt := 23) (tX11_way_0_ok (18, .ifCond .ne 5, 3) (List.mem_of_getElem? (i := 10) rfl)) rfl (fun zb28 => ?_) (fun zb28 => ?_)
    · refine w_aload_n (List.Mem.head _) (tX11_way_0_ok (23, .aload_n 0, 1) (List.mem_of_getElem? (i := 13) rfl)) ?_
      obtain ⟨zI29, zW30, zO31, zz32, zH33, zp34⟩ := id zJ4
      refine w_callV (own := 16) (mi := 208) [] [] [(0, .ref (ad 50))] rfl (cllw_X11 (332, 0, 208) (List.mem_of_getElem? (i := 51) rfl)) rfl rfl (zz32.ob rfl rfl) rfl (by omega) (w_lo (n := 21) rfl (by omega)) (Nat.le_of_ble_eq_true rfl) (Nat.le_of_ble_eq_true rfl) rfl (tX11_way_0_ok (24, .invokevirtual 332, 3) (List.mem_of_getElem? (i := 14) rfl)) (x_keeps hT.1 hl zJ4 (fun zh35 zJ36 => ?_))
      show ww l D tys A X fr lo mX11_way Q 27 [(0, .ref (ad 50)), (1, .int p), (2, .int q)] [] zh35
      refine w_iconst (by decide) (tX11_way_0_ok (27, .iconst 1, 1) (List.mem_of_getElem? (i := 15) rfl)) (fun zv37 ze38 => ?_)
      refine w_iload_n (List.Mem.tail _ (List.Mem.head _)) (tX11_way_0_ok (28, .iload_n 1, 1) (List.mem_of_getElem? (i := 16) rfl)) ?_
      refine w_ishl (tX11_way_0_ok (29, .ishl, 1) (List.mem_of_getElem? (i := 17) rfl)) (fun zv39 ze40 => ?_)
      refine w_istore_n [(3, .int zv39), (0, .ref (ad 50)), (1, .int p), (2, .int q)] rfl (Nat.le_of_ble_eq_true rfl) (tX11_way_0_ok (30, .istore_n 3, 1) (List.mem_of_getElem? (i := 18) rfl)) ?_
      refine w_iconst (by decide) (tX11_way_0_ok (31, .iconst (-1), 1) (List.mem_of_getElem? (i := 19) rfl)) (fun zv41 ze42 => ?_)
      refine w_istore [(4, .int zv41), (3, .int zv39), (0, .ref (ad 50)), (1, .int p), (2, .int q)] rfl (Nat.le_of_ble_eq_true rfl) (tX11_way_0_ok (32, .istore 4, 2) (List.mem_of_getElem? (i := 20) rfl)) ?_
      refine w_iconst (by decide) (tX11_way_0_ok (34, .iconst 0, 1) (List.mem_of_getElem? (i := 21) rfl)) (fun zv43 ze44 => ?_)
      refine w_istore [(5, .int zv43), (4, .int zv41), (3, .int zv39), (0, .ref (ad 50)), (1, .int p), (2, .int q)] rfl (Nat.le_of_ble_eq_true rfl) (tX11_way_0_ok (35, .istore 5, 2) (List.mem_of_getElem? (i := 22) rfl)) ?_
      refine w_lv [(5, .int zv43), (4, .int zv41), (3, .int zv39), (2, .int q), (1, .int p), (0, .ref (ad 50))] (by intro q hq; simp only [List.mem_cons, List.not_mem_nil, or_false] at hq ⊢; rcases hq with e | e | e | e | e | e <;> subst e <;> simp) ?_
      exact x_wayL hT hl (by omega) (by omega) (by omega) hq 61 _ _ _ _ (by omega) (by omega) zJ36
    · refine w_iconst (by decide) (tX11_way_0_ok (21, .iconst (-1), 1) (List.mem_of_getElem? (i := 11) rfl)) (fun zv45 ze46 => ?_)
      refine w_iret rfl (tX11_way_0_ok (22, .ireturn, 1) (List.mem_of_getElem? (i := 12) rfl)) ?_
      exact hq _ _ zJ4
theorem x_unseenL {p q n : Int32} (hT : k_TX tys cA A X) (hl : ∀ L, zNM L = true → Sg (ad L) = some (lbR 50 55 L)) (hf : 70 ≤ fr) (hlo : 3000 ≤ lo) (hp : (0 ≤ p.toInt ∧ p.toInt ≤ 17) ∧ (0 ≤ q.toInt ∧ q.toInt ≤ 17) ∧ n.toInt ≤ 60) (hq : ∀ (g : ch_H) (v : Int32), jX Sg cA ad (jF I0 W0) g → Q (some (.int v)) g) : ∀ (j9 : Nat) (h : ch_H) (k f : Int32), 0 ≤ k.toInt → k.toInt + j9 = 61 → jX Sg cA ad (jG I0 W0) h → ww l D tys A X fr lo mX11_unseen Q 50 [(5, .int k), (4, .int f), (3, .int n), (2, .int q), (1, .int p), (0, .ref (ad 50))] [] h := by
  intro j9
  induction j9 using Nat.strongRecOn with
  | ind j9 ih =>
    intro h k f hj0 hj1 J
    refine w_iload (List.Mem.head _) (tX11_unseen_0_ok (50, .iload 5, 2) (List.mem_of_getElem? (i := 27) rfl)) ?_
    refine w_iload_n (List.Mem.tail _ (List.Mem.tail _ (List.Mem.head _))) (tX11_unseen_0_ok (52, .iload_n 3, 1) (List.mem_of_getElem? (i := 28) rfl)) ?_
    refine w_icmp_gt (tgt := 92) (tX11_unseen_0_ok (53, .if_icmp .gt 39, 3) (List.mem_of_getElem? (i := 29) rfl)) rfl (fun zb1 => ?_) (fun zb1 => ?_)
    · refine w_aload_n (List.Mem.tail _ (List.Mem.tail _ (List.Mem.tail _ (List.Mem.tail _ (List.Mem.tail _ (List.Mem.head _)))))) (tX11_unseen_0_ok (92, .aload_n 0, 1) (List.mem_of_getElem? (i := 48) rfl)) ?_
      obtain ⟨zI2, zW3, zO4, zz5, zH6, zp7⟩ := id J
      refine w_callV (own := 16) (mi := 232) [] [] [(0, .ref (ad 50))] rfl (cllw_X11 (338, 0, 232) (List.mem_of_getElem? (i := 53) rfl)) rfl rfl (zz5.ob rfl rfl) rfl (by omega) (w_lo (n := 21) rfl (by omega)) (Nat.le_of_ble_eq_true rfl) (Nat.le_of_ble_eq_true rfl) rfl (tX11_unseen_0_ok (93, .invokevirtual 338, 3) (List.mem_of_getElem? (i := 49) rfl)) (x_putBack hT.1 hl J (fun zh8 zJ9 => ?_))
      show ww l D tys A X fr lo mX11_unseen Q 96 [(5, .int k), (4, .int f), (3, .int n), (2, .int q), (1, .int p), (0, .ref (ad 50))] [] zh8
      refine w_iload (List.Mem.tail _ (List.Mem.head _)) (tX11_unseen_0_ok (96, .iload 4, 2) (List.mem_of_getElem? (i := 50) rfl)) ?_
      refine w_iret rfl (tX11_unseen_0_ok (98, .ireturn, 1) (List.mem_of_getElem? (i := 51) rfl)) ?_
      exact hq _ _ zJ9
    · refine w_iload (List.Mem.tail _ (List.Mem.head _)) (tX11_unseen_0_ok (56, .iload 4, 2) (List.mem_of_getElem? (i := 30) rfl)) ?_
      refine w_iconst (by decide) (tX11_unseen_0_ok (58, .iconst (-1), 1) (List.mem_of_getElem? (i := 31) rfl)) (fun zv10 ze11 => ?_)
      refine w_icmp_ne (tgt := 92) (tX11_unseen_0_ok (59, .if_icmp .ne 33, 3) (List.mem_of_getElem? (i := 32) rfl)) rfl (fun zb12 => ?_) (fun zb12 => ?_)
      · refine w_aload_n (List.Mem.tail _ (List.Mem.tail _ (List.Mem.tail _ (List.Mem.tail _ (List.Mem.tail _ (List.Mem.head _)))))) (tX11_unseen_0_ok (92, .aload_n 0, 1) (List.mem_of_getElem? (i := 48) rfl)) ?_
        obtain ⟨zI13, zW14, zO15, zz16, zH17, zp18⟩ := id J
        refine w_callV (own := 16) (mi := 232) [] [] [(0, .ref (ad 50))] rfl (cllw_X11 (338, 0, 232) (List.mem_of_getElem? (i := 53) rfl)) rfl rfl (zz16.ob rfl rfl) rfl (by omega) (w_lo (n := 21) rfl (by omega)) (Nat.le_of_ble_eq_true rfl) (Nat.le_of_ble_eq_true rfl) rfl (tX11_unseen_0_ok (93, .invokevirtual 338, 3) (List.mem_of_getElem? (i := 49) rfl)) (x_putBack hT.1 hl J (fun zh19 zJ20 => ?_))
        show ww l D tys A X fr lo mX11_unseen Q 96 [(5, .int k), (4, .int f), (3, .int n), (2, .int q), (1, .int p), (0, .ref (ad 50))] [] zh19
        refine w_iload (List.Mem.tail _ (List.Mem.head _)) (tX11_unseen_0_ok (96, .iload 4, 2) (List.mem_of_getElem? (i := 50) rfl)) ?_
        refine w_iret rfl (tX11_unseen_0_ok (98, .ireturn, 1) (List.mem_of_getElem? (i := 51) rfl)) ?_
        exact hq _ _ zJ20
      · refine w_aload_n (List.Mem.tail _ (List.Mem.tail _ (List.Mem.tail _ (List.Mem.tail _ (List.Mem.tail _ (List.Mem.head _)))))) (tX11_unseen_0_ok (62, .aload_n 0, 1) (List.mem_of_getElem? (i := 33) rfl)) ?_
        refine w_iload_n (List.Mem.tail _ (List.Mem.tail _ (List.Mem.tail _ (List.Mem.tail _ (List.Mem.head _))))) (tX11_unseen_0_ok (63, .iload_n 1, 1) (List.mem_of_getElem? (i := 34) rfl)) ?_
        refine z_cI (own := 16) (mi := 192) (Wr := []) [.int p] [] hl J (fun _ _ _ _ a b => jG.q rfl a b) rfl (cllw_X11 (280, 0, 192) (List.mem_of_getElem? (i := 39) rfl)) rfl rfl rfl rfl (sat_110 hT) ⟨⟨_, rfl, rfl, (by show (-1 : Int) ≤ _; omega), (by show _ ≤ (17 : Int); omega)⟩, trivial⟩ rfl (by omega) (Nat.le_trans (m := 2900) (Nat.le_of_ble_eq_true rfl) (by omega)) (Nat.le_of_ble_eq_true rfl) (Nat.le_of_ble_eq_true rfl) (tX11_unseen_0_ok (64, .invokevirtual 280, 3) (List.mem_of_getElem? (i := 35) rfl)) (fun zv23 zh21 zJ22 zb24 zb25 => ?_)
        show ww l D tys A X fr lo mX11_unseen Q 67 [(5, .int k), (4, .int f), (3, .int n), (2, .int q), (1, .int p), (0, .ref (ad 50))] [.int zv23] zh21
        refine w_aload_n (List.Mem.tail _ (List.Mem.tail _ (List.Mem.tail _ (List.Mem.tail _ (List.Mem.tail _ (List.Mem.head _)))))) (tX11_unseen_0_ok (67, .aload_n 0, 1) (List.mem_of_getElem? (i := 36) rfl)) ?_
        refine w_iload_n (List.Mem.tail _ (List.Mem.tail _ (List.Mem.tail _ (List.Mem.head _)))) (tX11_unseen_0_ok (68, .iload_n 2, 1) (List.mem_of_getElem? (i := 37) rfl)) ?_
        refine z_cI (own := 16) (mi := 192) (Wr := []) [.int q] [.int zv23] hl zJ22 (fun _ _ _ _ a b => jG.q rfl a b) rfl (cllw_X11 (280, 0, 192) (List.mem_of_getElem? (i := 39) rfl)) rfl rfl rfl rfl (sat_110 hT) ⟨⟨_, rfl, rfl, (by show (-1 : Int) ≤ _; omega), (by show _ ≤ (17 : Int); omega)⟩, trivial⟩ rfl (by omega) (Nat.le_trans (m := 2900) (Nat.le_of_ble_eq_true rfl) (by omega)) (Nat.le_of_ble_eq_true rfl) (Nat.le_of_ble_eq_true rfl) (tX11_unseen_0_ok (69, .invokevirtual 280, 3) (List.mem_of_getElem? (i := 38) rfl)) (fun zv28 zh26 zJ27 zb29 zb30 => ?_)
        show ww l D tys A X fr lo mX11_unseen Q 72 [(5, .int k), (4, .int f), (3, .int n), (2, .int q), (1, .int p), (0, .ref (ad 50))] [.int zv28, .int zv23] zh26
        refine w_icmp_ne (tgt := 79) (tX11_unseen_0_ok (72, .if_icmp .ne 7, 3) (List.mem_of_getElem? (i := 39) rfl)) rfl (fun zb31 => ?_) (fun zb31 => ?_)
        · refine w_aload_n (List.Mem.tail _ (List.Mem.tail _ (List.Mem.tail _ (List.Mem.tail _ (List.Mem.tail _ (List.Mem.head _)))))) (tX11_unseen_0_ok (79, .aload_n 0, 1) (List.mem_of_getElem? (i := 42) rfl)) ?_
          refine w_iconst (by decide) (tX11_unseen_0_ok (80, .iconst 0, 1) (List.mem_of_getElem? (i := 43) rfl)) (fun zv32 ze33 => ?_)
          refine z_cI (own := 16) (mi := 215) (Wr := [(50, 36), (56, 0)]) [.int zv32] [] hl zJ27 (fun _ _ _ _ a b => jG.q rfl a b) rfl (cllw_X11 (307, 0, 215) (List.mem_of_getElem? (i := 42) rfl)) rfl rfl rfl rfl (sat_138 hT) ⟨⟨_, rfl, rfl, (by show (0 : Int) ≤ _; omega), (by show _ ≤ (1 : Int); omega)⟩, trivial⟩ rfl (by omega) (Nat.le_trans (m := 2900) (Nat.le_of_ble_eq_true rfl) (by omega)) (Nat.le_of_ble_eq_true rfl) (Nat.le_of_ble_eq_true rfl) (tX11_unseen_0_ok (81, .invokevirtual 307, 3) (List.mem_of_getElem? (i := 44) rfl)) (fun zv36 zh34 zJ35 zb37 zb38 => ?_)
          show ww l D tys A X fr lo mX11_unseen Q 84 [(5, .int k), (4, .int f), (3, .int n), (2, .int q), (1, .int p), (0, .ref (ad 50))] [.int zv36] zh34
          refine w_istore [(6, .int zv36), (5, .int k), (4, .int f), (3, .int n), (2, .int q), (1, .int p), (0, .ref (ad 50))] rfl (Nat.le_of_ble_eq_true rfl) (tX11_unseen_0_ok (84, .istore 6, 2) (List.mem_of_getElem? (i := 45) rfl)) ?_
          refine w_iinc (fun zv39 => [(5, .int zv39), (6, .int zv36), (4, .int f), (3, .int n), (2, .int q), (1, .int p), (0, .ref (ad 50))]) (fun _ => rfl) (List.Mem.tail _ (List.Mem.head _)) (Nat.le_of_ble_eq_true rfl) (by decide) (by omega) (by omega) (tX11_unseen_0_ok (86, .iinc 5 1, 3) (List.mem_of_getElem? (i := 46) rfl)) (fun zv39 ze40 => ?_)
          refine w_goto (tgt := 50) (tX11_unseen_0_ok (89, .goto (-39), 3) (List.mem_of_getElem? (i := 47) rfl)) rfl ?_
          refine w_lv [(5, .int zv39), (4, .int f), (3, .int n), (2, .int q), (1, .int p), (0, .ref (ad 50))] (by intro q hq; simp only [List.mem_cons, List.not_mem_nil, or_false] at hq ⊢; rcases hq with e | e | e | e | e | e <;> subst e <;> simp) ?_
          exact ih (j9 - 1) (by omega) _ _ _ (by omega) (by omega) zJ35
        · refine w_iload (List.Mem.head _) (tX11_unseen_0_ok (75, .iload 5, 2) (List.mem_of_getElem? (i := 40) rfl)) ?_
          refine w_istore [(4, .int k), (5, .int k), (3, .int n), (2, .int q), (1, .int p), (0, .ref (ad 50))] rfl (Nat.le_of_ble_eq_true rfl) (tX11_unseen_0_ok (77, .istore 4, 2) (List.mem_of_getElem? (i := 41) rfl)) ?_
          refine w_aload_n (List.Mem.tail _ (List.Mem.tail _ (List.Mem.tail _ (List.Mem.tail _ (List.Mem.tail _ (List.Mem.head _)))))) (tX11_unseen_0_ok (79, .aload_n 0, 1) (List.mem_of_getElem? (i := 42) rfl)) ?_
          refine w_iconst (by decide) (tX11_unseen_0_ok (80, .iconst 0, 1) (List.mem_of_getElem? (i := 43) rfl)) (fun zv41 ze42 => ?_)
          refine z_cI (own := 16) (mi := 215) (Wr := [(50, 36), (56, 0)]) [.int zv41] [] hl zJ27 (fun _ _ _ _ a b => jG.q rfl a b) rfl (cllw_X11 (307, 0, 215) (List.mem_of_getElem? (i := 42) rfl)) rfl rfl rfl rfl (sat_138 hT) ⟨⟨_, rfl, rfl, (by show (0 : Int) ≤ _; omega), (by show _ ≤ (1 : Int); omega)⟩, trivial⟩ rfl (by omega) (Nat.le_trans (m := 2900) (Nat.le_of_ble_eq_true rfl) (by omega)) (Nat.le_of_ble_eq_true rfl) (Nat.le_of_ble_eq_true rfl) (tX11_unseen_0_ok (81, .invokevirtual 307, 3) (List.mem_of_getElem? (i := 44) rfl)) (fun zv45 zh43 zJ44 zb46 zb47 => ?_)
          show ww l D tys A X fr lo mX11_unseen Q 84 [(4, .int k), (5, .int k), (3, .int n), (2, .int q), (1, .int p), (0, .ref (ad 50))] [.int zv45] zh43
          refine w_istore [(6, .int zv45), (4, .int k), (5, .int k), (3, .int n), (2, .int q), (1, .int p), (0, .ref (ad 50))] rfl (Nat.le_of_ble_eq_true rfl) (tX11_unseen_0_ok (84, .istore 6, 2) (List.mem_of_getElem? (i := 45) rfl)) ?_
          refine w_iinc (fun zv48 => [(5, .int zv48), (6, .int zv45), (4, .int k), (3, .int n), (2, .int q), (1, .int p), (0, .ref (ad 50))]) (fun _ => rfl) (List.Mem.tail _ (List.Mem.tail _ (List.Mem.head _))) (Nat.le_of_ble_eq_true rfl) (by decide) (by omega) (by omega) (tX11_unseen_0_ok (86, .iinc 5 1, 3) (List.mem_of_getElem? (i := 46) rfl)) (fun zv48 ze49 => ?_)
          refine w_goto (tgt := 50) (tX11_unseen_0_ok (89, .goto (-39), 3) (List.mem_of_getElem? (i := 47) rfl)) rfl ?_
          refine w_lv [(5, .int zv48), (4, .int k), (3, .int n), (2, .int q), (1, .int p), (0, .ref (ad 50))] (by intro q hq; simp only [List.mem_cons, List.not_mem_nil, or_false] at hq ⊢; rcases hq with e | e | e | e | e | e <;> subst e <;> simp) ?_
          exact ih (j9 - 1) (by omega) _ _ _ (by omega) (by omega) zJ44
theorem x_unseen {p q n : Int32} (hT : k_TX tys cA A X) (hl : ∀ L, zNM L = true → Sg (ad L) = some (lbR 50 55 L)) (hf : 70 ≤ fr) (hlo : 3000 ≤ lo) (J : jX Sg cA ad (jF I0 W0) h) (hq : ∀ (g : ch_H) (v : Int32), jX Sg cA ad (jF I0 W0) g → Q (some (.int v)) g) : ww l D tys A X fr lo mX11_unseen Q 0 [(0, .ref (ad 50)), (1, .int p), (2, .int q), (3, .int n)] [] h := by
  refine w_aload_n (List.Mem.head _) (tX11_unseen_0_ok (0, .aload_n 0, 1) (List.mem_of_getElem? (i := 0) rfl)) ?_
  refine w_iconst (by decide) (tX11_unseen_0_ok (1, .iconst 0, 1) (List.mem_of_getElem? (i := 1) rfl)) (fun zv1 ze2 => ?_)
  refine x_putI (own := 16) (k := 0) (lo1 := -2147483648) (hi1 := 2147483647) hl J (fun _ _ _ e hp => jF.f (k := 0) (by decide) e hp) rfl rfl (i32b _) rfl rfl (by decide) rfl ⟨rfl, rfl⟩ (tX11_unseen_0_ok (2, .putfield 85, 3) (List.mem_of_getElem? (i := 2) rfl)) (fun zh3 zJ4 => ?_)
  refine w_aload_n (List.Mem.head _) (tX11_unseen_0_ok (5, .aload_n 0, 1) (List.mem_of_getElem? (i := 3) rfl)) ?_
  refine w_iload_n (List.Mem.tail _ (List.Mem.head _)) (tX11_unseen_0_ok (6, .iload_n 1, 1) (List.mem_of_getElem? (i := 4) rfl)) ?_
  obtain ⟨zI5, zW6, zO7, zz8, zH9, zp10⟩ := id zJ4
  have zb11 := k5_bd hl zz8 zH9 (k := 20) (lo1 := 0) (hi1 := 6) rfl rfl
  refine w_callV (own := 16) (mi := 203) [.int p] [] [(0, .ref (ad 50)), (1, .int p)] rfl (cllw_X11 (274, 0, 203) (List.mem_of_getElem? (i := 38) rfl)) rfl rfl (zz8.ob rfl rfl) rfl (by omega) (w_lo (n := 21) rfl (by omega)) (Nat.le_of_ble_eq_true rfl) (Nat.le_of_ble_eq_true rfl) rfl (tX11_unseen_0_ok (7, .invokevirtual 274, 3) (List.mem_of_getElem? (i := 5) rfl)) (y_isRoom hT.1 zz8 (n := (zI5 50 20).toInt.toNat) (by omega) (by omega)  (fun zv12 ze13 => ?_))
  show ww l D tys A X fr lo mX11_unseen Q 10 [(0, .ref (ad 50)), (1, .int p), (2, .int q), (3, .int n)] [.int zv12] zh3
  refine w_if_eq (tgt := 36) (tX11_unseen_0_ok (10, .ifCond .eq 26, 3) (List.mem_of_getElem? (i := 6) rfl)) rfl (fun zb14 => ?_) (fun zb14 => ?_)
  · refine w_ldcwA (v := -1000000) (wA6 182 rfl rfl) (tX11_unseen_0_ok (36, .ldc_w 292, 3) (List.mem_of_getElem? (i := 19) rfl)) (fun zv15 => ?_)
    refine w_iret rfl (tX11_unseen_0_ok (39, .ireturn, 1) (List.mem_of_getElem? (i := 20) rfl)) ?_
    exact hq _ _ zJ4
  · refine w_aload_n (List.Mem.head _) (tX11_unseen_0_ok (13, .aload_n 0, 1) (List.mem_of_getElem? (i := 7) rfl)) ?_
    refine w_iload_n (List.Mem.tail _ (List.Mem.tail _ (List.Mem.head _))) (tX11_unseen_0_ok (14, .iload_n 2, 1) (List.mem_of_getElem? (i := 8) rfl)) ?_
    obtain ⟨zI16, zW17, zO18, zz19, zH20, zp21⟩ := id zJ4
    have zb22 := k5_bd hl zz19 zH20 (k := 20) (lo1 := 0) (hi1 := 6) rfl rfl
    refine w_callV (own := 16) (mi := 203) [.int q] [] [(0, .ref (ad 50)), (1, .int q)] rfl (cllw_X11 (274, 0, 203) (List.mem_of_getElem? (i := 38) rfl)) rfl rfl (zz19.ob rfl rfl) rfl (by omega) (w_lo (n := 21) rfl (by omega)) (Nat.le_of_ble_eq_true rfl) (Nat.le_of_ble_eq_true rfl) rfl (tX11_unseen_0_ok (15, .invokevirtual 274, 3) (List.mem_of_getElem? (i := 9) rfl)) (y_isRoom hT.1 zz19 (n := (zI16 50 20).toInt.toNat) (by omega) (by omega)  (fun zv23 ze24 => ?_))
    show ww l D tys A X fr lo mX11_unseen Q 18 [(0, .ref (ad 50)), (1, .int p), (2, .int q), (3, .int n)] [.int zv23] zh3
    refine w_if_eq (tgt := 36) (tX11_unseen_0_ok (18, .ifCond .eq 18, 3) (List.mem_of_getElem? (i := 10) rfl)) rfl (fun zb25 => ?_) (fun zb25 => ?_)
    · refine w_ldcwA (v := -1000000) (wA6 182 rfl rfl) (tX11_unseen_0_ok (36, .ldc_w 292, 3) (List.mem_of_getElem? (i := 19) rfl)) (fun zv26 => ?_)
      refine w_iret rfl (tX11_unseen_0_ok (39, .ireturn, 1) (List.mem_of_getElem? (i := 20) rfl)) ?_
      exact hq _ _ zJ4
    · refine w_iload_n (List.Mem.tail _ (List.Mem.head _)) (tX11_unseen_0_ok (21, .iload_n 1, 1) (List.mem_of_getElem? (i := 11) rfl)) ?_
      refine w_iload_n (List.Mem.tail _ (List.Mem.tail _ (List.Mem.head _))) (tX11_unseen_0_ok (22, .iload_n 2, 1) (List.mem_of_getElem? (i := 12) rfl)) ?_
      refine w_icmp_eq (tgt := 36) (tX11_unseen_0_ok (23, .if_icmp .eq 13, 3) (List.mem_of_getElem? (i := 13) rfl)) rfl (fun zb27 => ?_) (fun zb27 => ?_)
      · refine w_ldcwA (v := -1000000) (wA6 182 rfl rfl) (tX11_unseen_0_ok (36, .ldc_w 292, 3) (List.mem_of_getElem? (i := 19) rfl)) (fun zv28 => ?_)
        refine w_iret rfl (tX11_unseen_0_ok (39, .ireturn, 1) (List.mem_of_getElem? (i := 20) rfl)) ?_
        exact hq _ _ zJ4
      · refine w_iload_n (List.Mem.tail _ (List.Mem.tail _ (List.Mem.tail _ (List.Mem.head _)))) (tX11_unseen_0_ok (26, .iload_n 3, 1) (List.mem_of_getElem? (i := 14) rfl)) ?_
        refine w_iconst (by decide) (tX11_unseen_0_ok (27, .iconst 0, 1) (List.mem_of_getElem? (i := 15) rfl)) (fun zv29 ze30 => ?_)
        refine w_bipush (by decide) (tX11_unseen_0_ok (28, .bipush 60, 2) (List.mem_of_getElem? (i := 16) rfl)) (fun zv31 ze32 => ?_)
        refine w_callS (own := 16) (mi := 199) [.int n, .int zv29, .int zv31] [] [(0, .int n), (1, .int zv29), (2, .int zv31)] rfl (cllw_X11 (207, 1, 199) (List.mem_of_getElem? (i := 2) rfl)) rfl rfl (by omega) (w_lo (n := 22) rfl (by omega)) (Nat.le_of_ble_eq_true rfl) (Nat.le_of_ble_eq_true rfl) rfl (tX11_unseen_0_ok (30, .invokestatic 207, 3) (List.mem_of_getElem? (i := 17) rfl)) (r_isIn (fun zv33 ze34 => ?_))
        show ww l D tys A X fr lo mX11_unseen Q 33 [(0, .ref (ad 50)), (1, .int p), (2, .int q), (3, .int n)] [.int zv33] zh3
        refine w_if_ne (tgt := 40) (tX11_unseen_0_ok (33, .ifCond .ne 7, 3) (List.mem_of_getElem? (i := 18) rfl)) rfl (fun zb35 => ?_) (fun zb35 => ?_)
        · refine w_aload_n (List.Mem.head _) (tX11_unseen_0_ok (40, .aload_n 0, 1) (List.mem_of_getElem? (i := 21) rfl)) ?_
          obtain ⟨zI36, zW37, zO38, zz39, zH40, zp41⟩ := id zJ4
          refine w_callV (own := 16) (mi := 208) [] [] [(0, .ref (ad 50))] rfl (cllw_X11 (332, 0, 208) (List.mem_of_getElem? (i := 51) rfl)) rfl rfl (zz39.ob rfl rfl) rfl (by omega) (w_lo (n := 21) rfl (by omega)) (Nat.le_of_ble_eq_true rfl) (Nat.le_of_ble_eq_true rfl) rfl (tX11_unseen_0_ok (41, .invokevirtual 332, 3) (List.mem_of_getElem? (i := 22) rfl)) (x_keeps hT.1 hl zJ4 (fun zh42 zJ43 => ?_))
          show ww l D tys A X fr lo mX11_unseen Q 44 [(0, .ref (ad 50)), (1, .int p), (2, .int q), (3, .int n)] [] zh42
          refine w_iconst (by decide) (tX11_unseen_0_ok (44, .iconst (-1), 1) (List.mem_of_getElem? (i := 23) rfl)) (fun zv44 ze45 => ?_)
          refine w_istore [(4, .int zv44), (0, .ref (ad 50)), (1, .int p), (2, .int q), (3, .int n)] rfl (Nat.le_of_ble_eq_true rfl) (tX11_unseen_0_ok (45, .istore 4, 2) (List.mem_of_getElem? (i := 24) rfl)) ?_
          refine w_iconst (by decide) (tX11_unseen_0_ok (47, .iconst 0, 1) (List.mem_of_getElem? (i := 25) rfl)) (fun zv46 ze47 => ?_)
          refine w_istore [(5, .int zv46), (4, .int zv44), (0, .ref (ad 50)), (1, .int p), (2, .int q), (3, .int n)] rfl (Nat.le_of_ble_eq_true rfl) (tX11_unseen_0_ok (48, .istore 5, 2) (List.mem_of_getElem? (i := 26) rfl)) ?_
          refine w_lv [(5, .int zv46), (4, .int zv44), (3, .int n), (2, .int q), (1, .int p), (0, .ref (ad 50))] (by intro q hq; simp only [List.mem_cons, List.not_mem_nil, or_false] at hq ⊢; rcases hq with e | e | e | e | e | e <;> subst e <;> simp) ?_
          exact x_unseenL hT hl (by omega) (by omega) (by omega) hq 61 _ _ _ (by omega) (by omega) zJ43
        · refine w_ldcwA (v := -1000000) (wA6 182 rfl rfl) (tX11_unseen_0_ok (36, .ldc_w 292, 3) (List.mem_of_getElem? (i := 19) rfl)) (fun zv48 => ?_)
          refine w_iret rfl (tX11_unseen_0_ok (39, .ireturn, 1) (List.mem_of_getElem? (i := 20) rfl)) ?_
          exact hq _ _ zJ4
theorem x_oftenL {p q n w : Int32} (hT : k_TX tys cA A X) (hl : ∀ L, zNM L = true → Sg (ad L) = some (lbR 50 55 L)) (hf : 70 ≤ fr) (hlo : 3000 ≤ lo) (hp : (0 ≤ p.toInt ∧ p.toInt ≤ 17) ∧ (0 ≤ q.toInt ∧ q.toInt ≤ 17) ∧ n.toInt ≤ 60) (hq : ∀ (g : ch_H) (v : Int32), jX Sg cA ad (jF I0 W0) g → Q (some (.int v)) g) : ∀ (j9 : Nat) (h : ch_H) (k c b a : Int32), 0 ≤ a.toInt ∧ a.toInt ≤ k.toInt → k.toInt + j9 = 61 → jX Sg cA ad (jG I0 W0) h → ww l D tys A X fr lo mX11_often Q 54 [(8, .int k), (7, .int c), (6, .int b), (5, .int a), (4, .int w), (3, .int n), (2, .int q), (1, .int p), (0, .ref (ad 50))] [] h := by
  intro j9
  induction j9 using Nat.strongRecOn with
  | ind j9 ih =>
    intro h k c b a hj0 hj1 J
    refine w_iload (List.Mem.head _) (tX11_often_0_ok (54, .iload 8, 2) (List.mem_of_getElem? (i := 30) rfl)) ?_
    refine w_iload_n (List.Mem.tail _ (List.Mem.tail _ (List.Mem.tail _ (List.Mem.tail _ (List.Mem.tail _ (List.Mem.head _)))))) (tX11_often_0_ok (56, .iload_n 3, 1) (List.mem_of_getElem? (i := 31) rfl)) ?_
    refine w_icmp_gt (tgt := 104) (tX11_often_0_ok (57, .if_icmp .gt 47, 3) (List.mem_of_getElem? (i := 32) rfl)) rfl (fun zb1 => ?_) (fun zb1 => ?_)
    · refine w_aload_n (List.Mem.tail _ (List.Mem.tail _ (List.Mem.tail _ (List.Mem.tail _ (List.Mem.tail _ (List.Mem.tail _ (List.Mem.tail _ (List.Mem.tail _ (List.Mem.head _))))))))) (tX11_often_0_ok (104, .aload_n 0, 1) (List.mem_of_getElem? (i := 54) rfl)) ?_
      obtain ⟨zI2, zW3, zO4, zz5, zH6, zp7⟩ := id J
      refine w_callV (own := 16) (mi := 232) [] [] [(0, .ref (ad 50))] rfl (cllw_X11 (338, 0, 232) (List.mem_of_getElem? (i := 53) rfl)) rfl rfl (zz5.ob rfl rfl) rfl (by omega) (w_lo (n := 21) rfl (by omega)) (Nat.le_of_ble_eq_true rfl) (Nat.le_of_ble_eq_true rfl) rfl (tX11_often_0_ok (105, .invokevirtual 338, 3) (List.mem_of_getElem? (i := 55) rfl)) (x_putBack hT.1 hl J (fun zh8 zJ9 => ?_))
      show ww l D tys A X fr lo mX11_often Q 108 [(8, .int k), (7, .int c), (6, .int b), (5, .int a), (4, .int w), (3, .int n), (2, .int q), (1, .int p), (0, .ref (ad 50))] [] zh8
      refine w_iload (List.Mem.tail _ (List.Mem.tail _ (List.Mem.tail _ (List.Mem.tail _ (List.Mem.head _))))) (tX11_often_0_ok (108, .iload 4, 2) (List.mem_of_getElem? (i := 56) rfl)) ?_
      refine w_if_ne (tgt := 118) (tX11_often_0_ok (110, .ifCond .ne 8, 3) (List.mem_of_getElem? (i := 57) rfl)) rfl (fun zb10 => ?_) (fun zb10 => ?_)
      · refine w_iload (List.Mem.tail _ (List.Mem.tail _ (List.Mem.tail _ (List.Mem.tail _ (List.Mem.head _))))) (tX11_often_1_ok (118, .iload 4, 2) (List.mem_of_getElem? (i := 0) rfl)) ?_
        refine w_iconst (by decide) (tX11_often_1_ok (120, .iconst 1, 1) (List.mem_of_getElem? (i := 1) rfl)) (fun zv11 ze12 => ?_)
        refine w_icmp_ne (tgt := 129) (tX11_often_1_ok (121, .if_icmp .ne 8, 3) (List.mem_of_getElem? (i := 2) rfl)) rfl (fun zb13 => ?_) (fun zb13 => ?_)
        · refine w_iload (List.Mem.tail _ (List.Mem.head _)) (tX11_often_1_ok (129, .iload 7, 2) (List.mem_of_getElem? (i := 5) rfl)) ?_
          refine w_iret rfl (tX11_often_1_ok (131, .ireturn, 1) (List.mem_of_getElem? (i := 6) rfl)) ?_
          exact hq _ _ zJ9
        · refine w_iload (List.Mem.tail _ (List.Mem.tail _ (List.Mem.head _))) (tX11_often_1_ok (124, .iload 6, 2) (List.mem_of_getElem? (i := 3) rfl)) ?_
          refine w_goto (tgt := 131) (tX11_often_1_ok (126, .goto 5, 3) (List.mem_of_getElem? (i := 4) rfl)) rfl ?_
          refine w_iret rfl (tX11_often_1_ok (131, .ireturn, 1) (List.mem_of_getElem? (i := 6) rfl)) ?_
          exact hq _ _ zJ9
      · refine w_iload (List.Mem.tail _ (List.Mem.tail _ (List.Mem.tail _ (List.Mem.head _)))) (tX11_often_0_ok (113, .iload 5, 2) (List.mem_of_getElem? (i := 58) rfl)) ?_
        refine w_goto (tgt := 131) (tX11_often_0_ok (115, .goto 16, 3) (List.mem_of_getElem? (i := 59) rfl)) rfl ?_
        refine w_iret rfl (tX11_often_1_ok (131, .ireturn, 1) (List.mem_of_getElem? (i := 6) rfl)) ?_
        exact hq _ _ zJ9
    · refine w_aload_n (List.Mem.tail _ (List.Mem.tail _ (List.Mem.tail _ (List.Mem.tail _ (List.Mem.tail _ (List.Mem.tail _ (List.Mem.tail _ (List.Mem.tail _ (List.Mem.head _))))))))) (tX11_often_0_ok (60, .aload_n 0, 1) (List.mem_of_getElem? (i := 33) rfl)) ?_
      refine w_iload_n (List.Mem.tail _ (List.Mem.tail _ (List.Mem.tail _ (List.Mem.tail _ (List.Mem.tail _ (List.Mem.tail _ (List.Mem.tail _ (List.Mem.head _)))))))) (tX11_often_0_ok (61, .iload_n 1, 1) (List.mem_of_getElem? (i := 34) rfl)) ?_
      refine w_iload_n (List.Mem.tail _ (List.Mem.tail _ (List.Mem.tail _ (List.Mem.tail _ (List.Mem.tail _ (List.Mem.tail _ (List.Mem.head _))))))) (tX11_often_0_ok (62, .iload_n 2, 1) (List.mem_of_getElem? (i := 35) rfl)) ?_
      refine z_cI (own := 16) (mi := 214) (Wr := []) [.int p, .int q] [] hl J (fun _ _ _ _ a b => jG.q rfl a b) rfl (cllw_X11 (323, 0, 214) (List.mem_of_getElem? (i := 48) rfl)) rfl rfl rfl rfl (sat_146 hT) ⟨⟨_, rfl, rfl, (by show (0 : Int) ≤ _; omega), (by show _ ≤ (17 : Int); omega)⟩, ⟨⟨_, rfl, rfl, (by show (0 : Int) ≤ _; omega), (by show _ ≤ (17 : Int); omega)⟩, trivial⟩⟩ rfl (by omega) (Nat.le_trans (m := 2900) (Nat.le_of_ble_eq_true rfl) (by omega)) (Nat.le_of_ble_eq_true rfl) (Nat.le_of_ble_eq_true rfl) (tX11_often_0_ok (63, .invokevirtual 323, 3) (List.mem_of_getElem? (i := 36) rfl)) (fun zv16 zh14 zJ15 zb17 zb18 => ?_)
      show ww l D tys A X fr lo mX11_often Q 66 [(8, .int k), (7, .int c), (6, .int b), (5, .int a), (4, .int w), (3, .int n), (2, .int q), (1, .int p), (0, .ref (ad 50))] [.int zv16] zh14
      refine w_if_eq (tgt := 91) (tX11_often_0_ok (66, .ifCond .eq 25, 3) (List.mem_of_getElem? (i := 37) rfl)) rfl (fun zb19 => ?_) (fun zb19 => ?_)
      · refine w_aload_n (List.Mem.tail _ (List.Mem.tail _ (List.Mem.tail _ (List.Mem.tail _ (List.Mem.tail _ (List.Mem.tail _ (List.Mem.tail _ (List.Mem.tail _ (List.Mem.head _))))))))) (tX11_often_0_ok (91, .aload_n 0, 1) (List.mem_of_getElem? (i := 48) rfl)) ?_
        refine w_iconst (by decide) (tX11_often_0_ok (92, .iconst 0, 1) (List.mem_of_getElem? (i := 49) rfl)) (fun zv20 ze21 => ?_)
        refine z_cI (own := 16) (mi := 215) (Wr := [(50, 36), (56, 0)]) [.int zv20] [] hl zJ15 (fun _ _ _ _ a b => jG.q rfl a b) rfl (cllw_X11 (307, 0, 215) (List.mem_of_getElem? (i := 42) rfl)) rfl rfl rfl rfl (sat_138 hT) ⟨⟨_, rfl, rfl, (by show (0 : Int) ≤ _; omega), (by show _ ≤ (1 : Int); omega)⟩, trivial⟩ rfl (by omega) (Nat.le_trans (m := 2900) (Nat.le_of_ble_eq_true rfl) (by omega)) (Nat.le_of_ble_eq_true rfl) (Nat.le_of_ble_eq_true rfl) (tX11_often_0_ok (93, .invokevirtual 307, 3) (List.mem_of_getElem? (i := 50) rfl)) (fun zv24 zh22 zJ23 zb25 zb26 => ?_)
        show ww l D tys A X fr lo mX11_often Q 96 [(8, .int k), (7, .int c), (6, .int b), (5, .int a), (4, .int w), (3, .int n), (2, .int q), (1, .int p), (0, .ref (ad 50))] [.int zv24] zh22
        refine w_istore [(9, .int zv24), (8, .int k), (7, .int c), (6, .int b), (5, .int a), (4, .int w), (3, .int n), (2, .int q), (1, .int p), (0, .ref (ad 50))] rfl (Nat.le_of_ble_eq_true rfl) (tX11_often_0_ok (96, .istore 9, 2) (List.mem_of_getElem? (i := 51) rfl)) ?_
        refine w_iinc (fun zv27 => [(8, .int zv27), (9, .int zv24), (7, .int c), (6, .int b), (5, .int a), (4, .int w), (3, .int n), (2, .int q), (1, .int p), (0, .ref (ad 50))]) (fun _ => rfl) (List.Mem.tail _ (List.Mem.head _)) (Nat.le_of_ble_eq_true rfl) (by decide) (by omega) (by omega) (tX11_often_0_ok (98, .iinc 8 1, 3) (List.mem_of_getElem? (i := 52) rfl)) (fun zv27 ze28 => ?_)
        refine w_goto (tgt := 54) (tX11_often_0_ok (101, .goto (-47), 3) (List.mem_of_getElem? (i := 53) rfl)) rfl ?_
        refine w_lv [(8, .int zv27), (7, .int c), (6, .int b), (5, .int a), (4, .int w), (3, .int n), (2, .int q), (1, .int p), (0, .ref (ad 50))] (by intro q hq; simp only [List.mem_cons, List.not_mem_nil, or_false] at hq ⊢; rcases hq with e | e | e | e | e | e | e | e | e <;> subst e <;> simp) ?_
        exact ih (j9 - 1) (by omega) _ _ _ _ _ (by omega) (by omega) zJ23
      · refine w_iinc (fun zv29 => [(5, .int zv29), (8, .int k), (7, .int c), (6, .int b), (4, .int w), (3, .int n), (2, .int q), (1, .int p), (0, .ref (ad 50))]) (fun _ => rfl) (List.Mem.tail _ (List.Mem.tail _ (List.Mem.tail _ (List.Mem.head _)))) (Nat.le_of_ble_eq_true rfl) (by decide) (by omega) (by omega) (tX11_often_0_ok (69, .iinc 5 1, 3) (List.mem_of_getElem? (i := 38) rfl)) (fun zv29 ze30 => ?_)
        refine w_iload (List.Mem.tail _ (List.Mem.tail _ (List.Mem.tail _ (List.Mem.head _)))) (tX11_often_0_ok (72, .iload 6, 2) (List.mem_of_getElem? (i := 39) rfl)) ?_
        refine w_iconst (by decide) (tX11_often_0_ok (74, .iconst (-1), 1) (List.mem_of_getElem? (i := 40) rfl)) (fun zv31 ze32 => ?_)
        refine w_icmp_ne (tgt := 83) (tX11_often_0_ok (75, .if_icmp .ne 8, 3) (List.mem_of_getElem? (i := 41) rfl)) rfl (fun zb33 => ?_) (fun zb33 => ?_)
        · refine w_iload (List.Mem.tail _ (List.Mem.tail _ (List.Mem.tail _ (List.Mem.head _)))) (tX11_often_0_ok (83, .iload 6, 2) (List.mem_of_getElem? (i := 44) rfl)) ?_
          refine w_istore [(6, .int b), (5, .int zv29), (8, .int k), (7, .int c), (4, .int w), (3, .int n), (2, .int q), (1, .int p), (0, .ref (ad 50))] rfl (Nat.le_of_ble_eq_true rfl) (tX11_often_0_ok (85, .istore 6, 2) (List.mem_of_getElem? (i := 45) rfl)) ?_
          refine w_iload (List.Mem.tail _ (List.Mem.tail _ (List.Mem.head _))) (tX11_often_0_ok (87, .iload 8, 2) (List.mem_of_getElem? (i := 46) rfl)) ?_
          refine w_istore [(7, .int k), (6, .int b), (5, .int zv29), (8, .int k), (4, .int w), (3, .int n), (2, .int q), (1, .int p), (0, .ref (ad 50))] rfl (Nat.le_of_ble_eq_true rfl) (tX11_often_0_ok (89, .istore 7, 2) (List.mem_of_getElem? (i := 47) rfl)) ?_
          refine w_aload_n (List.Mem.tail _ (List.Mem.tail _ (List.Mem.tail _ (List.Mem.tail _ (List.Mem.tail _ (List.Mem.tail _ (List.Mem.tail _ (List.Mem.tail _ (List.Mem.head _))))))))) (tX11_often_0_ok (91, .aload_n 0, 1) (List.mem_of_getElem? (i := 48) rfl)) ?_
          refine w_iconst (by decide) (tX11_often_0_ok (92, .iconst 0, 1) (List.mem_of_getElem? (i := 49) rfl)) (fun zv34 ze35 => ?_)
          refine z_cI (own := 16) (mi := 215) (Wr := [(50, 36), (56, 0)]) [.int zv34] [] hl zJ15 (fun _ _ _ _ a b => jG.q rfl a b) rfl (cllw_X11 (307, 0, 215) (List.mem_of_getElem? (i := 42) rfl)) rfl rfl rfl rfl (sat_138 hT) ⟨⟨_, rfl, rfl, (by show (0 : Int) ≤ _; omega), (by show _ ≤ (1 : Int); omega)⟩, trivial⟩ rfl (by omega) (Nat.le_trans (m := 2900) (Nat.le_of_ble_eq_true rfl) (by omega)) (Nat.le_of_ble_eq_true rfl) (Nat.le_of_ble_eq_true rfl) (tX11_often_0_ok (93, .invokevirtual 307, 3) (List.mem_of_getElem? (i := 50) rfl)) (fun zv38 zh36 zJ37 zb39 zb40 => ?_)
          show ww l D tys A X fr lo mX11_often Q 96 [(7, .int k), (6, .int b), (5, .int zv29), (8, .int k), (4, .int w), (3, .int n), (2, .int q), (1, .int p), (0, .ref (ad 50))] [.int zv38] zh36
          refine w_istore [(9, .int zv38), (7, .int k), (6, .int b), (5, .int zv29), (8, .int k), (4, .int w), (3, .int n), (2, .int q), (1, .int p), (0, .ref (ad 50))] rfl (Nat.le_of_ble_eq_true rfl) (tX11_often_0_ok (96, .istore 9, 2) (List.mem_of_getElem? (i := 51) rfl)) ?_
          refine w_iinc (fun zv41 => [(8, .int zv41), (9, .int zv38), (7, .int k), (6, .int b), (5, .int zv29), (4, .int w), (3, .int n), (2, .int q), (1, .int p), (0, .ref (ad 50))]) (fun _ => rfl) (List.Mem.tail _ (List.Mem.tail _ (List.Mem.tail _ (List.Mem.tail _ (List.Mem.head _))))) (Nat.le_of_ble_eq_true rfl) (by decide) (by omega) (by omega) (tX11_often_0_ok (98, .iinc 8 1, 3) (List.mem_of_getElem? (i := 52) rfl)) (fun zv41 ze42 => ?_)
          refine w_goto (tgt := 54) (tX11_often_0_ok (101, .goto (-47), 3) (List.mem_of_getElem? (i := 53) rfl)) rfl ?_
          refine w_lv [(8, .int zv41), (7, .int k), (6, .int b), (5, .int zv29), (4, .int w), (3, .int n), (2, .int q), (1, .int p), (0, .ref (ad 50))] (by intro q hq; simp only [List.mem_cons, List.not_mem_nil, or_false] at hq ⊢; rcases hq with e | e | e | e | e | e | e | e | e <;> subst e <;> simp) ?_
          exact ih (j9 - 1) (by omega) _ _ _ _ _ (by omega) (by omega) zJ37
        · refine w_iload (List.Mem.tail _ (List.Mem.head _)) (tX11_often_0_ok (78, .iload 8, 2) (List.mem_of_getElem? (i := 42) rfl)) ?_
          refine w_goto (tgt := 85) (tX11_often_0_ok (80, .goto 5, 3) (List.mem_of_getElem? (i := 43) rfl)) rfl ?_
          refine w_istore [(6, .int k), (5, .int zv29), (8, .int k), (7, .int c), (4, .int w), (3, .int n), (2, .int q), (1, .int p), (0, .ref (ad 50))] rfl (Nat.le_of_ble_eq_true rfl) (tX11_often_0_ok (85, .istore 6, 2) (List.mem_of_getElem? (i := 45) rfl)) ?_
          refine w_iload (List.Mem.tail _ (List.Mem.tail _ (List.Mem.head _))) (tX11_often_0_ok (87, .iload 8, 2) (List.mem_of_getElem? (i := 46) rfl)) ?_
          refine w_istore [(7, .int k), (6, .int k), (5, .int zv29), (8, .int k), (4, .int w), (3, .int n), (2, .int q), (1, .int p), (0, .ref (ad 50))] rfl (Nat.le_of_ble_eq_true rfl) (tX11_often_0_ok (89, .istore 7, 2) (List.mem_of_getElem? (i := 47) rfl)) ?_
          refine w_aload_n (List.Mem.tail _ (List.Mem.tail _ (List.Mem.tail _ (List.Mem.tail _ (List.Mem.tail _ (List.Mem.tail _ (List.Mem.tail _ (List.Mem.tail _ (List.Mem.head _))))))))) (tX11_often_0_ok (91, .aload_n 0, 1) (List.mem_of_getElem? (i := 48) rfl)) ?_
          refine w_iconst (by decide) (tX11_often_0_ok (92, .iconst 0, 1) (List.mem_of_getElem? (i := 49) rfl)) (fun zv43 ze44 => ?_)
          refine z_cI (own := 16) (mi := 215) (Wr := [(50, 36), (56, 0)]) [.int zv43] [] hl zJ15 (fun _ _ _ _ a b => jG.q rfl a b) rfl (cllw_X11 (307, 0, 215) (List.mem_of_getElem? (i := 42) rfl)) rfl rfl rfl rfl (sat_138 hT) ⟨⟨_, rfl, rfl, (by show (0 : Int) ≤ _; omega), (by show _ ≤ (1 : Int); omega)⟩, trivial⟩ rfl (by omega) (Nat.le_trans (m := 2900) (Nat.le_of_ble_eq_true rfl) (by omega)) (Nat.le_of_ble_eq_true rfl) (Nat.le_of_ble_eq_true rfl) (tX11_often_0_ok (93, .invokevirtual 307, 3) (List.mem_of_getElem? (i := 50) rfl)) (fun zv47 zh45 zJ46 zb48 zb49 => ?_)
          show ww l D tys A X fr lo mX11_often Q 96 [(7, .int k), (6, .int k), (5, .int zv29), (8, .int k), (4, .int w), (3, .int n), (2, .int q), (1, .int p), (0, .ref (ad 50))] [.int zv47] zh45
          refine w_istore [(9, .int zv47), (7, .int k), (6, .int k), (5, .int zv29), (8, .int k), (4, .int w), (3, .int n), (2, .int q), (1, .int p), (0, .ref (ad 50))] rfl (Nat.le_of_ble_eq_true rfl) (tX11_often_0_ok (96, .istore 9, 2) (List.mem_of_getElem? (i := 51) rfl)) ?_
          refine w_iinc (fun zv50 => [(8, .int zv50), (9, .int zv47), (7, .int k), (6, .int k), (5, .int zv29), (4, .int w), (3, .int n), (2, .int q), (1, .int p), (0, .ref (ad 50))]) (fun _ => rfl) (List.Mem.tail _ (List.Mem.tail _ (List.Mem.tail _ (List.Mem.tail _ (List.Mem.head _))))) (Nat.le_of_ble_eq_true rfl) (by decide) (by omega) (by omega) (tX11_often_0_ok (98, .iinc 8 1, 3) (List.mem_of_getElem? (i := 52) rfl)) (fun zv50 ze51 => ?_)
          refine w_goto (tgt := 54) (tX11_often_0_ok (101, .goto (-47), 3) (List.mem_of_getElem? (i := 53) rfl)) rfl ?_
          refine w_lv [(8, .int zv50), (7, .int k), (6, .int k), (5, .int zv29), (4, .int w), (3, .int n), (2, .int q), (1, .int p), (0, .ref (ad 50))] (by intro q hq; simp only [List.mem_cons, List.not_mem_nil, or_false] at hq ⊢; rcases hq with e | e | e | e | e | e | e | e | e <;> subst e <;> simp) ?_
          exact ih (j9 - 1) (by omega) _ _ _ _ _ (by omega) (by omega) zJ46
theorem x_often {p q n w : Int32} (hT : k_TX tys cA A X) (hl : ∀ L, zNM L = true → Sg (ad L) = some (lbR 50 55 L)) (hf : 70 ≤ fr) (hlo : 3000 ≤ lo) (J : jX Sg cA ad (jF I0 W0) h) (hq : ∀ (g : ch_H) (v : Int32), jX Sg cA ad (jF I0 W0) g → Q (some (.int v)) g) : ww l D tys A X fr lo mX11_often Q 0 [(0, .ref (ad 50)), (1, .int p), (2, .int q), (3, .int n), (4, .int w)] [] h := by
  refine w_aload_n (List.Mem.head _) (tX11_often_0_ok (0, .aload_n 0, 1) (List.mem_of_getElem? (i := 0) rfl)) ?_
  refine w_iconst (by decide) (tX11_often_0_ok (1, .iconst 0, 1) (List.mem_of_getElem? (i := 1) rfl)) (fun zv1 ze2 => ?_)
  refine x_putI (own := 16) (k := 0) (lo1 := -2147483648) (hi1 := 2147483647) hl J (fun _ _ _ e hp => jF.f (k := 0) (by decide) e hp) rfl rfl (i32b _) rfl rfl (by decide) rfl ⟨rfl, rfl⟩ (tX11_often_0_ok (2, .putfield 85, 3) (List.mem_of_getElem? (i := 2) rfl)) (fun zh3 zJ4 => ?_)
  refine w_aload_n (List.Mem.head _) (tX11_often_0_ok (5, .aload_n 0, 1) (List.mem_of_getElem? (i := 3) rfl)) ?_
  refine w_iload_n (List.Mem.tail _ (List.Mem.head _)) (tX11_often_0_ok (6, .iload_n 1, 1) (List.mem_of_getElem? (i := 4) rfl)) ?_
  refine w_iload_n (List.Mem.tail _ (List.Mem.tail _ (List.Mem.head _))) (tX11_often_0_ok (7, .iload_n 2, 1) (List.mem_of_getElem? (i := 5) rfl)) ?_
  obtain ⟨zI5, zW6, zO7, zz8, zH9, zp10⟩ := id zJ4
  have zb11 := k5_bd hl zz8 zH9 (k := 20) (lo1 := 0) (hi1 := 6) rfl rfl
  have zb12 := k5_bd hl zz8 zH9 (k := 32) (lo1 := 0) (hi1 := 6) rfl rfl
  refine w_callV (own := 16) (mi := 160) [.int p, .int q] [] [(0, .ref (ad 50)), (1, .int p), (2, .int q)] rfl (cllw_X11 (320, 0, 160) (List.mem_of_getElem? (i := 46) rfl)) rfl rfl (zz8.ob rfl rfl) rfl (by omega) (w_lo (n := 22) rfl (by omega)) (Nat.le_of_ble_eq_true rfl) (Nat.le_of_ble_eq_true rfl) rfl (tX11_often_0_ok (8, .invokevirtual 320, 3) (List.mem_of_getElem? (i := 6) rfl)) (y_areTwo hT.1 zz8 (n := (zI5 50 20).toInt.toNat) (by omega) (by omega) (ga := (zI5 50 32).toInt.toNat) (by omega) (by omega) (by omega) (w_sub (n := 22) rfl (by omega)) (fun zv13 ze14 => ?_))
  show ww l D tys A X fr lo mX11_often Q 11 [(0, .ref (ad 50)), (1, .int p), (2, .int q), (3, .int n), (4, .int w)] [.int zv13] zh3
  unfold isPl at ze14
  refine w_if_eq (tgt := 34) (tX11_often_0_ok (11, .ifCond .eq 23, 3) (List.mem_of_getElem? (i := 7) rfl)) rfl (fun zb15 => ?_) (fun zb15 => ?_)
  · refine w_ldcwA (v := -1000000) (wA6 182 rfl rfl) (tX11_often_0_ok (34, .ldc_w 292, 3) (List.mem_of_getElem? (i := 18) rfl)) (fun zv16 => ?_)
    refine w_iret rfl (tX11_often_0_ok (37, .ireturn, 1) (List.mem_of_getElem? (i := 19) rfl)) ?_
    exact hq _ _ zJ4
  · refine w_iload_n (List.Mem.tail _ (List.Mem.tail _ (List.Mem.tail _ (List.Mem.head _)))) (tX11_often_0_ok (14, .iload_n 3, 1) (List.mem_of_getElem? (i := 8) rfl)) ?_
    refine w_iconst (by decide) (tX11_often_0_ok (15, .iconst 0, 1) (List.mem_of_getElem? (i := 9) rfl)) (fun zv17 ze18 => ?_)
    refine w_bipush (by decide) (tX11_often_0_ok (16, .bipush 60, 2) (List.mem_of_getElem? (i := 10) rfl)) (fun zv19 ze20 => ?_)
    refine w_callS (own := 16) (mi := 199) [.int n, .int zv17, .int zv19] [] [(0, .int n), (1, .int zv17), (2, .int zv19)] rfl (cllw_X11 (207, 1, 199) (List.mem_of_getElem? (i := 2) rfl)) rfl rfl (by omega) (w_lo (n := 22) rfl (by omega)) (Nat.le_of_ble_eq_true rfl) (Nat.le_of_ble_eq_true rfl) rfl (tX11_often_0_ok (18, .invokestatic 207, 3) (List.mem_of_getElem? (i := 11) rfl)) (r_isIn (fun zv21 ze22 => ?_))
    show ww l D tys A X fr lo mX11_often Q 21 [(0, .ref (ad 50)), (1, .int p), (2, .int q), (3, .int n), (4, .int w)] [.int zv21] zh3
    refine w_if_eq (tgt := 34) (tX11_often_0_ok (21, .ifCond .eq 13, 3) (List.mem_of_getElem? (i := 12) rfl)) rfl (fun zb23 => ?_) (fun zb23 => ?_)
    · refine w_ldcwA (v := -1000000) (wA6 182 rfl rfl) (tX11_often_0_ok (34, .ldc_w 292, 3) (List.mem_of_getElem? (i := 18) rfl)) (fun zv24 => ?_)
      refine w_iret rfl (tX11_often_0_ok (37, .ireturn, 1) (List.mem_of_getElem? (i := 19) rfl)) ?_
      exact hq _ _ zJ4
    · refine w_iload (List.Mem.tail _ (List.Mem.tail _ (List.Mem.tail _ (List.Mem.tail _ (List.Mem.head _))))) (tX11_often_0_ok (24, .iload 4, 2) (List.mem_of_getElem? (i := 13) rfl)) ?_
      refine w_iconst (by decide) (tX11_often_0_ok (26, .iconst 0, 1) (List.mem_of_getElem? (i := 14) rfl)) (fun zv25 ze26 => ?_)
      refine w_iconst (by decide) (tX11_often_0_ok (27, .iconst 2, 1) (List.mem_of_getElem? (i := 15) rfl)) (fun zv27 ze28 => ?_)
      refine w_callS (own := 16) (mi := 199) [.int w, .int zv25, .int zv27] [] [(0, .int w), (1, .int zv25), (2, .int zv27)] rfl (cllw_X11 (207, 1, 199) (List.mem_of_getElem? (i := 2) rfl)) rfl rfl (by omega) (w_lo (n := 22) rfl (by omega)) (Nat.le_of_ble_eq_true rfl) (Nat.le_of_ble_eq_true rfl) rfl (tX11_often_0_ok (28, .invokestatic 207, 3) (List.mem_of_getElem? (i := 16) rfl)) (r_isIn (fun zv29 ze30 => ?_))
      show ww l D tys A X fr lo mX11_often Q 31 [(0, .ref (ad 50)), (1, .int p), (2, .int q), (3, .int n), (4, .int w)] [.int zv29] zh3
      refine w_if_ne (tgt := 38) (tX11_often_0_ok (31, .ifCond .ne 7, 3) (List.mem_of_getElem? (i := 17) rfl)) rfl (fun zb31 => ?_) (fun zb31 => ?_)
      · refine w_iconst (by decide) (tX11_often_0_ok (38, .iconst 0, 1) (List.mem_of_getElem? (i := 20) rfl)) (fun zv32 ze33 => ?_)
        refine w_istore [(5, .int zv32), (0, .ref (ad 50)), (1, .int p), (2, .int q), (3, .int n), (4, .int w)] rfl (Nat.le_of_ble_eq_true rfl) (tX11_often_0_ok (39, .istore 5, 2) (List.mem_of_getElem? (i := 21) rfl)) ?_
        refine w_iconst (by decide) (tX11_often_0_ok (41, .iconst (-1), 1) (List.mem_of_getElem? (i := 22) rfl)) (fun zv34 ze35 => ?_)
        refine w_istore [(6, .int zv34), (5, .int zv32), (0, .ref (ad 50)), (1, .int p), (2, .int q), (3, .int n), (4, .int w)] rfl (Nat.le_of_ble_eq_true rfl) (tX11_often_0_ok (42, .istore 6, 2) (List.mem_of_getElem? (i := 23) rfl)) ?_
        refine w_iconst (by decide) (tX11_often_0_ok (44, .iconst (-1), 1) (List.mem_of_getElem? (i := 24) rfl)) (fun zv36 ze37 => ?_)
        refine w_istore [(7, .int zv36), (6, .int zv34), (5, .int zv32), (0, .ref (ad 50)), (1, .int p), (2, .int q), (3, .int n), (4, .int w)] rfl (Nat.le_of_ble_eq_true rfl) (tX11_often_0_ok (45, .istore 7, 2) (List.mem_of_getElem? (i := 25) rfl)) ?_
        refine w_aload_n (List.Mem.tail _ (List.Mem.tail _ (List.Mem.tail _ (List.Mem.head _)))) (tX11_often_0_ok (47, .aload_n 0, 1) (List.mem_of_getElem? (i := 26) rfl)) ?_
        obtain ⟨zI38, zW39, zO40, zz41, zH42, zp43⟩ := id zJ4
        refine w_callV (own := 16) (mi := 208) [] [] [(0, .ref (ad 50))] rfl (cllw_X11 (332, 0, 208) (List.mem_of_getElem? (i := 51) rfl)) rfl rfl (zz41.ob rfl rfl) rfl (by omega) (w_lo (n := 21) rfl (by omega)) (Nat.le_of_ble_eq_true rfl) (Nat.le_of_ble_eq_true rfl) rfl (tX11_often_0_ok (48, .invokevirtual 332, 3) (List.mem_of_getElem? (i := 27) rfl)) (x_keeps hT.1 hl zJ4 (fun zh44 zJ45 => ?_))
        show ww l D tys A X fr lo mX11_often Q 51 [(7, .int zv36), (6, .int zv34), (5, .int zv32), (0, .ref (ad 50)), (1, .int p), (2, .int q), (3, .int n), (4, .int w)] [] zh44
        refine w_iconst (by decide) (tX11_often_0_ok (51, .iconst 0, 1) (List.mem_of_getElem? (i := 28) rfl)) (fun zv46 ze47 => ?_)
        refine w_istore [(8, .int zv46), (7, .int zv36), (6, .int zv34), (5, .int zv32), (0, .ref (ad 50)), (1, .int p), (2, .int q), (3, .int n), (4, .int w)] rfl (Nat.le_of_ble_eq_true rfl) (tX11_often_0_ok (52, .istore 8, 2) (List.mem_of_getElem? (i := 29) rfl)) ?_
        refine w_lv [(8, .int zv46), (7, .int zv36), (6, .int zv34), (5, .int zv32), (4, .int w), (3, .int n), (2, .int q), (1, .int p), (0, .ref (ad 50))] (by intro q hq; simp only [List.mem_cons, List.not_mem_nil, or_false] at hq ⊢; rcases hq with e | e | e | e | e | e | e | e | e <;> subst e <;> simp) ?_
        exact x_oftenL hT hl (by omega) (by omega) (by omega) hq 61 _ _ _ _ _ (by omega) (by omega) zJ45
      · refine w_ldcwA (v := -1000000) (wA6 182 rfl rfl) (tX11_often_0_ok (34, .ldc_w 292, 3) (List.mem_of_getElem? (i := 18) rfl)) (fun zv48 => ?_)
        refine w_iret rfl (tX11_often_0_ok (37, .ireturn, 1) (List.mem_of_getElem? (i := 19) rfl)) ?_
        exact hq _ _ zJ4
theorem x_loadL {p : Int32} (hT : k_TX tys cA A X) (hl : ∀ L, zNM L = true → Sg (ad L) = some (lbR 50 55 L)) (hf : 70 ≤ fr) (hlo : 3000 ≤ lo) (hp : 0 ≤ p.toInt ∧ p.toInt ≤ 11) (hq : ∀ (g : ch_H) (v : Int32), jX Sg cA ad (jF I0 W0) g → Q (some (.int v)) g) : ∀ (j9 : Nat) (h : ch_H) (k : Int32), k.toInt ≤ 99 → k.toInt + 1 = (j9 : Int) → jX Sg cA ad (jF I0 W0) h → ww l D tys A X fr lo mX11_load Q 18 [(2, .int k), (1, .int p), (0, .ref (ad 50))] [] h := by
  intro j9
  induction j9 using Nat.strongRecOn with
  | ind j9 ih =>
    intro h k hj0 hj1 J
    refine w_iload_n (List.Mem.head _) (tX11_load_0_ok (18, .iload_n 2, 1) (List.mem_of_getElem? (i := 11) rfl)) ?_
    refine w_if_lt (tgt := 58) (tX11_load_0_ok (19, .ifCond .lt 39, 3) (List.mem_of_getElem? (i := 12) rfl)) rfl (fun zb1 => ?_) (fun zb1 => ?_)
    · refine w_iconst (by decide) (tX11_load_0_ok (58, .iconst (-1), 1) (List.mem_of_getElem? (i := 34) rfl)) (fun zv2 ze3 => ?_)
      refine w_iret rfl (tX11_load_0_ok (59, .ireturn, 1) (List.mem_of_getElem? (i := 35) rfl)) ?_
      exact hq _ _ J
    · refine w_aload_n (List.Mem.tail _ (List.Mem.tail _ (List.Mem.head _))) (tX11_load_0_ok (22, .aload_n 0, 1) (List.mem_of_getElem? (i := 13) rfl)) ?_
      obtain ⟨zI4, zW5, zO6, zz7, zH8, zp9⟩ := id J
      refine w_callV (own := 16) (mi := 208) [] [] [(0, .ref (ad 50))] rfl (cllw_X11 (332, 0, 208) (List.mem_of_getElem? (i := 51) rfl)) rfl rfl (zz7.ob rfl rfl) rfl (by omega) (w_lo (n := 21) rfl (by omega)) (Nat.le_of_ble_eq_true rfl) (Nat.le_of_ble_eq_true rfl) rfl (tX11_load_0_ok (23, .invokevirtual 332, 3) (List.mem_of_getElem? (i := 14) rfl)) (x_keeps hT.1 hl J (fun zh10 zJ11 => ?_))
      show ww l D tys A X fr lo mX11_load Q 26 [(2, .int k), (1, .int p), (0, .ref (ad 50))] [] zh10
      refine w_aload_n (List.Mem.tail _ (List.Mem.tail _ (List.Mem.head _))) (tX11_load_0_ok (26, .aload_n 0, 1) (List.mem_of_getElem? (i := 15) rfl)) ?_
      refine x_getR (own := 16) (k := 22) (L1 := 56) zJ11 rfl rfl rfl rfl (by decide) (tX11_load_0_ok (27, .getfield 45, 3) (List.mem_of_getElem? (i := 16) rfl)) ?_
      refine w_bipush (by decide) (tX11_load_0_ok (30, .bipush 18, 2) (List.mem_of_getElem? (i := 17) rfl)) (fun zv12 ze13 => ?_)
      refine w_iload_n (List.Mem.tail _ (List.Mem.head _)) (tX11_load_0_ok (32, .iload_n 1, 1) (List.mem_of_getElem? (i := 18) rfl)) ?_
      refine w_iadd (by omega) (by omega) (tX11_load_0_ok (33, .iadd, 1) (List.mem_of_getElem? (i := 19) rfl)) (fun zv14 ze15 => ?_)
      refine w_iload_n (List.Mem.head _) (tX11_load_0_ok (34, .iload_n 2, 1) (List.mem_of_getElem? (i := 20) rfl)) ?_
      refine x_iast (L := 56) (n := 39) hT.1 hl zJ11 (fun _ _ _ hp => jG.a (by decide) hp) rfl rfl ⟨rfl, rfl, rfl⟩ (by omega) (by omega) (e56w (by omega) (by omega) ⟨by omega, by omega⟩) (tX11_load_0_ok (35, .iastore, 1) (List.mem_of_getElem? (i := 21) rfl)) (fun zh16 zJ17 => ?_)
      refine w_aload_n (List.Mem.tail _ (List.Mem.tail _ (List.Mem.head _))) (tX11_load_0_ok (36, .aload_n 0, 1) (List.mem_of_getElem? (i := 22) rfl)) ?_
      refine w_iconst (by decide) (tX11_load_0_ok (37, .iconst 0, 1) (List.mem_of_getElem? (i := 23) rfl)) (fun zv18 ze19 => ?_)
      refine z_cI (own := 16) (mi := 215) (Wr := [(50, 36), (56, 0)]) [.int zv18] [] hl zJ17 (fun _ _ _ _ a b => jG.q rfl a b) rfl (cllw_X11 (307, 0, 215) (List.mem_of_getElem? (i := 42) rfl)) rfl rfl rfl rfl (sat_138 hT) ⟨⟨_, rfl, rfl, (by show (0 : Int) ≤ _; omega), (by show _ ≤ (1 : Int); omega)⟩, trivial⟩ rfl (by omega) (Nat.le_trans (m := 2900) (Nat.le_of_ble_eq_true rfl) (by omega)) (Nat.le_of_ble_eq_true rfl) (Nat.le_of_ble_eq_true rfl) (tX11_load_0_ok (38, .invokevirtual 307, 3) (List.mem_of_getElem? (i := 24) rfl)) (fun zv22 zh20 zJ21 zb23 zb24 => ?_)
      show ww l D tys A X fr lo mX11_load Q 41 [(2, .int k), (1, .int p), (0, .ref (ad 50))] [.int zv22] zh20
      refine w_istore_n [(3, .int zv22), (2, .int k), (1, .int p), (0, .ref (ad 50))] rfl (Nat.le_of_ble_eq_true rfl) (tX11_load_0_ok (41, .istore_n 3, 1) (List.mem_of_getElem? (i := 25) rfl)) ?_
      refine w_aload_n (List.Mem.tail _ (List.Mem.tail _ (List.Mem.tail _ (List.Mem.head _)))) (tX11_load_0_ok (42, .aload_n 0, 1) (List.mem_of_getElem? (i := 26) rfl)) ?_
      obtain ⟨zI25, zW26, zO27, zz28, zH29, zp30⟩ := id zJ21
      refine w_callV (own := 16) (mi := 232) [] [] [(0, .ref (ad 50))] rfl (cllw_X11 (338, 0, 232) (List.mem_of_getElem? (i := 53) rfl)) rfl rfl (zz28.ob rfl rfl) rfl (by omega) (w_lo (n := 21) rfl (by omega)) (Nat.le_of_ble_eq_true rfl) (Nat.le_of_ble_eq_true rfl) rfl (tX11_load_0_ok (43, .invokevirtual 338, 3) (List.mem_of_getElem? (i := 27) rfl)) (x_putBack hT.1 hl zJ21 (fun zh31 zJ32 => ?_))
      show ww l D tys A X fr lo mX11_load Q 46 [(3, .int zv22), (2, .int k), (1, .int p), (0, .ref (ad 50))] [] zh31
      refine w_iload_n (List.Mem.head _) (tX11_load_0_ok (46, .iload_n 3, 1) (List.mem_of_getElem? (i := 28) rfl)) ?_
      refine w_if_ne (tgt := 52) (tX11_load_0_ok (47, .ifCond .ne 5, 3) (List.mem_of_getElem? (i := 29) rfl)) rfl (fun zb33 => ?_) (fun zb33 => ?_)
      · refine w_iinc (fun zv34 => [(2, .int zv34), (3, .int zv22), (1, .int p), (0, .ref (ad 50))]) (fun _ => rfl) (List.Mem.tail _ (List.Mem.head _)) (Nat.le_of_ble_eq_true rfl) (by decide) (by omega) (by omega) (tX11_load_0_ok (52, .iinc 2 (-1), 3) (List.mem_of_getElem? (i := 32) rfl)) (fun zv34 ze35 => ?_)
        refine w_goto (tgt := 18) (tX11_load_0_ok (55, .goto (-37), 3) (List.mem_of_getElem? (i := 33) rfl)) rfl ?_
        refine w_lv [(2, .int zv34), (1, .int p), (0, .ref (ad 50))] (by intro q hq; simp only [List.mem_cons, List.not_mem_nil, or_false] at hq ⊢; rcases hq with e | e | e <;> subst e <;> simp) ?_
        exact ih (j9 - 1) (by omega) _ _ (by omega) (by omega) zJ32
      · refine w_iload_n (List.Mem.tail _ (List.Mem.head _)) (tX11_load_0_ok (50, .iload_n 2, 1) (List.mem_of_getElem? (i := 30) rfl)) ?_
        refine w_iret rfl (tX11_load_0_ok (51, .ireturn, 1) (List.mem_of_getElem? (i := 31) rfl)) ?_
        exact hq _ _ zJ32
theorem x_load {p : Int32} (hT : k_TX tys cA A X) (hl : ∀ L, zNM L = true → Sg (ad L) = some (lbR 50 55 L)) (hf : 70 ≤ fr) (hlo : 3000 ≤ lo) (J : jX Sg cA ad (jF I0 W0) h) (hq : ∀ (g : ch_H) (v : Int32), jX Sg cA ad (jF I0 W0) g → Q (some (.int v)) g) : ww l D tys A X fr lo mX11_load Q 0 [(0, .ref (ad 50)), (1, .int p)] [] h := by
  refine w_aload_n (List.Mem.head _) (tX11_load_0_ok (0, .aload_n 0, 1) (List.mem_of_getElem? (i := 0) rfl)) ?_
  refine w_iconst (by decide) (tX11_load_0_ok (1, .iconst 0, 1) (List.mem_of_getElem? (i := 1) rfl)) (fun zv1 ze2 => ?_)
  refine x_putI (own := 16) (k := 0) (lo1 := -2147483648) (hi1 := 2147483647) hl J (fun _ _ _ e hp => jF.f (k := 0) (by decide) e hp) rfl rfl (i32b _) rfl rfl (by decide) rfl ⟨rfl, rfl⟩ (tX11_load_0_ok (2, .putfield 85, 3) (List.mem_of_getElem? (i := 2) rfl)) (fun zh3 zJ4 => ?_)
  refine w_aload_n (List.Mem.head _) (tX11_load_0_ok (5, .aload_n 0, 1) (List.mem_of_getElem? (i := 3) rfl)) ?_
  refine w_iload_n (List.Mem.tail _ (List.Mem.head _)) (tX11_load_0_ok (6, .iload_n 1, 1) (List.mem_of_getElem? (i := 4) rfl)) ?_
  obtain ⟨zI5, zW6, zO7, zz8, zH9, zp10⟩ := id zJ4
  have zb11 := k5_bd hl zz8 zH9 (k := 20) (lo1 := 0) (hi1 := 6) rfl rfl
  refine w_callV (own := 16) (mi := 203) [.int p] [] [(0, .ref (ad 50)), (1, .int p)] rfl (cllw_X11 (274, 0, 203) (List.mem_of_getElem? (i := 38) rfl)) rfl rfl (zz8.ob rfl rfl) rfl (by omega) (w_lo (n := 21) rfl (by omega)) (Nat.le_of_ble_eq_true rfl) (Nat.le_of_ble_eq_true rfl) rfl (tX11_load_0_ok (7, .invokevirtual 274, 3) (List.mem_of_getElem? (i := 5) rfl)) (y_isRoom hT.1 zz8 (n := (zI5 50 20).toInt.toNat) (by omega) (by omega)  (fun zv12 ze13 => ?_))
  show ww l D tys A X fr lo mX11_load Q 10 [(0, .ref (ad 50)), (1, .int p)] [.int zv12] zh3
  refine w_if_ne (tgt := 15) (tX11_load_0_ok (10, .ifCond .ne 5, 3) (List.mem_of_getElem? (i := 6) rfl)) rfl (fun zb14 => ?_) (fun zb14 => ?_)
  · refine w_bipush (by decide) (tX11_load_0_ok (15, .bipush 99, 2) (List.mem_of_getElem? (i := 9) rfl)) (fun zv15 ze16 => ?_)
    refine w_istore_n [(2, .int zv15), (0, .ref (ad 50)), (1, .int p)] rfl (Nat.le_of_ble_eq_true rfl) (tX11_load_0_ok (17, .istore_n 2, 1) (List.mem_of_getElem? (i := 10) rfl)) ?_
    refine w_lv [(2, .int zv15), (1, .int p), (0, .ref (ad 50))] (by intro q hq; simp only [List.mem_cons, List.not_mem_nil, or_false] at hq ⊢; rcases hq with e | e | e <;> subst e <;> simp) ?_
    exact x_loadL hT hl (by omega) (by omega) (by omega) hq 100 _ _ (by omega) (by omega) zJ4
  · refine w_iconst (by decide) (tX11_load_0_ok (13, .iconst (-1), 1) (List.mem_of_getElem? (i := 7) rfl)) (fun zv17 ze18 => ?_)
    refine w_iret rfl (tX11_load_0_ok (14, .ireturn, 1) (List.mem_of_getElem? (i := 8) rfl)) ?_
    exact hq _ _ zJ4
theorem x_slipA {p b n : Int32} (hT : k_TX tys cA A X) (hl : ∀ L, zNM L = true → Sg (ad L) = some (lbR 50 55 L)) (hf : 70 ≤ fr) (hlo : 3000 ≤ lo) (kk : ∀ (g : ch_H), jX Sg cA ad (jG I0 W0) g → ww l D tys A X fr lo mX11_slipped Q 78 [(3, .int p), (2, .int b), (1, .int n), (0, .ref (ad 50))] [] g) : ∀ (j9 : Nat) (h : ch_H) (k a : Int32), 0 ≤ k.toInt → k.toInt + j9 = n.toInt → jX Sg cA ad (jG I0 W0) h → ww l D tys A X fr lo mX11_slipped Q 56 [(5, .int k), (4, .int a), (3, .int p), (2, .int b), (1, .int n), (0, .ref (ad 50))] [] h := by
  intro j9
  induction j9 using Nat.strongRecOn with
  | ind j9 ih =>
    intro h k a hj0 hj1 J
    have n9 := fb_rng n
    refine w_iload (List.Mem.head _) (tX11_slipped_0_ok (56, .iload 5, 2) (List.mem_of_getElem? (i := 34) rfl)) ?_
    refine w_iload_n (List.Mem.tail _ (List.Mem.tail _ (List.Mem.tail _ (List.Mem.tail _ (List.Mem.head _))))) (tX11_slipped_0_ok (58, .iload_n 1, 1) (List.mem_of_getElem? (i := 35) rfl)) ?_
    refine w_icmp_ge (tgt := 78) (tX11_slipped_0_ok (59, .if_icmp .ge 19, 3) (List.mem_of_getElem? (i := 36) rfl)) rfl (fun zb1 => ?_) (fun zb1 => ?_)
    · refine w_lv [(3, .int p), (2, .int b), (1, .int n), (0, .ref (ad 50))] (by intro q hq; simp only [List.mem_cons, List.not_mem_nil, or_false] at hq ⊢; rcases hq with e | e | e | e <;> subst e <;> simp) ?_
      exact kk _   J
    · refine w_iload (List.Mem.tail _ (List.Mem.head _)) (tX11_slipped_0_ok (62, .iload 4, 2) (List.mem_of_getElem? (i := 37) rfl)) ?_
      refine w_aload_n (List.Mem.tail _ (List.Mem.tail _ (List.Mem.tail _ (List.Mem.tail _ (List.Mem.tail _ (List.Mem.head _)))))) (tX11_slipped_0_ok (64, .aload_n 0, 1) (List.mem_of_getElem? (i := 38) rfl)) ?_
      refine w_iconst (by decide) (tX11_slipped_0_ok (65, .iconst 0, 1) (List.mem_of_getElem? (i := 39) rfl)) (fun zv2 ze3 => ?_)
      refine z_cI (own := 16) (mi := 215) (Wr := [(50, 36), (56, 0)]) [.int zv2] [.int a] hl J (fun _ _ _ _ a b => jG.q rfl a b) rfl (cllw_X11 (307, 0, 215) (List.mem_of_getElem? (i := 42) rfl)) rfl rfl rfl rfl (sat_138 hT) ⟨⟨_, rfl, rfl, (by show (0 : Int) ≤ _; omega), (by show _ ≤ (1 : Int); omega)⟩, trivial⟩ rfl (by omega) (Nat.le_trans (m := 2900) (Nat.le_of_ble_eq_true rfl) (by omega)) (Nat.le_of_ble_eq_true rfl) (Nat.le_of_ble_eq_true rfl) (tX11_slipped_0_ok (66, .invokevirtual 307, 3) (List.mem_of_getElem? (i := 40) rfl)) (fun zv6 zh4 zJ5 zb7 zb8 => ?_)
      show ww l D tys A X fr lo mX11_slipped Q 69 [(5, .int k), (4, .int a), (3, .int p), (2, .int b), (1, .int n), (0, .ref (ad 50))] [.int zv6, .int a] zh4
      refine w_addE (tX11_slipped_0_ok (69, .iadd, 1) (List.mem_of_getElem? (i := 41) rfl)) (fun zv9 ze10 => ?_)
      refine w_istore [(4, .int zv9), (5, .int k), (3, .int p), (2, .int b), (1, .int n), (0, .ref (ad 50))] rfl (Nat.le_of_ble_eq_true rfl) (tX11_slipped_0_ok (70, .istore 4, 2) (List.mem_of_getElem? (i := 42) rfl)) ?_
      refine w_iinc (fun zv11 => [(5, .int zv11), (4, .int zv9), (3, .int p), (2, .int b), (1, .int n), (0, .ref (ad 50))]) (fun _ => rfl) (List.Mem.tail _ (List.Mem.head _)) (Nat.le_of_ble_eq_true rfl) (by decide) (by omega) (by omega) (tX11_slipped_0_ok (72, .iinc 5 1, 3) (List.mem_of_getElem? (i := 43) rfl)) (fun zv11 ze12 => ?_)
      refine w_goto (tgt := 56) (tX11_slipped_0_ok (75, .goto (-19), 3) (List.mem_of_getElem? (i := 44) rfl)) rfl ?_
      refine w_lv [(5, .int zv11), (4, .int zv9), (3, .int p), (2, .int b), (1, .int n), (0, .ref (ad 50))] (by intro q hq; simp only [List.mem_cons, List.not_mem_nil, or_false] at hq ⊢; rcases hq with e | e | e | e | e | e <;> subst e <;> simp) ?_
      exact ih (j9 - 1) (by omega) _ _ _ (by omega) (by omega) zJ5
theorem x_slipB {p b n : Int32} (hT : k_TX tys cA A X) (hl : ∀ L, zNM L = true → Sg (ad L) = some (lbR 50 55 L)) (hf : 70 ≤ fr) (hlo : 3000 ≤ lo) (kk : ∀ (g : ch_H) (a : Int32), jX Sg cA ad (jG I0 W0) g → ww l D tys A X fr lo mX11_slipped Q 140 [(5, .int a), (3, .int p), (2, .int b), (1, .int n), (0, .ref (ad 50))] [] g) : ∀ (j9 : Nat) (h : ch_H) (k a : Int32), 0 ≤ k.toInt → k.toInt + j9 = 12 → jX Sg cA ad (jG I0 W0) h → ww l D tys A X fr lo mX11_slipped Q 84 [(6, .int k), (5, .int a), (3, .int p), (2, .int b), (1, .int n), (0, .ref (ad 50))] [] h := by
  intro j9
  induction j9 using Nat.strongRecOn with
  | ind j9 ih =>
    intro h k a hj0 hj1 J
    refine w_iload (List.Mem.head _) (tX11_slipped_0_ok (84, .iload 6, 2) (List.mem_of_getElem? (i := 49) rfl)) ?_
    refine w_iconst (by decide) (tX11_slipped_0_ok (86, .iconst 2, 1) (List.mem_of_getElem? (i := 50) rfl)) (fun zv1 ze2 => ?_)
    refine w_aload_n (List.Mem.tail _ (List.Mem.tail _ (List.Mem.tail _ (List.Mem.tail _ (List.Mem.tail _ (List.Mem.head _)))))) (tX11_slipped_0_ok (87, .aload_n 0, 1) (List.mem_of_getElem? (i := 51) rfl)) ?_
    refine x_getE (I0 := I0) (own := 16) (k := 20) (lo1 := 0) (hi1 := 6) hl J (fun _ _ hp => hp.1.2.1 20 (by decide)) rfl rfl rfl rfl (by decide) (tX11_slipped_0_ok (88, .getfield 248, 3) (List.mem_of_getElem? (i := 52) rfl)) (fun zb3 zb4 => ?_)
    refine w_imul (by assumption) (by omega) (by omega) (tX11_slipped_0_ok (91, .imul, 1) (List.mem_of_getElem? (i := 53) rfl)) (fun zv5 ze6 => ?_)
    refine w_icmp_ge (tgt := 140) (tX11_slipped_0_ok (92, .if_icmp .ge 48, 3) (List.mem_of_getElem? (i := 54) rfl)) rfl (fun zb7 => ?_) (fun zb7 => ?_)
    · refine w_lv [(5, .int a), (3, .int p), (2, .int b), (1, .int n), (0, .ref (ad 50))] (by intro q hq; simp only [List.mem_cons, List.not_mem_nil, or_false] at hq ⊢; rcases hq with e | e | e | e | e <;> subst e <;> simp) ?_
      exact kk _ _  J
    · refine w_iload (List.Mem.tail _ (List.Mem.head _)) (tX11_slipped_0_ok (95, .iload 5, 2) (List.mem_of_getElem? (i := 55) rfl)) ?_
      refine w_if_eq (tgt := 131) (tX11_slipped_0_ok (97, .ifCond .eq 34, 3) (List.mem_of_getElem? (i := 56) rfl)) rfl (fun zb8 => ?_) (fun zb8 => ?_)
      · refine w_iconst (by decide) (tX11_slipped_1_ok (131, .iconst 0, 1) (List.mem_of_getElem? (i := 13) rfl)) (fun zv9 ze10 => ?_)
        refine w_istore [(5, .int zv9), (6, .int k), (3, .int p), (2, .int b), (1, .int n), (0, .ref (ad 50))] rfl (Nat.le_of_ble_eq_true rfl) (tX11_slipped_1_ok (132, .istore 5, 2) (List.mem_of_getElem? (i := 14) rfl)) ?_
        refine w_iinc (fun zv11 => [(6, .int zv11), (5, .int zv9), (3, .int p), (2, .int b), (1, .int n), (0, .ref (ad 50))]) (fun _ => rfl) (List.Mem.tail _ (List.Mem.head _)) (Nat.le_of_ble_eq_true rfl) (by decide) (by omega) (by omega) (tX11_slipped_1_ok (134, .iinc 6 1, 3) (List.mem_of_getElem? (i := 15) rfl)) (fun zv11 ze12 => ?_)
        refine w_goto (tgt := 84) (tX11_slipped_1_ok (137, .goto (-53), 3) (List.mem_of_getElem? (i := 16) rfl)) rfl ?_
        refine w_lv [(6, .int zv11), (5, .int zv9), (3, .int p), (2, .int b), (1, .int n), (0, .ref (ad 50))] (by intro q hq; simp only [List.mem_cons, List.not_mem_nil, or_false] at hq ⊢; rcases hq with e | e | e | e | e | e <;> subst e <;> simp) ?_
        exact ih (j9 - 1) (by omega) _ _ _ (by omega) (by omega) J
      · refine w_aload_n (List.Mem.tail _ (List.Mem.tail _ (List.Mem.tail _ (List.Mem.tail _ (List.Mem.tail _ (List.Mem.head _)))))) (tX11_slipped_0_ok (100, .aload_n 0, 1) (List.mem_of_getElem? (i := 57) rfl)) ?_
        refine x_getR (own := 16) (k := 27) (L1 := 61) J rfl rfl rfl rfl (by decide) (tX11_slipped_0_ok (101, .getfield 60, 3) (List.mem_of_getElem? (i := 58) rfl)) ?_
        refine w_iload (List.Mem.head _) (tX11_slipped_0_ok (104, .iload 6, 2) (List.mem_of_getElem? (i := 59) rfl)) ?_
        refine x_iald (L := 61) (n := 12) (lo1 := -2147483648) (hi1 := 2147483647) hT.1 hl J rfl rfl ⟨rfl, rfl⟩ (by decide +kernel) (by omega) (by omega) (tX11_slipped_1_ok (106, .iaload, 1) (List.mem_of_getElem? (i := 0) rfl)) (fun zv13 zb14 zb15 => ?_)
        refine w_iconst (by decide) (tX11_slipped_1_ok (107, .iconst (-1), 1) (List.mem_of_getElem? (i := 1) rfl)) (fun zv16 ze17 => ?_)
        refine w_icmp_eq (tgt := 127) (tX11_slipped_1_ok (108, .if_icmp .eq 19, 3) (List.mem_of_getElem? (i := 2) rfl)) rfl (fun zb18 => ?_) (fun zb18 => ?_)
        · refine w_iconst (by decide) (tX11_slipped_1_ok (127, .iconst 1, 1) (List.mem_of_getElem? (i := 11) rfl)) (fun zv19 ze20 => ?_)
          refine w_goto (tgt := 132) (tX11_slipped_1_ok (128, .goto 4, 3) (List.mem_of_getElem? (i := 12) rfl)) rfl ?_
          refine w_istore [(5, .int zv19), (6, .int k), (3, .int p), (2, .int b), (1, .int n), (0, .ref (ad 50))] rfl (Nat.le_of_ble_eq_true rfl) (tX11_slipped_1_ok (132, .istore 5, 2) (List.mem_of_getElem? (i := 14) rfl)) ?_
          refine w_iinc (fun zv21 => [(6, .int zv21), (5, .int zv19), (3, .int p), (2, .int b), (1, .int n), (0, .ref (ad 50))]) (fun _ => rfl) (List.Mem.tail _ (List.Mem.head _)) (Nat.le_of_ble_eq_true rfl) (by decide) (by omega) (by omega) (tX11_slipped_1_ok (134, .iinc 6 1, 3) (List.mem_of_getElem? (i := 15) rfl)) (fun zv21 ze22 => ?_)
          refine w_goto (tgt := 84) (tX11_slipped_1_ok (137, .goto (-53), 3) (List.mem_of_getElem? (i := 16) rfl)) rfl ?_
          refine w_lv [(6, .int zv21), (5, .int zv19), (3, .int p), (2, .int b), (1, .int n), (0, .ref (ad 50))] (by intro q hq; simp only [List.mem_cons, List.not_mem_nil, or_false] at hq ⊢; rcases hq with e | e | e | e | e | e <;> subst e <;> simp) ?_
          exact ih (j9 - 1) (by omega) _ _ _ (by omega) (by omega) J
        · refine w_aload_n (List.Mem.tail _ (List.Mem.tail _ (List.Mem.tail _ (List.Mem.tail _ (List.Mem.tail _ (List.Mem.head _)))))) (tX11_slipped_1_ok (111, .aload_n 0, 1) (List.mem_of_getElem? (i := 3) rfl)) ?_
          refine x_getR (own := 16) (k := 27) (L1 := 61) J rfl rfl rfl rfl (by decide) (tX11_slipped_1_ok (112, .getfield 60, 3) (List.mem_of_getElem? (i := 4) rfl)) ?_
          refine w_iload (List.Mem.head _) (tX11_slipped_1_ok (115, .iload 6, 2) (List.mem_of_getElem? (i := 5) rfl)) ?_
          refine x_iald (L := 61) (n := 12) (lo1 := -2147483648) (hi1 := 2147483647) hT.1 hl J rfl rfl ⟨rfl, rfl⟩ (by decide +kernel) (by omega) (by omega) (tX11_slipped_1_ok (117, .iaload, 1) (List.mem_of_getElem? (i := 6) rfl)) (fun zv23 zb24 zb25 => ?_)
          refine w_aload_n (List.Mem.tail _ (List.Mem.tail _ (List.Mem.tail _ (List.Mem.tail _ (List.Mem.tail _ (List.Mem.head _)))))) (tX11_slipped_1_ok (118, .aload_n 0, 1) (List.mem_of_getElem? (i := 7) rfl)) ?_
          refine w_iload (List.Mem.head _) (tX11_slipped_1_ok (119, .iload 6, 2) (List.mem_of_getElem? (i := 8) rfl)) ?_
          refine z_cI (own := 16) (mi := 192) (Wr := []) [.int k] [.int zv23] hl J (fun _ _ _ _ a b => jG.q rfl a b) rfl (cllw_X11 (280, 0, 192) (List.mem_of_getElem? (i := 39) rfl)) rfl rfl rfl rfl (sat_110 hT) ⟨⟨_, rfl, rfl, (by show (-1 : Int) ≤ _; omega), (by show _ ≤ (17 : Int); omega)⟩, trivial⟩ rfl (by omega) (Nat.le_trans (m := 2900) (Nat.le_of_ble_eq_true rfl) (by omega)) (Nat.le_of_ble_eq_true rfl) (Nat.le_of_ble_eq_true rfl) (tX11_slipped_1_ok (121, .invokevirtual 280, 3) (List.mem_of_getElem? (i := 9) rfl)) (fun zv28 zh26 zJ27 zb29 zb30 => ?_)
          show ww l D tys A X fr lo mX11_slipped Q 124 [(6, .int k), (5, .int a), (3, .int p), (2, .int b), (1, .int n), (0, .ref (ad 50))] [.int zv28, .int zv23] zh26
          refine w_icmp_ne (tgt := 131) (tX11_slipped_1_ok (124, .if_icmp .ne 7, 3) (List.mem_of_getElem? (i := 10) rfl)) rfl (fun zb31 => ?_) (fun zb31 => ?_)
          · refine w_iconst (by decide) (tX11_slipped_1_ok (131, .iconst 0, 1) (List.mem_of_getElem? (i := 13) rfl)) (fun zv32 ze33 => ?_)
            refine w_istore [(5, .int zv32), (6, .int k), (3, .int p), (2, .int b), (1, .int n), (0, .ref (ad 50))] rfl (Nat.le_of_ble_eq_true rfl) (tX11_slipped_1_ok (132, .istore 5, 2) (List.mem_of_getElem? (i := 14) rfl)) ?_
            refine w_iinc (fun zv34 => [(6, .int zv34), (5, .int zv32), (3, .int p), (2, .int b), (1, .int n), (0, .ref (ad 50))]) (fun _ => rfl) (List.Mem.tail _ (List.Mem.head _)) (Nat.le_of_ble_eq_true rfl) (by decide) (by omega) (by omega) (tX11_slipped_1_ok (134, .iinc 6 1, 3) (List.mem_of_getElem? (i := 15) rfl)) (fun zv34 ze35 => ?_)
            refine w_goto (tgt := 84) (tX11_slipped_1_ok (137, .goto (-53), 3) (List.mem_of_getElem? (i := 16) rfl)) rfl ?_
            refine w_lv [(6, .int zv34), (5, .int zv32), (3, .int p), (2, .int b), (1, .int n), (0, .ref (ad 50))] (by intro q hq; simp only [List.mem_cons, List.not_mem_nil, or_false] at hq ⊢; rcases hq with e | e | e | e | e | e <;> subst e <;> simp) ?_
            exact ih (j9 - 1) (by omega) _ _ _ (by omega) (by omega) zJ27
          · refine w_iconst (by decide) (tX11_slipped_1_ok (127, .iconst 1, 1) (List.mem_of_getElem? (i := 11) rfl)) (fun zv36 ze37 => ?_)
            refine w_goto (tgt := 132) (tX11_slipped_1_ok (128, .goto 4, 3) (List.mem_of_getElem? (i := 12) rfl)) rfl ?_
            refine w_istore [(5, .int zv36), (6, .int k), (3, .int p), (2, .int b), (1, .int n), (0, .ref (ad 50))] rfl (Nat.le_of_ble_eq_true rfl) (tX11_slipped_1_ok (132, .istore 5, 2) (List.mem_of_getElem? (i := 14) rfl)) ?_
            refine w_iinc (fun zv38 => [(6, .int zv38), (5, .int zv36), (3, .int p), (2, .int b), (1, .int n), (0, .ref (ad 50))]) (fun _ => rfl) (List.Mem.tail _ (List.Mem.head _)) (Nat.le_of_ble_eq_true rfl) (by decide) (by omega) (by omega) (tX11_slipped_1_ok (134, .iinc 6 1, 3) (List.mem_of_getElem? (i := 15) rfl)) (fun zv38 ze39 => ?_)
            refine w_goto (tgt := 84) (tX11_slipped_1_ok (137, .goto (-53), 3) (List.mem_of_getElem? (i := 16) rfl)) rfl ?_
            refine w_lv [(6, .int zv38), (5, .int zv36), (3, .int p), (2, .int b), (1, .int n), (0, .ref (ad 50))] (by intro q hq; simp only [List.mem_cons, List.not_mem_nil, or_false] at hq ⊢; rcases hq with e | e | e | e | e | e <;> subst e <;> simp) ?_
            exact ih (j9 - 1) (by omega) _ _ _ (by omega) (by omega) zJ27
theorem x_slipL {n : Int32} (hT : k_TX tys cA A X) (hl : ∀ L, zNM L = true → Sg (ad L) = some (lbR 50 55 L)) (hf : 70 ≤ fr) (hlo : 3000 ≤ lo) (hp : 1 ≤ n.toInt ∧ n.toInt ≤ 60) (hq : ∀ (g : ch_H) (v : Int32), jX Sg cA ad (jF I0 W0) g → Q (some (.int v)) g) : ∀ (j9 : Nat) (h : ch_H) (p b : Int32), 0 ≤ p.toInt → p.toInt + j9 = 6 → jX Sg cA ad (jF I0 W0) h → ww l D tys A X fr lo mX11_slipped Q 28 [(3, .int p), (2, .int b), (1, .int n), (0, .ref (ad 50))] [] h := by
  intro j9
  induction j9 using Nat.strongRecOn with
  | ind j9 ih =>
    intro h p b hj0 hj1 J
    refine w_iload_n (List.Mem.head _) (tX11_slipped_0_ok (28, .iload_n 3, 1) (List.mem_of_getElem? (i := 17) rfl)) ?_
    refine w_aload_n (List.Mem.tail _ (List.Mem.tail _ (List.Mem.tail _ (List.Mem.head _)))) (tX11_slipped_0_ok (29, .aload_n 0, 1) (List.mem_of_getElem? (i := 18) rfl)) ?_
    refine x_getE (I0 := I0) (own := 16) (k := 20) (lo1 := 0) (hi1 := 6) hl J (fun _ _ hp => hp.1.2.1 20 (by decide)) rfl rfl rfl rfl (by decide) (tX11_slipped_0_ok (30, .getfield 248, 3) (List.mem_of_getElem? (i := 19) rfl)) (fun yb1 yb2 => ?_)
    refine w_icmp_ge (tgt := 165) (tX11_slipped_0_ok (33, .if_icmp .ge 132, 3) (List.mem_of_getElem? (i := 20) rfl)) rfl (fun yb3 => ?_) (fun yb3 => ?_)
    · refine w_iload_n (List.Mem.tail _ (List.Mem.head _)) (tX11_slipped_1_ok (165, .iload_n 2, 1) (List.mem_of_getElem? (i := 31) rfl)) ?_
      refine w_iret rfl (tX11_slipped_1_ok (166, .ireturn, 1) (List.mem_of_getElem? (i := 32) rfl)) ?_
      exact hq _ _ J
    · refine w_aload_n (List.Mem.tail _ (List.Mem.tail _ (List.Mem.tail _ (List.Mem.head _)))) (tX11_slipped_0_ok (36, .aload_n 0, 1) (List.mem_of_getElem? (i := 21) rfl)) ?_
      obtain ⟨yI4, yW5, yO6, yz7, yH8, yp9⟩ := id J
      refine w_callV (own := 16) (mi := 208) [] [] [(0, .ref (ad 50))] rfl (cllw_X11 (332, 0, 208) (List.mem_of_getElem? (i := 51) rfl)) rfl rfl (yz7.ob rfl rfl) rfl (by omega) (w_lo (n := 21) rfl (by omega)) (Nat.le_of_ble_eq_true rfl) (Nat.le_of_ble_eq_true rfl) rfl (tX11_slipped_0_ok (37, .invokevirtual 332, 3) (List.mem_of_getElem? (i := 22) rfl)) (x_keeps hT.1 hl J (fun yh10 yJ11 => ?_))
      show ww l D tys A X fr lo mX11_slipped Q 40 [(3, .int p), (2, .int b), (1, .int n), (0, .ref (ad 50))] [] yh10
      refine w_aload_n (List.Mem.tail _ (List.Mem.tail _ (List.Mem.tail _ (List.Mem.head _)))) (tX11_slipped_0_ok (40, .aload_n 0, 1) (List.mem_of_getElem? (i := 23) rfl)) ?_
      refine x_getR (own := 16) (k := 22) (L1 := 56) yJ11 rfl rfl rfl rfl (by decide) (tX11_slipped_0_ok (41, .getfield 45, 3) (List.mem_of_getElem? (i := 24) rfl)) ?_
      refine w_bipush (by decide) (tX11_slipped_0_ok (44, .bipush 12, 2) (List.mem_of_getElem? (i := 25) rfl)) (fun yv12 ye13 => ?_)
      refine w_iload_n (List.Mem.head _) (tX11_slipped_0_ok (46, .iload_n 3, 1) (List.mem_of_getElem? (i := 26) rfl)) ?_
      refine w_iadd (by omega) (by omega) (tX11_slipped_0_ok (47, .iadd, 1) (List.mem_of_getElem? (i := 27) rfl)) (fun yv14 ye15 => ?_)
      refine w_iconst (by decide) (tX11_slipped_0_ok (48, .iconst 0, 1) (List.mem_of_getElem? (i := 28) rfl)) (fun yv16 ye17 => ?_)
      refine x_iast (L := 56) (n := 39) hT.1 hl yJ11 (fun _ _ _ hp => jG.a (by decide) hp) rfl rfl ⟨rfl, rfl, rfl⟩ (by omega) (by omega) (e56b (by omega) (by omega)) (tX11_slipped_0_ok (49, .iastore, 1) (List.mem_of_getElem? (i := 29) rfl)) (fun yh18 yJ19 => ?_)
      refine w_iconst (by decide) (tX11_slipped_0_ok (50, .iconst 0, 1) (List.mem_of_getElem? (i := 30) rfl)) (fun yv20 ye21 => ?_)
      refine w_istore [(4, .int yv20), (3, .int p), (2, .int b), (1, .int n), (0, .ref (ad 50))] rfl (Nat.le_of_ble_eq_true rfl) (tX11_slipped_0_ok (51, .istore 4, 2) (List.mem_of_getElem? (i := 31) rfl)) ?_
      refine w_iconst (by decide) (tX11_slipped_0_ok (53, .iconst 0, 1) (List.mem_of_getElem? (i := 32) rfl)) (fun yv22 ye23 => ?_)
      refine w_istore [(5, .int yv22), (4, .int yv20), (3, .int p), (2, .int b), (1, .int n), (0, .ref (ad 50))] rfl (Nat.le_of_ble_eq_true rfl) (tX11_slipped_0_ok (54, .istore 5, 2) (List.mem_of_getElem? (i := 33) rfl)) ?_
      refine w_lv [(5, .int yv22), (4, .int yv20), (3, .int p), (2, .int b), (1, .int n), (0, .ref (ad 50))] (by intro q hq; simp only [List.mem_cons, List.not_mem_nil, or_false] at hq ⊢; rcases hq with e | e | e | e | e | e <;> subst e <;> simp) ?_
      refine x_slipA hT hl (by omega) (by omega) (fun yh24  yJ25 => ?_) n.toInt.toNat _ _ _ (by omega) (by omega) yJ19
      refine w_iconst (by decide) (tX11_slipped_0_ok (78, .iconst 1, 1) (List.mem_of_getElem? (i := 45) rfl)) (fun yv26 ye27 => ?_)
      refine w_istore [(5, .int yv26), (3, .int p), (2, .int b), (1, .int n), (0, .ref (ad 50))] rfl (Nat.le_of_ble_eq_true rfl) (tX11_slipped_0_ok (79, .istore 5, 2) (List.mem_of_getElem? (i := 46) rfl)) ?_
      refine w_iconst (by decide) (tX11_slipped_0_ok (81, .iconst 0, 1) (List.mem_of_getElem? (i := 47) rfl)) (fun yv28 ye29 => ?_)
      refine w_istore [(6, .int yv28), (5, .int yv26), (3, .int p), (2, .int b), (1, .int n), (0, .ref (ad 50))] rfl (Nat.le_of_ble_eq_true rfl) (tX11_slipped_0_ok (82, .istore 6, 2) (List.mem_of_getElem? (i := 48) rfl)) ?_
      refine w_lv [(6, .int yv28), (5, .int yv26), (3, .int p), (2, .int b), (1, .int n), (0, .ref (ad 50))] (by intro q hq; simp only [List.mem_cons, List.not_mem_nil, or_false] at hq ⊢; rcases hq with e | e | e | e | e | e <;> subst e <;> simp) ?_
      refine x_slipB hT hl (by omega) (by omega) (fun yh30 yv32 yJ31 => ?_) 12 _ _ _ (by omega) (by omega) yJ25
      refine w_iload_n (List.Mem.tail _ (List.Mem.tail _ (List.Mem.head _))) (tX11_slipped_1_ok (140, .iload_n 2, 1) (List.mem_of_getElem? (i := 17) rfl)) ?_
      refine w_iload (List.Mem.head _) (tX11_slipped_1_ok (141, .iload 5, 2) (List.mem_of_getElem? (i := 18) rfl)) ?_
      refine w_if_eq (tgt := 152) (tX11_slipped_1_ok (143, .ifCond .eq 9, 3) (List.mem_of_getElem? (i := 19) rfl)) rfl (fun yb33 => ?_) (fun yb33 => ?_)
      · refine w_iconst (by decide) (tX11_slipped_1_ok (152, .iconst 0, 1) (List.mem_of_getElem? (i := 24) rfl)) (fun yv34 ye35 => ?_)
        refine w_ior (tX11_slipped_1_ok (153, .ior, 1) (List.mem_of_getElem? (i := 25) rfl)) (fun yv36 ye37 => ?_)
        refine w_istore_n [(2, .int yv36), (5, .int yv32), (3, .int p), (1, .int n), (0, .ref (ad 50))] rfl (Nat.le_of_ble_eq_true rfl) (tX11_slipped_1_ok (154, .istore_n 2, 1) (List.mem_of_getElem? (i := 26) rfl)) ?_
        refine w_aload_n (List.Mem.tail _ (List.Mem.tail _ (List.Mem.tail _ (List.Mem.tail _ (List.Mem.head _))))) (tX11_slipped_1_ok (155, .aload_n 0, 1) (List.mem_of_getElem? (i := 27) rfl)) ?_
        obtain ⟨yI38, yW39, yO40, yz41, yH42, yp43⟩ := id yJ31
        refine w_callV (own := 16) (mi := 232) [] [] [(0, .ref (ad 50))] rfl (cllw_X11 (338, 0, 232) (List.mem_of_getElem? (i := 53) rfl)) rfl rfl (yz41.ob rfl rfl) rfl (by omega) (w_lo (n := 21) rfl (by omega)) (Nat.le_of_ble_eq_true rfl) (Nat.le_of_ble_eq_true rfl) rfl (tX11_slipped_1_ok (156, .invokevirtual 338, 3) (List.mem_of_getElem? (i := 28) rfl)) (x_putBack hT.1 hl yJ31 (fun yh44 yJ45 => ?_))
        show ww l D tys A X fr lo mX11_slipped Q 159 [(2, .int yv36), (5, .int yv32), (3, .int p), (1, .int n), (0, .ref (ad 50))] [] yh44
        refine w_iinc (fun yv46 => [(3, .int yv46), (2, .int yv36), (5, .int yv32), (1, .int n), (0, .ref (ad 50))]) (fun _ => rfl) (List.Mem.tail _ (List.Mem.tail _ (List.Mem.head _))) (Nat.le_of_ble_eq_true rfl) (by decide) (by omega) (by omega) (tX11_slipped_1_ok (159, .iinc 3 1, 3) (List.mem_of_getElem? (i := 29) rfl)) (fun yv46 ye47 => ?_)
        refine w_goto (tgt := 28) (tX11_slipped_1_ok (162, .goto (-134), 3) (List.mem_of_getElem? (i := 30) rfl)) rfl ?_
        refine w_lv [(3, .int yv46), (2, .int yv36), (1, .int n), (0, .ref (ad 50))] (by intro q hq; simp only [List.mem_cons, List.not_mem_nil, or_false] at hq ⊢; rcases hq with e | e | e | e <;> subst e <;> simp) ?_
        exact ih (j9 - 1) (by omega) _ _ _ (by omega) (by omega) yJ45
      · refine w_iconst (by decide) (tX11_slipped_1_ok (146, .iconst 1, 1) (List.mem_of_getElem? (i := 20) rfl)) (fun yv48 ye49 => ?_)
        refine w_iload_n (List.Mem.tail _ (List.Mem.head _)) (tX11_slipped_1_ok (147, .iload_n 3, 1) (List.mem_of_getElem? (i := 21) rfl)) ?_
        refine w_ishl (tX11_slipped_1_ok (148, .ishl, 1) (List.mem_of_getElem? (i := 22) rfl)) (fun yv50 ye51 => ?_)
        refine w_goto (tgt := 153) (tX11_slipped_1_ok (149, .goto 4, 3) (List.mem_of_getElem? (i := 23) rfl)) rfl ?_
        refine w_ior (tX11_slipped_1_ok (153, .ior, 1) (List.mem_of_getElem? (i := 25) rfl)) (fun yv52 ye53 => ?_)
        refine w_istore_n [(2, .int yv52), (5, .int yv32), (3, .int p), (1, .int n), (0, .ref (ad 50))] rfl (Nat.le_of_ble_eq_true rfl) (tX11_slipped_1_ok (154, .istore_n 2, 1) (List.mem_of_getElem? (i := 26) rfl)) ?_
        refine w_aload_n (List.Mem.tail _ (List.Mem.tail _ (List.Mem.tail _ (List.Mem.tail _ (List.Mem.head _))))) (tX11_slipped_1_ok (155, .aload_n 0, 1) (List.mem_of_getElem? (i := 27) rfl)) ?_
        obtain ⟨yI54, yW55, yO56, yz57, yH58, yp59⟩ := id yJ31
        refine w_callV (own := 16) (mi := 232) [] [] [(0, .ref (ad 50))] rfl (cllw_X11 (338, 0, 232) (List.mem_of_getElem? (i := 53) rfl)) rfl rfl (yz57.ob rfl rfl) rfl (by omega) (w_lo (n := 21) rfl (by omega)) (Nat.le_of_ble_eq_true rfl) (Nat.le_of_ble_eq_true rfl) rfl (tX11_slipped_1_ok (156, .invokevirtual 338, 3) (List.mem_of_getElem? (i := 28) rfl)) (x_putBack hT.1 hl yJ31 (fun yh60 yJ61 => ?_))
        show ww l D tys A X fr lo mX11_slipped Q 159 [(2, .int yv52), (5, .int yv32), (3, .int p), (1, .int n), (0, .ref (ad 50))] [] yh60
        refine w_iinc (fun yv62 => [(3, .int yv62), (2, .int yv52), (5, .int yv32), (1, .int n), (0, .ref (ad 50))]) (fun _ => rfl) (List.Mem.tail _ (List.Mem.tail _ (List.Mem.head _))) (Nat.le_of_ble_eq_true rfl) (by decide) (by omega) (by omega) (tX11_slipped_1_ok (159, .iinc 3 1, 3) (List.mem_of_getElem? (i := 29) rfl)) (fun yv62 ye63 => ?_)
        refine w_goto (tgt := 28) (tX11_slipped_1_ok (162, .goto (-134), 3) (List.mem_of_getElem? (i := 30) rfl)) rfl ?_
        refine w_lv [(3, .int yv62), (2, .int yv52), (1, .int n), (0, .ref (ad 50))] (by intro q hq; simp only [List.mem_cons, List.not_mem_nil, or_false] at hq ⊢; rcases hq with e | e | e | e <;> subst e <;> simp) ?_
        exact ih (j9 - 1) (by omega) _ _ _ (by omega) (by omega) yJ61
theorem x_slipped {n : Int32} (hT : k_TX tys cA A X) (hl : ∀ L, zNM L = true → Sg (ad L) = some (lbR 50 55 L)) (hf : 70 ≤ fr) (hlo : 3000 ≤ lo) (J : jX Sg cA ad (jF I0 W0) h) (hq : ∀ (g : ch_H) (v : Int32), jX Sg cA ad (jF I0 W0) g → Q (some (.int v)) g) : ww l D tys A X fr lo mX11_slipped Q 0 [(0, .ref (ad 50)), (1, .int n)] [] h := by
  refine w_aload_n (List.Mem.head _) (tX11_slipped_0_ok (0, .aload_n 0, 1) (List.mem_of_getElem? (i := 0) rfl)) ?_
  refine w_iconst (by decide) (tX11_slipped_0_ok (1, .iconst 0, 1) (List.mem_of_getElem? (i := 1) rfl)) (fun zv1 ze2 => ?_)
  refine x_putI (own := 16) (k := 0) (lo1 := -2147483648) (hi1 := 2147483647) hl J (fun _ _ _ e hp => jF.f (k := 0) (by decide) e hp) rfl rfl (i32b _) rfl rfl (by decide) rfl ⟨rfl, rfl⟩ (tX11_slipped_0_ok (2, .putfield 85, 3) (List.mem_of_getElem? (i := 2) rfl)) (fun zh3 zJ4 => ?_)
  refine w_aload_n (List.Mem.head _) (tX11_slipped_0_ok (5, .aload_n 0, 1) (List.mem_of_getElem? (i := 3) rfl)) ?_
  refine x_getE (I0 := I0) (own := 16) (k := 20) (lo1 := 0) (hi1 := 6) hl zJ4 (fun _ _ hp => hp.1.2.1 20 (by decide)) rfl rfl rfl rfl (by decide) (tX11_slipped_0_ok (6, .getfield 248, 3) (List.mem_of_getElem? (i := 4) rfl)) (fun zb5 zb6 => ?_)
  refine w_if_eq (tgt := 22) (tX11_slipped_0_ok (9, .ifCond .eq 13, 3) (List.mem_of_getElem? (i := 5) rfl)) rfl (fun zb7 => ?_) (fun zb7 => ?_)
  · refine w_iconst (by decide) (tX11_slipped_0_ok (22, .iconst (-1), 1) (List.mem_of_getElem? (i := 11) rfl)) (fun zv8 ze9 => ?_)
    refine w_iret rfl (tX11_slipped_0_ok (23, .ireturn, 1) (List.mem_of_getElem? (i := 12) rfl)) ?_
    exact hq _ _ zJ4
  · refine w_iload_n (List.Mem.tail _ (List.Mem.head _)) (tX11_slipped_0_ok (12, .iload_n 1, 1) (List.mem_of_getElem? (i := 6) rfl)) ?_
    refine w_iconst (by decide) (tX11_slipped_0_ok (13, .iconst 1, 1) (List.mem_of_getElem? (i := 7) rfl)) (fun zv10 ze11 => ?_)
    refine w_bipush (by decide) (tX11_slipped_0_ok (14, .bipush 60, 2) (List.mem_of_getElem? (i := 8) rfl)) (fun zv12 ze13 => ?_)
    refine w_callS (own := 16) (mi := 199) [.int n, .int zv10, .int zv12] [] [(0, .int n), (1, .int zv10), (2, .int zv12)] rfl (cllw_X11 (207, 1, 199) (List.mem_of_getElem? (i := 2) rfl)) rfl rfl (by omega) (w_lo (n := 22) rfl (by omega)) (Nat.le_of_ble_eq_true rfl) (Nat.le_of_ble_eq_true rfl) rfl (tX11_slipped_0_ok (16, .invokestatic 207, 3) (List.mem_of_getElem? (i := 9) rfl)) (r_isIn (fun zv14 ze15 => ?_))
    show ww l D tys A X fr lo mX11_slipped Q 19 [(0, .ref (ad 50)), (1, .int n)] [.int zv14] zh3
    refine w_if_ne (tgt := 24) (tX11_slipped_0_ok (19, .ifCond .ne 5, 3) (List.mem_of_getElem? (i := 10) rfl)) rfl (fun zb16 => ?_) (fun zb16 => ?_)
    · refine w_iconst (by decide) (tX11_slipped_0_ok (24, .iconst 0, 1) (List.mem_of_getElem? (i := 13) rfl)) (fun zv17 ze18 => ?_)
      refine w_istore_n [(2, .int zv17), (0, .ref (ad 50)), (1, .int n)] rfl (Nat.le_of_ble_eq_true rfl) (tX11_slipped_0_ok (25, .istore_n 2, 1) (List.mem_of_getElem? (i := 14) rfl)) ?_
      refine w_iconst (by decide) (tX11_slipped_0_ok (26, .iconst 0, 1) (List.mem_of_getElem? (i := 15) rfl)) (fun zv19 ze20 => ?_)
      refine w_istore_n [(3, .int zv19), (2, .int zv17), (0, .ref (ad 50)), (1, .int n)] rfl (Nat.le_of_ble_eq_true rfl) (tX11_slipped_0_ok (27, .istore_n 3, 1) (List.mem_of_getElem? (i := 16) rfl)) ?_
      refine w_lv [(3, .int zv19), (2, .int zv17), (1, .int n), (0, .ref (ad 50))] (by intro q hq; simp only [List.mem_cons, List.not_mem_nil, or_false] at hq ⊢; rcases hq with e | e | e | e <;> subst e <;> simp) ?_
      exact x_slipL hT hl (by omega) (by omega) (by omega) hq 6 _ _ _ (by omega) (by omega) zJ4
    · refine w_iconst (by decide) (tX11_slipped_0_ok (22, .iconst (-1), 1) (List.mem_of_getElem? (i := 11) rfl)) (fun zv21 ze22 => ?_)
      refine w_iret rfl (tX11_slipped_0_ok (23, .ireturn, 1) (List.mem_of_getElem? (i := 12) rfl)) ?_
      exact hq _ _ zJ4
theorem x_endsL {p n b e : Int32} (hT : k_TX tys cA A X) (hl : ∀ L, zNM L = true → Sg (ad L) = some (lbR 50 55 L)) (hf : 70 ≤ fr) (hlo : 3000 ≤ lo) (hp : (0 ≤ p.toInt ∧ p.toInt ≤ 5) ∧ (0 ≤ b.toInt ∧ b.toInt ≤ 1)) (hq : ∀ (g : ch_H) (v : Int32), jX Sg cA ad (jF I0 W0) g → Q (some (.int v)) g) : ∀ (j9 : Nat) (h : ch_H) (k a : Int32), 0 ≤ k.toInt → k.toInt + j9 = n.toInt → jX Sg cA ad (jG I0 W0) h → ww l D tys A X fr lo mX11_endsAt Q 17 [(6, .int k), (5, .int a), (4, .int e), (3, .int b), (2, .int n), (1, .int p), (0, .ref (ad 50))] [] h := by
  intro j9
  induction j9 using Nat.strongRecOn with
  | ind j9 ih =>
    intro h k a hj0 hj1 J
    have n9 := fb_rng n
    refine w_iload (List.Mem.head _) (tX11_endsAt_0_ok (17, .iload 6, 2) (List.mem_of_getElem? (i := 10) rfl)) ?_
    refine w_iload_n (List.Mem.tail _ (List.Mem.tail _ (List.Mem.tail _ (List.Mem.tail _ (List.Mem.head _))))) (tX11_endsAt_0_ok (19, .iload_n 2, 1) (List.mem_of_getElem? (i := 11) rfl)) ?_
    refine w_icmp_ge (tgt := 39) (tX11_endsAt_0_ok (20, .if_icmp .ge 19, 3) (List.mem_of_getElem? (i := 12) rfl)) rfl (fun zb1 => ?_) (fun zb1 => ?_)
    · refine w_aload_n (List.Mem.tail _ (List.Mem.tail _ (List.Mem.tail _ (List.Mem.tail _ (List.Mem.tail _ (List.Mem.tail _ (List.Mem.head _))))))) (tX11_endsAt_0_ok (39, .aload_n 0, 1) (List.mem_of_getElem? (i := 21) rfl)) ?_
      refine x_getR (own := 16) (k := 22) (L1 := 56) J rfl rfl rfl rfl (by decide) (tX11_endsAt_0_ok (40, .getfield 45, 3) (List.mem_of_getElem? (i := 22) rfl)) ?_
      refine w_iload_n (List.Mem.tail _ (List.Mem.tail _ (List.Mem.tail _ (List.Mem.tail _ (List.Mem.tail _ (List.Mem.head _)))))) (tX11_endsAt_0_ok (43, .iload_n 1, 1) (List.mem_of_getElem? (i := 23) rfl)) ?_
      refine x_iald (L := 56) (n := 39) (lo1 := -2147483648) (hi1 := 2147483647) hT.1 hl J rfl rfl ⟨rfl, rfl⟩ (by decide +kernel) (by omega) (by omega) (tX11_endsAt_0_ok (44, .iaload, 1) (List.mem_of_getElem? (i := 24) rfl)) (fun zv2 zb3 zb4 => ?_)
      refine w_istore [(6, .int zv2), (5, .int a), (4, .int e), (3, .int b), (2, .int n), (1, .int p), (0, .ref (ad 50))] rfl (Nat.le_of_ble_eq_true rfl) (tX11_endsAt_0_ok (45, .istore 6, 2) (List.mem_of_getElem? (i := 25) rfl)) ?_
      refine w_aload_n (List.Mem.tail _ (List.Mem.tail _ (List.Mem.tail _ (List.Mem.tail _ (List.Mem.tail _ (List.Mem.tail _ (List.Mem.head _))))))) (tX11_endsAt_0_ok (47, .aload_n 0, 1) (List.mem_of_getElem? (i := 26) rfl)) ?_
      obtain ⟨zI5, zW6, zO7, zz8, zH9, zp10⟩ := id J
      refine w_callV (own := 16) (mi := 232) [] [] [(0, .ref (ad 50))] rfl (cllw_X11 (338, 0, 232) (List.mem_of_getElem? (i := 53) rfl)) rfl rfl (zz8.ob rfl rfl) rfl (by omega) (w_lo (n := 21) rfl (by omega)) (Nat.le_of_ble_eq_true rfl) (Nat.le_of_ble_eq_true rfl) rfl (tX11_endsAt_0_ok (48, .invokevirtual 338, 3) (List.mem_of_getElem? (i := 27) rfl)) (x_putBack hT.1 hl J (fun zh11 zJ12 => ?_))
      show ww l D tys A X fr lo mX11_endsAt Q 51 [(6, .int zv2), (5, .int a), (4, .int e), (3, .int b), (2, .int n), (1, .int p), (0, .ref (ad 50))] [] zh11
      refine w_iload (List.Mem.head _) (tX11_endsAt_0_ok (51, .iload 6, 2) (List.mem_of_getElem? (i := 28) rfl)) ?_
      refine w_iret rfl (tX11_endsAt_0_ok (53, .ireturn, 1) (List.mem_of_getElem? (i := 29) rfl)) ?_
      exact hq _ _ zJ12
    · refine w_iload (List.Mem.tail _ (List.Mem.head _)) (tX11_endsAt_0_ok (23, .iload 5, 2) (List.mem_of_getElem? (i := 13) rfl)) ?_
      refine w_aload_n (List.Mem.tail _ (List.Mem.tail _ (List.Mem.tail _ (List.Mem.tail _ (List.Mem.tail _ (List.Mem.tail _ (List.Mem.head _))))))) (tX11_endsAt_0_ok (25, .aload_n 0, 1) (List.mem_of_getElem? (i := 14) rfl)) ?_
      refine w_iload_n (List.Mem.tail _ (List.Mem.tail _ (List.Mem.tail _ (List.Mem.head _)))) (tX11_endsAt_0_ok (26, .iload_n 3, 1) (List.mem_of_getElem? (i := 15) rfl)) ?_
      refine z_cI (own := 16) (mi := 215) (Wr := [(50, 36), (56, 0)]) [.int b] [.int a] hl J (fun _ _ _ _ a b => jG.q rfl a b) rfl (cllw_X11 (307, 0, 215) (List.mem_of_getElem? (i := 42) rfl)) rfl rfl rfl rfl (sat_138 hT) ⟨⟨_, rfl, rfl, (by show (0 : Int) ≤ _; omega), (by show _ ≤ (1 : Int); omega)⟩, trivial⟩ rfl (by omega) (Nat.le_trans (m := 2900) (Nat.le_of_ble_eq_true rfl) (by omega)) (Nat.le_of_ble_eq_true rfl) (Nat.le_of_ble_eq_true rfl) (tX11_endsAt_0_ok (27, .invokevirtual 307, 3) (List.mem_of_getElem? (i := 16) rfl)) (fun zv15 zh13 zJ14 zb16 zb17 => ?_)
      show ww l D tys A X fr lo mX11_endsAt Q 30 [(6, .int k), (5, .int a), (4, .int e), (3, .int b), (2, .int n), (1, .int p), (0, .ref (ad 50))] [.int zv15, .int a] zh13
      refine w_addE (tX11_endsAt_0_ok (30, .iadd, 1) (List.mem_of_getElem? (i := 17) rfl)) (fun zv18 ze19 => ?_)
      refine w_istore [(5, .int zv18), (6, .int k), (4, .int e), (3, .int b), (2, .int n), (1, .int p), (0, .ref (ad 50))] rfl (Nat.le_of_ble_eq_true rfl) (tX11_endsAt_0_ok (31, .istore 5, 2) (List.mem_of_getElem? (i := 18) rfl)) ?_
      refine w_iinc (fun zv20 => [(6, .int zv20), (5, .int zv18), (4, .int e), (3, .int b), (2, .int n), (1, .int p), (0, .ref (ad 50))]) (fun _ => rfl) (List.Mem.tail _ (List.Mem.head _)) (Nat.le_of_ble_eq_true rfl) (by decide) (by omega) (by omega) (tX11_endsAt_0_ok (33, .iinc 6 1, 3) (List.mem_of_getElem? (i := 19) rfl)) (fun zv20 ze21 => ?_)
      refine w_goto (tgt := 17) (tX11_endsAt_0_ok (36, .goto (-19), 3) (List.mem_of_getElem? (i := 20) rfl)) rfl ?_
      refine w_lv [(6, .int zv20), (5, .int zv18), (4, .int e), (3, .int b), (2, .int n), (1, .int p), (0, .ref (ad 50))] (by intro q hq; simp only [List.mem_cons, List.not_mem_nil, or_false] at hq ⊢; rcases hq with e | e | e | e | e | e | e <;> subst e <;> simp) ?_
      exact ih (j9 - 1) (by omega) _ _ _ (by omega) (by omega) zJ14
theorem x_endsAt {p n b e : Int32} (hT : k_TX tys cA A X) (hl : ∀ L, zNM L = true → Sg (ad L) = some (lbR 50 55 L)) (hf : 70 ≤ fr) (hlo : 3000 ≤ lo) (hp : 0 ≤ p.toInt ∧ p.toInt ≤ 5) (hn : 1 ≤ n.toInt) (hb : 0 ≤ b.toInt ∧ b.toInt ≤ 1) (J : jX Sg cA ad (jF I0 W0) h) (hq : ∀ (g : ch_H) (v : Int32), jX Sg cA ad (jF I0 W0) g → Q (some (.int v)) g) : ww l D tys A X fr lo mX11_endsAt Q 0 [(0, .ref (ad 50)), (1, .int p), (2, .int n), (3, .int b), (4, .int e)] [] h := by
  refine w_aload_n (List.Mem.head _) (tX11_endsAt_0_ok (0, .aload_n 0, 1) (List.mem_of_getElem? (i := 0) rfl)) ?_
  obtain ⟨zI1, zW2, zO3, zz4, zH5, zp6⟩ := id J
  refine w_callV (own := 16) (mi := 208) [] [] [(0, .ref (ad 50))] rfl (cllw_X11 (332, 0, 208) (List.mem_of_getElem? (i := 51) rfl)) rfl rfl (zz4.ob rfl rfl) rfl (by omega) (w_lo (n := 21) rfl (by omega)) (Nat.le_of_ble_eq_true rfl) (Nat.le_of_ble_eq_true rfl) rfl (tX11_endsAt_0_ok (1, .invokevirtual 332, 3) (List.mem_of_getElem? (i := 1) rfl)) (x_keeps hT.1 hl J (fun zh7 zJ8 => ?_))
  show ww l D tys A X fr lo mX11_endsAt Q 4 [(0, .ref (ad 50)), (1, .int p), (2, .int n), (3, .int b), (4, .int e)] [] zh7
  refine w_aload_n (List.Mem.head _) (tX11_endsAt_0_ok (4, .aload_n 0, 1) (List.mem_of_getElem? (i := 2) rfl)) ?_
  refine w_iload (List.Mem.tail _ (List.Mem.tail _ (List.Mem.tail _ (List.Mem.tail _ (List.Mem.head _))))) (tX11_endsAt_0_ok (5, .iload 4, 2) (List.mem_of_getElem? (i := 3) rfl)) ?_
  refine w_i2lA (tX11_endsAt_0_ok (7, .i2l, 1) (List.mem_of_getElem? (i := 4) rfl)) (fun zw9 => ?_)
  refine x_putJ (own := 16) (k := 36) hl zJ8 (fun _ _ hp => jG.w hp) rfl rfl rfl rfl (by decide) rfl ⟨rfl, rfl⟩ (tX11_endsAt_0_ok (8, .putfield 270, 3) (List.mem_of_getElem? (i := 5) rfl)) (fun zh10 zJ11 => ?_)
  refine w_iconst (by decide) (tX11_endsAt_0_ok (11, .iconst 0, 1) (List.mem_of_getElem? (i := 6) rfl)) (fun zv12 ze13 => ?_)
  refine w_istore [(5, .int zv12), (0, .ref (ad 50)), (1, .int p), (2, .int n), (3, .int b), (4, .int e)] rfl (Nat.le_of_ble_eq_true rfl) (tX11_endsAt_0_ok (12, .istore 5, 2) (List.mem_of_getElem? (i := 7) rfl)) ?_
  refine w_iconst (by decide) (tX11_endsAt_0_ok (14, .iconst 0, 1) (List.mem_of_getElem? (i := 8) rfl)) (fun zv14 ze15 => ?_)
  refine w_istore [(6, .int zv14), (5, .int zv12), (0, .ref (ad 50)), (1, .int p), (2, .int n), (3, .int b), (4, .int e)] rfl (Nat.le_of_ble_eq_true rfl) (tX11_endsAt_0_ok (15, .istore 6, 2) (List.mem_of_getElem? (i := 9) rfl)) ?_
  refine w_lv [(6, .int zv14), (5, .int zv12), (4, .int e), (3, .int b), (2, .int n), (1, .int p), (0, .ref (ad 50))] (by intro q hq; simp only [List.mem_cons, List.not_mem_nil, or_false] at hq ⊢; rcases hq with e | e | e | e | e | e | e <;> subst e <;> simp) ?_
  exact x_endsL hT hl (by omega) (by omega) (by omega) hq n.toInt.toNat _ _ _ (by omega) (by omega) zJ11
theorem x_swayL {p n m w : Int32} (hT : k_TX tys cA A X) (hl : ∀ L, zNM L = true → Sg (ad L) = some (lbR 50 55 L)) (hf : 71 ≤ fr) (hlo : 3100 ≤ lo) (hp : (0 ≤ p.toInt ∧ p.toInt ≤ 5) ∧ 1 ≤ n.toInt ∧ m.toInt ≤ 20) (hq : ∀ (g : ch_H) (v : Int32), jX Sg cA ad (jF I0 W0) g → Q (some (.int v)) g) : ∀ (j9 : Nat) (h : ch_H) (k a : Int32), 0 ≤ a.toInt ∧ a.toInt ≤ k.toInt → k.toInt + j9 = 21 → jX Sg cA ad (jF I0 W0) h → ww l D tys A X fr lo mX11_sway Q 51 [(6, .int k), (5, .int a), (4, .int w), (3, .int m), (2, .int n), (1, .int p), (0, .ref (ad 50))] [] h := by
  intro j9
  induction j9 using Nat.strongRecOn with
  | ind j9 ih =>
    intro h k a hj0 hj1 J
    refine w_iload (List.Mem.head _) (tX11_sway_0_ok (51, .iload 6, 2) (List.mem_of_getElem? (i := 30) rfl)) ?_
    refine w_iload_n (List.Mem.tail _ (List.Mem.tail _ (List.Mem.tail _ (List.Mem.head _)))) (tX11_sway_0_ok (53, .iload_n 3, 1) (List.mem_of_getElem? (i := 31) rfl)) ?_
    refine w_icmp_ge (tgt := 87) (tX11_sway_0_ok (54, .if_icmp .ge 33, 3) (List.mem_of_getElem? (i := 32) rfl)) rfl (fun zb1 => ?_) (fun zb1 => ?_)
    · refine w_iload (List.Mem.tail _ (List.Mem.head _)) (tX11_sway_0_ok (87, .iload 5, 2) (List.mem_of_getElem? (i := 49) rfl)) ?_
      refine w_iret rfl (tX11_sway_0_ok (89, .ireturn, 1) (List.mem_of_getElem? (i := 50) rfl)) ?_
      exact hq _ _ J
    · refine w_iload (List.Mem.tail _ (List.Mem.head _)) (tX11_sway_0_ok (57, .iload 5, 2) (List.mem_of_getElem? (i := 33) rfl)) ?_
      refine w_aload_n (List.Mem.tail _ (List.Mem.tail _ (List.Mem.tail _ (List.Mem.tail _ (List.Mem.tail _ (List.Mem.tail _ (List.Mem.head _))))))) (tX11_sway_0_ok (59, .aload_n 0, 1) (List.mem_of_getElem? (i := 34) rfl)) ?_
      refine w_iload_n (List.Mem.tail _ (List.Mem.tail _ (List.Mem.tail _ (List.Mem.tail _ (List.Mem.tail _ (List.Mem.head _)))))) (tX11_sway_0_ok (60, .iload_n 1, 1) (List.mem_of_getElem? (i := 35) rfl)) ?_
      refine w_iload_n (List.Mem.tail _ (List.Mem.tail _ (List.Mem.tail _ (List.Mem.tail _ (List.Mem.head _))))) (tX11_sway_0_ok (61, .iload_n 2, 1) (List.mem_of_getElem? (i := 36) rfl)) ?_
      refine w_iconst (by decide) (tX11_sway_0_ok (62, .iconst 1, 1) (List.mem_of_getElem? (i := 37) rfl)) (fun zv2 ze3 => ?_)
      refine w_iload (List.Mem.head _) (tX11_sway_0_ok (63, .iload 6, 2) (List.mem_of_getElem? (i := 38) rfl)) ?_
      obtain ⟨zI4, zW5, zO6, zz7, zH8, zp9⟩ := id J
      refine w_callV (own := 16) (mi := 178) [.int p, .int n, .int zv2, .int k] [.int a] [(0, .ref (ad 50)), (1, .int p), (2, .int n), (3, .int zv2), (4, .int k)] rfl (cllw_X11 (408, 0, 178) (List.mem_of_getElem? (i := 71) rfl)) rfl rfl (zz7.ob rfl rfl) rfl (by omega) (w_lo (n := 26) rfl (by omega)) (Nat.le_of_ble_eq_true rfl) (Nat.le_of_ble_eq_true rfl) rfl (tX11_sway_0_ok (65, .invokevirtual 408, 3) (List.mem_of_getElem? (i := 39) rfl)) (x_endsAt hT hl (by omega) (w_sub (n := 26) rfl (by omega)) (by omega) (by omega) (by omega) J (fun zh10 zv12 zJ11 => ?_))
      show ww l D tys A X fr lo mX11_sway Q 68 [(6, .int k), (5, .int a), (4, .int w), (3, .int m), (2, .int n), (1, .int p), (0, .ref (ad 50))] [.int zv12, .int a] zh10
      refine w_iload (List.Mem.tail _ (List.Mem.tail _ (List.Mem.head _))) (tX11_sway_0_ok (68, .iload 4, 2) (List.mem_of_getElem? (i := 40) rfl)) ?_
      refine w_icmp_eq (tgt := 77) (tX11_sway_0_ok (70, .if_icmp .eq 7, 3) (List.mem_of_getElem? (i := 41) rfl)) rfl (fun zb13 => ?_) (fun zb13 => ?_)
      · refine w_iconst (by decide) (tX11_sway_0_ok (77, .iconst 0, 1) (List.mem_of_getElem? (i := 44) rfl)) (fun zv14 ze15 => ?_)
        refine w_iadd (by omega) (by omega) (tX11_sway_0_ok (78, .iadd, 1) (List.mem_of_getElem? (i := 45) rfl)) (fun zv16 ze17 => ?_)
        refine w_istore [(5, .int zv16), (6, .int k), (4, .int w), (3, .int m), (2, .int n), (1, .int p), (0, .ref (ad 50))] rfl (Nat.le_of_ble_eq_true rfl) (tX11_sway_0_ok (79, .istore 5, 2) (List.mem_of_getElem? (i := 46) rfl)) ?_
        refine w_iinc (fun zv18 => [(6, .int zv18), (5, .int zv16), (4, .int w), (3, .int m), (2, .int n), (1, .int p), (0, .ref (ad 50))]) (fun _ => rfl) (List.Mem.tail _ (List.Mem.head _)) (Nat.le_of_ble_eq_true rfl) (by decide) (by omega) (by omega) (tX11_sway_0_ok (81, .iinc 6 1, 3) (List.mem_of_getElem? (i := 47) rfl)) (fun zv18 ze19 => ?_)
        refine w_goto (tgt := 51) (tX11_sway_0_ok (84, .goto (-33), 3) (List.mem_of_getElem? (i := 48) rfl)) rfl ?_
        refine w_lv [(6, .int zv18), (5, .int zv16), (4, .int w), (3, .int m), (2, .int n), (1, .int p), (0, .ref (ad 50))] (by intro q hq; simp only [List.mem_cons, List.not_mem_nil, or_false] at hq ⊢; rcases hq with e | e | e | e | e | e | e <;> subst e <;> simp) ?_
        exact ih (j9 - 1) (by omega) _ _ _ (by omega) (by omega) zJ11
      · refine w_iconst (by decide) (tX11_sway_0_ok (73, .iconst 1, 1) (List.mem_of_getElem? (i := 42) rfl)) (fun zv20 ze21 => ?_)
        refine w_goto (tgt := 78) (tX11_sway_0_ok (74, .goto 4, 3) (List.mem_of_getElem? (i := 43) rfl)) rfl ?_
        refine w_iadd (by omega) (by omega) (tX11_sway_0_ok (78, .iadd, 1) (List.mem_of_getElem? (i := 45) rfl)) (fun zv22 ze23 => ?_)
        refine w_istore [(5, .int zv22), (6, .int k), (4, .int w), (3, .int m), (2, .int n), (1, .int p), (0, .ref (ad 50))] rfl (Nat.le_of_ble_eq_true rfl) (tX11_sway_0_ok (79, .istore 5, 2) (List.mem_of_getElem? (i := 46) rfl)) ?_
        refine w_iinc (fun zv24 => [(6, .int zv24), (5, .int zv22), (4, .int w), (3, .int m), (2, .int n), (1, .int p), (0, .ref (ad 50))]) (fun _ => rfl) (List.Mem.tail _ (List.Mem.head _)) (Nat.le_of_ble_eq_true rfl) (by decide) (by omega) (by omega) (tX11_sway_0_ok (81, .iinc 6 1, 3) (List.mem_of_getElem? (i := 47) rfl)) (fun zv24 ze25 => ?_)
        refine w_goto (tgt := 51) (tX11_sway_0_ok (84, .goto (-33), 3) (List.mem_of_getElem? (i := 48) rfl)) rfl ?_
        refine w_lv [(6, .int zv24), (5, .int zv22), (4, .int w), (3, .int m), (2, .int n), (1, .int p), (0, .ref (ad 50))] (by intro q hq; simp only [List.mem_cons, List.not_mem_nil, or_false] at hq ⊢; rcases hq with e | e | e | e | e | e | e <;> subst e <;> simp) ?_
        exact ih (j9 - 1) (by omega) _ _ _ (by omega) (by omega) zJ11
theorem x_sway {p n m : Int32} (hT : k_TX tys cA A X) (hl : ∀ L, zNM L = true → Sg (ad L) = some (lbR 50 55 L)) (hf : 71 ≤ fr) (hlo : 3100 ≤ lo) (J : jX Sg cA ad (jF I0 W0) h) (hq : ∀ (g : ch_H) (v : Int32), jX Sg cA ad (jF I0 W0) g → Q (some (.int v)) g) : ww l D tys A X fr lo mX11_sway Q 0 [(0, .ref (ad 50)), (1, .int p), (2, .int n), (3, .int m)] [] h := by
  refine w_aload_n (List.Mem.head _) (tX11_sway_0_ok (0, .aload_n 0, 1) (List.mem_of_getElem? (i := 0) rfl)) ?_
  refine w_iconst (by decide) (tX11_sway_0_ok (1, .iconst 0, 1) (List.mem_of_getElem? (i := 1) rfl)) (fun zv1 ze2 => ?_)
  refine x_putI (own := 16) (k := 0) (lo1 := -2147483648) (hi1 := 2147483647) hl J (fun _ _ _ e hp => jF.f (k := 0) (by decide) e hp) rfl rfl (i32b _) rfl rfl (by decide) rfl ⟨rfl, rfl⟩ (tX11_sway_0_ok (2, .putfield 85, 3) (List.mem_of_getElem? (i := 2) rfl)) (fun zh3 zJ4 => ?_)
  refine w_aload_n (List.Mem.head _) (tX11_sway_0_ok (5, .aload_n 0, 1) (List.mem_of_getElem? (i := 3) rfl)) ?_
  refine w_iload_n (List.Mem.tail _ (List.Mem.head _)) (tX11_sway_0_ok (6, .iload_n 1, 1) (List.mem_of_getElem? (i := 4) rfl)) ?_
  obtain ⟨zI5, zW6, zO7, zz8, zH9, zp10⟩ := id zJ4
  have zb11 := k5_bd hl zz8 zH9 (k := 20) (lo1 := 0) (hi1 := 6) rfl rfl
  refine w_callV (own := 16) (mi := 204) [.int p] [] [(0, .ref (ad 50)), (1, .int p)] rfl (cllw_X11 (286, 0, 204) (List.mem_of_getElem? (i := 35) rfl)) rfl rfl (zz8.ob rfl rfl) rfl (by omega) (w_lo (n := 21) rfl (by omega)) (Nat.le_of_ble_eq_true rfl) (Nat.le_of_ble_eq_true rfl) rfl (tX11_sway_0_ok (7, .invokevirtual 286, 3) (List.mem_of_getElem? (i := 5) rfl)) (y_isRope hT.1 zz8 (n := (zI5 50 20).toInt.toNat) (by omega) (by omega)  (fun zv12 ze13 => ?_))
  show ww l D tys A X fr lo mX11_sway Q 10 [(0, .ref (ad 50)), (1, .int p), (2, .int n), (3, .int m)] [.int zv12] zh3
  refine w_if_eq (tgt := 33) (tX11_sway_0_ok (10, .ifCond .eq 23, 3) (List.mem_of_getElem? (i := 6) rfl)) rfl (fun zb14 => ?_) (fun zb14 => ?_)
  · refine w_iconst (by decide) (tX11_sway_0_ok (33, .iconst (-1), 1) (List.mem_of_getElem? (i := 17) rfl)) (fun zv15 ze16 => ?_)
    refine w_iret rfl (tX11_sway_0_ok (34, .ireturn, 1) (List.mem_of_getElem? (i := 18) rfl)) ?_
    exact hq _ _ zJ4
  · refine w_iload_n (List.Mem.tail _ (List.Mem.tail _ (List.Mem.head _))) (tX11_sway_0_ok (13, .iload_n 2, 1) (List.mem_of_getElem? (i := 7) rfl)) ?_
    refine w_iconst (by decide) (tX11_sway_0_ok (14, .iconst 1, 1) (List.mem_of_getElem? (i := 8) rfl)) (fun zv17 ze18 => ?_)
    refine w_bipush (by decide) (tX11_sway_0_ok (15, .bipush 60, 2) (List.mem_of_getElem? (i := 9) rfl)) (fun zv19 ze20 => ?_)
    refine w_callS (own := 16) (mi := 199) [.int n, .int zv17, .int zv19] [] [(0, .int n), (1, .int zv17), (2, .int zv19)] rfl (cllw_X11 (207, 1, 199) (List.mem_of_getElem? (i := 2) rfl)) rfl rfl (by omega) (w_lo (n := 22) rfl (by omega)) (Nat.le_of_ble_eq_true rfl) (Nat.le_of_ble_eq_true rfl) rfl (tX11_sway_0_ok (17, .invokestatic 207, 3) (List.mem_of_getElem? (i := 10) rfl)) (r_isIn (fun zv21 ze22 => ?_))
    show ww l D tys A X fr lo mX11_sway Q 20 [(0, .ref (ad 50)), (1, .int p), (2, .int n), (3, .int m)] [.int zv21] zh3
    refine w_if_eq (tgt := 33) (tX11_sway_0_ok (20, .ifCond .eq 13, 3) (List.mem_of_getElem? (i := 11) rfl)) rfl (fun zb23 => ?_) (fun zb23 => ?_)
    · refine w_iconst (by decide) (tX11_sway_0_ok (33, .iconst (-1), 1) (List.mem_of_getElem? (i := 17) rfl)) (fun zv24 ze25 => ?_)
      refine w_iret rfl (tX11_sway_0_ok (34, .ireturn, 1) (List.mem_of_getElem? (i := 18) rfl)) ?_
      exact hq _ _ zJ4
    · refine w_iload_n (List.Mem.tail _ (List.Mem.tail _ (List.Mem.tail _ (List.Mem.head _)))) (tX11_sway_0_ok (23, .iload_n 3, 1) (List.mem_of_getElem? (i := 12) rfl)) ?_
      refine w_iconst (by decide) (tX11_sway_0_ok (24, .iconst 1, 1) (List.mem_of_getElem? (i := 13) rfl)) (fun zv26 ze27 => ?_)
      refine w_bipush (by decide) (tX11_sway_0_ok (25, .bipush 20, 2) (List.mem_of_getElem? (i := 14) rfl)) (fun zv28 ze29 => ?_)
      refine w_callS (own := 16) (mi := 199) [.int m, .int zv26, .int zv28] [] [(0, .int m), (1, .int zv26), (2, .int zv28)] rfl (cllw_X11 (207, 1, 199) (List.mem_of_getElem? (i := 2) rfl)) rfl rfl (by omega) (w_lo (n := 22) rfl (by omega)) (Nat.le_of_ble_eq_true rfl) (Nat.le_of_ble_eq_true rfl) rfl (tX11_sway_0_ok (27, .invokestatic 207, 3) (List.mem_of_getElem? (i := 15) rfl)) (r_isIn (fun zv30 ze31 => ?_))
      show ww l D tys A X fr lo mX11_sway Q 30 [(0, .ref (ad 50)), (1, .int p), (2, .int n), (3, .int m)] [.int zv30] zh3
      refine w_if_ne (tgt := 35) (tX11_sway_0_ok (30, .ifCond .ne 5, 3) (List.mem_of_getElem? (i := 16) rfl)) rfl (fun zb32 => ?_) (fun zb32 => ?_)
      · refine w_aload_n (List.Mem.head _) (tX11_sway_0_ok (35, .aload_n 0, 1) (List.mem_of_getElem? (i := 19) rfl)) ?_
        refine w_iload_n (List.Mem.tail _ (List.Mem.head _)) (tX11_sway_0_ok (36, .iload_n 1, 1) (List.mem_of_getElem? (i := 20) rfl)) ?_
        refine w_iload_n (List.Mem.tail _ (List.Mem.tail _ (List.Mem.head _))) (tX11_sway_0_ok (37, .iload_n 2, 1) (List.mem_of_getElem? (i := 21) rfl)) ?_
        refine w_iconst (by decide) (tX11_sway_0_ok (38, .iconst 0, 1) (List.mem_of_getElem? (i := 22) rfl)) (fun zv33 ze34 => ?_)
        refine w_iconst (by decide) (tX11_sway_0_ok (39, .iconst 0, 1) (List.mem_of_getElem? (i := 23) rfl)) (fun zv35 ze36 => ?_)
        obtain ⟨zI37, zW38, zO39, zz40, zH41, zp42⟩ := id zJ4
        refine w_callV (own := 16) (mi := 178) [.int p, .int n, .int zv33, .int zv35] [] [(0, .ref (ad 50)), (1, .int p), (2, .int n), (3, .int zv33), (4, .int zv35)] rfl (cllw_X11 (408, 0, 178) (List.mem_of_getElem? (i := 71) rfl)) rfl rfl (zz40.ob rfl rfl) rfl (by omega) (w_lo (n := 26) rfl (by omega)) (Nat.le_of_ble_eq_true rfl) (Nat.le_of_ble_eq_true rfl) rfl (tX11_sway_0_ok (40, .invokevirtual 408, 3) (List.mem_of_getElem? (i := 24) rfl)) (x_endsAt hT hl (by omega) (w_sub (n := 26) rfl (by omega)) (by omega) (by omega) (by omega) zJ4 (fun zh43 zv45 zJ44 => ?_))
        show ww l D tys A X fr lo mX11_sway Q 43 [(0, .ref (ad 50)), (1, .int p), (2, .int n), (3, .int m)] [.int zv45] zh43
        refine w_istore [(4, .int zv45), (0, .ref (ad 50)), (1, .int p), (2, .int n), (3, .int m)] rfl (Nat.le_of_ble_eq_true rfl) (tX11_sway_0_ok (43, .istore 4, 2) (List.mem_of_getElem? (i := 25) rfl)) ?_
        refine w_iconst (by decide) (tX11_sway_0_ok (45, .iconst 0, 1) (List.mem_of_getElem? (i := 26) rfl)) (fun zv46 ze47 => ?_)
        refine w_istore [(5, .int zv46), (4, .int zv45), (0, .ref (ad 50)), (1, .int p), (2, .int n), (3, .int m)] rfl (Nat.le_of_ble_eq_true rfl) (tX11_sway_0_ok (46, .istore 5, 2) (List.mem_of_getElem? (i := 27) rfl)) ?_
        refine w_iconst (by decide) (tX11_sway_0_ok (48, .iconst 0, 1) (List.mem_of_getElem? (i := 28) rfl)) (fun zv48 ze49 => ?_)
        refine w_istore [(6, .int zv48), (5, .int zv46), (4, .int zv45), (0, .ref (ad 50)), (1, .int p), (2, .int n), (3, .int m)] rfl (Nat.le_of_ble_eq_true rfl) (tX11_sway_0_ok (49, .istore 6, 2) (List.mem_of_getElem? (i := 29) rfl)) ?_
        refine w_lv [(6, .int zv48), (5, .int zv46), (4, .int zv45), (3, .int m), (2, .int n), (1, .int p), (0, .ref (ad 50))] (by intro q hq; simp only [List.mem_cons, List.not_mem_nil, or_false] at hq ⊢; rcases hq with e | e | e | e | e | e | e <;> subst e <;> simp) ?_
        exact x_swayL hT hl (by omega) (by omega) (by omega) hq 21 _ _ _ (by omega) (by omega) zJ44
      · refine w_iconst (by decide) (tX11_sway_0_ok (33, .iconst (-1), 1) (List.mem_of_getElem? (i := 17) rfl)) (fun zv50 ze51 => ?_)
        refine w_iret rfl (tX11_sway_0_ok (34, .ireturn, 1) (List.mem_of_getElem? (i := 18) rfl)) ?_
        exact hq _ _ zJ4
theorem x_tries {r n : Int32} (hT : k_TX tys cA A X) (hl : ∀ L, zNM L = true → Sg (ad L) = some (lbR 50 55 L)) (hf : 70 ≤ fr) (hlo : 3000 ≤ lo) (hr : 0 ≤ r.toInt ∧ r.toInt ≤ 3) (hn : 1 ≤ n.toInt ∧ n.toInt ≤ 60) (J : jX Sg cA ad (jF I0 W0) h) (hq : ∀ (g : ch_H), jX Sg cA ad (jF I0 W0) g → Q none g) : ww l D tys A X fr lo mX11_tries Q 0 [(0, .ref (ad 50)), (1, .int r), (2, .int n)] [] h := by
  refine w_aload_n (List.Mem.head _) (tX11_tries_0_ok (0, .aload_n 0, 1) (List.mem_of_getElem? (i := 0) rfl)) ?_
  obtain ⟨zI1, zW2, zO3, zz4, zH5, zp6⟩ := id J
  refine w_callV (own := 16) (mi := 208) [] [] [(0, .ref (ad 50))] rfl (cllw_X11 (332, 0, 208) (List.mem_of_getElem? (i := 51) rfl)) rfl rfl (zz4.ob rfl rfl) rfl (by omega) (w_lo (n := 21) rfl (by omega)) (Nat.le_of_ble_eq_true rfl) (Nat.le_of_ble_eq_true rfl) rfl (tX11_tries_0_ok (1, .invokevirtual 332, 3) (List.mem_of_getElem? (i := 1) rfl)) (x_keeps hT.1 hl J (fun zh7 zJ8 => ?_))
  show ww l D tys A X fr lo mX11_tries Q 4 [(0, .ref (ad 50)), (1, .int r), (2, .int n)] [] zh7
  refine w_aload_n (List.Mem.head _) (tX11_tries_0_ok (4, .aload_n 0, 1) (List.mem_of_getElem? (i := 2) rfl)) ?_
  refine w_aload_n (List.Mem.head _) (tX11_tries_0_ok (5, .aload_n 0, 1) (List.mem_of_getElem? (i := 3) rfl)) ?_
  refine w_iload_n (List.Mem.tail _ (List.Mem.head _)) (tX11_tries_0_ok (6, .iload_n 1, 1) (List.mem_of_getElem? (i := 4) rfl)) ?_
  refine w_iload_n (List.Mem.tail _ (List.Mem.tail _ (List.Mem.head _))) (tX11_tries_0_ok (7, .iload_n 2, 1) (List.mem_of_getElem? (i := 5) rfl)) ?_
  refine z_cI (own := 16) (mi := 209) (Wr := [(50, 5), (50, 8), (50, 9), (50, 10), (50, 11), (50, 12), (50, 13), (50, 14), (50, 18), (50, 36), (54, 0), (56, 0)]) [.int r, .int n] [.ref (ad 50)] hl zJ8 (fun _ _ _ _ a b => jG.q rfl a b) rfl (cllw_X11 (389, 0, 209) (List.mem_of_getElem? (i := 67) rfl)) rfl rfl rfl rfl (sat_219 hT) ⟨⟨_, rfl, rfl, (by show (0 : Int) ≤ _; omega), (by show _ ≤ (3 : Int); omega)⟩, ⟨⟨_, rfl, rfl, (by show (1 : Int) ≤ _; omega), (by show _ ≤ (60 : Int); omega)⟩, trivial⟩⟩ rfl (by omega) (Nat.le_trans (m := 2900) (Nat.le_of_ble_eq_true rfl) (by omega)) (Nat.le_of_ble_eq_true rfl) (Nat.le_of_ble_eq_true rfl) (tX11_tries_0_ok (8, .invokevirtual 389, 3) (List.mem_of_getElem? (i := 6) rfl)) (fun zv11 zh9 zJ10 zb12 zb13 => ?_)
  show ww l D tys A X fr lo mX11_tries Q 11 [(0, .ref (ad 50)), (1, .int r), (2, .int n)] [.int zv11, .ref (ad 50)] zh9
  refine x_putI (own := 16) (k := 44) (lo1 := -2147483648) (hi1 := 2147483647) hl zJ10 (fun _ _ _ e hp => jG.f (k := 44) (by decide) e hp) rfl rfl (i32b _) rfl rfl (by decide) rfl ⟨rfl, rfl⟩ (tX11_tries_0_ok (11, .putfield 392, 3) (List.mem_of_getElem? (i := 7) rfl)) (fun zh14 zJ15 => ?_)
  refine w_aload_n (List.Mem.head _) (tX11_tries_0_ok (14, .aload_n 0, 1) (List.mem_of_getElem? (i := 8) rfl)) ?_
  refine w_aload_n (List.Mem.head _) (tX11_tries_0_ok (15, .aload_n 0, 1) (List.mem_of_getElem? (i := 9) rfl)) ?_
  refine z_cI (own := 16) (mi := 261) (Wr := []) [] [.ref (ad 50)] hl zJ15 (fun _ _ _ _ a b => jG.q rfl a b) rfl (cllw_X11 (341, 0, 261) (List.mem_of_getElem? (i := 56) rfl)) rfl rfl rfl rfl (sat_157 hT) trivial rfl (by omega) (Nat.le_trans (m := 2900) (Nat.le_of_ble_eq_true rfl) (by omega)) (Nat.le_of_ble_eq_true rfl) (Nat.le_of_ble_eq_true rfl) (tX11_tries_0_ok (16, .invokevirtual 341, 3) (List.mem_of_getElem? (i := 10) rfl)) (fun zv18 zh16 zJ17 zb19 zb20 => ?_)
  show ww l D tys A X fr lo mX11_tries Q 19 [(0, .ref (ad 50)), (1, .int r), (2, .int n)] [.int zv18, .ref (ad 50)] zh16
  refine x_putI (own := 16) (k := 45) (lo1 := -2147483648) (hi1 := 2147483647) hl zJ17 (fun _ _ _ e hp => jG.f (k := 45) (by decide) e hp) rfl rfl (i32b _) rfl rfl (by decide) rfl ⟨rfl, rfl⟩ (tX11_tries_0_ok (19, .putfield 395, 3) (List.mem_of_getElem? (i := 11) rfl)) (fun zh21 zJ22 => ?_)
  refine w_aload_n (List.Mem.head _) (tX11_tries_0_ok (22, .aload_n 0, 1) (List.mem_of_getElem? (i := 12) rfl)) ?_
  obtain ⟨zI23, zW24, zO25, zz26, zH27, zp28⟩ := id zJ22
  refine w_callV (own := 16) (mi := 232) [] [] [(0, .ref (ad 50))] rfl (cllw_X11 (338, 0, 232) (List.mem_of_getElem? (i := 53) rfl)) rfl rfl (zz26.ob rfl rfl) rfl (by omega) (w_lo (n := 21) rfl (by omega)) (Nat.le_of_ble_eq_true rfl) (Nat.le_of_ble_eq_true rfl) rfl (tX11_tries_0_ok (23, .invokevirtual 338, 3) (List.mem_of_getElem? (i := 13) rfl)) (x_putBack hT.1 hl zJ22 (fun zh29 zJ30 => ?_))
  show ww l D tys A X fr lo mX11_tries Q 26 [(0, .ref (ad 50)), (1, .int r), (2, .int n)] [] zh29
  refine w_vret rfl (tX11_tries_0_ok (26, .return_, 1) (List.mem_of_getElem? (i := 14) rfl)) ?_
  exact hq _ zJ30
theorem x_tried {r n w : Int32} (hT : k_TX tys cA A X) (hl : ∀ L, zNM L = true → Sg (ad L) = some (lbR 50 55 L)) (hf : 71 ≤ fr) (hlo : 3100 ≤ lo) (J : jX Sg cA ad (jF I0 W0) h) (hq : ∀ (g : ch_H) (v : Int32), jX Sg cA ad (jF I0 W0) g → Q (some (.int v)) g) : ww l D tys A X fr lo mX11_tried Q 0 [(0, .ref (ad 50)), (1, .int r), (2, .int n), (3, .int w)] [] h := by
  refine w_aload_n (List.Mem.head _) (tX11_tried_0_ok (0, .aload_n 0, 1) (List.mem_of_getElem? (i := 0) rfl)) ?_
  refine w_iconst (by decide) (tX11_tried_0_ok (1, .iconst 0, 1) (List.mem_of_getElem? (i := 1) rfl)) (fun zv1 ze2 => ?_)
  refine x_putI (own := 16) (k := 0) (lo1 := -2147483648) (hi1 := 2147483647) hl J (fun _ _ _ e hp => jF.f (k := 0) (by decide) e hp) rfl rfl (i32b _) rfl rfl (by decide) rfl ⟨rfl, rfl⟩ (tX11_tried_0_ok (2, .putfield 85, 3) (List.mem_of_getElem? (i := 2) rfl)) (fun zh3 zJ4 => ?_)
  refine w_aload_n (List.Mem.head _) (tX11_tried_0_ok (5, .aload_n 0, 1) (List.mem_of_getElem? (i := 3) rfl)) ?_
  refine w_iload_n (List.Mem.tail _ (List.Mem.head _)) (tX11_tried_0_ok (6, .iload_n 1, 1) (List.mem_of_getElem? (i := 4) rfl)) ?_
  obtain ⟨zI5, zW6, zO7, zz8, zH9, zp10⟩ := id zJ4
  have zb11 := k5_bd hl zz8 zH9 (k := 7) (lo1 := 0) (hi1 := 4) rfl rfl
  refine w_callV (own := 16) (mi := 205) [.int r] [] [(0, .ref (ad 50)), (1, .int r)] rfl (cllw_X11 (383, 0, 205) (List.mem_of_getElem? (i := 65) rfl)) rfl rfl (zz8.ob rfl rfl) rfl (by omega) (w_lo (n := 21) rfl (by omega)) (Nat.le_of_ble_eq_true rfl) (Nat.le_of_ble_eq_true rfl) rfl (tX11_tried_0_ok (7, .invokevirtual 383, 3) (List.mem_of_getElem? (i := 5) rfl)) (y_isRule zz8 (n := (zI5 50 7).toInt.toNat) (by omega)  (fun zv12 ze13 => ?_))
  show ww l D tys A X fr lo mX11_tried Q 10 [(0, .ref (ad 50)), (1, .int r), (2, .int n), (3, .int w)] [.int zv12] zh3
  refine w_if_eq (tgt := 30) (tX11_tried_0_ok (10, .ifCond .eq 20, 3) (List.mem_of_getElem? (i := 6) rfl)) rfl (fun zb14 => ?_) (fun zb14 => ?_)
  · refine w_iconst (by decide) (tX11_tried_0_ok (30, .iconst (-1), 1) (List.mem_of_getElem? (i := 16) rfl)) (fun zv15 ze16 => ?_)
    refine w_iret rfl (tX11_tried_0_ok (31, .ireturn, 1) (List.mem_of_getElem? (i := 17) rfl)) ?_
    exact hq _ _ zJ4
  · refine w_aload_n (List.Mem.head _) (tX11_tried_0_ok (13, .aload_n 0, 1) (List.mem_of_getElem? (i := 7) rfl)) ?_
    refine w_iload_n (List.Mem.tail _ (List.Mem.tail _ (List.Mem.head _))) (tX11_tried_0_ok (14, .iload_n 2, 1) (List.mem_of_getElem? (i := 8) rfl)) ?_
    obtain ⟨zI17, zW18, zO19, zz20, zH21, zp22⟩ := id zJ4
    refine w_callV (own := 16) (mi := 200) [.int n] [] [(0, .ref (ad 50)), (1, .int n)] rfl (cllw_X11 (386, 0, 200) (List.mem_of_getElem? (i := 66) rfl)) rfl rfl (zz20.ob rfl rfl) rfl (by omega) (w_lo (n := 21) rfl (by omega)) (Nat.le_of_ble_eq_true rfl) (Nat.le_of_ble_eq_true rfl) rfl (tX11_tried_0_ok (15, .invokevirtual 386, 3) (List.mem_of_getElem? (i := 9) rfl)) (y_isKept zz20 (by omega) (w_sub (n := 21) rfl (by omega)) (fun zv23 ze24 => ?_))
    show ww l D tys A X fr lo mX11_tried Q 18 [(0, .ref (ad 50)), (1, .int r), (2, .int n), (3, .int w)] [.int zv23] zh3
    refine w_if_eq (tgt := 30) (tX11_tried_0_ok (18, .ifCond .eq 12, 3) (List.mem_of_getElem? (i := 10) rfl)) rfl (fun zb25 => ?_) (fun zb25 => ?_)
    · refine w_iconst (by decide) (tX11_tried_0_ok (30, .iconst (-1), 1) (List.mem_of_getElem? (i := 16) rfl)) (fun zv26 ze27 => ?_)
      refine w_iret rfl (tX11_tried_0_ok (31, .ireturn, 1) (List.mem_of_getElem? (i := 17) rfl)) ?_
      exact hq _ _ zJ4
    · refine w_iload_n (List.Mem.tail _ (List.Mem.tail _ (List.Mem.tail _ (List.Mem.head _)))) (tX11_tried_0_ok (21, .iload_n 3, 1) (List.mem_of_getElem? (i := 11) rfl)) ?_
      refine w_iconst (by decide) (tX11_tried_0_ok (22, .iconst 0, 1) (List.mem_of_getElem? (i := 12) rfl)) (fun zv28 ze29 => ?_)
      refine w_iconst (by decide) (tX11_tried_0_ok (23, .iconst 1, 1) (List.mem_of_getElem? (i := 13) rfl)) (fun zv30 ze31 => ?_)
      refine w_callS (own := 16) (mi := 199) [.int w, .int zv28, .int zv30] [] [(0, .int w), (1, .int zv28), (2, .int zv30)] rfl (cllw_X11 (207, 1, 199) (List.mem_of_getElem? (i := 2) rfl)) rfl rfl (by omega) (w_lo (n := 22) rfl (by omega)) (Nat.le_of_ble_eq_true rfl) (Nat.le_of_ble_eq_true rfl) rfl (tX11_tried_0_ok (24, .invokestatic 207, 3) (List.mem_of_getElem? (i := 14) rfl)) (r_isIn (fun zv32 ze33 => ?_))
      show ww l D tys A X fr lo mX11_tried Q 27 [(0, .ref (ad 50)), (1, .int r), (2, .int n), (3, .int w)] [.int zv32] zh3
      refine w_if_ne (tgt := 32) (tX11_tried_0_ok (27, .ifCond .ne 5, 3) (List.mem_of_getElem? (i := 15) rfl)) rfl (fun zb34 => ?_) (fun zb34 => ?_)
      · refine w_aload_n (List.Mem.head _) (tX11_tried_0_ok (32, .aload_n 0, 1) (List.mem_of_getElem? (i := 18) rfl)) ?_
        refine w_iload_n (List.Mem.tail _ (List.Mem.head _)) (tX11_tried_0_ok (33, .iload_n 1, 1) (List.mem_of_getElem? (i := 19) rfl)) ?_
        refine w_iload_n (List.Mem.tail _ (List.Mem.tail _ (List.Mem.head _))) (tX11_tried_0_ok (34, .iload_n 2, 1) (List.mem_of_getElem? (i := 20) rfl)) ?_
        obtain ⟨zI35, zW36, zO37, zz38, zH39, zp40⟩ := id zJ4
        refine w_callV (own := 16) (mi := 254) [.int r, .int n] [] [(0, .ref (ad 50)), (1, .int r), (2, .int n)] rfl (cllw_X11 (398, 0, 254) (List.mem_of_getElem? (i := 68) rfl)) rfl rfl (zz38.ob rfl rfl) rfl (by omega) (w_lo (n := 22) rfl (by omega)) (Nat.le_of_ble_eq_true rfl) (Nat.le_of_ble_eq_true rfl) rfl (tX11_tried_0_ok (35, .invokevirtual 398, 3) (List.mem_of_getElem? (i := 21) rfl)) (x_tries hT hl (by omega) (w_sub (n := 22) rfl (by omega)) (by omega) (by omega) zJ4 (fun zh41 zJ42 => ?_))
        show ww l D tys A X fr lo mX11_tried Q 38 [(0, .ref (ad 50)), (1, .int r), (2, .int n), (3, .int w)] [] zh41
        refine w_iload_n (List.Mem.tail _ (List.Mem.tail _ (List.Mem.tail _ (List.Mem.head _)))) (tX11_tried_0_ok (38, .iload_n 3, 1) (List.mem_of_getElem? (i := 22) rfl)) ?_
        refine w_if_ne (tgt := 49) (tX11_tried_0_ok (39, .ifCond .ne 10, 3) (List.mem_of_getElem? (i := 23) rfl)) rfl (fun zb43 => ?_) (fun zb43 => ?_)
        · refine w_aload_n (List.Mem.head _) (tX11_tried_0_ok (49, .aload_n 0, 1) (List.mem_of_getElem? (i := 27) rfl)) ?_
          refine x_getI (own := 16) (k := 45) (lo1 := -2147483648) (hi1 := 2147483647) hl zJ42 rfl rfl rfl rfl (by decide) (tX11_tried_0_ok (50, .getfield 395, 3) (List.mem_of_getElem? (i := 28) rfl)) (fun zv46 zb44 zb45 => ?_)
          refine w_iret rfl (tX11_tried_0_ok (53, .ireturn, 1) (List.mem_of_getElem? (i := 29) rfl)) ?_
          exact hq _ _ zJ42
        · refine w_aload_n (List.Mem.head _) (tX11_tried_0_ok (42, .aload_n 0, 1) (List.mem_of_getElem? (i := 24) rfl)) ?_
          refine x_getI (own := 16) (k := 44) (lo1 := -2147483648) (hi1 := 2147483647) hl zJ42 rfl rfl rfl rfl (by decide) (tX11_tried_0_ok (43, .getfield 392, 3) (List.mem_of_getElem? (i := 25) rfl)) (fun zv49 zb47 zb48 => ?_)
          refine w_goto (tgt := 53) (tX11_tried_0_ok (46, .goto 7, 3) (List.mem_of_getElem? (i := 26) rfl)) rfl ?_
          refine w_iret rfl (tX11_tried_0_ok (53, .ireturn, 1) (List.mem_of_getElem? (i := 29) rfl)) ?_
          exact hq _ _ zJ42
      · refine w_iconst (by decide) (tX11_tried_0_ok (30, .iconst (-1), 1) (List.mem_of_getElem? (i := 16) rfl)) (fun zv50 ze51 => ?_)
        refine w_iret rfl (tX11_tried_0_ok (31, .ireturn, 1) (List.mem_of_getElem? (i := 17) rfl)) ?_
        exact hq _ _ zJ4
theorem x_bestL {n : Int32} (hT : k_TX tys cA A X) (hl : ∀ L, zNM L = true → Sg (ad L) = some (lbR 50 55 L)) (hf : 71 ≤ fr) (hlo : 3100 ≤ lo) (hp : 1 ≤ n.toInt ∧ n.toInt ≤ 60) (hq : ∀ (g : ch_H) (v : Int32), jX Sg cA ad (jF I0 W0) g → Q (some (.int v)) g) : ∀ (j9 : Nat) (h : ch_H) (k c b a : Int32), 0 ≤ k.toInt → k.toInt + j9 = 4 → jX Sg cA ad (jF I0 W0) h → ww l D tys A X fr lo mX11_best Q 25 [(5, .int k), (4, .int c), (3, .int b), (2, .int a), (1, .int n), (0, .ref (ad 50))] [] h := by
  intro j9
  induction j9 using Nat.strongRecOn with
  | ind j9 ih =>
    intro h k c b a hj0 hj1 J
    refine w_iload (List.Mem.head _) (tX11_best_0_ok (25, .iload 5, 2) (List.mem_of_getElem? (i := 17) rfl)) ?_
    refine w_aload_n (List.Mem.tail _ (List.Mem.tail _ (List.Mem.tail _ (List.Mem.tail _ (List.Mem.tail _ (List.Mem.head _)))))) (tX11_best_0_ok (27, .aload_n 0, 1) (List.mem_of_getElem? (i := 18) rfl)) ?_
    refine x_getE (I0 := I0) (own := 16) (k := 7) (lo1 := 0) (hi1 := 4) hl J (fun _ _ hp => hp.1.2.1 7 (by decide)) rfl rfl rfl rfl (by decide) (tX11_best_0_ok (28, .getfield 243, 3) (List.mem_of_getElem? (i := 19) rfl)) (fun zb1 zb2 => ?_)
    refine w_icmp_ge (tgt := 95) (tX11_best_0_ok (31, .if_icmp .ge 64, 3) (List.mem_of_getElem? (i := 20) rfl)) rfl (fun zb3 => ?_) (fun zb3 => ?_)
    · refine w_iload_n (List.Mem.tail _ (List.Mem.tail _ (List.Mem.tail _ (List.Mem.head _)))) (tX11_best_0_ok (95, .iload_n 2, 1) (List.mem_of_getElem? (i := 51) rfl)) ?_
      refine w_iret rfl (tX11_best_0_ok (96, .ireturn, 1) (List.mem_of_getElem? (i := 52) rfl)) ?_
      exact hq _ _ J
    · refine w_aload_n (List.Mem.tail _ (List.Mem.tail _ (List.Mem.tail _ (List.Mem.tail _ (List.Mem.tail _ (List.Mem.head _)))))) (tX11_best_0_ok (34, .aload_n 0, 1) (List.mem_of_getElem? (i := 21) rfl)) ?_
      refine w_iload (List.Mem.head _) (tX11_best_0_ok (35, .iload 5, 2) (List.mem_of_getElem? (i := 22) rfl)) ?_
      refine w_iload_n (List.Mem.tail _ (List.Mem.tail _ (List.Mem.tail _ (List.Mem.tail _ (List.Mem.head _))))) (tX11_best_0_ok (37, .iload_n 1, 1) (List.mem_of_getElem? (i := 23) rfl)) ?_
      obtain ⟨zI4, zW5, zO6, zz7, zH8, zp9⟩ := id J
      refine w_callV (own := 16) (mi := 254) [.int k, .int n] [] [(0, .ref (ad 50)), (1, .int k), (2, .int n)] rfl (cllw_X11 (398, 0, 254) (List.mem_of_getElem? (i := 68) rfl)) rfl rfl (zz7.ob rfl rfl) rfl (by omega) (w_lo (n := 22) rfl (by omega)) (Nat.le_of_ble_eq_true rfl) (Nat.le_of_ble_eq_true rfl) rfl (tX11_best_0_ok (38, .invokevirtual 398, 3) (List.mem_of_getElem? (i := 24) rfl)) (x_tries hT hl (by omega) (w_sub (n := 22) rfl (by omega)) (by omega) (by omega) J (fun zh10 zJ11 => ?_))
      show ww l D tys A X fr lo mX11_best Q 41 [(5, .int k), (4, .int c), (3, .int b), (2, .int a), (1, .int n), (0, .ref (ad 50))] [] zh10
      refine w_iload_n (List.Mem.tail _ (List.Mem.tail _ (List.Mem.tail _ (List.Mem.head _)))) (tX11_best_0_ok (41, .iload_n 2, 1) (List.mem_of_getElem? (i := 25) rfl)) ?_
      refine w_iconst (by decide) (tX11_best_0_ok (42, .iconst (-1), 1) (List.mem_of_getElem? (i := 26) rfl)) (fun zv12 ze13 => ?_)
      refine w_icmp_eq (tgt := 75) (tX11_best_0_ok (43, .if_icmp .eq 32, 3) (List.mem_of_getElem? (i := 27) rfl)) rfl (fun zb14 => ?_) (fun zb14 => ?_)
      · refine w_iload (List.Mem.head _) (tX11_best_0_ok (75, .iload 5, 2) (List.mem_of_getElem? (i := 41) rfl)) ?_
        refine w_istore_n [(2, .int k), (5, .int k), (4, .int c), (3, .int b), (1, .int n), (0, .ref (ad 50))] rfl (Nat.le_of_ble_eq_true rfl) (tX11_best_0_ok (77, .istore_n 2, 1) (List.mem_of_getElem? (i := 42) rfl)) ?_
        refine w_aload_n (List.Mem.tail _ (List.Mem.tail _ (List.Mem.tail _ (List.Mem.tail _ (List.Mem.tail _ (List.Mem.head _)))))) (tX11_best_0_ok (78, .aload_n 0, 1) (List.mem_of_getElem? (i := 43) rfl)) ?_
        refine x_getI (own := 16) (k := 44) (lo1 := -2147483648) (hi1 := 2147483647) hl zJ11 rfl rfl rfl rfl (by decide) (tX11_best_0_ok (79, .getfield 392, 3) (List.mem_of_getElem? (i := 44) rfl)) (fun zv17 zb15 zb16 => ?_)
        refine w_istore_n [(3, .int zv17), (2, .int k), (5, .int k), (4, .int c), (1, .int n), (0, .ref (ad 50))] rfl (Nat.le_of_ble_eq_true rfl) (tX11_best_0_ok (82, .istore_n 3, 1) (List.mem_of_getElem? (i := 45) rfl)) ?_
        refine w_aload_n (List.Mem.tail _ (List.Mem.tail _ (List.Mem.tail _ (List.Mem.tail _ (List.Mem.tail _ (List.Mem.head _)))))) (tX11_best_0_ok (83, .aload_n 0, 1) (List.mem_of_getElem? (i := 46) rfl)) ?_
        refine x_getI (own := 16) (k := 45) (lo1 := -2147483648) (hi1 := 2147483647) hl zJ11 rfl rfl rfl rfl (by decide) (tX11_best_0_ok (84, .getfield 395, 3) (List.mem_of_getElem? (i := 47) rfl)) (fun zv20 zb18 zb19 => ?_)
        refine w_istore [(4, .int zv20), (3, .int zv17), (2, .int k), (5, .int k), (1, .int n), (0, .ref (ad 50))] rfl (Nat.le_of_ble_eq_true rfl) (tX11_best_0_ok (87, .istore 4, 2) (List.mem_of_getElem? (i := 48) rfl)) ?_
        refine w_iinc (fun zv21 => [(5, .int zv21), (4, .int zv20), (3, .int zv17), (2, .int k), (1, .int n), (0, .ref (ad 50))]) (fun _ => rfl) (List.Mem.tail _ (List.Mem.tail _ (List.Mem.tail _ (List.Mem.head _)))) (Nat.le_of_ble_eq_true rfl) (by decide) (by omega) (by omega) (tX11_best_0_ok (89, .iinc 5 1, 3) (List.mem_of_getElem? (i := 49) rfl)) (fun zv21 ze22 => ?_)
        refine w_goto (tgt := 25) (tX11_best_0_ok (92, .goto (-67), 3) (List.mem_of_getElem? (i := 50) rfl)) rfl ?_
        refine w_lv [(5, .int zv21), (4, .int zv20), (3, .int zv17), (2, .int k), (1, .int n), (0, .ref (ad 50))] (by intro q hq; simp only [List.mem_cons, List.not_mem_nil, or_false] at hq ⊢; rcases hq with e | e | e | e | e | e <;> subst e <;> simp) ?_
        exact ih (j9 - 1) (by omega) _ _ _ _ _ (by omega) (by omega) zJ11
      · refine w_aload_n (List.Mem.tail _ (List.Mem.tail _ (List.Mem.tail _ (List.Mem.tail _ (List.Mem.tail _ (List.Mem.head _)))))) (tX11_best_0_ok (46, .aload_n 0, 1) (List.mem_of_getElem? (i := 28) rfl)) ?_
        refine x_getI (own := 16) (k := 45) (lo1 := -2147483648) (hi1 := 2147483647) hl zJ11 rfl rfl rfl rfl (by decide) (tX11_best_0_ok (47, .getfield 395, 3) (List.mem_of_getElem? (i := 29) rfl)) (fun zv25 zb23 zb24 => ?_)
        refine w_iload (List.Mem.tail _ (List.Mem.head _)) (tX11_best_0_ok (50, .iload 4, 2) (List.mem_of_getElem? (i := 30) rfl)) ?_
        refine w_icmp_lt (tgt := 89) (tX11_best_0_ok (52, .if_icmp .lt 37, 3) (List.mem_of_getElem? (i := 31) rfl)) rfl (fun zb26 => ?_) (fun zb26 => ?_)
        · refine w_iinc (fun zv27 => [(5, .int zv27), (4, .int c), (3, .int b), (2, .int a), (1, .int n), (0, .ref (ad 50))]) (fun _ => rfl) (List.Mem.head _) (Nat.le_of_ble_eq_true rfl) (by decide) (by omega) (by omega) (tX11_best_0_ok (89, .iinc 5 1, 3) (List.mem_of_getElem? (i := 49) rfl)) (fun zv27 ze28 => ?_)
          refine w_goto (tgt := 25) (tX11_best_0_ok (92, .goto (-67), 3) (List.mem_of_getElem? (i := 50) rfl)) rfl ?_
          refine w_lv [(5, .int zv27), (4, .int c), (3, .int b), (2, .int a), (1, .int n), (0, .ref (ad 50))] (by intro q hq; simp only [List.mem_cons, List.not_mem_nil, or_false] at hq ⊢; rcases hq with e | e | e | e | e | e <;> subst e <;> simp) ?_
          exact ih (j9 - 1) (by omega) _ _ _ _ _ (by omega) (by omega) zJ11
        · refine w_aload_n (List.Mem.tail _ (List.Mem.tail _ (List.Mem.tail _ (List.Mem.tail _ (List.Mem.tail _ (List.Mem.head _)))))) (tX11_best_0_ok (55, .aload_n 0, 1) (List.mem_of_getElem? (i := 32) rfl)) ?_
          refine x_getI (own := 16) (k := 45) (lo1 := -2147483648) (hi1 := 2147483647) hl zJ11 rfl rfl rfl rfl (by decide) (tX11_best_0_ok (56, .getfield 395, 3) (List.mem_of_getElem? (i := 33) rfl)) (fun zv31 zb29 zb30 => ?_)
          refine w_iload (List.Mem.tail _ (List.Mem.head _)) (tX11_best_0_ok (59, .iload 4, 2) (List.mem_of_getElem? (i := 34) rfl)) ?_
          refine w_icmp_ne (tgt := 75) (tX11_best_0_ok (61, .if_icmp .ne 14, 3) (List.mem_of_getElem? (i := 35) rfl)) rfl (fun zb32 => ?_) (fun zb32 => ?_)
          · refine w_iload (List.Mem.head _) (tX11_best_0_ok (75, .iload 5, 2) (List.mem_of_getElem? (i := 41) rfl)) ?_
            refine w_istore_n [(2, .int k), (5, .int k), (4, .int c), (3, .int b), (1, .int n), (0, .ref (ad 50))] rfl (Nat.le_of_ble_eq_true rfl) (tX11_best_0_ok (77, .istore_n 2, 1) (List.mem_of_getElem? (i := 42) rfl)) ?_
            refine w_aload_n (List.Mem.tail _ (List.Mem.tail _ (List.Mem.tail _ (List.Mem.tail _ (List.Mem.tail _ (List.Mem.head _)))))) (tX11_best_0_ok (78, .aload_n 0, 1) (List.mem_of_getElem? (i := 43) rfl)) ?_
            refine x_getI (own := 16) (k := 44) (lo1 := -2147483648) (hi1 := 2147483647) hl zJ11 rfl rfl rfl rfl (by decide) (tX11_best_0_ok (79, .getfield 392, 3) (List.mem_of_getElem? (i := 44) rfl)) (fun zv35 zb33 zb34 => ?_)
            refine w_istore_n [(3, .int zv35), (2, .int k), (5, .int k), (4, .int c), (1, .int n), (0, .ref (ad 50))] rfl (Nat.le_of_ble_eq_true rfl) (tX11_best_0_ok (82, .istore_n 3, 1) (List.mem_of_getElem? (i := 45) rfl)) ?_
            refine w_aload_n (List.Mem.tail _ (List.Mem.tail _ (List.Mem.tail _ (List.Mem.tail _ (List.Mem.tail _ (List.Mem.head _)))))) (tX11_best_0_ok (83, .aload_n 0, 1) (List.mem_of_getElem? (i := 46) rfl)) ?_
            refine x_getI (own := 16) (k := 45) (lo1 := -2147483648) (hi1 := 2147483647) hl zJ11 rfl rfl rfl rfl (by decide) (tX11_best_0_ok (84, .getfield 395, 3) (List.mem_of_getElem? (i := 47) rfl)) (fun zv38 zb36 zb37 => ?_)
            refine w_istore [(4, .int zv38), (3, .int zv35), (2, .int k), (5, .int k), (1, .int n), (0, .ref (ad 50))] rfl (Nat.le_of_ble_eq_true rfl) (tX11_best_0_ok (87, .istore 4, 2) (List.mem_of_getElem? (i := 48) rfl)) ?_
            refine w_iinc (fun zv39 => [(5, .int zv39), (4, .int zv38), (3, .int zv35), (2, .int k), (1, .int n), (0, .ref (ad 50))]) (fun _ => rfl) (List.Mem.tail _ (List.Mem.tail _ (List.Mem.tail _ (List.Mem.head _)))) (Nat.le_of_ble_eq_true rfl) (by decide) (by omega) (by omega) (tX11_best_0_ok (89, .iinc 5 1, 3) (List.mem_of_getElem? (i := 49) rfl)) (fun zv39 ze40 => ?_)
            refine w_goto (tgt := 25) (tX11_best_0_ok (92, .goto (-67), 3) (List.mem_of_getElem? (i := 50) rfl)) rfl ?_
            refine w_lv [(5, .int zv39), (4, .int zv38), (3, .int zv35), (2, .int k), (1, .int n), (0, .ref (ad 50))] (by intro q hq; simp only [List.mem_cons, List.not_mem_nil, or_false] at hq ⊢; rcases hq with e | e | e | e | e | e <;> subst e <;> simp) ?_
            exact ih (j9 - 1) (by omega) _ _ _ _ _ (by omega) (by omega) zJ11
          · refine w_aload_n (List.Mem.tail _ (List.Mem.tail _ (List.Mem.tail _ (List.Mem.tail _ (List.Mem.tail _ (List.Mem.head _)))))) (tX11_best_0_ok (64, .aload_n 0, 1) (List.mem_of_getElem? (i := 36) rfl)) ?_
            refine x_getI (own := 16) (k := 44) (lo1 := -2147483648) (hi1 := 2147483647) hl zJ11 rfl rfl rfl rfl (by decide) (tX11_best_0_ok (65, .getfield 392, 3) (List.mem_of_getElem? (i := 37) rfl)) (fun zv43 zb41 zb42 => ?_)
            refine w_iload_n (List.Mem.tail _ (List.Mem.tail _ (List.Mem.head _))) (tX11_best_0_ok (68, .iload_n 3, 1) (List.mem_of_getElem? (i := 38) rfl)) ?_
            refine w_icmp_lt (tgt := 75) (tX11_best_0_ok (69, .if_icmp .lt 6, 3) (List.mem_of_getElem? (i := 39) rfl)) rfl (fun zb44 => ?_) (fun zb44 => ?_)
            · refine w_iload (List.Mem.head _) (tX11_best_0_ok (75, .iload 5, 2) (List.mem_of_getElem? (i := 41) rfl)) ?_
              refine w_istore_n [(2, .int k), (5, .int k), (4, .int c), (3, .int b), (1, .int n), (0, .ref (ad 50))] rfl (Nat.le_of_ble_eq_true rfl) (tX11_best_0_ok (77, .istore_n 2, 1) (List.mem_of_getElem? (i := 42) rfl)) ?_
              refine w_aload_n (List.Mem.tail _ (List.Mem.tail _ (List.Mem.tail _ (List.Mem.tail _ (List.Mem.tail _ (List.Mem.head _)))))) (tX11_best_0_ok (78, .aload_n 0, 1) (List.mem_of_getElem? (i := 43) rfl)) ?_
              refine x_getI (own := 16) (k := 44) (lo1 := -2147483648) (hi1 := 2147483647) hl zJ11 rfl rfl rfl rfl (by decide) (tX11_best_0_ok (79, .getfield 392, 3) (List.mem_of_getElem? (i := 44) rfl)) (fun zv47 zb45 zb46 => ?_)
              refine w_istore_n [(3, .int zv47), (2, .int k), (5, .int k), (4, .int c), (1, .int n), (0, .ref (ad 50))] rfl (Nat.le_of_ble_eq_true rfl) (tX11_best_0_ok (82, .istore_n 3, 1) (List.mem_of_getElem? (i := 45) rfl)) ?_
              refine w_aload_n (List.Mem.tail _ (List.Mem.tail _ (List.Mem.tail _ (List.Mem.tail _ (List.Mem.tail _ (List.Mem.head _)))))) (tX11_best_0_ok (83, .aload_n 0, 1) (List.mem_of_getElem? (i := 46) rfl)) ?_
              refine x_getI (own := 16) (k := 45) (lo1 := -2147483648) (hi1 := 2147483647) hl zJ11 rfl rfl rfl rfl (by decide) (tX11_best_0_ok (84, .getfield 395, 3) (List.mem_of_getElem? (i := 47) rfl)) (fun zv50 zb48 zb49 => ?_)
              refine w_istore [(4, .int zv50), (3, .int zv47), (2, .int k), (5, .int k), (1, .int n), (0, .ref (ad 50))] rfl (Nat.le_of_ble_eq_true rfl) (tX11_best_0_ok (87, .istore 4, 2) (List.mem_of_getElem? (i := 48) rfl)) ?_
              refine w_iinc (fun zv51 => [(5, .int zv51), (4, .int zv50), (3, .int zv47), (2, .int k), (1, .int n), (0, .ref (ad 50))]) (fun _ => rfl) (List.Mem.tail _ (List.Mem.tail _ (List.Mem.tail _ (List.Mem.head _)))) (Nat.le_of_ble_eq_true rfl) (by decide) (by omega) (by omega) (tX11_best_0_ok (89, .iinc 5 1, 3) (List.mem_of_getElem? (i := 49) rfl)) (fun zv51 ze52 => ?_)
              refine w_goto (tgt := 25) (tX11_best_0_ok (92, .goto (-67), 3) (List.mem_of_getElem? (i := 50) rfl)) rfl ?_
              refine w_lv [(5, .int zv51), (4, .int zv50), (3, .int zv47), (2, .int k), (1, .int n), (0, .ref (ad 50))] (by intro q hq; simp only [List.mem_cons, List.not_mem_nil, or_false] at hq ⊢; rcases hq with e | e | e | e | e | e <;> subst e <;> simp) ?_
              exact ih (j9 - 1) (by omega) _ _ _ _ _ (by omega) (by omega) zJ11
            · refine w_goto (tgt := 89) (tX11_best_0_ok (72, .goto 17, 3) (List.mem_of_getElem? (i := 40) rfl)) rfl ?_
              refine w_iinc (fun zv53 => [(5, .int zv53), (4, .int c), (3, .int b), (2, .int a), (1, .int n), (0, .ref (ad 50))]) (fun _ => rfl) (List.Mem.head _) (Nat.le_of_ble_eq_true rfl) (by decide) (by omega) (by omega) (tX11_best_0_ok (89, .iinc 5 1, 3) (List.mem_of_getElem? (i := 49) rfl)) (fun zv53 ze54 => ?_)
              refine w_goto (tgt := 25) (tX11_best_0_ok (92, .goto (-67), 3) (List.mem_of_getElem? (i := 50) rfl)) rfl ?_
              refine w_lv [(5, .int zv53), (4, .int c), (3, .int b), (2, .int a), (1, .int n), (0, .ref (ad 50))] (by intro q hq; simp only [List.mem_cons, List.not_mem_nil, or_false] at hq ⊢; rcases hq with e | e | e | e | e | e <;> subst e <;> simp) ?_
              exact ih (j9 - 1) (by omega) _ _ _ _ _ (by omega) (by omega) zJ11
theorem x_best {n : Int32} (hT : k_TX tys cA A X) (hl : ∀ L, zNM L = true → Sg (ad L) = some (lbR 50 55 L)) (hf : 71 ≤ fr) (hlo : 3100 ≤ lo) (J : jX Sg cA ad (jF I0 W0) h) (hq : ∀ (g : ch_H) (v : Int32), jX Sg cA ad (jF I0 W0) g → Q (some (.int v)) g) : ww l D tys A X fr lo mX11_best Q 0 [(0, .ref (ad 50)), (1, .int n)] [] h := by
  refine w_aload_n (List.Mem.head _) (tX11_best_0_ok (0, .aload_n 0, 1) (List.mem_of_getElem? (i := 0) rfl)) ?_
  refine w_iconst (by decide) (tX11_best_0_ok (1, .iconst 0, 1) (List.mem_of_getElem? (i := 1) rfl)) (fun zv1 ze2 => ?_)
  refine x_putI (own := 16) (k := 0) (lo1 := -2147483648) (hi1 := 2147483647) hl J (fun _ _ _ e hp => jF.f (k := 0) (by decide) e hp) rfl rfl (i32b _) rfl rfl (by decide) rfl ⟨rfl, rfl⟩ (tX11_best_0_ok (2, .putfield 85, 3) (List.mem_of_getElem? (i := 2) rfl)) (fun zh3 zJ4 => ?_)
  refine w_aload_n (List.Mem.head _) (tX11_best_0_ok (5, .aload_n 0, 1) (List.mem_of_getElem? (i := 3) rfl)) ?_
  refine w_iload_n (List.Mem.tail _ (List.Mem.head _)) (tX11_best_0_ok (6, .iload_n 1, 1) (List.mem_of_getElem? (i := 4) rfl)) ?_
  obtain ⟨zI5, zW6, zO7, zz8, zH9, zp10⟩ := id zJ4
  refine w_callV (own := 16) (mi := 200) [.int n] [] [(0, .ref (ad 50)), (1, .int n)] rfl (cllw_X11 (386, 0, 200) (List.mem_of_getElem? (i := 66) rfl)) rfl rfl (zz8.ob rfl rfl) rfl (by omega) (w_lo (n := 21) rfl (by omega)) (Nat.le_of_ble_eq_true rfl) (Nat.le_of_ble_eq_true rfl) rfl (tX11_best_0_ok (7, .invokevirtual 386, 3) (List.mem_of_getElem? (i := 5) rfl)) (y_isKept zz8 (by omega) (w_sub (n := 21) rfl (by omega)) (fun zv11 ze12 => ?_))
  show ww l D tys A X fr lo mX11_best Q 10 [(0, .ref (ad 50)), (1, .int n)] [.int zv11] zh3
  refine w_if_ne (tgt := 15) (tX11_best_0_ok (10, .ifCond .ne 5, 3) (List.mem_of_getElem? (i := 6) rfl)) rfl (fun zb13 => ?_) (fun zb13 => ?_)
  · refine w_iconst (by decide) (tX11_best_0_ok (15, .iconst (-1), 1) (List.mem_of_getElem? (i := 9) rfl)) (fun zv14 ze15 => ?_)
    refine w_istore_n [(2, .int zv14), (0, .ref (ad 50)), (1, .int n)] rfl (Nat.le_of_ble_eq_true rfl) (tX11_best_0_ok (16, .istore_n 2, 1) (List.mem_of_getElem? (i := 10) rfl)) ?_
    refine w_iconst (by decide) (tX11_best_0_ok (17, .iconst 0, 1) (List.mem_of_getElem? (i := 11) rfl)) (fun zv16 ze17 => ?_)
    refine w_istore_n [(3, .int zv16), (2, .int zv14), (0, .ref (ad 50)), (1, .int n)] rfl (Nat.le_of_ble_eq_true rfl) (tX11_best_0_ok (18, .istore_n 3, 1) (List.mem_of_getElem? (i := 12) rfl)) ?_
    refine w_iconst (by decide) (tX11_best_0_ok (19, .iconst 0, 1) (List.mem_of_getElem? (i := 13) rfl)) (fun zv18 ze19 => ?_)
    refine w_istore [(4, .int zv18), (3, .int zv16), (2, .int zv14), (0, .ref (ad 50)), (1, .int n)] rfl (Nat.le_of_ble_eq_true rfl) (tX11_best_0_ok (20, .istore 4, 2) (List.mem_of_getElem? (i := 14) rfl)) ?_
    refine w_iconst (by decide) (tX11_best_0_ok (22, .iconst 0, 1) (List.mem_of_getElem? (i := 15) rfl)) (fun zv20 ze21 => ?_)
    refine w_istore [(5, .int zv20), (4, .int zv18), (3, .int zv16), (2, .int zv14), (0, .ref (ad 50)), (1, .int n)] rfl (Nat.le_of_ble_eq_true rfl) (tX11_best_0_ok (23, .istore 5, 2) (List.mem_of_getElem? (i := 16) rfl)) ?_
    refine w_lv [(5, .int zv20), (4, .int zv18), (3, .int zv16), (2, .int zv14), (1, .int n), (0, .ref (ad 50))] (by intro q hq; simp only [List.mem_cons, List.not_mem_nil, or_false] at hq ⊢; rcases hq with e | e | e | e | e | e <;> subst e <;> simp) ?_
    exact x_bestL hT hl (by omega) (by omega) (by omega) hq 4 _ _ _ _ _ (by omega) (by omega) zJ4
  · refine w_iconst (by decide) (tX11_best_0_ok (13, .iconst (-1), 1) (List.mem_of_getElem? (i := 7) rfl)) (fun zv22 ze23 => ?_)
    refine w_iret rfl (tX11_best_0_ok (14, .ireturn, 1) (List.mem_of_getElem? (i := 8) rfl)) ?_
    exact hq _ _ zJ4
theorem x_doesL (hT : k_TX tys cA A X) (hl : ∀ L, zNM L = true → Sg (ad L) = some (lbR 50 55 L)) (hf : 70 ≤ fr) (hlo : 3000 ≤ lo) (hq : ∀ (g : ch_H) (v : Int32), jX Sg cA ad (jF I0 W0) g → Q (some (.int v)) g) : ∀ (j9 : Nat) (h : ch_H) (k a : Int32), 0 ≤ k.toInt ∧ 0 ≤ a.toInt ∧ a.toInt ≤ 1 → k.toInt + j9 = 6 → jX Sg cA ad (jG I0 W0) h → ww l D tys A X fr lo mX11_doesOrder Q 8 [(2, .int k), (1, .int a), (0, .ref (ad 50))] [] h := by
  intro j9
  induction j9 using Nat.strongRecOn with
  | ind j9 ih =>
    intro h k a hj0 hj1 J
    refine w_iload_n (List.Mem.head _) (tX11_doesOrder_0_ok (8, .iload_n 2, 1) (List.mem_of_getElem? (i := 6) rfl)) ?_
    refine w_aload_n (List.Mem.tail _ (List.Mem.tail _ (List.Mem.head _))) (tX11_doesOrder_0_ok (9, .aload_n 0, 1) (List.mem_of_getElem? (i := 7) rfl)) ?_
    refine x_getE (I0 := I0) (own := 16) (k := 34) (lo1 := 0) (hi1 := 6) hl J (fun _ _ hp => hp.1.2.1 34 (by decide)) rfl rfl rfl rfl (by decide) (tX11_doesOrder_0_ok (10, .getfield 264, 3) (List.mem_of_getElem? (i := 8) rfl)) (fun zb1 zb2 => ?_)
    refine w_icmp_ge (tgt := 58) (tX11_doesOrder_0_ok (13, .if_icmp .ge 45, 3) (List.mem_of_getElem? (i := 9) rfl)) rfl (fun zb3 => ?_) (fun zb3 => ?_)
    · refine w_aload_n (List.Mem.tail _ (List.Mem.tail _ (List.Mem.head _))) (tX11_doesOrder_0_ok (58, .aload_n 0, 1) (List.mem_of_getElem? (i := 34) rfl)) ?_
      obtain ⟨zI4, zW5, zO6, zz7, zH8, zp9⟩ := id J
      refine w_callV (own := 16) (mi := 232) [] [] [(0, .ref (ad 50))] rfl (cllw_X11 (338, 0, 232) (List.mem_of_getElem? (i := 53) rfl)) rfl rfl (zz7.ob rfl rfl) rfl (by omega) (w_lo (n := 21) rfl (by omega)) (Nat.le_of_ble_eq_true rfl) (Nat.le_of_ble_eq_true rfl) rfl (tX11_doesOrder_0_ok (59, .invokevirtual 338, 3) (List.mem_of_getElem? (i := 35) rfl)) (x_putBack hT.1 hl J (fun zh10 zJ11 => ?_))
      show ww l D tys A X fr lo mX11_doesOrder Q 62 [(2, .int k), (1, .int a), (0, .ref (ad 50))] [] zh10
      refine w_iload_n (List.Mem.tail _ (List.Mem.head _)) (tX11_doesOrder_0_ok (62, .iload_n 1, 1) (List.mem_of_getElem? (i := 36) rfl)) ?_
      refine w_zret rfl (by omega) (by omega) (tX11_doesOrder_0_ok (63, .ireturn, 1) (List.mem_of_getElem? (i := 37) rfl)) ?_
      exact hq _ _ zJ11
    · refine w_iload_n (List.Mem.tail _ (List.Mem.head _)) (tX11_doesOrder_0_ok (16, .iload_n 1, 1) (List.mem_of_getElem? (i := 10) rfl)) ?_
      refine w_if_eq (tgt := 58) (tX11_doesOrder_0_ok (17, .ifCond .eq 41, 3) (List.mem_of_getElem? (i := 11) rfl)) rfl (fun zb12 => ?_) (fun zb12 => ?_)
      · refine w_aload_n (List.Mem.tail _ (List.Mem.tail _ (List.Mem.head _))) (tX11_doesOrder_0_ok (58, .aload_n 0, 1) (List.mem_of_getElem? (i := 34) rfl)) ?_
        obtain ⟨zI13, zW14, zO15, zz16, zH17, zp18⟩ := id J
        refine w_callV (own := 16) (mi := 232) [] [] [(0, .ref (ad 50))] rfl (cllw_X11 (338, 0, 232) (List.mem_of_getElem? (i := 53) rfl)) rfl rfl (zz16.ob rfl rfl) rfl (by omega) (w_lo (n := 21) rfl (by omega)) (Nat.le_of_ble_eq_true rfl) (Nat.le_of_ble_eq_true rfl) rfl (tX11_doesOrder_0_ok (59, .invokevirtual 338, 3) (List.mem_of_getElem? (i := 35) rfl)) (x_putBack hT.1 hl J (fun zh19 zJ20 => ?_))
        show ww l D tys A X fr lo mX11_doesOrder Q 62 [(2, .int k), (1, .int a), (0, .ref (ad 50))] [] zh19
        refine w_iload_n (List.Mem.tail _ (List.Mem.head _)) (tX11_doesOrder_0_ok (62, .iload_n 1, 1) (List.mem_of_getElem? (i := 36) rfl)) ?_
        refine w_zret rfl (by omega) (by omega) (tX11_doesOrder_0_ok (63, .ireturn, 1) (List.mem_of_getElem? (i := 37) rfl)) ?_
        exact hq _ _ zJ20
      · refine w_aload_n (List.Mem.tail _ (List.Mem.tail _ (List.Mem.head _))) (tX11_doesOrder_0_ok (20, .aload_n 0, 1) (List.mem_of_getElem? (i := 12) rfl)) ?_
        refine z_cI (own := 16) (mi := 237) (Wr := [(50, 36), (56, 0)]) [] [] hl J (fun _ _ _ _ a b => jG.q rfl a b) rfl (cllw_X11 (311, 0, 237) (List.mem_of_getElem? (i := 45) rfl)) rfl rfl rfl rfl (sat_140 hT) trivial rfl (by omega) (Nat.le_trans (m := 2900) (Nat.le_of_ble_eq_true rfl) (by omega)) (Nat.le_of_ble_eq_true rfl) (Nat.le_of_ble_eq_true rfl) (tX11_doesOrder_0_ok (21, .invokevirtual 311, 3) (List.mem_of_getElem? (i := 13) rfl)) (fun zv23 zh21 zJ22 zb24 zb25 => ?_)
        show ww l D tys A X fr lo mX11_doesOrder Q 24 [(2, .int k), (1, .int a), (0, .ref (ad 50))] [.int zv23] zh21
        refine w_istore_n [(3, .int zv23), (2, .int k), (1, .int a), (0, .ref (ad 50))] rfl (Nat.le_of_ble_eq_true rfl) (tX11_doesOrder_0_ok (24, .istore_n 3, 1) (List.mem_of_getElem? (i := 14) rfl)) ?_
        refine w_aload_n (List.Mem.tail _ (List.Mem.tail _ (List.Mem.tail _ (List.Mem.head _)))) (tX11_doesOrder_0_ok (25, .aload_n 0, 1) (List.mem_of_getElem? (i := 15) rfl)) ?_
        refine w_aload_n (List.Mem.tail _ (List.Mem.tail _ (List.Mem.tail _ (List.Mem.head _)))) (tX11_doesOrder_0_ok (26, .aload_n 0, 1) (List.mem_of_getElem? (i := 16) rfl)) ?_
        refine x_getR (own := 16) (k := 29) (L1 := 63) zJ22 rfl rfl rfl rfl (by decide) (tX11_doesOrder_0_ok (27, .getfield 66, 3) (List.mem_of_getElem? (i := 17) rfl)) ?_
        refine w_aload_n (List.Mem.tail _ (List.Mem.tail _ (List.Mem.tail _ (List.Mem.head _)))) (tX11_doesOrder_0_ok (30, .aload_n 0, 1) (List.mem_of_getElem? (i := 18) rfl)) ?_
        refine x_getR (own := 16) (k := 41) (L1 := 67) zJ22 rfl rfl rfl rfl (by decide) (tX11_doesOrder_0_ok (31, .getfield 79, 3) (List.mem_of_getElem? (i := 19) rfl)) ?_
        refine w_iload_n (List.Mem.tail _ (List.Mem.head _)) (tX11_doesOrder_0_ok (34, .iload_n 2, 1) (List.mem_of_getElem? (i := 20) rfl)) ?_
        refine x_iald (L := 67) (n := 6) (lo1 := 0) (hi1 := 5) hT.1 hl zJ22 rfl rfl ⟨rfl, rfl⟩ (by decide +kernel) (by omega) (by omega) (tX11_doesOrder_0_ok (35, .iaload, 1) (List.mem_of_getElem? (i := 21) rfl)) (fun zv26 zb27 zb28 => ?_)
        refine x_iald (L := 63) (n := 6) (lo1 := 0) (hi1 := 7) hT.1 hl zJ22 rfl rfl ⟨rfl, rfl⟩ (by decide +kernel) (by omega) (by omega) (tX11_doesOrder_0_ok (36, .iaload, 1) (List.mem_of_getElem? (i := 22) rfl)) (fun zv29 zb30 zb31 => ?_)
        refine w_aload_n (List.Mem.tail _ (List.Mem.tail _ (List.Mem.tail _ (List.Mem.head _)))) (tX11_doesOrder_0_ok (37, .aload_n 0, 1) (List.mem_of_getElem? (i := 23) rfl)) ?_
        refine x_getR (own := 16) (k := 30) (L1 := 64) zJ22 rfl rfl rfl rfl (by decide) (tX11_doesOrder_0_ok (38, .getfield 69, 3) (List.mem_of_getElem? (i := 24) rfl)) ?_
        refine w_aload_n (List.Mem.tail _ (List.Mem.tail _ (List.Mem.tail _ (List.Mem.head _)))) (tX11_doesOrder_0_ok (41, .aload_n 0, 1) (List.mem_of_getElem? (i := 25) rfl)) ?_
        refine x_getR (own := 16) (k := 41) (L1 := 67) zJ22 rfl rfl rfl rfl (by decide) (tX11_doesOrder_0_ok (42, .getfield 79, 3) (List.mem_of_getElem? (i := 26) rfl)) ?_
        refine w_iload_n (List.Mem.tail _ (List.Mem.head _)) (tX11_doesOrder_0_ok (45, .iload_n 2, 1) (List.mem_of_getElem? (i := 27) rfl)) ?_
        refine x_iald (L := 67) (n := 6) (lo1 := 0) (hi1 := 5) hT.1 hl zJ22 rfl rfl ⟨rfl, rfl⟩ (by decide +kernel) (by omega) (by omega) (tX11_doesOrder_0_ok (46, .iaload, 1) (List.mem_of_getElem? (i := 28) rfl)) (fun zv32 zb33 zb34 => ?_)
        refine x_iald (L := 64) (n := 6) (lo1 := -2147483648) (hi1 := 2147483647) hT.1 hl zJ22 rfl rfl ⟨rfl, rfl⟩ (by decide +kernel) (by omega) (by omega) (tX11_doesOrder_0_ok (47, .iaload, 1) (List.mem_of_getElem? (i := 29) rfl)) (fun zv35 zb36 zb37 => ?_)
        refine z_cI (own := 16) (mi := 243) (Wr := [(56, 0)]) [.int zv29, .int zv35] [] hl zJ22 (fun _ _ _ _ a b => jG.q rfl a b) rfl (cllw_X11 (329, 0, 243) (List.mem_of_getElem? (i := 50) rfl)) rfl rfl rfl rfl (sat_149 hT) ⟨⟨_, rfl, rfl, (by show (0 : Int) ≤ _; omega), (by show _ ≤ (7 : Int); omega)⟩, ⟨⟨_, rfl, rfl, (i32b _).1, (i32b _).2⟩, trivial⟩⟩ rfl (by omega) (Nat.le_trans (m := 2900) (Nat.le_of_ble_eq_true rfl) (by omega)) (Nat.le_of_ble_eq_true rfl) (Nat.le_of_ble_eq_true rfl) (tX11_doesOrder_0_ok (48, .invokevirtual 329, 3) (List.mem_of_getElem? (i := 30) rfl)) (fun zv40 zh38 zJ39 zb41 zb42 => ?_)
        show ww l D tys A X fr lo mX11_doesOrder Q 51 [(3, .int zv23), (2, .int k), (1, .int a), (0, .ref (ad 50))] [.int zv40] zh38
        refine w_istore_n [(1, .int zv40), (3, .int zv23), (2, .int k), (0, .ref (ad 50))] rfl (Nat.le_of_ble_eq_true rfl) (tX11_doesOrder_0_ok (51, .istore_n 1, 1) (List.mem_of_getElem? (i := 31) rfl)) ?_
        refine w_iinc (fun zv43 => [(2, .int zv43), (1, .int zv40), (3, .int zv23), (0, .ref (ad 50))]) (fun _ => rfl) (List.Mem.tail _ (List.Mem.tail _ (List.Mem.head _))) (Nat.le_of_ble_eq_true rfl) (by decide) (by omega) (by omega) (tX11_doesOrder_0_ok (52, .iinc 2 1, 3) (List.mem_of_getElem? (i := 32) rfl)) (fun zv43 ze44 => ?_)
        refine w_goto (tgt := 8) (tX11_doesOrder_0_ok (55, .goto (-47), 3) (List.mem_of_getElem? (i := 33) rfl)) rfl ?_
        refine w_lv [(2, .int zv43), (1, .int zv40), (0, .ref (ad 50))] (by intro q hq; simp only [List.mem_cons, List.not_mem_nil, or_false] at hq ⊢; rcases hq with e | e | e <;> subst e <;> simp) ?_
        exact ih (j9 - 1) (by omega) _ _ _ (by omega) (by omega) zJ39
theorem x_doesOrder (hT : k_TX tys cA A X) (hl : ∀ L, zNM L = true → Sg (ad L) = some (lbR 50 55 L)) (hf : 70 ≤ fr) (hlo : 3000 ≤ lo) (J : jX Sg cA ad (jF I0 W0) h) (hq : ∀ (g : ch_H) (v : Int32), jX Sg cA ad (jF I0 W0) g → Q (some (.int v)) g) : ww l D tys A X fr lo mX11_doesOrder Q 0 [(0, .ref (ad 50))] [] h := by
  refine w_aload_n (List.Mem.head _) (tX11_doesOrder_0_ok (0, .aload_n 0, 1) (List.mem_of_getElem? (i := 0) rfl)) ?_
  obtain ⟨zI1, zW2, zO3, zz4, zH5, zp6⟩ := id J
  refine w_callV (own := 16) (mi := 208) [] [] [(0, .ref (ad 50))] rfl (cllw_X11 (332, 0, 208) (List.mem_of_getElem? (i := 51) rfl)) rfl rfl (zz4.ob rfl rfl) rfl (by omega) (w_lo (n := 21) rfl (by omega)) (Nat.le_of_ble_eq_true rfl) (Nat.le_of_ble_eq_true rfl) rfl (tX11_doesOrder_0_ok (1, .invokevirtual 332, 3) (List.mem_of_getElem? (i := 1) rfl)) (x_keeps hT.1 hl J (fun zh7 zJ8 => ?_))
  show ww l D tys A X fr lo mX11_doesOrder Q 4 [(0, .ref (ad 50))] [] zh7
  refine w_iconst (by decide) (tX11_doesOrder_0_ok (4, .iconst 1, 1) (List.mem_of_getElem? (i := 2) rfl)) (fun zv9 ze10 => ?_)
  refine w_istore_n [(1, .int zv9), (0, .ref (ad 50))] rfl (Nat.le_of_ble_eq_true rfl) (tX11_doesOrder_0_ok (5, .istore_n 1, 1) (List.mem_of_getElem? (i := 3) rfl)) ?_
  refine w_iconst (by decide) (tX11_doesOrder_0_ok (6, .iconst 0, 1) (List.mem_of_getElem? (i := 4) rfl)) (fun zv11 ze12 => ?_)
  refine w_istore_n [(2, .int zv11), (1, .int zv9), (0, .ref (ad 50))] rfl (Nat.le_of_ble_eq_true rfl) (tX11_doesOrder_0_ok (7, .istore_n 2, 1) (List.mem_of_getElem? (i := 5) rfl)) ?_
  refine w_lv [(2, .int zv11), (1, .int zv9), (0, .ref (ad 50))] (by intro q hq; simp only [List.mem_cons, List.not_mem_nil, or_false] at hq ⊢; rcases hq with e | e | e <;> subst e <;> simp) ?_
  exact x_doesL hT hl (by omega) (by omega) hq 6 _ _ _ (by omega) (by omega) zJ8
def gpS (l : Launch) (D : va_G) (tys : List (ClassId × FieldType)) (A : Nat → Prop) (X : State → Prop) (cA : Nat → ClassId) (Sg : Nat → Option Nat) (ad : Nat → Nat) (I0 : zI) (W0 : zW) (r9 : Nat) : Prop := ∀ (fr lo : Nat) (Q : Option Value → ch_H → Prop) (h : ch_H) (p q : Int32), 71 + r9 ≤ fr → 3100 + 40 * r9 ≤ lo → 0 ≤ p.toInt ∧ p.toInt + r9 = 2 * (I0 50 20).toInt → 0 ≤ q.toInt ∧ q.toInt ≤ 4 → jX Sg cA ad (jF I0 W0) h → (∀ (g : ch_H) (v : Int32), jX Sg cA ad (jF I0 W0) g → Q (some (.int v)) g) → ww l D tys A X fr lo mX11_goPails Q 0 [(0, .ref (ad 50)), (1, .int p), (2, .int q)] [] h
def goS (l : Launch) (D : va_G) (tys : List (ClassId × FieldType)) (A : Nat → Prop) (X : State → Prop) (cA : Nat → ClassId) (Sg : Nat → Option Nat) (ad : Nat → Nat) (I0 : zI) (W0 : zW) (r9 : Nat) : Prop := ∀ (fr lo : Nat) (Q : Option Value → ch_H → Prop) (h : ch_H) (p q e : Int32), 71 + r9 ≤ fr → 3100 + 40 * r9 ≤ lo → 0 ≤ p.toInt ∧ p.toInt + r9 = (I0 50 34).toInt → jX Sg cA ad (jF I0 W0) h → (∀ (g : ch_H), jX Sg cA ad (jF I0 W0) g → Q none g) → ww l D tys A X fr lo mX11_goOrders Q 0 [(0, .ref (ad 50)), (1, .int p), (2, .int q), (3, .int e)] [] h
theorem x_goPL {p q : Int32} {r9 : Nat} (hT : k_TX tys cA A X) (hl : ∀ L, zNM L = true → Sg (ad L) = some (lbR 50 55 L)) (hf : 72 + r9 ≤ fr) (hlo : 3140 + 40 * r9 ≤ lo) (b20 : 0 ≤ (I0 50 20).toInt ∧ (I0 50 20).toInt ≤ 6) (gp : gpS l D tys A X cA Sg ad I0 W0 r9) (hp : 0 ≤ p.toInt ∧ p.toInt + (r9 + 1) = 2 * (I0 50 20).toInt) (hq9 : 0 ≤ q.toInt ∧ q.toInt ≤ 4) (hq : ∀ (g : ch_H) (v : Int32), jX Sg cA ad (jF I0 W0) g → Q (some (.int v)) g) : ∀ (j9 : Nat) (h : ch_H) (v : Int32), v.toInt ≤ q.toInt → v.toInt + q.toInt + 1 = (j9 : Int) → jX Sg cA ad (jF I0 W0) h → ww l D tys A X fr lo mX11_goPails Q 29 [(3, .int v), (2, .int q), (1, .int p), (0, .ref (ad 50))] [] h := by
  intro j9
  induction j9 using Nat.strongRecOn with
  | ind j9 ih =>
    intro h v hj0 hj1 J
    refine w_iload_n (List.Mem.head _) (tX11_goPails_0_ok (29, .iload_n 3, 1) (List.mem_of_getElem? (i := 17) rfl)) ?_
    refine w_iload_n (List.Mem.tail _ (List.Mem.head _)) (tX11_goPails_0_ok (30, .iload_n 2, 1) (List.mem_of_getElem? (i := 18) rfl)) ?_
    refine w_ineg (by omega) (tX11_goPails_0_ok (31, .ineg, 1) (List.mem_of_getElem? (i := 19) rfl)) (fun zv1 ze2 => ?_)
    refine w_icmp_lt (tgt := 89) (tX11_goPails_0_ok (32, .if_icmp .lt 57, 3) (List.mem_of_getElem? (i := 20) rfl)) rfl (fun zb3 => ?_) (fun zb3 => ?_)
    · refine w_iconst (by decide) (tX11_goPails_0_ok (89, .iconst 0, 1) (List.mem_of_getElem? (i := 53) rfl)) (fun zv4 ze5 => ?_)
      refine w_zret rfl (by omega) (by omega) (tX11_goPails_0_ok (90, .ireturn, 1) (List.mem_of_getElem? (i := 54) rfl)) ?_
      exact hq _ _ J
    · refine w_aload_n (List.Mem.tail _ (List.Mem.tail _ (List.Mem.tail _ (List.Mem.head _)))) (tX11_goPails_0_ok (35, .aload_n 0, 1) (List.mem_of_getElem? (i := 21) rfl)) ?_
      refine x_getR (own := 16) (k := 22) (L1 := 56) J rfl rfl rfl rfl (by decide) (tX11_goPails_0_ok (36, .getfield 45, 3) (List.mem_of_getElem? (i := 22) rfl)) ?_
      refine w_bipush (by decide) (tX11_goPails_0_ok (39, .bipush 18, 2) (List.mem_of_getElem? (i := 23) rfl)) (fun zv6 ze7 => ?_)
      refine w_iload_n (List.Mem.tail _ (List.Mem.tail _ (List.Mem.head _))) (tX11_goPails_0_ok (41, .iload_n 1, 1) (List.mem_of_getElem? (i := 24) rfl)) ?_
      refine w_iadd (by omega) (by omega) (tX11_goPails_0_ok (42, .iadd, 1) (List.mem_of_getElem? (i := 25) rfl)) (fun zv8 ze9 => ?_)
      refine x_iald (L := 56) (n := 39) (lo1 := -2147483648) (hi1 := 2147483647) hT.1 hl J rfl rfl ⟨rfl, rfl⟩ (by decide +kernel) (by omega) (by omega) (tX11_goPails_0_ok (43, .iaload, 1) (List.mem_of_getElem? (i := 26) rfl)) (fun zv10 zb11 zb12 => ?_)
      refine w_iload_n (List.Mem.head _) (tX11_goPails_0_ok (44, .iload_n 3, 1) (List.mem_of_getElem? (i := 27) rfl)) ?_
      refine w_addE (tX11_goPails_0_ok (45, .iadd, 1) (List.mem_of_getElem? (i := 28) rfl)) (fun zv13 ze14 => ?_)
      refine w_iconst (by decide) (tX11_goPails_0_ok (46, .iconst 0, 1) (List.mem_of_getElem? (i := 29) rfl)) (fun zv15 ze16 => ?_)
      refine w_bipush (by decide) (tX11_goPails_0_ok (47, .bipush 99, 2) (List.mem_of_getElem? (i := 30) rfl)) (fun zv17 ze18 => ?_)
      refine w_callS (own := 16) (mi := 199) [.int zv13, .int zv15, .int zv17] [] [(0, .int zv13), (1, .int zv15), (2, .int zv17)] rfl (cllw_X11 (207, 1, 199) (List.mem_of_getElem? (i := 2) rfl)) rfl rfl (by omega) (w_lo (n := 22) rfl (by omega)) (Nat.le_of_ble_eq_true rfl) (Nat.le_of_ble_eq_true rfl) rfl (tX11_goPails_0_ok (49, .invokestatic 207, 3) (List.mem_of_getElem? (i := 31) rfl)) (r_isIn (fun zv19 ze20 => ?_))
      show ww l D tys A X fr lo mX11_goPails Q 52 [(3, .int v), (2, .int q), (1, .int p), (0, .ref (ad 50))] [.int zv19] h
      refine w_if_ne (tgt := 58) (tX11_goPails_0_ok (52, .ifCond .ne 6, 3) (List.mem_of_getElem? (i := 32) rfl)) rfl (fun zb21 => ?_) (fun zb21 => ?_)
      · refine w_aload_n (List.Mem.tail _ (List.Mem.tail _ (List.Mem.tail _ (List.Mem.head _)))) (tX11_goPails_0_ok (58, .aload_n 0, 1) (List.mem_of_getElem? (i := 34) rfl)) ?_
        refine x_getR (own := 16) (k := 40) (L1 := 66) J rfl rfl rfl rfl (by decide) (tX11_goPails_0_ok (59, .getfield 76, 3) (List.mem_of_getElem? (i := 35) rfl)) ?_
        refine w_iload_n (List.Mem.tail _ (List.Mem.tail _ (List.Mem.head _))) (tX11_goPails_0_ok (62, .iload_n 1, 1) (List.mem_of_getElem? (i := 36) rfl)) ?_
        refine w_iload_n (List.Mem.head _) (tX11_goPails_0_ok (63, .iload_n 3, 1) (List.mem_of_getElem? (i := 37) rfl)) ?_
        refine x_iast (L := 66) (n := 12) hT.1 hl J (fun _ _ _ hp => jF.a (by decide) hp) rfl rfl ⟨rfl, rfl, rfl⟩ (by omega) (by omega) (e66 ⟨by omega, by omega⟩) (tX11_goPails_0_ok (64, .iastore, 1) (List.mem_of_getElem? (i := 38) rfl)) (fun zh22 zJ23 => ?_)
        refine w_aload_n (List.Mem.tail _ (List.Mem.tail _ (List.Mem.tail _ (List.Mem.head _)))) (tX11_goPails_0_ok (65, .aload_n 0, 1) (List.mem_of_getElem? (i := 39) rfl)) ?_
        refine w_iload_n (List.Mem.tail _ (List.Mem.tail _ (List.Mem.head _))) (tX11_goPails_0_ok (66, .iload_n 1, 1) (List.mem_of_getElem? (i := 40) rfl)) ?_
        refine w_iconst (by decide) (tX11_goPails_0_ok (67, .iconst 1, 1) (List.mem_of_getElem? (i := 41) rfl)) (fun zv24 ze25 => ?_)
        refine w_iadd (by omega) (by omega) (tX11_goPails_0_ok (68, .iadd, 1) (List.mem_of_getElem? (i := 42) rfl)) (fun zv26 ze27 => ?_)
        refine w_iload_n (List.Mem.tail _ (List.Mem.head _)) (tX11_goPails_0_ok (69, .iload_n 2, 1) (List.mem_of_getElem? (i := 43) rfl)) ?_
        refine w_iload_n (List.Mem.head _) (tX11_goPails_0_ok (70, .iload_n 3, 1) (List.mem_of_getElem? (i := 44) rfl)) ?_
        refine w_absR (by omega) rfl (by show 1 + (1 + (1 + (0))) + 13 ≤ lo; omega) (by omega) (tX11_goPails_0_ok (71, .invokestatic 304, 3) (List.mem_of_getElem? (i := 45) rfl)) (fun zv28 ze29 => ?_)
        have ze29a : 0 ≤ zv28.toInt ∧ (zv28.toInt = v.toInt ∨ zv28.toInt = -v.toInt) := by rw [ze29]; split <;> omega
        refine w_isub (by omega) (by omega) (tX11_goPails_0_ok (74, .isub, 1) (List.mem_of_getElem? (i := 46) rfl)) (fun zv30 ze31 => ?_)
        obtain ⟨zI32, zW33, zO34, zz35, zH36, zp37⟩ := id zJ23
        refine w_callV (own := 16) (mi := 187) [.int zv26, .int zv30] [] [(0, .ref (ad 50)), (1, .int zv26), (2, .int zv30)] rfl (cllw_X11 (350, 0, 187) (List.mem_of_getElem? (i := 54) rfl)) rfl rfl (zz35.ob rfl rfl) rfl (by omega) (w_lo (n := 23) rfl (by omega)) (Nat.le_of_ble_eq_true rfl) (Nat.le_of_ble_eq_true rfl) rfl (tX11_goPails_0_ok (75, .invokevirtual 350, 3) (List.mem_of_getElem? (i := 47) rfl)) (gp _ _ _ _ _ _ (by omega) (w_sub (n := 23) rfl (by omega)) (by omega) (by omega)  zJ23 (fun zh38 zv40 zJ39 => ?_))
        show ww l D tys A X fr lo mX11_goPails Q 78 [(3, .int v), (2, .int q), (1, .int p), (0, .ref (ad 50))] [.int zv40] zh38
        refine w_if_eq (tgt := 83) (tX11_goPails_0_ok (78, .ifCond .eq 5, 3) (List.mem_of_getElem? (i := 48) rfl)) rfl (fun zb41 => ?_) (fun zb41 => ?_)
        · refine w_iinc (fun zv42 => [(3, .int zv42), (2, .int q), (1, .int p), (0, .ref (ad 50))]) (fun _ => rfl) (List.Mem.head _) (Nat.le_of_ble_eq_true rfl) (by decide) (by omega) (by omega) (tX11_goPails_0_ok (83, .iinc 3 (-1), 3) (List.mem_of_getElem? (i := 51) rfl)) (fun zv42 ze43 => ?_)
          refine w_goto (tgt := 29) (tX11_goPails_0_ok (86, .goto (-57), 3) (List.mem_of_getElem? (i := 52) rfl)) rfl ?_
          refine w_lv [(3, .int zv42), (2, .int q), (1, .int p), (0, .ref (ad 50))] (by intro q hq; simp only [List.mem_cons, List.not_mem_nil, or_false] at hq ⊢; rcases hq with e | e | e | e <;> subst e <;> simp) ?_
          exact ih (j9 - 1) (by omega) _ _ (by omega) (by omega) zJ39
        · refine w_iconst (by decide) (tX11_goPails_0_ok (81, .iconst 1, 1) (List.mem_of_getElem? (i := 49) rfl)) (fun zv44 ze45 => ?_)
          refine w_zret rfl (by omega) (by omega) (tX11_goPails_0_ok (82, .ireturn, 1) (List.mem_of_getElem? (i := 50) rfl)) ?_
          exact hq _ _ zJ39
      · refine w_goto (tgt := 83) (tX11_goPails_0_ok (55, .goto 28, 3) (List.mem_of_getElem? (i := 33) rfl)) rfl ?_
        refine w_iinc (fun zv46 => [(3, .int zv46), (2, .int q), (1, .int p), (0, .ref (ad 50))]) (fun _ => rfl) (List.Mem.head _) (Nat.le_of_ble_eq_true rfl) (by decide) (by omega) (by omega) (tX11_goPails_0_ok (83, .iinc 3 (-1), 3) (List.mem_of_getElem? (i := 51) rfl)) (fun zv46 ze47 => ?_)
        refine w_goto (tgt := 29) (tX11_goPails_0_ok (86, .goto (-57), 3) (List.mem_of_getElem? (i := 52) rfl)) rfl ?_
        refine w_lv [(3, .int zv46), (2, .int q), (1, .int p), (0, .ref (ad 50))] (by intro q hq; simp only [List.mem_cons, List.not_mem_nil, or_false] at hq ⊢; rcases hq with e | e | e | e <;> subst e <;> simp) ?_
        exact ih (j9 - 1) (by omega) _ _ (by omega) (by omega) J
theorem x_goPails (hT : k_TX tys cA A X) (hl : ∀ L, zNM L = true → Sg (ad L) = some (lbR 50 55 L)) (b20 : 0 ≤ (I0 50 20).toInt ∧ (I0 50 20).toInt ≤ 6) : ∀ r9, gpS l D tys A X cA Sg ad I0 W0 r9 := by
  intro r9
  induction r9 with
  | zero =>
    intro fr lo Q h p q hf hlo hp hq9 J hq
    refine w_iload_n (List.Mem.tail _ (List.Mem.head _)) (tX11_goPails_0_ok (0, .iload_n 1, 1) (List.mem_of_getElem? (i := 0) rfl)) ?_
    refine w_iconst (by decide) (tX11_goPails_0_ok (1, .iconst 2, 1) (List.mem_of_getElem? (i := 1) rfl)) (fun zv1 ze2 => ?_)
    refine w_aload_n (List.Mem.head _) (tX11_goPails_0_ok (2, .aload_n 0, 1) (List.mem_of_getElem? (i := 2) rfl)) ?_
    refine x_getE (I0 := I0) (own := 16) (k := 20) (lo1 := 0) (hi1 := 6) hl J (fun _ _ hp => hp.1.2.1 20 (by decide)) rfl rfl rfl rfl (by decide) (tX11_goPails_0_ok (3, .getfield 248, 3) (List.mem_of_getElem? (i := 3) rfl)) (fun zb3 zb4 => ?_)
    refine w_imul (by assumption) (by omega) (by omega) (tX11_goPails_0_ok (6, .imul, 1) (List.mem_of_getElem? (i := 4) rfl)) (fun zv5 ze6 => ?_)
    refine w_icmp_ne (tgt := 27) (tX11_goPails_0_ok (7, .if_icmp .ne 20, 3) (List.mem_of_getElem? (i := 5) rfl)) rfl (fun zb7 => ?_) (fun zb7 => ?_)
    · exfalso; omega
    · refine w_iload_n (List.Mem.tail _ (List.Mem.tail _ (List.Mem.head _))) (tX11_goPails_0_ok (10, .iload_n 2, 1) (List.mem_of_getElem? (i := 6) rfl)) ?_
      refine w_if_ne (tgt := 25) (tX11_goPails_0_ok (11, .ifCond .ne 14, 3) (List.mem_of_getElem? (i := 7) rfl)) rfl (fun zb8 => ?_) (fun zb8 => ?_)
      · refine w_iconst (by decide) (tX11_goPails_0_ok (25, .iconst 0, 1) (List.mem_of_getElem? (i := 13) rfl)) (fun zv9 ze10 => ?_)
        refine w_zret rfl (by omega) (by omega) (tX11_goPails_0_ok (26, .ireturn, 1) (List.mem_of_getElem? (i := 14) rfl)) ?_
        exact hq _ _ J
      · refine w_aload_n (List.Mem.head _) (tX11_goPails_0_ok (14, .aload_n 0, 1) (List.mem_of_getElem? (i := 8) rfl)) ?_
        obtain ⟨zI11, zW12, zO13, zz14, zH15, zp16⟩ := id J
        refine w_callV (own := 16) (mi := 174) [] [] [(0, .ref (ad 50))] rfl (cllw_X11 (347, 0, 174) (List.mem_of_getElem? (i := 55) rfl)) rfl rfl (zz14.ob rfl rfl) rfl (by omega) (w_lo (n := 22) rfl (by omega)) (Nat.le_of_ble_eq_true rfl) (Nat.le_of_ble_eq_true rfl) rfl (tX11_goPails_0_ok (15, .invokevirtual 347, 3) (List.mem_of_getElem? (i := 9) rfl)) (x_doPailsDo hT hl (by omega) (w_sub (n := 22) rfl (by omega)) J (fun zh17 zv19 zJ18 => ?_))
        show ww l D tys A X fr lo mX11_goPails Q 18 [(0, .ref (ad 50)), (1, .int p), (2, .int q)] [.int zv19] zh17
        refine w_if_eq (tgt := 25) (tX11_goPails_0_ok (18, .ifCond .eq 7, 3) (List.mem_of_getElem? (i := 10) rfl)) rfl (fun zb20 => ?_) (fun zb20 => ?_)
        · refine w_iconst (by decide) (tX11_goPails_0_ok (25, .iconst 0, 1) (List.mem_of_getElem? (i := 13) rfl)) (fun zv21 ze22 => ?_)
          refine w_zret rfl (by omega) (by omega) (tX11_goPails_0_ok (26, .ireturn, 1) (List.mem_of_getElem? (i := 14) rfl)) ?_
          exact hq _ _ zJ18
        · refine w_iconst (by decide) (tX11_goPails_0_ok (21, .iconst 1, 1) (List.mem_of_getElem? (i := 11) rfl)) (fun zv23 ze24 => ?_)
          refine w_goto (tgt := 26) (tX11_goPails_0_ok (22, .goto 4, 3) (List.mem_of_getElem? (i := 12) rfl)) rfl ?_
          refine w_zret rfl (by omega) (by omega) (tX11_goPails_0_ok (26, .ireturn, 1) (List.mem_of_getElem? (i := 14) rfl)) ?_
          exact hq _ _ zJ18
  | succ r9 gp =>
    intro fr lo Q h p q hf hlo hp hq9 J hq
    refine w_iload_n (List.Mem.tail _ (List.Mem.head _)) (tX11_goPails_0_ok (0, .iload_n 1, 1) (List.mem_of_getElem? (i := 0) rfl)) ?_
    refine w_iconst (by decide) (tX11_goPails_0_ok (1, .iconst 2, 1) (List.mem_of_getElem? (i := 1) rfl)) (fun zv1 ze2 => ?_)
    refine w_aload_n (List.Mem.head _) (tX11_goPails_0_ok (2, .aload_n 0, 1) (List.mem_of_getElem? (i := 2) rfl)) ?_
    refine x_getE (I0 := I0) (own := 16) (k := 20) (lo1 := 0) (hi1 := 6) hl J (fun _ _ hp => hp.1.2.1 20 (by decide)) rfl rfl rfl rfl (by decide) (tX11_goPails_0_ok (3, .getfield 248, 3) (List.mem_of_getElem? (i := 3) rfl)) (fun zb3 zb4 => ?_)
    refine w_imul (by assumption) (by omega) (by omega) (tX11_goPails_0_ok (6, .imul, 1) (List.mem_of_getElem? (i := 4) rfl)) (fun zv5 ze6 => ?_)
    refine w_icmp_ne (tgt := 27) (tX11_goPails_0_ok (7, .if_icmp .ne 20, 3) (List.mem_of_getElem? (i := 5) rfl)) rfl (fun zb7 => ?_) (fun zb7 => ?_)
    · refine w_iload_n (List.Mem.tail _ (List.Mem.tail _ (List.Mem.head _))) (tX11_goPails_0_ok (27, .iload_n 2, 1) (List.mem_of_getElem? (i := 15) rfl)) ?_
      refine w_istore_n [(3, .int q), (0, .ref (ad 50)), (1, .int p), (2, .int q)] rfl (Nat.le_of_ble_eq_true rfl) (tX11_goPails_0_ok (28, .istore_n 3, 1) (List.mem_of_getElem? (i := 16) rfl)) ?_
      refine w_lv [(3, .int q), (2, .int q), (1, .int p), (0, .ref (ad 50))] (by intro q hq; simp only [List.mem_cons, List.not_mem_nil, or_false] at hq ⊢; rcases hq with e | e | e | e <;> subst e <;> simp) ?_
      exact x_goPL hT hl (by omega) (by omega) b20 gp (by omega) hq9 hq (2 * q.toInt.toNat + 1) _ _ (by omega) (by omega) J
    · exfalso; omega
theorem x_pailsL {p : Int32} (hT : k_TX tys cA A X) (hl : ∀ L, zNM L = true → Sg (ad L) = some (lbR 50 55 L)) (hf : 90 ≤ fr) (hlo : 4000 ≤ lo) (b20 : 0 ≤ (I0 50 20).toInt ∧ (I0 50 20).toInt ≤ 6) (hp : -1 ≤ p.toInt ∧ p.toInt ≤ 11) (hq : ∀ (g : ch_H) (v : Int32), jX Sg cA ad (jF I0 W0) g → Q (some (.int v)) g) : ∀ (j9 : Nat) (h : ch_H) (k : Int32), 0 ≤ k.toInt → k.toInt + j9 = 5 → jX Sg cA ad (jF I0 W0) h → ww l D tys A X fr lo mX11_pails Q 31 [(2, .int k), (1, .int p), (0, .ref (ad 50))] [] h := by
  intro j9
  induction j9 using Nat.strongRecOn with
  | ind j9 ih =>
    intro h k hj0 hj1 J
    refine w_iload_n (List.Mem.head _) (tX11_pails_0_ok (31, .iload_n 2, 1) (List.mem_of_getElem? (i := 17) rfl)) ?_
    refine w_iconst (by decide) (tX11_pails_0_ok (32, .iconst 4, 1) (List.mem_of_getElem? (i := 18) rfl)) (fun zv1 ze2 => ?_)
    refine w_icmp_gt (tgt := 67) (tX11_pails_0_ok (33, .if_icmp .gt 34, 3) (List.mem_of_getElem? (i := 19) rfl)) rfl (fun zb3 => ?_) (fun zb3 => ?_)
    · refine w_ldcwA (v := -1000000) (wA6 182 rfl rfl) (tX11_pails_0_ok (67, .ldc_w 292, 3) (List.mem_of_getElem? (i := 37) rfl)) (fun zv4 => ?_)
      refine w_iret rfl (tX11_pails_0_ok (70, .ireturn, 1) (List.mem_of_getElem? (i := 38) rfl)) ?_
      exact hq _ _ J
    · refine w_aload_n (List.Mem.tail _ (List.Mem.tail _ (List.Mem.head _))) (tX11_pails_0_ok (36, .aload_n 0, 1) (List.mem_of_getElem? (i := 20) rfl)) ?_
      refine w_iconst (by decide) (tX11_pails_0_ok (37, .iconst 0, 1) (List.mem_of_getElem? (i := 21) rfl)) (fun zv5 ze6 => ?_)
      refine w_iload_n (List.Mem.head _) (tX11_pails_0_ok (38, .iload_n 2, 1) (List.mem_of_getElem? (i := 22) rfl)) ?_
      obtain ⟨zI7, zW8, zO9, zz10, zH11, zp12⟩ := id J
      refine w_callV (own := 16) (mi := 187) [.int zv5, .int k] [] [(0, .ref (ad 50)), (1, .int zv5), (2, .int k)] rfl (cllw_X11 (350, 0, 187) (List.mem_of_getElem? (i := 54) rfl)) rfl rfl (zz10.ob rfl rfl) rfl (by omega) (w_lo (n := 23) rfl (by omega)) (Nat.le_of_ble_eq_true rfl) (Nat.le_of_ble_eq_true rfl) rfl (tX11_pails_0_ok (39, .invokevirtual 350, 3) (List.mem_of_getElem? (i := 23) rfl)) (x_goPails hT hl b20 (2 * (I0 50 20).toInt.toNat) _ _ _ _ _ _ (by omega) (w_sub (n := 23) rfl (by omega)) (by omega) (by omega) J (fun zh13 zv15 zJ14 => ?_))
      show ww l D tys A X fr lo mX11_pails Q 42 [(2, .int k), (1, .int p), (0, .ref (ad 50))] [.int zv15] zh13
      refine w_if_eq (tgt := 61) (tX11_pails_0_ok (42, .ifCond .eq 19, 3) (List.mem_of_getElem? (i := 24) rfl)) rfl (fun zb16 => ?_) (fun zb16 => ?_)
      · refine w_iinc (fun zv17 => [(2, .int zv17), (1, .int p), (0, .ref (ad 50))]) (fun _ => rfl) (List.Mem.head _) (Nat.le_of_ble_eq_true rfl) (by decide) (by omega) (by omega) (tX11_pails_0_ok (61, .iinc 2 1, 3) (List.mem_of_getElem? (i := 35) rfl)) (fun zv17 ze18 => ?_)
        refine w_goto (tgt := 31) (tX11_pails_0_ok (64, .goto (-33), 3) (List.mem_of_getElem? (i := 36) rfl)) rfl ?_
        refine w_lv [(2, .int zv17), (1, .int p), (0, .ref (ad 50))] (by intro q hq; simp only [List.mem_cons, List.not_mem_nil, or_false] at hq ⊢; rcases hq with e | e | e <;> subst e <;> simp) ?_
        exact ih (j9 - 1) (by omega) _ _ (by omega) (by omega) zJ14
      · refine w_iload_n (List.Mem.tail _ (List.Mem.head _)) (tX11_pails_0_ok (45, .iload_n 1, 1) (List.mem_of_getElem? (i := 25) rfl)) ?_
        refine w_iconst (by decide) (tX11_pails_0_ok (46, .iconst (-1), 1) (List.mem_of_getElem? (i := 26) rfl)) (fun zv19 ze20 => ?_)
        refine w_icmp_ne (tgt := 54) (tX11_pails_0_ok (47, .if_icmp .ne 7, 3) (List.mem_of_getElem? (i := 27) rfl)) rfl (fun zb21 => ?_) (fun zb21 => ?_)
        · refine w_aload_n (List.Mem.tail _ (List.Mem.tail _ (List.Mem.head _))) (tX11_pails_0_ok (54, .aload_n 0, 1) (List.mem_of_getElem? (i := 30) rfl)) ?_
          refine x_getR (own := 16) (k := 40) (L1 := 66) zJ14 rfl rfl rfl rfl (by decide) (tX11_pails_0_ok (55, .getfield 76, 3) (List.mem_of_getElem? (i := 31) rfl)) ?_
          refine w_iload_n (List.Mem.tail _ (List.Mem.head _)) (tX11_pails_0_ok (58, .iload_n 1, 1) (List.mem_of_getElem? (i := 32) rfl)) ?_
          refine x_iald (L := 66) (n := 12) (lo1 := -4) (hi1 := 4) hT.1 hl zJ14 rfl rfl ⟨rfl, rfl⟩ (by decide +kernel) (by omega) (by omega) (tX11_pails_0_ok (59, .iaload, 1) (List.mem_of_getElem? (i := 33) rfl)) (fun zv22 zb23 zb24 => ?_)
          refine w_iret rfl (tX11_pails_0_ok (60, .ireturn, 1) (List.mem_of_getElem? (i := 34) rfl)) ?_
          exact hq _ _ zJ14
        · refine w_iload_n (List.Mem.head _) (tX11_pails_0_ok (50, .iload_n 2, 1) (List.mem_of_getElem? (i := 28) rfl)) ?_
          refine w_goto (tgt := 60) (tX11_pails_0_ok (51, .goto 9, 3) (List.mem_of_getElem? (i := 29) rfl)) rfl ?_
          refine w_iret rfl (tX11_pails_0_ok (60, .ireturn, 1) (List.mem_of_getElem? (i := 34) rfl)) ?_
          exact hq _ _ zJ14
theorem x_pails {p : Int32} (hT : k_TX tys cA A X) (hl : ∀ L, zNM L = true → Sg (ad L) = some (lbR 50 55 L)) (hf : 90 ≤ fr) (hlo : 4000 ≤ lo) (J : jX Sg cA ad (jF I0 W0) h) (hq : ∀ (g : ch_H) (v : Int32), jX Sg cA ad (jF I0 W0) g → Q (some (.int v)) g) : ww l D tys A X fr lo mX11_pails Q 0 [(0, .ref (ad 50)), (1, .int p)] [] h := by
  refine w_aload_n (List.Mem.head _) (tX11_pails_0_ok (0, .aload_n 0, 1) (List.mem_of_getElem? (i := 0) rfl)) ?_
  refine w_iconst (by decide) (tX11_pails_0_ok (1, .iconst 0, 1) (List.mem_of_getElem? (i := 1) rfl)) (fun zv1 ze2 => ?_)
  refine x_putI (own := 16) (k := 0) (lo1 := -2147483648) (hi1 := 2147483647) hl J (fun _ _ _ e hp => jF.f (k := 0) (by decide) e hp) rfl rfl (i32b _) rfl rfl (by decide) rfl ⟨rfl, rfl⟩ (tX11_pails_0_ok (2, .putfield 85, 3) (List.mem_of_getElem? (i := 2) rfl)) (fun zh3 zJ4 => ?_)
  refine w_aload_n (List.Mem.head _) (tX11_pails_0_ok (5, .aload_n 0, 1) (List.mem_of_getElem? (i := 3) rfl)) ?_
  refine x_getE (I0 := I0) (own := 16) (k := 20) (lo1 := 0) (hi1 := 6) hl zJ4 (fun _ _ hp => hp.1.2.1 20 (by decide)) rfl rfl rfl rfl (by decide) (tX11_pails_0_ok (6, .getfield 248, 3) (List.mem_of_getElem? (i := 4) rfl)) (fun zb5 zb6 => ?_)
  refine w_if_eq (tgt := 25) (tX11_pails_0_ok (9, .ifCond .eq 16, 3) (List.mem_of_getElem? (i := 5) rfl)) rfl (fun zb7 => ?_) (fun zb7 => ?_)
  · refine w_ldcwA (v := -1000000) (wA6 182 rfl rfl) (tX11_pails_0_ok (25, .ldc_w 292, 3) (List.mem_of_getElem? (i := 13) rfl)) (fun zv8 => ?_)
    refine w_iret rfl (tX11_pails_0_ok (28, .ireturn, 1) (List.mem_of_getElem? (i := 14) rfl)) ?_
    exact hq _ _ zJ4
  · refine w_iload_n (List.Mem.tail _ (List.Mem.head _)) (tX11_pails_0_ok (12, .iload_n 1, 1) (List.mem_of_getElem? (i := 6) rfl)) ?_
    refine w_iconst (by decide) (tX11_pails_0_ok (13, .iconst (-1), 1) (List.mem_of_getElem? (i := 7) rfl)) (fun zv9 ze10 => ?_)
    refine w_icmp_eq (tgt := 29) (tX11_pails_0_ok (14, .if_icmp .eq 15, 3) (List.mem_of_getElem? (i := 8) rfl)) rfl (fun zb11 => ?_) (fun zb11 => ?_)
    · refine w_iconst (by decide) (tX11_pails_0_ok (29, .iconst 0, 1) (List.mem_of_getElem? (i := 15) rfl)) (fun zv12 ze13 => ?_)
      refine w_istore_n [(2, .int zv12), (0, .ref (ad 50)), (1, .int p)] rfl (Nat.le_of_ble_eq_true rfl) (tX11_pails_0_ok (30, .istore_n 2, 1) (List.mem_of_getElem? (i := 16) rfl)) ?_
      refine w_lv [(2, .int zv12), (1, .int p), (0, .ref (ad 50))] (by intro q hq; simp only [List.mem_cons, List.not_mem_nil, or_false] at hq ⊢; rcases hq with e | e | e <;> subst e <;> simp) ?_
      exact x_pailsL hT hl (by omega) (by omega) (by omega) (by omega) hq 5 _ _ (by omega) (by omega) zJ4
    · refine w_aload_n (List.Mem.head _) (tX11_pails_0_ok (17, .aload_n 0, 1) (List.mem_of_getElem? (i := 9) rfl)) ?_
      refine w_iload_n (List.Mem.tail _ (List.Mem.head _)) (tX11_pails_0_ok (18, .iload_n 1, 1) (List.mem_of_getElem? (i := 10) rfl)) ?_
      obtain ⟨zI14, zW15, zO16, zz17, zH18, zp19⟩ := id zJ4
      have zb20 := k5_bd hl zz17 zH18 (k := 20) (lo1 := 0) (hi1 := 6) rfl rfl
      refine w_callV (own := 16) (mi := 203) [.int p] [] [(0, .ref (ad 50)), (1, .int p)] rfl (cllw_X11 (274, 0, 203) (List.mem_of_getElem? (i := 38) rfl)) rfl rfl (zz17.ob rfl rfl) rfl (by omega) (w_lo (n := 21) rfl (by omega)) (Nat.le_of_ble_eq_true rfl) (Nat.le_of_ble_eq_true rfl) rfl (tX11_pails_0_ok (19, .invokevirtual 274, 3) (List.mem_of_getElem? (i := 11) rfl)) (y_isRoom hT.1 zz17 (n := (zI14 50 20).toInt.toNat) (by omega) (by omega)  (fun zv21 ze22 => ?_))
      show ww l D tys A X fr lo mX11_pails Q 22 [(0, .ref (ad 50)), (1, .int p)] [.int zv21] zh3
      refine w_if_ne (tgt := 29) (tX11_pails_0_ok (22, .ifCond .ne 7, 3) (List.mem_of_getElem? (i := 12) rfl)) rfl (fun zb23 => ?_) (fun zb23 => ?_)
      · refine w_iconst (by decide) (tX11_pails_0_ok (29, .iconst 0, 1) (List.mem_of_getElem? (i := 15) rfl)) (fun zv24 ze25 => ?_)
        refine w_istore_n [(2, .int zv24), (0, .ref (ad 50)), (1, .int p)] rfl (Nat.le_of_ble_eq_true rfl) (tX11_pails_0_ok (30, .istore_n 2, 1) (List.mem_of_getElem? (i := 16) rfl)) ?_
        refine w_lv [(2, .int zv24), (1, .int p), (0, .ref (ad 50))] (by intro q hq; simp only [List.mem_cons, List.not_mem_nil, or_false] at hq ⊢; rcases hq with e | e | e <;> subst e <;> simp) ?_
        exact x_pailsL hT hl (by omega) (by omega) (by omega) (by omega) hq 5 _ _ (by omega) (by omega) zJ4
      · refine w_ldcwA (v := -1000000) (wA6 182 rfl rfl) (tX11_pails_0_ok (25, .ldc_w 292, 3) (List.mem_of_getElem? (i := 13) rfl)) (fun zv26 => ?_)
        refine w_iret rfl (tX11_pails_0_ok (28, .ireturn, 1) (List.mem_of_getElem? (i := 14) rfl)) ?_
        exact hq _ _ zJ4
theorem x_goOL {p q e : Int32} {r9 : Nat} (hT : k_TX tys cA A X) (hl : ∀ L, zNM L = true → Sg (ad L) = some (lbR 50 55 L)) (hf : 72 + r9 ≤ fr) (hlo : 3140 + 40 * r9 ≤ lo) (b34 : 0 ≤ (I0 50 34).toInt ∧ (I0 50 34).toInt ≤ 6) (gp : goS l D tys A X cA Sg ad I0 W0 r9) (hp : 0 ≤ p.toInt ∧ p.toInt + (r9 + 1) = (I0 50 34).toInt) (hq : ∀ (g : ch_H), jX Sg cA ad (jF I0 W0) g → Q none g) : ∀ (j9 : Nat) (h : ch_H) (t : Int32), 0 ≤ t.toInt → t.toInt + j9 = 6 → jX Sg cA ad (jF I0 W0) h → ww l D tys A X fr lo mX11_goOrders Q 43 [(4, .int t), (3, .int e), (2, .int q), (1, .int p), (0, .ref (ad 50))] [] h := by
  intro j9
  induction j9 using Nat.strongRecOn with
  | ind j9 ih =>
    intro h t hj0 hj1 J
    refine w_iload (List.Mem.head _) (tX11_goOrders_0_ok (43, .iload 4, 2) (List.mem_of_getElem? (i := 24) rfl)) ?_
    refine w_aload_n (List.Mem.tail _ (List.Mem.tail _ (List.Mem.tail _ (List.Mem.tail _ (List.Mem.head _))))) (tX11_goOrders_0_ok (45, .aload_n 0, 1) (List.mem_of_getElem? (i := 25) rfl)) ?_
    refine x_getE (I0 := I0) (own := 16) (k := 34) (lo1 := 0) (hi1 := 6) hl J (fun _ _ hp => hp.1.2.1 34 (by decide)) rfl rfl rfl rfl (by decide) (tX11_goOrders_0_ok (46, .getfield 264, 3) (List.mem_of_getElem? (i := 26) rfl)) (fun zb1 zb2 => ?_)
    refine w_icmp_ge (tgt := 98) (tX11_goOrders_0_ok (49, .if_icmp .ge 49, 3) (List.mem_of_getElem? (i := 27) rfl)) rfl (fun zb3 => ?_) (fun zb3 => ?_)
    · refine w_vret rfl (tX11_goOrders_0_ok (98, .return_, 1) (List.mem_of_getElem? (i := 55) rfl)) ?_
      exact hq _ J
    · refine w_iload_n (List.Mem.tail _ (List.Mem.tail _ (List.Mem.head _))) (tX11_goOrders_0_ok (52, .iload_n 2, 1) (List.mem_of_getElem? (i := 28) rfl)) ?_
      refine w_iload (List.Mem.head _) (tX11_goOrders_0_ok (53, .iload 4, 2) (List.mem_of_getElem? (i := 29) rfl)) ?_
      refine w_callS (own := 16) (mi := 191) [.int q, .int t] [] [(0, .int q), (1, .int t)] rfl (cllw_X11 (217, 1, 191) (List.mem_of_getElem? (i := 10) rfl)) rfl rfl (by omega) (w_lo (n := 21) rfl (by omega)) (Nat.le_of_ble_eq_true rfl) (Nat.le_of_ble_eq_true rfl) rfl (tX11_goOrders_0_ok (55, .invokestatic 217, 3) (List.mem_of_getElem? (i := 30) rfl)) (y_hasA (fun zv4 ze5 => ?_))
      show ww l D tys A X fr lo mX11_goOrders Q 58 [(4, .int t), (3, .int e), (2, .int q), (1, .int p), (0, .ref (ad 50))] [.int zv4] h
      refine w_if_eq (tgt := 64) (tX11_goOrders_0_ok (58, .ifCond .eq 6, 3) (List.mem_of_getElem? (i := 31) rfl)) rfl (fun zb6 => ?_) (fun zb6 => ?_)
      · refine w_aload_n (List.Mem.tail _ (List.Mem.tail _ (List.Mem.tail _ (List.Mem.tail _ (List.Mem.head _))))) (tX11_goOrders_0_ok (64, .aload_n 0, 1) (List.mem_of_getElem? (i := 33) rfl)) ?_
        refine x_getR (own := 16) (k := 41) (L1 := 67) J rfl rfl rfl rfl (by decide) (tX11_goOrders_0_ok (65, .getfield 79, 3) (List.mem_of_getElem? (i := 34) rfl)) ?_
        refine w_iload_n (List.Mem.tail _ (List.Mem.tail _ (List.Mem.tail _ (List.Mem.head _)))) (tX11_goOrders_0_ok (68, .iload_n 1, 1) (List.mem_of_getElem? (i := 35) rfl)) ?_
        refine w_iload (List.Mem.head _) (tX11_goOrders_0_ok (69, .iload 4, 2) (List.mem_of_getElem? (i := 36) rfl)) ?_
        refine x_iast (L := 67) (n := 6) hT.1 hl J (fun _ _ _ hp => jF.a (by decide) hp) rfl rfl ⟨rfl, rfl, rfl⟩ (by omega) (by omega) (e67 ⟨by omega, by omega⟩) (tX11_goOrders_0_ok (71, .iastore, 1) (List.mem_of_getElem? (i := 37) rfl)) (fun zh7 zJ8 => ?_)
        refine w_aload_n (List.Mem.tail _ (List.Mem.tail _ (List.Mem.tail _ (List.Mem.tail _ (List.Mem.head _))))) (tX11_goOrders_0_ok (72, .aload_n 0, 1) (List.mem_of_getElem? (i := 38) rfl)) ?_
        refine w_iload_n (List.Mem.tail _ (List.Mem.tail _ (List.Mem.tail _ (List.Mem.head _)))) (tX11_goOrders_0_ok (73, .iload_n 1, 1) (List.mem_of_getElem? (i := 39) rfl)) ?_
        refine w_iconst (by decide) (tX11_goOrders_0_ok (74, .iconst 1, 1) (List.mem_of_getElem? (i := 40) rfl)) (fun zv9 ze10 => ?_)
        refine w_iadd (by omega) (by omega) (tX11_goOrders_0_ok (75, .iadd, 1) (List.mem_of_getElem? (i := 41) rfl)) (fun zv11 ze12 => ?_)
        refine w_iload_n (List.Mem.tail _ (List.Mem.tail _ (List.Mem.head _))) (tX11_goOrders_0_ok (76, .iload_n 2, 1) (List.mem_of_getElem? (i := 42) rfl)) ?_
        refine w_iconst (by decide) (tX11_goOrders_0_ok (77, .iconst 1, 1) (List.mem_of_getElem? (i := 43) rfl)) (fun zv13 ze14 => ?_)
        refine w_iload (List.Mem.head _) (tX11_goOrders_0_ok (78, .iload 4, 2) (List.mem_of_getElem? (i := 44) rfl)) ?_
        refine w_ishl (tX11_goOrders_0_ok (80, .ishl, 1) (List.mem_of_getElem? (i := 45) rfl)) (fun zv15 ze16 => ?_)
        refine w_ior (tX11_goOrders_0_ok (81, .ior, 1) (List.mem_of_getElem? (i := 46) rfl)) (fun zv17 ze18 => ?_)
        refine w_bipush (by decide) (tX11_goOrders_0_ok (82, .bipush 10, 2) (List.mem_of_getElem? (i := 47) rfl)) (fun zv19 ze20 => ?_)
        refine w_iload_n (List.Mem.tail _ (List.Mem.head _)) (tX11_goOrders_0_ok (84, .iload_n 3, 1) (List.mem_of_getElem? (i := 48) rfl)) ?_
        refine w_mulA (tX11_goOrders_0_ok (85, .imul, 1) (List.mem_of_getElem? (i := 49) rfl)) (fun zv21 => ?_)
        refine w_iload (List.Mem.head _) (tX11_goOrders_0_ok (86, .iload 4, 2) (List.mem_of_getElem? (i := 50) rfl)) ?_
        refine w_addE (tX11_goOrders_0_ok (88, .iadd, 1) (List.mem_of_getElem? (i := 51) rfl)) (fun zv22 ze23 => ?_)
        obtain ⟨zI24, zW25, zO26, zz27, zH28, zp29⟩ := id zJ8
        refine w_callV (own := 16) (mi := 186) [.int zv11, .int zv17, .int zv22] [] [(0, .ref (ad 50)), (1, .int zv11), (2, .int zv17), (3, .int zv22)] rfl (cllw_X11 (379, 0, 186) (List.mem_of_getElem? (i := 63) rfl)) rfl rfl (zz27.ob rfl rfl) rfl (by omega) (w_lo (n := 24) rfl (by omega)) (Nat.le_of_ble_eq_true rfl) (Nat.le_of_ble_eq_true rfl) rfl (tX11_goOrders_0_ok (89, .invokevirtual 379, 3) (List.mem_of_getElem? (i := 52) rfl)) (gp _ _ _ _ _ _ _ (by omega) (w_sub (n := 24) rfl (by omega)) (by omega)  zJ8 (fun zh30 zJ31 => ?_))
        show ww l D tys A X fr lo mX11_goOrders Q 92 [(4, .int t), (3, .int e), (2, .int q), (1, .int p), (0, .ref (ad 50))] [] zh30
        refine w_iinc (fun zv32 => [(4, .int zv32), (3, .int e), (2, .int q), (1, .int p), (0, .ref (ad 50))]) (fun _ => rfl) (List.Mem.head _) (Nat.le_of_ble_eq_true rfl) (by decide) (by omega) (by omega) (tX11_goOrders_0_ok (92, .iinc 4 1, 3) (List.mem_of_getElem? (i := 53) rfl)) (fun zv32 ze33 => ?_)
        refine w_goto (tgt := 43) (tX11_goOrders_0_ok (95, .goto (-52), 3) (List.mem_of_getElem? (i := 54) rfl)) rfl ?_
        refine w_lv [(4, .int zv32), (3, .int e), (2, .int q), (1, .int p), (0, .ref (ad 50))] (by intro q hq; simp only [List.mem_cons, List.not_mem_nil, or_false] at hq ⊢; rcases hq with e | e | e | e | e <;> subst e <;> simp) ?_
        exact ih (j9 - 1) (by omega) _ _ (by omega) (by omega) zJ31
      · refine w_goto (tgt := 92) (tX11_goOrders_0_ok (61, .goto 31, 3) (List.mem_of_getElem? (i := 32) rfl)) rfl ?_
        refine w_iinc (fun zv34 => [(4, .int zv34), (3, .int e), (2, .int q), (1, .int p), (0, .ref (ad 50))]) (fun _ => rfl) (List.Mem.head _) (Nat.le_of_ble_eq_true rfl) (by decide) (by omega) (by omega) (tX11_goOrders_0_ok (92, .iinc 4 1, 3) (List.mem_of_getElem? (i := 53) rfl)) (fun zv34 ze35 => ?_)
        refine w_goto (tgt := 43) (tX11_goOrders_0_ok (95, .goto (-52), 3) (List.mem_of_getElem? (i := 54) rfl)) rfl ?_
        refine w_lv [(4, .int zv34), (3, .int e), (2, .int q), (1, .int p), (0, .ref (ad 50))] (by intro q hq; simp only [List.mem_cons, List.not_mem_nil, or_false] at hq ⊢; rcases hq with e | e | e | e | e <;> subst e <;> simp) ?_
        exact ih (j9 - 1) (by omega) _ _ (by omega) (by omega) J
theorem x_goOrders (hT : k_TX tys cA A X) (hl : ∀ L, zNM L = true → Sg (ad L) = some (lbR 50 55 L)) (b34 : 0 ≤ (I0 50 34).toInt ∧ (I0 50 34).toInt ≤ 6) : ∀ r9, goS l D tys A X cA Sg ad I0 W0 r9 := by
  intro r9
  induction r9 with
  | zero =>
    intro fr lo Q h p q e hf hlo hp J hq
    refine w_iload_n (List.Mem.tail _ (List.Mem.head _)) (tX11_goOrders_0_ok (0, .iload_n 1, 1) (List.mem_of_getElem? (i := 0) rfl)) ?_
    refine w_aload_n (List.Mem.head _) (tX11_goOrders_0_ok (1, .aload_n 0, 1) (List.mem_of_getElem? (i := 1) rfl)) ?_
    refine x_getE (I0 := I0) (own := 16) (k := 34) (lo1 := 0) (hi1 := 6) hl J (fun _ _ hp => hp.1.2.1 34 (by decide)) rfl rfl rfl rfl (by decide) (tX11_goOrders_0_ok (2, .getfield 264, 3) (List.mem_of_getElem? (i := 2) rfl)) (fun zb1 zb2 => ?_)
    refine w_icmp_ne (tgt := 40) (tX11_goOrders_0_ok (5, .if_icmp .ne 35, 3) (List.mem_of_getElem? (i := 3) rfl)) rfl (fun zb3 => ?_) (fun zb3 => ?_)
    · exfalso; omega
    · refine w_aload_n (List.Mem.head _) (tX11_goOrders_0_ok (8, .aload_n 0, 1) (List.mem_of_getElem? (i := 4) rfl)) ?_
      obtain ⟨zI4, zW5, zO6, zz7, zH8, zp9⟩ := id J
      refine w_callV (own := 16) (mi := 175) [] [] [(0, .ref (ad 50))] rfl (cllw_X11 (370, 0, 175) (List.mem_of_getElem? (i := 64) rfl)) rfl rfl (zz7.ob rfl rfl) rfl (by omega) (w_lo (n := 23) rfl (by omega)) (Nat.le_of_ble_eq_true rfl) (Nat.le_of_ble_eq_true rfl) rfl (tX11_goOrders_0_ok (9, .invokevirtual 370, 3) (List.mem_of_getElem? (i := 5) rfl)) (x_doesOrder hT hl (by omega) (w_sub (n := 23) rfl (by omega)) J (fun zh10 zv12 zJ11 => ?_))
      show ww l D tys A X fr lo mX11_goOrders Q 12 [(0, .ref (ad 50)), (1, .int p), (2, .int q), (3, .int e)] [.int zv12] zh10
      refine w_if_ne (tgt := 16) (tX11_goOrders_0_ok (12, .ifCond .ne 4, 3) (List.mem_of_getElem? (i := 6) rfl)) rfl (fun zb13 => ?_) (fun zb13 => ?_)
      · refine w_aload_n (List.Mem.head _) (tX11_goOrders_0_ok (16, .aload_n 0, 1) (List.mem_of_getElem? (i := 8) rfl)) ?_
        refine w_dup rfl (tX11_goOrders_0_ok (17, .dup, 1) (List.mem_of_getElem? (i := 9) rfl)) ?_
        refine x_getI (own := 16) (k := 42) (lo1 := -2147483648) (hi1 := 2147483647) hl zJ11 rfl rfl rfl rfl (by decide) (tX11_goOrders_0_ok (18, .getfield 373, 3) (List.mem_of_getElem? (i := 10) rfl)) (fun zv16 zb14 zb15 => ?_)
        refine w_iconst (by decide) (tX11_goOrders_0_ok (21, .iconst 1, 1) (List.mem_of_getElem? (i := 11) rfl)) (fun zv17 ze18 => ?_)
        refine w_addE (tX11_goOrders_0_ok (22, .iadd, 1) (List.mem_of_getElem? (i := 12) rfl)) (fun zv19 ze20 => ?_)
        refine x_putI (own := 16) (k := 42) (lo1 := -2147483648) (hi1 := 2147483647) hl zJ11 (fun _ _ _ e hp => jF.f (k := 42) (by decide) e hp) rfl rfl (i32b _) rfl rfl (by decide) rfl ⟨rfl, rfl⟩ (tX11_goOrders_0_ok (23, .putfield 373, 3) (List.mem_of_getElem? (i := 13) rfl)) (fun zh21 zJ22 => ?_)
        refine w_aload_n (List.Mem.head _) (tX11_goOrders_0_ok (26, .aload_n 0, 1) (List.mem_of_getElem? (i := 14) rfl)) ?_
        refine x_getI (own := 16) (k := 43) (lo1 := -2147483648) (hi1 := 2147483647) hl zJ22 rfl rfl rfl rfl (by decide) (tX11_goOrders_0_ok (27, .getfield 376, 3) (List.mem_of_getElem? (i := 15) rfl)) (fun zv25 zb23 zb24 => ?_)
        refine w_iconst (by decide) (tX11_goOrders_0_ok (30, .iconst (-1), 1) (List.mem_of_getElem? (i := 16) rfl)) (fun zv26 ze27 => ?_)
        refine w_icmp_ne (tgt := 39) (tX11_goOrders_0_ok (31, .if_icmp .ne 8, 3) (List.mem_of_getElem? (i := 17) rfl)) rfl (fun zb28 => ?_) (fun zb28 => ?_)
        · refine w_vret rfl (tX11_goOrders_0_ok (39, .return_, 1) (List.mem_of_getElem? (i := 21) rfl)) ?_
          exact hq _ zJ22
        · refine w_aload_n (List.Mem.head _) (tX11_goOrders_0_ok (34, .aload_n 0, 1) (List.mem_of_getElem? (i := 18) rfl)) ?_
          refine w_iload_n (List.Mem.tail _ (List.Mem.tail _ (List.Mem.tail _ (List.Mem.head _)))) (tX11_goOrders_0_ok (35, .iload_n 3, 1) (List.mem_of_getElem? (i := 19) rfl)) ?_
          refine x_putI (own := 16) (k := 43) (lo1 := -2147483648) (hi1 := 2147483647) hl zJ22 (fun _ _ _ e hp => jF.f (k := 43) (by decide) e hp) rfl rfl (i32b _) rfl rfl (by decide) rfl ⟨rfl, rfl⟩ (tX11_goOrders_0_ok (36, .putfield 376, 3) (List.mem_of_getElem? (i := 20) rfl)) (fun zh29 zJ30 => ?_)
          refine w_vret rfl (tX11_goOrders_0_ok (39, .return_, 1) (List.mem_of_getElem? (i := 21) rfl)) ?_
          exact hq _ zJ30
      · refine w_vret rfl (tX11_goOrders_0_ok (15, .return_, 1) (List.mem_of_getElem? (i := 7) rfl)) ?_
        exact hq _ zJ11
  | succ r9 gp =>
    intro fr lo Q h p q e hf hlo hp J hq
    refine w_iload_n (List.Mem.tail _ (List.Mem.head _)) (tX11_goOrders_0_ok (0, .iload_n 1, 1) (List.mem_of_getElem? (i := 0) rfl)) ?_
    refine w_aload_n (List.Mem.head _) (tX11_goOrders_0_ok (1, .aload_n 0, 1) (List.mem_of_getElem? (i := 1) rfl)) ?_
    refine x_getE (I0 := I0) (own := 16) (k := 34) (lo1 := 0) (hi1 := 6) hl J (fun _ _ hp => hp.1.2.1 34 (by decide)) rfl rfl rfl rfl (by decide) (tX11_goOrders_0_ok (2, .getfield 264, 3) (List.mem_of_getElem? (i := 2) rfl)) (fun zb1 zb2 => ?_)
    refine w_icmp_ne (tgt := 40) (tX11_goOrders_0_ok (5, .if_icmp .ne 35, 3) (List.mem_of_getElem? (i := 3) rfl)) rfl (fun zb3 => ?_) (fun zb3 => ?_)
    · refine w_iconst (by decide) (tX11_goOrders_0_ok (40, .iconst 0, 1) (List.mem_of_getElem? (i := 22) rfl)) (fun zv4 ze5 => ?_)
      refine w_istore [(4, .int zv4), (0, .ref (ad 50)), (1, .int p), (2, .int q), (3, .int e)] rfl (Nat.le_of_ble_eq_true rfl) (tX11_goOrders_0_ok (41, .istore 4, 2) (List.mem_of_getElem? (i := 23) rfl)) ?_
      refine w_lv [(4, .int zv4), (3, .int e), (2, .int q), (1, .int p), (0, .ref (ad 50))] (by intro q hq; simp only [List.mem_cons, List.not_mem_nil, or_false] at hq ⊢; rcases hq with e | e | e | e | e <;> subst e <;> simp) ?_
      exact x_goOL hT hl (by omega) (by omega) b34 gp (by omega) hq 6 _ _ (by omega) (by omega) J
    · exfalso; omega
theorem x_orders {p : Int32} (hT : k_TX tys cA A X) (hl : ∀ L, zNM L = true → Sg (ad L) = some (lbR 50 55 L)) (hf : 90 ≤ fr) (hlo : 4000 ≤ lo) (J : jX Sg cA ad (jF I0 W0) h) (hq : ∀ (g : ch_H) (v : Int32), jX Sg cA ad (jF I0 W0) g → Q (some (.int v)) g) : ww l D tys A X fr lo mX11_orders Q 0 [(0, .ref (ad 50)), (1, .int p)] [] h := by
  refine w_aload_n (List.Mem.head _) (tX11_orders_0_ok (0, .aload_n 0, 1) (List.mem_of_getElem? (i := 0) rfl)) ?_
  refine w_iconst (by decide) (tX11_orders_0_ok (1, .iconst 0, 1) (List.mem_of_getElem? (i := 1) rfl)) (fun zv1 ze2 => ?_)
  refine x_putI (own := 16) (k := 0) (lo1 := -2147483648) (hi1 := 2147483647) hl J (fun _ _ _ e hp => jF.f (k := 0) (by decide) e hp) rfl rfl (i32b _) rfl rfl (by decide) rfl ⟨rfl, rfl⟩ (tX11_orders_0_ok (2, .putfield 85, 3) (List.mem_of_getElem? (i := 2) rfl)) (fun zh3 zJ4 => ?_)
  refine w_aload_n (List.Mem.head _) (tX11_orders_0_ok (5, .aload_n 0, 1) (List.mem_of_getElem? (i := 3) rfl)) ?_
  refine x_getE (I0 := I0) (own := 16) (k := 34) (lo1 := 0) (hi1 := 6) hl zJ4 (fun _ _ hp => hp.1.2.1 34 (by decide)) rfl rfl rfl rfl (by decide) (tX11_orders_0_ok (6, .getfield 264, 3) (List.mem_of_getElem? (i := 4) rfl)) (fun zb5 zb6 => ?_)
  refine w_if_eq (tgt := 21) (tX11_orders_0_ok (9, .ifCond .eq 12, 3) (List.mem_of_getElem? (i := 5) rfl)) rfl (fun zb7 => ?_) (fun zb7 => ?_)
  · refine w_iconst (by decide) (tX11_orders_0_ok (21, .iconst (-1), 1) (List.mem_of_getElem? (i := 11) rfl)) (fun zv8 ze9 => ?_)
    refine w_iret rfl (tX11_orders_0_ok (22, .ireturn, 1) (List.mem_of_getElem? (i := 12) rfl)) ?_
    exact hq _ _ zJ4
  · refine w_iload_n (List.Mem.tail _ (List.Mem.head _)) (tX11_orders_0_ok (12, .iload_n 1, 1) (List.mem_of_getElem? (i := 6) rfl)) ?_
    refine w_iconst (by decide) (tX11_orders_0_ok (13, .iconst 0, 1) (List.mem_of_getElem? (i := 7) rfl)) (fun zv10 ze11 => ?_)
    refine w_iconst (by decide) (tX11_orders_0_ok (14, .iconst 1, 1) (List.mem_of_getElem? (i := 8) rfl)) (fun zv12 ze13 => ?_)
    refine w_callS (own := 16) (mi := 199) [.int p, .int zv10, .int zv12] [] [(0, .int p), (1, .int zv10), (2, .int zv12)] rfl (cllw_X11 (207, 1, 199) (List.mem_of_getElem? (i := 2) rfl)) rfl rfl (by omega) (w_lo (n := 22) rfl (by omega)) (Nat.le_of_ble_eq_true rfl) (Nat.le_of_ble_eq_true rfl) rfl (tX11_orders_0_ok (15, .invokestatic 207, 3) (List.mem_of_getElem? (i := 9) rfl)) (r_isIn (fun zv14 ze15 => ?_))
    show ww l D tys A X fr lo mX11_orders Q 18 [(0, .ref (ad 50)), (1, .int p)] [.int zv14] zh3
    refine w_if_ne (tgt := 23) (tX11_orders_0_ok (18, .ifCond .ne 5, 3) (List.mem_of_getElem? (i := 10) rfl)) rfl (fun zb16 => ?_) (fun zb16 => ?_)
    · refine w_aload_n (List.Mem.head _) (tX11_orders_0_ok (23, .aload_n 0, 1) (List.mem_of_getElem? (i := 13) rfl)) ?_
      refine w_iconst (by decide) (tX11_orders_0_ok (24, .iconst 0, 1) (List.mem_of_getElem? (i := 14) rfl)) (fun zv17 ze18 => ?_)
      refine x_putI (own := 16) (k := 42) (lo1 := -2147483648) (hi1 := 2147483647) hl zJ4 (fun _ _ _ e hp => jF.f (k := 42) (by decide) e hp) rfl rfl (i32b _) rfl rfl (by decide) rfl ⟨rfl, rfl⟩ (tX11_orders_0_ok (25, .putfield 373, 3) (List.mem_of_getElem? (i := 15) rfl)) (fun zh19 zJ20 => ?_)
      refine w_aload_n (List.Mem.head _) (tX11_orders_0_ok (28, .aload_n 0, 1) (List.mem_of_getElem? (i := 16) rfl)) ?_
      refine w_iconst (by decide) (tX11_orders_0_ok (29, .iconst (-1), 1) (List.mem_of_getElem? (i := 17) rfl)) (fun zv21 ze22 => ?_)
      refine x_putI (own := 16) (k := 43) (lo1 := -2147483648) (hi1 := 2147483647) hl zJ20 (fun _ _ _ e hp => jF.f (k := 43) (by decide) e hp) rfl rfl (i32b _) rfl rfl (by decide) rfl ⟨rfl, rfl⟩ (tX11_orders_0_ok (30, .putfield 376, 3) (List.mem_of_getElem? (i := 18) rfl)) (fun zh23 zJ24 => ?_)
      refine w_aload_n (List.Mem.head _) (tX11_orders_0_ok (33, .aload_n 0, 1) (List.mem_of_getElem? (i := 19) rfl)) ?_
      refine w_iconst (by decide) (tX11_orders_0_ok (34, .iconst 0, 1) (List.mem_of_getElem? (i := 20) rfl)) (fun zv25 ze26 => ?_)
      refine w_iconst (by decide) (tX11_orders_0_ok (35, .iconst 0, 1) (List.mem_of_getElem? (i := 21) rfl)) (fun zv27 ze28 => ?_)
      refine w_iconst (by decide) (tX11_orders_0_ok (36, .iconst 0, 1) (List.mem_of_getElem? (i := 22) rfl)) (fun zv29 ze30 => ?_)
      obtain ⟨zI31, zW32, zO33, zz34, zH35, zp36⟩ := id zJ24
      refine w_callV (own := 16) (mi := 186) [.int zv25, .int zv27, .int zv29] [] [(0, .ref (ad 50)), (1, .int zv25), (2, .int zv27), (3, .int zv29)] rfl (cllw_X11 (379, 0, 186) (List.mem_of_getElem? (i := 63) rfl)) rfl rfl (zz34.ob rfl rfl) rfl (by omega) (w_lo (n := 24) rfl (by omega)) (Nat.le_of_ble_eq_true rfl) (Nat.le_of_ble_eq_true rfl) rfl (tX11_orders_0_ok (37, .invokevirtual 379, 3) (List.mem_of_getElem? (i := 23) rfl)) (x_goOrders hT hl (by omega) (I0 50 34).toInt.toNat _ _ _ _ _ _ _ (by omega) (w_sub (n := 24) rfl (by omega)) (by omega) zJ24 (fun zh37 zJ38 => ?_))
      show ww l D tys A X fr lo mX11_orders Q 40 [(0, .ref (ad 50)), (1, .int p)] [] zh37
      refine w_iload_n (List.Mem.tail _ (List.Mem.head _)) (tX11_orders_0_ok (40, .iload_n 1, 1) (List.mem_of_getElem? (i := 24) rfl)) ?_
      refine w_if_ne (tgt := 51) (tX11_orders_0_ok (41, .ifCond .ne 10, 3) (List.mem_of_getElem? (i := 25) rfl)) rfl (fun zb39 => ?_) (fun zb39 => ?_)
      · refine w_aload_n (List.Mem.head _) (tX11_orders_0_ok (51, .aload_n 0, 1) (List.mem_of_getElem? (i := 29) rfl)) ?_
        refine x_getI (own := 16) (k := 43) (lo1 := -2147483648) (hi1 := 2147483647) hl zJ38 rfl rfl rfl rfl (by decide) (tX11_orders_0_ok (52, .getfield 376, 3) (List.mem_of_getElem? (i := 30) rfl)) (fun zv42 zb40 zb41 => ?_)
        refine w_iret rfl (tX11_orders_0_ok (55, .ireturn, 1) (List.mem_of_getElem? (i := 31) rfl)) ?_
        exact hq _ _ zJ38
      · refine w_aload_n (List.Mem.head _) (tX11_orders_0_ok (44, .aload_n 0, 1) (List.mem_of_getElem? (i := 26) rfl)) ?_
        refine x_getI (own := 16) (k := 42) (lo1 := -2147483648) (hi1 := 2147483647) hl zJ38 rfl rfl rfl rfl (by decide) (tX11_orders_0_ok (45, .getfield 373, 3) (List.mem_of_getElem? (i := 27) rfl)) (fun zv45 zb43 zb44 => ?_)
        refine w_goto (tgt := 55) (tX11_orders_0_ok (48, .goto 7, 3) (List.mem_of_getElem? (i := 28) rfl)) rfl ?_
        refine w_iret rfl (tX11_orders_0_ok (55, .ireturn, 1) (List.mem_of_getElem? (i := 31) rfl)) ?_
        exact hq _ _ zJ38
    · refine w_iconst (by decide) (tX11_orders_0_ok (21, .iconst (-1), 1) (List.mem_of_getElem? (i := 11) rfl)) (fun zv46 ze47 => ?_)
      refine w_iret rfl (tX11_orders_0_ok (22, .ireturn, 1) (List.mem_of_getElem? (i := 12) rfl)) ?_
      exact hq _ _ zJ4
end
