/-! doPailsDo: the TOWN is put back (made by gen_kQt) -/
section
variable {l : Launch} {D : va_G} {tys : List (ClassId × FieldType)} {A : Nat → Prop} {X : State → Prop} {fr lo : Nat} {Q : Option Value → ch_H → Prop} {h : ch_H} {cA : Nat → ClassId} {Sg : Nat → Option Nat} {ad : Nat → Nat} {I0 : zI} {W0 : zW}
theorem pd_fs {f : Nat → Int32} {w : Nat → Int64} {o : Nat → Value} {fs fs6 : List Value} {kd : Int64} (ef : fs = z_fs ad f w o 0 (zZ 50).2.2.2) (fl : fs.length = 47) (fl6 : fs6.length = 47) (f36 : fs6[36]? = some (.long kd)) (f6 : ∀ j, j ≠ 36 → fs6[j]? = fs[j]?) : fs6 = z_fs ad f (wpd w 36 kd) o 0 (zZ 50).2.2.2 := by
  have e := z_fs_long (ad := ad) (f := f) (w := w) (o := o) (x := kd) (zZ 50).2.2.2 0 36 (1, 0, 0) rfl rfl
  rw [Nat.zero_add, ← ef] at e
  rw [← e]
  refine List.ext_getElem? (fun j => ?_)
  by_cases c : j = 36
  · subst c
    rw [f36, List.getElem?_set_self (by omega)]
  · rw [f6 j c, List.getElem?_set_ne (fun z => c z.symm)]
theorem x_doPailsD0 (hT : k_TX tys cA A X) (hl : ∀ L, zNM L = true → Sg (ad L) = some (lbR 50 55 L)) (J : jX Sg cA ad (jF I0 W0) h) (hq : ∀ (g : ch_H) (v : Int32), jX Sg cA ad (jF I0 W0) g → Q (some (.int v)) g) : ww l D tys A X 24 1000 mX11_doPailsDo Q 0 [(0, .ref (ad 50))] [] h := by
  have hws := sat_166 (l := l) (D := D) (Sg := Sg) hT
  have hwm := sat_167 (l := l) (D := D) (Sg := Sg) hT
  refine w_aload_n (List.Mem.head _) (tX11_doPailsDo_0_ok (0, .aload_n 0, 1) (List.mem_of_getElem? (i := 0) rfl)) ?_
  obtain ⟨I9, W9, O9, z9, H9a, p9⟩ := id J
  refine w_callV (own := 16) (mi := 208) [] [] [(0, .ref (ad 50))] rfl (cllw_X11 (332, 0, 208) (List.mem_of_getElem? (i := 51) rfl)) rfl rfl (z9.ob (L := 50) rfl rfl) rfl (by omega) (w_lo (n := 21) rfl (by omega)) (Nat.le_of_ble_eq_true rfl) (Nat.le_of_ble_eq_true rfl) rfl (tX11_doPailsDo_0_ok (1, .invokevirtual 332, 3) (List.mem_of_getElem? (i := 1) rfl)) (x_keeps hT.1 hl J (fun zg2 J2 => ?_))
  obtain ⟨I, W, O, hz, zq3, hB, hK⟩ := J2
  have s_m : Sg (ad 50) = some 50 := hl 50 rfl
  obtain ⟨fs, ro, to, we, R, T, Wt, pe, rp, s_ro, s_to, s_we, H, hmi, hw, fl, rp6⟩ := T_br zq3 s_m rfl rfl Lb_56 rfl (by decide) (by decide)
  obtain ⟨fs9, c_m9, -, ty⟩ := zq3.obj s_m (L := 50) rfl
  rw [H.1] at c_m9
  cases c_m9
  obtain ⟨v23, f23, t23⟩ := ty 23 _ rfl
  obtain ⟨kp, rfl, s_kp⟩ := k_v.ref t23
  obtain ⟨v40, f40, t40⟩ := ty 40 _ rfl
  obtain ⟨pa, rfl, s_pa⟩ := k_v.ref t40
  obtain ⟨v37, f37, kd, rfl⟩ := ty 37 _ rfl
  obtain ⟨K, c_kp, hKx, hKw⟩ := T_town zq3 s_kp Lb_57
  obtain ⟨P, c_pa, hP⟩ := zq3.arr s_pa (L := 66) rfl
  have H9 := H
  obtain ⟨c_m, f19, f20, f22, f28, f33, c_ro, c_to, c_we, pe0, rp0, hbo⟩ := H
  have ef : fs = z_fs ad (I 50) (W 50) (O 50) 0 (zZ 50).2.2.2 := by
    have := c_m.symm.trans (hz.ob (L := 50) (ts := (zZ 50).2.2.2) rfl rfl)
    cases this
    rfl
  have et : to = ad 56 := by
    have e2 := z_fsR (ad := ad) (f := I 50) (w := W 50) (o := O 50) (ts := (zZ 50).2.2.2) (k := 22) (L1 := 56) rfl rfl rfl
    rw [← ef, f22] at e2
    cases e2
    rfl
  have ek : kp = ad 57 := by
    have e2 := z_fsR (ad := ad) (f := I 50) (w := W 50) (o := O 50) (ts := (zZ 50).2.2.2) (k := 23) (L1 := 57) rfl rfl rfl
    rw [← ef, f23] at e2
    cases e2
    rfl
  have ed : kd = W 50 37 := by
    have e2 : (z_fs ad (I 50) (W 50) (O 50) 0 (zZ 50).2.2.2)[37]? = some (.long (W 50 37)) := rfl
    rw [← ef, f37] at e2
    cases e2
    rfl
  have eK : K = I 57 := by
    have e2 := hz.ar (L := 57) (f := I 57) rfl rfl rfl
    rw [← ek, c_kp] at e2
    exact Sum.inl.inj (Prod.mk.inj (Prod.mk.inj (Sum.inl.inj (Option.some.inj e2))).2).2
  have n_m_to : ad 50 ≠ to := k_sg_ne s_m s_to (by decide)
  have n_to_m : to ≠ ad 50 := k_sg_ne s_to s_m (by decide)
  have n_kp_to : kp ≠ to := k_sg_ne s_kp s_to (by decide)
  have n_kp_m : kp ≠ ad 50 := k_sg_ne s_kp s_m (by decide)
  have n_pa_to : pa ≠ to := k_sg_ne s_pa s_to (by decide)
  have n_ro_to : ro ≠ to := k_sg_ne s_ro s_to (by decide)
  have n_we_to : we ≠ to := k_sg_ne s_we s_to (by decide)
  show ww l D tys A X 24 1000 mX11_doPailsDo _ 4 [(0, .ref (ad 50))] [] zg2
  refine w_iconst (by decide) (tX11_doPailsDo_0_ok (4, .iconst 0, 1) (List.mem_of_getElem? (i := 2) rfl)) (fun zv6 ze7 => ?_)
  refine w_istore_n [(1, .int zv6), (0, .ref (ad 50))] rfl (Nat.le_of_ble_eq_true rfl) (tX11_doPailsDo_0_ok (5, .istore_n 1, 1) (List.mem_of_getElem? (i := 3) rfl)) ?_
  refine w_lv [(1, .int zv6), (0, .ref (ad 50))] (by intro q hq; simp only [List.mem_cons, List.not_mem_nil, or_false] at hq ⊢; rcases hq with e | e <;> subst e <;> simp) ?_
  refine h_pdL hT.1 (h0 := zg2) n_m_to n_pa_to f20 f22 f40 ⟨rp0, rp6⟩ hw hP (fun g2 k2 T2 c_m2 c_to2 hx2 hw2 ho2 => ?_) (2 * rp.toInt.toNat) _ _ T (by omega) (by omega) c_m c_to c_pa (fun _ _ => rfl) (fun q q1 q2 => by omega) (fun _ _ => rfl)
  have H2 : br9 cA g2 (ad 50) fs ro to we R T2 Wt pe rp := ⟨c_m2, f19, f20, f22, f28, f33, (ho2 ro n_ro_to).trans c_ro, c_to2, (ho2 we n_we_to).trans c_we, pe0, rp0, hbo.1, hw2, hbo.2.2⟩
  have hmi2 : mi9 R T2 := fun p hp => by rw [hx2 p (by omega)]; exact hmi p hp
  refine w_aload_n (List.Mem.tail _ (List.Mem.head _)) (tX11_doPailsDo_0_ok (40, .aload_n 0, 1) (List.mem_of_getElem? (i := 25) rfl)) ?_
  refine w_callV (own := 16) (mi := 237) [] [] [(0, .ref (ad 50))] rfl (cllw_X11 (311, 0, 237) (List.mem_of_getElem? (i := 45) rfl)) rfl rfl c_m2 rfl (by omega) (w_lo (n := 21) rfl (by omega)) (Nat.le_of_ble_eq_true rfl) (Nat.le_of_ble_eq_true rfl) rfl (tX11_doPailsDo_0_ok (41, .invokevirtual 311, 3) (List.mem_of_getElem? (i := 26) rfl)) (h_rests hT.1 n_m_to n_ro_to n_we_to (by decide) (Nat.le_of_ble_eq_true rfl) H2 hmi2 (fun g3 T3 v3 r1 r2 r3 r4 => ?_))
  have o3 : ∀ q, q ≠ to → g3 q = zg2 q := fun q hq => (r4 q hq).trans (ho2 q hq)
  have w3 : ∀ k, k < 12 → -4 ≤ (T3 (18 + k)).toInt ∧ (T3 (18 + k)).toInt ≤ 103 := fun k hk => by rw [r3 (18 + k) (by omega) (by omega)]; exact hw2 k hk
  have hH3 : k_H Sg cA Lb2 g3 := T_wide zq3 s_to r1.2.2.2.2.2.2.2.1 (fun i hi => (r2 i hi).2.2.2.2) w3 o3
  show ww l D tys A X 24 1000 mX11_doPailsDo _ 44 [(1, .int k2), (0, .ref (ad 50))] [.int v3] g3
  refine w_istore_n [(1, .int v3), (0, .ref (ad 50))] rfl (Nat.le_of_ble_eq_true rfl) (tX11_doPailsDo_0_ok (44, .istore_n 1, 1) (List.mem_of_getElem? (i := 27) rfl)) ?_
  refine w_aload_n (List.Mem.tail _ (List.Mem.head _)) (tX11_doPailsDo_0_ok (45, .aload_n 0, 1) (List.mem_of_getElem? (i := 28) rfl)) ?_
  refine w_callKV (own := 16) (mi := 261) [] [] rfl (cllw_X11 (341, 0, 261) (List.mem_of_getElem? (i := 56) rfl)) rfl rfl rfl r1.1 rfl hws hH3 rfl (fun i ty hi => ?_) (by decide) (Nat.le_of_ble_eq_true rfl) (Nat.le_of_ble_eq_true rfl) (Nat.le_of_ble_eq_true rfl) (tX11_doPailsDo_0_ok (46, .invokevirtual 341, 3) (List.mem_of_getElem? (i := 29) rfl)) (fun zr8 zg9 zq10 zq11 zq12 => ?_)
  · match i, hi with
    | 0, hi => cases hi; exact ⟨_, rfl, ad 50, rfl, s_m⟩
  obtain ⟨vA, eA, tA⟩ := zq12
  obtain ⟨xA, rfl, -, -⟩ := k_v.int tA
  subst eA
  have c_mA := (k_U.nil hH3 zq11 s_m).trans r1.1
  have nA : ∀ a L, Sg a = some L → zg9 a = g3 a := fun a L ha => k_U.nil hH3 zq11 ha
  show ww l D tys A X 24 1000 mX11_doPailsDo _ 49 [(1, .int v3), (0, .ref (ad 50))] [.int xA] zg9
  refine w_aload_n (List.Mem.tail _ (List.Mem.head _)) (tX11_doPailsDo_0_ok (49, .aload_n 0, 1) (List.mem_of_getElem? (i := 30) rfl)) ?_
  refine w_callKV (own := 16) (mi := 260) [] [.int xA] rfl (cllw_X11 (344, 0, 260) (List.mem_of_getElem? (i := 57) rfl)) rfl rfl rfl c_mA rfl hwm zq10 rfl (fun i ty hi => ?_) (by decide) (Nat.le_of_ble_eq_true rfl) (Nat.le_of_ble_eq_true rfl) (Nat.le_of_ble_eq_true rfl) (tX11_doPailsDo_0_ok (50, .invokevirtual 344, 3) (List.mem_of_getElem? (i := 31) rfl)) (fun zr13 zg14 zq15 zq16 zq17 => ?_)
  · match i, hi with
    | 0, hi => cases hi; exact ⟨_, rfl, ad 50, rfl, s_m⟩
  obtain ⟨vB, eB, tB⟩ := zq17
  obtain ⟨xB, rfl, -, -⟩ := k_v.int tB
  subst eB
  have c_mB := (k_U.nil zq10 zq16 s_m).trans c_mA
  have nB : ∀ a L, Sg a = some L → zg14 a = zg9 a := fun a L ha => k_U.nil zq10 zq16 ha
  show ww l D tys A X 24 1000 mX11_doPailsDo _ 53 [(1, .int v3), (0, .ref (ad 50))] [.int xB, .int xA] zg14
  refine w_icmp_ne (tgt := 60) (tX11_doPailsDo_0_ok (53, .if_icmp .ne 7, 3) (List.mem_of_getElem? (i := 32) rfl)) rfl (fun zb18 => ?_) (fun zb18 => ?_)
  · refine w_iconst (by decide) (tX11_doPailsDo_0_ok (60, .iconst 0, 1) (List.mem_of_getElem? (i := 35) rfl)) (fun zv19 ze20 => ?_)
    refine w_istore_n [(2, .int zv19), (1, .int v3), (0, .ref (ad 50))] rfl (Nat.le_of_ble_eq_true rfl) (tX11_doPailsDo_0_ok (61, .istore_n 2, 1) (List.mem_of_getElem? (i := 36) rfl)) ?_
    refine w_aload_n (List.Mem.tail _ (List.Mem.tail _ (List.Mem.head _))) (tX11_doPailsDo_0_ok (62, .aload_n 0, 1) (List.mem_of_getElem? (i := 37) rfl)) ?_
    have o5 : ∀ a L, Sg a = some L → a ≠ to → zg14 a = zg2 a := fun a L ha hne => ((nB a L ha).trans (nA a L ha)).trans (o3 a hne)
    have c_to5 : zg14 to = some (.inl (cA 0, 39, .inl T3)) := ((nB to _ s_to).trans (nA to _ s_to)).trans r1.2.2.2.2.2.2.2.1
    refine w_callV (own := 16) (mi := 232) [] [] [(0, .ref (ad 50))] rfl (cllw_X11 (338, 0, 232) (List.mem_of_getElem? (i := 53) rfl)) rfl rfl c_mB rfl (by omega) (w_lo (n := 21) rfl (by omega)) (Nat.le_of_ble_eq_true rfl) (Nat.le_of_ble_eq_true rfl) rfl (tX11_doPailsDo_0_ok (63, .invokevirtual 338, 3) (List.mem_of_getElem? (i := 38) rfl)) (h_putBack hT.1 n_m_to n_to_m n_kp_to n_kp_m fl f22 f23 f37 c_mB c_to5 ((o5 kp _ s_kp n_kp_to).trans c_kp) (fun g6 T6 fs6 c_to6 hT6 c_m6 fl6 f36 f6 o6 => ?_))
    show ww l D tys A X 24 1000 mX11_doPailsDo _ 66 [(2, .int zv19), (1, .int v3), (0, .ref (ad 50))] [] g6
    refine w_iload_n (List.Mem.head _) (tX11_doPailsDo_0_ok (66, .iload_n 2, 1) (List.mem_of_getElem? (i := 39) rfl)) ?_
    refine w_zret rfl (by omega) (by omega) (tX11_doPailsDo_0_ok (67, .ireturn, 1) (List.mem_of_getElem? (i := 40) rfl)) ?_
    refine hq _ _ ⟨s2 I 56 T6, s2 W 50 (wpd (W 50) 36 kd), O, ⟨fun L hL => ?_, hz.2⟩, T_back6 zq3 s_m s_to H9.1 c_to6 (fun i hi => by rw [hT6 i (by omega)]; exact hKx i hi) (fun k hk => by rw [hT6 (18 + k) (by omega)]; exact hKw k hk) c_m6 fl6 f36 f6 (fun a L ha n1 n2 => (o6 a ⟨n1, n2⟩).trans (o5 a L ha n1)), ⟨fun q hq9 => ?_, fun k hk9 => ?_, ?_⟩, fun k hk9 => ?_, ?_⟩
    · by_cases e : L = 56
      · subst e
        rw [← et, c_to6, s2_s]
        rfl
      · by_cases e5 : L = 50
        · subst e5
          rw [c_m6, s2_n (by decide), s2_s, pd_fs (kd := kd) ef fl fl6 f36 f6]
          rfl
        · have n1 : ad L ≠ to := fun z => e (hz.2 _ _ hL rfl (z.trans et))
          have n2 : ad L ≠ ad 50 := fun z => e5 (hz.2 _ _ hL rfl z)
          rw [o6 _ ⟨n1, n2⟩, o5 _ _ (hl L hL) n1, s2_n e, s2_n e5]
          exact hz.1 L hL
    · rw [s2_n (by omega)]
      exact hB.1 q hq9
    · rw [s2_n (by decide)]
      exact hB.2.1 k hk9
    · rw [s2_s, wpd_n _ _ (by decide)]
      exact hB.2.2
    · rw [s2_s, hT6 k hk9, eK]
      exact hK.1 k hk9
    · rw [s2_s, wpd_s, ed]
      exact hK.2
  · refine w_iconst (by decide) (tX11_doPailsDo_0_ok (56, .iconst 1, 1) (List.mem_of_getElem? (i := 33) rfl)) (fun zv21 ze22 => ?_)
    refine w_goto (tgt := 61) (tX11_doPailsDo_0_ok (57, .goto 4, 3) (List.mem_of_getElem? (i := 34) rfl)) rfl ?_
    refine w_istore_n [(2, .int zv21), (1, .int v3), (0, .ref (ad 50))] rfl (Nat.le_of_ble_eq_true rfl) (tX11_doPailsDo_0_ok (61, .istore_n 2, 1) (List.mem_of_getElem? (i := 36) rfl)) ?_
    refine w_aload_n (List.Mem.tail _ (List.Mem.tail _ (List.Mem.head _))) (tX11_doPailsDo_0_ok (62, .aload_n 0, 1) (List.mem_of_getElem? (i := 37) rfl)) ?_
    have o5 : ∀ a L, Sg a = some L → a ≠ to → zg14 a = zg2 a := fun a L ha hne => ((nB a L ha).trans (nA a L ha)).trans (o3 a hne)
    have c_to5 : zg14 to = some (.inl (cA 0, 39, .inl T3)) := ((nB to _ s_to).trans (nA to _ s_to)).trans r1.2.2.2.2.2.2.2.1
    refine w_callV (own := 16) (mi := 232) [] [] [(0, .ref (ad 50))] rfl (cllw_X11 (338, 0, 232) (List.mem_of_getElem? (i := 53) rfl)) rfl rfl c_mB rfl (by omega) (w_lo (n := 21) rfl (by omega)) (Nat.le_of_ble_eq_true rfl) (Nat.le_of_ble_eq_true rfl) rfl (tX11_doPailsDo_0_ok (63, .invokevirtual 338, 3) (List.mem_of_getElem? (i := 38) rfl)) (h_putBack hT.1 n_m_to n_to_m n_kp_to n_kp_m fl f22 f23 f37 c_mB c_to5 ((o5 kp _ s_kp n_kp_to).trans c_kp) (fun g6 T6 fs6 c_to6 hT6 c_m6 fl6 f36 f6 o6 => ?_))
    show ww l D tys A X 24 1000 mX11_doPailsDo _ 66 [(2, .int zv21), (1, .int v3), (0, .ref (ad 50))] [] g6
    refine w_iload_n (List.Mem.head _) (tX11_doPailsDo_0_ok (66, .iload_n 2, 1) (List.mem_of_getElem? (i := 39) rfl)) ?_
    refine w_zret rfl (by omega) (by omega) (tX11_doPailsDo_0_ok (67, .ireturn, 1) (List.mem_of_getElem? (i := 40) rfl)) ?_
    refine hq _ _ ⟨s2 I 56 T6, s2 W 50 (wpd (W 50) 36 kd), O, ⟨fun L hL => ?_, hz.2⟩, T_back6 zq3 s_m s_to H9.1 c_to6 (fun i hi => by rw [hT6 i (by omega)]; exact hKx i hi) (fun k hk => by rw [hT6 (18 + k) (by omega)]; exact hKw k hk) c_m6 fl6 f36 f6 (fun a L ha n1 n2 => (o6 a ⟨n1, n2⟩).trans (o5 a L ha n1)), ⟨fun q hq9 => ?_, fun k hk9 => ?_, ?_⟩, fun k hk9 => ?_, ?_⟩
    · by_cases e : L = 56
      · subst e
        rw [← et, c_to6, s2_s]
        rfl
      · by_cases e5 : L = 50
        · subst e5
          rw [c_m6, s2_n (by decide), s2_s, pd_fs (kd := kd) ef fl fl6 f36 f6]
          rfl
        · have n1 : ad L ≠ to := fun z => e (hz.2 _ _ hL rfl (z.trans et))
          have n2 : ad L ≠ ad 50 := fun z => e5 (hz.2 _ _ hL rfl z)
          rw [o6 _ ⟨n1, n2⟩, o5 _ _ (hl L hL) n1, s2_n e, s2_n e5]
          exact hz.1 L hL
    · rw [s2_n (by omega)]
      exact hB.1 q hq9
    · rw [s2_n (by decide)]
      exact hB.2.1 k hk9
    · rw [s2_s, wpd_n _ _ (by decide)]
      exact hB.2.2
    · rw [s2_s, hT6 k hk9, eK]
      exact hK.1 k hk9
    · rw [s2_s, wpd_s, ed]
      exact hK.2
theorem x_doPailsDo (hT : k_TX tys cA A X) (hl : ∀ L, zNM L = true → Sg (ad L) = some (lbR 50 55 L)) (hf : 70 ≤ fr) (hlo : 3000 ≤ lo) (J : jX Sg cA ad (jF I0 W0) h) (hq : ∀ (g : ch_H) (v : Int32), jX Sg cA ad (jF I0 W0) g → Q (some (.int v)) g) : ww l D tys A X fr lo mX11_doPailsDo Q 0 [(0, .ref (ad 50))] [] h := tt_room (by omega) (by omega) (x_doPailsD0 hT hl J hq)
end
