/-! the reference: a RULE's text gone through -/
section
variable {l : Launch} {D : va_G} {tys : List (ClassId × FieldType)} {A : Nat → Prop} {X : State → Prop} {fr lo : Nat} {Q : Option Value → ch_H → Prop} {cA : Nat → ClassId} {h : ch_H} {m tx n le : Nat} {fs : List Value} {g f : Nat → Int32} {bg en at0 fl0 dp : Int32} {aK aV : Nat → Nat}
theorem w_putX {tx m : Nat} {fs : List Value} {M : ch_M} {pc : Nat} {lv : List (Nat × Value)} {st : List Value} {own ix k : Nat} {v : Value} (hR : pg_R own = M.1.cls) (hx : k_fd (pg_fl own) ix = some (10, k)) (hk : k < 47) (hfin : (ch_T 10 k).2.2.2 = false) (hn : narrow (ch_ty 10 k) v = v ∧ fits (ch_ty 10 k) v = true) (ha : h m = some (.inr (10, fs))) (hlen : fs.length = 47) (hd : decode M.2.1 pc = .ok (.putfield ix, 3)) (kk : ∀ (h1 : ch_H) (fs1 : List Value), fs1.length = 47 → fs1[k]? = some v → (∀ j, j ≠ k → fs1[j]? = fs[j]?) → h1 m = some (.inr (10, fs1)) → (∀ q, q ≠ m → h1 q = h q) → ww l D tys A X fr lo M Q (pc + 3) lv st h1) : ww l D tys A X fr lo M Q pc lv (v :: .ref m :: st) h :=
  w_putF hR hx ⟨by decide, hk⟩ hfin hn ha (by rw [hlen]; exact hk) hd (fun h1 fs1 e0 e1 e2 e3 e4 => kk h1 fs1 (e0.trans hlen) e1 e2 e3 e4)
theorem r_opens (c_m : h m = some (.inr (10, fs))) (fl : fs.length = 47) (hq : ∀ (h1 : ch_H) (fs1 : List Value) (at1 fl1 : Int32), md h1 m fs1 tx bg en at1 fl1 → at1.toInt = 0 → fl1.toInt = -1 → (∀ j, j ≠ 5 ∧ j ≠ 8 ∧ j ≠ 9 ∧ j ≠ 10 ∧ j ≠ 11 → fs1[j]? = fs[j]?) → (∀ q, q ≠ m → h1 q = h q) → Q none h1) : ww l D tys A X fr lo mX11_opens Q 0 [(0, .ref m), (1, .ref tx), (2, .int bg), (3, .int en)] [] h := by
  refine w_aload_n (List.Mem.head _) (tX11_opens_0_ok (0, .aload_n 0, 1) (List.mem_of_getElem? (i := 0) rfl)) ?_
  refine w_aload_n (List.Mem.tail _ (List.Mem.head _)) (tX11_opens_0_ok (1, .aload_n 1, 1) (List.mem_of_getElem? (i := 1) rfl)) ?_
  refine w_putF (own := 16) (ci := 10) (k := 5) rfl rfl (by decide) rfl ⟨rfl, rfl⟩ c_m (by rw [fl]; decide) (tX11_opens_0_ok (2, .putfield 23, 3) (List.mem_of_getElem? (i := 2) rfl)) (fun h1 fs4 l5 k6 j7 c2 o3 => ?_)
  rw [fl] at l5
  refine w_aload_n (List.Mem.head _) (tX11_opens_0_ok (5, .aload_n 0, 1) (List.mem_of_getElem? (i := 3) rfl)) ?_
  refine w_iload_n (List.Mem.tail _ (List.Mem.tail _ (List.Mem.head _))) (tX11_opens_0_ok (6, .iload_n 2, 1) (List.mem_of_getElem? (i := 4) rfl)) ?_
  refine w_putF (own := 16) (ci := 10) (k := 8) rfl rfl (by decide) rfl ⟨rfl, rfl⟩ c2 (by rw [l5]; decide) (tX11_opens_0_ok (7, .putfield 115, 3) (List.mem_of_getElem? (i := 5) rfl)) (fun h8 fs11 l12 k13 j14 c9 o10 => ?_)
  rw [l5] at l12
  have f15 := (j14 5 (by decide)).trans k6
  refine w_aload_n (List.Mem.head _) (tX11_opens_0_ok (10, .aload_n 0, 1) (List.mem_of_getElem? (i := 6) rfl)) ?_
  refine w_iload_n (List.Mem.tail _ (List.Mem.tail _ (List.Mem.tail _ (List.Mem.head _)))) (tX11_opens_0_ok (11, .iload_n 3, 1) (List.mem_of_getElem? (i := 7) rfl)) ?_
  refine w_putF (own := 16) (ci := 10) (k := 9) rfl rfl (by decide) rfl ⟨rfl, rfl⟩ c9 (by rw [l12]; decide) (tX11_opens_0_ok (12, .putfield 112, 3) (List.mem_of_getElem? (i := 8) rfl)) (fun h16 fs19 l20 k21 j22 c17 o18 => ?_)
  rw [l12] at l20
  have f23 := (j22 8 (by decide)).trans k13
  have f24 := (j22 5 (by decide)).trans f15
  refine w_aload_n (List.Mem.head _) (tX11_opens_0_ok (15, .aload_n 0, 1) (List.mem_of_getElem? (i := 9) rfl)) ?_
  refine w_iconst (by decide) (tX11_opens_0_ok (16, .iconst 0, 1) (List.mem_of_getElem? (i := 10) rfl)) (fun v25 e26 => ?_)
  refine w_putF (own := 16) (ci := 10) (k := 10) rfl rfl (by decide) rfl ⟨rfl, rfl⟩ c17 (by rw [l20]; decide) (tX11_opens_0_ok (17, .putfield 109, 3) (List.mem_of_getElem? (i := 11) rfl)) (fun h27 fs30 l31 k32 j33 c28 o29 => ?_)
  rw [l20] at l31
  have f34 := (j33 9 (by decide)).trans k21
  have f35 := (j33 8 (by decide)).trans f23
  have f36 := (j33 5 (by decide)).trans f24
  refine w_aload_n (List.Mem.head _) (tX11_opens_0_ok (20, .aload_n 0, 1) (List.mem_of_getElem? (i := 12) rfl)) ?_
  refine w_iconst (by decide) (tX11_opens_0_ok (21, .iconst (-1), 1) (List.mem_of_getElem? (i := 13) rfl)) (fun v37 e38 => ?_)
  refine w_putF (own := 16) (ci := 10) (k := 11) rfl rfl (by decide) rfl ⟨rfl, rfl⟩ c28 (by rw [l31]; decide) (tX11_opens_0_ok (22, .putfield 118, 3) (List.mem_of_getElem? (i := 14) rfl)) (fun h39 fs42 l43 k44 j45 c40 o41 => ?_)
  rw [l31] at l43
  have f46 := (j45 10 (by decide)).trans k32
  have f47 := (j45 9 (by decide)).trans f34
  have f48 := (j45 8 (by decide)).trans f35
  have f49 := (j45 5 (by decide)).trans f36
  refine w_vret rfl (tX11_opens_0_ok (25, .return_, 1) (List.mem_of_getElem? (i := 15) rfl)) ?_
  exact hq h39 fs42 v25 v37 ⟨c40, l43, f49, f48, f47, f46, k44⟩ (by omega) (by omega) (fun j hj => (j45 j hj.2.2.2.2).trans ((j33 j hj.2.2.2.1).trans ((j22 j hj.2.2.1).trans ((j14 j hj.2.1).trans (j7 j hj.1))))) (fun q hq => (o41 q hq).trans ((o29 q hq).trans ((o18 q hq).trans ((o10 q hq).trans (o3 q hq)))))
theorem r_goL (hT : k_tys tys cA) (hX : ∀ s, X s → xs A aK aV s) (hf : 32 ≤ fr) (hlo : 830 ≤ lo) {Y : Nat ⊕ Nat} : ∀ (k : Nat) (at0 fl0 dp : Int32) (h : ch_H) (fs : List Value), (fl0.toInt = -1 → en.toInt - at0.toInt ≤ k) → 0 ≤ dp.toInt ∧ dp.toInt ≤ 6 ∧ (fl0.toInt = -1 → dp.toInt = 0) → sp_st Y (sp_rs f en.toInt.toNat (sp_rd f en.toInt.toNat (sp_clause f en.toInt.toNat (sp_lv f en.toInt.toNat (6)).1 (sp_lv f en.toInt.toNat (6)).2.1 (sp_lv f en.toInt.toNat (6)).2.2) 161)) at0 fl0 → rk cA h m fs tx n le g f bg en at0 fl0 dp → (∀ (h1 : ch_H) (fs1 : List Value) (at1 fl1 dp1 : Int32), rk cA h1 m fs1 tx n le g f bg en at1 fl1 dp1 → ((∀ i, i < en.toInt.toNat → 1 ≤ (f i).toInt) → sp_is (Y) at1 fl1) → 0 ≤ dp1.toInt ∧ dp1.toInt ≤ 6 ∧ (fl1.toInt = -1 → dp1.toInt = 0) → (∀ j, j ≠ 10 ∧ j ≠ 11 ∧ j ≠ 12 ∧ j ≠ 14 ∧ j ≠ 18 → fs1[j]? = fs[j]?) → (∀ q, q ≠ m → h1 q = h q) → Q none h1) → ww l D tys A X fr lo mX11_goThrough Q 32 [(0, .ref m)] [] h := by
  intro k
  induction k using Nat.strongRecOn with
  | ind k ih =>
    intro at0 fl0 dp h fs hk hdp hst H hq
    have hNp := sp_lv_pg (f := f) (len := en.toInt.toNat) 6
    obtain ⟨H, ⟨lb, fL13⟩, ⟨fo, fL14⟩, hf1, fL18, hf2, hf3⟩ := H
    have hr1 : 1 ≤ fr := by omega
    have hr2 : 30 ≤ lo := by omega
    obtain ⟨⟨⟨c_m, fl, f5, f8, f9, f10, f11⟩, f12, n_tx_m, c_x, hs, hb, ha⟩, f4, n_le_m, gl, c_le⟩ := H
    refine w_aload_n (List.Mem.head _) (tX11_goThrough_0_ok (32, .aload_n 0, 1) (List.mem_of_getElem? (i := 19) rfl)) ?_
    refine w_get (own := 16) rfl rfl (by decide) c_m f11 (tX11_goThrough_0_ok (33, .getfield 118, 3) (List.mem_of_getElem? (i := 20) rfl)) ?_
    refine w_iconst (by decide) (tX11_goThrough_0_ok (36, .iconst (-1), 1) (List.mem_of_getElem? (i := 21) rfl)) (fun v1 e2 => ?_)
    refine w_icmp_ne (tgt := 66) (tX11_goThrough_0_ok (37, .if_icmp .ne 29, 3) (List.mem_of_getElem? (i := 22) rfl)) rfl (fun b3 => ?_) (fun b3 => ?_)
    · refine w_aload_n (List.Mem.head _) (tX11_goThrough_0_ok (66, .aload_n 0, 1) (List.mem_of_getElem? (i := 36) rfl)) ?_
      refine w_get (own := 16) rfl rfl (by decide) c_m f11 (tX11_goThrough_0_ok (67, .getfield 118, 3) (List.mem_of_getElem? (i := 37) rfl)) ?_
      refine w_iconst (by decide) (tX11_goThrough_0_ok (70, .iconst (-1), 1) (List.mem_of_getElem? (i := 38) rfl)) (fun v4 e5 => ?_)
      refine w_icmp_ne (tgt := 87) (tX11_goThrough_0_ok (71, .if_icmp .ne 16, 3) (List.mem_of_getElem? (i := 39) rfl)) rfl (fun b6 => ?_) (fun b6 => ?_)
      · refine w_vret rfl (tX11_goThrough_0_ok (87, .return_, 1) (List.mem_of_getElem? (i := 47) rfl)) ?_
        refine hq h fs at0 fl0 dp ⟨⟨⟨⟨c_m, fl, f5, f8, f9, f10, f11⟩, f12, n_tx_m, c_x, hs, hb, ha.1, ha.2⟩, f4, n_le_m, _, c_le⟩, ⟨_, fL13⟩, ⟨_, fL14⟩, _, fL18, by omega, by omega⟩ ?_ (by omega) (fun j hj => rfl) (fun q hq => rfl)
        intro hnz
        rcases hst with ⟨z1, z2⟩ | ⟨z1, z2⟩
        · exact z2
        · exact absurd z1 (by omega)
      · exfalso; omega
    · have hfl9 : fl0.toInt = -1 := by omega
      have hk9 := hk hfl9
      have hd9 := hdp.2.2 hfl9
      have hd8 := hdp.2.1
      have hd7 := hdp.1
      have hsk := sp_sk_le f en.toInt.toNat at0.toInt.toNat
      clear hk hdp
      refine w_aload_n (List.Mem.head _) (tX11_goThrough_0_ok (40, .aload_n 0, 1) (List.mem_of_getElem? (i := 23) rfl)) ?_
      refine w_callV (own := 16) (mi := 212) [] [] [(0, .ref m)] rfl (cllw_X11 (128, 0, 212) (List.mem_of_getElem? (i := 7) rfl)) rfl rfl c_m rfl hr1 (w_lo (n := 20) rfl (Nat.le_trans (Nat.le_of_ble_eq_true rfl) hr2)) (Nat.le_of_ble_eq_true rfl) (Nat.le_of_ble_eq_true rfl) rfl (tX11_goThrough_0_ok (41, .invokevirtual 128, 3) (List.mem_of_getElem? (i := 24) rfl)) (r_look hT ⟨⟨c_m, fl, f5, f8, f9, f10, f11⟩, f12, n_tx_m, c_x, hs, hb, ha.1, ha.2⟩ (fun h7 fs8 at9 v10 p11 e12 e13 k14 o15 => ?_))
      obtain ⟨⟨c16, l17, f18, f19, f20, f21, f22⟩, f23, -, c24, -, -, a25, a26⟩ := p11
      have f27 := (k14 4 (by decide)).trans f4
      have f28 := (k14 13 (by decide)).trans fL13
      have f29 := (k14 14 (by decide)).trans fL14
      have f30 := (k14 18 (by decide)).trans fL18
      have c31 := (o15 le n_le_m).trans c_le
      show ww l D tys A X fr lo mX11_goThrough Q 44 [(0, .ref m)] [.int v10] h7
      refine w_bipush (by decide) (tX11_goThrough_0_ok (44, .bipush 59, 2) (List.mem_of_getElem? (i := 25) rfl)) (fun v32 e33 => ?_)
      refine w_icmp_ne (tgt := 66) (tX11_goThrough_0_ok (46, .if_icmp .ne 20, 3) (List.mem_of_getElem? (i := 26) rfl)) rfl (fun b34 => ?_) (fun b34 => ?_)
      · have g35 : ¬ sp_sg f en.toInt.toNat (sp_sk f en.toInt.toNat at0.toInt.toNat) = 59 := by omega
        clear e13 b34
        refine w_aload_n (List.Mem.head _) (tX11_goThrough_0_ok (66, .aload_n 0, 1) (List.mem_of_getElem? (i := 36) rfl)) ?_
        refine w_get (own := 16) rfl rfl (by decide) c16 f22 (tX11_goThrough_0_ok (67, .getfield 118, 3) (List.mem_of_getElem? (i := 37) rfl)) ?_
        refine w_iconst (by decide) (tX11_goThrough_0_ok (70, .iconst (-1), 1) (List.mem_of_getElem? (i := 38) rfl)) (fun v36 e37 => ?_)
        refine w_icmp_ne (tgt := 87) (tX11_goThrough_0_ok (71, .if_icmp .ne 16, 3) (List.mem_of_getElem? (i := 39) rfl)) rfl (fun b38 => ?_) (fun b38 => ?_)
        · exfalso; omega
        · refine w_aload_n (List.Mem.head _) (tX11_goThrough_0_ok (74, .aload_n 0, 1) (List.mem_of_getElem? (i := 40) rfl)) ?_
          refine w_callV (own := 16) (mi := 212) [] [] [(0, .ref m)] rfl (cllw_X11 (128, 0, 212) (List.mem_of_getElem? (i := 7) rfl)) rfl rfl c16 rfl hr1 (w_lo (n := 20) rfl (Nat.le_trans (Nat.le_of_ble_eq_true rfl) hr2)) (Nat.le_of_ble_eq_true rfl) (Nat.le_of_ble_eq_true rfl) rfl (tX11_goThrough_0_ok (75, .invokevirtual 128, 3) (List.mem_of_getElem? (i := 41) rfl)) (r_look hT ⟨⟨c16, l17, f18, f19, f20, f21, f22⟩, f23, n_tx_m, c24, hs, hb, a25, a26⟩ (fun h39 fs40 at41 v42 p43 e44 e45 k46 o47 => ?_))
          obtain ⟨⟨c48, l49, f50, f51, f52, f53, f54⟩, f55, -, c56, -, -, a57, a58⟩ := p43
          have f59 := (k46 4 (by decide)).trans f27
          have f60 := (k46 13 (by decide)).trans f28
          have f61 := (k46 14 (by decide)).trans f29
          have f62 := (k46 18 (by decide)).trans f30
          have c63 := (o47 le n_le_m).trans c31
          rw [e12, sp_sk_sk] at e44 e45
          show ww l D tys A X fr lo mX11_goThrough Q 78 [(0, .ref m)] [.int v42] h39
          refine w_iconst (by decide) (tX11_goThrough_0_ok (78, .iconst (-1), 1) (List.mem_of_getElem? (i := 42) rfl)) (fun v64 e65 => ?_)
          refine w_icmp_eq (tgt := 87) (tX11_goThrough_0_ok (79, .if_icmp .eq 8, 3) (List.mem_of_getElem? (i := 43) rfl)) rfl (fun b66 => ?_) (fun b66 => ?_)
          · refine w_vret rfl (tX11_goThrough_0_ok (87, .return_, 1) (List.mem_of_getElem? (i := 47) rfl)) ?_
            have y2 : Y = sp_rs f en.toInt.toNat (sp_rd f en.toInt.toNat (sp_clause f en.toInt.toNat (sp_lv f en.toInt.toNat (6)).1 (sp_lv f en.toInt.toNat (6)).2.1 (sp_lv f en.toInt.toNat (6)).2.2) 161) at0.toInt.toNat := by rcases hst with ⟨z1, z2⟩ | ⟨z1, z2⟩ <;> first | exact z2 | exact absurd hfl9 z1
            refine hq h39 fs40 at41 fl0 dp ⟨⟨⟨⟨c48, l49, f50, f51, f52, f53, f54⟩, f55, n_tx_m, c56, hs, hb, a57, a58⟩, f59, n_le_m, _, c63⟩, ⟨_, f60⟩, ⟨_, f61⟩, _, f62, by omega, by omega⟩ ?_ (by omega) (fun j hj => (k46 j ⟨hj.1, hj.2.1, hj.2.2.1⟩).trans (k14 j ⟨hj.1, hj.2.1, hj.2.2.1⟩)) (fun q hq => (o47 q hq).trans (o15 q hq))
            intro hnz
            rw [y2]
            unfold sp_rs
            rw [if_pos (by omega)]
            exact ⟨by omega, by omega⟩
          · refine w_aload_n (List.Mem.head _) (tX11_goThrough_0_ok (82, .aload_n 0, 1) (List.mem_of_getElem? (i := 44) rfl)) ?_
            refine w_callV (own := 16) (mi := 180) [] [] [(0, .ref m)] rfl (cllw_X11 (124, 0, 180) (List.mem_of_getElem? (i := 11) rfl)) rfl rfl c48 rfl hr1 (w_lo (n := 20) rfl (Nat.le_trans (Nat.le_of_ble_eq_true rfl) hr2)) (Nat.le_of_ble_eq_true rfl) (Nat.le_of_ble_eq_true rfl) rfl (tX11_goThrough_0_ok (83, .invokevirtual 124, 3) (List.mem_of_getElem? (i := 45) rfl)) (r_fail ⟨⟨c48, l49, f50, f51, f52, f53, f54⟩, f55, n_tx_m, c56, hs, hb, a57, a58⟩ (fun h67 fs68 fl69 v70 p71 e72 e73 k74 o75 => ?_))
            obtain ⟨⟨c76, l77, f78, f79, f80, f81, f82⟩, f83, -, c84, -, -, a85, a86⟩ := p71
            have f87 := (k74 4 (by decide)).trans f59
            have f88 := (k74 13 (by decide)).trans f60
            have f89 := (k74 14 (by decide)).trans f61
            have f90 := (k74 18 (by decide)).trans f62
            have c91 := (o75 le n_le_m).trans c63
            show ww l D tys A X fr lo mX11_goThrough Q 86 [(0, .ref m)] [.int v70] h67
            refine w_pop rfl (tX11_goThrough_0_ok (86, .pop, 1) (List.mem_of_getElem? (i := 46) rfl)) ?_
            refine w_vret rfl (tX11_goThrough_0_ok (87, .return_, 1) (List.mem_of_getElem? (i := 47) rfl)) ?_
            have y2 : Y = sp_rs f en.toInt.toNat (sp_rd f en.toInt.toNat (sp_clause f en.toInt.toNat (sp_lv f en.toInt.toNat (6)).1 (sp_lv f en.toInt.toNat (6)).2.1 (sp_lv f en.toInt.toNat (6)).2.2) 161) at0.toInt.toNat := by rcases hst with ⟨z1, z2⟩ | ⟨z1, z2⟩ <;> first | exact z2 | exact absurd hfl9 z1
            refine hq h67 fs68 at41 fl69 dp ⟨⟨⟨⟨c76, l77, f78, f79, f80, f81, f82⟩, f83, n_tx_m, c84, hs, hb, a85, a86⟩, f87, n_le_m, _, c91⟩, ⟨_, f88⟩, ⟨_, f89⟩, _, f90, by omega, by omega⟩ ?_ (by omega) (fun j hj => (k74 j ⟨hj.1, hj.2.1, hj.2.2.1⟩).trans ((k46 j ⟨hj.1, hj.2.1, hj.2.2.1⟩).trans (k14 j ⟨hj.1, hj.2.1, hj.2.2.1⟩))) (fun q hq => (o75 q hq).trans ((o47 q hq).trans (o15 q hq)))
            intro hnz
            have y5 := hnz (sp_sk f en.toInt.toNat at0.toInt.toNat) (by omega)
            have y6 : sp_sg f en.toInt.toNat (sp_sk f en.toInt.toNat at0.toInt.toNat) = (f (sp_sk f en.toInt.toNat at0.toInt.toNat)).toInt := by unfold sp_sg; rw [if_pos (by omega)]
            rw [y2]
            unfold sp_rs sp_tk
            rw [if_neg (by omega), sp_sk_sk, if_neg (by omega)]
            show _ = _
            omega
      · have g92 : sp_sg f en.toInt.toNat (sp_sk f en.toInt.toNat at0.toInt.toNat) = 59 ∧ at9.toInt < en.toInt ∧ v10.toInt = 59 := by omega
        clear e13 b34
        refine w_aload_n (List.Mem.head _) (tX11_goThrough_0_ok (49, .aload_n 0, 1) (List.mem_of_getElem? (i := 27) rfl)) ?_
        refine w_dup rfl (tX11_goThrough_0_ok (50, .dup, 1) (List.mem_of_getElem? (i := 28) rfl)) ?_
        refine w_get (own := 16) rfl rfl (by decide) c16 f21 (tX11_goThrough_0_ok (51, .getfield 109, 3) (List.mem_of_getElem? (i := 29) rfl)) ?_
        refine w_iconst (by decide) (tX11_goThrough_0_ok (54, .iconst 1, 1) (List.mem_of_getElem? (i := 30) rfl)) (fun v93 e94 => ?_)
        refine w_iadd (by omega) (by omega) (tX11_goThrough_0_ok (55, .iadd, 1) (List.mem_of_getElem? (i := 31) rfl)) (fun v95 e96 => ?_)
        refine w_putF (own := 16) (ci := 10) (k := 10) rfl rfl (by decide) rfl ⟨rfl, rfl⟩ c16 (by rw [l17]; decide) (tX11_goThrough_0_ok (56, .putfield 109, 3) (List.mem_of_getElem? (i := 32) rfl)) (fun h97 fs100 l101 k102 j103 c98 o99 => ?_)
        rw [l17] at l101
        have f104 := (j103 5 (by decide)).trans f18
        have f105 := (j103 8 (by decide)).trans f19
        have f106 := (j103 9 (by decide)).trans f20
        have f107 := (j103 11 (by decide)).trans f22
        have f108 := (j103 12 (by decide)).trans f23
        have f109 := (j103 4 (by decide)).trans f27
        have f110 := (j103 13 (by decide)).trans f28
        have f111 := (j103 14 (by decide)).trans f29
        have f112 := (j103 18 (by decide)).trans f30
        have c113 := (o99 tx n_tx_m).trans c24
        have c114 := (o99 le n_le_m).trans c31
        refine w_aload_n (List.Mem.head _) (tX11_goThrough_0_ok (59, .aload_n 0, 1) (List.mem_of_getElem? (i := 33) rfl)) ?_
        refine w_callV (own := 16) (mi := 169) [] [] [(0, .ref m)] rfl (cllw_X11 (201, 0, 169) (List.mem_of_getElem? (i := 19) rfl)) rfl rfl c98 rfl hr1 (w_lo (n := 24) rfl (Nat.le_trans (Nat.le_of_ble_eq_true rfl) hr2)) (Nat.le_of_ble_eq_true rfl) (Nat.le_of_ble_eq_true rfl) rfl (tX11_goThrough_0_ok (60, .invokevirtual 201, 3) (List.mem_of_getElem? (i := 34) rfl)) (r_clause hT hX (by omega) (w_sub (n := 24) rfl (by omega)) (by omega) (by omega) ⟨⟨⟨⟨c98, l101, f104, f105, f106, k102, f107⟩, f108, n_tx_m, c113, hs, hb, by omega, by omega⟩, f109, n_le_m, _, c114⟩, ⟨_, f110⟩, ⟨_, f111⟩, _, f112, by omega, by omega⟩ (fun h115 fs116 at117 fl118 dp119 p120 e121 e122 k123 o124 => ?_))
        obtain ⟨p133, ⟨lb125, l128⟩, ⟨fo126, l129⟩, hf127, l130, l131, l132⟩ := p120
        obtain ⟨⟨⟨c134, l135, f136, f137, f138, f139, f140⟩, f141, -, c142, -, -, a143, a144⟩, f145, -, gl146, c147⟩ := p133
        show ww l D tys A X fr lo mX11_goThrough Q 63 [(0, .ref m)] [] h115
        refine w_goto (tgt := 32) (tX11_goThrough_0_ok (63, .goto (-31), 3) (List.mem_of_getElem? (i := 35) rfl)) rfl ?_
        have y1 : v95.toInt.toNat = sp_sk f en.toInt.toNat at0.toInt.toNat + 1 := by omega
        rw [y1] at e121
        have y2 : Y = sp_rs f en.toInt.toNat (sp_rd f en.toInt.toNat (sp_clause f en.toInt.toNat (sp_lv f en.toInt.toNat (6)).1 (sp_lv f en.toInt.toNat (6)).2.1 (sp_lv f en.toInt.toNat (6)).2.2) 161) at0.toInt.toNat := by rcases hst with ⟨z1, z2⟩ | ⟨z1, z2⟩ <;> first | exact z2 | exact absurd hfl9 z1
        have y3 : Y = sp_bd (sp_clause f en.toInt.toNat (sp_lv f en.toInt.toNat (6)).1 (sp_lv f en.toInt.toNat (6)).2.1 (sp_lv f en.toInt.toNat (6)).2.2 (sp_sk f en.toInt.toNat at0.toInt.toNat + 1)) (sp_rs f en.toInt.toNat (sp_rd f en.toInt.toNat (sp_clause f en.toInt.toNat (sp_lv f en.toInt.toNat (6)).1 (sp_lv f en.toInt.toNat (6)).2.1 (sp_lv f en.toInt.toNat (6)).2.2) 161)) := by
          rw [y2]
          unfold sp_rs
          rw [if_neg (by omega)]
          have y4 : sp_tk f en.toInt.toNat 59 (sp_sk f en.toInt.toNat at0.toInt.toNat) = .inr (sp_sk f en.toInt.toNat at0.toInt.toNat + 1) := by unfold sp_tk; rw [sp_sk_sk, if_pos (by omega)]
          rw [y4]
          exact sp_rd_un (sp_clause_pg hNp.1 hNp.2.1 hNp.2.2) (by omega) _ (by omega)
        refine ih (k - 1) (by omega) _ _ _ _ _ (fun z9 => by obtain ⟨q9, q8, q7⟩ := sp_is.inr e121 z9; have q6 := (sp_clause_pg hNp.1 hNp.2.1 hNp.2.2) _ _ q8; omega) (by omega) (sp_st.go y3 rfl e121) ⟨⟨⟨⟨c134, l135, f136, f137, f138, f139, f140⟩, f141, n_tx_m, c142, hs, hb, a143, a144⟩, f145, n_le_m, _, c147⟩, ⟨_, l128⟩, ⟨_, l129⟩, _, l130, by omega, by omega⟩ (fun h1 fs1 at1 fl1 dp1 p1 p2 p5 p3 p4 => hq h1 fs1 at1 fl1 dp1 p1 p2 p5 (fun j hj => (p3 j hj).trans ((k123 j hj).trans ((j103 j hj.1).trans (k14 j ⟨hj.1, hj.2.1, hj.2.2.1⟩)))) (fun q hq => (p4 q hq).trans ((o124 q hq).trans ((o99 q hq).trans (o15 q hq)))))
theorem r_goThrough (hT : k_tys tys cA) (hX : ∀ s, X s → xs A aK aV s) (hf : 32 ≤ fr) (hlo : 830 ≤ lo) (c_m : h m = some (.inr (10, fs))) (fl : fs.length = 47) (f4 : fs[4]? = some (.ref le)) (n_le_m : le ≠ m) {gl : Nat → Int32} (c_le : h le = some (.inl (cA 0, 128, .inl gl))) (n_tx_m : tx ≠ m) (c_x : h tx = some (.inl (cA 2, n, .inl g))) (hs : sb g f bg.toInt.toNat en.toInt.toNat) (hb : 0 ≤ bg.toInt ∧ bg.toInt ≤ 480 ∧ 0 ≤ en.toInt ∧ en.toInt ≤ 160 ∧ bg.toInt + en.toInt ≤ n) (hq : (∀ (h1 : ch_H) (fs1 : List Value) (at1 fl1 dp1 : Int32), rk cA h1 m fs1 tx n le g f bg en at1 fl1 dp1 → ((∀ i, i < en.toInt.toNat → 1 ≤ (f i).toInt) → sp_is (sp_rule f en.toInt.toNat) at1 fl1) → 0 ≤ dp1.toInt ∧ dp1.toInt ≤ 6 ∧ (fl1.toInt = -1 → dp1.toInt = 0) → (∀ j, j ≠ 5 ∧ j ≠ 8 ∧ j ≠ 9 ∧ j ≠ 10 ∧ j ≠ 11 ∧ j ≠ 12 ∧ j ≠ 13 ∧ j ≠ 14 ∧ j ≠ 18 → fs1[j]? = fs[j]?) → (∀ q, q ≠ m → h1 q = h q) → Q none h1)) : ww l D tys A X fr lo mX11_goThrough Q 0 [(0, .ref m), (1, .ref tx), (2, .int bg), (3, .int en)] [] h := by
  have hr1 : 1 ≤ fr := by omega
  have hr2 : 30 ≤ lo := by omega
  have hNp := sp_lv_pg (f := f) (len := en.toInt.toNat) 6
  refine w_aload_n (List.Mem.head _) (tX11_goThrough_0_ok (0, .aload_n 0, 1) (List.mem_of_getElem? (i := 0) rfl)) ?_
  refine w_aload_n (List.Mem.tail _ (List.Mem.head _)) (tX11_goThrough_0_ok (1, .aload_n 1, 1) (List.mem_of_getElem? (i := 1) rfl)) ?_
  refine w_iload_n (List.Mem.tail _ (List.Mem.tail _ (List.Mem.head _))) (tX11_goThrough_0_ok (2, .iload_n 2, 1) (List.mem_of_getElem? (i := 2) rfl)) ?_
  refine w_iload_n (List.Mem.tail _ (List.Mem.tail _ (List.Mem.tail _ (List.Mem.head _)))) (tX11_goThrough_0_ok (3, .iload_n 3, 1) (List.mem_of_getElem? (i := 3) rfl)) ?_
  refine w_callV (own := 16) (mi := 222) [.ref tx, .int bg, .int en] [] [(0, .ref m), (1, .ref tx), (2, .int bg), (3, .int en)] rfl (cllw_X11 (197, 0, 222) (List.mem_of_getElem? (i := 4) rfl)) rfl rfl c_m rfl hr1 (w_lo (n := 23) rfl (Nat.le_trans (Nat.le_of_ble_eq_true rfl) hr2)) (Nat.le_of_ble_eq_true rfl) (Nat.le_of_ble_eq_true rfl) rfl (tX11_goThrough_0_ok (4, .invokevirtual 197, 3) (List.mem_of_getElem? (i := 4) rfl)) (r_opens c_m fl (fun h1 fs2 at3 fl4 p5 e6 e7 k8 o9 => ?_))
  obtain ⟨c10, l11, f12, f13, f14, f15, f16⟩ := p5
  have f17 := (k8 4 (by decide)).trans f4
  have c18 := (o9 tx n_tx_m).trans c_x
  have c19 := (o9 le n_le_m).trans c_le
  show ww l D tys A X fr lo mX11_goThrough Q 7 [(0, .ref m), (1, .ref tx), (2, .int bg), (3, .int en)] [] h1
  refine w_aload_n (List.Mem.head _) (tX11_goThrough_0_ok (7, .aload_n 0, 1) (List.mem_of_getElem? (i := 5) rfl)) ?_
  refine w_bipush (by decide) (tX11_goThrough_0_ok (8, .bipush 121, 2) (List.mem_of_getElem? (i := 6) rfl)) (fun v20 e21 => ?_)
  refine w_putF (own := 16) (ci := 10) (k := 13) rfl rfl (by decide) rfl ⟨rfl, rfl⟩ c10 (by rw [l11]; decide) (tX11_goThrough_0_ok (10, .putfield 191, 3) (List.mem_of_getElem? (i := 7) rfl)) (fun h22 fs25 l26 k27 j28 c23 o24 => ?_)
  rw [l11] at l26
  have f29 := (j28 5 (by decide)).trans f12
  have f30 := (j28 8 (by decide)).trans f13
  have f31 := (j28 9 (by decide)).trans f14
  have f32 := (j28 10 (by decide)).trans f15
  have f33 := (j28 11 (by decide)).trans f16
  have f34 := (j28 4 (by decide)).trans f17
  have c35 := (o24 tx n_tx_m).trans c18
  have c36 := (o24 le n_le_m).trans c19
  refine w_aload_n (List.Mem.head _) (tX11_goThrough_0_ok (13, .aload_n 0, 1) (List.mem_of_getElem? (i := 8) rfl)) ?_
  refine w_iconst (by decide) (tX11_goThrough_0_ok (14, .iconst 0, 1) (List.mem_of_getElem? (i := 9) rfl)) (fun v37 e38 => ?_)
  refine w_putF (own := 16) (ci := 10) (k := 12) rfl rfl (by decide) rfl ⟨rfl, rfl⟩ c23 (by rw [l26]; decide) (tX11_goThrough_0_ok (15, .putfield 121, 3) (List.mem_of_getElem? (i := 10) rfl)) (fun h39 fs42 l43 k44 j45 c40 o41 => ?_)
  rw [l26] at l43
  have f46 := (j45 13 (by decide)).trans k27
  have f47 := (j45 5 (by decide)).trans f29
  have f48 := (j45 8 (by decide)).trans f30
  have f49 := (j45 9 (by decide)).trans f31
  have f50 := (j45 10 (by decide)).trans f32
  have f51 := (j45 11 (by decide)).trans f33
  have f52 := (j45 4 (by decide)).trans f34
  have c53 := (o41 tx n_tx_m).trans c35
  have c54 := (o41 le n_le_m).trans c36
  refine w_aload_n (List.Mem.head _) (tX11_goThrough_0_ok (18, .aload_n 0, 1) (List.mem_of_getElem? (i := 11) rfl)) ?_
  refine w_iconst (by decide) (tX11_goThrough_0_ok (19, .iconst 0, 1) (List.mem_of_getElem? (i := 12) rfl)) (fun v55 e56 => ?_)
  refine w_putF (own := 16) (ci := 10) (k := 18) rfl rfl (by decide) rfl ⟨(kn_nz (by omega) (by omega)).1, (kn_nz (by omega) (by omega)).2.1⟩ c40 (by rw [l43]; decide) (tX11_goThrough_0_ok (20, .putfield 187, 3) (List.mem_of_getElem? (i := 13) rfl)) (fun h57 fs60 l61 k62 j63 c58 o59 => ?_)
  rw [l43] at l61
  have f64 := (j63 12 (by decide)).trans k44
  have f65 := (j63 13 (by decide)).trans f46
  have f66 := (j63 5 (by decide)).trans f47
  have f67 := (j63 8 (by decide)).trans f48
  have f68 := (j63 9 (by decide)).trans f49
  have f69 := (j63 10 (by decide)).trans f50
  have f70 := (j63 11 (by decide)).trans f51
  have f71 := (j63 4 (by decide)).trans f52
  have c72 := (o59 tx n_tx_m).trans c53
  have c73 := (o59 le n_le_m).trans c54
  refine w_aload_n (List.Mem.head _) (tX11_goThrough_0_ok (23, .aload_n 0, 1) (List.mem_of_getElem? (i := 14) rfl)) ?_
  refine w_iconst (by decide) (tX11_goThrough_0_ok (24, .iconst 0, 1) (List.mem_of_getElem? (i := 15) rfl)) (fun v74 e75 => ?_)
  refine w_putF (own := 16) (ci := 10) (k := 14) rfl rfl (by decide) rfl ⟨rfl, rfl⟩ c58 (by rw [l61]; decide) (tX11_goThrough_0_ok (25, .putfield 194, 3) (List.mem_of_getElem? (i := 16) rfl)) (fun h76 fs79 l80 k81 j82 c77 o78 => ?_)
  rw [l61] at l80
  have f83 := (j82 18 (by decide)).trans k62
  have f84 := (j82 12 (by decide)).trans f64
  have f85 := (j82 13 (by decide)).trans f65
  have f86 := (j82 5 (by decide)).trans f66
  have f87 := (j82 8 (by decide)).trans f67
  have f88 := (j82 9 (by decide)).trans f68
  have f89 := (j82 10 (by decide)).trans f69
  have f90 := (j82 11 (by decide)).trans f70
  have f91 := (j82 4 (by decide)).trans f71
  have c92 := (o78 tx n_tx_m).trans c72
  have c93 := (o78 le n_le_m).trans c73
  refine w_aload_n (List.Mem.head _) (tX11_goThrough_0_ok (28, .aload_n 0, 1) (List.mem_of_getElem? (i := 17) rfl)) ?_
  refine w_callV (own := 16) (mi := 169) [] [] [(0, .ref m)] rfl (cllw_X11 (201, 0, 169) (List.mem_of_getElem? (i := 19) rfl)) rfl rfl c77 rfl hr1 (w_lo (n := 24) rfl (Nat.le_trans (Nat.le_of_ble_eq_true rfl) hr2)) (Nat.le_of_ble_eq_true rfl) (Nat.le_of_ble_eq_true rfl) rfl (tX11_goThrough_0_ok (29, .invokevirtual 201, 3) (List.mem_of_getElem? (i := 18) rfl)) (r_clause hT hX (by omega) (w_sub (n := 24) rfl (by omega)) (by omega) (by omega) ⟨⟨⟨⟨c77, l80, f86, f87, f88, f89, f90⟩, f84, n_tx_m, c92, hs, hb, by omega, by omega⟩, f91, n_le_m, _, c93⟩, ⟨_, f85⟩, ⟨_, k81⟩, _, f83, by omega, by omega⟩ (fun h94 fs95 at96 fl97 dp98 p99 e100 e101 k102 o103 => ?_))
  obtain ⟨p112, ⟨lb104, l107⟩, ⟨fo105, l108⟩, hf106, l109, l110, l111⟩ := p99
  obtain ⟨⟨⟨c113, l114, f115, f116, f117, f118, f119⟩, f120, -, c121, -, -, a122, a123⟩, f124, -, gl125, c126⟩ := p112
  show ww l D tys A X fr lo mX11_goThrough Q 32 [(0, .ref m), (1, .ref tx), (2, .int bg), (3, .int en)] [] h94
  refine w_lv [(0, .ref m)] (by intro q hq; simp only [List.mem_cons, List.not_mem_nil, or_false] at hq ⊢; subst hq; simp) ?_
  have y1 : at3.toInt.toNat = 0 := by omega
  rw [y1] at e100
  have y3 : sp_rule f en.toInt.toNat = sp_bd (sp_clause f en.toInt.toNat (sp_lv f en.toInt.toNat (6)).1 (sp_lv f en.toInt.toNat (6)).2.1 (sp_lv f en.toInt.toNat (6)).2.2 0) (sp_rs f en.toInt.toNat (sp_rd f en.toInt.toNat (sp_clause f en.toInt.toNat (sp_lv f en.toInt.toNat (6)).1 (sp_lv f en.toInt.toNat (6)).2.1 (sp_lv f en.toInt.toNat (6)).2.2) 161)) := sp_rd_un (sp_clause_pg hNp.1 hNp.2.1 hNp.2.2) (by omega) 0 (Nat.zero_le _)
  refine r_goL hT hX hf hlo (en.toInt - at96.toInt).toNat _ _ _ _ _ (fun z9 => by omega) (by omega) (sp_st.go y3 rfl e100) ⟨⟨⟨⟨c113, l114, f115, f116, f117, f118, f119⟩, f120, n_tx_m, c121, hs, hb, a122, a123⟩, f124, n_le_m, _, c126⟩, ⟨_, l107⟩, ⟨_, l108⟩, _, l109, by omega, by omega⟩ (fun h1 fs1 at1 fl1 dp1 p1 p2 p5 p3 p4 => hq h1 fs1 at1 fl1 dp1 p1 p2 p5 (fun j hj => (p3 j ⟨hj.2.2.2.1, hj.2.2.2.2.1, hj.2.2.2.2.2.1, hj.2.2.2.2.2.2.2.1, hj.2.2.2.2.2.2.2.2⟩).trans ((k102 j ⟨hj.2.2.2.1, hj.2.2.2.2.1, hj.2.2.2.2.2.1, hj.2.2.2.2.2.2.2.1, hj.2.2.2.2.2.2.2.2⟩).trans ((j82 j hj.2.2.2.2.2.2.2.1).trans ((j63 j hj.2.2.2.2.2.2.2.2).trans ((j45 j hj.2.2.2.2.2.1).trans ((j28 j hj.2.2.2.2.2.2.1).trans (k8 j ⟨hj.1, hj.2.1, hj.2.2.1, hj.2.2.2.1, hj.2.2.2.2.1⟩))))))) (fun q hq => (p4 q hq).trans ((o103 q hq).trans ((o78 q hq).trans ((o59 q hq).trans ((o41 q hq).trans ((o24 q hq).trans (o9 q hq))))))))
end
