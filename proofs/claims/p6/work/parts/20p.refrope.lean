/-! the reference: a ROPE's text, a TOWN's text -/
section
variable {l : Launch} {D : va_G} {tys : List (ClassId × FieldType)} {A : Nat → Prop} {X : State → Prop} {fr lo : Nat} {Q : Option Value → ch_H → Prop} {cA : Nat → ClassId} {h : ch_H} {m tx n le : Nat} {fs : List Value} {g f : Nat → Int32} {bg en at0 fl0 dp : Int32} {aK aV : Nat → Nat} {ro : Nat} {R : Nat → Int32}
theorem r_ropeL (hT : k_tys tys cA) (hX : ∀ s, X s → xs A aK aV s) {p row : Int32} (hp : 0 ≤ p.toInt ∧ p.toInt < 6) (hrow : row.toInt = 54 + 9 * p.toInt) (hf : 5 ≤ fr) (hl : 200 ≤ lo) (hnz : ∀ i, i < en.toInt.toNat → 1 ≤ (f i).toInt) : ∀ (j : Nat) (more told at0 fl0 : Int32) (h : ch_H) (fs : List Value) (R : Nat → Int32) (tn : Nat), (sp_pc tn : Int) = 10 - (j : Int) → j ≤ 10 → told.toInt = (tn : Int) → tn < 512 → more.toInt = 1 → fl0.toInt = -1 → (p.toInt = 0 → (R 62).toInt = -1) → rr cA h m fs tx n le ro g f R bg en at0 fl0 dp → (∀ (h1 : ch_H) (fs1 : List Value) (at1 fl1 : Int32) (R1 : Nat → Int32), rr cA h1 m fs1 tx n le ro g f R1 bg en at1 fl1 dp → rpP (sp_rp f en.toInt.toNat ((p.toInt.toNat : Nat) : Int) j at0.toInt.toNat tn (R (row.toInt.toNat)).toInt (R (row.toInt.toNat + 1)).toInt (R (row.toInt.toNat + 2)).toInt) f en.toInt.toNat at1 fl1 → (fl1.toInt = -1 → p.toInt = 0 → (R1 62).toInt = -1) → (∀ i, i < row.toInt.toNat → R1 i = R i) → (∀ j, j ≠ 10 ∧ j ≠ 11 ∧ j ≠ 12 → fs1[j]? = fs[j]?) → (∀ q, q ≠ m ∧ q ≠ ro → h1 q = h q) → Q none h1) → ww l D tys A X fr lo mX11_readRope Q 39 [(4, .int more), (3, .int told), (2, .int row), (1, .int p), (0, .ref m)] [] h := by
  intro j
  induction j using Nat.strongRecOn with
  | ind j ih =>
    intro more told at0 fl0 h fs R tn hpc hj hto h5 hmo hfl h62 H hq
    by_cases j0 : j = 0
    · exfalso; unfold sp_pc at hpc; omega
    have j9 : j = (j - 1) + 1 := by omega
    have hsk := sp_sk_le f en.toInt.toNat at0.toInt.toNat
    obtain ⟨H, fL19, n_ro_m, n_m_ro, n_ro_tx, n_tx_ro, n_le_ro, n_ro_le, c_ro, hTD⟩ := H
    have hr1 : 1 ≤ fr := by omega
    have hr2 : 30 ≤ lo := by omega
    obtain ⟨⟨⟨c_m, fl, f5, f8, f9, f10, f11⟩, f12, n_tx_m, c_x, hs, hb, ha⟩, f4, n_le_m, gl, c_le⟩ := H
    have n_m_tx := n_tx_m.symm
    have n_m_le := n_le_m.symm
    refine w_iload (List.Mem.head _) (tX11_readRope_0_ok (39, .iload 4, 2) (List.mem_of_getElem? (i := 25) rfl)) ?_
    refine w_if_eq (tgt := 223) (tX11_readRope_0_ok (41, .ifCond .eq 182, 3) (List.mem_of_getElem? (i := 26) rfl)) rfl (fun b1 => ?_) (fun b1 => ?_)
    · exfalso; omega
    · refine w_aload_n (List.Mem.tail _ (List.Mem.tail _ (List.Mem.tail _ (List.Mem.tail _ (List.Mem.head _))))) (tX11_readRope_0_ok (44, .aload_n 0, 1) (List.mem_of_getElem? (i := 27) rfl)) ?_
      refine w_callV (own := 16) (mi := 212) [] [] [(0, .ref m)] rfl (cllw_X11 (128, 0, 212) (List.mem_of_getElem? (i := 7) rfl)) rfl rfl c_m rfl hr1 (w_lo (n := 20) rfl (Nat.le_trans (Nat.le_of_ble_eq_true rfl) hr2)) (Nat.le_of_ble_eq_true rfl) (Nat.le_of_ble_eq_true rfl) rfl (tX11_readRope_0_ok (45, .invokevirtual 128, 3) (List.mem_of_getElem? (i := 28) rfl)) (r_look hT ⟨⟨c_m, fl, f5, f8, f9, f10, f11⟩, f12, n_tx_m, c_x, hs, hb, ha.1, ha.2⟩ (fun h2 fs3 at4 v5 p6 e7 e8 k9 o10 => ?_))
      obtain ⟨⟨c11, l12, f13, f14, f15, f16, f17⟩, f18, -, c19, -, -, a20, a21⟩ := p6
      have f22 := (k9 4 (by decide)).trans f4
      have f23 := (k9 19 (by decide)).trans fL19
      have c24 := (o10 le n_le_m).trans c_le
      show ww l D tys A X fr lo mX11_readRope Q 48 [(4, .int more), (3, .int told), (2, .int row), (1, .int p), (0, .ref m)] [.int v5] h2
      have c25 := (o10 ro n_ro_m).trans c_ro
      refine w_istore [(5, .int v5), (4, .int more), (3, .int told), (2, .int row), (1, .int p), (0, .ref m)] rfl (Nat.le_of_ble_eq_true rfl) (tX11_readRope_0_ok (48, .istore 5, 2) (List.mem_of_getElem? (i := 29) rfl)) ?_
      refine w_iconst (by decide) (tX11_readRope_0_ok (50, .iconst (-1), 1) (List.mem_of_getElem? (i := 30) rfl)) (fun v26 e27 => ?_)
      refine w_istore [(6, .int v26), (5, .int v5), (4, .int more), (3, .int told), (2, .int row), (1, .int p), (0, .ref m)] rfl (Nat.le_of_ble_eq_true rfl) (tX11_readRope_0_ok (51, .istore 6, 2) (List.mem_of_getElem? (i := 31) rfl)) ?_
      refine w_iconst (by decide) (tX11_readRope_0_ok (53, .iconst 0, 1) (List.mem_of_getElem? (i := 32) rfl)) (fun v28 e29 => ?_)
      refine w_istore [(7, .int v28), (6, .int v26), (5, .int v5), (4, .int more), (3, .int told), (2, .int row), (1, .int p), (0, .ref m)] rfl (Nat.le_of_ble_eq_true rfl) (tX11_readRope_0_ok (54, .istore 7, 2) (List.mem_of_getElem? (i := 33) rfl)) ?_
      refine r_whL hX (by omega) 9 _ _ (by omega) (by omega) (Or.inl ⟨by omega, fun z hz => by omega⟩) (fun ka30 wa31 hwh => ?_)
      show ww l D tys A X fr lo mX11_readRope Q 99 [(7, .int ka30), (6, .int wa31), (5, .int v5), (4, .int more), (3, .int told), (2, .int row), (1, .int p), (0, .ref m)] [] h2
      refine w_iload (List.Mem.tail _ (List.Mem.head _)) (tX11_readRope_0_ok (99, .iload 6, 2) (List.mem_of_getElem? (i := 52) rfl)) ?_
      refine w_iconst (by decide) (tX11_readRope_0_ok (101, .iconst (-1), 1) (List.mem_of_getElem? (i := 53) rfl)) (fun v32 e33 => ?_)
      refine w_icmp_eq (tgt := 125) (tX11_readRope_0_ok (102, .if_icmp .eq 23, 3) (List.mem_of_getElem? (i := 54) rfl)) rfl (fun b34 => ?_) (fun b34 => ?_)
      · refine w_aload_n (List.Mem.tail _ (List.Mem.tail _ (List.Mem.tail _ (List.Mem.tail _ (List.Mem.tail _ (List.Mem.tail _ (List.Mem.tail _ (List.Mem.head _)))))))) (tX11_readRope_1_ok (125, .aload_n 0, 1) (List.mem_of_getElem? (i := 4) rfl)) ?_
        refine w_callV (own := 16) (mi := 180) [] [] [(0, .ref m)] rfl (cllw_X11 (124, 0, 180) (List.mem_of_getElem? (i := 11) rfl)) rfl rfl c11 rfl hr1 (w_lo (n := 20) rfl (Nat.le_trans (Nat.le_of_ble_eq_true rfl) hr2)) (Nat.le_of_ble_eq_true rfl) (Nat.le_of_ble_eq_true rfl) rfl (tX11_readRope_1_ok (126, .invokevirtual 124, 3) (List.mem_of_getElem? (i := 5) rfl)) (r_fail ⟨⟨c11, l12, f13, f14, f15, f16, f17⟩, f18, n_tx_m, c19, hs, hb, a20, a21⟩ (fun h35 fs36 fl37 v38 p39 e40 e41 k42 o43 => ?_))
        obtain ⟨⟨c44, l45, f46, f47, f48, f49, f50⟩, f51, -, c52, -, -, a53, a54⟩ := p39
        have f55 := (k42 4 (by decide)).trans f22
        have f56 := (k42 19 (by decide)).trans f23
        have c57 := (o43 le n_le_m).trans c24
        show ww l D tys A X fr lo mX11_readRope Q 129 [(7, .int ka30), (6, .int wa31), (5, .int v5), (4, .int more), (3, .int told), (2, .int row), (1, .int p), (0, .ref m)] [.int v38] h35
        have c58 := (o43 ro n_ro_m).trans c25
        refine w_pop rfl (tX11_readRope_1_ok (129, .pop, 1) (List.mem_of_getElem? (i := 6) rfl)) ?_
        refine w_vret rfl (tX11_readRope_1_ok (130, .return_, 1) (List.mem_of_getElem? (i := 7) rfl)) ?_
        have hb9 : sp_bit (sp_sg f en.toInt.toNat (sp_sk f en.toInt.toNat at0.toInt.toNat)) = 0 ∨ tn / sp_bit (sp_sg f en.toInt.toNat (sp_sk f en.toInt.toNat at0.toInt.toNat)) % 2 = 1 ∨ sp_sg f en.toInt.toNat (sp_sk f en.toInt.toNat at0.toInt.toNat) = 117 ∧ ((p.toInt.toNat : Nat) : Int) = 0 := Or.inl (wh_no (there := v5.toInt) (by rcases hwh with ⟨-, q1⟩ | ⟨z, q1, q2, q3⟩ <;> first | exact q1 | exact absurd q2 (by omega)) (by omega))
        refine hq h35 fs36 at4 fl37 R ⟨⟨⟨⟨c44, l45, f46, f47, f48, f49, f50⟩, f51, n_tx_m, c52, hs, hb, a53, a54⟩, f55, n_le_m, _, c57⟩, f56, n_ro_m, n_m_ro, n_ro_tx, n_tx_ro, n_le_ro, n_ro_le, c58, hTD⟩ ?_ (by omega) (fun _ _ => rfl) (fun j hj => (k42 j hj).trans (k9 j hj)) (fun q hq => (o43 q hq.1).trans (o10 q hq.1))
        rw [j9, sp_rp_bad (c := sp_sg f en.toInt.toNat (sp_sk f en.toInt.toNat at0.toInt.toNat)) rfl rfl hb9]
        exact Or.inl (by show _ = _; omega)
      · have hwz9 : ∃ z : Nat, z < 9 ∧ wa31.toInt = (z : Int) ∧ (js_c 2 z).toInt = v5.toInt := by
          rcases hwh with ⟨q1, -⟩ | q1
          · exact absurd q1 (by omega)
          · exact q1
        obtain ⟨wz, hz9, hwz, hcz⟩ := hwz9
        have hl97 := ltr_97 wz hz9
        have hlk := ltr_ok wz hz9
        rw [hlk.1] at hcz
        have hcl : sp_sg f en.toInt.toNat (sp_sk f en.toInt.toNat at0.toInt.toNat) = ltr wz := by omega
        have hat : at4.toInt < en.toInt := by omega
        clear e8
        have hbit := hlk.2
        rw [← hcl] at hbit
        refine w_iload_n (List.Mem.tail _ (List.Mem.tail _ (List.Mem.tail _ (List.Mem.tail _ (List.Mem.head _))))) (tX11_readRope_0_ok (105, .iload_n 3, 1) (List.mem_of_getElem? (i := 55) rfl)) ?_
        refine w_iload (List.Mem.tail _ (List.Mem.head _)) (tX11_readRope_0_ok (106, .iload 6, 2) (List.mem_of_getElem? (i := 56) rfl)) ?_
        refine w_callS (own := 16) (mi := 191) [.int told, .int wa31] [] [(0, .int told), (1, .int wa31)] rfl (cllw_X11 (217, 1, 191) (List.mem_of_getElem? (i := 10) rfl)) rfl rfl hr1 (w_lo (n := 21) rfl (Nat.le_trans (Nat.le_of_ble_eq_true rfl) hr2)) (Nat.le_of_ble_eq_true rfl) (Nat.le_of_ble_eq_true rfl) rfl (tX11_readRope_0_ok (108, .invokestatic 217, 3) (List.mem_of_getElem? (i := 57) rfl)) (r_has hto h5 ⟨hwz, hz9⟩ (fun v59 e60 => ?_))
        show ww l D tys A X fr lo mX11_readRope Q 111 [(7, .int ka30), (6, .int wa31), (5, .int v5), (4, .int more), (3, .int told), (2, .int row), (1, .int p), (0, .ref m)] [.int v59] h2
        refine w_if_ne (tgt := 125) (tX11_readRope_0_ok (111, .ifCond .ne 14, 3) (List.mem_of_getElem? (i := 58) rfl)) rfl (fun b61 => ?_) (fun b61 => ?_)
        · refine w_aload_n (List.Mem.tail _ (List.Mem.tail _ (List.Mem.tail _ (List.Mem.tail _ (List.Mem.tail _ (List.Mem.tail _ (List.Mem.tail _ (List.Mem.head _)))))))) (tX11_readRope_1_ok (125, .aload_n 0, 1) (List.mem_of_getElem? (i := 4) rfl)) ?_
          refine w_callV (own := 16) (mi := 180) [] [] [(0, .ref m)] rfl (cllw_X11 (124, 0, 180) (List.mem_of_getElem? (i := 11) rfl)) rfl rfl c11 rfl hr1 (w_lo (n := 20) rfl (Nat.le_trans (Nat.le_of_ble_eq_true rfl) hr2)) (Nat.le_of_ble_eq_true rfl) (Nat.le_of_ble_eq_true rfl) rfl (tX11_readRope_1_ok (126, .invokevirtual 124, 3) (List.mem_of_getElem? (i := 5) rfl)) (r_fail ⟨⟨c11, l12, f13, f14, f15, f16, f17⟩, f18, n_tx_m, c19, hs, hb, a20, a21⟩ (fun h62 fs63 fl64 v65 p66 e67 e68 k69 o70 => ?_))
          obtain ⟨⟨c71, l72, f73, f74, f75, f76, f77⟩, f78, -, c79, -, -, a80, a81⟩ := p66
          have f82 := (k69 4 (by decide)).trans f22
          have f83 := (k69 19 (by decide)).trans f23
          have c84 := (o70 le n_le_m).trans c24
          show ww l D tys A X fr lo mX11_readRope Q 129 [(7, .int ka30), (6, .int wa31), (5, .int v5), (4, .int more), (3, .int told), (2, .int row), (1, .int p), (0, .ref m)] [.int v65] h62
          have c85 := (o70 ro n_ro_m).trans c25
          refine w_pop rfl (tX11_readRope_1_ok (129, .pop, 1) (List.mem_of_getElem? (i := 6) rfl)) ?_
          refine w_vret rfl (tX11_readRope_1_ok (130, .return_, 1) (List.mem_of_getElem? (i := 7) rfl)) ?_
          have hb9 : sp_bit (sp_sg f en.toInt.toNat (sp_sk f en.toInt.toNat at0.toInt.toNat)) = 0 ∨ tn / sp_bit (sp_sg f en.toInt.toNat (sp_sk f en.toInt.toNat at0.toInt.toNat)) % 2 = 1 ∨ sp_sg f en.toInt.toNat (sp_sk f en.toInt.toNat at0.toInt.toNat) = 117 ∧ ((p.toInt.toNat : Nat) : Int) = 0 := Or.inr (Or.inl (by rw [hbit]; omega))
          refine hq h62 fs63 at4 fl64 R ⟨⟨⟨⟨c71, l72, f73, f74, f75, f76, f77⟩, f78, n_tx_m, c79, hs, hb, a80, a81⟩, f82, n_le_m, _, c84⟩, f83, n_ro_m, n_m_ro, n_ro_tx, n_tx_ro, n_le_ro, n_ro_le, c85, hTD⟩ ?_ (by omega) (fun _ _ => rfl) (fun j hj => (k69 j hj).trans (k9 j hj)) (fun q hq => (o70 q hq.1).trans (o10 q hq.1))
          rw [j9, sp_rp_bad (c := sp_sg f en.toInt.toNat (sp_sk f en.toInt.toNat at0.toInt.toNat)) rfl rfl hb9]
          exact Or.inl (by show _ = _; omega)
        · refine w_iload (List.Mem.tail _ (List.Mem.head _)) (tX11_readRope_0_ok (114, .iload 6, 2) (List.mem_of_getElem? (i := 59) rfl)) ?_
          refine w_bipush (by decide) (tX11_readRope_1_ok (116, .bipush 8, 2) (List.mem_of_getElem? (i := 0) rfl)) (fun v86 e87 => ?_)
          refine w_icmp_ne (tgt := 131) (tX11_readRope_1_ok (118, .if_icmp .ne 13, 3) (List.mem_of_getElem? (i := 1) rfl)) rfl (fun b88 => ?_) (fun b88 => ?_)
          · have hnb : ¬ (sp_bit (sp_sg f en.toInt.toNat (sp_sk f en.toInt.toNat at0.toInt.toNat)) = 0 ∨ tn / sp_bit (sp_sg f en.toInt.toNat (sp_sk f en.toInt.toNat at0.toInt.toNat)) % 2 = 1 ∨ sp_sg f en.toInt.toNat (sp_sk f en.toInt.toNat at0.toInt.toNat) = 117 ∧ ((p.toInt.toNat : Nat) : Int) = 0) := by
              have hpw := Nat.two_pow_pos wz
              rw [hbit]
              have q0 : ¬ tn / 2 ^ wz % 2 = 1 := by omega
              rintro (q1 | q1 | ⟨q1, q2⟩)
              · omega
              · exact q0 q1
              · have q9 := hl97.2.mp (by omega); omega
            have hn9 : ¬ tn / 2 ^ wz % 2 = 1 := by omega
            have hw8 : ¬ (wz = 8 ∧ p.toInt.toNat = 0) := by omega
            refine w_iload_n (List.Mem.tail _ (List.Mem.tail _ (List.Mem.tail _ (List.Mem.tail _ (List.Mem.head _))))) (tX11_readRope_1_ok (131, .iload_n 3, 1) (List.mem_of_getElem? (i := 8) rfl)) ?_
            refine w_iconst (by decide) (tX11_readRope_1_ok (132, .iconst 1, 1) (List.mem_of_getElem? (i := 9) rfl)) (fun v89 e90 => ?_)
            refine w_iload (List.Mem.tail _ (List.Mem.head _)) (tX11_readRope_1_ok (133, .iload 6, 2) (List.mem_of_getElem? (i := 10) rfl)) ?_
            refine w_ishl (tX11_readRope_1_ok (135, .ishl, 1) (List.mem_of_getElem? (i := 11) rfl)) (fun v91 e92 => ?_)
            refine w_ior (tX11_readRope_1_ok (136, .ior, 1) (List.mem_of_getElem? (i := 12) rfl)) (fun v93 e94 => ?_)
            have hto2 := sp_told_o hto h5 ⟨hwz, hz9⟩ (by omega) hn9 e92 e94
            refine w_istore_n [(3, .int v93), (7, .int ka30), (6, .int wa31), (5, .int v5), (4, .int more), (2, .int row), (1, .int p), (0, .ref m)] rfl (Nat.le_of_ble_eq_true rfl) (tX11_readRope_1_ok (137, .istore_n 3, 1) (List.mem_of_getElem? (i := 13) rfl)) ?_
            refine w_aload_n (List.Mem.tail _ (List.Mem.tail _ (List.Mem.tail _ (List.Mem.tail _ (List.Mem.tail _ (List.Mem.tail _ (List.Mem.tail _ (List.Mem.head _)))))))) (tX11_readRope_1_ok (138, .aload_n 0, 1) (List.mem_of_getElem? (i := 14) rfl)) ?_
            refine w_dup rfl (tX11_readRope_1_ok (139, .dup, 1) (List.mem_of_getElem? (i := 15) rfl)) ?_
            refine w_get (own := 16) rfl rfl (by decide) c11 f16 (tX11_readRope_1_ok (140, .getfield 109, 3) (List.mem_of_getElem? (i := 16) rfl)) ?_
            refine w_iconst (by decide) (tX11_readRope_1_ok (143, .iconst 1, 1) (List.mem_of_getElem? (i := 17) rfl)) (fun v95 e96 => ?_)
            refine w_iadd (by omega) (by omega) (tX11_readRope_1_ok (144, .iadd, 1) (List.mem_of_getElem? (i := 18) rfl)) (fun v97 e98 => ?_)
            refine w_putF (own := 16) (ci := 10) (k := 10) rfl rfl (by decide) rfl ⟨rfl, rfl⟩ c11 (by rw [l12]; decide) (tX11_readRope_1_ok (145, .putfield 109, 3) (List.mem_of_getElem? (i := 19) rfl)) (fun h99 fs102 l103 k104 j105 c100 o101 => ?_)
            rw [l12] at l103
            have f106 := (j105 5 (by decide)).trans f13
            have f107 := (j105 8 (by decide)).trans f14
            have f108 := (j105 9 (by decide)).trans f15
            have f109 := (j105 11 (by decide)).trans f17
            have f110 := (j105 12 (by decide)).trans f18
            have f111 := (j105 4 (by decide)).trans f22
            have f112 := (j105 19 (by decide)).trans f23
            have c113 := (o101 tx n_tx_m).trans c19
            have c114 := (o101 le n_le_m).trans c24
            have c115 := (o101 ro n_ro_m).trans c25
            refine w_aload_n (List.Mem.tail _ (List.Mem.tail _ (List.Mem.tail _ (List.Mem.tail _ (List.Mem.tail _ (List.Mem.tail _ (List.Mem.tail _ (List.Mem.head _)))))))) (tX11_readRope_1_ok (148, .aload_n 0, 1) (List.mem_of_getElem? (i := 20) rfl)) ?_
            refine w_aload_n (List.Mem.tail _ (List.Mem.tail _ (List.Mem.tail _ (List.Mem.tail _ (List.Mem.tail _ (List.Mem.tail _ (List.Mem.tail _ (List.Mem.head _)))))))) (tX11_readRope_1_ok (149, .aload_n 0, 1) (List.mem_of_getElem? (i := 21) rfl)) ?_
            refine w_iload_n (List.Mem.tail _ (List.Mem.tail _ (List.Mem.tail _ (List.Mem.tail _ (List.Mem.tail _ (List.Mem.head _)))))) (tX11_readRope_1_ok (150, .iload_n 2, 1) (List.mem_of_getElem? (i := 22) rfl)) ?_
            refine w_iload (List.Mem.tail _ (List.Mem.tail _ (List.Mem.head _))) (tX11_readRope_1_ok (151, .iload 6, 2) (List.mem_of_getElem? (i := 23) rfl)) ?_
            refine w_callV (own := 16) (mi := 210) [.int row, .int wa31] [.ref m] [(0, .ref m), (1, .int row), (2, .int wa31)] rfl (cllw_X11 (221, 0, 210) (List.mem_of_getElem? (i := 12) rfl)) rfl rfl c100 rfl hr1 (w_lo (n := 22) rfl (Nat.le_trans (Nat.le_of_ble_eq_true rfl) hr2)) (Nat.le_of_ble_eq_true rfl) (Nat.le_of_ble_eq_true rfl) rfl (tX11_readRope_1_ok (153, .invokevirtual 221, 3) (List.mem_of_getElem? (i := 24) rfl)) (r_leastOf hT ⟨hwz, hz9⟩ (by omega) (by omega) (w_sub (n := 22) rfl (by omega)) c100 f112 c115 (fun v116 e117 => ?_))
            show ww l D tys A X fr lo mX11_readRope Q 156 [(3, .int v93), (7, .int ka30), (6, .int wa31), (5, .int v5), (4, .int more), (2, .int row), (1, .int p), (0, .ref m)] [.int v116, .ref m] h99
            refine w_aload_n (List.Mem.tail _ (List.Mem.tail _ (List.Mem.tail _ (List.Mem.tail _ (List.Mem.tail _ (List.Mem.tail _ (List.Mem.tail _ (List.Mem.head _)))))))) (tX11_readRope_1_ok (156, .aload_n 0, 1) (List.mem_of_getElem? (i := 25) rfl)) ?_
            refine w_iload_n (List.Mem.tail _ (List.Mem.tail _ (List.Mem.tail _ (List.Mem.tail _ (List.Mem.tail _ (List.Mem.head _)))))) (tX11_readRope_1_ok (157, .iload_n 2, 1) (List.mem_of_getElem? (i := 26) rfl)) ?_
            refine w_iload (List.Mem.tail _ (List.Mem.tail _ (List.Mem.head _))) (tX11_readRope_1_ok (158, .iload 6, 2) (List.mem_of_getElem? (i := 27) rfl)) ?_
            refine w_iload_n (List.Mem.tail _ (List.Mem.tail _ (List.Mem.tail _ (List.Mem.tail _ (List.Mem.tail _ (List.Mem.tail _ (List.Mem.head _))))))) (tX11_readRope_1_ok (160, .iload_n 1, 1) (List.mem_of_getElem? (i := 28) rfl)) ?_
            refine w_callV (own := 16) (mi := 217) [.int row, .int wa31, .int p] [.int v116, .ref m] [(0, .ref m), (1, .int row), (2, .int wa31), (3, .int p)] rfl (cllw_X11 (224, 0, 217) (List.mem_of_getElem? (i := 14) rfl)) rfl rfl c100 rfl hr1 (w_lo (n := 23) rfl (Nat.le_trans (Nat.le_of_ble_eq_true rfl) hr2)) (Nat.le_of_ble_eq_true rfl) (Nat.le_of_ble_eq_true rfl) rfl (tX11_readRope_1_ok (161, .invokevirtual 224, 3) (List.mem_of_getElem? (i := 29) rfl)) (r_mostOf hT ⟨hwz, hz9⟩ (by omega) hp c100 f112 c115 (fun v118 e119 => ?_))
            show ww l D tys A X fr lo mX11_readRope Q 164 [(3, .int v93), (7, .int ka30), (6, .int wa31), (5, .int v5), (4, .int more), (2, .int row), (1, .int p), (0, .ref m)] [.int v118, .int v116, .ref m] h99
            refine w_callV (own := 16) (mi := 218) [.int v116, .int v118] [] [(0, .ref m), (1, .int v116), (2, .int v118)] rfl (cllw_X11 (228, 0, 218) (List.mem_of_getElem? (i := 15) rfl)) rfl rfl c100 rfl hr1 (w_lo (n := 25) rfl (Nat.le_trans (Nat.le_of_ble_eq_true rfl) hr2)) (Nat.le_of_ble_eq_true rfl) (Nat.le_of_ble_eq_true rfl) rfl (tX11_readRope_1_ok (164, .invokevirtual 228, 3) (List.mem_of_getElem? (i := 30) rfl)) (r_number hT (by omega) (w_sub (n := 25) rfl (by omega)) (by omega) ⟨⟨⟨c100, l103, f106, f107, f108, k104, f109⟩, f110, n_tx_m, c113, hs, hb, by omega, by omega⟩, f111, n_le_m, _, c114⟩ (fun h120 fs121 at122 fl123 v124 p125 e126 k127 o128 => ?_))
            have y1 : v97.toInt.toNat = sp_sk f en.toInt.toNat at0.toInt.toNat + 1 := by omega
            rw [e117, e119, y1] at e126
            have y4 := sp_num_nn f en.toInt.toNat 3 (sp_sk f en.toInt.toNat at0.toInt.toNat + 1)
            rw [sp_rm_rn (lh_ok hz9 y4), ← hcl] at e126
            have p129 := p125.1
            have c130 := (o128 ro n_ro_m).trans c115
            obtain ⟨⟨c131, l132, f133, f134, f135, f136, f137⟩, f138, -, c139, -, -, a140, a141⟩ := p129
            have f142 := (k127 4 (by decide)).trans f111
            have f143 := (k127 19 (by decide)).trans f112
            have c144 := (o128 le n_le_m).trans c114
            show ww l D tys A X fr lo mX11_readRope Q 167 [(3, .int v93), (7, .int ka30), (6, .int wa31), (5, .int v5), (4, .int more), (2, .int row), (1, .int p), (0, .ref m)] [.int v124] h120
            refine w_istore [(7, .int v124), (3, .int v93), (6, .int wa31), (5, .int v5), (4, .int more), (2, .int row), (1, .int p), (0, .ref m)] rfl (Nat.le_of_ble_eq_true rfl) (tX11_readRope_1_ok (167, .istore 7, 2) (List.mem_of_getElem? (i := 31) rfl)) ?_
            refine w_aload_n (List.Mem.tail _ (List.Mem.tail _ (List.Mem.tail _ (List.Mem.tail _ (List.Mem.tail _ (List.Mem.tail _ (List.Mem.tail _ (List.Mem.head _)))))))) (tX11_readRope_1_ok (169, .aload_n 0, 1) (List.mem_of_getElem? (i := 32) rfl)) ?_
            refine w_get (own := 16) rfl rfl (by decide) c131 f137 (tX11_readRope_1_ok (170, .getfield 118, 3) (List.mem_of_getElem? (i := 33) rfl)) ?_
            refine w_iconst (by decide) (tX11_readRope_1_ok (173, .iconst (-1), 1) (List.mem_of_getElem? (i := 34) rfl)) (fun v145 e146 => ?_)
            refine w_icmp_eq (tgt := 178) (tX11_readRope_1_ok (174, .if_icmp .eq 4, 3) (List.mem_of_getElem? (i := 35) rfl)) rfl (fun b147 => ?_) (fun b147 => ?_)
            · have y0 : fl123.toInt = -1 := by omega
              have hu := e126.2 y0
              obtain ⟨q9, q8, q7⟩ := sp_is.inr e126.1 y0
              have hok := sp_rn_ok q8
              rw [hcl] at hok
              have hlh := (lh_ok (r := p.toInt.toNat) hz9 y4).mpr hok
              rw [← hu] at hlh y4
              have hL20 := hTD p.toInt.toNat (by omega) 1 (by decide)
              have hi54 : 54 + 9 * p.toInt.toNat = row.toInt.toNat := by omega
              rw [hi54] at hL20
              have hL21 : (R (row.toInt.toNat + 1)).toInt ≤ 20 := hL20.2
              have htd := lh_td (X := 0) hz9 y4 hL21 hw8 hlh.2
              clear hL20
              refine w_aload_n (List.Mem.tail _ (List.Mem.tail _ (List.Mem.tail _ (List.Mem.tail _ (List.Mem.tail _ (List.Mem.tail _ (List.Mem.tail _ (List.Mem.head _)))))))) (tX11_readRope_1_ok (178, .aload_n 0, 1) (List.mem_of_getElem? (i := 37) rfl)) ?_
              refine w_get (own := 16) rfl rfl (by decide) c131 f143 (tX11_readRope_1_ok (179, .getfield 42, 3) (List.mem_of_getElem? (i := 38) rfl)) ?_
              refine w_iload_n (List.Mem.tail _ (List.Mem.tail _ (List.Mem.tail _ (List.Mem.tail _ (List.Mem.tail _ (List.Mem.head _)))))) (tX11_readRope_1_ok (182, .iload_n 2, 1) (List.mem_of_getElem? (i := 39) rfl)) ?_
              refine w_iload (List.Mem.tail _ (List.Mem.tail _ (List.Mem.head _))) (tX11_readRope_1_ok (183, .iload 6, 2) (List.mem_of_getElem? (i := 40) rfl)) ?_
              refine w_iadd (by omega) (by omega) (tX11_readRope_1_ok (185, .iadd, 1) (List.mem_of_getElem? (i := 41) rfl)) (fun v148 e149 => ?_)
              refine w_iload (List.Mem.head _) (tX11_readRope_1_ok (186, .iload 7, 2) (List.mem_of_getElem? (i := 42) rfl)) ?_
              refine w_iast hT c130 (by omega) (by omega) (tX11_readRope_1_ok (188, .iastore, 1) (List.mem_of_getElem? (i := 43) rfl)) (fun h150 c151 o152 => ?_)
              have c153 := (o152 m n_m_ro).trans c131
              have c154 := (o152 tx n_tx_ro).trans c139
              have c155 := (o152 le n_le_ro).trans c144
              have hix : v148.toInt.toNat = row.toInt.toNat + wz := by omega
              have c_ro2 := c151
              rw [hix] at c_ro2
              have hTD2 := td_upd hTD (r := p.toInt.toNat) (w := wz) (j := row.toInt.toNat + wz) (x := v124) (by omega) hz9 (by omega) htd
              have hro9 : ∀ i, i < row.toInt.toNat → upd R (row.toInt.toNat + wz) v124 i = R i := fun i hi => upd_n R _ (by omega)
              have k0 := kv_upd (R := R) (row := row.toInt.toNat) (x := v124) (w := wz) (z := 0) (c0 := 107) (by decide) hz9 rfl
              have k1 := kv_upd (R := R) (row := row.toInt.toNat) (x := v124) (w := wz) (z := 1) (c0 := 108) (by decide) hz9 rfl
              have k2 := kv_upd (R := R) (row := row.toInt.toNat) (x := v124) (w := wz) (z := 2) (c0 := 120) (by decide) hz9 rfl
              rw [hu, ← hcl] at k0 k1 k2
              rw [Nat.add_zero] at k0
              have y3 := sp_rp_go (j := j - 1) (t := tn) rfl rfl hnb q8 k0 k1 k2
              have b0 := hTD2 p.toInt.toNat (by omega) 1 (by decide)
              have b1 := hTD2 p.toInt.toNat (by omega) 2 (by decide)
              rw [show 54 + 9 * p.toInt.toNat = row.toInt.toNat by omega] at b0 b1
              have b2 : 0 ≤ (upd R (row.toInt.toNat + wz) v124 (row.toInt.toNat + 1)).toInt ∧ (upd R (row.toInt.toNat + wz) v124 (row.toInt.toNat + 1)).toInt ≤ 20 := b0
              have b3 : 0 ≤ (upd R (row.toInt.toNat + wz) v124 (row.toInt.toNat + 2)).toInt ∧ (upd R (row.toInt.toNat + wz) v124 (row.toInt.toNat + 2)).toInt ≤ 20 := b1
              clear b0 b1 k0 k1 k2 hok hlh htd
              have hx9 : p.toInt = 0 → (upd R (row.toInt.toNat + wz) v124 62).toInt = -1 := fun hp0 => by rw [upd_n R _ (by omega)]; exact h62 hp0
              refine w_aload_n (List.Mem.tail _ (List.Mem.tail _ (List.Mem.tail _ (List.Mem.tail _ (List.Mem.tail _ (List.Mem.tail _ (List.Mem.tail _ (List.Mem.head _)))))))) (tX11_readRope_1_ok (189, .aload_n 0, 1) (List.mem_of_getElem? (i := 44) rfl)) ?_
              refine w_callV (own := 16) (mi := 212) [] [] [(0, .ref m)] rfl (cllw_X11 (128, 0, 212) (List.mem_of_getElem? (i := 7) rfl)) rfl rfl c153 rfl hr1 (w_lo (n := 20) rfl (Nat.le_trans (Nat.le_of_ble_eq_true rfl) hr2)) (Nat.le_of_ble_eq_true rfl) (Nat.le_of_ble_eq_true rfl) rfl (tX11_readRope_1_ok (190, .invokevirtual 128, 3) (List.mem_of_getElem? (i := 45) rfl)) (r_look hT ⟨⟨c153, l132, f133, f134, f135, f136, f137⟩, f138, n_tx_m, c154, hs, hb, a140, a141⟩ (fun h156 fs157 at158 v159 p160 e161 e162 k163 o164 => ?_))
              obtain ⟨⟨c165, l166, f167, f168, f169, f170, f171⟩, f172, -, c173, -, -, a174, a175⟩ := p160
              have f176 := (k163 4 (by decide)).trans f142
              have f177 := (k163 19 (by decide)).trans f143
              have c178 := (o164 le n_le_m).trans c155
              show ww l D tys A X fr lo mX11_readRope Q 193 [(7, .int v124), (3, .int v93), (6, .int wa31), (5, .int v5), (4, .int more), (2, .int row), (1, .int p), (0, .ref m)] [.int v159] h156
              have c179 := (o164 ro n_ro_m).trans c_ro2
              have y6 : sp_sk f en.toInt.toNat q9 = sp_sk f en.toInt.toNat at122.toInt.toNat := by congr 1; omega
              have hst9 : at158.toInt.toNat = sp_sk f en.toInt.toNat at122.toInt.toNat := e161
              refine w_bipush (by decide) (tX11_readRope_1_ok (193, .bipush 44, 2) (List.mem_of_getElem? (i := 46) rfl)) (fun v180 e181 => ?_)
              refine w_icmp_ne (tgt := 202) (tX11_readRope_1_ok (195, .if_icmp .ne 7, 3) (List.mem_of_getElem? (i := 47) rfl)) rfl (fun b182 => ?_) (fun b182 => ?_)
              · have g183 : ¬ sp_sg f en.toInt.toNat (sp_sk f en.toInt.toNat at122.toInt.toNat) = 44 := by omega
                clear e162 b182
                refine w_iconst (by decide) (tX11_readRope_1_ok (202, .iconst 0, 1) (List.mem_of_getElem? (i := 50) rfl)) (fun v184 e185 => ?_)
                refine w_istore [(4, .int v184), (7, .int v124), (3, .int v93), (6, .int wa31), (5, .int v5), (2, .int row), (1, .int p), (0, .ref m)] rfl (Nat.le_of_ble_eq_true rfl) (tX11_readRope_1_ok (203, .istore 4, 2) (List.mem_of_getElem? (i := 51) rfl)) ?_
                refine w_iload (List.Mem.head _) (tX11_readRope_1_ok (205, .iload 4, 2) (List.mem_of_getElem? (i := 52) rfl)) ?_
                refine w_if_eq (tgt := 220) (tX11_readRope_1_ok (207, .ifCond .eq 13, 3) (List.mem_of_getElem? (i := 53) rfl)) rfl (fun b186 => ?_) (fun b186 => ?_)
                · refine w_goto (tgt := 39) (tX11_readRope_2_ok (220, .goto (-181), 3) (List.mem_of_getElem? (i := 0) rfl)) rfl ?_
                  refine w_iload (List.Mem.head _) (tX11_readRope_0_ok (39, .iload 4, 2) (List.mem_of_getElem? (i := 25) rfl)) ?_
                  refine w_if_eq (tgt := 223) (tX11_readRope_0_ok (41, .ifCond .eq 182, 3) (List.mem_of_getElem? (i := 26) rfl)) rfl (fun b187 => ?_) (fun b187 => ?_)
                  · refine w_aload_n (List.Mem.tail _ (List.Mem.tail _ (List.Mem.tail _ (List.Mem.tail _ (List.Mem.tail _ (List.Mem.tail _ (List.Mem.tail _ (List.Mem.head _)))))))) (tX11_readRope_2_ok (223, .aload_n 0, 1) (List.mem_of_getElem? (i := 1) rfl)) ?_
                    refine w_get (own := 16) rfl rfl (by decide) c165 f177 (tX11_readRope_2_ok (224, .getfield 42, 3) (List.mem_of_getElem? (i := 2) rfl)) ?_
                    refine w_iload_n (List.Mem.tail _ (List.Mem.tail _ (List.Mem.tail _ (List.Mem.tail _ (List.Mem.tail _ (List.Mem.head _)))))) (tX11_readRope_2_ok (227, .iload_n 2, 1) (List.mem_of_getElem? (i := 3) rfl)) ?_
                    refine w_iconst (by decide) (tX11_readRope_2_ok (228, .iconst 0, 1) (List.mem_of_getElem? (i := 4) rfl)) (fun v188 e189 => ?_)
                    refine w_iadd (by omega) (by omega) (tX11_readRope_2_ok (229, .iadd, 1) (List.mem_of_getElem? (i := 5) rfl)) (fun v190 e191 => ?_)
                    refine w_iald hT c179 (by omega) (by omega) (tX11_readRope_2_ok (230, .iaload, 1) (List.mem_of_getElem? (i := 6) rfl)) (fun v192 e193 => ?_)
                    have i194 : v190.toInt.toNat = row.toInt.toNat := by omega
                    rw [i194] at e193
                    refine w_iconst (by decide) (tX11_readRope_2_ok (231, .iconst 1, 1) (List.mem_of_getElem? (i := 7) rfl)) (fun v195 e196 => ?_)
                    refine w_icmp_ne (tgt := 267) (tX11_readRope_2_ok (232, .if_icmp .ne 35, 3) (List.mem_of_getElem? (i := 8) rfl)) rfl (fun b197 => ?_) (fun b197 => ?_)
                    · refine w_iconst (by decide) (tX11_readRope_2_ok (267, .iconst 0, 1) (List.mem_of_getElem? (i := 31) rfl)) (fun v198 e199 => ?_)
                      refine w_istore [(5, .int v198), (4, .int v184), (7, .int v124), (3, .int v93), (6, .int wa31), (2, .int row), (1, .int p), (0, .ref m)] rfl (Nat.le_of_ble_eq_true rfl) (tX11_readRope_2_ok (268, .istore 5, 2) (List.mem_of_getElem? (i := 32) rfl)) ?_
                      have hodd : ¬ (sp_odd ((upd R (row.toInt.toNat + wz) v124) (row.toInt.toNat)).toInt ((upd R (row.toInt.toNat + wz) v124) (row.toInt.toNat + 1)).toInt ((upd R (row.toInt.toNat + wz) v124) (row.toInt.toNat + 2)).toInt) := by omega
                      refine w_iload (List.Mem.head _) (tX11_readRope_2_ok (270, .iload 5, 2) (List.mem_of_getElem? (i := 33) rfl)) ?_
                      refine w_if_eq (tgt := 297) (tX11_readRope_2_ok (272, .ifCond .eq 25, 3) (List.mem_of_getElem? (i := 34) rfl)) rfl (fun b200 => ?_) (fun b200 => ?_)
                      · refine w_vret rfl (tX11_readRope_2_ok (297, .return_, 1) (List.mem_of_getElem? (i := 46) rfl)) ?_
                        refine hq h156 fs157 at158 fl123 _ ⟨⟨⟨⟨c165, l166, f167, f168, f169, f170, f171⟩, f172, n_tx_m, c173, hs, hb, a174, a175⟩, f176, n_le_m, _, c178⟩, f177, n_ro_m, n_m_ro, n_ro_tx, n_tx_ro, n_le_ro, n_ro_le, c179, hTD2⟩ ?_ (fun _ => hx9) hro9 (fun j hj => (k163 j hj).trans ((k127 j hj).trans ((j105 j hj.1).trans (k9 j hj)))) (fun q hq => (o164 q hq.1).trans ((o152 q hq.2).trans ((o128 q hq.1).trans ((o101 q hq.1).trans (o10 q hq.1)))))
                        rw [j9, y3]
                        unfold sp_re
                        rw [y6, if_neg (by omega)]
                        by_cases c9 : ¬ sp_sg f en.toInt.toNat (sp_sk f en.toInt.toNat at122.toInt.toNat) = 59 ∧ ¬ sp_sg f en.toInt.toNat (sp_sk f en.toInt.toNat at122.toInt.toNat) = 0
                        · rw [if_pos (Or.inl c9)]
                          refine Or.inr ⟨by omega, ?_, ?_, ?_⟩
                          · congr 1; omega
                          · rw [e161, sp_sk_sk]
                          · rw [e161]; exact c9
                        · rw [if_neg (fun q => q.elim c9 hodd)]
                          exact Or.inl ⟨by omega, by omega⟩
                      · exfalso; omega
                    · refine w_aload_n (List.Mem.tail _ (List.Mem.tail _ (List.Mem.tail _ (List.Mem.tail _ (List.Mem.tail _ (List.Mem.tail _ (List.Mem.tail _ (List.Mem.head _)))))))) (tX11_readRope_2_ok (235, .aload_n 0, 1) (List.mem_of_getElem? (i := 9) rfl)) ?_
                      refine w_get (own := 16) rfl rfl (by decide) c165 f177 (tX11_readRope_2_ok (236, .getfield 42, 3) (List.mem_of_getElem? (i := 10) rfl)) ?_
                      refine w_iload_n (List.Mem.tail _ (List.Mem.tail _ (List.Mem.tail _ (List.Mem.tail _ (List.Mem.tail _ (List.Mem.head _)))))) (tX11_readRope_2_ok (239, .iload_n 2, 1) (List.mem_of_getElem? (i := 11) rfl)) ?_
                      refine w_iconst (by decide) (tX11_readRope_2_ok (240, .iconst 1, 1) (List.mem_of_getElem? (i := 12) rfl)) (fun v201 e202 => ?_)
                      refine w_iadd (by omega) (by omega) (tX11_readRope_2_ok (241, .iadd, 1) (List.mem_of_getElem? (i := 13) rfl)) (fun v203 e204 => ?_)
                      refine w_iald hT c179 (by omega) (by omega) (tX11_readRope_2_ok (242, .iaload, 1) (List.mem_of_getElem? (i := 14) rfl)) (fun v205 e206 => ?_)
                      have i207 : v203.toInt.toNat = row.toInt.toNat + 1 := by omega
                      rw [i207] at e206
                      refine w_iconst (by decide) (tX11_readRope_2_ok (243, .iconst 2, 1) (List.mem_of_getElem? (i := 15) rfl)) (fun v208 e209 => ?_)
                      refine w_irem2 (by omega) (by omega) (tX11_readRope_2_ok (244, .irem, 1) (List.mem_of_getElem? (i := 16) rfl)) (fun v210 e211 => ?_)
                      refine w_iconst (by decide) (tX11_readRope_2_ok (245, .iconst 1, 1) (List.mem_of_getElem? (i := 17) rfl)) (fun v212 e213 => ?_)
                      refine w_icmp_eq (tgt := 263) (tX11_readRope_2_ok (246, .if_icmp .eq 17, 3) (List.mem_of_getElem? (i := 18) rfl)) rfl (fun b214 => ?_) (fun b214 => ?_)
                      · refine w_iconst (by decide) (tX11_readRope_2_ok (263, .iconst 1, 1) (List.mem_of_getElem? (i := 29) rfl)) (fun v215 e216 => ?_)
                        refine w_goto (tgt := 268) (tX11_readRope_2_ok (264, .goto 4, 3) (List.mem_of_getElem? (i := 30) rfl)) rfl ?_
                        refine w_istore [(5, .int v215), (4, .int v184), (7, .int v124), (3, .int v93), (6, .int wa31), (2, .int row), (1, .int p), (0, .ref m)] rfl (Nat.le_of_ble_eq_true rfl) (tX11_readRope_2_ok (268, .istore 5, 2) (List.mem_of_getElem? (i := 32) rfl)) ?_
                        have hodd : sp_odd ((upd R (row.toInt.toNat + wz) v124) (row.toInt.toNat)).toInt ((upd R (row.toInt.toNat + wz) v124) (row.toInt.toNat + 1)).toInt ((upd R (row.toInt.toNat + wz) v124) (row.toInt.toNat + 2)).toInt := by omega
                        refine w_iload (List.Mem.head _) (tX11_readRope_2_ok (270, .iload 5, 2) (List.mem_of_getElem? (i := 33) rfl)) ?_
                        refine w_if_eq (tgt := 297) (tX11_readRope_2_ok (272, .ifCond .eq 25, 3) (List.mem_of_getElem? (i := 34) rfl)) rfl (fun b217 => ?_) (fun b217 => ?_)
                        · exfalso; omega
                        · refine w_aload_n (List.Mem.tail _ (List.Mem.tail _ (List.Mem.tail _ (List.Mem.tail _ (List.Mem.tail _ (List.Mem.tail _ (List.Mem.tail _ (List.Mem.head _)))))))) (tX11_readRope_2_ok (275, .aload_n 0, 1) (List.mem_of_getElem? (i := 35) rfl)) ?_
                          refine w_callV (own := 16) (mi := 212) [] [] [(0, .ref m)] rfl (cllw_X11 (128, 0, 212) (List.mem_of_getElem? (i := 7) rfl)) rfl rfl c165 rfl hr1 (w_lo (n := 20) rfl (Nat.le_trans (Nat.le_of_ble_eq_true rfl) hr2)) (Nat.le_of_ble_eq_true rfl) (Nat.le_of_ble_eq_true rfl) rfl (tX11_readRope_2_ok (276, .invokevirtual 128, 3) (List.mem_of_getElem? (i := 36) rfl)) (r_look hT ⟨⟨c165, l166, f167, f168, f169, f170, f171⟩, f172, n_tx_m, c173, hs, hb, a174, a175⟩ (fun h218 fs219 at220 v221 p222 e223 e224 k225 o226 => ?_))
                          obtain ⟨⟨c227, l228, f229, f230, f231, f232, f233⟩, f234, -, c235, -, -, a236, a237⟩ := p222
                          have f238 := (k225 4 (by decide)).trans f176
                          have f239 := (k225 19 (by decide)).trans f177
                          have c240 := (o226 le n_le_m).trans c178
                          rw [e161, sp_sk_sk] at e223 e224
                          show ww l D tys A X fr lo mX11_readRope Q 279 [(5, .int v215), (4, .int v184), (7, .int v124), (3, .int v93), (6, .int wa31), (2, .int row), (1, .int p), (0, .ref m)] [.int v221] h218
                          have c241 := (o226 ro n_ro_m).trans c179
                          refine w_bipush (by decide) (tX11_readRope_2_ok (279, .bipush 59, 2) (List.mem_of_getElem? (i := 37) rfl)) (fun v242 e243 => ?_)
                          refine w_icmp_eq (tgt := 292) (tX11_readRope_2_ok (281, .if_icmp .eq 11, 3) (List.mem_of_getElem? (i := 38) rfl)) rfl (fun b244 => ?_) (fun b244 => ?_)
                          · have g245 : sp_sg f en.toInt.toNat (sp_sk f en.toInt.toNat at122.toInt.toNat) = 59 ∧ at220.toInt < en.toInt ∧ v221.toInt = 59 := by omega
                            clear e224 b244
                            refine w_aload_n (List.Mem.tail _ (List.Mem.tail _ (List.Mem.tail _ (List.Mem.tail _ (List.Mem.tail _ (List.Mem.tail _ (List.Mem.tail _ (List.Mem.head _)))))))) (tX11_readRope_2_ok (292, .aload_n 0, 1) (List.mem_of_getElem? (i := 43) rfl)) ?_
                            refine w_callV (own := 16) (mi := 180) [] [] [(0, .ref m)] rfl (cllw_X11 (124, 0, 180) (List.mem_of_getElem? (i := 11) rfl)) rfl rfl c227 rfl hr1 (w_lo (n := 20) rfl (Nat.le_trans (Nat.le_of_ble_eq_true rfl) hr2)) (Nat.le_of_ble_eq_true rfl) (Nat.le_of_ble_eq_true rfl) rfl (tX11_readRope_2_ok (293, .invokevirtual 124, 3) (List.mem_of_getElem? (i := 44) rfl)) (r_fail ⟨⟨c227, l228, f229, f230, f231, f232, f233⟩, f234, n_tx_m, c235, hs, hb, a236, a237⟩ (fun h246 fs247 fl248 v249 p250 e251 e252 k253 o254 => ?_))
                            obtain ⟨⟨c255, l256, f257, f258, f259, f260, f261⟩, f262, -, c263, -, -, a264, a265⟩ := p250
                            have f266 := (k253 4 (by decide)).trans f238
                            have f267 := (k253 19 (by decide)).trans f239
                            have c268 := (o254 le n_le_m).trans c240
                            show ww l D tys A X fr lo mX11_readRope Q 296 [(5, .int v215), (4, .int v184), (7, .int v124), (3, .int v93), (6, .int wa31), (2, .int row), (1, .int p), (0, .ref m)] [.int v249] h246
                            have c269 := (o254 ro n_ro_m).trans c241
                            refine w_pop rfl (tX11_readRope_2_ok (296, .pop, 1) (List.mem_of_getElem? (i := 45) rfl)) ?_
                            refine w_vret rfl (tX11_readRope_2_ok (297, .return_, 1) (List.mem_of_getElem? (i := 46) rfl)) ?_
                            refine hq h246 fs247 at220 fl248 _ ⟨⟨⟨⟨c255, l256, f257, f258, f259, f260, f261⟩, f262, n_tx_m, c263, hs, hb, a264, a265⟩, f266, n_le_m, _, c268⟩, f267, n_ro_m, n_m_ro, n_ro_tx, n_tx_ro, n_le_ro, n_ro_le, c269, hTD2⟩ ?_ (fun _ => hx9) hro9 (fun j hj => (k253 j hj).trans ((k225 j hj).trans ((k163 j hj).trans ((k127 j hj).trans ((j105 j hj.1).trans (k9 j hj)))))) (fun q hq => (o254 q hq.1).trans ((o226 q hq.1).trans ((o164 q hq.1).trans ((o152 q hq.2).trans ((o128 q hq.1).trans ((o101 q hq.1).trans (o10 q hq.1)))))))
                            rw [j9, y3]
                            unfold sp_re
                            rw [y6, if_neg (by omega)]
                            rw [if_pos (Or.inr hodd)]
                            exact Or.inl (by show _ = _; omega)
                          · have g270 : ¬ sp_sg f en.toInt.toNat (sp_sk f en.toInt.toNat at122.toInt.toNat) = 59 := by omega
                            clear e224 b244
                            refine w_aload_n (List.Mem.tail _ (List.Mem.tail _ (List.Mem.tail _ (List.Mem.tail _ (List.Mem.tail _ (List.Mem.tail _ (List.Mem.tail _ (List.Mem.head _)))))))) (tX11_readRope_2_ok (284, .aload_n 0, 1) (List.mem_of_getElem? (i := 39) rfl)) ?_
                            refine w_callV (own := 16) (mi := 212) [] [] [(0, .ref m)] rfl (cllw_X11 (128, 0, 212) (List.mem_of_getElem? (i := 7) rfl)) rfl rfl c227 rfl hr1 (w_lo (n := 20) rfl (Nat.le_trans (Nat.le_of_ble_eq_true rfl) hr2)) (Nat.le_of_ble_eq_true rfl) (Nat.le_of_ble_eq_true rfl) rfl (tX11_readRope_2_ok (285, .invokevirtual 128, 3) (List.mem_of_getElem? (i := 40) rfl)) (r_look hT ⟨⟨c227, l228, f229, f230, f231, f232, f233⟩, f234, n_tx_m, c235, hs, hb, a236, a237⟩ (fun h271 fs272 at273 v274 p275 e276 e277 k278 o279 => ?_))
                            obtain ⟨⟨c280, l281, f282, f283, f284, f285, f286⟩, f287, -, c288, -, -, a289, a290⟩ := p275
                            have f291 := (k278 4 (by decide)).trans f238
                            have f292 := (k278 19 (by decide)).trans f239
                            have c293 := (o279 le n_le_m).trans c240
                            rw [e223, sp_sk_sk] at e276 e277
                            show ww l D tys A X fr lo mX11_readRope Q 288 [(5, .int v215), (4, .int v184), (7, .int v124), (3, .int v93), (6, .int wa31), (2, .int row), (1, .int p), (0, .ref m)] [.int v274] h271
                            have c294 := (o279 ro n_ro_m).trans c241
                            refine w_iconst (by decide) (tX11_readRope_2_ok (288, .iconst (-1), 1) (List.mem_of_getElem? (i := 41) rfl)) (fun v295 e296 => ?_)
                            refine w_icmp_ne (tgt := 297) (tX11_readRope_2_ok (289, .if_icmp .ne 8, 3) (List.mem_of_getElem? (i := 42) rfl)) rfl (fun b297 => ?_) (fun b297 => ?_)
                            · refine w_vret rfl (tX11_readRope_2_ok (297, .return_, 1) (List.mem_of_getElem? (i := 46) rfl)) ?_
                              have z5 := hnz (sp_sk f en.toInt.toNat at122.toInt.toNat) (by omega)
                              have z6 : sp_sg f en.toInt.toNat (sp_sk f en.toInt.toNat at122.toInt.toNat) = (f (sp_sk f en.toInt.toNat at122.toInt.toNat)).toInt := by unfold sp_sg; rw [if_pos (by omega)]
                              refine hq h271 fs272 at273 fl123 _ ⟨⟨⟨⟨c280, l281, f282, f283, f284, f285, f286⟩, f287, n_tx_m, c288, hs, hb, a289, a290⟩, f291, n_le_m, _, c293⟩, f292, n_ro_m, n_m_ro, n_ro_tx, n_tx_ro, n_le_ro, n_ro_le, c294, hTD2⟩ ?_ (fun _ => hx9) hro9 (fun j hj => (k278 j hj).trans ((k225 j hj).trans ((k163 j hj).trans ((k127 j hj).trans ((j105 j hj.1).trans (k9 j hj)))))) (fun q hq => (o279 q hq.1).trans ((o226 q hq.1).trans ((o164 q hq.1).trans ((o152 q hq.2).trans ((o128 q hq.1).trans ((o101 q hq.1).trans (o10 q hq.1)))))))
                              rw [j9, y3]
                              unfold sp_re
                              rw [y6, if_neg (by omega)]
                              rw [if_pos (Or.inr hodd)]
                              refine Or.inr ⟨by omega, ?_, ?_, ?_⟩
                              · congr 1; omega
                              · rw [e276, sp_sk_sk]
                              · rw [e276]; exact ⟨by omega, by omega⟩
                            · refine w_aload_n (List.Mem.tail _ (List.Mem.tail _ (List.Mem.tail _ (List.Mem.tail _ (List.Mem.tail _ (List.Mem.tail _ (List.Mem.tail _ (List.Mem.head _)))))))) (tX11_readRope_2_ok (292, .aload_n 0, 1) (List.mem_of_getElem? (i := 43) rfl)) ?_
                              refine w_callV (own := 16) (mi := 180) [] [] [(0, .ref m)] rfl (cllw_X11 (124, 0, 180) (List.mem_of_getElem? (i := 11) rfl)) rfl rfl c280 rfl hr1 (w_lo (n := 20) rfl (Nat.le_trans (Nat.le_of_ble_eq_true rfl) hr2)) (Nat.le_of_ble_eq_true rfl) (Nat.le_of_ble_eq_true rfl) rfl (tX11_readRope_2_ok (293, .invokevirtual 124, 3) (List.mem_of_getElem? (i := 44) rfl)) (r_fail ⟨⟨c280, l281, f282, f283, f284, f285, f286⟩, f287, n_tx_m, c288, hs, hb, a289, a290⟩ (fun h298 fs299 fl300 v301 p302 e303 e304 k305 o306 => ?_))
                              obtain ⟨⟨c307, l308, f309, f310, f311, f312, f313⟩, f314, -, c315, -, -, a316, a317⟩ := p302
                              have f318 := (k305 4 (by decide)).trans f291
                              have f319 := (k305 19 (by decide)).trans f292
                              have c320 := (o306 le n_le_m).trans c293
                              show ww l D tys A X fr lo mX11_readRope Q 296 [(5, .int v215), (4, .int v184), (7, .int v124), (3, .int v93), (6, .int wa31), (2, .int row), (1, .int p), (0, .ref m)] [.int v301] h298
                              have c321 := (o306 ro n_ro_m).trans c294
                              refine w_pop rfl (tX11_readRope_2_ok (296, .pop, 1) (List.mem_of_getElem? (i := 45) rfl)) ?_
                              refine w_vret rfl (tX11_readRope_2_ok (297, .return_, 1) (List.mem_of_getElem? (i := 46) rfl)) ?_
                              refine hq h298 fs299 at273 fl300 _ ⟨⟨⟨⟨c307, l308, f309, f310, f311, f312, f313⟩, f314, n_tx_m, c315, hs, hb, a316, a317⟩, f318, n_le_m, _, c320⟩, f319, n_ro_m, n_m_ro, n_ro_tx, n_tx_ro, n_le_ro, n_ro_le, c321, hTD2⟩ ?_ (fun _ => hx9) hro9 (fun j hj => (k305 j hj).trans ((k278 j hj).trans ((k225 j hj).trans ((k163 j hj).trans ((k127 j hj).trans ((j105 j hj.1).trans (k9 j hj))))))) (fun q hq => (o306 q hq.1).trans ((o279 q hq.1).trans ((o226 q hq.1).trans ((o164 q hq.1).trans ((o152 q hq.2).trans ((o128 q hq.1).trans ((o101 q hq.1).trans (o10 q hq.1))))))))
                              rw [j9, y3]
                              unfold sp_re
                              rw [y6, if_neg (by omega)]
                              rw [if_pos (Or.inr hodd)]
                              exact Or.inl (by show _ = _; omega)
                      · refine w_aload_n (List.Mem.tail _ (List.Mem.tail _ (List.Mem.tail _ (List.Mem.tail _ (List.Mem.tail _ (List.Mem.tail _ (List.Mem.tail _ (List.Mem.head _)))))))) (tX11_readRope_2_ok (249, .aload_n 0, 1) (List.mem_of_getElem? (i := 19) rfl)) ?_
                        refine w_get (own := 16) rfl rfl (by decide) c165 f177 (tX11_readRope_2_ok (250, .getfield 42, 3) (List.mem_of_getElem? (i := 20) rfl)) ?_
                        refine w_iload_n (List.Mem.tail _ (List.Mem.tail _ (List.Mem.tail _ (List.Mem.tail _ (List.Mem.tail _ (List.Mem.head _)))))) (tX11_readRope_2_ok (253, .iload_n 2, 1) (List.mem_of_getElem? (i := 21) rfl)) ?_
                        refine w_iconst (by decide) (tX11_readRope_2_ok (254, .iconst 2, 1) (List.mem_of_getElem? (i := 22) rfl)) (fun v322 e323 => ?_)
                        refine w_iadd (by omega) (by omega) (tX11_readRope_2_ok (255, .iadd, 1) (List.mem_of_getElem? (i := 23) rfl)) (fun v324 e325 => ?_)
                        refine w_iald hT c179 (by omega) (by omega) (tX11_readRope_2_ok (256, .iaload, 1) (List.mem_of_getElem? (i := 24) rfl)) (fun v326 e327 => ?_)
                        have i328 : v324.toInt.toNat = row.toInt.toNat + 2 := by omega
                        rw [i328] at e327
                        refine w_iconst (by decide) (tX11_readRope_2_ok (257, .iconst 2, 1) (List.mem_of_getElem? (i := 25) rfl)) (fun v329 e330 => ?_)
                        refine w_irem2 (by omega) (by omega) (tX11_readRope_2_ok (258, .irem, 1) (List.mem_of_getElem? (i := 26) rfl)) (fun v331 e332 => ?_)
                        refine w_iconst (by decide) (tX11_readRope_2_ok (259, .iconst 1, 1) (List.mem_of_getElem? (i := 27) rfl)) (fun v333 e334 => ?_)
                        refine w_icmp_ne (tgt := 267) (tX11_readRope_2_ok (260, .if_icmp .ne 7, 3) (List.mem_of_getElem? (i := 28) rfl)) rfl (fun b335 => ?_) (fun b335 => ?_)
                        · refine w_iconst (by decide) (tX11_readRope_2_ok (267, .iconst 0, 1) (List.mem_of_getElem? (i := 31) rfl)) (fun v336 e337 => ?_)
                          refine w_istore [(5, .int v336), (4, .int v184), (7, .int v124), (3, .int v93), (6, .int wa31), (2, .int row), (1, .int p), (0, .ref m)] rfl (Nat.le_of_ble_eq_true rfl) (tX11_readRope_2_ok (268, .istore 5, 2) (List.mem_of_getElem? (i := 32) rfl)) ?_
                          have hodd : ¬ (sp_odd ((upd R (row.toInt.toNat + wz) v124) (row.toInt.toNat)).toInt ((upd R (row.toInt.toNat + wz) v124) (row.toInt.toNat + 1)).toInt ((upd R (row.toInt.toNat + wz) v124) (row.toInt.toNat + 2)).toInt) := by omega
                          refine w_iload (List.Mem.head _) (tX11_readRope_2_ok (270, .iload 5, 2) (List.mem_of_getElem? (i := 33) rfl)) ?_
                          refine w_if_eq (tgt := 297) (tX11_readRope_2_ok (272, .ifCond .eq 25, 3) (List.mem_of_getElem? (i := 34) rfl)) rfl (fun b338 => ?_) (fun b338 => ?_)
                          · refine w_vret rfl (tX11_readRope_2_ok (297, .return_, 1) (List.mem_of_getElem? (i := 46) rfl)) ?_
                            refine hq h156 fs157 at158 fl123 _ ⟨⟨⟨⟨c165, l166, f167, f168, f169, f170, f171⟩, f172, n_tx_m, c173, hs, hb, a174, a175⟩, f176, n_le_m, _, c178⟩, f177, n_ro_m, n_m_ro, n_ro_tx, n_tx_ro, n_le_ro, n_ro_le, c179, hTD2⟩ ?_ (fun _ => hx9) hro9 (fun j hj => (k163 j hj).trans ((k127 j hj).trans ((j105 j hj.1).trans (k9 j hj)))) (fun q hq => (o164 q hq.1).trans ((o152 q hq.2).trans ((o128 q hq.1).trans ((o101 q hq.1).trans (o10 q hq.1)))))
                            rw [j9, y3]
                            unfold sp_re
                            rw [y6, if_neg (by omega)]
                            by_cases c9 : ¬ sp_sg f en.toInt.toNat (sp_sk f en.toInt.toNat at122.toInt.toNat) = 59 ∧ ¬ sp_sg f en.toInt.toNat (sp_sk f en.toInt.toNat at122.toInt.toNat) = 0
                            · rw [if_pos (Or.inl c9)]
                              refine Or.inr ⟨by omega, ?_, ?_, ?_⟩
                              · congr 1; omega
                              · rw [e161, sp_sk_sk]
                              · rw [e161]; exact c9
                            · rw [if_neg (fun q => q.elim c9 hodd)]
                              exact Or.inl ⟨by omega, by omega⟩
                          · exfalso; omega
                        · refine w_iconst (by decide) (tX11_readRope_2_ok (263, .iconst 1, 1) (List.mem_of_getElem? (i := 29) rfl)) (fun v339 e340 => ?_)
                          refine w_goto (tgt := 268) (tX11_readRope_2_ok (264, .goto 4, 3) (List.mem_of_getElem? (i := 30) rfl)) rfl ?_
                          refine w_istore [(5, .int v339), (4, .int v184), (7, .int v124), (3, .int v93), (6, .int wa31), (2, .int row), (1, .int p), (0, .ref m)] rfl (Nat.le_of_ble_eq_true rfl) (tX11_readRope_2_ok (268, .istore 5, 2) (List.mem_of_getElem? (i := 32) rfl)) ?_
                          have hodd : sp_odd ((upd R (row.toInt.toNat + wz) v124) (row.toInt.toNat)).toInt ((upd R (row.toInt.toNat + wz) v124) (row.toInt.toNat + 1)).toInt ((upd R (row.toInt.toNat + wz) v124) (row.toInt.toNat + 2)).toInt := by omega
                          refine w_iload (List.Mem.head _) (tX11_readRope_2_ok (270, .iload 5, 2) (List.mem_of_getElem? (i := 33) rfl)) ?_
                          refine w_if_eq (tgt := 297) (tX11_readRope_2_ok (272, .ifCond .eq 25, 3) (List.mem_of_getElem? (i := 34) rfl)) rfl (fun b341 => ?_) (fun b341 => ?_)
                          · exfalso; omega
                          · refine w_aload_n (List.Mem.tail _ (List.Mem.tail _ (List.Mem.tail _ (List.Mem.tail _ (List.Mem.tail _ (List.Mem.tail _ (List.Mem.tail _ (List.Mem.head _)))))))) (tX11_readRope_2_ok (275, .aload_n 0, 1) (List.mem_of_getElem? (i := 35) rfl)) ?_
                            refine w_callV (own := 16) (mi := 212) [] [] [(0, .ref m)] rfl (cllw_X11 (128, 0, 212) (List.mem_of_getElem? (i := 7) rfl)) rfl rfl c165 rfl hr1 (w_lo (n := 20) rfl (Nat.le_trans (Nat.le_of_ble_eq_true rfl) hr2)) (Nat.le_of_ble_eq_true rfl) (Nat.le_of_ble_eq_true rfl) rfl (tX11_readRope_2_ok (276, .invokevirtual 128, 3) (List.mem_of_getElem? (i := 36) rfl)) (r_look hT ⟨⟨c165, l166, f167, f168, f169, f170, f171⟩, f172, n_tx_m, c173, hs, hb, a174, a175⟩ (fun h342 fs343 at344 v345 p346 e347 e348 k349 o350 => ?_))
                            obtain ⟨⟨c351, l352, f353, f354, f355, f356, f357⟩, f358, -, c359, -, -, a360, a361⟩ := p346
                            have f362 := (k349 4 (by decide)).trans f176
                            have f363 := (k349 19 (by decide)).trans f177
                            have c364 := (o350 le n_le_m).trans c178
                            rw [e161, sp_sk_sk] at e347 e348
                            show ww l D tys A X fr lo mX11_readRope Q 279 [(5, .int v339), (4, .int v184), (7, .int v124), (3, .int v93), (6, .int wa31), (2, .int row), (1, .int p), (0, .ref m)] [.int v345] h342
                            have c365 := (o350 ro n_ro_m).trans c179
                            refine w_bipush (by decide) (tX11_readRope_2_ok (279, .bipush 59, 2) (List.mem_of_getElem? (i := 37) rfl)) (fun v366 e367 => ?_)
                            refine w_icmp_eq (tgt := 292) (tX11_readRope_2_ok (281, .if_icmp .eq 11, 3) (List.mem_of_getElem? (i := 38) rfl)) rfl (fun b368 => ?_) (fun b368 => ?_)
                            · have g369 : sp_sg f en.toInt.toNat (sp_sk f en.toInt.toNat at122.toInt.toNat) = 59 ∧ at344.toInt < en.toInt ∧ v345.toInt = 59 := by omega
                              clear e348 b368
                              refine w_aload_n (List.Mem.tail _ (List.Mem.tail _ (List.Mem.tail _ (List.Mem.tail _ (List.Mem.tail _ (List.Mem.tail _ (List.Mem.tail _ (List.Mem.head _)))))))) (tX11_readRope_2_ok (292, .aload_n 0, 1) (List.mem_of_getElem? (i := 43) rfl)) ?_
                              refine w_callV (own := 16) (mi := 180) [] [] [(0, .ref m)] rfl (cllw_X11 (124, 0, 180) (List.mem_of_getElem? (i := 11) rfl)) rfl rfl c351 rfl hr1 (w_lo (n := 20) rfl (Nat.le_trans (Nat.le_of_ble_eq_true rfl) hr2)) (Nat.le_of_ble_eq_true rfl) (Nat.le_of_ble_eq_true rfl) rfl (tX11_readRope_2_ok (293, .invokevirtual 124, 3) (List.mem_of_getElem? (i := 44) rfl)) (r_fail ⟨⟨c351, l352, f353, f354, f355, f356, f357⟩, f358, n_tx_m, c359, hs, hb, a360, a361⟩ (fun h370 fs371 fl372 v373 p374 e375 e376 k377 o378 => ?_))
                              obtain ⟨⟨c379, l380, f381, f382, f383, f384, f385⟩, f386, -, c387, -, -, a388, a389⟩ := p374
                              have f390 := (k377 4 (by decide)).trans f362
                              have f391 := (k377 19 (by decide)).trans f363
                              have c392 := (o378 le n_le_m).trans c364
                              show ww l D tys A X fr lo mX11_readRope Q 296 [(5, .int v339), (4, .int v184), (7, .int v124), (3, .int v93), (6, .int wa31), (2, .int row), (1, .int p), (0, .ref m)] [.int v373] h370
                              have c393 := (o378 ro n_ro_m).trans c365
                              refine w_pop rfl (tX11_readRope_2_ok (296, .pop, 1) (List.mem_of_getElem? (i := 45) rfl)) ?_
                              refine w_vret rfl (tX11_readRope_2_ok (297, .return_, 1) (List.mem_of_getElem? (i := 46) rfl)) ?_
                              refine hq h370 fs371 at344 fl372 _ ⟨⟨⟨⟨c379, l380, f381, f382, f383, f384, f385⟩, f386, n_tx_m, c387, hs, hb, a388, a389⟩, f390, n_le_m, _, c392⟩, f391, n_ro_m, n_m_ro, n_ro_tx, n_tx_ro, n_le_ro, n_ro_le, c393, hTD2⟩ ?_ (fun _ => hx9) hro9 (fun j hj => (k377 j hj).trans ((k349 j hj).trans ((k163 j hj).trans ((k127 j hj).trans ((j105 j hj.1).trans (k9 j hj)))))) (fun q hq => (o378 q hq.1).trans ((o350 q hq.1).trans ((o164 q hq.1).trans ((o152 q hq.2).trans ((o128 q hq.1).trans ((o101 q hq.1).trans (o10 q hq.1)))))))
                              rw [j9, y3]
                              unfold sp_re
                              rw [y6, if_neg (by omega)]
                              rw [if_pos (Or.inr hodd)]
                              exact Or.inl (by show _ = _; omega)
                            · have g394 : ¬ sp_sg f en.toInt.toNat (sp_sk f en.toInt.toNat at122.toInt.toNat) = 59 := by omega
                              clear e348 b368
                              refine w_aload_n (List.Mem.tail _ (List.Mem.tail _ (List.Mem.tail _ (List.Mem.tail _ (List.Mem.tail _ (List.Mem.tail _ (List.Mem.tail _ (List.Mem.head _)))))))) (tX11_readRope_2_ok (284, .aload_n 0, 1) (List.mem_of_getElem? (i := 39) rfl)) ?_
                              refine w_callV (own := 16) (mi := 212) [] [] [(0, .ref m)] rfl (cllw_X11 (128, 0, 212) (List.mem_of_getElem? (i := 7) rfl)) rfl rfl c351 rfl hr1 (w_lo (n := 20) rfl (Nat.le_trans (Nat.le_of_ble_eq_true rfl) hr2)) (Nat.le_of_ble_eq_true rfl) (Nat.le_of_ble_eq_true rfl) rfl (tX11_readRope_2_ok (285, .invokevirtual 128, 3) (List.mem_of_getElem? (i := 40) rfl)) (r_look hT ⟨⟨c351, l352, f353, f354, f355, f356, f357⟩, f358, n_tx_m, c359, hs, hb, a360, a361⟩ (fun h395 fs396 at397 v398 p399 e400 e401 k402 o403 => ?_))
                              obtain ⟨⟨c404, l405, f406, f407, f408, f409, f410⟩, f411, -, c412, -, -, a413, a414⟩ := p399
                              have f415 := (k402 4 (by decide)).trans f362
                              have f416 := (k402 19 (by decide)).trans f363
                              have c417 := (o403 le n_le_m).trans c364
                              rw [e347, sp_sk_sk] at e400 e401
                              show ww l D tys A X fr lo mX11_readRope Q 288 [(5, .int v339), (4, .int v184), (7, .int v124), (3, .int v93), (6, .int wa31), (2, .int row), (1, .int p), (0, .ref m)] [.int v398] h395
                              have c418 := (o403 ro n_ro_m).trans c365
                              refine w_iconst (by decide) (tX11_readRope_2_ok (288, .iconst (-1), 1) (List.mem_of_getElem? (i := 41) rfl)) (fun v419 e420 => ?_)
                              refine w_icmp_ne (tgt := 297) (tX11_readRope_2_ok (289, .if_icmp .ne 8, 3) (List.mem_of_getElem? (i := 42) rfl)) rfl (fun b421 => ?_) (fun b421 => ?_)
                              · refine w_vret rfl (tX11_readRope_2_ok (297, .return_, 1) (List.mem_of_getElem? (i := 46) rfl)) ?_
                                have z5 := hnz (sp_sk f en.toInt.toNat at122.toInt.toNat) (by omega)
                                have z6 : sp_sg f en.toInt.toNat (sp_sk f en.toInt.toNat at122.toInt.toNat) = (f (sp_sk f en.toInt.toNat at122.toInt.toNat)).toInt := by unfold sp_sg; rw [if_pos (by omega)]
                                refine hq h395 fs396 at397 fl123 _ ⟨⟨⟨⟨c404, l405, f406, f407, f408, f409, f410⟩, f411, n_tx_m, c412, hs, hb, a413, a414⟩, f415, n_le_m, _, c417⟩, f416, n_ro_m, n_m_ro, n_ro_tx, n_tx_ro, n_le_ro, n_ro_le, c418, hTD2⟩ ?_ (fun _ => hx9) hro9 (fun j hj => (k402 j hj).trans ((k349 j hj).trans ((k163 j hj).trans ((k127 j hj).trans ((j105 j hj.1).trans (k9 j hj)))))) (fun q hq => (o403 q hq.1).trans ((o350 q hq.1).trans ((o164 q hq.1).trans ((o152 q hq.2).trans ((o128 q hq.1).trans ((o101 q hq.1).trans (o10 q hq.1)))))))
                                rw [j9, y3]
                                unfold sp_re
                                rw [y6, if_neg (by omega)]
                                rw [if_pos (Or.inr hodd)]
                                refine Or.inr ⟨by omega, ?_, ?_, ?_⟩
                                · congr 1; omega
                                · rw [e400, sp_sk_sk]
                                · rw [e400]; exact ⟨by omega, by omega⟩
                              · refine w_aload_n (List.Mem.tail _ (List.Mem.tail _ (List.Mem.tail _ (List.Mem.tail _ (List.Mem.tail _ (List.Mem.tail _ (List.Mem.tail _ (List.Mem.head _)))))))) (tX11_readRope_2_ok (292, .aload_n 0, 1) (List.mem_of_getElem? (i := 43) rfl)) ?_
                                refine w_callV (own := 16) (mi := 180) [] [] [(0, .ref m)] rfl (cllw_X11 (124, 0, 180) (List.mem_of_getElem? (i := 11) rfl)) rfl rfl c404 rfl hr1 (w_lo (n := 20) rfl (Nat.le_trans (Nat.le_of_ble_eq_true rfl) hr2)) (Nat.le_of_ble_eq_true rfl) (Nat.le_of_ble_eq_true rfl) rfl (tX11_readRope_2_ok (293, .invokevirtual 124, 3) (List.mem_of_getElem? (i := 44) rfl)) (r_fail ⟨⟨c404, l405, f406, f407, f408, f409, f410⟩, f411, n_tx_m, c412, hs, hb, a413, a414⟩ (fun h422 fs423 fl424 v425 p426 e427 e428 k429 o430 => ?_))
                                obtain ⟨⟨c431, l432, f433, f434, f435, f436, f437⟩, f438, -, c439, -, -, a440, a441⟩ := p426
                                have f442 := (k429 4 (by decide)).trans f415
                                have f443 := (k429 19 (by decide)).trans f416
                                have c444 := (o430 le n_le_m).trans c417
                                show ww l D tys A X fr lo mX11_readRope Q 296 [(5, .int v339), (4, .int v184), (7, .int v124), (3, .int v93), (6, .int wa31), (2, .int row), (1, .int p), (0, .ref m)] [.int v425] h422
                                have c445 := (o430 ro n_ro_m).trans c418
                                refine w_pop rfl (tX11_readRope_2_ok (296, .pop, 1) (List.mem_of_getElem? (i := 45) rfl)) ?_
                                refine w_vret rfl (tX11_readRope_2_ok (297, .return_, 1) (List.mem_of_getElem? (i := 46) rfl)) ?_
                                refine hq h422 fs423 at397 fl424 _ ⟨⟨⟨⟨c431, l432, f433, f434, f435, f436, f437⟩, f438, n_tx_m, c439, hs, hb, a440, a441⟩, f442, n_le_m, _, c444⟩, f443, n_ro_m, n_m_ro, n_ro_tx, n_tx_ro, n_le_ro, n_ro_le, c445, hTD2⟩ ?_ (fun _ => hx9) hro9 (fun j hj => (k429 j hj).trans ((k402 j hj).trans ((k349 j hj).trans ((k163 j hj).trans ((k127 j hj).trans ((j105 j hj.1).trans (k9 j hj))))))) (fun q hq => (o430 q hq.1).trans ((o403 q hq.1).trans ((o350 q hq.1).trans ((o164 q hq.1).trans ((o152 q hq.2).trans ((o128 q hq.1).trans ((o101 q hq.1).trans (o10 q hq.1))))))))
                                rw [j9, y3]
                                unfold sp_re
                                rw [y6, if_neg (by omega)]
                                rw [if_pos (Or.inr hodd)]
                                exact Or.inl (by show _ = _; omega)
                  · exfalso; omega
                · exfalso; omega
              · have g446 : sp_sg f en.toInt.toNat (sp_sk f en.toInt.toNat at122.toInt.toNat) = 44 ∧ at158.toInt < en.toInt ∧ v159.toInt = 44 := by omega
                clear e162 b182
                refine w_iconst (by decide) (tX11_readRope_1_ok (198, .iconst 1, 1) (List.mem_of_getElem? (i := 48) rfl)) (fun v447 e448 => ?_)
                refine w_goto (tgt := 203) (tX11_readRope_1_ok (199, .goto 4, 3) (List.mem_of_getElem? (i := 49) rfl)) rfl ?_
                refine w_istore [(4, .int v447), (7, .int v124), (3, .int v93), (6, .int wa31), (5, .int v5), (2, .int row), (1, .int p), (0, .ref m)] rfl (Nat.le_of_ble_eq_true rfl) (tX11_readRope_1_ok (203, .istore 4, 2) (List.mem_of_getElem? (i := 51) rfl)) ?_
                refine w_iload (List.Mem.head _) (tX11_readRope_1_ok (205, .iload 4, 2) (List.mem_of_getElem? (i := 52) rfl)) ?_
                refine w_if_eq (tgt := 220) (tX11_readRope_1_ok (207, .ifCond .eq 13, 3) (List.mem_of_getElem? (i := 53) rfl)) rfl (fun b449 => ?_) (fun b449 => ?_)
                · exfalso; omega
                · refine w_aload_n (List.Mem.tail _ (List.Mem.tail _ (List.Mem.tail _ (List.Mem.tail _ (List.Mem.tail _ (List.Mem.tail _ (List.Mem.tail _ (List.Mem.head _)))))))) (tX11_readRope_1_ok (210, .aload_n 0, 1) (List.mem_of_getElem? (i := 54) rfl)) ?_
                  refine w_dup rfl (tX11_readRope_1_ok (211, .dup, 1) (List.mem_of_getElem? (i := 55) rfl)) ?_
                  refine w_get (own := 16) rfl rfl (by decide) c165 f170 (tX11_readRope_1_ok (212, .getfield 109, 3) (List.mem_of_getElem? (i := 56) rfl)) ?_
                  refine w_iconst (by decide) (tX11_readRope_1_ok (215, .iconst 1, 1) (List.mem_of_getElem? (i := 57) rfl)) (fun v450 e451 => ?_)
                  refine w_iadd (by omega) (by omega) (tX11_readRope_1_ok (216, .iadd, 1) (List.mem_of_getElem? (i := 58) rfl)) (fun v452 e453 => ?_)
                  refine w_putF (own := 16) (ci := 10) (k := 10) rfl rfl (by decide) rfl ⟨rfl, rfl⟩ c165 (by rw [l166]; decide) (tX11_readRope_1_ok (217, .putfield 109, 3) (List.mem_of_getElem? (i := 59) rfl)) (fun h454 fs457 l458 k459 j460 c455 o456 => ?_)
                  rw [l166] at l458
                  have f461 := (j460 5 (by decide)).trans f167
                  have f462 := (j460 8 (by decide)).trans f168
                  have f463 := (j460 9 (by decide)).trans f169
                  have f464 := (j460 11 (by decide)).trans f171
                  have f465 := (j460 12 (by decide)).trans f172
                  have f466 := (j460 4 (by decide)).trans f176
                  have f467 := (j460 19 (by decide)).trans f177
                  have c468 := (o456 tx n_tx_m).trans c173
                  have c469 := (o456 le n_le_m).trans c178
                  have c470 := (o456 ro n_ro_m).trans c179
                  refine w_goto (tgt := 39) (tX11_readRope_2_ok (220, .goto (-181), 3) (List.mem_of_getElem? (i := 0) rfl)) rfl ?_
                  refine w_lv [(4, .int v447), (3, .int v93), (2, .int row), (1, .int p), (0, .ref m)] (by intro q hq; simp only [List.mem_cons, List.not_mem_nil, or_false] at hq ⊢; rcases hq with e | e | e | e | e <;> subst e <;> simp) ?_
                  rw [← hbit] at hto2
                  refine ih (j - 1) (by omega) _ _ _ _ _ _ _ (tn + sp_bit (sp_sg f en.toInt.toNat (sp_sk f en.toInt.toNat at0.toInt.toNat))) (by omega) (by omega) hto2.1 hto2.2.1 (by omega) (by omega) (fun hp0 => by rw [upd_n R _ (by omega)]; exact h62 hp0) ⟨⟨⟨⟨c455, l458, f461, f462, f463, k459, f464⟩, f465, n_tx_m, c468, hs, hb, by omega, by omega⟩, f466, n_le_m, _, c469⟩, f467, n_ro_m, n_m_ro, n_ro_tx, n_tx_ro, n_le_ro, n_ro_le, c470, hTD2⟩ (fun h1 fs1 at1 fl1 R1 p1 p2 p5 p6 p3 p4 => hq h1 fs1 at1 fl1 R1 p1 ?_ p5 (fun i hi => (p6 i hi).trans (hro9 i hi)) (fun j hj => (p3 j hj).trans ((j460 j hj.1).trans ((k163 j hj).trans ((k127 j hj).trans ((j105 j hj.1).trans (k9 j hj)))))) (fun q hq => (p4 q hq).trans ((o456 q hq.1).trans ((o164 q hq.1).trans ((o152 q hq.2).trans ((o128 q hq.1).trans ((o101 q hq.1).trans (o10 q hq.1))))))))
                  rw [j9, y3]
                  unfold sp_re
                  have y7 : sp_sk f en.toInt.toNat at122.toInt.toNat + 1 = v452.toInt.toNat := by omega
                  rw [y6, if_pos (by omega), y7]
                  exact p2
            · refine w_vret rfl (tX11_readRope_1_ok (177, .return_, 1) (List.mem_of_getElem? (i := 36) rfl)) ?_
              obtain ⟨q9, q8, q7⟩ := sp_is.inl e126.1 (by omega)
              refine hq h120 fs121 at122 fl123 R ⟨⟨⟨⟨c131, l132, f133, f134, f135, f136, f137⟩, f138, n_tx_m, c139, hs, hb, a140, a141⟩, f142, n_le_m, _, c144⟩, f143, n_ro_m, n_m_ro, n_ro_tx, n_tx_ro, n_le_ro, n_ro_le, c130, hTD⟩ ?_ (by omega) (fun _ _ => rfl) (fun j hj => (k127 j hj).trans ((j105 j hj.1).trans (k9 j hj))) (fun q hq => (o128 q hq.1).trans ((o101 q hq.1).trans (o10 q hq.1)))
              rw [j9, sp_rp_num (c := sp_sg f en.toInt.toNat (sp_sk f en.toInt.toNat at0.toInt.toNat)) rfl rfl hnb q8]
              exact Or.inl q7
          · refine w_iload_n (List.Mem.tail _ (List.Mem.tail _ (List.Mem.tail _ (List.Mem.tail _ (List.Mem.tail _ (List.Mem.tail _ (List.Mem.head _))))))) (tX11_readRope_1_ok (121, .iload_n 1, 1) (List.mem_of_getElem? (i := 2) rfl)) ?_
            refine w_if_ne (tgt := 131) (tX11_readRope_1_ok (122, .ifCond .ne 9, 3) (List.mem_of_getElem? (i := 3) rfl)) rfl (fun b471 => ?_) (fun b471 => ?_)
            · have hnb : ¬ (sp_bit (sp_sg f en.toInt.toNat (sp_sk f en.toInt.toNat at0.toInt.toNat)) = 0 ∨ tn / sp_bit (sp_sg f en.toInt.toNat (sp_sk f en.toInt.toNat at0.toInt.toNat)) % 2 = 1 ∨ sp_sg f en.toInt.toNat (sp_sk f en.toInt.toNat at0.toInt.toNat) = 117 ∧ ((p.toInt.toNat : Nat) : Int) = 0) := by
                have hpw := Nat.two_pow_pos wz
                rw [hbit]
                have q0 : ¬ tn / 2 ^ wz % 2 = 1 := by omega
                rintro (q1 | q1 | ⟨q1, q2⟩)
                · omega
                · exact q0 q1
                · have q9 := hl97.2.mp (by omega); omega
              have hn9 : ¬ tn / 2 ^ wz % 2 = 1 := by omega
              have hw8 : ¬ (wz = 8 ∧ p.toInt.toNat = 0) := by omega
              refine w_iload_n (List.Mem.tail _ (List.Mem.tail _ (List.Mem.tail _ (List.Mem.tail _ (List.Mem.head _))))) (tX11_readRope_1_ok (131, .iload_n 3, 1) (List.mem_of_getElem? (i := 8) rfl)) ?_
              refine w_iconst (by decide) (tX11_readRope_1_ok (132, .iconst 1, 1) (List.mem_of_getElem? (i := 9) rfl)) (fun v472 e473 => ?_)
              refine w_iload (List.Mem.tail _ (List.Mem.head _)) (tX11_readRope_1_ok (133, .iload 6, 2) (List.mem_of_getElem? (i := 10) rfl)) ?_
              refine w_ishl (tX11_readRope_1_ok (135, .ishl, 1) (List.mem_of_getElem? (i := 11) rfl)) (fun v474 e475 => ?_)
              refine w_ior (tX11_readRope_1_ok (136, .ior, 1) (List.mem_of_getElem? (i := 12) rfl)) (fun v476 e477 => ?_)
              have hto2 := sp_told_o hto h5 ⟨hwz, hz9⟩ (by omega) hn9 e475 e477
              refine w_istore_n [(3, .int v476), (7, .int ka30), (6, .int wa31), (5, .int v5), (4, .int more), (2, .int row), (1, .int p), (0, .ref m)] rfl (Nat.le_of_ble_eq_true rfl) (tX11_readRope_1_ok (137, .istore_n 3, 1) (List.mem_of_getElem? (i := 13) rfl)) ?_
              refine w_aload_n (List.Mem.tail _ (List.Mem.tail _ (List.Mem.tail _ (List.Mem.tail _ (List.Mem.tail _ (List.Mem.tail _ (List.Mem.tail _ (List.Mem.head _)))))))) (tX11_readRope_1_ok (138, .aload_n 0, 1) (List.mem_of_getElem? (i := 14) rfl)) ?_
              refine w_dup rfl (tX11_readRope_1_ok (139, .dup, 1) (List.mem_of_getElem? (i := 15) rfl)) ?_
              refine w_get (own := 16) rfl rfl (by decide) c11 f16 (tX11_readRope_1_ok (140, .getfield 109, 3) (List.mem_of_getElem? (i := 16) rfl)) ?_
              refine w_iconst (by decide) (tX11_readRope_1_ok (143, .iconst 1, 1) (List.mem_of_getElem? (i := 17) rfl)) (fun v478 e479 => ?_)
              refine w_iadd (by omega) (by omega) (tX11_readRope_1_ok (144, .iadd, 1) (List.mem_of_getElem? (i := 18) rfl)) (fun v480 e481 => ?_)
              refine w_putF (own := 16) (ci := 10) (k := 10) rfl rfl (by decide) rfl ⟨rfl, rfl⟩ c11 (by rw [l12]; decide) (tX11_readRope_1_ok (145, .putfield 109, 3) (List.mem_of_getElem? (i := 19) rfl)) (fun h482 fs485 l486 k487 j488 c483 o484 => ?_)
              rw [l12] at l486
              have f489 := (j488 5 (by decide)).trans f13
              have f490 := (j488 8 (by decide)).trans f14
              have f491 := (j488 9 (by decide)).trans f15
              have f492 := (j488 11 (by decide)).trans f17
              have f493 := (j488 12 (by decide)).trans f18
              have f494 := (j488 4 (by decide)).trans f22
              have f495 := (j488 19 (by decide)).trans f23
              have c496 := (o484 tx n_tx_m).trans c19
              have c497 := (o484 le n_le_m).trans c24
              have c498 := (o484 ro n_ro_m).trans c25
              refine w_aload_n (List.Mem.tail _ (List.Mem.tail _ (List.Mem.tail _ (List.Mem.tail _ (List.Mem.tail _ (List.Mem.tail _ (List.Mem.tail _ (List.Mem.head _)))))))) (tX11_readRope_1_ok (148, .aload_n 0, 1) (List.mem_of_getElem? (i := 20) rfl)) ?_
              refine w_aload_n (List.Mem.tail _ (List.Mem.tail _ (List.Mem.tail _ (List.Mem.tail _ (List.Mem.tail _ (List.Mem.tail _ (List.Mem.tail _ (List.Mem.head _)))))))) (tX11_readRope_1_ok (149, .aload_n 0, 1) (List.mem_of_getElem? (i := 21) rfl)) ?_
              refine w_iload_n (List.Mem.tail _ (List.Mem.tail _ (List.Mem.tail _ (List.Mem.tail _ (List.Mem.tail _ (List.Mem.head _)))))) (tX11_readRope_1_ok (150, .iload_n 2, 1) (List.mem_of_getElem? (i := 22) rfl)) ?_
              refine w_iload (List.Mem.tail _ (List.Mem.tail _ (List.Mem.head _))) (tX11_readRope_1_ok (151, .iload 6, 2) (List.mem_of_getElem? (i := 23) rfl)) ?_
              refine w_callV (own := 16) (mi := 210) [.int row, .int wa31] [.ref m] [(0, .ref m), (1, .int row), (2, .int wa31)] rfl (cllw_X11 (221, 0, 210) (List.mem_of_getElem? (i := 12) rfl)) rfl rfl c483 rfl hr1 (w_lo (n := 22) rfl (Nat.le_trans (Nat.le_of_ble_eq_true rfl) hr2)) (Nat.le_of_ble_eq_true rfl) (Nat.le_of_ble_eq_true rfl) rfl (tX11_readRope_1_ok (153, .invokevirtual 221, 3) (List.mem_of_getElem? (i := 24) rfl)) (r_leastOf hT ⟨hwz, hz9⟩ (by omega) (by omega) (w_sub (n := 22) rfl (by omega)) c483 f495 c498 (fun v499 e500 => ?_))
              show ww l D tys A X fr lo mX11_readRope Q 156 [(3, .int v476), (7, .int ka30), (6, .int wa31), (5, .int v5), (4, .int more), (2, .int row), (1, .int p), (0, .ref m)] [.int v499, .ref m] h482
              refine w_aload_n (List.Mem.tail _ (List.Mem.tail _ (List.Mem.tail _ (List.Mem.tail _ (List.Mem.tail _ (List.Mem.tail _ (List.Mem.tail _ (List.Mem.head _)))))))) (tX11_readRope_1_ok (156, .aload_n 0, 1) (List.mem_of_getElem? (i := 25) rfl)) ?_
              refine w_iload_n (List.Mem.tail _ (List.Mem.tail _ (List.Mem.tail _ (List.Mem.tail _ (List.Mem.tail _ (List.Mem.head _)))))) (tX11_readRope_1_ok (157, .iload_n 2, 1) (List.mem_of_getElem? (i := 26) rfl)) ?_
              refine w_iload (List.Mem.tail _ (List.Mem.tail _ (List.Mem.head _))) (tX11_readRope_1_ok (158, .iload 6, 2) (List.mem_of_getElem? (i := 27) rfl)) ?_
              refine w_iload_n (List.Mem.tail _ (List.Mem.tail _ (List.Mem.tail _ (List.Mem.tail _ (List.Mem.tail _ (List.Mem.tail _ (List.Mem.head _))))))) (tX11_readRope_1_ok (160, .iload_n 1, 1) (List.mem_of_getElem? (i := 28) rfl)) ?_
              refine w_callV (own := 16) (mi := 217) [.int row, .int wa31, .int p] [.int v499, .ref m] [(0, .ref m), (1, .int row), (2, .int wa31), (3, .int p)] rfl (cllw_X11 (224, 0, 217) (List.mem_of_getElem? (i := 14) rfl)) rfl rfl c483 rfl hr1 (w_lo (n := 23) rfl (Nat.le_trans (Nat.le_of_ble_eq_true rfl) hr2)) (Nat.le_of_ble_eq_true rfl) (Nat.le_of_ble_eq_true rfl) rfl (tX11_readRope_1_ok (161, .invokevirtual 224, 3) (List.mem_of_getElem? (i := 29) rfl)) (r_mostOf hT ⟨hwz, hz9⟩ (by omega) hp c483 f495 c498 (fun v501 e502 => ?_))
              show ww l D tys A X fr lo mX11_readRope Q 164 [(3, .int v476), (7, .int ka30), (6, .int wa31), (5, .int v5), (4, .int more), (2, .int row), (1, .int p), (0, .ref m)] [.int v501, .int v499, .ref m] h482
              refine w_callV (own := 16) (mi := 218) [.int v499, .int v501] [] [(0, .ref m), (1, .int v499), (2, .int v501)] rfl (cllw_X11 (228, 0, 218) (List.mem_of_getElem? (i := 15) rfl)) rfl rfl c483 rfl hr1 (w_lo (n := 25) rfl (Nat.le_trans (Nat.le_of_ble_eq_true rfl) hr2)) (Nat.le_of_ble_eq_true rfl) (Nat.le_of_ble_eq_true rfl) rfl (tX11_readRope_1_ok (164, .invokevirtual 228, 3) (List.mem_of_getElem? (i := 30) rfl)) (r_number hT (by omega) (w_sub (n := 25) rfl (by omega)) (by omega) ⟨⟨⟨c483, l486, f489, f490, f491, k487, f492⟩, f493, n_tx_m, c496, hs, hb, by omega, by omega⟩, f494, n_le_m, _, c497⟩ (fun h503 fs504 at505 fl506 v507 p508 e509 k510 o511 => ?_))
              have y1 : v480.toInt.toNat = sp_sk f en.toInt.toNat at0.toInt.toNat + 1 := by omega
              rw [e500, e502, y1] at e509
              have y4 := sp_num_nn f en.toInt.toNat 3 (sp_sk f en.toInt.toNat at0.toInt.toNat + 1)
              rw [sp_rm_rn (lh_ok hz9 y4), ← hcl] at e509
              have p512 := p508.1
              have c513 := (o511 ro n_ro_m).trans c498
              obtain ⟨⟨c514, l515, f516, f517, f518, f519, f520⟩, f521, -, c522, -, -, a523, a524⟩ := p512
              have f525 := (k510 4 (by decide)).trans f494
              have f526 := (k510 19 (by decide)).trans f495
              have c527 := (o511 le n_le_m).trans c497
              show ww l D tys A X fr lo mX11_readRope Q 167 [(3, .int v476), (7, .int ka30), (6, .int wa31), (5, .int v5), (4, .int more), (2, .int row), (1, .int p), (0, .ref m)] [.int v507] h503
              refine w_istore [(7, .int v507), (3, .int v476), (6, .int wa31), (5, .int v5), (4, .int more), (2, .int row), (1, .int p), (0, .ref m)] rfl (Nat.le_of_ble_eq_true rfl) (tX11_readRope_1_ok (167, .istore 7, 2) (List.mem_of_getElem? (i := 31) rfl)) ?_
              refine w_aload_n (List.Mem.tail _ (List.Mem.tail _ (List.Mem.tail _ (List.Mem.tail _ (List.Mem.tail _ (List.Mem.tail _ (List.Mem.tail _ (List.Mem.head _)))))))) (tX11_readRope_1_ok (169, .aload_n 0, 1) (List.mem_of_getElem? (i := 32) rfl)) ?_
              refine w_get (own := 16) rfl rfl (by decide) c514 f520 (tX11_readRope_1_ok (170, .getfield 118, 3) (List.mem_of_getElem? (i := 33) rfl)) ?_
              refine w_iconst (by decide) (tX11_readRope_1_ok (173, .iconst (-1), 1) (List.mem_of_getElem? (i := 34) rfl)) (fun v528 e529 => ?_)
              refine w_icmp_eq (tgt := 178) (tX11_readRope_1_ok (174, .if_icmp .eq 4, 3) (List.mem_of_getElem? (i := 35) rfl)) rfl (fun b530 => ?_) (fun b530 => ?_)
              · have y0 : fl506.toInt = -1 := by omega
                have hu := e509.2 y0
                obtain ⟨q9, q8, q7⟩ := sp_is.inr e509.1 y0
                have hok := sp_rn_ok q8
                rw [hcl] at hok
                have hlh := (lh_ok (r := p.toInt.toNat) hz9 y4).mpr hok
                rw [← hu] at hlh y4
                have hL20 := hTD p.toInt.toNat (by omega) 1 (by decide)
                have hi54 : 54 + 9 * p.toInt.toNat = row.toInt.toNat := by omega
                rw [hi54] at hL20
                have hL21 : (R (row.toInt.toNat + 1)).toInt ≤ 20 := hL20.2
                have htd := lh_td (X := 0) hz9 y4 hL21 hw8 hlh.2
                clear hL20
                refine w_aload_n (List.Mem.tail _ (List.Mem.tail _ (List.Mem.tail _ (List.Mem.tail _ (List.Mem.tail _ (List.Mem.tail _ (List.Mem.tail _ (List.Mem.head _)))))))) (tX11_readRope_1_ok (178, .aload_n 0, 1) (List.mem_of_getElem? (i := 37) rfl)) ?_
                refine w_get (own := 16) rfl rfl (by decide) c514 f526 (tX11_readRope_1_ok (179, .getfield 42, 3) (List.mem_of_getElem? (i := 38) rfl)) ?_
                refine w_iload_n (List.Mem.tail _ (List.Mem.tail _ (List.Mem.tail _ (List.Mem.tail _ (List.Mem.tail _ (List.Mem.head _)))))) (tX11_readRope_1_ok (182, .iload_n 2, 1) (List.mem_of_getElem? (i := 39) rfl)) ?_
                refine w_iload (List.Mem.tail _ (List.Mem.tail _ (List.Mem.head _))) (tX11_readRope_1_ok (183, .iload 6, 2) (List.mem_of_getElem? (i := 40) rfl)) ?_
                refine w_iadd (by omega) (by omega) (tX11_readRope_1_ok (185, .iadd, 1) (List.mem_of_getElem? (i := 41) rfl)) (fun v531 e532 => ?_)
                refine w_iload (List.Mem.head _) (tX11_readRope_1_ok (186, .iload 7, 2) (List.mem_of_getElem? (i := 42) rfl)) ?_
                refine w_iast hT c513 (by omega) (by omega) (tX11_readRope_1_ok (188, .iastore, 1) (List.mem_of_getElem? (i := 43) rfl)) (fun h533 c534 o535 => ?_)
                have c536 := (o535 m n_m_ro).trans c514
                have c537 := (o535 tx n_tx_ro).trans c522
                have c538 := (o535 le n_le_ro).trans c527
                have hix : v531.toInt.toNat = row.toInt.toNat + wz := by omega
                have c_ro2 := c534
                rw [hix] at c_ro2
                have hTD2 := td_upd hTD (r := p.toInt.toNat) (w := wz) (j := row.toInt.toNat + wz) (x := v507) (by omega) hz9 (by omega) htd
                have hro9 : ∀ i, i < row.toInt.toNat → upd R (row.toInt.toNat + wz) v507 i = R i := fun i hi => upd_n R _ (by omega)
                have k0 := kv_upd (R := R) (row := row.toInt.toNat) (x := v507) (w := wz) (z := 0) (c0 := 107) (by decide) hz9 rfl
                have k1 := kv_upd (R := R) (row := row.toInt.toNat) (x := v507) (w := wz) (z := 1) (c0 := 108) (by decide) hz9 rfl
                have k2 := kv_upd (R := R) (row := row.toInt.toNat) (x := v507) (w := wz) (z := 2) (c0 := 120) (by decide) hz9 rfl
                rw [hu, ← hcl] at k0 k1 k2
                rw [Nat.add_zero] at k0
                have y3 := sp_rp_go (j := j - 1) (t := tn) rfl rfl hnb q8 k0 k1 k2
                have b0 := hTD2 p.toInt.toNat (by omega) 1 (by decide)
                have b1 := hTD2 p.toInt.toNat (by omega) 2 (by decide)
                rw [show 54 + 9 * p.toInt.toNat = row.toInt.toNat by omega] at b0 b1
                have b2 : 0 ≤ (upd R (row.toInt.toNat + wz) v507 (row.toInt.toNat + 1)).toInt ∧ (upd R (row.toInt.toNat + wz) v507 (row.toInt.toNat + 1)).toInt ≤ 20 := b0
                have b3 : 0 ≤ (upd R (row.toInt.toNat + wz) v507 (row.toInt.toNat + 2)).toInt ∧ (upd R (row.toInt.toNat + wz) v507 (row.toInt.toNat + 2)).toInt ≤ 20 := b1
                clear b0 b1 k0 k1 k2 hok hlh htd
                have hx9 : p.toInt = 0 → (upd R (row.toInt.toNat + wz) v507 62).toInt = -1 := fun hp0 => by rw [upd_n R _ (by omega)]; exact h62 hp0
                refine w_aload_n (List.Mem.tail _ (List.Mem.tail _ (List.Mem.tail _ (List.Mem.tail _ (List.Mem.tail _ (List.Mem.tail _ (List.Mem.tail _ (List.Mem.head _)))))))) (tX11_readRope_1_ok (189, .aload_n 0, 1) (List.mem_of_getElem? (i := 44) rfl)) ?_
                refine w_callV (own := 16) (mi := 212) [] [] [(0, .ref m)] rfl (cllw_X11 (128, 0, 212) (List.mem_of_getElem? (i := 7) rfl)) rfl rfl c536 rfl hr1 (w_lo (n := 20) rfl (Nat.le_trans (Nat.le_of_ble_eq_true rfl) hr2)) (Nat.le_of_ble_eq_true rfl) (Nat.le_of_ble_eq_true rfl) rfl (tX11_readRope_1_ok (190, .invokevirtual 128, 3) (List.mem_of_getElem? (i := 45) rfl)) (r_look hT ⟨⟨c536, l515, f516, f517, f518, f519, f520⟩, f521, n_tx_m, c537, hs, hb, a523, a524⟩ (fun h539 fs540 at541 v542 p543 e544 e545 k546 o547 => ?_))
                obtain ⟨⟨c548, l549, f550, f551, f552, f553, f554⟩, f555, -, c556, -, -, a557, a558⟩ := p543
                have f559 := (k546 4 (by decide)).trans f525
                have f560 := (k546 19 (by decide)).trans f526
                have c561 := (o547 le n_le_m).trans c538
                show ww l D tys A X fr lo mX11_readRope Q 193 [(7, .int v507), (3, .int v476), (6, .int wa31), (5, .int v5), (4, .int more), (2, .int row), (1, .int p), (0, .ref m)] [.int v542] h539
                have c562 := (o547 ro n_ro_m).trans c_ro2
                have y6 : sp_sk f en.toInt.toNat q9 = sp_sk f en.toInt.toNat at505.toInt.toNat := by congr 1; omega
                have hst9 : at541.toInt.toNat = sp_sk f en.toInt.toNat at505.toInt.toNat := e544
                refine w_bipush (by decide) (tX11_readRope_1_ok (193, .bipush 44, 2) (List.mem_of_getElem? (i := 46) rfl)) (fun v563 e564 => ?_)
                refine w_icmp_ne (tgt := 202) (tX11_readRope_1_ok (195, .if_icmp .ne 7, 3) (List.mem_of_getElem? (i := 47) rfl)) rfl (fun b565 => ?_) (fun b565 => ?_)
                · have g566 : ¬ sp_sg f en.toInt.toNat (sp_sk f en.toInt.toNat at505.toInt.toNat) = 44 := by omega
                  clear e545 b565
                  refine w_iconst (by decide) (tX11_readRope_1_ok (202, .iconst 0, 1) (List.mem_of_getElem? (i := 50) rfl)) (fun v567 e568 => ?_)
                  refine w_istore [(4, .int v567), (7, .int v507), (3, .int v476), (6, .int wa31), (5, .int v5), (2, .int row), (1, .int p), (0, .ref m)] rfl (Nat.le_of_ble_eq_true rfl) (tX11_readRope_1_ok (203, .istore 4, 2) (List.mem_of_getElem? (i := 51) rfl)) ?_
                  refine w_iload (List.Mem.head _) (tX11_readRope_1_ok (205, .iload 4, 2) (List.mem_of_getElem? (i := 52) rfl)) ?_
                  refine w_if_eq (tgt := 220) (tX11_readRope_1_ok (207, .ifCond .eq 13, 3) (List.mem_of_getElem? (i := 53) rfl)) rfl (fun b569 => ?_) (fun b569 => ?_)
                  · refine w_goto (tgt := 39) (tX11_readRope_2_ok (220, .goto (-181), 3) (List.mem_of_getElem? (i := 0) rfl)) rfl ?_
                    refine w_iload (List.Mem.head _) (tX11_readRope_0_ok (39, .iload 4, 2) (List.mem_of_getElem? (i := 25) rfl)) ?_
                    refine w_if_eq (tgt := 223) (tX11_readRope_0_ok (41, .ifCond .eq 182, 3) (List.mem_of_getElem? (i := 26) rfl)) rfl (fun b570 => ?_) (fun b570 => ?_)
                    · refine w_aload_n (List.Mem.tail _ (List.Mem.tail _ (List.Mem.tail _ (List.Mem.tail _ (List.Mem.tail _ (List.Mem.tail _ (List.Mem.tail _ (List.Mem.head _)))))))) (tX11_readRope_2_ok (223, .aload_n 0, 1) (List.mem_of_getElem? (i := 1) rfl)) ?_
                      refine w_get (own := 16) rfl rfl (by decide) c548 f560 (tX11_readRope_2_ok (224, .getfield 42, 3) (List.mem_of_getElem? (i := 2) rfl)) ?_
                      refine w_iload_n (List.Mem.tail _ (List.Mem.tail _ (List.Mem.tail _ (List.Mem.tail _ (List.Mem.tail _ (List.Mem.head _)))))) (tX11_readRope_2_ok (227, .iload_n 2, 1) (List.mem_of_getElem? (i := 3) rfl)) ?_
                      refine w_iconst (by decide) (tX11_readRope_2_ok (228, .iconst 0, 1) (List.mem_of_getElem? (i := 4) rfl)) (fun v571 e572 => ?_)
                      refine w_iadd (by omega) (by omega) (tX11_readRope_2_ok (229, .iadd, 1) (List.mem_of_getElem? (i := 5) rfl)) (fun v573 e574 => ?_)
                      refine w_iald hT c562 (by omega) (by omega) (tX11_readRope_2_ok (230, .iaload, 1) (List.mem_of_getElem? (i := 6) rfl)) (fun v575 e576 => ?_)
                      have i577 : v573.toInt.toNat = row.toInt.toNat := by omega
                      rw [i577] at e576
                      refine w_iconst (by decide) (tX11_readRope_2_ok (231, .iconst 1, 1) (List.mem_of_getElem? (i := 7) rfl)) (fun v578 e579 => ?_)
                      refine w_icmp_ne (tgt := 267) (tX11_readRope_2_ok (232, .if_icmp .ne 35, 3) (List.mem_of_getElem? (i := 8) rfl)) rfl (fun b580 => ?_) (fun b580 => ?_)
                      · refine w_iconst (by decide) (tX11_readRope_2_ok (267, .iconst 0, 1) (List.mem_of_getElem? (i := 31) rfl)) (fun v581 e582 => ?_)
                        refine w_istore [(5, .int v581), (4, .int v567), (7, .int v507), (3, .int v476), (6, .int wa31), (2, .int row), (1, .int p), (0, .ref m)] rfl (Nat.le_of_ble_eq_true rfl) (tX11_readRope_2_ok (268, .istore 5, 2) (List.mem_of_getElem? (i := 32) rfl)) ?_
                        have hodd : ¬ (sp_odd ((upd R (row.toInt.toNat + wz) v507) (row.toInt.toNat)).toInt ((upd R (row.toInt.toNat + wz) v507) (row.toInt.toNat + 1)).toInt ((upd R (row.toInt.toNat + wz) v507) (row.toInt.toNat + 2)).toInt) := by omega
                        refine w_iload (List.Mem.head _) (tX11_readRope_2_ok (270, .iload 5, 2) (List.mem_of_getElem? (i := 33) rfl)) ?_
                        refine w_if_eq (tgt := 297) (tX11_readRope_2_ok (272, .ifCond .eq 25, 3) (List.mem_of_getElem? (i := 34) rfl)) rfl (fun b583 => ?_) (fun b583 => ?_)
                        · refine w_vret rfl (tX11_readRope_2_ok (297, .return_, 1) (List.mem_of_getElem? (i := 46) rfl)) ?_
                          refine hq h539 fs540 at541 fl506 _ ⟨⟨⟨⟨c548, l549, f550, f551, f552, f553, f554⟩, f555, n_tx_m, c556, hs, hb, a557, a558⟩, f559, n_le_m, _, c561⟩, f560, n_ro_m, n_m_ro, n_ro_tx, n_tx_ro, n_le_ro, n_ro_le, c562, hTD2⟩ ?_ (fun _ => hx9) hro9 (fun j hj => (k546 j hj).trans ((k510 j hj).trans ((j488 j hj.1).trans (k9 j hj)))) (fun q hq => (o547 q hq.1).trans ((o535 q hq.2).trans ((o511 q hq.1).trans ((o484 q hq.1).trans (o10 q hq.1)))))
                          rw [j9, y3]
                          unfold sp_re
                          rw [y6, if_neg (by omega)]
                          by_cases c9 : ¬ sp_sg f en.toInt.toNat (sp_sk f en.toInt.toNat at505.toInt.toNat) = 59 ∧ ¬ sp_sg f en.toInt.toNat (sp_sk f en.toInt.toNat at505.toInt.toNat) = 0
                          · rw [if_pos (Or.inl c9)]
                            refine Or.inr ⟨by omega, ?_, ?_, ?_⟩
                            · congr 1; omega
                            · rw [e544, sp_sk_sk]
                            · rw [e544]; exact c9
                          · rw [if_neg (fun q => q.elim c9 hodd)]
                            exact Or.inl ⟨by omega, by omega⟩
                        · exfalso; omega
                      · refine w_aload_n (List.Mem.tail _ (List.Mem.tail _ (List.Mem.tail _ (List.Mem.tail _ (List.Mem.tail _ (List.Mem.tail _ (List.Mem.tail _ (List.Mem.head _)))))))) (tX11_readRope_2_ok (235, .aload_n 0, 1) (List.mem_of_getElem? (i := 9) rfl)) ?_
                        refine w_get (own := 16) rfl rfl (by decide) c548 f560 (tX11_readRope_2_ok (236, .getfield 42, 3) (List.mem_of_getElem? (i := 10) rfl)) ?_
                        refine w_iload_n (List.Mem.tail _ (List.Mem.tail _ (List.Mem.tail _ (List.Mem.tail _ (List.Mem.tail _ (List.Mem.head _)))))) (tX11_readRope_2_ok (239, .iload_n 2, 1) (List.mem_of_getElem? (i := 11) rfl)) ?_
                        refine w_iconst (by decide) (tX11_readRope_2_ok (240, .iconst 1, 1) (List.mem_of_getElem? (i := 12) rfl)) (fun v584 e585 => ?_)
                        refine w_iadd (by omega) (by omega) (tX11_readRope_2_ok (241, .iadd, 1) (List.mem_of_getElem? (i := 13) rfl)) (fun v586 e587 => ?_)
                        refine w_iald hT c562 (by omega) (by omega) (tX11_readRope_2_ok (242, .iaload, 1) (List.mem_of_getElem? (i := 14) rfl)) (fun v588 e589 => ?_)
                        have i590 : v586.toInt.toNat = row.toInt.toNat + 1 := by omega
                        rw [i590] at e589
                        refine w_iconst (by decide) (tX11_readRope_2_ok (243, .iconst 2, 1) (List.mem_of_getElem? (i := 15) rfl)) (fun v591 e592 => ?_)
                        refine w_irem2 (by omega) (by omega) (tX11_readRope_2_ok (244, .irem, 1) (List.mem_of_getElem? (i := 16) rfl)) (fun v593 e594 => ?_)
                        refine w_iconst (by decide) (tX11_readRope_2_ok (245, .iconst 1, 1) (List.mem_of_getElem? (i := 17) rfl)) (fun v595 e596 => ?_)
                        refine w_icmp_eq (tgt := 263) (tX11_readRope_2_ok (246, .if_icmp .eq 17, 3) (List.mem_of_getElem? (i := 18) rfl)) rfl (fun b597 => ?_) (fun b597 => ?_)
                        · refine w_iconst (by decide) (tX11_readRope_2_ok (263, .iconst 1, 1) (List.mem_of_getElem? (i := 29) rfl)) (fun v598 e599 => ?_)
                          refine w_goto (tgt := 268) (tX11_readRope_2_ok (264, .goto 4, 3) (List.mem_of_getElem? (i := 30) rfl)) rfl ?_
                          refine w_istore [(5, .int v598), (4, .int v567), (7, .int v507), (3, .int v476), (6, .int wa31), (2, .int row), (1, .int p), (0, .ref m)] rfl (Nat.le_of_ble_eq_true rfl) (tX11_readRope_2_ok (268, .istore 5, 2) (List.mem_of_getElem? (i := 32) rfl)) ?_
                          have hodd : sp_odd ((upd R (row.toInt.toNat + wz) v507) (row.toInt.toNat)).toInt ((upd R (row.toInt.toNat + wz) v507) (row.toInt.toNat + 1)).toInt ((upd R (row.toInt.toNat + wz) v507) (row.toInt.toNat + 2)).toInt := by omega
                          refine w_iload (List.Mem.head _) (tX11_readRope_2_ok (270, .iload 5, 2) (List.mem_of_getElem? (i := 33) rfl)) ?_
                          refine w_if_eq (tgt := 297) (tX11_readRope_2_ok (272, .ifCond .eq 25, 3) (List.mem_of_getElem? (i := 34) rfl)) rfl (fun b600 => ?_) (fun b600 => ?_)
                          · exfalso; omega
                          · refine w_aload_n (List.Mem.tail _ (List.Mem.tail _ (List.Mem.tail _ (List.Mem.tail _ (List.Mem.tail _ (List.Mem.tail _ (List.Mem.tail _ (List.Mem.head _)))))))) (tX11_readRope_2_ok (275, .aload_n 0, 1) (List.mem_of_getElem? (i := 35) rfl)) ?_
                            refine w_callV (own := 16) (mi := 212) [] [] [(0, .ref m)] rfl (cllw_X11 (128, 0, 212) (List.mem_of_getElem? (i := 7) rfl)) rfl rfl c548 rfl hr1 (w_lo (n := 20) rfl (Nat.le_trans (Nat.le_of_ble_eq_true rfl) hr2)) (Nat.le_of_ble_eq_true rfl) (Nat.le_of_ble_eq_true rfl) rfl (tX11_readRope_2_ok (276, .invokevirtual 128, 3) (List.mem_of_getElem? (i := 36) rfl)) (r_look hT ⟨⟨c548, l549, f550, f551, f552, f553, f554⟩, f555, n_tx_m, c556, hs, hb, a557, a558⟩ (fun h601 fs602 at603 v604 p605 e606 e607 k608 o609 => ?_))
                            obtain ⟨⟨c610, l611, f612, f613, f614, f615, f616⟩, f617, -, c618, -, -, a619, a620⟩ := p605
                            have f621 := (k608 4 (by decide)).trans f559
                            have f622 := (k608 19 (by decide)).trans f560
                            have c623 := (o609 le n_le_m).trans c561
                            rw [e544, sp_sk_sk] at e606 e607
                            show ww l D tys A X fr lo mX11_readRope Q 279 [(5, .int v598), (4, .int v567), (7, .int v507), (3, .int v476), (6, .int wa31), (2, .int row), (1, .int p), (0, .ref m)] [.int v604] h601
                            have c624 := (o609 ro n_ro_m).trans c562
                            refine w_bipush (by decide) (tX11_readRope_2_ok (279, .bipush 59, 2) (List.mem_of_getElem? (i := 37) rfl)) (fun v625 e626 => ?_)
                            refine w_icmp_eq (tgt := 292) (tX11_readRope_2_ok (281, .if_icmp .eq 11, 3) (List.mem_of_getElem? (i := 38) rfl)) rfl (fun b627 => ?_) (fun b627 => ?_)
                            · have g628 : sp_sg f en.toInt.toNat (sp_sk f en.toInt.toNat at505.toInt.toNat) = 59 ∧ at603.toInt < en.toInt ∧ v604.toInt = 59 := by omega
                              clear e607 b627
                              refine w_aload_n (List.Mem.tail _ (List.Mem.tail _ (List.Mem.tail _ (List.Mem.tail _ (List.Mem.tail _ (List.Mem.tail _ (List.Mem.tail _ (List.Mem.head _)))))))) (tX11_readRope_2_ok (292, .aload_n 0, 1) (List.mem_of_getElem? (i := 43) rfl)) ?_
                              refine w_callV (own := 16) (mi := 180) [] [] [(0, .ref m)] rfl (cllw_X11 (124, 0, 180) (List.mem_of_getElem? (i := 11) rfl)) rfl rfl c610 rfl hr1 (w_lo (n := 20) rfl (Nat.le_trans (Nat.le_of_ble_eq_true rfl) hr2)) (Nat.le_of_ble_eq_true rfl) (Nat.le_of_ble_eq_true rfl) rfl (tX11_readRope_2_ok (293, .invokevirtual 124, 3) (List.mem_of_getElem? (i := 44) rfl)) (r_fail ⟨⟨c610, l611, f612, f613, f614, f615, f616⟩, f617, n_tx_m, c618, hs, hb, a619, a620⟩ (fun h629 fs630 fl631 v632 p633 e634 e635 k636 o637 => ?_))
                              obtain ⟨⟨c638, l639, f640, f641, f642, f643, f644⟩, f645, -, c646, -, -, a647, a648⟩ := p633
                              have f649 := (k636 4 (by decide)).trans f621
                              have f650 := (k636 19 (by decide)).trans f622
                              have c651 := (o637 le n_le_m).trans c623
                              show ww l D tys A X fr lo mX11_readRope Q 296 [(5, .int v598), (4, .int v567), (7, .int v507), (3, .int v476), (6, .int wa31), (2, .int row), (1, .int p), (0, .ref m)] [.int v632] h629
                              have c652 := (o637 ro n_ro_m).trans c624
                              refine w_pop rfl (tX11_readRope_2_ok (296, .pop, 1) (List.mem_of_getElem? (i := 45) rfl)) ?_
                              refine w_vret rfl (tX11_readRope_2_ok (297, .return_, 1) (List.mem_of_getElem? (i := 46) rfl)) ?_
                              refine hq h629 fs630 at603 fl631 _ ⟨⟨⟨⟨c638, l639, f640, f641, f642, f643, f644⟩, f645, n_tx_m, c646, hs, hb, a647, a648⟩, f649, n_le_m, _, c651⟩, f650, n_ro_m, n_m_ro, n_ro_tx, n_tx_ro, n_le_ro, n_ro_le, c652, hTD2⟩ ?_ (fun _ => hx9) hro9 (fun j hj => (k636 j hj).trans ((k608 j hj).trans ((k546 j hj).trans ((k510 j hj).trans ((j488 j hj.1).trans (k9 j hj)))))) (fun q hq => (o637 q hq.1).trans ((o609 q hq.1).trans ((o547 q hq.1).trans ((o535 q hq.2).trans ((o511 q hq.1).trans ((o484 q hq.1).trans (o10 q hq.1)))))))
                              rw [j9, y3]
                              unfold sp_re
                              rw [y6, if_neg (by omega)]
                              rw [if_pos (Or.inr hodd)]
                              exact Or.inl (by show _ = _; omega)
                            · have g653 : ¬ sp_sg f en.toInt.toNat (sp_sk f en.toInt.toNat at505.toInt.toNat) = 59 := by omega
                              clear e607 b627
                              refine w_aload_n (List.Mem.tail _ (List.Mem.tail _ (List.Mem.tail _ (List.Mem.tail _ (List.Mem.tail _ (List.Mem.tail _ (List.Mem.tail _ (List.Mem.head _)))))))) (tX11_readRope_2_ok (284, .aload_n 0, 1) (List.mem_of_getElem? (i := 39) rfl)) ?_
                              refine w_callV (own := 16) (mi := 212) [] [] [(0, .ref m)] rfl (cllw_X11 (128, 0, 212) (List.mem_of_getElem? (i := 7) rfl)) rfl rfl c610 rfl hr1 (w_lo (n := 20) rfl (Nat.le_trans (Nat.le_of_ble_eq_true rfl) hr2)) (Nat.le_of_ble_eq_true rfl) (Nat.le_of_ble_eq_true rfl) rfl (tX11_readRope_2_ok (285, .invokevirtual 128, 3) (List.mem_of_getElem? (i := 40) rfl)) (r_look hT ⟨⟨c610, l611, f612, f613, f614, f615, f616⟩, f617, n_tx_m, c618, hs, hb, a619, a620⟩ (fun h654 fs655 at656 v657 p658 e659 e660 k661 o662 => ?_))
                              obtain ⟨⟨c663, l664, f665, f666, f667, f668, f669⟩, f670, -, c671, -, -, a672, a673⟩ := p658
                              have f674 := (k661 4 (by decide)).trans f621
                              have f675 := (k661 19 (by decide)).trans f622
                              have c676 := (o662 le n_le_m).trans c623
                              rw [e606, sp_sk_sk] at e659 e660
                              show ww l D tys A X fr lo mX11_readRope Q 288 [(5, .int v598), (4, .int v567), (7, .int v507), (3, .int v476), (6, .int wa31), (2, .int row), (1, .int p), (0, .ref m)] [.int v657] h654
                              have c677 := (o662 ro n_ro_m).trans c624
                              refine w_iconst (by decide) (tX11_readRope_2_ok (288, .iconst (-1), 1) (List.mem_of_getElem? (i := 41) rfl)) (fun v678 e679 => ?_)
                              refine w_icmp_ne (tgt := 297) (tX11_readRope_2_ok (289, .if_icmp .ne 8, 3) (List.mem_of_getElem? (i := 42) rfl)) rfl (fun b680 => ?_) (fun b680 => ?_)
                              · refine w_vret rfl (tX11_readRope_2_ok (297, .return_, 1) (List.mem_of_getElem? (i := 46) rfl)) ?_
                                have z5 := hnz (sp_sk f en.toInt.toNat at505.toInt.toNat) (by omega)
                                have z6 : sp_sg f en.toInt.toNat (sp_sk f en.toInt.toNat at505.toInt.toNat) = (f (sp_sk f en.toInt.toNat at505.toInt.toNat)).toInt := by unfold sp_sg; rw [if_pos (by omega)]
                                refine hq h654 fs655 at656 fl506 _ ⟨⟨⟨⟨c663, l664, f665, f666, f667, f668, f669⟩, f670, n_tx_m, c671, hs, hb, a672, a673⟩, f674, n_le_m, _, c676⟩, f675, n_ro_m, n_m_ro, n_ro_tx, n_tx_ro, n_le_ro, n_ro_le, c677, hTD2⟩ ?_ (fun _ => hx9) hro9 (fun j hj => (k661 j hj).trans ((k608 j hj).trans ((k546 j hj).trans ((k510 j hj).trans ((j488 j hj.1).trans (k9 j hj)))))) (fun q hq => (o662 q hq.1).trans ((o609 q hq.1).trans ((o547 q hq.1).trans ((o535 q hq.2).trans ((o511 q hq.1).trans ((o484 q hq.1).trans (o10 q hq.1)))))))
                                rw [j9, y3]
                                unfold sp_re
                                rw [y6, if_neg (by omega)]
                                rw [if_pos (Or.inr hodd)]
                                refine Or.inr ⟨by omega, ?_, ?_, ?_⟩
                                · congr 1; omega
                                · rw [e659, sp_sk_sk]
                                · rw [e659]; exact ⟨by omega, by omega⟩
                              · refine w_aload_n (List.Mem.tail _ (List.Mem.tail _ (List.Mem.tail _ (List.Mem.tail _ (List.Mem.tail _ (List.Mem.tail _ (List.Mem.tail _ (List.Mem.head _)))))))) (tX11_readRope_2_ok (292, .aload_n 0, 1) (List.mem_of_getElem? (i := 43) rfl)) ?_
                                refine w_callV (own := 16) (mi := 180) [] [] [(0, .ref m)] rfl (cllw_X11 (124, 0, 180) (List.mem_of_getElem? (i := 11) rfl)) rfl rfl c663 rfl hr1 (w_lo (n := 20) rfl (Nat.le_trans (Nat.le_of_ble_eq_true rfl) hr2)) (Nat.le_of_ble_eq_true rfl) (Nat.le_of_ble_eq_true rfl) rfl (tX11_readRope_2_ok (293, .invokevirtual 124, 3) (List.mem_of_getElem? (i := 44) rfl)) (r_fail ⟨⟨c663, l664, f665, f666, f667, f668, f669⟩, f670, n_tx_m, c671, hs, hb, a672, a673⟩ (fun h681 fs682 fl683 v684 p685 e686 e687 k688 o689 => ?_))
                                obtain ⟨⟨c690, l691, f692, f693, f694, f695, f696⟩, f697, -, c698, -, -, a699, a700⟩ := p685
                                have f701 := (k688 4 (by decide)).trans f674
                                have f702 := (k688 19 (by decide)).trans f675
                                have c703 := (o689 le n_le_m).trans c676
                                show ww l D tys A X fr lo mX11_readRope Q 296 [(5, .int v598), (4, .int v567), (7, .int v507), (3, .int v476), (6, .int wa31), (2, .int row), (1, .int p), (0, .ref m)] [.int v684] h681
                                have c704 := (o689 ro n_ro_m).trans c677
                                refine w_pop rfl (tX11_readRope_2_ok (296, .pop, 1) (List.mem_of_getElem? (i := 45) rfl)) ?_
                                refine w_vret rfl (tX11_readRope_2_ok (297, .return_, 1) (List.mem_of_getElem? (i := 46) rfl)) ?_
                                refine hq h681 fs682 at656 fl683 _ ⟨⟨⟨⟨c690, l691, f692, f693, f694, f695, f696⟩, f697, n_tx_m, c698, hs, hb, a699, a700⟩, f701, n_le_m, _, c703⟩, f702, n_ro_m, n_m_ro, n_ro_tx, n_tx_ro, n_le_ro, n_ro_le, c704, hTD2⟩ ?_ (fun _ => hx9) hro9 (fun j hj => (k688 j hj).trans ((k661 j hj).trans ((k608 j hj).trans ((k546 j hj).trans ((k510 j hj).trans ((j488 j hj.1).trans (k9 j hj))))))) (fun q hq => (o689 q hq.1).trans ((o662 q hq.1).trans ((o609 q hq.1).trans ((o547 q hq.1).trans ((o535 q hq.2).trans ((o511 q hq.1).trans ((o484 q hq.1).trans (o10 q hq.1))))))))
                                rw [j9, y3]
                                unfold sp_re
                                rw [y6, if_neg (by omega)]
                                rw [if_pos (Or.inr hodd)]
                                exact Or.inl (by show _ = _; omega)
                        · refine w_aload_n (List.Mem.tail _ (List.Mem.tail _ (List.Mem.tail _ (List.Mem.tail _ (List.Mem.tail _ (List.Mem.tail _ (List.Mem.tail _ (List.Mem.head _)))))))) (tX11_readRope_2_ok (249, .aload_n 0, 1) (List.mem_of_getElem? (i := 19) rfl)) ?_
                          refine w_get (own := 16) rfl rfl (by decide) c548 f560 (tX11_readRope_2_ok (250, .getfield 42, 3) (List.mem_of_getElem? (i := 20) rfl)) ?_
                          refine w_iload_n (List.Mem.tail _ (List.Mem.tail _ (List.Mem.tail _ (List.Mem.tail _ (List.Mem.tail _ (List.Mem.head _)))))) (tX11_readRope_2_ok (253, .iload_n 2, 1) (List.mem_of_getElem? (i := 21) rfl)) ?_
                          refine w_iconst (by decide) (tX11_readRope_2_ok (254, .iconst 2, 1) (List.mem_of_getElem? (i := 22) rfl)) (fun v705 e706 => ?_)
                          refine w_iadd (by omega) (by omega) (tX11_readRope_2_ok (255, .iadd, 1) (List.mem_of_getElem? (i := 23) rfl)) (fun v707 e708 => ?_)
                          refine w_iald hT c562 (by omega) (by omega) (tX11_readRope_2_ok (256, .iaload, 1) (List.mem_of_getElem? (i := 24) rfl)) (fun v709 e710 => ?_)
                          have i711 : v707.toInt.toNat = row.toInt.toNat + 2 := by omega
                          rw [i711] at e710
                          refine w_iconst (by decide) (tX11_readRope_2_ok (257, .iconst 2, 1) (List.mem_of_getElem? (i := 25) rfl)) (fun v712 e713 => ?_)
                          refine w_irem2 (by omega) (by omega) (tX11_readRope_2_ok (258, .irem, 1) (List.mem_of_getElem? (i := 26) rfl)) (fun v714 e715 => ?_)
                          refine w_iconst (by decide) (tX11_readRope_2_ok (259, .iconst 1, 1) (List.mem_of_getElem? (i := 27) rfl)) (fun v716 e717 => ?_)
                          refine w_icmp_ne (tgt := 267) (tX11_readRope_2_ok (260, .if_icmp .ne 7, 3) (List.mem_of_getElem? (i := 28) rfl)) rfl (fun b718 => ?_) (fun b718 => ?_)
                          · refine w_iconst (by decide) (tX11_readRope_2_ok (267, .iconst 0, 1) (List.mem_of_getElem? (i := 31) rfl)) (fun v719 e720 => ?_)
                            refine w_istore [(5, .int v719), (4, .int v567), (7, .int v507), (3, .int v476), (6, .int wa31), (2, .int row), (1, .int p), (0, .ref m)] rfl (Nat.le_of_ble_eq_true rfl) (tX11_readRope_2_ok (268, .istore 5, 2) (List.mem_of_getElem? (i := 32) rfl)) ?_
                            have hodd : ¬ (sp_odd ((upd R (row.toInt.toNat + wz) v507) (row.toInt.toNat)).toInt ((upd R (row.toInt.toNat + wz) v507) (row.toInt.toNat + 1)).toInt ((upd R (row.toInt.toNat + wz) v507) (row.toInt.toNat + 2)).toInt) := by omega
                            refine w_iload (List.Mem.head _) (tX11_readRope_2_ok (270, .iload 5, 2) (List.mem_of_getElem? (i := 33) rfl)) ?_
                            refine w_if_eq (tgt := 297) (tX11_readRope_2_ok (272, .ifCond .eq 25, 3) (List.mem_of_getElem? (i := 34) rfl)) rfl (fun b721 => ?_) (fun b721 => ?_)
                            · refine w_vret rfl (tX11_readRope_2_ok (297, .return_, 1) (List.mem_of_getElem? (i := 46) rfl)) ?_
                              refine hq h539 fs540 at541 fl506 _ ⟨⟨⟨⟨c548, l549, f550, f551, f552, f553, f554⟩, f555, n_tx_m, c556, hs, hb, a557, a558⟩, f559, n_le_m, _, c561⟩, f560, n_ro_m, n_m_ro, n_ro_tx, n_tx_ro, n_le_ro, n_ro_le, c562, hTD2⟩ ?_ (fun _ => hx9) hro9 (fun j hj => (k546 j hj).trans ((k510 j hj).trans ((j488 j hj.1).trans (k9 j hj)))) (fun q hq => (o547 q hq.1).trans ((o535 q hq.2).trans ((o511 q hq.1).trans ((o484 q hq.1).trans (o10 q hq.1)))))
                              rw [j9, y3]
                              unfold sp_re
                              rw [y6, if_neg (by omega)]
                              by_cases c9 : ¬ sp_sg f en.toInt.toNat (sp_sk f en.toInt.toNat at505.toInt.toNat) = 59 ∧ ¬ sp_sg f en.toInt.toNat (sp_sk f en.toInt.toNat at505.toInt.toNat) = 0
                              · rw [if_pos (Or.inl c9)]
                                refine Or.inr ⟨by omega, ?_, ?_, ?_⟩
                                · congr 1; omega
                                · rw [e544, sp_sk_sk]
                                · rw [e544]; exact c9
                              · rw [if_neg (fun q => q.elim c9 hodd)]
                                exact Or.inl ⟨by omega, by omega⟩
                            · exfalso; omega
                          · refine w_iconst (by decide) (tX11_readRope_2_ok (263, .iconst 1, 1) (List.mem_of_getElem? (i := 29) rfl)) (fun v722 e723 => ?_)
                            refine w_goto (tgt := 268) (tX11_readRope_2_ok (264, .goto 4, 3) (List.mem_of_getElem? (i := 30) rfl)) rfl ?_
                            refine w_istore [(5, .int v722), (4, .int v567), (7, .int v507), (3, .int v476), (6, .int wa31), (2, .int row), (1, .int p), (0, .ref m)] rfl (Nat.le_of_ble_eq_true rfl) (tX11_readRope_2_ok (268, .istore 5, 2) (List.mem_of_getElem? (i := 32) rfl)) ?_
                            have hodd : sp_odd ((upd R (row.toInt.toNat + wz) v507) (row.toInt.toNat)).toInt ((upd R (row.toInt.toNat + wz) v507) (row.toInt.toNat + 1)).toInt ((upd R (row.toInt.toNat + wz) v507) (row.toInt.toNat + 2)).toInt := by omega
                            refine w_iload (List.Mem.head _) (tX11_readRope_2_ok (270, .iload 5, 2) (List.mem_of_getElem? (i := 33) rfl)) ?_
                            refine w_if_eq (tgt := 297) (tX11_readRope_2_ok (272, .ifCond .eq 25, 3) (List.mem_of_getElem? (i := 34) rfl)) rfl (fun b724 => ?_) (fun b724 => ?_)
                            · exfalso; omega
                            · refine w_aload_n (List.Mem.tail _ (List.Mem.tail _ (List.Mem.tail _ (List.Mem.tail _ (List.Mem.tail _ (List.Mem.tail _ (List.Mem.tail _ (List.Mem.head _)))))))) (tX11_readRope_2_ok (275, .aload_n 0, 1) (List.mem_of_getElem? (i := 35) rfl)) ?_
                              refine w_callV (own := 16) (mi := 212) [] [] [(0, .ref m)] rfl (cllw_X11 (128, 0, 212) (List.mem_of_getElem? (i := 7) rfl)) rfl rfl c548 rfl hr1 (w_lo (n := 20) rfl (Nat.le_trans (Nat.le_of_ble_eq_true rfl) hr2)) (Nat.le_of_ble_eq_true rfl) (Nat.le_of_ble_eq_true rfl) rfl (tX11_readRope_2_ok (276, .invokevirtual 128, 3) (List.mem_of_getElem? (i := 36) rfl)) (r_look hT ⟨⟨c548, l549, f550, f551, f552, f553, f554⟩, f555, n_tx_m, c556, hs, hb, a557, a558⟩ (fun h725 fs726 at727 v728 p729 e730 e731 k732 o733 => ?_))
                              obtain ⟨⟨c734, l735, f736, f737, f738, f739, f740⟩, f741, -, c742, -, -, a743, a744⟩ := p729
                              have f745 := (k732 4 (by decide)).trans f559
                              have f746 := (k732 19 (by decide)).trans f560
                              have c747 := (o733 le n_le_m).trans c561
                              rw [e544, sp_sk_sk] at e730 e731
                              show ww l D tys A X fr lo mX11_readRope Q 279 [(5, .int v722), (4, .int v567), (7, .int v507), (3, .int v476), (6, .int wa31), (2, .int row), (1, .int p), (0, .ref m)] [.int v728] h725
                              have c748 := (o733 ro n_ro_m).trans c562
                              refine w_bipush (by decide) (tX11_readRope_2_ok (279, .bipush 59, 2) (List.mem_of_getElem? (i := 37) rfl)) (fun v749 e750 => ?_)
                              refine w_icmp_eq (tgt := 292) (tX11_readRope_2_ok (281, .if_icmp .eq 11, 3) (List.mem_of_getElem? (i := 38) rfl)) rfl (fun b751 => ?_) (fun b751 => ?_)
                              · have g752 : sp_sg f en.toInt.toNat (sp_sk f en.toInt.toNat at505.toInt.toNat) = 59 ∧ at727.toInt < en.toInt ∧ v728.toInt = 59 := by omega
                                clear e731 b751
                                refine w_aload_n (List.Mem.tail _ (List.Mem.tail _ (List.Mem.tail _ (List.Mem.tail _ (List.Mem.tail _ (List.Mem.tail _ (List.Mem.tail _ (List.Mem.head _)))))))) (tX11_readRope_2_ok (292, .aload_n 0, 1) (List.mem_of_getElem? (i := 43) rfl)) ?_
                                refine w_callV (own := 16) (mi := 180) [] [] [(0, .ref m)] rfl (cllw_X11 (124, 0, 180) (List.mem_of_getElem? (i := 11) rfl)) rfl rfl c734 rfl hr1 (w_lo (n := 20) rfl (Nat.le_trans (Nat.le_of_ble_eq_true rfl) hr2)) (Nat.le_of_ble_eq_true rfl) (Nat.le_of_ble_eq_true rfl) rfl (tX11_readRope_2_ok (293, .invokevirtual 124, 3) (List.mem_of_getElem? (i := 44) rfl)) (r_fail ⟨⟨c734, l735, f736, f737, f738, f739, f740⟩, f741, n_tx_m, c742, hs, hb, a743, a744⟩ (fun h753 fs754 fl755 v756 p757 e758 e759 k760 o761 => ?_))
                                obtain ⟨⟨c762, l763, f764, f765, f766, f767, f768⟩, f769, -, c770, -, -, a771, a772⟩ := p757
                                have f773 := (k760 4 (by decide)).trans f745
                                have f774 := (k760 19 (by decide)).trans f746
                                have c775 := (o761 le n_le_m).trans c747
                                show ww l D tys A X fr lo mX11_readRope Q 296 [(5, .int v722), (4, .int v567), (7, .int v507), (3, .int v476), (6, .int wa31), (2, .int row), (1, .int p), (0, .ref m)] [.int v756] h753
                                have c776 := (o761 ro n_ro_m).trans c748
                                refine w_pop rfl (tX11_readRope_2_ok (296, .pop, 1) (List.mem_of_getElem? (i := 45) rfl)) ?_
                                refine w_vret rfl (tX11_readRope_2_ok (297, .return_, 1) (List.mem_of_getElem? (i := 46) rfl)) ?_
                                refine hq h753 fs754 at727 fl755 _ ⟨⟨⟨⟨c762, l763, f764, f765, f766, f767, f768⟩, f769, n_tx_m, c770, hs, hb, a771, a772⟩, f773, n_le_m, _, c775⟩, f774, n_ro_m, n_m_ro, n_ro_tx, n_tx_ro, n_le_ro, n_ro_le, c776, hTD2⟩ ?_ (fun _ => hx9) hro9 (fun j hj => (k760 j hj).trans ((k732 j hj).trans ((k546 j hj).trans ((k510 j hj).trans ((j488 j hj.1).trans (k9 j hj)))))) (fun q hq => (o761 q hq.1).trans ((o733 q hq.1).trans ((o547 q hq.1).trans ((o535 q hq.2).trans ((o511 q hq.1).trans ((o484 q hq.1).trans (o10 q hq.1)))))))
                                rw [j9, y3]
                                unfold sp_re
                                rw [y6, if_neg (by omega)]
                                rw [if_pos (Or.inr hodd)]
                                exact Or.inl (by show _ = _; omega)
                              · have g777 : ¬ sp_sg f en.toInt.toNat (sp_sk f en.toInt.toNat at505.toInt.toNat) = 59 := by omega
                                clear e731 b751
                                refine w_aload_n (List.Mem.tail _ (List.Mem.tail _ (List.Mem.tail _ (List.Mem.tail _ (List.Mem.tail _ (List.Mem.tail _ (List.Mem.tail _ (List.Mem.head _)))))))) (tX11_readRope_2_ok (284, .aload_n 0, 1) (List.mem_of_getElem? (i := 39) rfl)) ?_
                                refine w_callV (own := 16) (mi := 212) [] [] [(0, .ref m)] rfl (cllw_X11 (128, 0, 212) (List.mem_of_getElem? (i := 7) rfl)) rfl rfl c734 rfl hr1 (w_lo (n := 20) rfl (Nat.le_trans (Nat.le_of_ble_eq_true rfl) hr2)) (Nat.le_of_ble_eq_true rfl) (Nat.le_of_ble_eq_true rfl) rfl (tX11_readRope_2_ok (285, .invokevirtual 128, 3) (List.mem_of_getElem? (i := 40) rfl)) (r_look hT ⟨⟨c734, l735, f736, f737, f738, f739, f740⟩, f741, n_tx_m, c742, hs, hb, a743, a744⟩ (fun h778 fs779 at780 v781 p782 e783 e784 k785 o786 => ?_))
                                obtain ⟨⟨c787, l788, f789, f790, f791, f792, f793⟩, f794, -, c795, -, -, a796, a797⟩ := p782
                                have f798 := (k785 4 (by decide)).trans f745
                                have f799 := (k785 19 (by decide)).trans f746
                                have c800 := (o786 le n_le_m).trans c747
                                rw [e730, sp_sk_sk] at e783 e784
                                show ww l D tys A X fr lo mX11_readRope Q 288 [(5, .int v722), (4, .int v567), (7, .int v507), (3, .int v476), (6, .int wa31), (2, .int row), (1, .int p), (0, .ref m)] [.int v781] h778
                                have c801 := (o786 ro n_ro_m).trans c748
                                refine w_iconst (by decide) (tX11_readRope_2_ok (288, .iconst (-1), 1) (List.mem_of_getElem? (i := 41) rfl)) (fun v802 e803 => ?_)
                                refine w_icmp_ne (tgt := 297) (tX11_readRope_2_ok (289, .if_icmp .ne 8, 3) (List.mem_of_getElem? (i := 42) rfl)) rfl (fun b804 => ?_) (fun b804 => ?_)
                                · refine w_vret rfl (tX11_readRope_2_ok (297, .return_, 1) (List.mem_of_getElem? (i := 46) rfl)) ?_
                                  have z5 := hnz (sp_sk f en.toInt.toNat at505.toInt.toNat) (by omega)
                                  have z6 : sp_sg f en.toInt.toNat (sp_sk f en.toInt.toNat at505.toInt.toNat) = (f (sp_sk f en.toInt.toNat at505.toInt.toNat)).toInt := by unfold sp_sg; rw [if_pos (by omega)]
                                  refine hq h778 fs779 at780 fl506 _ ⟨⟨⟨⟨c787, l788, f789, f790, f791, f792, f793⟩, f794, n_tx_m, c795, hs, hb, a796, a797⟩, f798, n_le_m, _, c800⟩, f799, n_ro_m, n_m_ro, n_ro_tx, n_tx_ro, n_le_ro, n_ro_le, c801, hTD2⟩ ?_ (fun _ => hx9) hro9 (fun j hj => (k785 j hj).trans ((k732 j hj).trans ((k546 j hj).trans ((k510 j hj).trans ((j488 j hj.1).trans (k9 j hj)))))) (fun q hq => (o786 q hq.1).trans ((o733 q hq.1).trans ((o547 q hq.1).trans ((o535 q hq.2).trans ((o511 q hq.1).trans ((o484 q hq.1).trans (o10 q hq.1)))))))
                                  rw [j9, y3]
                                  unfold sp_re
                                  rw [y6, if_neg (by omega)]
                                  rw [if_pos (Or.inr hodd)]
                                  refine Or.inr ⟨by omega, ?_, ?_, ?_⟩
                                  · congr 1; omega
                                  · rw [e783, sp_sk_sk]
                                  · rw [e783]; exact ⟨by omega, by omega⟩
                                · refine w_aload_n (List.Mem.tail _ (List.Mem.tail _ (List.Mem.tail _ (List.Mem.tail _ (List.Mem.tail _ (List.Mem.tail _ (List.Mem.tail _ (List.Mem.head _)))))))) (tX11_readRope_2_ok (292, .aload_n 0, 1) (List.mem_of_getElem? (i := 43) rfl)) ?_
                                  refine w_callV (own := 16) (mi := 180) [] [] [(0, .ref m)] rfl (cllw_X11 (124, 0, 180) (List.mem_of_getElem? (i := 11) rfl)) rfl rfl c787 rfl hr1 (w_lo (n := 20) rfl (Nat.le_trans (Nat.le_of_ble_eq_true rfl) hr2)) (Nat.le_of_ble_eq_true rfl) (Nat.le_of_ble_eq_true rfl) rfl (tX11_readRope_2_ok (293, .invokevirtual 124, 3) (List.mem_of_getElem? (i := 44) rfl)) (r_fail ⟨⟨c787, l788, f789, f790, f791, f792, f793⟩, f794, n_tx_m, c795, hs, hb, a796, a797⟩ (fun h805 fs806 fl807 v808 p809 e810 e811 k812 o813 => ?_))
                                  obtain ⟨⟨c814, l815, f816, f817, f818, f819, f820⟩, f821, -, c822, -, -, a823, a824⟩ := p809
                                  have f825 := (k812 4 (by decide)).trans f798
                                  have f826 := (k812 19 (by decide)).trans f799
                                  have c827 := (o813 le n_le_m).trans c800
                                  show ww l D tys A X fr lo mX11_readRope Q 296 [(5, .int v722), (4, .int v567), (7, .int v507), (3, .int v476), (6, .int wa31), (2, .int row), (1, .int p), (0, .ref m)] [.int v808] h805
                                  have c828 := (o813 ro n_ro_m).trans c801
                                  refine w_pop rfl (tX11_readRope_2_ok (296, .pop, 1) (List.mem_of_getElem? (i := 45) rfl)) ?_
                                  refine w_vret rfl (tX11_readRope_2_ok (297, .return_, 1) (List.mem_of_getElem? (i := 46) rfl)) ?_
                                  refine hq h805 fs806 at780 fl807 _ ⟨⟨⟨⟨c814, l815, f816, f817, f818, f819, f820⟩, f821, n_tx_m, c822, hs, hb, a823, a824⟩, f825, n_le_m, _, c827⟩, f826, n_ro_m, n_m_ro, n_ro_tx, n_tx_ro, n_le_ro, n_ro_le, c828, hTD2⟩ ?_ (fun _ => hx9) hro9 (fun j hj => (k812 j hj).trans ((k785 j hj).trans ((k732 j hj).trans ((k546 j hj).trans ((k510 j hj).trans ((j488 j hj.1).trans (k9 j hj))))))) (fun q hq => (o813 q hq.1).trans ((o786 q hq.1).trans ((o733 q hq.1).trans ((o547 q hq.1).trans ((o535 q hq.2).trans ((o511 q hq.1).trans ((o484 q hq.1).trans (o10 q hq.1))))))))
                                  rw [j9, y3]
                                  unfold sp_re
                                  rw [y6, if_neg (by omega)]
                                  rw [if_pos (Or.inr hodd)]
                                  exact Or.inl (by show _ = _; omega)
                    · exfalso; omega
                  · exfalso; omega
                · have g829 : sp_sg f en.toInt.toNat (sp_sk f en.toInt.toNat at505.toInt.toNat) = 44 ∧ at541.toInt < en.toInt ∧ v542.toInt = 44 := by omega
                  clear e545 b565
                  refine w_iconst (by decide) (tX11_readRope_1_ok (198, .iconst 1, 1) (List.mem_of_getElem? (i := 48) rfl)) (fun v830 e831 => ?_)
                  refine w_goto (tgt := 203) (tX11_readRope_1_ok (199, .goto 4, 3) (List.mem_of_getElem? (i := 49) rfl)) rfl ?_
                  refine w_istore [(4, .int v830), (7, .int v507), (3, .int v476), (6, .int wa31), (5, .int v5), (2, .int row), (1, .int p), (0, .ref m)] rfl (Nat.le_of_ble_eq_true rfl) (tX11_readRope_1_ok (203, .istore 4, 2) (List.mem_of_getElem? (i := 51) rfl)) ?_
                  refine w_iload (List.Mem.head _) (tX11_readRope_1_ok (205, .iload 4, 2) (List.mem_of_getElem? (i := 52) rfl)) ?_
                  refine w_if_eq (tgt := 220) (tX11_readRope_1_ok (207, .ifCond .eq 13, 3) (List.mem_of_getElem? (i := 53) rfl)) rfl (fun b832 => ?_) (fun b832 => ?_)
                  · exfalso; omega
                  · refine w_aload_n (List.Mem.tail _ (List.Mem.tail _ (List.Mem.tail _ (List.Mem.tail _ (List.Mem.tail _ (List.Mem.tail _ (List.Mem.tail _ (List.Mem.head _)))))))) (tX11_readRope_1_ok (210, .aload_n 0, 1) (List.mem_of_getElem? (i := 54) rfl)) ?_
                    refine w_dup rfl (tX11_readRope_1_ok (211, .dup, 1) (List.mem_of_getElem? (i := 55) rfl)) ?_
                    refine w_get (own := 16) rfl rfl (by decide) c548 f553 (tX11_readRope_1_ok (212, .getfield 109, 3) (List.mem_of_getElem? (i := 56) rfl)) ?_
                    refine w_iconst (by decide) (tX11_readRope_1_ok (215, .iconst 1, 1) (List.mem_of_getElem? (i := 57) rfl)) (fun v833 e834 => ?_)
                    refine w_iadd (by omega) (by omega) (tX11_readRope_1_ok (216, .iadd, 1) (List.mem_of_getElem? (i := 58) rfl)) (fun v835 e836 => ?_)
                    refine w_putF (own := 16) (ci := 10) (k := 10) rfl rfl (by decide) rfl ⟨rfl, rfl⟩ c548 (by rw [l549]; decide) (tX11_readRope_1_ok (217, .putfield 109, 3) (List.mem_of_getElem? (i := 59) rfl)) (fun h837 fs840 l841 k842 j843 c838 o839 => ?_)
                    rw [l549] at l841
                    have f844 := (j843 5 (by decide)).trans f550
                    have f845 := (j843 8 (by decide)).trans f551
                    have f846 := (j843 9 (by decide)).trans f552
                    have f847 := (j843 11 (by decide)).trans f554
                    have f848 := (j843 12 (by decide)).trans f555
                    have f849 := (j843 4 (by decide)).trans f559
                    have f850 := (j843 19 (by decide)).trans f560
                    have c851 := (o839 tx n_tx_m).trans c556
                    have c852 := (o839 le n_le_m).trans c561
                    have c853 := (o839 ro n_ro_m).trans c562
                    refine w_goto (tgt := 39) (tX11_readRope_2_ok (220, .goto (-181), 3) (List.mem_of_getElem? (i := 0) rfl)) rfl ?_
                    refine w_lv [(4, .int v830), (3, .int v476), (2, .int row), (1, .int p), (0, .ref m)] (by intro q hq; simp only [List.mem_cons, List.not_mem_nil, or_false] at hq ⊢; rcases hq with e | e | e | e | e <;> subst e <;> simp) ?_
                    rw [← hbit] at hto2
                    refine ih (j - 1) (by omega) _ _ _ _ _ _ _ (tn + sp_bit (sp_sg f en.toInt.toNat (sp_sk f en.toInt.toNat at0.toInt.toNat))) (by omega) (by omega) hto2.1 hto2.2.1 (by omega) (by omega) (fun hp0 => by rw [upd_n R _ (by omega)]; exact h62 hp0) ⟨⟨⟨⟨c838, l841, f844, f845, f846, k842, f847⟩, f848, n_tx_m, c851, hs, hb, by omega, by omega⟩, f849, n_le_m, _, c852⟩, f850, n_ro_m, n_m_ro, n_ro_tx, n_tx_ro, n_le_ro, n_ro_le, c853, hTD2⟩ (fun h1 fs1 at1 fl1 R1 p1 p2 p5 p6 p3 p4 => hq h1 fs1 at1 fl1 R1 p1 ?_ p5 (fun i hi => (p6 i hi).trans (hro9 i hi)) (fun j hj => (p3 j hj).trans ((j843 j hj.1).trans ((k546 j hj).trans ((k510 j hj).trans ((j488 j hj.1).trans (k9 j hj)))))) (fun q hq => (p4 q hq).trans ((o839 q hq.1).trans ((o547 q hq.1).trans ((o535 q hq.2).trans ((o511 q hq.1).trans ((o484 q hq.1).trans (o10 q hq.1))))))))
                    rw [j9, y3]
                    unfold sp_re
                    have y7 : sp_sk f en.toInt.toNat at505.toInt.toNat + 1 = v835.toInt.toNat := by omega
                    rw [y6, if_pos (by omega), y7]
                    exact p2
              · refine w_vret rfl (tX11_readRope_1_ok (177, .return_, 1) (List.mem_of_getElem? (i := 36) rfl)) ?_
                obtain ⟨q9, q8, q7⟩ := sp_is.inl e509.1 (by omega)
                refine hq h503 fs504 at505 fl506 R ⟨⟨⟨⟨c514, l515, f516, f517, f518, f519, f520⟩, f521, n_tx_m, c522, hs, hb, a523, a524⟩, f525, n_le_m, _, c527⟩, f526, n_ro_m, n_m_ro, n_ro_tx, n_tx_ro, n_le_ro, n_ro_le, c513, hTD⟩ ?_ (by omega) (fun _ _ => rfl) (fun j hj => (k510 j hj).trans ((j488 j hj.1).trans (k9 j hj))) (fun q hq => (o511 q hq.1).trans ((o484 q hq.1).trans (o10 q hq.1)))
                rw [j9, sp_rp_num (c := sp_sg f en.toInt.toNat (sp_sk f en.toInt.toNat at0.toInt.toNat)) rfl rfl hnb q8]
                exact Or.inl q7
            · refine w_aload_n (List.Mem.tail _ (List.Mem.tail _ (List.Mem.tail _ (List.Mem.tail _ (List.Mem.tail _ (List.Mem.tail _ (List.Mem.tail _ (List.Mem.head _)))))))) (tX11_readRope_1_ok (125, .aload_n 0, 1) (List.mem_of_getElem? (i := 4) rfl)) ?_
              refine w_callV (own := 16) (mi := 180) [] [] [(0, .ref m)] rfl (cllw_X11 (124, 0, 180) (List.mem_of_getElem? (i := 11) rfl)) rfl rfl c11 rfl hr1 (w_lo (n := 20) rfl (Nat.le_trans (Nat.le_of_ble_eq_true rfl) hr2)) (Nat.le_of_ble_eq_true rfl) (Nat.le_of_ble_eq_true rfl) rfl (tX11_readRope_1_ok (126, .invokevirtual 124, 3) (List.mem_of_getElem? (i := 5) rfl)) (r_fail ⟨⟨c11, l12, f13, f14, f15, f16, f17⟩, f18, n_tx_m, c19, hs, hb, a20, a21⟩ (fun h854 fs855 fl856 v857 p858 e859 e860 k861 o862 => ?_))
              obtain ⟨⟨c863, l864, f865, f866, f867, f868, f869⟩, f870, -, c871, -, -, a872, a873⟩ := p858
              have f874 := (k861 4 (by decide)).trans f22
              have f875 := (k861 19 (by decide)).trans f23
              have c876 := (o862 le n_le_m).trans c24
              show ww l D tys A X fr lo mX11_readRope Q 129 [(7, .int ka30), (6, .int wa31), (5, .int v5), (4, .int more), (3, .int told), (2, .int row), (1, .int p), (0, .ref m)] [.int v857] h854
              have c877 := (o862 ro n_ro_m).trans c25
              refine w_pop rfl (tX11_readRope_1_ok (129, .pop, 1) (List.mem_of_getElem? (i := 6) rfl)) ?_
              refine w_vret rfl (tX11_readRope_1_ok (130, .return_, 1) (List.mem_of_getElem? (i := 7) rfl)) ?_
              have hb9 : sp_bit (sp_sg f en.toInt.toNat (sp_sk f en.toInt.toNat at0.toInt.toNat)) = 0 ∨ tn / sp_bit (sp_sg f en.toInt.toNat (sp_sk f en.toInt.toNat at0.toInt.toNat)) % 2 = 1 ∨ sp_sg f en.toInt.toNat (sp_sk f en.toInt.toNat at0.toInt.toNat) = 117 ∧ ((p.toInt.toNat : Nat) : Int) = 0 := Or.inr (Or.inr ⟨by rw [hcl]; exact hl97.2.mpr (by omega), by omega⟩)
              refine hq h854 fs855 at4 fl856 R ⟨⟨⟨⟨c863, l864, f865, f866, f867, f868, f869⟩, f870, n_tx_m, c871, hs, hb, a872, a873⟩, f874, n_le_m, _, c876⟩, f875, n_ro_m, n_m_ro, n_ro_tx, n_tx_ro, n_le_ro, n_ro_le, c877, hTD⟩ ?_ (by omega) (fun _ _ => rfl) (fun j hj => (k861 j hj).trans (k9 j hj)) (fun q hq => (o862 q hq.1).trans (o10 q hq.1))
              rw [j9, sp_rp_bad (c := sp_sg f en.toInt.toNat (sp_sk f en.toInt.toNat at0.toInt.toNat)) rfl rfl hb9]
              exact Or.inl (by show _ = _; omega)
theorem r_readRope (hT : k_tys tys cA) (hX : ∀ s, X s → xs A aK aV s) {p : Int32} (hp : 0 ≤ p.toInt ∧ p.toInt < 6) (hf : 5 ≤ fr) (hl : 200 ≤ lo) (hnz : ∀ i, i < en.toInt.toNat → 1 ≤ (f i).toInt) (hfl : fl0.toInt = -1) (H9 : rr cA h m fs tx n le ro g f R bg en at0 fl0 dp) (hq : ∀ (h1 : ch_H) (fs1 : List Value) (at1 fl1 : Int32) (R1 : Nat → Int32), rr cA h1 m fs1 tx n le ro g f R1 bg en at1 fl1 dp → rpP (sp_rp f en.toInt.toNat ((p.toInt.toNat : Nat) : Int) 10 at0.toInt.toNat 0 0 10 0) f en.toInt.toNat at1 fl1 → (fl1.toInt = -1 → p.toInt = 0 → (R1 62).toInt = -1) → (∀ i, i < 54 + 9 * p.toInt.toNat → R1 i = R i) → (∀ j, j ≠ 10 ∧ j ≠ 11 ∧ j ≠ 12 → fs1[j]? = fs[j]?) → (∀ q, q ≠ m ∧ q ≠ ro → h1 q = h q) → Q none h1) : ww l D tys A X fr lo mX11_readRope Q 0 [(0, .ref m), (1, .int p)] [] h := by
  refine w_bipush (by decide) (tX11_readRope_0_ok (0, .bipush 9, 2) (List.mem_of_getElem? (i := 0) rfl)) (fun v1 e2 => ?_)
  refine w_bipush (by decide) (tX11_readRope_0_ok (2, .bipush 6, 2) (List.mem_of_getElem? (i := 1) rfl)) (fun v3 e4 => ?_)
  refine w_iload_n (List.Mem.tail _ (List.Mem.head _)) (tX11_readRope_0_ok (4, .iload_n 1, 1) (List.mem_of_getElem? (i := 2) rfl)) ?_
  refine w_iadd (by omega) (by omega) (tX11_readRope_0_ok (5, .iadd, 1) (List.mem_of_getElem? (i := 3) rfl)) (fun v5 e6 => ?_)
  refine w_imul (by assumption) (by omega) (by omega) (tX11_readRope_0_ok (6, .imul, 1) (List.mem_of_getElem? (i := 4) rfl)) (fun v7 e8 => ?_)
  refine w_istore_n [(2, .int v7), (0, .ref m), (1, .int p)] rfl (Nat.le_of_ble_eq_true rfl) (tX11_readRope_0_ok (7, .istore_n 2, 1) (List.mem_of_getElem? (i := 5) rfl)) ?_
  refine w_iconst (by decide) (tX11_readRope_0_ok (8, .iconst 0, 1) (List.mem_of_getElem? (i := 6) rfl)) (fun v9 e10 => ?_)
  refine w_istore_n [(3, .int v9), (2, .int v7), (0, .ref m), (1, .int p)] rfl (Nat.le_of_ble_eq_true rfl) (tX11_readRope_0_ok (9, .istore_n 3, 1) (List.mem_of_getElem? (i := 7) rfl)) ?_
  have hrow9 : v7.toInt = 54 + 9 * p.toInt := by omega
  refine w_lv [(3, .int v9), (2, .int v7), (1, .int p), (0, .ref m)] (by intro q hq; simp only [List.mem_cons, List.not_mem_nil, or_false] at hq ⊢; rcases hq with e | e | e | e <;> subst e <;> simp) ?_
  refine r_usL hT hp hrow9 (by omega) (by omega) 9 _ _ _ (by omega) (by omega) (fun z hz => by omega) H9 (fun h11 Ra12 ka13 p14 p15 p16 p17 => ?_)
  show ww l D tys A X fr lo mX11_readRope Q 34 [(3, .int ka13), (2, .int v7), (1, .int p), (0, .ref m)] [] h11
  refine w_iconst (by decide) (tX11_readRope_0_ok (34, .iconst 0, 1) (List.mem_of_getElem? (i := 21) rfl)) (fun v18 e19 => ?_)
  refine w_istore_n [(3, .int v18), (2, .int v7), (1, .int p), (0, .ref m)] rfl (Nat.le_of_ble_eq_true rfl) (tX11_readRope_0_ok (35, .istore_n 3, 1) (List.mem_of_getElem? (i := 22) rfl)) ?_
  refine w_iconst (by decide) (tX11_readRope_0_ok (36, .iconst 1, 1) (List.mem_of_getElem? (i := 23) rfl)) (fun v20 e21 => ?_)
  refine w_istore [(4, .int v20), (3, .int v18), (2, .int v7), (1, .int p), (0, .ref m)] rfl (Nat.le_of_ble_eq_true rfl) (tX11_readRope_0_ok (37, .istore 4, 2) (List.mem_of_getElem? (i := 24) rfl)) ?_
  refine w_lv [(4, .int v20), (3, .int v18), (2, .int v7), (1, .int p), (0, .ref m)] (by intro q hq; simp only [List.mem_cons, List.not_mem_nil, or_false] at hq ⊢; rcases hq with e | e | e | e | e <;> subst e <;> simp) ?_
  have u0 := p15 0 (by decide)
  have u1 := p15 1 (by decide)
  have u2 := p15 2 (by decide)
  rw [Nat.add_zero] at u0
  have u8 := p15 8 (by decide)
  refine r_ropeL hT hX hp hrow9 (by omega) (by omega) hnz 10 _ _ _ _ _ _ Ra12 0 (by show ((0 : Nat) : Int) = _; omega) (by omega) (by omega) (by decide) (by omega) hfl (fun hp0 => by have e9 : v7.toInt.toNat + 8 = 62 := (by omega); rw [e9] at u8; exact u8) p14 (fun h1 fs1 at1 fl1 R2 q1 q2 q3 q4 q5 q6 => hq h1 fs1 at1 fl1 R2 q1 ?_ q3 (fun i hi => (q4 i (by omega)).trans (p16 i (by omega))) q5 (fun q hq => (q6 q hq).trans (p17 q hq.2)))
  rw [u0, u1, u2] at q2
  exact q2
end
theorem sp_rp_end {f : Nat → Int32} {len : Nat} {p : Int} : ∀ (j n t : Nat) (K L X : Int) (q : Nat), sp_rp f len p j n t K L X = .inr q → (sp_sg f len q = 59 ∨ sp_sg f len q = 0) ∧ sp_sk f len q = q := by
  intro j
  induction j with
  | zero => intro n t K L X q e; rw [sp_rp] at e; cases e
  | succ j ih =>
    intro n t K L X q e
    rw [sp_rp, sp_rq] at e
    split at e
    · cases e
    · cases e1 : sp_rn f len p L X (sp_sg f len (sp_sk f len n)) (sp_sk f len n + 1) with
      | inl z => rw [e1] at e; cases e
      | inr z =>
        rw [e1] at e
        dsimp only [sp_bd] at e
        unfold sp_re at e
        split at e
        · exact ih _ _ _ _ _ _ e
        · split at e
          · cases e
          · next h1 =>
            injection e with e
            subst e
            refine ⟨?_, sp_sk_sk f len z⟩
            by_cases c : sp_sg f len (sp_sk f len z) = 59
            · exact Or.inl c
            · refine Or.inr (Classical.byContradiction fun c2 => h1 (Or.inl ⟨c, c2⟩))
theorem sp_tn_1 (f : Nat → Int32) (len : Nat) : ∀ (j p n : Nat), p ≤ (sp_tn f len j p n).2 ∧ (sp_tn f len j p n).2 ≤ p + j + 1
  | 0, p, n => ⟨Nat.le_refl _, Nat.le_succ _⟩
  | j + 1, p, n => by
    rw [sp_tn]
    cases sp_rp f len p 10 n 0 0 10 0 with
    | inl e => exact ⟨Nat.le_succ _, by show p + 1 ≤ p + (j + 1) + 1; omega⟩
    | inr q =>
      dsimp only
      split
      · exact ⟨Nat.le_succ _, by show p + 1 ≤ p + (j + 1) + 1; omega⟩
      · split
        · exact ⟨Nat.le_succ _, by show p + 1 ≤ p + (j + 1) + 1; omega⟩
        · have := sp_tn_1 f len j (p + 1) (sp_sk f len q + 1)
          omega
section
variable {l : Launch} {D : va_G} {tys : List (ClassId × FieldType)} {A : Nat → Prop} {X : State → Prop} {fr lo : Nat} {Q : Option Value → ch_H → Prop} {cA : Nat → ClassId} {h : ch_H} {m tx n le : Nat} {fs : List Value} {g f : Nat → Int32} {bg en at0 fl0 dp : Int32} {aK aV : Nat → Nat} {ro : Nat} {R : Nat → Int32}
theorem r_townL (hT : k_tys tys cA) (hX : ∀ s, X s → xs A aK aV s) (hf : 6 ≤ fr) (hl : 240 ≤ lo) (hnz : ∀ i, i < en.toInt.toNat → 1 ≤ (f i).toInt) : ∀ (j p : Nat) (more at0 fl0 rd : Int32) (h : ch_H) (fs : List Value) (R : Nat → Int32), p + j = 6 → 1 ≤ j → more.toInt = 1 → fl0.toInt = -1 → (1 ≤ p → (R 62).toInt = -1) → rr cA h m fs tx n le ro g f R bg en at0 fl0 dp → fs[21]? = some (.int rd) → rd.toInt = (p : Int) → (∀ (h1 : ch_H) (fs1 : List Value) (at1 fl1 rd1 : Int32) (R1 : Nat → Int32), rr cA h1 m fs1 tx n le ro g f R1 bg en at1 fl1 dp → fs1[21]? = some (.int rd1) → 0 ≤ rd1.toInt ∧ rd1.toInt ≤ 6 → sp_is (sp_tn f en.toInt.toNat j p at0.toInt.toNat).1 at1 fl1 → (fl1.toInt = -1 → rd1.toInt = ((sp_tn f en.toInt.toNat j p at0.toInt.toNat).2 : Nat) ∧ (R1 62).toInt = -1) → (∀ i, i < 54 → R1 i = R i) → (∀ j, j ≠ 10 ∧ j ≠ 11 ∧ j ≠ 12 ∧ j ≠ 21 → fs1[j]? = fs[j]?) → (∀ q, q ≠ m ∧ q ≠ ro → h1 q = h q) → Q none h1) → ww l D tys A X fr lo mX11_readTown Q 20 [(1, .int more), (0, .ref m)] [] h := by
  intro j
  induction j using Nat.strongRecOn with
  | ind j ih =>
    intro p more at0 fl0 rd h fs R hp hj hmo hfl h62 H fL21 hrd hq
    have j9 : j = (j - 1) + 1 := by omega
    obtain ⟨H, fL19, n_ro_m, n_m_ro, n_ro_tx, n_tx_ro, n_le_ro, n_ro_le, c_ro, hTD⟩ := H
    have hr1 : 1 ≤ fr := by omega
    have hr2 : 30 ≤ lo := by omega
    obtain ⟨⟨⟨c_m, fl, f5, f8, f9, f10, f11⟩, f12, n_tx_m, c_x, hs, hb, ha⟩, f4, n_le_m, gl, c_le⟩ := H
    have n_m_tx := n_tx_m.symm
    have n_m_le := n_le_m.symm
    refine w_iload_n (List.Mem.head _) (tX11_readTown_0_ok (20, .iload_n 1, 1) (List.mem_of_getElem? (i := 12) rfl)) ?_
    refine w_if_eq (tgt := 116) (tX11_readTown_0_ok (21, .ifCond .eq 95, 3) (List.mem_of_getElem? (i := 13) rfl)) rfl (fun b1 => ?_) (fun b1 => ?_)
    · exfalso; omega
    · refine w_aload_n (List.Mem.tail _ (List.Mem.head _)) (tX11_readTown_0_ok (24, .aload_n 0, 1) (List.mem_of_getElem? (i := 14) rfl)) ?_
      refine w_get (own := 16) rfl rfl (by decide) c_m f11 (tX11_readTown_0_ok (25, .getfield 118, 3) (List.mem_of_getElem? (i := 15) rfl)) ?_
      refine w_iconst (by decide) (tX11_readTown_0_ok (28, .iconst (-1), 1) (List.mem_of_getElem? (i := 16) rfl)) (fun v2 e3 => ?_)
      refine w_icmp_ne (tgt := 116) (tX11_readTown_0_ok (29, .if_icmp .ne 87, 3) (List.mem_of_getElem? (i := 17) rfl)) rfl (fun b4 => ?_) (fun b4 => ?_)
      · exfalso; omega
      · refine w_aload_n (List.Mem.tail _ (List.Mem.head _)) (tX11_readTown_0_ok (32, .aload_n 0, 1) (List.mem_of_getElem? (i := 18) rfl)) ?_
        refine w_aload_n (List.Mem.tail _ (List.Mem.head _)) (tX11_readTown_0_ok (33, .aload_n 0, 1) (List.mem_of_getElem? (i := 19) rfl)) ?_
        refine w_get (own := 16) rfl rfl (by decide) c_m fL21 (tX11_readTown_0_ok (34, .getfield 231, 3) (List.mem_of_getElem? (i := 20) rfl)) ?_
        refine w_callV (own := 16) (mi := 233) [.int rd] [] [(0, .ref m), (1, .int rd)] rfl (cllw_X11 (234, 0, 233) (List.mem_of_getElem? (i := 5) rfl)) rfl rfl c_m rfl hr1 (w_lo (n := 27) rfl (Nat.le_trans (Nat.le_of_ble_eq_true rfl) hr2)) (Nat.le_of_ble_eq_true rfl) (Nat.le_of_ble_eq_true rfl) rfl (tX11_readTown_0_ok (37, .invokevirtual 234, 3) (List.mem_of_getElem? (i := 21) rfl)) (r_readRope hT hX (by omega) (by omega) (w_sub (n := 27) rfl (by omega)) hnz (by omega) ⟨⟨⟨⟨c_m, fl, f5, f8, f9, f10, f11⟩, f12, n_tx_m, c_x, hs, hb, ha.1, ha.2⟩, f4, n_le_m, _, c_le⟩, fL19, n_ro_m, n_m_ro, n_ro_tx, n_tx_ro, n_le_ro, n_ro_le, c_ro, hTD⟩ (fun h5 fs6 at7 fl8 Ra9 p10 e11 e12 e13 k14 o15 => ?_))
        have i16 : rd.toInt.toNat = p := by omega
        rw [i16] at e11 e13
        obtain ⟨⟨⟨⟨c17, l18, f19, f20, f21, f22, f23⟩, f24, -, c25, -, -, a26, a27⟩, f28, -, gl29, c30⟩, f31, -, -, -, -, -, -, c32, td33⟩ := p10
        have f34 := (k14 21 (by decide)).trans fL21
        show ww l D tys A X fr lo mX11_readTown Q 40 [(1, .int more), (0, .ref m)] [] h5
        refine w_aload_n (List.Mem.tail _ (List.Mem.head _)) (tX11_readTown_0_ok (40, .aload_n 0, 1) (List.mem_of_getElem? (i := 22) rfl)) ?_
        refine w_dup rfl (tX11_readTown_0_ok (41, .dup, 1) (List.mem_of_getElem? (i := 23) rfl)) ?_
        refine w_get (own := 16) rfl rfl (by decide) c17 f34 (tX11_readTown_0_ok (42, .getfield 231, 3) (List.mem_of_getElem? (i := 24) rfl)) ?_
        refine w_iconst (by decide) (tX11_readTown_0_ok (45, .iconst 1, 1) (List.mem_of_getElem? (i := 25) rfl)) (fun v35 e36 => ?_)
        refine w_iadd (by omega) (by omega) (tX11_readTown_0_ok (46, .iadd, 1) (List.mem_of_getElem? (i := 26) rfl)) (fun v37 e38 => ?_)
        refine w_putF (own := 16) (ci := 10) (k := 21) rfl rfl (by decide) rfl ⟨rfl, rfl⟩ c17 (by rw [l18]; decide) (tX11_readTown_0_ok (47, .putfield 231, 3) (List.mem_of_getElem? (i := 27) rfl)) (fun h39 fs42 l43 k44 j45 c40 o41 => ?_)
        rw [l18] at l43
        have f46 := (j45 4 (by decide)).trans f28
        have f47 := (j45 5 (by decide)).trans f19
        have f48 := (j45 8 (by decide)).trans f20
        have f49 := (j45 9 (by decide)).trans f21
        have f50 := (j45 10 (by decide)).trans f22
        have f51 := (j45 11 (by decide)).trans f23
        have f52 := (j45 12 (by decide)).trans f24
        have f53 := (j45 19 (by decide)).trans f31
        have c54 := (o41 tx n_tx_m).trans c25
        have c55 := (o41 le n_le_m).trans c30
        have c56 := (o41 ro n_ro_m).trans c32
        refine w_aload_n (List.Mem.tail _ (List.Mem.head _)) (tX11_readTown_0_ok (50, .aload_n 0, 1) (List.mem_of_getElem? (i := 28) rfl)) ?_
        refine w_get (own := 16) rfl rfl (by decide) c40 f51 (tX11_readTown_0_ok (51, .getfield 118, 3) (List.mem_of_getElem? (i := 29) rfl)) ?_
        refine w_iconst (by decide) (tX11_readTown_0_ok (54, .iconst (-1), 1) (List.mem_of_getElem? (i := 30) rfl)) (fun v57 e58 => ?_)
        refine w_icmp_ne (tgt := 71) (tX11_readTown_0_ok (55, .if_icmp .ne 16, 3) (List.mem_of_getElem? (i := 31) rfl)) rfl (fun b59 => ?_) (fun b59 => ?_)
        · refine w_iconst (by decide) (tX11_readTown_0_ok (71, .iconst 0, 1) (List.mem_of_getElem? (i := 38) rfl)) (fun v60 e61 => ?_)
          refine w_istore_n [(1, .int v60), (0, .ref m)] rfl (Nat.le_of_ble_eq_true rfl) (tX11_readTown_0_ok (72, .istore_n 1, 1) (List.mem_of_getElem? (i := 39) rfl)) ?_
          refine w_iload_n (List.Mem.head _) (tX11_readTown_0_ok (73, .iload_n 1, 1) (List.mem_of_getElem? (i := 40) rfl)) ?_
          refine w_if_eq (tgt := 91) (tX11_readTown_0_ok (74, .ifCond .eq 17, 3) (List.mem_of_getElem? (i := 41) rfl)) rfl (fun b62 => ?_) (fun b62 => ?_)
          · refine w_iload_n (List.Mem.head _) (tX11_readTown_0_ok (91, .iload_n 1, 1) (List.mem_of_getElem? (i := 49) rfl)) ?_
            refine w_if_eq (tgt := 20) (tX11_readTown_0_ok (92, .ifCond .eq (-72), 3) (List.mem_of_getElem? (i := 50) rfl)) rfl (fun b63 => ?_) (fun b63 => ?_)
            · refine w_iload_n (List.Mem.head _) (tX11_readTown_0_ok (20, .iload_n 1, 1) (List.mem_of_getElem? (i := 12) rfl)) ?_
              refine w_if_eq (tgt := 116) (tX11_readTown_0_ok (21, .ifCond .eq 95, 3) (List.mem_of_getElem? (i := 13) rfl)) rfl (fun b64 => ?_) (fun b64 => ?_)
              · refine w_aload_n (List.Mem.tail _ (List.Mem.head _)) (tX11_readTown_1_ok (116, .aload_n 0, 1) (List.mem_of_getElem? (i := 2) rfl)) ?_
                refine w_get (own := 16) rfl rfl (by decide) c40 f51 (tX11_readTown_1_ok (117, .getfield 118, 3) (List.mem_of_getElem? (i := 3) rfl)) ?_
                refine w_iconst (by decide) (tX11_readTown_1_ok (120, .iconst (-1), 1) (List.mem_of_getElem? (i := 4) rfl)) (fun v65 e66 => ?_)
                refine w_icmp_ne (tgt := 137) (tX11_readTown_1_ok (121, .if_icmp .ne 16, 3) (List.mem_of_getElem? (i := 5) rfl)) rfl (fun b67 => ?_) (fun b67 => ?_)
                · refine w_vret rfl (tX11_readTown_1_ok (137, .return_, 1) (List.mem_of_getElem? (i := 13) rfl)) ?_
                  rcases e11 with q9 | ⟨q9, -⟩
                  · obtain ⟨q8, q7, q6⟩ := sp_is.inl q9 (by omega)
                    refine hq h39 fs42 at7 fl8 v37 _ ⟨⟨⟨⟨c40, l43, f47, f48, f49, f50, f51⟩, f52, n_tx_m, c54, hs, hb, a26, a27⟩, f46, n_le_m, _, c55⟩, f53, n_ro_m, n_m_ro, n_ro_tx, n_tx_ro, n_le_ro, n_ro_le, c56, td33⟩ k44 (by omega) ?_ ?_ (fun i hi => e13 i (by omega)) (fun j hj => (j45 j hj.2.2.2).trans (k14 j ⟨hj.1, hj.2.1, hj.2.2.1⟩)) (fun q hq => (o41 q hq.1).trans (o15 q ⟨hq.1, hq.2⟩))
                    · rw [j9, sp_tn, q7]; exact q6
                    · intro z9; omega
                  · exact absurd q9 (by omega)
                · exfalso; omega
              · exfalso; omega
            · exfalso; omega
          · exfalso; omega
        · have h62a : (Ra9 62).toInt = -1 := by
            by_cases p0 : p = 0
            · exact e12 (by omega) (by omega)
            · rw [e13 62 (by omega)]; exact h62 (by omega)
          refine w_aload_n (List.Mem.tail _ (List.Mem.head _)) (tX11_readTown_0_ok (58, .aload_n 0, 1) (List.mem_of_getElem? (i := 32) rfl)) ?_
          refine w_callV (own := 16) (mi := 212) [] [] [(0, .ref m)] rfl (cllw_X11 (128, 0, 212) (List.mem_of_getElem? (i := 7) rfl)) rfl rfl c40 rfl hr1 (w_lo (n := 20) rfl (Nat.le_trans (Nat.le_of_ble_eq_true rfl) hr2)) (Nat.le_of_ble_eq_true rfl) (Nat.le_of_ble_eq_true rfl) rfl (tX11_readTown_0_ok (59, .invokevirtual 128, 3) (List.mem_of_getElem? (i := 33) rfl)) (r_look hT ⟨⟨c40, l43, f47, f48, f49, f50, f51⟩, f52, n_tx_m, c54, hs, hb, a26, a27⟩ (fun h68 fs69 at70 v71 p72 e73 e74 k75 o76 => ?_))
          obtain ⟨⟨c77, l78, f79, f80, f81, f82, f83⟩, f84, -, c85, -, -, a86, a87⟩ := p72
          have f88 := (k75 21 (by decide)).trans k44
          have f89 := (k75 4 (by decide)).trans f46
          have f90 := (k75 19 (by decide)).trans f53
          have c91 := (o76 le n_le_m).trans c55
          show ww l D tys A X fr lo mX11_readTown Q 62 [(1, .int more), (0, .ref m)] [.int v71] h68
          have c92 := (o76 ro n_ro_m).trans c56
          refine w_bipush (by decide) (tX11_readTown_0_ok (62, .bipush 59, 2) (List.mem_of_getElem? (i := 34) rfl)) (fun v93 e94 => ?_)
          refine w_icmp_ne (tgt := 71) (tX11_readTown_0_ok (64, .if_icmp .ne 7, 3) (List.mem_of_getElem? (i := 35) rfl)) rfl (fun b95 => ?_) (fun b95 => ?_)
          · have g96 : ¬ sp_sg f en.toInt.toNat (sp_sk f en.toInt.toNat at7.toInt.toNat) = 59 := by omega
            clear e74 b95
            refine w_iconst (by decide) (tX11_readTown_0_ok (71, .iconst 0, 1) (List.mem_of_getElem? (i := 38) rfl)) (fun v97 e98 => ?_)
            refine w_istore_n [(1, .int v97), (0, .ref m)] rfl (Nat.le_of_ble_eq_true rfl) (tX11_readTown_0_ok (72, .istore_n 1, 1) (List.mem_of_getElem? (i := 39) rfl)) ?_
            refine w_iload_n (List.Mem.head _) (tX11_readTown_0_ok (73, .iload_n 1, 1) (List.mem_of_getElem? (i := 40) rfl)) ?_
            refine w_if_eq (tgt := 91) (tX11_readTown_0_ok (74, .ifCond .eq 17, 3) (List.mem_of_getElem? (i := 41) rfl)) rfl (fun b99 => ?_) (fun b99 => ?_)
            · refine w_iload_n (List.Mem.head _) (tX11_readTown_0_ok (91, .iload_n 1, 1) (List.mem_of_getElem? (i := 49) rfl)) ?_
              refine w_if_eq (tgt := 20) (tX11_readTown_0_ok (92, .ifCond .eq (-72), 3) (List.mem_of_getElem? (i := 50) rfl)) rfl (fun b100 => ?_) (fun b100 => ?_)
              · refine w_iload_n (List.Mem.head _) (tX11_readTown_0_ok (20, .iload_n 1, 1) (List.mem_of_getElem? (i := 12) rfl)) ?_
                refine w_if_eq (tgt := 116) (tX11_readTown_0_ok (21, .ifCond .eq 95, 3) (List.mem_of_getElem? (i := 13) rfl)) rfl (fun b101 => ?_) (fun b101 => ?_)
                · refine w_aload_n (List.Mem.tail _ (List.Mem.head _)) (tX11_readTown_1_ok (116, .aload_n 0, 1) (List.mem_of_getElem? (i := 2) rfl)) ?_
                  refine w_get (own := 16) rfl rfl (by decide) c77 f83 (tX11_readTown_1_ok (117, .getfield 118, 3) (List.mem_of_getElem? (i := 3) rfl)) ?_
                  refine w_iconst (by decide) (tX11_readTown_1_ok (120, .iconst (-1), 1) (List.mem_of_getElem? (i := 4) rfl)) (fun v102 e103 => ?_)
                  refine w_icmp_ne (tgt := 137) (tX11_readTown_1_ok (121, .if_icmp .ne 16, 3) (List.mem_of_getElem? (i := 5) rfl)) rfl (fun b104 => ?_) (fun b104 => ?_)
                  · exfalso; omega
                  · refine w_aload_n (List.Mem.tail _ (List.Mem.head _)) (tX11_readTown_1_ok (124, .aload_n 0, 1) (List.mem_of_getElem? (i := 6) rfl)) ?_
                    refine w_callV (own := 16) (mi := 212) [] [] [(0, .ref m)] rfl (cllw_X11 (128, 0, 212) (List.mem_of_getElem? (i := 7) rfl)) rfl rfl c77 rfl hr1 (w_lo (n := 20) rfl (Nat.le_trans (Nat.le_of_ble_eq_true rfl) hr2)) (Nat.le_of_ble_eq_true rfl) (Nat.le_of_ble_eq_true rfl) rfl (tX11_readTown_1_ok (125, .invokevirtual 128, 3) (List.mem_of_getElem? (i := 7) rfl)) (r_look hT ⟨⟨c77, l78, f79, f80, f81, f82, f83⟩, f84, n_tx_m, c85, hs, hb, a86, a87⟩ (fun h105 fs106 at107 v108 p109 e110 e111 k112 o113 => ?_))
                    obtain ⟨⟨c114, l115, f116, f117, f118, f119, f120⟩, f121, -, c122, -, -, a123, a124⟩ := p109
                    have f125 := (k112 21 (by decide)).trans f88
                    have f126 := (k112 4 (by decide)).trans f89
                    have f127 := (k112 19 (by decide)).trans f90
                    have c128 := (o113 le n_le_m).trans c91
                    rw [e73, sp_sk_sk] at e110 e111
                    show ww l D tys A X fr lo mX11_readTown Q 128 [(1, .int v97), (0, .ref m)] [.int v108] h105
                    have c129 := (o113 ro n_ro_m).trans c92
                    refine w_iconst (by decide) (tX11_readTown_1_ok (128, .iconst (-1), 1) (List.mem_of_getElem? (i := 8) rfl)) (fun v130 e131 => ?_)
                    refine w_icmp_eq (tgt := 137) (tX11_readTown_1_ok (129, .if_icmp .eq 8, 3) (List.mem_of_getElem? (i := 9) rfl)) rfl (fun b132 => ?_) (fun b132 => ?_)
                    · refine w_vret rfl (tX11_readTown_1_ok (137, .return_, 1) (List.mem_of_getElem? (i := 13) rfl)) ?_
                      rcases e11 with q9 | ⟨q9, q8, q7, q6, q5⟩
                      · obtain ⟨q8, q7, q6⟩ := sp_is.inr q9 (by omega)
                        have y6 : sp_sk f en.toInt.toNat q8 = sp_sk f en.toInt.toNat at7.toInt.toNat := by congr 1; omega
                        have y7 : sp_tn f en.toInt.toNat j p at0.toInt.toNat = (.inr (sp_sk f en.toInt.toNat at7.toInt.toNat), p + 1) := by
                          rw [j9, sp_tn, q7]; dsimp only; rw [y6, if_pos (by omega)]
                        refine hq h105 fs106 at107 fl8 v37 _ ⟨⟨⟨⟨c114, l115, f116, f117, f118, f119, f120⟩, f121, n_tx_m, c122, hs, hb, a123, a124⟩, f126, n_le_m, _, c128⟩, f127, n_ro_m, n_m_ro, n_ro_tx, n_tx_ro, n_le_ro, n_ro_le, c129, td33⟩ f125 (by omega) ?_ ?_ (fun i hi => e13 i (by omega)) (fun j hj => (k112 j ⟨hj.1, hj.2.1, hj.2.2.1⟩).trans ((k75 j ⟨hj.1, hj.2.1, hj.2.2.1⟩).trans ((j45 j hj.2.2.2).trans (k14 j ⟨hj.1, hj.2.1, hj.2.2.1⟩)))) (fun q hq => (o113 q hq.1).trans ((o76 q hq.1).trans ((o41 q hq.1).trans (o15 q ⟨hq.1, hq.2⟩))))
                        · rw [y7]; exact ⟨by omega, by omega⟩
                        · intro z9; rw [y7]; exact ⟨by show _ = ((p + 1 : Nat) : Int); omega, h62a⟩
                      · exfalso; rw [q7] at e111; omega
                    · refine w_aload_n (List.Mem.tail _ (List.Mem.head _)) (tX11_readTown_1_ok (132, .aload_n 0, 1) (List.mem_of_getElem? (i := 10) rfl)) ?_
                      refine w_callV (own := 16) (mi := 180) [] [] [(0, .ref m)] rfl (cllw_X11 (124, 0, 180) (List.mem_of_getElem? (i := 11) rfl)) rfl rfl c114 rfl hr1 (w_lo (n := 20) rfl (Nat.le_trans (Nat.le_of_ble_eq_true rfl) hr2)) (Nat.le_of_ble_eq_true rfl) (Nat.le_of_ble_eq_true rfl) rfl (tX11_readTown_1_ok (133, .invokevirtual 124, 3) (List.mem_of_getElem? (i := 11) rfl)) (r_fail ⟨⟨c114, l115, f116, f117, f118, f119, f120⟩, f121, n_tx_m, c122, hs, hb, a123, a124⟩ (fun h133 fs134 fl135 v136 p137 e138 e139 k140 o141 => ?_))
                      obtain ⟨⟨c142, l143, f144, f145, f146, f147, f148⟩, f149, -, c150, -, -, a151, a152⟩ := p137
                      have f153 := (k140 21 (by decide)).trans f125
                      have f154 := (k140 4 (by decide)).trans f126
                      have f155 := (k140 19 (by decide)).trans f127
                      have c156 := (o141 le n_le_m).trans c128
                      show ww l D tys A X fr lo mX11_readTown Q 136 [(1, .int v97), (0, .ref m)] [.int v136] h133
                      have c157 := (o141 ro n_ro_m).trans c129
                      refine w_pop rfl (tX11_readTown_1_ok (136, .pop, 1) (List.mem_of_getElem? (i := 12) rfl)) ?_
                      refine w_vret rfl (tX11_readTown_1_ok (137, .return_, 1) (List.mem_of_getElem? (i := 13) rfl)) ?_
                      rcases e11 with q9 | ⟨q9, q8, q7, q6, q5⟩
                      · obtain ⟨q8, q7, q6⟩ := sp_is.inr q9 (by omega)
                        have y6 : sp_sk f en.toInt.toNat q8 = sp_sk f en.toInt.toNat at7.toInt.toNat := by congr 1; omega
                        have y8 := sp_rp_end _ _ _ _ _ _ _ q7
                        rw [← y6, y8.2] at g96 e111
                        have z5 := hnz q8 (by rw [← y8.2, y6]; omega)
                        have z6 : sp_sg f en.toInt.toNat q8 = (f q8).toInt := by unfold sp_sg; rw [if_pos (by rw [← y8.2, y6]; omega)]
                        exfalso; omega
                      · refine hq h133 fs134 at107 fl135 v37 _ ⟨⟨⟨⟨c142, l143, f144, f145, f146, f147, f148⟩, f149, n_tx_m, c150, hs, hb, a151, a152⟩, f154, n_le_m, _, c156⟩, f155, n_ro_m, n_m_ro, n_ro_tx, n_tx_ro, n_le_ro, n_ro_le, c157, td33⟩ f153 (by omega) ?_ ?_ (fun i hi => e13 i (by omega)) (fun j hj => (k140 j ⟨hj.1, hj.2.1, hj.2.2.1⟩).trans ((k112 j ⟨hj.1, hj.2.1, hj.2.2.1⟩).trans ((k75 j ⟨hj.1, hj.2.1, hj.2.2.1⟩).trans ((j45 j hj.2.2.2).trans (k14 j ⟨hj.1, hj.2.1, hj.2.2.1⟩))))) (fun q hq => (o141 q hq.1).trans ((o113 q hq.1).trans ((o76 q hq.1).trans ((o41 q hq.1).trans (o15 q ⟨hq.1, hq.2⟩)))))
                        · rw [j9, sp_tn, q8]; show _ = _; rw [q7] at e110; omega
                        · intro z9; omega
                · exfalso; omega
              · exfalso; omega
            · exfalso; omega
          · have g158 : sp_sg f en.toInt.toNat (sp_sk f en.toInt.toNat at7.toInt.toNat) = 59 ∧ at70.toInt < en.toInt ∧ v71.toInt = 59 := by omega
            clear e74 b95
            refine w_iconst (by decide) (tX11_readTown_0_ok (67, .iconst 1, 1) (List.mem_of_getElem? (i := 36) rfl)) (fun v159 e160 => ?_)
            refine w_goto (tgt := 72) (tX11_readTown_0_ok (68, .goto 4, 3) (List.mem_of_getElem? (i := 37) rfl)) rfl ?_
            refine w_istore_n [(1, .int v159), (0, .ref m)] rfl (Nat.le_of_ble_eq_true rfl) (tX11_readTown_0_ok (72, .istore_n 1, 1) (List.mem_of_getElem? (i := 39) rfl)) ?_
            refine w_iload_n (List.Mem.head _) (tX11_readTown_0_ok (73, .iload_n 1, 1) (List.mem_of_getElem? (i := 40) rfl)) ?_
            refine w_if_eq (tgt := 91) (tX11_readTown_0_ok (74, .ifCond .eq 17, 3) (List.mem_of_getElem? (i := 41) rfl)) rfl (fun b161 => ?_) (fun b161 => ?_)
            · exfalso; omega
            · refine w_aload_n (List.Mem.tail _ (List.Mem.head _)) (tX11_readTown_0_ok (77, .aload_n 0, 1) (List.mem_of_getElem? (i := 42) rfl)) ?_
              refine w_get (own := 16) rfl rfl (by decide) c77 f88 (tX11_readTown_0_ok (78, .getfield 231, 3) (List.mem_of_getElem? (i := 43) rfl)) ?_
              refine w_bipush (by decide) (tX11_readTown_0_ok (81, .bipush 6, 2) (List.mem_of_getElem? (i := 44) rfl)) (fun v162 e163 => ?_)
              refine w_icmp_ne (tgt := 91) (tX11_readTown_0_ok (83, .if_icmp .ne 8, 3) (List.mem_of_getElem? (i := 45) rfl)) rfl (fun b164 => ?_) (fun b164 => ?_)
              · refine w_iload_n (List.Mem.head _) (tX11_readTown_0_ok (91, .iload_n 1, 1) (List.mem_of_getElem? (i := 49) rfl)) ?_
                refine w_if_eq (tgt := 20) (tX11_readTown_0_ok (92, .ifCond .eq (-72), 3) (List.mem_of_getElem? (i := 50) rfl)) rfl (fun b165 => ?_) (fun b165 => ?_)
                · exfalso; omega
                · refine w_aload_n (List.Mem.tail _ (List.Mem.head _)) (tX11_readTown_0_ok (95, .aload_n 0, 1) (List.mem_of_getElem? (i := 51) rfl)) ?_
                  refine w_get (own := 16) rfl rfl (by decide) c77 f83 (tX11_readTown_0_ok (96, .getfield 118, 3) (List.mem_of_getElem? (i := 52) rfl)) ?_
                  refine w_iconst (by decide) (tX11_readTown_0_ok (99, .iconst (-1), 1) (List.mem_of_getElem? (i := 53) rfl)) (fun v166 e167 => ?_)
                  refine w_icmp_ne (tgt := 20) (tX11_readTown_0_ok (100, .if_icmp .ne (-80), 3) (List.mem_of_getElem? (i := 54) rfl)) rfl (fun b168 => ?_) (fun b168 => ?_)
                  · exfalso; omega
                  · refine w_aload_n (List.Mem.tail _ (List.Mem.head _)) (tX11_readTown_0_ok (103, .aload_n 0, 1) (List.mem_of_getElem? (i := 55) rfl)) ?_
                    refine w_dup rfl (tX11_readTown_0_ok (104, .dup, 1) (List.mem_of_getElem? (i := 56) rfl)) ?_
                    refine w_get (own := 16) rfl rfl (by decide) c77 f82 (tX11_readTown_0_ok (105, .getfield 109, 3) (List.mem_of_getElem? (i := 57) rfl)) ?_
                    refine w_iconst (by decide) (tX11_readTown_0_ok (108, .iconst 1, 1) (List.mem_of_getElem? (i := 58) rfl)) (fun v169 e170 => ?_)
                    refine w_iadd (by omega) (by omega) (tX11_readTown_0_ok (109, .iadd, 1) (List.mem_of_getElem? (i := 59) rfl)) (fun v171 e172 => ?_)
                    refine w_putF (own := 16) (ci := 10) (k := 10) rfl rfl (by decide) rfl ⟨rfl, rfl⟩ c77 (by rw [l78]; decide) (tX11_readTown_1_ok (110, .putfield 109, 3) (List.mem_of_getElem? (i := 0) rfl)) (fun h173 fs176 l177 k178 j179 c174 o175 => ?_)
                    rw [l78] at l177
                    have f180 := (j179 5 (by decide)).trans f79
                    have f181 := (j179 8 (by decide)).trans f80
                    have f182 := (j179 9 (by decide)).trans f81
                    have f183 := (j179 11 (by decide)).trans f83
                    have f184 := (j179 12 (by decide)).trans f84
                    have f185 := (j179 21 (by decide)).trans f88
                    have f186 := (j179 4 (by decide)).trans f89
                    have f187 := (j179 19 (by decide)).trans f90
                    have c188 := (o175 tx n_tx_m).trans c85
                    have c189 := (o175 le n_le_m).trans c91
                    have c190 := (o175 ro n_ro_m).trans c92
                    refine w_goto (tgt := 20) (tX11_readTown_1_ok (113, .goto (-93), 3) (List.mem_of_getElem? (i := 1) rfl)) rfl ?_
                    rcases e11 with q9 | ⟨q9, q8, q7, q6, q5⟩
                    · obtain ⟨q8, q7, q6⟩ := sp_is.inr q9 (by omega)
                      have y6 : sp_sk f en.toInt.toNat q8 = sp_sk f en.toInt.toNat at7.toInt.toNat := by congr 1; omega
                      have y7 : sp_tn f en.toInt.toNat j p at0.toInt.toNat = sp_tn f en.toInt.toNat (j - 1) (p + 1) v171.toInt.toNat := by
                        rw [j9, sp_tn, q7]; dsimp only; rw [y6, if_neg (by omega), if_neg (by omega)]; congr 1; omega
                      refine ih (j - 1) (by omega) (p + 1) _ _ _ _ _ _ _ (by omega) (by omega) (by omega) (by omega) (fun _ => h62a) ⟨⟨⟨⟨c174, l177, f180, f181, f182, k178, f183⟩, f184, n_tx_m, c188, hs, hb, by omega, by omega⟩, f186, n_le_m, _, c189⟩, f187, n_ro_m, n_m_ro, n_ro_tx, n_tx_ro, n_le_ro, n_ro_le, c190, td33⟩ f185 (by omega) (fun h1 fs1 at1 fl1 rd1 R1 p1 p2 p8 p3 p4 p5 p6 p7 => hq h1 fs1 at1 fl1 rd1 R1 p1 p2 p8 ?_ ?_ (fun i hi => (p5 i hi).trans (e13 i (by omega))) (fun j hj => (p6 j hj).trans ((j179 j hj.1).trans ((k75 j ⟨hj.1, hj.2.1, hj.2.2.1⟩).trans ((j45 j hj.2.2.2).trans (k14 j ⟨hj.1, hj.2.1, hj.2.2.1⟩))))) (fun q hq => (p7 q hq).trans ((o175 q hq.1).trans ((o76 q hq.1).trans ((o41 q hq.1).trans (o15 q ⟨hq.1, hq.2⟩))))))
                      · rw [y7]; exact p3
                      · rw [y7]; exact p4
                    · exfalso; rw [q7] at g158; omega
              · refine w_aload_n (List.Mem.tail _ (List.Mem.head _)) (tX11_readTown_0_ok (86, .aload_n 0, 1) (List.mem_of_getElem? (i := 46) rfl)) ?_
                refine w_callV (own := 16) (mi := 180) [] [] [(0, .ref m)] rfl (cllw_X11 (124, 0, 180) (List.mem_of_getElem? (i := 11) rfl)) rfl rfl c77 rfl hr1 (w_lo (n := 20) rfl (Nat.le_trans (Nat.le_of_ble_eq_true rfl) hr2)) (Nat.le_of_ble_eq_true rfl) (Nat.le_of_ble_eq_true rfl) rfl (tX11_readTown_0_ok (87, .invokevirtual 124, 3) (List.mem_of_getElem? (i := 47) rfl)) (r_fail ⟨⟨c77, l78, f79, f80, f81, f82, f83⟩, f84, n_tx_m, c85, hs, hb, a86, a87⟩ (fun h191 fs192 fl193 v194 p195 e196 e197 k198 o199 => ?_))
                obtain ⟨⟨c200, l201, f202, f203, f204, f205, f206⟩, f207, -, c208, -, -, a209, a210⟩ := p195
                have f211 := (k198 21 (by decide)).trans f88
                have f212 := (k198 4 (by decide)).trans f89
                have f213 := (k198 19 (by decide)).trans f90
                have c214 := (o199 le n_le_m).trans c91
                show ww l D tys A X fr lo mX11_readTown Q 90 [(1, .int v159), (0, .ref m)] [.int v194] h191
                have c215 := (o199 ro n_ro_m).trans c92
                refine w_pop rfl (tX11_readTown_0_ok (90, .pop, 1) (List.mem_of_getElem? (i := 48) rfl)) ?_
                refine w_iload_n (List.Mem.head _) (tX11_readTown_0_ok (91, .iload_n 1, 1) (List.mem_of_getElem? (i := 49) rfl)) ?_
                refine w_if_eq (tgt := 20) (tX11_readTown_0_ok (92, .ifCond .eq (-72), 3) (List.mem_of_getElem? (i := 50) rfl)) rfl (fun b216 => ?_) (fun b216 => ?_)
                · exfalso; omega
                · refine w_aload_n (List.Mem.tail _ (List.Mem.head _)) (tX11_readTown_0_ok (95, .aload_n 0, 1) (List.mem_of_getElem? (i := 51) rfl)) ?_
                  refine w_get (own := 16) rfl rfl (by decide) c200 f206 (tX11_readTown_0_ok (96, .getfield 118, 3) (List.mem_of_getElem? (i := 52) rfl)) ?_
                  refine w_iconst (by decide) (tX11_readTown_0_ok (99, .iconst (-1), 1) (List.mem_of_getElem? (i := 53) rfl)) (fun v217 e218 => ?_)
                  refine w_icmp_ne (tgt := 20) (tX11_readTown_0_ok (100, .if_icmp .ne (-80), 3) (List.mem_of_getElem? (i := 54) rfl)) rfl (fun b219 => ?_) (fun b219 => ?_)
                  · refine w_iload_n (List.Mem.head _) (tX11_readTown_0_ok (20, .iload_n 1, 1) (List.mem_of_getElem? (i := 12) rfl)) ?_
                    refine w_if_eq (tgt := 116) (tX11_readTown_0_ok (21, .ifCond .eq 95, 3) (List.mem_of_getElem? (i := 13) rfl)) rfl (fun b220 => ?_) (fun b220 => ?_)
                    · exfalso; omega
                    · refine w_aload_n (List.Mem.tail _ (List.Mem.head _)) (tX11_readTown_0_ok (24, .aload_n 0, 1) (List.mem_of_getElem? (i := 14) rfl)) ?_
                      refine w_get (own := 16) rfl rfl (by decide) c200 f206 (tX11_readTown_0_ok (25, .getfield 118, 3) (List.mem_of_getElem? (i := 15) rfl)) ?_
                      refine w_iconst (by decide) (tX11_readTown_0_ok (28, .iconst (-1), 1) (List.mem_of_getElem? (i := 16) rfl)) (fun v221 e222 => ?_)
                      refine w_icmp_ne (tgt := 116) (tX11_readTown_0_ok (29, .if_icmp .ne 87, 3) (List.mem_of_getElem? (i := 17) rfl)) rfl (fun b223 => ?_) (fun b223 => ?_)
                      · refine w_aload_n (List.Mem.tail _ (List.Mem.head _)) (tX11_readTown_1_ok (116, .aload_n 0, 1) (List.mem_of_getElem? (i := 2) rfl)) ?_
                        refine w_get (own := 16) rfl rfl (by decide) c200 f206 (tX11_readTown_1_ok (117, .getfield 118, 3) (List.mem_of_getElem? (i := 3) rfl)) ?_
                        refine w_iconst (by decide) (tX11_readTown_1_ok (120, .iconst (-1), 1) (List.mem_of_getElem? (i := 4) rfl)) (fun v224 e225 => ?_)
                        refine w_icmp_ne (tgt := 137) (tX11_readTown_1_ok (121, .if_icmp .ne 16, 3) (List.mem_of_getElem? (i := 5) rfl)) rfl (fun b226 => ?_) (fun b226 => ?_)
                        · refine w_vret rfl (tX11_readTown_1_ok (137, .return_, 1) (List.mem_of_getElem? (i := 13) rfl)) ?_
                          rcases e11 with q9 | ⟨q9, q8, q7, q6, q5⟩
                          · obtain ⟨q8, q7, q6⟩ := sp_is.inr q9 (by omega)
                            have y6 : sp_sk f en.toInt.toNat q8 = sp_sk f en.toInt.toNat at7.toInt.toNat := by congr 1; omega
                            refine hq h191 fs192 at70 fl193 v37 _ ⟨⟨⟨⟨c200, l201, f202, f203, f204, f205, f206⟩, f207, n_tx_m, c208, hs, hb, a209, a210⟩, f212, n_le_m, _, c214⟩, f213, n_ro_m, n_m_ro, n_ro_tx, n_tx_ro, n_le_ro, n_ro_le, c215, td33⟩ f211 (by omega) ?_ ?_ (fun i hi => e13 i (by omega)) (fun j hj => (k198 j ⟨hj.1, hj.2.1, hj.2.2.1⟩).trans ((k75 j ⟨hj.1, hj.2.1, hj.2.2.1⟩).trans ((j45 j hj.2.2.2).trans (k14 j ⟨hj.1, hj.2.1, hj.2.2.1⟩)))) (fun q hq => (o199 q hq.1).trans ((o76 q hq.1).trans ((o41 q hq.1).trans (o15 q ⟨hq.1, hq.2⟩))))
                            · rw [j9, sp_tn, q7]; dsimp only; rw [y6, if_neg (by omega), if_pos (by omega)]; show _ = _; omega
                            · intro z9; omega
                          · exfalso; rw [q7] at g158; omega
                        · exfalso; omega
                      · exfalso; omega
                  · exfalso; omega
theorem r_readTown (hT : k_tys tys cA) (hX : ∀ s, X s → xs A aK aV s) (hf : 6 ≤ fr) (hl : 240 ≤ lo) (hnz : ∀ i, i < en.toInt.toNat → 1 ≤ (f i).toInt) (hs : sb g f 0 en.toInt.toNat) (hb : 0 ≤ en.toInt ∧ en.toInt ≤ 160 ∧ en.toInt ≤ n) (c_m : h m = some (.inr (10, fs))) (fl : fs.length = 47) (fL1 : fs[1]? = some (.ref tx)) (f4 : fs[4]? = some (.ref le)) (fL6 : fs[6]? = some (.int en)) (f12 : fs[12]? = some (.int dp)) (fL19 : fs[19]? = some (.ref ro)) {rd : Int32} (fL21 : fs[21]? = some (.int rd)) (n_tx_m : tx ≠ m) (n_le_m : le ≠ m) (n_ro_m : ro ≠ m) (n_ro_tx : ro ≠ tx) (n_ro_le : ro ≠ le) (c_x : h tx = some (.inl (cA 2, n, .inl g))) {gl : Nat → Int32} (c_le : h le = some (.inl (cA 0, 128, .inl gl))) (c_ro : h ro = some (.inl (cA 0, 108, .inl R))) (hTD : TD R) (hq : (∀ (h1 : ch_H) (fs1 : List Value) (at1 fl1 rd1 bg1 : Int32) (R1 : Nat → Int32), rr cA h1 m fs1 tx n le ro g f R1 bg1 en at1 fl1 dp → bg1.toInt = 0 → fs1[21]? = some (.int rd1) → 0 ≤ rd1.toInt ∧ rd1.toInt ≤ 6 → sp_is (sp_town f en.toInt.toNat).1 at1 fl1 → (fl1.toInt = -1 → rd1.toInt = ((sp_town f en.toInt.toNat).2 : Nat) ∧ (R1 62).toInt = -1) → (∀ i, i < 54 → R1 i = R i) → (∀ j, j ≠ 5 ∧ j ≠ 8 ∧ j ≠ 9 ∧ j ≠ 10 ∧ j ≠ 11 ∧ j ≠ 12 ∧ j ≠ 21 → fs1[j]? = fs[j]?) → (∀ q, q ≠ m ∧ q ≠ ro → h1 q = h q) → Q none h1)) : ww l D tys A X fr lo mX11_readTown Q 0 [(0, .ref m)] [] h := by
  have hr1 : 1 ≤ fr := by omega
  have hr2 : 30 ≤ lo := by omega
  have n_m_ro := n_ro_m.symm
  have n_tx_ro := n_ro_tx.symm
  have n_le_ro := n_ro_le.symm
  refine w_aload_n (List.Mem.head _) (tX11_readTown_0_ok (0, .aload_n 0, 1) (List.mem_of_getElem? (i := 0) rfl)) ?_
  refine w_aload_n (List.Mem.head _) (tX11_readTown_0_ok (1, .aload_n 0, 1) (List.mem_of_getElem? (i := 1) rfl)) ?_
  refine w_get (own := 16) rfl rfl (by decide) c_m fL1 (tX11_readTown_0_ok (2, .getfield 9, 3) (List.mem_of_getElem? (i := 2) rfl)) ?_
  refine w_iconst (by decide) (tX11_readTown_0_ok (5, .iconst 0, 1) (List.mem_of_getElem? (i := 3) rfl)) (fun v1 e2 => ?_)
  refine w_aload_n (List.Mem.head _) (tX11_readTown_0_ok (6, .aload_n 0, 1) (List.mem_of_getElem? (i := 4) rfl)) ?_
  refine w_get (own := 16) rfl rfl (by decide) c_m fL6 (tX11_readTown_0_ok (7, .getfield 99, 3) (List.mem_of_getElem? (i := 5) rfl)) ?_
  refine w_callV (own := 16) (mi := 222) [.ref tx, .int v1, .int en] [] [(0, .ref m), (1, .ref tx), (2, .int v1), (3, .int en)] rfl (cllw_X11 (197, 0, 222) (List.mem_of_getElem? (i := 4) rfl)) rfl rfl c_m rfl hr1 (w_lo (n := 23) rfl (Nat.le_trans (Nat.le_of_ble_eq_true rfl) hr2)) (Nat.le_of_ble_eq_true rfl) (Nat.le_of_ble_eq_true rfl) rfl (tX11_readTown_0_ok (10, .invokevirtual 197, 3) (List.mem_of_getElem? (i := 6) rfl)) (r_opens c_m fl (fun h3 fs4 at5 fl6 p7 e8 e9 k10 o11 => ?_))
  obtain ⟨c12, l13, f14, f15, f16, f17, f18⟩ := p7
  have f19 := (k10 1 (by decide)).trans fL1
  have f20 := (k10 4 (by decide)).trans f4
  have f21 := (k10 6 (by decide)).trans fL6
  have f22 := (k10 12 (by decide)).trans f12
  have f23 := (k10 19 (by decide)).trans fL19
  have f24 := (k10 21 (by decide)).trans fL21
  have c25 := (o11 tx n_tx_m).trans c_x
  have c26 := (o11 le n_le_m).trans c_le
  have c27 := (o11 ro n_ro_m).trans c_ro
  show ww l D tys A X fr lo mX11_readTown Q 13 [(0, .ref m)] [] h3
  refine w_aload_n (List.Mem.head _) (tX11_readTown_0_ok (13, .aload_n 0, 1) (List.mem_of_getElem? (i := 7) rfl)) ?_
  refine w_iconst (by decide) (tX11_readTown_0_ok (14, .iconst 0, 1) (List.mem_of_getElem? (i := 8) rfl)) (fun v28 e29 => ?_)
  refine w_putF (own := 16) (ci := 10) (k := 21) rfl rfl (by decide) rfl ⟨rfl, rfl⟩ c12 (by rw [l13]; decide) (tX11_readTown_0_ok (15, .putfield 231, 3) (List.mem_of_getElem? (i := 9) rfl)) (fun h30 fs33 l34 k35 j36 c31 o32 => ?_)
  rw [l13] at l34
  have f37 := (j36 5 (by decide)).trans f14
  have f38 := (j36 8 (by decide)).trans f15
  have f39 := (j36 9 (by decide)).trans f16
  have f40 := (j36 10 (by decide)).trans f17
  have f41 := (j36 11 (by decide)).trans f18
  have f42 := (j36 1 (by decide)).trans f19
  have f43 := (j36 4 (by decide)).trans f20
  have f44 := (j36 6 (by decide)).trans f21
  have f45 := (j36 12 (by decide)).trans f22
  have f46 := (j36 19 (by decide)).trans f23
  have c47 := (o32 tx n_tx_m).trans c25
  have c48 := (o32 le n_le_m).trans c26
  have c49 := (o32 ro n_ro_m).trans c27
  refine w_iconst (by decide) (tX11_readTown_0_ok (18, .iconst 1, 1) (List.mem_of_getElem? (i := 10) rfl)) (fun v50 e51 => ?_)
  refine w_istore_n [(1, .int v50), (0, .ref m)] rfl (Nat.le_of_ble_eq_true rfl) (tX11_readTown_0_ok (19, .istore_n 1, 1) (List.mem_of_getElem? (i := 11) rfl)) ?_
  have hs9 : sb g f v1.toInt.toNat en.toInt.toNat := by have z9 : v1.toInt.toNat = 0 := (by omega); rw [z9]; exact hs
  refine w_lv [(1, .int v50), (0, .ref m)] (by intro q hq; simp only [List.mem_cons, List.not_mem_nil, or_false] at hq ⊢; rcases hq with e | e <;> subst e <;> simp) ?_
  have y7 : sp_town f en.toInt.toNat = sp_tn f en.toInt.toNat 6 0 at5.toInt.toNat := by unfold sp_town; congr 1; omega
  refine r_townL hT hX (by omega) (by omega) hnz 6 0 _ _ _ _ _ _ _ (by omega) (by omega) (by omega) (by omega) (fun z9 => by omega) ⟨⟨⟨⟨c31, l34, f37, f38, f39, f40, f41⟩, f45, n_tx_m, c47, hs9, ⟨by omega, by omega, by omega, by omega, by omega⟩, by omega, by omega⟩, f43, n_le_m, _, c48⟩, f46, n_ro_m, n_m_ro, n_ro_tx, n_tx_ro, n_le_ro, n_ro_le, c49, hTD⟩ k35 (by omega) (fun h1 fs1 at1 fl1 rd1 R1 p1 p2 p8 p3 p4 p5 p6 p7 => hq h1 fs1 at1 fl1 rd1 v1 R1 p1 (by omega) p2 p8 ?_ ?_ p5 (fun j hj => (p6 j ⟨hj.2.2.2.1, hj.2.2.2.2.1, hj.2.2.2.2.2.1, hj.2.2.2.2.2.2⟩).trans ((j36 j hj.2.2.2.2.2.2).trans (k10 j ⟨hj.1, hj.2.1, hj.2.2.1, hj.2.2.2.1, hj.2.2.2.2.1⟩))) (fun q hq => (p7 q hq).trans ((o32 q hq.1).trans (o11 q hq.1))))
  · rw [y7]; exact p3
  · rw [y7]; exact p4
end
