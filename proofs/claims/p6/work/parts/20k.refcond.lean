/-! the reference: comparisons, units, conditions -/
section
variable {l : Launch} {D : va_G} {tys : List (ClassId × FieldType)} {A : Nat → Prop} {X : State → Prop} {fr lo : Nat} {Q : Option Value → ch_H → Prop} {cA : Nat → ClassId} {h : ch_H} {m tx n le : Nat} {fs : List Value} {g f : Nat → Int32} {bg en at0 fl0 dp : Int32} {aK aV : Nat → Nat}
theorem r_cmp0 (hT : k_tys tys cA) {d : Nat} {N : Nat → Nat ⊕ Nat} {dv : Int} (hdv : 0 ≤ dv ∧ dv ≤ 6) (hsum : PM l D tys A X cA m tx n le g f bg en mX11_sum [(0, .ref m)] (dv) false (fun n9 a9 fl9 => sp_is (sp_sum f en.toInt.toNat N n9) a9 fl9) (3 * d + 8) (75 * d + 190)) {hs1 rd1 : Int32} (hh : hs1.toInt = 0) : PM l D tys A X cA m tx n le g f bg en mX11_compares [(0, .ref m), (1, .int hs1), (2, .int rd1)] (dv) true (fun n9 a9 fl9 => sp_is (sp_bd (sp_sum f en.toInt.toNat N n9) (sp_cm f en.toInt.toNat N)) a9 fl9) (3 * d + 9) (75 * d + 215) := by
  intro fr lo Q h fs at0 fl0 dp hf hl hfl hdp H hq
  have hr1 : 1 ≤ fr := by omega
  have hr2 : 30 ≤ lo := by omega
  obtain ⟨⟨⟨c_m, fl, f5, f8, f9, f10, f11⟩, f12, n_tx_m, c_x, hs, hb, ha⟩, f4, n_le_m, gl, c_le⟩ := H
  refine w_iload_n (List.Mem.tail _ (List.Mem.head _)) (tX11_compares_0_ok (0, .iload_n 1, 1) (List.mem_of_getElem? (i := 0) rfl)) ?_
  refine w_if_eq (tgt := 8) (tX11_compares_0_ok (1, .ifCond .eq 7, 3) (List.mem_of_getElem? (i := 1) rfl)) rfl (fun b1 => ?_) (fun b1 => ?_)
  · refine w_aload_n (List.Mem.head _) (tX11_compares_0_ok (8, .aload_n 0, 1) (List.mem_of_getElem? (i := 4) rfl)) ?_
    refine w_callV (own := 16) (mi := 246) [] [] [(0, .ref m)] rfl (cllw_X11 (151, 0, 246) (List.mem_of_getElem? (i := 25) rfl)) rfl rfl c_m rfl hr1 (w_lo (n := 24) rfl (Nat.le_trans (Nat.le_of_ble_eq_true rfl) hr2)) (Nat.le_of_ble_eq_true rfl) (Nat.le_of_ble_eq_true rfl) rfl (tX11_compares_0_ok (9, .invokevirtual 151, 3) (List.mem_of_getElem? (i := 5) rfl)) (hsum _ _ _ _ _ _ _ _ (by omega) (w_sub (n := 24) rfl (by omega)) (by omega) (by omega) ⟨⟨⟨c_m, fl, f5, f8, f9, f10, f11⟩, f12, n_tx_m, c_x, hs, hb, ha.1, ha.2⟩, f4, n_le_m, _, c_le⟩ (fun h2 fs3 at4 fl5 dp6 v7 p8 e9 e10 e11 k12 o13 => ?_))
    dsimp only at e9
    have p14 := p8.1
    obtain ⟨⟨c15, l16, f17, f18, f19, f20, f21⟩, f22, -, c23, -, -, a24, a25⟩ := p14
    have f26 := (k12 4 (by decide)).trans f4
    have c27 := (o13 le n_le_m).trans c_le
    show ww l D tys A X fr lo mX11_compares Q 12 [(0, .ref m), (1, .int hs1), (2, .int rd1)] [.int v7] h2
    refine w_istore_n [(3, .int v7), (0, .ref m), (1, .int hs1), (2, .int rd1)] rfl (Nat.le_of_ble_eq_true rfl) (tX11_compares_0_ok (12, .istore_n 3, 1) (List.mem_of_getElem? (i := 6) rfl)) ?_
    refine w_aload_n (List.Mem.tail _ (List.Mem.head _)) (tX11_compares_0_ok (13, .aload_n 0, 1) (List.mem_of_getElem? (i := 7) rfl)) ?_
    refine w_get (own := 16) rfl rfl (by decide) c15 f21 (tX11_compares_0_ok (14, .getfield 118, 3) (List.mem_of_getElem? (i := 8) rfl)) ?_
    refine w_iconst (by decide) (tX11_compares_0_ok (17, .iconst (-1), 1) (List.mem_of_getElem? (i := 9) rfl)) (fun v28 e29 => ?_)
    refine w_icmp_eq (tgt := 23) (tX11_compares_0_ok (18, .if_icmp .eq 5, 3) (List.mem_of_getElem? (i := 10) rfl)) rfl (fun b30 => ?_) (fun b30 => ?_)
    · refine w_aload_n (List.Mem.tail _ (List.Mem.head _)) (tX11_compares_0_ok (23, .aload_n 0, 1) (List.mem_of_getElem? (i := 13) rfl)) ?_
      refine w_callV (own := 16) (mi := 212) [] [] [(0, .ref m)] rfl (cllw_X11 (128, 0, 212) (List.mem_of_getElem? (i := 7) rfl)) rfl rfl c15 rfl hr1 (w_lo (n := 20) rfl (Nat.le_trans (Nat.le_of_ble_eq_true rfl) hr2)) (Nat.le_of_ble_eq_true rfl) (Nat.le_of_ble_eq_true rfl) rfl (tX11_compares_0_ok (24, .invokevirtual 128, 3) (List.mem_of_getElem? (i := 14) rfl)) (r_look hT ⟨⟨c15, l16, f17, f18, f19, f20, f21⟩, f22, n_tx_m, c23, hs, hb, a24, a25⟩ (fun h31 fs32 at33 v34 p35 e36 e37 k38 o39 => ?_))
      obtain ⟨⟨c40, l41, f42, f43, f44, f45, f46⟩, f47, -, c48, -, -, a49, a50⟩ := p35
      have f51 := (k38 4 (by decide)).trans f26
      have c52 := (o39 le n_le_m).trans c27
      show ww l D tys A X fr lo mX11_compares Q 27 [(3, .int v7), (0, .ref m), (1, .int hs1), (2, .int rd1)] [.int v34] h31
      refine w_istore [(4, .int v34), (3, .int v7), (0, .ref m), (1, .int hs1), (2, .int rd1)] rfl (Nat.le_of_ble_eq_true rfl) (tX11_compares_0_ok (27, .istore 4, 2) (List.mem_of_getElem? (i := 15) rfl)) ?_
      refine w_iload (List.Mem.head _) (tX11_compares_0_ok (29, .iload 4, 2) (List.mem_of_getElem? (i := 16) rfl)) ?_
      refine w_callS (own := 16) (mi := 206) [.int v34] [] [(0, .int v34)] rfl (cllw_X11 (171, 1, 206) (List.mem_of_getElem? (i := 30) rfl)) rfl rfl hr1 (w_lo (n := 20) rfl (Nat.le_trans (Nat.le_of_ble_eq_true rfl) hr2)) (Nat.le_of_ble_eq_true rfl) (Nat.le_of_ble_eq_true rfl) rfl (tX11_compares_0_ok (31, .invokestatic 171, 3) (List.mem_of_getElem? (i := 17) rfl)) (r_isSign (fun v53 e54 => ?_))
      show ww l D tys A X fr lo mX11_compares Q 34 [(4, .int v34), (3, .int v7), (0, .ref m), (1, .int hs1), (2, .int rd1)] [.int v53] h31
      refine w_if_ne (tgt := 42) (tX11_compares_0_ok (34, .ifCond .ne 8, 3) (List.mem_of_getElem? (i := 18) rfl)) rfl (fun b55 => ?_) (fun b55 => ?_)
      · refine w_aload_n (List.Mem.tail _ (List.Mem.tail _ (List.Mem.head _))) (tX11_compares_0_ok (42, .aload_n 0, 1) (List.mem_of_getElem? (i := 22) rfl)) ?_
        refine w_dup rfl (tX11_compares_0_ok (43, .dup, 1) (List.mem_of_getElem? (i := 23) rfl)) ?_
        refine w_get (own := 16) rfl rfl (by decide) c40 f45 (tX11_compares_0_ok (44, .getfield 109, 3) (List.mem_of_getElem? (i := 24) rfl)) ?_
        refine w_iconst (by decide) (tX11_compares_0_ok (47, .iconst 1, 1) (List.mem_of_getElem? (i := 25) rfl)) (fun v56 e57 => ?_)
        refine w_iadd (by omega) (by omega) (tX11_compares_0_ok (48, .iadd, 1) (List.mem_of_getElem? (i := 26) rfl)) (fun v58 e59 => ?_)
        refine w_putF (own := 16) rfl rfl (by decide) rfl ⟨rfl, rfl⟩ c40 (by rw [l41]; decide) (tX11_compares_0_ok (49, .putfield 109, 3) (List.mem_of_getElem? (i := 27) rfl)) (fun h60 fs63 l64 k65 j66 c61 o62 => ?_)
        rw [l41] at l64
        have f67 := (j66 5 (by decide)).trans f42
        have f68 := (j66 8 (by decide)).trans f43
        have f69 := (j66 9 (by decide)).trans f44
        have f70 := (j66 11 (by decide)).trans f46
        have f71 := (j66 12 (by decide)).trans f47
        have f72 := (j66 4 (by decide)).trans f51
        have c73 := (o62 tx n_tx_m).trans c48
        have c74 := (o62 le n_le_m).trans c52
        refine w_aload_n (List.Mem.tail _ (List.Mem.tail _ (List.Mem.head _))) (tX11_compares_0_ok (52, .aload_n 0, 1) (List.mem_of_getElem? (i := 28) rfl)) ?_
        refine w_callV (own := 16) (mi := 246) [] [] [(0, .ref m)] rfl (cllw_X11 (151, 0, 246) (List.mem_of_getElem? (i := 25) rfl)) rfl rfl c61 rfl hr1 (w_lo (n := 24) rfl (Nat.le_trans (Nat.le_of_ble_eq_true rfl) hr2)) (Nat.le_of_ble_eq_true rfl) (Nat.le_of_ble_eq_true rfl) rfl (tX11_compares_0_ok (53, .invokevirtual 151, 3) (List.mem_of_getElem? (i := 29) rfl)) (hsum _ _ _ _ _ _ _ _ (by omega) (w_sub (n := 24) rfl (by omega)) (by omega) (by omega) ⟨⟨⟨c61, l64, f67, f68, f69, k65, f70⟩, f71, n_tx_m, c73, hs, hb, by omega, by omega⟩, f72, n_le_m, _, c74⟩ (fun h75 fs76 at77 fl78 dp79 v80 p81 e82 e83 e84 k85 o86 => ?_))
        dsimp only at e82
        have p87 := p81.1
        obtain ⟨⟨c88, l89, f90, f91, f92, f93, f94⟩, f95, -, c96, -, -, a97, a98⟩ := p87
        have f99 := (k85 4 (by decide)).trans f72
        have c100 := (o86 le n_le_m).trans c74
        show ww l D tys A X fr lo mX11_compares Q 56 [(4, .int v34), (3, .int v7), (0, .ref m), (1, .int hs1), (2, .int rd1)] [.int v80] h75
        refine w_istore [(5, .int v80), (4, .int v34), (3, .int v7), (0, .ref m), (1, .int hs1), (2, .int rd1)] rfl (Nat.le_of_ble_eq_true rfl) (tX11_compares_0_ok (56, .istore 5, 2) (List.mem_of_getElem? (i := 30) rfl)) ?_
        refine w_iload (List.Mem.tail _ (List.Mem.head _)) (tX11_compares_0_ok (58, .iload 4, 2) (List.mem_of_getElem? (i := 31) rfl)) ?_
        refine w_bipush (by decide) (tX11_compares_0_ok (60, .bipush 61, 2) (List.mem_of_getElem? (i := 32) rfl)) (fun v101 e102 => ?_)
        refine w_icmp_ne (tgt := 79) (tX11_compares_0_ok (62, .if_icmp .ne 17, 3) (List.mem_of_getElem? (i := 33) rfl)) rfl (fun b103 => ?_) (fun b103 => ?_)
        · refine w_iload (List.Mem.tail _ (List.Mem.head _)) (tX11_compares_0_ok (79, .iload 4, 2) (List.mem_of_getElem? (i := 41) rfl)) ?_
          refine w_bipush (by decide) (tX11_compares_0_ok (81, .bipush 60, 2) (List.mem_of_getElem? (i := 42) rfl)) (fun v104 e105 => ?_)
          refine w_icmp_ne (tgt := 100) (tX11_compares_0_ok (83, .if_icmp .ne 17, 3) (List.mem_of_getElem? (i := 43) rfl)) rfl (fun b106 => ?_) (fun b106 => ?_)
          · refine w_iload_n (List.Mem.tail _ (List.Mem.tail _ (List.Mem.head _))) (tX11_compares_0_ok (100, .iload_n 3, 1) (List.mem_of_getElem? (i := 51) rfl)) ?_
            refine w_iload (List.Mem.head _) (tX11_compares_0_ok (101, .iload 5, 2) (List.mem_of_getElem? (i := 52) rfl)) ?_
            refine w_icmp_le (tgt := 110) (tX11_compares_0_ok (103, .if_icmp .le 7, 3) (List.mem_of_getElem? (i := 53) rfl)) rfl (fun b107 => ?_) (fun b107 => ?_)
            · refine w_iconst (by decide) (tX11_compares_0_ok (110, .iconst 0, 1) (List.mem_of_getElem? (i := 56) rfl)) (fun v108 e109 => ?_)
              refine w_zret rfl (by omega) (by omega) (tX11_compares_0_ok (111, .ireturn, 1) (List.mem_of_getElem? (i := 57) rfl)) ?_
              refine hq h75 fs76 at77 fl78 dp79 v108 ⟨⟨⟨c88, l89, f90, f91, f92, f93, f94⟩, f95, n_tx_m, c96, hs, hb, a97, a98⟩, f99, n_le_m, _, c100⟩ ?_ (by omega) (fun _ => by omega) (fun j hj => (k85 j hj).trans ((j66 j hj.1).trans ((k38 j hj).trans (k12 j hj)))) (fun q hq => (o86 q hq).trans ((o62 q hq).trans ((o39 q hq).trans (o13 q hq))))
              dsimp only
              have y1 : v58.toInt.toNat = sp_sk f en.toInt.toNat at4.toInt.toNat + 1 := by omega
              rw [y1] at e82
              refine sp_is.bd e9 (Or.inr ⟨by omega, ?_⟩)
              unfold sp_cm
              rw [if_pos (by omega)]
              exact e82
            · refine w_iconst (by decide) (tX11_compares_0_ok (106, .iconst 1, 1) (List.mem_of_getElem? (i := 54) rfl)) (fun v110 e111 => ?_)
              refine w_goto (tgt := 111) (tX11_compares_0_ok (107, .goto 4, 3) (List.mem_of_getElem? (i := 55) rfl)) rfl ?_
              refine w_zret rfl (by omega) (by omega) (tX11_compares_0_ok (111, .ireturn, 1) (List.mem_of_getElem? (i := 57) rfl)) ?_
              refine hq h75 fs76 at77 fl78 dp79 v110 ⟨⟨⟨c88, l89, f90, f91, f92, f93, f94⟩, f95, n_tx_m, c96, hs, hb, a97, a98⟩, f99, n_le_m, _, c100⟩ ?_ (by omega) (fun _ => by omega) (fun j hj => (k85 j hj).trans ((j66 j hj.1).trans ((k38 j hj).trans (k12 j hj)))) (fun q hq => (o86 q hq).trans ((o62 q hq).trans ((o39 q hq).trans (o13 q hq))))
              dsimp only
              have y1 : v58.toInt.toNat = sp_sk f en.toInt.toNat at4.toInt.toNat + 1 := by omega
              rw [y1] at e82
              refine sp_is.bd e9 (Or.inr ⟨by omega, ?_⟩)
              unfold sp_cm
              rw [if_pos (by omega)]
              exact e82
          · refine w_iload_n (List.Mem.tail _ (List.Mem.tail _ (List.Mem.head _))) (tX11_compares_0_ok (86, .iload_n 3, 1) (List.mem_of_getElem? (i := 44) rfl)) ?_
            refine w_iload (List.Mem.head _) (tX11_compares_0_ok (87, .iload 5, 2) (List.mem_of_getElem? (i := 45) rfl)) ?_
            refine w_icmp_ge (tgt := 96) (tX11_compares_0_ok (89, .if_icmp .ge 7, 3) (List.mem_of_getElem? (i := 46) rfl)) rfl (fun b112 => ?_) (fun b112 => ?_)
            · refine w_iconst (by decide) (tX11_compares_0_ok (96, .iconst 0, 1) (List.mem_of_getElem? (i := 49) rfl)) (fun v113 e114 => ?_)
              refine w_goto (tgt := 111) (tX11_compares_0_ok (97, .goto 14, 3) (List.mem_of_getElem? (i := 50) rfl)) rfl ?_
              refine w_zret rfl (by omega) (by omega) (tX11_compares_0_ok (111, .ireturn, 1) (List.mem_of_getElem? (i := 57) rfl)) ?_
              refine hq h75 fs76 at77 fl78 dp79 v113 ⟨⟨⟨c88, l89, f90, f91, f92, f93, f94⟩, f95, n_tx_m, c96, hs, hb, a97, a98⟩, f99, n_le_m, _, c100⟩ ?_ (by omega) (fun _ => by omega) (fun j hj => (k85 j hj).trans ((j66 j hj.1).trans ((k38 j hj).trans (k12 j hj)))) (fun q hq => (o86 q hq).trans ((o62 q hq).trans ((o39 q hq).trans (o13 q hq))))
              dsimp only
              have y1 : v58.toInt.toNat = sp_sk f en.toInt.toNat at4.toInt.toNat + 1 := by omega
              rw [y1] at e82
              refine sp_is.bd e9 (Or.inr ⟨by omega, ?_⟩)
              unfold sp_cm
              rw [if_pos (by omega)]
              exact e82
            · refine w_iconst (by decide) (tX11_compares_0_ok (92, .iconst 1, 1) (List.mem_of_getElem? (i := 47) rfl)) (fun v115 e116 => ?_)
              refine w_goto (tgt := 111) (tX11_compares_0_ok (93, .goto 18, 3) (List.mem_of_getElem? (i := 48) rfl)) rfl ?_
              refine w_zret rfl (by omega) (by omega) (tX11_compares_0_ok (111, .ireturn, 1) (List.mem_of_getElem? (i := 57) rfl)) ?_
              refine hq h75 fs76 at77 fl78 dp79 v115 ⟨⟨⟨c88, l89, f90, f91, f92, f93, f94⟩, f95, n_tx_m, c96, hs, hb, a97, a98⟩, f99, n_le_m, _, c100⟩ ?_ (by omega) (fun _ => by omega) (fun j hj => (k85 j hj).trans ((j66 j hj.1).trans ((k38 j hj).trans (k12 j hj)))) (fun q hq => (o86 q hq).trans ((o62 q hq).trans ((o39 q hq).trans (o13 q hq))))
              dsimp only
              have y1 : v58.toInt.toNat = sp_sk f en.toInt.toNat at4.toInt.toNat + 1 := by omega
              rw [y1] at e82
              refine sp_is.bd e9 (Or.inr ⟨by omega, ?_⟩)
              unfold sp_cm
              rw [if_pos (by omega)]
              exact e82
        · refine w_iload_n (List.Mem.tail _ (List.Mem.tail _ (List.Mem.head _))) (tX11_compares_0_ok (65, .iload_n 3, 1) (List.mem_of_getElem? (i := 34) rfl)) ?_
          refine w_iload (List.Mem.head _) (tX11_compares_0_ok (66, .iload 5, 2) (List.mem_of_getElem? (i := 35) rfl)) ?_
          refine w_icmp_ne (tgt := 75) (tX11_compares_0_ok (68, .if_icmp .ne 7, 3) (List.mem_of_getElem? (i := 36) rfl)) rfl (fun b117 => ?_) (fun b117 => ?_)
          · refine w_iconst (by decide) (tX11_compares_0_ok (75, .iconst 0, 1) (List.mem_of_getElem? (i := 39) rfl)) (fun v118 e119 => ?_)
            refine w_goto (tgt := 111) (tX11_compares_0_ok (76, .goto 35, 3) (List.mem_of_getElem? (i := 40) rfl)) rfl ?_
            refine w_zret rfl (by omega) (by omega) (tX11_compares_0_ok (111, .ireturn, 1) (List.mem_of_getElem? (i := 57) rfl)) ?_
            refine hq h75 fs76 at77 fl78 dp79 v118 ⟨⟨⟨c88, l89, f90, f91, f92, f93, f94⟩, f95, n_tx_m, c96, hs, hb, a97, a98⟩, f99, n_le_m, _, c100⟩ ?_ (by omega) (fun _ => by omega) (fun j hj => (k85 j hj).trans ((j66 j hj.1).trans ((k38 j hj).trans (k12 j hj)))) (fun q hq => (o86 q hq).trans ((o62 q hq).trans ((o39 q hq).trans (o13 q hq))))
            dsimp only
            have y1 : v58.toInt.toNat = sp_sk f en.toInt.toNat at4.toInt.toNat + 1 := by omega
            rw [y1] at e82
            refine sp_is.bd e9 (Or.inr ⟨by omega, ?_⟩)
            unfold sp_cm
            rw [if_pos (by omega)]
            exact e82
          · refine w_iconst (by decide) (tX11_compares_0_ok (71, .iconst 1, 1) (List.mem_of_getElem? (i := 37) rfl)) (fun v120 e121 => ?_)
            refine w_goto (tgt := 111) (tX11_compares_0_ok (72, .goto 39, 3) (List.mem_of_getElem? (i := 38) rfl)) rfl ?_
            refine w_zret rfl (by omega) (by omega) (tX11_compares_0_ok (111, .ireturn, 1) (List.mem_of_getElem? (i := 57) rfl)) ?_
            refine hq h75 fs76 at77 fl78 dp79 v120 ⟨⟨⟨c88, l89, f90, f91, f92, f93, f94⟩, f95, n_tx_m, c96, hs, hb, a97, a98⟩, f99, n_le_m, _, c100⟩ ?_ (by omega) (fun _ => by omega) (fun j hj => (k85 j hj).trans ((j66 j hj.1).trans ((k38 j hj).trans (k12 j hj)))) (fun q hq => (o86 q hq).trans ((o62 q hq).trans ((o39 q hq).trans (o13 q hq))))
            dsimp only
            have y1 : v58.toInt.toNat = sp_sk f en.toInt.toNat at4.toInt.toNat + 1 := by omega
            rw [y1] at e82
            refine sp_is.bd e9 (Or.inr ⟨by omega, ?_⟩)
            unfold sp_cm
            rw [if_pos (by omega)]
            exact e82
      · refine w_aload_n (List.Mem.tail _ (List.Mem.tail _ (List.Mem.head _))) (tX11_compares_0_ok (37, .aload_n 0, 1) (List.mem_of_getElem? (i := 19) rfl)) ?_
        refine w_callV (own := 16) (mi := 180) [] [] [(0, .ref m)] rfl (cllw_X11 (124, 0, 180) (List.mem_of_getElem? (i := 11) rfl)) rfl rfl c40 rfl hr1 (w_lo (n := 20) rfl (Nat.le_trans (Nat.le_of_ble_eq_true rfl) hr2)) (Nat.le_of_ble_eq_true rfl) (Nat.le_of_ble_eq_true rfl) rfl (tX11_compares_0_ok (38, .invokevirtual 124, 3) (List.mem_of_getElem? (i := 20) rfl)) (r_fail ⟨⟨c40, l41, f42, f43, f44, f45, f46⟩, f47, n_tx_m, c48, hs, hb, a49, a50⟩ (fun h122 fs123 fl124 v125 p126 e127 e128 k129 o130 => ?_))
        obtain ⟨⟨c131, l132, f133, f134, f135, f136, f137⟩, f138, -, c139, -, -, a140, a141⟩ := p126
        have f142 := (k129 4 (by decide)).trans f51
        have c143 := (o130 le n_le_m).trans c52
        show ww l D tys A X fr lo mX11_compares Q 41 [(4, .int v34), (3, .int v7), (0, .ref m), (1, .int hs1), (2, .int rd1)] [.int v125] h122
        refine w_zret rfl (by omega) (by omega) (tX11_compares_0_ok (41, .ireturn, 1) (List.mem_of_getElem? (i := 21) rfl)) ?_
        refine hq h122 fs123 at33 fl124 dp6 v125 ⟨⟨⟨c131, l132, f133, f134, f135, f136, f137⟩, f138, n_tx_m, c139, hs, hb, a140, a141⟩, f142, n_le_m, _, c143⟩ ?_ (by omega) (fun _ => by omega) (fun j hj => (k129 j hj).trans ((k38 j hj).trans (k12 j hj))) (fun q hq => (o130 q hq).trans ((o39 q hq).trans (o13 q hq)))
        dsimp only
        refine sp_is.bd e9 (Or.inr ⟨by omega, ?_⟩)
        unfold sp_cm
        rw [if_neg (by omega)]
        show _ = _
        omega
    · refine w_iconst (by decide) (tX11_compares_0_ok (21, .iconst 0, 1) (List.mem_of_getElem? (i := 11) rfl)) (fun v144 e145 => ?_)
      refine w_zret rfl (by omega) (by omega) (tX11_compares_0_ok (22, .ireturn, 1) (List.mem_of_getElem? (i := 12) rfl)) ?_
      refine hq h2 fs3 at4 fl5 dp6 v144 ⟨⟨⟨c15, l16, f17, f18, f19, f20, f21⟩, f22, n_tx_m, c23, hs, hb, a24, a25⟩, f26, n_le_m, _, c27⟩ ?_ (by omega) (fun _ => by omega) (fun j hj => k12 j hj) (fun q hq => o13 q hq)
      dsimp only
      exact sp_is.bd e9 (Or.inl ⟨by omega, rfl⟩)
  · exfalso; omega
theorem r_cmp1 (hT : k_tys tys cA) {d : Nat} {N : Nat → Nat ⊕ Nat} {dv : Int} (hdv : 0 ≤ dv ∧ dv ≤ 6) (hsum : PM l D tys A X cA m tx n le g f bg en mX11_sum [(0, .ref m)] (dv) false (fun n9 a9 fl9 => sp_is (sp_sum f en.toInt.toNat N n9) a9 fl9) (3 * d + 8) (75 * d + 190)) {hs1 rd1 : Int32} (hh : hs1.toInt = 1) : PM l D tys A X cA m tx n le g f bg en mX11_compares [(0, .ref m), (1, .int hs1), (2, .int rd1)] (dv) true (fun n9 a9 fl9 => sp_is (sp_cm f en.toInt.toNat N n9) a9 fl9) (3 * d + 9) (75 * d + 215) := by
  intro fr lo Q h fs at0 fl0 dp hf hl hfl hdp H hq
  have hr1 : 1 ≤ fr := by omega
  have hr2 : 30 ≤ lo := by omega
  obtain ⟨⟨⟨c_m, fl, f5, f8, f9, f10, f11⟩, f12, n_tx_m, c_x, hs, hb, ha⟩, f4, n_le_m, gl, c_le⟩ := H
  refine w_iload_n (List.Mem.tail _ (List.Mem.head _)) (tX11_compares_0_ok (0, .iload_n 1, 1) (List.mem_of_getElem? (i := 0) rfl)) ?_
  refine w_if_eq (tgt := 8) (tX11_compares_0_ok (1, .ifCond .eq 7, 3) (List.mem_of_getElem? (i := 1) rfl)) rfl (fun b1 => ?_) (fun b1 => ?_)
  · exfalso; omega
  · refine w_iload_n (List.Mem.tail _ (List.Mem.tail _ (List.Mem.head _))) (tX11_compares_0_ok (4, .iload_n 2, 1) (List.mem_of_getElem? (i := 2) rfl)) ?_
    refine w_goto (tgt := 12) (tX11_compares_0_ok (5, .goto 7, 3) (List.mem_of_getElem? (i := 3) rfl)) rfl ?_
    refine w_istore_n [(3, .int rd1), (0, .ref m), (1, .int hs1), (2, .int rd1)] rfl (Nat.le_of_ble_eq_true rfl) (tX11_compares_0_ok (12, .istore_n 3, 1) (List.mem_of_getElem? (i := 6) rfl)) ?_
    refine w_aload_n (List.Mem.tail _ (List.Mem.head _)) (tX11_compares_0_ok (13, .aload_n 0, 1) (List.mem_of_getElem? (i := 7) rfl)) ?_
    refine w_get (own := 16) rfl rfl (by decide) c_m f11 (tX11_compares_0_ok (14, .getfield 118, 3) (List.mem_of_getElem? (i := 8) rfl)) ?_
    refine w_iconst (by decide) (tX11_compares_0_ok (17, .iconst (-1), 1) (List.mem_of_getElem? (i := 9) rfl)) (fun v2 e3 => ?_)
    refine w_icmp_eq (tgt := 23) (tX11_compares_0_ok (18, .if_icmp .eq 5, 3) (List.mem_of_getElem? (i := 10) rfl)) rfl (fun b4 => ?_) (fun b4 => ?_)
    · refine w_aload_n (List.Mem.tail _ (List.Mem.head _)) (tX11_compares_0_ok (23, .aload_n 0, 1) (List.mem_of_getElem? (i := 13) rfl)) ?_
      refine w_callV (own := 16) (mi := 212) [] [] [(0, .ref m)] rfl (cllw_X11 (128, 0, 212) (List.mem_of_getElem? (i := 7) rfl)) rfl rfl c_m rfl hr1 (w_lo (n := 20) rfl (Nat.le_trans (Nat.le_of_ble_eq_true rfl) hr2)) (Nat.le_of_ble_eq_true rfl) (Nat.le_of_ble_eq_true rfl) rfl (tX11_compares_0_ok (24, .invokevirtual 128, 3) (List.mem_of_getElem? (i := 14) rfl)) (r_look hT ⟨⟨c_m, fl, f5, f8, f9, f10, f11⟩, f12, n_tx_m, c_x, hs, hb, ha.1, ha.2⟩ (fun h5 fs6 at7 v8 p9 e10 e11 k12 o13 => ?_))
      obtain ⟨⟨c14, l15, f16, f17, f18, f19, f20⟩, f21, -, c22, -, -, a23, a24⟩ := p9
      have f25 := (k12 4 (by decide)).trans f4
      have c26 := (o13 le n_le_m).trans c_le
      show ww l D tys A X fr lo mX11_compares Q 27 [(3, .int rd1), (0, .ref m), (1, .int hs1), (2, .int rd1)] [.int v8] h5
      refine w_istore [(4, .int v8), (3, .int rd1), (0, .ref m), (1, .int hs1), (2, .int rd1)] rfl (Nat.le_of_ble_eq_true rfl) (tX11_compares_0_ok (27, .istore 4, 2) (List.mem_of_getElem? (i := 15) rfl)) ?_
      refine w_iload (List.Mem.head _) (tX11_compares_0_ok (29, .iload 4, 2) (List.mem_of_getElem? (i := 16) rfl)) ?_
      refine w_callS (own := 16) (mi := 206) [.int v8] [] [(0, .int v8)] rfl (cllw_X11 (171, 1, 206) (List.mem_of_getElem? (i := 30) rfl)) rfl rfl hr1 (w_lo (n := 20) rfl (Nat.le_trans (Nat.le_of_ble_eq_true rfl) hr2)) (Nat.le_of_ble_eq_true rfl) (Nat.le_of_ble_eq_true rfl) rfl (tX11_compares_0_ok (31, .invokestatic 171, 3) (List.mem_of_getElem? (i := 17) rfl)) (r_isSign (fun v27 e28 => ?_))
      show ww l D tys A X fr lo mX11_compares Q 34 [(4, .int v8), (3, .int rd1), (0, .ref m), (1, .int hs1), (2, .int rd1)] [.int v27] h5
      refine w_if_ne (tgt := 42) (tX11_compares_0_ok (34, .ifCond .ne 8, 3) (List.mem_of_getElem? (i := 18) rfl)) rfl (fun b29 => ?_) (fun b29 => ?_)
      · refine w_aload_n (List.Mem.tail _ (List.Mem.tail _ (List.Mem.head _))) (tX11_compares_0_ok (42, .aload_n 0, 1) (List.mem_of_getElem? (i := 22) rfl)) ?_
        refine w_dup rfl (tX11_compares_0_ok (43, .dup, 1) (List.mem_of_getElem? (i := 23) rfl)) ?_
        refine w_get (own := 16) rfl rfl (by decide) c14 f19 (tX11_compares_0_ok (44, .getfield 109, 3) (List.mem_of_getElem? (i := 24) rfl)) ?_
        refine w_iconst (by decide) (tX11_compares_0_ok (47, .iconst 1, 1) (List.mem_of_getElem? (i := 25) rfl)) (fun v30 e31 => ?_)
        refine w_iadd (by omega) (by omega) (tX11_compares_0_ok (48, .iadd, 1) (List.mem_of_getElem? (i := 26) rfl)) (fun v32 e33 => ?_)
        refine w_putF (own := 16) rfl rfl (by decide) rfl ⟨rfl, rfl⟩ c14 (by rw [l15]; decide) (tX11_compares_0_ok (49, .putfield 109, 3) (List.mem_of_getElem? (i := 27) rfl)) (fun h34 fs37 l38 k39 j40 c35 o36 => ?_)
        rw [l15] at l38
        have f41 := (j40 5 (by decide)).trans f16
        have f42 := (j40 8 (by decide)).trans f17
        have f43 := (j40 9 (by decide)).trans f18
        have f44 := (j40 11 (by decide)).trans f20
        have f45 := (j40 12 (by decide)).trans f21
        have f46 := (j40 4 (by decide)).trans f25
        have c47 := (o36 tx n_tx_m).trans c22
        have c48 := (o36 le n_le_m).trans c26
        refine w_aload_n (List.Mem.tail _ (List.Mem.tail _ (List.Mem.head _))) (tX11_compares_0_ok (52, .aload_n 0, 1) (List.mem_of_getElem? (i := 28) rfl)) ?_
        refine w_callV (own := 16) (mi := 246) [] [] [(0, .ref m)] rfl (cllw_X11 (151, 0, 246) (List.mem_of_getElem? (i := 25) rfl)) rfl rfl c35 rfl hr1 (w_lo (n := 24) rfl (Nat.le_trans (Nat.le_of_ble_eq_true rfl) hr2)) (Nat.le_of_ble_eq_true rfl) (Nat.le_of_ble_eq_true rfl) rfl (tX11_compares_0_ok (53, .invokevirtual 151, 3) (List.mem_of_getElem? (i := 29) rfl)) (hsum _ _ _ _ _ _ _ _ (by omega) (w_sub (n := 24) rfl (by omega)) (by omega) (by omega) ⟨⟨⟨c35, l38, f41, f42, f43, k39, f44⟩, f45, n_tx_m, c47, hs, hb, by omega, by omega⟩, f46, n_le_m, _, c48⟩ (fun h49 fs50 at51 fl52 dp53 v54 p55 e56 e57 e58 k59 o60 => ?_))
        dsimp only at e56
        have p61 := p55.1
        obtain ⟨⟨c62, l63, f64, f65, f66, f67, f68⟩, f69, -, c70, -, -, a71, a72⟩ := p61
        have f73 := (k59 4 (by decide)).trans f46
        have c74 := (o60 le n_le_m).trans c48
        show ww l D tys A X fr lo mX11_compares Q 56 [(4, .int v8), (3, .int rd1), (0, .ref m), (1, .int hs1), (2, .int rd1)] [.int v54] h49
        refine w_istore [(5, .int v54), (4, .int v8), (3, .int rd1), (0, .ref m), (1, .int hs1), (2, .int rd1)] rfl (Nat.le_of_ble_eq_true rfl) (tX11_compares_0_ok (56, .istore 5, 2) (List.mem_of_getElem? (i := 30) rfl)) ?_
        refine w_iload (List.Mem.tail _ (List.Mem.head _)) (tX11_compares_0_ok (58, .iload 4, 2) (List.mem_of_getElem? (i := 31) rfl)) ?_
        refine w_bipush (by decide) (tX11_compares_0_ok (60, .bipush 61, 2) (List.mem_of_getElem? (i := 32) rfl)) (fun v75 e76 => ?_)
        refine w_icmp_ne (tgt := 79) (tX11_compares_0_ok (62, .if_icmp .ne 17, 3) (List.mem_of_getElem? (i := 33) rfl)) rfl (fun b77 => ?_) (fun b77 => ?_)
        · refine w_iload (List.Mem.tail _ (List.Mem.head _)) (tX11_compares_0_ok (79, .iload 4, 2) (List.mem_of_getElem? (i := 41) rfl)) ?_
          refine w_bipush (by decide) (tX11_compares_0_ok (81, .bipush 60, 2) (List.mem_of_getElem? (i := 42) rfl)) (fun v78 e79 => ?_)
          refine w_icmp_ne (tgt := 100) (tX11_compares_0_ok (83, .if_icmp .ne 17, 3) (List.mem_of_getElem? (i := 43) rfl)) rfl (fun b80 => ?_) (fun b80 => ?_)
          · refine w_iload_n (List.Mem.tail _ (List.Mem.tail _ (List.Mem.head _))) (tX11_compares_0_ok (100, .iload_n 3, 1) (List.mem_of_getElem? (i := 51) rfl)) ?_
            refine w_iload (List.Mem.head _) (tX11_compares_0_ok (101, .iload 5, 2) (List.mem_of_getElem? (i := 52) rfl)) ?_
            refine w_icmp_le (tgt := 110) (tX11_compares_0_ok (103, .if_icmp .le 7, 3) (List.mem_of_getElem? (i := 53) rfl)) rfl (fun b81 => ?_) (fun b81 => ?_)
            · refine w_iconst (by decide) (tX11_compares_0_ok (110, .iconst 0, 1) (List.mem_of_getElem? (i := 56) rfl)) (fun v82 e83 => ?_)
              refine w_zret rfl (by omega) (by omega) (tX11_compares_0_ok (111, .ireturn, 1) (List.mem_of_getElem? (i := 57) rfl)) ?_
              refine hq h49 fs50 at51 fl52 dp53 v82 ⟨⟨⟨c62, l63, f64, f65, f66, f67, f68⟩, f69, n_tx_m, c70, hs, hb, a71, a72⟩, f73, n_le_m, _, c74⟩ ?_ (by omega) (fun _ => by omega) (fun j hj => (k59 j hj).trans ((j40 j hj.1).trans (k12 j hj))) (fun q hq => (o60 q hq).trans ((o36 q hq).trans (o13 q hq)))
              dsimp only
              have y1 : v32.toInt.toNat = sp_sk f en.toInt.toNat at0.toInt.toNat + 1 := by omega
              rw [y1] at e56
              unfold sp_cm
              rw [if_pos (by omega)]
              exact e56
            · refine w_iconst (by decide) (tX11_compares_0_ok (106, .iconst 1, 1) (List.mem_of_getElem? (i := 54) rfl)) (fun v84 e85 => ?_)
              refine w_goto (tgt := 111) (tX11_compares_0_ok (107, .goto 4, 3) (List.mem_of_getElem? (i := 55) rfl)) rfl ?_
              refine w_zret rfl (by omega) (by omega) (tX11_compares_0_ok (111, .ireturn, 1) (List.mem_of_getElem? (i := 57) rfl)) ?_
              refine hq h49 fs50 at51 fl52 dp53 v84 ⟨⟨⟨c62, l63, f64, f65, f66, f67, f68⟩, f69, n_tx_m, c70, hs, hb, a71, a72⟩, f73, n_le_m, _, c74⟩ ?_ (by omega) (fun _ => by omega) (fun j hj => (k59 j hj).trans ((j40 j hj.1).trans (k12 j hj))) (fun q hq => (o60 q hq).trans ((o36 q hq).trans (o13 q hq)))
              dsimp only
              have y1 : v32.toInt.toNat = sp_sk f en.toInt.toNat at0.toInt.toNat + 1 := by omega
              rw [y1] at e56
              unfold sp_cm
              rw [if_pos (by omega)]
              exact e56
          · refine w_iload_n (List.Mem.tail _ (List.Mem.tail _ (List.Mem.head _))) (tX11_compares_0_ok (86, .iload_n 3, 1) (List.mem_of_getElem? (i := 44) rfl)) ?_
            refine w_iload (List.Mem.head _) (tX11_compares_0_ok (87, .iload 5, 2) (List.mem_of_getElem? (i := 45) rfl)) ?_
            refine w_icmp_ge (tgt := 96) (tX11_compares_0_ok (89, .if_icmp .ge 7, 3) (List.mem_of_getElem? (i := 46) rfl)) rfl (fun b86 => ?_) (fun b86 => ?_)
            · refine w_iconst (by decide) (tX11_compares_0_ok (96, .iconst 0, 1) (List.mem_of_getElem? (i := 49) rfl)) (fun v87 e88 => ?_)
              refine w_goto (tgt := 111) (tX11_compares_0_ok (97, .goto 14, 3) (List.mem_of_getElem? (i := 50) rfl)) rfl ?_
              refine w_zret rfl (by omega) (by omega) (tX11_compares_0_ok (111, .ireturn, 1) (List.mem_of_getElem? (i := 57) rfl)) ?_
              refine hq h49 fs50 at51 fl52 dp53 v87 ⟨⟨⟨c62, l63, f64, f65, f66, f67, f68⟩, f69, n_tx_m, c70, hs, hb, a71, a72⟩, f73, n_le_m, _, c74⟩ ?_ (by omega) (fun _ => by omega) (fun j hj => (k59 j hj).trans ((j40 j hj.1).trans (k12 j hj))) (fun q hq => (o60 q hq).trans ((o36 q hq).trans (o13 q hq)))
              dsimp only
              have y1 : v32.toInt.toNat = sp_sk f en.toInt.toNat at0.toInt.toNat + 1 := by omega
              rw [y1] at e56
              unfold sp_cm
              rw [if_pos (by omega)]
              exact e56
            · refine w_iconst (by decide) (tX11_compares_0_ok (92, .iconst 1, 1) (List.mem_of_getElem? (i := 47) rfl)) (fun v89 e90 => ?_)
              refine w_goto (tgt := 111) (tX11_compares_0_ok (93, .goto 18, 3) (List.mem_of_getElem? (i := 48) rfl)) rfl ?_
              refine w_zret rfl (by omega) (by omega) (tX11_compares_0_ok (111, .ireturn, 1) (List.mem_of_getElem? (i := 57) rfl)) ?_
              refine hq h49 fs50 at51 fl52 dp53 v89 ⟨⟨⟨c62, l63, f64, f65, f66, f67, f68⟩, f69, n_tx_m, c70, hs, hb, a71, a72⟩, f73, n_le_m, _, c74⟩ ?_ (by omega) (fun _ => by omega) (fun j hj => (k59 j hj).trans ((j40 j hj.1).trans (k12 j hj))) (fun q hq => (o60 q hq).trans ((o36 q hq).trans (o13 q hq)))
              dsimp only
              have y1 : v32.toInt.toNat = sp_sk f en.toInt.toNat at0.toInt.toNat + 1 := by omega
              rw [y1] at e56
              unfold sp_cm
              rw [if_pos (by omega)]
              exact e56
        · refine w_iload_n (List.Mem.tail _ (List.Mem.tail _ (List.Mem.head _))) (tX11_compares_0_ok (65, .iload_n 3, 1) (List.mem_of_getElem? (i := 34) rfl)) ?_
          refine w_iload (List.Mem.head _) (tX11_compares_0_ok (66, .iload 5, 2) (List.mem_of_getElem? (i := 35) rfl)) ?_
          refine w_icmp_ne (tgt := 75) (tX11_compares_0_ok (68, .if_icmp .ne 7, 3) (List.mem_of_getElem? (i := 36) rfl)) rfl (fun b91 => ?_) (fun b91 => ?_)
          · refine w_iconst (by decide) (tX11_compares_0_ok (75, .iconst 0, 1) (List.mem_of_getElem? (i := 39) rfl)) (fun v92 e93 => ?_)
            refine w_goto (tgt := 111) (tX11_compares_0_ok (76, .goto 35, 3) (List.mem_of_getElem? (i := 40) rfl)) rfl ?_
            refine w_zret rfl (by omega) (by omega) (tX11_compares_0_ok (111, .ireturn, 1) (List.mem_of_getElem? (i := 57) rfl)) ?_
            refine hq h49 fs50 at51 fl52 dp53 v92 ⟨⟨⟨c62, l63, f64, f65, f66, f67, f68⟩, f69, n_tx_m, c70, hs, hb, a71, a72⟩, f73, n_le_m, _, c74⟩ ?_ (by omega) (fun _ => by omega) (fun j hj => (k59 j hj).trans ((j40 j hj.1).trans (k12 j hj))) (fun q hq => (o60 q hq).trans ((o36 q hq).trans (o13 q hq)))
            dsimp only
            have y1 : v32.toInt.toNat = sp_sk f en.toInt.toNat at0.toInt.toNat + 1 := by omega
            rw [y1] at e56
            unfold sp_cm
            rw [if_pos (by omega)]
            exact e56
          · refine w_iconst (by decide) (tX11_compares_0_ok (71, .iconst 1, 1) (List.mem_of_getElem? (i := 37) rfl)) (fun v94 e95 => ?_)
            refine w_goto (tgt := 111) (tX11_compares_0_ok (72, .goto 39, 3) (List.mem_of_getElem? (i := 38) rfl)) rfl ?_
            refine w_zret rfl (by omega) (by omega) (tX11_compares_0_ok (111, .ireturn, 1) (List.mem_of_getElem? (i := 57) rfl)) ?_
            refine hq h49 fs50 at51 fl52 dp53 v94 ⟨⟨⟨c62, l63, f64, f65, f66, f67, f68⟩, f69, n_tx_m, c70, hs, hb, a71, a72⟩, f73, n_le_m, _, c74⟩ ?_ (by omega) (fun _ => by omega) (fun j hj => (k59 j hj).trans ((j40 j hj.1).trans (k12 j hj))) (fun q hq => (o60 q hq).trans ((o36 q hq).trans (o13 q hq)))
            dsimp only
            have y1 : v32.toInt.toNat = sp_sk f en.toInt.toNat at0.toInt.toNat + 1 := by omega
            rw [y1] at e56
            unfold sp_cm
            rw [if_pos (by omega)]
            exact e56
      · refine w_aload_n (List.Mem.tail _ (List.Mem.tail _ (List.Mem.head _))) (tX11_compares_0_ok (37, .aload_n 0, 1) (List.mem_of_getElem? (i := 19) rfl)) ?_
        refine w_callV (own := 16) (mi := 180) [] [] [(0, .ref m)] rfl (cllw_X11 (124, 0, 180) (List.mem_of_getElem? (i := 11) rfl)) rfl rfl c14 rfl hr1 (w_lo (n := 20) rfl (Nat.le_trans (Nat.le_of_ble_eq_true rfl) hr2)) (Nat.le_of_ble_eq_true rfl) (Nat.le_of_ble_eq_true rfl) rfl (tX11_compares_0_ok (38, .invokevirtual 124, 3) (List.mem_of_getElem? (i := 20) rfl)) (r_fail ⟨⟨c14, l15, f16, f17, f18, f19, f20⟩, f21, n_tx_m, c22, hs, hb, a23, a24⟩ (fun h96 fs97 fl98 v99 p100 e101 e102 k103 o104 => ?_))
        obtain ⟨⟨c105, l106, f107, f108, f109, f110, f111⟩, f112, -, c113, -, -, a114, a115⟩ := p100
        have f116 := (k103 4 (by decide)).trans f25
        have c117 := (o104 le n_le_m).trans c26
        show ww l D tys A X fr lo mX11_compares Q 41 [(4, .int v8), (3, .int rd1), (0, .ref m), (1, .int hs1), (2, .int rd1)] [.int v99] h96
        refine w_zret rfl (by omega) (by omega) (tX11_compares_0_ok (41, .ireturn, 1) (List.mem_of_getElem? (i := 21) rfl)) ?_
        refine hq h96 fs97 at7 fl98 dp v99 ⟨⟨⟨c105, l106, f107, f108, f109, f110, f111⟩, f112, n_tx_m, c113, hs, hb, a114, a115⟩, f116, n_le_m, _, c117⟩ ?_ (by omega) (fun _ => by omega) (fun j hj => (k103 j hj).trans (k12 j hj)) (fun q hq => (o104 q hq).trans (o13 q hq))
        dsimp only
        unfold sp_cm
        rw [if_neg (by omega)]
        show _ = _
        omega
    · exfalso; omega
theorem r_unit0 (hT : k_tys tys cA) {N : Nat → Nat ⊕ Nat} (hcmp : ∀ hs1 rd1 : Int32, hs1.toInt = 0 → PM l D tys A X cA m tx n le g f bg en mX11_compares [(0, .ref m), (1, .int hs1), (2, .int rd1)] (6) true (fun n9 a9 fl9 => sp_is (sp_bd (sp_sum f en.toInt.toNat N n9) (sp_cm f en.toInt.toNat N)) a9 fl9) (9) (215)) : PM l D tys A X cA m tx n le g f bg en mX11_unit [(0, .ref m)] (6) true (fun n9 a9 fl9 => sp_is (sp_unit f en.toInt.toNat N .inl .inl n9) a9 fl9) (10) (245) := by
  intro fr lo Q h fs at0 fl0 dp hf hl hfl hdp H hq
  have hr1 : 1 ≤ fr := by omega
  have hr2 : 30 ≤ lo := by omega
  obtain ⟨⟨⟨c_m, fl, f5, f8, f9, f10, f11⟩, f12, n_tx_m, c_x, hs, hb, ha⟩, f4, n_le_m, gl, c_le⟩ := H
  refine w_aload_n (List.Mem.head _) (tX11_unit_0_ok (0, .aload_n 0, 1) (List.mem_of_getElem? (i := 0) rfl)) ?_
  refine w_callV (own := 16) (mi := 212) [] [] [(0, .ref m)] rfl (cllw_X11 (128, 0, 212) (List.mem_of_getElem? (i := 7) rfl)) rfl rfl c_m rfl hr1 (w_lo (n := 20) rfl (Nat.le_trans (Nat.le_of_ble_eq_true rfl) hr2)) (Nat.le_of_ble_eq_true rfl) (Nat.le_of_ble_eq_true rfl) rfl (tX11_unit_0_ok (1, .invokevirtual 128, 3) (List.mem_of_getElem? (i := 1) rfl)) (r_look hT ⟨⟨c_m, fl, f5, f8, f9, f10, f11⟩, f12, n_tx_m, c_x, hs, hb, ha.1, ha.2⟩ (fun h1 fs2 at3 v4 p5 e6 e7 k8 o9 => ?_))
  obtain ⟨⟨c10, l11, f12, f13, f14, f15, f16⟩, f17, -, c18, -, -, a19, a20⟩ := p5
  have f21 := (k8 4 (by decide)).trans f4
  have c22 := (o9 le n_le_m).trans c_le
  show ww l D tys A X fr lo mX11_unit Q 4 [(0, .ref m)] [.int v4] h1
  refine w_istore_n [(1, .int v4), (0, .ref m)] rfl (Nat.le_of_ble_eq_true rfl) (tX11_unit_0_ok (4, .istore_n 1, 1) (List.mem_of_getElem? (i := 2) rfl)) ?_
  refine w_iload_n (List.Mem.head _) (tX11_unit_0_ok (5, .iload_n 1, 1) (List.mem_of_getElem? (i := 3) rfl)) ?_
  refine w_bipush (by decide) (tX11_unit_0_ok (6, .bipush 33, 2) (List.mem_of_getElem? (i := 4) rfl)) (fun v23 e24 => ?_)
  refine w_icmp_ne (tgt := 45) (tX11_unit_0_ok (8, .if_icmp .ne 37, 3) (List.mem_of_getElem? (i := 5) rfl)) rfl (fun b25 => ?_) (fun b25 => ?_)
  · refine w_iload_n (List.Mem.head _) (tX11_unit_0_ok (45, .iload_n 1, 1) (List.mem_of_getElem? (i := 26) rfl)) ?_
    refine w_bipush (by decide) (tX11_unit_0_ok (46, .bipush 40, 2) (List.mem_of_getElem? (i := 27) rfl)) (fun v27 e28 => ?_)
    refine w_icmp_ne (tgt := 90) (tX11_unit_0_ok (48, .if_icmp .ne 42, 3) (List.mem_of_getElem? (i := 28) rfl)) rfl (fun b29 => ?_) (fun b29 => ?_)
    · refine w_aload_n (List.Mem.tail _ (List.Mem.head _)) (tX11_unit_0_ok (90, .aload_n 0, 1) (List.mem_of_getElem? (i := 53) rfl)) ?_
      refine w_iconst (by decide) (tX11_unit_0_ok (91, .iconst 0, 1) (List.mem_of_getElem? (i := 54) rfl)) (fun v31 e32 => ?_)
      refine w_iconst (by decide) (tX11_unit_0_ok (92, .iconst 0, 1) (List.mem_of_getElem? (i := 55) rfl)) (fun v33 e34 => ?_)
      refine w_callV (own := 16) (mi := 170) [.int v31, .int v33] [] [(0, .ref m), (1, .int v31), (2, .int v33)] rfl (cllw_X11 (181, 0, 170) (List.mem_of_getElem? (i := 24) rfl)) rfl rfl c10 rfl hr1 (w_lo (n := 25) rfl (Nat.le_trans (Nat.le_of_ble_eq_true rfl) hr2)) (Nat.le_of_ble_eq_true rfl) (Nat.le_of_ble_eq_true rfl) rfl (tX11_unit_0_ok (93, .invokevirtual 181, 3) (List.mem_of_getElem? (i := 56) rfl)) ((hcmp _ _ (by omega)) _ _ _ _ _ _ _ _ (by omega) (w_sub (n := 25) rfl (by omega)) (by omega) (by omega) ⟨⟨⟨c10, l11, f12, f13, f14, f15, f16⟩, f17, n_tx_m, c18, hs, hb, a19, a20⟩, f21, n_le_m, _, c22⟩ (fun h35 fs36 at37 fl38 dp39 v40 p41 e42 e43 e44 k45 o46 => ?_))
      dsimp only at e42
      have e44b := e44 rfl
      have p47 := p41.1
      obtain ⟨⟨c48, l49, f50, f51, f52, f53, f54⟩, f55, -, c56, -, -, a57, a58⟩ := p47
      have f59 := (k45 4 (by decide)).trans f21
      have c60 := (o46 le n_le_m).trans c22
      show ww l D tys A X fr lo mX11_unit Q 96 [(1, .int v4), (0, .ref m)] [.int v40] h35
      refine w_zret rfl (by omega) (by omega) (tX11_unit_0_ok (96, .ireturn, 1) (List.mem_of_getElem? (i := 57) rfl)) ?_
      refine hq h35 fs36 at37 fl38 dp39 v40 ⟨⟨⟨c48, l49, f50, f51, f52, f53, f54⟩, f55, n_tx_m, c56, hs, hb, a57, a58⟩, f59, n_le_m, _, c60⟩ ?_ (by omega) (fun _ => by omega) (fun j hj => (k45 j hj).trans (k8 j hj)) (fun q hq => (o46 q hq).trans (o9 q hq))
      dsimp only
      rw [e6] at e42
      unfold sp_unit
      rw [if_neg (by omega), if_neg (by omega)]
      exact e42
    · have g61 : sp_sg f en.toInt.toNat (sp_sk f en.toInt.toNat at0.toInt.toNat) = 40 ∧ at3.toInt < en.toInt ∧ v4.toInt = 40 := by omega
      clear e7 b29
      refine w_aload_n (List.Mem.tail _ (List.Mem.head _)) (tX11_unit_0_ok (51, .aload_n 0, 1) (List.mem_of_getElem? (i := 29) rfl)) ?_
      refine w_callV (own := 16) (mi := 189) [] [] [(0, .ref m)] rfl (cllw_X11 (148, 0, 189) (List.mem_of_getElem? (i := 28) rfl)) rfl rfl c10 rfl hr1 (w_lo (n := 20) rfl (Nat.le_trans (Nat.le_of_ble_eq_true rfl) hr2)) (Nat.le_of_ble_eq_true rfl) (Nat.le_of_ble_eq_true rfl) rfl (tX11_unit_0_ok (52, .invokevirtual 148, 3) (List.mem_of_getElem? (i := 30) rfl)) (r_goesIn hT ⟨by omega, w_sub (n := 20) rfl (by omega)⟩ (by omega) (by omega) (by omega) ⟨⟨c10, l11, f12, f13, f14, f15, f16⟩, f17, n_tx_m, c18, hs, hb, a19, a20⟩ (fun h62 fs63 at64 fl65 dp66 v67 p68 e69 k70 o71 => ?_))
      obtain ⟨⟨c72, l73, f74, f75, f76, f77, f78⟩, f79, -, c80, -, -, a81, a82⟩ := p68
      have f83 := (k70 4 (by decide)).trans f21
      have c84 := (o71 le n_le_m).trans c22
      show ww l D tys A X fr lo mX11_unit Q 55 [(1, .int v4), (0, .ref m)] [.int v67] h62
      refine w_if_ne (tgt := 60) (tX11_unit_0_ok (55, .ifCond .ne 5, 3) (List.mem_of_getElem? (i := 31) rfl)) rfl (fun b85 => ?_) (fun b85 => ?_)
      · exfalso; omega
      · refine w_iconst (by decide) (tX11_unit_0_ok (58, .iconst 0, 1) (List.mem_of_getElem? (i := 32) rfl)) (fun v86 e87 => ?_)
        refine w_zret rfl (by omega) (by omega) (tX11_unit_0_ok (59, .ireturn, 1) (List.mem_of_getElem? (i := 33) rfl)) ?_
        refine hq h62 fs63 at64 fl65 dp66 v86 ⟨⟨⟨c72, l73, f74, f75, f76, f77, f78⟩, f79, n_tx_m, c80, hs, hb, a81, a82⟩, f83, n_le_m, _, c84⟩ ?_ (by omega) (fun _ => by omega) (fun j hj => (k70 j hj).trans (k8 j hj)) (fun q hq => (o71 q hq).trans (o9 q hq))
        dsimp only
        unfold sp_unit
        rw [if_neg (by omega), if_pos (by omega)]
        show _ = _
        omega
  · have g88 : sp_sg f en.toInt.toNat (sp_sk f en.toInt.toNat at0.toInt.toNat) = 33 ∧ at3.toInt < en.toInt ∧ v4.toInt = 33 := by omega
    clear e7 b25
    refine w_aload_n (List.Mem.tail _ (List.Mem.head _)) (tX11_unit_0_ok (11, .aload_n 0, 1) (List.mem_of_getElem? (i := 6) rfl)) ?_
    refine w_callV (own := 16) (mi := 189) [] [] [(0, .ref m)] rfl (cllw_X11 (148, 0, 189) (List.mem_of_getElem? (i := 28) rfl)) rfl rfl c10 rfl hr1 (w_lo (n := 20) rfl (Nat.le_trans (Nat.le_of_ble_eq_true rfl) hr2)) (Nat.le_of_ble_eq_true rfl) (Nat.le_of_ble_eq_true rfl) rfl (tX11_unit_0_ok (12, .invokevirtual 148, 3) (List.mem_of_getElem? (i := 7) rfl)) (r_goesIn hT ⟨by omega, w_sub (n := 20) rfl (by omega)⟩ (by omega) (by omega) (by omega) ⟨⟨c10, l11, f12, f13, f14, f15, f16⟩, f17, n_tx_m, c18, hs, hb, a19, a20⟩ (fun h89 fs90 at91 fl92 dp93 v94 p95 e96 k97 o98 => ?_))
    obtain ⟨⟨c99, l100, f101, f102, f103, f104, f105⟩, f106, -, c107, -, -, a108, a109⟩ := p95
    have f110 := (k97 4 (by decide)).trans f21
    have c111 := (o98 le n_le_m).trans c22
    show ww l D tys A X fr lo mX11_unit Q 15 [(1, .int v4), (0, .ref m)] [.int v94] h89
    refine w_if_ne (tgt := 20) (tX11_unit_0_ok (15, .ifCond .ne 5, 3) (List.mem_of_getElem? (i := 8) rfl)) rfl (fun b112 => ?_) (fun b112 => ?_)
    · exfalso; omega
    · refine w_iconst (by decide) (tX11_unit_0_ok (18, .iconst 0, 1) (List.mem_of_getElem? (i := 9) rfl)) (fun v113 e114 => ?_)
      refine w_zret rfl (by omega) (by omega) (tX11_unit_0_ok (19, .ireturn, 1) (List.mem_of_getElem? (i := 10) rfl)) ?_
      refine hq h89 fs90 at91 fl92 dp93 v113 ⟨⟨⟨c99, l100, f101, f102, f103, f104, f105⟩, f106, n_tx_m, c107, hs, hb, a108, a109⟩, f110, n_le_m, _, c111⟩ ?_ (by omega) (fun _ => by omega) (fun j hj => (k97 j hj).trans (k8 j hj)) (fun q hq => (o98 q hq).trans (o9 q hq))
      dsimp only
      unfold sp_unit
      rw [if_pos (by omega)]
      show _ = _
      omega
theorem r_unitS (hT : k_tys tys cA) {d : Nat} {N N2 NB2 NP2 : Nat → Nat ⊕ Nat} (h6 : d ≤ 5) (hcmp : ∀ hs1 rd1 : Int32, hs1.toInt = 0 → PM l D tys A X cA m tx n le g f bg en mX11_compares [(0, .ref m), (1, .int hs1), (2, .int rd1)] (5 - (d : Int)) true (fun n9 a9 fl9 => sp_is (sp_bd (sp_sum f en.toInt.toNat N n9) (sp_cm f en.toInt.toNat N)) a9 fl9) (3 * d + 12) (75 * d + 290)) (hunit : PM l D tys A X cA m tx n le g f bg en mX11_unit [(0, .ref m)] (6 - (d : Int)) true (fun n9 a9 fl9 => sp_is (sp_unit f en.toInt.toNat N2 NB2 NP2 n9) a9 fl9) (3 * d + 10) (75 * d + 245)) (hcond : ∀ hs1 rd1 : Int32, hs1.toInt = 0 → PM l D tys A X cA m tx n le g f bg en mX11_condition [(0, .ref m), (1, .int hs1), (2, .int rd1)] (6 - (d : Int)) true (fun n9 a9 fl9 => sp_is (sp_cond f en.toInt.toNat N2 NB2 NP2 n9) a9 fl9) (3 * d + 12) (75 * d + 295)) : PM l D tys A X cA m tx n le g f bg en mX11_unit [(0, .ref m)] (5 - (d : Int)) true (fun n9 a9 fl9 => sp_is (sp_unit f en.toInt.toNat N (fun m9 => sp_unit f en.toInt.toNat N2 NB2 NP2 (m9 + 1)) (fun m9 => sp_bd (sp_cond f en.toInt.toNat N2 NB2 NP2 (m9 + 1)) (sp_tk f en.toInt.toNat 41)) n9) a9 fl9) (3 * d + 13) (75 * d + 320) := by
  intro fr lo Q h fs at0 fl0 dp hf hl hfl hdp H hq
  have hr1 : 1 ≤ fr := by omega
  have hr2 : 30 ≤ lo := by omega
  obtain ⟨⟨⟨c_m, fl, f5, f8, f9, f10, f11⟩, f12, n_tx_m, c_x, hs, hb, ha⟩, f4, n_le_m, gl, c_le⟩ := H
  refine w_aload_n (List.Mem.head _) (tX11_unit_0_ok (0, .aload_n 0, 1) (List.mem_of_getElem? (i := 0) rfl)) ?_
  refine w_callV (own := 16) (mi := 212) [] [] [(0, .ref m)] rfl (cllw_X11 (128, 0, 212) (List.mem_of_getElem? (i := 7) rfl)) rfl rfl c_m rfl hr1 (w_lo (n := 20) rfl (Nat.le_trans (Nat.le_of_ble_eq_true rfl) hr2)) (Nat.le_of_ble_eq_true rfl) (Nat.le_of_ble_eq_true rfl) rfl (tX11_unit_0_ok (1, .invokevirtual 128, 3) (List.mem_of_getElem? (i := 1) rfl)) (r_look hT ⟨⟨c_m, fl, f5, f8, f9, f10, f11⟩, f12, n_tx_m, c_x, hs, hb, ha.1, ha.2⟩ (fun h1 fs2 at3 v4 p5 e6 e7 k8 o9 => ?_))
  obtain ⟨⟨c10, l11, f12, f13, f14, f15, f16⟩, f17, -, c18, -, -, a19, a20⟩ := p5
  have f21 := (k8 4 (by decide)).trans f4
  have c22 := (o9 le n_le_m).trans c_le
  show ww l D tys A X fr lo mX11_unit Q 4 [(0, .ref m)] [.int v4] h1
  refine w_istore_n [(1, .int v4), (0, .ref m)] rfl (Nat.le_of_ble_eq_true rfl) (tX11_unit_0_ok (4, .istore_n 1, 1) (List.mem_of_getElem? (i := 2) rfl)) ?_
  refine w_iload_n (List.Mem.head _) (tX11_unit_0_ok (5, .iload_n 1, 1) (List.mem_of_getElem? (i := 3) rfl)) ?_
  refine w_bipush (by decide) (tX11_unit_0_ok (6, .bipush 33, 2) (List.mem_of_getElem? (i := 4) rfl)) (fun v23 e24 => ?_)
  refine w_icmp_ne (tgt := 45) (tX11_unit_0_ok (8, .if_icmp .ne 37, 3) (List.mem_of_getElem? (i := 5) rfl)) rfl (fun b25 => ?_) (fun b25 => ?_)
  · refine w_iload_n (List.Mem.head _) (tX11_unit_0_ok (45, .iload_n 1, 1) (List.mem_of_getElem? (i := 26) rfl)) ?_
    refine w_bipush (by decide) (tX11_unit_0_ok (46, .bipush 40, 2) (List.mem_of_getElem? (i := 27) rfl)) (fun v27 e28 => ?_)
    refine w_icmp_ne (tgt := 90) (tX11_unit_0_ok (48, .if_icmp .ne 42, 3) (List.mem_of_getElem? (i := 28) rfl)) rfl (fun b29 => ?_) (fun b29 => ?_)
    · refine w_aload_n (List.Mem.tail _ (List.Mem.head _)) (tX11_unit_0_ok (90, .aload_n 0, 1) (List.mem_of_getElem? (i := 53) rfl)) ?_
      refine w_iconst (by decide) (tX11_unit_0_ok (91, .iconst 0, 1) (List.mem_of_getElem? (i := 54) rfl)) (fun v31 e32 => ?_)
      refine w_iconst (by decide) (tX11_unit_0_ok (92, .iconst 0, 1) (List.mem_of_getElem? (i := 55) rfl)) (fun v33 e34 => ?_)
      refine w_callV (own := 16) (mi := 170) [.int v31, .int v33] [] [(0, .ref m), (1, .int v31), (2, .int v33)] rfl (cllw_X11 (181, 0, 170) (List.mem_of_getElem? (i := 24) rfl)) rfl rfl c10 rfl hr1 (w_lo (n := 25) rfl (Nat.le_trans (Nat.le_of_ble_eq_true rfl) hr2)) (Nat.le_of_ble_eq_true rfl) (Nat.le_of_ble_eq_true rfl) rfl (tX11_unit_0_ok (93, .invokevirtual 181, 3) (List.mem_of_getElem? (i := 56) rfl)) ((hcmp _ _ (by omega)) _ _ _ _ _ _ _ _ (by omega) (w_sub (n := 25) rfl (by omega)) (by omega) (by omega) ⟨⟨⟨c10, l11, f12, f13, f14, f15, f16⟩, f17, n_tx_m, c18, hs, hb, a19, a20⟩, f21, n_le_m, _, c22⟩ (fun h35 fs36 at37 fl38 dp39 v40 p41 e42 e43 e44 k45 o46 => ?_))
      dsimp only at e42
      have e44b := e44 rfl
      have p47 := p41.1
      obtain ⟨⟨c48, l49, f50, f51, f52, f53, f54⟩, f55, -, c56, -, -, a57, a58⟩ := p47
      have f59 := (k45 4 (by decide)).trans f21
      have c60 := (o46 le n_le_m).trans c22
      show ww l D tys A X fr lo mX11_unit Q 96 [(1, .int v4), (0, .ref m)] [.int v40] h35
      refine w_zret rfl (by omega) (by omega) (tX11_unit_0_ok (96, .ireturn, 1) (List.mem_of_getElem? (i := 57) rfl)) ?_
      refine hq h35 fs36 at37 fl38 dp39 v40 ⟨⟨⟨c48, l49, f50, f51, f52, f53, f54⟩, f55, n_tx_m, c56, hs, hb, a57, a58⟩, f59, n_le_m, _, c60⟩ ?_ (by omega) (fun _ => by omega) (fun j hj => (k45 j hj).trans (k8 j hj)) (fun q hq => (o46 q hq).trans (o9 q hq))
      dsimp only
      rw [e6] at e42
      unfold sp_unit
      rw [if_neg (by omega), if_neg (by omega)]
      exact e42
    · have g61 : sp_sg f en.toInt.toNat (sp_sk f en.toInt.toNat at0.toInt.toNat) = 40 ∧ at3.toInt < en.toInt ∧ v4.toInt = 40 := by omega
      clear e7 b29
      refine w_aload_n (List.Mem.tail _ (List.Mem.head _)) (tX11_unit_0_ok (51, .aload_n 0, 1) (List.mem_of_getElem? (i := 29) rfl)) ?_
      refine w_callV (own := 16) (mi := 189) [] [] [(0, .ref m)] rfl (cllw_X11 (148, 0, 189) (List.mem_of_getElem? (i := 28) rfl)) rfl rfl c10 rfl hr1 (w_lo (n := 20) rfl (Nat.le_trans (Nat.le_of_ble_eq_true rfl) hr2)) (Nat.le_of_ble_eq_true rfl) (Nat.le_of_ble_eq_true rfl) rfl (tX11_unit_0_ok (52, .invokevirtual 148, 3) (List.mem_of_getElem? (i := 30) rfl)) (r_goesIn hT ⟨by omega, w_sub (n := 20) rfl (by omega)⟩ (by omega) (by omega) (by omega) ⟨⟨c10, l11, f12, f13, f14, f15, f16⟩, f17, n_tx_m, c18, hs, hb, a19, a20⟩ (fun h62 fs63 at64 fl65 dp66 v67 p68 e69 k70 o71 => ?_))
      obtain ⟨⟨c72, l73, f74, f75, f76, f77, f78⟩, f79, -, c80, -, -, a81, a82⟩ := p68
      have f83 := (k70 4 (by decide)).trans f21
      have c84 := (o71 le n_le_m).trans c22
      show ww l D tys A X fr lo mX11_unit Q 55 [(1, .int v4), (0, .ref m)] [.int v67] h62
      refine w_if_ne (tgt := 60) (tX11_unit_0_ok (55, .ifCond .ne 5, 3) (List.mem_of_getElem? (i := 31) rfl)) rfl (fun b85 => ?_) (fun b85 => ?_)
      · refine w_aload_n (List.Mem.tail _ (List.Mem.head _)) (tX11_unit_0_ok (60, .aload_n 0, 1) (List.mem_of_getElem? (i := 34) rfl)) ?_
        refine w_iconst (by decide) (tX11_unit_0_ok (61, .iconst 0, 1) (List.mem_of_getElem? (i := 35) rfl)) (fun v86 e87 => ?_)
        refine w_iconst (by decide) (tX11_unit_0_ok (62, .iconst 0, 1) (List.mem_of_getElem? (i := 36) rfl)) (fun v88 e89 => ?_)
        refine w_callV (own := 16) (mi := 171) [.int v86, .int v88] [] [(0, .ref m), (1, .int v86), (2, .int v88)] rfl (cllw_X11 (177, 0, 171) (List.mem_of_getElem? (i := 22) rfl)) rfl rfl c72 rfl hr1 (w_lo (n := 24) rfl (Nat.le_trans (Nat.le_of_ble_eq_true rfl) hr2)) (Nat.le_of_ble_eq_true rfl) (Nat.le_of_ble_eq_true rfl) rfl (tX11_unit_0_ok (63, .invokevirtual 177, 3) (List.mem_of_getElem? (i := 37) rfl)) ((hcond _ _ (by omega)) _ _ _ _ _ _ _ _ (by omega) (w_sub (n := 24) rfl (by omega)) (by omega) (by omega) ⟨⟨⟨c72, l73, f74, f75, f76, f77, f78⟩, f79, n_tx_m, c80, hs, hb, a81, a82⟩, f83, n_le_m, _, c84⟩ (fun h90 fs91 at92 fl93 dp94 v95 p96 e97 e98 e99 k100 o101 => ?_))
        dsimp only at e97
        have e99b := e99 rfl
        have p102 := p96.1
        obtain ⟨⟨c103, l104, f105, f106, f107, f108, f109⟩, f110, -, c111, -, -, a112, a113⟩ := p102
        have f114 := (k100 4 (by decide)).trans f83
        have c115 := (o101 le n_le_m).trans c84
        show ww l D tys A X fr lo mX11_unit Q 66 [(1, .int v4), (0, .ref m)] [.int v95] h90
        refine w_istore_n [(2, .int v95), (1, .int v4), (0, .ref m)] rfl (Nat.le_of_ble_eq_true rfl) (tX11_unit_0_ok (66, .istore_n 2, 1) (List.mem_of_getElem? (i := 38) rfl)) ?_
        refine w_aload_n (List.Mem.tail _ (List.Mem.tail _ (List.Mem.head _))) (tX11_unit_0_ok (67, .aload_n 0, 1) (List.mem_of_getElem? (i := 39) rfl)) ?_
        refine w_bipush (by decide) (tX11_unit_0_ok (68, .bipush 41, 2) (List.mem_of_getElem? (i := 40) rfl)) (fun v116 e117 => ?_)
        refine w_callV (own := 16) (mi := 248) [.int v116] [] [(0, .ref m), (1, .int v116)] rfl (cllw_X11 (154, 0, 248) (List.mem_of_getElem? (i := 21) rfl)) rfl rfl c103 rfl hr1 (w_lo (n := 21) rfl (Nat.le_trans (Nat.le_of_ble_eq_true rfl) hr2)) (Nat.le_of_ble_eq_true rfl) (Nat.le_of_ble_eq_true rfl) rfl (tX11_unit_0_ok (70, .invokevirtual 154, 3) (List.mem_of_getElem? (i := 41) rfl)) (r_takes hT (by omega) ⟨by omega, w_sub (n := 21) rfl (by omega)⟩ ⟨⟨c103, l104, f105, f106, f107, f108, f109⟩, f110, n_tx_m, c111, hs, hb, a112, a113⟩ (fun h118 fs119 at120 fl121 v122 p123 e124 k125 o126 => ?_))
        have d127 : v116.toInt = 41 := by omega
        rw [d127] at e124
        obtain ⟨⟨c128, l129, f130, f131, f132, f133, f134⟩, f135, -, c136, -, -, a137, a138⟩ := p123
        have f139 := (k125 4 (by decide)).trans f114
        have c140 := (o126 le n_le_m).trans c115
        show ww l D tys A X fr lo mX11_unit Q 73 [(2, .int v95), (1, .int v4), (0, .ref m)] [.int v122] h118
        refine w_if_ne (tgt := 78) (tX11_unit_0_ok (73, .ifCond .ne 5, 3) (List.mem_of_getElem? (i := 42) rfl)) rfl (fun b141 => ?_) (fun b141 => ?_)
        · refine w_aload_n (List.Mem.tail _ (List.Mem.tail _ (List.Mem.head _))) (tX11_unit_0_ok (78, .aload_n 0, 1) (List.mem_of_getElem? (i := 45) rfl)) ?_
          refine w_dup rfl (tX11_unit_0_ok (79, .dup, 1) (List.mem_of_getElem? (i := 46) rfl)) ?_
          refine w_get (own := 16) rfl rfl (by decide) c128 f135 (tX11_unit_0_ok (80, .getfield 121, 3) (List.mem_of_getElem? (i := 47) rfl)) ?_
          refine w_iconst (by decide) (tX11_unit_0_ok (83, .iconst 1, 1) (List.mem_of_getElem? (i := 48) rfl)) (fun v142 e143 => ?_)
          refine w_isub (by omega) (by omega) (tX11_unit_0_ok (84, .isub, 1) (List.mem_of_getElem? (i := 49) rfl)) (fun v144 e145 => ?_)
          refine w_putF (own := 16) rfl rfl (by decide) rfl ⟨rfl, rfl⟩ c128 (by rw [l129]; decide) (tX11_unit_0_ok (85, .putfield 121, 3) (List.mem_of_getElem? (i := 50) rfl)) (fun h146 fs149 l150 k151 j152 c147 o148 => ?_)
          rw [l129] at l150
          have f153 := (j152 5 (by decide)).trans f130
          have f154 := (j152 8 (by decide)).trans f131
          have f155 := (j152 9 (by decide)).trans f132
          have f156 := (j152 10 (by decide)).trans f133
          have f157 := (j152 11 (by decide)).trans f134
          have f158 := (j152 4 (by decide)).trans f139
          have c159 := (o148 tx n_tx_m).trans c136
          have c160 := (o148 le n_le_m).trans c140
          refine w_iload_n (List.Mem.head _) (tX11_unit_0_ok (88, .iload_n 2, 1) (List.mem_of_getElem? (i := 51) rfl)) ?_
          refine w_zret rfl (by omega) (by omega) (tX11_unit_0_ok (89, .ireturn, 1) (List.mem_of_getElem? (i := 52) rfl)) ?_
          refine hq h146 fs149 at120 fl121 v144 v95 ⟨⟨⟨c147, l150, f153, f154, f155, f156, f157⟩, k151, n_tx_m, c159, hs, hb, a137, a138⟩, f158, n_le_m, _, c160⟩ ?_ (by omega) (fun _ => by omega) (fun j hj => (j152 j hj.2.2).trans ((k125 j hj).trans ((k100 j hj).trans ((k70 j hj).trans (k8 j hj))))) (fun q hq => (o148 q hq).trans ((o126 q hq).trans ((o101 q hq).trans ((o71 q hq).trans (o9 q hq)))))
          dsimp only
          have y1 : at64.toInt.toNat = sp_sk f en.toInt.toNat at0.toInt.toNat + 1 := by omega
          rw [y1] at e97
          unfold sp_unit
          rw [if_neg (by omega), if_pos (by omega)]
          exact sp_is.bd e97 (r_tkq e124)
        · refine w_iconst (by decide) (tX11_unit_0_ok (76, .iconst 0, 1) (List.mem_of_getElem? (i := 43) rfl)) (fun v161 e162 => ?_)
          refine w_zret rfl (by omega) (by omega) (tX11_unit_0_ok (77, .ireturn, 1) (List.mem_of_getElem? (i := 44) rfl)) ?_
          refine hq h118 fs119 at120 fl121 dp94 v161 ⟨⟨⟨c128, l129, f130, f131, f132, f133, f134⟩, f135, n_tx_m, c136, hs, hb, a137, a138⟩, f139, n_le_m, _, c140⟩ ?_ (by omega) (fun _ => by omega) (fun j hj => (k125 j hj).trans ((k100 j hj).trans ((k70 j hj).trans (k8 j hj)))) (fun q hq => (o126 q hq).trans ((o101 q hq).trans ((o71 q hq).trans (o9 q hq))))
          dsimp only
          have y1 : at64.toInt.toNat = sp_sk f en.toInt.toNat at0.toInt.toNat + 1 := by omega
          rw [y1] at e97
          unfold sp_unit
          rw [if_neg (by omega), if_pos (by omega)]
          exact sp_is.bd e97 (r_tkq e124)
      · exfalso; omega
  · have g163 : sp_sg f en.toInt.toNat (sp_sk f en.toInt.toNat at0.toInt.toNat) = 33 ∧ at3.toInt < en.toInt ∧ v4.toInt = 33 := by omega
    clear e7 b25
    refine w_aload_n (List.Mem.tail _ (List.Mem.head _)) (tX11_unit_0_ok (11, .aload_n 0, 1) (List.mem_of_getElem? (i := 6) rfl)) ?_
    refine w_callV (own := 16) (mi := 189) [] [] [(0, .ref m)] rfl (cllw_X11 (148, 0, 189) (List.mem_of_getElem? (i := 28) rfl)) rfl rfl c10 rfl hr1 (w_lo (n := 20) rfl (Nat.le_trans (Nat.le_of_ble_eq_true rfl) hr2)) (Nat.le_of_ble_eq_true rfl) (Nat.le_of_ble_eq_true rfl) rfl (tX11_unit_0_ok (12, .invokevirtual 148, 3) (List.mem_of_getElem? (i := 7) rfl)) (r_goesIn hT ⟨by omega, w_sub (n := 20) rfl (by omega)⟩ (by omega) (by omega) (by omega) ⟨⟨c10, l11, f12, f13, f14, f15, f16⟩, f17, n_tx_m, c18, hs, hb, a19, a20⟩ (fun h164 fs165 at166 fl167 dp168 v169 p170 e171 k172 o173 => ?_))
    obtain ⟨⟨c174, l175, f176, f177, f178, f179, f180⟩, f181, -, c182, -, -, a183, a184⟩ := p170
    have f185 := (k172 4 (by decide)).trans f21
    have c186 := (o173 le n_le_m).trans c22
    show ww l D tys A X fr lo mX11_unit Q 15 [(1, .int v4), (0, .ref m)] [.int v169] h164
    refine w_if_ne (tgt := 20) (tX11_unit_0_ok (15, .ifCond .ne 5, 3) (List.mem_of_getElem? (i := 8) rfl)) rfl (fun b187 => ?_) (fun b187 => ?_)
    · refine w_aload_n (List.Mem.tail _ (List.Mem.head _)) (tX11_unit_0_ok (20, .aload_n 0, 1) (List.mem_of_getElem? (i := 11) rfl)) ?_
      refine w_callV (own := 16) (mi := 256) [] [] [(0, .ref m)] rfl (cllw_X11 (174, 0, 256) (List.mem_of_getElem? (i := 31) rfl)) rfl rfl c174 rfl hr1 (w_lo (n := 22) rfl (Nat.le_trans (Nat.le_of_ble_eq_true rfl) hr2)) (Nat.le_of_ble_eq_true rfl) (Nat.le_of_ble_eq_true rfl) rfl (tX11_unit_0_ok (21, .invokevirtual 174, 3) (List.mem_of_getElem? (i := 12) rfl)) (hunit _ _ _ _ _ _ _ _ (by omega) (w_sub (n := 22) rfl (by omega)) (by omega) (by omega) ⟨⟨⟨c174, l175, f176, f177, f178, f179, f180⟩, f181, n_tx_m, c182, hs, hb, a183, a184⟩, f185, n_le_m, _, c186⟩ (fun h188 fs189 at190 fl191 dp192 v193 p194 e195 e196 e197 k198 o199 => ?_))
      dsimp only at e195
      have e197b := e197 rfl
      have p200 := p194.1
      obtain ⟨⟨c201, l202, f203, f204, f205, f206, f207⟩, f208, -, c209, -, -, a210, a211⟩ := p200
      have f212 := (k198 4 (by decide)).trans f185
      have c213 := (o199 le n_le_m).trans c186
      show ww l D tys A X fr lo mX11_unit Q 24 [(1, .int v4), (0, .ref m)] [.int v193] h188
      refine w_istore_n [(2, .int v193), (1, .int v4), (0, .ref m)] rfl (Nat.le_of_ble_eq_true rfl) (tX11_unit_0_ok (24, .istore_n 2, 1) (List.mem_of_getElem? (i := 13) rfl)) ?_
      refine w_aload_n (List.Mem.tail _ (List.Mem.tail _ (List.Mem.head _))) (tX11_unit_0_ok (25, .aload_n 0, 1) (List.mem_of_getElem? (i := 14) rfl)) ?_
      refine w_dup rfl (tX11_unit_0_ok (26, .dup, 1) (List.mem_of_getElem? (i := 15) rfl)) ?_
      refine w_get (own := 16) rfl rfl (by decide) c201 f208 (tX11_unit_0_ok (27, .getfield 121, 3) (List.mem_of_getElem? (i := 16) rfl)) ?_
      refine w_iconst (by decide) (tX11_unit_0_ok (30, .iconst 1, 1) (List.mem_of_getElem? (i := 17) rfl)) (fun v214 e215 => ?_)
      refine w_isub (by omega) (by omega) (tX11_unit_0_ok (31, .isub, 1) (List.mem_of_getElem? (i := 18) rfl)) (fun v216 e217 => ?_)
      refine w_putF (own := 16) rfl rfl (by decide) rfl ⟨rfl, rfl⟩ c201 (by rw [l202]; decide) (tX11_unit_0_ok (32, .putfield 121, 3) (List.mem_of_getElem? (i := 19) rfl)) (fun h218 fs221 l222 k223 j224 c219 o220 => ?_)
      rw [l202] at l222
      have f225 := (j224 5 (by decide)).trans f203
      have f226 := (j224 8 (by decide)).trans f204
      have f227 := (j224 9 (by decide)).trans f205
      have f228 := (j224 10 (by decide)).trans f206
      have f229 := (j224 11 (by decide)).trans f207
      have f230 := (j224 4 (by decide)).trans f212
      have c231 := (o220 tx n_tx_m).trans c209
      have c232 := (o220 le n_le_m).trans c213
      refine w_iload_n (List.Mem.head _) (tX11_unit_0_ok (35, .iload_n 2, 1) (List.mem_of_getElem? (i := 20) rfl)) ?_
      refine w_if_ne (tgt := 43) (tX11_unit_0_ok (36, .ifCond .ne 7, 3) (List.mem_of_getElem? (i := 21) rfl)) rfl (fun b233 => ?_) (fun b233 => ?_)
      · refine w_iconst (by decide) (tX11_unit_0_ok (43, .iconst 0, 1) (List.mem_of_getElem? (i := 24) rfl)) (fun v234 e235 => ?_)
        refine w_zret rfl (by omega) (by omega) (tX11_unit_0_ok (44, .ireturn, 1) (List.mem_of_getElem? (i := 25) rfl)) ?_
        refine hq h218 fs221 at190 fl191 v216 v234 ⟨⟨⟨c219, l222, f225, f226, f227, f228, f229⟩, k223, n_tx_m, c231, hs, hb, a210, a211⟩, f230, n_le_m, _, c232⟩ ?_ (by omega) (fun _ => by omega) (fun j hj => (j224 j hj.2.2).trans ((k198 j hj).trans ((k172 j hj).trans (k8 j hj)))) (fun q hq => (o220 q hq).trans ((o199 q hq).trans ((o173 q hq).trans (o9 q hq))))
        dsimp only
        have y1 : at166.toInt.toNat = sp_sk f en.toInt.toNat at0.toInt.toNat + 1 := by omega
        rw [y1] at e195
        unfold sp_unit
        rw [if_pos (by omega)]
        exact e195
      · refine w_iconst (by decide) (tX11_unit_0_ok (39, .iconst 1, 1) (List.mem_of_getElem? (i := 22) rfl)) (fun v236 e237 => ?_)
        refine w_goto (tgt := 44) (tX11_unit_0_ok (40, .goto 4, 3) (List.mem_of_getElem? (i := 23) rfl)) rfl ?_
        refine w_zret rfl (by omega) (by omega) (tX11_unit_0_ok (44, .ireturn, 1) (List.mem_of_getElem? (i := 25) rfl)) ?_
        refine hq h218 fs221 at190 fl191 v216 v236 ⟨⟨⟨c219, l222, f225, f226, f227, f228, f229⟩, k223, n_tx_m, c231, hs, hb, a210, a211⟩, f230, n_le_m, _, c232⟩ ?_ (by omega) (fun _ => by omega) (fun j hj => (j224 j hj.2.2).trans ((k198 j hj).trans ((k172 j hj).trans (k8 j hj)))) (fun q hq => (o220 q hq).trans ((o199 q hq).trans ((o173 q hq).trans (o9 q hq))))
        dsimp only
        have y1 : at166.toInt.toNat = sp_sk f en.toInt.toNat at0.toInt.toNat + 1 := by omega
        rw [y1] at e195
        unfold sp_unit
        rw [if_pos (by omega)]
        exact e195
    · exfalso; omega
theorem r_partL (hT : k_tys tys cA) {d : Nat} {N NB NP : Nat → Nat ⊕ Nat} (hNp : sp_pg N ∧ sp_pg NB ∧ sp_pg NP) {dv : Int} (hdv : 0 ≤ dv) (hunit : PM l D tys A X cA m tx n le g f bg en mX11_unit [(0, .ref m)] (dv) true (fun n9 a9 fl9 => sp_is (sp_unit f en.toInt.toNat N NB NP n9) a9 fl9) (3 * d + 10) (75 * d + 245)) (hf : 3 * d + 11 ≤ fr) (hl : 75 * d + 270 ≤ lo) {Y : Nat ⊕ Nat} {n0 : Nat} : ∀ (k : Nat) (is at0 fl0 dp : Int32) (h : ch_H) (fs : List Value), (fl0.toInt = -1 → en.toInt - at0.toInt ≤ k) → dv ≤ dp.toInt ∧ dp.toInt ≤ 6 ∧ (fl0.toInt = -1 → dp.toInt = dv) → sp_st Y (sp_loop f en.toInt.toNat sp_an (sp_unit f en.toInt.toNat N NB NP) 160) at0 fl0 → (fl0.toInt = -1 → n0 < at0.toInt.toNat) → rl cA h m fs tx n le g f bg en at0 fl0 dp → (0 ≤ is.toInt ∧ is.toInt ≤ 1) → (∀ (h1 : ch_H) (fs1 : List Value) (at1 fl1 dp1 v : Int32), rl cA h1 m fs1 tx n le g f bg en at1 fl1 dp1 → tmP f en.toInt.toNat Y (sp_loop f en.toInt.toNat sp_an (sp_unit f en.toInt.toNat N NB NP) 160) 38 38 n0 at1 fl1 → dv ≤ dp1.toInt ∧ dp1.toInt ≤ 6 ∧ (fl1.toInt = -1 → dp1.toInt = dv) → (true = true → 0 ≤ v.toInt ∧ v.toInt ≤ 1) → (∀ j, j ≠ 10 ∧ j ≠ 11 ∧ j ≠ 12 → fs1[j]? = fs[j]?) → (∀ q, q ≠ m → h1 q = h q) → Q (some (.int v)) h1) → ww l D tys A X fr lo mX11_part Q 18 [(3, .int is), (0, .ref m)] [] h := by
  intro k
  induction k using Nat.strongRecOn with
  | ind k ih =>
    intro is at0 fl0 dp h fs hk hdp hst hn0 H his hq
    have hr1 : 1 ≤ fr := by omega
    have hr2 : 30 ≤ lo := by omega
    obtain ⟨⟨⟨c_m, fl, f5, f8, f9, f10, f11⟩, f12, n_tx_m, c_x, hs, hb, ha⟩, f4, n_le_m, gl, c_le⟩ := H
    refine w_aload_n (List.Mem.tail _ (List.Mem.head _)) (tX11_part_0_ok (18, .aload_n 0, 1) (List.mem_of_getElem? (i := 10) rfl)) ?_
    refine w_get (own := 16) rfl rfl (by decide) c_m f11 (tX11_part_0_ok (19, .getfield 118, 3) (List.mem_of_getElem? (i := 11) rfl)) ?_
    refine w_iconst (by decide) (tX11_part_0_ok (22, .iconst (-1), 1) (List.mem_of_getElem? (i := 12) rfl)) (fun v1 e2 => ?_)
    refine w_icmp_ne (tgt := 69) (tX11_part_0_ok (23, .if_icmp .ne 46, 3) (List.mem_of_getElem? (i := 13) rfl)) rfl (fun b3 => ?_) (fun b3 => ?_)
    · refine w_iload_n (List.Mem.head _) (tX11_part_0_ok (69, .iload_n 3, 1) (List.mem_of_getElem? (i := 36) rfl)) ?_
      refine w_zret rfl (by omega) (by omega) (tX11_part_0_ok (70, .ireturn, 1) (List.mem_of_getElem? (i := 37) rfl)) ?_
      refine hq h fs at0 fl0 dp is ⟨⟨⟨c_m, fl, f5, f8, f9, f10, f11⟩, f12, n_tx_m, c_x, hs, hb, ha.1, ha.2⟩, f4, n_le_m, _, c_le⟩ ?_ (by omega) (fun _ => by omega) (fun j hj => rfl) (fun q hq => rfl)
      exact ⟨hst, fun z9 => absurd z9 (by omega)⟩
    · have hfl9 : fl0.toInt = -1 := by omega
      have hk9 := hk hfl9
      have hd9 := hdp.2.2 hfl9
      have hd8 := hdp.2.1
      have hd7 := hdp.1
      have hn9 := hn0 hfl9
      have hsk := sp_sk_le f en.toInt.toNat at0.toInt.toNat
      clear hk hdp hn0
      refine w_aload_n (List.Mem.tail _ (List.Mem.head _)) (tX11_part_0_ok (26, .aload_n 0, 1) (List.mem_of_getElem? (i := 14) rfl)) ?_
      refine w_callV (own := 16) (mi := 212) [] [] [(0, .ref m)] rfl (cllw_X11 (128, 0, 212) (List.mem_of_getElem? (i := 7) rfl)) rfl rfl c_m rfl hr1 (w_lo (n := 20) rfl (Nat.le_trans (Nat.le_of_ble_eq_true rfl) hr2)) (Nat.le_of_ble_eq_true rfl) (Nat.le_of_ble_eq_true rfl) rfl (tX11_part_0_ok (27, .invokevirtual 128, 3) (List.mem_of_getElem? (i := 15) rfl)) (r_look hT ⟨⟨c_m, fl, f5, f8, f9, f10, f11⟩, f12, n_tx_m, c_x, hs, hb, ha.1, ha.2⟩ (fun h4 fs5 at6 v7 p8 e9 e10 k11 o12 => ?_))
      obtain ⟨⟨c13, l14, f15, f16, f17, f18, f19⟩, f20, -, c21, -, -, a22, a23⟩ := p8
      have f24 := (k11 4 (by decide)).trans f4
      have c25 := (o12 le n_le_m).trans c_le
      show ww l D tys A X fr lo mX11_part Q 30 [(3, .int is), (0, .ref m)] [.int v7] h4
      refine w_bipush (by decide) (tX11_part_0_ok (30, .bipush 38, 2) (List.mem_of_getElem? (i := 16) rfl)) (fun v26 e27 => ?_)
      refine w_icmp_ne (tgt := 69) (tX11_part_0_ok (32, .if_icmp .ne 37, 3) (List.mem_of_getElem? (i := 17) rfl)) rfl (fun b28 => ?_) (fun b28 => ?_)
      · have g29 : ¬ sp_sg f en.toInt.toNat (sp_sk f en.toInt.toNat at0.toInt.toNat) = 38 := by omega
        clear e10 b28
        refine w_iload_n (List.Mem.head _) (tX11_part_0_ok (69, .iload_n 3, 1) (List.mem_of_getElem? (i := 36) rfl)) ?_
        refine w_zret rfl (by omega) (by omega) (tX11_part_0_ok (70, .ireturn, 1) (List.mem_of_getElem? (i := 37) rfl)) ?_
        have y2 : Y = sp_loop f en.toInt.toNat sp_an (sp_unit f en.toInt.toNat N NB NP) 160 at0.toInt.toNat := by rcases hst with ⟨z1, z2⟩ | ⟨z1, z2⟩ <;> first | exact z2 | exact absurd hfl9 z1
        refine hq h4 fs5 at6 fl0 dp is ⟨⟨⟨c13, l14, f15, f16, f17, f18, f19⟩, f20, n_tx_m, c21, hs, hb, a22, a23⟩, f24, n_le_m, _, c25⟩ ?_ (by omega) (fun _ => by omega) (fun j hj => k11 j hj) (fun q hq => o12 q hq)
        refine ⟨Or.inr ⟨by omega, ?_⟩, fun z9 => ⟨by have z8 := sp_sk_le f en.toInt.toNat at0.toInt.toNat; omega, ?_, ?_⟩⟩
        · rw [y2]; exact sp_lp_sk sp_an_0 (by omega) (sp_unit_pg hNp.1 hNp.2.1 hNp.2.2) (by omega)
        · rw [e9, sp_sk_sk]
        · rw [e9]; exact ⟨by omega, by omega⟩
      · have g30 : sp_sg f en.toInt.toNat (sp_sk f en.toInt.toNat at0.toInt.toNat) = 38 ∧ at6.toInt < en.toInt ∧ v7.toInt = 38 := by omega
        clear e10 b28
        refine w_aload_n (List.Mem.tail _ (List.Mem.head _)) (tX11_part_0_ok (35, .aload_n 0, 1) (List.mem_of_getElem? (i := 18) rfl)) ?_
        refine w_dup rfl (tX11_part_0_ok (36, .dup, 1) (List.mem_of_getElem? (i := 19) rfl)) ?_
        refine w_get (own := 16) rfl rfl (by decide) c13 f18 (tX11_part_0_ok (37, .getfield 109, 3) (List.mem_of_getElem? (i := 20) rfl)) ?_
        refine w_iconst (by decide) (tX11_part_0_ok (40, .iconst 1, 1) (List.mem_of_getElem? (i := 21) rfl)) (fun v31 e32 => ?_)
        refine w_iadd (by omega) (by omega) (tX11_part_0_ok (41, .iadd, 1) (List.mem_of_getElem? (i := 22) rfl)) (fun v33 e34 => ?_)
        refine w_putF (own := 16) rfl rfl (by decide) rfl ⟨rfl, rfl⟩ c13 (by rw [l14]; decide) (tX11_part_0_ok (42, .putfield 109, 3) (List.mem_of_getElem? (i := 23) rfl)) (fun h35 fs38 l39 k40 j41 c36 o37 => ?_)
        rw [l14] at l39
        have f42 := (j41 5 (by decide)).trans f15
        have f43 := (j41 8 (by decide)).trans f16
        have f44 := (j41 9 (by decide)).trans f17
        have f45 := (j41 11 (by decide)).trans f19
        have f46 := (j41 12 (by decide)).trans f20
        have f47 := (j41 4 (by decide)).trans f24
        have c48 := (o37 tx n_tx_m).trans c21
        have c49 := (o37 le n_le_m).trans c25
        refine w_aload_n (List.Mem.tail _ (List.Mem.head _)) (tX11_part_0_ok (45, .aload_n 0, 1) (List.mem_of_getElem? (i := 24) rfl)) ?_
        refine w_callV (own := 16) (mi := 256) [] [] [(0, .ref m)] rfl (cllw_X11 (174, 0, 256) (List.mem_of_getElem? (i := 31) rfl)) rfl rfl c36 rfl hr1 (w_lo (n := 22) rfl (Nat.le_trans (Nat.le_of_ble_eq_true rfl) hr2)) (Nat.le_of_ble_eq_true rfl) (Nat.le_of_ble_eq_true rfl) rfl (tX11_part_0_ok (46, .invokevirtual 174, 3) (List.mem_of_getElem? (i := 25) rfl)) (hunit _ _ _ _ _ _ _ _ (by omega) (w_sub (n := 22) rfl (by omega)) (by omega) (by omega) ⟨⟨⟨c36, l39, f42, f43, f44, k40, f45⟩, f46, n_tx_m, c48, hs, hb, by omega, by omega⟩, f47, n_le_m, _, c49⟩ (fun h50 fs51 at52 fl53 dp54 v55 p56 e57 e58 e59 k60 o61 => ?_))
        dsimp only at e57
        have e59b := e59 rfl
        have p62 := p56.1
        obtain ⟨⟨c63, l64, f65, f66, f67, f68, f69⟩, f70, -, c71, -, -, a72, a73⟩ := p62
        have f74 := (k60 4 (by decide)).trans f47
        have c75 := (o61 le n_le_m).trans c49
        show ww l D tys A X fr lo mX11_part Q 49 [(3, .int is), (0, .ref m)] [.int v55] h50
        refine w_istore [(4, .int v55), (3, .int is), (0, .ref m)] rfl (Nat.le_of_ble_eq_true rfl) (tX11_part_0_ok (49, .istore 4, 2) (List.mem_of_getElem? (i := 26) rfl)) ?_
        refine w_iload_n (List.Mem.tail _ (List.Mem.head _)) (tX11_part_0_ok (51, .iload_n 3, 1) (List.mem_of_getElem? (i := 27) rfl)) ?_
        refine w_if_eq (tgt := 64) (tX11_part_0_ok (52, .ifCond .eq 12, 3) (List.mem_of_getElem? (i := 28) rfl)) rfl (fun b76 => ?_) (fun b76 => ?_)
        · refine w_iconst (by decide) (tX11_part_0_ok (64, .iconst 0, 1) (List.mem_of_getElem? (i := 33) rfl)) (fun v77 e78 => ?_)
          refine w_istore_n [(3, .int v77), (4, .int v55), (0, .ref m)] rfl (Nat.le_of_ble_eq_true rfl) (tX11_part_0_ok (65, .istore_n 3, 1) (List.mem_of_getElem? (i := 34) rfl)) ?_
          refine w_goto (tgt := 18) (tX11_part_0_ok (66, .goto (-48), 3) (List.mem_of_getElem? (i := 35) rfl)) rfl ?_
          have y1 : v33.toInt.toNat = sp_sk f en.toInt.toNat at0.toInt.toNat + 1 := by omega
          rw [y1] at e57
          have y2 : Y = sp_loop f en.toInt.toNat sp_an (sp_unit f en.toInt.toNat N NB NP) 160 at0.toInt.toNat := by rcases hst with ⟨z1, z2⟩ | ⟨z1, z2⟩ <;> first | exact z2 | exact absurd hfl9 z1
          rw [sp_lp sp_an_0 (by omega) (sp_unit_pg hNp.1 hNp.2.1 hNp.2.2), if_pos (sp_an_iff.mpr (by omega))] at y2
          refine w_lv [(3, .int v77), (0, .ref m)] (by intro q hq; simp only [List.mem_cons, List.not_mem_nil, or_false] at hq ⊢; rcases hq with e | e <;> subst e <;> simp) ?_
          refine ih (k - 1) (by omega) _ _ _ _ _ _ (fun z9 => by obtain ⟨q9, q8, q7⟩ := sp_is.inr e57 z9; have q6 := (sp_unit_pg hNp.1 hNp.2.1 hNp.2.2) _ _ q8; omega) (by omega) (sp_st.go y2 rfl e57) (fun z9 => by obtain ⟨q9, q8, q7⟩ := sp_is.inr e57 z9; have q6 := (sp_unit_pg hNp.1 hNp.2.1 hNp.2.2) _ _ q8; omega) ⟨⟨⟨c63, l64, f65, f66, f67, f68, f69⟩, f70, n_tx_m, c71, hs, hb, a72, a73⟩, f74, n_le_m, _, c75⟩ (by omega) (fun h1 fs1 at1 fl1 dp1 u p1 p2 p5 p6 p3 p4 => hq h1 fs1 at1 fl1 dp1 u p1 p2 p5 p6 (fun j hj => (p3 j hj).trans ((k60 j hj).trans ((j41 j hj.1).trans (k11 j hj)))) (fun q hq => (p4 q hq).trans ((o61 q hq).trans ((o37 q hq).trans (o12 q hq)))))
        · refine w_iload (List.Mem.head _) (tX11_part_0_ok (55, .iload 4, 2) (List.mem_of_getElem? (i := 29) rfl)) ?_
          refine w_if_eq (tgt := 64) (tX11_part_0_ok (57, .ifCond .eq 7, 3) (List.mem_of_getElem? (i := 30) rfl)) rfl (fun b79 => ?_) (fun b79 => ?_)
          · refine w_iconst (by decide) (tX11_part_0_ok (64, .iconst 0, 1) (List.mem_of_getElem? (i := 33) rfl)) (fun v80 e81 => ?_)
            refine w_istore_n [(3, .int v80), (4, .int v55), (0, .ref m)] rfl (Nat.le_of_ble_eq_true rfl) (tX11_part_0_ok (65, .istore_n 3, 1) (List.mem_of_getElem? (i := 34) rfl)) ?_
            refine w_goto (tgt := 18) (tX11_part_0_ok (66, .goto (-48), 3) (List.mem_of_getElem? (i := 35) rfl)) rfl ?_
            have y1 : v33.toInt.toNat = sp_sk f en.toInt.toNat at0.toInt.toNat + 1 := by omega
            rw [y1] at e57
            have y2 : Y = sp_loop f en.toInt.toNat sp_an (sp_unit f en.toInt.toNat N NB NP) 160 at0.toInt.toNat := by rcases hst with ⟨z1, z2⟩ | ⟨z1, z2⟩ <;> first | exact z2 | exact absurd hfl9 z1
            rw [sp_lp sp_an_0 (by omega) (sp_unit_pg hNp.1 hNp.2.1 hNp.2.2), if_pos (sp_an_iff.mpr (by omega))] at y2
            refine w_lv [(3, .int v80), (0, .ref m)] (by intro q hq; simp only [List.mem_cons, List.not_mem_nil, or_false] at hq ⊢; rcases hq with e | e <;> subst e <;> simp) ?_
            refine ih (k - 1) (by omega) _ _ _ _ _ _ (fun z9 => by obtain ⟨q9, q8, q7⟩ := sp_is.inr e57 z9; have q6 := (sp_unit_pg hNp.1 hNp.2.1 hNp.2.2) _ _ q8; omega) (by omega) (sp_st.go y2 rfl e57) (fun z9 => by obtain ⟨q9, q8, q7⟩ := sp_is.inr e57 z9; have q6 := (sp_unit_pg hNp.1 hNp.2.1 hNp.2.2) _ _ q8; omega) ⟨⟨⟨c63, l64, f65, f66, f67, f68, f69⟩, f70, n_tx_m, c71, hs, hb, a72, a73⟩, f74, n_le_m, _, c75⟩ (by omega) (fun h1 fs1 at1 fl1 dp1 u p1 p2 p5 p6 p3 p4 => hq h1 fs1 at1 fl1 dp1 u p1 p2 p5 p6 (fun j hj => (p3 j hj).trans ((k60 j hj).trans ((j41 j hj.1).trans (k11 j hj)))) (fun q hq => (p4 q hq).trans ((o61 q hq).trans ((o37 q hq).trans (o12 q hq)))))
          · refine w_iconst (by decide) (tX11_part_0_ok (60, .iconst 1, 1) (List.mem_of_getElem? (i := 31) rfl)) (fun v82 e83 => ?_)
            refine w_goto (tgt := 65) (tX11_part_0_ok (61, .goto 4, 3) (List.mem_of_getElem? (i := 32) rfl)) rfl ?_
            refine w_istore_n [(3, .int v82), (4, .int v55), (0, .ref m)] rfl (Nat.le_of_ble_eq_true rfl) (tX11_part_0_ok (65, .istore_n 3, 1) (List.mem_of_getElem? (i := 34) rfl)) ?_
            refine w_goto (tgt := 18) (tX11_part_0_ok (66, .goto (-48), 3) (List.mem_of_getElem? (i := 35) rfl)) rfl ?_
            have y1 : v33.toInt.toNat = sp_sk f en.toInt.toNat at0.toInt.toNat + 1 := by omega
            rw [y1] at e57
            have y2 : Y = sp_loop f en.toInt.toNat sp_an (sp_unit f en.toInt.toNat N NB NP) 160 at0.toInt.toNat := by rcases hst with ⟨z1, z2⟩ | ⟨z1, z2⟩ <;> first | exact z2 | exact absurd hfl9 z1
            rw [sp_lp sp_an_0 (by omega) (sp_unit_pg hNp.1 hNp.2.1 hNp.2.2), if_pos (sp_an_iff.mpr (by omega))] at y2
            refine w_lv [(3, .int v82), (0, .ref m)] (by intro q hq; simp only [List.mem_cons, List.not_mem_nil, or_false] at hq ⊢; rcases hq with e | e <;> subst e <;> simp) ?_
            refine ih (k - 1) (by omega) _ _ _ _ _ _ (fun z9 => by obtain ⟨q9, q8, q7⟩ := sp_is.inr e57 z9; have q6 := (sp_unit_pg hNp.1 hNp.2.1 hNp.2.2) _ _ q8; omega) (by omega) (sp_st.go y2 rfl e57) (fun z9 => by obtain ⟨q9, q8, q7⟩ := sp_is.inr e57 z9; have q6 := (sp_unit_pg hNp.1 hNp.2.1 hNp.2.2) _ _ q8; omega) ⟨⟨⟨c63, l64, f65, f66, f67, f68, f69⟩, f70, n_tx_m, c71, hs, hb, a72, a73⟩, f74, n_le_m, _, c75⟩ (by omega) (fun h1 fs1 at1 fl1 dp1 u p1 p2 p5 p6 p3 p4 => hq h1 fs1 at1 fl1 dp1 u p1 p2 p5 p6 (fun j hj => (p3 j hj).trans ((k60 j hj).trans ((j41 j hj.1).trans (k11 j hj)))) (fun q hq => (p4 q hq).trans ((o61 q hq).trans ((o37 q hq).trans (o12 q hq)))))
theorem r_part0 (hT : k_tys tys cA) {d : Nat} {N NB NP : Nat → Nat ⊕ Nat} (hNp : sp_pg N ∧ sp_pg NB ∧ sp_pg NP) {dv : Int} (hdv : 0 ≤ dv) (hunit : PM l D tys A X cA m tx n le g f bg en mX11_unit [(0, .ref m)] (dv) true (fun n9 a9 fl9 => sp_is (sp_unit f en.toInt.toNat N NB NP n9) a9 fl9) (3 * d + 10) (75 * d + 245)) {hs1 rd1 : Int32} (hh : hs1.toInt = 0) : PM l D tys A X cA m tx n le g f bg en mX11_part [(0, .ref m), (1, .int hs1), (2, .int rd1)] (dv) true (fun n9 a9 fl9 => tmP f en.toInt.toNat (sp_bd (sp_unit f en.toInt.toNat N NB NP n9) (sp_loop f en.toInt.toNat sp_an (sp_unit f en.toInt.toNat N NB NP) 160)) (sp_loop f en.toInt.toNat sp_an (sp_unit f en.toInt.toNat N NB NP) 160) 38 38 n9 a9 fl9) (3 * d + 11) (75 * d + 270) := by
  intro fr lo Q h fs at0 fl0 dp hf hl hfl hdp H hq
  have hr1 : 1 ≤ fr := by omega
  have hr2 : 30 ≤ lo := by omega
  obtain ⟨⟨⟨c_m, fl, f5, f8, f9, f10, f11⟩, f12, n_tx_m, c_x, hs, hb, ha⟩, f4, n_le_m, gl, c_le⟩ := H
  refine w_iload_n (List.Mem.tail _ (List.Mem.head _)) (tX11_part_0_ok (0, .iload_n 1, 1) (List.mem_of_getElem? (i := 0) rfl)) ?_
  refine w_if_eq (tgt := 13) (tX11_part_0_ok (1, .ifCond .eq 12, 3) (List.mem_of_getElem? (i := 1) rfl)) rfl (fun b1 => ?_) (fun b1 => ?_)
  · refine w_aload_n (List.Mem.head _) (tX11_part_0_ok (13, .aload_n 0, 1) (List.mem_of_getElem? (i := 7) rfl)) ?_
    refine w_callV (own := 16) (mi := 256) [] [] [(0, .ref m)] rfl (cllw_X11 (174, 0, 256) (List.mem_of_getElem? (i := 31) rfl)) rfl rfl c_m rfl hr1 (w_lo (n := 22) rfl (Nat.le_trans (Nat.le_of_ble_eq_true rfl) hr2)) (Nat.le_of_ble_eq_true rfl) (Nat.le_of_ble_eq_true rfl) rfl (tX11_part_0_ok (14, .invokevirtual 174, 3) (List.mem_of_getElem? (i := 8) rfl)) (hunit _ _ _ _ _ _ _ _ (by omega) (w_sub (n := 22) rfl (by omega)) (by omega) (by omega) ⟨⟨⟨c_m, fl, f5, f8, f9, f10, f11⟩, f12, n_tx_m, c_x, hs, hb, ha.1, ha.2⟩, f4, n_le_m, _, c_le⟩ (fun h2 fs3 at4 fl5 dp6 v7 p8 e9 e10 e11 k12 o13 => ?_))
    dsimp only at e9
    have e11b := e11 rfl
    have p14 := p8.1
    obtain ⟨⟨c15, l16, f17, f18, f19, f20, f21⟩, f22, -, c23, -, -, a24, a25⟩ := p14
    have f26 := (k12 4 (by decide)).trans f4
    have c27 := (o13 le n_le_m).trans c_le
    show ww l D tys A X fr lo mX11_part Q 17 [(0, .ref m), (1, .int hs1), (2, .int rd1)] [.int v7] h2
    refine w_istore_n [(3, .int v7), (0, .ref m), (1, .int hs1), (2, .int rd1)] rfl (Nat.le_of_ble_eq_true rfl) (tX11_part_0_ok (17, .istore_n 3, 1) (List.mem_of_getElem? (i := 9) rfl)) ?_
    refine w_lv [(3, .int v7), (0, .ref m)] (by intro q hq; simp only [List.mem_cons, List.not_mem_nil, or_false] at hq ⊢; rcases hq with e | e <;> subst e <;> simp) ?_
    refine r_partL hT hNp hdv hunit hf hl (en.toInt - at4.toInt).toNat _ _ _ _ _ _ (fun z9 => by omega) (by omega) (sp_st.of e9) (n0 := at0.toInt.toNat) (fun z9 => by obtain ⟨q9, q8, q7⟩ := sp_is.inr e9 z9; have q6 := (sp_unit_pg hNp.1 hNp.2.1 hNp.2.2) _ _ q8; omega) ⟨⟨⟨c15, l16, f17, f18, f19, f20, f21⟩, f22, n_tx_m, c23, hs, hb, a24, a25⟩, f26, n_le_m, _, c27⟩ (by omega) (fun h1 fs1 at1 fl1 dp1 u p1 p2 p5 p6 p3 p4 => hq h1 fs1 at1 fl1 dp1 u p1 p2 p5 p6 (fun j hj => (p3 j hj).trans (k12 j hj)) (fun q hq => (p4 q hq).trans (o13 q hq)))
  · exfalso; omega
theorem r_part1 (hT : k_tys tys cA) {d : Nat} {N NB NP : Nat → Nat ⊕ Nat} (hNp : sp_pg N ∧ sp_pg NB ∧ sp_pg NP) {dv : Int} (hdv : 0 ≤ dv) (hunit : PM l D tys A X cA m tx n le g f bg en mX11_unit [(0, .ref m)] (dv) true (fun n9 a9 fl9 => sp_is (sp_unit f en.toInt.toNat N NB NP n9) a9 fl9) (3 * d + 10) (75 * d + 245)) (hcmp : ∀ hs1 rd1 : Int32, hs1.toInt = 1 → PM l D tys A X cA m tx n le g f bg en mX11_compares [(0, .ref m), (1, .int hs1), (2, .int rd1)] (dv) true (fun n9 a9 fl9 => sp_is (sp_cm f en.toInt.toNat N n9) a9 fl9) (3 * d + 9) (75 * d + 215)) {hs1 rd1 : Int32} (hh : hs1.toInt = 1) : PM l D tys A X cA m tx n le g f bg en mX11_part [(0, .ref m), (1, .int hs1), (2, .int rd1)] (dv) true (fun n9 a9 fl9 => tmP f en.toInt.toNat (sp_bd (sp_cm f en.toInt.toNat N n9) (sp_loop f en.toInt.toNat sp_an (sp_unit f en.toInt.toNat N NB NP) 160)) (sp_loop f en.toInt.toNat sp_an (sp_unit f en.toInt.toNat N NB NP) 160) 38 38 n9 a9 fl9) (3 * d + 11) (75 * d + 270) := by
  intro fr lo Q h fs at0 fl0 dp hf hl hfl hdp H hq
  have hr1 : 1 ≤ fr := by omega
  have hr2 : 30 ≤ lo := by omega
  obtain ⟨⟨⟨c_m, fl, f5, f8, f9, f10, f11⟩, f12, n_tx_m, c_x, hs, hb, ha⟩, f4, n_le_m, gl, c_le⟩ := H
  refine w_iload_n (List.Mem.tail _ (List.Mem.head _)) (tX11_part_0_ok (0, .iload_n 1, 1) (List.mem_of_getElem? (i := 0) rfl)) ?_
  refine w_if_eq (tgt := 13) (tX11_part_0_ok (1, .ifCond .eq 12, 3) (List.mem_of_getElem? (i := 1) rfl)) rfl (fun b1 => ?_) (fun b1 => ?_)
  · exfalso; omega
  · refine w_aload_n (List.Mem.head _) (tX11_part_0_ok (4, .aload_n 0, 1) (List.mem_of_getElem? (i := 2) rfl)) ?_
    refine w_iconst (by decide) (tX11_part_0_ok (5, .iconst 1, 1) (List.mem_of_getElem? (i := 3) rfl)) (fun v2 e3 => ?_)
    refine w_iload_n (List.Mem.tail _ (List.Mem.tail _ (List.Mem.head _))) (tX11_part_0_ok (6, .iload_n 2, 1) (List.mem_of_getElem? (i := 4) rfl)) ?_
    refine w_callV (own := 16) (mi := 170) [.int v2, .int rd1] [] [(0, .ref m), (1, .int v2), (2, .int rd1)] rfl (cllw_X11 (181, 0, 170) (List.mem_of_getElem? (i := 24) rfl)) rfl rfl c_m rfl hr1 (w_lo (n := 25) rfl (Nat.le_trans (Nat.le_of_ble_eq_true rfl) hr2)) (Nat.le_of_ble_eq_true rfl) (Nat.le_of_ble_eq_true rfl) rfl (tX11_part_0_ok (7, .invokevirtual 181, 3) (List.mem_of_getElem? (i := 5) rfl)) ((hcmp _ _ (by omega)) _ _ _ _ _ _ _ _ (by omega) (w_sub (n := 25) rfl (by omega)) (by omega) (by omega) ⟨⟨⟨c_m, fl, f5, f8, f9, f10, f11⟩, f12, n_tx_m, c_x, hs, hb, ha.1, ha.2⟩, f4, n_le_m, _, c_le⟩ (fun h4 fs5 at6 fl7 dp8 v9 p10 e11 e12 e13 k14 o15 => ?_))
    dsimp only at e11
    have e13b := e13 rfl
    have p16 := p10.1
    obtain ⟨⟨c17, l18, f19, f20, f21, f22, f23⟩, f24, -, c25, -, -, a26, a27⟩ := p16
    have f28 := (k14 4 (by decide)).trans f4
    have c29 := (o15 le n_le_m).trans c_le
    show ww l D tys A X fr lo mX11_part Q 10 [(0, .ref m), (1, .int hs1), (2, .int rd1)] [.int v9] h4
    refine w_goto (tgt := 17) (tX11_part_0_ok (10, .goto 7, 3) (List.mem_of_getElem? (i := 6) rfl)) rfl ?_
    refine w_istore_n [(3, .int v9), (0, .ref m), (1, .int hs1), (2, .int rd1)] rfl (Nat.le_of_ble_eq_true rfl) (tX11_part_0_ok (17, .istore_n 3, 1) (List.mem_of_getElem? (i := 9) rfl)) ?_
    refine w_lv [(3, .int v9), (0, .ref m)] (by intro q hq; simp only [List.mem_cons, List.not_mem_nil, or_false] at hq ⊢; rcases hq with e | e <;> subst e <;> simp) ?_
    refine r_partL hT hNp hdv hunit hf hl (en.toInt - at6.toInt).toNat _ _ _ _ _ _ (fun z9 => by omega) (by omega) (sp_st.of e11) (n0 := at0.toInt.toNat) (fun z9 => by obtain ⟨q9, q8, q7⟩ := sp_is.inr e11 z9; have q6 := (sp_cm_pg hNp.1) _ _ q8; omega) ⟨⟨⟨c17, l18, f19, f20, f21, f22, f23⟩, f24, n_tx_m, c25, hs, hb, a26, a27⟩, f28, n_le_m, _, c29⟩ (by omega) (fun h1 fs1 at1 fl1 dp1 u p1 p2 p5 p6 p3 p4 => hq h1 fs1 at1 fl1 dp1 u p1 p2 p5 p6 (fun j hj => (p3 j hj).trans (k14 j hj)) (fun q hq => (p4 q hq).trans (o15 q hq)))
theorem r_condL (hT : k_tys tys cA) {d : Nat} {N NB NP : Nat → Nat ⊕ Nat} (hNp : sp_pg N ∧ sp_pg NB ∧ sp_pg NP) {dv : Int} (hdv : 0 ≤ dv) (hpart : ∀ hs1 rd1 : Int32, hs1.toInt = 0 → PM l D tys A X cA m tx n le g f bg en mX11_part [(0, .ref m), (1, .int hs1), (2, .int rd1)] (dv) true (fun n9 a9 fl9 => tmP f en.toInt.toNat (sp_bd (sp_unit f en.toInt.toNat N NB NP n9) (sp_loop f en.toInt.toNat sp_an (sp_unit f en.toInt.toNat N NB NP) 160)) (sp_loop f en.toInt.toNat sp_an (sp_unit f en.toInt.toNat N NB NP) 160) 38 38 n9 a9 fl9) (3 * d + 11) (75 * d + 270)) (hf : 3 * d + 12 ≤ fr) (hl : 75 * d + 295 ≤ lo) {Y : Nat ⊕ Nat} {n0 : Nat} : ∀ (k : Nat) (is at0 fl0 dp : Int32) (h : ch_H) (fs : List Value), (fl0.toInt = -1 → en.toInt - at0.toInt ≤ k) → dv ≤ dp.toInt ∧ dp.toInt ≤ 6 ∧ (fl0.toInt = -1 → dp.toInt = dv) → sp_st Y (sp_loop f en.toInt.toNat sp_an (sp_unit f en.toInt.toNat N NB NP) 160) at0 fl0 → (fl0.toInt = -1 → n0 < at0.toInt.toNat) → (fl0.toInt = -1 → sp_sk f en.toInt.toNat at0.toInt.toNat = at0.toInt.toNat ∧ sp_no 38 38 (sp_sg f en.toInt.toNat at0.toInt.toNat)) → rl cA h m fs tx n le g f bg en at0 fl0 dp → (0 ≤ is.toInt ∧ is.toInt ≤ 1) → (∀ (h1 : ch_H) (fs1 : List Value) (at1 fl1 dp1 v : Int32), rl cA h1 m fs1 tx n le g f bg en at1 fl1 dp1 → sp_is Y at1 fl1 → dv ≤ dp1.toInt ∧ dp1.toInt ≤ 6 ∧ (fl1.toInt = -1 → dp1.toInt = dv) → (true = true → 0 ≤ v.toInt ∧ v.toInt ≤ 1) → (∀ j, j ≠ 10 ∧ j ≠ 11 ∧ j ≠ 12 → fs1[j]? = fs[j]?) → (∀ q, q ≠ m → h1 q = h q) → Q (some (.int v)) h1) → ww l D tys A X fr lo mX11_condition Q 7 [(3, .int is), (0, .ref m)] [] h := by
  intro k
  induction k using Nat.strongRecOn with
  | ind k ih =>
    intro is at0 fl0 dp h fs hk hdp hst hn0 hs9 H his hq
    have hr1 : 1 ≤ fr := by omega
    have hr2 : 30 ≤ lo := by omega
    obtain ⟨⟨⟨c_m, fl, f5, f8, f9, f10, f11⟩, f12, n_tx_m, c_x, hs, hb, ha⟩, f4, n_le_m, gl, c_le⟩ := H
    refine w_aload_n (List.Mem.tail _ (List.Mem.head _)) (tX11_condition_0_ok (7, .aload_n 0, 1) (List.mem_of_getElem? (i := 5) rfl)) ?_
    refine w_get (own := 16) rfl rfl (by decide) c_m f11 (tX11_condition_0_ok (8, .getfield 118, 3) (List.mem_of_getElem? (i := 6) rfl)) ?_
    refine w_iconst (by decide) (tX11_condition_0_ok (11, .iconst (-1), 1) (List.mem_of_getElem? (i := 7) rfl)) (fun v1 e2 => ?_)
    refine w_icmp_ne (tgt := 60) (tX11_condition_0_ok (12, .if_icmp .ne 48, 3) (List.mem_of_getElem? (i := 8) rfl)) rfl (fun b3 => ?_) (fun b3 => ?_)
    · refine w_iload_n (List.Mem.head _) (tX11_condition_0_ok (60, .iload_n 3, 1) (List.mem_of_getElem? (i := 33) rfl)) ?_
      refine w_zret rfl (by omega) (by omega) (tX11_condition_0_ok (61, .ireturn, 1) (List.mem_of_getElem? (i := 34) rfl)) ?_
      refine hq h fs at0 fl0 dp is ⟨⟨⟨c_m, fl, f5, f8, f9, f10, f11⟩, f12, n_tx_m, c_x, hs, hb, ha.1, ha.2⟩, f4, n_le_m, _, c_le⟩ ?_ (by omega) (fun _ => by omega) (fun j hj => rfl) (fun q hq => rfl)
      rcases hst with ⟨z1, z2⟩ | ⟨z1, z2⟩
      · exact z2
      · exact absurd z1 (by omega)
    · have hfl9 : fl0.toInt = -1 := by omega
      have hk9 := hk hfl9
      have hd9 := hdp.2.2 hfl9
      have hd8 := hdp.2.1
      have hd7 := hdp.1
      have hn9 := hn0 hfl9
      have hsk := sp_sk_le f en.toInt.toNat at0.toInt.toNat
      clear hk hdp hn0
      have y3 := hs9 hfl9
      clear hs9
      refine w_aload_n (List.Mem.tail _ (List.Mem.head _)) (tX11_condition_0_ok (15, .aload_n 0, 1) (List.mem_of_getElem? (i := 9) rfl)) ?_
      refine w_callV (own := 16) (mi := 212) [] [] [(0, .ref m)] rfl (cllw_X11 (128, 0, 212) (List.mem_of_getElem? (i := 7) rfl)) rfl rfl c_m rfl hr1 (w_lo (n := 20) rfl (Nat.le_trans (Nat.le_of_ble_eq_true rfl) hr2)) (Nat.le_of_ble_eq_true rfl) (Nat.le_of_ble_eq_true rfl) rfl (tX11_condition_0_ok (16, .invokevirtual 128, 3) (List.mem_of_getElem? (i := 10) rfl)) (r_look hT ⟨⟨c_m, fl, f5, f8, f9, f10, f11⟩, f12, n_tx_m, c_x, hs, hb, ha.1, ha.2⟩ (fun h4 fs5 at6 v7 p8 e9 e10 k11 o12 => ?_))
      obtain ⟨⟨c13, l14, f15, f16, f17, f18, f19⟩, f20, -, c21, -, -, a22, a23⟩ := p8
      have f24 := (k11 4 (by decide)).trans f4
      have c25 := (o12 le n_le_m).trans c_le
      show ww l D tys A X fr lo mX11_condition Q 19 [(3, .int is), (0, .ref m)] [.int v7] h4
      refine w_bipush (by decide) (tX11_condition_0_ok (19, .bipush 124, 2) (List.mem_of_getElem? (i := 11) rfl)) (fun v26 e27 => ?_)
      refine w_icmp_ne (tgt := 60) (tX11_condition_0_ok (21, .if_icmp .ne 39, 3) (List.mem_of_getElem? (i := 12) rfl)) rfl (fun b28 => ?_) (fun b28 => ?_)
      · have g29 : ¬ sp_sg f en.toInt.toNat (sp_sk f en.toInt.toNat at0.toInt.toNat) = 124 := by omega
        clear e10 b28
        refine w_iload_n (List.Mem.head _) (tX11_condition_0_ok (60, .iload_n 3, 1) (List.mem_of_getElem? (i := 33) rfl)) ?_
        refine w_zret rfl (by omega) (by omega) (tX11_condition_0_ok (61, .ireturn, 1) (List.mem_of_getElem? (i := 34) rfl)) ?_
        have y2 : Y = sp_loop f en.toInt.toNat sp_an (sp_unit f en.toInt.toNat N NB NP) 160 at0.toInt.toNat := by rcases hst with ⟨z1, z2⟩ | ⟨z1, z2⟩ <;> first | exact z2 | exact absurd hfl9 z1
        rw [y3.1] at e9
        rw [y3.1] at g29
        rw [sp_lp sp_an_0 (by omega) (sp_unit_pg hNp.1 hNp.2.1 hNp.2.2), y3.1, if_neg (fun z9 => by have z8 := sp_an_iff.mp z9; have z7 := y3.2.1; have z6 := y3.2.2; omega)] at y2
        refine hq h4 fs5 at6 fl0 dp is ⟨⟨⟨c13, l14, f15, f16, f17, f18, f19⟩, f20, n_tx_m, c21, hs, hb, a22, a23⟩, f24, n_le_m, _, c25⟩ ?_ (by omega) (fun _ => by omega) (fun j hj => k11 j hj) (fun q hq => o12 q hq)
        rw [y2]
        exact ⟨by omega, by omega⟩
      · have g30 : sp_sg f en.toInt.toNat (sp_sk f en.toInt.toNat at0.toInt.toNat) = 124 ∧ at6.toInt < en.toInt ∧ v7.toInt = 124 := by omega
        clear e10 b28
        refine w_aload_n (List.Mem.tail _ (List.Mem.head _)) (tX11_condition_0_ok (24, .aload_n 0, 1) (List.mem_of_getElem? (i := 13) rfl)) ?_
        refine w_dup rfl (tX11_condition_0_ok (25, .dup, 1) (List.mem_of_getElem? (i := 14) rfl)) ?_
        refine w_get (own := 16) rfl rfl (by decide) c13 f18 (tX11_condition_0_ok (26, .getfield 109, 3) (List.mem_of_getElem? (i := 15) rfl)) ?_
        refine w_iconst (by decide) (tX11_condition_0_ok (29, .iconst 1, 1) (List.mem_of_getElem? (i := 16) rfl)) (fun v31 e32 => ?_)
        refine w_iadd (by omega) (by omega) (tX11_condition_0_ok (30, .iadd, 1) (List.mem_of_getElem? (i := 17) rfl)) (fun v33 e34 => ?_)
        refine w_putF (own := 16) rfl rfl (by decide) rfl ⟨rfl, rfl⟩ c13 (by rw [l14]; decide) (tX11_condition_0_ok (31, .putfield 109, 3) (List.mem_of_getElem? (i := 18) rfl)) (fun h35 fs38 l39 k40 j41 c36 o37 => ?_)
        rw [l14] at l39
        have f42 := (j41 5 (by decide)).trans f15
        have f43 := (j41 8 (by decide)).trans f16
        have f44 := (j41 9 (by decide)).trans f17
        have f45 := (j41 11 (by decide)).trans f19
        have f46 := (j41 12 (by decide)).trans f20
        have f47 := (j41 4 (by decide)).trans f24
        have c48 := (o37 tx n_tx_m).trans c21
        have c49 := (o37 le n_le_m).trans c25
        refine w_aload_n (List.Mem.tail _ (List.Mem.head _)) (tX11_condition_0_ok (34, .aload_n 0, 1) (List.mem_of_getElem? (i := 19) rfl)) ?_
        refine w_iconst (by decide) (tX11_condition_0_ok (35, .iconst 0, 1) (List.mem_of_getElem? (i := 20) rfl)) (fun v50 e51 => ?_)
        refine w_iconst (by decide) (tX11_condition_0_ok (36, .iconst 0, 1) (List.mem_of_getElem? (i := 21) rfl)) (fun v52 e53 => ?_)
        refine w_callV (own := 16) (mi := 227) [.int v50, .int v52] [] [(0, .ref m), (1, .int v50), (2, .int v52)] rfl (cllw_X11 (184, 0, 227) (List.mem_of_getElem? (i := 23) rfl)) rfl rfl c36 rfl hr1 (w_lo (n := 24) rfl (Nat.le_trans (Nat.le_of_ble_eq_true rfl) hr2)) (Nat.le_of_ble_eq_true rfl) (Nat.le_of_ble_eq_true rfl) rfl (tX11_condition_0_ok (37, .invokevirtual 184, 3) (List.mem_of_getElem? (i := 22) rfl)) ((hpart _ _ (by omega)) _ _ _ _ _ _ _ _ (by omega) (w_sub (n := 24) rfl (by omega)) (by omega) (by omega) ⟨⟨⟨c36, l39, f42, f43, f44, k40, f45⟩, f46, n_tx_m, c48, hs, hb, by omega, by omega⟩, f47, n_le_m, _, c49⟩ (fun h54 fs55 at56 fl57 dp58 v59 p60 e61 e62 e63 k64 o65 => ?_))
        dsimp only at e61
        have e63b := e63 rfl
        have p66 := p60.1
        obtain ⟨⟨c67, l68, f69, f70, f71, f72, f73⟩, f74, -, c75, -, -, a76, a77⟩ := p66
        have f78 := (k64 4 (by decide)).trans f47
        have c79 := (o65 le n_le_m).trans c49
        show ww l D tys A X fr lo mX11_condition Q 40 [(3, .int is), (0, .ref m)] [.int v59] h54
        refine w_istore [(4, .int v59), (3, .int is), (0, .ref m)] rfl (Nat.le_of_ble_eq_true rfl) (tX11_condition_0_ok (40, .istore 4, 2) (List.mem_of_getElem? (i := 23) rfl)) ?_
        refine w_iload_n (List.Mem.tail _ (List.Mem.head _)) (tX11_condition_0_ok (42, .iload_n 3, 1) (List.mem_of_getElem? (i := 24) rfl)) ?_
        refine w_if_ne (tgt := 51) (tX11_condition_0_ok (43, .ifCond .ne 8, 3) (List.mem_of_getElem? (i := 25) rfl)) rfl (fun b80 => ?_) (fun b80 => ?_)
        · refine w_iconst (by decide) (tX11_condition_0_ok (51, .iconst 1, 1) (List.mem_of_getElem? (i := 28) rfl)) (fun v81 e82 => ?_)
          refine w_goto (tgt := 56) (tX11_condition_0_ok (52, .goto 4, 3) (List.mem_of_getElem? (i := 29) rfl)) rfl ?_
          refine w_istore_n [(3, .int v81), (4, .int v59), (0, .ref m)] rfl (Nat.le_of_ble_eq_true rfl) (tX11_condition_0_ok (56, .istore_n 3, 1) (List.mem_of_getElem? (i := 31) rfl)) ?_
          refine w_goto (tgt := 7) (tX11_condition_0_ok (57, .goto (-50), 3) (List.mem_of_getElem? (i := 32) rfl)) rfl ?_
          have y1 : v33.toInt.toNat = sp_sk f en.toInt.toNat at0.toInt.toNat + 1 := by omega
          rw [y1] at e61
          have y2 : Y = sp_loop f en.toInt.toNat sp_an (sp_unit f en.toInt.toNat N NB NP) 160 at0.toInt.toNat := by rcases hst with ⟨z1, z2⟩ | ⟨z1, z2⟩ <;> first | exact z2 | exact absurd hfl9 z1
          rw [sp_lp sp_an_0 (by omega) (sp_unit_pg hNp.1 hNp.2.1 hNp.2.2), if_pos (sp_an_iff.mpr (by omega))] at y2
          refine w_lv [(3, .int v81), (0, .ref m)] (by intro q hq; simp only [List.mem_cons, List.not_mem_nil, or_false] at hq ⊢; rcases hq with e | e <;> subst e <;> simp) ?_
          refine ih (k - 1) (by omega) _ _ _ _ _ _ (fun z9 => by have q6 := (e61.2 z9).1; omega) (by omega) (by rw [y2]; exact e61.1) (fun z9 => by have q6 := (e61.2 z9).1; omega) (fun z9 => (e61.2 z9).2) ⟨⟨⟨c67, l68, f69, f70, f71, f72, f73⟩, f74, n_tx_m, c75, hs, hb, a76, a77⟩, f78, n_le_m, _, c79⟩ (by omega) (fun h1 fs1 at1 fl1 dp1 u p1 p2 p5 p6 p3 p4 => hq h1 fs1 at1 fl1 dp1 u p1 p2 p5 p6 (fun j hj => (p3 j hj).trans ((k64 j hj).trans ((j41 j hj.1).trans (k11 j hj)))) (fun q hq => (p4 q hq).trans ((o65 q hq).trans ((o37 q hq).trans (o12 q hq)))))
        · refine w_iload (List.Mem.head _) (tX11_condition_0_ok (46, .iload 4, 2) (List.mem_of_getElem? (i := 26) rfl)) ?_
          refine w_if_eq (tgt := 55) (tX11_condition_0_ok (48, .ifCond .eq 7, 3) (List.mem_of_getElem? (i := 27) rfl)) rfl (fun b83 => ?_) (fun b83 => ?_)
          · refine w_iconst (by decide) (tX11_condition_0_ok (55, .iconst 0, 1) (List.mem_of_getElem? (i := 30) rfl)) (fun v84 e85 => ?_)
            refine w_istore_n [(3, .int v84), (4, .int v59), (0, .ref m)] rfl (Nat.le_of_ble_eq_true rfl) (tX11_condition_0_ok (56, .istore_n 3, 1) (List.mem_of_getElem? (i := 31) rfl)) ?_
            refine w_goto (tgt := 7) (tX11_condition_0_ok (57, .goto (-50), 3) (List.mem_of_getElem? (i := 32) rfl)) rfl ?_
            have y1 : v33.toInt.toNat = sp_sk f en.toInt.toNat at0.toInt.toNat + 1 := by omega
            rw [y1] at e61
            have y2 : Y = sp_loop f en.toInt.toNat sp_an (sp_unit f en.toInt.toNat N NB NP) 160 at0.toInt.toNat := by rcases hst with ⟨z1, z2⟩ | ⟨z1, z2⟩ <;> first | exact z2 | exact absurd hfl9 z1
            rw [sp_lp sp_an_0 (by omega) (sp_unit_pg hNp.1 hNp.2.1 hNp.2.2), if_pos (sp_an_iff.mpr (by omega))] at y2
            refine w_lv [(3, .int v84), (0, .ref m)] (by intro q hq; simp only [List.mem_cons, List.not_mem_nil, or_false] at hq ⊢; rcases hq with e | e <;> subst e <;> simp) ?_
            refine ih (k - 1) (by omega) _ _ _ _ _ _ (fun z9 => by have q6 := (e61.2 z9).1; omega) (by omega) (by rw [y2]; exact e61.1) (fun z9 => by have q6 := (e61.2 z9).1; omega) (fun z9 => (e61.2 z9).2) ⟨⟨⟨c67, l68, f69, f70, f71, f72, f73⟩, f74, n_tx_m, c75, hs, hb, a76, a77⟩, f78, n_le_m, _, c79⟩ (by omega) (fun h1 fs1 at1 fl1 dp1 u p1 p2 p5 p6 p3 p4 => hq h1 fs1 at1 fl1 dp1 u p1 p2 p5 p6 (fun j hj => (p3 j hj).trans ((k64 j hj).trans ((j41 j hj.1).trans (k11 j hj)))) (fun q hq => (p4 q hq).trans ((o65 q hq).trans ((o37 q hq).trans (o12 q hq)))))
          · refine w_iconst (by decide) (tX11_condition_0_ok (51, .iconst 1, 1) (List.mem_of_getElem? (i := 28) rfl)) (fun v86 e87 => ?_)
            refine w_goto (tgt := 56) (tX11_condition_0_ok (52, .goto 4, 3) (List.mem_of_getElem? (i := 29) rfl)) rfl ?_
            refine w_istore_n [(3, .int v86), (4, .int v59), (0, .ref m)] rfl (Nat.le_of_ble_eq_true rfl) (tX11_condition_0_ok (56, .istore_n 3, 1) (List.mem_of_getElem? (i := 31) rfl)) ?_
            refine w_goto (tgt := 7) (tX11_condition_0_ok (57, .goto (-50), 3) (List.mem_of_getElem? (i := 32) rfl)) rfl ?_
            have y1 : v33.toInt.toNat = sp_sk f en.toInt.toNat at0.toInt.toNat + 1 := by omega
            rw [y1] at e61
            have y2 : Y = sp_loop f en.toInt.toNat sp_an (sp_unit f en.toInt.toNat N NB NP) 160 at0.toInt.toNat := by rcases hst with ⟨z1, z2⟩ | ⟨z1, z2⟩ <;> first | exact z2 | exact absurd hfl9 z1
            rw [sp_lp sp_an_0 (by omega) (sp_unit_pg hNp.1 hNp.2.1 hNp.2.2), if_pos (sp_an_iff.mpr (by omega))] at y2
            refine w_lv [(3, .int v86), (0, .ref m)] (by intro q hq; simp only [List.mem_cons, List.not_mem_nil, or_false] at hq ⊢; rcases hq with e | e <;> subst e <;> simp) ?_
            refine ih (k - 1) (by omega) _ _ _ _ _ _ (fun z9 => by have q6 := (e61.2 z9).1; omega) (by omega) (by rw [y2]; exact e61.1) (fun z9 => by have q6 := (e61.2 z9).1; omega) (fun z9 => (e61.2 z9).2) ⟨⟨⟨c67, l68, f69, f70, f71, f72, f73⟩, f74, n_tx_m, c75, hs, hb, a76, a77⟩, f78, n_le_m, _, c79⟩ (by omega) (fun h1 fs1 at1 fl1 dp1 u p1 p2 p5 p6 p3 p4 => hq h1 fs1 at1 fl1 dp1 u p1 p2 p5 p6 (fun j hj => (p3 j hj).trans ((k64 j hj).trans ((j41 j hj.1).trans (k11 j hj)))) (fun q hq => (p4 q hq).trans ((o65 q hq).trans ((o37 q hq).trans (o12 q hq)))))
theorem r_cond0 (hT : k_tys tys cA) {d : Nat} {N NB NP : Nat → Nat ⊕ Nat} (hNp : sp_pg N ∧ sp_pg NB ∧ sp_pg NP) {dv : Int} (hdv : 0 ≤ dv) (hpart : ∀ hs1 rd1 : Int32, hs1.toInt = 0 → PM l D tys A X cA m tx n le g f bg en mX11_part [(0, .ref m), (1, .int hs1), (2, .int rd1)] (dv) true (fun n9 a9 fl9 => tmP f en.toInt.toNat (sp_bd (sp_unit f en.toInt.toNat N NB NP n9) (sp_loop f en.toInt.toNat sp_an (sp_unit f en.toInt.toNat N NB NP) 160)) (sp_loop f en.toInt.toNat sp_an (sp_unit f en.toInt.toNat N NB NP) 160) 38 38 n9 a9 fl9) (3 * d + 11) (75 * d + 270)) {hs1 rd1 : Int32} (hh : hs1.toInt = 0) : PM l D tys A X cA m tx n le g f bg en mX11_condition [(0, .ref m), (1, .int hs1), (2, .int rd1)] (dv) true (fun n9 a9 fl9 => sp_is (sp_cond f en.toInt.toNat N NB NP n9) a9 fl9) (3 * d + 12) (75 * d + 295) := by
  intro fr lo Q h fs at0 fl0 dp hf hl hfl hdp H hq
  have hr1 : 1 ≤ fr := by omega
  have hr2 : 30 ≤ lo := by omega
  obtain ⟨⟨⟨c_m, fl, f5, f8, f9, f10, f11⟩, f12, n_tx_m, c_x, hs, hb, ha⟩, f4, n_le_m, gl, c_le⟩ := H
  refine w_aload_n (List.Mem.head _) (tX11_condition_0_ok (0, .aload_n 0, 1) (List.mem_of_getElem? (i := 0) rfl)) ?_
  refine w_iload_n (List.Mem.tail _ (List.Mem.head _)) (tX11_condition_0_ok (1, .iload_n 1, 1) (List.mem_of_getElem? (i := 1) rfl)) ?_
  refine w_iload_n (List.Mem.tail _ (List.Mem.tail _ (List.Mem.head _))) (tX11_condition_0_ok (2, .iload_n 2, 1) (List.mem_of_getElem? (i := 2) rfl)) ?_
  refine w_callV (own := 16) (mi := 227) [.int hs1, .int rd1] [] [(0, .ref m), (1, .int hs1), (2, .int rd1)] rfl (cllw_X11 (184, 0, 227) (List.mem_of_getElem? (i := 23) rfl)) rfl rfl c_m rfl hr1 (w_lo (n := 24) rfl (Nat.le_trans (Nat.le_of_ble_eq_true rfl) hr2)) (Nat.le_of_ble_eq_true rfl) (Nat.le_of_ble_eq_true rfl) rfl (tX11_condition_0_ok (3, .invokevirtual 184, 3) (List.mem_of_getElem? (i := 3) rfl)) ((hpart _ _ hh) _ _ _ _ _ _ _ _ (by omega) (w_sub (n := 24) rfl (by omega)) (by omega) (by omega) ⟨⟨⟨c_m, fl, f5, f8, f9, f10, f11⟩, f12, n_tx_m, c_x, hs, hb, ha.1, ha.2⟩, f4, n_le_m, _, c_le⟩ (fun h1 fs2 at3 fl4 dp5 v6 p7 e8 e9 e10 k11 o12 => ?_))
  dsimp only at e8
  have e10b := e10 rfl
  have p13 := p7.1
  obtain ⟨⟨c14, l15, f16, f17, f18, f19, f20⟩, f21, -, c22, -, -, a23, a24⟩ := p13
  have f25 := (k11 4 (by decide)).trans f4
  have c26 := (o12 le n_le_m).trans c_le
  show ww l D tys A X fr lo mX11_condition Q 6 [(0, .ref m), (1, .int hs1), (2, .int rd1)] [.int v6] h1
  refine w_istore_n [(3, .int v6), (0, .ref m), (1, .int hs1), (2, .int rd1)] rfl (Nat.le_of_ble_eq_true rfl) (tX11_condition_0_ok (6, .istore_n 3, 1) (List.mem_of_getElem? (i := 4) rfl)) ?_
  refine w_lv [(3, .int v6), (0, .ref m)] (by intro q hq; simp only [List.mem_cons, List.not_mem_nil, or_false] at hq ⊢; rcases hq with e | e <;> subst e <;> simp) ?_
  refine r_condL hT hNp hdv hpart hf hl (en.toInt - at3.toInt).toNat _ _ _ _ _ _ (fun z9 => by omega) (by omega) e8.1 (n0 := at0.toInt.toNat) (fun z9 => (e8.2 z9).1) (fun z9 => (e8.2 z9).2) ⟨⟨⟨c14, l15, f16, f17, f18, f19, f20⟩, f21, n_tx_m, c22, hs, hb, a23, a24⟩, f25, n_le_m, _, c26⟩ (by omega) (fun h1 fs1 at1 fl1 dp1 u p1 p2 p5 p6 p3 p4 => hq h1 fs1 at1 fl1 dp1 u p1 p2 p5 p6 (fun j hj => (p3 j hj).trans (k11 j hj)) (fun q hq => (p4 q hq).trans (o12 q hq)))
theorem r_cond1 (hT : k_tys tys cA) {d : Nat} {N NB NP : Nat → Nat ⊕ Nat} (hNp : sp_pg N ∧ sp_pg NB ∧ sp_pg NP) {dv : Int} (hdv : 0 ≤ dv) (hpart : ∀ hs1 rd1 : Int32, hs1.toInt = 0 → PM l D tys A X cA m tx n le g f bg en mX11_part [(0, .ref m), (1, .int hs1), (2, .int rd1)] (dv) true (fun n9 a9 fl9 => tmP f en.toInt.toNat (sp_bd (sp_unit f en.toInt.toNat N NB NP n9) (sp_loop f en.toInt.toNat sp_an (sp_unit f en.toInt.toNat N NB NP) 160)) (sp_loop f en.toInt.toNat sp_an (sp_unit f en.toInt.toNat N NB NP) 160) 38 38 n9 a9 fl9) (3 * d + 11) (75 * d + 270)) (hpart1 : ∀ hs1 rd1 : Int32, hs1.toInt = 1 → PM l D tys A X cA m tx n le g f bg en mX11_part [(0, .ref m), (1, .int hs1), (2, .int rd1)] (dv) true (fun n9 a9 fl9 => tmP f en.toInt.toNat (sp_bd (sp_cm f en.toInt.toNat N n9) (sp_loop f en.toInt.toNat sp_an (sp_unit f en.toInt.toNat N NB NP) 160)) (sp_loop f en.toInt.toNat sp_an (sp_unit f en.toInt.toNat N NB NP) 160) 38 38 n9 a9 fl9) (3 * d + 11) (75 * d + 270)) {hs1 rd1 : Int32} (hh : hs1.toInt = 1) : PM l D tys A X cA m tx n le g f bg en mX11_condition [(0, .ref m), (1, .int hs1), (2, .int rd1)] (dv) true (fun n9 a9 fl9 => sp_is (sp_condB f en.toInt.toNat N NB NP n9) a9 fl9) (3 * d + 12) (75 * d + 295) := by
  intro fr lo Q h fs at0 fl0 dp hf hl hfl hdp H hq
  have hr1 : 1 ≤ fr := by omega
  have hr2 : 30 ≤ lo := by omega
  obtain ⟨⟨⟨c_m, fl, f5, f8, f9, f10, f11⟩, f12, n_tx_m, c_x, hs, hb, ha⟩, f4, n_le_m, gl, c_le⟩ := H
  refine w_aload_n (List.Mem.head _) (tX11_condition_0_ok (0, .aload_n 0, 1) (List.mem_of_getElem? (i := 0) rfl)) ?_
  refine w_iload_n (List.Mem.tail _ (List.Mem.head _)) (tX11_condition_0_ok (1, .iload_n 1, 1) (List.mem_of_getElem? (i := 1) rfl)) ?_
  refine w_iload_n (List.Mem.tail _ (List.Mem.tail _ (List.Mem.head _))) (tX11_condition_0_ok (2, .iload_n 2, 1) (List.mem_of_getElem? (i := 2) rfl)) ?_
  refine w_callV (own := 16) (mi := 227) [.int hs1, .int rd1] [] [(0, .ref m), (1, .int hs1), (2, .int rd1)] rfl (cllw_X11 (184, 0, 227) (List.mem_of_getElem? (i := 23) rfl)) rfl rfl c_m rfl hr1 (w_lo (n := 24) rfl (Nat.le_trans (Nat.le_of_ble_eq_true rfl) hr2)) (Nat.le_of_ble_eq_true rfl) (Nat.le_of_ble_eq_true rfl) rfl (tX11_condition_0_ok (3, .invokevirtual 184, 3) (List.mem_of_getElem? (i := 3) rfl)) ((hpart1 _ _ hh) _ _ _ _ _ _ _ _ (by omega) (w_sub (n := 24) rfl (by omega)) (by omega) (by omega) ⟨⟨⟨c_m, fl, f5, f8, f9, f10, f11⟩, f12, n_tx_m, c_x, hs, hb, ha.1, ha.2⟩, f4, n_le_m, _, c_le⟩ (fun h1 fs2 at3 fl4 dp5 v6 p7 e8 e9 e10 k11 o12 => ?_))
  dsimp only at e8
  have e10b := e10 rfl
  have p13 := p7.1
  obtain ⟨⟨c14, l15, f16, f17, f18, f19, f20⟩, f21, -, c22, -, -, a23, a24⟩ := p13
  have f25 := (k11 4 (by decide)).trans f4
  have c26 := (o12 le n_le_m).trans c_le
  show ww l D tys A X fr lo mX11_condition Q 6 [(0, .ref m), (1, .int hs1), (2, .int rd1)] [.int v6] h1
  refine w_istore_n [(3, .int v6), (0, .ref m), (1, .int hs1), (2, .int rd1)] rfl (Nat.le_of_ble_eq_true rfl) (tX11_condition_0_ok (6, .istore_n 3, 1) (List.mem_of_getElem? (i := 4) rfl)) ?_
  refine w_lv [(3, .int v6), (0, .ref m)] (by intro q hq; simp only [List.mem_cons, List.not_mem_nil, or_false] at hq ⊢; rcases hq with e | e <;> subst e <;> simp) ?_
  refine r_condL hT hNp hdv hpart hf hl (en.toInt - at3.toInt).toNat _ _ _ _ _ _ (fun z9 => by omega) (by omega) e8.1 (n0 := at0.toInt.toNat) (fun z9 => (e8.2 z9).1) (fun z9 => (e8.2 z9).2) ⟨⟨⟨c14, l15, f16, f17, f18, f19, f20⟩, f21, n_tx_m, c22, hs, hb, a23, a24⟩, f25, n_le_m, _, c26⟩ (by omega) (fun h1 fs1 at1 fl1 dp1 u p1 p2 p5 p6 p3 p4 => hq h1 fs1 at1 fl1 dp1 u p1 p2 p5 p6 (fun j hj => (p3 j hj).trans (k11 j hj)) (fun q hq => (p4 q hq).trans (o12 q hq)))
end
