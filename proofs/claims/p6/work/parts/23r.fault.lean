/-! fault, class and reference -/
section
variable {l : Launch} {D : va_G} {tys : List (ClassId × FieldType)} {A : Nat → Prop} {X : State → Prop} {fr lo : Nat} {Q : Option Value → ch_H → Prop} {cA : Nat → ClassId} {h : ch_H} {x t b P a1 a2 a3 a4 a5 a6 a7 a8 r k s : Nat} {xs9 : List Value} {f g1 g2 g3 : Nat → Int32} {len at0 fl0 so : Int32} {sg : Nat → Nat}
theorem s_fault0 (hT : k_tys tys cA) (hso : so.toInt = 0) (hN : pns sg t b P a1 a2 a3 a4 a5 a6 a7 a8) (hx9 : sg x = 0) (hf : 5 ≤ fr) (hl : 200 ≤ lo) (c_o : h x = some (.inr (9, xs9))) (fX0 : xs9[0]? = some (.ref t)) (fX2 : xs9[2]? = some (.ref P)) (fX13 : xs9[13]? = some (.ref r)) (H : tp0 cA h t b f len at0 fl0) (HP : pn cA h P a1 a2 a3 a4 a5 a6 a7 a8 g1 g2 g3) (hq : ∀ (h1 : ch_H) (at1 fl1 : Int32) (k1 k2 k3 : Nat → Int32), tp cA h1 t b f len at1 fl1 → pn cA h1 P a1 a2 a3 a4 a5 a6 a7 a8 k1 k2 k3 → sp_is (sp_town f len.toInt.toNat).1 at1 fl1 → (fl1.toInt = -1 → ∃ ro : Int32, h1 P = some (.inr (4, [.int ro, .ref a1, .ref a2, .ref a3, .ref a4, .ref a5, .ref a6, .ref a7, .ref a8])) ∧ ro.toInt = ((sp_town f len.toInt.toNat).2 : Int)) → (∀ q, sg q < 2 → h1 q = h q) → Q (some (.int fl1)) h1) : ww l D tys A X fr lo mX10_fault Q 0 [(0, .ref x), (1, .int so)] [] h := by
  have c_t := H.1
  have c_b := H.2.1
  refine w_iload_n (List.Mem.tail _ (List.Mem.head _)) (tX10_fault_0_ok (0, .iload_n 1, 1) (List.mem_of_getElem? (i := 0) rfl)) ?_
  refine w_if_ne (tgt := 23) (tX10_fault_0_ok (1, .ifCond .ne 22, 3) (List.mem_of_getElem? (i := 1) rfl)) rfl (fun b1 => ?_) (fun b1 => ?_)
  · exfalso; omega
  · refine w_aload_n (List.Mem.head _) (tX10_fault_0_ok (4, .aload_n 0, 1) (List.mem_of_getElem? (i := 2) rfl)) ?_
    refine w_get (own := 15) rfl rfl (by decide) c_o fX0 (tX10_fault_0_ok (5, .getfield 10, 3) (List.mem_of_getElem? (i := 3) rfl)) ?_
    refine w_aload_n (List.Mem.head _) (tX10_fault_0_ok (8, .aload_n 0, 1) (List.mem_of_getElem? (i := 4) rfl)) ?_
    refine w_get (own := 15) rfl rfl (by decide) c_o fX2 (tX10_fault_0_ok (9, .getfield 23, 3) (List.mem_of_getElem? (i := 5) rfl)) ?_
    refine w_callS (own := 15) (mi := 83) [.ref t, .ref P] [] [(0, .ref t), (1, .ref P)] rfl (cllw_X10 (110, 1, 83) (List.mem_of_getElem? (i := 2) rfl)) rfl rfl (by omega) (w_lo (n := 22) rfl (by omega)) (Nat.le_of_ble_eq_true rfl) (Nat.le_of_ble_eq_true rfl) rfl (tX10_fault_0_ok (12, .invokestatic 110, 3) (List.mem_of_getElem? (i := 6) rfl)) (s_town hT hN ⟨by omega, w_sub (n := 22) rfl (by omega)⟩ H HP (fun h2 at3 fl4 k5 k6 k7 p8 p9 e10 e11 o12 => ?_))
    have c13 := (o12 x (by rw [hx9]; decide)).trans c_o
    have p8T := p8
    obtain ⟨c14, c15, -, -, -, a16, a17⟩ := p8
    show ww l D tys A X fr lo mX10_fault Q 15 [(0, .ref x), (1, .int so)] [] h2
    refine w_aload_n (List.Mem.head _) (tX10_fault_0_ok (15, .aload_n 0, 1) (List.mem_of_getElem? (i := 7) rfl)) ?_
    refine w_get (own := 15) rfl rfl (by decide) c13 fX0 (tX10_fault_0_ok (16, .getfield 10, 3) (List.mem_of_getElem? (i := 8) rfl)) ?_
    refine w_get (own := 15) rfl rfl (by decide) c14 rfl (tX10_fault_0_ok (19, .getfield 116, 3) (List.mem_of_getElem? (i := 9) rfl)) ?_
    refine w_iret rfl (tX10_fault_0_ok (22, .ireturn, 1) (List.mem_of_getElem? (i := 10) rfl)) ?_
    exact hq h2 at3 fl4 k5 k6 k7 p8T p9 e10 e11 o12
theorem ru.obj {cA : Nat → ClassId} {h : ch_H} {r k s : Nat} (R : ru cA h r k s) : ∃ fs : List Value, h r = some (.inr (5, fs)) := R.elim fun g z => z.elim fun sz z => ⟨_, z.1⟩
theorem s_fault1 (hT : k_tys tys cA) (hso : so.toInt = 1) (hN : ns t b r k) (n_x_t : x ≠ t) (n_x_r : x ≠ r) (n_x_k : x ≠ k) (hf : 40 ≤ fr) (hl : 1120 ≤ lo) (c_o : h x = some (.inr (9, xs9))) (fX0 : xs9[0]? = some (.ref t)) (fX2 : xs9[2]? = some (.ref P)) (fX13 : xs9[13]? = some (.ref r)) (H : tp0 cA h t b f len at0 fl0) (R : ru cA h r k s) (hq : ∀ (h1 : ch_H) (at1 fl1 : Int32), tp cA h1 t b f len at1 fl1 → ru cA h1 r k s → sp_is (sp_rule f len.toInt.toNat) at1 fl1 → (∀ q, q ≠ t ∧ q ≠ r ∧ q ≠ k → h1 q = h q) → Q (some (.int fl1)) h1) : ww l D tys A X fr lo mX10_fault Q 0 [(0, .ref x), (1, .int so)] [] h := by
  have c_t := H.1
  have c_b := H.2.1
  refine w_iload_n (List.Mem.tail _ (List.Mem.head _)) (tX10_fault_0_ok (0, .iload_n 1, 1) (List.mem_of_getElem? (i := 0) rfl)) ?_
  refine w_if_ne (tgt := 23) (tX10_fault_0_ok (1, .ifCond .ne 22, 3) (List.mem_of_getElem? (i := 1) rfl)) rfl (fun b1 => ?_) (fun b1 => ?_)
  · refine w_iload_n (List.Mem.tail _ (List.Mem.head _)) (tX10_fault_0_ok (23, .iload_n 1, 1) (List.mem_of_getElem? (i := 11) rfl)) ?_
    refine w_iconst (by decide) (tX10_fault_0_ok (24, .iconst 1, 1) (List.mem_of_getElem? (i := 12) rfl)) (fun v2 e3 => ?_)
    refine w_icmp_ne (tgt := 47) (tX10_fault_0_ok (25, .if_icmp .ne 22, 3) (List.mem_of_getElem? (i := 13) rfl)) rfl (fun b4 => ?_) (fun b4 => ?_)
    · exfalso; omega
    · refine w_aload_n (List.Mem.head _) (tX10_fault_0_ok (28, .aload_n 0, 1) (List.mem_of_getElem? (i := 14) rfl)) ?_
      refine w_get (own := 15) rfl rfl (by decide) c_o fX13 (tX10_fault_0_ok (29, .getfield 67, 3) (List.mem_of_getElem? (i := 15) rfl)) ?_
      refine w_aload_n (List.Mem.head _) (tX10_fault_0_ok (32, .aload_n 0, 1) (List.mem_of_getElem? (i := 16) rfl)) ?_
      refine w_get (own := 15) rfl rfl (by decide) c_o fX0 (tX10_fault_0_ok (33, .getfield 10, 3) (List.mem_of_getElem? (i := 17) rfl)) ?_
      refine w_callV (own := 15) (mi := 61) [.ref t] [] [(0, .ref r), (1, .ref t)] rfl (cllw_X10 (119, 0, 61) (List.mem_of_getElem? (i := 3) rfl)) rfl rfl (Exists.choose_spec (ru.obj R)) rfl (by omega) (w_lo (n := 22) rfl (by omega)) (Nat.le_of_ble_eq_true rfl) (Nat.le_of_ble_eq_true rfl) rfl (tX10_fault_0_ok (36, .invokevirtual 119, 3) (List.mem_of_getElem? (i := 18) rfl)) (s_read hT hN (by omega) (w_sub (n := 22) rfl (by omega)) H R (fun h5 at6 fl7 p8 p9 e10 o11 => ?_))
      have c12 := (o11 x ⟨n_x_t, n_x_r, n_x_k⟩).trans c_o
      have p8T := p8
      obtain ⟨c13, c14, -, -, -, a15, a16⟩ := p8
      show ww l D tys A X fr lo mX10_fault Q 39 [(0, .ref x), (1, .int so)] [] h5
      refine w_aload_n (List.Mem.head _) (tX10_fault_0_ok (39, .aload_n 0, 1) (List.mem_of_getElem? (i := 19) rfl)) ?_
      refine w_get (own := 15) rfl rfl (by decide) c12 fX0 (tX10_fault_0_ok (40, .getfield 10, 3) (List.mem_of_getElem? (i := 20) rfl)) ?_
      refine w_get (own := 15) rfl rfl (by decide) c13 rfl (tX10_fault_0_ok (43, .getfield 116, 3) (List.mem_of_getElem? (i := 21) rfl)) ?_
      refine w_iret rfl (tX10_fault_0_ok (46, .ireturn, 1) (List.mem_of_getElem? (i := 22) rfl)) ?_
      exact hq h5 at6 fl7 p8T p9 e10 o11
  · exfalso; omega
theorem s_fault2 (hso : ¬ so.toInt = 0 ∧ ¬ so.toInt = 1) (hq : ∀ v : Int32, v.toInt = -2 → Q (some (.int v)) h) : ww l D tys A X fr lo mX10_fault Q 0 [(0, .ref x), (1, .int so)] [] h := by
  refine w_iload_n (List.Mem.tail _ (List.Mem.head _)) (tX10_fault_0_ok (0, .iload_n 1, 1) (List.mem_of_getElem? (i := 0) rfl)) ?_
  refine w_if_ne (tgt := 23) (tX10_fault_0_ok (1, .ifCond .ne 22, 3) (List.mem_of_getElem? (i := 1) rfl)) rfl (fun b1 => ?_) (fun b1 => ?_)
  · refine w_iload_n (List.Mem.tail _ (List.Mem.head _)) (tX10_fault_0_ok (23, .iload_n 1, 1) (List.mem_of_getElem? (i := 11) rfl)) ?_
    refine w_iconst (by decide) (tX10_fault_0_ok (24, .iconst 1, 1) (List.mem_of_getElem? (i := 12) rfl)) (fun v2 e3 => ?_)
    refine w_icmp_ne (tgt := 47) (tX10_fault_0_ok (25, .if_icmp .ne 22, 3) (List.mem_of_getElem? (i := 13) rfl)) rfl (fun b4 => ?_) (fun b4 => ?_)
    · refine w_bipush (by decide) (tX10_fault_0_ok (47, .bipush (-2), 2) (List.mem_of_getElem? (i := 23) rfl)) (fun v5 e6 => ?_)
      refine w_iret rfl (tX10_fault_0_ok (49, .ireturn, 1) (List.mem_of_getElem? (i := 24) rfl)) ?_
      exact hq v5 (by omega)
    · exfalso; omega
  · exfalso; omega
end
section
variable {l : Launch} {D : va_G} {tys : List (ClassId × FieldType)} {A : Nat → Prop} {X : State → Prop} {fr lo : Nat} {Q : Option Value → ch_H → Prop} {cA : Nat → ClassId} {h : ch_H} {m tx n le : Nat} {fs : List Value} {g f : Nat → Int32} {bg en at0 fl0 dp : Int32} {aK aV : Nat → Nat} {ro : Nat} {R : Nat → Int32} {so rd : Int32}
theorem r_fault0 (hT : k_tys tys cA) (hX : ∀ s, X s → xs A aK aV s) (hso : so.toInt = 0) (hf : 7 ≤ fr) (hl : 280 ≤ lo) (hnz : ∀ i, i < en.toInt.toNat → 1 ≤ (f i).toInt) (hs : sb g f 0 en.toInt.toNat) (hb : 0 ≤ en.toInt ∧ en.toInt ≤ 160 ∧ en.toInt ≤ n) (c_m : h m = some (.inr (10, fs))) (fl : fs.length = 47) (fL1 : fs[1]? = some (.ref tx)) (f4 : fs[4]? = some (.ref le)) (fL6 : fs[6]? = some (.int en)) (f12 : fs[12]? = some (.int dp)) (fL19 : fs[19]? = some (.ref ro)) (fL21 : fs[21]? = some (.int rd)) (n_tx_m : tx ≠ m) (n_le_m : le ≠ m) (n_ro_m : ro ≠ m) (n_ro_tx : ro ≠ tx) (n_ro_le : ro ≠ le) (c_x : h tx = some (.inl (cA 2, n, .inl g))) {gl : Nat → Int32} (c_le : h le = some (.inl (cA 0, 128, .inl gl))) (c_ro : h ro = some (.inl (cA 0, 108, .inl R))) (hTD : TD R) (hq : ∀ (h1 : ch_H) (fs1 : List Value) (at1 fl1 rd1 bg1 : Int32) (R1 : Nat → Int32), rr cA h1 m fs1 tx n le ro g f R1 bg1 en at1 fl1 dp → bg1.toInt = 0 → fs1[21]? = some (.int rd1) → 0 ≤ rd1.toInt ∧ rd1.toInt ≤ 6 → sp_is (sp_town f en.toInt.toNat).1 at1 fl1 → (fl1.toInt = -1 → rd1.toInt = ((sp_town f en.toInt.toNat).2 : Nat) ∧ (R1 62).toInt = -1) → (∀ i, i < 54 → R1 i = R i) → (∃ y0 : Int32, fs1[0]? = some (.int y0)) → (∀ j, j ≠ 0 ∧ j ≠ 5 ∧ j ≠ 8 ∧ j ≠ 9 ∧ j ≠ 10 ∧ j ≠ 11 ∧ j ≠ 12 ∧ j ≠ 21 → fs1[j]? = fs[j]?) → (∀ q, q ≠ m ∧ q ≠ ro → h1 q = h q) → Q (some (.int fl1)) h1) : ww l D tys A X fr lo mX11_fault Q 0 [(0, .ref m), (1, .int so)] [] h := by
  have n_m_tx := n_tx_m.symm
  have n_m_le := n_le_m.symm
  have n_m_ro := n_ro_m.symm
  refine w_aload_n (List.Mem.head _) (tX11_fault_0_ok (0, .aload_n 0, 1) (List.mem_of_getElem? (i := 0) rfl)) ?_
  refine w_iconst (by decide) (tX11_fault_0_ok (1, .iconst 0, 1) (List.mem_of_getElem? (i := 1) rfl)) (fun uv1 ue2 => ?_)
  refine w_putF (own := 16) (ci := 10) (k := 0) rfl rfl (by decide) rfl ⟨rfl, rfl⟩ c_m (by rw [fl]; decide) (tX11_fault_0_ok (2, .putfield 85, 3) (List.mem_of_getElem? (i := 2) rfl)) (fun uh3 ufs6 ul7 uk8 uj9 uc4 uo5 => ?_)
  rw [fl] at ul7
  have uf10 := (uj9 1 (by decide)).trans fL1
  have uf11 := (uj9 4 (by decide)).trans f4
  have uf12 := (uj9 6 (by decide)).trans fL6
  have uf13 := (uj9 12 (by decide)).trans f12
  have uf14 := (uj9 19 (by decide)).trans fL19
  have uf15 := (uj9 21 (by decide)).trans fL21
  have uc16 := (uo5 tx n_tx_m).trans c_x
  have uc17 := (uo5 le n_le_m).trans c_le
  have uc18 := (uo5 ro n_ro_m).trans c_ro
  refine w_iload_n (List.Mem.tail _ (List.Mem.head _)) (tX11_fault_0_ok (5, .iload_n 1, 1) (List.mem_of_getElem? (i := 3) rfl)) ?_
  refine w_iconst (by decide) (tX11_fault_0_ok (6, .iconst 0, 1) (List.mem_of_getElem? (i := 4) rfl)) (fun uv19 ue20 => ?_)
  refine w_iconst (by decide) (tX11_fault_0_ok (7, .iconst 1, 1) (List.mem_of_getElem? (i := 5) rfl)) (fun uv21 ue22 => ?_)
  refine w_callS (own := 16) (mi := 199) [.int so, .int uv19, .int uv21] [] [(0, .int so), (1, .int uv19), (2, .int uv21)] rfl (cllw_X11 (207, 1, 199) (List.mem_of_getElem? (i := 2) rfl)) rfl rfl (by omega) (w_lo (n := 22) rfl (by omega)) (Nat.le_of_ble_eq_true rfl) (Nat.le_of_ble_eq_true rfl) rfl (tX11_fault_0_ok (8, .invokestatic 207, 3) (List.mem_of_getElem? (i := 6) rfl)) (r_isIn (fun uv23 ue24 => ?_))
  show ww l D tys A X fr lo mX11_fault Q 11 [(0, .ref m), (1, .int so)] [.int uv23] uh3
  refine w_if_ne (tgt := 17) (tX11_fault_0_ok (11, .ifCond .ne 6, 3) (List.mem_of_getElem? (i := 7) rfl)) rfl (fun ub25 => ?_) (fun ub25 => ?_)
  · refine w_iload_n (List.Mem.tail _ (List.Mem.head _)) (tX11_fault_0_ok (17, .iload_n 1, 1) (List.mem_of_getElem? (i := 10) rfl)) ?_
    refine w_if_ne (tgt := 28) (tX11_fault_0_ok (18, .ifCond .ne 10, 3) (List.mem_of_getElem? (i := 11) rfl)) rfl (fun ub26 => ?_) (fun ub26 => ?_)
    · exfalso; omega
    · refine w_aload_n (List.Mem.head _) (tX11_fault_0_ok (21, .aload_n 0, 1) (List.mem_of_getElem? (i := 12) rfl)) ?_
      refine w_callV (own := 16) (mi := 234) [] [] [(0, .ref m)] rfl (cllw_X11 (237, 0, 234) (List.mem_of_getElem? (i := 3) rfl)) rfl rfl uc4 rfl (by omega) (w_lo (n := 21) rfl (by omega)) (Nat.le_of_ble_eq_true rfl) (Nat.le_of_ble_eq_true rfl) rfl (tX11_fault_0_ok (22, .invokevirtual 237, 3) (List.mem_of_getElem? (i := 13) rfl)) (r_readTown hT hX (by omega) (w_sub (n := 21) rfl (by omega)) hnz hs hb uc4 ul7 uf10 uf11 uf12 uf13 uf14 uf15 n_tx_m n_le_m n_ro_m n_ro_tx n_ro_le uc16 uc17 uc18 hTD (fun uh27 ufs28 uat29 ufl30 urda31 ubga32 uRa33 up34 ue35 ue36 ue37 ue38 ue39 ue40 uk41 uo42 => ?_))
      have uc43 := up34.1.1.1.1
      have uf44 := up34.1.1.1.2.2.2.2.2.2
      have ul45 := up34.1.1.1.2.1
      have uf46 := (uk41 0 (by decide)).trans uk8
      show ww l D tys A X fr lo mX11_fault Q 25 [(0, .ref m), (1, .int so)] [] uh27
      refine w_goto (tgt := 41) (tX11_fault_0_ok (25, .goto 16, 3) (List.mem_of_getElem? (i := 14) rfl)) rfl ?_
      refine w_aload_n (List.Mem.head _) (tX11_fault_0_ok (41, .aload_n 0, 1) (List.mem_of_getElem? (i := 22) rfl)) ?_
      refine w_get (own := 16) rfl rfl (by decide) uc43 uf44 (tX11_fault_0_ok (42, .getfield 118, 3) (List.mem_of_getElem? (i := 23) rfl)) ?_
      refine w_iret rfl (tX11_fault_0_ok (45, .ireturn, 1) (List.mem_of_getElem? (i := 24) rfl)) ?_
      exact hq uh27 ufs28 uat29 ufl30 urda31 ubga32 uRa33 up34 ue35 ue36 ue37 ue38 ue39 ue40 ⟨_, uf46⟩ (fun j hj => (uk41 j ⟨hj.2.1, hj.2.2.1, hj.2.2.2.1, hj.2.2.2.2.1, hj.2.2.2.2.2.1, hj.2.2.2.2.2.2.1, hj.2.2.2.2.2.2.2⟩).trans (uj9 j hj.1)) (fun q hq => (uo42 q ⟨hq.1, hq.2⟩).trans (uo5 q hq.1))
  · exfalso; omega
theorem r_fault1 (hT : k_tys tys cA) (hX : ∀ s, X s → xs A aK aV s) (hso : so.toInt = 1) (hf : 34 ≤ fr) (hl : 900 ≤ lo) (hnz : ∀ i, i < en.toInt.toNat → 1 ≤ (f i).toInt) (hs : sb g f 0 en.toInt.toNat) (hb : 0 ≤ en.toInt ∧ en.toInt ≤ 160 ∧ en.toInt ≤ n) (c_m : h m = some (.inr (10, fs))) (fl : fs.length = 47) (fL1 : fs[1]? = some (.ref tx)) (f4 : fs[4]? = some (.ref le)) (fL6 : fs[6]? = some (.int en)) (f12 : fs[12]? = some (.int dp)) (fL19 : fs[19]? = some (.ref ro)) (fL21 : fs[21]? = some (.int rd)) (n_tx_m : tx ≠ m) (n_le_m : le ≠ m) (n_ro_m : ro ≠ m) (n_ro_tx : ro ≠ tx) (n_ro_le : ro ≠ le) (c_x : h tx = some (.inl (cA 2, n, .inl g))) {gl : Nat → Int32} (c_le : h le = some (.inl (cA 0, 128, .inl gl))) (c_ro : h ro = some (.inl (cA 0, 108, .inl R))) (hTD : TD R) (hq : ∀ (h1 : ch_H) (fs1 : List Value) (at1 fl1 dp1 bg1 : Int32), rk cA h1 m fs1 tx n le g f bg1 en at1 fl1 dp1 → bg1.toInt = 0 → sp_is (sp_rule f en.toInt.toNat) at1 fl1 → 0 ≤ dp1.toInt ∧ dp1.toInt ≤ 6 ∧ (fl1.toInt = -1 → dp1.toInt = 0) → (∃ y0 : Int32, fs1[0]? = some (.int y0)) → (∀ j, j ≠ 0 ∧ j ≠ 5 ∧ j ≠ 8 ∧ j ≠ 9 ∧ j ≠ 10 ∧ j ≠ 11 ∧ j ≠ 12 ∧ j ≠ 13 ∧ j ≠ 14 ∧ j ≠ 18 → fs1[j]? = fs[j]?) → (∀ q, q ≠ m → h1 q = h q) → Q (some (.int fl1)) h1) : ww l D tys A X fr lo mX11_fault Q 0 [(0, .ref m), (1, .int so)] [] h := by
  have n_m_tx := n_tx_m.symm
  have n_m_le := n_le_m.symm
  have n_m_ro := n_ro_m.symm
  refine w_aload_n (List.Mem.head _) (tX11_fault_0_ok (0, .aload_n 0, 1) (List.mem_of_getElem? (i := 0) rfl)) ?_
  refine w_iconst (by decide) (tX11_fault_0_ok (1, .iconst 0, 1) (List.mem_of_getElem? (i := 1) rfl)) (fun uv1 ue2 => ?_)
  refine w_putF (own := 16) (ci := 10) (k := 0) rfl rfl (by decide) rfl ⟨rfl, rfl⟩ c_m (by rw [fl]; decide) (tX11_fault_0_ok (2, .putfield 85, 3) (List.mem_of_getElem? (i := 2) rfl)) (fun uh3 ufs6 ul7 uk8 uj9 uc4 uo5 => ?_)
  rw [fl] at ul7
  have uf10 := (uj9 1 (by decide)).trans fL1
  have uf11 := (uj9 4 (by decide)).trans f4
  have uf12 := (uj9 6 (by decide)).trans fL6
  have uf13 := (uj9 12 (by decide)).trans f12
  have uf14 := (uj9 19 (by decide)).trans fL19
  have uf15 := (uj9 21 (by decide)).trans fL21
  have uc16 := (uo5 tx n_tx_m).trans c_x
  have uc17 := (uo5 le n_le_m).trans c_le
  have uc18 := (uo5 ro n_ro_m).trans c_ro
  refine w_iload_n (List.Mem.tail _ (List.Mem.head _)) (tX11_fault_0_ok (5, .iload_n 1, 1) (List.mem_of_getElem? (i := 3) rfl)) ?_
  refine w_iconst (by decide) (tX11_fault_0_ok (6, .iconst 0, 1) (List.mem_of_getElem? (i := 4) rfl)) (fun uv19 ue20 => ?_)
  refine w_iconst (by decide) (tX11_fault_0_ok (7, .iconst 1, 1) (List.mem_of_getElem? (i := 5) rfl)) (fun uv21 ue22 => ?_)
  refine w_callS (own := 16) (mi := 199) [.int so, .int uv19, .int uv21] [] [(0, .int so), (1, .int uv19), (2, .int uv21)] rfl (cllw_X11 (207, 1, 199) (List.mem_of_getElem? (i := 2) rfl)) rfl rfl (by omega) (w_lo (n := 22) rfl (by omega)) (Nat.le_of_ble_eq_true rfl) (Nat.le_of_ble_eq_true rfl) rfl (tX11_fault_0_ok (8, .invokestatic 207, 3) (List.mem_of_getElem? (i := 6) rfl)) (r_isIn (fun uv23 ue24 => ?_))
  show ww l D tys A X fr lo mX11_fault Q 11 [(0, .ref m), (1, .int so)] [.int uv23] uh3
  refine w_if_ne (tgt := 17) (tX11_fault_0_ok (11, .ifCond .ne 6, 3) (List.mem_of_getElem? (i := 7) rfl)) rfl (fun ub25 => ?_) (fun ub25 => ?_)
  · refine w_iload_n (List.Mem.tail _ (List.Mem.head _)) (tX11_fault_0_ok (17, .iload_n 1, 1) (List.mem_of_getElem? (i := 10) rfl)) ?_
    refine w_if_ne (tgt := 28) (tX11_fault_0_ok (18, .ifCond .ne 10, 3) (List.mem_of_getElem? (i := 11) rfl)) rfl (fun ub26 => ?_) (fun ub26 => ?_)
    · refine w_aload_n (List.Mem.head _) (tX11_fault_0_ok (28, .aload_n 0, 1) (List.mem_of_getElem? (i := 15) rfl)) ?_
      refine w_aload_n (List.Mem.head _) (tX11_fault_0_ok (29, .aload_n 0, 1) (List.mem_of_getElem? (i := 16) rfl)) ?_
      refine w_get (own := 16) rfl rfl (by decide) uc4 uf10 (tX11_fault_0_ok (30, .getfield 9, 3) (List.mem_of_getElem? (i := 17) rfl)) ?_
      refine w_iconst (by decide) (tX11_fault_0_ok (33, .iconst 0, 1) (List.mem_of_getElem? (i := 18) rfl)) (fun uv27 ue28 => ?_)
      refine w_aload_n (List.Mem.head _) (tX11_fault_0_ok (34, .aload_n 0, 1) (List.mem_of_getElem? (i := 19) rfl)) ?_
      refine w_get (own := 16) rfl rfl (by decide) uc4 uf12 (tX11_fault_0_ok (35, .getfield 99, 3) (List.mem_of_getElem? (i := 20) rfl)) ?_
      have uhs39 : sb g f uv27.toInt.toNat en.toInt.toNat := by have z9 : uv27.toInt.toNat = 0 := (by omega); rw [z9]; exact hs
      refine w_callV (own := 16) (mi := 188) [.ref tx, .int uv27, .int en] [] [(0, .ref m), (1, .ref tx), (2, .int uv27), (3, .int en)] rfl (cllw_X11 (240, 0, 188) (List.mem_of_getElem? (i := 18) rfl)) rfl rfl uc4 rfl (by omega) (w_lo (n := 23) rfl (by omega)) (Nat.le_of_ble_eq_true rfl) (Nat.le_of_ble_eq_true rfl) rfl (tX11_fault_0_ok (38, .invokevirtual 240, 3) (List.mem_of_getElem? (i := 21) rfl)) (r_goThrough hT hX (by omega) (w_sub (n := 23) rfl (by omega)) uc4 ul7 uf11 n_le_m uc17 n_tx_m uc16 uhs39 ⟨by omega, by omega, by omega, by omega, by omega⟩ (fun uh29 ufs30 uat31 ufl32 udpa33 up34 ue35 ue36 uk37 uo38 => ?_))
      have uc40 := up34.1.1.1.1
      have uf41 := up34.1.1.1.2.2.2.2.2.2
      have ul42 := up34.1.1.1.2.1
      have uf43 := (uk37 0 (by decide)).trans uk8
      show ww l D tys A X fr lo mX11_fault Q 41 [(0, .ref m), (1, .int so)] [] uh29
      refine w_aload_n (List.Mem.head _) (tX11_fault_0_ok (41, .aload_n 0, 1) (List.mem_of_getElem? (i := 22) rfl)) ?_
      refine w_get (own := 16) rfl rfl (by decide) uc40 uf41 (tX11_fault_0_ok (42, .getfield 118, 3) (List.mem_of_getElem? (i := 23) rfl)) ?_
      refine w_iret rfl (tX11_fault_0_ok (45, .ireturn, 1) (List.mem_of_getElem? (i := 24) rfl)) ?_
      exact hq uh29 ufs30 uat31 ufl32 udpa33 uv27 up34 (by omega) (ue35 hnz) ue36 ⟨_, uf43⟩ (fun j hj => (uk37 j ⟨hj.2.1, hj.2.2.1, hj.2.2.2.1, hj.2.2.2.2.1, hj.2.2.2.2.2.1, hj.2.2.2.2.2.2.1, hj.2.2.2.2.2.2.2.1, hj.2.2.2.2.2.2.2.2.1, hj.2.2.2.2.2.2.2.2.2⟩).trans (uj9 j hj.1)) (fun q hq => (uo38 q hq).trans (uo5 q hq))
    · exfalso; omega
  · exfalso; omega
theorem r_fault2 (hso : ¬ so.toInt = 0 ∧ ¬ so.toInt = 1) (hf : 1 ≤ fr) (hl : 30 ≤ lo) (c_m : h m = some (.inr (10, fs))) (fl : fs.length = 47) (fL1 : fs[1]? = some (.ref tx)) (f4 : fs[4]? = some (.ref le)) (fL6 : fs[6]? = some (.int en)) (f12 : fs[12]? = some (.int dp)) (fL19 : fs[19]? = some (.ref ro)) (fL21 : fs[21]? = some (.int rd)) (hq : ∀ (h1 : ch_H) (fs1 : List Value) (v : Int32), h1 m = some (.inr (10, fs1)) → fs1.length = 47 → v.toInt = -2 → (∃ y0 : Int32, fs1[0]? = some (.int y0)) → (∀ j, j ≠ 0 → fs1[j]? = fs[j]?) → (∀ q, q ≠ m → h1 q = h q) → Q (some (.int v)) h1) : ww l D tys A X fr lo mX11_fault Q 0 [(0, .ref m), (1, .int so)] [] h := by
  refine w_aload_n (List.Mem.head _) (tX11_fault_0_ok (0, .aload_n 0, 1) (List.mem_of_getElem? (i := 0) rfl)) ?_
  refine w_iconst (by decide) (tX11_fault_0_ok (1, .iconst 0, 1) (List.mem_of_getElem? (i := 1) rfl)) (fun uv1 ue2 => ?_)
  refine w_putF (own := 16) (ci := 10) (k := 0) rfl rfl (by decide) rfl ⟨rfl, rfl⟩ c_m (by rw [fl]; decide) (tX11_fault_0_ok (2, .putfield 85, 3) (List.mem_of_getElem? (i := 2) rfl)) (fun uh3 ufs6 ul7 uk8 uj9 uc4 uo5 => ?_)
  rw [fl] at ul7
  have uf10 := (uj9 1 (by decide)).trans fL1
  have uf11 := (uj9 4 (by decide)).trans f4
  have uf12 := (uj9 6 (by decide)).trans fL6
  have uf13 := (uj9 12 (by decide)).trans f12
  have uf14 := (uj9 19 (by decide)).trans fL19
  have uf15 := (uj9 21 (by decide)).trans fL21
  refine w_iload_n (List.Mem.tail _ (List.Mem.head _)) (tX11_fault_0_ok (5, .iload_n 1, 1) (List.mem_of_getElem? (i := 3) rfl)) ?_
  refine w_iconst (by decide) (tX11_fault_0_ok (6, .iconst 0, 1) (List.mem_of_getElem? (i := 4) rfl)) (fun uv16 ue17 => ?_)
  refine w_iconst (by decide) (tX11_fault_0_ok (7, .iconst 1, 1) (List.mem_of_getElem? (i := 5) rfl)) (fun uv18 ue19 => ?_)
  refine w_callS (own := 16) (mi := 199) [.int so, .int uv16, .int uv18] [] [(0, .int so), (1, .int uv16), (2, .int uv18)] rfl (cllw_X11 (207, 1, 199) (List.mem_of_getElem? (i := 2) rfl)) rfl rfl (by omega) (w_lo (n := 22) rfl (by omega)) (Nat.le_of_ble_eq_true rfl) (Nat.le_of_ble_eq_true rfl) rfl (tX11_fault_0_ok (8, .invokestatic 207, 3) (List.mem_of_getElem? (i := 6) rfl)) (r_isIn (fun uv20 ue21 => ?_))
  show ww l D tys A X fr lo mX11_fault Q 11 [(0, .ref m), (1, .int so)] [.int uv20] uh3
  refine w_if_ne (tgt := 17) (tX11_fault_0_ok (11, .ifCond .ne 6, 3) (List.mem_of_getElem? (i := 7) rfl)) rfl (fun ub22 => ?_) (fun ub22 => ?_)
  · exfalso; omega
  · refine w_bipush (by decide) (tX11_fault_0_ok (14, .bipush (-2), 2) (List.mem_of_getElem? (i := 8) rfl)) (fun uv23 ue24 => ?_)
    refine w_iret rfl (tX11_fault_0_ok (16, .ireturn, 1) (List.mem_of_getElem? (i := 9) rfl)) ?_
    exact hq uh3 ufs6 uv23 uc4 ul7 (by omega) ⟨_, uk8⟩ (fun j hj => uj9 j hj) (fun q hq => uo5 q hq)
end
