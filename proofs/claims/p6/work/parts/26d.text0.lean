/-! text of a TOWN, the reference -/
section
variable {l : Launch} {D : va_G} {tys : List (ClassId × FieldType)} {A : Nat → Prop} {X : State → Prop} {fr lo : Nat} {Q : Option Value → ch_H → Prop} {cA : Nat → ClassId} {h : ch_H} {m tx n le : Nat} {fs : List Value} {g f : Nat → Int32} {bg en at0 fl0 dp : Int32} {aK aV : Nat → Nat} {ro : Nat} {R : Nat → Int32} {so rd : Int32} {seed : Int64}
theorem r_t0L (hT : k_tys tys cA) {R0 : Nat → Int32} {h0 : ch_H} (n_m_ro : m ≠ ro) (fL19 : fs[19]? = some (.ref ro)) (hq : ∀ (g : ch_H) (k1 : Int32) (R1 : Nat → Int32), g m = some (.inr (10, fs)) → g ro = some (.inl (cA 0, 108, .inl R1)) → (∀ i, i < 54 → R1 i = R0 (54 + i)) → (∀ i, 54 ≤ i → R1 i = R0 i) → (∀ q, q ≠ ro → g q = h0 q) → ww l D tys A X fr lo mX11_text Q 165 [(4, .int k1), (0, .ref m), (1, .int so), (2, .long seed)] [] g) : ∀ (j : Nat) (k : Int32) (h : ch_H) (R : Nat → Int32), 0 ≤ k.toInt → k.toInt + j = 54 → h m = some (.inr (10, fs)) → h ro = some (.inl (cA 0, 108, .inl R)) → (∀ i, i < k.toInt.toNat → R i = R0 (54 + i)) → (∀ i, k.toInt.toNat ≤ i → R i = R0 i) → (∀ q, q ≠ ro → h q = h0 q) → ww l D tys A X fr lo mX11_text Q 135 [(4, .int k), (0, .ref m), (1, .int so), (2, .long seed)] [] h := by
  intro j
  induction j using Nat.strongRecOn with
  | ind j ih =>
    intro k h R hk hj c_m c_ro h1 h2 ho
    refine w_iload (List.Mem.head _) (tX11_text_1_ok (135, .iload 4, 2) (List.mem_of_getElem? (i := 16) rfl)) ?_
    refine w_bipush (by decide) (tX11_text_1_ok (137, .bipush 54, 2) (List.mem_of_getElem? (i := 17) rfl)) (fun uv1 ue2 => ?_)
    refine w_icmp_ge (tgt := 165) (tX11_text_1_ok (139, .if_icmp .ge 26, 3) (List.mem_of_getElem? (i := 18) rfl)) rfl (fun ub3 => ?_) (fun ub3 => ?_)
    · exact hq h k R c_m c_ro (fun i hi => h1 i (by omega)) (fun i hi => h2 i (by omega)) ho
    · refine w_aload_n (List.Mem.tail _ (List.Mem.head _)) (tX11_text_1_ok (142, .aload_n 0, 1) (List.mem_of_getElem? (i := 19) rfl)) ?_
      refine w_get (own := 16) rfl rfl (by decide) c_m fL19 (tX11_text_1_ok (143, .getfield 42, 3) (List.mem_of_getElem? (i := 20) rfl)) ?_
      refine w_iload (List.Mem.head _) (tX11_text_1_ok (146, .iload 4, 2) (List.mem_of_getElem? (i := 21) rfl)) ?_
      refine w_aload_n (List.Mem.tail _ (List.Mem.head _)) (tX11_text_1_ok (148, .aload_n 0, 1) (List.mem_of_getElem? (i := 22) rfl)) ?_
      refine w_get (own := 16) rfl rfl (by decide) c_m fL19 (tX11_text_1_ok (149, .getfield 42, 3) (List.mem_of_getElem? (i := 23) rfl)) ?_
      refine w_bipush (by decide) (tX11_text_1_ok (152, .bipush 54, 2) (List.mem_of_getElem? (i := 24) rfl)) (fun uv4 ue5 => ?_)
      refine w_iload (List.Mem.head _) (tX11_text_1_ok (154, .iload 4, 2) (List.mem_of_getElem? (i := 25) rfl)) ?_
      refine w_iadd (by omega) (by omega) (tX11_text_1_ok (156, .iadd, 1) (List.mem_of_getElem? (i := 26) rfl)) (fun uv6 ue7 => ?_)
      refine w_iald hT c_ro (by omega) (by omega) (tX11_text_1_ok (157, .iaload, 1) (List.mem_of_getElem? (i := 27) rfl)) (fun uv8 ue9 => ?_)
      refine w_iast hT c_ro (by omega) (by omega) (tX11_text_1_ok (158, .iastore, 1) (List.mem_of_getElem? (i := 28) rfl)) (fun uh10 uc11 uo12 => ?_)
      have uc13 := (uo12 m n_m_ro).trans c_m
      refine w_iinc (fun uv14 => [(4, .int uv14), (0, .ref m), (1, .int so), (2, .long seed)]) (fun _ => rfl) (List.Mem.head _) (Nat.le_of_ble_eq_true rfl) (by decide) (by omega) (by omega) (tX11_text_1_ok (159, .iinc 4 1, 3) (List.mem_of_getElem? (i := 29) rfl)) (fun uv14 ue15 => ?_)
      refine w_goto (tgt := 135) (tX11_text_1_ok (162, .goto (-27), 3) (List.mem_of_getElem? (i := 30) rfl)) rfl ?_
      have y9 : uv6.toInt.toNat = 54 + k.toInt.toNat := by omega
      rw [y9] at ue9
      refine w_lv [(4, .int uv14), (0, .ref m), (1, .int so), (2, .long seed)] (by intro q hq; simp only [List.mem_cons, List.not_mem_nil, or_false] at hq ⊢; rcases hq with e | e | e | e <;> subst e <;> simp) ?_
      refine ih (j - 1) (by omega) _ _ (upd R k.toInt.toNat uv8) (by omega) (by omega) uc13 uc11 (fun i hi => ?_) (fun i hi => ?_) (fun q hq => (uo12 q hq).trans (ho q hq))
      · by_cases q : i = k.toInt.toNat
        · subst q
          rw [pk_us]
          exact ((kn_eq _ _).mpr ue9).trans (h2 (54 + k.toInt.toNat) (by omega))
        · rw [pk_un q]
          exact h1 i (by omega)
      · rw [pk_un (by omega)]
        exact h2 i (by omega)
theorem r_text0 (hT : k_tys tys cA) (hX : ∀ s, X s → xs A aK aV s) (hso : so.toInt = 0) (hf : 10 ≤ fr) (hl : 400 ≤ lo) (hnz : ∀ i, i < en.toInt.toNat → 1 ≤ (f i).toInt) (hs : sb g f 0 en.toInt.toNat) (hb : 0 ≤ en.toInt ∧ en.toInt ≤ 160 ∧ en.toInt ≤ n) (c_m : h m = some (.inr (10, fs))) (fl : fs.length = 47) (fL1 : fs[1]? = some (.ref tx)) (f4 : fs[4]? = some (.ref le)) (fL6 : fs[6]? = some (.int en)) (f12 : fs[12]? = some (.int dp)) (fL19 : fs[19]? = some (.ref ro)) (fL21 : fs[21]? = some (.int rd)) (n_tx_m : tx ≠ m) (n_le_m : le ≠ m) (n_ro_m : ro ≠ m) (n_ro_tx : ro ≠ tx) (n_ro_le : ro ≠ le) (c_x : h tx = some (.inl (cA 2, n, .inl g))) {gl : Nat → Int32} (c_le : h le = some (.inl (cA 0, 128, .inl gl))) (c_ro : h ro = some (.inl (cA 0, 108, .inl R))) (hTD : TD R) (hqF : ∀ (h1 : ch_H) (fs1 : List Value) (R1 : Nat → Int32) (rd1 v bg1 at1 fl1 : Int32), rr cA h1 m fs1 tx n le ro g f R1 bg1 en at1 fl1 dp → (∃ y0 : Int32, fs1[0]? = some (.int y0)) → fs1[21]? = some (.int rd1) → 0 ≤ rd1.toInt ∧ rd1.toInt ≤ 6 → (∀ i, i < 54 → R1 i = R i) → fs1[6]? = some (.int en) → fs1[20]? = fs[20]? → (∃ e, (sp_town f en.toInt.toNat).1 = .inl e) → v.toInt = -1 → (∀ j, j ≠ 0 ∧ j ≠ 5 ∧ j ≠ 6 ∧ j ≠ 8 ∧ j ≠ 9 ∧ j ≠ 10 ∧ j ≠ 11 ∧ j ≠ 12 ∧ j ≠ 20 ∧ j ≠ 21 → fs1[j]? = fs[j]?) → (∀ q, q ≠ m ∧ q ≠ ro → h1 q = h q) → Q (some (.int v)) h1) (hqS : ∀ (h1 : ch_H) (fs1 : List Value) (R1 R2 : Nat → Int32) (k1 rd1 : Int32), h1 m = some (.inr (10, fs1)) → fs1.length = 47 → h1 ro = some (.inl (cA 0, 108, .inl R2)) → (∀ i, i < 54 → R2 i = R1 (54 + i)) → (∀ i, 54 ≤ i → R2 i = R1 i) → ((∃ y0 : Int32, fs1[0]? = some (.int y0)) ∧ (∃ v : Value, fs1[5]? = some v) ∧ (∃ y : Int32, fs1[8]? = some (.int y)) ∧ (∃ y : Int32, fs1[9]? = some (.int y)) ∧ (∃ y : Int32, fs1[10]? = some (.int y)) ∧ (∃ y : Int32, fs1[11]? = some (.int y)) ∧ ∃ y : Int32, fs1[12]? = some (.int y)) → (∃ y : Int32, fs1[6]? = some (.int y) ∧ y.toInt = 0) → fs1[20]? = some (.int rd1) → fs1[21]? = some (.int rd1) → 0 ≤ rd1.toInt ∧ rd1.toInt ≤ 6 → TD R1 → (R1 62).toInt = -1 → (∃ q, (sp_town f en.toInt.toNat).1 = .inr q) → rd1.toInt = ((sp_town f en.toInt.toNat).2 : Nat) → (∀ j, j ≠ 0 ∧ j ≠ 5 ∧ j ≠ 6 ∧ j ≠ 8 ∧ j ≠ 9 ∧ j ≠ 10 ∧ j ≠ 11 ∧ j ≠ 12 ∧ j ≠ 20 ∧ j ≠ 21 → fs1[j]? = fs[j]?) → (∀ q, q ≠ m ∧ q ≠ ro → h1 q = h q) → ww l D tys A X fr lo mX11_text Q 165 [(4, .int k1), (0, .ref m), (1, .int so), (2, .long seed)] [] h1) : ww l D tys A X fr lo mX11_text Q 0 [(0, .ref m), (1, .int so), (2, .long seed)] [] h := by
  have n_m_tx := n_tx_m.symm
  have n_m_le := n_le_m.symm
  have n_m_ro := n_ro_m.symm
  refine w_aload_n (List.Mem.head _) (tX11_text_0_ok (0, .aload_n 0, 1) (List.mem_of_getElem? (i := 0) rfl)) ?_
  refine w_iconst (by decide) (tX11_text_0_ok (1, .iconst 0, 1) (List.mem_of_getElem? (i := 1) rfl)) (fun uv1 ue2 => ?_)
  refine w_putF (own := 16) (ci := 10) (k := 0) rfl rfl (by decide) rfl ⟨rfl, rfl⟩ c_m (by rw [fl]; decide) (tX11_text_0_ok (2, .putfield 85, 3) (List.mem_of_getElem? (i := 2) rfl)) (fun uh3 ufs6 ul7 uk8 uj9 uc4 uo5 => ?_)
  rw [fl] at ul7
  have uf10 := (uj9 1 (by decide)).trans fL1
  have uf11 := (uj9 4 (by decide)).trans f4
  have uf12 := (uj9 6 (by decide)).trans fL6
  have uf13 := (uj9 12 (by decide)).trans f12
  have uf14 := (uj9 19 (by decide)).trans fL19
  have uf15 := (uj9 21 (by decide)).trans fL21
  have uc16 := (uo5 tx n_tx_m).trans c_x
  have uc17 := (uo5 le n_le_m).trans c_le
  have uc18 := (uo5 ro n_ro_m).trans c_ro
  refine w_iload_n (List.Mem.tail _ (List.Mem.head _)) (tX11_text_0_ok (5, .iload_n 1, 1) (List.mem_of_getElem? (i := 3) rfl)) ?_
  refine w_iconst (by decide) (tX11_text_0_ok (6, .iconst 0, 1) (List.mem_of_getElem? (i := 4) rfl)) (fun uv19 ue20 => ?_)
  refine w_iconst (by decide) (tX11_text_0_ok (7, .iconst 1, 1) (List.mem_of_getElem? (i := 5) rfl)) (fun uv21 ue22 => ?_)
  refine w_callS (own := 16) (mi := 199) [.int so, .int uv19, .int uv21] [] [(0, .int so), (1, .int uv19), (2, .int uv21)] rfl (cllw_X11 (207, 1, 199) (List.mem_of_getElem? (i := 2) rfl)) rfl rfl (by omega) (w_lo (n := 22) rfl (by omega)) (Nat.le_of_ble_eq_true rfl) (Nat.le_of_ble_eq_true rfl) rfl (tX11_text_0_ok (8, .invokestatic 207, 3) (List.mem_of_getElem? (i := 6) rfl)) (r_isIn (fun uv23 ue24 => ?_))
  show ww l D tys A X fr lo mX11_text Q 11 [(0, .ref m), (1, .int so), (2, .long seed)] [.int uv23] uh3
  refine w_if_eq (tgt := 36) (tX11_text_0_ok (11, .ifCond .eq 25, 3) (List.mem_of_getElem? (i := 7) rfl)) rfl (fun ub25 => ?_) (fun ub25 => ?_)
  · exfalso; omega
  · refine w_iload_n (List.Mem.tail _ (List.Mem.head _)) (tX11_text_0_ok (14, .iload_n 1, 1) (List.mem_of_getElem? (i := 8) rfl)) ?_
    refine w_iconst (by decide) (tX11_text_0_ok (15, .iconst 1, 1) (List.mem_of_getElem? (i := 9) rfl)) (fun uv26 ue27 => ?_)
    refine w_icmp_ne (tgt := 27) (tX11_text_0_ok (16, .if_icmp .ne 11, 3) (List.mem_of_getElem? (i := 10) rfl)) rfl (fun ub28 => ?_) (fun ub28 => ?_)
    · refine w_aload_n (List.Mem.head _) (tX11_text_0_ok (27, .aload_n 0, 1) (List.mem_of_getElem? (i := 15) rfl)) ?_
      refine w_iload_n (List.Mem.tail _ (List.Mem.head _)) (tX11_text_0_ok (28, .iload_n 1, 1) (List.mem_of_getElem? (i := 16) rfl)) ?_
      refine w_callV (own := 16) (mi := 182) [.int so] [] [(0, .ref m), (1, .int so)] rfl (cllw_X11 (246, 0, 182) (List.mem_of_getElem? (i := 32) rfl)) rfl rfl uc4 rfl (by omega) (w_lo (n := 21) rfl (by omega)) (Nat.le_of_ble_eq_true rfl) (Nat.le_of_ble_eq_true rfl) rfl (tX11_text_0_ok (29, .invokevirtual 246, 3) (List.mem_of_getElem? (i := 17) rfl)) (r_fault0 hT hX (by omega) (by omega) (w_sub (n := 21) rfl (by omega)) hnz hs hb uc4 ul7 uf10 uf11 uf12 uf13 uf14 uf15 n_tx_m n_le_m n_ro_m n_ro_tx n_ro_le uc16 uc17 uc18 hTD (fun uh29 ufs30 uat31 ufl32 urda33 ubga34 uRa35 up36 ue37 ue38 ue39 ue40 ue41 ue42 uzz43 uk44 uo45 => ?_))
      have uc46 := up36.1.1.1.1
      have ul47 := up36.1.1.1.2.1
      have uc48 := up36.2.2.2.2.2.2.2.2.1
      have uf49 := (uk44 1 (by decide)).trans uf10
      have uf50 := (uk44 6 (by decide)).trans uf12
      have uf51 := (uk44 19 (by decide)).trans uf14
      show ww l D tys A X fr lo mX11_text Q 32 [(0, .ref m), (1, .int so), (2, .long seed)] [.int ufl32] uh29
      refine w_iconst (by decide) (tX11_text_0_ok (32, .iconst (-1), 1) (List.mem_of_getElem? (i := 18) rfl)) (fun uv52 ue53 => ?_)
      refine w_icmp_eq (tgt := 38) (tX11_text_0_ok (33, .if_icmp .eq 5, 3) (List.mem_of_getElem? (i := 19) rfl)) rfl (fun ub54 => ?_) (fun ub54 => ?_)
      · refine w_iload_n (List.Mem.tail _ (List.Mem.head _)) (tX11_text_0_ok (38, .iload_n 1, 1) (List.mem_of_getElem? (i := 22) rfl)) ?_
        refine w_iconst (by decide) (tX11_text_0_ok (39, .iconst 1, 1) (List.mem_of_getElem? (i := 23) rfl)) (fun uv55 ue56 => ?_)
        refine w_icmp_ne (tgt := 119) (tX11_text_0_ok (40, .if_icmp .ne 79, 3) (List.mem_of_getElem? (i := 24) rfl)) rfl (fun ub57 => ?_) (fun ub57 => ?_)
        · refine w_aload_n (List.Mem.head _) (tX11_text_1_ok (119, .aload_n 0, 1) (List.mem_of_getElem? (i := 7) rfl)) ?_
          refine w_iconst (by decide) (tX11_text_1_ok (120, .iconst 0, 1) (List.mem_of_getElem? (i := 8) rfl)) (fun uv58 ue59 => ?_)
          refine w_putF (own := 16) (ci := 10) (k := 6) rfl rfl (by decide) rfl ⟨rfl, rfl⟩ uc46 (by rw [ul47]; decide) (tX11_text_1_ok (121, .putfield 99, 3) (List.mem_of_getElem? (i := 9) rfl)) (fun uh60 ufs63 ul64 uk65 uj66 uc61 uo62 => ?_)
          rw [ul47] at ul64
          have uf67 := (uj66 21 (by decide)).trans ue38
          have uf68 := (uj66 1 (by decide)).trans uf49
          have uf69 := (uj66 19 (by decide)).trans uf51
          have uc70 := (uo62 ro n_ro_m).trans uc48
          refine w_aload_n (List.Mem.head _) (tX11_text_1_ok (124, .aload_n 0, 1) (List.mem_of_getElem? (i := 10) rfl)) ?_
          refine w_aload_n (List.Mem.head _) (tX11_text_1_ok (125, .aload_n 0, 1) (List.mem_of_getElem? (i := 11) rfl)) ?_
          refine w_get (own := 16) rfl rfl (by decide) uc61 uf67 (tX11_text_1_ok (126, .getfield 231, 3) (List.mem_of_getElem? (i := 12) rfl)) ?_
          refine w_putF (own := 16) (ci := 10) (k := 20) rfl rfl (by decide) rfl ⟨rfl, rfl⟩ uc61 (by rw [ul64]; decide) (tX11_text_1_ok (129, .putfield 248, 3) (List.mem_of_getElem? (i := 13) rfl)) (fun uh71 ufs74 ul75 uk76 uj77 uc72 uo73 => ?_)
          rw [ul64] at ul75
          have uf78 := (uj77 6 (by decide)).trans uk65
          have uf79 := (uj77 21 (by decide)).trans uf67
          have uf80 := (uj77 1 (by decide)).trans uf68
          have uf81 := (uj77 19 (by decide)).trans uf69
          have uc82 := (uo73 ro n_ro_m).trans uc70
          refine w_iconst (by decide) (tX11_text_1_ok (132, .iconst 0, 1) (List.mem_of_getElem? (i := 14) rfl)) (fun uv83 ue84 => ?_)
          refine w_istore [(4, .int uv83), (0, .ref m), (1, .int so), (2, .long seed)] rfl (Nat.le_of_ble_eq_true rfl) (tX11_text_1_ok (133, .istore 4, 2) (List.mem_of_getElem? (i := 15) rfl)) ?_
          obtain ⟨q9, q8, q7⟩ := sp_is.inr ue40 (by omega)
          refine w_lv [(4, .int uv83), (0, .ref m), (1, .int so), (2, .long seed)] (by intro q hq; simp only [List.mem_cons, List.not_mem_nil, or_false] at hq ⊢; rcases hq with e | e | e | e <;> subst e <;> simp) ?_
          refine r_t0L hT (h0 := uh71) n_m_ro uf81 (fun ug85 uka86 uRb87 uq88 uq89 uq90 uq91 uq92 => ?_) 54 _ _ uRa35 (by omega) (by omega) uc72 uc82 (fun i hi => by omega) (fun _ _ => rfl) (fun _ _ => rfl)
          refine hqS ug85 ufs74 uRa35 uRb87 uka86 urda33 uq88 ul75 uq89 uq90 uq91 ⟨(uzz43.elim fun y0 z0 => ⟨y0, ((uj77 0 (by decide)).trans ((uj66 0 (by decide)).trans (z0)))⟩), ⟨⟨_, ((uj77 5 (by decide)).trans ((uj66 5 (by decide)).trans (up36.1.1.1.2.2.1)))⟩, ⟨_, ((uj77 8 (by decide)).trans ((uj66 8 (by decide)).trans (up36.1.1.1.2.2.2.1)))⟩, ⟨_, ((uj77 9 (by decide)).trans ((uj66 9 (by decide)).trans (up36.1.1.1.2.2.2.2.1)))⟩, ⟨_, ((uj77 10 (by decide)).trans ((uj66 10 (by decide)).trans (up36.1.1.1.2.2.2.2.2.1)))⟩, ⟨_, ((uj77 11 (by decide)).trans ((uj66 11 (by decide)).trans (up36.1.1.1.2.2.2.2.2.2)))⟩, ⟨_, ((uj77 12 (by decide)).trans ((uj66 12 (by decide)).trans (up36.1.1.2.1)))⟩⟩⟩ ⟨_, uf78, by omega⟩ uk76 uf79 ue39 up36.2.2.2.2.2.2.2.2.2 (ue41 (by omega)).2 ⟨q9, q8⟩ (ue41 (by omega)).1 (fun j hj => (uj77 j hj.2.2.2.2.2.2.2.2.1).trans ((uj66 j hj.2.2.1).trans ((uk44 j ⟨hj.1, hj.2.1, hj.2.2.2.1, hj.2.2.2.2.1, hj.2.2.2.2.2.1, hj.2.2.2.2.2.2.1, hj.2.2.2.2.2.2.2.1, hj.2.2.2.2.2.2.2.2.2⟩).trans (uj9 j hj.1)))) (fun q hq => (uq92 q hq.2).trans ((uo73 q hq.1).trans ((uo62 q hq.1).trans ((uo45 q ⟨hq.1, hq.2⟩).trans (uo5 q hq.1)))))
        · exfalso; omega
      · refine w_iconst (by decide) (tX11_text_0_ok (36, .iconst (-1), 1) (List.mem_of_getElem? (i := 20) rfl)) (fun uv93 ue94 => ?_)
        refine w_iret rfl (tX11_text_0_ok (37, .ireturn, 1) (List.mem_of_getElem? (i := 21) rfl)) ?_
        obtain ⟨q9, q8, q7⟩ := sp_is.inl ue40 (by omega)
        exact hqF uh29 ufs30 uRa35 urda33 uv93 _ _ _ up36 uzz43 ue38 ue39 ue42 uf50 ((uk44 20 (by decide)).trans (uj9 20 (by decide))) ⟨q9, q8⟩ (by omega) (fun j hj => (uk44 j ⟨hj.1, hj.2.1, hj.2.2.2.1, hj.2.2.2.2.1, hj.2.2.2.2.2.1, hj.2.2.2.2.2.2.1, hj.2.2.2.2.2.2.2.1, hj.2.2.2.2.2.2.2.2.2⟩).trans (uj9 j hj.1)) (fun q hq => (uo45 q ⟨hq.1, hq.2⟩).trans (uo5 q hq.1))
    · exfalso; omega
theorem r_text2 (hso : ¬ so.toInt = 0 ∧ ¬ so.toInt = 1) (hf : 1 ≤ fr) (hl : 30 ≤ lo) (c_m : h m = some (.inr (10, fs))) (fl : fs.length = 47) (hq : ∀ (h1 : ch_H) (fs1 : List Value) (v : Int32), h1 m = some (.inr (10, fs1)) → fs1.length = 47 → v.toInt = -1 → (∃ y0 : Int32, fs1[0]? = some (.int y0)) → (∀ j, j ≠ 0 → fs1[j]? = fs[j]?) → (∀ q, q ≠ m → h1 q = h q) → Q (some (.int v)) h1) : ww l D tys A X fr lo mX11_text Q 0 [(0, .ref m), (1, .int so), (2, .long seed)] [] h := by
  refine w_aload_n (List.Mem.head _) (tX11_text_0_ok (0, .aload_n 0, 1) (List.mem_of_getElem? (i := 0) rfl)) ?_
  refine w_iconst (by decide) (tX11_text_0_ok (1, .iconst 0, 1) (List.mem_of_getElem? (i := 1) rfl)) (fun uv1 ue2 => ?_)
  refine w_putF (own := 16) (ci := 10) (k := 0) rfl rfl (by decide) rfl ⟨rfl, rfl⟩ c_m (by rw [fl]; decide) (tX11_text_0_ok (2, .putfield 85, 3) (List.mem_of_getElem? (i := 2) rfl)) (fun uh3 ufs6 ul7 uk8 uj9 uc4 uo5 => ?_)
  rw [fl] at ul7
  refine w_iload_n (List.Mem.tail _ (List.Mem.head _)) (tX11_text_0_ok (5, .iload_n 1, 1) (List.mem_of_getElem? (i := 3) rfl)) ?_
  refine w_iconst (by decide) (tX11_text_0_ok (6, .iconst 0, 1) (List.mem_of_getElem? (i := 4) rfl)) (fun uv10 ue11 => ?_)
  refine w_iconst (by decide) (tX11_text_0_ok (7, .iconst 1, 1) (List.mem_of_getElem? (i := 5) rfl)) (fun uv12 ue13 => ?_)
  refine w_callS (own := 16) (mi := 199) [.int so, .int uv10, .int uv12] [] [(0, .int so), (1, .int uv10), (2, .int uv12)] rfl (cllw_X11 (207, 1, 199) (List.mem_of_getElem? (i := 2) rfl)) rfl rfl (by omega) (w_lo (n := 22) rfl (by omega)) (Nat.le_of_ble_eq_true rfl) (Nat.le_of_ble_eq_true rfl) rfl (tX11_text_0_ok (8, .invokestatic 207, 3) (List.mem_of_getElem? (i := 6) rfl)) (r_isIn (fun uv14 ue15 => ?_))
  show ww l D tys A X fr lo mX11_text Q 11 [(0, .ref m), (1, .int so), (2, .long seed)] [.int uv14] uh3
  refine w_if_eq (tgt := 36) (tX11_text_0_ok (11, .ifCond .eq 25, 3) (List.mem_of_getElem? (i := 7) rfl)) rfl (fun ub16 => ?_) (fun ub16 => ?_)
  · refine w_iconst (by decide) (tX11_text_0_ok (36, .iconst (-1), 1) (List.mem_of_getElem? (i := 20) rfl)) (fun uv17 ue18 => ?_)
    refine w_iret rfl (tX11_text_0_ok (37, .ireturn, 1) (List.mem_of_getElem? (i := 21) rfl)) ?_
    exact hq uh3 ufs6 uv17 uc4 ul7 (by omega) ⟨_, uk8⟩ (fun j hj => uj9 j hj) (fun q hq => uo5 q hq)
  · exfalso; omega
end
