/-! text of a RULE, the reference -/
/-- the fields that reading leaves within their types -/
def ftyp (fs : List Value) : Prop := (∃ a : Value, fs[5]? = some a) ∧ (∀ k, 8 ≤ k ∧ k ≤ 14 → ∃ x : Int32, fs[k]? = some (.int x)) ∧ ∃ x : Int32, fs[18]? = some (.int x) ∧ 0 ≤ x.toInt ∧ x.toInt ≤ 1
theorem rk.ft {cA : Nat → ClassId} {h : ch_H} {m tx n le : Nat} {fs : List Value} {g f : Nat → Int32} {bg en at0 fl0 dp : Int32} (H : rk cA h m fs tx n le g f bg en at0 fl0 dp) : ftyp fs := by
  obtain ⟨⟨⟨⟨-, -, e5, e8, e9, e10, e11⟩, e12, -⟩, -⟩, e13, e14, e18⟩ := H
  refine ⟨⟨_, e5⟩, fun k hk => ?_, e18⟩
  have : k = 8 ∨ k = 9 ∨ k = 10 ∨ k = 11 ∨ k = 12 ∨ k = 13 ∨ k = 14 := by omega
  rcases this with rfl | rfl | rfl | rfl | rfl | rfl | rfl
  · exact ⟨_, e8⟩
  · exact ⟨_, e9⟩
  · exact ⟨_, e10⟩
  · exact ⟨_, e11⟩
  · exact ⟨_, e12⟩
  · exact e13
  · exact e14
section
variable {l : Launch} {D : va_G} {tys : List (ClassId × FieldType)} {A : Nat → Prop} {X : State → Prop} {fr lo : Nat} {Q : Option Value → ch_H → Prop} {cA : Nat → ClassId} {h : ch_H} {m tx n le : Nat} {fs : List Value} {g f : Nat → Int32} {bg en at0 fl0 dp : Int32} {aK aV : Nat → Nat} {ro te tl : Nat} {R gt gz : Nat → Int32} {so rd rmy : Int32} {seed : Int64}
theorem byte_w (x : Int32) : -128 ≤ (vp_nar .byte x).toInt ∧ (vp_nar .byte x).toInt ≤ 127 := by
  rw [vp_nar_byte, Int8.toInt_toInt32, Int32.toInt_toInt8, Int.bmod_def]
  split <;> omega
theorem r_cpL (hT : k_tys tys cA) (hD : tx ≠ m ∧ te ≠ m ∧ tl ≠ m ∧ te ≠ tx ∧ tl ≠ tx ∧ tl ≠ te) (hen : 0 ≤ en.toInt ∧ en.toInt ≤ 160 ∧ en.toInt ≤ n) (hrm : 0 ≤ rmy.toInt ∧ rmy.toInt < 4) (fl : fs.length = 47) (fL1 : fs[1]? = some (.ref tx)) (fL2 : fs[2]? = some (.ref te)) (fL3 : fs[3]? = some (.ref tl)) (fL6 : fs[6]? = some (.int en)) (fL7 : fs[7]? = some (.int rmy)) (hgz : ∀ i, i < 4 → 0 ≤ (gz i).toInt ∧ (gz i).toInt ≤ 160) : ∀ (j : Nat) (k : Int32) (gt : Nat → Int32) (h : ch_H), 0 ≤ k.toInt → k.toInt + j = en.toInt → (∀ i, i < 640 → -128 ≤ (gt i).toInt ∧ (gt i).toInt ≤ 127) → h m = some (.inr (10, fs)) → h tx = some (.inl (cA 2, n, .inl g)) → h te = some (.inl (cA 2, 640, .inl gt)) → h tl = some (.inl (cA 0, 4, .inl gz)) → (∀ (h1 : ch_H) (fs1 : List Value) (gt1 gz1 : Nat → Int32) (v : Int32), h1 m = some (.inr (10, fs1)) → fs1.length = 47 → (∃ y : Int32, fs1[6]? = some (.int y) ∧ y.toInt = 0) → (∃ y : Int32, fs1[7]? = some (.int y) ∧ y.toInt = rmy.toInt + 1) → v.toInt = rmy.toInt → h1 te = some (.inl (cA 2, 640, .inl gt1)) → (∀ i, i < 640 → -128 ≤ (gt1 i).toInt ∧ (gt1 i).toInt ≤ 127) → h1 tl = some (.inl (cA 0, 4, .inl gz1)) → (∀ i, i < 4 → 0 ≤ (gz1 i).toInt ∧ (gz1 i).toInt ≤ 160) → (∀ j, j ≠ 6 ∧ j ≠ 7 → fs1[j]? = fs[j]?) → (∀ q, q ≠ m ∧ q ≠ te ∧ q ≠ tl → h1 q = h q) → Q (some (.int v)) h1) → ww l D tys A X fr lo mX11_text Q 46 [(4, .int k), (0, .ref m), (1, .int so), (2, .long seed)] [] h := by
  obtain ⟨n_tx_m, n_te_m, n_tl_m, n_te_tx, n_tl_tx, n_tl_te⟩ := hD
  have n_m_tx := n_tx_m.symm
  have n_m_te := n_te_m.symm
  have n_m_tl := n_tl_m.symm
  have n_tx_te := n_te_tx.symm
  have n_tx_tl := n_tl_tx.symm
  have n_te_tl := n_tl_te.symm
  intro j
  induction j using Nat.strongRecOn with
  | ind j ih =>
    intro k gt h hk hj hgt c_m c_x c_te c_tl hq
    refine w_iload (List.Mem.head _) (tX11_text_0_ok (46, .iload 4, 2) (List.mem_of_getElem? (i := 27) rfl)) ?_
    refine w_aload_n (List.Mem.tail _ (List.Mem.head _)) (tX11_text_0_ok (48, .aload_n 0, 1) (List.mem_of_getElem? (i := 28) rfl)) ?_
    refine w_get (own := 16) rfl rfl (by decide) c_m fL6 (tX11_text_0_ok (49, .getfield 99, 3) (List.mem_of_getElem? (i := 29) rfl)) ?_
    refine w_icmp_ge (tgt := 84) (tX11_text_0_ok (52, .if_icmp .ge 32, 3) (List.mem_of_getElem? (i := 30) rfl)) rfl (fun ub1 => ?_) (fun ub1 => ?_)
    · refine w_aload_n (List.Mem.tail _ (List.Mem.head _)) (tX11_text_0_ok (84, .aload_n 0, 1) (List.mem_of_getElem? (i := 46) rfl)) ?_
      refine w_get (own := 16) rfl rfl (by decide) c_m fL3 (tX11_text_0_ok (85, .getfield 16, 3) (List.mem_of_getElem? (i := 47) rfl)) ?_
      refine w_aload_n (List.Mem.tail _ (List.Mem.head _)) (tX11_text_0_ok (88, .aload_n 0, 1) (List.mem_of_getElem? (i := 48) rfl)) ?_
      refine w_get (own := 16) rfl rfl (by decide) c_m fL7 (tX11_text_0_ok (89, .getfield 243, 3) (List.mem_of_getElem? (i := 49) rfl)) ?_
      refine w_aload_n (List.Mem.tail _ (List.Mem.head _)) (tX11_text_0_ok (92, .aload_n 0, 1) (List.mem_of_getElem? (i := 50) rfl)) ?_
      refine w_get (own := 16) rfl rfl (by decide) c_m fL6 (tX11_text_0_ok (93, .getfield 99, 3) (List.mem_of_getElem? (i := 51) rfl)) ?_
      refine w_iast hT c_tl (by omega) (by omega) (tX11_text_0_ok (96, .iastore, 1) (List.mem_of_getElem? (i := 52) rfl)) (fun uh2 uc3 uo4 => ?_)
      have uc5 := (uo4 m n_m_tl).trans c_m
      have uc6 := (uo4 tx n_tx_tl).trans c_x
      have uc7 := (uo4 te n_te_tl).trans c_te
      refine w_aload_n (List.Mem.tail _ (List.Mem.head _)) (tX11_text_0_ok (97, .aload_n 0, 1) (List.mem_of_getElem? (i := 53) rfl)) ?_
      refine w_iconst (by decide) (tX11_text_0_ok (98, .iconst 0, 1) (List.mem_of_getElem? (i := 54) rfl)) (fun uv8 ue9 => ?_)
      refine w_putF (own := 16) (ci := 10) (k := 6) rfl rfl (by decide) rfl ⟨rfl, rfl⟩ uc5 (by rw [fl]; decide) (tX11_text_0_ok (99, .putfield 99, 3) (List.mem_of_getElem? (i := 55) rfl)) (fun uh10 ufs13 ul14 uk15 uj16 uc11 uo12 => ?_)
      rw [fl] at ul14
      have uf17 := (uj16 1 (by decide)).trans fL1
      have uf18 := (uj16 2 (by decide)).trans fL2
      have uf19 := (uj16 3 (by decide)).trans fL3
      have uf20 := (uj16 7 (by decide)).trans fL7
      have uc21 := (uo12 tx n_tx_m).trans uc6
      have uc22 := (uo12 te n_te_m).trans uc7
      have uc23 := (uo12 tl n_tl_m).trans uc3
      refine w_aload_n (List.Mem.tail _ (List.Mem.head _)) (tX11_text_0_ok (102, .aload_n 0, 1) (List.mem_of_getElem? (i := 56) rfl)) ?_
      refine w_dup rfl (tX11_text_0_ok (103, .dup, 1) (List.mem_of_getElem? (i := 57) rfl)) ?_
      refine w_get (own := 16) rfl rfl (by decide) uc11 uf20 (tX11_text_0_ok (104, .getfield 243, 3) (List.mem_of_getElem? (i := 58) rfl)) ?_
      refine w_iconst (by decide) (tX11_text_0_ok (107, .iconst 1, 1) (List.mem_of_getElem? (i := 59) rfl)) (fun uv24 ue25 => ?_)
      refine w_iadd (by omega) (by omega) (tX11_text_1_ok (108, .iadd, 1) (List.mem_of_getElem? (i := 0) rfl)) (fun uv26 ue27 => ?_)
      refine w_putF (own := 16) (ci := 10) (k := 7) rfl rfl (by decide) rfl ⟨rfl, rfl⟩ uc11 (by rw [ul14]; decide) (tX11_text_1_ok (109, .putfield 243, 3) (List.mem_of_getElem? (i := 1) rfl)) (fun uh28 ufs31 ul32 uk33 uj34 uc29 uo30 => ?_)
      rw [ul14] at ul32
      have uf35 := (uj34 6 (by decide)).trans uk15
      have uf36 := (uj34 1 (by decide)).trans uf17
      have uf37 := (uj34 2 (by decide)).trans uf18
      have uf38 := (uj34 3 (by decide)).trans uf19
      have uc39 := (uo30 tx n_tx_m).trans uc21
      have uc40 := (uo30 te n_te_m).trans uc22
      have uc41 := (uo30 tl n_tl_m).trans uc23
      refine w_aload_n (List.Mem.tail _ (List.Mem.head _)) (tX11_text_1_ok (112, .aload_n 0, 1) (List.mem_of_getElem? (i := 2) rfl)) ?_
      refine w_get (own := 16) rfl rfl (by decide) uc29 uk33 (tX11_text_1_ok (113, .getfield 243, 3) (List.mem_of_getElem? (i := 3) rfl)) ?_
      refine w_iconst (by decide) (tX11_text_1_ok (116, .iconst 1, 1) (List.mem_of_getElem? (i := 4) rfl)) (fun uv42 ue43 => ?_)
      refine w_isub (by omega) (by omega) (tX11_text_1_ok (117, .isub, 1) (List.mem_of_getElem? (i := 5) rfl)) (fun uv44 ue45 => ?_)
      refine w_iret rfl (tX11_text_1_ok (118, .ireturn, 1) (List.mem_of_getElem? (i := 6) rfl)) ?_
      refine hq uh28 ufs31 gt _ uv44 uc29 ul32 ⟨_, uf35, by omega⟩ ⟨_, uk33, by omega⟩ (by omega) uc40 hgt uc41 (upd_bd hgz (by omega)) (fun j hj => (uj34 j hj.2).trans (uj16 j hj.1)) (fun q hq => (uo30 q hq.1).trans ((uo12 q hq.1).trans (uo4 q hq.2.2)))
    · refine w_aload_n (List.Mem.tail _ (List.Mem.head _)) (tX11_text_0_ok (55, .aload_n 0, 1) (List.mem_of_getElem? (i := 31) rfl)) ?_
      refine w_get (own := 16) rfl rfl (by decide) c_m fL2 (tX11_text_0_ok (56, .getfield 13, 3) (List.mem_of_getElem? (i := 32) rfl)) ?_
      refine w_sipush (by decide) (tX11_text_0_ok (59, .sipush 160, 3) (List.mem_of_getElem? (i := 33) rfl)) (fun uv46 ue47 => ?_)
      refine w_aload_n (List.Mem.tail _ (List.Mem.head _)) (tX11_text_0_ok (62, .aload_n 0, 1) (List.mem_of_getElem? (i := 34) rfl)) ?_
      refine w_get (own := 16) rfl rfl (by decide) c_m fL7 (tX11_text_0_ok (63, .getfield 243, 3) (List.mem_of_getElem? (i := 35) rfl)) ?_
      refine w_imul (by assumption) (by omega) (by omega) (tX11_text_0_ok (66, .imul, 1) (List.mem_of_getElem? (i := 36) rfl)) (fun uv48 ue49 => ?_)
      refine w_iload (List.Mem.head _) (tX11_text_0_ok (67, .iload 4, 2) (List.mem_of_getElem? (i := 37) rfl)) ?_
      refine w_iadd (by omega) (by omega) (tX11_text_0_ok (69, .iadd, 1) (List.mem_of_getElem? (i := 38) rfl)) (fun uv50 ue51 => ?_)
      refine w_aload_n (List.Mem.tail _ (List.Mem.head _)) (tX11_text_0_ok (70, .aload_n 0, 1) (List.mem_of_getElem? (i := 39) rfl)) ?_
      refine w_get (own := 16) rfl rfl (by decide) c_m fL1 (tX11_text_0_ok (71, .getfield 9, 3) (List.mem_of_getElem? (i := 40) rfl)) ?_
      refine w_iload (List.Mem.head _) (tX11_text_0_ok (74, .iload 4, 2) (List.mem_of_getElem? (i := 41) rfl)) ?_
      refine w_bald hT c_x (by omega) (by omega) (tX11_text_0_ok (76, .baload, 1) (List.mem_of_getElem? (i := 42) rfl)) (fun uv52 ue53 => ?_)
      refine w_bast hT c_te (by omega) (by omega) (tX11_text_0_ok (77, .bastore, 1) (List.mem_of_getElem? (i := 43) rfl)) (fun uh54 uc55 uo56 => ?_)
      have uc57 := (uo56 m n_m_te).trans c_m
      have uc58 := (uo56 tx n_tx_te).trans c_x
      have uc59 := (uo56 tl n_tl_te).trans c_tl
      refine w_iinc (fun uv60 => [(4, .int uv60), (0, .ref m), (1, .int so), (2, .long seed)]) (fun _ => rfl) (List.Mem.head _) (Nat.le_of_ble_eq_true rfl) (by decide) (by omega) (by omega) (tX11_text_0_ok (78, .iinc 4 1, 3) (List.mem_of_getElem? (i := 44) rfl)) (fun uv60 ue61 => ?_)
      refine w_goto (tgt := 46) (tX11_text_0_ok (81, .goto (-35), 3) (List.mem_of_getElem? (i := 45) rfl)) rfl ?_
      refine w_lv [(4, .int uv60), (0, .ref m), (1, .int so), (2, .long seed)] (by intro q hq; simp only [List.mem_cons, List.not_mem_nil, or_false] at hq ⊢; rcases hq with e | e | e | e <;> subst e <;> simp) ?_
      refine ih (j - 1) (by omega) _ _ _ (by omega) (by omega) (upd_bd hgt (by have z9 := byte_w uv52; omega)) uc57 uc58 uc55 uc59 (fun h1 fs1 gt1 gz1 v p1 p2 p3 p4 p5 p6 p7 p8 p9 p10 p11 => hq h1 fs1 gt1 gz1 v p1 p2 p3 p4 p5 p6 p7 p8 p9 p10 (fun q hq => (p11 q hq).trans (uo56 q hq.2.1)))
theorem r_text1 (hT : k_tys tys cA) (hX : ∀ s, X s → xs A aK aV s) (hso : so.toInt = 1) (hf : 35 ≤ fr) (hl : 960 ≤ lo) (hD : tx ≠ m ∧ te ≠ m ∧ tl ≠ m ∧ te ≠ tx ∧ tl ≠ tx ∧ tl ≠ te) (n_le_m : le ≠ m) (n_ro_m : ro ≠ m) (n_ro_tx : ro ≠ tx) (n_ro_le : ro ≠ le) (hnz : ∀ i, i < en.toInt.toNat → 1 ≤ (f i).toInt) (hs : sb g f 0 en.toInt.toNat) (hb : 0 ≤ en.toInt ∧ en.toInt ≤ 160 ∧ en.toInt ≤ n) (c_m : h m = some (.inr (10, fs))) (fl : fs.length = 47) (fL1 : fs[1]? = some (.ref tx)) (fL4 : fs[4]? = some (.ref le)) (fL6 : fs[6]? = some (.int en)) (fL12 : fs[12]? = some (.int dp)) (fL19 : fs[19]? = some (.ref ro)) (fL21 : fs[21]? = some (.int rd)) (c_x : h tx = some (.inl (cA 2, n, .inl g))) {gl : Nat → Int32} (c_le : h le = some (.inl (cA 0, 128, .inl gl))) (c_ro : h ro = some (.inl (cA 0, 108, .inl R))) (hTD : TD R) (fL2 : fs[2]? = some (.ref te)) (fL3 : fs[3]? = some (.ref tl)) (fL7 : fs[7]? = some (.int rmy)) (hrm : 0 ≤ rmy.toInt ∧ rmy.toInt ≤ 4) (c_te : h te = some (.inl (cA 2, 640, .inl gt))) (c_tl : h tl = some (.inl (cA 0, 4, .inl gz))) (hgt : (∀ i, i < 640 → -128 ≤ (gt i).toInt ∧ (gt i).toInt ≤ 127)) (hgz : ∀ i, i < 4 → 0 ≤ (gz i).toInt ∧ (gz i).toInt ≤ 160) (hft : ftyp fs) (hq : ∀ (h1 : ch_H) (fs1 : List Value) (gt1 gz1 : Nat → Int32) (v : Int32), h1 m = some (.inr (10, fs1)) → fs1.length = 47 → ftyp fs1 → (rmy.toInt < 4 ∧ (∃ q, sp_rule f en.toInt.toNat = .inr q) ∧ (∃ y : Int32, fs1[6]? = some (.int y) ∧ y.toInt = 0) ∧ (∃ y : Int32, fs1[7]? = some (.int y) ∧ y.toInt = rmy.toInt + 1) ∧ v.toInt = rmy.toInt ∨ (4 ≤ rmy.toInt ∨ ∃ e, sp_rule f en.toInt.toNat = .inl e) ∧ fs1[6]? = some (.int en) ∧ fs1[7]? = some (.int rmy) ∧ v.toInt = -1) → h1 te = some (.inl (cA 2, 640, .inl gt1)) → (∀ i, i < 640 → -128 ≤ (gt1 i).toInt ∧ (gt1 i).toInt ≤ 127) → h1 tl = some (.inl (cA 0, 4, .inl gz1)) → (∀ i, i < 4 → 0 ≤ (gz1 i).toInt ∧ (gz1 i).toInt ≤ 160) → (∃ y0 : Int32, fs1[0]? = some (.int y0)) → (∀ j, j ≠ 0 ∧ j ≠ 5 ∧ j ≠ 6 ∧ j ≠ 7 ∧ j ≠ 8 ∧ j ≠ 9 ∧ j ≠ 10 ∧ j ≠ 11 ∧ j ≠ 12 ∧ j ≠ 13 ∧ j ≠ 14 ∧ j ≠ 18 → fs1[j]? = fs[j]?) → (∀ q, q ≠ m ∧ q ≠ te ∧ q ≠ tl → h1 q = h q) → Q (some (.int v)) h1) : ww l D tys A X fr lo mX11_text Q 0 [(0, .ref m), (1, .int so), (2, .long seed)] [] h := by
  have hD9 := hD
  obtain ⟨n_tx_m, n_te_m, n_tl_m, n_te_tx, n_tl_tx, n_tl_te⟩ := hD
  have n_m_tx := n_tx_m.symm
  have n_m_te := n_te_m.symm
  have n_m_tl := n_tl_m.symm
  have n_tx_te := n_te_tx.symm
  have n_tx_tl := n_tl_tx.symm
  have n_te_tl := n_tl_te.symm
  have n_m_le := n_le_m.symm
  have n_m_ro := n_ro_m.symm
  refine w_aload_n (List.Mem.head _) (tX11_text_0_ok (0, .aload_n 0, 1) (List.mem_of_getElem? (i := 0) rfl)) ?_
  refine w_iconst (by decide) (tX11_text_0_ok (1, .iconst 0, 1) (List.mem_of_getElem? (i := 1) rfl)) (fun uv1 ue2 => ?_)
  refine w_putF (own := 16) (ci := 10) (k := 0) rfl rfl (by decide) rfl ⟨rfl, rfl⟩ c_m (by rw [fl]; decide) (tX11_text_0_ok (2, .putfield 85, 3) (List.mem_of_getElem? (i := 2) rfl)) (fun uh3 ufs6 ul7 uk8 uj9 uc4 uo5 => ?_)
  rw [fl] at ul7
  have uf10 := (uj9 1 (by decide)).trans fL1
  have uf11 := (uj9 2 (by decide)).trans fL2
  have uf12 := (uj9 3 (by decide)).trans fL3
  have uf13 := (uj9 6 (by decide)).trans fL6
  have uf14 := (uj9 7 (by decide)).trans fL7
  have uf15 := (uj9 4 (by decide)).trans fL4
  have uf16 := (uj9 12 (by decide)).trans fL12
  have uf17 := (uj9 19 (by decide)).trans fL19
  have uf18 := (uj9 21 (by decide)).trans fL21
  have uc19 := (uo5 tx n_tx_m).trans c_x
  have uc20 := (uo5 te n_te_m).trans c_te
  have uc21 := (uo5 tl n_tl_m).trans c_tl
  have uc22 := (uo5 le n_le_m).trans c_le
  have uc23 := (uo5 ro n_ro_m).trans c_ro
  refine w_iload_n (List.Mem.tail _ (List.Mem.head _)) (tX11_text_0_ok (5, .iload_n 1, 1) (List.mem_of_getElem? (i := 3) rfl)) ?_
  refine w_iconst (by decide) (tX11_text_0_ok (6, .iconst 0, 1) (List.mem_of_getElem? (i := 4) rfl)) (fun uv24 ue25 => ?_)
  refine w_iconst (by decide) (tX11_text_0_ok (7, .iconst 1, 1) (List.mem_of_getElem? (i := 5) rfl)) (fun uv26 ue27 => ?_)
  refine w_callS (own := 16) (mi := 199) [.int so, .int uv24, .int uv26] [] [(0, .int so), (1, .int uv24), (2, .int uv26)] rfl (cllw_X11 (207, 1, 199) (List.mem_of_getElem? (i := 2) rfl)) rfl rfl (by omega) (w_lo (n := 22) rfl (by omega)) (Nat.le_of_ble_eq_true rfl) (Nat.le_of_ble_eq_true rfl) rfl (tX11_text_0_ok (8, .invokestatic 207, 3) (List.mem_of_getElem? (i := 6) rfl)) (r_isIn (fun uv28 ue29 => ?_))
  show ww l D tys A X fr lo mX11_text Q 11 [(0, .ref m), (1, .int so), (2, .long seed)] [.int uv28] uh3
  refine w_if_eq (tgt := 36) (tX11_text_0_ok (11, .ifCond .eq 25, 3) (List.mem_of_getElem? (i := 7) rfl)) rfl (fun ub30 => ?_) (fun ub30 => ?_)
  · exfalso; omega
  · refine w_iload_n (List.Mem.tail _ (List.Mem.head _)) (tX11_text_0_ok (14, .iload_n 1, 1) (List.mem_of_getElem? (i := 8) rfl)) ?_
    refine w_iconst (by decide) (tX11_text_0_ok (15, .iconst 1, 1) (List.mem_of_getElem? (i := 9) rfl)) (fun uv31 ue32 => ?_)
    refine w_icmp_ne (tgt := 27) (tX11_text_0_ok (16, .if_icmp .ne 11, 3) (List.mem_of_getElem? (i := 10) rfl)) rfl (fun ub33 => ?_) (fun ub33 => ?_)
    · exfalso; omega
    · refine w_aload_n (List.Mem.head _) (tX11_text_0_ok (19, .aload_n 0, 1) (List.mem_of_getElem? (i := 11) rfl)) ?_
      refine w_get (own := 16) rfl rfl (by decide) uc4 uf14 (tX11_text_0_ok (20, .getfield 243, 3) (List.mem_of_getElem? (i := 12) rfl)) ?_
      refine w_iconst (by decide) (tX11_text_0_ok (23, .iconst 4, 1) (List.mem_of_getElem? (i := 13) rfl)) (fun uv34 ue35 => ?_)
      refine w_icmp_eq (tgt := 36) (tX11_text_0_ok (24, .if_icmp .eq 12, 3) (List.mem_of_getElem? (i := 14) rfl)) rfl (fun ub36 => ?_) (fun ub36 => ?_)
      · refine w_iconst (by decide) (tX11_text_0_ok (36, .iconst (-1), 1) (List.mem_of_getElem? (i := 20) rfl)) (fun uv37 ue38 => ?_)
        refine w_iret rfl (tX11_text_0_ok (37, .ireturn, 1) (List.mem_of_getElem? (i := 21) rfl)) ?_
        refine hq uh3 ufs6 gt gz uv37 uc4 ul7 ⟨?_, ?_, ?_⟩ (Or.inr ⟨Or.inl (by omega), uf13, uf14, by omega⟩) uc20 hgt uc21 hgz ⟨_, uk8⟩ (fun j hj => uj9 j hj.1) (fun q hq => uo5 q hq.1)
        · obtain ⟨a, q1⟩ := hft.1; exact ⟨a, (uj9 5 (by decide)).trans q1⟩
        · intro k hk; obtain ⟨y, q1⟩ := hft.2.1 k hk; exact ⟨y, (uj9 k (by omega)).trans q1⟩
        · obtain ⟨y, q1, q2⟩ := hft.2.2; exact ⟨y, (uj9 18 (by decide)).trans q1, q2⟩
      · refine w_aload_n (List.Mem.head _) (tX11_text_0_ok (27, .aload_n 0, 1) (List.mem_of_getElem? (i := 15) rfl)) ?_
        refine w_iload_n (List.Mem.tail _ (List.Mem.head _)) (tX11_text_0_ok (28, .iload_n 1, 1) (List.mem_of_getElem? (i := 16) rfl)) ?_
        refine w_callV (own := 16) (mi := 182) [.int so] [] [(0, .ref m), (1, .int so)] rfl (cllw_X11 (246, 0, 182) (List.mem_of_getElem? (i := 32) rfl)) rfl rfl uc4 rfl (by omega) (w_lo (n := 21) rfl (by omega)) (Nat.le_of_ble_eq_true rfl) (Nat.le_of_ble_eq_true rfl) rfl (tX11_text_0_ok (29, .invokevirtual 246, 3) (List.mem_of_getElem? (i := 17) rfl)) (r_fault1 hT hX (by omega) (by omega) (w_sub (n := 21) rfl (by omega)) hnz hs hb uc4 ul7 uf10 uf15 uf13 uf16 uf17 uf18 n_tx_m n_le_m n_ro_m n_ro_tx n_ro_le uc19 uc22 uc23 hTD (fun uh39 ufs40 uat41 ufl42 udpa43 ubga44 up45 ue46 ue47 ue48 uzz49 uk50 uo51 => ?_))
        have uc52 := up45.1.1.1.1
        have ul53 := up45.1.1.1.2.1
        have uf54 := (uk50 1 (by decide)).trans uf10
        have uf55 := (uk50 2 (by decide)).trans uf11
        have uf56 := (uk50 3 (by decide)).trans uf12
        have uf57 := (uk50 6 (by decide)).trans uf13
        have uf58 := (uk50 7 (by decide)).trans uf14
        have uc59 := (uo51 tx n_tx_m).trans uc19
        have uc60 := (uo51 te n_te_m).trans uc20
        have uc61 := (uo51 tl n_tl_m).trans uc21
        show ww l D tys A X fr lo mX11_text Q 32 [(0, .ref m), (1, .int so), (2, .long seed)] [.int ufl42] uh39
        refine w_iconst (by decide) (tX11_text_0_ok (32, .iconst (-1), 1) (List.mem_of_getElem? (i := 18) rfl)) (fun uv62 ue63 => ?_)
        refine w_icmp_eq (tgt := 38) (tX11_text_0_ok (33, .if_icmp .eq 5, 3) (List.mem_of_getElem? (i := 19) rfl)) rfl (fun ub64 => ?_) (fun ub64 => ?_)
        · refine w_iload_n (List.Mem.tail _ (List.Mem.head _)) (tX11_text_0_ok (38, .iload_n 1, 1) (List.mem_of_getElem? (i := 22) rfl)) ?_
          refine w_iconst (by decide) (tX11_text_0_ok (39, .iconst 1, 1) (List.mem_of_getElem? (i := 23) rfl)) (fun uv65 ue66 => ?_)
          refine w_icmp_ne (tgt := 119) (tX11_text_0_ok (40, .if_icmp .ne 79, 3) (List.mem_of_getElem? (i := 24) rfl)) rfl (fun ub67 => ?_) (fun ub67 => ?_)
          · exfalso; omega
          · refine w_iconst (by decide) (tX11_text_0_ok (43, .iconst 0, 1) (List.mem_of_getElem? (i := 25) rfl)) (fun uv68 ue69 => ?_)
            refine w_istore [(4, .int uv68), (0, .ref m), (1, .int so), (2, .long seed)] rfl (Nat.le_of_ble_eq_true rfl) (tX11_text_0_ok (44, .istore 4, 2) (List.mem_of_getElem? (i := 26) rfl)) ?_
            obtain ⟨q9, q8, q7⟩ := sp_is.inr ue47 (by omega)
            refine w_lv [(4, .int uv68), (0, .ref m), (1, .int so), (2, .long seed)] (by intro q hq; simp only [List.mem_cons, List.not_mem_nil, or_false] at hq ⊢; rcases hq with e | e | e | e <;> subst e <;> simp) ?_
            refine r_cpL hT hD9 hb (by omega) ul53 uf54 uf55 uf56 uf57 uf58 hgz en.toInt.toNat _ gt _ (by omega) (by omega) hgt uc52 uc59 uc60 uc61 (fun h1 fs1 gt1 gz1 v p1 p2 p3 p4 p5 p6 p7 p8 p9 p10 p11 => hq h1 fs1 gt1 gz1 v p1 p2 ?_ (Or.inl ⟨by omega, ⟨q9, q8⟩, p3, p4, p5⟩) p6 p7 p8 p9 (uzz49.elim fun y0 z0 => ⟨y0, (p10 0 (by decide)).trans z0⟩) (fun j hj => (p10 j ⟨hj.2.2.1, hj.2.2.2.1⟩).trans ((uk50 j ⟨hj.1, hj.2.1, hj.2.2.2.2.1, hj.2.2.2.2.2.1, hj.2.2.2.2.2.2.1, hj.2.2.2.2.2.2.2.1, hj.2.2.2.2.2.2.2.2.1, hj.2.2.2.2.2.2.2.2.2.1, hj.2.2.2.2.2.2.2.2.2.2.1, hj.2.2.2.2.2.2.2.2.2.2.2⟩).trans (uj9 j hj.1))) (fun q hq => (p11 q hq).trans ((uo51 q hq.1).trans (uo5 q hq.1))))
            obtain ⟨⟨a, r1⟩, r2, y, r3, r4⟩ := rk.ft up45
            exact ⟨⟨a, (p10 5 (by decide)).trans r1⟩, fun k hk => (r2 k hk).elim fun z r5 => ⟨z, (p10 k (by omega)).trans r5⟩, y, (p10 18 (by decide)).trans r3, r4⟩
        · refine w_iconst (by decide) (tX11_text_0_ok (36, .iconst (-1), 1) (List.mem_of_getElem? (i := 20) rfl)) (fun uv70 ue71 => ?_)
          refine w_iret rfl (tX11_text_0_ok (37, .ireturn, 1) (List.mem_of_getElem? (i := 21) rfl)) ?_
          obtain ⟨q9, q8, q7⟩ := sp_is.inl ue47 (by omega)
          refine hq uh39 ufs40 gt gz uv70 uc52 ul53 (rk.ft up45) (Or.inr ⟨Or.inr ⟨q9, q8⟩, uf57, uf58, by omega⟩) uc60 hgt uc61 hgz uzz49 (fun j hj => (uk50 j ⟨hj.1, hj.2.1, hj.2.2.2.2.1, hj.2.2.2.2.2.1, hj.2.2.2.2.2.2.1, hj.2.2.2.2.2.2.2.1, hj.2.2.2.2.2.2.2.2.1, hj.2.2.2.2.2.2.2.2.2.1, hj.2.2.2.2.2.2.2.2.2.2.1, hj.2.2.2.2.2.2.2.2.2.2.2⟩).trans (uj9 j hj.1)) (fun q hq => (uo51 q hq.1).trans (uo5 q hq.1))
end
