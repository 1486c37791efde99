/-! the reference's rows -/
def rR (cA : Nat → ClassId) (h : ch_H) (m n : Nat) (ρ : aRw) : Prop := wfR n ρ ∧ ∃ (fs : List Value) (ro : Nat) (R : Nat → Int32), h m = some (.inr (10, fs)) ∧ fs[19]? = some (.ref ro) ∧ h ro = some (.inl (cA 0, 108, .inl R)) ∧ ∀ q, q < n → ∀ w, w < 9 → (R (9 * q + w)).toInt = ρ q w
def okRr (W : List (Nat × Nat)) : Bool := W.all (fun q => decide (q ∉ [(50, 19), (70, 19), (55, 0), (69, 0)]))
theorem okRr.no {W : List (Nat × Nat)} (h : okRr W = true) : ∀ q ∈ W, q ∉ [(50, 19), (70, 19), (55, 0), (69, 0)] := fun q hq => of_decide_eq_true (List.all_eq_true.mp h q hq)
section
variable {Sg : Nat → Option Nat} {cA : Nat → ClassId} {h h1 g g2 : ch_H} {W : List (Nat × Nat)} {m n : Nat} {ρ : aRw}
theorem lab19 {fs : List Value} {ro : Nat} (hH : k_H Sg cA Lb h) (sm : sgM0 Sg m) (c_m : h m = some (.inr (10, fs))) (f19 : fs[19]? = some (.ref ro)) : (Sg ro = some 55 ∨ Sg ro = some 69) ∧ fs.length = 47 := by
  rcases sm with sm | sm
  · obtain ⟨fs2, c, l, ty⟩ := hH.obj sm (L := 50) rfl
    rw [c_m] at c
    cases c
    obtain ⟨v, e, tv⟩ := ty 19 _ rfl
    rw [f19] at e
    cases e
    obtain ⟨t2, e2, s9⟩ := k_v.ref tv
    cases e2
    exact ⟨Or.inl s9, l⟩
  · obtain ⟨fs2, c, l, ty⟩ := hH.obj sm (L := 70) rfl
    rw [c_m] at c
    cases c
    obtain ⟨v, e, tv⟩ := ty 19 _ rfl
    rw [f19] at e
    cases e
    obtain ⟨t2, e2, s9⟩ := k_v.ref tv
    cases e2
    exact ⟨Or.inr s9, l⟩
theorem rR.gen (hH : k_H Sg cA Lb h) (sm : sgM0 Sg m) (hx : ∀ fs : List Value, h m = some (.inr (10, fs)) → ∃ fs1, h1 m = some (.inr (10, fs1)) ∧ fs1[19]? = fs[19]?) (o : ∀ a, Sg a = some 55 ∨ Sg a = some 69 → h1 a = h a) (H : rR cA h m n ρ) : rR cA h1 m n ρ := by
  obtain ⟨wf, fs, ro, R, c_m, f19, c_ro, e⟩ := H
  obtain ⟨fs1, d0, d1⟩ := hx fs c_m
  exact ⟨wf, fs1, ro, R, d0, d1.trans f19, (o ro (lab19 hH sm c_m f19).1).trans c_ro, e⟩
theorem rR.U (hH : k_H Sg cA Lb h) (u : k_U Sg W h h1) (hw : okRr W = true) (sm : sgM0 Sg m) (H : rR cA h m n ρ) : rR cA h1 m n ρ := by
  have no := okRr.no hw
  refine H.gen hH sm (fun fs c_m => ?_) (fun a ha => ?_)
  · rcases sm with sm | sm
    · obtain ⟨fs1, c1, k1⟩ := (u m 50 sm).1 _ _ c_m
      exact ⟨fs1, c1, k1 19 (fun z => no _ z (by decide))⟩
    · obtain ⟨fs1, c1, k1⟩ := (u m 70 sm).1 _ _ c_m
      exact ⟨fs1, c1, k1 19 (fun z => no _ z (by decide))⟩
  · rcases ha with ha | ha
    · obtain ⟨R, c, -⟩ := hH.arr ha (L := 55) rfl
      exact ((u a 55 ha).2 _ c (fun z => no _ z (by decide))).trans c.symm
    · obtain ⟨R, c, -⟩ := hH.arr ha (L := 69) rfl
      exact ((u a 69 ha).2 _ c (fun z => no _ z (by decide))).trans c.symm
theorem rR.eq (hH : k_H Sg cA Lb h) (sm : sgM0 Sg m) (o : ∀ a L, Sg a = some L → 50 ≤ L → h1 a = h a) (H : rR cA h m n ρ) : rR cA h1 m n ρ :=
  H.gen hH sm (fun fs c_m => ⟨fs, by
    rcases sm with sm | sm
    · exact (o m 50 sm (by decide)).trans c_m
    · exact (o m 70 sm (by decide)).trans c_m, rfl⟩) (fun a ha => by
    rcases ha with ha | ha
    · exact o a 55 ha (by decide)
    · exact o a 69 ha (by decide))
theorem rR.ag (hH : k_H Sg cA Lb g) (sm : sgM0 Sg m) (a : ag g g2) (ai : agI g g2) (H : rR cA g2 m n ρ) : rR cA g m n ρ := by
  obtain ⟨wf, fs, ro, R, c_m, f19, c_ro, e⟩ := H
  obtain ⟨fs1, c1, l1⟩ : ∃ fs1, g m = some (.inr (10, fs1)) ∧ fs1.length = 47 := by
    rcases sm with sm | sm
    · obtain ⟨fs1, c1, l1, -⟩ := hH.obj sm (L := 50) rfl
      exact ⟨fs1, c1, l1⟩
    · obtain ⟨fs1, c1, l1, -⟩ := hH.obj sm (L := 70) rfl
      exact ⟨fs1, c1, l1⟩
  have q19 := a.get c1 c_m (by decide) (by rw [l1]; decide) f19
  obtain ⟨R1, z1⟩ : ∃ R1, g ro = some (.inl (cA 0, 108, .inl R1)) := by
    rcases (lab19 hH sm c1 q19).1 with s9 | s9
    · obtain ⟨R1, z1, -⟩ := hH.arr s9 (L := 55) rfl
      exact ⟨R1, z1⟩
    · obtain ⟨R1, z1, -⟩ := hH.arr s9 (L := 69) rfl
      exact ⟨R1, z1⟩
  have w1 := (ai ro _ _ _ _ _ _ z1 c_ro).2
  exact ⟨wf, fs1, ro, R1, c1, q19, z1, fun q hq w hw => by
    have h6 := wf.1
    rw [w1 (9 * q + w) (by omega)]
    exact e q hq w hw⟩
end
section
variable {l : Launch} {D : va_G} {tys : List (ClassId × FieldType)} {A : Nat → Prop} {X : State → Prop} {fr lo : Nat} {Q : Option Value → ch_H → Prop} {cA : Nat → ClassId} {h : ch_H} {m tx n le : Nat} {fs : List Value} {g f : Nat → Int32} {bg en at0 fl0 dp : Int32} {aK aV : Nat → Nat} {ro : Nat} {R : Nat → Int32} {so rd : Int32}
theorem r_fault0V (hT : k_tys tys cA) (hX : ∀ s, X s → xs A aK aV s) (hso : so.toInt = 0) (hf : 7 ≤ fr) (hl : 280 ≤ lo) (hnz : ∀ i, i < en.toInt.toNat → 1 ≤ (f i).toInt) (hs : sb g f 0 en.toInt.toNat) (hb : 0 ≤ en.toInt ∧ en.toInt ≤ 160 ∧ en.toInt ≤ n) (c_m : h m = some (.inr (10, fs))) (fl : fs.length = 47) (fL1 : fs[1]? = some (.ref tx)) (f4 : fs[4]? = some (.ref le)) (fL6 : fs[6]? = some (.int en)) (f12 : fs[12]? = some (.int dp)) (fL19 : fs[19]? = some (.ref ro)) (fL21 : fs[21]? = some (.int rd)) (n_tx_m : tx ≠ m) (n_le_m : le ≠ m) (n_ro_m : ro ≠ m) (n_ro_tx : ro ≠ tx) (n_ro_le : ro ≠ le) (c_x : h tx = some (.inl (cA 2, n, .inl g))) {gl : Nat → Int32} (c_le : h le = some (.inl (cA 0, 128, .inl gl))) (c_ro : h ro = some (.inl (cA 0, 108, .inl R))) (hTD : TD R) (hq : ∀ (h1 : ch_H) (fs1 : List Value) (at1 fl1 rd1 bg1 : Int32) (R1 : Nat → Int32), rr cA h1 m fs1 tx n le ro g f R1 bg1 en at1 fl1 dp → bg1.toInt = 0 → fs1[21]? = some (.int rd1) → 0 ≤ rd1.toInt ∧ rd1.toInt ≤ 6 → sp_is (sp_town f en.toInt.toNat).1 at1 fl1 → (fl1.toInt = -1 → rd1.toInt = ((sp_town f en.toInt.toNat).2 : Nat) ∧ (R1 62).toInt = -1) → (fl1.toInt = -1 → ∀ q, q < (sp_town f en.toInt.toNat).2 → ∀ w, w < 9 → (R1 (54 + 9 * q + w)).toInt = sp_tv f en.toInt.toNat 6 0 0 (fun _ _ => 0) q w) → (∀ i, i < 54 → R1 i = R i) → (∃ y0 : Int32, fs1[0]? = some (.int y0)) → (∀ j, j ≠ 0 ∧ j ≠ 5 ∧ j ≠ 8 ∧ j ≠ 9 ∧ j ≠ 10 ∧ j ≠ 11 ∧ j ≠ 12 ∧ j ≠ 21 → fs1[j]? = fs[j]?) → (∀ q, q ≠ m ∧ q ≠ ro → h1 q = h q) → Q (some (.int fl1)) h1) : ww l D tys A X fr lo mX11_fault Q 0 [(0, .ref m), (1, .int so)] [] h := by
  have n_m_tx := n_tx_m.symm
  have n_m_le := n_le_m.symm
  have n_m_ro := n_ro_m.symm
  refine w_aload_n (List.Mem.head _) (tX11_fault_0_ok (0, .aload_n 0, 1) (List.mem_of_getElem? (i := 0) rfl)) ?_
  refine w_iconst (by decide) (tX11_fault_0_ok (1, .iconst 0, 1) (List.mem_of_getElem? (i := 1) rfl)) (fun uv1 ue2 => ?_)
  refine w_putF (own := 16) (ci := 10) (k := 0) rfl rfl (by decide) rfl ⟨rfl, rfl⟩ c_m (by rw [fl]; decide) (tX11_fault_0_ok (2, .putfield 85, 3) (List.mem_of_getElem? (i := 2) rfl)) (fun uh3 ufs6 ul7 uk8 uj9 uc4 uo5 => ?_)
  rw [fl] at ul7
  have uf10 := (uj9 1 (by decide)).trans fL1
  have uf11 := (uj9 4 (by decide)).trans f4
  have uf12 := (uj9 6 (by decide)).trans fL6
  have uf13 := (uj9 12 (by decide)).trans f12
  have uf14 := (uj9 19 (by decide)).trans fL19
  have uf15 := (uj9 21 (by decide)).trans fL21
  have uc16 := (uo5 tx n_tx_m).trans c_x
  have uc17 := (uo5 le n_le_m).trans c_le
  have uc18 := (uo5 ro n_ro_m).trans c_ro
  refine w_iload_n (List.Mem.tail _ (List.Mem.head _)) (tX11_fault_0_ok (5, .iload_n 1, 1) (List.mem_of_getElem? (i := 3) rfl)) ?_
  refine w_iconst (by decide) (tX11_fault_0_ok (6, .iconst 0, 1) (List.mem_of_getElem? (i := 4) rfl)) (fun uv19 ue20 => ?_)
  refine w_iconst (by decide) (tX11_fault_0_ok (7, .iconst 1, 1) (List.mem_of_getElem? (i := 5) rfl)) (fun uv21 ue22 => ?_)
  refine w_callS (own := 16) (mi := 199) [.int so, .int uv19, .int uv21] [] [(0, .int so), (1, .int uv19), (2, .int uv21)] rfl (cllw_X11 (207, 1, 199) (List.mem_of_getElem? (i := 2) rfl)) rfl rfl (by omega) (w_lo (n := 22) rfl (by omega)) (Nat.le_of_ble_eq_true rfl) (Nat.le_of_ble_eq_true rfl) rfl (tX11_fault_0_ok (8, .invokestatic 207, 3) (List.mem_of_getElem? (i := 6) rfl)) (r_isIn (fun uv23 ue24 => ?_))
  show ww l D tys A X fr lo mX11_fault Q 11 [(0, .ref m), (1, .int so)] [.int uv23] uh3
  refine w_if_ne (tgt := 17) (tX11_fault_0_ok (11, .ifCond .ne 6, 3) (List.mem_of_getElem? (i := 7) rfl)) rfl (fun ub25 => ?_) (fun ub25 => ?_)
  · refine w_iload_n (List.Mem.tail _ (List.Mem.head _)) (tX11_fault_0_ok (17, .iload_n 1, 1) (List.mem_of_getElem? (i := 10) rfl)) ?_
    refine w_if_ne (tgt := 28) (tX11_fault_0_ok (18, .ifCond .ne 10, 3) (List.mem_of_getElem? (i := 11) rfl)) rfl (fun ub26 => ?_) (fun ub26 => ?_)
    · exfalso; omega
    · refine w_aload_n (List.Mem.head _) (tX11_fault_0_ok (21, .aload_n 0, 1) (List.mem_of_getElem? (i := 12) rfl)) ?_
      refine w_callV (own := 16) (mi := 234) [] [] [(0, .ref m)] rfl (cllw_X11 (237, 0, 234) (List.mem_of_getElem? (i := 3) rfl)) rfl rfl uc4 rfl (by omega) (w_lo (n := 21) rfl (by omega)) (Nat.le_of_ble_eq_true rfl) (Nat.le_of_ble_eq_true rfl) rfl (tX11_fault_0_ok (22, .invokevirtual 237, 3) (List.mem_of_getElem? (i := 13) rfl)) (r_readTownV hT hX (by omega) (w_sub (n := 21) rfl (by omega)) hnz hs hb uc4 ul7 uf10 uf11 uf12 uf13 uf14 uf15 n_tx_m n_le_m n_ro_m n_ro_tx n_ro_le uc16 uc17 uc18 hTD (fun uh27 ufs28 uat29 ufl30 urda31 ubga32 uRa33 up34 ue35 ue36 ue37 ue38 ue39 ueV ue40 uk41 uo42 => ?_))
      have uc43 := up34.1.1.1.1
      have uf44 := up34.1.1.1.2.2.2.2.2.2
      have ul45 := up34.1.1.1.2.1
      have uf46 := (uk41 0 (by decide)).trans uk8
      show ww l D tys A X fr lo mX11_fault Q 25 [(0, .ref m), (1, .int so)] [] uh27
      refine w_goto (tgt := 41) (tX11_fault_0_ok (25, .goto 16, 3) (List.mem_of_getElem? (i := 14) rfl)) rfl ?_
      refine w_aload_n (List.Mem.head _) (tX11_fault_0_ok (41, .aload_n 0, 1) (List.mem_of_getElem? (i := 22) rfl)) ?_
      refine w_get (own := 16) rfl rfl (by decide) uc43 uf44 (tX11_fault_0_ok (42, .getfield 118, 3) (List.mem_of_getElem? (i := 23) rfl)) ?_
      refine w_iret rfl (tX11_fault_0_ok (45, .ireturn, 1) (List.mem_of_getElem? (i := 24) rfl)) ?_
      exact hq uh27 ufs28 uat29 ufl30 urda31 ubga32 uRa33 up34 ue35 ue36 ue37 ue38 ue39 ueV ue40 ⟨_, uf46⟩ (fun j hj => (uk41 j ⟨hj.2.1, hj.2.2.1, hj.2.2.2.1, hj.2.2.2.2.1, hj.2.2.2.2.2.1, hj.2.2.2.2.2.2.1, hj.2.2.2.2.2.2.2⟩).trans (uj9 j hj.1)) (fun q hq => (uo42 q ⟨hq.1, hq.2⟩).trans (uo5 q hq.1))
  · exfalso; omega
end
section
variable {l : Launch} {D : va_G} {tys : List (ClassId × FieldType)} {A : Nat → Prop} {X : State → Prop} {fr lo : Nat} {Q : Option Value → ch_H → Prop} {cA : Nat → ClassId} {h : ch_H} {m tx n le : Nat} {fs : List Value} {g f : Nat → Int32} {bg en at0 fl0 dp : Int32} {aK aV : Nat → Nat} {ro : Nat} {R : Nat → Int32} {so rd : Int32} {seed : Int64}
theorem r_text0V (hT : k_tys tys cA) (hX : ∀ s, X s → xs A aK aV s) (hso : so.toInt = 0) (hf : 10 ≤ fr) (hl : 400 ≤ lo) (hnz : ∀ i, i < en.toInt.toNat → 1 ≤ (f i).toInt) (hs : sb g f 0 en.toInt.toNat) (hb : 0 ≤ en.toInt ∧ en.toInt ≤ 160 ∧ en.toInt ≤ n) (c_m : h m = some (.inr (10, fs))) (fl : fs.length = 47) (fL1 : fs[1]? = some (.ref tx)) (f4 : fs[4]? = some (.ref le)) (fL6 : fs[6]? = some (.int en)) (f12 : fs[12]? = some (.int dp)) (fL19 : fs[19]? = some (.ref ro)) (fL21 : fs[21]? = some (.int rd)) (n_tx_m : tx ≠ m) (n_le_m : le ≠ m) (n_ro_m : ro ≠ m) (n_ro_tx : ro ≠ tx) (n_ro_le : ro ≠ le) (c_x : h tx = some (.inl (cA 2, n, .inl g))) {gl : Nat → Int32} (c_le : h le = some (.inl (cA 0, 128, .inl gl))) (c_ro : h ro = some (.inl (cA 0, 108, .inl R))) (hTD : TD R) (hqF : ∀ (h1 : ch_H) (fs1 : List Value) (R1 : Nat → Int32) (rd1 v bg1 at1 fl1 : Int32), rr cA h1 m fs1 tx n le ro g f R1 bg1 en at1 fl1 dp → (∃ y0 : Int32, fs1[0]? = some (.int y0)) → fs1[21]? = some (.int rd1) → 0 ≤ rd1.toInt ∧ rd1.toInt ≤ 6 → (∀ i, i < 54 → R1 i = R i) → fs1[6]? = some (.int en) → fs1[20]? = fs[20]? → (∃ e, (sp_town f en.toInt.toNat).1 = .inl e) → v.toInt = -1 → (∀ j, j ≠ 0 ∧ j ≠ 5 ∧ j ≠ 6 ∧ j ≠ 8 ∧ j ≠ 9 ∧ j ≠ 10 ∧ j ≠ 11 ∧ j ≠ 12 ∧ j ≠ 20 ∧ j ≠ 21 → fs1[j]? = fs[j]?) → (∀ q, q ≠ m ∧ q ≠ ro → h1 q = h q) → Q (some (.int v)) h1) (hqS : ∀ (h1 : ch_H) (fs1 : List Value) (R1 R2 : Nat → Int32) (k1 rd1 : Int32), h1 m = some (.inr (10, fs1)) → fs1.length = 47 → h1 ro = some (.inl (cA 0, 108, .inl R2)) → (∀ i, i < 54 → R2 i = R1 (54 + i)) → (∀ i, 54 ≤ i → R2 i = R1 i) → ((∃ y0 : Int32, fs1[0]? = some (.int y0)) ∧ (∃ v : Value, fs1[5]? = some v) ∧ (∃ y : Int32, fs1[8]? = some (.int y)) ∧ (∃ y : Int32, fs1[9]? = some (.int y)) ∧ (∃ y : Int32, fs1[10]? = some (.int y)) ∧ (∃ y : Int32, fs1[11]? = some (.int y)) ∧ ∃ y : Int32, fs1[12]? = some (.int y)) → (∃ y : Int32, fs1[6]? = some (.int y) ∧ y.toInt = 0) → fs1[20]? = some (.int rd1) → fs1[21]? = some (.int rd1) → 0 ≤ rd1.toInt ∧ rd1.toInt ≤ 6 → TD R1 → (R1 62).toInt = -1 → (∃ q, (sp_town f en.toInt.toNat).1 = .inr q) → rd1.toInt = ((sp_town f en.toInt.toNat).2 : Nat) → (∀ q, q < (sp_town f en.toInt.toNat).2 → ∀ w, w < 9 → (R1 (54 + 9 * q + w)).toInt = sp_tv f en.toInt.toNat 6 0 0 (fun _ _ => 0) q w) → (∀ j, j ≠ 0 ∧ j ≠ 5 ∧ j ≠ 6 ∧ j ≠ 8 ∧ j ≠ 9 ∧ j ≠ 10 ∧ j ≠ 11 ∧ j ≠ 12 ∧ j ≠ 20 ∧ j ≠ 21 → fs1[j]? = fs[j]?) → (∀ q, q ≠ m ∧ q ≠ ro → h1 q = h q) → ww l D tys A X fr lo mX11_text Q 165 [(4, .int k1), (0, .ref m), (1, .int so), (2, .long seed)] [] h1) : ww l D tys A X fr lo mX11_text Q 0 [(0, .ref m), (1, .int so), (2, .long seed)] [] h := by
  have n_m_tx := n_tx_m.symm
  have n_m_le := n_le_m.symm
  have n_m_ro := n_ro_m.symm
  refine w_aload_n (List.Mem.head _) (tX11_text_0_ok (0, .aload_n 0, 1) (List.mem_of_getElem? (i := 0) rfl)) ?_
  refine w_iconst (by decide) (tX11_text_0_ok (1, .iconst 0, 1) (List.mem_of_getElem? (i := 1) rfl)) (fun uv1 ue2 => ?_)
  refine w_putF (own := 16) (ci := 10) (k := 0) rfl rfl (by decide) rfl ⟨rfl, rfl⟩ c_m (by rw [fl]; decide) (tX11_text_0_ok (2, .putfield 85, 3) (List.mem_of_getElem? (i := 2) rfl)) (fun uh3 ufs6 ul7 uk8 uj9 uc4 uo5 => ?_)
  rw [fl] at ul7
  have uf10 := (uj9 1 (by decide)).trans fL1
  have uf11 := (uj9 4 (by decide)).trans f4
  have uf12 := (uj9 6 (by decide)).trans fL6
  have uf13 := (uj9 12 (by decide)).trans f12
  have uf14 := (uj9 19 (by decide)).trans fL19
  have uf15 := (uj9 21 (by decide)).trans fL21
  have uc16 := (uo5 tx n_tx_m).trans c_x
  have uc17 := (uo5 le n_le_m).trans c_le
  have uc18 := (uo5 ro n_ro_m).trans c_ro
  refine w_iload_n (List.Mem.tail _ (List.Mem.head _)) (tX11_text_0_ok (5, .iload_n 1, 1) (List.mem_of_getElem? (i := 3) rfl)) ?_
  refine w_iconst (by decide) (tX11_text_0_ok (6, .iconst 0, 1) (List.mem_of_getElem? (i := 4) rfl)) (fun uv19 ue20 => ?_)
  refine w_iconst (by decide) (tX11_text_0_ok (7, .iconst 1, 1) (List.mem_of_getElem? (i := 5) rfl)) (fun uv21 ue22 => ?_)
  refine w_callS (own := 16) (mi := 199) [.int so, .int uv19, .int uv21] [] [(0, .int so), (1, .int uv19), (2, .int uv21)] rfl (cllw_X11 (207, 1, 199) (List.mem_of_getElem? (i := 2) rfl)) rfl rfl (by omega) (w_lo (n := 22) rfl (by omega)) (Nat.le_of_ble_eq_true rfl) (Nat.le_of_ble_eq_true rfl) rfl (tX11_text_0_ok (8, .invokestatic 207, 3) (List.mem_of_getElem? (i := 6) rfl)) (r_isIn (fun uv23 ue24 => ?_))
  show ww l D tys A X fr lo mX11_text Q 11 [(0, .ref m), (1, .int so), (2, .long seed)] [.int uv23] uh3
  refine w_if_eq (tgt := 36) (tX11_text_0_ok (11, .ifCond .eq 25, 3) (List.mem_of_getElem? (i := 7) rfl)) rfl (fun ub25 => ?_) (fun ub25 => ?_)
  · exfalso; omega
  · refine w_iload_n (List.Mem.tail _ (List.Mem.head _)) (tX11_text_0_ok (14, .iload_n 1, 1) (List.mem_of_getElem? (i := 8) rfl)) ?_
    refine w_iconst (by decide) (tX11_text_0_ok (15, .iconst 1, 1) (List.mem_of_getElem? (i := 9) rfl)) (fun uv26 ue27 => ?_)
    refine w_icmp_ne (tgt := 27) (tX11_text_0_ok (16, .if_icmp .ne 11, 3) (List.mem_of_getElem? (i := 10) rfl)) rfl (fun ub28 => ?_) (fun ub28 => ?_)
    · refine w_aload_n (List.Mem.head _) (tX11_text_0_ok (27, .aload_n 0, 1) (List.mem_of_getElem? (i := 15) rfl)) ?_
      refine w_iload_n (List.Mem.tail _ (List.Mem.head _)) (tX11_text_0_ok (28, .iload_n 1, 1) (List.mem_of_getElem? (i := 16) rfl)) ?_
      refine w_callV (own := 16) (mi := 182) [.int so] [] [(0, .ref m), (1, .int so)] rfl (cllw_X11 (246, 0, 182) (List.mem_of_getElem? (i := 32) rfl)) rfl rfl uc4 rfl (by omega) (w_lo (n := 21) rfl (by omega)) (Nat.le_of_ble_eq_true rfl) (Nat.le_of_ble_eq_true rfl) rfl (tX11_text_0_ok (29, .invokevirtual 246, 3) (List.mem_of_getElem? (i := 17) rfl)) (r_fault0V hT hX (by omega) (by omega) (w_sub (n := 21) rfl (by omega)) hnz hs hb uc4 ul7 uf10 uf11 uf12 uf13 uf14 uf15 n_tx_m n_le_m n_ro_m n_ro_tx n_ro_le uc16 uc17 uc18 hTD (fun uh29 ufs30 uat31 ufl32 urda33 ubga34 uRa35 up36 ue37 ue38 ue39 ue40 ue41 ueV ue42 uzz43 uk44 uo45 => ?_))
      have uc46 := up36.1.1.1.1
      have ul47 := up36.1.1.1.2.1
      have uc48 := up36.2.2.2.2.2.2.2.2.1
      have uf49 := (uk44 1 (by decide)).trans uf10
      have uf50 := (uk44 6 (by decide)).trans uf12
      have uf51 := (uk44 19 (by decide)).trans uf14
      show ww l D tys A X fr lo mX11_text Q 32 [(0, .ref m), (1, .int so), (2, .long seed)] [.int ufl32] uh29
      refine w_iconst (by decide) (tX11_text_0_ok (32, .iconst (-1), 1) (List.mem_of_getElem? (i := 18) rfl)) (fun uv52 ue53 => ?_)
      refine w_icmp_eq (tgt := 38) (tX11_text_0_ok (33, .if_icmp .eq 5, 3) (List.mem_of_getElem? (i := 19) rfl)) rfl (fun ub54 => ?_) (fun ub54 => ?_)
      · refine w_iload_n (List.Mem.tail _ (List.Mem.head _)) (tX11_text_0_ok (38, .iload_n 1, 1) (List.mem_of_getElem? (i := 22) rfl)) ?_
        refine w_iconst (by decide) (tX11_text_0_ok (39, .iconst 1, 1) (List.mem_of_getElem? (i := 23) rfl)) (fun uv55 ue56 => ?_)
        refine w_icmp_ne (tgt := 119) (tX11_text_0_ok (40, .if_icmp .ne 79, 3) (List.mem_of_getElem? (i := 24) rfl)) rfl (fun ub57 => ?_) (fun ub57 => ?_)
        · refine w_aload_n (List.Mem.head _) (tX11_text_1_ok (119, .aload_n 0, 1) (List.mem_of_getElem? (i := 7) rfl)) ?_
          refine w_iconst (by decide) (tX11_text_1_ok (120, .iconst 0, 1) (List.mem_of_getElem? (i := 8) rfl)) (fun uv58 ue59 => ?_)
          refine w_putF (own := 16) (ci := 10) (k := 6) rfl rfl (by decide) rfl ⟨rfl, rfl⟩ uc46 (by rw [ul47]; decide) (tX11_text_1_ok (121, .putfield 99, 3) (List.mem_of_getElem? (i := 9) rfl)) (fun uh60 ufs63 ul64 uk65 uj66 uc61 uo62 => ?_)
          rw [ul47] at ul64
          have uf67 := (uj66 21 (by decide)).trans ue38
          have uf68 := (uj66 1 (by decide)).trans uf49
          have uf69 := (uj66 19 (by decide)).trans uf51
          have uc70 := (uo62 ro n_ro_m).trans uc48
          refine w_aload_n (List.Mem.head _) (tX11_text_1_ok (124, .aload_n 0, 1) (List.mem_of_getElem? (i := 10) rfl)) ?_
          refine w_aload_n (List.Mem.head _) (tX11_text_1_ok (125, .aload_n 0, 1) (List.mem_of_getElem? (i := 11) rfl)) ?_
          refine w_get (own := 16) rfl rfl (by decide) uc61 uf67 (tX11_text_1_ok (126, .getfield 231, 3) (List.mem_of_getElem? (i := 12) rfl)) ?_
          refine w_putF (own := 16) (ci := 10) (k := 20) rfl rfl (by decide) rfl ⟨rfl, rfl⟩ uc61 (by rw [ul64]; decide) (tX11_text_1_ok (129, .putfield 248, 3) (List.mem_of_getElem? (i := 13) rfl)) (fun uh71 ufs74 ul75 uk76 uj77 uc72 uo73 => ?_)
          rw [ul64] at ul75
          have uf78 := (uj77 6 (by decide)).trans uk65
          have uf79 := (uj77 21 (by decide)).trans uf67
          have uf80 := (uj77 1 (by decide)).trans uf68
          have uf81 := (uj77 19 (by decide)).trans uf69
          have uc82 := (uo73 ro n_ro_m).trans uc70
          refine w_iconst (by decide) (tX11_text_1_ok (132, .iconst 0, 1) (List.mem_of_getElem? (i := 14) rfl)) (fun uv83 ue84 => ?_)
          refine w_istore [(4, .int uv83), (0, .ref m), (1, .int so), (2, .long seed)] rfl (Nat.le_of_ble_eq_true rfl) (tX11_text_1_ok (133, .istore 4, 2) (List.mem_of_getElem? (i := 15) rfl)) ?_
          obtain ⟨q9, q8, q7⟩ := sp_is.inr ue40 (by omega)
          refine w_lv [(4, .int uv83), (0, .ref m), (1, .int so), (2, .long seed)] (by intro q hq; simp only [List.mem_cons, List.not_mem_nil, or_false] at hq ⊢; rcases hq with e | e | e | e <;> subst e <;> simp) ?_
          refine r_t0L hT (h0 := uh71) n_m_ro uf81 (fun ug85 uka86 uRb87 uq88 uq89 uq90 uq91 uq92 => ?_) 54 _ _ uRa35 (by omega) (by omega) uc72 uc82 (fun i hi => by omega) (fun _ _ => rfl) (fun _ _ => rfl)
          refine hqS ug85 ufs74 uRa35 uRb87 uka86 urda33 uq88 ul75 uq89 uq90 uq91 ⟨(uzz43.elim fun y0 z0 => ⟨y0, ((uj77 0 (by decide)).trans ((uj66 0 (by decide)).trans (z0)))⟩), ⟨⟨_, ((uj77 5 (by decide)).trans ((uj66 5 (by decide)).trans (up36.1.1.1.2.2.1)))⟩, ⟨_, ((uj77 8 (by decide)).trans ((uj66 8 (by decide)).trans (up36.1.1.1.2.2.2.1)))⟩, ⟨_, ((uj77 9 (by decide)).trans ((uj66 9 (by decide)).trans (up36.1.1.1.2.2.2.2.1)))⟩, ⟨_, ((uj77 10 (by decide)).trans ((uj66 10 (by decide)).trans (up36.1.1.1.2.2.2.2.2.1)))⟩, ⟨_, ((uj77 11 (by decide)).trans ((uj66 11 (by decide)).trans (up36.1.1.1.2.2.2.2.2.2)))⟩, ⟨_, ((uj77 12 (by decide)).trans ((uj66 12 (by decide)).trans (up36.1.1.2.1)))⟩⟩⟩ ⟨_, uf78, by omega⟩ uk76 uf79 ue39 up36.2.2.2.2.2.2.2.2.2 (ue41 (by omega)).2 ⟨q9, q8⟩ (ue41 (by omega)).1 (ueV (by omega)) (fun j hj => (uj77 j hj.2.2.2.2.2.2.2.2.1).trans ((uj66 j hj.2.2.1).trans ((uk44 j ⟨hj.1, hj.2.1, hj.2.2.2.1, hj.2.2.2.2.1, hj.2.2.2.2.2.1, hj.2.2.2.2.2.2.1, hj.2.2.2.2.2.2.2.1, hj.2.2.2.2.2.2.2.2.2⟩).trans (uj9 j hj.1)))) (fun q hq => (uq92 q hq.2).trans ((uo73 q hq.1).trans ((uo62 q hq.1).trans ((uo45 q ⟨hq.1, hq.2⟩).trans (uo5 q hq.1)))))
        · exfalso; omega
      · refine w_iconst (by decide) (tX11_text_0_ok (36, .iconst (-1), 1) (List.mem_of_getElem? (i := 20) rfl)) (fun uv93 ue94 => ?_)
        refine w_iret rfl (tX11_text_0_ok (37, .ireturn, 1) (List.mem_of_getElem? (i := 21) rfl)) ?_
        obtain ⟨q9, q8, q7⟩ := sp_is.inl ue40 (by omega)
        exact hqF uh29 ufs30 uRa35 urda33 uv93 _ _ _ up36 uzz43 ue38 ue39 ue42 uf50 ((uk44 20 (by decide)).trans (uj9 20 (by decide))) ⟨q9, q8⟩ (by omega) (fun j hj => (uk44 j ⟨hj.1, hj.2.1, hj.2.2.2.1, hj.2.2.2.2.1, hj.2.2.2.2.2.1, hj.2.2.2.2.2.2.1, hj.2.2.2.2.2.2.2.1, hj.2.2.2.2.2.2.2.2.2⟩).trans (uj9 j hj.1)) (fun q hq => (uo45 q ⟨hq.1, hq.2⟩).trans (uo5 q hq.1))
    · exfalso; omega
end
section
variable {l : Launch} {D : va_G} {tys : List (ClassId × FieldType)} {A : Nat → Prop} {X : State → Prop} {cA : Nat → ClassId} {Sg : Nat → Option Nat} {h : ch_H} {m n : Nat} {ρ : aRw} {σ : aS} {aK aV : Nat → Nat}
theorem x_feed (hT : k_tys tys cA) {wa wb wc wd we : Int32} (hH : k_H Sg cA Lb h) (sm : sgM Sg m) (hR : aR cA h m σ) (H : rR cA h m n ρ) : tt l D tys A X 1 30 0 0 mX11_feed (fun _ g => rR cA g m n ρ ∧ True) 0 (lv_args 0 [.ref m, .int wa, .int wb, .int wc, .int wd, .int we]) [] h 0 0 := by
  obtain ⟨fs, tx, g, len, rc, c_m, f1, f6, f7, c_t, hsb, e1, e2⟩ := hR
  obtain ⟨L, le, ro, te, tl, dp, rd, gl, R, gt, gz, sL, hro, fl, l0, l1, s_tx, -⟩ := T_M hH sm.1 c_m f1 f6
  obtain ⟨hL, hL5⟩ := m_ge hro
  have hn : len.toInt.toNat = σ.2.1 := by omega
  have nxm : tx ≠ m := k_sg_ne s_tx sL (by omega)
  show ww l D tys A X 1 30 mX11_feed _ 0 [(0, .ref m), (1, .int wa), (2, .int wb), (3, .int wc), (4, .int wd), (5, .int we)] [] h
  refine r_feed hT (by decide) (by decide) (f := σ.1) (by rw [hn]; exact hsb) ⟨c_m, fl, f1, f6, nxm, nxm.symm, c_t, l0, l1⟩ (fun h1 fs1 g1 len1 v H1 hh hz hj o => ⟨?_, trivial⟩)
  refine H.gen hH sm.1 (fun fs9 c9 => ?_) (fun a ha => o a ?_)
  · rw [c_m] at c9
    cases c9
    exact ⟨fs1, H1.1, hj 19 (by decide)⟩
  · rcases ha with ha | ha
    · exact ⟨k_sg_ne ha sL (by omega), k_sg_ne ha s_tx (by decide)⟩
    · exact ⟨k_sg_ne ha sL (by omega), k_sg_ne ha s_tx (by decide)⟩
theorem x_end {n9 : Int32} (hH : k_H Sg cA Lb h) (sm : sgM Sg m) (hR : aR cA h m σ) (H : rR cA h m n ρ) : tt l D tys A X 1 30 0 0 mX11_end (fun _ g => rR cA g m n ρ ∧ True) 0 (lv_args 0 [.ref m, .int n9]) [] h 0 0 := by
  obtain ⟨fs, tx, g, len, rc, c_m, f1, f6, f7, c_t, hsb, e1, e2⟩ := hR
  obtain ⟨L, le, ro, te, tl, dp, rd, gl, R, gt, gz, sL, hro, fl, l0, l1, s_tx, -⟩ := T_M hH sm.1 c_m f1 f6
  obtain ⟨hL, hL5⟩ := m_ge hro
  have nxm : tx ≠ m := k_sg_ne s_tx sL (by omega)
  show ww l D tys A X 1 30 mX11_end _ 0 [(0, .ref m), (1, .int n9)] [] h
  refine r_end ⟨c_m, fl, f1, f6, nxm, nxm.symm, c_t, l0, l1⟩ (fun h1 fs1 len1 v H1 hh hz hj o => ⟨?_, trivial⟩)
  refine H.gen hH sm.1 (fun fs9 c9 => ?_) (fun a ha => o a ?_)
  · rw [c_m] at c9
    cases c9
    exact ⟨fs1, H1.1, hj 19 (by decide)⟩
  · rcases ha with ha | ha
    · exact ⟨k_sg_ne ha sL (by omega), k_sg_ne ha s_tx (by decide)⟩
    · exact ⟨k_sg_ne ha sL (by omega), k_sg_ne ha s_tx (by decide)⟩
theorem x_fault (hT : k_tys tys cA) (hX : ∀ s, X s → xs A aK aV s) {so : Int32} (hH : k_H Sg cA Lb h) (sm : sgM Sg m) (hR : aR cA h m σ) (H : rR cA h m n ρ) : tt l D tys A X 40 1120 0 0 mX11_fault (fun _ g => rR cA g m n ρ ∧ True) 0 (lv_args 0 [.ref m, .int so]) [] h 0 0 := by
  obtain ⟨fs, tx, g, len, rc, c_m, f1, f6, f7, c_t, hsb, e1, e2⟩ := hR
  obtain ⟨L, le, ro, te, tl, dp, rd, gl, R, gt, gz, sL, hro, fl, l0, l1, s_tx, s_te, s_tl, s_le, f2, f3, f4, f12, f19, f21, c_le, c_ro, hTD, -⟩ := T_M hH sm.1 c_m f1 f6
  obtain ⟨hL, hL5⟩ := m_ge hro
  obtain ⟨Mr, s_ro, hr5, hr1, hr2, hr3, hr4, hr6⟩ := ro_ge hro
  have hn : len.toInt.toNat = σ.2.1 := by omega
  show ww l D tys A X 40 1120 mX11_fault _ 0 [(0, .ref m), (1, .int so)] [] h
  have hnz : ∀ i, i < len.toInt.toNat → 1 ≤ (σ.1 i).toInt := by rw [hn]; exact hsb.2.1
  have hs : sb g σ.1 0 len.toInt.toNat := by rw [hn]; exact hsb.1
  by_cases c0 : so.toInt = 0
  · refine r_fault0 hT hX c0 (by decide) (by decide) hnz hs ⟨l0, l1, l1⟩ c_m fl f1 f4 f6 f12 f19 f21 (k_sg_ne s_tx sL (by omega)) (k_sg_ne s_le sL (by omega)) (k_sg_ne s_ro sL hr1) (k_sg_ne s_ro s_tx hr2) (k_sg_ne s_ro s_le hr6) c_t c_le c_ro hTD (fun h1 fs1 at1 fl1 rd1 bg1 R1 p e0 e21 erd es _ hlo hz hj o => ⟨?_, trivial⟩)
    obtain ⟨wf, fs9, ro9, R9, c9, f9, c8, e⟩ := H
    rw [c_m] at c9
    cases c9
    rw [f19] at f9
    cases f9
    rw [c_ro] at c8
    cases c8
    have h6 := wf.1
    exact ⟨wf, fs1, ro, R1, p.1.1.1.1, (hj 19 (by decide)).trans f19, p.2.2.2.2.2.2.2.2.1, fun q hq w hw => by rw [hlo (9 * q + w) (by omega)]; exact e q hq w hw⟩
  · by_cases c1 : so.toInt = 1
    · refine r_fault1 hT hX c1 (by decide) (by decide) hnz hs ⟨l0, l1, l1⟩ c_m fl f1 f4 f6 f12 f19 f21 (k_sg_ne s_tx sL (by omega)) (k_sg_ne s_le sL (by omega)) (k_sg_ne s_ro sL hr1) (k_sg_ne s_ro s_tx hr2) (k_sg_ne s_ro s_le hr6) c_t c_le c_ro hTD (fun h1 fs1 at1 fl1 dp1 bg1 p _ es _ hz hj o => ⟨?_, trivial⟩)
      refine H.gen hH sm.1 (fun fs9 c9 => ?_) (fun a ha => o a ?_)
      · rw [c_m] at c9
        cases c9
        exact ⟨fs1, p.1.1.1.1, hj 19 (by decide)⟩
      · rcases ha with ha | ha
        · exact k_sg_ne ha sL (by omega)
        · exact k_sg_ne ha sL (by omega)
    · refine r_fault2 ⟨c0, c1⟩ (by decide) (by decide) c_m fl f1 f4 f6 f12 f19 f21 (fun h1 fs1 v c_m1 k1 hv hz hj o => ⟨?_, trivial⟩)
      refine H.gen hH sm.1 (fun fs9 c9 => ?_) (fun a ha => o a ?_)
      · rw [c_m] at c9
        cases c9
        exact ⟨fs1, c_m1, hj 19 (by decide)⟩
      · rcases ha with ha | ha
        · exact k_sg_ne ha sL (by omega)
        · exact k_sg_ne ha sL (by omega)
theorem x_text (hT : k_tys tys cA) (hX : ∀ s, X s → xs A aK aV s) {so : Int32} {seed : Int64} {τ : aN} (hH : k_H Sg cA Lb h) (sm : sgM Sg m) (hR : aR cA h m σ) (H : rR cA h m τ.1 ρ) : tt l D tys A X 60 2000 0 0 mX11_text (fun _ g => rR cA g m (n_text so σ τ).1 (r_text so σ ρ) ∧ True) 0 (lv_args 0 [.ref m, .int so, .long seed]) [] h 0 0 := by
  obtain ⟨fs, tx, g, len, rc, c_m, f1, f6, f7, c_t, hsb, e1, e2⟩ := hR
  obtain ⟨L, le, ro, te, tl, dp, rd, gl, R, gt, gz, sL, hro, fl, l0, l1, s_tx, s_te, s_tl, s_le, f2, f3, f4, f12, f19, f21, c_le, c_ro, hTD, c_te, b_te, c_tl, b_tl, hrc, hints, h18⟩ := T_M hH sm.1 c_m f1 f6
  obtain ⟨hL, hL5⟩ := m_ge hro
  obtain ⟨Mr, s_ro, hr5, hr1, hr2, hr3, hr4, hr6⟩ := ro_ge hro
  have hrc := hrc rc f7
  have hn : len.toInt.toNat = σ.2.1 := by omega
  have hnz : ∀ i, i < len.toInt.toNat → 1 ≤ (σ.1 i).toInt := by rw [hn]; exact hsb.2.1
  have hs : sb g σ.1 0 len.toInt.toNat := by rw [hn]; exact hsb.1
  have n_ro_m : ro ≠ m := k_sg_ne s_ro sL hr1
  have n_tx_m : tx ≠ m := k_sg_ne s_tx sL (by omega)
  have n_ro_tx : ro ≠ tx := k_sg_ne s_ro s_tx hr2
  show ww l D tys A X 60 2000 mX11_text _ 0 [(0, .ref m), (1, .int so), (2, .long seed)] [] h
  by_cases c0 : so.toInt = 0
  · refine r_text0V hT hX c0 (by decide) (by decide) hnz hs ⟨l0, l1, l1⟩ c_m fl f1 f4 f6 f12 f19 f21 n_tx_m (k_sg_ne s_le sL (by omega)) n_ro_m n_ro_tx (k_sg_ne s_ro s_le hr6) c_t c_le c_ro hTD (fun h1 fs1 R1 rd1 v _ _ _ p hz e21 erd hlo f61 h20 hbad hvm hj o => ⟨?_, trivial⟩) (fun h1 fs1 R1 R2 k1 rd1 c_m1 k1l c_ro1 hR2 hR3 hints1 f61 f20 f211 erd hTD1 h62 hgood hvS htv hj o => ?_)
    · obtain ⟨e9, he⟩ := hbad
      rw [hn] at he
      rw [n_text_neg (fun q => by have q2 := q.2; rw [he] at q2; cases q2), r_text_neg (fun q => by have q2 := q.2; rw [he] at q2; cases q2)]
      obtain ⟨wf, fs9, ro9, R9, c9, f9, c8, e⟩ := H
      rw [c_m] at c9
      cases c9
      rw [f19] at f9
      cases f9
      rw [c_ro] at c8
      cases c8
      have h6 := wf.1
      exact ⟨wf, fs1, ro, R1, p.1.1.1.1, (hj 19 (by decide)).trans f19, p.2.2.2.2.2.2.2.2.1, fun q hq w hw => by rw [hlo (9 * q + w) (by omega)]; exact e q hq w hw⟩
    · obtain ⟨e9, he⟩ := hgood
      rw [hn] at he htv
      obtain ⟨⟨y0, z0⟩, ⟨y5, z5⟩, ⟨y8, z8⟩, ⟨y9, z9⟩, ⟨y10, z10⟩, ⟨y11, z11⟩, y12, z12⟩ := hints1
      obtain ⟨y6, z6, e6⟩ := f61
      have hH2 : k_H (sg2 Sg m ro) cA Lb h1 := by
        refine T_rel hH sm sL hro c_m1 c_ro1 o (mod50 hH sL hro n_ro_m c_m ((hj 19 (by decide)).trans f19) k1l (fun k k19 => ?_)) ?_
        · by_cases k0 : k = 0
          · subst k0; exact Or.inr ⟨_, z0, fw_int rfl (Int32.minValue_le_toInt _) (Int32.toInt_le _)⟩
          by_cases k5 : k = 5
          · subst k5; exact Or.inr ⟨_, z5, fw_any rfl _⟩
          by_cases k6 : k = 6
          · subst k6; exact Or.inr ⟨_, z6, fw_int rfl (by omega) (by omega)⟩
          by_cases k8 : k = 8
          · subst k8; exact Or.inr ⟨_, z8, fw_int rfl (Int32.minValue_le_toInt _) (Int32.toInt_le _)⟩
          by_cases k9 : k = 9
          · subst k9; exact Or.inr ⟨_, z9, fw_int rfl (Int32.minValue_le_toInt _) (Int32.toInt_le _)⟩
          by_cases k10 : k = 10
          · subst k10; exact Or.inr ⟨_, z10, fw_int rfl (Int32.minValue_le_toInt _) (Int32.toInt_le _)⟩
          by_cases k11 : k = 11
          · subst k11; exact Or.inr ⟨_, z11, fw_int rfl (Int32.minValue_le_toInt _) (Int32.toInt_le _)⟩
          by_cases k12 : k = 12
          · subst k12; exact Or.inr ⟨_, z12, fw_int rfl (Int32.minValue_le_toInt _) (Int32.toInt_le _)⟩
          by_cases k20 : k = 20
          · subst k20; exact Or.inr ⟨_, f20, fw_int rfl erd.1 erd.2⟩
          by_cases k21 : k = 21
          · subst k21; exact Or.inr ⟨_, f211, fw_int rfl erd.1 erd.2⟩
          exact Or.inl (hj k ⟨k0, k5, k6, k8, k9, k10, k11, k12, k20, k21⟩)
        · refine Or.inr (Or.inl ⟨rfl, R2, rfl, fun i hi => ?_⟩)
          have hi : i < 108 := hi
          by_cases c : i < 54
          · obtain ⟨p, w, hp, hw, rfl⟩ : ∃ p w, p < 6 ∧ w < 9 ∧ i = 9 * p + w := ⟨i / 9, i % 9, by omega, by omega, by omega⟩
            have ht := hTD1 p hp w hw
            have he := el55_62 p hp w hw
            rw [hR2 _ c, show 54 + (9 * p + w) = 54 + 9 * p + w by omega]
            refine ⟨by rw [he.1]; exact ht.1, ?_⟩
            rcases he.2 with q | ⟨rfl, rfl, q⟩
            · rw [q]; exact ht.2
            · rw [q]
              have h62b : (R1 (54 + 9 * 0 + 8)).toInt = -1 := h62
              omega
          · obtain ⟨p, w, hp, hw, rfl⟩ : ∃ p w, p < 6 ∧ w < 9 ∧ i = 54 + 9 * p + w := ⟨(i - 54) / 9, (i - 54) % 9, by omega, by omega, by omega⟩
            rw [hR3 _ (by omega), td_b p hp w hw]
            exact hTD1 p hp w hw
      have s2m : sg2 Sg m ro m = some 50 := if_pos rfl
      have s2r : sg2 Sg m ro ro = some 55 := by unfold sg2; rw [if_neg n_ro_m, if_pos rfl]
      obtain ⟨fs2, c2, -, ty⟩ := hH2.obj s2m (L := 50) rfl
      rw [c_m1] at c2
      cases c2
      obtain ⟨v22, q22, t22⟩ := ty 22 _ rfl
      obtain ⟨to, rfl, s_to⟩ := k_v.ref t22
      obtain ⟨v26, q26, t26⟩ := ty 26 _ rfl
      obtain ⟨wa, rfl, s_wa⟩ := k_v.ref t26
      obtain ⟨v27, q27, t27⟩ := ty 27 _ rfl
      obtain ⟨se, rfl, s_se⟩ := k_v.ref t27
      obtain ⟨v31, q31, t31⟩ := ty 31 _ rfl
      obtain ⟨be, rfl, s_be⟩ := k_v.ref t31
      refine w_aload_n (List.Mem.tail _ (List.Mem.head _)) (tX11_text_1_ok (165, .aload_n 0, 1) (List.mem_of_getElem? (i := 31) rfl)) ?_
      refine w_lload_n (List.Mem.tail _ (List.Mem.tail _ (List.Mem.tail _ (List.Mem.head _)))) (tX11_text_1_ok (166, .lload_n 2, 1) (List.mem_of_getElem? (i := 32) rfl)) ?_
      refine w_callV (own := 16) (mi := 164) [.long seed] [] [(0, .ref m), (1, .long seed)] rfl (cllw_X11 (251, 0, 164) (List.mem_of_getElem? (i := 33) rfl)) rfl rfl c_m1 rfl (by decide) (w_lo (n := 23) rfl (by decide)) (Nat.le_of_ble_eq_true rfl) (Nat.le_of_ble_eq_true rfl) rfl (tX11_text_1_ok (167, .invokevirtual 251, 3) (List.mem_of_getElem? (i := 33) rfl)) (h_beginN hT s2m s2r s_to s_wa s_se s_be k1l ((hj 19 (by decide)).trans f19) f20 q22 q26 q27 q31 erd (by decide) (Nat.le_of_ble_eq_true rfl) hH2 c_m1 (fun g5 fs5 w0 w1 w2 hH5 u5 c5 d32 d33 d34 i0 i1 i2 => ?_))
      show ww l D tys A X 60 2000 mX11_text _ 170 [(4, .int k1), (0, .ref m), (1, .int so), (2, .long seed)] [] g5
      obtain ⟨fs6, c6, k5⟩ := (u5 m 50 s2m).1 _ _ c_m1
      rw [c5] at c6
      cases c6
      have f205 := (k5 20 (by decide)).trans f20
      refine w_aload_n (List.Mem.tail _ (List.Mem.head _)) (tX11_text_1_ok (170, .aload_n 0, 1) (List.mem_of_getElem? (i := 34) rfl)) ?_
      refine w_get (own := 16) rfl rfl (by decide) c5 f205 (tX11_text_1_ok (171, .getfield 248, 3) (List.mem_of_getElem? (i := 35) rfl)) ?_
      refine w_iret rfl (tX11_text_1_ok (174, .ireturn, 1) (List.mem_of_getElem? (i := 36) rfl)) ?_
      refine ⟨?_, trivial⟩
      rw [n_text_pos c0 (by rw [he]; rfl), r_text_pos c0 (by rw [he]; rfl)]
      have w6 := (wfR_town he).1
      exact ⟨wfR_town he, fs5, ro, R2, c5, (k5 19 (by decide)).trans ((hj 19 (by decide)).trans f19), (k_U.same hH2 u5 s2r (by decide)).trans c_ro1, fun q hq w hw => by
        have hq : q < (sp_town σ.1 σ.2.1).2 := hq
        have w6 : (sp_town σ.1 σ.2.1).2 ≤ 6 := w6
        rw [hR2 (9 * q + w) (by omega), show 54 + (9 * q + w) = 54 + 9 * q + w by omega]
        exact htv q hq w hw⟩
  · by_cases c1 : so.toInt = 1
    · refine r_text1 hT hX c1 (by decide) (by decide) ⟨n_tx_m, k_sg_ne s_te sL (by omega), k_sg_ne s_tl sL (by omega), k_sg_ne s_te s_tx (by decide), k_sg_ne s_tl s_tx (by decide), k_sg_ne s_tl s_te (by decide)⟩ (k_sg_ne s_le sL (by omega)) n_ro_m n_ro_tx (k_sg_ne s_ro s_le hr6) hnz hs ⟨l0, l1, l1⟩ c_m fl f1 f4 f6 f12 f19 f21 c_t c_le c_ro hTD f2 f3 f7 hrc c_te c_tl b_te b_tl ⟨⟨_, List.getElem?_eq_getElem (by rw [fl]; decide)⟩, hints, h18⟩ (fun h1 fs1 gt1 gz1 v c_m1 k1 ft1 hh c_te1 b_te1 c_tl1 b_tl1 hz hj o => ⟨?_, trivial⟩)
      rw [n_text_neg (fun q => c0 q.1), r_text_neg (fun q => c0 q.1)]
      refine H.gen hH sm.1 (fun fs9 c9 => ?_) (fun a ha => o a ?_)
      · rw [c_m] at c9
        cases c9
        exact ⟨fs1, c_m1, hj 19 (by decide)⟩
      · rcases ha with ha | ha
        · exact ⟨k_sg_ne ha sL (by omega), k_sg_ne ha s_te (by decide), k_sg_ne ha s_tl (by decide)⟩
        · exact ⟨k_sg_ne ha sL (by omega), k_sg_ne ha s_te (by decide), k_sg_ne ha s_tl (by decide)⟩
    · refine r_text2 ⟨c0, c1⟩ (by decide) (by decide) c_m fl (fun h1 fs1 v c_m1 k1 hv2 hz hj o => ⟨?_, trivial⟩)
      rw [n_text_neg (fun q => c0 q.1), r_text_neg (fun q => c0 q.1)]
      refine H.gen hH sm.1 (fun fs9 c9 => ?_) (fun a ha => o a ?_)
      · rw [c_m] at c9
        cases c9
        exact ⟨fs1, c_m1, hj 19 (by decide)⟩
      · rcases ha with ha | ha
        · exact k_sg_ne ha sL (by omega)
        · exact k_sg_ne ha sL (by omega)
end
