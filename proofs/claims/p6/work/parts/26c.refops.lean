/-! what feed, end, fault, text of a RULE do to the TAPE: the reference -/
theorem td_b0 : ∀ r, r < 6 → ∀ w, w < 9 → k_el (Lb 69) (54 + 9 * r + w) = (0, td_l w, td_h r w) := by decide +kernel
section
variable {l : Launch} {D : va_G} {tys : List (ClassId × FieldType)} {A : Nat → Prop} {X : State → Prop} {cA : Nat → ClassId} {x m : Nat} {Sg : Nat → Option Nat} {h h1 : ch_H} {aK aV : Nat → Nat}
/-- the reference's object and what it refers to, as far as reading goes -/
theorem T_M {fs : List Value} {tx : Nat} {len : Int32} (hH : k_H Sg cA Lb h) (sm : sgM0 Sg m) (c_m : h m = some (.inr (10, fs))) (f1 : fs[1]? = some (.ref tx)) (f6 : fs[6]? = some (.int len)) : ∃ (L le ro te tl : Nat) (dp rd : Int32) (gl R gt gz : Nat → Int32), Sg m = some L ∧ (L = 50 ∧ Sg ro = some 55 ∨ L = 70 ∧ Sg ro = some 69) ∧ fs.length = 47 ∧ 0 ≤ len.toInt ∧ len.toInt ≤ 160 ∧ Sg tx = some 51 ∧ Sg te = some 52 ∧ Sg tl = some 53 ∧ Sg le = some 54 ∧ fs[2]? = some (.ref te) ∧ fs[3]? = some (.ref tl) ∧ fs[4]? = some (.ref le) ∧ fs[12]? = some (.int dp) ∧ fs[19]? = some (.ref ro) ∧ fs[21]? = some (.int rd) ∧ h le = some (.inl (cA 0, 128, .inl gl)) ∧ h ro = some (.inl (cA 0, 108, .inl R)) ∧ TD R ∧ h te = some (.inl (cA 2, 640, .inl gt)) ∧ (∀ i, i < 640 → -128 ≤ (gt i).toInt ∧ (gt i).toInt ≤ 127) ∧ h tl = some (.inl (cA 0, 4, .inl gz)) ∧ (∀ i, i < 4 → 0 ≤ (gz i).toInt ∧ (gz i).toInt ≤ 160) ∧ (∀ rc : Int32, fs[7]? = some (.int rc) → 0 ≤ rc.toInt ∧ rc.toInt ≤ 4) ∧ ((∀ k, 8 ≤ k ∧ k ≤ 14 → ∃ x : Int32, fs[k]? = some (.int x)) ∧ ∃ x : Int32, fs[18]? = some (.int x) ∧ 0 ≤ x.toInt ∧ x.toInt ≤ 1) := by
  have st := aR.sg hH sm c_m f1
  have go : ∀ (L Lr : Nat) (ts : List k_T), Sg m = some L → Lb L = (0, 10, 47, ts) → (L = 50 ∧ Lr = 55 ∨ L = 70 ∧ Lr = 69) → ts[2]? = some (2, 52, 0) → ts[3]? = some (2, 53, 0) → ts[4]? = some (2, 54, 0) → ts[6]? = some (0, 0, 160) → ts[7]? = some (0, 0, 4) → ts[12]? = some (0, -2147483648, 2147483647) → ts[19]? = some (2, (Lr : Int), 0) → ts[21]? = some (0, 0, 6) → (∀ k, 8 ≤ k ∧ k ≤ 14 → ts[k]? = some (0, -2147483648, 2147483647)) → ts[18]? = some (0, 0, 1) → (∀ R : Nat → Int32, (∀ i, i < 108 → (k_el (Lb Lr) i).2.1 ≤ (R i).toInt ∧ (R i).toInt ≤ (k_el (Lb Lr) i).2.2) → TD R) → (Lb Lr).1 = 1 ∧ (Lb Lr).2.1 = 0 ∧ (Lb Lr).2.2.1 = 108 → ∃ (L le ro te tl : Nat) (dp rd : Int32) (gl R gt gz : Nat → Int32), Sg m = some L ∧ (L = 50 ∧ Sg ro = some 55 ∨ L = 70 ∧ Sg ro = some 69) ∧ fs.length = 47 ∧ 0 ≤ len.toInt ∧ len.toInt ≤ 160 ∧ Sg tx = some 51 ∧ Sg te = some 52 ∧ Sg tl = some 53 ∧ Sg le = some 54 ∧ fs[2]? = some (.ref te) ∧ fs[3]? = some (.ref tl) ∧ fs[4]? = some (.ref le) ∧ fs[12]? = some (.int dp) ∧ fs[19]? = some (.ref ro) ∧ fs[21]? = some (.int rd) ∧ h le = some (.inl (cA 0, 128, .inl gl)) ∧ h ro = some (.inl (cA 0, 108, .inl R)) ∧ TD R ∧ h te = some (.inl (cA 2, 640, .inl gt)) ∧ (∀ i, i < 640 → -128 ≤ (gt i).toInt ∧ (gt i).toInt ≤ 127) ∧ h tl = some (.inl (cA 0, 4, .inl gz)) ∧ (∀ i, i < 4 → 0 ≤ (gz i).toInt ∧ (gz i).toInt ≤ 160) ∧ (∀ rc : Int32, fs[7]? = some (.int rc) → 0 ≤ rc.toInt ∧ rc.toInt ≤ 4) ∧ ((∀ k, 8 ≤ k ∧ k ≤ 14 → ∃ x : Int32, fs[k]? = some (.int x)) ∧ ∃ x : Int32, fs[18]? = some (.int x) ∧ 0 ≤ x.toInt ∧ x.toInt ≤ 1) := by
    intro L Lr ts sL hL hLr t2 t3 t4 t6 t7 t12 t19 t21 t8 t18 hTD hk
    obtain ⟨fs2, c2, fl, ty⟩ := hH.obj sL hL
    rw [c_m] at c2
    cases c2
    obtain ⟨v2, q2, r2⟩ := ty 2 _ t2
    obtain ⟨te, rfl, s_te⟩ := k_v.ref r2
    obtain ⟨v3, q3, r3⟩ := ty 3 _ t3
    obtain ⟨tl, rfl, s_tl⟩ := k_v.ref r3
    obtain ⟨v4, q4, r4⟩ := ty 4 _ t4
    obtain ⟨le, rfl, s_le⟩ := k_v.ref r4
    obtain ⟨v6, q6, r6⟩ := ty 6 _ t6
    obtain ⟨y6, rfl, a6, b6⟩ := k_v.int r6
    rw [f6] at q6
    cases q6
    obtain ⟨v12, q12, r12⟩ := ty 12 _ t12
    obtain ⟨dp, rfl, -, -⟩ := k_v.int r12
    obtain ⟨v19, q19, r19⟩ := ty 19 _ t19
    obtain ⟨ro, rfl, s_ro⟩ := k_v.ref r19
    obtain ⟨v21, q21, r21⟩ := ty 21 _ t21
    obtain ⟨rd, rfl, -, -⟩ := k_v.int r21
    obtain ⟨gl, c_le, -⟩ := hH.arr s_le (L := 54) rfl
    obtain ⟨gt, c_te, b_te⟩ := hH.arr s_te (L := 52) rfl
    obtain ⟨gz, c_tl, b_tl⟩ := hH.arr s_tl (L := 53) rfl
    have s_ro : Sg ro = some Lr := s_ro
    obtain ⟨e, e1, e2⟩ := hH ro Lr s_ro
    obtain ⟨R, rfl, b_ro⟩ := k_cell1 hk.1 e2
    rw [hk.2.1, hk.2.2] at e1
    rw [hk.2.2] at b_ro
    obtain ⟨v18, q18, r18⟩ := ty 18 _ t18
    obtain ⟨y18, rfl, a18, b18⟩ := k_v.int r18
    refine ⟨L, le, ro, te, tl, dp, rd, gl, R, gt, gz, sL, ?_, fl, a6, b6, st, s_te, s_tl, s_le, q2, q3, q4, q12, q19, q21, c_le, e1, hTD R b_ro, c_te, b_te, c_tl, b_tl, fun rc h7 => ?_, fun k hk9 => ?_, y18, q18, a18, b18⟩
    · rcases hLr with ⟨z1, z2⟩ | ⟨z1, z2⟩
      · exact Or.inl ⟨z1, z2 ▸ s_ro⟩
      · exact Or.inr ⟨z1, z2 ▸ s_ro⟩
    · obtain ⟨v7, q7, r7⟩ := ty 7 _ t7
      obtain ⟨y7, rfl, a7, b7⟩ := k_v.int r7
      rw [h7] at q7
      cases q7
      exact ⟨a7, b7⟩
    · obtain ⟨v, q, r⟩ := ty k _ (t8 k hk9)
      obtain ⟨y, rfl, -, -⟩ := k_v.int r
      exact ⟨y, q⟩
  have h8 : ∀ (ts : List k_T), ts[8]? = some (0, -2147483648, 2147483647) → ts[9]? = some (0, -2147483648, 2147483647) → ts[10]? = some (0, -2147483648, 2147483647) → ts[11]? = some (0, -2147483648, 2147483647) → ts[12]? = some (0, -2147483648, 2147483647) → ts[13]? = some (0, -2147483648, 2147483647) → ts[14]? = some (0, -2147483648, 2147483647) → ∀ k, 8 ≤ k ∧ k ≤ 14 → ts[k]? = some (0, -2147483648, 2147483647) := by
    intro ts q8 q9 q10 q11 q12 q13 q14 k hk
    have : k = 8 ∨ k = 9 ∨ k = 10 ∨ k = 11 ∨ k = 12 ∨ k = 13 ∨ k = 14 := by omega
    rcases this with rfl | rfl | rfl | rfl | rfl | rfl | rfl <;> assumption
  rcases sm with sm | sm
  · exact go 50 55 _ sm rfl (Or.inl ⟨rfl, rfl⟩) rfl rfl rfl rfl rfl rfl rfl rfl (h8 _ rfl rfl rfl rfl rfl rfl rfl) rfl (fun R b r hr w hw => by have := b (54 + 9 * r + w) (by omega); rw [td_b r hr w hw] at this; exact this) ⟨rfl, rfl, rfl⟩
  · exact go 70 69 _ sm rfl (Or.inr ⟨rfl, rfl⟩) rfl rfl rfl rfl rfl rfl rfl rfl (h8 _ rfl rfl rfl rfl rfl rfl rfl) rfl (fun R b r hr w hw => by have := b (54 + 9 * r + w) (by omega); rw [td_b0 r hr w hw] at this; exact this) ⟨rfl, rfl, rfl⟩
/-- the reference's object, some fields changed -/
theorem mod_cell {L : Nat} {fs fs1 : List Value} (hL : L = 50 ∨ L = 70) (hH : k_H Sg cA Lb h) (sm : Sg m = some L) (c_m : h m = some (.inr (10, fs))) (l1 : fs1.length = 47) (ch : ∀ k : Nat, fs1[k]? = fs[k]? ∨ ∃ v, fs1[k]? = some v ∧ ∀ t, (Lb 50).2.2.2[k]? = some t ∨ (Lb 70).2.2.2[k]? = some t → k_v Sg v t) : k_cell Sg cA (Lb L) (.inr (10, fs1)) := by
  rcases hL with rfl | rfl
  · obtain ⟨fs2, c2, fl, ty⟩ := hH.obj sm (L := 50) rfl
    rw [c_m] at c2
    cases c2
    refine Or.inl ⟨rfl, fs1, rfl, l1, fun k t hk => ?_⟩
    rcases ch k with q | ⟨v, q, qt⟩
    · rw [q]
      exact ty k t hk
    · exact ⟨v, q, qt t (Or.inl hk)⟩
  · obtain ⟨fs2, c2, fl, ty⟩ := hH.obj sm (L := 70) rfl
    rw [c_m] at c2
    cases c2
    refine Or.inl ⟨rfl, fs1, rfl, l1, fun k t hk => ?_⟩
    rcases ch k with q | ⟨v, q, qt⟩
    · rw [q]
      exact ty k t hk
    · exact ⟨v, q, qt t (Or.inr hk)⟩
theorem fv_top {k : Nat} (hk : (Lb 50).2.2.2[k]? = some (0, -2147483648, 2147483647)) (hk0 : (Lb 70).2.2.2[k]? = some (0, -2147483648, 2147483647)) (y : Int32) : ∀ t, (Lb 50).2.2.2[k]? = some t ∨ (Lb 70).2.2.2[k]? = some t → k_v Sg (.int y) t := by
  intro t ht
  rw [hk, hk0] at ht
  rcases ht with e | e <;> cases e <;> exact k_v.top y
theorem fv_int {k : Nat} {lo9 hi9 : Int} (hk : (Lb 50).2.2.2[k]? = some (0, lo9, hi9)) (hk0 : (Lb 70).2.2.2[k]? = some (0, lo9, hi9)) {y : Int32} (h1 : lo9 ≤ y.toInt) (h2 : y.toInt ≤ hi9) : ∀ t, (Lb 50).2.2.2[k]? = some t ∨ (Lb 70).2.2.2[k]? = some t → k_v Sg (.int y) t := by
  intro t ht
  rw [hk, hk0] at ht
  rcases ht with e | e <;> cases e <;> exact ⟨y, rfl, h1, h2⟩
theorem fv_any {k : Nat} (hk : (Lb 50).2.2.2[k]? = some (8, 0, 0)) (hk0 : (Lb 70).2.2.2[k]? = some (8, 0, 0)) (v : Value) : ∀ t, (Lb 50).2.2.2[k]? = some t ∨ (Lb 70).2.2.2[k]? = some t → k_v Sg v t := by
  intro t ht
  rw [hk, hk0] at ht
  rcases ht with e | e <;> cases e <;> exact trivial
theorem lab_lt {a b L M : Nat} (ha : Sg a = some L) (hb : Sg b = some M) (hl : L < 50) (hm : 50 ≤ M) : a ≠ b := fun e => by
  rw [e, hb] at ha
  cases ha
  omega
theorem ro_ge {L ro : Nat} (hro : L = 50 ∧ Sg ro = some 55 ∨ L = 70 ∧ Sg ro = some 69) : ∃ M, Sg ro = some M ∧ 50 ≤ M ∧ M ≠ L ∧ M ≠ 51 ∧ M ≠ 52 ∧ M ≠ 53 ∧ M ≠ 54 := by
  rcases hro with ⟨rfl, q⟩ | ⟨rfl, q⟩
  · exact ⟨55, q, by decide, by decide, by decide, by decide, by decide, by decide⟩
  · exact ⟨69, q, by decide, by decide, by decide, by decide, by decide, by decide⟩
theorem m_ge {L ro : Nat} (hro : L = 50 ∧ Sg ro = some 55 ∨ L = 70 ∧ Sg ro = some 69) : (L = 50 ∨ L = 70) ∧ 50 ≤ L := by
  rcases hro with ⟨rfl, -⟩ | ⟨rfl, -⟩
  · exact ⟨Or.inl rfl, by decide⟩
  · exact ⟨Or.inr rfl, by decide⟩
theorem sgM0.of {L : Nat} (hL : L = 50 ∨ L = 70) (sm : Sg m = some L) : sgM0 Sg m := by
  rcases hL with rfl | rfl
  · exact Or.inl sm
  · exact Or.inr sm
theorem sg_nL {a b L M : Nat} (ha : Sg a = some L) (hb : Sg b = some M) (hne : L ≠ M) : a ≠ b := k_sg_ne ha hb hne
theorem sR_feed (hT : k_tys tys cA) {wa wb wc wd we : Int32} : sR l D tys A X cA 1 30 0 0 mX11_feed m [.int wa, .int wb, .int wc, .int wd, .int we] (o_feed wa wb wc wd we) (a_feed wa wb wc wd we) idN noN := by
  intro Sg h σ hH sm hR
  obtain ⟨fs, tx, g, len, rc, c_m, f1, f6, f7, c_t, hsb, e1, e2⟩ := hR
  obtain ⟨L, le, ro, te, tl, dp, rd, gl, R, gt, gz, sL, hro, fl, l0, l1, s_tx, -⟩ := T_M hH sm.1 c_m f1 f6
  obtain ⟨hL, hL5⟩ := m_ge hro
  have hn : len.toInt.toNat = σ.2.1 := by omega
  have nxm : tx ≠ m := k_sg_ne s_tx sL (by omega)
  show ww l D tys A X 1 30 mX11_feed _ 0 [(0, .ref m), (1, .int wa), (2, .int wb), (3, .int wc), (4, .int wd), (5, .int we)] [] h
  refine r_feed hT (by decide) (by decide) (f := σ.1) (by rw [hn]; exact hsb) ⟨c_m, fl, f1, f6, nxm, nxm.symm, c_t, l0, l1⟩ (fun h1 fs1 g1 len1 v H1 hh hz hj o => ?_)
  obtain ⟨c_m1, fl1, f11, f61, -, -, c_t1, l01, l11⟩ := H1
  have hS : sbn g1 (o_feed wa wb wc wd we σ).1 (o_feed wa wb wc wd we σ).2.1 ∧ len1.toInt = ((o_feed wa wb wc wd we σ).2.1 : Int) ∧ (o_feed wa wb wc wd we σ).2.2 = σ.2.2 := by
    unfold o_feed
    rcases hh with ⟨a1, -, rfl, rfl⟩ | ⟨a1, -, a3, a4⟩
    · rw [if_pos (by omega)]
      exact ⟨hsb, e1, rfl⟩
    · rw [if_neg (by omega)]
      rw [hn] at a3 a4
      rw [a4] at a3
      exact ⟨a3, by show len1.toInt = (((sp_feed wa wb wc wd we (σ.1, σ.2.1)).2 : Nat) : Int); omega, rfl⟩
  have hv : v.toInt = if 160 < (σ.2.1 : Int) + sp_need wa wb wc wd we then -1 else ((sp_feed wa wb wc wd we (σ.1, σ.2.1)).2 : Int) := by
    rcases hh with ⟨a1, a2, -, -⟩ | ⟨a1, a2, -, a4⟩
    · rw [if_pos (by omega)]
      exact a2
    · rw [if_neg (by omega)]
      rw [hn] at a4
      omega
  refine ⟨Sg, hH.upd (fun a L9 ha => ?_), sm, fun a L9 ha hl => ⟨ha, o a ⟨lab_lt ha sL hl hL5, lab_lt ha s_tx hl (by decide)⟩⟩, ⟨fs1, tx, g1, len1, rc, c_m1, f11, f61, (hj 7 (by decide)).trans f7, c_t1, hS.1, hS.2.1, by rw [hS.2.2]; exact e2⟩, nR_id (fun τ H => H.mod c_m c_m1 (hj 20 (by decide)) (hj 32 (by decide)) (hj 33 (by decide)) (hj 34 (by decide))), v, rfl, hv⟩
  by_cases q0 : a = m
  · subst q0
    rw [sL] at ha
    cases ha
    refine Or.inr ⟨_, c_m1, mod_cell hL hH sL c_m fl1 (fun k => ?_)⟩
    by_cases k0 : k = 0
    · subst k0
      obtain ⟨y0, z0⟩ := hz
      exact Or.inr ⟨_, z0, fv_top rfl rfl y0⟩
    · by_cases k6 : k = 6
      · subst k6
        exact Or.inr ⟨_, f61, fv_int rfl rfl l01 l11⟩
      · exact Or.inl (hj k ⟨k0, k6⟩)
  · by_cases q1 : a = tx
    · subst q1
      rw [s_tx] at ha
      cases ha
      exact Or.inr ⟨_, c_t1, Or.inr (Or.inl ⟨rfl, _, rfl, hS.1.2.2⟩)⟩
    · exact Or.inl (o a ⟨q0, q1⟩)
theorem sR_end {n : Int32} : sR l D tys A X cA 1 30 0 0 mX11_end m [.int n] (o_end n) (a_end n) idN noN := by
  intro Sg h σ hH sm hR
  obtain ⟨fs, tx, g, len, rc, c_m, f1, f6, f7, c_t, hsb, e1, e2⟩ := hR
  obtain ⟨L, le, ro, te, tl, dp, rd, gl, R, gt, gz, sL, hro, fl, l0, l1, s_tx, -⟩ := T_M hH sm.1 c_m f1 f6
  obtain ⟨hL, hL5⟩ := m_ge hro
  have nxm : tx ≠ m := k_sg_ne s_tx sL (by omega)
  show ww l D tys A X 1 30 mX11_end _ 0 [(0, .ref m), (1, .int n)] [] h
  refine r_end ⟨c_m, fl, f1, f6, nxm, nxm.symm, c_t, l0, l1⟩ (fun h1 fs1 len1 v H1 hh hz hj o => ?_)
  obtain ⟨c_m1, fl1, f11, f61, -, -, c_t1, l01, l11⟩ := H1
  have hS : sbn g (o_end n σ).1 (o_end n σ).2.1 ∧ len1.toInt = ((o_end n σ).2.1 : Int) ∧ (o_end n σ).2.2 = σ.2.2 := by
    unfold o_end
    rcases hh with ⟨a1, a2, -, a4⟩ | ⟨a1, -, a4⟩
    · rw [if_pos (by omega)]
      refine ⟨⟨fun i hi => hsb.1 i ?_, fun i hi => hsb.2.1 i ?_, hsb.2.2⟩, by show len1.toInt = ((n.toInt.toNat : Nat) : Int); omega, rfl⟩
      · have hi : i < n.toInt.toNat := hi
        omega
      · have hi : i < n.toInt.toNat := hi
        omega
    · rw [if_neg (by omega)]
      exact ⟨hsb, by omega, rfl⟩
  refine ⟨Sg, hH.upd (fun a L9 ha => ?_), sm, fun a L9 ha hl => ⟨ha, o a ⟨lab_lt ha sL hl hL5, lab_lt ha s_tx hl (by decide)⟩⟩, ⟨fs1, tx, g, len1, rc, c_m1, f11, f61, (hj 7 (by decide)).trans f7, c_t1, hS.1, hS.2.1, by rw [hS.2.2]; exact e2⟩, nR_id (fun τ H => H.mod c_m c_m1 (hj 20 (by decide)) (hj 32 (by decide)) (hj 33 (by decide)) (hj 34 (by decide))), ?_⟩
  · by_cases q0 : a = m
    · subst q0
      rw [sL] at ha
      cases ha
      refine Or.inr ⟨_, c_m1, mod_cell hL hH sL c_m fl1 (fun k => ?_)⟩
      by_cases k0 : k = 0
      · subst k0
        obtain ⟨y0, z0⟩ := hz
        exact Or.inr ⟨_, z0, fv_top rfl rfl y0⟩
      · by_cases k6 : k = 6
        · subst k6
          exact Or.inr ⟨_, f61, fv_int rfl rfl l01 l11⟩
        · exact Or.inl (hj k ⟨k0, k6⟩)
    · by_cases q1 : a = tx
      · subst q1
        exact Or.inl (c_t1.trans c_t.symm)
      · exact Or.inl (o a ⟨q0, q1⟩)
  · refine ⟨v, rfl, ?_⟩
    rcases hh with ⟨a1, a2, a3, -⟩ | ⟨a1, a3, -⟩
    · rw [if_pos (by omega)]
      exact a3
    · rw [if_neg (by omega)]
      exact a3
/-- the rows of ROPES, the draft's read anew -/
theorem ro_cell {L M ro : Nat} {R R1 : Nat → Int32} (hro : L = 50 ∧ Sg ro = some 55 ∨ L = 70 ∧ Sg ro = some 69) (hH : k_H Sg cA Lb h) (c_ro : h ro = some (.inl (cA 0, 108, .inl R))) (sM : Sg ro = some M) (hTD : TD R1) (hlo : ∀ i, i < 54 → R1 i = R i) : k_cell Sg cA (Lb M) (.inl (cA 0, 108, .inl R1)) := by
  have hi : ∀ i, i < 108 → ¬ i < 54 → ∃ r w, r < 6 ∧ w < 9 ∧ i = 54 + 9 * r + w := fun i h1 h2 => ⟨(i - 54) / 9, (i - 54) % 9, by omega, by omega, by omega⟩
  rcases hro with ⟨-, q⟩ | ⟨-, q⟩
  · rw [q] at sM
    cases sM
    obtain ⟨e, e1, e2⟩ := hH ro 55 q
    obtain ⟨R2, rfl, b⟩ := k_cell1 rfl e2
    have e1 : h ro = some (.inl (cA 0, 108, .inl R2)) := e1
    rw [c_ro] at e1
    cases e1
    refine Or.inr (Or.inl ⟨rfl, R1, rfl, fun i hi9 => ?_⟩)
    by_cases c : i < 54
    · rw [hlo i c]
      exact b i hi9
    · obtain ⟨r, w, hr, hw, rfl⟩ := hi i hi9 c
      rw [td_b r hr w hw]
      exact hTD r hr w hw
  · rw [q] at sM
    cases sM
    obtain ⟨e, e1, e2⟩ := hH ro 69 q
    obtain ⟨R2, rfl, b⟩ := k_cell1 rfl e2
    have e1 : h ro = some (.inl (cA 0, 108, .inl R2)) := e1
    rw [c_ro] at e1
    cases e1
    refine Or.inr (Or.inl ⟨rfl, R1, rfl, fun i hi9 => ?_⟩)
    by_cases c : i < 54
    · rw [hlo i c]
      exact b i hi9
    · obtain ⟨r, w, hr, hw, rfl⟩ := hi i hi9 c
      rw [td_b0 r hr w hw]
      exact hTD r hr w hw
theorem sR_fault (hT : k_tys tys cA) (hX : ∀ s, X s → xs A aK aV s) {so : Int32} : sR l D tys A X cA 40 1120 0 0 mX11_fault m [.int so] (fun σ => σ) (a_fault so) idN noN := by
  intro Sg h σ hH sm hR
  obtain ⟨fs, tx, g, len, rc, c_m, f1, f6, f7, c_t, hsb, e1, e2⟩ := hR
  obtain ⟨L, le, ro, te, tl, dp, rd, gl, R, gt, gz, sL, hro, fl, l0, l1, s_tx, s_te, s_tl, s_le, f2, f3, f4, f12, f19, f21, c_le, c_ro, hTD, -⟩ := T_M hH sm.1 c_m f1 f6
  obtain ⟨hL, hL5⟩ := m_ge hro
  obtain ⟨Mr, s_ro, hr5, hr1, hr2, hr3, hr4, hr6⟩ := ro_ge hro
  have hn : len.toInt.toNat = σ.2.1 := by omega
  show ww l D tys A X 40 1120 mX11_fault _ 0 [(0, .ref m), (1, .int so)] [] h
  have hnz : ∀ i, i < len.toInt.toNat → 1 ≤ (σ.1 i).toInt := by rw [hn]; exact hsb.2.1
  have hs : sb g σ.1 0 len.toInt.toNat := by rw [hn]; exact hsb.1
  by_cases c0 : so.toInt = 0
  · refine r_fault0 hT hX c0 (by decide) (by decide) hnz hs ⟨l0, l1, l1⟩ c_m fl f1 f4 f6 f12 f19 f21 (k_sg_ne s_tx sL (by omega)) (k_sg_ne s_le sL (by omega)) (k_sg_ne s_ro sL hr1) (k_sg_ne s_ro s_tx hr2) (k_sg_ne s_ro s_le hr6) c_t c_le c_ro hTD (fun h1 fs1 at1 fl1 rd1 bg1 R1 p e0 e21 erd es _ hlo hz hj o => ?_)
    obtain ⟨⟨⟨⟨c_m1, k1, q5, q8, q9, q10, q11⟩, q12, -⟩, -⟩, -, -, -, -, -, -, -, c_ro1, hTD1⟩ := p
    refine ⟨Sg, hH.upd (fun a L9 ha => ?_), sm, fun a L9 ha hl => ⟨ha, o a ⟨lab_lt ha sL hl hL5, lab_lt ha s_ro hl hr5⟩⟩, ⟨fs1, tx, g, len, rc, c_m1, (hj 1 (by decide)).trans f1, (hj 6 (by decide)).trans f6, (hj 7 (by decide)).trans f7, (o tx ⟨k_sg_ne s_tx sL (by omega), (k_sg_ne s_ro s_tx hr2).symm⟩).trans c_t, hsb, e1, e2⟩, nR_id (fun τ H => H.mod c_m c_m1 (hj 20 (by decide)) (hj 32 (by decide)) (hj 33 (by decide)) (hj 34 (by decide))), fl1, rfl, by unfold v_fault; rw [if_pos c0, ← hn]; exact es.fl⟩
    by_cases q0 : a = m
    · subst q0
      rw [sL] at ha
      cases ha
      refine Or.inr ⟨_, c_m1, mod_cell hL hH sL c_m k1 (fun k => ?_)⟩
      by_cases k0 : k = 0
      · subst k0; obtain ⟨y0, z0⟩ := hz; exact Or.inr ⟨_, z0, fv_top rfl rfl y0⟩
      by_cases k5 : k = 5
      · subst k5; exact Or.inr ⟨_, q5, fv_any rfl rfl _⟩
      by_cases k8 : k = 8
      · subst k8; exact Or.inr ⟨_, q8, fv_top rfl rfl _⟩
      by_cases k9 : k = 9
      · subst k9; exact Or.inr ⟨_, q9, fv_top rfl rfl _⟩
      by_cases k10 : k = 10
      · subst k10; exact Or.inr ⟨_, q10, fv_top rfl rfl _⟩
      by_cases k11 : k = 11
      · subst k11; exact Or.inr ⟨_, q11, fv_top rfl rfl _⟩
      by_cases k12 : k = 12
      · subst k12; exact Or.inr ⟨_, q12, fv_top rfl rfl _⟩
      by_cases k21 : k = 21
      · subst k21; exact Or.inr ⟨_, e21, fv_int rfl rfl erd.1 erd.2⟩
      exact Or.inl (hj k ⟨k0, k5, k8, k9, k10, k11, k12, k21⟩)
    · by_cases q1 : a = ro
      · subst q1
        exact Or.inr ⟨_, c_ro1, ro_cell hro hH c_ro ha hTD1 hlo⟩
      · exact Or.inl (o a ⟨q0, q1⟩)
  · by_cases c1 : so.toInt = 1
    · refine r_fault1 hT hX c1 (by decide) (by decide) hnz hs ⟨l0, l1, l1⟩ c_m fl f1 f4 f6 f12 f19 f21 (k_sg_ne s_tx sL (by omega)) (k_sg_ne s_le sL (by omega)) (k_sg_ne s_ro sL hr1) (k_sg_ne s_ro s_tx hr2) (k_sg_ne s_ro s_le hr6) c_t c_le c_ro hTD (fun h1 fs1 at1 fl1 dp1 bg1 p _ es _ hz hj o => ?_)
      obtain ⟨⟨⟨⟨c_m1, k1, q5, q8, q9, q10, q11⟩, q12, -⟩, -⟩, ⟨x13, q13⟩, ⟨x14, q14⟩, x18, q18, y1, y2⟩ := p
      refine ⟨Sg, hH.upd (fun a L9 ha => ?_), sm, fun a L9 ha hl => ⟨ha, o a (lab_lt ha sL hl hL5)⟩, ⟨fs1, tx, g, len, rc, c_m1, (hj 1 (by decide)).trans f1, (hj 6 (by decide)).trans f6, (hj 7 (by decide)).trans f7, (o tx (k_sg_ne s_tx sL (by omega))).trans c_t, hsb, e1, e2⟩, nR_id (fun τ H => H.mod c_m c_m1 (hj 20 (by decide)) (hj 32 (by decide)) (hj 33 (by decide)) (hj 34 (by decide))), fl1, rfl, by unfold v_fault; rw [if_neg c0, if_pos c1, ← hn]; exact es.fl⟩
      by_cases q0 : a = m
      · subst q0
        rw [sL] at ha
        cases ha
        refine Or.inr ⟨_, c_m1, mod_cell hL hH sL c_m k1 (fun k => ?_)⟩
        by_cases k0 : k = 0
        · subst k0; obtain ⟨y0, z0⟩ := hz; exact Or.inr ⟨_, z0, fv_top rfl rfl y0⟩
        by_cases k5 : k = 5
        · subst k5; exact Or.inr ⟨_, q5, fv_any rfl rfl _⟩
        by_cases k8 : k = 8
        · subst k8; exact Or.inr ⟨_, q8, fv_top rfl rfl _⟩
        by_cases k9 : k = 9
        · subst k9; exact Or.inr ⟨_, q9, fv_top rfl rfl _⟩
        by_cases k10 : k = 10
        · subst k10; exact Or.inr ⟨_, q10, fv_top rfl rfl _⟩
        by_cases k11 : k = 11
        · subst k11; exact Or.inr ⟨_, q11, fv_top rfl rfl _⟩
        by_cases k12 : k = 12
        · subst k12; exact Or.inr ⟨_, q12, fv_top rfl rfl _⟩
        by_cases k13 : k = 13
        · subst k13; exact Or.inr ⟨_, q13, fv_top rfl rfl _⟩
        by_cases k14 : k = 14
        · subst k14; exact Or.inr ⟨_, q14, fv_top rfl rfl _⟩
        by_cases k18 : k = 18
        · subst k18; exact Or.inr ⟨_, q18, fv_int rfl rfl y1 y2⟩
        exact Or.inl (hj k ⟨k0, k5, k8, k9, k10, k11, k12, k13, k14, k18⟩)
      · exact Or.inl (o a q0)
    · refine r_fault2 ⟨c0, c1⟩ (by decide) (by decide) c_m fl f1 f4 f6 f12 f19 f21 (fun h1 fs1 v c_m1 k1 hv hz hj o => ?_)
      refine ⟨Sg, hH.upd (fun a L9 ha => ?_), sm, fun a L9 ha hl => ⟨ha, o a (lab_lt ha sL hl hL5)⟩, ⟨fs1, tx, g, len, rc, c_m1, (hj 1 (by decide)).trans f1, (hj 6 (by decide)).trans f6, (hj 7 (by decide)).trans f7, (o tx (k_sg_ne s_tx sL (by omega))).trans c_t, hsb, e1, e2⟩, nR_id (fun τ H => H.mod c_m c_m1 (hj 20 (by decide)) (hj 32 (by decide)) (hj 33 (by decide)) (hj 34 (by decide))), v, rfl, by unfold v_fault; rw [if_neg c0, if_neg c1]; exact hv⟩
      by_cases q0 : a = m
      · subst q0
        rw [sL] at ha
        cases ha
        refine Or.inr ⟨_, c_m1, mod_cell hL hH sL c_m k1 (fun k => ?_)⟩
        by_cases k0 : k = 0
        · subst k0; obtain ⟨y0, z0⟩ := hz; exact Or.inr ⟨_, z0, fv_top rfl rfl y0⟩
        exact Or.inl (hj k k0)
      · exact Or.inl (o a q0)
end
