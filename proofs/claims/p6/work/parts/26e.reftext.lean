/-! text, the reference: from typed heaps -/
def sg2 (Sg : Nat → Option Nat) (m ro : Nat) : Nat → Option Nat := fun q => if q = m then some 50 else if q = ro then some 55 else Sg q
def okT (t : k_T) : Bool := !(t.1 == 2 || t.1 == 3) || !decide (t.2.1.toNat ∈ [50, 55, 69, 70])
theorem okT_all : ∀ L, L < 71 → L ≠ 50 → L ≠ 70 → (Lb L).2.2.2.all okT = true := by decide +kernel
theorem Lb_big {L : Nat} (h : 71 ≤ L) : Lb L = (9, 0, 0, []) := by
  unfold Lb
  rw [List.getD_eq_getElem?_getD, List.getElem?_eq_none (by show 71 ≤ L; exact h)]
  rfl
theorem el55_62 : ∀ p, p < 6 → ∀ w, w < 9 → (k_el (Lb 55) (9 * p + w)).2.1 = td_l w ∧ ((k_el (Lb 55) (9 * p + w)).2.2 = td_h p w ∨ p = 0 ∧ w = 8 ∧ (k_el (Lb 55) (9 * p + w)).2.2 = -1) := by decide +kernel
section
variable {l : Launch} {D : va_G} {tys : List (ClassId × FieldType)} {A : Nat → Prop} {X : State → Prop} {cA : Nat → ClassId} {x m : Nat} {Sg : Nat → Option Nat} {h h1 : ch_H} {aK aV : Nat → Nat}
theorem k_v.rel {S2 : Nat → Option Nat} {v : Value} {t : k_T} (hs : ∀ a M, M ∉ [50, 55, 69, 70] → Sg a = some M → S2 a = some M) (ht : okT t = true) (hv : k_v Sg v t) : k_v S2 v t := by
  obtain ⟨k, y, z⟩ := t
  match k, ht, hv with
  | 0, _, hv => exact hv
  | 1, _, hv => exact hv
  | 2, ht, hv =>
    obtain ⟨a, e1, e2⟩ := hv
    have hn : y.toNat ∉ [50, 55, 69, 70] := by simpa [okT] using ht
    exact ⟨a, e1, hs a _ hn e2⟩
  | 3, ht, hv =>
    have hn : y.toNat ∉ [50, 55, 69, 70] := by simpa [okT] using ht
    rcases hv with hv | ⟨a, e1, e2⟩
    · exact Or.inl hv
    · exact Or.inr ⟨a, e1, hs a _ hn e2⟩
  | 4, _, hv => exact hv
  | n + 5, _, _ => exact trivial
theorem k_el_in (I : k_I) (i : Nat) : k_el I i = k_top ∨ k_el I i ∈ I.2.2.2 := by
  have go : ∀ (l9 : List k_T) (j : Nat), l9.getD j k_top = k_top ∨ l9.getD j k_top ∈ l9 := by
    intro l9 j
    rw [List.getD_eq_getElem?_getD]
    cases hq : l9[j]? with
    | none => exact Or.inl rfl
    | some t => exact Or.inr (List.mem_of_getElem? hq)
  unfold k_el
  split
  · exact go _ _
  · exact go _ _
theorem sg2_le {L ro : Nat} (sL : Sg m = some L) (hro : L = 50 ∧ Sg ro = some 55 ∨ L = 70 ∧ Sg ro = some 69) : ∀ a M, M ∉ [50, 55, 69, 70] → Sg a = some M → sg2 Sg m ro a = some M := by
  intro a M hM ha
  have q0 : a ≠ m := fun e => by
    rw [e, sL] at ha
    cases ha
    rcases hro with ⟨rfl, -⟩ | ⟨rfl, -⟩ <;> exact hM (by decide)
  have q1 : a ≠ ro := fun e => by
    rw [e] at ha
    rcases hro with ⟨-, q⟩ | ⟨-, q⟩ <;> (rw [q] at ha; cases ha; exact hM (by decide))
  unfold sg2
  rw [if_neg q0, if_neg q1]
  exact ha
theorem T_rel {L ro : Nat} {fs1 : List Value} {R2 : Nat → Int32} (hH : k_H Sg cA Lb h) (sm : sgM Sg m) (sL : Sg m = some L) (hro : L = 50 ∧ Sg ro = some 55 ∨ L = 70 ∧ Sg ro = some 69) (c_m1 : h1 m = some (.inr (10, fs1))) (c_ro1 : h1 ro = some (.inl (cA 0, 108, .inl R2))) (o : ∀ q, q ≠ m ∧ q ≠ ro → h1 q = h q) (hcm : k_cell (sg2 Sg m ro) cA (Lb 50) (.inr (10, fs1))) (hcr : k_cell (sg2 Sg m ro) cA (Lb 55) (.inl (cA 0, 108, .inl R2))) : k_H (sg2 Sg m ro) cA Lb h1 := by
  have hs := sg2_le sL hro
  intro a M ha
  unfold sg2 at ha
  by_cases q0 : a = m
  · subst q0
    rw [if_pos rfl] at ha
    cases ha
    exact ⟨_, c_m1, hcm⟩
  · rw [if_neg q0] at ha
    by_cases q1 : a = ro
    · subst q1
      rw [if_pos rfl] at ha
      cases ha
      exact ⟨_, c_ro1, hcr⟩
    · rw [if_neg q1] at ha
      obtain ⟨e, e1, e2⟩ := hH a M ha
      refine ⟨e, by rw [o a ⟨q0, q1⟩]; exact e1, ?_⟩
      have m1 : M ≠ 50 := fun e9 => q0 (sm.2 a M ha (Or.inl e9))
      have m2 : M ≠ 70 := fun e9 => q0 (sm.2 a M ha (Or.inr e9))
      by_cases hM : M < 71
      · have hall := okT_all M hM m1 m2
        have hin : ∀ t ∈ (Lb M).2.2.2, okT t = true := fun t ht => List.all_eq_true.mp hall t ht
        rcases e2 with ⟨z1, fs, z2, z3, z4⟩ | z | ⟨z1, f, z2, z3⟩
        · refine Or.inl ⟨z1, fs, z2, z3, fun k t hk => ?_⟩
          obtain ⟨v, w1, w2⟩ := z4 k t hk
          exact ⟨v, w1, w2.rel hs (hin t (List.mem_of_getElem? hk))⟩
        · exact Or.inr (Or.inl z)
        · refine Or.inr (Or.inr ⟨z1, f, z2, fun i hi => (z3 i hi).rel hs ?_⟩)
          rcases k_el_in (Lb M) i with w | w
          · rw [w]; rfl
          · exact hin _ w
      · rw [Lb_big (by omega)] at e2
        rcases e2 with ⟨z, -⟩ | ⟨z, -⟩ | ⟨z, -⟩ <;> cases z
theorem sbn_0 {g f : Nat → Int32} {n : Nat} (h : sbn g f n) : sbn g f 0 := ⟨fun i hi => absurd hi (by omega), fun i hi => absurd hi (by omega), h.2.2⟩
theorem ok50 : ∀ k, k < 47 → k ≠ 19 → ∀ t ∈ (Lb 50).2.2.2[k]?, okT t = true := by decide +kernel
theorem ok57 : ∀ k, k < 47 → k ≠ 19 → ∀ t ∈ (Lb 50).2.2.2[k]?, ∀ u ∈ (Lb 70).2.2.2[k]?, k_sub u t = true ∨ u = t := by decide +kernel
/-- the object with a TOWN: its fields' types out of those ahead of it -/
theorem mod50 {L ro : Nat} {fs fs1 : List Value} (hH : k_H Sg cA Lb h) (sL : Sg m = some L) (hro : L = 50 ∧ Sg ro = some 55 ∨ L = 70 ∧ Sg ro = some 69) (nrm : ro ≠ m) (c_m : h m = some (.inr (10, fs))) (f19 : fs1[19]? = some (.ref ro)) (l1 : fs1.length = 47) (ch : ∀ k : Nat, k ≠ 19 → fs1[k]? = fs[k]? ∨ ∃ v, fs1[k]? = some v ∧ ∀ t, (Lb 50).2.2.2[k]? = some t → k_v Sg v t) : k_cell (sg2 Sg m ro) cA (Lb 50) (.inr (10, fs1)) := by
  have hs := sg2_le sL hro
  have old : ∀ (k : Nat) (t : k_T), k ≠ 19 → (Lb 50).2.2.2[k]? = some t → ∃ v, fs[k]? = some v ∧ k_v Sg v t := by
    intro k t hk ht
    rcases hro with ⟨rfl, -⟩ | ⟨rfl, -⟩
    · obtain ⟨fs2, c2, -, ty⟩ := hH.obj sL (L := 50) rfl
      rw [c_m] at c2
      cases c2
      exact ty k t ht
    · obtain ⟨fs2, c2, -, ty⟩ := hH.obj sL (L := 70) rfl
      rw [c_m] at c2
      cases c2
      have hk9 : k < 47 := (List.getElem?_eq_some_iff.mp ht).1
      have hu : ∃ u, (Lb 70).2.2.2[k]? = some u := ⟨_, List.getElem?_eq_getElem (by show k < 47; exact hk9)⟩
      obtain ⟨u, hu⟩ := hu
      obtain ⟨v, w1, w2⟩ := ty k u hu
      refine ⟨v, w1, ?_⟩
      rcases ok57 k hk9 hk t ht u hu with q | q
      · exact k_sub_ok q w2
      · rw [← q]; exact w2
  refine Or.inl ⟨rfl, fs1, rfl, l1, fun k t hk => ?_⟩
  by_cases k19 : k = 19
  · subst k19
    cases hk
    exact ⟨_, f19, ro, rfl, by unfold sg2; rw [if_neg nrm, if_pos rfl]; rfl⟩
  · have hk9 : k < 47 := (List.getElem?_eq_some_iff.mp hk).1
    rcases ch k k19 with q | ⟨v, q, qt⟩
    · rw [q]
      obtain ⟨v, w1, w2⟩ := old k t k19 hk
      exact ⟨v, w1, w2.rel hs (ok50 k hk9 k19 t hk)⟩
    · exact ⟨v, q, (qt t hk).rel hs (ok50 k hk9 k19 t hk)⟩
theorem fw_int {k : Nat} {lo9 hi9 : Int} (hk : (Lb 50).2.2.2[k]? = some (0, lo9, hi9)) {y : Int32} (h1 : lo9 ≤ y.toInt) (h2 : y.toInt ≤ hi9) : ∀ t, (Lb 50).2.2.2[k]? = some t → k_v Sg (.int y) t := by
  intro t ht
  rw [hk] at ht
  cases ht
  exact ⟨y, rfl, h1, h2⟩
theorem fw_any {k : Nat} (hk : (Lb 50).2.2.2[k]? = some (8, 0, 0)) (v : Value) : ∀ t, (Lb 50).2.2.2[k]? = some t → k_v Sg v t := by
  intro t ht
  rw [hk] at ht
  cases ht
  exact trivial
theorem sR_text (hT : k_tys tys cA) (hX : ∀ s, X s → xs A aK aV s) {so : Int32} {seed : Int64} : sR l D tys A X cA 60 2000 0 0 mX11_text m [.int so, .long seed] (o_text so) (a_text so) (n_text so) noN := by
  intro Sg h σ hH sm hR
  obtain ⟨fs, tx, g, len, rc, c_m, f1, f6, f7, c_t, hsb, e1, e2⟩ := hR
  obtain ⟨L, le, ro, te, tl, dp, rd, gl, R, gt, gz, sL, hro, fl, l0, l1, s_tx, s_te, s_tl, s_le, f2, f3, f4, f12, f19, f21, c_le, c_ro, hTD, c_te, b_te, c_tl, b_tl, hrc, hints, h18⟩ := T_M hH sm.1 c_m f1 f6
  obtain ⟨hL, hL5⟩ := m_ge hro
  obtain ⟨Mr, s_ro, hr5, hr1, hr2, hr3, hr4, hr6⟩ := ro_ge hro
  have hrc := hrc rc f7
  have hn : len.toInt.toNat = σ.2.1 := by omega
  have hnz : ∀ i, i < len.toInt.toNat → 1 ≤ (σ.1 i).toInt := by rw [hn]; exact hsb.2.1
  have hs : sb g σ.1 0 len.toInt.toNat := by rw [hn]; exact hsb.1
  have n_ro_m : ro ≠ m := k_sg_ne s_ro sL hr1
  have n_tx_m : tx ≠ m := k_sg_ne s_tx sL (by omega)
  have n_ro_tx : ro ≠ tx := k_sg_ne s_ro s_tx hr2
  show ww l D tys A X 60 2000 mX11_text _ 0 [(0, .ref m), (1, .int so), (2, .long seed)] [] h
  by_cases c0 : so.toInt = 0
  · refine r_text0 hT hX c0 (by decide) (by decide) hnz hs ⟨l0, l1, l1⟩ c_m fl f1 f4 f6 f12 f19 f21 n_tx_m (k_sg_ne s_le sL (by omega)) n_ro_m n_ro_tx (k_sg_ne s_ro s_le hr6) c_t c_le c_ro hTD (fun h1 fs1 R1 rd1 v _ _ _ p hz e21 erd hlo f61 h20 hbad hvm hj o => ?_) (fun h1 fs1 R1 R2 k1 rd1 c_m1 k1l c_ro1 hR2 hR3 hints1 f61 f20 f211 erd hTD1 h62 hgood hvS hj o => ?_)
    · have hv : v.toInt = v_text so σ := by
        obtain ⟨e, he⟩ := hbad
        rw [hn] at he
        unfold v_text
        rw [if_pos c0, he]
        exact hvm
      have hσ : o_text so σ = σ := by
        obtain ⟨e, he⟩ := hbad
        rw [hn] at he
        unfold o_text
        rw [if_pos c0, he]
        rfl
      have hτ : ∀ τ : aN, n_text so σ τ = τ := fun τ => by
        obtain ⟨e, he⟩ := hbad
        rw [hn] at he
        exact n_text_neg (fun q => by have q2 := q.2; rw [he] at q2; cases q2)
      rw [hσ]
      obtain ⟨⟨⟨⟨c_m1, k1, q5, q8, q9, q10, q11⟩, q12, -⟩, -⟩, -, -, -, -, -, -, -, c_ro1, hTD1⟩ := p
      refine ⟨Sg, hH.upd (fun a L9 ha => ?_), sm, fun a L9 ha hl => ⟨ha, o a ⟨lab_lt ha sL hl hL5, lab_lt ha s_ro hl hr5⟩⟩, ⟨fs1, tx, g, len, rc, c_m1, (hj 1 (by decide)).trans f1, f61, (hj 7 (by decide)).trans f7, (o tx ⟨n_tx_m, n_ro_tx.symm⟩).trans c_t, hsb, e1, e2⟩, fun τ H => ⟨by rw [hτ τ]; exact H.mod c_m c_m1 h20 (hj 32 (by decide)) (hj 33 (by decide)) (hj 34 (by decide)), trivial⟩, v, rfl, hv⟩
      by_cases q0 : a = m
      · subst q0
        rw [sL] at ha
        cases ha
        refine Or.inr ⟨_, c_m1, mod_cell hL hH sL c_m k1 (fun k => ?_)⟩
        by_cases k0 : k = 0
        · subst k0; obtain ⟨y0, z0⟩ := hz; exact Or.inr ⟨_, z0, fv_top rfl rfl y0⟩
        by_cases k5 : k = 5
        · subst k5; exact Or.inr ⟨_, q5, fv_any rfl rfl _⟩
        by_cases k6 : k = 6
        · subst k6; exact Or.inr ⟨_, f61, fv_int rfl rfl l0 l1⟩
        by_cases k8 : k = 8
        · subst k8; exact Or.inr ⟨_, q8, fv_top rfl rfl _⟩
        by_cases k9 : k = 9
        · subst k9; exact Or.inr ⟨_, q9, fv_top rfl rfl _⟩
        by_cases k10 : k = 10
        · subst k10; exact Or.inr ⟨_, q10, fv_top rfl rfl _⟩
        by_cases k11 : k = 11
        · subst k11; exact Or.inr ⟨_, q11, fv_top rfl rfl _⟩
        by_cases k12 : k = 12
        · subst k12; exact Or.inr ⟨_, q12, fv_top rfl rfl _⟩
        by_cases k21 : k = 21
        · subst k21; exact Or.inr ⟨_, e21, fv_int rfl rfl erd.1 erd.2⟩
        by_cases k20 : k = 20
        · subst k20; exact Or.inl h20
        exact Or.inl (hj k ⟨k0, k5, k6, k8, k9, k10, k11, k12, k20, k21⟩)
      · by_cases q1 : a = ro
        · subst q1
          exact Or.inr ⟨_, c_ro1, ro_cell hro hH c_ro ha hTD1 hlo⟩
        · exact Or.inl (o a ⟨q0, q1⟩)
    · have hv : rd1.toInt = v_text so σ := by
        obtain ⟨q, he⟩ := hgood
        rw [hn] at he hvS
        unfold v_text
        rw [if_pos c0, he]
        exact hvS
      have hσ : o_text so σ = (σ.1, 0, σ.2.2) := by
        obtain ⟨e, he⟩ := hgood
        rw [hn] at he
        unfold o_text
        rw [if_pos c0, he]
        rfl
      have hτ : ∀ τ : aN, n_text so σ τ = ((sp_town σ.1 σ.2.1).2, 0, 0, 0) := fun τ => by
        obtain ⟨e, he⟩ := hgood
        rw [hn] at he
        exact n_text_pos c0 (by rw [he]; rfl)
      have hvT : rd1.toInt = ((sp_town σ.1 σ.2.1).2 : Int) := by rw [hn] at hvS; exact hvS
      rw [hσ]
      obtain ⟨⟨y0, z0⟩, ⟨y5, z5⟩, ⟨y8, z8⟩, ⟨y9, z9⟩, ⟨y10, z10⟩, ⟨y11, z11⟩, y12, z12⟩ := hints1
      obtain ⟨y6, z6, e6⟩ := f61
      have hH2 : k_H (sg2 Sg m ro) cA Lb h1 := by
        refine T_rel hH sm sL hro c_m1 c_ro1 o (mod50 hH sL hro n_ro_m c_m ((hj 19 (by decide)).trans f19) k1l (fun k k19 => ?_)) ?_
        · by_cases k0 : k = 0
          · subst k0; exact Or.inr ⟨_, z0, fw_int rfl (Int32.minValue_le_toInt _) (Int32.toInt_le _)⟩
          by_cases k5 : k = 5
          · subst k5; exact Or.inr ⟨_, z5, fw_any rfl _⟩
          by_cases k6 : k = 6
          · subst k6; exact Or.inr ⟨_, z6, fw_int rfl (by omega) (by omega)⟩
          by_cases k8 : k = 8
          · subst k8; exact Or.inr ⟨_, z8, fw_int rfl (Int32.minValue_le_toInt _) (Int32.toInt_le _)⟩
          by_cases k9 : k = 9
          · subst k9; exact Or.inr ⟨_, z9, fw_int rfl (Int32.minValue_le_toInt _) (Int32.toInt_le _)⟩
          by_cases k10 : k = 10
          · subst k10; exact Or.inr ⟨_, z10, fw_int rfl (Int32.minValue_le_toInt _) (Int32.toInt_le _)⟩
          by_cases k11 : k = 11
          · subst k11; exact Or.inr ⟨_, z11, fw_int rfl (Int32.minValue_le_toInt _) (Int32.toInt_le _)⟩
          by_cases k12 : k = 12
          · subst k12; exact Or.inr ⟨_, z12, fw_int rfl (Int32.minValue_le_toInt _) (Int32.toInt_le _)⟩
          by_cases k20 : k = 20
          · subst k20; exact Or.inr ⟨_, f20, fw_int rfl erd.1 erd.2⟩
          by_cases k21 : k = 21
          · subst k21; exact Or.inr ⟨_, f211, fw_int rfl erd.1 erd.2⟩
          exact Or.inl (hj k ⟨k0, k5, k6, k8, k9, k10, k11, k12, k20, k21⟩)
        · refine Or.inr (Or.inl ⟨rfl, R2, rfl, fun i hi => ?_⟩)
          have hi : i < 108 := hi
          by_cases c : i < 54
          · obtain ⟨p, w, hp, hw, rfl⟩ : ∃ p w, p < 6 ∧ w < 9 ∧ i = 9 * p + w := ⟨i / 9, i % 9, by omega, by omega, by omega⟩
            have ht := hTD1 p hp w hw
            have he := el55_62 p hp w hw
            rw [hR2 _ c, show 54 + (9 * p + w) = 54 + 9 * p + w by omega]
            refine ⟨by rw [he.1]; exact ht.1, ?_⟩
            rcases he.2 with q | ⟨rfl, rfl, q⟩
            · rw [q]; exact ht.2
            · rw [q]
              have h62b : (R1 (54 + 9 * 0 + 8)).toInt = -1 := h62
              omega
          · obtain ⟨p, w, hp, hw, rfl⟩ : ∃ p w, p < 6 ∧ w < 9 ∧ i = 54 + 9 * p + w := ⟨(i - 54) / 9, (i - 54) % 9, by omega, by omega, by omega⟩
            rw [hR3 _ (by omega), td_b p hp w hw]
            exact hTD1 p hp w hw
      have s2m : sg2 Sg m ro m = some 50 := if_pos rfl
      have s2r : sg2 Sg m ro ro = some 55 := by unfold sg2; rw [if_neg n_ro_m, if_pos rfl]
      have hR1 : aR cA h1 m (σ.1, 0, σ.2.2) := ⟨fs1, tx, g, y6, rc, c_m1, (hj 1 (by decide)).trans f1, z6, (hj 7 (by decide)).trans f7, (o tx ⟨n_tx_m, n_ro_tx.symm⟩).trans c_t, sbn_0 hsb, by show y6.toInt = 0; omega, e2⟩
      obtain ⟨fs2, c2, -, ty⟩ := hH2.obj s2m (L := 50) rfl
      rw [c_m1] at c2
      cases c2
      obtain ⟨v22, q22, t22⟩ := ty 22 _ rfl
      obtain ⟨to, rfl, s_to⟩ := k_v.ref t22
      obtain ⟨v26, q26, t26⟩ := ty 26 _ rfl
      obtain ⟨wa, rfl, s_wa⟩ := k_v.ref t26
      obtain ⟨v27, q27, t27⟩ := ty 27 _ rfl
      obtain ⟨se, rfl, s_se⟩ := k_v.ref t27
      obtain ⟨v31, q31, t31⟩ := ty 31 _ rfl
      obtain ⟨be, rfl, s_be⟩ := k_v.ref t31
      refine w_aload_n (List.Mem.tail _ (List.Mem.head _)) (tX11_text_1_ok (165, .aload_n 0, 1) (List.mem_of_getElem? (i := 31) rfl)) ?_
      refine w_lload_n (List.Mem.tail _ (List.Mem.tail _ (List.Mem.tail _ (List.Mem.head _)))) (tX11_text_1_ok (166, .lload_n 2, 1) (List.mem_of_getElem? (i := 32) rfl)) ?_
      refine w_callV (own := 16) (mi := 164) [.long seed] [] [(0, .ref m), (1, .long seed)] rfl (cllw_X11 (251, 0, 164) (List.mem_of_getElem? (i := 33) rfl)) rfl rfl c_m1 rfl (by decide) (w_lo (n := 23) rfl (by decide)) (Nat.le_of_ble_eq_true rfl) (Nat.le_of_ble_eq_true rfl) rfl (tX11_text_1_ok (167, .invokevirtual 251, 3) (List.mem_of_getElem? (i := 33) rfl)) (h_beginN hT s2m s2r s_to s_wa s_se s_be k1l ((hj 19 (by decide)).trans f19) f20 q22 q26 q27 q31 erd (by decide) (Nat.le_of_ble_eq_true rfl) hH2 c_m1 (fun g5 fs5 w0 w1 w2 hH5 u5 c5 d32 d33 d34 i0 i1 i2 => ?_))
      show ww l D tys A X 60 2000 mX11_text _ 170 [(4, .int k1), (0, .ref m), (1, .int so), (2, .long seed)] [] g5
      obtain ⟨fs6, c6, k5⟩ := (u5 m 50 s2m).1 _ _ c_m1
      rw [c5] at c6
      cases c6
      have f205 := (k5 20 (by decide)).trans f20
      refine w_aload_n (List.Mem.tail _ (List.Mem.head _)) (tX11_text_1_ok (170, .aload_n 0, 1) (List.mem_of_getElem? (i := 34) rfl)) ?_
      refine w_get (own := 16) rfl rfl (by decide) c5 f205 (tX11_text_1_ok (171, .getfield 248, 3) (List.mem_of_getElem? (i := 35) rfl)) ?_
      refine w_iret rfl (tX11_text_1_ok (174, .ireturn, 1) (List.mem_of_getElem? (i := 36) rfl)) ?_
      refine ⟨sg2 Sg m ro, hH5, ⟨Or.inl s2m, fun a L9 ha hl => ?_⟩, fun a L9 ha hl => ?_, aR.U hH2 u5 (by decide) (Or.inl s2m) hR1, fun τ _ => ⟨by rw [hτ τ]; exact ⟨fs5, rd1, w0, w1, w2, c5, f205, d32, d33, d34, hvT, by show w0.toInt = 0; exact i0, by show w1.toInt = 0; exact i1, by show w2.toInt = 0; exact i2⟩, trivial⟩, rd1, rfl, hv⟩
      · by_cases q0 : a = m
        · exact q0
        · unfold sg2 at ha
          rw [if_neg q0] at ha
          by_cases q1 : a = ro
          · rw [if_pos q1] at ha
            cases ha
            omega
          · rw [if_neg q1] at ha
            exact sm.2 a L9 ha hl
      · have q0 := lab_lt ha sL hl hL5
        have q1 := lab_lt ha s_ro hl hr5
        have ha2 : sg2 Sg m ro a = some L9 := by
          unfold sg2
          rw [if_neg q0, if_neg q1]
          exact ha
        exact ⟨ha2, (k_U.same hH2 u5 ha2 (fun q hq e => by have := (okR.ge (W := [(50, 32), (50, 33), (50, 34), (50, 36), (50, 39), (56, 0), (60, 0), (61, 0), (65, 0)]) (by decide) q hq).1; omega)).trans (o a ⟨q0, q1⟩)⟩
  · by_cases c1 : so.toInt = 1
    · refine r_text1 hT hX c1 (by decide) (by decide) ⟨n_tx_m, k_sg_ne s_te sL (by omega), k_sg_ne s_tl sL (by omega), k_sg_ne s_te s_tx (by decide), k_sg_ne s_tl s_tx (by decide), k_sg_ne s_tl s_te (by decide)⟩ (k_sg_ne s_le sL (by omega)) n_ro_m n_ro_tx (k_sg_ne s_ro s_le hr6) hnz hs ⟨l0, l1, l1⟩ c_m fl f1 f4 f6 f12 f19 f21 c_t c_le c_ro hTD f2 f3 f7 hrc c_te c_tl b_te b_tl ⟨⟨_, List.getElem?_eq_getElem (by rw [fl]; decide)⟩, hints, h18⟩ (fun h1 fs1 gt1 gz1 v c_m1 k1 ft1 hh c_te1 b_te1 c_tl1 b_tl1 hz hj o => ?_)
      obtain ⟨⟨y5, z5⟩, hints1, y18, z18, w1, w2⟩ := ft1
      have fin : ∀ len1 rc1 : Int32, fs1[6]? = some (.int len1) → fs1[7]? = some (.int rc1) → 0 ≤ len1.toInt ∧ len1.toInt ≤ 160 → 0 ≤ rc1.toInt ∧ rc1.toInt ≤ 4 → k_H Sg cA Lb h1 := by
        intro len1 rc1 g6 g7 hb6 hb7
        refine hH.upd (fun a L9 ha => ?_)
        by_cases q0 : a = m
        · subst q0
          rw [sL] at ha
          cases ha
          refine Or.inr ⟨_, c_m1, mod_cell hL hH sL c_m k1 (fun k => ?_)⟩
          by_cases k0 : k = 0
          · subst k0; obtain ⟨y0, z0⟩ := hz; exact Or.inr ⟨_, z0, fv_top rfl rfl y0⟩
          by_cases k5 : k = 5
          · subst k5; exact Or.inr ⟨_, z5, fv_any rfl rfl _⟩
          by_cases k6 : k = 6
          · subst k6; exact Or.inr ⟨_, g6, fv_int rfl rfl hb6.1 hb6.2⟩
          by_cases k7 : k = 7
          · subst k7; exact Or.inr ⟨_, g7, fv_int rfl rfl hb7.1 hb7.2⟩
          by_cases k8 : k = 8
          · subst k8; obtain ⟨y, z⟩ := hints1 8 (by decide); exact Or.inr ⟨_, z, fv_top rfl rfl _⟩
          by_cases k9 : k = 9
          · subst k9; obtain ⟨y, z⟩ := hints1 9 (by decide); exact Or.inr ⟨_, z, fv_top rfl rfl _⟩
          by_cases k10 : k = 10
          · subst k10; obtain ⟨y, z⟩ := hints1 10 (by decide); exact Or.inr ⟨_, z, fv_top rfl rfl _⟩
          by_cases k11 : k = 11
          · subst k11; obtain ⟨y, z⟩ := hints1 11 (by decide); exact Or.inr ⟨_, z, fv_top rfl rfl _⟩
          by_cases k12 : k = 12
          · subst k12; obtain ⟨y, z⟩ := hints1 12 (by decide); exact Or.inr ⟨_, z, fv_top rfl rfl _⟩
          by_cases k13 : k = 13
          · subst k13; obtain ⟨y, z⟩ := hints1 13 (by decide); exact Or.inr ⟨_, z, fv_top rfl rfl _⟩
          by_cases k14 : k = 14
          · subst k14; obtain ⟨y, z⟩ := hints1 14 (by decide); exact Or.inr ⟨_, z, fv_top rfl rfl _⟩
          by_cases k18 : k = 18
          · subst k18; exact Or.inr ⟨_, z18, fv_int rfl rfl w1 w2⟩
          exact Or.inl (hj k ⟨k0, k5, k6, k7, k8, k9, k10, k11, k12, k13, k14, k18⟩)
        · by_cases q1 : a = te
          · subst q1
            rw [s_te] at ha
            cases ha
            exact Or.inr ⟨_, c_te1, Or.inr (Or.inl ⟨rfl, _, rfl, b_te1⟩)⟩
          · by_cases q2 : a = tl
            · subst q2
              rw [s_tl] at ha
              cases ha
              exact Or.inr ⟨_, c_tl1, Or.inr (Or.inl ⟨rfl, _, rfl, b_tl1⟩)⟩
            · exact Or.inl (o a ⟨q0, q1, q2⟩)
      have cls : ∀ a L9, Sg a = some L9 → L9 < 50 → Sg a = some L9 ∧ h1 a = h a := fun a L9 ha hl => ⟨ha, o a ⟨lab_lt ha sL hl hL5, lab_lt ha s_te hl (by decide), lab_lt ha s_tl hl (by decide)⟩⟩
      have ctx : h1 tx = some (.inl (cA 2, 160, .inl g)) := (o tx ⟨n_tx_m, k_sg_ne s_tx s_te (by decide), k_sg_ne s_tx s_tl (by decide)⟩).trans c_t
      rcases hh with ⟨a1, ⟨q, a2⟩, ⟨y6, a3, a4⟩, ⟨y7, a5, a6⟩, a7⟩ | ⟨a1, a2, a3, a7⟩
      · have hv : v.toInt = v_text so σ := by
          rw [hn] at a2
          unfold v_text
          rw [if_neg c0, if_pos c1, if_pos ⟨by omega, by rw [a2]; rfl⟩]
          omega
        have hσ : o_text so σ = (σ.1, 0, σ.2.2 + 1) := by
          rw [hn] at a2
          unfold o_text
          rw [if_neg c0, if_pos c1, if_pos ⟨by omega, by rw [a2]; rfl⟩]
        rw [hσ]
        exact ⟨Sg, fin y6 y7 a3 a5 (by omega) (by omega), sm, cls, ⟨fs1, tx, g, y6, y7, c_m1, (hj 1 (by decide)).trans f1, a3, a5, ctx, sbn_0 hsb, by show y6.toInt = 0; omega, by show y7.toInt = ((σ.2.2 + 1 : Nat) : Int); omega⟩, fun τ H => ⟨by rw [n_text_neg (fun q => c0 q.1)]; exact H.mod c_m c_m1 (hj 20 (by decide)) (hj 32 (by decide)) (hj 33 (by decide)) (hj 34 (by decide)), trivial⟩, v, rfl, hv⟩
      · have nn : ¬ (σ.2.2 < 4 ∧ isRb (sp_rule σ.1 σ.2.1) = true) := by
          intro z
          rcases a1 with a1 | ⟨e, a1⟩
          · omega
          · rw [hn] at a1
            rw [a1] at z
            exact absurd z.2 Bool.false_ne_true
        have hv : v.toInt = v_text so σ := by
          unfold v_text
          rw [if_neg c0, if_pos c1, if_neg nn]
          exact a7
        have hσ : o_text so σ = σ := by
          unfold o_text
          rw [if_neg c0, if_pos c1, if_neg nn]
        rw [hσ]
        exact ⟨Sg, fin len rc a2 a3 ⟨l0, l1⟩ hrc, sm, cls, ⟨fs1, tx, g, len, rc, c_m1, (hj 1 (by decide)).trans f1, a2, a3, ctx, hsb, e1, e2⟩, fun τ H => ⟨by rw [n_text_neg (fun q => c0 q.1)]; exact H.mod c_m c_m1 (hj 20 (by decide)) (hj 32 (by decide)) (hj 33 (by decide)) (hj 34 (by decide)), trivial⟩, v, rfl, hv⟩
    · refine r_text2 ⟨c0, c1⟩ (by decide) (by decide) c_m fl (fun h1 fs1 v c_m1 k1 hv2 hz hj o => ?_)
      have hσ : o_text so σ = σ := by
        unfold o_text
        rw [if_neg c0, if_neg c1]
      rw [hσ]
      refine ⟨Sg, hH.upd (fun a L9 ha => ?_), sm, fun a L9 ha hl => ⟨ha, o a (lab_lt ha sL hl hL5)⟩, ⟨fs1, tx, g, len, rc, c_m1, (hj 1 (by decide)).trans f1, (hj 6 (by decide)).trans f6, (hj 7 (by decide)).trans f7, (o tx n_tx_m).trans c_t, hsb, e1, e2⟩, fun τ H => ⟨by rw [n_text_neg (fun q => c0 q.1)]; exact H.mod c_m c_m1 (hj 20 (by decide)) (hj 32 (by decide)) (hj 33 (by decide)) (hj 34 (by decide)), trivial⟩, v, rfl, by unfold v_text; rw [if_neg c0, if_neg c1]; exact hv2⟩
      by_cases q0 : a = m
      · subst q0
        rw [sL] at ha
        cases ha
        refine Or.inr ⟨_, c_m1, mod_cell hL hH sL c_m k1 (fun k => ?_)⟩
        by_cases k0 : k = 0
        · subst k0; obtain ⟨y0, z0⟩ := hz; exact Or.inr ⟨_, z0, fv_top rfl rfl y0⟩
        exact Or.inl (hj k k0)
      · exact Or.inl (o a q0)
end
