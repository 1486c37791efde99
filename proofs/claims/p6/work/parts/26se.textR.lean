/-! the reference: feed, end, fault, text with what a TOWN shows (made by gen_kS5) -/
section
variable {cA : Nat → ClassId} {h h1 : ch_H} {ad : Nat → Nat} {I I1 : zI} {W W1 : zW} {O : zO} {τ : aN} {φ : zP} {fs1 : List Value}
theorem rS.mv5 (hk : kok τ φ) (H : rS τ φ I W) (o : ∀ L, 58 ≤ L ∧ L ≤ 65 → I1 L = I L) (o55 : ∀ i, i < 54 → I1 55 i = I 55 i) (o6 : ∀ k, k < 39 → I1 56 k = I 56 k) (o5 : ∀ k, k = 7 ∨ k = 20 ∨ 32 ≤ k ∧ k ≤ 35 ∨ k = 39 → I1 50 k = I 50 k) (ow : W1 50 36 = W 50 36 ∧ W1 50 38 = W 50 38) : rS τ φ I1 W1 := by
  obtain ⟨h1, h2, ⟨h3, h32⟩, h4, h5, h6, h7, h8, h9, h10, h11⟩ := H
  refine ⟨⟨by rw [o5 20 (by decide)]; exact h1.1, h1.2.1, fun q hq w hw => by rw [o55 (9 * q + w) (by have := h1.2.1.1; omega)]; exact h1.2.2 q hq w hw⟩, ?_, ⟨h3.bE o6 hk.1.1 hk.2.2.2.1.2.1, ow.1.trans h32⟩, fun g hg => ?_, fun a b ha hb => ?_, fun i hi => ?_, fun i hi => ?_, fun r hr => ?_, ?_, fun z => ?_, ?_⟩
  · rw [o5 32 (by decide), o5 33 (by decide), o5 34 (by decide)]
    exact h2
  · rw [o 59 (by decide)]
    exact h4 g hg
  · rw [o 65 (by decide)]
    exact h5 a b ha hb
  · rw [o 62 (by decide)]
    exact h6 i hi
  · rw [o 63 (by decide), o 64 (by decide)]
    exact h7 i hi
  · rw [o 60 (by decide), o 61 (by decide)]
    exact h8 r hr
  · rw [o5 39 (by decide)]
    exact h9
  · rw [o5 35 (by decide)]
    exact ⟨(h10 z).1, (h10 z).2.1.mv (o 58 (by decide)), ow.2.trans (h10 z).2.2⟩
  · rw [o5 7 (by decide)]
    exact h11
/-- fields that text and fault write -/
def sF (k : Nat) : Bool := k == 0 || (decide (6 ≤ k) && decide (k ≤ 14)) || k == 18 || k == 20 || k == 21
/-- numbers out of fields -/
def nF (fs : List Value) (f : Nat → Int32) (k : Nat) : Int32 := if sF k = true then (match fs[k]? with | some (.int y) => y | _ => f k) else f k
theorem nF_i {fs : List Value} {f : Nat → Int32} {k : Nat} {y : Int32} (hs : sF k = true) (e : fs[k]? = some (.int y)) : nF fs f k = y := by
  unfold nF
  rw [if_pos hs, e]
theorem nF_n {fs : List Value} {f : Nat → Int32} {k : Nat} (hs : ¬ sF k = true) : nF fs f k = f k := if_neg hs
def mR (I : zI) (J : Nat → Int32) (g1 g2 g3 R1 : Nat → Int32) (L : Nat) : Nat → Int32 := if L = 50 then J else if L = 51 then g1 else if L = 52 then g2 else if L = 53 then g3 else if L = 55 then R1 else I L
theorem mR_n {J g1 g2 g3 R1 : Nat → Int32} {L : Nat} (n : ¬ (50 ≤ L ∧ L ≤ 53) ∧ L ≠ 55) : mR I J g1 g2 g3 R1 L = I L := by
  unfold mR
  rw [if_neg (by omega), if_neg (by omega), if_neg (by omega), if_neg (by omega), if_neg (by omega)]
theorem fs_mR (l1 : fs1.length = 47) (hi : ∀ k, sF k = true → ∃ y : Int32, fs1[k]? = some (.int y)) (h5 : ∃ v : Value, fs1[5]? = some v) (hj : ∀ j, ¬ sF j = true → j ≠ 5 → fs1[j]? = (z_fs ad (I 50) (W 50) (O 50) 0 (zZ 50).2.2.2)[j]?) : ∃ o9 : Nat → Value, fs1 = z_fs ad (nF fs1 (I 50)) (W 50) o9 0 (zZ 50).2.2.2 := by
  obtain ⟨v5, h5⟩ := h5
  have hL : (zZ 50).2.2.2.length = 47 := rfl
  have k0 : ∀ k, k < 47 → sF k = true → (zZ 50).2.2.2[k]? = some (0, 0, 0) := by decide +kernel
  refine ⟨fun k => if k = 5 then v5 else O 50 k, List.ext_getElem? (fun j => ?_)⟩
  by_cases c : j < 47
  · by_cases s : sF j = true
    · obtain ⟨y, e⟩ := hi j s
      rw [e, z_fs0 (k0 j c s)]
      show some (Value.int y) = some (.int (nF fs1 (I 50) j))
      rw [nF_i s e]
    · by_cases e5 : j = 5
      · subst e5
        rw [h5, z_fs0 (t := (8, 0, 0)) rfl]
        rfl
      · have ht : (zZ 50).2.2.2[j]? = some ((zZ 50).2.2.2[j]'(by rw [hL]; exact c)) := List.getElem?_eq_getElem (by rw [hL]; exact c)
        rw [hj j s e5, z_fs0 ht, z_fs0 ht]
        unfold z_v
        simp only [nF_n s, if_neg e5]
  · rw [List.getElem?_eq_none (by omega), List.getElem?_eq_none (by rw [z_fs_len, hL]; omega)]
/-- the store when the object, texts and rows were written -/
theorem zr.mR_ {g51 g52 g53 R1 : Nat → Int32} (hz : zr zNM cA ad I W O h) (c1 : h1 (ad 50) = some (.inr (10, fs1))) (l1 : fs1.length = 47) (hi : ∀ k, sF k = true → ∃ y : Int32, fs1[k]? = some (.int y)) (h5 : ∃ v : Value, fs1[5]? = some v) (hj : ∀ j, ¬ sF j = true → j ≠ 5 → fs1[j]? = (z_fs ad (I 50) (W 50) (O 50) 0 (zZ 50).2.2.2)[j]?) (c51 : h1 (ad 51) = some (.inl (cA 2, 160, .inl g51))) (c52 : h1 (ad 52) = some (.inl (cA 2, 640, .inl g52))) (c53 : h1 (ad 53) = some (.inl (cA 0, 4, .inl g53))) (c55 : h1 (ad 55) = some (.inl (cA 0, 108, .inl R1))) (o : ∀ L, zNM L = true → ¬ (50 ≤ L ∧ L ≤ 53) ∧ L ≠ 55 → h1 (ad L) = h (ad L)) : ∃ O1 : zO, zr zNM cA ad (mR I (nF fs1 (I 50)) g51 g52 g53 R1) W O1 h1 := by
  obtain ⟨o9, e9⟩ := fs_mR l1 hi h5 hj
  refine ⟨s2 O 50 o9, fun L hL => ?_, hz.2⟩
  by_cases n0 : L = 50
  · subst n0
    rw [c1, s2_s]
    have e : mR I (nF fs1 (I 50)) g51 g52 g53 R1 50 = nF fs1 (I 50) := rfl
    rw [e]
    show some (Sum.inr (10, fs1)) = some (.inr (10, z_fs ad (nF fs1 (I 50)) (W 50) o9 0 (zZ 50).2.2.2))
    rw [← e9]
  · rw [s2_n n0]
    by_cases n1 : L = 51
    · subst n1
      rw [c51]
      rfl
    by_cases n2 : L = 52
    · subst n2
      rw [c52]
      rfl
    by_cases n3 : L = 53
    · subst n3
      rw [c53]
      rfl
    by_cases n5 : L = 55
    · subst n5
      rw [c55]
      rfl
    · rw [o L hL ⟨by omega, n5⟩, mR_n ⟨by omega, n5⟩]
      exact hz.1 L hL
/-- nothing shown was written -/
theorem FR.mR {g51 g52 g53 R1 : Nat → Int32} (hk : kok τ φ) (hz : zr zNM cA ad I W O h) (hS : rS τ φ I W) (c1 : h1 (ad 50) = some (.inr (10, fs1))) (l1 : fs1.length = 47) (hi : ∀ k, sF k = true → ∃ y : Int32, fs1[k]? = some (.int y)) (h5 : ∃ v : Value, fs1[5]? = some v) (hj : ∀ j, ¬ sF j = true → j ≠ 5 → fs1[j]? = (z_fs ad (I 50) (W 50) (O 50) 0 (zZ 50).2.2.2)[j]?) (c51 : h1 (ad 51) = some (.inl (cA 2, 160, .inl g51))) (c52 : h1 (ad 52) = some (.inl (cA 2, 640, .inl g52))) (c53 : h1 (ad 53) = some (.inl (cA 0, 4, .inl g53))) (c55 : h1 (ad 55) = some (.inl (cA 0, 108, .inl R1))) (o : ∀ L, zNM L = true → ¬ (50 ≤ L ∧ L ≤ 53) ∧ L ≠ 55 → h1 (ad L) = h (ad L)) (h55 : ∀ i, i < 54 → R1 i = I 55 i) (h7 : fs1[7]? = some (.int (I 50 7))) (h20 : fs1[20]? = some (.int (I 50 20))) : FR cA h1 (ad 50) τ φ := by
  obtain ⟨O1, z1⟩ := hz.mR_ c1 l1 hi h5 hj c51 c52 c53 c55 o
  refine ⟨hk, ad, _, W, O1, z1, rfl, hS.mv5 hk (fun L hL => mR_n ⟨by omega, by omega⟩) h55 (fun k _ => ?_) (fun k hk9 => ?_) ⟨rfl, rfl⟩⟩
  · rw [mR_n ⟨by omega, by omega⟩]
  · show nF fs1 (I 50) k = I 50 k
    by_cases c7 : k = 7
    · subst c7
      exact nF_i rfl h7
    by_cases c20 : k = 20
    · subst c20
      exact nF_i rfl h20
    · have hd : ∀ q, q < 47 → (32 ≤ q ∧ q ≤ 35 ∨ q = 39) → ¬ sF q = true := by decide +kernel
      exact nF_n (hd k (by omega) (by omega))
/-- one RULE more -/
theorem rS.ru {c : Int32} {f : Nat → (Nat → Int) → Int} (hk : kok τ φ) (H : rS τ φ I W) (o : ∀ L, 58 ≤ L ∧ L ≤ 65 → I1 L = I L) (o55 : ∀ i, i < 54 → I1 55 i = I 55 i) (o6 : ∀ k, k < 39 → I1 56 k = I 56 k) (o5 : ∀ k, k = 20 ∨ 32 ≤ k ∧ k ≤ 35 ∨ k = 39 → I1 50 k = I 50 k) (oc : I1 50 7 = c) (ow : W1 50 36 = W 50 36 ∧ W1 50 38 = W 50 38) : rS τ (s2 φ.1 50 (upd (φ.1 50) 7 c), φ.2.1, φ.2.2.1, f) I1 W1 := by
  have H2 : rS τ φ (s2 I1 50 (upd (I1 50) 7 (I 50 7))) W1 := H.mv5 hk (fun L hL => (s2_n (by omega)).trans (o L hL)) (fun i hi => (congrFun (s2_n (by decide)) i).trans (o55 i hi)) (fun k hk9 => (congrFun (s2_n (by decide)) k).trans (o6 k hk9)) (fun k hk9 => by
    rw [s2_s]
    by_cases c7 : k = 7
    · subst c7
      rw [upd_s]
    · rw [upd_n _ _ c7]
      exact o5 k (by omega)) ow
  obtain ⟨h1, h2, ⟨h3, h32⟩, h4, h5, h6, h7, h8, h9, h10, h11⟩ := H2
  obtain ⟨K9, eK⟩ : ∃ K9 : zI, K9 = s2 φ.1 50 (upd (φ.1 50) 7 c) := ⟨_, rfl⟩
  rw [← eK]
  have kn : ∀ L, L ≠ 50 → K9 L = φ.1 L := fun L hL => by rw [eK, s2_n hL]
  have k5 : ∀ k, k ≠ 7 → K9 50 k = φ.1 50 k := fun k hk => by rw [eK, s2_s, upd_n _ _ hk]
  have j5 : ∀ k, k ≠ 7 → s2 I1 50 (upd (I1 50) 7 (I 50 7)) 50 k = I1 50 k := fun k hk => by rw [s2_s, upd_n _ _ hk]
  have jn : ∀ L, L ≠ 50 → s2 I1 50 (upd (I1 50) 7 (I 50 7)) L = I1 L := fun L hL => s2_n hL
  refine ⟨h1.mv (j5 20 (by decide)).symm (jn 55 (by decide)).symm, ?_, ⟨?_, h32⟩, fun g hg => ?_, fun a b ha hb => ?_, fun i hi => ?_, fun i hi => ?_, fun r hr => ?_, ?_, fun z => ?_, ?_⟩
  · rw [j5 32 (by decide), j5 33 (by decide), j5 34 (by decide)] at h2
    exact h2
  · show tx I1 56 τ.1 τ.2.2.1 (K9 56)
    rw [kn 56 (by decide)]
    exact h3.mv (jn 56 (by decide)).symm
  · have e := h4 g hg
    rw [jn 59 (by decide)] at e
    show I1 59 (12 + g) = K9 59 (12 + g)
    rw [kn 59 (by decide)]
    exact e
  · have e := h5 a b ha hb
    rw [jn 65 (by decide)] at e
    show I1 65 (18 * a + b) = K9 65 (18 * a + b) ∧ 0 ≤ (K9 65 (18 * a + b)).toInt ∧ (K9 65 (18 * a + b)).toInt ≤ 1
    rw [kn 65 (by decide)]
    exact e
  · have e := h6 i hi
    rw [jn 62 (by decide)] at e
    show I1 62 i = K9 62 i
    rw [kn 62 (by decide)]
    exact e
  · have e := h7 i hi
    rw [jn 63 (by decide), jn 64 (by decide)] at e
    show I1 63 i = K9 63 i ∧ I1 64 i = K9 64 i
    rw [kn 63 (by decide), kn 64 (by decide)]
    exact e
  · have e := h8 r hr
    rw [jn 60 (by decide), jn 61 (by decide)] at e
    show I1 60 r = K9 60 r ∧ I1 61 r = K9 61 r
    rw [kn 60 (by decide), kn 61 (by decide)]
    exact e
  · rw [j5 39 (by decide)] at h9
    show (I1 50 39).toInt = (K9 50 39).toInt
    rw [k5 39 (by decide)]
    exact h9
  · have z : (K9 50 39).toInt = 1 := z
    rw [k5 39 (by decide)] at z
    have e := h10 z
    rw [j5 35 (by decide)] at e
    show (I1 50 35).toInt = (K9 50 35).toInt ∧ tx I1 58 τ.1 (K9 50 35).toInt.toNat (K9 58) ∧ W1 50 38 = φ.2.1 38
    rw [k5 35 (by decide), kn 58 (by decide)]
    exact ⟨e.1, e.2.1.mv (jn 58 (by decide)).symm, e.2.2⟩
  · show I1 50 7 = K9 50 7
    rw [oc, eK, s2_s, upd_s]
end
section
variable {l : Launch} {D : va_G} {tys : List (ClassId × FieldType)} {A : Nat → Prop} {X : State → Prop} {cA : Nat → ClassId} {Sg : Nat → Option Nat} {h : ch_H} {m n : Nat} {ρ : aRw} {τ : aN} {φ : zP} {σ : aS} {aK aV : Nat → Nat}
theorem kG_feed (hT : k_tys tys cA) {wa wb wc wd we : Int32} (hH : k_H Sg cA Lb h) (sm : sgM Sg m) (hR : aR cA h m σ) (H : FR cA h m τ φ) : tt l D tys A X 1 30 0 0 mX11_feed (fun _ g => FR cA g m τ φ ∧ True) 0 (lv_args 0 [.ref m, .int wa, .int wb, .int wc, .int wd, .int we]) [] h 0 0 := by
  obtain ⟨fs, tx, g, len, rc, c_m, f1, f6, f7, c_t, hsb, e1, e2⟩ := hR
  obtain ⟨hk, ad, I, W, O, hz, rfl, hS⟩ := H
  have ef : fs = z_fs ad (I 50) (W 50) (O 50) 0 (zZ 50).2.2.2 := by
    have := c_m.symm.trans (hz.ob (L := 50) (ts := (zZ 50).2.2.2) rfl rfl)
    cases this
    rfl
  have c51 := hz.ar (L := 51) (f := I 51) rfl rfl rfl
  have c52 := hz.ar (L := 52) (f := I 52) rfl rfl rfl
  have c53 := hz.ar (L := 53) (f := I 53) rfl rfl rfl
  have c55 := hz.ar (L := 55) (f := I 55) rfl rfl rfl
  have rf : ∀ k L1 : Nat, (zZ 50).2.2.2[k]? = some (2, ((L1 : Nat) : Int), 0) → fs[k]? = some (.ref (ad L1)) := fun k L1 hk9 => by
    rw [ef]
    exact z_fsR hk9 rfl rfl
  have nf : ∀ k : Nat, (zZ 50).2.2.2[k]? = some (0, 0, 0) → fs[k]? = some (.int (I 50 k)) := fun k hk9 => by
    rw [ef]
    exact z_fsI hk9 rfl
  have k0 : ∀ k, k < 47 → sF k = true → (zZ 50).2.2.2[k]? = some (0, 0, 0) := by decide +kernel
  have sl : ∀ k, sF k = true → k < 47 := fun k hk9 => by
    unfold sF at hk9
    simp only [Bool.or_eq_true, Bool.and_eq_true, beq_iff_eq, decide_eq_true_eq] at hk9
    omega
  have sn : ∀ k, ¬ sF k = true → ¬ (k = 0 ∨ 6 ≤ k ∧ k ≤ 14 ∨ k = 18 ∨ k = 20 ∨ k = 21) := fun k hk9 z => hk9 (by
    unfold sF
    simp only [Bool.or_eq_true, Bool.and_eq_true, beq_iff_eq, decide_eq_true_eq]
    omega)
  have i0 : ∀ k, sF k = true → ∃ y : Int32, fs[k]? = some (.int y) := fun k hk9 => ⟨_, nf k (k0 k (sl k hk9) hk9)⟩
  have v5 : ∃ v : Value, fs[5]? = some v := by
    rw [ef]
    exact ⟨_, rfl⟩
  have at51 : tx = ad 51 := by
    have := rf 1 51 rfl
    rw [f1] at this
    cases this
    rfl
  obtain ⟨L, le, ro, te, tl, dp, rd, gl, R, gt, gz, sL, hro, fl, l0, l1, s_tx, -⟩ := T_M hH sm.1 c_m f1 f6
  obtain ⟨hL, hL5⟩ := m_ge hro
  have hn : len.toInt.toNat = σ.2.1 := by omega
  have nxm : tx ≠ ad 50 := k_sg_ne s_tx sL (by omega)
  subst at51
  show ww l D tys A X 1 30 mX11_feed _ 0 [(0, .ref (ad 50)), (1, .int wa), (2, .int wb), (3, .int wc), (4, .int wd), (5, .int we)] [] h
  refine r_feed hT (by decide) (by decide) (f := σ.1) (by rw [hn]; exact hsb) ⟨c_m, fl, f1, f6, nxm, nxm.symm, c_t, l0, l1⟩ (fun h1 fs1 g1 len1 v H1 hh hz0 hj o => ⟨?_, trivial⟩)
  obtain ⟨q1, q2, q3, q4, q5, q6, q7, -⟩ := H1
  exact FR.mR hk hz hS q1 q2 (fun k hk9 => by
    by_cases k0 : k = 0
    · subst k0; exact hz0
    by_cases k6 : k = 6
    · subst k6; exact ⟨_, q4⟩
    rw [hj k ⟨k0, k6⟩]
    exact i0 k hk9) (by rw [hj 5 (by decide)]; exact v5) (fun j hj9 j5 => by rw [hj j (by have := sn j hj9; omega), ef]) q7 ((o _ ⟨hz.ne rfl rfl (by decide), hz.ne rfl rfl (by decide)⟩).trans c52) ((o _ ⟨hz.ne rfl rfl (by decide), hz.ne rfl rfl (by decide)⟩).trans c53) ((o _ ⟨hz.ne rfl rfl (by decide), hz.ne rfl rfl (by decide)⟩).trans c55) (fun L hL n => o _ ⟨hz.ne hL rfl (by omega), hz.ne hL rfl (by omega)⟩) (fun _ _ => rfl) ((hj 7 (by decide)).trans (nf 7 rfl)) ((hj 20 (by decide)).trans (nf 20 rfl))
theorem kG_end (hT : k_tys tys cA) {n9 : Int32} (hH : k_H Sg cA Lb h) (sm : sgM Sg m) (hR : aR cA h m σ) (H : FR cA h m τ φ) : tt l D tys A X 1 30 0 0 mX11_end (fun _ g => FR cA g m τ φ ∧ True) 0 (lv_args 0 [.ref m, .int n9]) [] h 0 0 := by
  obtain ⟨fs, tx, g, len, rc, c_m, f1, f6, f7, c_t, hsb, e1, e2⟩ := hR
  obtain ⟨hk, ad, I, W, O, hz, rfl, hS⟩ := H
  have ef : fs = z_fs ad (I 50) (W 50) (O 50) 0 (zZ 50).2.2.2 := by
    have := c_m.symm.trans (hz.ob (L := 50) (ts := (zZ 50).2.2.2) rfl rfl)
    cases this
    rfl
  have c51 := hz.ar (L := 51) (f := I 51) rfl rfl rfl
  have c52 := hz.ar (L := 52) (f := I 52) rfl rfl rfl
  have c53 := hz.ar (L := 53) (f := I 53) rfl rfl rfl
  have c55 := hz.ar (L := 55) (f := I 55) rfl rfl rfl
  have rf : ∀ k L1 : Nat, (zZ 50).2.2.2[k]? = some (2, ((L1 : Nat) : Int), 0) → fs[k]? = some (.ref (ad L1)) := fun k L1 hk9 => by
    rw [ef]
    exact z_fsR hk9 rfl rfl
  have nf : ∀ k : Nat, (zZ 50).2.2.2[k]? = some (0, 0, 0) → fs[k]? = some (.int (I 50 k)) := fun k hk9 => by
    rw [ef]
    exact z_fsI hk9 rfl
  have k0 : ∀ k, k < 47 → sF k = true → (zZ 50).2.2.2[k]? = some (0, 0, 0) := by decide +kernel
  have sl : ∀ k, sF k = true → k < 47 := fun k hk9 => by
    unfold sF at hk9
    simp only [Bool.or_eq_true, Bool.and_eq_true, beq_iff_eq, decide_eq_true_eq] at hk9
    omega
  have sn : ∀ k, ¬ sF k = true → ¬ (k = 0 ∨ 6 ≤ k ∧ k ≤ 14 ∨ k = 18 ∨ k = 20 ∨ k = 21) := fun k hk9 z => hk9 (by
    unfold sF
    simp only [Bool.or_eq_true, Bool.and_eq_true, beq_iff_eq, decide_eq_true_eq]
    omega)
  have i0 : ∀ k, sF k = true → ∃ y : Int32, fs[k]? = some (.int y) := fun k hk9 => ⟨_, nf k (k0 k (sl k hk9) hk9)⟩
  have v5 : ∃ v : Value, fs[5]? = some v := by
    rw [ef]
    exact ⟨_, rfl⟩
  have at51 : tx = ad 51 := by
    have := rf 1 51 rfl
    rw [f1] at this
    cases this
    rfl
  obtain ⟨L, le, ro, te, tl, dp, rd, gl, R, gt, gz, sL, hro, fl, l0, l1, s_tx, -⟩ := T_M hH sm.1 c_m f1 f6
  obtain ⟨hL, hL5⟩ := m_ge hro
  have nxm : tx ≠ ad 50 := k_sg_ne s_tx sL (by omega)
  subst at51
  show ww l D tys A X 1 30 mX11_end _ 0 [(0, .ref (ad 50)), (1, .int n9)] [] h
  refine r_end ⟨c_m, fl, f1, f6, nxm, nxm.symm, c_t, l0, l1⟩ (fun h1 fs1 len1 v H1 hh hz0 hj o => ⟨?_, trivial⟩)
  obtain ⟨q1, q2, q3, q4, q5, q6, q7, -⟩ := H1
  exact FR.mR hk hz hS q1 q2 (fun k hk9 => by
    by_cases k0 : k = 0
    · subst k0; exact hz0
    by_cases k6 : k = 6
    · subst k6; exact ⟨_, q4⟩
    rw [hj k ⟨k0, k6⟩]
    exact i0 k hk9) (by rw [hj 5 (by decide)]; exact v5) (fun j hj9 j5 => by rw [hj j (by have := sn j hj9; omega), ef]) q7 ((o _ ⟨hz.ne rfl rfl (by decide), hz.ne rfl rfl (by decide)⟩).trans c52) ((o _ ⟨hz.ne rfl rfl (by decide), hz.ne rfl rfl (by decide)⟩).trans c53) ((o _ ⟨hz.ne rfl rfl (by decide), hz.ne rfl rfl (by decide)⟩).trans c55) (fun L hL n => o _ ⟨hz.ne hL rfl (by omega), hz.ne hL rfl (by omega)⟩) (fun _ _ => rfl) ((hj 7 (by decide)).trans (nf 7 rfl)) ((hj 20 (by decide)).trans (nf 20 rfl))
theorem kG_fault (hT : k_tys tys cA) (hX : ∀ s, X s → xs A aK aV s) {so : Int32} (hH : k_H Sg cA Lb h) (sm : sgM Sg m) (hR : aR cA h m σ) (H : FR cA h m τ φ) : tt l D tys A X 40 1120 0 0 mX11_fault (fun _ g => FR cA g m τ φ ∧ True) 0 (lv_args 0 [.ref m, .int so]) [] h 0 0 := by
  obtain ⟨fs, tx, g, len, rc, c_m, f1, f6, f7, c_t, hsb, e1, e2⟩ := hR
  obtain ⟨hk, ad, I, W, O, hz, rfl, hS⟩ := H
  have ef : fs = z_fs ad (I 50) (W 50) (O 50) 0 (zZ 50).2.2.2 := by
    have := c_m.symm.trans (hz.ob (L := 50) (ts := (zZ 50).2.2.2) rfl rfl)
    cases this
    rfl
  have c51 := hz.ar (L := 51) (f := I 51) rfl rfl rfl
  have c52 := hz.ar (L := 52) (f := I 52) rfl rfl rfl
  have c53 := hz.ar (L := 53) (f := I 53) rfl rfl rfl
  have c55 := hz.ar (L := 55) (f := I 55) rfl rfl rfl
  have rf : ∀ k L1 : Nat, (zZ 50).2.2.2[k]? = some (2, ((L1 : Nat) : Int), 0) → fs[k]? = some (.ref (ad L1)) := fun k L1 hk9 => by
    rw [ef]
    exact z_fsR hk9 rfl rfl
  have nf : ∀ k : Nat, (zZ 50).2.2.2[k]? = some (0, 0, 0) → fs[k]? = some (.int (I 50 k)) := fun k hk9 => by
    rw [ef]
    exact z_fsI hk9 rfl
  have k0 : ∀ k, k < 47 → sF k = true → (zZ 50).2.2.2[k]? = some (0, 0, 0) := by decide +kernel
  have sl : ∀ k, sF k = true → k < 47 := fun k hk9 => by
    unfold sF at hk9
    simp only [Bool.or_eq_true, Bool.and_eq_true, beq_iff_eq, decide_eq_true_eq] at hk9
    omega
  have sn : ∀ k, ¬ sF k = true → ¬ (k = 0 ∨ 6 ≤ k ∧ k ≤ 14 ∨ k = 18 ∨ k = 20 ∨ k = 21) := fun k hk9 z => hk9 (by
    unfold sF
    simp only [Bool.or_eq_true, Bool.and_eq_true, beq_iff_eq, decide_eq_true_eq]
    omega)
  have i0 : ∀ k, sF k = true → ∃ y : Int32, fs[k]? = some (.int y) := fun k hk9 => ⟨_, nf k (k0 k (sl k hk9) hk9)⟩
  have v5 : ∃ v : Value, fs[5]? = some v := by
    rw [ef]
    exact ⟨_, rfl⟩
  have at51 : tx = ad 51 := by
    have := rf 1 51 rfl
    rw [f1] at this
    cases this
    rfl
  obtain ⟨L, le, ro, te, tl, dp, rd, gl, R, gt, gz, sL, hro, fl, l0, l1, s_tx, s_te, s_tl, s_le, f2, f3, f4, f12, f19, f21, c_le, c_ro, hTD, c_te, b_te, c_tl, b_tl, hrc, hints, h18⟩ := T_M hH sm.1 c_m f1 f6
  obtain ⟨hL, hL5⟩ := m_ge hro
  obtain ⟨Mr, s_ro, hr5, hr1, hr2, hr3, hr4, hr6⟩ := ro_ge hro
  have hrc := hrc rc f7
  have hn : len.toInt.toNat = σ.2.1 := by omega
  have hnz : ∀ i, i < len.toInt.toNat → 1 ≤ (σ.1 i).toInt := by rw [hn]; exact hsb.2.1
  have hs : sb g σ.1 0 len.toInt.toNat := by rw [hn]; exact hsb.1
  have at55 : ro = ad 55 := by
    have := rf 19 55 rfl
    rw [f19] at this
    cases this
    rfl
  have at52 : te = ad 52 := by
    have := rf 2 52 rfl
    rw [f2] at this
    cases this
    rfl
  have at53 : tl = ad 53 := by
    have := rf 3 53 rfl
    rw [f3] at this
    cases this
    rfl
  have eR : R = I 55 := by
    have e2 := c55
    rw [← at55, c_ro] at e2
    exact Sum.inl.inj (Prod.mk.inj (Prod.mk.inj (Sum.inl.inj (Option.some.inj e2))).2).2
  have er7 : rc = I 50 7 := by
    have := nf 7 rfl
    rw [f7] at this
    cases this
    rfl
  show ww l D tys A X 40 1120 mX11_fault _ 0 [(0, .ref (ad 50)), (1, .int so)] [] h
  by_cases c0 : so.toInt = 0
  · refine r_fault0 hT hX c0 (by decide) (by decide) hnz hs ⟨l0, l1, l1⟩ c_m fl f1 f4 f6 f12 f19 f21 (k_sg_ne s_tx sL (by omega)) (k_sg_ne s_le sL (by omega)) (k_sg_ne s_ro sL hr1) (k_sg_ne s_ro s_tx hr2) (k_sg_ne s_ro s_le hr6) c_t c_le c_ro hTD (fun h1 fs1 at1 fl1 rd1 bg1 R1 p e0 e21 erd es _ hlo hz0 hj o => ⟨?_, trivial⟩)
    have c_ro1 := p.2.2.2.2.2.2.2.2.1
    subst at55
    obtain ⟨⟨⟨⟨q1, q2, e5, e8, e9, e10, e11⟩, e12, -⟩, -⟩, -⟩ := p
    exact FR.mR hk hz hS q1 q2 (fun k hk9 => by
      by_cases k0 : k = 0
      · subst k0; exact hz0
      by_cases k8 : k = 8
      · subst k8; exact ⟨_, e8⟩
      by_cases k9 : k = 9
      · subst k9; exact ⟨_, e9⟩
      by_cases k10 : k = 10
      · subst k10; exact ⟨_, e10⟩
      by_cases k11 : k = 11
      · subst k11; exact ⟨_, e11⟩
      by_cases k12 : k = 12
      · subst k12; exact ⟨_, e12⟩
      by_cases k21 : k = 21
      · subst k21; exact ⟨_, e21⟩
      have n5 : k ≠ 5 := fun e => by subst e; cases hk9
      rw [hj k ⟨k0, n5, k8, k9, k10, k11, k12, k21⟩]
      exact i0 k hk9) ⟨_, e5⟩ (fun j hj9 j5 => by rw [hj j (by have := sn j hj9; omega), ef]) ((o _ ⟨hz.ne rfl rfl (by decide), hz.ne rfl rfl (by decide)⟩).trans c51) ((o _ ⟨hz.ne rfl rfl (by decide), hz.ne rfl rfl (by decide)⟩).trans c52) ((o _ ⟨hz.ne rfl rfl (by decide), hz.ne rfl rfl (by decide)⟩).trans c53) c_ro1 (fun L hL n => o _ ⟨hz.ne hL rfl (by omega), hz.ne hL rfl (by omega)⟩) (fun i hi => (hlo i hi).trans (congrFun eR i)) ((hj 7 (by decide)).trans (nf 7 rfl)) ((hj 20 (by decide)).trans (nf 20 rfl))
  · by_cases c1 : so.toInt = 1
    · refine r_fault1 hT hX c1 (by decide) (by decide) hnz hs ⟨l0, l1, l1⟩ c_m fl f1 f4 f6 f12 f19 f21 (k_sg_ne s_tx sL (by omega)) (k_sg_ne s_le sL (by omega)) (k_sg_ne s_ro sL hr1) (k_sg_ne s_ro s_tx hr2) (k_sg_ne s_ro s_le hr6) c_t c_le c_ro hTD (fun h1 fs1 at1 fl1 dp1 bg1 p _ es _ hz0 hj o => ⟨?_, trivial⟩)
      obtain ⟨t5, t8, x18, t18, -⟩ := p.ft
      obtain ⟨⟨⟨⟨q1, q2, e5, e8, e9, e10, e11⟩, e12, -⟩, -⟩, -⟩ := p
      exact FR.mR hk hz hS q1 q2 (fun k hk9 => by
        by_cases k0 : k = 0
        · subst k0; exact hz0
        by_cases k8 : 8 ≤ k ∧ k ≤ 14
        · exact t8 k k8
        by_cases k18 : k = 18
        · subst k18; exact ⟨_, t18⟩
        have n5 : k ≠ 5 := fun e => by subst e; cases hk9
        rw [hj k (by omega)]
        exact i0 k hk9) ⟨_, e5⟩ (fun j hj9 j5 => by rw [hj j (by have := sn j hj9; omega), ef]) ((o _ (hz.ne rfl rfl (by decide))).trans c51) ((o _ (hz.ne rfl rfl (by decide))).trans c52) ((o _ (hz.ne rfl rfl (by decide))).trans c53) ((o _ (hz.ne rfl rfl (by decide))).trans c55) (fun L hL n => o _ (hz.ne hL rfl (by omega))) (fun _ _ => rfl) ((hj 7 (by decide)).trans (nf 7 rfl)) ((hj 20 (by decide)).trans (nf 20 rfl))
    · refine r_fault2 ⟨c0, c1⟩ (by decide) (by decide) c_m fl f1 f4 f6 f12 f19 f21 (fun h1 fs1 v c_m1 k1 hv hz0 hj o => ⟨?_, trivial⟩)
      exact FR.mR hk hz hS c_m1 k1 (fun k hk9 => by
        by_cases k0 : k = 0
        · subst k0; exact hz0
        rw [hj k k0]
        exact i0 k hk9) (by rw [hj 5 (by decide)]; exact v5) (fun j hj9 j5 => by rw [hj j (by have := sn j hj9; omega), ef]) ((o _ (hz.ne rfl rfl (by decide))).trans c51) ((o _ (hz.ne rfl rfl (by decide))).trans c52) ((o _ (hz.ne rfl rfl (by decide))).trans c53) ((o _ (hz.ne rfl rfl (by decide))).trans c55) (fun L hL n => o _ (hz.ne hL rfl (by omega))) (fun _ _ => rfl) ((hj 7 (by decide)).trans (nf 7 rfl)) ((hj 20 (by decide)).trans (nf 20 rfl))
theorem kG_text (hT : k_tys tys cA) (hX : ∀ s, X s → xs A aK aV s) {so : Int32} {seed : Int64} (hH : k_H Sg cA Lb h) (sm : sgM Sg m) (hR : aR cA h m σ) (H : FR cA h m τ φ) : tt l D tys A X 60 2000 0 0 mX11_text (fun _ g => FR cA g m (n_text so σ τ) (k9_text so seed σ φ) ∧ True) 0 (lv_args 0 [.ref m, .int so, .long seed]) [] h 0 0 := by
  obtain ⟨fs, tx, g, len, rc, c_m, f1, f6, f7, c_t, hsb, e1, e2⟩ := hR
  obtain ⟨hk, ad, I, W, O, hz, rfl, hS⟩ := H
  have ef : fs = z_fs ad (I 50) (W 50) (O 50) 0 (zZ 50).2.2.2 := by
    have := c_m.symm.trans (hz.ob (L := 50) (ts := (zZ 50).2.2.2) rfl rfl)
    cases this
    rfl
  have c51 := hz.ar (L := 51) (f := I 51) rfl rfl rfl
  have c52 := hz.ar (L := 52) (f := I 52) rfl rfl rfl
  have c53 := hz.ar (L := 53) (f := I 53) rfl rfl rfl
  have c55 := hz.ar (L := 55) (f := I 55) rfl rfl rfl
  have rf : ∀ k L1 : Nat, (zZ 50).2.2.2[k]? = some (2, ((L1 : Nat) : Int), 0) → fs[k]? = some (.ref (ad L1)) := fun k L1 hk9 => by
    rw [ef]
    exact z_fsR hk9 rfl rfl
  have nf : ∀ k : Nat, (zZ 50).2.2.2[k]? = some (0, 0, 0) → fs[k]? = some (.int (I 50 k)) := fun k hk9 => by
    rw [ef]
    exact z_fsI hk9 rfl
  have k0 : ∀ k, k < 47 → sF k = true → (zZ 50).2.2.2[k]? = some (0, 0, 0) := by decide +kernel
  have sl : ∀ k, sF k = true → k < 47 := fun k hk9 => by
    unfold sF at hk9
    simp only [Bool.or_eq_true, Bool.and_eq_true, beq_iff_eq, decide_eq_true_eq] at hk9
    omega
  have sn : ∀ k, ¬ sF k = true → ¬ (k = 0 ∨ 6 ≤ k ∧ k ≤ 14 ∨ k = 18 ∨ k = 20 ∨ k = 21) := fun k hk9 z => hk9 (by
    unfold sF
    simp only [Bool.or_eq_true, Bool.and_eq_true, beq_iff_eq, decide_eq_true_eq]
    omega)
  have i0 : ∀ k, sF k = true → ∃ y : Int32, fs[k]? = some (.int y) := fun k hk9 => ⟨_, nf k (k0 k (sl k hk9) hk9)⟩
  have v5 : ∃ v : Value, fs[5]? = some v := by
    rw [ef]
    exact ⟨_, rfl⟩
  have at51 : tx = ad 51 := by
    have := rf 1 51 rfl
    rw [f1] at this
    cases this
    rfl
  obtain ⟨L, le, ro, te, tl, dp, rd, gl, R, gt, gz, sL, hro, fl, l0, l1, s_tx, s_te, s_tl, s_le, f2, f3, f4, f12, f19, f21, c_le, c_ro, hTD, c_te, b_te, c_tl, b_tl, hrc, hints, h18⟩ := T_M hH sm.1 c_m f1 f6
  obtain ⟨hL, hL5⟩ := m_ge hro
  obtain ⟨Mr, s_ro, hr5, hr1, hr2, hr3, hr4, hr6⟩ := ro_ge hro
  have hrc := hrc rc f7
  have hn : len.toInt.toNat = σ.2.1 := by omega
  have hnz : ∀ i, i < len.toInt.toNat → 1 ≤ (σ.1 i).toInt := by rw [hn]; exact hsb.2.1
  have hs : sb g σ.1 0 len.toInt.toNat := by rw [hn]; exact hsb.1
  have at55 : ro = ad 55 := by
    have := rf 19 55 rfl
    rw [f19] at this
    cases this
    rfl
  have at52 : te = ad 52 := by
    have := rf 2 52 rfl
    rw [f2] at this
    cases this
    rfl
  have at53 : tl = ad 53 := by
    have := rf 3 53 rfl
    rw [f3] at this
    cases this
    rfl
  have eR : R = I 55 := by
    have e2 := c55
    rw [← at55, c_ro] at e2
    exact Sum.inl.inj (Prod.mk.inj (Prod.mk.inj (Sum.inl.inj (Option.some.inj e2))).2).2
  have er7 : rc = I 50 7 := by
    have := nf 7 rfl
    rw [f7] at this
    cases this
    rfl
  have n_ro_m : ro ≠ ad 50 := k_sg_ne s_ro sL hr1
  have n_tx_m : tx ≠ ad 50 := k_sg_ne s_tx sL (by omega)
  have n_ro_tx : ro ≠ tx := k_sg_ne s_ro s_tx hr2
  show ww l D tys A X 60 2000 mX11_text _ 0 [(0, .ref (ad 50)), (1, .int so), (2, .long seed)] [] h
  by_cases c0 : so.toInt = 0
  · refine r_text0V hT hX c0 (by decide) (by decide) hnz hs ⟨l0, l1, l1⟩ c_m fl f1 f4 f6 f12 f19 f21 n_tx_m (k_sg_ne s_le sL (by omega)) n_ro_m n_ro_tx (k_sg_ne s_ro s_le hr6) c_t c_le c_ro hTD (fun h1 fs1 R1 rd1 v _ _ _ p hz0 e21 erd hlo f61 h20 hbad hvm hj o => ⟨?_, trivial⟩) (fun h1 fs1 R1 R2 k1 rd1 c_m1 k1l c_ro1 hR2 hR3 hints1 f61 f20 f211 erd hTD1 h62 hgood hvS htv hj o => ?_)
    · obtain ⟨e9, he⟩ := hbad
      rw [hn] at he
      have no : ¬ isRb (sp_town σ.1 σ.2.1).1 = true := fun q2 => by rw [he] at q2; cases q2
      rw [n_text_neg (fun q => no q.2), show k9_text so seed σ φ = φ from (if_pos c0).trans (if_neg no)]
      have c_ro1 := p.2.2.2.2.2.2.2.2.1
      subst at55
      obtain ⟨⟨⟨⟨q1, q2, e5, e8, e9, e10, e11⟩, e12, -⟩, -⟩, -⟩ := p
      exact FR.mR hk hz hS q1 q2 (fun k hk9 => by
        by_cases k0 : k = 0
        · subst k0; exact hz0
        by_cases k6 : k = 6
        · subst k6; exact ⟨_, f61⟩
        by_cases k8 : k = 8
        · subst k8; exact ⟨_, e8⟩
        by_cases k9 : k = 9
        · subst k9; exact ⟨_, e9⟩
        by_cases k10 : k = 10
        · subst k10; exact ⟨_, e10⟩
        by_cases k11 : k = 11
        · subst k11; exact ⟨_, e11⟩
        by_cases k12 : k = 12
        · subst k12; exact ⟨_, e12⟩
        by_cases k20 : k = 20
        · subst k20; rw [h20]; exact i0 20 rfl
        by_cases k21 : k = 21
        · subst k21; exact ⟨_, e21⟩
        have n5 : k ≠ 5 := fun e => by subst e; cases hk9
        rw [hj k ⟨k0, n5, k6, k8, k9, k10, k11, k12, k20, k21⟩]
        exact i0 k hk9) ⟨_, e5⟩ (fun j hj9 j5 => by rw [hj j (by have := sn j hj9; omega), ef]) ((o _ ⟨hz.ne rfl rfl (by decide), hz.ne rfl rfl (by decide)⟩).trans c51) ((o _ ⟨hz.ne rfl rfl (by decide), hz.ne rfl rfl (by decide)⟩).trans c52) ((o _ ⟨hz.ne rfl rfl (by decide), hz.ne rfl rfl (by decide)⟩).trans c53) c_ro1 (fun L hL n => o _ ⟨hz.ne hL rfl (by omega), hz.ne hL rfl (by omega)⟩) (fun i hi => (hlo i hi).trans (congrFun eR i)) ((hj 7 (by decide)).trans (nf 7 rfl)) (h20.trans (nf 20 rfl))
    · obtain ⟨e9, he⟩ := hgood
      rw [hn] at he htv hvS
      obtain ⟨z0, v51, z8, z9, z10, z11, z12⟩ := hints1
      obtain ⟨y6, z6, e6⟩ := f61
      have yes : isRb (sp_town σ.1 σ.2.1).1 = true := by rw [he]; rfl
      have wf : wfR (sp_town σ.1 σ.2.1).2 (sp_tv σ.1 σ.2.1 6 0 0 (fun _ _ => 0)) := wfR_town he
      subst at55
      obtain ⟨O1, z1⟩ := hz.mR_ (R1 := R2) c_m1 k1l (fun k hk9 => by
        by_cases k0 : k = 0
        · subst k0; exact z0
        by_cases k6 : k = 6
        · subst k6; exact ⟨_, z6⟩
        by_cases k8 : k = 8
        · subst k8; exact z8
        by_cases k9 : k = 9
        · subst k9; exact z9
        by_cases k10 : k = 10
        · subst k10; exact z10
        by_cases k11 : k = 11
        · subst k11; exact z11
        by_cases k12 : k = 12
        · subst k12; exact z12
        by_cases k20 : k = 20
        · subst k20; exact ⟨_, f20⟩
        by_cases k21 : k = 21
        · subst k21; exact ⟨_, f211⟩
        have n5 : k ≠ 5 := fun e => by subst e; cases hk9
        rw [hj k ⟨k0, n5, k6, k8, k9, k10, k11, k12, k20, k21⟩]
        exact i0 k hk9) v51 (fun j hj9 j5 => by rw [hj j (by have := sn j hj9; omega), ef]) ((o _ ⟨hz.ne rfl rfl (by decide), hz.ne rfl rfl (by decide)⟩).trans c51) ((o _ ⟨hz.ne rfl rfl (by decide), hz.ne rfl rfl (by decide)⟩).trans c52) ((o _ ⟨hz.ne rfl rfl (by decide), hz.ne rfl rfl (by decide)⟩).trans c53) c_ro1 (fun L hL n => o _ ⟨hz.ne hL rfl (by omega), hz.ne hL rfl (by omega)⟩)
      obtain ⟨I1, eI⟩ : ∃ J : zI, J = mR I (nF fs1 (I 50)) (I 51) (I 52) (I 53) R2 := ⟨_, rfl⟩
      rw [← eI] at z1
      have i20 : (I1 50 20).toInt = ((sp_town σ.1 σ.2.1).2 : Int) := by
        rw [eI]
        show (nF fs1 (I 50) 20).toInt = _
        rw [nF_i rfl f20]
        exact hvS
      have i7 : I1 50 7 = I 50 7 := by
        rw [eI]
        show nF fs1 (I 50) 7 = _
        exact nF_i rfl ((hj 7 (by decide)).trans (nf 7 rfl))
      have i55 : I1 55 = R2 := by rw [eI]; rfl
      have hp : qz I1 (sp_town σ.1 σ.2.1).2 (sp_tv σ.1 σ.2.1 6 0 0 (fun _ _ => 0)) := by
        have w6 := wf.1
        refine ⟨i20, wf, fun q hq w hw => ?_⟩
        rw [i55, hR2 (9 * q + w) (by omega), show 54 + (9 * q + w) = 54 + 9 * q + w by omega]
        exact htv q hq w hw
      refine w_aload_n (List.Mem.tail _ (List.Mem.head _)) (tX11_text_1_ok (165, .aload_n 0, 1) (List.mem_of_getElem? (i := 31) rfl)) ?_
      refine w_lload_n (List.Mem.tail _ (List.Mem.tail _ (List.Mem.tail _ (List.Mem.head _)))) (tX11_text_1_ok (166, .lload_n 2, 1) (List.mem_of_getElem? (i := 32) rfl)) ?_
      refine w_callV (own := 16) (mi := 164) [.long seed] [] [(0, .ref (ad 50)), (1, .long seed)] rfl (cllw_X11 (251, 0, 164) (List.mem_of_getElem? (i := 33) rfl)) rfl rfl (z1.ob (L := 50) rfl rfl) rfl (by decide) (w_lo (n := 23) rfl (by decide)) (Nat.le_of_ble_eq_true rfl) (Nat.le_of_ble_eq_true rfl) rfl (tX11_text_1_ok (167, .invokevirtual 251, 3) (List.mem_of_getElem? (i := 33) rfl)) (y_begin hT z1 hp (by decide) (Nat.le_of_ble_eq_true rfl) (fun g5 I5 W5 a1 a2 a3 a4 a5 a6 a7 a8 a9 a10 a11 => ?_))
      show ww l D tys A X 60 2000 mX11_text _ 170 [(4, .int k1), (0, .ref (ad 50)), (1, .int so), (2, .long seed)] [] g5
      refine w_aload_n (List.Mem.tail _ (List.Mem.head _)) (tX11_text_1_ok (170, .aload_n 0, 1) (List.mem_of_getElem? (i := 34) rfl)) ?_
      refine z_get (f := I5 50) (L := 50) (own := 16) (k := 20) a10 rfl rfl rfl rfl rfl rfl rfl (by decide) (tX11_text_1_ok (171, .getfield 248, 3) (List.mem_of_getElem? (i := 35) rfl)) ?_
      refine w_iret rfl (tX11_text_1_ok (174, .ireturn, 1) (List.mem_of_getElem? (i := 36) rfl)) ?_
      refine ⟨?_, trivial⟩
      rw [n_text_pos c0 yes, show k9_text so seed σ φ = k9_new _ _ seed φ from (if_pos c0).trans (if_pos yes)]
      exact ⟨hk.new wf, ad, I5, W5, O1, a10, rfl, rS.new ((a6 7 (by decide) (by decide) (by decide) (by decide)).trans (i7.trans hS.2.2.2.2.2.2.2.2.2.2)) (hp.mv (a6 20 (by decide) (by decide) (by decide) (by decide)) (a7 55 (by decide) (by decide) (by decide) (by decide) (by decide))) a1 a2 a3 a4 a5 a8⟩
  · have nn : n_text so σ τ = τ := n_text_neg (fun q => c0 q.1)
    by_cases c1 : so.toInt = 1
    · refine r_text1 hT hX c1 (by decide) (by decide) ⟨n_tx_m, k_sg_ne s_te sL (by omega), k_sg_ne s_tl sL (by omega), k_sg_ne s_te s_tx (by decide), k_sg_ne s_tl s_tx (by decide), k_sg_ne s_tl s_te (by decide)⟩ (k_sg_ne s_le sL (by omega)) n_ro_m n_ro_tx (k_sg_ne s_ro s_le hr6) hnz hs ⟨l0, l1, l1⟩ c_m fl f1 f4 f6 f12 f19 f21 c_t c_le c_ro hTD f2 f3 f7 hrc c_te c_tl b_te b_tl ⟨⟨_, List.getElem?_eq_getElem (by rw [fl]; decide)⟩, hints, h18⟩ (fun h1 fs1 gt1 gz1 v c_m1 k1 ft1 hh c_te1 b_te1 c_tl1 b_tl1 hz0 hj o => ⟨?_, trivial⟩)
      subst at52
      subst at53
      obtain ⟨t5, t8, x18, t18, -⟩ := ft1
      rw [nn, show k9_text so seed σ φ = k9_rule σ φ from (if_neg c0).trans (if_pos c1)]
      have h67 : (∃ y : Int32, fs1[6]? = some (.int y)) ∧ ∃ y : Int32, fs1[7]? = some (.int y) := by
        rcases hh with ⟨-, -, ⟨y, u1, -⟩, ⟨z, u2, -⟩, -⟩ | ⟨-, u1, u2, -⟩
        · exact ⟨⟨_, u1⟩, _, u2⟩
        · exact ⟨⟨_, u1⟩, _, u2⟩
      have hi : ∀ k, sF k = true → ∃ y : Int32, fs1[k]? = some (.int y) := fun k hk9 => by
        by_cases k0 : k = 0
        · subst k0; exact hz0
        by_cases k6 : k = 6
        · subst k6; exact h67.1
        by_cases k7 : k = 7
        · subst k7; exact h67.2
        by_cases k8 : 8 ≤ k ∧ k ≤ 14
        · exact t8 k k8
        by_cases k18 : k = 18
        · subst k18; exact ⟨_, t18⟩
        have n5 : k ≠ 5 := fun e => by subst e; cases hk9
        rw [hj k (by omega)]
        exact i0 k hk9
      have hj2 : ∀ j, ¬ sF j = true → j ≠ 5 → fs1[j]? = (z_fs ad (I 50) (W 50) (O 50) 0 (zZ 50).2.2.2)[j]? := fun j hj9 j5 => by rw [hj j (by have := sn j hj9; omega), ef]
      have q51 := (o _ ⟨hz.ne (L := 51) (L1 := 50) rfl rfl (by decide), hz.ne (L := 51) (L1 := 52) rfl rfl (by decide), hz.ne (L := 51) (L1 := 53) rfl rfl (by decide)⟩).trans c51
      have q55 := (o _ ⟨hz.ne (L := 55) (L1 := 50) rfl rfl (by decide), hz.ne (L := 55) (L1 := 52) rfl rfl (by decide), hz.ne (L := 55) (L1 := 53) rfl rfl (by decide)⟩).trans c55
      have oo : ∀ L, zNM L = true → ¬ (50 ≤ L ∧ L ≤ 53) ∧ L ≠ 55 → h1 (ad L) = h (ad L) := fun L hL n => o _ ⟨hz.ne hL rfl (by omega), hz.ne hL rfl (by omega), hz.ne hL rfl (by omega)⟩
      have h20 : fs1[20]? = some (.int (I 50 20)) := (hj 20 (by decide)).trans (nf 20 rfl)
      rw [hn] at hh
      rcases hh with ⟨p1, ⟨p2, p3⟩, -, ⟨y7, u2, u3⟩, -⟩ | ⟨p1, -, u2, -⟩
      · have c9 : isRb (sp_rule σ.1 σ.2.1) = true ∧ σ.2.2 < 4 := ⟨by rw [p3]; rfl, by omega⟩
        rw [show k9_rule σ φ = _ from if_pos c9]
        have ec : φ.1 50 7 + 1 = y7 := by
          have e7 := hS.2.2.2.2.2.2.2.2.2.2
          rw [← e7, ← er7]
          refine (kn_eq _ _).mpr ?_
          rw [fb_addI (by show -2147483648 ≤ rc.toInt + 1; omega) (by show rc.toInt + 1 < 2147483648; omega), u3]
          rfl
        rw [ec]
        obtain ⟨O1, z1⟩ := hz.mR_ c_m1 k1 hi t5 hj2 q51 c_te1 c_tl1 q55 oo
        refine ⟨hk.ru, ad, _, W, O1, z1, rfl, hS.ru hk (fun L hL => mR_n ⟨by omega, by omega⟩) (fun _ _ => rfl) (fun k _ => by rw [mR_n ⟨by omega, by omega⟩]) (fun k hk9 => ?_) (nF_i rfl u2) ⟨rfl, rfl⟩⟩
        show nF fs1 (I 50) k = I 50 k
        by_cases c20 : k = 20
        · subst c20
          exact nF_i rfl h20
        · have hd : ∀ q, q < 47 → (32 ≤ q ∧ q ≤ 35 ∨ q = 39) → ¬ sF q = true := by decide +kernel
          exact nF_n (hd k (by omega) (by omega))
      · have c9 : ¬ (isRb (sp_rule σ.1 σ.2.1) = true ∧ σ.2.2 < 4) := fun z => by
          rcases p1 with p1 | ⟨e9, p1⟩
          · omega
          · rw [p1] at z
            cases z.1
        rw [show k9_rule σ φ = φ from if_neg c9]
        rw [er7] at u2
        exact FR.mR hk hz hS c_m1 k1 hi t5 hj2 q51 c_te1 c_tl1 q55 oo (fun _ _ => rfl) u2 h20
    · rw [nn, show k9_text so seed σ φ = φ from (if_neg c0).trans (if_neg c1)]
      refine r_text2 ⟨c0, c1⟩ (by decide) (by decide) c_m fl (fun h1 fs1 v c_m1 k1 hv2 hz0 hj o => ⟨?_, trivial⟩)
      exact FR.mR hk hz hS c_m1 k1 (fun k hk9 => by
        by_cases k0 : k = 0
        · subst k0; exact hz0
        rw [hj k k0]
        exact i0 k hk9) (by rw [hj 5 (by decide)]; exact v5) (fun j hj9 j5 => by rw [hj j (by have := sn j hj9; omega), ef]) ((o _ (hz.ne rfl rfl (by decide))).trans c51) ((o _ (hz.ne rfl rfl (by decide))).trans c52) ((o _ (hz.ne rfl rfl (by decide))).trans c53) ((o _ (hz.ne rfl rfl (by decide))).trans c55) (fun L hL n => o _ (hz.ne hL rfl (by omega))) (fun _ _ => rfl) ((hj 7 (by decide)).trans (nf 7 rfl)) ((hj 20 (by decide)).trans (nf 20 rfl))
end
