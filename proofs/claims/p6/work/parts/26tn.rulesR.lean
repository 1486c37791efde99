/-! the reference: its RULES, the texts as they stand, and what they are worth (made by gen_kU4) -/
def rT (gt : Nat → Int32) (i : Nat) (len : Int32) (W : (Nat → Int) → Int) : Prop := (0 ≤ len.toInt ∧ len.toInt ≤ 160) ∧ ∃ f : Nat → Int32, sb gt f (160 * i) len.toInt.toNat ∧ (∀ j, j < len.toInt.toNat → 1 ≤ (f j).toInt) ∧ ∀ L : Nat → Int, ∃ (q : Nat) (o : Option Int32), v_rule f len.toInt.toNat (fun k => Int32.ofInt (L k)) = .inr (q, o) ∧ (o.getD 0).toInt = W L
def RR (cA : Nat → ClassId) (h : ch_H) (m : Nat) (ψ : uP) : Prop := ∃ (fs : List Value) (te tl : Nat) (gt gz : Nat → Int32) (rc : Int32), h m = some (.inr (10, fs)) ∧ fs[2]? = some (.ref te) ∧ fs[3]? = some (.ref tl) ∧ fs[7]? = some (.int rc) ∧ rc.toInt = (ψ.1 : Int) ∧ ψ.1 ≤ 4 ∧ h te = some (.inl (cA 2, 640, .inl gt)) ∧ h tl = some (.inl (cA 0, 4, .inl gz)) ∧ ∀ i, i < ψ.1 → rT gt i (gz i) (ψ.2 i)
/-- the same, of a store -/
def RI (I : zI) (ψ : uP) : Prop := (I 50 7).toInt = (ψ.1 : Int) ∧ ψ.1 ≤ 4 ∧ ∀ i, i < ψ.1 → rT (I 52) i (I 53 i) (ψ.2 i)
def okRv (W : List (Nat × Nat)) : Bool := W.all (fun q => decide (q.1 ≠ 52 ∧ q.1 ≠ 53) && decide (q ∉ [(50, 2), (50, 3), (50, 7), (70, 2), (70, 3), (70, 7)]))
section
variable {Sg : Nat → Option Nat} {cA : Nat → ClassId} {h h1 g g2 : ch_H} {m te tl : Nat} {ψ : uP} {W : List (Nat × Nat)} {I : zI} {ad : Nat → Nat} {fs fs1 : List Value} {gt gz gt1 : Nat → Int32}
theorem rT.eq {i : Nat} {len : Int32} {w : (Nat → Int) → Int} (H : rT gt i len w) (e : ∀ q, 160 * i ≤ q → q < 160 * i + 160 → gt1 q = gt q) : rT gt1 i len w := by
  obtain ⟨h1, f, h2, h3⟩ := H
  exact ⟨h1, f, fun n hn => by rw [e (160 * i + n) (by omega) (by omega)]; exact h2 n hn, h3⟩
theorem RR.st (Ri : RI I ψ) (c1 : h1 (ad 50) = some (.inr (10, fs1))) (f2 : fs1[2]? = some (.ref (ad 52))) (f3 : fs1[3]? = some (.ref (ad 53))) (f7 : fs1[7]? = some (.int (I 50 7))) (c52 : h1 (ad 52) = some (.inl (cA 2, 640, .inl (I 52)))) (c53 : h1 (ad 53) = some (.inl (cA 0, 4, .inl (I 53)))) : RR cA h1 (ad 50) ψ :=
  ⟨fs1, _, _, _, _, _, c1, f2, f3, f7, Ri.1, Ri.2.1, c52, c53, Ri.2.2⟩
theorem RR.ri (H : RR cA h m ψ) (c1 : h m = some (.inr (10, fs1))) (f2 : fs1[2]? = some (.ref (ad 52))) (f3 : fs1[3]? = some (.ref (ad 53))) (f7 : fs1[7]? = some (.int (I 50 7))) (c52 : h (ad 52) = some (.inl (cA 2, 640, .inl (I 52)))) (c53 : h (ad 53) = some (.inl (cA 0, 4, .inl (I 53)))) : RI I ψ := by
  obtain ⟨fs, te, tl, gt, gz, rc, d1, d2, d3, d7, e1, e2, d4, d5, hr⟩ := H
  rw [c1] at d1
  cases d1
  rw [f2] at d2
  cases d2
  rw [f3] at d3
  cases d3
  rw [f7] at d7
  cases d7
  rw [c52] at d4
  cases d4
  rw [c53] at d5
  cases d5
  exact ⟨e1, e2, hr⟩
theorem lab23 (hH : k_H Sg cA Lb h) (sm : sgM0 Sg m) (c_m : h m = some (.inr (10, fs))) (f2 : fs[2]? = some (.ref te)) (f3 : fs[3]? = some (.ref tl)) : Sg te = some 52 ∧ Sg tl = some 53 ∧ fs.length = 47 := by
  rcases sm with s9 | s9
  · obtain ⟨fs2, c2, l2, ty⟩ := hH.obj s9 (L := 50) rfl
    rw [c_m] at c2
    cases c2
    obtain ⟨v2, g2, t2⟩ := ty 2 _ rfl
    rw [f2] at g2
    cases g2
    obtain ⟨r2, e, s2⟩ := k_v.ref t2
    cases e
    obtain ⟨v3, g3, t3⟩ := ty 3 _ rfl
    rw [f3] at g3
    cases g3
    obtain ⟨r3, e, s3⟩ := k_v.ref t3
    cases e
    exact ⟨s2, s3, l2⟩
  · obtain ⟨fs2, c2, l2, ty⟩ := hH.obj s9 (L := 70) rfl
    rw [c_m] at c2
    cases c2
    obtain ⟨v2, g2, t2⟩ := ty 2 _ rfl
    rw [f2] at g2
    cases g2
    obtain ⟨r2, e, s2⟩ := k_v.ref t2
    cases e
    obtain ⟨v3, g3, t3⟩ := ty 3 _ rfl
    rw [f3] at g3
    cases g3
    obtain ⟨r3, e, s3⟩ := k_v.ref t3
    cases e
    exact ⟨s2, s3, l2⟩
theorem RR.gen (hH : k_H Sg cA Lb h) (sm : sgM0 Sg m) (hx : ∀ fs, h m = some (.inr (10, fs)) → ∃ fs1, h1 m = some (.inr (10, fs1)) ∧ fs1[2]? = fs[2]? ∧ fs1[3]? = fs[3]? ∧ fs1[7]? = fs[7]?) (ho : ∀ a L, Sg a = some L → L = 52 ∨ L = 53 → h1 a = h a) (H : RR cA h m ψ) : RR cA h1 m ψ := by
  obtain ⟨fs, te, tl, gt, gz, rc, d1, d2, d3, d7, e1, e2, d4, d5, hr⟩ := H
  obtain ⟨s2, s3, -⟩ := lab23 hH sm d1 d2 d3
  obtain ⟨fs1, c1, q2, q3, q7⟩ := hx fs d1
  exact ⟨fs1, te, tl, gt, gz, rc, c1, q2.trans d2, q3.trans d3, q7.trans d7, e1, e2, (ho te 52 s2 (Or.inl rfl)).trans d4, (ho tl 53 s3 (Or.inr rfl)).trans d5, hr⟩
theorem RR.U (hH : k_H Sg cA Lb h) (u : k_U Sg W h h1) (hw : okRv W = true) (sm : sgM0 Sg m) (H : RR cA h m ψ) : RR cA h1 m ψ := by
  have no : ∀ q, q ∈ W → (q.1 ≠ 52 ∧ q.1 ≠ 53) ∧ q ≠ (50, 2) ∧ q ≠ (50, 3) ∧ q ≠ (50, 7) ∧ q ≠ (70, 2) ∧ q ≠ (70, 3) ∧ q ≠ (70, 7) := fun q hq => by
    have h1 := List.all_eq_true.mp hw q hq
    simp only [Bool.and_eq_true, decide_eq_true_eq, List.mem_cons, List.not_mem_nil, or_false, not_or] at h1
    exact ⟨h1.1, h1.2.1, h1.2.2.1, h1.2.2.2.1, h1.2.2.2.2.1, h1.2.2.2.2.2.1, h1.2.2.2.2.2.2⟩
  refine H.gen hH sm (fun fs c_m => ?_) (fun a L ha hl => k_U.same hH u ha (fun q hq e9 => by have := (no q hq).1; omega))
  rcases sm with s9 | s9
  · obtain ⟨fs1, c1, k1⟩ := (u m 50 s9).1 _ _ c_m
    exact ⟨fs1, c1, k1 2 (fun z => (no _ z).2.1 rfl), k1 3 (fun z => (no _ z).2.2.1 rfl), k1 7 (fun z => (no _ z).2.2.2.1 rfl)⟩
  · obtain ⟨fs1, c1, k1⟩ := (u m 70 s9).1 _ _ c_m
    exact ⟨fs1, c1, k1 2 (fun z => (no _ z).2.2.2.2.1 rfl), k1 3 (fun z => (no _ z).2.2.2.2.2.1 rfl), k1 7 (fun z => (no _ z).2.2.2.2.2.2 rfl)⟩
theorem RR.ag (hH : k_H Sg cA Lb g) (sm : sgM0 Sg m) (cm : ∃ fs, g m = some (.inr (10, fs)) ∧ fs.length = 47) (a : ag g g2) (ai : agI g g2) (H : RR cA g2 m ψ) : RR cA g m ψ := by
  obtain ⟨fs, te, tl, gt, gz, rc, d1, d2, d3, d7, e1, e2, d4, d5, hr⟩ := H
  obtain ⟨fs1, c1, l1⟩ := cm
  have q2 := a.get c1 d1 (by decide) (by rw [l1]; decide) d2
  have q3 := a.get c1 d1 (by decide) (by rw [l1]; decide) d3
  have q7 := a.get c1 d1 (by decide) (by rw [l1]; decide) d7
  obtain ⟨s2, s3, -⟩ := lab23 hH sm c1 q2 q3
  obtain ⟨G, y1, -⟩ := hH.arr s2 (L := 52) rfl
  have y1 : g te = some (.inl (cA 2, 640, .inl G)) := y1
  obtain ⟨Z, y2, -⟩ := hH.arr s3 (L := 53) rfl
  have y2 : g tl = some (.inl (cA 0, 4, .inl Z)) := y2
  have w1 := (ai te _ _ _ _ _ _ y1 d4).2
  have w2 := (ai tl _ _ _ _ _ _ y2 d5).2
  refine ⟨fs1, te, tl, G, Z, rc, c1, q2, q3, q7, e1, e2, y1, y2, fun i hi => ?_⟩
  rw [w2 i (by omega)]
  exact (hr i hi).eq (fun q h1 h2 => w1 q (by omega))
theorem m_ob (hH : k_H Sg cA Lb h) (sm : sgM0 Sg m) : ∃ fs, h m = some (.inr (10, fs)) ∧ fs.length = 47 := by
  rcases sm with s9 | s9
  · obtain ⟨fs2, c2, l2, -⟩ := hH.obj s9 (L := 50) rfl
    exact ⟨fs2, c2, l2⟩
  · obtain ⟨fs2, c2, l2, -⟩ := hH.obj s9 (L := 70) rfl
    exact ⟨fs2, c2, l2⟩
theorem p9_new {n : Nat} {ρ : aRw} {seed : Int64} {φ : zP} : p9 (k9_new n ρ seed φ) = p9 φ := by
  unfold p9 k9_new
  dsimp only
  rw [s2_s, upd_n _ _ (by decide)]
/-- one more text -/
theorem RR.add {t9 : Nat → Int32} {gt0 gz0 gz1 f : Nat → Int32} {en rc y7 : Int32} {w9 : (Nat → Int) → Int} (hr : ∀ i, i < ψ.1 → rT gt0 i (gz0 i) (ψ.2 i)) (e0 : rc.toInt = (ψ.1 : Int)) (h4 : rc.toInt < 4) (cp : cpd t9 gt0 gz0 gt1 gz1 en rc) (hs : sb t9 f 0 en.toInt.toNat) (hb : 0 ≤ en.toInt ∧ en.toInt ≤ 160) (hnz : ∀ i, i < en.toInt.toNat → 1 ≤ (f i).toInt) (hw : ∀ L : Nat → Int, ∃ (q : Nat) (o : Option Int32), v_rule f en.toInt.toNat (fun k => Int32.ofInt (L k)) = .inr (q, o) ∧ (o.getD 0).toInt = w9 L) (c1 : h1 m = some (.inr (10, fs1))) (f2 : fs1[2]? = some (.ref te)) (f3 : fs1[3]? = some (.ref tl)) (f7 : fs1[7]? = some (.int y7)) (e7 : y7.toInt = rc.toInt + 1) (c52 : h1 te = some (.inl (cA 2, 640, .inl gt1))) (c53 : h1 tl = some (.inl (cA 0, 4, .inl gz1))) : RR cA h1 m (ψ.1 + 1, fun i => if i = ψ.1 then w9 else ψ.2 i) := by
  obtain ⟨p1, p2, p3⟩ := cp
  have en9 : rc.toInt.toNat = ψ.1 := by omega
  rw [en9] at p1 p2 p3
  refine ⟨fs1, te, tl, gt1, gz1, y7, c1, f2, f3, f7, ?_, ?_, c52, c53, fun i hi => ?_⟩
  · show y7.toInt = ((ψ.1 + 1 : Nat) : Int)
    omega
  · show ψ.1 + 1 ≤ 4
    omega
  · have hi : i < ψ.1 + 1 := hi
    show rT gt1 i (gz1 i) (if i = ψ.1 then w9 else ψ.2 i)
    rw [p3]
    by_cases c : i = ψ.1
    · subst c
      rw [if_pos rfl, upd_s]
      refine ⟨hb, f, fun n hn => ?_, hnz, hw⟩
      have h9 := hs n hn
      rw [Nat.zero_add] at h9
      rw [show gt1 (160 * ψ.1 + n) = t9 n from (kn_eq _ _).mpr (p1 n hn)]
      exact h9
    · rw [if_neg c, upd_n _ _ c]
      exact (hr i (by omega)).eq (fun q h1 h2 => p2 q (by omega))
end
section
variable {l : Launch} {D : va_G} {tys : List (ClassId × FieldType)} {A : Nat → Prop} {X : State → Prop} {cA : Nat → ClassId} {Sg : Nat → Option Nat} {h : ch_H} {m n : Nat} {ρ : aRw} {τ : aN} {φ : zP} {σ : aS} {aK aV : Nat → Nat}
theorem kV_fault (hT : k_tys tys cA) (hX : ∀ s, X s → xs A aK aV s) {so : Int32} (hH : k_H Sg cA Lb h) (sm : sgM Sg m) (hR : aR cA h m σ) (H : FR cA h m τ φ) {ψ : uP} (Rr : RR cA h m ψ) : tt l D tys A X 40 1120 0 0 mX11_fault (fun _ g => RR cA g m ψ ∧ True) 0 (lv_args 0 [.ref m, .int so]) [] h 0 0 := by
  obtain ⟨fs, tx, g, len, rc, c_m, f1, f6, f7, c_t, hsb, e1, e2⟩ := hR
  obtain ⟨hk, ad, I, W, O, hz, rfl, hS⟩ := H
  have ef : fs = z_fs ad (I 50) (W 50) (O 50) 0 (zZ 50).2.2.2 := by
    have := c_m.symm.trans (hz.ob (L := 50) (ts := (zZ 50).2.2.2) rfl rfl)
    cases this
    rfl
  have c51 := hz.ar (L := 51) (f := I 51) rfl rfl rfl
  have c52 := hz.ar (L := 52) (f := I 52) rfl rfl rfl
  have c53 := hz.ar (L := 53) (f := I 53) rfl rfl rfl
  have c55 := hz.ar (L := 55) (f := I 55) rfl rfl rfl
  have rf : ∀ k L1 : Nat, (zZ 50).2.2.2[k]? = some (2, ((L1 : Nat) : Int), 0) → fs[k]? = some (.ref (ad L1)) := fun k L1 hk9 => by
    rw [ef]
    exact z_fsR hk9 rfl rfl
  have nf : ∀ k : Nat, (zZ 50).2.2.2[k]? = some (0, 0, 0) → fs[k]? = some (.int (I 50 k)) := fun k hk9 => by
    rw [ef]
    exact z_fsI hk9 rfl
  have k0 : ∀ k, k < 47 → sF k = true → (zZ 50).2.2.2[k]? = some (0, 0, 0) := by decide +kernel
  have sl : ∀ k, sF k = true → k < 47 := fun k hk9 => by
    unfold sF at hk9
    simp only [Bool.or_eq_true, Bool.and_eq_true, beq_iff_eq, decide_eq_true_eq] at hk9
    omega
  have sn : ∀ k, ¬ sF k = true → ¬ (k = 0 ∨ 6 ≤ k ∧ k ≤ 14 ∨ k = 18 ∨ k = 20 ∨ k = 21) := fun k hk9 z => hk9 (by
    unfold sF
    simp only [Bool.or_eq_true, Bool.and_eq_true, beq_iff_eq, decide_eq_true_eq]
    omega)
  have i0 : ∀ k, sF k = true → ∃ y : Int32, fs[k]? = some (.int y) := fun k hk9 => ⟨_, nf k (k0 k (sl k hk9) hk9)⟩
  have v5 : ∃ v : Value, fs[5]? = some v := by
    rw [ef]
    exact ⟨_, rfl⟩
  have at51 : tx = ad 51 := by
    have := rf 1 51 rfl
    rw [f1] at this
    cases this
    rfl
  obtain ⟨L, le, ro, te, tl, dp, rd, gl, R, gt, gz, sL, hro, fl, l0, l1, s_tx, s_te, s_tl, s_le, f2, f3, f4, f12, f19, f21, c_le, c_ro, hTD, c_te, b_te, c_tl, b_tl, hrc, hints, h18⟩ := T_M hH sm.1 c_m f1 f6
  obtain ⟨hL, hL5⟩ := m_ge hro
  obtain ⟨Mr, s_ro, hr5, hr1, hr2, hr3, hr4, hr6⟩ := ro_ge hro
  have hrc := hrc rc f7
  have hn : len.toInt.toNat = σ.2.1 := by omega
  have hnz : ∀ i, i < len.toInt.toNat → 1 ≤ (σ.1 i).toInt := by rw [hn]; exact hsb.2.1
  have hs : sb g σ.1 0 len.toInt.toNat := by rw [hn]; exact hsb.1
  have at55 : ro = ad 55 := by
    have := rf 19 55 rfl
    rw [f19] at this
    cases this
    rfl
  have at52 : te = ad 52 := by
    have := rf 2 52 rfl
    rw [f2] at this
    cases this
    rfl
  have at53 : tl = ad 53 := by
    have := rf 3 53 rfl
    rw [f3] at this
    cases this
    rfl
  have eR : R = I 55 := by
    have e2 := c55
    rw [← at55, c_ro] at e2
    exact Sum.inl.inj (Prod.mk.inj (Prod.mk.inj (Sum.inl.inj (Option.some.inj e2))).2).2
  have er7 : rc = I 50 7 := by
    have := nf 7 rfl
    rw [f7] at this
    cases this
    rfl
  have Ri : RI I ψ := Rr.ri c_m (rf 2 52 rfl) (rf 3 53 rfl) (nf 7 rfl) c52 c53
  show ww l D tys A X 40 1120 mX11_fault _ 0 [(0, .ref (ad 50)), (1, .int so)] [] h
  by_cases c0 : so.toInt = 0
  · refine r_fault0 hT hX c0 (by decide) (by decide) hnz hs ⟨l0, l1, l1⟩ c_m fl f1 f4 f6 f12 f19 f21 (k_sg_ne s_tx sL (by omega)) (k_sg_ne s_le sL (by omega)) (k_sg_ne s_ro sL hr1) (k_sg_ne s_ro s_tx hr2) (k_sg_ne s_ro s_le hr6) c_t c_le c_ro hTD (fun h1 fs1 at1 fl1 rd1 bg1 R1 p e0 e21 erd es _ hlo hz0 hj o => ⟨?_, trivial⟩)
    have c_ro1 := p.2.2.2.2.2.2.2.2.1
    subst at55
    obtain ⟨⟨⟨⟨q1, q2, e5, e8, e9, e10, e11⟩, e12, -⟩, -⟩, -⟩ := p
    exact RR.st Ri q1 ((hj 2 (by decide)).trans (rf 2 52 rfl)) ((hj 3 (by decide)).trans (rf 3 53 rfl)) ((hj 7 (by decide)).trans (nf 7 rfl)) ((o _ ⟨hz.ne rfl rfl (by decide), hz.ne rfl rfl (by decide)⟩).trans c52) ((o _ ⟨hz.ne rfl rfl (by decide), hz.ne rfl rfl (by decide)⟩).trans c53)
  · by_cases c1 : so.toInt = 1
    · refine r_fault1 hT hX c1 (by decide) (by decide) hnz hs ⟨l0, l1, l1⟩ c_m fl f1 f4 f6 f12 f19 f21 (k_sg_ne s_tx sL (by omega)) (k_sg_ne s_le sL (by omega)) (k_sg_ne s_ro sL hr1) (k_sg_ne s_ro s_tx hr2) (k_sg_ne s_ro s_le hr6) c_t c_le c_ro hTD (fun h1 fs1 at1 fl1 dp1 bg1 p _ es _ hz0 hj o => ⟨?_, trivial⟩)
      obtain ⟨t5, t8, x18, t18, -⟩ := p.ft
      obtain ⟨⟨⟨⟨q1, q2, e5, e8, e9, e10, e11⟩, e12, -⟩, -⟩, -⟩ := p
      exact RR.st Ri q1 ((hj 2 (by decide)).trans (rf 2 52 rfl)) ((hj 3 (by decide)).trans (rf 3 53 rfl)) ((hj 7 (by decide)).trans (nf 7 rfl)) ((o _ (hz.ne rfl rfl (by decide))).trans c52) ((o _ (hz.ne rfl rfl (by decide))).trans c53)
    · refine r_fault2 ⟨c0, c1⟩ (by decide) (by decide) c_m fl f1 f4 f6 f12 f19 f21 (fun h1 fs1 v c_m1 k1 hv hz0 hj o => ⟨?_, trivial⟩)
      exact RR.st Ri c_m1 ((hj 2 (by decide)).trans (rf 2 52 rfl)) ((hj 3 (by decide)).trans (rf 3 53 rfl)) ((hj 7 (by decide)).trans (nf 7 rfl)) ((o _ (hz.ne rfl rfl (by decide))).trans c52) ((o _ (hz.ne rfl rfl (by decide))).trans c53)
theorem kV_text (hT : k_tys tys cA) (hX : ∀ s, X s → xs A aK aV s) {so : Int32} {seed : Int64} (hH : k_H Sg cA Lb h) (sm : sgM Sg m) (hR : aR cA h m σ) (H : FR cA h m τ φ) (Rr : RR cA h m (p9 φ)) : tt l D tys A X 60 2000 0 0 mX11_text (fun _ g => RR cA g m (p9 (k9_text so seed σ φ)) ∧ True) 0 (lv_args 0 [.ref m, .int so, .long seed]) [] h 0 0 := by
  obtain ⟨fs, tx, g, len, rc, c_m, f1, f6, f7, c_t, hsb, e1, e2⟩ := hR
  obtain ⟨hk, ad, I, W, O, hz, rfl, hS⟩ := H
  have ef : fs = z_fs ad (I 50) (W 50) (O 50) 0 (zZ 50).2.2.2 := by
    have := c_m.symm.trans (hz.ob (L := 50) (ts := (zZ 50).2.2.2) rfl rfl)
    cases this
    rfl
  have c51 := hz.ar (L := 51) (f := I 51) rfl rfl rfl
  have c52 := hz.ar (L := 52) (f := I 52) rfl rfl rfl
  have c53 := hz.ar (L := 53) (f := I 53) rfl rfl rfl
  have c55 := hz.ar (L := 55) (f := I 55) rfl rfl rfl
  have rf : ∀ k L1 : Nat, (zZ 50).2.2.2[k]? = some (2, ((L1 : Nat) : Int), 0) → fs[k]? = some (.ref (ad L1)) := fun k L1 hk9 => by
    rw [ef]
    exact z_fsR hk9 rfl rfl
  have nf : ∀ k : Nat, (zZ 50).2.2.2[k]? = some (0, 0, 0) → fs[k]? = some (.int (I 50 k)) := fun k hk9 => by
    rw [ef]
    exact z_fsI hk9 rfl
  have k0 : ∀ k, k < 47 → sF k = true → (zZ 50).2.2.2[k]? = some (0, 0, 0) := by decide +kernel
  have sl : ∀ k, sF k = true → k < 47 := fun k hk9 => by
    unfold sF at hk9
    simp only [Bool.or_eq_true, Bool.and_eq_true, beq_iff_eq, decide_eq_true_eq] at hk9
    omega
  have sn : ∀ k, ¬ sF k = true → ¬ (k = 0 ∨ 6 ≤ k ∧ k ≤ 14 ∨ k = 18 ∨ k = 20 ∨ k = 21) := fun k hk9 z => hk9 (by
    unfold sF
    simp only [Bool.or_eq_true, Bool.and_eq_true, beq_iff_eq, decide_eq_true_eq]
    omega)
  have i0 : ∀ k, sF k = true → ∃ y : Int32, fs[k]? = some (.int y) := fun k hk9 => ⟨_, nf k (k0 k (sl k hk9) hk9)⟩
  have v5 : ∃ v : Value, fs[5]? = some v := by
    rw [ef]
    exact ⟨_, rfl⟩
  have at51 : tx = ad 51 := by
    have := rf 1 51 rfl
    rw [f1] at this
    cases this
    rfl
  obtain ⟨L, le, ro, te, tl, dp, rd, gl, R, gt, gz, sL, hro, fl, l0, l1, s_tx, s_te, s_tl, s_le, f2, f3, f4, f12, f19, f21, c_le, c_ro, hTD, c_te, b_te, c_tl, b_tl, hrc, hints, h18⟩ := T_M hH sm.1 c_m f1 f6
  obtain ⟨hL, hL5⟩ := m_ge hro
  obtain ⟨Mr, s_ro, hr5, hr1, hr2, hr3, hr4, hr6⟩ := ro_ge hro
  have hrc := hrc rc f7
  have hn : len.toInt.toNat = σ.2.1 := by omega
  have hnz : ∀ i, i < len.toInt.toNat → 1 ≤ (σ.1 i).toInt := by rw [hn]; exact hsb.2.1
  have hs : sb g σ.1 0 len.toInt.toNat := by rw [hn]; exact hsb.1
  have at55 : ro = ad 55 := by
    have := rf 19 55 rfl
    rw [f19] at this
    cases this
    rfl
  have at52 : te = ad 52 := by
    have := rf 2 52 rfl
    rw [f2] at this
    cases this
    rfl
  have at53 : tl = ad 53 := by
    have := rf 3 53 rfl
    rw [f3] at this
    cases this
    rfl
  have eR : R = I 55 := by
    have e2 := c55
    rw [← at55, c_ro] at e2
    exact Sum.inl.inj (Prod.mk.inj (Prod.mk.inj (Sum.inl.inj (Option.some.inj e2))).2).2
  have er7 : rc = I 50 7 := by
    have := nf 7 rfl
    rw [f7] at this
    cases this
    rfl
  have n_ro_m : ro ≠ ad 50 := k_sg_ne s_ro sL hr1
  have n_tx_m : tx ≠ ad 50 := k_sg_ne s_tx sL (by omega)
  have n_ro_tx : ro ≠ tx := k_sg_ne s_ro s_tx hr2
  have Ri : RI I (p9 φ) := Rr.ri c_m (rf 2 52 rfl) (rf 3 53 rfl) (nf 7 rfl) c52 c53
  show ww l D tys A X 60 2000 mX11_text _ 0 [(0, .ref (ad 50)), (1, .int so), (2, .long seed)] [] h
  by_cases c0 : so.toInt = 0
  · refine r_text0V hT hX c0 (by decide) (by decide) hnz hs ⟨l0, l1, l1⟩ c_m fl f1 f4 f6 f12 f19 f21 n_tx_m (k_sg_ne s_le sL (by omega)) n_ro_m n_ro_tx (k_sg_ne s_ro s_le hr6) c_t c_le c_ro hTD (fun h1 fs1 R1 rd1 v _ _ _ p hz0 e21 erd hlo f61 h20 hbad hvm hj o => ⟨?_, trivial⟩) (fun h1 fs1 R1 R2 k1 rd1 c_m1 k1l c_ro1 hR2 hR3 hints1 f61 f20 f211 erd hTD1 h62 hgood hvS htv hj o => ?_)
    · obtain ⟨e9, he⟩ := hbad
      rw [hn] at he
      have no : ¬ isRb (sp_town σ.1 σ.2.1).1 = true := fun q2 => by rw [he] at q2; cases q2
      rw [show k9_text so seed σ φ = φ from (if_pos c0).trans (if_neg no)]
      have c_ro1 := p.2.2.2.2.2.2.2.2.1
      subst at55
      obtain ⟨⟨⟨⟨q1, q2, e5, e8, e9, e10, e11⟩, e12, -⟩, -⟩, -⟩ := p
      exact RR.st Ri q1 ((hj 2 (by decide)).trans (rf 2 52 rfl)) ((hj 3 (by decide)).trans (rf 3 53 rfl)) ((hj 7 (by decide)).trans (nf 7 rfl)) ((o _ ⟨hz.ne rfl rfl (by decide), hz.ne rfl rfl (by decide)⟩).trans c52) ((o _ ⟨hz.ne rfl rfl (by decide), hz.ne rfl rfl (by decide)⟩).trans c53)
    · obtain ⟨e9, he⟩ := hgood
      rw [hn] at he htv hvS
      obtain ⟨z0, v51, z8, z9, z10, z11, z12⟩ := hints1
      obtain ⟨y6, z6, e6⟩ := f61
      have yes : isRb (sp_town σ.1 σ.2.1).1 = true := by rw [he]; rfl
      have wf : wfR (sp_town σ.1 σ.2.1).2 (sp_tv σ.1 σ.2.1 6 0 0 (fun _ _ => 0)) := wfR_town he
      subst at55
      obtain ⟨O1, z1⟩ := hz.mR_ (R1 := R2) c_m1 k1l (fun k hk9 => by
        by_cases k0 : k = 0
        · subst k0; exact z0
        by_cases k6 : k = 6
        · subst k6; exact ⟨_, z6⟩
        by_cases k8 : k = 8
        · subst k8; exact z8
        by_cases k9 : k = 9
        · subst k9; exact z9
        by_cases k10 : k = 10
        · subst k10; exact z10
        by_cases k11 : k = 11
        · subst k11; exact z11
        by_cases k12 : k = 12
        · subst k12; exact z12
        by_cases k20 : k = 20
        · subst k20; exact ⟨_, f20⟩
        by_cases k21 : k = 21
        · subst k21; exact ⟨_, f211⟩
        have n5 : k ≠ 5 := fun e => by subst e; cases hk9
        rw [hj k ⟨k0, n5, k6, k8, k9, k10, k11, k12, k20, k21⟩]
        exact i0 k hk9) v51 (fun j hj9 j5 => by rw [hj j (by have := sn j hj9; omega), ef]) ((o _ ⟨hz.ne rfl rfl (by decide), hz.ne rfl rfl (by decide)⟩).trans c51) ((o _ ⟨hz.ne rfl rfl (by decide), hz.ne rfl rfl (by decide)⟩).trans c52) ((o _ ⟨hz.ne rfl rfl (by decide), hz.ne rfl rfl (by decide)⟩).trans c53) c_ro1 (fun L hL n => o _ ⟨hz.ne hL rfl (by omega), hz.ne hL rfl (by omega)⟩)
      obtain ⟨I1, eI⟩ : ∃ J : zI, J = mR I (nF fs1 (I 50)) (I 51) (I 52) (I 53) R2 := ⟨_, rfl⟩
      rw [← eI] at z1
      have i20 : (I1 50 20).toInt = ((sp_town σ.1 σ.2.1).2 : Int) := by
        rw [eI]
        show (nF fs1 (I 50) 20).toInt = _
        rw [nF_i rfl f20]
        exact hvS
      have i7 : I1 50 7 = I 50 7 := by
        rw [eI]
        show nF fs1 (I 50) 7 = _
        exact nF_i rfl ((hj 7 (by decide)).trans (nf 7 rfl))
      have i55 : I1 55 = R2 := by rw [eI]; rfl
      have hp : qz I1 (sp_town σ.1 σ.2.1).2 (sp_tv σ.1 σ.2.1 6 0 0 (fun _ _ => 0)) := by
        have w6 := wf.1
        refine ⟨i20, wf, fun q hq w hw => ?_⟩
        rw [i55, hR2 (9 * q + w) (by omega), show 54 + (9 * q + w) = 54 + 9 * q + w by omega]
        exact htv q hq w hw
      refine w_aload_n (List.Mem.tail _ (List.Mem.head _)) (tX11_text_1_ok (165, .aload_n 0, 1) (List.mem_of_getElem? (i := 31) rfl)) ?_
      refine w_lload_n (List.Mem.tail _ (List.Mem.tail _ (List.Mem.tail _ (List.Mem.head _)))) (tX11_text_1_ok (166, .lload_n 2, 1) (List.mem_of_getElem? (i := 32) rfl)) ?_
      refine w_callV (own := 16) (mi := 164) [.long seed] [] [(0, .ref (ad 50)), (1, .long seed)] rfl (cllw_X11 (251, 0, 164) (List.mem_of_getElem? (i := 33) rfl)) rfl rfl (z1.ob (L := 50) rfl rfl) rfl (by decide) (w_lo (n := 23) rfl (by decide)) (Nat.le_of_ble_eq_true rfl) (Nat.le_of_ble_eq_true rfl) rfl (tX11_text_1_ok (167, .invokevirtual 251, 3) (List.mem_of_getElem? (i := 33) rfl)) (y_begin hT z1 hp (by decide) (Nat.le_of_ble_eq_true rfl) (fun g5 I5 W5 a1 a2 a3 a4 a5 a6 a7 a8 a9 a10 a11 => ?_))
      show ww l D tys A X 60 2000 mX11_text _ 170 [(4, .int k1), (0, .ref (ad 50)), (1, .int so), (2, .long seed)] [] g5
      refine w_aload_n (List.Mem.tail _ (List.Mem.head _)) (tX11_text_1_ok (170, .aload_n 0, 1) (List.mem_of_getElem? (i := 34) rfl)) ?_
      refine z_get (f := I5 50) (L := 50) (own := 16) (k := 20) a10 rfl rfl rfl rfl rfl rfl rfl (by decide) (tX11_text_1_ok (171, .getfield 248, 3) (List.mem_of_getElem? (i := 35) rfl)) ?_
      refine w_iret rfl (tX11_text_1_ok (174, .ireturn, 1) (List.mem_of_getElem? (i := 36) rfl)) ?_
      refine ⟨?_, trivial⟩
      rw [show k9_text so seed σ φ = k9_new _ _ seed φ from (if_pos c0).trans (if_pos yes), p9_new]
      have i5 : ∀ L, L = 52 ∨ L = 53 → I5 L = I L := fun L hL => by
        rcases hL with e | e <;> subst e
        · rw [a7 52 (by decide) (by decide) (by decide) (by decide) (by decide), eI]
          rfl
        · rw [a7 53 (by decide) (by decide) (by decide) (by decide) (by decide), eI]
          rfl
      have e57 : I5 50 7 = I 50 7 := (a6 7 (by decide) (by decide) (by decide) (by decide)).trans i7
      have R5 : RI I5 (p9 φ) := ⟨by rw [e57]; exact Ri.1, Ri.2.1, by rw [i5 52 (Or.inl rfl), i5 53 (Or.inr rfl)]; exact Ri.2.2⟩
      exact RR.st R5 (a10.ob (L := 50) rfl rfl) (z_fsR (k := 2) (L1 := 52) rfl rfl rfl) (z_fsR (k := 3) (L1 := 53) rfl rfl rfl) (z_fsI (k := 7) rfl rfl) (a10.ar (L := 52) (f := I5 52) rfl rfl rfl) (a10.ar (L := 53) (f := I5 53) rfl rfl rfl)
  · have nn : n_text so σ τ = τ := n_text_neg (fun q => c0 q.1)
    by_cases c1 : so.toInt = 1
    · have hgb : ∀ i, i < 160 → -128 ≤ (g i).toInt ∧ (g i).toInt ≤ 127 := by
        obtain ⟨G, y1, b1⟩ := hH.arr s_tx (L := 51) rfl
        rw [c_t] at y1
        cases y1
        exact fun i hi => b1 i hi
      refine r_text1X hT hgb hX c1 (by decide) (by decide) ⟨n_tx_m, k_sg_ne s_te sL (by omega), k_sg_ne s_tl sL (by omega), k_sg_ne s_te s_tx (by decide), k_sg_ne s_tl s_tx (by decide), k_sg_ne s_tl s_te (by decide)⟩ (k_sg_ne s_le sL (by omega)) n_ro_m n_ro_tx (k_sg_ne s_ro s_le hr6) hnz hs ⟨l0, l1, l1⟩ c_m fl f1 f4 f6 f12 f19 f21 c_t c_le c_ro hTD f2 f3 f7 hrc c_te c_tl b_te b_tl ⟨⟨_, List.getElem?_eq_getElem (by rw [fl]; decide)⟩, hints, h18⟩ (fun h1 fs1 gt1 gz1 v c_m1 k1 ft1 hh c_te1 b_te1 c_tl1 b_tl1 hcp hz0 hj o => ⟨?_, trivial⟩)
      rw [show k9_text so seed σ φ = k9_rule σ φ from (if_neg c0).trans (if_pos c1)]
      have q2 := (hj 2 (by decide)).trans f2
      have q3 := (hj 3 (by decide)).trans f3
      have Rj : RI I (p9 φ) := Ri
      rw [at52] at q2 c_te1
      rw [at53] at q3 c_tl1
      have e52 : gt = I 52 := by
        have e2 := c_te
        rw [at52, c52] at e2
        exact (Sum.inl.inj (Prod.mk.inj (Prod.mk.inj (Sum.inl.inj (Option.some.inj e2))).2).2).symm
      have e53 : gz = I 53 := by
        have e2 := c_tl
        rw [at53, c53] at e2
        exact (Sum.inl.inj (Prod.mk.inj (Prod.mk.inj (Sum.inl.inj (Option.some.inj e2))).2).2).symm
      have e150 : rc.toInt = ((p9 φ).1 : Int) := by rw [er7]; exact Ri.1
      have e57 : (φ.1 50 7).toInt = rc.toInt := by rw [er7, hS.2.2.2.2.2.2.2.2.2.2]
      rcases hcp with ⟨p1, ⟨p2, p3⟩, cp⟩ | ⟨p1, w1, w2⟩
      · rcases hh with ⟨-, -, -, ⟨y7, u2, u3⟩, -⟩ | ⟨z, -⟩
        · rw [e52, e53] at cp
          have hrb : isRb (sp_rule σ.1 σ.2.1) = true := by rw [← hn, p3]; rfl
          rw [p9_rule (by omega) (by omega) hrb]
          exact RR.add Ri.2.2 e150 p1 cp hs ⟨l0, l1⟩ hnz (fun L => by
            obtain ⟨o, v1⟩ := v_rule_ok (L := fun k => Int32.ofInt (L k)) p3
            refine ⟨p2, o, v1, ?_⟩
            unfold k9_ru
            rw [← hn, v1]) c_m1 q2 q3 u2 u3 c_te1 c_tl1
        · exfalso
          rcases z with z | ⟨e9, z⟩
          · omega
          · rw [p3] at z
            cases z
      · rcases hh with ⟨z1, ⟨z2, z3⟩, -⟩ | ⟨-, -, u2, -⟩
        · exfalso
          rcases p1 with z | ⟨e9, z⟩
          · omega
          · rw [z3] at z
            cases z
        · have c9 : ¬ (isRb (sp_rule σ.1 σ.2.1) = true ∧ σ.2.2 < 4) := fun z => by
            rcases p1 with p1 | ⟨e9, p1⟩
            · omega
            · rw [← hn, p1] at z
              cases z.1
          rw [show k9_rule σ φ = φ from if_neg c9]
          rw [er7] at u2
          rw [w1, e52] at c_te1
          rw [w2, e53] at c_tl1
          exact RR.st Ri c_m1 q2 q3 u2 c_te1 c_tl1
    · rw [show k9_text so seed σ φ = φ from (if_neg c0).trans (if_neg c1)]
      refine r_text2 ⟨c0, c1⟩ (by decide) (by decide) c_m fl (fun h1 fs1 v c_m1 k1 hv2 hz0 hj o => ⟨?_, trivial⟩)
      exact RR.st Ri c_m1 ((hj 2 (by decide)).trans (rf 2 52 rfl)) ((hj 3 (by decide)).trans (rf 3 53 rfl)) ((hj 7 (by decide)).trans (nf 7 rfl)) ((o _ (hz.ne rfl rfl (by decide))).trans c52) ((o _ (hz.ne rfl rfl (by decide))).trans c53)
end
