/-! what class and reference hold in common: the TAPE, how many RULES -/
section
variable {Sg Sg1 : Nat → Option Nat} {cA : Nat → ClassId} {Lb9 : Nat → k_I} {h h1 : ch_H} {W : List (Nat × Nat)}
/-- a cell of a label that isn't written -/
theorem k_U.same {a L : Nat} (hH : k_H Sg cA Lb9 h) (u : k_U Sg W h h1) (hs : Sg a = some L) (hw : ∀ q ∈ W, q.1 ≠ L) : h1 a = h a := by
  obtain ⟨e, e1, -⟩ := hH a L hs
  have u2 := u a L hs
  rw [e1]
  rcases e with e | ⟨ci, fs⟩
  · exact u2.2 e e1 (fun q => hw _ q rfl)
  · obtain ⟨fs', e2, e3⟩ := u2.1 ci fs e1
    have : fs' = fs := List.ext_getElem? (fun k => e3 k (fun q => hw _ q rfl))
    rw [e2, this]
end
abbrev aS : Type := (Nat → Int32) × Nat × Nat
/-- the class's side -/
def aC (cA : Nat → ClassId) (h : ch_H) (x : Nat) (σ : aS) : Prop := ∃ (xs : List Value) (t b : Nat) (len rc at0 fl0 : Int32), h x = some (.inr (9, xs)) ∧ xs[0]? = some (.ref t) ∧ xs[14]? = some (.int rc) ∧ tp0 cA h t b σ.1 len at0 fl0 ∧ len.toInt = (σ.2.1 : Int) ∧ rc.toInt = (σ.2.2 : Int)
/-- the reference's side -/
def aR (cA : Nat → ClassId) (h : ch_H) (m : Nat) (σ : aS) : Prop := ∃ (fs : List Value) (tx : Nat) (g : Nat → Int32) (len rc : Int32), h m = some (.inr (10, fs)) ∧ fs[1]? = some (.ref tx) ∧ fs[6]? = some (.int len) ∧ fs[7]? = some (.int rc) ∧ h tx = some (.inl (cA 2, 160, .inl g)) ∧ sbn g σ.1 σ.2.1 ∧ len.toInt = (σ.2.1 : Int) ∧ rc.toInt = (σ.2.2 : Int)
def okC (W : List (Nat × Nat)) : Bool := W.all (fun q => decide (q.1 < 50) && decide (q ∉ [(0, 0), (0, 14), (1, 0), (1, 1), (10, 0)]))
def okR (W : List (Nat × Nat)) : Bool := W.all (fun q => decide (50 ≤ q.1) && decide (q ∉ [(50, 1), (50, 6), (50, 7), (51, 0), (70, 1), (70, 6), (70, 7)]))
theorem okC.lt {W : List (Nat × Nat)} (h : okC W = true) : ∀ q ∈ W, q.1 < 50 ∧ q ∉ [(0, 0), (0, 14), (1, 0), (1, 1), (10, 0)] := fun q hq => by
  have := List.all_eq_true.mp h q hq
  simpa only [Bool.and_eq_true, decide_eq_true_eq] using this
theorem okR.ge {W : List (Nat × Nat)} (h : okR W = true) : ∀ q ∈ W, 50 ≤ q.1 ∧ q ∉ [(50, 1), (50, 6), (50, 7), (51, 0), (70, 1), (70, 6), (70, 7)] := fun q hq => by
  have := List.all_eq_true.mp h q hq
  simpa only [Bool.and_eq_true, decide_eq_true_eq] using this
section
variable {Sg Sg1 : Nat → Option Nat} {cA : Nat → ClassId} {h h1 : ch_H} {W : List (Nat × Nat)} {x m : Nat} {σ : aS}
theorem aC.sg (hH : k_H Sg cA Lb h) (sx : Sg x = some 0) {xs : List Value} {t b : Nat} {len at0 fl0 : Int32} {f : Nat → Int32} (c_x : h x = some (.inr (9, xs))) (f0 : xs[0]? = some (.ref t)) (T : tp0 cA h t b f len at0 fl0) : Sg t = some 1 ∧ Sg b = some 10 := by
  obtain ⟨fs, c, -, ty⟩ := hH.obj sx (L := 0) rfl
  rw [c_x] at c
  cases c
  obtain ⟨v, e, tv⟩ := ty 0 _ rfl
  rw [f0] at e
  cases e
  obtain ⟨t2, e2, st⟩ := k_v.ref tv
  cases e2
  obtain ⟨fs2, c2, -, ty2⟩ := hH.obj st (L := 1) rfl
  rw [T.1] at c2
  cases c2
  obtain ⟨v3, e3, tv3⟩ := ty2 0 _ rfl
  cases e3
  obtain ⟨b2, e4, sb⟩ := k_v.ref tv3
  cases e4
  exact ⟨st, sb⟩
/-- cells alike, the same said -/
theorem aC.eq (hH : k_H Sg cA Lb h) (sx : Sg x = some 0) (o : ∀ a L, Sg a = some L → L < 50 → h1 a = h a) (H : aC cA h x σ) : aC cA h1 x σ := by
  obtain ⟨xs, t, b, len, rc, at0, fl0, c_x, f0, f14, T, e1, e2⟩ := H
  obtain ⟨st, sb⟩ := aC.sg hH sx c_x f0 T
  exact ⟨xs, t, b, len, rc, at0, fl0, (o x 0 sx (by decide)).trans c_x, f0, f14, ⟨(o t 1 st (by decide)).trans T.1, (o b 10 sb (by decide)).trans T.2.1, T.2.2⟩, e1, e2⟩
theorem aC.U (hH : k_H Sg cA Lb h) (hH1 : k_H Sg cA Lb h1) (u : k_U Sg W h h1) (hw : okC W = true) (sx : Sg x = some 0) (H : aC cA h x σ) : aC cA h1 x σ := by
  obtain ⟨xs, t, b, len, rc, at0, fl0, c_x, f0, f14, T, e1, e2⟩ := H
  obtain ⟨st, sb⟩ := aC.sg hH sx c_x f0 T
  have no : ∀ q, q ∈ [(0, 0), (0, 14), (1, 0), (1, 1), (10, 0)] → q ∉ W := fun q q1 q2 => (okC.lt hw q q2).2 q1
  obtain ⟨xs1, c1, k1⟩ := (u x 0 sx).1 _ _ c_x
  obtain ⟨ts1, c2, k2⟩ := (u t 1 st).1 _ _ T.1
  have c3 := (u b 10 sb).2 _ T.2.1 (no _ (by decide))
  obtain ⟨ts2, c4, l4, ty⟩ := hH1.obj st (L := 1) rfl
  rw [c2] at c4
  cases c4
  obtain ⟨v2, g2, t2⟩ := ty 2 _ rfl
  obtain ⟨y2, rfl, -⟩ := k_v.int t2
  obtain ⟨v3, g3, t3⟩ := ty 3 _ rfl
  obtain ⟨y3, rfl, -⟩ := k_v.int t3
  have e9 := list4 l4 ((k2 0 (no _ (by decide))).trans rfl) ((k2 1 (no _ (by decide))).trans rfl) g2 g3
  subst e9
  exact ⟨xs1, t, b, len, rc, y2, y3, c1, (k1 0 (no _ (by decide))).trans f0, (k1 14 (no _ (by decide))).trans f14, ⟨c2, c3, T.2.2⟩, e1, e2⟩
/-- the reference's object: with a TOWN, or ahead of the first -/
def sgM0 (Sg : Nat → Option Nat) (m : Nat) : Prop := Sg m = some 50 ∨ Sg m = some 70
/-- .. and there is one alone -/
def sgM (Sg : Nat → Option Nat) (m : Nat) : Prop := sgM0 Sg m ∧ ∀ a L, Sg a = some L → L = 50 ∨ L = 70 → a = m
theorem aR.sg (hH : k_H Sg cA Lb h) (sm : sgM0 Sg m) {fs : List Value} {tx : Nat} (c_m : h m = some (.inr (10, fs))) (f1 : fs[1]? = some (.ref tx)) : Sg tx = some 51 := by
  rcases sm with sm | sm
  · obtain ⟨fs2, c, -, ty⟩ := hH.obj sm (L := 50) rfl
    rw [c_m] at c
    cases c
    obtain ⟨v, e, tv⟩ := ty 1 _ rfl
    rw [f1] at e
    cases e
    obtain ⟨t2, e2, st⟩ := k_v.ref tv
    cases e2
    exact st
  · obtain ⟨fs2, c, -, ty⟩ := hH.obj sm (L := 70) rfl
    rw [c_m] at c
    cases c
    obtain ⟨v, e, tv⟩ := ty 1 _ rfl
    rw [f1] at e
    cases e
    obtain ⟨t2, e2, st⟩ := k_v.ref tv
    cases e2
    exact st
theorem aR.eq (hH : k_H Sg cA Lb h) (sm : sgM0 Sg m) (o : ∀ a L, Sg a = some L → 50 ≤ L → h1 a = h a) (H : aR cA h m σ) : aR cA h1 m σ := by
  obtain ⟨fs, tx, g, len, rc, c_m, f1, f6, f7, c_t, sb, e1, e2⟩ := H
  have st := aR.sg hH sm c_m f1
  have cm : h1 m = h m := by
    rcases sm with sm | sm
    · exact o m 50 sm (by decide)
    · exact o m 70 sm (by decide)
  exact ⟨fs, tx, g, len, rc, cm.trans c_m, f1, f6, f7, (o tx 51 st (by decide)).trans c_t, sb, e1, e2⟩
theorem aR.U (hH : k_H Sg cA Lb h) (u : k_U Sg W h h1) (hw : okR W = true) (sm : sgM0 Sg m) (H : aR cA h m σ) : aR cA h1 m σ := by
  obtain ⟨fs, tx, g, len, rc, c_m, f1, f6, f7, c_t, sb, e1, e2⟩ := H
  have st := aR.sg hH sm c_m f1
  have no : ∀ q, q ∈ [(50, 1), (50, 6), (50, 7), (51, 0), (70, 1), (70, 6), (70, 7)] → q ∉ W := fun q q1 q2 => (okR.ge hw q q2).2 q1
  have c3 := (u tx 51 st).2 _ c_t (no _ (by decide))
  rcases sm with sm | sm
  · obtain ⟨fs1, c1, k1⟩ := (u m 50 sm).1 _ _ c_m
    exact ⟨fs1, tx, g, len, rc, c1, (k1 1 (no _ (by decide))).trans f1, (k1 6 (no _ (by decide))).trans f6, (k1 7 (no _ (by decide))).trans f7, c3, sb, e1, e2⟩
  · obtain ⟨fs1, c1, k1⟩ := (u m 70 sm).1 _ _ c_m
    exact ⟨fs1, tx, g, len, rc, c1, (k1 1 (no _ (by decide))).trans f1, (k1 6 (no _ (by decide))).trans f6, (k1 7 (no _ (by decide))).trans f7, c3, sb, e1, e2⟩
end
/-! four numbers that class and reference share: ROPES, galleries, persons, tasks -/
abbrev aN : Type := Nat × Nat × Nat × Nat
/-- the class's side: the plan in force (x.1) is another than the draft (x.2) -/
def bC (h : ch_H) (x : Nat) (τ : aN) : Prop := ∃ (xs ps gs : List Value) (Pa P fo : Nat) (n ga pe ta : Int32), h x = some (.inr (9, xs)) ∧ xs[1]? = some (.ref Pa) ∧ xs[2]? = some (.ref P) ∧ xs[8]? = some (.ref fo) ∧ Pa ≠ P ∧ h Pa = some (.inr (4, ps)) ∧ ps[0]? = some (.int n) ∧ h fo = some (.inr (1, gs)) ∧ gs[0]? = some (.int ga) ∧ gs[3]? = some (.int pe) ∧ gs[5]? = some (.int ta) ∧ n.toInt = (τ.1 : Int) ∧ ga.toInt = (τ.2.1 : Int) ∧ pe.toInt = (τ.2.2.1 : Int) ∧ ta.toInt = (τ.2.2.2 : Int)
/-- the reference's side -/
def bR (h : ch_H) (m : Nat) (τ : aN) : Prop := ∃ (fs : List Value) (n ga pe ta : Int32), h m = some (.inr (10, fs)) ∧ fs[20]? = some (.int n) ∧ fs[32]? = some (.int ga) ∧ fs[33]? = some (.int pe) ∧ fs[34]? = some (.int ta) ∧ n.toInt = (τ.1 : Int) ∧ ga.toInt = (τ.2.1 : Int) ∧ pe.toInt = (τ.2.2.1 : Int) ∧ ta.toInt = (τ.2.2.2 : Int)
def okCn (W : List (Nat × Nat)) : Bool := W.all (fun q => decide (q ∉ [(0, 1), (0, 2), (0, 8), (2, 0), (4, 0), (4, 3), (4, 5)]))
def okRn (W : List (Nat × Nat)) : Bool := W.all (fun q => decide (q ∉ [(50, 20), (50, 32), (50, 33), (50, 34), (70, 20), (70, 32), (70, 33), (70, 34)]))
theorem okCn.no {W : List (Nat × Nat)} (h : okCn W = true) : ∀ q ∈ W, q ∉ [(0, 1), (0, 2), (0, 8), (2, 0), (4, 0), (4, 3), (4, 5)] := fun q hq => of_decide_eq_true (List.all_eq_true.mp h q hq)
theorem okRn.no {W : List (Nat × Nat)} (h : okRn W = true) : ∀ q ∈ W, q ∉ [(50, 20), (50, 32), (50, 33), (50, 34), (70, 20), (70, 32), (70, 33), (70, 34)] := fun q hq => of_decide_eq_true (List.all_eq_true.mp h q hq)
section
variable {Sg : Nat → Option Nat} {cA : Nat → ClassId} {h h1 : ch_H} {W : List (Nat × Nat)} {x m : Nat} {τ : aN}
theorem bC.sg (hH : k_H Sg cA Lb h) (sx : Sg x = some 0) {xs : List Value} {Pa fo : Nat} (c_x : h x = some (.inr (9, xs))) (f1 : xs[1]? = some (.ref Pa)) (f8 : xs[8]? = some (.ref fo)) : Sg Pa = some 2 ∧ Sg fo = some 4 := by
  obtain ⟨fs, c, -, ty⟩ := hH.obj sx (L := 0) rfl
  rw [c_x] at c
  cases c
  obtain ⟨v, e, tv⟩ := ty 1 _ rfl
  rw [f1] at e
  cases e
  obtain ⟨t2, e2, s1⟩ := k_v.ref tv
  cases e2
  obtain ⟨v8, e8, tv8⟩ := ty 8 _ rfl
  rw [f8] at e8
  cases e8
  obtain ⟨t3, e3, s8⟩ := k_v.ref tv8
  cases e3
  exact ⟨s1, s8⟩
theorem bC.U (hH : k_H Sg cA Lb h) (u : k_U Sg W h h1) (hw : okCn W = true) (sx : Sg x = some 0) (H : bC h x τ) : bC h1 x τ := by
  obtain ⟨xs, ps, gs, Pa, P, fo, n, ga, pe, ta, c_x, f1, f2, f8, ne, c_P, p0, c_f, g0, g3, g5, e⟩ := H
  obtain ⟨sP, sf⟩ := bC.sg hH sx c_x f1 f8
  have no : ∀ q, q ∈ [(0, 1), (0, 2), (0, 8), (2, 0), (4, 0), (4, 3), (4, 5)] → q ∉ W := fun q q1 q2 => okCn.no hw q q2 q1
  obtain ⟨xs1, c1, k1⟩ := (u x 0 sx).1 _ _ c_x
  obtain ⟨ps1, c2, k2⟩ := (u Pa 2 sP).1 _ _ c_P
  obtain ⟨gs1, c3, k3⟩ := (u fo 4 sf).1 _ _ c_f
  exact ⟨xs1, ps1, gs1, Pa, P, fo, n, ga, pe, ta, c1, (k1 1 (no _ (by decide))).trans f1, (k1 2 (no _ (by decide))).trans f2, (k1 8 (no _ (by decide))).trans f8, ne, c2, (k2 0 (no _ (by decide))).trans p0, c3, (k3 0 (no _ (by decide))).trans g0, (k3 3 (no _ (by decide))).trans g3, (k3 5 (no _ (by decide))).trans g5, e⟩
theorem bC.eq (hH : k_H Sg cA Lb h) (sx : Sg x = some 0) (o : ∀ a L, Sg a = some L → L < 50 → h1 a = h a) (H : bC h x τ) : bC h1 x τ := by
  obtain ⟨xs, ps, gs, Pa, P, fo, n, ga, pe, ta, c_x, f1, f2, f8, ne, c_P, p0, c_f, g⟩ := H
  obtain ⟨sP, sf⟩ := bC.sg hH sx c_x f1 f8
  exact ⟨xs, ps, gs, Pa, P, fo, n, ga, pe, ta, (o x 0 sx (by decide)).trans c_x, f1, f2, f8, ne, (o Pa 2 sP (by decide)).trans c_P, p0, (o fo 4 sf (by decide)).trans c_f, g⟩
theorem bR.U (u : k_U Sg W h h1) (hw : okRn W = true) (sm : sgM0 Sg m) (H : bR h m τ) : bR h1 m τ := by
  obtain ⟨fs, n, ga, pe, ta, c_m, f1, f2, f3, f4, e⟩ := H
  have no : ∀ q, q ∈ [(50, 20), (50, 32), (50, 33), (50, 34), (70, 20), (70, 32), (70, 33), (70, 34)] → q ∉ W := fun q q1 q2 => okRn.no hw q q2 q1
  rcases sm with sm | sm
  · obtain ⟨fs1, c1, k1⟩ := (u m 50 sm).1 _ _ c_m
    exact ⟨fs1, n, ga, pe, ta, c1, (k1 20 (no _ (by decide))).trans f1, (k1 32 (no _ (by decide))).trans f2, (k1 33 (no _ (by decide))).trans f3, (k1 34 (no _ (by decide))).trans f4, e⟩
  · obtain ⟨fs1, c1, k1⟩ := (u m 70 sm).1 _ _ c_m
    exact ⟨fs1, n, ga, pe, ta, c1, (k1 20 (no _ (by decide))).trans f1, (k1 32 (no _ (by decide))).trans f2, (k1 33 (no _ (by decide))).trans f3, (k1 34 (no _ (by decide))).trans f4, e⟩
theorem bR.eq (sm : sgM0 Sg m) (o : ∀ a L, Sg a = some L → 50 ≤ L → h1 a = h a) (H : bR h m τ) : bR h1 m τ := by
  obtain ⟨fs, n, ga, pe, ta, c_m, e⟩ := H
  refine ⟨fs, n, ga, pe, ta, ?_, e⟩
  rcases sm with sm | sm
  · exact (o m 50 sm (by decide)).trans c_m
  · exact (o m 70 sm (by decide)).trans c_m
end
section
variable {Sg : Nat → Option Nat} {cA : Nat → ClassId} {h h1 : ch_H} {x m : Nat} {τ : aN}
/-- by the cells: the object, the plan in force, the folk -/
theorem bC.cells (hH : k_H Sg cA Lb h) (sx : Sg x = some 0) (o : ∀ (xs : List Value) (Pa P fo : Nat), h x = some (.inr (9, xs)) → xs[2]? = some (.ref P) → Pa ≠ P → Sg Pa = some 2 → Sg fo = some 4 → (∃ xs1, h1 x = some (.inr (9, xs1)) ∧ xs1[1]? = xs[1]? ∧ xs1[2]? = xs[2]? ∧ xs1[8]? = xs[8]?) ∧ h1 Pa = h Pa ∧ h1 fo = h fo) (H : bC h x τ) : bC h1 x τ := by
  obtain ⟨xs, ps, gs, Pa, P, fo, n, ga, pe, ta, c_x, f1, f2, f8, ne, c_P, p0, c_f, g⟩ := H
  obtain ⟨sP, sf⟩ := bC.sg hH sx c_x f1 f8
  obtain ⟨⟨xs1, d0, d1, d2, d3⟩, o2, o3⟩ := o xs Pa P fo c_x f2 ne sP sf
  exact ⟨xs1, ps, gs, Pa, P, fo, n, ga, pe, ta, d0, d1.trans f1, d2.trans f2, d3.trans f8, ne, o2.trans c_P, p0, o3.trans c_f, g⟩
theorem bC.same (hH : k_H Sg cA Lb h) (sx : Sg x = some 0) (o : ∀ a L, Sg a = some L → L = 0 ∨ L = 2 ∨ L = 4 → h1 a = h a) (H : bC h x τ) : bC h1 x τ :=
  H.cells hH sx (fun xs _ _ _ c_x _ _ sP sf => ⟨⟨xs, (o x 0 sx (Or.inl rfl)).trans c_x, rfl, rfl, rfl⟩, o _ 2 sP (Or.inr (Or.inl rfl)), o _ 4 sf (Or.inr (Or.inr rfl))⟩)
theorem bR.cells (o : ∀ fs : List Value, h m = some (.inr (10, fs)) → ∃ fs1, h1 m = some (.inr (10, fs1)) ∧ fs1[20]? = fs[20]? ∧ fs1[32]? = fs[32]? ∧ fs1[33]? = fs[33]? ∧ fs1[34]? = fs[34]?) (H : bR h m τ) : bR h1 m τ := by
  obtain ⟨fs, n, ga, pe, ta, c_m, f1, f2, f3, f4, e⟩ := H
  obtain ⟨fs1, d0, d1, d2, d3, d4⟩ := o fs c_m
  exact ⟨fs1, n, ga, pe, ta, d0, d1.trans f1, d2.trans f2, d3.trans f3, d4.trans f4, e⟩
end
theorem bR.mod {h h1 : ch_H} {m : Nat} {τ : aN} {fs fs1 : List Value} (c_m : h m = some (.inr (10, fs))) (c_m1 : h1 m = some (.inr (10, fs1))) (e20 : fs1[20]? = fs[20]?) (e32 : fs1[32]? = fs[32]?) (e33 : fs1[33]? = fs[33]?) (e34 : fs1[34]? = fs[34]?) (H : bR h m τ) : bR h1 m τ := by
  obtain ⟨fs9, n, ga, pe, ta, c9, f1, f2, f3, f4, e⟩ := H
  rw [c_m] at c9
  cases c9
  exact ⟨fs1, n, ga, pe, ta, c_m1, e20.trans f1, e32.trans f2, e33.trans f3, e34.trans f4, e⟩
/-- by the cells, told outright -/
theorem bC.mod {Sg : Nat → Option Nat} {cA : Nat → ClassId} {h h1 : ch_H} {x : Nat} {τ : aN} {xs xs1 : List Value} (hH : k_H Sg cA Lb h) (sx : Sg x = some 0) (c_x : h x = some (.inr (9, xs))) (c_x1 : h1 x = some (.inr (9, xs1))) (e1 : xs1[1]? = xs[1]?) (e2 : xs1[2]? = xs[2]?) (e8 : xs1[8]? = xs[8]?) (o : ∀ a P, xs[2]? = some (.ref P) → Sg a = some 2 → a ≠ P → h1 a = h a) (o4 : ∀ a, Sg a = some 4 → h1 a = h a) (H : bC h x τ) : bC h1 x τ :=
  H.cells hH sx (fun xs9 Pa P fo c9 f2 ne sP sf => by
    rw [c_x] at c9
    cases c9
    exact ⟨⟨xs1, c_x1, e1, e2, e8⟩, o Pa P f2 sP ne, o4 fo sf⟩)
theorem bC.uniq {h : ch_H} {x : Nat} {τ τ' : aN} (H : bC h x τ) (H' : bC h x τ') : τ = τ' := by
  obtain ⟨xs, ps, gs, Pa, P, fo, n, ga, pe, ta, c_x, f1, f2, f8, ne, c_P, p0, c_f, g0, g3, g5, e0, e1, e2, e3⟩ := H
  obtain ⟨xs', ps', gs', Pa', P', fo', n', ga', pe', ta', c_x', f1', f2', f8', ne', c_P', p0', c_f', g0', g3', g5', e0', e1', e2', e3'⟩ := H'
  rw [c_x] at c_x'
  cases c_x'
  rw [f1] at f1'
  cases f1'
  rw [f8] at f8'
  cases f8'
  rw [c_P] at c_P'
  cases c_P'
  rw [c_f] at c_f'
  cases c_f'
  rw [p0] at p0'
  cases p0'
  rw [g0] at g0'
  cases g0'
  rw [g3] at g3'
  cases g3'
  rw [g5] at g5'
  cases g5'
  exact Prod.ext (by omega) (Prod.ext (by show τ.2.1 = τ'.2.1; omega) (Prod.ext (by show τ.2.2.1 = τ'.2.2.1; omega) (by show τ.2.2.2 = τ'.2.2.2; omega)))
theorem bR.uniq {h : ch_H} {m : Nat} {τ τ' : aN} (H : bR h m τ) (H' : bR h m τ') : τ = τ' := by
  obtain ⟨fs, n, ga, pe, ta, c_m, f1, f2, f3, f4, e0, e1, e2, e3⟩ := H
  obtain ⟨fs', n', ga', pe', ta', c_m', f1', f2', f3', f4', e0', e1', e2', e3'⟩ := H'
  rw [c_m] at c_m'
  cases c_m'
  rw [f1] at f1'
  cases f1'
  rw [f2] at f2'
  cases f2'
  rw [f3] at f3'
  cases f3'
  rw [f4] at f4'
  cases f4'
  exact Prod.ext (by omega) (Prod.ext (by show τ.2.1 = τ'.2.1; omega) (Prod.ext (by show τ.2.2.1 = τ'.2.2.1; omega) (by show τ.2.2.2 = τ'.2.2.2; omega)))
abbrev oN : Type := aS → aN → aN
abbrev bN : Type := aN → Option Value → Prop
def idN : oN := fun _ τ => τ
def noN : bN := fun _ _ => True
/-- what becomes of the numbers, and of the answer by them -/
def nC (h g : ch_H) (x : Nat) (σ : aS) (on : oN) (bn : bN) (v : Option Value) : Prop := ∀ τ : aN, bC h x τ → bC g x (on σ τ) ∧ bn τ v
def nR (h g : ch_H) (m : Nat) (σ : aS) (on : oN) (bn : bN) (v : Option Value) : Prop := ∀ τ : aN, bR h m τ → bR g m (on σ τ) ∧ bn τ v
theorem nC_id {h g : ch_H} {x : Nat} {σ : aS} {v : Option Value} (k : ∀ τ : aN, bC h x τ → bC g x τ) : nC h g x σ idN noN v := fun τ H => ⟨k τ H, trivial⟩
theorem nR_id {h g : ch_H} {m : Nat} {σ : aS} {v : Option Value} (k : ∀ τ : aN, bR h m τ → bR g m τ) : nR h g m σ idN noN v := fun τ H => ⟨k τ H, trivial⟩
def isI (v : Option Value) : Prop := ∃ w : Int32, v = some (.int w)
/-- what a call of the class does, as far as it is compared: the rest stays typed, the reference's cells as they were -/
def sC (l : Launch) (D : va_G) (tys : List (ClassId × FieldType)) (A : Nat → Prop) (X : State → Prop) (cA : Nat → ClassId) (fr lo mc ms : Nat) (M : ch_M) (x : Nat) (As : List Value) (op : aS → aS) (an : aS → Option Value → Prop) (on : oN) (bn : bN) : Prop :=
  ∀ (Sg : Nat → Option Nat) (h : ch_H) (σ : aS), k_H Sg cA Lb h → Sg x = some 0 → aC cA h x σ →
    tt l D tys A X fr lo mc ms M (fun v g => ∃ Sg1, k_H Sg1 cA Lb g ∧ sg_le Sg Sg1 ∧ (∀ a L, Sg1 a = some L → 50 ≤ L → Sg a = some L ∧ g a = h a) ∧ aC cA g x (op σ) ∧ nC h g x σ on bn v ∧ an σ v) 0 (lv_args 0 (.ref x :: As)) [] h 0 0
/-- the same of the reference: the class's cells as they were -/
def sR (l : Launch) (D : va_G) (tys : List (ClassId × FieldType)) (A : Nat → Prop) (X : State → Prop) (cA : Nat → ClassId) (fr lo mc ms : Nat) (M : ch_M) (m : Nat) (As : List Value) (op : aS → aS) (an : aS → Option Value → Prop) (on : oN) (bn : bN) : Prop :=
  ∀ (Sg : Nat → Option Nat) (h : ch_H) (σ : aS), k_H Sg cA Lb h → sgM Sg m → aR cA h m σ →
    tt l D tys A X fr lo mc ms M (fun v g => ∃ Sg1, k_H Sg1 cA Lb g ∧ sgM Sg1 m ∧ (∀ a L, Sg a = some L → L < 50 → Sg1 a = some L ∧ g a = h a) ∧ aR cA g m (op σ) ∧ nR h g m σ on bn v ∧ an σ v) 0 (lv_args 0 (.ref m :: As)) [] h 0 0
def okA : List k_T → List Value → Prop
  | [], [] => True
  | t :: ts, v :: vs => (∃ y : Int32, v = .int y ∧ t.1 = 0 ∧ t.2.1 ≤ y.toInt ∧ y.toInt ≤ t.2.2) ∧ okA ts vs
  | _, _ => False
theorem okA.at_ {Sg : Nat → Option Nat} : ∀ {ts : List k_T} {vs : List Value}, okA ts vs → vs.length = ts.length ∧ ∀ (i : Nat) (t : k_T), ts[i]? = some t → ∃ v, vs[i]? = some v ∧ k_v Sg v t
  | [], [], _ => ⟨rfl, fun i t h => by simp at h⟩
  | t :: ts, v :: vs, ⟨⟨y, e1, e2, e3, e4⟩, h⟩ => by
    obtain ⟨q1, q2⟩ := okA.at_ (Sg := Sg) h
    refine ⟨by simp [q1], fun i t2 hi => ?_⟩
    match i, hi with
    | 0, hi =>
      cases hi
      refine ⟨v, rfl, ?_⟩
      unfold k_v
      rw [e2]
      exact ⟨y, e1, e3, e4⟩
    | i + 1, hi => exact q2 i t2 hi
  | [], _ :: _, h => h.elim
  | _ :: _, [], h => h.elim
section
variable {l : Launch} {D : va_G} {tys : List (ClassId × FieldType)} {A : Nat → Prop} {X : State → Prop} {cA : Nat → ClassId} {x m : Nat} {As : List Value}
/-- a call of the class by its contract: nothing that is compared changes -/
theorem sC_id {mi fr lo : Nat} {M : ch_M} {ts : List k_T} {ra rb : Int} {W : List (Nat × Nat)} (hc : ∀ Sg, k_sat l D tys A X Sg cA Lb (mi, (2, 0, 0) :: ts, [], some (0, ra, rb), W, fr, lo)) (hm : k_pM mi = M) (hw : okC W = true) (hwn : okCn W = true) (ha : okA ts As) : sC l D tys A X cA fr lo 0 0 M x As (fun σ => σ) (fun _ v => isI v) idN noN := by
  intro Sg h σ hH sx hC
  obtain ⟨q1, q2⟩ := ha.at_ (Sg := Sg)
  have k := hc Sg h (.ref x :: As) hH (by simp [q1]) (fun i t hi => by
    match i, hi with
    | 0, hi => cases hi; exact ⟨_, rfl, x, rfl, sx⟩
    | i + 1, hi => exact q2 i t hi) (fun q hq => absurd hq List.not_mem_nil)
  rw [hm] at k
  refine tt_mono (fun v g H => ?_) k
  obtain ⟨h1, u, v9, rfl, t9⟩ := H
  obtain ⟨y9, rfl, -, -⟩ := k_v.int t9
  refine ⟨Sg, h1, sg_le.rf, fun a L ha hl => ⟨ha, k_U.same hH u ha (fun q hq e => ?_)⟩, aC.U hH h1 u hw sx hC, nC_id (fun τ H => bC.U hH u hwn sx H), y9, rfl⟩
  have := (okC.lt hw q hq).1
  omega
theorem sR_id {mi fr lo mi2 fr2 lo2 : Nat} {M : ch_M} {ts ts2 : List k_T} {ra rb ra2 rb2 : Int} {W W2 : List (Nat × Nat)} (hc : ∀ Sg, k_sat l D tys A X Sg cA Lb (mi, (2, 50, 0) :: ts, [], some (0, ra, rb), W, fr, lo)) (hc2 : ∀ Sg, k_sat l D tys A X Sg cA Lb (mi2, (2, 70, 0) :: ts2, [], some (0, ra2, rb2), W2, fr2, lo2)) (hm : k_pM mi = M) (hm2 : k_pM mi2 = M) (hw : okR W = true) (hw2 : okR W2 = true) (hwn : okRn W = true) (hwn2 : okRn W2 = true) (ha : okA ts As) (ha2 : okA ts2 As) {frr loo : Nat} (hf : fr ≤ frr ∧ fr2 ≤ frr) (hl : lo ≤ loo ∧ lo2 ≤ loo) : sR l D tys A X cA frr loo 0 0 M m As (fun σ => σ) (fun _ v => isI v) idN noN := by
  intro Sg h σ hH sm9 hR
  have sm8 := sm9
  obtain ⟨sm, su⟩ := sm9
  rcases sm with sm | sm
  · obtain ⟨q1, q2⟩ := ha.at_ (Sg := Sg)
    have k := hc Sg h (.ref m :: As) hH (by simp [q1]) (fun i t hi => by
      match i, hi with
      | 0, hi => cases hi; exact ⟨_, rfl, m, rfl, sm⟩
      | i + 1, hi => exact q2 i t hi) (fun q hq => absurd hq List.not_mem_nil)
    rw [hm] at k
    refine tt_room hf.1 hl.1 (tt_mono (fun v g H => ?_) k)
    obtain ⟨h1, u, v9, rfl, t9⟩ := H
    obtain ⟨y9, rfl, -, -⟩ := k_v.int t9
    refine ⟨Sg, h1, sm8, fun a L ha hl => ⟨ha, k_U.same hH u ha (fun q hq e => ?_)⟩, aR.U hH u hw (Or.inl sm) hR, nR_id (fun τ H => bR.U u hwn (Or.inl sm) H), y9, rfl⟩
    have := (okR.ge hw q hq).1
    omega
  · obtain ⟨q1, q2⟩ := ha2.at_ (Sg := Sg)
    have k := hc2 Sg h (.ref m :: As) hH (by simp [q1]) (fun i t hi => by
      match i, hi with
      | 0, hi => cases hi; exact ⟨_, rfl, m, rfl, sm⟩
      | i + 1, hi => exact q2 i t hi) (fun q hq => absurd hq List.not_mem_nil)
    rw [hm2] at k
    refine tt_room hf.2 hl.2 (tt_mono (fun v g H => ?_) k)
    obtain ⟨h1, u, v9, rfl, t9⟩ := H
    obtain ⟨y9, rfl, -, -⟩ := k_v.int t9
    refine ⟨Sg, h1, sm8, fun a L ha hl => ⟨ha, k_U.same hH u ha (fun q hq e => ?_)⟩, aR.U hH u hw2 (Or.inr sm) hR, nR_id (fun τ H => bR.U u hwn2 (Or.inr sm) H), y9, rfl⟩
    have := (okR.ge hw2 q hq).1
    omega
end
