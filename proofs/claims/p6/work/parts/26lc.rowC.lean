/-! the class's rows: those of the plan in force; the draft's arrays are others -/
def rP (cA : Nat → ClassId) (h : ch_H) (x n : Nat) (ρ : aRw) (xs : List Value) (Pa P : Nat) (ro ro' : Int32) (a1 a2 a3 a4 a5 a6 a7 a8 b1 b2 b3 b4 b5 b6 b7 b8 : Nat) (rc : aRw) : Prop := h x = some (.inr (9, xs)) ∧ xs[1]? = some (.ref Pa) ∧ xs[2]? = some (.ref P) ∧ Pa ≠ P ∧ h Pa = some (.inr (4, [.int ro, .ref a1, .ref a2, .ref a3, .ref a4, .ref a5, .ref a6, .ref a7, .ref a8])) ∧ h P = some (.inr (4, [.int ro', .ref b1, .ref b2, .ref b3, .ref b4, .ref b5, .ref b6, .ref b7, .ref b8])) ∧ (a1 ≠ b1 ∧ a2 ≠ b2 ∧ a3 ≠ b3 ∧ a4 ≠ b4 ∧ a5 ≠ b5 ∧ a6 ≠ b6 ∧ a7 ≠ b7 ∧ a8 ≠ b8) ∧ pr cA h a1 a2 a3 a4 a5 a6 a7 a8 rc ∧ ∀ q, q < n → ∀ w, w < 9 → rc q w = ρ q w
def rC (cA : Nat → ClassId) (h : ch_H) (x n : Nat) (ρ : aRw) : Prop := wfR n ρ ∧ ∃ (xs : List Value) (Pa P : Nat) (ro ro' : Int32) (a1 a2 a3 a4 a5 a6 a7 a8 b1 b2 b3 b4 b5 b6 b7 b8 : Nat) (rc : aRw), rP cA h x n ρ xs Pa P ro ro' a1 a2 a3 a4 a5 a6 a7 a8 b1 b2 b3 b4 b5 b6 b7 b8 rc
def okCr (W : List (Nat × Nat)) : Bool := W.all (fun q => decide (q ≠ (0, 1) ∧ q ≠ (0, 2) ∧ q.1 ≠ 2 ∧ (q.1 < 11 ∨ 18 < q.1)))
theorem okCr.no {W : List (Nat × Nat)} (h : okCr W = true) : ∀ q ∈ W, q ≠ (0, 1) ∧ q ≠ (0, 2) ∧ q.1 ≠ 2 ∧ (q.1 < 11 ∨ 18 < q.1) := fun q hq => of_decide_eq_true (List.all_eq_true.mp h q hq)
section
variable {Sg : Nat → Option Nat} {cA : Nat → ClassId} {h h1 g g2 : ch_H} {W : List (Nat × Nat)} {x n P Pa t b : Nat} {ρ rc : aRw} {xs : List Value} {ro ro' ro1 : Int32} {a1 a2 a3 a4 a5 a6 a7 a8 b1 b2 b3 b4 b5 b6 b7 b8 : Nat}
theorem pn_at (hH : k_H Sg cA Lb h) (s : Sg P = some 2) (c : h P = some (.inr (4, [.int ro, .ref a1, .ref a2, .ref a3, .ref a4, .ref a5, .ref a6, .ref a7, .ref a8]))) : ∃ g1 g2 g3 : Nat → Int32, pn cA h P a1 a2 a3 a4 a5 a6 a7 a8 g1 g2 g3 ∧ Sg a1 = some 11 ∧ Sg a2 = some 12 ∧ Sg a3 = some 13 ∧ Sg a4 = some 14 ∧ Sg a5 = some 15 ∧ Sg a6 = some 16 ∧ Sg a7 = some 17 ∧ Sg a8 = some 18 := by
  obtain ⟨c1, c2, c3, c4, c5, c6, c7, c8, g1, g2, g3, s1, s2, s3, s4, s5, s6, s7, s8, HP⟩ := T_pn hH s
  have HP9 := HP
  obtain ⟨⟨ro9, c9, -, -⟩, -⟩ := HP9
  rw [c] at c9
  cases c9
  exact ⟨g1, g2, g3, HP, s1, s2, s3, s4, s5, s6, s7, s8⟩
theorem lab0 (hH : k_H Sg cA Lb h) (sx : Sg x = some 0) (c_x : h x = some (.inr (9, xs))) (f1 : xs[1]? = some (.ref Pa)) (f2 : xs[2]? = some (.ref P)) : Sg Pa = some 2 ∧ Sg P = some 2 := by
  obtain ⟨fs, c, -, ty⟩ := hH.obj sx (L := 0) rfl
  rw [c_x] at c
  cases c
  obtain ⟨v, e, tv⟩ := ty 1 _ rfl
  rw [f1] at e
  cases e
  obtain ⟨t2, e2, s1⟩ := k_v.ref tv
  cases e2
  obtain ⟨v8, e8, tv8⟩ := ty 2 _ rfl
  rw [f2] at e8
  cases e8
  obtain ⟨t3, e3, s8⟩ := k_v.ref tv8
  cases e3
  exact ⟨s1, s8⟩
theorem same8 (hH : k_H Sg cA Lb g) (s : Sg P = some 2) (a : ag g g2) (c : g2 P = some (.inr (4, [.int ro, .ref a1, .ref a2, .ref a3, .ref a4, .ref a5, .ref a6, .ref a7, .ref a8]))) : ∃ ro9 : Int32, g P = some (.inr (4, [.int ro9, .ref a1, .ref a2, .ref a3, .ref a4, .ref a5, .ref a6, .ref a7, .ref a8])) := by
  obtain ⟨c1, c2, c3, c4, c5, c6, c7, c8, g1, g2, g3, s1, s2, s3, s4, s5, s6, s7, s8, HP⟩ := T_pn hH s
  obtain ⟨⟨ro9, c9, -, -⟩, -⟩ := HP
  have q1 : (some (Value.ref c1) : Option Value) = some (.ref a1) := a.get (k := 1) c9 c (by decide) (show 1 < 9 by decide) rfl
  cases q1
  have q2 : (some (Value.ref c2) : Option Value) = some (.ref a2) := a.get (k := 2) c9 c (by decide) (show 2 < 9 by decide) rfl
  cases q2
  have q3 : (some (Value.ref c3) : Option Value) = some (.ref a3) := a.get (k := 3) c9 c (by decide) (show 3 < 9 by decide) rfl
  cases q3
  have q4 : (some (Value.ref c4) : Option Value) = some (.ref a4) := a.get (k := 4) c9 c (by decide) (show 4 < 9 by decide) rfl
  cases q4
  have q5 : (some (Value.ref c5) : Option Value) = some (.ref a5) := a.get (k := 5) c9 c (by decide) (show 5 < 9 by decide) rfl
  cases q5
  have q6 : (some (Value.ref c6) : Option Value) = some (.ref a6) := a.get (k := 6) c9 c (by decide) (show 6 < 9 by decide) rfl
  cases q6
  have q7 : (some (Value.ref c7) : Option Value) = some (.ref a7) := a.get (k := 7) c9 c (by decide) (show 7 < 9 by decide) rfl
  cases q7
  have q8 : (some (Value.ref c8) : Option Value) = some (.ref a8) := a.get (k := 8) c9 c (by decide) (show 8 < 9 by decide) rfl
  cases q8
  exact ⟨ro9, c9⟩
theorem pr_ex (hH : k_H Sg cA Lb h) (s : Sg P = some 2) (c : h P = some (.inr (4, [.int ro, .ref a1, .ref a2, .ref a3, .ref a4, .ref a5, .ref a6, .ref a7, .ref a8]))) : ∃ rc, pr cA h a1 a2 a3 a4 a5 a6 a7 a8 rc := by
  obtain ⟨-, -, -, -, s1, s2, s3, s4, s5, s6, s7, s8⟩ := pn_at hH s c
  obtain ⟨k1, z1, -⟩ := hH.arr s1 (L := 11) rfl
  have z1 : h a1 = some (.inl (cA 0, 6, .inl k1)) := z1
  obtain ⟨k2, z2, -⟩ := hH.arr s2 (L := 12) rfl
  have z2 : h a2 = some (.inl (cA 0, 6, .inl k2)) := z2
  obtain ⟨k3, z3, -⟩ := hH.arr s3 (L := 13) rfl
  have z3 : h a3 = some (.inl (cA 0, 6, .inl k3)) := z3
  obtain ⟨k4, z4, -⟩ := hH.arr s4 (L := 14) rfl
  have z4 : h a4 = some (.inl (cA 0, 12, .inl k4)) := z4
  obtain ⟨k5, z5, -⟩ := hH.arr s5 (L := 15) rfl
  have z5 : h a5 = some (.inl (cA 0, 6, .inl k5)) := z5
  obtain ⟨k6, z6, -⟩ := hH.arr s6 (L := 16) rfl
  have z6 : h a6 = some (.inl (cA 0, 6, .inl k6)) := z6
  obtain ⟨k7, z7, -⟩ := hH.arr s7 (L := 17) rfl
  have z7 : h a7 = some (.inl (cA 0, 6, .inl k7)) := z7
  obtain ⟨k8, z8, -⟩ := hH.arr s8 (L := 18) rfl
  have z8 : h a8 = some (.inl (cA 0, 6, .inl k8)) := z8
  exact ⟨fun q w => if w = 0 then (k1 q).toInt else if w = 1 then (k2 q).toInt else if w = 2 then (k3 q).toInt else if w = 3 then (k4 (2 * q)).toInt else if w = 4 then (k4 (2 * q + 1)).toInt else if w = 5 then (k5 q).toInt else if w = 6 then (k6 q).toInt else if w = 7 then (k7 q).toInt else (k8 q).toInt, k1, k2, k3, k4, k5, k6, k7, k8, z1, z2, z3, z4, z5, z6, z7, z8, fun q _ => ⟨rfl, rfl, rfl, rfl, rfl, rfl, rfl, rfl, rfl⟩⟩
theorem pr.mv (o : h1 a1 = h a1 ∧ h1 a2 = h a2 ∧ h1 a3 = h a3 ∧ h1 a4 = h a4 ∧ h1 a5 = h a5 ∧ h1 a6 = h a6 ∧ h1 a7 = h a7 ∧ h1 a8 = h a8) (R : pr cA h a1 a2 a3 a4 a5 a6 a7 a8 rc) : pr cA h1 a1 a2 a3 a4 a5 a6 a7 a8 rc := by
  obtain ⟨o1, o2, o3, o4, o5, o6, o7, o8⟩ := o
  obtain ⟨e1, e2, e3, e4, e5, e6, e7, e8, r1, r2, r3, r4, r5, r6, r7, r8, hr⟩ := R
  exact ⟨e1, e2, e3, e4, e5, e6, e7, e8, o1.trans r1, o2.trans r2, o3.trans r3, o4.trans r4, o5.trans r5, o6.trans r6, o7.trans r7, o8.trans r8, hr⟩
theorem rC.gen (hH : k_H Sg cA Lb h) (sx : Sg x = some 0) (hx : ∀ xs : List Value, h x = some (.inr (9, xs)) → ∃ xs1, h1 x = some (.inr (9, xs1)) ∧ xs1[1]? = xs[1]? ∧ xs1[2]? = xs[2]?) (o : ∀ a L, Sg a = some L → (L = 2 ∨ 11 ≤ L ∧ L ≤ 18) → h1 a = h a) (H : rC cA h x n ρ) : rC cA h1 x n ρ := by
  obtain ⟨wf, xs, Pa, P, ro, ro', a1, a2, a3, a4, a5, a6, a7, a8, b1, b2, b3, b4, b5, b6, b7, b8, rc, c_x, f1, f2, ne, c_Pa, c_P, nn, R, e⟩ := H
  obtain ⟨sPa, sP⟩ := lab0 hH sx c_x f1 f2
  obtain ⟨-, -, -, -, s1, s2, s3, s4, s5, s6, s7, s8⟩ := pn_at hH sPa c_Pa
  obtain ⟨xs1, d0, d1, d2⟩ := hx xs c_x
  exact ⟨wf, xs1, Pa, P, ro, ro', a1, a2, a3, a4, a5, a6, a7, a8, b1, b2, b3, b4, b5, b6, b7, b8, rc, d0, d1.trans f1, d2.trans f2, ne, (o Pa 2 sPa (Or.inl rfl)).trans c_Pa, (o P 2 sP (Or.inl rfl)).trans c_P, nn, R.mv ⟨o a1 11 s1 (Or.inr (by decide)), o a2 12 s2 (Or.inr (by decide)), o a3 13 s3 (Or.inr (by decide)), o a4 14 s4 (Or.inr (by decide)), o a5 15 s5 (Or.inr (by decide)), o a6 16 s6 (Or.inr (by decide)), o a7 17 s7 (Or.inr (by decide)), o a8 18 s8 (Or.inr (by decide))⟩, e⟩
theorem rC.U (hH : k_H Sg cA Lb h) (u : k_U Sg W h h1) (hw : okCr W = true) (sx : Sg x = some 0) (H : rC cA h x n ρ) : rC cA h1 x n ρ := by
  have no := okCr.no hw
  refine H.gen hH sx (fun xs c_x => ?_) (fun a L ha hl => k_U.same hH u ha (fun q hq e9 => by have := no q hq; omega))
  obtain ⟨xs1, c1, k1⟩ := (u x 0 sx).1 _ _ c_x
  exact ⟨xs1, c1, k1 1 (fun z => (no _ z).1 rfl), k1 2 (fun z => (no _ z).2.1 rfl)⟩
theorem rC.eq (hH : k_H Sg cA Lb h) (sx : Sg x = some 0) (o : ∀ a L, Sg a = some L → L < 50 → h1 a = h a) (H : rC cA h x n ρ) : rC cA h1 x n ρ :=
  H.gen hH sx (fun xs c_x => ⟨xs, (o x 0 sx (by decide)).trans c_x, rfl, rfl⟩) (fun a L ha hl => o a L ha (by omega))
theorem rC.same (hH : k_H Sg cA Lb h) (sx : Sg x = some 0) (o : ∀ a L, Sg a = some L → L = 0 ∨ L = 2 ∨ 11 ≤ L ∧ L ≤ 18 → h1 a = h a) (H : rC cA h x n ρ) : rC cA h1 x n ρ :=
  H.gen hH sx (fun xs c_x => ⟨xs, (o x 0 sx (Or.inl rfl)).trans c_x, rfl, rfl⟩) (fun a L ha hl => o a L ha (Or.inr hl))
theorem rC.ag (hH : k_H Sg cA Lb g) (sx : Sg x = some 0) (a : ag g g2) (ai : agI g g2) (H : rC cA g2 x n ρ) : rC cA g x n ρ := by
  obtain ⟨wf, xs, Pa, P, ro, ro', a1, a2, a3, a4, a5, a6, a7, a8, b1, b2, b3, b4, b5, b6, b7, b8, rc, c_x, f1, f2, ne, c_Pa, c_P, nn, R, e⟩ := H
  obtain ⟨xs1, c1, l1, -⟩ := hH.obj sx (L := 0) rfl
  have q1 := a.get c1 c_x (by decide) (by rw [l1]; decide) f1
  have q2 := a.get c1 c_x (by decide) (by rw [l1]; decide) f2
  obtain ⟨sPa, sP⟩ := lab0 hH sx c1 q1 q2
  obtain ⟨ro9, c9⟩ := same8 hH sPa a c_Pa
  obtain ⟨ro8, c8⟩ := same8 hH sP a c_P
  obtain ⟨-, -, -, -, s1, s2, s3, s4, s5, s6, s7, s8⟩ := pn_at hH sPa c9
  obtain ⟨e1, e2, e3, e4, e5, e6, e7, e8, r1, r2, r3, r4, r5, r6, r7, r8, hr⟩ := R
  obtain ⟨k1, z1, -⟩ := hH.arr s1 (L := 11) rfl
  have z1 : g a1 = some (.inl (cA 0, 6, .inl k1)) := z1
  have w1 := (ai a1 _ _ _ _ _ _ z1 r1).2
  obtain ⟨k2, z2, -⟩ := hH.arr s2 (L := 12) rfl
  have z2 : g a2 = some (.inl (cA 0, 6, .inl k2)) := z2
  have w2 := (ai a2 _ _ _ _ _ _ z2 r2).2
  obtain ⟨k3, z3, -⟩ := hH.arr s3 (L := 13) rfl
  have z3 : g a3 = some (.inl (cA 0, 6, .inl k3)) := z3
  have w3 := (ai a3 _ _ _ _ _ _ z3 r3).2
  obtain ⟨k4, z4, -⟩ := hH.arr s4 (L := 14) rfl
  have z4 : g a4 = some (.inl (cA 0, 12, .inl k4)) := z4
  have w4 := (ai a4 _ _ _ _ _ _ z4 r4).2
  obtain ⟨k5, z5, -⟩ := hH.arr s5 (L := 15) rfl
  have z5 : g a5 = some (.inl (cA 0, 6, .inl k5)) := z5
  have w5 := (ai a5 _ _ _ _ _ _ z5 r5).2
  obtain ⟨k6, z6, -⟩ := hH.arr s6 (L := 16) rfl
  have z6 : g a6 = some (.inl (cA 0, 6, .inl k6)) := z6
  have w6 := (ai a6 _ _ _ _ _ _ z6 r6).2
  obtain ⟨k7, z7, -⟩ := hH.arr s7 (L := 17) rfl
  have z7 : g a7 = some (.inl (cA 0, 6, .inl k7)) := z7
  have w7 := (ai a7 _ _ _ _ _ _ z7 r7).2
  obtain ⟨k8, z8, -⟩ := hH.arr s8 (L := 18) rfl
  have z8 : g a8 = some (.inl (cA 0, 6, .inl k8)) := z8
  have w8 := (ai a8 _ _ _ _ _ _ z8 r8).2
  exact ⟨wf, xs1, Pa, P, ro9, ro8, a1, a2, a3, a4, a5, a6, a7, a8, b1, b2, b3, b4, b5, b6, b7, b8, rc, c1, q1, q2, ne, c9, c8, nn, ⟨k1, k2, k3, k4, k5, k6, k7, k8, z1, z2, z3, z4, z5, z6, z7, z8, fun q hq => by
    obtain ⟨y1, y2, y3, y4, y5, y6, y7, y8, y9⟩ := hr q hq
    rw [w1 q hq, w2 q hq, w3 q hq, w4 (2 * q) (by omega), w4 (2 * q + 1) (by omega), w5 q hq, w6 q hq, w7 q hq, w8 q hq]
    exact ⟨y1, y2, y3, y4, y5, y6, y7, y8, y9⟩⟩, e⟩
theorem sgP_lt {q : Nat} (n0 : q ≠ t) (n1 : q ≠ b) (n2 : q ≠ P) (m1 : q ≠ a1) (m2 : q ≠ a2) (m3 : q ≠ a3) (m4 : q ≠ a4) (m5 : q ≠ a5) (m6 : q ≠ a6) (m7 : q ≠ a7) (m8 : q ≠ a8) : sgP t b P a1 a2 a3 a4 a5 a6 a7 a8 q < 2 := by
  unfold sgP
  rw [if_neg n0, if_neg n1, if_neg n2, if_neg m1, if_neg m2, if_neg m3, if_neg m4, if_neg m5, if_neg m6, if_neg m7, if_neg m8]
  decide
/-- the draft alone is written -/
theorem rC.dr (wf : wfR n ρ) (hH : k_H Sg cA Lb h) (sx : Sg x = some 0) (st : Sg t = some 1) (sb : Sg b = some 10) (H : rP cA h x n ρ xs Pa P ro ro' a1 a2 a3 a4 a5 a6 a7 a8 b1 b2 b3 b4 b5 b6 b7 b8 rc) (c_P1 : h1 P = some (.inr (4, [.int ro1, .ref b1, .ref b2, .ref b3, .ref b4, .ref b5, .ref b6, .ref b7, .ref b8]))) (o : ∀ q, sgP t b P b1 b2 b3 b4 b5 b6 b7 b8 q < 2 → h1 q = h q) : rC cA h1 x n ρ := by
  obtain ⟨c_x, f1, f2, ne, c_Pa, c_P, nn, R, e⟩ := H
  obtain ⟨sPa, sP⟩ := lab0 hH sx c_x f1 f2
  obtain ⟨-, -, -, -, s1, s2, s3, s4, s5, s6, s7, s8⟩ := pn_at hH sPa c_Pa
  obtain ⟨-, -, -, -, u1, u2, u3, u4, u5, u6, u7, u8⟩ := pn_at hH sP c_P
  obtain ⟨n1, n2, n3, n4, n5, n6, n7, n8⟩ := nn
  refine ⟨wf, xs, Pa, P, ro, ro1, a1, a2, a3, a4, a5, a6, a7, a8, b1, b2, b3, b4, b5, b6, b7, b8, rc, (o x ?_).trans c_x, f1, f2, ne, (o Pa ?_).trans c_Pa, c_P1, ⟨n1, n2, n3, n4, n5, n6, n7, n8⟩, R.mv ⟨o a1 ?_, o a2 ?_, o a3 ?_, o a4 ?_, o a5 ?_, o a6 ?_, o a7 ?_, o a8 ?_⟩, e⟩
  · exact sgP_lt (k_sg_ne sx st (by decide)) (k_sg_ne sx sb (by decide)) (k_sg_ne sx sP (by decide)) (k_sg_ne sx u1 (by decide)) (k_sg_ne sx u2 (by decide)) (k_sg_ne sx u3 (by decide)) (k_sg_ne sx u4 (by decide)) (k_sg_ne sx u5 (by decide)) (k_sg_ne sx u6 (by decide)) (k_sg_ne sx u7 (by decide)) (k_sg_ne sx u8 (by decide))
  · exact sgP_lt (k_sg_ne sPa st (by decide)) (k_sg_ne sPa sb (by decide)) ne (k_sg_ne sPa u1 (by decide)) (k_sg_ne sPa u2 (by decide)) (k_sg_ne sPa u3 (by decide)) (k_sg_ne sPa u4 (by decide)) (k_sg_ne sPa u5 (by decide)) (k_sg_ne sPa u6 (by decide)) (k_sg_ne sPa u7 (by decide)) (k_sg_ne sPa u8 (by decide))
  · exact sgP_lt (k_sg_ne s1 st (by decide)) (k_sg_ne s1 sb (by decide)) (k_sg_ne s1 sP (by decide)) n1 (k_sg_ne s1 u2 (by decide)) (k_sg_ne s1 u3 (by decide)) (k_sg_ne s1 u4 (by decide)) (k_sg_ne s1 u5 (by decide)) (k_sg_ne s1 u6 (by decide)) (k_sg_ne s1 u7 (by decide)) (k_sg_ne s1 u8 (by decide))
  · exact sgP_lt (k_sg_ne s2 st (by decide)) (k_sg_ne s2 sb (by decide)) (k_sg_ne s2 sP (by decide)) (k_sg_ne s2 u1 (by decide)) n2 (k_sg_ne s2 u3 (by decide)) (k_sg_ne s2 u4 (by decide)) (k_sg_ne s2 u5 (by decide)) (k_sg_ne s2 u6 (by decide)) (k_sg_ne s2 u7 (by decide)) (k_sg_ne s2 u8 (by decide))
  · exact sgP_lt (k_sg_ne s3 st (by decide)) (k_sg_ne s3 sb (by decide)) (k_sg_ne s3 sP (by decide)) (k_sg_ne s3 u1 (by decide)) (k_sg_ne s3 u2 (by decide)) n3 (k_sg_ne s3 u4 (by decide)) (k_sg_ne s3 u5 (by decide)) (k_sg_ne s3 u6 (by decide)) (k_sg_ne s3 u7 (by decide)) (k_sg_ne s3 u8 (by decide))
  · exact sgP_lt (k_sg_ne s4 st (by decide)) (k_sg_ne s4 sb (by decide)) (k_sg_ne s4 sP (by decide)) (k_sg_ne s4 u1 (by decide)) (k_sg_ne s4 u2 (by decide)) (k_sg_ne s4 u3 (by decide)) n4 (k_sg_ne s4 u5 (by decide)) (k_sg_ne s4 u6 (by decide)) (k_sg_ne s4 u7 (by decide)) (k_sg_ne s4 u8 (by decide))
  · exact sgP_lt (k_sg_ne s5 st (by decide)) (k_sg_ne s5 sb (by decide)) (k_sg_ne s5 sP (by decide)) (k_sg_ne s5 u1 (by decide)) (k_sg_ne s5 u2 (by decide)) (k_sg_ne s5 u3 (by decide)) (k_sg_ne s5 u4 (by decide)) n5 (k_sg_ne s5 u6 (by decide)) (k_sg_ne s5 u7 (by decide)) (k_sg_ne s5 u8 (by decide))
  · exact sgP_lt (k_sg_ne s6 st (by decide)) (k_sg_ne s6 sb (by decide)) (k_sg_ne s6 sP (by decide)) (k_sg_ne s6 u1 (by decide)) (k_sg_ne s6 u2 (by decide)) (k_sg_ne s6 u3 (by decide)) (k_sg_ne s6 u4 (by decide)) (k_sg_ne s6 u5 (by decide)) n6 (k_sg_ne s6 u7 (by decide)) (k_sg_ne s6 u8 (by decide))
  · exact sgP_lt (k_sg_ne s7 st (by decide)) (k_sg_ne s7 sb (by decide)) (k_sg_ne s7 sP (by decide)) (k_sg_ne s7 u1 (by decide)) (k_sg_ne s7 u2 (by decide)) (k_sg_ne s7 u3 (by decide)) (k_sg_ne s7 u4 (by decide)) (k_sg_ne s7 u5 (by decide)) (k_sg_ne s7 u6 (by decide)) n7 (k_sg_ne s7 u8 (by decide))
  · exact sgP_lt (k_sg_ne s8 st (by decide)) (k_sg_ne s8 sb (by decide)) (k_sg_ne s8 sP (by decide)) (k_sg_ne s8 u1 (by decide)) (k_sg_ne s8 u2 (by decide)) (k_sg_ne s8 u3 (by decide)) (k_sg_ne s8 u4 (by decide)) (k_sg_ne s8 u5 (by decide)) (k_sg_ne s8 u6 (by decide)) (k_sg_ne s8 u7 (by decide)) n8
end
/-! the rows of the class's table are apart -/
def dC (cA : Nat → ClassId) (h : ch_H) (x : Nat) : Prop := ∃ (xs fs : List Value) (ft tb : Nat) (F : Nat → Option Nat), h x = some (.inr (9, xs)) ∧ xs[17]? = some (.ref ft) ∧ h ft = some (.inr (0, fs)) ∧ fs[0]? = some (.ref tb) ∧ h tb = some (.inl (cA 5, 6, .inr (.inr (.inr (.inr F))))) ∧ ∀ i j, i < 6 → j < 6 → i ≠ j → F i ≠ F j
def okCd (W : List (Nat × Nat)) : Bool := W.all (fun q => decide (q ≠ (0, 17) ∧ q ≠ (8, 0) ∧ q.1 ≠ 42))
theorem okCd.no {W : List (Nat × Nat)} (h : okCd W = true) : ∀ q ∈ W, q ≠ (0, 17) ∧ q ≠ (8, 0) ∧ q.1 ≠ 42 := fun q hq => of_decide_eq_true (List.all_eq_true.mp h q hq)
section
variable {Sg : Nat → Option Nat} {cA : Nat → ClassId} {h h1 g g2 : ch_H} {W : List (Nat × Nat)} {x : Nat}
theorem lab17 {xs fs : List Value} {ft tb : Nat} (hH : k_H Sg cA Lb h) (sx : Sg x = some 0) (c_x : h x = some (.inr (9, xs))) (f17 : xs[17]? = some (.ref ft)) : Sg ft = some 8 ∧ (h ft = some (.inr (0, fs)) → fs[0]? = some (.ref tb) → fs.length = 3 ∧ Sg tb = some 42) := by
  obtain ⟨fs0, c, -, ty⟩ := hH.obj sx (L := 0) rfl
  rw [c_x] at c
  cases c
  obtain ⟨v, e, tv⟩ := ty 17 _ rfl
  rw [f17] at e
  cases e
  obtain ⟨t2, e2, s1⟩ := k_v.ref tv
  cases e2
  refine ⟨s1, fun c_f f0 => ?_⟩
  obtain ⟨fs2, c, l, ty⟩ := hH.obj s1 (L := 8) rfl
  rw [c_f] at c
  cases c
  obtain ⟨v, e, tv⟩ := ty 0 _ rfl
  rw [f0] at e
  cases e
  obtain ⟨t2, e2, s2⟩ := k_v.ref tv
  cases e2
  exact ⟨l, s2⟩
theorem dC.gen (hH : k_H Sg cA Lb h) (sx : Sg x = some 0) (hx : ∀ xs : List Value, h x = some (.inr (9, xs)) → ∃ xs1, h1 x = some (.inr (9, xs1)) ∧ xs1[17]? = xs[17]?) (h8 : ∀ (a : Nat) (fs : List Value), Sg a = some 8 → h a = some (.inr (0, fs)) → ∃ fs1, h1 a = some (.inr (0, fs1)) ∧ fs1[0]? = fs[0]?) (o : ∀ a, Sg a = some 42 → h1 a = h a) (H : dC cA h x) : dC cA h1 x := by
  obtain ⟨xs, fs, ft, tb, F, c_x, f17, c_f, f0, c_t, e⟩ := H
  obtain ⟨s8, s9⟩ := lab17 (tb := tb) (fs := fs) hH sx c_x f17
  obtain ⟨xs1, d0, d1⟩ := hx xs c_x
  obtain ⟨fs1, d2, d3⟩ := h8 ft fs s8 c_f
  exact ⟨xs1, fs1, ft, tb, F, d0, d1.trans f17, d2, d3.trans f0, (o tb (s9 c_f f0).2).trans c_t, e⟩
theorem dC.U (hH : k_H Sg cA Lb h) (u : k_U Sg W h h1) (hw : okCd W = true) (sx : Sg x = some 0) (H : dC cA h x) : dC cA h1 x := by
  have no := okCd.no hw
  refine H.gen hH sx (fun xs c_x => ?_) (fun a fs ha c => ?_) (fun a ha => k_U.same hH u ha (fun q hq => (no q hq).2.2))
  · obtain ⟨xs1, c1, k1⟩ := (u x 0 sx).1 _ _ c_x
    exact ⟨xs1, c1, k1 17 (fun z => (no _ z).1 rfl)⟩
  · obtain ⟨xs1, c1, k1⟩ := (u a 8 ha).1 _ _ c
    exact ⟨xs1, c1, k1 0 (fun z => (no _ z).2.1 rfl)⟩
theorem dC.same (hH : k_H Sg cA Lb h) (sx : Sg x = some 0) (o : ∀ a L, Sg a = some L → L = 0 ∨ L = 8 ∨ L = 42 → h1 a = h a) (H : dC cA h x) : dC cA h1 x :=
  H.gen hH sx (fun xs c_x => ⟨xs, (o x 0 sx (Or.inl rfl)).trans c_x, rfl⟩) (fun a fs ha c => ⟨fs, (o a 8 ha (Or.inr (Or.inl rfl))).trans c, rfl⟩) (fun a ha => o a 42 ha (Or.inr (Or.inr rfl)))
theorem dC.eq (hH : k_H Sg cA Lb h) (sx : Sg x = some 0) (o : ∀ a L, Sg a = some L → L < 50 → h1 a = h a) (H : dC cA h x) : dC cA h1 x :=
  H.same hH sx (fun a L ha hl => o a L ha (by omega))
theorem dC.ag (hH : k_H Sg cA Lb g) (sx : Sg x = some 0) (a : ag g g2) (ar : agR g g2) (H : dC cA g2 x) : dC cA g x := by
  obtain ⟨xs, fs, ft, tb, F, c_x, f17, c_f, f0, c_t, e⟩ := H
  obtain ⟨xs1, c1, l1, -⟩ := hH.obj sx (L := 0) rfl
  have q1 := a.get c1 c_x (by decide) (by rw [l1]; decide) f17
  obtain ⟨s8, -⟩ := lab17 (tb := tb) (fs := fs) hH sx c1 q1
  obtain ⟨fs1, c2, l2, -⟩ := hH.obj s8 (L := 8) rfl
  have q2 := a.get c2 c_f (by decide) (by rw [l2]; decide) f0
  have s42 := ((lab17 (tb := tb) (fs := fs1) hH sx c1 q1).2 c2 q2).2
  obtain ⟨e9, z1, z2⟩ := hH tb 42 s42
  obtain ⟨F1, rfl, -⟩ := k_cell2 (I := Lb 42) rfl z2
  have z1 : g tb = some (.inl (cA 5, 6, .inr (.inr (.inr (.inr F1))))) := z1
  have w := (ar tb _ _ _ _ _ _ z1 c_t).2
  exact ⟨xs1, fs1, ft, tb, F1, c1, q1, c2, q2, z1, fun i j hi hj hn => by rw [w i hi, w j hj]; exact e i j hi hj hn⟩
end
