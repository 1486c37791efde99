/-! two walks of one frame come to one end: what both say holds there -/
theorem en_not {t : State} {below : List Frame} {r : Option Value} (E : Ended t below (.returned r)) : ¬ Within t below := by
  rintro ⟨above, e, n, -⟩
  have hl : t.frames.length = below.length := by
    cases below with
    | nil => rw [E.2]
    | cons f r =>
      cases f with
      | java g =>
        obtain ⟨c, i, len, -, -, e2⟩ := E
        rw [e2]
        rfl
      | native g =>
        simp only [Ended] at E
        rw [E]
        rfl
      | proc g =>
        simp only [Ended] at E
        rw [E]
        rfl
      | _ => rw [E.2]
  rw [e, List.length_append] at hl
  exact n (List.length_eq_zero_iff.mp (by omega))
theorem en_val {t : State} {below : List Frame} {r1 r2 : Option Value} (E1 : Ended t below (.returned r1)) (E2 : Ended t below (.returned r2)) : r1 = r2 := by
  have tl : ∀ {s : List Value}, r1.toList ++ s = r2.toList ++ s → r1 = r2 := fun {s} e => by
    have e := List.append_cancel_right e
    cases r1 <;> cases r2 <;> simp_all
  cases below with
  | nil => exact E1.1.trans E2.1.symm
  | cons f r =>
    cases f with
    | java g =>
      obtain ⟨c, i, len, -, -, e1⟩ := E1
      obtain ⟨c', i', len', -, -, e2⟩ := E2
      have e3 := (List.cons.inj (e1.symm.trans e2)).1
      exact tl (congrArg JFrame.stack (Frame.java.inj e3))
    | native g =>
      have e3 := (List.cons.inj (Eq.trans (Eq.symm E1) E2)).1
      have e5 := Option.some.inj (congrArg NFrame.answer (Frame.native.inj e3))
      exact Outcome.returned.inj e5
    | proc g =>
      have e3 := (List.cons.inj (Eq.trans (Eq.symm E1) E2)).1
      have e5 := Option.some.inj (congrArg PFrame.answer (Frame.proc.inj e3))
      exact Outcome.returned.inj e5
    | _ => exact E1.1.trans E2.1.symm
theorem st_one {tb : Tables} {e : Env} {below : List Frame} {s t1 t2 : State} {r1 r2 : Option Value} (S1 : Steps tb e below s t1) (S2 : Steps tb e below s t2) (E1 : Ended t1 below (.returned r1)) (E2 : Ended t2 below (.returned r2)) : t1 = t2 := by
  obtain ⟨n1, h1, w1⟩ := S1
  obtain ⟨n2, h2, w2⟩ := S2
  rcases Nat.lt_trichotomy n1 n2 with c | c | c
  · exact absurd (w2 n1 c) (by rw [h1]; exact en_not E1)
  · rw [← h1, ← h2, c]
  · exact absurd (w1 n2 c) (by rw [h2]; exact en_not E2)
/-- objects alike: two clean heaps of one heap -/
def ag (g g2 : ch_H) : Prop := ∀ (a ci : Nat) (f1 f2 : List Value), g a = some (.inr (ci, f1)) → g2 a = some (.inr (ci, f2)) → ∀ r : vw_C, vwCl[ci]? = some r → ∀ k, k < r.2.2 → vp_V f1 k = vp_V f2 k
theorem ag_of {D : va_G} {A : Nat → Prop} {g g2 : ch_H} {H : Heap} (h1 : ch_r D A g H) (h2 : ch_r D A g2 H) : ag g g2 := by
  intro a ci f1 f2 e1 e2 r hr k hk
  obtain ⟨ws, q1, p1, -⟩ := h1
  obtain ⟨ws2, q2, p2, -⟩ := h2
  obtain ⟨k1, w1⟩ := q1 a _ e1
  obtain ⟨k2, w2⟩ := q2 a _ e2
  obtain ⟨r1, z1, c1, d1, -, -, s1⟩ := p1 k1 _ w1
  obtain ⟨r2, z2, c2, d2, -, -, s2⟩ := p2 k2 _ w2
  have z1 : vwCl[ci]? = some r1 := z1
  have z2 : vwCl[ci]? = some r2 := z2
  rw [hr] at z1 z2
  cases z1
  cases z2
  have d1 : H[a]? = some c1 := d1
  have d2 : H[a]? = some c2 := d2
  rw [d1] at d2
  cases d2
  have u1 := s1 k hk
  have u2 := s2 k hk
  rw [u1] at u2
  exact Option.some.inj u2
section
variable {l : Launch} {D : va_G} {tys : List (ClassId × FieldType)} {A : Nat → Prop} {X : State → Prop} {fr lo mc ms : Nat} {M : ch_M} {Q1 Q2 : Option Value → ch_H → Prop} {pc : Nat} {lv : List (Nat × Value)} {st : List Value} {h : ch_H} {c z : Nat}
theorem tt_and (k1 : tt l D tys A X fr lo mc ms M Q1 pc lv st h c z) (k2 : tt l D tys A X fr lo mc ms M Q2 pc lv st h c z) : tt l D tys A X fr lo mc ms M (fun v g => Q1 v g ∧ ∃ g2, ag g g2 ∧ Q2 v g2) pc lv st h c z := by
  intro p e s m args below meth cd H locs ls C hl hr hS T hT Y
  obtain ⟨t1, s1, o1, a1, b1, ⟨⟨r1, g1, u1, x1, y1⟩, v1⟩, w1⟩ := k1 p e s m args below meth cd H locs ls C hl hr hS T hT Y
  obtain ⟨t2, s2, o2, a2, b2, ⟨⟨r2, g2, u2, x2, y2⟩, v2⟩, w2⟩ := k2 p e s m args below meth cd H locs ls C hl hr hS T hT Y
  subst u1
  subst u2
  have et := st_one s1 s2 b1 b2
  subst et
  have er := en_val b1 b2
  subst er
  exact ⟨t1, s1, _, a1, b1, ⟨⟨r1, g1, rfl, x1, y1, g2, ag_of x1 x2, y2⟩, v1⟩, w1⟩
end
/-- a field, by the other clean heap -/
theorem ag.get {g g2 : ch_H} {q ci k : Nat} {f1 f2 : List Value} {v : Value} (a : ag g g2) (c1 : g q = some (.inr (ci, f1))) (c2 : g2 q = some (.inr (ci, f2))) (hc : ci < 11 ∧ k < ch_N ci) (hl : k < f1.length) (e : f2[k]? = some v) : f1[k]? = some v := by
  have w := a q ci f1 f2 c1 c2 _ (pg_k ci hc.1).1 k hc.2
  unfold vp_V at w
  rw [List.getD_eq_getElem?_getD, List.getD_eq_getElem?_getD, e, List.getElem?_eq_getElem hl] at w
  rw [List.getElem?_eq_getElem hl]
  exact congrArg some w
section
variable {Sg : Nat → Option Nat} {cA : Nat → ClassId} {g g2 : ch_H} {x m : Nat} {τ : aN}
theorem bC.ag (hH : k_H Sg cA Lb g) (sx : Sg x = some 0) (a : ag g g2) (H : bC g2 x τ) : bC g x τ := by
  obtain ⟨xs, ps, gs, Pa, P, fo, n, ga, pe, ta, c_x, f1, f2, f8, ne, c_P, p0, c_f, g0, g3, g5, e⟩ := H
  obtain ⟨xs1, c1, l1, -⟩ := hH.obj sx (L := 0) rfl
  have q1 := a.get c1 c_x (by decide) (by rw [l1]; decide) f1
  have q2 := a.get c1 c_x (by decide) (by rw [l1]; decide) f2
  have q8 := a.get c1 c_x (by decide) (by rw [l1]; decide) f8
  obtain ⟨sP, sf⟩ := bC.sg hH sx c1 q1 q8
  obtain ⟨ps1, c2, l2, -⟩ := hH.obj sP (L := 2) rfl
  obtain ⟨gs1, c3, l3, -⟩ := hH.obj sf (L := 4) rfl
  exact ⟨xs1, ps1, gs1, Pa, P, fo, n, ga, pe, ta, c1, q1, q2, q8, ne, c2, a.get c2 c_P (by decide) (by rw [l2]; decide) p0, c3, a.get c3 c_f (by decide) (by rw [l3]; decide) g0, a.get c3 c_f (by decide) (by rw [l3]; decide) g3, a.get c3 c_f (by decide) (by rw [l3]; decide) g5, e⟩
theorem bR.ag (hH : k_H Sg cA Lb g) (sm : sgM0 Sg m) (a : ag g g2) (H : bR g2 m τ) : bR g m τ := by
  obtain ⟨fs, n, ga, pe, ta, c_m, f1, f2, f3, f4, e⟩ := H
  obtain ⟨fs1, c1, l1⟩ : ∃ fs1, g m = some (.inr (10, fs1)) ∧ fs1.length = 47 := by
    rcases sm with sm | sm
    · obtain ⟨fs1, c1, l1, -⟩ := hH.obj sm (L := 50) rfl
      exact ⟨fs1, c1, l1⟩
    · obtain ⟨fs1, c1, l1, -⟩ := hH.obj sm (L := 70) rfl
      exact ⟨fs1, c1, l1⟩
  exact ⟨fs1, n, ga, pe, ta, c1, a.get c1 c_m (by decide) (by rw [l1]; decide) f1, a.get c1 c_m (by decide) (by rw [l1]; decide) f2, a.get c1 c_m (by decide) (by rw [l1]; decide) f3, a.get c1 c_m (by decide) (by rw [l1]; decide) f4, e⟩
end
/-- what a call of the class does, as far as it is compared, numbers aside: the rest stays typed, the reference's cells as they were -/
def sC0 (l : Launch) (D : va_G) (tys : List (ClassId × FieldType)) (A : Nat → Prop) (X : State → Prop) (cA : Nat → ClassId) (fr lo mc ms : Nat) (M : ch_M) (x : Nat) (As : List Value) (op : aS → aS) (an : aS → Option Value → Prop) : Prop :=
  ∀ (Sg : Nat → Option Nat) (h : ch_H) (σ : aS), k_H Sg cA Lb h → Sg x = some 0 → aC cA h x σ →
    tt l D tys A X fr lo mc ms M (fun v g => ∃ Sg1, k_H Sg1 cA Lb g ∧ sg_le Sg Sg1 ∧ (∀ a L, Sg1 a = some L → 50 ≤ L → Sg a = some L ∧ g a = h a) ∧ aC cA g x (op σ) ∧ an σ v) 0 (lv_args 0 (.ref x :: As)) [] h 0 0
/-- the same of the reference: the class's cells as they were -/
def sR0 (l : Launch) (D : va_G) (tys : List (ClassId × FieldType)) (A : Nat → Prop) (X : State → Prop) (cA : Nat → ClassId) (fr lo mc ms : Nat) (M : ch_M) (m : Nat) (As : List Value) (op : aS → aS) (an : aS → Option Value → Prop) : Prop :=
  ∀ (Sg : Nat → Option Nat) (h : ch_H) (σ : aS), k_H Sg cA Lb h → sgM Sg m → aR cA h m σ →
    tt l D tys A X fr lo mc ms M (fun v g => ∃ Sg1, k_H Sg1 cA Lb g ∧ sgM Sg1 m ∧ (∀ a L, Sg a = some L → L < 50 → Sg1 a = some L ∧ g a = h a) ∧ aR cA g m (op σ) ∧ an σ v) 0 (lv_args 0 (.ref m :: As)) [] h 0 0
section
variable {l : Launch} {D : va_G} {tys : List (ClassId × FieldType)} {A : Nat → Prop} {X : State → Prop} {cA : Nat → ClassId} {x m : Nat} {As : List Value}
/-- a call by its contract, numbers aside -/
theorem sC_id0 {mi fr lo : Nat} {M : ch_M} {ts : List k_T} {ra rb : Int} {W : List (Nat × Nat)} (hc : ∀ Sg, k_sat l D tys A X Sg cA Lb (mi, (2, 0, 0) :: ts, [], some (0, ra, rb), W, fr, lo)) (hm : k_pM mi = M) (hw : okC W = true) (ha : okA ts As) : sC0 l D tys A X cA fr lo 0 0 M x As (fun σ => σ) (fun _ v => isI v) := by
  intro Sg h σ hH sx hC
  obtain ⟨q1, q2⟩ := ha.at_ (Sg := Sg)
  have k := hc Sg h (.ref x :: As) hH (by simp [q1]) (fun i t hi => by
    match i, hi with
    | 0, hi => cases hi; exact ⟨_, rfl, x, rfl, sx⟩
    | i + 1, hi => exact q2 i t hi) (fun q hq => absurd hq List.not_mem_nil)
  rw [hm] at k
  refine tt_mono (fun v g H => ?_) k
  obtain ⟨h1, u, v9, rfl, t9⟩ := H
  obtain ⟨y9, rfl, -, -⟩ := k_v.int t9
  refine ⟨Sg, h1, sg_le.rf, fun a L ha hl => ⟨ha, k_U.same hH u ha (fun q hq e => ?_)⟩, aC.U hH h1 u hw sx hC, y9, rfl⟩
  have := (okC.lt hw q hq).1
  omega
theorem sR_id0 {mi fr lo mi2 fr2 lo2 : Nat} {M : ch_M} {ts ts2 : List k_T} {ra rb ra2 rb2 : Int} {W W2 : List (Nat × Nat)} (hc : ∀ Sg, k_sat l D tys A X Sg cA Lb (mi, (2, 50, 0) :: ts, [], some (0, ra, rb), W, fr, lo)) (hc2 : ∀ Sg, k_sat l D tys A X Sg cA Lb (mi2, (2, 70, 0) :: ts2, [], some (0, ra2, rb2), W2, fr2, lo2)) (hm : k_pM mi = M) (hm2 : k_pM mi2 = M) (hw : okR W = true) (hw2 : okR W2 = true) (ha : okA ts As) (ha2 : okA ts2 As) {frr loo : Nat} (hf : fr ≤ frr ∧ fr2 ≤ frr) (hl : lo ≤ loo ∧ lo2 ≤ loo) : sR0 l D tys A X cA frr loo 0 0 M m As (fun σ => σ) (fun _ v => isI v) := by
  intro Sg h σ hH sm9 hR
  have sm8 := sm9
  obtain ⟨sm, su⟩ := sm9
  rcases sm with sm | sm
  · obtain ⟨q1, q2⟩ := ha.at_ (Sg := Sg)
    have k := hc Sg h (.ref m :: As) hH (by simp [q1]) (fun i t hi => by
      match i, hi with
      | 0, hi => cases hi; exact ⟨_, rfl, m, rfl, sm⟩
      | i + 1, hi => exact q2 i t hi) (fun q hq => absurd hq List.not_mem_nil)
    rw [hm] at k
    refine tt_room hf.1 hl.1 (tt_mono (fun v g H => ?_) k)
    obtain ⟨h1, u, v9, rfl, t9⟩ := H
    obtain ⟨y9, rfl, -, -⟩ := k_v.int t9
    refine ⟨Sg, h1, sm8, fun a L ha hl => ⟨ha, k_U.same hH u ha (fun q hq e => ?_)⟩, aR.U hH u hw (Or.inl sm) hR, y9, rfl⟩
    have := (okR.ge hw q hq).1
    omega
  · obtain ⟨q1, q2⟩ := ha2.at_ (Sg := Sg)
    have k := hc2 Sg h (.ref m :: As) hH (by simp [q1]) (fun i t hi => by
      match i, hi with
      | 0, hi => cases hi; exact ⟨_, rfl, m, rfl, sm⟩
      | i + 1, hi => exact q2 i t hi) (fun q hq => absurd hq List.not_mem_nil)
    rw [hm2] at k
    refine tt_room hf.2 hl.2 (tt_mono (fun v g H => ?_) k)
    obtain ⟨h1, u, v9, rfl, t9⟩ := H
    obtain ⟨y9, rfl, -, -⟩ := k_v.int t9
    refine ⟨Sg, h1, sm8, fun a L ha hl => ⟨ha, k_U.same hH u ha (fun q hq e => ?_)⟩, aR.U hH u hw2 (Or.inr sm) hR, y9, rfl⟩
    have := (okR.ge hw2 q hq).1
    omega
variable {fr lo mc ms : Nat} {M : ch_M} {op : aS → aS} {an : aS → Option Value → Prop} {on9 : aN → aN} {on : oN} {bn bn' : bN}
/-- the numbers and the answer by a walk -/
theorem sC_wr (hs : sC0 l D tys A X cA fr lo mc ms M x As op an) (wk : ∀ (Sg : Nat → Option Nat) (h : ch_H) (τ : aN), k_H Sg cA Lb h → Sg x = some 0 → bC h x τ → tt l D tys A X fr lo mc ms M (fun v g => bC g x (on9 τ) ∧ bn τ v) 0 (lv_args 0 (.ref x :: As)) [] h 0 0) : sC l D tys A X cA fr lo mc ms M x As op an (fun _ τ => on9 τ) bn := by
  intro Sg h σ hH sx hC
  by_cases hb : ∃ τ, bC h x τ
  · obtain ⟨τ0, h0⟩ := hb
    refine tt_mono (fun v g H => ?_) (tt_and (hs Sg h σ hH sx hC) (wk Sg h τ0 hH sx h0))
    obtain ⟨⟨Sg1, q1, q2, q3, q4, q5⟩, g2, a9, q7, q8⟩ := H
    refine ⟨Sg1, q1, q2, q3, q4, fun τ ht => ?_, q5⟩
    rw [bC.uniq ht h0]
    exact ⟨q7.ag q1 (q2 x 0 sx) a9, q8⟩
  · refine tt_mono (fun v g H => ?_) (hs Sg h σ hH sx hC)
    obtain ⟨Sg1, q1, q2, q3, q4, q5⟩ := H
    exact ⟨Sg1, q1, q2, q3, q4, fun τ ht => absurd ⟨τ, ht⟩ hb, q5⟩
theorem sC_ans (hs : sC l D tys A X cA fr lo mc ms M x As op an on bn) (wk : ∀ (Sg : Nat → Option Nat) (h : ch_H) (τ : aN), k_H Sg cA Lb h → Sg x = some 0 → bC h x τ → tt l D tys A X fr lo mc ms M (fun v _ => bn' τ v) 0 (lv_args 0 (.ref x :: As)) [] h 0 0) : sC l D tys A X cA fr lo mc ms M x As op an on bn' := by
  intro Sg h σ hH sx hC
  by_cases hb : ∃ τ, bC h x τ
  · obtain ⟨τ0, h0⟩ := hb
    refine tt_mono (fun v g H => ?_) (tt_and (hs Sg h σ hH sx hC) (wk Sg h τ0 hH sx h0))
    obtain ⟨⟨Sg1, q1, q2, q3, q4, q5, q6⟩, g2, -, q8⟩ := H
    refine ⟨Sg1, q1, q2, q3, q4, fun τ ht => ⟨(q5 τ ht).1, ?_⟩, q6⟩
    rw [bC.uniq ht h0]
    exact q8
  · refine tt_mono (fun v g H => ?_) (hs Sg h σ hH sx hC)
    obtain ⟨Sg1, q1, q2, q3, q4, q5, q6⟩ := H
    exact ⟨Sg1, q1, q2, q3, q4, fun τ ht => absurd ⟨τ, ht⟩ hb, q6⟩
theorem sR_wr (hs : sR0 l D tys A X cA fr lo mc ms M m As op an) (wk : ∀ (Sg : Nat → Option Nat) (h : ch_H) (τ : aN), k_H Sg cA Lb h → sgM Sg m → bR h m τ → tt l D tys A X fr lo mc ms M (fun v g => bR g m (on9 τ) ∧ bn τ v) 0 (lv_args 0 (.ref m :: As)) [] h 0 0) : sR l D tys A X cA fr lo mc ms M m As op an (fun _ τ => on9 τ) bn := by
  intro Sg h σ hH sm hR
  by_cases hb : ∃ τ, bR h m τ
  · obtain ⟨τ0, h0⟩ := hb
    refine tt_mono (fun v g H => ?_) (tt_and (hs Sg h σ hH sm hR) (wk Sg h τ0 hH sm h0))
    obtain ⟨⟨Sg1, q1, q2, q3, q4, q5⟩, g2, a9, q7, q8⟩ := H
    refine ⟨Sg1, q1, q2, q3, q4, fun τ ht => ?_, q5⟩
    rw [bR.uniq ht h0]
    exact ⟨q7.ag q1 q2.1 a9, q8⟩
  · refine tt_mono (fun v g H => ?_) (hs Sg h σ hH sm hR)
    obtain ⟨Sg1, q1, q2, q3, q4, q5⟩ := H
    exact ⟨Sg1, q1, q2, q3, q4, fun τ ht => absurd ⟨τ, ht⟩ hb, q5⟩
theorem sR_ans (hs : sR l D tys A X cA fr lo mc ms M m As op an on bn) (wk : ∀ (Sg : Nat → Option Nat) (h : ch_H) (τ : aN), k_H Sg cA Lb h → sgM Sg m → bR h m τ → tt l D tys A X fr lo mc ms M (fun v _ => bn' τ v) 0 (lv_args 0 (.ref m :: As)) [] h 0 0) : sR l D tys A X cA fr lo mc ms M m As op an on bn' := by
  intro Sg h σ hH sm hR
  by_cases hb : ∃ τ, bR h m τ
  · obtain ⟨τ0, h0⟩ := hb
    refine tt_mono (fun v g H => ?_) (tt_and (hs Sg h σ hH sm hR) (wk Sg h τ0 hH sm h0))
    obtain ⟨⟨Sg1, q1, q2, q3, q4, q5, q6⟩, g2, -, q8⟩ := H
    refine ⟨Sg1, q1, q2, q3, q4, fun τ ht => ⟨(q5 τ ht).1, ?_⟩, q6⟩
    rw [bR.uniq ht h0]
    exact q8
  · refine tt_mono (fun v g H => ?_) (hs Sg h σ hH sm hR)
    obtain ⟨Sg1, q1, q2, q3, q4, q5, q6⟩ := H
    exact ⟨Sg1, q1, q2, q3, q4, fun τ ht => absurd ⟨τ, ht⟩ hb, q6⟩
end
