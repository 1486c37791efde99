/-! layers: what a further walk says of the same call -/
def agI (g g2 : ch_H) : Prop := ∀ (a n1 n2 : Nat) (c1 c2 : ClassId) (f1 f2 : Nat → Int32), g a = some (.inl (c1, n1, .inl f1)) → g2 a = some (.inl (c2, n2, .inl f2)) → n1 = n2 ∧ ∀ i, i < n1 → f1 i = f2 i
theorem agI_of {D : va_G} {A : Nat → Prop} {g g2 : ch_H} {H : Heap} (h1 : ch_r D A g H) (h2 : ch_r D A g2 H) : agI g g2 := by
  intro a n1 n2 c1 c2 f1 f2 e1 e2
  obtain ⟨ws, q1, p1, -⟩ := h1
  obtain ⟨ws2, q2, p2, -⟩ := h2
  obtain ⟨k1, w1⟩ := q1 a _ e1
  obtain ⟨k2, w2⟩ := q2 a _ e2
  have z1 : H[a]? = some (arrV c1 n1 (fun j => .int (f1 j))) := p1 k1 _ w1
  have z2 : H[a]? = some (arrV c2 n2 (fun j => .int (f2 j))) := p2 k2 _ w2
  rw [z1] at z2
  have e := Option.some.inj z2
  have en : n1 = n2 := by
    have w := congrArg (fun c : Cell => c.slots.size) e
    simp only [arrV_size] at w
    exact w
  subst en
  refine ⟨rfl, fun i hi => ?_⟩
  have r1 := arrV_read c1 (fun j => Value.int (f1 j)) hi
  have r2 := arrV_read c2 (fun j => Value.int (f2 j)) hi
  rw [e, r2] at r1
  exact (Value.int.inj (Option.some.inj r1)).symm
/-- an array of references -/
def agR (g g2 : ch_H) : Prop := ∀ (a n1 n2 : Nat) (c1 c2 : ClassId) (f1 f2 : Nat → Option Nat), g a = some (.inl (c1, n1, .inr (.inr (.inr (.inr f1))))) → g2 a = some (.inl (c2, n2, .inr (.inr (.inr (.inr f2))))) → n1 = n2 ∧ ∀ i, i < n1 → f1 i = f2 i
theorem va_rf_inj {r s : Option Nat} (h : va_rf r = va_rf s) : r = s := by
  cases r <;> cases s
  · rfl
  · cases h
  · cases h
  · cases h
    rfl
theorem agR_of {D : va_G} {A : Nat → Prop} {g g2 : ch_H} {H : Heap} (h1 : ch_r D A g H) (h2 : ch_r D A g2 H) : agR g g2 := by
  intro a n1 n2 c1 c2 f1 f2 e1 e2
  obtain ⟨ws, q1, p1, -⟩ := h1
  obtain ⟨ws2, q2, p2, -⟩ := h2
  obtain ⟨k1, w1⟩ := q1 a _ e1
  obtain ⟨k2, w2⟩ := q2 a _ e2
  have z1 : H[a]? = some (arrV c1 n1 (fun j => va_rf (f1 j))) := p1 k1 _ w1
  have z2 : H[a]? = some (arrV c2 n2 (fun j => va_rf (f2 j))) := p2 k2 _ w2
  rw [z1] at z2
  have e := Option.some.inj z2
  have en : n1 = n2 := by
    have w := congrArg (fun c : Cell => c.slots.size) e
    simp only [arrV_size] at w
    exact w
  subst en
  refine ⟨rfl, fun i hi => ?_⟩
  have r1 := arrV_read c1 (fun j => va_rf (f1 j)) hi
  have r2 := arrV_read c2 (fun j => va_rf (f2 j)) hi
  rw [e, r2] at r1
  exact (va_rf_inj (Option.some.inj r1)).symm
section
variable {l : Launch} {D : va_G} {tys : List (ClassId × FieldType)} {A : Nat → Prop} {X : State → Prop} {fr lo mc ms : Nat} {M : ch_M} {Q1 : Option Value → ch_H → Prop} {I : Type} {P : I → Prop} {Q2 : I → Option Value → ch_H → Prop} {pc : Nat} {lv : List (Nat × Value)} {st : List Value} {h : ch_H} {c z : Nat}
theorem tt_alls (k1 : tt l D tys A X fr lo mc ms M Q1 pc lv st h c z) (k2 : ∀ i, P i → tt l D tys A X fr lo mc ms M (Q2 i) pc lv st h c z) : tt l D tys A X fr lo mc ms M (fun v g => Q1 v g ∧ ∀ i, P i → ∃ g2, ag g g2 ∧ agI g g2 ∧ agR g g2 ∧ Q2 i v g2) pc lv st h c z := by
  intro p e s m args below meth cd H locs ls C hl hr hS T hT Y
  obtain ⟨t1, s1, o1, a1, b1, ⟨⟨r1, g1, u1, x1, y1⟩, v1⟩, w1⟩ := k1 p e s m args below meth cd H locs ls C hl hr hS T hT Y
  subst u1
  refine ⟨t1, s1, _, a1, b1, ⟨⟨r1, g1, rfl, x1, y1, fun i hi => ?_⟩, v1⟩, w1⟩
  obtain ⟨t2, s2, o2, a2, b2, ⟨⟨r2, g2, u2, x2, y2⟩, v2⟩, w2⟩ := k2 i hi p e s m args below meth cd H locs ls C hl hr hS T hT Y
  subst u2
  have et := st_one s1 s2 b1 b2
  subst et
  have er := en_val b1 b2
  subst er
  exact ⟨g2, ag_of x1 x2, agI_of x1 x2, agR_of x1 x2, y2⟩
end
section
variable {Θ Φ : Type}
/-- a call of the class, with any picture E of it -/
def sG (E : ch_H → Nat → Θ → Prop) (l : Launch) (D : va_G) (tys : List (ClassId × FieldType)) (A : Nat → Prop) (X : State → Prop) (cA : Nat → ClassId) (fr lo mc ms : Nat) (M : ch_M) (x : Nat) (As : List Value) (op : aS → aS) (an : aS → Option Value → Prop) (on : aS → Θ → Θ) (bn : Θ → Option Value → Prop) : Prop :=
  ∀ (Sg : Nat → Option Nat) (h : ch_H) (σ : aS), k_H Sg cA Lb h → Sg x = some 0 → aC cA h x σ →
    tt l D tys A X fr lo mc ms M (fun v g => ∃ Sg1, k_H Sg1 cA Lb g ∧ sg_le Sg Sg1 ∧ (∀ a L, Sg1 a = some L → 50 ≤ L → Sg a = some L ∧ g a = h a) ∧ aC cA g x (op σ) ∧ (∀ θ, E h x θ → E g x (on σ θ) ∧ bn θ v) ∧ an σ v) 0 (lv_args 0 (.ref x :: As)) [] h 0 0
/-- a call of the reference -/
def tG (E : ch_H → Nat → Θ → Prop) (l : Launch) (D : va_G) (tys : List (ClassId × FieldType)) (A : Nat → Prop) (X : State → Prop) (cA : Nat → ClassId) (fr lo mc ms : Nat) (M : ch_M) (m : Nat) (As : List Value) (op : aS → aS) (an : aS → Option Value → Prop) (on : aS → Θ → Θ) (bn : Θ → Option Value → Prop) : Prop :=
  ∀ (Sg : Nat → Option Nat) (h : ch_H) (σ : aS), k_H Sg cA Lb h → sgM Sg m → aR cA h m σ →
    tt l D tys A X fr lo mc ms M (fun v g => ∃ Sg1, k_H Sg1 cA Lb g ∧ sgM Sg1 m ∧ (∀ a L, Sg a = some L → L < 50 → Sg1 a = some L ∧ g a = h a) ∧ aR cA g m (op σ) ∧ (∀ θ, E h m θ → E g m (on σ θ) ∧ bn θ v) ∧ an σ v) 0 (lv_args 0 (.ref m :: As)) [] h 0 0
variable {l : Launch} {D : va_G} {tys : List (ClassId × FieldType)} {A : Nat → Prop} {X : State → Prop} {cA : Nat → ClassId} {fr lo mc ms : Nat} {M : ch_M} {x m : Nat} {As : List Value} {op : aS → aS} {an : aS → Option Value → Prop}
theorem sG_of {on : oN} {bn : bN} (hs : sC l D tys A X cA fr lo mc ms M x As op an on bn) : sG bC l D tys A X cA fr lo mc ms M x As op an on bn := hs
theorem tG_of {on : oN} {bn : bN} (hs : sR l D tys A X cA fr lo mc ms M m As op an on bn) : tG bR l D tys A X cA fr lo mc ms M m As op an on bn := hs
/-- two clean heaps of one heap say the same -/
def agF (cA : Nat → ClassId) (F : ch_H → Nat → Θ → Φ → Prop) (x : Nat) : Prop := ∀ (Sg : Nat → Option Nat) (g g2 : ch_H) (θ : Θ) (φ : Φ), k_H Sg cA Lb g → Sg x = some 0 → ag g g2 → agI g g2 → agR g g2 → F g2 x θ φ → F g x θ φ
def agT (cA : Nat → ClassId) (F : ch_H → Nat → Θ → Φ → Prop) (m : Nat) : Prop := ∀ (Sg : Nat → Option Nat) (g g2 : ch_H) (θ : Θ) (φ : Φ), k_H Sg cA Lb g → sgM0 Sg m → ag g g2 → agI g g2 → agR g g2 → F g2 m θ φ → F g m θ φ
variable {E : ch_H → Nat → Θ → Prop} {F : ch_H → Nat → Θ → Φ → Prop} {on : aS → Θ → Θ} {bn : Θ → Option Value → Prop} {on2 : aS → Θ → Φ → Φ} {bn2 : Θ → Φ → Option Value → Prop}
theorem sG_add (hF : agF cA F x) (hs : sG E l D tys A X cA fr lo mc ms M x As op an on bn)
    (wk : ∀ (Sg : Nat → Option Nat) (h : ch_H) (σ : aS) (θ : Θ) (φ : Φ), k_H Sg cA Lb h → Sg x = some 0 → aC cA h x σ → E h x θ → F h x θ φ → tt l D tys A X fr lo mc ms M (fun v g => F g x (on σ θ) (on2 σ θ φ) ∧ bn2 θ φ v) 0 (lv_args 0 (.ref x :: As)) [] h 0 0) :
    sG (fun h x (q : Θ × Φ) => E h x q.1 ∧ F h x q.1 q.2) l D tys A X cA fr lo mc ms M x As op an (fun σ q => (on σ q.1, on2 σ q.1 q.2)) (fun q v => bn q.1 v ∧ bn2 q.1 q.2 v) := by
  intro Sg h σ hH sx hC
  refine tt_mono (fun v g H => ?_) (tt_alls (I := Θ × Φ) (P := fun q => E h x q.1 ∧ F h x q.1 q.2) (hs Sg h σ hH sx hC) (fun q hq => wk Sg h σ q.1 q.2 hH sx hC hq.1 hq.2))
  obtain ⟨⟨Sg1, q1, q2, q3, q4, q5, q6⟩, q7⟩ := H
  refine ⟨Sg1, q1, q2, q3, q4, fun q hq => ?_, q6⟩
  obtain ⟨g2, a1, a2, a3, b1, b2⟩ := q7 q hq
  exact ⟨⟨(q5 q.1 hq.1).1, hF Sg1 g g2 _ _ q1 (q2 x 0 sx) a1 a2 a3 b1⟩, (q5 q.1 hq.1).2, b2⟩
theorem tG_add (hF : agT cA F m) (hs : tG E l D tys A X cA fr lo mc ms M m As op an on bn)
    (wk : ∀ (Sg : Nat → Option Nat) (h : ch_H) (σ : aS) (θ : Θ) (φ : Φ), k_H Sg cA Lb h → sgM Sg m → aR cA h m σ → E h m θ → F h m θ φ → tt l D tys A X fr lo mc ms M (fun v g => F g m (on σ θ) (on2 σ θ φ) ∧ bn2 θ φ v) 0 (lv_args 0 (.ref m :: As)) [] h 0 0) :
    tG (fun h x (q : Θ × Φ) => E h x q.1 ∧ F h x q.1 q.2) l D tys A X cA fr lo mc ms M m As op an (fun σ q => (on σ q.1, on2 σ q.1 q.2)) (fun q v => bn q.1 v ∧ bn2 q.1 q.2 v) := by
  intro Sg h σ hH sm hR
  refine tt_mono (fun v g H => ?_) (tt_alls (I := Θ × Φ) (P := fun q => E h m q.1 ∧ F h m q.1 q.2) (hs Sg h σ hH sm hR) (fun q hq => wk Sg h σ q.1 q.2 hH sm hR hq.1 hq.2))
  obtain ⟨⟨Sg1, q1, q2, q3, q4, q5, q6⟩, q7⟩ := H
  refine ⟨Sg1, q1, q2, q3, q4, fun q hq => ?_, q6⟩
  obtain ⟨g2, a1, a2, a3, b1, b2⟩ := q7 q hq
  exact ⟨⟨(q5 q.1 hq.1).1, hF Sg1 g g2 _ _ q1 q2.1 a1 a2 a3 b1⟩, (q5 q.1 hq.1).2, b2⟩
/-- by a contract that doesn't write what F speaks of -/
theorem sG_keep {mi : Nat} {ts : List k_T} {ra rb : Int} {W : List (Nat × Nat)} (hF : agF cA F x) (hU : ∀ (Sg : Nat → Option Nat) (h h1 : ch_H) (σ : aS) (θ : Θ) (φ : Φ), k_H Sg cA Lb h → k_H Sg cA Lb h1 → k_U Sg W h h1 → Sg x = some 0 → F h x θ φ → F h1 x (on σ θ) φ) (hs : sG E l D tys A X cA fr lo 0 0 M x As op an on bn)
    (hc : ∀ Sg, k_sat l D tys A X Sg cA Lb (mi, (2, 0, 0) :: ts, [], some (0, ra, rb), W, fr, lo)) (hm : k_pM mi = M) (ha : okA ts As) :
    sG (fun h x (q : Θ × Φ) => E h x q.1 ∧ F h x q.1 q.2) l D tys A X cA fr lo 0 0 M x As op an (fun σ q => (on σ q.1, q.2)) (fun q v => bn q.1 v ∧ True) := by
  refine sG_add (on2 := fun _ _ φ => φ) (bn2 := fun _ _ _ => True) hF hs (fun Sg h σ θ φ hH sx _ _ hf => ?_)
  obtain ⟨q1, q2⟩ := ha.at_ (Sg := Sg)
  have k := hc Sg h (.ref x :: As) hH (by simp [q1]) (fun i t hi => by
    match i, hi with
    | 0, hi => cases hi; exact ⟨_, rfl, x, rfl, sx⟩
    | i + 1, hi => exact q2 i t hi) (fun q hq => absurd hq List.not_mem_nil)
  rw [hm] at k
  exact tt_mono (fun v g H => ⟨hU Sg h g σ θ φ hH H.1 H.2.1 sx hf, trivial⟩) k
theorem tG_keep {mi mi2 fr1 lo1 fr2 lo2 : Nat} {ts ts2 : List k_T} {ra rb ra2 rb2 : Int} {W W2 : List (Nat × Nat)} (hF : agT cA F m) (hU : ∀ (Sg : Nat → Option Nat) (h h1 : ch_H) (σ : aS) (θ : Θ) (φ : Φ), k_H Sg cA Lb h → k_H Sg cA Lb h1 → k_U Sg W h h1 ∨ k_U Sg W2 h h1 → sgM0 Sg m → F h m θ φ → F h1 m (on σ θ) φ) (hs : tG E l D tys A X cA fr lo 0 0 M m As op an on bn)
    (hc : ∀ Sg, k_sat l D tys A X Sg cA Lb (mi, (2, 50, 0) :: ts, [], some (0, ra, rb), W, fr1, lo1)) (hc2 : ∀ Sg, k_sat l D tys A X Sg cA Lb (mi2, (2, 70, 0) :: ts2, [], some (0, ra2, rb2), W2, fr2, lo2)) (hm : k_pM mi = M) (hm2 : k_pM mi2 = M) (ha : okA ts As) (ha2 : okA ts2 As) (hf : fr1 ≤ fr ∧ fr2 ≤ fr) (hl : lo1 ≤ lo ∧ lo2 ≤ lo) :
    tG (fun h x (q : Θ × Φ) => E h x q.1 ∧ F h x q.1 q.2) l D tys A X cA fr lo 0 0 M m As op an (fun σ q => (on σ q.1, q.2)) (fun q v => bn q.1 v ∧ True) := by
  refine tG_add (on2 := fun _ _ φ => φ) (bn2 := fun _ _ _ => True) hF hs (fun Sg h σ θ φ hH sm _ _ hf9 => ?_)
  rcases sm.1 with s9 | s9
  · obtain ⟨q1, q2⟩ := ha.at_ (Sg := Sg)
    have k := hc Sg h (.ref m :: As) hH (by simp [q1]) (fun i t hi => by
      match i, hi with
      | 0, hi => cases hi; exact ⟨_, rfl, m, rfl, s9⟩
      | i + 1, hi => exact q2 i t hi) (fun q hq => absurd hq List.not_mem_nil)
    rw [hm] at k
    exact tt_room hf.1 hl.1 (tt_mono (fun v g H => ⟨hU Sg h g σ θ φ hH H.1 (Or.inl H.2.1) sm.1 hf9, trivial⟩) k)
  · obtain ⟨q1, q2⟩ := ha2.at_ (Sg := Sg)
    have k := hc2 Sg h (.ref m :: As) hH (by simp [q1]) (fun i t hi => by
      match i, hi with
      | 0, hi => cases hi; exact ⟨_, rfl, m, rfl, s9⟩
      | i + 1, hi => exact q2 i t hi) (fun q hq => absurd hq List.not_mem_nil)
    rw [hm2] at k
    exact tt_room hf.2 hl.2 (tt_mono (fun v g H => ⟨hU Sg h g σ θ φ hH H.1 (Or.inr H.2.1) sm.1 hf9, trivial⟩) k)
end
