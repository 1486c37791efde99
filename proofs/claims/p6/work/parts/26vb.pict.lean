/-! the pictures of class and reference in all: the eight's numbers, what a TOWN shows, the RULES -/
def kE (cA : Nat → ClassId) (h : ch_H) (x : Nat) (q : aN × zP) : Prop := bC h x q.1 ∧ (FC cA h x q.1 q.2 ∧ RC cA h x (p9 q.2))
def kF (cA : Nat → ClassId) (h : ch_H) (m : Nat) (q : aN × zP) : Prop := bR h m q.1 ∧ (FR cA h m q.1 q.2 ∧ RR cA h m (p9 q.2))
theorem p9_eq {φ φ1 : zP} (h1 : φ1.1 50 7 = φ.1 50 7) (h2 : φ1.2.2.2 = φ.2.2.2) : p9 φ1 = p9 φ := by
  unfold p9
  rw [h1, h2]
section
variable {Sg : Nat → Option Nat} {cA : Nat → ClassId} {h h1 : ch_H} {x m : Nat} {τ : aN} {φ : zP} {q : aN × zP}
theorem lbC_50 : ∀ L, zNC L = true ∨ L = 32 ∨ L = 49 → lbC L < 50 := by
  have hd : ∀ q, q < 160 → lbC q < 50 := by decide +kernel
  intro L hL
  rcases hL with hL | rfl | rfl
  · exact hd L (zNC_lt hL)
  · decide
  · decide
theorem FC.eq (hH : k_H Sg cA Lb h) (sx : Sg x = some 0) (o : ∀ a L, Sg a = some L → L < 50 → h1 a = h a) (H : FC cA h x τ φ) : FC cA h1 x τ φ := by
  obtain ⟨hk, ad, I, W, O, hz, rfl, hS, hA⟩ := H
  have hl := zC_lab hz hA hH (ag.rf h) (agR.rf h) sx
  have e : ∀ L, zNC L = true ∨ L = 32 ∨ L = 49 → h1 (ad L) = h (ad L) := fun L hL => o _ _ (hl L hL) (lbC_50 L hL)
  obtain ⟨⟨F, c, e1⟩, F2, c2, e2⟩ := hA
  exact ⟨hk, ad, I, W, O, ⟨fun L hL => (e L (Or.inl hL)).trans (hz.1 L hL), hz.2⟩, rfl, hS, ⟨F, (e 32 (Or.inr (Or.inl rfl))).trans c, e1⟩, F2, (e 49 (Or.inr (Or.inr rfl))).trans c2, e2⟩
theorem FR.eq (hH : k_H Sg cA Lb h) (sm : sgM0 Sg m) (o : ∀ a L, Sg a = some L → 50 ≤ L → h1 a = h a) (H : FR cA h m τ φ) : FR cA h1 m τ φ := by
  obtain ⟨hk, ad, I, W, O, hz, rfl, hS⟩ := H
  obtain ⟨s, l5, hc, hl⟩ := zM_lab hz hH (ag.rf h) sm
  refine ⟨hk, ad, I, W, O, ⟨fun L hL => (o _ _ (hl L hL) ?_).trans (hz.1 L hL), hz.2⟩, rfl, hS⟩
  unfold zNM at hL
  simp only [Bool.and_eq_true, decide_eq_true_eq] at hL
  unfold lbR
  split
  · omega
  · split <;> omega
theorem RC.eq {ψ : uP} (hH : k_H Sg cA Lb h) (sx : Sg x = some 0) (o : ∀ a L, Sg a = some L → L < 50 → h1 a = h a) (H : RC cA h x ψ) : RC cA h1 x ψ :=
  RC.gen hH sx (fun xs c => ⟨xs, (o x 0 sx (by decide)).trans c, rfl, rfl, rfl⟩) (fun a L ha hL => o a L ha (by omega)) H
theorem RR.eq {ψ : uP} (hH : k_H Sg cA Lb h) (sm : sgM0 Sg m) (o : ∀ a L, Sg a = some L → 50 ≤ L → h1 a = h a) (H : RR cA h m ψ) : RR cA h1 m ψ :=
  RR.gen hH sm (fun fs c => ⟨fs, (by rcases sm with s | s; exact (o m 50 s (by decide)).trans c; exact (o m 70 s (by decide)).trans c), rfl, rfl, rfl⟩) (fun a L ha hL => o a L ha (by omega)) H
theorem kE.eq (hH : k_H Sg cA Lb h) (sx : Sg x = some 0) (o : ∀ a L, Sg a = some L → L < 50 → h1 a = h a) (H : kE cA h x q) : kE cA h1 x q := ⟨H.1.eq hH sx o, H.2.1.eq hH sx o, H.2.2.eq hH sx o⟩
theorem kF.eq (hH : k_H Sg cA Lb h) (sm : sgM0 Sg m) (o : ∀ a L, Sg a = some L → 50 ≤ L → h1 a = h a) (H : kF cA h m q) : kF cA h1 m q := ⟨H.1.eq sm o, H.2.1.eq hH sm o, H.2.2.eq hH sm o⟩
/-- the law's rope writes rows that show nothing -/
theorem FC.rope (hH : k_H Sg cA Lb h) (hg : k_H Sg cA Lb h1) (u : k_U Sg [(29, 0), (30, 0)] h h1) (sx : Sg x = some 0) (H : FC cA h x τ φ) : FC cA h1 x τ φ := by
  obtain ⟨hk, ad, I, W, O, hz, rfl, hS, hA⟩ := H
  have hl := zC_lab hz hA hH (ag.rf h) (agR.rf h) sx
  have t1 : ∀ L, zNC L = true → shk (zZ L) (Lb (lbC L)) = true := by
    have hd : ∀ q, q < 160 → zNC q = true → shk (zZ q) (Lb (lbC q)) = true := by decide +kernel
    exact fun L hL => hd L (zNC_lt hL) hL
  have t2 : ∀ L, zNC L = true → (zZ L).1 = 0 → lbC L ≠ 29 ∧ lbC L ≠ 30 := by
    have hd : ∀ q, q < 160 → zNC q = true → (zZ q).1 = 0 → lbC q ≠ 29 ∧ lbC q ≠ 30 := by decide +kernel
    exact fun L hL => hd L (zNC_lt hL) hL
  have t3 : ∀ L, zNC L = true → (lbC L = 29 ∨ lbC L = 30) → L = 25 ∨ L = 26 := by
    have hd : ∀ q, q < 160 → zNC q = true → (lbC q = 29 ∨ lbC q = 30) → q = 25 ∨ q = 26 := by decide +kernel
    exact fun L hL => hd L (zNC_lt hL) hL
  have nm : ∀ L k, lbC L ≠ 29 → lbC L ≠ 30 → (lbC L, k) ∉ [((29 : Nat), (0 : Nat)), (30, 0)] := fun L k n1 n2 hm => by
    simp only [List.mem_cons, List.not_mem_nil, or_false, Prod.mk.injEq] at hm
    omega
  obtain ⟨I1, W1, O1, z1, z2, z3⟩ := hz.U (fun L hL => hl L (Or.inl hL)) hg u t1 (fun L k hL k0 _ => nm L k (t2 L hL k0).1 (t2 L hL k0).2)
  have same : ∀ a L, Sg a = some L → L ≠ 29 → L ≠ 30 → h1 a = h a := fun a L ha n1 n2 => k_U.same hH u ha (fun q hq e => by
    simp only [List.mem_cons, List.not_mem_nil, or_false] at hq
    rcases hq with rfl | rfl <;> (dsimp only at e; omega))
  have pt : ∀ L, L ≠ 25 → L ≠ 26 → I1 L = I L ∧ W1 L = W L := fun L n1 n2 => by
    by_cases c : zNC L = true
    · have nn : lbC L ≠ 29 ∧ lbC L ≠ 30 := ⟨fun e => by have := t3 L c (Or.inl e); omega, fun e => by have := t3 L c (Or.inr e); omega⟩
      have q := fun k => z2 L k c (fun _ => nm L 0 nn.1 nn.2) (fun _ => nm L k nn.1 nn.2)
      exact ⟨funext fun k => (q k).1, funext fun k => (q k).2⟩
    · exact z3 L c
  obtain ⟨⟨F, c, e1⟩, F2, c2, e2⟩ := hA
  refine ⟨hk, ad, I1, W1, O1, z1, rfl, hS.mv (fun L hL => (pt L ?_ ?_).1) (fun L hL => (pt L (by omega) (by omega)).2), ⟨F, (same _ _ (hl 32 (Or.inr (Or.inl rfl))) (by decide) (by decide)).trans c, e1⟩, F2, (same _ _ (hl 49 (Or.inr (Or.inr rfl))) (by decide) (by decide)).trans c2, e2⟩
  · intro e
    apply hL
    unfold scr
    omega
  · intro e
    apply hL
    unfold scr
    omega
theorem kE.rope (hH : k_H Sg cA Lb h) (hg : k_H Sg cA Lb h1) (u : k_U Sg [(29, 0), (30, 0)] h h1) (sx : Sg x = some 0) (H : kE cA h x q) : kE cA h1 x q := ⟨H.1.U hH u (by decide) sx, H.2.1.rope hH hg u sx, H.2.2.U hH u (by decide) sx⟩
end
section
variable {Θ : Type} {l : Launch} {D : va_G} {tys : List (ClassId × FieldType)} {A : Nat → Prop} {X : State → Prop} {cA : Nat → ClassId} {fr lo mc ms : Nat} {M : ch_M} {x m : Nat} {As : List Value} {op : aS → aS} {an : aS → Option Value → Prop} {E : ch_H → Nat → Θ → Prop} {on : aS → Θ → Θ} {bn bn2 : Θ → Option Value → Prop}
theorem sG_mn (hb : ∀ q v, bn q v → bn2 q v) (hs : sG E l D tys A X cA fr lo mc ms M x As op an on bn) : sG E l D tys A X cA fr lo mc ms M x As op an on bn2 := by
  intro Sg h σ hH sx hC
  refine tt_mono (fun v g H => ?_) (hs Sg h σ hH sx hC)
  obtain ⟨Sg1, q1, q2, q3, q4, q5, q6⟩ := H
  exact ⟨Sg1, q1, q2, q3, q4, fun θ hE => ⟨(q5 θ hE).1, hb θ v (q5 θ hE).2⟩, q6⟩
theorem tG_mn (hb : ∀ q v, bn q v → bn2 q v) (hs : tG E l D tys A X cA fr lo mc ms M m As op an on bn) : tG E l D tys A X cA fr lo mc ms M m As op an on bn2 := by
  intro Sg h σ hH sm hR
  refine tt_mono (fun v g H => ?_) (hs Sg h σ hH sm hR)
  obtain ⟨Sg1, q1, q2, q3, q4, q5, q6⟩ := H
  exact ⟨Sg1, q1, q2, q3, q4, fun θ hE => ⟨(q5 θ hE).1, hb θ v (q5 θ hE).2⟩, q6⟩
/-- an answer, by a walk of its own -/
theorem sG_an (hs : sG E l D tys A X cA fr lo mc ms M x As op an on bn) (wk : ∀ (Sg : Nat → Option Nat) (h : ch_H) (σ : aS) (θ : Θ), k_H Sg cA Lb h → Sg x = some 0 → aC cA h x σ → E h x θ → tt l D tys A X fr lo mc ms M (fun v _ => bn2 θ v) 0 (lv_args 0 (.ref x :: As)) [] h 0 0) : sG E l D tys A X cA fr lo mc ms M x As op an on bn2 := by
  intro Sg h σ hH sx hC
  refine tt_mono (fun v g H => ?_) (tt_alls (I := Θ) (P := fun q => E h x q) (hs Sg h σ hH sx hC) (fun q hq => wk Sg h σ q hH sx hC hq))
  obtain ⟨⟨Sg1, q1, q2, q3, q4, q5, q6⟩, q7⟩ := H
  refine ⟨Sg1, q1, q2, q3, q4, fun q hq => ?_, q6⟩
  obtain ⟨g2, a1, a2, a3, b1⟩ := q7 q hq
  exact ⟨(q5 q hq).1, b1⟩
theorem tG_an (hs : tG E l D tys A X cA fr lo mc ms M m As op an on bn) (wk : ∀ (Sg : Nat → Option Nat) (h : ch_H) (σ : aS) (θ : Θ), k_H Sg cA Lb h → sgM Sg m → aR cA h m σ → E h m θ → tt l D tys A X fr lo mc ms M (fun v _ => bn2 θ v) 0 (lv_args 0 (.ref m :: As)) [] h 0 0) : tG E l D tys A X cA fr lo mc ms M m As op an on bn2 := by
  intro Sg h σ hH sm hR
  refine tt_mono (fun v g H => ?_) (tt_alls (I := Θ) (P := fun q => E h m q) (hs Sg h σ hH sm hR) (fun q hq => wk Sg h σ q hH sm hR hq))
  obtain ⟨⟨Sg1, q1, q2, q3, q4, q5, q6⟩, q7⟩ := H
  refine ⟨Sg1, q1, q2, q3, q4, fun q hq => ?_, q6⟩
  obtain ⟨g2, a1, a2, a3, b1⟩ := q7 q hq
  exact ⟨(q5 q hq).1, b1⟩
/-- the RULES are left alone, by a contract of less room -/
theorem kCR_V {prz : Θ → aN × zP} {mi fr1 lo1 : Nat} {ts : List k_T} {ra rb : Int} {W : List (Nat × Nat)} (hw : okRu W = true) (hs : sG E l D tys A X cA fr lo 0 0 M x As op an on bn) (ho : ∀ σ θ, p9 (prz (on σ θ)).2 = p9 (prz θ).2) (hc : ∀ Sg, k_sat l D tys A X Sg cA Lb (mi, (2, 0, 0) :: ts, [], some (0, ra, rb), W, fr1, lo1)) (hm : k_pM mi = M) (ha : okA ts As) (hf : fr1 ≤ fr) (hl : lo1 ≤ lo) : sG (fun h x (q : Θ × Unit) => E h x q.1 ∧ RC cA h x (p9 (prz q.1).2)) l D tys A X cA fr lo 0 0 M x As op an (fun σ q => (on σ q.1, q.2)) (fun q v => bn q.1 v ∧ True) := by
  refine sG_add (F := fun h x (θ : Θ) (_ : Unit) => RC cA h x (p9 (prz θ).2)) (on2 := fun _ _ u => u) (bn2 := fun _ _ _ => True) RC_ag hs (fun Sg h σ θ _ hH sx _ _ hf9 => ?_)
  obtain ⟨q1, q2⟩ := ha.at_ (Sg := Sg)
  have k := hc Sg h (.ref x :: As) hH (by simp [q1]) (fun i t hi => by
    match i, hi with
    | 0, hi => cases hi; exact ⟨_, rfl, x, rfl, sx⟩
    | i + 1, hi => exact q2 i t hi) (fun q hq => absurd hq List.not_mem_nil)
  rw [hm] at k
  refine tt_room hf hl (tt_mono (fun v g H => ⟨?_, trivial⟩) k)
  show RC cA g x (p9 (prz (on σ θ)).2)
  rw [ho]
  exact RC.U hH H.2.1 hw sx hf9
/-- the reference's feast: WANTED is put back -/
def alF : List (Nat × Nat) := (60, 0) :: (68, 0) :: alR
theorem kR_feast (hT : k_TX tys cA A X) (pr : Θ → aN) {w : Int32} (hs : tG E l D tys A X cA fr lo 0 0 mX11_feast m [.int w] op an on bn) (ho : ∀ σ θ, pr (on σ θ) = pr θ) (hf : 100 ≤ fr) (hl : 6000 ≤ lo) : tG (fun h x (q : Θ × zP) => E h x q.1 ∧ FR cA h x (pr q.1) q.2) l D tys A X cA fr lo 0 0 mX11_feast m [.int w] op an (fun σ q => (on σ q.1, q.2)) (fun q v => bn q.1 v ∧ True) := by
  refine tG_add (F := fun h x θ φ => FR cA h x (pr θ) φ) (on2 := fun _ _ φ => φ) (bn2 := fun _ _ _ => True) (fun Sg g g2 θ φ => FR_ag Sg g g2 (pr θ) φ) hs (fun Sg h σ θ φ hH sm _ _ hf9 => ?_)
  obtain ⟨hk, ad, I, W, O, hz, rfl, hS⟩ := hf9
  have n6 := hk.1.1
  have k1 : tt l D tys A X fr lo 0 0 mX11_feast (fun v g => k_H Sg cA Lb g ∧ ∃ Wr, k_U Sg Wr h g ∧ ∀ q ∈ Wr, q ∈ alF) 0 (lv_args 0 [.ref (ad 50), .int w]) [] h 0 0 := by
    rcases sm.1 with s9 | s9
    · have k := sat_224 (l := l) (D := D) (Sg := Sg) hT h [.ref (ad 50), .int w] hH rfl (fun i t hi => by
        match i, hi with
        | 0, hi => cases hi; exact ⟨_, rfl, _, rfl, s9⟩
        | 1, hi => cases hi; exact ⟨_, rfl, _, rfl, (i32b _).1, (i32b _).2⟩
        | i + 2, hi => cases hi) (fun q hq => absurd hq List.not_mem_nil)
      exact tt_room (by show 14 ≤ fr; omega) (by show 352 ≤ lo; omega) (tt_mono (fun v g H => ⟨H.1, _, H.2.1, by decide +kernel⟩) k)
    · have k := sat_276 (l := l) (D := D) (Sg := Sg) hT h [.ref (ad 50), .int w] hH rfl (fun i t hi => by
        match i, hi with
        | 0, hi => cases hi; exact ⟨_, rfl, _, rfl, s9⟩
        | 1, hi => cases hi; exact ⟨_, rfl, _, rfl, (i32b _).1, (i32b _).2⟩
        | i + 2, hi => cases hi) (fun q hq => absurd hq List.not_mem_nil)
      exact tt_room (by show _ ≤ fr; refine Nat.le_trans ?_ hf; decide) (by show _ ≤ lo; refine Nat.le_trans ?_ hl; decide) (tt_mono (fun v g H => ⟨H.1, _, H.2.1, by decide +kernel⟩) k)
  have k2 : tt l D tys A X fr lo 0 0 mX11_feast (fun v g => ∃ gw1 : Nat → Int32, g (ad 60) = some (.inl (cA 0, 12, .inl gw1)) ∧ ∀ r, r < 12 → gw1 r = I 60 r) 0 (lv_args 0 [.ref (ad 50), .int w]) [] h 0 0 := by
    show ww l D tys A X fr lo mX11_feast _ 0 [(0, .ref (ad 50)), (1, .int w)] [] h
    have hn9 : (I 50 20).toInt.toNat = (pr θ).1 := by have := hS.1.1; omega
    exact r_feastW hT.1 (ρ := φ.2.2.1) (fs := z_fs ad (I 50) (W 50) (O 50) 0 (zZ 50).2.2.2) (z_fsR (k := 19) (L1 := 55) rfl rfl rfl) (z_fsI (k := 20) rfl rfl) (z_fsR (k := 26) (L1 := 60) rfl rfl rfl) (z_fsR (k := 46) (L1 := 68) rfl rfl rfl) ⟨⟨hz.ne rfl rfl (by decide), hz.ne rfl rfl (by decide), hz.ne rfl rfl (by decide)⟩, ⟨hz.ne rfl rfl (by decide), hz.ne rfl rfl (by decide), hz.ne rfl rfl (by decide)⟩, hz.ne rfl rfl (by decide), hz.ne rfl rfl (by decide), hz.ne rfl rfl (by decide)⟩ (by have := hS.1.1; omega) (by rw [hn9]; exact hk.1) (by rw [hn9]; exact hS.1.2.2) (by rw [z_fs_len]; rfl) (hz.ob rfl rfl) (hz.ar (L := 55) (f := I 55) rfl rfl rfl) (hz.ar (L := 60) (f := I 60) rfl rfl rfl) (hz.ar (L := 68) (f := I 68) rfl rfl rfl) (by omega) (by omega) (fun g v fs1 gw1 _ _ q3 q4 => ⟨gw1, q3, fun r hr => (kn_eq _ _).mpr (q4 r hr)⟩)
  refine tt_mono (fun v g H => ⟨?_, trivial⟩) (tt_alls (I := Unit) (P := fun _ => True) k1 (fun _ _ => k2))
  obtain ⟨⟨g1, Wr, u, no⟩, q⟩ := H
  obtain ⟨g2, a1, a2, a3, gw1, c2, e2⟩ := q () trivial
  show FR cA g (ad 50) (pr (on σ θ)) φ
  rw [ho]
  obtain ⟨s, l5, hc, hl9⟩ := zM_lab hz hH (ag.rf h) sm.1
  obtain ⟨I1, W1, O1, z1, z2, -⟩ := hz.U hl9 g1 u (shR s l5 hc) (fun L k hL k0 k2 hm => by
    have h50 : L = 50 := by
      have hd : ∀ q, q < 69 → zNM q = true → (zZ q).1 = 0 → q = 50 := by decide +kernel
      refine hd L ?_ hL k0
      unfold zNM at hL
      simp only [Bool.and_eq_true, decide_eq_true_eq] at hL
      omega
    subst h50
    have hd : ∀ q ∈ alF, (q.1 = 50 ∨ q.1 = 70) → ¬ zkd (zZ 50).2.2.2 q.2 = 2 := by decide +kernel
    refine hd _ (no _ hm) ?_ k2
    show lbR s l5 50 = 50 ∨ lbR s l5 50 = 70
    have e : lbR s l5 50 = s := if_pos rfl
    omega)
  have es : lbR s l5 50 = s := if_pos rfl
  have n5 : ∀ k, k = 7 ∨ k = 20 ∨ 32 ≤ k ∧ k ≤ 36 ∨ k = 38 ∨ k = 39 → (lbR s l5 50, k) ∉ Wr := fun k hk9 hm => by
    have hd : ∀ q ∈ alF, (q.1 = 50 ∨ q.1 = 70) → ¬ (q.2 = 7 ∨ q.2 = 20 ∨ 32 ≤ q.2 ∧ q.2 ≤ 36 ∨ q.2 = 38 ∨ q.2 = 39) := by decide +kernel
    exact hd _ (no _ hm) (by rw [es]; omega) hk9
  have nL : ∀ L, L = 55 ∨ L = 56 ∨ 58 ≤ L ∧ L ≤ 65 → L ≠ 60 → I1 L = I L := fun L hL n60 => by
    have h9 : L < 69 := by omega
    have hd : ∀ q, q < 69 → (q = 55 ∨ q = 56 ∨ 58 ≤ q ∧ q ≤ 65) → q ≠ 60 → (zNM q && ((zZ q).1 == 1 && (!alF.contains (lbR 50 55 q, 0) && !alF.contains (lbR 70 69 q, 0)))) = true := by decide +kernel
    have h8 := hd L h9 hL n60
    simp only [Bool.and_eq_true, beq_iff_eq, Bool.not_eq_true'] at h8
    obtain ⟨d1, d2, d3, d4⟩ := h8
    have d5 : (lbR s l5 L, 0) ∉ Wr := fun hm => by
      rcases hc with ⟨rfl, rfl⟩ | ⟨rfl, rfl⟩
      · rw [List.contains_iff_mem.mpr (no _ hm)] at d3
        cases d3
      · rw [List.contains_iff_mem.mpr (no _ hm)] at d4
        cases d4
    exact funext fun k => (z2 L k d1 (fun _ => d5) (fun k0 => by omega)).1
  have z5 : ∀ k, k = 7 ∨ k = 20 ∨ 32 ≤ k ∧ k ≤ 36 ∨ k = 38 ∨ k = 39 → I1 50 k = I 50 k ∧ W1 50 k = W 50 k := fun k hk9 => z2 50 k rfl (fun k1 => absurd k1 (by decide)) (fun _ => n5 k hk9)
  have e60 : ∀ r, r < 12 → I1 60 r = I 60 r := fun r hr => by
    have q := (a2 _ _ _ _ _ _ _ (z1.ar (L := 60) (f := I1 60) rfl rfl rfl) c2).2 r hr
    exact q.trans (e2 r hr)
  have H2 : rS (pr θ) φ (s2 I1 60 (I 60)) W1 := hS.mv hk (fun L hL => by
    by_cases c : L = 60
    · subst c
      exact s2_s _ _ _
    · rw [s2_n c]
      exact nL L (by omega) c) (fun k _ => by rw [s2_n (by decide), nL 56 (by decide) (by decide)]) (fun k hk9 => by rw [s2_n (by decide)]; exact (z5 k (by omega)).1) ⟨(z5 36 (by decide)).2, (z5 38 (by decide)).2⟩
  obtain ⟨h1, h2, h3, h4, h5, h6, h7, h8, h9, h10, h11⟩ := H2
  have h8 : ∀ r, r < 12 → I 60 r = φ.1 60 r ∧ I1 61 r = φ.1 61 r := h8
  exact ⟨hk, ad, I1, W1, O1, z1, rfl, ⟨h1, h2, h3, h4, h5, h6, h7, fun r hr => ⟨(e60 r hr).trans (h8 r hr).1, (h8 r hr).2⟩, h9, h10, h11⟩⟩
end
