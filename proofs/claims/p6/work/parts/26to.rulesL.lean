/-! layer of the RULES: feed, end, fault, text; all else by contracts (made by gen_kU5) -/
section
variable {l : Launch} {D : va_G} {tys : List (ClassId × FieldType)} {A : Nat → Prop} {X : State → Prop} {fr lo : Nat} {Q : Option Value → ch_H → Prop} {cA : Nat → ClassId} {Sg : Nat → Option Nat} {h : ch_H} {x : Nat} {σ : aS} {τ : aN} {φ : zP} {aK aV : Nat → Nat}
theorem kU_feed (hT : k_tys tys cA) {wa wb wc wd we : Int32} (hH : k_H Sg cA Lb h) (sx : Sg x = some 0) (hC : aC cA h x σ) (H : FC cA h x τ φ) {ψ : uP} (Rc : RC cA h x ψ) : tt l D tys A X 1 30 0 0 mX10_feed (fun _ g => RC cA g x ψ ∧ True) 0 (lv_args 0 [.ref x, .int wa, .int wb, .int wc, .int wd, .int we]) [] h 0 0 := by
  obtain ⟨hk, ad, I, W, O, hz, rfl, hS, hA, hl⟩ := H.lab hH sx
  obtain ⟨len, at0, fl0, T, e1, e2⟩ := hC.st hH hz
  have ne : ∀ L M, (zNC L = true ∨ L = 32 ∨ L = 49) → (zNC M = true ∨ M = 32 ∨ M = 49) → lbC L ≠ lbC M → ad L ≠ ad M := fun L M hL hM n9 => k_sg_ne (hl L hL) (hl M hM) n9
  show ww l D tys A X 1 30 mX10_feed _ 0 [(0, .ref (ad 0)), (1, .int wa), (2, .int wb), (3, .int wc), (4, .int wd), (5, .int we)] [] h
  refine s_feed hT (by decide) (by decide) (hz.ob (L := 0) rfl rfl) (z_fsR (k := 0) (L1 := 1) rfl rfl rfl) (hz.ne rfl rfl (by decide)) (hz.ne rfl rfl (by decide)) T (fun h1 f1 len1 v T1 hh o => ⟨Rc.same hH sx (fun a L ha hl9 => o a ⟨k_sg_ne ha (show Sg (ad 1) = some 1 from hl 1 (Or.inl rfl)) (by omega), k_sg_ne ha (show Sg (ad 19) = some 10 from hl 19 (Or.inl rfl)) (by omega)⟩), trivial⟩)
theorem kU_end {n9 : Int32} (hH : k_H Sg cA Lb h) (sx : Sg x = some 0) (hC : aC cA h x σ) (H : FC cA h x τ φ) {ψ : uP} (Rc : RC cA h x ψ) : tt l D tys A X 1 30 0 0 mX10_end (fun _ g => RC cA g x ψ ∧ True) 0 (lv_args 0 [.ref x, .int n9]) [] h 0 0 := by
  obtain ⟨hk, ad, I, W, O, hz, rfl, hS, hA, hl⟩ := H.lab hH sx
  obtain ⟨len, at0, fl0, T, e1, e2⟩ := hC.st hH hz
  have ne : ∀ L M, (zNC L = true ∨ L = 32 ∨ L = 49) → (zNC M = true ∨ M = 32 ∨ M = 49) → lbC L ≠ lbC M → ad L ≠ ad M := fun L M hL hM n9 => k_sg_ne (hl L hL) (hl M hM) n9
  show ww l D tys A X 1 30 mX10_end _ 0 [(0, .ref (ad 0)), (1, .int n9)] [] h
  refine s_end (hz.ob (L := 0) rfl rfl) (z_fsR (k := 0) (L1 := 1) rfl rfl rfl) (hz.ne rfl rfl (by decide)) (hz.ne rfl rfl (by decide)) T (fun h1 len1 v T1 hh o => ⟨Rc.same hH sx (fun a L ha hl9 => o a ⟨k_sg_ne ha (show Sg (ad 1) = some 1 from hl 1 (Or.inl rfl)) (by omega), k_sg_ne ha (show Sg (ad 19) = some 10 from hl 19 (Or.inl rfl)) (by omega)⟩), trivial⟩)
end
section
variable {l : Launch} {D : va_G} {tys : List (ClassId × FieldType)} {A : Nat → Prop} {X : State → Prop} {cA : Nat → ClassId} {Sg : Nat → Option Nat} {h : ch_H} {m n : Nat} {ρ : aRw} {τ : aN} {φ : zP} {σ : aS} {aK aV : Nat → Nat}
theorem kV_feed (hT : k_tys tys cA) {wa wb wc wd we : Int32} (hH : k_H Sg cA Lb h) (sm : sgM Sg m) (hR : aR cA h m σ) (H : FR cA h m τ φ) {ψ : uP} (Rr : RR cA h m ψ) : tt l D tys A X 1 30 0 0 mX11_feed (fun _ g => RR cA g m ψ ∧ True) 0 (lv_args 0 [.ref m, .int wa, .int wb, .int wc, .int wd, .int we]) [] h 0 0 := by
  obtain ⟨fs, tx, g, len, rc, c_m, f1, f6, f7, c_t, hsb, e1, e2⟩ := hR
  obtain ⟨hk, ad, I, W, O, hz, rfl, hS⟩ := H
  have ef : fs = z_fs ad (I 50) (W 50) (O 50) 0 (zZ 50).2.2.2 := by
    have := c_m.symm.trans (hz.ob (L := 50) (ts := (zZ 50).2.2.2) rfl rfl)
    cases this
    rfl
  have c51 := hz.ar (L := 51) (f := I 51) rfl rfl rfl
  have c52 := hz.ar (L := 52) (f := I 52) rfl rfl rfl
  have c53 := hz.ar (L := 53) (f := I 53) rfl rfl rfl
  have c55 := hz.ar (L := 55) (f := I 55) rfl rfl rfl
  have rf : ∀ k L1 : Nat, (zZ 50).2.2.2[k]? = some (2, ((L1 : Nat) : Int), 0) → fs[k]? = some (.ref (ad L1)) := fun k L1 hk9 => by
    rw [ef]
    exact z_fsR hk9 rfl rfl
  have nf : ∀ k : Nat, (zZ 50).2.2.2[k]? = some (0, 0, 0) → fs[k]? = some (.int (I 50 k)) := fun k hk9 => by
    rw [ef]
    exact z_fsI hk9 rfl
  have k0 : ∀ k, k < 47 → sF k = true → (zZ 50).2.2.2[k]? = some (0, 0, 0) := by decide +kernel
  have sl : ∀ k, sF k = true → k < 47 := fun k hk9 => by
    unfold sF at hk9
    simp only [Bool.or_eq_true, Bool.and_eq_true, beq_iff_eq, decide_eq_true_eq] at hk9
    omega
  have sn : ∀ k, ¬ sF k = true → ¬ (k = 0 ∨ 6 ≤ k ∧ k ≤ 14 ∨ k = 18 ∨ k = 20 ∨ k = 21) := fun k hk9 z => hk9 (by
    unfold sF
    simp only [Bool.or_eq_true, Bool.and_eq_true, beq_iff_eq, decide_eq_true_eq]
    omega)
  have i0 : ∀ k, sF k = true → ∃ y : Int32, fs[k]? = some (.int y) := fun k hk9 => ⟨_, nf k (k0 k (sl k hk9) hk9)⟩
  have v5 : ∃ v : Value, fs[5]? = some v := by
    rw [ef]
    exact ⟨_, rfl⟩
  have at51 : tx = ad 51 := by
    have := rf 1 51 rfl
    rw [f1] at this
    cases this
    rfl
  obtain ⟨L, le, ro, te, tl, dp, rd, gl, R, gt, gz, sL, hro, fl, l0, l1, s_tx, -⟩ := T_M hH sm.1 c_m f1 f6
  obtain ⟨hL, hL5⟩ := m_ge hro
  have hn : len.toInt.toNat = σ.2.1 := by omega
  have nxm : tx ≠ ad 50 := k_sg_ne s_tx sL (by omega)
  subst at51
  have Ri : RI I ψ := Rr.ri c_m (rf 2 52 rfl) (rf 3 53 rfl) (nf 7 rfl) c52 c53
  show ww l D tys A X 1 30 mX11_feed _ 0 [(0, .ref (ad 50)), (1, .int wa), (2, .int wb), (3, .int wc), (4, .int wd), (5, .int we)] [] h
  refine r_feed hT (by decide) (by decide) (f := σ.1) (by rw [hn]; exact hsb) ⟨c_m, fl, f1, f6, nxm, nxm.symm, c_t, l0, l1⟩ (fun h1 fs1 g1 len1 v H1 hh hz0 hj o => ⟨?_, trivial⟩)
  obtain ⟨q1, q2, q3, q4, q5, q6, q7, -⟩ := H1
  exact RR.st Ri q1 ((hj 2 (by decide)).trans (rf 2 52 rfl)) ((hj 3 (by decide)).trans (rf 3 53 rfl)) ((hj 7 (by decide)).trans (nf 7 rfl)) ((o _ ⟨hz.ne rfl rfl (by decide), hz.ne rfl rfl (by decide)⟩).trans c52) ((o _ ⟨hz.ne rfl rfl (by decide), hz.ne rfl rfl (by decide)⟩).trans c53)
theorem kV_end (hT : k_tys tys cA) {n9 : Int32} (hH : k_H Sg cA Lb h) (sm : sgM Sg m) (hR : aR cA h m σ) (H : FR cA h m τ φ) {ψ : uP} (Rr : RR cA h m ψ) : tt l D tys A X 1 30 0 0 mX11_end (fun _ g => RR cA g m ψ ∧ True) 0 (lv_args 0 [.ref m, .int n9]) [] h 0 0 := by
  obtain ⟨fs, tx, g, len, rc, c_m, f1, f6, f7, c_t, hsb, e1, e2⟩ := hR
  obtain ⟨hk, ad, I, W, O, hz, rfl, hS⟩ := H
  have ef : fs = z_fs ad (I 50) (W 50) (O 50) 0 (zZ 50).2.2.2 := by
    have := c_m.symm.trans (hz.ob (L := 50) (ts := (zZ 50).2.2.2) rfl rfl)
    cases this
    rfl
  have c51 := hz.ar (L := 51) (f := I 51) rfl rfl rfl
  have c52 := hz.ar (L := 52) (f := I 52) rfl rfl rfl
  have c53 := hz.ar (L := 53) (f := I 53) rfl rfl rfl
  have c55 := hz.ar (L := 55) (f := I 55) rfl rfl rfl
  have rf : ∀ k L1 : Nat, (zZ 50).2.2.2[k]? = some (2, ((L1 : Nat) : Int), 0) → fs[k]? = some (.ref (ad L1)) := fun k L1 hk9 => by
    rw [ef]
    exact z_fsR hk9 rfl rfl
  have nf : ∀ k : Nat, (zZ 50).2.2.2[k]? = some (0, 0, 0) → fs[k]? = some (.int (I 50 k)) := fun k hk9 => by
    rw [ef]
    exact z_fsI hk9 rfl
  have k0 : ∀ k, k < 47 → sF k = true → (zZ 50).2.2.2[k]? = some (0, 0, 0) := by decide +kernel
  have sl : ∀ k, sF k = true → k < 47 := fun k hk9 => by
    unfold sF at hk9
    simp only [Bool.or_eq_true, Bool.and_eq_true, beq_iff_eq, decide_eq_true_eq] at hk9
    omega
  have sn : ∀ k, ¬ sF k = true → ¬ (k = 0 ∨ 6 ≤ k ∧ k ≤ 14 ∨ k = 18 ∨ k = 20 ∨ k = 21) := fun k hk9 z => hk9 (by
    unfold sF
    simp only [Bool.or_eq_true, Bool.and_eq_true, beq_iff_eq, decide_eq_true_eq]
    omega)
  have i0 : ∀ k, sF k = true → ∃ y : Int32, fs[k]? = some (.int y) := fun k hk9 => ⟨_, nf k (k0 k (sl k hk9) hk9)⟩
  have v5 : ∃ v : Value, fs[5]? = some v := by
    rw [ef]
    exact ⟨_, rfl⟩
  have at51 : tx = ad 51 := by
    have := rf 1 51 rfl
    rw [f1] at this
    cases this
    rfl
  obtain ⟨L, le, ro, te, tl, dp, rd, gl, R, gt, gz, sL, hro, fl, l0, l1, s_tx, -⟩ := T_M hH sm.1 c_m f1 f6
  obtain ⟨hL, hL5⟩ := m_ge hro
  have nxm : tx ≠ ad 50 := k_sg_ne s_tx sL (by omega)
  subst at51
  have Ri : RI I ψ := Rr.ri c_m (rf 2 52 rfl) (rf 3 53 rfl) (nf 7 rfl) c52 c53
  show ww l D tys A X 1 30 mX11_end _ 0 [(0, .ref (ad 50)), (1, .int n9)] [] h
  refine r_end ⟨c_m, fl, f1, f6, nxm, nxm.symm, c_t, l0, l1⟩ (fun h1 fs1 len1 v H1 hh hz0 hj o => ⟨?_, trivial⟩)
  obtain ⟨q1, q2, q3, q4, q5, q6, q7, -⟩ := H1
  exact RR.st Ri q1 ((hj 2 (by decide)).trans (rf 2 52 rfl)) ((hj 3 (by decide)).trans (rf 3 53 rfl)) ((hj 7 (by decide)).trans (nf 7 rfl)) ((o _ ⟨hz.ne rfl rfl (by decide), hz.ne rfl rfl (by decide)⟩).trans c52) ((o _ ⟨hz.ne rfl rfl (by decide), hz.ne rfl rfl (by decide)⟩).trans c53)
end
section
variable {Θ : Type} {l : Launch} {D : va_G} {tys : List (ClassId × FieldType)} {A : Nat → Prop} {X : State → Prop} {cA : Nat → ClassId} {fr lo : Nat} {x m : Nat} {M : ch_M} {As : List Value} {op : aS → aS} {an : aS → Option Value → Prop} {E : ch_H → Nat → Θ → Prop} {on : aS → Θ → Θ} {bn : Θ → Option Value → Prop} {aK aV : Nat → Nat} {prz : Θ → aN × zP}
theorem RC_ag : agF cA (fun h x (θ : Θ) (_ : Unit) => RC cA h x (p9 (prz θ).2)) x := fun _ _ _ _ _ hH sx a ai ar H => RC.ag hH sx a ai ar H
theorem RR_ag : agT cA (fun h x (θ : Θ) (_ : Unit) => RR cA h x (p9 (prz θ).2)) m := fun _ _ _ _ _ hH sm a ai ar H => RR.ag hH sm (m_ob hH sm) a ai H
theorem kCR_U {mi : Nat} {ts : List k_T} {ra rb : Int} {W : List (Nat × Nat)} (hw : okRu W = true) (hs : sG E l D tys A X cA fr lo 0 0 M x As op an on bn) (ho : ∀ σ θ, p9 (prz (on σ θ)).2 = p9 (prz θ).2) (hc : ∀ Sg, k_sat l D tys A X Sg cA Lb (mi, (2, 0, 0) :: ts, [], some (0, ra, rb), W, fr, lo)) (hm : k_pM mi = M) (ha : okA ts As) : sG (fun h x (q : Θ × Unit) => E h x q.1 ∧ RC cA h x (p9 (prz q.1).2)) l D tys A X cA fr lo 0 0 M x As op an (fun σ q => (on σ q.1, q.2)) (fun q v => bn q.1 v ∧ True) :=
  sG_keep (F := fun h x (θ : Θ) (_ : Unit) => RC cA h x (p9 (prz θ).2)) RC_ag (fun Sg h h1 σ θ _ hH _ u sx H => by
    show RC cA h1 x (p9 (prz (on σ θ)).2)
    rw [ho]
    exact RC.U hH u hw sx H) hs hc hm ha
theorem kRR_U {mi mi2 fr1 lo1 fr2 lo2 : Nat} {ts ts2 : List k_T} {ra rb ra2 rb2 : Int} {W W2 : List (Nat × Nat)} (hw : okRv W = true) (hw2 : okRv W2 = true) (hs : tG E l D tys A X cA fr lo 0 0 M m As op an on bn) (ho : ∀ σ θ, p9 (prz (on σ θ)).2 = p9 (prz θ).2) (hc : ∀ Sg, k_sat l D tys A X Sg cA Lb (mi, (2, 50, 0) :: ts, [], some (0, ra, rb), W, fr1, lo1)) (hc2 : ∀ Sg, k_sat l D tys A X Sg cA Lb (mi2, (2, 70, 0) :: ts2, [], some (0, ra2, rb2), W2, fr2, lo2)) (hm : k_pM mi = M) (hm2 : k_pM mi2 = M) (ha : okA ts As) (ha2 : okA ts2 As) (hf : fr1 ≤ fr ∧ fr2 ≤ fr) (hl : lo1 ≤ lo ∧ lo2 ≤ lo) : tG (fun h x (q : Θ × Unit) => E h x q.1 ∧ RR cA h x (p9 (prz q.1).2)) l D tys A X cA fr lo 0 0 M m As op an (fun σ q => (on σ q.1, q.2)) (fun q v => bn q.1 v ∧ True) :=
  tG_keep (F := fun h x (θ : Θ) (_ : Unit) => RR cA h x (p9 (prz θ).2)) RR_ag (fun Sg h h1 σ θ _ hH _ u sm H => by
    show RR cA h1 m (p9 (prz (on σ θ)).2)
    rw [ho]
    rcases u with u | u
    · exact RR.U hH u hw sm H
    · exact RR.U hH u hw2 sm H) hs hc hc2 hm hm2 ha ha2 hf hl
theorem kCR_feed (hT : k_tys tys cA) (hE : ∀ h θ, E h x θ → FC cA h x (prz θ).1 (prz θ).2) {wa wb wc wd we : Int32} (hs : sG E l D tys A X cA fr lo 0 0 mX10_feed x [.int wa, .int wb, .int wc, .int wd, .int we] op an on bn) (ho : ∀ σ θ, p9 (prz (on σ θ)).2 = p9 (prz θ).2) (hf : 1 ≤ fr) (hl : 30 ≤ lo) : sG (fun h x (q : Θ × Unit) => E h x q.1 ∧ RC cA h x (p9 (prz q.1).2)) l D tys A X cA fr lo 0 0 mX10_feed x [.int wa, .int wb, .int wc, .int wd, .int we] op an (fun σ q => (on σ q.1, q.2)) (fun q v => bn q.1 v ∧ True) := by
  refine sG_add (F := fun h x (θ : Θ) (_ : Unit) => RC cA h x (p9 (prz θ).2)) (on2 := fun _ _ u => u) (bn2 := fun _ _ _ => True) RC_ag hs (fun Sg h σ θ _ hH sm hC hE9 hf9 => ?_)
  refine tt_room hf hl (tt_mono (fun v g H => ⟨?_, trivial⟩) (kU_feed hT hH sm hC (hE h θ hE9) hf9))
  show RC cA g x (p9 (prz (on σ θ)).2)
  rw [ho]
  exact H.1
theorem kRR_feed (hT : k_tys tys cA) (hE : ∀ h θ, E h m θ → FR cA h m (prz θ).1 (prz θ).2) {wa wb wc wd we : Int32} (hs : tG E l D tys A X cA fr lo 0 0 mX11_feed m [.int wa, .int wb, .int wc, .int wd, .int we] op an on bn) (ho : ∀ σ θ, p9 (prz (on σ θ)).2 = p9 (prz θ).2) (hf : 1 ≤ fr) (hl : 30 ≤ lo) : tG (fun h x (q : Θ × Unit) => E h x q.1 ∧ RR cA h x (p9 (prz q.1).2)) l D tys A X cA fr lo 0 0 mX11_feed m [.int wa, .int wb, .int wc, .int wd, .int we] op an (fun σ q => (on σ q.1, q.2)) (fun q v => bn q.1 v ∧ True) := by
  refine tG_add (F := fun h x (θ : Θ) (_ : Unit) => RR cA h x (p9 (prz θ).2)) (on2 := fun _ _ u => u) (bn2 := fun _ _ _ => True) RR_ag hs (fun Sg h σ θ _ hH sm hC hE9 hf9 => ?_)
  refine tt_room hf hl (tt_mono (fun v g H => ⟨?_, trivial⟩) (kV_feed hT hH sm hC (hE h θ hE9) hf9))
  show RR cA g m (p9 (prz (on σ θ)).2)
  rw [ho]
  exact H.1
theorem kCR_end (hT : k_tys tys cA) (hE : ∀ h θ, E h x θ → FC cA h x (prz θ).1 (prz θ).2) {n9 : Int32} (hs : sG E l D tys A X cA fr lo 0 0 mX10_end x [.int n9] op an on bn) (ho : ∀ σ θ, p9 (prz (on σ θ)).2 = p9 (prz θ).2) (hf : 1 ≤ fr) (hl : 30 ≤ lo) : sG (fun h x (q : Θ × Unit) => E h x q.1 ∧ RC cA h x (p9 (prz q.1).2)) l D tys A X cA fr lo 0 0 mX10_end x [.int n9] op an (fun σ q => (on σ q.1, q.2)) (fun q v => bn q.1 v ∧ True) := by
  refine sG_add (F := fun h x (θ : Θ) (_ : Unit) => RC cA h x (p9 (prz θ).2)) (on2 := fun _ _ u => u) (bn2 := fun _ _ _ => True) RC_ag hs (fun Sg h σ θ _ hH sm hC hE9 hf9 => ?_)
  refine tt_room hf hl (tt_mono (fun v g H => ⟨?_, trivial⟩) (kU_end  hH sm hC (hE h θ hE9) hf9))
  show RC cA g x (p9 (prz (on σ θ)).2)
  rw [ho]
  exact H.1
theorem kRR_end (hT : k_tys tys cA) (hE : ∀ h θ, E h m θ → FR cA h m (prz θ).1 (prz θ).2) {n9 : Int32} (hs : tG E l D tys A X cA fr lo 0 0 mX11_end m [.int n9] op an on bn) (ho : ∀ σ θ, p9 (prz (on σ θ)).2 = p9 (prz θ).2) (hf : 1 ≤ fr) (hl : 30 ≤ lo) : tG (fun h x (q : Θ × Unit) => E h x q.1 ∧ RR cA h x (p9 (prz q.1).2)) l D tys A X cA fr lo 0 0 mX11_end m [.int n9] op an (fun σ q => (on σ q.1, q.2)) (fun q v => bn q.1 v ∧ True) := by
  refine tG_add (F := fun h x (θ : Θ) (_ : Unit) => RR cA h x (p9 (prz θ).2)) (on2 := fun _ _ u => u) (bn2 := fun _ _ _ => True) RR_ag hs (fun Sg h σ θ _ hH sm hC hE9 hf9 => ?_)
  refine tt_room hf hl (tt_mono (fun v g H => ⟨?_, trivial⟩) (kV_end hT hH sm hC (hE h θ hE9) hf9))
  show RR cA g m (p9 (prz (on σ θ)).2)
  rw [ho]
  exact H.1
theorem kCR_fault (hT : k_tys tys cA) (hE : ∀ h θ, E h x θ → FC cA h x (prz θ).1 (prz θ).2) {so : Int32} (hs : sG E l D tys A X cA fr lo 0 0 mX10_fault x [.int so] op an on bn) (ho : ∀ σ θ, p9 (prz (on σ θ)).2 = p9 (prz θ).2) (hf : 40 ≤ fr) (hl : 1120 ≤ lo) : sG (fun h x (q : Θ × Unit) => E h x q.1 ∧ RC cA h x (p9 (prz q.1).2)) l D tys A X cA fr lo 0 0 mX10_fault x [.int so] op an (fun σ q => (on σ q.1, q.2)) (fun q v => bn q.1 v ∧ True) := by
  refine sG_add (F := fun h x (θ : Θ) (_ : Unit) => RC cA h x (p9 (prz θ).2)) (on2 := fun _ _ u => u) (bn2 := fun _ _ _ => True) RC_ag hs (fun Sg h σ θ _ hH sm hC hE9 hf9 => ?_)
  refine tt_room hf hl (tt_mono (fun v g H => ⟨?_, trivial⟩) (kU_fault hT hH sm hC (hE h θ hE9) hf9))
  show RC cA g x (p9 (prz (on σ θ)).2)
  rw [ho]
  exact H.1
theorem kRR_fault (hT : k_tys tys cA) (hX : ∀ s, X s → xs A aK aV s) (hE : ∀ h θ, E h m θ → FR cA h m (prz θ).1 (prz θ).2) {so : Int32} (hs : tG E l D tys A X cA fr lo 0 0 mX11_fault m [.int so] op an on bn) (ho : ∀ σ θ, p9 (prz (on σ θ)).2 = p9 (prz θ).2) (hf : 40 ≤ fr) (hl : 1120 ≤ lo) : tG (fun h x (q : Θ × Unit) => E h x q.1 ∧ RR cA h x (p9 (prz q.1).2)) l D tys A X cA fr lo 0 0 mX11_fault m [.int so] op an (fun σ q => (on σ q.1, q.2)) (fun q v => bn q.1 v ∧ True) := by
  refine tG_add (F := fun h x (θ : Θ) (_ : Unit) => RR cA h x (p9 (prz θ).2)) (on2 := fun _ _ u => u) (bn2 := fun _ _ _ => True) RR_ag hs (fun Sg h σ θ _ hH sm hC hE9 hf9 => ?_)
  refine tt_room hf hl (tt_mono (fun v g H => ⟨?_, trivial⟩) (kV_fault hT hX hH sm hC (hE h θ hE9) hf9))
  show RR cA g m (p9 (prz (on σ θ)).2)
  rw [ho]
  exact H.1
theorem kCR_text (hT : k_TX tys cA A X) (hN : k_NX X) (hE : ∀ h θ, E h x θ → FC cA h x (prz θ).1 (prz θ).2) {so : Int32} {seed : Int64} (hs : sG E l D tys A X cA fr lo 3 259 mX10_text x [.int so, .long seed] op an on bn) (ho : ∀ σ θ, (prz (on σ θ)).2 = k9_text so seed σ (prz θ).2) (hf : 44 ≤ fr) (hl : 1300 ≤ lo) : sG (fun h x (q : Θ × Unit) => E h x q.1 ∧ RC cA h x (p9 (prz q.1).2)) l D tys A X cA fr lo 3 259 mX10_text x [.int so, .long seed] op an (fun σ q => (on σ q.1, q.2)) (fun q v => bn q.1 v ∧ True) := by
  refine sG_add (F := fun h x (θ : Θ) (_ : Unit) => RC cA h x (p9 (prz θ).2)) (on2 := fun _ _ u => u) (bn2 := fun _ _ _ => True) RC_ag hs (fun Sg h σ θ _ hH sm hC hE9 hf9 => ?_)
  refine tt_room hf hl (tt_mono (fun v g H => ⟨?_, trivial⟩) (kU_text hT hN hH sm hC (hE h θ hE9) hf9))
  show RC cA g x (p9 (prz (on σ θ)).2)
  rw [ho]
  exact H.1
theorem kRR_text (hT : k_tys tys cA) (hX : ∀ s, X s → xs A aK aV s) (hE : ∀ h θ, E h m θ → FR cA h m (prz θ).1 (prz θ).2) {so : Int32} {seed : Int64} (hs : tG E l D tys A X cA fr lo 0 0 mX11_text m [.int so, .long seed] op an on bn) (ho : ∀ σ θ, (prz (on σ θ)).2 = k9_text so seed σ (prz θ).2) (hf : 60 ≤ fr) (hl : 2000 ≤ lo) : tG (fun h x (q : Θ × Unit) => E h x q.1 ∧ RR cA h x (p9 (prz q.1).2)) l D tys A X cA fr lo 0 0 mX11_text m [.int so, .long seed] op an (fun σ q => (on σ q.1, q.2)) (fun q v => bn q.1 v ∧ True) := by
  refine tG_add (F := fun h x (θ : Θ) (_ : Unit) => RR cA h x (p9 (prz θ).2)) (on2 := fun _ _ u => u) (bn2 := fun _ _ _ => True) RR_ag hs (fun Sg h σ θ _ hH sm hC hE9 hf9 => ?_)
  refine tt_room hf hl (tt_mono (fun v g H => ⟨?_, trivial⟩) (kV_text hT hX hH sm hC (hE h θ hE9) hf9))
  show RR cA g m (p9 (prz (on σ θ)).2)
  rw [ho]
  exact H.1
end
