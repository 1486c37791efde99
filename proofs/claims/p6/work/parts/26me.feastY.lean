/-! the reference's feast from typed heaps; all calls, with the rows -/
section
variable {l : Launch} {D : va_G} {tys : List (ClassId × FieldType)} {A : Nat → Prop} {X : State → Prop} {fr lo : Nat} {cA : Nat → ClassId} {Sg : Nat → Option Nat} {h : ch_H} {m : Nat} {ρ : aRw} {τ : aN}
theorem lab26 {fs : List Value} (hH : k_H Sg cA Lb h) (sm : sgM0 Sg m) (c_m : h m = some (.inr (10, fs))) : ∃ (wa kw : Nat) (gw gk : Nat → Int32), fs.length = 47 ∧ fs[26]? = some (.ref wa) ∧ fs[46]? = some (.ref kw) ∧ Sg wa = some 60 ∧ Sg kw = some 68 ∧ h wa = some (.inl (cA 0, 12, .inl gw)) ∧ h kw = some (.inl (cA 0, 12, .inl gk)) := by
  rcases sm with sm | sm
  · obtain ⟨fs2, c, l, ty⟩ := hH.obj sm (L := 50) rfl
    rw [c_m] at c
    cases c
    obtain ⟨v1, e1, t1⟩ := ty 26 _ rfl
    obtain ⟨wa, rfl, s1⟩ := k_v.ref t1
    obtain ⟨v2, e2, t2⟩ := ty 46 _ rfl
    obtain ⟨kw, rfl, s2⟩ := k_v.ref t2
    obtain ⟨gw, c1, -⟩ := hH.arr s1 (L := 60) rfl
    obtain ⟨gk, c2, -⟩ := hH.arr s2 (L := 68) rfl
    exact ⟨wa, kw, gw, gk, l, e1, e2, s1, s2, c1, c2⟩
  · obtain ⟨fs2, c, l, ty⟩ := hH.obj sm (L := 70) rfl
    rw [c_m] at c
    cases c
    obtain ⟨v1, e1, t1⟩ := ty 26 _ rfl
    obtain ⟨wa, rfl, s1⟩ := k_v.ref t1
    obtain ⟨v2, e2, t2⟩ := ty 46 _ rfl
    obtain ⟨kw, rfl, s2⟩ := k_v.ref t2
    obtain ⟨gw, c1, -⟩ := hH.arr s1 (L := 60) rfl
    obtain ⟨gk, c2, -⟩ := hH.arr s2 (L := 68) rfl
    exact ⟨wa, kw, gw, gk, l, e1, e2, s1, s2, c1, c2⟩
theorem x_feast (hT : k_tys tys cA) {w : Int32} (hH : k_H Sg cA Lb h) (sm : sgM Sg m) (Hb : bR h m τ) (H : rR cA h m τ.1 ρ) (hf : 16 ≤ fr) (hl : 600 ≤ lo) : ww l D tys A X fr lo mX11_feast (fun v g => rR cA g m τ.1 ρ ∧ b_feast w τ ρ v) 0 [(0, .ref m), (1, .int w)] [] h := by
  obtain ⟨fs, n, ga, pe, ta, c_m, f20, -, -, -, e0, -⟩ := Hb
  obtain ⟨wf, fs9, ro, R, c9, f19, c_ro, e⟩ := H
  rw [c_m] at c9
  cases c9
  obtain ⟨wa, kw, gw, gk, fl, f26, f46, s3, s4, c_wa, c_kw⟩ := lab26 hH sm.1 c_m
  have nd : (ro ≠ m ∧ wa ≠ m ∧ kw ≠ m) ∧ (m ≠ wa ∧ ro ≠ wa ∧ kw ≠ wa) ∧ m ≠ kw ∧ ro ≠ kw ∧ wa ≠ kw := by
    rcases sm.1 with s1 | s1 <;> rcases (lab19 hH sm.1 c_m f19).1 with s2 | s2 <;> exact ⟨⟨k_sg_ne s2 s1 (by decide), k_sg_ne s3 s1 (by decide), k_sg_ne s4 s1 (by decide)⟩, ⟨k_sg_ne s1 s3 (by decide), k_sg_ne s2 s3 (by decide), k_sg_ne s4 s3 (by decide)⟩, k_sg_ne s1 s4 (by decide), k_sg_ne s2 s4 (by decide), k_sg_ne s3 s4 (by decide)⟩
  have h6 := wf.1
  have hnn : n.toInt.toNat = τ.1 := by omega
  refine r_feast hT f19 f20 f26 f46 nd (by omega) (by rw [hnn]; exact wf) (by rw [hnn]; exact e) fl c_m c_ro c_wa c_kw hf hl (fun g v fs1 q1 q2 q3 q4 => ⟨⟨wf, fs1, ro, R, q2, q3, (q4 ro ⟨nd.1.1, nd.2.1.2.1, nd.2.2.2.1⟩).trans c_ro, e⟩, v, rfl, ?_⟩)
  rw [← hnn]
  exact q1
end
abbrev aQ : Type := aN × aRw
def fC (cA : Nat → ClassId) (h : ch_H) (x : Nat) (τ : aN) (ρ : aRw) : Prop := rC cA h x τ.1 ρ ∧ dC cA h x
def fR (cA : Nat → ClassId) (h : ch_H) (m : Nat) (τ : aN) (ρ : aRw) : Prop := rR cA h m τ.1 ρ
def eC (cA : Nat → ClassId) (h : ch_H) (x : Nat) (q : aQ) : Prop := bC h x q.1 ∧ fC cA h x q.1 q.2
def eR (cA : Nat → ClassId) (h : ch_H) (m : Nat) (q : aQ) : Prop := bR h m q.1 ∧ fR cA h m q.1 q.2
section
variable {Sg : Nat → Option Nat} {cA : Nat → ClassId} {h h1 : ch_H} {W : List (Nat × Nat)} {x m : Nat} {θ : aQ}
theorem eC.U (hH : k_H Sg cA Lb h) (u : k_U Sg W h h1) (h0 : okCn W = true) (h2 : okCr W = true) (h3 : okCd W = true) (sx : Sg x = some 0) (H : eC cA h x θ) : eC cA h1 x θ := ⟨H.1.U hH u h0 sx, H.2.1.U hH u h2 sx, H.2.2.U hH u h3 sx⟩
theorem eC.eq (hH : k_H Sg cA Lb h) (sx : Sg x = some 0) (o : ∀ a L, Sg a = some L → L < 50 → h1 a = h a) (H : eC cA h x θ) : eC cA h1 x θ := ⟨H.1.eq hH sx o, H.2.1.eq hH sx o, H.2.2.eq hH sx o⟩
theorem eR.eq (hH : k_H Sg cA Lb h) (sm : sgM0 Sg m) (o : ∀ a L, Sg a = some L → 50 ≤ L → h1 a = h a) (H : eR cA h m θ) : eR cA h1 m θ := ⟨H.1.eq sm o, H.2.eq hH sm o⟩
end
section
variable {l : Launch} {D : va_G} {tys : List (ClassId × FieldType)} {A : Nat → Prop} {X : State → Prop} {cA : Nat → ClassId} {x m : Nat} {As : List Value} {fr lo : Nat} {M : ch_M} {op : aS → aS} {an : aS → Option Value → Prop} {on : oN} {bn : bN}
theorem fC_ag : agF cA (fC cA) x := fun Sg g g2 θ φ hH sx a ai ar H => ⟨H.1.ag hH sx a ai, H.2.ag hH sx a ar⟩
theorem fR_ag : agT cA (fR cA) m := fun Sg g g2 θ φ hH sm a ai ar H => rR.ag hH sm a ai H
/-- by a contract -/
theorem zC {mi : Nat} {ts : List k_T} {ra rb : Int} {W : List (Nat × Nat)} (hs : sC l D tys A X cA fr lo 0 0 M x As op an on bn) (h1 : ∀ σ τ, (on σ τ).1 = τ.1) (hc : ∀ Sg, k_sat l D tys A X Sg cA Lb (mi, (2, 0, 0) :: ts, [], some (0, ra, rb), W, fr, lo)) (hm : k_pM mi = M) (hwr : okCr W = true) (hwd : okCd W = true) (ha : okA ts As) : sG (eC cA) l D tys A X cA fr lo 0 0 M x As op an (fun σ q => (on σ q.1, q.2)) (fun q v => bn q.1 v ∧ True) :=
  sG_keep (F := fC cA) fC_ag (fun Sg h h9 σ θ φ hH _ u sx H => ⟨by rw [h1 σ θ]; exact H.1.U hH u hwr sx, H.2.U hH u hwd sx⟩) (sG_of hs) hc hm ha
theorem zR {mi mi2 fr1 lo1 fr2 lo2 : Nat} {ts ts2 : List k_T} {ra rb ra2 rb2 : Int} {W W2 : List (Nat × Nat)} (hs : sR l D tys A X cA fr lo 0 0 M m As op an on bn) (h1 : ∀ σ τ, (on σ τ).1 = τ.1) (hc : ∀ Sg, k_sat l D tys A X Sg cA Lb (mi, (2, 50, 0) :: ts, [], some (0, ra, rb), W, fr1, lo1)) (hc2 : ∀ Sg, k_sat l D tys A X Sg cA Lb (mi2, (2, 70, 0) :: ts2, [], some (0, ra2, rb2), W2, fr2, lo2)) (hm : k_pM mi = M) (hm2 : k_pM mi2 = M) (hw : okRr W = true) (hw2 : okRr W2 = true) (ha : okA ts As) (ha2 : okA ts2 As) (hf : fr1 ≤ fr ∧ fr2 ≤ fr) (hl : lo1 ≤ lo ∧ lo2 ≤ lo) : tG (eR cA) l D tys A X cA fr lo 0 0 M m As op an (fun σ q => (on σ q.1, q.2)) (fun q v => bn q.1 v ∧ True) :=
  tG_keep (F := fR cA) fR_ag (fun Sg h h9 σ θ φ hH _ u sm H => by
    show rR cA h9 m (on σ θ).1 φ
    rw [h1 σ θ]
    rcases u with u | u
    · exact rR.U hH u hw sm H
    · exact rR.U hH u hw2 sm H) (tG_of hs) hc hc2 hm hm2 ha ha2 hf hl
theorem sG_room {Θ : Type} {E : ch_H → Nat → Θ → Prop} {fr' lo' : Nat} {on : aS → Θ → Θ} {bn : Θ → Option Value → Prop} (hf : fr ≤ fr') (hl : lo ≤ lo') (hs : sG E l D tys A X cA fr lo 0 0 M x As op an on bn) : sG E l D tys A X cA fr' lo' 0 0 M x As op an on bn := fun Sg h σ a b c => tt_room hf hl (hs Sg h σ a b c)
theorem zC_feed (hT : k_tys tys cA) {wa wb wc wd we : Int32} : sG (eC cA) l D tys A X cA 1 30 0 0 mX10_feed x [.int wa, .int wb, .int wc, .int wd, .int we] (o_feed wa wb wc wd we) (a_feed wa wb wc wd we) (fun σ q => (idN σ q.1, q.2)) (fun q v => noN q.1 v ∧ True) :=
  sG_add (F := fC cA) (on2 := fun _ _ φ => φ) (bn2 := fun _ _ _ => True) fC_ag (sG_of (sC_feed hT)) (fun Sg h σ θ φ hH sx hC _ H => y_feed hT hH sx hC H.1 H.2)
theorem zC_end {n : Int32} : sG (eC cA) l D tys A X cA 1 30 0 0 mX10_end x [.int n] (o_end n) (a_end n) (fun σ q => (idN σ q.1, q.2)) (fun q v => noN q.1 v ∧ True) :=
  sG_add (F := fC cA) (on2 := fun _ _ φ => φ) (bn2 := fun _ _ _ => True) fC_ag (sG_of sC_end) (fun Sg h σ θ φ hH sx hC _ H => y_end hH sx hC H.1 H.2)
theorem zC_fault (hT : k_tys tys cA) {so : Int32} : sG (eC cA) l D tys A X cA 40 1120 0 0 mX10_fault x [.int so] (fun σ => σ) (a_fault so) (fun σ q => (idN σ q.1, q.2)) (fun q v => noN q.1 v ∧ True) :=
  sG_add (F := fC cA) (on2 := fun _ _ φ => φ) (bn2 := fun _ _ _ => True) fC_ag (sG_of (sC_fault hT)) (fun Sg h σ θ φ hH sx hC _ H => y_fault hT hH sx hC H.1 H.2)
theorem zC_text (hT : k_TX tys cA A X) (hN : k_NX X) {so : Int32} {seed : Int64} : sG (eC cA) l D tys A X cA 44 1300 3 259 mX10_text x [.int so, .long seed] (o_text so) (a_text so) (fun σ q => (n_text so σ q.1, r_text so σ q.2)) (fun q v => noN q.1 v ∧ True) :=
  sG_add (F := fC cA) (on2 := fun σ _ φ => r_text so σ φ) (bn2 := fun _ _ _ => True) fC_ag (sG_of (sC_text hT hN)) (fun Sg h σ θ φ hH sx hC _ H => y_text hT hN hH sx hC H.1 H.2)
theorem zC_feast (hT : k_TX tys cA A X) {w : Int32} : sG (eC cA) l D tys A X cA 100 6000 0 0 mX10_feast x [.int w] (fun σ => σ) (fun _ v => isI v) (fun σ q => (idN σ q.1, q.2)) (fun q v => noN q.1 v ∧ b_feast w q.1 q.2 v) :=
  sG_add (F := fC cA) (on2 := fun _ _ φ => φ) (bn2 := fun τ ρ v => b_feast w τ ρ v) fC_ag (sG_room (by decide) (by decide) (sG_of (sC_id (As := [.int w]) (fun Sg => sat_93 hT) rfl (by decide) (by decide) ⟨asT _, trivial⟩))) (fun Sg h σ θ φ hH sx _ hb H => by
    show ww l D tys A X 100 6000 mX10_feast _ 0 [(0, .ref x), (1, .int w)] [] h
    exact y_feast hT.1 hH sx hb H.1 H.2 (by decide) (by decide))
theorem zR_feed (hT : k_tys tys cA) {wa wb wc wd we : Int32} : tG (eR cA) l D tys A X cA 1 30 0 0 mX11_feed m [.int wa, .int wb, .int wc, .int wd, .int we] (o_feed wa wb wc wd we) (a_feed wa wb wc wd we) (fun σ q => (idN σ q.1, q.2)) (fun q v => noN q.1 v ∧ True) :=
  tG_add (F := fR cA) (on2 := fun _ _ φ => φ) (bn2 := fun _ _ _ => True) fR_ag (tG_of (sR_feed hT)) (fun Sg h σ θ φ hH sm hR _ H => x_feed hT hH sm hR H)
theorem zR_end {n : Int32} : tG (eR cA) l D tys A X cA 1 30 0 0 mX11_end m [.int n] (o_end n) (a_end n) (fun σ q => (idN σ q.1, q.2)) (fun q v => noN q.1 v ∧ True) :=
  tG_add (F := fR cA) (on2 := fun _ _ φ => φ) (bn2 := fun _ _ _ => True) fR_ag (tG_of sR_end) (fun Sg h σ θ φ hH sm hR _ H => x_end hH sm hR H)
theorem zR_fault (hT : k_tys tys cA) {aK aV : Nat → Nat} (hX : ∀ s, X s → xs A aK aV s) {so : Int32} : tG (eR cA) l D tys A X cA 40 1120 0 0 mX11_fault m [.int so] (fun σ => σ) (a_fault so) (fun σ q => (idN σ q.1, q.2)) (fun q v => noN q.1 v ∧ True) :=
  tG_add (F := fR cA) (on2 := fun _ _ φ => φ) (bn2 := fun _ _ _ => True) fR_ag (tG_of (sR_fault hT hX)) (fun Sg h σ θ φ hH sm hR _ H => x_fault hT hX hH sm hR H)
theorem zR_text (hT : k_tys tys cA) {aK aV : Nat → Nat} (hX : ∀ s, X s → xs A aK aV s) {so : Int32} {seed : Int64} : tG (eR cA) l D tys A X cA 60 2000 0 0 mX11_text m [.int so, .long seed] (o_text so) (a_text so) (fun σ q => (n_text so σ q.1, r_text so σ q.2)) (fun q v => noN q.1 v ∧ True) :=
  tG_add (F := fR cA) (on2 := fun σ _ φ => r_text so σ φ) (bn2 := fun _ _ _ => True) fR_ag (tG_of (sR_text hT hX)) (fun Sg h σ θ φ hH sm hR _ H => x_text hT hX hH sm hR H)
theorem zR_feast (hT : k_TX tys cA A X) {w : Int32} : tG (eR cA) l D tys A X cA 100 6000 0 0 mX11_feast m [.int w] (fun σ => σ) (fun _ v => isI v) (fun σ q => (idN σ q.1, q.2)) (fun q v => noN q.1 v ∧ b_feast w q.1 q.2 v) :=
  tG_add (F := fR cA) (on2 := fun _ _ φ => φ) (bn2 := fun τ ρ v => b_feast w τ ρ v) fR_ag (tG_of (sR_id (As := [.int w]) (frr := 100) (loo := 6000) (fun Sg => sat_224 hT) (fun Sg => sat_276 hT) rfl rfl (by decide) (by decide) (by decide) (by decide) ⟨asT _, trivial⟩ ⟨asT _, trivial⟩ ⟨by decide, by decide⟩ ⟨by decide, by decide⟩)) (fun Sg h σ θ φ hH sm _ hb H => by
    show ww l D tys A X 100 6000 mX11_feast _ 0 [(0, .ref m), (1, .int w)] [] h
    exact x_feast hT.1 hH sm hb H (by decide) (by decide))
theorem n_gallery_1 (p : Int32) (σ : aS) (τ : aN) : (n_gallery p τ).1 = τ.1 := by
  unfold n_gallery
  split <;> rfl
theorem n_person_1 (p y : Int32) (σ : aS) (τ : aN) : (n_person p y τ).1 = τ.1 := by
  unfold n_person
  split <;> rfl
theorem n_task_1 (p y : Int32) (σ : aS) (τ : aN) : (n_task p y τ).1 = τ.1 := by
  unfold n_task
  split <;> rfl
end
