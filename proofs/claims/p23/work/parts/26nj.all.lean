/-! all calls, with WANTED -/
abbrev aP : Type := aQ × aWn
def hC (cA : Nat → ClassId) (h : ch_H) (x : Nat) (q : aQ) (wn : aWn) : Prop := wC cA h x q.1.1 wn
def hR (cA : Nat → ClassId) (h : ch_H) (m : Nat) (q : aQ) (wn : aWn) : Prop := wR cA h m q.1.1 wn
def gC (cA : Nat → ClassId) (h : ch_H) (x : Nat) (q : aP) : Prop := eC cA h x q.1 ∧ hC cA h x q.1 q.2
def gR (cA : Nat → ClassId) (h : ch_H) (m : Nat) (q : aP) : Prop := eR cA h m q.1 ∧ hR cA h m q.1 q.2
section
variable {Sg : Nat → Option Nat} {cA : Nat → ClassId} {h h1 : ch_H} {W : List (Nat × Nat)} {x m : Nat} {θ : aP}
theorem gC.U (hH : k_H Sg cA Lb h) (u : k_U Sg W h h1) (h0 : okCn W = true) (h2 : okCr W = true) (h3 : okCd W = true) (h4 : okCw W = true) (sx : Sg x = some 0) (H : gC cA h x θ) : gC cA h1 x θ := ⟨H.1.U hH u h0 h2 h3 sx, wC.U hH u h4 sx H.2⟩
theorem gC.eq (hH : k_H Sg cA Lb h) (sx : Sg x = some 0) (o : ∀ a L, Sg a = some L → L < 50 → h1 a = h a) (H : gC cA h x θ) : gC cA h1 x θ := ⟨H.1.eq hH sx o, wC.eq hH sx o H.2⟩
theorem gR.eq (hH : k_H Sg cA Lb h) (sm : sgM0 Sg m) (o : ∀ a L, Sg a = some L → 50 ≤ L → h1 a = h a) (H : gR cA h m θ) : gR cA h1 m θ := ⟨H.1.eq hH sm o, wR.eq hH sm o H.2⟩
end
section
variable {Θ : Type} {l : Launch} {D : va_G} {tys : List (ClassId × FieldType)} {A : Nat → Prop} {X : State → Prop} {cA : Nat → ClassId} {fr lo mc ms : Nat} {M : ch_M} {x m : Nat} {As : List Value} {op : aS → aS} {an : aS → Option Value → Prop} {E : ch_H → Nat → Θ → Prop} {on : aS → Θ → Θ} {bn bn2 : Θ → Option Value → Prop}
/-- what a further walk says of the answer -/
theorem sG_ans (hs : sG E l D tys A X cA fr lo mc ms M x As op an on bn) (wk : ∀ (Sg : Nat → Option Nat) (h : ch_H) (σ : aS) (θ : Θ), k_H Sg cA Lb h → Sg x = some 0 → aC cA h x σ → E h x θ → tt l D tys A X fr lo mc ms M (fun v _ => bn2 θ v) 0 (lv_args 0 (.ref x :: As)) [] h 0 0) : sG E l D tys A X cA fr lo mc ms M x As op an on (fun θ v => bn θ v ∧ bn2 θ v) := by
  intro Sg h σ hH sx hC
  refine tt_mono (fun v g H => ?_) (tt_alls (I := Θ) (P := fun q => E h x q) (hs Sg h σ hH sx hC) (fun q hq => wk Sg h σ q hH sx hC hq))
  obtain ⟨⟨Sg1, q1, q2, q3, q4, q5, q6⟩, q7⟩ := H
  refine ⟨Sg1, q1, q2, q3, q4, fun q hq => ?_, q6⟩
  obtain ⟨g2, a1, a2, a3, b1⟩ := q7 q hq
  exact ⟨(q5 q hq).1, (q5 q hq).2, b1⟩
theorem tG_ans (hs : tG E l D tys A X cA fr lo mc ms M m As op an on bn) (wk : ∀ (Sg : Nat → Option Nat) (h : ch_H) (σ : aS) (θ : Θ), k_H Sg cA Lb h → sgM Sg m → aR cA h m σ → E h m θ → tt l D tys A X fr lo mc ms M (fun v _ => bn2 θ v) 0 (lv_args 0 (.ref m :: As)) [] h 0 0) : tG E l D tys A X cA fr lo mc ms M m As op an on (fun θ v => bn θ v ∧ bn2 θ v) := by
  intro Sg h σ hH sm hR
  refine tt_mono (fun v g H => ?_) (tt_alls (I := Θ) (P := fun q => E h m q) (hs Sg h σ hH sm hR) (fun q hq => wk Sg h σ q hH sm hR hq))
  obtain ⟨⟨Sg1, q1, q2, q3, q4, q5, q6⟩, q7⟩ := H
  refine ⟨Sg1, q1, q2, q3, q4, fun q hq => ?_, q6⟩
  obtain ⟨g2, a1, a2, a3, b1⟩ := q7 q hq
  exact ⟨(q5 q hq).1, (q5 q hq).2, b1⟩
theorem tG_room {fr' lo' : Nat} (hf : fr ≤ fr') (hl : lo ≤ lo') (hs : tG E l D tys A X cA fr lo 0 0 M m As op an on bn) : tG E l D tys A X cA fr' lo' 0 0 M m As op an on bn := fun Sg h σ a b c => tt_room hf hl (hs Sg h σ a b c)
end
section
variable {l : Launch} {D : va_G} {tys : List (ClassId × FieldType)} {A : Nat → Prop} {X : State → Prop} {cA : Nat → ClassId} {x m : Nat} {As : List Value} {fr lo : Nat} {M : ch_M} {op : aS → aS} {an : aS → Option Value → Prop} {on : aS → aQ → aQ} {bn : aQ → Option Value → Prop}
theorem hC_ag : agF cA (hC cA) x := fun Sg g g2 θ φ hH sx a ai ar H => wC.ag hH sx a ai H
theorem hR_ag : agT cA (hR cA) m := fun Sg g g2 θ φ hH sm a ai ar H => wR.ag hH sm a ai H
theorem vC {mi fr1 lo1 : Nat} {ts : List k_T} {ra rb : Int} {W : List (Nat × Nat)} (hs : sG (eC cA) l D tys A X cA fr lo 0 0 M x As op an on bn) (h1 : ∀ σ q, (on σ q).1.1 = q.1.1) (hc : ∀ Sg, k_sat l D tys A X Sg cA Lb (mi, (2, 0, 0) :: ts, [], some (0, ra, rb), W, fr1, lo1)) (hm : k_pM mi = M) (hw : okCw W = true) (ha : okA ts As) (hf : fr1 ≤ fr) (hl : lo1 ≤ lo) : sG (gC cA) l D tys A X cA fr lo 0 0 M x As op an (fun σ q => (on σ q.1, q.2)) (fun q v => bn q.1 v ∧ True) := by
  refine sG_add (F := hC cA) (on2 := fun _ _ φ => φ) (bn2 := fun _ _ _ => True) hC_ag hs (fun Sg h σ θ φ hH sx _ _ hf9 => ?_)
  obtain ⟨q1, q2⟩ := ha.at_ (Sg := Sg)
  have k := hc Sg h (.ref x :: As) hH (by simp [q1]) (fun i t hi => by
    match i, hi with
    | 0, hi => cases hi; exact ⟨_, rfl, x, rfl, sx⟩
    | i + 1, hi => exact q2 i t hi) (fun q hq => absurd hq List.not_mem_nil)
  rw [hm] at k
  exact tt_room hf hl (tt_mono (fun v g H => ⟨by show wC cA g x (on σ θ).1.1 φ; rw [h1 σ θ]; exact wC.U hH H.2.1 hw sx hf9, trivial⟩) k)
theorem vR {mi mi2 fr1 lo1 fr2 lo2 : Nat} {ts ts2 : List k_T} {ra rb ra2 rb2 : Int} {W W2 : List (Nat × Nat)} (hs : tG (eR cA) l D tys A X cA fr lo 0 0 M m As op an on bn) (h1 : ∀ σ q, (on σ q).1.1 = q.1.1) (hc : ∀ Sg, k_sat l D tys A X Sg cA Lb (mi, (2, 50, 0) :: ts, [], some (0, ra, rb), W, fr1, lo1)) (hc2 : ∀ Sg, k_sat l D tys A X Sg cA Lb (mi2, (2, 70, 0) :: ts2, [], some (0, ra2, rb2), W2, fr2, lo2)) (hm : k_pM mi = M) (hm2 : k_pM mi2 = M) (hw : okRw W = true) (hw2 : okRw W2 = true) (ha : okA ts As) (ha2 : okA ts2 As) (hf : fr1 ≤ fr ∧ fr2 ≤ fr) (hl : lo1 ≤ lo ∧ lo2 ≤ lo) : tG (gR cA) l D tys A X cA fr lo 0 0 M m As op an (fun σ q => (on σ q.1, q.2)) (fun q v => bn q.1 v ∧ True) :=
  tG_keep (F := hR cA) hR_ag (fun Sg h h9 σ θ φ hH _ u sm H => by
    show wR cA h9 m (on σ θ).1.1 φ
    rw [h1 σ θ]
    rcases u with u | u
    · exact wR.U hH u hw sm H
    · exact wR.U hH u hw2 sm H) hs hc hc2 hm hm2 ha ha2 hf hl
theorem vC_feed (hT : k_tys tys cA) {wa wb wc wd we : Int32} : sG (gC cA) l D tys A X cA 1 30 0 0 mX10_feed x [.int wa, .int wb, .int wc, .int wd, .int we] (o_feed wa wb wc wd we) (a_feed wa wb wc wd we) (fun σ q => ((idN σ q.1.1, q.1.2), q.2)) (fun q v => (noN q.1.1 v ∧ True) ∧ True) :=
  sG_add (F := hC cA) (on2 := fun _ _ φ => φ) (bn2 := fun _ _ _ => True) hC_ag (zC_feed hT) (fun Sg h σ θ φ hH sx hC _ H => y_feedW hT hH sx hC H)
theorem vC_end {n : Int32} : sG (gC cA) l D tys A X cA 1 30 0 0 mX10_end x [.int n] (o_end n) (a_end n) (fun σ q => ((idN σ q.1.1, q.1.2), q.2)) (fun q v => (noN q.1.1 v ∧ True) ∧ True) :=
  sG_add (F := hC cA) (on2 := fun _ _ φ => φ) (bn2 := fun _ _ _ => True) hC_ag zC_end (fun Sg h σ θ φ hH sx hC _ H => y_endW hH sx hC H)
theorem vC_fault (hT : k_tys tys cA) {so : Int32} : sG (gC cA) l D tys A X cA 40 1120 0 0 mX10_fault x [.int so] (fun σ => σ) (a_fault so) (fun σ q => ((idN σ q.1.1, q.1.2), q.2)) (fun q v => (noN q.1.1 v ∧ True) ∧ True) :=
  sG_add (F := hC cA) (on2 := fun _ _ φ => φ) (bn2 := fun _ _ _ => True) hC_ag (zC_fault hT) (fun Sg h σ θ φ hH sx hC E H => y_faultW hT hH sx hC E.2.1 H)
theorem vC_text (hT : k_TX tys cA A X) (hN : k_NX X) {so : Int32} {seed : Int64} : sG (gC cA) l D tys A X cA 44 1300 3 259 mX10_text x [.int so, .long seed] (o_text so) (a_text so) (fun σ q => ((n_text so σ q.1.1, r_text so σ q.1.2), w_text so σ q.2)) (fun q v => (noN q.1.1 v ∧ True) ∧ True) :=
  sG_add (F := hC cA) (on2 := fun σ _ φ => w_text so σ φ) (bn2 := fun _ _ _ => True) hC_ag (zC_text hT hN) (fun Sg h σ θ φ hH sx hC E H => y_textW hT hN hH sx hC E.2.1 H)
theorem vC_feast (hT : k_TX tys cA A X) {w : Int32} : sG (gC cA) l D tys A X cA 100 6000 0 0 mX10_feast x [.int w] (fun σ => σ) (fun _ v => isI v) (fun σ q => ((idN σ q.1.1, q.1.2), q.2)) (fun q v => (noN q.1.1 v ∧ b_feast w q.1.1 q.1.2 v) ∧ True) :=
  vC (zC_feast hT) (fun _ _ => rfl) (fun Sg => sat_93 hT) rfl (by decide) ⟨asT _, trivial⟩ (by decide) (by decide)
def w_want (p y : Int32) (q : aQ) (wn : aWn) : aWn := if 0 ≤ p.toInt ∧ p.toInt < 2 * (q.1.1 : Int) ∧ -1 ≤ y.toInt ∧ y.toInt ≤ 200 then w_up wn p.toInt.toNat y.toInt else wn
theorem vC_want (hT : k_TX tys cA A X) {p y : Int32} : sG (gC cA) l D tys A X cA 1 21 0 0 mX10_want x [.int p, .int y] (fun σ => σ) (fun _ v => isI v) (fun σ q => ((idN σ q.1.1, q.1.2), w_want p y q.1 q.2)) (fun q v => (b_want p y q.1.1 v ∧ True) ∧ True) := by
  refine sG_add (F := hC cA) (on2 := fun _ q φ => w_want p y q φ) (bn2 := fun _ _ _ => True) hC_ag (zC (sC_want hT) (fun _ _ => rfl) (fun Sg => sat_78 hT) rfl (by decide) (by decide) ⟨asT _, ⟨asT _, trivial⟩⟩) (fun Sg h σ θ φ hH sx _ E H => ?_)
  show ww l D tys A X 1 21 mX10_want _ 0 [(0, .ref x), (1, .int p), (2, .int y)] [] h
  have s0 := sx
  refine c_wantW hT.1 (by decide) (by decide) hH sx E.1 (fun v h1 hz => ⟨?_, trivial⟩)
  show wC cA h1 x θ.1.1 (w_want p y θ φ)
  have H : wC cA h x θ.1.1 φ := H
  rcases hz with ⟨c9, rfl⟩ | ⟨c9, xs, a, f, c_x, f10, c_a, c_a1, o⟩
  · rw [show w_want p y θ φ = φ from if_neg c9]
    exact H
  · rw [show w_want p y θ φ = w_up φ p.toInt.toNat y.toInt from if_pos c9]
    obtain ⟨xs2, a2, b2, f2, c2, g10, g11, ne, ca, e⟩ := H
    rw [c_x] at c2
    cases c2
    rw [f10] at g10
    cases g10
    rw [c_a] at ca
    cases ca
    obtain ⟨sa, -, -⟩ := lab10 hH sx c_x f10 g11
    refine ⟨xs, a, b2, _, (o x (k_sg_ne sx sa (by decide))).trans c_x, f10, g11, ne, c_a1, fun hn r hr => ?_⟩
    unfold w_up
    by_cases c8 : r = p.toInt.toNat
    · subst c8
      rw [upd_s, if_pos rfl]
    · rw [upd_n _ _ c8, if_neg c8]
      exact e hn r hr
theorem vC_woke (hT : k_TX tys cA A X) {p y : Int32} : sG (gC cA) l D tys A X cA 1 21 0 0 mX10_woke x [.int p, .int y] (fun σ => σ) (fun _ v => isI v) (fun σ q => ((idN σ q.1.1, q.1.2), q.2)) (fun q v => (b_woke p y q.1.1 v ∧ True) ∧ True) := by
  refine sG_add (F := hC cA) (on2 := fun _ _ φ => φ) (bn2 := fun _ _ _ => True) hC_ag (zC (sC_woke hT) (fun _ _ => rfl) (fun Sg => sat_83 hT) rfl (by decide) (by decide) ⟨asT _, ⟨asT _, trivial⟩⟩) (fun Sg h σ θ φ hH sx _ E H => ?_)
  show ww l D tys A X 1 21 mX10_woke _ 0 [(0, .ref x), (1, .int p), (2, .int y)] [] h
  refine c_wokeW hT.1 (by decide) (by decide) hH sx E.1 (fun v h1 hz => ⟨?_, trivial⟩)
  show wC cA h1 x θ.1.1 φ
  have H : wC cA h x θ.1.1 φ := H
  rcases hz with ⟨c9, rfl⟩ | ⟨c9, xs, a, f, c_x, f11, c_a, c_a1, o⟩
  · exact H
  · obtain ⟨xs2, a2, b2, f2, c2, g10, g11, ne, ca, e⟩ := H
    rw [c_x] at c2
    cases c2
    rw [f11] at g11
    cases g11
    obtain ⟨-, sb, -⟩ := lab10 hH sx c_x g10 f11
    exact ⟨xs, a2, a, f2, (o x (k_sg_ne sx sb (by decide))).trans c_x, g10, f11, ne, (o a2 ne).trans ca, e⟩
theorem vC_together (hT : k_TX tys cA A X) {w : Int32} : sG (gC cA) l D tys A X cA 100 6000 0 0 mX10_together x [.int w] (fun σ => σ) (fun _ v => isI v) (fun σ q => ((idN σ q.1.1, q.1.2), q.2)) (fun q v => ((noN q.1.1 v ∧ True) ∧ True) ∧ b_tog w q.1.1 q.1.2 q.2 v) :=
  sG_ans (sG_room (by decide) (by decide) (vC (zC (sC_id (As := [.int w]) (fun Sg => sat_80 hT) rfl (by decide) (by decide) ⟨asT _, trivial⟩) (fun _ _ => rfl) (fun Sg => sat_80 hT) rfl (by decide) (by decide) ⟨asT _, trivial⟩) (fun _ _ => rfl) (fun Sg => sat_80 hT) rfl (by decide) ⟨asT _, trivial⟩ (Nat.le_refl _) (Nat.le_refl _))) (fun Sg h σ θ hH sx _ H => by
    show ww l D tys A X 100 6000 mX10_together _ 0 [(0, .ref x), (1, .int w)] [] h
    exact y_together hT.1 hH sx H.1.1 H.1.2.1 H.1.2.2 H.2 (by decide) (by decide))
theorem vR_feed (hT : k_tys tys cA) {wa wb wc wd we : Int32} : tG (gR cA) l D tys A X cA 1 30 0 0 mX11_feed m [.int wa, .int wb, .int wc, .int wd, .int we] (o_feed wa wb wc wd we) (a_feed wa wb wc wd we) (fun σ q => ((idN σ q.1.1, q.1.2), q.2)) (fun q v => (noN q.1.1 v ∧ True) ∧ True) :=
  tG_add (F := hR cA) (on2 := fun _ _ φ => φ) (bn2 := fun _ _ _ => True) hR_ag (zR_feed hT) (fun Sg h σ θ φ hH sm hR _ H => x_feedW hT hH sm hR H)
theorem vR_end {n : Int32} : tG (gR cA) l D tys A X cA 1 30 0 0 mX11_end m [.int n] (o_end n) (a_end n) (fun σ q => ((idN σ q.1.1, q.1.2), q.2)) (fun q v => (noN q.1.1 v ∧ True) ∧ True) :=
  tG_add (F := hR cA) (on2 := fun _ _ φ => φ) (bn2 := fun _ _ _ => True) hR_ag zR_end (fun Sg h σ θ φ hH sm hR _ H => x_endW hH sm hR H)
theorem vR_fault (hT : k_tys tys cA) {aK aV : Nat → Nat} (hX : ∀ s, X s → xs A aK aV s) {so : Int32} : tG (gR cA) l D tys A X cA 40 1120 0 0 mX11_fault m [.int so] (fun σ => σ) (a_fault so) (fun σ q => ((idN σ q.1.1, q.1.2), q.2)) (fun q v => (noN q.1.1 v ∧ True) ∧ True) :=
  tG_add (F := hR cA) (on2 := fun _ _ φ => φ) (bn2 := fun _ _ _ => True) hR_ag (zR_fault hT hX) (fun Sg h σ θ φ hH sm hR _ H => x_faultW hT hX hH sm hR H)
theorem vR_text (hT : k_tys tys cA) {aK aV : Nat → Nat} (hX : ∀ s, X s → xs A aK aV s) {so : Int32} {seed : Int64} : tG (gR cA) l D tys A X cA 60 2000 0 0 mX11_text m [.int so, .long seed] (o_text so) (a_text so) (fun σ q => ((n_text so σ q.1.1, r_text so σ q.1.2), w_text so σ q.2)) (fun q v => (noN q.1.1 v ∧ True) ∧ True) :=
  tG_add (F := hR cA) (on2 := fun σ _ φ => w_text so σ φ) (bn2 := fun _ _ _ => True) hR_ag (zR_text hT hX) (fun Sg h σ θ φ hH sm hR _ H => x_textW hT hX hH sm hR H)
theorem vR_want (hT : k_TX tys cA A X) {p y : Int32} : tG (gR cA) l D tys A X cA 100 6000 0 0 mX11_want m [.int p, .int y] (fun σ => σ) (fun _ v => isI v) (fun σ q => ((idN σ q.1.1, q.1.2), w_want p y q.1 q.2)) (fun q v => (b_want p y q.1.1 v ∧ True) ∧ True) := by
  refine tG_add (F := hR cA) (on2 := fun _ q φ => w_want p y q φ) (bn2 := fun _ _ _ => True) hR_ag (zR (sR_want hT) (fun _ _ => rfl) (fun Sg => sat_156 hT) (fun Sg => sat_264 hT) rfl rfl (by decide) (by decide) ⟨asT _, ⟨asT _, trivial⟩⟩ ⟨asT _, ⟨asT _, trivial⟩⟩ ⟨by decide, by decide⟩ ⟨by decide, by decide⟩) (fun Sg h σ θ φ hH sm _ E H => ?_)
  show ww l D tys A X 100 6000 mX11_want _ 0 [(0, .ref m), (1, .int p), (2, .int y)] [] h
  refine q_wantW hT.1 (by decide) (by decide) hH sm.1 E.1 (fun v h1 fs fs1 a f c_m c_m1 hj f26 c_a hz o => ⟨?_, trivial⟩)
  show wR cA h1 m θ.1.1 (w_want p y θ φ)
  obtain ⟨fs2, a2, f2, c2, g26, ca, e⟩ : wR cA h m θ.1.1 φ := H
  rw [c_m] at c2
  cases c2
  rw [f26] at g26
  cases g26
  rw [c_a] at ca
  cases ca
  have g26 := (hj 26 (by decide)).trans f26
  rcases hz with ⟨c9, d1⟩ | ⟨c9, d1⟩
  · rw [show w_want p y θ φ = φ from if_neg c9]
    exact ⟨fs1, a, f, c_m1, g26, d1.trans c_a, e⟩
  · rw [show w_want p y θ φ = w_up φ p.toInt.toNat y.toInt from if_pos c9]
    refine ⟨fs1, a, _, c_m1, g26, d1, fun hn r hr => ?_⟩
    unfold w_up
    by_cases c8 : r = p.toInt.toNat
    · subst c8
      rw [upd_s, if_pos rfl]
    · rw [upd_n _ _ c8, if_neg c8]
      exact e hn r hr
theorem vR_feast (hT : k_TX tys cA A X) {w : Int32} : tG (gR cA) l D tys A X cA 100 6000 0 0 mX11_feast m [.int w] (fun σ => σ) (fun _ v => isI v) (fun σ q => ((idN σ q.1.1, q.1.2), q.2)) (fun q v => (noN q.1.1 v ∧ b_feast w q.1.1 q.1.2 v) ∧ True) := by
  refine tG_add (F := hR cA) (on2 := fun _ _ φ => φ) (bn2 := fun _ _ _ => True) hR_ag (zR_feast hT) (fun Sg h σ θ φ hH sm _ E H => ?_)
  show ww l D tys A X 100 6000 mX11_feast _ 0 [(0, .ref m), (1, .int w)] [] h
  obtain ⟨⟨fs, n, ga, pe, ta, c_m, f20, -, -, -, e0, -⟩, wf, fs9, ro, R, c9, f19, c_ro, e⟩ := E
  rw [c_m] at c9
  cases c9
  obtain ⟨fs2, wa, gw, c2, f26, c_wa, ew⟩ : wR cA h m θ.1.1 φ := H
  rw [c_m] at c2
  cases c2
  obtain ⟨wa9, kw, gw9, gk, fl, f269, f46, s3, s4, c_wa9, c_kw⟩ := lab26 hH sm.1 c_m
  rw [f26] at f269
  cases f269
  have nd : (ro ≠ m ∧ wa ≠ m ∧ kw ≠ m) ∧ (m ≠ wa ∧ ro ≠ wa ∧ kw ≠ wa) ∧ m ≠ kw ∧ ro ≠ kw ∧ wa ≠ kw := by
    rcases sm.1 with s1 | s1 <;> rcases (lab19 hH sm.1 c_m f19).1 with s2 | s2 <;> exact ⟨⟨k_sg_ne s2 s1 (by decide), k_sg_ne s3 s1 (by decide), k_sg_ne s4 s1 (by decide)⟩, ⟨k_sg_ne s1 s3 (by decide), k_sg_ne s2 s3 (by decide), k_sg_ne s4 s3 (by decide)⟩, k_sg_ne s1 s4 (by decide), k_sg_ne s2 s4 (by decide), k_sg_ne s3 s4 (by decide)⟩
  have h6 := wf.1
  have hnn : n.toInt.toNat = θ.1.1 := by omega
  refine r_feastW hT.1 f19 f20 f26 f46 nd (by omega) (by rw [hnn]; exact wf) (by rw [hnn]; exact e) fl c_m c_ro c_wa c_kw (by decide) (by decide) (fun g v fs1 gw1 q1 q2 q3 q4 => ⟨?_, trivial⟩)
  exact ⟨fs1, wa, gw1, q1, q2, q3, fun hn r hr => (q4 r hr).trans (ew hn r hr)⟩
theorem vR_together (hT : k_TX tys cA A X) {w : Int32} : tG (gR cA) l D tys A X cA 100 6000 0 0 mX11_together m [.int w] (fun σ => σ) (fun _ v => isI v) (fun σ q => ((idN σ q.1.1, q.1.2), q.2)) (fun q v => ((noN q.1.1 v ∧ True) ∧ True) ∧ b_tog w q.1.1 q.1.2 q.2 v) :=
  tG_ans (vR (zR (sR_id (As := [.int w]) (frr := 100) (loo := 6000) (fun Sg => sat_203 hT) (fun Sg => sat_266 hT) rfl rfl (by decide) (by decide) (by decide) (by decide) ⟨asT _, trivial⟩ ⟨asT _, trivial⟩ ⟨by decide, by decide⟩ ⟨by decide, by decide⟩) (fun _ _ => rfl) (fun Sg => sat_203 hT) (fun Sg => sat_266 hT) rfl rfl (by decide) (by decide) ⟨asT _, trivial⟩ ⟨asT _, trivial⟩ ⟨by decide, by decide⟩ ⟨by decide, by decide⟩) (fun _ _ => rfl) (fun Sg => sat_203 hT) (fun Sg => sat_266 hT) rfl rfl (by decide) (by decide) ⟨asT _, trivial⟩ ⟨asT _, trivial⟩ ⟨by decide, by decide⟩ ⟨by decide, by decide⟩) (fun Sg h σ θ hH sm _ H => by
    show ww l D tys A X 100 6000 mX11_together _ 0 [(0, .ref m), (1, .int w)] [] h
    exact x_together hT.1 hH sm H.1.1 H.1.2 H.2 (by decide) (by decide))
end
