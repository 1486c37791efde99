/-! the run is sound: returns, calls, the library -/
section
variable {l : Launch} {D : va_G} {tys : List (ClassId × FieldType)} {A : Nat → Prop} {X : State → Prop} {fr lo mc ms : Nat} {M : ch_M} {Q : Option Value → ch_H → Prop} {pc : Nat} {lv : List (Nat × Value)} {st : List Value} {h : ch_H} {c z : Nat}
theorem tt_copy {ix t0 : Nat} {a a0 n0 n1 : Nat} {cA : ClassId} {f g : Nat → Int32} {sp dp n : Int32} (hw1 : Cond.methodLink M.1.cls ix arraycopyName ∈ wsA) (hf : 1 ≤ fr) (hlo : (st.map fun v => v.category).sum + 100 ≤ lo) (ha0 : h a0 = some (.inl (cA, n0, .inl f))) (ha : h a = some (.inl (cA, n1, .inl g))) (ht : tys[t0]? = some (cA, .int)) (h1 : ¬ sp < 0) (h2 : ¬ dp < 0) (h3 : ¬ n < 0) (h4 : sp.toNatClampNeg + n.toNatClampNeg ≤ n0) (h5 : dp.toNatClampNeg + n.toNatClampNeg ≤ n1) (hd : decode M.2.1 pc = .ok (.invokestatic ix, 3))
    (kk : tt l D tys A X fr lo mc ms M Q (pc + 3) lv st (ch_up h a (.inl (cA, n1, .inl (va_cpy f g sp.toNatClampNeg dp.toNatClampNeg n.toNatClampNeg)))) c z) : tt l D tys A X fr lo mc ms M Q pc lv (.int n :: .int dp :: .ref a :: .int sp :: .ref a0 :: st) h c z := by
  intro p e s m args below meth cd H locs ls C hl hr hS
  obtain ⟨ws, w1, hP, hD⟩ := id hr
  obtain ⟨q0, hq0⟩ := w1 a0 _ ha0
  obtain ⟨q1, hq1⟩ := w1 a _ ha
  have hts := C.2.2.2.2.2.1
  exact va_copyi C.1 C.2.1 (by rw [C.2.2.2.1]; exact hl.1.symm) C.2.2.2.2.1 (hts _ hw1) (hts _ pg_copy.2.1) (hts _ pg_copy.1) (hts _ pg_copy.2.2) C.2.2.2.2.2.2.1 hP hD hS q0 q1 t0 t0 hq0 hq1 ht ht rfl h1 h2 h3 h4 h5 (fun _ _ => rfl) hf (Nat.le_trans (Nat.add_le_add_left (by decide +kernel) _) hlo) hd (fun H locs hP hD hS => kk p e s m args below meth cd H locs ls C hl (ch_r.at_ w1 hq1 hP hD) hS)
end
section
variable {Sg : Nat → Option Nat} {cA : Nat → ClassId} {Lb : Nat → k_I} {W : List (Nat × Nat)} {h0 h : ch_H} {r : List Value} {S : k_S} {lv : List (Nat × Value)} {vs : List Value} {f : k_Fr} {fs : List k_Fr} {m0 : List (Int × Nat) × Int} {mu : Int}
variable {l : Launch} {D : va_G} {tys : List (ClassId × FieldType)} {A : Nat → Prop} {X : State → Prop} {QF : Option Value → ch_H → Prop} {go : k_S → k_Fr → List k_Fr → Bool} {cs : List k_C} {inl : List Nat} {ret : Option k_T}
/-- what a checked state says -/
def k_sem (l : Launch) (D : va_G) (tys : List (ClassId × FieldType)) (A : Nat → Prop) (X : State → Prop) (Sg : Nat → Option Nat) (cA : Nat → ClassId) (Lb : Nat → k_I) (W : List (Nat × Nat)) (h0 : ch_H) (QF : Option Value → ch_H → Prop) (m0 : List (Int × Nat) × Int) (mu : Int) (S : k_S) (f : k_Fr) (fs : List k_Fr) : Prop :=
  ∀ (r : List Value) (h : ch_H) (lv : List (Nat × Value)) (vs : List Value), k_G Sg r h S → k_ok Sg cA Lb W h0 h → (∀ q ∈ m0.1, q.2 < r.length) → k_ev r m0.1 + m0.2 = mu → k_lv r f.2.2.1 lv → k_st r f.2.2.2.1 vs →
    tt l D tys A X f.2.2.2.2.1 f.2.2.2.2.2 0 0 (k_pM f.1) (k_K l D tys A X QF r fs) f.2.1 lv vs h 0 0
def k_good (l : Launch) (D : va_G) (tys : List (ClassId × FieldType)) (A : Nat → Prop) (X : State → Prop) (Sg : Nat → Option Nat) (cA : Nat → ClassId) (Lb : Nat → k_I) (W : List (Nat × Nat)) (h0 : ch_H) (QF : Option Value → ch_H → Prop) (m0 : List (Int × Nat) × Int) (mu : Int) (go : k_S → k_Fr → List k_Fr → Bool) : Prop := ∀ S f fs, go S f fs = true → k_sem l D tys A X Sg cA Lb W h0 QF m0 mu S f fs
/-- go on from a later state -/
theorem k_good.on (hgo : k_good l D tys A X Sg cA Lb W h0 QF m0 mu go) {S' : k_S} {f' : k_Fr} (e : go S' f' fs = true) (t : List Value) {h' : ch_H} {lv' : List (Nat × Value)} {vs' : List Value} (g : k_G Sg (r ++ t) h' S') (ok : k_ok Sg cA Lb W h0 h') (hp : ∀ q ∈ m0.1, q.2 < r.length) (hm : k_ev r m0.1 + m0.2 = mu) (hl : k_lv (r ++ t) f'.2.2.1 lv') (hst : k_st (r ++ t) f'.2.2.2.1 vs') :
    tt l D tys A X f'.2.2.2.2.1 f'.2.2.2.2.2 0 0 (k_pM f'.1) (k_K l D tys A X QF r fs) f'.2.1 lv' vs' h' 0 0 :=
  tt_mono (fun o g => k_K_mono t fs o g) (hgo S' f' fs e (r ++ t) h' lv' vs' g ok (fun q hq => Nat.lt_of_lt_of_le (hp q hq) (by rw [List.length_append]; omega)) (by rw [k_ev_ap t _ hp]; exact hm) hl hst)
theorem k_good.at_ (hgo : k_good l D tys A X Sg cA Lb W h0 QF m0 mu go) {S' : k_S} {f' : k_Fr} (e : go S' f' fs = true) {h' : ch_H} {lv' : List (Nat × Value)} {vs' : List Value} (g : k_G Sg r h' S') (ok : k_ok Sg cA Lb W h0 h') (hp : ∀ q ∈ m0.1, q.2 < r.length) (hm : k_ev r m0.1 + m0.2 = mu) (hl : k_lv r f'.2.2.1 lv') (hst : k_st r f'.2.2.2.1 vs') :
    tt l D tys A X f'.2.2.2.2.1 f'.2.2.2.2.2 0 0 (k_pM f'.1) (k_K l D tys A X QF r fs) f'.2.1 lv' vs' h' 0 0 := hgo S' f' fs e r h' lv' vs' g ok hp hm hl hst
theorem k_retX_ok (hQ : QF = k_QF Sg cA Lb W h0 ret) (hgo : k_good l D tys A X Sg cA Lb W h0 QF m0 mu go) {v : Nat} {x : Value} (e : k_retX go ret S v fs = true) (g : k_G Sg r h S) (ok : k_ok Sg cA Lb W h0 h) (hp : ∀ q ∈ m0.1, q.2 < r.length) (hm : k_ev r m0.1 + m0.2 = mu) (hx : r[v]? = some x) : k_K l D tys A X QF r fs (some x) h := by
  unfold k_retX at e
  split at e
  · split at e
    · rename_i t
      subst hQ
      obtain ⟨x', f1, f2⟩ := g.at_ (v := v) (k_sub_9 e)
      rw [hx] at f1
      cases f1
      exact ⟨ok, x, rfl, k_sub_ok e f2⟩
    · cases e
  · rename_i f' fs'
    intro lv vs h1 h2
    exact hgo.at_ e g ok hp hm h1 ⟨x, vs, rfl, hx, h2⟩
theorem k_retI_ok (hQ : QF = k_QF Sg cA Lb W h0 ret) (hgo : k_good l D tys A X Sg cA Lb W h0 QF m0 mu go) (hd : decode (k_pM f.1).2.1 f.2.1 = .ok (.ireturn, 1)) (e : k_retI go ret S f fs = true) (g : k_G Sg r h S) (ok : k_ok Sg cA Lb W h0 h) (hp : ∀ q ∈ m0.1, q.2 < r.length) (hm : k_ev r m0.1 + m0.2 = mu) (hst : k_st r f.2.2.2.1 vs) :
    tt l D tys A X f.2.2.2.2.1 f.2.2.2.2.2 0 0 (k_pM f.1) (k_K l D tys A X QF r fs) f.2.1 lv vs h 0 0 := by
  unfold k_retI at e
  split at e
  · rename_i v hv
    rw [hv] at hst
    simp only [Bool.and_eq_true, Bool.or_eq_true, decide_eq_true_eq] at e
    obtain ⟨⟨e1, e2⟩, e3⟩ := e
    have kv : (k_ty S v).1 = 0 := by simpa [k_isI] using e1
    obtain ⟨x', v1, rfl, p1, p2⟩ := hst
    have p2 : v1 = [] := p2
    subst p2
    obtain ⟨x, rfl⟩ := k_vint g kv p1
    have fin := k_retX_ok hQ hgo e3 g ok hp hm p1
    rcases e2 with e2 | ⟨⟨e2, b1⟩, b2⟩
    · exact tt_iret e2 fin (Nat.le_refl _) (Nat.le_refl _) hd
    · have iv := g.iv kv p1
      exact tt_zret e2 (kn_nz (by omega) (by omega)).1 fin (Nat.le_refl _) (Nat.le_refl _) hd
  · cases e
theorem k_retA_ok (hQ : QF = k_QF Sg cA Lb W h0 ret) (hgo : k_good l D tys A X Sg cA Lb W h0 QF m0 mu go) (hd : decode (k_pM f.1).2.1 f.2.1 = .ok (.areturn, 1)) (e : k_retA go ret S f fs = true) (g : k_G Sg r h S) (ok : k_ok Sg cA Lb W h0 h) (hp : ∀ q ∈ m0.1, q.2 < r.length) (hm : k_ev r m0.1 + m0.2 = mu) (hst : k_st r f.2.2.2.1 vs) :
    tt l D tys A X f.2.2.2.2.1 f.2.2.2.2.2 0 0 (k_pM f.1) (k_K l D tys A X QF r fs) f.2.1 lv vs h 0 0 := by
  unfold k_retA at e
  split at e
  · rename_i v hv
    rw [hv] at hst
    simp only [Bool.and_eq_true] at e
    obtain ⟨⟨e1, e2⟩, e3⟩ := e
    obtain ⟨x, v1, rfl, p1, p2⟩ := hst
    have p2 : v1 = [] := p2
    subst p2
    have fin := k_retX_ok hQ hgo e3 g ok hp hm p1
    have hr := k_vref g e1 p1
    split at e2
    · rename_i nm hr2
      exact tt_aret hr2 (Or.inl ⟨nm, rfl⟩) hr fin (Nat.le_refl _) (Nat.le_refl _) hd
    · rename_i nm hr2
      exact tt_aret hr2 (Or.inr ⟨nm, rfl⟩) hr fin (Nat.le_refl _) (Nat.le_refl _) hd
    · cases e2
  · cases e
theorem k_retV_ok (hQ : QF = k_QF Sg cA Lb W h0 ret) (hgo : k_good l D tys A X Sg cA Lb W h0 QF m0 mu go) (hd : decode (k_pM f.1).2.1 f.2.1 = .ok (.return_, 1)) (e : k_retV go ret S f fs = true) (g : k_G Sg r h S) (ok : k_ok Sg cA Lb W h0 h) (hp : ∀ q ∈ m0.1, q.2 < r.length) (hm : k_ev r m0.1 + m0.2 = mu) (hst : k_st r f.2.2.2.1 vs) :
    tt l D tys A X f.2.2.2.2.1 f.2.2.2.2.2 0 0 (k_pM f.1) (k_K l D tys A X QF r fs) f.2.1 lv vs h 0 0 := by
  unfold k_retV at e
  split at e
  · rename_i hv
    rw [hv] at hst
    have hst : vs = [] := hst
    subst hst
    simp only [Bool.and_eq_true, decide_eq_true_eq] at e
    refine tt_vret e.1 ?_ (Nat.le_refl _) (Nat.le_refl _) hd
    have e := e.2
    split at e
    · subst hQ
      refine ⟨ok, ?_⟩
      cases ret with
      | none => rfl
      | some t => cases e
    · rename_i f' fs'
      intro lv vs h1 h2
      exact hgo.at_ e g ok hp hm h1 h2
  · cases e
theorem k_left_ok {W' : List (Nat × Nat)} {h' : ch_H} (g : k_G Sg r h S) (u : k_U Sg W' h h') : k_G Sg r h' (k_kn S (k_left S W')) := by
  refine g.kn (fun q hq => ?_)
  obtain ⟨h1, h2⟩ := List.mem_filter.mp hq
  simp only [Bool.and_eq_true, beq_iff_eq, Bool.not_eq_true', decide_eq_false_iff_not] at h2
  obtain ⟨ad, ci, fs, v, k1, k2, k3, k4⟩ := g.2.2.2.2.2 q h1
  obtain ⟨ad', p1, p2⟩ := g.ref h2.1
  rw [k1] at p1
  cases p1
  obtain ⟨fs', e1, e2⟩ := (u ad _ p2).1 ci fs k2
  exact ⟨ad, ci, fs', v, k1, e1, by rw [e2 _ h2.2]; exact k3, k4⟩
/-- behind a call by contract -/
theorem k_aft_ok (hgo : k_good l D tys A X Sg cA Lb W h0 QF m0 mu go) {rest : List Nat} {c : k_C} (e : k_aft go S f fs rest c = true) (hW : ∀ q ∈ c.2.2.2.2.1, q ∈ W) (g : k_G Sg r h S) (ok : k_ok Sg cA Lb W h0 h) (hp : ∀ q ∈ m0.1, q.2 < r.length) (hm : k_ev r m0.1 + m0.2 = mu) (hl : k_lv r f.2.2.1 lv) {y : List Value} (hst : k_st r rest y) {o : Option Value} {h' : ch_H} (hH : k_H Sg cA Lb h') (u : k_U Sg c.2.2.2.2.1 h h') (hr : k_rt Sg c.2.2.2.1 o) :
    tt l D tys A X f.2.2.2.2.1 f.2.2.2.2.2 0 0 (k_pM f.1) (k_K l D tys A X QF r fs) (f.2.1 + 3) lv (o.toList ++ y) h' 0 0 := by
  have g1 := k_left_ok g u
  have ok' : k_ok Sg cA Lb W h0 h' := ⟨hH, ok.2.tr (u.sub hW)⟩
  unfold k_aft at e
  split at e
  · rename_i t ht
    rw [ht] at hr
    obtain ⟨v, rfl, hv⟩ := hr
    have g2 := g1.app v t hv
    exact hgo.on e [v] g2 ok' hp hm (hl.app _) ⟨v, y, rfl, g.lst v, hst.app _⟩
  · rename_i ht
    rw [ht] at hr
    have hr : o = none := hr
    subst hr
    exact hgo.at_ e g1 ok' hp hm hl hst
set_option maxHeartbeats 2000000 in
theorem k_inv_ok (hQ : QF = k_QF Sg cA Lb W h0 ret) (hcs : ∀ c ∈ cs, k_sat l D tys A X Sg cA Lb c) (hgo : k_good l D tys A X Sg cA Lb W h0 QF m0 mu go) {virt : Bool} {mi ix : Nat} {args rest : List Nat} (hR : pg_R (k_pe f.1).2.2 = (k_pM f.1).1.cls)
    (hcall : pg_call (k_pe f.1).2.2 (ix, (if virt then 0 else 1), mi)) (hd : decode (k_pM f.1).2.1 f.2.1 = .ok (if virt then .invokevirtual ix else .invokestatic ix, 3))
    (e : k_inv go Lb cs inl W S f fs virt mi args rest = true) (g : k_G Sg r h S) (ok : k_ok Sg cA Lb W h0 h) (hp : ∀ q ∈ m0.1, q.2 < r.length) (hm : k_ev r m0.1 + m0.2 = mu) (hl : k_lv r f.2.2.1 lv) (hst : k_st r (args.reverse ++ rest) vs) :
    tt l D tys A X f.2.2.2.2.1 f.2.2.2.2.2 0 0 (k_pM f.1) (k_K l D tys A X QF r fs) f.2.1 lv vs h 0 0 := by
  unfold k_inv at e
  simp only [Bool.and_eq_true, decide_eq_true_eq] at e
  obtain ⟨⟨⟨⟨e3, e2⟩, e4⟩, e5⟩, e6⟩ := e
  obtain ⟨x0, y, rfl, s1, s2⟩ := k_st_app _ _ _ hst
  have s1' := k_st_rev _ _ s1
  rw [List.reverse_reverse] at s1'
  obtain ⟨x, hx⟩ : ∃ x, x = x0.reverse := ⟨_, rfl⟩
  have hx0 : x0 = x.reverse := by rw [hx, List.reverse_reverse]
  rw [← hx] at s1'
  subst hx0
  have hxl := k_st_len _ _ s1'
  have hsl := k_sl_rw x
  have hwx := k_rw_ok g args x s1'
  have hw := k_rw_ok g rest y s2
  -- what the callee's run gives, inlined or by its contract
  have key : ∃ (fr' lo' : Nat) (Q' : Option Value → ch_H → Prop), fr' + 1 ≤ f.2.2.2.2.1 ∧ 8 + ((k_pM mi).2.2.1 + 11) + lo' ≤ f.2.2.2.2.2 ∧ tt l D tys A X fr' lo' 0 0 (k_pM mi) Q' 0 (lv_args 0 x) [] h 0 0 ∧ ∀ o g9, Q' o g9 → tt l D tys A X f.2.2.2.2.1 f.2.2.2.2.2 0 0 (k_pM f.1) (k_K l D tys A X QF r fs) (f.2.1 + 3) lv (o.toList ++ y) g9 0 0 := by
    split at e6
    · simp only [Bool.and_eq_true, decide_eq_true_eq] at e6
      obtain ⟨⟨⟨e1, a1⟩, a2⟩, a3⟩ := e6
      have hall := k_args_lv 0 args x s1' (k_args_cat g s1' e1)
      exact ⟨f.2.2.2.2.1 - 1, f.2.2.2.2.2 - (19 + (k_pM mi).2.2.1), _, by omega, by omega, hgo.at_ a3 g ok hp hm hall rfl, fun o g9 hk => hk lv y hl s2⟩
    · split at e6
      · rename_i c hc
        have hmem := List.mem_of_find?_eq_some hc
        have hcm := List.find?_some hc
        simp only [k_cm, Bool.and_eq_true, beq_iff_eq, decide_eq_true_eq] at hcm
        obtain ⟨⟨⟨⟨⟨c1, c2⟩, c3⟩, c4⟩, c5⟩, c6⟩ := hcm
        obtain ⟨d1, d2⟩ := k_subs_ok g args c.2.1 x c2 s1'
        have hs := hcs c hmem h x ok.1 d1 d2 (fun q hq => k_kno_ok g s1' (List.all_eq_true.mp c3 q hq))
        rw [c1] at hs
        refine ⟨_, _, _, c5, c6, hs, fun o g9 hk => ?_⟩
        exact k_aft_ok hgo e6 (fun q hq => by simpa using List.all_eq_true.mp c4 q hq) g ok hp hm hl s2 hk.1 hk.2.1 hk.2.2
      · cases e6
  obtain ⟨fr', lo', Q', r1, r2, r3, r4⟩ := key
  cases virt with
  | true =>
    simp only [if_true] at hcall hd e4
    obtain ⟨e9, he9, w1, w2, w3, w4⟩ := hcall
    have hpe : k_pe mi = e9 := by
      unfold k_pe
      rw [List.getD_eq_getElem?_getD, he9]
      rfl
    have hpm : k_pM mi = e9.1 := by unfold k_pM; rw [hpe]
    rw [← hpm] at w1 w2 w3 w4
    rw [hR] at w1
    simp only [Bool.not_true, Bool.false_or] at e5
    unfold k_rcv at e5
    split at e5
    · rename_i a args'
      simp only [Bool.and_eq_true, beq_iff_eq, decide_eq_true_eq] at e5
      obtain ⟨⟨⟨b1, b2⟩, b3⟩, b4⟩ := e5
      obtain ⟨xa, x', rfl, p1, p2⟩ := s1'
      obtain ⟨ad, f1, f2⟩ := g.ref b1
      rw [p1] at f1
      cases f1
      obtain ⟨ce, he, hc⟩ := ok.1 ad _ f2
      obtain ⟨fs9, rfl, -⟩ := k_cell0 b2 hc
      rw [b3] at he
      obtain ⟨n1, n2⟩ := pg_cn _ b4
      have hcls : pg_R (k_pe mi).2.2 = (k_pM mi).1.cls := by
        rw [hpm, hpe]
        exact (pg_d e9 (List.mem_of_getElem? he9)).2
      have := tt_callV (As := x') (rest := y) (n := pg_na.getD mi 0) hd w4 w1 w2 w3 he n2 (n1.trans hcls) (by simp only [List.length_cons] at hxl e4; omega) ⟨r1, r2⟩ ⟨Nat.le_refl _, Nat.le_refl _⟩ (by omega) (by rw [hsl]; omega) r3 r4
      rw [List.reverse_cons, List.append_assoc]
      exact this
    · cases e5
  | false =>
    simp only [Bool.false_eq_true, if_false] at hcall hd e4
    obtain ⟨e9, he9, w1, w2, w4⟩ := hcall
    have hpe : k_pe mi = e9 := by
      unfold k_pe
      rw [List.getD_eq_getElem?_getD, he9]
      rfl
    have hpm : k_pM mi = e9.1 := by unfold k_pM; rw [hpe]
    rw [← hpm] at w1 w2 w4
    rw [hR] at w1
    exact tt_callS (As := x) (rest := y) (n := pg_na.getD mi 0) hd w4 w1 w2 (by omega) ⟨r1, r2⟩ ⟨Nat.le_refl _, Nat.le_refl _⟩ (by omega) (by rw [hsl]; omega) r3 r4
end
