/-! the run is sound: whole -/
section
variable {Sg : Nat → Option Nat} {cA : Nat → ClassId} {Lb : Nat → k_I} {W : List (Nat × Nat)} {h0 h : ch_H} {r : List Value} {S : k_S} {lv : List (Nat × Value)} {vs : List Value} {f : k_Fr} {fs : List k_Fr} {m0 : List (Int × Nat) × Int} {mu : Int}
variable {l : Launch} {D : va_G} {tys : List (ClassId × FieldType)} {A : Nat → Prop} {X : State → Prop} {QF : Option Value → ch_H → Prop} {go : k_S → k_Fr → List k_Fr → Bool} {cs : List k_C} {inl : List Nat} {ret : Option k_T}
theorem k_lib_ok (hT : k_tys tys cA) (hgo : k_good l D tys A X Sg cA Lb W h0 QF m0 mu go) {k ix mi : Nat} (hR : pg_R (k_pe f.1).2.2 = (k_pM f.1).1.cls) (hcall : pg_call (k_pe f.1).2.2 (ix, k, mi)) (hd : decode (k_pM f.1).2.1 f.2.1 = .ok (.invokestatic ix, 3))
    (e : k_lib go Lb W S f fs k = true) (g : k_G Sg r h S) (ok : k_ok Sg cA Lb W h0 h) (hp : ∀ q ∈ m0.1, q.2 < r.length) (hm : k_ev r m0.1 + m0.2 = mu) (hl : k_lv r f.2.2.1 lv) (hst : k_st r f.2.2.2.1 vs) :
    tt l D tys A X f.2.2.2.2.1 f.2.2.2.2.2 0 0 (k_pM f.1) (k_K l D tys A X QF r fs) f.2.1 lv vs h 0 0 := by
  unfold k_lib at e
  split at e
  · rename_i b a st hv
    rw [hv] at hst
    simp only [Bool.and_eq_true, decide_eq_true_eq] at e
    obtain ⟨⟨⟨⟨e1, e2⟩, e3⟩, e4⟩, e5⟩ := e
    have ka : (k_ty S a).1 = 0 := by simpa [k_isI] using e1
    have kb : (k_ty S b).1 = 0 := by simpa [k_isI] using e2
    obtain ⟨y', v1, rfl, p1, x', v2, rfl, p2, p3⟩ := hst
    obtain ⟨x, rfl⟩ := k_vint g ka p2
    obtain ⟨y, rfl⟩ := k_vint g kb p1
    have hw := k_rw_ok g st v2 p3
    have hc : Cond.methodLink (pg_R (k_pe f.1).2.2) ix Lib.Math.max.name ∈ wsA := hcall
    rw [hR] at hc
    refine tt_mmax hc pg_max.1 pg_math pg_max.2 e3 (by omega) (Nat.le_refl _) (Nat.le_refl _) hd ?_
    exact hgo.on e5 [.int (if x < y then y else x)] (k_max_ok g ka kb p2 p1) ok hp hm (hl.app _) ⟨_, v2, rfl, g.lst _, p3.app _⟩
  · rename_i b a st hv
    rw [hv] at hst
    simp only [Bool.and_eq_true, decide_eq_true_eq] at e
    obtain ⟨⟨⟨⟨e1, e2⟩, e3⟩, e4⟩, e5⟩ := e
    have ka : (k_ty S a).1 = 0 := by simpa [k_isI] using e1
    have kb : (k_ty S b).1 = 0 := by simpa [k_isI] using e2
    obtain ⟨y', v1, rfl, p1, x', v2, rfl, p2, p3⟩ := hst
    obtain ⟨x, rfl⟩ := k_vint g ka p2
    obtain ⟨y, rfl⟩ := k_vint g kb p1
    have hw := k_rw_ok g st v2 p3
    have hc : Cond.methodLink (pg_R (k_pe f.1).2.2) ix Lib.Math.min.name ∈ wsA := hcall
    rw [hR] at hc
    refine tt_mmin hc pg_min.1 pg_math pg_min.2 e3 (by omega) (Nat.le_refl _) (Nat.le_refl _) hd ?_
    exact hgo.on e5 [.int (if y < x then y else x)] (k_min_ok g ka kb p2 p1) ok hp hm (hl.app _) ⟨_, v2, rfl, g.lst _, p3.app _⟩
  · rename_i a st hv
    rw [hv] at hst
    simp only [Bool.and_eq_true, decide_eq_true_eq] at e
    obtain ⟨⟨⟨e1, e3⟩, e4⟩, e5⟩ := e
    have ka : (k_ty S a).1 = 0 := by simpa [k_isI] using e1
    obtain ⟨x', v2, rfl, p2, p3⟩ := hst
    obtain ⟨x, rfl⟩ := k_vint g ka p2
    have hw := k_rw_ok g st v2 p3
    have hc : Cond.methodLink (pg_R (k_pe f.1).2.2) ix Lib.Math.abs.name ∈ wsA := hcall
    rw [hR] at hc
    refine tt_mabs hc pg_abs.1 pg_math pg_abs.2 e3 (by omega) (Nat.le_refl _) (Nat.le_refl _) hd ?_
    exact hgo.on e5 [.int (if 0 ≤ x then x else 0 - x)] (k_abs_ok g ka p2) ok hp hm (hl.app _) ⟨_, v2, rfl, g.lst _, p3.app _⟩
  · rename_i n dp a sp a0 st hv
    rw [hv] at hst
    simp only [Bool.and_eq_true, decide_eq_true_eq] at e
    obtain ⟨⟨⟨e1, e3⟩, e4⟩, e5⟩ := e
    simp only [k_copy, Bool.and_eq_true, decide_eq_true_eq, beq_iff_eq, k_isI] at e1
    obtain ⟨⟨⟨⟨⟨⟨⟨⟨⟨⟨⟨⟨⟨⟨⟨⟨⟨⟨⟨⟨c1, c2⟩, c3⟩, c4⟩, c5⟩, c6⟩, c7⟩, c8⟩, c9⟩, c10⟩, c11⟩, c12⟩, c13⟩, c14⟩, c15⟩, c16⟩, c17⟩, c18⟩, c19⟩, c20⟩, c21⟩ := e1
    obtain ⟨n', w1, rfl, p1, dp', w2, rfl, p2, a', w3, rfl, p3, sp', w4, rfl, p4, a0', w5, rfl, p5, p6⟩ := hst
    obtain ⟨xn, rfl⟩ := k_vint g c1 p1
    obtain ⟨xd, rfl⟩ := k_vint g c2 p2
    obtain ⟨xs, rfl⟩ := k_vint g c3 p4
    have i1 := g.iv c1 p1
    have i2 := g.iv c2 p2
    have i3 := g.iv c3 p4
    obtain ⟨ad, f1, f2⟩ := g.ref c9
    rw [p3] at f1
    cases f1
    obtain ⟨ad0, f1, f3⟩ := g.ref c10
    rw [p5] at f1
    cases f1
    obtain ⟨ce, he, hc⟩ := ok.1 ad _ f2
    obtain ⟨fa, rfl, hfa⟩ := k_cell1 c11 hc
    obtain ⟨ce0, he0, hc0⟩ := ok.1 ad0 _ f3
    obtain ⟨fb, rfl, hfb⟩ := k_cell1 c12 hc0
    have h0t := hT 0 (by decide)
    have hw := k_rw_ok g st w5 p6
    have hlink : Cond.methodLink (pg_R (k_pe f.1).2.2) ix arraycopyName ∈ wsA := hcall
    rw [hR] at hlink
    have z0 : (0 : Int32).toInt = 0 := rfl
    have n1 : ¬ xs < 0 := by rw [kn_lt, z0]; omega
    have n2 : ¬ xd < 0 := by rw [kn_lt, z0]; omega
    have n3 : ¬ xn < 0 := by rw [kn_lt, z0]; omega
    have q1 := kn_cl (x := xs) (by omega)
    have q2 := kn_cl (x := xd) (by omega)
    have q3 := kn_cl (x := xn) (by omega)
    have hs0 : xs.toNatClampNeg = 0 := by omega
    have hd0 : xd.toNatClampNeg = 0 := by omega
    have ok' : k_ok Sg cA Lb W h0 (ch_up h ad (.inl (cA (Lb (k_ty S a).2.1.toNat).2.1, (Lb (k_ty S a).2.1.toNat).2.2.1, .inl (va_cpy fb fa xs.toNatClampNeg xd.toNatClampNeg xn.toNatClampNeg)))) := by
      refine ⟨ok.1.put f2 (Or.inr (Or.inl ⟨c11, _, rfl, fun j hj => ?_⟩)), ok.2.putA f2 he c21⟩
      rw [k_el_1 c15]
      by_cases hjn : j < xn.toNatClampNeg
      · rw [pk_cpy_in (by omega) (by omega), hs0, hd0]
        have := hfb (0 + (j - 0)) (by omega)
        rw [k_el_1 c16] at this
        omega
      · rw [pk_cpy_out (by omega), ← k_el_1 c15 j]
        exact hfa j hj
    have g' : k_G Sg r (ch_up h ad (.inl (cA (Lb (k_ty S a).2.1.toNat).2.1, (Lb (k_ty S a).2.1.toNat).2.2.1, .inl (va_cpy fb fa xs.toNatClampNeg xd.toNatClampNeg xn.toNatClampNeg)))) S := g.heap (fun u hu => by
      obtain ⟨ad', ci', fs', w, k1, k2, k3, k4⟩ := g.2.2.2.2.2 u hu
      have had : ad' ≠ ad := by
        intro q
        subst q
        rw [he] at k2
        cases k2
      exact ⟨ad', ci', fs', w, k1, by rw [ch_up_n _ _ had]; exact k2, k3, k4⟩)
    have fin := hgo.at_ (r := r) (vs' := w5) (lv' := lv) e5 g' ok' hp hm hl p6
    rw [c13] at he fin
    rw [c14] at he0
    exact tt_copy hlink e3 (by omega) he0 he h0t n1 n2 n3 (by omega) (by omega) hd fin
  · cases e
theorem k_body_ok (hT : k_tys tys cA) (hQ : QF = k_QF Sg cA Lb W h0 ret) (hcs : ∀ c ∈ cs, k_sat l D tys A X Sg cA Lb c) (hgo : k_good l D tys A X Sg cA Lb W h0 QF m0 mu go) {i : Instr} {n : Nat} (hR : pg_R (k_pe f.1).2.2 = (k_pM f.1).1.cls) (hd : decode (k_pM f.1).2.1 f.2.1 = .ok (i, n))
    (e : k_body go Lb cs inl W ret S f fs i n = true) (g : k_G Sg r h S) (ok : k_ok Sg cA Lb W h0 h) (hp : ∀ q ∈ m0.1, q.2 < r.length) (hm : k_ev r m0.1 + m0.2 = mu) (hl : k_lv r f.2.2.1 lv) (hst : k_st r f.2.2.2.1 vs) :
    tt l D tys A X f.2.2.2.2.1 f.2.2.2.2.2 0 0 (k_pM f.1) (k_K l D tys A X QF r fs) f.2.1 lv vs h 0 0 := by
  have hcall : ∀ (virt : Bool) (q : Nat × Nat) (ix : Nat), k_fd (pg_ml (k_pe f.1).2.2) ix = some q → decode (k_pM f.1).2.1 f.2.1 = .ok (if virt then .invokevirtual ix else .invokestatic ix, 3) → k_call go Lb cs inl W S f fs virt q = true → tt l D tys A X f.2.2.2.2.1 f.2.2.2.2.2 0 0 (k_pM f.1) (k_K l D tys A X QF r fs) f.2.1 lv vs h 0 0 := by
    intro virt q ix hq hd e
    have hw := pg_mw _ _ (k_fd_ok hq)
    unfold k_call at e
    by_cases c0 : (q.1 == (if virt then 0 else 1)) = true
    · rw [if_pos c0] at e
      have c : q.1 = if virt then 0 else 1 := beq_iff_eq.mp c0
      refine k_inv_ok hQ hcs hgo (ix := ix) (mi := q.2) hR (by rw [← c]; exact hw) hd e g ok hp hm hl ?_
      rw [List.reverse_reverse, List.take_append_drop]
      exact hst
    · rw [if_neg c0] at e
      simp only [Bool.and_eq_true, Bool.not_eq_true'] at e
      obtain ⟨rfl, e⟩ := e
      exact k_lib_ok hT hgo hR hw hd e g ok hp hm hl hst
  unfold k_body at e
  split at e
  · split at e
    · rename_i ss hs
      refine k_step_ok (M := k_pM f.1) hT hR rfl hd hs g ok hl hst ?_
      intro s hs' t g9 lv9 vs9 a1 a2 a3 a4
      exact hgo.on (List.all_eq_true.mp e s hs') t a1 a2 hp hm a3 a4
    · cases e
  · rename_i ek
    simp only [Bool.and_eq_true, beq_iff_eq] at e
    obtain ⟨rfl, e⟩ := e
    rw [k_kind_1 ek] at hd
    exact k_retI_ok hQ hgo hd e g ok hp hm hst
  · rename_i ek
    simp only [Bool.and_eq_true, beq_iff_eq] at e
    obtain ⟨rfl, e⟩ := e
    rw [k_kind_2 ek] at hd
    exact k_retA_ok hQ hgo hd e g ok hp hm hst
  · rename_i ek
    simp only [Bool.and_eq_true, beq_iff_eq] at e
    obtain ⟨rfl, e⟩ := e
    rw [k_kind_3 ek] at hd
    exact k_retV_ok hQ hgo hd e g ok hp hm hst
  · rename_i ek
    simp only [Bool.and_eq_true, beq_iff_eq] at e
    obtain ⟨rfl, e⟩ := e
    rw [k_kind_4 ek] at hd
    split at e
    · rename_i q hq
      exact hcall true q _ hq hd e
    · cases e
  · rename_i e0 e1 e2 e3 e4
    simp only [Bool.and_eq_true, beq_iff_eq] at e
    obtain ⟨rfl, e⟩ := e
    rw [k_kind_5 e0 e1 e2 e3 e4] at hd
    split at e
    · rename_i q hq
      exact hcall false q _ hq hd e
    · cases e
theorem k_join_ok {mi fr lo : Nat} {P : k_Pt} (HP : ∀ (r : List Value) (h : ch_H) (lv : List (Nat × Value)), k_G Sg r h (k_init P.2.1 P.2.2.1) → k_ok Sg cA Lb W h0 h → k_lv r (k_lnum 0 P.2.1) lv → 0 ≤ k_ev r P.2.2.2.1 + P.2.2.2.2 → k_ev r P.2.2.2.1 + P.2.2.2.2 < mu → tt l D tys A X fr lo 0 0 (k_pM mi) QF P.1 lv [] h 0 0)
    (e : k_join mi fr lo m0 S f P = true) (hpc : P.1 = f.2.1) (g : k_G Sg r h S) (ok : k_ok Sg cA Lb W h0 h) (hm : k_ev r m0.1 + m0.2 = mu) (hl : k_lv r f.2.2.1 lv) (hst : k_st r f.2.2.2.1 vs) :
    tt l D tys A X f.2.2.2.2.1 f.2.2.2.2.2 0 0 (k_pM f.1) (k_K l D tys A X QF r []) f.2.1 lv vs h 0 0 := by
  unfold k_join at e
  simp only [Bool.and_eq_true, beq_iff_eq] at e
  obtain ⟨⟨⟨⟨⟨e1, e2⟩, e3⟩, e4⟩, e5⟩, e6⟩ := e
  have hnil : f.2.2.2.1 = [] := List.isEmpty_iff.mp e4
  rw [hnil] at hst
  have hst : vs = [] := hst
  subst hst
  split at e6
  · rename_i vl hvl
    split at e6
    · rename_i wl hwl
      split at e6
      · rename_i a b ha hb
        simp only [Bool.and_eq_true, decide_eq_true_eq] at e6
        obtain ⟨r', g', l', hlen, hv⟩ := k_sel_ok g hl hvl hwl
        have hLs := (k_selL_ok g hl _ _ hvl).1
        have hev := k_ev_sel hv P.2.2.2.1 (fun q hq => by
          have := List.all_eq_true.mp e5 q hq
          have : q.2 < P.2.1.length := by simpa using this
          rw [List.length_append]
          omega)
        have b1 := k_low_ok g ha
        have b2 := k_low_ok g hb
        rw [k_ev_app, k_ev_neg] at b2
        have fin := HP r' h lv g' ok l' (by omega) (by omega)
        rw [e1, e2, e3, ← hpc]
        exact tt_mono (fun _ _ h => h) fin
      · cases e6
    · cases e6
  · cases e6
theorem k_chk_ok (hT : k_tys tys cA) (hQ : QF = k_QF Sg cA Lb W h0 ret) (hcs : ∀ c ∈ cs, k_sat l D tys A X Sg cA Lb c) {mi fr lo : Nat} {pts : List k_Pt}
    (HP : ∀ P ∈ pts, ∀ (r : List Value) (h : ch_H) (lv : List (Nat × Value)), k_G Sg r h (k_init P.2.1 P.2.2.1) → k_ok Sg cA Lb W h0 h → k_lv r (k_lnum 0 P.2.1) lv → 0 ≤ k_ev r P.2.2.2.1 + P.2.2.2.2 → k_ev r P.2.2.2.1 + P.2.2.2.2 < mu → tt l D tys A X fr lo 0 0 (k_pM mi) QF P.1 lv [] h 0 0) :
    ∀ (n : Nat) (b : Bool), k_good l D tys A X Sg cA Lb W h0 QF m0 mu (k_chk Lb cs inl W ret mi fr lo pts m0 n b)
  | 0, b => fun S f fs e => by simp [k_chk] at e
  | n + 1, b => by
    intro S f fs e r h lv vs g ok hp hm hl hst
    unfold k_chk at e
    rw [Bool.or_eq_true] at e
    rcases e with e | e
    · simp only [Bool.and_eq_true, List.any_eq_true, beq_iff_eq] at e
      obtain ⟨⟨-, hnil⟩, P, hmem, h2, e⟩ := e
      have hnil : fs = [] := List.isEmpty_iff.mp hnil
      subst hnil
      exact k_join_ok (HP P hmem) e h2 g ok hm hl hst
    · split at e
      · rename_i q hq
        have hmem := List.mem_of_find?_eq_some hq
        have h2 := List.find?_some hq
        have h3 : q.1 = f.2.1 := by simpa using h2
        obtain ⟨d1, d2⟩ := k_pe_in hmem
        rw [h3] at d1
        exact k_body_ok hT hQ hcs (k_chk_ok hT hQ hcs HP n true) d2 d1 e g ok hp hm hl hst
      · cases e
theorem k_points_ok (hT : k_tys tys cA) (hQ : QF = k_QF Sg cA Lb W h0 ret) (hcs : ∀ c ∈ cs, k_sat l D tys A X Sg cA Lb c) {mi fr lo fuel : Nat} {pts : List k_Pt}
    (hpts : ∀ P ∈ pts, (∀ q ∈ P.2.2.2.1, q.2 < P.2.1.length) ∧ k_chk Lb cs inl W ret mi fr lo pts P.2.2.2 fuel false (k_init P.2.1 P.2.2.1) (mi, P.1, k_lnum 0 P.2.1, [], fr, lo) [] = true) :
    ∀ (m : Nat), ∀ P ∈ pts, ∀ (r : List Value) (h : ch_H) (lv : List (Nat × Value)), k_G Sg r h (k_init P.2.1 P.2.2.1) → k_ok Sg cA Lb W h0 h → k_lv r (k_lnum 0 P.2.1) lv → 0 ≤ k_ev r P.2.2.2.1 + P.2.2.2.2 → (k_ev r P.2.2.2.1 + P.2.2.2.2).toNat = m → tt l D tys A X fr lo 0 0 (k_pM mi) QF P.1 lv [] h 0 0 := by
  intro m
  induction m using Nat.strongRecOn with
  | ind m ih =>
    intro P hP r h lv g ok hl h1 h2
    obtain ⟨a1, a2⟩ := hpts P hP
    have := k_chk_ok (m0 := P.2.2.2) (mu := k_ev r P.2.2.2.1 + P.2.2.2.2) hT hQ hcs (fun P' hP' r' h' lv' b1 b2 b3 b4 b5 => ih (k_ev r' P'.2.2.2.1 + P'.2.2.2.2).toNat (by omega) P' hP' r' h' lv' b1 b2 b3 b4 rfl) fuel false _ _ _ a2 r h lv [] g ok (fun q hq => by
      have := a1 q hq
      rw [← g.1]
      simp only [k_init]
      omega) rfl hl rfl
    exact tt_mono (fun _ _ h => h) this
theorem k_kv (ks : List (Nat × Nat × k_T)) {vals : List Value} (hk : ∀ q ∈ ks, ∃ (a ci : Nat) (fs : List Value) (v : Value), vals[q.1]? = some (.ref a) ∧ h a = some (.inr (ci, fs)) ∧ fs[q.2.1]? = some v ∧ k_v Sg v q.2.2) :
    ∃ kv : List Value, kv.length = ks.length ∧ ∀ (j : Nat) (q : Nat × Nat × k_T), ks[j]? = some q → ∃ (a ci : Nat) (fs : List Value) (v : Value), vals[q.1]? = some (.ref a) ∧ h a = some (.inr (ci, fs)) ∧ fs[q.2.1]? = some v ∧ k_v Sg v q.2.2 ∧ kv[j]? = some v := by
  induction ks with
  | nil => exact ⟨[], rfl, fun j q hq => by simp at hq⟩
  | cons q ks ih =>
    obtain ⟨kv, e1, e2⟩ := ih (fun u hu => hk u (List.mem_cons_of_mem _ hu))
    obtain ⟨a, ci, fs, v, p1, p2, p3, p4⟩ := hk q List.mem_cons_self
    refine ⟨v :: kv, by simp [e1], fun j u hu => ?_⟩
    cases j with
    | zero =>
      have hu : q = u := by simpa using hu
      subst hu
      exact ⟨a, ci, fs, v, p1, p2, p3, p4, rfl⟩
    | succ j =>
      have hu : ks[j]? = some u := by simpa using hu
      obtain ⟨a, ci, fs, v, q1, q2, q3, q4, q5⟩ := e2 j u hu
      exact ⟨a, ci, fs, v, q1, q2, q3, q4, by simpa using q5⟩
theorem k_as_at : ∀ (n : Nat) (ts : List k_T) (i : Nat) (u : Nat × k_T), (k_as n ts)[i]? = some u → u.1 = n + i ∧ ts[i]? = some u.2
  | _, [], i, u, hu => by simp [k_as] at hu
  | n, t :: ts, 0, u, hu => by
    have hu : (n, t) = u := by simpa [k_as] using hu
    subst hu
    exact ⟨rfl, rfl⟩
  | n, t :: ts, i + 1, u, hu => by
    have hu : (k_as (n + 1) ts)[i]? = some u := by simpa [k_as] using hu
    obtain ⟨e1, e2⟩ := k_as_at (n + 1) ts i u hu
    exact ⟨by omega, by simpa using e2⟩
theorem k_as_len : ∀ (n : Nat) (ts : List k_T), (k_as n ts).length = ts.length
  | _, [] => rfl
  | n, t :: ts => by simp [k_as, k_as_len (n + 1) ts]
theorem k_as_map : ∀ (n : Nat) (ts : List k_T), (k_as n ts).map (fun q => q.2) = ts
  | _, [] => rfl
  | n, t :: ts => by simp [k_as, k_as_map (n + 1) ts]
theorem lv_args_in : ∀ (n : Nat) (x : List Value), (∀ v ∈ x, v.category = 1) → ∀ (i : Nat) (v : Value), x[i]? = some v → (n + i, v) ∈ lv_args n x
  | _, [], _, i, v, hv => by simp at hv
  | n, w :: x, hc, 0, v, hv => by
    have hv : w = v := by simpa using hv
    subst hv
    exact List.mem_cons_self
  | n, w :: x, hc, i + 1, v, hv => by
    have hv : x[i]? = some v := by simpa using hv
    have h1 : ¬ w.category = 2 := by rw [hc w List.mem_cons_self]; decide
    have := lv_args_in (n + 1) x (fun u hu => hc u (List.mem_cons_of_mem _ hu)) i v hv
    simp only [lv_args]
    rw [if_neg h1, show n + (i + 1) = n + 1 + i by omega]
    exact List.mem_cons_of_mem _ this
/-- a contract that the checker takes is kept -/
theorem k_keeps_ok (hT : k_tys tys cA) (hcs : ∀ c ∈ cs, k_sat l D tys A X Sg cA Lb c) {fuel : Nat} {c : k_C} {pts : List k_Pt} (e : k_keeps Lb cs inl fuel c pts = true) : k_sat l D tys A X Sg cA Lb c := by
  unfold k_keeps at e
  simp only [Bool.and_eq_true] at e
  obtain ⟨⟨e1, e2⟩, e3⟩ := e
  intro h vals hH hlen hty hkn
  obtain ⟨kv, kl, kk⟩ := k_kv c.2.2.1 hkn
  have hcat : ∀ v ∈ vals, v.category = 1 := by
    intro v hv
    obtain ⟨i, hi⟩ := List.getElem?_of_mem hv
    have hlt := (List.getElem?_eq_some_iff.mp hi).1
    have hti : c.2.1[i]? = some c.2.1[i] := List.getElem?_eq_getElem (by omega)
    obtain ⟨v', p1, p2⟩ := hty i _ hti
    rw [hi] at p1
    cases p1
    exact k_cat (List.all_eq_true.mp e1 _ (List.mem_of_getElem? hti)) p2
  have ok : k_ok Sg cA Lb c.2.2.2.2.1 h h := ⟨hH, k_U.rf⟩
  have gi : k_G Sg (vals ++ kv) h (k_init (k_as 0 c.2.1) c.2.2.1) := by
    refine ⟨by simp [k_init, k_as_len, hlen, kl], fun q hq => ?_, fun q hq => absurd hq List.not_mem_nil, fun q hq => absurd hq List.not_mem_nil, fun q hq => absurd hq List.not_mem_nil, fun q hq => ?_⟩
    · obtain ⟨i, p1, p2⟩ := k_num_in 0 _ q hq
      rw [p2, Nat.zero_add]
      rw [k_as_map] at p1
      by_cases hi : i < c.2.1.length
      · rw [List.getElem?_append_left hi] at p1
        obtain ⟨v, q1, q2⟩ := hty i _ p1
        exact ⟨v, k_ap _ q1, q2⟩
      · rw [List.getElem?_append_right (by omega), List.getElem?_map] at p1
        cases hk : c.2.2.1[i - c.2.1.length]? with
        | none => rw [hk] at p1; cases p1
        | some u =>
          rw [hk] at p1
          have p1 := Option.some.inj p1
          obtain ⟨a, ci, fs, v, q1, q2, q3, q4, q5⟩ := kk _ _ hk
          refine ⟨v, ?_, by rw [← p1]; exact q4⟩
          rw [List.getElem?_append_right (by omega), hlen]
          exact q5
    · obtain ⟨i, u, p1, p2, p3, p4⟩ := k_knum_in _ _ q hq
      obtain ⟨a, ci, fs, v, q1, q2, q3, q4, q5⟩ := kk i u p1
      refine ⟨a, ci, fs, v, by rw [p2]; exact k_ap _ q1, q2, by rw [p3]; exact q3, ?_⟩
      rw [p4, k_as_len, List.getElem?_append_right (by omega), hlen, Nat.add_sub_cancel_left]
      exact q5
  have li : k_lv (vals ++ kv) (k_lnum 0 (k_as 0 c.2.1)) (lv_args 0 vals) := by
    intro q hq
    obtain ⟨i, u, p1, p2, p3⟩ := k_lnum_in 0 _ q hq
    obtain ⟨q1, q2⟩ := k_as_at 0 c.2.1 i u p1
    obtain ⟨v, v1, v2⟩ := hty i _ q2
    refine ⟨v, by rw [p3, Nat.zero_add]; exact k_ap _ v1, ?_⟩
    rw [p2, q1]
    exact lv_args_in 0 vals hcat i v v1
  have hpts : ∀ P ∈ pts, (∀ q ∈ P.2.2.2.1, q.2 < P.2.1.length) ∧ k_chk Lb cs inl c.2.2.2.2.1 c.2.2.2.1 c.1 c.2.2.2.2.2.1 c.2.2.2.2.2.2 pts P.2.2.2 fuel false (k_init P.2.1 P.2.2.1) (c.1, P.1, k_lnum 0 P.2.1, [], c.2.2.2.2.2.1, c.2.2.2.2.2.2) [] = true := by
    intro P hP
    have := List.all_eq_true.mp e3 P hP
    simp only [Bool.and_eq_true] at this
    exact ⟨fun q hq => by simpa using List.all_eq_true.mp this.1 q hq, this.2⟩
  have fin := k_chk_ok (l := l) (D := D) (A := A) (X := X) (QF := k_QF Sg cA Lb c.2.2.2.2.1 h c.2.2.2.1) (m0 := ([], 1000000000000000)) (mu := 1000000000000000) (inl := inl) hT rfl hcs
    (fun P hP r' h' lv' b1 b2 b3 b4 b5 => k_points_ok hT rfl hcs hpts _ P hP r' h' lv' b1 b2 b3 b4 rfl) fuel false _ _ _ e2 (vals ++ kv) h (lv_args 0 vals) [] gi ok (fun q hq => absurd hq List.not_mem_nil) (by simp [k_ev]) li rfl
  exact tt_mono (fun o g hq => ⟨hq.1.1, hq.1.2, hq.2⟩) fin
end
