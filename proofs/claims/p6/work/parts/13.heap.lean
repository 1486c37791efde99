/-! the step is sound: fields, arrays, switches -/
theorem k_fd_ok {l : List (Nat × Nat × Nat)} {i : Nat} {q : Nat × Nat} (e : k_fd l i = some q) : (i, q) ∈ l := by
  unfold k_fd at e
  cases hf : l.find? (fun q => q.1 == i) with
  | none => rw [hf] at e; cases e
  | some u =>
    rw [hf] at e
    have e : u.2 = q := Option.some.inj e
    have h1 := List.mem_of_find?_eq_some hf
    have h2 := List.find?_some hf
    have h3 : u.1 = i := by simpa using h2
    rw [← e, ← h3]
    exact h1
theorem k_fit_ok {Sg : Nat → Option Nat} {ft : FieldType} {t : k_T} {v : Value} (hf : k_fit ft t = true) (hv : k_v Sg v t) : narrow ft v = v ∧ fits ft v = true := by
  obtain ⟨tk, tl, th⟩ := t
  cases ft <;> simp only [k_fit, Bool.and_eq_true, Bool.or_eq_true, beq_iff_eq, decide_eq_true_eq, Bool.false_eq_true] at hf
  case int =>
    subst hf
    obtain ⟨x, rfl, -⟩ := hv
    exact ⟨rfl, rfl⟩
  case boolean =>
    obtain ⟨⟨rfl, h1⟩, h2⟩ := hf
    obtain ⟨x, rfl, h3, h4⟩ := hv
    dsimp only at h1 h2 h3 h4
    have := kn_nz (x := x) (by omega) (by omega)
    exact ⟨this.1, this.2.1⟩
  case long =>
    rcases hf with rfl | rfl
    · obtain ⟨x, rfl⟩ := hv
      exact ⟨rfl, rfl⟩
    · obtain ⟨x, rfl, -⟩ := hv
      exact ⟨rfl, rfl⟩
  case object =>
    rcases hf with rfl | rfl
    · obtain ⟨x, rfl, -⟩ := hv
      exact ⟨rfl, rfl⟩
    · rcases hv with rfl | ⟨x, rfl, -⟩
      · exact ⟨rfl, rfl⟩
      · exact ⟨rfl, rfl⟩
  case array =>
    rcases hf with rfl | rfl
    · obtain ⟨x, rfl, -⟩ := hv
      exact ⟨rfl, rfl⟩
    · rcases hv with rfl | ⟨x, rfl, -⟩
      · exact ⟨rfl, rfl⟩
      · exact ⟨rfl, rfl⟩
section
variable {Sg : Nat → Option Nat} {cA : Nat → ClassId} {Lb : Nat → k_I} {W : List (Nat × Nat)} {h0 h : ch_H} {r : List Value} {S : k_S} {pc : Nat} {L : List (Nat × Nat)} {st : List Nat} {lv : List (Nat × Value)} {vs : List Value} {ss : List k_N} {own : Nat}
variable {l : Launch} {D : va_G} {tys : List (ClassId × FieldType)} {A : Nat → Prop} {X : State → Prop} {fr lo : Nat} {M : ch_M} {Q : Option Value → ch_H → Prop}
theorem k_G.heap (g : k_G Sg r h S) {h' : ch_H} (hK : ∀ q ∈ S.2.2.2.2.2, ∃ (a ci : Nat) (fs : List Value) (v : Value), r[q.1]? = some (.ref a) ∧ h' a = some (.inr (ci, fs)) ∧ fs[q.2.1]? = some v ∧ r[q.2.2]? = some v) : k_G Sg r h' S := by
  obtain ⟨g0, g1, g2, g3, g4, g5⟩ := g
  exact ⟨g0, g1, g2, g3, g4, hK⟩
theorem k_cell0 {I : k_I} {e : va_E} (h1 : I.1 = 0) (hc : k_cell Sg cA I e) : ∃ fs : List Value, e = .inr (I.2.1, fs) ∧ fs.length = I.2.2.1 ∧ ∀ (k : Nat) (t : k_T), I.2.2.2[k]? = some t → ∃ v, fs[k]? = some v ∧ k_v Sg v t := by
  rcases hc with ⟨-, hc⟩ | ⟨h2, -⟩ | ⟨h2, -⟩
  · exact hc
  · rw [h1] at h2; cases h2
  · rw [h1] at h2; cases h2
theorem k_cell1 {I : k_I} {e : va_E} (h1 : I.1 = 1) (hc : k_cell Sg cA I e) : ∃ f : Nat → Int32, e = .inl (cA I.2.1, I.2.2.1, .inl f) ∧ ∀ i, i < I.2.2.1 → (k_el I i).2.1 ≤ (f i).toInt ∧ (f i).toInt ≤ (k_el I i).2.2 := by
  rcases hc with ⟨h2, -⟩ | ⟨-, hc⟩ | ⟨h2, -⟩
  · rw [h1] at h2; cases h2
  · exact hc
  · rw [h1] at h2; cases h2
theorem k_cell2 {I : k_I} {e : va_E} (h1 : I.1 = 2) (hc : k_cell Sg cA I e) : ∃ f : Nat → Option Nat, e = .inl (cA I.2.1, I.2.2.1, .inr (.inr (.inr (.inr f)))) ∧ ∀ i, i < I.2.2.1 → k_v Sg (va_rf (f i)) (k_el I i) := by
  rcases hc with ⟨h2, -⟩ | ⟨h2, -⟩ | ⟨-, hc⟩
  · rw [h1] at h2; cases h2
  · rw [h1] at h2; cases h2
  · exact hc
theorem k_get_ok {ix : Nat} (hR : pg_R own = M.1.cls) (hd : decode M.2.1 pc = .ok (.getfield ix, 3)) (hs : k_get Lb own S pc ix L st = some ss) (g : k_G Sg r h S) (ok : k_ok Sg cA Lb W h0 h) (hl : k_lv r L lv) (hst : k_st r st vs) (kn : k_next (k_TT l D tys A X fr lo M Q) Sg cA Lb W h0 r ss) : k_TT l D tys A X fr lo M Q pc lv vs h := by
  unfold k_get at hs
  split at hs
  · rename_i a st'
    split at hs
    · rename_i q eq
      have hw := pg_fw own _ (k_fd_ok eq)
      dsimp only at hw
      rw [hR] at hw
      split at hs
      · rename_i c
        simp only [Bool.and_eq_true, beq_iff_eq, decide_eq_true_eq] at c
        obtain ⟨⟨⟨⟨c1, c2⟩, c3⟩, c4⟩, c5⟩ := c
        obtain ⟨x, v1, rfl, e1, e2⟩ := hst
        obtain ⟨ad, f1, f2⟩ := g.ref c1
        rw [e1] at f1
        cases f1
        obtain ⟨e, he, hc⟩ := ok.1 ad _ f2
        obtain ⟨fs, rfl, hlen, hty⟩ := k_cell0 c2 hc
        rw [c3] at he
        split at hs
        · rename_i u hu
          cases hs
          have hm := List.mem_of_find?_eq_some hu
          have h2 := List.find?_some hu
          simp only [Bool.and_eq_true, beq_iff_eq] at h2
          obtain ⟨ad', ci', fs', v, k1, k2, k3, k4⟩ := g.2.2.2.2.2 u hm
          rw [h2.1, e1] at k1
          cases k1
          rw [he] at k2
          cases k2
          rw [h2.2] at k3
          refine tt_get (pg_k q.1 c4) he c5 hw k3 hd ?_
          exact kn.here (s := (S, pc + 3, L, u.2.2 :: st')) (List.mem_singleton.mpr rfl) g ok hl ⟨v, v1, rfl, k4, e2⟩
        · split at hs
          · rename_i t ht
            cases hs
            obtain ⟨v, k3, k4⟩ := hty q.2 t ht
            refine tt_get (pg_k q.1 c4) he c5 hw k3 hd ?_
            have g1 := g.app v t k4
            have g2 : k_G Sg (r ++ [v]) h (k_kn (k_new S t) ((a, q.2, S.1) :: S.2.2.2.2.2)) := g1.kn (fun u hu => by
              rcases List.mem_cons.mp hu with rfl | hu
              · exact ⟨ad, q.1, fs, v, k_ap _ e1, he, k3, g.lst v⟩
              · exact g1.2.2.2.2.2 u hu)
            exact kn (k_kn (k_new S t) ((a, q.2, S.1) :: S.2.2.2.2.2), pc + 3, L, S.1 :: st') (List.mem_singleton.mpr rfl) [v] h lv _ g2 ok (hl.app _) ⟨v, v1, rfl, g.lst v, e2.app _⟩
          · cases hs
      · cases hs
    · cases hs
  · cases hs
theorem k_put_ok {ix : Nat} (hR : pg_R own = M.1.cls) (hd : decode M.2.1 pc = .ok (.putfield ix, 3)) (hs : k_put Lb W own S pc ix L st = some ss) (g : k_G Sg r h S) (ok : k_ok Sg cA Lb W h0 h) (hl : k_lv r L lv) (hst : k_st r st vs) (kn : k_next (k_TT l D tys A X fr lo M Q) Sg cA Lb W h0 r ss) : k_TT l D tys A X fr lo M Q pc lv vs h := by
  unfold k_put at hs
  split at hs
  · rename_i v a st'
    split at hs
    · rename_i q eq
      have hw := pg_fw own _ (k_fd_ok eq)
      dsimp only at hw
      rw [hR] at hw
      split at hs
      · rename_i c
        simp only [Bool.and_eq_true, beq_iff_eq, decide_eq_true_eq, Bool.not_eq_true'] at c
        obtain ⟨⟨⟨⟨⟨⟨⟨⟨c1, c2⟩, c3⟩, c4⟩, c5⟩, c6⟩, c7⟩, c8⟩, c9⟩ := c
        split at hs
        · rename_i t ht
          split at hs
          · rename_i cs
            cases hs
            obtain ⟨xv, v1, rfl, e1, x, v2, rfl, e2, e3⟩ := hst
            obtain ⟨ad, f1, f2⟩ := g.ref c1
            rw [e2] at f1
            cases f1
            obtain ⟨e, he, hc⟩ := ok.1 ad _ f2
            obtain ⟨fs, rfl, hlen, hty⟩ := k_cell0 c2 hc
            have c3' := c3
            rw [c3] at he
            obtain ⟨xv', m1, m2⟩ := g.at_ (v := v) (k_sub_9 cs)
            rw [e1] at m1
            cases m1
            have hfit := k_fit_ok c9 m2
            refine tt_put (pg_k q.1 c4) he c5 hw c8 hfit.1 hfit.2 (by omega) hd ?_
            have ok' : k_ok Sg cA Lb W h0 (ch_up h ad (.inr (q.1, fs.set q.2 xv))) := by
              refine ⟨ok.1.put f2 (Or.inl ⟨c2, fs.set q.2 xv, by rw [c3'], by rw [List.length_set]; exact hlen, fun k' t' hk' => ?_⟩), ok.2.putO f2 he c7⟩
              by_cases hkk : q.2 = k'
              · subst hkk
                rw [ht] at hk'
                cases hk'
                exact ⟨xv, by rw [List.getElem?_set_self (by omega)], k_sub_ok cs m2⟩
              · rw [List.getElem?_set_ne hkk]
                exact hty k' t' hk'
            refine kn (k_kn S ((a, q.2, v) :: S.2.2.2.2.2.filter (k_keep S (k_ty S a).2.1.toNat q.2)), pc + 3, L, st') (List.mem_singleton.mpr rfl) [] _ lv _ ?_ ok' (by rw [List.append_nil]; exact hl) (by rw [List.append_nil]; exact e3)
            rw [List.append_nil]
            refine g.kn (fun u hu => ?_)
            rcases List.mem_cons.mp hu with rfl | hu
            · exact ⟨ad, q.1, fs.set q.2 xv, xv, e2, ch_up_s _ _ _, by dsimp only; rw [List.getElem?_set_self (by omega)], e1⟩
            · obtain ⟨hu1, hu2⟩ := List.mem_filter.mp hu
              obtain ⟨ad', ci', fs', w, k1, k2, k3, k4⟩ := g.2.2.2.2.2 u hu1
              by_cases had : ad' = ad
              · subst had
                rw [he] at k2
                cases k2
                have hne : q.2 ≠ u.2.1 := by
                  intro hne
                  simp only [k_keep, Bool.or_eq_true, Bool.not_eq_true', beq_eq_false_iff_ne, ne_eq, Bool.and_eq_true, beq_iff_eq] at hu2
                  rcases hu2 with hu2 | ⟨hu2, hu3⟩
                  · exact hu2 hne.symm
                  · obtain ⟨ad2, p1, p2⟩ := g.ref hu2
                    rw [k1] at p1
                    cases p1
                    rw [f2] at p2
                    exact hu3 (Option.some.inj p2).symm
                exact ⟨ad', q.1, fs.set q.2 xv, w, k1, ch_up_s _ _ _, by rw [List.getElem?_set_ne hne]; exact k3, k4⟩
              · exact ⟨ad', ci', fs', w, k1, by rw [ch_up_n _ _ had]; exact k2, k3, k4⟩
          · cases hs
        · cases hs
      · cases hs
    · cases hs
  · cases hs
theorem k_um_ok (I : k_I) (c o : Int) : ∀ (n : Nat) (j m : Int), j ≤ m → m ≤ j + n → (k_um I c o n j).1 = 0 ∧ (k_um I c o n j).2.1 ≤ (k_el I (c * m + o).toNat).2.1 ∧ (k_el I (c * m + o).toNat).2.2 ≤ (k_um I c o n j).2.2
  | 0, j, m, h1, h2 => by
    have : m = j := by omega
    subst this
    exact ⟨rfl, Int.le_refl _, Int.le_refl _⟩
  | n + 1, j, m, h1, h2 => by
    by_cases hj : m = j
    · subst hj
      exact ⟨rfl, by simp only [k_um]; omega, by simp only [k_um]; omega⟩
    · have ih := k_um_ok I c o n (j + 1) m (by omega) (by omega)
      exact ⟨rfl, by simp only [k_um]; omega, by simp only [k_um]; omega⟩
theorem k_el_1 {I : k_I} (h1 : I.2.2.2.length = 1) (i : Nat) : k_el I i = k_el I 0 := by
  unfold k_el
  rw [if_pos h1, if_pos h1]
theorem k_elT_ok {I : k_I} (g : k_G Sg r h S) {i : Nat} {x z : Int32} (hi : r[i]? = some (.int x)) (h0 : 0 ≤ x.toInt) (hz : (k_el I x.toInt.toNat).2.1 ≤ z.toInt ∧ z.toInt ≤ (k_el I x.toInt.toNat).2.2) : k_v Sg (.int z) (k_elT I S i) := by
  unfold k_elT
  split
  · rename_i h1
    rw [k_el_1 h1] at hz
    exact k_vi hz.1 hz.2
  · split
    · rename_i h2
      obtain ⟨y, e1, e2⟩ := g.lin hi
      have iy := g.iv h2 e1
      have := k_um_ok I (k_lin S i).1 (k_lin S i).2.2 (k_hi S (k_lin S i).2.1 - k_lo S (k_lin S i).2.1).toNat (k_lo S (k_lin S i).2.1) y.toInt iy.1 (by omega)
      rw [← e2] at this
      unfold k_v
      rw [this.1]
      exact ⟨z, rfl, by omega, by omega⟩
    · exact k_vt z
theorem k_im_ok (I : k_I) (c o : Int) : ∀ (n : Nat) (j m : Int), j ≤ m → m ≤ j + n → (k_im I c o n j).1 = 0 ∧ (k_el I (c * m + o).toNat).2.1 ≤ (k_im I c o n j).2.1 ∧ (k_im I c o n j).2.2 ≤ (k_el I (c * m + o).toNat).2.2
  | 0, j, m, h1, h2 => by
    have : m = j := by omega
    subst this
    exact ⟨rfl, Int.le_refl _, Int.le_refl _⟩
  | n + 1, j, m, h1, h2 => by
    by_cases hj : m = j
    · subst hj
      exact ⟨rfl, by simp only [k_im]; omega, by simp only [k_im]; omega⟩
    · have ih := k_im_ok I c o n (j + 1) m (by omega) (by omega)
      exact ⟨rfl, by simp only [k_im]; omega, by simp only [k_im]; omega⟩
theorem k_elI_ok {I : k_I} (g : k_G Sg r h S) {i : Nat} {x y : Int32} (hi : r[i]? = some (.int x)) (hv : k_v Sg (.int y) (k_elI I S i)) : (k_el I x.toInt.toNat).2.1 ≤ y.toInt ∧ y.toInt ≤ (k_el I x.toInt.toNat).2.2 := by
  unfold k_elI at hv
  split at hv
  · rename_i h1
    rw [k_el_1 h1]
    obtain ⟨y', ey, b1, b2⟩ := hv
    cases ey
    exact ⟨b1, b2⟩
  · split at hv
    · rename_i h2
      obtain ⟨z, e1, e2⟩ := g.lin hi
      have iz := g.iv h2 e1
      have := k_im_ok I (k_lin S i).1 (k_lin S i).2.2 (k_hi S (k_lin S i).2.1 - k_lo S (k_lin S i).2.1).toNat (k_lo S (k_lin S i).2.1) z.toInt iz.1 (by omega)
      rw [← e2] at this
      unfold k_v at hv
      rw [this.1] at hv
      obtain ⟨y', ey, b1, b2⟩ := hv
      cases ey
      exact ⟨by omega, by omega⟩
    · obtain ⟨y', ey, b1, b2⟩ := hv
      dsimp only at b1 b2
      omega
theorem k_inb_ok (g : k_G Sg r h S) {i n : Nat} {v : Value} (hb : k_inb S i n = true) (hi : r[i]? = some v) : ∃ x : Int32, v = .int x ∧ 0 ≤ x.toInt ∧ vp_in x n ∧ x.toNatClampNeg < n ∧ x.toNatClampNeg = x.toInt.toNat := by
  simp only [k_inb, Bool.and_eq_true, k_isI, beq_iff_eq, decide_eq_true_eq] at hb
  obtain ⟨x, e1, -⟩ := g.int hb.1.1
  rw [hi] at e1
  cases e1
  have iv := g.iv hb.1.1 hi
  have hc := kn_cl (x := x) (by omega)
  exact ⟨x, rfl, by omega, kn_in (by omega) (by omega), by omega, rfl⟩
theorem k_ald_ok {ts : List Nat} (hT : k_tys tys cA) (hts : (∀ t ∈ ts, t = 0) ∧ decode M.2.1 pc = .ok (.iaload, 1) ∨ (∀ t ∈ ts, t = 1 ∨ t = 2) ∧ decode M.2.1 pc = .ok (.baload, 1)) (hs : k_ald Lb ts S pc L st = some ss) (g : k_G Sg r h S) (ok : k_ok Sg cA Lb W h0 h) (hl : k_lv r L lv) (hst : k_st r st vs) (kn : k_next (k_TT l D tys A X fr lo M Q) Sg cA Lb W h0 r ss) : k_TT l D tys A X fr lo M Q pc lv vs h := by
  unfold k_ald at hs
  split at hs
  · rename_i i a st'
    split at hs
    · rename_i c
      simp only [Bool.and_eq_true, beq_iff_eq, decide_eq_true_eq] at c
      obtain ⟨⟨⟨c1, c2⟩, c3⟩, c4⟩ := c
      cases hs
      obtain ⟨xi, v1, rfl, e1, xa, v2, rfl, e2, e3⟩ := hst
      obtain ⟨x, rfl, p0, p1, p2, p3⟩ := k_inb_ok g c4 e1
      obtain ⟨ad, f1, f2⟩ := g.ref c1
      rw [e2] at f1
      cases f1
      obtain ⟨e, he, hc⟩ := ok.1 ad _ f2
      obtain ⟨f, rfl, hf⟩ := k_cell1 c2 hc
      have hz := hf x.toNatClampNeg p2
      rw [p3] at hz
      have hv : k_v Sg (.int (f x.toNatClampNeg)) (k_elT (Lb (k_ty S a).2.1.toNat) S i) := k_elT_ok g e1 p0 (by rw [p3]; exact hz)
      have fin := kn (k_new S (k_elT (Lb (k_ty S a).2.1.toNat) S i), pc + 1, L, S.1 :: st') (List.mem_singleton.mpr rfl) [.int (f x.toNatClampNeg)] h lv (.int (f x.toNatClampNeg) :: v2) (g.app _ _ hv) ok (hl.app _) ⟨_, v2, rfl, g.lst _, e3.app _⟩
      rcases hts with ⟨ht, hd⟩ | ⟨ht, hd⟩
      · have ht := ht _ c3
        have h0t := hT 0 (by decide)
        rw [ht] at he
        exact tt_iald he h0t p1 hd fin
      · rcases ht _ c3 with ht | ht
        · have h0t := hT 1 (by decide)
          rw [ht] at he
          exact tt_zald he h0t p1 hd fin
        · have h0t := hT 2 (by decide)
          rw [ht] at he
          exact tt_bald he h0t p1 hd fin
    · cases hs
  · cases hs
theorem k_aald_ok (hT : k_tys tys cA) (hd : decode M.2.1 pc = .ok (.aaload, 1)) (hs : k_aald Lb S pc L st = some ss) (g : k_G Sg r h S) (ok : k_ok Sg cA Lb W h0 h) (hl : k_lv r L lv) (hst : k_st r st vs) (kn : k_next (k_TT l D tys A X fr lo M Q) Sg cA Lb W h0 r ss) : k_TT l D tys A X fr lo M Q pc lv vs h := by
  unfold k_aald at hs
  split at hs
  · rename_i i a st'
    split at hs
    · rename_i c
      simp only [Bool.and_eq_true, beq_iff_eq, decide_eq_true_eq] at c
      obtain ⟨⟨⟨⟨c1, c2⟩, c3⟩, c5⟩, c4⟩ := c
      cases hs
      obtain ⟨xi, v1, rfl, e1, xa, v2, rfl, e2, e3⟩ := hst
      obtain ⟨x, rfl, p0, p1, p2, p3⟩ := k_inb_ok g c4 e1
      obtain ⟨ad, f1, f2⟩ := g.ref c1
      rw [e2] at f1
      cases f1
      obtain ⟨e, he, hc⟩ := ok.1 ad _ f2
      obtain ⟨f, rfl, hf⟩ := k_cell2 c2 hc
      have hz := hf x.toNatClampNeg p2
      rw [k_el_1 c5] at hz
      have fin := kn (k_new S (k_el (Lb (k_ty S a).2.1.toNat) 0), pc + 1, L, S.1 :: st') (List.mem_singleton.mpr rfl) [va_rf (f x.toNatClampNeg)] h lv (va_rf (f x.toNatClampNeg) :: v2) (g.app _ _ hz) ok (hl.app _) ⟨_, v2, rfl, g.lst _, e3.app _⟩
      simp only [List.mem_cons, List.not_mem_nil, or_false] at c3
      rcases c3 with c3 | c3 | c3
      · have h0t := hT 3 (by decide)
        rw [c3] at he
        exact tt_aald he rfl h0t p1 hd fin
      · have h0t := hT 4 (by decide)
        rw [c3] at he
        exact tt_aald he rfl h0t p1 hd fin
      · have h0t := hT 5 (by decide)
        rw [c3] at he
        exact tt_aald he rfl h0t p1 hd fin
    · cases hs
  · cases hs
theorem k_ast_ok {t : Nat} {bd : k_T} (hT : k_tys tys cA) (hts : (t = 0 ∧ decode M.2.1 pc = .ok (.iastore, 1)) ∨ (t = 1 ∧ bd = (0, 0, 1) ∧ decode M.2.1 pc = .ok (.bastore, 1))) (hs : k_ast Lb W t bd S pc L st = some ss) (g : k_G Sg r h S) (ok : k_ok Sg cA Lb W h0 h) (hl : k_lv r L lv) (hst : k_st r st vs) (kn : k_next (k_TT l D tys A X fr lo M Q) Sg cA Lb W h0 r ss) : k_TT l D tys A X fr lo M Q pc lv vs h := by
  unfold k_ast at hs
  split at hs
  · rename_i v i a st'
    split at hs
    · rename_i c
      simp only [Bool.and_eq_true, beq_iff_eq, decide_eq_true_eq, k_isI] at c
      obtain ⟨⟨⟨⟨⟨⟨⟨c1, c2⟩, c3⟩, c5⟩, c6⟩, c7⟩, c8⟩, c9⟩ := c
      cases hs
      obtain ⟨xv, v1, rfl, e1, xi, v2, rfl, e2, xa, v3, rfl, e3, e4⟩ := hst
      obtain ⟨x, rfl, p0, p1, p2, p3⟩ := k_inb_ok g c5 e2
      obtain ⟨y, q1, -⟩ := g.int c6
      rw [e1] at q1
      cases q1
      obtain ⟨y', q1, q2⟩ := g.at_ (v := v) (by rw [c6]; decide)
      rw [e1] at q1
      cases q1
      obtain ⟨ad, f1, f2⟩ := g.ref c1
      rw [e3] at f1
      cases f1
      obtain ⟨e, he, hc⟩ := ok.1 ad _ f2
      obtain ⟨f, rfl, hf⟩ := k_cell1 c2 hc
      have hb := k_elI_ok g e2 (k_sub_ok c7 q2)
      have ok' : k_ok Sg cA Lb W h0 (ch_up h ad (.inl (cA (Lb (k_ty S a).2.1.toNat).2.1, (Lb (k_ty S a).2.1.toNat).2.2.1, .inl (upd f x.toNatClampNeg y)))) := by
        refine ⟨ok.1.put f2 (Or.inr (Or.inl ⟨c2, _, rfl, fun j hj => ?_⟩)), ok.2.putA f2 he c9⟩
        by_cases hjx : j = x.toNatClampNeg
        · rw [hjx, pk_us, p3]
          exact hb
        · rw [pk_un hjx]
          exact hf j hj
      have g' : k_G Sg r (ch_up h ad (.inl (cA (Lb (k_ty S a).2.1.toNat).2.1, (Lb (k_ty S a).2.1.toNat).2.2.1, .inl (upd f x.toNatClampNeg y)))) S := g.heap (fun u hu => by
        obtain ⟨ad', ci', fs', w, k1, k2, k3, k4⟩ := g.2.2.2.2.2 u hu
        have had : ad' ≠ ad := by
          intro q
          subst q
          rw [he] at k2
          cases k2
        exact ⟨ad', ci', fs', w, k1, by rw [ch_up_n _ _ had]; exact k2, k3, k4⟩)
      have fin := kn.here (s := (S, pc + 1, L, st')) (vs := v3) (List.mem_singleton.mpr rfl) g' ok' hl e4
      rcases hts with ⟨rfl, hd⟩ | ⟨rfl, rfl, hd⟩
      · have h0t := hT 0 (by decide)
        rw [c3] at he fin
        exact tt_iast he h0t p1 hd fin
      · have h0t := hT 1 (by decide)
        obtain ⟨y3, ey, b3, b4⟩ := k_sub_ok c8 q2
        cases ey
        rw [c3] at he fin
        refine tt_zast he h0t p1 hd ?_
        rw [(kn_nz b3 b4).2.2]
        exact fin
    · cases hs
  · cases hs
theorem k_alen_ok (hT : k_tys tys cA) (hd : decode M.2.1 pc = .ok (.arraylength, 1)) (hs : k_alen Lb S pc L st = some ss) (g : k_G Sg r h S) (ok : k_ok Sg cA Lb W h0 h) (hl : k_lv r L lv) (hst : k_st r st vs) (kn : k_next (k_TT l D tys A X fr lo M Q) Sg cA Lb W h0 r ss) : k_TT l D tys A X fr lo M Q pc lv vs h := by
  unfold k_alen at hs
  split at hs
  · rename_i a st'
    split at hs
    · rename_i c
      simp only [Bool.and_eq_true, beq_iff_eq, decide_eq_true_eq] at c
      obtain ⟨⟨⟨c1, c2⟩, c3⟩, c4⟩ := c
      obtain ⟨xa, v2, rfl, e2, e3⟩ := hst
      obtain ⟨ad, f1, f2⟩ := g.ref c1
      rw [e2] at f1
      cases f1
      obtain ⟨e, he, hc⟩ := ok.1 ad _ f2
      obtain ⟨f, rfl, hf⟩ := k_cell1 c2 hc
      refine tt_alen he (hT _ c3) hd ?_
      refine k_push_ok (T := k_TT l D tys A X fr lo M Q) hs g ok hl e3 ?_ kn
      have := nI_toInt (n := (Lb (k_ty S a).2.1.toNat).2.2.1) (by omega)
      exact k_vi (by rw [show Int32.ofNat _ = nI _ from rfl, this]; exact Int.le_refl _) (by rw [show Int32.ofNat _ = nI _ from rfl, this]; exact Int.le_refl _)
    · cases hs
  · cases hs
theorem k_arms_ok {T : Nat → List (Nat × Value) → List Value → ch_H → Prop} {a : Nat} {x : Int32} (ka : (k_ty S a).1 = 0) (ha : r[a]? = some (.int x)) (g : k_G Sg r h S) (ok : k_ok Sg cA Lb W h0 h) (hl : k_lv r L lv) (hst : k_st r st vs) (kn : k_next T Sg cA Lb W h0 r ss) : ∀ (ps : List (Int × Int)), (∀ s ∈ k_arms S a pc L st ps, s ∈ ss) → ∀ off : Int, (x.toInt, off) ∈ ps → T (k_tgt pc off) lv vs h
  | [], _, off, hm => absurd hm List.not_mem_nil
  | q :: ps, hss, off, hm => by
    rcases List.mem_cons.mp hm with rfl | hm
    · have hss' : ∀ s ∈ k_arm S a x.toInt pc off L st, s ∈ ss := fun s hs => hss s (List.mem_append_left _ hs)
      have g1 := k_ref_ok g ka ha (Int.le_refl _) (Int.le_refl _)
      unfold k_arm at hss'
      split at hss'
      · rename_i c
        exact absurd c (fun c => k_emp_no g1 (k_ref_k ka ka) c)
      · exact kn.here (s := (k_ref S a x.toInt x.toInt, k_tgt pc off, L, st)) (hss' _ (List.mem_singleton.mpr rfl)) g1 ok hl hst
    · exact k_arms_ok ka ha g ok hl hst kn ps (fun s hs => hss s (List.mem_append_right _ hs)) off hm
theorem k_tab_in (lo9 : Int) : ∀ (k : Nat) (l9 : List Int) (j : Nat) (off : Int), l9[j]? = some off → (lo9 + ((k + j : Nat) : Int), off) ∈ k_tab lo9 k l9
  | _, [], j, off, hj => by simp at hj
  | k, o :: l9, 0, off, hj => by
    simp at hj
    subst hj
    simp [k_tab]
  | k, o :: l9, j + 1, off, hj => by
    have hj' : l9[j]? = some off := by simpa using hj
    have := k_tab_in lo9 (k + 1) l9 j off hj'
    rw [show k + 1 + j = k + (j + 1) by omega] at this
    exact List.mem_cons_of_mem _ this
theorem k_look_in (x d : Int) : ∀ ps : List (Int × Int), (x, Op.lookupswitch.offset ps d x) ∈ ps ∨ Op.lookupswitch.offset ps d x = d
  | [] => Or.inr (Op.lookupswitch.offset_nil d x)
  | (a, o) :: ps => by
    rw [Op.lookupswitch.offset_cons]
    by_cases q : a = x
    · rw [if_pos q, ← q]
      exact Or.inl List.mem_cons_self
    · rw [if_neg q]
      rcases k_look_in x d ps with h | h
      · exact Or.inl (List.mem_cons_of_mem _ h)
      · exact Or.inr h
theorem k_sw_ok {T : Nat → List (Nat × Value) → List Value → ch_H → Prop} {dflt : Int} {ps : List (Int × Int)} (hs : k_sw S pc dflt ps L st = some ss) (g : k_G Sg r h S) (ok : k_ok Sg cA Lb W h0 h) (hl : k_lv r L lv) (hst : k_st r st vs) (kn : k_next T Sg cA Lb W h0 r ss) :
    ∃ (x : Int32) (vs' : List Value), vs = .int x :: vs' ∧ (pc : Int) + dflt = ((k_tgt pc dflt : Nat) : Int) ∧ T (k_tgt pc dflt) lv vs' h ∧ ∀ off : Int, (x.toInt, off) ∈ ps → (pc : Int) + off = ((k_tgt pc off : Nat) : Int) ∧ T (k_tgt pc off) lv vs' h := by
  unfold k_sw at hs
  split at hs
  · rename_i a st'
    split at hs
    · rename_i c
      simp only [Bool.and_eq_true, k_isI, beq_iff_eq] at c
      cases hs
      obtain ⟨xa, v2, rfl, e2, e3⟩ := hst
      obtain ⟨x, f1, -⟩ := g.int c.1.1
      rw [e2] at f1
      cases f1
      refine ⟨x, v2, rfl, k_tgt_ok c.1.2, kn.here (s := (S, k_tgt pc dflt, L, st')) List.mem_cons_self g ok hl e3, fun off ho => ⟨k_tgt_ok (List.all_eq_true.mp c.2 _ ho), ?_⟩⟩
      exact k_arms_ok c.1.1 e2 g ok hl e3 kn ps (fun s hs => List.mem_cons_of_mem _ hs) off ho
    · cases hs
  · cases hs
end
