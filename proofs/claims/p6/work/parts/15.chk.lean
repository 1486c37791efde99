/-! the checker: frames, contracts, points, measures -/
/-- method, pc, locals, stack, frames' room, locals' room -/
abbrev k_Fr : Type := Nat × Nat × List (Nat × Nat) × List Nat × Nat × Nat
/-- a contract: method, arguments, known fields of arguments (argument, field, type), what it answers, what it may write, frames' room, locals' room -/
abbrev k_C : Type := Nat × List k_T × List (Nat × Nat × k_T) × Option k_T × List (Nat × Nat) × Nat × Nat
/-- a point: pc, locals, known fields (place among the locals listed, field, type), measure (coefficient, place) and constant -/
abbrev k_Pt : Type := Nat × List (Nat × k_T) × List (Nat × Nat × k_T) × List (Int × Nat) × Int
def k_num : Nat → List k_T → List (Nat × k_T)
  | _, [] => []
  | n, t :: l => (n, t) :: k_num (n + 1) l
def k_lnum : Nat → List (Nat × k_T) → List (Nat × Nat)
  | _, [] => []
  | n, q :: l => (q.1, n) :: k_lnum (n + 1) l
def k_knum : Nat → List (Nat × Nat × k_T) → List (Nat × Nat × Nat)
  | _, [] => []
  | n, q :: l => (q.1, q.2.1, n) :: k_knum (n + 1) l
def k_init (Ls : List (Nat × k_T)) (Ks : List (Nat × Nat × k_T)) : k_S := (Ls.length + Ks.length, k_num 0 (Ls.map (fun q => q.2) ++ Ks.map (fun q => q.2.2)), [], [], [], k_knum Ls.length Ks)
def k_fk (S : k_S) (a k : Nat) : Option Nat := (S.2.2.2.2.2.find? (fun u => u.1 == a && u.2.1 == k)).map (fun u => u.2.2)
def k_selL (S : k_S) (L : List (Nat × Nat)) : List (Nat × k_T) → Option (List Nat)
  | [] => some []
  | q :: l => match k_loc L q.1 with
    | some v => if k_sub (k_ty S v) q.2 then (k_selL S L l).map (fun vl => v :: vl) else none
    | none => none
def k_selK (S : k_S) (vl : List Nat) : List (Nat × Nat × k_T) → Option (List Nat)
  | [] => some []
  | q :: l => match vl[q.1]? with
    | some a => match k_fk S a q.2.1 with
      | some w => if k_sub (k_ty S w) q.2.2 then (k_selK S vl l).map (fun wl => w :: wl) else none
      | none => none
    | none => none
/-! linear forms -/
def k_iv (r : List Value) (v : Nat) : Int := match r[v]? with | some (.int x) => x.toInt | _ => 0
def k_ev (r : List Value) : List (Int × Nat) → Int
  | [] => 0
  | q :: f => q.1 * k_iv r q.2 + k_ev r f
def k_mg (a : Int) (b : Nat) : List (Int × Nat) → List (Int × Nat)
  | [] => [(a, b)]
  | q :: f => if q.2 = b then (q.1 + a, b) :: f else q :: k_mg a b f
def k_nf (S : k_S) : List (Int × Nat) → List (Int × Nat) × Int
  | [] => ([], 0)
  | q :: f => (k_mg (q.1 * (k_lin S q.2).1) (k_lin S q.2).2.1 (k_nf S f).1, (k_nf S f).2 + q.1 * (k_lin S q.2).2.2)
def k_lb (S : k_S) : List (Int × Nat) → Option Int
  | [] => some 0
  | q :: f => if q.1 = 0 then k_lb S f else if (k_ty S q.2).1 = 0 then (k_lb S f).map (fun m => m + (if 0 ≤ q.1 then q.1 * k_lo S q.2 else q.1 * k_hi S q.2)) else none
def k_co (b : Nat) (f : List (Int × Nat)) : Int := match f.find? (fun q => q.2 == b) with | some q => q.1 | none => 0
def k_rx : List (Nat × Nat × Int) → List (Int × Nat) → List (Int × Nat) × Int
  | [], f => (f, 0)
  | q :: R, f => if 1 ≤ k_co q.1 f ∧ k_co q.2.1 f ≤ -1 then ((k_rx R (k_mg (-1) q.1 (k_mg 1 q.2.1 f))).1, (k_rx R (k_mg (-1) q.1 (k_mg 1 q.2.1 f))).2 + q.2.2) else k_rx R f
def k_low (S : k_S) (f : List (Int × Nat)) (c : Int) : Option Int := (k_lb S (k_rx S.2.2.2.1 (k_nf S f).1).1).map (fun m => m + (k_rx S.2.2.2.1 (k_nf S f).1).2 + (k_nf S f).2 + c)
section
variable {Sg : Nat → Option Nat} {r : List Value} {h : ch_H} {S : k_S}
theorem k_iv_ap {v : Nat} (t : List Value) (hv : v < r.length) : k_iv (r ++ t) v = k_iv r v := by
  unfold k_iv
  rw [List.getElem?_append_left hv]
theorem k_iv_i {v : Nat} {x : Int32} (hv : r[v]? = some (.int x)) : k_iv r v = x.toInt := by
  unfold k_iv
  rw [hv]
theorem k_ev_ap (t : List Value) : ∀ (f : List (Int × Nat)), (∀ q ∈ f, q.2 < r.length) → k_ev (r ++ t) f = k_ev r f
  | [], _ => rfl
  | q :: f, hf => by
    simp only [k_ev]
    rw [k_iv_ap t (hf q List.mem_cons_self), k_ev_ap t f (fun u hu => hf u (List.mem_cons_of_mem _ hu))]
theorem k_ev_app (f g : List (Int × Nat)) : k_ev r (f ++ g) = k_ev r f + k_ev r g := by
  induction f with
  | nil => simp [k_ev]
  | cons q f ih => simp only [List.cons_append, k_ev, ih]; omega
theorem k_ev_neg (f : List (Int × Nat)) : k_ev r (f.map (fun q => (-q.1, q.2))) = - k_ev r f := by
  induction f with
  | nil => simp [k_ev]
  | cons q f ih => simp only [List.map_cons, k_ev, ih, Int.neg_mul]; omega
theorem k_ev_mg (a : Int) (b : Nat) : ∀ f : List (Int × Nat), k_ev r (k_mg a b f) = a * k_iv r b + k_ev r f
  | [] => by simp [k_mg, k_ev]
  | q :: f => by
    unfold k_mg
    split
    · rename_i e
      simp only [k_ev, e, Int.add_mul]
      omega
    · simp only [k_ev, k_ev_mg a b f]
      omega
theorem k_iv_lin (g : k_G Sg r h S) (v : Nat) : k_iv r v = (k_lin S v).1 * k_iv r (k_lin S v).2.1 + (k_lin S v).2.2 := by
  unfold k_lin
  cases hf : S.2.2.1.find? (fun q => q.1 == v) with
  | none => simp
  | some q =>
    have h1 := List.mem_of_find?_eq_some hf
    have h2 := List.find?_some hf
    have h3 : q.1 = v := by simpa using h2
    obtain ⟨x, y, e1, e2, e3⟩ := g.2.2.1 q h1
    rw [h3] at e1
    dsimp only
    rw [k_iv_i e1, k_iv_i e2, e3]
theorem k_ev_nf (g : k_G Sg r h S) : ∀ f : List (Int × Nat), k_ev r f = k_ev r (k_nf S f).1 + (k_nf S f).2
  | [] => rfl
  | q :: f => by
    simp only [k_ev, k_nf, k_ev_mg]
    rw [k_ev_nf g f, k_iv_lin g q.2, Int.mul_add, Int.mul_assoc]
    omega
theorem k_lb_ok (g : k_G Sg r h S) : ∀ (f : List (Int × Nat)) (m : Int), k_lb S f = some m → m ≤ k_ev r f
  | [], m, e => by
    cases e
    exact Int.le_refl _
  | q :: f, m, e => by
    unfold k_lb at e
    simp only [k_ev]
    split at e
    · rename_i z
      have := k_lb_ok g f m e
      rw [z]
      omega
    · split at e
      · rename_i kq
        cases hf : k_lb S f with
        | none => rw [hf] at e; cases e
        | some m' =>
          rw [hf] at e
          have e := Option.some.inj e
          dsimp only at e
          have ih := k_lb_ok g f m' hf
          obtain ⟨x, e1, -⟩ := g.int kq
          have iv := g.iv kq e1
          rw [k_iv_i e1]
          split at e
          · rename_i hq
            have := Int.mul_le_mul_of_nonneg_left iv.1 hq
            omega
          · rename_i hq
            have := Int.mul_le_mul_of_nonpos_left (a := q.1) (by omega) iv.2
            omega
      · cases e
theorem k_rx_ok (g : k_G Sg r h S) : ∀ (R : List (Nat × Nat × Int)), (∀ q ∈ R, q ∈ S.2.2.2.1) → ∀ f : List (Int × Nat), k_ev r (k_rx R f).1 + (k_rx R f).2 ≤ k_ev r f
  | [], _, f => by simp [k_rx]
  | q :: R, hR, f => by
    unfold k_rx
    split
    · have ih := k_rx_ok g R (fun u hu => hR u (List.mem_cons_of_mem _ hu)) (k_mg (-1) q.1 (k_mg 1 q.2.1 f))
      rw [k_ev_mg, k_ev_mg] at ih
      obtain ⟨x, y, e1, e2, e3⟩ := g.2.2.2.1 q (hR q List.mem_cons_self)
      rw [k_iv_i e1, k_iv_i e2] at ih
      dsimp only
      omega
    · exact k_rx_ok g R (fun u hu => hR u (List.mem_cons_of_mem _ hu)) f
theorem k_low_ok (g : k_G Sg r h S) {f : List (Int × Nat)} {c m : Int} (e : k_low S f c = some m) : m ≤ k_ev r f + c := by
  unfold k_low at e
  cases hf : k_lb S (k_rx S.2.2.2.1 (k_nf S f).1).1 with
  | none => rw [hf] at e; cases e
  | some m' =>
    rw [hf] at e
    have e := Option.some.inj e
    dsimp only at e
    have h1 := k_lb_ok g _ _ hf
    have h2 := k_rx_ok g S.2.2.2.1 (fun _ h => h) (k_nf S f).1
    have h3 := k_ev_nf g f
    omega
/-! a point's start -/
theorem k_num_in : ∀ (n : Nat) (l : List k_T) (q : Nat × k_T), q ∈ k_num n l → ∃ i : Nat, l[i]? = some q.2 ∧ q.1 = n + i
  | _, [], q, hq => absurd hq List.not_mem_nil
  | n, t :: l, q, hq => by
    rcases List.mem_cons.mp hq with rfl | hq
    · exact ⟨0, rfl, rfl⟩
    · obtain ⟨i, e1, e2⟩ := k_num_in (n + 1) l q hq
      exact ⟨i + 1, by simpa using e1, by omega⟩
theorem k_lnum_in : ∀ (n : Nat) (l : List (Nat × k_T)) (q : Nat × Nat), q ∈ k_lnum n l → ∃ (i : Nat) (u : Nat × k_T), l[i]? = some u ∧ q.1 = u.1 ∧ q.2 = n + i
  | _, [], q, hq => absurd hq List.not_mem_nil
  | n, t :: l, q, hq => by
    rcases List.mem_cons.mp hq with rfl | hq
    · exact ⟨0, t, rfl, rfl, rfl⟩
    · obtain ⟨i, u, e1, e2, e3⟩ := k_lnum_in (n + 1) l q hq
      exact ⟨i + 1, u, by simpa using e1, e2, by omega⟩
theorem k_knum_in : ∀ (n : Nat) (l : List (Nat × Nat × k_T)) (q : Nat × Nat × Nat), q ∈ k_knum n l → ∃ (i : Nat) (u : Nat × Nat × k_T), l[i]? = some u ∧ q.1 = u.1 ∧ q.2.1 = u.2.1 ∧ q.2.2 = n + i
  | _, [], q, hq => absurd hq List.not_mem_nil
  | n, t :: l, q, hq => by
    rcases List.mem_cons.mp hq with rfl | hq
    · exact ⟨0, t, rfl, rfl, rfl, rfl⟩
    · obtain ⟨i, u, e1, e2, e3, e4⟩ := k_knum_in (n + 1) l q hq
      exact ⟨i + 1, u, by simpa using e1, e2, e3, by omega⟩
theorem k_fk_ok (g : k_G Sg r h S) {a k w : Nat} (e : k_fk S a k = some w) : ∃ (ad ci : Nat) (fs : List Value) (v : Value), r[a]? = some (.ref ad) ∧ h ad = some (.inr (ci, fs)) ∧ fs[k]? = some v ∧ r[w]? = some v := by
  unfold k_fk at e
  cases hf : S.2.2.2.2.2.find? (fun u => u.1 == a && u.2.1 == k) with
  | none => rw [hf] at e; cases e
  | some u =>
    rw [hf] at e
    have e : u.2.2 = w := Option.some.inj e
    have h1 := List.mem_of_find?_eq_some hf
    have h2 := List.find?_some hf
    simp only [Bool.and_eq_true, beq_iff_eq] at h2
    obtain ⟨ad, ci, fs, v, k1, k2, k3, k4⟩ := g.2.2.2.2.2 u h1
    rw [h2.1] at k1
    rw [h2.2] at k3
    rw [e] at k4
    exact ⟨ad, ci, fs, v, k1, k2, k3, k4⟩
theorem k_selL_ok {L : List (Nat × Nat)} {lv : List (Nat × Value)} (g : k_G Sg r h S) (hl : k_lv r L lv) : ∀ (Ls : List (Nat × k_T)) (vl : List Nat), k_selL S L Ls = some vl → vl.length = Ls.length ∧ ∀ (i : Nat) (q : Nat × k_T), Ls[i]? = some q → ∃ (v : Nat) (x : Value), vl[i]? = some v ∧ r[v]? = some x ∧ k_v Sg x q.2 ∧ (q.1, x) ∈ lv
  | [], vl, e => by
    cases e
    exact ⟨rfl, fun i q hq => by simp at hq⟩
  | q :: Ls, vl, e => by
    unfold k_selL at e
    split at e
    · rename_i v hv
      split at e
      · rename_i hs
        cases hf : k_selL S L Ls with
        | none => rw [hf] at e; cases e
        | some vl' =>
          rw [hf] at e
          have e := Option.some.inj e
          subst e
          obtain ⟨i1, i2⟩ := k_selL_ok g hl Ls vl' hf
          refine ⟨by simp [i1], fun i u hu => ?_⟩
          cases i with
          | zero =>
            have hu : q = u := by simpa using hu
            subst hu
            obtain ⟨x, e1, e2⟩ := k_loc_ok hv hl
            obtain ⟨x', f1, f2⟩ := g.at_ (v := v) (k_sub_9 hs)
            rw [e1] at f1
            cases f1
            exact ⟨v, x, rfl, e1, k_sub_ok hs f2, e2⟩
          | succ i =>
            have hu : Ls[i]? = some u := by simpa using hu
            obtain ⟨v', x, p1, p2⟩ := i2 i u hu
            exact ⟨v', x, by simpa using p1, p2⟩
      · cases e
    · cases e
theorem k_selK_ok {vl : List Nat} (g : k_G Sg r h S) : ∀ (Ks : List (Nat × Nat × k_T)) (wl : List Nat), k_selK S vl Ks = some wl → wl.length = Ks.length ∧ ∀ (i : Nat) (q : Nat × Nat × k_T), Ks[i]? = some q → ∃ (a w ad ci : Nat) (fs : List Value) (x : Value), vl[q.1]? = some a ∧ wl[i]? = some w ∧ r[a]? = some (.ref ad) ∧ h ad = some (.inr (ci, fs)) ∧ fs[q.2.1]? = some x ∧ r[w]? = some x ∧ k_v Sg x q.2.2
  | [], wl, e => by
    cases e
    exact ⟨rfl, fun i q hq => by simp at hq⟩
  | q :: Ks, wl, e => by
    unfold k_selK at e
    split at e
    · rename_i a ha
      split at e
      · rename_i w hw
        split at e
        · rename_i hs
          cases hf : k_selK S vl Ks with
          | none => rw [hf] at e; cases e
          | some wl' =>
            rw [hf] at e
            have e := Option.some.inj e
            subst e
            obtain ⟨i1, i2⟩ := k_selK_ok g Ks wl' hf
            refine ⟨by simp [i1], fun i u hu => ?_⟩
            cases i with
            | zero =>
              have hu : q = u := by simpa using hu
              subst hu
              obtain ⟨ad, ci, fs, x, k1, k2, k3, k4⟩ := k_fk_ok g hw
              obtain ⟨x', f1, f2⟩ := g.at_ (v := w) (k_sub_9 hs)
              rw [k4] at f1
              cases f1
              exact ⟨a, w, ad, ci, fs, x, ha, rfl, k1, k2, k3, k4, k_sub_ok hs f2⟩
            | succ i =>
              have hu : Ks[i]? = some u := by simpa using hu
              obtain ⟨a', w', ad, ci, fs, x, p1, p2, p3⟩ := i2 i u hu
              exact ⟨a', w', ad, ci, fs, x, p1, by simpa using p2, p3⟩
        · cases e
      · cases e
    · cases e
/-- what a point asks for stands: with values of its own -/
theorem k_sel_ok {L : List (Nat × Nat)} {lv : List (Nat × Value)} (g : k_G Sg r h S) (hl : k_lv r L lv) {Ls : List (Nat × k_T)} {Ks : List (Nat × Nat × k_T)} {vl wl : List Nat} (e1 : k_selL S L Ls = some vl) (e2 : k_selK S vl Ks = some wl) :
    ∃ r' : List Value, k_G Sg r' h (k_init Ls Ks) ∧ k_lv r' (k_lnum 0 Ls) lv ∧ r'.length = (vl ++ wl).length ∧ ∀ (i v : Nat), (vl ++ wl)[i]? = some v → r'[i]? = r[v]? := by
  obtain ⟨a1, a2⟩ := k_selL_ok g hl Ls vl e1
  obtain ⟨b1, b2⟩ := k_selK_ok g Ks wl e2
  have hex : ∀ (i v : Nat), (vl ++ wl)[i]? = some v → ∃ x, r[v]? = some x := by
    intro i v hv
    by_cases hi : i < vl.length
    · rw [List.getElem?_append_left hi] at hv
      have : Ls[i]? = some Ls[i] := List.getElem?_eq_getElem (by omega)
      obtain ⟨v', x, p1, p2, -⟩ := a2 i _ this
      rw [hv] at p1
      cases p1
      exact ⟨x, p2⟩
    · rw [List.getElem?_append_right (by omega)] at hv
      have hlt := (List.getElem?_eq_some_iff.mp hv).1
      have : Ks[i - vl.length]? = some Ks[i - vl.length] := List.getElem?_eq_getElem (by omega)
      obtain ⟨a, w, ad, ci, fs, x, p1, p2, p3, p4, p5, p6, p7⟩ := b2 _ _ this
      rw [hv] at p2
      cases p2
      exact ⟨x, p6⟩
  refine ⟨(vl ++ wl).map (fun v => r.getD v .null), ?_, ?_, by simp, ?_⟩
  · have hget : ∀ (i v : Nat) (x : Value), (vl ++ wl)[i]? = some v → r[v]? = some x → ((vl ++ wl).map (fun v => r.getD v .null))[i]? = some x := by
      intro i v x hv hx
      rw [List.getElem?_map, hv]
      simp [List.getD, hx]
    refine ⟨by simp [k_init, a1, b1], fun q hq => ?_, fun q hq => absurd hq List.not_mem_nil, fun q hq => absurd hq List.not_mem_nil, fun q hq => absurd hq List.not_mem_nil, fun q hq => ?_⟩
    · obtain ⟨i, p1, p2⟩ := k_num_in 0 _ q hq
      rw [p2, Nat.zero_add]
      by_cases hi : i < Ls.length
      · rw [List.getElem?_append_left (by simpa using hi), List.getElem?_map, List.getElem?_eq_getElem hi] at p1
        have p1 := Option.some.inj p1
        obtain ⟨v, x, q1, q2, q3, -⟩ := a2 i _ (List.getElem?_eq_getElem hi)
        refine ⟨x, hget i v x (by rw [List.getElem?_append_left (by omega)]; exact q1) q2, ?_⟩
        rw [← p1]
        exact q3
      · rw [List.getElem?_append_right (by simpa using hi)] at p1
        simp only [List.length_map] at p1
        rw [List.getElem?_map] at p1
        cases hk : Ks[i - Ls.length]? with
        | none => rw [hk] at p1; cases p1
        | some u =>
          rw [hk] at p1
          have p1 := Option.some.inj p1
          obtain ⟨a, w, ad, ci, fs, x, q1, q2, q3, q4, q5, q6, q7⟩ := b2 _ _ hk
          refine ⟨x, hget i w x (by rw [List.getElem?_append_right (by omega), a1]; exact q2) q6, ?_⟩
          rw [← p1]
          exact q7
    · obtain ⟨i, u, p1, p2, p3, p4⟩ := k_knum_in _ _ q hq
      obtain ⟨a, w, ad, ci, fs, x, q1, q2, q3, q4, q5, q6, q7⟩ := b2 i u p1
      refine ⟨ad, ci, fs, x, ?_, q4, by rw [p3]; exact q5, ?_⟩
      · rw [p2]
        refine hget u.1 a _ ?_ q3
        rw [List.getElem?_append_left (List.getElem?_eq_some_iff.mp q1).1]
        exact q1
      · rw [p4]
        refine hget _ w x ?_ q6
        rw [List.getElem?_append_right (by omega), a1, Nat.add_sub_cancel_left]
        exact q2
  · intro q hq
    obtain ⟨i, u, p1, p2, p3⟩ := k_lnum_in 0 Ls q hq
    obtain ⟨v, x, q1, q2, q3, q4⟩ := a2 i u p1
    refine ⟨x, ?_, by rw [p2]; exact q4⟩
    rw [p3, Nat.zero_add, List.getElem?_map, List.getElem?_append_left (List.getElem?_eq_some_iff.mp q1).1, q1]
    simp [List.getD, q2]
  · intro i v hv
    obtain ⟨x, hx⟩ := hex i v hv
    rw [List.getElem?_map, hv, hx]
    simp [List.getD, hx]
theorem k_ev_sel {r' : List Value} {vw : List Nat} (hv : ∀ (i v : Nat), vw[i]? = some v → r'[i]? = r[v]?) : ∀ (f : List (Int × Nat)), (∀ q ∈ f, q.2 < vw.length) → k_ev r' f = k_ev r (f.map (fun q => (q.1, vw.getD q.2 0)))
  | [], _ => rfl
  | q :: f, hf => by
    have h1 := hf q List.mem_cons_self
    have h2 : vw[q.2]? = some vw[q.2] := List.getElem?_eq_getElem h1
    simp only [List.map_cons, k_ev]
    rw [k_ev_sel hv f (fun u hu => hf u (List.mem_cons_of_mem _ hu))]
    congr 2
    unfold k_iv
    rw [hv _ _ h2]
    simp [List.getD, h2]
end
