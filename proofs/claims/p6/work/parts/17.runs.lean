/-! the run is sound -/
def k_rt (Sg : Nat → Option Nat) (ret : Option k_T) (o : Option Value) : Prop := match ret with
  | none => o = none
  | some t => ∃ v, o = some v ∧ k_v Sg v t
def k_QF (Sg : Nat → Option Nat) (cA : Nat → ClassId) (Lb : Nat → k_I) (W : List (Nat × Nat)) (h0 : ch_H) (ret : Option k_T) : Option Value → ch_H → Prop := fun o g => k_ok Sg cA Lb W h0 g ∧ k_rt Sg ret o
def k_K (l : Launch) (D : va_G) (tys : List (ClassId × FieldType)) (A : Nat → Prop) (X : State → Prop) (QF : Option Value → ch_H → Prop) (r : List Value) : List k_Fr → Option Value → ch_H → Prop
  | [], o, g => QF o g
  | f :: fs, o, g => ∀ lv vs, k_lv r f.2.2.1 lv → k_st r f.2.2.2.1 vs → tt l D tys A X f.2.2.2.2.1 f.2.2.2.2.2 0 0 (k_pM f.1) (k_K l D tys A X QF r fs) f.2.1 lv (o.toList ++ vs) g 0 0
def k_sat (l : Launch) (D : va_G) (tys : List (ClassId × FieldType)) (A : Nat → Prop) (X : State → Prop) (Sg : Nat → Option Nat) (cA : Nat → ClassId) (Lb : Nat → k_I) (c : k_C) : Prop :=
  ∀ (h : ch_H) (vals : List Value), k_H Sg cA Lb h → vals.length = c.2.1.length → (∀ (i : Nat) (t : k_T), c.2.1[i]? = some t → ∃ v, vals[i]? = some v ∧ k_v Sg v t) →
    (∀ q ∈ c.2.2.1, ∃ (a ci : Nat) (fs : List Value) (v : Value), vals[q.1]? = some (.ref a) ∧ h a = some (.inr (ci, fs)) ∧ fs[q.2.1]? = some v ∧ k_v Sg v q.2.2) →
    tt l D tys A X c.2.2.2.2.2.1 c.2.2.2.2.2.2 0 0 (k_pM c.1) (fun o g => k_H Sg cA Lb g ∧ k_U Sg c.2.2.2.2.1 h g ∧ k_rt Sg c.2.2.2.1 o) 0 (lv_args 0 vals) [] h 0 0
theorem k_kind_1 {i : Instr} (e : k_kind i = 1) : i = .ireturn := by cases i <;> simp [k_kind] at e ⊢
theorem k_kind_2 {i : Instr} (e : k_kind i = 2) : i = .areturn := by cases i <;> simp [k_kind] at e ⊢
theorem k_kind_3 {i : Instr} (e : k_kind i = 3) : i = .return_ := by cases i <;> simp [k_kind] at e ⊢
theorem k_kind_4 {i : Instr} (e : k_kind i = 4) : i = .invokevirtual (k_ix i) := by cases i <;> simp [k_kind, k_ix] at e ⊢
theorem k_kind_5 {i : Instr} (e0 : ¬ k_kind i = 0) (e1 : ¬ k_kind i = 1) (e2 : ¬ k_kind i = 2) (e3 : ¬ k_kind i = 3) (e4 : ¬ k_kind i = 4) : i = .invokestatic (k_ix i) := by cases i <;> simp [k_kind, k_ix] at e0 e1 e2 e3 e4 ⊢
theorem k_st_app {r : List Value} : ∀ (a b : List Nat) (vs : List Value), k_st r (a ++ b) vs → ∃ x y, vs = x ++ y ∧ k_st r a x ∧ k_st r b y
  | [], b, vs, h => ⟨[], vs, rfl, rfl, h⟩
  | v :: a, b, vs, ⟨x, vs', e1, e2, e3⟩ => by
    obtain ⟨x1, y1, p1, p2, p3⟩ := k_st_app a b vs' e3
    exact ⟨x :: x1, y1, by rw [e1, p1]; rfl, ⟨x, x1, rfl, e2, p2⟩, p3⟩
theorem k_st_cat {r : List Value} : ∀ (a b : List Nat) (x y : List Value), k_st r a x → k_st r b y → k_st r (a ++ b) (x ++ y)
  | [], b, x, y, h1, h2 => by
    have h1 : x = [] := h1
    subst h1
    exact h2
  | v :: a, b, x, y, ⟨x1, x2, e1, e2, e3⟩, h2 => ⟨x1, x2 ++ y, by rw [e1]; rfl, e2, k_st_cat a b x2 y e3 h2⟩
theorem k_st_rev {r : List Value} : ∀ (a : List Nat) (x : List Value), k_st r a x → k_st r a.reverse x.reverse
  | [], x, h => by
    have h : x = [] := h
    subst h
    rfl
  | v :: a, x, ⟨x1, x2, e1, e2, e3⟩ => by
    rw [e1, List.reverse_cons, List.reverse_cons]
    exact k_st_cat _ _ _ _ (k_st_rev a x2 e3) ⟨x1, [], rfl, e2, rfl⟩
theorem k_st_len {r : List Value} : ∀ (a : List Nat) (x : List Value), k_st r a x → x.length = a.length
  | [], x, h => by
    have h : x = [] := h
    subst h
    rfl
  | v :: a, x, ⟨x1, x2, e1, e2, e3⟩ => by
    rw [e1, List.length_cons, List.length_cons, k_st_len a x2 e3]
theorem k_st_at {r : List Value} : ∀ (a : List Nat) (x : List Value), k_st r a x → ∀ (i v : Nat), a[i]? = some v → ∃ w, x[i]? = some w ∧ r[v]? = some w
  | [], x, h, i, v, hv => by simp at hv
  | u :: a, x, ⟨x1, x2, e1, e2, e3⟩, i, v, hv => by
    subst e1
    cases i with
    | zero =>
      have hv : u = v := by simpa using hv
      subst hv
      exact ⟨x1, rfl, e2⟩
    | succ i =>
      have hv : a[i]? = some v := by simpa using hv
      obtain ⟨w, p1, p2⟩ := k_st_at a x2 e3 i v hv
      exact ⟨w, by simpa using p1, p2⟩
section
variable {Sg : Nat → Option Nat} {cA : Nat → ClassId} {Lb : Nat → k_I} {W : List (Nat × Nat)} {h0 h : ch_H} {r : List Value} {S : k_S} {lv : List (Nat × Value)} {vs : List Value}
variable {l : Launch} {D : va_G} {tys : List (ClassId × FieldType)} {A : Nat → Prop} {X : State → Prop} {QF : Option Value → ch_H → Prop}
theorem k_K_mono (t : List Value) : ∀ (fs : List k_Fr) (o : Option Value) (g : ch_H), k_K l D tys A X QF (r ++ t) fs o g → k_K l D tys A X QF r fs o g
  | [], _, _, hk => hk
  | f :: fs, o, g, hk => fun lv vs h1 h2 => tt_mono (fun o g => k_K_mono t fs o g) (hk lv vs (h1.app t) (h2.app t))
theorem k_rw_ok (g : k_G Sg r h S) : ∀ (st : List Nat) (vs : List Value), k_st r st vs → (vs.map fun v => v.category).sum ≤ k_rw S st
  | [], vs, hs => by
    have hs : vs = [] := hs
    subst hs
    exact Nat.le_refl _
  | v :: st, vs, ⟨x, vs', e1, e2, e3⟩ => by
    subst e1
    have ih := k_rw_ok g st vs' e3
    simp only [List.map_cons, List.sum_cons, k_rw]
    split
    · rename_i c
      obtain ⟨x', f1, f2⟩ := g.at_ (v := v) (k_one_9 c)
      rw [e2] at f1
      cases f1
      have := k_cat c f2
      omega
    · rcases lv_cat x with hc | hc <;> omega
theorem k_args_lv : ∀ (n : Nat) (a : List Nat) (x : List Value), k_st r a x → (∀ v ∈ x, v.category = 1) → k_lv r (k_ln n a) (lv_args n x)
  | _, [], x, _, _ => fun q hq => absurd hq List.not_mem_nil
  | n, v :: a, x, ⟨x1, x2, e1, e2, e3⟩, hc => by
    subst e1
    intro q hq
    have h1 : ¬ x1.category = 2 := by rw [hc x1 List.mem_cons_self]; decide
    rcases List.mem_cons.mp hq with rfl | hq
    · exact ⟨x1, e2, List.mem_cons_self⟩
    · obtain ⟨y, p1, p2⟩ := k_args_lv (n + 1) a x2 e3 (fun w hw => hc w (List.mem_cons_of_mem _ hw)) q hq
      refine ⟨y, p1, ?_⟩
      simp only [lv_args]
      rw [if_neg h1]
      exact List.mem_cons_of_mem _ p2
theorem k_sl_len : ∀ (x : List Value), (∀ v ∈ x, v.category = 1) → (lg_sl x).length = x.length
  | [], _ => rfl
  | v :: x, hc => by
    have h1 : ¬ v.category = 2 := by rw [hc v List.mem_cons_self]; decide
    have ih := k_sl_len x (fun w hw => hc w (List.mem_cons_of_mem _ hw))
    simp only [lg_sl, List.flatMap_cons, List.length_append] at ih ⊢
    rw [if_neg h1, ih, List.length_cons]
    simp
    omega
theorem k_sl_rw : ∀ (x : List Value), (lg_sl x).length = (x.map fun v => v.category).sum
  | [] => rfl
  | v :: x => by
    have ih := k_sl_rw x
    simp only [lg_sl, List.flatMap_cons, List.length_append, List.map_cons, List.sum_cons] at ih ⊢
    rw [ih]
    rcases lv_cat v with hc | hc <;> simp [hc]
theorem k_args_cat (g : k_G Sg r h S) {a : List Nat} {x : List Value} (hs : k_st r a x) (ha : a.all (fun v => k_one (k_ty S v)) = true) : ∀ v ∈ x, v.category = 1 := by
  intro w hw
  obtain ⟨i, hi⟩ := List.getElem?_of_mem hw
  have hlen := k_st_len a x hs
  have hlt := (List.getElem?_eq_some_iff.mp hi).1
  have hai : a[i]? = some a[i] := List.getElem?_eq_getElem (by omega)
  obtain ⟨w', p1, p2⟩ := k_st_at a x hs i _ hai
  rw [hi] at p1
  cases p1
  have hone := List.all_eq_true.mp ha _ (List.mem_of_getElem? hai)
  obtain ⟨w2, f1, f2⟩ := g.at_ (v := a[i]) (k_one_9 hone)
  rw [p2] at f1
  cases f1
  exact k_cat hone f2
theorem k_subs_ok (g : k_G Sg r h S) : ∀ (a : List Nat) (ts : List k_T) (x : List Value), k_subs S a ts = true → k_st r a x → x.length = ts.length ∧ ∀ (i : Nat) (t : k_T), ts[i]? = some t → ∃ v, x[i]? = some v ∧ k_v Sg v t
  | [], [], x, _, hs => by
    have hs : x = [] := hs
    subst hs
    exact ⟨rfl, fun i t ht => by simp at ht⟩
  | v :: a, t :: ts, x, e, ⟨x1, x2, e1, e2, e3⟩ => by
    subst e1
    simp only [k_subs, Bool.and_eq_true] at e
    obtain ⟨i1, i2⟩ := k_subs_ok g a ts x2 e.2 e3
    refine ⟨by simp [i1], fun i u hu => ?_⟩
    cases i with
    | zero =>
      have hu : t = u := by simpa using hu
      subst hu
      obtain ⟨w, f1, f2⟩ := g.at_ (v := v) (k_sub_9 e.1)
      rw [e2] at f1
      cases f1
      exact ⟨x1, rfl, k_sub_ok e.1 f2⟩
    | succ i =>
      have hu : ts[i]? = some u := by simpa using hu
      obtain ⟨w, p1, p2⟩ := i2 i u hu
      exact ⟨w, by simpa using p1, p2⟩
  | [], _ :: _, _, e, _ => by simp [k_subs] at e
  | _ :: _, [], _, e, _ => by simp [k_subs] at e
theorem k_kno_ok (g : k_G Sg r h S) {a : List Nat} {x : List Value} (hs : k_st r a x) {q : Nat × Nat × k_T} (e : k_kno S a q = true) : ∃ (ad ci : Nat) (fs : List Value) (v : Value), x[q.1]? = some (.ref ad) ∧ h ad = some (.inr (ci, fs)) ∧ fs[q.2.1]? = some v ∧ k_v Sg v q.2.2 := by
  unfold k_kno at e
  split at e
  · rename_i u hu
    split at e
    · rename_i w hw
      obtain ⟨ad, ci, fs, v, k1, k2, k3, k4⟩ := k_fk_ok g hw
      obtain ⟨y, p1, p2⟩ := k_st_at a x hs q.1 u hu
      rw [k1] at p2
      cases p2
      obtain ⟨v', f1, f2⟩ := g.at_ (v := w) (k_sub_9 e)
      rw [k4] at f1
      cases f1
      exact ⟨ad, ci, fs, v, p1, k2, k3, k_sub_ok e f2⟩
    · cases e
  · cases e
theorem k_abs_ok {a : Nat} {x : Int32} (g : k_G Sg r h S) (ka : (k_ty S a).1 = 0) (ha : r[a]? = some (.int x)) : k_G Sg (r ++ [.int (if 0 ≤ x then x else 0 - x)]) h (k_abs S a) := by
  have ia := g.iv ka ha
  have rx := fb_rng x
  have z0 : (0 : Int32).toInt = 0 := rfl
  unfold k_abs
  by_cases c : -2147483648 < k_lo S a
  · rw [if_pos c]
    by_cases hx : 0 ≤ x
    · rw [if_pos hx]
      rw [kn_le, z0] at hx
      exact g.app _ _ (k_vi (by omega) (by omega))
    · rw [if_neg hx]
      rw [kn_le, z0] at hx
      have e := fb_subI (x := 0) (y := x) (by rw [z0]; omega) (by rw [z0]; omega)
      rw [z0] at e
      exact g.app _ _ (k_vi (by omega) (by omega))
  · rw [if_neg c]
    exact g.top _
end
