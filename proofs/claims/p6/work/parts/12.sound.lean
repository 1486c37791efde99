/-! the step is sound over tt -/
def pg_at : Nat → FieldType
  | 0 => .int
  | 1 => .boolean
  | 2 => .byte
  | 3 => .object RX6
  | 4 => .object RX5
  | 5 => .array .int
  | _ => .long
def k_tys (tys : List (ClassId × FieldType)) (cA : Nat → ClassId) : Prop := ∀ t, t < 7 → tys[t]? = some (cA t, pg_at t)
def k_lv (r : List Value) (L : List (Nat × Nat)) (lv : List (Nat × Value)) : Prop := ∀ q ∈ L, ∃ x, r[q.2]? = some x ∧ (q.1, x) ∈ lv
def k_st (r : List Value) : List Nat → List Value → Prop
  | [], vs => vs = []
  | v :: st, vs => ∃ x vs', vs = x :: vs' ∧ r[v]? = some x ∧ k_st r st vs'
def k_ok (Sg : Nat → Option Nat) (cA : Nat → ClassId) (Lb : Nat → k_I) (W : List (Nat × Nat)) (h0 h : ch_H) : Prop := k_H Sg cA Lb h ∧ k_U Sg W h0 h
def k_next (T : Nat → List (Nat × Value) → List Value → ch_H → Prop) (Sg : Nat → Option Nat) (cA : Nat → ClassId) (Lb : Nat → k_I) (W : List (Nat × Nat)) (h0 : ch_H) (r : List Value) (ss : List k_N) : Prop :=
  ∀ s ∈ ss, ∀ (t : List Value) (g : ch_H) (lv : List (Nat × Value)) (vs : List Value), k_G Sg (r ++ t) g s.1 → k_ok Sg cA Lb W h0 g → k_lv (r ++ t) s.2.2.1 lv → k_st (r ++ t) s.2.2.2 vs → T s.2.1 lv vs g
abbrev k_TT (l : Launch) (D : va_G) (tys : List (ClassId × FieldType)) (A : Nat → Prop) (X : State → Prop) (fr lo : Nat) (M : ch_M) (Q : Option Value → ch_H → Prop) : Nat → List (Nat × Value) → List Value → ch_H → Prop := fun pc lv vs g => tt l D tys A X fr lo 0 0 M Q pc lv vs g 0 0
theorem k_lv.app {r : List Value} {L : List (Nat × Nat)} {lv : List (Nat × Value)} (hl : k_lv r L lv) (t : List Value) : k_lv (r ++ t) L lv := fun q hq => by
  obtain ⟨x, e1, e2⟩ := hl q hq
  exact ⟨x, k_ap _ e1, e2⟩
theorem k_st.app {r : List Value} (t : List Value) : ∀ {st : List Nat} {vs : List Value}, k_st r st vs → k_st (r ++ t) st vs
  | [], _, h => h
  | _ :: _, _, ⟨x, vs', e1, e2, e3⟩ => ⟨x, vs', e1, k_ap _ e2, k_st.app t e3⟩
theorem k_cat {Sg : Nat → Option Nat} {v : Value} {t : k_T} (h1 : k_one t = true) (hv : k_v Sg v t) : v.category = 1 := by
  obtain ⟨tk, tl, th⟩ := t
  simp only [k_one, Bool.or_eq_true, beq_iff_eq] at h1
  rcases h1 with (rfl | rfl) | rfl
  · obtain ⟨x, rfl, -⟩ := hv
    rfl
  · obtain ⟨x, rfl, -⟩ := hv
    rfl
  · rcases hv with rfl | ⟨x, rfl, -⟩
    · rfl
    · rfl
theorem k_one_9 {t : k_T} (h1 : k_one t = true) : t.1 ≠ 9 := by
  intro h9
  simp [k_one, h9] at h1
section
variable {Sg : Nat → Option Nat} {cA : Nat → ClassId} {Lb : Nat → k_I} {W : List (Nat × Nat)} {h0 h : ch_H} {r : List Value} {S : k_S} {pc : Nat} {L : List (Nat × Nat)} {st : List Nat} {lv : List (Nat × Value)} {vs : List Value} {ss : List k_N}
variable {l : Launch} {D : va_G} {tys : List (ClassId × FieldType)} {A : Nat → Prop} {X : State → Prop} {fr lo : Nat} {M : ch_M} {Q : Option Value → ch_H → Prop} {T : Nat → List (Nat × Value) → List Value → ch_H → Prop}
theorem k_next.here (kn : k_next T Sg cA Lb W h0 r ss) {s : k_N} (hs : s ∈ ss) (g : k_G Sg r h s.1) (ok : k_ok Sg cA Lb W h0 h) (hl : k_lv r s.2.2.1 lv) (hst : k_st r s.2.2.2 vs) : T s.2.1 lv vs h :=
  kn s hs [] h lv vs (by rw [List.append_nil]; exact g) ok (by rw [List.append_nil]; exact hl) (by rw [List.append_nil]; exact hst)
theorem k_push_ok {t : k_T} {pc' : Nat} (hs : k_push S t pc' L st = some ss) (g : k_G Sg r h S) (ok : k_ok Sg cA Lb W h0 h) (hl : k_lv r L lv) (hst : k_st r st vs) {v : Value} (hv : k_v Sg v t) (kn : k_next T Sg cA Lb W h0 r ss) : T pc' lv (v :: vs) h := by
  cases hs
  exact kn (k_new S t, pc', L, S.1 :: st) (List.mem_singleton.mpr rfl) [v] h lv (v :: vs) (g.app v t hv) ok (hl.app _) ⟨v, vs, rfl, g.lst v, hst.app _⟩
theorem k_bin_ok {f : k_S → Nat → Nat → k_S} {op : Int32 → Int32 → Int32} (hs : k_bin S pc L st f = some ss) (g : k_G Sg r h S) (ok : k_ok Sg cA Lb W h0 h) (hl : k_lv r L lv) (hst : k_st r st vs)
    (hf : ∀ {a b : Nat} {x y : Int32}, (k_ty S a).1 = 0 → (k_ty S b).1 = 0 → r[a]? = some (.int x) → r[b]? = some (.int y) → k_G Sg (r ++ [.int (op x y)]) h (f S a b))
    (ht : ∀ (x y : Int32) (vs' : List Value), vs = .int y :: .int x :: vs' → T (pc + 1) lv (.int (op x y) :: vs') h → T pc lv vs h) (kn : k_next T Sg cA Lb W h0 r ss) : T pc lv vs h := by
  unfold k_bin at hs
  split at hs
  · rename_i b a st'
    split at hs
    · rename_i c
      simp only [Bool.and_eq_true, k_isI, beq_iff_eq] at c
      cases hs
      obtain ⟨y', v1, rfl, e1, x', v2, rfl, e2, e3⟩ := hst
      obtain ⟨x, f1, -⟩ := g.int c.1
      obtain ⟨y, f2, -⟩ := g.int c.2
      rw [e2] at f1
      rw [e1] at f2
      cases f1; cases f2
      refine ht x y v2 rfl ?_
      exact kn (f S a b, pc + 1, L, S.1 :: st') (List.mem_singleton.mpr rfl) [.int (op x y)] h lv _ (hf c.1 c.2 e2 e1) ok (hl.app _) ⟨_, _, rfl, g.lst _, e3.app _⟩
    · cases hs
  · cases hs
theorem k_long (g : k_G Sg r h S) {v : Nat} (hk : k_isL S v = true) : ∃ x : Int64, r[v]? = some (.long x) := by
  simp only [k_isL, Bool.or_eq_true, beq_iff_eq] at hk
  rcases hk with hk | hk
  · exact g.long hk
  · obtain ⟨x, e, -⟩ := g.long4 hk
    exact ⟨x, e⟩
theorem k_binL_ok {op : Int64 → Int64 → Int64} (hs : k_binL S pc L st = some ss) (g : k_G Sg r h S) (ok : k_ok Sg cA Lb W h0 h) (hl : k_lv r L lv) (hst : k_st r st vs)
    (ht : ∀ (x y : Int64) (vs' : List Value), vs = .long y :: .long x :: vs' → T (pc + 1) lv (.long (op x y) :: vs') h → T pc lv vs h) (kn : k_next T Sg cA Lb W h0 r ss) : T pc lv vs h := by
  unfold k_binL at hs
  split at hs
  · rename_i b a st'
    split at hs
    · rename_i c
      simp only [Bool.and_eq_true] at c
      cases hs
      obtain ⟨y', v1, rfl, e1, x', v2, rfl, e2, e3⟩ := hst
      obtain ⟨x, f1⟩ := k_long g c.1
      obtain ⟨y, f2⟩ := k_long g c.2
      rw [e2] at f1
      rw [e1] at f2
      cases f1; cases f2
      refine ht x y v2 rfl ?_
      exact kn (k_new S (1, 0, 0), pc + 1, L, S.1 :: st') (List.mem_singleton.mpr rfl) [.long (op x y)] h lv _ (g.app _ _ ⟨_, rfl⟩) ok (hl.app _) ⟨_, _, rfl, g.lst _, e3.app _⟩
    · cases hs
  · cases hs
theorem k_loc_ok {i v : Nat} (e : k_loc L i = some v) (hl : k_lv r L lv) : ∃ x, r[v]? = some x ∧ (i, x) ∈ lv := by
  unfold k_loc at e
  cases hf : L.find? (fun q => q.1 == i) with
  | none => rw [hf] at e; cases e
  | some q =>
    rw [hf] at e
    have e : q.2 = v := Option.some.inj e
    have h1 := List.mem_of_find?_eq_some hf
    have h2 := List.find?_some hf
    have h3 : q.1 = i := by simpa using h2
    obtain ⟨x, e1, e2⟩ := hl q h1
    rw [e] at e1
    rw [h3] at e2
    exact ⟨x, e1, e2⟩
theorem k_load_ok {okt : k_T → Bool} {i pc' : Nat} (hs : k_load S okt i pc' L st = some ss) (g : k_G Sg r h S) (ok : k_ok Sg cA Lb W h0 h) (hl : k_lv r L lv) (hst : k_st r st vs)
    (ht : ∀ (v : Nat) (x : Value), okt (k_ty S v) = true → r[v]? = some x → (i, x) ∈ lv → T pc' lv (x :: vs) h → T pc lv vs h) (kn : k_next T Sg cA Lb W h0 r ss) : T pc lv vs h := by
  unfold k_load at hs
  split at hs
  · rename_i v e
    split at hs
    · rename_i c
      cases hs
      obtain ⟨x, e1, e2⟩ := k_loc_ok e hl
      exact ht v x c e1 e2 (kn.here (s := (S, pc', L, v :: st)) (List.mem_singleton.mpr rfl) g ok hl ⟨x, vs, rfl, e1, hst⟩)
    · cases hs
  · cases hs
theorem k_sto_ok (g : k_G Sg r h S) {i v : Nat} {x : Value} {t : List Value} (hl : k_lv r L lv) (hx : (r ++ t)[v]? = some x) : k_lv (r ++ t) (k_sto S i v L) (ch_s1 i x lv) := by
  intro q hq
  rcases List.mem_cons.mp hq with rfl | hq
  · exact ⟨x, hx, List.mem_cons_self⟩
  · obtain ⟨h1, h2⟩ := List.mem_filter.mp hq
    obtain ⟨y, e1, e2⟩ := hl q h1
    refine ⟨y, k_ap _ e1, List.mem_cons_of_mem _ (List.mem_filter.mpr ⟨e2, ?_⟩)⟩
    simp only [Bool.and_eq_true, Bool.not_eq_true', beq_eq_false_iff_ne, Bool.or_eq_true, ne_eq] at h2
    have hcat : q.1 + 1 = i → y.category = 1 := by
      intro hi
      rcases h2.2 with h3 | h3
      · exact absurd hi h3
      · obtain ⟨y', f1, f2⟩ := g.at_ (v := q.2) (k_one_9 h3)
        rw [e1] at f1
        cases f1
        exact k_cat h3 f2
    by_cases hi : q.1 + 1 = i
    · simp [h2.1, hcat hi]
    · simp [h2.1, hi]
theorem k_store_ok {okt : k_T → Bool} {mx i pc' : Nat} (hs : k_store S okt mx i pc' L st = some ss) (g : k_G Sg r h S) (ok : k_ok Sg cA Lb W h0 h) (hl : k_lv r L lv) (hst : k_st r st vs)
    (ht : ∀ (v : Nat) (x : Value) (vs' : List Value), okt (k_ty S v) = true → r[v]? = some x → i < mx → vs = x :: vs' → T pc' (ch_s1 i x lv) vs' h → T pc lv vs h) (kn : k_next T Sg cA Lb W h0 r ss) : T pc lv vs h := by
  unfold k_store at hs
  split at hs
  · rename_i v st'
    split at hs
    · rename_i c
      simp only [Bool.and_eq_true, decide_eq_true_eq] at c
      cases hs
      obtain ⟨x, v1, rfl, e1, e2⟩ := hst
      refine ht v x v1 c.1 e1 c.2 rfl ?_
      exact kn (S, pc', k_sto S i v L, st') (List.mem_singleton.mpr rfl) [] h _ _ (by rw [List.append_nil]; exact g) ok (k_sto_ok g hl (by rw [List.append_nil]; exact e1)) (by rw [List.append_nil]; exact e2)
    · cases hs
  · cases hs
theorem k_alt_ok {a b pc' : Nat} (ka : (k_ty S a).1 = 0) (kb : (k_ty S b).1 = 0) (g : k_G Sg r h S) (ok : k_ok Sg cA Lb W h0 h) (hl : k_lv r L lv) (hst : k_st r st vs) (hss : ∀ s ∈ k_alt S a b pc' L st, s ∈ ss) (kn : k_next T Sg cA Lb W h0 r ss) : T pc' lv vs h := by
  unfold k_alt at hss
  split at hss
  · rename_i c
    simp only [Bool.or_eq_true] at c
    rcases c with c | c
    · exact absurd c (fun c => k_emp_no g ka c)
    · exact absurd c (fun c => k_emp_no g kb c)
  · exact kn.here (s := (S, pc', L, st)) (hss _ (List.mem_singleton.mpr rfl)) g ok hl hst
theorem k_eq_k {a b w : Nat} (ka : (k_ty S a).1 = 0) (kb : (k_ty S b).1 = 0) (kw : (k_ty S w).1 = 0) : (k_ty (k_eq S a b) w).1 = 0 := k_le_k (k_le_k ka kb kb) (k_le_k ka kb ka) (k_le_k ka kb kw)
theorem k_ne1_k {a w : Nat} {c : Int} (ka : (k_ty S a).1 = 0) (kw : (k_ty S w).1 = 0) : (k_ty (k_ne1 S a c) w).1 = 0 := by
  unfold k_ne1
  split
  · exact k_ref_k ka kw
  · split
    · exact k_ref_k ka kw
    · split
      · exact kw
      · exact kw
theorem k_ne_k {a b w : Nat} (ka : (k_ty S a).1 = 0) (kb : (k_ty S b).1 = 0) (kw : (k_ty S w).1 = 0) : (k_ty (k_ne S a b) w).1 = 0 := by
  unfold k_ne
  split
  · exact k_ne1_k ka kw
  · split
    · exact k_ne1_k kb kw
    · exact kw
/-- what a condition says, as the machine takes it: eq, ne, lt, ge, gt, le -/
def k_says (c : ClassFile.Cond) (x y : Int32) : Prop := match c with
  | .eq => x = y
  | .ne => ¬ x = y
  | .lt => x < y
  | .ge => y ≤ x
  | .gt => y < x
  | .le => x ≤ y
theorem k_cond_ok {c : ClassFile.Cond} {a b : Nat} {x y : Int32} (g : k_G Sg r h S) (ka : (k_ty S a).1 = 0) (kb : (k_ty S b).1 = 0) (ha : r[a]? = some (.int x)) (hb : r[b]? = some (.int y)) :
    (k_says c x y → k_G Sg r h (k_cond c S a b).1 ∧ (k_ty (k_cond c S a b).1 a).1 = 0 ∧ (k_ty (k_cond c S a b).1 b).1 = 0) ∧ (¬ k_says c x y → k_G Sg r h (k_cond c S a b).2 ∧ (k_ty (k_cond c S a b).2 a).1 = 0 ∧ (k_ty (k_cond c S a b).2 b).1 = 0) := by
  have he := kn_eq x y
  have h1 := kn_lt x y
  have h2 := kn_lt y x
  have h3 := kn_le x y
  have h4 := kn_le y x
  cases c
  · exact ⟨fun q => ⟨k_eq_ok g ka kb ha hb (he.mp q), k_eq_k ka kb ka, k_eq_k ka kb kb⟩, fun q => ⟨k_ne_ok g ka kb ha hb (fun z => q (he.mpr z)), k_ne_k ka kb ka, k_ne_k ka kb kb⟩⟩
  · refine ⟨fun q => ⟨k_ne_ok g ka kb ha hb (fun z => q (he.mpr z)), k_ne_k ka kb ka, k_ne_k ka kb kb⟩, fun q => ⟨k_eq_ok g ka kb ha hb ?_, k_eq_k ka kb ka, k_eq_k ka kb kb⟩⟩
    exact he.mp (Classical.not_not.mp q)
  · exact ⟨fun q => ⟨k_lt_ok g ka kb ha hb (h1.mp q), k_lt_k ka kb ka, k_lt_k ka kb kb⟩, fun q => ⟨k_le_ok g kb ka hb ha (by have := mt h1.mpr q; omega), k_le_k kb ka ka, k_le_k kb ka kb⟩⟩
  · exact ⟨fun q => ⟨k_le_ok g kb ka hb ha (h4.mp q), k_le_k kb ka ka, k_le_k kb ka kb⟩, fun q => ⟨k_lt_ok g ka kb ha hb (by have := mt h4.mpr q; omega), k_lt_k ka kb ka, k_lt_k ka kb kb⟩⟩
  · exact ⟨fun q => ⟨k_lt_ok g kb ka hb ha (h2.mp q), k_lt_k kb ka ka, k_lt_k kb ka kb⟩, fun q => ⟨k_le_ok g ka kb ha hb (by have := mt h2.mpr q; omega), k_le_k ka kb ka, k_le_k ka kb kb⟩⟩
  · exact ⟨fun q => ⟨k_le_ok g ka kb ha hb (h3.mp q), k_le_k ka kb ka, k_le_k ka kb kb⟩, fun q => ⟨k_lt_ok g kb ka hb ha (by have := mt h3.mpr q; omega), k_lt_k kb ka ka, k_lt_k kb ka kb⟩⟩
theorem k_tgt_ok {off : Int} (h : k_tok pc off = true) : (pc : Int) + off = ((k_tgt pc off : Nat) : Int) := by
  have h : 0 ≤ (pc : Int) + off := by simpa [k_tok] using h
  unfold k_tgt
  omega
theorem k_brn_ok {c : ClassFile.Cond} {a b : Nat} {off : Int} (hs : k_brn c S a b pc off L st = some ss) (g : k_G Sg r h S) (ok : k_ok Sg cA Lb W h0 h) (hl : k_lv r L lv) (hst : k_st r st vs) {x y : Int32} (ha : r[a]? = some (.int x)) (hb : r[b]? = some (.int y)) (kn : k_next T Sg cA Lb W h0 r ss) :
    (pc : Int) + off = ((k_tgt pc off : Nat) : Int) ∧ (k_says c x y → T (k_tgt pc off) lv vs h) ∧ (¬ k_says c x y → T (pc + 3) lv vs h) := by
  unfold k_brn at hs
  split at hs
  · rename_i e
    simp only [Bool.and_eq_true, k_isI, beq_iff_eq] at e
    cases hs
    obtain ⟨q1, q2⟩ := k_cond_ok (c := c) g e.1.1 e.1.2 ha hb
    refine ⟨k_tgt_ok e.2, fun z => ?_, fun z => ?_⟩
    · obtain ⟨g1, k1, k2⟩ := q1 z
      exact k_alt_ok k1 k2 g1 ok hl hst (fun s hs => List.mem_append_left _ hs) kn
    · obtain ⟨g1, k1, k2⟩ := q2 z
      exact k_alt_ok k1 k2 g1 ok hl hst (fun s hs => List.mem_append_right _ hs) kn
  · cases hs
end
