/-! Abstract states: numbered values with what is known of each. k_T: (0, lo, hi) an int within; (1, ..) a long; (2, L, _) a reference to a cell of label L; (3, L, _) such one or null; (4, ..) a long that isn't 0. -/
abbrev k_T : Type := Nat × Int × Int
/-- how many values; their types; v = c * b + o; a ≥ b + o; not 0; what fields hold (reference, field, value) -/
abbrev k_S : Type := Nat × List (Nat × k_T) × List (Nat × Int × Nat × Int) × List (Nat × Nat × Int) × List Nat × List (Nat × Nat × Nat)
/-- a label: 0 an object (class, fields), 1 an array of ints (type, length, what its places hold), 2 an array of references -/
abbrev k_I : Type := Nat × Nat × Nat × List k_T
def k_top : k_T := (0, -2147483648, 2147483647)
def k_v (Sg : Nat → Option Nat) (v : Value) (t : k_T) : Prop := match t.1 with
  | 0 => ∃ x : Int32, v = .int x ∧ t.2.1 ≤ x.toInt ∧ x.toInt ≤ t.2.2
  | 1 => ∃ x : Int64, v = .long x
  | 2 => ∃ a : Nat, v = .ref a ∧ Sg a = some t.2.1.toNat
  | 3 => v = .null ∨ ∃ a : Nat, v = .ref a ∧ Sg a = some t.2.1.toNat
  | 4 => ∃ x : Int64, v = .long x ∧ ¬ x = 0
  | _ => True
def k_ty (S : k_S) (v : Nat) : k_T := match S.2.1.find? (fun q => q.1 == v) with | some q => q.2 | none => (9, 0, 0)
def k_new (S : k_S) (t : k_T) : k_S := (S.1 + 1, (S.1, t) :: S.2.1, S.2.2)
def k_fact (S : k_S) (v : Nat) (t : k_T) : k_S := (S.1, (v, t) :: S.2.1, S.2.2)
def k_def (S : k_S) (v : Nat) (c : Int) (b : Nat) (o : Int) : k_S := (S.1, S.2.1, (v, c, b, o) :: S.2.2.1, S.2.2.2)
def k_rel (S : k_S) (a b : Nat) (o : Int) : k_S := (S.1, S.2.1, S.2.2.1, (a, b, o) :: S.2.2.2.1, S.2.2.2.2)
def k_nz (S : k_S) (v : Nat) : k_S := (S.1, S.2.1, S.2.2.1, S.2.2.2.1, v :: S.2.2.2.2.1, S.2.2.2.2.2)
def k_kn (S : k_S) (K : List (Nat × Nat × Nat)) : k_S := (S.1, S.2.1, S.2.2.1, S.2.2.2.1, S.2.2.2.2.1, K)
def k_lin (S : k_S) (v : Nat) : Int × Nat × Int := match S.2.2.1.find? (fun q => q.1 == v) with | some q => q.2 | none => (1, v, 0)
def k_G (Sg : Nat → Option Nat) (r : List Value) (h : ch_H) (S : k_S) : Prop :=
  S.1 = r.length ∧ (∀ q ∈ S.2.1, ∃ v, r[q.1]? = some v ∧ k_v Sg v q.2) ∧
  (∀ q ∈ S.2.2.1, ∃ x y : Int32, r[q.1]? = some (.int x) ∧ r[q.2.2.1]? = some (.int y) ∧ x.toInt = q.2.1 * y.toInt + q.2.2.2) ∧
  (∀ q ∈ S.2.2.2.1, ∃ x y : Int32, r[q.1]? = some (.int x) ∧ r[q.2.1]? = some (.int y) ∧ y.toInt + q.2.2 ≤ x.toInt) ∧
  (∀ v ∈ S.2.2.2.2.1, ∃ x : Int32, r[v]? = some (.int x) ∧ ¬ x = 0) ∧
  (∀ q ∈ S.2.2.2.2.2, ∃ (a ci : Nat) (fs : List Value) (v : Value), r[q.1]? = some (.ref a) ∧ h a = some (.inr (ci, fs)) ∧ fs[q.2.1]? = some v ∧ r[q.2.2]? = some v)
theorem k_ap {r : List Value} (s : List Value) {q : Nat} {x : Value} (h : r[q]? = some x) : (r ++ s)[q]? = some x := by
  rw [List.getElem?_append_left (List.getElem?_eq_some_iff.mp h).1]
  exact h
section
variable {Sg : Nat → Option Nat} {r : List Value} {h : ch_H} {S : k_S}
theorem k_G.at_ (g : k_G Sg r h S) {v : Nat} (hk : (k_ty S v).1 ≠ 9) : ∃ x, r[v]? = some x ∧ k_v Sg x (k_ty S v) := by
  unfold k_ty at hk ⊢
  cases hf : S.2.1.find? (fun q => q.1 == v) with
  | none => rw [hf] at hk; exact absurd rfl hk
  | some q =>
    have h1 := List.mem_of_find?_eq_some hf
    have h2 := List.find?_some hf
    have h3 : q.1 = v := by simpa using h2
    obtain ⟨x, e1, e2⟩ := g.2.1 q h1
    rw [h3] at e1
    exact ⟨x, e1, e2⟩
theorem k_G.int (g : k_G Sg r h S) {v : Nat} (hk : (k_ty S v).1 = 0) : ∃ x : Int32, r[v]? = some (.int x) ∧ (k_ty S v).2.1 ≤ x.toInt ∧ x.toInt ≤ (k_ty S v).2.2 := by
  obtain ⟨x, e1, e2⟩ := g.at_ (v := v) (by rw [hk]; decide)
  unfold k_v at e2
  rw [hk] at e2
  obtain ⟨y, rfl, e3, e4⟩ := e2
  exact ⟨y, e1, e3, e4⟩
theorem k_G.long (g : k_G Sg r h S) {v : Nat} (hk : (k_ty S v).1 = 1) : ∃ x : Int64, r[v]? = some (.long x) := by
  obtain ⟨x, e1, e2⟩ := g.at_ (v := v) (by rw [hk]; decide)
  unfold k_v at e2
  rw [hk] at e2
  obtain ⟨y, rfl⟩ := e2
  exact ⟨y, e1⟩
theorem k_G.long4 (g : k_G Sg r h S) {v : Nat} (hk : (k_ty S v).1 = 4) : ∃ x : Int64, r[v]? = some (.long x) ∧ ¬ x = 0 := by
  obtain ⟨x, e1, e2⟩ := g.at_ (v := v) (by rw [hk]; decide)
  unfold k_v at e2
  rw [hk] at e2
  obtain ⟨y, rfl, e3⟩ := e2
  exact ⟨y, e1, e3⟩
theorem k_G.ref (g : k_G Sg r h S) {v : Nat} (hk : (k_ty S v).1 = 2) : ∃ a : Nat, r[v]? = some (.ref a) ∧ Sg a = some (k_ty S v).2.1.toNat := by
  obtain ⟨x, e1, e2⟩ := g.at_ (v := v) (by rw [hk]; decide)
  unfold k_v at e2
  rw [hk] at e2
  obtain ⟨y, rfl, e3⟩ := e2
  exact ⟨y, e1, e3⟩
theorem k_G.nul (g : k_G Sg r h S) {v : Nat} (hk : (k_ty S v).1 = 3) : r[v]? = some .null ∨ ∃ a : Nat, r[v]? = some (.ref a) ∧ Sg a = some (k_ty S v).2.1.toNat := by
  obtain ⟨x, e1, e2⟩ := g.at_ (v := v) (by rw [hk]; decide)
  unfold k_v at e2
  rw [hk] at e2
  rcases e2 with rfl | ⟨y, rfl, e3⟩
  · exact Or.inl e1
  · exact Or.inr ⟨y, e1, e3⟩
theorem k_G.lin (g : k_G Sg r h S) {v : Nat} {x : Int32} (hv : r[v]? = some (.int x)) : ∃ y : Int32, r[(k_lin S v).2.1]? = some (.int y) ∧ x.toInt = (k_lin S v).1 * y.toInt + (k_lin S v).2.2 := by
  unfold k_lin
  cases hf : S.2.2.1.find? (fun q => q.1 == v) with
  | none => exact ⟨x, hv, by simp⟩
  | some q =>
    have h1 := List.mem_of_find?_eq_some hf
    have h2 := List.find?_some hf
    have h3 : q.1 = v := by simpa using h2
    obtain ⟨x', y, e1, e2, e3⟩ := g.2.2.1 q h1
    rw [h3, hv] at e1
    cases e1
    exact ⟨y, e2, e3⟩
theorem k_G.app (g : k_G Sg r h S) (v : Value) (t : k_T) (hv : k_v Sg v t) : k_G Sg (r ++ [v]) h (k_new S t) := by
  obtain ⟨g0, g1, g2, g3, g4, g5⟩ := g
  refine ⟨by simp [k_new, g0], fun q hq => ?_, fun q hq => ?_, fun q hq => ?_, fun q hq => ?_, fun q hq => ?_⟩
  · rcases List.mem_cons.mp hq with rfl | hq
    · exact ⟨v, by simp [g0], hv⟩
    · obtain ⟨x, e1, e2⟩ := g1 q hq
      exact ⟨x, k_ap _ e1, e2⟩
  · obtain ⟨x, y, e1, e2, e3⟩ := g2 q hq
    exact ⟨x, y, k_ap _ e1, k_ap _ e2, e3⟩
  · obtain ⟨x, y, e1, e2, e3⟩ := g3 q hq
    exact ⟨x, y, k_ap _ e1, k_ap _ e2, e3⟩
  · obtain ⟨x, e1, e2⟩ := g4 q hq
    exact ⟨x, k_ap _ e1, e2⟩
  · obtain ⟨a, ci, fs, x, e1, e2, e3, e4⟩ := g5 q hq
    exact ⟨a, ci, fs, x, k_ap _ e1, e2, e3, k_ap _ e4⟩
theorem k_G.fact (g : k_G Sg r h S) {v : Nat} {x : Value} {t : k_T} (hx : r[v]? = some x) (hv : k_v Sg x t) : k_G Sg r h (k_fact S v t) := by
  obtain ⟨g0, g1, g2⟩ := g
  refine ⟨g0, fun q hq => ?_, g2⟩
  rcases List.mem_cons.mp hq with rfl | hq
  · exact ⟨x, hx, hv⟩
  · exact g1 q hq
theorem k_G.defn (g : k_G Sg r h S) {v b : Nat} {c o : Int} {x y : Int32} (hx : r[v]? = some (.int x)) (hy : r[b]? = some (.int y)) (e : x.toInt = c * y.toInt + o) : k_G Sg r h (k_def S v c b o) := by
  obtain ⟨g0, g1, g2, g3⟩ := g
  refine ⟨g0, g1, fun q hq => ?_, g3⟩
  rcases List.mem_cons.mp hq with rfl | hq
  · exact ⟨x, y, hx, hy, e⟩
  · exact g2 q hq
theorem k_G.rel (g : k_G Sg r h S) {a b : Nat} {o : Int} {x y : Int32} (hx : r[a]? = some (.int x)) (hy : r[b]? = some (.int y)) (e : y.toInt + o ≤ x.toInt) : k_G Sg r h (k_rel S a b o) := by
  obtain ⟨g0, g1, g2, g3, g4⟩ := g
  refine ⟨g0, g1, g2, fun q hq => ?_, g4⟩
  rcases List.mem_cons.mp hq with rfl | hq
  · exact ⟨x, y, hx, hy, e⟩
  · exact g3 q hq
theorem k_G.nz (g : k_G Sg r h S) {v : Nat} {x : Int32} (hx : r[v]? = some (.int x)) (e : ¬ x = 0) : k_G Sg r h (k_nz S v) := by
  obtain ⟨g0, g1, g2, g3, g4, g5⟩ := g
  refine ⟨g0, g1, g2, g3, fun q hq => ?_, g5⟩
  rcases List.mem_cons.mp hq with rfl | hq
  · exact ⟨x, hx, e⟩
  · exact g4 q hq
theorem k_G.kn (g : k_G Sg r h S) {h' : ch_H} {K : List (Nat × Nat × Nat)} (hK : ∀ q ∈ K, ∃ (a ci : Nat) (fs : List Value) (v : Value), r[q.1]? = some (.ref a) ∧ h' a = some (.inr (ci, fs)) ∧ fs[q.2.1]? = some v ∧ r[q.2.2]? = some v) : k_G Sg r h' (k_kn S K) := by
  obtain ⟨g0, g1, g2, g3, g4, g5⟩ := g
  exact ⟨g0, g1, g2, g3, g4, hK⟩
end
/-! subtypes -/
def k_sub (t u : k_T) : Bool := match t.1, u.1 with
  | 0, 0 => decide (u.2.1 ≤ t.2.1) && decide (t.2.2 ≤ u.2.2)
  | 1, 1 => true
  | 4, 1 => true
  | 2, 2 => t.2.1 == u.2.1
  | 2, 3 => t.2.1 == u.2.1
  | 3, 3 => t.2.1 == u.2.1
  | _, _ => false
theorem k_sub_ok {Sg : Nat → Option Nat} {v : Value} {t u : k_T} (hs : k_sub t u = true) (hv : k_v Sg v t) : k_v Sg v u := by
  obtain ⟨tk, tl, th⟩ := t
  obtain ⟨uk, ul, uh⟩ := u
  unfold k_sub at hs
  split at hs
  · rename_i e1 e2
    dsimp only at e1 e2
    subst e1; subst e2
    simp only [Bool.and_eq_true, decide_eq_true_eq] at hs
    obtain ⟨x, rfl, a1, a2⟩ := hv
    dsimp only at a1 a2 hs
    exact ⟨x, rfl, by dsimp only; omega, by dsimp only; omega⟩
  · rename_i e1 e2
    dsimp only at e1 e2
    subst e1; subst e2
    exact hv
  · rename_i e1 e2
    dsimp only at e1 e2
    subst e1; subst e2
    obtain ⟨x, e, -⟩ := hv
    exact ⟨x, e⟩
  · rename_i e1 e2
    dsimp only at e1 e2
    subst e1; subst e2
    have : tl = ul := by simpa using hs
    subst this
    exact hv
  · rename_i e1 e2
    dsimp only at e1 e2
    subst e1; subst e2
    have : tl = ul := by simpa using hs
    subst this
    exact Or.inr hv
  · rename_i e1 e2
    dsimp only at e1 e2
    subst e1; subst e2
    have : tl = ul := by simpa using hs
    subst this
    exact hv
  · cases hs
theorem k_sub_9 {t u : k_T} (hs : k_sub t u = true) : t.1 ≠ 9 := by
  intro h9
  obtain ⟨tk, tl, th⟩ := t
  dsimp only at h9
  subst h9
  unfold k_sub at hs
  split at hs <;> simp_all
/-! typed heaps -/
def k_el (I : k_I) (i : Nat) : k_T := if I.2.2.2.length = 1 then I.2.2.2.getD 0 k_top else I.2.2.2.getD i k_top
def k_cell (Sg : Nat → Option Nat) (cA : Nat → ClassId) (I : k_I) (e : va_E) : Prop :=
  (I.1 = 0 ∧ ∃ fs : List Value, e = .inr (I.2.1, fs) ∧ fs.length = I.2.2.1 ∧ ∀ (k : Nat) (t : k_T), I.2.2.2[k]? = some t → ∃ v, fs[k]? = some v ∧ k_v Sg v t) ∨
  (I.1 = 1 ∧ ∃ f : Nat → Int32, e = .inl (cA I.2.1, I.2.2.1, .inl f) ∧ ∀ i, i < I.2.2.1 → (k_el I i).2.1 ≤ (f i).toInt ∧ (f i).toInt ≤ (k_el I i).2.2) ∨
  (I.1 = 2 ∧ ∃ f : Nat → Option Nat, e = .inl (cA I.2.1, I.2.2.1, .inr (.inr (.inr (.inr f)))) ∧ ∀ i, i < I.2.2.1 → k_v Sg (va_rf (f i)) (k_el I i))
def k_H (Sg : Nat → Option Nat) (cA : Nat → ClassId) (Lb : Nat → k_I) (h : ch_H) : Prop := ∀ a L, Sg a = some L → ∃ e, h a = some e ∧ k_cell Sg cA (Lb L) e
/-- what a method leaves as it was: all but the fields (label, place) and arrays (label, 0) of W -/
def k_U (Sg : Nat → Option Nat) (W : List (Nat × Nat)) (h0 h : ch_H) : Prop := ∀ a L, Sg a = some L →
  (∀ ci fs, h0 a = some (.inr (ci, fs)) → ∃ fs', h a = some (.inr (ci, fs')) ∧ ∀ k : Nat, (L, k) ∉ W → fs'[k]? = fs[k]?) ∧ ∀ e, h0 a = some (.inl e) → (L, 0) ∉ W → h a = some (.inl e)
section
variable {Sg : Nat → Option Nat} {cA : Nat → ClassId} {Lb : Nat → k_I} {W : List (Nat × Nat)} {h0 h h1 : ch_H}
theorem k_U.rf : k_U Sg W h h := fun _ _ _ => ⟨fun _ fs e => ⟨fs, e, fun _ _ => rfl⟩, fun _ e _ => e⟩
theorem k_U.tr (u1 : k_U Sg W h0 h) (u2 : k_U Sg W h h1) : k_U Sg W h0 h1 := by
  intro a L hs
  refine ⟨fun ci fs e => ?_, fun e he hn => (u2 a L hs).2 e ((u1 a L hs).2 e he hn) hn⟩
  obtain ⟨f1, e1, e2⟩ := (u1 a L hs).1 ci fs e
  obtain ⟨f2, e3, e4⟩ := (u2 a L hs).1 ci f1 e1
  exact ⟨f2, e3, fun k hk => (e4 k hk).trans (e2 k hk)⟩
theorem k_U.sub {W' : List (Nat × Nat)} (hw : ∀ q ∈ W, q ∈ W') (u : k_U Sg W h0 h) : k_U Sg W' h0 h := by
  intro a L hs
  refine ⟨fun ci fs e => ?_, fun e he hn => (u a L hs).2 e he (fun q => hn (hw _ q))⟩
  obtain ⟨f1, e1, e2⟩ := (u a L hs).1 ci fs e
  exact ⟨f1, e1, fun k hk => e2 k (fun q => hk (hw _ q))⟩
/-- one cell changes -/
theorem k_H.put (H : k_H Sg cA Lb h) {a L : Nat} (hs : Sg a = some L) {e : va_E} (hc : k_cell Sg cA (Lb L) e) : k_H Sg cA Lb (ch_up h a e) := by
  intro b M hb
  by_cases q : b = a
  · subst q
    rw [hs] at hb
    cases hb
    exact ⟨e, ch_up_s _ _ _, hc⟩
  · rw [ch_up_n _ _ q]
    exact H b M hb
theorem k_U.putO (u : k_U Sg W h0 h) {a L ci k : Nat} {fs : List Value} {v : Value} (hs : Sg a = some L) (ha : h a = some (.inr (ci, fs))) (hw : (L, k) ∈ W) : k_U Sg W h0 (ch_up h a (.inr (ci, fs.set k v))) := by
  refine u.tr fun b M hb => ?_
  by_cases q : b = a
  · subst q
    rw [hs] at hb
    cases hb
    rw [ch_up_s]
    refine ⟨fun ci' fs' e => ?_, fun e he => ?_⟩
    · rw [ha] at e
      cases e
      refine ⟨_, rfl, fun j hj => ?_⟩
      have hne : k ≠ j := fun q => hj (q ▸ hw)
      rw [List.getElem?_set_ne hne]
    · rw [ha] at he
      cases he
  · rw [ch_up_n _ _ q]
    exact ⟨fun _ fs e => ⟨fs, e, fun _ _ => rfl⟩, fun _ e _ => e⟩
theorem k_U.putA (u : k_U Sg W h0 h) {a L : Nat} {e e' : ClassId × vp_A} (hs : Sg a = some L) (ha : h a = some (.inl e)) (hw : (L, 0) ∈ W) : k_U Sg W h0 (ch_up h a (.inl e')) := by
  refine u.tr fun b M hb => ?_
  by_cases q : b = a
  · subst q
    rw [hs] at hb
    cases hb
    rw [ch_up_s]
    refine ⟨fun ci' fs' e => ?_, fun e he hn => absurd hw hn⟩
    rw [ha] at e
    cases e
  · rw [ch_up_n _ _ q]
    exact ⟨fun _ fs e => ⟨fs, e, fun _ _ => rfl⟩, fun _ e _ => e⟩
end
