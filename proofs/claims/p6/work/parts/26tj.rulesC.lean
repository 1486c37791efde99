/-! the class: its RULES, as they stand, and what they are worth -/
def ruI (cA : Nat → ClassId) (h : ch_H) (r k : Nat) (its : List Int) : Prop := ∃ (s : Nat) (g : Nat → Int32) (sz : Int32), ruE cA h r k s g sz ∧ cdE g sz its
/-- so many, and the worth of each by letters -/
abbrev uP : Type := Nat × (Nat → (Nat → Int) → Int)
/-- items worked come to that worth -/
def itW (its : List Int) (W : (Nat → Int) → Int) : Prop := its.length ≤ 192 ∧ ∀ L : Nat → Int, ∃ (m : Nat) (v : Int32), x_go (fun k => Int32.ofInt (L k)) its m 0 [] = some v ∧ v.toInt = W L
def RC (cA : Nat → ClassId) (h : ch_H) (x : Nat) (ψ : uP) : Prop := ∃ (xs : List Value) (ra sp ksp : Nat) (fa : Nat → Option Nat) (rc : Int32), h x = some (.inr (9, xs)) ∧ xs[12]? = some (.ref ra) ∧ xs[13]? = some (.ref sp) ∧ xs[14]? = some (.int rc) ∧ rc.toInt = (ψ.1 : Int) ∧ ψ.1 ≤ 4 ∧ h ra = some (.inl (cA 4, 4, .inr (.inr (.inr (.inr fa))))) ∧ (∃ s, ru cA h sp ksp s) ∧ ∀ i, i < ψ.1 → ∃ (r k : Nat) (its : List Int), fa i = some r ∧ ruI cA h r k its ∧ r ≠ sp ∧ k ≠ ksp ∧ itW its (ψ.2 i)
def okRu (W : List (Nat × Nat)) : Bool := W.all (fun q => decide (q.1 ≠ 6 ∧ q.1 ≠ 34 ∧ q.1 ≠ 36) && decide (q ∉ [(0, 12), (0, 13), (0, 14)]))
section
variable {Sg : Nat → Option Nat} {cA : Nat → ClassId} {h h1 g g2 : ch_H} {x r k : Nat} {its : List Int} {ψ : uP} {W : List (Nat × Nat)}
theorem okRu.no (hw : okRu W = true) : ∀ q, q ∈ W → (q.1 ≠ 6 ∧ q.1 ≠ 34 ∧ q.1 ≠ 36) ∧ q ≠ (0, 12) ∧ q ≠ (0, 13) ∧ q ≠ (0, 14) := fun q hq => by
  have h1 := List.all_eq_true.mp hw q hq
  simp only [Bool.and_eq_true, decide_eq_true_eq, List.mem_cons, List.not_mem_nil, or_false, not_or] at h1
  exact ⟨h1.1, h1.2.1, h1.2.2.1, h1.2.2.2⟩
theorem ruI.lab (hH : k_H Sg cA Lb h) (s_r : Sg r = some 6) (H : ruI cA h r k its) : Sg k = some 36 := by
  obtain ⟨k1, s1, s_k, s_s, g1, z1, q1, q2, -⟩ := T_ru hH s_r
  obtain ⟨s, g, sz, ⟨p1, p2, -⟩, -⟩ := H
  rw [p1] at q1
  cases q1
  exact s_k
theorem ru.lab {s : Nat} (hH : k_H Sg cA Lb h) (s_r : Sg r = some 6) (H : ru cA h r k s) : Sg k = some 36 := by
  obtain ⟨k1, s1, s_k, s_s, g1, z1, q1, q2, -⟩ := T_ru hH s_r
  obtain ⟨g, sz, p1, p2, -⟩ := H
  rw [p1] at q1
  cases q1
  exact s_k
theorem ruI.mv (o1 : h1 r = h r) (o2 : h1 k = h k) (H : ruI cA h r k its) : ruI cA h1 r k its := by
  obtain ⟨s, g, sz, ⟨p1, p2, p3⟩, pc⟩ := H
  exact ⟨s, g, sz, ⟨o1.trans p1, o2.trans p2, p3⟩, pc⟩
theorem ru.mv {s : Nat} (o1 : h1 r = h r) (o2 : h1 k = h k) (H : ru cA h r k s) : ru cA h1 r k s := by
  obtain ⟨g, sz, p1, p2, p3⟩ := H
  exact ⟨g, sz, o1.trans p1, o2.trans p2, p3⟩
theorem ruI.ag (hH : k_H Sg cA Lb g) (s_r : Sg r = some 6) (a : ag g g2) (ai : agI g g2) (H : ruI cA g2 r k its) : ruI cA g r k its := by
  obtain ⟨k1, s1, s_k, s_s, g1, z1, q1, q2, q3⟩ := T_ru hH s_r
  obtain ⟨s, f2, sz, ⟨p1, p2, p3⟩, pc⟩ := H
  have e0 := a.get q1 p1 (k := 0) (v := .ref k) (by decide) (Nat.le_of_ble_eq_true rfl) rfl
  have e1 := a.get q1 p1 (k := 1) (v := .int sz) (by decide) (Nat.le_of_ble_eq_true rfl) rfl
  cases e0
  cases e1
  have w := (ai k _ _ _ _ _ _ q2 p2).2
  exact ⟨s1, g1, _, ⟨q1, q2, q3⟩, pc.1, fun i hi h9 => by rw [w i h9]; exact pc.2 i hi h9⟩
theorem ru.ag {s : Nat} (hH : k_H Sg cA Lb g) (s_r : Sg r = some 6) (a : ag g g2) (H : ru cA g2 r k s) : ∃ s, ru cA g r k s := by
  obtain ⟨k1, s1, s_k, s_s, R⟩ := T_ru hH s_r
  obtain ⟨g1, z1, q1, q2, q3⟩ := R
  obtain ⟨f2, sz, p1, p2, p3⟩ := H
  have e0 := a.get q1 p1 (k := 0) (v := .ref k) (by decide) (Nat.le_of_ble_eq_true rfl) rfl
  cases e0
  exact ⟨s1, g1, z1, q1, q2, q3⟩
theorem lab12 {xs : List Value} {ra sp : Nat} (hH : k_H Sg cA Lb h) (sx : Sg x = some 0) (c_x : h x = some (.inr (9, xs))) (f12 : xs[12]? = some (.ref ra)) (f13 : xs[13]? = some (.ref sp)) : Sg ra = some 34 ∧ Sg sp = some 6 ∧ ∃ F : Nat → Option Nat, h ra = some (.inl (cA 4, 4, .inr (.inr (.inr (.inr F))))) ∧ ∀ i r, i < 4 → F i = some r → Sg r = some 6 := by
  obtain ⟨xs2, c2, xl, ty⟩ := hH.obj sx (L := 0) rfl
  rw [c_x] at c2
  cases c2
  obtain ⟨v12, g12, t12⟩ := ty 12 _ rfl
  rw [f12] at g12
  cases g12
  obtain ⟨r1, e, s1⟩ := k_v.ref t12
  cases e
  obtain ⟨v13, g13, t13⟩ := ty 13 _ rfl
  rw [f13] at g13
  cases g13
  obtain ⟨r2, e, s2⟩ := k_v.ref t13
  cases e
  have s1 : Sg ra = some 34 := s1
  obtain ⟨e9, y1, y2⟩ := hH ra 34 s1
  obtain ⟨F, rfl, hF⟩ := k_cell2 (I := Lb 34) rfl y2
  refine ⟨s1, s2, F, y1, fun i r hi e => ?_⟩
  rcases hF i hi with z | ⟨r3, z1, z2⟩
  · rw [e] at z
    cases z
  · rw [e] at z1
    cases z1
    exact z2
theorem RC.gen (hH : k_H Sg cA Lb h) (sx : Sg x = some 0) (hx : ∀ xs, h x = some (.inr (9, xs)) → ∃ xs1, h1 x = some (.inr (9, xs1)) ∧ xs1[12]? = xs[12]? ∧ xs1[13]? = xs[13]? ∧ xs1[14]? = xs[14]?) (ho : ∀ a L, Sg a = some L → L = 6 ∨ L = 34 ∨ L = 36 → h1 a = h a) (H : RC cA h x ψ) : RC cA h1 x ψ := by
  obtain ⟨xs, ra, sp, ksp, fa, rc, c_x, f12, f13, f14, e1, e2, c_ra, ⟨ssp, Rsp⟩, hr⟩ := H
  obtain ⟨s_ra, s_sp, F, y1, hF⟩ := lab12 hH sx c_x f12 f13
  obtain ⟨xs1, c1, q12, q13, q14⟩ := hx xs c_x
  rw [c_ra] at y1
  cases y1
  refine ⟨xs1, ra, sp, ksp, fa, rc, c1, q12.trans f12, q13.trans f13, q14.trans f14, e1, e2, (ho ra 34 s_ra (Or.inr (Or.inl rfl))).trans c_ra, ⟨ssp, Rsp.mv (ho sp 6 s_sp (Or.inl rfl)) (ho ksp 36 (Rsp.lab hH s_sp) (Or.inr (Or.inr rfl)))⟩, fun i hi => ?_⟩
  obtain ⟨r, k, its, w1, w2, w3⟩ := hr i hi
  have s_r := hF i r (by omega) w1
  exact ⟨r, k, its, w1, w2.mv (ho r 6 s_r (Or.inl rfl)) (ho k 36 (w2.lab hH s_r) (Or.inr (Or.inr rfl))), w3⟩
theorem RC.U (hH : k_H Sg cA Lb h) (u : k_U Sg W h h1) (hw : okRu W = true) (sx : Sg x = some 0) (H : RC cA h x ψ) : RC cA h1 x ψ := by
  have no := okRu.no hw
  refine H.gen hH sx (fun xs c_x => ?_) (fun a L ha hl => k_U.same hH u ha (fun q hq e9 => by have := (no q hq).1; omega))
  obtain ⟨xs1, c1, k1⟩ := (u x 0 sx).1 _ _ c_x
  exact ⟨xs1, c1, k1 12 (fun z => (no _ z).2.1 rfl), k1 13 (fun z => (no _ z).2.2.1 rfl), k1 14 (fun z => (no _ z).2.2.2 rfl)⟩
theorem RC.same (hH : k_H Sg cA Lb h) (sx : Sg x = some 0) (o : ∀ a L, Sg a = some L → L = 0 ∨ L = 6 ∨ L = 34 ∨ L = 36 → h1 a = h a) (H : RC cA h x ψ) : RC cA h1 x ψ :=
  H.gen hH sx (fun xs c_x => ⟨xs, (o x 0 sx (Or.inl rfl)).trans c_x, rfl, rfl, rfl⟩) (fun a L ha hl => o a L ha (Or.inr hl))
theorem RC.ag (hH : k_H Sg cA Lb g) (sx : Sg x = some 0) (a : ag g g2) (ai : agI g g2) (ar : agR g g2) (H : RC cA g2 x ψ) : RC cA g x ψ := by
  obtain ⟨xs, ra, sp, ksp, fa, rc, c_x, f12, f13, f14, e1, e2, c_ra, ⟨ssp, Rsp⟩, hr⟩ := H
  obtain ⟨xs1, c1, l1, -⟩ := hH.obj sx (L := 0) rfl
  have q12 := a.get c1 c_x (by decide) (by rw [l1]; decide) f12
  have q13 := a.get c1 c_x (by decide) (by rw [l1]; decide) f13
  have q14 := a.get c1 c_x (by decide) (by rw [l1]; decide) f14
  obtain ⟨s_ra, s_sp, F, y1, hF⟩ := lab12 hH sx c1 q12 q13
  have w := (ar ra _ _ _ _ _ _ y1 c_ra).2
  refine ⟨xs1, ra, sp, ksp, F, rc, c1, q12, q13, q14, e1, e2, y1, Rsp.ag hH s_sp a, fun i hi => ?_⟩
  obtain ⟨r, k, its, w1, w2, w3⟩ := hr i hi
  have Fi : F i = some r := (w i (by omega)).trans w1
  exact ⟨r, k, its, Fi, w2.ag hH (hF i r (by omega) Fi) a ai, w3⟩
/-- one more RULE: the spare one, read, goes to its place; a new spare one -/
theorem RC.add {t b : Nat} {xs xs1 : List Value} {r1 ra k1 s1 nb kb sb : Nat} {fa : Nat → Option Nat} {rc rc1 : Int32} {its1 : List Int} {w9 : (Nat → Int) → Int} (hH : k_H Sg cA Lb h) (sx : Sg x = some 0) (H : RC cA h x ψ) (c_x : h x = some (.inr (9, xs))) (f12 : xs[12]? = some (.ref ra)) (f13 : xs[13]? = some (.ref r1)) (f14 : xs[14]? = some (.int rc)) (R : ru cA h r1 k1 s1) (st : Sg t = some 1) (h4 : rc.toInt < 4)
    (c_x1 : h1 x = some (.inr (9, xs1))) (q12 : xs1[12]? = some (.ref ra)) (q13 : xs1[13]? = some (.ref nb)) (q14 : xs1[14]? = some (.int rc1)) (hrc : rc1.toInt = rc.toInt + 1) (c_ra0 : h ra = some (.inl (cA 4, 4, .inr (.inr (.inr (.inr fa)))))) (c_ra : h1 ra = some (.inl (cA 4, 4, .inr (.inr (.inr (.inr (va_up fa rc.toNatClampNeg (some r1)))))))) (R1 : ruI cA h1 r1 k1 its1) (Rn : ru cA h1 nb kb sb) (nb0 : h nb = none) (kb0 : h kb = none) (hw : itW its1 w9)
    (o : ∀ q, h q ≠ none → q ≠ x ∧ q ≠ t ∧ q ≠ r1 ∧ q ≠ k1 ∧ q ≠ ra → h1 q = h q) : RC cA h1 x (ψ.1 + 1, fun i => if i = ψ.1 then w9 else ψ.2 i) := by
  obtain ⟨xs9, ra9, sp, ksp, fa9, rc9, c9, f12', f13', f14', e1, e2, c_ra9, ⟨ssp, Rsp⟩, hr⟩ := H
  rw [c_x] at c9
  cases c9
  rw [f12] at f12'
  cases f12'
  rw [f13] at f13'
  cases f13'
  rw [f14] at f14'
  cases f14'
  rw [c_ra0] at c_ra9
  cases c_ra9
  obtain ⟨s_ra, s_sp, F, y1, hF⟩ := lab12 hH sx c_x f12 f13
  rw [c_ra0] at y1
  cases y1
  have ek : k1 = ksp := by
    obtain ⟨ga, za, p1, -⟩ := R
    obtain ⟨gb, zb, p2, -⟩ := Rsp
    rw [p1] at p2
    cases p2
    rfl
  subst ek
  have s_k1 := R.lab hH s_sp
  have en : rc.toNatClampNeg = ψ.1 := by
    show rc.toInt.toNat = ψ.1
    omega
  refine ⟨xs1, ra, nb, kb, _, rc1, c_x1, q12, q13, q14, ?_, ?_, c_ra, ⟨sb, Rn⟩, fun i hi => ?_⟩
  · show rc1.toInt = ((ψ.1 + 1 : Nat) : Int)
    omega
  · show ψ.1 + 1 ≤ 4
    omega
  · have hi : i < ψ.1 + 1 := hi
    show ∃ (r k : Nat) (its : List Int), va_up fa rc.toNatClampNeg (some r1) i = some r ∧ ruI cA h1 r k its ∧ r ≠ nb ∧ k ≠ kb ∧ itW its (if i = ψ.1 then w9 else ψ.2 i)
    unfold va_up
    rw [en]
    by_cases c : i = ψ.1
    · rw [if_pos c, if_pos c]
      refine ⟨r1, k1, its1, rfl, R1, fun z => ?_, fun z => ?_, hw⟩
      · obtain ⟨ga, za, p1, -⟩ := R
        rw [z, nb0] at p1
        cases p1
      · obtain ⟨ga, za, p1, p2, -⟩ := R
        rw [z, kb0] at p2
        cases p2
    · rw [if_neg c, if_neg c]
      obtain ⟨r, k, its, w1, w2, w3, w4, w5⟩ := hr i (by omega)
      have s_r := hF i r (by omega) w1
      have s_k := w2.lab hH s_r
      obtain ⟨s, g3, sz, ⟨p1, p2, -⟩, -⟩ := id w2
      have n1 : h r ≠ none := by rw [p1]; exact fun z => by cases z
      have n2 : h k ≠ none := by rw [p2]; exact fun z => by cases z
      refine ⟨r, k, its, w1, w2.mv (o r n1 ⟨k_sg_ne s_r sx (by decide), k_sg_ne s_r st (by decide), w3, k_sg_ne s_r s_k1 (by decide), k_sg_ne s_r s_ra (by decide)⟩) (o k n2 ⟨k_sg_ne s_k sx (by decide), k_sg_ne s_k st (by decide), k_sg_ne s_k s_sp (by decide), w4, k_sg_ne s_k s_ra (by decide)⟩), fun z => n1 (by rw [z]; exact nb0), fun z => n2 (by rw [z]; exact kb0), w5⟩
end
