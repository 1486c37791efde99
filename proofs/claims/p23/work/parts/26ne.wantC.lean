/-! WANTED: the class's array, apart from that of SEEN -/
abbrev aWn : Type := Nat → Int
def wC (cA : Nat → ClassId) (h : ch_H) (x n : Nat) (wn : aWn) : Prop := ∃ (xs : List Value) (a b : Nat) (f : Nat → Int32), h x = some (.inr (9, xs)) ∧ xs[10]? = some (.ref a) ∧ xs[11]? = some (.ref b) ∧ a ≠ b ∧ h a = some (.inl (cA 0, 12, .inl f)) ∧ (1 ≤ n → ∀ r, r < 12 → (f r).toInt = wn r)
def okCw (W : List (Nat × Nat)) : Bool := W.all (fun q => decide (q ≠ (0, 10) ∧ q ≠ (0, 11) ∧ q.1 ≠ 32))
theorem okCw.no {W : List (Nat × Nat)} (h : okCw W = true) : ∀ q ∈ W, q ≠ (0, 10) ∧ q ≠ (0, 11) ∧ q.1 ≠ 32 := fun q hq => of_decide_eq_true (List.all_eq_true.mp h q hq)
def w_up (wn : aWn) (r : Nat) (v : Int) : aWn := fun q => if q = r then v else wn q
section
variable {Sg : Nat → Option Nat} {cA : Nat → ClassId} {h h1 g g2 : ch_H} {W : List (Nat × Nat)} {x n : Nat} {wn : aWn}
theorem lab10 {xs : List Value} {a b : Nat} (hH : k_H Sg cA Lb h) (sx : Sg x = some 0) (c_x : h x = some (.inr (9, xs))) (f10 : xs[10]? = some (.ref a)) (f11 : xs[11]? = some (.ref b)) : Sg a = some 32 ∧ Sg b = some 32 ∧ xs.length = 19 := by
  obtain ⟨fs, c, l, ty⟩ := hH.obj sx (L := 0) rfl
  rw [c_x] at c
  cases c
  obtain ⟨v, e, tv⟩ := ty 10 _ rfl
  rw [f10] at e
  cases e
  obtain ⟨t2, e2, s1⟩ := k_v.ref tv
  cases e2
  obtain ⟨v8, e8, tv8⟩ := ty 11 _ rfl
  rw [f11] at e8
  cases e8
  obtain ⟨t3, e3, s8⟩ := k_v.ref tv8
  cases e3
  exact ⟨s1, s8, l⟩
theorem wC.gen (hH : k_H Sg cA Lb h) (sx : Sg x = some 0) (hx : ∀ xs : List Value, h x = some (.inr (9, xs)) → ∃ xs1, h1 x = some (.inr (9, xs1)) ∧ xs1[10]? = xs[10]? ∧ xs1[11]? = xs[11]?) (o : ∀ a, Sg a = some 32 → h1 a = h a) (H : wC cA h x n wn) : wC cA h1 x n wn := by
  obtain ⟨xs, a, b, f, c_x, f10, f11, ne, c_a, e⟩ := H
  obtain ⟨sa, sb, -⟩ := lab10 hH sx c_x f10 f11
  obtain ⟨xs1, d0, d1, d2⟩ := hx xs c_x
  exact ⟨xs1, a, b, f, d0, d1.trans f10, d2.trans f11, ne, (o a sa).trans c_a, e⟩
theorem wC.U (hH : k_H Sg cA Lb h) (u : k_U Sg W h h1) (hw : okCw W = true) (sx : Sg x = some 0) (H : wC cA h x n wn) : wC cA h1 x n wn := by
  have no := okCw.no hw
  refine H.gen hH sx (fun xs c_x => ?_) (fun a ha => k_U.same hH u ha (fun q hq => (no q hq).2.2))
  obtain ⟨xs1, c1, k1⟩ := (u x 0 sx).1 _ _ c_x
  exact ⟨xs1, c1, k1 10 (fun z => (no _ z).1 rfl), k1 11 (fun z => (no _ z).2.1 rfl)⟩
theorem wC.same (hH : k_H Sg cA Lb h) (sx : Sg x = some 0) (o : ∀ a L, Sg a = some L → L = 0 ∨ L = 32 → h1 a = h a) (H : wC cA h x n wn) : wC cA h1 x n wn :=
  H.gen hH sx (fun xs c_x => ⟨xs, (o x 0 sx (Or.inl rfl)).trans c_x, rfl, rfl⟩) (fun a ha => o a 32 ha (Or.inr rfl))
theorem wC.eq (hH : k_H Sg cA Lb h) (sx : Sg x = some 0) (o : ∀ a L, Sg a = some L → L < 50 → h1 a = h a) (H : wC cA h x n wn) : wC cA h1 x n wn := H.same hH sx (fun a L ha hl => o a L ha (by omega))
theorem wC.ag (hH : k_H Sg cA Lb g) (sx : Sg x = some 0) (a : ag g g2) (ai : agI g g2) (H : wC cA g2 x n wn) : wC cA g x n wn := by
  obtain ⟨xs, p, q, f, c_x, f10, f11, ne, c_a, e⟩ := H
  obtain ⟨xs1, c1, l1, -⟩ := hH.obj sx (L := 0) rfl
  have q1 := a.get c1 c_x (by decide) (by rw [l1]; decide) f10
  have q2 := a.get c1 c_x (by decide) (by rw [l1]; decide) f11
  obtain ⟨sa, sb, -⟩ := lab10 hH sx c1 q1 q2
  obtain ⟨f1, z1, -⟩ := hH.arr sa (L := 32) rfl
  have z1 : g p = some (.inl (cA 0, 12, .inl f1)) := z1
  have w1 := (ai p _ _ _ _ _ _ z1 c_a).2
  exact ⟨xs1, p, q, f1, c1, q1, q2, ne, z1, fun hn r hr => by rw [w1 r hr]; exact e hn r hr⟩
end
section
variable {l : Launch} {D : va_G} {tys : List (ClassId × FieldType)} {A : Nat → Prop} {X : State → Prop} {fr lo : Nat} {Q : Option Value → ch_H → Prop} {cA : Nat → ClassId} {Sg : Nat → Option Nat} {h : ch_H} {x m : Nat} {τ : aN}
theorem c_wantW (hT : k_tys tys cA) {p y : Int32} (hf : 1 ≤ fr) (hl : 21 ≤ lo) (hH : k_H Sg cA Lb h) (s_x : Sg x = some 0) (H : bC h x τ) (hq : ∀ (v : Int32) (h1 : ch_H), (¬ (0 ≤ p.toInt ∧ p.toInt < 2 * (τ.1 : Int) ∧ -1 ≤ y.toInt ∧ y.toInt ≤ 200) ∧ h1 = h ∨ (0 ≤ p.toInt ∧ p.toInt < 2 * (τ.1 : Int) ∧ -1 ≤ y.toInt ∧ y.toInt ≤ 200) ∧ ∃ (xs : List Value) (a : Nat) (f : Nat → Int32), h x = some (.inr (9, xs)) ∧ xs[10]? = some (.ref a) ∧ h a = some (.inl (cA 0, 12, .inl f)) ∧ h1 a = some (.inl (cA 0, 12, .inl (upd f p.toInt.toNat y))) ∧ ∀ q, q ≠ a → h1 q = h q) → Q (some (.int v)) h1) : ww l D tys A X fr lo mX10_want Q 0 [(0, .ref x), (1, .int p), (2, .int y)] [] h := by
  obtain ⟨xs, ps, gs, Pa, P, fo, n, ga, pe, ta, c_x, f1, f2, f8, nPP, c_Pa, p0, c_fo, g0, g3, g5, t0, t1, t2, t3⟩ := H
  obtain ⟨s_Pa, s_fo⟩ := bC.sg hH s_x c_x f1 f8
  obtain ⟨w9, c9, xl, ty_x⟩ := hH.obj s_x (L := 0) rfl
  rw [c_x] at c9
  cases c9
  obtain ⟨w9, c9, pl, ty_Pa⟩ := hH.obj s_Pa (L := 2) rfl
  rw [c_Pa] at c9
  cases c9
  obtain ⟨w9, c9, gl, ty_fo⟩ := hH.obj s_fo (L := 4) rfl
  rw [c_fo] at c9
  cases c9
  have bn : 0 ≤ n.toInt ∧ n.toInt ≤ 6 := by
    obtain ⟨v9, e9, t9⟩ := ty_Pa 0 _ rfl
    rw [p0] at e9
    cases e9
    obtain ⟨y9, z9, r1, r2⟩ := k_v.int t9
    cases z9
    exact ⟨r1, r2⟩
  have bg : 0 ≤ ga.toInt ∧ ga.toInt ≤ 6 := by
    obtain ⟨v9, e9, t9⟩ := ty_fo 0 _ rfl
    rw [g0] at e9
    cases e9
    obtain ⟨y9, z9, r1, r2⟩ := k_v.int t9
    cases z9
    exact ⟨r1, r2⟩
  have bp : 0 ≤ pe.toInt ∧ pe.toInt ≤ 8 := by
    obtain ⟨v9, e9, t9⟩ := ty_fo 3 _ rfl
    rw [g3] at e9
    cases e9
    obtain ⟨y9, z9, r1, r2⟩ := k_v.int t9
    cases z9
    exact ⟨r1, r2⟩
  have bt : 0 ≤ ta.toInt ∧ ta.toInt ≤ 6 := by
    obtain ⟨v9, e9, t9⟩ := ty_fo 5 _ rfl
    rw [g5] at e9
    cases e9
    obtain ⟨y9, z9, r1, r2⟩ := k_v.int t9
    cases z9
    exact ⟨r1, r2⟩
  obtain ⟨v_wn, q_wn, w_wn⟩ := ty_x 10 _ rfl
  obtain ⟨wn, rfl, s_wn⟩ := k_v.ref w_wn
  obtain ⟨z_wn, c_wn, -⟩ := hH.arr s_wn (L := 32) rfl
  refine w_aload_n (List.Mem.head _) (tX10_want_0_ok (0, .aload_n 0, 1) (List.mem_of_getElem? (i := 0) rfl)) ?_
  refine w_iload_n (List.Mem.tail _ (List.Mem.head _)) (tX10_want_0_ok (1, .iload_n 1, 1) (List.mem_of_getElem? (i := 1) rfl)) ?_
  refine w_callV (own := 15) (mi := 122) [.int p] [] [(0, .ref x), (1, .int p)] rfl (cllw_X10 (144, 0, 122) (List.mem_of_getElem? (i := 8) rfl)) rfl rfl c_x rfl (by omega) (w_lo (n := 21) rfl (by omega)) (Nat.le_of_ble_eq_true rfl) (Nat.le_of_ble_eq_true rfl) rfl (tX10_want_0_ok (2, .invokevirtual 144, 3) (List.mem_of_getElem? (i := 2) rfl)) (c_isRoom c_x f1 c_Pa p0 bn (fun v1 e2 => ?_))
  show ww l D tys A X fr lo mX10_want Q 5 [(0, .ref x), (1, .int p), (2, .int y)] [.int v1] h
  refine w_if_eq (tgt := 20) (tX10_want_0_ok (5, .ifCond .eq 15, 3) (List.mem_of_getElem? (i := 3) rfl)) rfl (fun b3 => ?_) (fun b3 => ?_)
  · refine w_iconst (by decide) (tX10_want_0_ok (20, .iconst 0, 1) (List.mem_of_getElem? (i := 10) rfl)) (fun v4 e5 => ?_)
    refine w_zret rfl (by omega) (by omega) (tX10_want_0_ok (21, .ireturn, 1) (List.mem_of_getElem? (i := 11) rfl)) ?_
    exact hq _ _ (Or.inl ⟨by omega, rfl⟩)
  · refine w_iload_n (List.Mem.tail _ (List.Mem.tail _ (List.Mem.head _))) (tX10_want_0_ok (8, .iload_n 2, 1) (List.mem_of_getElem? (i := 4) rfl)) ?_
    refine w_iconst (by decide) (tX10_want_0_ok (9, .iconst (-1), 1) (List.mem_of_getElem? (i := 5) rfl)) (fun v6 e7 => ?_)
    refine w_icmp_lt (tgt := 20) (tX10_want_0_ok (10, .if_icmp .lt 10, 3) (List.mem_of_getElem? (i := 6) rfl)) rfl (fun b8 => ?_) (fun b8 => ?_)
    · refine w_iconst (by decide) (tX10_want_0_ok (20, .iconst 0, 1) (List.mem_of_getElem? (i := 10) rfl)) (fun v9 e10 => ?_)
      refine w_zret rfl (by omega) (by omega) (tX10_want_0_ok (21, .ireturn, 1) (List.mem_of_getElem? (i := 11) rfl)) ?_
      exact hq _ _ (Or.inl ⟨by omega, rfl⟩)
    · refine w_iload_n (List.Mem.tail _ (List.Mem.tail _ (List.Mem.head _))) (tX10_want_0_ok (13, .iload_n 2, 1) (List.mem_of_getElem? (i := 7) rfl)) ?_
      refine w_sipush (by decide) (tX10_want_0_ok (14, .sipush 200, 3) (List.mem_of_getElem? (i := 8) rfl)) (fun v11 e12 => ?_)
      refine w_icmp_le (tgt := 22) (tX10_want_0_ok (17, .if_icmp .le 5, 3) (List.mem_of_getElem? (i := 9) rfl)) rfl (fun b13 => ?_) (fun b13 => ?_)
      · refine w_aload_n (List.Mem.head _) (tX10_want_0_ok (22, .aload_n 0, 1) (List.mem_of_getElem? (i := 12) rfl)) ?_
        refine w_get (own := 15) rfl rfl (by decide) c_x q_wn (tX10_want_0_ok (23, .getfield 53, 3) (List.mem_of_getElem? (i := 13) rfl)) ?_
        refine w_iload_n (List.Mem.tail _ (List.Mem.head _)) (tX10_want_0_ok (26, .iload_n 1, 1) (List.mem_of_getElem? (i := 14) rfl)) ?_
        refine w_iload_n (List.Mem.tail _ (List.Mem.tail _ (List.Mem.head _))) (tX10_want_0_ok (27, .iload_n 2, 1) (List.mem_of_getElem? (i := 15) rfl)) ?_
        refine w_iast hT c_wn (by omega) (by omega) (tX10_want_0_ok (28, .iastore, 1) (List.mem_of_getElem? (i := 16) rfl)) (fun h14 c15 o16 => ?_)
        have c17 := (o16 x (k_sg_ne s_x s_wn (by omega))).trans c_x
        have c18 := (o16 Pa (k_sg_ne s_Pa s_wn (by omega))).trans c_Pa
        have c19 := (o16 fo (k_sg_ne s_fo s_wn (by omega))).trans c_fo
        refine w_iconst (by decide) (tX10_want_0_ok (29, .iconst 1, 1) (List.mem_of_getElem? (i := 17) rfl)) (fun v20 e21 => ?_)
        refine w_zret rfl (by omega) (by omega) (tX10_want_0_ok (30, .ireturn, 1) (List.mem_of_getElem? (i := 18) rfl)) ?_
        exact hq _ _ (Or.inr ⟨by omega, xs, wn, z_wn, c_x, q_wn, c_wn, c15, o16⟩)
      · refine w_iconst (by decide) (tX10_want_0_ok (20, .iconst 0, 1) (List.mem_of_getElem? (i := 10) rfl)) (fun v22 e23 => ?_)
        refine w_zret rfl (by omega) (by omega) (tX10_want_0_ok (21, .ireturn, 1) (List.mem_of_getElem? (i := 11) rfl)) ?_
        exact hq _ _ (Or.inl ⟨by omega, rfl⟩)
theorem c_wokeW (hT : k_tys tys cA) {p y : Int32} (hf : 1 ≤ fr) (hl : 21 ≤ lo) (hH : k_H Sg cA Lb h) (s_x : Sg x = some 0) (H : bC h x τ) (hq : ∀ (v : Int32) (h1 : ch_H), (¬ (0 ≤ p.toInt ∧ p.toInt < 2 * (τ.1 : Int) ∧ -1 ≤ y.toInt ∧ y.toInt ≤ 200) ∧ h1 = h ∨ (0 ≤ p.toInt ∧ p.toInt < 2 * (τ.1 : Int) ∧ -1 ≤ y.toInt ∧ y.toInt ≤ 200) ∧ ∃ (xs : List Value) (a : Nat) (f : Nat → Int32), h x = some (.inr (9, xs)) ∧ xs[11]? = some (.ref a) ∧ h a = some (.inl (cA 0, 12, .inl f)) ∧ h1 a = some (.inl (cA 0, 12, .inl (upd f p.toInt.toNat y))) ∧ ∀ q, q ≠ a → h1 q = h q) → Q (some (.int v)) h1) : ww l D tys A X fr lo mX10_woke Q 0 [(0, .ref x), (1, .int p), (2, .int y)] [] h := by
  obtain ⟨xs, ps, gs, Pa, P, fo, n, ga, pe, ta, c_x, f1, f2, f8, nPP, c_Pa, p0, c_fo, g0, g3, g5, t0, t1, t2, t3⟩ := H
  obtain ⟨s_Pa, s_fo⟩ := bC.sg hH s_x c_x f1 f8
  obtain ⟨w9, c9, xl, ty_x⟩ := hH.obj s_x (L := 0) rfl
  rw [c_x] at c9
  cases c9
  obtain ⟨w9, c9, pl, ty_Pa⟩ := hH.obj s_Pa (L := 2) rfl
  rw [c_Pa] at c9
  cases c9
  obtain ⟨w9, c9, gl, ty_fo⟩ := hH.obj s_fo (L := 4) rfl
  rw [c_fo] at c9
  cases c9
  have bn : 0 ≤ n.toInt ∧ n.toInt ≤ 6 := by
    obtain ⟨v9, e9, t9⟩ := ty_Pa 0 _ rfl
    rw [p0] at e9
    cases e9
    obtain ⟨y9, z9, r1, r2⟩ := k_v.int t9
    cases z9
    exact ⟨r1, r2⟩
  have bg : 0 ≤ ga.toInt ∧ ga.toInt ≤ 6 := by
    obtain ⟨v9, e9, t9⟩ := ty_fo 0 _ rfl
    rw [g0] at e9
    cases e9
    obtain ⟨y9, z9, r1, r2⟩ := k_v.int t9
    cases z9
    exact ⟨r1, r2⟩
  have bp : 0 ≤ pe.toInt ∧ pe.toInt ≤ 8 := by
    obtain ⟨v9, e9, t9⟩ := ty_fo 3 _ rfl
    rw [g3] at e9
    cases e9
    obtain ⟨y9, z9, r1, r2⟩ := k_v.int t9
    cases z9
    exact ⟨r1, r2⟩
  have bt : 0 ≤ ta.toInt ∧ ta.toInt ≤ 6 := by
    obtain ⟨v9, e9, t9⟩ := ty_fo 5 _ rfl
    rw [g5] at e9
    cases e9
    obtain ⟨y9, z9, r1, r2⟩ := k_v.int t9
    cases z9
    exact ⟨r1, r2⟩
  obtain ⟨v_sn, q_sn, w_sn⟩ := ty_x 11 _ rfl
  obtain ⟨sn, rfl, s_sn⟩ := k_v.ref w_sn
  obtain ⟨z_sn, c_sn, -⟩ := hH.arr s_sn (L := 32) rfl
  refine w_aload_n (List.Mem.head _) (tX10_woke_0_ok (0, .aload_n 0, 1) (List.mem_of_getElem? (i := 0) rfl)) ?_
  refine w_iload_n (List.Mem.tail _ (List.Mem.head _)) (tX10_woke_0_ok (1, .iload_n 1, 1) (List.mem_of_getElem? (i := 1) rfl)) ?_
  refine w_callV (own := 15) (mi := 122) [.int p] [] [(0, .ref x), (1, .int p)] rfl (cllw_X10 (144, 0, 122) (List.mem_of_getElem? (i := 8) rfl)) rfl rfl c_x rfl (by omega) (w_lo (n := 21) rfl (by omega)) (Nat.le_of_ble_eq_true rfl) (Nat.le_of_ble_eq_true rfl) rfl (tX10_woke_0_ok (2, .invokevirtual 144, 3) (List.mem_of_getElem? (i := 2) rfl)) (c_isRoom c_x f1 c_Pa p0 bn (fun v1 e2 => ?_))
  show ww l D tys A X fr lo mX10_woke Q 5 [(0, .ref x), (1, .int p), (2, .int y)] [.int v1] h
  refine w_if_eq (tgt := 20) (tX10_woke_0_ok (5, .ifCond .eq 15, 3) (List.mem_of_getElem? (i := 3) rfl)) rfl (fun b3 => ?_) (fun b3 => ?_)
  · refine w_iconst (by decide) (tX10_woke_0_ok (20, .iconst 0, 1) (List.mem_of_getElem? (i := 10) rfl)) (fun v4 e5 => ?_)
    refine w_zret rfl (by omega) (by omega) (tX10_woke_0_ok (21, .ireturn, 1) (List.mem_of_getElem? (i := 11) rfl)) ?_
    exact hq _ _ (Or.inl ⟨by omega, rfl⟩)
  · refine w_iload_n (List.Mem.tail _ (List.Mem.tail _ (List.Mem.head _))) (tX10_woke_0_ok (8, .iload_n 2, 1) (List.mem_of_getElem? (i := 4) rfl)) ?_
    refine w_iconst (by decide) (tX10_woke_0_ok (9, .iconst (-1), 1) (List.mem_of_getElem? (i := 5) rfl)) (fun v6 e7 => ?_)
    refine w_icmp_lt (tgt := 20) (tX10_woke_0_ok (10, .if_icmp .lt 10, 3) (List.mem_of_getElem? (i := 6) rfl)) rfl (fun b8 => ?_) (fun b8 => ?_)
    · refine w_iconst (by decide) (tX10_woke_0_ok (20, .iconst 0, 1) (List.mem_of_getElem? (i := 10) rfl)) (fun v9 e10 => ?_)
      refine w_zret rfl (by omega) (by omega) (tX10_woke_0_ok (21, .ireturn, 1) (List.mem_of_getElem? (i := 11) rfl)) ?_
      exact hq _ _ (Or.inl ⟨by omega, rfl⟩)
    · refine w_iload_n (List.Mem.tail _ (List.Mem.tail _ (List.Mem.head _))) (tX10_woke_0_ok (13, .iload_n 2, 1) (List.mem_of_getElem? (i := 7) rfl)) ?_
      refine w_sipush (by decide) (tX10_woke_0_ok (14, .sipush 200, 3) (List.mem_of_getElem? (i := 8) rfl)) (fun v11 e12 => ?_)
      refine w_icmp_le (tgt := 22) (tX10_woke_0_ok (17, .if_icmp .le 5, 3) (List.mem_of_getElem? (i := 9) rfl)) rfl (fun b13 => ?_) (fun b13 => ?_)
      · refine w_aload_n (List.Mem.head _) (tX10_woke_0_ok (22, .aload_n 0, 1) (List.mem_of_getElem? (i := 12) rfl)) ?_
        refine w_get (own := 15) rfl rfl (by decide) c_x q_sn (tX10_woke_0_ok (23, .getfield 57, 3) (List.mem_of_getElem? (i := 13) rfl)) ?_
        refine w_iload_n (List.Mem.tail _ (List.Mem.head _)) (tX10_woke_0_ok (26, .iload_n 1, 1) (List.mem_of_getElem? (i := 14) rfl)) ?_
        refine w_iload_n (List.Mem.tail _ (List.Mem.tail _ (List.Mem.head _))) (tX10_woke_0_ok (27, .iload_n 2, 1) (List.mem_of_getElem? (i := 15) rfl)) ?_
        refine w_iast hT c_sn (by omega) (by omega) (tX10_woke_0_ok (28, .iastore, 1) (List.mem_of_getElem? (i := 16) rfl)) (fun h14 c15 o16 => ?_)
        have c17 := (o16 x (k_sg_ne s_x s_sn (by omega))).trans c_x
        have c18 := (o16 Pa (k_sg_ne s_Pa s_sn (by omega))).trans c_Pa
        have c19 := (o16 fo (k_sg_ne s_fo s_sn (by omega))).trans c_fo
        refine w_iconst (by decide) (tX10_woke_0_ok (29, .iconst 1, 1) (List.mem_of_getElem? (i := 17) rfl)) (fun v20 e21 => ?_)
        refine w_zret rfl (by omega) (by omega) (tX10_woke_0_ok (30, .ireturn, 1) (List.mem_of_getElem? (i := 18) rfl)) ?_
        exact hq _ _ (Or.inr ⟨by omega, xs, sn, z_sn, c_x, q_sn, c_sn, c15, o16⟩)
      · refine w_iconst (by decide) (tX10_woke_0_ok (20, .iconst 0, 1) (List.mem_of_getElem? (i := 10) rfl)) (fun v22 e23 => ?_)
        refine w_zret rfl (by omega) (by omega) (tX10_woke_0_ok (21, .ireturn, 1) (List.mem_of_getElem? (i := 11) rfl)) ?_
        exact hq _ _ (Or.inl ⟨by omega, rfl⟩)
end
section
variable {l : Launch} {D : va_G} {tys : List (ClassId × FieldType)} {A : Nat → Prop} {X : State → Prop} {fr lo : Nat} {Q : Option Value → ch_H → Prop} {cA : Nat → ClassId} {Sg : Nat → Option Nat} {h : ch_H}
theorem h_ntLW (hT : k_tys tys cA) {x wn sn t Pa P no fo o3 : Nat} {xs : List Value} {seed : Int64} (xl : xs.length = 19) (f0 : xs[0]? = some (.ref t)) (f1 : xs[1]? = some (.ref Pa)) (f2 : xs[2]? = some (.ref P)) (f3 : xs[3]? = some (.ref no)) (f8 : xs[8]? = some (.ref fo)) (f10 : xs[10]? = some (.ref wn)) (f11 : xs[11]? = some (.ref sn)) (s_x : Sg x = some 0) (s_t : Sg t = some 1) (s_Pa : Sg Pa = some 2) (s_P : Sg P = some 2) (s_no : Sg no = some 3) (s_fo : Sg fo = some 4) (s_wn : Sg wn = some 32) (s_sn : Sg sn = some 32) (n_ws : wn ≠ sn) : ∀ (j : Nat) (k : Int32) (h : ch_H) (f : Nat → Int32), 0 ≤ k.toInt → k.toInt + j = 12 → k_H Sg cA Lb h → h x = some (.inr (9, xs)) → h wn = some (.inl (cA 0, 12, .inl f)) → (∀ r, r < k.toInt.toNat → (f r).toInt = -1) → (∀ (g : ch_H) (k1 : Int32), k_H Sg cA Lb g → g x = some (.inr (9, xs)) → k_U Sg [(32, 0)] h g → (∃ f : Nat → Int32, g wn = some (.inl (cA 0, 12, .inl f)) ∧ ∀ r, r < 12 → (f r).toInt = -1) → ww l D tys A X fr lo mX10_newTown Q 101 [(4, .int k1), (0, .ref x), (1, .long seed), (3, .ref o3)] [] g) → ww l D tys A X fr lo mX10_newTown Q 72 [(4, .int k), (0, .ref x), (1, .long seed), (3, .ref o3)] [] h := by
  intro j
  induction j using Nat.strongRecOn with
  | ind j ih =>
    intro k h f hk hj hH c_x c_wn hi hq
    refine w_iload (List.Mem.head _) (tX10_newTown_0_ok (72, .iload 4, 2) (List.mem_of_getElem? (i := 37) rfl)) ?_
    refine w_bipush (by decide) (tX10_newTown_0_ok (74, .bipush 12, 2) (List.mem_of_getElem? (i := 38) rfl)) (fun zv1 ze2 => ?_)
    refine w_icmp_ge (tgt := 101) (tX10_newTown_0_ok (76, .if_icmp .ge 25, 3) (List.mem_of_getElem? (i := 39) rfl)) rfl (fun zb3 => ?_) (fun zb3 => ?_)
    · exact hq _ _ hH c_x k_U.rf ⟨f, c_wn, fun r hr => hi r (by omega)⟩
    · refine w_aload_n (List.Mem.tail _ (List.Mem.head _)) (tX10_newTown_0_ok (79, .aload_n 0, 1) (List.mem_of_getElem? (i := 40) rfl)) ?_
      refine w_get (own := 15) rfl rfl (by decide) c_x f10 (tX10_newTown_0_ok (80, .getfield 53, 3) (List.mem_of_getElem? (i := 41) rfl)) ?_
      refine w_iload (List.Mem.head _) (tX10_newTown_0_ok (83, .iload 4, 2) (List.mem_of_getElem? (i := 42) rfl)) ?_
      refine w_iconst (by decide) (tX10_newTown_0_ok (85, .iconst (-1), 1) (List.mem_of_getElem? (i := 43) rfl)) (fun zv4 ze5 => ?_)
      have zc11 := c_wn
      refine w_iast hT zc11 (by omega) (by omega) (tX10_newTown_0_ok (86, .iastore, 1) (List.mem_of_getElem? (i := 44) rfl)) (fun zh13 zc14 zo9 => ?_)
      have zH7 := (show k_H Sg cA Lb h from hH).ast s_wn rfl zc14 (top_b _ _) zo9
      have zu8 : k_U Sg [(32, 0)] h zh13 := k_U.ast s_wn (by decide) zc11 zo9
      have zc10 := (zo9 x (k_sg_ne s_x s_wn (by decide))).trans c_x
      show ww l D tys A X fr lo mX10_newTown Q 87 [(4, .int k), (0, .ref x), (1, .long seed), (3, .ref o3)] [] zh13
      refine w_aload_n (List.Mem.tail _ (List.Mem.head _)) (tX10_newTown_0_ok (87, .aload_n 0, 1) (List.mem_of_getElem? (i := 45) rfl)) ?_
      refine w_get (own := 15) rfl rfl (by decide) zc10 f11 (tX10_newTown_0_ok (88, .getfield 57, 3) (List.mem_of_getElem? (i := 46) rfl)) ?_
      refine w_iload (List.Mem.head _) (tX10_newTown_0_ok (91, .iload 4, 2) (List.mem_of_getElem? (i := 47) rfl)) ?_
      refine w_iconst (by decide) (tX10_newTown_0_ok (93, .iconst (-1), 1) (List.mem_of_getElem? (i := 48) rfl)) (fun zv15 ze16 => ?_)
      obtain ⟨zgq23, zc22, -⟩ := (show k_H Sg cA Lb zh13 from zH7).arr s_sn (L := 32) rfl
      refine w_iast hT zc22 (by omega) (by omega) (tX10_newTown_0_ok (94, .iastore, 1) (List.mem_of_getElem? (i := 49) rfl)) (fun zh24 zc25 zo20 => ?_)
      have zH18 := (show k_H Sg cA Lb zh13 from zH7).ast s_sn rfl zc25 (top_b _ _) zo20
      have zu19 : k_U Sg [(32, 0)] zh13 zh24 := k_U.ast s_sn (by decide) zc22 zo20
      have zc21 := (zo20 x (k_sg_ne s_x s_sn (by decide))).trans zc10
      show ww l D tys A X fr lo mX10_newTown Q 95 [(4, .int k), (0, .ref x), (1, .long seed), (3, .ref o3)] [] zh24
      refine w_iinc (fun zv26 => [(4, .int zv26), (0, .ref x), (1, .long seed), (3, .ref o3)]) (fun _ => rfl) (List.Mem.head _) (Nat.le_of_ble_eq_true rfl) (by decide) (by omega) (by omega) (tX10_newTown_0_ok (95, .iinc 4 1, 3) (List.mem_of_getElem? (i := 50) rfl)) (fun zv26 ze27 => ?_)
      refine w_goto (tgt := 72) (tX10_newTown_0_ok (98, .goto (-26), 3) (List.mem_of_getElem? (i := 51) rfl)) rfl ?_
      refine w_lv [(4, .int zv26), (0, .ref x), (1, .long seed), (3, .ref o3)] (by intro q hq; simp only [List.mem_cons, List.not_mem_nil, or_false] at hq ⊢; rcases hq with e | e | e | e <;> subst e <;> simp) ?_
      refine ih (j - 1) (by omega) _ _ _ (by omega) (by omega) zH18 zc21 ((zo20 wn n_ws).trans zc14) (fun r hr => ?_) (fun g k1 q1 q2 q3 q4 => hq g k1 q1 q2 (((zu8).tr zu19).tr q3) q4)
      by_cases c9 : r = k.toInt.toNat
      · subst c9
        rw [upd_s]
        omega
      · rw [upd_n _ _ c9]
        exact hi r (by omega)
theorem h_newTownW (hT : k_tys tys cA) (hf : 8 ≤ fr) (hl : 300 ≤ lo) {x wn sn t b Pa P no fo : Nat} {f : Nat → Int32} {len at0 fl0 : Int32} {xs : List Value} {seed : Int64} (xl : xs.length = 19) (f0 : xs[0]? = some (.ref t)) (f1 : xs[1]? = some (.ref Pa)) (f2 : xs[2]? = some (.ref P)) (f3 : xs[3]? = some (.ref no)) (f8 : xs[8]? = some (.ref fo)) (f10 : xs[10]? = some (.ref wn)) (f11 : xs[11]? = some (.ref sn)) (s_x : Sg x = some 0) (s_t : Sg t = some 1) (s_Pa : Sg Pa = some 2) (s_P : Sg P = some 2) (s_no : Sg no = some 3) (s_fo : Sg fo = some 4) (s_wn : Sg wn = some 32) (s_sn : Sg sn = some 32) (s_b : Sg b = some 10) (hH : k_H Sg cA Lb h) (c_x : h x = some (.inr (9, xs))) (T : tp0 cA h t b f len at0 fl0) (n_ws : wn ≠ sn) (hq : ∀ (g : ch_H) (v : Int32), ((∃ q, (sp_town f len.toInt.toNat).1 = .inr q) ∧ (∃ (xs1 : List Value) (f1 : Nat → Int32), g x = some (.inr (9, xs1)) ∧ xs1[10]? = some (.ref wn) ∧ xs1[11]? = some (.ref sn) ∧ g wn = some (.inl (cA 0, 12, .inl f1)) ∧ ∀ r, r < 12 → (f1 r).toInt = -1) ∨ (∃ e, (sp_town f len.toInt.toNat).1 = .inl e) ∧ ∀ a L, Sg a = some L → L = 0 ∨ L = 32 → g a = h a) → Q (some (.int v)) g) : ww l D tys A X fr lo mX10_newTown Q 0 [(0, .ref x), (1, .long seed)] [] h := by
  have c_t0 := T.1
  have c_t := T.1
  refine w_aload_n (List.Mem.head _) (tX10_newTown_0_ok (0, .aload_n 0, 1) (List.mem_of_getElem? (i := 0) rfl)) ?_
  refine w_get (own := 15) rfl rfl (by decide) c_x f0 (tX10_newTown_0_ok (1, .getfield 10, 3) (List.mem_of_getElem? (i := 1) rfl)) ?_
  refine w_aload_n (List.Mem.head _) (tX10_newTown_0_ok (4, .aload_n 0, 1) (List.mem_of_getElem? (i := 2) rfl)) ?_
  refine w_get (own := 15) rfl rfl (by decide) c_x f2 (tX10_newTown_0_ok (5, .getfield 23, 3) (List.mem_of_getElem? (i := 3) rfl)) ?_
  obtain ⟨a1, a2, a3, a4, a5, a6, a7, a8, g1, g2, g3, s_a1, s_a2, s_a3, s_a4, s_a5, s_a6, s_a7, s_a8, HP⟩ := T_pn hH s_P
  have HP9 := HP
  obtain ⟨⟨ro0, c_P0, -, -⟩, -⟩ := HP9
  refine w_callS (own := 15) (mi := 83) [.ref t, .ref P] [] [(0, .ref t), (1, .ref P)] rfl (cllw_X10 (110, 1, 83) (List.mem_of_getElem? (i := 2) rfl)) rfl rfl (by omega) (w_lo (n := 22) rfl (by omega)) (Nat.le_of_ble_eq_true rfl) (Nat.le_of_ble_eq_true rfl) rfl (tX10_newTown_0_ok (8, .invokestatic 110, 3) (List.mem_of_getElem? (i := 4) rfl)) (s_town hT (pns_of s_t s_b s_P s_a1 s_a2 s_a3 s_a4 s_a5 s_a6 s_a7 s_a8) ⟨by omega, w_sub (n := 22) rfl (by omega)⟩ T HP (fun h1 at1 fl1 k1 k2 k3 T1 P1 e1 e2 o1 => ?_))
  obtain ⟨hH1, u1⟩ := T_back hH s_t s_b s_P s_a1 s_a2 s_a3 s_a4 s_a5 s_a6 s_a7 s_a8 c_t0 c_P0 T1 P1 o1
  have c_x1 : h1 x = some (.inr (9, xs)) := (k_U.same hH u1 s_x (by decide)).trans c_x
  have c_t1 := T1.1
  have c_b1 := T1.2.1
  show ww l D tys A X fr lo mX10_newTown Q 11 [(0, .ref x), (1, .long seed)] [] h1
  refine w_aload_n (List.Mem.head _) (tX10_newTown_0_ok (11, .aload_n 0, 1) (List.mem_of_getElem? (i := 5) rfl)) ?_
  refine w_get (own := 15) rfl rfl (by decide) c_x1 f0 (tX10_newTown_0_ok (12, .getfield 10, 3) (List.mem_of_getElem? (i := 6) rfl)) ?_
  refine w_get (own := 15) rfl rfl (by decide) c_t1 rfl (tX10_newTown_0_ok (15, .getfield 116, 3) (List.mem_of_getElem? (i := 7) rfl)) ?_
  refine w_iconst (by decide) (tX10_newTown_0_ok (18, .iconst (-1), 1) (List.mem_of_getElem? (i := 8) rfl)) (fun zv1 ze2 => ?_)
  refine w_icmp_eq (tgt := 24) (tX10_newTown_0_ok (19, .if_icmp .eq 5, 3) (List.mem_of_getElem? (i := 9) rfl)) rfl (fun zb3 => ?_) (fun zb3 => ?_)
  · obtain ⟨ro9, c_P9, e_ro9⟩ := e2 (by omega)
    refine w_aload_n (List.Mem.head _) (tX10_newTown_0_ok (24, .aload_n 0, 1) (List.mem_of_getElem? (i := 12) rfl)) ?_
    refine w_get (own := 15) rfl rfl (by decide) c_x1 f1 (tX10_newTown_0_ok (25, .getfield 19, 3) (List.mem_of_getElem? (i := 13) rfl)) ?_
    refine w_astore_n [(3, .ref Pa), (0, .ref x), (1, .long seed)] rfl (Nat.le_of_ble_eq_true rfl) (tX10_newTown_0_ok (28, .astore_n 3, 1) (List.mem_of_getElem? (i := 14) rfl)) ?_
    refine w_aload_n (List.Mem.tail _ (List.Mem.head _)) (tX10_newTown_0_ok (29, .aload_n 0, 1) (List.mem_of_getElem? (i := 15) rfl)) ?_
    refine w_aload_n (List.Mem.tail _ (List.Mem.head _)) (tX10_newTown_0_ok (30, .aload_n 0, 1) (List.mem_of_getElem? (i := 16) rfl)) ?_
    refine w_get (own := 15) rfl rfl (by decide) c_x1 f2 (tX10_newTown_0_ok (31, .getfield 23, 3) (List.mem_of_getElem? (i := 17) rfl)) ?_
    refine w_putF (own := 15) (ci := 9) (k := 1) rfl rfl (by decide) rfl ⟨rfl, rfl⟩ c_x1 (by rw [xl]; decide) (tX10_newTown_0_ok (34, .putfield 19, 3) (List.mem_of_getElem? (i := 18) rfl)) (fun zh4 zfs7 zl8 zk9 zj10 zc5 zo6 => ?_)
    rw [xl] at zl8
    have zf11 := (zj10 0 (by decide)).trans f0
    have zf12 := (zj10 2 (by decide)).trans f2
    have zf13 := (zj10 3 (by decide)).trans f3
    have zf14 := (zj10 8 (by decide)).trans f8
    have zf15 := (zj10 10 (by decide)).trans f10
    have zf16 := (zj10 11 (by decide)).trans f11
    have zc17 := (zo6 t (k_sg_ne s_t s_x (by decide))).trans c_t1
    have zc18 := (zo6 P (k_sg_ne s_P s_x (by decide))).trans c_P9
    have zH19 := hH1.fld (k := 1) s_x rfl rfl c_x1 zc5 zl8 zk9 ⟨_, rfl, s_P⟩ zj10 zo6
    have zu20 : k_U Sg [(0, 1), (0, 2), (0, 6), (1, 1), (1, 2), (1, 3), (2, 0), (3, 5), (3, 6), (4, 0), (4, 3), (4, 5), (11, 0), (12, 0), (13, 0), (14, 0), (15, 0), (16, 0), (17, 0), (18, 0), (19, 0), (20, 0), (21, 0), (22, 0), (25, 0), (32, 0)] h1 zh4 := k_U.put s_x (k := 1) (by decide) c_x1 zc5 zj10 zo6
    refine w_aload_n (List.Mem.tail _ (List.Mem.head _)) (tX10_newTown_0_ok (37, .aload_n 0, 1) (List.mem_of_getElem? (i := 19) rfl)) ?_
    refine w_aload_n (List.Mem.head _) (tX10_newTown_0_ok (38, .aload_n 3, 1) (List.mem_of_getElem? (i := 20) rfl)) ?_
    refine w_putF (own := 15) (ci := 9) (k := 2) rfl rfl (by decide) rfl ⟨rfl, rfl⟩ zc5 (by rw [zl8]; decide) (tX10_newTown_0_ok (39, .putfield 23, 3) (List.mem_of_getElem? (i := 21) rfl)) (fun zh21 zfs24 zl25 zk26 zj27 zc22 zo23 => ?_)
    rw [zl8] at zl25
    have zf28 := (zj27 1 (by decide)).trans zk9
    have zf29 := (zj27 0 (by decide)).trans zf11
    have zf30 := (zj27 3 (by decide)).trans zf13
    have zf31 := (zj27 8 (by decide)).trans zf14
    have zf32 := (zj27 10 (by decide)).trans zf15
    have zf33 := (zj27 11 (by decide)).trans zf16
    have zc34 := (zo23 t (k_sg_ne s_t s_x (by decide))).trans zc17
    have zc35 := (zo23 P (k_sg_ne s_P s_x (by decide))).trans zc18
    have zH36 := zH19.fld (k := 2) s_x rfl rfl zc5 zc22 zl25 zk26 ⟨_, rfl, s_Pa⟩ zj27 zo23
    have zu37 : k_U Sg [(0, 1), (0, 2), (0, 6), (1, 1), (1, 2), (1, 3), (2, 0), (3, 5), (3, 6), (4, 0), (4, 3), (4, 5), (11, 0), (12, 0), (13, 0), (14, 0), (15, 0), (16, 0), (17, 0), (18, 0), (19, 0), (20, 0), (21, 0), (22, 0), (25, 0), (32, 0)] zh4 zh21 := k_U.put s_x (k := 2) (by decide) zc5 zc22 zj27 zo23
    refine w_aload_n (List.Mem.tail _ (List.Mem.head _)) (tX10_newTown_0_ok (42, .aload_n 0, 1) (List.mem_of_getElem? (i := 22) rfl)) ?_
    refine w_get (own := 15) rfl rfl (by decide) zc22 zf29 (tX10_newTown_0_ok (43, .getfield 10, 3) (List.mem_of_getElem? (i := 23) rfl)) ?_
    refine w_iconst (by decide) (tX10_newTown_0_ok (46, .iconst 0, 1) (List.mem_of_getElem? (i := 24) rfl)) (fun zv38 ze39 => ?_)
    refine w_put (own := 15) [.ref b, .int zv38, .int at1, .int fl1] rfl rfl rfl (by decide) rfl ⟨rfl, rfl⟩ zc34 (Nat.le_of_ble_eq_true rfl) (tX10_newTown_0_ok (47, .putfield 103, 3) (List.mem_of_getElem? (i := 25) rfl)) (fun zh40 zc41 zo42 => ?_)
    have zc43 := (zo42 x (k_sg_ne s_x s_t (by decide))).trans zc22
    have zc44 := (zo42 P (k_sg_ne s_P s_t (by decide))).trans zc35
    have zH45 := zH36.fld (k := 1) s_t rfl rfl zc34 zc41 rfl rfl ⟨_, rfl, by show (0 : Int) ≤ _; omega, by show _ ≤ (160 : Int); omega⟩ (fun j hj => by match j, hj with | 0, _ => rfl | 1, hj => exact absurd rfl hj | j + 2, _ => rfl) zo42
    have zu46 : k_U Sg [(0, 1), (0, 2), (0, 6), (1, 1), (1, 2), (1, 3), (2, 0), (3, 5), (3, 6), (4, 0), (4, 3), (4, 5), (11, 0), (12, 0), (13, 0), (14, 0), (15, 0), (16, 0), (17, 0), (18, 0), (19, 0), (20, 0), (21, 0), (22, 0), (25, 0), (32, 0)] zh21 zh40 := k_U.put s_t (k := 1) (by decide) zc34 zc41 (fun j hj => by match j, hj with | 0, _ => rfl | 1, hj => exact absurd rfl hj | j + 2, _ => rfl) zo42
    refine w_aload_n (List.Mem.tail _ (List.Mem.head _)) (tX10_newTown_0_ok (50, .aload_n 0, 1) (List.mem_of_getElem? (i := 26) rfl)) ?_
    refine w_get (own := 15) rfl rfl (by decide) zc43 zf30 (tX10_newTown_0_ok (51, .getfield 29, 3) (List.mem_of_getElem? (i := 27) rfl)) ?_
    refine w_aload_n (List.Mem.tail _ (List.Mem.head _)) (tX10_newTown_0_ok (54, .aload_n 0, 1) (List.mem_of_getElem? (i := 28) rfl)) ?_
    refine w_get (own := 15) rfl rfl (by decide) zc43 zf28 (tX10_newTown_0_ok (55, .getfield 19, 3) (List.mem_of_getElem? (i := 29) rfl)) ?_
    refine w_lload_n (List.Mem.tail _ (List.Mem.tail _ (List.Mem.head _))) (tX10_newTown_0_ok (58, .lload_n 1, 1) (List.mem_of_getElem? (i := 30) rfl)) ?_
    obtain ⟨zfq50, zc51, -, -⟩ := (show k_H Sg cA Lb zh40 from zH45).obj s_no (L := 3) rfl
    refine w_callV (own := 15) (mi := 67) [.ref P, .long seed] [] [(0, .ref no), (1, .ref P), (2, .long seed)] rfl (cllw_X10 (130, 0, 67) (List.mem_of_getElem? (i := 5) rfl)) rfl rfl zc51 rfl (by omega) (w_lo (n := 24) rfl (by omega)) (Nat.le_of_ble_eq_true rfl) (Nat.le_of_ble_eq_true rfl) rfl (tX10_newTown_0_ok (59, .invokevirtual 130, 3) (List.mem_of_getElem? (i := 31) rfl)) (h_begT hT s_no s_P zH45 (fun zg47 zq48 zq49 => ?_))
    have zc52 := (k_U.same zH45 zq49 s_x (by decide)).trans zc43
    have zc53 := (k_U.same zH45 zq49 s_t (by decide)).trans zc41
    have zc54 := (k_U.same zH45 zq49 s_P (by decide)).trans zc44
    show ww l D tys A X fr lo mX10_newTown Q 62 [(3, .ref Pa), (0, .ref x), (1, .long seed)] [] zg47
    refine w_aload_n (List.Mem.tail _ (List.Mem.head _)) (tX10_newTown_0_ok (62, .aload_n 0, 1) (List.mem_of_getElem? (i := 32) rfl)) ?_
    refine w_get (own := 15) rfl rfl (by decide) zc52 zf31 (tX10_newTown_0_ok (63, .getfield 42, 3) (List.mem_of_getElem? (i := 33) rfl)) ?_
    obtain ⟨zfq69, zc70, zl71, zty72⟩ := (show k_H Sg cA Lb zg47 from zq48).obj s_fo (L := 4) rfl
    obtain ⟨zv73, zw74, zt75⟩ := zty72 2 _ rfl
    obtain ⟨znb76, rfl, s_znb76⟩ := k_v.ref zt75
    refine w_callV (own := 15) (mi := 25) [] [] [(0, .ref fo)] rfl (cllw_X10 (134, 0, 25) (List.mem_of_getElem? (i := 6) rfl)) rfl rfl zc70 rfl (by omega) (w_lo (n := 21) rfl (by omega)) (Nat.le_of_ble_eq_true rfl) (Nat.le_of_ble_eq_true rfl) rfl (tX10_newTown_0_ok (66, .invokevirtual 134, 3) (List.mem_of_getElem? (i := 34) rfl)) (h_leave hT s_fo s_znb76 zl71 zw74 zq48 zc70 (fun zg55 zgs56 zz66 zz67 zz68 zq57 zq58 zc59 ze60 ze61 ze62 zn63 zn64 zn65 => ?_))
    have zc77 := (k_U.same zq48 zq58 s_x (by decide)).trans zc52
    have zc78 := (k_U.same zq48 zq58 s_t (by decide)).trans zc53
    have zc79 := (k_U.same zq48 zq58 s_P (by decide)).trans zc54
    show ww l D tys A X fr lo mX10_newTown Q 69 [(3, .ref Pa), (0, .ref x), (1, .long seed)] [] zg55
    refine w_iconst (by decide) (tX10_newTown_0_ok (69, .iconst 0, 1) (List.mem_of_getElem? (i := 35) rfl)) (fun zv80 ze81 => ?_)
    refine w_istore [(4, .int zv80), (3, .ref Pa), (0, .ref x), (1, .long seed)] rfl (Nat.le_of_ble_eq_true rfl) (tX10_newTown_0_ok (70, .istore 4, 2) (List.mem_of_getElem? (i := 36) rfl)) ?_
    refine w_lv [(4, .int zv80), (0, .ref x), (1, .long seed), (3, .ref Pa)] (by intro q hq; simp only [List.mem_cons, List.not_mem_nil, or_false] at hq ⊢; rcases hq with e | e | e | e <;> subst e <;> simp) ?_
    obtain ⟨fw9, cw9, -⟩ := zq57.arr s_wn (L := 32) rfl
    refine h_ntLW hT (t := t)  (no := no) (fo := fo) zl25 zf29 zf28 zk26 zf30 zf31 zf32 zf33 s_x s_t s_P s_Pa s_no s_fo s_wn s_sn n_ws 12 _ _ fw9 (by omega) (by omega) zq57 zc77 cw9 (fun r hr => absurd hr (by omega)) (fun zg82 zka83 zq84 zq85 zq86 zqw => ?_)
    have zc87 := (k_U.same zq57 zq86 s_t (by decide)).trans zc78
    have zc88 := (k_U.same zq57 zq86 s_P (by decide)).trans zc79
    have zc89 := (k_U.same zq57 zq86 s_fo (by decide)).trans zc59
    show ww l D tys A X fr lo mX10_newTown Q 101 [(4, .int zka83), (0, .ref x), (1, .long seed), (3, .ref Pa)] [] zg82
    refine w_aload_n (List.Mem.tail _ (List.Mem.head _)) (tX10_newTown_0_ok (101, .aload_n 0, 1) (List.mem_of_getElem? (i := 52) rfl)) ?_
    refine w_iconst (by decide) (tX10_newTown_0_ok (102, .iconst 0, 1) (List.mem_of_getElem? (i := 53) rfl)) (fun zv90 ze91 => ?_)
    refine w_putF (own := 15) (ci := 9) (k := 6) rfl rfl (by decide) rfl ⟨(kn_nz (by omega) (by omega)).1, (kn_nz (by omega) (by omega)).2.1⟩ zq85 (by rw [zl25]; decide) (tX10_newTown_0_ok (103, .putfield 137, 3) (List.mem_of_getElem? (i := 54) rfl)) (fun zh92 zfs95 zl96 zk97 zj98 zc93 zo94 => ?_)
    rw [zl25] at zl96
    have zf99 := (zj98 2 (by decide)).trans zk26
    have zf100 := (zj98 1 (by decide)).trans zf28
    have zf101 := (zj98 0 (by decide)).trans zf29
    have zf102 := (zj98 3 (by decide)).trans zf30
    have zf103 := (zj98 8 (by decide)).trans zf31
    have zf104 := (zj98 10 (by decide)).trans zf32
    have zf105 := (zj98 11 (by decide)).trans zf33
    have zc106 := (zo94 t (k_sg_ne s_t s_x (by decide))).trans zc87
    have zc107 := (zo94 P (k_sg_ne s_P s_x (by decide))).trans zc88
    have zc108 := (zo94 fo (k_sg_ne s_fo s_x (by decide))).trans zc89
    have zH109 := zq84.fld (k := 6) s_x rfl rfl zq85 zc93 zl96 zk97 ⟨_, rfl, by show (0 : Int) ≤ _; omega, by show _ ≤ (1 : Int); omega⟩ zj98 zo94
    have zu110 : k_U Sg [(0, 1), (0, 2), (0, 6), (1, 1), (1, 2), (1, 3), (2, 0), (3, 5), (3, 6), (4, 0), (4, 3), (4, 5), (11, 0), (12, 0), (13, 0), (14, 0), (15, 0), (16, 0), (17, 0), (18, 0), (19, 0), (20, 0), (21, 0), (22, 0), (25, 0), (32, 0)] zg82 zh92 := k_U.put s_x (k := 6) (by decide) zq85 zc93 zj98 zo94
    refine w_aload_n (List.Mem.tail _ (List.Mem.head _)) (tX10_newTown_0_ok (106, .aload_n 0, 1) (List.mem_of_getElem? (i := 55) rfl)) ?_
    refine w_get (own := 15) rfl rfl (by decide) zc93 zf100 (tX10_newTown_0_ok (107, .getfield 19, 3) (List.mem_of_getElem? (i := 56) rfl)) ?_
    refine w_get (own := 15) rfl rfl (by decide) zc107 rfl (tX10_newTown_0_ok (110, .getfield 95, 3) (List.mem_of_getElem? (i := 57) rfl)) ?_
    refine w_iret rfl (tX10_newTown_0_ok (113, .ireturn, 1) (List.mem_of_getElem? (i := 58) rfl)) ?_
    obtain ⟨q9, q8, q7⟩ := sp_is.inr e1 (by omega)
    obtain ⟨f9, c9, e9⟩ := zqw
    exact hq _ _ (Or.inl ⟨⟨q9, q8⟩, _, f9, zc93, zf104, zf105, (zo94 wn (k_sg_ne s_wn s_x (by decide))).trans c9, e9⟩)
  · refine w_iconst (by decide) (tX10_newTown_0_ok (22, .iconst (-1), 1) (List.mem_of_getElem? (i := 10) rfl)) (fun zv111 ze112 => ?_)
    refine w_iret rfl (tX10_newTown_0_ok (23, .ireturn, 1) (List.mem_of_getElem? (i := 11) rfl)) ?_
    obtain ⟨q9, q8, q7⟩ := sp_is.inl e1 (by omega)
    exact hq _ _ (Or.inr ⟨⟨q9, q8⟩, fun a L ha hl => k_U.same hH u1 ha (fun q hq e => by
      have := List.all_eq_true.mp (show ([(1, 2), (1, 3), (2, 0), (11, 0), (12, 0), (13, 0), (14, 0), (15, 0), (16, 0), (17, 0), (18, 0)] : List (Nat × Nat)).all (fun q => decide (q.1 ≠ 0 ∧ q.1 ≠ 32)) = true by decide) q hq
      have := of_decide_eq_true this
      omega)⟩)
end
