/-! WANTED: the reference's array -/
def wR (cA : Nat → ClassId) (h : ch_H) (m n : Nat) (wn : aWn) : Prop := ∃ (fs : List Value) (a : Nat) (f : Nat → Int32), h m = some (.inr (10, fs)) ∧ fs[26]? = some (.ref a) ∧ h a = some (.inl (cA 0, 12, .inl f)) ∧ (1 ≤ n → ∀ r, r < 12 → (f r).toInt = wn r)
def okRw (W : List (Nat × Nat)) : Bool := W.all (fun q => decide (q ∉ [(50, 26), (70, 26), (60, 0)]))
theorem okRw.no {W : List (Nat × Nat)} (h : okRw W = true) : ∀ q ∈ W, q ∉ [(50, 26), (70, 26), (60, 0)] := fun q hq => of_decide_eq_true (List.all_eq_true.mp h q hq)
section
variable {Sg : Nat → Option Nat} {cA : Nat → ClassId} {h h1 g g2 : ch_H} {W : List (Nat × Nat)} {m n : Nat} {wn : aWn}
theorem labW {fs : List Value} {a : Nat} (hH : k_H Sg cA Lb h) (sm : sgM0 Sg m) (c_m : h m = some (.inr (10, fs))) (f26 : fs[26]? = some (.ref a)) : Sg a = some 60 := by
  obtain ⟨wa, kw, gw, gk, -, e, -, s, -⟩ := lab26 hH sm c_m
  rw [f26] at e
  cases e
  exact s
theorem wR.gen (hH : k_H Sg cA Lb h) (sm : sgM0 Sg m) (hx : ∀ fs : List Value, h m = some (.inr (10, fs)) → ∃ fs1, h1 m = some (.inr (10, fs1)) ∧ fs1[26]? = fs[26]?) (o : ∀ a, Sg a = some 60 → h1 a = h a) (H : wR cA h m n wn) : wR cA h1 m n wn := by
  obtain ⟨fs, a, f, c_m, f26, c_a, e⟩ := H
  obtain ⟨fs1, d0, d1⟩ := hx fs c_m
  exact ⟨fs1, a, f, d0, d1.trans f26, (o a (labW hH sm c_m f26)).trans c_a, e⟩
theorem wR.U (hH : k_H Sg cA Lb h) (u : k_U Sg W h h1) (hw : okRw W = true) (sm : sgM0 Sg m) (H : wR cA h m n wn) : wR cA h1 m n wn := by
  have no := okRw.no hw
  refine H.gen hH sm (fun fs c_m => ?_) (fun a ha => ?_)
  · rcases sm with sm | sm
    · obtain ⟨fs1, c1, k1⟩ := (u m 50 sm).1 _ _ c_m
      exact ⟨fs1, c1, k1 26 (fun z => no _ z (by decide))⟩
    · obtain ⟨fs1, c1, k1⟩ := (u m 70 sm).1 _ _ c_m
      exact ⟨fs1, c1, k1 26 (fun z => no _ z (by decide))⟩
  · obtain ⟨R, c, -⟩ := hH.arr ha (L := 60) rfl
    exact ((u a 60 ha).2 _ c (fun z => no _ z (by decide))).trans c.symm
theorem wR.eq (hH : k_H Sg cA Lb h) (sm : sgM0 Sg m) (o : ∀ a L, Sg a = some L → 50 ≤ L → h1 a = h a) (H : wR cA h m n wn) : wR cA h1 m n wn :=
  H.gen hH sm (fun fs c_m => ⟨fs, by
    rcases sm with sm | sm
    · exact (o m 50 sm (by decide)).trans c_m
    · exact (o m 70 sm (by decide)).trans c_m, rfl⟩) (fun a ha => o a 60 ha (by decide))
theorem wR.ag (hH : k_H Sg cA Lb g) (sm : sgM0 Sg m) (a : ag g g2) (ai : agI g g2) (H : wR cA g2 m n wn) : wR cA g m n wn := by
  obtain ⟨fs, p, f, c_m, f26, c_a, e⟩ := H
  obtain ⟨fs1, c1, l1⟩ : ∃ fs1, g m = some (.inr (10, fs1)) ∧ fs1.length = 47 := by
    rcases sm with sm | sm
    · obtain ⟨fs1, c1, l1, -⟩ := hH.obj sm (L := 50) rfl
      exact ⟨fs1, c1, l1⟩
    · obtain ⟨fs1, c1, l1, -⟩ := hH.obj sm (L := 70) rfl
      exact ⟨fs1, c1, l1⟩
  have q26 := a.get c1 c_m (by decide) (by rw [l1]; decide) f26
  obtain ⟨f1, z1, -⟩ := hH.arr (labW hH sm c1 q26) (L := 60) rfl
  have z1 : g p = some (.inl (cA 0, 12, .inl f1)) := z1
  have w1 := (ai p _ _ _ _ _ _ z1 c_a).2
  exact ⟨fs1, p, f1, c1, q26, z1, fun hn r hr => by rw [w1 r hr]; exact e hn r hr⟩
end
section
variable {l : Launch} {D : va_G} {tys : List (ClassId × FieldType)} {A : Nat → Prop} {X : State → Prop} {fr lo : Nat} {Q : Option Value → ch_H → Prop} {cA : Nat → ClassId} {Sg : Nat → Option Nat} {h : ch_H} {x m : Nat} {τ : aN}
theorem q_wantW (hT : k_tys tys cA) {p y : Int32} (hf : 3 ≤ fr) (hl : 64 ≤ lo) (hH : k_H Sg cA Lb h) (sm : sgM0 Sg m) (H : bR h m τ) (hq : ∀ (v : Int32) (h1 : ch_H) (fs fs1 : List Value) (a : Nat) (f : Nat → Int32), h m = some (.inr (10, fs)) → h1 m = some (.inr (10, fs1)) → (∀ j, j ≠ 0 → fs1[j]? = fs[j]?) → fs[26]? = some (.ref a) → h a = some (.inl (cA 0, 12, .inl f)) → (¬ (0 ≤ p.toInt ∧ p.toInt < 2 * (τ.1 : Int) ∧ -1 ≤ y.toInt ∧ y.toInt ≤ 200) ∧ h1 a = h a ∨ (0 ≤ p.toInt ∧ p.toInt < 2 * (τ.1 : Int) ∧ -1 ≤ y.toInt ∧ y.toInt ≤ 200) ∧ h1 a = some (.inl (cA 0, 12, .inl (upd f p.toInt.toNat y)))) → (∀ q, q ≠ m ∧ q ≠ a → h1 q = h q) → Q (some (.int v)) h1) : ww l D tys A X fr lo mX11_want Q 0 [(0, .ref m), (1, .int p), (2, .int y)] [] h := by
  obtain ⟨fs, n, ga, pe, ta, c_m, f20, f32, f33, f34, t0, t1, t2, t3⟩ := H
  obtain ⟨L, s_m, hL⟩ : ∃ L, Sg m = some L ∧ (L = 50 ∨ L = 70) := sm.elim (fun q => ⟨_, q, Or.inl rfl⟩) (fun q => ⟨_, q, Or.inr rfl⟩)
  have fl : fs.length = 47 ∧ (0 ≤ n.toInt ∧ n.toInt ≤ 6) ∧ (0 ≤ ga.toInt ∧ ga.toInt ≤ 6) ∧ (0 ≤ pe.toInt ∧ pe.toInt ≤ 8) ∧ (0 ≤ ta.toInt ∧ ta.toInt ≤ 6) ∧ (∃ a, fs[26]? = some (.ref a) ∧ Sg a = some 60) := by
    rcases sm with s9 | s9
    · obtain ⟨w9, c9, fl, ty⟩ := hH.obj s9 (L := 50) rfl
      rw [c_m] at c9
      cases c9
      obtain ⟨v20, e20, y20⟩ := ty 20 _ rfl
      rw [f20] at e20
      cases e20
      obtain ⟨x20, z20, r20, u20⟩ := k_v.int y20
      cases z20
      have r20 : (0 : Int) ≤ n.toInt := r20
      have u20 : n.toInt ≤ (6 : Int) := u20
      obtain ⟨v32, e32, y32⟩ := ty 32 _ rfl
      rw [f32] at e32
      cases e32
      obtain ⟨x32, z32, r32, u32⟩ := k_v.int y32
      cases z32
      have r32 : (0 : Int) ≤ ga.toInt := r32
      have u32 : ga.toInt ≤ (6 : Int) := u32
      obtain ⟨v33, e33, y33⟩ := ty 33 _ rfl
      rw [f33] at e33
      cases e33
      obtain ⟨x33, z33, r33, u33⟩ := k_v.int y33
      cases z33
      have r33 : (0 : Int) ≤ pe.toInt := r33
      have u33 : pe.toInt ≤ (8 : Int) := u33
      obtain ⟨v34, e34, y34⟩ := ty 34 _ rfl
      rw [f34] at e34
      cases e34
      obtain ⟨x34, z34, r34, u34⟩ := k_v.int y34
      cases z34
      have r34 : (0 : Int) ≤ ta.toInt := r34
      have u34 : ta.toInt ≤ (6 : Int) := u34
      obtain ⟨v26, e26, y26⟩ := ty 26 _ rfl
      obtain ⟨x26, rfl, z26⟩ := k_v.ref y26
      exact ⟨fl, by omega, by omega, by omega, by omega, ⟨_, e26, z26⟩⟩
    · obtain ⟨w9, c9, fl, ty⟩ := hH.obj s9 (L := 70) rfl
      rw [c_m] at c9
      cases c9
      obtain ⟨v20, e20, y20⟩ := ty 20 _ rfl
      rw [f20] at e20
      cases e20
      obtain ⟨x20, z20, r20, u20⟩ := k_v.int y20
      cases z20
      have r20 : (0 : Int) ≤ n.toInt := r20
      have u20 : n.toInt ≤ (0 : Int) := u20
      obtain ⟨v32, e32, y32⟩ := ty 32 _ rfl
      rw [f32] at e32
      cases e32
      obtain ⟨x32, z32, r32, u32⟩ := k_v.int y32
      cases z32
      have r32 : (0 : Int) ≤ ga.toInt := r32
      have u32 : ga.toInt ≤ (0 : Int) := u32
      obtain ⟨v33, e33, y33⟩ := ty 33 _ rfl
      rw [f33] at e33
      cases e33
      obtain ⟨x33, z33, r33, u33⟩ := k_v.int y33
      cases z33
      have r33 : (0 : Int) ≤ pe.toInt := r33
      have u33 : pe.toInt ≤ (0 : Int) := u33
      obtain ⟨v34, e34, y34⟩ := ty 34 _ rfl
      rw [f34] at e34
      cases e34
      obtain ⟨x34, z34, r34, u34⟩ := k_v.int y34
      cases z34
      have r34 : (0 : Int) ≤ ta.toInt := r34
      have u34 : ta.toInt ≤ (0 : Int) := u34
      obtain ⟨v26, e26, y26⟩ := ty 26 _ rfl
      obtain ⟨x26, rfl, z26⟩ := k_v.ref y26
      exact ⟨fl, by omega, by omega, by omega, by omega, ⟨_, e26, z26⟩⟩
  obtain ⟨fl, bn, bg, bp, bt, wn, q_wn, s_wn⟩ := fl
  obtain ⟨z_wn, c_wn, -⟩ := hH.arr s_wn (L := 60) rfl
  refine w_aload_n (List.Mem.head _) (tX11_want_0_ok (0, .aload_n 0, 1) (List.mem_of_getElem? (i := 0) rfl)) ?_
  refine w_iconst (by decide) (tX11_want_0_ok (1, .iconst 0, 1) (List.mem_of_getElem? (i := 1) rfl)) (fun v1 e2 => ?_)
  refine w_putF (own := 16) (ci := 10) (k := 0) rfl rfl (by decide) rfl ⟨rfl, rfl⟩ c_m (by rw [fl]; decide) (tX11_want_0_ok (2, .putfield 85, 3) (List.mem_of_getElem? (i := 2) rfl)) (fun h3 fs6 l7 k8 j9 c4 o5 => ?_)
  rw [fl] at l7
  have f10 := (j9 20 (by decide)).trans f20
  have f11 := (j9 32 (by decide)).trans f32
  have f12 := (j9 33 (by decide)).trans f33
  have f13 := (j9 34 (by decide)).trans f34
  have f14 := (j9 26 (by decide)).trans q_wn
  have c15 := (o5 wn (k_sg_ne s_wn s_m (by omega))).trans c_wn
  refine w_aload_n (List.Mem.head _) (tX11_want_0_ok (5, .aload_n 0, 1) (List.mem_of_getElem? (i := 3) rfl)) ?_
  refine w_iload_n (List.Mem.tail _ (List.Mem.head _)) (tX11_want_0_ok (6, .iload_n 1, 1) (List.mem_of_getElem? (i := 4) rfl)) ?_
  refine w_callV (own := 16) (mi := 203) [.int p] [] [(0, .ref m), (1, .int p)] rfl (cllw_X11 (274, 0, 203) (List.mem_of_getElem? (i := 38) rfl)) rfl rfl c4 rfl (by omega) (w_lo (n := 21) rfl (by omega)) (Nat.le_of_ble_eq_true rfl) (Nat.le_of_ble_eq_true rfl) rfl (tX11_want_0_ok (7, .invokevirtual 274, 3) (List.mem_of_getElem? (i := 5) rfl)) (q_isRoom c4 f10 bn (fun v16 e17 => ?_))
  show ww l D tys A X fr lo mX11_want Q 10 [(0, .ref m), (1, .int p), (2, .int y)] [.int v16] h3
  refine w_if_eq (tgt := 24) (tX11_want_0_ok (10, .ifCond .eq 14, 3) (List.mem_of_getElem? (i := 6) rfl)) rfl (fun b18 => ?_) (fun b18 => ?_)
  · refine w_iconst (by decide) (tX11_want_0_ok (24, .iconst 0, 1) (List.mem_of_getElem? (i := 12) rfl)) (fun v19 e20 => ?_)
    refine w_zret rfl (by omega) (by omega) (tX11_want_0_ok (25, .ireturn, 1) (List.mem_of_getElem? (i := 13) rfl)) ?_
    exact hq _ _ fs fs6 wn z_wn c_m c4 j9 q_wn c_wn (Or.inl ⟨by omega, o5 wn (k_sg_ne s_wn s_m (by omega))⟩) (fun q hq9 => o5 q hq9.1)
  · refine w_iload_n (List.Mem.tail _ (List.Mem.tail _ (List.Mem.head _))) (tX11_want_0_ok (13, .iload_n 2, 1) (List.mem_of_getElem? (i := 7) rfl)) ?_
    refine w_iconst (by decide) (tX11_want_0_ok (14, .iconst (-1), 1) (List.mem_of_getElem? (i := 8) rfl)) (fun v21 e22 => ?_)
    refine w_sipush (by decide) (tX11_want_0_ok (15, .sipush 200, 3) (List.mem_of_getElem? (i := 9) rfl)) (fun v23 e24 => ?_)
    refine w_callS (own := 16) (mi := 199) [.int y, .int v21, .int v23] [] [(0, .int y), (1, .int v21), (2, .int v23)] rfl (cllw_X11 (207, 1, 199) (List.mem_of_getElem? (i := 2) rfl)) rfl rfl (by omega) (w_lo (n := 22) rfl (by omega)) (Nat.le_of_ble_eq_true rfl) (Nat.le_of_ble_eq_true rfl) rfl (tX11_want_0_ok (18, .invokestatic 207, 3) (List.mem_of_getElem? (i := 10) rfl)) (r_isIn (fun v25 e26 => ?_))
    show ww l D tys A X fr lo mX11_want Q 21 [(0, .ref m), (1, .int p), (2, .int y)] [.int v25] h3
    refine w_if_ne (tgt := 26) (tX11_want_0_ok (21, .ifCond .ne 5, 3) (List.mem_of_getElem? (i := 11) rfl)) rfl (fun b27 => ?_) (fun b27 => ?_)
    · refine w_aload_n (List.Mem.head _) (tX11_want_0_ok (26, .aload_n 0, 1) (List.mem_of_getElem? (i := 14) rfl)) ?_
      refine w_get (own := 16) rfl rfl (by decide) c4 f14 (tX11_want_0_ok (27, .getfield 57, 3) (List.mem_of_getElem? (i := 15) rfl)) ?_
      refine w_iload_n (List.Mem.tail _ (List.Mem.head _)) (tX11_want_0_ok (30, .iload_n 1, 1) (List.mem_of_getElem? (i := 16) rfl)) ?_
      refine w_iload_n (List.Mem.tail _ (List.Mem.tail _ (List.Mem.head _))) (tX11_want_0_ok (31, .iload_n 2, 1) (List.mem_of_getElem? (i := 17) rfl)) ?_
      refine w_iast hT c15 (by omega) (by omega) (tX11_want_0_ok (32, .iastore, 1) (List.mem_of_getElem? (i := 18) rfl)) (fun h28 c29 o30 => ?_)
      have c31 := (o30 m (k_sg_ne s_m s_wn (by omega))).trans c4
      refine w_iconst (by decide) (tX11_want_0_ok (33, .iconst 1, 1) (List.mem_of_getElem? (i := 19) rfl)) (fun v32 e33 => ?_)
      refine w_zret rfl (by omega) (by omega) (tX11_want_0_ok (34, .ireturn, 1) (List.mem_of_getElem? (i := 20) rfl)) ?_
      exact hq _ _ fs fs6 wn z_wn c_m c31 j9 q_wn c_wn (Or.inr ⟨by omega, c29⟩) (fun q hq9 => (o30 q hq9.2).trans (o5 q hq9.1))
    · refine w_iconst (by decide) (tX11_want_0_ok (24, .iconst 0, 1) (List.mem_of_getElem? (i := 12) rfl)) (fun v34 e35 => ?_)
      refine w_zret rfl (by omega) (by omega) (tX11_want_0_ok (25, .ireturn, 1) (List.mem_of_getElem? (i := 13) rfl)) ?_
      exact hq _ _ fs fs6 wn z_wn c_m c4 j9 q_wn c_wn (Or.inl ⟨by omega, o5 wn (k_sg_ne s_wn s_m (by omega))⟩) (fun q hq9 => o5 q hq9.1)
end
section
variable {l : Launch} {D : va_G} {tys : List (ClassId × FieldType)} {A : Nat → Prop} {X : State → Prop} {fr lo : Nat} {M : ch_M} {Q : Option Value → ch_H → Prop} {pc : Nat} {lv : List (Nat × Value)} {st : List Value} {h h1 : ch_H} {cA : Nat → ClassId} {Sg : Nat → Option Nat} {Lb9 : Nat → k_I}
theorem h_bg4W (hT : k_tys tys cA) {m ro to wa se be : Nat} {fs : List Value} {rp : Int32} {seed : Int64} (s_m : Sg m = some 50) (s_ro : Sg ro = some 55) (s_to : Sg to = some 56) (s_wa : Sg wa = some 60) (s_se : Sg se = some 61) (s_be : Sg be = some 65) (fl : fs.length = 47) (fL19 : fs[19]? = some (.ref ro)) (fL20 : fs[20]? = some (.int rp)) (fL22 : fs[22]? = some (.ref to)) (fL26 : fs[26]? = some (.ref wa)) (fL27 : fs[27]? = some (.ref se)) (fL31 : fs[31]? = some (.ref be)) (hrp : 0 ≤ rp.toInt ∧ rp.toInt ≤ 6) (hf : 1 ≤ fr) (hl : 30 ≤ lo) : ∀ (j : Nat) (k : Int32) (h : ch_H) (gw : Nat → Int32), 0 ≤ k.toInt → k.toInt + j = 12 → k_H Sg cA Lb h → h m = some (.inr (10, fs)) → h wa = some (.inl (cA 0, 12, .inl gw)) → (∀ r, r < k.toInt.toNat → (gw r).toInt = -1) → (∀ (g : ch_H) (k1 : Int32), k_H Sg cA Lb g → g m = some (.inr (10, fs)) → k_U Sg [(50, 32), (50, 33), (50, 34), (50, 36), (50, 39), (56, 0), (60, 0), (61, 0), (65, 0)] h g → (∃ f : Nat → Int32, g wa = some (.inl (cA 0, 12, .inl f)) ∧ ∀ r, r < 12 → (f r).toInt = -1) → ww l D tys A X fr lo mX11_begin Q 109 [(3, .int k1), (0, .ref m), (1, .long seed)] [] g) → ww l D tys A X fr lo mX11_begin Q 83 [(3, .int k), (0, .ref m), (1, .long seed)] [] h := by
  intro j
  induction j using Nat.strongRecOn with
  | ind j ih =>
    intro k h gw hk hj hH c_m c_wa hi hq
    obtain ⟨R, c_ro, hR9⟩ := T_rope hH s_ro rfl
    obtain ⟨T, c_to, -⟩ := hH.arr s_to (L := 56) rfl
    obtain ⟨gs, c_se, -⟩ := hH.arr s_se (L := 61) rfl
    obtain ⟨gb, c_be, hbe⟩ := hH.arr s_be (L := 65) rfl
    refine w_iload_n (List.Mem.head _) (tX11_begin_0_ok (83, .iload_n 3, 1) (List.mem_of_getElem? (i := 49) rfl)) ?_
    refine w_bipush (by decide) (tX11_begin_0_ok (84, .bipush 12, 2) (List.mem_of_getElem? (i := 50) rfl)) (fun zv1 ze2 => ?_)
    refine w_icmp_ge (tgt := 109) (tX11_begin_0_ok (86, .if_icmp .ge 23, 3) (List.mem_of_getElem? (i := 51) rfl)) rfl (fun zb3 => ?_) (fun zb3 => ?_)
    · exact hq _ _ hH c_m k_U.rf ⟨gw, c_wa, fun r hr => hi r (by omega)⟩
    · refine w_aload_n (List.Mem.tail _ (List.Mem.head _)) (tX11_begin_0_ok (89, .aload_n 0, 1) (List.mem_of_getElem? (i := 52) rfl)) ?_
      refine w_get (own := 16) rfl rfl (by decide) c_m fL26 (tX11_begin_0_ok (90, .getfield 57, 3) (List.mem_of_getElem? (i := 53) rfl)) ?_
      refine w_iload_n (List.Mem.head _) (tX11_begin_0_ok (93, .iload_n 3, 1) (List.mem_of_getElem? (i := 54) rfl)) ?_
      refine w_iconst (by decide) (tX11_begin_0_ok (94, .iconst (-1), 1) (List.mem_of_getElem? (i := 55) rfl)) (fun zv4 ze5 => ?_)
      refine w_iast hT c_wa (by omega) (by omega) (tX11_begin_0_ok (95, .iastore, 1) (List.mem_of_getElem? (i := 56) rfl)) (fun zh6 zc7 zo8 => ?_)
      have zc9 := (zo8 m (k_sg_ne s_m s_wa (by decide))).trans c_m
      have zc10 := (zo8 ro (k_sg_ne s_ro s_wa (by decide))).trans c_ro
      have zc11 := (zo8 to (k_sg_ne s_to s_wa (by decide))).trans c_to
      have zc12 := (zo8 se (k_sg_ne s_se s_wa (by decide))).trans c_se
      have zc13 := (zo8 be (k_sg_ne s_be s_wa (by decide))).trans c_be
      have zH14 := hH.ast s_wa rfl zc7 (top_b _ _) zo8
      have zu15 : k_U Sg [(50, 32), (50, 33), (50, 34), (50, 36), (50, 39), (56, 0), (60, 0), (61, 0), (65, 0)] h zh6 := k_U.ast s_wa (by decide) c_wa zo8
      refine w_aload_n (List.Mem.tail _ (List.Mem.head _)) (tX11_begin_0_ok (96, .aload_n 0, 1) (List.mem_of_getElem? (i := 57) rfl)) ?_
      refine w_get (own := 16) rfl rfl (by decide) zc9 fL27 (tX11_begin_0_ok (97, .getfield 60, 3) (List.mem_of_getElem? (i := 58) rfl)) ?_
      refine w_iload_n (List.Mem.head _) (tX11_begin_0_ok (100, .iload_n 3, 1) (List.mem_of_getElem? (i := 59) rfl)) ?_
      refine w_iconst (by decide) (tX11_begin_1_ok (101, .iconst (-1), 1) (List.mem_of_getElem? (i := 0) rfl)) (fun zv16 ze17 => ?_)
      refine w_iast hT zc12 (by omega) (by omega) (tX11_begin_1_ok (102, .iastore, 1) (List.mem_of_getElem? (i := 1) rfl)) (fun zh18 zc19 zo20 => ?_)
      have zc21 := (zo20 m (k_sg_ne s_m s_se (by decide))).trans zc9
      have zc22 := (zo20 ro (k_sg_ne s_ro s_se (by decide))).trans zc10
      have zc23 := (zo20 to (k_sg_ne s_to s_se (by decide))).trans zc11
      have zc24 := (zo20 wa (k_sg_ne s_wa s_se (by decide))).trans zc7
      have zc25 := (zo20 be (k_sg_ne s_be s_se (by decide))).trans zc13
      have zH26 := zH14.ast s_se rfl zc19 (top_b _ _) zo20
      have zu27 : k_U Sg [(50, 32), (50, 33), (50, 34), (50, 36), (50, 39), (56, 0), (60, 0), (61, 0), (65, 0)] zh6 zh18 := k_U.ast s_se (by decide) zc12 zo20
      refine w_iinc (fun zv28 => [(3, .int zv28), (0, .ref m), (1, .long seed)]) (fun _ => rfl) (List.Mem.head _) (Nat.le_of_ble_eq_true rfl) (by decide) (by omega) (by omega) (tX11_begin_1_ok (103, .iinc 3 1, 3) (List.mem_of_getElem? (i := 2) rfl)) (fun zv28 ze29 => ?_)
      refine w_goto (tgt := 83) (tX11_begin_1_ok (106, .goto (-23), 3) (List.mem_of_getElem? (i := 3) rfl)) rfl ?_
      refine w_lv [(3, .int zv28), (0, .ref m), (1, .long seed)] (by intro q hq; simp only [List.mem_cons, List.not_mem_nil, or_false] at hq ⊢; rcases hq with e | e | e <;> subst e <;> simp) ?_
      refine ih (j - 1) (by omega) _ _ _ (by omega) (by omega) zH26 zc21 zc24 (fun r hr => ?_) (fun g k1 q1 q2 q3 q9w => hq g k1 q1 q2 (((zu15).tr zu27).tr q3) q9w)
      by_cases c9 : r = k.toInt.toNat
      · subst c9
        rw [upd_s]
        omega
      · rw [upd_n _ _ c9]
        exact hi r (by omega)
theorem h_beginW (hT : k_tys tys cA) {m ro to wa se be : Nat} {fs : List Value} {rp : Int32} {seed : Int64} (s_m : Sg m = some 50) (s_ro : Sg ro = some 55) (s_to : Sg to = some 56) (s_wa : Sg wa = some 60) (s_se : Sg se = some 61) (s_be : Sg be = some 65) (fl : fs.length = 47) (fL19 : fs[19]? = some (.ref ro)) (fL20 : fs[20]? = some (.int rp)) (fL22 : fs[22]? = some (.ref to)) (fL26 : fs[26]? = some (.ref wa)) (fL27 : fs[27]? = some (.ref se)) (fL31 : fs[31]? = some (.ref be)) (hrp : 0 ≤ rp.toInt ∧ rp.toInt ≤ 6) (hf : 1 ≤ fr) (hl : 30 ≤ lo) (hH : k_H Sg cA Lb h) (c_m : h m = some (.inr (10, fs))) (hq : ∀ (g : ch_H) (fs1 : List Value) (f1 : Nat → Int32), g m = some (.inr (10, fs1)) → fs1[20]? = some (.int rp) → fs1[26]? = some (.ref wa) → g wa = some (.inl (cA 0, 12, .inl f1)) → (∀ r, r < 12 → (f1 r).toInt = -1) → Q none g) : ww l D tys A X fr lo mX11_begin Q 0 [(0, .ref m), (1, .long seed)] [] h := by
  refine w_iconst (by decide) (tX11_begin_0_ok (0, .iconst 0, 1) (List.mem_of_getElem? (i := 0) rfl)) (fun zv1 ze2 => ?_)
  refine w_istore_n [(3, .int zv1), (0, .ref m), (1, .long seed)] rfl (Nat.le_of_ble_eq_true rfl) (tX11_begin_0_ok (1, .istore_n 3, 1) (List.mem_of_getElem? (i := 1) rfl)) ?_
  refine w_lv [(3, .int zv1), (0, .ref m), (1, .long seed)] (by intro q hq; simp only [List.mem_cons, List.not_mem_nil, or_false] at hq ⊢; rcases hq with e | e | e <;> subst e <;> simp) ?_
  refine h_bg1 hT s_m s_ro s_to s_wa s_se s_be fl fL19 fL20 fL22 fL26 fL27 fL31 hrp hf hl 39 _ _ (by omega) (by omega) hH c_m (fun zg3 zka4 zq5 zq6 zq7 => ?_)
  show ww l D tys A X fr lo mX11_begin Q 21 [(3, .int zka4), (0, .ref m), (1, .long seed)] [] zg3
  refine w_iconst (by decide) (tX11_begin_0_ok (21, .iconst 0, 1) (List.mem_of_getElem? (i := 12) rfl)) (fun zv8 ze9 => ?_)
  refine w_istore_n [(3, .int zv8), (0, .ref m), (1, .long seed)] rfl (Nat.le_of_ble_eq_true rfl) (tX11_begin_0_ok (22, .istore_n 3, 1) (List.mem_of_getElem? (i := 13) rfl)) ?_
  refine w_lv [(3, .int zv8), (0, .ref m), (1, .long seed)] (by intro q hq; simp only [List.mem_cons, List.not_mem_nil, or_false] at hq ⊢; rcases hq with e | e | e <;> subst e <;> simp) ?_
  refine h_bg2 hT s_m s_ro s_to s_wa s_se s_be fl fL19 fL20 fL22 fL26 fL27 fL31 hrp hf hl rp.toInt.toNat _ _ (by omega) (by omega) zq5 zq6 (fun zg10 zka11 zq12 zq13 zq14 => ?_)
  show ww l D tys A X fr lo mX11_begin Q 59 [(3, .int zka11), (0, .ref m), (1, .long seed)] [] zg10
  refine w_iconst (by decide) (tX11_begin_0_ok (59, .iconst 0, 1) (List.mem_of_getElem? (i := 35) rfl)) (fun zv15 ze16 => ?_)
  refine w_istore_n [(3, .int zv15), (0, .ref m), (1, .long seed)] rfl (Nat.le_of_ble_eq_true rfl) (tX11_begin_0_ok (60, .istore_n 3, 1) (List.mem_of_getElem? (i := 36) rfl)) ?_
  refine w_lv [(3, .int zv15), (0, .ref m), (1, .long seed)] (by intro q hq; simp only [List.mem_cons, List.not_mem_nil, or_false] at hq ⊢; rcases hq with e | e | e <;> subst e <;> simp) ?_
  refine h_bg3 hT s_m s_ro s_to s_wa s_se s_be fl fL19 fL20 fL22 fL26 fL27 fL31 hrp hf hl 324 _ _ (by omega) (by omega) zq12 zq13 (fun zg17 zka18 zq19 zq20 zq21 => ?_)
  show ww l D tys A X fr lo mX11_begin Q 81 [(3, .int zka18), (0, .ref m), (1, .long seed)] [] zg17
  refine w_iconst (by decide) (tX11_begin_0_ok (81, .iconst 0, 1) (List.mem_of_getElem? (i := 47) rfl)) (fun zv22 ze23 => ?_)
  refine w_istore_n [(3, .int zv22), (0, .ref m), (1, .long seed)] rfl (Nat.le_of_ble_eq_true rfl) (tX11_begin_0_ok (82, .istore_n 3, 1) (List.mem_of_getElem? (i := 48) rfl)) ?_
  refine w_lv [(3, .int zv22), (0, .ref m), (1, .long seed)] (by intro q hq; simp only [List.mem_cons, List.not_mem_nil, or_false] at hq ⊢; rcases hq with e | e | e <;> subst e <;> simp) ?_
  obtain ⟨fw9, cw9, -⟩ := zq19.arr s_wa (L := 60) rfl
  refine h_bg4W hT s_m s_ro s_to s_wa s_se s_be fl fL19 fL20 fL22 fL26 fL27 fL31 hrp hf hl 12 _ _ fw9 (by omega) (by omega) zq19 zq20 cw9 (fun r hr => absurd hr (by omega)) (fun zg24 zka25 zq26 zq27 zq28 zqw => ?_)
  show ww l D tys A X fr lo mX11_begin Q 109 [(3, .int zka25), (0, .ref m), (1, .long seed)] [] zg24
  refine w_aload_n (List.Mem.tail _ (List.Mem.head _)) (tX11_begin_1_ok (109, .aload_n 0, 1) (List.mem_of_getElem? (i := 4) rfl)) ?_
  refine w_iconst (by decide) (tX11_begin_1_ok (110, .iconst 0, 1) (List.mem_of_getElem? (i := 5) rfl)) (fun zv29 ze30 => ?_)
  refine w_putF (own := 16) (ci := 10) (k := 32) rfl rfl (by decide) rfl ⟨rfl, rfl⟩ zq27 (by rw [fl]; decide) (tX11_begin_1_ok (111, .putfield 258, 3) (List.mem_of_getElem? (i := 6) rfl)) (fun zh31 zfs34 zl35 zk36 zj37 zc32 zo33 => ?_)
  rw [fl] at zl35
  have zf38 := (zj37 19 (by decide)).trans fL19
  have zf39 := (zj37 20 (by decide)).trans fL20
  have zf40 := (zj37 22 (by decide)).trans fL22
  have zf41 := (zj37 26 (by decide)).trans fL26
  have zf42 := (zj37 27 (by decide)).trans fL27
  have zf43 := (zj37 31 (by decide)).trans fL31
  have zH44 := zq26.fld (k := 32) s_m rfl rfl zq27 zc32 zl35 zk36 ⟨_, rfl, by show (0 : Int) ≤ _; omega, by show _ ≤ (6 : Int); omega⟩ zj37 zo33
  have zu45 : k_U Sg [(50, 32), (50, 33), (50, 34), (50, 36), (50, 39), (56, 0), (60, 0), (61, 0), (65, 0)] zg24 zh31 := k_U.put s_m (k := 32) (by decide) zq27 zc32 zj37 zo33
  refine w_aload_n (List.Mem.tail _ (List.Mem.head _)) (tX11_begin_1_ok (114, .aload_n 0, 1) (List.mem_of_getElem? (i := 7) rfl)) ?_
  refine w_iconst (by decide) (tX11_begin_1_ok (115, .iconst 0, 1) (List.mem_of_getElem? (i := 8) rfl)) (fun zv46 ze47 => ?_)
  refine w_putF (own := 16) (ci := 10) (k := 33) rfl rfl (by decide) rfl ⟨rfl, rfl⟩ zc32 (by rw [zl35]; decide) (tX11_begin_1_ok (116, .putfield 261, 3) (List.mem_of_getElem? (i := 9) rfl)) (fun zh48 zfs51 zl52 zk53 zj54 zc49 zo50 => ?_)
  rw [zl35] at zl52
  have zf55 := (zj54 32 (by decide)).trans zk36
  have zf56 := (zj54 19 (by decide)).trans zf38
  have zf57 := (zj54 20 (by decide)).trans zf39
  have zf58 := (zj54 22 (by decide)).trans zf40
  have zf59 := (zj54 26 (by decide)).trans zf41
  have zf60 := (zj54 27 (by decide)).trans zf42
  have zf61 := (zj54 31 (by decide)).trans zf43
  have zH62 := zH44.fld (k := 33) s_m rfl rfl zc32 zc49 zl52 zk53 ⟨_, rfl, by show (0 : Int) ≤ _; omega, by show _ ≤ (8 : Int); omega⟩ zj54 zo50
  have zu63 : k_U Sg [(50, 32), (50, 33), (50, 34), (50, 36), (50, 39), (56, 0), (60, 0), (61, 0), (65, 0)] zh31 zh48 := k_U.put s_m (k := 33) (by decide) zc32 zc49 zj54 zo50
  refine w_aload_n (List.Mem.tail _ (List.Mem.head _)) (tX11_begin_1_ok (119, .aload_n 0, 1) (List.mem_of_getElem? (i := 10) rfl)) ?_
  refine w_iconst (by decide) (tX11_begin_1_ok (120, .iconst 0, 1) (List.mem_of_getElem? (i := 11) rfl)) (fun zv64 ze65 => ?_)
  refine w_putF (own := 16) (ci := 10) (k := 34) rfl rfl (by decide) rfl ⟨rfl, rfl⟩ zc49 (by rw [zl52]; decide) (tX11_begin_1_ok (121, .putfield 264, 3) (List.mem_of_getElem? (i := 12) rfl)) (fun zh66 zfs69 zl70 zk71 zj72 zc67 zo68 => ?_)
  rw [zl52] at zl70
  have zf73 := (zj72 33 (by decide)).trans zk53
  have zf74 := (zj72 32 (by decide)).trans zf55
  have zf75 := (zj72 19 (by decide)).trans zf56
  have zf76 := (zj72 20 (by decide)).trans zf57
  have zf77 := (zj72 22 (by decide)).trans zf58
  have zf78 := (zj72 26 (by decide)).trans zf59
  have zf79 := (zj72 27 (by decide)).trans zf60
  have zf80 := (zj72 31 (by decide)).trans zf61
  have zH81 := zH62.fld (k := 34) s_m rfl rfl zc49 zc67 zl70 zk71 ⟨_, rfl, by show (0 : Int) ≤ _; omega, by show _ ≤ (6 : Int); omega⟩ zj72 zo68
  have zu82 : k_U Sg [(50, 32), (50, 33), (50, 34), (50, 36), (50, 39), (56, 0), (60, 0), (61, 0), (65, 0)] zh48 zh66 := k_U.put s_m (k := 34) (by decide) zc49 zc67 zj72 zo68
  refine w_aload_n (List.Mem.tail _ (List.Mem.head _)) (tX11_begin_1_ok (124, .aload_n 0, 1) (List.mem_of_getElem? (i := 13) rfl)) ?_
  refine w_iconst (by decide) (tX11_begin_1_ok (125, .iconst 0, 1) (List.mem_of_getElem? (i := 14) rfl)) (fun zv83 ze84 => ?_)
  refine w_putF (own := 16) (ci := 10) (k := 39) rfl rfl (by decide) rfl ⟨(kn_nz (by omega) (by omega)).1, (kn_nz (by omega) (by omega)).2.1⟩ zc67 (by rw [zl70]; decide) (tX11_begin_1_ok (126, .putfield 267, 3) (List.mem_of_getElem? (i := 15) rfl)) (fun zh85 zfs88 zl89 zk90 zj91 zc86 zo87 => ?_)
  rw [zl70] at zl89
  have zf92 := (zj91 34 (by decide)).trans zk71
  have zf93 := (zj91 33 (by decide)).trans zf73
  have zf94 := (zj91 32 (by decide)).trans zf74
  have zf95 := (zj91 19 (by decide)).trans zf75
  have zf96 := (zj91 20 (by decide)).trans zf76
  have zf97 := (zj91 22 (by decide)).trans zf77
  have zf98 := (zj91 26 (by decide)).trans zf78
  have zf99 := (zj91 27 (by decide)).trans zf79
  have zf100 := (zj91 31 (by decide)).trans zf80
  have zH101 := zH81.fld (k := 39) s_m rfl rfl zc67 zc86 zl89 zk90 ⟨_, rfl, by show (0 : Int) ≤ _; omega, by show _ ≤ (1 : Int); omega⟩ zj91 zo87
  have zu102 : k_U Sg [(50, 32), (50, 33), (50, 34), (50, 36), (50, 39), (56, 0), (60, 0), (61, 0), (65, 0)] zh66 zh85 := k_U.put s_m (k := 39) (by decide) zc67 zc86 zj91 zo87
  refine w_aload_n (List.Mem.tail _ (List.Mem.head _)) (tX11_begin_1_ok (129, .aload_n 0, 1) (List.mem_of_getElem? (i := 16) rfl)) ?_
  refine w_lload_n (List.Mem.tail _ (List.Mem.tail _ (List.Mem.head _))) (tX11_begin_1_ok (130, .lload_n 1, 1) (List.mem_of_getElem? (i := 17) rfl)) ?_
  refine w_putF (own := 16) (ci := 10) (k := 36) rfl rfl (by decide) rfl ⟨rfl, rfl⟩ zc86 (by rw [zl89]; decide) (tX11_begin_1_ok (131, .putfield 270, 3) (List.mem_of_getElem? (i := 18) rfl)) (fun zh103 zfs106 zl107 zk108 zj109 zc104 zo105 => ?_)
  rw [zl89] at zl107
  have zf110 := (zj109 39 (by decide)).trans zk90
  have zf111 := (zj109 34 (by decide)).trans zf92
  have zf112 := (zj109 33 (by decide)).trans zf93
  have zf113 := (zj109 32 (by decide)).trans zf94
  have zf114 := (zj109 19 (by decide)).trans zf95
  have zf115 := (zj109 20 (by decide)).trans zf96
  have zf116 := (zj109 22 (by decide)).trans zf97
  have zf117 := (zj109 26 (by decide)).trans zf98
  have zf118 := (zj109 27 (by decide)).trans zf99
  have zf119 := (zj109 31 (by decide)).trans zf100
  have zH120 := zH101.fld (k := 36) s_m rfl rfl zc86 zc104 zl107 zk108 ⟨_, rfl⟩ zj109 zo105
  have zu121 : k_U Sg [(50, 32), (50, 33), (50, 34), (50, 36), (50, 39), (56, 0), (60, 0), (61, 0), (65, 0)] zh85 zh103 := k_U.put s_m (k := 36) (by decide) zc86 zc104 zj109 zo105
  refine w_vret rfl (tX11_begin_1_ok (134, .return_, 1) (List.mem_of_getElem? (i := 19) rfl)) ?_
  obtain ⟨f9, c9, e9⟩ := zqw
  have nm := k_sg_ne s_wa s_m (by decide)
  exact hq _ _ f9 zc104 zf115 zf117 ((zo105 wa nm).trans ((zo87 wa nm).trans ((zo68 wa nm).trans ((zo50 wa nm).trans ((zo33 wa nm).trans c9))))) e9
end
