/-! the class's feast -/
theorem pick6 {P : Nat → (Nat → Int32) → Prop} (h : ∀ i, i < 6 → ∃ f, P i f) : ∃ tab : Nat → Nat → Int32, ∀ i, i < 6 → P i (tab i) :=
  ⟨fun i => if hi : i < 6 then Classical.choose (h i hi) else fun _ => 0, fun i hi => by
    show P i (if hi : i < 6 then Classical.choose (h i hi) else fun _ => 0)
    rw [dif_pos hi]
    exact Classical.choose_spec (h i hi)⟩
theorem pick6n {P : Nat → Nat → Prop} (h : ∀ i, i < 6 → ∃ f, P i f) : ∃ tab : Nat → Nat, ∀ i, i < 6 → P i (tab i) :=
  ⟨fun i => if hi : i < 6 then Classical.choose (h i hi) else 0, fun i hi => by
    show P i (if hi : i < 6 then Classical.choose (h i hi) else 0)
    rw [dif_pos hi]
    exact Classical.choose_spec (h i hi)⟩
theorem va_rf_ref {r : Option Nat} {b : Nat} (h : va_rf r = .ref b) : r = some b := by
  cases r
  · cases h
  · cases h
    rfl
theorem f_j0 {w : Int32} {n : Nat} {ρ : aRw} (hn : n ≤ 6) (h0 : 0 ≤ w.toInt) (h : w.toInt < (2 ^ (2 * n) : Nat)) : f_j n ρ (fun r => bt9 w r = true) w n := by
  refine ⟨fun r _ => Iff.rfl, fun r hr => ⟨fun z => ?_, fun ⟨q, z1, z2, _⟩ => absurd z1 (by omega)⟩⟩
  have := bt_lt w (2 * n) h0 h _ z
  omega
theorem shr_z {w y v : Int32} {n : Nat} (hn : n ≤ 6) (hy : y.toInt = ((2 * n : Nat) : Int)) (e : v = w >>> (y &&& 31)) : v.toInt = 0 ↔ 0 ≤ w.toInt ∧ w.toInt < (2 ^ (2 * n) : Nat) := by
  rw [e, kn_shr w y (k := 2 * n) (by omega) hy]
  have h1 : n = 0 ∨ n = 1 ∨ n = 2 ∨ n = 3 ∨ n = 4 ∨ n = 5 ∨ n = 6 := by omega
  rcases h1 with rfl | rfl | rfl | rfl | rfl | rfl | rfl <;> simp only [Nat.reduceMul, Nat.reducePow] <;> omega
section
variable {l : Launch} {D : va_G} {tys : List (ClassId × FieldType)} {A : Nat → Prop} {X : State → Prop} {fr lo : Nat} {cA : Nat → ClassId} {Sg : Nat → Option Nat} {h : ch_H} {x : Nat} {ρ : aRw} {τ : aN}
def b_feast (w : Int32) (τ : aN) (ρ : aRw) (v : Option Value) : Prop := ∃ u : Int32, v = some (.int u) ∧ f_is w τ.1 ρ u.toInt
theorem y_feast (hT : k_tys tys cA) {w : Int32} (hH : k_H Sg cA Lb h) (sx : Sg x = some 0) (Hb : bC h x τ) (H : rC cA h x τ.1 ρ) (H0 : dC cA h x) (hf : 4 ≤ fr) (hl : 150 ≤ lo) : ww l D tys A X fr lo mX10_feast (fun v g => (rC cA g x τ.1 ρ ∧ dC cA g x) ∧ b_feast w τ ρ v) 0 [(0, .ref x), (1, .int w)] [] h := by
  obtain ⟨xs, ps, gs, Pa, P, fo, n, ga, pe, ta, c_x, f1, f2, f8, ne0, c_P, p0, -, -, -, -, e0, -⟩ := Hb
  have H7 := H
  have H6 := H0
  obtain ⟨wf, xs9, Pa9, P9, ro, ro', a1, a2, a3, a4, a5, a6, a7, a8, b1, b2, b3, b4, b5, b6, b7, b8, rc, c9, g1, g2, ne, c_Pa, c_Pd, nn9, R, e⟩ := H7
  rw [c_x] at c9
  cases c9
  rw [f1] at g1
  cases g1
  rw [c_P] at c_Pa
  cases c_Pa
  have p0 : (some (Value.int ro) : Option Value) = some (.int n) := p0
  cases p0
  obtain ⟨sPa, sP⟩ := lab0 hH sx c_x f1 f2
  obtain ⟨-, -, -, -, s1, s2, s3, s4, s5, s6, s7, s18⟩ := pn_at hH sPa c_P
  obtain ⟨k1, k2, k3, k4, k5, k6, k7, k8, r1, r2, r3, r4, r5, r6, r7, r8, hr⟩ := R
  obtain ⟨k2', z2, hL⟩ := hH.arr s2 (L := 12) rfl
  have z2 : h a2 = some (.inl (cA 0, 6, .inl k2')) := z2
  rw [r2] at z2
  cases z2
  have hL : ∀ q, q < 6 → 0 ≤ (k2 q).toInt ∧ (k2 q).toInt ≤ 20 := hL
  obtain ⟨xs8, fs, ft, tb, F, c8, f17, c_ft, t0, c_tb, dF⟩ := H6
  rw [c_x] at c8
  cases c8
  obtain ⟨s8, s42⟩ := lab17 (tb := tb) (fs := fs) hH sx c_x f17
  obtain ⟨tl, s42⟩ := s42 c_ft t0
  obtain ⟨fs2, cc, -, ty⟩ := hH.obj s8 (L := 8) rfl
  rw [c_ft] at cc
  cases cc
  obtain ⟨v2, t2, y2⟩ := ty 2 _ rfl
  obtain ⟨aa, rfl, -⟩ := k_v.int y2
  obtain ⟨eT, c_tb2, ce⟩ := hH tb 42 s42
  rcases ce with ⟨q, -⟩ | ⟨q, -⟩ | ⟨-, F1, rfl, hft⟩
  · cases q
  · cases q
  have c_tb2 : h tb = some (.inl (cA 5, 6, .inr (.inr (.inr (.inr F1))))) := c_tb2
  rw [c_tb] at c_tb2
  cases c_tb2
  obtain ⟨tr, htr⟩ := pick6n (P := fun i q => F i = some q ∧ Sg q = some 43) (fun i hi => by
    obtain ⟨b, e1, e2⟩ := k_v.ref (hft i hi)
    exact ⟨b, va_rf_ref e1, e2⟩)
  obtain ⟨tab, c_rw⟩ := pick6 (P := fun i f => h (tr i) = some (.inl (cA 0, 121, .inl f))) (fun i hi => by
    obtain ⟨gb, e3, -⟩ := hH.arr (htr i hi).2 (L := 43) rfl
    exact ⟨gb, e3⟩)
  have h6 := wf.1
  have hnn : n.toInt.toNat = τ.1 := by omega
  have hρ : ∀ q, q < n.toInt.toNat → (k1 q).toInt = ρ q 0 ∧ (k2 q).toInt = ρ q 1 ∧ (k8 q).toInt = ρ q 8 := fun q hq => by
    have y := hr q (by omega)
    exact ⟨y.1.trans (e q (by omega) 0 (by decide)), y.2.1.trans (e q (by omega) 1 (by decide)), y.2.2.2.2.2.2.2.2.trans (e q (by omega) 8 (by decide))⟩
  have nd : ∀ i, i < 6 → tr i ≠ ft ∧ tr i ≠ tb ∧ tr i ≠ Pa ∧ tr i ≠ a1 ∧ tr i ≠ a2 ∧ tr i ≠ a8 := fun i hi => ⟨k_sg_ne (htr i hi).2 s8 (by decide), k_sg_ne (htr i hi).2 s42 (by decide), k_sg_ne (htr i hi).2 sPa (by decide), k_sg_ne (htr i hi).2 s1 (by decide), k_sg_ne (htr i hi).2 s2 (by decide), k_sg_ne (htr i hi).2 s18 (by decide)⟩
  have nt : ∀ i j, i < 6 → j < 6 → i ≠ j → tr i ≠ tr j := fun i j hi hj hn9 ee => dF i j hi hj hn9 (by rw [(htr i hi).1, (htr j hj).1, ee])
  have hn : 0 ≤ n.toInt ∧ n.toInt ≤ 6 := by omega
  refine w_iload_n (List.Mem.tail _ (List.Mem.head _)) (tX10_feast_0_ok (0, .iload_n 1, 1) (List.mem_of_getElem? (i := 0) rfl)) ?_
  refine w_if_eq (tgt := 18) (tX10_feast_0_ok (1, .ifCond .eq 17, 3) (List.mem_of_getElem? (i := 1) rfl)) rfl (fun zb1 => ?_) (fun zb1 => ?_)
  · refine w_iconst (by decide) (tX10_feast_0_ok (18, .iconst (-1), 1) (List.mem_of_getElem? (i := 10) rfl)) (fun zv2 ze3 => ?_)
    refine w_iret rfl (tX10_feast_0_ok (19, .ireturn, 1) (List.mem_of_getElem? (i := 11) rfl)) ?_
    exact ⟨⟨H, H0⟩, _, rfl, fun z => absurd z (by omega), fun _ => by omega⟩
  · refine w_iload_n (List.Mem.tail _ (List.Mem.head _)) (tX10_feast_0_ok (4, .iload_n 1, 1) (List.mem_of_getElem? (i := 2) rfl)) ?_
    refine w_iconst (by decide) (tX10_feast_0_ok (5, .iconst 2, 1) (List.mem_of_getElem? (i := 3) rfl)) (fun zv4 ze5 => ?_)
    refine w_aload_n (List.Mem.head _) (tX10_feast_0_ok (6, .aload_n 0, 1) (List.mem_of_getElem? (i := 4) rfl)) ?_
    refine w_get (own := 15) rfl rfl (by decide) c_x f1 (tX10_feast_0_ok (7, .getfield 19, 3) (List.mem_of_getElem? (i := 5) rfl)) ?_
    refine w_get (own := 15) rfl rfl (by decide) c_P rfl (tX10_feast_0_ok (10, .getfield 95, 3) (List.mem_of_getElem? (i := 6) rfl)) ?_
    refine w_imul (by assumption) (by omega) (by omega) (tX10_feast_0_ok (13, .imul, 1) (List.mem_of_getElem? (i := 7) rfl)) (fun zv6 ze7 => ?_)
    refine w_ishr (tX10_feast_0_ok (14, .ishr, 1) (List.mem_of_getElem? (i := 8) rfl)) (fun zv8 ze9 => ?_)
    have sh9 := shr_z (n := τ.1) h6 (by omega) ze9
    refine w_if_eq (tgt := 20) (tX10_feast_0_ok (15, .ifCond .eq 5, 3) (List.mem_of_getElem? (i := 9) rfl)) rfl (fun zb10 => ?_) (fun zb10 => ?_)
    · refine w_aload_n (List.Mem.head _) (tX10_feast_0_ok (20, .aload_n 0, 1) (List.mem_of_getElem? (i := 12) rfl)) ?_
      refine w_get (own := 15) rfl rfl (by decide) c_x f17 (tX10_feast_0_ok (21, .getfield 84, 3) (List.mem_of_getElem? (i := 13) rfl)) ?_
      refine w_aload_n (List.Mem.head _) (tX10_feast_0_ok (24, .aload_n 0, 1) (List.mem_of_getElem? (i := 14) rfl)) ?_
      refine w_get (own := 15) rfl rfl (by decide) c_x f1 (tX10_feast_0_ok (25, .getfield 19, 3) (List.mem_of_getElem? (i := 15) rfl)) ?_
      refine w_iload_n (List.Mem.tail _ (List.Mem.head _)) (tX10_feast_0_ok (28, .iload_n 1, 1) (List.mem_of_getElem? (i := 16) rfl)) ?_
      have hw9 : 1 ≤ w.toInt ∧ w.toInt < (2 ^ (2 * τ.1) : Nat) := by omega
      refine w_callV (own := 15) (mi := 21) [.ref Pa, .int w] [] [(0, .ref ft), (1, .ref Pa), (2, .int w)] rfl (cllw_X10 (343, 0, 21) (List.mem_of_getElem? (i := 39) rfl)) rfl rfl c_ft rfl (by omega) (w_lo (n := 25) rfl (by omega)) (Nat.le_of_ble_eq_true rfl) (Nat.le_of_ble_eq_true rfl) rfl (tX10_feast_0_ok (29, .invokevirtual 343, 3) (List.mem_of_getElem? (i := 17) rfl)) (c_lowest hT c_ft t2 t0 c_tb (fun i hi => (htr i hi).1) c_rw c_P rfl rfl rfl rfl r1 r2 r8 nd nt (k_sg_ne s42 s8 (by decide)) (k_sg_ne sPa s8 (by decide)) (k_sg_ne s1 s8 (by decide)) (k_sg_ne s2 s8 (by decide)) (k_sg_ne s18 s8 (by decide)) hn hρ (by rw [hnn]; exact wf) hL tl (by omega) (w_sub (n := 25) rfl (by omega)) (by rw [hnn]; exact f_j0 h6 (by omega) hw9.2) (fun zg12 zv11 ls9 ft9 fr9 => ?_))
      show ww l D tys A X fr lo mX10_feast _ 32 [(0, .ref x), (1, .int w)] [.int zv11] zg12
      have h8 : ∀ (a9 : Nat) (fs9 : List Value), Sg a9 = some 8 → h a9 = some (.inr (0, fs9)) → ∃ fs1, zg12 a9 = some (.inr (0, fs1)) ∧ fs1[0]? = fs9[0]? := fun a9 fs9 ha c9 => by
        by_cases ee : a9 = ft
        · subst ee
          rw [c_ft] at c9
          cases c9
          obtain ⟨ts1, d1, d2⟩ := ft9
          exact ⟨ts1, d1, d2.trans t0.symm⟩
        · exact ⟨fs9, (fr9 a9 ⟨ee, fun i hi => k_sg_ne ha (htr i hi).2 (by decide)⟩).trans c9, rfl⟩
      refine w_iret rfl (tX10_feast_0_ok (32, .ireturn, 1) (List.mem_of_getElem? (i := 18) rfl)) ?_
      exact ⟨⟨H.same hH sx (fun a L ha hl => fr9 a ⟨k_sg_ne ha s8 (by omega), fun i hi => k_sg_ne ha (htr i hi).2 (by omega)⟩), H0.gen hH sx (fun xs9 c9 => ⟨xs9, (fr9 x ⟨k_sg_ne sx s8 (by decide), fun i hi => k_sg_ne sx (htr i hi).2 (by decide)⟩).trans c9, rfl⟩) (fun a9 fs9 ha c9 => h8 a9 fs9 ha c9) (fun a9 ha => fr9 a9 ⟨k_sg_ne ha s8 (by decide), fun i hi => k_sg_ne ha (htr i hi).2 (by decide)⟩)⟩, _, rfl, fun _ => by rw [← hnn]; exact ls9, fun z => absurd ⟨by omega, by omega⟩ z⟩
    · refine w_iconst (by decide) (tX10_feast_0_ok (18, .iconst (-1), 1) (List.mem_of_getElem? (i := 10) rfl)) (fun zv13 ze14 => ?_)
      refine w_iret rfl (tX10_feast_0_ok (19, .ireturn, 1) (List.mem_of_getElem? (i := 11) rfl)) ?_
      exact ⟨⟨H, H0⟩, _, rfl, fun z => absurd z (by omega), fun _ => by omega⟩
end
