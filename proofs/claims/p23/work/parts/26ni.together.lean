/-! together -/
def b_tog (w : Int32) (τ : aN) (ρ : aRw) (wn : aWn) (v : Option Value) : Prop := ∃ u : Int32, v = some (.int u) ∧ t_is τ.1 ρ wn w.toInt u.toInt
section
variable {l : Launch} {D : va_G} {tys : List (ClassId × FieldType)} {A : Nat → Prop} {X : State → Prop} {fr lo : Nat} {cA : Nat → ClassId} {Sg : Nat → Option Nat} {h : ch_H} {x m : Nat} {ρ : aRw} {τ : aN} {wn : aWn}
theorem y_together (hT : k_tys tys cA) {w : Int32} (hH : k_H Sg cA Lb h) (sx : Sg x = some 0) (Hb : bC h x τ) (H : rC cA h x τ.1 ρ) (H0 : dC cA h x) (Hw : wC cA h x τ.1 wn) (hf : 4 ≤ fr) (hl : 150 ≤ lo) : ww l D tys A X fr lo mX10_together (fun v _ => b_tog w τ ρ wn v) 0 [(0, .ref x), (1, .int w)] [] h := by
  obtain ⟨xs, ps, gs, Pa, P, fo, n, ga, pe, ta, c_x, f1, f2, f8, ne0, c_P, p0, -, -, -, -, e0, -⟩ := Hb
  obtain ⟨wf, xs9, Pa9, P9, ro, ro', a1, a2, a3, a4, a5, a6, a7, a8, b1, b2, b3, b4, b5, b6, b7, b8, rc, c9, g1, g2, ne, c_Pa, c_Pd, nn9, R, e⟩ := H
  rw [c_x] at c9
  cases c9
  rw [f1] at g1
  cases g1
  rw [c_P] at c_Pa
  cases c_Pa
  have p0 : (some (Value.int ro) : Option Value) = some (.int n) := p0
  cases p0
  obtain ⟨sPa, sP⟩ := lab0 hH sx c_x f1 f2
  obtain ⟨-, -, -, -, s1, s2, s3, s4, s5, s6, s7, s18⟩ := pn_at hH sPa c_P
  obtain ⟨k1, k2, k3, k4, k5, k6, k7, k8, r1, r2, r3, r4, r5, r6, r7, r8, hr⟩ := R
  obtain ⟨k2', z2, hL⟩ := hH.arr s2 (L := 12) rfl
  have z2 : h a2 = some (.inl (cA 0, 6, .inl k2')) := z2
  rw [r2] at z2
  cases z2
  have hL : ∀ q, q < 6 → 0 ≤ (k2 q).toInt ∧ (k2 q).toInt ≤ 20 := hL
  obtain ⟨xs8, fs, ft, tb, F, c8, f17, c_ft, t0, c_tb, dF⟩ := H0
  rw [c_x] at c8
  cases c8
  obtain ⟨s8, s42⟩ := lab17 (tb := tb) (fs := fs) hH sx c_x f17
  obtain ⟨tl, s42⟩ := s42 c_ft t0
  obtain ⟨fs2, cc, -, ty⟩ := hH.obj s8 (L := 8) rfl
  rw [c_ft] at cc
  cases cc
  obtain ⟨v2, t1, y2⟩ := ty 1 _ rfl
  obtain ⟨mf, rfl, s44⟩ := k_v.ref y2
  obtain ⟨gm, c_mf, -⟩ := hH.arr s44 (L := 44) rfl
  have c_mf : h mf = some (.inl (cA 0, 6, .inl gm)) := c_mf
  obtain ⟨xs7, wa, sb7, gw, c7, f10, f11, nws, c_wa, ew⟩ := Hw
  rw [c_x] at c7
  cases c7
  obtain ⟨s_wa, -, -⟩ := lab10 hH sx c_x f10 f11
  obtain ⟨eT, c_tb2, ce⟩ := hH tb 42 s42
  rcases ce with ⟨q, -⟩ | ⟨q, -⟩ | ⟨-, F1, rfl, hft⟩
  · cases q
  · cases q
  have c_tb2 : h tb = some (.inl (cA 5, 6, .inr (.inr (.inr (.inr F1))))) := c_tb2
  rw [c_tb] at c_tb2
  cases c_tb2
  obtain ⟨tr, htr⟩ := pick6n (P := fun i q => F i = some q ∧ Sg q = some 43) (fun i hi => by
    obtain ⟨b, e1, e2⟩ := k_v.ref (hft i hi)
    exact ⟨b, va_rf_ref e1, e2⟩)
  obtain ⟨tab, c_rw⟩ := pick6 (P := fun i f => h (tr i) = some (.inl (cA 0, 121, .inl f))) (fun i hi => by
    obtain ⟨gb, e3, -⟩ := hH.arr (htr i hi).2 (L := 43) rfl
    exact ⟨gb, e3⟩)
  have h6 := wf.1
  have hnn : n.toInt.toNat = τ.1 := by omega
  have hρ : ∀ q, q < n.toInt.toNat → (k1 q).toInt = ρ q 0 ∧ (k2 q).toInt = ρ q 1 ∧ (k8 q).toInt = ρ q 8 := fun q hq => by
    have y := hr q (by omega)
    exact ⟨y.1.trans (e q (by omega) 0 (by decide)), y.2.1.trans (e q (by omega) 1 (by decide)), y.2.2.2.2.2.2.2.2.trans (e q (by omega) 8 (by decide))⟩
  have nd : ∀ i, i < 6 → tr i ≠ ft ∧ tr i ≠ tb ∧ tr i ≠ Pa ∧ tr i ≠ a1 ∧ tr i ≠ a2 ∧ tr i ≠ a8 ∧ tr i ≠ wa ∧ tr i ≠ mf := fun i hi => ⟨k_sg_ne (htr i hi).2 s8 (by decide), k_sg_ne (htr i hi).2 s42 (by decide), k_sg_ne (htr i hi).2 sPa (by decide), k_sg_ne (htr i hi).2 s1 (by decide), k_sg_ne (htr i hi).2 s2 (by decide), k_sg_ne (htr i hi).2 s18 (by decide), k_sg_ne (htr i hi).2 s_wa (by decide), k_sg_ne (htr i hi).2 s44 (by decide)⟩
  have nt : ∀ i j, i < 6 → j < 6 → i ≠ j → tr i ≠ tr j := fun i j hi hj hn9 ee => dF i j hi hj hn9 (by rw [(htr i hi).1, (htr j hj).1, ee])
  have hn : 0 ≤ n.toInt ∧ n.toInt ≤ 6 := by omega
  refine w_aload_n (List.Mem.head _) (tX10_together_0_ok (0, .aload_n 0, 1) (List.mem_of_getElem? (i := 0) rfl)) ?_
  refine w_get (own := 15) rfl rfl (by decide) c_x f1 (tX10_together_0_ok (1, .getfield 19, 3) (List.mem_of_getElem? (i := 1) rfl)) ?_
  refine w_get (own := 15) rfl rfl (by decide) c_P rfl (tX10_together_0_ok (4, .getfield 95, 3) (List.mem_of_getElem? (i := 2) rfl)) ?_
  refine w_if_eq (tgt := 19) (tX10_together_0_ok (7, .ifCond .eq 12, 3) (List.mem_of_getElem? (i := 3) rfl)) rfl (fun zb1 => ?_) (fun zb1 => ?_)
  · refine w_iconst (by decide) (tX10_together_0_ok (19, .iconst (-1), 1) (List.mem_of_getElem? (i := 9) rfl)) (fun zv2 ze3 => ?_)
    refine w_iret rfl (tX10_together_0_ok (20, .ireturn, 1) (List.mem_of_getElem? (i := 10) rfl)) ?_
    exact ⟨_, rfl, fun z => absurd z (by omega), fun _ => by omega⟩
  · refine w_iload_n (List.Mem.tail _ (List.Mem.head _)) (tX10_together_0_ok (10, .iload_n 1, 1) (List.mem_of_getElem? (i := 4) rfl)) ?_
    refine w_if_lt (tgt := 19) (tX10_together_0_ok (11, .ifCond .lt 8, 3) (List.mem_of_getElem? (i := 5) rfl)) rfl (fun zb4 => ?_) (fun zb4 => ?_)
    · refine w_iconst (by decide) (tX10_together_0_ok (19, .iconst (-1), 1) (List.mem_of_getElem? (i := 9) rfl)) (fun zv5 ze6 => ?_)
      refine w_iret rfl (tX10_together_0_ok (20, .ireturn, 1) (List.mem_of_getElem? (i := 10) rfl)) ?_
      exact ⟨_, rfl, fun z => absurd z (by omega), fun _ => by omega⟩
    · refine w_iload_n (List.Mem.tail _ (List.Mem.head _)) (tX10_together_0_ok (14, .iload_n 1, 1) (List.mem_of_getElem? (i := 6) rfl)) ?_
      refine w_iconst (by decide) (tX10_together_0_ok (15, .iconst 1, 1) (List.mem_of_getElem? (i := 7) rfl)) (fun zv7 ze8 => ?_)
      refine w_icmp_le (tgt := 21) (tX10_together_0_ok (16, .if_icmp .le 5, 3) (List.mem_of_getElem? (i := 8) rfl)) rfl (fun zb9 => ?_) (fun zb9 => ?_)
      · refine w_aload_n (List.Mem.head _) (tX10_together_0_ok (21, .aload_n 0, 1) (List.mem_of_getElem? (i := 11) rfl)) ?_
        refine w_get (own := 15) rfl rfl (by decide) c_x f17 (tX10_together_0_ok (22, .getfield 84, 3) (List.mem_of_getElem? (i := 12) rfl)) ?_
        refine w_aload_n (List.Mem.head _) (tX10_together_0_ok (25, .aload_n 0, 1) (List.mem_of_getElem? (i := 13) rfl)) ?_
        refine w_get (own := 15) rfl rfl (by decide) c_x f1 (tX10_together_0_ok (26, .getfield 19, 3) (List.mem_of_getElem? (i := 14) rfl)) ?_
        refine w_aload_n (List.Mem.head _) (tX10_together_0_ok (29, .aload_n 0, 1) (List.mem_of_getElem? (i := 15) rfl)) ?_
        refine w_get (own := 15) rfl rfl (by decide) c_x f10 (tX10_together_0_ok (30, .getfield 53, 3) (List.mem_of_getElem? (i := 16) rfl)) ?_
        refine w_callV (own := 15) (mi := 20) [.ref Pa, .ref wa] [] [(0, .ref ft), (1, .ref Pa), (2, .ref wa)] rfl (cllw_X10 (295, 0, 20) (List.mem_of_getElem? (i := 29) rfl)) rfl rfl c_ft rfl (by omega) (w_lo (n := 26) rfl (by omega)) (Nat.le_of_ble_eq_true rfl) (Nat.le_of_ble_eq_true rfl) rfl (tX10_together_0_ok (33, .invokevirtual 295, 3) (List.mem_of_getElem? (i := 17) rfl)) (c_leaveOut hT (W := wn) t0 t1 (fun i hi => (htr i hi).1) rfl rfl rfl rfl nd nt hn hρ (by rw [hnn]; exact wf) hL (ew (by omega)) (k_sg_ne s8 s44 (by decide)) (k_sg_ne sPa s44 (by decide)) (k_sg_ne s1 s44 (by decide)) (k_sg_ne s2 s44 (by decide)) (k_sg_ne s18 s44 (by decide)) (k_sg_ne s42 s44 (by decide)) (k_sg_ne s_wa s44 (by decide)) (by omega) (w_sub (n := 26) rfl (by omega)) c_ft c_tb c_rw c_P r1 r2 r8 c_wa c_mf (fun zg11 zv10 ae al ab av _ => ?_))
        show ww l D tys A X fr lo mX10_together _ 36 [(0, .ref x), (1, .int w)] [.int zv10] zg11
        refine w_istore_n [(2, .int zv10), (0, .ref x), (1, .int w)] rfl (Nat.le_of_ble_eq_true rfl) (tX10_together_0_ok (36, .istore_n 2, 1) (List.mem_of_getElem? (i := 18) rfl)) ?_
        refine w_iload_n (List.Mem.tail _ (List.Mem.tail _ (List.Mem.head _))) (tX10_together_0_ok (37, .iload_n 1, 1) (List.mem_of_getElem? (i := 19) rfl)) ?_
        refine w_iconst (by decide) (tX10_together_0_ok (38, .iconst 1, 1) (List.mem_of_getElem? (i := 20) rfl)) (fun zv12 ze13 => ?_)
        refine w_icmp_ne (tgt := 44) (tX10_together_0_ok (39, .if_icmp .ne 5, 3) (List.mem_of_getElem? (i := 21) rfl)) rfl (fun zb14 => ?_) (fun zb14 => ?_)
        · refine w_iload_n (List.Mem.head _) (tX10_together_0_ok (44, .iload_n 2, 1) (List.mem_of_getElem? (i := 24) rfl)) ?_
          refine w_if_ne (tgt := 52) (tX10_together_0_ok (45, .ifCond .ne 7, 3) (List.mem_of_getElem? (i := 25) rfl)) rfl (fun zb15 => ?_) (fun zb15 => ?_)
          · refine w_iconst (by decide) (tX10_together_0_ok (52, .iconst 0, 1) (List.mem_of_getElem? (i := 28) rfl)) (fun zv16 ze17 => ?_)
            refine w_iret rfl (tX10_together_0_ok (53, .ireturn, 1) (List.mem_of_getElem? (i := 29) rfl)) ?_
            refine ⟨_, rfl, fun _ => ⟨ae, al, by rw [← hnn]; exact ab, ?_⟩, fun z => absurd ⟨by omega, by omega, by omega⟩ z⟩
            by_cases c8 : w.toInt = 1
            · rw [if_pos c8]
              omega
            · rw [if_neg c8]
              split <;> omega
          · refine w_iconst (by decide) (tX10_together_0_ok (48, .iconst 1, 1) (List.mem_of_getElem? (i := 26) rfl)) (fun zv18 ze19 => ?_)
            refine w_goto (tgt := 53) (tX10_together_0_ok (49, .goto 4, 3) (List.mem_of_getElem? (i := 27) rfl)) rfl ?_
            refine w_iret rfl (tX10_together_0_ok (53, .ireturn, 1) (List.mem_of_getElem? (i := 29) rfl)) ?_
            refine ⟨_, rfl, fun _ => ⟨ae, al, by rw [← hnn]; exact ab, ?_⟩, fun z => absurd ⟨by omega, by omega, by omega⟩ z⟩
            by_cases c8 : w.toInt = 1
            · rw [if_pos c8]
              omega
            · rw [if_neg c8]
              split <;> omega
        · refine w_iload_n (List.Mem.head _) (tX10_together_0_ok (42, .iload_n 2, 1) (List.mem_of_getElem? (i := 22) rfl)) ?_
          refine w_iret rfl (tX10_together_0_ok (43, .ireturn, 1) (List.mem_of_getElem? (i := 23) rfl)) ?_
          refine ⟨_, rfl, fun _ => ⟨ae, al, by rw [← hnn]; exact ab, ?_⟩, fun z => absurd ⟨by omega, by omega, by omega⟩ z⟩
          by_cases c8 : w.toInt = 1
          · rw [if_pos c8]
            omega
          · rw [if_neg c8]
            split <;> omega
      · refine w_iconst (by decide) (tX10_together_0_ok (19, .iconst (-1), 1) (List.mem_of_getElem? (i := 9) rfl)) (fun zv20 ze21 => ?_)
        refine w_iret rfl (tX10_together_0_ok (20, .ireturn, 1) (List.mem_of_getElem? (i := 10) rfl)) ?_
        exact ⟨_, rfl, fun z => absurd z (by omega), fun _ => by omega⟩
theorem x_together (hT : k_tys tys cA) {w : Int32} (hH : k_H Sg cA Lb h) (sm : sgM Sg m) (Hb : bR h m τ) (H : rR cA h m τ.1 ρ) (Hw : wR cA h m τ.1 wn) (hf : 18 ≤ fr) (hl : 600 ≤ lo) : ww l D tys A X fr lo mX11_together (fun v _ => b_tog w τ ρ wn v) 0 [(0, .ref m), (1, .int w)] [] h := by
  obtain ⟨fs, n, ga, pe, ta, c_m, f20, -, -, -, e0, -⟩ := Hb
  obtain ⟨wf, fs9, ro, R, c9, f19, c_ro, e9⟩ := H
  rw [c_m] at c9
  cases c9
  obtain ⟨fs8, wa, gw, c8, f26, c_wa, ew⟩ := Hw
  rw [c_m] at c8
  cases c8
  obtain ⟨-, -, -, -, fl, -⟩ := lab26 hH sm.1 c_m
  have s3 := labW hH sm.1 c_m f26
  have nd : ro ≠ m ∧ wa ≠ m := by
    rcases sm.1 with s1 | s1 <;> rcases (lab19 hH sm.1 c_m f19).1 with s2 | s2 <;> exact ⟨k_sg_ne s2 s1 (by decide), k_sg_ne s3 s1 (by decide)⟩
  have n_ro_m := nd.1
  have n_wa_m := nd.2
  have h6 := wf.1
  have hnn : n.toInt.toNat = τ.1 := by omega
  have hn : 0 ≤ n.toInt ∧ n.toInt ≤ 6 := by omega
  refine w_aload_n (List.Mem.head _) (tX11_together_0_ok (0, .aload_n 0, 1) (List.mem_of_getElem? (i := 0) rfl)) ?_
  refine w_iconst (by decide) (tX11_together_0_ok (1, .iconst 0, 1) (List.mem_of_getElem? (i := 1) rfl)) (fun zv1 ze2 => ?_)
  refine w_putF (own := 16) (ci := 10) (k := 0) rfl rfl (by decide) rfl ⟨rfl, rfl⟩ c_m (by rw [fl]; decide) (tX11_together_0_ok (2, .putfield 85, 3) (List.mem_of_getElem? (i := 2) rfl)) (fun zh3 zfs6 zl7 zk8 zj9 zc4 zo5 => ?_)
  rw [fl] at zl7
  have zf10 := (zj9 19 (by decide)).trans f19
  have zf11 := (zj9 20 (by decide)).trans f20
  have zf12 := (zj9 26 (by decide)).trans f26
  have zc13 := (zo5 ro n_ro_m).trans c_ro
  have zc14 := (zo5 wa n_wa_m).trans c_wa
  refine w_aload_n (List.Mem.head _) (tX11_together_0_ok (5, .aload_n 0, 1) (List.mem_of_getElem? (i := 3) rfl)) ?_
  refine w_get (own := 16) rfl rfl (by decide) zc4 zf11 (tX11_together_0_ok (6, .getfield 248, 3) (List.mem_of_getElem? (i := 4) rfl)) ?_
  refine w_if_eq (tgt := 21) (tX11_together_0_ok (9, .ifCond .eq 12, 3) (List.mem_of_getElem? (i := 5) rfl)) rfl (fun zb15 => ?_) (fun zb15 => ?_)
  · refine w_iconst (by decide) (tX11_together_0_ok (21, .iconst (-1), 1) (List.mem_of_getElem? (i := 11) rfl)) (fun zv16 ze17 => ?_)
    refine w_iret rfl (tX11_together_0_ok (22, .ireturn, 1) (List.mem_of_getElem? (i := 12) rfl)) ?_
    exact ⟨_, rfl, fun z => absurd z (by omega), fun _ => by omega⟩
  · refine w_iload_n (List.Mem.tail _ (List.Mem.head _)) (tX11_together_0_ok (12, .iload_n 1, 1) (List.mem_of_getElem? (i := 6) rfl)) ?_
    refine w_iconst (by decide) (tX11_together_0_ok (13, .iconst 0, 1) (List.mem_of_getElem? (i := 7) rfl)) (fun zv18 ze19 => ?_)
    refine w_iconst (by decide) (tX11_together_0_ok (14, .iconst 1, 1) (List.mem_of_getElem? (i := 8) rfl)) (fun zv20 ze21 => ?_)
    refine w_callS (own := 16) (mi := 199) [.int w, .int zv18, .int zv20] [] [(0, .int w), (1, .int zv18), (2, .int zv20)] rfl (cllw_X11 (207, 1, 199) (List.mem_of_getElem? (i := 2) rfl)) rfl rfl (by omega) (w_lo (n := 22) rfl (by omega)) (Nat.le_of_ble_eq_true rfl) (Nat.le_of_ble_eq_true rfl) rfl (tX11_together_0_ok (15, .invokestatic 207, 3) (List.mem_of_getElem? (i := 9) rfl)) (r_isIn (fun zv22 ze23 => ?_))
    show ww l D tys A X fr lo mX11_together _ 18 [(0, .ref m), (1, .int w)] [.int zv22] zh3
    refine w_if_ne (tgt := 23) (tX11_together_0_ok (18, .ifCond .ne 5, 3) (List.mem_of_getElem? (i := 10) rfl)) rfl (fun zb24 => ?_) (fun zb24 => ?_)
    · refine w_aload_n (List.Mem.head _) (tX11_together_0_ok (23, .aload_n 0, 1) (List.mem_of_getElem? (i := 13) rfl)) ?_
      refine w_iconst (by decide) (tX11_together_0_ok (24, .iconst (-1), 1) (List.mem_of_getElem? (i := 14) rfl)) (fun zv25 ze26 => ?_)
      refine w_iconst (by decide) (tX11_together_0_ok (25, .iconst 0, 1) (List.mem_of_getElem? (i := 15) rfl)) (fun zv27 ze28 => ?_)
      refine w_callV (own := 16) (mi := 225) [.int zv25, .int zv27] [] [(0, .ref m), (1, .int zv25), (2, .int zv27)] rfl (cllw_X11 (364, 0, 225) (List.mem_of_getElem? (i := 58) rfl)) rfl rfl zc4 rfl (by omega) (w_lo (n := 24) rfl (by omega)) (Nat.le_of_ble_eq_true rfl) (Nat.le_of_ble_eq_true rfl) rfl (tX11_together_0_ok (26, .invokevirtual 364, 3) (List.mem_of_getElem? (i := 16) rfl)) (r_outOnC hT (W := wn) zc4 zf10 zf11 zf12 zc13 zc14 (ew (by omega)) hn (by rw [hnn]; exact wf) (by rw [hnn]; exact e9) (fb := 14) (lb := 420) (by omega) (fun q h1 h2 => r_outOfC hT (W := wn) zc4 zf10 zf11 zf12 zc13 zc14 (ew (by omega)) hn (by rw [hnn]; exact wf) (by rw [hnn]; exact e9) 6 q h1 (by omega) _ (by omega)) (by omega) ⟨w_sub (n := 24) rfl (by omega), w_sub (n := 24) rfl (by omega)⟩ (fun zv29 ze30 ze31 ze32 => ?_))
      show ww l D tys A X fr lo mX11_together _ 29 [(0, .ref m), (1, .int w)] [.int zv29] zh3
      refine w_istore_n [(2, .int zv29), (0, .ref m), (1, .int w)] rfl (Nat.le_of_ble_eq_true rfl) (tX11_together_0_ok (29, .istore_n 2, 1) (List.mem_of_getElem? (i := 17) rfl)) ?_
      refine w_iload_n (List.Mem.tail _ (List.Mem.tail _ (List.Mem.head _))) (tX11_together_0_ok (30, .iload_n 1, 1) (List.mem_of_getElem? (i := 18) rfl)) ?_
      refine w_iconst (by decide) (tX11_together_0_ok (31, .iconst 1, 1) (List.mem_of_getElem? (i := 19) rfl)) (fun zv33 ze34 => ?_)
      refine w_icmp_ne (tgt := 39) (tX11_together_0_ok (32, .if_icmp .ne 7, 3) (List.mem_of_getElem? (i := 20) rfl)) rfl (fun zb35 => ?_) (fun zb35 => ?_)
      · refine w_iload_n (List.Mem.head _) (tX11_together_0_ok (39, .iload_n 2, 1) (List.mem_of_getElem? (i := 23) rfl)) ?_
        refine w_if_ne (tgt := 47) (tX11_together_0_ok (40, .ifCond .ne 7, 3) (List.mem_of_getElem? (i := 24) rfl)) rfl (fun zb36 => ?_) (fun zb36 => ?_)
        · refine w_iconst (by decide) (tX11_together_0_ok (47, .iconst 0, 1) (List.mem_of_getElem? (i := 27) rfl)) (fun zv37 ze38 => ?_)
          refine w_iret rfl (tX11_together_0_ok (48, .ireturn, 1) (List.mem_of_getElem? (i := 28) rfl)) ?_
          refine ⟨_, rfl, fun _ => ⟨zv29.toInt.toNat, ?_, ?_, ?_⟩, fun z => absurd ⟨by omega, by omega, by omega⟩ z⟩
          · exact on_lt (by rw [hnn]; exact wf) ze31
          · rw [ze32, ← hnn, show zv25.toInt = -1 by omega, show zv27.toInt = 0 by omega]
            rfl
          · by_cases c8 : w.toInt = 1
            · rw [if_pos c8]
              omega
            · rw [if_neg c8]
              split <;> omega
        · refine w_iconst (by decide) (tX11_together_0_ok (43, .iconst 1, 1) (List.mem_of_getElem? (i := 25) rfl)) (fun zv39 ze40 => ?_)
          refine w_goto (tgt := 48) (tX11_together_0_ok (44, .goto 4, 3) (List.mem_of_getElem? (i := 26) rfl)) rfl ?_
          refine w_iret rfl (tX11_together_0_ok (48, .ireturn, 1) (List.mem_of_getElem? (i := 28) rfl)) ?_
          refine ⟨_, rfl, fun _ => ⟨zv29.toInt.toNat, ?_, ?_, ?_⟩, fun z => absurd ⟨by omega, by omega, by omega⟩ z⟩
          · exact on_lt (by rw [hnn]; exact wf) ze31
          · rw [ze32, ← hnn, show zv25.toInt = -1 by omega, show zv27.toInt = 0 by omega]
            rfl
          · by_cases c8 : w.toInt = 1
            · rw [if_pos c8]
              omega
            · rw [if_neg c8]
              split <;> omega
      · refine w_iload_n (List.Mem.head _) (tX11_together_0_ok (35, .iload_n 2, 1) (List.mem_of_getElem? (i := 21) rfl)) ?_
        refine w_goto (tgt := 48) (tX11_together_0_ok (36, .goto 12, 3) (List.mem_of_getElem? (i := 22) rfl)) rfl ?_
        refine w_iret rfl (tX11_together_0_ok (48, .ireturn, 1) (List.mem_of_getElem? (i := 28) rfl)) ?_
        refine ⟨_, rfl, fun _ => ⟨zv29.toInt.toNat, ?_, ?_, ?_⟩, fun z => absurd ⟨by omega, by omega, by omega⟩ z⟩
        · exact on_lt (by rw [hnn]; exact wf) ze31
        · rw [ze32, ← hnn, show zv25.toInt = -1 by omega, show zv27.toInt = 0 by omega]
          rfl
        · by_cases c8 : w.toInt = 1
          · rw [if_pos c8]
            omega
          · rw [if_neg c8]
            split <;> omega
    · refine w_iconst (by decide) (tX11_together_0_ok (21, .iconst (-1), 1) (List.mem_of_getElem? (i := 11) rfl)) (fun zv41 ze42 => ?_)
      refine w_iret rfl (tX11_together_0_ok (22, .ireturn, 1) (List.mem_of_getElem? (i := 12) rfl)) ?_
      exact ⟨_, rfl, fun z => absurd z (by omega), fun _ => by omega⟩
end
