/-! the reference's feast: WANTED is kept and put back -/
section
variable {l : Launch} {D : va_G} {tys : List (ClassId × FieldType)} {A : Nat → Prop} {X : State → Prop} {fr lo : Nat} {Q : Option Value → ch_H → Prop} {cA : Nat → ClassId} {h : ch_H} {ρ : aRw} {B : Nat → Prop}
theorem r_fAW (hT : k_tys tys cA) {m ro wa kw : Nat} {fs : List Value} {R : Nat → Int32} {rp w : Int32} (f19 : fs[19]? = some (.ref ro)) (f20 : fs[20]? = some (.int rp)) (f26 : fs[26]? = some (.ref wa)) (f46 : fs[46]? = some (.ref kw)) (nd : (ro ≠ m ∧ wa ≠ m ∧ kw ≠ m) ∧ (m ≠ wa ∧ ro ≠ wa ∧ kw ≠ wa) ∧ m ≠ kw ∧ ro ≠ kw ∧ wa ≠ kw) {be : Int32} : ∀ (j : Nat) (k : Int32) (h : ch_H) (gw gk : Nat → Int32), k.toInt + j = 12 → 0 ≤ k.toInt → h m = some (.inr (10, fs)) → h ro = some (.inl (cA 0, 108, .inl R)) → h wa = some (.inl (cA 0, 12, .inl gw)) → h kw = some (.inl (cA 0, 12, .inl gk)) → (∀ r, r < k.toInt.toNat → (gk r).toInt = (gw r).toInt) → (∀ (g : ch_H) (k1 : Int32) (gw1 gk1 : Nat → Int32), g m = some (.inr (10, fs)) → g ro = some (.inl (cA 0, 108, .inl R)) → g wa = some (.inl (cA 0, 12, .inl gw1)) → g kw = some (.inl (cA 0, 12, .inl gk1)) → (∀ r, r < 12 → (gk1 r).toInt = (gw r).toInt) → (∀ q, q ≠ kw → g q = h q) → ww l D tys A X fr lo mX11_feast Q 58 [(3, .int k1), (2, .int be), (0, .ref m), (1, .int w)] [] g) → ww l D tys A X fr lo mX11_feast Q 34 [(3, .int k), (2, .int be), (0, .ref m), (1, .int w)] [] h := by
  intro j
  induction j using Nat.strongRecOn with
  | ind j ih =>
    intro k h gw gk hj hk0 c_m c_ro c_wa c_kw hi hq
    have n_ro_m := nd.1.1
    have n_wa_m := nd.1.2.1
    have n_kw_m := nd.1.2.2
    have n_m_wa := nd.2.1.1
    have n_ro_wa := nd.2.1.2.1
    have n_kw_wa := nd.2.1.2.2
    have n_m_kw := nd.2.2.1
    have n_ro_kw := nd.2.2.2.1
    have n_wa_kw := nd.2.2.2.2
    refine w_iload_n (List.Mem.head _) (tX11_feast_0_ok (34, .iload_n 3, 1) (List.mem_of_getElem? (i := 22) rfl)) ?_
    refine w_bipush (by decide) (tX11_feast_0_ok (35, .bipush 12, 2) (List.mem_of_getElem? (i := 23) rfl)) (fun zv1 ze2 => ?_)
    refine w_icmp_ge (tgt := 58) (tX11_feast_0_ok (37, .if_icmp .ge 21, 3) (List.mem_of_getElem? (i := 24) rfl)) rfl (fun zb3 => ?_) (fun zb3 => ?_)
    · exact hq h k gw gk c_m c_ro c_wa c_kw (fun r hr => hi r (by omega)) (fun _ _ => rfl)
    · refine w_aload_n (List.Mem.tail _ (List.Mem.tail _ (List.Mem.head _))) (tX11_feast_0_ok (40, .aload_n 0, 1) (List.mem_of_getElem? (i := 25) rfl)) ?_
      refine w_get (own := 16) rfl rfl (by decide) c_m f46 (tX11_feast_0_ok (41, .getfield 82, 3) (List.mem_of_getElem? (i := 26) rfl)) ?_
      refine w_iload_n (List.Mem.head _) (tX11_feast_0_ok (44, .iload_n 3, 1) (List.mem_of_getElem? (i := 27) rfl)) ?_
      refine w_aload_n (List.Mem.tail _ (List.Mem.tail _ (List.Mem.head _))) (tX11_feast_0_ok (45, .aload_n 0, 1) (List.mem_of_getElem? (i := 28) rfl)) ?_
      refine w_get (own := 16) rfl rfl (by decide) c_m f26 (tX11_feast_0_ok (46, .getfield 57, 3) (List.mem_of_getElem? (i := 29) rfl)) ?_
      refine w_iload_n (List.Mem.head _) (tX11_feast_0_ok (49, .iload_n 3, 1) (List.mem_of_getElem? (i := 30) rfl)) ?_
      refine w_iald hT c_wa (by omega) (by omega) (tX11_feast_0_ok (50, .iaload, 1) (List.mem_of_getElem? (i := 31) rfl)) (fun zv4 ze5 => ?_)
      refine w_iast hT c_kw (by omega) (by omega) (tX11_feast_0_ok (51, .iastore, 1) (List.mem_of_getElem? (i := 32) rfl)) (fun zh6 zc7 zo8 => ?_)
      have zc9 := (zo8 m n_m_kw).trans c_m
      have zc10 := (zo8 ro n_ro_kw).trans c_ro
      have zc11 := (zo8 wa n_wa_kw).trans c_wa
      refine w_iinc (fun zv12 => [(3, .int zv12), (2, .int be), (0, .ref m), (1, .int w)]) (fun _ => rfl) (List.Mem.head _) (Nat.le_of_ble_eq_true rfl) (by decide) (by omega) (by omega) (tX11_feast_0_ok (52, .iinc 3 1, 3) (List.mem_of_getElem? (i := 33) rfl)) (fun zv12 ze13 => ?_)
      refine w_goto (tgt := 34) (tX11_feast_0_ok (55, .goto (-21), 3) (List.mem_of_getElem? (i := 34) rfl)) rfl ?_
      refine w_lv [(3, .int zv12), (2, .int be), (0, .ref m), (1, .int w)] (by intro q hq; simp only [List.mem_cons, List.not_mem_nil, or_false] at hq ⊢; rcases hq with e | e | e | e <;> subst e <;> simp) ?_
      refine ih (j - 1) (by omega) _ _ _ _ (by omega) (by omega) zc9 zc10 zc11 zc7 (fun r hr => ?_) (fun g k1 gw1 gk1 z1 z2 z3 z4 z6 z5 => hq g k1 gw1 gk1 z1 z2 z3 z4 z6 (fun q hq9 => (z5 q hq9).trans (zo8 q hq9)))
      by_cases c9 : r = k.toInt.toNat
      · subst c9
        rw [upd_s]
        exact ze5
      · rw [upd_n _ _ c9]
        exact hi r (by omega)
theorem r_fDW (hT : k_tys tys cA) {m ro wa kw : Nat} {fs : List Value} {R : Nat → Int32} {rp w : Int32} (f19 : fs[19]? = some (.ref ro)) (f20 : fs[20]? = some (.int rp)) (f26 : fs[26]? = some (.ref wa)) (f46 : fs[46]? = some (.ref kw)) (nd : (ro ≠ m ∧ wa ≠ m ∧ kw ≠ m) ∧ (m ≠ wa ∧ ro ≠ wa ∧ kw ≠ wa) ∧ m ≠ kw ∧ ro ≠ kw ∧ wa ≠ kw) {be : Int32} : ∀ (j : Nat) (k : Int32) (h : ch_H) (gw gk : Nat → Int32), k.toInt + j = 12 → 0 ≤ k.toInt → h m = some (.inr (10, fs)) → h ro = some (.inl (cA 0, 108, .inl R)) → h wa = some (.inl (cA 0, 12, .inl gw)) → h kw = some (.inl (cA 0, 12, .inl gk)) → (∀ r, r < k.toInt.toNat → (gw r).toInt = (gk r).toInt) → (∀ (g : ch_H) (k1 : Int32) (gw1 gk1 : Nat → Int32), g m = some (.inr (10, fs)) → g ro = some (.inl (cA 0, 108, .inl R)) → g wa = some (.inl (cA 0, 12, .inl gw1)) → g kw = some (.inl (cA 0, 12, .inl gk1)) → (∀ r, r < 12 → (gw1 r).toInt = (gk r).toInt) → (∀ q, q ≠ wa → g q = h q) → ww l D tys A X fr lo mX11_feast Q 152 [(3, .int k1), (2, .int be), (0, .ref m), (1, .int w)] [] g) → ww l D tys A X fr lo mX11_feast Q 128 [(3, .int k), (2, .int be), (0, .ref m), (1, .int w)] [] h := by
  intro j
  induction j using Nat.strongRecOn with
  | ind j ih =>
    intro k h gw gk hj hk0 c_m c_ro c_wa c_kw hi hq
    have n_ro_m := nd.1.1
    have n_wa_m := nd.1.2.1
    have n_kw_m := nd.1.2.2
    have n_m_wa := nd.2.1.1
    have n_ro_wa := nd.2.1.2.1
    have n_kw_wa := nd.2.1.2.2
    have n_m_kw := nd.2.2.1
    have n_ro_kw := nd.2.2.2.1
    have n_wa_kw := nd.2.2.2.2
    refine w_iload_n (List.Mem.head _) (tX11_feast_1_ok (128, .iload_n 3, 1) (List.mem_of_getElem? (i := 12) rfl)) ?_
    refine w_bipush (by decide) (tX11_feast_1_ok (129, .bipush 12, 2) (List.mem_of_getElem? (i := 13) rfl)) (fun zv1 ze2 => ?_)
    refine w_icmp_ge (tgt := 152) (tX11_feast_1_ok (131, .if_icmp .ge 21, 3) (List.mem_of_getElem? (i := 14) rfl)) rfl (fun zb3 => ?_) (fun zb3 => ?_)
    · exact hq h k gw gk c_m c_ro c_wa c_kw (fun r hr => hi r (by omega)) (fun _ _ => rfl)
    · refine w_aload_n (List.Mem.tail _ (List.Mem.tail _ (List.Mem.head _))) (tX11_feast_1_ok (134, .aload_n 0, 1) (List.mem_of_getElem? (i := 15) rfl)) ?_
      refine w_get (own := 16) rfl rfl (by decide) c_m f26 (tX11_feast_1_ok (135, .getfield 57, 3) (List.mem_of_getElem? (i := 16) rfl)) ?_
      refine w_iload_n (List.Mem.head _) (tX11_feast_1_ok (138, .iload_n 3, 1) (List.mem_of_getElem? (i := 17) rfl)) ?_
      refine w_aload_n (List.Mem.tail _ (List.Mem.tail _ (List.Mem.head _))) (tX11_feast_1_ok (139, .aload_n 0, 1) (List.mem_of_getElem? (i := 18) rfl)) ?_
      refine w_get (own := 16) rfl rfl (by decide) c_m f46 (tX11_feast_1_ok (140, .getfield 82, 3) (List.mem_of_getElem? (i := 19) rfl)) ?_
      refine w_iload_n (List.Mem.head _) (tX11_feast_1_ok (143, .iload_n 3, 1) (List.mem_of_getElem? (i := 20) rfl)) ?_
      refine w_iald hT c_kw (by omega) (by omega) (tX11_feast_1_ok (144, .iaload, 1) (List.mem_of_getElem? (i := 21) rfl)) (fun zv4 ze5 => ?_)
      refine w_iast hT c_wa (by omega) (by omega) (tX11_feast_1_ok (145, .iastore, 1) (List.mem_of_getElem? (i := 22) rfl)) (fun zh6 zc7 zo8 => ?_)
      have zc9 := (zo8 m n_m_wa).trans c_m
      have zc10 := (zo8 ro n_ro_wa).trans c_ro
      have zc11 := (zo8 kw n_kw_wa).trans c_kw
      refine w_iinc (fun zv12 => [(3, .int zv12), (2, .int be), (0, .ref m), (1, .int w)]) (fun _ => rfl) (List.Mem.head _) (Nat.le_of_ble_eq_true rfl) (by decide) (by omega) (by omega) (tX11_feast_1_ok (146, .iinc 3 1, 3) (List.mem_of_getElem? (i := 23) rfl)) (fun zv12 ze13 => ?_)
      refine w_goto (tgt := 128) (tX11_feast_1_ok (149, .goto (-21), 3) (List.mem_of_getElem? (i := 24) rfl)) rfl ?_
      refine w_lv [(3, .int zv12), (2, .int be), (0, .ref m), (1, .int w)] (by intro q hq; simp only [List.mem_cons, List.not_mem_nil, or_false] at hq ⊢; rcases hq with e | e | e | e <;> subst e <;> simp) ?_
      refine ih (j - 1) (by omega) _ _ _ _ (by omega) (by omega) zc9 zc10 zc7 zc11 (fun r hr => ?_) (fun g k1 gw1 gk1 z1 z2 z3 z4 z6 z5 => hq g k1 gw1 gk1 z1 z2 z3 z4 z6 (fun q hq9 => (z5 q hq9).trans (zo8 q hq9)))
      by_cases c9 : r = k.toInt.toNat
      · subst c9
        rw [upd_s]
        exact ze5
      · rw [upd_n _ _ c9]
        exact hi r (by omega)
theorem r_fCW (hT : k_tys tys cA) {m ro wa kw : Nat} {fs : List Value} {R : Nat → Int32} {rp w : Int32} (f19 : fs[19]? = some (.ref ro)) (f20 : fs[20]? = some (.int rp)) (f26 : fs[26]? = some (.ref wa)) (f46 : fs[46]? = some (.ref kw)) (nd : (ro ≠ m ∧ wa ≠ m ∧ kw ≠ m) ∧ (m ≠ wa ∧ ro ≠ wa ∧ kw ≠ wa) ∧ m ≠ kw ∧ ro ≠ kw ∧ wa ≠ kw) (hn : 0 ≤ rp.toInt ∧ rp.toInt ≤ 6) (wf : wfR rp.toInt.toNat ρ) (hρ : ∀ q, q < rp.toInt.toNat → ∀ w, w < 9 → (R (9 * q + w)).toInt = ρ q w) (hf : 16 ≤ fr) (hl : 600 ≤ lo) : ∀ (j : Nat) (hh be : Int32) (h : ch_H) (gw gk : Nat → Int32), hh.toInt + j = 201 → 0 ≤ hh.toInt → (be.toInt = -1 ∧ (∀ g9 : Nat, g9 < hh.toInt.toNat → ¬ f_all rp.toInt.toNat ρ (fun r => bt9 w r = true) (g9 : Int)) ∨ 0 ≤ be.toInt ∧ be.toInt < hh.toInt ∧ f_all rp.toInt.toNat ρ (fun r => bt9 w r = true) ((be.toInt.toNat : Nat) : Int) ∧ ∀ g9 : Nat, g9 < be.toInt.toNat → ¬ f_all rp.toInt.toNat ρ (fun r => bt9 w r = true) (g9 : Int)) → h m = some (.inr (10, fs)) → h ro = some (.inl (cA 0, 108, .inl R)) → h wa = some (.inl (cA 0, 12, .inl gw)) → h kw = some (.inl (cA 0, 12, .inl gk)) → (∀ (g : ch_H) (h1 be : Int32) (gw gk : Nat → Int32), f_least rp.toInt.toNat ρ (fun r => bt9 w r = true) 200 be.toInt → g m = some (.inr (10, fs)) → g ro = some (.inl (cA 0, 108, .inl R)) → g wa = some (.inl (cA 0, 12, .inl gw)) → g kw = some (.inl (cA 0, 12, .inl gk)) → (∀ q, q ≠ wa → g q = h q) → ww l D tys A X fr lo mX11_feast Q 126 [(3, .int h1), (2, .int be), (0, .ref m), (1, .int w)] [] g) → ww l D tys A X fr lo mX11_feast Q 60 [(3, .int hh), (2, .int be), (0, .ref m), (1, .int w)] [] h := by
  intro j
  induction j using Nat.strongRecOn with
  | ind j ih =>
    intro hh be h gw gk hj hh0 hi c_m c_ro c_wa c_kw hq
    have n_ro_m := nd.1.1
    have n_wa_m := nd.1.2.1
    have n_kw_m := nd.1.2.2
    have n_m_wa := nd.2.1.1
    have n_ro_wa := nd.2.1.2.1
    have n_kw_wa := nd.2.1.2.2
    have n_m_kw := nd.2.2.1
    have n_ro_kw := nd.2.2.2.1
    have n_wa_kw := nd.2.2.2.2
    refine w_iload_n (List.Mem.head _) (tX11_feast_0_ok (60, .iload_n 3, 1) (List.mem_of_getElem? (i := 37) rfl)) ?_
    refine w_sipush (by decide) (tX11_feast_0_ok (61, .sipush 200, 3) (List.mem_of_getElem? (i := 38) rfl)) (fun zv1 ze2 => ?_)
    refine w_icmp_gt (tgt := 126) (tX11_feast_0_ok (64, .if_icmp .gt 62, 3) (List.mem_of_getElem? (i := 39) rfl)) rfl (fun zb3 => ?_) (fun zb3 => ?_)
    · refine hq h hh be gw gk ?_ c_m c_ro c_wa c_kw (fun _ _ => rfl)
      rcases hi with ⟨y1, y2⟩ | ⟨y1, y2, y3, y4⟩
      · exact Or.inr ⟨y1, fun g9 hg => y2 g9 (by omega)⟩
      · exact Or.inl ⟨be.toInt.toNat, by omega, by omega, y3, y4⟩
    · refine w_iload_n (List.Mem.tail _ (List.Mem.head _)) (tX11_feast_0_ok (67, .iload_n 2, 1) (List.mem_of_getElem? (i := 40) rfl)) ?_
      refine w_iconst (by decide) (tX11_feast_0_ok (68, .iconst (-1), 1) (List.mem_of_getElem? (i := 41) rfl)) (fun zv4 ze5 => ?_)
      refine w_icmp_ne (tgt := 126) (tX11_feast_0_ok (69, .if_icmp .ne 57, 3) (List.mem_of_getElem? (i := 42) rfl)) rfl (fun zb6 => ?_) (fun zb6 => ?_)
      · refine hq h hh be gw gk ?_ c_m c_ro c_wa c_kw (fun _ _ => rfl)
        rcases hi with ⟨y1, y2⟩ | ⟨y1, y2, y3, y4⟩
        · exact Or.inr ⟨y1, fun g9 hg => y2 g9 (by omega)⟩
        · exact Or.inl ⟨be.toInt.toNat, by omega, by omega, y3, y4⟩
      · refine w_iconst (by decide) (tX11_feast_0_ok (72, .iconst 0, 1) (List.mem_of_getElem? (i := 43) rfl)) (fun zv7 ze8 => ?_)
        refine w_istore [(4, .int zv7), (3, .int hh), (2, .int be), (0, .ref m), (1, .int w)] rfl (Nat.le_of_ble_eq_true rfl) (tX11_feast_0_ok (73, .istore 4, 2) (List.mem_of_getElem? (i := 44) rfl)) ?_
        refine w_lv [(4, .int zv7), (3, .int hh), (2, .int be), (0, .ref m), (1, .int w)] (by intro q hq; simp only [List.mem_cons, List.not_mem_nil, or_false] at hq ⊢; rcases hq with e | e | e | e | e <;> subst e <;> simp) ?_
        refine r_fB hT f19 f20 f26 f46 nd (by omega) (by omega) 12 _ _ gw (by omega) (by omega) (fun r h1 => absurd h1 (by omega)) c_m c_ro c_wa c_kw (fun zg9 zk10 zgw11 zq12 zq13 zq14 zq15 zq16 zq17 => ?_)
        show ww l D tys A X fr lo mX11_feast Q 109 [(4, .int zk10), (3, .int hh), (2, .int be), (0, .ref m), (1, .int w)] [] zg9
        refine w_aload_n (List.Mem.tail _ (List.Mem.tail _ (List.Mem.tail _ (List.Mem.head _)))) (tX11_feast_1_ok (109, .aload_n 0, 1) (List.mem_of_getElem? (i := 1) rfl)) ?_
        refine w_iconst (by decide) (tX11_feast_1_ok (110, .iconst (-1), 1) (List.mem_of_getElem? (i := 2) rfl)) (fun zv18 ze19 => ?_)
        refine w_iconst (by decide) (tX11_feast_1_ok (111, .iconst 0, 1) (List.mem_of_getElem? (i := 3) rfl)) (fun zv20 ze21 => ?_)
        have hw9 : ∀ r, r < 12 → ((fun r => bt9 w r = true) r → (zgw11 r).toInt = ((hh.toInt.toNat : Nat) : Int)) ∧ (¬ (fun r => bt9 w r = true) r → (zgw11 r).toInt = -1) := fun r h1 => ⟨fun z9 => by have := (zq12 r h1).1 z9; omega, fun z9 => (zq12 r h1).2 z9⟩
        refine w_callV (own := 16) (mi := 225) [.int zv18, .int zv20] [] [(0, .ref m), (1, .int zv18), (2, .int zv20)] rfl (cllw_X11 (364, 0, 225) (List.mem_of_getElem? (i := 58) rfl)) rfl rfl zq13 rfl (by omega) (w_lo (n := 24) rfl (by omega)) (Nat.le_of_ble_eq_true rfl) (Nat.le_of_ble_eq_true rfl) rfl (tX11_feast_1_ok (112, .invokevirtual 364, 3) (List.mem_of_getElem? (i := 4) rfl)) (r_outOn hT (B := (fun r => bt9 w r = true)) (hh := hh.toInt.toNat) zq13 f19 f20 f26 zq14 zq15 hw9 hn wf hρ (fb := 14) (lb := 420) (fun q h1 h2 => r_outOf hT (B := (fun r => bt9 w r = true)) (hh := hh.toInt.toNat) zq13 f19 f20 f26 zq14 zq15 hw9 hn wf hρ 6 q h1 (by omega) _ (by omega)) (by omega) ⟨w_sub (n := 24) rfl (by omega), w_sub (n := 24) rfl (by omega)⟩ (fun zv22 ze23 => ?_))
        obtain ⟨ze23a, ze23b, ze23c⟩ := ze23
        show ww l D tys A X fr lo mX11_feast Q 115 [(4, .int zk10), (3, .int hh), (2, .int be), (0, .ref m), (1, .int w)] [.int zv22] zg9
        have al9 : zv22.toInt = 0 ↔ f_all rp.toInt.toNat ρ (fun r => bt9 w r = true) ((hh.toInt.toNat : Nat) : Int) := ze23c.trans ⟨fun z9 p9 h1 h2 => by have := z9 p9 h1 (by omega); rw [show ((hh.toInt.toNat : Nat) : Int) - zv20.toInt = ((hh.toInt.toNat : Nat) : Int) by omega] at this; exact this, fun z9 p9 h1 h2 => by rw [show ((hh.toInt.toNat : Nat) : Int) - zv20.toInt = ((hh.toInt.toNat : Nat) : Int) by omega]; exact z9 p9 h1 (by omega)⟩
        refine w_if_ne (tgt := 120) (tX11_feast_1_ok (115, .ifCond .ne 5, 3) (List.mem_of_getElem? (i := 5) rfl)) rfl (fun zb24 => ?_) (fun zb24 => ?_)
        · refine w_iinc (fun zv25 => [(3, .int zv25), (4, .int zk10), (2, .int be), (0, .ref m), (1, .int w)]) (fun _ => rfl) (List.Mem.tail _ (List.Mem.head _)) (Nat.le_of_ble_eq_true rfl) (by decide) (by omega) (by omega) (tX11_feast_1_ok (120, .iinc 3 1, 3) (List.mem_of_getElem? (i := 8) rfl)) (fun zv25 ze26 => ?_)
          refine w_goto (tgt := 60) (tX11_feast_1_ok (123, .goto (-63), 3) (List.mem_of_getElem? (i := 9) rfl)) rfl ?_
          refine w_lv [(3, .int zv25), (2, .int be), (0, .ref m), (1, .int w)] (by intro q hq; simp only [List.mem_cons, List.not_mem_nil, or_false] at hq ⊢; rcases hq with e | e | e | e <;> subst e <;> simp) ?_
          refine ih (j - 1) (by omega) _ _ _ _ _ (by omega) (by omega) ?_ zq13 zq14 zq15 zq16 (fun g1 h1 be1 gw1 gk1 y0 y1 y2 y3 y4 y5 => hq g1 h1 be1 gw1 gk1 y0 y1 y2 y3 y4 (fun q hq9 => (y5 q hq9).trans (zq17 q hq9)))
          refine Or.inl ⟨by omega, fun g9 hg => ?_⟩
          by_cases c9 : g9 = hh.toInt.toNat
          · subst c9
            exact fun z9 => absurd (al9.mpr z9) (by omega)
          · rcases hi with ⟨y1, y2⟩ | ⟨y1, y2, y3, y4⟩
            · exact y2 g9 (by omega)
            · omega
        · refine w_iload_n (List.Mem.tail _ (List.Mem.head _)) (tX11_feast_1_ok (118, .iload_n 3, 1) (List.mem_of_getElem? (i := 6) rfl)) ?_
          refine w_istore_n [(2, .int hh), (4, .int zk10), (3, .int hh), (0, .ref m), (1, .int w)] rfl (Nat.le_of_ble_eq_true rfl) (tX11_feast_1_ok (119, .istore_n 2, 1) (List.mem_of_getElem? (i := 7) rfl)) ?_
          refine w_iinc (fun zv27 => [(3, .int zv27), (2, .int hh), (4, .int zk10), (0, .ref m), (1, .int w)]) (fun _ => rfl) (List.Mem.tail _ (List.Mem.tail _ (List.Mem.head _))) (Nat.le_of_ble_eq_true rfl) (by decide) (by omega) (by omega) (tX11_feast_1_ok (120, .iinc 3 1, 3) (List.mem_of_getElem? (i := 8) rfl)) (fun zv27 ze28 => ?_)
          refine w_goto (tgt := 60) (tX11_feast_1_ok (123, .goto (-63), 3) (List.mem_of_getElem? (i := 9) rfl)) rfl ?_
          refine w_lv [(3, .int zv27), (2, .int hh), (0, .ref m), (1, .int w)] (by intro q hq; simp only [List.mem_cons, List.not_mem_nil, or_false] at hq ⊢; rcases hq with e | e | e | e <;> subst e <;> simp) ?_
          refine ih (j - 1) (by omega) _ _ _ _ _ (by omega) (by omega) ?_ zq13 zq14 zq15 zq16 (fun g1 h1 be1 gw1 gk1 y0 y1 y2 y3 y4 y5 => hq g1 h1 be1 gw1 gk1 y0 y1 y2 y3 y4 (fun q hq9 => (y5 q hq9).trans (zq17 q hq9)))
          refine Or.inr ⟨by omega, by omega, ?_, fun g9 hg => ?_⟩
          · exact al9.mp (by omega)
          · rcases hi with ⟨y1, y2⟩ | ⟨y1, y2, y3, y4⟩
            · exact y2 g9 (by omega)
            · omega
theorem r_feastW (hT : k_tys tys cA) {m ro wa kw : Nat} {fs : List Value} {R : Nat → Int32} {rp w : Int32} (f19 : fs[19]? = some (.ref ro)) (f20 : fs[20]? = some (.int rp)) (f26 : fs[26]? = some (.ref wa)) (f46 : fs[46]? = some (.ref kw)) (nd : (ro ≠ m ∧ wa ≠ m ∧ kw ≠ m) ∧ (m ≠ wa ∧ ro ≠ wa ∧ kw ≠ wa) ∧ m ≠ kw ∧ ro ≠ kw ∧ wa ≠ kw) (hn : 0 ≤ rp.toInt ∧ rp.toInt ≤ 6) (wf : wfR rp.toInt.toNat ρ) (hρ : ∀ q, q < rp.toInt.toNat → ∀ w, w < 9 → (R (9 * q + w)).toInt = ρ q w) {gw gk : Nat → Int32} (fl : fs.length = 47) (c_m : h m = some (.inr (10, fs))) (c_ro : h ro = some (.inl (cA 0, 108, .inl R))) (c_wa : h wa = some (.inl (cA 0, 12, .inl gw))) (c_kw : h kw = some (.inl (cA 0, 12, .inl gk))) (hf : 16 ≤ fr) (hl : 600 ≤ lo) (hq : ∀ (g : ch_H) (v : Int32) (fs1 : List Value) (gw1 : Nat → Int32), g m = some (.inr (10, fs1)) → fs1[26]? = some (.ref wa) → g wa = some (.inl (cA 0, 12, .inl gw1)) → (∀ r, r < 12 → (gw1 r).toInt = (gw r).toInt) → Q (some (.int v)) g) : ww l D tys A X fr lo mX11_feast Q 0 [(0, .ref m), (1, .int w)] [] h := by
  have n_ro_m := nd.1.1
  have n_wa_m := nd.1.2.1
  have n_kw_m := nd.1.2.2
  have n_m_wa := nd.2.1.1
  have n_ro_wa := nd.2.1.2.1
  have n_kw_wa := nd.2.1.2.2
  have n_m_kw := nd.2.2.1
  have n_ro_kw := nd.2.2.2.1
  have n_wa_kw := nd.2.2.2.2
  have p0 : rp.toInt = 0 → ((2 ^ (2 * rp.toInt.toNat) : Nat) : Int) = 1 := fun z => by rw [show rp.toInt.toNat = 0 by omega]; rfl
  refine w_aload_n (List.Mem.head _) (tX11_feast_0_ok (0, .aload_n 0, 1) (List.mem_of_getElem? (i := 0) rfl)) ?_
  refine w_iconst (by decide) (tX11_feast_0_ok (1, .iconst 0, 1) (List.mem_of_getElem? (i := 1) rfl)) (fun zv1 ze2 => ?_)
  refine w_putF (own := 16) (ci := 10) (k := 0) rfl rfl (by decide) rfl ⟨rfl, rfl⟩ c_m (by rw [fl]; decide) (tX11_feast_0_ok (2, .putfield 85, 3) (List.mem_of_getElem? (i := 2) rfl)) (fun zh3 zfs6 zl7 zk8 zj9 zc4 zo5 => ?_)
  rw [fl] at zl7
  have zf10 := (zj9 19 (by decide)).trans f19
  have zf11 := (zj9 20 (by decide)).trans f20
  have zf12 := (zj9 26 (by decide)).trans f26
  have zf13 := (zj9 46 (by decide)).trans f46
  have zc14 := (zo5 ro n_ro_m).trans c_ro
  have zc15 := (zo5 wa n_wa_m).trans c_wa
  have zc16 := (zo5 kw n_kw_m).trans c_kw
  refine w_aload_n (List.Mem.head _) (tX11_feast_0_ok (5, .aload_n 0, 1) (List.mem_of_getElem? (i := 3) rfl)) ?_
  refine w_get (own := 16) rfl rfl (by decide) zc4 zf11 (tX11_feast_0_ok (6, .getfield 248, 3) (List.mem_of_getElem? (i := 4) rfl)) ?_
  refine w_if_eq (tgt := 28) (tX11_feast_0_ok (9, .ifCond .eq 19, 3) (List.mem_of_getElem? (i := 5) rfl)) rfl (fun zb17 => ?_) (fun zb17 => ?_)
  · refine w_iconst (by decide) (tX11_feast_0_ok (28, .iconst (-1), 1) (List.mem_of_getElem? (i := 16) rfl)) (fun zv18 ze19 => ?_)
    refine w_iret rfl (tX11_feast_0_ok (29, .ireturn, 1) (List.mem_of_getElem? (i := 17) rfl)) ?_
    exact hq _ _ _ gw zc4 zf12 zc15 (fun _ _ => rfl)
  · refine w_iload_n (List.Mem.tail _ (List.Mem.head _)) (tX11_feast_0_ok (12, .iload_n 1, 1) (List.mem_of_getElem? (i := 6) rfl)) ?_
    refine w_if_le (tgt := 28) (tX11_feast_0_ok (13, .ifCond .le 15, 3) (List.mem_of_getElem? (i := 7) rfl)) rfl (fun zb20 => ?_) (fun zb20 => ?_)
    · refine w_iconst (by decide) (tX11_feast_0_ok (28, .iconst (-1), 1) (List.mem_of_getElem? (i := 16) rfl)) (fun zv21 ze22 => ?_)
      refine w_iret rfl (tX11_feast_0_ok (29, .ireturn, 1) (List.mem_of_getElem? (i := 17) rfl)) ?_
      exact hq _ _ _ gw zc4 zf12 zc15 (fun _ _ => rfl)
    · refine w_iload_n (List.Mem.tail _ (List.Mem.head _)) (tX11_feast_0_ok (16, .iload_n 1, 1) (List.mem_of_getElem? (i := 8) rfl)) ?_
      refine w_iconst (by decide) (tX11_feast_0_ok (17, .iconst 1, 1) (List.mem_of_getElem? (i := 9) rfl)) (fun zv23 ze24 => ?_)
      refine w_iconst (by decide) (tX11_feast_0_ok (18, .iconst 2, 1) (List.mem_of_getElem? (i := 10) rfl)) (fun zv25 ze26 => ?_)
      refine w_aload_n (List.Mem.head _) (tX11_feast_0_ok (19, .aload_n 0, 1) (List.mem_of_getElem? (i := 11) rfl)) ?_
      refine w_get (own := 16) rfl rfl (by decide) zc4 zf11 (tX11_feast_0_ok (20, .getfield 248, 3) (List.mem_of_getElem? (i := 12) rfl)) ?_
      refine w_imul (by assumption) (by omega) (by omega) (tX11_feast_0_ok (23, .imul, 1) (List.mem_of_getElem? (i := 13) rfl)) (fun zv27 ze28 => ?_)
      refine w_ishl (tX11_feast_0_ok (24, .ishl, 1) (List.mem_of_getElem? (i := 14) rfl)) (fun zv29 ze30 => ?_)
      have sp9 := shl_p (n := rp.toInt.toNat) (by omega) (by omega) (by omega) ze30
      refine w_icmp_lt (tgt := 30) (tX11_feast_0_ok (25, .if_icmp .lt 5, 3) (List.mem_of_getElem? (i := 15) rfl)) rfl (fun zb31 => ?_) (fun zb31 => ?_)
      · refine w_iconst (by decide) (tX11_feast_0_ok (30, .iconst (-1), 1) (List.mem_of_getElem? (i := 18) rfl)) (fun zv32 ze33 => ?_)
        refine w_istore_n [(2, .int zv32), (0, .ref m), (1, .int w)] rfl (Nat.le_of_ble_eq_true rfl) (tX11_feast_0_ok (31, .istore_n 2, 1) (List.mem_of_getElem? (i := 19) rfl)) ?_
        refine w_iconst (by decide) (tX11_feast_0_ok (32, .iconst 0, 1) (List.mem_of_getElem? (i := 20) rfl)) (fun zv34 ze35 => ?_)
        refine w_istore_n [(3, .int zv34), (2, .int zv32), (0, .ref m), (1, .int w)] rfl (Nat.le_of_ble_eq_true rfl) (tX11_feast_0_ok (33, .istore_n 3, 1) (List.mem_of_getElem? (i := 21) rfl)) ?_
        refine w_lv [(3, .int zv34), (2, .int zv32), (0, .ref m), (1, .int w)] (by intro q hq; simp only [List.mem_cons, List.not_mem_nil, or_false] at hq ⊢; rcases hq with e | e | e | e <;> subst e <;> simp) ?_
        refine r_fAW hT zf10 zf11 zf12 zf13 nd 12 _ _ gw gk (by omega) (by omega) zc4 zc14 zc15 zc16 (fun r hr => absurd hr (by omega)) (fun zg43 zk44 zgw45 zgk46 zq36 zq37 zq38 zq39 zqA zq40 => ?_)
        show ww l D tys A X fr lo mX11_feast Q 58 [(3, .int zk44), (2, .int zv32), (0, .ref m), (1, .int w)] [] zg43
        refine w_iconst (by decide) (tX11_feast_0_ok (58, .iconst 0, 1) (List.mem_of_getElem? (i := 35) rfl)) (fun zv47 ze48 => ?_)
        refine w_istore_n [(3, .int zv47), (2, .int zv32), (0, .ref m), (1, .int w)] rfl (Nat.le_of_ble_eq_true rfl) (tX11_feast_0_ok (59, .istore_n 3, 1) (List.mem_of_getElem? (i := 36) rfl)) ?_
        refine w_lv [(3, .int zv47), (2, .int zv32), (0, .ref m), (1, .int w)] (by intro q hq; simp only [List.mem_cons, List.not_mem_nil, or_false] at hq ⊢; rcases hq with e | e | e | e <;> subst e <;> simp) ?_
        refine r_fCW hT zf10 zf11 zf12 zf13 nd hn wf hρ hf hl 201 _ _ _ zgw45 zgk46 (by omega) (by omega) (Or.inl ⟨by omega, fun g9 hg => absurd hg (by omega)⟩) zq36 zq37 zq38 zq39 (fun zg56 zk57 zbe58 zgw59 zgk60 zq49 zq50 zq51 zq52 zq53 zq54 => ?_)
        show ww l D tys A X fr lo mX11_feast Q 126 [(3, .int zk57), (2, .int zbe58), (0, .ref m), (1, .int w)] [] zg56
        refine w_iconst (by decide) (tX11_feast_1_ok (126, .iconst 0, 1) (List.mem_of_getElem? (i := 10) rfl)) (fun zv61 ze62 => ?_)
        refine w_istore_n [(3, .int zv61), (2, .int zbe58), (0, .ref m), (1, .int w)] rfl (Nat.le_of_ble_eq_true rfl) (tX11_feast_1_ok (127, .istore_n 3, 1) (List.mem_of_getElem? (i := 11) rfl)) ?_
        refine w_lv [(3, .int zv61), (2, .int zbe58), (0, .ref m), (1, .int w)] (by intro q hq; simp only [List.mem_cons, List.not_mem_nil, or_false] at hq ⊢; rcases hq with e | e | e | e <;> subst e <;> simp) ?_
        refine r_fDW hT zf10 zf11 zf12 zf13 nd 12 _ _ zgw59 zgk60 (by omega) (by omega) zq50 zq51 zq52 zq53 (fun r hr => absurd hr (by omega)) (fun zg70 zk71 zgw72 zgk73 zq63 zq64 zq65 zq66 zqD zq67 => ?_)
        show ww l D tys A X fr lo mX11_feast Q 152 [(3, .int zk71), (2, .int zbe58), (0, .ref m), (1, .int w)] [] zg70
        refine w_iload_n (List.Mem.tail _ (List.Mem.head _)) (tX11_feast_1_ok (152, .iload_n 2, 1) (List.mem_of_getElem? (i := 25) rfl)) ?_
        refine w_iret rfl (tX11_feast_1_ok (153, .ireturn, 1) (List.mem_of_getElem? (i := 26) rfl)) ?_
        have ek : zgk60 = zgk46 := by
          have e1 := (zq54 kw n_kw_wa).trans zq39
          rw [zq53] at e1
          cases e1
          rfl
        exact hq _ _ _ zgw72 zq63 zf12 zq65 (fun r hr => by rw [zqD r hr, ek]; exact zqA r hr)
      · refine w_iconst (by decide) (tX11_feast_0_ok (28, .iconst (-1), 1) (List.mem_of_getElem? (i := 16) rfl)) (fun zv74 ze75 => ?_)
        refine w_iret rfl (tX11_feast_0_ok (29, .ireturn, 1) (List.mem_of_getElem? (i := 17) rfl)) ?_
        exact hq _ _ _ gw zc4 zf12 zc15 (fun _ _ => rfl)
end
