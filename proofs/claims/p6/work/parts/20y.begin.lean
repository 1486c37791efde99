/-! the reference's begin -/
section
variable {l : Launch} {D : va_G} {tys : List (ClassId × FieldType)} {A : Nat → Prop} {X : State → Prop} {fr lo : Nat} {M : ch_M} {Q : Option Value → ch_H → Prop} {pc : Nat} {lv : List (Nat × Value)} {st : List Value} {h h1 : ch_H} {cA : Nat → ClassId} {Sg : Nat → Option Nat} {Lb9 : Nat → k_I}
theorem w_zast {a n : Nat} {f : Nat → Int32} {i x : Int32} (hT : k_tys tys cA) (ha : h a = some (.inl (cA 1, n, .inl f))) (h0 : 0 ≤ i.toInt) (h1 : i.toInt < n) (hx : 0 ≤ x.toInt ∧ x.toInt ≤ 1) (hd : decode M.2.1 pc = .ok (.bastore, 1)) (kk : ∀ g : ch_H, g a = some (.inl (cA 1, n, .inl (upd f i.toInt.toNat x))) → (∀ q, q ≠ a → g q = h q) → ww l D tys A X fr lo M Q (pc + 1) lv st g) : ww l D tys A X fr lo M Q pc lv (.int x :: .int i :: .ref a :: st) h := by
  have e : i.toNatClampNeg = i.toInt.toNat := by have := kn_cl h0; omega
  have e2 : vp_nar .boolean x = x := by unfold vp_nar; rw [(kn_nz hx.1 hx.2).1]
  exact tt_zast ha (hT 1 (by omega)) (kn_in h0 h1) hd (kk _ (by rw [ch_up_s, e, e2]) (fun q hq => ch_up_n _ _ hq))
theorem k_H.fld {m L ci n k : Nat} {ts : List k_T} {fs fs1 : List Value} {t : k_T} {v : Value} (hH : k_H Sg cA Lb9 h) (hs : Sg m = some L) (hL : Lb9 L = (0, ci, n, ts)) (ht : ts[k]? = some t) (c : h m = some (.inr (ci, fs))) (c1 : h1 m = some (.inr (ci, fs1))) (l1 : fs1.length = n) (e : fs1[k]? = some v) (hv : k_v Sg v t) (f : ∀ j, j ≠ k → fs1[j]? = fs[j]?) (o : ∀ q, q ≠ m → h1 q = h q) : k_H Sg cA Lb9 h1 := by
  refine hH.one hs c1 ?_ o
  rw [hL]
  refine Or.inl ⟨rfl, fs1, rfl, l1, fun j t2 hj => ?_⟩
  obtain ⟨fs0, c0, -, ty⟩ := hH.obj hs hL
  rw [c] at c0
  cases c0
  by_cases q : j = k
  · subst q
    have hj2 : ts[j]? = some t2 := hj
    rw [ht] at hj2
    cases hj2
    exact ⟨v, e, hv⟩
  · rw [f j q]
    exact ty j t2 hj
theorem k_H.ast {a L ci n : Nat} {lo9 hi9 : Int} {f1 : Nat → Int32} (hH : k_H Sg cA Lb9 h) (hs : Sg a = some L) (hL : Lb9 L = (1, ci, n, [(0, lo9, hi9)])) (c1 : h1 a = some (.inl (cA ci, n, .inl f1))) (b : ∀ i, i < n → lo9 ≤ (f1 i).toInt ∧ (f1 i).toInt ≤ hi9) (o : ∀ q, q ≠ a → h1 q = h q) : k_H Sg cA Lb9 h1 := by
  refine hH.one hs c1 ?_ o
  rw [hL]
  exact Or.inr (Or.inl ⟨rfl, f1, rfl, b⟩)
theorem top_b (f : Nat → Int32) (n : Nat) : ∀ i, i < n → (-2147483648 : Int) ≤ (f i).toInt ∧ (f i).toInt ≤ 2147483647 := fun i _ => ⟨Int32.minValue_le_toInt _, Int32.toInt_le _⟩
theorem h_of2 (hT : k_tys tys cA) {m ro : Nat} {fs : List Value} {R : Nat → Int32} {p w : Int32} (hp : 0 ≤ p.toInt ∧ p.toInt ≤ 5) (hw : 0 ≤ w.toInt ∧ w.toInt ≤ 8) (c_m : h m = some (.inr (10, fs))) (fL19 : fs[19]? = some (.ref ro)) (c_ro : h ro = some (.inl (cA 0, 108, .inl R))) (hq : ∀ v : Int32, v.toInt = (R (9 * p.toInt.toNat + w.toInt.toNat)).toInt → Q (some (.int v)) h) : ww l D tys A X fr lo mX11_of Q 0 [(0, .ref m), (1, .int p), (2, .int w)] [] h := by
  refine w_aload_n (List.Mem.head _) (tX11_of_0_ok (0, .aload_n 0, 1) (List.mem_of_getElem? (i := 0) rfl)) ?_
  refine w_get (own := 16) rfl rfl (by decide) c_m fL19 (tX11_of_0_ok (1, .getfield 42, 3) (List.mem_of_getElem? (i := 1) rfl)) ?_
  refine w_bipush (by decide) (tX11_of_0_ok (4, .bipush 9, 2) (List.mem_of_getElem? (i := 2) rfl)) (fun v1 e2 => ?_)
  refine w_iload_n (List.Mem.tail _ (List.Mem.head _)) (tX11_of_0_ok (6, .iload_n 1, 1) (List.mem_of_getElem? (i := 3) rfl)) ?_
  refine w_imul (by assumption) (by omega) (by omega) (tX11_of_0_ok (7, .imul, 1) (List.mem_of_getElem? (i := 4) rfl)) (fun v3 e4 => ?_)
  refine w_iload_n (List.Mem.tail _ (List.Mem.tail _ (List.Mem.head _))) (tX11_of_0_ok (8, .iload_n 2, 1) (List.mem_of_getElem? (i := 5) rfl)) ?_
  refine w_iadd (by omega) (by omega) (tX11_of_0_ok (9, .iadd, 1) (List.mem_of_getElem? (i := 6) rfl)) (fun v5 e6 => ?_)
  refine w_iald hT c_ro (by omega) (by omega) (tX11_of_0_ok (10, .iaload, 1) (List.mem_of_getElem? (i := 7) rfl)) (fun v7 e8 => ?_)
  have i9 : v5.toInt.toNat = 9 * p.toInt.toNat + w.toInt.toNat := by omega
  rw [i9] at e8
  refine w_iret rfl (tX11_of_0_ok (11, .ireturn, 1) (List.mem_of_getElem? (i := 8) rfl)) ?_
  exact hq v7 (by omega)
theorem h_bg1 (hT : k_tys tys cA) {m ro to wa se be : Nat} {fs : List Value} {rp : Int32} {seed : Int64} (s_m : Sg m = some 50) (s_ro : Sg ro = some 55) (s_to : Sg to = some 56) (s_wa : Sg wa = some 60) (s_se : Sg se = some 61) (s_be : Sg be = some 65) (fl : fs.length = 47) (fL19 : fs[19]? = some (.ref ro)) (fL20 : fs[20]? = some (.int rp)) (fL22 : fs[22]? = some (.ref to)) (fL26 : fs[26]? = some (.ref wa)) (fL27 : fs[27]? = some (.ref se)) (fL31 : fs[31]? = some (.ref be)) (hrp : 0 ≤ rp.toInt ∧ rp.toInt ≤ 6) (hf : 1 ≤ fr) (hl : 30 ≤ lo) : ∀ (j : Nat) (k : Int32) (h : ch_H), 0 ≤ k.toInt → k.toInt + j = 39 → k_H Sg cA Lb h → h m = some (.inr (10, fs)) → (∀ (g : ch_H) (k1 : Int32), k_H Sg cA Lb g → g m = some (.inr (10, fs)) → k_U Sg [(50, 32), (50, 33), (50, 34), (50, 36), (50, 39), (56, 0), (60, 0), (61, 0), (65, 0)] h g → ww l D tys A X fr lo mX11_begin Q 21 [(3, .int k1), (0, .ref m), (1, .long seed)] [] g) → ww l D tys A X fr lo mX11_begin Q 2 [(3, .int k), (0, .ref m), (1, .long seed)] [] h := by
  intro j
  induction j using Nat.strongRecOn with
  | ind j ih =>
    intro k h hk hj hH c_m hq
    obtain ⟨R, c_ro, hR9⟩ := T_rope hH s_ro rfl
    obtain ⟨T, c_to, -⟩ := hH.arr s_to (L := 56) rfl
    obtain ⟨gw, c_wa, -⟩ := hH.arr s_wa (L := 60) rfl
    obtain ⟨gs, c_se, -⟩ := hH.arr s_se (L := 61) rfl
    obtain ⟨gb, c_be, hbe⟩ := hH.arr s_be (L := 65) rfl
    refine w_iload_n (List.Mem.head _) (tX11_begin_0_ok (2, .iload_n 3, 1) (List.mem_of_getElem? (i := 2) rfl)) ?_
    refine w_bipush (by decide) (tX11_begin_0_ok (3, .bipush 39, 2) (List.mem_of_getElem? (i := 3) rfl)) (fun zv1 ze2 => ?_)
    refine w_icmp_ge (tgt := 21) (tX11_begin_0_ok (5, .if_icmp .ge 16, 3) (List.mem_of_getElem? (i := 4) rfl)) rfl (fun zb3 => ?_) (fun zb3 => ?_)
    · exact hq _ _ hH c_m k_U.rf
    · refine w_aload_n (List.Mem.tail _ (List.Mem.head _)) (tX11_begin_0_ok (8, .aload_n 0, 1) (List.mem_of_getElem? (i := 5) rfl)) ?_
      refine w_get (own := 16) rfl rfl (by decide) c_m fL22 (tX11_begin_0_ok (9, .getfield 45, 3) (List.mem_of_getElem? (i := 6) rfl)) ?_
      refine w_iload_n (List.Mem.head _) (tX11_begin_0_ok (12, .iload_n 3, 1) (List.mem_of_getElem? (i := 7) rfl)) ?_
      refine w_iconst (by decide) (tX11_begin_0_ok (13, .iconst 0, 1) (List.mem_of_getElem? (i := 8) rfl)) (fun zv4 ze5 => ?_)
      refine w_iast hT c_to (by omega) (by omega) (tX11_begin_0_ok (14, .iastore, 1) (List.mem_of_getElem? (i := 9) rfl)) (fun zh6 zc7 zo8 => ?_)
      have zc9 := (zo8 m (k_sg_ne s_m s_to (by decide))).trans c_m
      have zc10 := (zo8 ro (k_sg_ne s_ro s_to (by decide))).trans c_ro
      have zc11 := (zo8 wa (k_sg_ne s_wa s_to (by decide))).trans c_wa
      have zc12 := (zo8 se (k_sg_ne s_se s_to (by decide))).trans c_se
      have zc13 := (zo8 be (k_sg_ne s_be s_to (by decide))).trans c_be
      have zH14 := hH.twn s_to Lb_56 c_to zc7 (fun q9 => by omega) (fun q8 q9 => by omega) zo8
      have zu15 : k_U Sg [(50, 32), (50, 33), (50, 34), (50, 36), (50, 39), (56, 0), (60, 0), (61, 0), (65, 0)] h zh6 := k_U.ast s_to (by decide) c_to zo8
      refine w_iinc (fun zv16 => [(3, .int zv16), (0, .ref m), (1, .long seed)]) (fun _ => rfl) (List.Mem.head _) (Nat.le_of_ble_eq_true rfl) (by decide) (by omega) (by omega) (tX11_begin_0_ok (15, .iinc 3 1, 3) (List.mem_of_getElem? (i := 10) rfl)) (fun zv16 ze17 => ?_)
      refine w_goto (tgt := 2) (tX11_begin_0_ok (18, .goto (-16), 3) (List.mem_of_getElem? (i := 11) rfl)) rfl ?_
      refine w_lv [(3, .int zv16), (0, .ref m), (1, .long seed)] (by intro q hq; simp only [List.mem_cons, List.not_mem_nil, or_false] at hq ⊢; rcases hq with e | e | e <;> subst e <;> simp) ?_
      exact ih (j - 1) (by omega) _ _ (by omega) (by omega) zH14 zc9 (fun g k1 q1 q2 q3 => hq g k1 q1 q2 ((zu15).tr q3))
theorem h_bg2 (hT : k_tys tys cA) {m ro to wa se be : Nat} {fs : List Value} {rp : Int32} {seed : Int64} (s_m : Sg m = some 50) (s_ro : Sg ro = some 55) (s_to : Sg to = some 56) (s_wa : Sg wa = some 60) (s_se : Sg se = some 61) (s_be : Sg be = some 65) (fl : fs.length = 47) (fL19 : fs[19]? = some (.ref ro)) (fL20 : fs[20]? = some (.int rp)) (fL22 : fs[22]? = some (.ref to)) (fL26 : fs[26]? = some (.ref wa)) (fL27 : fs[27]? = some (.ref se)) (fL31 : fs[31]? = some (.ref be)) (hrp : 0 ≤ rp.toInt ∧ rp.toInt ≤ 6) (hf : 1 ≤ fr) (hl : 30 ≤ lo) : ∀ (j : Nat) (k : Int32) (h : ch_H), 0 ≤ k.toInt → k.toInt + j = rp.toInt → k_H Sg cA Lb h → h m = some (.inr (10, fs)) → (∀ (g : ch_H) (k1 : Int32), k_H Sg cA Lb g → g m = some (.inr (10, fs)) → k_U Sg [(50, 32), (50, 33), (50, 34), (50, 36), (50, 39), (56, 0), (60, 0), (61, 0), (65, 0)] h g → ww l D tys A X fr lo mX11_begin Q 59 [(3, .int k1), (0, .ref m), (1, .long seed)] [] g) → ww l D tys A X fr lo mX11_begin Q 23 [(3, .int k), (0, .ref m), (1, .long seed)] [] h := by
  intro j
  induction j using Nat.strongRecOn with
  | ind j ih =>
    intro k h hk hj hH c_m hq
    obtain ⟨R, c_ro, hR9⟩ := T_rope hH s_ro rfl
    obtain ⟨T, c_to, -⟩ := hH.arr s_to (L := 56) rfl
    obtain ⟨gw, c_wa, -⟩ := hH.arr s_wa (L := 60) rfl
    obtain ⟨gs, c_se, -⟩ := hH.arr s_se (L := 61) rfl
    obtain ⟨gb, c_be, hbe⟩ := hH.arr s_be (L := 65) rfl
    refine w_iload_n (List.Mem.head _) (tX11_begin_0_ok (23, .iload_n 3, 1) (List.mem_of_getElem? (i := 14) rfl)) ?_
    refine w_aload_n (List.Mem.tail _ (List.Mem.head _)) (tX11_begin_0_ok (24, .aload_n 0, 1) (List.mem_of_getElem? (i := 15) rfl)) ?_
    refine w_get (own := 16) rfl rfl (by decide) c_m fL20 (tX11_begin_0_ok (25, .getfield 248, 3) (List.mem_of_getElem? (i := 16) rfl)) ?_
    refine w_icmp_ge (tgt := 59) (tX11_begin_0_ok (28, .if_icmp .ge 31, 3) (List.mem_of_getElem? (i := 17) rfl)) rfl (fun zb1 => ?_) (fun zb1 => ?_)
    · exact hq _ _ hH c_m k_U.rf
    · refine w_aload_n (List.Mem.tail _ (List.Mem.head _)) (tX11_begin_0_ok (31, .aload_n 0, 1) (List.mem_of_getElem? (i := 18) rfl)) ?_
      refine w_get (own := 16) rfl rfl (by decide) c_m fL22 (tX11_begin_0_ok (32, .getfield 45, 3) (List.mem_of_getElem? (i := 19) rfl)) ?_
      refine w_iload_n (List.Mem.head _) (tX11_begin_0_ok (35, .iload_n 3, 1) (List.mem_of_getElem? (i := 20) rfl)) ?_
      refine w_aload_n (List.Mem.tail _ (List.Mem.head _)) (tX11_begin_0_ok (36, .aload_n 0, 1) (List.mem_of_getElem? (i := 21) rfl)) ?_
      refine w_iload_n (List.Mem.head _) (tX11_begin_0_ok (37, .iload_n 3, 1) (List.mem_of_getElem? (i := 22) rfl)) ?_
      refine w_iconst (by decide) (tX11_begin_0_ok (38, .iconst 2, 1) (List.mem_of_getElem? (i := 23) rfl)) (fun zv2 ze3 => ?_)
      refine w_callV (own := 16) (mi := 219) [.int k, .int zv2] [.int k, .ref to] [(0, .ref m), (1, .int k), (2, .int zv2)] rfl (cllw_X11 (255, 0, 219) (List.mem_of_getElem? (i := 34) rfl)) rfl rfl c_m rfl (by omega) (w_lo (n := 22) rfl (by omega)) (Nat.le_of_ble_eq_true rfl) (Nat.le_of_ble_eq_true rfl) rfl (tX11_begin_0_ok (39, .invokevirtual 255, 3) (List.mem_of_getElem? (i := 24) rfl)) (h_of2 hT (by omega) (by omega) c_m fL19 c_ro (fun zv4 ze5 => ?_))
      have zi6 : 9 * k.toInt.toNat + zv2.toInt.toNat = 9 * k.toInt.toNat + 2 := by omega
      rw [zi6] at ze5
      have zr7 := (hR9 k.toInt.toNat (by omega)).2.1
      show ww l D tys A X fr lo mX11_begin Q 42 [(3, .int k), (0, .ref m), (1, .long seed)] [.int zv4, .int k, .ref to] h
      refine w_iast hT c_to (by omega) (by omega) (tX11_begin_0_ok (42, .iastore, 1) (List.mem_of_getElem? (i := 25) rfl)) (fun zh8 zc9 zo10 => ?_)
      have zc11 := (zo10 m (k_sg_ne s_m s_to (by decide))).trans c_m
      have zc12 := (zo10 ro (k_sg_ne s_ro s_to (by decide))).trans c_ro
      have zc13 := (zo10 wa (k_sg_ne s_wa s_to (by decide))).trans c_wa
      have zc14 := (zo10 se (k_sg_ne s_se s_to (by decide))).trans c_se
      have zc15 := (zo10 be (k_sg_ne s_be s_to (by decide))).trans c_be
      have zH16 := hH.twn s_to Lb_56 c_to zc9 (fun q9 => by omega) (fun q8 q9 => by omega) zo10
      have zu17 : k_U Sg [(50, 32), (50, 33), (50, 34), (50, 36), (50, 39), (56, 0), (60, 0), (61, 0), (65, 0)] h zh8 := k_U.ast s_to (by decide) c_to zo10
      refine w_aload_n (List.Mem.tail _ (List.Mem.head _)) (tX11_begin_0_ok (43, .aload_n 0, 1) (List.mem_of_getElem? (i := 26) rfl)) ?_
      refine w_get (own := 16) rfl rfl (by decide) zc11 fL22 (tX11_begin_0_ok (44, .getfield 45, 3) (List.mem_of_getElem? (i := 27) rfl)) ?_
      refine w_bipush (by decide) (tX11_begin_0_ok (47, .bipush 12, 2) (List.mem_of_getElem? (i := 28) rfl)) (fun zv18 ze19 => ?_)
      refine w_iload_n (List.Mem.head _) (tX11_begin_0_ok (49, .iload_n 3, 1) (List.mem_of_getElem? (i := 29) rfl)) ?_
      refine w_iadd (by omega) (by omega) (tX11_begin_0_ok (50, .iadd, 1) (List.mem_of_getElem? (i := 30) rfl)) (fun zv20 ze21 => ?_)
      refine w_iconst (by decide) (tX11_begin_0_ok (51, .iconst 1, 1) (List.mem_of_getElem? (i := 31) rfl)) (fun zv22 ze23 => ?_)
      refine w_iast hT zc9 (by omega) (by omega) (tX11_begin_0_ok (52, .iastore, 1) (List.mem_of_getElem? (i := 32) rfl)) (fun zh24 zc25 zo26 => ?_)
      have zc27 := (zo26 m (k_sg_ne s_m s_to (by decide))).trans zc11
      have zc28 := (zo26 ro (k_sg_ne s_ro s_to (by decide))).trans zc12
      have zc29 := (zo26 wa (k_sg_ne s_wa s_to (by decide))).trans zc13
      have zc30 := (zo26 se (k_sg_ne s_se s_to (by decide))).trans zc14
      have zc31 := (zo26 be (k_sg_ne s_be s_to (by decide))).trans zc15
      have zH32 := zH16.twn s_to Lb_56 zc9 zc25 (fun q9 => by omega) (fun q8 q9 => by omega) zo26
      have zu33 : k_U Sg [(50, 32), (50, 33), (50, 34), (50, 36), (50, 39), (56, 0), (60, 0), (61, 0), (65, 0)] zh8 zh24 := k_U.ast s_to (by decide) zc9 zo26
      refine w_iinc (fun zv34 => [(3, .int zv34), (0, .ref m), (1, .long seed)]) (fun _ => rfl) (List.Mem.head _) (Nat.le_of_ble_eq_true rfl) (by decide) (by omega) (by omega) (tX11_begin_0_ok (53, .iinc 3 1, 3) (List.mem_of_getElem? (i := 33) rfl)) (fun zv34 ze35 => ?_)
      refine w_goto (tgt := 23) (tX11_begin_0_ok (56, .goto (-33), 3) (List.mem_of_getElem? (i := 34) rfl)) rfl ?_
      refine w_lv [(3, .int zv34), (0, .ref m), (1, .long seed)] (by intro q hq; simp only [List.mem_cons, List.not_mem_nil, or_false] at hq ⊢; rcases hq with e | e | e <;> subst e <;> simp) ?_
      exact ih (j - 1) (by omega) _ _ (by omega) (by omega) zH32 zc27 (fun g k1 q1 q2 q3 => hq g k1 q1 q2 (((zu17).tr zu33).tr q3))
theorem h_bg3 (hT : k_tys tys cA) {m ro to wa se be : Nat} {fs : List Value} {rp : Int32} {seed : Int64} (s_m : Sg m = some 50) (s_ro : Sg ro = some 55) (s_to : Sg to = some 56) (s_wa : Sg wa = some 60) (s_se : Sg se = some 61) (s_be : Sg be = some 65) (fl : fs.length = 47) (fL19 : fs[19]? = some (.ref ro)) (fL20 : fs[20]? = some (.int rp)) (fL22 : fs[22]? = some (.ref to)) (fL26 : fs[26]? = some (.ref wa)) (fL27 : fs[27]? = some (.ref se)) (fL31 : fs[31]? = some (.ref be)) (hrp : 0 ≤ rp.toInt ∧ rp.toInt ≤ 6) (hf : 1 ≤ fr) (hl : 30 ≤ lo) : ∀ (j : Nat) (k : Int32) (h : ch_H), 0 ≤ k.toInt → k.toInt + j = 324 → k_H Sg cA Lb h → h m = some (.inr (10, fs)) → (∀ (g : ch_H) (k1 : Int32), k_H Sg cA Lb g → g m = some (.inr (10, fs)) → k_U Sg [(50, 32), (50, 33), (50, 34), (50, 36), (50, 39), (56, 0), (60, 0), (61, 0), (65, 0)] h g → ww l D tys A X fr lo mX11_begin Q 81 [(3, .int k1), (0, .ref m), (1, .long seed)] [] g) → ww l D tys A X fr lo mX11_begin Q 61 [(3, .int k), (0, .ref m), (1, .long seed)] [] h := by
  intro j
  induction j using Nat.strongRecOn with
  | ind j ih =>
    intro k h hk hj hH c_m hq
    obtain ⟨R, c_ro, hR9⟩ := T_rope hH s_ro rfl
    obtain ⟨T, c_to, -⟩ := hH.arr s_to (L := 56) rfl
    obtain ⟨gw, c_wa, -⟩ := hH.arr s_wa (L := 60) rfl
    obtain ⟨gs, c_se, -⟩ := hH.arr s_se (L := 61) rfl
    obtain ⟨gb, c_be, hbe⟩ := hH.arr s_be (L := 65) rfl
    refine w_iload_n (List.Mem.head _) (tX11_begin_0_ok (61, .iload_n 3, 1) (List.mem_of_getElem? (i := 37) rfl)) ?_
    refine w_sipush (by decide) (tX11_begin_0_ok (62, .sipush 324, 3) (List.mem_of_getElem? (i := 38) rfl)) (fun zv1 ze2 => ?_)
    refine w_icmp_ge (tgt := 81) (tX11_begin_0_ok (65, .if_icmp .ge 16, 3) (List.mem_of_getElem? (i := 39) rfl)) rfl (fun zb3 => ?_) (fun zb3 => ?_)
    · exact hq _ _ hH c_m k_U.rf
    · refine w_aload_n (List.Mem.tail _ (List.Mem.head _)) (tX11_begin_0_ok (68, .aload_n 0, 1) (List.mem_of_getElem? (i := 40) rfl)) ?_
      refine w_get (own := 16) rfl rfl (by decide) c_m fL31 (tX11_begin_0_ok (69, .getfield 72, 3) (List.mem_of_getElem? (i := 41) rfl)) ?_
      refine w_iload_n (List.Mem.head _) (tX11_begin_0_ok (72, .iload_n 3, 1) (List.mem_of_getElem? (i := 42) rfl)) ?_
      refine w_iconst (by decide) (tX11_begin_0_ok (73, .iconst 0, 1) (List.mem_of_getElem? (i := 43) rfl)) (fun zv4 ze5 => ?_)
      refine w_zast hT c_be (by omega) (by omega) (by omega) (tX11_begin_0_ok (74, .bastore, 1) (List.mem_of_getElem? (i := 44) rfl)) (fun zh6 zc7 zo8 => ?_)
      have zc9 := (zo8 m (k_sg_ne s_m s_be (by decide))).trans c_m
      have zc10 := (zo8 ro (k_sg_ne s_ro s_be (by decide))).trans c_ro
      have zc11 := (zo8 to (k_sg_ne s_to s_be (by decide))).trans c_to
      have zc12 := (zo8 wa (k_sg_ne s_wa s_be (by decide))).trans c_wa
      have zc13 := (zo8 se (k_sg_ne s_se s_be (by decide))).trans c_se
      have zbd16 := upd_bd (lo := 0) (hi := 1) (j := k.toInt.toNat) hbe (show (0 : Int) ≤ zv4.toInt ∧ zv4.toInt ≤ 1 by omega)
      have zH14 := hH.ast s_be rfl zc7 zbd16 zo8
      have zu15 : k_U Sg [(50, 32), (50, 33), (50, 34), (50, 36), (50, 39), (56, 0), (60, 0), (61, 0), (65, 0)] h zh6 := k_U.ast s_be (by decide) c_be zo8
      refine w_iinc (fun zv17 => [(3, .int zv17), (0, .ref m), (1, .long seed)]) (fun _ => rfl) (List.Mem.head _) (Nat.le_of_ble_eq_true rfl) (by decide) (by omega) (by omega) (tX11_begin_0_ok (75, .iinc 3 1, 3) (List.mem_of_getElem? (i := 45) rfl)) (fun zv17 ze18 => ?_)
      refine w_goto (tgt := 61) (tX11_begin_0_ok (78, .goto (-17), 3) (List.mem_of_getElem? (i := 46) rfl)) rfl ?_
      refine w_lv [(3, .int zv17), (0, .ref m), (1, .long seed)] (by intro q hq; simp only [List.mem_cons, List.not_mem_nil, or_false] at hq ⊢; rcases hq with e | e | e <;> subst e <;> simp) ?_
      exact ih (j - 1) (by omega) _ _ (by omega) (by omega) zH14 zc9 (fun g k1 q1 q2 q3 => hq g k1 q1 q2 ((zu15).tr q3))
theorem h_bg4 (hT : k_tys tys cA) {m ro to wa se be : Nat} {fs : List Value} {rp : Int32} {seed : Int64} (s_m : Sg m = some 50) (s_ro : Sg ro = some 55) (s_to : Sg to = some 56) (s_wa : Sg wa = some 60) (s_se : Sg se = some 61) (s_be : Sg be = some 65) (fl : fs.length = 47) (fL19 : fs[19]? = some (.ref ro)) (fL20 : fs[20]? = some (.int rp)) (fL22 : fs[22]? = some (.ref to)) (fL26 : fs[26]? = some (.ref wa)) (fL27 : fs[27]? = some (.ref se)) (fL31 : fs[31]? = some (.ref be)) (hrp : 0 ≤ rp.toInt ∧ rp.toInt ≤ 6) (hf : 1 ≤ fr) (hl : 30 ≤ lo) : ∀ (j : Nat) (k : Int32) (h : ch_H), 0 ≤ k.toInt → k.toInt + j = 12 → k_H Sg cA Lb h → h m = some (.inr (10, fs)) → (∀ (g : ch_H) (k1 : Int32), k_H Sg cA Lb g → g m = some (.inr (10, fs)) → k_U Sg [(50, 32), (50, 33), (50, 34), (50, 36), (50, 39), (56, 0), (60, 0), (61, 0), (65, 0)] h g → ww l D tys A X fr lo mX11_begin Q 109 [(3, .int k1), (0, .ref m), (1, .long seed)] [] g) → ww l D tys A X fr lo mX11_begin Q 83 [(3, .int k), (0, .ref m), (1, .long seed)] [] h := by
  intro j
  induction j using Nat.strongRecOn with
  | ind j ih =>
    intro k h hk hj hH c_m hq
    obtain ⟨R, c_ro, hR9⟩ := T_rope hH s_ro rfl
    obtain ⟨T, c_to, -⟩ := hH.arr s_to (L := 56) rfl
    obtain ⟨gw, c_wa, -⟩ := hH.arr s_wa (L := 60) rfl
    obtain ⟨gs, c_se, -⟩ := hH.arr s_se (L := 61) rfl
    obtain ⟨gb, c_be, hbe⟩ := hH.arr s_be (L := 65) rfl
    refine w_iload_n (List.Mem.head _) (tX11_begin_0_ok (83, .iload_n 3, 1) (List.mem_of_getElem? (i := 49) rfl)) ?_
    refine w_bipush (by decide) (tX11_begin_0_ok (84, .bipush 12, 2) (List.mem_of_getElem? (i := 50) rfl)) (fun zv1 ze2 => ?_)
    refine w_icmp_ge (tgt := 109) (tX11_begin_0_ok (86, .if_icmp .ge 23, 3) (List.mem_of_getElem? (i := 51) rfl)) rfl (fun zb3 => ?_) (fun zb3 => ?_)
    · exact hq _ _ hH c_m k_U.rf
    · refine w_aload_n (List.Mem.tail _ (List.Mem.head _)) (tX11_begin_0_ok (89, .aload_n 0, 1) (List.mem_of_getElem? (i := 52) rfl)) ?_
      refine w_get (own := 16) rfl rfl (by decide) c_m fL26 (tX11_begin_0_ok (90, .getfield 57, 3) (List.mem_of_getElem? (i := 53) rfl)) ?_
      refine w_iload_n (List.Mem.head _) (tX11_begin_0_ok (93, .iload_n 3, 1) (List.mem_of_getElem? (i := 54) rfl)) ?_
      refine w_iconst (by decide) (tX11_begin_0_ok (94, .iconst (-1), 1) (List.mem_of_getElem? (i := 55) rfl)) (fun zv4 ze5 => ?_)
      refine w_iast hT c_wa (by omega) (by omega) (tX11_begin_0_ok (95, .iastore, 1) (List.mem_of_getElem? (i := 56) rfl)) (fun zh6 zc7 zo8 => ?_)
      have zc9 := (zo8 m (k_sg_ne s_m s_wa (by decide))).trans c_m
      have zc10 := (zo8 ro (k_sg_ne s_ro s_wa (by decide))).trans c_ro
      have zc11 := (zo8 to (k_sg_ne s_to s_wa (by decide))).trans c_to
      have zc12 := (zo8 se (k_sg_ne s_se s_wa (by decide))).trans c_se
      have zc13 := (zo8 be (k_sg_ne s_be s_wa (by decide))).trans c_be
      have zH14 := hH.ast s_wa rfl zc7 (top_b _ _) zo8
      have zu15 : k_U Sg [(50, 32), (50, 33), (50, 34), (50, 36), (50, 39), (56, 0), (60, 0), (61, 0), (65, 0)] h zh6 := k_U.ast s_wa (by decide) c_wa zo8
      refine w_aload_n (List.Mem.tail _ (List.Mem.head _)) (tX11_begin_0_ok (96, .aload_n 0, 1) (List.mem_of_getElem? (i := 57) rfl)) ?_
      refine w_get (own := 16) rfl rfl (by decide) zc9 fL27 (tX11_begin_0_ok (97, .getfield 60, 3) (List.mem_of_getElem? (i := 58) rfl)) ?_
      refine w_iload_n (List.Mem.head _) (tX11_begin_0_ok (100, .iload_n 3, 1) (List.mem_of_getElem? (i := 59) rfl)) ?_
      refine w_iconst (by decide) (tX11_begin_1_ok (101, .iconst (-1), 1) (List.mem_of_getElem? (i := 0) rfl)) (fun zv16 ze17 => ?_)
      refine w_iast hT zc12 (by omega) (by omega) (tX11_begin_1_ok (102, .iastore, 1) (List.mem_of_getElem? (i := 1) rfl)) (fun zh18 zc19 zo20 => ?_)
      have zc21 := (zo20 m (k_sg_ne s_m s_se (by decide))).trans zc9
      have zc22 := (zo20 ro (k_sg_ne s_ro s_se (by decide))).trans zc10
      have zc23 := (zo20 to (k_sg_ne s_to s_se (by decide))).trans zc11
      have zc24 := (zo20 wa (k_sg_ne s_wa s_se (by decide))).trans zc7
      have zc25 := (zo20 be (k_sg_ne s_be s_se (by decide))).trans zc13
      have zH26 := zH14.ast s_se rfl zc19 (top_b _ _) zo20
      have zu27 : k_U Sg [(50, 32), (50, 33), (50, 34), (50, 36), (50, 39), (56, 0), (60, 0), (61, 0), (65, 0)] zh6 zh18 := k_U.ast s_se (by decide) zc12 zo20
      refine w_iinc (fun zv28 => [(3, .int zv28), (0, .ref m), (1, .long seed)]) (fun _ => rfl) (List.Mem.head _) (Nat.le_of_ble_eq_true rfl) (by decide) (by omega) (by omega) (tX11_begin_1_ok (103, .iinc 3 1, 3) (List.mem_of_getElem? (i := 2) rfl)) (fun zv28 ze29 => ?_)
      refine w_goto (tgt := 83) (tX11_begin_1_ok (106, .goto (-23), 3) (List.mem_of_getElem? (i := 3) rfl)) rfl ?_
      refine w_lv [(3, .int zv28), (0, .ref m), (1, .long seed)] (by intro q hq; simp only [List.mem_cons, List.not_mem_nil, or_false] at hq ⊢; rcases hq with e | e | e <;> subst e <;> simp) ?_
      exact ih (j - 1) (by omega) _ _ (by omega) (by omega) zH26 zc21 (fun g k1 q1 q2 q3 => hq g k1 q1 q2 (((zu15).tr zu27).tr q3))
theorem h_begin (hT : k_tys tys cA) {m ro to wa se be : Nat} {fs : List Value} {rp : Int32} {seed : Int64} (s_m : Sg m = some 50) (s_ro : Sg ro = some 55) (s_to : Sg to = some 56) (s_wa : Sg wa = some 60) (s_se : Sg se = some 61) (s_be : Sg be = some 65) (fl : fs.length = 47) (fL19 : fs[19]? = some (.ref ro)) (fL20 : fs[20]? = some (.int rp)) (fL22 : fs[22]? = some (.ref to)) (fL26 : fs[26]? = some (.ref wa)) (fL27 : fs[27]? = some (.ref se)) (fL31 : fs[31]? = some (.ref be)) (hrp : 0 ≤ rp.toInt ∧ rp.toInt ≤ 6) (hf : 1 ≤ fr) (hl : 30 ≤ lo) (hH : k_H Sg cA Lb h) (c_m : h m = some (.inr (10, fs))) (hq : ∀ g : ch_H, k_H Sg cA Lb g → k_U Sg [(50, 32), (50, 33), (50, 34), (50, 36), (50, 39), (56, 0), (60, 0), (61, 0), (65, 0)] h g → Q none g) : ww l D tys A X fr lo mX11_begin Q 0 [(0, .ref m), (1, .long seed)] [] h := by
  refine w_iconst (by decide) (tX11_begin_0_ok (0, .iconst 0, 1) (List.mem_of_getElem? (i := 0) rfl)) (fun zv1 ze2 => ?_)
  refine w_istore_n [(3, .int zv1), (0, .ref m), (1, .long seed)] rfl (Nat.le_of_ble_eq_true rfl) (tX11_begin_0_ok (1, .istore_n 3, 1) (List.mem_of_getElem? (i := 1) rfl)) ?_
  refine w_lv [(3, .int zv1), (0, .ref m), (1, .long seed)] (by intro q hq; simp only [List.mem_cons, List.not_mem_nil, or_false] at hq ⊢; rcases hq with e | e | e <;> subst e <;> simp) ?_
  refine h_bg1 hT s_m s_ro s_to s_wa s_se s_be fl fL19 fL20 fL22 fL26 fL27 fL31 hrp hf hl 39 _ _ (by omega) (by omega) hH c_m (fun zg3 zka4 zq5 zq6 zq7 => ?_)
  show ww l D tys A X fr lo mX11_begin Q 21 [(3, .int zka4), (0, .ref m), (1, .long seed)] [] zg3
  refine w_iconst (by decide) (tX11_begin_0_ok (21, .iconst 0, 1) (List.mem_of_getElem? (i := 12) rfl)) (fun zv8 ze9 => ?_)
  refine w_istore_n [(3, .int zv8), (0, .ref m), (1, .long seed)] rfl (Nat.le_of_ble_eq_true rfl) (tX11_begin_0_ok (22, .istore_n 3, 1) (List.mem_of_getElem? (i := 13) rfl)) ?_
  refine w_lv [(3, .int zv8), (0, .ref m), (1, .long seed)] (by intro q hq; simp only [List.mem_cons, List.not_mem_nil, or_false] at hq ⊢; rcases hq with e | e | e <;> subst e <;> simp) ?_
  refine h_bg2 hT s_m s_ro s_to s_wa s_se s_be fl fL19 fL20 fL22 fL26 fL27 fL31 hrp hf hl rp.toInt.toNat _ _ (by omega) (by omega) zq5 zq6 (fun zg10 zka11 zq12 zq13 zq14 => ?_)
  show ww l D tys A X fr lo mX11_begin Q 59 [(3, .int zka11), (0, .ref m), (1, .long seed)] [] zg10
  refine w_iconst (by decide) (tX11_begin_0_ok (59, .iconst 0, 1) (List.mem_of_getElem? (i := 35) rfl)) (fun zv15 ze16 => ?_)
  refine w_istore_n [(3, .int zv15), (0, .ref m), (1, .long seed)] rfl (Nat.le_of_ble_eq_true rfl) (tX11_begin_0_ok (60, .istore_n 3, 1) (List.mem_of_getElem? (i := 36) rfl)) ?_
  refine w_lv [(3, .int zv15), (0, .ref m), (1, .long seed)] (by intro q hq; simp only [List.mem_cons, List.not_mem_nil, or_false] at hq ⊢; rcases hq with e | e | e <;> subst e <;> simp) ?_
  refine h_bg3 hT s_m s_ro s_to s_wa s_se s_be fl fL19 fL20 fL22 fL26 fL27 fL31 hrp hf hl 324 _ _ (by omega) (by omega) zq12 zq13 (fun zg17 zka18 zq19 zq20 zq21 => ?_)
  show ww l D tys A X fr lo mX11_begin Q 81 [(3, .int zka18), (0, .ref m), (1, .long seed)] [] zg17
  refine w_iconst (by decide) (tX11_begin_0_ok (81, .iconst 0, 1) (List.mem_of_getElem? (i := 47) rfl)) (fun zv22 ze23 => ?_)
  refine w_istore_n [(3, .int zv22), (0, .ref m), (1, .long seed)] rfl (Nat.le_of_ble_eq_true rfl) (tX11_begin_0_ok (82, .istore_n 3, 1) (List.mem_of_getElem? (i := 48) rfl)) ?_
  refine w_lv [(3, .int zv22), (0, .ref m), (1, .long seed)] (by intro q hq; simp only [List.mem_cons, List.not_mem_nil, or_false] at hq ⊢; rcases hq with e | e | e <;> subst e <;> simp) ?_
  refine h_bg4 hT s_m s_ro s_to s_wa s_se s_be fl fL19 fL20 fL22 fL26 fL27 fL31 hrp hf hl 12 _ _ (by omega) (by omega) zq19 zq20 (fun zg24 zka25 zq26 zq27 zq28 => ?_)
  show ww l D tys A X fr lo mX11_begin Q 109 [(3, .int zka25), (0, .ref m), (1, .long seed)] [] zg24
  refine w_aload_n (List.Mem.tail _ (List.Mem.head _)) (tX11_begin_1_ok (109, .aload_n 0, 1) (List.mem_of_getElem? (i := 4) rfl)) ?_
  refine w_iconst (by decide) (tX11_begin_1_ok (110, .iconst 0, 1) (List.mem_of_getElem? (i := 5) rfl)) (fun zv29 ze30 => ?_)
  refine w_putF (own := 16) (ci := 10) (k := 32) rfl rfl (by decide) rfl ⟨rfl, rfl⟩ zq27 (by rw [fl]; decide) (tX11_begin_1_ok (111, .putfield 258, 3) (List.mem_of_getElem? (i := 6) rfl)) (fun zh31 zfs34 zl35 zk36 zj37 zc32 zo33 => ?_)
  rw [fl] at zl35
  have zf38 := (zj37 19 (by decide)).trans fL19
  have zf39 := (zj37 20 (by decide)).trans fL20
  have zf40 := (zj37 22 (by decide)).trans fL22
  have zf41 := (zj37 26 (by decide)).trans fL26
  have zf42 := (zj37 27 (by decide)).trans fL27
  have zf43 := (zj37 31 (by decide)).trans fL31
  have zH44 := zq26.fld (k := 32) s_m rfl rfl zq27 zc32 zl35 zk36 ⟨_, rfl, by show (0 : Int) ≤ _; omega, by show _ ≤ (6 : Int); omega⟩ zj37 zo33
  have zu45 : k_U Sg [(50, 32), (50, 33), (50, 34), (50, 36), (50, 39), (56, 0), (60, 0), (61, 0), (65, 0)] zg24 zh31 := k_U.put s_m (k := 32) (by decide) zq27 zc32 zj37 zo33
  refine w_aload_n (List.Mem.tail _ (List.Mem.head _)) (tX11_begin_1_ok (114, .aload_n 0, 1) (List.mem_of_getElem? (i := 7) rfl)) ?_
  refine w_iconst (by decide) (tX11_begin_1_ok (115, .iconst 0, 1) (List.mem_of_getElem? (i := 8) rfl)) (fun zv46 ze47 => ?_)
  refine w_putF (own := 16) (ci := 10) (k := 33) rfl rfl (by decide) rfl ⟨rfl, rfl⟩ zc32 (by rw [zl35]; decide) (tX11_begin_1_ok (116, .putfield 261, 3) (List.mem_of_getElem? (i := 9) rfl)) (fun zh48 zfs51 zl52 zk53 zj54 zc49 zo50 => ?_)
  rw [zl35] at zl52
  have zf55 := (zj54 32 (by decide)).trans zk36
  have zf56 := (zj54 19 (by decide)).trans zf38
  have zf57 := (zj54 20 (by decide)).trans zf39
  have zf58 := (zj54 22 (by decide)).trans zf40
  have zf59 := (zj54 26 (by decide)).trans zf41
  have zf60 := (zj54 27 (by decide)).trans zf42
  have zf61 := (zj54 31 (by decide)).trans zf43
  have zH62 := zH44.fld (k := 33) s_m rfl rfl zc32 zc49 zl52 zk53 ⟨_, rfl, by show (0 : Int) ≤ _; omega, by show _ ≤ (8 : Int); omega⟩ zj54 zo50
  have zu63 : k_U Sg [(50, 32), (50, 33), (50, 34), (50, 36), (50, 39), (56, 0), (60, 0), (61, 0), (65, 0)] zh31 zh48 := k_U.put s_m (k := 33) (by decide) zc32 zc49 zj54 zo50
  refine w_aload_n (List.Mem.tail _ (List.Mem.head _)) (tX11_begin_1_ok (119, .aload_n 0, 1) (List.mem_of_getElem? (i := 10) rfl)) ?_
  refine w_iconst (by decide) (tX11_begin_1_ok (120, .iconst 0, 1) (List.mem_of_getElem? (i := 11) rfl)) (fun zv64 ze65 => ?_)
  refine w_putF (own := 16) (ci := 10) (k := 34) rfl rfl (by decide) rfl ⟨rfl, rfl⟩ zc49 (by rw [zl52]; decide) (tX11_begin_1_ok (121, .putfield 264, 3) (List.mem_of_getElem? (i := 12) rfl)) (fun zh66 zfs69 zl70 zk71 zj72 zc67 zo68 => ?_)
  rw [zl52] at zl70
  have zf73 := (zj72 33 (by decide)).trans zk53
  have zf74 := (zj72 32 (by decide)).trans zf55
  have zf75 := (zj72 19 (by decide)).trans zf56
  have zf76 := (zj72 20 (by decide)).trans zf57
  have zf77 := (zj72 22 (by decide)).trans zf58
  have zf78 := (zj72 26 (by decide)).trans zf59
  have zf79 := (zj72 27 (by decide)).trans zf60
  have zf80 := (zj72 31 (by decide)).trans zf61
  have zH81 := zH62.fld (k := 34) s_m rfl rfl zc49 zc67 zl70 zk71 ⟨_, rfl, by show (0 : Int) ≤ _; omega, by show _ ≤ (6 : Int); omega⟩ zj72 zo68
  have zu82 : k_U Sg [(50, 32), (50, 33), (50, 34), (50, 36), (50, 39), (56, 0), (60, 0), (61, 0), (65, 0)] zh48 zh66 := k_U.put s_m (k := 34) (by decide) zc49 zc67 zj72 zo68
  refine w_aload_n (List.Mem.tail _ (List.Mem.head _)) (tX11_begin_1_ok (124, .aload_n 0, 1) (List.mem_of_getElem? (i := 13) rfl)) ?_
  refine w_iconst (by decide) (tX11_begin_1_ok (125, .iconst 0, 1) (List.mem_of_getElem? (i := 14) rfl)) (fun zv83 ze84 => ?_)
  refine w_putF (own := 16) (ci := 10) (k := 39) rfl rfl (by decide) rfl ⟨(kn_nz (by omega) (by omega)).1, (kn_nz (by omega) (by omega)).2.1⟩ zc67 (by rw [zl70]; decide) (tX11_begin_1_ok (126, .putfield 267, 3) (List.mem_of_getElem? (i := 15) rfl)) (fun zh85 zfs88 zl89 zk90 zj91 zc86 zo87 => ?_)
  rw [zl70] at zl89
  have zf92 := (zj91 34 (by decide)).trans zk71
  have zf93 := (zj91 33 (by decide)).trans zf73
  have zf94 := (zj91 32 (by decide)).trans zf74
  have zf95 := (zj91 19 (by decide)).trans zf75
  have zf96 := (zj91 20 (by decide)).trans zf76
  have zf97 := (zj91 22 (by decide)).trans zf77
  have zf98 := (zj91 26 (by decide)).trans zf78
  have zf99 := (zj91 27 (by decide)).trans zf79
  have zf100 := (zj91 31 (by decide)).trans zf80
  have zH101 := zH81.fld (k := 39) s_m rfl rfl zc67 zc86 zl89 zk90 ⟨_, rfl, by show (0 : Int) ≤ _; omega, by show _ ≤ (1 : Int); omega⟩ zj91 zo87
  have zu102 : k_U Sg [(50, 32), (50, 33), (50, 34), (50, 36), (50, 39), (56, 0), (60, 0), (61, 0), (65, 0)] zh66 zh85 := k_U.put s_m (k := 39) (by decide) zc67 zc86 zj91 zo87
  refine w_aload_n (List.Mem.tail _ (List.Mem.head _)) (tX11_begin_1_ok (129, .aload_n 0, 1) (List.mem_of_getElem? (i := 16) rfl)) ?_
  refine w_lload_n (List.Mem.tail _ (List.Mem.tail _ (List.Mem.head _))) (tX11_begin_1_ok (130, .lload_n 1, 1) (List.mem_of_getElem? (i := 17) rfl)) ?_
  refine w_putF (own := 16) (ci := 10) (k := 36) rfl rfl (by decide) rfl ⟨rfl, rfl⟩ zc86 (by rw [zl89]; decide) (tX11_begin_1_ok (131, .putfield 270, 3) (List.mem_of_getElem? (i := 18) rfl)) (fun zh103 zfs106 zl107 zk108 zj109 zc104 zo105 => ?_)
  rw [zl89] at zl107
  have zf110 := (zj109 39 (by decide)).trans zk90
  have zf111 := (zj109 34 (by decide)).trans zf92
  have zf112 := (zj109 33 (by decide)).trans zf93
  have zf113 := (zj109 32 (by decide)).trans zf94
  have zf114 := (zj109 19 (by decide)).trans zf95
  have zf115 := (zj109 20 (by decide)).trans zf96
  have zf116 := (zj109 22 (by decide)).trans zf97
  have zf117 := (zj109 26 (by decide)).trans zf98
  have zf118 := (zj109 27 (by decide)).trans zf99
  have zf119 := (zj109 31 (by decide)).trans zf100
  have zH120 := zH101.fld (k := 36) s_m rfl rfl zc86 zc104 zl107 zk108 ⟨_, rfl⟩ zj109 zo105
  have zu121 : k_U Sg [(50, 32), (50, 33), (50, 34), (50, 36), (50, 39), (56, 0), (60, 0), (61, 0), (65, 0)] zh85 zh103 := k_U.put s_m (k := 36) (by decide) zc86 zc104 zj109 zo105
  refine w_vret rfl (tX11_begin_1_ok (134, .return_, 1) (List.mem_of_getElem? (i := 19) rfl)) ?_
  exact hq _ zH120 (((((((((zq7).tr zq14).tr zq21).tr zq28).tr zu45).tr zu63).tr zu82).tr zu102).tr zu121)
end
