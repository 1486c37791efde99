/-! contracts by hand: rows -/
section
variable {l : Launch} {D : va_G} {tys : List (ClassId × FieldType)} {A : Nat → Prop} {X : State → Prop} {fr lo : Nat} {M : ch_M} {Q : Option Value → ch_H → Prop} {pc : Nat} {lv : List (Nat × Value)} {st : List Value} {h h1 : ch_H} {cA : Nat → ClassId} {Sg : Nat → Option Nat} {Lb9 : Nat → k_I} {W : List (Nat × Nat)}
/-- a call by its contract -/
theorem w_callKS {own ix mi cf cl : Nat} {M' : ch_M} {t' : List (Nat × Instr × Nat)} {o' : Nat} {ts : List k_T} {ret : Option k_T} (As rest : List Value) (hR : pg_R own = M.1.cls) (hc : pg_call own (ix, 1, mi)) (he : pg[mi]? = some (M', t', o')) (hn : pg_na.getD mi 0 = As.length) (hpm : k_pM mi = M') (hs : k_sat l D tys A X Sg cA Lb9 (mi, ts, [], ret, W, cf, cl)) (hH : k_H Sg cA Lb9 h) (hl1 : As.length = ts.length) (hv : ∀ (i : Nat) (t : k_T), ts[i]? = some t → ∃ v, As[i]? = some v ∧ k_v Sg v t) (hf : cf + 1 ≤ fr) (hl : 8 + (M'.2.2.1 + 11) + cl ≤ lo) (hst : (rest.map fun v => v.category).sum ≤ 8) (hlen : (lg_sl As).length ≤ M'.2.2.1) (hd : decode M.2.1 pc = .ok (.invokestatic ix, 3)) (kk : ∀ r g, k_H Sg cA Lb9 g → k_U Sg W h g → k_rt Sg ret r → ww l D tys A X fr lo M Q (pc + 3) lv (r.toList ++ rest) g) : ww l D tys A X fr lo M Q pc lv (As.reverse ++ rest) h := by
  obtain ⟨e, e1, e2, e3, e4⟩ := hc
  rw [he] at e1
  cases e1
  rw [hR] at e2
  have h9 := hs h As hH hl1 hv (fun q hq => absurd hq List.not_mem_nil)
  rw [hpm] at h9
  exact tt_callS (fr' := cf) (lo' := cl) (mc' := 0) (ms' := 0) hd e4 e2 e3 hn.symm ⟨hf, hl⟩ ⟨Nat.le_refl _, Nat.le_refl _⟩ hst hlen h9 (fun r g H => kk r g H.1 H.2.1 H.2.2)
theorem w_callKV {own ix mi cf cl b ci : Nat} {fs : List Value} {M' : ch_M} {t' : List (Nat × Instr × Nat)} {o' : Nat} {ts : List k_T} {ret : Option k_T} (As rest : List Value) (hR : pg_R own = M.1.cls) (hc : pg_call own (ix, 0, mi)) (he : pg[mi]? = some (M', t', o')) (hn : pg_na.getD mi 0 = As.length) (hpm : k_pM mi = M') (hb : h b = some (.inr (ci, fs))) (hci : vwCl[ci]? = some (M'.1.cls, ch_T ci, ch_N ci)) (hs : k_sat l D tys A X Sg cA Lb9 (mi, ts, [], ret, W, cf, cl)) (hH : k_H Sg cA Lb9 h) (hl1 : As.length + 1 = ts.length) (hv : ∀ (i : Nat) (t : k_T), ts[i]? = some t → ∃ v, (Value.ref b :: As)[i]? = some v ∧ k_v Sg v t) (hf : cf + 1 ≤ fr) (hl : 8 + (M'.2.2.1 + 11) + cl ≤ lo) (hst : (rest.map fun v => v.category).sum ≤ 8) (hlen : (lg_sl (.ref b :: As)).length ≤ M'.2.2.1) (hd : decode M.2.1 pc = .ok (.invokevirtual ix, 3)) (kk : ∀ r g, k_H Sg cA Lb9 g → k_U Sg W h g → k_rt Sg ret r → ww l D tys A X fr lo M Q (pc + 3) lv (r.toList ++ rest) g) : ww l D tys A X fr lo M Q pc lv (As.reverse ++ .ref b :: rest) h := by
  obtain ⟨e, e1, e2, e3, e4, e5⟩ := hc
  rw [he] at e1
  cases e1
  rw [hR] at e2
  have h9 := hs h (.ref b :: As) hH hl1 hv (fun q hq => absurd hq List.not_mem_nil)
  rw [hpm] at h9
  exact tt_callV (fr' := cf) (lo' := cl) (mc' := 0) (ms' := 0) hd e5 e2 e3 e4 hb hci rfl hn.symm ⟨hf, hl⟩ ⟨Nat.le_refl _, Nat.le_refl _⟩ hst hlen h9 (fun r g H => kk r g H.1 H.2.1 H.2.2)
/-- nothing changed -/
theorem k_U.nil {a L : Nat} (hH : k_H Sg cA Lb9 h) (u : k_U Sg [] h h1) (hs : Sg a = some L) : h1 a = h a := by
  obtain ⟨e, e1, -⟩ := hH a L hs
  have u2 := u a L hs
  rw [e1]
  rcases e with e | ⟨ci, fs⟩
  · exact u2.2 e e1 List.not_mem_nil
  · obtain ⟨fs', e2, e3⟩ := u2.1 ci fs e1
    have : fs' = fs := List.ext_getElem? (fun k => e3 k List.not_mem_nil)
    rw [e2, this]
theorem k_U.put {m L k ci : Nat} {fs fs1 : List Value} (hs : Sg m = some L) (hW : (L, k) ∈ W) (c : h m = some (.inr (ci, fs))) (c1 : h1 m = some (.inr (ci, fs1))) (f : ∀ j, j ≠ k → fs1[j]? = fs[j]?) (o : ∀ q, q ≠ m → h1 q = h q) : k_U Sg W h h1 := by
  intro a L2 ha
  refine ⟨fun ci2 fs2 e => ?_, fun e he _ => ?_⟩
  · by_cases q : a = m
    · subst q
      rw [c] at e
      cases e
      rw [hs] at ha
      cases ha
      exact ⟨fs1, c1, fun j hj => f j (fun e => hj (e ▸ hW))⟩
    · exact ⟨fs2, by rw [o a q]; exact e, fun _ _ => rfl⟩
  · have q : a ≠ m := fun e9 => by rw [e9, c] at he; cases he
    rw [o a q]
    exact he
theorem k_U.ast {m L : Nat} {e : ClassId × vp_A} (hs : Sg m = some L) (hW : (L, 0) ∈ W) (c : h m = some (.inl e)) (o : ∀ q, q ≠ m → h1 q = h q) : k_U Sg W h h1 := by
  intro a L2 ha
  refine ⟨fun ci2 fs2 e2 => ?_, fun e2 he hw => ?_⟩
  · have q : a ≠ m := fun e9 => by rw [e9, c] at e2; cases e2
    exact ⟨fs2, by rw [o a q]; exact e2, fun _ _ => rfl⟩
  · by_cases q : a = m
    · subst q
      rw [hs] at ha
      cases ha
      exact absurd hW hw
    · rw [o a q]
      exact he
end
section
variable {l : Launch} {D : va_G} {tys : List (ClassId × FieldType)} {A : Nat → Prop} {X : State → Prop} {fr lo : Nat} {Q : Option Value → ch_H → Prop} {cA : Nat → ClassId} {Sg : Nat → Option Nat}
theorem k_U.wk {Sg : Nat → Option Nat} {W : List (Nat × Nat)} {h h1 : ch_H} (u : k_U Sg [] h h1) : k_U Sg W h h1 := fun a L ha => ⟨fun ci fs e => (u a L ha).1 ci fs e |>.elim fun fs' z => ⟨fs', z.1, fun k _ => z.2 k List.not_mem_nil⟩, fun e he _ => (u a L ha).2 e he List.not_mem_nil⟩
theorem h_useL (hT : k_tys tys cA) {x P u : Nat} {mat ro : Int32} {ps : List Value} (sx : Sg x = some 7) (sP : Sg P = some 2) (su : Sg u = some 39) (hmv : k_sat l D tys A X Sg cA Lb (40, [(2, 2, 0), (0, 0, 11), (0, -2147483648, 2147483647)], [], some (0, 0, 1), [], 1, 22)) (hf : 2 ≤ fr) (hl : 60 ≤ lo) (fP0 : ps[0]? = some (.int ro)) (hro : 0 ≤ ro.toInt ∧ ro.toInt ≤ 6) : ∀ (j : Nat) (rr rm : Int32) (h : ch_H) (xs : List Value), 0 ≤ rr.toInt → rr.toInt + j = 12 → k_H Sg cA Lb h → h x = some (.inr (3, xs)) → xs.length = 5 → xs[1]? = some (.ref u) → xs[2]? = some (.int rm) → 0 ≤ rm.toInt → rm.toInt ≤ rr.toInt → h P = some (.inr (4, ps)) → (∀ g : ch_H, k_H Sg cA Lb g → k_U Sg [(7, 2), (39, 0)] h g → Q none g) → ww l D tys A X fr lo mX3_findUseful Q 7 [(3, .int rr), (0, .ref x), (1, .ref P), (2, .int mat)] [] h := by
  intro j
  induction j using Nat.strongRecOn with
  | ind j ih =>
    intro rr rm h xs hr0 hj hH c_x xl fX1 fX2 rm0 rm1 c_P hq
    obtain ⟨gu, c_u, -⟩ := hH.arr su (L := 39) rfl
    refine w_iload_n (List.Mem.head _) (tX3_findUseful_0_ok (7, .iload_n 3, 1) (List.mem_of_getElem? (i := 5) rfl)) ?_
    refine w_iconst (by decide) (tX3_findUseful_0_ok (8, .iconst 2, 1) (List.mem_of_getElem? (i := 6) rfl)) (fun v1 e2 => ?_)
    refine w_aload_n (List.Mem.tail _ (List.Mem.tail _ (List.Mem.head _))) (tX3_findUseful_0_ok (9, .aload_n 1, 1) (List.mem_of_getElem? (i := 7) rfl)) ?_
    refine w_get (own := 8) rfl rfl (by decide) c_P fP0 (tX3_findUseful_0_ok (10, .getfield 40, 3) (List.mem_of_getElem? (i := 8) rfl)) ?_
    refine w_imul (by assumption) (by omega) (by omega) (tX3_findUseful_0_ok (13, .imul, 1) (List.mem_of_getElem? (i := 9) rfl)) (fun v3 e4 => ?_)
    refine w_icmp_ge (tgt := 52) (tX3_findUseful_0_ok (14, .if_icmp .ge 38, 3) (List.mem_of_getElem? (i := 10) rfl)) rfl (fun b5 => ?_) (fun b5 => ?_)
    · refine w_vret rfl (tX3_findUseful_0_ok (52, .return_, 1) (List.mem_of_getElem? (i := 30) rfl)) ?_
      exact hq h hH k_U.rf
    · refine w_aload_n (List.Mem.tail _ (List.Mem.tail _ (List.Mem.head _))) (tX3_findUseful_0_ok (17, .aload_n 1, 1) (List.mem_of_getElem? (i := 11) rfl)) ?_
      refine w_iload_n (List.Mem.head _) (tX3_findUseful_0_ok (18, .iload_n 3, 1) (List.mem_of_getElem? (i := 12) rfl)) ?_
      refine w_iload_n (List.Mem.tail _ (List.Mem.tail _ (List.Mem.tail _ (List.Mem.head _)))) (tX3_findUseful_0_ok (19, .iload_n 2, 1) (List.mem_of_getElem? (i := 13) rfl)) ?_
      refine w_callKS (own := 8) (mi := 40) [.ref P, .int rr, .int mat] [] rfl (cllw_X3 (52, 1, 40) (List.mem_of_getElem? (i := 5) rfl)) rfl rfl rfl hmv hH rfl (fun i ty hi => ?_) (by omega) (Nat.le_trans (Nat.le_of_ble_eq_true rfl) hl) (Nat.le_of_ble_eq_true rfl) (Nat.le_of_ble_eq_true rfl) (tX3_findUseful_0_ok (20, .invokestatic 52, 3) (List.mem_of_getElem? (i := 14) rfl)) (fun r6 g7 e8 e9 e10 => ?_)
      · match i, hi with
        | 0, hi => cases hi; exact ⟨_, rfl, P, rfl, sP⟩
        | 1, hi => cases hi; exact ⟨_, rfl, _, rfl, (show (0 : Int) ≤ _ by omega), (show _ ≤ (11 : Int) by omega)⟩
        | 2, hi => cases hi; exact ⟨_, rfl, k_v.top _⟩
      obtain ⟨v119, rfl, v11, rfl, b13, b14⟩ := e10
      have b13a : 0 ≤ v11.toInt := b13
      have b14a : v11.toInt ≤ 1 := b14
      have c15 := (k_U.nil hH e9 sx).trans c_x
      have c16 := (k_U.nil hH e9 sP).trans c_P
      have c17 := (k_U.nil hH e9 su).trans c_u
      show ww l D tys A X fr lo mX3_findUseful Q 23 [(3, .int rr), (0, .ref x), (1, .ref P), (2, .int mat)] [.int v11] g7
      refine w_if_eq (tgt := 46) (tX3_findUseful_0_ok (23, .ifCond .eq 23, 3) (List.mem_of_getElem? (i := 15) rfl)) rfl (fun b18 => ?_) (fun b18 => ?_)
      · refine w_iinc (fun v19 => [(3, .int v19), (0, .ref x), (1, .ref P), (2, .int mat)]) (fun _ => rfl) (List.Mem.head _) (Nat.le_of_ble_eq_true rfl) (by decide) (by omega) (by omega) (tX3_findUseful_0_ok (46, .iinc 3 1, 3) (List.mem_of_getElem? (i := 28) rfl)) (fun v19 e20 => ?_)
        refine w_goto (tgt := 7) (tX3_findUseful_0_ok (49, .goto (-42), 3) (List.mem_of_getElem? (i := 29) rfl)) rfl ?_
        refine w_lv [(3, .int v19), (0, .ref x), (1, .ref P), (2, .int mat)] (by intro q hq; simp only [List.mem_cons, List.not_mem_nil, or_false] at hq ⊢; rcases hq with e | e | e | e <;> subst e <;> simp) ?_
        exact ih (j - 1) (by omega) _ _ _ _ (by omega) (by omega) e8 c15 xl fX1 fX2 (by omega) (by omega) c16 (fun g9 q1 q2 => hq g9 q1 ((k_U.wk e9).tr q2))
      · refine w_aload_n (List.Mem.tail _ (List.Mem.head _)) (tX3_findUseful_0_ok (26, .aload_n 0, 1) (List.mem_of_getElem? (i := 16) rfl)) ?_
        refine w_get (own := 8) rfl rfl (by decide) c15 fX1 (tX3_findUseful_0_ok (27, .getfield 15, 3) (List.mem_of_getElem? (i := 17) rfl)) ?_
        refine w_aload_n (List.Mem.tail _ (List.Mem.head _)) (tX3_findUseful_0_ok (30, .aload_n 0, 1) (List.mem_of_getElem? (i := 18) rfl)) ?_
        refine w_get (own := 8) rfl rfl (by decide) c15 fX2 (tX3_findUseful_0_ok (31, .getfield 49, 3) (List.mem_of_getElem? (i := 19) rfl)) ?_
        refine w_iload_n (List.Mem.head _) (tX3_findUseful_0_ok (34, .iload_n 3, 1) (List.mem_of_getElem? (i := 20) rfl)) ?_
        refine w_iast hT c17 (by omega) (by omega) (tX3_findUseful_0_ok (35, .iastore, 1) (List.mem_of_getElem? (i := 21) rfl)) (fun h21 c22 o23 => ?_)
        have c24 := (o23 x (k_sg_ne sx su (by decide))).trans c15
        have c25 := (o23 P (k_sg_ne sP su (by decide))).trans c16
        refine w_aload_n (List.Mem.tail _ (List.Mem.head _)) (tX3_findUseful_0_ok (36, .aload_n 0, 1) (List.mem_of_getElem? (i := 22) rfl)) ?_
        refine w_dup rfl (tX3_findUseful_0_ok (37, .dup, 1) (List.mem_of_getElem? (i := 23) rfl)) ?_
        refine w_get (own := 8) rfl rfl (by decide) c24 fX2 (tX3_findUseful_0_ok (38, .getfield 49, 3) (List.mem_of_getElem? (i := 24) rfl)) ?_
        refine w_iconst (by decide) (tX3_findUseful_0_ok (41, .iconst 1, 1) (List.mem_of_getElem? (i := 25) rfl)) (fun v26 e27 => ?_)
        refine w_iadd (by omega) (by omega) (tX3_findUseful_0_ok (42, .iadd, 1) (List.mem_of_getElem? (i := 26) rfl)) (fun v28 e29 => ?_)
        refine w_putF (own := 8) (ci := 3) (k := 2) rfl rfl (by decide) rfl ⟨rfl, rfl⟩ c24 (by rw [xl]; decide) (tX3_findUseful_0_ok (43, .putfield 49, 3) (List.mem_of_getElem? (i := 27) rfl)) (fun h30 fs33 l34 k35 j36 c31 o32 => ?_)
        rw [xl] at l34
        have f37 := (j36 1 (by decide)).trans fX1
        have c38 := (o32 P (k_sg_ne sP sx (by decide))).trans c25
        have c39 := (o32 u (k_sg_ne su sx (by decide))).trans c22
        refine w_iinc (fun v40 => [(3, .int v40), (0, .ref x), (1, .ref P), (2, .int mat)]) (fun _ => rfl) (List.Mem.head _) (Nat.le_of_ble_eq_true rfl) (by decide) (by omega) (by omega) (tX3_findUseful_0_ok (46, .iinc 3 1, 3) (List.mem_of_getElem? (i := 28) rfl)) (fun v40 e41 => ?_)
        refine w_goto (tgt := 7) (tX3_findUseful_0_ok (49, .goto (-42), 3) (List.mem_of_getElem? (i := 29) rfl)) rfl ?_
        have ub : ∀ i, i < 12 → 0 ≤ (gu i).toInt ∧ (gu i).toInt ≤ 11 := by
          obtain ⟨gu9, c9, b9⟩ := (show k_H Sg cA Lb g7 from e8).arr su (L := 39) rfl
          rw [c17] at c9
          cases c9
          exact b9
        have H1 : k_H Sg cA Lb h21 := (show k_H Sg cA Lb g7 from e8).one su c22 (Or.inr (Or.inl ⟨rfl, _, rfl, upd_bd (lo := 0) (hi := 11) ub (by omega)⟩)) o23
        obtain ⟨fs9, c9, l9, ty9⟩ := H1.obj sx (L := 7) rfl
        rw [c24] at c9
        cases c9
        have H2 : k_H Sg cA Lb h30 := H1.one sx c31 (Or.inl ⟨rfl, _, rfl, l34, fun k ty hk => ?_⟩) o32
        · refine w_lv [(3, .int v40), (0, .ref x), (1, .ref P), (2, .int mat)] (by intro q hq; simp only [List.mem_cons, List.not_mem_nil, or_false] at hq ⊢; rcases hq with e | e | e | e <;> subst e <;> simp) ?_
          refine ih (j - 1) (by omega) _ _ _ _ (by omega) (by omega) H2 c31 l34 f37 k35 (by omega) (by omega) c38 (fun g9 q1 q2 => hq g9 q1 (((k_U.wk e9).tr ((k_U.ast su (by decide) c17 o23).tr (k_U.put sx (k := 2) (by decide) c24 c31 j36 o32))).tr q2))
        · by_cases c2 : k = 2
          · subst c2; cases hk; exact ⟨_, k35, _, rfl, (show (0 : Int) ≤ _ by omega), (show _ ≤ (12 : Int) by omega)⟩
          · rw [j36 k c2]; exact ty9 k ty hk
theorem hand_X3_findUseful {mi : Nat} (hT : k_TX tys cA A X) (hmv : k_sat l D tys A X Sg cA Lb (40, [(2, 2, 0), (0, 0, 11), (0, -2147483648, 2147483647)], [], some (0, 0, 1), [], 1, 22)) (hm : k_pM mi = mX3_findUseful) : k_sat l D tys A X Sg cA Lb (mi, [(2, 7, 0), (2, 2, 0), (0, -2147483648, 2147483647)], [], none, [(7, 2), (39, 0)], 3, 100) := by
  intro h vals hH hlen hv hk
  obtain ⟨w0, p0, q0⟩ := hv 0 _ rfl
  obtain ⟨w1, p1, q1⟩ := hv 1 _ rfl
  obtain ⟨w2, p2, q2⟩ := hv 2 _ rfl
  obtain ⟨x, rfl, sx⟩ := k_v.ref q0
  obtain ⟨P, rfl, sP⟩ := k_v.ref q1
  obtain ⟨mat, rfl, -, -⟩ := k_v.int q2
  match vals, hlen, p0, p1, p2 with
  | [_, _, _], _, p0, p1, p2 =>
    cases p0
    cases p1
    cases p2
    obtain ⟨xs, c_x, xl, ty⟩ := hH.obj sx (L := 7) rfl
    obtain ⟨v1, fX1, t1⟩ := ty 1 _ rfl
    obtain ⟨u, rfl, su⟩ := k_v.ref t1
    obtain ⟨ps, c_P, pl, typ⟩ := hH.obj sP (L := 2) rfl
    obtain ⟨v2, fP0, t2⟩ := typ 0 _ rfl
    obtain ⟨ro, rfl, r1, r2⟩ := k_v.int t2
    show tt l D tys A X 3 100 0 0 (k_pM mi) _ 0 _ [] h 0 0
    rw [hm]
    show ww l D tys A X 3 100 mX3_findUseful _ 0 [(0, .ref x), (1, .ref P), (2, .int mat)] [] h
    refine w_aload_n (List.Mem.head _) (tX3_findUseful_0_ok (0, .aload_n 0, 1) (List.mem_of_getElem? (i := 0) rfl)) ?_
    refine w_iconst (by decide) (tX3_findUseful_0_ok (1, .iconst 0, 1) (List.mem_of_getElem? (i := 1) rfl)) (fun v1 e2 => ?_)
    refine w_putF (own := 8) (ci := 3) (k := 2) rfl rfl (by decide) rfl ⟨rfl, rfl⟩ c_x (by rw [xl]; decide) (tX3_findUseful_0_ok (2, .putfield 49, 3) (List.mem_of_getElem? (i := 2) rfl)) (fun h3 fs6 l7 k8 j9 c4 o5 => ?_)
    rw [xl] at l7
    have f10 := (j9 1 (by decide)).trans fX1
    have c11 := (o5 P (k_sg_ne sP sx (by decide))).trans c_P
    refine w_iconst (by decide) (tX3_findUseful_0_ok (5, .iconst 0, 1) (List.mem_of_getElem? (i := 3) rfl)) (fun v12 e13 => ?_)
    refine w_istore_n [(3, .int v12), (0, .ref x), (1, .ref P), (2, .int mat)] rfl (Nat.le_of_ble_eq_true rfl) (tX3_findUseful_0_ok (6, .istore_n 3, 1) (List.mem_of_getElem? (i := 4) rfl)) ?_
    have H2 : k_H Sg cA Lb h3 := hH.one sx c4 (Or.inl ⟨rfl, _, rfl, l7, fun k ty2 hk => ?_⟩) o5
    · refine w_lv [(3, .int v12), (0, .ref x), (1, .ref P), (2, .int mat)] (by intro q hq; simp only [List.mem_cons, List.not_mem_nil, or_false] at hq ⊢; rcases hq with e | e | e | e <;> subst e <;> simp) ?_
      refine h_useL hT.1 sx sP su hmv (by decide) (by decide) fP0 ⟨r1, r2⟩ 12 _ _ _ _ (by omega) (by omega) H2 c4 l7 f10 k8 (by omega) (by omega) c11 (fun g9 q1 q2 => ⟨q1, (k_U.put sx (k := 2) (show (7, 2) ∈ [(7, 2), (39, 0)] by decide) c_x c4 j9 o5).tr q2, rfl⟩)
    · by_cases c2 : k = 2
      · subst c2; cases hk; exact ⟨_, k8, _, rfl, (show (0 : Int) ≤ _ by omega), (show _ ≤ (12 : Int) by omega)⟩
      · rw [j9 k c2]; exact ty k ty2 hk
end
