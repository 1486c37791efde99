/-! by hand over Ls -/
section
variable {l : Launch} {D : va_G} {tys : List (ClassId × FieldType)} {A : Nat → Prop} {X : State → Prop} {fr lo : Nat} {Q : Option Value → ch_H → Prop} {cA : Nat → ClassId} {Sg : Nat → Option Nat}
theorem s_useL (hT : k_tys tys cA) {x P u : Nat} {mat ro : Int32} {ps : List Value} (sx : Sg x = some 7) (sP : Sg P = some 2) (su : Sg u = some 39) (hmv : k_sat l D tys A X Sg cA Ls (40, [(2, 2, 0), (0, 0, 11), (0, -2147483648, 2147483647)], [], some (0, 0, 1), [], 1, 22)) (hf : 2 ≤ fr) (hl : 60 ≤ lo) (fP0 : ps[0]? = some (.int ro)) (hro : 0 ≤ ro.toInt ∧ ro.toInt ≤ 6) : ∀ (j : Nat) (rr rm : Int32) (h : ch_H) (xs : List Value), 0 ≤ rr.toInt → rr.toInt + j = 12 → k_H Sg cA Ls h → h x = some (.inr (3, xs)) → xs.length = 5 → xs[1]? = some (.ref u) → xs[2]? = some (.int rm) → 0 ≤ rm.toInt → rm.toInt ≤ rr.toInt → h P = some (.inr (4, ps)) → (∀ g : ch_H, k_H Sg cA Ls g → k_U Sg [(7, 2), (39, 0)] h g → Q none g) → ww l D tys A X fr lo mX3_findUseful Q 7 [(3, .int rr), (0, .ref x), (1, .ref P), (2, .int mat)] [] h := by
  intro j
  induction j using Nat.strongRecOn with
  | ind j ih =>
    intro rr rm h xs hr0 hj hH c_x xl fX1 fX2 rm0 rm1 c_P hq
    obtain ⟨gu, c_u, -⟩ := hH.arr su (L := 39) rfl
    refine w_iload_n (List.Mem.head _) (tX3_findUseful_0_ok (7, .iload_n 3, 1) (List.mem_of_getElem? (i := 5) rfl)) ?_
    refine w_iconst (by decide) (tX3_findUseful_0_ok (8, .iconst 2, 1) (List.mem_of_getElem? (i := 6) rfl)) (fun v1 e2 => ?_)
    refine w_aload_n (List.Mem.tail _ (List.Mem.tail _ (List.Mem.head _))) (tX3_findUseful_0_ok (9, .aload_n 1, 1) (List.mem_of_getElem? (i := 7) rfl)) ?_
    refine w_get (own := 8) rfl rfl (by decide) c_P fP0 (tX3_findUseful_0_ok (10, .getfield 40, 3) (List.mem_of_getElem? (i := 8) rfl)) ?_
    refine w_imul (by assumption) (by omega) (by omega) (tX3_findUseful_0_ok (13, .imul, 1) (List.mem_of_getElem? (i := 9) rfl)) (fun v3 e4 => ?_)
    refine w_icmp_ge (tgt := 52) (tX3_findUseful_0_ok (14, .if_icmp .ge 38, 3) (List.mem_of_getElem? (i := 10) rfl)) rfl (fun b5 => ?_) (fun b5 => ?_)
    · refine w_vret rfl (tX3_findUseful_0_ok (52, .return_, 1) (List.mem_of_getElem? (i := 30) rfl)) ?_
      exact hq h hH k_U.rf
    · refine w_aload_n (List.Mem.tail _ (List.Mem.tail _ (List.Mem.head _))) (tX3_findUseful_0_ok (17, .aload_n 1, 1) (List.mem_of_getElem? (i := 11) rfl)) ?_
      refine w_iload_n (List.Mem.head _) (tX3_findUseful_0_ok (18, .iload_n 3, 1) (List.mem_of_getElem? (i := 12) rfl)) ?_
      refine w_iload_n (List.Mem.tail _ (List.Mem.tail _ (List.Mem.tail _ (List.Mem.head _)))) (tX3_findUseful_0_ok (19, .iload_n 2, 1) (List.mem_of_getElem? (i := 13) rfl)) ?_
      refine w_callKS (own := 8) (mi := 40) [.ref P, .int rr, .int mat] [] rfl (cllw_X3 (52, 1, 40) (List.mem_of_getElem? (i := 5) rfl)) rfl rfl rfl hmv hH rfl (fun i ty hi => ?_) (by omega) (Nat.le_trans (Nat.le_of_ble_eq_true rfl) hl) (Nat.le_of_ble_eq_true rfl) (Nat.le_of_ble_eq_true rfl) (tX3_findUseful_0_ok (20, .invokestatic 52, 3) (List.mem_of_getElem? (i := 14) rfl)) (fun r6 g7 e8 e9 e10 => ?_)
      · match i, hi with
        | 0, hi => cases hi; exact ⟨_, rfl, P, rfl, sP⟩
        | 1, hi => cases hi; exact ⟨_, rfl, _, rfl, (show (0 : Int) ≤ _ by omega), (show _ ≤ (11 : Int) by omega)⟩
        | 2, hi => cases hi; exact ⟨_, rfl, k_v.top _⟩
      obtain ⟨v119, rfl, v11, rfl, b13, b14⟩ := e10
      have b13a : 0 ≤ v11.toInt := b13
      have b14a : v11.toInt ≤ 1 := b14
      have c15 := (k_U.nil hH e9 sx).trans c_x
      have c16 := (k_U.nil hH e9 sP).trans c_P
      have c17 := (k_U.nil hH e9 su).trans c_u
      show ww l D tys A X fr lo mX3_findUseful Q 23 [(3, .int rr), (0, .ref x), (1, .ref P), (2, .int mat)] [.int v11] g7
      refine w_if_eq (tgt := 46) (tX3_findUseful_0_ok (23, .ifCond .eq 23, 3) (List.mem_of_getElem? (i := 15) rfl)) rfl (fun b18 => ?_) (fun b18 => ?_)
      · refine w_iinc (fun v19 => [(3, .int v19), (0, .ref x), (1, .ref P), (2, .int mat)]) (fun _ => rfl) (List.Mem.head _) (Nat.le_of_ble_eq_true rfl) (by decide) (by omega) (by omega) (tX3_findUseful_0_ok (46, .iinc 3 1, 3) (List.mem_of_getElem? (i := 28) rfl)) (fun v19 e20 => ?_)
        refine w_goto (tgt := 7) (tX3_findUseful_0_ok (49, .goto (-42), 3) (List.mem_of_getElem? (i := 29) rfl)) rfl ?_
        refine w_lv [(3, .int v19), (0, .ref x), (1, .ref P), (2, .int mat)] (by intro q hq; simp only [List.mem_cons, List.not_mem_nil, or_false] at hq ⊢; rcases hq with e | e | e | e <;> subst e <;> simp) ?_
        exact ih (j - 1) (by omega) _ _ _ _ (by omega) (by omega) e8 c15 xl fX1 fX2 (by omega) (by omega) c16 (fun g9 q1 q2 => hq g9 q1 ((k_U.wk e9).tr q2))
      · refine w_aload_n (List.Mem.tail _ (List.Mem.head _)) (tX3_findUseful_0_ok (26, .aload_n 0, 1) (List.mem_of_getElem? (i := 16) rfl)) ?_
        refine w_get (own := 8) rfl rfl (by decide) c15 fX1 (tX3_findUseful_0_ok (27, .getfield 15, 3) (List.mem_of_getElem? (i := 17) rfl)) ?_
        refine w_aload_n (List.Mem.tail _ (List.Mem.head _)) (tX3_findUseful_0_ok (30, .aload_n 0, 1) (List.mem_of_getElem? (i := 18) rfl)) ?_
        refine w_get (own := 8) rfl rfl (by decide) c15 fX2 (tX3_findUseful_0_ok (31, .getfield 49, 3) (List.mem_of_getElem? (i := 19) rfl)) ?_
        refine w_iload_n (List.Mem.head _) (tX3_findUseful_0_ok (34, .iload_n 3, 1) (List.mem_of_getElem? (i := 20) rfl)) ?_
        refine w_iast hT c17 (by omega) (by omega) (tX3_findUseful_0_ok (35, .iastore, 1) (List.mem_of_getElem? (i := 21) rfl)) (fun h21 c22 o23 => ?_)
        have c24 := (o23 x (k_sg_ne sx su (by decide))).trans c15
        have c25 := (o23 P (k_sg_ne sP su (by decide))).trans c16
        refine w_aload_n (List.Mem.tail _ (List.Mem.head _)) (tX3_findUseful_0_ok (36, .aload_n 0, 1) (List.mem_of_getElem? (i := 22) rfl)) ?_
        refine w_dup rfl (tX3_findUseful_0_ok (37, .dup, 1) (List.mem_of_getElem? (i := 23) rfl)) ?_
        refine w_get (own := 8) rfl rfl (by decide) c24 fX2 (tX3_findUseful_0_ok (38, .getfield 49, 3) (List.mem_of_getElem? (i := 24) rfl)) ?_
        refine w_iconst (by decide) (tX3_findUseful_0_ok (41, .iconst 1, 1) (List.mem_of_getElem? (i := 25) rfl)) (fun v26 e27 => ?_)
        refine w_iadd (by omega) (by omega) (tX3_findUseful_0_ok (42, .iadd, 1) (List.mem_of_getElem? (i := 26) rfl)) (fun v28 e29 => ?_)
        refine w_putF (own := 8) (ci := 3) (k := 2) rfl rfl (by decide) rfl ⟨rfl, rfl⟩ c24 (by rw [xl]; decide) (tX3_findUseful_0_ok (43, .putfield 49, 3) (List.mem_of_getElem? (i := 27) rfl)) (fun h30 fs33 l34 k35 j36 c31 o32 => ?_)
        rw [xl] at l34
        have f37 := (j36 1 (by decide)).trans fX1
        have c38 := (o32 P (k_sg_ne sP sx (by decide))).trans c25
        have c39 := (o32 u (k_sg_ne su sx (by decide))).trans c22
        refine w_iinc (fun v40 => [(3, .int v40), (0, .ref x), (1, .ref P), (2, .int mat)]) (fun _ => rfl) (List.Mem.head _) (Nat.le_of_ble_eq_true rfl) (by decide) (by omega) (by omega) (tX3_findUseful_0_ok (46, .iinc 3 1, 3) (List.mem_of_getElem? (i := 28) rfl)) (fun v40 e41 => ?_)
        refine w_goto (tgt := 7) (tX3_findUseful_0_ok (49, .goto (-42), 3) (List.mem_of_getElem? (i := 29) rfl)) rfl ?_
        have ub : ∀ i, i < 12 → 0 ≤ (gu i).toInt ∧ (gu i).toInt ≤ 11 := by
          obtain ⟨gu9, c9, b9⟩ := (show k_H Sg cA Ls g7 from e8).arr su (L := 39) rfl
          rw [c17] at c9
          cases c9
          exact b9
        have H1 : k_H Sg cA Ls h21 := (show k_H Sg cA Ls g7 from e8).one su c22 (Or.inr (Or.inl ⟨rfl, _, rfl, upd_bd (lo := 0) (hi := 11) ub (by omega)⟩)) o23
        obtain ⟨fs9, c9, l9, ty9⟩ := H1.obj sx (L := 7) rfl
        rw [c24] at c9
        cases c9
        have H2 : k_H Sg cA Ls h30 := H1.one sx c31 (Or.inl ⟨rfl, _, rfl, l34, fun k ty hk => ?_⟩) o32
        · refine w_lv [(3, .int v40), (0, .ref x), (1, .ref P), (2, .int mat)] (by intro q hq; simp only [List.mem_cons, List.not_mem_nil, or_false] at hq ⊢; rcases hq with e | e | e | e <;> subst e <;> simp) ?_
          refine ih (j - 1) (by omega) _ _ _ _ (by omega) (by omega) H2 c31 l34 f37 k35 (by omega) (by omega) c38 (fun g9 q1 q2 => hq g9 q1 (((k_U.wk e9).tr ((k_U.ast su (by decide) c17 o23).tr (k_U.put sx (k := 2) (by decide) c24 c31 j36 o32))).tr q2))
        · by_cases c2 : k = 2
          · subst c2; cases hk; exact ⟨_, k35, _, rfl, (show (0 : Int) ≤ _ by omega), (show _ ≤ (12 : Int) by omega)⟩
          · rw [j36 k c2]; exact ty9 k ty hk
theorem hands_X3_findUseful {mi : Nat} (hT : k_TX tys cA A X) (hmv : k_sat l D tys A X Sg cA Ls (40, [(2, 2, 0), (0, 0, 11), (0, -2147483648, 2147483647)], [], some (0, 0, 1), [], 1, 22)) (hm : k_pM mi = mX3_findUseful) : k_sat l D tys A X Sg cA Ls (mi, [(2, 7, 0), (2, 2, 0), (0, -2147483648, 2147483647)], [], none, [(7, 2), (39, 0)], 3, 100) := by
  intro h vals hH hlen hv hk
  obtain ⟨w0, p0, q0⟩ := hv 0 _ rfl
  obtain ⟨w1, p1, q1⟩ := hv 1 _ rfl
  obtain ⟨w2, p2, q2⟩ := hv 2 _ rfl
  obtain ⟨x, rfl, sx⟩ := k_v.ref q0
  obtain ⟨P, rfl, sP⟩ := k_v.ref q1
  obtain ⟨mat, rfl, -, -⟩ := k_v.int q2
  match vals, hlen, p0, p1, p2 with
  | [_, _, _], _, p0, p1, p2 =>
    cases p0
    cases p1
    cases p2
    obtain ⟨xs, c_x, xl, ty⟩ := hH.obj sx (L := 7) rfl
    obtain ⟨v1, fX1, t1⟩ := ty 1 _ rfl
    obtain ⟨u, rfl, su⟩ := k_v.ref t1
    obtain ⟨ps, c_P, pl, typ⟩ := hH.obj sP (L := 2) rfl
    obtain ⟨v2, fP0, t2⟩ := typ 0 _ rfl
    obtain ⟨ro, rfl, r1, r2⟩ := k_v.int t2
    show tt l D tys A X 3 100 0 0 (k_pM mi) _ 0 _ [] h 0 0
    rw [hm]
    show ww l D tys A X 3 100 mX3_findUseful _ 0 [(0, .ref x), (1, .ref P), (2, .int mat)] [] h
    refine w_aload_n (List.Mem.head _) (tX3_findUseful_0_ok (0, .aload_n 0, 1) (List.mem_of_getElem? (i := 0) rfl)) ?_
    refine w_iconst (by decide) (tX3_findUseful_0_ok (1, .iconst 0, 1) (List.mem_of_getElem? (i := 1) rfl)) (fun v1 e2 => ?_)
    refine w_putF (own := 8) (ci := 3) (k := 2) rfl rfl (by decide) rfl ⟨rfl, rfl⟩ c_x (by rw [xl]; decide) (tX3_findUseful_0_ok (2, .putfield 49, 3) (List.mem_of_getElem? (i := 2) rfl)) (fun h3 fs6 l7 k8 j9 c4 o5 => ?_)
    rw [xl] at l7
    have f10 := (j9 1 (by decide)).trans fX1
    have c11 := (o5 P (k_sg_ne sP sx (by decide))).trans c_P
    refine w_iconst (by decide) (tX3_findUseful_0_ok (5, .iconst 0, 1) (List.mem_of_getElem? (i := 3) rfl)) (fun v12 e13 => ?_)
    refine w_istore_n [(3, .int v12), (0, .ref x), (1, .ref P), (2, .int mat)] rfl (Nat.le_of_ble_eq_true rfl) (tX3_findUseful_0_ok (6, .istore_n 3, 1) (List.mem_of_getElem? (i := 4) rfl)) ?_
    have H2 : k_H Sg cA Ls h3 := hH.one sx c4 (Or.inl ⟨rfl, _, rfl, l7, fun k ty2 hk => ?_⟩) o5
    · refine w_lv [(3, .int v12), (0, .ref x), (1, .ref P), (2, .int mat)] (by intro q hq; simp only [List.mem_cons, List.not_mem_nil, or_false] at hq ⊢; rcases hq with e | e | e | e <;> subst e <;> simp) ?_
      refine s_useL hT.1 sx sP su hmv (by decide) (by decide) fP0 ⟨r1, r2⟩ 12 _ _ _ _ (by omega) (by omega) H2 c4 l7 f10 k8 (by omega) (by omega) c11 (fun g9 q1 q2 => ⟨q1, (k_U.put sx (k := 2) (show (7, 2) ∈ [(7, 2), (39, 0)] by decide) c_x c4 j9 o5).tr q2, rfl⟩)
    · by_cases c2 : k = 2
      · subst c2; cases hk; exact ⟨_, k8, _, rfl, (show (0 : Int) ≤ _ by omega), (show _ ≤ (12 : Int) by omega)⟩
      · rw [j9 k c2]; exact ty k ty2 hk
end
section
variable {l : Launch} {D : va_G} {tys : List (ClassId × FieldType)} {A : Nat → Prop} {X : State → Prop} {fr lo : Nat} {M : ch_M} {Q : Option Value → ch_H → Prop} {pc : Nat} {lv : List (Nat × Value)} {st : List Value} {h : ch_H} {cA : Nat → ClassId} {Sg : Nat → Option Nat}
theorem hands_X0_leastCost {mi : Nat} (hT : k_TX tys cA A X) (hm : k_pM mi = mX0_leastCost) : k_sat l D tys A X Sg cA Ls (mi, [(2, 8, 0), (2, 2, 0), (2, 32, 0), (0, 0, 5), (0, 0, 120)], [], some (0, -2147483648, 2147483647), [], 2, 60) := by
  intro h vals hH hlen hv hk
  obtain ⟨w0, p0, q0⟩ := hv 0 _ rfl
  obtain ⟨w1, p1, q1⟩ := hv 1 _ rfl
  obtain ⟨w2, p2, q2⟩ := hv 2 _ rfl
  obtain ⟨w3, p3, q3⟩ := hv 3 _ rfl
  obtain ⟨w4, p4, q4⟩ := hv 4 _ rfl
  obtain ⟨x, rfl, sx⟩ := k_v.ref q0
  obtain ⟨P, rfl, sP⟩ := k_v.ref q1
  obtain ⟨wa, rfl, sw⟩ := k_v.ref q2
  obtain ⟨pp, rfl, b1, b2⟩ := k_v.int q3
  obtain ⟨ft, rfl, b3, b4⟩ := k_v.int q4
  match vals, hlen, p0, p1, p2, p3, p4 with
  | [_, _, _, _, _], _, p0, p1, p2, p3, p4 =>
    cases p0
    cases p1
    cases p2
    cases p3
    cases p4
    obtain ⟨xs, c_x, xl, ty⟩ := hH.obj sx (L := 8) rfl
    obtain ⟨v0, fX0, t0⟩ := ty 0 _ rfl
    obtain ⟨tb, rfl, stb⟩ := k_v.ref t0
    obtain ⟨ps, c_P, pl, typ⟩ := hH.obj sP (L := 2) rfl
    obtain ⟨u0, fP0, r0⟩ := typ 0 _ rfl
    obtain ⟨ro, rfl, r1, r2⟩ := k_v.int r0
    obtain ⟨u1, fP1, s1⟩ := typ 1 _ rfl
    obtain ⟨a1, rfl, sa1⟩ := k_v.ref s1
    obtain ⟨u2, fP2, s2⟩ := typ 2 _ rfl
    obtain ⟨a2, rfl, sa2⟩ := k_v.ref s2
    obtain ⟨u8, fP8, s8⟩ := typ 8 _ rfl
    obtain ⟨a8, rfl, sa8⟩ := k_v.ref s8
    obtain ⟨gk, c_a1, -⟩ := hH.arr sa1 (L := 11) rfl
    obtain ⟨gn, c_a2, hgn⟩ := hH.arr sa2 (L := 12) rfl
    obtain ⟨gh, c_a8, -⟩ := hH.arr sa8 (L := 18) rfl
    obtain ⟨gw, c_w, -⟩ := hH.arr sw (L := 32) rfl
    obtain ⟨e, c_tb, ce⟩ := hH tb 42 stb
    rcases ce with ⟨q, -⟩ | ⟨q, -⟩ | ⟨-, ftb, rfl, hft⟩
    · cases q
    · cases q
    have htab : ∀ i, i < 6 → ∃ b : Nat, va_rf (ftb i) = .ref b ∧ ∃ gb : Nat → Int32, h b = some (.inl (cA 0, 121, .inl gb)) := by
      intro i hi
      obtain ⟨b, e1, e2⟩ := k_v.ref (hft i hi)
      obtain ⟨gb, e3, -⟩ := hH.arr e2 (L := 43) rfl
      exact ⟨b, e1, gb, e3⟩
    have hro : 0 ≤ ro.toInt ∧ ro.toInt ≤ 6 := ⟨r1, r2⟩
    have hp : 0 ≤ pp.toInt ∧ pp.toInt ≤ 5 := ⟨b1, b2⟩
    show tt l D tys A X 2 60 0 0 (k_pM mi) _ 0 _ [] h 0 0
    rw [hm]
    show ww l D tys A X 2 60 mX0_leastCost _ 0 [(0, .ref x), (1, .ref P), (2, .ref wa), (3, .int pp), (4, .int ft)] [] h
    refine w_ldcA (pg_kw 5 (46, 1000000) (List.mem_of_getElem? (i := 0) rfl)) (tX0_leastCost_0_ok (0, .ldc 46, 2) (List.mem_of_getElem? (i := 0) rfl)) (fun v1 => ?_)
    refine w_istore [(5, .int v1), (0, .ref x), (1, .ref P), (2, .ref wa), (3, .int pp), (4, .int ft)] rfl (Nat.le_of_ble_eq_true rfl) (tX0_leastCost_0_ok (2, .istore 5, 2) (List.mem_of_getElem? (i := 1) rfl)) ?_
    refine w_iconst (by decide) (tX0_leastCost_0_ok (4, .iconst 0, 1) (List.mem_of_getElem? (i := 2) rfl)) (fun v2 e3 => ?_)
    refine w_istore [(6, .int v2), (5, .int v1), (0, .ref x), (1, .ref P), (2, .ref wa), (3, .int pp), (4, .int ft)] rfl (Nat.le_of_ble_eq_true rfl) (tX0_leastCost_0_ok (5, .istore 6, 2) (List.mem_of_getElem? (i := 3) rfl)) ?_
    refine w_lv [(6, .int v2), (5, .int v1), (0, .ref x), (1, .ref P), (2, .ref wa), (3, .int pp), (4, .int ft)] (by intro q hq; simp only [List.mem_cons, List.not_mem_nil, or_false] at hq ⊢; rcases hq with e | e | e | e | e | e | e <;> subst e <;> simp) ?_
    exact h_lcO hT.1 c_P fP0 fP1 fP2 fP8 c_a1 c_a2 c_a8 hro hgn c_x fX0 c_w c_tb htab hp ⟨b3, b4⟩ (by decide) (by decide) 22 _ _ (by omega) (by omega) (by omega) (fun v => ⟨hH, k_U.rf, _, rfl, k_v.top v⟩)
end
