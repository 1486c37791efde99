/-! the class's State.begin and newTown, from typed heaps -/
section
variable {l : Launch} {D : va_G} {tys : List (ClassId × FieldType)} {A : Nat → Prop} {X : State → Prop} {fr lo : Nat} {Q : Option Value → ch_H → Prop} {cA : Nat → ClassId} {Sg : Nat → Option Nat} {h : ch_H}
theorem upd_tb {n j : Nat} {f : Nat → Int32} {y : Int32} {lo9 hi9 : Int} (hf : ∀ i, i < n → lo9 ≤ (f i).toInt ∧ (f i).toInt ≤ hi9) (hy : lo9 ≤ y.toInt ∧ y.toInt ≤ hi9) : ∀ i, i < n → lo9 ≤ (upd f j y i).toInt ∧ (upd f j y i).toInt ≤ hi9 := by
  intro i hi
  by_cases q : i = j
  · subst q
    rw [pk_us]
    exact hy
  · rw [pk_un q]
    exact hf i hi
theorem sgP_zero {t b P a1 a2 a3 a4 a5 a6 a7 a8 q L : Nat} (hq : Sg q = some L) (hL : L = 0 ∨ L = 2 ∨ L = 4) (hP : q ≠ P) (st : Sg t = some 1) (sb : Sg b = some 10) (s1 : Sg a1 = some 11) (s2 : Sg a2 = some 12) (s3 : Sg a3 = some 13) (s4 : Sg a4 = some 14) (s5 : Sg a5 = some 15) (s6 : Sg a6 = some 16) (s7 : Sg a7 = some 17) (s8 : Sg a8 = some 18) : sgP t b P a1 a2 a3 a4 a5 a6 a7 a8 q < 2 := by
  unfold sgP
  rw [if_neg (k_sg_ne hq st (by omega)), if_neg (k_sg_ne hq sb (by omega)), if_neg hP, if_neg (k_sg_ne hq s1 (by omega)), if_neg (k_sg_ne hq s2 (by omega)), if_neg (k_sg_ne hq s3 (by omega)), if_neg (k_sg_ne hq s4 (by omega)), if_neg (k_sg_ne hq s5 (by omega)), if_neg (k_sg_ne hq s6 (by omega)), if_neg (k_sg_ne hq s7 (by omega)), if_neg (k_sg_ne hq s8 (by omega))]
  decide
theorem h_beL (hT : k_tys tys cA) {st P sx tr on wa ps : Nat} {fs fp : List Value} {seed : Int64} (s_st : Sg st = some 3) (s_P : Sg P = some 2) (s_sx : Sg sx = some 19) (s_tr : Sg tr = some 20) (s_on : Sg on = some 21) (s_wa : Sg wa = some 22) (s_ps : Sg ps = some 13) (fl : fs.length = 7) (f0 : fs[0]? = some (.ref sx)) (f1 : fs[1]? = some (.ref tr)) (f2 : fs[2]? = some (.ref on)) (f3 : fs[3]? = some (.ref wa)) (p3 : fp[3]? = some (.ref ps)) : ∀ (j : Nat) (k : Int32) (h : ch_H), 0 ≤ k.toInt → k.toInt + j = 6 → k_H Sg cA Lb h → h st = some (.inr (6, fs)) → h P = some (.inr (4, fp)) → (∀ (g : ch_H) (k1 : Int32), k_H Sg cA Lb g → g st = some (.inr (6, fs)) → k_U Sg [(3, 5), (3, 6), (19, 0), (20, 0), (21, 0), (22, 0)] h g → ww l D tys A X fr lo mX6_begin Q 68 [(4, .int k1), (0, .ref st), (1, .ref P), (2, .long seed)] [] g) → ww l D tys A X fr lo mX6_begin Q 3 [(4, .int k), (0, .ref st), (1, .ref P), (2, .long seed)] [] h := by
  intro j
  induction j using Nat.strongRecOn with
  | ind j ih =>
    intro k h hk hj hH c_st c_P hq
    obtain ⟨gx, c_sx, -⟩ := hH.arr s_sx (L := 19) rfl
    obtain ⟨gt, c_tr, -⟩ := hH.arr s_tr (L := 20) rfl
    obtain ⟨go, c_on, b_on⟩ := hH.arr s_on (L := 21) rfl
    obtain ⟨gw, c_wa, b_wa⟩ := hH.arr s_wa (L := 22) rfl
    obtain ⟨gp, c_ps, -⟩ := hH.arr s_ps (L := 13) rfl
    refine w_iload (List.Mem.head _) (tX6_begin_0_ok (3, .iload 4, 2) (List.mem_of_getElem? (i := 2) rfl)) ?_
    refine w_bipush (by decide) (tX6_begin_0_ok (5, .bipush 6, 2) (List.mem_of_getElem? (i := 3) rfl)) (fun zv1 ze2 => ?_)
    refine w_icmp_ge (tgt := 68) (tX6_begin_0_ok (7, .if_icmp .ge 61, 3) (List.mem_of_getElem? (i := 4) rfl)) rfl (fun zb3 => ?_) (fun zb3 => ?_)
    · exact hq _ _ hH c_st k_U.rf
    · refine w_aload_n (List.Mem.tail _ (List.Mem.head _)) (tX6_begin_0_ok (10, .aload_n 0, 1) (List.mem_of_getElem? (i := 5) rfl)) ?_
      refine w_get (own := 11) rfl rfl (by decide) c_st f0 (tX6_begin_0_ok (11, .getfield 9, 3) (List.mem_of_getElem? (i := 6) rfl)) ?_
      refine w_iload (List.Mem.head _) (tX6_begin_0_ok (14, .iload 4, 2) (List.mem_of_getElem? (i := 7) rfl)) ?_
      refine w_aload_n (List.Mem.tail _ (List.Mem.tail _ (List.Mem.head _))) (tX6_begin_0_ok (16, .aload_n 1, 1) (List.mem_of_getElem? (i := 8) rfl)) ?_
      refine w_get (own := 11) rfl rfl (by decide) c_P p3 (tX6_begin_0_ok (17, .getfield 28, 3) (List.mem_of_getElem? (i := 9) rfl)) ?_
      refine w_iload (List.Mem.head _) (tX6_begin_0_ok (20, .iload 4, 2) (List.mem_of_getElem? (i := 10) rfl)) ?_
      refine w_iald hT c_ps (by omega) (by omega) (tX6_begin_0_ok (22, .iaload, 1) (List.mem_of_getElem? (i := 11) rfl)) (fun zv4 ze5 => ?_)
      refine w_iast hT c_sx (by omega) (by omega) (tX6_begin_0_ok (23, .iastore, 1) (List.mem_of_getElem? (i := 12) rfl)) (fun zh6 zc7 zo8 => ?_)
      have zc9 := (zo8 st (k_sg_ne s_st s_sx (by decide))).trans c_st
      have zc10 := (zo8 P (k_sg_ne s_P s_sx (by decide))).trans c_P
      have zc11 := (zo8 tr (k_sg_ne s_tr s_sx (by decide))).trans c_tr
      have zc12 := (zo8 on (k_sg_ne s_on s_sx (by decide))).trans c_on
      have zc13 := (zo8 wa (k_sg_ne s_wa s_sx (by decide))).trans c_wa
      have zc14 := (zo8 ps (k_sg_ne s_ps s_sx (by decide))).trans c_ps
      have zH15 := hH.ast s_sx rfl zc7 (top_b _ _) zo8
      have zu16 : k_U Sg [(3, 5), (3, 6), (19, 0), (20, 0), (21, 0), (22, 0)] h zh6 := k_U.ast s_sx (by decide) c_sx zo8
      refine w_aload_n (List.Mem.tail _ (List.Mem.head _)) (tX6_begin_0_ok (24, .aload_n 0, 1) (List.mem_of_getElem? (i := 13) rfl)) ?_
      refine w_get (own := 11) rfl rfl (by decide) zc9 f1 (tX6_begin_0_ok (25, .getfield 15, 3) (List.mem_of_getElem? (i := 14) rfl)) ?_
      refine w_iload (List.Mem.head _) (tX6_begin_0_ok (28, .iload 4, 2) (List.mem_of_getElem? (i := 15) rfl)) ?_
      refine w_iconst (by decide) (tX6_begin_0_ok (30, .iconst 0, 1) (List.mem_of_getElem? (i := 16) rfl)) (fun zv17 ze18 => ?_)
      refine w_iast hT zc11 (by omega) (by omega) (tX6_begin_0_ok (31, .iastore, 1) (List.mem_of_getElem? (i := 17) rfl)) (fun zh19 zc20 zo21 => ?_)
      have zc22 := (zo21 st (k_sg_ne s_st s_tr (by decide))).trans zc9
      have zc23 := (zo21 P (k_sg_ne s_P s_tr (by decide))).trans zc10
      have zc24 := (zo21 sx (k_sg_ne s_sx s_tr (by decide))).trans zc7
      have zc25 := (zo21 on (k_sg_ne s_on s_tr (by decide))).trans zc12
      have zc26 := (zo21 wa (k_sg_ne s_wa s_tr (by decide))).trans zc13
      have zc27 := (zo21 ps (k_sg_ne s_ps s_tr (by decide))).trans zc14
      have zH28 := zH15.ast s_tr rfl zc20 (top_b _ _) zo21
      have zu29 : k_U Sg [(3, 5), (3, 6), (19, 0), (20, 0), (21, 0), (22, 0)] zh6 zh19 := k_U.ast s_tr (by decide) zc11 zo21
      refine w_aload_n (List.Mem.tail _ (List.Mem.head _)) (tX6_begin_0_ok (32, .aload_n 0, 1) (List.mem_of_getElem? (i := 18) rfl)) ?_
      refine w_get (own := 11) rfl rfl (by decide) zc22 f2 (tX6_begin_0_ok (33, .getfield 18, 3) (List.mem_of_getElem? (i := 19) rfl)) ?_
      refine w_iload (List.Mem.head _) (tX6_begin_0_ok (36, .iload 4, 2) (List.mem_of_getElem? (i := 20) rfl)) ?_
      refine w_iconst (by decide) (tX6_begin_0_ok (38, .iconst 1, 1) (List.mem_of_getElem? (i := 21) rfl)) (fun zv30 ze31 => ?_)
      refine w_zast hT zc25 (by omega) (by omega) (by omega) (tX6_begin_0_ok (39, .bastore, 1) (List.mem_of_getElem? (i := 22) rfl)) (fun zh32 zc33 zo34 => ?_)
      have zc35 := (zo34 st (k_sg_ne s_st s_on (by decide))).trans zc22
      have zc36 := (zo34 P (k_sg_ne s_P s_on (by decide))).trans zc23
      have zc37 := (zo34 sx (k_sg_ne s_sx s_on (by decide))).trans zc24
      have zc38 := (zo34 tr (k_sg_ne s_tr s_on (by decide))).trans zc20
      have zc39 := (zo34 wa (k_sg_ne s_wa s_on (by decide))).trans zc26
      have zc40 := (zo34 ps (k_sg_ne s_ps s_on (by decide))).trans zc27
      have zbd43 := upd_tb (lo9 := 0) (hi9 := 1) (j := k.toInt.toNat) b_on (show (0 : Int) ≤ zv30.toInt ∧ zv30.toInt ≤ 1 by omega)
      have zH41 := zH28.ast s_on rfl zc33 zbd43 zo34
      have zu42 : k_U Sg [(3, 5), (3, 6), (19, 0), (20, 0), (21, 0), (22, 0)] zh19 zh32 := k_U.ast s_on (by decide) zc25 zo34
      refine w_aload_n (List.Mem.tail _ (List.Mem.head _)) (tX6_begin_0_ok (40, .aload_n 0, 1) (List.mem_of_getElem? (i := 23) rfl)) ?_
      refine w_get (own := 11) rfl rfl (by decide) zc35 f3 (tX6_begin_0_ok (41, .getfield 22, 3) (List.mem_of_getElem? (i := 24) rfl)) ?_
      refine w_iconst (by decide) (tX6_begin_0_ok (44, .iconst 2, 1) (List.mem_of_getElem? (i := 25) rfl)) (fun zv44 ze45 => ?_)
      refine w_iload (List.Mem.head _) (tX6_begin_0_ok (45, .iload 4, 2) (List.mem_of_getElem? (i := 26) rfl)) ?_
      refine w_imul (by assumption) (by omega) (by omega) (tX6_begin_0_ok (47, .imul, 1) (List.mem_of_getElem? (i := 27) rfl)) (fun zv46 ze47 => ?_)
      refine w_iconst (by decide) (tX6_begin_0_ok (48, .iconst 0, 1) (List.mem_of_getElem? (i := 28) rfl)) (fun zv48 ze49 => ?_)
      refine w_iast hT zc39 (by omega) (by omega) (tX6_begin_0_ok (49, .iastore, 1) (List.mem_of_getElem? (i := 29) rfl)) (fun zh50 zc51 zo52 => ?_)
      have zc53 := (zo52 st (k_sg_ne s_st s_wa (by decide))).trans zc35
      have zc54 := (zo52 P (k_sg_ne s_P s_wa (by decide))).trans zc36
      have zc55 := (zo52 sx (k_sg_ne s_sx s_wa (by decide))).trans zc37
      have zc56 := (zo52 tr (k_sg_ne s_tr s_wa (by decide))).trans zc38
      have zc57 := (zo52 on (k_sg_ne s_on s_wa (by decide))).trans zc33
      have zc58 := (zo52 ps (k_sg_ne s_ps s_wa (by decide))).trans zc40
      have zbd61 := upd_tb (lo9 := 0) (hi9 := 99) (j := zv46.toInt.toNat) b_wa (show (0 : Int) ≤ zv48.toInt ∧ zv48.toInt ≤ 99 by omega)
      have zH59 := zH41.ast s_wa rfl zc51 zbd61 zo52
      have zu60 : k_U Sg [(3, 5), (3, 6), (19, 0), (20, 0), (21, 0), (22, 0)] zh32 zh50 := k_U.ast s_wa (by decide) zc39 zo52
      refine w_aload_n (List.Mem.tail _ (List.Mem.head _)) (tX6_begin_0_ok (50, .aload_n 0, 1) (List.mem_of_getElem? (i := 30) rfl)) ?_
      refine w_get (own := 11) rfl rfl (by decide) zc53 f3 (tX6_begin_0_ok (51, .getfield 22, 3) (List.mem_of_getElem? (i := 31) rfl)) ?_
      refine w_iconst (by decide) (tX6_begin_0_ok (54, .iconst 2, 1) (List.mem_of_getElem? (i := 32) rfl)) (fun zv62 ze63 => ?_)
      refine w_iload (List.Mem.head _) (tX6_begin_0_ok (55, .iload 4, 2) (List.mem_of_getElem? (i := 33) rfl)) ?_
      refine w_imul (by assumption) (by omega) (by omega) (tX6_begin_0_ok (57, .imul, 1) (List.mem_of_getElem? (i := 34) rfl)) (fun zv64 ze65 => ?_)
      refine w_iconst (by decide) (tX6_begin_0_ok (58, .iconst 1, 1) (List.mem_of_getElem? (i := 35) rfl)) (fun zv66 ze67 => ?_)
      refine w_iadd (by omega) (by omega) (tX6_begin_0_ok (59, .iadd, 1) (List.mem_of_getElem? (i := 36) rfl)) (fun zv68 ze69 => ?_)
      refine w_iconst (by decide) (tX6_begin_0_ok (60, .iconst 0, 1) (List.mem_of_getElem? (i := 37) rfl)) (fun zv70 ze71 => ?_)
      refine w_iast hT zc51 (by omega) (by omega) (tX6_begin_0_ok (61, .iastore, 1) (List.mem_of_getElem? (i := 38) rfl)) (fun zh72 zc73 zo74 => ?_)
      have zc75 := (zo74 st (k_sg_ne s_st s_wa (by decide))).trans zc53
      have zc76 := (zo74 P (k_sg_ne s_P s_wa (by decide))).trans zc54
      have zc77 := (zo74 sx (k_sg_ne s_sx s_wa (by decide))).trans zc55
      have zc78 := (zo74 tr (k_sg_ne s_tr s_wa (by decide))).trans zc56
      have zc79 := (zo74 on (k_sg_ne s_on s_wa (by decide))).trans zc57
      have zc80 := (zo74 ps (k_sg_ne s_ps s_wa (by decide))).trans zc58
      have zbd83 := upd_tb (lo9 := 0) (hi9 := 99) (j := zv68.toInt.toNat) zbd61 (show (0 : Int) ≤ zv70.toInt ∧ zv70.toInt ≤ 99 by omega)
      have zH81 := zH59.ast s_wa rfl zc73 zbd83 zo74
      have zu82 : k_U Sg [(3, 5), (3, 6), (19, 0), (20, 0), (21, 0), (22, 0)] zh50 zh72 := k_U.ast s_wa (by decide) zc51 zo74
      refine w_iinc (fun zv84 => [(4, .int zv84), (0, .ref st), (1, .ref P), (2, .long seed)]) (fun _ => rfl) (List.Mem.head _) (Nat.le_of_ble_eq_true rfl) (by decide) (by omega) (by omega) (tX6_begin_0_ok (62, .iinc 4 1, 3) (List.mem_of_getElem? (i := 39) rfl)) (fun zv84 ze85 => ?_)
      refine w_goto (tgt := 3) (tX6_begin_0_ok (65, .goto (-62), 3) (List.mem_of_getElem? (i := 40) rfl)) rfl ?_
      refine w_lv [(4, .int zv84), (0, .ref st), (1, .ref P), (2, .long seed)] (by intro q hq; simp only [List.mem_cons, List.not_mem_nil, or_false] at hq ⊢; rcases hq with e | e | e | e <;> subst e <;> simp) ?_
      exact ih (j - 1) (by omega) _ _ (by omega) (by omega) zH81 zc75 zc76 (fun g k1 q1 q2 q3 => hq g k1 q1 q2 ((((((zu16).tr zu29).tr zu42).tr zu60).tr zu82).tr q3))
theorem h_beg (hT : k_tys tys cA) {st P sx tr on wa ps : Nat} {fs fp : List Value} {seed : Int64} (s_st : Sg st = some 3) (s_P : Sg P = some 2) (s_sx : Sg sx = some 19) (s_tr : Sg tr = some 20) (s_on : Sg on = some 21) (s_wa : Sg wa = some 22) (s_ps : Sg ps = some 13) (fl : fs.length = 7) (f0 : fs[0]? = some (.ref sx)) (f1 : fs[1]? = some (.ref tr)) (f2 : fs[2]? = some (.ref on)) (f3 : fs[3]? = some (.ref wa)) (p3 : fp[3]? = some (.ref ps)) (hH : k_H Sg cA Lb h) (c_st : h st = some (.inr (6, fs))) (c_P : h P = some (.inr (4, fp))) (hq : ∀ g : ch_H, k_H Sg cA Lb g → k_U Sg [(3, 5), (3, 6), (19, 0), (20, 0), (21, 0), (22, 0)] h g → Q none g) : ww l D tys A X fr lo mX6_begin Q 0 [(0, .ref st), (1, .ref P), (2, .long seed)] [] h := by
  refine w_iconst (by decide) (tX6_begin_0_ok (0, .iconst 0, 1) (List.mem_of_getElem? (i := 0) rfl)) (fun zv1 ze2 => ?_)
  refine w_istore [(4, .int zv1), (0, .ref st), (1, .ref P), (2, .long seed)] rfl (Nat.le_of_ble_eq_true rfl) (tX6_begin_0_ok (1, .istore 4, 2) (List.mem_of_getElem? (i := 1) rfl)) ?_
  refine w_lv [(4, .int zv1), (0, .ref st), (1, .ref P), (2, .long seed)] (by intro q hq; simp only [List.mem_cons, List.not_mem_nil, or_false] at hq ⊢; rcases hq with e | e | e | e <;> subst e <;> simp) ?_
  refine h_beL hT s_st s_P s_sx s_tr s_on s_wa s_ps fl f0 f1 f2 f3 p3 6 _ _ (by omega) (by omega) hH c_st c_P (fun zg3 zka4 zq5 zq6 zq7 => ?_)
  show ww l D tys A X fr lo mX6_begin Q 68 [(4, .int zka4), (0, .ref st), (1, .ref P), (2, .long seed)] [] zg3
  refine w_aload_n (List.Mem.tail _ (List.Mem.head _)) (tX6_begin_0_ok (68, .aload_n 0, 1) (List.mem_of_getElem? (i := 41) rfl)) ?_
  refine w_iconst (by decide) (tX6_begin_0_ok (69, .iconst 0, 1) (List.mem_of_getElem? (i := 42) rfl)) (fun zv8 ze9 => ?_)
  refine w_putF (own := 11) (ci := 6) (k := 5) rfl rfl (by decide) rfl ⟨rfl, rfl⟩ zq6 (by rw [fl]; decide) (tX6_begin_0_ok (70, .putfield 33, 3) (List.mem_of_getElem? (i := 43) rfl)) (fun zh10 zfs13 zl14 zk15 zj16 zc11 zo12 => ?_)
  rw [fl] at zl14
  have zf17 := (zj16 0 (by decide)).trans f0
  have zf18 := (zj16 1 (by decide)).trans f1
  have zf19 := (zj16 2 (by decide)).trans f2
  have zf20 := (zj16 3 (by decide)).trans f3
  have zH21 := zq5.fld (k := 5) s_st rfl rfl zq6 zc11 zl14 zk15 (k_v.top _) zj16 zo12
  have zu22 : k_U Sg [(3, 5), (3, 6), (19, 0), (20, 0), (21, 0), (22, 0)] zg3 zh10 := k_U.put s_st (k := 5) (by decide) zq6 zc11 zj16 zo12
  refine w_aload_n (List.Mem.tail _ (List.Mem.head _)) (tX6_begin_0_ok (73, .aload_n 0, 1) (List.mem_of_getElem? (i := 44) rfl)) ?_
  refine w_lload_n (List.Mem.tail _ (List.Mem.tail _ (List.Mem.tail _ (List.Mem.head _)))) (tX6_begin_0_ok (74, .lload_n 2, 1) (List.mem_of_getElem? (i := 45) rfl)) ?_
  refine w_putF (own := 11) (ci := 6) (k := 6) rfl rfl (by decide) rfl ⟨rfl, rfl⟩ zc11 (by rw [zl14]; decide) (tX6_begin_0_ok (75, .putfield 37, 3) (List.mem_of_getElem? (i := 46) rfl)) (fun zh23 zfs26 zl27 zk28 zj29 zc24 zo25 => ?_)
  rw [zl14] at zl27
  have zf30 := (zj29 5 (by decide)).trans zk15
  have zf31 := (zj29 0 (by decide)).trans zf17
  have zf32 := (zj29 1 (by decide)).trans zf18
  have zf33 := (zj29 2 (by decide)).trans zf19
  have zf34 := (zj29 3 (by decide)).trans zf20
  have zH35 := zH21.fld (k := 6) s_st rfl rfl zc11 zc24 zl27 zk28 ⟨_, rfl⟩ zj29 zo25
  have zu36 : k_U Sg [(3, 5), (3, 6), (19, 0), (20, 0), (21, 0), (22, 0)] zh10 zh23 := k_U.put s_st (k := 6) (by decide) zc11 zc24 zj29 zo25
  refine w_vret rfl (tX6_begin_0_ok (78, .return_, 1) (List.mem_of_getElem? (i := 47) rfl)) ?_
  exact hq _ zH35 (((zq7).tr zu22).tr zu36)
theorem h_begT (hT : k_tys tys cA) {st P : Nat} {seed : Int64} (s_st : Sg st = some 3) (s_P : Sg P = some 2) (hH : k_H Sg cA Lb h) (hq : ∀ g : ch_H, k_H Sg cA Lb g → k_U Sg [(3, 5), (3, 6), (19, 0), (20, 0), (21, 0), (22, 0)] h g → Q none g) : ww l D tys A X fr lo mX6_begin Q 0 [(0, .ref st), (1, .ref P), (2, .long seed)] [] h := by
  obtain ⟨fs, c_st, fl, ty⟩ := hH.obj s_st (L := 3) rfl
  obtain ⟨v0, f0, t0⟩ := ty 0 _ rfl
  obtain ⟨sx, rfl, s_sx⟩ := k_v.ref t0
  obtain ⟨v1, f1, t1⟩ := ty 1 _ rfl
  obtain ⟨tr, rfl, s_tr⟩ := k_v.ref t1
  obtain ⟨v2, f2, t2⟩ := ty 2 _ rfl
  obtain ⟨on, rfl, s_on⟩ := k_v.ref t2
  obtain ⟨v3, f3, t3⟩ := ty 3 _ rfl
  obtain ⟨wa, rfl, s_wa⟩ := k_v.ref t3
  obtain ⟨fp, c_P, pl, tp⟩ := hH.obj s_P (L := 2) rfl
  obtain ⟨w3, p3, u3⟩ := tp 3 _ rfl
  obtain ⟨ps, rfl, s_ps⟩ := k_v.ref u3
  exact h_beg hT s_st s_P s_sx s_tr s_on s_wa s_ps fl f0 f1 f2 f3 p3 hH c_st c_P hq
theorem h_lvL (hT : k_tys tys cA) {fo nb : Nat} {gs : List Value} (s_fo : Sg fo = some 4) (s_nb : Sg nb = some 25) (f2 : gs[2]? = some (.ref nb)) : ∀ (j : Nat) (k : Int32) (h : ch_H), 0 ≤ k.toInt → k.toInt + j = 18 → k_H Sg cA Lb h → h fo = some (.inr (1, gs)) → (∀ (g : ch_H) (k1 : Int32), k_H Sg cA Lb g → g fo = some (.inr (1, gs)) → k_U Sg [(4, 0), (4, 3), (4, 5), (25, 0)] h g → ww l D tys A X fr lo mX1_leave Q 36 [(1, .int k1), (0, .ref fo)] [] g) → ww l D tys A X fr lo mX1_leave Q 17 [(1, .int k), (0, .ref fo)] [] h := by
  intro j
  induction j using Nat.strongRecOn with
  | ind j ih =>
    intro k h hk hj hH c_fo hq
    obtain ⟨gn, c_nb, -⟩ := hH.arr s_nb (L := 25) rfl
    refine w_iload_n (List.Mem.head _) (tX1_leave_0_ok (17, .iload_n 1, 1) (List.mem_of_getElem? (i := 11) rfl)) ?_
    refine w_bipush (by decide) (tX1_leave_0_ok (18, .bipush 18, 2) (List.mem_of_getElem? (i := 12) rfl)) (fun zv1 ze2 => ?_)
    refine w_icmp_ge (tgt := 36) (tX1_leave_0_ok (20, .if_icmp .ge 16, 3) (List.mem_of_getElem? (i := 13) rfl)) rfl (fun zb3 => ?_) (fun zb3 => ?_)
    · exact hq _ _ hH c_fo k_U.rf
    · refine w_aload_n (List.Mem.tail _ (List.Mem.head _)) (tX1_leave_0_ok (23, .aload_n 0, 1) (List.mem_of_getElem? (i := 14) rfl)) ?_
      refine w_get (own := 6) rfl rfl (by decide) c_fo f2 (tX1_leave_0_ok (24, .getfield 15, 3) (List.mem_of_getElem? (i := 15) rfl)) ?_
      refine w_iload_n (List.Mem.head _) (tX1_leave_0_ok (27, .iload_n 1, 1) (List.mem_of_getElem? (i := 16) rfl)) ?_
      refine w_iconst (by decide) (tX1_leave_0_ok (28, .iconst 0, 1) (List.mem_of_getElem? (i := 17) rfl)) (fun zv4 ze5 => ?_)
      refine w_iast hT c_nb (by omega) (by omega) (tX1_leave_0_ok (29, .iastore, 1) (List.mem_of_getElem? (i := 18) rfl)) (fun zh6 zc7 zo8 => ?_)
      have zc9 := (zo8 fo (k_sg_ne s_fo s_nb (by decide))).trans c_fo
      have zH10 := hH.ast s_nb rfl zc7 (top_b _ _) zo8
      have zu11 : k_U Sg [(4, 0), (4, 3), (4, 5), (25, 0)] h zh6 := k_U.ast s_nb (by decide) c_nb zo8
      refine w_iinc (fun zv12 => [(1, .int zv12), (0, .ref fo)]) (fun _ => rfl) (List.Mem.head _) (Nat.le_of_ble_eq_true rfl) (by decide) (by omega) (by omega) (tX1_leave_0_ok (30, .iinc 1 1, 3) (List.mem_of_getElem? (i := 19) rfl)) (fun zv12 ze13 => ?_)
      refine w_goto (tgt := 17) (tX1_leave_0_ok (33, .goto (-16), 3) (List.mem_of_getElem? (i := 20) rfl)) rfl ?_
      refine w_lv [(1, .int zv12), (0, .ref fo)] (by intro q hq; simp only [List.mem_cons, List.not_mem_nil, or_false] at hq ⊢; rcases hq with e | e <;> subst e <;> simp) ?_
      exact ih (j - 1) (by omega) _ _ (by omega) (by omega) zH10 zc9 (fun g k1 q1 q2 q3 => hq g k1 q1 q2 ((zu11).tr q3))
theorem h_leave (hT : k_tys tys cA) {fo nb : Nat} {gs : List Value} (s_fo : Sg fo = some 4) (s_nb : Sg nb = some 25) (gl : gs.length = 8) (f2 : gs[2]? = some (.ref nb)) (hH : k_H Sg cA Lb h) (c_fo : h fo = some (.inr (1, gs))) (hq : ∀ (g : ch_H) (gs1 : List Value) (z0 z3 z5 : Int32), k_H Sg cA Lb g → k_U Sg [(4, 0), (4, 3), (4, 5), (25, 0)] h g → g fo = some (.inr (1, gs1)) → gs1[0]? = some (.int z0) → gs1[3]? = some (.int z3) → gs1[5]? = some (.int z5) → z0.toInt = 0 → z3.toInt = 0 → z5.toInt = 0 → Q none g) : ww l D tys A X fr lo mX1_leave Q 0 [(0, .ref fo)] [] h := by
  refine w_aload_n (List.Mem.head _) (tX1_leave_0_ok (0, .aload_n 0, 1) (List.mem_of_getElem? (i := 0) rfl)) ?_
  refine w_iconst (by decide) (tX1_leave_0_ok (1, .iconst 0, 1) (List.mem_of_getElem? (i := 1) rfl)) (fun zv1 ze2 => ?_)
  refine w_putF (own := 6) (ci := 1) (k := 0) rfl rfl (by decide) rfl ⟨rfl, rfl⟩ c_fo (by rw [gl]; decide) (tX1_leave_0_ok (2, .putfield 27, 3) (List.mem_of_getElem? (i := 2) rfl)) (fun zh3 zfs6 zl7 zk8 zj9 zc4 zo5 => ?_)
  rw [gl] at zl7
  have zf10 := (zj9 2 (by decide)).trans f2
  have zH11 := hH.fld (k := 0) s_fo rfl rfl c_fo zc4 zl7 zk8 ⟨_, rfl, by show (0 : Int) ≤ _; omega, by show _ ≤ (6 : Int); omega⟩ zj9 zo5
  have zu12 : k_U Sg [(4, 0), (4, 3), (4, 5), (25, 0)] h zh3 := k_U.put s_fo (k := 0) (by decide) c_fo zc4 zj9 zo5
  refine w_aload_n (List.Mem.head _) (tX1_leave_0_ok (5, .aload_n 0, 1) (List.mem_of_getElem? (i := 3) rfl)) ?_
  refine w_iconst (by decide) (tX1_leave_0_ok (6, .iconst 0, 1) (List.mem_of_getElem? (i := 4) rfl)) (fun zv13 ze14 => ?_)
  refine w_putF (own := 6) (ci := 1) (k := 3) rfl rfl (by decide) rfl ⟨rfl, rfl⟩ zc4 (by rw [zl7]; decide) (tX1_leave_0_ok (7, .putfield 31, 3) (List.mem_of_getElem? (i := 5) rfl)) (fun zh15 zfs18 zl19 zk20 zj21 zc16 zo17 => ?_)
  rw [zl7] at zl19
  have zf22 := (zj21 0 (by decide)).trans zk8
  have zf23 := (zj21 2 (by decide)).trans zf10
  have zH24 := zH11.fld (k := 3) s_fo rfl rfl zc4 zc16 zl19 zk20 ⟨_, rfl, by show (0 : Int) ≤ _; omega, by show _ ≤ (8 : Int); omega⟩ zj21 zo17
  have zu25 : k_U Sg [(4, 0), (4, 3), (4, 5), (25, 0)] zh3 zh15 := k_U.put s_fo (k := 3) (by decide) zc4 zc16 zj21 zo17
  refine w_aload_n (List.Mem.head _) (tX1_leave_0_ok (10, .aload_n 0, 1) (List.mem_of_getElem? (i := 6) rfl)) ?_
  refine w_iconst (by decide) (tX1_leave_0_ok (11, .iconst 0, 1) (List.mem_of_getElem? (i := 7) rfl)) (fun zv26 ze27 => ?_)
  refine w_putF (own := 6) (ci := 1) (k := 5) rfl rfl (by decide) rfl ⟨rfl, rfl⟩ zc16 (by rw [zl19]; decide) (tX1_leave_0_ok (12, .putfield 34, 3) (List.mem_of_getElem? (i := 8) rfl)) (fun zh28 zfs31 zl32 zk33 zj34 zc29 zo30 => ?_)
  rw [zl19] at zl32
  have zf35 := (zj34 3 (by decide)).trans zk20
  have zf36 := (zj34 0 (by decide)).trans zf22
  have zf37 := (zj34 2 (by decide)).trans zf23
  have zH38 := zH24.fld (k := 5) s_fo rfl rfl zc16 zc29 zl32 zk33 ⟨_, rfl, by show (0 : Int) ≤ _; omega, by show _ ≤ (6 : Int); omega⟩ zj34 zo30
  have zu39 : k_U Sg [(4, 0), (4, 3), (4, 5), (25, 0)] zh15 zh28 := k_U.put s_fo (k := 5) (by decide) zc16 zc29 zj34 zo30
  refine w_iconst (by decide) (tX1_leave_0_ok (15, .iconst 0, 1) (List.mem_of_getElem? (i := 9) rfl)) (fun zv40 ze41 => ?_)
  refine w_istore_n [(1, .int zv40), (0, .ref fo)] rfl (Nat.le_of_ble_eq_true rfl) (tX1_leave_0_ok (16, .istore_n 1, 1) (List.mem_of_getElem? (i := 10) rfl)) ?_
  refine w_lv [(1, .int zv40), (0, .ref fo)] (by intro q hq; simp only [List.mem_cons, List.not_mem_nil, or_false] at hq ⊢; rcases hq with e | e <;> subst e <;> simp) ?_
  refine h_lvL hT s_fo s_nb zf37 18 _ _ (by omega) (by omega) zH38 zc29 (fun zg42 zka43 zq44 zq45 zq46 => ?_)
  show ww l D tys A X fr lo mX1_leave Q 36 [(1, .int zka43), (0, .ref fo)] [] zg42
  refine w_vret rfl (tX1_leave_0_ok (36, .return_, 1) (List.mem_of_getElem? (i := 21) rfl)) ?_
  exact hq _ zfs31 _ _ _ zq44 ((((zu12).tr zu25).tr zu39).tr zq46) zq45 zf36 zf35 zk33 (by omega) (by omega) (by omega)
theorem h_ntL (hT : k_tys tys cA) {x wn sn t Pa P no fo o3 : Nat} {xs : List Value} {seed : Int64} (xl : xs.length = 19) (f0 : xs[0]? = some (.ref t)) (f1 : xs[1]? = some (.ref Pa)) (f2 : xs[2]? = some (.ref P)) (f3 : xs[3]? = some (.ref no)) (f8 : xs[8]? = some (.ref fo)) (f10 : xs[10]? = some (.ref wn)) (f11 : xs[11]? = some (.ref sn)) (s_x : Sg x = some 0) (s_t : Sg t = some 1) (s_Pa : Sg Pa = some 2) (s_P : Sg P = some 2) (s_no : Sg no = some 3) (s_fo : Sg fo = some 4) (s_wn : Sg wn = some 32) (s_sn : Sg sn = some 32) : ∀ (j : Nat) (k : Int32) (h : ch_H), 0 ≤ k.toInt → k.toInt + j = 12 → k_H Sg cA Lb h → h x = some (.inr (9, xs)) → (∀ (g : ch_H) (k1 : Int32), k_H Sg cA Lb g → g x = some (.inr (9, xs)) → k_U Sg [(32, 0)] h g → ww l D tys A X fr lo mX10_newTown Q 101 [(4, .int k1), (0, .ref x), (1, .long seed), (3, .ref o3)] [] g) → ww l D tys A X fr lo mX10_newTown Q 72 [(4, .int k), (0, .ref x), (1, .long seed), (3, .ref o3)] [] h := by
  intro j
  induction j using Nat.strongRecOn with
  | ind j ih =>
    intro k h hk hj hH c_x hq
    refine w_iload (List.Mem.head _) (tX10_newTown_0_ok (72, .iload 4, 2) (List.mem_of_getElem? (i := 37) rfl)) ?_
    refine w_bipush (by decide) (tX10_newTown_0_ok (74, .bipush 12, 2) (List.mem_of_getElem? (i := 38) rfl)) (fun zv1 ze2 => ?_)
    refine w_icmp_ge (tgt := 101) (tX10_newTown_0_ok (76, .if_icmp .ge 25, 3) (List.mem_of_getElem? (i := 39) rfl)) rfl (fun zb3 => ?_) (fun zb3 => ?_)
    · exact hq _ _ hH c_x k_U.rf
    · refine w_aload_n (List.Mem.tail _ (List.Mem.head _)) (tX10_newTown_0_ok (79, .aload_n 0, 1) (List.mem_of_getElem? (i := 40) rfl)) ?_
      refine w_get (own := 15) rfl rfl (by decide) c_x f10 (tX10_newTown_0_ok (80, .getfield 53, 3) (List.mem_of_getElem? (i := 41) rfl)) ?_
      refine w_iload (List.Mem.head _) (tX10_newTown_0_ok (83, .iload 4, 2) (List.mem_of_getElem? (i := 42) rfl)) ?_
      refine w_iconst (by decide) (tX10_newTown_0_ok (85, .iconst (-1), 1) (List.mem_of_getElem? (i := 43) rfl)) (fun zv4 ze5 => ?_)
      obtain ⟨zgq12, zc11, -⟩ := (show k_H Sg cA Lb h from hH).arr s_wn (L := 32) rfl
      refine w_iast hT zc11 (by omega) (by omega) (tX10_newTown_0_ok (86, .iastore, 1) (List.mem_of_getElem? (i := 44) rfl)) (fun zh13 zc14 zo9 => ?_)
      have zH7 := (show k_H Sg cA Lb h from hH).ast s_wn rfl zc14 (top_b _ _) zo9
      have zu8 : k_U Sg [(32, 0)] h zh13 := k_U.ast s_wn (by decide) zc11 zo9
      have zc10 := (zo9 x (k_sg_ne s_x s_wn (by decide))).trans c_x
      show ww l D tys A X fr lo mX10_newTown Q 87 [(4, .int k), (0, .ref x), (1, .long seed), (3, .ref o3)] [] zh13
      refine w_aload_n (List.Mem.tail _ (List.Mem.head _)) (tX10_newTown_0_ok (87, .aload_n 0, 1) (List.mem_of_getElem? (i := 45) rfl)) ?_
      refine w_get (own := 15) rfl rfl (by decide) zc10 f11 (tX10_newTown_0_ok (88, .getfield 57, 3) (List.mem_of_getElem? (i := 46) rfl)) ?_
      refine w_iload (List.Mem.head _) (tX10_newTown_0_ok (91, .iload 4, 2) (List.mem_of_getElem? (i := 47) rfl)) ?_
      refine w_iconst (by decide) (tX10_newTown_0_ok (93, .iconst (-1), 1) (List.mem_of_getElem? (i := 48) rfl)) (fun zv15 ze16 => ?_)
      obtain ⟨zgq23, zc22, -⟩ := (show k_H Sg cA Lb zh13 from zH7).arr s_sn (L := 32) rfl
      refine w_iast hT zc22 (by omega) (by omega) (tX10_newTown_0_ok (94, .iastore, 1) (List.mem_of_getElem? (i := 49) rfl)) (fun zh24 zc25 zo20 => ?_)
      have zH18 := (show k_H Sg cA Lb zh13 from zH7).ast s_sn rfl zc25 (top_b _ _) zo20
      have zu19 : k_U Sg [(32, 0)] zh13 zh24 := k_U.ast s_sn (by decide) zc22 zo20
      have zc21 := (zo20 x (k_sg_ne s_x s_sn (by decide))).trans zc10
      show ww l D tys A X fr lo mX10_newTown Q 95 [(4, .int k), (0, .ref x), (1, .long seed), (3, .ref o3)] [] zh24
      refine w_iinc (fun zv26 => [(4, .int zv26), (0, .ref x), (1, .long seed), (3, .ref o3)]) (fun _ => rfl) (List.Mem.head _) (Nat.le_of_ble_eq_true rfl) (by decide) (by omega) (by omega) (tX10_newTown_0_ok (95, .iinc 4 1, 3) (List.mem_of_getElem? (i := 50) rfl)) (fun zv26 ze27 => ?_)
      refine w_goto (tgt := 72) (tX10_newTown_0_ok (98, .goto (-26), 3) (List.mem_of_getElem? (i := 51) rfl)) rfl ?_
      refine w_lv [(4, .int zv26), (0, .ref x), (1, .long seed), (3, .ref o3)] (by intro q hq; simp only [List.mem_cons, List.not_mem_nil, or_false] at hq ⊢; rcases hq with e | e | e | e <;> subst e <;> simp) ?_
      exact ih (j - 1) (by omega) _ _ (by omega) (by omega) zH18 zc21 (fun g k1 q1 q2 q3 => hq g k1 q1 q2 (((zu8).tr zu19).tr q3))
theorem h_newTown (hT : k_tys tys cA) (hlv : k_sat l D tys A X Sg cA Lb (25, [(2, 4, 0)], [], none, [(4, 0), (4, 3), (4, 5), (25, 0)], 0, 0)) (hf : 8 ≤ fr) (hl : 300 ≤ lo) {x wn sn t b Pa P no fo : Nat} {f : Nat → Int32} {len at0 fl0 : Int32} {xs : List Value} {seed : Int64} (xl : xs.length = 19) (f0 : xs[0]? = some (.ref t)) (f1 : xs[1]? = some (.ref Pa)) (f2 : xs[2]? = some (.ref P)) (f3 : xs[3]? = some (.ref no)) (f8 : xs[8]? = some (.ref fo)) (f10 : xs[10]? = some (.ref wn)) (f11 : xs[11]? = some (.ref sn)) (s_x : Sg x = some 0) (s_t : Sg t = some 1) (s_Pa : Sg Pa = some 2) (s_P : Sg P = some 2) (s_no : Sg no = some 3) (s_fo : Sg fo = some 4) (s_wn : Sg wn = some 32) (s_sn : Sg sn = some 32) (s_b : Sg b = some 10) (hH : k_H Sg cA Lb h) (c_x : h x = some (.inr (9, xs))) (T : tp0 cA h t b f len at0 fl0) (hq : ∀ (g : ch_H) (v : Int32), k_H Sg cA Lb g → k_U Sg [(0, 1), (0, 2), (0, 6), (1, 1), (1, 2), (1, 3), (2, 0), (3, 5), (3, 6), (4, 0), (4, 3), (4, 5), (11, 0), (12, 0), (13, 0), (14, 0), (15, 0), (16, 0), (17, 0), (18, 0), (19, 0), (20, 0), (21, 0), (22, 0), (25, 0), (32, 0)] h g → ∀ z at1 fl1 : Int32, g t = some (.inr (7, [.ref b, .int z, .int at1, .int fl1])) → ((∃ q, (sp_town f len.toInt.toNat).1 = .inr q) ∧ z.toInt = 0 ∧ v.toInt = ((sp_town f len.toInt.toNat).2 : Int) ∧ (∃ (xs1 ps1 gs1 : List Value) (z0 z3 z5 : Int32), g x = some (.inr (9, xs1)) ∧ xs1[1]? = some (.ref P) ∧ xs1[2]? = some (.ref Pa) ∧ xs1[8]? = some (.ref fo) ∧ g P = some (.inr (4, ps1)) ∧ ps1[0]? = some (.int v) ∧ g fo = some (.inr (1, gs1)) ∧ gs1[0]? = some (.int z0) ∧ gs1[3]? = some (.int z3) ∧ gs1[5]? = some (.int z5) ∧ z0.toInt = 0 ∧ z3.toInt = 0 ∧ z5.toInt = 0) ∨ (∃ e, (sp_town f len.toInt.toNat).1 = .inl e) ∧ z = len ∧ v.toInt = -1 ∧ g x = h x ∧ (∀ a, Sg a = some 2 → a ≠ P → g a = h a) ∧ ∀ a, Sg a = some 4 → g a = h a) → Q (some (.int v)) g) : ww l D tys A X fr lo mX10_newTown Q 0 [(0, .ref x), (1, .long seed)] [] h := by
  have c_t0 := T.1
  have c_t := T.1
  refine w_aload_n (List.Mem.head _) (tX10_newTown_0_ok (0, .aload_n 0, 1) (List.mem_of_getElem? (i := 0) rfl)) ?_
  refine w_get (own := 15) rfl rfl (by decide) c_x f0 (tX10_newTown_0_ok (1, .getfield 10, 3) (List.mem_of_getElem? (i := 1) rfl)) ?_
  refine w_aload_n (List.Mem.head _) (tX10_newTown_0_ok (4, .aload_n 0, 1) (List.mem_of_getElem? (i := 2) rfl)) ?_
  refine w_get (own := 15) rfl rfl (by decide) c_x f2 (tX10_newTown_0_ok (5, .getfield 23, 3) (List.mem_of_getElem? (i := 3) rfl)) ?_
  obtain ⟨a1, a2, a3, a4, a5, a6, a7, a8, g1, g2, g3, s_a1, s_a2, s_a3, s_a4, s_a5, s_a6, s_a7, s_a8, HP⟩ := T_pn hH s_P
  have HP9 := HP
  obtain ⟨⟨ro0, c_P0, -, -⟩, -⟩ := HP9
  refine w_callS (own := 15) (mi := 83) [.ref t, .ref P] [] [(0, .ref t), (1, .ref P)] rfl (cllw_X10 (110, 1, 83) (List.mem_of_getElem? (i := 2) rfl)) rfl rfl (by omega) (w_lo (n := 22) rfl (by omega)) (Nat.le_of_ble_eq_true rfl) (Nat.le_of_ble_eq_true rfl) rfl (tX10_newTown_0_ok (8, .invokestatic 110, 3) (List.mem_of_getElem? (i := 4) rfl)) (s_town hT (pns_of s_t s_b s_P s_a1 s_a2 s_a3 s_a4 s_a5 s_a6 s_a7 s_a8) ⟨by omega, w_sub (n := 22) rfl (by omega)⟩ T HP (fun h1 at1 fl1 k1 k2 k3 T1 P1 e1 e2 o1 => ?_))
  obtain ⟨hH1, u1⟩ := T_back hH s_t s_b s_P s_a1 s_a2 s_a3 s_a4 s_a5 s_a6 s_a7 s_a8 c_t0 c_P0 T1 P1 o1
  have c_x1 : h1 x = some (.inr (9, xs)) := (k_U.same hH u1 s_x (by decide)).trans c_x
  have c_t1 := T1.1
  have c_b1 := T1.2.1
  show ww l D tys A X fr lo mX10_newTown Q 11 [(0, .ref x), (1, .long seed)] [] h1
  refine w_aload_n (List.Mem.head _) (tX10_newTown_0_ok (11, .aload_n 0, 1) (List.mem_of_getElem? (i := 5) rfl)) ?_
  refine w_get (own := 15) rfl rfl (by decide) c_x1 f0 (tX10_newTown_0_ok (12, .getfield 10, 3) (List.mem_of_getElem? (i := 6) rfl)) ?_
  refine w_get (own := 15) rfl rfl (by decide) c_t1 rfl (tX10_newTown_0_ok (15, .getfield 116, 3) (List.mem_of_getElem? (i := 7) rfl)) ?_
  refine w_iconst (by decide) (tX10_newTown_0_ok (18, .iconst (-1), 1) (List.mem_of_getElem? (i := 8) rfl)) (fun zv1 ze2 => ?_)
  refine w_icmp_eq (tgt := 24) (tX10_newTown_0_ok (19, .if_icmp .eq 5, 3) (List.mem_of_getElem? (i := 9) rfl)) rfl (fun zb3 => ?_) (fun zb3 => ?_)
  · obtain ⟨ro9, c_P9, e_ro9⟩ := e2 (by omega)
    refine w_aload_n (List.Mem.head _) (tX10_newTown_0_ok (24, .aload_n 0, 1) (List.mem_of_getElem? (i := 12) rfl)) ?_
    refine w_get (own := 15) rfl rfl (by decide) c_x1 f1 (tX10_newTown_0_ok (25, .getfield 19, 3) (List.mem_of_getElem? (i := 13) rfl)) ?_
    refine w_astore_n [(3, .ref Pa), (0, .ref x), (1, .long seed)] rfl (Nat.le_of_ble_eq_true rfl) (tX10_newTown_0_ok (28, .astore_n 3, 1) (List.mem_of_getElem? (i := 14) rfl)) ?_
    refine w_aload_n (List.Mem.tail _ (List.Mem.head _)) (tX10_newTown_0_ok (29, .aload_n 0, 1) (List.mem_of_getElem? (i := 15) rfl)) ?_
    refine w_aload_n (List.Mem.tail _ (List.Mem.head _)) (tX10_newTown_0_ok (30, .aload_n 0, 1) (List.mem_of_getElem? (i := 16) rfl)) ?_
    refine w_get (own := 15) rfl rfl (by decide) c_x1 f2 (tX10_newTown_0_ok (31, .getfield 23, 3) (List.mem_of_getElem? (i := 17) rfl)) ?_
    refine w_putF (own := 15) (ci := 9) (k := 1) rfl rfl (by decide) rfl ⟨rfl, rfl⟩ c_x1 (by rw [xl]; decide) (tX10_newTown_0_ok (34, .putfield 19, 3) (List.mem_of_getElem? (i := 18) rfl)) (fun zh4 zfs7 zl8 zk9 zj10 zc5 zo6 => ?_)
    rw [xl] at zl8
    have zf11 := (zj10 0 (by decide)).trans f0
    have zf12 := (zj10 2 (by decide)).trans f2
    have zf13 := (zj10 3 (by decide)).trans f3
    have zf14 := (zj10 8 (by decide)).trans f8
    have zf15 := (zj10 10 (by decide)).trans f10
    have zf16 := (zj10 11 (by decide)).trans f11
    have zc17 := (zo6 t (k_sg_ne s_t s_x (by decide))).trans c_t1
    have zc18 := (zo6 P (k_sg_ne s_P s_x (by decide))).trans c_P9
    have zH19 := hH1.fld (k := 1) s_x rfl rfl c_x1 zc5 zl8 zk9 ⟨_, rfl, s_P⟩ zj10 zo6
    have zu20 : k_U Sg [(0, 1), (0, 2), (0, 6), (1, 1), (1, 2), (1, 3), (2, 0), (3, 5), (3, 6), (4, 0), (4, 3), (4, 5), (11, 0), (12, 0), (13, 0), (14, 0), (15, 0), (16, 0), (17, 0), (18, 0), (19, 0), (20, 0), (21, 0), (22, 0), (25, 0), (32, 0)] h1 zh4 := k_U.put s_x (k := 1) (by decide) c_x1 zc5 zj10 zo6
    refine w_aload_n (List.Mem.tail _ (List.Mem.head _)) (tX10_newTown_0_ok (37, .aload_n 0, 1) (List.mem_of_getElem? (i := 19) rfl)) ?_
    refine w_aload_n (List.Mem.head _) (tX10_newTown_0_ok (38, .aload_n 3, 1) (List.mem_of_getElem? (i := 20) rfl)) ?_
    refine w_putF (own := 15) (ci := 9) (k := 2) rfl rfl (by decide) rfl ⟨rfl, rfl⟩ zc5 (by rw [zl8]; decide) (tX10_newTown_0_ok (39, .putfield 23, 3) (List.mem_of_getElem? (i := 21) rfl)) (fun zh21 zfs24 zl25 zk26 zj27 zc22 zo23 => ?_)
    rw [zl8] at zl25
    have zf28 := (zj27 1 (by decide)).trans zk9
    have zf29 := (zj27 0 (by decide)).trans zf11
    have zf30 := (zj27 3 (by decide)).trans zf13
    have zf31 := (zj27 8 (by decide)).trans zf14
    have zf32 := (zj27 10 (by decide)).trans zf15
    have zf33 := (zj27 11 (by decide)).trans zf16
    have zc34 := (zo23 t (k_sg_ne s_t s_x (by decide))).trans zc17
    have zc35 := (zo23 P (k_sg_ne s_P s_x (by decide))).trans zc18
    have zH36 := zH19.fld (k := 2) s_x rfl rfl zc5 zc22 zl25 zk26 ⟨_, rfl, s_Pa⟩ zj27 zo23
    have zu37 : k_U Sg [(0, 1), (0, 2), (0, 6), (1, 1), (1, 2), (1, 3), (2, 0), (3, 5), (3, 6), (4, 0), (4, 3), (4, 5), (11, 0), (12, 0), (13, 0), (14, 0), (15, 0), (16, 0), (17, 0), (18, 0), (19, 0), (20, 0), (21, 0), (22, 0), (25, 0), (32, 0)] zh4 zh21 := k_U.put s_x (k := 2) (by decide) zc5 zc22 zj27 zo23
    refine w_aload_n (List.Mem.tail _ (List.Mem.head _)) (tX10_newTown_0_ok (42, .aload_n 0, 1) (List.mem_of_getElem? (i := 22) rfl)) ?_
    refine w_get (own := 15) rfl rfl (by decide) zc22 zf29 (tX10_newTown_0_ok (43, .getfield 10, 3) (List.mem_of_getElem? (i := 23) rfl)) ?_
    refine w_iconst (by decide) (tX10_newTown_0_ok (46, .iconst 0, 1) (List.mem_of_getElem? (i := 24) rfl)) (fun zv38 ze39 => ?_)
    refine w_put (own := 15) [.ref b, .int zv38, .int at1, .int fl1] rfl rfl rfl (by decide) rfl ⟨rfl, rfl⟩ zc34 (Nat.le_of_ble_eq_true rfl) (tX10_newTown_0_ok (47, .putfield 103, 3) (List.mem_of_getElem? (i := 25) rfl)) (fun zh40 zc41 zo42 => ?_)
    have zc43 := (zo42 x (k_sg_ne s_x s_t (by decide))).trans zc22
    have zc44 := (zo42 P (k_sg_ne s_P s_t (by decide))).trans zc35
    have zH45 := zH36.fld (k := 1) s_t rfl rfl zc34 zc41 rfl rfl ⟨_, rfl, by show (0 : Int) ≤ _; omega, by show _ ≤ (160 : Int); omega⟩ (fun j hj => by match j, hj with | 0, _ => rfl | 1, hj => exact absurd rfl hj | j + 2, _ => rfl) zo42
    have zu46 : k_U Sg [(0, 1), (0, 2), (0, 6), (1, 1), (1, 2), (1, 3), (2, 0), (3, 5), (3, 6), (4, 0), (4, 3), (4, 5), (11, 0), (12, 0), (13, 0), (14, 0), (15, 0), (16, 0), (17, 0), (18, 0), (19, 0), (20, 0), (21, 0), (22, 0), (25, 0), (32, 0)] zh21 zh40 := k_U.put s_t (k := 1) (by decide) zc34 zc41 (fun j hj => by match j, hj with | 0, _ => rfl | 1, hj => exact absurd rfl hj | j + 2, _ => rfl) zo42
    refine w_aload_n (List.Mem.tail _ (List.Mem.head _)) (tX10_newTown_0_ok (50, .aload_n 0, 1) (List.mem_of_getElem? (i := 26) rfl)) ?_
    refine w_get (own := 15) rfl rfl (by decide) zc43 zf30 (tX10_newTown_0_ok (51, .getfield 29, 3) (List.mem_of_getElem? (i := 27) rfl)) ?_
    refine w_aload_n (List.Mem.tail _ (List.Mem.head _)) (tX10_newTown_0_ok (54, .aload_n 0, 1) (List.mem_of_getElem? (i := 28) rfl)) ?_
    refine w_get (own := 15) rfl rfl (by decide) zc43 zf28 (tX10_newTown_0_ok (55, .getfield 19, 3) (List.mem_of_getElem? (i := 29) rfl)) ?_
    refine w_lload_n (List.Mem.tail _ (List.Mem.tail _ (List.Mem.head _))) (tX10_newTown_0_ok (58, .lload_n 1, 1) (List.mem_of_getElem? (i := 30) rfl)) ?_
    obtain ⟨zfq50, zc51, -, -⟩ := (show k_H Sg cA Lb zh40 from zH45).obj s_no (L := 3) rfl
    refine w_callV (own := 15) (mi := 67) [.ref P, .long seed] [] [(0, .ref no), (1, .ref P), (2, .long seed)] rfl (cllw_X10 (130, 0, 67) (List.mem_of_getElem? (i := 5) rfl)) rfl rfl zc51 rfl (by omega) (w_lo (n := 24) rfl (by omega)) (Nat.le_of_ble_eq_true rfl) (Nat.le_of_ble_eq_true rfl) rfl (tX10_newTown_0_ok (59, .invokevirtual 130, 3) (List.mem_of_getElem? (i := 31) rfl)) (h_begT hT s_no s_P zH45 (fun zg47 zq48 zq49 => ?_))
    have zc52 := (k_U.same zH45 zq49 s_x (by decide)).trans zc43
    have zc53 := (k_U.same zH45 zq49 s_t (by decide)).trans zc41
    have zc54 := (k_U.same zH45 zq49 s_P (by decide)).trans zc44
    show ww l D tys A X fr lo mX10_newTown Q 62 [(3, .ref Pa), (0, .ref x), (1, .long seed)] [] zg47
    refine w_aload_n (List.Mem.tail _ (List.Mem.head _)) (tX10_newTown_0_ok (62, .aload_n 0, 1) (List.mem_of_getElem? (i := 32) rfl)) ?_
    refine w_get (own := 15) rfl rfl (by decide) zc52 zf31 (tX10_newTown_0_ok (63, .getfield 42, 3) (List.mem_of_getElem? (i := 33) rfl)) ?_
    obtain ⟨zfq69, zc70, zl71, zty72⟩ := (show k_H Sg cA Lb zg47 from zq48).obj s_fo (L := 4) rfl
    obtain ⟨zv73, zw74, zt75⟩ := zty72 2 _ rfl
    obtain ⟨znb76, rfl, s_znb76⟩ := k_v.ref zt75
    refine w_callV (own := 15) (mi := 25) [] [] [(0, .ref fo)] rfl (cllw_X10 (134, 0, 25) (List.mem_of_getElem? (i := 6) rfl)) rfl rfl zc70 rfl (by omega) (w_lo (n := 21) rfl (by omega)) (Nat.le_of_ble_eq_true rfl) (Nat.le_of_ble_eq_true rfl) rfl (tX10_newTown_0_ok (66, .invokevirtual 134, 3) (List.mem_of_getElem? (i := 34) rfl)) (h_leave hT s_fo s_znb76 zl71 zw74 zq48 zc70 (fun zg55 zgs56 zz66 zz67 zz68 zq57 zq58 zc59 ze60 ze61 ze62 zn63 zn64 zn65 => ?_))
    have zc77 := (k_U.same zq48 zq58 s_x (by decide)).trans zc52
    have zc78 := (k_U.same zq48 zq58 s_t (by decide)).trans zc53
    have zc79 := (k_U.same zq48 zq58 s_P (by decide)).trans zc54
    show ww l D tys A X fr lo mX10_newTown Q 69 [(3, .ref Pa), (0, .ref x), (1, .long seed)] [] zg55
    refine w_iconst (by decide) (tX10_newTown_0_ok (69, .iconst 0, 1) (List.mem_of_getElem? (i := 35) rfl)) (fun zv80 ze81 => ?_)
    refine w_istore [(4, .int zv80), (3, .ref Pa), (0, .ref x), (1, .long seed)] rfl (Nat.le_of_ble_eq_true rfl) (tX10_newTown_0_ok (70, .istore 4, 2) (List.mem_of_getElem? (i := 36) rfl)) ?_
    refine w_lv [(4, .int zv80), (0, .ref x), (1, .long seed), (3, .ref Pa)] (by intro q hq; simp only [List.mem_cons, List.not_mem_nil, or_false] at hq ⊢; rcases hq with e | e | e | e <;> subst e <;> simp) ?_
    refine h_ntL hT (t := t)  (no := no) (fo := fo) zl25 zf29 zf28 zk26 zf30 zf31 zf32 zf33 s_x s_t s_P s_Pa s_no s_fo s_wn s_sn 12 _ _ (by omega) (by omega) zq57 zc77 (fun zg82 zka83 zq84 zq85 zq86 => ?_)
    have zc87 := (k_U.same zq57 zq86 s_t (by decide)).trans zc78
    have zc88 := (k_U.same zq57 zq86 s_P (by decide)).trans zc79
    have zc89 := (k_U.same zq57 zq86 s_fo (by decide)).trans zc59
    show ww l D tys A X fr lo mX10_newTown Q 101 [(4, .int zka83), (0, .ref x), (1, .long seed), (3, .ref Pa)] [] zg82
    refine w_aload_n (List.Mem.tail _ (List.Mem.head _)) (tX10_newTown_0_ok (101, .aload_n 0, 1) (List.mem_of_getElem? (i := 52) rfl)) ?_
    refine w_iconst (by decide) (tX10_newTown_0_ok (102, .iconst 0, 1) (List.mem_of_getElem? (i := 53) rfl)) (fun zv90 ze91 => ?_)
    refine w_putF (own := 15) (ci := 9) (k := 6) rfl rfl (by decide) rfl ⟨(kn_nz (by omega) (by omega)).1, (kn_nz (by omega) (by omega)).2.1⟩ zq85 (by rw [zl25]; decide) (tX10_newTown_0_ok (103, .putfield 137, 3) (List.mem_of_getElem? (i := 54) rfl)) (fun zh92 zfs95 zl96 zk97 zj98 zc93 zo94 => ?_)
    rw [zl25] at zl96
    have zf99 := (zj98 2 (by decide)).trans zk26
    have zf100 := (zj98 1 (by decide)).trans zf28
    have zf101 := (zj98 0 (by decide)).trans zf29
    have zf102 := (zj98 3 (by decide)).trans zf30
    have zf103 := (zj98 8 (by decide)).trans zf31
    have zf104 := (zj98 10 (by decide)).trans zf32
    have zf105 := (zj98 11 (by decide)).trans zf33
    have zc106 := (zo94 t (k_sg_ne s_t s_x (by decide))).trans zc87
    have zc107 := (zo94 P (k_sg_ne s_P s_x (by decide))).trans zc88
    have zc108 := (zo94 fo (k_sg_ne s_fo s_x (by decide))).trans zc89
    have zH109 := zq84.fld (k := 6) s_x rfl rfl zq85 zc93 zl96 zk97 ⟨_, rfl, by show (0 : Int) ≤ _; omega, by show _ ≤ (1 : Int); omega⟩ zj98 zo94
    have zu110 : k_U Sg [(0, 1), (0, 2), (0, 6), (1, 1), (1, 2), (1, 3), (2, 0), (3, 5), (3, 6), (4, 0), (4, 3), (4, 5), (11, 0), (12, 0), (13, 0), (14, 0), (15, 0), (16, 0), (17, 0), (18, 0), (19, 0), (20, 0), (21, 0), (22, 0), (25, 0), (32, 0)] zg82 zh92 := k_U.put s_x (k := 6) (by decide) zq85 zc93 zj98 zo94
    refine w_aload_n (List.Mem.tail _ (List.Mem.head _)) (tX10_newTown_0_ok (106, .aload_n 0, 1) (List.mem_of_getElem? (i := 55) rfl)) ?_
    refine w_get (own := 15) rfl rfl (by decide) zc93 zf100 (tX10_newTown_0_ok (107, .getfield 19, 3) (List.mem_of_getElem? (i := 56) rfl)) ?_
    refine w_get (own := 15) rfl rfl (by decide) zc107 rfl (tX10_newTown_0_ok (110, .getfield 95, 3) (List.mem_of_getElem? (i := 57) rfl)) ?_
    refine w_iret rfl (tX10_newTown_0_ok (113, .ireturn, 1) (List.mem_of_getElem? (i := 58) rfl)) ?_
    obtain ⟨q9, q8, q7⟩ := sp_is.inr e1 (by omega)
    exact hq _ _ zH109 (((((((((k_U.sub (W' := [(0, 1), (0, 2), (0, 6), (1, 1), (1, 2), (1, 3), (2, 0), (3, 5), (3, 6), (4, 0), (4, 3), (4, 5), (11, 0), (12, 0), (13, 0), (14, 0), (15, 0), (16, 0), (17, 0), (18, 0), (19, 0), (20, 0), (21, 0), (22, 0), (25, 0), (32, 0)]) (by decide) u1)).tr zu20).tr zu37).tr zu46).tr (k_U.sub (W' := [(0, 1), (0, 2), (0, 6), (1, 1), (1, 2), (1, 3), (2, 0), (3, 5), (3, 6), (4, 0), (4, 3), (4, 5), (11, 0), (12, 0), (13, 0), (14, 0), (15, 0), (16, 0), (17, 0), (18, 0), (19, 0), (20, 0), (21, 0), (22, 0), (25, 0), (32, 0)]) (by decide) zq49)).tr (k_U.sub (W' := [(0, 1), (0, 2), (0, 6), (1, 1), (1, 2), (1, 3), (2, 0), (3, 5), (3, 6), (4, 0), (4, 3), (4, 5), (11, 0), (12, 0), (13, 0), (14, 0), (15, 0), (16, 0), (17, 0), (18, 0), (19, 0), (20, 0), (21, 0), (22, 0), (25, 0), (32, 0)]) (by decide) zq58)).tr (k_U.sub (W' := [(0, 1), (0, 2), (0, 6), (1, 1), (1, 2), (1, 3), (2, 0), (3, 5), (3, 6), (4, 0), (4, 3), (4, 5), (11, 0), (12, 0), (13, 0), (14, 0), (15, 0), (16, 0), (17, 0), (18, 0), (19, 0), (20, 0), (21, 0), (22, 0), (25, 0), (32, 0)]) (by decide) zq86)).tr zu110) zv38 at1 fl1 zc106 (Or.inl ⟨⟨q9, q8⟩, by omega, e_ro9, _, _, _, _, _, _, zc93, zf100, zf99, zf103, zc107, rfl, zc108, ze60, ze61, ze62, zn63, zn64, zn65⟩)
  · refine w_iconst (by decide) (tX10_newTown_0_ok (22, .iconst (-1), 1) (List.mem_of_getElem? (i := 10) rfl)) (fun zv111 ze112 => ?_)
    refine w_iret rfl (tX10_newTown_0_ok (23, .ireturn, 1) (List.mem_of_getElem? (i := 11) rfl)) ?_
    obtain ⟨q9, q8, q7⟩ := sp_is.inl e1 (by omega)
    exact hq _ _ hH1 ((k_U.sub (W' := [(0, 1), (0, 2), (0, 6), (1, 1), (1, 2), (1, 3), (2, 0), (3, 5), (3, 6), (4, 0), (4, 3), (4, 5), (11, 0), (12, 0), (13, 0), (14, 0), (15, 0), (16, 0), (17, 0), (18, 0), (19, 0), (20, 0), (21, 0), (22, 0), (25, 0), (32, 0)]) (by decide) u1)) len at1 fl1 c_t1 (Or.inr ⟨⟨q9, q8⟩, rfl, by omega, c_x1.trans c_x.symm, fun a ha hne => o1 a (sgP_zero ha (Or.inr (Or.inl rfl)) hne s_t s_b s_a1 s_a2 s_a3 s_a4 s_a5 s_a6 s_a7 s_a8), fun a ha => o1 a (sgP_zero ha (Or.inr (Or.inr rfl)) (k_sg_ne ha s_P (by decide)) s_t s_b s_a1 s_a2 s_a3 s_a4 s_a5 s_a6 s_a7 s_a8)⟩)
end
