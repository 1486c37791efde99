/-! the class's calls that aren't contracts alone: what becomes of the rows -/
section
variable {l : Launch} {D : va_G} {tys : List (ClassId × FieldType)} {A : Nat → Prop} {X : State → Prop} {fr lo : Nat} {Q : Option Value → ch_H → Prop} {cA : Nat → ClassId} {Sg : Nat → Option Nat} {h : ch_H}
theorem h_newTownV (hT : k_tys tys cA) {a1 a2 a3 a4 a5 a6 a7 a8 : Nat} {ro0 : Int32} {rc9 : aRw} (hf : 8 ≤ fr) (hl : 300 ≤ lo) {x wn sn t b Pa P no fo : Nat} {f : Nat → Int32} {len at0 fl0 : Int32} {xs : List Value} {seed : Int64} (xl : xs.length = 19) (f0 : xs[0]? = some (.ref t)) (f1 : xs[1]? = some (.ref Pa)) (f2 : xs[2]? = some (.ref P)) (f3 : xs[3]? = some (.ref no)) (f8 : xs[8]? = some (.ref fo)) (f10 : xs[10]? = some (.ref wn)) (f11 : xs[11]? = some (.ref sn)) (s_x : Sg x = some 0) (s_t : Sg t = some 1) (s_Pa : Sg Pa = some 2) (s_P : Sg P = some 2) (s_no : Sg no = some 3) (s_fo : Sg fo = some 4) (s_wn : Sg wn = some 32) (s_sn : Sg sn = some 32) (s_b : Sg b = some 10) (hH : k_H Sg cA Lb h) (c_x : h x = some (.inr (9, xs))) (T : tp0 cA h t b f len at0 fl0) (c_P0 : h P = some (.inr (4, [.int ro0, .ref a1, .ref a2, .ref a3, .ref a4, .ref a5, .ref a6, .ref a7, .ref a8]))) (R : pr cA h a1 a2 a3 a4 a5 a6 a7 a8 rc9) (hq : ∀ (g : ch_H) (v : Int32), ((∃ q, (sp_town f len.toInt.toNat).1 = .inr q) ∧ (∃ (xs1 : List Value) (ro1 : Int32), g x = some (.inr (9, xs1)) ∧ xs1[1]? = some (.ref P) ∧ xs1[2]? = some (.ref Pa) ∧ xs1[17]? = xs[17]? ∧ g P = some (.inr (4, [.int ro1, .ref a1, .ref a2, .ref a3, .ref a4, .ref a5, .ref a6, .ref a7, .ref a8])) ∧ pr cA g a1 a2 a3 a4 a5 a6 a7 a8 (sp_tv f len.toInt.toNat 6 0 0 rc9)) ∧ (∀ a L, Sg a = some L → L = 2 ∨ L = 8 ∨ L = 42 ∨ 11 ≤ L ∧ L ≤ 18 → sgP t b P a1 a2 a3 a4 a5 a6 a7 a8 a < 2 → g a = h a) ∨ (∃ e, (sp_town f len.toInt.toNat).1 = .inl e) ∧ (∃ ro1 : Int32, g P = some (.inr (4, [.int ro1, .ref a1, .ref a2, .ref a3, .ref a4, .ref a5, .ref a6, .ref a7, .ref a8]))) ∧ ∀ q, sgP t b P a1 a2 a3 a4 a5 a6 a7 a8 q < 2 → g q = h q) → Q (some (.int v)) g) : ww l D tys A X fr lo mX10_newTown Q 0 [(0, .ref x), (1, .long seed)] [] h := by
  have c_t0 := T.1
  have c_t := T.1
  refine w_aload_n (List.Mem.head _) (tX10_newTown_0_ok (0, .aload_n 0, 1) (List.mem_of_getElem? (i := 0) rfl)) ?_
  refine w_get (own := 15) rfl rfl (by decide) c_x f0 (tX10_newTown_0_ok (1, .getfield 10, 3) (List.mem_of_getElem? (i := 1) rfl)) ?_
  refine w_aload_n (List.Mem.head _) (tX10_newTown_0_ok (4, .aload_n 0, 1) (List.mem_of_getElem? (i := 2) rfl)) ?_
  refine w_get (own := 15) rfl rfl (by decide) c_x f2 (tX10_newTown_0_ok (5, .getfield 23, 3) (List.mem_of_getElem? (i := 3) rfl)) ?_
  obtain ⟨g1, g2, g3, HP, s_a1, s_a2, s_a3, s_a4, s_a5, s_a6, s_a7, s_a8⟩ := pn_at hH s_P c_P0
  refine w_callS (own := 15) (mi := 83) [.ref t, .ref P] [] [(0, .ref t), (1, .ref P)] rfl (cllw_X10 (110, 1, 83) (List.mem_of_getElem? (i := 2) rfl)) rfl rfl (by omega) (w_lo (n := 22) rfl (by omega)) (Nat.le_of_ble_eq_true rfl) (Nat.le_of_ble_eq_true rfl) rfl (tX10_newTown_0_ok (8, .invokestatic 110, 3) (List.mem_of_getElem? (i := 4) rfl)) (s_townV hT (pns_of s_t s_b s_P s_a1 s_a2 s_a3 s_a4 s_a5 s_a6 s_a7 s_a8) ⟨by omega, w_sub (n := 22) rfl (by omega)⟩ T HP R (fun h1 at1 fl1 k1 k2 k3 T1 P1 e1 e2 e3 o1 => ?_))
  obtain ⟨hH1, u1⟩ := T_back hH s_t s_b s_P s_a1 s_a2 s_a3 s_a4 s_a5 s_a6 s_a7 s_a8 c_t0 c_P0 T1 P1 o1
  have c_x1 : h1 x = some (.inr (9, xs)) := (k_U.same hH u1 s_x (by decide)).trans c_x
  have c_t1 := T1.1
  have c_b1 := T1.2.1
  show ww l D tys A X fr lo mX10_newTown Q 11 [(0, .ref x), (1, .long seed)] [] h1
  refine w_aload_n (List.Mem.head _) (tX10_newTown_0_ok (11, .aload_n 0, 1) (List.mem_of_getElem? (i := 5) rfl)) ?_
  refine w_get (own := 15) rfl rfl (by decide) c_x1 f0 (tX10_newTown_0_ok (12, .getfield 10, 3) (List.mem_of_getElem? (i := 6) rfl)) ?_
  refine w_get (own := 15) rfl rfl (by decide) c_t1 rfl (tX10_newTown_0_ok (15, .getfield 116, 3) (List.mem_of_getElem? (i := 7) rfl)) ?_
  refine w_iconst (by decide) (tX10_newTown_0_ok (18, .iconst (-1), 1) (List.mem_of_getElem? (i := 8) rfl)) (fun zv1 ze2 => ?_)
  refine w_icmp_eq (tgt := 24) (tX10_newTown_0_ok (19, .if_icmp .eq 5, 3) (List.mem_of_getElem? (i := 9) rfl)) rfl (fun zb3 => ?_) (fun zb3 => ?_)
  · obtain ⟨ro9, c_P9, e_ro9⟩ := e2 (by omega)
    refine w_aload_n (List.Mem.head _) (tX10_newTown_0_ok (24, .aload_n 0, 1) (List.mem_of_getElem? (i := 12) rfl)) ?_
    refine w_get (own := 15) rfl rfl (by decide) c_x1 f1 (tX10_newTown_0_ok (25, .getfield 19, 3) (List.mem_of_getElem? (i := 13) rfl)) ?_
    refine w_astore_n [(3, .ref Pa), (0, .ref x), (1, .long seed)] rfl (Nat.le_of_ble_eq_true rfl) (tX10_newTown_0_ok (28, .astore_n 3, 1) (List.mem_of_getElem? (i := 14) rfl)) ?_
    refine w_aload_n (List.Mem.tail _ (List.Mem.head _)) (tX10_newTown_0_ok (29, .aload_n 0, 1) (List.mem_of_getElem? (i := 15) rfl)) ?_
    refine w_aload_n (List.Mem.tail _ (List.Mem.head _)) (tX10_newTown_0_ok (30, .aload_n 0, 1) (List.mem_of_getElem? (i := 16) rfl)) ?_
    refine w_get (own := 15) rfl rfl (by decide) c_x1 f2 (tX10_newTown_0_ok (31, .getfield 23, 3) (List.mem_of_getElem? (i := 17) rfl)) ?_
    refine w_putF (own := 15) (ci := 9) (k := 1) rfl rfl (by decide) rfl ⟨rfl, rfl⟩ c_x1 (by rw [xl]; decide) (tX10_newTown_0_ok (34, .putfield 19, 3) (List.mem_of_getElem? (i := 18) rfl)) (fun zh4 zfs7 zl8 zk9 zj10 zc5 zo6 => ?_)
    rw [xl] at zl8
    have zf11 := (zj10 0 (by decide)).trans f0
    have zf12 := (zj10 2 (by decide)).trans f2
    have zf13 := (zj10 3 (by decide)).trans f3
    have zf14 := (zj10 8 (by decide)).trans f8
    have zf15 := (zj10 10 (by decide)).trans f10
    have zf16 := (zj10 11 (by decide)).trans f11
    have zc17 := (zo6 t (k_sg_ne s_t s_x (by decide))).trans c_t1
    have zc18 := (zo6 P (k_sg_ne s_P s_x (by decide))).trans c_P9
    have zH19 := hH1.fld (k := 1) s_x rfl rfl c_x1 zc5 zl8 zk9 ⟨_, rfl, s_P⟩ zj10 zo6
    have zu20 : k_U Sg [(0, 1), (0, 2), (0, 6), (1, 1), (3, 5), (3, 6), (4, 0), (4, 3), (4, 5), (19, 0), (20, 0), (21, 0), (22, 0), (25, 0), (32, 0)] h1 zh4 := k_U.put s_x (k := 1) (by decide) c_x1 zc5 zj10 zo6
    refine w_aload_n (List.Mem.tail _ (List.Mem.head _)) (tX10_newTown_0_ok (37, .aload_n 0, 1) (List.mem_of_getElem? (i := 19) rfl)) ?_
    refine w_aload_n (List.Mem.head _) (tX10_newTown_0_ok (38, .aload_n 3, 1) (List.mem_of_getElem? (i := 20) rfl)) ?_
    refine w_putF (own := 15) (ci := 9) (k := 2) rfl rfl (by decide) rfl ⟨rfl, rfl⟩ zc5 (by rw [zl8]; decide) (tX10_newTown_0_ok (39, .putfield 23, 3) (List.mem_of_getElem? (i := 21) rfl)) (fun zh21 zfs24 zl25 zk26 zj27 zc22 zo23 => ?_)
    rw [zl8] at zl25
    have zf28 := (zj27 1 (by decide)).trans zk9
    have zf29 := (zj27 0 (by decide)).trans zf11
    have zf30 := (zj27 3 (by decide)).trans zf13
    have zf31 := (zj27 8 (by decide)).trans zf14
    have zf32 := (zj27 10 (by decide)).trans zf15
    have zf33 := (zj27 11 (by decide)).trans zf16
    have zc34 := (zo23 t (k_sg_ne s_t s_x (by decide))).trans zc17
    have zc35 := (zo23 P (k_sg_ne s_P s_x (by decide))).trans zc18
    have zH36 := zH19.fld (k := 2) s_x rfl rfl zc5 zc22 zl25 zk26 ⟨_, rfl, s_Pa⟩ zj27 zo23
    have zu37 : k_U Sg [(0, 1), (0, 2), (0, 6), (1, 1), (3, 5), (3, 6), (4, 0), (4, 3), (4, 5), (19, 0), (20, 0), (21, 0), (22, 0), (25, 0), (32, 0)] zh4 zh21 := k_U.put s_x (k := 2) (by decide) zc5 zc22 zj27 zo23
    refine w_aload_n (List.Mem.tail _ (List.Mem.head _)) (tX10_newTown_0_ok (42, .aload_n 0, 1) (List.mem_of_getElem? (i := 22) rfl)) ?_
    refine w_get (own := 15) rfl rfl (by decide) zc22 zf29 (tX10_newTown_0_ok (43, .getfield 10, 3) (List.mem_of_getElem? (i := 23) rfl)) ?_
    refine w_iconst (by decide) (tX10_newTown_0_ok (46, .iconst 0, 1) (List.mem_of_getElem? (i := 24) rfl)) (fun zv38 ze39 => ?_)
    refine w_put (own := 15) [.ref b, .int zv38, .int at1, .int fl1] rfl rfl rfl (by decide) rfl ⟨rfl, rfl⟩ zc34 (Nat.le_of_ble_eq_true rfl) (tX10_newTown_0_ok (47, .putfield 103, 3) (List.mem_of_getElem? (i := 25) rfl)) (fun zh40 zc41 zo42 => ?_)
    have zc43 := (zo42 x (k_sg_ne s_x s_t (by decide))).trans zc22
    have zc44 := (zo42 P (k_sg_ne s_P s_t (by decide))).trans zc35
    have zH45 := zH36.fld (k := 1) s_t rfl rfl zc34 zc41 rfl rfl ⟨_, rfl, by show (0 : Int) ≤ _; omega, by show _ ≤ (160 : Int); omega⟩ (fun j hj => by match j, hj with | 0, _ => rfl | 1, hj => exact absurd rfl hj | j + 2, _ => rfl) zo42
    have zu46 : k_U Sg [(0, 1), (0, 2), (0, 6), (1, 1), (3, 5), (3, 6), (4, 0), (4, 3), (4, 5), (19, 0), (20, 0), (21, 0), (22, 0), (25, 0), (32, 0)] zh21 zh40 := k_U.put s_t (k := 1) (by decide) zc34 zc41 (fun j hj => by match j, hj with | 0, _ => rfl | 1, hj => exact absurd rfl hj | j + 2, _ => rfl) zo42
    refine w_aload_n (List.Mem.tail _ (List.Mem.head _)) (tX10_newTown_0_ok (50, .aload_n 0, 1) (List.mem_of_getElem? (i := 26) rfl)) ?_
    refine w_get (own := 15) rfl rfl (by decide) zc43 zf30 (tX10_newTown_0_ok (51, .getfield 29, 3) (List.mem_of_getElem? (i := 27) rfl)) ?_
    refine w_aload_n (List.Mem.tail _ (List.Mem.head _)) (tX10_newTown_0_ok (54, .aload_n 0, 1) (List.mem_of_getElem? (i := 28) rfl)) ?_
    refine w_get (own := 15) rfl rfl (by decide) zc43 zf28 (tX10_newTown_0_ok (55, .getfield 19, 3) (List.mem_of_getElem? (i := 29) rfl)) ?_
    refine w_lload_n (List.Mem.tail _ (List.Mem.tail _ (List.Mem.head _))) (tX10_newTown_0_ok (58, .lload_n 1, 1) (List.mem_of_getElem? (i := 30) rfl)) ?_
    obtain ⟨zfq50, zc51, -, -⟩ := (show k_H Sg cA Lb zh40 from zH45).obj s_no (L := 3) rfl
    refine w_callV (own := 15) (mi := 67) [.ref P, .long seed] [] [(0, .ref no), (1, .ref P), (2, .long seed)] rfl (cllw_X10 (130, 0, 67) (List.mem_of_getElem? (i := 5) rfl)) rfl rfl zc51 rfl (by omega) (w_lo (n := 24) rfl (by omega)) (Nat.le_of_ble_eq_true rfl) (Nat.le_of_ble_eq_true rfl) rfl (tX10_newTown_0_ok (59, .invokevirtual 130, 3) (List.mem_of_getElem? (i := 31) rfl)) (h_begT hT s_no s_P zH45 (fun zg47 zq48 zq49 => ?_))
    have zc52 := (k_U.same zH45 zq49 s_x (by decide)).trans zc43
    have zc53 := (k_U.same zH45 zq49 s_t (by decide)).trans zc41
    have zc54 := (k_U.same zH45 zq49 s_P (by decide)).trans zc44
    show ww l D tys A X fr lo mX10_newTown Q 62 [(3, .ref Pa), (0, .ref x), (1, .long seed)] [] zg47
    refine w_aload_n (List.Mem.tail _ (List.Mem.head _)) (tX10_newTown_0_ok (62, .aload_n 0, 1) (List.mem_of_getElem? (i := 32) rfl)) ?_
    refine w_get (own := 15) rfl rfl (by decide) zc52 zf31 (tX10_newTown_0_ok (63, .getfield 42, 3) (List.mem_of_getElem? (i := 33) rfl)) ?_
    obtain ⟨zfq69, zc70, zl71, zty72⟩ := (show k_H Sg cA Lb zg47 from zq48).obj s_fo (L := 4) rfl
    obtain ⟨zv73, zw74, zt75⟩ := zty72 2 _ rfl
    obtain ⟨znb76, rfl, s_znb76⟩ := k_v.ref zt75
    refine w_callV (own := 15) (mi := 25) [] [] [(0, .ref fo)] rfl (cllw_X10 (134, 0, 25) (List.mem_of_getElem? (i := 6) rfl)) rfl rfl zc70 rfl (by omega) (w_lo (n := 21) rfl (by omega)) (Nat.le_of_ble_eq_true rfl) (Nat.le_of_ble_eq_true rfl) rfl (tX10_newTown_0_ok (66, .invokevirtual 134, 3) (List.mem_of_getElem? (i := 34) rfl)) (h_leave hT s_fo s_znb76 zl71 zw74 zq48 zc70 (fun zg55 zgs56 zz66 zz67 zz68 zq57 zq58 zc59 ze60 ze61 ze62 zn63 zn64 zn65 => ?_))
    have zc77 := (k_U.same zq48 zq58 s_x (by decide)).trans zc52
    have zc78 := (k_U.same zq48 zq58 s_t (by decide)).trans zc53
    have zc79 := (k_U.same zq48 zq58 s_P (by decide)).trans zc54
    show ww l D tys A X fr lo mX10_newTown Q 69 [(3, .ref Pa), (0, .ref x), (1, .long seed)] [] zg55
    refine w_iconst (by decide) (tX10_newTown_0_ok (69, .iconst 0, 1) (List.mem_of_getElem? (i := 35) rfl)) (fun zv80 ze81 => ?_)
    refine w_istore [(4, .int zv80), (3, .ref Pa), (0, .ref x), (1, .long seed)] rfl (Nat.le_of_ble_eq_true rfl) (tX10_newTown_0_ok (70, .istore 4, 2) (List.mem_of_getElem? (i := 36) rfl)) ?_
    refine w_lv [(4, .int zv80), (0, .ref x), (1, .long seed), (3, .ref Pa)] (by intro q hq; simp only [List.mem_cons, List.not_mem_nil, or_false] at hq ⊢; rcases hq with e | e | e | e <;> subst e <;> simp) ?_
    refine h_ntL hT (t := t)  (no := no) (fo := fo) zl25 zf29 zf28 zk26 zf30 zf31 zf32 zf33 s_x s_t s_P s_Pa s_no s_fo s_wn s_sn 12 _ _ (by omega) (by omega) zq57 zc77 (fun zg82 zka83 zq84 zq85 zq86 => ?_)
    have zc87 := (k_U.same zq57 zq86 s_t (by decide)).trans zc78
    have zc88 := (k_U.same zq57 zq86 s_P (by decide)).trans zc79
    have zc89 := (k_U.same zq57 zq86 s_fo (by decide)).trans zc59
    show ww l D tys A X fr lo mX10_newTown Q 101 [(4, .int zka83), (0, .ref x), (1, .long seed), (3, .ref Pa)] [] zg82
    refine w_aload_n (List.Mem.tail _ (List.Mem.head _)) (tX10_newTown_0_ok (101, .aload_n 0, 1) (List.mem_of_getElem? (i := 52) rfl)) ?_
    refine w_iconst (by decide) (tX10_newTown_0_ok (102, .iconst 0, 1) (List.mem_of_getElem? (i := 53) rfl)) (fun zv90 ze91 => ?_)
    refine w_putF (own := 15) (ci := 9) (k := 6) rfl rfl (by decide) rfl ⟨(kn_nz (by omega) (by omega)).1, (kn_nz (by omega) (by omega)).2.1⟩ zq85 (by rw [zl25]; decide) (tX10_newTown_0_ok (103, .putfield 137, 3) (List.mem_of_getElem? (i := 54) rfl)) (fun zh92 zfs95 zl96 zk97 zj98 zc93 zo94 => ?_)
    rw [zl25] at zl96
    have zf99 := (zj98 2 (by decide)).trans zk26
    have zf100 := (zj98 1 (by decide)).trans zf28
    have zf101 := (zj98 0 (by decide)).trans zf29
    have zf102 := (zj98 3 (by decide)).trans zf30
    have zf103 := (zj98 8 (by decide)).trans zf31
    have zf104 := (zj98 10 (by decide)).trans zf32
    have zf105 := (zj98 11 (by decide)).trans zf33
    have zc106 := (zo94 t (k_sg_ne s_t s_x (by decide))).trans zc87
    have zc107 := (zo94 P (k_sg_ne s_P s_x (by decide))).trans zc88
    have zc108 := (zo94 fo (k_sg_ne s_fo s_x (by decide))).trans zc89
    have zH109 := zq84.fld (k := 6) s_x rfl rfl zq85 zc93 zl96 zk97 ⟨_, rfl, by show (0 : Int) ≤ _; omega, by show _ ≤ (1 : Int); omega⟩ zj98 zo94
    have zu110 : k_U Sg [(0, 1), (0, 2), (0, 6), (1, 1), (3, 5), (3, 6), (4, 0), (4, 3), (4, 5), (19, 0), (20, 0), (21, 0), (22, 0), (25, 0), (32, 0)] zg82 zh92 := k_U.put s_x (k := 6) (by decide) zq85 zc93 zj98 zo94
    refine w_aload_n (List.Mem.tail _ (List.Mem.head _)) (tX10_newTown_0_ok (106, .aload_n 0, 1) (List.mem_of_getElem? (i := 55) rfl)) ?_
    refine w_get (own := 15) rfl rfl (by decide) zc93 zf100 (tX10_newTown_0_ok (107, .getfield 19, 3) (List.mem_of_getElem? (i := 56) rfl)) ?_
    refine w_get (own := 15) rfl rfl (by decide) zc107 rfl (tX10_newTown_0_ok (110, .getfield 95, 3) (List.mem_of_getElem? (i := 57) rfl)) ?_
    refine w_iret rfl (tX10_newTown_0_ok (113, .ireturn, 1) (List.mem_of_getElem? (i := 58) rfl)) ?_
    obtain ⟨q9, q8, q7⟩ := sp_is.inr e1 (by omega)
    have u2 : k_U Sg [(0, 1), (0, 2), (0, 6), (1, 1), (3, 5), (3, 6), (4, 0), (4, 3), (4, 5), (19, 0), (20, 0), (21, 0), (22, 0), (25, 0), (32, 0)] h1 zh92 := (((((zu20.tr zu37).tr zu46).tr (k_U.sub (by decide) zq49)).tr (k_U.sub (by decide) zq58)).tr (k_U.sub (by decide) zq86)).tr zu110
    have o2 : ∀ a L, Sg a = some L → L = 2 ∨ L = 8 ∨ L = 42 ∨ 11 ≤ L ∧ L ≤ 18 → zh92 a = h1 a := fun a L ha hl => k_U.same hH1 u2 ha (fun q hq e => by
      have := List.all_eq_true.mp (show ([(0, 1), (0, 2), (0, 6), (1, 1), (3, 5), (3, 6), (4, 0), (4, 3), (4, 5), (19, 0), (20, 0), (21, 0), (22, 0), (25, 0), (32, 0)] : List (Nat × Nat)).all (fun q => decide (q.1 ≠ 2 ∧ q.1 ≠ 8 ∧ q.1 ≠ 42 ∧ (q.1 < 11 ∨ 18 < q.1))) = true by decide) q hq
      have := of_decide_eq_true this
      omega)
    exact hq _ _ (Or.inl ⟨⟨q9, q8⟩, ⟨_, _, zc93, zf100, zf99, (zj98 17 (by decide)).trans ((zj27 17 (by decide)).trans (zj10 17 (by decide))), zc107, (e3 (by omega)).mv ⟨o2 a1 11 s_a1 (Or.inr (Or.inr (Or.inr (by decide)))), o2 a2 12 s_a2 (Or.inr (Or.inr (Or.inr (by decide)))), o2 a3 13 s_a3 (Or.inr (Or.inr (Or.inr (by decide)))), o2 a4 14 s_a4 (Or.inr (Or.inr (Or.inr (by decide)))), o2 a5 15 s_a5 (Or.inr (Or.inr (Or.inr (by decide)))), o2 a6 16 s_a6 (Or.inr (Or.inr (Or.inr (by decide)))), o2 a7 17 s_a7 (Or.inr (Or.inr (Or.inr (by decide)))), o2 a8 18 s_a8 (Or.inr (Or.inr (Or.inr (by decide))))⟩⟩, fun a L ha hl hs => (o2 a L ha hl).trans (o1 a hs)⟩)
  · refine w_iconst (by decide) (tX10_newTown_0_ok (22, .iconst (-1), 1) (List.mem_of_getElem? (i := 10) rfl)) (fun zv111 ze112 => ?_)
    refine w_iret rfl (tX10_newTown_0_ok (23, .ireturn, 1) (List.mem_of_getElem? (i := 11) rfl)) ?_
    obtain ⟨q9, q8, q7⟩ := sp_is.inl e1 (by omega)
    exact hq _ _ (Or.inr ⟨⟨q9, q8⟩, P1.1.elim (fun ro z => ⟨ro, z.1⟩), o1⟩)
end
section
variable {l : Launch} {D : va_G} {tys : List (ClassId × FieldType)} {A : Nat → Prop} {X : State → Prop} {fr lo mc ms : Nat} {M : ch_M} {Q : Option Value → ch_H → Prop} {pc : Nat} {lv : List (Nat × Value)} {st : List Value} {h : ch_H} {c z : Nat} {Sg : Nat → Option Nat} {cA : Nat → ClassId} {Lb9 : Nat → k_I} {x : Nat}
theorem t_newRuleV (hT : k_tys tys cA) (hN : k_NX X) {xs : List Value} {t b r k s ra : Nat} {f : Nat → Int32} {len rc at0 fl0 : Int32} (hH : k_H Sg cA Lb h) (sx : Sg x = some 0) (st : Sg t = some 1) (sb : Sg b = some 10) (s_r : Sg r = some 6) (s_k : Sg k = some 36) (s_s : Sg s = some 37) (s_ra : Sg ra = some 34) (c_x : h x = some (.inr (9, xs))) (f0 : xs[0]? = some (.ref t)) (f12 : xs[12]? = some (.ref ra)) (f13 : xs[13]? = some (.ref r)) (f14 : xs[14]? = some (.int rc)) (hrc : 0 ≤ rc.toInt ∧ rc.toInt ≤ 4) (T : tp0 cA h t b f len at0 fl0) (Ru : ru cA h r k s)
    (hq : ∀ (g : ch_H) (v : Int32) (Sg1 : Nat → Option Nat) (xs1 : List Value) (len1 rc1 at1 fl1 : Int32), k_H Sg1 cA Lb g → sg_le Sg Sg1 → (∀ a L, Sg1 a = some L → 50 ≤ L → Sg a = some L ∧ g a = h a) → g x = some (.inr (9, xs1)) → xs1[0]? = some (.ref t) → xs1[14]? = some (.int rc1) → tp0 cA g t b f len1 at1 fl1 → (rc.toInt < 4 ∧ (∃ q, sp_rule f len.toInt.toNat = .inr q) ∧ len1.toInt = 0 ∧ rc1.toInt = rc.toInt + 1 ∧ v.toInt = rc.toInt ∨ (4 ≤ rc.toInt ∨ ∃ e, sp_rule f len.toInt.toNat = .inl e) ∧ len1 = len ∧ rc1 = rc ∧ v.toInt = -1) → (∀ j, j ≠ 13 → j ≠ 14 → xs1[j]? = xs[j]?) → (∀ a L, Sg a = some L → L = 2 ∨ L = 4 ∨ L = 8 ∨ L = 42 ∨ 11 ≤ L ∧ L ≤ 18 → g a = h a) → Q (some (.int v)) g) : tt l D tys A X 42 1200 3 259 mX10_newRule Q 0 [(0, .ref x)] [] h 0 0 := by
  have T9 := T
  refine tt_aload_n rfl (List.Mem.head _) (tX10_newRule_0_ok (0, .aload_n 0, 1) (List.mem_of_getElem? (i := 0) rfl)) ?_
  refine t_get (own := 15) rfl rfl (by decide) c_x f14 (tX10_newRule_0_ok (1, .getfield 141, 3) (List.mem_of_getElem? (i := 1) rfl)) ?_
  refine tt_iconst (v := 4) rfl (tX10_newRule_0_ok (4, .iconst 4, 1) (List.mem_of_getElem? (i := 2) rfl)) ?_
  refine tt_icmp_lt (tgt := 10) (tX10_newRule_0_ok (5, .if_icmp .lt 5, 3) (List.mem_of_getElem? (i := 3) rfl)) rfl (fun b1 => ?_) (fun b1 => ?_)
  · have b1 : rc.toInt < 4 := (kn_lt rc 4).mp b1
    refine tt_aload_n rfl (List.Mem.head _) (tX10_newRule_0_ok (10, .aload_n 0, 1) (List.mem_of_getElem? (i := 6) rfl)) ?_
    refine t_get (own := 15) rfl rfl (by decide) c_x f13 (tX10_newRule_0_ok (11, .getfield 67, 3) (List.mem_of_getElem? (i := 7) rfl)) ?_
    refine tt_aload_n rfl (List.Mem.head _) (tX10_newRule_0_ok (14, .aload_n 0, 1) (List.mem_of_getElem? (i := 8) rfl)) ?_
    refine t_get (own := 15) rfl rfl (by decide) c_x f0 (tX10_newRule_0_ok (15, .getfield 10, 3) (List.mem_of_getElem? (i := 9) rfl)) ?_
    obtain ⟨cR, hcR⟩ := ru.obj Ru
    have kc : tt l D tys A X 40 1170 0 0 mX5_read (fun v g => v = none ∧ ∃ at1 fl1 : Int32, tp cA g t b f len at1 fl1 ∧ ru cA g r k s ∧ sp_is (sp_rule f len.toInt.toNat) at1 fl1 ∧ ∀ q, q ≠ t ∧ q ≠ r ∧ q ≠ k → g q = h q) 0 [(0, .ref r), (1, .ref t)] [] h 0 0 :=
      s_read hT ⟨T.2.2.1, k_sg_ne s_r st (by decide), k_sg_ne s_k st (by decide), k_sg_ne s_r sb (by decide), k_sg_ne s_k sb (by decide), k_sg_ne s_r s_k (by decide)⟩ (by decide) (by decide) T Ru (fun h1 at1 fl1 T1 R1 e1 o1 => ⟨rfl, at1, fl1, T1, R1, e1, o1⟩)
    obtain ⟨e9, z1, z2, z3, z4, z5⟩ := (cllw_X10 (119, 0, 61) (List.mem_of_getElem? (i := 3) rfl))
    cases z1
    refine tt_callV (M' := mX5_read) (As := [.ref t]) (rest := []) (fr' := 40) (lo' := 1170) (mc' := 0) (ms' := 0) (tX10_newRule_0_ok (18, .invokevirtual 119, 3) (List.mem_of_getElem? (i := 10) rfl)) z5 z2 z3 z4 hcR rfl rfl rfl ⟨by decide, by decide⟩ ⟨by decide, by decide⟩ (Nat.le_of_ble_eq_true rfl) (Nat.le_of_ble_eq_true rfl) kc (fun v1 h1 H1 => ?_)
    obtain ⟨rfl, at1, fl1, T1, R1, e1, o1⟩ := H1
    obtain ⟨hH1, u1⟩ := k_H.rule hH st sb s_r s_k s_s T T1 R1 Ru o1
    have c_x1 : h1 x = some (.inr (9, xs)) := (o1 x ⟨k_sg_ne sx st (by decide), k_sg_ne sx s_r (by decide), k_sg_ne sx s_k (by decide)⟩).trans c_x
    show tt l D tys A X 42 1200 3 259 mX10_newRule Q 21 [(0, .ref x)] [] h1 0 0
    refine tt_aload_n rfl (List.Mem.head _) (tX10_newRule_0_ok (21, .aload_n 0, 1) (List.mem_of_getElem? (i := 11) rfl)) ?_
    refine t_get (own := 15) rfl rfl (by decide) c_x1 f0 (tX10_newRule_0_ok (22, .getfield 10, 3) (List.mem_of_getElem? (i := 12) rfl)) ?_
    refine t_get (own := 15) (ci := 7) (k := 3) rfl rfl (by decide) T1.1 rfl (tX10_newRule_0_ok (25, .getfield 116, 3) (List.mem_of_getElem? (i := 13) rfl)) ?_
    refine tt_iconst (v := -1) rfl (tX10_newRule_0_ok (28, .iconst (-1), 1) (List.mem_of_getElem? (i := 14) rfl)) ?_
    refine tt_icmp_eq (tgt := 34) (tX10_newRule_0_ok (29, .if_icmp .eq 5, 3) (List.mem_of_getElem? (i := 15) rfl)) rfl (fun b2 => ?_) (fun b2 => ?_)
    · have b2 : fl1.toInt = -1 := by rw [b2]; rfl
      obtain ⟨q9, q8, q7⟩ := sp_is.inr e1 b2
      obtain ⟨ea, ea1, ea2⟩ := hH1 ra 34 s_ra
      obtain ⟨fa, rfl, fa2⟩ := k_cell2 (I := Lb 34) rfl ea2
      have ea1 : h1 ra = some (.inl (cA 4, 4, .inr (.inr (.inr (.inr fa))))) := ea1
      obtain ⟨gr, szr, r1, -⟩ := id R1
      refine tt_aload_n rfl (List.Mem.head _) (tX10_newRule_0_ok (34, .aload_n 0, 1) (List.mem_of_getElem? (i := 18) rfl)) ?_
      refine t_get (own := 15) rfl rfl (by decide) c_x1 f12 (tX10_newRule_0_ok (35, .getfield 62, 3) (List.mem_of_getElem? (i := 19) rfl)) ?_
      refine tt_aload_n rfl (List.Mem.head _) (tX10_newRule_0_ok (38, .aload_n 0, 1) (List.mem_of_getElem? (i := 20) rfl)) ?_
      refine t_get (own := 15) rfl rfl (by decide) c_x1 f14 (tX10_newRule_0_ok (39, .getfield 141, 3) (List.mem_of_getElem? (i := 21) rfl)) ?_
      refine tt_aload_n rfl (List.Mem.head _) (tX10_newRule_0_ok (42, .aload_n 0, 1) (List.mem_of_getElem? (i := 22) rfl)) ?_
      refine t_get (own := 15) rfl rfl (by decide) c_x1 f13 (tX10_newRule_0_ok (43, .getfield 67, 3) (List.mem_of_getElem? (i := 23) rfl)) ?_
      refine tt_aast ea1 (hT 4 (by decide)) r1 (r := (RX5, TX5, 3)) rfl (kn_in hrc.1 (by omega)) (tX10_newRule_0_ok (46, .aastore, 1) (List.mem_of_getElem? (i := 24) rfl)) ?_
      generalize hg2 : ch_up h1 ra (.inl (cA 4, 4, .inr (.inr (.inr (.inr (va_up fa rc.toNatClampNeg (some r))))))) = h2
      have c_ra2 : h2 ra = some (.inl (cA 4, 4, .inr (.inr (.inr (.inr (va_up fa rc.toNatClampNeg (some r))))))) := by rw [← hg2]; exact ch_up_s _ _ _
      have o2 : ∀ q, q ≠ ra → h2 q = h1 q := fun q hq => by rw [← hg2]; exact ch_up_n _ _ hq
      have hH2 : k_H Sg cA Lb h2 := hH1.one s_ra c_ra2 (Or.inr (Or.inr ⟨rfl, _, rfl, fun i hi => by
        unfold va_up
        split
        · exact Or.inr ⟨r, rfl, s_r⟩
        · exact fa2 i hi⟩)) o2
      have c_x2 := (o2 x (k_sg_ne sx s_ra (by decide))).trans c_x1
      have c_t2 := (o2 t (k_sg_ne st s_ra (by decide))).trans T1.1
      have c_b2 := (o2 b (k_sg_ne sb s_ra (by decide))).trans T1.2.1
      show tt l D tys A X 42 1200 3 259 mX10_newRule Q 47 [(0, .ref x)] [] h2 0 0
      refine tt_aload_n rfl (List.Mem.head _) (tX10_newRule_0_ok (47, .aload_n 0, 1) (List.mem_of_getElem? (i := 25) rfl)) ?_
      refine n_objL hH2 (n_X5_init hT (fun _ _ => rfl)) (wA1 224 rfl rfl) (wA1 226 rfl rfl) (wA1 7 rfl rfl) (by decide) df_5_ok kX5_init rfl rfl (Or.inl ⟨_, (fun s x => (hN s x).2.2.2.2.2.1)⟩) iX5_init (by decide) (by decide) (by decide) (Nat.le_of_ble_eq_true rfl) (fun _ => Nat.le_of_ble_eq_true rfl) (tX10_newRule_0_ok (48, .new 60, 3) (List.mem_of_getElem? (i := 26) rfl)) (tX10_newRule_0_ok (51, .dup, 1) (List.mem_of_getElem? (i := 27) rfl)) (tX10_newRule_0_ok (52, .invokespecial 66, 3) (List.mem_of_getElem? (i := 28) rfl)) (fun nb Sg1 h3 hH3 s_nb hnb o3 _ => ?_)
      have le3 : sg_le Sg Sg1 := fun q M9 hq => by rw [(o3 q (hH2.some_ hq)).2]; exact hq
      have sx3 := le3 x 0 sx
      have st3 := le3 t 1 st
      have sb3 := le3 b 10 sb
      have c_x3 := (o3 x (by rw [c_x2]; exact fun q => by cases q)).1.trans c_x2
      have c_t3 := (o3 t (by rw [c_t2]; exact fun q => by cases q)).1.trans c_t2
      have c_b3 := (o3 b (by rw [c_b2]; exact fun q => by cases q)).1.trans c_b2
      refine t_put (own := 15) (ci := 9) (k := 13) hH3 sx3 rfl rfl ⟨nb, rfl, s_nb⟩ c_x3 rfl rfl (by decide) rfl ⟨rfl, rfl⟩ (by decide) (tX10_newRule_0_ok (55, .putfield 67, 3) (List.mem_of_getElem? (i := 29) rfl)) (fun h4 xs4 hH4 c_x4 f134 j4 o4 => ?_)
      have f04 := (j4 0 (by decide)).trans f0
      have f144 := (j4 14 (by decide)).trans f14
      have c_t4 := (o4 t (k_sg_ne st3 sx3 (by decide))).trans c_t3
      have c_b4 := (o4 b (k_sg_ne sb3 sx3 (by decide))).trans c_b3
      refine tt_aload_n rfl (List.Mem.head _) (tX10_newRule_0_ok (58, .aload_n 0, 1) (List.mem_of_getElem? (i := 30) rfl)) ?_
      refine t_get (own := 15) rfl rfl (by decide) c_x4 f04 (tX10_newRule_0_ok (59, .getfield 10, 3) (List.mem_of_getElem? (i := 31) rfl)) ?_
      refine tt_iconst (v := 0) rfl (tX10_newRule_0_ok (62, .iconst 0, 1) (List.mem_of_getElem? (i := 32) rfl)) ?_
      refine t_put (own := 15) (ci := 7) (k := 1) hH4 st3 rfl rfl ⟨0, rfl, by decide, by decide⟩ c_t4 rfl rfl (by decide) rfl ⟨rfl, rfl⟩ (by decide) (tX10_newRule_0_ok (63, .putfield 103, 3) (List.mem_of_getElem? (i := 33) rfl)) (fun h5 ts5 hH5 c_t5 f15 j5 o5 => ?_)
      have l5 : ts5.length = 4 := by
        obtain ⟨w9, w8, w7, -⟩ := hH5.obj st3 (L := 1) rfl
        rw [c_t5] at w8
        cases w8
        exact w7
      have e5 := list4 l5 ((j5 0 (by decide)).trans rfl) f15 ((j5 2 (by decide)).trans rfl) ((j5 3 (by decide)).trans rfl)
      subst e5
      have c_x5 := (o5 x (k_sg_ne sx3 st3 (by decide))).trans c_x4
      have c_b5 := (o5 b (k_sg_ne sb3 st3 (by decide))).trans c_b4
      refine tt_aload_n rfl (List.Mem.head _) (tX10_newRule_0_ok (66, .aload_n 0, 1) (List.mem_of_getElem? (i := 34) rfl)) ?_
      refine tt_dup rfl (tX10_newRule_0_ok (67, .dup, 1) (List.mem_of_getElem? (i := 35) rfl)) ?_
      refine t_get (own := 15) rfl rfl (by decide) c_x5 f144 (tX10_newRule_0_ok (68, .getfield 141, 3) (List.mem_of_getElem? (i := 36) rfl)) ?_
      refine tt_iconst (v := 1) rfl (tX10_newRule_0_ok (71, .iconst 1, 1) (List.mem_of_getElem? (i := 37) rfl)) ?_
      refine tt_iadd (tX10_newRule_0_ok (72, .iadd, 1) (List.mem_of_getElem? (i := 38) rfl)) ?_
      have er : (rc + 1).toInt = rc.toInt + 1 := fb_addI (by show -2147483648 ≤ rc.toInt + 1; omega) (by show rc.toInt + 1 < 2147483648; omega)
      refine t_put (own := 15) (ci := 9) (k := 14) hH5 sx3 rfl rfl ⟨rc + 1, rfl, by show (0 : Int) ≤ _; omega, by show _ ≤ (4 : Int); omega⟩ c_x5 rfl rfl (by decide) rfl ⟨rfl, rfl⟩ (by decide) (tX10_newRule_0_ok (73, .putfield 141, 3) (List.mem_of_getElem? (i := 39) rfl)) (fun h6 xs6 hH6 c_x6 f146 j6 o6 => ?_)
      refine tt_aload_n rfl (List.Mem.head _) (tX10_newRule_0_ok (76, .aload_n 0, 1) (List.mem_of_getElem? (i := 40) rfl)) ?_
      refine t_get (own := 15) rfl rfl (by decide) c_x6 f146 (tX10_newRule_0_ok (77, .getfield 141, 3) (List.mem_of_getElem? (i := 41) rfl)) ?_
      refine tt_iconst (v := 1) rfl (tX10_newRule_0_ok (80, .iconst 1, 1) (List.mem_of_getElem? (i := 42) rfl)) ?_
      refine tt_isub (tX10_newRule_0_ok (81, .isub, 1) (List.mem_of_getElem? (i := 43) rfl)) ?_
      refine tt_iret rfl ?_ (by decide) (by decide) (tX10_newRule_0_ok (82, .ireturn, 1) (List.mem_of_getElem? (i := 44) rfl))
      obtain ⟨hH9, le9, nx⟩ := k_H.cut (h := h) (g := h6) hH hH6 le3 (fun a L ha hl => by
        have n0 := lab_ge ha sx hl (by decide)
        have n1 := lab_ge ha st hl (by decide)
        have w2 := (o2 a (lab_ge ha s_ra hl (by decide))).trans (o1 a ⟨n1, lab_ge ha s_r hl (by decide), lab_ge ha s_k hl (by decide)⟩)
        exact (((o6 a n0).trans (o5 a n1)).trans (o4 a n0)).trans ((o3 a (hH2.some_ ha)).1.trans w2))
      have ev : (rc + 1 - 1).toInt = rc.toInt := by
        have e1 : (1 : Int32).toInt = 1 := rfl
        have := fb_subI (x := rc + 1) (y := 1) (by omega) (by omega)
        omega
      exact hq h6 _ (sg50 Sg Sg1) xs6 0 (rc + 1) at1 fl1 hH9 le9 nx c_x6 ((j6 0 (by decide)).trans f04) f146 ⟨(o6 t (k_sg_ne st3 sx3 (by decide))).trans c_t5, (o6 b (k_sg_ne sb3 sx3 (by decide))).trans c_b5, T.2.2.1, by decide, by decide⟩ (Or.inl ⟨b1, ⟨q9, q8⟩, rfl, er, ev⟩) (fun j n13 n14 => (j6 j n14).trans (j4 j n13)) (fun a L ha hl => by
        have n0 : a ≠ x := k_sg_ne ha sx (by omega)
        have n1 : a ≠ t := k_sg_ne ha st (by omega)
        have w2 := (o2 a (k_sg_ne ha s_ra (by omega))).trans (o1 a ⟨n1, k_sg_ne ha s_r (by omega), k_sg_ne ha s_k (by omega)⟩)
        exact (((o6 a n0).trans (o5 a n1)).trans (o4 a n0)).trans ((o3 a (hH2.some_ ha)).1.trans w2))
    · have b2 : ¬ fl1.toInt = -1 := fun q => b2 ((kn_eq _ _).mpr (by rw [q]; rfl))
      obtain ⟨q9, q8, q7⟩ := sp_is.inl e1 b2
      refine tt_iconst (v := -1) rfl (tX10_newRule_0_ok (32, .iconst (-1), 1) (List.mem_of_getElem? (i := 16) rfl)) ?_
      refine tt_iret rfl ?_ (by decide) (by decide) (tX10_newRule_0_ok (33, .ireturn, 1) (List.mem_of_getElem? (i := 17) rfl))
      exact hq h1 _ Sg xs len rc at1 fl1 hH1 sg_le.rf (fun a L ha hl => ⟨ha, o1 a ⟨lab_ge ha st hl (by decide), lab_ge ha s_r hl (by decide), lab_ge ha s_k hl (by decide)⟩⟩) c_x1 f0 f14 ⟨T1.1, T1.2.1, T1.2.2.1, T1.2.2.2.1, T1.2.2.2.2.1⟩ (Or.inr ⟨Or.inr ⟨q9, q8⟩, rfl, rfl, by decide⟩) (fun _ _ _ => rfl) (fun a L ha hl => o1 a ⟨k_sg_ne ha st (by omega), k_sg_ne ha s_r (by omega), k_sg_ne ha s_k (by omega)⟩)
  · have b1 : 4 ≤ rc.toInt := by have := mt (kn_lt rc 4).mpr b1; have e4 : (4 : Int32).toInt = 4 := rfl; omega
    refine tt_iconst (v := -1) rfl (tX10_newRule_0_ok (8, .iconst (-1), 1) (List.mem_of_getElem? (i := 4) rfl)) ?_
    refine tt_iret rfl ?_ (by decide) (by decide) (tX10_newRule_0_ok (9, .ireturn, 1) (List.mem_of_getElem? (i := 5) rfl))
    exact hq h _ Sg xs len rc at0 fl0 hH sg_le.rf (fun a L ha hl => ⟨ha, rfl⟩) c_x f0 f14 T9 (Or.inr ⟨Or.inl b1, rfl, rfl, by decide⟩) (fun _ _ _ => rfl) (fun _ _ _ _ => rfl)
end
section
variable {l : Launch} {D : va_G} {tys : List (ClassId × FieldType)} {A : Nat → Prop} {X : State → Prop} {cA : Nat → ClassId} {Sg : Nat → Option Nat} {h : ch_H} {x n : Nat} {ρ : aRw} {σ : aS}
theorem y_feed (hT : k_tys tys cA) {wa wb wc wd we : Int32} (hH : k_H Sg cA Lb h) (sx : Sg x = some 0) (hC : aC cA h x σ) (H : rC cA h x n ρ) (H0 : dC cA h x) : tt l D tys A X 1 30 0 0 mX10_feed (fun _ g => (rC cA g x n ρ ∧ dC cA g x) ∧ True) 0 (lv_args 0 [.ref x, .int wa, .int wb, .int wc, .int wd, .int we]) [] h 0 0 := by
  obtain ⟨xs, t, b, len, rc, at0, fl0, c_x, f0, f14, T, e1, e2⟩ := hC
  obtain ⟨st, sb⟩ := aC.sg hH sx c_x f0 T
  show ww l D tys A X 1 30 mX10_feed _ 0 [(0, .ref x), (1, .int wa), (2, .int wb), (3, .int wc), (4, .int wd), (5, .int we)] [] h
  exact s_feed hT (by decide) (by decide) c_x f0 (k_sg_ne sx st (by decide)) (k_sg_ne sx sb (by decide)) T (fun h1 f1 len1 v T1 hh o => ⟨⟨H.same hH sx (fun a L ha hl => o a ⟨k_sg_ne ha st (by omega), k_sg_ne ha sb (by omega)⟩), H0.same hH sx (fun a L ha hl => o a ⟨k_sg_ne ha st (by omega), k_sg_ne ha sb (by omega)⟩)⟩, trivial⟩)
theorem y_end {n9 : Int32} (hH : k_H Sg cA Lb h) (sx : Sg x = some 0) (hC : aC cA h x σ) (H : rC cA h x n ρ) (H0 : dC cA h x) : tt l D tys A X 1 30 0 0 mX10_end (fun _ g => (rC cA g x n ρ ∧ dC cA g x) ∧ True) 0 (lv_args 0 [.ref x, .int n9]) [] h 0 0 := by
  obtain ⟨xs, t, b, len, rc, at0, fl0, c_x, f0, f14, T, e1, e2⟩ := hC
  obtain ⟨st, sb⟩ := aC.sg hH sx c_x f0 T
  show ww l D tys A X 1 30 mX10_end _ 0 [(0, .ref x), (1, .int n9)] [] h
  exact s_end c_x f0 (k_sg_ne sx st (by decide)) (k_sg_ne sx sb (by decide)) T (fun h1 len1 v T1 hh o => ⟨⟨H.same hH sx (fun a L ha hl => o a ⟨k_sg_ne ha st (by omega), k_sg_ne ha sb (by omega)⟩), H0.same hH sx (fun a L ha hl => o a ⟨k_sg_ne ha st (by omega), k_sg_ne ha sb (by omega)⟩)⟩, trivial⟩)
theorem y_fault (hT : k_tys tys cA) {so : Int32} (hH : k_H Sg cA Lb h) (sx : Sg x = some 0) (hC : aC cA h x σ) (H : rC cA h x n ρ) (H0 : dC cA h x) : tt l D tys A X 40 1120 0 0 mX10_fault (fun _ g => (rC cA g x n ρ ∧ dC cA g x) ∧ True) 0 (lv_args 0 [.ref x, .int so]) [] h 0 0 := by
  obtain ⟨xs, t, b, len, rc, at0, fl0, c_x, f0, f14, T, e1, e2⟩ := hC
  obtain ⟨st, sb⟩ := aC.sg hH sx c_x f0 T
  obtain ⟨xs2, c2, xl, ty⟩ := hH.obj sx (L := 0) rfl
  rw [c_x] at c2
  cases c2
  obtain ⟨v13, f13, t13⟩ := ty 13 _ rfl
  obtain ⟨r, rfl, s_r⟩ := k_v.ref t13
  show ww l D tys A X 40 1120 mX10_fault _ 0 [(0, .ref x), (1, .int so)] [] h
  by_cases c0 : so.toInt = 0
  · obtain ⟨wf, xs9, Pa, P, ro, ro', a1, a2, a3, a4, a5, a6, a7, a8, b1, b2, b3, b4, b5, b6, b7, b8, rc9, H9⟩ := H
    have H8 := H9
    obtain ⟨c_x9, f1, f2, ne, c_Pa, c_P, nn, R, e⟩ := H8
    rw [c_x] at c_x9
    cases c_x9
    obtain ⟨sPa, s_P⟩ := lab0 hH sx c_x f1 f2
    obtain ⟨g1, g2, g3, HP, s1, s2, s3, s4, s5, s6, s7, s8⟩ := pn_at hH s_P c_P
    have hx9 : sgP t b P b1 b2 b3 b4 b5 b6 b7 b8 x = 0 := by
      unfold sgP
      rw [if_neg (k_sg_ne sx st (by decide)), if_neg (k_sg_ne sx sb (by decide)), if_neg (k_sg_ne sx s_P (by decide)), if_neg (k_sg_ne sx s1 (by decide)), if_neg (k_sg_ne sx s2 (by decide)), if_neg (k_sg_ne sx s3 (by decide)), if_neg (k_sg_ne sx s4 (by decide)), if_neg (k_sg_ne sx s5 (by decide)), if_neg (k_sg_ne sx s6 (by decide)), if_neg (k_sg_ne sx s7 (by decide)), if_neg (k_sg_ne sx s8 (by decide))]
    refine s_fault0 hT c0 (pns_of st sb s_P s1 s2 s3 s4 s5 s6 s7 s8) hx9 (by decide) (by decide) c_x f0 f2 f13 T HP (fun h1 at1 fl1 k1 k2 k3 T1 P1 es _ o1 => ?_)
    obtain ⟨⟨ro1, c_P1, -, -⟩, -⟩ := P1
    exact ⟨⟨rC.dr wf hH sx st sb H9 c_P1 o1, H0.same hH sx (fun a L ha hl => o1 a (sgP_lt (k_sg_ne ha st (by omega)) (k_sg_ne ha sb (by omega)) (k_sg_ne ha s_P (by omega)) (k_sg_ne ha s1 (by omega)) (k_sg_ne ha s2 (by omega)) (k_sg_ne ha s3 (by omega)) (k_sg_ne ha s4 (by omega)) (k_sg_ne ha s5 (by omega)) (k_sg_ne ha s6 (by omega)) (k_sg_ne ha s7 (by omega)) (k_sg_ne ha s8 (by omega))))⟩, trivial⟩
  · by_cases c1 : so.toInt = 1
    · obtain ⟨v2, f2, t2⟩ := ty 2 _ rfl
      obtain ⟨P, rfl, s_P⟩ := k_v.ref t2
      obtain ⟨k, s, s_k, s_s, R⟩ := T_ru hH s_r
      exact s_fault1 hT c1 ⟨T.2.2.1, k_sg_ne s_r st (by decide), k_sg_ne s_k st (by decide), k_sg_ne s_r sb (by decide), k_sg_ne s_k sb (by decide), k_sg_ne s_r s_k (by decide)⟩ (k_sg_ne sx st (by decide)) (k_sg_ne sx s_r (by decide)) (k_sg_ne sx s_k (by decide)) (by decide) (by decide) c_x f0 f2 f13 T R (fun h1 at1 fl1 T1 R1 es o1 => ⟨⟨H.same hH sx (fun a L ha hl => o1 a ⟨k_sg_ne ha st (by omega), k_sg_ne ha s_r (by omega), k_sg_ne ha s_k (by omega)⟩), H0.same hH sx (fun a L ha hl => o1 a ⟨k_sg_ne ha st (by omega), k_sg_ne ha s_r (by omega), k_sg_ne ha s_k (by omega)⟩)⟩, trivial⟩)
    · exact s_fault2 ⟨c0, c1⟩ (fun v hv => ⟨⟨H, H0⟩, trivial⟩)
theorem y_text (hT : k_TX tys cA A X) (hN : k_NX X) {so : Int32} {seed : Int64} {τ : aN} (hH : k_H Sg cA Lb h) (sx : Sg x = some 0) (hC : aC cA h x σ) (H : rC cA h x τ.1 ρ) (H0 : dC cA h x) : tt l D tys A X 44 1300 3 259 mX10_text (fun _ g => (rC cA g x (n_text so σ τ).1 (r_text so σ ρ) ∧ dC cA g x) ∧ True) 0 (lv_args 0 [.ref x, .int so, .long seed]) [] h 0 0 := by
  obtain ⟨xs, t, b, len, rc, at0, fl0, c_x, f0, f14, T, e1, e2⟩ := hC
  obtain ⟨st, sb⟩ := aC.sg hH sx c_x f0 T
  obtain ⟨xs2, c2, xl, ty⟩ := hH.obj sx (L := 0) rfl
  rw [c_x] at c2
  cases c2
  have hn : len.toInt.toNat = σ.2.1 := by omega
  obtain ⟨v1, f1, t1⟩ := ty 1 _ rfl
  obtain ⟨Pa, rfl, s_Pa⟩ := k_v.ref t1
  obtain ⟨v2, f2, t2⟩ := ty 2 _ rfl
  obtain ⟨P, rfl, s_P⟩ := k_v.ref t2
  obtain ⟨v3, f3, t3⟩ := ty 3 _ rfl
  obtain ⟨no, rfl, s_no⟩ := k_v.ref t3
  obtain ⟨v8, f8, t8⟩ := ty 8 _ rfl
  obtain ⟨fo, rfl, s_fo⟩ := k_v.ref t8
  obtain ⟨v10, f10, t10⟩ := ty 10 _ rfl
  obtain ⟨wn, rfl, s_wn⟩ := k_v.ref t10
  obtain ⟨v11, f11, t11⟩ := ty 11 _ rfl
  obtain ⟨sn, rfl, s_sn⟩ := k_v.ref t11
  obtain ⟨v12, f12, t12⟩ := ty 12 _ rfl
  obtain ⟨ra, rfl, s_ra⟩ := k_v.ref t12
  obtain ⟨v13, f13, t13⟩ := ty 13 _ rfl
  obtain ⟨r, rfl, s_r⟩ := k_v.ref t13
  obtain ⟨v14, f14b, t14⟩ := ty 14 _ rfl
  rw [f14] at f14b
  cases f14b
  obtain ⟨y14, ey, r1, r2⟩ := k_v.int t14
  cases ey
  have r1 : 0 ≤ rc.toInt := r1
  have r2 : rc.toInt ≤ 4 := r2
  show tt l D tys A X 44 1300 3 259 mX10_text _ 0 [(0, .ref x), (1, .int so), (2, .long seed)] [] h 0 0
  refine tt_iload_n rfl (List.Mem.tail _ (List.Mem.head _)) (tX10_text_0_ok (0, .iload_n 1, 1) (List.mem_of_getElem? (i := 0) rfl)) ?_
  refine tt_if_ne (tgt := 10) (tX10_text_0_ok (1, .ifCond .ne 9, 3) (List.mem_of_getElem? (i := 1) rfl)) rfl (fun b1 => ?_) (fun b1 => ?_)
  · have b1 : ¬ so.toInt = 0 := fun q => b1 ((kn_eq _ _).mpr q)
    refine tt_iload_n rfl (List.Mem.tail _ (List.Mem.head _)) (tX10_text_0_ok (10, .iload_n 1, 1) (List.mem_of_getElem? (i := 6) rfl)) ?_
    refine tt_iconst (v := 1) rfl (tX10_text_0_ok (11, .iconst 1, 1) (List.mem_of_getElem? (i := 7) rfl)) ?_
    refine tt_icmp_ne (tgt := 20) (tX10_text_0_ok (12, .if_icmp .ne 8, 3) (List.mem_of_getElem? (i := 8) rfl)) rfl (fun b2 => ?_) (fun b2 => ?_)
    · have b2 : ¬ so.toInt = 1 := fun q => b2 ((kn_eq _ _).mpr q)
      refine tt_iconst (v := -1) rfl (tX10_text_0_ok (20, .iconst (-1), 1) (List.mem_of_getElem? (i := 12) rfl)) ?_
      refine tt_iret rfl ?_ (by decide) (by decide) (tX10_text_0_ok (21, .ireturn, 1) (List.mem_of_getElem? (i := 13) rfl))
      refine ⟨?_, trivial⟩
      rw [n_text_neg (fun q => b1 q.1), r_text_neg (fun q => b1 q.1)]
      exact ⟨H, H0⟩
    · have b2 : so.toInt = 1 := by rw [b2]; rfl
      obtain ⟨k, s, s_k, s_s, R⟩ := T_ru hH s_r
      refine tt_aload_n rfl (List.Mem.head _) (tX10_text_0_ok (15, .aload_n 0, 1) (List.mem_of_getElem? (i := 9) rfl)) ?_
      obtain ⟨e9, z1, z2, z3, z4, z5⟩ := (cllw_X10 (126, 0, 129) (List.mem_of_getElem? (i := 7) rfl))
      cases z1
      refine tt_callV (M' := mX10_newRule) (As := []) (rest := []) (ci := 9) (fr' := 42) (lo' := 1200) (mc' := 3) (ms' := 259) (tX10_text_0_ok (16, .invokevirtual 126, 3) (List.mem_of_getElem? (i := 10) rfl)) z5 z2 z3 z4 c_x rfl rfl rfl ⟨by decide, by decide⟩ ⟨by decide, by decide⟩ (Nat.le_of_ble_eq_true rfl) (Nat.le_of_ble_eq_true rfl) (t_newRuleV (Q := fun v g => (∃ w9 : Int32, v = some (.int w9)) ∧ (rC cA g x (n_text so σ τ).1 (r_text so σ ρ) ∧ dC cA g x)) hT.1 hN hH sx st sb s_r s_k s_s s_ra c_x f0 f12 f13 f14 ⟨r1, r2⟩ T R (fun g v Sg1 xs1 len1 rc1 at1 fl1 q1 q2 q3 q4 q5 q6 q7 q8 kp kq => ?_)) (fun v1 g H1 => ?_)
      · refine ⟨⟨v, rfl⟩, ?_⟩
        rw [n_text_neg (fun q => b1 q.1), r_text_neg (fun q => b1 q.1)]
        refine ⟨H.gen hH sx (fun xs9 c9 => ?_) (fun a L ha hl => kq a L ha (by omega)), H0.gen hH sx (fun xs9 c9 => ?_) (fun a fs ha c => ⟨fs, (kq a 8 ha (by decide)).trans c, rfl⟩) (fun a ha => kq a 42 ha (by decide))⟩
        · rw [c_x] at c9
          cases c9
          exact ⟨xs1, q4, kp 1 (by decide) (by decide), kp 2 (by decide) (by decide)⟩
        · rw [c_x] at c9
          cases c9
          exact ⟨xs1, q4, kp 17 (by decide) (by decide)⟩
      · obtain ⟨⟨w9, rfl⟩, q1⟩ := H1
        refine tt_iret rfl ⟨q1, trivial⟩ (by decide) (by decide) (tX10_text_0_ok (19, .ireturn, 1) (List.mem_of_getElem? (i := 11) rfl))
  · have b1 : so.toInt = 0 := by rw [b1]; rfl
    refine tt_aload_n rfl (List.Mem.head _) (tX10_text_0_ok (4, .aload_n 0, 1) (List.mem_of_getElem? (i := 2) rfl)) ?_
    refine tt_lload_n rfl (List.Mem.tail _ (List.Mem.tail _ (List.Mem.head _))) (tX10_text_0_ok (5, .lload_n 2, 1) (List.mem_of_getElem? (i := 3) rfl)) ?_
    obtain ⟨e9, z1, z2, z3, z4, z5⟩ := (cllw_X10 (122, 0, 130) (List.mem_of_getElem? (i := 4) rfl))
    cases z1
    have kc : tt l D tys A X 8 300 0 0 mX10_newTown (fun v g => (∃ w9 : Int32, v = some (.int w9)) ∧ (rC cA g x (n_text so σ τ).1 (r_text so σ ρ) ∧ dC cA g x)) 0 [(0, .ref x), (1, .long seed)] [] h 0 0 := by
      have bz9 : so.toInt = 0 := b1
      obtain ⟨wf, xs9, Pa9, P9, ro, ro', a1, a2, a3, a4, a5, a6, a7, a8, b1, b2, b3, b4, b5, b6, b7, b8, rc9, H9⟩ := H
      have H8 := H9
      obtain ⟨c_x9, g1, g2, ne, c_Pa, c_P, nn, R, e⟩ := H8
      rw [c_x] at c_x9
      cases c_x9
      rw [f1] at g1
      cases g1
      rw [f2] at g2
      cases g2
      obtain ⟨rc8, R8⟩ := pr_ex hH s_P c_P
      obtain ⟨-, -, -, -, z1, z2, z3, z4, z5, z6, z7, z8⟩ := pn_at hH s_Pa c_Pa
      obtain ⟨-, -, -, -, u1, u2, u3, u4, u5, u6, u7, u8⟩ := pn_at hH s_P c_P
      obtain ⟨n1, n2, n3, n4, n5, n6, n7, n8⟩ := id nn
      refine h_newTownV hT.1 (by decide) (by decide) xl f0 f1 f2 f3 f8 f10 f11 sx st s_Pa s_P s_no s_fo s_wn s_sn sb hH c_x T c_P R8 (fun g v hz => ⟨⟨v, rfl⟩, ?_⟩)
      rw [hn] at hz
      rcases hz with ⟨⟨y1, y2⟩, ⟨xs1, ro1, d0, d1, d2, d17, d3, d4⟩, d5⟩ | ⟨⟨y1, y2⟩, ⟨ro1, d1⟩, d2⟩
      · rw [n_text_pos bz9 (by rw [y2]; rfl), r_text_pos bz9 (by rw [y2]; rfl)]
        refine ⟨⟨wfR_town y2, xs1, P, Pa, ro1, ro, b1, b2, b3, b4, b5, b6, b7, b8, a1, a2, a3, a4, a5, a6, a7, a8, _, d0, d1, d2, ne.symm, d3, (d5 Pa 2 s_Pa (Or.inl rfl) ?_).trans c_Pa, ⟨n1.symm, n2.symm, n3.symm, n4.symm, n5.symm, n6.symm, n7.symm, n8.symm⟩, d4, fun q hq w _ => congrFun (sp_tv_rows σ.1 σ.2.1 6 0 0 rc8 (fun _ _ => 0) (fun k hk => absurd hk (by omega)) q hq) w⟩, H0.gen hH sx (fun xs9 c9 => ?_) (fun a fs ha c => ⟨fs, (d5 a 8 ha (by decide) (sgP_lt (k_sg_ne ha st (by decide)) (k_sg_ne ha sb (by decide)) (k_sg_ne ha s_P (by decide)) (k_sg_ne ha u1 (by decide)) (k_sg_ne ha u2 (by decide)) (k_sg_ne ha u3 (by decide)) (k_sg_ne ha u4 (by decide)) (k_sg_ne ha u5 (by decide)) (k_sg_ne ha u6 (by decide)) (k_sg_ne ha u7 (by decide)) (k_sg_ne ha u8 (by decide)))).trans c, rfl⟩) (fun a ha => d5 a 42 ha (by decide) (sgP_lt (k_sg_ne ha st (by decide)) (k_sg_ne ha sb (by decide)) (k_sg_ne ha s_P (by decide)) (k_sg_ne ha u1 (by decide)) (k_sg_ne ha u2 (by decide)) (k_sg_ne ha u3 (by decide)) (k_sg_ne ha u4 (by decide)) (k_sg_ne ha u5 (by decide)) (k_sg_ne ha u6 (by decide)) (k_sg_ne ha u7 (by decide)) (k_sg_ne ha u8 (by decide))))⟩
        · exact sgP_lt (k_sg_ne s_Pa st (by decide)) (k_sg_ne s_Pa sb (by decide)) ne (k_sg_ne s_Pa u1 (by decide)) (k_sg_ne s_Pa u2 (by decide)) (k_sg_ne s_Pa u3 (by decide)) (k_sg_ne s_Pa u4 (by decide)) (k_sg_ne s_Pa u5 (by decide)) (k_sg_ne s_Pa u6 (by decide)) (k_sg_ne s_Pa u7 (by decide)) (k_sg_ne s_Pa u8 (by decide))
        · rw [c_x] at c9
          cases c9
          exact ⟨xs1, d0, d17⟩
      · rw [n_text_neg (fun q => by have q2 := q.2; rw [y2] at q2; cases q2), r_text_neg (fun q => by have q2 := q.2; rw [y2] at q2; cases q2)]
        exact ⟨rC.dr wf hH sx st sb H9 d1 d2, H0.same hH sx (fun a L ha hl => d2 a (sgP_lt (k_sg_ne ha st (by omega)) (k_sg_ne ha sb (by omega)) (k_sg_ne ha s_P (by omega)) (k_sg_ne ha u1 (by omega)) (k_sg_ne ha u2 (by omega)) (k_sg_ne ha u3 (by omega)) (k_sg_ne ha u4 (by omega)) (k_sg_ne ha u5 (by omega)) (k_sg_ne ha u6 (by omega)) (k_sg_ne ha u7 (by omega)) (k_sg_ne ha u8 (by omega))))⟩
    refine tt_callV (M' := mX10_newTown) (As := [.long seed]) (rest := []) (ci := 9) (fr' := 8) (lo' := 300) (mc' := 0) (ms' := 0) (tX10_text_0_ok (6, .invokevirtual 122, 3) (List.mem_of_getElem? (i := 4) rfl)) z5 z2 z3 z4 c_x rfl rfl rfl ⟨by decide, by decide⟩ ⟨by decide, by decide⟩ (Nat.le_of_ble_eq_true rfl) (Nat.le_of_ble_eq_true rfl) kc (fun v1 g H1 => ?_)
    obtain ⟨⟨w9, rfl⟩, q1⟩ := H1
    exact tt_iret rfl ⟨q1, trivial⟩ (by decide) (by decide) (tX10_text_0_ok (9, .ireturn, 1) (List.mem_of_getElem? (i := 5) rfl))
end
