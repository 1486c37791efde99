/-! the reference's begin, with the numbers -/
section
variable {l : Launch} {D : va_G} {tys : List (ClassId × FieldType)} {A : Nat → Prop} {X : State → Prop} {fr lo : Nat} {Q : Option Value → ch_H → Prop} {cA : Nat → ClassId} {Sg : Nat → Option Nat} {h : ch_H}
theorem h_beginN (hT : k_tys tys cA) {m ro to wa se be : Nat} {fs : List Value} {rp : Int32} {seed : Int64} (s_m : Sg m = some 50) (s_ro : Sg ro = some 55) (s_to : Sg to = some 56) (s_wa : Sg wa = some 60) (s_se : Sg se = some 61) (s_be : Sg be = some 65) (fl : fs.length = 47) (fL19 : fs[19]? = some (.ref ro)) (fL20 : fs[20]? = some (.int rp)) (fL22 : fs[22]? = some (.ref to)) (fL26 : fs[26]? = some (.ref wa)) (fL27 : fs[27]? = some (.ref se)) (fL31 : fs[31]? = some (.ref be)) (hrp : 0 ≤ rp.toInt ∧ rp.toInt ≤ 6) (hf : 1 ≤ fr) (hl : 30 ≤ lo) (hH : k_H Sg cA Lb h) (c_m : h m = some (.inr (10, fs))) (hq : ∀ (g : ch_H) (fs1 : List Value) (w0 w1 w2 : Int32), k_H Sg cA Lb g → k_U Sg [(50, 32), (50, 33), (50, 34), (50, 36), (50, 39), (56, 0), (60, 0), (61, 0), (65, 0)] h g → g m = some (.inr (10, fs1)) → fs1[32]? = some (.int w0) → fs1[33]? = some (.int w1) → fs1[34]? = some (.int w2) → w0.toInt = 0 → w1.toInt = 0 → w2.toInt = 0 → Q none g) : ww l D tys A X fr lo mX11_begin Q 0 [(0, .ref m), (1, .long seed)] [] h := by
  refine w_iconst (by decide) (tX11_begin_0_ok (0, .iconst 0, 1) (List.mem_of_getElem? (i := 0) rfl)) (fun zv1 ze2 => ?_)
  refine w_istore_n [(3, .int zv1), (0, .ref m), (1, .long seed)] rfl (Nat.le_of_ble_eq_true rfl) (tX11_begin_0_ok (1, .istore_n 3, 1) (List.mem_of_getElem? (i := 1) rfl)) ?_
  refine w_lv [(3, .int zv1), (0, .ref m), (1, .long seed)] (by intro q hq; simp only [List.mem_cons, List.not_mem_nil, or_false] at hq ⊢; rcases hq with e | e | e <;> subst e <;> simp) ?_
  refine h_bg1 hT s_m s_ro s_to s_wa s_se s_be fl fL19 fL20 fL22 fL26 fL27 fL31 hrp hf hl 39 _ _ (by omega) (by omega) hH c_m (fun zg3 zka4 zq5 zq6 zq7 => ?_)
  show ww l D tys A X fr lo mX11_begin Q 21 [(3, .int zka4), (0, .ref m), (1, .long seed)] [] zg3
  refine w_iconst (by decide) (tX11_begin_0_ok (21, .iconst 0, 1) (List.mem_of_getElem? (i := 12) rfl)) (fun zv8 ze9 => ?_)
  refine w_istore_n [(3, .int zv8), (0, .ref m), (1, .long seed)] rfl (Nat.le_of_ble_eq_true rfl) (tX11_begin_0_ok (22, .istore_n 3, 1) (List.mem_of_getElem? (i := 13) rfl)) ?_
  refine w_lv [(3, .int zv8), (0, .ref m), (1, .long seed)] (by intro q hq; simp only [List.mem_cons, List.not_mem_nil, or_false] at hq ⊢; rcases hq with e | e | e <;> subst e <;> simp) ?_
  refine h_bg2 hT s_m s_ro s_to s_wa s_se s_be fl fL19 fL20 fL22 fL26 fL27 fL31 hrp hf hl rp.toInt.toNat _ _ (by omega) (by omega) zq5 zq6 (fun zg10 zka11 zq12 zq13 zq14 => ?_)
  show ww l D tys A X fr lo mX11_begin Q 59 [(3, .int zka11), (0, .ref m), (1, .long seed)] [] zg10
  refine w_iconst (by decide) (tX11_begin_0_ok (59, .iconst 0, 1) (List.mem_of_getElem? (i := 35) rfl)) (fun zv15 ze16 => ?_)
  refine w_istore_n [(3, .int zv15), (0, .ref m), (1, .long seed)] rfl (Nat.le_of_ble_eq_true rfl) (tX11_begin_0_ok (60, .istore_n 3, 1) (List.mem_of_getElem? (i := 36) rfl)) ?_
  refine w_lv [(3, .int zv15), (0, .ref m), (1, .long seed)] (by intro q hq; simp only [List.mem_cons, List.not_mem_nil, or_false] at hq ⊢; rcases hq with e | e | e <;> subst e <;> simp) ?_
  refine h_bg3 hT s_m s_ro s_to s_wa s_se s_be fl fL19 fL20 fL22 fL26 fL27 fL31 hrp hf hl 324 _ _ (by omega) (by omega) zq12 zq13 (fun zg17 zka18 zq19 zq20 zq21 => ?_)
  show ww l D tys A X fr lo mX11_begin Q 81 [(3, .int zka18), (0, .ref m), (1, .long seed)] [] zg17
  refine w_iconst (by decide) (tX11_begin_0_ok (81, .iconst 0, 1) (List.mem_of_getElem? (i := 47) rfl)) (fun zv22 ze23 => ?_)
  refine w_istore_n [(3, .int zv22), (0, .ref m), (1, .long seed)] rfl (Nat.le_of_ble_eq_true rfl) (tX11_begin_0_ok (82, .istore_n 3, 1) (List.mem_of_getElem? (i := 48) rfl)) ?_
  refine w_lv [(3, .int zv22), (0, .ref m), (1, .long seed)] (by intro q hq; simp only [List.mem_cons, List.not_mem_nil, or_false] at hq ⊢; rcases hq with e | e | e <;> subst e <;> simp) ?_
  refine h_bg4 hT s_m s_ro s_to s_wa s_se s_be fl fL19 fL20 fL22 fL26 fL27 fL31 hrp hf hl 12 _ _ (by omega) (by omega) zq19 zq20 (fun zg24 zka25 zq26 zq27 zq28 => ?_)
  show ww l D tys A X fr lo mX11_begin Q 109 [(3, .int zka25), (0, .ref m), (1, .long seed)] [] zg24
  refine w_aload_n (List.Mem.tail _ (List.Mem.head _)) (tX11_begin_1_ok (109, .aload_n 0, 1) (List.mem_of_getElem? (i := 4) rfl)) ?_
  refine w_iconst (by decide) (tX11_begin_1_ok (110, .iconst 0, 1) (List.mem_of_getElem? (i := 5) rfl)) (fun zv29 ze30 => ?_)
  refine w_putF (own := 16) (ci := 10) (k := 32) rfl rfl (by decide) rfl ⟨rfl, rfl⟩ zq27 (by rw [fl]; decide) (tX11_begin_1_ok (111, .putfield 258, 3) (List.mem_of_getElem? (i := 6) rfl)) (fun zh31 zfs34 zl35 zk36 zj37 zc32 zo33 => ?_)
  rw [fl] at zl35
  have zf38 := (zj37 19 (by decide)).trans fL19
  have zf39 := (zj37 20 (by decide)).trans fL20
  have zf40 := (zj37 22 (by decide)).trans fL22
  have zf41 := (zj37 26 (by decide)).trans fL26
  have zf42 := (zj37 27 (by decide)).trans fL27
  have zf43 := (zj37 31 (by decide)).trans fL31
  have zH44 := zq26.fld (k := 32) s_m rfl rfl zq27 zc32 zl35 zk36 ⟨_, rfl, by show (0 : Int) ≤ _; omega, by show _ ≤ (6 : Int); omega⟩ zj37 zo33
  have zu45 : k_U Sg [(50, 32), (50, 33), (50, 34), (50, 36), (50, 39), (56, 0), (60, 0), (61, 0), (65, 0)] zg24 zh31 := k_U.put s_m (k := 32) (by decide) zq27 zc32 zj37 zo33
  refine w_aload_n (List.Mem.tail _ (List.Mem.head _)) (tX11_begin_1_ok (114, .aload_n 0, 1) (List.mem_of_getElem? (i := 7) rfl)) ?_
  refine w_iconst (by decide) (tX11_begin_1_ok (115, .iconst 0, 1) (List.mem_of_getElem? (i := 8) rfl)) (fun zv46 ze47 => ?_)
  refine w_putF (own := 16) (ci := 10) (k := 33) rfl rfl (by decide) rfl ⟨rfl, rfl⟩ zc32 (by rw [zl35]; decide) (tX11_begin_1_ok (116, .putfield 261, 3) (List.mem_of_getElem? (i := 9) rfl)) (fun zh48 zfs51 zl52 zk53 zj54 zc49 zo50 => ?_)
  rw [zl35] at zl52
  have zf55 := (zj54 32 (by decide)).trans zk36
  have zf56 := (zj54 19 (by decide)).trans zf38
  have zf57 := (zj54 20 (by decide)).trans zf39
  have zf58 := (zj54 22 (by decide)).trans zf40
  have zf59 := (zj54 26 (by decide)).trans zf41
  have zf60 := (zj54 27 (by decide)).trans zf42
  have zf61 := (zj54 31 (by decide)).trans zf43
  have zH62 := zH44.fld (k := 33) s_m rfl rfl zc32 zc49 zl52 zk53 ⟨_, rfl, by show (0 : Int) ≤ _; omega, by show _ ≤ (8 : Int); omega⟩ zj54 zo50
  have zu63 : k_U Sg [(50, 32), (50, 33), (50, 34), (50, 36), (50, 39), (56, 0), (60, 0), (61, 0), (65, 0)] zh31 zh48 := k_U.put s_m (k := 33) (by decide) zc32 zc49 zj54 zo50
  refine w_aload_n (List.Mem.tail _ (List.Mem.head _)) (tX11_begin_1_ok (119, .aload_n 0, 1) (List.mem_of_getElem? (i := 10) rfl)) ?_
  refine w_iconst (by decide) (tX11_begin_1_ok (120, .iconst 0, 1) (List.mem_of_getElem? (i := 11) rfl)) (fun zv64 ze65 => ?_)
  refine w_putF (own := 16) (ci := 10) (k := 34) rfl rfl (by decide) rfl ⟨rfl, rfl⟩ zc49 (by rw [zl52]; decide) (tX11_begin_1_ok (121, .putfield 264, 3) (List.mem_of_getElem? (i := 12) rfl)) (fun zh66 zfs69 zl70 zk71 zj72 zc67 zo68 => ?_)
  rw [zl52] at zl70
  have zf73 := (zj72 33 (by decide)).trans zk53
  have zf74 := (zj72 32 (by decide)).trans zf55
  have zf75 := (zj72 19 (by decide)).trans zf56
  have zf76 := (zj72 20 (by decide)).trans zf57
  have zf77 := (zj72 22 (by decide)).trans zf58
  have zf78 := (zj72 26 (by decide)).trans zf59
  have zf79 := (zj72 27 (by decide)).trans zf60
  have zf80 := (zj72 31 (by decide)).trans zf61
  have zH81 := zH62.fld (k := 34) s_m rfl rfl zc49 zc67 zl70 zk71 ⟨_, rfl, by show (0 : Int) ≤ _; omega, by show _ ≤ (6 : Int); omega⟩ zj72 zo68
  have zu82 : k_U Sg [(50, 32), (50, 33), (50, 34), (50, 36), (50, 39), (56, 0), (60, 0), (61, 0), (65, 0)] zh48 zh66 := k_U.put s_m (k := 34) (by decide) zc49 zc67 zj72 zo68
  refine w_aload_n (List.Mem.tail _ (List.Mem.head _)) (tX11_begin_1_ok (124, .aload_n 0, 1) (List.mem_of_getElem? (i := 13) rfl)) ?_
  refine w_iconst (by decide) (tX11_begin_1_ok (125, .iconst 0, 1) (List.mem_of_getElem? (i := 14) rfl)) (fun zv83 ze84 => ?_)
  refine w_putF (own := 16) (ci := 10) (k := 39) rfl rfl (by decide) rfl ⟨(kn_nz (by omega) (by omega)).1, (kn_nz (by omega) (by omega)).2.1⟩ zc67 (by rw [zl70]; decide) (tX11_begin_1_ok (126, .putfield 267, 3) (List.mem_of_getElem? (i := 15) rfl)) (fun zh85 zfs88 zl89 zk90 zj91 zc86 zo87 => ?_)
  rw [zl70] at zl89
  have zf92 := (zj91 34 (by decide)).trans zk71
  have zf93 := (zj91 33 (by decide)).trans zf73
  have zf94 := (zj91 32 (by decide)).trans zf74
  have zf95 := (zj91 19 (by decide)).trans zf75
  have zf96 := (zj91 20 (by decide)).trans zf76
  have zf97 := (zj91 22 (by decide)).trans zf77
  have zf98 := (zj91 26 (by decide)).trans zf78
  have zf99 := (zj91 27 (by decide)).trans zf79
  have zf100 := (zj91 31 (by decide)).trans zf80
  have zH101 := zH81.fld (k := 39) s_m rfl rfl zc67 zc86 zl89 zk90 ⟨_, rfl, by show (0 : Int) ≤ _; omega, by show _ ≤ (1 : Int); omega⟩ zj91 zo87
  have zu102 : k_U Sg [(50, 32), (50, 33), (50, 34), (50, 36), (50, 39), (56, 0), (60, 0), (61, 0), (65, 0)] zh66 zh85 := k_U.put s_m (k := 39) (by decide) zc67 zc86 zj91 zo87
  refine w_aload_n (List.Mem.tail _ (List.Mem.head _)) (tX11_begin_1_ok (129, .aload_n 0, 1) (List.mem_of_getElem? (i := 16) rfl)) ?_
  refine w_lload_n (List.Mem.tail _ (List.Mem.tail _ (List.Mem.head _))) (tX11_begin_1_ok (130, .lload_n 1, 1) (List.mem_of_getElem? (i := 17) rfl)) ?_
  refine w_putF (own := 16) (ci := 10) (k := 36) rfl rfl (by decide) rfl ⟨rfl, rfl⟩ zc86 (by rw [zl89]; decide) (tX11_begin_1_ok (131, .putfield 270, 3) (List.mem_of_getElem? (i := 18) rfl)) (fun zh103 zfs106 zl107 zk108 zj109 zc104 zo105 => ?_)
  rw [zl89] at zl107
  have zf110 := (zj109 39 (by decide)).trans zk90
  have zf111 := (zj109 34 (by decide)).trans zf92
  have zf112 := (zj109 33 (by decide)).trans zf93
  have zf113 := (zj109 32 (by decide)).trans zf94
  have zf114 := (zj109 19 (by decide)).trans zf95
  have zf115 := (zj109 20 (by decide)).trans zf96
  have zf116 := (zj109 22 (by decide)).trans zf97
  have zf117 := (zj109 26 (by decide)).trans zf98
  have zf118 := (zj109 27 (by decide)).trans zf99
  have zf119 := (zj109 31 (by decide)).trans zf100
  have zH120 := zH101.fld (k := 36) s_m rfl rfl zc86 zc104 zl107 zk108 ⟨_, rfl⟩ zj109 zo105
  have zu121 : k_U Sg [(50, 32), (50, 33), (50, 34), (50, 36), (50, 39), (56, 0), (60, 0), (61, 0), (65, 0)] zh85 zh103 := k_U.put s_m (k := 36) (by decide) zc86 zc104 zj109 zo105
  refine w_vret rfl (tX11_begin_1_ok (134, .return_, 1) (List.mem_of_getElem? (i := 19) rfl)) ?_
  exact hq _ _ _ _ _ zH120 (((((((((zq7).tr zq14).tr zq21).tr zq28).tr zu45).tr zu63).tr zu82).tr zu102).tr zu121) zc104 zf113 zf112 zf111 (by omega) (by omega) (by omega)
end
