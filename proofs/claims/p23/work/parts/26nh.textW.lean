/-! feed, end, fault, text: what becomes of WANTED -/
section
variable {l : Launch} {D : va_G} {tys : List (ClassId × FieldType)} {A : Nat → Prop} {X : State → Prop} {fr lo mc ms : Nat} {M : ch_M} {Q : Option Value → ch_H → Prop} {pc : Nat} {lv : List (Nat × Value)} {st : List Value} {h : ch_H} {c z : Nat} {Sg : Nat → Option Nat} {cA : Nat → ClassId} {Lb9 : Nat → k_I} {x : Nat}
theorem t_newRuleW (hT : k_tys tys cA) (hN : k_NX X) {xs : List Value} {t b r k s ra : Nat} {f : Nat → Int32} {len rc at0 fl0 : Int32} (hH : k_H Sg cA Lb h) (sx : Sg x = some 0) (st : Sg t = some 1) (sb : Sg b = some 10) (s_r : Sg r = some 6) (s_k : Sg k = some 36) (s_s : Sg s = some 37) (s_ra : Sg ra = some 34) (c_x : h x = some (.inr (9, xs))) (f0 : xs[0]? = some (.ref t)) (f12 : xs[12]? = some (.ref ra)) (f13 : xs[13]? = some (.ref r)) (f14 : xs[14]? = some (.int rc)) (hrc : 0 ≤ rc.toInt ∧ rc.toInt ≤ 4) (T : tp0 cA h t b f len at0 fl0) (Ru : ru cA h r k s)
    (hq : ∀ (g : ch_H) (v : Int32) (Sg1 : Nat → Option Nat) (xs1 : List Value) (len1 rc1 at1 fl1 : Int32), k_H Sg1 cA Lb g → sg_le Sg Sg1 → (∀ a L, Sg1 a = some L → 50 ≤ L → Sg a = some L ∧ g a = h a) → g x = some (.inr (9, xs1)) → xs1[0]? = some (.ref t) → xs1[14]? = some (.int rc1) → tp0 cA g t b f len1 at1 fl1 → (rc.toInt < 4 ∧ (∃ q, sp_rule f len.toInt.toNat = .inr q) ∧ len1.toInt = 0 ∧ rc1.toInt = rc.toInt + 1 ∧ v.toInt = rc.toInt ∨ (4 ≤ rc.toInt ∨ ∃ e, sp_rule f len.toInt.toNat = .inl e) ∧ len1 = len ∧ rc1 = rc ∧ v.toInt = -1) → (∀ j, j ≠ 13 → j ≠ 14 → xs1[j]? = xs[j]?) → (∀ a L, Sg a = some L → L = 32 → g a = h a) → Q (some (.int v)) g) : tt l D tys A X 42 1200 3 259 mX10_newRule Q 0 [(0, .ref x)] [] h 0 0 := by
  have T9 := T
  refine tt_aload_n rfl (List.Mem.head _) (tX10_newRule_0_ok (0, .aload_n 0, 1) (List.mem_of_getElem? (i := 0) rfl)) ?_
  refine t_get (own := 15) rfl rfl (by decide) c_x f14 (tX10_newRule_0_ok (1, .getfield 141, 3) (List.mem_of_getElem? (i := 1) rfl)) ?_
  refine tt_iconst (v := 4) rfl (tX10_newRule_0_ok (4, .iconst 4, 1) (List.mem_of_getElem? (i := 2) rfl)) ?_
  refine tt_icmp_lt (tgt := 10) (tX10_newRule_0_ok (5, .if_icmp .lt 5, 3) (List.mem_of_getElem? (i := 3) rfl)) rfl (fun b1 => ?_) (fun b1 => ?_)
  · have b1 : rc.toInt < 4 := (kn_lt rc 4).mp b1
    refine tt_aload_n rfl (List.Mem.head _) (tX10_newRule_0_ok (10, .aload_n 0, 1) (List.mem_of_getElem? (i := 6) rfl)) ?_
    refine t_get (own := 15) rfl rfl (by decide) c_x f13 (tX10_newRule_0_ok (11, .getfield 67, 3) (List.mem_of_getElem? (i := 7) rfl)) ?_
    refine tt_aload_n rfl (List.Mem.head _) (tX10_newRule_0_ok (14, .aload_n 0, 1) (List.mem_of_getElem? (i := 8) rfl)) ?_
    refine t_get (own := 15) rfl rfl (by decide) c_x f0 (tX10_newRule_0_ok (15, .getfield 10, 3) (List.mem_of_getElem? (i := 9) rfl)) ?_
    obtain ⟨cR, hcR⟩ := ru.obj Ru
    have kc : tt l D tys A X 40 1170 0 0 mX5_read (fun v g => v = none ∧ ∃ at1 fl1 : Int32, tp cA g t b f len at1 fl1 ∧ ru cA g r k s ∧ sp_is (sp_rule f len.toInt.toNat) at1 fl1 ∧ ∀ q, q ≠ t ∧ q ≠ r ∧ q ≠ k → g q = h q) 0 [(0, .ref r), (1, .ref t)] [] h 0 0 :=
      s_read hT ⟨T.2.2.1, k_sg_ne s_r st (by decide), k_sg_ne s_k st (by decide), k_sg_ne s_r sb (by decide), k_sg_ne s_k sb (by decide), k_sg_ne s_r s_k (by decide)⟩ (by decide) (by decide) T Ru (fun h1 at1 fl1 T1 R1 e1 o1 => ⟨rfl, at1, fl1, T1, R1, e1, o1⟩)
    obtain ⟨e9, z1, z2, z3, z4, z5⟩ := (cllw_X10 (119, 0, 61) (List.mem_of_getElem? (i := 3) rfl))
    cases z1
    refine tt_callV (M' := mX5_read) (As := [.ref t]) (rest := []) (fr' := 40) (lo' := 1170) (mc' := 0) (ms' := 0) (tX10_newRule_0_ok (18, .invokevirtual 119, 3) (List.mem_of_getElem? (i := 10) rfl)) z5 z2 z3 z4 hcR rfl rfl rfl ⟨by decide, by decide⟩ ⟨by decide, by decide⟩ (Nat.le_of_ble_eq_true rfl) (Nat.le_of_ble_eq_true rfl) kc (fun v1 h1 H1 => ?_)
    obtain ⟨rfl, at1, fl1, T1, R1, e1, o1⟩ := H1
    obtain ⟨hH1, u1⟩ := k_H.rule hH st sb s_r s_k s_s T T1 R1 Ru o1
    have c_x1 : h1 x = some (.inr (9, xs)) := (o1 x ⟨k_sg_ne sx st (by decide), k_sg_ne sx s_r (by decide), k_sg_ne sx s_k (by decide)⟩).trans c_x
    show tt l D tys A X 42 1200 3 259 mX10_newRule Q 21 [(0, .ref x)] [] h1 0 0
    refine tt_aload_n rfl (List.Mem.head _) (tX10_newRule_0_ok (21, .aload_n 0, 1) (List.mem_of_getElem? (i := 11) rfl)) ?_
    refine t_get (own := 15) rfl rfl (by decide) c_x1 f0 (tX10_newRule_0_ok (22, .getfield 10, 3) (List.mem_of_getElem? (i := 12) rfl)) ?_
    refine t_get (own := 15) (ci := 7) (k := 3) rfl rfl (by decide) T1.1 rfl (tX10_newRule_0_ok (25, .getfield 116, 3) (List.mem_of_getElem? (i := 13) rfl)) ?_
    refine tt_iconst (v := -1) rfl (tX10_newRule_0_ok (28, .iconst (-1), 1) (List.mem_of_getElem? (i := 14) rfl)) ?_
    refine tt_icmp_eq (tgt := 34) (tX10_newRule_0_ok (29, .if_icmp .eq 5, 3) (List.mem_of_getElem? (i := 15) rfl)) rfl (fun b2 => ?_) (fun b2 => ?_)
    · have b2 : fl1.toInt = -1 := by rw [b2]; rfl
      obtain ⟨q9, q8, q7⟩ := sp_is.inr e1 b2
      obtain ⟨ea, ea1, ea2⟩ := hH1 ra 34 s_ra
      obtain ⟨fa, rfl, fa2⟩ := k_cell2 (I := Lb 34) rfl ea2
      have ea1 : h1 ra = some (.inl (cA 4, 4, .inr (.inr (.inr (.inr fa))))) := ea1
      obtain ⟨gr, szr, r1, -⟩ := id R1
      refine tt_aload_n rfl (List.Mem.head _) (tX10_newRule_0_ok (34, .aload_n 0, 1) (List.mem_of_getElem? (i := 18) rfl)) ?_
      refine t_get (own := 15) rfl rfl (by decide) c_x1 f12 (tX10_newRule_0_ok (35, .getfield 62, 3) (List.mem_of_getElem? (i := 19) rfl)) ?_
      refine tt_aload_n rfl (List.Mem.head _) (tX10_newRule_0_ok (38, .aload_n 0, 1) (List.mem_of_getElem? (i := 20) rfl)) ?_
      refine t_get (own := 15) rfl rfl (by decide) c_x1 f14 (tX10_newRule_0_ok (39, .getfield 141, 3) (List.mem_of_getElem? (i := 21) rfl)) ?_
      refine tt_aload_n rfl (List.Mem.head _) (tX10_newRule_0_ok (42, .aload_n 0, 1) (List.mem_of_getElem? (i := 22) rfl)) ?_
      refine t_get (own := 15) rfl rfl (by decide) c_x1 f13 (tX10_newRule_0_ok (43, .getfield 67, 3) (List.mem_of_getElem? (i := 23) rfl)) ?_
      refine tt_aast ea1 (hT 4 (by decide)) r1 (r := (RX5, TX5, 3)) rfl (kn_in hrc.1 (by omega)) (tX10_newRule_0_ok (46, .aastore, 1) (List.mem_of_getElem? (i := 24) rfl)) ?_
      generalize hg2 : ch_up h1 ra (.inl (cA 4, 4, .inr (.inr (.inr (.inr (va_up fa rc.toNatClampNeg (some r))))))) = h2
      have c_ra2 : h2 ra = some (.inl (cA 4, 4, .inr (.inr (.inr (.inr (va_up fa rc.toNatClampNeg (some r))))))) := by rw [← hg2]; exact ch_up_s _ _ _
      have o2 : ∀ q, q ≠ ra → h2 q = h1 q := fun q hq => by rw [← hg2]; exact ch_up_n _ _ hq
      have hH2 : k_H Sg cA Lb h2 := hH1.one s_ra c_ra2 (Or.inr (Or.inr ⟨rfl, _, rfl, fun i hi => by
        unfold va_up
        split
        · exact Or.inr ⟨r, rfl, s_r⟩
        · exact fa2 i hi⟩)) o2
      have c_x2 := (o2 x (k_sg_ne sx s_ra (by decide))).trans c_x1
      have c_t2 := (o2 t (k_sg_ne st s_ra (by decide))).trans T1.1
      have c_b2 := (o2 b (k_sg_ne sb s_ra (by decide))).trans T1.2.1
      show tt l D tys A X 42 1200 3 259 mX10_newRule Q 47 [(0, .ref x)] [] h2 0 0
      refine tt_aload_n rfl (List.Mem.head _) (tX10_newRule_0_ok (47, .aload_n 0, 1) (List.mem_of_getElem? (i := 25) rfl)) ?_
      refine n_objL hH2 (n_X5_init hT (fun _ _ => rfl)) (wA1 224 rfl rfl) (wA1 226 rfl rfl) (wA1 7 rfl rfl) (by decide) df_5_ok kX5_init rfl rfl (Or.inl ⟨_, (fun s x => (hN s x).2.2.2.2.2.1)⟩) iX5_init (by decide) (by decide) (by decide) (Nat.le_of_ble_eq_true rfl) (fun _ => Nat.le_of_ble_eq_true rfl) (tX10_newRule_0_ok (48, .new 60, 3) (List.mem_of_getElem? (i := 26) rfl)) (tX10_newRule_0_ok (51, .dup, 1) (List.mem_of_getElem? (i := 27) rfl)) (tX10_newRule_0_ok (52, .invokespecial 66, 3) (List.mem_of_getElem? (i := 28) rfl)) (fun nb Sg1 h3 hH3 s_nb hnb o3 _ => ?_)
      have le3 : sg_le Sg Sg1 := fun q M9 hq => by rw [(o3 q (hH2.some_ hq)).2]; exact hq
      have sx3 := le3 x 0 sx
      have st3 := le3 t 1 st
      have sb3 := le3 b 10 sb
      have c_x3 := (o3 x (by rw [c_x2]; exact fun q => by cases q)).1.trans c_x2
      have c_t3 := (o3 t (by rw [c_t2]; exact fun q => by cases q)).1.trans c_t2
      have c_b3 := (o3 b (by rw [c_b2]; exact fun q => by cases q)).1.trans c_b2
      refine t_put (own := 15) (ci := 9) (k := 13) hH3 sx3 rfl rfl ⟨nb, rfl, s_nb⟩ c_x3 rfl rfl (by decide) rfl ⟨rfl, rfl⟩ (by decide) (tX10_newRule_0_ok (55, .putfield 67, 3) (List.mem_of_getElem? (i := 29) rfl)) (fun h4 xs4 hH4 c_x4 f134 j4 o4 => ?_)
      have f04 := (j4 0 (by decide)).trans f0
      have f144 := (j4 14 (by decide)).trans f14
      have c_t4 := (o4 t (k_sg_ne st3 sx3 (by decide))).trans c_t3
      have c_b4 := (o4 b (k_sg_ne sb3 sx3 (by decide))).trans c_b3
      refine tt_aload_n rfl (List.Mem.head _) (tX10_newRule_0_ok (58, .aload_n 0, 1) (List.mem_of_getElem? (i := 30) rfl)) ?_
      refine t_get (own := 15) rfl rfl (by decide) c_x4 f04 (tX10_newRule_0_ok (59, .getfield 10, 3) (List.mem_of_getElem? (i := 31) rfl)) ?_
      refine tt_iconst (v := 0) rfl (tX10_newRule_0_ok (62, .iconst 0, 1) (List.mem_of_getElem? (i := 32) rfl)) ?_
      refine t_put (own := 15) (ci := 7) (k := 1) hH4 st3 rfl rfl ⟨0, rfl, by decide, by decide⟩ c_t4 rfl rfl (by decide) rfl ⟨rfl, rfl⟩ (by decide) (tX10_newRule_0_ok (63, .putfield 103, 3) (List.mem_of_getElem? (i := 33) rfl)) (fun h5 ts5 hH5 c_t5 f15 j5 o5 => ?_)
      have l5 : ts5.length = 4 := by
        obtain ⟨w9, w8, w7, -⟩ := hH5.obj st3 (L := 1) rfl
        rw [c_t5] at w8
        cases w8
        exact w7
      have e5 := list4 l5 ((j5 0 (by decide)).trans rfl) f15 ((j5 2 (by decide)).trans rfl) ((j5 3 (by decide)).trans rfl)
      subst e5
      have c_x5 := (o5 x (k_sg_ne sx3 st3 (by decide))).trans c_x4
      have c_b5 := (o5 b (k_sg_ne sb3 st3 (by decide))).trans c_b4
      refine tt_aload_n rfl (List.Mem.head _) (tX10_newRule_0_ok (66, .aload_n 0, 1) (List.mem_of_getElem? (i := 34) rfl)) ?_
      refine tt_dup rfl (tX10_newRule_0_ok (67, .dup, 1) (List.mem_of_getElem? (i := 35) rfl)) ?_
      refine t_get (own := 15) rfl rfl (by decide) c_x5 f144 (tX10_newRule_0_ok (68, .getfield 141, 3) (List.mem_of_getElem? (i := 36) rfl)) ?_
      refine tt_iconst (v := 1) rfl (tX10_newRule_0_ok (71, .iconst 1, 1) (List.mem_of_getElem? (i := 37) rfl)) ?_
      refine tt_iadd (tX10_newRule_0_ok (72, .iadd, 1) (List.mem_of_getElem? (i := 38) rfl)) ?_
      have er : (rc + 1).toInt = rc.toInt + 1 := fb_addI (by show -2147483648 ≤ rc.toInt + 1; omega) (by show rc.toInt + 1 < 2147483648; omega)
      refine t_put (own := 15) (ci := 9) (k := 14) hH5 sx3 rfl rfl ⟨rc + 1, rfl, by show (0 : Int) ≤ _; omega, by show _ ≤ (4 : Int); omega⟩ c_x5 rfl rfl (by decide) rfl ⟨rfl, rfl⟩ (by decide) (tX10_newRule_0_ok (73, .putfield 141, 3) (List.mem_of_getElem? (i := 39) rfl)) (fun h6 xs6 hH6 c_x6 f146 j6 o6 => ?_)
      refine tt_aload_n rfl (List.Mem.head _) (tX10_newRule_0_ok (76, .aload_n 0, 1) (List.mem_of_getElem? (i := 40) rfl)) ?_
      refine t_get (own := 15) rfl rfl (by decide) c_x6 f146 (tX10_newRule_0_ok (77, .getfield 141, 3) (List.mem_of_getElem? (i := 41) rfl)) ?_
      refine tt_iconst (v := 1) rfl (tX10_newRule_0_ok (80, .iconst 1, 1) (List.mem_of_getElem? (i := 42) rfl)) ?_
      refine tt_isub (tX10_newRule_0_ok (81, .isub, 1) (List.mem_of_getElem? (i := 43) rfl)) ?_
      refine tt_iret rfl ?_ (by decide) (by decide) (tX10_newRule_0_ok (82, .ireturn, 1) (List.mem_of_getElem? (i := 44) rfl))
      obtain ⟨hH9, le9, nx⟩ := k_H.cut (h := h) (g := h6) hH hH6 le3 (fun a L ha hl => by
        have n0 := lab_ge ha sx hl (by decide)
        have n1 := lab_ge ha st hl (by decide)
        have w2 := (o2 a (lab_ge ha s_ra hl (by decide))).trans (o1 a ⟨n1, lab_ge ha s_r hl (by decide), lab_ge ha s_k hl (by decide)⟩)
        exact (((o6 a n0).trans (o5 a n1)).trans (o4 a n0)).trans ((o3 a (hH2.some_ ha)).1.trans w2))
      have ev : (rc + 1 - 1).toInt = rc.toInt := by
        have e1 : (1 : Int32).toInt = 1 := rfl
        have := fb_subI (x := rc + 1) (y := 1) (by omega) (by omega)
        omega
      exact hq h6 _ (sg50 Sg Sg1) xs6 0 (rc + 1) at1 fl1 hH9 le9 nx c_x6 ((j6 0 (by decide)).trans f04) f146 ⟨(o6 t (k_sg_ne st3 sx3 (by decide))).trans c_t5, (o6 b (k_sg_ne sb3 sx3 (by decide))).trans c_b5, T.2.2.1, by decide, by decide⟩ (Or.inl ⟨b1, ⟨q9, q8⟩, rfl, er, ev⟩) (fun j n13 n14 => (j6 j n14).trans (j4 j n13)) (fun a L ha hl => by
        have n0 : a ≠ x := k_sg_ne ha sx (by omega)
        have n1 : a ≠ t := k_sg_ne ha st (by omega)
        have w2 := (o2 a (k_sg_ne ha s_ra (by omega))).trans (o1 a ⟨n1, k_sg_ne ha s_r (by omega), k_sg_ne ha s_k (by omega)⟩)
        exact (((o6 a n0).trans (o5 a n1)).trans (o4 a n0)).trans ((o3 a (hH2.some_ ha)).1.trans w2))
    · have b2 : ¬ fl1.toInt = -1 := fun q => b2 ((kn_eq _ _).mpr (by rw [q]; rfl))
      obtain ⟨q9, q8, q7⟩ := sp_is.inl e1 b2
      refine tt_iconst (v := -1) rfl (tX10_newRule_0_ok (32, .iconst (-1), 1) (List.mem_of_getElem? (i := 16) rfl)) ?_
      refine tt_iret rfl ?_ (by decide) (by decide) (tX10_newRule_0_ok (33, .ireturn, 1) (List.mem_of_getElem? (i := 17) rfl))
      exact hq h1 _ Sg xs len rc at1 fl1 hH1 sg_le.rf (fun a L ha hl => ⟨ha, o1 a ⟨lab_ge ha st hl (by decide), lab_ge ha s_r hl (by decide), lab_ge ha s_k hl (by decide)⟩⟩) c_x1 f0 f14 ⟨T1.1, T1.2.1, T1.2.2.1, T1.2.2.2.1, T1.2.2.2.2.1⟩ (Or.inr ⟨Or.inr ⟨q9, q8⟩, rfl, rfl, by decide⟩) (fun _ _ _ => rfl) (fun a L ha hl => o1 a ⟨k_sg_ne ha st (by omega), k_sg_ne ha s_r (by omega), k_sg_ne ha s_k (by omega)⟩)
  · have b1 : 4 ≤ rc.toInt := by have := mt (kn_lt rc 4).mpr b1; have e4 : (4 : Int32).toInt = 4 := rfl; omega
    refine tt_iconst (v := -1) rfl (tX10_newRule_0_ok (8, .iconst (-1), 1) (List.mem_of_getElem? (i := 4) rfl)) ?_
    refine tt_iret rfl ?_ (by decide) (by decide) (tX10_newRule_0_ok (9, .ireturn, 1) (List.mem_of_getElem? (i := 5) rfl))
    exact hq h _ Sg xs len rc at0 fl0 hH sg_le.rf (fun a L ha hl => ⟨ha, rfl⟩) c_x f0 f14 T9 (Or.inr ⟨Or.inl b1, rfl, rfl, by decide⟩) (fun _ _ _ => rfl) (fun _ _ _ _ => rfl)
end
noncomputable def w_text (so : Int32) (σ : aS) (wn : aWn) : aWn := if so.toInt = 0 ∧ isRb (sp_town σ.1 σ.2.1).1 = true then fun _ => -1 else wn
theorem w_text_pos {so : Int32} {σ : aS} {wn : aWn} (h0 : so.toInt = 0) (h1 : isRb (sp_town σ.1 σ.2.1).1 = true) : w_text so σ wn = fun _ => -1 := if_pos ⟨h0, h1⟩
theorem w_text_neg {so : Int32} {σ : aS} {wn : aWn} (h : ¬ (so.toInt = 0 ∧ isRb (sp_town σ.1 σ.2.1).1 = true)) : w_text so σ wn = wn := if_neg h
section
variable {l : Launch} {D : va_G} {tys : List (ClassId × FieldType)} {A : Nat → Prop} {X : State → Prop} {cA : Nat → ClassId} {Sg : Nat → Option Nat} {h : ch_H} {x n : Nat} {ρ : aRw} {σ : aS} {wn : aWn}
theorem y_feedW (hT : k_tys tys cA) {wa wb wc wd we : Int32} (hH : k_H Sg cA Lb h) (sx : Sg x = some 0) (hC : aC cA h x σ) (H0 : wC cA h x n wn) : tt l D tys A X 1 30 0 0 mX10_feed (fun _ g => wC cA g x n wn ∧ True) 0 (lv_args 0 [.ref x, .int wa, .int wb, .int wc, .int wd, .int we]) [] h 0 0 := by
  obtain ⟨xs, t, b, len, rc, at0, fl0, c_x, f0, f14, T, e1, e2⟩ := hC
  obtain ⟨st, sb⟩ := aC.sg hH sx c_x f0 T
  show ww l D tys A X 1 30 mX10_feed _ 0 [(0, .ref x), (1, .int wa), (2, .int wb), (3, .int wc), (4, .int wd), (5, .int we)] [] h
  exact s_feed hT (by decide) (by decide) c_x f0 (k_sg_ne sx st (by decide)) (k_sg_ne sx sb (by decide)) T (fun h1 f1 len1 v T1 hh o => ⟨H0.same hH sx (fun a L ha hl => o a ⟨k_sg_ne ha st (by omega), k_sg_ne ha sb (by omega)⟩), trivial⟩)
theorem y_endW {n9 : Int32} (hH : k_H Sg cA Lb h) (sx : Sg x = some 0) (hC : aC cA h x σ) (H0 : wC cA h x n wn) : tt l D tys A X 1 30 0 0 mX10_end (fun _ g => wC cA g x n wn ∧ True) 0 (lv_args 0 [.ref x, .int n9]) [] h 0 0 := by
  obtain ⟨xs, t, b, len, rc, at0, fl0, c_x, f0, f14, T, e1, e2⟩ := hC
  obtain ⟨st, sb⟩ := aC.sg hH sx c_x f0 T
  show ww l D tys A X 1 30 mX10_end _ 0 [(0, .ref x), (1, .int n9)] [] h
  exact s_end c_x f0 (k_sg_ne sx st (by decide)) (k_sg_ne sx sb (by decide)) T (fun h1 len1 v T1 hh o => ⟨H0.same hH sx (fun a L ha hl => o a ⟨k_sg_ne ha st (by omega), k_sg_ne ha sb (by omega)⟩), trivial⟩)
theorem y_faultW (hT : k_tys tys cA) {so : Int32} (hH : k_H Sg cA Lb h) (sx : Sg x = some 0) (hC : aC cA h x σ) (H : rC cA h x n ρ) (H0 : wC cA h x n wn) : tt l D tys A X 40 1120 0 0 mX10_fault (fun _ g => wC cA g x n wn ∧ True) 0 (lv_args 0 [.ref x, .int so]) [] h 0 0 := by
  obtain ⟨xs, t, b, len, rc, at0, fl0, c_x, f0, f14, T, e1, e2⟩ := hC
  obtain ⟨st, sb⟩ := aC.sg hH sx c_x f0 T
  obtain ⟨xs2, c2, xl, ty⟩ := hH.obj sx (L := 0) rfl
  rw [c_x] at c2
  cases c2
  obtain ⟨v13, f13, t13⟩ := ty 13 _ rfl
  obtain ⟨r, rfl, s_r⟩ := k_v.ref t13
  show ww l D tys A X 40 1120 mX10_fault _ 0 [(0, .ref x), (1, .int so)] [] h
  by_cases c0 : so.toInt = 0
  · obtain ⟨wf, xs9, Pa, P, ro, ro', a1, a2, a3, a4, a5, a6, a7, a8, b1, b2, b3, b4, b5, b6, b7, b8, rc9, H9⟩ := H
    have H8 := H9
    obtain ⟨c_x9, f1, f2, ne, c_Pa, c_P, nn, R, e⟩ := H8
    rw [c_x] at c_x9
    cases c_x9
    obtain ⟨sPa, s_P⟩ := lab0 hH sx c_x f1 f2
    obtain ⟨g1, g2, g3, HP, s1, s2, s3, s4, s5, s6, s7, s8⟩ := pn_at hH s_P c_P
    have hx9 : sgP t b P b1 b2 b3 b4 b5 b6 b7 b8 x = 0 := by
      unfold sgP
      rw [if_neg (k_sg_ne sx st (by decide)), if_neg (k_sg_ne sx sb (by decide)), if_neg (k_sg_ne sx s_P (by decide)), if_neg (k_sg_ne sx s1 (by decide)), if_neg (k_sg_ne sx s2 (by decide)), if_neg (k_sg_ne sx s3 (by decide)), if_neg (k_sg_ne sx s4 (by decide)), if_neg (k_sg_ne sx s5 (by decide)), if_neg (k_sg_ne sx s6 (by decide)), if_neg (k_sg_ne sx s7 (by decide)), if_neg (k_sg_ne sx s8 (by decide))]
    refine s_fault0 hT c0 (pns_of st sb s_P s1 s2 s3 s4 s5 s6 s7 s8) hx9 (by decide) (by decide) c_x f0 f2 f13 T HP (fun h1 at1 fl1 k1 k2 k3 T1 P1 es _ o1 => ?_)
    obtain ⟨⟨ro1, c_P1, -, -⟩, -⟩ := P1
    exact ⟨H0.same hH sx (fun a L ha hl => o1 a (sgP_lt (k_sg_ne ha st (by omega)) (k_sg_ne ha sb (by omega)) (k_sg_ne ha s_P (by omega)) (k_sg_ne ha s1 (by omega)) (k_sg_ne ha s2 (by omega)) (k_sg_ne ha s3 (by omega)) (k_sg_ne ha s4 (by omega)) (k_sg_ne ha s5 (by omega)) (k_sg_ne ha s6 (by omega)) (k_sg_ne ha s7 (by omega)) (k_sg_ne ha s8 (by omega)))), trivial⟩
  · by_cases c1 : so.toInt = 1
    · obtain ⟨v2, f2, t2⟩ := ty 2 _ rfl
      obtain ⟨P, rfl, s_P⟩ := k_v.ref t2
      obtain ⟨k, s, s_k, s_s, R⟩ := T_ru hH s_r
      exact s_fault1 hT c1 ⟨T.2.2.1, k_sg_ne s_r st (by decide), k_sg_ne s_k st (by decide), k_sg_ne s_r sb (by decide), k_sg_ne s_k sb (by decide), k_sg_ne s_r s_k (by decide)⟩ (k_sg_ne sx st (by decide)) (k_sg_ne sx s_r (by decide)) (k_sg_ne sx s_k (by decide)) (by decide) (by decide) c_x f0 f2 f13 T R (fun h1 at1 fl1 T1 R1 es o1 => ⟨H0.same hH sx (fun a L ha hl => o1 a ⟨k_sg_ne ha st (by omega), k_sg_ne ha s_r (by omega), k_sg_ne ha s_k (by omega)⟩), trivial⟩)
    · exact s_fault2 ⟨c0, c1⟩ (fun v hv => ⟨H0, trivial⟩)
theorem y_textW (hT : k_TX tys cA A X) (hN : k_NX X) {so : Int32} {seed : Int64} {τ : aN} (hH : k_H Sg cA Lb h) (sx : Sg x = some 0) (hC : aC cA h x σ) (H : rC cA h x τ.1 ρ) (H0 : wC cA h x τ.1 wn) : tt l D tys A X 44 1300 3 259 mX10_text (fun _ g => wC cA g x (n_text so σ τ).1 (w_text so σ wn) ∧ True) 0 (lv_args 0 [.ref x, .int so, .long seed]) [] h 0 0 := by
  obtain ⟨xs, t, b, len, rc, at0, fl0, c_x, f0, f14, T, e1, e2⟩ := hC
  obtain ⟨st, sb⟩ := aC.sg hH sx c_x f0 T
  obtain ⟨xs2, c2, xl, ty⟩ := hH.obj sx (L := 0) rfl
  rw [c_x] at c2
  cases c2
  have hn : len.toInt.toNat = σ.2.1 := by omega
  obtain ⟨v1, f1, t1⟩ := ty 1 _ rfl
  obtain ⟨Pa, rfl, s_Pa⟩ := k_v.ref t1
  obtain ⟨v2, f2, t2⟩ := ty 2 _ rfl
  obtain ⟨P, rfl, s_P⟩ := k_v.ref t2
  obtain ⟨v3, f3, t3⟩ := ty 3 _ rfl
  obtain ⟨no, rfl, s_no⟩ := k_v.ref t3
  obtain ⟨v8, f8, t8⟩ := ty 8 _ rfl
  obtain ⟨fo, rfl, s_fo⟩ := k_v.ref t8
  obtain ⟨v10, f10, t10⟩ := ty 10 _ rfl
  obtain ⟨wn9, rfl, s_wn⟩ := k_v.ref t10
  obtain ⟨v11, f11, t11⟩ := ty 11 _ rfl
  obtain ⟨sn, rfl, s_sn⟩ := k_v.ref t11
  obtain ⟨v12, f12, t12⟩ := ty 12 _ rfl
  obtain ⟨ra, rfl, s_ra⟩ := k_v.ref t12
  obtain ⟨v13, f13, t13⟩ := ty 13 _ rfl
  obtain ⟨r, rfl, s_r⟩ := k_v.ref t13
  obtain ⟨v14, f14b, t14⟩ := ty 14 _ rfl
  rw [f14] at f14b
  cases f14b
  obtain ⟨y14, ey, r1, r2⟩ := k_v.int t14
  cases ey
  have r1 : 0 ≤ rc.toInt := r1
  have r2 : rc.toInt ≤ 4 := r2
  show tt l D tys A X 44 1300 3 259 mX10_text _ 0 [(0, .ref x), (1, .int so), (2, .long seed)] [] h 0 0
  refine tt_iload_n rfl (List.Mem.tail _ (List.Mem.head _)) (tX10_text_0_ok (0, .iload_n 1, 1) (List.mem_of_getElem? (i := 0) rfl)) ?_
  refine tt_if_ne (tgt := 10) (tX10_text_0_ok (1, .ifCond .ne 9, 3) (List.mem_of_getElem? (i := 1) rfl)) rfl (fun b1 => ?_) (fun b1 => ?_)
  · have b1 : ¬ so.toInt = 0 := fun q => b1 ((kn_eq _ _).mpr q)
    refine tt_iload_n rfl (List.Mem.tail _ (List.Mem.head _)) (tX10_text_0_ok (10, .iload_n 1, 1) (List.mem_of_getElem? (i := 6) rfl)) ?_
    refine tt_iconst (v := 1) rfl (tX10_text_0_ok (11, .iconst 1, 1) (List.mem_of_getElem? (i := 7) rfl)) ?_
    refine tt_icmp_ne (tgt := 20) (tX10_text_0_ok (12, .if_icmp .ne 8, 3) (List.mem_of_getElem? (i := 8) rfl)) rfl (fun b2 => ?_) (fun b2 => ?_)
    · have b2 : ¬ so.toInt = 1 := fun q => b2 ((kn_eq _ _).mpr q)
      refine tt_iconst (v := -1) rfl (tX10_text_0_ok (20, .iconst (-1), 1) (List.mem_of_getElem? (i := 12) rfl)) ?_
      refine tt_iret rfl ?_ (by decide) (by decide) (tX10_text_0_ok (21, .ireturn, 1) (List.mem_of_getElem? (i := 13) rfl))
      refine ⟨?_, trivial⟩
      rw [n_text_neg (fun q => b1 q.1), w_text_neg (fun q => b1 q.1)]
      exact H0
    · have b2 : so.toInt = 1 := by rw [b2]; rfl
      obtain ⟨k, s, s_k, s_s, R⟩ := T_ru hH s_r
      refine tt_aload_n rfl (List.Mem.head _) (tX10_text_0_ok (15, .aload_n 0, 1) (List.mem_of_getElem? (i := 9) rfl)) ?_
      obtain ⟨e9, z1, z2, z3, z4, z5⟩ := (cllw_X10 (126, 0, 129) (List.mem_of_getElem? (i := 7) rfl))
      cases z1
      refine tt_callV (M' := mX10_newRule) (As := []) (rest := []) (ci := 9) (fr' := 42) (lo' := 1200) (mc' := 3) (ms' := 259) (tX10_text_0_ok (16, .invokevirtual 126, 3) (List.mem_of_getElem? (i := 10) rfl)) z5 z2 z3 z4 c_x rfl rfl rfl ⟨by decide, by decide⟩ ⟨by decide, by decide⟩ (Nat.le_of_ble_eq_true rfl) (Nat.le_of_ble_eq_true rfl) (t_newRuleW (Q := fun v g => (∃ w9 : Int32, v = some (.int w9)) ∧ wC cA g x (n_text so σ τ).1 (w_text so σ wn)) hT.1 hN hH sx st sb s_r s_k s_s s_ra c_x f0 f12 f13 f14 ⟨r1, r2⟩ T R (fun g v Sg1 xs1 len1 rc1 at1 fl1 q1 q2 q3 q4 q5 q6 q7 q8 kp kq => ?_)) (fun v1 g H1 => ?_)
      · refine ⟨⟨v, rfl⟩, ?_⟩
        rw [n_text_neg (fun q => b1 q.1), w_text_neg (fun q => b1 q.1)]
        refine H0.gen hH sx (fun xs9 c9 => ?_) (fun a ha => kq a 32 ha rfl)
        rw [c_x] at c9
        cases c9
        exact ⟨xs1, q4, kp 10 (by decide) (by decide), kp 11 (by decide) (by decide)⟩
      · obtain ⟨⟨w9, rfl⟩, q1⟩ := H1
        refine tt_iret rfl ⟨q1, trivial⟩ (by decide) (by decide) (tX10_text_0_ok (19, .ireturn, 1) (List.mem_of_getElem? (i := 11) rfl))
  · have b1 : so.toInt = 0 := by rw [b1]; rfl
    refine tt_aload_n rfl (List.Mem.head _) (tX10_text_0_ok (4, .aload_n 0, 1) (List.mem_of_getElem? (i := 2) rfl)) ?_
    refine tt_lload_n rfl (List.Mem.tail _ (List.Mem.tail _ (List.Mem.head _))) (tX10_text_0_ok (5, .lload_n 2, 1) (List.mem_of_getElem? (i := 3) rfl)) ?_
    obtain ⟨e9, z1, z2, z3, z4, z5⟩ := (cllw_X10 (122, 0, 130) (List.mem_of_getElem? (i := 4) rfl))
    cases z1
    have kc : tt l D tys A X 8 300 0 0 mX10_newTown (fun v g => (∃ w9 : Int32, v = some (.int w9)) ∧ wC cA g x (n_text so σ τ).1 (w_text so σ wn)) 0 [(0, .ref x), (1, .long seed)] [] h 0 0 := by
      have bz9 : so.toInt = 0 := b1
      have H8 := H0
      obtain ⟨xs8, wa8, wb8, fw8, c8, g10, g11, nws, -, -⟩ := H8
      rw [c_x] at c8
      cases c8
      rw [f10] at g10
      cases g10
      rw [f11] at g11
      cases g11
      refine h_newTownW hT.1 (by decide) (by decide) xl f0 f1 f2 f3 f8 f10 f11 sx st s_Pa s_P s_no s_fo s_wn s_sn sb hH c_x T nws (fun g v hz => ⟨⟨v, rfl⟩, ?_⟩)
      rw [hn] at hz
      rcases hz with ⟨⟨y1, y2⟩, xs1, f1, d0, d1, d2, d3, d4⟩ | ⟨⟨y1, y2⟩, d2⟩
      · rw [w_text_pos bz9 (by rw [y2]; rfl)]
        exact ⟨xs1, wn9, sn, f1, d0, d1, d2, nws, d3, fun _ => d4⟩
      · rw [n_text_neg (fun q => by have q2 := q.2; rw [y2] at q2; cases q2), w_text_neg (fun q => by have q2 := q.2; rw [y2] at q2; cases q2)]
        exact H0.same hH sx d2
    refine tt_callV (M' := mX10_newTown) (As := [.long seed]) (rest := []) (ci := 9) (fr' := 8) (lo' := 300) (mc' := 0) (ms' := 0) (tX10_text_0_ok (6, .invokevirtual 122, 3) (List.mem_of_getElem? (i := 4) rfl)) z5 z2 z3 z4 c_x rfl rfl rfl ⟨by decide, by decide⟩ ⟨by decide, by decide⟩ (Nat.le_of_ble_eq_true rfl) (Nat.le_of_ble_eq_true rfl) kc (fun v1 g H1 => ?_)
    obtain ⟨⟨w9, rfl⟩, q1⟩ := H1
    exact tt_iret rfl ⟨q1, trivial⟩ (by decide) (by decide) (tX10_text_0_ok (9, .ireturn, 1) (List.mem_of_getElem? (i := 5) rfl))
end
section
variable {l : Launch} {D : va_G} {tys : List (ClassId × FieldType)} {A : Nat → Prop} {X : State → Prop} {cA : Nat → ClassId} {Sg : Nat → Option Nat} {h : ch_H} {m n : Nat} {σ : aS} {aK aV : Nat → Nat} {wn : aWn}
theorem x_feedW (hT : k_tys tys cA) {wa wb wc wd we : Int32} (hH : k_H Sg cA Lb h) (sm : sgM Sg m) (hR : aR cA h m σ) (H : wR cA h m n wn) : tt l D tys A X 1 30 0 0 mX11_feed (fun _ g => wR cA g m n wn ∧ True) 0 (lv_args 0 [.ref m, .int wa, .int wb, .int wc, .int wd, .int we]) [] h 0 0 := by
  obtain ⟨fs, tx, g, len, rc, c_m, f1, f6, f7, c_t, hsb, e1, e2⟩ := hR
  obtain ⟨L, le, ro, te, tl, dp, rd, gl, R, gt, gz, sL, hro, fl, l0, l1, s_tx, -⟩ := T_M hH sm.1 c_m f1 f6
  obtain ⟨hL, hL5⟩ := m_ge hro
  have hn : len.toInt.toNat = σ.2.1 := by omega
  have nxm : tx ≠ m := k_sg_ne s_tx sL (by omega)
  show ww l D tys A X 1 30 mX11_feed _ 0 [(0, .ref m), (1, .int wa), (2, .int wb), (3, .int wc), (4, .int wd), (5, .int we)] [] h
  refine r_feed hT (by decide) (by decide) (f := σ.1) (by rw [hn]; exact hsb) ⟨c_m, fl, f1, f6, nxm, nxm.symm, c_t, l0, l1⟩ (fun h1 fs1 g1 len1 v H1 hh hz hj o => ⟨?_, trivial⟩)
  refine H.gen hH sm.1 (fun fs9 c9 => ?_) (fun a ha => o a ?_)
  · rw [c_m] at c9
    cases c9
    exact ⟨fs1, H1.1, hj 26 (by decide)⟩
  · exact ⟨k_sg_ne ha sL (by omega), k_sg_ne ha s_tx (by decide)⟩
theorem x_endW {n9 : Int32} (hH : k_H Sg cA Lb h) (sm : sgM Sg m) (hR : aR cA h m σ) (H : wR cA h m n wn) : tt l D tys A X 1 30 0 0 mX11_end (fun _ g => wR cA g m n wn ∧ True) 0 (lv_args 0 [.ref m, .int n9]) [] h 0 0 := by
  obtain ⟨fs, tx, g, len, rc, c_m, f1, f6, f7, c_t, hsb, e1, e2⟩ := hR
  obtain ⟨L, le, ro, te, tl, dp, rd, gl, R, gt, gz, sL, hro, fl, l0, l1, s_tx, -⟩ := T_M hH sm.1 c_m f1 f6
  obtain ⟨hL, hL5⟩ := m_ge hro
  have nxm : tx ≠ m := k_sg_ne s_tx sL (by omega)
  show ww l D tys A X 1 30 mX11_end _ 0 [(0, .ref m), (1, .int n9)] [] h
  refine r_end ⟨c_m, fl, f1, f6, nxm, nxm.symm, c_t, l0, l1⟩ (fun h1 fs1 len1 v H1 hh hz hj o => ⟨?_, trivial⟩)
  refine H.gen hH sm.1 (fun fs9 c9 => ?_) (fun a ha => o a ?_)
  · rw [c_m] at c9
    cases c9
    exact ⟨fs1, H1.1, hj 26 (by decide)⟩
  · exact ⟨k_sg_ne ha sL (by omega), k_sg_ne ha s_tx (by decide)⟩
theorem x_faultW (hT : k_tys tys cA) (hX : ∀ s, X s → xs A aK aV s) {so : Int32} (hH : k_H Sg cA Lb h) (sm : sgM Sg m) (hR : aR cA h m σ) (H : wR cA h m n wn) : tt l D tys A X 40 1120 0 0 mX11_fault (fun _ g => wR cA g m n wn ∧ True) 0 (lv_args 0 [.ref m, .int so]) [] h 0 0 := by
  obtain ⟨fs, tx, g, len, rc, c_m, f1, f6, f7, c_t, hsb, e1, e2⟩ := hR
  obtain ⟨L, le, ro, te, tl, dp, rd, gl, R, gt, gz, sL, hro, fl, l0, l1, s_tx, s_te, s_tl, s_le, f2, f3, f4, f12, f19, f21, c_le, c_ro, hTD, -⟩ := T_M hH sm.1 c_m f1 f6
  obtain ⟨hL, hL5⟩ := m_ge hro
  obtain ⟨Mr, s_ro, hr5, hr1, hr2, hr3, hr4, hr6⟩ := ro_ge hro
  have hn : len.toInt.toNat = σ.2.1 := by omega
  show ww l D tys A X 40 1120 mX11_fault _ 0 [(0, .ref m), (1, .int so)] [] h
  have hnz : ∀ i, i < len.toInt.toNat → 1 ≤ (σ.1 i).toInt := by rw [hn]; exact hsb.2.1
  have hs : sb g σ.1 0 len.toInt.toNat := by rw [hn]; exact hsb.1
  by_cases c0 : so.toInt = 0
  · refine r_fault0 hT hX c0 (by decide) (by decide) hnz hs ⟨l0, l1, l1⟩ c_m fl f1 f4 f6 f12 f19 f21 (k_sg_ne s_tx sL (by omega)) (k_sg_ne s_le sL (by omega)) (k_sg_ne s_ro sL hr1) (k_sg_ne s_ro s_tx hr2) (k_sg_ne s_ro s_le hr6) c_t c_le c_ro hTD (fun h1 fs1 at1 fl1 rd1 bg1 R1 p e0 e21 erd es _ hlo hz hj o => ⟨?_, trivial⟩)
    refine H.gen hH sm.1 (fun fs9 c9 => ?_) (fun a ha => o a ⟨k_sg_ne ha sL (by omega), ?_⟩)
    · rw [c_m] at c9
      cases c9
      exact ⟨fs1, p.1.1.1.1, hj 26 (by decide)⟩
    · rcases (lab19 hH sm.1 c_m f19).1 with s9 | s9
      · exact k_sg_ne ha s9 (by decide)
      · exact k_sg_ne ha s9 (by decide)
  · by_cases c1 : so.toInt = 1
    · refine r_fault1 hT hX c1 (by decide) (by decide) hnz hs ⟨l0, l1, l1⟩ c_m fl f1 f4 f6 f12 f19 f21 (k_sg_ne s_tx sL (by omega)) (k_sg_ne s_le sL (by omega)) (k_sg_ne s_ro sL hr1) (k_sg_ne s_ro s_tx hr2) (k_sg_ne s_ro s_le hr6) c_t c_le c_ro hTD (fun h1 fs1 at1 fl1 dp1 bg1 p _ es _ hz hj o => ⟨?_, trivial⟩)
      refine H.gen hH sm.1 (fun fs9 c9 => ?_) (fun a ha => o a ?_)
      · rw [c_m] at c9
        cases c9
        exact ⟨fs1, p.1.1.1.1, hj 26 (by decide)⟩
      · exact k_sg_ne ha sL (by omega)
    · refine r_fault2 ⟨c0, c1⟩ (by decide) (by decide) c_m fl f1 f4 f6 f12 f19 f21 (fun h1 fs1 v c_m1 k1 hv hz hj o => ⟨?_, trivial⟩)
      refine H.gen hH sm.1 (fun fs9 c9 => ?_) (fun a ha => o a ?_)
      · rw [c_m] at c9
        cases c9
        exact ⟨fs1, c_m1, hj 26 (by decide)⟩
      · exact k_sg_ne ha sL (by omega)
theorem x_textW (hT : k_tys tys cA) (hX : ∀ s, X s → xs A aK aV s) {so : Int32} {seed : Int64} {τ : aN} (hH : k_H Sg cA Lb h) (sm : sgM Sg m) (hR : aR cA h m σ) (H : wR cA h m τ.1 wn) : tt l D tys A X 60 2000 0 0 mX11_text (fun _ g => wR cA g m (n_text so σ τ).1 (w_text so σ wn) ∧ True) 0 (lv_args 0 [.ref m, .int so, .long seed]) [] h 0 0 := by
  obtain ⟨fs, tx, g, len, rc, c_m, f1, f6, f7, c_t, hsb, e1, e2⟩ := hR
  obtain ⟨L, le, ro, te, tl, dp, rd, gl, R, gt, gz, sL, hro, fl, l0, l1, s_tx, s_te, s_tl, s_le, f2, f3, f4, f12, f19, f21, c_le, c_ro, hTD, c_te, b_te, c_tl, b_tl, hrc, hints, h18⟩ := T_M hH sm.1 c_m f1 f6
  obtain ⟨hL, hL5⟩ := m_ge hro
  obtain ⟨Mr, s_ro, hr5, hr1, hr2, hr3, hr4, hr6⟩ := ro_ge hro
  have hrc := hrc rc f7
  have hn : len.toInt.toNat = σ.2.1 := by omega
  have hnz : ∀ i, i < len.toInt.toNat → 1 ≤ (σ.1 i).toInt := by rw [hn]; exact hsb.2.1
  have hs : sb g σ.1 0 len.toInt.toNat := by rw [hn]; exact hsb.1
  have n_ro_m : ro ≠ m := k_sg_ne s_ro sL hr1
  have n_tx_m : tx ≠ m := k_sg_ne s_tx sL (by omega)
  have n_ro_tx : ro ≠ tx := k_sg_ne s_ro s_tx hr2
  show ww l D tys A X 60 2000 mX11_text _ 0 [(0, .ref m), (1, .int so), (2, .long seed)] [] h
  by_cases c0 : so.toInt = 0
  · refine r_text0V hT hX c0 (by decide) (by decide) hnz hs ⟨l0, l1, l1⟩ c_m fl f1 f4 f6 f12 f19 f21 n_tx_m (k_sg_ne s_le sL (by omega)) n_ro_m n_ro_tx (k_sg_ne s_ro s_le hr6) c_t c_le c_ro hTD (fun h1 fs1 R1 rd1 v _ _ _ p hz e21 erd hlo f61 h20 hbad hvm hj o => ⟨?_, trivial⟩) (fun h1 fs1 R1 R2 k1 rd1 c_m1 k1l c_ro1 hR2 hR3 hints1 f61 f20 f211 erd hTD1 h62 hgood hvS htv hj o => ?_)
    · obtain ⟨e9, he⟩ := hbad
      rw [hn] at he
      rw [n_text_neg (fun q => by have q2 := q.2; rw [he] at q2; cases q2), w_text_neg (fun q => by have q2 := q.2; rw [he] at q2; cases q2)]
      refine H.gen hH sm.1 (fun fs9 c9 => ?_) (fun a ha => o a ⟨k_sg_ne ha sL (by omega), ?_⟩)
      · rw [c_m] at c9
        cases c9
        exact ⟨fs1, p.1.1.1.1, hj 26 (by decide)⟩
      · rcases (lab19 hH sm.1 c_m f19).1 with s9 | s9
        · exact k_sg_ne ha s9 (by decide)
        · exact k_sg_ne ha s9 (by decide)
    · obtain ⟨e9, he⟩ := hgood
      rw [hn] at he htv
      obtain ⟨⟨y0, z0⟩, ⟨y5, z5⟩, ⟨y8, z8⟩, ⟨y9, z9⟩, ⟨y10, z10⟩, ⟨y11, z11⟩, y12, z12⟩ := hints1
      obtain ⟨y6, z6, e6⟩ := f61
      have hH2 : k_H (sg2 Sg m ro) cA Lb h1 := by
        refine T_rel hH sm sL hro c_m1 c_ro1 o (mod50 hH sL hro n_ro_m c_m ((hj 19 (by decide)).trans f19) k1l (fun k k19 => ?_)) ?_
        · by_cases k0 : k = 0
          · subst k0; exact Or.inr ⟨_, z0, fw_int rfl (Int32.minValue_le_toInt _) (Int32.toInt_le _)⟩
          by_cases k5 : k = 5
          · subst k5; exact Or.inr ⟨_, z5, fw_any rfl _⟩
          by_cases k6 : k = 6
          · subst k6; exact Or.inr ⟨_, z6, fw_int rfl (by omega) (by omega)⟩
          by_cases k8 : k = 8
          · subst k8; exact Or.inr ⟨_, z8, fw_int rfl (Int32.minValue_le_toInt _) (Int32.toInt_le _)⟩
          by_cases k9 : k = 9
          · subst k9; exact Or.inr ⟨_, z9, fw_int rfl (Int32.minValue_le_toInt _) (Int32.toInt_le _)⟩
          by_cases k10 : k = 10
          · subst k10; exact Or.inr ⟨_, z10, fw_int rfl (Int32.minValue_le_toInt _) (Int32.toInt_le _)⟩
          by_cases k11 : k = 11
          · subst k11; exact Or.inr ⟨_, z11, fw_int rfl (Int32.minValue_le_toInt _) (Int32.toInt_le _)⟩
          by_cases k12 : k = 12
          · subst k12; exact Or.inr ⟨_, z12, fw_int rfl (Int32.minValue_le_toInt _) (Int32.toInt_le _)⟩
          by_cases k20 : k = 20
          · subst k20; exact Or.inr ⟨_, f20, fw_int rfl erd.1 erd.2⟩
          by_cases k21 : k = 21
          · subst k21; exact Or.inr ⟨_, f211, fw_int rfl erd.1 erd.2⟩
          exact Or.inl (hj k ⟨k0, k5, k6, k8, k9, k10, k11, k12, k20, k21⟩)
        · refine Or.inr (Or.inl ⟨rfl, R2, rfl, fun i hi => ?_⟩)
          have hi : i < 108 := hi
          by_cases c : i < 54
          · obtain ⟨p, w, hp, hw, rfl⟩ : ∃ p w, p < 6 ∧ w < 9 ∧ i = 9 * p + w := ⟨i / 9, i % 9, by omega, by omega, by omega⟩
            have ht := hTD1 p hp w hw
            have he := el55_62 p hp w hw
            rw [hR2 _ c, show 54 + (9 * p + w) = 54 + 9 * p + w by omega]
            refine ⟨by rw [he.1]; exact ht.1, ?_⟩
            rcases he.2 with q | ⟨rfl, rfl, q⟩
            · rw [q]; exact ht.2
            · rw [q]
              have h62b : (R1 (54 + 9 * 0 + 8)).toInt = -1 := h62
              omega
          · obtain ⟨p, w, hp, hw, rfl⟩ : ∃ p w, p < 6 ∧ w < 9 ∧ i = 54 + 9 * p + w := ⟨(i - 54) / 9, (i - 54) % 9, by omega, by omega, by omega⟩
            rw [hR3 _ (by omega), td_b p hp w hw]
            exact hTD1 p hp w hw
      have s2m : sg2 Sg m ro m = some 50 := if_pos rfl
      have s2r : sg2 Sg m ro ro = some 55 := by unfold sg2; rw [if_neg n_ro_m, if_pos rfl]
      obtain ⟨fs2, c2, -, ty⟩ := hH2.obj s2m (L := 50) rfl
      rw [c_m1] at c2
      cases c2
      obtain ⟨v22, q22, t22⟩ := ty 22 _ rfl
      obtain ⟨to, rfl, s_to⟩ := k_v.ref t22
      obtain ⟨v26, q26, t26⟩ := ty 26 _ rfl
      obtain ⟨wa, rfl, s_wa⟩ := k_v.ref t26
      obtain ⟨v27, q27, t27⟩ := ty 27 _ rfl
      obtain ⟨se, rfl, s_se⟩ := k_v.ref t27
      obtain ⟨v31, q31, t31⟩ := ty 31 _ rfl
      obtain ⟨be, rfl, s_be⟩ := k_v.ref t31
      refine w_aload_n (List.Mem.tail _ (List.Mem.head _)) (tX11_text_1_ok (165, .aload_n 0, 1) (List.mem_of_getElem? (i := 31) rfl)) ?_
      refine w_lload_n (List.Mem.tail _ (List.Mem.tail _ (List.Mem.tail _ (List.Mem.head _)))) (tX11_text_1_ok (166, .lload_n 2, 1) (List.mem_of_getElem? (i := 32) rfl)) ?_
      refine w_callV (own := 16) (mi := 164) [.long seed] [] [(0, .ref m), (1, .long seed)] rfl (cllw_X11 (251, 0, 164) (List.mem_of_getElem? (i := 33) rfl)) rfl rfl c_m1 rfl (by decide) (w_lo (n := 23) rfl (by decide)) (Nat.le_of_ble_eq_true rfl) (Nat.le_of_ble_eq_true rfl) rfl (tX11_text_1_ok (167, .invokevirtual 251, 3) (List.mem_of_getElem? (i := 33) rfl)) (h_beginW hT s2m s2r s_to s_wa s_se s_be k1l ((hj 19 (by decide)).trans f19) f20 q22 q26 q27 q31 erd (by decide) (Nat.le_of_ble_eq_true rfl) hH2 c_m1 (fun g5 fs5 fw5 c5 f205 f265 cw5 ew5 => ?_))
      show ww l D tys A X 60 2000 mX11_text _ 170 [(4, .int k1), (0, .ref m), (1, .int so), (2, .long seed)] [] g5
      refine w_aload_n (List.Mem.tail _ (List.Mem.head _)) (tX11_text_1_ok (170, .aload_n 0, 1) (List.mem_of_getElem? (i := 34) rfl)) ?_
      refine w_get (own := 16) rfl rfl (by decide) c5 f205 (tX11_text_1_ok (171, .getfield 248, 3) (List.mem_of_getElem? (i := 35) rfl)) ?_
      refine w_iret rfl (tX11_text_1_ok (174, .ireturn, 1) (List.mem_of_getElem? (i := 36) rfl)) ?_
      refine ⟨?_, trivial⟩
      rw [w_text_pos c0 (by rw [he]; rfl)]
      exact ⟨fs5, wa, fw5, c5, f265, cw5, fun _ => ew5⟩
  · by_cases c1 : so.toInt = 1
    · refine r_text1 hT hX c1 (by decide) (by decide) ⟨n_tx_m, k_sg_ne s_te sL (by omega), k_sg_ne s_tl sL (by omega), k_sg_ne s_te s_tx (by decide), k_sg_ne s_tl s_tx (by decide), k_sg_ne s_tl s_te (by decide)⟩ (k_sg_ne s_le sL (by omega)) n_ro_m n_ro_tx (k_sg_ne s_ro s_le hr6) hnz hs ⟨l0, l1, l1⟩ c_m fl f1 f4 f6 f12 f19 f21 c_t c_le c_ro hTD f2 f3 f7 hrc c_te c_tl b_te b_tl ⟨⟨_, List.getElem?_eq_getElem (by rw [fl]; decide)⟩, hints, h18⟩ (fun h1 fs1 gt1 gz1 v c_m1 k1 ft1 hh c_te1 b_te1 c_tl1 b_tl1 hz hj o => ⟨?_, trivial⟩)
      rw [n_text_neg (fun q => c0 q.1), w_text_neg (fun q => c0 q.1)]
      refine H.gen hH sm.1 (fun fs9 c9 => ?_) (fun a ha => o a ?_)
      · rw [c_m] at c9
        cases c9
        exact ⟨fs1, c_m1, hj 26 (by decide)⟩
      · exact ⟨k_sg_ne ha sL (by omega), k_sg_ne ha s_te (by decide), k_sg_ne ha s_tl (by decide)⟩
    · refine r_text2 ⟨c0, c1⟩ (by decide) (by decide) c_m fl (fun h1 fs1 v c_m1 k1 hv2 hz hj o => ⟨?_, trivial⟩)
      rw [n_text_neg (fun q => c0 q.1), w_text_neg (fun q => c0 q.1)]
      refine H.gen hH sm.1 (fun fs9 c9 => ?_) (fun a ha => o a ?_)
      · rw [c_m] at c9
        cases c9
        exact ⟨fs1, c_m1, hj 26 (by decide)⟩
      · exact k_sg_ne ha sL (by omega)
end
