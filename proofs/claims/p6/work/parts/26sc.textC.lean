/-! the class: text, feed, end, fault with what a TOWN shows (made by gen_kS3) -/
section
variable {l : Launch} {D : va_G} {tys : List (ClassId × FieldType)} {A : Nat → Prop} {X : State → Prop} {fr lo mc ms : Nat} {M : ch_M} {Q : Option Value → ch_H → Prop} {pc : Nat} {lv : List (Nat × Value)} {st : List Value} {h : ch_H} {c z : Nat} {Sg : Nat → Option Nat} {cA : Nat → ClassId} {Lb9 : Nat → k_I} {x : Nat}
theorem t_newRuleK (hT : k_tys tys cA) (hN : k_NX X) {xs : List Value} {t b r k s ra : Nat} {f : Nat → Int32} {len rc at0 fl0 : Int32} (hH : k_H Sg cA Lb h) (sx : Sg x = some 0) (st : Sg t = some 1) (sb : Sg b = some 10) (s_r : Sg r = some 6) (s_k : Sg k = some 36) (s_s : Sg s = some 37) (s_ra : Sg ra = some 34) (c_x : h x = some (.inr (9, xs))) (f0 : xs[0]? = some (.ref t)) (f12 : xs[12]? = some (.ref ra)) (f13 : xs[13]? = some (.ref r)) (f14 : xs[14]? = some (.int rc)) (hrc : 0 ≤ rc.toInt ∧ rc.toInt ≤ 4) (T : tp0 cA h t b f len at0 fl0) (Ru : ru cA h r k s)
    (hq : ∀ (g : ch_H) (v : Int32) (Sg1 : Nat → Option Nat) (xs1 : List Value) (len1 rc1 at1 fl1 : Int32), k_H Sg1 cA Lb g → sg_le Sg Sg1 → (∀ a L, Sg1 a = some L → 50 ≤ L → Sg a = some L ∧ g a = h a) → g x = some (.inr (9, xs1)) → xs1[0]? = some (.ref t) → xs1[14]? = some (.int rc1) → tp0 cA g t b f len1 at1 fl1 → (rc.toInt < 4 ∧ (∃ q, sp_rule f len.toInt.toNat = .inr q) ∧ len1.toInt = 0 ∧ rc1.toInt = rc.toInt + 1 ∧ v.toInt = rc.toInt ∨ (4 ≤ rc.toInt ∨ ∃ e, sp_rule f len.toInt.toNat = .inl e) ∧ len1 = len ∧ rc1 = rc ∧ v.toInt = -1) → (∀ j, j ≠ 13 → j ≠ 14 → xs1[j]? = xs[j]?) → (∀ a L, Sg a = some L → L ≠ 0 ∧ L ≠ 1 ∧ L ≠ 6 ∧ L ≠ 34 ∧ L ≠ 36 → g a = h a) → Q (some (.int v)) g) : tt l D tys A X 42 1200 3 259 mX10_newRule Q 0 [(0, .ref x)] [] h 0 0 := by
  have T9 := T
  refine tt_aload_n rfl (List.Mem.head _) (tX10_newRule_0_ok (0, .aload_n 0, 1) (List.mem_of_getElem? (i := 0) rfl)) ?_
  refine t_get (own := 15) rfl rfl (by decide) c_x f14 (tX10_newRule_0_ok (1, .getfield 141, 3) (List.mem_of_getElem? (i := 1) rfl)) ?_
  refine tt_iconst (v := 4) rfl (tX10_newRule_0_ok (4, .iconst 4, 1) (List.mem_of_getElem? (i := 2) rfl)) ?_
  refine tt_icmp_lt (tgt := 10) (tX10_newRule_0_ok (5, .if_icmp .lt 5, 3) (List.mem_of_getElem? (i := 3) rfl)) rfl (fun b1 => ?_) (fun b1 => ?_)
  · have b1 : rc.toInt < 4 := (kn_lt rc 4).mp b1
    refine tt_aload_n rfl (List.Mem.head _) (tX10_newRule_0_ok (10, .aload_n 0, 1) (List.mem_of_getElem? (i := 6) rfl)) ?_
    refine t_get (own := 15) rfl rfl (by decide) c_x f13 (tX10_newRule_0_ok (11, .getfield 67, 3) (List.mem_of_getElem? (i := 7) rfl)) ?_
    refine tt_aload_n rfl (List.Mem.head _) (tX10_newRule_0_ok (14, .aload_n 0, 1) (List.mem_of_getElem? (i := 8) rfl)) ?_
    refine t_get (own := 15) rfl rfl (by decide) c_x f0 (tX10_newRule_0_ok (15, .getfield 10, 3) (List.mem_of_getElem? (i := 9) rfl)) ?_
    obtain ⟨cR, hcR⟩ := ru.obj Ru
    have kc : tt l D tys A X 40 1170 0 0 mX5_read (fun v g => v = none ∧ ∃ at1 fl1 : Int32, tp cA g t b f len at1 fl1 ∧ ru cA g r k s ∧ sp_is (sp_rule f len.toInt.toNat) at1 fl1 ∧ ∀ q, q ≠ t ∧ q ≠ r ∧ q ≠ k → g q = h q) 0 [(0, .ref r), (1, .ref t)] [] h 0 0 :=
      s_read hT ⟨T.2.2.1, k_sg_ne s_r st (by decide), k_sg_ne s_k st (by decide), k_sg_ne s_r sb (by decide), k_sg_ne s_k sb (by decide), k_sg_ne s_r s_k (by decide)⟩ (by decide) (by decide) T Ru (fun h1 at1 fl1 T1 R1 e1 o1 => ⟨rfl, at1, fl1, T1, R1, e1, o1⟩)
    obtain ⟨e9, z1, z2, z3, z4, z5⟩ := (cllw_X10 (119, 0, 61) (List.mem_of_getElem? (i := 3) rfl))
    cases z1
    refine tt_callV (M' := mX5_read) (As := [.ref t]) (rest := []) (fr' := 40) (lo' := 1170) (mc' := 0) (ms' := 0) (tX10_newRule_0_ok (18, .invokevirtual 119, 3) (List.mem_of_getElem? (i := 10) rfl)) z5 z2 z3 z4 hcR rfl rfl rfl ⟨by decide, by decide⟩ ⟨by decide, by decide⟩ (Nat.le_of_ble_eq_true rfl) (Nat.le_of_ble_eq_true rfl) kc (fun v1 h1 H1 => ?_)
    obtain ⟨rfl, at1, fl1, T1, R1, e1, o1⟩ := H1
    obtain ⟨hH1, u1⟩ := k_H.rule hH st sb s_r s_k s_s T T1 R1 Ru o1
    have c_x1 : h1 x = some (.inr (9, xs)) := (o1 x ⟨k_sg_ne sx st (by decide), k_sg_ne sx s_r (by decide), k_sg_ne sx s_k (by decide)⟩).trans c_x
    show tt l D tys A X 42 1200 3 259 mX10_newRule Q 21 [(0, .ref x)] [] h1 0 0
    refine tt_aload_n rfl (List.Mem.head _) (tX10_newRule_0_ok (21, .aload_n 0, 1) (List.mem_of_getElem? (i := 11) rfl)) ?_
    refine t_get (own := 15) rfl rfl (by decide) c_x1 f0 (tX10_newRule_0_ok (22, .getfield 10, 3) (List.mem_of_getElem? (i := 12) rfl)) ?_
    refine t_get (own := 15) (ci := 7) (k := 3) rfl rfl (by decide) T1.1 rfl (tX10_newRule_0_ok (25, .getfield 116, 3) (List.mem_of_getElem? (i := 13) rfl)) ?_
    refine tt_iconst (v := -1) rfl (tX10_newRule_0_ok (28, .iconst (-1), 1) (List.mem_of_getElem? (i := 14) rfl)) ?_
    refine tt_icmp_eq (tgt := 34) (tX10_newRule_0_ok (29, .if_icmp .eq 5, 3) (List.mem_of_getElem? (i := 15) rfl)) rfl (fun b2 => ?_) (fun b2 => ?_)
    · have b2 : fl1.toInt = -1 := by rw [b2]; rfl
      obtain ⟨q9, q8, q7⟩ := sp_is.inr e1 b2
      obtain ⟨ea, ea1, ea2⟩ := hH1 ra 34 s_ra
      obtain ⟨fa, rfl, fa2⟩ := k_cell2 (I := Lb 34) rfl ea2
      have ea1 : h1 ra = some (.inl (cA 4, 4, .inr (.inr (.inr (.inr fa))))) := ea1
      obtain ⟨gr, szr, r1, -⟩ := id R1
      refine tt_aload_n rfl (List.Mem.head _) (tX10_newRule_0_ok (34, .aload_n 0, 1) (List.mem_of_getElem? (i := 18) rfl)) ?_
      refine t_get (own := 15) rfl rfl (by decide) c_x1 f12 (tX10_newRule_0_ok (35, .getfield 62, 3) (List.mem_of_getElem? (i := 19) rfl)) ?_
      refine tt_aload_n rfl (List.Mem.head _) (tX10_newRule_0_ok (38, .aload_n 0, 1) (List.mem_of_getElem? (i := 20) rfl)) ?_
      refine t_get (own := 15) rfl rfl (by decide) c_x1 f14 (tX10_newRule_0_ok (39, .getfield 141, 3) (List.mem_of_getElem? (i := 21) rfl)) ?_
      refine tt_aload_n rfl (List.Mem.head _) (tX10_newRule_0_ok (42, .aload_n 0, 1) (List.mem_of_getElem? (i := 22) rfl)) ?_
      refine t_get (own := 15) rfl rfl (by decide) c_x1 f13 (tX10_newRule_0_ok (43, .getfield 67, 3) (List.mem_of_getElem? (i := 23) rfl)) ?_
      refine tt_aast ea1 (hT 4 (by decide)) r1 (r := (RX5, TX5, 3)) rfl (kn_in hrc.1 (by omega)) (tX10_newRule_0_ok (46, .aastore, 1) (List.mem_of_getElem? (i := 24) rfl)) ?_
      generalize hg2 : ch_up h1 ra (.inl (cA 4, 4, .inr (.inr (.inr (.inr (va_up fa rc.toNatClampNeg (some r))))))) = h2
      have c_ra2 : h2 ra = some (.inl (cA 4, 4, .inr (.inr (.inr (.inr (va_up fa rc.toNatClampNeg (some r))))))) := by rw [← hg2]; exact ch_up_s _ _ _
      have o2 : ∀ q, q ≠ ra → h2 q = h1 q := fun q hq => by rw [← hg2]; exact ch_up_n _ _ hq
      have hH2 : k_H Sg cA Lb h2 := hH1.one s_ra c_ra2 (Or.inr (Or.inr ⟨rfl, _, rfl, fun i hi => by
        unfold va_up
        split
        · exact Or.inr ⟨r, rfl, s_r⟩
        · exact fa2 i hi⟩)) o2
      have c_x2 := (o2 x (k_sg_ne sx s_ra (by decide))).trans c_x1
      have c_t2 := (o2 t (k_sg_ne st s_ra (by decide))).trans T1.1
      have c_b2 := (o2 b (k_sg_ne sb s_ra (by decide))).trans T1.2.1
      show tt l D tys A X 42 1200 3 259 mX10_newRule Q 47 [(0, .ref x)] [] h2 0 0
      refine tt_aload_n rfl (List.Mem.head _) (tX10_newRule_0_ok (47, .aload_n 0, 1) (List.mem_of_getElem? (i := 25) rfl)) ?_
      refine n_objL hH2 (n_X5_init hT (fun _ _ => rfl)) (wA1 224 rfl rfl) (wA1 226 rfl rfl) (wA1 7 rfl rfl) (by decide) df_5_ok kX5_init rfl rfl (Or.inl ⟨_, (fun s x => (hN s x).2.2.2.2.2.1)⟩) iX5_init (by decide) (by decide) (by decide) (Nat.le_of_ble_eq_true rfl) (fun _ => Nat.le_of_ble_eq_true rfl) (tX10_newRule_0_ok (48, .new 60, 3) (List.mem_of_getElem? (i := 26) rfl)) (tX10_newRule_0_ok (51, .dup, 1) (List.mem_of_getElem? (i := 27) rfl)) (tX10_newRule_0_ok (52, .invokespecial 66, 3) (List.mem_of_getElem? (i := 28) rfl)) (fun nb Sg1 h3 hH3 s_nb hnb o3 _ => ?_)
      have le3 : sg_le Sg Sg1 := fun q M9 hq => by rw [(o3 q (hH2.some_ hq)).2]; exact hq
      have sx3 := le3 x 0 sx
      have st3 := le3 t 1 st
      have sb3 := le3 b 10 sb
      have c_x3 := (o3 x (by rw [c_x2]; exact fun q => by cases q)).1.trans c_x2
      have c_t3 := (o3 t (by rw [c_t2]; exact fun q => by cases q)).1.trans c_t2
      have c_b3 := (o3 b (by rw [c_b2]; exact fun q => by cases q)).1.trans c_b2
      refine t_put (own := 15) (ci := 9) (k := 13) hH3 sx3 rfl rfl ⟨nb, rfl, s_nb⟩ c_x3 rfl rfl (by decide) rfl ⟨rfl, rfl⟩ (by decide) (tX10_newRule_0_ok (55, .putfield 67, 3) (List.mem_of_getElem? (i := 29) rfl)) (fun h4 xs4 hH4 c_x4 f134 j4 o4 => ?_)
      have f04 := (j4 0 (by decide)).trans f0
      have f144 := (j4 14 (by decide)).trans f14
      have c_t4 := (o4 t (k_sg_ne st3 sx3 (by decide))).trans c_t3
      have c_b4 := (o4 b (k_sg_ne sb3 sx3 (by decide))).trans c_b3
      refine tt_aload_n rfl (List.Mem.head _) (tX10_newRule_0_ok (58, .aload_n 0, 1) (List.mem_of_getElem? (i := 30) rfl)) ?_
      refine t_get (own := 15) rfl rfl (by decide) c_x4 f04 (tX10_newRule_0_ok (59, .getfield 10, 3) (List.mem_of_getElem? (i := 31) rfl)) ?_
      refine tt_iconst (v := 0) rfl (tX10_newRule_0_ok (62, .iconst 0, 1) (List.mem_of_getElem? (i := 32) rfl)) ?_
      refine t_put (own := 15) (ci := 7) (k := 1) hH4 st3 rfl rfl ⟨0, rfl, by decide, by decide⟩ c_t4 rfl rfl (by decide) rfl ⟨rfl, rfl⟩ (by decide) (tX10_newRule_0_ok (63, .putfield 103, 3) (List.mem_of_getElem? (i := 33) rfl)) (fun h5 ts5 hH5 c_t5 f15 j5 o5 => ?_)
      have l5 : ts5.length = 4 := by
        obtain ⟨w9, w8, w7, -⟩ := hH5.obj st3 (L := 1) rfl
        rw [c_t5] at w8
        cases w8
        exact w7
      have e5 := list4 l5 ((j5 0 (by decide)).trans rfl) f15 ((j5 2 (by decide)).trans rfl) ((j5 3 (by decide)).trans rfl)
      subst e5
      have c_x5 := (o5 x (k_sg_ne sx3 st3 (by decide))).trans c_x4
      have c_b5 := (o5 b (k_sg_ne sb3 st3 (by decide))).trans c_b4
      refine tt_aload_n rfl (List.Mem.head _) (tX10_newRule_0_ok (66, .aload_n 0, 1) (List.mem_of_getElem? (i := 34) rfl)) ?_
      refine tt_dup rfl (tX10_newRule_0_ok (67, .dup, 1) (List.mem_of_getElem? (i := 35) rfl)) ?_
      refine t_get (own := 15) rfl rfl (by decide) c_x5 f144 (tX10_newRule_0_ok (68, .getfield 141, 3) (List.mem_of_getElem? (i := 36) rfl)) ?_
      refine tt_iconst (v := 1) rfl (tX10_newRule_0_ok (71, .iconst 1, 1) (List.mem_of_getElem? (i := 37) rfl)) ?_
      refine tt_iadd (tX10_newRule_0_ok (72, .iadd, 1) (List.mem_of_getElem? (i := 38) rfl)) ?_
      have er : (rc + 1).toInt = rc.toInt + 1 := fb_addI (by show -2147483648 ≤ rc.toInt + 1; omega) (by show rc.toInt + 1 < 2147483648; omega)
      refine t_put (own := 15) (ci := 9) (k := 14) hH5 sx3 rfl rfl ⟨rc + 1, rfl, by show (0 : Int) ≤ _; omega, by show _ ≤ (4 : Int); omega⟩ c_x5 rfl rfl (by decide) rfl ⟨rfl, rfl⟩ (by decide) (tX10_newRule_0_ok (73, .putfield 141, 3) (List.mem_of_getElem? (i := 39) rfl)) (fun h6 xs6 hH6 c_x6 f146 j6 o6 => ?_)
      refine tt_aload_n rfl (List.Mem.head _) (tX10_newRule_0_ok (76, .aload_n 0, 1) (List.mem_of_getElem? (i := 40) rfl)) ?_
      refine t_get (own := 15) rfl rfl (by decide) c_x6 f146 (tX10_newRule_0_ok (77, .getfield 141, 3) (List.mem_of_getElem? (i := 41) rfl)) ?_
      refine tt_iconst (v := 1) rfl (tX10_newRule_0_ok (80, .iconst 1, 1) (List.mem_of_getElem? (i := 42) rfl)) ?_
      refine tt_isub (tX10_newRule_0_ok (81, .isub, 1) (List.mem_of_getElem? (i := 43) rfl)) ?_
      refine tt_iret rfl ?_ (by decide) (by decide) (tX10_newRule_0_ok (82, .ireturn, 1) (List.mem_of_getElem? (i := 44) rfl))
      obtain ⟨hH9, le9, nx⟩ := k_H.cut (h := h) (g := h6) hH hH6 le3 (fun a L ha hl => by
        have n0 := lab_ge ha sx hl (by decide)
        have n1 := lab_ge ha st hl (by decide)
        have w2 := (o2 a (lab_ge ha s_ra hl (by decide))).trans (o1 a ⟨n1, lab_ge ha s_r hl (by decide), lab_ge ha s_k hl (by decide)⟩)
        exact (((o6 a n0).trans (o5 a n1)).trans (o4 a n0)).trans ((o3 a (hH2.some_ ha)).1.trans w2))
      have ev : (rc + 1 - 1).toInt = rc.toInt := by
        have e1 : (1 : Int32).toInt = 1 := rfl
        have := fb_subI (x := rc + 1) (y := 1) (by omega) (by omega)
        omega
      exact hq h6 _ (sg50 Sg Sg1) xs6 0 (rc + 1) at1 fl1 hH9 le9 nx c_x6 ((j6 0 (by decide)).trans f04) f146 ⟨(o6 t (k_sg_ne st3 sx3 (by decide))).trans c_t5, (o6 b (k_sg_ne sb3 sx3 (by decide))).trans c_b5, T.2.2.1, by decide, by decide⟩ (Or.inl ⟨b1, ⟨q9, q8⟩, rfl, er, ev⟩) (fun j n13 n14 => (j6 j n14).trans (j4 j n13)) (fun a L ha hl => by
        have n0 : a ≠ x := k_sg_ne ha sx (by omega)
        have n1 : a ≠ t := k_sg_ne ha st (by omega)
        have w2 := (o2 a (k_sg_ne ha s_ra (by omega))).trans (o1 a ⟨n1, k_sg_ne ha s_r (by omega), k_sg_ne ha s_k (by omega)⟩)
        exact (((o6 a n0).trans (o5 a n1)).trans (o4 a n0)).trans ((o3 a (hH2.some_ ha)).1.trans w2))
    · have b2 : ¬ fl1.toInt = -1 := fun q => b2 ((kn_eq _ _).mpr (by rw [q]; rfl))
      obtain ⟨q9, q8, q7⟩ := sp_is.inl e1 b2
      refine tt_iconst (v := -1) rfl (tX10_newRule_0_ok (32, .iconst (-1), 1) (List.mem_of_getElem? (i := 16) rfl)) ?_
      refine tt_iret rfl ?_ (by decide) (by decide) (tX10_newRule_0_ok (33, .ireturn, 1) (List.mem_of_getElem? (i := 17) rfl))
      exact hq h1 _ Sg xs len rc at1 fl1 hH1 sg_le.rf (fun a L ha hl => ⟨ha, o1 a ⟨lab_ge ha st hl (by decide), lab_ge ha s_r hl (by decide), lab_ge ha s_k hl (by decide)⟩⟩) c_x1 f0 f14 ⟨T1.1, T1.2.1, T1.2.2.1, T1.2.2.2.1, T1.2.2.2.2.1⟩ (Or.inr ⟨Or.inr ⟨q9, q8⟩, rfl, rfl, by decide⟩) (fun _ _ _ => rfl) (fun a L ha hl => o1 a ⟨k_sg_ne ha st (by omega), k_sg_ne ha s_r (by omega), k_sg_ne ha s_k (by omega)⟩)
  · have b1 : 4 ≤ rc.toInt := by have := mt (kn_lt rc 4).mpr b1; have e4 : (4 : Int32).toInt = 4 := rfl; omega
    refine tt_iconst (v := -1) rfl (tX10_newRule_0_ok (8, .iconst (-1), 1) (List.mem_of_getElem? (i := 4) rfl)) ?_
    refine tt_iret rfl ?_ (by decide) (by decide) (tX10_newRule_0_ok (9, .ireturn, 1) (List.mem_of_getElem? (i := 5) rfl))
    exact hq h _ Sg xs len rc at0 fl0 hH sg_le.rf (fun a L ha hl => ⟨ha, rfl⟩) c_x f0 f14 T9 (Or.inr ⟨Or.inl b1, rfl, rfl, by decide⟩) (fun _ _ _ => rfl) (fun _ _ _ _ => rfl)
end
/-- what a RULE's text is worth -/
noncomputable def k9_ru (σ : aS) (L : Nat → Int) : Int := match v_rule σ.1 σ.2.1 (fun k => Int32.ofInt (L k)) with | .inr q => (q.2.getD 0).toInt | .inl _ => 0
noncomputable def k9_rule (σ : aS) (φ : zP) : zP := if isRb (sp_rule σ.1 σ.2.1) = true ∧ σ.2.2 < 4 then (s2 φ.1 50 (upd (φ.1 50) 7 (φ.1 50 7 + 1)), φ.2.1, φ.2.2.1, fun r => if r = σ.2.2 then k9_ru σ else φ.2.2.2 r) else φ
noncomputable def k9_text (so : Int32) (seed : Int64) (σ : aS) (φ : zP) : zP := if so.toInt = 0 then k9_town σ seed φ else if so.toInt = 1 then k9_rule σ φ else φ
section
variable {Sg : Nat → Option Nat} {cA : Nat → ClassId} {h g : ch_H} {ad : Nat → Nat} {I I1 : zI} {W W1 : zW} {O O1 : zO} {τ : aN} {φ : zP} {σ : aS} {x : Nat}
theorem kok.ru {c : Int32} {f : Nat → (Nat → Int) → Int} (H : kok τ φ) : kok τ (s2 φ.1 50 (upd (φ.1 50) 7 c), φ.2.1, φ.2.2.1, f) := by
  obtain ⟨h1, h2, h3, h4, h5, h6, h7, h8⟩ := H
  obtain ⟨K9, eK⟩ : ∃ K9 : zI, K9 = s2 φ.1 50 (upd (φ.1 50) 7 c) := ⟨_, rfl⟩
  rw [← eK]
  have kn : ∀ L, L ≠ 50 → K9 L = φ.1 L := fun L hL => by rw [eK, s2_n hL]
  have k5 : ∀ k, k ≠ 7 → K9 50 k = φ.1 50 k := fun k hk => by rw [eK, s2_s, upd_n _ _ hk]
  refine ⟨h1, ?_, ?_, h4, ?_, ?_, ?_, ?_⟩
  · show tk9 τ.1 τ.2.1 τ.2.2.1 φ.2.2.1 (K9 56)
    rw [kn 56 (by decide)]
    exact h2
  · show ∀ i, i < 8 → 0 ≤ (K9 62 i).toInt ∧ (K9 62 i).toInt ≤ 9
    rw [kn 62 (by decide)]
    exact h3
  · show ∀ a9, a9 < 18 → decide ((K9 65 (18 * a9 + a9)).toInt = 1) = false
    rw [kn 65 (by decide)]
    exact h5
  · show (K9 50 39).toInt = 0 ∨ (K9 50 39).toInt = 1 ∧ 0 ≤ (K9 50 35).toInt ∧ (K9 50 35).toInt ≤ (τ.2.2.1 : Int) ∧ tk9 τ.1 τ.2.1 (K9 50 35).toInt.toNat φ.2.2.1 (K9 58)
    rw [k5 39 (by decide), k5 35 (by decide), kn 58 (by decide)]
    exact h6
  · show ∀ i, i < τ.2.2.2 → (0 ≤ (K9 63 i).toInt ∧ (K9 63 i).toInt < (τ.2.2.1 : Int)) ∧ isPl τ.1 τ.2.1 (K9 64 i).toInt
    rw [kn 63 (by decide), kn 64 (by decide)]
    exact h7
  · show ∀ r, r < 12 → (-1 ≤ (K9 60 r).toInt ∧ (K9 60 r).toInt ≤ 200) ∧ -1 ≤ (K9 61 r).toInt ∧ (K9 61 r).toInt ≤ 200
    rw [kn 60 (by decide), kn 61 (by decide)]
    exact h8
theorem cS.ru {c : Int32} {f : Nat → (Nat → Int) → Int} (H : cS τ φ I W) (o : ∀ L, ¬ scr L → L ≠ 0 → I1 L = I L) (o0 : ∀ k, k ≠ 14 → I1 0 k = I 0 k) (oc : I1 0 14 = c) (ow : ∀ L, L = 100 ∨ L = 112 → W1 L = W L) : cS τ (s2 φ.1 50 (upd (φ.1 50) 7 c), φ.2.1, φ.2.2.1, f) I1 W1 := by
  obtain ⟨h1, h2, h3, h4, h5, h6, h7, h8, h9, h10, h11⟩ := H
  obtain ⟨K9, eK⟩ : ∃ K9 : zI, K9 = s2 φ.1 50 (upd (φ.1 50) 7 c) := ⟨_, rfl⟩
  rw [← eK]
  have kn : ∀ L, L ≠ 50 → K9 L = φ.1 L := fun L hL => by rw [eK, s2_n hL]
  have k5 : ∀ k, k ≠ 7 → K9 50 k = φ.1 50 k := fun k hk => by rw [eK, s2_s, upd_n _ _ hk]
  unfold scr at o
  refine ⟨h1.mv (fun L hL => o L (by omega) (by omega)), ?_, ?_, fun g hg => ?_, fun a b ha hb => ?_, fun i hi => ?_, fun i hi => ?_, fun r hr => ?_, ?_, fun z => ?_, ?_⟩
  · rw [o 3 (by omega) (by omega)]
    exact h2
  · show sx I1 W1 0 τ.1 τ.2.2.1 (K9 56) (φ.2.1 36)
    rw [kn 56 (by decide)]
    exact h3.mv (fun L a b => o L (by omega) (by omega)) (by rw [ow 100 (Or.inl rfl)])
  · show I1 20 g = K9 59 (12 + g)
    rw [o 20 (by omega) (by omega), kn 59 (by decide)]
    exact h4 g hg
  · show bt9 (I1 21 a) b = decide ((K9 65 (18 * a + b)).toInt = 1)
    rw [o 21 (by omega) (by omega), kn 65 (by decide)]
    exact h5 a b ha hb
  · show I1 22 i = K9 62 i
    rw [o 22 (by omega) (by omega), kn 62 (by decide)]
    exact h6 i hi
  · show I1 23 i = K9 63 i ∧ I1 24 i = K9 64 i
    rw [o 23 (by omega) (by omega), o 24 (by omega) (by omega), kn 63 (by decide), kn 64 (by decide)]
    exact h7 i hi
  · show I1 5 r = K9 60 r ∧ I1 6 r = K9 61 r
    rw [o 5 (by omega) (by omega), o 6 (by omega) (by omega), kn 60 (by decide), kn 61 (by decide)]
    exact h8 r hr
  · show (I1 0 6).toInt = (K9 50 39).toInt
    rw [o0 6 (by decide), k5 39 (by decide)]
    exact h9
  · have z : (K9 50 39).toInt = 1 := z
    rw [k5 39 (by decide)] at z
    show (I1 0 7).toInt = (K9 50 35).toInt ∧ sx I1 W1 2 τ.1 (K9 50 35).toInt.toNat (K9 58) (φ.2.1 38)
    rw [o0 7 (by decide), k5 35 (by decide), kn 58 (by decide)]
    exact ⟨(h10 z).1, (h10 z).2.mv (fun L a b => o L (by omega) (by omega)) (by rw [ow 112 (Or.inr rfl)])⟩
  · show I1 0 14 = K9 50 7
    rw [oc, eK, s2_s, upd_s]
/-- the TAPE alone is another -/
theorem zr.tape {f1 : Nat → Int32} {len1 at1 fl1 : Int32} (hz : zr zNC cA ad I W O h) (T1 : tp0 cA g (ad 1) (ad 19) f1 len1 at1 fl1) (o : ∀ L, zNC L = true → L ≠ 1 → L ≠ 19 → g (ad L) = h (ad L)) : zr zNC cA ad (s2 (s2 I 19 f1) 1 (fun k => if k = 1 then len1 else if k = 2 then at1 else fl1)) W O g := by
  refine ⟨fun L hL => ?_, hz.2⟩
  by_cases n1 : L = 1
  · subst n1
    rw [T1.1, s2_s]
    rfl
  · by_cases n2 : L = 19
    · subst n2
      rw [T1.2.1, s2_n n1, s2_s]
      rfl
    · rw [o L hL n1 n2, s2_n n1, s2_n n2]
      exact hz.1 L hL
/-- what FC needs of a change of TAPE and cells outside -/
theorem FC.tape {f1 : Nat → Int32} {len1 at1 fl1 : Int32} (hk : kok τ φ) (hz : zr zNC cA ad I W O h) (hS : cS τ φ I W) (hA : zRA cA ad h) (T1 : tp0 cA g (ad 1) (ad 19) f1 len1 at1 fl1) (o : ∀ L, zNC L = true → L ≠ 1 → L ≠ 19 → g (ad L) = h (ad L)) (o2 : ∀ L, L = 32 ∨ L = 49 → g (ad L) = h (ad L)) : FC cA g (ad 0) τ φ := by
  refine ⟨hk, ad, _, W, O, hz.tape T1 o, rfl, hS.mv (fun L hL => ?_) (fun _ _ => rfl), hA.mv (o2 32 (Or.inl rfl)) (o2 49 (Or.inr rfl))⟩
  unfold scr at hL
  rw [s2_n (by omega), s2_n (by omega)]
/-- the TAPE of the store -/
theorem aC.st (hH : k_H Sg cA Lb h) (hz : zr zNC cA ad I W O h) (hC : aC cA h (ad 0) σ) : ∃ len at0 fl0 : Int32, tp0 cA h (ad 1) (ad 19) σ.1 len at0 fl0 ∧ len.toInt = (σ.2.1 : Int) ∧ (I 0 14).toInt = (σ.2.2 : Int) := by
  obtain ⟨xs, t, b, len, rc, at0, fl0, c_x, f0, f14, T, e1, e2⟩ := hC
  have ex : xs = z_fs ad (I 0) (W 0) (O 0) 0 (zZ 0).2.2.2 := by
    have := c_x.symm.trans (hz.ob (L := 0) (ts := (zZ 0).2.2.2) rfl rfl)
    cases this
    rfl
  have et : t = ad 1 := by
    have e2 := z_fsR (ad := ad) (f := I 0) (w := W 0) (o := O 0) (ts := (zZ 0).2.2.2) (k := 0) (L1 := 1) rfl rfl rfl
    rw [← ex, f0] at e2
    cases e2
    rfl
  subst et
  have eb : b = ad 19 := by
    have e2 := T.1.symm.trans (hz.ob (L := 1) rfl rfl)
    cases e2
    rfl
  subst eb
  have er : rc = I 0 14 := by
    have e2 := z_fsI (ad := ad) (f := I 0) (w := W 0) (o := O 0) (ts := (zZ 0).2.2.2) (k := 14) rfl rfl
    rw [← ex, f14] at e2
    cases e2
    rfl
  subst er
  exact ⟨len, at0, fl0, T, e1, e2⟩
end
section
variable {l : Launch} {D : va_G} {tys : List (ClassId × FieldType)} {A : Nat → Prop} {X : State → Prop} {fr lo : Nat} {Q : Option Value → ch_H → Prop} {cA : Nat → ClassId} {Sg : Nat → Option Nat} {h : ch_H} {x : Nat} {σ : aS} {τ : aN} {φ : zP} {aK aV : Nat → Nat}
/-- labels of all cells shown -/
theorem FC.lab (hH : k_H Sg cA Lb h) (sx : Sg x = some 0) (H : FC cA h x τ φ) : kok τ φ ∧ ∃ (ad : Nat → Nat) (I : zI) (W : zW) (O : zO), zr zNC cA ad I W O h ∧ ad 0 = x ∧ cS τ φ I W ∧ zRA cA ad h ∧ ∀ L, zNC L = true ∨ L = 32 ∨ L = 49 → Sg (ad L) = some (lbC L) := by
  obtain ⟨hk, ad, I, W, O, hz, rfl, hS, hA⟩ := H
  exact ⟨hk, ad, I, W, O, hz, rfl, hS, hA, zC_lab hz hA hH (ag.rf h) (agR.rf h) sx⟩
theorem lbC_ne {M : Nat} (hM : zNC M = true ∨ M = 32 ∨ M = 49) : lbC M ≠ 6 ∧ lbC M ≠ 34 ∧ lbC M ≠ 36 ∧ (M ≠ 0 → lbC M ≠ 0) ∧ (M ≠ 1 → lbC M ≠ 1) ∧ (M ≠ 19 → lbC M ≠ 10) := by
  have hd9 : ∀ q, q < 160 → (zNC q || q == 32 || q == 49) = true → (lbC q != 6 && lbC q != 34 && lbC q != 36 && (q == 0 || lbC q != 0) && (q == 1 || lbC q != 1) && (q == 19 || lbC q != 10)) = true := by decide +kernel
  have hd : ∀ q, q < 160 → (zNC q = true ∨ q = 32 ∨ q = 49) → lbC q ≠ 6 ∧ lbC q ≠ 34 ∧ lbC q ≠ 36 ∧ (q ≠ 0 → lbC q ≠ 0) ∧ (q ≠ 1 → lbC q ≠ 1) ∧ (q ≠ 19 → lbC q ≠ 10) := fun q h1 h2 => by
    have h3 := hd9 q h1 (by rcases h2 with e | e | e <;> simp [e])
    simp only [Bool.and_eq_true, Bool.or_eq_true, bne_iff_ne, beq_iff_eq, ne_eq] at h3
    obtain ⟨⟨⟨⟨⟨g1, g2⟩, g3⟩, g4⟩, g5⟩, g6⟩ := h3
    exact ⟨g1, g2, g3, fun z => g4.resolve_left z, fun z => g5.resolve_left z, fun z => g6.resolve_left z⟩
  refine hd M ?_ hM
  rcases hM with e | e | e
  · exact zNC_lt e
  · omega
  · omega
theorem kF_feed (hT : k_tys tys cA) {wa wb wc wd we : Int32} (hH : k_H Sg cA Lb h) (sx : Sg x = some 0) (hC : aC cA h x σ) (H : FC cA h x τ φ) : tt l D tys A X 1 30 0 0 mX10_feed (fun _ g => FC cA g x τ φ ∧ True) 0 (lv_args 0 [.ref x, .int wa, .int wb, .int wc, .int wd, .int we]) [] h 0 0 := by
  obtain ⟨hk, ad, I, W, O, hz, rfl, hS, hA, hl⟩ := H.lab hH sx
  obtain ⟨len, at0, fl0, T, e1, e2⟩ := hC.st hH hz
  have ne : ∀ L M, (zNC L = true ∨ L = 32 ∨ L = 49) → (zNC M = true ∨ M = 32 ∨ M = 49) → lbC L ≠ lbC M → ad L ≠ ad M := fun L M hL hM n9 => k_sg_ne (hl L hL) (hl M hM) n9
  show ww l D tys A X 1 30 mX10_feed _ 0 [(0, .ref (ad 0)), (1, .int wa), (2, .int wb), (3, .int wc), (4, .int wd), (5, .int we)] [] h
  refine s_feed hT (by decide) (by decide) (hz.ob (L := 0) rfl rfl) (z_fsR (k := 0) (L1 := 1) rfl rfl rfl) (hz.ne rfl rfl (by decide)) (hz.ne rfl rfl (by decide)) T (fun h1 f1 len1 v T1 hh o => ⟨FC.tape hk hz hS hA T1 (fun L hL n1 n2 => o _ ⟨hz.ne hL rfl n1, hz.ne hL rfl n2⟩) (fun L hL => o _ ⟨ne L 1 (Or.inr hL) (Or.inl rfl) ((lbC_ne (Or.inr hL)).2.2.2.2.1 (by omega)), ne L 19 (Or.inr hL) (Or.inl rfl) ((lbC_ne (Or.inr hL)).2.2.2.2.2 (by omega))⟩), trivial⟩)
theorem kF_end {n9 : Int32} (hH : k_H Sg cA Lb h) (sx : Sg x = some 0) (hC : aC cA h x σ) (H : FC cA h x τ φ) : tt l D tys A X 1 30 0 0 mX10_end (fun _ g => FC cA g x τ φ ∧ True) 0 (lv_args 0 [.ref x, .int n9]) [] h 0 0 := by
  obtain ⟨hk, ad, I, W, O, hz, rfl, hS, hA, hl⟩ := H.lab hH sx
  obtain ⟨len, at0, fl0, T, e1, e2⟩ := hC.st hH hz
  have ne : ∀ L M, (zNC L = true ∨ L = 32 ∨ L = 49) → (zNC M = true ∨ M = 32 ∨ M = 49) → lbC L ≠ lbC M → ad L ≠ ad M := fun L M hL hM n9 => k_sg_ne (hl L hL) (hl M hM) n9
  show ww l D tys A X 1 30 mX10_end _ 0 [(0, .ref (ad 0)), (1, .int n9)] [] h
  refine s_end (hz.ob (L := 0) rfl rfl) (z_fsR (k := 0) (L1 := 1) rfl rfl rfl) (hz.ne rfl rfl (by decide)) (hz.ne rfl rfl (by decide)) T (fun h1 len1 v T1 hh o => ⟨FC.tape hk hz hS hA T1 (fun L hL n1 n2 => o _ ⟨hz.ne hL rfl n1, hz.ne hL rfl n2⟩) (fun L hL => o _ ⟨ne L 1 (Or.inr hL) (Or.inl rfl) ((lbC_ne (Or.inr hL)).2.2.2.2.1 (by omega)), ne L 19 (Or.inr hL) (Or.inl rfl) ((lbC_ne (Or.inr hL)).2.2.2.2.2 (by omega))⟩), trivial⟩)
theorem kF_fault (hT : k_tys tys cA) {so : Int32} (hH : k_H Sg cA Lb h) (sx : Sg x = some 0) (hC : aC cA h x σ) (H : FC cA h x τ φ) : tt l D tys A X 40 1120 0 0 mX10_fault (fun _ g => FC cA g x τ φ ∧ True) 0 (lv_args 0 [.ref x, .int so]) [] h 0 0 := by
  obtain ⟨hk, ad, I, W, O, hz, rfl, hS, hA, hl⟩ := H.lab hH sx
  obtain ⟨len, at0, fl0, T, e1, e2⟩ := hC.st hH hz
  have s_ : ∀ L, zNC L = true → Sg (ad L) = some (lbC L) := fun L hL => hl L (Or.inl hL)
  obtain ⟨xs2, c2, xl, ty⟩ := hH.obj sx (L := 0) rfl
  have c3 := hz.ob (L := 0) (ts := (zZ 0).2.2.2) rfl rfl
  rw [c2] at c3
  cases c3
  obtain ⟨v13, f13, t13⟩ := ty 13 _ rfl
  obtain ⟨r, rfl, s_r⟩ := k_v.ref t13
  show ww l D tys A X 40 1120 mX10_fault _ 0 [(0, .ref (ad 0)), (1, .int so)] [] h
  by_cases c0 : so.toInt = 0
  · have c_P0 : h (ad 33) = some (.inr (4, [.int (I 33 0), .ref (ad 34), .ref (ad 35), .ref (ad 36), .ref (ad 37), .ref (ad 38), .ref (ad 39), .ref (ad 40), .ref (ad 41)])) := hz.ob (L := 33) rfl rfl
    obtain ⟨u1, u2, u3, HP, -⟩ := pn_at hH (s_ 33 rfl) c_P0
    have hx9 : sgP (ad 1) (ad 19) (ad 33) (ad 34) (ad 35) (ad 36) (ad 37) (ad 38) (ad 39) (ad 40) (ad 41) (ad 0) = 0 := by
      unfold sgP
      rw [if_neg (hz.ne (L1 := 1) rfl rfl (by decide)), if_neg (hz.ne (L1 := 19) rfl rfl (by decide)), if_neg (hz.ne (L1 := 33) rfl rfl (by decide)), if_neg (hz.ne (L1 := 34) rfl rfl (by decide)), if_neg (hz.ne (L1 := 35) rfl rfl (by decide)), if_neg (hz.ne (L1 := 36) rfl rfl (by decide)), if_neg (hz.ne (L1 := 37) rfl rfl (by decide)), if_neg (hz.ne (L1 := 38) rfl rfl (by decide)), if_neg (hz.ne (L1 := 39) rfl rfl (by decide)), if_neg (hz.ne (L1 := 40) rfl rfl (by decide)), if_neg (hz.ne (L1 := 41) rfl rfl (by decide))]
    refine s_fault0 hT c0 (pns_of (s_ 1 rfl) (s_ 19 rfl) (s_ 33 rfl) (s_ 34 rfl) (s_ 35 rfl) (s_ 36 rfl) (s_ 37 rfl) (s_ 38 rfl) (s_ 39 rfl) (s_ 40 rfl) (s_ 41 rfl)) hx9 (by decide) (by decide) c2 (z_fsR (k := 0) (L1 := 1) rfl rfl rfl) (z_fsR (k := 2) (L1 := 33) rfl rfl rfl) f13 T HP (fun h1 at1 fl1 k1 k2 k3 T1 P1 es _ o1 => ?_)
    obtain ⟨ro, f1, f2, f3, f4, f5, f6, f7, f8, c33, d1, d2, d3, d4, d5, d6, d7, d8, -⟩ := rd_ex (fl := (0 : Int32)) (n := 0) (rc := fun _ _ => 0) P1 (fun z => absurd z (by decide)) (fun z => absurd z (by decide))
    have oL : ∀ L, zNC L = true → L ≠ 1 → ¬ (33 ≤ L ∧ L ≤ 41) → h1 (ad L) = h (ad L) := fun L hL n1 n2 => by
      by_cases e : L = 19
      · subst e
        exact o1 _ (by rw [(pns_of (Sg := Sg) (s_ 1 rfl) (s_ 19 rfl) (s_ 33 rfl) (s_ 34 rfl) (s_ 35 rfl) (s_ 36 rfl) (s_ 37 rfl) (s_ 38 rfl) (s_ 39 rfl) (s_ 40 rfl) (s_ 41 rfl)).2.1]; decide)
      · have ne : ∀ M, zNC M = true → L ≠ M → ad L ≠ ad M := fun M hM n9 => hz.ne hL hM n9
        exact o1 _ (sgP_lt (ne 1 rfl n1) (ne 19 rfl e) (ne 33 rfl (by omega)) (ne 34 rfl (by omega)) (ne 35 rfl (by omega)) (ne 36 rfl (by omega)) (ne 37 rfl (by omega)) (ne 38 rfl (by omega)) (ne 39 rfl (by omega)) (ne 40 rfl (by omega)) (ne 41 rfl (by omega)))
    have nsg : ∀ q l1, Sg q = some l1 → (l1 ≠ 1 ∧ l1 ≠ 10 ∧ l1 ≠ 2 ∧ ¬ (11 ≤ l1 ∧ l1 ≤ 18)) → h1 q = h q := fun q l1 hs hn => o1 q (sgP_lt (k_sg_ne hs (s_ 1 rfl) hn.1) (k_sg_ne hs (s_ 19 rfl) hn.2.1) (k_sg_ne hs (s_ 33 rfl) hn.2.2.1) (k_sg_ne hs (s_ 34 rfl) (by show ¬ l1 = 11; omega)) (k_sg_ne hs (s_ 35 rfl) (by show ¬ l1 = 12; omega)) (k_sg_ne hs (s_ 36 rfl) (by show ¬ l1 = 13; omega)) (k_sg_ne hs (s_ 37 rfl) (by show ¬ l1 = 14; omega)) (k_sg_ne hs (s_ 38 rfl) (by show ¬ l1 = 15; omega)) (k_sg_ne hs (s_ 39 rfl) (by show ¬ l1 = 16; omega)) (k_sg_ne hs (s_ 40 rfl) (by show ¬ l1 = 17; omega)) (k_sg_ne hs (s_ 41 rfl) (by show ¬ l1 = 18; omega)))
    refine ⟨⟨hk, ad, _, W, O, hz.rd T1.1 c33 d1 d2 d3 d4 d5 d6 d7 d8 oL, rfl, hS.mv (fun L hL => ?_) (fun _ _ => rfl), hA.mv (nsg _ 42 (hl 32 (Or.inr (Or.inl rfl))) (by decide)) (nsg _ 45 (hl 49 (Or.inr (Or.inr rfl))) (by decide))⟩, trivial⟩
    unfold scr at hL
    exact zrd_n (by omega) (by omega)
  · by_cases c1 : so.toInt = 1
    · obtain ⟨k, s, s_k, s_s, R⟩ := T_ru hH s_r
      have st := s_ 1 rfl
      have sb := s_ 19 rfl
      refine s_fault1 hT c1 ⟨T.2.2.1, k_sg_ne s_r st (by decide), k_sg_ne s_k st (by decide), k_sg_ne s_r sb (by decide), k_sg_ne s_k sb (by decide), k_sg_ne s_r s_k (by decide)⟩ (k_sg_ne sx st (by decide)) (k_sg_ne sx s_r (by decide)) (k_sg_ne sx s_k (by decide)) (by decide) (by decide) c2 (z_fsR (k := 0) (L1 := 1) rfl rfl rfl) (z_fsR (k := 2) (L1 := 33) rfl rfl rfl) f13 T R (fun h1 at1 fl1 T1 R1 es o1 => ?_)
      have no : ∀ L, (zNC L = true ∨ L = 32 ∨ L = 49) → L ≠ 1 → h1 (ad L) = h (ad L) := fun L hL n1 => o1 _ ⟨k_sg_ne (hl L hL) st ((lbC_ne hL).2.2.2.2.1 n1), k_sg_ne (hl L hL) s_r (lbC_ne hL).1, k_sg_ne (hl L hL) s_k (lbC_ne hL).2.2.1⟩
      exact ⟨FC.tape hk hz hS hA ⟨T1.1, T1.2.1, T1.2.2.1, T1.2.2.2.1, T1.2.2.2.2.1⟩ (fun L hL n1 _ => no L (Or.inl hL) n1) (fun L hL => no L (Or.inr hL) (by omega)), trivial⟩
    · exact s_fault2 ⟨c0, c1⟩ (fun v hv => ⟨⟨hk, ad, I, W, O, hz, rfl, hS, hA⟩, trivial⟩)
theorem kF_text (hT : k_TX tys cA A X) (hN : k_NX X) {so : Int32} {seed : Int64} (hH : k_H Sg cA Lb h) (sx : Sg x = some 0) (hC : aC cA h x σ) (H : FC cA h x τ φ) : tt l D tys A X 44 1300 3 259 mX10_text (fun _ g => FC cA g x (n_text so σ τ) (k9_text so seed σ φ) ∧ True) 0 (lv_args 0 [.ref x, .int so, .long seed]) [] h 0 0 := by
  obtain ⟨hk, ad, I, W, O, hz, rfl, hS, hA, hl⟩ := H.lab hH sx
  obtain ⟨len, at0, fl0, T, e1, e2⟩ := hC.st hH hz
  have s_ : ∀ L, zNC L = true → Sg (ad L) = some (lbC L) := fun L hL => hl L (Or.inl hL)
  obtain ⟨xs2, c2, xl, ty⟩ := hH.obj sx (L := 0) rfl
  have c3 := hz.ob (L := 0) (ts := (zZ 0).2.2.2) rfl rfl
  rw [c2] at c3
  cases c3
  obtain ⟨v12, f12, t12⟩ := ty 12 _ rfl
  obtain ⟨ra, rfl, s_ra⟩ := k_v.ref t12
  obtain ⟨v13, f13, t13⟩ := ty 13 _ rfl
  obtain ⟨r, rfl, s_r⟩ := k_v.ref t13
  obtain ⟨v14, f14, y14, rfl, r1, r2⟩ := ty 14 _ rfl
  have r1 : 0 ≤ y14.toInt := r1
  have r2 : y14.toInt ≤ 4 := r2
  have e14 : y14 = I 0 14 := by
    have e2 := z_fsI (ad := ad) (f := I 0) (w := W 0) (o := O 0) (ts := (zZ 0).2.2.2) (k := 14) rfl rfl
    rw [f14] at e2
    cases e2
    rfl
  have e15 : y14.toInt = (σ.2.2 : Int) := by
    rw [e14]
    exact e2
  show tt l D tys A X 44 1300 3 259 mX10_text _ 0 [(0, .ref (ad 0)), (1, .int so), (2, .long seed)] [] h 0 0
  refine tt_iload_n rfl (List.Mem.tail _ (List.Mem.head _)) (tX10_text_0_ok (0, .iload_n 1, 1) (List.mem_of_getElem? (i := 0) rfl)) ?_
  refine tt_if_ne (tgt := 10) (tX10_text_0_ok (1, .ifCond .ne 9, 3) (List.mem_of_getElem? (i := 1) rfl)) rfl (fun b1 => ?_) (fun b1 => ?_)
  · have b1 : ¬ so.toInt = 0 := fun q => b1 ((kn_eq _ _).mpr q)
    have nn : n_text so σ τ = τ := n_text_neg (fun q => b1 q.1)
    refine tt_iload_n rfl (List.Mem.tail _ (List.Mem.head _)) (tX10_text_0_ok (10, .iload_n 1, 1) (List.mem_of_getElem? (i := 6) rfl)) ?_
    refine tt_iconst (v := 1) rfl (tX10_text_0_ok (11, .iconst 1, 1) (List.mem_of_getElem? (i := 7) rfl)) ?_
    refine tt_icmp_ne (tgt := 20) (tX10_text_0_ok (12, .if_icmp .ne 8, 3) (List.mem_of_getElem? (i := 8) rfl)) rfl (fun b2 => ?_) (fun b2 => ?_)
    · have b2 : ¬ so.toInt = 1 := fun q => b2 ((kn_eq _ _).mpr q)
      refine tt_iconst (v := -1) rfl (tX10_text_0_ok (20, .iconst (-1), 1) (List.mem_of_getElem? (i := 12) rfl)) ?_
      refine tt_iret rfl ?_ (by decide) (by decide) (tX10_text_0_ok (21, .ireturn, 1) (List.mem_of_getElem? (i := 13) rfl))
      refine ⟨?_, trivial⟩
      rw [nn, show k9_text so seed σ φ = φ from (if_neg b1).trans (if_neg b2)]
      exact ⟨hk, ad, I, W, O, hz, rfl, hS, hA⟩
    · have b2 : so.toInt = 1 := by rw [b2]; rfl
      have kk : k9_text so seed σ φ = k9_rule σ φ := (if_neg b1).trans (if_pos b2)
      obtain ⟨k, s, s_k, s_s, R⟩ := T_ru hH s_r
      refine tt_aload_n rfl (List.Mem.head _) (tX10_text_0_ok (15, .aload_n 0, 1) (List.mem_of_getElem? (i := 9) rfl)) ?_
      obtain ⟨e9, z1, z2, z3, z4, z5⟩ := (cllw_X10 (126, 0, 129) (List.mem_of_getElem? (i := 7) rfl))
      cases z1
      refine tt_callV (M' := mX10_newRule) (As := []) (rest := []) (ci := 9) (fr' := 42) (lo' := 1200) (mc' := 3) (ms' := 259) (tX10_text_0_ok (16, .invokevirtual 126, 3) (List.mem_of_getElem? (i := 10) rfl)) z5 z2 z3 z4 c2 rfl rfl rfl ⟨by decide, by decide⟩ ⟨by decide, by decide⟩ (Nat.le_of_ble_eq_true rfl) (Nat.le_of_ble_eq_true rfl) (t_newRuleK (Q := fun v g => (∃ w9 : Int32, v = some (.int w9)) ∧ FC cA g (ad 0) (n_text so σ τ) (k9_text so seed σ φ)) hT.1 hN hH sx (s_ 1 rfl) (s_ 19 rfl) s_r s_k s_s s_ra c2 (z_fsR (k := 0) (L1 := 1) rfl rfl rfl) f12 f13 f14 ⟨r1, r2⟩ T R (fun g v Sg1 xs1 len1 rc1 at1 fl1 q1 q2 q3 q4 q5 q6 q7 q8 kp kq => ?_)) (fun v1 g H1 => ?_)
      · refine ⟨⟨v, rfl⟩, ?_⟩
        rw [nn, kk]
        have no : ∀ L, (zNC L = true ∨ L = 32 ∨ L = 49) → L ≠ 0 → L ≠ 1 → g (ad L) = h (ad L) := fun L hL n0 n1 => kq _ _ (hl L hL) ⟨(lbC_ne hL).2.2.2.1 n0, (lbC_ne hL).2.2.2.2.1 n1, (lbC_ne hL).1, (lbC_ne hL).2.1, (lbC_ne hL).2.2.1⟩
        obtain ⟨xs9, c9, l9, ty9⟩ := q1.obj (q2 _ _ sx) (L := 0) rfl
        rw [q4] at c9
        cases c9
        obtain ⟨w13, g13, -⟩ := ty9 13 _ rfl
        have x1 : xs1 = ((z_fs ad (I 0) (W 0) (O 0) 0 (zZ 0).2.2.2).set 13 w13).set 14 (.int rc1) := set_of (by rw [l9, List.length_set, z_fs_len]; rfl) (by rw [List.length_set, z_fs_len]; decide) q6 (fun j hj => by
          by_cases e : j = 13
          · subst e
            rw [g13, List.getElem?_set_self (by rw [z_fs_len]; decide)]
          · rw [List.getElem?_set_ne (fun z => e z.symm), kp j e hj])
        have z1 : zr zNC cA ad (s2 (s2 (s2 I 19 σ.1) 1 (fun k => if k = 1 then len1 else if k = 2 then at1 else fl1)) 0 (upd (I 0) 14 rc1)) W (fun L => if L = 0 then (fun k => if k = 13 then w13 else O 0 k) else O L) g := by
          refine ⟨fun L hL => ?_, hz.2⟩
          by_cases n0 : L = 0
          · subst n0
            rw [q4, x1, s2_s]
            rfl
          · show g (ad L) = some (z_e ad cA (s2 (s2 (s2 I 19 σ.1) 1 _) 0 _ L) (W L) (if L = 0 then _ else O L) (zZ L))
            rw [if_neg n0, s2_n n0]
            by_cases n1 : L = 1
            · subst n1
              rw [q7.1, s2_s]
              rfl
            · rw [no L (Or.inl hL) n0 n1, s2_n n1]
              by_cases n2 : L = 19
              · subst n2
                rw [s2_s]
                exact T.2.1
              · rw [s2_n n2]
                exact hz.1 L hL
        have A1 : zRA cA ad g := hA.mv (no 32 (Or.inr (Or.inl rfl)) (by decide) (by decide)) (no 49 (Or.inr (Or.inr rfl)) (by decide) (by decide))
        have oI : ∀ L, ¬ scr L → L ≠ 0 → s2 (s2 (s2 I 19 σ.1) 1 (fun k => if k = 1 then len1 else if k = 2 then at1 else fl1)) 0 (upd (I 0) 14 rc1) L = I L := fun L hL n0 => by
          unfold scr at hL
          rw [s2_n n0, s2_n (by omega), s2_n (by omega)]
        have o0 : ∀ k, k ≠ 14 → s2 (s2 (s2 I 19 σ.1) 1 (fun k => if k = 1 then len1 else if k = 2 then at1 else fl1)) 0 (upd (I 0) 14 rc1) 0 k = I 0 k := fun k hk => by rw [s2_s, upd_n _ _ hk]
        have oc : s2 (s2 (s2 I 19 σ.1) 1 (fun k => if k = 1 then len1 else if k = 2 then at1 else fl1)) 0 (upd (I 0) 14 rc1) 0 14 = rc1 := by rw [s2_s, upd_s]
        have en : len.toInt.toNat = σ.2.1 := by omega
        rw [en] at q8
        rcases q8 with ⟨p1, ⟨p2, p3⟩, -, p4, -⟩ | ⟨p1, -, p4, -⟩
        · have c1 : isRb (sp_rule σ.1 σ.2.1) = true ∧ σ.2.2 < 4 := ⟨by rw [p3]; rfl, by omega⟩
          rw [show k9_rule σ φ = _ from if_pos c1]
          have ec : φ.1 50 7 + 1 = rc1 := by
            have e7 := hS.2.2.2.2.2.2.2.2.2.2
            rw [← e7, ← e14]
            refine (kn_eq _ _).mpr ?_
            rw [fb_addI (by show -2147483648 ≤ y14.toInt + 1; omega) (by show y14.toInt + 1 < 2147483648; omega), p4]
            rfl
          rw [ec]
          exact ⟨hk.ru, ad, _, W, _, z1, rfl, hS.ru oI o0 oc (fun _ _ => rfl), A1⟩
        · have c1 : ¬ (isRb (sp_rule σ.1 σ.2.1) = true ∧ σ.2.2 < 4) := fun z => by
            rcases p1 with p1 | ⟨e9, p1⟩
            · omega
            · rw [p1] at z
              cases z.1
          rw [show k9_rule σ φ = φ from if_neg c1]
          refine ⟨hk, ad, _, W, _, z1, rfl, hS.mv (fun L hL => ?_) (fun _ _ => rfl), A1⟩
          by_cases n0 : L = 0
          · subst n0
            rw [s2_s, p4, e14]
            funext k
            by_cases e : k = 14
            · subst e
              rw [upd_s]
            · rw [upd_n _ _ e]
          · exact oI L hL n0
      · obtain ⟨⟨w9, rfl⟩, q1⟩ := H1
        exact tt_iret rfl ⟨q1, trivial⟩ (by decide) (by decide) (tX10_text_0_ok (19, .ireturn, 1) (List.mem_of_getElem? (i := 11) rfl))
  · have b1 : so.toInt = 0 := by rw [b1]; rfl
    refine tt_aload_n rfl (List.Mem.head _) (tX10_text_0_ok (4, .aload_n 0, 1) (List.mem_of_getElem? (i := 2) rfl)) ?_
    refine tt_lload_n rfl (List.Mem.tail _ (List.Mem.tail _ (List.Mem.head _))) (tX10_text_0_ok (5, .lload_n 2, 1) (List.mem_of_getElem? (i := 3) rfl)) ?_
    obtain ⟨e9, z1, z2, z3, z4, z5⟩ := (cllw_X10 (122, 0, 130) (List.mem_of_getElem? (i := 4) rfl))
    cases z1
    have kk : k9_text so seed σ φ = k9_town σ seed φ := if_pos b1
    have nn : n_text so σ τ = n_text 0 σ τ := by
      unfold n_text
      rw [b1]
      rfl
    have kc : tt l D tys A X 12 400 0 0 mX10_newTown (fun v g => (∃ w9 : Int32, v = some (.int w9)) ∧ FC cA g (ad 0) (n_text so σ τ) (k9_text so seed σ φ)) 0 [(0, .ref (ad 0)), (1, .long seed)] [] h 0 0 := by
      rw [nn, kk]
      exact z_newTown hT.1 (rr := σ.2.2) hk hz hS hA hH hl T (show len.toInt.toNat = σ.2.1 by omega) (by decide) (by decide) (fun g v F => ⟨⟨v, rfl⟩, F⟩)
    refine tt_callV (M' := mX10_newTown) (As := [.long seed]) (rest := []) (ci := 9) (fr' := 12) (lo' := 400) (mc' := 0) (ms' := 0) (tX10_text_0_ok (6, .invokevirtual 122, 3) (List.mem_of_getElem? (i := 4) rfl)) z5 z2 z3 z4 c2 rfl rfl rfl ⟨by decide, by decide⟩ ⟨by decide, by decide⟩ (Nat.le_of_ble_eq_true rfl) (Nat.le_of_ble_eq_true rfl) kc (fun v1 g H1 => ?_)
    obtain ⟨⟨w9, rfl⟩, q1⟩ := H1
    exact tt_iret rfl ⟨q1, trivial⟩ (by decide) (by decide) (tX10_text_0_ok (9, .ireturn, 1) (List.mem_of_getElem? (i := 5) rfl))
end
