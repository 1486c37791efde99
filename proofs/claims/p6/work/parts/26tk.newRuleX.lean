/-! the class: a RULE told, exactly (made by gen_kU) -/
section
variable {f : Nat → Int32} {len : Nat}
theorem e_rule_ok {q : Nat} {cd : List Int} (h : e_rule f len = .inr (q, cd)) : sp_rule f len = .inr q ∧ cd.length ≤ q ∧ ∀ L : Nat → Int32, ∃ o m, v_rule f len L = .inr (q, o) ∧ x_go L cd m 0 [] = some (o.getD 0) := by
  have one : ∀ L : Nat → Int32, cd.length ≤ q ∧ ∃ o m, v_rule f len L = .inr (q, o) ∧ x_go L cd m 0 [] = some (o.getD 0) := fun L => by
    rcases rule_both (f := f) (len := len) L with ⟨e, -, a2⟩ | ⟨q1, o, c1, a1, a2, a3, m, a4⟩
    · rw [h] at a2
      cases a2
    · rw [h] at a2
      cases a2
      exact ⟨a3, o, m, a1, a4⟩
  obtain ⟨b1, o, m, b2, -⟩ := one (fun _ => 0)
  refine ⟨?_, b1, fun L => (one L).2⟩
  have e := vpq_rule (f := f) (len := len) (L := fun _ => 0)
  rw [b2] at e
  exact e.symm
theorem e_rule_no {e : Nat} (h : e_rule f len = .inl e) : sp_rule f len = .inl e := by
  rcases rule_both (f := f) (len := len) (fun _ => 0) with ⟨e1, a1, a2⟩ | ⟨q1, o, c1, a1, a2, -⟩
  · rw [h] at a2
    cases a2
    have e := vpq_rule (f := f) (len := len) (L := fun _ => 0)
    rw [a1] at e
    exact e.symm
  · rw [h] at a2
    cases a2
theorem e_is.cases {r : Nat ⊕ eS} {a1 f1 : Int32} {g1 : Nat → Int32} {z1 : Int32} (h : e_is r a1 f1 g1 z1) : (∃ e, r = .inl e ∧ f1.toInt = (e : Int)) ∨ ∃ t, r = .inr t ∧ f1.toInt = -1 ∧ a1.toInt = (t.1 : Int) ∧ cdE g1 z1 t.2 := by
  cases r with
  | inl e => exact Or.inl ⟨e, rfl, h⟩
  | inr t => exact Or.inr ⟨t, rfl, h⟩
end
section
variable {l : Launch} {D : va_G} {tys : List (ClassId × FieldType)} {A : Nat → Prop} {X : State → Prop} {fr lo mc ms : Nat} {M : ch_M} {Q : Option Value → ch_H → Prop} {pc : Nat} {lv : List (Nat × Value)} {st : List Value} {h : ch_H} {c z : Nat} {Sg : Nat → Option Nat} {cA : Nat → ClassId} {x : Nat}
theorem x5_init (hT : k_tys tys cA) (Sg : Nat → Option Nat) (a : Nat) (h : ch_H) (hH : k_H Sg cA Lb h) (ca : h a = some (.inr (5, df_5))) (sa : Sg a = none) : tt l D tys A X 1 12 2 256 mX5_init (fun v g => nQ cA Lb Sg h a 6 v g ∧ ∃ kb sb, ru cA g a kb sb ∧ h kb = none) 0 [(0, .ref a)] [] h 0 0 := by
  have hL : ∀ L, L < 50 → Lb L = Lb L := fun _ _ => rfl
  have H0 : nS cA Lb Sg h a (.inr (5, df_5)) Sg h := ⟨hH, ca, sa, fun _ _ _ => ⟨rfl, rfl⟩⟩
  refine tt_aload_n rfl (List.Mem.head _) (tX5_init_0_ok (0, .aload_n 0, 1) (List.mem_of_getElem? (i := 0) rfl)) ?_
  refine tt_objInit (wA1 230 rfl rfl) (wA1 30 rfl rfl) (wA1 31 rfl rfl) (tX5_init_0_ok (1, .invokespecial 3, 3) (List.mem_of_getElem? (i := 1) rfl)) (by decide) (Nat.le_of_ble_eq_true rfl) ?_
  refine tt_aload_n rfl (List.Mem.head _) (tX5_init_0_ok (4, .aload_n 0, 1) (List.mem_of_getElem? (i := 2) rfl)) ?_
  refine tt_sipush rfl (tX5_init_0_ok (5, .sipush 192, 3) (List.mem_of_getElem? (i := 3) rfl)) ?_
  refine n_arr (L := 36) hT H0 (hL 36 (by decide)) (by decide +kernel) (by decide) rfl (by decide) rfl (by decide) (by decide) (by decide) (tX5_init_0_ok (8, .newarray .int, 2) (List.mem_of_getElem? (i := 4) rfl)) (fun b1 S2 g3 H4 s5 m6 o7 => ?_)
  refine n_put (own := 10) (ci := 5) (k := 0) [.ref b1, .int 0, .null] rfl H4 rfl rfl (by decide) rfl rfl ⟨rfl, rfl⟩ (Nat.le_of_ble_eq_true rfl) (tX5_init_0_ok (10, .putfield 11, 3) (List.mem_of_getElem? (i := 5) rfl)) (fun g8 H9 f10 => ?_)
  refine tt_aload_n rfl (List.Mem.head _) (tX5_init_0_ok (13, .aload_n 0, 1) (List.mem_of_getElem? (i := 6) rfl)) ?_
  refine tt_bipush rfl (tX5_init_0_ok (14, .bipush 64, 2) (List.mem_of_getElem? (i := 7) rfl)) ?_
  refine n_arr (L := 37) hT H9 (hL 37 (by decide)) (by decide +kernel) (by decide) rfl (by decide) rfl (by decide) (by decide) (by decide) (tX5_init_0_ok (16, .newarray .int, 2) (List.mem_of_getElem? (i := 8) rfl)) (fun b11 S12 g13 H14 s15 m16 o17 => ?_)
  refine n_put (own := 10) (ci := 5) (k := 2) [.ref b1, .int 0, .ref b11] rfl H14 rfl rfl (by decide) rfl rfl ⟨rfl, rfl⟩ (Nat.le_of_ble_eq_true rfl) (tX5_init_0_ok (18, .putfield 15, 3) (List.mem_of_getElem? (i := 9) rfl)) (fun g18 H19 f20 => ?_)
  have N : nQ cA Lb Sg h a 6 none g18 := by
    refine H19.fin (L := 6) ?_
    refine Or.inl ⟨rfl, _, rfl, rfl, fun k t hk => ?_⟩
    match k, hk with
    | 0, hk => cases hk; exact ⟨_, rfl, _, rfl, sg_le.up H19.2.2.1 _ _ (m16 _ _ s5)⟩
    | 1, hk => cases hk; exact ⟨_, rfl, _, rfl, by decide, by decide⟩
    | 2, hk => cases hk; exact ⟨_, rfl, _, rfl, sg_le.up H19.2.2.1 _ _ s15⟩
    | k + 3, hk => cases hk
  refine tt_vret rfl ⟨N, ?_⟩ (by decide) (by decide) (tX5_init_0_ok (21, .return_, 1) (List.mem_of_getElem? (i := 10) rfl))
  obtain ⟨e0, Sg1, n1, n2, n3⟩ := N
  obtain ⟨kb, sb, s_kb, s_sb, R⟩ := T_ru n1 n2
  have ek : kb = b1 := by
    obtain ⟨G, z, p1, -⟩ := R
    have p2 := H19.2.1
    rw [p1] at p2
    cases p2
    rfl
  exact ⟨kb, sb, R, by rw [ek]; exact o7⟩
theorem n_obj5 {ix ix2 : Nat} (hH : k_H Sg cA Lb h) (hT : k_tys tys cA) (hcl : Cond.classLink M.1.cls ix (ch_n 5) ∈ wsA) (hins : Cond.instantiable (ch_n 5) (ch_N 5) ∈ wsA) (hini : Cond.initialized (ch_n 5) ∈ wsA) (hln : (∃ host, ∀ s, X s → va_Nw (.methodLinkNest M.1.cls ix2 mX5_init.1 host) s) ∨ Cond.methodLink M.1.cls ix2 mX5_init.1 ∈ wsA) (hroom : 1 + 1 ≤ fr ∧ 8 + (mX5_init.2.2.1 + 11) + 12 ≤ lo) (hcells : c + 1 + 2 ≤ mc) (hslots : z + ch_N 5 + 256 ≤ ms) (hst : (st.map fun v => v.category).sum ≤ 7) (hlen : ∀ b, (lg_sl [.ref b]).length ≤ mX5_init.2.2.1) (hd1 : decode M.2.1 pc = .ok (.new ix, 3)) (hd2 : decode M.2.1 (pc + 3) = .ok (.dup, 1)) (hd3 : decode M.2.1 (pc + 3 + 1) = .ok (.invokespecial ix2, 3))
    (kk : ∀ (b : Nat) (Sg1 : Nat → Option Nat) (g : ch_H), k_H Sg1 cA Lb g → Sg1 b = some 6 → h b = none → (∃ kb sb, ru cA g b kb sb ∧ h kb = none) → (∀ q, h q ≠ none → g q = h q ∧ Sg1 q = Sg q) → tt l D tys A X fr lo mc ms M Q (pc + 3 + 1 + 3) lv (.ref b :: st) g (c + 1 + 2) (z + ch_N 5 + 256)) : tt l D tys A X fr lo mc ms M Q pc lv st h c z := by
  refine tt_new (pg_k 5 (by decide)) hcl hins hini df_5_ok (by omega) (by omega) hd1 (fun b hb => ?_)
  have sb := hH.none_ hb
  have hH1 : k_H Sg cA Lb (ch_up h b (.inr (5, df_5))) := fun q M9 hq => by
    have hne : q ≠ b := fun e => by rw [e, sb] at hq; cases hq
    rw [ch_up_n _ _ hne]
    exact hH q M9 hq
  refine tt_dup rfl hd2 ?_
  have kc := x5_init (l := l) (D := D) (A := A) (X := X) hT Sg b (ch_up h b (.inr (5, df_5))) hH1 (ch_up_s _ _ _) sb
  have fin : ∀ r g, (nQ cA Lb Sg (ch_up h b (.inr (5, df_5))) b 6 r g ∧ ∃ kb sb, ru cA g b kb sb ∧ ch_up h b (.inr (5, df_5)) kb = none) → tt l D tys A X fr lo mc ms M Q (pc + 3 + 1 + 3) lv (r.toList ++ .ref b :: st) g (c + 1 + 2) (z + ch_N 5 + 256) := by
    intro r g ⟨⟨e0, Sg1, q1, q2, q3⟩, kb, sb, R, k0⟩
    subst e0
    have kb0 : h kb = none := by
      by_cases e : kb = b
      · rw [e]
        exact hb
      · rw [ch_up_n _ _ e] at k0
        exact k0
    refine kk b Sg1 g q1 q2 hb ⟨kb, sb, R, kb0⟩ (fun q hn => ?_)
    have hqb : q ≠ b := fun e => hn (by rw [e]; exact hb)
    have w := q3 q hqb (by rw [ch_up_n _ _ hqb]; exact hn)
    rw [ch_up_n _ _ hqb] at w
    exact w
  have hst2 : ((Value.ref b :: st).map fun v => v.category).sum ≤ 8 := by
    simp only [List.map_cons, List.sum_cons]
    show 1 + _ ≤ 8
    omega
  rcases hln with ⟨host, hln⟩ | hln
  · exact tt_callIN (As := []) (rest := .ref b :: st) hd3 kX5_init rfl rfl hln iX5_init rfl hroom ⟨by omega, by omega⟩ hst2 (hlen b) kc fin
  · exact tt_callI (As := []) (rest := .ref b :: st) hd3 kX5_init rfl rfl hln iX5_init rfl hroom ⟨by omega, by omega⟩ hst2 (hlen b) kc fin
theorem t_newRuleX (hT : k_tys tys cA) (hN : k_NX X) {xs : List Value} {t b r k s ra : Nat} {f : Nat → Int32} {len rc at0 fl0 : Int32} (hH : k_H Sg cA Lb h) (sx : Sg x = some 0) (st : Sg t = some 1) (sb : Sg b = some 10) (s_r : Sg r = some 6) (s_k : Sg k = some 36) (s_s : Sg s = some 37) (s_ra : Sg ra = some 34) (c_x : h x = some (.inr (9, xs))) (f0 : xs[0]? = some (.ref t)) (f12 : xs[12]? = some (.ref ra)) (f13 : xs[13]? = some (.ref r)) (f14 : xs[14]? = some (.int rc)) (hrc : 0 ≤ rc.toInt ∧ rc.toInt ≤ 4) (T : tp0 cA h t b f len at0 fl0) (Ru : ru cA h r k s)
    (hq1 : ∀ (g : ch_H) (v : Int32) (xs1 : List Value) (nb kb sb : Nat) (fa : Nat → Option Nat) (rc1 : Int32) (t9 : eS), rc.toInt < 4 → e_rule f len.toInt.toNat = .inr t9 → (t9.1 : Int) ≤ len.toInt → g x = some (.inr (9, xs1)) → xs1[12]? = some (.ref ra) → xs1[13]? = some (.ref nb) → xs1[14]? = some (.int rc1) → rc1.toInt = rc.toInt + 1 → h ra = some (.inl (cA 4, 4, .inr (.inr (.inr (.inr fa))))) → g ra = some (.inl (cA 4, 4, .inr (.inr (.inr (.inr (va_up fa rc.toNatClampNeg (some r))))))) → ruI cA g r k t9.2 → ru cA g nb kb sb → h nb = none → h kb = none → (∀ q, h q ≠ none → q ≠ x ∧ q ≠ t ∧ q ≠ r ∧ q ≠ k ∧ q ≠ ra → g q = h q) → Q (some (.int v)) g)
    (hq2 : ∀ (g : ch_H) (v : Int32), (4 ≤ rc.toInt ∨ ∃ e, e_rule f len.toInt.toNat = .inl e) → ru cA g r k s → (∀ q, q ≠ t ∧ q ≠ r ∧ q ≠ k → g q = h q) → Q (some (.int v)) g) : tt l D tys A X 42 1200 3 259 mX10_newRule Q 0 [(0, .ref x)] [] h 0 0 := by
  have T9 := T
  refine tt_aload_n rfl (List.Mem.head _) (tX10_newRule_0_ok (0, .aload_n 0, 1) (List.mem_of_getElem? (i := 0) rfl)) ?_
  refine t_get (own := 15) rfl rfl (by decide) c_x f14 (tX10_newRule_0_ok (1, .getfield 141, 3) (List.mem_of_getElem? (i := 1) rfl)) ?_
  refine tt_iconst (v := 4) rfl (tX10_newRule_0_ok (4, .iconst 4, 1) (List.mem_of_getElem? (i := 2) rfl)) ?_
  refine tt_icmp_lt (tgt := 10) (tX10_newRule_0_ok (5, .if_icmp .lt 5, 3) (List.mem_of_getElem? (i := 3) rfl)) rfl (fun b1 => ?_) (fun b1 => ?_)
  · have b1 : rc.toInt < 4 := (kn_lt rc 4).mp b1
    refine tt_aload_n rfl (List.Mem.head _) (tX10_newRule_0_ok (10, .aload_n 0, 1) (List.mem_of_getElem? (i := 6) rfl)) ?_
    refine t_get (own := 15) rfl rfl (by decide) c_x f13 (tX10_newRule_0_ok (11, .getfield 67, 3) (List.mem_of_getElem? (i := 7) rfl)) ?_
    refine tt_aload_n rfl (List.Mem.head _) (tX10_newRule_0_ok (14, .aload_n 0, 1) (List.mem_of_getElem? (i := 8) rfl)) ?_
    refine t_get (own := 15) rfl rfl (by decide) c_x f0 (tX10_newRule_0_ok (15, .getfield 10, 3) (List.mem_of_getElem? (i := 9) rfl)) ?_
    obtain ⟨cR, hcR⟩ := ru.obj Ru
    obtain ⟨gE, zE, RE⟩ := id Ru
    have kc : tt l D tys A X 40 1170 0 0 mX5_read (fun v g => v = none ∧ ∃ (at1 fl1 : Int32) (g1 : Nat → Int32) (z1 : Int32), tp cA g t b f len at1 fl1 ∧ ruE cA g r k s g1 z1 ∧ e_is (e_rule f len.toInt.toNat) at1 fl1 g1 z1 ∧ ∀ q, q ≠ t ∧ q ≠ r ∧ q ≠ k → g q = h q) 0 [(0, .ref r), (1, .ref t)] [] h 0 0 :=
      s_readE hT ⟨T.2.2.1, k_sg_ne s_r st (by decide), k_sg_ne s_k st (by decide), k_sg_ne s_r sb (by decide), k_sg_ne s_k sb (by decide), k_sg_ne s_r s_k (by decide)⟩ (by decide) (by decide) T RE (fun h1 at1 fl1 g1 z1 T1 R1 e1 o1 => ⟨rfl, at1, fl1, g1, z1, T1, R1, e1, o1⟩)
    obtain ⟨e9, z1, z2, z3, z4, z5⟩ := (cllw_X10 (119, 0, 61) (List.mem_of_getElem? (i := 3) rfl))
    cases z1
    refine tt_callV (M' := mX5_read) (As := [.ref t]) (rest := []) (fr' := 40) (lo' := 1170) (mc' := 0) (ms' := 0) (tX10_newRule_0_ok (18, .invokevirtual 119, 3) (List.mem_of_getElem? (i := 10) rfl)) z5 z2 z3 z4 hcR rfl rfl rfl ⟨by decide, by decide⟩ ⟨by decide, by decide⟩ (Nat.le_of_ble_eq_true rfl) (Nat.le_of_ble_eq_true rfl) kc (fun v1 h1 H1 => ?_)
    obtain ⟨rfl, at1, fl1, g1, zz1, T1, RE1, e1, o1⟩ := H1
    have R1 : ru cA h1 r k s := ⟨g1, zz1, RE1⟩
    obtain ⟨hH1, u1⟩ := k_H.rule hH st sb s_r s_k s_s T T1 R1 Ru o1
    have c_x1 : h1 x = some (.inr (9, xs)) := (o1 x ⟨k_sg_ne sx st (by decide), k_sg_ne sx s_r (by decide), k_sg_ne sx s_k (by decide)⟩).trans c_x
    show tt l D tys A X 42 1200 3 259 mX10_newRule Q 21 [(0, .ref x)] [] h1 0 0
    refine tt_aload_n rfl (List.Mem.head _) (tX10_newRule_0_ok (21, .aload_n 0, 1) (List.mem_of_getElem? (i := 11) rfl)) ?_
    refine t_get (own := 15) rfl rfl (by decide) c_x1 f0 (tX10_newRule_0_ok (22, .getfield 10, 3) (List.mem_of_getElem? (i := 12) rfl)) ?_
    refine t_get (own := 15) (ci := 7) (k := 3) rfl rfl (by decide) T1.1 rfl (tX10_newRule_0_ok (25, .getfield 116, 3) (List.mem_of_getElem? (i := 13) rfl)) ?_
    refine tt_iconst (v := -1) rfl (tX10_newRule_0_ok (28, .iconst (-1), 1) (List.mem_of_getElem? (i := 14) rfl)) ?_
    refine tt_icmp_eq (tgt := 34) (tX10_newRule_0_ok (29, .if_icmp .eq 5, 3) (List.mem_of_getElem? (i := 15) rfl)) rfl (fun b2 => ?_) (fun b2 => ?_)
    · have b2 : fl1.toInt = -1 := by rw [b2]; rfl
      obtain ⟨t9, te, tf, ta, tc⟩ : ∃ t9, e_rule f len.toInt.toNat = .inr t9 ∧ fl1.toInt = -1 ∧ at1.toInt = (t9.1 : Int) ∧ cdE g1 zz1 t9.2 := by
        rcases e1.cases with ⟨e, -, z⟩ | z
        · omega
        · exact z
      obtain ⟨ea, ea1, ea2⟩ := hH1 ra 34 s_ra
      obtain ⟨fa, rfl, fa2⟩ := k_cell2 (I := Lb 34) rfl ea2
      have ea1 : h1 ra = some (.inl (cA 4, 4, .inr (.inr (.inr (.inr fa))))) := ea1
      obtain ⟨gr, szr, r1, -⟩ := id R1
      refine tt_aload_n rfl (List.Mem.head _) (tX10_newRule_0_ok (34, .aload_n 0, 1) (List.mem_of_getElem? (i := 18) rfl)) ?_
      refine t_get (own := 15) rfl rfl (by decide) c_x1 f12 (tX10_newRule_0_ok (35, .getfield 62, 3) (List.mem_of_getElem? (i := 19) rfl)) ?_
      refine tt_aload_n rfl (List.Mem.head _) (tX10_newRule_0_ok (38, .aload_n 0, 1) (List.mem_of_getElem? (i := 20) rfl)) ?_
      refine t_get (own := 15) rfl rfl (by decide) c_x1 f14 (tX10_newRule_0_ok (39, .getfield 141, 3) (List.mem_of_getElem? (i := 21) rfl)) ?_
      refine tt_aload_n rfl (List.Mem.head _) (tX10_newRule_0_ok (42, .aload_n 0, 1) (List.mem_of_getElem? (i := 22) rfl)) ?_
      refine t_get (own := 15) rfl rfl (by decide) c_x1 f13 (tX10_newRule_0_ok (43, .getfield 67, 3) (List.mem_of_getElem? (i := 23) rfl)) ?_
      refine tt_aast ea1 (hT 4 (by decide)) r1 (r := (RX5, TX5, 3)) rfl (kn_in hrc.1 (by omega)) (tX10_newRule_0_ok (46, .aastore, 1) (List.mem_of_getElem? (i := 24) rfl)) ?_
      generalize hg2 : ch_up h1 ra (.inl (cA 4, 4, .inr (.inr (.inr (.inr (va_up fa rc.toNatClampNeg (some r))))))) = h2
      have c_ra2 : h2 ra = some (.inl (cA 4, 4, .inr (.inr (.inr (.inr (va_up fa rc.toNatClampNeg (some r))))))) := by rw [← hg2]; exact ch_up_s _ _ _
      have o2 : ∀ q, q ≠ ra → h2 q = h1 q := fun q hq => by rw [← hg2]; exact ch_up_n _ _ hq
      have hH2 : k_H Sg cA Lb h2 := hH1.one s_ra c_ra2 (Or.inr (Or.inr ⟨rfl, _, rfl, fun i hi => by
        unfold va_up
        split
        · exact Or.inr ⟨r, rfl, s_r⟩
        · exact fa2 i hi⟩)) o2
      have c_x2 := (o2 x (k_sg_ne sx s_ra (by decide))).trans c_x1
      have c_t2 := (o2 t (k_sg_ne st s_ra (by decide))).trans T1.1
      have c_b2 := (o2 b (k_sg_ne sb s_ra (by decide))).trans T1.2.1
      show tt l D tys A X 42 1200 3 259 mX10_newRule Q 47 [(0, .ref x)] [] h2 0 0
      refine tt_aload_n rfl (List.Mem.head _) (tX10_newRule_0_ok (47, .aload_n 0, 1) (List.mem_of_getElem? (i := 25) rfl)) ?_
      refine n_obj5 hH2 hT (wA1 224 rfl rfl) (wA1 226 rfl rfl) (wA1 7 rfl rfl) (Or.inl ⟨_, (fun s x => (hN s x).2.2.2.2.2.1)⟩) (by decide) (by decide) (by decide) (Nat.le_of_ble_eq_true rfl) (fun _ => Nat.le_of_ble_eq_true rfl) (tX10_newRule_0_ok (48, .new 60, 3) (List.mem_of_getElem? (i := 26) rfl)) (tX10_newRule_0_ok (51, .dup, 1) (List.mem_of_getElem? (i := 27) rfl)) (tX10_newRule_0_ok (52, .invokespecial 66, 3) (List.mem_of_getElem? (i := 28) rfl)) (fun nb Sg1 h3 hH3 s_nb hnb ⟨kb, sb9, Rn, hkb⟩ o3 => ?_)
      have le3 : sg_le Sg Sg1 := fun q M9 hq => by rw [(o3 q (hH2.some_ hq)).2]; exact hq
      have sx3 := le3 x 0 sx
      have st3 := le3 t 1 st
      have sb3 := le3 b 10 sb
      have c_x3 := (o3 x (by rw [c_x2]; exact fun q => by cases q)).1.trans c_x2
      have c_t3 := (o3 t (by rw [c_t2]; exact fun q => by cases q)).1.trans c_t2
      have c_b3 := (o3 b (by rw [c_b2]; exact fun q => by cases q)).1.trans c_b2
      refine t_put (own := 15) (ci := 9) (k := 13) hH3 sx3 rfl rfl ⟨nb, rfl, s_nb⟩ c_x3 rfl rfl (by decide) rfl ⟨rfl, rfl⟩ (by decide) (tX10_newRule_0_ok (55, .putfield 67, 3) (List.mem_of_getElem? (i := 29) rfl)) (fun h4 xs4 hH4 c_x4 f134 j4 o4 => ?_)
      have f04 := (j4 0 (by decide)).trans f0
      have f144 := (j4 14 (by decide)).trans f14
      have c_t4 := (o4 t (k_sg_ne st3 sx3 (by decide))).trans c_t3
      have c_b4 := (o4 b (k_sg_ne sb3 sx3 (by decide))).trans c_b3
      refine tt_aload_n rfl (List.Mem.head _) (tX10_newRule_0_ok (58, .aload_n 0, 1) (List.mem_of_getElem? (i := 30) rfl)) ?_
      refine t_get (own := 15) rfl rfl (by decide) c_x4 f04 (tX10_newRule_0_ok (59, .getfield 10, 3) (List.mem_of_getElem? (i := 31) rfl)) ?_
      refine tt_iconst (v := 0) rfl (tX10_newRule_0_ok (62, .iconst 0, 1) (List.mem_of_getElem? (i := 32) rfl)) ?_
      refine t_put (own := 15) (ci := 7) (k := 1) hH4 st3 rfl rfl ⟨0, rfl, by decide, by decide⟩ c_t4 rfl rfl (by decide) rfl ⟨rfl, rfl⟩ (by decide) (tX10_newRule_0_ok (63, .putfield 103, 3) (List.mem_of_getElem? (i := 33) rfl)) (fun h5 ts5 hH5 c_t5 f15 j5 o5 => ?_)
      have l5 : ts5.length = 4 := by
        obtain ⟨w9, w8, w7, -⟩ := hH5.obj st3 (L := 1) rfl
        rw [c_t5] at w8
        cases w8
        exact w7
      have e5 := list4 l5 ((j5 0 (by decide)).trans rfl) f15 ((j5 2 (by decide)).trans rfl) ((j5 3 (by decide)).trans rfl)
      subst e5
      have c_x5 := (o5 x (k_sg_ne sx3 st3 (by decide))).trans c_x4
      have c_b5 := (o5 b (k_sg_ne sb3 st3 (by decide))).trans c_b4
      refine tt_aload_n rfl (List.Mem.head _) (tX10_newRule_0_ok (66, .aload_n 0, 1) (List.mem_of_getElem? (i := 34) rfl)) ?_
      refine tt_dup rfl (tX10_newRule_0_ok (67, .dup, 1) (List.mem_of_getElem? (i := 35) rfl)) ?_
      refine t_get (own := 15) rfl rfl (by decide) c_x5 f144 (tX10_newRule_0_ok (68, .getfield 141, 3) (List.mem_of_getElem? (i := 36) rfl)) ?_
      refine tt_iconst (v := 1) rfl (tX10_newRule_0_ok (71, .iconst 1, 1) (List.mem_of_getElem? (i := 37) rfl)) ?_
      refine tt_iadd (tX10_newRule_0_ok (72, .iadd, 1) (List.mem_of_getElem? (i := 38) rfl)) ?_
      have er : (rc + 1).toInt = rc.toInt + 1 := fb_addI (by show -2147483648 ≤ rc.toInt + 1; omega) (by show rc.toInt + 1 < 2147483648; omega)
      refine t_put (own := 15) (ci := 9) (k := 14) hH5 sx3 rfl rfl ⟨rc + 1, rfl, by show (0 : Int) ≤ _; omega, by show _ ≤ (4 : Int); omega⟩ c_x5 rfl rfl (by decide) rfl ⟨rfl, rfl⟩ (by decide) (tX10_newRule_0_ok (73, .putfield 141, 3) (List.mem_of_getElem? (i := 39) rfl)) (fun h6 xs6 hH6 c_x6 f146 j6 o6 => ?_)
      refine tt_aload_n rfl (List.Mem.head _) (tX10_newRule_0_ok (76, .aload_n 0, 1) (List.mem_of_getElem? (i := 40) rfl)) ?_
      refine t_get (own := 15) rfl rfl (by decide) c_x6 f146 (tX10_newRule_0_ok (77, .getfield 141, 3) (List.mem_of_getElem? (i := 41) rfl)) ?_
      refine tt_iconst (v := 1) rfl (tX10_newRule_0_ok (80, .iconst 1, 1) (List.mem_of_getElem? (i := 42) rfl)) ?_
      refine tt_isub (tX10_newRule_0_ok (81, .isub, 1) (List.mem_of_getElem? (i := 43) rfl)) ?_
      refine tt_iret rfl ?_ (by decide) (by decide) (tX10_newRule_0_ok (82, .ireturn, 1) (List.mem_of_getElem? (i := 44) rfl))
      have n_x_ra : x ≠ ra := k_sg_ne sx s_ra (by decide)
      have n_x_t : x ≠ t := k_sg_ne sx st (by decide)
      have n_t_ra : t ≠ ra := k_sg_ne st s_ra (by decide)
      have some2 : ∀ q, h q ≠ none → h2 q ≠ none := fun q hn => by
        by_cases e1 : q = ra
        · rw [e1, c_ra2]
          exact fun z => by cases z
        · rw [o2 q e1]
          by_cases e2 : q = t
          · rw [e2, T1.1]
            exact fun z => by cases z
          · by_cases e3 : q = r
            · rw [e3, RE1.1]
              exact fun z => by cases z
            · by_cases e4 : q = k
              · rw [e4, RE1.2.1]
                exact fun z => by cases z
              · rw [o1 q ⟨e2, e3, e4⟩]
                exact hn
      have none2 : ∀ q, h2 q = none → h q = none := fun q hn => by
        cases e : h q with
        | none => rfl
        | some e9 => exact absurd hn (some2 q (by rw [e]; exact fun z => by cases z))
      have up : ∀ q, q ≠ x → q ≠ t → h6 q = h3 q := fun q n0 n1 => ((o6 q n0).trans (o5 q n1)).trans (o4 q n0)
      have c_t2n : h2 t ≠ none := by rw [c_t2]; exact fun z => by cases z
      have c_x2n : h2 x ≠ none := by rw [c_x2]; exact fun z => by cases z
      have n_nb_x : nb ≠ x := fun z => c_x2n (by rw [← z]; exact hnb)
      have n_nb_t : nb ≠ t := fun z => c_t2n (by rw [← z]; exact hnb)
      have n_kb_x : kb ≠ x := fun z => c_x2n (by rw [← z]; exact hkb)
      have n_kb_t : kb ≠ t := fun z => c_t2n (by rw [← z]; exact hkb)
      have n_r_x : r ≠ x := k_sg_ne s_r sx (by decide)
      have n_r_t : r ≠ t := k_sg_ne s_r st (by decide)
      have n_k_x : k ≠ x := k_sg_ne s_k sx (by decide)
      have n_k_t : k ≠ t := k_sg_ne s_k st (by decide)
      have r2 := (o2 r (k_sg_ne s_r s_ra (by decide))).trans RE1.1
      have k2 := (o2 k (k_sg_ne s_k s_ra (by decide))).trans RE1.2.1
      have w12 : xs6[12]? = some (.ref ra) := ((j6 12 (by decide)).trans (j4 12 (by decide))).trans f12
      have w13 : xs6[13]? = some (.ref nb) := (j6 13 (by decide)).trans f134
      refine hq1 h6 _ xs6 nb kb sb9 fa (rc + 1) t9 b1 te (by rw [← ta]; exact T1.2.2.2.2.2.2) c_x6 w12 w13 f146 er ((o1 ra ⟨n_t_ra.symm, k_sg_ne s_ra s_r (by decide), k_sg_ne s_ra s_k (by decide)⟩).symm.trans ea1) ?_ ⟨s, g1, zz1, ⟨?_, ?_, RE1.2.2⟩, tc⟩ (Rn.mv (up nb n_nb_x n_nb_t) (up kb n_kb_x n_kb_t)) (none2 nb hnb) (none2 kb hkb) (fun q hn hq => ?_)
      · exact ((up ra n_x_ra.symm n_t_ra.symm).trans (o3 ra (by rw [c_ra2]; exact fun z => by cases z)).1).trans c_ra2
      · exact ((up r n_r_x n_r_t).trans (o3 r (by rw [r2]; exact fun z => by cases z)).1).trans r2
      · exact ((up k n_k_x n_k_t).trans (o3 k (by rw [k2]; exact fun z => by cases z)).1).trans k2
      · exact ((up q hq.1 hq.2.1).trans (o3 q (some2 q hn)).1).trans ((o2 q hq.2.2.2.2).trans (o1 q ⟨hq.2.1, hq.2.2.1, hq.2.2.2.1⟩))
    · have b2 : ¬ fl1.toInt = -1 := fun q => b2 ((kn_eq _ _).mpr (by rw [q]; rfl))
      obtain ⟨e8, te⟩ : ∃ e, e_rule f len.toInt.toNat = .inl e := by
        rcases e1.cases with ⟨e, z, -⟩ | ⟨t9, -, z, -⟩
        · exact ⟨e, z⟩
        · exact absurd z b2
      refine tt_iconst (v := -1) rfl (tX10_newRule_0_ok (32, .iconst (-1), 1) (List.mem_of_getElem? (i := 16) rfl)) ?_
      refine tt_iret rfl ?_ (by decide) (by decide) (tX10_newRule_0_ok (33, .ireturn, 1) (List.mem_of_getElem? (i := 17) rfl))
      exact hq2 h1 _ (Or.inr ⟨e8, te⟩) R1 o1
  · have b1 : 4 ≤ rc.toInt := by have := mt (kn_lt rc 4).mpr b1; have e4 : (4 : Int32).toInt = 4 := rfl; omega
    refine tt_iconst (v := -1) rfl (tX10_newRule_0_ok (8, .iconst (-1), 1) (List.mem_of_getElem? (i := 4) rfl)) ?_
    refine tt_iret rfl ?_ (by decide) (by decide) (tX10_newRule_0_ok (9, .ireturn, 1) (List.mem_of_getElem? (i := 5) rfl))
    exact hq2 h _ (Or.inl b1) Ru (fun _ _ => rfl)
end
