/-! the class: its RULES behind fault and text (made by gen_kU2) -/
/-- so many RULES, and what they are worth -/
def p9 (φ : zP) : uP := ((φ.1 50 7).toInt.toNat, φ.2.2.2)
section
variable {Sg : Nat → Option Nat} {cA : Nat → ClassId} {h h1 : ch_H} {x : Nat} {ψ : uP} {σ : aS} {φ : zP} {seed : Int64}
theorem RC.read {t r k s : Nat} {xs : List Value} (hH : k_H Sg cA Lb h) (sx : Sg x = some 0) (H : RC cA h x ψ) (c_x : h x = some (.inr (9, xs))) (f13 : xs[13]? = some (.ref r)) (R : ru cA h r k s) (st : Sg t = some 1) (R1 : ru cA h1 r k s) (o : ∀ q, q ≠ t ∧ q ≠ r ∧ q ≠ k → h1 q = h q) : RC cA h1 x ψ := by
  obtain ⟨xs9, ra, sp, ksp, fa, rc, c9, f12, f13', f14, e1, e2, c_ra, ⟨ssp, Rsp⟩, hr⟩ := H
  rw [c_x] at c9
  cases c9
  rw [f13] at f13'
  cases f13'
  obtain ⟨s_ra, s_sp, F, y1, hF⟩ := lab12 hH sx c_x f12 f13
  rw [c_ra] at y1
  cases y1
  have ek : k = ksp := by
    obtain ⟨ga, za, p1, -⟩ := R
    obtain ⟨gb, zb, p2, -⟩ := Rsp
    rw [p1] at p2
    cases p2
    rfl
  subst ek
  have s_k1 := R.lab hH s_sp
  refine ⟨xs, ra, r, k, fa, rc, (o x ⟨k_sg_ne sx st (by decide), k_sg_ne sx s_sp (by decide), k_sg_ne sx s_k1 (by decide)⟩).trans c_x, f12, f13, f14, e1, e2, (o ra ⟨k_sg_ne s_ra st (by decide), k_sg_ne s_ra s_sp (by decide), k_sg_ne s_ra s_k1 (by decide)⟩).trans c_ra, ⟨s, R1⟩, fun i hi => ?_⟩
  obtain ⟨r2, k2, its, w1, w2, w3, w4, w5⟩ := hr i hi
  have s_r := hF i r2 (by omega) w1
  have s_k := w2.lab hH s_r
  exact ⟨r2, k2, its, w1, w2.mv (o r2 ⟨k_sg_ne s_r st (by decide), w3, k_sg_ne s_r s_k1 (by decide)⟩) (o k2 ⟨k_sg_ne s_k st (by decide), k_sg_ne s_k s_sp (by decide), w4⟩), w3, w4, w5⟩
theorem p9_town : p9 (k9_town σ seed φ) = p9 φ := by
  unfold k9_town
  split
  · unfold p9 k9_new
    dsimp only
    rw [s2_s, upd_n _ _ (by decide)]
  · rfl
theorem p9_rule (h0 : (σ.2.2 : Int) = (φ.1 50 7).toInt) (h4 : σ.2.2 < 4) (hr : isRb (sp_rule σ.1 σ.2.1) = true) : p9 (k9_rule σ φ) = ((p9 φ).1 + 1, fun i => if i = (p9 φ).1 then k9_ru σ else (p9 φ).2 i) := by
  unfold k9_rule
  rw [if_pos ⟨hr, h4⟩]
  have e1 : (φ.1 50 7 + 1).toInt = (φ.1 50 7).toInt + 1 := fb_addI (by show -2147483648 ≤ (φ.1 50 7).toInt + 1; omega) (by show (φ.1 50 7).toInt + 1 < 2147483648; omega)
  have e2 : (φ.1 50 7).toInt.toNat = σ.2.2 := by omega
  unfold p9
  show (((s2 φ.1 50 (upd (φ.1 50) 7 (φ.1 50 7 + 1))) 50 7).toInt.toNat, fun r => if r = σ.2.2 then k9_ru σ else φ.2.2.2 r) = ((φ.1 50 7).toInt.toNat + 1, fun i => if i = (φ.1 50 7).toInt.toNat then k9_ru σ else φ.2.2.2 i)
  rw [s2_s, upd_s, e1, e2, show ((φ.1 50 7).toInt + 1).toNat = σ.2.2 + 1 by omega]
theorem itW_ru {len : Int32} {t9 : eS} (hn : len.toInt.toNat = σ.2.1) (te : e_rule σ.1 len.toInt.toNat = .inr t9) (tl : (t9.1 : Int) ≤ len.toInt) (l160 : len.toInt ≤ 160) : itW t9.2 (k9_ru σ) := by
  obtain ⟨b1, b2, b3⟩ := e_rule_ok (q := t9.1) (cd := t9.2) te
  refine ⟨by omega, fun L => ?_⟩
  obtain ⟨o, m, v1, x1⟩ := b3 (fun k => Int32.ofInt (L k))
  refine ⟨m, _, x1, ?_⟩
  unfold k9_ru
  rw [← hn, v1]
end
section
variable {l : Launch} {D : va_G} {tys : List (ClassId × FieldType)} {A : Nat → Prop} {X : State → Prop} {fr lo : Nat} {Q : Option Value → ch_H → Prop} {cA : Nat → ClassId} {Sg : Nat → Option Nat} {h : ch_H} {x : Nat} {σ : aS} {τ : aN} {φ : zP} {aK aV : Nat → Nat}
theorem kU_fault (hT : k_tys tys cA) {so : Int32} (hH : k_H Sg cA Lb h) (sx : Sg x = some 0) (hC : aC cA h x σ) (H : FC cA h x τ φ) {ψ : uP} (Rc : RC cA h x ψ) : tt l D tys A X 40 1120 0 0 mX10_fault (fun _ g => RC cA g x ψ ∧ True) 0 (lv_args 0 [.ref x, .int so]) [] h 0 0 := by
  obtain ⟨hk, ad, I, W, O, hz, rfl, hS, hA, hl⟩ := H.lab hH sx
  obtain ⟨len, at0, fl0, T, e1, e2⟩ := hC.st hH hz
  have s_ : ∀ L, zNC L = true → Sg (ad L) = some (lbC L) := fun L hL => hl L (Or.inl hL)
  obtain ⟨xs2, c2, xl, ty⟩ := hH.obj sx (L := 0) rfl
  have c3 := hz.ob (L := 0) (ts := (zZ 0).2.2.2) rfl rfl
  rw [c2] at c3
  cases c3
  obtain ⟨v13, f13, t13⟩ := ty 13 _ rfl
  obtain ⟨r, rfl, s_r⟩ := k_v.ref t13
  show ww l D tys A X 40 1120 mX10_fault _ 0 [(0, .ref (ad 0)), (1, .int so)] [] h
  by_cases c0 : so.toInt = 0
  · have c_P0 : h (ad 33) = some (.inr (4, [.int (I 33 0), .ref (ad 34), .ref (ad 35), .ref (ad 36), .ref (ad 37), .ref (ad 38), .ref (ad 39), .ref (ad 40), .ref (ad 41)])) := hz.ob (L := 33) rfl rfl
    obtain ⟨u1, u2, u3, HP, -⟩ := pn_at hH (s_ 33 rfl) c_P0
    have hx9 : sgP (ad 1) (ad 19) (ad 33) (ad 34) (ad 35) (ad 36) (ad 37) (ad 38) (ad 39) (ad 40) (ad 41) (ad 0) = 0 := by
      unfold sgP
      rw [if_neg (hz.ne (L1 := 1) rfl rfl (by decide)), if_neg (hz.ne (L1 := 19) rfl rfl (by decide)), if_neg (hz.ne (L1 := 33) rfl rfl (by decide)), if_neg (hz.ne (L1 := 34) rfl rfl (by decide)), if_neg (hz.ne (L1 := 35) rfl rfl (by decide)), if_neg (hz.ne (L1 := 36) rfl rfl (by decide)), if_neg (hz.ne (L1 := 37) rfl rfl (by decide)), if_neg (hz.ne (L1 := 38) rfl rfl (by decide)), if_neg (hz.ne (L1 := 39) rfl rfl (by decide)), if_neg (hz.ne (L1 := 40) rfl rfl (by decide)), if_neg (hz.ne (L1 := 41) rfl rfl (by decide))]
    refine s_fault0 hT c0 (pns_of (s_ 1 rfl) (s_ 19 rfl) (s_ 33 rfl) (s_ 34 rfl) (s_ 35 rfl) (s_ 36 rfl) (s_ 37 rfl) (s_ 38 rfl) (s_ 39 rfl) (s_ 40 rfl) (s_ 41 rfl)) hx9 (by decide) (by decide) c2 (z_fsR (k := 0) (L1 := 1) rfl rfl rfl) (z_fsR (k := 2) (L1 := 33) rfl rfl rfl) f13 T HP (fun h1 at1 fl1 k1 k2 k3 T1 P1 es _ o1 => ?_)
    obtain ⟨ro, f1, f2, f3, f4, f5, f6, f7, f8, c33, d1, d2, d3, d4, d5, d6, d7, d8, -⟩ := rd_ex (fl := (0 : Int32)) (n := 0) (rc := fun _ _ => 0) P1 (fun z => absurd z (by decide)) (fun z => absurd z (by decide))
    have oL : ∀ L, zNC L = true → L ≠ 1 → ¬ (33 ≤ L ∧ L ≤ 41) → h1 (ad L) = h (ad L) := fun L hL n1 n2 => by
      by_cases e : L = 19
      · subst e
        exact o1 _ (by rw [(pns_of (Sg := Sg) (s_ 1 rfl) (s_ 19 rfl) (s_ 33 rfl) (s_ 34 rfl) (s_ 35 rfl) (s_ 36 rfl) (s_ 37 rfl) (s_ 38 rfl) (s_ 39 rfl) (s_ 40 rfl) (s_ 41 rfl)).2.1]; decide)
      · have ne : ∀ M, zNC M = true → L ≠ M → ad L ≠ ad M := fun M hM n9 => hz.ne hL hM n9
        exact o1 _ (sgP_lt (ne 1 rfl n1) (ne 19 rfl e) (ne 33 rfl (by omega)) (ne 34 rfl (by omega)) (ne 35 rfl (by omega)) (ne 36 rfl (by omega)) (ne 37 rfl (by omega)) (ne 38 rfl (by omega)) (ne 39 rfl (by omega)) (ne 40 rfl (by omega)) (ne 41 rfl (by omega)))
    have nsg : ∀ q l1, Sg q = some l1 → (l1 ≠ 1 ∧ l1 ≠ 10 ∧ l1 ≠ 2 ∧ ¬ (11 ≤ l1 ∧ l1 ≤ 18)) → h1 q = h q := fun q l1 hs hn => o1 q (sgP_lt (k_sg_ne hs (s_ 1 rfl) hn.1) (k_sg_ne hs (s_ 19 rfl) hn.2.1) (k_sg_ne hs (s_ 33 rfl) hn.2.2.1) (k_sg_ne hs (s_ 34 rfl) (by show ¬ l1 = 11; omega)) (k_sg_ne hs (s_ 35 rfl) (by show ¬ l1 = 12; omega)) (k_sg_ne hs (s_ 36 rfl) (by show ¬ l1 = 13; omega)) (k_sg_ne hs (s_ 37 rfl) (by show ¬ l1 = 14; omega)) (k_sg_ne hs (s_ 38 rfl) (by show ¬ l1 = 15; omega)) (k_sg_ne hs (s_ 39 rfl) (by show ¬ l1 = 16; omega)) (k_sg_ne hs (s_ 40 rfl) (by show ¬ l1 = 17; omega)) (k_sg_ne hs (s_ 41 rfl) (by show ¬ l1 = 18; omega)))
    exact ⟨Rc.same hH sx (fun a L ha hl9 => nsg a L ha (by omega)), trivial⟩
  · by_cases c1 : so.toInt = 1
    · obtain ⟨k, s, s_k, s_s, R⟩ := T_ru hH s_r
      have st := s_ 1 rfl
      have sb := s_ 19 rfl
      refine s_fault1 hT c1 ⟨T.2.2.1, k_sg_ne s_r st (by decide), k_sg_ne s_k st (by decide), k_sg_ne s_r sb (by decide), k_sg_ne s_k sb (by decide), k_sg_ne s_r s_k (by decide)⟩ (k_sg_ne sx st (by decide)) (k_sg_ne sx s_r (by decide)) (k_sg_ne sx s_k (by decide)) (by decide) (by decide) c2 (z_fsR (k := 0) (L1 := 1) rfl rfl rfl) (z_fsR (k := 2) (L1 := 33) rfl rfl rfl) f13 T R (fun h1 at1 fl1 T1 R1 es o1 => ?_)
      exact ⟨Rc.read hH sx c2 f13 R st R1 o1, trivial⟩
    · exact s_fault2 ⟨c0, c1⟩ (fun v hv => ⟨Rc, trivial⟩)
theorem kU_text (hT : k_TX tys cA A X) (hN : k_NX X) {so : Int32} {seed : Int64} (hH : k_H Sg cA Lb h) (sx : Sg x = some 0) (hC : aC cA h x σ) (H : FC cA h x τ φ) (Rc : RC cA h x (p9 φ)) : tt l D tys A X 44 1300 3 259 mX10_text (fun _ g => RC cA g x (p9 (k9_text so seed σ φ)) ∧ True) 0 (lv_args 0 [.ref x, .int so, .long seed]) [] h 0 0 := by
  obtain ⟨hk, ad, I, W, O, hz, rfl, hS, hA, hl⟩ := H.lab hH sx
  obtain ⟨len, at0, fl0, T, e1, e2⟩ := hC.st hH hz
  have s_ : ∀ L, zNC L = true → Sg (ad L) = some (lbC L) := fun L hL => hl L (Or.inl hL)
  obtain ⟨xs2, c2, xl, ty⟩ := hH.obj sx (L := 0) rfl
  have c3 := hz.ob (L := 0) (ts := (zZ 0).2.2.2) rfl rfl
  rw [c2] at c3
  cases c3
  obtain ⟨v12, f12, t12⟩ := ty 12 _ rfl
  obtain ⟨ra, rfl, s_ra⟩ := k_v.ref t12
  obtain ⟨v13, f13, t13⟩ := ty 13 _ rfl
  obtain ⟨r, rfl, s_r⟩ := k_v.ref t13
  obtain ⟨v14, f14, y14, rfl, r1, r2⟩ := ty 14 _ rfl
  have r1 : 0 ≤ y14.toInt := r1
  have r2 : y14.toInt ≤ 4 := r2
  have e14 : y14 = I 0 14 := by
    have e2 := z_fsI (ad := ad) (f := I 0) (w := W 0) (o := O 0) (ts := (zZ 0).2.2.2) (k := 14) rfl rfl
    rw [f14] at e2
    cases e2
    rfl
  have e15 : y14.toInt = (σ.2.2 : Int) := by
    rw [e14]
    exact e2
  have e7x : I 0 14 = φ.1 50 7 := hS.2.2.2.2.2.2.2.2.2.2
  show tt l D tys A X 44 1300 3 259 mX10_text _ 0 [(0, .ref (ad 0)), (1, .int so), (2, .long seed)] [] h 0 0
  refine tt_iload_n rfl (List.Mem.tail _ (List.Mem.head _)) (tX10_text_0_ok (0, .iload_n 1, 1) (List.mem_of_getElem? (i := 0) rfl)) ?_
  refine tt_if_ne (tgt := 10) (tX10_text_0_ok (1, .ifCond .ne 9, 3) (List.mem_of_getElem? (i := 1) rfl)) rfl (fun b1 => ?_) (fun b1 => ?_)
  · have b1 : ¬ so.toInt = 0 := fun q => b1 ((kn_eq _ _).mpr q)
    have nn : n_text so σ τ = τ := n_text_neg (fun q => b1 q.1)
    refine tt_iload_n rfl (List.Mem.tail _ (List.Mem.head _)) (tX10_text_0_ok (10, .iload_n 1, 1) (List.mem_of_getElem? (i := 6) rfl)) ?_
    refine tt_iconst (v := 1) rfl (tX10_text_0_ok (11, .iconst 1, 1) (List.mem_of_getElem? (i := 7) rfl)) ?_
    refine tt_icmp_ne (tgt := 20) (tX10_text_0_ok (12, .if_icmp .ne 8, 3) (List.mem_of_getElem? (i := 8) rfl)) rfl (fun b2 => ?_) (fun b2 => ?_)
    · have b2 : ¬ so.toInt = 1 := fun q => b2 ((kn_eq _ _).mpr q)
      refine tt_iconst (v := -1) rfl (tX10_text_0_ok (20, .iconst (-1), 1) (List.mem_of_getElem? (i := 12) rfl)) ?_
      refine tt_iret rfl ?_ (by decide) (by decide) (tX10_text_0_ok (21, .ireturn, 1) (List.mem_of_getElem? (i := 13) rfl))
      refine ⟨?_, trivial⟩
      rw [show k9_text so seed σ φ = φ from (if_neg b1).trans (if_neg b2)]
      exact Rc
    · have b2 : so.toInt = 1 := by rw [b2]; rfl
      have kk : k9_text so seed σ φ = k9_rule σ φ := (if_neg b1).trans (if_pos b2)
      obtain ⟨k, s, s_k, s_s, R⟩ := T_ru hH s_r
      refine tt_aload_n rfl (List.Mem.head _) (tX10_text_0_ok (15, .aload_n 0, 1) (List.mem_of_getElem? (i := 9) rfl)) ?_
      obtain ⟨e9, z1, z2, z3, z4, z5⟩ := (cllw_X10 (126, 0, 129) (List.mem_of_getElem? (i := 7) rfl))
      cases z1
      refine tt_callV (M' := mX10_newRule) (As := []) (rest := []) (ci := 9) (fr' := 42) (lo' := 1200) (mc' := 3) (ms' := 259) (tX10_text_0_ok (16, .invokevirtual 126, 3) (List.mem_of_getElem? (i := 10) rfl)) z5 z2 z3 z4 c2 rfl rfl rfl ⟨by decide, by decide⟩ ⟨by decide, by decide⟩ (Nat.le_of_ble_eq_true rfl) (Nat.le_of_ble_eq_true rfl) (t_newRuleX (Q := fun v g => (∃ w9 : Int32, v = some (.int w9)) ∧ RC cA g (ad 0) (p9 (k9_text so seed σ φ))) hT.1 hN hH sx (s_ 1 rfl) (s_ 19 rfl) s_r s_k s_s s_ra c2 (z_fsR (k := 0) (L1 := 1) rfl rfl rfl) f12 f13 f14 ⟨r1, r2⟩ T R (fun g v xs1 nb kb sb fa rc1 t9 a1 te tl c_x1 q12 q13 q14 hrc c_ra0 c_ra R1 Rn nb0 kb0 o => ?_) (fun g v a1 R1 o => ?_)) (fun v1 g H1 => ?_)
      · refine ⟨⟨v, rfl⟩, ?_⟩
        have hn9 : len.toInt.toNat = σ.2.1 := by omega
        have hrb : isRb (sp_rule σ.1 σ.2.1) = true := by rw [← hn9, (e_rule_ok (q := t9.1) (cd := t9.2) te).1]; rfl
        have A := Rc.add (b := 0) hH sx c2 f12 f13 f14 R (s_ 1 rfl) a1 c_x1 q12 q13 q14 hrc c_ra0 c_ra R1 Rn nb0 kb0 (itW_ru hn9 te tl T.2.2.2.2) o
        rw [kk, p9_rule (by rw [← e15, e14, e7x]) (by omega) hrb]
        exact A
      · refine ⟨⟨v, rfl⟩, ?_⟩
        have hn9 : len.toInt.toNat = σ.2.1 := by omega
        have c1 : ¬ (isRb (sp_rule σ.1 σ.2.1) = true ∧ σ.2.2 < 4) := fun z => by
          rcases a1 with p1 | ⟨e9, p1⟩
          · omega
          · have := e_rule_no p1
            rw [hn9] at this
            rw [this] at z
            cases z.1
        rw [kk, show k9_rule σ φ = φ from if_neg c1]
        exact Rc.read hH sx c2 f13 R (s_ 1 rfl) R1 o
      · obtain ⟨⟨w9, rfl⟩, q1⟩ := H1
        exact tt_iret rfl ⟨q1, trivial⟩ (by decide) (by decide) (tX10_text_0_ok (19, .ireturn, 1) (List.mem_of_getElem? (i := 11) rfl))
  · have b1 : so.toInt = 0 := by rw [b1]; rfl
    refine tt_aload_n rfl (List.Mem.head _) (tX10_text_0_ok (4, .aload_n 0, 1) (List.mem_of_getElem? (i := 2) rfl)) ?_
    refine tt_lload_n rfl (List.Mem.tail _ (List.Mem.tail _ (List.Mem.head _))) (tX10_text_0_ok (5, .lload_n 2, 1) (List.mem_of_getElem? (i := 3) rfl)) ?_
    obtain ⟨e9, z1, z2, z3, z4, z5⟩ := (cllw_X10 (122, 0, 130) (List.mem_of_getElem? (i := 4) rfl))
    cases z1
    have kk : k9_text so seed σ φ = k9_town σ seed φ := if_pos b1
    have nn : n_text so σ τ = n_text 0 σ τ := by
      unfold n_text
      rw [b1]
      rfl
    have kc : tt l D tys A X 12 400 0 0 mX10_newTown (fun v g => (∃ w9 : Int32, v = some (.int w9)) ∧ RC cA g (ad 0) (p9 (k9_text so seed σ φ))) 0 [(0, .ref (ad 0)), (1, .long seed)] [] h 0 0 := by
      rw [kk, p9_town]
      obtain ⟨v1, f1, t1⟩ := ty 1 _ rfl
      obtain ⟨rr1, rfl, s_1⟩ := k_v.ref t1
      obtain ⟨v2, f2, t2⟩ := ty 2 _ rfl
      obtain ⟨rr2, rfl, s_2⟩ := k_v.ref t2
      obtain ⟨v3, f3, t3⟩ := ty 3 _ rfl
      obtain ⟨rr3, rfl, s_3⟩ := k_v.ref t3
      obtain ⟨v8, f8, t8⟩ := ty 8 _ rfl
      obtain ⟨rr8, rfl, s_8⟩ := k_v.ref t8
      obtain ⟨v10, f10, t10⟩ := ty 10 _ rfl
      obtain ⟨rr10, rfl, s_10⟩ := k_v.ref t10
      obtain ⟨v11, f11, t11⟩ := ty 11 _ rfl
      obtain ⟨rr11, rfl, s_11⟩ := k_v.ref t11
      exact h_newTown hT.1 (sat_3 hT) (by decide) (by decide) xl (z_fsR (k := 0) (L1 := 1) rfl rfl rfl) f1 f2 f3 f8 f10 f11 sx (s_ 1 rfl) s_1 s_2 s_3 s_8 s_10 s_11 (s_ 19 rfl) hH c2 T (fun g v _ u _ _ _ _ _ => ⟨⟨v, rfl⟩, Rc.U hH u rfl sx⟩)
    refine tt_callV (M' := mX10_newTown) (As := [.long seed]) (rest := []) (ci := 9) (fr' := 12) (lo' := 400) (mc' := 0) (ms' := 0) (tX10_text_0_ok (6, .invokevirtual 122, 3) (List.mem_of_getElem? (i := 4) rfl)) z5 z2 z3 z4 c2 rfl rfl rfl ⟨by decide, by decide⟩ ⟨by decide, by decide⟩ (Nat.le_of_ble_eq_true rfl) (Nat.le_of_ble_eq_true rfl) kc (fun v1 g H1 => ?_)
    obtain ⟨⟨w9, rfl⟩, q1⟩ := H1
    exact tt_iret rfl ⟨q1, trivial⟩ (by decide) (by decide) (tX10_text_0_ok (9, .ireturn, 1) (List.mem_of_getElem? (i := 5) rfl))
end
