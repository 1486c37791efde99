/-! what feed, end, fault do to the TAPE: class and reference -/
noncomputable def o_feed (wa wb wc wd we : Int32) (σ : aS) : aS := if 160 < (σ.2.1 : Int) + sp_need wa wb wc wd we then σ else ((sp_feed wa wb wc wd we (σ.1, σ.2.1)).1, (sp_feed wa wb wc wd we (σ.1, σ.2.1)).2, σ.2.2)
noncomputable def a_feed (wa wb wc wd we : Int32) (σ : aS) (v : Option Value) : Prop := ∃ w : Int32, v = some (.int w) ∧ w.toInt = if 160 < (σ.2.1 : Int) + sp_need wa wb wc wd we then -1 else ((sp_feed wa wb wc wd we (σ.1, σ.2.1)).2 : Int)
/-- what fault answers -/
def sp_fl (r : Nat ⊕ Nat) : Int := match r with
  | .inl e => e
  | .inr _ => -1
theorem sp_is.fl {r : Nat ⊕ Nat} {at0 fl0 : Int32} (h : sp_is r at0 fl0) : fl0.toInt = sp_fl r := by
  cases r with
  | inl e => exact h
  | inr n => exact h.1
noncomputable def v_fault (so : Int32) (σ : aS) : Int := if so.toInt = 0 then sp_fl (sp_town σ.1 σ.2.1).1 else if so.toInt = 1 then sp_fl (sp_rule σ.1 σ.2.1) else -2
noncomputable def a_fault (so : Int32) (σ : aS) (v : Option Value) : Prop := ∃ w : Int32, v = some (.int w) ∧ w.toInt = v_fault so σ
def o_end (n : Int32) (σ : aS) : aS := if 0 ≤ n.toInt ∧ n.toInt ≤ (σ.2.1 : Int) then (σ.1, n.toInt.toNat, σ.2.2) else σ
def a_end (n : Int32) (σ : aS) (v : Option Value) : Prop := ∃ w : Int32, v = some (.int w) ∧ w.toInt = if 0 ≤ n.toInt ∧ n.toInt ≤ (σ.2.1 : Int) then 1 else 0
def isRb (r : Nat ⊕ Nat) : Bool := match r with
  | .inl _ => false
  | .inr _ => true
noncomputable def o_text (so : Int32) (σ : aS) : aS := if so.toInt = 0 then (if isRb (sp_town σ.1 σ.2.1).1 = true then (σ.1, 0, σ.2.2) else σ) else if so.toInt = 1 then (if σ.2.2 < 4 ∧ isRb (sp_rule σ.1 σ.2.1) = true then (σ.1, 0, σ.2.2 + 1) else σ) else σ
/-- what text answers -/
noncomputable def v_text (so : Int32) (σ : aS) : Int := if so.toInt = 0 then (if isRb (sp_town σ.1 σ.2.1).1 = true then ((sp_town σ.1 σ.2.1).2 : Int) else -1) else if so.toInt = 1 then (if σ.2.2 < 4 ∧ isRb (sp_rule σ.1 σ.2.1) = true then (σ.2.2 : Int) else -1) else -1
noncomputable def a_text (so : Int32) (σ : aS) (v : Option Value) : Prop := ∃ w : Int32, v = some (.int w) ∧ w.toInt = v_text so σ
/-- what text makes of the numbers -/
noncomputable def n_text (so : Int32) : oN := fun σ τ => if so.toInt = 0 ∧ isRb (sp_town σ.1 σ.2.1).1 = true then ((sp_town σ.1 σ.2.1).2, 0, 0, 0) else τ
theorem n_text_pos {so : Int32} {σ : aS} {τ : aN} (h0 : so.toInt = 0) (h1 : isRb (sp_town σ.1 σ.2.1).1 = true) : n_text so σ τ = ((sp_town σ.1 σ.2.1).2, 0, 0, 0) := if_pos ⟨h0, h1⟩
theorem n_text_neg {so : Int32} {σ : aS} {τ : aN} (h : ¬ (so.toInt = 0 ∧ isRb (sp_town σ.1 σ.2.1).1 = true)) : n_text so σ τ = τ := if_neg h
section
variable {l : Launch} {D : va_G} {tys : List (ClassId × FieldType)} {A : Nat → Prop} {X : State → Prop} {cA : Nat → ClassId} {x m : Nat} {Sg : Nat → Option Nat} {h h1 : ch_H}
theorem k_H.upd {Lb9 : Nat → k_I} (hH : k_H Sg cA Lb9 h) (o : ∀ a L, Sg a = some L → h1 a = h a ∨ ∃ e, h1 a = some e ∧ k_cell Sg cA (Lb9 L) e) : k_H Sg cA Lb9 h1 := by
  intro a L ha
  rcases o a L ha with q | q
  · rw [q]
    exact hH a L ha
  · exact q
theorem lab_ge {a b L M : Nat} (ha : Sg a = some L) (hb : Sg b = some M) (hl : 50 ≤ L) (hm : M < 50) : a ≠ b := fun e => by
  rw [e, hb] at ha
  cases ha
  omega
theorem k_H.tpe {t b : Nat} {f1 : Nat → Int32} {len1 at1 fl1 : Int32} (hH : k_H Sg cA Lb h) (st : Sg t = some 1) (sb : Sg b = some 10) (T1 : tp0 cA h1 t b f1 len1 at1 fl1) (o : ∀ q, q ≠ t ∧ q ≠ b → h1 q = h q) : k_H Sg cA Lb h1 := by
  refine hH.upd (fun a L ha => ?_)
  by_cases q0 : a = t
  · subst q0
    rw [st] at ha
    cases ha
    exact Or.inr ⟨_, T1.1, Or.inl ⟨rfl, _, rfl, rfl, fun k ty hk => by
      match k, hk with
      | 0, hk => cases hk; exact ⟨_, rfl, b, rfl, sb⟩
      | 1, hk => cases hk; exact ⟨_, rfl, len1, rfl, T1.2.2.2.1, T1.2.2.2.2⟩
      | 2, hk => cases hk; exact ⟨_, rfl, k_v.top _⟩
      | 3, hk => cases hk; exact ⟨_, rfl, k_v.top _⟩⟩⟩
  · by_cases q1 : a = b
    · subst q1
      rw [sb] at ha
      cases ha
      exact Or.inr ⟨_, T1.2.1, Or.inr (Or.inl ⟨rfl, _, rfl, fun i _ => ⟨Int32.minValue_le_toInt _, Int32.toInt_le _⟩⟩)⟩
    · exact Or.inl (o a ⟨q0, q1⟩)
theorem sC_feed_C {Sg : Nat → Option Nat} {h h1 : ch_H} {σ : aS} {wa wb wc wd we : Int32} {xs : List Value} {t b : Nat} {f1 : Nat → Int32} {len rc at0 fl0 len1 v : Int32} (hH : k_H Sg cA Lb h) (sx : Sg x = some 0) (c_x : h x = some (.inr (9, xs))) (f0 : xs[0]? = some (.ref t)) (f14 : xs[14]? = some (.int rc)) (T : tp0 cA h t b σ.1 len at0 fl0) (e1 : len.toInt = (σ.2.1 : Int)) (e2 : rc.toInt = (σ.2.2 : Int)) (T1 : tp0 cA h1 t b f1 len1 at0 fl0) (hh : 160 < len.toInt + sp_need wa wb wc wd we ∧ v.toInt = -1 ∧ f1 = σ.1 ∧ len1 = len ∨ len.toInt + sp_need wa wb wc wd we ≤ 160 ∧ v.toInt = len1.toInt ∧ f1 = (sp_feed wa wb wc wd we (σ.1, len.toInt.toNat)).1 ∧ len1.toInt.toNat = (sp_feed wa wb wc wd we (σ.1, len.toInt.toNat)).2) (o : ∀ q, q ≠ t ∧ q ≠ b → h1 q = h q) (st : Sg t = some 1) (sb : Sg b = some 10) : aC cA h1 x (o_feed wa wb wc wd we σ) := by
  have hn : len.toInt.toNat = σ.2.1 := by omega
  have cx := (o x ⟨k_sg_ne sx st (by decide), k_sg_ne sx sb (by decide)⟩).trans c_x
  unfold o_feed
  rcases hh with ⟨a1, -, rfl, rfl⟩ | ⟨a1, -, rfl, a4⟩
  · rw [if_pos (by omega)]
    exact ⟨xs, t, b, len1, rc, at0, fl0, cx, f0, f14, T1, e1, e2⟩
  · rw [if_neg (by omega)]
    rw [hn] at T1 a4
    have := T1.2.2.2.1
    exact ⟨xs, t, b, len1, rc, at0, fl0, cx, f0, f14, T1, by show len1.toInt = (((sp_feed wa wb wc wd we (σ.1, σ.2.1)).2 : Nat) : Int); omega, e2⟩
theorem sC_feed (hT : k_tys tys cA) {wa wb wc wd we : Int32} : sC l D tys A X cA 1 30 0 0 mX10_feed x [.int wa, .int wb, .int wc, .int wd, .int we] (o_feed wa wb wc wd we) (a_feed wa wb wc wd we) idN noN := by
  intro Sg h σ hH sx hC
  obtain ⟨xs, t, b, len, rc, at0, fl0, c_x, f0, f14, T, e1, e2⟩ := hC
  obtain ⟨st, sb⟩ := aC.sg hH sx c_x f0 T
  have hn : len.toInt.toNat = σ.2.1 := by omega
  show ww l D tys A X 1 30 mX10_feed _ 0 [(0, .ref x), (1, .int wa), (2, .int wb), (3, .int wc), (4, .int wd), (5, .int we)] [] h
  refine s_feed hT (by decide) (by decide) c_x f0 (k_sg_ne sx st (by decide)) (k_sg_ne sx sb (by decide)) T (fun h1 f1 len1 v T1 hh o => ?_)
  refine ⟨Sg, k_H.tpe hH st sb T1 o, sg_le.rf, fun a L ha hl => ⟨ha, o a ⟨lab_ge ha st hl (by decide), lab_ge ha sb hl (by decide)⟩⟩, ?_, nC_id (fun τ H => H.same hH sx (fun a L ha hl => o a ⟨k_sg_ne ha st (by omega), k_sg_ne ha sb (by omega)⟩)), v, rfl, ?_⟩
  · exact sC_feed_C hH sx c_x f0 f14 T e1 e2 T1 hh o st sb
  · rw [hn] at hh
    have := T1.2.2.2.1
    rcases hh with ⟨a1, a2, -, -⟩ | ⟨a1, a2, -, a4⟩
    · rw [if_pos (by omega)]
      exact a2
    · rw [if_neg (by omega)]
      omega
theorem sC_end {n : Int32} : sC l D tys A X cA 1 30 0 0 mX10_end x [.int n] (o_end n) (a_end n) idN noN := by
  intro Sg h σ hH sx hC
  obtain ⟨xs, t, b, len, rc, at0, fl0, c_x, f0, f14, T, e1, e2⟩ := hC
  obtain ⟨st, sb⟩ := aC.sg hH sx c_x f0 T
  show ww l D tys A X 1 30 mX10_end _ 0 [(0, .ref x), (1, .int n)] [] h
  refine s_end c_x f0 (k_sg_ne sx st (by decide)) (k_sg_ne sx sb (by decide)) T (fun h1 len1 v T1 hh o => ?_)
  refine ⟨Sg, k_H.tpe hH st sb T1 o, sg_le.rf, fun a L ha hl => ⟨ha, o a ⟨lab_ge ha st hl (by decide), lab_ge ha sb hl (by decide)⟩⟩, ?_, nC_id (fun τ H => H.same hH sx (fun a L ha hl => o a ⟨k_sg_ne ha st (by omega), k_sg_ne ha sb (by omega)⟩)), ?_⟩
  · have cx := (o x ⟨k_sg_ne sx st (by decide), k_sg_ne sx sb (by decide)⟩).trans c_x
    unfold o_end
    rcases hh with ⟨a1, a2, -, a4⟩ | ⟨a1, -, a4⟩
    · rw [if_pos (by omega)]
      exact ⟨xs, t, b, len1, rc, at0, fl0, cx, f0, f14, T1, by show len1.toInt = ((n.toInt.toNat : Nat) : Int); omega, e2⟩
    · rw [if_neg (by omega)]
      exact ⟨xs, t, b, len1, rc, at0, fl0, cx, f0, f14, T1, by omega, e2⟩
  · refine ⟨v, rfl, ?_⟩
    rcases hh with ⟨a1, a2, a3, -⟩ | ⟨a1, a3, -⟩
    · rw [if_pos (by omega)]
      exact a3
    · rw [if_neg (by omega)]
      exact a3
/-- the class's RULE of label 6 -/
theorem T_ru {r : Nat} (hH : k_H Sg cA Lb h) (s_r : Sg r = some 6) : ∃ k s : Nat, Sg k = some 36 ∧ Sg s = some 37 ∧ ru cA h r k s := by
  obtain ⟨fs, c, fl, ty⟩ := hH.obj s_r (L := 6) rfl
  obtain ⟨v0, f0, t0⟩ := ty 0 _ rfl
  obtain ⟨k, rfl, s_k⟩ := k_v.ref t0
  obtain ⟨v1, f1, t1⟩ := ty 1 _ rfl
  obtain ⟨sz, rfl, z1, z2⟩ := k_v.int t1
  obtain ⟨v2, f2, t2⟩ := ty 2 _ rfl
  obtain ⟨s, rfl, s_s⟩ := k_v.ref t2
  obtain ⟨g, c_k, b⟩ := hH.arr s_k (L := 36) rfl
  have e9 : fs = [.ref k, .int sz, .ref s] := by
    match fs, fl, f0, f1, f2 with
    | [_, _, _], _, f0, f1, f2 =>
      cases f0
      cases f1
      cases f2
      rfl
  subst e9
  exact ⟨k, s, s_k, s_s, g, sz, c, c_k, z1, z2, b⟩
theorem k_H.rule {t b r k s : Nat} {f : Nat → Int32} {len at0 fl0 at1 fl1 : Int32} (hH : k_H Sg cA Lb h) (st : Sg t = some 1) (sb : Sg b = some 10) (sr : Sg r = some 6) (sk : Sg k = some 36) (ss : Sg s = some 37) (T : tp0 cA h t b f len at0 fl0) (T1 : tp cA h1 t b f len at1 fl1) (R1 : ru cA h1 r k s) (R : ru cA h r k s) (o : ∀ q, q ≠ t ∧ q ≠ r ∧ q ≠ k → h1 q = h q) : k_H Sg cA Lb h1 ∧ k_U Sg [(1, 2), (1, 3), (6, 1), (36, 0)] h h1 := by
  obtain ⟨g, sz, r1, r2, r3, r4, r5⟩ := R1
  obtain ⟨g0, sz0, q1, q2, -⟩ := R
  refine ⟨hH.upd (fun a L ha => ?_), fun a L ha => ⟨fun ci fs e => ?_, fun e he hn => ?_⟩⟩
  · by_cases c0 : a = t
    · subst c0
      rw [st] at ha
      cases ha
      exact Or.inr ⟨_, T1.1, Or.inl ⟨rfl, _, rfl, rfl, fun k ty hk => by
        match k, hk with
        | 0, hk => cases hk; exact ⟨_, rfl, b, rfl, sb⟩
        | 1, hk => cases hk; exact ⟨_, rfl, len, rfl, T1.2.2.2.1, T1.2.2.2.2.1⟩
        | 2, hk => cases hk; exact ⟨_, rfl, k_v.top _⟩
        | 3, hk => cases hk; exact ⟨_, rfl, k_v.top _⟩⟩⟩
    · by_cases c1 : a = r
      · subst c1
        rw [sr] at ha
        cases ha
        exact Or.inr ⟨_, r1, Or.inl ⟨rfl, _, rfl, rfl, fun k9 ty hk => by
          match k9, hk with
          | 0, hk => cases hk; exact ⟨_, rfl, k, rfl, sk⟩
          | 1, hk => cases hk; exact ⟨_, rfl, sz, rfl, r3, r4⟩
          | 2, hk => cases hk; exact ⟨_, rfl, s, rfl, ss⟩⟩⟩
      · by_cases c2 : a = k
        · subst c2
          rw [sk] at ha
          cases ha
          exact Or.inr ⟨_, r2, Or.inr (Or.inl ⟨rfl, _, rfl, r5⟩)⟩
        · exact Or.inl (o a ⟨c0, c1, c2⟩)
  · by_cases c0 : a = t
    · subst c0
      rw [T.1] at e
      cases e
      rw [st] at ha
      cases ha
      refine ⟨_, T1.1, fun k9 hk => ?_⟩
      match k9, hk with
      | 0, _ => rfl
      | 1, _ => rfl
      | 2, hk => exact absurd (show (1, 2) ∈ [(1, 2), (1, 3), (6, 1), (36, 0)] by decide) hk
      | 3, hk => exact absurd (show (1, 3) ∈ [(1, 2), (1, 3), (6, 1), (36, 0)] by decide) hk
      | k9 + 4, _ => rfl
    · by_cases c1 : a = r
      · subst c1
        rw [q1] at e
        cases e
        rw [sr] at ha
        cases ha
        refine ⟨_, r1, fun k9 hk => ?_⟩
        match k9, hk with
        | 0, _ => rfl
        | 1, hk => exact absurd (show (6, 1) ∈ [(1, 2), (1, 3), (6, 1), (36, 0)] by decide) hk
        | k9 + 2, _ => rfl
      · have c2 : a ≠ k := fun e9 => by rw [e9, q2] at e; cases e
        exact ⟨fs, by rw [o a ⟨c0, c1, c2⟩]; exact e, fun _ _ => rfl⟩
  · have c0 : a ≠ t := fun e9 => by rw [e9, T.1] at he; cases he
    have c1 : a ≠ r := fun e9 => by rw [e9, q1] at he; cases he
    have c2 : a ≠ k := fun e9 => by
      rw [e9, sk] at ha
      cases ha
      exact hn (by decide)
    rw [o a ⟨c0, c1, c2⟩]
    exact he
/-- what a call leaves of the class's side, by what it may have written -/
theorem sC_of {W : List (Nat × Nat)} {σ : aS} {P8 P9 : Prop} (hn : P8) (hv : P9) (hH : k_H Sg cA Lb h) (sx : Sg x = some 0) (hC : aC cA h x σ) (hw : okC W = true) (hH1 : k_H Sg cA Lb h1) (u : k_U Sg W h h1) : ∃ Sg1, k_H Sg1 cA Lb h1 ∧ sg_le Sg Sg1 ∧ (∀ a L, Sg1 a = some L → 50 ≤ L → Sg a = some L ∧ h1 a = h a) ∧ aC cA h1 x σ ∧ P8 ∧ P9 :=
  ⟨Sg, hH1, sg_le.rf, fun a L ha hl => ⟨ha, k_U.same hH u ha (fun q hq e => by have := (okC.lt hw q hq).1; omega)⟩, aC.U hH hH1 u hw sx hC, hn, hv⟩
theorem sC_fault (hT : k_tys tys cA) {so : Int32} : sC l D tys A X cA 40 1120 0 0 mX10_fault x [.int so] (fun σ => σ) (a_fault so) idN noN := by
  intro Sg h σ hH sx hC
  have hC9 := hC
  obtain ⟨xs, t, b, len, rc, at0, fl0, c_x, f0, f14, T, e1, e2⟩ := hC
  obtain ⟨st, sb⟩ := aC.sg hH sx c_x f0 T
  have hn : len.toInt.toNat = σ.2.1 := by omega
  obtain ⟨xs2, c2, xl, ty⟩ := hH.obj sx (L := 0) rfl
  rw [c_x] at c2
  cases c2
  obtain ⟨v2, f2, t2⟩ := ty 2 _ rfl
  obtain ⟨P, rfl, s_P⟩ := k_v.ref t2
  obtain ⟨v13, f13, t13⟩ := ty 13 _ rfl
  obtain ⟨r, rfl, s_r⟩ := k_v.ref t13
  show ww l D tys A X 40 1120 mX10_fault _ 0 [(0, .ref x), (1, .int so)] [] h
  by_cases c0 : so.toInt = 0
  · obtain ⟨a1, a2, a3, a4, a5, a6, a7, a8, g1, g2, g3, s1, s2, s3, s4, s5, s6, s7, s8, HP⟩ := T_pn hH s_P
    have HP9 := HP
    obtain ⟨⟨ro0, c_P0, -, -⟩, -⟩ := HP9
    have hx9 : sgP t b P a1 a2 a3 a4 a5 a6 a7 a8 x = 0 := by
      unfold sgP
      rw [if_neg (k_sg_ne sx st (by decide)), if_neg (k_sg_ne sx sb (by decide)), if_neg (k_sg_ne sx s_P (by decide)), if_neg (k_sg_ne sx s1 (by decide)), if_neg (k_sg_ne sx s2 (by decide)), if_neg (k_sg_ne sx s3 (by decide)), if_neg (k_sg_ne sx s4 (by decide)), if_neg (k_sg_ne sx s5 (by decide)), if_neg (k_sg_ne sx s6 (by decide)), if_neg (k_sg_ne sx s7 (by decide)), if_neg (k_sg_ne sx s8 (by decide))]
    refine s_fault0 hT c0 (pns_of st sb s_P s1 s2 s3 s4 s5 s6 s7 s8) hx9 (by decide) (by decide) c_x f0 f2 f13 T HP (fun h1 at1 fl1 k1 k2 k3 T1 P1 es _ o1 => ?_)
    obtain ⟨hH1, u1⟩ := T_back hH st sb s_P s1 s2 s3 s4 s5 s6 s7 s8 T.1 c_P0 T1 P1 o1
    exact sC_of (nC_id (fun τ H => H.mod hH sx c_x ((o1 x (sgP_zero sx (Or.inl rfl) (k_sg_ne sx s_P (by decide)) st sb s1 s2 s3 s4 s5 s6 s7 s8)).trans c_x) rfl rfl rfl (fun a P9 f29 ha ne => o1 a (sgP_zero ha (Or.inr (Or.inl rfl)) (by rw [f2] at f29; cases f29; exact ne) st sb s1 s2 s3 s4 s5 s6 s7 s8)) (fun a ha => o1 a (sgP_zero ha (Or.inr (Or.inr rfl)) (k_sg_ne ha s_P (by decide)) st sb s1 s2 s3 s4 s5 s6 s7 s8)))) ⟨fl1, rfl, by unfold v_fault; rw [if_pos c0, ← hn]; exact es.fl⟩ hH sx hC9 (by decide) hH1 u1
  · by_cases c1 : so.toInt = 1
    · obtain ⟨k, s, s_k, s_s, R⟩ := T_ru hH s_r
      refine s_fault1 hT c1 ⟨T.2.2.1, k_sg_ne s_r st (by decide), k_sg_ne s_k st (by decide), k_sg_ne s_r sb (by decide), k_sg_ne s_k sb (by decide), k_sg_ne s_r s_k (by decide)⟩ (k_sg_ne sx st (by decide)) (k_sg_ne sx s_r (by decide)) (k_sg_ne sx s_k (by decide)) (by decide) (by decide) c_x f0 f2 f13 T R (fun h1 at1 fl1 T1 R1 es o1 => ?_)
      obtain ⟨hH1, u1⟩ := k_H.rule hH st sb s_r s_k s_s T T1 R1 R o1
      exact sC_of (nC_id (fun τ H => H.same hH sx (fun a L ha hl => o1 a ⟨k_sg_ne ha st (by omega), k_sg_ne ha s_r (by omega), k_sg_ne ha s_k (by omega)⟩))) ⟨fl1, rfl, by unfold v_fault; rw [if_neg c0, if_pos c1, ← hn]; exact es.fl⟩ hH sx hC9 (by decide) hH1 u1
    · refine s_fault2 ⟨c0, c1⟩ (fun v hv => ?_)
      exact sC_of (nC_id (fun τ H => H)) ⟨v, rfl, by unfold v_fault; rw [if_neg c0, if_neg c1]; exact hv⟩ (W := []) hH sx hC9 rfl hH k_U.rf
end
