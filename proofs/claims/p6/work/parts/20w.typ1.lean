/-! typed heaps: TAPE and plan -/
theorem list4 {fs : List Value} {v0 v1 v2 v3 : Value} (hl : fs.length = 4) (h0 : fs[0]? = some v0) (h1 : fs[1]? = some v1) (h2 : fs[2]? = some v2) (h3 : fs[3]? = some v3) : fs = [v0, v1, v2, v3] := by
  match fs, hl, h0, h1, h2, h3 with
  | [_, _, _, _], _, h0, h1, h2, h3 =>
    cases h0
    cases h1
    cases h2
    cases h3
    rfl
theorem list9 {fs : List Value} {v0 v1 v2 v3 v4 v5 v6 v7 v8 : Value} (hl : fs.length = 9) (h0 : fs[0]? = some v0) (h1 : fs[1]? = some v1) (h2 : fs[2]? = some v2) (h3 : fs[3]? = some v3) (h4 : fs[4]? = some v4) (h5 : fs[5]? = some v5) (h6 : fs[6]? = some v6) (h7 : fs[7]? = some v7) (h8 : fs[8]? = some v8) : fs = [v0, v1, v2, v3, v4, v5, v6, v7, v8] := by
  match fs, hl, h0, h1, h2, h3, h4, h5, h6, h7, h8 with
  | [_, _, _, _, _, _, _, _, _], _, h0, h1, h2, h3, h4, h5, h6, h7, h8 =>
    cases h0
    cases h1
    cases h2
    cases h3
    cases h4
    cases h5
    cases h6
    cases h7
    cases h8
    rfl
def sgP (t b P a1 a2 a3 a4 a5 a6 a7 a8 : Nat) (q : Nat) : Nat := if q = t then 3 else if q = b then 1 else if q = P then 2 else if q = a1 then 11 else if q = a2 then 12 else if q = a3 then 13 else if q = a4 then 14 else if q = a5 then 15 else if q = a6 then 16 else if q = a7 then 17 else if q = a8 then 18 else 0
section
variable {l : Launch} {D : va_G} {tys : List (ClassId × FieldType)} {A : Nat → Prop} {X : State → Prop} {fr lo : Nat} {Q : Option Value → ch_H → Prop} {cA : Nat → ClassId} {Sg : Nat → Option Nat} {Lb9 : Nat → k_I} {h h1 : ch_H} {t b P a1 a2 a3 a4 a5 a6 a7 a8 : Nat} {f g1 g2 g3 : Nat → Int32} {len at1 fl1 : Int32}
theorem pns_of (s_t : Sg t = some 1) (s_b : Sg b = some 10) (s_P : Sg P = some 2) (s_a1 : Sg a1 = some 11) (s_a2 : Sg a2 = some 12) (s_a3 : Sg a3 = some 13) (s_a4 : Sg a4 = some 14) (s_a5 : Sg a5 = some 15) (s_a6 : Sg a6 = some 16) (s_a7 : Sg a7 = some 17) (s_a8 : Sg a8 = some 18) : pns (sgP t b P a1 a2 a3 a4 a5 a6 a7 a8) t b P a1 a2 a3 a4 a5 a6 a7 a8 := ⟨by show (if t = t then 3 else if t = b then 1 else if t = P then 2 else if t = a1 then 11 else if t = a2 then 12 else if t = a3 then 13 else if t = a4 then 14 else if t = a5 then 15 else if t = a6 then 16 else if t = a7 then 17 else if t = a8 then 18 else 0) = 3; rw [if_pos rfl], by show (if b = t then 3 else if b = b then 1 else if b = P then 2 else if b = a1 then 11 else if b = a2 then 12 else if b = a3 then 13 else if b = a4 then 14 else if b = a5 then 15 else if b = a6 then 16 else if b = a7 then 17 else if b = a8 then 18 else 0) = 1; rw [if_neg (k_sg_ne s_b s_t (by decide)), if_pos rfl], by show (if P = t then 3 else if P = b then 1 else if P = P then 2 else if P = a1 then 11 else if P = a2 then 12 else if P = a3 then 13 else if P = a4 then 14 else if P = a5 then 15 else if P = a6 then 16 else if P = a7 then 17 else if P = a8 then 18 else 0) = 2; rw [if_neg (k_sg_ne s_P s_t (by decide)), if_neg (k_sg_ne s_P s_b (by decide)), if_pos rfl], by show (if a1 = t then 3 else if a1 = b then 1 else if a1 = P then 2 else if a1 = a1 then 11 else if a1 = a2 then 12 else if a1 = a3 then 13 else if a1 = a4 then 14 else if a1 = a5 then 15 else if a1 = a6 then 16 else if a1 = a7 then 17 else if a1 = a8 then 18 else 0) = 11; rw [if_neg (k_sg_ne s_a1 s_t (by decide)), if_neg (k_sg_ne s_a1 s_b (by decide)), if_neg (k_sg_ne s_a1 s_P (by decide)), if_pos rfl], by show (if a2 = t then 3 else if a2 = b then 1 else if a2 = P then 2 else if a2 = a1 then 11 else if a2 = a2 then 12 else if a2 = a3 then 13 else if a2 = a4 then 14 else if a2 = a5 then 15 else if a2 = a6 then 16 else if a2 = a7 then 17 else if a2 = a8 then 18 else 0) = 12; rw [if_neg (k_sg_ne s_a2 s_t (by decide)), if_neg (k_sg_ne s_a2 s_b (by decide)), if_neg (k_sg_ne s_a2 s_P (by decide)), if_neg (k_sg_ne s_a2 s_a1 (by decide)), if_pos rfl], by show (if a3 = t then 3 else if a3 = b then 1 else if a3 = P then 2 else if a3 = a1 then 11 else if a3 = a2 then 12 else if a3 = a3 then 13 else if a3 = a4 then 14 else if a3 = a5 then 15 else if a3 = a6 then 16 else if a3 = a7 then 17 else if a3 = a8 then 18 else 0) = 13; rw [if_neg (k_sg_ne s_a3 s_t (by decide)), if_neg (k_sg_ne s_a3 s_b (by decide)), if_neg (k_sg_ne s_a3 s_P (by decide)), if_neg (k_sg_ne s_a3 s_a1 (by decide)), if_neg (k_sg_ne s_a3 s_a2 (by decide)), if_pos rfl], by show (if a4 = t then 3 else if a4 = b then 1 else if a4 = P then 2 else if a4 = a1 then 11 else if a4 = a2 then 12 else if a4 = a3 then 13 else if a4 = a4 then 14 else if a4 = a5 then 15 else if a4 = a6 then 16 else if a4 = a7 then 17 else if a4 = a8 then 18 else 0) = 14; rw [if_neg (k_sg_ne s_a4 s_t (by decide)), if_neg (k_sg_ne s_a4 s_b (by decide)), if_neg (k_sg_ne s_a4 s_P (by decide)), if_neg (k_sg_ne s_a4 s_a1 (by decide)), if_neg (k_sg_ne s_a4 s_a2 (by decide)), if_neg (k_sg_ne s_a4 s_a3 (by decide)), if_pos rfl], by show (if a5 = t then 3 else if a5 = b then 1 else if a5 = P then 2 else if a5 = a1 then 11 else if a5 = a2 then 12 else if a5 = a3 then 13 else if a5 = a4 then 14 else if a5 = a5 then 15 else if a5 = a6 then 16 else if a5 = a7 then 17 else if a5 = a8 then 18 else 0) = 15; rw [if_neg (k_sg_ne s_a5 s_t (by decide)), if_neg (k_sg_ne s_a5 s_b (by decide)), if_neg (k_sg_ne s_a5 s_P (by decide)), if_neg (k_sg_ne s_a5 s_a1 (by decide)), if_neg (k_sg_ne s_a5 s_a2 (by decide)), if_neg (k_sg_ne s_a5 s_a3 (by decide)), if_neg (k_sg_ne s_a5 s_a4 (by decide)), if_pos rfl], by show (if a6 = t then 3 else if a6 = b then 1 else if a6 = P then 2 else if a6 = a1 then 11 else if a6 = a2 then 12 else if a6 = a3 then 13 else if a6 = a4 then 14 else if a6 = a5 then 15 else if a6 = a6 then 16 else if a6 = a7 then 17 else if a6 = a8 then 18 else 0) = 16; rw [if_neg (k_sg_ne s_a6 s_t (by decide)), if_neg (k_sg_ne s_a6 s_b (by decide)), if_neg (k_sg_ne s_a6 s_P (by decide)), if_neg (k_sg_ne s_a6 s_a1 (by decide)), if_neg (k_sg_ne s_a6 s_a2 (by decide)), if_neg (k_sg_ne s_a6 s_a3 (by decide)), if_neg (k_sg_ne s_a6 s_a4 (by decide)), if_neg (k_sg_ne s_a6 s_a5 (by decide)), if_pos rfl], by show (if a7 = t then 3 else if a7 = b then 1 else if a7 = P then 2 else if a7 = a1 then 11 else if a7 = a2 then 12 else if a7 = a3 then 13 else if a7 = a4 then 14 else if a7 = a5 then 15 else if a7 = a6 then 16 else if a7 = a7 then 17 else if a7 = a8 then 18 else 0) = 17; rw [if_neg (k_sg_ne s_a7 s_t (by decide)), if_neg (k_sg_ne s_a7 s_b (by decide)), if_neg (k_sg_ne s_a7 s_P (by decide)), if_neg (k_sg_ne s_a7 s_a1 (by decide)), if_neg (k_sg_ne s_a7 s_a2 (by decide)), if_neg (k_sg_ne s_a7 s_a3 (by decide)), if_neg (k_sg_ne s_a7 s_a4 (by decide)), if_neg (k_sg_ne s_a7 s_a5 (by decide)), if_neg (k_sg_ne s_a7 s_a6 (by decide)), if_pos rfl], by show (if a8 = t then 3 else if a8 = b then 1 else if a8 = P then 2 else if a8 = a1 then 11 else if a8 = a2 then 12 else if a8 = a3 then 13 else if a8 = a4 then 14 else if a8 = a5 then 15 else if a8 = a6 then 16 else if a8 = a7 then 17 else if a8 = a8 then 18 else 0) = 18; rw [if_neg (k_sg_ne s_a8 s_t (by decide)), if_neg (k_sg_ne s_a8 s_b (by decide)), if_neg (k_sg_ne s_a8 s_P (by decide)), if_neg (k_sg_ne s_a8 s_a1 (by decide)), if_neg (k_sg_ne s_a8 s_a2 (by decide)), if_neg (k_sg_ne s_a8 s_a3 (by decide)), if_neg (k_sg_ne s_a8 s_a4 (by decide)), if_neg (k_sg_ne s_a8 s_a5 (by decide)), if_neg (k_sg_ne s_a8 s_a6 (by decide)), if_neg (k_sg_ne s_a8 s_a7 (by decide)), if_pos rfl]⟩
theorem T_pn (hH : k_H Sg cA Lb h) (s_P : Sg P = some 2) : ∃ (a1 a2 a3 a4 a5 a6 a7 a8 : Nat) (g1 g2 g3 : Nat → Int32), Sg a1 = some 11 ∧ Sg a2 = some 12 ∧ Sg a3 = some 13 ∧ Sg a4 = some 14 ∧ Sg a5 = some 15 ∧ Sg a6 = some 16 ∧ Sg a7 = some 17 ∧ Sg a8 = some 18 ∧ pn cA h P a1 a2 a3 a4 a5 a6 a7 a8 g1 g2 g3 := by
  obtain ⟨ps, c_P, pl, ty⟩ := hH.obj s_P (L := 2) rfl
  obtain ⟨u0, e0, r0⟩ := ty 0 _ rfl
  obtain ⟨ro, rfl, ro1, ro2⟩ := k_v.int r0
  obtain ⟨u1, e1, r1⟩ := ty 1 _ rfl
  obtain ⟨a1, rfl, s1⟩ := k_v.ref r1
  obtain ⟨g1, c1, b1⟩ := hH.arr s1 (L := 11) rfl
  obtain ⟨u2, e2, r2⟩ := ty 2 _ rfl
  obtain ⟨a2, rfl, s2⟩ := k_v.ref r2
  obtain ⟨g2, c2, b2⟩ := hH.arr s2 (L := 12) rfl
  obtain ⟨u3, e3, r3⟩ := ty 3 _ rfl
  obtain ⟨a3, rfl, s3⟩ := k_v.ref r3
  obtain ⟨g3, c3, b3⟩ := hH.arr s3 (L := 13) rfl
  obtain ⟨u4, e4, r4⟩ := ty 4 _ rfl
  obtain ⟨a4, rfl, s4⟩ := k_v.ref r4
  obtain ⟨g4, c4, b4⟩ := hH.arr s4 (L := 14) rfl
  obtain ⟨u5, e5, r5⟩ := ty 5 _ rfl
  obtain ⟨a5, rfl, s5⟩ := k_v.ref r5
  obtain ⟨g5, c5, b5⟩ := hH.arr s5 (L := 15) rfl
  obtain ⟨u6, e6, r6⟩ := ty 6 _ rfl
  obtain ⟨a6, rfl, s6⟩ := k_v.ref r6
  obtain ⟨g6, c6, b6⟩ := hH.arr s6 (L := 16) rfl
  obtain ⟨u7, e7, r7⟩ := ty 7 _ rfl
  obtain ⟨a7, rfl, s7⟩ := k_v.ref r7
  obtain ⟨g7, c7, b7⟩ := hH.arr s7 (L := 17) rfl
  obtain ⟨u8, e8, r8⟩ := ty 8 _ rfl
  obtain ⟨a8, rfl, s8⟩ := k_v.ref r8
  obtain ⟨g8, c8, b8⟩ := hH.arr s8 (L := 18) rfl
  have e9 := list9 pl e0 e1 e2 e3 e4 e5 e6 e7 e8
  subst e9
  exact ⟨a1, a2, a3, a4, a5, a6, a7, a8, g1, g2, g3, s1, s2, s3, s4, s5, s6, s7, s8, ⟨ro, c_P, ro1, ro2⟩, c1, c2, c3, ⟨g4, c4⟩, ⟨g5, c5⟩, ⟨g6, c6⟩, ⟨g7, c7⟩, ⟨g8, c8, b8⟩, b2⟩
theorem T_tp (hH : k_H Sg cA Lb9 h) (s_t : Sg t = some 1) (h1 : Lb9 1 = Lb 1) (h10 : Lb9 10 = Lb 10) : ∃ (b : Nat) (f : Nat → Int32) (len at0 fl0 : Int32), Sg b = some 10 ∧ tp0 cA h t b f len at0 fl0 := by
  obtain ⟨ps, c_t, pl, ty⟩ := hH.obj s_t (L := 1) h1
  obtain ⟨u0, e0, r0⟩ := ty 0 _ rfl
  obtain ⟨b, rfl, sb9⟩ := k_v.ref r0
  obtain ⟨u1, e1, r1⟩ := ty 1 _ rfl
  obtain ⟨len, rfl, l1, l2⟩ := k_v.int r1
  obtain ⟨u2, e2, r2⟩ := ty 2 _ rfl
  obtain ⟨at0, rfl, -⟩ := k_v.int r2
  obtain ⟨u3, e3, r3⟩ := ty 3 _ rfl
  obtain ⟨fl0, rfl, -⟩ := k_v.int r3
  obtain ⟨f, c_b, -⟩ := hH.arr sb9 (L := 10) h10
  have e9 := list4 pl e0 e1 e2 e3
  subst e9
  exact ⟨b, f, len, at0, fl0, sb9, c_t, c_b, k_sg_ne sb9 s_t (by decide), l1, l2⟩
theorem T_back {at0 fl0 ro0 : Int32} (hH : k_H Sg cA Lb h) (s_t : Sg t = some 1) (s_b : Sg b = some 10) (s_P : Sg P = some 2) (s_a1 : Sg a1 = some 11) (s_a2 : Sg a2 = some 12) (s_a3 : Sg a3 = some 13) (s_a4 : Sg a4 = some 14) (s_a5 : Sg a5 = some 15) (s_a6 : Sg a6 = some 16) (s_a7 : Sg a7 = some 17) (s_a8 : Sg a8 = some 18) (c_t0 : h t = some (.inr (7, [.ref b, .int len, .int at0, .int fl0]))) (c_P0 : h P = some (.inr (4, .int ro0 :: [.ref a1, .ref a2, .ref a3, .ref a4, .ref a5, .ref a6, .ref a7, .ref a8]))) (H1 : tp cA h1 t b f len at1 fl1) (HP : pn cA h1 P a1 a2 a3 a4 a5 a6 a7 a8 g1 g2 g3) (fr9 : ∀ q, sgP t b P a1 a2 a3 a4 a5 a6 a7 a8 q < 2 → h1 q = h q) : k_H Sg cA Lb h1 ∧ k_U Sg [(1, 2), (1, 3), (2, 0), (11, 0), (12, 0), (13, 0), (14, 0), (15, 0), (16, 0), (17, 0), (18, 0)] h h1 := by
  obtain ⟨c_t, c_b, -, l1, l2, -, -⟩ := H1
  obtain ⟨⟨ro, c_P, ro1, ro2⟩, c1, c2, c3, ⟨g4, c4⟩, ⟨g5, c5⟩, ⟨g6, c6⟩, ⟨g7, c7⟩, ⟨g8, c8, b8⟩, b2⟩ := HP
  have keep : ∀ q, q ≠ t ∧ q ≠ P ∧ q ≠ a1 ∧ q ≠ a2 ∧ q ≠ a3 ∧ q ≠ a4 ∧ q ≠ a5 ∧ q ≠ a6 ∧ q ≠ a7 ∧ q ≠ a8 → h1 q = h q := by
    intro q hq
    refine fr9 q ?_
    unfold sgP
    rw [if_neg hq.1]
    split
    · decide
    · rw [if_neg hq.2.1, if_neg hq.2.2.1, if_neg hq.2.2.2.1, if_neg hq.2.2.2.2.1, if_neg hq.2.2.2.2.2.1, if_neg hq.2.2.2.2.2.2.1, if_neg hq.2.2.2.2.2.2.2.1, if_neg hq.2.2.2.2.2.2.2.2.1, if_neg hq.2.2.2.2.2.2.2.2.2]; decide
  refine ⟨fun a L ha => ?_, fun a L ha => ?_⟩
  · by_cases q0 : a = t
    · subst q0; rw [s_t] at ha; cases ha
      exact ⟨_, c_t, Or.inl ⟨rfl, _, rfl, rfl, fun k ty hk => by
        match k, hk with
        | 0, hk => cases hk; exact ⟨_, rfl, b, rfl, s_b⟩
        | 1, hk => cases hk; exact ⟨_, rfl, len, rfl, l1, l2⟩
        | 2, hk => cases hk; exact ⟨_, rfl, k_v.top _⟩
        | 3, hk => cases hk; exact ⟨_, rfl, k_v.top _⟩⟩⟩
    by_cases q1 : a = P
    · subst q1; rw [s_P] at ha; cases ha
      exact ⟨_, c_P, Or.inl ⟨rfl, _, rfl, rfl, fun k ty hk => by
        match k, hk with
        | 0, hk => cases hk; exact ⟨_, rfl, ro, rfl, ro1, ro2⟩
        | 1, hk => cases hk; exact ⟨_, rfl, a1, rfl, s_a1⟩
        | 2, hk => cases hk; exact ⟨_, rfl, a2, rfl, s_a2⟩
        | 3, hk => cases hk; exact ⟨_, rfl, a3, rfl, s_a3⟩
        | 4, hk => cases hk; exact ⟨_, rfl, a4, rfl, s_a4⟩
        | 5, hk => cases hk; exact ⟨_, rfl, a5, rfl, s_a5⟩
        | 6, hk => cases hk; exact ⟨_, rfl, a6, rfl, s_a6⟩
        | 7, hk => cases hk; exact ⟨_, rfl, a7, rfl, s_a7⟩
        | 8, hk => cases hk; exact ⟨_, rfl, a8, rfl, s_a8⟩⟩⟩
    by_cases q2 : a = a1
    · subst q2; rw [s_a1] at ha; cases ha
      exact ⟨_, c1, Or.inr (Or.inl ⟨rfl, _, rfl, (fun i _ => ⟨Int32.minValue_le_toInt _, Int32.toInt_le _⟩)⟩)⟩
    by_cases q3 : a = a2
    · subst q3; rw [s_a2] at ha; cases ha
      exact ⟨_, c2, Or.inr (Or.inl ⟨rfl, _, rfl, b2⟩)⟩
    by_cases q4 : a = a3
    · subst q4; rw [s_a3] at ha; cases ha
      exact ⟨_, c3, Or.inr (Or.inl ⟨rfl, _, rfl, (fun i _ => ⟨Int32.minValue_le_toInt _, Int32.toInt_le _⟩)⟩)⟩
    by_cases q5 : a = a4
    · subst q5; rw [s_a4] at ha; cases ha
      exact ⟨_, c4, Or.inr (Or.inl ⟨rfl, _, rfl, (fun i _ => ⟨Int32.minValue_le_toInt _, Int32.toInt_le _⟩)⟩)⟩
    by_cases q6 : a = a5
    · subst q6; rw [s_a5] at ha; cases ha
      exact ⟨_, c5, Or.inr (Or.inl ⟨rfl, _, rfl, (fun i _ => ⟨Int32.minValue_le_toInt _, Int32.toInt_le _⟩)⟩)⟩
    by_cases q7 : a = a6
    · subst q7; rw [s_a6] at ha; cases ha
      exact ⟨_, c6, Or.inr (Or.inl ⟨rfl, _, rfl, (fun i _ => ⟨Int32.minValue_le_toInt _, Int32.toInt_le _⟩)⟩)⟩
    by_cases q8 : a = a7
    · subst q8; rw [s_a7] at ha; cases ha
      exact ⟨_, c7, Or.inr (Or.inl ⟨rfl, _, rfl, (fun i _ => ⟨Int32.minValue_le_toInt _, Int32.toInt_le _⟩)⟩)⟩
    by_cases q9 : a = a8
    · subst q9; rw [s_a8] at ha; cases ha
      exact ⟨_, c8, Or.inr (Or.inl ⟨rfl, _, rfl, b8⟩)⟩
    rw [keep a ⟨q0, q1, q2, q3, q4, q5, q6, q7, q8, q9⟩]
    exact hH a L ha
  · refine ⟨fun ci fs2 hc => ?_, fun e he hw => ?_⟩
    · by_cases q0 : a = t
      · subst q0; rw [c_t0] at hc; cases hc; rw [s_t] at ha; cases ha
        refine ⟨_, c_t, fun k hk => ?_⟩
        match k, hk with
        | 0, _ => rfl
        | 1, _ => rfl
        | 2, hk => exact absurd (show (1, 2) ∈ [(1, 2), (1, 3), (2, 0), (11, 0), (12, 0), (13, 0), (14, 0), (15, 0), (16, 0), (17, 0), (18, 0)] by decide) hk
        | 3, hk => exact absurd (show (1, 3) ∈ [(1, 2), (1, 3), (2, 0), (11, 0), (12, 0), (13, 0), (14, 0), (15, 0), (16, 0), (17, 0), (18, 0)] by decide) hk
        | k + 4, _ => rfl
      by_cases q1 : a = P
      · subst q1; rw [c_P0] at hc; cases hc; rw [s_P] at ha; cases ha
        refine ⟨_, c_P, fun k hk => ?_⟩
        match k, hk with
        | 0, hk => exact absurd (show (2, 0) ∈ [(1, 2), (1, 3), (2, 0), (11, 0), (12, 0), (13, 0), (14, 0), (15, 0), (16, 0), (17, 0), (18, 0)] by decide) hk
        | k + 1, _ => rfl
      exact ⟨fs2, by rw [keep a ⟨q0, q1, (fun e9 => by rw [e9] at hc; obtain ⟨z, z1, -⟩ := hH.arr s_a1 (L := 11) rfl; rw [z1] at hc; cases hc), (fun e9 => by rw [e9] at hc; obtain ⟨z, z1, -⟩ := hH.arr s_a2 (L := 12) rfl; rw [z1] at hc; cases hc), (fun e9 => by rw [e9] at hc; obtain ⟨z, z1, -⟩ := hH.arr s_a3 (L := 13) rfl; rw [z1] at hc; cases hc), (fun e9 => by rw [e9] at hc; obtain ⟨z, z1, -⟩ := hH.arr s_a4 (L := 14) rfl; rw [z1] at hc; cases hc), (fun e9 => by rw [e9] at hc; obtain ⟨z, z1, -⟩ := hH.arr s_a5 (L := 15) rfl; rw [z1] at hc; cases hc), (fun e9 => by rw [e9] at hc; obtain ⟨z, z1, -⟩ := hH.arr s_a6 (L := 16) rfl; rw [z1] at hc; cases hc), (fun e9 => by rw [e9] at hc; obtain ⟨z, z1, -⟩ := hH.arr s_a7 (L := 17) rfl; rw [z1] at hc; cases hc), (fun e9 => by rw [e9] at hc; obtain ⟨z, z1, -⟩ := hH.arr s_a8 (L := 18) rfl; rw [z1] at hc; cases hc)⟩]; exact hc, fun _ _ => rfl⟩
    · have q0 : a ≠ t := fun e9 => by rw [e9, c_t0] at he; cases he
      have q1 : a ≠ P := fun e9 => by rw [e9, c_P0] at he; cases he
      rw [keep a ⟨q0, q1, (fun e9 => by rw [e9, s_a1] at ha; cases ha; exact hw (show (11, 0) ∈ [(1, 2), (1, 3), (2, 0), (11, 0), (12, 0), (13, 0), (14, 0), (15, 0), (16, 0), (17, 0), (18, 0)] by decide)), (fun e9 => by rw [e9, s_a2] at ha; cases ha; exact hw (show (12, 0) ∈ [(1, 2), (1, 3), (2, 0), (11, 0), (12, 0), (13, 0), (14, 0), (15, 0), (16, 0), (17, 0), (18, 0)] by decide)), (fun e9 => by rw [e9, s_a3] at ha; cases ha; exact hw (show (13, 0) ∈ [(1, 2), (1, 3), (2, 0), (11, 0), (12, 0), (13, 0), (14, 0), (15, 0), (16, 0), (17, 0), (18, 0)] by decide)), (fun e9 => by rw [e9, s_a4] at ha; cases ha; exact hw (show (14, 0) ∈ [(1, 2), (1, 3), (2, 0), (11, 0), (12, 0), (13, 0), (14, 0), (15, 0), (16, 0), (17, 0), (18, 0)] by decide)), (fun e9 => by rw [e9, s_a5] at ha; cases ha; exact hw (show (15, 0) ∈ [(1, 2), (1, 3), (2, 0), (11, 0), (12, 0), (13, 0), (14, 0), (15, 0), (16, 0), (17, 0), (18, 0)] by decide)), (fun e9 => by rw [e9, s_a6] at ha; cases ha; exact hw (show (16, 0) ∈ [(1, 2), (1, 3), (2, 0), (11, 0), (12, 0), (13, 0), (14, 0), (15, 0), (16, 0), (17, 0), (18, 0)] by decide)), (fun e9 => by rw [e9, s_a7] at ha; cases ha; exact hw (show (17, 0) ∈ [(1, 2), (1, 3), (2, 0), (11, 0), (12, 0), (13, 0), (14, 0), (15, 0), (16, 0), (17, 0), (18, 0)] by decide)), (fun e9 => by rw [e9, s_a8] at ha; cases ha; exact hw (show (18, 0) ∈ [(1, 2), (1, 3), (2, 0), (11, 0), (12, 0), (13, 0), (14, 0), (15, 0), (16, 0), (17, 0), (18, 0)] by decide))⟩]
      exact he
end
