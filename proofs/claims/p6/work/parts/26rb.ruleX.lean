/-! RULES: clauses, and the items worked with their jumps -/
abbrev vQ : Type := Nat ⊕ (Nat × Option Int32)
def q_bd (r : vR) (g : Nat → Int32 → vQ) : vQ := match r with | .inl e => .inl e | .inr s => g s.1 s.2
def v_then (f : Nat → Int32) (len : Nat) (L : Nat → Int32) (N : Nat → vR) (n : Nat) (a : Int32) : vQ := q_bd (v_tk f len 63 n a) (fun q _ => q_bd (v_sum f len L N q) (fun q2 v => .inr (q2, if a = 0 then none else some v)))
def e_then (f : Nat → Int32) (len : Nat) (N : eS → Nat ⊕ eS) (s : eS) : Nat ⊕ eS := e_bd (e_tk f len 63 s) (fun t => e_bd (e_sum f len N (t.1, t.2 ++ [10063, 0])) (fun u => .inr (u.1, (u.2 ++ [10059]).set (t.2.length + 1) ((u.2.length + 1 : Nat) : Int))))
def v_condB (f : Nat → Int32) (len : Nat) (L : Nat → Int32) (N NB NP : Nat → vR) (n : Nat) (a : Int32) : vR := v_bd (v_cm f len L N n a) (fun q v => v_lpA f len (v_unit f len L N NB NP) 160 false 0 v q)
def e_condB (f : Nat → Int32) (len : Nat) (N NB NP : eS → Nat ⊕ eS) (s : eS) : Nat ⊕ eS := e_bd (e_cm f len N s) (e_lpA f len (e_unit f len N NB NP) 160 false)
def v_body2 (f : Nat → Int32) (len : Nat) (L : Nat → Int32) (N NB NP : Nat → vR) (n : Nat) (a : Int32) : vQ := if sp_cmp (sp_sg f len (sp_sk f len n)) then q_bd (v_condB f len L N NB NP (sp_sk f len n) a) (v_then f len L N) else .inr (sp_sk f len n, some a)
def e_body2 (f : Nat → Int32) (len : Nat) (N NB NP : eS → Nat ⊕ eS) (s : eS) : Nat ⊕ eS := if sp_cmp (sp_sg f len (sp_sk f len s.1)) then e_bd (e_condB f len N NB NP (sp_sk f len s.1, s.2)) (e_then f len N) else .inr (sp_sk f len s.1, s.2 ++ [10059])
def v_body (f : Nat → Int32) (len : Nat) (L : Nat → Int32) (N NB NP : Nat → vR) (n : Nat) : vQ := if sp_sg f len (sp_sk f len n) = 33 ∨ sp_sg f len (sp_sk f len n) = 40 then q_bd (v_cond f len L N NB NP (sp_sk f len n)) (v_then f len L N) else q_bd (v_sum f len L N (sp_sk f len n)) (v_body2 f len L N NB NP)
def e_body (f : Nat → Int32) (len : Nat) (N NB NP : eS → Nat ⊕ eS) (s : eS) : Nat ⊕ eS := if sp_sg f len (sp_sk f len s.1) = 33 ∨ sp_sg f len (sp_sk f len s.1) = 40 then e_bd (e_cond f len N NB NP (sp_sk f len s.1, s.2)) (e_then f len N) else e_bd (e_sum f len N (sp_sk f len s.1, s.2)) (e_body2 f len N NB NP)
def v_clause (f : Nat → Int32) (len : Nat) (L : Nat → Int32) (N NB NP : Nat → vR) (n : Nat) : vQ := q_bd (v_tk f len 121 n 0) (fun q _ => q_bd (v_tk f len 58 q 0) (fun q2 _ => v_body f len L N NB NP q2))
def e_clause (f : Nat → Int32) (len : Nat) (N NB NP : eS → Nat ⊕ eS) (s : eS) : Nat ⊕ eS := e_bd (e_tk f len 121 s) (fun t => e_bd (e_tk f len 58 t) (e_body f len N NB NP))
def v_rd (f : Nat → Int32) (len : Nat) (C : Nat → vQ) : Nat → Option Int32 → Nat → vQ
  | 0, fd, n => .inr (n, fd)
  | j + 1, fd, n => match C n with
    | .inl e => .inl e
    | .inr s => if sp_sg f len (sp_sk f len s.1) = 0 then .inr (sp_sk f len s.1, fd.or s.2) else if sp_sg f len (sp_sk f len (sp_sk f len s.1)) = 59 then v_rd f len C j (fd.or s.2) (sp_sk f len (sp_sk f len s.1) + 1) else .inl (sp_sk f len (sp_sk f len s.1))
def e_rd (f : Nat → Int32) (len : Nat) (C : eS → Nat ⊕ eS) : Nat → eS → Nat ⊕ eS
  | 0, s => .inr s
  | j + 1, s => e_bd (C s) (fun t => if sp_sg f len (sp_sk f len t.1) = 0 then .inr (sp_sk f len t.1, t.2) else e_bd (e_tk f len 59 (sp_sk f len t.1, t.2)) (e_rd f len C j))
/-- the items worked from place i -/
def x_go (L : Nat → Int32) (cd : List Int) : Nat → Nat → List Int32 → Option Int32
  | 0, i, _ => if cd.length ≤ i then some 0 else none
  | k + 1, i, stk => match cd[i]? with
    | none => some 0
    | some x => if x = 10059 then (match stk with | a :: _ => some a | [] => none) else if x = 10063 then (match stk with | [a] => if a = 0 then (match cd[i + 1]? with | some j => if (i : Int) + 1 ≤ j then x_go L cd k j.toNat [] else none | none => none) else x_go L cd k (i + 2) [] | _ => none) else match rs_1 L x stk with | some s => x_go L cd k (i + 1) s | none => none
section
variable {f : Nat → Int32} {len : Nat} {L : Nat → Int32} {cd : List Int}
theorem x_su (k i : Nat) (stk : List Int32) : x_go L cd (k + 1) i stk = match cd[i]? with
    | none => some 0
    | some x => if x = 10059 then (match stk with | a :: _ => some a | [] => none) else if x = 10063 then (match stk with | [a] => if a = 0 then (match cd[i + 1]? with | some j => if (i : Int) + 1 ≤ j then x_go L cd k j.toNat [] else none | none => none) else x_go L cd k (i + 2) [] | _ => none) else match rs_1 L x stk with | some s => x_go L cd k (i + 1) s | none => none := by
  rfl
theorem x_one {i : Nat} {x : Int} {stk s : List Int32} (h : cd[i]? = some x) (hs : rs_1 L x stk = some s) (k : Nat) : x_go L cd (k + 1) i stk = x_go L cd k (i + 1) s := by
  have n1 : ¬ x = 10059 := fun e => by
    subst e
    unfold rs_1 at hs
    rw [if_neg (by decide), if_neg (by decide), if_pos (by decide)] at hs
    cases hs
  have n2 : ¬ x = 10063 := fun e => by
    subst e
    unfold rs_1 at hs
    rw [if_neg (by decide), if_neg (by decide), if_pos (by decide)] at hs
    cases hs
  rw [x_su, h]
  dsimp only
  rw [if_neg n1, if_neg n2, hs]
theorem x_line : ∀ (c : List Int) (i : Nat) (stk s : List Int32), r_r L c stk = some s → (∀ j, j < c.length → cd[i + j]? = c[j]?) → ∀ (k : Nat), x_go L cd (k + c.length) i stk = x_go L cd k (i + c.length) s
  | [], i, stk, s, h, _, k => by
    cases h
    rfl
  | x :: c, i, stk, s, h, hc, k => by
    have h0 := hc 0 (by simp)
    rw [Nat.add_zero] at h0
    have h1 : (rs_1 L x stk).bind (r_r L c) = some s := h
    cases e : rs_1 L x stk with
    | none =>
      rw [e] at h1
      cases h1
    | some s1 =>
      rw [e] at h1
      have h1 : r_r L c s1 = some s := h1
      have h2 := x_line c (i + 1) s1 s h1 (fun j hj => by
        have h3 := hc (j + 1) (by simp only [List.length_cons]; omega)
        rw [show i + 1 + j = i + (j + 1) by omega, h3]
        rfl) k
      show x_go L cd (k + (c.length + 1)) i stk = x_go L cd k (i + (c.length + 1)) s
      rw [show k + (c.length + 1) = k + c.length + 1 by omega, x_one h0 e, h2, show i + 1 + c.length = i + (c.length + 1) by omega]
theorem set_mid : ∀ (a b : List Int) (x y z : Int), (a ++ x :: y :: b).set (a.length + 1) z = a ++ x :: z :: b
  | [], _, _, _, _ => rfl
  | h :: a, b, x, y, z => by
    show h :: (a ++ x :: y :: b).set (a.length + 1) z = h :: (a ++ x :: z :: b)
    rw [set_mid a b x y z]
/-- a piece of a longer list -/
theorem mid_at {a c d : List Int} {j : Nat} (h : j < c.length) : (a ++ c ++ d)[a.length + j]? = c[j]? := by
  rw [List.append_assoc, List.getElem?_append_right (by omega), show a.length + j - a.length = j by omega, List.getElem?_append_left h]
/-- a clause: its items, and what working them comes to -/
def cV (L : Nat → Int32) (g : eS → Nat ⊕ eS) (V : Nat → vQ) : Prop := ∀ n its, (∃ e, V n = .inl e ∧ g (n, its) = .inl e) ∨ ∃ q o c, V n = .inr (q, o) ∧ g (n, its) = .inr (q, its ++ c) ∧ n + c.length ≤ q ∧ ∀ d : List Int, ∃ m : Nat, ∀ k : Nat, x_go L (its ++ c ++ d) (k + m) its.length [] = match o with | some v => some v | none => x_go L (its ++ c ++ d) k (its.length + c.length) []
theorem q_bd_in {r : vR} {g : Nat → Int32 → vQ} {e : Nat} (h : r = .inl e) : q_bd r g = .inl e := by rw [h]; rfl
theorem q_bd_ir {r : vR} {g : Nat → Int32 → vQ} {q : Nat} {v : Int32} (h : r = .inr (q, v)) : q_bd r g = g q v := by rw [h]; rfl
theorem tk_both (due : Int) (q : Nat) (v : Int32) (its : List Int) : (∃ e, v_tk f len due q v = .inl e ∧ e_tk f len due (q, its) = .inl e) ∨ ∃ q2, v_tk f len due q v = .inr (q2, v) ∧ e_tk f len due (q, its) = .inr (q2, its) ∧ q + 1 ≤ q2 := by
  have hk := sp_sk_le f len q
  unfold v_tk e_tk
  dsimp only
  by_cases c : sp_sg f len (sp_sk f len q) = due
  · rw [if_pos c, if_pos c]
    exact Or.inr ⟨_, rfl, rfl, by omega⟩
  · rw [if_neg c, if_neg c]
    exact Or.inl ⟨_, rfl, rfl⟩
/-- behind a condition of value a, made by items c0 from its on -/
theorem then_both {H : Nat} {N : eS → Nat ⊕ eS} {NV : Nat → vR} (hN : eV L H N NV) (h1 : 1 ≤ H) (hH : H + 2 ≤ 64) (n : Nat) (its c0 : List Int) (a : Int32) (hc0 : r_r L c0 [] = some [a]) : (∃ e, v_then f len L NV n a = .inl e ∧ e_then f len N (n, its ++ c0) = .inl e) ∨ ∃ q o c, v_then f len L NV n a = .inr (q, o) ∧ e_then f len N (n, its ++ c0) = .inr (q, its ++ (c0 ++ c)) ∧ n + c.length ≤ q + 2 ∧ ∀ d : List Int, ∃ m : Nat, ∀ k : Nat, x_go L (its ++ (c0 ++ c) ++ d) (k + m) its.length [] = match o with | some v => some v | none => x_go L (its ++ (c0 ++ c) ++ d) k (its.length + (c0 ++ c).length) [] := by
  unfold v_then e_then
  rcases tk_both (f := f) (len := len) 63 n a (its ++ c0) with ⟨e, a1, a2⟩ | ⟨q, a1, a2, a3⟩
  · exact Or.inl ⟨e, q_bd_in a1, e_bd_in a2⟩
  · rw [q_bd_ir a1, e_bd_ir a2]
    dsimp only
    rcases hN.sum (f := f) (len := len) h1 q (its ++ c0 ++ [10063, 0]) with ⟨e, b1, b2⟩ | ⟨q2, v, c, b1, b2, b3, b4⟩
    · exact Or.inl ⟨e, q_bd_in b1, e_bd_in b2⟩
    · rw [q_bd_ir b1, e_bd_ir b2]
      dsimp only
      have e9 : (its ++ c0 ++ [10063, 0] ++ c ++ [10059]).set ((its ++ c0).length + 1) (((its ++ c0 ++ [10063, 0] ++ c).length + 1 : Nat) : Int) = its ++ (c0 ++ (10063 :: (((its ++ c0 ++ [10063, 0] ++ c).length + 1 : Nat) : Int) :: (c ++ [10059]))) := by
        have e8 : its ++ c0 ++ [10063, 0] ++ c ++ [10059] = (its ++ c0) ++ 10063 :: 0 :: (c ++ [10059]) := by simp only [List.append_assoc, List.cons_append, List.nil_append]
        rw [e8, set_mid]
        simp only [List.append_assoc]
      obtain ⟨J, eJ⟩ : ∃ J : Nat, J = (its ++ c0 ++ [10063, 0] ++ c).length + 1 := ⟨_, rfl⟩
      have hJ : J = its.length + c0.length + 2 + c.length + 1 := by
        rw [eJ]
        simp only [List.length_append, List.length_cons, List.length_nil]
      rw [← eJ] at e9 ⊢
      refine Or.inr ⟨q2, _, 10063 :: (J : Int) :: (c ++ [10059]), rfl, by rw [e9], by simp only [List.length_append, List.length_cons, List.length_nil]; omega, fun d => ?_⟩
      obtain ⟨C, eC⟩ : ∃ C : List Int, C = c0 ++ 10063 :: (J : Int) :: (c ++ [10059]) := ⟨_, rfl⟩
      have lC : C.length = c0.length + (2 + c.length + 1) := by
        rw [eC]
        simp only [List.length_append, List.length_cons, List.length_nil]
        omega
      rw [← eC]
      have at0 : ∀ j, j < c0.length → (its ++ C ++ d)[its.length + j]? = c0[j]? := fun j hj => by
        rw [mid_at (by omega), eC, List.getElem?_append_left hj]
      have atq : ∀ j, j < 2 + c.length + 1 → (its ++ C ++ d)[its.length + c0.length + j]? = (10063 :: (J : Int) :: (c ++ [10059]))[j]? := fun j hj => by
        rw [show its.length + c0.length + j = its.length + (c0.length + j) by omega, mid_at (by omega), eC, List.getElem?_append_right (by omega), show c0.length + j - c0.length = j by omega]
      have q0 : (its ++ C ++ d)[its.length + c0.length]? = some 10063 := atq 0 (by omega)
      have q1 : (its ++ C ++ d)[its.length + c0.length + 1]? = some (J : Int) := atq 1 (by omega)
      by_cases ca : a = 0
      · refine ⟨1 + c0.length, fun k => ?_⟩
        rw [if_pos ca, show k + (1 + c0.length) = (k + 1) + c0.length by omega, x_line c0 its.length [] [a] hc0 at0, x_su, q0]
        dsimp only
        rw [if_neg (by decide), if_pos rfl, if_pos ca, q1]
        dsimp only
        rw [if_pos (by omega), Int.toNat_natCast, show J = its.length + C.length by omega]
      · refine ⟨(1 + c.length) + 1 + c0.length, fun k => ?_⟩
        rw [if_neg ca, show k + ((1 + c.length) + 1 + c0.length) = (k + (1 + c.length) + 1) + c0.length by omega, x_line c0 its.length [] [a] hc0 at0, x_su, q0]
        dsimp only
        rw [if_neg (by decide), if_pos rfl, if_neg ca, show k + (1 + c.length) = (k + 1) + c.length by omega, x_line c (its.length + c0.length + 2) [] [v] (b4 [] (by simpa using hH)) (fun j hj => by
          rw [show its.length + c0.length + 2 + j = its.length + c0.length + (2 + j) by omega, atq (2 + j) (by omega), show 2 + j = j + 1 + 1 by omega, List.getElem?_cons_succ, List.getElem?_cons_succ, List.getElem?_append_left hj]), x_su, show its.length + c0.length + 2 + c.length = its.length + c0.length + (2 + c.length) by omega, atq (2 + c.length) (by omega), show 2 + c.length = c.length + 1 + 1 by omega, List.getElem?_cons_succ, List.getElem?_cons_succ, List.getElem?_append_right (Nat.le_refl _), Nat.sub_self]
        rfl
/-- .. an unconditional one -/
theorem cV.plain {its c0 : List Int} {a : Int32} (hc0 : r_r L c0 [] = some [a]) (d : List Int) (k : Nat) : x_go L (its ++ (c0 ++ [10059]) ++ d) (k + (1 + c0.length)) its.length [] = some a := by
  have at0 : ∀ j, j < c0.length → (its ++ (c0 ++ [10059]) ++ d)[its.length + j]? = c0[j]? := fun j hj => by
    rw [mid_at (by simp only [List.length_append, List.length_cons, List.length_nil]; omega), List.getElem?_append_left hj]
  have q0 : (its ++ (c0 ++ [10059]) ++ d)[its.length + c0.length]? = some 10059 := by
    rw [mid_at (by simp only [List.length_append, List.length_cons, List.length_nil]; omega), List.getElem?_append_right (Nat.le_refl _), Nat.sub_self]
    rfl
  rw [show k + (1 + c0.length) = (k + 1) + c0.length by omega, x_line c0 its.length [] [a] hc0 at0, x_su, q0]
  rfl
theorem cV.clause {H : Nat} {N NB NP : eS → Nat ⊕ eS} {NV NBV NPV : Nat → vR} (hN : eV L H N NV) (hB : eV L H NB NBV) (hP : eV L H NP NPV) (h1 : 1 ≤ H) (hH : H + 5 ≤ 64) : cV L (e_clause f len N NB NP) (v_clause f len L NV NBV NPV) := fun n its => by
  unfold e_clause v_clause
  rcases tk_both (f := f) (len := len) 121 n 0 its with ⟨e, a1, a2⟩ | ⟨p1, a1, a2, a3⟩
  · exact Or.inl ⟨e, q_bd_in a1, e_bd_in a2⟩
  · rw [q_bd_ir a1, e_bd_ir a2]
    rcases tk_both (f := f) (len := len) 58 p1 0 its with ⟨e, b1, b2⟩ | ⟨p2, b1, b2, b3⟩
    · exact Or.inl ⟨e, q_bd_in b1, e_bd_in b2⟩
    · rw [q_bd_ir b1, e_bd_ir b2]
      have hk := sp_sk_le f len p2
      unfold v_body e_body
      dsimp only
      by_cases c1 : sp_sg f len (sp_sk f len p2) = 33 ∨ sp_sg f len (sp_sk f len p2) = 40
      · rw [if_pos c1, if_pos c1]
        rcases eV.cond (f := f) (len := len) hN hB hP h1 (sp_sk f len p2) its with ⟨e, d1, d2⟩ | ⟨q, v, c, d1, d2, d3, d4⟩
        · exact Or.inl ⟨e, q_bd_in d1, e_bd_in d2⟩
        · rw [q_bd_ir d1, e_bd_ir d2]
          rcases then_both (f := f) (len := len) hN h1 (by omega) q its c v (d4 [] (by simpa using hH)) with ⟨e, g1, g2⟩ | ⟨q2, o, c2, g1, g2, g3, g4⟩
          · exact Or.inl ⟨e, g1, g2⟩
          · exact Or.inr ⟨q2, o, c ++ c2, g1, g2, by rw [List.length_append]; omega, g4⟩
      · rw [if_neg c1, if_neg c1]
        rcases hN.sum (f := f) (len := len) h1 (sp_sk f len p2) its with ⟨e, d1, d2⟩ | ⟨q, v, c, d1, d2, d3, d4⟩
        · exact Or.inl ⟨e, q_bd_in d1, e_bd_in d2⟩
        · rw [q_bd_ir d1, e_bd_ir d2]
          have hk2 := sp_sk_le f len q
          unfold v_body2 e_body2
          dsimp only
          by_cases c2 : sp_cmp (sp_sg f len (sp_sk f len q))
          · rw [if_pos c2, if_pos c2]
            have hu := eV.unit (f := f) (len := len) hN hB hP h1
            unfold v_condB e_condB
            rcases hN.cm (f := f) (len := len) h1 (sp_sk f len q) (its ++ c) v with ⟨e, g1, g2⟩ | ⟨q2, v2, c3, g1, g2, g3, g4⟩
            · exact Or.inl ⟨e, q_bd_in (v_bd_in g1), e_bd_in (e_bd_in g2)⟩
            · rw [v_bd_ir g1, e_bd_ir g2]
              rcases eV.lpA (f := f) (len := len) hu 160 false 0 v2 q2 (its ++ c ++ c3) with ⟨e, i1, i2⟩ | ⟨q3, v3, c4, i1, i2, i3, i4⟩
              · exact Or.inl ⟨e, q_bd_in i1, e_bd_in i2⟩
              · rw [if_neg (by decide)] at i3
                rw [q_bd_ir i1, e_bd_ir i2, show its ++ c ++ c3 ++ c4 = its ++ (c ++ c3 ++ c4) by simp only [List.append_assoc]]
                have hr : r_r L (c ++ c3 ++ c4) [] = some [v3] := r_r_cat (r_r_cat (d4 [] (by simp only [List.length_nil]; omega)) (g4 [] (by simp only [List.length_nil]; omega))) (i4 [] (by simp only [List.length_nil]; omega))
                rcases then_both (f := f) (len := len) hN h1 (by omega) q3 its (c ++ c3 ++ c4) v3 hr with ⟨e, j1, j2⟩ | ⟨q4, o, c5, j1, j2, j3, j4⟩
                · exact Or.inl ⟨e, j1, j2⟩
                · exact Or.inr ⟨q4, o, c ++ c3 ++ c4 ++ c5, j1, j2, by simp only [List.length_append]; omega, j4⟩
          · rw [if_neg c2, if_neg c2]
            refine Or.inr ⟨_, some v, c ++ [10059], rfl, by rw [List.append_assoc], by simp only [List.length_append, List.length_cons, List.length_nil]; omega, fun d => ⟨1 + c.length, fun k => cV.plain (d4 [] (by simp only [List.length_nil]; omega)) d k⟩⟩
/-- once found, that stays -/
theorem v_rd_some {C : Nat → vQ} {v : Int32} : ∀ (j n q : Nat) (o : Option Int32), v_rd f len C j (some v) n = .inr (q, o) → o = some v
  | 0, n, q, o, h => by
    cases h
    rfl
  | j + 1, n, q, o, h => by
    unfold v_rd at h
    cases e : C n with
    | inl z =>
      rw [e] at h
      cases h
    | inr s =>
      rw [e] at h
      dsimp only at h
      have e2 : (some v).or s.2 = some v := rfl
      rw [e2] at h
      by_cases c1 : sp_sg f len (sp_sk f len s.1) = 0
      · rw [if_pos c1] at h
        cases h
        rfl
      · rw [if_neg c1] at h
        by_cases c2 : sp_sg f len (sp_sk f len (sp_sk f len s.1)) = 59
        · rw [if_pos c2] at h
          exact v_rd_some j _ q o h
        · rw [if_neg c2] at h
          cases h
/-- all clauses -/
theorem rd_both {C : eS → Nat ⊕ eS} {CV : Nat → vQ} (hC : cV L C CV) : ∀ (j : Nat) (fd : Option Int32) (n : Nat) (its : List Int), (∃ e, v_rd f len CV j fd n = .inl e ∧ e_rd f len C j (n, its) = .inl e) ∨ ∃ q o c, v_rd f len CV j fd n = .inr (q, o) ∧ e_rd f len C j (n, its) = .inr (q, its ++ c) ∧ n + c.length ≤ q ∧ (fd = none → ∃ m, ∀ k, x_go L (its ++ c) (k + m) its.length [] = some (o.getD 0))
  | 0, fd, n, its => by
    refine Or.inr ⟨n, fd, [], rfl, by rw [List.append_nil]; rfl, by simp, fun h => ⟨1, fun k => ?_⟩⟩
    subst h
    rw [List.append_nil, x_su, List.getElem?_eq_none (Nat.le_refl _)]
    rfl
  | j + 1, fd, n, its => by
    unfold v_rd e_rd
    rcases hC n its with ⟨e, a1, a2⟩ | ⟨q, o, c, a1, a2, a3, a4⟩
    · rw [a1, a2]
      exact Or.inl ⟨e, rfl, rfl⟩
    · rw [a1, e_bd_ir a2]
      dsimp only
      have hk := sp_sk_le f len q
      by_cases c1 : sp_sg f len (sp_sk f len q) = 0
      · rw [if_pos c1, if_pos c1]
        refine Or.inr ⟨_, _, c, rfl, rfl, by omega, fun h => ?_⟩
        subst h
        obtain ⟨m, hm⟩ := a4 []
        refine ⟨m + 1, fun k => ?_⟩
        have h9 := hm (k + 1)
        rw [List.append_nil] at h9
        rw [show k + (m + 1) = k + 1 + m by omega, h9]
        cases o with
        | some v => rfl
        | none =>
          show x_go L (its ++ c) (k + 1) (its.length + c.length) [] = some 0
          rw [x_su, List.getElem?_eq_none (by rw [List.length_append]; exact Nat.le_refl _)]
      · rw [if_neg c1, if_neg c1]
        unfold e_tk
        dsimp only
        have hk2 := sp_sk_le f len (sp_sk f len q)
        by_cases c2 : sp_sg f len (sp_sk f len (sp_sk f len q)) = 59
        · rw [if_pos c2, if_pos c2]
          show (∃ e, v_rd f len CV j (fd.or o) (sp_sk f len (sp_sk f len q) + 1) = .inl e ∧ e_rd f len C j (sp_sk f len (sp_sk f len q) + 1, its ++ c) = .inl e) ∨ ∃ q2 o2 c2, v_rd f len CV j (fd.or o) (sp_sk f len (sp_sk f len q) + 1) = .inr (q2, o2) ∧ e_rd f len C j (sp_sk f len (sp_sk f len q) + 1, its ++ c) = .inr (q2, its ++ c2) ∧ n + c2.length ≤ q2 ∧ (fd = none → ∃ m, ∀ k, x_go L (its ++ c2) (k + m) its.length [] = some (o2.getD 0))
          rcases rd_both hC j (fd.or o) (sp_sk f len (sp_sk f len q) + 1) (its ++ c) with ⟨e, b1, b2⟩ | ⟨q2, o2, c2', b1, b2, b3, b4⟩
          · exact Or.inl ⟨e, b1, b2⟩
          · refine Or.inr ⟨q2, o2, c ++ c2', b1, by rw [b2, List.append_assoc], by rw [List.length_append]; omega, fun h => ?_⟩
            subst h
            obtain ⟨m, hm⟩ := a4 c2'
            rw [← List.append_assoc]
            cases o with
            | some v =>
              have e9 := v_rd_some j _ q2 o2 b1
              subst e9
              exact ⟨m, fun k => hm k⟩
            | none =>
              obtain ⟨m2, hm2⟩ := b4 rfl
              refine ⟨m2 + m, fun k => ?_⟩
              rw [show k + (m2 + m) = k + m2 + m by omega, hm (k + m2)]
              show x_go L (its ++ c ++ c2') (k + m2) (its.length + c.length) [] = some (o2.getD 0)
              rw [← List.length_append]
              exact hm2 k
        · rw [if_neg c2, if_neg c2]
          exact Or.inl ⟨_, rfl, rfl⟩
/-- a RULE's text -/
def v_rule (f : Nat → Int32) (len : Nat) (L : Nat → Int32) : vQ := v_rd f len (v_clause f len L (v_lv f len L 6).1 (v_lv f len L 6).2.1 (v_lv f len L 6).2.2) 161 none 0
def e_rule (f : Nat → Int32) (len : Nat) : Nat ⊕ eS := e_rd f len (e_clause f len (e_lv f len 6).1 (e_lv f len 6).2.1 (e_lv f len 6).2.2) 161 (0, [])
theorem rule_both (L : Nat → Int32) : (∃ e, v_rule f len L = .inl e ∧ e_rule f len = .inl e) ∨ ∃ q o cd, v_rule f len L = .inr (q, o) ∧ e_rule f len = .inr (q, cd) ∧ cd.length ≤ q ∧ ∃ m, x_go L cd m 0 [] = some (o.getD 0) := by
  obtain ⟨h1, h2, h3⟩ := eV.lv (f := f) (len := len) (L := L) 6
  rcases rd_both (f := f) (len := len) (cV.clause (f := f) (len := len) h1 h2 h3 (by decide) (by decide)) 161 none 0 [] with ⟨e, a1, a2⟩ | ⟨q, o, c, a1, a2, a3, a4⟩
  · exact Or.inl ⟨e, a1, a2⟩
  · obtain ⟨m, hm⟩ := a4 rfl
    have h9 := hm 0
    rw [Nat.zero_add] at h9
    exact Or.inr ⟨q, o, c, a1, a2, by omega, m, h9⟩
end
