/-! RULES: what a text is worth (v_*), what items the class makes of it (e_*), and that these come to the same -/
def vB (z : Int) : Int32 := Int32.ofInt (max (-1000000) (min 1000000 z))
def vO (c : Int) (a b : Int32) : Int32 := if c = 43 then vB (a.toInt + b.toInt) else if c = 45 then vB (a.toInt - b.toInt) else if c = 42 then vB (a.toInt * b.toInt) else if c = 47 then (if b.toInt = 0 then 0 else Int32.ofInt (a.toInt.tdiv b.toInt)) else if c = 61 then (if a = b then 1 else 0) else if c = 60 then (if a.toInt < b.toInt then 1 else 0) else if c = 62 then (if b.toInt < a.toInt then 1 else 0) else if c = 38 then a &&& b else a ||| b
/-- a letter's number -/
def vL (c : Int) : Nat := if c = 112 then 0 else if c = 120 then 1 else if c = 108 then 2 else if c = 104 then 3 else if c = 100 then 4 else if c = 116 then 5 else 6
abbrev vR : Type := Nat ⊕ (Nat × Int32)
abbrev eS : Type := Nat × List Int
def v_bd (r : vR) (g : Nat → Int32 → vR) : vR := match r with | .inl e => .inl e | .inr s => g s.1 s.2
def e_bd (r : Nat ⊕ eS) (g : eS → Nat ⊕ eS) : Nat ⊕ eS := match r with | .inl e => .inl e | .inr s => g s
def v_tk (f : Nat → Int32) (len : Nat) (due : Int) (n : Nat) (v : Int32) : vR := if sp_sg f len (sp_sk f len n) = due then .inr (sp_sk f len n + 1, v) else .inl (sp_sk f len n)
def e_tk (f : Nat → Int32) (len : Nat) (due : Int) (s : eS) : Nat ⊕ eS := if sp_sg f len (sp_sk f len s.1) = due then .inr (sp_sk f len s.1 + 1, s.2) else .inl (sp_sk f len s.1)
def v_nm (r : (Nat ⊕ Nat) × Int) : vR := match r.1 with | .inl e => .inl e | .inr q => .inr (q, Int32.ofInt r.2)
def e_nm (r : (Nat ⊕ Nat) × Int) (its : List Int) : Nat ⊕ eS := match r.1 with | .inl e => .inl e | .inr q => .inr (q, its ++ [r.2])
def v_atom (f : Nat → Int32) (len : Nat) (L : Nat → Int32) (N : Nat → vR) (n : Nat) : vR := if sp_sg f len (sp_sk f len n) = 91 then N (sp_sk f len n) else if sp_let (sp_sg f len (sp_sk f len n)) then .inr (sp_sk f len n + 1, L (vL (sp_sg f len (sp_sk f len n)))) else v_nm (sp_num f len 4 (sp_sk f len n))
def e_atom (f : Nat → Int32) (len : Nat) (N : eS → Nat ⊕ eS) (s : eS) : Nat ⊕ eS := if sp_sg f len (sp_sk f len s.1) = 91 then N (sp_sk f len s.1, s.2) else if sp_let (sp_sg f len (sp_sk f len s.1)) then .inr (sp_sk f len s.1 + 1, s.2 ++ [-1 - (vL (sp_sg f len (sp_sk f len s.1)) : Int)]) else e_nm (sp_num f len 4 (sp_sk f len s.1)) s.2
def v_fi (w : Int) (l t : Int32) : Int32 := if w = 0 then t else vO w l t
def e_fi (w : Int) (its : List Int) : List Int := if w = 0 then its else its ++ [10000 + w]
def v_lpS (f : Nat → Int32) (len : Nat) (G : Nat → vR) : Nat → Int → Int32 → Int32 → Nat → vR
  | 0, w, l, t, n => .inr (n, v_fi w l t)
  | j + 1, w, l, t, n => if sp_sg f len (sp_sk f len n) = 43 ∨ sp_sg f len (sp_sk f len n) = 45 then v_bd (G (sp_sk f len n + 1)) (fun q v => v_lpS f len G j (sp_sg f len (sp_sk f len n)) (v_fi w l t) v q) else if sp_sg f len (sp_sk f len n) = 42 ∨ sp_sg f len (sp_sk f len n) = 47 then v_bd (G (sp_sk f len n + 1)) (fun q v => v_lpS f len G j w l (vO (sp_sg f len (sp_sk f len n)) t v) q) else .inr (sp_sk f len n, v_fi w l t)
def e_lpS (f : Nat → Int32) (len : Nat) (G : eS → Nat ⊕ eS) : Nat → Int → eS → Nat ⊕ eS
  | 0, w, s => .inr (s.1, e_fi w s.2)
  | j + 1, w, s => if sp_sg f len (sp_sk f len s.1) = 43 ∨ sp_sg f len (sp_sk f len s.1) = 45 then e_bd (G (sp_sk f len s.1 + 1, e_fi w s.2)) (e_lpS f len G j (sp_sg f len (sp_sk f len s.1))) else if sp_sg f len (sp_sk f len s.1) = 42 ∨ sp_sg f len (sp_sk f len s.1) = 47 then e_bd (G (sp_sk f len s.1 + 1, s.2)) (fun t => e_lpS f len G j w (t.1, t.2 ++ [10000 + sp_sg f len (sp_sk f len s.1)])) else .inr (sp_sk f len s.1, e_fi w s.2)
def v_sum (f : Nat → Int32) (len : Nat) (L : Nat → Int32) (N : Nat → vR) (n : Nat) : vR := v_bd (v_atom f len L N n) (fun q v => v_lpS f len (v_atom f len L N) 160 0 0 v q)
def e_sum (f : Nat → Int32) (len : Nat) (N : eS → Nat ⊕ eS) (s : eS) : Nat ⊕ eS := e_bd (e_atom f len N s) (e_lpS f len (e_atom f len N) 160 0)
def v_cm (f : Nat → Int32) (len : Nat) (L : Nat → Int32) (N : Nat → vR) (n : Nat) (a : Int32) : vR := if sp_cmp (sp_sg f len (sp_sk f len n)) then v_bd (v_sum f len L N (sp_sk f len n + 1)) (fun q b => .inr (q, vO (sp_sg f len (sp_sk f len n)) a b)) else .inl (sp_sk f len n)
def e_cm (f : Nat → Int32) (len : Nat) (N : eS → Nat ⊕ eS) (s : eS) : Nat ⊕ eS := if sp_cmp (sp_sg f len (sp_sk f len s.1)) then e_bd (e_sum f len N (sp_sk f len s.1 + 1, s.2)) (fun t => .inr (t.1, t.2 ++ [10000 + sp_sg f len (sp_sk f len s.1)])) else .inl (sp_sk f len s.1)
def v_unit (f : Nat → Int32) (len : Nat) (L : Nat → Int32) (N NB NP : Nat → vR) (n : Nat) : vR := if sp_sg f len (sp_sk f len n) = 33 then NB (sp_sk f len n) else if sp_sg f len (sp_sk f len n) = 40 then NP (sp_sk f len n) else v_bd (v_sum f len L N (sp_sk f len n)) (v_cm f len L N)
def e_unit (f : Nat → Int32) (len : Nat) (N NB NP : eS → Nat ⊕ eS) (s : eS) : Nat ⊕ eS := if sp_sg f len (sp_sk f len s.1) = 33 then NB (sp_sk f len s.1, s.2) else if sp_sg f len (sp_sk f len s.1) = 40 then NP (sp_sk f len s.1, s.2) else e_bd (e_sum f len N (sp_sk f len s.1, s.2)) (e_cm f len N)
def v_fo (w : Bool) (l t : Int32) : Int32 := if w = true then l ||| t else t
def e_fo (w : Bool) (its : List Int) : List Int := if w = true then its ++ [10124] else its
def v_lpA (f : Nat → Int32) (len : Nat) (G : Nat → vR) : Nat → Bool → Int32 → Int32 → Nat → vR
  | 0, w, l, t, n => .inr (n, v_fo w l t)
  | j + 1, w, l, t, n => if sp_sg f len (sp_sk f len n) = 124 then v_bd (G (sp_sk f len n + 1)) (fun q v => v_lpA f len G j true (v_fo w l t) v q) else if sp_sg f len (sp_sk f len n) = 38 then v_bd (G (sp_sk f len n + 1)) (fun q v => v_lpA f len G j w l (t &&& v) q) else .inr (sp_sk f len n, v_fo w l t)
def e_lpA (f : Nat → Int32) (len : Nat) (G : eS → Nat ⊕ eS) : Nat → Bool → eS → Nat ⊕ eS
  | 0, w, s => .inr (s.1, e_fo w s.2)
  | j + 1, w, s => if sp_sg f len (sp_sk f len s.1) = 124 then e_bd (G (sp_sk f len s.1 + 1, e_fo w s.2)) (e_lpA f len G j true) else if sp_sg f len (sp_sk f len s.1) = 38 then e_bd (G (sp_sk f len s.1 + 1, s.2)) (fun t => e_lpA f len G j w (t.1, t.2 ++ [10038])) else .inr (sp_sk f len s.1, e_fo w s.2)
def v_cond (f : Nat → Int32) (len : Nat) (L : Nat → Int32) (N NB NP : Nat → vR) (n : Nat) : vR := v_bd (v_unit f len L N NB NP n) (fun q v => v_lpA f len (v_unit f len L N NB NP) 160 false 0 v q)
def e_cond (f : Nat → Int32) (len : Nat) (N NB NP : eS → Nat ⊕ eS) (s : eS) : Nat ⊕ eS := e_bd (e_unit f len N NB NP s) (e_lpA f len (e_unit f len N NB NP) 160 false)
def v_lv (f : Nat → Int32) (len : Nat) (L : Nat → Int32) : Nat → (Nat → vR) × (Nat → vR) × (Nat → vR)
  | 0 => (.inl, .inl, .inl)
  | d + 1 => (fun m => v_bd (v_sum f len L (v_lv f len L d).1 (m + 1)) (v_tk f len 93), fun m => v_bd (v_unit f len L (v_lv f len L d).1 (v_lv f len L d).2.1 (v_lv f len L d).2.2 (m + 1)) (fun q v => .inr (q, 1 - v)), fun m => v_bd (v_cond f len L (v_lv f len L d).1 (v_lv f len L d).2.1 (v_lv f len L d).2.2 (m + 1)) (v_tk f len 41))
def e_lv (f : Nat → Int32) (len : Nat) : Nat → (eS → Nat ⊕ eS) × (eS → Nat ⊕ eS) × (eS → Nat ⊕ eS)
  | 0 => (fun s => .inl s.1, fun s => .inl s.1, fun s => .inl s.1)
  | d + 1 => (fun m => e_bd (e_sum f len (e_lv f len d).1 (m.1 + 1, m.2)) (e_tk f len 93), fun m => e_bd (e_unit f len (e_lv f len d).1 (e_lv f len d).2.1 (e_lv f len d).2.2 (m.1 + 1, m.2)) (fun t => .inr (t.1, t.2 ++ [10033])), fun m => e_bd (e_cond f len (e_lv f len d).1 (e_lv f len d).2.1 (e_lv f len d).2.2 (m.1 + 1, m.2)) (e_tk f len 41))
/-- items worked, with a stack of 64 -/
def rs_1 (L : Nat → Int32) (x : Int) (stk : List Int32) : Option (List Int32) := if x < 10000 then (if stk.length < 64 then some ((if 0 ≤ x then Int32.ofInt x else L (-1 - x).toNat) :: stk) else none) else if x = 10033 then (match stk with | a :: r => some ((1 - a) :: r) | [] => none) else if x = 10059 ∨ x = 10063 then none else match stk with | b :: a :: r => some (vO (x - 10000) a b :: r) | _ => none
def r_r (L : Nat → Int32) : List Int → List Int32 → Option (List Int32)
  | [], stk => some stk
  | x :: c, stk => (rs_1 L x stk).bind (r_r L c)
section
variable {f : Nat → Int32} {len : Nat} {L : Nat → Int32}
theorem vnd_s {d : Nat} {b B : Int} (h : ∀ (n : Nat) (v : Int), 0 ≤ v → v ≤ 10 * b + 9 → (sp_nd f len d n v).2 ≤ B) (hb : b ≤ B) : ∀ (n : Nat) (v : Int), 0 ≤ v → v ≤ b → (sp_nd f len (d + 1) n v).2 ≤ B := fun n v h0 h1 => by
  unfold sp_nd
  by_cases c : sp_isd f len n
  · rw [if_pos c]
    obtain ⟨-, c1, c2⟩ := c
    exact h (n + 1) _ (by omega) (by omega)
  · rw [if_neg c]
    show v ≤ B
    omega
theorem vnd4 (n : Nat) : (sp_nd f len 4 n 0).2 ≤ 9999 :=
  vnd_s (d := 3) (b := 0) (vnd_s (d := 2) (b := 9) (vnd_s (d := 1) (b := 99) (vnd_s (d := 0) (b := 999) (fun _ v _ h => h) (by decide)) (by decide)) (by decide)) (by decide) n 0 (by decide) (by decide)
theorem vnum_b {n q : Nat} {z : Int} (e : sp_num f len 4 n = (.inr q, z)) : 0 ≤ z ∧ z ≤ 9999 ∧ n < q := by
  have hn := sp_num_nn f len 4 n
  rw [e] at hn
  have hk := sp_sk_le f len n
  unfold sp_num at e
  by_cases c : sp_isd f len (sp_sk f len n)
  · rw [if_pos c] at e
    by_cases c2 : sp_isd f len (sp_nd f len 4 (sp_sk f len n) 0).1
    · rw [if_pos c2] at e
      cases e
    · rw [if_neg c2] at e
      cases e
      refine ⟨hn, vnd4 _, ?_⟩
      have h3 : (sp_nd f len 4 (sp_sk f len n) 0).1 = (sp_nd f len 3 (sp_sk f len n + 1) (10 * 0 + ((f (sp_sk f len n)).toInt - 48))).1 := by
        show (sp_nd f len (3 + 1) (sp_sk f len n) 0).1 = _
        rw [sp_nd, if_pos c]
      have h4 := sp_nd_le f len 3 (sp_sk f len n + 1) (10 * 0 + ((f (sp_sk f len n)).toInt - 48))
      omega
  · rw [if_neg c] at e
    cases e
theorem r_r_app : ∀ (c d : List Int) (stk : List Int32), r_r L (c ++ d) stk = (r_r L c stk).bind (r_r L d)
  | [], _, _ => rfl
  | x :: c, d, stk => by
    show (rs_1 L x stk).bind (r_r L (c ++ d)) = ((rs_1 L x stk).bind (r_r L c)).bind (r_r L d)
    cases e : rs_1 L x stk with
    | none => rfl
    | some s =>
      show r_r L (c ++ d) s = (r_r L c s).bind (r_r L d)
      exact r_r_app c d s
theorem r_r_cat {c d : List Int} {stk s1 s2 : List Int32} (h1 : r_r L c stk = some s1) (h2 : r_r L d s1 = some s2) : r_r L (c ++ d) stk = some s2 := by
  rw [r_r_app, h1]
  exact h2
theorem r_r_op {c : Int} {a b : Int32} {stk : List Int32} (h0 : 0 ≤ c) (h1 : ¬ c = 33 ∧ ¬ c = 59 ∧ ¬ c = 63) : r_r L [10000 + c] (b :: a :: stk) = some (vO c a b :: stk) := by
  show (rs_1 L (10000 + c) (b :: a :: stk)).bind (r_r L []) = _
  unfold rs_1
  rw [if_neg (by omega), if_neg (by omega), if_neg (by omega), show 10000 + c - 10000 = c by omega]
  rfl
theorem vO_and (a b : Int32) : vO 38 a b = a &&& b := rfl
theorem vO_or (a b : Int32) : vO 124 a b = a ||| b := rfl
/-- items and worth go together -/
def eV (L : Nat → Int32) (H : Nat) (g : eS → Nat ⊕ eS) (V : Nat → vR) : Prop := ∀ n its, (∃ e, V n = .inl e ∧ g (n, its) = .inl e) ∨ ∃ q v c, V n = .inr (q, v) ∧ g (n, its) = .inr (q, its ++ c) ∧ n + c.length ≤ q ∧ ∀ stk : List Int32, stk.length + H ≤ 64 → r_r L c stk = some (v :: stk)
theorem eV.atom {H : Nat} {N : eS → Nat ⊕ eS} {NV : Nat → vR} (hN : eV L H N NV) (h1 : 1 ≤ H) : eV L H (e_atom f len N) (v_atom f len L NV) := fun n its => by
  have hk := sp_sk_le f len n
  unfold v_atom e_atom
  dsimp only
  by_cases c1 : sp_sg f len (sp_sk f len n) = 91
  · rw [if_pos c1, if_pos c1]
    rcases hN (sp_sk f len n) its with ⟨e, a1, a2⟩ | ⟨q, v, c, a1, a2, a3, a4⟩
    · exact Or.inl ⟨e, a1, a2⟩
    · exact Or.inr ⟨q, v, c, a1, a2, by omega, a4⟩
  · rw [if_neg c1, if_neg c1]
    by_cases c2 : sp_let (sp_sg f len (sp_sk f len n))
    · rw [if_pos c2, if_pos c2]
      refine Or.inr ⟨_, _, _, rfl, rfl, by simp only [List.length_cons, List.length_nil]; omega, fun stk hs => ?_⟩
      show (rs_1 L _ stk).bind (r_r L []) = _
      unfold rs_1
      rw [if_pos (by omega), if_pos (by omega), if_neg (by omega)]
      show some (L (-1 - (-1 - (vL (sp_sg f len (sp_sk f len n)) : Int))).toNat :: stk) = _
      rw [show (-1 - (-1 - (vL (sp_sg f len (sp_sk f len n)) : Int))).toNat = vL (sp_sg f len (sp_sk f len n)) by omega]
    · rw [if_neg c2, if_neg c2]
      have hn := sp_num_nn f len 4 (sp_sk f len n)
      cases e9 : sp_num f len 4 (sp_sk f len n) with
      | mk r z =>
        rw [e9] at hn
        cases r with
        | inl e => exact Or.inl ⟨e, rfl, rfl⟩
        | inr q =>
          have hz : 0 ≤ z ∧ z ≤ 9999 ∧ sp_sk f len n < q := vnum_b e9
          refine Or.inr ⟨q, Int32.ofInt z, [z], rfl, rfl, by simp only [List.length_cons, List.length_nil]; omega, fun stk hs => ?_⟩
          show (rs_1 L z stk).bind (r_r L []) = _
          unfold rs_1
          rw [if_pos (by omega), if_pos (by omega), if_pos hz.1]
          rfl
theorem e_bd_in {r : Nat ⊕ eS} {g : eS → Nat ⊕ eS} {e : Nat} (h : r = .inl e) : e_bd r g = .inl e := by rw [h]; rfl
theorem e_bd_ir {r : Nat ⊕ eS} {g : eS → Nat ⊕ eS} {s : eS} (h : r = .inr s) : e_bd r g = g s := by rw [h]; rfl
theorem v_bd_in {r : vR} {g : Nat → Int32 → vR} {e : Nat} (h : r = .inl e) : v_bd r g = .inl e := by rw [h]; rfl
theorem v_bd_ir {r : vR} {g : Nat → Int32 → vR} {q : Nat} {v : Int32} (h : r = .inr (q, v)) : v_bd r g = g q v := by rw [h]; rfl
/-- the loop of + - * / -/
theorem eV.lpS {H : Nat} {G : eS → Nat ⊕ eS} {GV : Nat → vR} (hG : eV L H G GV) : ∀ (j : Nat) (w : Int) (l t : Int32) (n : Nat) (its : List Int), w = 0 ∨ w = 43 ∨ w = 45 →
    (∃ e, v_lpS f len GV j w l t n = .inl e ∧ e_lpS f len G j w (n, its) = .inl e) ∨ ∃ q v c, v_lpS f len GV j w l t n = .inr (q, v) ∧ e_lpS f len G j w (n, its) = .inr (q, its ++ c) ∧ n + c.length ≤ q + (if w = 0 then 0 else 1) ∧ ∀ stk : List Int32, stk.length + (H + 2) ≤ 64 → r_r L c (t :: (if w = 0 then stk else l :: stk)) = some (v :: stk)
  | 0, w, l, t, n, its, hw => by
    refine Or.inr ⟨n, v_fi w l t, if w = 0 then [] else [10000 + w], rfl, ?_, ?_, fun stk hs => ?_⟩
    · show Sum.inr (n, e_fi w its) = _
      unfold e_fi
      split
      · rw [List.append_nil]
      · rfl
    · split <;> simp
    · unfold v_fi
      split
      · rfl
      · exact r_r_op (by omega) (by omega)
  | j + 1, w, l, t, n, its, hw => by
    have hk := sp_sk_le f len n
    have fin : ∀ stk : List Int32, r_r L (if w = 0 then [] else [10000 + w]) (t :: (if w = 0 then stk else l :: stk)) = some (v_fi w l t :: stk) := fun stk => by
      unfold v_fi
      split
      · rfl
      · exact r_r_op (by omega) (by omega)
    have fie : e_fi w its = its ++ (if w = 0 then [] else [10000 + w]) := by
      unfold e_fi
      split
      · rw [List.append_nil]
      · rfl
    have fil : (if w = 0 then ([] : List Int) else [10000 + w]).length = if w = 0 then 0 else 1 := by split <;> rfl
    unfold v_lpS e_lpS
    dsimp only
    by_cases c1 : sp_sg f len (sp_sk f len n) = 43 ∨ sp_sg f len (sp_sk f len n) = 45
    · rw [if_pos c1, if_pos c1]
      rcases hG (sp_sk f len n + 1) (e_fi w its) with ⟨e, a1, a2⟩ | ⟨q, v, c, a1, a2, a3, a4⟩
      · exact Or.inl ⟨e, v_bd_in a1, e_bd_in a2⟩
      · rw [v_bd_ir a1, e_bd_ir a2]
        have hc0 : ¬ sp_sg f len (sp_sk f len n) = 0 := by omega
        rcases eV.lpS hG j (sp_sg f len (sp_sk f len n)) (v_fi w l t) v q (e_fi w its ++ c) (by omega) with ⟨e, b1, b2⟩ | ⟨q2, v2, c2, b1, b2, b3, b4⟩
        · exact Or.inl ⟨e, b1, b2⟩
        · refine Or.inr ⟨q2, v2, (if w = 0 then [] else [10000 + w]) ++ (c ++ c2), b1, ?_, ?_, fun stk hs => ?_⟩
          · rw [b2, fie]
            simp only [List.append_assoc]
          · rw [if_neg hc0] at b3
            simp only [List.length_append, fil]
            omega
          · have b5 := b4 stk hs
            rw [if_neg hc0] at b5
            refine r_r_cat (fin stk) (r_r_cat (a4 (v_fi w l t :: stk) ?_) b5)
            simp only [List.length_cons]
            omega
    · rw [if_neg c1, if_neg c1]
      by_cases c2 : sp_sg f len (sp_sk f len n) = 42 ∨ sp_sg f len (sp_sk f len n) = 47
      · rw [if_pos c2, if_pos c2]
        rcases hG (sp_sk f len n + 1) its with ⟨e, a1, a2⟩ | ⟨q, v, c, a1, a2, a3, a4⟩
        · exact Or.inl ⟨e, v_bd_in a1, e_bd_in a2⟩
        · rw [v_bd_ir a1, e_bd_ir a2]
          dsimp only
          rcases eV.lpS hG j w l (vO (sp_sg f len (sp_sk f len n)) t v) q (its ++ c ++ [10000 + sp_sg f len (sp_sk f len n)]) hw with ⟨e, b1, b2⟩ | ⟨q2, v2, c2, b1, b2, b3, b4⟩
          · exact Or.inl ⟨e, b1, b2⟩
          · refine Or.inr ⟨q2, v2, c ++ ([10000 + sp_sg f len (sp_sk f len n)] ++ c2), b1, ?_, ?_, fun stk hs => ?_⟩
            · rw [b2]
              simp only [List.append_assoc]
            · simp only [List.length_append, List.length_cons, List.length_nil]
              omega
            · refine r_r_cat (a4 (t :: (if w = 0 then stk else l :: stk)) ?_) (r_r_cat (r_r_op (by omega) (by omega)) (b4 stk hs))
              split <;> (simp only [List.length_cons]; omega)
      · rw [if_neg c2, if_neg c2]
        refine Or.inr ⟨_, _, _, rfl, by rw [fie], by rw [fil]; omega, fun stk hs => fin stk⟩
theorem eV.sum {H : Nat} {N : eS → Nat ⊕ eS} {NV : Nat → vR} (hN : eV L H N NV) (h1 : 1 ≤ H) : eV L (H + 2) (e_sum f len N) (v_sum f len L NV) := fun n its => by
  unfold e_sum v_sum
  rcases hN.atom (f := f) (len := len) h1 n its with ⟨e, a1, a2⟩ | ⟨q, v, c, a1, a2, a3, a4⟩
  · exact Or.inl ⟨e, v_bd_in a1, e_bd_in a2⟩
  · rw [v_bd_ir a1, e_bd_ir a2]
    rcases eV.lpS (f := f) (len := len) (hN.atom (f := f) (len := len) h1) 160 0 0 v q (its ++ c) (Or.inl rfl) with ⟨e, b1, b2⟩ | ⟨q2, v2, c2, b1, b2, b3, b4⟩
    · exact Or.inl ⟨e, b1, b2⟩
    · rw [if_pos rfl] at b3
      refine Or.inr ⟨q2, v2, c ++ c2, b1, by rw [b2, List.append_assoc], by rw [List.length_append]; omega, fun stk hs => r_r_cat (a4 stk (by omega)) (b4 stk hs)⟩
/-- a comparison behind its first sum -/
theorem eV.cm {H : Nat} {N : eS → Nat ⊕ eS} {NV : Nat → vR} (hN : eV L H N NV) (h1 : 1 ≤ H) (n : Nat) (its : List Int) (a : Int32) : (∃ e, v_cm f len L NV n a = .inl e ∧ e_cm f len N (n, its) = .inl e) ∨ ∃ q v c, v_cm f len L NV n a = .inr (q, v) ∧ e_cm f len N (n, its) = .inr (q, its ++ c) ∧ n + c.length ≤ q ∧ ∀ stk : List Int32, stk.length + (H + 3) ≤ 64 → r_r L c (a :: stk) = some (v :: stk) := by
  have hk := sp_sk_le f len n
  unfold v_cm e_cm
  dsimp only
  by_cases c1 : sp_cmp (sp_sg f len (sp_sk f len n))
  · rw [if_pos c1, if_pos c1]
    rcases hN.sum (f := f) (len := len) h1 (sp_sk f len n + 1) its with ⟨e, a1, a2⟩ | ⟨q, v, c, a1, a2, a3, a4⟩
    · exact Or.inl ⟨e, v_bd_in a1, e_bd_in a2⟩
    · rw [v_bd_ir a1, e_bd_ir a2]
      refine Or.inr ⟨q, _, c ++ [10000 + sp_sg f len (sp_sk f len n)], rfl, by rw [List.append_assoc], by simp only [List.length_append, List.length_cons, List.length_nil]; omega, fun stk hs => r_r_cat (a4 (a :: stk) (by simp only [List.length_cons]; omega)) (r_r_op (by omega) (by omega))⟩
  · rw [if_neg c1, if_neg c1]
    exact Or.inl ⟨_, rfl, rfl⟩
theorem eV.unit {H : Nat} {N NB NP : eS → Nat ⊕ eS} {NV NBV NPV : Nat → vR} (hN : eV L H N NV) (hB : eV L H NB NBV) (hP : eV L H NP NPV) (h1 : 1 ≤ H) : eV L (H + 3) (e_unit f len N NB NP) (v_unit f len L NV NBV NPV) := fun n its => by
  have hk := sp_sk_le f len n
  unfold e_unit v_unit
  dsimp only
  by_cases c1 : sp_sg f len (sp_sk f len n) = 33
  · rw [if_pos c1, if_pos c1]
    rcases hB (sp_sk f len n) its with ⟨e, a1, a2⟩ | ⟨q, v, c, a1, a2, a3, a4⟩
    · exact Or.inl ⟨e, a1, a2⟩
    · exact Or.inr ⟨q, v, c, a1, a2, by omega, fun stk hs => a4 stk (by omega)⟩
  · rw [if_neg c1, if_neg c1]
    by_cases c2 : sp_sg f len (sp_sk f len n) = 40
    · rw [if_pos c2, if_pos c2]
      rcases hP (sp_sk f len n) its with ⟨e, a1, a2⟩ | ⟨q, v, c, a1, a2, a3, a4⟩
      · exact Or.inl ⟨e, a1, a2⟩
      · exact Or.inr ⟨q, v, c, a1, a2, by omega, fun stk hs => a4 stk (by omega)⟩
    · rw [if_neg c2, if_neg c2]
      rcases hN.sum (f := f) (len := len) h1 (sp_sk f len n) its with ⟨e, a1, a2⟩ | ⟨q, v, c, a1, a2, a3, a4⟩
      · exact Or.inl ⟨e, v_bd_in a1, e_bd_in a2⟩
      · rw [v_bd_ir a1, e_bd_ir a2]
        rcases hN.cm (f := f) (len := len) h1 q (its ++ c) v with ⟨e, b1, b2⟩ | ⟨q2, v2, c2, b1, b2, b3, b4⟩
        · exact Or.inl ⟨e, b1, b2⟩
        · exact Or.inr ⟨q2, v2, c ++ c2, b1, by rw [b2, List.append_assoc], by rw [List.length_append]; omega, fun stk hs => r_r_cat (a4 stk (by omega)) (b4 stk hs)⟩
/-- the loop of & and | -/
theorem eV.lpA {H : Nat} {G : eS → Nat ⊕ eS} {GV : Nat → vR} (hG : eV L H G GV) : ∀ (j : Nat) (w : Bool) (l t : Int32) (n : Nat) (its : List Int),
    (∃ e, v_lpA f len GV j w l t n = .inl e ∧ e_lpA f len G j w (n, its) = .inl e) ∨ ∃ q v c, v_lpA f len GV j w l t n = .inr (q, v) ∧ e_lpA f len G j w (n, its) = .inr (q, its ++ c) ∧ n + c.length ≤ q + (if w = true then 1 else 0) ∧ ∀ stk : List Int32, stk.length + (H + 2) ≤ 64 → r_r L c (t :: (if w = true then l :: stk else stk)) = some (v :: stk)
  | 0, w, l, t, n, its => by
    refine Or.inr ⟨n, v_fo w l t, if w = true then [10124] else [], rfl, ?_, ?_, fun stk hs => ?_⟩
    · show Sum.inr (n, e_fo w its) = _
      unfold e_fo
      split
      · rfl
      · rw [List.append_nil]
    · split <;> simp
    · unfold v_fo
      split
      · exact r_r_op (c := 124) (by decide) (by decide)
      · rfl
  | j + 1, w, l, t, n, its => by
    have hk := sp_sk_le f len n
    have fin : ∀ stk : List Int32, r_r L (if w = true then [10124] else []) (t :: (if w = true then l :: stk else stk)) = some (v_fo w l t :: stk) := fun stk => by
      unfold v_fo
      split
      · exact r_r_op (c := 124) (by decide) (by decide)
      · rfl
    have fie : e_fo w its = its ++ (if w = true then [10124] else []) := by
      unfold e_fo
      split
      · rfl
      · rw [List.append_nil]
    have fil : (if w = true then ([10124] : List Int) else []).length = if w = true then 1 else 0 := by split <;> rfl
    unfold v_lpA e_lpA
    dsimp only
    by_cases c1 : sp_sg f len (sp_sk f len n) = 124
    · rw [if_pos c1, if_pos c1]
      rcases hG (sp_sk f len n + 1) (e_fo w its) with ⟨e, a1, a2⟩ | ⟨q, v, c, a1, a2, a3, a4⟩
      · exact Or.inl ⟨e, v_bd_in a1, e_bd_in a2⟩
      · rw [v_bd_ir a1, e_bd_ir a2]
        rcases eV.lpA hG j true (v_fo w l t) v q (e_fo w its ++ c) with ⟨e, b1, b2⟩ | ⟨q2, v2, c2, b1, b2, b3, b4⟩
        · exact Or.inl ⟨e, b1, b2⟩
        · refine Or.inr ⟨q2, v2, (if w = true then [10124] else []) ++ (c ++ c2), b1, ?_, ?_, fun stk hs => ?_⟩
          · rw [b2, fie]
            simp only [List.append_assoc]
          · rw [if_pos rfl] at b3
            simp only [List.length_append, fil]
            omega
          · have b5 := b4 stk hs
            rw [if_pos rfl] at b5
            refine r_r_cat (fin stk) (r_r_cat (a4 (v_fo w l t :: stk) ?_) b5)
            simp only [List.length_cons]
            omega
    · rw [if_neg c1, if_neg c1]
      by_cases c2 : sp_sg f len (sp_sk f len n) = 38
      · rw [if_pos c2, if_pos c2]
        rcases hG (sp_sk f len n + 1) its with ⟨e, a1, a2⟩ | ⟨q, v, c, a1, a2, a3, a4⟩
        · exact Or.inl ⟨e, v_bd_in a1, e_bd_in a2⟩
        · rw [v_bd_ir a1, e_bd_ir a2]
          dsimp only
          rcases eV.lpA hG j w l (t &&& v) q (its ++ c ++ [10038]) with ⟨e, b1, b2⟩ | ⟨q2, v2, c2, b1, b2, b3, b4⟩
          · exact Or.inl ⟨e, b1, b2⟩
          · refine Or.inr ⟨q2, v2, c ++ ([10038] ++ c2), b1, ?_, ?_, fun stk hs => ?_⟩
            · rw [b2]
              simp only [List.append_assoc]
            · simp only [List.length_append, List.length_cons, List.length_nil]
              omega
            · refine r_r_cat (a4 (t :: (if w = true then l :: stk else stk)) ?_) (r_r_cat (r_r_op (c := 38) (by decide) (by decide)) (b4 stk hs))
              split <;> (simp only [List.length_cons]; omega)
      · rw [if_neg c2, if_neg c2]
        refine Or.inr ⟨_, _, _, rfl, by rw [fie], by rw [fil]; omega, fun stk hs => fin stk⟩
theorem eV.cond {H : Nat} {N NB NP : eS → Nat ⊕ eS} {NV NBV NPV : Nat → vR} (hN : eV L H N NV) (hB : eV L H NB NBV) (hP : eV L H NP NPV) (h1 : 1 ≤ H) : eV L (H + 5) (e_cond f len N NB NP) (v_cond f len L NV NBV NPV) := fun n its => by
  have hu := eV.unit (f := f) (len := len) hN hB hP h1
  unfold e_cond v_cond
  rcases hu n its with ⟨e, a1, a2⟩ | ⟨q, v, c, a1, a2, a3, a4⟩
  · exact Or.inl ⟨e, v_bd_in a1, e_bd_in a2⟩
  · rw [v_bd_ir a1, e_bd_ir a2]
    rcases eV.lpA (f := f) (len := len) hu 160 false 0 v q (its ++ c) with ⟨e, b1, b2⟩ | ⟨q2, v2, c2, b1, b2, b3, b4⟩
    · exact Or.inl ⟨e, b1, b2⟩
    · rw [if_neg (by decide)] at b3
      refine Or.inr ⟨q2, v2, c ++ c2, b1, by rw [b2, List.append_assoc], by rw [List.length_append]; omega, fun stk hs => r_r_cat (a4 stk (by omega)) (b4 stk (by omega))⟩
theorem eV.mono {H H1 : Nat} {g : eS → Nat ⊕ eS} {V : Nat → vR} (hg : eV L H g V) (h : H ≤ H1) : eV L H1 g V := fun n its => by
  rcases hg n its with ⟨e, a1, a2⟩ | ⟨q, v, c, a1, a2, a3, a4⟩
  · exact Or.inl ⟨e, a1, a2⟩
  · exact Or.inr ⟨q, v, c, a1, a2, a3, fun stk hs => a4 stk (by omega)⟩
/-- the levels -/
theorem eV.lv : ∀ d : Nat, eV L (5 * d + 1) (e_lv f len d).1 (v_lv f len L d).1 ∧ eV L (5 * d + 1) (e_lv f len d).2.1 (v_lv f len L d).2.1 ∧ eV L (5 * d + 1) (e_lv f len d).2.2 (v_lv f len L d).2.2
  | 0 => ⟨fun n _ => Or.inl ⟨n, rfl, rfl⟩, fun n _ => Or.inl ⟨n, rfl, rfl⟩, fun n _ => Or.inl ⟨n, rfl, rfl⟩⟩
  | d + 1 => by
    obtain ⟨h1, h2, h3⟩ := eV.lv d
    have tk : ∀ (due : Int) (q : Nat) (v : Int32) (its : List Int), (∃ e, v_tk f len due q v = .inl e ∧ e_tk f len due (q, its) = .inl e) ∨ ∃ q2, v_tk f len due q v = .inr (q2, v) ∧ e_tk f len due (q, its) = .inr (q2, its) ∧ q ≤ q2 := fun due q v its => by
      have hk := sp_sk_le f len q
      unfold v_tk e_tk
      dsimp only
      by_cases c : sp_sg f len (sp_sk f len q) = due
      · rw [if_pos c, if_pos c]
        exact Or.inr ⟨_, rfl, rfl, by omega⟩
      · rw [if_neg c, if_neg c]
        exact Or.inl ⟨_, rfl, rfl⟩
    refine ⟨fun n its => ?_, fun n its => ?_, fun n its => ?_⟩
    · show (∃ e, v_bd (v_sum f len L (v_lv f len L d).1 (n + 1)) (v_tk f len 93) = .inl e ∧ e_bd (e_sum f len (e_lv f len d).1 (n + 1, its)) (e_tk f len 93) = .inl e) ∨ ∃ q v c, v_bd (v_sum f len L (v_lv f len L d).1 (n + 1)) (v_tk f len 93) = .inr (q, v) ∧ e_bd (e_sum f len (e_lv f len d).1 (n + 1, its)) (e_tk f len 93) = .inr (q, its ++ c) ∧ n + c.length ≤ q ∧ ∀ stk : List Int32, stk.length + (5 * (d + 1) + 1) ≤ 64 → r_r L c stk = some (v :: stk)
      rcases h1.sum (f := f) (len := len) (by omega) (n + 1) its with ⟨e, a1, a2⟩ | ⟨q, v, c, a1, a2, a3, a4⟩
      · exact Or.inl ⟨e, v_bd_in a1, e_bd_in a2⟩
      · rw [v_bd_ir a1, e_bd_ir a2]
        rcases tk 93 q v (its ++ c) with ⟨e, b1, b2⟩ | ⟨q2, b1, b2, b3⟩
        · exact Or.inl ⟨e, b1, b2⟩
        · exact Or.inr ⟨q2, v, c, b1, b2, by omega, fun stk hs => a4 stk (by omega)⟩
    · show (∃ e, v_bd (v_unit f len L (v_lv f len L d).1 (v_lv f len L d).2.1 (v_lv f len L d).2.2 (n + 1)) (fun q v => .inr (q, 1 - v)) = .inl e ∧ e_bd (e_unit f len (e_lv f len d).1 (e_lv f len d).2.1 (e_lv f len d).2.2 (n + 1, its)) (fun t => .inr (t.1, t.2 ++ [10033])) = .inl e) ∨ ∃ q v c, v_bd (v_unit f len L (v_lv f len L d).1 (v_lv f len L d).2.1 (v_lv f len L d).2.2 (n + 1)) (fun q v => .inr (q, 1 - v)) = .inr (q, v) ∧ e_bd (e_unit f len (e_lv f len d).1 (e_lv f len d).2.1 (e_lv f len d).2.2 (n + 1, its)) (fun t => .inr (t.1, t.2 ++ [10033])) = .inr (q, its ++ c) ∧ n + c.length ≤ q ∧ ∀ stk : List Int32, stk.length + (5 * (d + 1) + 1) ≤ 64 → r_r L c stk = some (v :: stk)
      rcases eV.unit (f := f) (len := len) h1 h2 h3 (by omega) (n + 1) its with ⟨e, a1, a2⟩ | ⟨q, v, c, a1, a2, a3, a4⟩
      · exact Or.inl ⟨e, v_bd_in a1, e_bd_in a2⟩
      · rw [v_bd_ir a1, e_bd_ir a2]
        refine Or.inr ⟨q, 1 - v, c ++ [10033], rfl, by rw [List.append_assoc], by simp only [List.length_append, List.length_cons, List.length_nil]; omega, fun stk hs => r_r_cat (a4 stk (by omega)) rfl⟩
    · show (∃ e, v_bd (v_cond f len L (v_lv f len L d).1 (v_lv f len L d).2.1 (v_lv f len L d).2.2 (n + 1)) (v_tk f len 41) = .inl e ∧ e_bd (e_cond f len (e_lv f len d).1 (e_lv f len d).2.1 (e_lv f len d).2.2 (n + 1, its)) (e_tk f len 41) = .inl e) ∨ ∃ q v c, v_bd (v_cond f len L (v_lv f len L d).1 (v_lv f len L d).2.1 (v_lv f len L d).2.2 (n + 1)) (v_tk f len 41) = .inr (q, v) ∧ e_bd (e_cond f len (e_lv f len d).1 (e_lv f len d).2.1 (e_lv f len d).2.2 (n + 1, its)) (e_tk f len 41) = .inr (q, its ++ c) ∧ n + c.length ≤ q ∧ ∀ stk : List Int32, stk.length + (5 * (d + 1) + 1) ≤ 64 → r_r L c stk = some (v :: stk)
      rcases eV.cond (f := f) (len := len) h1 h2 h3 (by omega) (n + 1) its with ⟨e, a1, a2⟩ | ⟨q, v, c, a1, a2, a3, a4⟩
      · exact Or.inl ⟨e, v_bd_in a1, e_bd_in a2⟩
      · rw [v_bd_ir a1, e_bd_ir a2]
        rcases tk 41 q v (its ++ c) with ⟨e, b1, b2⟩ | ⟨q2, b1, b2, b3⟩
        · exact Or.inl ⟨e, b1, b2⟩
        · exact Or.inr ⟨q2, v, c, b1, b2, by omega, fun stk hs => a4 stk (by omega)⟩
end
