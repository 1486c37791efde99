/-! RULES: the worth stands where the reading ends; no FAULT in one, none in the other -/
def vpo (r : vR) : Nat ⊕ Nat := match r with | .inl e => .inl e | .inr s => .inr s.1
def vpq (r : vQ) : Nat ⊕ Nat := match r with | .inl e => .inl e | .inr s => .inr s.1
section
variable {f : Nat → Int32} {len : Nat} {L : Nat → Int32}
theorem vpo_bd {r : vR} {p : Nat ⊕ Nat} {g : Nat → Int32 → vR} {G : Nat → Nat ⊕ Nat} (h : vpo r = p) (hg : ∀ q v, vpo (g q v) = G q) : vpo (v_bd r g) = sp_bd p G := by
  subst h
  cases r with
  | inl e => rfl
  | inr s => exact hg s.1 s.2
theorem vpq_bd {r : vR} {p : Nat ⊕ Nat} {g : Nat → Int32 → vQ} {G : Nat → Nat ⊕ Nat} (h : vpo r = p) (hg : ∀ q v, vpq (g q v) = G q) : vpq (q_bd r g) = sp_bd p G := by
  subst h
  cases r with
  | inl e => rfl
  | inr s => exact hg s.1 s.2
theorem vpo_tk {due : Int} {n : Nat} {v : Int32} : vpo (v_tk f len due n v) = sp_tk f len due n := by
  unfold v_tk sp_tk
  split <;> rfl
theorem vpo_nm (r : (Nat ⊕ Nat) × Int) : vpo (v_nm r) = r.1 := by
  obtain ⟨a, z⟩ := r
  cases a <;> rfl
theorem vpo_atom {NV : Nat → vR} {N : Nat → Nat ⊕ Nat} (hN : ∀ n, vpo (NV n) = N n) (n : Nat) : vpo (v_atom f len L NV n) = sp_atom f len N n := by
  unfold v_atom sp_atom
  split
  · exact hN _
  · split
    · rfl
    · exact vpo_nm _
theorem vpo_lpS {GV : Nat → vR} {G : Nat → Nat ⊕ Nat} (hG : ∀ n, vpo (GV n) = G n) : ∀ (j : Nat) (w : Int) (l t : Int32) (n : Nat), vpo (v_lpS f len GV j w l t n) = sp_loop f len sp_pl G j n
  | 0, w, l, t, n => rfl
  | j + 1, w, l, t, n => by
    rw [v_lpS_su, sp_loop]
    by_cases c1 : sp_sg f len (sp_sk f len n) = 43 ∨ sp_sg f len (sp_sk f len n) = 45
    · rw [if_pos c1, if_pos (by unfold sp_pl; rcases c1 with e | e <;> rw [e] <;> rfl)]
      exact vpo_bd (hG _) (fun q v => vpo_lpS hG j _ _ _ q)
    · rw [if_neg c1]
      by_cases c2 : sp_sg f len (sp_sk f len n) = 42 ∨ sp_sg f len (sp_sk f len n) = 47
      · rw [if_pos c2, if_pos (by unfold sp_pl; rcases c2 with e | e <;> rw [e] <;> rfl)]
        exact vpo_bd (hG _) (fun q v => vpo_lpS hG j _ _ _ q)
      · rw [if_neg c2, if_neg (fun z => by unfold sp_pl at z; simp only [Bool.or_eq_true, beq_iff_eq] at z; omega)]
        rfl
theorem vpo_lpA {GV : Nat → vR} {G : Nat → Nat ⊕ Nat} (hG : ∀ n, vpo (GV n) = G n) : ∀ (j : Nat) (w : Bool) (l t : Int32) (n : Nat), vpo (v_lpA f len GV j w l t n) = sp_loop f len sp_an G j n
  | 0, w, l, t, n => rfl
  | j + 1, w, l, t, n => by
    rw [v_lpA_su, sp_loop]
    by_cases c1 : sp_sg f len (sp_sk f len n) = 124
    · rw [if_pos c1, if_pos (by unfold sp_an; rw [c1]; rfl)]
      exact vpo_bd (hG _) (fun q v => vpo_lpA hG j _ _ _ q)
    · rw [if_neg c1]
      by_cases c2 : sp_sg f len (sp_sk f len n) = 38
      · rw [if_pos c2, if_pos (by unfold sp_an; rw [c2]; rfl)]
        exact vpo_bd (hG _) (fun q v => vpo_lpA hG j _ _ _ q)
      · rw [if_neg c2, if_neg (fun z => by unfold sp_an at z; simp only [Bool.or_eq_true, beq_iff_eq] at z; omega)]
        rfl
theorem vpo_sum {NV : Nat → vR} {N : Nat → Nat ⊕ Nat} (hN : ∀ n, vpo (NV n) = N n) (n : Nat) : vpo (v_sum f len L NV n) = sp_sum f len N n := vpo_bd (vpo_atom hN n) (fun q v => vpo_lpS (fun n => vpo_atom hN n) 160 0 0 v q)
theorem vpo_cm {NV : Nat → vR} {N : Nat → Nat ⊕ Nat} (hN : ∀ n, vpo (NV n) = N n) (n : Nat) (a : Int32) : vpo (v_cm f len L NV n a) = sp_cm f len N n := by
  unfold v_cm sp_cm
  split
  · have e := vpo_sum (f := f) (len := len) (L := L) hN (sp_sk f len n + 1)
    rw [← e]
    cases v_sum f len L NV (sp_sk f len n + 1) <;> rfl
  · rfl
theorem vpo_unit {NV BV PV9 : Nat → vR} {N NB NP : Nat → Nat ⊕ Nat} (hN : ∀ n, vpo (NV n) = N n) (hB : ∀ n, vpo (BV n) = NB n) (hP : ∀ n, vpo (PV9 n) = NP n) (n : Nat) : vpo (v_unit f len L NV BV PV9 n) = sp_unit f len N NB NP n := by
  unfold v_unit sp_unit
  split
  · exact hB _
  · split
    · exact hP _
    · exact vpo_bd (vpo_sum hN _) (fun q v => vpo_cm hN q v)
theorem vpo_cond {NV BV PV9 : Nat → vR} {N NB NP : Nat → Nat ⊕ Nat} (hN : ∀ n, vpo (NV n) = N n) (hB : ∀ n, vpo (BV n) = NB n) (hP : ∀ n, vpo (PV9 n) = NP n) (n : Nat) : vpo (v_cond f len L NV BV PV9 n) = sp_cond f len N NB NP n := vpo_bd (vpo_unit hN hB hP n) (fun q v => vpo_lpA (fun n => vpo_unit hN hB hP n) 160 false 0 v q)
theorem vpo_condB {NV BV PV9 : Nat → vR} {N NB NP : Nat → Nat ⊕ Nat} (hN : ∀ n, vpo (NV n) = N n) (hB : ∀ n, vpo (BV n) = NB n) (hP : ∀ n, vpo (PV9 n) = NP n) (n : Nat) (a : Int32) : vpo (v_condB f len L NV BV PV9 n a) = sp_condB f len N NB NP n := vpo_bd (vpo_cm hN n a) (fun q v => vpo_lpA (fun n => vpo_unit hN hB hP n) 160 false 0 v q)
theorem vpo_lv : ∀ d : Nat, (∀ n, vpo ((v_lv f len L d).1 n) = (sp_lv f len d).1 n) ∧ (∀ n, vpo ((v_lv f len L d).2.1 n) = (sp_lv f len d).2.1 n) ∧ ∀ n, vpo ((v_lv f len L d).2.2 n) = (sp_lv f len d).2.2 n
  | 0 => ⟨fun _ => rfl, fun _ => rfl, fun _ => rfl⟩
  | d + 1 => by
    obtain ⟨h1, h2, h3⟩ := vpo_lv d
    refine ⟨fun n => vpo_bd (vpo_sum h1 (n + 1)) (fun q v => vpo_tk), fun n => ?_, fun n => vpo_bd (vpo_cond h1 h2 h3 (n + 1)) (fun q v => vpo_tk)⟩
    show vpo (v_bd (v_unit f len L (v_lv f len L d).1 (v_lv f len L d).2.1 (v_lv f len L d).2.2 (n + 1)) (fun q v => .inr (q, 1 - v))) = sp_unit f len (sp_lv f len d).1 (sp_lv f len d).2.1 (sp_lv f len d).2.2 (n + 1)
    have e := vpo_unit (f := f) (len := len) (L := L) h1 h2 h3 (n + 1)
    rw [← e]
    cases v_unit f len L (v_lv f len L d).1 (v_lv f len L d).2.1 (v_lv f len L d).2.2 (n + 1) <;> rfl
theorem vpq_then {NV : Nat → vR} {N : Nat → Nat ⊕ Nat} (hN : ∀ n, vpo (NV n) = N n) (n : Nat) (a : Int32) : vpq (v_then f len L NV n a) = sp_then f len N n := by
  refine vpq_bd (vpo_tk) (fun q v => ?_)
  have e := vpo_sum (f := f) (len := len) (L := L) hN q
  rw [← e]
  cases v_sum f len L NV q <;> rfl
theorem vpq_body2 {NV BV PV9 : Nat → vR} {N NB NP : Nat → Nat ⊕ Nat} (hN : ∀ n, vpo (NV n) = N n) (hB : ∀ n, vpo (BV n) = NB n) (hP : ∀ n, vpo (PV9 n) = NP n) (n : Nat) (a : Int32) : vpq (v_body2 f len L NV BV PV9 n a) = sp_body2 f len N NB NP n := by
  unfold v_body2 sp_body2
  split
  · exact vpq_bd (vpo_condB hN hB hP _ a) (fun q v => vpq_then hN q v)
  · rfl
theorem vpq_body {NV BV PV9 : Nat → vR} {N NB NP : Nat → Nat ⊕ Nat} (hN : ∀ n, vpo (NV n) = N n) (hB : ∀ n, vpo (BV n) = NB n) (hP : ∀ n, vpo (PV9 n) = NP n) (n : Nat) : vpq (v_body f len L NV BV PV9 n) = sp_body f len N NB NP n := by
  unfold v_body sp_body
  split
  · exact vpq_bd (vpo_cond hN hB hP _) (fun q v => vpq_then hN q v)
  · exact vpq_bd (vpo_sum hN _) (fun q v => vpq_body2 hN hB hP q v)
theorem vpq_clause {NV BV PV9 : Nat → vR} {N NB NP : Nat → Nat ⊕ Nat} (hN : ∀ n, vpo (NV n) = N n) (hB : ∀ n, vpo (BV n) = NB n) (hP : ∀ n, vpo (PV9 n) = NP n) (n : Nat) : vpq (v_clause f len L NV BV PV9 n) = sp_clause f len N NB NP n := vpq_bd vpo_tk (fun q _ => vpq_bd vpo_tk (fun q2 _ => vpq_body hN hB hP q2))
theorem vpq_rd {CV : Nat → vQ} {C : Nat → Nat ⊕ Nat} (hC : ∀ n, vpq (CV n) = C n) : ∀ (j : Nat) (fd : Option Int32) (n : Nat), vpq (v_rd f len CV j fd n) = sp_rd f len C j n
  | 0, fd, n => rfl
  | j + 1, fd, n => by
    rw [v_rd, sp_rd, ← hC n]
    cases CV n with
    | inl e => rfl
    | inr s =>
      show vpq (if sp_sg f len (sp_sk f len s.1) = 0 then .inr (sp_sk f len s.1, fd.or s.2) else if sp_sg f len (sp_sk f len (sp_sk f len s.1)) = 59 then v_rd f len CV j (fd.or s.2) (sp_sk f len (sp_sk f len s.1) + 1) else .inl (sp_sk f len (sp_sk f len s.1))) = (if sp_sg f len (sp_sk f len s.1) = 0 then .inr (sp_sk f len s.1) else sp_bd (sp_tk f len 59 (sp_sk f len s.1)) (sp_rd f len C j))
      by_cases c : sp_sg f len (sp_sk f len s.1) = 0
      · rw [if_pos c, if_pos c]
        rfl
      · rw [if_neg c, if_neg c]
        unfold sp_tk
        by_cases c2 : sp_sg f len (sp_sk f len (sp_sk f len s.1)) = 59
        · rw [if_pos c2, if_pos c2]
          exact vpq_rd hC j _ _
        · rw [if_neg c2, if_neg c2]
          rfl
theorem vpq_rule : vpq (v_rule f len L) = sp_rule f len := by
  obtain ⟨h1, h2, h3⟩ := vpo_lv (f := f) (len := len) (L := L) 6
  exact vpq_rd (fun n => vpq_clause h1 h2 h3 n) 161 none 0
/-- a RULE without a FAULT has a worth -/
theorem v_rule_ok {q : Nat} (h : sp_rule f len = .inr q) : ∃ o, v_rule f len L = .inr (q, o) := by
  have e := vpq_rule (f := f) (len := len) (L := L)
  rw [h] at e
  cases c : v_rule f len L with
  | inl z =>
    rw [c] at e
    cases e
  | inr s =>
    rw [c] at e
    have e : (Sum.inr s.1 : Nat ⊕ Nat) = .inr q := e
    have e2 := Sum.inr.inj e
    exact ⟨s.2, by rw [← e2]⟩
end
