/-! RULES: what a text read without a FAULT was made of; bounds of its numbers -/
section
variable {f : Nat → Int32} {len : Nat} {L : Nat → Int32}
theorem v_bd_inr {r : vR} {g : Nat → Int32 → vR} {q : Nat} {v : Int32} (h : v_bd r g = .inr (q, v)) : ∃ q1 v1, r = .inr (q1, v1) ∧ g q1 v1 = .inr (q, v) := by
  cases r with
  | inl e => cases h
  | inr s => exact ⟨s.1, s.2, rfl, h⟩
theorem q_bd_inr {r : vR} {g : Nat → Int32 → vQ} {q : Nat} {o : Option Int32} (h : q_bd r g = .inr (q, o)) : ∃ q1 v1, r = .inr (q1, v1) ∧ g q1 v1 = .inr (q, o) := by
  cases r with
  | inl e => cases h
  | inr s => exact ⟨s.1, s.2, rfl, h⟩
theorem v_tk_inr {due : Int} {n q : Nat} {u v : Int32} (h : v_tk f len due n u = .inr (q, v)) : sp_sg f len (sp_sk f len n) = due ∧ q = sp_sk f len n + 1 ∧ v = u := by
  unfold v_tk at h
  split at h
  · next c =>
    cases h
    exact ⟨c, rfl, rfl⟩
  · cases h
theorem v_atom_inr {N : Nat → vR} {n q : Nat} {v : Int32} (h : v_atom f len L N n = .inr (q, v)) : (sp_sg f len (sp_sk f len n) = 91 ∧ N (sp_sk f len n) = .inr (q, v)) ∨ (¬ sp_sg f len (sp_sk f len n) = 91 ∧ sp_let (sp_sg f len (sp_sk f len n)) ∧ q = sp_sk f len n + 1 ∧ v = L (vL (sp_sg f len (sp_sk f len n)))) ∨ (¬ sp_sg f len (sp_sk f len n) = 91 ∧ ¬ sp_let (sp_sg f len (sp_sk f len n)) ∧ (sp_num f len 4 (sp_sk f len n)).1 = .inr q ∧ v = Int32.ofInt (sp_num f len 4 (sp_sk f len n)).2) := by
  unfold v_atom at h
  by_cases c1 : sp_sg f len (sp_sk f len n) = 91
  · rw [if_pos c1] at h
    exact Or.inl ⟨c1, h⟩
  · rw [if_neg c1] at h
    by_cases c2 : sp_let (sp_sg f len (sp_sk f len n))
    · rw [if_pos c2] at h
      cases h
      exact Or.inr (Or.inl ⟨c1, c2, rfl, rfl⟩)
    · rw [if_neg c2] at h
      refine Or.inr (Or.inr ⟨c1, c2, ?_⟩)
      unfold v_nm at h
      cases e : (sp_num f len 4 (sp_sk f len n)).1 with
      | inl z =>
        rw [e] at h
        cases h
      | inr z =>
        rw [e] at h
        cases h
        exact ⟨rfl, rfl⟩
/-- it goes on, within a million -/
def vG (G : Nat → vR) : Prop := ∀ n q v, G n = .inr (q, v) → n < q ∧ -1000000 ≤ v.toInt ∧ v.toInt ≤ 1000000
/-- it goes on, a truth -/
def vT (G : Nat → vR) : Prop := ∀ n q v, G n = .inr (q, v) → n < q ∧ 0 ≤ v.toInt ∧ v.toInt ≤ 1
theorem vB_b (z : Int) : -1000000 ≤ (vB z).toInt ∧ (vB z).toInt ≤ 1000000 := by
  unfold vB
  rw [fb_ofI (by omega) (by omega)]
  omega
theorem tdiv_b {a b : Int} (h : -1000000 ≤ a ∧ a ≤ 1000000) : -1000000 ≤ a.tdiv b ∧ a.tdiv b ≤ 1000000 := by
  have h1 : (a.tdiv b).natAbs = a.natAbs / b.natAbs := Int.natAbs_tdiv a b
  have h2 : a.natAbs / b.natAbs ≤ a.natAbs := Nat.div_le_self _ _
  omega
theorem vO_4 {c : Int} {a b : Int32} (hc : c = 43 ∨ c = 45 ∨ c = 42 ∨ c = 47) (ha : -1000000 ≤ a.toInt ∧ a.toInt ≤ 1000000) : -1000000 ≤ (vO c a b).toInt ∧ (vO c a b).toInt ≤ 1000000 := by
  rcases hc with e | e | e | e <;> subst e
  · have e9 : vO 43 a b = vB (a.toInt + b.toInt) := rfl
    rw [e9]
    exact vB_b _
  · have e9 : vO 45 a b = vB (a.toInt - b.toInt) := rfl
    rw [e9]
    exact vB_b _
  · have e9 : vO 42 a b = vB (a.toInt * b.toInt) := rfl
    rw [e9]
    exact vB_b _
  · have e9 : vO 47 a b = if b.toInt = 0 then 0 else Int32.ofInt (a.toInt.tdiv b.toInt) := rfl
    rw [e9]
    split
    · decide
    · have := tdiv_b (b := b.toInt) ha
      rw [fb_ofI (by omega) (by omega)]
      exact this
theorem vO_3 {c : Int} {a b : Int32} (hc : sp_cmp c) : 0 ≤ (vO c a b).toInt ∧ (vO c a b).toInt ≤ 1 := by
  rcases hc with e | e | e <;> subst e
  · have e9 : vO 61 a b = if a = b then 1 else 0 := rfl
    rw [e9]
    split <;> decide
  · have e9 : vO 60 a b = if a.toInt < b.toInt then 1 else 0 := rfl
    rw [e9]
    split <;> decide
  · have e9 : vO 62 a b = if b.toInt < a.toInt then 1 else 0 := rfl
    rw [e9]
    split <;> decide
theorem vG.atom {N : Nat → vR} (hN : vG N) (hL : ∀ k, -1000000 ≤ (L k).toInt ∧ (L k).toInt ≤ 1000000) : vG (v_atom f len L N) := fun n q v h => by
  have hk := sp_sk_le f len n
  rcases v_atom_inr h with ⟨-, h1⟩ | ⟨-, -, h1, h2⟩ | ⟨-, -, h1, h2⟩
  · have := hN _ _ _ h1
    exact ⟨by omega, this.2⟩
  · subst h1
    subst h2
    exact ⟨by omega, hL _⟩
  · obtain ⟨b1, b2, b3⟩ := vnum_b (f := f) (len := len) (n := sp_sk f len n) (q := q) (z := (sp_num f len 4 (sp_sk f len n)).2) (Prod.ext h1 rfl)
    subst h2
    rw [fb_ofI (by omega) (by omega)]
    exact ⟨by omega, by omega, by omega⟩
theorem v_lpS_su {G : Nat → vR} (j : Nat) (w : Int) (l t : Int32) (n : Nat) : v_lpS f len G (j + 1) w l t n = if sp_sg f len (sp_sk f len n) = 43 ∨ sp_sg f len (sp_sk f len n) = 45 then v_bd (G (sp_sk f len n + 1)) (fun q v => v_lpS f len G j (sp_sg f len (sp_sk f len n)) (v_fi w l t) v q) else if sp_sg f len (sp_sk f len n) = 42 ∨ sp_sg f len (sp_sk f len n) = 47 then v_bd (G (sp_sk f len n + 1)) (fun q v => v_lpS f len G j w l (vO (sp_sg f len (sp_sk f len n)) t v) q) else .inr (sp_sk f len n, v_fi w l t) := rfl
theorem v_lpA_su {G : Nat → vR} (j : Nat) (w : Bool) (l t : Int32) (n : Nat) : v_lpA f len G (j + 1) w l t n = if sp_sg f len (sp_sk f len n) = 124 then v_bd (G (sp_sk f len n + 1)) (fun q v => v_lpA f len G j true (v_fo w l t) v q) else if sp_sg f len (sp_sk f len n) = 38 then v_bd (G (sp_sk f len n + 1)) (fun q v => v_lpA f len G j w l (t &&& v) q) else .inr (sp_sk f len n, v_fo w l t) := rfl
theorem v_fi_b {w : Int} {l t : Int32} (hw : w = 0 ∨ w = 43 ∨ w = 45) (ht : -1000000 ≤ t.toInt ∧ t.toInt ≤ 1000000) : -1000000 ≤ (v_fi w l t).toInt ∧ (v_fi w l t).toInt ≤ 1000000 := by
  rcases hw with e | e | e <;> subst e
  · exact ht
  · have e9 : v_fi 43 l t = vB (l.toInt + t.toInt) := rfl
    rw [e9]
    exact vB_b _
  · have e9 : v_fi 45 l t = vB (l.toInt - t.toInt) := rfl
    rw [e9]
    exact vB_b _
theorem vG.lpS {G : Nat → vR} (hG : vG G) : ∀ (j : Nat) (w : Int) (l t : Int32) (n q : Nat) (r : Int32), (w = 0 ∨ w = 43 ∨ w = 45) → (-1000000 ≤ t.toInt ∧ t.toInt ≤ 1000000) → v_lpS f len G j w l t n = .inr (q, r) → n ≤ q ∧ -1000000 ≤ r.toInt ∧ r.toInt ≤ 1000000
  | 0, w, l, t, n, q, r, hw, ht, h => by
    have h : (Sum.inr (n, v_fi w l t) : vR) = .inr (q, r) := h
    cases h
    exact ⟨Nat.le_refl _, v_fi_b hw ht⟩
  | j + 1, w, l, t, n, q, r, hw, ht, h => by
    have hk := sp_sk_le f len n
    rw [v_lpS_su] at h
    by_cases c1 : sp_sg f len (sp_sk f len n) = 43 ∨ sp_sg f len (sp_sk f len n) = 45
    · rw [if_pos c1] at h
      obtain ⟨q1, v1, h1, h2⟩ := v_bd_inr h
      have g1 := hG _ _ _ h1
      have := hG.lpS j _ _ v1 q1 q r (Or.inr c1) g1.2 h2
      exact ⟨by omega, this.2⟩
    · rw [if_neg c1] at h
      by_cases c2 : sp_sg f len (sp_sk f len n) = 42 ∨ sp_sg f len (sp_sk f len n) = 47
      · rw [if_pos c2] at h
        obtain ⟨q1, v1, h1, h2⟩ := v_bd_inr h
        have g1 := hG _ _ _ h1
        have := hG.lpS j w l _ q1 q r hw (vO_4 (by omega) ht) h2
        exact ⟨by omega, this.2⟩
      · rw [if_neg c2] at h
        cases h
        exact ⟨hk, v_fi_b hw ht⟩
theorem vG.sum {N : Nat → vR} (hN : vG N) (hL : ∀ k, -1000000 ≤ (L k).toInt ∧ (L k).toInt ≤ 1000000) : vG (v_sum f len L N) := fun n q v h => by
  obtain ⟨q1, v1, h1, h2⟩ := v_bd_inr h
  have g1 := hN.atom (f := f) (len := len) hL _ _ _ h1
  have g2 := (hN.atom (f := f) (len := len) hL).lpS 160 0 0 v1 q1 q v (Or.inl rfl) g1.2 h2
  exact ⟨by omega, g2.2⟩
theorem vT.cm {N : Nat → vR} (hN : vG N) (hL : ∀ k, -1000000 ≤ (L k).toInt ∧ (L k).toInt ≤ 1000000) {n q : Nat} {a v : Int32} (h : v_cm f len L N n a = .inr (q, v)) : n < q ∧ 0 ≤ v.toInt ∧ v.toInt ≤ 1 := by
  have hk := sp_sk_le f len n
  unfold v_cm at h
  by_cases c : sp_cmp (sp_sg f len (sp_sk f len n))
  · rw [if_pos c] at h
    obtain ⟨q1, v1, h1, h2⟩ := v_bd_inr h
    have g1 := hN.sum (f := f) (len := len) hL _ _ _ h1
    cases h2
    exact ⟨by omega, vO_3 c⟩
  · rw [if_neg c] at h
    cases h
theorem vT.unit {N NB NP : Nat → vR} (hN : vG N) (hB : vT NB) (hP : vT NP) (hL : ∀ k, -1000000 ≤ (L k).toInt ∧ (L k).toInt ≤ 1000000) : vT (v_unit f len L N NB NP) := fun n q v h => by
  have hk := sp_sk_le f len n
  unfold v_unit at h
  by_cases c1 : sp_sg f len (sp_sk f len n) = 33
  · rw [if_pos c1] at h
    have := hB _ _ _ h
    exact ⟨by omega, this.2⟩
  · rw [if_neg c1] at h
    by_cases c2 : sp_sg f len (sp_sk f len n) = 40
    · rw [if_pos c2] at h
      have := hP _ _ _ h
      exact ⟨by omega, this.2⟩
    · rw [if_neg c2] at h
      obtain ⟨q1, v1, h1, h2⟩ := v_bd_inr h
      have g1 := hN.sum (f := f) (len := len) hL _ _ _ h1
      have g2 := vT.cm hN hL h2
      exact ⟨by omega, g2.2⟩
theorem kn_an2 {x y : Int32} (hx : 0 ≤ x.toInt ∧ x.toInt ≤ 1) (hy : 0 ≤ y.toInt ∧ y.toInt ≤ 1) : (0 ≤ (x &&& y).toInt ∧ (x &&& y).toInt ≤ 1) ∧ (0 ≤ (x ||| y).toInt ∧ (x ||| y).toInt ≤ 1) := by
  rcases kn_bool hx.1 hx.2 with rfl | rfl <;> rcases kn_bool hy.1 hy.2 with rfl | rfl <;> decide
theorem v_fo_b {w : Bool} {l t : Int32} (hl : w = true → 0 ≤ l.toInt ∧ l.toInt ≤ 1) (ht : 0 ≤ t.toInt ∧ t.toInt ≤ 1) : 0 ≤ (v_fo w l t).toInt ∧ (v_fo w l t).toInt ≤ 1 := by
  cases w with
  | false => exact ht
  | true => exact (kn_an2 (hl rfl) ht).2
theorem vT.lpA {G : Nat → vR} (hG : vT G) : ∀ (j : Nat) (w : Bool) (l t : Int32) (n q : Nat) (r : Int32), (w = true → 0 ≤ l.toInt ∧ l.toInt ≤ 1) → (0 ≤ t.toInt ∧ t.toInt ≤ 1) → v_lpA f len G j w l t n = .inr (q, r) → n ≤ q ∧ 0 ≤ r.toInt ∧ r.toInt ≤ 1
  | 0, w, l, t, n, q, r, hw, ht, h => by
    have h : (Sum.inr (n, v_fo w l t) : vR) = .inr (q, r) := h
    cases h
    exact ⟨Nat.le_refl _, v_fo_b hw ht⟩
  | j + 1, w, l, t, n, q, r, hw, ht, h => by
    have hk := sp_sk_le f len n
    rw [v_lpA_su] at h
    by_cases c1 : sp_sg f len (sp_sk f len n) = 124
    · rw [if_pos c1] at h
      obtain ⟨q1, v1, h1, h2⟩ := v_bd_inr h
      have g1 := hG _ _ _ h1
      have := hG.lpA j true _ v1 q1 q r (fun _ => v_fo_b hw ht) g1.2 h2
      exact ⟨by omega, this.2⟩
    · rw [if_neg c1] at h
      by_cases c2 : sp_sg f len (sp_sk f len n) = 38
      · rw [if_pos c2] at h
        obtain ⟨q1, v1, h1, h2⟩ := v_bd_inr h
        have g1 := hG _ _ _ h1
        have := hG.lpA j w l _ q1 q r hw (kn_an2 ht g1.2).1 h2
        exact ⟨by omega, this.2⟩
      · rw [if_neg c2] at h
        cases h
        exact ⟨hk, v_fo_b hw ht⟩
theorem vT.cond {N NB NP : Nat → vR} (hN : vG N) (hB : vT NB) (hP : vT NP) (hL : ∀ k, -1000000 ≤ (L k).toInt ∧ (L k).toInt ≤ 1000000) : vT (v_cond f len L N NB NP) := fun n q v h => by
  obtain ⟨q1, v1, h1, h2⟩ := v_bd_inr h
  have g1 := vT.unit hN hB hP hL _ _ _ h1
  have g2 := (vT.unit (f := f) (len := len) hN hB hP hL).lpA 160 false 0 v1 q1 q v (fun z => by cases z) g1.2 h2
  exact ⟨by omega, g2.2⟩
theorem v_lv_ok (hL : ∀ k, -1000000 ≤ (L k).toInt ∧ (L k).toInt ≤ 1000000) : ∀ d : Nat, vG (v_lv f len L d).1 ∧ vT (v_lv f len L d).2.1 ∧ vT (v_lv f len L d).2.2
  | 0 => ⟨fun n q v h => (by cases h), fun n q v h => (by cases h), fun n q v h => (by cases h)⟩
  | d + 1 => by
    obtain ⟨h1, h2, h3⟩ := v_lv_ok hL d
    refine ⟨fun n q v h => ?_, fun n q v h => ?_, fun n q v h => ?_⟩
    · obtain ⟨q1, v1, a1, a2⟩ := v_bd_inr h
      have g1 := h1.sum (f := f) (len := len) hL _ _ _ a1
      obtain ⟨-, b2, b3⟩ := v_tk_inr a2
      have hk := sp_sk_le f len q1
      subst b3
      exact ⟨by omega, g1.2⟩
    · have h : v_bd (v_unit f len L (v_lv f len L d).1 (v_lv f len L d).2.1 (v_lv f len L d).2.2 (n + 1)) (fun q v => .inr (q, 1 - v)) = .inr (q, v) := h
      obtain ⟨q1, v1, a1, a2⟩ := v_bd_inr h
      have g1 := vT.unit h1 h2 h3 hL _ _ _ a1
      cases a2
      have e1 : (1 - v1 : Int32).toInt = 1 - v1.toInt := fb_subI (by show -2147483648 ≤ 1 - v1.toInt; omega) (by show 1 - v1.toInt < 2147483648; omega)
      exact ⟨by omega, by omega, by omega⟩
    · obtain ⟨q1, v1, a1, a2⟩ := v_bd_inr h
      have g1 := vT.cond h1 h2 h3 hL _ _ _ a1
      obtain ⟨-, b2, b3⟩ := v_tk_inr a2
      have hk := sp_sk_le f len q1
      subst b3
      exact ⟨by omega, g1.2⟩
end
