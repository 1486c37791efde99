/-! coming to rest, without slips: where each ROPE ends, and behind how many MINUTES -/
/-- a ROPE that does not go -/
theorem m_st0 {ρ : aRw} {b : Nat → Int} {p : Nat} {x : Int} {fe : Bool} (h : fe = false ∧ -(ρ p 5) ≤ m_pu ρ b p x ∧ m_pu ρ b p x ≤ ρ p 5 ∨ m_pu ρ b p x = 0) : m_nx ρ b p x fe = x := by
  have h0 : m_hd ρ b p x fe = 0 := by
    unfold m_hd
    split
    · rfl
    · next c =>
      rcases h with h | h
      · exact absurd h c
      · rw [if_neg (by omega), if_neg (by omega)]
  unfold m_nx
  rw [h0, Int.zero_mul, Int.add_zero]
  split <;> rfl
theorem m_dn {ρ : aRw} {b : Nat → Int} {p : Nat} {x : Int} {fe : Bool} (h : fe = true ∨ ρ p 5 < m_pu ρ b p x) (h0 : 0 < m_pu ρ b p x) (hx : x ≤ ρ p 1) : m_nx ρ b p x fe = if 0 ≤ x - f_st ρ p then x - f_st ρ p else x := by
  have h1 : m_hd ρ b p x fe = -1 := by
    unfold m_hd
    rw [if_neg, if_pos h0]
    rintro ⟨z1, z2, z3⟩
    rcases h with h | h
    · rw [h] at z1
      cases z1
    · omega
  have h2 := f_st_2 (ρ := ρ) p
  unfold m_nx
  rw [h1, show x + -1 * f_st ρ p = x - f_st ρ p by omega]
  by_cases c : 0 ≤ x - f_st ρ p
  · rw [if_pos ⟨c, by omega⟩, if_pos c]
  · rw [if_neg (fun z => c z.1), if_neg c]
theorem m_up {ρ : aRw} {b : Nat → Int} {p : Nat} {x : Int} {fe : Bool} (h : fe = true ∨ m_pu ρ b p x < -(ρ p 5)) (h0 : m_pu ρ b p x < 0) (hx : 0 ≤ x) : m_nx ρ b p x fe = if x + f_st ρ p ≤ ρ p 1 then x + f_st ρ p else x := by
  have h1 : m_hd ρ b p x fe = 1 := by
    unfold m_hd
    rw [if_neg, if_neg (by omega), if_pos h0]
    rintro ⟨z1, z2, z3⟩
    rcases h with h | h
    · rw [h] at z1
      cases z1
    · omega
  have h2 := f_st_2 (ρ := ρ) p
  unfold m_nx
  rw [h1, Int.one_mul]
  by_cases c : x + f_st ρ p ≤ ρ p 1
  · rw [if_pos ⟨by omega, c⟩, if_pos c]
  · rw [if_neg (fun z => c z.2), if_neg c]
/-- so many MINUTES, and their steps -/
def m_g (ρ : aRw) (b : Nat → Int) (sl : Bool) (n : Nat) (T : Nat → Int32) (d : Int64) : Nat → mS
  | 0 => (T, d, 0)
  | k + 1 => ((m_k ρ b sl ((m_g ρ b sl n T d k).1, (m_g ρ b sl n T d k).2.1, 0) n).1, (m_k ρ b sl ((m_g ρ b sl n T d k).1, (m_g ρ b sl n T d k).2.1, 0) n).2.1, (m_g ρ b sl n T d k).2.2 + (m_k ρ b sl ((m_g ρ b sl n T d k).1, (m_g ρ b sl n T d k).2.1, 0) n).2.2)
def fr9 (T : Nat → Int32) (p : Nat) : Bool := decide (¬ (T (12 + p)).toInt = 1)
/-- whether it goes, as a number -/
def mv9 (ρ : aRw) (b : Nat → Int) (p : Nat) (x : Int) (fe : Bool) : Int := if m_nx ρ b p x fe = x then 0 else 1
def m_it (ρ : aRw) (b : Nat → Int) (p : Nat) (x : Int) (fe : Bool) : Nat → Int
  | 0 => x
  | t + 1 => m_nx ρ b p (m_it ρ b p x fe t) fe
def m_ct (ρ : aRw) (b : Nat → Int) (p : Nat) (x : Int) (fe : Bool) : Nat → Int
  | 0 => 0
  | t + 1 => m_ct ρ b p x fe t + mv9 ρ b p (m_it ρ b p x fe t) fe
/-- how many of the first so many ROPES go -/
def m_cn (ρ : aRw) (b : Nat → Int) (T : Nat → Int32) : Nat → Int
  | 0 => 0
  | k + 1 => m_cn ρ b T k + mv9 ρ b k (T k).toInt (fr9 T k)
section
variable {ρ : aRw} {b : Nat → Int} {sl : Bool} {n p : Nat} {T : Nat → Int32} {d : Int64}
theorem m_g_hi (hn : n ≤ 6) : ∀ (t k : Nat), 12 ≤ k → (m_g ρ b sl n T d t).1 k = T k
  | 0, _, _ => rfl
  | t + 1, k, hk => (m_k_hi _ n k hn hk).trans (m_g_hi hn t k hk)
theorem m_g_ok (wf : wfR n ρ) (h : m_ok n ρ T) : ∀ t : Nat, m_ok n ρ (m_g ρ b sl n T d t).1
  | 0 => h
  | t + 1 => m_k_ok (S := ((m_g ρ b sl n T d t).1, (m_g ρ b sl n T d t).2.1, 0)) wf (m_g_ok wf h t) n (Nat.le_refl _)
theorem m_g_s : ∀ t : Nat, 0 ≤ (m_g ρ b sl n T d t).2.2 ∧ (m_g ρ b sl n T d t).2.2 ≤ (n : Int) * t
  | 0 => by
    show (0 : Int) ≤ 0 ∧ (0 : Int) ≤ (n : Int) * ((0 : Nat) : Int)
    omega
  | t + 1 => by
    have h1 := m_g_s t
    have h2 := m_k_s (ρ := ρ) (b := b) (sl := sl) ((m_g ρ b sl n T d t).1, (m_g ρ b sl n T d t).2.1, 0) n
    have h3 : (n : Int) * ((t + 1 : Nat) : Int) = (n : Int) * (t : Int) + n := by
      rw [Int.natCast_add, Int.mul_add]
      omega
    rw [h3]
    show 0 ≤ (m_g ρ b sl n T d t).2.2 + _ ∧ (m_g ρ b sl n T d t).2.2 + _ ≤ _
    have h4 : (((m_g ρ b sl n T d t).1, (m_g ρ b sl n T d t).2.1, (0 : Int)) : mS).2.2 = 0 := rfl
    omega
theorem m_fr_no : m_fr ρ false p T d = fr9 T p := by
  unfold m_fr fr9
  by_cases c : (T (12 + p)).toInt = 1
  · rw [if_pos c, if_neg (fun z => by cases z.1)]
    exact (decide_eq_false (fun z => z c)).symm
  · rw [if_neg c]
    exact (decide_eq_true c).symm
theorem m_d_no : m_d ρ false p T d = d := if_neg (fun z => by cases z.2.1)
theorem m_0_x {fe : Bool} {s : Int} : (m_0 ρ b p fe T d s).1 p = Int32.ofInt (m_nx ρ b p (T p).toInt fe) := by
  unfold m_0
  split
  · next c =>
    rw [c]
    exact (Int32.ofInt_toInt _).symm
  · show upd (upd T p _) (6 + p) _ p = _
    rw [upd_n _ _ (by omega), upd_s]
theorem m_0_t {fe : Bool} {s : Int} : (m_0 ρ b p fe T d s).1 (6 + p) = T (6 + p) + Int32.ofInt (mv9 ρ b p (T p).toInt fe) := by
  unfold m_0 mv9
  split
  · next c =>
    show T (6 + p) = T (6 + p) + 0
    rw [Int32.add_zero]
  · show upd (upd T p _) (6 + p) _ (6 + p) = _
    rw [upd_s]
    rfl
theorem m_0_c {fe : Bool} {s : Int} : (m_0 ρ b p fe T d s).2.2 = s + mv9 ρ b p (T p).toInt fe := by
  unfold m_0 mv9
  split
  · show s = s + 0
    omega
  · rfl
theorem m_k_no (hn : n ≤ 6) {s : Int} : ∀ k, k ≤ n → (∀ p, p < k → (m_k ρ b false (T, d, s) k).1 p = Int32.ofInt (m_nx ρ b p (T p).toInt (fr9 T p)) ∧ (m_k ρ b false (T, d, s) k).1 (6 + p) = T (6 + p) + Int32.ofInt (mv9 ρ b p (T p).toInt (fr9 T p))) ∧ (m_k ρ b false (T, d, s) k).2.1 = d ∧ (m_k ρ b false (T, d, s) k).2.2 = s + m_cn ρ b T k
  | 0, _ => ⟨fun p hp => absurd hp (Nat.not_lt_zero p), rfl, by show s = s + 0; omega⟩
  | k + 1, hk => by
    obtain ⟨h1, h2, h3⟩ := m_k_no hn (s := s) k (by omega)
    have l1 := m_k_lo (ρ := ρ) (b := b) (sl := false) (T, d, s) k k (Nat.le_refl _) (by omega)
    have l2 := m_k_hi (ρ := ρ) (b := b) (sl := false) (T, d, s) k (12 + k) (by omega) (by omega)
    have ef : m_fr ρ false k (m_k ρ b false (T, d, s) k).1 (m_k ρ b false (T, d, s) k).2.1 = fr9 T k := by
      rw [m_fr_no]
      unfold fr9
      rw [l2]
    have e9 : m_k ρ b false (T, d, s) (k + 1) = m_0 ρ b k (fr9 T k) (m_k ρ b false (T, d, s) k).1 d (m_k ρ b false (T, d, s) k).2.2 := by
      show m_0 ρ b k (m_fr ρ false k (m_k ρ b false (T, d, s) k).1 (m_k ρ b false (T, d, s) k).2.1) _ (m_d ρ false k (m_k ρ b false (T, d, s) k).1 (m_k ρ b false (T, d, s) k).2.1) _ = _
      rw [ef, m_d_no, h2]
    rw [e9]
    refine ⟨fun p hp => ?_, m_0_d _ _ _ _ _, ?_⟩
    · by_cases c : p = k
      · subst c
        rw [m_0_x, m_0_t, l1.1, l1.2]
        exact ⟨rfl, rfl⟩
      · rw [m_0_hi k _ _ _ _ c (by omega), m_0_hi k _ _ _ _ (by omega) (by omega)]
        exact h1 p (by omega)
    · rw [m_0_c, h3, l1.1]
      show s + m_cn ρ b T k + mv9 ρ b k (T k).toInt (fr9 T k) = s + (m_cn ρ b T k + mv9 ρ b k (T k).toInt (fr9 T k))
      omega
theorem m_it_b (hL : ρ p 1 ≤ 20) {x : Int} {fe : Bool} (hx : 0 ≤ x ∧ x ≤ ρ p 1) : ∀ t : Nat, 0 ≤ m_it ρ b p x fe t ∧ m_it ρ b p x fe t ≤ ρ p 1
  | 0 => hx
  | t + 1 => m_nx_b (m_it_b hL hx t)
theorem fr9_g (hn : n ≤ 6) (t : Nat) : fr9 (m_g ρ b sl n T d t).1 p = fr9 T p := by
  unfold fr9
  rw [m_g_hi hn t (12 + p) (by omega)]
/-- behind so many MINUTES -/
theorem m_g_no (wf : wfR n ρ) (h : m_ok n ρ T) : ∀ t : Nat, (∀ p, p < n → (m_g ρ b false n T d t).1 p = Int32.ofInt (m_it ρ b p (T p).toInt (fr9 T p) t) ∧ (m_g ρ b false n T d t).1 (6 + p) = T (6 + p) + Int32.ofInt (m_ct ρ b p (T p).toInt (fr9 T p) t)) ∧ (m_g ρ b false n T d t).2.1 = d
  | 0 => ⟨fun p hp => ⟨(Int32.ofInt_toInt _).symm, by show T (6 + p) = T (6 + p) + 0; rw [Int32.add_zero]⟩, rfl⟩
  | t + 1 => by
    obtain ⟨h1, h2⟩ := m_g_no wf h t
    obtain ⟨k1, k2, k3⟩ := m_k_no (ρ := ρ) (b := b) (T := (m_g ρ b false n T d t).1) (d := (m_g ρ b false n T d t).2.1) (s := 0) wf.1 n (Nat.le_refl _)
    refine ⟨fun p hp => ?_, k2.trans h2⟩
    have hL := (wf.2 p hp).1.2.1.2
    have hb := m_it_b (b := b) (fe := fr9 T p) hL (h p hp) t
    have et : ((m_g ρ b false n T d t).1 p).toInt = m_it ρ b p (T p).toInt (fr9 T p) t := by
      rw [(h1 p hp).1, ofInt_b (by omega)]
    obtain ⟨q1, q2⟩ := k1 p hp
    rw [et, fr9_g wf.1] at q1 q2
    refine ⟨q1, q2.trans ?_⟩
    rw [(h1 p hp).2, Int32.add_assoc, ← Int32.ofInt_add]
    rfl
/-! where a ROPE goes -/
def gd9 (ρ : aRw) (b : Nat → Int) (p : Nat) (x : Int) (fe : Bool) : Prop := (fe = true ∨ ρ p 5 < m_pu ρ b p x) ∧ 0 < m_pu ρ b p x
def gu9 (ρ : aRw) (b : Nat → Int) (p : Nat) (x : Int) (fe : Bool) : Prop := (fe = true ∨ m_pu ρ b p x < -(ρ p 5)) ∧ m_pu ρ b p x < 0
theorem m_pu_mono (hV : 0 ≤ ρ p 7) {x y : Int} (h : y ≤ x) : m_pu ρ b p x ≤ m_pu ρ b p y := by
  unfold m_pu sp_pl9
  split
  · exact Int.le_refl _
  · split
    · exact Int.le_refl _
    · have h1 : ρ p 7 * (ρ p 1 - 2 * x) ≤ ρ p 7 * (ρ p 1 - 2 * y) := Int.mul_le_mul_of_nonneg_left (by omega) hV
      omega
theorem gd9.mono (hV : 0 ≤ ρ p 7) {x y : Int} {fe : Bool} (h : gd9 ρ b p x fe) (hy : y ≤ x) : gd9 ρ b p y fe := by
  have h1 := m_pu_mono (b := b) hV hy
  refine ⟨?_, by have := h.2; omega⟩
  rcases h.1 with c | c
  · exact Or.inl c
  · exact Or.inr (by omega)
theorem gu9.mono (hV : 0 ≤ ρ p 7) {x y : Int} {fe : Bool} (h : gu9 ρ b p x fe) (hy : x ≤ y) : gu9 ρ b p y fe := by
  have h1 := m_pu_mono (b := b) hV hy
  refine ⟨?_, by have := h.2; omega⟩
  rcases h.1 with c | c
  · exact Or.inl c
  · exact Or.inr (by omega)
/-- a ROPE is held, goes down, or up -/
theorem go9 (hd : 0 ≤ ρ p 5) (x : Int) (fe : Bool) : m_hd ρ b p x fe = 0 ∧ m_nx ρ b p x fe = x ∧ ¬ gd9 ρ b p x fe ∧ ¬ gu9 ρ b p x fe ∨ m_hd ρ b p x fe = -1 ∧ gd9 ρ b p x fe ∨ m_hd ρ b p x fe = 1 ∧ gu9 ρ b p x fe := by
  by_cases c : fe = false ∧ -(ρ p 5) ≤ m_pu ρ b p x ∧ m_pu ρ b p x ≤ ρ p 5
  · refine Or.inl ⟨if_pos c, m_st0 (Or.inl c), fun z => ?_, fun z => ?_⟩
    · rcases z.1 with z | z
      · rw [z] at c
        cases c.1
      · omega
    · rcases z.1 with z | z
      · rw [z] at c
        cases c.1
      · omega
  · have hf : fe = true ∨ m_pu ρ b p x < -(ρ p 5) ∨ ρ p 5 < m_pu ρ b p x := by
      cases fe
      · by_cases c1 : m_pu ρ b p x < -(ρ p 5)
        · exact Or.inr (Or.inl c1)
        · by_cases c2 : ρ p 5 < m_pu ρ b p x
          · exact Or.inr (Or.inr c2)
          · exact absurd ⟨rfl, by omega, by omega⟩ c
      · exact Or.inl rfl
    have e : m_hd ρ b p x fe = if 0 < m_pu ρ b p x then -1 else if m_pu ρ b p x < 0 then 1 else 0 := if_neg c
    by_cases c1 : 0 < m_pu ρ b p x
    · refine Or.inr (Or.inl ⟨e.trans (if_pos c1), ?_, c1⟩)
      rcases hf with z | z | z
      · exact Or.inl z
      · omega
      · exact Or.inr z
    · by_cases c2 : m_pu ρ b p x < 0
      · refine Or.inr (Or.inr ⟨(e.trans (if_neg c1)).trans (if_pos c2), ?_, c2⟩)
        rcases hf with z | z | z
        · exact Or.inl z
        · exact Or.inr z
        · omega
      · exact Or.inl ⟨(e.trans (if_neg c1)).trans (if_neg c2), m_st0 (Or.inr (by omega)), fun z => c1 z.2, fun z => c2 z.2⟩
/-- where it ends; behind how many steps -/
def r_x (ρ : aRw) (b : Nat → Int) (p : Nat) (x : Int) (fe : Bool) : Int := if m_hd ρ b p x fe = 0 then x else if m_hd ρ b p x fe < 0 then 0 else ρ p 1
def r_s (ρ : aRw) (b : Nat → Int) (p : Nat) (x : Int) (fe : Bool) : Int := if m_hd ρ b p x fe = 0 then 0 else if m_hd ρ b p x fe < 0 then x / f_st ρ p else (ρ p 1 - x) / f_st ρ p
/-- a geared ROPE stands at an even place -/
def ev9 (ρ : aRw) (p : Nat) (x : Int) : Prop := ρ p 0 = 1 → x % 2 = 0 ∧ ρ p 1 % 2 = 0
theorem ev9.st {x : Int} (h : ev9 ρ p x) : f_st ρ p = 1 ∨ f_st ρ p = 2 ∧ x % 2 = 0 ∧ ρ p 1 % 2 = 0 := by
  unfold f_st
  by_cases c : ρ p 0 = 1
  · rw [if_pos c]
    exact Or.inr ⟨rfl, h c⟩
  · rw [if_neg c]
    exact Or.inl rfl
theorem it_dn (hV : 0 ≤ ρ p 7) {x : Int} {fe : Bool} (he : ev9 ρ p x) (hx : 0 ≤ x ∧ x ≤ ρ p 1) (h : gd9 ρ b p x fe) : ∀ t : Nat, m_it ρ b p x fe t = (if f_st ρ p * t ≤ x then x - f_st ρ p * t else 0) ∧ m_ct ρ b p x fe t = (if f_st ρ p * t ≤ x then (t : Int) else x / f_st ρ p) ∧ mv9 ρ b p (m_it ρ b p x fe t) fe = (if (t : Int) < x / f_st ρ p then 1 else 0)
  | 0 => by
    have h1 := m_dn h.1 h.2 hx.2
    have h0 : f_st ρ p * ((0 : Nat) : Int) = 0 := by simp
    rw [h0, if_pos hx.1, if_pos hx.1]
    refine ⟨by show x = x - 0; omega, rfl, ?_⟩
    show mv9 ρ b p x fe = _
    unfold mv9
    rw [h1]
    rcases he.st with c | ⟨c, c1, c2⟩ <;> rw [c] <;> (split <;> split <;> split <;> omega)
  | t + 1 => by
    obtain ⟨q1, q2, q3⟩ := it_dn hV he hx h t
    have hb : 0 ≤ m_it ρ b p x fe t ∧ m_it ρ b p x fe t ≤ x := by
      rw [q1]
      rcases he.st with c | ⟨c, c1, c2⟩ <;> rw [c] <;> (split <;> omega)
    have hg := h.mono hV hb.2
    have h1 := m_dn hg.1 hg.2 (by omega)
    have e1 : m_it ρ b p x fe (t + 1) = (if f_st ρ p * ((t + 1 : Nat) : Int) ≤ x then x - f_st ρ p * ((t + 1 : Nat) : Int) else 0) := by
      show m_nx ρ b p (m_it ρ b p x fe t) fe = _
      rw [h1, q1]
      rcases he.st with c | ⟨c, c1, c2⟩ <;> rw [c] <;> (split <;> split <;> split <;> omega)
    have hb2 : 0 ≤ m_it ρ b p x fe (t + 1) ∧ m_it ρ b p x fe (t + 1) ≤ x := by
      rw [e1]
      rcases he.st with c | ⟨c, c1, c2⟩ <;> rw [c] <;> (split <;> omega)
    have hg2 := h.mono hV hb2.2
    have h2 := m_dn hg2.1 hg2.2 (by omega)
    refine ⟨e1, ?_, ?_⟩
    · show m_ct ρ b p x fe t + mv9 ρ b p (m_it ρ b p x fe t) fe = _
      rw [q2, q3]
      rcases he.st with c | ⟨c, c1, c2⟩ <;> rw [c] <;> (split <;> split <;> split <;> omega)
    · unfold mv9
      rw [h2, e1]
      rcases he.st with c | ⟨c, c1, c2⟩ <;> rw [c] <;> (split <;> split <;> split <;> split <;> omega)
theorem it_up (hV : 0 ≤ ρ p 7) {x : Int} {fe : Bool} (he : ev9 ρ p x) (hx : 0 ≤ x ∧ x ≤ ρ p 1) (h : gu9 ρ b p x fe) : ∀ t : Nat, m_it ρ b p x fe t = (if f_st ρ p * t ≤ ρ p 1 - x then x + f_st ρ p * t else ρ p 1) ∧ m_ct ρ b p x fe t = (if f_st ρ p * t ≤ ρ p 1 - x then (t : Int) else (ρ p 1 - x) / f_st ρ p) ∧ mv9 ρ b p (m_it ρ b p x fe t) fe = (if (t : Int) < (ρ p 1 - x) / f_st ρ p then 1 else 0)
  | 0 => by
    have h1 := m_up h.1 h.2 hx.1
    have h0 : f_st ρ p * ((0 : Nat) : Int) = 0 := by simp
    rw [h0, if_pos (by omega), if_pos (by omega)]
    refine ⟨by show x = x + 0; omega, rfl, ?_⟩
    show mv9 ρ b p x fe = _
    unfold mv9
    rw [h1]
    rcases he.st with c | ⟨c, c1, c2⟩ <;> rw [c] <;> (split <;> split <;> split <;> omega)
  | t + 1 => by
    obtain ⟨q1, q2, q3⟩ := it_up hV he hx h t
    have hb : x ≤ m_it ρ b p x fe t ∧ m_it ρ b p x fe t ≤ ρ p 1 := by
      rw [q1]
      rcases he.st with c | ⟨c, c1, c2⟩ <;> rw [c] <;> (split <;> omega)
    have hg := h.mono hV hb.1
    have h1 := m_up hg.1 hg.2 (by omega)
    have e1 : m_it ρ b p x fe (t + 1) = (if f_st ρ p * ((t + 1 : Nat) : Int) ≤ ρ p 1 - x then x + f_st ρ p * ((t + 1 : Nat) : Int) else ρ p 1) := by
      show m_nx ρ b p (m_it ρ b p x fe t) fe = _
      rw [h1, q1]
      rcases he.st with c | ⟨c, c1, c2⟩ <;> rw [c] <;> (split <;> split <;> split <;> omega)
    have hb2 : x ≤ m_it ρ b p x fe (t + 1) ∧ m_it ρ b p x fe (t + 1) ≤ ρ p 1 := by
      rw [e1]
      rcases he.st with c | ⟨c, c1, c2⟩ <;> rw [c] <;> (split <;> omega)
    have hg2 := h.mono hV hb2.1
    have h2 := m_up hg2.1 hg2.2 (by omega)
    refine ⟨e1, ?_, ?_⟩
    · show m_ct ρ b p x fe t + mv9 ρ b p (m_it ρ b p x fe t) fe = _
      rw [q2, q3]
      rcases he.st with c | ⟨c, c1, c2⟩ <;> rw [c] <;> (split <;> split <;> split <;> omega)
    · unfold mv9
      rw [h2, e1]
      rcases he.st with c | ⟨c, c1, c2⟩ <;> rw [c] <;> (split <;> split <;> split <;> split <;> omega)
theorem it_no (hd : 0 ≤ ρ p 5) {x : Int} {fe : Bool} (h : m_nx ρ b p x fe = x) : ∀ t : Nat, m_it ρ b p x fe t = x ∧ m_ct ρ b p x fe t = 0 ∧ mv9 ρ b p (m_it ρ b p x fe t) fe = 0
  | 0 => ⟨rfl, rfl, if_pos h⟩
  | t + 1 => by
    obtain ⟨q1, q2, q3⟩ := it_no hd h t
    have e1 : m_it ρ b p x fe (t + 1) = x := by
      show m_nx ρ b p (m_it ρ b p x fe t) fe = x
      rw [q1, h]
    refine ⟨e1, ?_, ?_⟩
    · show m_ct ρ b p x fe t + mv9 ρ b p (m_it ρ b p x fe t) fe = 0
      rw [q2, q3]
      rfl
    · rw [e1]
      exact if_pos h
theorem r_s_b {x : Int} {fe : Bool} (hx : 0 ≤ x ∧ x ≤ ρ p 1) : 0 ≤ r_s ρ b p x fe ∧ r_s ρ b p x fe ≤ ρ p 1 := by
  unfold r_s
  rcases f_st_2 (ρ := ρ) p with c | c <;> rw [c] <;> (split <;> first | omega | (split <;> omega))
/-- behind t MINUTES: it goes still, while t is below r_s; from there on it rests -/
theorem it_rs (wr : wfr p (ρ p)) {x : Int} {fe : Bool} (he : ev9 ρ p x) (hx : 0 ≤ x ∧ x ≤ ρ p 1) (t : Nat) : mv9 ρ b p (m_it ρ b p x fe t) fe = (if (t : Int) < r_s ρ b p x fe then 1 else 0) ∧ (r_s ρ b p x fe ≤ t → m_it ρ b p x fe t = r_x ρ b p x fe ∧ m_ct ρ b p x fe t = r_s ρ b p x fe) := by
  obtain ⟨-, wL, -, -, -, wD, -, wV, -⟩ := wr
  rcases go9 (b := b) wD.1 x fe with ⟨e, e2, -, -⟩ | ⟨e, g⟩ | ⟨e, g⟩
  · obtain ⟨q1, q2, q3⟩ := it_no (b := b) wD.1 e2 t
    unfold r_x r_s
    rw [e, if_pos rfl, if_pos rfl, q1, q2]
    rw [q1] at q3
    refine ⟨?_, fun _ => ⟨rfl, rfl⟩⟩
    rw [q3, if_neg (by omega)]
  · obtain ⟨q1, q2, q3⟩ := it_dn wV.1 he hx g t
    have ex : r_x ρ b p x fe = 0 := by
      unfold r_x
      rw [e]
      rfl
    have es : r_s ρ b p x fe = x / f_st ρ p := by
      unfold r_s
      rw [e]
      rfl
    rw [ex, es, q3, q1, q2]
    refine ⟨rfl, fun hh => ?_⟩
    rcases he.st with c | ⟨c, c1, c2⟩ <;> rw [c] at hh ⊢ <;> (refine ⟨?_, ?_⟩ <;> split <;> omega)
  · obtain ⟨q1, q2, q3⟩ := it_up wV.1 he hx g t
    have ex : r_x ρ b p x fe = ρ p 1 := by
      unfold r_x
      rw [e]
      rfl
    have es : r_s ρ b p x fe = (ρ p 1 - x) / f_st ρ p := by
      unfold r_s
      rw [e]
      rfl
    rw [ex, es, q3, q1, q2]
    refine ⟨rfl, fun hh => ?_⟩
    rcases he.st with c | ⟨c, c1, c2⟩ <;> rw [c] at hh ⊢ <;> (refine ⟨?_, ?_⟩ <;> split <;> omega)
/-- the longest -/
def r_M (ρ : aRw) (b : Nat → Int) (T : Nat → Int32) : Nat → Int
  | 0 => 0
  | k + 1 => max (r_M ρ b T k) (r_s ρ b k (T k).toInt (fr9 T k))
theorem r_M_le {t : Int} : ∀ k : Nat, 0 ≤ t → (r_M ρ b T k ≤ t ↔ ∀ p, p < k → r_s ρ b p (T p).toInt (fr9 T p) ≤ t)
  | 0, h => ⟨fun _ p hp => absurd hp (Nat.not_lt_zero p), fun _ => h⟩
  | k + 1, h => by
    have ih := r_M_le (t := t) k h
    have e : r_M ρ b T (k + 1) = max (r_M ρ b T k) (r_s ρ b k (T k).toInt (fr9 T k)) := rfl
    rw [e]
    refine ⟨fun z p hp => ?_, fun z => ?_⟩
    · by_cases c : p = k
      · subst c
        omega
      · exact ih.mp (by omega) p (by omega)
    · have h1 := ih.mpr (fun p hp => z p (by omega))
      have h2 := z k (by omega)
      omega
theorem r_M_b (h : m_ok n ρ T) (wf : wfR n ρ) : ∀ k : Nat, k ≤ n → 0 ≤ r_M ρ b T k ∧ r_M ρ b T k ≤ 20
  | 0, _ => by
    show (0 : Int) ≤ 0 ∧ (0 : Int) ≤ 20
    omega
  | k + 1, hk => by
    have ih := r_M_b h wf k (by omega)
    have h1 := r_s_b (b := b) (fe := fr9 T k) (h k (by omega))
    have h2 := (wf.2 k (by omega)).1.2.1.2
    have e : r_M ρ b T (k + 1) = max (r_M ρ b T k) (r_s ρ b k (T k).toInt (fr9 T k)) := rfl
    rw [e]
    omega
def e_ok (n : Nat) (ρ : aRw) (T : Nat → Int32) : Prop := ∀ q, q < n → ev9 ρ q (T q).toInt
/-- the steps of a further MINUTE: none, just from the longest on -/
theorem m_g_cn (wf : wfR n ρ) (h : m_ok n ρ T) (he : e_ok n ρ T) (t : Nat) : ∀ k : Nat, k ≤ n → 0 ≤ m_cn ρ b (m_g ρ b false n T d t).1 k ∧ (m_cn ρ b (m_g ρ b false n T d t).1 k = 0 ↔ r_M ρ b T k ≤ t)
  | 0, _ => by
    show (0 : Int) ≤ 0 ∧ ((0 : Int) = 0 ↔ (0 : Int) ≤ (t : Int))
    omega
  | k + 1, hk => by
    obtain ⟨i1, i2⟩ := m_g_cn wf h he t k (by omega)
    obtain ⟨g1, -⟩ := m_g_no (b := b) (d := d) wf h t
    have hL := (wf.2 k (by omega)).1.2.1.2
    have hb := m_it_b (b := b) (fe := fr9 T k) hL (h k (by omega)) t
    have e1 : mv9 ρ b k ((m_g ρ b false n T d t).1 k).toInt (fr9 (m_g ρ b false n T d t).1 k) = (if (t : Int) < r_s ρ b k (T k).toInt (fr9 T k) then 1 else 0) := by
      rw [(g1 k (by omega)).1, ofInt_b (by omega), fr9_g wf.1]
      exact (it_rs (wf.2 k (by omega)).1 (he k (by omega)) (h k (by omega)) t).1
    have e2 : m_cn ρ b (m_g ρ b false n T d t).1 (k + 1) = m_cn ρ b (m_g ρ b false n T d t).1 k + mv9 ρ b k ((m_g ρ b false n T d t).1 k).toInt (fr9 (m_g ρ b false n T d t).1 k) := rfl
    have e3 : r_M ρ b T (k + 1) = max (r_M ρ b T k) (r_s ρ b k (T k).toInt (fr9 T k)) := rfl
    rw [e2, e1, e3]
    split <;> omega
/-- at the end -/
theorem m_g_end (wf : wfR n ρ) (h : m_ok n ρ T) (he : e_ok n ρ T) {t : Nat} (ht : r_M ρ b T n ≤ t) : ∀ p, p < n → (m_g ρ b false n T d t).1 p = Int32.ofInt (r_x ρ b p (T p).toInt (fr9 T p)) ∧ (m_g ρ b false n T d t).1 (6 + p) = T (6 + p) + Int32.ofInt (r_s ρ b p (T p).toInt (fr9 T p)) := by
  intro p hp
  obtain ⟨g1, -⟩ := m_g_no (b := b) (d := d) wf h t
  have h1 := (it_rs (b := b) (fe := fr9 T p) (wf.2 p hp).1 (he p hp) (h p hp) t).2 ((r_M_le n (by omega)).mp ht p hp)
  rw [(g1 p hp).1, (g1 p hp).2, h1.1, h1.2]
  exact ⟨rfl, rfl⟩
end
