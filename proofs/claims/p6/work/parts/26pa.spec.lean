/-! a MINUTE: the spec. T: the town in the reference's order (X 0.., TRAVEL 6.., BRAKE 12.., WATER 18.., WHERE 30.., MINUTES 38) -/
def d_nx (d : Int64) : Int64 := d * 6364136223846793005 + 1442695040888963407
def d_y (d : Int64) : Int64 := (d.toUInt64 >>> ((33 : Int32).toInt64.toUInt64 &&& Int64.toUInt64 63)).toInt64
def d_v (d : Int64) : Int32 := (d_y d - d_y d / 100 * 100).toInt32
def m_pu (ρ : aRw) (b : Nat → Int) (p : Nat) (x : Int) : Int := sp_pl9 (ρ p 0) (ρ p 7) (ρ p 1) x (b (2 * p)) (b (2 * p + 1))
/-- which way a ROPE goes -/
def m_hd (ρ : aRw) (b : Nat → Int) (p : Nat) (x : Int) (fe : Bool) : Int := if fe = false ∧ -(ρ p 5) ≤ m_pu ρ b p x ∧ m_pu ρ b p x ≤ ρ p 5 then 0 else if 0 < m_pu ρ b p x then -1 else if m_pu ρ b p x < 0 then 1 else 0
def m_nx (ρ : aRw) (b : Nat → Int) (p : Nat) (x : Int) (fe : Bool) : Int := if 0 ≤ x + m_hd ρ b p x fe * f_st ρ p ∧ x + m_hd ρ b p x fe * f_st ρ p ≤ ρ p 1 then x + m_hd ρ b p x fe * f_st ρ p else x
def m_fr (ρ : aRw) (sl : Bool) (p : Nat) (T : Nat → Int32) (d : Int64) : Bool := if (T (12 + p)).toInt = 1 then (if sl = true ∧ 0 < ρ p 6 then decide ((d_v (d_nx d)).toInt < ρ p 6) else false) else true
def m_d (ρ : aRw) (sl : Bool) (p : Nat) (T : Nat → Int32) (d : Int64) : Int64 := if (T (12 + p)).toInt = 1 ∧ sl = true ∧ 0 < ρ p 6 then d_nx d else d
abbrev mS : Type := (Nat → Int32) × Int64 × Int
/-- one ROPE, its brake free or not -/
def m_0 (ρ : aRw) (b : Nat → Int) (p : Nat) (fe : Bool) (T : Nat → Int32) (d : Int64) (s : Int) : mS := if m_nx ρ b p (T p).toInt fe = (T p).toInt then (T, d, s) else (upd (upd T p (Int32.ofInt (m_nx ρ b p (T p).toInt fe))) (6 + p) (T (6 + p) + 1), d, s + 1)
def m_1 (ρ : aRw) (b : Nat → Int) (sl : Bool) (p : Nat) (S : mS) : mS := m_0 ρ b p (m_fr ρ sl p S.1 S.2.1) S.1 (m_d ρ sl p S.1 S.2.1) S.2.2
/-- the first k ROPES -/
def m_k (ρ : aRw) (b : Nat → Int) (sl : Bool) (S : mS) : Nat → mS
  | 0 => S
  | k + 1 => m_1 ρ b sl k (m_k ρ b sl S k)
section
variable {ρ : aRw} {b : Nat → Int} {sl : Bool}
theorem m_0_hi (p : Nat) (fe : Bool) (T : Nat → Int32) (d : Int64) (s : Int) {k : Nat} (h1 : k ≠ p) (h2 : k ≠ 6 + p) : (m_0 ρ b p fe T d s).1 k = T k := by
  unfold m_0
  split
  · rfl
  · show upd (upd T p _) (6 + p) _ k = T k
    rw [upd_n _ _ h2, upd_n _ _ h1]
theorem m_k_hi (S : mS) : ∀ (n k : Nat), n ≤ 6 → 12 ≤ k → (m_k ρ b sl S n).1 k = S.1 k
  | 0, k, _, _ => rfl
  | n + 1, k, hn, hk => (m_0_hi n _ _ _ _ (by omega) (by omega)).trans (m_k_hi S n k (by omega) hk)
theorem m_k_lo (S : mS) : ∀ (n k : Nat), n ≤ k → k < 6 → (m_k ρ b sl S n).1 k = S.1 k ∧ (m_k ρ b sl S n).1 (6 + k) = S.1 (6 + k)
  | 0, k, _, _ => ⟨rfl, rfl⟩
  | n + 1, k, hn, hk => ⟨(m_0_hi n _ _ _ _ (by omega) (by omega)).trans (m_k_lo S n k (by omega) hk).1, (m_0_hi n _ _ _ _ (by omega) (by omega)).trans (m_k_lo S n k (by omega) hk).2⟩
theorem m_hd_b (p : Nat) (x : Int) (fe : Bool) : m_hd ρ b p x fe = 0 ∨ m_hd ρ b p x fe = 1 ∨ m_hd ρ b p x fe = -1 := by
  unfold m_hd
  split
  · exact Or.inl rfl
  · split
    · exact Or.inr (Or.inr rfl)
    · split
      · exact Or.inr (Or.inl rfl)
      · exact Or.inl rfl
theorem m_nx_b {p : Nat} {x : Int} {fe : Bool} (hx : 0 ≤ x ∧ x ≤ ρ p 1) : 0 ≤ m_nx ρ b p x fe ∧ m_nx ρ b p x fe ≤ ρ p 1 := by
  unfold m_nx
  split
  · assumption
  · exact hx
theorem f_st_2 (p : Nat) : f_st ρ p = 1 ∨ f_st ρ p = 2 := by
  unfold f_st
  split
  · exact Or.inr rfl
  · exact Or.inl rfl
theorem m_0_s (p : Nat) (fe : Bool) (T : Nat → Int32) (d : Int64) (s : Int) : s ≤ (m_0 ρ b p fe T d s).2.2 ∧ (m_0 ρ b p fe T d s).2.2 ≤ s + 1 := by
  unfold m_0
  split
  · show s ≤ s ∧ s ≤ s + 1
    omega
  · show s ≤ s + 1 ∧ s + 1 ≤ s + 1
    omega
theorem m_k_s (S : mS) : ∀ k : Nat, S.2.2 ≤ (m_k ρ b sl S k).2.2 ∧ (m_k ρ b sl S k).2.2 ≤ S.2.2 + k
  | 0 => by
    show S.2.2 ≤ S.2.2 ∧ S.2.2 ≤ S.2.2 + ((0 : Nat) : Int)
    omega
  | k + 1 => by
    have h1 := m_k_s S k
    have h2 := m_0_s (ρ := ρ) (b := b) k (m_fr ρ sl k (m_k ρ b sl S k).1 (m_k ρ b sl S k).2.1) (m_k ρ b sl S k).1 (m_d ρ sl k (m_k ρ b sl S k).1 (m_k ρ b sl S k).2.1) (m_k ρ b sl S k).2.2
    show S.2.2 ≤ (m_0 ρ b k (m_fr ρ sl k (m_k ρ b sl S k).1 (m_k ρ b sl S k).2.1) (m_k ρ b sl S k).1 (m_d ρ sl k (m_k ρ b sl S k).1 (m_k ρ b sl S k).2.1) (m_k ρ b sl S k).2.2).2.2 ∧ (m_0 ρ b k (m_fr ρ sl k (m_k ρ b sl S k).1 (m_k ρ b sl S k).2.1) (m_k ρ b sl S k).1 (m_d ρ sl k (m_k ρ b sl S k).1 (m_k ρ b sl S k).2.1) (m_k ρ b sl S k).2.2).2.2 ≤ S.2.2 + ((k + 1 : Nat) : Int)
    omega
theorem m_0_d (p : Nat) (fe : Bool) (T : Nat → Int32) (d : Int64) (s : Int) : (m_0 ρ b p fe T d s).2.1 = d := by
  unfold m_0
  split <;> rfl
/-- X stays where it may be -/
def m_ok (n : Nat) (ρ : aRw) (T : Nat → Int32) : Prop := ∀ q, q < n → 0 ≤ (T q).toInt ∧ (T q).toInt ≤ ρ q 1
theorem ofInt_b {y : Int} (h : -1000 ≤ y ∧ y ≤ 1000) : (Int32.ofInt y).toInt = y := Int32.toInt_ofInt_of_le (by omega) (by omega)
theorem m_0_ok {n p : Nat} {fe : Bool} {T : Nat → Int32} {d : Int64} {s : Int} (hn : n ≤ 6) (hp : p < n) (hL : ρ p 1 ≤ 20) (h : m_ok n ρ T) : m_ok n ρ (m_0 ρ b p fe T d s).1 := fun q hq => by
  by_cases c : q = p
  · subst c
    unfold m_0
    split
    · exact h q hq
    · show 0 ≤ (upd (upd T q _) (6 + q) _ q).toInt ∧ (upd (upd T q _) (6 + q) _ q).toInt ≤ ρ q 1
      have := m_nx_b (b := b) (fe := fe) (h q hq)
      rw [upd_n _ _ (by omega), upd_s, ofInt_b (by omega)]
      exact this
  · rw [m_0_hi p fe T d s c (by omega)]
    exact h q hq
theorem m_k_ok {n : Nat} (wf : wfR n ρ) {S : mS} (h : m_ok n ρ S.1) : ∀ k, k ≤ n → m_ok n ρ (m_k ρ b sl S k).1
  | 0, _ => h
  | k + 1, hk => m_0_ok wf.1 (by omega) (wf.2 k (by omega)).1.2.1.2 (m_k_ok wf h k (by omega))
theorem m_fr_t {p : Nat} {T : Nat → Int32} {d : Int64} {v : Int32} (hv : v = d_v (d_nx d)) (h : (T (12 + p)).toInt = 1) (hs : sl = true) (h6 : 0 < ρ p 6) : m_fr ρ sl p T d = decide (v.toInt < ρ p 6) := by
  subst hv
  unfold m_fr
  rw [if_pos h, if_pos ⟨hs, h6⟩]
theorem m_fr_o {p : Nat} {T : Nat → Int32} {d : Int64} (h : ¬ (T (12 + p)).toInt = 1) : m_fr ρ sl p T d = true := by
  unfold m_fr
  rw [if_neg h]
theorem m_fr_f {p : Nat} {T : Nat → Int32} {d : Int64} (h : (T (12 + p)).toInt = 1) (hs : sl = false ∨ ρ p 6 ≤ 0) : m_fr ρ sl p T d = false := by
  unfold m_fr
  rw [if_pos h, if_neg]
  rintro ⟨z1, z2⟩
  rcases hs with c | c
  · rw [c] at z1
    cases z1
  · omega
theorem m_d_t {p : Nat} {T : Nat → Int32} {d : Int64} (h : (T (12 + p)).toInt = 1) (hs : sl = true) (h6 : 0 < ρ p 6) : m_d ρ sl p T d = d_nx d := by
  unfold m_d
  rw [if_pos ⟨h, hs, h6⟩]
theorem m_d_f {p : Nat} {T : Nat → Int32} {d : Int64} (h : ¬ (T (12 + p)).toInt = 1 ∨ sl = false ∨ ρ p 6 ≤ 0) : m_d ρ sl p T d = d := by
  unfold m_d
  rw [if_neg]
  rintro ⟨z1, z2, z3⟩
  rcases h with c | c | c
  · exact c z1
  · rw [c] at z2
    cases z2
  · omega
end
