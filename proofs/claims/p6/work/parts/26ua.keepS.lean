/-! keep: the spec. A RULE's letters, the brakes it sets, the MINUTES it goes -/
/-- the letters p x l h d t i of a ROPE -/
def k_let (ρ : aRw) (b : Nat → Int) (T : Nat → Int32) (t p : Nat) : Nat → Int := fun k => if k = 0 then m_pu ρ b p (T p).toInt else if k = 1 then (T p).toInt else if k = 2 then ρ p 1 else if k = 3 then ρ p 5 else if k = 4 then (T p).toInt - m_pc ρ (2 * p + 1) (T p).toInt else if k = 5 then (t : Int) else if k = 6 then (p : Int) else 0
/-- a brake by a RULE's worth -/
def k_br (ρ : aRw) (b : Nat → Int) (w : (Nat → Int) → Int) (T : Nat → Int32) (t p : Nat) : Int32 := if 0 < w (k_let ρ b T t p) then 0 else 1
/-- the first k brakes set -/
def k_on (ρ : aRw) (b : Nat → Int) (w : (Nat → Int) → Int) (t k : Nat) (T : Nat → Int32) : Nat → Int32 := fun q => if 12 ≤ q ∧ q < 12 + k then k_br ρ b w T t (q - 12) else T q
/-- so many MINUTES -/
def k_g (ρ : aRw) (b : Nat → Int) (w : (Nat → Int) → Int) (n : Nat) (T : Nat → Int32) (d : Int64) : Nat → mS
  | 0 => (T, d, 0)
  | t + 1 => ((m_k ρ b true (k_on ρ b w t n (k_g ρ b w n T d t).1, (k_g ρ b w n T d t).2.1, 0) n).1, (m_k ρ b true (k_on ρ b w t n (k_g ρ b w n T d t).1, (k_g ρ b w n T d t).2.1, 0) n).2.1, (k_g ρ b w n T d t).2.2 + (m_k ρ b true (k_on ρ b w t n (k_g ρ b w n T d t).1, (k_g ρ b w n T d t).2.1, 0) n).2.2)
section
variable {ρ : aRw} {b : Nat → Int} {w : (Nat → Int) → Int} {T T1 : Nat → Int32} {d : Int64} {n : Nat}
theorem k_let_eq {t p : Nat} (h : T1 p = T p) : k_let ρ b T1 t p = k_let ρ b T t p := by
  unfold k_let
  rw [h]
theorem k_on_0 (t : Nat) : k_on ρ b w t 0 T = T := by
  funext q
  exact if_neg (by omega)
theorem k_on_n {t k q : Nat} (h : ¬ (12 ≤ q ∧ q < 12 + k)) : k_on ρ b w t k T q = T q := if_neg h
theorem k_on_s {t k p : Nat} (h : p < k) : k_on ρ b w t k T (12 + p) = k_br ρ b w T t p := by
  unfold k_on
  rw [if_pos (by omega), show 12 + p - 12 = p by omega]
/-- one brake more: its letters are those of the first town -/
theorem k_on_su (t : Nat) {k : Nat} (hk : k < 12) : k_on ρ b w t (k + 1) T = upd (k_on ρ b w t k T) (12 + k) (k_br ρ b w (k_on ρ b w t k T) t k) := by
  funext q
  by_cases c : q = 12 + k
  · subst c
    rw [upd_s, k_on_s (by omega)]
    unfold k_br
    rw [k_let_eq (T1 := k_on ρ b w t k T) (T := T) (k_on_n (by omega))]
  · rw [upd_n _ _ c]
    unfold k_on
    by_cases c2 : 12 ≤ q ∧ q < 12 + k
    · rw [if_pos c2, if_pos (by omega)]
    · rw [if_neg c2, if_neg (by omega)]
theorem k_br_b (t p : Nat) : 0 ≤ (k_br ρ b w T t p).toInt ∧ (k_br ρ b w T t p).toInt ≤ 1 := by
  unfold k_br
  split <;> decide
theorem k_on_ok {t k : Nat} (hn : n ≤ 6) (h : m_ok n ρ T) : m_ok n ρ (k_on ρ b w t k T) := fun q hq => by
  rw [k_on_n (by omega)]
  exact h q hq
theorem k_g_ok (wf : wfR n ρ) (h : m_ok n ρ T) : ∀ t : Nat, m_ok n ρ (k_g ρ b w n T d t).1
  | 0 => h
  | t + 1 => m_k_ok (S := (k_on ρ b w t n (k_g ρ b w n T d t).1, (k_g ρ b w n T d t).2.1, 0)) wf (k_on_ok wf.1 (k_g_ok wf h t)) n (Nat.le_refl _)
/-- all behind the brakes stays -/
theorem k_g_hi (hn : n ≤ 6) : ∀ (t k : Nat), 12 + n ≤ k → (k_g ρ b w n T d t).1 k = T k
  | 0, _, _ => rfl
  | t + 1, k, hk => ((m_k_hi (ρ := ρ) (b := b) (sl := true) (k_on ρ b w t n (k_g ρ b w n T d t).1, (k_g ρ b w n T d t).2.1, 0) n k hn (by omega)).trans (k_on_n (by omega))).trans (k_g_hi hn t k hk)
/-- ropes that aren't there stay too -/
theorem k_g_lo (hn : n ≤ 6) : ∀ (t k : Nat), n ≤ k → k < 6 → (k_g ρ b w n T d t).1 k = T k ∧ (k_g ρ b w n T d t).1 (6 + k) = T (6 + k)
  | 0, _, _, _ => ⟨rfl, rfl⟩
  | t + 1, k, hk, h6 => by
    have h1 := m_k_lo (ρ := ρ) (b := b) (sl := true) (k_on ρ b w t n (k_g ρ b w n T d t).1, (k_g ρ b w n T d t).2.1, 0) n k hk h6
    have h2 := k_g_lo hn t k hk h6
    exact ⟨(h1.1.trans (k_on_n (by omega))).trans h2.1, (h1.2.trans (k_on_n (by omega))).trans h2.2⟩
/-- the brakes are 0 or 1 -/
theorem k_g_br (hn : n ≤ 6) (h : ∀ p, p < n → 0 ≤ (T (12 + p)).toInt ∧ (T (12 + p)).toInt ≤ 1) : ∀ (t p : Nat), p < n → 0 ≤ ((k_g ρ b w n T d t).1 (12 + p)).toInt ∧ ((k_g ρ b w n T d t).1 (12 + p)).toInt ≤ 1
  | 0, p, hp => h p hp
  | t + 1, p, hp => by
    have h1 := m_k_hi (ρ := ρ) (b := b) (sl := true) (k_on ρ b w t n (k_g ρ b w n T d t).1, (k_g ρ b w n T d t).2.1, 0) n (12 + p) hn (by omega)
    have h2 : (k_g ρ b w n T d (t + 1)).1 (12 + p) = k_br ρ b w (k_g ρ b w n T d t).1 t p := h1.trans (k_on_s hp)
    rw [h2]
    exact k_br_b t p
theorem k_g_s6 (hn : n ≤ 6) : ∀ t : Nat, 0 ≤ (k_g ρ b w n T d t).2.2 ∧ (k_g ρ b w n T d t).2.2 ≤ 6 * (t : Int)
  | 0 => by
    show (0 : Int) ≤ 0 ∧ (0 : Int) ≤ 6 * ((0 : Nat) : Int)
    omega
  | t + 1 => by
    have h1 := k_g_s6 hn t
    have h2 := m_k_s (ρ := ρ) (b := b) (sl := true) (k_on ρ b w t n (k_g ρ b w n T d t).1, (k_g ρ b w n T d t).2.1, 0) n
    have h3 : (k_g ρ b w n T d (t + 1)).2.2 = (k_g ρ b w n T d t).2.2 + (m_k ρ b true (k_on ρ b w t n (k_g ρ b w n T d t).1, (k_g ρ b w n T d t).2.1, 0) n).2.2 := rfl
    have h4 : ((k_on ρ b w t n (k_g ρ b w n T d t).1, (k_g ρ b w n T d t).2.1, (0 : Int)) : mS).2.2 = 0 := rfl
    rw [h4] at h2
    rw [h3]
    omega
/-- the letters are no more than a million -/
theorem k_let_b {t p : Nat} (wf : wfR n ρ) (h : m_ok n ρ T) (hp : p < n) (ht : t ≤ 60) (hb : -1000000 ≤ m_pu ρ b p (T p).toInt ∧ m_pu ρ b p (T p).toInt ≤ 1000000) (hh : 0 ≤ ρ p 5 ∧ ρ p 5 ≤ 1000000) : ∀ k, -1000000 ≤ k_let ρ b T t p k ∧ k_let ρ b T t p k ≤ 1000000 := fun k => by
  have n6 := wf.1
  have x1 := h p hp
  have L1 := (wf.2 p hp).1.2.1
  have c1 := m_pc_b wf (r := 2 * p + 1) (by omega) (x := (T p).toInt) (by rw [show (2 * p + 1) / 2 = p by omega]; exact x1)
  unfold k_let
  split
  · exact hb
  · split
    · omega
    · split
      · omega
      · split
        · omega
        · split
          · omega
          · split
            · omega
            · split <;> omega
/-- both rooms of a ROPE hang from one beam -/
theorem hT9_d {p : Nat} : hT9 ρ T (2 * p) - hT9 ρ T (2 * p + 1) = (T p).toInt - m_pc ρ (2 * p + 1) (T p).toInt := by
  have e1 : hT9 ρ T (2 * p) = m_pc ρ (2 * p) (T (2 * p / 2)).toInt + (if ρ (2 * p / 2) 8 < 0 then 0 else hz9 ρ (fun q => (T q).toInt) 5 (ρ (2 * p / 2) 8).toNat) := rfl
  have e2 : hT9 ρ T (2 * p + 1) = m_pc ρ (2 * p + 1) (T ((2 * p + 1) / 2)).toInt + (if ρ ((2 * p + 1) / 2) 8 < 0 then 0 else hz9 ρ (fun q => (T q).toInt) 5 (ρ ((2 * p + 1) / 2) 8).toNat) := rfl
  rw [e1, e2, show 2 * p / 2 = p by omega, show (2 * p + 1) / 2 = p by omega]
  have e3 : m_pc ρ (2 * p) (T p).toInt = (T p).toInt := if_pos (by omega)
  omega
end
/-- keep: what becomes of the town -/
def k9_kg (r : Nat) (τ : aN) (φ : zP) (k : Nat) : mS := k_g φ.2.2.1 (kb τ φ) (φ.2.2.2 r) τ.1 (φ.1 56) (φ.2.1 36) k
abbrev kKp (r k : Int32) (τ : aN) (φ : zP) : Prop := ¬ τ.1 = 0 ∧ (0 ≤ r.toInt ∧ r.toInt < (φ.1 50 7).toInt) ∧ 1 ≤ k.toInt ∧ k.toInt ≤ 60
def k9_keep (r k : Int32) (τ : aN) (φ : zP) : zP := if kKp r k τ φ then (s2 φ.1 56 (fun q => if q = 38 then φ.1 56 38 + k else (k9_kg r.toInt.toNat τ φ k.toInt.toNat).1 q), (fun q => if q = 36 then (k9_kg r.toInt.toNat τ φ k.toInt.toNat).2.1 else φ.2.1 q), φ.2.2) else φ
def b9_keep (r k : Int32) (τ : aN) (φ : zP) (v : Option Value) : Prop := ∃ x : Int32, v = some (.int x) ∧ (kKp r k τ φ ∧ x.toInt = (k9_kg r.toInt.toNat τ φ k.toInt.toNat).2.2 ∨ ¬ kKp r k τ φ ∧ x.toInt = -1)
section
variable {τ : aN} {φ : zP} {r k : Int32}
theorem p9_keep : p9 (k9_keep r k τ φ) = p9 φ := by
  unfold k9_keep
  split
  · unfold p9
    dsimp only
    rw [s2_n (by decide)]
  · rfl
end
