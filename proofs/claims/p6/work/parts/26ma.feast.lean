/-! FEAST: which heights can be, said without a machine -/
def f_pl (ρ : aRw) (p s : Nat) (x : Int) : Int := if s = 0 then x else if ρ p 0 = 1 then (ρ p 1 - x) / 2 else ρ p 1 - x
def f_st (ρ : aRw) (p : Nat) : Int := if ρ p 0 = 1 then 2 else 1
def f_x (ρ : aRw) (p : Nat) (x : Int) : Prop := ∃ i : Nat, x = f_st ρ p * i ∧ x ≤ ρ p 1
/-- a ROPE and all that hangs on it can be so, d above its foot -/
def f_F (n : Nat) (ρ : aRw) (B : Nat → Prop) : Nat → Nat → Int → Prop
  | 0, _, _ => True
  | k + 1, p, d => ∃ x, f_x ρ p x ∧ ∀ s, s < 2 → (B (2 * p + s) → d = f_pl ρ p s x) ∧ ∀ q, q < n → ρ q 8 = ((2 * p + s : Nat) : Int) → f_F n ρ B k q (d - f_pl ρ p s x)
/-- a ROPE, or one that hangs on it, has a room that is asked -/
def f_K (n : Nat) (ρ : aRw) (B : Nat → Prop) : Nat → Nat → Prop
  | 0, _ => False
  | k + 1, p => ∃ s, s < 2 ∧ (B (2 * p + s) ∨ ∃ q, q < n ∧ ρ q 8 = ((2 * p + s : Nat) : Int) ∧ f_K n ρ B k q)
section
variable {n : Nat} {ρ : aRw} {B : Nat → Prop}
theorem f_st_b (ρ : aRw) (p : Nat) : 1 ≤ f_st ρ p ∧ f_st ρ p ≤ 2 := by
  unfold f_st
  split <;> omega
theorem f_x0 {p : Nat} {x : Int} (h : f_x ρ p x) : 0 ≤ x ∧ x ≤ ρ p 1 := by
  obtain ⟨i, e, h⟩ := h
  have b := f_st_b ρ p
  refine ⟨?_, h⟩
  rw [e]
  exact Int.mul_nonneg (by omega) (by omega)
theorem f_up (wf : wfR n ρ) {p q s : Nat} (hq : q < n) (e : ρ q 8 = ((2 * p + s : Nat) : Int)) : p < q := by
  have h8 := (wf.2 q hq).1.2.2.2.2.2.2.2.2
  omega
theorem f_pl_b (wf : wfR n ρ) {p s : Nat} {x : Int} (hp : p < n) (hx : f_x ρ p x) : 0 ≤ f_pl ρ p s x ∧ f_pl ρ p s x ≤ 20 := by
  have h1 := (wf.2 p hp).1.2.1
  have h2 := f_x0 hx
  unfold f_pl
  split
  · omega
  · split <;> omega
theorem f_F_fu (wf : wfR n ρ) : ∀ (k k' p : Nat) (d : Int), p < n → n ≤ p + k → n ≤ p + k' → f_F n ρ B k p d → f_F n ρ B k' p d
  | 0, _, p, d, h, h1, _, _ => by omega
  | k + 1, 0, p, d, h, _, h2, _ => by omega
  | k + 1, k' + 1, p, d, h, h1, h2, H => by
    obtain ⟨x, hx, H⟩ := H
    exact ⟨x, hx, fun s hs => ⟨(H s hs).1, fun q hq e => f_F_fu wf k k' q _ hq (by have := f_up wf hq e; omega) (by have := f_up wf hq e; omega) ((H s hs).2 q hq e)⟩⟩
theorem f_K_fu (wf : wfR n ρ) : ∀ (k k' p : Nat), p < n → n ≤ p + k → n ≤ p + k' → f_K n ρ B k p → f_K n ρ B k' p
  | 0, _, p, h, h1, _, _ => by omega
  | k + 1, 0, p, h, _, h2, _ => by omega
  | k + 1, k' + 1, p, h, h1, h2, H => by
    obtain ⟨s, hs, H⟩ := H
    refine ⟨s, hs, H.imp id ?_⟩
    rintro ⟨q, hq, e, H⟩
    have := f_up wf hq e
    exact ⟨q, hq, e, f_K_fu wf k k' q hq (by omega) (by omega) H⟩
theorem f_G (wf : wfR n ρ) {p : Nat} {d : Int} (hp : p < n) : f_F n ρ B 6 p d ↔ ∃ x, f_x ρ p x ∧ ∀ s, s < 2 → (B (2 * p + s) → d = f_pl ρ p s x) ∧ ∀ q, q < n → ρ q 8 = ((2 * p + s : Nat) : Int) → f_F n ρ B 6 q (d - f_pl ρ p s x) := by
  have h6 := wf.1
  constructor
  · intro H
    obtain ⟨x, hx, H⟩ := H
    exact ⟨x, hx, fun s hs => ⟨(H s hs).1, fun q hq e => f_F_fu wf 5 6 q _ hq (by have := f_up wf hq e; omega) (by omega) ((H s hs).2 q hq e)⟩⟩
  · rintro ⟨x, hx, H⟩
    exact ⟨x, hx, fun s hs => ⟨(H s hs).1, fun q hq e => f_F_fu wf 6 5 q _ hq (by omega) (by have := f_up wf hq e; omega) ((H s hs).2 q hq e)⟩⟩
theorem f_KG (wf : wfR n ρ) {p : Nat} (hp : p < n) : f_K n ρ B 6 p ↔ ∃ s, s < 2 ∧ (B (2 * p + s) ∨ ∃ q, q < n ∧ ρ q 8 = ((2 * p + s : Nat) : Int) ∧ f_K n ρ B 6 q) := by
  have h6 := wf.1
  constructor
  · rintro ⟨s, hs, H⟩
    refine ⟨s, hs, H.imp id ?_⟩
    rintro ⟨q, hq, e, H⟩
    have := f_up wf hq e
    exact ⟨q, hq, e, f_K_fu wf 5 6 q hq (by omega) (by omega) H⟩
  · rintro ⟨s, hs, H⟩
    refine ⟨s, hs, H.imp id ?_⟩
    rintro ⟨q, hq, e, H⟩
    have := f_up wf hq e
    exact ⟨q, hq, e, f_K_fu wf 6 5 q hq (by omega) (by omega) H⟩
/-- where nothing is asked all can be -/
theorem f_no (wf : wfR n ρ) : ∀ (k p : Nat) (d : Int), p < n → n ≤ p + k → ¬ f_K n ρ B k p → f_F n ρ B k p d
  | 0, p, d, _, _, _ => trivial
  | k + 1, p, d, hp, h1, hk => by
    have h2 := (wf.2 p hp).1.2.1
    refine ⟨0, ⟨0, by simp, by omega⟩, fun s hs => ⟨fun hb => absurd ⟨s, hs, Or.inl hb⟩ hk, fun q hq e => f_no wf k q _ hq (by have := f_up wf hq e; omega) (fun z => hk ⟨s, hs, Or.inr ⟨q, hq, e, z⟩⟩)⟩⟩
/-- what is asked bounds the height -/
theorem f_bd (wf : wfR n ρ) : ∀ (k p : Nat) (d : Int), p < n → n ≤ p + k → f_K n ρ B k p → f_F n ρ B k p d → 0 ≤ d ∧ d ≤ 20 * ((n : Int) - p)
  | 0, p, d, hp, h1, _, _ => by omega
  | k + 1, p, d, hp, h1, hk, H => by
    obtain ⟨s, hs, hk⟩ := hk
    obtain ⟨x, hx, H⟩ := H
    have b := f_pl_b wf (s := s) hp hx
    rcases hk with hk | ⟨q, hq, e, hk⟩
    · have := (H s hs).1 hk
      omega
    · have h3 := f_up wf hq e
      have := f_bd wf k q _ hq (by omega) hk ((H s hs).2 q hq e)
      omega
theorem f_no6 (wf : wfR n ρ) {p : Nat} (d : Int) (hp : p < n) (hk : ¬ f_K n ρ B 6 p) : f_F n ρ B 6 p d := f_no wf 6 p d hp (by have := wf.1; omega) hk
theorem f_bd6 (wf : wfR n ρ) {p : Nat} {d : Int} (hp : p < n) (hk : f_K n ρ B 6 p) (H : f_F n ρ B 6 p d) : 0 ≤ d ∧ d ≤ 120 := by
  have h6 := wf.1
  have := f_bd wf 6 p d hp (by omega) hk H
  omega
theorem f_top (wf : wfR n ρ) : ∀ (k q : Nat), q ≤ k → q < n → f_K n ρ B 6 q → ∃ p, p < n ∧ ρ p 8 = -1 ∧ f_K n ρ B 6 p
  | 0, q, hk, hq, H => by
    have h8 := (wf.2 q hq).1.2.2.2.2.2.2.2.2
    exact ⟨q, hq, by omega, H⟩
  | k + 1, q, hk, hq, H => by
    have h8 := (wf.2 q hq).1.2.2.2.2.2.2.2.2
    by_cases c : ρ q 8 = -1
    · exact ⟨q, hq, c, H⟩
    · have e : ρ q 8 = ((2 * ((ρ q 8).toNat / 2) + (ρ q 8).toNat % 2 : Nat) : Int) := by omega
      exact f_top wf k ((ρ q 8).toNat / 2) (by omega) (by omega) ((f_KG wf (by omega)).mpr ⟨(ρ q 8).toNat % 2, by omega, Or.inr ⟨q, hq, e, H⟩⟩)
theorem f_room (wf : wfR n ρ) {r : Nat} (hr : r < 2 * n) (hB : B r) : f_K n ρ B 6 (r / 2) := (f_KG wf (by omega)).mpr ⟨r % 2, by omega, Or.inl (by rw [show 2 * (r / 2) + r % 2 = r by omega]; exact hB)⟩
/-- all that hang on nothing -/
def f_all (n : Nat) (ρ : aRw) (B : Nat → Prop) (d : Int) : Prop := ∀ p, p < n → ρ p 8 = -1 → f_F n ρ B 6 p d
theorem f_all_b (wf : wfR n ρ) {r : Nat} {d : Int} (hr : r < 2 * n) (hB : B r) (H : f_all n ρ B d) : 0 ≤ d ∧ d ≤ 120 := by
  obtain ⟨p, hp, e, hk⟩ := f_top wf (r / 2) (r / 2) (Nat.le_refl _) (by omega) (f_room wf hr hB)
  exact f_bd6 wf hp hk (H p hp e)
/-- the least height, up to m; or none -/
def f_least (n : Nat) (ρ : aRw) (B : Nat → Prop) (m : Nat) (v : Int) : Prop := (∃ h : Nat, h ≤ m ∧ v = (h : Int) ∧ f_all n ρ B (h : Int) ∧ ∀ g : Nat, g < h → ¬ f_all n ρ B (g : Int)) ∨ v = -1 ∧ ∀ h : Nat, h ≤ m → ¬ f_all n ρ B (h : Int)
theorem f_least_un {m : Nat} {v w : Int} (h1 : f_least n ρ B m v) (h2 : f_least n ρ B m w) : v = w := by
  rcases h1 with ⟨a, ha, rfl, ha2, ha3⟩ | ⟨rfl, h1⟩
  · rcases h2 with ⟨b, hb, rfl, hb2, hb3⟩ | ⟨rfl, h2⟩
    · rcases Nat.lt_trichotomy a b with c | c | c
      · exact absurd ha2 (hb3 a c)
      · rw [c]
      · exact absurd hb2 (ha3 b c)
    · exact absurd ha2 (h2 a ha)
  · rcases h2 with ⟨b, hb, rfl, hb2, hb3⟩ | ⟨rfl, h2⟩
    · exact absurd hb2 (h1 b hb)
    · rfl
theorem f_least_m (wf : wfR n ρ) {r m : Nat} {v : Int} (hr : r < 2 * n) (hB : B r) (hm : 120 ≤ m) (H : f_least n ρ B m v) : f_least n ρ B 120 v := by
  rcases H with ⟨a, ha, rfl, ha2, ha3⟩ | ⟨rfl, h1⟩
  · exact Or.inl ⟨a, by have := f_all_b wf hr hB ha2; omega, rfl, ha2, ha3⟩
  · exact Or.inr ⟨rfl, fun h hh => h1 h (by omega)⟩
end
/-- what feast answers -/
def f_is (w : Int32) (n : Nat) (ρ : aRw) (v : Int) : Prop := (1 ≤ w.toInt ∧ w.toInt < (2 ^ (2 * n) : Nat) → f_least n ρ (fun r => bt9 w r = true) 120 v) ∧ (¬ (1 ≤ w.toInt ∧ w.toInt < (2 ^ (2 * n) : Nat)) → v = -1)
theorem f_is_un {w : Int32} {n : Nat} {ρ : aRw} {v u : Int} (h1 : f_is w n ρ v) (h2 : f_is w n ρ u) : v = u := by
  by_cases c : 1 ≤ w.toInt ∧ w.toInt < (2 ^ (2 * n) : Nat)
  · exact f_least_un (h1.1 c) (h2.1 c)
  · rw [h1.2 c, h2.2 c]
/-- some room is asked, and it is one of the ROPES' -/
theorem bt_lt (x : Int32) (k : Nat) (h0 : 0 ≤ x.toInt) (h : x.toInt < (2 ^ k : Nat)) : ∀ r, bt9 x r = true → r < k := by
  intro r hr
  have h2 : x.toBitVec.toNat < 2 ^ k := by
    rw [← Int32.toInt_toBitVec, BitVec.toInt_eq_toNat_cond] at h h0
    have := x.toBitVec.isLt
    split at h <;> split at h0 <;> omega
  rcases Nat.lt_or_ge r k with c | c
  · exact c
  · have h3 : x.toBitVec.toNat < 2 ^ r := Nat.lt_of_lt_of_le h2 (Nat.pow_le_pow_right (by decide) c)
    have h4 : x.toBitVec.toNat.testBit r = true := hr
    rw [Nat.testBit_lt_two_pow h3] at h4
    cases h4
theorem bt_ex (x : Int32) (h0 : 1 ≤ x.toInt) : ∃ r, bt9 x r = true := by
  have h2 : x.toBitVec.toNat ≠ 0 := by
    intro e
    rw [← Int32.toInt_toBitVec, BitVec.toInt_eq_toNat_cond, e] at h0
    simp at h0
  obtain ⟨r, hr⟩ := Nat.exists_testBit_of_ne_zero h2
  exact ⟨r, hr⟩
