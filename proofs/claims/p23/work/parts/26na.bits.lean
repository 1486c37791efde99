/-! sets of rooms as numbers: how many they are, which are the lower ones -/
def b_pop : Nat → Nat → Nat
  | 0, _ => 0
  | n + 1, a => a % 2 + b_pop n (a / 2)
def b_rev : Nat → Nat → Nat
  | 0, _ => 0
  | n + 1, a => (a % 2) * 2 ^ n + b_rev n (a / 2)
/-- the lowest room in which two sets differ is of the first -/
def b_low : Nat → Nat → Nat → Prop
  | 0, _, _ => False
  | n + 1, a, b => (a % 2 = b % 2 → b_low n (a / 2) (b / 2)) ∧ (¬ a % 2 = b % 2 → a % 2 = 1)
/-- what it costs to leave a set out -/
def b_cst (a : Nat) : Int := 8192 * (b_pop 12 a : Int) - (b_rev 12 a : Int)
theorem b_rev_lt : ∀ (n a : Nat), b_rev n a < 2 ^ n
  | 0, a => by
    show (0 : Nat) < 2 ^ 0
    decide
  | n + 1, a => by
    have h1 := b_rev_lt n (a / 2)
    have h2 : a % 2 = 0 ∨ a % 2 = 1 := by omega
    unfold b_rev
    rw [Nat.pow_succ]
    rcases h2 with e | e
    · rw [e, Nat.zero_mul]
      omega
    · rw [e, Nat.one_mul]
      omega
theorem b_rev_low : ∀ (n a b : Nat), b_rev n b < b_rev n a ↔ b_low n a b
  | 0, a, b => ⟨fun h => absurd h (Nat.lt_irrefl 0), fun h => h.elim⟩
  | n + 1, a, b => by
    have h1 := b_rev_lt n (a / 2)
    have h2 := b_rev_lt n (b / 2)
    have ih := b_rev_low n (a / 2) (b / 2)
    have ea : a % 2 = 0 ∨ a % 2 = 1 := by omega
    have eb : b % 2 = 0 ∨ b % 2 = 1 := by omega
    unfold b_rev b_low
    rcases ea with ea | ea <;> rcases eb with eb | eb <;> rw [ea, eb]
    · rw [Nat.zero_mul, Nat.zero_add, Nat.zero_add, ih]
      exact ⟨fun z => ⟨fun _ => z, fun q => absurd rfl q⟩, fun z => z.1 rfl⟩
    · rw [Nat.zero_mul, Nat.one_mul]
      exact ⟨fun z => by omega, fun z => absurd (z.2 (by decide)) (by decide)⟩
    · rw [Nat.zero_mul, Nat.one_mul]
      exact ⟨fun z => ⟨fun q => absurd q (by decide), fun _ => rfl⟩, fun z => by omega⟩
    · rw [Nat.one_mul, Nat.add_lt_add_iff_left, ih]
      exact ⟨fun z => ⟨fun _ => z, fun q => absurd rfl q⟩, fun z => z.1 rfl⟩
theorem and_compl {m n : Nat} (h : m < 2 ^ n) : m &&& (2 ^ n - (m + 1)) = 0 := by
  refine Nat.eq_of_testBit_eq (fun i => ?_)
  rw [Nat.testBit_and, Nat.testBit_two_pow_sub_succ h, Nat.zero_testBit]
  cases m.testBit i <;> simp
theorem half_nz (z : Nat) : z ≠ 0 ↔ z / 2 ≠ 0 ∨ z % 2 = 1 := by omega
theorem b_and_low : ∀ (n a b : Nat), a < 2 ^ n → b < 2 ^ n → (a &&& (a ^^^ b) &&& (2 ^ n - (a ^^^ b)) ≠ 0 ↔ b_low n a b)
  | 0, a, b, ha, hb => by
    have ea : a = 0 := by have : (2 : Nat) ^ 0 = 1 := rfl; omega
    subst ea
    rw [Nat.zero_and, Nat.zero_and]
    exact ⟨fun h => absurd rfl h, fun h => h.elim⟩
  | n + 1, a, b, ha, hb => by
    have e2 : (2 : Nat) ^ (n + 1) = 2 * 2 ^ n := by rw [Nat.pow_succ, Nat.mul_comm]
    have hu := Nat.xor_lt_two_pow ha hb
    have hd : (a ^^^ b) / 2 = a / 2 ^^^ b / 2 := Nat.xor_div_two
    have hm := Nat.xor_mod_two_eq_one (a := a) (b := b)
    have ih := b_and_low n (a / 2) (b / 2) (by omega) (by omega)
    rw [← hd] at ih
    generalize a ^^^ b = u at *
    rw [half_nz, Nat.and_div_two, Nat.and_div_two, Nat.and_mod_two_eq_one, Nat.and_mod_two_eq_one]
    unfold b_low
    by_cases e : a % 2 = b % 2
    · have hu0 : u % 2 = 0 := by
        have : ¬ u % 2 = 1 := fun z => (hm.mp z) (by rw [e])
        omega
      have hg : (2 ^ (n + 1) - u) / 2 = 2 ^ n - u / 2 := by omega
      rw [hg, ih]
      exact ⟨fun z => ⟨fun _ => z.elim id (fun q => absurd q.1.2 (by omega)), fun q => absurd e q⟩, fun z => Or.inl (z.1 e)⟩
    · have hu1 : u % 2 = 1 := hm.mpr (fun z => e (by omega))
      have hg : (2 ^ (n + 1) - u) / 2 = 2 ^ n - (u / 2 + 1) := by omega
      have hg1 : (2 ^ (n + 1) - u) % 2 = 1 := by omega
      rw [hg, Nat.and_assoc, and_compl (by omega), Nat.and_zero]
      exact ⟨fun z => ⟨fun q => absurd q e, fun _ => z.elim (fun q => absurd rfl q) (fun q => q.1.1)⟩, fun z => Or.inr ⟨⟨z.2 e, hu1⟩, hg1⟩⟩
/-- fewer, or as many and the lower ones: it costs less -/
theorem b_cst_lt (a b : Nat) : b_cst a < b_cst b ↔ b_pop 12 a < b_pop 12 b ∨ b_pop 12 a = b_pop 12 b ∧ b_low 12 a b := by
  have h1 := b_rev_lt 12 a
  have h2 := b_rev_lt 12 b
  have h3 := b_rev_low 12 a b
  have h4 : (2 : Nat) ^ 12 = 4096 := rfl
  unfold b_cst
  rw [← h3]
  omega
theorem b_pop_or : ∀ (n a b : Nat), a &&& b = 0 → b_pop n (a ||| b) = b_pop n a + b_pop n b ∧ b_rev n (a ||| b) = b_rev n a + b_rev n b
  | 0, a, b, h => ⟨rfl, rfl⟩
  | n + 1, a, b, h => by
    have h1 : a / 2 &&& b / 2 = 0 := by rw [← Nat.and_div_two, h]
    have h2 : ¬ (a % 2 = 1 ∧ b % 2 = 1) := fun z => by
      have := Nat.and_mod_two_eq_one.mpr z
      rw [h] at this
      omega
    have h3 := Nat.or_mod_two_eq_one (a := a) (b := b)
    have h4 : (a ||| b) % 2 = a % 2 + b % 2 := by omega
    obtain ⟨i1, i2⟩ := b_pop_or n (a / 2) (b / 2) h1
    unfold b_pop b_rev
    rw [Nat.or_div_two, i1, i2, h4, Nat.add_mul]
    omega
theorem b_cst_or {a b : Nat} (h : a &&& b = 0) : b_cst (a ||| b) = b_cst a + b_cst b := by
  obtain ⟨h1, h2⟩ := b_pop_or 12 a b h
  unfold b_cst
  rw [h1, h2]
  push_cast
  omega
theorem b_cst_0 : b_cst 0 = 0 := by decide
theorem b_cst_1 : ∀ r, r < 12 → b_cst (2 ^ r) = 8192 - ((2 ^ (11 - r) : Nat) : Int) := by decide +kernel
theorem b_cst_b : ∀ a, a < 64 → ∀ b, b < 64 → 0 ≤ b_cst (64 * a + b) ∧ b_cst (64 * a + b) ≤ 98304 := by decide +kernel
theorem b_cst_nn {a : Nat} (h : a < 4096) : 0 ≤ b_cst a ∧ b_cst a ≤ 98304 := by
  have := b_cst_b (a / 64) (by omega) (a % 64) (by omega)
  rw [show 64 * (a / 64) + a % 64 = a by omega] at this
  exact this
/-- the set by what it costs: told by the share of each room -/
theorem b_sh_all : ∀ a, a < 64 → ∀ b, b < 64 → (b_cst (64 * a + b) + 8191) / 8192 * 8192 - b_cst (64 * a + b) = (b_rev 12 (64 * a + b) : Int) ∧ b_rev 12 (b_rev 12 (64 * a + b)) = 64 * a + b := by decide +kernel
theorem b_sh {a : Nat} (h : a < 4096) : (b_cst a + 8191) / 8192 * 8192 - b_cst a = (b_rev 12 a : Int) ∧ b_rev 12 (b_rev 12 a) = a := by
  have := b_sh_all (a / 64) (by omega) (a % 64) (by omega)
  rw [show 64 * (a / 64) + a % 64 = a by omega] at this
  exact this
