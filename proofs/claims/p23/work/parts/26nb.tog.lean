/-! TOGETHER: the least cost, said without a machine -/
def t_fm (f : Nat → Int) : Nat → Int
  | 0 => f 0
  | k + 1 => min (t_fm f k) (f (k + 1))
def t_off (W : Nat → Int) (r : Nat) (h : Int) : Int := if W r = -1 ∨ W r = h then 0 else 8192 - ((2 ^ (11 - r) : Nat) : Int)
/-- what hangs on a room -/
def t_hs (ρ : aRw) (r : Int) (g : Nat → Int) : Nat → Int
  | 0 => 0
  | q + 1 => t_hs ρ r g q + if ρ q 8 = r then g q else 0
/-- a ROPE with its X: its rooms, and what hangs on them -/
def t_at (n : Nat) (ρ : aRw) (W : Nat → Int) (g : Nat → Int → Int) (p : Nat) (b x : Int) : Int := (t_off W (2 * p) (b + x) + t_hs ρ ((2 * p : Nat) : Int) (fun q => g q (b + x)) n) + (t_off W (2 * p + 1) (b + f_pl ρ p 1 x) + t_hs ρ ((2 * p + 1 : Nat) : Int) (fun q => g q (b + f_pl ρ p 1 x)) n)
def t_n (ρ : aRw) (p : Nat) : Nat := (ρ p 1 / f_st ρ p).toNat
def t_C (n : Nat) (ρ : aRw) (W : Nat → Int) : Nat → Nat → Int → Int
  | 0, _, _ => 0
  | k + 1, p, b => t_fm (fun i => t_at n ρ W (t_C n ρ W k) p b (f_st ρ p * i)) (t_n ρ p)
theorem t_fm_le {f : Nat → Int} : ∀ (k i : Nat), i ≤ k → t_fm f k ≤ f i
  | 0, i, h => by
    have : i = 0 := by omega
    subst this
    exact Int.le_refl _
  | k + 1, i, h => by
    unfold t_fm
    by_cases c : i = k + 1
    · subst c
      omega
    · have := t_fm_le (f := f) k i (by omega)
      omega
theorem t_fm_ex {f : Nat → Int} : ∀ k : Nat, ∃ i, i ≤ k ∧ t_fm f k = f i
  | 0 => ⟨0, Nat.le_refl _, rfl⟩
  | k + 1 => by
    obtain ⟨i, h1, h2⟩ := t_fm_ex (f := f) k
    unfold t_fm
    by_cases c : t_fm f k ≤ f (k + 1)
    · exact ⟨i, by omega, by omega⟩
    · exact ⟨k + 1, Nat.le_refl _, by omega⟩
theorem t_fm_congr {f g : Nat → Int} : ∀ k : Nat, (∀ i, i ≤ k → f i = g i) → t_fm f k = t_fm g k
  | 0, h => h 0 (Nat.le_refl _)
  | k + 1, h => by
    unfold t_fm
    rw [t_fm_congr k (fun i hi => h i (by omega)), h (k + 1) (Nat.le_refl _)]
theorem t_hs_congr {ρ : aRw} {r : Int} {g g2 : Nat → Int} : ∀ n : Nat, (∀ q, q < n → ρ q 8 = r → g q = g2 q) → t_hs ρ r g n = t_hs ρ r g2 n
  | 0, _ => rfl
  | n + 1, h => by
    unfold t_hs
    rw [t_hs_congr n (fun q hq e => h q (by omega) e)]
    split
    · next e => rw [h n (by omega) e]
    · rfl
section
variable {n : Nat} {ρ : aRw} {W : Nat → Int}
theorem t_at_congr {g g2 : Nat → Int → Int} {p : Nat} {b x : Int} (h : ∀ q, q < n → p < q → ∀ d, g q d = g2 q d) (wf : wfR n ρ) : t_at n ρ W g p b x = t_at n ρ W g2 p b x := by
  unfold t_at
  rw [t_hs_congr (r := ((2 * p : Nat) : Int)) (g := fun q => g q (b + x)) (g2 := fun q => g2 q (b + x)) n (fun q hq e => h q hq (f_up (s := 0) wf hq e) _), t_hs_congr (r := ((2 * p + 1 : Nat) : Int)) (g := fun q => g q (b + f_pl ρ p 1 x)) (g2 := fun q => g2 q (b + f_pl ρ p 1 x)) n (fun q hq e => h q hq (f_up (s := 1) wf hq e) _)]
theorem t_C_fu (wf : wfR n ρ) : ∀ (k k' p : Nat) (b : Int), p < n → n ≤ p + k → n ≤ p + k' → t_C n ρ W k p b = t_C n ρ W k' p b
  | 0, _, p, b, h, h1, _ => by omega
  | k + 1, 0, p, b, h, _, h2 => by omega
  | k + 1, k' + 1, p, b, h, h1, h2 => by
    unfold t_C
    exact t_fm_congr _ (fun i _ => t_at_congr (fun q hq hp d => t_C_fu wf k k' q d hq (by omega) (by omega)) wf)
theorem t_G (wf : wfR n ρ) {p : Nat} {b : Int} (hp : p < n) : t_C n ρ W 6 p b = t_fm (fun i => t_at n ρ W (t_C n ρ W 6) p b (f_st ρ p * i)) (t_n ρ p) := by
  have h6 := wf.1
  show t_fm (fun i => t_at n ρ W (t_C n ρ W 5) p b (f_st ρ p * i)) (t_n ρ p) = _
  exact t_fm_congr _ (fun i _ => t_at_congr (fun q hq hp9 d => t_C_fu wf 5 6 q d hq (by omega) (by omega)) wf)
theorem t_off_b {r : Nat} (hr : r < 12) (h : Int) : 0 ≤ t_off W r h ∧ t_off W r h ≤ 8192 := by
  unfold t_off
  have h1 : 2 ^ (11 - r) ≤ 2 ^ 11 := Nat.pow_le_pow_right (by decide) (by omega)
  have h2 : (2 : Nat) ^ 11 = 2048 := rfl
  generalize 2 ^ (11 - r) = z at *
  split <;> omega
theorem t_hs_nn {r : Int} {g : Nat → Int} : ∀ n : Nat, (∀ q, q < n → ρ q 8 = r → 0 ≤ g q) → 0 ≤ t_hs ρ r g n
  | 0, _ => Int.le_refl _
  | n + 1, h => by
    unfold t_hs
    have := t_hs_nn n (fun q hq e => h q (by omega) e)
    split
    · next e =>
      have := h n (by omega) e
      omega
    · omega
theorem t_C_nn (wf : wfR n ρ) : ∀ (k p : Nat) (b : Int), p < n → 0 ≤ t_C n ρ W k p b
  | 0, p, b, _ => Int.le_refl _
  | k + 1, p, b, hp => by
    have h6 := wf.1
    unfold t_C
    obtain ⟨i, hi, e⟩ := t_fm_ex (f := fun i => t_at n ρ W (t_C n ρ W k) p b (f_st ρ p * i)) (t_n ρ p)
    rw [e]
    have h1 := t_off_b (W := W) (r := 2 * p) (by omega) (b + f_st ρ p * i)
    have h2 := t_off_b (W := W) (r := 2 * p + 1) (by omega) (b + f_pl ρ p 1 (f_st ρ p * i))
    have h3 := t_hs_nn (ρ := ρ) (r := ((2 * p : Nat) : Int)) (g := fun q => t_C n ρ W k q (b + f_st ρ p * i)) n (fun q hq _ => t_C_nn wf k q _ hq)
    have h4 := t_hs_nn (ρ := ρ) (r := ((2 * p + 1 : Nat) : Int)) (g := fun q => t_C n ρ W k q (b + f_pl ρ p 1 (f_st ρ p * i))) n (fun q hq _ => t_C_nn wf k q _ hq)
    show 0 ≤ t_at n ρ W (t_C n ρ W k) p b (f_st ρ p * i)
    unfold t_at
    omega
end
/-! which rooms hang on a ROPE, near or far -/
def t_up (ρ : aRw) : Nat → Nat → Nat → Prop
  | 0, _, _ => False
  | k + 1, c, q => c = q ∨ 0 ≤ ρ c 8 ∧ t_up ρ k ((ρ c 8).toNat / 2) q
def tUp (ρ : aRw) (c q : Nat) : Prop := ∃ k, t_up ρ k c q
section
variable {n : Nat} {ρ : aRw} {W : Nat → Int}
theorem t_car (wf : wfR n ρ) {c : Nat} (hc : c < n) (h : 0 ≤ ρ c 8) : (ρ c 8).toNat / 2 < c := by
  have h8 := (wf.2 c hc).1.2.2.2.2.2.2.2.2
  omega
theorem t_up_le (wf : wfR n ρ) : ∀ (k c q : Nat), c < n → t_up ρ k c q → q ≤ c
  | 0, c, q, _, h => h.elim
  | k + 1, c, q, hc, h => by
    rcases h with rfl | ⟨h0, h⟩
    · exact Nat.le_refl _
    · have h1 := t_car wf hc h0
      have := t_up_le wf k _ q (by omega) h
      omega
theorem t_up_two (wf : wfR n ρ) : ∀ (k k' c q1 q2 : Nat), c < n → t_up ρ k c q1 → t_up ρ k' c q2 → q1 < q2 → 0 ≤ ρ q2 8 ∧ q1 ≤ (ρ q2 8).toNat / 2
  | 0, _, c, q1, q2, _, h, _, _ => h.elim
  | k + 1, 0, c, q1, q2, _, _, h, _ => h.elim
  | k + 1, k' + 1, c, q1, q2, hc, h1, h2, hl => by
    rcases h2 with rfl | ⟨g0, h2⟩
    · rcases h1 with rfl | ⟨g0, h1⟩
      · omega
      · exact ⟨g0, t_up_le wf k _ q1 (by have := t_car wf hc g0; omega) h1⟩
    · have hc2 := t_car wf hc g0
      rcases h1 with rfl | ⟨_, h1⟩
      · have := t_up_le wf k' _ q2 (by omega) h2
        omega
      · exact t_up_two wf k k' _ q1 q2 (by omega) h1 h2 hl
theorem t_up_mono : ∀ (k c q : Nat), t_up ρ k c q → t_up ρ (k + 1) c q
  | 0, c, q, h => h.elim
  | k + 1, c, q, h => h.imp id (fun z => ⟨z.1, t_up_mono k _ q z.2⟩)
theorem t_up_ext : ∀ (k c q p : Nat), t_up ρ k c q → 0 ≤ ρ q 8 → (ρ q 8).toNat / 2 = p → t_up ρ (k + 1) c p
  | 0, c, q, p, h, _, _ => h.elim
  | k + 1, c, q, p, h, h0, e => by
    rcases h with rfl | ⟨g0, h⟩
    · exact Or.inr ⟨h0, Or.inl e⟩
    · exact Or.inr ⟨g0, t_up_ext k _ q p h h0 e⟩
theorem tUp.le (wf : wfR n ρ) {c q : Nat} (hc : c < n) (h : tUp ρ c q) : q ≤ c := h.elim (fun k h => t_up_le wf k c q hc h)
theorem tUp.ext {c q p : Nat} (h : tUp ρ c q) (h0 : 0 ≤ ρ q 8) (e : (ρ q 8).toNat / 2 = p) : tUp ρ c p := h.elim (fun k h => ⟨k + 1, t_up_ext k c q p h h0 e⟩)
theorem tUp.rf (c : Nat) : tUp ρ c c := ⟨1, Or.inl rfl⟩
/-- two that hang side by side carry nothing in common -/
theorem tUp.dis (wf : wfR n ρ) {c q1 q2 : Nat} (hc : c < n) (h1 : q1 < n) (h2 : q2 < n) (hn : q1 ≠ q2) (hs : ρ q1 8 = -1 ∧ ρ q2 8 = -1 ∨ 0 ≤ ρ q1 8 ∧ 0 ≤ ρ q2 8 ∧ (ρ q1 8).toNat / 2 = (ρ q2 8).toNat / 2) (g1 : tUp ρ c q1) (g2 : tUp ρ c q2) : False := by
  obtain ⟨k1, g1⟩ := g1
  obtain ⟨k2, g2⟩ := g2
  rcases Nat.lt_or_ge q1 q2 with l | l
  · have z := t_up_two wf k1 k2 c q1 q2 hc g1 g2 l
    rcases hs with ⟨_, e⟩ | ⟨e0, e1, e2⟩
    · omega
    · have := t_car wf h1 e0
      omega
  · have z := t_up_two wf k2 k1 c q2 q1 hc g2 g1 (by omega)
    rcases hs with ⟨e, _⟩ | ⟨e0, e1, e2⟩
    · omega
    · have := t_car wf h2 e1
      omega
/-- a set of rooms, all of them on this ROPE, near or far -/
def t_in (n : Nat) (ρ : aRw) (p a : Nat) : Prop := ∀ r, a.testBit r = true → r < 2 * n ∧ tUp ρ (r / 2) p
theorem and_dis {a b : Nat} (h : ∀ r, a.testBit r = true → b.testBit r = true → False) : a &&& b = 0 := by
  refine Nat.eq_of_testBit_eq (fun i => ?_)
  rw [Nat.testBit_and, Nat.zero_testBit]
  cases ha : a.testBit i with
  | false => rfl
  | true =>
    cases hb : b.testBit i with
    | false => rfl
    | true => exact (h i ha hb).elim
theorem or_in {a b p : Nat} (ha : t_in n ρ p a) (hb : t_in n ρ p b) : t_in n ρ p (a ||| b) := fun r hr => by
  rw [Nat.testBit_or, Bool.or_eq_true] at hr
  exact hr.elim (ha r) (hb r)
theorem t_in_0 (p : Nat) : t_in n ρ p 0 := fun r hr => by
  rw [Nat.zero_testBit] at hr
  cases hr
/-- sets of what hangs on a room, of the ROPES up to k -/
def t_on (n : Nat) (ρ : aRw) (r : Int) (k a : Nat) : Prop := ∀ i, a.testBit i = true → i < 2 * n ∧ ∃ q, q < k ∧ q < n ∧ ρ q 8 = r ∧ tUp ρ (i / 2) q
theorem t_on_0 (r : Int) (k : Nat) : t_on n ρ r k 0 := fun i hi => by
  rw [Nat.zero_testBit] at hi
  cases hi
theorem t_on_dis (wf : wfR n ρ) {r : Int} {k q a b : Nat} (hr : -1 ≤ r) (hk : k ≤ q) (hq : q < n) (e : ρ q 8 = r) (ha : t_on n ρ r k a) (hb : t_in n ρ q b) : a &&& b = 0 := and_dis (fun i h1 h2 => by
  obtain ⟨z1, q2, z2, z3, z4, z5⟩ := ha i h1
  obtain ⟨y1, y2⟩ := hb i h2
  refine tUp.dis wf (c := i / 2) (by omega) z3 hq (by omega) ?_ z5 y2
  rw [z4, e]
  by_cases c : r = -1
  · exact Or.inl ⟨c, c⟩
  · exact Or.inr ⟨by omega, by omega, rfl⟩)
theorem t_on_or {r : Int} {k q a b : Nat} (hk : k ≤ q) (hq : q < n) (e : ρ q 8 = r) (ha : t_on n ρ r k a) (hb : t_in n ρ q b) : t_on n ρ r (q + 1) (a ||| b) := fun i hi => by
  rw [Nat.testBit_or, Bool.or_eq_true] at hi
  rcases hi with hi | hi
  · obtain ⟨z1, q2, z2, z3⟩ := ha i hi
    exact ⟨z1, q2, by omega, z3⟩
  · obtain ⟨y1, y2⟩ := hb i hi
    exact ⟨y1, q, by omega, hq, e, y2⟩
theorem t_on_wk {r : Int} {k k2 a : Nat} (hk : k ≤ k2) (ha : t_on n ρ r k a) : t_on n ρ r k2 a := fun i hi => by
  obtain ⟨z1, q2, z2, z3⟩ := ha i hi
  exact ⟨z1, q2, by omega, z3⟩
/-- what hangs on a room is of its ROPE; the room itself isn't among it -/
theorem t_on_in {p s k a : Nat} (hs : s < 2) (ha : t_on n ρ ((2 * p + s : Nat) : Int) k a) : t_in n ρ p a := fun i hi => by
  obtain ⟨z1, q, z2, z3, z4, z5⟩ := ha i hi
  exact ⟨z1, z5.ext (by omega) (by omega)⟩
theorem t_one_in {p s : Nat} (hp : p < n) (hs : s < 2) : t_in n ρ p (2 ^ (2 * p + s)) := fun i hi => by
  rw [Nat.testBit_two_pow] at hi
  have hi := of_decide_eq_true hi
  subst hi
  rw [show (2 * p + s) / 2 = p by omega]
  exact ⟨by omega, tUp.rf p⟩
theorem t_one_on (wf : wfR n ρ) {p s s2 k a : Nat} (hs : s < 2) (hs2 : s2 < 2) (ha : t_on n ρ ((2 * p + s : Nat) : Int) k a) : 2 ^ (2 * p + s2) &&& a = 0 := and_dis (fun i h1 h2 => by
  rw [Nat.testBit_two_pow] at h1
  have h1 := of_decide_eq_true h1
  subst h1
  obtain ⟨z1, q, z2, z3, z4, z5⟩ := ha _ h2
  have g1 := f_up (s := s) wf z3 z4
  have g2 := z5.le wf (by omega)
  omega)
theorem t_on_on (wf : wfR n ρ) {p k1 k2 a b : Nat} (ha : t_on n ρ ((2 * p : Nat) : Int) k1 a) (hb : t_on n ρ ((2 * p + 1 : Nat) : Int) k2 b) : a &&& b = 0 := and_dis (fun i h1 h2 => by
  obtain ⟨z1, q1, _, z3, z4, z5⟩ := ha i h1
  obtain ⟨y1, q2, _, y3, y4, y5⟩ := hb i h2
  exact tUp.dis wf (c := i / 2) (by omega) z3 y3 (fun e => by rw [e] at z4; omega) (Or.inr ⟨by omega, by omega, by omega⟩) z5 y5)
end
section
variable {n : Nat} {ρ : aRw} {W : Nat → Int}
theorem in_lt (wf : wfR n ρ) {p a : Nat} (h : t_in n ρ p a) : a < 4096 := by
  have h6 := wf.1
  refine Nat.lt_pow_two_of_testBit (n := 12) a (fun i hi => ?_)
  cases e : a.testBit i with
  | false => rfl
  | true =>
    have := (h i e).1
    omega
theorem on_lt (wf : wfR n ρ) {r : Int} {k a : Nat} (h : t_on n ρ r k a) : a < 4096 := by
  have h6 := wf.1
  refine Nat.lt_pow_two_of_testBit (n := 12) a (fun i hi => ?_)
  cases e : a.testBit i with
  | false => rfl
  | true =>
    have := (h i e).1
    omega
/-- the room itself, if it is to be left out -/
def t_one (W : Nat → Int) (r : Nat) (h : Int) : Nat := if W r = -1 ∨ W r = h then 0 else 2 ^ r
theorem t_one_c {r : Nat} (hr : r < 12) (h : Int) : b_cst (t_one W r h) = t_off W r h := by
  unfold t_one t_off
  split
  · exact b_cst_0
  · exact b_cst_1 r hr
theorem t_one_i {p s : Nat} (hp : p < n) (hs : s < 2) (h : Int) : t_in n ρ p (t_one W (2 * p + s) h) := by
  unfold t_one
  split
  · exact t_in_0 p
  · exact t_one_in hp hs
theorem t_one_d (wf : wfR n ρ) {p s s2 k a : Nat} (hs : s < 2) (hs2 : s2 < 2) (h : Int) (ha : t_on n ρ ((2 * p + s : Nat) : Int) k a) : t_one W (2 * p + s2) h &&& a = 0 := by
  unfold t_one
  split
  · exact Nat.zero_and a
  · exact t_one_on wf hs hs2 ha
theorem pow_dis {i j : Nat} (h : i ≠ j) : 2 ^ i &&& 2 ^ j = 0 := and_dis (fun r h1 h2 => by
  rw [Nat.testBit_two_pow] at h1 h2
  exact h ((of_decide_eq_true h1).trans (of_decide_eq_true h2).symm))
theorem t_one_2 {p : Nat} (h h2 : Int) : t_one W (2 * p) h &&& t_one W (2 * p + 1) h2 = 0 := by
  unfold t_one
  split
  · exact Nat.zero_and _
  · split
    · exact Nat.and_zero _
    · exact pow_dis (by omega)
/-- both rooms of a ROPE and what hangs on them -/
theorem t_both (wf : wfR n ρ) {p a b : Nat} {h h2 : Int} (hp : p < n) (ha : t_on n ρ ((2 * p : Nat) : Int) n a) (hb : t_on n ρ ((2 * p + 1 : Nat) : Int) n b) : b_cst ((t_one W (2 * p) h ||| a) ||| (t_one W (2 * p + 1) h2 ||| b)) = (t_off W (2 * p) h + b_cst a) + (t_off W (2 * p + 1) h2 + b_cst b) ∧ t_in n ρ p ((t_one W (2 * p) h ||| a) ||| (t_one W (2 * p + 1) h2 ||| b)) := by
  have h6 := wf.1
  have d1 := t_one_d (W := W) wf (s := 0) (s2 := 0) (by decide) (by decide) h ha
  have d2 := t_one_d (W := W) wf (s := 1) (s2 := 1) (by decide) (by decide) h2 hb
  have d3 := t_one_d (W := W) wf (s := 1) (s2 := 0) (by decide) (by decide) h hb
  have d4 := t_one_d (W := W) wf (s := 0) (s2 := 1) (by decide) (by decide) h2 ha
  have d5 := t_on_on wf ha hb
  have d6 := t_one_2 (W := W) (p := p) h h2
  have d7 : (t_one W (2 * p) h ||| a) &&& (t_one W (2 * p + 1) h2 ||| b) = 0 := by
    rw [Nat.and_or_distrib_right, Nat.and_or_distrib_left, Nat.and_or_distrib_left, d6, d5, Nat.and_comm a, d4]
    have d3 : t_one W (2 * p) h &&& b = 0 := d3
    rw [d3]
    rfl
  have d1 : t_one W (2 * p) h &&& a = 0 := d1
  rw [b_cst_or d7, b_cst_or d1, b_cst_or d2, t_one_c (by omega), t_one_c (by omega)]
  exact ⟨rfl, or_in (or_in (t_one_i (s := 0) hp (by decide) h) (t_on_in (s := 0) (by decide) ha)) (or_in (t_one_i (s := 1) hp (by decide) h2) (t_on_in (s := 1) (by decide) hb))⟩
theorem t_hs_ex (wf : wfR n ρ) {r : Int} (hr : -1 ≤ r) {g : Nat → Int} (hg : ∀ q, q < n → ∃ a, t_in n ρ q a ∧ b_cst a = g q) : ∀ m : Nat, m ≤ n → ∃ a, t_on n ρ r m a ∧ b_cst a = t_hs ρ r g m
  | 0, _ => ⟨0, t_on_0 r 0, b_cst_0⟩
  | m + 1, hm => by
    obtain ⟨a, h1, h2⟩ := t_hs_ex wf hr hg m (by omega)
    unfold t_hs
    by_cases e : ρ m 8 = r
    · obtain ⟨b, h3, h4⟩ := hg m (by omega)
      rw [if_pos e]
      exact ⟨a ||| b, t_on_or (Nat.le_refl _) (by omega) e h1 h3, by rw [b_cst_or (t_on_dis wf hr (Nat.le_refl _) (by omega) e h1 h3), h2, h4]⟩
    · rw [if_neg e, Int.add_zero]
      exact ⟨a, t_on_wk (by omega) h1, h2⟩
/-- the least cost is the cost of some set -/
theorem t_ex (wf : wfR n ρ) : ∀ (k p : Nat) (b : Int), p < n → ∃ a, t_in n ρ p a ∧ b_cst a = t_C n ρ W k p b
  | 0, p, b, _ => ⟨0, t_in_0 p, b_cst_0⟩
  | k + 1, p, b, hp => by
    unfold t_C
    obtain ⟨i, hi, e⟩ := t_fm_ex (f := fun i => t_at n ρ W (t_C n ρ W k) p b (f_st ρ p * i)) (t_n ρ p)
    rw [e]
    obtain ⟨a1, g1, e1⟩ := t_hs_ex wf (r := ((2 * p : Nat) : Int)) (by omega) (g := fun q => t_C n ρ W k q (b + f_st ρ p * i)) (fun q hq => t_ex wf k q _ hq) n (Nat.le_refl _)
    obtain ⟨a2, g2, e2⟩ := t_hs_ex wf (r := ((2 * p + 1 : Nat) : Int)) (by omega) (g := fun q => t_C n ρ W k q (b + f_pl ρ p 1 (f_st ρ p * i))) (fun q hq => t_ex wf k q _ hq) n (Nat.le_refl _)
    obtain ⟨z1, z2⟩ := t_both (W := W) wf (h := b + f_st ρ p * i) (h2 := b + f_pl ρ p 1 (f_st ρ p * i)) hp g1 g2
    exact ⟨_, z2, by rw [z1, e1, e2]; rfl⟩
theorem t_C_b (wf : wfR n ρ) {p : Nat} (b : Int) (hp : p < n) (k : Nat) : 0 ≤ t_C n ρ W k p b ∧ t_C n ρ W k p b ≤ 98304 := by
  obtain ⟨a, h1, h2⟩ := t_ex (W := W) wf k p b hp
  rw [← h2]
  exact b_cst_nn (in_lt wf h1)
theorem t_at_b (wf : wfR n ρ) {p : Nat} (b x : Int) (hp : p < n) (k : Nat) : 0 ≤ t_at n ρ W (t_C n ρ W k) p b x ∧ t_at n ρ W (t_C n ρ W k) p b x ≤ 98304 := by
  obtain ⟨a1, g1, e1⟩ := t_hs_ex wf (r := ((2 * p : Nat) : Int)) (by omega) (g := fun q => t_C n ρ W k q (b + x)) (fun q hq => t_ex wf k q _ hq) n (Nat.le_refl _)
  obtain ⟨a2, g2, e2⟩ := t_hs_ex wf (r := ((2 * p + 1 : Nat) : Int)) (by omega) (g := fun q => t_C n ρ W k q (b + f_pl ρ p 1 x)) (fun q hq => t_ex wf k q _ hq) n (Nat.le_refl _)
  obtain ⟨z1, z2⟩ := t_both (W := W) wf (h := b + x) (h2 := b + f_pl ρ p 1 x) hp g1 g2
  have : t_at n ρ W (t_C n ρ W k) p b x = b_cst ((t_one W (2 * p) (b + x) ||| a1) ||| (t_one W (2 * p + 1) (b + f_pl ρ p 1 x) ||| a2)) := by rw [z1, e1, e2]; rfl
  rw [this]
  exact b_cst_nn (in_lt wf z2)
/-- all that hang on nothing -/
def t_all (n : Nat) (ρ : aRw) (W : Nat → Int) : Int := t_hs ρ (-1) (fun q => t_C n ρ W 6 q 0) n
theorem t_all_ex (wf : wfR n ρ) : ∃ a, a < 4096 ∧ b_cst a = t_all n ρ W := by
  obtain ⟨a, h1, h2⟩ := t_hs_ex wf (r := -1) (by decide) (g := fun q => t_C n ρ W 6 q 0) (fun q hq => t_ex wf 6 q _ hq) n (Nat.le_refl _)
  exact ⟨a, on_lt wf h1, h2⟩
end
/-- what together tells -/
def t_is (n : Nat) (ρ : aRw) (W : Nat → Int) (what v : Int) : Prop := (1 ≤ n ∧ 0 ≤ what ∧ what ≤ 1 → ∃ a : Nat, a < 4096 ∧ b_cst a = t_all n ρ W ∧ v = (if what = 1 then (a : Int) else if a = 0 then 1 else 0)) ∧ (¬ (1 ≤ n ∧ 0 ≤ what ∧ what ≤ 1) → v = -1)
theorem b_cst_inj {a b : Nat} (ha : a < 4096) (hb : b < 4096) (e : b_cst a = b_cst b) : a = b := by
  have h1 := b_sh ha
  have h2 := b_sh hb
  have h3 : b_rev 12 a = b_rev 12 b := by
    have := h1.1
    rw [e, h2.1] at this
    omega
  rw [← h1.2, ← h2.2, h3]
theorem t_is_un {n : Nat} {ρ : aRw} {W : Nat → Int} {what v u : Int} (h1 : t_is n ρ W what v) (h2 : t_is n ρ W what u) : v = u := by
  by_cases c : 1 ≤ n ∧ 0 ≤ what ∧ what ≤ 1
  · obtain ⟨a, a1, a2, a3⟩ := h1.1 c
    obtain ⟨b, b1, b2, b3⟩ := h2.1 c
    have e := b_cst_inj a1 b1 (a2.trans b2.symm)
    rw [a3, b3, e]
  · rw [h1.2 c, h2.2 c]
