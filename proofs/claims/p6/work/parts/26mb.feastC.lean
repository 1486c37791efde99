/-! bits of a word, up to 24 -/
theorem bt_div24 (x : Int32) (k : Nat) (hk : k < 24) : bt9 x k = true ↔ (x.toInt / (2 ^ k : Nat)) % 2 = 1 := by
  have h1 : bt9 x k = decide (x.toBitVec.toNat / 2 ^ k % 2 = 1) := Nat.testBit_eq_decide_div_mod_eq
  rw [h1, decide_eq_true_iff, ← Int32.toInt_toBitVec, BitVec.toInt_eq_toNat_cond]
  have h2 := x.toBitVec.isLt
  generalize x.toBitVec.toNat = n at h2 ⊢
  have h3 : k = 0 ∨ k = 1 ∨ k = 2 ∨ k = 3 ∨ k = 4 ∨ k = 5 ∨ k = 6 ∨ k = 7 ∨ k = 8 ∨ k = 9 ∨ k = 10 ∨ k = 11 ∨ k = 12 ∨ k = 13 ∨ k = 14 ∨ k = 15 ∨ k = 16 ∨ k = 17 ∨ k = 18 ∨ k = 19 ∨ k = 20 ∨ k = 21 ∨ k = 22 ∨ k = 23 := by omega
  rcases h3 with rfl | rfl | rfl | rfl | rfl | rfl | rfl | rfl | rfl | rfl | rfl | rfl | rfl | rfl | rfl | rfl | rfl | rfl | rfl | rfl | rfl | rfl | rfl | rfl <;> simp only [Nat.reducePow] <;> split <;> omega
theorem bt24_has {x k z v w : Int32} {kk : Nat} (hk : k.toInt = (kk : Int)) (h24 : kk < 24) (hz : z.toInt = 1) (e1 : v = x >>> (k &&& 31)) (e2 : w = v &&& z) : (w.toInt = 1 ↔ bt9 x kk = true) ∧ 0 ≤ w.toInt ∧ w.toInt ≤ 1 := by
  have hz2 : z = 1 := (kn_eq _ _).mpr (by rw [hz]; rfl)
  subst hz2
  have h1 : w.toInt = (x.toInt / (2 ^ kk : Nat)) % 2 := by rw [e2, and1, e1, kn_shr x k (by omega) hk]
  rw [bt_div24 x kk h24, h1]
  exact ⟨Iff.rfl, by omega, by omega⟩
theorem bt24_one : ∀ b, b < 24 → ∀ k, k < 24 → bt9 ((1 : Int32) <<< (Int32.ofNat b &&& 31)) k = decide (k = b) := by decide +kernel
theorem bt24_or {x k z v w : Int32} {kk : Nat} (hk : k.toInt = (kk : Int)) (h24 : kk < 24) (hz : z.toInt = 1) (e1 : v = z <<< (k &&& 31)) (e2 : w = x ||| v) : ∀ j, j < 24 → bt9 w j = (bt9 x j || decide (j = kk)) := by
  intro j hj
  have hz2 : z = 1 := (kn_eq _ _).mpr (by rw [hz]; rfl)
  have hk2 := kn_nat hk
  have h1 := bt24_one kk h24 j hj
  rw [← hk2] at h1
  subst hz2 e2
  rw [← h1, ← e1]
  unfold bt9
  rw [Int32.toBitVec_or, BitVec.getLsbD_or]
theorem and3 (x : Int32) : (x &&& 3).toInt = x.toInt % 4 := by
  rw [← Int32.toInt_toBitVec, ← Int32.toInt_toBitVec x, Int32.toBitVec_and]
  have h1 : (x.toBitVec &&& (3 : Int32).toBitVec).toNat = x.toBitVec.toNat % 4 := by
    rw [BitVec.toNat_and]
    exact Nat.and_two_pow_sub_one_eq_mod _ 2
  have h2 := x.toBitVec.isLt
  rw [BitVec.toInt_eq_toNat_cond, BitVec.toInt_eq_toNat_cond, h1]
  split <;> split <;> omega
theorem bt_shr {a y v : Int32} {k i : Nat} (hk : k + i < 24) (hi : i < 2) (hy : y.toInt = (k : Int)) (e : v = a >>> (y &&& 31)) : bt9 v i = true ↔ bt9 a (k + i) = true := by
  rw [bt_div24 v i (by omega), bt_div24 a (k + i) hk, e, kn_shr a y (by omega) hy, Int.ediv_ediv_of_nonneg (Int.natCast_nonneg _), ← Int.natCast_mul, ← Nat.pow_add]
/-- a ROPE, or one below it, is asked: by the class's word -/
def ak (a : Int32) (p : Nat) : Prop := bt9 a (2 * p) = true ∨ bt9 a (2 * p + 1) = true ∨ bt9 a (12 + 2 * p) = true ∨ bt9 a (12 + 2 * p + 1) = true
theorem ask_b {a y1 y2 z v1 v2 v3 v4 : Int32} {p : Nat} (hp : p < 6) (h1 : y1.toInt = ((2 * p : Nat) : Int)) (h2 : y2.toInt = ((12 + 2 * p : Nat) : Int)) (hz : z.toInt = 3) (e1 : v1 = a >>> (y1 &&& 31)) (e2 : v2 = a >>> (y2 &&& 31)) (e3 : v3 = v1 ||| v2) (e4 : v4 = v3 &&& z) : ¬ v4.toInt = 0 ↔ ak a p := by
  have hz2 : z = 3 := (kn_eq _ _).mpr (by rw [hz]; rfl)
  subst hz2
  have h4 : v4.toInt = v3.toInt % 4 := by rw [e4, and3]
  have b0 := bt_div24 v3 0 (by omega)
  have b1 := bt_div24 v3 1 (by omega)
  have or0 : ∀ i, bt9 v3 i = (bt9 v1 i || bt9 v2 i) := fun i => by
    rw [e3]
    unfold bt9
    rw [Int32.toBitVec_or, BitVec.getLsbD_or]
  have c1 := bt_shr (k := 2 * p) (i := 0) (by omega) (by omega) h1 e1
  have c2 := bt_shr (k := 2 * p) (i := 1) (by omega) (by omega) h1 e1
  have c3 := bt_shr (k := 12 + 2 * p) (i := 0) (by omega) (by omega) h2 e2
  have c4 := bt_shr (k := 12 + 2 * p) (i := 1) (by omega) (by omega) h2 e2
  have d0 : bt9 v3 0 = true ↔ bt9 v1 0 = true ∨ bt9 v2 0 = true := by rw [or0, Bool.or_eq_true]
  have d1 : bt9 v3 1 = true ↔ bt9 v1 1 = true ∨ bt9 v2 1 = true := by rw [or0, Bool.or_eq_true]
  have k0 : (¬ v4.toInt = 0) ↔ bt9 v3 0 = true ∨ bt9 v3 1 = true := by
    rw [b0, b1, h4]
    simp only [Nat.reducePow]
    omega
  rw [k0, d0, d1, c1, c2, c3, c4]
  unfold ak
  constructor
  · rintro ((q | q) | q | q)
    · exact Or.inl q
    · exact Or.inr (Or.inr (Or.inl q))
    · exact Or.inr (Or.inl q)
    · exact Or.inr (Or.inr (Or.inr q))
  · rintro (q | q | q | q)
    · exact Or.inl (Or.inl q)
    · exact Or.inr (Or.inl q)
    · exact Or.inl (Or.inr q)
    · exact Or.inr (Or.inr q)
/-- what canBe answers -/
def f_cb (n : Nat) (ρ : aRw) (a : Int32) (tab : Nat → Nat → Int32) (r : Nat) (d : Int) : Prop := (bt9 a r = true → d = 0) ∧ (bt9 a (12 + r) = true → ∀ q, r / 2 < q → q < n → ρ q 8 = (r : Int) → ak a q → 0 ≤ d ∧ d ≤ 120 ∧ ¬ (tab q d.toNat).toInt = 0)
def f_can (n : Nat) (ρ : aRw) (a : Int32) (tab : Nat → Nat → Int32) (p : Nat) (d x : Int) : Prop := f_cb n ρ a tab (2 * p) (d - x) ∧ f_cb n ρ a tab (2 * p + 1) (d - f_pl ρ p 1 x)
/-- the class's word behind the ROPE p: who carries what is asked -/
def f_j (n : Nat) (ρ : aRw) (B : Nat → Prop) (a : Int32) (p : Nat) : Prop := (∀ r, r < 12 → (bt9 a r = true ↔ B r)) ∧ ∀ r, r < 12 → (bt9 a (12 + r) = true ↔ ∃ q, p ≤ q ∧ q < n ∧ ρ q 8 = (r : Int) ∧ f_K n ρ B 6 q)
def f_t (n : Nat) (ρ : aRw) (B : Nat → Prop) (tab : Nat → Nat → Int32) (p : Nat) : Prop := ∀ q, p ≤ q → q < n → ∀ d : Nat, d ≤ 120 → (¬ (tab q d).toInt = 0 ↔ f_F n ρ B 6 q (d : Int))
section
variable {n : Nat} {ρ : aRw} {B : Nat → Prop} {a : Int32} {tab : Nat → Nat → Int32} {p : Nat}
theorem f_ak (wf : wfR n ρ) (J : f_j n ρ B a (p + 1)) {q : Nat} (hq : q < n) (hp : p ≤ q) : ak a q ↔ f_K n ρ B 6 q := by
  have h6 := wf.1
  rw [f_KG wf hq]
  unfold ak
  rw [J.1 (2 * q) (by omega), J.1 (2 * q + 1) (by omega), J.2 (2 * q) (by omega), show 12 + 2 * q + 1 = 12 + (2 * q + 1) by omega, J.2 (2 * q + 1) (by omega)]
  constructor
  · rintro (z | z | ⟨q2, z1, z2, z3, z4⟩ | ⟨q2, z1, z2, z3, z4⟩)
    · exact ⟨0, by decide, Or.inl z⟩
    · exact ⟨1, by decide, Or.inl z⟩
    · exact ⟨0, by decide, Or.inr ⟨q2, z2, z3, z4⟩⟩
    · exact ⟨1, by decide, Or.inr ⟨q2, z2, z3, z4⟩⟩
  · rintro ⟨s, hs, z | ⟨q2, z2, z3, z4⟩⟩
    · match s, hs, z with
      | 0, _, z => exact Or.inl z
      | 1, _, z => exact Or.inr (Or.inl z)
    · have h9 := f_up wf z2 z3
      match s, hs, z3 with
      | 0, _, z3 => exact Or.inr (Or.inr (Or.inl ⟨q2, by omega, z2, z3, z4⟩))
      | 1, _, z3 => exact Or.inr (Or.inr (Or.inr ⟨q2, by omega, z2, z3, z4⟩))
/-- one ROPE further down -/
theorem f_j_no (J : f_j n ρ B a (p + 1)) (h : ρ p 8 < 0 ∨ ¬ f_K n ρ B 6 p) : f_j n ρ B a p := by
  refine ⟨J.1, fun r hr => (J.2 r hr).trans ⟨fun ⟨q, z1, z2⟩ => ⟨q, by omega, z2⟩, fun ⟨q, z1, z2, z3, z4⟩ => ?_⟩⟩
  by_cases c : q = p
  · subst c
    rcases h with h | h
    · omega
    · exact absurd z4 h
  · exact ⟨q, by omega, z2, z3, z4⟩
theorem f_j_or {a2 : Int32} {u : Nat} (J : f_j n ρ B a (p + 1)) (hp : p < n) (hk : f_K n ρ B 6 p) (hu : ρ p 8 = (u : Int)) (hu2 : u < 12) (h : ∀ j, j < 24 → bt9 a2 j = (bt9 a j || decide (j = 12 + u))) : f_j n ρ B a2 p := by
  refine ⟨fun r hr => ?_, fun r hr => ?_⟩
  · rw [h r (by omega), ← J.1 r hr, decide_eq_false (by omega), Bool.or_false]
  · rw [h (12 + r) (by omega), Bool.or_eq_true, decide_eq_true_iff, J.2 r hr]
    constructor
    · rintro (⟨q, z1, z2⟩ | z)
      · exact ⟨q, by omega, z2⟩
      · exact ⟨p, Nat.le_refl _, hp, by omega, hk⟩
    · rintro ⟨q, z1, z2, z3, z4⟩
      by_cases c : q = p
      · subst c
        exact Or.inr (by omega)
      · exact Or.inl ⟨q, by omega, z2, z3, z4⟩
/-- the bits of this ROPE and of those behind it stay -/
theorem f_j_ak (wf : wfR n ρ) (J : f_j n ρ B a p) {q : Nat} (hq : q < n) (hp : p ≤ q) : ak a q ↔ f_K n ρ B 6 q := by
  have h6 := wf.1
  rw [f_KG wf hq]
  unfold ak
  rw [J.1 (2 * q) (by omega), J.1 (2 * q + 1) (by omega), J.2 (2 * q) (by omega), show 12 + 2 * q + 1 = 12 + (2 * q + 1) by omega, J.2 (2 * q + 1) (by omega)]
  constructor
  · rintro (z | z | ⟨q2, z1, z2, z3, z4⟩ | ⟨q2, z1, z2, z3, z4⟩)
    · exact ⟨0, by decide, Or.inl z⟩
    · exact ⟨1, by decide, Or.inl z⟩
    · exact ⟨0, by decide, Or.inr ⟨q2, z2, z3, z4⟩⟩
    · exact ⟨1, by decide, Or.inr ⟨q2, z2, z3, z4⟩⟩
  · rintro ⟨s, hs, z | ⟨q2, z2, z3, z4⟩⟩
    · match s, hs, z with
      | 0, _, z => exact Or.inl z
      | 1, _, z => exact Or.inr (Or.inl z)
    · have h9 := f_up wf z2 z3
      match s, hs, z3 with
      | 0, _, z3 => exact Or.inr (Or.inr (Or.inl ⟨q2, by omega, z2, z3, z4⟩))
      | 1, _, z3 => exact Or.inr (Or.inr (Or.inr ⟨q2, by omega, z2, z3, z4⟩))
theorem f_pl0 (ρ : aRw) (p : Nat) (x : Int) : f_pl ρ p 0 x = x := if_pos rfl
/-- canBe of one room, and what the document asks -/
theorem f_cb_iff (wf : wfR n ρ) (J : f_j n ρ B a p) (T : f_t n ρ B tab (p + 1)) (hp : p < n) {s : Nat} (hs : s < 2) (d : Int) : f_cb n ρ a tab (2 * p + s) d ↔ (B (2 * p + s) → d = 0) ∧ ∀ q, q < n → ρ q 8 = ((2 * p + s : Nat) : Int) → f_F n ρ B 6 q d := by
  have h6 := wf.1
  unfold f_cb
  rw [J.1 (2 * p + s) (by omega), J.2 (2 * p + s) (by omega)]
  constructor
  · rintro ⟨z1, z2⟩
    refine ⟨z1, fun q hq e => ?_⟩
    have h9 := f_up wf hq e
    by_cases hk : f_K n ρ B 6 q
    · obtain ⟨y1, y2, y3⟩ := z2 ⟨q, by omega, hq, e, hk⟩ q (by omega) hq e ((f_j_ak wf J hq (by omega)).mpr hk)
      have := (T q (by omega) hq d.toNat (by omega)).mp y3
      rw [show ((d.toNat : Nat) : Int) = d by omega] at this
      exact this
    · exact f_no6 wf d hq hk
  · rintro ⟨z1, z2⟩
    refine ⟨z1, fun _ q h9 hq e hk => ?_⟩
    have g := z2 q hq e
    have b := f_bd6 wf hq ((f_j_ak wf J hq (by omega)).mp hk) g
    refine ⟨b.1, b.2, (T q (by omega) hq d.toNat (by omega)).mpr ?_⟩
    rw [show ((d.toNat : Nat) : Int) = d by omega]
    exact g
theorem f_can_iff (wf : wfR n ρ) (J : f_j n ρ B a p) (T : f_t n ρ B tab (p + 1)) (hp : p < n) (d : Int) : (∃ x, f_x ρ p x ∧ f_can n ρ a tab p d x) ↔ f_F n ρ B 6 p d := by
  rw [f_G wf hp]
  constructor
  · rintro ⟨x, hx, c0, c1⟩
    refine ⟨x, hx, fun s hs => ?_⟩
    match s, hs with
    | 0, _ =>
      have c := (f_cb_iff wf J T hp (s := 0) (by decide) _).mp c0
      rw [f_pl0]
      exact ⟨fun z => by have := c.1 z; omega, c.2⟩
    | 1, _ =>
      have c := (f_cb_iff wf J T hp (s := 1) (by decide) _).mp c1
      exact ⟨fun z => by have := c.1 z; omega, c.2⟩
  · rintro ⟨x, hx, H⟩
    refine ⟨x, hx, (f_cb_iff wf J T hp (s := 0) (by decide) _).mpr ?_, (f_cb_iff wf J T hp (s := 1) (by decide) _).mpr ?_⟩
    · have H0 := H 0 (by decide)
      rw [f_pl0] at H0
      exact ⟨fun z => by have := H0.1 z; omega, H0.2⟩
    · have H1 := H 1 (by decide)
      exact ⟨fun z => by have := H1.1 z; omega, H1.2⟩
end
section
variable {l : Launch} {D : va_G} {tys : List (ClassId × FieldType)} {A : Nat → Prop} {X : State → Prop} {fr lo : Nat} {Q : Option Value → ch_H → Prop} {cA : Nat → ClassId} {h : ch_H} {ρ : aRw} {tab : Nat → Nat → Int32}
theorem c_isAsked {ft : Nat} {ts : List Value} {a : Int32} (c_ft : h ft = some (.inr (0, ts))) (t2 : ts[2]? = some (.int a)) {p : Int32} (hp : 0 ≤ p.toInt ∧ p.toInt ≤ 5) (hq : ∀ v : Int32, 0 ≤ v.toInt ∧ v.toInt ≤ 1 ∧ (¬ v.toInt = 0 ↔ ak a p.toInt.toNat) → Q (some (.int v)) h) : ww l D tys A X fr lo mX0_isAsked Q 0 [(0, .ref ft), (1, .int p)] [] h := by
  refine w_aload_n (List.Mem.head _) (tX0_isAsked_0_ok (0, .aload_n 0, 1) (List.mem_of_getElem? (i := 0) rfl)) ?_
  refine w_get (own := 5) rfl rfl (by decide) c_ft t2 (tX0_isAsked_0_ok (1, .getfield 58, 3) (List.mem_of_getElem? (i := 1) rfl)) ?_
  refine w_iconst (by decide) (tX0_isAsked_0_ok (4, .iconst 2, 1) (List.mem_of_getElem? (i := 2) rfl)) (fun yv1 ye2 => ?_)
  refine w_iload_n (List.Mem.tail _ (List.Mem.head _)) (tX0_isAsked_0_ok (5, .iload_n 1, 1) (List.mem_of_getElem? (i := 3) rfl)) ?_
  refine w_imul (by assumption) (by omega) (by omega) (tX0_isAsked_0_ok (6, .imul, 1) (List.mem_of_getElem? (i := 4) rfl)) (fun yv3 ye4 => ?_)
  refine w_ishr (tX0_isAsked_0_ok (7, .ishr, 1) (List.mem_of_getElem? (i := 5) rfl)) (fun yv5 ye6 => ?_)
  refine w_aload_n (List.Mem.head _) (tX0_isAsked_0_ok (8, .aload_n 0, 1) (List.mem_of_getElem? (i := 6) rfl)) ?_
  refine w_get (own := 5) rfl rfl (by decide) c_ft t2 (tX0_isAsked_0_ok (9, .getfield 58, 3) (List.mem_of_getElem? (i := 7) rfl)) ?_
  refine w_bipush (by decide) (tX0_isAsked_0_ok (12, .bipush 12, 2) (List.mem_of_getElem? (i := 8) rfl)) (fun yv7 ye8 => ?_)
  refine w_iconst (by decide) (tX0_isAsked_0_ok (14, .iconst 2, 1) (List.mem_of_getElem? (i := 9) rfl)) (fun yv9 ye10 => ?_)
  refine w_iload_n (List.Mem.tail _ (List.Mem.head _)) (tX0_isAsked_0_ok (15, .iload_n 1, 1) (List.mem_of_getElem? (i := 10) rfl)) ?_
  refine w_imul (by assumption) (by omega) (by omega) (tX0_isAsked_0_ok (16, .imul, 1) (List.mem_of_getElem? (i := 11) rfl)) (fun yv11 ye12 => ?_)
  refine w_iadd (by omega) (by omega) (tX0_isAsked_0_ok (17, .iadd, 1) (List.mem_of_getElem? (i := 12) rfl)) (fun yv13 ye14 => ?_)
  refine w_ishr (tX0_isAsked_0_ok (18, .ishr, 1) (List.mem_of_getElem? (i := 13) rfl)) (fun yv15 ye16 => ?_)
  refine w_ior (tX0_isAsked_0_ok (19, .ior, 1) (List.mem_of_getElem? (i := 14) rfl)) (fun yv17 ye18 => ?_)
  refine w_iconst (by decide) (tX0_isAsked_0_ok (20, .iconst 3, 1) (List.mem_of_getElem? (i := 15) rfl)) (fun yv19 ye20 => ?_)
  refine w_iand (tX0_isAsked_0_ok (21, .iand, 1) (List.mem_of_getElem? (i := 16) rfl)) (fun yv21 ye22 => ?_)
  have d9 := ask_b (p := p.toInt.toNat) (by omega) (by omega) (by omega) (by omega) ye6 ye16 ye18 ye22
  refine w_if_eq (tgt := 29) (tX0_isAsked_0_ok (22, .ifCond .eq 7, 3) (List.mem_of_getElem? (i := 17) rfl)) rfl (fun yb23 => ?_) (fun yb23 => ?_)
  · refine w_iconst (by decide) (tX0_isAsked_0_ok (29, .iconst 0, 1) (List.mem_of_getElem? (i := 20) rfl)) (fun yv24 ye25 => ?_)
    refine w_zret rfl (by omega) (by omega) (tX0_isAsked_0_ok (30, .ireturn, 1) (List.mem_of_getElem? (i := 21) rfl)) ?_
    refine hq _ ?_
    exact ⟨by omega, by omega, ⟨fun q => d9.mp (by omega), fun q => by have q2 := d9.mpr q; omega⟩⟩
  · refine w_iconst (by decide) (tX0_isAsked_0_ok (25, .iconst 1, 1) (List.mem_of_getElem? (i := 18) rfl)) (fun yv26 ye27 => ?_)
    refine w_goto (tgt := 30) (tX0_isAsked_0_ok (26, .goto 4, 3) (List.mem_of_getElem? (i := 19) rfl)) rfl ?_
    refine w_zret rfl (by omega) (by omega) (tX0_isAsked_0_ok (30, .ireturn, 1) (List.mem_of_getElem? (i := 21) rfl)) ?_
    refine hq _ ?_
    exact ⟨by omega, by omega, ⟨fun q => d9.mp (by omega), fun q => by have q2 := d9.mpr q; omega⟩⟩
theorem c_cbL (hT : k_tys tys cA) {ft : Nat} {ts : List Value} {a : Int32} (c_ft : h ft = some (.inr (0, ts))) (t2 : ts[2]? = some (.int a)) {tb : Nat} {F : Nat → Option Nat} {tr : Nat → Nat} (t0 : ts[0]? = some (.ref tb)) (c_tb : h tb = some (.inl (cA 5, 6, .inr (.inr (.inr (.inr F)))))) (hF : ∀ i, i < 6 → F i = some (tr i)) (c_rw : ∀ i, i < 6 → h (tr i) = some (.inl (cA 0, 121, .inl (tab i)))) {pl pk pn ph : Nat} {ps : List Value} {gK gN gH : Nat → Int32} {nn : Int32} (c_pl : h pl = some (.inr (4, ps))) (p0 : ps[0]? = some (.int nn)) (p1 : ps[1]? = some (.ref pk)) (p2 : ps[2]? = some (.ref pn)) (p8 : ps[8]? = some (.ref ph)) (c_pk : h pk = some (.inl (cA 0, 6, .inl gK))) (c_pn : h pn = some (.inl (cA 0, 6, .inl gN))) (c_ph : h ph = some (.inl (cA 0, 6, .inl gH))) (hn : 0 ≤ nn.toInt ∧ nn.toInt ≤ 6) (hρ : ∀ q, q < nn.toInt.toNat → (gK q).toInt = ρ q 0 ∧ (gN q).toInt = ρ q 1 ∧ (gH q).toInt = ρ q 8) {r d : Int32} (hf : 1 ≤ fr) (hl : 30 ≤ lo) (hr : 0 ≤ r.toInt ∧ r.toInt ≤ 11) : ∀ (j : Nat) (q : Int32), q.toInt + j = nn.toInt → r.toInt / 2 < q.toInt → (∀ q9, r.toInt.toNat / 2 < q9 → q9 < q.toInt.toNat → ρ q9 8 = (r.toInt.toNat : Int) → ak a q9 → 0 ≤ d.toInt ∧ d.toInt ≤ 120 ∧ ¬ (tab q9 d.toInt.toNat).toInt = 0) → (∀ v : Int32, (v.toInt = 1 ∧ (∀ q9, r.toInt.toNat / 2 < q9 → q9 < nn.toInt.toNat → ρ q9 8 = (r.toInt.toNat : Int) → ak a q9 → 0 ≤ d.toInt ∧ d.toInt ≤ 120 ∧ ¬ (tab q9 d.toInt.toNat).toInt = 0) ∨ v.toInt = 0 ∧ ¬ (∀ q9, r.toInt.toNat / 2 < q9 → q9 < nn.toInt.toNat → ρ q9 8 = (r.toInt.toNat : Int) → ak a q9 → 0 ≤ d.toInt ∧ d.toInt ≤ 120 ∧ ¬ (tab q9 d.toInt.toNat).toInt = 0)) → Q (some (.int v)) h) → ww l D tys A X fr lo mX0_canBe Q 40 [(4, .int q), (0, .ref ft), (1, .ref pl), (2, .int r), (3, .int d)] [] h := by
  intro j
  induction j using Nat.strongRecOn with
  | ind j ih =>
    intro q hj hq0 hi hq
    refine w_iload (List.Mem.head _) (tX0_canBe_0_ok (40, .iload 4, 2) (List.mem_of_getElem? (i := 28) rfl)) ?_
    refine w_aload_n (List.Mem.tail _ (List.Mem.tail _ (List.Mem.head _))) (tX0_canBe_0_ok (42, .aload_n 1, 1) (List.mem_of_getElem? (i := 29) rfl)) ?_
    refine w_get (own := 5) rfl rfl (by decide) c_pl p0 (tX0_canBe_0_ok (43, .getfield 24, 3) (List.mem_of_getElem? (i := 30) rfl)) ?_
    refine w_icmp_ge (tgt := 99) (tX0_canBe_0_ok (46, .if_icmp .ge 53, 3) (List.mem_of_getElem? (i := 31) rfl)) rfl (fun zb1 => ?_) (fun zb1 => ?_)
    · refine w_iconst (by decide) (tX0_canBe_0_ok (99, .iconst 1, 1) (List.mem_of_getElem? (i := 58) rfl)) (fun zv2 ze3 => ?_)
      refine w_zret rfl (by omega) (by omega) (tX0_canBe_0_ok (100, .ireturn, 1) (List.mem_of_getElem? (i := 59) rfl)) ?_
      exact hq _ (Or.inl ⟨by omega, fun q9 h1 h2 h3 h4 => hi q9 h1 (by omega) h3 h4⟩)
    · refine w_aload_n (List.Mem.tail _ (List.Mem.tail _ (List.Mem.head _))) (tX0_canBe_0_ok (49, .aload_n 1, 1) (List.mem_of_getElem? (i := 32) rfl)) ?_
      refine w_get (own := 5) rfl rfl (by decide) c_pl p8 (tX0_canBe_0_ok (50, .getfield 34, 3) (List.mem_of_getElem? (i := 33) rfl)) ?_
      refine w_iload (List.Mem.head _) (tX0_canBe_0_ok (53, .iload 4, 2) (List.mem_of_getElem? (i := 34) rfl)) ?_
      refine w_iald hT c_ph (by omega) (by omega) (tX0_canBe_0_ok (55, .iaload, 1) (List.mem_of_getElem? (i := 35) rfl)) (fun zv4 ze5 => ?_)
      have zz6 := (hρ q.toInt.toNat (by omega)).2.2
      refine w_iload_n (List.Mem.tail _ (List.Mem.tail _ (List.Mem.tail _ (List.Mem.head _)))) (tX0_canBe_0_ok (56, .iload_n 2, 1) (List.mem_of_getElem? (i := 36) rfl)) ?_
      refine w_icmp_ne (tgt := 93) (tX0_canBe_0_ok (57, .if_icmp .ne 36, 3) (List.mem_of_getElem? (i := 37) rfl)) rfl (fun zb7 => ?_) (fun zb7 => ?_)
      · refine w_iinc (fun zv8 => [(4, .int zv8), (0, .ref ft), (1, .ref pl), (2, .int r), (3, .int d)]) (fun _ => rfl) (List.Mem.head _) (Nat.le_of_ble_eq_true rfl) (by decide) (by omega) (by omega) (tX0_canBe_0_ok (93, .iinc 4 1, 3) (List.mem_of_getElem? (i := 56) rfl)) (fun zv8 ze9 => ?_)
        refine w_goto (tgt := 40) (tX0_canBe_0_ok (96, .goto (-56), 3) (List.mem_of_getElem? (i := 57) rfl)) rfl ?_
        refine w_lv [(4, .int zv8), (0, .ref ft), (1, .ref pl), (2, .int r), (3, .int d)] (by intro q hq; simp only [List.mem_cons, List.not_mem_nil, or_false] at hq ⊢; rcases hq with e | e | e | e | e <;> subst e <;> simp) ?_
        refine ih (j - 1) (by omega) _ (by omega) (by omega) (fun q9 h1 h2 h3 h4 => ?_) hq
        by_cases c9 : q9 = q.toInt.toNat
        · subst c9
          exact absurd h3 (by omega)
        · exact hi q9 h1 (by omega) h3 h4
      · refine w_aload_n (List.Mem.tail _ (List.Mem.head _)) (tX0_canBe_0_ok (60, .aload_n 0, 1) (List.mem_of_getElem? (i := 38) rfl)) ?_
        refine w_iload (List.Mem.head _) (tX0_canBe_0_ok (61, .iload 4, 2) (List.mem_of_getElem? (i := 39) rfl)) ?_
        refine w_callV (own := 5) (mi := 18) [.int q] [] [(0, .ref ft), (1, .int q)] rfl (cllw_X0 (61, 0, 18) (List.mem_of_getElem? (i := 6) rfl)) rfl rfl c_ft rfl (by omega) (w_lo (n := 21) rfl (by omega)) (Nat.le_of_ble_eq_true rfl) (Nat.le_of_ble_eq_true rfl) rfl (tX0_canBe_0_ok (63, .invokevirtual 61, 3) (List.mem_of_getElem? (i := 40) rfl)) (c_isAsked c_ft t2 (by omega) (fun zv10 ze11 => ?_))
        obtain ⟨ze11a, ze11b, ze11c⟩ := ze11
        show ww l D tys A X fr lo mX0_canBe Q 66 [(4, .int q), (0, .ref ft), (1, .ref pl), (2, .int r), (3, .int d)] [.int zv10] h
        refine w_if_eq (tgt := 93) (tX0_canBe_0_ok (66, .ifCond .eq 27, 3) (List.mem_of_getElem? (i := 41) rfl)) rfl (fun zb12 => ?_) (fun zb12 => ?_)
        · refine w_iinc (fun zv13 => [(4, .int zv13), (0, .ref ft), (1, .ref pl), (2, .int r), (3, .int d)]) (fun _ => rfl) (List.Mem.head _) (Nat.le_of_ble_eq_true rfl) (by decide) (by omega) (by omega) (tX0_canBe_0_ok (93, .iinc 4 1, 3) (List.mem_of_getElem? (i := 56) rfl)) (fun zv13 ze14 => ?_)
          refine w_goto (tgt := 40) (tX0_canBe_0_ok (96, .goto (-56), 3) (List.mem_of_getElem? (i := 57) rfl)) rfl ?_
          refine w_lv [(4, .int zv13), (0, .ref ft), (1, .ref pl), (2, .int r), (3, .int d)] (by intro q hq; simp only [List.mem_cons, List.not_mem_nil, or_false] at hq ⊢; rcases hq with e | e | e | e | e <;> subst e <;> simp) ?_
          refine ih (j - 1) (by omega) _ (by omega) (by omega) (fun q9 h1 h2 h3 h4 => ?_) hq
          by_cases c9 : q9 = q.toInt.toNat
          · subst c9
            exact absurd (ze11c.mpr h4) (by omega)
          · exact hi q9 h1 (by omega) h3 h4
        · refine w_iload_n (List.Mem.tail _ (List.Mem.tail _ (List.Mem.tail _ (List.Mem.tail _ (List.Mem.head _))))) (tX0_canBe_0_ok (69, .iload_n 3, 1) (List.mem_of_getElem? (i := 42) rfl)) ?_
          refine w_if_lt (tgt := 91) (tX0_canBe_0_ok (70, .ifCond .lt 21, 3) (List.mem_of_getElem? (i := 43) rfl)) rfl (fun zb15 => ?_) (fun zb15 => ?_)
          · refine w_iconst (by decide) (tX0_canBe_0_ok (91, .iconst 0, 1) (List.mem_of_getElem? (i := 54) rfl)) (fun zv16 ze17 => ?_)
            refine w_zret rfl (by omega) (by omega) (tX0_canBe_0_ok (92, .ireturn, 1) (List.mem_of_getElem? (i := 55) rfl)) ?_
            refine hq _ (Or.inr ⟨by omega, fun z => ?_⟩)
            obtain ⟨y1, y2, y3⟩ := z q.toInt.toNat (by omega) (by omega) (by omega) (ze11c.mp (by omega))
            omega
          · refine w_iload_n (List.Mem.tail _ (List.Mem.tail _ (List.Mem.tail _ (List.Mem.tail _ (List.Mem.head _))))) (tX0_canBe_0_ok (73, .iload_n 3, 1) (List.mem_of_getElem? (i := 44) rfl)) ?_
            refine w_bipush (by decide) (tX0_canBe_0_ok (74, .bipush 120, 2) (List.mem_of_getElem? (i := 45) rfl)) (fun zv18 ze19 => ?_)
            refine w_icmp_gt (tgt := 91) (tX0_canBe_0_ok (76, .if_icmp .gt 15, 3) (List.mem_of_getElem? (i := 46) rfl)) rfl (fun zb20 => ?_) (fun zb20 => ?_)
            · refine w_iconst (by decide) (tX0_canBe_0_ok (91, .iconst 0, 1) (List.mem_of_getElem? (i := 54) rfl)) (fun zv21 ze22 => ?_)
              refine w_zret rfl (by omega) (by omega) (tX0_canBe_0_ok (92, .ireturn, 1) (List.mem_of_getElem? (i := 55) rfl)) ?_
              refine hq _ (Or.inr ⟨by omega, fun z => ?_⟩)
              obtain ⟨y1, y2, y3⟩ := z q.toInt.toNat (by omega) (by omega) (by omega) (ze11c.mp (by omega))
              omega
            · refine w_aload_n (List.Mem.tail _ (List.Mem.head _)) (tX0_canBe_0_ok (79, .aload_n 0, 1) (List.mem_of_getElem? (i := 47) rfl)) ?_
              refine w_get (own := 5) rfl rfl (by decide) c_ft t0 (tX0_canBe_0_ok (80, .getfield 13, 3) (List.mem_of_getElem? (i := 48) rfl)) ?_
              refine w_iload (List.Mem.head _) (tX0_canBe_0_ok (83, .iload 4, 2) (List.mem_of_getElem? (i := 49) rfl)) ?_
              refine w_aald (b := tr q.toInt.toNat) hT c_tb (by omega) (by omega) (by rw [hF q.toInt.toNat (by omega)]; rfl) (tX0_canBe_0_ok (85, .aaload, 1) (List.mem_of_getElem? (i := 50) rfl)) ?_
              refine w_iload_n (List.Mem.tail _ (List.Mem.tail _ (List.Mem.tail _ (List.Mem.tail _ (List.Mem.head _))))) (tX0_canBe_0_ok (86, .iload_n 3, 1) (List.mem_of_getElem? (i := 51) rfl)) ?_
              refine w_iald hT (c_rw q.toInt.toNat (by omega)) (by omega) (by omega) (tX0_canBe_0_ok (87, .iaload, 1) (List.mem_of_getElem? (i := 52) rfl)) (fun zv23 ze24 => ?_)
              refine w_if_ne (tgt := 93) (tX0_canBe_0_ok (88, .ifCond .ne 5, 3) (List.mem_of_getElem? (i := 53) rfl)) rfl (fun zb25 => ?_) (fun zb25 => ?_)
              · refine w_iinc (fun zv26 => [(4, .int zv26), (0, .ref ft), (1, .ref pl), (2, .int r), (3, .int d)]) (fun _ => rfl) (List.Mem.head _) (Nat.le_of_ble_eq_true rfl) (by decide) (by omega) (by omega) (tX0_canBe_0_ok (93, .iinc 4 1, 3) (List.mem_of_getElem? (i := 56) rfl)) (fun zv26 ze27 => ?_)
                refine w_goto (tgt := 40) (tX0_canBe_0_ok (96, .goto (-56), 3) (List.mem_of_getElem? (i := 57) rfl)) rfl ?_
                refine w_lv [(4, .int zv26), (0, .ref ft), (1, .ref pl), (2, .int r), (3, .int d)] (by intro q hq; simp only [List.mem_cons, List.not_mem_nil, or_false] at hq ⊢; rcases hq with e | e | e | e | e <;> subst e <;> simp) ?_
                refine ih (j - 1) (by omega) _ (by omega) (by omega) (fun q9 h1 h2 h3 h4 => ?_) hq
                by_cases c9 : q9 = q.toInt.toNat
                · subst c9
                  exact ⟨by omega, by omega, by rw [← ze24]; omega⟩
                · exact hi q9 h1 (by omega) h3 h4
              · refine w_iconst (by decide) (tX0_canBe_0_ok (91, .iconst 0, 1) (List.mem_of_getElem? (i := 54) rfl)) (fun zv28 ze29 => ?_)
                refine w_zret rfl (by omega) (by omega) (tX0_canBe_0_ok (92, .ireturn, 1) (List.mem_of_getElem? (i := 55) rfl)) ?_
                refine hq _ (Or.inr ⟨by omega, fun z => ?_⟩)
                obtain ⟨y1, y2, y3⟩ := z q.toInt.toNat (by omega) (by omega) (by omega) (ze11c.mp (by omega))
                rw [← ze24] at y3
                omega
theorem c_canBe (hT : k_tys tys cA) {ft : Nat} {ts : List Value} {a : Int32} (c_ft : h ft = some (.inr (0, ts))) (t2 : ts[2]? = some (.int a)) {tb : Nat} {F : Nat → Option Nat} {tr : Nat → Nat} (t0 : ts[0]? = some (.ref tb)) (c_tb : h tb = some (.inl (cA 5, 6, .inr (.inr (.inr (.inr F)))))) (hF : ∀ i, i < 6 → F i = some (tr i)) (c_rw : ∀ i, i < 6 → h (tr i) = some (.inl (cA 0, 121, .inl (tab i)))) {pl pk pn ph : Nat} {ps : List Value} {gK gN gH : Nat → Int32} {nn : Int32} (c_pl : h pl = some (.inr (4, ps))) (p0 : ps[0]? = some (.int nn)) (p1 : ps[1]? = some (.ref pk)) (p2 : ps[2]? = some (.ref pn)) (p8 : ps[8]? = some (.ref ph)) (c_pk : h pk = some (.inl (cA 0, 6, .inl gK))) (c_pn : h pn = some (.inl (cA 0, 6, .inl gN))) (c_ph : h ph = some (.inl (cA 0, 6, .inl gH))) (hn : 0 ≤ nn.toInt ∧ nn.toInt ≤ 6) (hρ : ∀ q, q < nn.toInt.toNat → (gK q).toInt = ρ q 0 ∧ (gN q).toInt = ρ q 1 ∧ (gH q).toInt = ρ q 8) {r d : Int32} (hf : 1 ≤ fr) (hl : 30 ≤ lo) (hr : 0 ≤ r.toInt ∧ r.toInt < 2 * nn.toInt) (hq : ∀ v : Int32, (v.toInt = 1 ∧ f_cb nn.toInt.toNat ρ a tab r.toInt.toNat d.toInt ∨ v.toInt = 0 ∧ ¬ f_cb nn.toInt.toNat ρ a tab r.toInt.toNat d.toInt) → Q (some (.int v)) h) : ww l D tys A X fr lo mX0_canBe Q 0 [(0, .ref ft), (1, .ref pl), (2, .int r), (3, .int d)] [] h := by
  have hr : 0 ≤ r.toInt ∧ r.toInt ≤ 11 ∧ r.toInt < 2 * nn.toInt := by omega
  have hr9 := hr.2.2
  have hr : 0 ≤ r.toInt ∧ r.toInt ≤ 11 := ⟨hr.1, hr.2.1⟩
  refine w_aload_n (List.Mem.head _) (tX0_canBe_0_ok (0, .aload_n 0, 1) (List.mem_of_getElem? (i := 0) rfl)) ?_
  refine w_get (own := 5) rfl rfl (by decide) c_ft t2 (tX0_canBe_0_ok (1, .getfield 58, 3) (List.mem_of_getElem? (i := 1) rfl)) ?_
  refine w_iload_n (List.Mem.tail _ (List.Mem.tail _ (List.Mem.head _))) (tX0_canBe_0_ok (4, .iload_n 2, 1) (List.mem_of_getElem? (i := 2) rfl)) ?_
  refine w_ishr (tX0_canBe_0_ok (5, .ishr, 1) (List.mem_of_getElem? (i := 3) rfl)) (fun zv1 ze2 => ?_)
  refine w_iconst (by decide) (tX0_canBe_0_ok (6, .iconst 1, 1) (List.mem_of_getElem? (i := 4) rfl)) (fun zv3 ze4 => ?_)
  refine w_iand (tX0_canBe_0_ok (7, .iand, 1) (List.mem_of_getElem? (i := 5) rfl)) (fun zv5 ze6 => ?_)
  have da9 := bt24_has (kk := r.toInt.toNat) (by omega) (by omega) (by omega) ze2 ze6
  obtain ⟨da1, da2, da3⟩ := da9
  refine w_if_eq (tgt := 17) (tX0_canBe_0_ok (8, .ifCond .eq 9, 3) (List.mem_of_getElem? (i := 6) rfl)) rfl (fun zb7 => ?_) (fun zb7 => ?_)
  · refine w_aload_n (List.Mem.head _) (tX0_canBe_0_ok (17, .aload_n 0, 1) (List.mem_of_getElem? (i := 11) rfl)) ?_
    refine w_get (own := 5) rfl rfl (by decide) c_ft t2 (tX0_canBe_0_ok (18, .getfield 58, 3) (List.mem_of_getElem? (i := 12) rfl)) ?_
    refine w_bipush (by decide) (tX0_canBe_0_ok (21, .bipush 12, 2) (List.mem_of_getElem? (i := 13) rfl)) (fun zv8 ze9 => ?_)
    refine w_iload_n (List.Mem.tail _ (List.Mem.tail _ (List.Mem.head _))) (tX0_canBe_0_ok (23, .iload_n 2, 1) (List.mem_of_getElem? (i := 14) rfl)) ?_
    refine w_iadd (by omega) (by omega) (tX0_canBe_0_ok (24, .iadd, 1) (List.mem_of_getElem? (i := 15) rfl)) (fun zv10 ze11 => ?_)
    refine w_ishr (tX0_canBe_0_ok (25, .ishr, 1) (List.mem_of_getElem? (i := 16) rfl)) (fun zv12 ze13 => ?_)
    refine w_iconst (by decide) (tX0_canBe_0_ok (26, .iconst 1, 1) (List.mem_of_getElem? (i := 17) rfl)) (fun zv14 ze15 => ?_)
    refine w_iand (tX0_canBe_0_ok (27, .iand, 1) (List.mem_of_getElem? (i := 18) rfl)) (fun zv16 ze17 => ?_)
    have db9 := bt24_has (kk := 12 + r.toInt.toNat) (by omega) (by omega) (by omega) ze13 ze17
    obtain ⟨db1, db2, db3⟩ := db9
    refine w_if_ne (tgt := 33) (tX0_canBe_0_ok (28, .ifCond .ne 5, 3) (List.mem_of_getElem? (i := 19) rfl)) rfl (fun zb18 => ?_) (fun zb18 => ?_)
    · refine w_iload_n (List.Mem.tail _ (List.Mem.tail _ (List.Mem.head _))) (tX0_canBe_0_ok (33, .iload_n 2, 1) (List.mem_of_getElem? (i := 22) rfl)) ?_
      refine w_iconst (by decide) (tX0_canBe_0_ok (34, .iconst 1, 1) (List.mem_of_getElem? (i := 23) rfl)) (fun zv19 ze20 => ?_)
      refine w_ishr (tX0_canBe_0_ok (35, .ishr, 1) (List.mem_of_getElem? (i := 24) rfl)) (fun zv21 ze22 => ?_)
      have hs9 := shr1w (x := r) (z := zv19) (by omega) (by omega) ze22
      refine w_iconst (by decide) (tX0_canBe_0_ok (36, .iconst 1, 1) (List.mem_of_getElem? (i := 25) rfl)) (fun zv23 ze24 => ?_)
      refine w_iadd (by omega) (by omega) (tX0_canBe_0_ok (37, .iadd, 1) (List.mem_of_getElem? (i := 26) rfl)) (fun zv25 ze26 => ?_)
      refine w_istore [(4, .int zv25), (0, .ref ft), (1, .ref pl), (2, .int r), (3, .int d)] rfl (Nat.le_of_ble_eq_true rfl) (tX0_canBe_0_ok (38, .istore 4, 2) (List.mem_of_getElem? (i := 27) rfl)) ?_
      refine w_lv [(4, .int zv25), (0, .ref ft), (1, .ref pl), (2, .int r), (3, .int d)] (by intro q hq; simp only [List.mem_cons, List.not_mem_nil, or_false] at hq ⊢; rcases hq with e | e | e | e | e <;> subst e <;> simp) ?_
      refine c_cbL hT c_ft t2 t0 c_tb hF c_rw c_pl p0 p1 p2 p8 c_pk c_pn c_ph hn hρ hf hl hr (nn.toInt - zv25.toInt).toNat _ (by omega) (by omega) (fun q9 h1 h2 _ _ => absurd h2 (by omega)) (fun v hv => hq v ?_)
      rcases hv with ⟨y1, y2⟩ | ⟨y1, y2⟩
      · exact Or.inl ⟨y1, fun z => absurd (da1.mpr z) (by omega), fun _ => y2⟩
      · exact Or.inr ⟨y1, fun z => y2 (z.2 (db1.mp (by omega)))⟩
    · refine w_iconst (by decide) (tX0_canBe_0_ok (31, .iconst 1, 1) (List.mem_of_getElem? (i := 20) rfl)) (fun zv27 ze28 => ?_)
      refine w_zret rfl (by omega) (by omega) (tX0_canBe_0_ok (32, .ireturn, 1) (List.mem_of_getElem? (i := 21) rfl)) ?_
      exact hq _ (Or.inl ⟨by omega, fun z => absurd (da1.mpr z) (by omega), fun z => absurd (db1.mpr z) (by omega)⟩)
  · refine w_iload_n (List.Mem.tail _ (List.Mem.tail _ (List.Mem.tail _ (List.Mem.head _)))) (tX0_canBe_0_ok (11, .iload_n 3, 1) (List.mem_of_getElem? (i := 7) rfl)) ?_
    refine w_if_eq (tgt := 17) (tX0_canBe_0_ok (12, .ifCond .eq 5, 3) (List.mem_of_getElem? (i := 8) rfl)) rfl (fun zb29 => ?_) (fun zb29 => ?_)
    · refine w_aload_n (List.Mem.head _) (tX0_canBe_0_ok (17, .aload_n 0, 1) (List.mem_of_getElem? (i := 11) rfl)) ?_
      refine w_get (own := 5) rfl rfl (by decide) c_ft t2 (tX0_canBe_0_ok (18, .getfield 58, 3) (List.mem_of_getElem? (i := 12) rfl)) ?_
      refine w_bipush (by decide) (tX0_canBe_0_ok (21, .bipush 12, 2) (List.mem_of_getElem? (i := 13) rfl)) (fun zv30 ze31 => ?_)
      refine w_iload_n (List.Mem.tail _ (List.Mem.tail _ (List.Mem.head _))) (tX0_canBe_0_ok (23, .iload_n 2, 1) (List.mem_of_getElem? (i := 14) rfl)) ?_
      refine w_iadd (by omega) (by omega) (tX0_canBe_0_ok (24, .iadd, 1) (List.mem_of_getElem? (i := 15) rfl)) (fun zv32 ze33 => ?_)
      refine w_ishr (tX0_canBe_0_ok (25, .ishr, 1) (List.mem_of_getElem? (i := 16) rfl)) (fun zv34 ze35 => ?_)
      refine w_iconst (by decide) (tX0_canBe_0_ok (26, .iconst 1, 1) (List.mem_of_getElem? (i := 17) rfl)) (fun zv36 ze37 => ?_)
      refine w_iand (tX0_canBe_0_ok (27, .iand, 1) (List.mem_of_getElem? (i := 18) rfl)) (fun zv38 ze39 => ?_)
      have db9 := bt24_has (kk := 12 + r.toInt.toNat) (by omega) (by omega) (by omega) ze35 ze39
      obtain ⟨db1, db2, db3⟩ := db9
      refine w_if_ne (tgt := 33) (tX0_canBe_0_ok (28, .ifCond .ne 5, 3) (List.mem_of_getElem? (i := 19) rfl)) rfl (fun zb40 => ?_) (fun zb40 => ?_)
      · refine w_iload_n (List.Mem.tail _ (List.Mem.tail _ (List.Mem.head _))) (tX0_canBe_0_ok (33, .iload_n 2, 1) (List.mem_of_getElem? (i := 22) rfl)) ?_
        refine w_iconst (by decide) (tX0_canBe_0_ok (34, .iconst 1, 1) (List.mem_of_getElem? (i := 23) rfl)) (fun zv41 ze42 => ?_)
        refine w_ishr (tX0_canBe_0_ok (35, .ishr, 1) (List.mem_of_getElem? (i := 24) rfl)) (fun zv43 ze44 => ?_)
        have hs9 := shr1w (x := r) (z := zv41) (by omega) (by omega) ze44
        refine w_iconst (by decide) (tX0_canBe_0_ok (36, .iconst 1, 1) (List.mem_of_getElem? (i := 25) rfl)) (fun zv45 ze46 => ?_)
        refine w_iadd (by omega) (by omega) (tX0_canBe_0_ok (37, .iadd, 1) (List.mem_of_getElem? (i := 26) rfl)) (fun zv47 ze48 => ?_)
        refine w_istore [(4, .int zv47), (0, .ref ft), (1, .ref pl), (2, .int r), (3, .int d)] rfl (Nat.le_of_ble_eq_true rfl) (tX0_canBe_0_ok (38, .istore 4, 2) (List.mem_of_getElem? (i := 27) rfl)) ?_
        refine w_lv [(4, .int zv47), (0, .ref ft), (1, .ref pl), (2, .int r), (3, .int d)] (by intro q hq; simp only [List.mem_cons, List.not_mem_nil, or_false] at hq ⊢; rcases hq with e | e | e | e | e <;> subst e <;> simp) ?_
        refine c_cbL hT c_ft t2 t0 c_tb hF c_rw c_pl p0 p1 p2 p8 c_pk c_pn c_ph hn hρ hf hl hr (nn.toInt - zv47.toInt).toNat _ (by omega) (by omega) (fun q9 h1 h2 _ _ => absurd h2 (by omega)) (fun v hv => hq v ?_)
        rcases hv with ⟨y1, y2⟩ | ⟨y1, y2⟩
        · exact Or.inl ⟨y1, fun _ => by omega, fun _ => y2⟩
        · exact Or.inr ⟨y1, fun z => y2 (z.2 (db1.mp (by omega)))⟩
      · refine w_iconst (by decide) (tX0_canBe_0_ok (31, .iconst 1, 1) (List.mem_of_getElem? (i := 20) rfl)) (fun zv49 ze50 => ?_)
        refine w_zret rfl (by omega) (by omega) (tX0_canBe_0_ok (32, .ireturn, 1) (List.mem_of_getElem? (i := 21) rfl)) ?_
        exact hq _ (Or.inl ⟨by omega, fun _ => by omega, fun z => absurd (db1.mpr z) (by omega)⟩)
    · refine w_iconst (by decide) (tX0_canBe_0_ok (15, .iconst 0, 1) (List.mem_of_getElem? (i := 9) rfl)) (fun zv51 ze52 => ?_)
      refine w_zret rfl (by omega) (by omega) (tX0_canBe_0_ok (16, .ireturn, 1) (List.mem_of_getElem? (i := 10) rfl)) ?_
      exact hq _ (Or.inr ⟨by omega, fun z => absurd (z.1 (da1.mp (by omega))) (by omega)⟩)
theorem f_x_next {p : Nat} {x y : Int} (hx : ∃ i : Nat, x = f_st ρ p * i) (hy : f_x ρ p y) (h : y < x + f_st ρ p) (hn : ¬ y = x) : y < x := by
  obtain ⟨i, hx⟩ := hx
  obtain ⟨k, hy, -⟩ := hy
  unfold f_st at *
  by_cases c : ρ p 0 = 1
  · rw [if_pos c] at *
    omega
  · rw [if_neg c] at *
    omega
theorem c_caL (hT : k_tys tys cA) {ft : Nat} {ts : List Value} {a : Int32} (c_ft : h ft = some (.inr (0, ts))) (t2 : ts[2]? = some (.int a)) {tb : Nat} {F : Nat → Option Nat} {tr : Nat → Nat} (t0 : ts[0]? = some (.ref tb)) (c_tb : h tb = some (.inl (cA 5, 6, .inr (.inr (.inr (.inr F)))))) (hF : ∀ i, i < 6 → F i = some (tr i)) (c_rw : ∀ i, i < 6 → h (tr i) = some (.inl (cA 0, 121, .inl (tab i)))) {pl pk pn ph : Nat} {ps : List Value} {gK gN gH : Nat → Int32} {nn : Int32} (c_pl : h pl = some (.inr (4, ps))) (p0 : ps[0]? = some (.int nn)) (p1 : ps[1]? = some (.ref pk)) (p2 : ps[2]? = some (.ref pn)) (p8 : ps[8]? = some (.ref ph)) (c_pk : h pk = some (.inl (cA 0, 6, .inl gK))) (c_pn : h pn = some (.inl (cA 0, 6, .inl gN))) (c_ph : h ph = some (.inl (cA 0, 6, .inl gH))) (hn : 0 ≤ nn.toInt ∧ nn.toInt ≤ 6) (hρ : ∀ q, q < nn.toInt.toNat → (gK q).toInt = ρ q 0 ∧ (gN q).toInt = ρ q 1 ∧ (gH q).toInt = ρ q 8) (wf : wfR nn.toInt.toNat ρ) (hL : ∀ q, q < 6 → 0 ≤ (gN q).toInt ∧ (gN q).toInt ≤ 20) {p hh : Int32} (hf : 2 ≤ fr) (hl : 80 ≤ lo) (hp : 0 ≤ p.toInt ∧ p.toInt ≤ 5) (hpn : p.toInt < nn.toInt) (hh0 : 0 ≤ hh.toInt ∧ hh.toInt ≤ 120) : ∀ (j : Nat) (x : Int32), (ρ p.toInt.toNat 1 + 1 - x.toInt).toNat = j → (∃ i : Nat, x.toInt = f_st ρ p.toInt.toNat * i) → 0 ≤ x.toInt ∧ x.toInt ≤ 24 → (∀ y, f_x ρ p.toInt.toNat y → y < x.toInt → ¬ f_can nn.toInt.toNat ρ a tab p.toInt.toNat hh.toInt y) → (∀ v : Int32, (v.toInt = 1 ∧ (∃ x, f_x ρ p.toInt.toNat x ∧ f_can nn.toInt.toNat ρ a tab p.toInt.toNat hh.toInt x) ∨ v.toInt = 0 ∧ ¬ (∃ x, f_x ρ p.toInt.toNat x ∧ f_can nn.toInt.toNat ρ a tab p.toInt.toNat hh.toInt x)) → Q (some (.int v)) h) → ww l D tys A X fr lo mX0_canAllBe Q 3 [(4, .int x), (0, .ref ft), (1, .ref pl), (2, .int p), (3, .int hh)] [] h := by
  intro j
  induction j using Nat.strongRecOn with
  | ind j ih =>
    intro x hj hi hx1 hno hq
    have hr9 := hρ p.toInt.toNat (by omega)
    have hs9 := f_st_b ρ p.toInt.toNat
    have hl9 := (wf.2 p.toInt.toNat (by omega)).1.2.1
    refine w_iload (List.Mem.head _) (tX0_canAllBe_0_ok (3, .iload 4, 2) (List.mem_of_getElem? (i := 2) rfl)) ?_
    refine w_aload_n (List.Mem.tail _ (List.Mem.tail _ (List.Mem.head _))) (tX0_canAllBe_0_ok (5, .aload_n 1, 1) (List.mem_of_getElem? (i := 3) rfl)) ?_
    refine w_get (own := 5) rfl rfl (by decide) c_pl p2 (tX0_canAllBe_0_ok (6, .getfield 37, 3) (List.mem_of_getElem? (i := 4) rfl)) ?_
    refine w_iload_n (List.Mem.tail _ (List.Mem.tail _ (List.Mem.tail _ (List.Mem.head _)))) (tX0_canAllBe_0_ok (9, .iload_n 2, 1) (List.mem_of_getElem? (i := 5) rfl)) ?_
    refine w_iald hT c_pn (by omega) (by omega) (tX0_canAllBe_0_ok (10, .iaload, 1) (List.mem_of_getElem? (i := 6) rfl)) (fun zv1 ze2 => ?_)
    refine w_icmp_gt (tgt := 74) (tX0_canAllBe_0_ok (11, .if_icmp .gt 63, 3) (List.mem_of_getElem? (i := 7) rfl)) rfl (fun zb3 => ?_) (fun zb3 => ?_)
    · refine w_iconst (by decide) (tX0_canAllBe_0_ok (74, .iconst 0, 1) (List.mem_of_getElem? (i := 48) rfl)) (fun zv4 ze5 => ?_)
      refine w_zret rfl (by omega) (by omega) (tX0_canAllBe_0_ok (75, .ireturn, 1) (List.mem_of_getElem? (i := 49) rfl)) ?_
      refine hq _ (Or.inr ⟨by omega, fun ⟨y, hy, z⟩ => hno y hy ?_ z⟩)
      have := f_x0 hy
      omega
    · have hx9 : f_x ρ p.toInt.toNat x.toInt := hi.elim (fun i e => ⟨i, e, by omega⟩)
      have hx8 := f_x0 hx9
      refine w_iload_n (List.Mem.tail _ (List.Mem.tail _ (List.Mem.tail _ (List.Mem.tail _ (List.Mem.head _))))) (tX0_canAllBe_0_ok (14, .iload_n 3, 1) (List.mem_of_getElem? (i := 8) rfl)) ?_
      refine w_aload_n (List.Mem.tail _ (List.Mem.tail _ (List.Mem.head _))) (tX0_canAllBe_0_ok (15, .aload_n 1, 1) (List.mem_of_getElem? (i := 9) rfl)) ?_
      refine w_iconst (by decide) (tX0_canAllBe_0_ok (16, .iconst 2, 1) (List.mem_of_getElem? (i := 10) rfl)) (fun zv6 ze7 => ?_)
      refine w_iload_n (List.Mem.tail _ (List.Mem.tail _ (List.Mem.tail _ (List.Mem.head _)))) (tX0_canAllBe_0_ok (17, .iload_n 2, 1) (List.mem_of_getElem? (i := 11) rfl)) ?_
      refine w_imul (by assumption) (by omega) (by omega) (tX0_canAllBe_0_ok (18, .imul, 1) (List.mem_of_getElem? (i := 12) rfl)) (fun zv8 ze9 => ?_)
      refine w_iconst (by decide) (tX0_canAllBe_0_ok (19, .iconst 1, 1) (List.mem_of_getElem? (i := 13) rfl)) (fun zv10 ze11 => ?_)
      refine w_iadd (by omega) (by omega) (tX0_canAllBe_0_ok (20, .iadd, 1) (List.mem_of_getElem? (i := 14) rfl)) (fun zv12 ze13 => ?_)
      refine w_iload (List.Mem.head _) (tX0_canAllBe_0_ok (21, .iload 4, 2) (List.mem_of_getElem? (i := 15) rfl)) ?_
      refine w_callV (own := 5) (mi := 48) [.int zv12, .int x] [.int hh] [(0, .ref pl), (1, .int zv12), (2, .int x)] rfl (cllw_X0 (47, 0, 48) (List.mem_of_getElem? (i := 3) rfl)) rfl rfl c_pl rfl (by omega) (w_lo (n := 23) rfl (by omega)) (Nat.le_of_ble_eq_true rfl) (Nat.le_of_ble_eq_true rfl) rfl (tX0_canAllBe_0_ok (23, .invokevirtual 47, 3) (List.mem_of_getElem? (i := 16) rfl)) (c_place hT (by omega) ⟨by omega, by rw [show zv12.toInt.toNat / 2 = p.toInt.toNat by omega]; omega⟩ hL c_pl p1 c_pk p2 c_pn (fun zv14 ze15 => ?_))
      have pl9 : zv14.toInt = f_pl ρ p.toInt.toNat 1 x.toInt := by
        rw [ze15, if_neg (by omega), show zv12.toInt.toNat / 2 = p.toInt.toNat by omega, hr9.1, hr9.2.1]
        rfl
      have plb := f_pl_b wf (s := 1) (p := p.toInt.toNat) (by omega) hx9
      show ww l D tys A X fr lo mX0_canAllBe Q 26 [(4, .int x), (0, .ref ft), (1, .ref pl), (2, .int p), (3, .int hh)] [.int zv14, .int hh] h
      refine w_isub (by omega) (by omega) (tX0_canAllBe_0_ok (26, .isub, 1) (List.mem_of_getElem? (i := 17) rfl)) (fun zv16 ze17 => ?_)
      refine w_istore [(5, .int zv16), (4, .int x), (0, .ref ft), (1, .ref pl), (2, .int p), (3, .int hh)] rfl (Nat.le_of_ble_eq_true rfl) (tX0_canAllBe_0_ok (27, .istore 5, 2) (List.mem_of_getElem? (i := 18) rfl)) ?_
      refine w_aload_n (List.Mem.tail _ (List.Mem.tail _ (List.Mem.head _))) (tX0_canAllBe_0_ok (29, .aload_n 0, 1) (List.mem_of_getElem? (i := 19) rfl)) ?_
      refine w_aload_n (List.Mem.tail _ (List.Mem.tail _ (List.Mem.tail _ (List.Mem.head _)))) (tX0_canAllBe_0_ok (30, .aload_n 1, 1) (List.mem_of_getElem? (i := 20) rfl)) ?_
      refine w_iconst (by decide) (tX0_canAllBe_0_ok (31, .iconst 2, 1) (List.mem_of_getElem? (i := 21) rfl)) (fun zv18 ze19 => ?_)
      refine w_iload_n (List.Mem.tail _ (List.Mem.tail _ (List.Mem.tail _ (List.Mem.tail _ (List.Mem.head _))))) (tX0_canAllBe_0_ok (32, .iload_n 2, 1) (List.mem_of_getElem? (i := 22) rfl)) ?_
      refine w_imul (by assumption) (by omega) (by omega) (tX0_canAllBe_0_ok (33, .imul, 1) (List.mem_of_getElem? (i := 23) rfl)) (fun zv20 ze21 => ?_)
      refine w_iload_n (List.Mem.tail _ (List.Mem.tail _ (List.Mem.tail _ (List.Mem.tail _ (List.Mem.tail _ (List.Mem.head _)))))) (tX0_canAllBe_0_ok (34, .iload_n 3, 1) (List.mem_of_getElem? (i := 24) rfl)) ?_
      refine w_iload (List.Mem.tail _ (List.Mem.head _)) (tX0_canAllBe_0_ok (35, .iload 4, 2) (List.mem_of_getElem? (i := 25) rfl)) ?_
      refine w_isub (by omega) (by omega) (tX0_canAllBe_0_ok (37, .isub, 1) (List.mem_of_getElem? (i := 26) rfl)) (fun zv22 ze23 => ?_)
      refine w_callV (own := 5) (mi := 14) [.ref pl, .int zv20, .int zv22] [] [(0, .ref ft), (1, .ref pl), (2, .int zv20), (3, .int zv22)] rfl (cllw_X0 (73, 0, 14) (List.mem_of_getElem? (i := 8) rfl)) rfl rfl c_ft rfl (by omega) (w_lo (n := 24) rfl (by omega)) (Nat.le_of_ble_eq_true rfl) (Nat.le_of_ble_eq_true rfl) rfl (tX0_canAllBe_0_ok (38, .invokevirtual 73, 3) (List.mem_of_getElem? (i := 27) rfl)) (c_canBe hT c_ft t2 t0 c_tb hF c_rw c_pl p0 p1 p2 p8 c_pk c_pn c_ph hn hρ (by omega) (w_sub (n := 24) rfl (by omega)) (by omega) (fun zv24 ze25 => ?_))
      show ww l D tys A X fr lo mX0_canAllBe Q 41 [(5, .int zv16), (4, .int x), (0, .ref ft), (1, .ref pl), (2, .int p), (3, .int hh)] [.int zv24] h
      refine w_if_eq (tgt := 61) (tX0_canAllBe_0_ok (41, .ifCond .eq 20, 3) (List.mem_of_getElem? (i := 28) rfl)) rfl (fun zb26 => ?_) (fun zb26 => ?_)
      · refine w_iload (List.Mem.tail _ (List.Mem.head _)) (tX0_canAllBe_0_ok (61, .iload 4, 2) (List.mem_of_getElem? (i := 41) rfl)) ?_
        refine w_aload_n (List.Mem.tail _ (List.Mem.tail _ (List.Mem.tail _ (List.Mem.head _)))) (tX0_canAllBe_0_ok (63, .aload_n 1, 1) (List.mem_of_getElem? (i := 42) rfl)) ?_
        refine w_iload_n (List.Mem.tail _ (List.Mem.tail _ (List.Mem.tail _ (List.Mem.tail _ (List.Mem.head _))))) (tX0_canAllBe_0_ok (64, .iload_n 2, 1) (List.mem_of_getElem? (i := 43) rfl)) ?_
        refine w_callV (own := 5) (mi := 49) [.int p] [.int x] [(0, .ref pl), (1, .int p)] rfl (cllw_X0 (54, 0, 49) (List.mem_of_getElem? (i := 5) rfl)) rfl rfl c_pl rfl (by omega) (w_lo (n := 21) rfl (by omega)) (Nat.le_of_ble_eq_true rfl) (Nat.le_of_ble_eq_true rfl) rfl (tX0_canAllBe_0_ok (65, .invokevirtual 54, 3) (List.mem_of_getElem? (i := 44) rfl)) (c_stride hT hp c_pl p1 c_pk (fun zv27 ze28 => ?_))
        have st9 : zv27.toInt = f_st ρ p.toInt.toNat := by rw [ze28, hr9.1]; rfl
        show ww l D tys A X fr lo mX0_canAllBe Q 68 [(5, .int zv16), (4, .int x), (0, .ref ft), (1, .ref pl), (2, .int p), (3, .int hh)] [.int zv27, .int x] h
        refine w_iadd (by omega) (by omega) (tX0_canAllBe_0_ok (68, .iadd, 1) (List.mem_of_getElem? (i := 45) rfl)) (fun zv29 ze30 => ?_)
        refine w_istore [(4, .int zv29), (5, .int zv16), (0, .ref ft), (1, .ref pl), (2, .int p), (3, .int hh)] rfl (Nat.le_of_ble_eq_true rfl) (tX0_canAllBe_0_ok (69, .istore 4, 2) (List.mem_of_getElem? (i := 46) rfl)) ?_
        refine w_goto (tgt := 3) (tX0_canAllBe_0_ok (71, .goto (-68), 3) (List.mem_of_getElem? (i := 47) rfl)) rfl ?_
        rw [show zv20.toInt.toNat = 2 * p.toInt.toNat by omega, show zv22.toInt = hh.toInt - x.toInt by omega] at ze25
        refine w_lv [(4, .int zv29), (0, .ref ft), (1, .ref pl), (2, .int p), (3, .int hh)] (by intro q hq; simp only [List.mem_cons, List.not_mem_nil, or_false] at hq ⊢; rcases hq with e | e | e | e | e <;> subst e <;> simp) ?_
        refine ih (ρ p.toInt.toNat 1 + 1 - zv29.toInt).toNat (by omega) _ rfl ?_ (by omega) (fun y hy hlt => ?_) hq
        · obtain ⟨i, hi⟩ := hi
          exact ⟨i + 1, by rw [show zv29.toInt = x.toInt + f_st ρ p.toInt.toNat by omega, hi]; push_cast; rw [Int.mul_add, Int.mul_one]⟩
        · by_cases c9 : y = x.toInt
          · subst c9
            intro z
            rcases ze25 with ⟨y1, y2⟩ | ⟨y1, y2⟩
            · omega
            · exact y2 z.1
          · exact hno y hy (f_x_next hi hy (by omega) c9)
      · refine w_aload_n (List.Mem.tail _ (List.Mem.tail _ (List.Mem.head _))) (tX0_canAllBe_0_ok (44, .aload_n 0, 1) (List.mem_of_getElem? (i := 29) rfl)) ?_
        refine w_aload_n (List.Mem.tail _ (List.Mem.tail _ (List.Mem.tail _ (List.Mem.head _)))) (tX0_canAllBe_0_ok (45, .aload_n 1, 1) (List.mem_of_getElem? (i := 30) rfl)) ?_
        refine w_iconst (by decide) (tX0_canAllBe_0_ok (46, .iconst 2, 1) (List.mem_of_getElem? (i := 31) rfl)) (fun zv31 ze32 => ?_)
        refine w_iload_n (List.Mem.tail _ (List.Mem.tail _ (List.Mem.tail _ (List.Mem.tail _ (List.Mem.head _))))) (tX0_canAllBe_0_ok (47, .iload_n 2, 1) (List.mem_of_getElem? (i := 32) rfl)) ?_
        refine w_imul (by assumption) (by omega) (by omega) (tX0_canAllBe_0_ok (48, .imul, 1) (List.mem_of_getElem? (i := 33) rfl)) (fun zv33 ze34 => ?_)
        refine w_iconst (by decide) (tX0_canAllBe_0_ok (49, .iconst 1, 1) (List.mem_of_getElem? (i := 34) rfl)) (fun zv35 ze36 => ?_)
        refine w_iadd (by omega) (by omega) (tX0_canAllBe_0_ok (50, .iadd, 1) (List.mem_of_getElem? (i := 35) rfl)) (fun zv37 ze38 => ?_)
        refine w_iload (List.Mem.head _) (tX0_canAllBe_0_ok (51, .iload 5, 2) (List.mem_of_getElem? (i := 36) rfl)) ?_
        refine w_callV (own := 5) (mi := 14) [.ref pl, .int zv37, .int zv16] [] [(0, .ref ft), (1, .ref pl), (2, .int zv37), (3, .int zv16)] rfl (cllw_X0 (73, 0, 14) (List.mem_of_getElem? (i := 8) rfl)) rfl rfl c_ft rfl (by omega) (w_lo (n := 24) rfl (by omega)) (Nat.le_of_ble_eq_true rfl) (Nat.le_of_ble_eq_true rfl) rfl (tX0_canAllBe_0_ok (53, .invokevirtual 73, 3) (List.mem_of_getElem? (i := 37) rfl)) (c_canBe hT c_ft t2 t0 c_tb hF c_rw c_pl p0 p1 p2 p8 c_pk c_pn c_ph hn hρ (by omega) (w_sub (n := 24) rfl (by omega)) (by omega) (fun zv39 ze40 => ?_))
        show ww l D tys A X fr lo mX0_canAllBe Q 56 [(5, .int zv16), (4, .int x), (0, .ref ft), (1, .ref pl), (2, .int p), (3, .int hh)] [.int zv39] h
        refine w_if_eq (tgt := 61) (tX0_canAllBe_0_ok (56, .ifCond .eq 5, 3) (List.mem_of_getElem? (i := 38) rfl)) rfl (fun zb41 => ?_) (fun zb41 => ?_)
        · refine w_iload (List.Mem.tail _ (List.Mem.head _)) (tX0_canAllBe_0_ok (61, .iload 4, 2) (List.mem_of_getElem? (i := 41) rfl)) ?_
          refine w_aload_n (List.Mem.tail _ (List.Mem.tail _ (List.Mem.tail _ (List.Mem.head _)))) (tX0_canAllBe_0_ok (63, .aload_n 1, 1) (List.mem_of_getElem? (i := 42) rfl)) ?_
          refine w_iload_n (List.Mem.tail _ (List.Mem.tail _ (List.Mem.tail _ (List.Mem.tail _ (List.Mem.head _))))) (tX0_canAllBe_0_ok (64, .iload_n 2, 1) (List.mem_of_getElem? (i := 43) rfl)) ?_
          refine w_callV (own := 5) (mi := 49) [.int p] [.int x] [(0, .ref pl), (1, .int p)] rfl (cllw_X0 (54, 0, 49) (List.mem_of_getElem? (i := 5) rfl)) rfl rfl c_pl rfl (by omega) (w_lo (n := 21) rfl (by omega)) (Nat.le_of_ble_eq_true rfl) (Nat.le_of_ble_eq_true rfl) rfl (tX0_canAllBe_0_ok (65, .invokevirtual 54, 3) (List.mem_of_getElem? (i := 44) rfl)) (c_stride hT hp c_pl p1 c_pk (fun zv42 ze43 => ?_))
          have st9 : zv42.toInt = f_st ρ p.toInt.toNat := by rw [ze43, hr9.1]; rfl
          show ww l D tys A X fr lo mX0_canAllBe Q 68 [(5, .int zv16), (4, .int x), (0, .ref ft), (1, .ref pl), (2, .int p), (3, .int hh)] [.int zv42, .int x] h
          refine w_iadd (by omega) (by omega) (tX0_canAllBe_0_ok (68, .iadd, 1) (List.mem_of_getElem? (i := 45) rfl)) (fun zv44 ze45 => ?_)
          refine w_istore [(4, .int zv44), (5, .int zv16), (0, .ref ft), (1, .ref pl), (2, .int p), (3, .int hh)] rfl (Nat.le_of_ble_eq_true rfl) (tX0_canAllBe_0_ok (69, .istore 4, 2) (List.mem_of_getElem? (i := 46) rfl)) ?_
          refine w_goto (tgt := 3) (tX0_canAllBe_0_ok (71, .goto (-68), 3) (List.mem_of_getElem? (i := 47) rfl)) rfl ?_
          rw [show zv37.toInt.toNat = 2 * p.toInt.toNat + 1 by omega, show zv16.toInt = hh.toInt - f_pl ρ p.toInt.toNat 1 x.toInt by omega] at ze40
          refine w_lv [(4, .int zv44), (0, .ref ft), (1, .ref pl), (2, .int p), (3, .int hh)] (by intro q hq; simp only [List.mem_cons, List.not_mem_nil, or_false] at hq ⊢; rcases hq with e | e | e | e | e <;> subst e <;> simp) ?_
          refine ih (ρ p.toInt.toNat 1 + 1 - zv44.toInt).toNat (by omega) _ rfl ?_ (by omega) (fun y hy hlt => ?_) hq
          · obtain ⟨i, hi⟩ := hi
            exact ⟨i + 1, by rw [show zv44.toInt = x.toInt + f_st ρ p.toInt.toNat by omega, hi]; push_cast; rw [Int.mul_add, Int.mul_one]⟩
          · by_cases c9 : y = x.toInt
            · subst c9
              intro z
              rcases ze40 with ⟨y1, y2⟩ | ⟨y1, y2⟩
              · omega
              · exact y2 z.2
            · exact hno y hy (f_x_next hi hy (by omega) c9)
        · refine w_iconst (by decide) (tX0_canAllBe_0_ok (59, .iconst 1, 1) (List.mem_of_getElem? (i := 39) rfl)) (fun zv46 ze47 => ?_)
          refine w_zret rfl (by omega) (by omega) (tX0_canAllBe_0_ok (60, .ireturn, 1) (List.mem_of_getElem? (i := 40) rfl)) ?_
          rw [show zv20.toInt.toNat = 2 * p.toInt.toNat by omega, show zv22.toInt = hh.toInt - x.toInt by omega] at ze25
          rw [show zv37.toInt.toNat = 2 * p.toInt.toNat + 1 by omega, show zv16.toInt = hh.toInt - f_pl ρ p.toInt.toNat 1 x.toInt by omega] at ze40
          refine hq _ (Or.inl ⟨by omega, x.toInt, hx9, ?_, ?_⟩)
          · rcases ze25 with ⟨y1, y2⟩ | ⟨y1, y2⟩
            · exact y2
            · omega
          · rcases ze40 with ⟨y1, y2⟩ | ⟨y1, y2⟩
            · exact y2
            · omega
theorem c_canAllBe (hT : k_tys tys cA) {ft : Nat} {ts : List Value} {a : Int32} (c_ft : h ft = some (.inr (0, ts))) (t2 : ts[2]? = some (.int a)) {tb : Nat} {F : Nat → Option Nat} {tr : Nat → Nat} (t0 : ts[0]? = some (.ref tb)) (c_tb : h tb = some (.inl (cA 5, 6, .inr (.inr (.inr (.inr F)))))) (hF : ∀ i, i < 6 → F i = some (tr i)) (c_rw : ∀ i, i < 6 → h (tr i) = some (.inl (cA 0, 121, .inl (tab i)))) {pl pk pn ph : Nat} {ps : List Value} {gK gN gH : Nat → Int32} {nn : Int32} (c_pl : h pl = some (.inr (4, ps))) (p0 : ps[0]? = some (.int nn)) (p1 : ps[1]? = some (.ref pk)) (p2 : ps[2]? = some (.ref pn)) (p8 : ps[8]? = some (.ref ph)) (c_pk : h pk = some (.inl (cA 0, 6, .inl gK))) (c_pn : h pn = some (.inl (cA 0, 6, .inl gN))) (c_ph : h ph = some (.inl (cA 0, 6, .inl gH))) (hn : 0 ≤ nn.toInt ∧ nn.toInt ≤ 6) (hρ : ∀ q, q < nn.toInt.toNat → (gK q).toInt = ρ q 0 ∧ (gN q).toInt = ρ q 1 ∧ (gH q).toInt = ρ q 8) (wf : wfR nn.toInt.toNat ρ) (hL : ∀ q, q < 6 → 0 ≤ (gN q).toInt ∧ (gN q).toInt ≤ 20) {p hh : Int32} (hf : 2 ≤ fr) (hl : 80 ≤ lo) (hp : 0 ≤ p.toInt ∧ p.toInt ≤ 5) (hpn : p.toInt < nn.toInt) (hh0 : 0 ≤ hh.toInt ∧ hh.toInt ≤ 120) (hq : ∀ v : Int32, (v.toInt = 1 ∧ (∃ x, f_x ρ p.toInt.toNat x ∧ f_can nn.toInt.toNat ρ a tab p.toInt.toNat hh.toInt x) ∨ v.toInt = 0 ∧ ¬ (∃ x, f_x ρ p.toInt.toNat x ∧ f_can nn.toInt.toNat ρ a tab p.toInt.toNat hh.toInt x)) → Q (some (.int v)) h) : ww l D tys A X fr lo mX0_canAllBe Q 0 [(0, .ref ft), (1, .ref pl), (2, .int p), (3, .int hh)] [] h := by
  refine w_iconst (by decide) (tX0_canAllBe_0_ok (0, .iconst 0, 1) (List.mem_of_getElem? (i := 0) rfl)) (fun zv1 ze2 => ?_)
  refine w_istore [(4, .int zv1), (0, .ref ft), (1, .ref pl), (2, .int p), (3, .int hh)] rfl (Nat.le_of_ble_eq_true rfl) (tX0_canAllBe_0_ok (1, .istore 4, 2) (List.mem_of_getElem? (i := 1) rfl)) ?_
  exact c_caL hT c_ft t2 t0 c_tb hF c_rw c_pl p0 p1 p2 p8 c_pk c_pn c_ph hn hρ wf hL hf hl hp hpn hh0 _ zv1 rfl ⟨0, by simp; omega⟩ (by omega) (fun y hy hlt => absurd (f_x0 hy).1 (by omega)) hq
theorem c_tcL (hT : k_tys tys cA) {ft : Nat} {ts : List Value} {a : Int32} (c_ft : h ft = some (.inr (0, ts))) (t2 : ts[2]? = some (.int a)) {tb : Nat} {F : Nat → Option Nat} {tr : Nat → Nat} (t0 : ts[0]? = some (.ref tb)) (c_tb : h tb = some (.inl (cA 5, 6, .inr (.inr (.inr (.inr F)))))) (hF : ∀ i, i < 6 → F i = some (tr i)) (c_rw : ∀ i, i < 6 → h (tr i) = some (.inl (cA 0, 121, .inl (tab i)))) {pl pk pn ph : Nat} {ps : List Value} {gK gN gH : Nat → Int32} {nn : Int32} (c_pl : h pl = some (.inr (4, ps))) (p0 : ps[0]? = some (.int nn)) (p1 : ps[1]? = some (.ref pk)) (p2 : ps[2]? = some (.ref pn)) (p8 : ps[8]? = some (.ref ph)) (c_pk : h pk = some (.inl (cA 0, 6, .inl gK))) (c_pn : h pn = some (.inl (cA 0, 6, .inl gN))) (c_ph : h ph = some (.inl (cA 0, 6, .inl gH))) (hn : 0 ≤ nn.toInt ∧ nn.toInt ≤ 6) (hρ : ∀ q, q < nn.toInt.toNat → (gK q).toInt = ρ q 0 ∧ (gN q).toInt = ρ q 1 ∧ (gH q).toInt = ρ q 8) {hh : Int32} (hh0 : 0 ≤ hh.toInt ∧ hh.toInt ≤ 120) : ∀ (j : Nat) (p : Int32), p.toInt + j = nn.toInt → 0 ≤ p.toInt → (∀ p9, p9 < p.toInt.toNat → ρ p9 8 = -1 → ¬ (tab p9 hh.toInt.toNat).toInt = 0) → (∀ v : Int32, (v.toInt = 1 ∧ (∀ p9, p9 < nn.toInt.toNat → ρ p9 8 = -1 → ¬ (tab p9 hh.toInt.toNat).toInt = 0) ∨ v.toInt = 0 ∧ ¬ (∀ p9, p9 < nn.toInt.toNat → ρ p9 8 = -1 → ¬ (tab p9 hh.toInt.toNat).toInt = 0)) → Q (some (.int v)) h) → ww l D tys A X fr lo mX0_topsCanBe Q 2 [(3, .int p), (0, .ref ft), (1, .ref pl), (2, .int hh)] [] h := by
  intro j
  induction j using Nat.strongRecOn with
  | ind j ih =>
    intro p hj hp0 hi hq
    refine w_iload_n (List.Mem.head _) (tX0_topsCanBe_0_ok (2, .iload_n 3, 1) (List.mem_of_getElem? (i := 2) rfl)) ?_
    refine w_aload_n (List.Mem.tail _ (List.Mem.tail _ (List.Mem.head _))) (tX0_topsCanBe_0_ok (3, .aload_n 1, 1) (List.mem_of_getElem? (i := 3) rfl)) ?_
    refine w_get (own := 5) rfl rfl (by decide) c_pl p0 (tX0_topsCanBe_0_ok (4, .getfield 24, 3) (List.mem_of_getElem? (i := 4) rfl)) ?_
    refine w_icmp_ge (tgt := 39) (tX0_topsCanBe_0_ok (7, .if_icmp .ge 32, 3) (List.mem_of_getElem? (i := 5) rfl)) rfl (fun zb1 => ?_) (fun zb1 => ?_)
    · refine w_iconst (by decide) (tX0_topsCanBe_0_ok (39, .iconst 1, 1) (List.mem_of_getElem? (i := 23) rfl)) (fun zv2 ze3 => ?_)
      refine w_zret rfl (by omega) (by omega) (tX0_topsCanBe_0_ok (40, .ireturn, 1) (List.mem_of_getElem? (i := 24) rfl)) ?_
      exact hq _ (Or.inl ⟨by omega, fun p9 h2 h3 => hi p9 (by omega) h3⟩)
    · refine w_aload_n (List.Mem.tail _ (List.Mem.tail _ (List.Mem.head _))) (tX0_topsCanBe_0_ok (10, .aload_n 1, 1) (List.mem_of_getElem? (i := 6) rfl)) ?_
      refine w_get (own := 5) rfl rfl (by decide) c_pl p8 (tX0_topsCanBe_0_ok (11, .getfield 34, 3) (List.mem_of_getElem? (i := 7) rfl)) ?_
      refine w_iload_n (List.Mem.head _) (tX0_topsCanBe_0_ok (14, .iload_n 3, 1) (List.mem_of_getElem? (i := 8) rfl)) ?_
      refine w_iald hT c_ph (by omega) (by omega) (tX0_topsCanBe_0_ok (15, .iaload, 1) (List.mem_of_getElem? (i := 9) rfl)) (fun zv4 ze5 => ?_)
      have hz9 := (hρ p.toInt.toNat (by omega)).2.2
      refine w_iconst (by decide) (tX0_topsCanBe_0_ok (16, .iconst (-1), 1) (List.mem_of_getElem? (i := 10) rfl)) (fun zv6 ze7 => ?_)
      refine w_icmp_ne (tgt := 33) (tX0_topsCanBe_0_ok (17, .if_icmp .ne 16, 3) (List.mem_of_getElem? (i := 11) rfl)) rfl (fun zb8 => ?_) (fun zb8 => ?_)
      · refine w_iinc (fun zv9 => [(3, .int zv9), (0, .ref ft), (1, .ref pl), (2, .int hh)]) (fun _ => rfl) (List.Mem.head _) (Nat.le_of_ble_eq_true rfl) (by decide) (by omega) (by omega) (tX0_topsCanBe_0_ok (33, .iinc 3 1, 3) (List.mem_of_getElem? (i := 21) rfl)) (fun zv9 ze10 => ?_)
        refine w_goto (tgt := 2) (tX0_topsCanBe_0_ok (36, .goto (-34), 3) (List.mem_of_getElem? (i := 22) rfl)) rfl ?_
        refine w_lv [(3, .int zv9), (0, .ref ft), (1, .ref pl), (2, .int hh)] (by intro q hq; simp only [List.mem_cons, List.not_mem_nil, or_false] at hq ⊢; rcases hq with e | e | e | e <;> subst e <;> simp) ?_
        refine ih (j - 1) (by omega) _ (by omega) (by omega) (fun p9 h2 h3 => ?_) hq
        by_cases c9 : p9 = p.toInt.toNat
        · subst c9
          exact absurd h3 (by omega)
        · exact hi p9 (by omega) h3
      · refine w_aload_n (List.Mem.tail _ (List.Mem.head _)) (tX0_topsCanBe_0_ok (20, .aload_n 0, 1) (List.mem_of_getElem? (i := 12) rfl)) ?_
        refine w_get (own := 5) rfl rfl (by decide) c_ft t0 (tX0_topsCanBe_0_ok (21, .getfield 13, 3) (List.mem_of_getElem? (i := 13) rfl)) ?_
        refine w_iload_n (List.Mem.head _) (tX0_topsCanBe_0_ok (24, .iload_n 3, 1) (List.mem_of_getElem? (i := 14) rfl)) ?_
        refine w_aald (b := tr p.toInt.toNat) hT c_tb (by omega) (by omega) (by rw [hF p.toInt.toNat (by omega)]; rfl) (tX0_topsCanBe_0_ok (25, .aaload, 1) (List.mem_of_getElem? (i := 15) rfl)) ?_
        refine w_iload_n (List.Mem.tail _ (List.Mem.tail _ (List.Mem.tail _ (List.Mem.head _)))) (tX0_topsCanBe_0_ok (26, .iload_n 2, 1) (List.mem_of_getElem? (i := 16) rfl)) ?_
        refine w_iald hT (c_rw p.toInt.toNat (by omega)) (by omega) (by omega) (tX0_topsCanBe_0_ok (27, .iaload, 1) (List.mem_of_getElem? (i := 17) rfl)) (fun zv11 ze12 => ?_)
        refine w_if_ne (tgt := 33) (tX0_topsCanBe_0_ok (28, .ifCond .ne 5, 3) (List.mem_of_getElem? (i := 18) rfl)) rfl (fun zb13 => ?_) (fun zb13 => ?_)
        · refine w_iinc (fun zv14 => [(3, .int zv14), (0, .ref ft), (1, .ref pl), (2, .int hh)]) (fun _ => rfl) (List.Mem.head _) (Nat.le_of_ble_eq_true rfl) (by decide) (by omega) (by omega) (tX0_topsCanBe_0_ok (33, .iinc 3 1, 3) (List.mem_of_getElem? (i := 21) rfl)) (fun zv14 ze15 => ?_)
          refine w_goto (tgt := 2) (tX0_topsCanBe_0_ok (36, .goto (-34), 3) (List.mem_of_getElem? (i := 22) rfl)) rfl ?_
          refine w_lv [(3, .int zv14), (0, .ref ft), (1, .ref pl), (2, .int hh)] (by intro q hq; simp only [List.mem_cons, List.not_mem_nil, or_false] at hq ⊢; rcases hq with e | e | e | e <;> subst e <;> simp) ?_
          refine ih (j - 1) (by omega) _ (by omega) (by omega) (fun p9 h2 h3 => ?_) hq
          by_cases c9 : p9 = p.toInt.toNat
          · subst c9
            rw [← ze12]; omega
          · exact hi p9 (by omega) h3
        · refine w_iconst (by decide) (tX0_topsCanBe_0_ok (31, .iconst 0, 1) (List.mem_of_getElem? (i := 19) rfl)) (fun zv16 ze17 => ?_)
          refine w_zret rfl (by omega) (by omega) (tX0_topsCanBe_0_ok (32, .ireturn, 1) (List.mem_of_getElem? (i := 20) rfl)) ?_
          refine hq _ (Or.inr ⟨by omega, fun z => ?_⟩)
          have y3 := z p.toInt.toNat (by omega) (by omega)
          rw [← ze12] at y3
          omega
theorem c_topsCanBe (hT : k_tys tys cA) {ft : Nat} {ts : List Value} {a : Int32} (c_ft : h ft = some (.inr (0, ts))) (t2 : ts[2]? = some (.int a)) {tb : Nat} {F : Nat → Option Nat} {tr : Nat → Nat} (t0 : ts[0]? = some (.ref tb)) (c_tb : h tb = some (.inl (cA 5, 6, .inr (.inr (.inr (.inr F)))))) (hF : ∀ i, i < 6 → F i = some (tr i)) (c_rw : ∀ i, i < 6 → h (tr i) = some (.inl (cA 0, 121, .inl (tab i)))) {pl pk pn ph : Nat} {ps : List Value} {gK gN gH : Nat → Int32} {nn : Int32} (c_pl : h pl = some (.inr (4, ps))) (p0 : ps[0]? = some (.int nn)) (p1 : ps[1]? = some (.ref pk)) (p2 : ps[2]? = some (.ref pn)) (p8 : ps[8]? = some (.ref ph)) (c_pk : h pk = some (.inl (cA 0, 6, .inl gK))) (c_pn : h pn = some (.inl (cA 0, 6, .inl gN))) (c_ph : h ph = some (.inl (cA 0, 6, .inl gH))) (hn : 0 ≤ nn.toInt ∧ nn.toInt ≤ 6) (hρ : ∀ q, q < nn.toInt.toNat → (gK q).toInt = ρ q 0 ∧ (gN q).toInt = ρ q 1 ∧ (gH q).toInt = ρ q 8) {hh : Int32} (hh0 : 0 ≤ hh.toInt ∧ hh.toInt ≤ 120) (hq : ∀ v : Int32, (v.toInt = 1 ∧ (∀ p9, p9 < nn.toInt.toNat → ρ p9 8 = -1 → ¬ (tab p9 hh.toInt.toNat).toInt = 0) ∨ v.toInt = 0 ∧ ¬ (∀ p9, p9 < nn.toInt.toNat → ρ p9 8 = -1 → ¬ (tab p9 hh.toInt.toNat).toInt = 0)) → Q (some (.int v)) h) : ww l D tys A X fr lo mX0_topsCanBe Q 0 [(0, .ref ft), (1, .ref pl), (2, .int hh)] [] h := by
  refine w_iconst (by decide) (tX0_topsCanBe_0_ok (0, .iconst 0, 1) (List.mem_of_getElem? (i := 0) rfl)) (fun zv1 ze2 => ?_)
  refine w_istore_n [(3, .int zv1), (0, .ref ft), (1, .ref pl), (2, .int hh)] rfl (Nat.le_of_ble_eq_true rfl) (tX0_topsCanBe_0_ok (1, .istore_n 3, 1) (List.mem_of_getElem? (i := 1) rfl)) ?_
  exact c_tcL hT c_ft t2 t0 c_tb hF c_rw c_pl p0 p1 p2 p8 c_pk c_pn c_ph hn hρ hh0 (nn.toInt - zv1.toInt).toNat _ (by omega) (by omega) (fun p9 h2 _ => absurd h2 (by omega)) hq
def tU (tab : Nat → Nat → Int32) (p : Nat) (f : Nat → Int32) : Nat → Nat → Int32 := fun i => if i = p then f else tab i
theorem tU_s (tab : Nat → Nat → Int32) (p : Nat) (f : Nat → Int32) : tU tab p f p = f := if_pos rfl
theorem tU_n (tab : Nat → Nat → Int32) {p i : Nat} (f : Nat → Int32) (h : i ≠ p) : tU tab p f i = tab i := if_neg h
theorem c_loI (hT : k_tys tys cA) {ft tb : Nat} {F : Nat → Option Nat} {tr : Nat → Nat} (hF : ∀ i, i < 6 → F i = some (tr i)) {pl pk pn ph : Nat} {ps : List Value} {gK gN gH : Nat → Int32} {nn : Int32} (p0 : ps[0]? = some (.int nn)) (p1 : ps[1]? = some (.ref pk)) (p2 : ps[2]? = some (.ref pn)) (p8 : ps[8]? = some (.ref ph)) (nd : ∀ i, i < 6 → tr i ≠ ft ∧ tr i ≠ tb ∧ tr i ≠ pl ∧ tr i ≠ pk ∧ tr i ≠ pn ∧ tr i ≠ ph) (nt : ∀ i j, i < 6 → j < 6 → i ≠ j → tr i ≠ tr j) (hn : 0 ≤ nn.toInt ∧ nn.toInt ≤ 6) (hρ : ∀ q, q < nn.toInt.toNat → (gK q).toInt = ρ q 0 ∧ (gN q).toInt = ρ q 1 ∧ (gH q).toInt = ρ q 8) (wf : wfR nn.toInt.toNat ρ) (hL : ∀ q, q < 6 → 0 ≤ (gN q).toInt ∧ (gN q).toInt ≤ 20) {sm : Int32} {B : Nat → Prop} {ts : List Value} {a : Int32} (t0 : ts[0]? = some (.ref tb)) (t2 : ts[2]? = some (.int a)) {p on : Int32} (hf : 3 ≤ fr) (hl : 120 ≤ lo) (hp : 0 ≤ p.toInt ∧ p.toInt < nn.toInt) (J : f_j nn.toInt.toNat ρ B a p.toInt.toNat) : ∀ (j : Nat) (hh : Int32) (h : ch_H) (tab : Nat → Nat → Int32), hh.toInt + j = 121 → 0 ≤ hh.toInt → h ft = some (.inr (0, ts)) → h tb = some (.inl (cA 5, 6, .inr (.inr (.inr (.inr F))))) → (∀ i, i < 6 → h (tr i) = some (.inl (cA 0, 121, .inl (tab i)))) → h pl = some (.inr (4, ps)) → h pk = some (.inl (cA 0, 6, .inl gK)) → h pn = some (.inl (cA 0, 6, .inl gN)) → h ph = some (.inl (cA 0, 6, .inl gH)) → f_t nn.toInt.toNat ρ B tab (p.toInt.toNat + 1) → (∀ d : Nat, d < hh.toInt.toNat → (¬ (tab p.toInt.toNat d).toInt = 0 ↔ f_F nn.toInt.toNat ρ B 6 p.toInt.toNat (d : Int))) → (∀ (g : ch_H) (h1 : Int32) (tab1 : Nat → Nat → Int32), g ft = some (.inr (0, ts)) → g tb = some (.inl (cA 5, 6, .inr (.inr (.inr (.inr F))))) → (∀ i, i < 6 → g (tr i) = some (.inl (cA 0, 121, .inl (tab1 i)))) → g pl = some (.inr (4, ps)) → g pk = some (.inl (cA 0, 6, .inl gK)) → g pn = some (.inl (cA 0, 6, .inl gN)) → g ph = some (.inl (cA 0, 6, .inl gH)) → f_t nn.toInt.toNat ρ B tab1 p.toInt.toNat → (∀ q, (∀ i, i < 6 → q ≠ tr i) → g q = h q) → ww l D tys A X fr lo mX0_lowest Q 102 [(5, .int h1), (4, .int on), (3, .int p), (0, .ref ft), (1, .ref pl), (2, .int sm)] [] g) → ww l D tys A X fr lo mX0_lowest Q 56 [(5, .int hh), (4, .int on), (3, .int p), (0, .ref ft), (1, .ref pl), (2, .int sm)] [] h := by
  intro j
  induction j using Nat.strongRecOn with
  | ind j ih =>
    intro hh h tab hj hh0 c_ft c_tb c_rw c_pl c_pk c_pn c_ph T hi hq
    refine w_iload (List.Mem.head _) (tX0_lowest_0_ok (56, .iload 5, 2) (List.mem_of_getElem? (i := 33) rfl)) ?_
    refine w_bipush (by decide) (tX0_lowest_0_ok (58, .bipush 120, 2) (List.mem_of_getElem? (i := 34) rfl)) (fun zv1 ze2 => ?_)
    refine w_icmp_gt (tgt := 102) (tX0_lowest_0_ok (60, .if_icmp .gt 42, 3) (List.mem_of_getElem? (i := 35) rfl)) rfl (fun zb3 => ?_) (fun zb3 => ?_)
    · refine hq h hh tab c_ft c_tb c_rw c_pl c_pk c_pn c_ph (fun q h1 h2 d h3 => ?_) (fun _ _ => rfl)
      by_cases c9 : q = p.toInt.toNat
      · subst c9
        exact hi d (by omega)
      · exact T q (by omega) h2 d h3
    · refine w_aload_n (List.Mem.tail _ (List.Mem.tail _ (List.Mem.tail _ (List.Mem.head _)))) (tX0_lowest_0_ok (63, .aload_n 0, 1) (List.mem_of_getElem? (i := 36) rfl)) ?_
      refine w_get (own := 5) rfl rfl (by decide) c_ft t0 (tX0_lowest_0_ok (64, .getfield 13, 3) (List.mem_of_getElem? (i := 37) rfl)) ?_
      refine w_iload_n (List.Mem.tail _ (List.Mem.tail _ (List.Mem.head _))) (tX0_lowest_0_ok (67, .iload_n 3, 1) (List.mem_of_getElem? (i := 38) rfl)) ?_
      refine w_aald (b := tr p.toInt.toNat) hT c_tb (by omega) (by omega) (by rw [hF p.toInt.toNat (by omega)]; rfl) (tX0_lowest_0_ok (68, .aaload, 1) (List.mem_of_getElem? (i := 39) rfl)) ?_
      refine w_iload (List.Mem.head _) (tX0_lowest_0_ok (69, .iload 5, 2) (List.mem_of_getElem? (i := 40) rfl)) ?_
      refine w_aload_n (List.Mem.tail _ (List.Mem.tail _ (List.Mem.tail _ (List.Mem.head _)))) (tX0_lowest_0_ok (71, .aload_n 0, 1) (List.mem_of_getElem? (i := 41) rfl)) ?_
      refine w_iload_n (List.Mem.tail _ (List.Mem.tail _ (List.Mem.head _))) (tX0_lowest_0_ok (72, .iload_n 3, 1) (List.mem_of_getElem? (i := 42) rfl)) ?_
      refine w_callV (own := 5) (mi := 18) [.int p] [.int hh, .ref (tr p.toInt.toNat)] [(0, .ref ft), (1, .int p)] rfl (cllw_X0 (61, 0, 18) (List.mem_of_getElem? (i := 6) rfl)) rfl rfl c_ft rfl (by omega) (w_lo (n := 21) rfl (by omega)) (Nat.le_of_ble_eq_true rfl) (Nat.le_of_ble_eq_true rfl) rfl (tX0_lowest_0_ok (73, .invokevirtual 61, 3) (List.mem_of_getElem? (i := 43) rfl)) (c_isAsked c_ft t2 (by omega) (fun zv4 ze5 => ?_))
      obtain ⟨ze5a, ze5b, ze5c⟩ := ze5
      show ww l D tys A X fr lo mX0_lowest Q 76 [(5, .int hh), (4, .int on), (3, .int p), (0, .ref ft), (1, .ref pl), (2, .int sm)] [.int zv4, .int hh, .ref (tr p.toInt.toNat)] h
      refine w_if_eq (tgt := 94) (tX0_lowest_0_ok (76, .ifCond .eq 18, 3) (List.mem_of_getElem? (i := 44) rfl)) rfl (fun zb6 => ?_) (fun zb6 => ?_)
      · refine w_iconst (by decide) (tX0_lowest_0_ok (94, .iconst 1, 1) (List.mem_of_getElem? (i := 53) rfl)) (fun zv7 ze8 => ?_)
        refine w_iast hT (c_rw p.toInt.toNat (by omega)) (by omega) (by omega) (tX0_lowest_0_ok (95, .iastore, 1) (List.mem_of_getElem? (i := 54) rfl)) (fun zh9 zc10 zo11 => ?_)
        have hcell : ¬ zv7.toInt = 0 ↔ f_F nn.toInt.toNat ρ B 6 p.toInt.toNat ((hh.toInt.toNat : Nat) : Int) := ⟨fun _ => f_no6 wf _ (by omega) (fun z => absurd ((f_j_ak wf J (by omega) (Nat.le_refl _)).mpr z) (fun z2 => absurd (ze5c.mpr z2) (by omega))), fun _ => by omega⟩
        refine w_iinc (fun zv12 => [(5, .int zv12), (4, .int on), (3, .int p), (0, .ref ft), (1, .ref pl), (2, .int sm)]) (fun _ => rfl) (List.Mem.head _) (Nat.le_of_ble_eq_true rfl) (by decide) (by omega) (by omega) (tX0_lowest_0_ok (96, .iinc 5 1, 3) (List.mem_of_getElem? (i := 55) rfl)) (fun zv12 ze13 => ?_)
        refine w_goto (tgt := 56) (tX0_lowest_0_ok (99, .goto (-43), 3) (List.mem_of_getElem? (i := 56) rfl)) rfl ?_
        refine w_lv [(5, .int zv12), (4, .int on), (3, .int p), (0, .ref ft), (1, .ref pl), (2, .int sm)] (by intro q hq; simp only [List.mem_cons, List.not_mem_nil, or_false] at hq ⊢; rcases hq with e | e | e | e | e | e <;> subst e <;> simp) ?_
        refine ih (j - 1) (by omega) _ _ (tU tab p.toInt.toNat (upd (tab p.toInt.toNat) hh.toInt.toNat zv7)) (by omega) (by omega) ((zo11 ft (nd p.toInt.toNat (by omega)).1.symm).trans c_ft) ((zo11 tb (nd p.toInt.toNat (by omega)).2.1.symm).trans c_tb) (fun i hi9 => ?_) ((zo11 pl (nd p.toInt.toNat (by omega)).2.2.1.symm).trans c_pl) ((zo11 pk (nd p.toInt.toNat (by omega)).2.2.2.1.symm).trans c_pk) ((zo11 pn (nd p.toInt.toNat (by omega)).2.2.2.2.1.symm).trans c_pn) ((zo11 ph (nd p.toInt.toNat (by omega)).2.2.2.2.2.symm).trans c_ph) (fun q h1 h2 d h3 => ?_) (fun d h3 => ?_) (fun g k9 tab1 z1 z2 z3 z4 z5 z6 z7 z8 z9 => hq g k9 tab1 z1 z2 z3 z4 z5 z6 z7 z8 (fun q hq9 => (z9 q hq9).trans (zo11 q (hq9 p.toInt.toNat (by omega)))))
        · by_cases c9 : i = p.toInt.toNat
          · subst c9
            rw [tU_s]
            exact zc10
          · rw [tU_n _ _ c9]
            exact (zo11 _ (nt i _ hi9 (by omega) c9)).trans (c_rw i hi9)
        · rw [tU_n _ _ (show q ≠ p.toInt.toNat by omega)]
          exact T q h1 h2 d h3
        · rw [tU_s]
          by_cases c9 : d = hh.toInt.toNat
          · subst c9
            rw [upd_s]
            exact hcell
          · rw [upd_n _ _ c9]
            exact hi d (by omega)
      · refine w_aload_n (List.Mem.tail _ (List.Mem.tail _ (List.Mem.tail _ (List.Mem.head _)))) (tX0_lowest_0_ok (79, .aload_n 0, 1) (List.mem_of_getElem? (i := 45) rfl)) ?_
        refine w_aload_n (List.Mem.tail _ (List.Mem.tail _ (List.Mem.tail _ (List.Mem.tail _ (List.Mem.head _))))) (tX0_lowest_0_ok (80, .aload_n 1, 1) (List.mem_of_getElem? (i := 46) rfl)) ?_
        refine w_iload_n (List.Mem.tail _ (List.Mem.tail _ (List.Mem.head _))) (tX0_lowest_0_ok (81, .iload_n 3, 1) (List.mem_of_getElem? (i := 47) rfl)) ?_
        refine w_iload (List.Mem.head _) (tX0_lowest_0_ok (82, .iload 5, 2) (List.mem_of_getElem? (i := 48) rfl)) ?_
        refine w_callV (own := 5) (mi := 13) [.ref pl, .int p, .int hh] [.int hh, .ref (tr p.toInt.toNat)] [(0, .ref ft), (1, .ref pl), (2, .int p), (3, .int hh)] rfl (cllw_X0 (65, 0, 13) (List.mem_of_getElem? (i := 7) rfl)) rfl rfl c_ft rfl (by omega) (w_lo (n := 25) rfl (by omega)) (Nat.le_of_ble_eq_true rfl) (Nat.le_of_ble_eq_true rfl) rfl (tX0_lowest_0_ok (84, .invokevirtual 65, 3) (List.mem_of_getElem? (i := 49) rfl)) (c_canAllBe hT c_ft t2 t0 c_tb hF c_rw c_pl p0 p1 p2 p8 c_pk c_pn c_ph hn hρ wf hL (by omega) (w_sub (n := 25) rfl (by omega)) (by omega) (by omega) (by omega) (fun zv14 ze15 => ?_))
        show ww l D tys A X fr lo mX0_lowest Q 87 [(5, .int hh), (4, .int on), (3, .int p), (0, .ref ft), (1, .ref pl), (2, .int sm)] [.int zv14, .int hh, .ref (tr p.toInt.toNat)] h
        refine w_if_ne (tgt := 94) (tX0_lowest_0_ok (87, .ifCond .ne 7, 3) (List.mem_of_getElem? (i := 50) rfl)) rfl (fun zb16 => ?_) (fun zb16 => ?_)
        · refine w_iconst (by decide) (tX0_lowest_0_ok (94, .iconst 1, 1) (List.mem_of_getElem? (i := 53) rfl)) (fun zv17 ze18 => ?_)
          refine w_iast hT (c_rw p.toInt.toNat (by omega)) (by omega) (by omega) (tX0_lowest_0_ok (95, .iastore, 1) (List.mem_of_getElem? (i := 54) rfl)) (fun zh19 zc20 zo21 => ?_)
          have hcell : ¬ zv17.toInt = 0 ↔ f_F nn.toInt.toNat ρ B 6 p.toInt.toNat ((hh.toInt.toNat : Nat) : Int) := ⟨fun _ => by
                  rcases ze15 with ⟨y1, y2⟩ | ⟨y1, y2⟩
                  · have := (f_can_iff wf J T (by omega) _).mp y2
                    rw [show ((hh.toInt.toNat : Nat) : Int) = hh.toInt by omega]
                    exact this
                  · omega, fun _ => by omega⟩
          refine w_iinc (fun zv22 => [(5, .int zv22), (4, .int on), (3, .int p), (0, .ref ft), (1, .ref pl), (2, .int sm)]) (fun _ => rfl) (List.Mem.head _) (Nat.le_of_ble_eq_true rfl) (by decide) (by omega) (by omega) (tX0_lowest_0_ok (96, .iinc 5 1, 3) (List.mem_of_getElem? (i := 55) rfl)) (fun zv22 ze23 => ?_)
          refine w_goto (tgt := 56) (tX0_lowest_0_ok (99, .goto (-43), 3) (List.mem_of_getElem? (i := 56) rfl)) rfl ?_
          refine w_lv [(5, .int zv22), (4, .int on), (3, .int p), (0, .ref ft), (1, .ref pl), (2, .int sm)] (by intro q hq; simp only [List.mem_cons, List.not_mem_nil, or_false] at hq ⊢; rcases hq with e | e | e | e | e | e <;> subst e <;> simp) ?_
          refine ih (j - 1) (by omega) _ _ (tU tab p.toInt.toNat (upd (tab p.toInt.toNat) hh.toInt.toNat zv17)) (by omega) (by omega) ((zo21 ft (nd p.toInt.toNat (by omega)).1.symm).trans c_ft) ((zo21 tb (nd p.toInt.toNat (by omega)).2.1.symm).trans c_tb) (fun i hi9 => ?_) ((zo21 pl (nd p.toInt.toNat (by omega)).2.2.1.symm).trans c_pl) ((zo21 pk (nd p.toInt.toNat (by omega)).2.2.2.1.symm).trans c_pk) ((zo21 pn (nd p.toInt.toNat (by omega)).2.2.2.2.1.symm).trans c_pn) ((zo21 ph (nd p.toInt.toNat (by omega)).2.2.2.2.2.symm).trans c_ph) (fun q h1 h2 d h3 => ?_) (fun d h3 => ?_) (fun g k9 tab1 z1 z2 z3 z4 z5 z6 z7 z8 z9 => hq g k9 tab1 z1 z2 z3 z4 z5 z6 z7 z8 (fun q hq9 => (z9 q hq9).trans (zo21 q (hq9 p.toInt.toNat (by omega)))))
          · by_cases c9 : i = p.toInt.toNat
            · subst c9
              rw [tU_s]
              exact zc20
            · rw [tU_n _ _ c9]
              exact (zo21 _ (nt i _ hi9 (by omega) c9)).trans (c_rw i hi9)
          · rw [tU_n _ _ (show q ≠ p.toInt.toNat by omega)]
            exact T q h1 h2 d h3
          · rw [tU_s]
            by_cases c9 : d = hh.toInt.toNat
            · subst c9
              rw [upd_s]
              exact hcell
            · rw [upd_n _ _ c9]
              exact hi d (by omega)
        · refine w_iconst (by decide) (tX0_lowest_0_ok (90, .iconst 0, 1) (List.mem_of_getElem? (i := 51) rfl)) (fun zv24 ze25 => ?_)
          refine w_goto (tgt := 95) (tX0_lowest_0_ok (91, .goto 4, 3) (List.mem_of_getElem? (i := 52) rfl)) rfl ?_
          refine w_iast hT (c_rw p.toInt.toNat (by omega)) (by omega) (by omega) (tX0_lowest_0_ok (95, .iastore, 1) (List.mem_of_getElem? (i := 54) rfl)) (fun zh26 zc27 zo28 => ?_)
          have hcell : ¬ zv24.toInt = 0 ↔ f_F nn.toInt.toNat ρ B 6 p.toInt.toNat ((hh.toInt.toNat : Nat) : Int) := ⟨fun z => absurd z (by omega), fun z => by
                  rcases ze15 with ⟨y1, y2⟩ | ⟨y1, y2⟩
                  · omega
                  · rw [show ((hh.toInt.toNat : Nat) : Int) = hh.toInt by omega] at z
                    exact absurd ((f_can_iff wf J T (by omega) _).mpr z) y2⟩
          refine w_iinc (fun zv29 => [(5, .int zv29), (4, .int on), (3, .int p), (0, .ref ft), (1, .ref pl), (2, .int sm)]) (fun _ => rfl) (List.Mem.head _) (Nat.le_of_ble_eq_true rfl) (by decide) (by omega) (by omega) (tX0_lowest_0_ok (96, .iinc 5 1, 3) (List.mem_of_getElem? (i := 55) rfl)) (fun zv29 ze30 => ?_)
          refine w_goto (tgt := 56) (tX0_lowest_0_ok (99, .goto (-43), 3) (List.mem_of_getElem? (i := 56) rfl)) rfl ?_
          refine w_lv [(5, .int zv29), (4, .int on), (3, .int p), (0, .ref ft), (1, .ref pl), (2, .int sm)] (by intro q hq; simp only [List.mem_cons, List.not_mem_nil, or_false] at hq ⊢; rcases hq with e | e | e | e | e | e <;> subst e <;> simp) ?_
          refine ih (j - 1) (by omega) _ _ (tU tab p.toInt.toNat (upd (tab p.toInt.toNat) hh.toInt.toNat zv24)) (by omega) (by omega) ((zo28 ft (nd p.toInt.toNat (by omega)).1.symm).trans c_ft) ((zo28 tb (nd p.toInt.toNat (by omega)).2.1.symm).trans c_tb) (fun i hi9 => ?_) ((zo28 pl (nd p.toInt.toNat (by omega)).2.2.1.symm).trans c_pl) ((zo28 pk (nd p.toInt.toNat (by omega)).2.2.2.1.symm).trans c_pk) ((zo28 pn (nd p.toInt.toNat (by omega)).2.2.2.2.1.symm).trans c_pn) ((zo28 ph (nd p.toInt.toNat (by omega)).2.2.2.2.2.symm).trans c_ph) (fun q h1 h2 d h3 => ?_) (fun d h3 => ?_) (fun g k9 tab1 z1 z2 z3 z4 z5 z6 z7 z8 z9 => hq g k9 tab1 z1 z2 z3 z4 z5 z6 z7 z8 (fun q hq9 => (z9 q hq9).trans (zo28 q (hq9 p.toInt.toNat (by omega)))))
          · by_cases c9 : i = p.toInt.toNat
            · subst c9
              rw [tU_s]
              exact zc27
            · rw [tU_n _ _ c9]
              exact (zo28 _ (nt i _ hi9 (by omega) c9)).trans (c_rw i hi9)
          · rw [tU_n _ _ (show q ≠ p.toInt.toNat by omega)]
            exact T q h1 h2 d h3
          · rw [tU_s]
            by_cases c9 : d = hh.toInt.toNat
            · subst c9
              rw [upd_s]
              exact hcell
            · rw [upd_n _ _ c9]
              exact hi d (by omega)
theorem c_loO (hT : k_tys tys cA) {ft tb : Nat} {F : Nat → Option Nat} {tr : Nat → Nat} (hF : ∀ i, i < 6 → F i = some (tr i)) {pl pk pn ph : Nat} {ps : List Value} {gK gN gH : Nat → Int32} {nn : Int32} (p0 : ps[0]? = some (.int nn)) (p1 : ps[1]? = some (.ref pk)) (p2 : ps[2]? = some (.ref pn)) (p8 : ps[8]? = some (.ref ph)) (nd : ∀ i, i < 6 → tr i ≠ ft ∧ tr i ≠ tb ∧ tr i ≠ pl ∧ tr i ≠ pk ∧ tr i ≠ pn ∧ tr i ≠ ph) (nt : ∀ i j, i < 6 → j < 6 → i ≠ j → tr i ≠ tr j) (n_tb_ft : tb ≠ ft) (n_pl_ft : pl ≠ ft) (n_pk_ft : pk ≠ ft) (n_pn_ft : pn ≠ ft) (n_ph_ft : ph ≠ ft) (hn : 0 ≤ nn.toInt ∧ nn.toInt ≤ 6) (hρ : ∀ q, q < nn.toInt.toNat → (gK q).toInt = ρ q 0 ∧ (gN q).toInt = ρ q 1 ∧ (gH q).toInt = ρ q 8) (wf : wfR nn.toInt.toNat ρ) (hL : ∀ q, q < 6 → 0 ≤ (gN q).toInt ∧ (gN q).toInt ≤ 20) {sm : Int32} {B : Nat → Prop} (hf : 3 ≤ fr) (hl : 120 ≤ lo) : ∀ (j : Nat) (p : Int32) (h : ch_H) (ts : List Value) (a : Int32) (tab : Nat → Nat → Int32), p.toInt + 1 = j → p.toInt < nn.toInt → ts[0]? = some (.ref tb) → ts[2]? = some (.int a) → ts.length = 3 → f_j nn.toInt.toNat ρ B a (p.toInt + 1).toNat → h ft = some (.inr (0, ts)) → h tb = some (.inl (cA 5, 6, .inr (.inr (.inr (.inr F))))) → (∀ i, i < 6 → h (tr i) = some (.inl (cA 0, 121, .inl (tab i)))) → h pl = some (.inr (4, ps)) → h pk = some (.inl (cA 0, 6, .inl gK)) → h pn = some (.inl (cA 0, 6, .inl gN)) → h ph = some (.inl (cA 0, 6, .inl gH)) → f_t nn.toInt.toNat ρ B tab (p.toInt + 1).toNat → (∀ (g : ch_H) (p1 : Int32) (ts : List Value) (tab : Nat → Nat → Int32) (a : Int32), ts[0]? = some (.ref tb) → ts[2]? = some (.int a) → ts.length = 3 → g ft = some (.inr (0, ts)) → g tb = some (.inl (cA 5, 6, .inr (.inr (.inr (.inr F))))) → (∀ i, i < 6 → g (tr i) = some (.inl (cA 0, 121, .inl (tab i)))) → g pl = some (.inr (4, ps)) → g pk = some (.inl (cA 0, 6, .inl gK)) → g pn = some (.inl (cA 0, 6, .inl gN)) → g ph = some (.inl (cA 0, 6, .inl gH)) → f_t nn.toInt.toNat ρ B tab 0 → (∀ q, q ≠ ft ∧ (∀ i, i < 6 → q ≠ tr i) → g q = h q) → ww l D tys A X fr lo mX0_lowest Q 108 [(3, .int p1), (0, .ref ft), (1, .ref pl), (2, .int sm)] [] g) → ww l D tys A X fr lo mX0_lowest Q 12 [(3, .int p), (0, .ref ft), (1, .ref pl), (2, .int sm)] [] h := by
  intro j
  induction j using Nat.strongRecOn with
  | ind j ih =>
    intro p h ts a tab hj hpn t0 t2 tl J0 c_ft c_tb c_rw c_pl c_pk c_pn c_ph T0 hq
    have J : 0 ≤ p.toInt → f_j nn.toInt.toNat ρ B a (p.toInt.toNat + 1) := fun z => by rw [show p.toInt.toNat + 1 = (p.toInt + 1).toNat by omega]; exact J0
    have T : 0 ≤ p.toInt → f_t nn.toInt.toNat ρ B tab (p.toInt.toNat + 1) := fun z => by rw [show p.toInt.toNat + 1 = (p.toInt + 1).toNat by omega]; exact T0
    refine w_iload_n (List.Mem.head _) (tX0_lowest_0_ok (12, .iload_n 3, 1) (List.mem_of_getElem? (i := 8) rfl)) ?_
    refine w_if_lt (tgt := 108) (tX0_lowest_0_ok (13, .ifCond .lt 95, 3) (List.mem_of_getElem? (i := 9) rfl)) rfl (fun zb1 => ?_) (fun zb1 => ?_)
    · have e9 : (p.toInt + 1).toNat = 0 := by omega
      rw [e9] at T0
      exact hq h p ts tab a t0 t2 tl c_ft c_tb c_rw c_pl c_pk c_pn c_ph T0 (fun _ _ => rfl)
    · have J := J (by omega)
      have T := T (by omega)
      refine w_aload_n (List.Mem.tail _ (List.Mem.tail _ (List.Mem.head _))) (tX0_lowest_0_ok (16, .aload_n 1, 1) (List.mem_of_getElem? (i := 10) rfl)) ?_
      refine w_get (own := 5) rfl rfl (by decide) c_pl p8 (tX0_lowest_0_ok (17, .getfield 34, 3) (List.mem_of_getElem? (i := 11) rfl)) ?_
      refine w_iload_n (List.Mem.head _) (tX0_lowest_0_ok (20, .iload_n 3, 1) (List.mem_of_getElem? (i := 12) rfl)) ?_
      refine w_iald hT c_ph (by omega) (by omega) (tX0_lowest_0_ok (21, .iaload, 1) (List.mem_of_getElem? (i := 13) rfl)) (fun zv2 ze3 => ?_)
      have hz9 := (hρ p.toInt.toNat (by omega)).2.2
      have hw9 := (wf.2 p.toInt.toNat (by omega)).1.2.2.2.2.2.2.2.2
      refine w_istore [(4, .int zv2), (3, .int p), (0, .ref ft), (1, .ref pl), (2, .int sm)] rfl (Nat.le_of_ble_eq_true rfl) (tX0_lowest_0_ok (22, .istore 4, 2) (List.mem_of_getElem? (i := 14) rfl)) ?_
      refine w_iload (List.Mem.head _) (tX0_lowest_0_ok (24, .iload 4, 2) (List.mem_of_getElem? (i := 15) rfl)) ?_
      refine w_if_lt (tgt := 53) (tX0_lowest_0_ok (26, .ifCond .lt 27, 3) (List.mem_of_getElem? (i := 16) rfl)) rfl (fun zb4 => ?_) (fun zb4 => ?_)
      · refine w_iconst (by decide) (tX0_lowest_0_ok (53, .iconst 0, 1) (List.mem_of_getElem? (i := 31) rfl)) (fun zv5 ze6 => ?_)
        refine w_istore [(5, .int zv5), (4, .int zv2), (3, .int p), (0, .ref ft), (1, .ref pl), (2, .int sm)] rfl (Nat.le_of_ble_eq_true rfl) (tX0_lowest_0_ok (54, .istore 5, 2) (List.mem_of_getElem? (i := 32) rfl)) ?_
        refine w_lv [(5, .int zv5), (4, .int zv2), (3, .int p), (0, .ref ft), (1, .ref pl), (2, .int sm)] (by intro q hq; simp only [List.mem_cons, List.not_mem_nil, or_false] at hq ⊢; rcases hq with e | e | e | e | e | e <;> subst e <;> simp) ?_
        have J9 : f_j nn.toInt.toNat ρ B a p.toInt.toNat := f_j_no J (Or.inl (by omega))
        refine c_loI hT hF p0 p1 p2 p8 nd nt hn hρ wf hL (B := B) t0 t2 hf hl ⟨by omega, by omega⟩ J9 121 _ _ tab (by omega) (by omega) c_ft c_tb c_rw c_pl c_pk c_pn c_ph T (fun d h3 => absurd h3 (by omega)) (fun zg7 zk8 ztb9 zq10 zq11 zq12 zq13 zq14 zq15 zq16 zq17 zq18 => ?_)
        show ww l D tys A X fr lo mX0_lowest Q 102 [(5, .int zk8), (4, .int zv2), (3, .int p), (0, .ref ft), (1, .ref pl), (2, .int sm)] [] zg7
        refine w_iinc (fun zv19 => [(3, .int zv19), (5, .int zk8), (4, .int zv2), (0, .ref ft), (1, .ref pl), (2, .int sm)]) (fun _ => rfl) (List.Mem.tail _ (List.Mem.tail _ (List.Mem.head _))) (Nat.le_of_ble_eq_true rfl) (by decide) (by omega) (by omega) (tX0_lowest_0_ok (102, .iinc 3 (-1), 3) (List.mem_of_getElem? (i := 57) rfl)) (fun zv19 ze20 => ?_)
        refine w_goto (tgt := 12) (tX0_lowest_0_ok (105, .goto (-93), 3) (List.mem_of_getElem? (i := 58) rfl)) rfl ?_
        refine w_lv [(3, .int zv19), (0, .ref ft), (1, .ref pl), (2, .int sm)] (by intro q hq; simp only [List.mem_cons, List.not_mem_nil, or_false] at hq ⊢; rcases hq with e | e | e | e <;> subst e <;> simp) ?_
        have e9 : (zv19.toInt + 1).toNat = p.toInt.toNat := by omega
        refine ih (j - 1) (by omega) _ _ _ _ ztb9 (by omega) (by omega) t0 t2 tl ?_ zq10 zq11 zq12 zq13 zq14 zq15 zq16 ?_ (fun g1 pp ts1 tab1 a1 y1 y2 y3 y4 y5 y6 y7 y8 y9 y10 y11 y12 => hq g1 pp ts1 tab1 a1 y1 y2 y3 y4 y5 y6 y7 y8 y9 y10 y11 (fun q hq9 => (y12 q hq9).trans ((zq18 q hq9.2))))
        · rw [e9]
          exact J9
        · rw [e9]
          exact zq17
      · refine w_aload_n (List.Mem.tail _ (List.Mem.tail _ (List.Mem.head _))) (tX0_lowest_0_ok (29, .aload_n 0, 1) (List.mem_of_getElem? (i := 17) rfl)) ?_
        refine w_iload_n (List.Mem.tail _ (List.Mem.head _)) (tX0_lowest_0_ok (30, .iload_n 3, 1) (List.mem_of_getElem? (i := 18) rfl)) ?_
        refine w_callV (own := 5) (mi := 18) [.int p] [] [(0, .ref ft), (1, .int p)] rfl (cllw_X0 (61, 0, 18) (List.mem_of_getElem? (i := 6) rfl)) rfl rfl c_ft rfl (by omega) (w_lo (n := 21) rfl (by omega)) (Nat.le_of_ble_eq_true rfl) (Nat.le_of_ble_eq_true rfl) rfl (tX0_lowest_0_ok (31, .invokevirtual 61, 3) (List.mem_of_getElem? (i := 19) rfl)) (c_isAsked c_ft t2 (by omega) (fun zv21 ze22 => ?_))
        obtain ⟨ze22a, ze22b, ze22c⟩ := ze22
        show ww l D tys A X fr lo mX0_lowest Q 34 [(4, .int zv2), (3, .int p), (0, .ref ft), (1, .ref pl), (2, .int sm)] [.int zv21] h
        refine w_if_eq (tgt := 53) (tX0_lowest_0_ok (34, .ifCond .eq 19, 3) (List.mem_of_getElem? (i := 20) rfl)) rfl (fun zb23 => ?_) (fun zb23 => ?_)
        · refine w_iconst (by decide) (tX0_lowest_0_ok (53, .iconst 0, 1) (List.mem_of_getElem? (i := 31) rfl)) (fun zv24 ze25 => ?_)
          refine w_istore [(5, .int zv24), (4, .int zv2), (3, .int p), (0, .ref ft), (1, .ref pl), (2, .int sm)] rfl (Nat.le_of_ble_eq_true rfl) (tX0_lowest_0_ok (54, .istore 5, 2) (List.mem_of_getElem? (i := 32) rfl)) ?_
          refine w_lv [(5, .int zv24), (4, .int zv2), (3, .int p), (0, .ref ft), (1, .ref pl), (2, .int sm)] (by intro q hq; simp only [List.mem_cons, List.not_mem_nil, or_false] at hq ⊢; rcases hq with e | e | e | e | e | e <;> subst e <;> simp) ?_
          have J9 : f_j nn.toInt.toNat ρ B a p.toInt.toNat := f_j_no J (Or.inr (fun z => absurd (ze22c.mpr ((f_ak wf J (by omega) (Nat.le_refl _)).mpr z)) (by omega)))
          refine c_loI hT hF p0 p1 p2 p8 nd nt hn hρ wf hL (B := B) t0 t2 hf hl ⟨by omega, by omega⟩ J9 121 _ _ tab (by omega) (by omega) c_ft c_tb c_rw c_pl c_pk c_pn c_ph T (fun d h3 => absurd h3 (by omega)) (fun zg26 zk27 ztb28 zq29 zq30 zq31 zq32 zq33 zq34 zq35 zq36 zq37 => ?_)
          show ww l D tys A X fr lo mX0_lowest Q 102 [(5, .int zk27), (4, .int zv2), (3, .int p), (0, .ref ft), (1, .ref pl), (2, .int sm)] [] zg26
          refine w_iinc (fun zv38 => [(3, .int zv38), (5, .int zk27), (4, .int zv2), (0, .ref ft), (1, .ref pl), (2, .int sm)]) (fun _ => rfl) (List.Mem.tail _ (List.Mem.tail _ (List.Mem.head _))) (Nat.le_of_ble_eq_true rfl) (by decide) (by omega) (by omega) (tX0_lowest_0_ok (102, .iinc 3 (-1), 3) (List.mem_of_getElem? (i := 57) rfl)) (fun zv38 ze39 => ?_)
          refine w_goto (tgt := 12) (tX0_lowest_0_ok (105, .goto (-93), 3) (List.mem_of_getElem? (i := 58) rfl)) rfl ?_
          refine w_lv [(3, .int zv38), (0, .ref ft), (1, .ref pl), (2, .int sm)] (by intro q hq; simp only [List.mem_cons, List.not_mem_nil, or_false] at hq ⊢; rcases hq with e | e | e | e <;> subst e <;> simp) ?_
          have e9 : (zv38.toInt + 1).toNat = p.toInt.toNat := by omega
          refine ih (j - 1) (by omega) _ _ _ _ ztb28 (by omega) (by omega) t0 t2 tl ?_ zq29 zq30 zq31 zq32 zq33 zq34 zq35 ?_ (fun g1 pp ts1 tab1 a1 y1 y2 y3 y4 y5 y6 y7 y8 y9 y10 y11 y12 => hq g1 pp ts1 tab1 a1 y1 y2 y3 y4 y5 y6 y7 y8 y9 y10 y11 (fun q hq9 => (y12 q hq9).trans ((zq37 q hq9.2))))
          · rw [e9]
            exact J9
          · rw [e9]
            exact zq36
        · refine w_aload_n (List.Mem.tail _ (List.Mem.tail _ (List.Mem.head _))) (tX0_lowest_0_ok (37, .aload_n 0, 1) (List.mem_of_getElem? (i := 21) rfl)) ?_
          refine w_dup rfl (tX0_lowest_0_ok (38, .dup, 1) (List.mem_of_getElem? (i := 22) rfl)) ?_
          refine w_get (own := 5) rfl rfl (by decide) c_ft t2 (tX0_lowest_0_ok (39, .getfield 58, 3) (List.mem_of_getElem? (i := 23) rfl)) ?_
          refine w_iconst (by decide) (tX0_lowest_0_ok (42, .iconst 1, 1) (List.mem_of_getElem? (i := 24) rfl)) (fun zv40 ze41 => ?_)
          refine w_bipush (by decide) (tX0_lowest_0_ok (43, .bipush 12, 2) (List.mem_of_getElem? (i := 25) rfl)) (fun zv42 ze43 => ?_)
          refine w_iload (List.Mem.head _) (tX0_lowest_0_ok (45, .iload 4, 2) (List.mem_of_getElem? (i := 26) rfl)) ?_
          refine w_iadd (by omega) (by omega) (tX0_lowest_0_ok (47, .iadd, 1) (List.mem_of_getElem? (i := 27) rfl)) (fun zv44 ze45 => ?_)
          refine w_ishl (tX0_lowest_0_ok (48, .ishl, 1) (List.mem_of_getElem? (i := 28) rfl)) (fun zv46 ze47 => ?_)
          refine w_ior (tX0_lowest_0_ok (49, .ior, 1) (List.mem_of_getElem? (i := 29) rfl)) (fun zv48 ze49 => ?_)
          refine w_putF (own := 5) (ci := 0) (k := 2) rfl rfl (by decide) rfl ⟨rfl, rfl⟩ c_ft (by rw [tl]; decide) (tX0_lowest_0_ok (50, .putfield 58, 3) (List.mem_of_getElem? (i := 30) rfl)) (fun zh50 zfs53 zl54 zk55 zj56 zc51 zo52 => ?_)
          rw [tl] at zl54
          have zf57 := (zj56 0 (by decide)).trans t0
          have zc58 := (zo52 pl n_pl_ft).trans c_pl
          have zc59 := (zo52 pk n_pk_ft).trans c_pk
          have zc60 := (zo52 pn n_pn_ft).trans c_pn
          have zc61 := (zo52 ph n_ph_ft).trans c_ph
          have zc62 := (zo52 tb n_tb_ft).trans c_tb
          have c_rw2 : ∀ i, i < 6 → zh50 (tr i) = some (.inl (cA 0, 121, .inl (tab i))) := fun i hi9 => (zo52 _ (nd i hi9).1).trans (c_rw i hi9)
          refine w_iconst (by decide) (tX0_lowest_0_ok (53, .iconst 0, 1) (List.mem_of_getElem? (i := 31) rfl)) (fun zv63 ze64 => ?_)
          refine w_istore [(5, .int zv63), (4, .int zv2), (3, .int p), (0, .ref ft), (1, .ref pl), (2, .int sm)] rfl (Nat.le_of_ble_eq_true rfl) (tX0_lowest_0_ok (54, .istore 5, 2) (List.mem_of_getElem? (i := 32) rfl)) ?_
          refine w_lv [(5, .int zv63), (4, .int zv2), (3, .int p), (0, .ref ft), (1, .ref pl), (2, .int sm)] (by intro q hq; simp only [List.mem_cons, List.not_mem_nil, or_false] at hq ⊢; rcases hq with e | e | e | e | e | e <;> subst e <;> simp) ?_
          have or9 := bt24_or (kk := 12 + zv2.toInt.toNat) (by omega) (by omega) (by omega) ze47 ze49
          have J9 : f_j nn.toInt.toNat ρ B zv48 p.toInt.toNat := f_j_or J (by omega) ((f_ak wf J (by omega) (Nat.le_refl _)).mp (ze22c.mp (by omega))) (u := zv2.toInt.toNat) (by omega) (by omega) or9
          refine c_loI hT hF p0 p1 p2 p8 nd nt hn hρ wf hL (B := B) zf57 zk55 hf hl ⟨by omega, by omega⟩ J9 121 _ _ tab (by omega) (by omega) zc51 zc62 c_rw2 zc58 zc59 zc60 zc61 T (fun d h3 => absurd h3 (by omega)) (fun zg65 zk66 ztb67 zq68 zq69 zq70 zq71 zq72 zq73 zq74 zq75 zq76 => ?_)
          show ww l D tys A X fr lo mX0_lowest Q 102 [(5, .int zk66), (4, .int zv2), (3, .int p), (0, .ref ft), (1, .ref pl), (2, .int sm)] [] zg65
          refine w_iinc (fun zv77 => [(3, .int zv77), (5, .int zk66), (4, .int zv2), (0, .ref ft), (1, .ref pl), (2, .int sm)]) (fun _ => rfl) (List.Mem.tail _ (List.Mem.tail _ (List.Mem.head _))) (Nat.le_of_ble_eq_true rfl) (by decide) (by omega) (by omega) (tX0_lowest_0_ok (102, .iinc 3 (-1), 3) (List.mem_of_getElem? (i := 57) rfl)) (fun zv77 ze78 => ?_)
          refine w_goto (tgt := 12) (tX0_lowest_0_ok (105, .goto (-93), 3) (List.mem_of_getElem? (i := 58) rfl)) rfl ?_
          refine w_lv [(3, .int zv77), (0, .ref ft), (1, .ref pl), (2, .int sm)] (by intro q hq; simp only [List.mem_cons, List.not_mem_nil, or_false] at hq ⊢; rcases hq with e | e | e | e <;> subst e <;> simp) ?_
          have e9 : (zv77.toInt + 1).toNat = p.toInt.toNat := by omega
          refine ih (j - 1) (by omega) _ _ _ _ ztb67 (by omega) (by omega) zf57 zk55 zl54 ?_ zq68 zq69 zq70 zq71 zq72 zq73 zq74 ?_ (fun g1 pp ts1 tab1 a1 y1 y2 y3 y4 y5 y6 y7 y8 y9 y10 y11 y12 => hq g1 pp ts1 tab1 a1 y1 y2 y3 y4 y5 y6 y7 y8 y9 y10 y11 (fun q hq9 => (y12 q hq9).trans ((zq76 q hq9.2).trans (zo52 q hq9.1))))
          · rw [e9]
            exact J9
          · rw [e9]
            exact zq75
theorem c_loF (hT : k_tys tys cA) {ft : Nat} {ts : List Value} {a : Int32} (c_ft : h ft = some (.inr (0, ts))) (t2 : ts[2]? = some (.int a)) {tb : Nat} {F : Nat → Option Nat} {tr : Nat → Nat} (t0 : ts[0]? = some (.ref tb)) (c_tb : h tb = some (.inl (cA 5, 6, .inr (.inr (.inr (.inr F)))))) (hF : ∀ i, i < 6 → F i = some (tr i)) (c_rw : ∀ i, i < 6 → h (tr i) = some (.inl (cA 0, 121, .inl (tab i)))) {pl pk pn ph : Nat} {ps : List Value} {gK gN gH : Nat → Int32} {nn : Int32} (c_pl : h pl = some (.inr (4, ps))) (p0 : ps[0]? = some (.int nn)) (p1 : ps[1]? = some (.ref pk)) (p2 : ps[2]? = some (.ref pn)) (p8 : ps[8]? = some (.ref ph)) (c_pk : h pk = some (.inl (cA 0, 6, .inl gK))) (c_pn : h pn = some (.inl (cA 0, 6, .inl gN))) (c_ph : h ph = some (.inl (cA 0, 6, .inl gH))) (hn : 0 ≤ nn.toInt ∧ nn.toInt ≤ 6) (hρ : ∀ q, q < nn.toInt.toNat → (gK q).toInt = ρ q 0 ∧ (gN q).toInt = ρ q 1 ∧ (gH q).toInt = ρ q 8) {sm : Int32} {B : Nat → Prop} (T : f_t nn.toInt.toNat ρ B tab 0) (hf : 1 ≤ fr) (hl : 30 ≤ lo) : ∀ (j : Nat) (hh : Int32), hh.toInt + j = 121 → 0 ≤ hh.toInt → (∀ g : Nat, g < hh.toInt.toNat → ¬ f_all nn.toInt.toNat ρ B (g : Int)) → (∀ v : Int32, f_least nn.toInt.toNat ρ B 120 v.toInt → Q (some (.int v)) h) → ww l D tys A X fr lo mX0_lowest Q 110 [(3, .int hh), (0, .ref ft), (1, .ref pl), (2, .int sm)] [] h := by
  intro j
  induction j using Nat.strongRecOn with
  | ind j ih =>
    intro hh hj hh0 hi hq
    refine w_iload_n (List.Mem.head _) (tX0_lowest_1_ok (110, .iload_n 3, 1) (List.mem_of_getElem? (i := 1) rfl)) ?_
    refine w_bipush (by decide) (tX0_lowest_1_ok (111, .bipush 120, 2) (List.mem_of_getElem? (i := 2) rfl)) (fun zv1 ze2 => ?_)
    refine w_icmp_gt (tgt := 133) (tX0_lowest_1_ok (113, .if_icmp .gt 20, 3) (List.mem_of_getElem? (i := 3) rfl)) rfl (fun zb3 => ?_) (fun zb3 => ?_)
    · refine w_iconst (by decide) (tX0_lowest_1_ok (133, .iconst (-1), 1) (List.mem_of_getElem? (i := 13) rfl)) (fun zv4 ze5 => ?_)
      refine w_iret rfl (tX0_lowest_1_ok (134, .ireturn, 1) (List.mem_of_getElem? (i := 14) rfl)) ?_
      exact hq _ (Or.inr ⟨by omega, fun g hg => hi g (by omega)⟩)
    · refine w_aload_n (List.Mem.tail _ (List.Mem.head _)) (tX0_lowest_1_ok (116, .aload_n 0, 1) (List.mem_of_getElem? (i := 4) rfl)) ?_
      refine w_aload_n (List.Mem.tail _ (List.Mem.tail _ (List.Mem.head _))) (tX0_lowest_1_ok (117, .aload_n 1, 1) (List.mem_of_getElem? (i := 5) rfl)) ?_
      refine w_iload_n (List.Mem.head _) (tX0_lowest_1_ok (118, .iload_n 3, 1) (List.mem_of_getElem? (i := 6) rfl)) ?_
      refine w_callV (own := 5) (mi := 22) [.ref pl, .int hh] [] [(0, .ref ft), (1, .ref pl), (2, .int hh)] rfl (cllw_X0 (69, 0, 22) (List.mem_of_getElem? (i := 9) rfl)) rfl rfl c_ft rfl (by omega) (w_lo (n := 23) rfl (by omega)) (Nat.le_of_ble_eq_true rfl) (Nat.le_of_ble_eq_true rfl) rfl (tX0_lowest_1_ok (119, .invokevirtual 69, 3) (List.mem_of_getElem? (i := 7) rfl)) (c_topsCanBe hT c_ft t2 t0 c_tb hF c_rw c_pl p0 p1 p2 p8 c_pk c_pn c_ph hn hρ (by omega) (fun zv6 ze7 => ?_))
      have al9 : (∀ p9, p9 < nn.toInt.toNat → ρ p9 8 = -1 → ¬ (tab p9 hh.toInt.toNat).toInt = 0) ↔ f_all nn.toInt.toNat ρ B ((hh.toInt.toNat : Nat) : Int) := ⟨fun z p9 h1 h2 => (T p9 (Nat.zero_le _) h1 _ (by omega)).mp (z p9 h1 h2), fun z p9 h1 h2 => (T p9 (Nat.zero_le _) h1 _ (by omega)).mpr (z p9 h1 h2)⟩
      rw [al9] at ze7
      show ww l D tys A X fr lo mX0_lowest Q 122 [(3, .int hh), (0, .ref ft), (1, .ref pl), (2, .int sm)] [.int zv6] h
      refine w_if_eq (tgt := 127) (tX0_lowest_1_ok (122, .ifCond .eq 5, 3) (List.mem_of_getElem? (i := 8) rfl)) rfl (fun zb8 => ?_) (fun zb8 => ?_)
      · refine w_iinc (fun zv9 => [(3, .int zv9), (0, .ref ft), (1, .ref pl), (2, .int sm)]) (fun _ => rfl) (List.Mem.head _) (Nat.le_of_ble_eq_true rfl) (by decide) (by omega) (by omega) (tX0_lowest_1_ok (127, .iinc 3 1, 3) (List.mem_of_getElem? (i := 11) rfl)) (fun zv9 ze10 => ?_)
        refine w_goto (tgt := 110) (tX0_lowest_1_ok (130, .goto (-20), 3) (List.mem_of_getElem? (i := 12) rfl)) rfl ?_
        refine w_lv [(3, .int zv9), (0, .ref ft), (1, .ref pl), (2, .int sm)] (by intro q hq; simp only [List.mem_cons, List.not_mem_nil, or_false] at hq ⊢; rcases hq with e | e | e | e <;> subst e <;> simp) ?_
        refine ih (j - 1) (by omega) _ (by omega) (by omega) (fun g hg => ?_) hq
        by_cases c9 : g = hh.toInt.toNat
        · subst c9
          rcases ze7 with ⟨y1, y2⟩ | ⟨y1, y2⟩
          · omega
          · exact y2
        · exact hi g (by omega)
      · refine w_iload_n (List.Mem.head _) (tX0_lowest_1_ok (125, .iload_n 3, 1) (List.mem_of_getElem? (i := 9) rfl)) ?_
        refine w_iret rfl (tX0_lowest_1_ok (126, .ireturn, 1) (List.mem_of_getElem? (i := 10) rfl)) ?_
        rcases ze7 with ⟨y1, y2⟩ | ⟨y1, y2⟩
        · exact hq _ (Or.inl ⟨hh.toInt.toNat, by omega, by omega, y2, fun g hg => hi g hg⟩)
        · omega
theorem c_lowest (hT : k_tys tys cA) {ft : Nat} {ts : List Value} {a : Int32} (c_ft : h ft = some (.inr (0, ts))) (t2 : ts[2]? = some (.int a)) {tb : Nat} {F : Nat → Option Nat} {tr : Nat → Nat} (t0 : ts[0]? = some (.ref tb)) (c_tb : h tb = some (.inl (cA 5, 6, .inr (.inr (.inr (.inr F)))))) (hF : ∀ i, i < 6 → F i = some (tr i)) (c_rw : ∀ i, i < 6 → h (tr i) = some (.inl (cA 0, 121, .inl (tab i)))) {pl pk pn ph : Nat} {ps : List Value} {gK gN gH : Nat → Int32} {nn : Int32} (c_pl : h pl = some (.inr (4, ps))) (p0 : ps[0]? = some (.int nn)) (p1 : ps[1]? = some (.ref pk)) (p2 : ps[2]? = some (.ref pn)) (p8 : ps[8]? = some (.ref ph)) (c_pk : h pk = some (.inl (cA 0, 6, .inl gK))) (c_pn : h pn = some (.inl (cA 0, 6, .inl gN))) (c_ph : h ph = some (.inl (cA 0, 6, .inl gH))) (nd : ∀ i, i < 6 → tr i ≠ ft ∧ tr i ≠ tb ∧ tr i ≠ pl ∧ tr i ≠ pk ∧ tr i ≠ pn ∧ tr i ≠ ph) (nt : ∀ i j, i < 6 → j < 6 → i ≠ j → tr i ≠ tr j) (n_tb_ft : tb ≠ ft) (n_pl_ft : pl ≠ ft) (n_pk_ft : pk ≠ ft) (n_pn_ft : pn ≠ ft) (n_ph_ft : ph ≠ ft) (hn : 0 ≤ nn.toInt ∧ nn.toInt ≤ 6) (hρ : ∀ q, q < nn.toInt.toNat → (gK q).toInt = ρ q 0 ∧ (gN q).toInt = ρ q 1 ∧ (gH q).toInt = ρ q 8) (wf : wfR nn.toInt.toNat ρ) (hL : ∀ q, q < 6 → 0 ≤ (gN q).toInt ∧ (gN q).toInt ≤ 20) {sm : Int32} {B : Nat → Prop} (tl : ts.length = 3) (hf : 3 ≤ fr) (hl : 120 ≤ lo) (J : f_j nn.toInt.toNat ρ B sm nn.toInt.toNat) (hq : ∀ (g : ch_H) (v : Int32), f_least nn.toInt.toNat ρ B 120 v.toInt → (∃ ts1 : List Value, g ft = some (.inr (0, ts1)) ∧ ts1[0]? = some (.ref tb)) → (∀ q, q ≠ ft ∧ (∀ i, i < 6 → q ≠ tr i) → g q = h q) → Q (some (.int v)) g) : ww l D tys A X fr lo mX0_lowest Q 0 [(0, .ref ft), (1, .ref pl), (2, .int sm)] [] h := by
  refine w_aload_n (List.Mem.head _) (tX0_lowest_0_ok (0, .aload_n 0, 1) (List.mem_of_getElem? (i := 0) rfl)) ?_
  refine w_iload_n (List.Mem.tail _ (List.Mem.tail _ (List.Mem.head _))) (tX0_lowest_0_ok (1, .iload_n 2, 1) (List.mem_of_getElem? (i := 1) rfl)) ?_
  refine w_putF (own := 5) (ci := 0) (k := 2) rfl rfl (by decide) rfl ⟨rfl, rfl⟩ c_ft (by rw [tl]; decide) (tX0_lowest_0_ok (2, .putfield 58, 3) (List.mem_of_getElem? (i := 2) rfl)) (fun zh1 zfs4 zl5 zk6 zj7 zc2 zo3 => ?_)
  rw [tl] at zl5
  have zf8 := (zj7 0 (by decide)).trans t0
  have zc9 := (zo3 pl n_pl_ft).trans c_pl
  have zc10 := (zo3 pk n_pk_ft).trans c_pk
  have zc11 := (zo3 pn n_pn_ft).trans c_pn
  have zc12 := (zo3 ph n_ph_ft).trans c_ph
  have zc13 := (zo3 tb n_tb_ft).trans c_tb
  have c_rw2 : ∀ i, i < 6 → zh1 (tr i) = some (.inl (cA 0, 121, .inl (tab i))) := fun i hi9 => (zo3 _ (nd i hi9).1).trans (c_rw i hi9)
  refine w_aload_n (List.Mem.tail _ (List.Mem.head _)) (tX0_lowest_0_ok (5, .aload_n 1, 1) (List.mem_of_getElem? (i := 3) rfl)) ?_
  refine w_get (own := 5) rfl rfl (by decide) zc9 p0 (tX0_lowest_0_ok (6, .getfield 24, 3) (List.mem_of_getElem? (i := 4) rfl)) ?_
  refine w_iconst (by decide) (tX0_lowest_0_ok (9, .iconst 1, 1) (List.mem_of_getElem? (i := 5) rfl)) (fun zv14 ze15 => ?_)
  refine w_isub (by omega) (by omega) (tX0_lowest_0_ok (10, .isub, 1) (List.mem_of_getElem? (i := 6) rfl)) (fun zv16 ze17 => ?_)
  refine w_istore_n [(3, .int zv16), (0, .ref ft), (1, .ref pl), (2, .int sm)] rfl (Nat.le_of_ble_eq_true rfl) (tX0_lowest_0_ok (11, .istore_n 3, 1) (List.mem_of_getElem? (i := 7) rfl)) ?_
  refine c_loO hT hF p0 p1 p2 p8 nd nt n_tb_ft n_pl_ft n_pk_ft n_pn_ft n_ph_ft hn hρ wf hL (B := B) hf hl nn.toInt.toNat _ _ _ _ tab (by omega) (by omega) zf8 zk6 zl5 (by rw [show (zv16.toInt + 1).toNat = nn.toInt.toNat by omega]; exact J) zc2 zc13 c_rw2 zc9 zc10 zc11 zc12 (fun q h1 h2 => absurd h2 (by omega)) (fun zg18 zp19 zts20 ztb21 za22 zq23 zq24 zq25 zq26 zq27 zq28 zq29 zq30 zq31 zq32 zq33 zq34 => ?_)
  show ww l D tys A X fr lo mX0_lowest Q 108 [(3, .int zp19), (0, .ref ft), (1, .ref pl), (2, .int sm)] [] zg18
  refine w_iconst (by decide) (tX0_lowest_0_ok (108, .iconst 0, 1) (List.mem_of_getElem? (i := 59) rfl)) (fun zv35 ze36 => ?_)
  refine w_istore_n [(3, .int zv35), (0, .ref ft), (1, .ref pl), (2, .int sm)] rfl (Nat.le_of_ble_eq_true rfl) (tX0_lowest_1_ok (109, .istore_n 3, 1) (List.mem_of_getElem? (i := 0) rfl)) ?_
  refine w_lv [(3, .int zv35), (0, .ref ft), (1, .ref pl), (2, .int sm)] (by intro q hq; simp only [List.mem_cons, List.not_mem_nil, or_false] at hq ⊢; rcases hq with e | e | e | e <;> subst e <;> simp) ?_
  exact c_loF hT zq26 zq24 zq23 zq27 hF zq28 zq29 p0 p1 p2 p8 zq30 zq31 zq32 hn hρ zq33 (by omega) (by omega) 121 _ (by omega) (by omega) (fun g9 hg => absurd hg (by omega)) (fun v hv => hq zg18 v hv ⟨_, zq26, zq23⟩ (fun q hq9 => (zq34 q hq9).trans (zo3 q hq9.1)))
end
