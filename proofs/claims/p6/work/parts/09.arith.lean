/-! abstract arithmetic: the new value is S.1 -/
def k_inr (lo hi : Int) : Bool := decide (-2147483648 ≤ lo) && decide (hi ≤ 2147483647)
def k_lo (S : k_S) (v : Nat) : Int := (k_ty S v).2.1
def k_hi (S : k_S) (v : Nat) : Int := (k_ty S v).2.2
def k_cst (S : k_S) (v : Nat) : Bool := decide (k_lo S v = k_hi S v)
def k_lin2 (S1 S : k_S) (a : Nat) (m d : Int) : k_S := k_def S1 S.1 (m * (k_lin S a).1) (k_lin S a).2.1 (m * (k_lin S a).2.2 + d)
def k_dadd (S1 S : k_S) (a b : Nat) : k_S := if k_cst S b then k_lin2 S1 S a 1 (k_lo S b) else if k_cst S a then k_lin2 S1 S b 1 (k_lo S a) else S1
def k_add (S : k_S) (a b : Nat) : k_S :=
  if k_inr (k_lo S a + k_lo S b) (k_hi S a + k_hi S b) then k_dadd (k_new S (0, k_lo S a + k_lo S b, k_hi S a + k_hi S b)) S a b else k_new S k_top
def k_dsub (S1 S : k_S) (a b : Nat) : k_S := if k_cst S b then k_lin2 S1 S a 1 (- k_lo S b) else if k_cst S a then k_lin2 S1 S b (-1) (k_lo S a) else S1
def k_sbt (S : k_S) (a b : Nat) : k_S :=
  if k_inr (k_lo S a - k_hi S b) (k_hi S a - k_lo S b) then k_dsub (k_new S (0, k_lo S a - k_hi S b, k_hi S a - k_lo S b)) S a b else k_new S k_top
def k_mulc (S : k_S) (a : Nat) (m : Int) : k_S :=
  if 0 ≤ m then (if k_inr (k_lo S a * m) (k_hi S a * m) then k_lin2 (k_new S (0, k_lo S a * m, k_hi S a * m)) S a m 0 else k_new S k_top)
  else if k_inr (k_hi S a * m) (k_lo S a * m) then k_lin2 (k_new S (0, k_hi S a * m, k_lo S a * m)) S a m 0 else k_new S k_top
def k_mul (S : k_S) (a b : Nat) : k_S :=
  if k_cst S b then k_mulc S a (k_lo S b) else if k_cst S a then k_mulc S b (k_lo S a)
  else if decide (0 ≤ k_lo S a) && decide (0 ≤ k_lo S b) && k_inr (k_lo S a * k_lo S b) (k_hi S a * k_hi S b) then k_new S (0, k_lo S a * k_lo S b, k_hi S a * k_hi S b) else k_new S k_top
def k_and (S : k_S) (a b : Nat) : k_S := if 0 ≤ k_lo S b then k_new S (0, 0, k_hi S b) else if 0 ≤ k_lo S a then k_new S (0, 0, k_hi S a) else k_new S k_top
/-- both known: the number itself -/
def k_fold (S : k_S) (a b : Nat) (f : Int32 → Int32 → Int32) : k_S := if k_cst S a && k_cst S b then k_new S (0, (f (Int32.ofInt (k_lo S a)) (Int32.ofInt (k_lo S b))).toInt, (f (Int32.ofInt (k_lo S a)) (Int32.ofInt (k_lo S b))).toInt) else k_new S k_top
def k_shr (S : k_S) (a b : Nat) : k_S := if k_cst S b && decide (0 ≤ k_lo S b) && decide (k_lo S b < 32) then k_new S (0, k_lo S a / (2 ^ (k_lo S b).toNat : Nat), k_hi S a / (2 ^ (k_lo S b).toNat : Nat)) else k_new S k_top
def k_div (S : k_S) (a b : Nat) : k_S := if decide (0 ≤ k_lo S a) && k_cst S b && decide (0 < k_lo S b) then k_new S (0, k_lo S a / k_lo S b, k_hi S a / k_lo S b) else if decide (0 ≤ k_hi S a) && k_cst S b && decide (0 < k_lo S b) && decide (-k_lo S b < k_lo S a) then k_new S (0, 0, k_hi S a / k_lo S b) else k_new S k_top
def k_rem (S : k_S) (a b : Nat) : k_S := if decide (0 ≤ k_lo S a) && k_cst S b && decide (0 < k_lo S b) then k_new S (0, 0, k_lo S b - 1) else k_new S k_top
def k_neg (S : k_S) (a : Nat) : k_S := if -2147483648 < k_lo S a then k_lin2 (k_new S (0, - k_hi S a, - k_lo S a)) S a (-1) 0 else k_new S k_top
def k_max (S : k_S) (a b : Nat) : k_S := k_rel (k_rel (k_new S (0, max (k_lo S a) (k_lo S b), max (k_hi S a) (k_hi S b))) S.1 a 0) S.1 b 0
def k_min (S : k_S) (a b : Nat) : k_S := k_rel (k_rel (k_new S (0, min (k_lo S a) (k_lo S b), min (k_hi S a) (k_hi S b))) a S.1 0) b S.1 0
section
variable {Sg : Nat → Option Nat} {r : List Value} {h : ch_H} {S : k_S} {a b : Nat} {x y : Int32}
theorem k_G.iv (g : k_G Sg r h S) {v : Nat} {x : Int32} (hk : (k_ty S v).1 = 0) (hx : r[v]? = some (.int x)) : k_lo S v ≤ x.toInt ∧ x.toInt ≤ k_hi S v := by
  obtain ⟨y, e1, e2, e3⟩ := g.int hk
  rw [hx] at e1
  cases e1
  exact ⟨e2, e3⟩
theorem k_vi {z : Int32} {lo hi : Int} (h1 : lo ≤ z.toInt) (h2 : z.toInt ≤ hi) : k_v Sg (.int z) (0, lo, hi) := ⟨z, rfl, h1, h2⟩
theorem k_vt (z : Int32) : k_v Sg (.int z) k_top := ⟨z, rfl, by have := fb_rng z; simp only [k_top]; omega, by have := fb_rng z; simp only [k_top]; omega⟩
theorem k_G.top (g : k_G Sg r h S) (z : Int32) : k_G Sg (r ++ [.int z]) h (k_new S k_top) := g.app _ _ (k_vt z)
theorem k_G.lst (g : k_G Sg r h S) (v : Value) : (r ++ [v])[S.1]? = some v := by rw [g.1]; simp
theorem k_inr_ok {lo hi : Int} (e : k_inr lo hi = true) : -2147483648 ≤ lo ∧ hi ≤ 2147483647 := by
  simpa [k_inr] using e
theorem k_G.lin2 {S1 : k_S} (g : k_G Sg r h S) {m d : Int} {z : Int32} (ha : r[a]? = some (.int x)) (g1 : k_G Sg (r ++ [.int z]) h S1) (e : z.toInt = m * x.toInt + d) : k_G Sg (r ++ [.int z]) h (k_lin2 S1 S a m d) := by
  obtain ⟨w, e1, e2⟩ := g.lin ha
  refine g1.defn (x := z) (y := w) (g.lst _) (k_ap _ e1) ?_
  rw [e, e2, Int.mul_add, Int.mul_assoc, Int.add_assoc]
theorem k_add_ok (g : k_G Sg r h S) (ka : (k_ty S a).1 = 0) (kb : (k_ty S b).1 = 0) (ha : r[a]? = some (.int x)) (hb : r[b]? = some (.int y)) : k_G Sg (r ++ [.int (x + y)]) h (k_add S a b) := by
  have ia := g.iv ka ha
  have ib := g.iv kb hb
  unfold k_add
  split
  · rename_i e
    have e := k_inr_ok e
    have es : (x + y).toInt = x.toInt + y.toInt := fb_addI (by omega) (by omega)
    have g1 : k_G Sg (r ++ [.int (x + y)]) h (k_new S (0, k_lo S a + k_lo S b, k_hi S a + k_hi S b)) := g.app _ _ (k_vi (by omega) (by omega))
    unfold k_dadd
    split
    · rename_i c
      have c : k_lo S b = k_hi S b := by simpa [k_cst] using c
      exact g.lin2 ha g1 (by omega)
    · split
      · rename_i c
        have c : k_lo S a = k_hi S a := by simpa [k_cst] using c
        exact g.lin2 hb g1 (by omega)
      · exact g1
  · exact g.top _
theorem k_sbt_ok (g : k_G Sg r h S) (ka : (k_ty S a).1 = 0) (kb : (k_ty S b).1 = 0) (ha : r[a]? = some (.int x)) (hb : r[b]? = some (.int y)) : k_G Sg (r ++ [.int (x - y)]) h (k_sbt S a b) := by
  have ia := g.iv ka ha
  have ib := g.iv kb hb
  unfold k_sbt
  split
  · rename_i e
    have e := k_inr_ok e
    have es : (x - y).toInt = x.toInt - y.toInt := fb_subI (by omega) (by omega)
    have g1 : k_G Sg (r ++ [.int (x - y)]) h (k_new S (0, k_lo S a - k_hi S b, k_hi S a - k_lo S b)) := g.app _ _ (k_vi (by omega) (by omega))
    unfold k_dsub
    split
    · rename_i c
      have c : k_lo S b = k_hi S b := by simpa [k_cst] using c
      exact g.lin2 ha g1 (by omega)
    · split
      · rename_i c
        have c : k_lo S a = k_hi S a := by simpa [k_cst] using c
        exact g.lin2 hb g1 (by omega)
      · exact g1
  · exact g.top _
theorem k_mulc_ok (g : k_G Sg r h S) (ka : (k_ty S a).1 = 0) (ha : r[a]? = some (.int x)) {m : Int} (z : Int32) (hz : -2147483648 ≤ x.toInt * m → x.toInt * m < 2147483648 → z.toInt = x.toInt * m) : k_G Sg (r ++ [.int z]) h (k_mulc S a m) := by
  have ia := g.iv ka ha
  unfold k_mulc
  split
  · rename_i hm
    have l1 := Int.mul_le_mul_of_nonneg_right ia.1 hm
    have l2 := Int.mul_le_mul_of_nonneg_right ia.2 hm
    split
    · rename_i e
      have e := k_inr_ok e
      have es := hz (by omega) (by omega)
      exact g.lin2 ha (g.app _ _ (k_vi (by omega) (by omega))) (by rw [es, Int.mul_comm, Int.add_zero])
    · exact g.top _
  · rename_i hm
    have l1 := Int.mul_le_mul_of_nonpos_right ia.1 (Int.le_of_lt (Int.not_le.mp hm))
    have l2 := Int.mul_le_mul_of_nonpos_right ia.2 (Int.le_of_lt (Int.not_le.mp hm))
    split
    · rename_i e
      have e := k_inr_ok e
      have es := hz (by omega) (by omega)
      exact g.lin2 ha (g.app _ _ (k_vi (by omega) (by omega))) (by rw [es, Int.mul_comm, Int.add_zero])
    · exact g.top _
theorem k_mul_ok (g : k_G Sg r h S) (ka : (k_ty S a).1 = 0) (kb : (k_ty S b).1 = 0) (ha : r[a]? = some (.int x)) (hb : r[b]? = some (.int y)) : k_G Sg (r ++ [.int (x * y)]) h (k_mul S a b) := by
  have ia := g.iv ka ha
  have ib := g.iv kb hb
  unfold k_mul
  split
  · rename_i c
    have c : k_lo S b = k_hi S b := by simpa [k_cst] using c
    have cy : y.toInt = k_lo S b := by omega
    exact k_mulc_ok g ka ha _ (fun h1 h2 => by rw [← cy] at h1 h2 ⊢; exact fb_mulI h1 h2)
  · split
    · rename_i c
      have c : k_lo S a = k_hi S a := by simpa [k_cst] using c
      have cx : x.toInt = k_lo S a := by omega
      exact k_mulc_ok g kb hb _ (fun h1 h2 => by rw [← cx, Int.mul_comm] at h1 h2 ⊢; exact fb_mulI h1 h2)
    · split
      · rename_i e
        simp only [Bool.and_eq_true, decide_eq_true_eq] at e
        have e2 := k_inr_ok e.2
        have l1 := Int.mul_le_mul ia.1 ib.1 e.1.2 (by omega)
        have l2 := Int.mul_le_mul ia.2 ib.2 (by omega) (by omega)
        have es : (x * y).toInt = x.toInt * y.toInt := fb_mulI (by omega) (by omega)
        exact g.app _ _ (k_vi (by omega) (by omega))
      · exact g.top _
theorem k_and_ok (g : k_G Sg r h S) (ka : (k_ty S a).1 = 0) (kb : (k_ty S b).1 = 0) (ha : r[a]? = some (.int x)) (hb : r[b]? = some (.int y)) : k_G Sg (r ++ [.int (x &&& y)]) h (k_and S a b) := by
  have ia := g.iv ka ha
  have ib := g.iv kb hb
  unfold k_and
  split
  · have := kn_and x (y := y) (by omega)
    exact g.app _ _ (k_vi (by omega) (by omega))
  · split
    · have := kn_andL (x := x) y (by omega)
      exact g.app _ _ (k_vi (by omega) (by omega))
    · exact g.top _
theorem k_fold_ok (g : k_G Sg r h S) (ka : (k_ty S a).1 = 0) (kb : (k_ty S b).1 = 0) (ha : r[a]? = some (.int x)) (hb : r[b]? = some (.int y)) (f : Int32 → Int32 → Int32) : k_G Sg (r ++ [.int (f x y)]) h (k_fold S a b f) := by
  have ia := g.iv ka ha
  have ib := g.iv kb hb
  unfold k_fold
  split
  · rename_i c
    simp only [Bool.and_eq_true, k_cst, decide_eq_true_eq] at c
    have cx : x = Int32.ofInt (k_lo S a) := by rw [show k_lo S a = x.toInt by omega, fb_asI]
    have cy : y = Int32.ofInt (k_lo S b) := by rw [show k_lo S b = y.toInt by omega, fb_asI]
    rw [← cx, ← cy]
    exact g.app _ _ (k_vi (Int.le_refl _) (Int.le_refl _))
  · exact g.top _
theorem k_shr_ok (g : k_G Sg r h S) (ka : (k_ty S a).1 = 0) (kb : (k_ty S b).1 = 0) (ha : r[a]? = some (.int x)) (hb : r[b]? = some (.int y)) : k_G Sg (r ++ [.int (x >>> (y &&& 31))]) h (k_shr S a b) := by
  have ia := g.iv ka ha
  have ib := g.iv kb hb
  unfold k_shr
  split
  · rename_i c
    simp only [Bool.and_eq_true, k_cst, decide_eq_true_eq] at c
    have e := kn_shr x y (k := (k_lo S b).toNat) (by omega) (by omega)
    have hp : (0 : Int) < ((2 ^ (k_lo S b).toNat : Nat) : Int) := by have := Nat.two_pow_pos (k_lo S b).toNat; omega
    exact g.app _ _ (k_vi (by rw [e]; exact Int.ediv_le_ediv hp ia.1) (by rw [e]; exact Int.ediv_le_ediv hp ia.2))
  · exact g.top _
theorem k_div_ok (g : k_G Sg r h S) (ka : (k_ty S a).1 = 0) (kb : (k_ty S b).1 = 0) (ha : r[a]? = some (.int x)) (hb : r[b]? = some (.int y)) : k_G Sg (r ++ [.int (x / y)]) h (k_div S a b) := by
  have ia := g.iv ka ha
  have ib := g.iv kb hb
  unfold k_div
  split
  · rename_i c
    simp only [Bool.and_eq_true, k_cst, decide_eq_true_eq] at c
    have cy : y.toInt = k_lo S b := by omega
    have e := kn_div (x := x) (y := y) (by omega) (by omega)
    rw [cy] at e
    exact g.app _ _ (k_vi (by rw [e]; exact Int.ediv_le_ediv c.2 ia.1) (by rw [e]; exact Int.ediv_le_ediv c.2 ia.2))
  · split
    · rename_i c
      simp only [Bool.and_eq_true, k_cst, decide_eq_true_eq] at c
      have cy : y.toInt = k_lo S b := by omega
      by_cases hx : x.toInt < 0
      · have e := kn_div0 (x := x) (y := y) hx (by omega)
        exact g.app _ _ (k_vi (by rw [e]; exact Int.le_refl _) (by rw [e]; exact Int.ediv_nonneg (by omega) (by omega)))
      · have e := kn_div (x := x) (y := y) (by omega) (by omega)
        rw [cy] at e
        exact g.app _ _ (k_vi (by rw [e]; exact Int.ediv_nonneg (by omega) (by omega)) (by rw [e]; exact Int.ediv_le_ediv (by omega) ia.2))
    · exact g.top _
theorem k_rem_ok (g : k_G Sg r h S) (ka : (k_ty S a).1 = 0) (kb : (k_ty S b).1 = 0) (ha : r[a]? = some (.int x)) (hb : r[b]? = some (.int y)) : k_G Sg (r ++ [.int (x - x / y * y)]) h (k_rem S a b) := by
  have ia := g.iv ka ha
  have ib := g.iv kb hb
  unfold k_rem
  split
  · rename_i c
    simp only [Bool.and_eq_true, k_cst, decide_eq_true_eq] at c
    have cy : y.toInt = k_lo S b := by omega
    have e := kn_rem (x := x) (y := y) (by omega) (by omega)
    rw [cy] at e
    have m1 := Int.emod_nonneg x.toInt (b := k_lo S b) (by omega)
    have m2 := Int.emod_lt_of_pos x.toInt c.2
    exact g.app _ _ (k_vi (by omega) (by omega))
  · exact g.top _
theorem k_neg_ok (g : k_G Sg r h S) (ka : (k_ty S a).1 = 0) (ha : r[a]? = some (.int x)) : k_G Sg (r ++ [.int (-x)]) h (k_neg S a) := by
  have ia := g.iv ka ha
  unfold k_neg
  split
  · have e := fb_negI (x := x) (by omega)
    exact g.lin2 ha (g.app _ _ (k_vi (by omega) (by omega))) (by omega)
  · exact g.top _
theorem k_max_ok (g : k_G Sg r h S) (ka : (k_ty S a).1 = 0) (kb : (k_ty S b).1 = 0) (ha : r[a]? = some (.int x)) (hb : r[b]? = some (.int y)) : k_G Sg (r ++ [.int (if x < y then y else x)]) h (k_max S a b) := by
  have ia := g.iv ka ha
  have ib := g.iv kb hb
  have e : (if x < y then y else x).toInt = max x.toInt y.toInt := by
    by_cases q : x < y
    · rw [if_pos q]
      rw [kn_lt] at q
      omega
    · rw [if_neg q]
      rw [kn_lt] at q
      omega
  have g1 : k_G Sg (r ++ [.int (if x < y then y else x)]) h (k_new S (0, max (k_lo S a) (k_lo S b), max (k_hi S a) (k_hi S b))) := g.app _ _ (k_vi (by omega) (by omega))
  exact (g1.rel (g.lst _) (k_ap _ ha) (by omega)).rel (g.lst _) (k_ap _ hb) (by omega)
theorem k_min_ok (g : k_G Sg r h S) (ka : (k_ty S a).1 = 0) (kb : (k_ty S b).1 = 0) (ha : r[a]? = some (.int x)) (hb : r[b]? = some (.int y)) : k_G Sg (r ++ [.int (if y < x then y else x)]) h (k_min S a b) := by
  have ia := g.iv ka ha
  have ib := g.iv kb hb
  have e : (if y < x then y else x).toInt = min x.toInt y.toInt := by
    by_cases q : y < x
    · rw [if_pos q]
      rw [kn_lt] at q
      omega
    · rw [if_neg q]
      rw [kn_lt] at q
      omega
  have g1 : k_G Sg (r ++ [.int (if y < x then y else x)]) h (k_new S (0, min (k_lo S a) (k_lo S b), min (k_hi S a) (k_hi S b))) := g.app _ _ (k_vi (by omega) (by omega))
  exact (g1.rel (k_ap _ ha) (g.lst _) (by omega)).rel (k_ap _ hb) (g.lst _) (by omega)
end
/-! branches: bounds -/
def k_ref (S : k_S) (v : Nat) (lo hi : Int) : k_S :=
  if 0 < (k_lin S v).1 ∧ (k_ty S (k_lin S v).2.1).1 = 0 ∧ (k_lin S v).2.1 ≠ v then
    k_fact (k_fact S v (0, max (k_lo S v) lo, min (k_hi S v) hi)) (k_lin S v).2.1 (0, max (k_lo S (k_lin S v).2.1) (-(((k_lin S v).2.2 - max (k_lo S v) lo) / (k_lin S v).1)), min (k_hi S (k_lin S v).2.1) ((min (k_hi S v) hi - (k_lin S v).2.2) / (k_lin S v).1))
  else k_fact S v (0, max (k_lo S v) lo, min (k_hi S v) hi)
def k_big : Int := 2147483648
def k_lt (S : k_S) (a b : Nat) : k_S := k_ref (k_ref S a (-k_big) (k_hi S b - 1)) b (k_lo S a + 1) k_big
def k_le (S : k_S) (a b : Nat) : k_S := k_ref (k_ref S a (-k_big) (k_hi S b)) b (k_lo S a) k_big
def k_eq (S : k_S) (a b : Nat) : k_S := k_le (k_le S a b) b a
def k_ne1 (S : k_S) (a : Nat) (c : Int) : k_S := if k_lo S a = c then k_ref S a (c + 1) k_big else if k_hi S a = c then k_ref S a (-k_big) (c - 1) else if c = 0 then k_nz S a else S
def k_ne (S : k_S) (a b : Nat) : k_S := if k_cst S b then k_ne1 S a (k_lo S b) else if k_cst S a then k_ne1 S b (k_lo S a) else S
def k_emp (S : k_S) (v : Nat) : Bool := decide (k_hi S v < k_lo S v)
section
variable {Sg : Nat → Option Nat} {r : List Value} {h : ch_H} {S : k_S} {a b : Nat} {x y : Int32}
theorem k_ty_fact (S : k_S) (v : Nat) (t : k_T) (w : Nat) : k_ty (k_fact S v t) w = if v = w then t else k_ty S w := by
  unfold k_ty k_fact
  simp only [List.find?_cons]
  by_cases q : v = w
  · subst q
    simp
  · have : (v == w) = false := by simp [q]
    rw [this, if_neg q]
theorem k_ref_k {S : k_S} {v w : Nat} {lo hi : Int} (hv : (k_ty S v).1 = 0) (hw : (k_ty S w).1 = 0) : (k_ty (k_ref S v lo hi) w).1 = 0 := by
  unfold k_ref
  split
  · rw [k_ty_fact]
    split
    · rfl
    · rw [k_ty_fact]
      split
      · rfl
      · exact hw
  · rw [k_ty_fact]
    split
    · rfl
    · exact hw
theorem k_ref_ok (g : k_G Sg r h S) {v : Nat} {lo hi : Int} (kv : (k_ty S v).1 = 0) (hv : r[v]? = some (.int x)) (h1 : lo ≤ x.toInt) (h2 : x.toInt ≤ hi) : k_G Sg r h (k_ref S v lo hi) := by
  have iv := g.iv kv hv
  have g1 : k_G Sg r h (k_fact S v (0, max (k_lo S v) lo, min (k_hi S v) hi)) := g.fact hv (k_vi (by omega) (by omega))
  unfold k_ref
  split
  · rename_i c
    obtain ⟨w, e1, e2⟩ := g.lin hv
    have iw := g.iv c.2.1 e1
    refine g1.fact e1 (k_vi ?_ ?_)
    · have hb : -w.toInt ≤ ((k_lin S v).2.2 - max (k_lo S v) lo) / (k_lin S v).1 := by
        rw [Int.le_ediv_iff_mul_le c.1, Int.neg_mul, Int.mul_comm]
        omega
      omega
    · have hb : w.toInt ≤ (min (k_hi S v) hi - (k_lin S v).2.2) / (k_lin S v).1 := by
        rw [Int.le_ediv_iff_mul_le c.1, Int.mul_comm]
        omega
      omega
  · exact g1
theorem k_lt_ok (g : k_G Sg r h S) (ka : (k_ty S a).1 = 0) (kb : (k_ty S b).1 = 0) (ha : r[a]? = some (.int x)) (hb : r[b]? = some (.int y)) (hl : x.toInt < y.toInt) : k_G Sg r h (k_lt S a b) := by
  have ia := g.iv ka ha
  have ib := g.iv kb hb
  have rx := fb_rng x
  have ry := fb_rng y
  have g1 := k_ref_ok g (lo := -k_big) (hi := k_hi S b - 1) ka ha (by simp only [k_big]; omega) (by omega)
  exact k_ref_ok g1 (k_ref_k ka kb) hb (by omega) (by simp only [k_big]; omega)
theorem k_le_ok (g : k_G Sg r h S) (ka : (k_ty S a).1 = 0) (kb : (k_ty S b).1 = 0) (ha : r[a]? = some (.int x)) (hb : r[b]? = some (.int y)) (hl : x.toInt ≤ y.toInt) : k_G Sg r h (k_le S a b) := by
  have ia := g.iv ka ha
  have ib := g.iv kb hb
  have rx := fb_rng x
  have ry := fb_rng y
  have g1 := k_ref_ok g (lo := -k_big) (hi := k_hi S b) ka ha (by simp only [k_big]; omega) (by omega)
  exact k_ref_ok g1 (k_ref_k ka kb) hb (by omega) (by simp only [k_big]; omega)
theorem k_le_k {w : Nat} (ka : (k_ty S a).1 = 0) (kb : (k_ty S b).1 = 0) (kw : (k_ty S w).1 = 0) : (k_ty (k_le S a b) w).1 = 0 := k_ref_k (k_ref_k ka kb) (k_ref_k ka kw)
theorem k_lt_k {w : Nat} (ka : (k_ty S a).1 = 0) (kb : (k_ty S b).1 = 0) (kw : (k_ty S w).1 = 0) : (k_ty (k_lt S a b) w).1 = 0 := k_ref_k (k_ref_k ka kb) (k_ref_k ka kw)
theorem k_eq_ok (g : k_G Sg r h S) (ka : (k_ty S a).1 = 0) (kb : (k_ty S b).1 = 0) (ha : r[a]? = some (.int x)) (hb : r[b]? = some (.int y)) (hl : x.toInt = y.toInt) : k_G Sg r h (k_eq S a b) :=
  k_le_ok (k_le_ok g ka kb ha hb (by omega)) (k_le_k ka kb kb) (k_le_k ka kb ka) hb ha (by omega)
theorem k_ne1_ok (g : k_G Sg r h S) (ka : (k_ty S a).1 = 0) (ha : r[a]? = some (.int x)) {c : Int} (hl : x.toInt ≠ c) : k_G Sg r h (k_ne1 S a c) := by
  have ia := g.iv ka ha
  have rx := fb_rng x
  unfold k_ne1
  split
  · exact k_ref_ok g ka ha (by omega) (by simp only [k_big]; omega)
  · split
    · exact k_ref_ok g ka ha (by simp only [k_big]; omega) (by omega)
    · split
      · rename_i c0
        refine g.nz ha (fun q => ?_)
        rw [q] at hl
        exact hl (by rw [c0]; rfl)
      · exact g
theorem k_ne_ok (g : k_G Sg r h S) (ka : (k_ty S a).1 = 0) (kb : (k_ty S b).1 = 0) (ha : r[a]? = some (.int x)) (hb : r[b]? = some (.int y)) (hl : x.toInt ≠ y.toInt) : k_G Sg r h (k_ne S a b) := by
  have ia := g.iv ka ha
  have ib := g.iv kb hb
  unfold k_ne
  split
  · rename_i c
    have c : k_lo S b = k_hi S b := by simpa [k_cst] using c
    exact k_ne1_ok g ka ha (by omega)
  · split
    · rename_i c
      have c : k_lo S a = k_hi S a := by simpa [k_cst] using c
      exact k_ne1_ok g kb hb (by omega)
    · exact g
theorem k_emp_no (g : k_G Sg r h S) {v : Nat} (kv : (k_ty S v).1 = 0) (e : k_emp S v = true) : False := by
  obtain ⟨x, e1, e2, e3⟩ := g.int kv
  have e : k_hi S v < k_lo S v := by simpa [k_emp] using e
  have e2 : k_lo S v ≤ x.toInt := e2
  have e3 : x.toInt ≤ k_hi S v := e3
  omega
end
