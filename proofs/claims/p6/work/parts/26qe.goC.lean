/-! the class over stores: going on, coming to rest; the reference's rests -/
section
variable {l : Launch} {D : va_G} {tys : List (ClassId × FieldType)} {A : Nat → Prop} {X : State → Prop} {fr lo : Nat} {M : ch_M} {Q : Option Value → ch_H → Prop} {pc : Nat} {lv : List (Nat × Value)} {st : List Value} {cA : Nat → ClassId} {h : ch_H} {ad : Nat → Nat} {I : zI} {W : zW} {O : zO} {n j pe : Nat} {ρ : aRw} {b : Nat → Int}
theorem w_maxW {x y : Int32} (hM : M.1.cls = RX9) (hf : 1 ≤ fr) (hl : (st.map fun v => v.category).sum + 13 ≤ lo) (hd : decode M.2.1 pc = .ok (.invokestatic 109, 3)) (k : ∀ v : Int32, v.toInt = max x.toInt y.toInt → ww l D tys A X fr lo M Q (pc + 3) lv (.int v :: st) h) : ww l D tys A X fr lo M Q pc lv (.int y :: .int x :: st) h := by
  have hw : Cond.methodLink M.1.cls 109 Lib.Math.max.name ∈ wsA := by rw [hM]; exact cllw_X9 (109, 10, 0) (List.mem_of_getElem? (i := 11) rfl)
  refine tt_mmax hw pg_max.1 pg_math pg_max.2 hf hl (Nat.le_refl _) (Nat.le_refl _) hd (k _ ?_)
  by_cases c : x < y
  · have := Int32.lt_iff_toInt_lt.mp c
    rw [if_pos c]
    omega
  · have := mt Int32.lt_iff_toInt_lt.mpr c
    rw [if_neg c]
    omega
theorem m_g_s6 {sl : Bool} {T : Nat → Int32} {d : Int64} (hn : n ≤ 6) (t : Nat) : 0 ≤ (m_g ρ b sl n T d t).2.2 ∧ (m_g ρ b sl n T d t).2.2 ≤ 6 * (t : Int) := by
  have h1 := m_g_s (ρ := ρ) (b := b) (sl := sl) (n := n) (T := T) (d := d) t
  have h2 : (n : Int) * (t : Int) ≤ 6 * (t : Int) := Int.mul_le_mul_of_nonneg_right (by omega) (by omega)
  omega
theorem z_goL (hT : k_tys tys cA) (hj_j : j < 10) {T : Nat → Int32} {d : Int64} {sl9 k : Int32} {slb : Bool} {o9f : Nat → Int32} {nn : Nat} (hk : k.toInt = nn ∧ nn ≤ 60) (hf : 3 ≤ fr) (hlo : 120 ≤ lo) (hsl : sl9.toInt = 0 ∧ slb = false ∨ sl9.toInt = 1 ∧ slb = true) (hx : m_ok n ρ T) (hOT : ∀ q, q < n → (o9f q).toInt = (T (12 + q)).toInt ∧ 0 ≤ (o9f q).toInt ∧ (o9f q).toInt ≤ 1) : ∀ (j9 : Nat) (h : ch_H) (I : zI) (W : zW) (sp t : Int32), t.toInt + j9 = nn → 0 ≤ t.toInt → sp.toInt = (m_g ρ b slb n T d t.toInt.toNat).2.2 → (∀ q, q < n → I (100 + 6 * j + 1) q = (m_g ρ b slb n T d t.toInt.toNat).1 q ∧ I (100 + 6 * j + 2) q = (m_g ρ b slb n T d t.toInt.toNat).1 (6 + q)) → W (100 + 6 * j) 6 = (m_g ρ b slb n T d t.toInt.toNat).2.1 → pz I n ρ → lz I n ρ b → I (100 + 6 * j + 3) = o9f → zr zNC cA ad I W O h → (∀ (g : ch_H) (I1 : zI) (W1 : zW) (v : Int32), v.toInt = (m_g ρ b slb n T d nn).2.2 → (∀ q, q < n → I1 (100 + 6 * j + 1) q = (m_g ρ b slb n T d nn).1 q ∧ I1 (100 + 6 * j + 2) q = (m_g ρ b slb n T d nn).1 (6 + q)) → W1 (100 + 6 * j) 6 = (m_g ρ b slb n T d nn).2.1 → (∀ L, L ≠ (100 + 6 * j) → W1 L = W L) → (∀ k, k ≠ 6 → W1 (100 + 6 * j) k = W (100 + 6 * j) k) → (∀ L, L ≠ (100 + 6 * j + 1) → L ≠ (100 + 6 * j + 2) → I1 L = I L) → zr zNC cA ad I1 W1 O g → zf zNC ad h g → Q (some (.int v)) g) → ww l D tys A X fr lo mX9_goOn Q 6 [(5, .int sp), (6, .int t), (0, .ref (ad 4)), (1, .ref (ad 2)), (2, .ref (ad (100 + 6 * j))), (3, .int k), (4, .int sl9)] [] h := by
  intro j9
  induction j9 using Nat.strongRecOn with
  | ind j9 ih =>
    intro h I W sp t hj9 ht0 hsp hXT hd hp hl hO9 hz hq
    have sb9 := m_g_s6 (ρ := ρ) (b := b) (sl := slb) (T := T) (d := d) hp.2.1.1 t.toInt.toNat
    refine w_iload (List.Mem.tail _ (List.Mem.head _)) (tX9_goOn_0_ok (6, .iload 6, 2) (List.mem_of_getElem? (i := 4) rfl)) ?_
    refine w_iload_n (List.Mem.tail _ (List.Mem.tail _ (List.Mem.tail _ (List.Mem.tail _ (List.Mem.tail _ (List.Mem.head _)))))) (tX9_goOn_0_ok (8, .iload_n 3, 1) (List.mem_of_getElem? (i := 5) rfl)) ?_
    refine w_icmp_ge (tgt := 31) (tX9_goOn_0_ok (9, .if_icmp .ge 22, 3) (List.mem_of_getElem? (i := 6) rfl)) rfl (fun zb1 => ?_) (fun zb1 => ?_)
    · refine w_iload (List.Mem.head _) (tX9_goOn_0_ok (31, .iload 5, 2) (List.mem_of_getElem? (i := 17) rfl)) ?_
      refine w_iret rfl (tX9_goOn_0_ok (33, .ireturn, 1) (List.mem_of_getElem? (i := 18) rfl)) ?_
      have ep : t.toInt.toNat = nn := by omega
      rw [ep] at hsp hXT hd
      exact hq h I W sp hsp hXT hd (fun _ _ => rfl) (fun _ _ => rfl) (fun _ _ _ => rfl) hz zf.rf
    · refine w_iload (List.Mem.head _) (tX9_goOn_0_ok (12, .iload 5, 2) (List.mem_of_getElem? (i := 7) rfl)) ?_
      refine w_aload_n (List.Mem.tail _ (List.Mem.tail _ (List.Mem.head _))) (tX9_goOn_0_ok (14, .aload_n 0, 1) (List.mem_of_getElem? (i := 8) rfl)) ?_
      refine w_aload_n (List.Mem.tail _ (List.Mem.tail _ (List.Mem.tail _ (List.Mem.head _)))) (tX9_goOn_0_ok (15, .aload_n 1, 1) (List.mem_of_getElem? (i := 9) rfl)) ?_
      refine w_aload_n (List.Mem.tail _ (List.Mem.tail _ (List.Mem.tail _ (List.Mem.tail _ (List.Mem.head _))))) (tX9_goOn_0_ok (16, .aload_n 2, 1) (List.mem_of_getElem? (i := 10) rfl)) ?_
      refine w_iload (List.Mem.tail _ (List.Mem.tail _ (List.Mem.tail _ (List.Mem.tail _ (List.Mem.tail _ (List.Mem.tail _ (List.Mem.head _))))))) (tX9_goOn_0_ok (17, .iload 4, 2) (List.mem_of_getElem? (i := 11) rfl)) ?_
      refine w_callV (own := 14) (mi := 94) [.ref (ad 2), .ref (ad (100 + 6 * j)), .int sl9] [.int sp] [(0, .ref (ad 4)), (1, .ref (ad 2)), (2, .ref (ad (100 + 6 * j))), (3, .int sl9)] rfl (cllw_X9 (101, 0, 94) (List.mem_of_getElem? (i := 3) rfl)) rfl rfl (hz.ob rfl rfl) rfl (by omega) (w_lo (n := 27) rfl (by omega)) (Nat.le_of_ble_eq_true rfl) (Nat.le_of_ble_eq_true rfl) rfl (tX9_goOn_0_ok (19, .invokevirtual 101, 3) (List.mem_of_getElem? (i := 12) rfl)) (z_minute hT hj_j (T := (m_g ρ b slb n T d t.toInt.toNat).1) (d := (m_g ρ b slb n T d t.toInt.toNat).2.1) (slb := slb) hz hp hl (by omega) (w_sub (n := 27) rfl (by omega)) hsl (m_g_ok hp.2.1 hx _) (fun q hq9 => ?_) hXT hd (fun g I1 W1 v y1 y2 y3 y4 y5 y6 y7 y8 => ?_))
      · rw [m_g_hi hp.2.1.1 _ _ (by omega), hO9]
        exact hOT q hq9
      show ww l D tys A X fr lo mX9_goOn Q 22 [(5, .int sp), (6, .int t), (0, .ref (ad 4)), (1, .ref (ad 2)), (2, .ref (ad (100 + 6 * j))), (3, .int k), (4, .int sl9)] [.int v, .int sp] g
      have y9 : v.toInt + sp.toInt = (m_g ρ b slb n T d (t.toInt.toNat + 1)).2.2 := by
        show _ = (m_g ρ b slb n T d t.toInt.toNat).2.2 + (m_k ρ b slb ((m_g ρ b slb n T d t.toInt.toNat).1, (m_g ρ b slb n T d t.toInt.toNat).2.1, 0) n).2.2
        omega
      have yb := m_g_s6 (ρ := ρ) (b := b) (sl := slb) (T := T) (d := d) hp.2.1.1 (t.toInt.toNat + 1)
      refine w_iadd (by omega) (by omega) (tX9_goOn_0_ok (22, .iadd, 1) (List.mem_of_getElem? (i := 13) rfl)) (fun zv2 ze3 => ?_)
      refine w_istore [(5, .int zv2), (6, .int t), (0, .ref (ad 4)), (1, .ref (ad 2)), (2, .ref (ad (100 + 6 * j))), (3, .int k), (4, .int sl9)] rfl (Nat.le_of_ble_eq_true rfl) (tX9_goOn_0_ok (23, .istore 5, 2) (List.mem_of_getElem? (i := 14) rfl)) ?_
      refine w_iinc (fun zv4 => [(6, .int zv4), (5, .int zv2), (0, .ref (ad 4)), (1, .ref (ad 2)), (2, .ref (ad (100 + 6 * j))), (3, .int k), (4, .int sl9)]) (fun _ => rfl) (List.Mem.tail _ (List.Mem.head _)) (Nat.le_of_ble_eq_true rfl) (by decide) (by omega) (by omega) (tX9_goOn_0_ok (25, .iinc 6 1, 3) (List.mem_of_getElem? (i := 15) rfl)) (fun zv4 ze5 => ?_)
      refine w_goto (tgt := 6) (tX9_goOn_0_ok (28, .goto (-22), 3) (List.mem_of_getElem? (i := 16) rfl)) rfl ?_
      refine w_lv [(5, .int zv2), (6, .int zv4), (0, .ref (ad 4)), (1, .ref (ad 2)), (2, .ref (ad (100 + 6 * j))), (3, .int k), (4, .int sl9)] (by intro q hq; simp only [List.mem_cons, List.not_mem_nil, or_false] at hq ⊢; rcases hq with e | e | e | e | e | e | e <;> subst e <;> simp) ?_
      have ep : zv4.toInt.toNat = t.toInt.toNat + 1 := by omega
      have e5 : zv2.toInt = (m_g ρ b slb n T d (t.toInt.toNat + 1)).2.2 := by
        omega
      rw [← ep] at e5
      refine ih (j9 - 1) (by omega) g I1 W1 _ _ (by omega) (by omega) e5 (by rw [ep]; exact y2) (by rw [ep]; exact y3) (hp.mv (fun L9 h9 => y6 L9 (by omega) (by omega))) (hl.mv (y6 26 (by omega) (by omega))) ((y6 (100 + 6 * j + 3) (by omega) (by omega)).trans hO9) y7 (fun g2 I2 W2 v2 z1 z2 z3 z4 z5 z6 z7 z8 => hq g2 I2 W2 v2 z1 z2 z3 (fun L n1 => (z4 L n1).trans (y4 L n1)) (fun k n1 => (z5 k n1).trans (y5 k n1)) (fun L n1 n2 => (z6 L n1 n2).trans (y6 L n1 n2)) z7 (y8.tr z8))
theorem z_goOn (hT : k_tys tys cA) (hj_j : j < 10) {T : Nat → Int32} {d : Int64} {sl9 k : Int32} {slb : Bool} {nn : Nat} (hz : zr zNC cA ad I W O h) (hp : pz I n ρ) (hl : lz I n ρ b) (hk : k.toInt = nn ∧ nn ≤ 60) (hf : 3 ≤ fr) (hlo : 120 ≤ lo) (hsl : sl9.toInt = 0 ∧ slb = false ∨ sl9.toInt = 1 ∧ slb = true) (hx : m_ok n ρ T) (hOT : ∀ q, q < n → (I (100 + 6 * j + 3) q).toInt = (T (12 + q)).toInt ∧ 0 ≤ (I (100 + 6 * j + 3) q).toInt ∧ (I (100 + 6 * j + 3) q).toInt ≤ 1) (hXT : ∀ q, q < n → I (100 + 6 * j + 1) q = T q ∧ I (100 + 6 * j + 2) q = T (6 + q)) (hd : W (100 + 6 * j) 6 = d) (hq : ∀ (g : ch_H) (I1 : zI) (W1 : zW) (v : Int32), v.toInt = (m_g ρ b slb n T d nn).2.2 → (∀ q, q < n → I1 (100 + 6 * j + 1) q = (m_g ρ b slb n T d nn).1 q ∧ I1 (100 + 6 * j + 2) q = (m_g ρ b slb n T d nn).1 (6 + q)) → W1 (100 + 6 * j) 6 = (m_g ρ b slb n T d nn).2.1 → (∀ L, L ≠ (100 + 6 * j) → W1 L = W L) → (∀ k, k ≠ 6 → W1 (100 + 6 * j) k = W (100 + 6 * j) k) → (∀ L, L ≠ (100 + 6 * j + 1) → L ≠ (100 + 6 * j + 2) → I1 L = I L) → zr zNC cA ad I1 W1 O g → zf zNC ad h g → Q (some (.int v)) g) : ww l D tys A X fr lo mX9_goOn Q 0 [(0, .ref (ad 4)), (1, .ref (ad 2)), (2, .ref (ad (100 + 6 * j))), (3, .int k), (4, .int sl9)] [] h := by
  refine w_iconst (by decide) (tX9_goOn_0_ok (0, .iconst 0, 1) (List.mem_of_getElem? (i := 0) rfl)) (fun zv1 ze2 => ?_)
  refine w_istore [(5, .int zv1), (0, .ref (ad 4)), (1, .ref (ad 2)), (2, .ref (ad (100 + 6 * j))), (3, .int k), (4, .int sl9)] rfl (Nat.le_of_ble_eq_true rfl) (tX9_goOn_0_ok (1, .istore 5, 2) (List.mem_of_getElem? (i := 1) rfl)) ?_
  refine w_iconst (by decide) (tX9_goOn_0_ok (3, .iconst 0, 1) (List.mem_of_getElem? (i := 2) rfl)) (fun zv3 ze4 => ?_)
  refine w_istore [(6, .int zv3), (5, .int zv1), (0, .ref (ad 4)), (1, .ref (ad 2)), (2, .ref (ad (100 + 6 * j))), (3, .int k), (4, .int sl9)] rfl (Nat.le_of_ble_eq_true rfl) (tX9_goOn_0_ok (4, .istore 6, 2) (List.mem_of_getElem? (i := 3) rfl)) ?_
  refine w_lv [(5, .int zv1), (6, .int zv3), (0, .ref (ad 4)), (1, .ref (ad 2)), (2, .ref (ad (100 + 6 * j))), (3, .int k), (4, .int sl9)] (by intro q hq; simp only [List.mem_cons, List.not_mem_nil, or_false] at hq ⊢; rcases hq with e | e | e | e | e | e | e <;> subst e <;> simp) ?_
  have e6 : zv3.toInt.toNat = 0 := by omega
  exact z_goL hT hj_j hk hf hlo hsl hx hOT nn h I W _ _ (by omega) (by omega) (by rw [e6]; show _ = (0 : Int); omega) (by rw [e6]; exact hXT) (by rw [e6]; exact hd) hp hl rfl hz hq
theorem r_x_b {p : Nat} {x : Int} {fe : Bool} (hx : 0 ≤ x ∧ x ≤ ρ p 1) : 0 ≤ r_x ρ b p x fe ∧ r_x ρ b p x fe ≤ ρ p 1 := by
  unfold r_x
  split
  · exact hx
  · split <;> omega
/-- the steps, as the class counts them -/
theorem r_s_abs {p : Nat} {x a : Int} {fe : Bool} (he : ev9 ρ p x) (hx : 0 ≤ x ∧ x ≤ ρ p 1) (ha : a = if r_x ρ b p x fe - x < 0 then -(r_x ρ b p x fe - x) else r_x ρ b p x fe - x) : r_s ρ b p x fe = if f_st ρ p = 2 then a / 2 else a := by
  rcases Int.lt_trichotomy (m_hd ρ b p x fe) 0 with e | e | e
  · have ex : r_x ρ b p x fe = 0 := by
      unfold r_x
      rw [if_neg (by omega), if_pos e]
    have es : r_s ρ b p x fe = x / f_st ρ p := by
      unfold r_s
      rw [if_neg (by omega), if_pos e]
    rw [ex] at ha
    rw [es]
    rcases he.st with c | ⟨c, c1, c2⟩
    · rw [c, if_neg (by decide)]
      split at ha <;> omega
    · rw [c, if_pos rfl]
      split at ha <;> omega
  · have ex : r_x ρ b p x fe = x := by
      unfold r_x
      rw [if_pos e]
    have es : r_s ρ b p x fe = 0 := by
      unfold r_s
      rw [if_pos e]
    rw [ex, if_neg (by omega)] at ha
    rw [es]
    rcases he.st with c | ⟨c, c1, c2⟩
    · rw [c, if_neg (by decide)]
      omega
    · rw [c, if_pos rfl]
      omega
  · have ex : r_x ρ b p x fe = ρ p 1 := by
      unfold r_x
      rw [if_neg (by omega), if_neg (by omega)]
    have es : r_s ρ b p x fe = (ρ p 1 - x) / f_st ρ p := by
      unfold r_s
      rw [if_neg (by omega), if_neg (by omega)]
    rw [ex] at ha
    rw [es]
    rcases he.st with c | ⟨c, c1, c2⟩
    · rw [c, if_neg (by decide)]
      split at ha <;> omega
    · rw [c, if_pos rfl]
      split at ha <;> omega
theorem z_restX1 (hT : k_tys tys cA) (hj_j : j < 10) {T : Nat → Int32} {p : Int32} (hz : zr zNC cA ad I W O h) (hp : pz I n ρ) (hl : lz I n ρ b) (hf : 2 ≤ fr) (hlo : 60 ≤ lo) (h0 : 0 ≤ p.toInt ∧ p.toInt < (n : Int)) (x9 : 0 ≤ (T p.toInt.toNat).toInt ∧ (T p.toInt.toNat).toInt ≤ ρ p.toInt.toNat 1) (o9 : (I (100 + 6 * j + 3) p.toInt.toNat).toInt = (T (12 + p.toInt.toNat)).toInt ∧ 0 ≤ (I (100 + 6 * j + 3) p.toInt.toNat).toInt ∧ (I (100 + 6 * j + 3) p.toInt.toNat).toInt ≤ 1) (xt9 : I (100 + 6 * j + 1) p.toInt.toNat = T p.toInt.toNat) (hq : ∀ v : Int32, v.toInt = r_x ρ b p.toInt.toNat (T p.toInt.toNat).toInt (fr9 T p.toInt.toNat) → Q (some (.int v)) h) : ww l D tys A X fr lo mX9_restingX Q 0 [(0, .ref (ad 4)), (1, .ref (ad 2)), (2, .ref (ad (100 + 6 * j))), (3, .int p)] [] h := by
  have hp9 : p.toInt.toNat < n := by omega
  have r9 := hp.2.2 _ hp9
  have r92 := r9.2.1
  obtain ⟨w0, wL, wX, -, -, wD, wI, wV, wH⟩ := (hp.2.1.2 _ hp9).1
  have n6 := hp.2.1.1
  refine w_aload_n (List.Mem.head _) (tX9_restingX_0_ok (0, .aload_n 0, 1) (List.mem_of_getElem? (i := 0) rfl)) ?_
  refine w_aload_n (List.Mem.tail _ (List.Mem.head _)) (tX9_restingX_0_ok (1, .aload_n 1, 1) (List.mem_of_getElem? (i := 1) rfl)) ?_
  refine w_iload_n (List.Mem.tail _ (List.Mem.tail _ (List.Mem.tail _ (List.Mem.head _)))) (tX9_restingX_0_ok (2, .iload_n 3, 1) (List.mem_of_getElem? (i := 2) rfl)) ?_
  refine w_aload_n (List.Mem.tail _ (List.Mem.tail _ (List.Mem.head _))) (tX9_restingX_0_ok (3, .aload_n 2, 1) (List.mem_of_getElem? (i := 3) rfl)) ?_
  refine z_getR (L1 := (100 + 6 * j + 1)) (own := 14) (k := 0) hz (zNC_s (k := 0) hj_j (by decide)) (zZ_s j) rfl rfl rfl rfl rfl (by decide) (tX9_restingX_0_ok (4, .getfield 88, 3) (List.mem_of_getElem? (i := 4) rfl)) ?_
  refine w_iload_n (List.Mem.tail _ (List.Mem.tail _ (List.Mem.tail _ (List.Mem.head _)))) (tX9_restingX_0_ok (7, .iload_n 3, 1) (List.mem_of_getElem? (i := 5) rfl)) ?_
  refine z_iald (f := (I (100 + 6 * j + 1))) hT hz (zNC_s (k := 1) hj_j (by decide)) (zZ_s1 j) rfl (by omega) (by omega) (tX9_restingX_0_ok (8, .iaload, 1) (List.mem_of_getElem? (i := 6) rfl)) (fun zv1 zu2 => ?_)
  have ze3 : zv1.toInt = ((I (100 + 6 * j + 1)) p.toInt.toNat).toInt := congrArg _ zu2
  refine w_aload_n (List.Mem.tail _ (List.Mem.tail _ (List.Mem.head _))) (tX9_restingX_0_ok (9, .aload_n 2, 1) (List.mem_of_getElem? (i := 7) rfl)) ?_
  refine z_getR (L1 := (100 + 6 * j + 3)) (own := 14) (k := 2) hz (zNC_s (k := 0) hj_j (by decide)) (zZ_s j) rfl rfl rfl rfl rfl (by decide) (tX9_restingX_0_ok (10, .getfield 77, 3) (List.mem_of_getElem? (i := 8) rfl)) ?_
  refine w_iload_n (List.Mem.tail _ (List.Mem.tail _ (List.Mem.tail _ (List.Mem.head _)))) (tX9_restingX_0_ok (13, .iload_n 3, 1) (List.mem_of_getElem? (i := 9) rfl)) ?_
  refine z_zald (f := (I (100 + 6 * j + 3))) hT hz (zNC_s (k := 3) hj_j (by decide)) (zZ_s3 j) rfl (by omega) (by omega) (tX9_restingX_0_ok (14, .baload, 1) (List.mem_of_getElem? (i := 10) rfl)) (fun zv4 zu5 => ?_)
  have ze6 : zv4.toInt = ((I (100 + 6 * j + 3)) p.toInt.toNat).toInt := congrArg _ zu5
  refine w_if_ne (tgt := 22) (tX9_restingX_0_ok (15, .ifCond .ne 7, 3) (List.mem_of_getElem? (i := 11) rfl)) rfl (fun zb7 => ?_) (fun zb7 => ?_)
  · refine w_iconst (by decide) (tX9_restingX_0_ok (22, .iconst 0, 1) (List.mem_of_getElem? (i := 14) rfl)) (fun zv8 ze9 => ?_)
    refine w_callV (own := 14) (mi := 88) [.ref (ad 2), .int p, .int zv1, .int zv8] [] [(0, .ref (ad 4)), (1, .ref (ad 2)), (2, .int p), (3, .int zv1), (4, .int zv8)] rfl (cllw_X9 (91, 0, 88) (List.mem_of_getElem? (i := 5) rfl)) rfl rfl (hz.ob rfl rfl) rfl (by omega) (w_lo (n := 25) rfl (by omega)) (Nat.le_of_ble_eq_true rfl) (Nat.le_of_ble_eq_true rfl) rfl (tX9_restingX_0_ok (23, .invokevirtual 91, 3) (List.mem_of_getElem? (i := 15) rfl)) (z_heading hT hz hp hl (by omega) (w_sub (n := 25) rfl (by omega)) h0 (fb := false) (by rw [zu2, xt9]; exact x9) (Or.inl ⟨by omega, rfl⟩) (fun zv10 ze11 => ?_))
    show ww l D tys A X fr lo mX9_restingX Q 26 [(0, .ref (ad 4)), (1, .ref (ad 2)), (2, .ref (ad (100 + 6 * j))), (3, .int p)] [.int zv10] h
    have ef : fr9 T p.toInt.toNat = false := decide_eq_false (by omega)
    rw [← ef, zu2, xt9] at ze11
    refine w_istore [(4, .int zv10), (0, .ref (ad 4)), (1, .ref (ad 2)), (2, .ref (ad (100 + 6 * j))), (3, .int p)] rfl (Nat.le_of_ble_eq_true rfl) (tX9_restingX_0_ok (26, .istore 4, 2) (List.mem_of_getElem? (i := 16) rfl)) ?_
    refine w_iload (List.Mem.head _) (tX9_restingX_0_ok (28, .iload 4, 2) (List.mem_of_getElem? (i := 17) rfl)) ?_
    refine w_if_ne (tgt := 40) (tX9_restingX_0_ok (30, .ifCond .ne 10, 3) (List.mem_of_getElem? (i := 18) rfl)) rfl (fun zb12 => ?_) (fun zb12 => ?_)
    · refine w_iload (List.Mem.head _) (tX9_restingX_0_ok (40, .iload 4, 2) (List.mem_of_getElem? (i := 24) rfl)) ?_
      refine w_if_ge (tgt := 49) (tX9_restingX_0_ok (42, .ifCond .ge 7, 3) (List.mem_of_getElem? (i := 25) rfl)) rfl (fun zb13 => ?_) (fun zb13 => ?_)
      · refine w_aload_n (List.Mem.tail _ (List.Mem.tail _ (List.Mem.head _))) (tX9_restingX_0_ok (49, .aload_n 1, 1) (List.mem_of_getElem? (i := 28) rfl)) ?_
        refine z_getR (L1 := 12) (own := 14) (k := 2) hz rfl rfl rfl rfl rfl rfl rfl (by decide) (tX9_restingX_0_ok (50, .getfield 57, 3) (List.mem_of_getElem? (i := 29) rfl)) ?_
        refine w_iload_n (List.Mem.tail _ (List.Mem.tail _ (List.Mem.tail _ (List.Mem.tail _ (List.Mem.head _))))) (tX9_restingX_0_ok (53, .iload_n 3, 1) (List.mem_of_getElem? (i := 30) rfl)) ?_
        refine z_iald (f := (I 12)) hT hz rfl rfl rfl (by omega) (by omega) (tX9_restingX_0_ok (54, .iaload, 1) (List.mem_of_getElem? (i := 31) rfl)) (fun zv14 zu15 => ?_)
        have ze16 : zv14.toInt = ((I 12) p.toInt.toNat).toInt := congrArg _ zu15
        refine w_iret rfl (tX9_restingX_0_ok (55, .ireturn, 1) (List.mem_of_getElem? (i := 32) rfl)) ?_
        refine hq _ ?_
        unfold r_x
        rw [if_neg (by omega), if_neg (by omega)]
        omega
      · refine w_iconst (by decide) (tX9_restingX_0_ok (45, .iconst 0, 1) (List.mem_of_getElem? (i := 26) rfl)) (fun zv17 ze18 => ?_)
        refine w_goto (tgt := 55) (tX9_restingX_0_ok (46, .goto 9, 3) (List.mem_of_getElem? (i := 27) rfl)) rfl ?_
        refine w_iret rfl (tX9_restingX_0_ok (55, .ireturn, 1) (List.mem_of_getElem? (i := 32) rfl)) ?_
        refine hq _ ?_
        unfold r_x
        rw [if_neg (by omega), if_pos (by omega)]
        omega
    · refine w_aload_n (List.Mem.tail _ (List.Mem.tail _ (List.Mem.tail _ (List.Mem.head _)))) (tX9_restingX_0_ok (33, .aload_n 2, 1) (List.mem_of_getElem? (i := 19) rfl)) ?_
      refine z_getR (L1 := (100 + 6 * j + 1)) (own := 14) (k := 0) hz (zNC_s (k := 0) hj_j (by decide)) (zZ_s j) rfl rfl rfl rfl rfl (by decide) (tX9_restingX_0_ok (34, .getfield 88, 3) (List.mem_of_getElem? (i := 20) rfl)) ?_
      refine w_iload_n (List.Mem.tail _ (List.Mem.tail _ (List.Mem.tail _ (List.Mem.tail _ (List.Mem.head _))))) (tX9_restingX_0_ok (37, .iload_n 3, 1) (List.mem_of_getElem? (i := 21) rfl)) ?_
      refine z_iald (f := (I (100 + 6 * j + 1))) hT hz (zNC_s (k := 1) hj_j (by decide)) (zZ_s1 j) rfl (by omega) (by omega) (tX9_restingX_0_ok (38, .iaload, 1) (List.mem_of_getElem? (i := 22) rfl)) (fun zv19 zu20 => ?_)
      have ze21 : zv19.toInt = ((I (100 + 6 * j + 1)) p.toInt.toNat).toInt := congrArg _ zu20
      refine w_iret rfl (tX9_restingX_0_ok (39, .ireturn, 1) (List.mem_of_getElem? (i := 23) rfl)) ?_
      refine hq _ ?_
      unfold r_x
      rw [if_pos (by omega), zu20, xt9]
  · refine w_iconst (by decide) (tX9_restingX_0_ok (18, .iconst 1, 1) (List.mem_of_getElem? (i := 12) rfl)) (fun zv22 ze23 => ?_)
    refine w_goto (tgt := 23) (tX9_restingX_0_ok (19, .goto 4, 3) (List.mem_of_getElem? (i := 13) rfl)) rfl ?_
    refine w_callV (own := 14) (mi := 88) [.ref (ad 2), .int p, .int zv1, .int zv22] [] [(0, .ref (ad 4)), (1, .ref (ad 2)), (2, .int p), (3, .int zv1), (4, .int zv22)] rfl (cllw_X9 (91, 0, 88) (List.mem_of_getElem? (i := 5) rfl)) rfl rfl (hz.ob rfl rfl) rfl (by omega) (w_lo (n := 25) rfl (by omega)) (Nat.le_of_ble_eq_true rfl) (Nat.le_of_ble_eq_true rfl) rfl (tX9_restingX_0_ok (23, .invokevirtual 91, 3) (List.mem_of_getElem? (i := 15) rfl)) (z_heading hT hz hp hl (by omega) (w_sub (n := 25) rfl (by omega)) h0 (fb := true) (by rw [zu2, xt9]; exact x9) (Or.inr ⟨by omega, rfl⟩) (fun zv24 ze25 => ?_))
    show ww l D tys A X fr lo mX9_restingX Q 26 [(0, .ref (ad 4)), (1, .ref (ad 2)), (2, .ref (ad (100 + 6 * j))), (3, .int p)] [.int zv24] h
    have ef : fr9 T p.toInt.toNat = true := decide_eq_true (by omega)
    rw [← ef, zu2, xt9] at ze25
    refine w_istore [(4, .int zv24), (0, .ref (ad 4)), (1, .ref (ad 2)), (2, .ref (ad (100 + 6 * j))), (3, .int p)] rfl (Nat.le_of_ble_eq_true rfl) (tX9_restingX_0_ok (26, .istore 4, 2) (List.mem_of_getElem? (i := 16) rfl)) ?_
    refine w_iload (List.Mem.head _) (tX9_restingX_0_ok (28, .iload 4, 2) (List.mem_of_getElem? (i := 17) rfl)) ?_
    refine w_if_ne (tgt := 40) (tX9_restingX_0_ok (30, .ifCond .ne 10, 3) (List.mem_of_getElem? (i := 18) rfl)) rfl (fun zb26 => ?_) (fun zb26 => ?_)
    · refine w_iload (List.Mem.head _) (tX9_restingX_0_ok (40, .iload 4, 2) (List.mem_of_getElem? (i := 24) rfl)) ?_
      refine w_if_ge (tgt := 49) (tX9_restingX_0_ok (42, .ifCond .ge 7, 3) (List.mem_of_getElem? (i := 25) rfl)) rfl (fun zb27 => ?_) (fun zb27 => ?_)
      · refine w_aload_n (List.Mem.tail _ (List.Mem.tail _ (List.Mem.head _))) (tX9_restingX_0_ok (49, .aload_n 1, 1) (List.mem_of_getElem? (i := 28) rfl)) ?_
        refine z_getR (L1 := 12) (own := 14) (k := 2) hz rfl rfl rfl rfl rfl rfl rfl (by decide) (tX9_restingX_0_ok (50, .getfield 57, 3) (List.mem_of_getElem? (i := 29) rfl)) ?_
        refine w_iload_n (List.Mem.tail _ (List.Mem.tail _ (List.Mem.tail _ (List.Mem.tail _ (List.Mem.head _))))) (tX9_restingX_0_ok (53, .iload_n 3, 1) (List.mem_of_getElem? (i := 30) rfl)) ?_
        refine z_iald (f := (I 12)) hT hz rfl rfl rfl (by omega) (by omega) (tX9_restingX_0_ok (54, .iaload, 1) (List.mem_of_getElem? (i := 31) rfl)) (fun zv28 zu29 => ?_)
        have ze30 : zv28.toInt = ((I 12) p.toInt.toNat).toInt := congrArg _ zu29
        refine w_iret rfl (tX9_restingX_0_ok (55, .ireturn, 1) (List.mem_of_getElem? (i := 32) rfl)) ?_
        refine hq _ ?_
        unfold r_x
        rw [if_neg (by omega), if_neg (by omega)]
        omega
      · refine w_iconst (by decide) (tX9_restingX_0_ok (45, .iconst 0, 1) (List.mem_of_getElem? (i := 26) rfl)) (fun zv31 ze32 => ?_)
        refine w_goto (tgt := 55) (tX9_restingX_0_ok (46, .goto 9, 3) (List.mem_of_getElem? (i := 27) rfl)) rfl ?_
        refine w_iret rfl (tX9_restingX_0_ok (55, .ireturn, 1) (List.mem_of_getElem? (i := 32) rfl)) ?_
        refine hq _ ?_
        unfold r_x
        rw [if_neg (by omega), if_pos (by omega)]
        omega
    · refine w_aload_n (List.Mem.tail _ (List.Mem.tail _ (List.Mem.tail _ (List.Mem.head _)))) (tX9_restingX_0_ok (33, .aload_n 2, 1) (List.mem_of_getElem? (i := 19) rfl)) ?_
      refine z_getR (L1 := (100 + 6 * j + 1)) (own := 14) (k := 0) hz (zNC_s (k := 0) hj_j (by decide)) (zZ_s j) rfl rfl rfl rfl rfl (by decide) (tX9_restingX_0_ok (34, .getfield 88, 3) (List.mem_of_getElem? (i := 20) rfl)) ?_
      refine w_iload_n (List.Mem.tail _ (List.Mem.tail _ (List.Mem.tail _ (List.Mem.tail _ (List.Mem.head _))))) (tX9_restingX_0_ok (37, .iload_n 3, 1) (List.mem_of_getElem? (i := 21) rfl)) ?_
      refine z_iald (f := (I (100 + 6 * j + 1))) hT hz (zNC_s (k := 1) hj_j (by decide)) (zZ_s1 j) rfl (by omega) (by omega) (tX9_restingX_0_ok (38, .iaload, 1) (List.mem_of_getElem? (i := 22) rfl)) (fun zv33 zu34 => ?_)
      have ze35 : zv33.toInt = ((I (100 + 6 * j + 1)) p.toInt.toNat).toInt := congrArg _ zu34
      refine w_iret rfl (tX9_restingX_0_ok (39, .ireturn, 1) (List.mem_of_getElem? (i := 23) rfl)) ?_
      refine hq _ ?_
      unfold r_x
      rw [if_pos (by omega), zu34, xt9]
theorem z_seL (hT : k_tys tys cA) (hj_j : j < 10) {T : Nat → Int32} {o9f : Nat → Int32} (wf : wfR n ρ) (hf : 3 ≤ fr) (hlo : 100 ≤ lo) (hx : m_ok n ρ T) (he : e_ok n ρ T) (hOT : ∀ q, q < n → (o9f q).toInt = (T (12 + q)).toInt ∧ 0 ≤ (o9f q).toInt ∧ (o9f q).toInt ≤ 1) : ∀ (j9 : Nat) (h : ch_H) (I : zI) (mo p : Int32), p.toInt + j9 = n → 0 ≤ p.toInt → mo.toInt = r_M ρ b T p.toInt.toNat → (∀ q, q < p.toInt.toNat → I (100 + 6 * j + 1) q = Int32.ofInt (r_x ρ b q (T q).toInt (fr9 T q)) ∧ I (100 + 6 * j + 2) q = T (6 + q) + Int32.ofInt (r_s ρ b q (T q).toInt (fr9 T q))) → (∀ q, q < n → p.toInt.toNat ≤ q → I (100 + 6 * j + 1) q = T q ∧ I (100 + 6 * j + 2) q = T (6 + q)) → pz I n ρ → lz I n ρ b → I (100 + 6 * j + 3) = o9f → zr zNC cA ad I W O h → (∀ (g : ch_H) (I1 : zI) (v : Int32), v.toInt = r_M ρ b T n → (∀ q, q < n → I1 (100 + 6 * j + 1) q = Int32.ofInt (r_x ρ b q (T q).toInt (fr9 T q)) ∧ I1 (100 + 6 * j + 2) q = T (6 + q) + Int32.ofInt (r_s ρ b q (T q).toInt (fr9 T q))) → (∀ L, L ≠ (100 + 6 * j + 1) → L ≠ (100 + 6 * j + 2) → I1 L = I L) → zr zNC cA ad I1 W O g → zf zNC ad h g → Q (some (.int v)) g) → ww l D tys A X fr lo mX9_settle Q 5 [(3, .int mo), (4, .int p), (0, .ref (ad 4)), (1, .ref (ad 2)), (2, .ref (ad (100 + 6 * j)))] [] h := by
  intro j9
  induction j9 using Nat.strongRecOn with
  | ind j9 ih =>
    intro h I mo p hj9 hp0 hmo hD hXT hp hl hO9 hz hq
    have n6 := wf.1
    have r0 := hp.1
    have mb := r_M_b (b := b) hx wf p.toInt.toNat (by omega)
    refine w_iload (List.Mem.tail _ (List.Mem.head _)) (tX9_settle_0_ok (5, .iload 4, 2) (List.mem_of_getElem? (i := 4) rfl)) ?_
    refine w_aload_n (List.Mem.tail _ (List.Mem.tail _ (List.Mem.tail _ (List.Mem.head _)))) (tX9_settle_0_ok (7, .aload_n 1, 1) (List.mem_of_getElem? (i := 5) rfl)) ?_
    refine z_get (f := (I 2)) (own := 14) (k := 0) hz rfl rfl rfl rfl rfl rfl rfl (by decide) (tX9_settle_0_ok (8, .getfield 21, 3) (List.mem_of_getElem? (i := 6) rfl)) ?_
    refine w_icmp_ge (tgt := 89) (tX9_settle_0_ok (11, .if_icmp .ge 78, 3) (List.mem_of_getElem? (i := 7) rfl)) rfl (fun zb1 => ?_) (fun zb1 => ?_)
    · refine w_iload_n (List.Mem.head _) (tX9_settle_0_ok (89, .iload_n 3, 1) (List.mem_of_getElem? (i := 50) rfl)) ?_
      refine w_iret rfl (tX9_settle_0_ok (90, .ireturn, 1) (List.mem_of_getElem? (i := 51) rfl)) ?_
      have ep : p.toInt.toNat = n := by omega
      rw [ep] at hmo hD
      exact hq h I mo hmo hD (fun _ _ _ => rfl) hz zf.rf
    · have hp8 : p.toInt < (n : Int) := by omega
      have hp9 : p.toInt.toNat < n := by omega
      have xb9 := hx _ hp9
      have lb9 := (hp.2.1.2 _ hp9).1.2.1
      refine w_aload_n (List.Mem.tail _ (List.Mem.tail _ (List.Mem.head _))) (tX9_settle_0_ok (14, .aload_n 0, 1) (List.mem_of_getElem? (i := 8) rfl)) ?_
      refine w_aload_n (List.Mem.tail _ (List.Mem.tail _ (List.Mem.tail _ (List.Mem.head _)))) (tX9_settle_0_ok (15, .aload_n 1, 1) (List.mem_of_getElem? (i := 9) rfl)) ?_
      refine w_aload_n (List.Mem.tail _ (List.Mem.tail _ (List.Mem.tail _ (List.Mem.tail _ (List.Mem.head _))))) (tX9_settle_0_ok (16, .aload_n 2, 1) (List.mem_of_getElem? (i := 10) rfl)) ?_
      refine w_iload (List.Mem.tail _ (List.Mem.head _)) (tX9_settle_0_ok (17, .iload 4, 2) (List.mem_of_getElem? (i := 11) rfl)) ?_
      refine w_callV (own := 14) (mi := 96) [.ref (ad 2), .ref (ad (100 + 6 * j)), .int p] [] [(0, .ref (ad 4)), (1, .ref (ad 2)), (2, .ref (ad (100 + 6 * j))), (3, .int p)] rfl (cllw_X9 (105, 0, 96) (List.mem_of_getElem? (i := 10) rfl)) rfl rfl (hz.ob rfl rfl) rfl (by omega) (w_lo (n := 24) rfl (by omega)) (Nat.le_of_ble_eq_true rfl) (Nat.le_of_ble_eq_true rfl) rfl (tX9_settle_0_ok (19, .invokevirtual 105, 3) (List.mem_of_getElem? (i := 12) rfl)) (z_restX1 hT hj_j (T := T) hz hp hl (by omega) (w_sub (n := 24) rfl (by omega)) ⟨hp0, hp8⟩ (hx _ hp9) (by rw [hO9]; exact hOT _ hp9) (hXT _ hp9 (Nat.le_refl _)).1 (fun zv2 ze3 => ?_))
      show ww l D tys A X fr lo mX9_settle Q 22 [(3, .int mo), (4, .int p), (0, .ref (ad 4)), (1, .ref (ad 2)), (2, .ref (ad (100 + 6 * j)))] [.int zv2] h
      have rb := r_x_b (b := b) (fe := fr9 T p.toInt.toNat) (hx _ hp9)
      refine w_istore [(5, .int zv2), (3, .int mo), (4, .int p), (0, .ref (ad 4)), (1, .ref (ad 2)), (2, .ref (ad (100 + 6 * j)))] rfl (Nat.le_of_ble_eq_true rfl) (tX9_settle_0_ok (22, .istore 5, 2) (List.mem_of_getElem? (i := 13) rfl)) ?_
      refine w_iload (List.Mem.head _) (tX9_settle_0_ok (24, .iload 5, 2) (List.mem_of_getElem? (i := 14) rfl)) ?_
      refine w_aload_n (List.Mem.tail _ (List.Mem.tail _ (List.Mem.tail _ (List.Mem.tail _ (List.Mem.tail _ (List.Mem.head _)))))) (tX9_settle_0_ok (26, .aload_n 2, 1) (List.mem_of_getElem? (i := 15) rfl)) ?_
      refine z_getR (L1 := (100 + 6 * j + 1)) (own := 14) (k := 0) hz (zNC_s (k := 0) hj_j (by decide)) (zZ_s j) rfl rfl rfl rfl rfl (by decide) (tX9_settle_0_ok (27, .getfield 88, 3) (List.mem_of_getElem? (i := 16) rfl)) ?_
      refine w_iload (List.Mem.tail _ (List.Mem.tail _ (List.Mem.head _))) (tX9_settle_0_ok (30, .iload 4, 2) (List.mem_of_getElem? (i := 17) rfl)) ?_
      refine z_iald (f := (I (100 + 6 * j + 1))) hT hz (zNC_s (k := 1) hj_j (by decide)) (zZ_s1 j) rfl (by omega) (by omega) (tX9_settle_0_ok (32, .iaload, 1) (List.mem_of_getElem? (i := 18) rfl)) (fun zv4 zu5 => ?_)
      have ze6 : zv4.toInt = ((I (100 + 6 * j + 1)) p.toInt.toNat).toInt := congrArg _ zu5
      have yzv4 : zv4.toInt = (T p.toInt.toNat).toInt := by rw [zu5, (hXT _ hp9 (Nat.le_refl _)).1]
      refine w_isub (by omega) (by omega) (tX9_settle_0_ok (33, .isub, 1) (List.mem_of_getElem? (i := 19) rfl)) (fun zv7 ze8 => ?_)
      refine w_absC (by omega) rfl (by show 13 ≤ lo; omega) (by omega) (tX9_settle_0_ok (34, .invokestatic 64, 3) (List.mem_of_getElem? (i := 20) rfl)) (fun zv9 ze10 => ?_)
      refine w_istore [(6, .int zv9), (5, .int zv2), (3, .int mo), (4, .int p), (0, .ref (ad 4)), (1, .ref (ad 2)), (2, .ref (ad (100 + 6 * j)))] rfl (Nat.le_of_ble_eq_true rfl) (tX9_settle_0_ok (37, .istore 6, 2) (List.mem_of_getElem? (i := 21) rfl)) ?_
      refine w_aload_n (List.Mem.tail _ (List.Mem.tail _ (List.Mem.tail _ (List.Mem.tail _ (List.Mem.tail _ (List.Mem.head _)))))) (tX9_settle_0_ok (39, .aload_n 1, 1) (List.mem_of_getElem? (i := 22) rfl)) ?_
      refine w_iload (List.Mem.tail _ (List.Mem.tail _ (List.Mem.tail _ (List.Mem.head _)))) (tX9_settle_0_ok (40, .iload 4, 2) (List.mem_of_getElem? (i := 23) rfl)) ?_
      refine w_callV (own := 14) (mi := 49) [.int p] [] [(0, .ref (ad 2)), (1, .int p)] rfl (cllw_X9 (95, 0, 49) (List.mem_of_getElem? (i := 9) rfl)) rfl rfl (hz.ob rfl rfl) rfl (by omega) (w_lo (n := 21) rfl (by omega)) (Nat.le_of_ble_eq_true rfl) (Nat.le_of_ble_eq_true rfl) rfl (tX9_settle_0_ok (42, .invokevirtual 95, 3) (List.mem_of_getElem? (i := 24) rfl)) (z_stride hT hz hp ⟨hp0, hp8⟩ (fun zv11 ze12 => ?_))
      show ww l D tys A X fr lo mX9_settle Q 45 [(6, .int zv9), (5, .int zv2), (3, .int mo), (4, .int p), (0, .ref (ad 4)), (1, .ref (ad 2)), (2, .ref (ad (100 + 6 * j)))] [.int zv11] h
      refine w_iconst (by decide) (tX9_settle_0_ok (45, .iconst 2, 1) (List.mem_of_getElem? (i := 25) rfl)) (fun zv13 ze14 => ?_)
      refine w_icmp_ne (tgt := 55) (tX9_settle_0_ok (46, .if_icmp .ne 9, 3) (List.mem_of_getElem? (i := 26) rfl)) rfl (fun zb15 => ?_) (fun zb15 => ?_)
      · refine w_aload_n (List.Mem.tail _ (List.Mem.tail _ (List.Mem.tail _ (List.Mem.tail _ (List.Mem.tail _ (List.Mem.tail _ (List.Mem.head _))))))) (tX9_settle_0_ok (55, .aload_n 2, 1) (List.mem_of_getElem? (i := 31) rfl)) ?_
        refine z_getR (L1 := (100 + 6 * j + 1)) (own := 14) (k := 0) hz (zNC_s (k := 0) hj_j (by decide)) (zZ_s j) rfl rfl rfl rfl rfl (by decide) (tX9_settle_0_ok (56, .getfield 88, 3) (List.mem_of_getElem? (i := 32) rfl)) ?_
        refine w_iload (List.Mem.tail _ (List.Mem.tail _ (List.Mem.tail _ (List.Mem.head _)))) (tX9_settle_0_ok (59, .iload 4, 2) (List.mem_of_getElem? (i := 33) rfl)) ?_
        refine w_iload (List.Mem.tail _ (List.Mem.head _)) (tX9_settle_0_ok (61, .iload 5, 2) (List.mem_of_getElem? (i := 34) rfl)) ?_
        refine z_iast (f := (I (100 + 6 * j + 1))) hT hz (zNC_s (k := 1) hj_j (by decide)) (zZ_s1 j) rfl (by omega) (by omega) (tX9_settle_0_ok (63, .iastore, 1) (List.mem_of_getElem? (i := 35) rfl)) (fun zh16 zI17 zq18 zz19 zf20 => ?_)
        refine w_aload_n (List.Mem.tail _ (List.Mem.tail _ (List.Mem.tail _ (List.Mem.tail _ (List.Mem.tail _ (List.Mem.tail _ (List.Mem.head _))))))) (tX9_settle_0_ok (64, .aload_n 2, 1) (List.mem_of_getElem? (i := 36) rfl)) ?_
        refine z_getR (L1 := (100 + 6 * j + 2)) (own := 14) (k := 1) zz19 (zNC_s (k := 0) hj_j (by decide)) (zZ_s j) rfl rfl rfl rfl rfl (by decide) (tX9_settle_0_ok (65, .getfield 98, 3) (List.mem_of_getElem? (i := 37) rfl)) ?_
        refine w_iload (List.Mem.tail _ (List.Mem.tail _ (List.Mem.tail _ (List.Mem.head _)))) (tX9_settle_0_ok (68, .iload 4, 2) (List.mem_of_getElem? (i := 38) rfl)) ?_
        refine tt_dup2 rfl rfl (tX9_settle_0_ok (70, .dup2, 1) (List.mem_of_getElem? (i := 39) rfl)) ?_
        show ww l D tys A X fr lo mX9_settle Q 71 [(6, .int zv9), (5, .int zv2), (3, .int mo), (4, .int p), (0, .ref (ad 4)), (1, .ref (ad 2)), (2, .ref (ad (100 + 6 * j)))] [.int p, .ref (ad (100 + 6 * j + 2)), .int p, .ref (ad (100 + 6 * j + 2))] zh16
        refine z_iald (f := (I (100 + 6 * j + 2))) hT zz19 (zNC_s (k := 2) hj_j (by decide)) (zZ_s2 j) ((congrFun zq18 (100 + 6 * j + 2)).trans (s2_n (by omega))) (by omega) (by omega) (tX9_settle_0_ok (71, .iaload, 1) (List.mem_of_getElem? (i := 40) rfl)) (fun zv21 zu22 => ?_)
        have ze23 : zv21.toInt = ((I (100 + 6 * j + 2)) p.toInt.toNat).toInt := congrArg _ zu22
        refine w_iload (List.Mem.head _) (tX9_settle_0_ok (72, .iload 6, 2) (List.mem_of_getElem? (i := 41) rfl)) ?_
        refine w_addE (tX9_settle_0_ok (74, .iadd, 1) (List.mem_of_getElem? (i := 42) rfl)) (fun zv24 ze25 => ?_)
        refine z_iast (f := (I (100 + 6 * j + 2))) hT zz19 (zNC_s (k := 2) hj_j (by decide)) (zZ_s2 j) ((congrFun zq18 (100 + 6 * j + 2)).trans (s2_n (by omega))) (by omega) (by omega) (tX9_settle_0_ok (75, .iastore, 1) (List.mem_of_getElem? (i := 43) rfl)) (fun zh26 zI27 zq28 zz29 zf30 => ?_)
        refine w_iload_n (List.Mem.tail _ (List.Mem.tail _ (List.Mem.head _))) (tX9_settle_0_ok (76, .iload_n 3, 1) (List.mem_of_getElem? (i := 44) rfl)) ?_
        refine w_iload (List.Mem.head _) (tX9_settle_0_ok (77, .iload 6, 2) (List.mem_of_getElem? (i := 45) rfl)) ?_
        refine w_maxW rfl (by omega) (by show 13 ≤ lo; omega) (tX9_settle_0_ok (79, .invokestatic 109, 3) (List.mem_of_getElem? (i := 46) rfl)) (fun zv31 ze32 => ?_)
        refine w_istore_n [(3, .int zv31), (6, .int zv9), (5, .int zv2), (4, .int p), (0, .ref (ad 4)), (1, .ref (ad 2)), (2, .ref (ad (100 + 6 * j)))] rfl (Nat.le_of_ble_eq_true rfl) (tX9_settle_0_ok (82, .istore_n 3, 1) (List.mem_of_getElem? (i := 47) rfl)) ?_
        refine w_iinc (fun zv33 => [(4, .int zv33), (3, .int zv31), (6, .int zv9), (5, .int zv2), (0, .ref (ad 4)), (1, .ref (ad 2)), (2, .ref (ad (100 + 6 * j)))]) (fun _ => rfl) (List.Mem.tail _ (List.Mem.tail _ (List.Mem.tail _ (List.Mem.head _)))) (Nat.le_of_ble_eq_true rfl) (by decide) (by omega) (by omega) (tX9_settle_0_ok (83, .iinc 4 1, 3) (List.mem_of_getElem? (i := 48) rfl)) (fun zv33 ze34 => ?_)
        refine w_goto (tgt := 5) (tX9_settle_0_ok (86, .goto (-81), 3) (List.mem_of_getElem? (i := 49) rfl)) rfl ?_
        have ra := r_s_abs (b := b) (fe := fr9 T p.toInt.toNat) (a := zv9.toInt) (he _ hp9) (hx _ hp9) (by rw [ze10]; split <;> split <;> omega)
        have sv9 : zv9.toInt = r_s ρ b p.toInt.toNat (T p.toInt.toNat).toInt (fr9 T p.toInt.toNat) := by
          rw [ra, if_neg (by omega)]
        have ep : zv33.toInt.toNat = p.toInt.toNat + 1 := by omega
        have c1 := (((congrFun zq28 (100 + 6 * j + 1)).trans (s2_n (by omega))).trans ((congrFun zq18 (100 + 6 * j + 1)).trans (s2_s _ _ _)))
        have c2 := ((congrFun zq28 (100 + 6 * j + 2)).trans (s2_s _ _ _))
        refine w_lv [(3, .int zv31), (4, .int zv33), (0, .ref (ad 4)), (1, .ref (ad 2)), (2, .ref (ad (100 + 6 * j)))] (by intro q hq; simp only [List.mem_cons, List.not_mem_nil, or_false] at hq ⊢; rcases hq with e | e | e | e | e <;> subst e <;> simp) ?_
        have ex : zv2 = Int32.ofInt (r_x ρ b p.toInt.toNat (T p.toInt.toNat).toInt (fr9 T p.toInt.toNat)) := (kn_eq _ _).mpr (by rw [ofInt_b (by omega)]; exact ze3)
        have es : zv9 = Int32.ofInt (r_s ρ b p.toInt.toNat (T p.toInt.toNat).toInt (fr9 T p.toInt.toNat)) := (kn_eq _ _).mpr (by rw [ofInt_b (by omega)]; exact sv9)
        refine ih (j9 - 1) (by omega) zh26 zI27 _ _ (by omega) (by omega) ?_ (fun q h1 => ?_) (fun q h1 h2 => ?_) (hp.mv (fun L9 h9 => ?_)) (hl.mv ?_) ?_ zz29 (fun g2 I2 v2 z1 z2 z3 z4 z5 => hq g2 I2 v2 z1 z2 (fun L9 n1 n2 => (z3 L9 n1 n2).trans ?_) z4 (((zf20.tr zf30)).tr z5))
        · rw [ep]
          show _ = max (r_M ρ b T p.toInt.toNat) (r_s ρ b p.toInt.toNat (T p.toInt.toNat).toInt (fr9 T p.toInt.toNat))
          rw [ze32, sv9, hmo]
        · rw [c1, c2]
          by_cases c9 : q = p.toInt.toNat
          · subst c9
            refine ⟨?_, ?_⟩
            · rw [upd_s, ex]
            · rw [upd_s, ze25, zu22, (hXT _ hp9 (Nat.le_refl _)).2, es]
          · rw [upd_n _ _ c9, upd_n _ _ c9]
            exact hD q (by omega)
        · rw [c1, c2, upd_n _ _ (by omega), upd_n _ _ (by omega)]
          exact hXT q h1 (by omega)
        · rw [zq28, s2_n (by omega), zq18, s2_n (by omega)]
        · rw [zq28, s2_n (by omega), zq18, s2_n (by omega)]
        · rw [zq28, s2_n (by omega), zq18, s2_n (by omega)]
          exact hO9
        · rw [zq28, s2_n n2, zq18, s2_n n1]
      · refine w_iload (List.Mem.head _) (tX9_settle_0_ok (49, .iload 6, 2) (List.mem_of_getElem? (i := 27) rfl)) ?_
        refine w_iconst (by decide) (tX9_settle_0_ok (51, .iconst 2, 1) (List.mem_of_getElem? (i := 28) rfl)) (fun zv35 ze36 => ?_)
        refine w_idiv2 (by omega) (by omega) (tX9_settle_0_ok (52, .idiv, 1) (List.mem_of_getElem? (i := 29) rfl)) (fun zv37 ze38 => ?_)
        refine w_istore [(6, .int zv37), (5, .int zv2), (3, .int mo), (4, .int p), (0, .ref (ad 4)), (1, .ref (ad 2)), (2, .ref (ad (100 + 6 * j)))] rfl (Nat.le_of_ble_eq_true rfl) (tX9_settle_0_ok (53, .istore 6, 2) (List.mem_of_getElem? (i := 30) rfl)) ?_
        refine w_aload_n (List.Mem.tail _ (List.Mem.tail _ (List.Mem.tail _ (List.Mem.tail _ (List.Mem.tail _ (List.Mem.tail _ (List.Mem.head _))))))) (tX9_settle_0_ok (55, .aload_n 2, 1) (List.mem_of_getElem? (i := 31) rfl)) ?_
        refine z_getR (L1 := (100 + 6 * j + 1)) (own := 14) (k := 0) hz (zNC_s (k := 0) hj_j (by decide)) (zZ_s j) rfl rfl rfl rfl rfl (by decide) (tX9_settle_0_ok (56, .getfield 88, 3) (List.mem_of_getElem? (i := 32) rfl)) ?_
        refine w_iload (List.Mem.tail _ (List.Mem.tail _ (List.Mem.tail _ (List.Mem.head _)))) (tX9_settle_0_ok (59, .iload 4, 2) (List.mem_of_getElem? (i := 33) rfl)) ?_
        refine w_iload (List.Mem.tail _ (List.Mem.head _)) (tX9_settle_0_ok (61, .iload 5, 2) (List.mem_of_getElem? (i := 34) rfl)) ?_
        refine z_iast (f := (I (100 + 6 * j + 1))) hT hz (zNC_s (k := 1) hj_j (by decide)) (zZ_s1 j) rfl (by omega) (by omega) (tX9_settle_0_ok (63, .iastore, 1) (List.mem_of_getElem? (i := 35) rfl)) (fun zh39 zI40 zq41 zz42 zf43 => ?_)
        refine w_aload_n (List.Mem.tail _ (List.Mem.tail _ (List.Mem.tail _ (List.Mem.tail _ (List.Mem.tail _ (List.Mem.tail _ (List.Mem.head _))))))) (tX9_settle_0_ok (64, .aload_n 2, 1) (List.mem_of_getElem? (i := 36) rfl)) ?_
        refine z_getR (L1 := (100 + 6 * j + 2)) (own := 14) (k := 1) zz42 (zNC_s (k := 0) hj_j (by decide)) (zZ_s j) rfl rfl rfl rfl rfl (by decide) (tX9_settle_0_ok (65, .getfield 98, 3) (List.mem_of_getElem? (i := 37) rfl)) ?_
        refine w_iload (List.Mem.tail _ (List.Mem.tail _ (List.Mem.tail _ (List.Mem.head _)))) (tX9_settle_0_ok (68, .iload 4, 2) (List.mem_of_getElem? (i := 38) rfl)) ?_
        refine tt_dup2 rfl rfl (tX9_settle_0_ok (70, .dup2, 1) (List.mem_of_getElem? (i := 39) rfl)) ?_
        show ww l D tys A X fr lo mX9_settle Q 71 [(6, .int zv37), (5, .int zv2), (3, .int mo), (4, .int p), (0, .ref (ad 4)), (1, .ref (ad 2)), (2, .ref (ad (100 + 6 * j)))] [.int p, .ref (ad (100 + 6 * j + 2)), .int p, .ref (ad (100 + 6 * j + 2))] zh39
        refine z_iald (f := (I (100 + 6 * j + 2))) hT zz42 (zNC_s (k := 2) hj_j (by decide)) (zZ_s2 j) ((congrFun zq41 (100 + 6 * j + 2)).trans (s2_n (by omega))) (by omega) (by omega) (tX9_settle_0_ok (71, .iaload, 1) (List.mem_of_getElem? (i := 40) rfl)) (fun zv44 zu45 => ?_)
        have ze46 : zv44.toInt = ((I (100 + 6 * j + 2)) p.toInt.toNat).toInt := congrArg _ zu45
        refine w_iload (List.Mem.head _) (tX9_settle_0_ok (72, .iload 6, 2) (List.mem_of_getElem? (i := 41) rfl)) ?_
        refine w_addE (tX9_settle_0_ok (74, .iadd, 1) (List.mem_of_getElem? (i := 42) rfl)) (fun zv47 ze48 => ?_)
        refine z_iast (f := (I (100 + 6 * j + 2))) hT zz42 (zNC_s (k := 2) hj_j (by decide)) (zZ_s2 j) ((congrFun zq41 (100 + 6 * j + 2)).trans (s2_n (by omega))) (by omega) (by omega) (tX9_settle_0_ok (75, .iastore, 1) (List.mem_of_getElem? (i := 43) rfl)) (fun zh49 zI50 zq51 zz52 zf53 => ?_)
        refine w_iload_n (List.Mem.tail _ (List.Mem.tail _ (List.Mem.head _))) (tX9_settle_0_ok (76, .iload_n 3, 1) (List.mem_of_getElem? (i := 44) rfl)) ?_
        refine w_iload (List.Mem.head _) (tX9_settle_0_ok (77, .iload 6, 2) (List.mem_of_getElem? (i := 45) rfl)) ?_
        refine w_maxW rfl (by omega) (by show 13 ≤ lo; omega) (tX9_settle_0_ok (79, .invokestatic 109, 3) (List.mem_of_getElem? (i := 46) rfl)) (fun zv54 ze55 => ?_)
        refine w_istore_n [(3, .int zv54), (6, .int zv37), (5, .int zv2), (4, .int p), (0, .ref (ad 4)), (1, .ref (ad 2)), (2, .ref (ad (100 + 6 * j)))] rfl (Nat.le_of_ble_eq_true rfl) (tX9_settle_0_ok (82, .istore_n 3, 1) (List.mem_of_getElem? (i := 47) rfl)) ?_
        refine w_iinc (fun zv56 => [(4, .int zv56), (3, .int zv54), (6, .int zv37), (5, .int zv2), (0, .ref (ad 4)), (1, .ref (ad 2)), (2, .ref (ad (100 + 6 * j)))]) (fun _ => rfl) (List.Mem.tail _ (List.Mem.tail _ (List.Mem.tail _ (List.Mem.head _)))) (Nat.le_of_ble_eq_true rfl) (by decide) (by omega) (by omega) (tX9_settle_0_ok (83, .iinc 4 1, 3) (List.mem_of_getElem? (i := 48) rfl)) (fun zv56 ze57 => ?_)
        refine w_goto (tgt := 5) (tX9_settle_0_ok (86, .goto (-81), 3) (List.mem_of_getElem? (i := 49) rfl)) rfl ?_
        have ra := r_s_abs (b := b) (fe := fr9 T p.toInt.toNat) (a := zv9.toInt) (he _ hp9) (hx _ hp9) (by rw [ze10]; split <;> split <;> omega)
        have sv9 : zv37.toInt = r_s ρ b p.toInt.toNat (T p.toInt.toNat).toInt (fr9 T p.toInt.toNat) := by
          rw [ra, if_pos (by omega)]
          omega
        have ep : zv56.toInt.toNat = p.toInt.toNat + 1 := by omega
        have c1 := (((congrFun zq51 (100 + 6 * j + 1)).trans (s2_n (by omega))).trans ((congrFun zq41 (100 + 6 * j + 1)).trans (s2_s _ _ _)))
        have c2 := ((congrFun zq51 (100 + 6 * j + 2)).trans (s2_s _ _ _))
        refine w_lv [(3, .int zv54), (4, .int zv56), (0, .ref (ad 4)), (1, .ref (ad 2)), (2, .ref (ad (100 + 6 * j)))] (by intro q hq; simp only [List.mem_cons, List.not_mem_nil, or_false] at hq ⊢; rcases hq with e | e | e | e | e <;> subst e <;> simp) ?_
        have ex : zv2 = Int32.ofInt (r_x ρ b p.toInt.toNat (T p.toInt.toNat).toInt (fr9 T p.toInt.toNat)) := (kn_eq _ _).mpr (by rw [ofInt_b (by omega)]; exact ze3)
        have es : zv37 = Int32.ofInt (r_s ρ b p.toInt.toNat (T p.toInt.toNat).toInt (fr9 T p.toInt.toNat)) := (kn_eq _ _).mpr (by rw [ofInt_b (by omega)]; exact sv9)
        refine ih (j9 - 1) (by omega) zh49 zI50 _ _ (by omega) (by omega) ?_ (fun q h1 => ?_) (fun q h1 h2 => ?_) (hp.mv (fun L9 h9 => ?_)) (hl.mv ?_) ?_ zz52 (fun g2 I2 v2 z1 z2 z3 z4 z5 => hq g2 I2 v2 z1 z2 (fun L9 n1 n2 => (z3 L9 n1 n2).trans ?_) z4 (((zf43.tr zf53)).tr z5))
        · rw [ep]
          show _ = max (r_M ρ b T p.toInt.toNat) (r_s ρ b p.toInt.toNat (T p.toInt.toNat).toInt (fr9 T p.toInt.toNat))
          rw [ze55, sv9, hmo]
        · rw [c1, c2]
          by_cases c9 : q = p.toInt.toNat
          · subst c9
            refine ⟨?_, ?_⟩
            · rw [upd_s, ex]
            · rw [upd_s, ze48, zu45, (hXT _ hp9 (Nat.le_refl _)).2, es]
          · rw [upd_n _ _ c9, upd_n _ _ c9]
            exact hD q (by omega)
        · rw [c1, c2, upd_n _ _ (by omega), upd_n _ _ (by omega)]
          exact hXT q h1 (by omega)
        · rw [zq51, s2_n (by omega), zq41, s2_n (by omega)]
        · rw [zq51, s2_n (by omega), zq41, s2_n (by omega)]
        · rw [zq51, s2_n (by omega), zq41, s2_n (by omega)]
          exact hO9
        · rw [zq51, s2_n n2, zq41, s2_n n1]
theorem z_settle (hT : k_tys tys cA) (hj_j : j < 10) {T : Nat → Int32} (hz : zr zNC cA ad I W O h) (hp : pz I n ρ) (hl : lz I n ρ b) (hf : 3 ≤ fr) (hlo : 100 ≤ lo) (hx : m_ok n ρ T) (he : e_ok n ρ T) (hOT : ∀ q, q < n → (I (100 + 6 * j + 3) q).toInt = (T (12 + q)).toInt ∧ 0 ≤ (I (100 + 6 * j + 3) q).toInt ∧ (I (100 + 6 * j + 3) q).toInt ≤ 1) (hXT : ∀ q, q < n → I (100 + 6 * j + 1) q = T q ∧ I (100 + 6 * j + 2) q = T (6 + q)) (hq : ∀ (g : ch_H) (I1 : zI) (v : Int32), v.toInt = r_M ρ b T n → (∀ q, q < n → I1 (100 + 6 * j + 1) q = Int32.ofInt (r_x ρ b q (T q).toInt (fr9 T q)) ∧ I1 (100 + 6 * j + 2) q = T (6 + q) + Int32.ofInt (r_s ρ b q (T q).toInt (fr9 T q))) → (∀ L, L ≠ (100 + 6 * j + 1) → L ≠ (100 + 6 * j + 2) → I1 L = I L) → zr zNC cA ad I1 W O g → zf zNC ad h g → Q (some (.int v)) g) : ww l D tys A X fr lo mX9_settle Q 0 [(0, .ref (ad 4)), (1, .ref (ad 2)), (2, .ref (ad (100 + 6 * j)))] [] h := by
  refine w_iconst (by decide) (tX9_settle_0_ok (0, .iconst 0, 1) (List.mem_of_getElem? (i := 0) rfl)) (fun zv1 ze2 => ?_)
  refine w_istore_n [(3, .int zv1), (0, .ref (ad 4)), (1, .ref (ad 2)), (2, .ref (ad (100 + 6 * j)))] rfl (Nat.le_of_ble_eq_true rfl) (tX9_settle_0_ok (1, .istore_n 3, 1) (List.mem_of_getElem? (i := 1) rfl)) ?_
  refine w_iconst (by decide) (tX9_settle_0_ok (2, .iconst 0, 1) (List.mem_of_getElem? (i := 2) rfl)) (fun zv3 ze4 => ?_)
  refine w_istore [(4, .int zv3), (3, .int zv1), (0, .ref (ad 4)), (1, .ref (ad 2)), (2, .ref (ad (100 + 6 * j)))] rfl (Nat.le_of_ble_eq_true rfl) (tX9_settle_0_ok (3, .istore 4, 2) (List.mem_of_getElem? (i := 3) rfl)) ?_
  refine w_lv [(3, .int zv1), (4, .int zv3), (0, .ref (ad 4)), (1, .ref (ad 2)), (2, .ref (ad (100 + 6 * j)))] (by intro q hq; simp only [List.mem_cons, List.not_mem_nil, or_false] at hq ⊢; rcases hq with e | e | e | e | e <;> subst e <;> simp) ?_
  have e6 : zv3.toInt.toNat = 0 := by omega
  exact z_seL hT hj_j hp.2.1 hf hlo hx he hOT n h I _ _ (by omega) (by omega) (by rw [e6]; show _ = (0 : Int); omega) (fun q hq => absurd hq (by omega)) (fun q h1 _ => hXT q h1) hp hl rfl hz hq
theorem z_isL (hT : k_tys tys cA) (hj_j : j < 10) {T : Nat → Int32} (hz : zr zNC cA ad I W O h) (hp : pz I n ρ) (hl : lz I n ρ b) (hf : 3 ≤ fr) (hlo : 100 ≤ lo) (hx : m_ok n ρ T) (hOT : ∀ q, q < n → (I (100 + 6 * j + 3) q).toInt = (T (12 + q)).toInt ∧ 0 ≤ (I (100 + 6 * j + 3) q).toInt ∧ (I (100 + 6 * j + 3) q).toInt ≤ 1) (hXT : ∀ q, q < n → I (100 + 6 * j + 1) q = T q ∧ I (100 + 6 * j + 2) q = T (6 + q)) (hq : ∀ v : Int32, (v.toInt = 1 ∧ (∀ q, q < n → r_x ρ b q (T q).toInt (fr9 T q) = (T q).toInt) ∨ v.toInt = 0 ∧ ¬ (∀ q, q < n → r_x ρ b q (T q).toInt (fr9 T q) = (T q).toInt)) → Q (some (.int v)) h) : ∀ (j9 : Nat) (p : Int32), p.toInt + j9 = n → 0 ≤ p.toInt → (∀ q, q < p.toInt.toNat → r_x ρ b q (T q).toInt (fr9 T q) = (T q).toInt) → ww l D tys A X fr lo mX9_isStill Q 2 [(3, .int p), (0, .ref (ad 4)), (1, .ref (ad 2)), (2, .ref (ad (100 + 6 * j)))] [] h := by
  intro j9
  induction j9 using Nat.strongRecOn with
  | ind j9 ih =>
    intro p hj9 hp0 hD
    have n6 := hp.2.1.1
    have r0 := hp.1
    refine w_iload_n (List.Mem.head _) (tX9_isStill_0_ok (2, .iload_n 3, 1) (List.mem_of_getElem? (i := 2) rfl)) ?_
    refine w_aload_n (List.Mem.tail _ (List.Mem.tail _ (List.Mem.head _))) (tX9_isStill_0_ok (3, .aload_n 1, 1) (List.mem_of_getElem? (i := 3) rfl)) ?_
    refine z_get (f := (I 2)) (own := 14) (k := 0) hz rfl rfl rfl rfl rfl rfl rfl (by decide) (tX9_isStill_0_ok (4, .getfield 21, 3) (List.mem_of_getElem? (i := 4) rfl)) ?_
    refine w_icmp_ge (tgt := 34) (tX9_isStill_0_ok (7, .if_icmp .ge 27, 3) (List.mem_of_getElem? (i := 5) rfl)) rfl (fun zb1 => ?_) (fun zb1 => ?_)
    · refine w_iconst (by decide) (tX9_isStill_0_ok (34, .iconst 1, 1) (List.mem_of_getElem? (i := 20) rfl)) (fun zv2 ze3 => ?_)
      refine w_zret rfl (by omega) (by omega) (tX9_isStill_0_ok (35, .ireturn, 1) (List.mem_of_getElem? (i := 21) rfl)) ?_
      exact hq _ (Or.inl ⟨by omega, fun q h1 => hD q (by omega)⟩)
    · have hp8 : p.toInt < (n : Int) := by omega
      have hp9 : p.toInt.toNat < n := by omega
      have xb9 := hx _ hp9
      have lb9 := (hp.2.1.2 _ hp9).1.2.1
      refine w_aload_n (List.Mem.tail _ (List.Mem.head _)) (tX9_isStill_0_ok (10, .aload_n 0, 1) (List.mem_of_getElem? (i := 6) rfl)) ?_
      refine w_aload_n (List.Mem.tail _ (List.Mem.tail _ (List.Mem.head _))) (tX9_isStill_0_ok (11, .aload_n 1, 1) (List.mem_of_getElem? (i := 7) rfl)) ?_
      refine w_aload_n (List.Mem.tail _ (List.Mem.tail _ (List.Mem.tail _ (List.Mem.head _)))) (tX9_isStill_0_ok (12, .aload_n 2, 1) (List.mem_of_getElem? (i := 8) rfl)) ?_
      refine w_iload_n (List.Mem.head _) (tX9_isStill_0_ok (13, .iload_n 3, 1) (List.mem_of_getElem? (i := 9) rfl)) ?_
      refine w_callV (own := 14) (mi := 96) [.ref (ad 2), .ref (ad (100 + 6 * j)), .int p] [] [(0, .ref (ad 4)), (1, .ref (ad 2)), (2, .ref (ad (100 + 6 * j))), (3, .int p)] rfl (cllw_X9 (105, 0, 96) (List.mem_of_getElem? (i := 10) rfl)) rfl rfl (hz.ob rfl rfl) rfl (by omega) (w_lo (n := 24) rfl (by omega)) (Nat.le_of_ble_eq_true rfl) (Nat.le_of_ble_eq_true rfl) rfl (tX9_isStill_0_ok (14, .invokevirtual 105, 3) (List.mem_of_getElem? (i := 10) rfl)) (z_restX1 hT hj_j (T := T) hz hp hl (by omega) (w_sub (n := 24) rfl (by omega)) ⟨hp0, hp8⟩ (hx _ hp9) (hOT _ hp9) (hXT _ hp9).1 (fun zv4 ze5 => ?_))
      show ww l D tys A X fr lo mX9_isStill Q 17 [(3, .int p), (0, .ref (ad 4)), (1, .ref (ad 2)), (2, .ref (ad (100 + 6 * j)))] [.int zv4] h
      refine w_aload_n (List.Mem.tail _ (List.Mem.tail _ (List.Mem.tail _ (List.Mem.head _)))) (tX9_isStill_0_ok (17, .aload_n 2, 1) (List.mem_of_getElem? (i := 11) rfl)) ?_
      refine z_getR (L1 := (100 + 6 * j + 1)) (own := 14) (k := 0) hz (zNC_s (k := 0) hj_j (by decide)) (zZ_s j) rfl rfl rfl rfl rfl (by decide) (tX9_isStill_0_ok (18, .getfield 88, 3) (List.mem_of_getElem? (i := 12) rfl)) ?_
      refine w_iload_n (List.Mem.head _) (tX9_isStill_0_ok (21, .iload_n 3, 1) (List.mem_of_getElem? (i := 13) rfl)) ?_
      refine z_iald (f := (I (100 + 6 * j + 1))) hT hz (zNC_s (k := 1) hj_j (by decide)) (zZ_s1 j) rfl (by omega) (by omega) (tX9_isStill_0_ok (22, .iaload, 1) (List.mem_of_getElem? (i := 14) rfl)) (fun zv6 zu7 => ?_)
      have ze8 : zv6.toInt = ((I (100 + 6 * j + 1)) p.toInt.toNat).toInt := congrArg _ zu7
      have yzv6 : zv6.toInt = (T p.toInt.toNat).toInt := by rw [zu7, (hXT _ hp9).1]
      refine w_icmp_eq (tgt := 28) (tX9_isStill_0_ok (23, .if_icmp .eq 5, 3) (List.mem_of_getElem? (i := 15) rfl)) rfl (fun zb9 => ?_) (fun zb9 => ?_)
      · refine w_iinc (fun zv10 => [(3, .int zv10), (0, .ref (ad 4)), (1, .ref (ad 2)), (2, .ref (ad (100 + 6 * j)))]) (fun _ => rfl) (List.Mem.head _) (Nat.le_of_ble_eq_true rfl) (by decide) (by omega) (by omega) (tX9_isStill_0_ok (28, .iinc 3 1, 3) (List.mem_of_getElem? (i := 18) rfl)) (fun zv10 ze11 => ?_)
        refine w_goto (tgt := 2) (tX9_isStill_0_ok (31, .goto (-29), 3) (List.mem_of_getElem? (i := 19) rfl)) rfl ?_
        refine w_lv [(3, .int zv10), (0, .ref (ad 4)), (1, .ref (ad 2)), (2, .ref (ad (100 + 6 * j)))] (by intro q hq; simp only [List.mem_cons, List.not_mem_nil, or_false] at hq ⊢; rcases hq with e | e | e | e <;> subst e <;> simp) ?_
        exact ih (j9 - 1) (by omega) _ (by omega) (by omega) (fun q h1 => by
          by_cases c : q = p.toInt.toNat
          · subst c
            omega
          · exact hD q (by omega))
      · refine w_iconst (by decide) (tX9_isStill_0_ok (26, .iconst 0, 1) (List.mem_of_getElem? (i := 16) rfl)) (fun zv12 ze13 => ?_)
        refine w_zret rfl (by omega) (by omega) (tX9_isStill_0_ok (27, .ireturn, 1) (List.mem_of_getElem? (i := 17) rfl)) ?_
        exact hq _ (Or.inr ⟨by omega, fun z => by have := z _ hp9; omega⟩)
theorem z_isStill (hT : k_tys tys cA) (hj_j : j < 10) {T : Nat → Int32} (hz : zr zNC cA ad I W O h) (hp : pz I n ρ) (hl : lz I n ρ b) (hf : 3 ≤ fr) (hlo : 100 ≤ lo) (hx : m_ok n ρ T) (hOT : ∀ q, q < n → (I (100 + 6 * j + 3) q).toInt = (T (12 + q)).toInt ∧ 0 ≤ (I (100 + 6 * j + 3) q).toInt ∧ (I (100 + 6 * j + 3) q).toInt ≤ 1) (hXT : ∀ q, q < n → I (100 + 6 * j + 1) q = T q ∧ I (100 + 6 * j + 2) q = T (6 + q)) (hq : ∀ v : Int32, (v.toInt = 1 ∧ (∀ q, q < n → r_x ρ b q (T q).toInt (fr9 T q) = (T q).toInt) ∨ v.toInt = 0 ∧ ¬ (∀ q, q < n → r_x ρ b q (T q).toInt (fr9 T q) = (T q).toInt)) → Q (some (.int v)) h) : ww l D tys A X fr lo mX9_isStill Q 0 [(0, .ref (ad 4)), (1, .ref (ad 2)), (2, .ref (ad (100 + 6 * j)))] [] h := by
  refine w_iconst (by decide) (tX9_isStill_0_ok (0, .iconst 0, 1) (List.mem_of_getElem? (i := 0) rfl)) (fun zv1 ze2 => ?_)
  refine w_istore_n [(3, .int zv1), (0, .ref (ad 4)), (1, .ref (ad 2)), (2, .ref (ad (100 + 6 * j)))] rfl (Nat.le_of_ble_eq_true rfl) (tX9_isStill_0_ok (1, .istore_n 3, 1) (List.mem_of_getElem? (i := 1) rfl)) ?_
  refine w_lv [(3, .int zv1), (0, .ref (ad 4)), (1, .ref (ad 2)), (2, .ref (ad (100 + 6 * j)))] (by intro q hq; simp only [List.mem_cons, List.not_mem_nil, or_false] at hq ⊢; rcases hq with e | e | e | e <;> subst e <;> simp) ?_
  exact z_isL hT hj_j hz hp hl hf hlo hx hOT hXT hq n _ (by omega) (by omega) (fun q h1 => absurd h1 (by omega))
theorem sub1 (a t : Int32) : a + t + 1 - 1 = a + t := by
  rw [Int32.sub_eq_add_neg, Int32.add_assoc, Int32.add_assoc]
  rw [show (1 : Int32) + -1 = 0 from rfl, Int32.add_zero]
theorem y_reL (hT : k_tys tys cA) {T : Nat → Int32} {d : Int64} {I0 : zI} (hf : 18 ≤ fr) (hlo : 470 ≤ lo) (hx : m_ok n ρ T) (he : e_ok n ρ T) : ∀ (j9 : Nat) (h : ch_H) (I : zI) (W : zW) (t : Int32), t.toInt + j9 = 21 → 0 ≤ t.toInt → t.toInt ≤ r_M ρ b T n → (∀ q, q < n → I 56 q = (m_g ρ b false n T d t.toInt.toNat).1 q ∧ I 56 (6 + q) = (m_g ρ b false n T d t.toInt.toNat).1 (6 + q)) → W 50 36 = d → qz I n ρ → yz I n pe b → (∀ q, q < n → I 56 (12 + q) = T (12 + q)) → I 56 38 = I0 56 38 + t → zr zNM cA ad I W O h → (∀ (g : ch_H) (I1 : zI) (v : Int32), v.toInt = r_M ρ b T n → (∀ q, q < n → I1 56 q = Int32.ofInt (r_x ρ b q (T q).toInt (fr9 T q)) ∧ I1 56 (6 + q) = T (6 + q) + Int32.ofInt (r_s ρ b q (T q).toInt (fr9 T q))) → (∀ k, 12 ≤ k → k ≠ 38 → I1 56 k = I 56 k) → I1 56 38 = I0 56 38 + v → (∀ L, L ≠ 56 → I1 L = I L) → (∃ W1 : zW, W1 50 36 = d ∧ (∀ L, L ≠ 50 → W1 L = W L) ∧ (∀ k, k ≠ 36 → W1 50 k = W 50 k) ∧ zr zNM cA ad I1 W1 O g) → zf zNM ad h g → Q (some (.int v)) g) → ww l D tys A X fr lo mX11_rests Q 2 [(1, .int t), (0, .ref (ad 50))] [] h := by
  intro j9
  induction j9 using Nat.strongRecOn with
  | ind j9 ih =>
    intro h I W t hj9 ht0 htM hXT hd hp hy hOT h38 hz hq
    have n6 := hp.2.1.1
    have mb := r_M_b (b := b) hx hp.2.1 n (Nat.le_refl _)
    refine w_aload_n (List.Mem.tail _ (List.Mem.head _)) (tX11_rests_0_ok (2, .aload_n 0, 1) (List.mem_of_getElem? (i := 2) rfl)) ?_
    refine w_iconst (by decide) (tX11_rests_0_ok (3, .iconst 0, 1) (List.mem_of_getElem? (i := 3) rfl)) (fun zv1 ze2 => ?_)
    refine w_callV (own := 16) (mi := 215) [.int zv1] [] [(0, .ref (ad 50)), (1, .int zv1)] rfl (cllw_X11 (307, 0, 215) (List.mem_of_getElem? (i := 42) rfl)) rfl rfl (hz.ob rfl rfl) rfl (by omega) (w_lo (n := 28) rfl (by omega)) (Nat.le_of_ble_eq_true rfl) (Nat.le_of_ble_eq_true rfl) rfl (tX11_rests_0_ok (4, .invokevirtual 307, 3) (List.mem_of_getElem? (i := 4) rfl)) (y_minute hT (T := (m_g ρ b false n T d t.toInt.toNat).1) (d := (m_g ρ b false n T d t.toInt.toNat).2.1) (slb := false) hz hp hy (by omega) (w_sub (n := 28) rfl (by omega)) (Or.inl ⟨by omega, rfl⟩) (m_g_ok hp.2.1 hx _) (fun q hq9 => ?_) hXT (hd.trans (m_g_no hp.2.1 hx _).2.symm) (fun g I1 W1 v y1 y2 y3 y4 y5 y6 y7 y8 => ?_))
    · rw [m_g_hi hp.2.1.1 _ _ (by omega)]
      exact hOT q hq9
    obtain ⟨y71, y72, y73⟩ := y7
    show ww l D tys A X fr lo mX11_rests Q 7 [(1, .int t), (0, .ref (ad 50))] [.int v] g
    have yc : v.toInt = m_cn ρ b (m_g ρ b false n T d t.toInt.toNat).1 n := by
      rw [y1, (m_k_no hp.2.1.1 (s := 0) n (Nat.le_refl _)).2.2]
      omega
    obtain ⟨c1, c2⟩ := m_g_cn (b := b) (d := d) hp.2.1 hx he t.toInt.toNat n (Nat.le_refl _)
    have y3d : W1 50 36 = d := y3.trans (((m_k_no hp.2.1.1 (s := 0) n (Nat.le_refl _)).2.1).trans (m_g_no hp.2.1 hx _).2)
    refine w_if_le (tgt := 16) (tX11_rests_0_ok (7, .ifCond .le 9, 3) (List.mem_of_getElem? (i := 5) rfl)) rfl (fun zb3 => ?_) (fun zb3 => ?_)
    · refine w_aload_n (List.Mem.tail _ (List.Mem.head _)) (tX11_rests_0_ok (16, .aload_n 0, 1) (List.mem_of_getElem? (i := 8) rfl)) ?_
      refine z_getR (L1 := 56) (own := 16) (k := 22) y73 rfl rfl rfl rfl rfl rfl rfl (by decide) (tX11_rests_0_ok (17, .getfield 45, 3) (List.mem_of_getElem? (i := 9) rfl)) ?_
      refine w_bipush (by decide) (tX11_rests_0_ok (20, .bipush 38, 2) (List.mem_of_getElem? (i := 10) rfl)) (fun zv4 ze5 => ?_)
      refine tt_dup2 rfl rfl (tX11_rests_0_ok (22, .dup2, 1) (List.mem_of_getElem? (i := 11) rfl)) ?_
      show ww l D tys A X fr lo mX11_rests Q 23 [(1, .int t), (0, .ref (ad 50))] [.int zv4, .ref (ad 56), .int zv4, .ref (ad 56)] g
      refine z_iald (f := (I1 56)) hT y73 rfl rfl rfl (by omega) (by omega) (tX11_rests_0_ok (23, .iaload, 1) (List.mem_of_getElem? (i := 12) rfl)) (fun zv6 zu7 => ?_)
      have ze8 : zv6.toInt = ((I1 56) zv4.toInt.toNat).toInt := congrArg _ zu7
      refine w_iconst (by decide) (tX11_rests_0_ok (24, .iconst 1, 1) (List.mem_of_getElem? (i := 13) rfl)) (fun zv9 ze10 => ?_)
      refine w_subE (tX11_rests_0_ok (25, .isub, 1) (List.mem_of_getElem? (i := 14) rfl)) (fun zv11 ze12 => ?_)
      refine z_iast (f := (I1 56)) hT y73 rfl rfl rfl (by omega) (by omega) (tX11_rests_0_ok (26, .iastore, 1) (List.mem_of_getElem? (i := 15) rfl)) (fun zh13 zI14 zq15 zz16 zf17 => ?_)
      refine w_iload_n (List.Mem.head _) (tX11_rests_0_ok (27, .iload_n 1, 1) (List.mem_of_getElem? (i := 16) rfl)) ?_
      refine w_iret rfl (tX11_rests_0_ok (28, .ireturn, 1) (List.mem_of_getElem? (i := 17) rfl)) ?_
      have eM : t.toInt.toNat = (r_M ρ b T n).toNat := by have := c2.mp (by omega); omega
      have eN := m_g_end (b := b) (d := d) (t := t.toInt.toNat) hp.2.1 hx he (c2.mp (by omega))
      have t8 : zv4.toInt.toNat = 38 := by omega
      have c3 := ((congrFun zq15 56).trans (s2_s _ _ _))
      rw [t8] at c3
      have ek : ∀ q, q < n → I1 56 q = I 56 q ∧ I1 56 (6 + q) = I 56 (6 + q) := fun q h1 => by
        obtain ⟨k1, -, -⟩ := m_k_no (ρ := ρ) (b := b) (T := (m_g ρ b false n T d t.toInt.toNat).1) (d := (m_g ρ b false n T d t.toInt.toNat).2.1) (s := 0) hp.2.1.1 n (Nat.le_refl _)
        have k2 := k1 q h1
        have i1 := (it_rs (b := b) (fe := fr9 T q) (hp.2.1.2 q h1).1 (he q h1) (hx q h1) t.toInt.toNat).1
        have i2 := (r_M_le n (by omega)).mp (c2.mp (by omega)) q h1
        obtain ⟨g1, -⟩ := m_g_no (b := b) (d := d) hp.2.1 hx t.toInt.toNat
        have hb := m_it_b (b := b) (fe := fr9 T q) (hp.2.1.2 q h1).1.2.1.2 (hx q h1) t.toInt.toNat
        have hw := (hp.2.1.2 q h1).1.2.1.2
        have et : ((m_g ρ b false n T d t.toInt.toNat).1 q).toInt = m_it ρ b q (T q).toInt (fr9 T q) t.toInt.toNat := by
          rw [(g1 q h1).1, ofInt_b (by omega)]
        rw [et, fr9_g hp.2.1.1] at k2
        rw [if_neg (by omega)] at i1
        have i3 : m_nx ρ b q (m_it ρ b q (T q).toInt (fr9 T q) t.toInt.toNat) (fr9 T q) = m_it ρ b q (T q).toInt (fr9 T q) t.toInt.toNat := by
          unfold mv9 at i1
          split at i1
          · assumption
          · omega
        rw [(y2 q h1).1, (y2 q h1).2, (hXT q h1).1, (hXT q h1).2, k2.1, k2.2, i1, i3, ← (g1 q h1).1]
        exact ⟨rfl, Int32.add_zero _⟩
      refine hq zh13 zI14 t (by omega) (fun q h1 => ?_) (fun k k1 k2 => ?_) ?_ (fun L9 n1 => ?_) ⟨W1, y3d, y4, y5, zz16⟩ (y8.tr zf17)
      · rw [c3, upd_n _ _ (by omega), upd_n _ _ (by omega), (ek q h1).1, (ek q h1).2, (hXT q h1).1, (hXT q h1).2]
        exact eN q h1
      · rw [c3, upd_n _ _ (by omega)]
        exact y72 k k1 k2
      · rw [c3, upd_s, ze12, zu7, t8, y71, h38, show zv9 = 1 from (kn_eq _ _).mpr (by rw [ze10]; rfl)]
        exact sub1 _ _
      · rw [zq15, s2_n n1]
        exact y6 L9 n1
    · refine w_iinc (fun zv18 => [(1, .int zv18), (0, .ref (ad 50))]) (fun _ => rfl) (List.Mem.head _) (Nat.le_of_ble_eq_true rfl) (by decide) (by omega) (by omega) (tX11_rests_0_ok (10, .iinc 1 1, 3) (List.mem_of_getElem? (i := 6) rfl)) (fun zv18 ze19 => ?_)
      refine w_goto (tgt := 2) (tX11_rests_0_ok (13, .goto (-11), 3) (List.mem_of_getElem? (i := 7) rfl)) rfl ?_
      refine w_lv [(1, .int zv18), (0, .ref (ad 50))] (by intro q hq; simp only [List.mem_cons, List.not_mem_nil, or_false] at hq ⊢; rcases hq with e | e <;> subst e <;> simp) ?_
      have ep : zv18.toInt.toNat = t.toInt.toNat + 1 := by omega
      have cM : zv18.toInt ≤ r_M ρ b T n := by
        have := mt c2.mpr (by omega)
        omega
      refine ih (j9 - 1) (by omega) g I1 W1 _ (by omega) (by omega) cM (by rw [ep]; exact y2) y3d (hp.mv (by rw [y6 50 (by decide)]) (y6 55 (by decide))) (hy.mv (by rw [y6 50 (by decide)]) (y6 55 (by decide)) (y6 62 (by decide)) (fun k k1 k2 => y72 k (by omega) (by omega))) (fun q h1 => (y72 _ (by omega) (by omega)).trans (hOT q h1)) ?_ y73 (fun g2 I2 v2 z1 z2 z3 z4 z5 z6 z7 => hq g2 I2 v2 z1 z2 (fun k k1 k2 => (z3 k k1 k2).trans (y72 k k1 k2)) z4 (fun L9 n1 => (z5 L9 n1).trans (y6 L9 n1)) ?_ (y8.tr z7))
      · rw [y71, h38, Int32.add_assoc]
        congr 1
        refine (kn_eq _ _).mpr ?_
        rw [fb_addI (by have := (show (1 : Int32).toInt = 1 from rfl); omega) (by have := (show (1 : Int32).toInt = 1 from rfl); omega)]
        have := (show (1 : Int32).toInt = 1 from rfl)
        omega
      · obtain ⟨W2, w1, w2, w3, w4⟩ := z6
        exact ⟨W2, w1, fun L9 n1 => (w2 L9 n1).trans (y4 L9 n1), fun k n1 => (w3 k n1).trans (y5 k n1), w4⟩
theorem y_rests (hT : k_tys tys cA) {T : Nat → Int32} {d : Int64} (hf : 18 ≤ fr) (hlo : 470 ≤ lo) (hx : m_ok n ρ T) (he : e_ok n ρ T) (hz : zr zNM cA ad I W O h) (hp : qz I n ρ) (hy : yz I n pe b) (hOT : ∀ q, q < n → I 56 (12 + q) = T (12 + q)) (hXT : ∀ q, q < n → I 56 q = T q ∧ I 56 (6 + q) = T (6 + q)) (hd : W 50 36 = d) (hq : ∀ (g : ch_H) (I1 : zI) (v : Int32), v.toInt = r_M ρ b T n → (∀ q, q < n → I1 56 q = Int32.ofInt (r_x ρ b q (T q).toInt (fr9 T q)) ∧ I1 56 (6 + q) = T (6 + q) + Int32.ofInt (r_s ρ b q (T q).toInt (fr9 T q))) → (∀ k, 12 ≤ k → k ≠ 38 → I1 56 k = I 56 k) → I1 56 38 = I 56 38 + v → (∀ L, L ≠ 56 → I1 L = I L) → (∃ W1 : zW, W1 50 36 = d ∧ (∀ L, L ≠ 50 → W1 L = W L) ∧ (∀ k, k ≠ 36 → W1 50 k = W 50 k) ∧ zr zNM cA ad I1 W1 O g) → zf zNM ad h g → Q (some (.int v)) g) : ww l D tys A X fr lo mX11_rests Q 0 [(0, .ref (ad 50))] [] h := by
  refine w_iconst (by decide) (tX11_rests_0_ok (0, .iconst 0, 1) (List.mem_of_getElem? (i := 0) rfl)) (fun zv1 ze2 => ?_)
  refine w_istore_n [(1, .int zv1), (0, .ref (ad 50))] rfl (Nat.le_of_ble_eq_true rfl) (tX11_rests_0_ok (1, .istore_n 1, 1) (List.mem_of_getElem? (i := 1) rfl)) ?_
  have e6 : zv1.toInt.toNat = 0 := by omega
  have mb := r_M_b (b := b) hx hp.2.1 n (Nat.le_refl _)
  exact y_reL hT (I0 := I) hf hlo hx he 21 h I W _ (by omega) (by omega) (by omega) (by rw [e6]; exact hXT) hd hp hy hOT (by rw [show zv1 = 0 from (kn_eq _ _).mpr (by rw [ze2]; rfl)]; exact (Int32.add_zero _).symm) hz hq
end
