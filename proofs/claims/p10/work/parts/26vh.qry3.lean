/-! MINUTES tried, no brake slips: the state aside, the TOWN that is put back; unseen, often (made by gen_qry3) -/
def k9_f (τ : aN) (φ : zP) (t : Nat) : mS := m_g φ.2.2.1 (kb τ φ) false τ.1 (φ.1 56) (φ.2.1 36) t
/-- the class's state aside after t MINUTES -/
def sdC (τ : aN) (φ : zP) (I0 : zI) (t : Nat) (I : zI) (W : zW) : Prop := pz I τ.1 φ.2.2.1 ∧ lz I τ.1 φ.2.2.1 (kb τ φ) ∧ (∀ q, q < τ.1 → I 107 q = (k9_f τ φ t).1 q ∧ I 108 q = (k9_f τ φ t).1 (6 + q)) ∧ (∀ q, q < τ.1 → (I 109 q).toInt = (φ.1 56 (12 + q)).toInt ∧ 0 ≤ (I 109 q).toInt ∧ (I 109 q).toInt ≤ 1) ∧ W 106 6 = (k9_f τ φ t).2.1 ∧ ∀ L, L ≠ 25 → L ≠ 26 → L < 106 ∨ 112 ≤ L → I L = I0 L
/-- the reference's TOWN after t MINUTES -/
def sdR (τ : aN) (φ : zP) (I0 : zI) (t : Nat) (I : zI) (W : zW) : Prop := qz I τ.1 φ.2.2.1 ∧ yz I τ.1 τ.2.2.1 (kb τ φ) ∧ (∀ q, q < τ.1 → I 56 q = (k9_f τ φ t).1 q ∧ I 56 (6 + q) = (k9_f τ φ t).1 (6 + q)) ∧ (∀ q, q < τ.1 → I 56 (12 + q) = φ.1 56 (12 + q)) ∧ W 50 36 = (k9_f τ φ t).2.1 ∧ ∀ L, L ≠ 56 → L ≠ 57 → I L = I0 L
/-- the first t with E, of the first k -/
def fs9 (E : Nat → Bool) : Nat → Int
  | 0 => -1
  | t + 1 => if fs9 E t = -1 ∧ E t = true then (t : Int) else fs9 E t
def ct9 (E : Nat → Bool) : Nat → Int
  | 0 => 0
  | t + 1 => if E t = true then ct9 E t + 1 else ct9 E t
def ls9 (E : Nat → Bool) : Nat → Int
  | 0 => -1
  | t + 1 => if E t = true then (t : Int) else ls9 E t
theorem fs9_y {E : Nat → Bool} {t : Nat} (h : fs9 E t = -1) (e : E t = true) : fs9 E (t + 1) = (t : Int) := if_pos ⟨h, e⟩
theorem fs9_n {E : Nat → Bool} {t : Nat} (h : ¬ (fs9 E t = -1 ∧ E t = true)) : fs9 E (t + 1) = fs9 E t := if_neg h
theorem fs9_k {E : Nat → Bool} {t : Nat} (h : ¬ fs9 E t = -1) : ∀ k, fs9 E (t + k) = fs9 E t
  | 0 => rfl
  | k + 1 => by
    have e := fs9_k h k
    rw [← e] at h
    exact (fs9_n (fun z => h z.1)).trans e
theorem fs9_b (E : Nat → Bool) : ∀ t : Nat, -1 ≤ fs9 E t ∧ fs9 E t < (t : Int)
  | 0 => by
    show (-1 : Int) ≤ -1 ∧ (-1 : Int) < ((0 : Nat) : Int)
    omega
  | t + 1 => by
    have := fs9_b E t
    by_cases c : fs9 E t = -1 ∧ E t = true
    · rw [fs9_y c.1 c.2]
      omega
    · rw [fs9_n c]
      omega
theorem ct9_y {E : Nat → Bool} {t : Nat} (e : E t = true) : ct9 E (t + 1) = ct9 E t + 1 := if_pos e
theorem ct9_n {E : Nat → Bool} {t : Nat} (e : ¬ E t = true) : ct9 E (t + 1) = ct9 E t := if_neg e
theorem ct9_b (E : Nat → Bool) : ∀ t : Nat, 0 ≤ ct9 E t ∧ ct9 E t ≤ (t : Int)
  | 0 => by
    show (0 : Int) ≤ 0 ∧ (0 : Int) ≤ ((0 : Nat) : Int)
    omega
  | t + 1 => by
    have := ct9_b E t
    by_cases c : E t = true
    · rw [ct9_y c]
      omega
    · rw [ct9_n c]
      omega
theorem ls9_y {E : Nat → Bool} {t : Nat} (e : E t = true) : ls9 E (t + 1) = (t : Int) := if_pos e
theorem ls9_n {E : Nat → Bool} {t : Nat} (e : ¬ E t = true) : ls9 E (t + 1) = ls9 E t := if_neg e
def e9_un (τ : aN) (φ : zP) (a b : Nat) (t : Nat) : Bool := decide (hT9 φ.2.2.1 (k9_f τ φ t).1 a = hT9 φ.2.2.1 (k9_f τ φ t).1 b)
abbrev c9_unseen (p q r : Int32) (τ : aN) : Prop := (0 ≤ p.toInt ∧ p.toInt < 2 * (τ.1 : Int)) ∧ (0 ≤ q.toInt ∧ q.toInt < 2 * (τ.1 : Int)) ∧ ¬ p.toInt = q.toInt ∧ 0 ≤ r.toInt ∧ r.toInt ≤ 60
def b9_unseen (p q r : Int32) (τ : aN) (φ : zP) (v : Option Value) : Prop := ∃ x : Int32, v = some (.int x) ∧ (c9_unseen p q r τ ∧ x.toInt = fs9 (e9_un τ φ p.toInt.toNat q.toInt.toNat) (r.toInt.toNat + 1) ∨ ¬ c9_unseen p q r τ ∧ x.toInt = -1000000)
def e9_of (τ : aN) (φ : zP) (a b : Nat) (t : Nat) : Bool := BSK φ.1 a b && decide (hP9 φ.2.2.1 (k9_f τ φ t).1 (GK φ.1) a = hP9 φ.2.2.1 (k9_f τ φ t).1 (GK φ.1) b)
abbrev c9_often (p q r s : Int32) (τ : aN) : Prop := c9_meet p q τ ∧ (0 ≤ r.toInt ∧ r.toInt ≤ 60) ∧ 0 ≤ s.toInt ∧ s.toInt ≤ 2
def q9_often (s : Int) (E : Nat → Bool) (k : Nat) : Int := if s = 0 then ct9 E k else if s = 1 then fs9 E k else ls9 E k
def b9_often (p q r s : Int32) (τ : aN) (φ : zP) (v : Option Value) : Prop := ∃ x : Int32, v = some (.int x) ∧ (c9_often p q r s τ ∧ x.toInt = q9_often s.toInt (e9_of τ φ p.toInt.toNat q.toInt.toNat) (r.toInt.toNat + 1) ∨ ¬ c9_often p q r s τ ∧ x.toInt = -1000000)
theorem un_unseen {p q r w1 w2 : Int32} {τ : aN} {φ : zP} (h1 : b9_unseen p q r τ φ (some (.int w1))) (h2 : b9_unseen p q r τ φ (some (.int w2))) : w1.toInt = w2.toInt := by
  obtain ⟨x1, e1, h1⟩ := h1
  cases e1
  obtain ⟨x2, e2, h2⟩ := h2
  cases e2
  exact un_9 (fun c d => d c) h1 h2
theorem un_often {p q r s w1 w2 : Int32} {τ : aN} {φ : zP} (h1 : b9_often p q r s τ φ (some (.int w1))) (h2 : b9_often p q r s τ φ (some (.int w2))) : w1.toInt = w2.toInt := by
  obtain ⟨x1, e1, h1⟩ := h1
  cases e1
  obtain ⟨x2, e2, h2⟩ := h2
  cases e2
  exact un_9 (fun c d => d c) h1 h2
section
variable {l : Launch} {D : va_G} {tys : List (ClassId × FieldType)} {A : Nat → Prop} {X : State → Prop} {fr lo : Nat} {M : ch_M} {Q : Option Value → ch_H → Prop} {pc : Nat} {lv : List (Nat × Value)} {st : List Value} {cA : Nat → ClassId} {h : ch_H} {ad : Nat → Nat} {I I1 : zI} {W W1 : zW} {O : zO} {n j pe ga : Nat} {T T1 : Nat → Int32} {d d1 : Int64} {τ : aN} {φ : zP} {I0 : zI} {W0 : zW} {t : Nat}
theorem z_sdm (hT : k_tys tys cA) (hk : kok τ φ) {sl9 : Int32} (hs : sdC τ φ I0 t I W) (hz : zr zNC cA ad I W O h) (h0 : sl9.toInt = 0) (hf : 2 ≤ fr) (hlo : 80 ≤ lo) (hq : ∀ (g : ch_H) (I1 : zI) (W1 : zW) (v : Int32), v.toInt = (m_k φ.2.2.1 (kb τ φ) false ((k9_f τ φ t).1, (k9_f τ φ t).2.1, 0) τ.1).2.2 → sdC τ φ I0 (t + 1) I1 W1 → zr zNC cA ad I1 W1 O g → Q (some (.int v)) g) : ww l D tys A X fr lo mX9_minute Q 0 [(0, .ref (ad 4)), (1, .ref (ad 2)), (2, .ref (ad 106)), (3, .int sl9)] [] h := by
  obtain ⟨a1, a2, a3, a4, a5, a6⟩ := hs
  have n6 := hk.1.1
  refine z_minute hT (j := 1) (by decide) (T := (k9_f τ φ t).1) (d := (k9_f τ φ t).2.1) (slb := false) hz a1 a2 hf hlo (Or.inl ⟨h0, rfl⟩) (m_g_ok hk.1 hk.2.1.1 t) (fun q hq9 => ?_) a3 a5 (fun g I1 W1 v z1 z2 z3 z4 z5 z6 z7 z8 => ?_)
  · rw [show (k9_f τ φ t).1 (12 + q) = φ.1 56 (12 + q) from m_g_hi n6 _ _ (by omega)]
    exact a4 q hq9
  · refine hq g I1 W1 v z1 ⟨a1.mv (fun L hL => z6 L (by omega) (by omega)), a2.mv (z6 26 (by decide) (by decide)), z2, fun q hq9 => ?_, z3, fun L n1 n2 n3 => (z6 L (by omega) (by omega)).trans (a6 L n1 n2 n3)⟩ z7
    rw [z6 109 (by decide) (by decide)]
    exact a4 q hq9
theorem y_sdm (hT : k_tys tys cA) (hk : kok τ φ) {sl9 : Int32} (hs : sdR τ φ I0 t I W) (hz : zr zNM cA ad I W O h) (h0 : sl9.toInt = 0) (hf : 17 ≤ fr) (hlo : 440 ≤ lo) (hq : ∀ (g : ch_H) (I1 : zI) (W1 : zW) (v : Int32), v.toInt = (m_k φ.2.2.1 (kb τ φ) false ((k9_f τ φ t).1, (k9_f τ φ t).2.1, 0) τ.1).2.2 → sdR τ φ I0 (t + 1) I1 W1 → zr zNM cA ad I1 W1 O g → Q (some (.int v)) g) : ww l D tys A X fr lo mX11_minute Q 0 [(0, .ref (ad 50)), (1, .int sl9)] [] h := by
  obtain ⟨a1, a2, a3, a4, a5, a6⟩ := hs
  have n6 := hk.1.1
  refine y_minute hT (T := (k9_f τ φ t).1) (d := (k9_f τ φ t).2.1) (slb := false) hz a1 a2 hf hlo (Or.inl ⟨h0, rfl⟩) (m_g_ok hk.1 hk.2.1.1 t) (fun q hq9 => ?_) a3 a5 (fun g I1 W1 v z1 z2 z3 z4 z5 z6 z7 z8 => ?_)
  · rw [show (k9_f τ φ t).1 (12 + q) = φ.1 56 (12 + q) from m_g_hi n6 _ _ (by omega)]
    exact a4 q hq9
  · obtain ⟨z71, z72, z73⟩ := z7
    refine hq g I1 W1 v z1 ⟨a1.mv (by rw [z6 50 (by decide)]) (z6 55 (by decide)), a2.mv (by rw [z6 50 (by decide)]) (z6 55 (by decide)) (z6 62 (by decide)) (fun k b1 b2 => z72 k (by omega) (by omega)), z2, fun q hq9 => ?_, z3, fun L n1 n2 => (z6 L n1).trans (a6 L n1 n2)⟩ z73
    rw [z72 _ (by omega) (by omega)]
    exact a4 q hq9
theorem z_setAside (hT : k_tys tys cA) (hz : zr zNC cA ad I W O h) (hk : kok τ φ) (H : cS τ φ I W) (hf : 24 ≤ fr) (hlo : 700 ≤ lo) (hq : ∀ (g : ch_H) (I1 : zI) (W1 : zW), sdC τ φ I 0 I1 W1 → zr zNC cA ad I1 W1 O g → Q none g) : ww l D tys A X fr lo mX10_setAside Q 0 [(0, .ref (ad 0))] [] h := by
  have n6 := hk.1.1
  obtain ⟨ga6, pe8, ta6⟩ := hk.2.2.2.1
  obtain ⟨h1, ⟨h21, h22, h23⟩, h3, h4, h5, h6, h7, h8, h9, h10, h11⟩ := id H
  have r0 := h1.1
  refine w_aload_n (List.Mem.head _) (tX10_setAside_0_ok (0, .aload_n 0, 1) (List.mem_of_getElem? (i := 0) rfl)) ?_
  refine z_getR (L1 := 106) (own := 15) (k := 4) hz rfl rfl rfl rfl rfl rfl rfl (by decide) (tX10_setAside_0_ok (1, .getfield 33, 3) (List.mem_of_getElem? (i := 1) rfl)) ?_
  refine w_aload_n (List.Mem.head _) (tX10_setAside_0_ok (4, .aload_n 0, 1) (List.mem_of_getElem? (i := 2) rfl)) ?_
  refine z_getR (L1 := 100) (own := 15) (k := 3) hz rfl rfl rfl rfl rfl rfl rfl (by decide) (tX10_setAside_0_ok (5, .getfield 29, 3) (List.mem_of_getElem? (i := 3) rfl)) ?_
  refine w_callV (own := 15) (mi := 70) [.ref (ad 100)] [] [(0, .ref (ad 106)), (1, .ref (ad 100))] rfl (cllw_X10 (231, 0, 70) (List.mem_of_getElem? (i := 24) rfl)) rfl rfl (hz.ob rfl rfl) rfl (by omega) (w_lo (n := 22) rfl (by omega)) (Nat.le_of_ble_eq_true rfl) (Nat.le_of_ble_eq_true rfl) rfl (tX10_setAside_0_ok (8, .invokevirtual 231, 3) (List.mem_of_getElem? (i := 4) rfl)) (z_take hT (j := 1) (i := 0) (by decide) (by decide) (by decide) hz (by omega) (w_sub (n := 22) rfl (by omega)) (fun q hq9 => h3.2.2.2.2.2 q hq9) (fun g1 I1 W1 t1 t2 t3 t4 t5 t6 t7 t8 t9 => ?_))
  show ww l D tys A X fr lo mX10_setAside Q 11 [(0, .ref (ad 0))] [] g1
  refine w_aload_n (List.Mem.head _) (tX10_setAside_0_ok (11, .aload_n 0, 1) (List.mem_of_getElem? (i := 5) rfl)) ?_
  refine z_getR (L1 := 4) (own := 15) (k := 9) t8 rfl rfl rfl rfl rfl rfl rfl (by decide) (tX10_setAside_0_ok (12, .getfield 49, 3) (List.mem_of_getElem? (i := 6) rfl)) ?_
  refine w_aload_n (List.Mem.head _) (tX10_setAside_0_ok (15, .aload_n 0, 1) (List.mem_of_getElem? (i := 7) rfl)) ?_
  refine z_getR (L1 := 2) (own := 15) (k := 1) t8 rfl rfl rfl rfl rfl rfl rfl (by decide) (tX10_setAside_0_ok (16, .getfield 19, 3) (List.mem_of_getElem? (i := 8) rfl)) ?_
  refine w_aload_n (List.Mem.head _) (tX10_setAside_0_ok (19, .aload_n 0, 1) (List.mem_of_getElem? (i := 9) rfl)) ?_
  refine z_getR (L1 := 106) (own := 15) (k := 4) t8 rfl rfl rfl rfl rfl rfl rfl (by decide) (tX10_setAside_0_ok (20, .getfield 33, 3) (List.mem_of_getElem? (i := 10) rfl)) ?_
  refine w_aload_n (List.Mem.head _) (tX10_setAside_0_ok (23, .aload_n 0, 1) (List.mem_of_getElem? (i := 11) rfl)) ?_
  refine z_getR (L1 := 3) (own := 15) (k := 8) t8 rfl rfl rfl rfl rfl rfl rfl (by decide) (tX10_setAside_0_ok (24, .getfield 42, 3) (List.mem_of_getElem? (i := 12) rfl)) ?_
  refine w_callV (own := 15) (mi := 100) [.ref (ad 2), .ref (ad 106), .ref (ad 3)] [] [(0, .ref (ad 4)), (1, .ref (ad 2)), (2, .ref (ad 106)), (3, .ref (ad 3))] rfl (cllw_X10 (194, 0, 100) (List.mem_of_getElem? (i := 12) rfl)) rfl rfl (t8.ob rfl rfl) rfl (by omega) (w_lo (n := 28) rfl (by omega)) (Nat.le_of_ble_eq_true rfl) (Nat.le_of_ble_eq_true rfl) rfl (tX10_setAside_0_ok (27, .invokevirtual 194, 3) (List.mem_of_getElem? (i := 13) rfl)) (z_weigh hT (j := 1) (T := φ.1 56) (Wt := φ.1 62) (by decide) t8 (h1.mv (fun L hL => t6 L (by omega))) ⟨by rw [t6 3 (by decide)]; exact h22, pe8⟩ hk.bo (fun q hq9 => (t2 q hq9).trans (h3.2.1 q hq9)) (fun i hi => (t3 i (by omega)).trans (h3.2.2.1 i hi)) (fun i hi => by rw [t6 22 (by decide)]; exact h6 i hi) (by omega) (w_sub (n := 28) rfl (by omega)) (fun g2 I2 w1 w2 w3 w4 w5 => ?_))
  show ww l D tys A X fr lo mX10_setAside Q 30 [(0, .ref (ad 0))] [] g2
  refine w_vret rfl (tX10_setAside_0_ok (30, .return_, 1) (List.mem_of_getElem? (i := 14) rfl)) ?_
  refine hq g2 I2 W1 ⟨h1.mv (fun L hL => (w3 L (by omega) (by omega)).trans (t6 L (by omega))), w2, fun q hq9 => ⟨?_, ?_⟩, fun q hq9 => ?_, t5.trans h3.2.2.2.2.1, fun L n1 n2 n3 => (w3 L n1 n2).trans (t6 L n3)⟩ w4
  · rw [w3 107 (by decide) (by decide)]
    exact (t1 q (by omega)).1.trans (h3.1 q hq9).1
  · rw [w3 108 (by decide) (by decide)]
    exact (t1 q (by omega)).2.1.trans (h3.1 q hq9).2.1
  · rw [w3 109 (by decide) (by decide), show I1 109 q = I 103 q from (t1 q (by omega)).2.2]
    have e9 : I 103 q = φ.1 56 (12 + q) := (h3.1 q hq9).2.2
    rw [e9]
    exact ⟨rfl, by have := h3.2.2.2.2.2 q (by omega); rw [← e9]; exact this⟩
theorem y_kpsL (hT : k_tys tys cA) (hf : 1 ≤ fr) (hq : ∀ (g : ch_H) (I1 : zI) (W1 : zW), (∀ L, L ≠ 57 → I1 L = I0 L) → W1 50 36 = W 50 36 → zr zNM cA ad I1 W1 O g → Q none g) : ∀ (j9 : Nat) (h : ch_H) (I : zI) (i : Int32), i.toInt + j9 = 39 → 0 ≤ i.toInt → (∀ L, L ≠ 57 → I L = I0 L) → zr zNM cA ad I W O h → ww l D tys A X fr lo mX11_keeps Q 2 [(1, .int i), (0, .ref (ad 50))] [] h := by
  intro j9
  induction j9 using Nat.strongRecOn with
  | ind j9 ih =>
    intro h I i hj9 hi0 hI hz
    refine w_iload_n (List.Mem.head _) (tX11_keeps_0_ok (2, .iload_n 1, 1) (List.mem_of_getElem? (i := 2) rfl)) ?_
    refine w_bipush (by decide) (tX11_keeps_0_ok (3, .bipush 39, 2) (List.mem_of_getElem? (i := 3) rfl)) (fun zv1 ze2 => ?_)
    refine w_icmp_ge (tgt := 26) (tX11_keeps_0_ok (5, .if_icmp .ge 21, 3) (List.mem_of_getElem? (i := 4) rfl)) rfl (fun zb3 => ?_) (fun zb3 => ?_)
    · refine w_aload_n (List.Mem.tail _ (List.Mem.head _)) (tX11_keeps_0_ok (26, .aload_n 0, 1) (List.mem_of_getElem? (i := 15) rfl)) ?_
      refine w_aload_n (List.Mem.tail _ (List.Mem.head _)) (tX11_keeps_0_ok (27, .aload_n 0, 1) (List.mem_of_getElem? (i := 16) rfl)) ?_
      refine z_getJ (own := 16) (k := 36) hz rfl rfl rfl rfl rfl rfl rfl (by decide) (tX11_keeps_0_ok (28, .getfield 270, 3) (List.mem_of_getElem? (i := 17) rfl)) ?_
      refine z_putJ (w := (W 50)) (own := 16) (k := 37) hz rfl rfl rfl rfl rfl rfl rfl (by decide) rfl ⟨rfl, rfl⟩ (tX11_keeps_0_ok (31, .putfield 314, 3) (List.mem_of_getElem? (i := 18) rfl)) (fun zh4 zI5 zq6 zz7 zf8 => ?_)
      refine w_vret rfl (tX11_keeps_0_ok (34, .return_, 1) (List.mem_of_getElem? (i := 19) rfl)) ?_
      refine hq zh4 I zI5 hI ?_ zz7
      have cw : zI5 50 = (wpd (W 50) 37 ((W 50) 36)) := ((congrFun zq6 50).trans (s2_s _ _ _))
      rw [cw, wpd_n _ _ (by decide)]
    · refine w_aload_n (List.Mem.tail _ (List.Mem.head _)) (tX11_keeps_0_ok (8, .aload_n 0, 1) (List.mem_of_getElem? (i := 5) rfl)) ?_
      refine z_getR (L1 := 57) (own := 16) (k := 23) hz rfl rfl rfl rfl rfl rfl rfl (by decide) (tX11_keeps_0_ok (9, .getfield 48, 3) (List.mem_of_getElem? (i := 6) rfl)) ?_
      refine w_iload_n (List.Mem.head _) (tX11_keeps_0_ok (12, .iload_n 1, 1) (List.mem_of_getElem? (i := 7) rfl)) ?_
      refine w_aload_n (List.Mem.tail _ (List.Mem.head _)) (tX11_keeps_0_ok (13, .aload_n 0, 1) (List.mem_of_getElem? (i := 8) rfl)) ?_
      refine z_getR (L1 := 56) (own := 16) (k := 22) hz rfl rfl rfl rfl rfl rfl rfl (by decide) (tX11_keeps_0_ok (14, .getfield 45, 3) (List.mem_of_getElem? (i := 9) rfl)) ?_
      refine w_iload_n (List.Mem.head _) (tX11_keeps_0_ok (17, .iload_n 1, 1) (List.mem_of_getElem? (i := 10) rfl)) ?_
      refine z_iald (f := (I 56)) hT hz rfl rfl rfl (by omega) (by omega) (tX11_keeps_0_ok (18, .iaload, 1) (List.mem_of_getElem? (i := 11) rfl)) (fun zv9 zu10 => ?_)
      have ze11 : zv9.toInt = ((I 56) i.toInt.toNat).toInt := congrArg _ zu10
      refine z_iast (f := (I 57)) hT hz rfl rfl rfl (by omega) (by omega) (tX11_keeps_0_ok (19, .iastore, 1) (List.mem_of_getElem? (i := 12) rfl)) (fun zh12 zI13 zq14 zz15 zf16 => ?_)
      refine w_iinc (fun zv17 => [(1, .int zv17), (0, .ref (ad 50))]) (fun _ => rfl) (List.Mem.head _) (Nat.le_of_ble_eq_true rfl) (by decide) (by omega) (by omega) (tX11_keeps_0_ok (20, .iinc 1 1, 3) (List.mem_of_getElem? (i := 13) rfl)) (fun zv17 ze18 => ?_)
      refine w_goto (tgt := 2) (tX11_keeps_0_ok (23, .goto (-21), 3) (List.mem_of_getElem? (i := 14) rfl)) rfl ?_
      refine w_lv [(1, .int zv17), (0, .ref (ad 50))] (by intro q hq; simp only [List.mem_cons, List.not_mem_nil, or_false] at hq ⊢; rcases hq with e | e <;> subst e <;> simp) ?_
      exact ih (j9 - 1) (by omega) zh12 zI13 _ (by omega) (by omega) (fun L n1 => by rw [zq14, s2_n n1]; exact hI L n1) zz15
theorem y_kps (hT : k_tys tys cA) (hz : zr zNM cA ad I W O h) (hf : 1 ≤ fr) (hq : ∀ (g : ch_H) (I1 : zI) (W1 : zW), (∀ L, L ≠ 57 → I1 L = I L) → W1 50 36 = W 50 36 → zr zNM cA ad I1 W1 O g → Q none g) : ww l D tys A X fr lo mX11_keeps Q 0 [(0, .ref (ad 50))] [] h := by
  refine w_iconst (by decide) (tX11_keeps_0_ok (0, .iconst 0, 1) (List.mem_of_getElem? (i := 0) rfl)) (fun zv1 ze2 => ?_)
  refine w_istore_n [(1, .int zv1), (0, .ref (ad 50))] rfl (Nat.le_of_ble_eq_true rfl) (tX11_keeps_0_ok (1, .istore_n 1, 1) (List.mem_of_getElem? (i := 1) rfl)) ?_
  refine w_lv [(1, .int zv1), (0, .ref (ad 50))] (by intro q hq; simp only [List.mem_cons, List.not_mem_nil, or_false] at hq ⊢; rcases hq with e | e <;> subst e <;> simp) ?_
  exact y_kpsL (I0 := I) hT hf hq 39 h I _ (by omega) (by omega) (fun _ _ => rfl) hz
theorem rS.sd (hk : kok τ φ) (H : rS τ φ I0 W0) (hbo : bo (I0 55) (I0 56) (I0 62) τ.2.2.1 τ.1) (e : ∀ L, L ≠ 57 → I L = I0 L) (ew : W 50 36 = W0 50 36) : sdR τ φ I0 0 I W := by
  have hy := H.yz_ hk.1.1 hbo
  obtain ⟨h1, -, ⟨h3, h32⟩, -⟩ := H
  refine ⟨h1.mv (by rw [e 50 (by decide)]) (e 55 (by decide)), hy.mv (by rw [e 50 (by decide)]) (e 55 (by decide)) (e 62 (by decide)) (fun k _ _ => by rw [e 56 (by decide)]), fun q hq => ?_, fun q hq => ?_, ew.trans h32, fun L _ n => e L n⟩
  · rw [e 56 (by decide)]
    exact ⟨(h3.1 q hq).1, (h3.1 q hq).2.1⟩
  · rw [e 56 (by decide)]
    exact (h3.1 q hq).2.2
theorem z9q_unL (hT : k_tys tys cA) {p q r : Int32} (hk : kok τ φ) (hc : c9_unseen p q r τ) (hf : 20 ≤ fr) (hlo : 400 ≤ lo) (hq : ∀ (g : ch_H) (v : Int32), v.toInt = fs9 (e9_un τ φ p.toInt.toNat q.toInt.toNat) (r.toInt.toNat + 1) → Q (some (.int v)) g) : ∀ (j9 : Nat) (h : ch_H) (I : zI) (W : zW) (t9 : Int32), t9.toInt + j9 = r.toInt + 1 → 0 ≤ t9.toInt → sdC τ φ I0 t9.toInt.toNat I W → fs9 (e9_un τ φ p.toInt.toNat q.toInt.toNat) t9.toInt.toNat = -1 → zr zNC cA ad I W O h → ww l D tys A X fr lo mX10_unseen Q 39 [(4, .int t9), (0, .ref (ad 0)), (1, .int p), (2, .int q), (3, .int r)] [] h := by
  obtain ⟨c1, c2, c3, c4, c5⟩ := hc
  intro j9
  induction j9 using Nat.strongRecOn with
  | ind j9 ih =>
    intro h I W t9 hj9 ht0 hs hn hz
    have n6 := hk.1.1
    obtain ⟨a1, a2, a3, a4, a5, a6⟩ := id hs
    refine w_iload (List.Mem.head _) (tX10_unseen_0_ok (39, .iload 4, 2) (List.mem_of_getElem? (i := 21) rfl)) ?_
    refine w_iload_n (List.Mem.tail _ (List.Mem.tail _ (List.Mem.tail _ (List.Mem.tail _ (List.Mem.head _))))) (tX10_unseen_0_ok (41, .iload_n 3, 1) (List.mem_of_getElem? (i := 22) rfl)) ?_
    refine w_icmp_gt (tgt := 114) (tX10_unseen_0_ok (42, .if_icmp .gt 72, 3) (List.mem_of_getElem? (i := 23) rfl)) rfl (fun zb1 => ?_) (fun zb1 => ?_)
    · refine w_iconst (by decide) (tX10_unseen_0_ok (114, .iconst (-1), 1) (List.mem_of_getElem? (i := 58) rfl)) (fun zv2 ze3 => ?_)
      refine w_iret rfl (tX10_unseen_0_ok (115, .ireturn, 1) (List.mem_of_getElem? (i := 59) rfl)) ?_
      exact hq _ _ (by rw [show r.toInt.toNat + 1 = t9.toInt.toNat by omega, hn]; omega)
    · refine w_aload_n (List.Mem.tail _ (List.Mem.head _)) (tX10_unseen_0_ok (45, .aload_n 0, 1) (List.mem_of_getElem? (i := 24) rfl)) ?_
      refine z_getR (L1 := 4) (own := 15) (k := 9) hz rfl rfl rfl rfl rfl rfl rfl (by decide) (tX10_unseen_0_ok (46, .getfield 49, 3) (List.mem_of_getElem? (i := 25) rfl)) ?_
      refine w_aload_n (List.Mem.tail _ (List.Mem.head _)) (tX10_unseen_0_ok (49, .aload_n 0, 1) (List.mem_of_getElem? (i := 26) rfl)) ?_
      refine z_getR (L1 := 2) (own := 15) (k := 1) hz rfl rfl rfl rfl rfl rfl rfl (by decide) (tX10_unseen_0_ok (50, .getfield 19, 3) (List.mem_of_getElem? (i := 27) rfl)) ?_
      refine w_aload_n (List.Mem.tail _ (List.Mem.head _)) (tX10_unseen_0_ok (53, .aload_n 0, 1) (List.mem_of_getElem? (i := 28) rfl)) ?_
      refine z_getR (L1 := 106) (own := 15) (k := 4) hz rfl rfl rfl rfl rfl rfl rfl (by decide) (tX10_unseen_0_ok (54, .getfield 33, 3) (List.mem_of_getElem? (i := 29) rfl)) ?_
      refine w_aload_n (List.Mem.tail _ (List.Mem.head _)) (tX10_unseen_0_ok (57, .aload_n 0, 1) (List.mem_of_getElem? (i := 30) rfl)) ?_
      refine z_getR (L1 := 3) (own := 15) (k := 8) hz rfl rfl rfl rfl rfl rfl rfl (by decide) (tX10_unseen_0_ok (58, .getfield 42, 3) (List.mem_of_getElem? (i := 31) rfl)) ?_
      refine w_iload_n (List.Mem.tail _ (List.Mem.tail _ (List.Mem.head _))) (tX10_unseen_0_ok (61, .iload_n 1, 1) (List.mem_of_getElem? (i := 32) rfl)) ?_
      refine w_callV (own := 15) (mi := 89) [.ref (ad 2), .ref (ad 106), .ref (ad 3), .int p] [] [(0, .ref (ad 4)), (1, .ref (ad 2)), (2, .ref (ad 106)), (3, .ref (ad 3)), (4, .int p)] rfl (cllw_X10 (215, 0, 89) (List.mem_of_getElem? (i := 10) rfl)) rfl rfl (hz.ob rfl rfl) rfl (by omega) (w_lo (n := 27) rfl (by omega)) (Nat.le_of_ble_eq_true rfl) (Nat.le_of_ble_eq_true rfl) rfl (tX10_unseen_0_ok (62, .invokevirtual 215, 3) (List.mem_of_getElem? (i := 33) rfl)) (z_heightR hT (j := 1) (by decide) (T := (k9_f τ φ t9.toInt.toNat).1) hz a1 (m_g_ok hk.1 hk.2.1.1 _) (fun q hq9 => (a3 q hq9).1) (by omega) (w_sub (n := 27) rfl (by omega)) ⟨by omega, by omega⟩ (fun zv4 ze5 => ?_))
      show ww l D tys A X fr lo mX10_unseen Q 65 [(4, .int t9), (0, .ref (ad 0)), (1, .int p), (2, .int q), (3, .int r)] [.int zv4] h
      refine w_aload_n (List.Mem.tail _ (List.Mem.head _)) (tX10_unseen_0_ok (65, .aload_n 0, 1) (List.mem_of_getElem? (i := 34) rfl)) ?_
      refine z_getR (L1 := 4) (own := 15) (k := 9) hz rfl rfl rfl rfl rfl rfl rfl (by decide) (tX10_unseen_0_ok (66, .getfield 49, 3) (List.mem_of_getElem? (i := 35) rfl)) ?_
      refine w_aload_n (List.Mem.tail _ (List.Mem.head _)) (tX10_unseen_0_ok (69, .aload_n 0, 1) (List.mem_of_getElem? (i := 36) rfl)) ?_
      refine z_getR (L1 := 2) (own := 15) (k := 1) hz rfl rfl rfl rfl rfl rfl rfl (by decide) (tX10_unseen_0_ok (70, .getfield 19, 3) (List.mem_of_getElem? (i := 37) rfl)) ?_
      refine w_aload_n (List.Mem.tail _ (List.Mem.head _)) (tX10_unseen_0_ok (73, .aload_n 0, 1) (List.mem_of_getElem? (i := 38) rfl)) ?_
      refine z_getR (L1 := 106) (own := 15) (k := 4) hz rfl rfl rfl rfl rfl rfl rfl (by decide) (tX10_unseen_0_ok (74, .getfield 33, 3) (List.mem_of_getElem? (i := 39) rfl)) ?_
      refine w_aload_n (List.Mem.tail _ (List.Mem.head _)) (tX10_unseen_0_ok (77, .aload_n 0, 1) (List.mem_of_getElem? (i := 40) rfl)) ?_
      refine z_getR (L1 := 3) (own := 15) (k := 8) hz rfl rfl rfl rfl rfl rfl rfl (by decide) (tX10_unseen_0_ok (78, .getfield 42, 3) (List.mem_of_getElem? (i := 41) rfl)) ?_
      refine w_iload_n (List.Mem.tail _ (List.Mem.tail _ (List.Mem.tail _ (List.Mem.head _)))) (tX10_unseen_0_ok (81, .iload_n 2, 1) (List.mem_of_getElem? (i := 42) rfl)) ?_
      refine w_callV (own := 15) (mi := 89) [.ref (ad 2), .ref (ad 106), .ref (ad 3), .int q] [.int zv4] [(0, .ref (ad 4)), (1, .ref (ad 2)), (2, .ref (ad 106)), (3, .ref (ad 3)), (4, .int q)] rfl (cllw_X10 (215, 0, 89) (List.mem_of_getElem? (i := 10) rfl)) rfl rfl (hz.ob rfl rfl) rfl (by omega) (w_lo (n := 27) rfl (by omega)) (Nat.le_of_ble_eq_true rfl) (Nat.le_of_ble_eq_true rfl) rfl (tX10_unseen_0_ok (82, .invokevirtual 215, 3) (List.mem_of_getElem? (i := 43) rfl)) (z_heightR hT (j := 1) (by decide) (T := (k9_f τ φ t9.toInt.toNat).1) hz a1 (m_g_ok hk.1 hk.2.1.1 _) (fun q hq9 => (a3 q hq9).1) (by omega) (w_sub (n := 27) rfl (by omega)) ⟨by omega, by omega⟩ (fun zv6 ze7 => ?_))
      show ww l D tys A X fr lo mX10_unseen Q 85 [(4, .int t9), (0, .ref (ad 0)), (1, .int p), (2, .int q), (3, .int r)] [.int zv6, .int zv4] h
      refine w_icmp_ne (tgt := 91) (tX10_unseen_0_ok (85, .if_icmp .ne 6, 3) (List.mem_of_getElem? (i := 44) rfl)) rfl (fun zb8 => ?_) (fun zb8 => ?_)
      · refine w_aload_n (List.Mem.tail _ (List.Mem.head _)) (tX10_unseen_0_ok (91, .aload_n 0, 1) (List.mem_of_getElem? (i := 47) rfl)) ?_
        refine z_getR (L1 := 4) (own := 15) (k := 9) hz rfl rfl rfl rfl rfl rfl rfl (by decide) (tX10_unseen_0_ok (92, .getfield 49, 3) (List.mem_of_getElem? (i := 48) rfl)) ?_
        refine w_aload_n (List.Mem.tail _ (List.Mem.head _)) (tX10_unseen_0_ok (95, .aload_n 0, 1) (List.mem_of_getElem? (i := 49) rfl)) ?_
        refine z_getR (L1 := 2) (own := 15) (k := 1) hz rfl rfl rfl rfl rfl rfl rfl (by decide) (tX10_unseen_0_ok (96, .getfield 19, 3) (List.mem_of_getElem? (i := 50) rfl)) ?_
        refine w_aload_n (List.Mem.tail _ (List.Mem.head _)) (tX10_unseen_0_ok (99, .aload_n 0, 1) (List.mem_of_getElem? (i := 51) rfl)) ?_
        refine z_getR (L1 := 106) (own := 15) (k := 4) hz rfl rfl rfl rfl rfl rfl rfl (by decide) (tX10_unseen_0_ok (100, .getfield 33, 3) (List.mem_of_getElem? (i := 52) rfl)) ?_
        refine w_iconst (by decide) (tX10_unseen_0_ok (103, .iconst 0, 1) (List.mem_of_getElem? (i := 53) rfl)) (fun zv9 ze10 => ?_)
        refine w_callV (own := 15) (mi := 94) [.ref (ad 2), .ref (ad 106), .int zv9] [] [(0, .ref (ad 4)), (1, .ref (ad 2)), (2, .ref (ad 106)), (3, .int zv9)] rfl (cllw_X10 (284, 0, 94) (List.mem_of_getElem? (i := 27) rfl)) rfl rfl (hz.ob rfl rfl) rfl (by omega) (w_lo (n := 27) rfl (by omega)) (Nat.le_of_ble_eq_true rfl) (Nat.le_of_ble_eq_true rfl) rfl (tX10_unseen_0_ok (104, .invokevirtual 284, 3) (List.mem_of_getElem? (i := 54) rfl)) (z_sdm hT hk hs hz (by omega) (by omega) (w_sub (n := 27) rfl (by omega)) (fun g2 I2 W2 v2 m1 m2 m3 => ?_))
        show ww l D tys A X fr lo mX10_unseen Q 107 [(4, .int t9), (0, .ref (ad 0)), (1, .int p), (2, .int q), (3, .int r)] [.int v2] g2
        refine w_pop rfl (tX10_unseen_0_ok (107, .pop, 1) (List.mem_of_getElem? (i := 55) rfl)) ?_
        refine w_iinc (fun zv11 => [(4, .int zv11), (0, .ref (ad 0)), (1, .int p), (2, .int q), (3, .int r)]) (fun _ => rfl) (List.Mem.head _) (Nat.le_of_ble_eq_true rfl) (by decide) (by omega) (by omega) (tX10_unseen_0_ok (108, .iinc 4 1, 3) (List.mem_of_getElem? (i := 56) rfl)) (fun zv11 ze12 => ?_)
        refine w_goto (tgt := 39) (tX10_unseen_0_ok (111, .goto (-72), 3) (List.mem_of_getElem? (i := 57) rfl)) rfl ?_
        have ne : ¬ (e9_un τ φ p.toInt.toNat q.toInt.toNat) t9.toInt.toNat = true := by unfold e9_un; rw [decide_eq_true_eq]; omega
        refine w_lv [(4, .int zv11), (0, .ref (ad 0)), (1, .int p), (2, .int q), (3, .int r)] (by intro q hq; simp only [List.mem_cons, List.not_mem_nil, or_false] at hq ⊢; rcases hq with e | e | e | e | e <;> subst e <;> simp) ?_
        have ep : zv11.toInt.toNat = t9.toInt.toNat + 1 := by omega
        exact ih (j9 - 1) (by omega) g2 I2 W2 _ (by omega) (by omega) (by rw [ep]; exact m2) (by rw [ep, fs9_n (fun z => ne z.2)]; exact hn) m3
      · refine w_iload (List.Mem.head _) (tX10_unseen_0_ok (88, .iload 4, 2) (List.mem_of_getElem? (i := 45) rfl)) ?_
        refine w_iret rfl (tX10_unseen_0_ok (90, .ireturn, 1) (List.mem_of_getElem? (i := 46) rfl)) ?_
        have ye : (e9_un τ φ p.toInt.toNat q.toInt.toNat) t9.toInt.toNat = true := by unfold e9_un; rw [decide_eq_true_eq]; omega
        have e1 := fs9_y hn ye
        have e2 := fs9_k (E := (e9_un τ φ p.toInt.toNat q.toInt.toNat)) (t := t9.toInt.toNat + 1) (by rw [e1]; omega) (r.toInt.toNat - t9.toInt.toNat)
        rw [show t9.toInt.toNat + 1 + (r.toInt.toNat - t9.toInt.toNat) = r.toInt.toNat + 1 by omega, e1] at e2
        exact hq _ _ (by rw [e2]; omega)
theorem y_pbL (hT : k_tys tys cA) (hf : 1 ≤ fr) (hq : ∀ g : ch_H, Q none g) : ∀ (j9 : Nat) (h : ch_H) (I : zI) (i : Int32), i.toInt + j9 = 39 → 0 ≤ i.toInt → zr zNM cA ad I W O h → ww l D tys A X fr lo mX11_putBack Q 2 [(1, .int i), (0, .ref (ad 50))] [] h := by
  intro j9
  induction j9 using Nat.strongRecOn with
  | ind j9 ih =>
    intro h I i hj9 hi0 hz
    refine w_iload_n (List.Mem.head _) (tX11_putBack_0_ok (2, .iload_n 1, 1) (List.mem_of_getElem? (i := 2) rfl)) ?_
    refine w_bipush (by decide) (tX11_putBack_0_ok (3, .bipush 39, 2) (List.mem_of_getElem? (i := 3) rfl)) (fun zv1 ze2 => ?_)
    refine w_icmp_ge (tgt := 26) (tX11_putBack_0_ok (5, .if_icmp .ge 21, 3) (List.mem_of_getElem? (i := 4) rfl)) rfl (fun zb3 => ?_) (fun zb3 => ?_)
    · refine w_aload_n (List.Mem.tail _ (List.Mem.head _)) (tX11_putBack_0_ok (26, .aload_n 0, 1) (List.mem_of_getElem? (i := 15) rfl)) ?_
      refine w_aload_n (List.Mem.tail _ (List.Mem.head _)) (tX11_putBack_0_ok (27, .aload_n 0, 1) (List.mem_of_getElem? (i := 16) rfl)) ?_
      refine z_getJ (own := 16) (k := 37) hz rfl rfl rfl rfl rfl rfl rfl (by decide) (tX11_putBack_0_ok (28, .getfield 314, 3) (List.mem_of_getElem? (i := 17) rfl)) ?_
      refine z_putJ (w := (W 50)) (own := 16) (k := 36) hz rfl rfl rfl rfl rfl rfl rfl (by decide) rfl ⟨rfl, rfl⟩ (tX11_putBack_0_ok (31, .putfield 270, 3) (List.mem_of_getElem? (i := 18) rfl)) (fun zh4 zI5 zq6 zz7 zf8 => ?_)
      refine w_vret rfl (tX11_putBack_0_ok (34, .return_, 1) (List.mem_of_getElem? (i := 19) rfl)) ?_
      exact hq _
    · refine w_aload_n (List.Mem.tail _ (List.Mem.head _)) (tX11_putBack_0_ok (8, .aload_n 0, 1) (List.mem_of_getElem? (i := 5) rfl)) ?_
      refine z_getR (L1 := 56) (own := 16) (k := 22) hz rfl rfl rfl rfl rfl rfl rfl (by decide) (tX11_putBack_0_ok (9, .getfield 45, 3) (List.mem_of_getElem? (i := 6) rfl)) ?_
      refine w_iload_n (List.Mem.head _) (tX11_putBack_0_ok (12, .iload_n 1, 1) (List.mem_of_getElem? (i := 7) rfl)) ?_
      refine w_aload_n (List.Mem.tail _ (List.Mem.head _)) (tX11_putBack_0_ok (13, .aload_n 0, 1) (List.mem_of_getElem? (i := 8) rfl)) ?_
      refine z_getR (L1 := 57) (own := 16) (k := 23) hz rfl rfl rfl rfl rfl rfl rfl (by decide) (tX11_putBack_0_ok (14, .getfield 48, 3) (List.mem_of_getElem? (i := 9) rfl)) ?_
      refine w_iload_n (List.Mem.head _) (tX11_putBack_0_ok (17, .iload_n 1, 1) (List.mem_of_getElem? (i := 10) rfl)) ?_
      refine z_iald (f := (I 57)) hT hz rfl rfl rfl (by omega) (by omega) (tX11_putBack_0_ok (18, .iaload, 1) (List.mem_of_getElem? (i := 11) rfl)) (fun zv9 zu10 => ?_)
      have ze11 : zv9.toInt = ((I 57) i.toInt.toNat).toInt := congrArg _ zu10
      refine z_iast (f := (I 56)) hT hz rfl rfl rfl (by omega) (by omega) (tX11_putBack_0_ok (19, .iastore, 1) (List.mem_of_getElem? (i := 12) rfl)) (fun zh12 zI13 zq14 zz15 zf16 => ?_)
      refine w_iinc (fun zv17 => [(1, .int zv17), (0, .ref (ad 50))]) (fun _ => rfl) (List.Mem.head _) (Nat.le_of_ble_eq_true rfl) (by decide) (by omega) (by omega) (tX11_putBack_0_ok (20, .iinc 1 1, 3) (List.mem_of_getElem? (i := 13) rfl)) (fun zv17 ze18 => ?_)
      refine w_goto (tgt := 2) (tX11_putBack_0_ok (23, .goto (-21), 3) (List.mem_of_getElem? (i := 14) rfl)) rfl ?_
      refine w_lv [(1, .int zv17), (0, .ref (ad 50))] (by intro q hq; simp only [List.mem_cons, List.not_mem_nil, or_false] at hq ⊢; rcases hq with e | e <;> subst e <;> simp) ?_
      exact ih (j9 - 1) (by omega) zh12 zI13 _ (by omega) (by omega) zz15
theorem y_pb (hT : k_tys tys cA) (hz : zr zNM cA ad I W O h) (hf : 1 ≤ fr) (hq : ∀ g : ch_H, Q none g) : ww l D tys A X fr lo mX11_putBack Q 0 [(0, .ref (ad 50))] [] h := by
  refine w_iconst (by decide) (tX11_putBack_0_ok (0, .iconst 0, 1) (List.mem_of_getElem? (i := 0) rfl)) (fun zv1 ze2 => ?_)
  refine w_istore_n [(1, .int zv1), (0, .ref (ad 50))] rfl (Nat.le_of_ble_eq_true rfl) (tX11_putBack_0_ok (1, .istore_n 1, 1) (List.mem_of_getElem? (i := 1) rfl)) ?_
  refine w_lv [(1, .int zv1), (0, .ref (ad 50))] (by intro q hq; simp only [List.mem_cons, List.not_mem_nil, or_false] at hq ⊢; rcases hq with e | e <;> subst e <;> simp) ?_
  exact y_pbL hT hf hq 39 h I _ (by omega) (by omega) hz
theorem y9q_unL (hT : k_tys tys cA) {p q r : Int32} (hk : kok τ φ) (hc : c9_unseen p q r τ) (hf : 30 ≤ fr) (hlo : 800 ≤ lo) (hq : ∀ (g : ch_H) (v : Int32), v.toInt = fs9 (e9_un τ φ p.toInt.toNat q.toInt.toNat) (r.toInt.toNat + 1) → Q (some (.int v)) g) : ∀ (j9 : Nat) (h : ch_H) (I : zI) (W : zW) (fo t9 : Int32), t9.toInt + j9 = r.toInt + 1 → 0 ≤ t9.toInt → sdR τ φ I0 t9.toInt.toNat I W → fo.toInt = fs9 (e9_un τ φ p.toInt.toNat q.toInt.toNat) t9.toInt.toNat → zr zNM cA ad I W O h → ww l D tys A X fr lo mX11_unseen Q 50 [(4, .int fo), (5, .int t9), (0, .ref (ad 50)), (1, .int p), (2, .int q), (3, .int r)] [] h := by
  obtain ⟨c1, c2, c3, c4, c5⟩ := hc
  intro j9
  induction j9 using Nat.strongRecOn with
  | ind j9 ih =>
    intro h I W fo t9 hj9 ht0 hs hn hz
    have n6 := hk.1.1
    have fb := fs9_b (e9_un τ φ p.toInt.toNat q.toInt.toNat) t9.toInt.toNat
    obtain ⟨a1, a2, a3, a4, a5, a6⟩ := id hs
    refine w_iload (List.Mem.tail _ (List.Mem.head _)) (tX11_unseen_0_ok (50, .iload 5, 2) (List.mem_of_getElem? (i := 27) rfl)) ?_
    refine w_iload_n (List.Mem.tail _ (List.Mem.tail _ (List.Mem.tail _ (List.Mem.tail _ (List.Mem.tail _ (List.Mem.head _)))))) (tX11_unseen_0_ok (52, .iload_n 3, 1) (List.mem_of_getElem? (i := 28) rfl)) ?_
    refine w_icmp_gt (tgt := 92) (tX11_unseen_0_ok (53, .if_icmp .gt 39, 3) (List.mem_of_getElem? (i := 29) rfl)) rfl (fun zb1 => ?_) (fun zb1 => ?_)
    · refine w_aload_n (List.Mem.tail _ (List.Mem.tail _ (List.Mem.head _))) (tX11_unseen_0_ok (92, .aload_n 0, 1) (List.mem_of_getElem? (i := 48) rfl)) ?_
      refine w_callV (own := 16) (mi := 232) [] [] [(0, .ref (ad 50))] rfl (cllw_X11 (338, 0, 232) (List.mem_of_getElem? (i := 53) rfl)) rfl rfl (hz.ob rfl rfl) rfl (by omega) (w_lo (n := 21) rfl (by omega)) (Nat.le_of_ble_eq_true rfl) (Nat.le_of_ble_eq_true rfl) rfl (tX11_unseen_0_ok (93, .invokevirtual 338, 3) (List.mem_of_getElem? (i := 49) rfl)) (y_pb hT hz (by omega) (fun g3 => ?_))
      show ww l D tys A X fr lo mX11_unseen Q 96 [(4, .int fo), (5, .int t9), (0, .ref (ad 50)), (1, .int p), (2, .int q), (3, .int r)] [] g3
      refine w_iload (List.Mem.head _) (tX11_unseen_0_ok (96, .iload 4, 2) (List.mem_of_getElem? (i := 50) rfl)) ?_
      refine w_iret rfl (tX11_unseen_0_ok (98, .ireturn, 1) (List.mem_of_getElem? (i := 51) rfl)) ?_
      by_cases c9 : t9.toInt = r.toInt + 1
      · exact hq _ _ (by rw [show r.toInt.toNat + 1 = t9.toInt.toNat by omega]; exact hn)
      · have e2 := fs9_k (E := (e9_un τ φ p.toInt.toNat q.toInt.toNat)) (t := t9.toInt.toNat) (by omega) (r.toInt.toNat + 1 - t9.toInt.toNat)
        rw [show t9.toInt.toNat + (r.toInt.toNat + 1 - t9.toInt.toNat) = r.toInt.toNat + 1 by omega] at e2
        exact hq _ _ (by rw [e2]; exact hn)
    · refine w_iload (List.Mem.head _) (tX11_unseen_0_ok (56, .iload 4, 2) (List.mem_of_getElem? (i := 30) rfl)) ?_
      refine w_iconst (by decide) (tX11_unseen_0_ok (58, .iconst (-1), 1) (List.mem_of_getElem? (i := 31) rfl)) (fun zv2 ze3 => ?_)
      refine w_icmp_ne (tgt := 92) (tX11_unseen_0_ok (59, .if_icmp .ne 33, 3) (List.mem_of_getElem? (i := 32) rfl)) rfl (fun zb4 => ?_) (fun zb4 => ?_)
      · refine w_aload_n (List.Mem.tail _ (List.Mem.tail _ (List.Mem.head _))) (tX11_unseen_0_ok (92, .aload_n 0, 1) (List.mem_of_getElem? (i := 48) rfl)) ?_
        refine w_callV (own := 16) (mi := 232) [] [] [(0, .ref (ad 50))] rfl (cllw_X11 (338, 0, 232) (List.mem_of_getElem? (i := 53) rfl)) rfl rfl (hz.ob rfl rfl) rfl (by omega) (w_lo (n := 21) rfl (by omega)) (Nat.le_of_ble_eq_true rfl) (Nat.le_of_ble_eq_true rfl) rfl (tX11_unseen_0_ok (93, .invokevirtual 338, 3) (List.mem_of_getElem? (i := 49) rfl)) (y_pb hT hz (by omega) (fun g3 => ?_))
        show ww l D tys A X fr lo mX11_unseen Q 96 [(4, .int fo), (5, .int t9), (0, .ref (ad 50)), (1, .int p), (2, .int q), (3, .int r)] [] g3
        refine w_iload (List.Mem.head _) (tX11_unseen_0_ok (96, .iload 4, 2) (List.mem_of_getElem? (i := 50) rfl)) ?_
        refine w_iret rfl (tX11_unseen_0_ok (98, .ireturn, 1) (List.mem_of_getElem? (i := 51) rfl)) ?_
        by_cases c9 : t9.toInt = r.toInt + 1
        · exact hq _ _ (by rw [show r.toInt.toNat + 1 = t9.toInt.toNat by omega]; exact hn)
        · have e2 := fs9_k (E := (e9_un τ φ p.toInt.toNat q.toInt.toNat)) (t := t9.toInt.toNat) (by omega) (r.toInt.toNat + 1 - t9.toInt.toNat)
          rw [show t9.toInt.toNat + (r.toInt.toNat + 1 - t9.toInt.toNat) = r.toInt.toNat + 1 by omega] at e2
          exact hq _ _ (by rw [e2]; exact hn)
      · refine w_aload_n (List.Mem.tail _ (List.Mem.tail _ (List.Mem.head _))) (tX11_unseen_0_ok (62, .aload_n 0, 1) (List.mem_of_getElem? (i := 33) rfl)) ?_
        refine w_iload_n (List.Mem.tail _ (List.Mem.tail _ (List.Mem.tail _ (List.Mem.head _)))) (tX11_unseen_0_ok (63, .iload_n 1, 1) (List.mem_of_getElem? (i := 34) rfl)) ?_
        refine w_callV (own := 16) (mi := 192) [.int p] [] [(0, .ref (ad 50)), (1, .int p)] rfl (cllw_X11 (280, 0, 192) (List.mem_of_getElem? (i := 39) rfl)) rfl rfl (hz.ob rfl rfl) rfl (by omega) (w_lo (n := 22) rfl (by omega)) (Nat.le_of_ble_eq_true rfl) (Nat.le_of_ble_eq_true rfl) rfl (tX11_unseen_0_ok (64, .invokevirtual 280, 3) (List.mem_of_getElem? (i := 35) rfl)) (y_height (ga := 0) (GH := fun _ => 0) hT hz a1 (m_g_ok hk.1 hk.2.1.1 _) (fun q hq9 => (a3 q hq9).1) (fun g hg9 => absurd hg9 (by omega)) (by omega) (by omega) (w_sub (n := 22) rfl (by omega)) (Or.inl ⟨by omega, by omega⟩) (fun zv5 ze6 => ?_))
        show ww l D tys A X fr lo mX11_unseen Q 67 [(4, .int fo), (5, .int t9), (0, .ref (ad 50)), (1, .int p), (2, .int q), (3, .int r)] [.int zv5] h
        have ze7 : zv5.toInt = hT9 φ.2.2.1 (k9_f τ φ t9.toInt.toNat).1 p.toInt.toNat := ze6.trans (if_pos (by omega))
        refine w_aload_n (List.Mem.tail _ (List.Mem.tail _ (List.Mem.head _))) (tX11_unseen_0_ok (67, .aload_n 0, 1) (List.mem_of_getElem? (i := 36) rfl)) ?_
        refine w_iload_n (List.Mem.tail _ (List.Mem.tail _ (List.Mem.tail _ (List.Mem.tail _ (List.Mem.head _))))) (tX11_unseen_0_ok (68, .iload_n 2, 1) (List.mem_of_getElem? (i := 37) rfl)) ?_
        refine w_callV (own := 16) (mi := 192) [.int q] [.int zv5] [(0, .ref (ad 50)), (1, .int q)] rfl (cllw_X11 (280, 0, 192) (List.mem_of_getElem? (i := 39) rfl)) rfl rfl (hz.ob rfl rfl) rfl (by omega) (w_lo (n := 22) rfl (by omega)) (Nat.le_of_ble_eq_true rfl) (Nat.le_of_ble_eq_true rfl) rfl (tX11_unseen_0_ok (69, .invokevirtual 280, 3) (List.mem_of_getElem? (i := 38) rfl)) (y_height (ga := 0) (GH := fun _ => 0) hT hz a1 (m_g_ok hk.1 hk.2.1.1 _) (fun q hq9 => (a3 q hq9).1) (fun g hg9 => absurd hg9 (by omega)) (by omega) (by omega) (w_sub (n := 22) rfl (by omega)) (Or.inl ⟨by omega, by omega⟩) (fun zv8 ze9 => ?_))
        show ww l D tys A X fr lo mX11_unseen Q 72 [(4, .int fo), (5, .int t9), (0, .ref (ad 50)), (1, .int p), (2, .int q), (3, .int r)] [.int zv8, .int zv5] h
        have ze10 : zv8.toInt = hT9 φ.2.2.1 (k9_f τ φ t9.toInt.toNat).1 q.toInt.toNat := ze9.trans (if_pos (by omega))
        refine w_icmp_ne (tgt := 79) (tX11_unseen_0_ok (72, .if_icmp .ne 7, 3) (List.mem_of_getElem? (i := 39) rfl)) rfl (fun zb11 => ?_) (fun zb11 => ?_)
        · refine w_aload_n (List.Mem.tail _ (List.Mem.tail _ (List.Mem.head _))) (tX11_unseen_0_ok (79, .aload_n 0, 1) (List.mem_of_getElem? (i := 42) rfl)) ?_
          refine w_iconst (by decide) (tX11_unseen_0_ok (80, .iconst 0, 1) (List.mem_of_getElem? (i := 43) rfl)) (fun zv12 ze13 => ?_)
          refine w_callV (own := 16) (mi := 215) [.int zv12] [] [(0, .ref (ad 50)), (1, .int zv12)] rfl (cllw_X11 (307, 0, 215) (List.mem_of_getElem? (i := 42) rfl)) rfl rfl (hz.ob rfl rfl) rfl (by omega) (w_lo (n := 28) rfl (by omega)) (Nat.le_of_ble_eq_true rfl) (Nat.le_of_ble_eq_true rfl) rfl (tX11_unseen_0_ok (81, .invokevirtual 307, 3) (List.mem_of_getElem? (i := 44) rfl)) (y_sdm hT hk hs hz (by omega) (by omega) (w_sub (n := 28) rfl (by omega)) (fun g2 I2 W2 v2 m1 m2 m3 => ?_))
          show ww l D tys A X fr lo mX11_unseen Q 84 [(4, .int fo), (5, .int t9), (0, .ref (ad 50)), (1, .int p), (2, .int q), (3, .int r)] [.int v2] g2
          refine w_istore [(6, .int v2), (4, .int fo), (5, .int t9), (0, .ref (ad 50)), (1, .int p), (2, .int q), (3, .int r)] rfl (Nat.le_of_ble_eq_true rfl) (tX11_unseen_0_ok (84, .istore 6, 2) (List.mem_of_getElem? (i := 45) rfl)) ?_
          refine w_iinc (fun zv14 => [(5, .int zv14), (6, .int v2), (4, .int fo), (0, .ref (ad 50)), (1, .int p), (2, .int q), (3, .int r)]) (fun _ => rfl) (List.Mem.tail _ (List.Mem.tail _ (List.Mem.head _))) (Nat.le_of_ble_eq_true rfl) (by decide) (by omega) (by omega) (tX11_unseen_0_ok (86, .iinc 5 1, 3) (List.mem_of_getElem? (i := 46) rfl)) (fun zv14 ze15 => ?_)
          refine w_goto (tgt := 50) (tX11_unseen_0_ok (89, .goto (-39), 3) (List.mem_of_getElem? (i := 47) rfl)) rfl ?_
          refine w_lv [(4, .int fo), (5, .int zv14), (0, .ref (ad 50)), (1, .int p), (2, .int q), (3, .int r)] (by intro q hq; simp only [List.mem_cons, List.not_mem_nil, or_false] at hq ⊢; rcases hq with e | e | e | e | e | e <;> subst e <;> simp) ?_
          have ep : zv14.toInt.toNat = t9.toInt.toNat + 1 := by omega
          have ne : ¬ (e9_un τ φ p.toInt.toNat q.toInt.toNat) t9.toInt.toNat = true := by unfold e9_un; rw [decide_eq_true_eq]; omega
          exact ih (j9 - 1) (by omega) g2 I2 W2 _ _ (by omega) (by omega) (by rw [ep]; exact m2) (by rw [ep, fs9_n (fun z => ne z.2)]; exact hn) m3
        · refine w_iload (List.Mem.tail _ (List.Mem.head _)) (tX11_unseen_0_ok (75, .iload 5, 2) (List.mem_of_getElem? (i := 40) rfl)) ?_
          refine w_istore [(4, .int t9), (5, .int t9), (0, .ref (ad 50)), (1, .int p), (2, .int q), (3, .int r)] rfl (Nat.le_of_ble_eq_true rfl) (tX11_unseen_0_ok (77, .istore 4, 2) (List.mem_of_getElem? (i := 41) rfl)) ?_
          refine w_aload_n (List.Mem.tail _ (List.Mem.tail _ (List.Mem.head _))) (tX11_unseen_0_ok (79, .aload_n 0, 1) (List.mem_of_getElem? (i := 42) rfl)) ?_
          refine w_iconst (by decide) (tX11_unseen_0_ok (80, .iconst 0, 1) (List.mem_of_getElem? (i := 43) rfl)) (fun zv16 ze17 => ?_)
          refine w_callV (own := 16) (mi := 215) [.int zv16] [] [(0, .ref (ad 50)), (1, .int zv16)] rfl (cllw_X11 (307, 0, 215) (List.mem_of_getElem? (i := 42) rfl)) rfl rfl (hz.ob rfl rfl) rfl (by omega) (w_lo (n := 28) rfl (by omega)) (Nat.le_of_ble_eq_true rfl) (Nat.le_of_ble_eq_true rfl) rfl (tX11_unseen_0_ok (81, .invokevirtual 307, 3) (List.mem_of_getElem? (i := 44) rfl)) (y_sdm hT hk hs hz (by omega) (by omega) (w_sub (n := 28) rfl (by omega)) (fun g2 I2 W2 v2 m1 m2 m3 => ?_))
          show ww l D tys A X fr lo mX11_unseen Q 84 [(4, .int t9), (5, .int t9), (0, .ref (ad 50)), (1, .int p), (2, .int q), (3, .int r)] [.int v2] g2
          refine w_istore [(6, .int v2), (4, .int t9), (5, .int t9), (0, .ref (ad 50)), (1, .int p), (2, .int q), (3, .int r)] rfl (Nat.le_of_ble_eq_true rfl) (tX11_unseen_0_ok (84, .istore 6, 2) (List.mem_of_getElem? (i := 45) rfl)) ?_
          refine w_iinc (fun zv18 => [(5, .int zv18), (6, .int v2), (4, .int t9), (0, .ref (ad 50)), (1, .int p), (2, .int q), (3, .int r)]) (fun _ => rfl) (List.Mem.tail _ (List.Mem.tail _ (List.Mem.head _))) (Nat.le_of_ble_eq_true rfl) (by decide) (by omega) (by omega) (tX11_unseen_0_ok (86, .iinc 5 1, 3) (List.mem_of_getElem? (i := 46) rfl)) (fun zv18 ze19 => ?_)
          refine w_goto (tgt := 50) (tX11_unseen_0_ok (89, .goto (-39), 3) (List.mem_of_getElem? (i := 47) rfl)) rfl ?_
          refine w_lv [(4, .int t9), (5, .int zv18), (0, .ref (ad 50)), (1, .int p), (2, .int q), (3, .int r)] (by intro q hq; simp only [List.mem_cons, List.not_mem_nil, or_false] at hq ⊢; rcases hq with e | e | e | e | e | e <;> subst e <;> simp) ?_
          have ep : zv18.toInt.toNat = t9.toInt.toNat + 1 := by omega
          have ye : (e9_un τ φ p.toInt.toNat q.toInt.toNat) t9.toInt.toNat = true := by unfold e9_un; rw [decide_eq_true_eq]; omega
          exact ih (j9 - 1) (by omega) g2 I2 W2 _ _ (by omega) (by omega) (by rw [ep]; exact m2) (by rw [ep, fs9_y (by omega) ye]; omega) m3
theorem z9q_unseen (hT : k_tys tys cA) {p q r : Int32} (hz : zr zNC cA ad I W O h) (hk : kok τ φ) (H : cS τ φ I W) (hf : 30 ≤ fr) (hlo : 900 ≤ lo) (hq : ∀ (g : ch_H) (v : Int32), (c9_unseen p q r τ ∧ v.toInt = fs9 (e9_un τ φ p.toInt.toNat q.toInt.toNat) (r.toInt.toNat + 1) ∨ ¬ c9_unseen p q r τ ∧ v.toInt = -1000000) → Q (some (.int v)) g) : ww l D tys A X fr lo mX10_unseen Q 0 [(0, .ref (ad 0)), (1, .int p), (2, .int q), (3, .int r)] [] h := by
  have n6 := hk.1.1
  obtain ⟨ga6, pe8, ta6⟩ := hk.2.2.2.1
  obtain ⟨h1, ⟨h21, h22, h23⟩, h3, h4, h5, h6, h7, h8, h9, h10, h11⟩ := id H
  have r0 := h1.1
  refine w_aload_n (List.Mem.head _) (tX10_unseen_0_ok (0, .aload_n 0, 1) (List.mem_of_getElem? (i := 0) rfl)) ?_
  refine w_iload_n (List.Mem.tail _ (List.Mem.head _)) (tX10_unseen_0_ok (1, .iload_n 1, 1) (List.mem_of_getElem? (i := 1) rfl)) ?_
  refine w_callV (own := 15) (mi := 122) [.int p] [] [(0, .ref (ad 0)), (1, .int p)] rfl (cllw_X10 (144, 0, 122) (List.mem_of_getElem? (i := 8) rfl)) rfl rfl (hz.ob rfl rfl) rfl (by omega) (w_lo (n := 21) rfl (by omega)) (Nat.le_of_ble_eq_true rfl) (Nat.le_of_ble_eq_true rfl) rfl (tX10_unseen_0_ok (2, .invokevirtual 144, 3) (List.mem_of_getElem? (i := 2) rfl)) (z_isRoom hT hz r0 n6 (fun zv1 ze2 => ?_))
  show ww l D tys A X fr lo mX10_unseen Q 5 [(0, .ref (ad 0)), (1, .int p), (2, .int q), (3, .int r)] [.int zv1] h
  refine w_if_eq (tgt := 29) (tX10_unseen_0_ok (5, .ifCond .eq 24, 3) (List.mem_of_getElem? (i := 3) rfl)) rfl (fun zb3 => ?_) (fun zb3 => ?_)
  · refine w_ldcN (u := -1000000) (wA3 33 rfl rfl) (tX10_unseen_0_ok (29, .ldc 202, 2) (List.mem_of_getElem? (i := 15) rfl)) (fun zv4 ze5 => ?_)
    have ze5 : zv4.toInt = -1000000 := ze5
    refine w_iret rfl (tX10_unseen_0_ok (31, .ireturn, 1) (List.mem_of_getElem? (i := 16) rfl)) ?_
    have no : ¬ c9_unseen p q r τ := by unfold c9_unseen; omega
    exact hq _ _ (Or.inr ⟨no, by omega⟩)
  · refine w_aload_n (List.Mem.head _) (tX10_unseen_0_ok (8, .aload_n 0, 1) (List.mem_of_getElem? (i := 4) rfl)) ?_
    refine w_iload_n (List.Mem.tail _ (List.Mem.tail _ (List.Mem.head _))) (tX10_unseen_0_ok (9, .iload_n 2, 1) (List.mem_of_getElem? (i := 5) rfl)) ?_
    refine w_callV (own := 15) (mi := 122) [.int q] [] [(0, .ref (ad 0)), (1, .int q)] rfl (cllw_X10 (144, 0, 122) (List.mem_of_getElem? (i := 8) rfl)) rfl rfl (hz.ob rfl rfl) rfl (by omega) (w_lo (n := 21) rfl (by omega)) (Nat.le_of_ble_eq_true rfl) (Nat.le_of_ble_eq_true rfl) rfl (tX10_unseen_0_ok (10, .invokevirtual 144, 3) (List.mem_of_getElem? (i := 6) rfl)) (z_isRoom hT hz r0 n6 (fun zv6 ze7 => ?_))
    show ww l D tys A X fr lo mX10_unseen Q 13 [(0, .ref (ad 0)), (1, .int p), (2, .int q), (3, .int r)] [.int zv6] h
    refine w_if_eq (tgt := 29) (tX10_unseen_0_ok (13, .ifCond .eq 16, 3) (List.mem_of_getElem? (i := 7) rfl)) rfl (fun zb8 => ?_) (fun zb8 => ?_)
    · refine w_ldcN (u := -1000000) (wA3 33 rfl rfl) (tX10_unseen_0_ok (29, .ldc 202, 2) (List.mem_of_getElem? (i := 15) rfl)) (fun zv9 ze10 => ?_)
      have ze10 : zv9.toInt = -1000000 := ze10
      refine w_iret rfl (tX10_unseen_0_ok (31, .ireturn, 1) (List.mem_of_getElem? (i := 16) rfl)) ?_
      have no : ¬ c9_unseen p q r τ := by unfold c9_unseen; omega
      exact hq _ _ (Or.inr ⟨no, by omega⟩)
    · refine w_iload_n (List.Mem.tail _ (List.Mem.head _)) (tX10_unseen_0_ok (16, .iload_n 1, 1) (List.mem_of_getElem? (i := 8) rfl)) ?_
      refine w_iload_n (List.Mem.tail _ (List.Mem.tail _ (List.Mem.head _))) (tX10_unseen_0_ok (17, .iload_n 2, 1) (List.mem_of_getElem? (i := 9) rfl)) ?_
      refine w_icmp_eq (tgt := 29) (tX10_unseen_0_ok (18, .if_icmp .eq 11, 3) (List.mem_of_getElem? (i := 10) rfl)) rfl (fun zb11 => ?_) (fun zb11 => ?_)
      · refine w_ldcN (u := -1000000) (wA3 33 rfl rfl) (tX10_unseen_0_ok (29, .ldc 202, 2) (List.mem_of_getElem? (i := 15) rfl)) (fun zv12 ze13 => ?_)
        have ze13 : zv12.toInt = -1000000 := ze13
        refine w_iret rfl (tX10_unseen_0_ok (31, .ireturn, 1) (List.mem_of_getElem? (i := 16) rfl)) ?_
        have no : ¬ c9_unseen p q r τ := by unfold c9_unseen; omega
        exact hq _ _ (Or.inr ⟨no, by omega⟩)
      · refine w_iload_n (List.Mem.tail _ (List.Mem.tail _ (List.Mem.tail _ (List.Mem.head _)))) (tX10_unseen_0_ok (21, .iload_n 3, 1) (List.mem_of_getElem? (i := 11) rfl)) ?_
        refine w_iconst (by decide) (tX10_unseen_0_ok (22, .iconst 0, 1) (List.mem_of_getElem? (i := 12) rfl)) (fun zv14 ze15 => ?_)
        refine w_callS (own := 15) (mi := 124) [.int r, .int zv14] [] [(0, .int r), (1, .int zv14)] rfl (cllw_X10 (235, 1, 124) (List.mem_of_getElem? (i := 16) rfl)) rfl rfl (by omega) (w_lo (n := 21) rfl (by omega)) (Nat.le_of_ble_eq_true rfl) (Nat.le_of_ble_eq_true rfl) rfl (tX10_unseen_0_ok (23, .invokestatic 235, 3) (List.mem_of_getElem? (i := 13) rfl)) (z_isSpan (fun zv16 ze17 => ?_))
        show ww l D tys A X fr lo mX10_unseen Q 26 [(0, .ref (ad 0)), (1, .int p), (2, .int q), (3, .int r)] [.int zv16] h
        refine w_if_ne (tgt := 32) (tX10_unseen_0_ok (26, .ifCond .ne 6, 3) (List.mem_of_getElem? (i := 14) rfl)) rfl (fun zb18 => ?_) (fun zb18 => ?_)
        · refine w_aload_n (List.Mem.head _) (tX10_unseen_0_ok (32, .aload_n 0, 1) (List.mem_of_getElem? (i := 17) rfl)) ?_
          refine w_callV (own := 15) (mi := 141) [] [] [(0, .ref (ad 0))] rfl (cllw_X10 (271, 0, 141) (List.mem_of_getElem? (i := 23) rfl)) rfl rfl (hz.ob rfl rfl) rfl (by omega) (w_lo (n := 20) rfl (by omega)) (Nat.le_of_ble_eq_true rfl) (Nat.le_of_ble_eq_true rfl) rfl (tX10_unseen_0_ok (33, .invokevirtual 271, 3) (List.mem_of_getElem? (i := 18) rfl)) (z_setAside hT hz hk H (by omega) (w_sub (n := 20) rfl (by omega)) (fun g1 I1 W1 s1 s2 => ?_))
          show ww l D tys A X fr lo mX10_unseen Q 36 [(0, .ref (ad 0)), (1, .int p), (2, .int q), (3, .int r)] [] g1
          refine w_iconst (by decide) (tX10_unseen_0_ok (36, .iconst 0, 1) (List.mem_of_getElem? (i := 19) rfl)) (fun zv19 ze20 => ?_)
          refine w_istore [(4, .int zv19), (0, .ref (ad 0)), (1, .int p), (2, .int q), (3, .int r)] rfl (Nat.le_of_ble_eq_true rfl) (tX10_unseen_0_ok (37, .istore 4, 2) (List.mem_of_getElem? (i := 20) rfl)) ?_
          have ye : c9_unseen p q r τ := by unfold c9_unseen; omega
          refine w_lv [(4, .int zv19), (0, .ref (ad 0)), (1, .int p), (2, .int q), (3, .int r)] (by intro q hq; simp only [List.mem_cons, List.not_mem_nil, or_false] at hq ⊢; rcases hq with e | e | e | e | e <;> subst e <;> simp) ?_
          have e0 : zv19.toInt.toNat = 0 := by omega
          exact z9q_unL (I0 := I) hT hk ye (by omega) (by omega) (fun g v e => hq g v (Or.inl ⟨ye, e⟩)) (r.toInt.toNat + 1) _ _ _ _ (by omega) (by omega) (by rw [e0]; exact s1) (by rw [e0]; rfl) s2
        · refine w_ldcN (u := -1000000) (wA3 33 rfl rfl) (tX10_unseen_0_ok (29, .ldc 202, 2) (List.mem_of_getElem? (i := 15) rfl)) (fun zv21 ze22 => ?_)
          have ze22 : zv21.toInt = -1000000 := ze22
          refine w_iret rfl (tX10_unseen_0_ok (31, .ireturn, 1) (List.mem_of_getElem? (i := 16) rfl)) ?_
          have no : ¬ c9_unseen p q r τ := by unfold c9_unseen; omega
          exact hq _ _ (Or.inr ⟨no, by omega⟩)
theorem y9q_unseen5 (hT : k_tys tys cA) {p q r : Int32} (hz : zr zNM cA ad I W O h) (hk : kok τ φ) (H : rS τ φ I W) (hf : 30 ≤ fr) (hlo : 900 ≤ lo) (hbo : ¬ τ.1 = 0 → bo (I 55) (I 56) (I 62) τ.2.2.1 τ.1) (hq : ∀ (g : ch_H) (v : Int32), (c9_unseen p q r τ ∧ v.toInt = fs9 (e9_un τ φ p.toInt.toNat q.toInt.toNat) (r.toInt.toNat + 1) ∨ ¬ c9_unseen p q r τ ∧ v.toInt = -1000000) → Q (some (.int v)) g) : ww l D tys A X fr lo mX11_unseen Q 5 [(0, .ref (ad 50)), (1, .int p), (2, .int q), (3, .int r)] [] h := by
  have n6 := hk.1.1
  obtain ⟨ga6, pe8, ta6⟩ := hk.2.2.2.1
  obtain ⟨h1, ⟨h21, h22, h23⟩, ⟨h3, h32⟩, h4, h5, h6, h7, h8, h9, h10, h11⟩ := id H
  have r0 := h1.1
  refine w_aload_n (List.Mem.head _) (tX11_unseen_0_ok (5, .aload_n 0, 1) (List.mem_of_getElem? (i := 3) rfl)) ?_
  refine w_iload_n (List.Mem.tail _ (List.Mem.head _)) (tX11_unseen_0_ok (6, .iload_n 1, 1) (List.mem_of_getElem? (i := 4) rfl)) ?_
  refine w_callV (own := 16) (mi := 203) [.int p] [] [(0, .ref (ad 50)), (1, .int p)] rfl (cllw_X11 (274, 0, 203) (List.mem_of_getElem? (i := 38) rfl)) rfl rfl (hz.ob rfl rfl) rfl (by omega) (w_lo (n := 21) rfl (by omega)) (Nat.le_of_ble_eq_true rfl) (Nat.le_of_ble_eq_true rfl) rfl (tX11_unseen_0_ok (7, .invokevirtual 274, 3) (List.mem_of_getElem? (i := 5) rfl)) (y_isRoom hT hz r0 n6 (fun zv1 ze2 => ?_))
  show ww l D tys A X fr lo mX11_unseen Q 10 [(0, .ref (ad 50)), (1, .int p), (2, .int q), (3, .int r)] [.int zv1] h
  refine w_if_eq (tgt := 36) (tX11_unseen_0_ok (10, .ifCond .eq 26, 3) (List.mem_of_getElem? (i := 6) rfl)) rfl (fun zb3 => ?_) (fun zb3 => ?_)
  · refine w_ldcwN (u := -1000000) (wA6 178 rfl rfl) (tX11_unseen_0_ok (36, .ldc_w 292, 3) (List.mem_of_getElem? (i := 19) rfl)) (fun zv4 ze5 => ?_)
    have ze5 : zv4.toInt = -1000000 := ze5
    refine w_iret rfl (tX11_unseen_0_ok (39, .ireturn, 1) (List.mem_of_getElem? (i := 20) rfl)) ?_
    have no : ¬ c9_unseen p q r τ := by unfold c9_unseen; omega
    exact hq _ _ (Or.inr ⟨no, by omega⟩)
  · refine w_aload_n (List.Mem.head _) (tX11_unseen_0_ok (13, .aload_n 0, 1) (List.mem_of_getElem? (i := 7) rfl)) ?_
    refine w_iload_n (List.Mem.tail _ (List.Mem.tail _ (List.Mem.head _))) (tX11_unseen_0_ok (14, .iload_n 2, 1) (List.mem_of_getElem? (i := 8) rfl)) ?_
    refine w_callV (own := 16) (mi := 203) [.int q] [] [(0, .ref (ad 50)), (1, .int q)] rfl (cllw_X11 (274, 0, 203) (List.mem_of_getElem? (i := 38) rfl)) rfl rfl (hz.ob rfl rfl) rfl (by omega) (w_lo (n := 21) rfl (by omega)) (Nat.le_of_ble_eq_true rfl) (Nat.le_of_ble_eq_true rfl) rfl (tX11_unseen_0_ok (15, .invokevirtual 274, 3) (List.mem_of_getElem? (i := 9) rfl)) (y_isRoom hT hz r0 n6 (fun zv6 ze7 => ?_))
    show ww l D tys A X fr lo mX11_unseen Q 18 [(0, .ref (ad 50)), (1, .int p), (2, .int q), (3, .int r)] [.int zv6] h
    refine w_if_eq (tgt := 36) (tX11_unseen_0_ok (18, .ifCond .eq 18, 3) (List.mem_of_getElem? (i := 10) rfl)) rfl (fun zb8 => ?_) (fun zb8 => ?_)
    · refine w_ldcwN (u := -1000000) (wA6 178 rfl rfl) (tX11_unseen_0_ok (36, .ldc_w 292, 3) (List.mem_of_getElem? (i := 19) rfl)) (fun zv9 ze10 => ?_)
      have ze10 : zv9.toInt = -1000000 := ze10
      refine w_iret rfl (tX11_unseen_0_ok (39, .ireturn, 1) (List.mem_of_getElem? (i := 20) rfl)) ?_
      have no : ¬ c9_unseen p q r τ := by unfold c9_unseen; omega
      exact hq _ _ (Or.inr ⟨no, by omega⟩)
    · refine w_iload_n (List.Mem.tail _ (List.Mem.head _)) (tX11_unseen_0_ok (21, .iload_n 1, 1) (List.mem_of_getElem? (i := 11) rfl)) ?_
      refine w_iload_n (List.Mem.tail _ (List.Mem.tail _ (List.Mem.head _))) (tX11_unseen_0_ok (22, .iload_n 2, 1) (List.mem_of_getElem? (i := 12) rfl)) ?_
      refine w_icmp_eq (tgt := 36) (tX11_unseen_0_ok (23, .if_icmp .eq 13, 3) (List.mem_of_getElem? (i := 13) rfl)) rfl (fun zb11 => ?_) (fun zb11 => ?_)
      · refine w_ldcwN (u := -1000000) (wA6 178 rfl rfl) (tX11_unseen_0_ok (36, .ldc_w 292, 3) (List.mem_of_getElem? (i := 19) rfl)) (fun zv12 ze13 => ?_)
        have ze13 : zv12.toInt = -1000000 := ze13
        refine w_iret rfl (tX11_unseen_0_ok (39, .ireturn, 1) (List.mem_of_getElem? (i := 20) rfl)) ?_
        have no : ¬ c9_unseen p q r τ := by unfold c9_unseen; omega
        exact hq _ _ (Or.inr ⟨no, by omega⟩)
      · refine w_iload_n (List.Mem.tail _ (List.Mem.tail _ (List.Mem.tail _ (List.Mem.head _)))) (tX11_unseen_0_ok (26, .iload_n 3, 1) (List.mem_of_getElem? (i := 14) rfl)) ?_
        refine w_iconst (by decide) (tX11_unseen_0_ok (27, .iconst 0, 1) (List.mem_of_getElem? (i := 15) rfl)) (fun zv14 ze15 => ?_)
        refine w_bipush (by decide) (tX11_unseen_0_ok (28, .bipush 60, 2) (List.mem_of_getElem? (i := 16) rfl)) (fun zv16 ze17 => ?_)
        refine w_callS (own := 16) (mi := 199) [.int r, .int zv14, .int zv16] [] [(0, .int r), (1, .int zv14), (2, .int zv16)] rfl (cllw_X11 (207, 1, 199) (List.mem_of_getElem? (i := 2) rfl)) rfl rfl (by omega) (w_lo (n := 22) rfl (by omega)) (Nat.le_of_ble_eq_true rfl) (Nat.le_of_ble_eq_true rfl) rfl (tX11_unseen_0_ok (30, .invokestatic 207, 3) (List.mem_of_getElem? (i := 17) rfl)) (r_isIn (fun zv18 ze19 => ?_))
        show ww l D tys A X fr lo mX11_unseen Q 33 [(0, .ref (ad 50)), (1, .int p), (2, .int q), (3, .int r)] [.int zv18] h
        refine w_if_ne (tgt := 40) (tX11_unseen_0_ok (33, .ifCond .ne 7, 3) (List.mem_of_getElem? (i := 18) rfl)) rfl (fun zb20 => ?_) (fun zb20 => ?_)
        · refine w_aload_n (List.Mem.head _) (tX11_unseen_0_ok (40, .aload_n 0, 1) (List.mem_of_getElem? (i := 21) rfl)) ?_
          refine w_callV (own := 16) (mi := 208) [] [] [(0, .ref (ad 50))] rfl (cllw_X11 (332, 0, 208) (List.mem_of_getElem? (i := 51) rfl)) rfl rfl (hz.ob rfl rfl) rfl (by omega) (w_lo (n := 21) rfl (by omega)) (Nat.le_of_ble_eq_true rfl) (Nat.le_of_ble_eq_true rfl) rfl (tX11_unseen_0_ok (41, .invokevirtual 332, 3) (List.mem_of_getElem? (i := 22) rfl)) (y_kps hT hz (by omega) (fun g1 I1 W1 s1 s2 s3 => ?_))
          show ww l D tys A X fr lo mX11_unseen Q 44 [(0, .ref (ad 50)), (1, .int p), (2, .int q), (3, .int r)] [] g1
          refine w_iconst (by decide) (tX11_unseen_0_ok (44, .iconst (-1), 1) (List.mem_of_getElem? (i := 23) rfl)) (fun zv21 ze22 => ?_)
          refine w_istore [(4, .int zv21), (0, .ref (ad 50)), (1, .int p), (2, .int q), (3, .int r)] rfl (Nat.le_of_ble_eq_true rfl) (tX11_unseen_0_ok (45, .istore 4, 2) (List.mem_of_getElem? (i := 24) rfl)) ?_
          refine w_iconst (by decide) (tX11_unseen_0_ok (47, .iconst 0, 1) (List.mem_of_getElem? (i := 25) rfl)) (fun zv23 ze24 => ?_)
          refine w_istore [(5, .int zv23), (4, .int zv21), (0, .ref (ad 50)), (1, .int p), (2, .int q), (3, .int r)] rfl (Nat.le_of_ble_eq_true rfl) (tX11_unseen_0_ok (48, .istore 5, 2) (List.mem_of_getElem? (i := 26) rfl)) ?_
          have ye : c9_unseen p q r τ := by unfold c9_unseen; omega
          refine w_lv [(4, .int zv21), (5, .int zv23), (0, .ref (ad 50)), (1, .int p), (2, .int q), (3, .int r)] (by intro q hq; simp only [List.mem_cons, List.not_mem_nil, or_false] at hq ⊢; rcases hq with e | e | e | e | e | e <;> subst e <;> simp) ?_
          have e0 : zv23.toInt.toNat = 0 := by omega
          exact y9q_unL (I0 := I) hT hk ye (by omega) (by omega) (fun g v e => hq g v (Or.inl ⟨ye, e⟩)) (r.toInt.toNat + 1) _ _ _ _ _ (by omega) (by omega) (by rw [e0]; exact H.sd hk (hbo (by omega)) s1 s2) (by rw [e0]; show _ = (-1 : Int); omega) s3
        · refine w_ldcwN (u := -1000000) (wA6 178 rfl rfl) (tX11_unseen_0_ok (36, .ldc_w 292, 3) (List.mem_of_getElem? (i := 19) rfl)) (fun zv25 ze26 => ?_)
          have ze26 : zv25.toInt = -1000000 := ze26
          refine w_iret rfl (tX11_unseen_0_ok (39, .ireturn, 1) (List.mem_of_getElem? (i := 20) rfl)) ?_
          have no : ¬ c9_unseen p q r τ := by unfold c9_unseen; omega
          exact hq _ _ (Or.inr ⟨no, by omega⟩)
theorem y9q_unseen (hT : k_tys tys cA) {p q r : Int32} (hz : zr zNM cA ad I W O h) (hk : kok τ φ) (H : rS τ φ I W) (hf : 30 ≤ fr) (hlo : 900 ≤ lo) (hbo : ¬ τ.1 = 0 → bo (I 55) (I 56) (I 62) τ.2.2.1 τ.1) (hq : ∀ (g : ch_H) (v : Int32), (c9_unseen p q r τ ∧ v.toInt = fs9 (e9_un τ φ p.toInt.toNat q.toInt.toNat) (r.toInt.toNat + 1) ∨ ¬ c9_unseen p q r τ ∧ v.toInt = -1000000) → Q (some (.int v)) g) : ww l D tys A X fr lo mX11_unseen Q 0 [(0, .ref (ad 50)), (1, .int p), (2, .int q), (3, .int r)] [] h := by
  refine w_aload_n (List.Mem.head _) (tX11_unseen_0_ok (0, .aload_n 0, 1) (List.mem_of_getElem? (i := 0) rfl)) ?_
  refine w_iconst (by decide) (tX11_unseen_0_ok (1, .iconst 0, 1) (List.mem_of_getElem? (i := 1) rfl)) (fun zv1 ze2 => ?_)
  refine z_put (f := (I 50)) (own := 16) (k := 0) hz rfl rfl rfl rfl rfl rfl rfl (by decide) rfl ⟨rfl, rfl⟩ (tX11_unseen_0_ok (2, .putfield 85, 3) (List.mem_of_getElem? (i := 2) rfl)) (fun zh3 zI4 zq5 zz6 zf7 => ?_)
  exact y9q_unseen5 hT zz6 hk (H.th zq5) hf hlo (by rw [zq5, s2_n (by decide), s2_n (by decide), s2_n (by decide)]; exact hbo) hq
theorem z9q_ofL (hT : k_tys tys cA) {p q r s9 : Int32} (hk : kok τ φ) (hc : c9_often p q r s9 τ) (h4 : ∀ g, g < τ.2.1 → I0 20 g = GK φ.1 g) (h5 : ∀ a b, a < 18 → b < 18 → bt9 (I0 21 a) b = BSK φ.1 a b) (hf : 30 ≤ fr) (hlo : 800 ≤ lo) (hq : ∀ (g : ch_H) (v : Int32), v.toInt = q9_often s9.toInt (e9_of τ φ p.toInt.toNat q.toInt.toNat) (r.toInt.toNat + 1) → Q (some (.int v)) g) : ∀ (j9 : Nat) (h : ch_H) (I : zI) (W : zW) (ti fi la t9 : Int32), t9.toInt + j9 = r.toInt + 1 → 0 ≤ t9.toInt → sdC τ φ I0 t9.toInt.toNat I W → (ti.toInt = ct9 (e9_of τ φ p.toInt.toNat q.toInt.toNat) t9.toInt.toNat ∧ fi.toInt = fs9 (e9_of τ φ p.toInt.toNat q.toInt.toNat) t9.toInt.toNat ∧ la.toInt = ls9 (e9_of τ φ p.toInt.toNat q.toInt.toNat) t9.toInt.toNat) → zr zNC cA ad I W O h → ww l D tys A X fr lo mX10_often Q 62 [(5, .int ti), (6, .int fi), (7, .int la), (8, .int t9), (0, .ref (ad 0)), (1, .int p), (2, .int q), (3, .int r), (4, .int s9)] [] h := by
  obtain ⟨c1, ⟨c2, c3⟩, c4, c5⟩ := hc
  intro j9
  induction j9 using Nat.strongRecOn with
  | ind j9 ih =>
    intro h I W ti fi la t9 hj9 ht0 hs ⟨i1, i2, i3⟩ hz
    have n6 := hk.1.1
    obtain ⟨ga6, pe8, ta6⟩ := hk.2.2.2.1
    have fb := fs9_b (e9_of τ φ p.toInt.toNat q.toInt.toNat) t9.toInt.toNat
    have cb := ct9_b (e9_of τ φ p.toInt.toNat q.toInt.toNat) t9.toInt.toNat
    obtain ⟨a1, a2, a3, a4, a5, a6⟩ := id hs
    refine w_iload (List.Mem.tail _ (List.Mem.tail _ (List.Mem.tail _ (List.Mem.head _)))) (tX10_often_0_ok (62, .iload 8, 2) (List.mem_of_getElem? (i := 34) rfl)) ?_
    refine w_iload_n (List.Mem.tail _ (List.Mem.tail _ (List.Mem.tail _ (List.Mem.tail _ (List.Mem.tail _ (List.Mem.tail _ (List.Mem.tail _ (List.Mem.head _)))))))) (tX10_often_0_ok (64, .iload_n 3, 1) (List.mem_of_getElem? (i := 35) rfl)) ?_
    refine w_icmp_gt (tgt := 137) (tX10_often_0_ok (65, .if_icmp .gt 72, 3) (List.mem_of_getElem? (i := 36) rfl)) rfl (fun zb1 => ?_) (fun zb1 => ?_)
    · refine w_iload (List.Mem.tail _ (List.Mem.tail _ (List.Mem.tail _ (List.Mem.tail _ (List.Mem.tail _ (List.Mem.tail _ (List.Mem.tail _ (List.Mem.tail _ (List.Mem.head _))))))))) (tX10_often_1_ok (137, .iload 4, 2) (List.mem_of_getElem? (i := 10) rfl)) ?_
      refine w_if_ne (tgt := 145) (tX10_often_1_ok (139, .ifCond .ne 6, 3) (List.mem_of_getElem? (i := 11) rfl)) rfl (fun zb2 => ?_) (fun zb2 => ?_)
      · refine w_iload (List.Mem.tail _ (List.Mem.tail _ (List.Mem.tail _ (List.Mem.tail _ (List.Mem.tail _ (List.Mem.tail _ (List.Mem.tail _ (List.Mem.tail _ (List.Mem.head _))))))))) (tX10_often_1_ok (145, .iload 4, 2) (List.mem_of_getElem? (i := 14) rfl)) ?_
        refine w_iconst (by decide) (tX10_often_1_ok (147, .iconst 1, 1) (List.mem_of_getElem? (i := 15) rfl)) (fun zv3 ze4 => ?_)
        refine w_icmp_ne (tgt := 156) (tX10_often_1_ok (148, .if_icmp .ne 8, 3) (List.mem_of_getElem? (i := 16) rfl)) rfl (fun zb5 => ?_) (fun zb5 => ?_)
        · refine w_iload (List.Mem.tail _ (List.Mem.tail _ (List.Mem.head _))) (tX10_often_1_ok (156, .iload 7, 2) (List.mem_of_getElem? (i := 19) rfl)) ?_
          refine w_iret rfl (tX10_often_1_ok (158, .ireturn, 1) (List.mem_of_getElem? (i := 20) rfl)) ?_
          refine hq _ _ ?_
          unfold q9_often
          rw [show r.toInt.toNat + 1 = t9.toInt.toNat by omega]
          rw [if_neg (by omega)]
          rw [if_neg (by omega)]
          omega
        · refine w_iload (List.Mem.tail _ (List.Mem.head _)) (tX10_often_1_ok (151, .iload 6, 2) (List.mem_of_getElem? (i := 17) rfl)) ?_
          refine w_goto (tgt := 158) (tX10_often_1_ok (153, .goto 5, 3) (List.mem_of_getElem? (i := 18) rfl)) rfl ?_
          refine w_iret rfl (tX10_often_1_ok (158, .ireturn, 1) (List.mem_of_getElem? (i := 20) rfl)) ?_
          refine hq _ _ ?_
          unfold q9_often
          rw [show r.toInt.toNat + 1 = t9.toInt.toNat by omega]
          rw [if_neg (by omega)]
          rw [if_pos (by omega)]
          omega
      · refine w_iload (List.Mem.head _) (tX10_often_1_ok (142, .iload 5, 2) (List.mem_of_getElem? (i := 12) rfl)) ?_
        refine w_iret rfl (tX10_often_1_ok (144, .ireturn, 1) (List.mem_of_getElem? (i := 13) rfl)) ?_
        refine hq _ _ ?_
        unfold q9_often
        rw [show r.toInt.toNat + 1 = t9.toInt.toNat by omega]
        rw [if_pos (by omega)]
        omega
    · refine w_aload_n (List.Mem.tail _ (List.Mem.tail _ (List.Mem.tail _ (List.Mem.tail _ (List.Mem.head _))))) (tX10_often_0_ok (68, .aload_n 0, 1) (List.mem_of_getElem? (i := 37) rfl)) ?_
      refine z_getR (L1 := 4) (own := 15) (k := 9) hz rfl rfl rfl rfl rfl rfl rfl (by decide) (tX10_often_0_ok (69, .getfield 49, 3) (List.mem_of_getElem? (i := 38) rfl)) ?_
      refine w_aload_n (List.Mem.tail _ (List.Mem.tail _ (List.Mem.tail _ (List.Mem.tail _ (List.Mem.head _))))) (tX10_often_0_ok (72, .aload_n 0, 1) (List.mem_of_getElem? (i := 39) rfl)) ?_
      refine z_getR (L1 := 2) (own := 15) (k := 1) hz rfl rfl rfl rfl rfl rfl rfl (by decide) (tX10_often_0_ok (73, .getfield 19, 3) (List.mem_of_getElem? (i := 40) rfl)) ?_
      refine w_aload_n (List.Mem.tail _ (List.Mem.tail _ (List.Mem.tail _ (List.Mem.tail _ (List.Mem.head _))))) (tX10_often_0_ok (76, .aload_n 0, 1) (List.mem_of_getElem? (i := 41) rfl)) ?_
      refine z_getR (L1 := 106) (own := 15) (k := 4) hz rfl rfl rfl rfl rfl rfl rfl (by decide) (tX10_often_0_ok (77, .getfield 33, 3) (List.mem_of_getElem? (i := 42) rfl)) ?_
      refine w_aload_n (List.Mem.tail _ (List.Mem.tail _ (List.Mem.tail _ (List.Mem.tail _ (List.Mem.head _))))) (tX10_often_0_ok (80, .aload_n 0, 1) (List.mem_of_getElem? (i := 43) rfl)) ?_
      refine z_getR (L1 := 3) (own := 15) (k := 8) hz rfl rfl rfl rfl rfl rfl rfl (by decide) (tX10_often_0_ok (81, .getfield 42, 3) (List.mem_of_getElem? (i := 44) rfl)) ?_
      refine w_iload_n (List.Mem.tail _ (List.Mem.tail _ (List.Mem.tail _ (List.Mem.tail _ (List.Mem.tail _ (List.Mem.head _)))))) (tX10_often_0_ok (84, .iload_n 1, 1) (List.mem_of_getElem? (i := 45) rfl)) ?_
      refine w_iload_n (List.Mem.tail _ (List.Mem.tail _ (List.Mem.tail _ (List.Mem.tail _ (List.Mem.tail _ (List.Mem.tail _ (List.Mem.head _))))))) (tX10_often_0_ok (85, .iload_n 2, 1) (List.mem_of_getElem? (i := 46) rfl)) ?_
      refine w_callV (own := 15) (mi := 93) [.ref (ad 2), .ref (ad 106), .ref (ad 3), .int p, .int q] [] [(0, .ref (ad 4)), (1, .ref (ad 2)), (2, .ref (ad 106)), (3, .ref (ad 3)), (4, .int p), (5, .int q)] rfl (cllw_X10 (260, 0, 93) (List.mem_of_getElem? (i := 21) rfl)) rfl rfl (hz.ob rfl rfl) rfl (by omega) (w_lo (n := 25) rfl (by omega)) (Nat.le_of_ble_eq_true rfl) (Nat.le_of_ble_eq_true rfl) rfl (tX10_often_0_ok (86, .invokevirtual 260, 3) (List.mem_of_getElem? (i := 47) rfl)) (z_meeting hT (j := 1) (by decide) (T := (k9_f τ φ t9.toInt.toNat).1) (GH := GK φ.1) (BS := BSK φ.1) hz a1 (m_g_ok hk.1 hk.2.1.1 _) (fun q hq9 => (a3 q hq9).1) (fun g hg => by rw [a6 20 (by decide) (by decide) (by decide)]; exact h4 g hg) ga6 (fun a b ha hb => by rw [a6 21 (by decide) (by decide) (by decide)]; exact h5 a b ha hb) (by omega) (w_sub (n := 25) rfl (by omega)) c1.1 c1.2.1 (fun zv6 ze7 => ?_))
      show ww l D tys A X fr lo mX10_often Q 89 [(5, .int ti), (6, .int fi), (7, .int la), (8, .int t9), (0, .ref (ad 0)), (1, .int p), (2, .int q), (3, .int r), (4, .int s9)] [.int zv6] h
      refine w_if_eq (tgt := 114) (tX10_often_0_ok (89, .ifCond .eq 25, 3) (List.mem_of_getElem? (i := 48) rfl)) rfl (fun zb8 => ?_) (fun zb8 => ?_)
      · refine w_aload_n (List.Mem.tail _ (List.Mem.tail _ (List.Mem.tail _ (List.Mem.tail _ (List.Mem.head _))))) (tX10_often_0_ok (114, .aload_n 0, 1) (List.mem_of_getElem? (i := 59) rfl)) ?_
        refine z_getR (L1 := 4) (own := 15) (k := 9) hz rfl rfl rfl rfl rfl rfl rfl (by decide) (tX10_often_1_ok (115, .getfield 49, 3) (List.mem_of_getElem? (i := 0) rfl)) ?_
        refine w_aload_n (List.Mem.tail _ (List.Mem.tail _ (List.Mem.tail _ (List.Mem.tail _ (List.Mem.head _))))) (tX10_often_1_ok (118, .aload_n 0, 1) (List.mem_of_getElem? (i := 1) rfl)) ?_
        refine z_getR (L1 := 2) (own := 15) (k := 1) hz rfl rfl rfl rfl rfl rfl rfl (by decide) (tX10_often_1_ok (119, .getfield 19, 3) (List.mem_of_getElem? (i := 2) rfl)) ?_
        refine w_aload_n (List.Mem.tail _ (List.Mem.tail _ (List.Mem.tail _ (List.Mem.tail _ (List.Mem.head _))))) (tX10_often_1_ok (122, .aload_n 0, 1) (List.mem_of_getElem? (i := 3) rfl)) ?_
        refine z_getR (L1 := 106) (own := 15) (k := 4) hz rfl rfl rfl rfl rfl rfl rfl (by decide) (tX10_often_1_ok (123, .getfield 33, 3) (List.mem_of_getElem? (i := 4) rfl)) ?_
        refine w_iconst (by decide) (tX10_often_1_ok (126, .iconst 0, 1) (List.mem_of_getElem? (i := 5) rfl)) (fun zv9 ze10 => ?_)
        refine w_callV (own := 15) (mi := 94) [.ref (ad 2), .ref (ad 106), .int zv9] [] [(0, .ref (ad 4)), (1, .ref (ad 2)), (2, .ref (ad 106)), (3, .int zv9)] rfl (cllw_X10 (284, 0, 94) (List.mem_of_getElem? (i := 27) rfl)) rfl rfl (hz.ob rfl rfl) rfl (by omega) (w_lo (n := 27) rfl (by omega)) (Nat.le_of_ble_eq_true rfl) (Nat.le_of_ble_eq_true rfl) rfl (tX10_often_1_ok (127, .invokevirtual 284, 3) (List.mem_of_getElem? (i := 6) rfl)) (z_sdm hT hk hs hz (by omega) (by omega) (w_sub (n := 27) rfl (by omega)) (fun g2 I2 W2 v2 m1 m2 m3 => ?_))
        show ww l D tys A X fr lo mX10_often Q 130 [(5, .int ti), (6, .int fi), (7, .int la), (8, .int t9), (0, .ref (ad 0)), (1, .int p), (2, .int q), (3, .int r), (4, .int s9)] [.int v2] g2
        refine w_pop rfl (tX10_often_1_ok (130, .pop, 1) (List.mem_of_getElem? (i := 7) rfl)) ?_
        refine w_iinc (fun zv11 => [(8, .int zv11), (5, .int ti), (6, .int fi), (7, .int la), (0, .ref (ad 0)), (1, .int p), (2, .int q), (3, .int r), (4, .int s9)]) (fun _ => rfl) (List.Mem.tail _ (List.Mem.tail _ (List.Mem.tail _ (List.Mem.head _)))) (Nat.le_of_ble_eq_true rfl) (by decide) (by omega) (by omega) (tX10_often_1_ok (131, .iinc 8 1, 3) (List.mem_of_getElem? (i := 8) rfl)) (fun zv11 ze12 => ?_)
        refine w_goto (tgt := 62) (tX10_often_1_ok (134, .goto (-72), 3) (List.mem_of_getElem? (i := 9) rfl)) rfl ?_
        have ne : ¬ (e9_of τ φ p.toInt.toNat q.toInt.toNat) t9.toInt.toNat = true := by
          rcases ze7 with ⟨d1, d2⟩ | ⟨d1, d2⟩
          · exfalso
            omega
          · unfold e9_of
            rw [Bool.and_eq_true, decide_eq_true_eq]
            exact d2
        refine w_lv [(5, .int ti), (6, .int fi), (7, .int la), (8, .int zv11), (0, .ref (ad 0)), (1, .int p), (2, .int q), (3, .int r), (4, .int s9)] (by intro q hq; simp only [List.mem_cons, List.not_mem_nil, or_false] at hq ⊢; rcases hq with e | e | e | e | e | e | e | e | e <;> subst e <;> simp) ?_
        have ep : zv11.toInt.toNat = t9.toInt.toNat + 1 := by omega
        exact ih (j9 - 1) (by omega) g2 I2 W2 _ _ _ _ (by omega) (by omega) (by rw [ep]; exact m2) ⟨by rw [ep, ct9_n ne]; omega, by rw [ep, fs9_n (fun z => ne z.2)]; omega, by rw [ep, ls9_n ne]; omega⟩ m3
      · refine w_iinc (fun zv13 => [(5, .int zv13), (6, .int fi), (7, .int la), (8, .int t9), (0, .ref (ad 0)), (1, .int p), (2, .int q), (3, .int r), (4, .int s9)]) (fun _ => rfl) (List.Mem.head _) (Nat.le_of_ble_eq_true rfl) (by decide) (by omega) (by omega) (tX10_often_0_ok (92, .iinc 5 1, 3) (List.mem_of_getElem? (i := 49) rfl)) (fun zv13 ze14 => ?_)
        refine w_iload (List.Mem.tail _ (List.Mem.head _)) (tX10_often_0_ok (95, .iload 6, 2) (List.mem_of_getElem? (i := 50) rfl)) ?_
        refine w_iconst (by decide) (tX10_often_0_ok (97, .iconst (-1), 1) (List.mem_of_getElem? (i := 51) rfl)) (fun zv15 ze16 => ?_)
        refine w_icmp_ne (tgt := 106) (tX10_often_0_ok (98, .if_icmp .ne 8, 3) (List.mem_of_getElem? (i := 52) rfl)) rfl (fun zb17 => ?_) (fun zb17 => ?_)
        · refine w_iload (List.Mem.tail _ (List.Mem.head _)) (tX10_often_0_ok (106, .iload 6, 2) (List.mem_of_getElem? (i := 55) rfl)) ?_
          refine w_istore [(6, .int fi), (5, .int zv13), (7, .int la), (8, .int t9), (0, .ref (ad 0)), (1, .int p), (2, .int q), (3, .int r), (4, .int s9)] rfl (Nat.le_of_ble_eq_true rfl) (tX10_often_0_ok (108, .istore 6, 2) (List.mem_of_getElem? (i := 56) rfl)) ?_
          refine w_iload (List.Mem.tail _ (List.Mem.tail _ (List.Mem.tail _ (List.Mem.head _)))) (tX10_often_0_ok (110, .iload 8, 2) (List.mem_of_getElem? (i := 57) rfl)) ?_
          refine w_istore [(7, .int t9), (6, .int fi), (5, .int zv13), (8, .int t9), (0, .ref (ad 0)), (1, .int p), (2, .int q), (3, .int r), (4, .int s9)] rfl (Nat.le_of_ble_eq_true rfl) (tX10_often_0_ok (112, .istore 7, 2) (List.mem_of_getElem? (i := 58) rfl)) ?_
          refine w_aload_n (List.Mem.tail _ (List.Mem.tail _ (List.Mem.tail _ (List.Mem.tail _ (List.Mem.head _))))) (tX10_often_0_ok (114, .aload_n 0, 1) (List.mem_of_getElem? (i := 59) rfl)) ?_
          refine z_getR (L1 := 4) (own := 15) (k := 9) hz rfl rfl rfl rfl rfl rfl rfl (by decide) (tX10_often_1_ok (115, .getfield 49, 3) (List.mem_of_getElem? (i := 0) rfl)) ?_
          refine w_aload_n (List.Mem.tail _ (List.Mem.tail _ (List.Mem.tail _ (List.Mem.tail _ (List.Mem.head _))))) (tX10_often_1_ok (118, .aload_n 0, 1) (List.mem_of_getElem? (i := 1) rfl)) ?_
          refine z_getR (L1 := 2) (own := 15) (k := 1) hz rfl rfl rfl rfl rfl rfl rfl (by decide) (tX10_often_1_ok (119, .getfield 19, 3) (List.mem_of_getElem? (i := 2) rfl)) ?_
          refine w_aload_n (List.Mem.tail _ (List.Mem.tail _ (List.Mem.tail _ (List.Mem.tail _ (List.Mem.head _))))) (tX10_often_1_ok (122, .aload_n 0, 1) (List.mem_of_getElem? (i := 3) rfl)) ?_
          refine z_getR (L1 := 106) (own := 15) (k := 4) hz rfl rfl rfl rfl rfl rfl rfl (by decide) (tX10_often_1_ok (123, .getfield 33, 3) (List.mem_of_getElem? (i := 4) rfl)) ?_
          refine w_iconst (by decide) (tX10_often_1_ok (126, .iconst 0, 1) (List.mem_of_getElem? (i := 5) rfl)) (fun zv18 ze19 => ?_)
          refine w_callV (own := 15) (mi := 94) [.ref (ad 2), .ref (ad 106), .int zv18] [] [(0, .ref (ad 4)), (1, .ref (ad 2)), (2, .ref (ad 106)), (3, .int zv18)] rfl (cllw_X10 (284, 0, 94) (List.mem_of_getElem? (i := 27) rfl)) rfl rfl (hz.ob rfl rfl) rfl (by omega) (w_lo (n := 27) rfl (by omega)) (Nat.le_of_ble_eq_true rfl) (Nat.le_of_ble_eq_true rfl) rfl (tX10_often_1_ok (127, .invokevirtual 284, 3) (List.mem_of_getElem? (i := 6) rfl)) (z_sdm hT hk hs hz (by omega) (by omega) (w_sub (n := 27) rfl (by omega)) (fun g2 I2 W2 v2 m1 m2 m3 => ?_))
          show ww l D tys A X fr lo mX10_often Q 130 [(7, .int t9), (6, .int fi), (5, .int zv13), (8, .int t9), (0, .ref (ad 0)), (1, .int p), (2, .int q), (3, .int r), (4, .int s9)] [.int v2] g2
          refine w_pop rfl (tX10_often_1_ok (130, .pop, 1) (List.mem_of_getElem? (i := 7) rfl)) ?_
          refine w_iinc (fun zv20 => [(8, .int zv20), (7, .int t9), (6, .int fi), (5, .int zv13), (0, .ref (ad 0)), (1, .int p), (2, .int q), (3, .int r), (4, .int s9)]) (fun _ => rfl) (List.Mem.tail _ (List.Mem.tail _ (List.Mem.tail _ (List.Mem.head _)))) (Nat.le_of_ble_eq_true rfl) (by decide) (by omega) (by omega) (tX10_often_1_ok (131, .iinc 8 1, 3) (List.mem_of_getElem? (i := 8) rfl)) (fun zv20 ze21 => ?_)
          refine w_goto (tgt := 62) (tX10_often_1_ok (134, .goto (-72), 3) (List.mem_of_getElem? (i := 9) rfl)) rfl ?_
          have ye : (e9_of τ φ p.toInt.toNat q.toInt.toNat) t9.toInt.toNat = true := by
            rcases ze7 with ⟨d1, d2⟩ | ⟨d1, d2⟩
            · unfold e9_of
              rw [Bool.and_eq_true, decide_eq_true_eq]
              exact d2
            · exfalso
              omega
          refine w_lv [(5, .int zv13), (6, .int fi), (7, .int t9), (8, .int zv20), (0, .ref (ad 0)), (1, .int p), (2, .int q), (3, .int r), (4, .int s9)] (by intro q hq; simp only [List.mem_cons, List.not_mem_nil, or_false] at hq ⊢; rcases hq with e | e | e | e | e | e | e | e | e <;> subst e <;> simp) ?_
          have ep : zv20.toInt.toNat = t9.toInt.toNat + 1 := by omega
          exact ih (j9 - 1) (by omega) g2 I2 W2 _ _ _ _ (by omega) (by omega) (by rw [ep]; exact m2) ⟨by rw [ep, ct9_y ye]; omega, by rw [ep, fs9_n (fun z => by have := z.1; omega)]; omega, by rw [ep, ls9_y ye]; omega⟩ m3
        · refine w_iload (List.Mem.tail _ (List.Mem.tail _ (List.Mem.tail _ (List.Mem.head _)))) (tX10_often_0_ok (101, .iload 8, 2) (List.mem_of_getElem? (i := 53) rfl)) ?_
          refine w_goto (tgt := 108) (tX10_often_0_ok (103, .goto 5, 3) (List.mem_of_getElem? (i := 54) rfl)) rfl ?_
          refine w_istore [(6, .int t9), (5, .int zv13), (7, .int la), (8, .int t9), (0, .ref (ad 0)), (1, .int p), (2, .int q), (3, .int r), (4, .int s9)] rfl (Nat.le_of_ble_eq_true rfl) (tX10_often_0_ok (108, .istore 6, 2) (List.mem_of_getElem? (i := 56) rfl)) ?_
          refine w_iload (List.Mem.tail _ (List.Mem.tail _ (List.Mem.tail _ (List.Mem.head _)))) (tX10_often_0_ok (110, .iload 8, 2) (List.mem_of_getElem? (i := 57) rfl)) ?_
          refine w_istore [(7, .int t9), (6, .int t9), (5, .int zv13), (8, .int t9), (0, .ref (ad 0)), (1, .int p), (2, .int q), (3, .int r), (4, .int s9)] rfl (Nat.le_of_ble_eq_true rfl) (tX10_often_0_ok (112, .istore 7, 2) (List.mem_of_getElem? (i := 58) rfl)) ?_
          refine w_aload_n (List.Mem.tail _ (List.Mem.tail _ (List.Mem.tail _ (List.Mem.tail _ (List.Mem.head _))))) (tX10_often_0_ok (114, .aload_n 0, 1) (List.mem_of_getElem? (i := 59) rfl)) ?_
          refine z_getR (L1 := 4) (own := 15) (k := 9) hz rfl rfl rfl rfl rfl rfl rfl (by decide) (tX10_often_1_ok (115, .getfield 49, 3) (List.mem_of_getElem? (i := 0) rfl)) ?_
          refine w_aload_n (List.Mem.tail _ (List.Mem.tail _ (List.Mem.tail _ (List.Mem.tail _ (List.Mem.head _))))) (tX10_often_1_ok (118, .aload_n 0, 1) (List.mem_of_getElem? (i := 1) rfl)) ?_
          refine z_getR (L1 := 2) (own := 15) (k := 1) hz rfl rfl rfl rfl rfl rfl rfl (by decide) (tX10_often_1_ok (119, .getfield 19, 3) (List.mem_of_getElem? (i := 2) rfl)) ?_
          refine w_aload_n (List.Mem.tail _ (List.Mem.tail _ (List.Mem.tail _ (List.Mem.tail _ (List.Mem.head _))))) (tX10_often_1_ok (122, .aload_n 0, 1) (List.mem_of_getElem? (i := 3) rfl)) ?_
          refine z_getR (L1 := 106) (own := 15) (k := 4) hz rfl rfl rfl rfl rfl rfl rfl (by decide) (tX10_often_1_ok (123, .getfield 33, 3) (List.mem_of_getElem? (i := 4) rfl)) ?_
          refine w_iconst (by decide) (tX10_often_1_ok (126, .iconst 0, 1) (List.mem_of_getElem? (i := 5) rfl)) (fun zv22 ze23 => ?_)
          refine w_callV (own := 15) (mi := 94) [.ref (ad 2), .ref (ad 106), .int zv22] [] [(0, .ref (ad 4)), (1, .ref (ad 2)), (2, .ref (ad 106)), (3, .int zv22)] rfl (cllw_X10 (284, 0, 94) (List.mem_of_getElem? (i := 27) rfl)) rfl rfl (hz.ob rfl rfl) rfl (by omega) (w_lo (n := 27) rfl (by omega)) (Nat.le_of_ble_eq_true rfl) (Nat.le_of_ble_eq_true rfl) rfl (tX10_often_1_ok (127, .invokevirtual 284, 3) (List.mem_of_getElem? (i := 6) rfl)) (z_sdm hT hk hs hz (by omega) (by omega) (w_sub (n := 27) rfl (by omega)) (fun g2 I2 W2 v2 m1 m2 m3 => ?_))
          show ww l D tys A X fr lo mX10_often Q 130 [(7, .int t9), (6, .int t9), (5, .int zv13), (8, .int t9), (0, .ref (ad 0)), (1, .int p), (2, .int q), (3, .int r), (4, .int s9)] [.int v2] g2
          refine w_pop rfl (tX10_often_1_ok (130, .pop, 1) (List.mem_of_getElem? (i := 7) rfl)) ?_
          refine w_iinc (fun zv24 => [(8, .int zv24), (7, .int t9), (6, .int t9), (5, .int zv13), (0, .ref (ad 0)), (1, .int p), (2, .int q), (3, .int r), (4, .int s9)]) (fun _ => rfl) (List.Mem.tail _ (List.Mem.tail _ (List.Mem.tail _ (List.Mem.head _)))) (Nat.le_of_ble_eq_true rfl) (by decide) (by omega) (by omega) (tX10_often_1_ok (131, .iinc 8 1, 3) (List.mem_of_getElem? (i := 8) rfl)) (fun zv24 ze25 => ?_)
          refine w_goto (tgt := 62) (tX10_often_1_ok (134, .goto (-72), 3) (List.mem_of_getElem? (i := 9) rfl)) rfl ?_
          have ye : (e9_of τ φ p.toInt.toNat q.toInt.toNat) t9.toInt.toNat = true := by
            rcases ze7 with ⟨d1, d2⟩ | ⟨d1, d2⟩
            · unfold e9_of
              rw [Bool.and_eq_true, decide_eq_true_eq]
              exact d2
            · exfalso
              omega
          refine w_lv [(5, .int zv13), (6, .int t9), (7, .int t9), (8, .int zv24), (0, .ref (ad 0)), (1, .int p), (2, .int q), (3, .int r), (4, .int s9)] (by intro q hq; simp only [List.mem_cons, List.not_mem_nil, or_false] at hq ⊢; rcases hq with e | e | e | e | e | e | e | e | e <;> subst e <;> simp) ?_
          have ep : zv24.toInt.toNat = t9.toInt.toNat + 1 := by omega
          exact ih (j9 - 1) (by omega) g2 I2 W2 _ _ _ _ (by omega) (by omega) (by rw [ep]; exact m2) ⟨by rw [ep, ct9_y ye]; omega, by rw [ep, fs9_y (by omega) ye]; omega, by rw [ep, ls9_y ye]; omega⟩ m3
theorem y9q_ofL (hT : k_tys tys cA) {p q r s9 : Int32} (hk : kok τ φ) (hc : c9_often p q r s9 τ) (h4 : ∀ g, g < τ.2.1 → I0 59 (12 + g) = GK φ.1 g) (h5 : ∀ a b, a < 18 → b < 18 → I0 65 (18 * a + b) = φ.1 65 (18 * a + b) ∧ 0 ≤ (φ.1 65 (18 * a + b)).toInt ∧ (φ.1 65 (18 * a + b)).toInt ≤ 1) (hf : 30 ≤ fr) (hlo : 800 ≤ lo) (hq : ∀ (g : ch_H) (v : Int32), v.toInt = q9_often s9.toInt (e9_of τ φ p.toInt.toNat q.toInt.toNat) (r.toInt.toNat + 1) → Q (some (.int v)) g) : ∀ (j9 : Nat) (h : ch_H) (I : zI) (W : zW) (ti fi la t9 : Int32), t9.toInt + j9 = r.toInt + 1 → 0 ≤ t9.toInt → sdR τ φ I0 t9.toInt.toNat I W → (ti.toInt = ct9 (e9_of τ φ p.toInt.toNat q.toInt.toNat) t9.toInt.toNat ∧ fi.toInt = fs9 (e9_of τ φ p.toInt.toNat q.toInt.toNat) t9.toInt.toNat ∧ la.toInt = ls9 (e9_of τ φ p.toInt.toNat q.toInt.toNat) t9.toInt.toNat) → zr zNM cA ad I W O h → ww l D tys A X fr lo mX11_often Q 54 [(5, .int ti), (6, .int fi), (7, .int la), (8, .int t9), (0, .ref (ad 50)), (1, .int p), (2, .int q), (3, .int r), (4, .int s9)] [] h := by
  obtain ⟨c1, ⟨c2, c3⟩, c4, c5⟩ := hc
  intro j9
  induction j9 using Nat.strongRecOn with
  | ind j9 ih =>
    intro h I W ti fi la t9 hj9 ht0 hs ⟨i1, i2, i3⟩ hz
    have n6 := hk.1.1
    obtain ⟨ga6, pe8, ta6⟩ := hk.2.2.2.1
    have fb := fs9_b (e9_of τ φ p.toInt.toNat q.toInt.toNat) t9.toInt.toNat
    have cb := ct9_b (e9_of τ φ p.toInt.toNat q.toInt.toNat) t9.toInt.toNat
    obtain ⟨a1, a2, a3, a4, a5, a6⟩ := id hs
    refine w_iload (List.Mem.tail _ (List.Mem.tail _ (List.Mem.tail _ (List.Mem.head _)))) (tX11_often_0_ok (54, .iload 8, 2) (List.mem_of_getElem? (i := 30) rfl)) ?_
    refine w_iload_n (List.Mem.tail _ (List.Mem.tail _ (List.Mem.tail _ (List.Mem.tail _ (List.Mem.tail _ (List.Mem.tail _ (List.Mem.tail _ (List.Mem.head _)))))))) (tX11_often_0_ok (56, .iload_n 3, 1) (List.mem_of_getElem? (i := 31) rfl)) ?_
    refine w_icmp_gt (tgt := 104) (tX11_often_0_ok (57, .if_icmp .gt 47, 3) (List.mem_of_getElem? (i := 32) rfl)) rfl (fun zb1 => ?_) (fun zb1 => ?_)
    · refine w_aload_n (List.Mem.tail _ (List.Mem.tail _ (List.Mem.tail _ (List.Mem.tail _ (List.Mem.head _))))) (tX11_often_0_ok (104, .aload_n 0, 1) (List.mem_of_getElem? (i := 54) rfl)) ?_
      refine w_callV (own := 16) (mi := 232) [] [] [(0, .ref (ad 50))] rfl (cllw_X11 (338, 0, 232) (List.mem_of_getElem? (i := 53) rfl)) rfl rfl (hz.ob rfl rfl) rfl (by omega) (w_lo (n := 21) rfl (by omega)) (Nat.le_of_ble_eq_true rfl) (Nat.le_of_ble_eq_true rfl) rfl (tX11_often_0_ok (105, .invokevirtual 338, 3) (List.mem_of_getElem? (i := 55) rfl)) (y_pb hT hz (by omega) (fun g3 => ?_))
      show ww l D tys A X fr lo mX11_often Q 108 [(5, .int ti), (6, .int fi), (7, .int la), (8, .int t9), (0, .ref (ad 50)), (1, .int p), (2, .int q), (3, .int r), (4, .int s9)] [] g3
      refine w_iload (List.Mem.tail _ (List.Mem.tail _ (List.Mem.tail _ (List.Mem.tail _ (List.Mem.tail _ (List.Mem.tail _ (List.Mem.tail _ (List.Mem.tail _ (List.Mem.head _))))))))) (tX11_often_0_ok (108, .iload 4, 2) (List.mem_of_getElem? (i := 56) rfl)) ?_
      refine w_if_ne (tgt := 118) (tX11_often_0_ok (110, .ifCond .ne 8, 3) (List.mem_of_getElem? (i := 57) rfl)) rfl (fun zb2 => ?_) (fun zb2 => ?_)
      · refine w_iload (List.Mem.tail _ (List.Mem.tail _ (List.Mem.tail _ (List.Mem.tail _ (List.Mem.tail _ (List.Mem.tail _ (List.Mem.tail _ (List.Mem.tail _ (List.Mem.head _))))))))) (tX11_often_1_ok (118, .iload 4, 2) (List.mem_of_getElem? (i := 0) rfl)) ?_
        refine w_iconst (by decide) (tX11_often_1_ok (120, .iconst 1, 1) (List.mem_of_getElem? (i := 1) rfl)) (fun zv3 ze4 => ?_)
        refine w_icmp_ne (tgt := 129) (tX11_often_1_ok (121, .if_icmp .ne 8, 3) (List.mem_of_getElem? (i := 2) rfl)) rfl (fun zb5 => ?_) (fun zb5 => ?_)
        · refine w_iload (List.Mem.tail _ (List.Mem.tail _ (List.Mem.head _))) (tX11_often_1_ok (129, .iload 7, 2) (List.mem_of_getElem? (i := 5) rfl)) ?_
          refine w_iret rfl (tX11_often_1_ok (131, .ireturn, 1) (List.mem_of_getElem? (i := 6) rfl)) ?_
          refine hq _ _ ?_
          unfold q9_often
          rw [show r.toInt.toNat + 1 = t9.toInt.toNat by omega]
          rw [if_neg (by omega)]
          rw [if_neg (by omega)]
          omega
        · refine w_iload (List.Mem.tail _ (List.Mem.head _)) (tX11_often_1_ok (124, .iload 6, 2) (List.mem_of_getElem? (i := 3) rfl)) ?_
          refine w_goto (tgt := 131) (tX11_often_1_ok (126, .goto 5, 3) (List.mem_of_getElem? (i := 4) rfl)) rfl ?_
          refine w_iret rfl (tX11_often_1_ok (131, .ireturn, 1) (List.mem_of_getElem? (i := 6) rfl)) ?_
          refine hq _ _ ?_
          unfold q9_often
          rw [show r.toInt.toNat + 1 = t9.toInt.toNat by omega]
          rw [if_neg (by omega)]
          rw [if_pos (by omega)]
          omega
      · refine w_iload (List.Mem.head _) (tX11_often_0_ok (113, .iload 5, 2) (List.mem_of_getElem? (i := 58) rfl)) ?_
        refine w_goto (tgt := 131) (tX11_often_0_ok (115, .goto 16, 3) (List.mem_of_getElem? (i := 59) rfl)) rfl ?_
        refine w_iret rfl (tX11_often_1_ok (131, .ireturn, 1) (List.mem_of_getElem? (i := 6) rfl)) ?_
        refine hq _ _ ?_
        unfold q9_often
        rw [show r.toInt.toNat + 1 = t9.toInt.toNat by omega]
        rw [if_pos (by omega)]
        omega
    · refine w_aload_n (List.Mem.tail _ (List.Mem.tail _ (List.Mem.tail _ (List.Mem.tail _ (List.Mem.head _))))) (tX11_often_0_ok (60, .aload_n 0, 1) (List.mem_of_getElem? (i := 33) rfl)) ?_
      refine w_iload_n (List.Mem.tail _ (List.Mem.tail _ (List.Mem.tail _ (List.Mem.tail _ (List.Mem.tail _ (List.Mem.head _)))))) (tX11_often_0_ok (61, .iload_n 1, 1) (List.mem_of_getElem? (i := 34) rfl)) ?_
      refine w_iload_n (List.Mem.tail _ (List.Mem.tail _ (List.Mem.tail _ (List.Mem.tail _ (List.Mem.tail _ (List.Mem.tail _ (List.Mem.head _))))))) (tX11_often_0_ok (62, .iload_n 2, 1) (List.mem_of_getElem? (i := 35) rfl)) ?_
      refine w_callV (own := 16) (mi := 214) [.int p, .int q] [] [(0, .ref (ad 50)), (1, .int p), (2, .int q)] rfl (cllw_X11 (323, 0, 214) (List.mem_of_getElem? (i := 48) rfl)) rfl rfl (hz.ob rfl rfl) rfl (by omega) (w_lo (n := 22) rfl (by omega)) (Nat.le_of_ble_eq_true rfl) (Nat.le_of_ble_eq_true rfl) rfl (tX11_often_0_ok (63, .invokevirtual 323, 3) (List.mem_of_getElem? (i := 36) rfl)) (y_meets hT (BS := BSK φ.1) (GH := GK φ.1) (T := (k9_f τ φ t9.toInt.toNat).1) hz a1 (m_g_ok hk.1 hk.2.1.1 _) (fun q hq9 => (a3 q hq9).1) (fun g hg => by rw [a6 59 (by decide) (by decide)]; exact h4 g hg) ga6 (fun a b ha hb => by rw [a6 65 (by decide) (by decide)]; exact ⟨by rw [(h5 a b ha hb).1]; unfold BSK; exact (decide_eq_true_iff).symm, by rw [(h5 a b ha hb).1]; exact (h5 a b ha hb).2⟩) (by omega) (w_sub (n := 22) rfl (by omega)) c1.1 c1.2.1 (fun zv6 ze7 => ?_))
      show ww l D tys A X fr lo mX11_often Q 66 [(5, .int ti), (6, .int fi), (7, .int la), (8, .int t9), (0, .ref (ad 50)), (1, .int p), (2, .int q), (3, .int r), (4, .int s9)] [.int zv6] h
      refine w_if_eq (tgt := 91) (tX11_often_0_ok (66, .ifCond .eq 25, 3) (List.mem_of_getElem? (i := 37) rfl)) rfl (fun zb8 => ?_) (fun zb8 => ?_)
      · refine w_aload_n (List.Mem.tail _ (List.Mem.tail _ (List.Mem.tail _ (List.Mem.tail _ (List.Mem.head _))))) (tX11_often_0_ok (91, .aload_n 0, 1) (List.mem_of_getElem? (i := 48) rfl)) ?_
        refine w_iconst (by decide) (tX11_often_0_ok (92, .iconst 0, 1) (List.mem_of_getElem? (i := 49) rfl)) (fun zv9 ze10 => ?_)
        refine w_callV (own := 16) (mi := 215) [.int zv9] [] [(0, .ref (ad 50)), (1, .int zv9)] rfl (cllw_X11 (307, 0, 215) (List.mem_of_getElem? (i := 42) rfl)) rfl rfl (hz.ob rfl rfl) rfl (by omega) (w_lo (n := 28) rfl (by omega)) (Nat.le_of_ble_eq_true rfl) (Nat.le_of_ble_eq_true rfl) rfl (tX11_often_0_ok (93, .invokevirtual 307, 3) (List.mem_of_getElem? (i := 50) rfl)) (y_sdm hT hk hs hz (by omega) (by omega) (w_sub (n := 28) rfl (by omega)) (fun g2 I2 W2 v2 m1 m2 m3 => ?_))
        show ww l D tys A X fr lo mX11_often Q 96 [(5, .int ti), (6, .int fi), (7, .int la), (8, .int t9), (0, .ref (ad 50)), (1, .int p), (2, .int q), (3, .int r), (4, .int s9)] [.int v2] g2
        refine w_istore [(9, .int v2), (5, .int ti), (6, .int fi), (7, .int la), (8, .int t9), (0, .ref (ad 50)), (1, .int p), (2, .int q), (3, .int r), (4, .int s9)] rfl (Nat.le_of_ble_eq_true rfl) (tX11_often_0_ok (96, .istore 9, 2) (List.mem_of_getElem? (i := 51) rfl)) ?_
        refine w_iinc (fun zv11 => [(8, .int zv11), (9, .int v2), (5, .int ti), (6, .int fi), (7, .int la), (0, .ref (ad 50)), (1, .int p), (2, .int q), (3, .int r), (4, .int s9)]) (fun _ => rfl) (List.Mem.tail _ (List.Mem.tail _ (List.Mem.tail _ (List.Mem.tail _ (List.Mem.head _))))) (Nat.le_of_ble_eq_true rfl) (by decide) (by omega) (by omega) (tX11_often_0_ok (98, .iinc 8 1, 3) (List.mem_of_getElem? (i := 52) rfl)) (fun zv11 ze12 => ?_)
        refine w_goto (tgt := 54) (tX11_often_0_ok (101, .goto (-47), 3) (List.mem_of_getElem? (i := 53) rfl)) rfl ?_
        have ne : ¬ (e9_of τ φ p.toInt.toNat q.toInt.toNat) t9.toInt.toNat = true := by
          rcases ze7 with ⟨d1, d2⟩ | ⟨d1, d2⟩
          · exfalso
            omega
          · unfold e9_of
            rw [Bool.and_eq_true, decide_eq_true_eq]
            exact d2
        refine w_lv [(5, .int ti), (6, .int fi), (7, .int la), (8, .int zv11), (0, .ref (ad 50)), (1, .int p), (2, .int q), (3, .int r), (4, .int s9)] (by intro q hq; simp only [List.mem_cons, List.not_mem_nil, or_false] at hq ⊢; rcases hq with e | e | e | e | e | e | e | e | e <;> subst e <;> simp) ?_
        have ep : zv11.toInt.toNat = t9.toInt.toNat + 1 := by omega
        exact ih (j9 - 1) (by omega) g2 I2 W2 _ _ _ _ (by omega) (by omega) (by rw [ep]; exact m2) ⟨by rw [ep, ct9_n ne]; omega, by rw [ep, fs9_n (fun z => ne z.2)]; omega, by rw [ep, ls9_n ne]; omega⟩ m3
      · refine w_iinc (fun zv13 => [(5, .int zv13), (6, .int fi), (7, .int la), (8, .int t9), (0, .ref (ad 50)), (1, .int p), (2, .int q), (3, .int r), (4, .int s9)]) (fun _ => rfl) (List.Mem.head _) (Nat.le_of_ble_eq_true rfl) (by decide) (by omega) (by omega) (tX11_often_0_ok (69, .iinc 5 1, 3) (List.mem_of_getElem? (i := 38) rfl)) (fun zv13 ze14 => ?_)
        refine w_iload (List.Mem.tail _ (List.Mem.head _)) (tX11_often_0_ok (72, .iload 6, 2) (List.mem_of_getElem? (i := 39) rfl)) ?_
        refine w_iconst (by decide) (tX11_often_0_ok (74, .iconst (-1), 1) (List.mem_of_getElem? (i := 40) rfl)) (fun zv15 ze16 => ?_)
        refine w_icmp_ne (tgt := 83) (tX11_often_0_ok (75, .if_icmp .ne 8, 3) (List.mem_of_getElem? (i := 41) rfl)) rfl (fun zb17 => ?_) (fun zb17 => ?_)
        · refine w_iload (List.Mem.tail _ (List.Mem.head _)) (tX11_often_0_ok (83, .iload 6, 2) (List.mem_of_getElem? (i := 44) rfl)) ?_
          refine w_istore [(6, .int fi), (5, .int zv13), (7, .int la), (8, .int t9), (0, .ref (ad 50)), (1, .int p), (2, .int q), (3, .int r), (4, .int s9)] rfl (Nat.le_of_ble_eq_true rfl) (tX11_often_0_ok (85, .istore 6, 2) (List.mem_of_getElem? (i := 45) rfl)) ?_
          refine w_iload (List.Mem.tail _ (List.Mem.tail _ (List.Mem.tail _ (List.Mem.head _)))) (tX11_often_0_ok (87, .iload 8, 2) (List.mem_of_getElem? (i := 46) rfl)) ?_
          refine w_istore [(7, .int t9), (6, .int fi), (5, .int zv13), (8, .int t9), (0, .ref (ad 50)), (1, .int p), (2, .int q), (3, .int r), (4, .int s9)] rfl (Nat.le_of_ble_eq_true rfl) (tX11_often_0_ok (89, .istore 7, 2) (List.mem_of_getElem? (i := 47) rfl)) ?_
          refine w_aload_n (List.Mem.tail _ (List.Mem.tail _ (List.Mem.tail _ (List.Mem.tail _ (List.Mem.head _))))) (tX11_often_0_ok (91, .aload_n 0, 1) (List.mem_of_getElem? (i := 48) rfl)) ?_
          refine w_iconst (by decide) (tX11_often_0_ok (92, .iconst 0, 1) (List.mem_of_getElem? (i := 49) rfl)) (fun zv18 ze19 => ?_)
          refine w_callV (own := 16) (mi := 215) [.int zv18] [] [(0, .ref (ad 50)), (1, .int zv18)] rfl (cllw_X11 (307, 0, 215) (List.mem_of_getElem? (i := 42) rfl)) rfl rfl (hz.ob rfl rfl) rfl (by omega) (w_lo (n := 28) rfl (by omega)) (Nat.le_of_ble_eq_true rfl) (Nat.le_of_ble_eq_true rfl) rfl (tX11_often_0_ok (93, .invokevirtual 307, 3) (List.mem_of_getElem? (i := 50) rfl)) (y_sdm hT hk hs hz (by omega) (by omega) (w_sub (n := 28) rfl (by omega)) (fun g2 I2 W2 v2 m1 m2 m3 => ?_))
          show ww l D tys A X fr lo mX11_often Q 96 [(7, .int t9), (6, .int fi), (5, .int zv13), (8, .int t9), (0, .ref (ad 50)), (1, .int p), (2, .int q), (3, .int r), (4, .int s9)] [.int v2] g2
          refine w_istore [(9, .int v2), (7, .int t9), (6, .int fi), (5, .int zv13), (8, .int t9), (0, .ref (ad 50)), (1, .int p), (2, .int q), (3, .int r), (4, .int s9)] rfl (Nat.le_of_ble_eq_true rfl) (tX11_often_0_ok (96, .istore 9, 2) (List.mem_of_getElem? (i := 51) rfl)) ?_
          refine w_iinc (fun zv20 => [(8, .int zv20), (9, .int v2), (7, .int t9), (6, .int fi), (5, .int zv13), (0, .ref (ad 50)), (1, .int p), (2, .int q), (3, .int r), (4, .int s9)]) (fun _ => rfl) (List.Mem.tail _ (List.Mem.tail _ (List.Mem.tail _ (List.Mem.tail _ (List.Mem.head _))))) (Nat.le_of_ble_eq_true rfl) (by decide) (by omega) (by omega) (tX11_often_0_ok (98, .iinc 8 1, 3) (List.mem_of_getElem? (i := 52) rfl)) (fun zv20 ze21 => ?_)
          refine w_goto (tgt := 54) (tX11_often_0_ok (101, .goto (-47), 3) (List.mem_of_getElem? (i := 53) rfl)) rfl ?_
          have ye : (e9_of τ φ p.toInt.toNat q.toInt.toNat) t9.toInt.toNat = true := by
            rcases ze7 with ⟨d1, d2⟩ | ⟨d1, d2⟩
            · unfold e9_of
              rw [Bool.and_eq_true, decide_eq_true_eq]
              exact d2
            · exfalso
              omega
          refine w_lv [(5, .int zv13), (6, .int fi), (7, .int t9), (8, .int zv20), (0, .ref (ad 50)), (1, .int p), (2, .int q), (3, .int r), (4, .int s9)] (by intro q hq; simp only [List.mem_cons, List.not_mem_nil, or_false] at hq ⊢; rcases hq with e | e | e | e | e | e | e | e | e <;> subst e <;> simp) ?_
          have ep : zv20.toInt.toNat = t9.toInt.toNat + 1 := by omega
          exact ih (j9 - 1) (by omega) g2 I2 W2 _ _ _ _ (by omega) (by omega) (by rw [ep]; exact m2) ⟨by rw [ep, ct9_y ye]; omega, by rw [ep, fs9_n (fun z => by have := z.1; omega)]; omega, by rw [ep, ls9_y ye]; omega⟩ m3
        · refine w_iload (List.Mem.tail _ (List.Mem.tail _ (List.Mem.tail _ (List.Mem.head _)))) (tX11_often_0_ok (78, .iload 8, 2) (List.mem_of_getElem? (i := 42) rfl)) ?_
          refine w_goto (tgt := 85) (tX11_often_0_ok (80, .goto 5, 3) (List.mem_of_getElem? (i := 43) rfl)) rfl ?_
          refine w_istore [(6, .int t9), (5, .int zv13), (7, .int la), (8, .int t9), (0, .ref (ad 50)), (1, .int p), (2, .int q), (3, .int r), (4, .int s9)] rfl (Nat.le_of_ble_eq_true rfl) (tX11_often_0_ok (85, .istore 6, 2) (List.mem_of_getElem? (i := 45) rfl)) ?_
          refine w_iload (List.Mem.tail _ (List.Mem.tail _ (List.Mem.tail _ (List.Mem.head _)))) (tX11_often_0_ok (87, .iload 8, 2) (List.mem_of_getElem? (i := 46) rfl)) ?_
          refine w_istore [(7, .int t9), (6, .int t9), (5, .int zv13), (8, .int t9), (0, .ref (ad 50)), (1, .int p), (2, .int q), (3, .int r), (4, .int s9)] rfl (Nat.le_of_ble_eq_true rfl) (tX11_often_0_ok (89, .istore 7, 2) (List.mem_of_getElem? (i := 47) rfl)) ?_
          refine w_aload_n (List.Mem.tail _ (List.Mem.tail _ (List.Mem.tail _ (List.Mem.tail _ (List.Mem.head _))))) (tX11_often_0_ok (91, .aload_n 0, 1) (List.mem_of_getElem? (i := 48) rfl)) ?_
          refine w_iconst (by decide) (tX11_often_0_ok (92, .iconst 0, 1) (List.mem_of_getElem? (i := 49) rfl)) (fun zv22 ze23 => ?_)
          refine w_callV (own := 16) (mi := 215) [.int zv22] [] [(0, .ref (ad 50)), (1, .int zv22)] rfl (cllw_X11 (307, 0, 215) (List.mem_of_getElem? (i := 42) rfl)) rfl rfl (hz.ob rfl rfl) rfl (by omega) (w_lo (n := 28) rfl (by omega)) (Nat.le_of_ble_eq_true rfl) (Nat.le_of_ble_eq_true rfl) rfl (tX11_often_0_ok (93, .invokevirtual 307, 3) (List.mem_of_getElem? (i := 50) rfl)) (y_sdm hT hk hs hz (by omega) (by omega) (w_sub (n := 28) rfl (by omega)) (fun g2 I2 W2 v2 m1 m2 m3 => ?_))
          show ww l D tys A X fr lo mX11_often Q 96 [(7, .int t9), (6, .int t9), (5, .int zv13), (8, .int t9), (0, .ref (ad 50)), (1, .int p), (2, .int q), (3, .int r), (4, .int s9)] [.int v2] g2
          refine w_istore [(9, .int v2), (7, .int t9), (6, .int t9), (5, .int zv13), (8, .int t9), (0, .ref (ad 50)), (1, .int p), (2, .int q), (3, .int r), (4, .int s9)] rfl (Nat.le_of_ble_eq_true rfl) (tX11_often_0_ok (96, .istore 9, 2) (List.mem_of_getElem? (i := 51) rfl)) ?_
          refine w_iinc (fun zv24 => [(8, .int zv24), (9, .int v2), (7, .int t9), (6, .int t9), (5, .int zv13), (0, .ref (ad 50)), (1, .int p), (2, .int q), (3, .int r), (4, .int s9)]) (fun _ => rfl) (List.Mem.tail _ (List.Mem.tail _ (List.Mem.tail _ (List.Mem.tail _ (List.Mem.head _))))) (Nat.le_of_ble_eq_true rfl) (by decide) (by omega) (by omega) (tX11_often_0_ok (98, .iinc 8 1, 3) (List.mem_of_getElem? (i := 52) rfl)) (fun zv24 ze25 => ?_)
          refine w_goto (tgt := 54) (tX11_often_0_ok (101, .goto (-47), 3) (List.mem_of_getElem? (i := 53) rfl)) rfl ?_
          have ye : (e9_of τ φ p.toInt.toNat q.toInt.toNat) t9.toInt.toNat = true := by
            rcases ze7 with ⟨d1, d2⟩ | ⟨d1, d2⟩
            · unfold e9_of
              rw [Bool.and_eq_true, decide_eq_true_eq]
              exact d2
            · exfalso
              omega
          refine w_lv [(5, .int zv13), (6, .int t9), (7, .int t9), (8, .int zv24), (0, .ref (ad 50)), (1, .int p), (2, .int q), (3, .int r), (4, .int s9)] (by intro q hq; simp only [List.mem_cons, List.not_mem_nil, or_false] at hq ⊢; rcases hq with e | e | e | e | e | e | e | e | e <;> subst e <;> simp) ?_
          have ep : zv24.toInt.toNat = t9.toInt.toNat + 1 := by omega
          exact ih (j9 - 1) (by omega) g2 I2 W2 _ _ _ _ (by omega) (by omega) (by rw [ep]; exact m2) ⟨by rw [ep, ct9_y ye]; omega, by rw [ep, fs9_y (by omega) ye]; omega, by rw [ep, ls9_y ye]; omega⟩ m3
theorem z9q_often (hT : k_tys tys cA) {p q r s9 : Int32} (hz : zr zNC cA ad I W O h) (hk : kok τ φ) (H : cS τ φ I W) (hf : 30 ≤ fr) (hlo : 900 ≤ lo) (hq : ∀ (g : ch_H) (v : Int32), (c9_often p q r s9 τ ∧ v.toInt = q9_often s9.toInt (e9_of τ φ p.toInt.toNat q.toInt.toNat) (r.toInt.toNat + 1) ∨ ¬ c9_often p q r s9 τ ∧ v.toInt = -1000000) → Q (some (.int v)) g) : ww l D tys A X fr lo mX10_often Q 0 [(0, .ref (ad 0)), (1, .int p), (2, .int q), (3, .int r), (4, .int s9)] [] h := by
  have n6 := hk.1.1
  obtain ⟨ga6, pe8, ta6⟩ := hk.2.2.2.1
  obtain ⟨h1, ⟨h21, h22, h23⟩, h3, h4, h5, h6, h7, h8, h9, h10, h11⟩ := id H
  have r0 := h1.1
  refine w_aload_n (List.Mem.head _) (tX10_often_0_ok (0, .aload_n 0, 1) (List.mem_of_getElem? (i := 0) rfl)) ?_
  refine w_iload_n (List.Mem.tail _ (List.Mem.head _)) (tX10_often_0_ok (1, .iload_n 1, 1) (List.mem_of_getElem? (i := 1) rfl)) ?_
  refine w_callV (own := 15) (mi := 121) [.int p] [] [(0, .ref (ad 0)), (1, .int p)] rfl (cllw_X10 (253, 0, 121) (List.mem_of_getElem? (i := 19) rfl)) rfl rfl (hz.ob rfl rfl) rfl (by omega) (w_lo (n := 21) rfl (by omega)) (Nat.le_of_ble_eq_true rfl) (Nat.le_of_ble_eq_true rfl) rfl (tX10_often_0_ok (2, .invokevirtual 253, 3) (List.mem_of_getElem? (i := 2) rfl)) (z_isPlace hT hz r0 n6 h21 ga6 (by omega) (w_sub (n := 21) rfl (by omega)) (fun zv1 ze2 => ?_))
  show ww l D tys A X fr lo mX10_often Q 5 [(0, .ref (ad 0)), (1, .int p), (2, .int q), (3, .int r), (4, .int s9)] [.int zv1] h
  unfold isPl at ze2
  refine w_if_eq (tgt := 21) (tX10_often_0_ok (5, .ifCond .eq 16, 3) (List.mem_of_getElem? (i := 3) rfl)) rfl (fun zb3 => ?_) (fun zb3 => ?_)
  · refine w_ldcN (u := -1000000) (wA3 33 rfl rfl) (tX10_often_0_ok (21, .ldc 202, 2) (List.mem_of_getElem? (i := 11) rfl)) (fun zv4 ze5 => ?_)
    have ze5 : zv4.toInt = -1000000 := ze5
    refine w_iret rfl (tX10_often_0_ok (23, .ireturn, 1) (List.mem_of_getElem? (i := 12) rfl)) ?_
    have no : ¬ c9_often p q r s9 τ := by unfold c9_often c9_meet isPl; omega
    exact hq _ _ (Or.inr ⟨no, by omega⟩)
  · refine w_aload_n (List.Mem.head _) (tX10_often_0_ok (8, .aload_n 0, 1) (List.mem_of_getElem? (i := 4) rfl)) ?_
    refine w_iload_n (List.Mem.tail _ (List.Mem.tail _ (List.Mem.head _))) (tX10_often_0_ok (9, .iload_n 2, 1) (List.mem_of_getElem? (i := 5) rfl)) ?_
    refine w_callV (own := 15) (mi := 121) [.int q] [] [(0, .ref (ad 0)), (1, .int q)] rfl (cllw_X10 (253, 0, 121) (List.mem_of_getElem? (i := 19) rfl)) rfl rfl (hz.ob rfl rfl) rfl (by omega) (w_lo (n := 21) rfl (by omega)) (Nat.le_of_ble_eq_true rfl) (Nat.le_of_ble_eq_true rfl) rfl (tX10_often_0_ok (10, .invokevirtual 253, 3) (List.mem_of_getElem? (i := 6) rfl)) (z_isPlace hT hz r0 n6 h21 ga6 (by omega) (w_sub (n := 21) rfl (by omega)) (fun zv6 ze7 => ?_))
    show ww l D tys A X fr lo mX10_often Q 13 [(0, .ref (ad 0)), (1, .int p), (2, .int q), (3, .int r), (4, .int s9)] [.int zv6] h
    unfold isPl at ze7
    refine w_if_eq (tgt := 21) (tX10_often_0_ok (13, .ifCond .eq 8, 3) (List.mem_of_getElem? (i := 7) rfl)) rfl (fun zb8 => ?_) (fun zb8 => ?_)
    · refine w_ldcN (u := -1000000) (wA3 33 rfl rfl) (tX10_often_0_ok (21, .ldc 202, 2) (List.mem_of_getElem? (i := 11) rfl)) (fun zv9 ze10 => ?_)
      have ze10 : zv9.toInt = -1000000 := ze10
      refine w_iret rfl (tX10_often_0_ok (23, .ireturn, 1) (List.mem_of_getElem? (i := 12) rfl)) ?_
      have no : ¬ c9_often p q r s9 τ := by unfold c9_often c9_meet isPl; omega
      exact hq _ _ (Or.inr ⟨no, by omega⟩)
    · refine w_iload_n (List.Mem.tail _ (List.Mem.head _)) (tX10_often_0_ok (16, .iload_n 1, 1) (List.mem_of_getElem? (i := 8) rfl)) ?_
      refine w_iload_n (List.Mem.tail _ (List.Mem.tail _ (List.Mem.head _))) (tX10_often_0_ok (17, .iload_n 2, 1) (List.mem_of_getElem? (i := 9) rfl)) ?_
      refine w_icmp_ne (tgt := 24) (tX10_often_0_ok (18, .if_icmp .ne 6, 3) (List.mem_of_getElem? (i := 10) rfl)) rfl (fun zb11 => ?_) (fun zb11 => ?_)
      · refine w_iload_n (List.Mem.tail _ (List.Mem.tail _ (List.Mem.tail _ (List.Mem.head _)))) (tX10_often_0_ok (24, .iload_n 3, 1) (List.mem_of_getElem? (i := 13) rfl)) ?_
        refine w_iconst (by decide) (tX10_often_0_ok (25, .iconst 0, 1) (List.mem_of_getElem? (i := 14) rfl)) (fun zv12 ze13 => ?_)
        refine w_callS (own := 15) (mi := 124) [.int r, .int zv12] [] [(0, .int r), (1, .int zv12)] rfl (cllw_X10 (235, 1, 124) (List.mem_of_getElem? (i := 16) rfl)) rfl rfl (by omega) (w_lo (n := 21) rfl (by omega)) (Nat.le_of_ble_eq_true rfl) (Nat.le_of_ble_eq_true rfl) rfl (tX10_often_0_ok (26, .invokestatic 235, 3) (List.mem_of_getElem? (i := 15) rfl)) (z_isSpan (fun zv14 ze15 => ?_))
        show ww l D tys A X fr lo mX10_often Q 29 [(0, .ref (ad 0)), (1, .int p), (2, .int q), (3, .int r), (4, .int s9)] [.int zv14] h
        refine w_if_eq (tgt := 43) (tX10_often_0_ok (29, .ifCond .eq 14, 3) (List.mem_of_getElem? (i := 16) rfl)) rfl (fun zb16 => ?_) (fun zb16 => ?_)
        · refine w_ldcN (u := -1000000) (wA3 33 rfl rfl) (tX10_often_0_ok (43, .ldc 202, 2) (List.mem_of_getElem? (i := 22) rfl)) (fun zv17 ze18 => ?_)
          have ze18 : zv17.toInt = -1000000 := ze18
          refine w_iret rfl (tX10_often_0_ok (45, .ireturn, 1) (List.mem_of_getElem? (i := 23) rfl)) ?_
          have no : ¬ c9_often p q r s9 τ := by unfold c9_often c9_meet isPl; omega
          exact hq _ _ (Or.inr ⟨no, by omega⟩)
        · refine w_iload (List.Mem.tail _ (List.Mem.tail _ (List.Mem.tail _ (List.Mem.tail _ (List.Mem.head _))))) (tX10_often_0_ok (32, .iload 4, 2) (List.mem_of_getElem? (i := 17) rfl)) ?_
          refine w_if_lt (tgt := 43) (tX10_often_0_ok (34, .ifCond .lt 9, 3) (List.mem_of_getElem? (i := 18) rfl)) rfl (fun zb19 => ?_) (fun zb19 => ?_)
          · refine w_ldcN (u := -1000000) (wA3 33 rfl rfl) (tX10_often_0_ok (43, .ldc 202, 2) (List.mem_of_getElem? (i := 22) rfl)) (fun zv20 ze21 => ?_)
            have ze21 : zv20.toInt = -1000000 := ze21
            refine w_iret rfl (tX10_often_0_ok (45, .ireturn, 1) (List.mem_of_getElem? (i := 23) rfl)) ?_
            have no : ¬ c9_often p q r s9 τ := by unfold c9_often c9_meet isPl; omega
            exact hq _ _ (Or.inr ⟨no, by omega⟩)
          · refine w_iload (List.Mem.tail _ (List.Mem.tail _ (List.Mem.tail _ (List.Mem.tail _ (List.Mem.head _))))) (tX10_often_0_ok (37, .iload 4, 2) (List.mem_of_getElem? (i := 19) rfl)) ?_
            refine w_iconst (by decide) (tX10_often_0_ok (39, .iconst 2, 1) (List.mem_of_getElem? (i := 20) rfl)) (fun zv22 ze23 => ?_)
            refine w_icmp_le (tgt := 46) (tX10_often_0_ok (40, .if_icmp .le 6, 3) (List.mem_of_getElem? (i := 21) rfl)) rfl (fun zb24 => ?_) (fun zb24 => ?_)
            · refine w_aload_n (List.Mem.head _) (tX10_often_0_ok (46, .aload_n 0, 1) (List.mem_of_getElem? (i := 24) rfl)) ?_
              refine w_callV (own := 15) (mi := 141) [] [] [(0, .ref (ad 0))] rfl (cllw_X10 (271, 0, 141) (List.mem_of_getElem? (i := 23) rfl)) rfl rfl (hz.ob rfl rfl) rfl (by omega) (w_lo (n := 20) rfl (by omega)) (Nat.le_of_ble_eq_true rfl) (Nat.le_of_ble_eq_true rfl) rfl (tX10_often_0_ok (47, .invokevirtual 271, 3) (List.mem_of_getElem? (i := 25) rfl)) (z_setAside hT hz hk H (by omega) (w_sub (n := 20) rfl (by omega)) (fun g1 I1 W1 s1 s2 => ?_))
              show ww l D tys A X fr lo mX10_often Q 50 [(0, .ref (ad 0)), (1, .int p), (2, .int q), (3, .int r), (4, .int s9)] [] g1
              refine w_iconst (by decide) (tX10_often_0_ok (50, .iconst 0, 1) (List.mem_of_getElem? (i := 26) rfl)) (fun zv25 ze26 => ?_)
              refine w_istore [(5, .int zv25), (0, .ref (ad 0)), (1, .int p), (2, .int q), (3, .int r), (4, .int s9)] rfl (Nat.le_of_ble_eq_true rfl) (tX10_often_0_ok (51, .istore 5, 2) (List.mem_of_getElem? (i := 27) rfl)) ?_
              refine w_iconst (by decide) (tX10_often_0_ok (53, .iconst (-1), 1) (List.mem_of_getElem? (i := 28) rfl)) (fun zv27 ze28 => ?_)
              refine w_istore [(6, .int zv27), (5, .int zv25), (0, .ref (ad 0)), (1, .int p), (2, .int q), (3, .int r), (4, .int s9)] rfl (Nat.le_of_ble_eq_true rfl) (tX10_often_0_ok (54, .istore 6, 2) (List.mem_of_getElem? (i := 29) rfl)) ?_
              refine w_iconst (by decide) (tX10_often_0_ok (56, .iconst (-1), 1) (List.mem_of_getElem? (i := 30) rfl)) (fun zv29 ze30 => ?_)
              refine w_istore [(7, .int zv29), (6, .int zv27), (5, .int zv25), (0, .ref (ad 0)), (1, .int p), (2, .int q), (3, .int r), (4, .int s9)] rfl (Nat.le_of_ble_eq_true rfl) (tX10_often_0_ok (57, .istore 7, 2) (List.mem_of_getElem? (i := 31) rfl)) ?_
              refine w_iconst (by decide) (tX10_often_0_ok (59, .iconst 0, 1) (List.mem_of_getElem? (i := 32) rfl)) (fun zv31 ze32 => ?_)
              refine w_istore [(8, .int zv31), (7, .int zv29), (6, .int zv27), (5, .int zv25), (0, .ref (ad 0)), (1, .int p), (2, .int q), (3, .int r), (4, .int s9)] rfl (Nat.le_of_ble_eq_true rfl) (tX10_often_0_ok (60, .istore 8, 2) (List.mem_of_getElem? (i := 33) rfl)) ?_
              have ye : c9_often p q r s9 τ := by unfold c9_often c9_meet isPl; omega
              refine w_lv [(5, .int zv25), (6, .int zv27), (7, .int zv29), (8, .int zv31), (0, .ref (ad 0)), (1, .int p), (2, .int q), (3, .int r), (4, .int s9)] (by intro q hq; simp only [List.mem_cons, List.not_mem_nil, or_false] at hq ⊢; rcases hq with e | e | e | e | e | e | e | e | e <;> subst e <;> simp) ?_
              have e0 : zv31.toInt.toNat = 0 := by omega
              exact z9q_ofL (I0 := I) hT hk ye h4 h5 (by omega) (by omega) (fun g v e => hq g v (Or.inl ⟨ye, e⟩)) (r.toInt.toNat + 1) _ _ _ _ _ _ _ (by omega) (by omega) (by rw [e0]; exact s1) (by rw [e0]; exact ⟨by show _ = (0 : Int); omega, by show _ = (-1 : Int); omega, by show _ = (-1 : Int); omega⟩) s2
            · refine w_ldcN (u := -1000000) (wA3 33 rfl rfl) (tX10_often_0_ok (43, .ldc 202, 2) (List.mem_of_getElem? (i := 22) rfl)) (fun zv33 ze34 => ?_)
              have ze34 : zv33.toInt = -1000000 := ze34
              refine w_iret rfl (tX10_often_0_ok (45, .ireturn, 1) (List.mem_of_getElem? (i := 23) rfl)) ?_
              have no : ¬ c9_often p q r s9 τ := by unfold c9_often c9_meet isPl; omega
              exact hq _ _ (Or.inr ⟨no, by omega⟩)
      · refine w_ldcN (u := -1000000) (wA3 33 rfl rfl) (tX10_often_0_ok (21, .ldc 202, 2) (List.mem_of_getElem? (i := 11) rfl)) (fun zv35 ze36 => ?_)
        have ze36 : zv35.toInt = -1000000 := ze36
        refine w_iret rfl (tX10_often_0_ok (23, .ireturn, 1) (List.mem_of_getElem? (i := 12) rfl)) ?_
        have no : ¬ c9_often p q r s9 τ := by unfold c9_often c9_meet isPl; omega
        exact hq _ _ (Or.inr ⟨no, by omega⟩)
theorem y9q_often5 (hT : k_tys tys cA) {p q r s9 : Int32} (hz : zr zNM cA ad I W O h) (hk : kok τ φ) (H : rS τ φ I W) (hf : 30 ≤ fr) (hlo : 900 ≤ lo) (hbo : bo (I 55) (I 56) (I 62) τ.2.2.1 τ.1 ∨ τ.1 = 0 ∧ τ.2.1 = 0) (hq : ∀ (g : ch_H) (v : Int32), (c9_often p q r s9 τ ∧ v.toInt = q9_often s9.toInt (e9_of τ φ p.toInt.toNat q.toInt.toNat) (r.toInt.toNat + 1) ∨ ¬ c9_often p q r s9 τ ∧ v.toInt = -1000000) → Q (some (.int v)) g) : ww l D tys A X fr lo mX11_often Q 5 [(0, .ref (ad 50)), (1, .int p), (2, .int q), (3, .int r), (4, .int s9)] [] h := by
  have n6 := hk.1.1
  obtain ⟨ga6, pe8, ta6⟩ := hk.2.2.2.1
  obtain ⟨h1, ⟨h21, h22, h23⟩, ⟨h3, h32⟩, h4, h5, h6, h7, h8, h9, h10, h11⟩ := id H
  have r0 := h1.1
  refine w_aload_n (List.Mem.head _) (tX11_often_0_ok (5, .aload_n 0, 1) (List.mem_of_getElem? (i := 3) rfl)) ?_
  refine w_iload_n (List.Mem.tail _ (List.Mem.head _)) (tX11_often_0_ok (6, .iload_n 1, 1) (List.mem_of_getElem? (i := 4) rfl)) ?_
  refine w_iload_n (List.Mem.tail _ (List.Mem.tail _ (List.Mem.head _))) (tX11_often_0_ok (7, .iload_n 2, 1) (List.mem_of_getElem? (i := 5) rfl)) ?_
  refine w_callV (own := 16) (mi := 160) [.int p, .int q] [] [(0, .ref (ad 50)), (1, .int p), (2, .int q)] rfl (cllw_X11 (320, 0, 160) (List.mem_of_getElem? (i := 46) rfl)) rfl rfl (hz.ob rfl rfl) rfl (by omega) (w_lo (n := 22) rfl (by omega)) (Nat.le_of_ble_eq_true rfl) (Nat.le_of_ble_eq_true rfl) rfl (tX11_often_0_ok (8, .invokevirtual 320, 3) (List.mem_of_getElem? (i := 6) rfl)) (y_areTwo hT hz r0 n6 h21 ga6 (by omega) (w_sub (n := 22) rfl (by omega)) (fun zv1 ze2 => ?_))
  show ww l D tys A X fr lo mX11_often Q 11 [(0, .ref (ad 50)), (1, .int p), (2, .int q), (3, .int r), (4, .int s9)] [.int zv1] h
  unfold isPl at ze2
  refine w_if_eq (tgt := 34) (tX11_often_0_ok (11, .ifCond .eq 23, 3) (List.mem_of_getElem? (i := 7) rfl)) rfl (fun zb3 => ?_) (fun zb3 => ?_)
  · refine w_ldcwN (u := -1000000) (wA6 178 rfl rfl) (tX11_often_0_ok (34, .ldc_w 292, 3) (List.mem_of_getElem? (i := 18) rfl)) (fun zv4 ze5 => ?_)
    have ze5 : zv4.toInt = -1000000 := ze5
    refine w_iret rfl (tX11_often_0_ok (37, .ireturn, 1) (List.mem_of_getElem? (i := 19) rfl)) ?_
    have no : ¬ c9_often p q r s9 τ := by unfold c9_often c9_meet isPl; omega
    exact hq _ _ (Or.inr ⟨no, by omega⟩)
  · refine w_iload_n (List.Mem.tail _ (List.Mem.tail _ (List.Mem.tail _ (List.Mem.head _)))) (tX11_often_0_ok (14, .iload_n 3, 1) (List.mem_of_getElem? (i := 8) rfl)) ?_
    refine w_iconst (by decide) (tX11_often_0_ok (15, .iconst 0, 1) (List.mem_of_getElem? (i := 9) rfl)) (fun zv6 ze7 => ?_)
    refine w_bipush (by decide) (tX11_often_0_ok (16, .bipush 60, 2) (List.mem_of_getElem? (i := 10) rfl)) (fun zv8 ze9 => ?_)
    refine w_callS (own := 16) (mi := 199) [.int r, .int zv6, .int zv8] [] [(0, .int r), (1, .int zv6), (2, .int zv8)] rfl (cllw_X11 (207, 1, 199) (List.mem_of_getElem? (i := 2) rfl)) rfl rfl (by omega) (w_lo (n := 22) rfl (by omega)) (Nat.le_of_ble_eq_true rfl) (Nat.le_of_ble_eq_true rfl) rfl (tX11_often_0_ok (18, .invokestatic 207, 3) (List.mem_of_getElem? (i := 11) rfl)) (r_isIn (fun zv10 ze11 => ?_))
    show ww l D tys A X fr lo mX11_often Q 21 [(0, .ref (ad 50)), (1, .int p), (2, .int q), (3, .int r), (4, .int s9)] [.int zv10] h
    refine w_if_eq (tgt := 34) (tX11_often_0_ok (21, .ifCond .eq 13, 3) (List.mem_of_getElem? (i := 12) rfl)) rfl (fun zb12 => ?_) (fun zb12 => ?_)
    · refine w_ldcwN (u := -1000000) (wA6 178 rfl rfl) (tX11_often_0_ok (34, .ldc_w 292, 3) (List.mem_of_getElem? (i := 18) rfl)) (fun zv13 ze14 => ?_)
      have ze14 : zv13.toInt = -1000000 := ze14
      refine w_iret rfl (tX11_often_0_ok (37, .ireturn, 1) (List.mem_of_getElem? (i := 19) rfl)) ?_
      have no : ¬ c9_often p q r s9 τ := by unfold c9_often c9_meet isPl; omega
      exact hq _ _ (Or.inr ⟨no, by omega⟩)
    · refine w_iload (List.Mem.tail _ (List.Mem.tail _ (List.Mem.tail _ (List.Mem.tail _ (List.Mem.head _))))) (tX11_often_0_ok (24, .iload 4, 2) (List.mem_of_getElem? (i := 13) rfl)) ?_
      refine w_iconst (by decide) (tX11_often_0_ok (26, .iconst 0, 1) (List.mem_of_getElem? (i := 14) rfl)) (fun zv15 ze16 => ?_)
      refine w_iconst (by decide) (tX11_often_0_ok (27, .iconst 2, 1) (List.mem_of_getElem? (i := 15) rfl)) (fun zv17 ze18 => ?_)
      refine w_callS (own := 16) (mi := 199) [.int s9, .int zv15, .int zv17] [] [(0, .int s9), (1, .int zv15), (2, .int zv17)] rfl (cllw_X11 (207, 1, 199) (List.mem_of_getElem? (i := 2) rfl)) rfl rfl (by omega) (w_lo (n := 22) rfl (by omega)) (Nat.le_of_ble_eq_true rfl) (Nat.le_of_ble_eq_true rfl) rfl (tX11_often_0_ok (28, .invokestatic 207, 3) (List.mem_of_getElem? (i := 16) rfl)) (r_isIn (fun zv19 ze20 => ?_))
      show ww l D tys A X fr lo mX11_often Q 31 [(0, .ref (ad 50)), (1, .int p), (2, .int q), (3, .int r), (4, .int s9)] [.int zv19] h
      refine w_if_ne (tgt := 38) (tX11_often_0_ok (31, .ifCond .ne 7, 3) (List.mem_of_getElem? (i := 17) rfl)) rfl (fun zb21 => ?_) (fun zb21 => ?_)
      · refine w_iconst (by decide) (tX11_often_0_ok (38, .iconst 0, 1) (List.mem_of_getElem? (i := 20) rfl)) (fun zv22 ze23 => ?_)
        refine w_istore [(5, .int zv22), (0, .ref (ad 50)), (1, .int p), (2, .int q), (3, .int r), (4, .int s9)] rfl (Nat.le_of_ble_eq_true rfl) (tX11_often_0_ok (39, .istore 5, 2) (List.mem_of_getElem? (i := 21) rfl)) ?_
        refine w_iconst (by decide) (tX11_often_0_ok (41, .iconst (-1), 1) (List.mem_of_getElem? (i := 22) rfl)) (fun zv24 ze25 => ?_)
        refine w_istore [(6, .int zv24), (5, .int zv22), (0, .ref (ad 50)), (1, .int p), (2, .int q), (3, .int r), (4, .int s9)] rfl (Nat.le_of_ble_eq_true rfl) (tX11_often_0_ok (42, .istore 6, 2) (List.mem_of_getElem? (i := 23) rfl)) ?_
        refine w_iconst (by decide) (tX11_often_0_ok (44, .iconst (-1), 1) (List.mem_of_getElem? (i := 24) rfl)) (fun zv26 ze27 => ?_)
        refine w_istore [(7, .int zv26), (6, .int zv24), (5, .int zv22), (0, .ref (ad 50)), (1, .int p), (2, .int q), (3, .int r), (4, .int s9)] rfl (Nat.le_of_ble_eq_true rfl) (tX11_often_0_ok (45, .istore 7, 2) (List.mem_of_getElem? (i := 25) rfl)) ?_
        refine w_aload_n (List.Mem.tail _ (List.Mem.tail _ (List.Mem.tail _ (List.Mem.head _)))) (tX11_often_0_ok (47, .aload_n 0, 1) (List.mem_of_getElem? (i := 26) rfl)) ?_
        refine w_callV (own := 16) (mi := 208) [] [] [(0, .ref (ad 50))] rfl (cllw_X11 (332, 0, 208) (List.mem_of_getElem? (i := 51) rfl)) rfl rfl (hz.ob rfl rfl) rfl (by omega) (w_lo (n := 21) rfl (by omega)) (Nat.le_of_ble_eq_true rfl) (Nat.le_of_ble_eq_true rfl) rfl (tX11_often_0_ok (48, .invokevirtual 332, 3) (List.mem_of_getElem? (i := 27) rfl)) (y_kps hT hz (by omega) (fun g1 I1 W1 s1 s2 s3 => ?_))
        show ww l D tys A X fr lo mX11_often Q 51 [(7, .int zv26), (6, .int zv24), (5, .int zv22), (0, .ref (ad 50)), (1, .int p), (2, .int q), (3, .int r), (4, .int s9)] [] g1
        refine w_iconst (by decide) (tX11_often_0_ok (51, .iconst 0, 1) (List.mem_of_getElem? (i := 28) rfl)) (fun zv28 ze29 => ?_)
        refine w_istore [(8, .int zv28), (7, .int zv26), (6, .int zv24), (5, .int zv22), (0, .ref (ad 50)), (1, .int p), (2, .int q), (3, .int r), (4, .int s9)] rfl (Nat.le_of_ble_eq_true rfl) (tX11_often_0_ok (52, .istore 8, 2) (List.mem_of_getElem? (i := 29) rfl)) ?_
        have ye : c9_often p q r s9 τ := by unfold c9_often c9_meet isPl; omega
        have b9 : bo (I 55) (I 56) (I 62) τ.2.2.1 τ.1 := by
          rcases hbo with b | ⟨z1, z2⟩
          · exact b
          · exfalso
            unfold c9_often c9_meet isPl at ye
            omega
        refine w_lv [(5, .int zv22), (6, .int zv24), (7, .int zv26), (8, .int zv28), (0, .ref (ad 50)), (1, .int p), (2, .int q), (3, .int r), (4, .int s9)] (by intro q hq; simp only [List.mem_cons, List.not_mem_nil, or_false] at hq ⊢; rcases hq with e | e | e | e | e | e | e | e | e <;> subst e <;> simp) ?_
        have e0 : zv28.toInt.toNat = 0 := by omega
        exact y9q_ofL (I0 := I) hT hk ye h4 h5 (by omega) (by omega) (fun g v e => hq g v (Or.inl ⟨ye, e⟩)) (r.toInt.toNat + 1) _ _ _ _ _ _ _ (by omega) (by omega) (by rw [e0]; exact H.sd hk b9 s1 s2) (by rw [e0]; exact ⟨by show _ = (0 : Int); omega, by show _ = (-1 : Int); omega, by show _ = (-1 : Int); omega⟩) s3
      · refine w_ldcwN (u := -1000000) (wA6 178 rfl rfl) (tX11_often_0_ok (34, .ldc_w 292, 3) (List.mem_of_getElem? (i := 18) rfl)) (fun zv30 ze31 => ?_)
        have ze31 : zv30.toInt = -1000000 := ze31
        refine w_iret rfl (tX11_often_0_ok (37, .ireturn, 1) (List.mem_of_getElem? (i := 19) rfl)) ?_
        have no : ¬ c9_often p q r s9 τ := by unfold c9_often c9_meet isPl; omega
        exact hq _ _ (Or.inr ⟨no, by omega⟩)
theorem y9q_often (hT : k_tys tys cA) {p q r s9 : Int32} (hz : zr zNM cA ad I W O h) (hk : kok τ φ) (H : rS τ φ I W) (hf : 30 ≤ fr) (hlo : 900 ≤ lo) (hbo : bo (I 55) (I 56) (I 62) τ.2.2.1 τ.1 ∨ τ.1 = 0 ∧ τ.2.1 = 0) (hq : ∀ (g : ch_H) (v : Int32), (c9_often p q r s9 τ ∧ v.toInt = q9_often s9.toInt (e9_of τ φ p.toInt.toNat q.toInt.toNat) (r.toInt.toNat + 1) ∨ ¬ c9_often p q r s9 τ ∧ v.toInt = -1000000) → Q (some (.int v)) g) : ww l D tys A X fr lo mX11_often Q 0 [(0, .ref (ad 50)), (1, .int p), (2, .int q), (3, .int r), (4, .int s9)] [] h := by
  refine w_aload_n (List.Mem.head _) (tX11_often_0_ok (0, .aload_n 0, 1) (List.mem_of_getElem? (i := 0) rfl)) ?_
  refine w_iconst (by decide) (tX11_often_0_ok (1, .iconst 0, 1) (List.mem_of_getElem? (i := 1) rfl)) (fun zv1 ze2 => ?_)
  refine z_put (f := (I 50)) (own := 16) (k := 0) hz rfl rfl rfl rfl rfl rfl rfl (by decide) rfl ⟨rfl, rfl⟩ (tX11_often_0_ok (2, .putfield 85, 3) (List.mem_of_getElem? (i := 2) rfl)) (fun zh3 zI4 zq5 zz6 zf7 => ?_)
  exact y9q_often5 hT zz6 hk (H.th zq5) hf hlo (by rw [zq5, s2_n (by decide), s2_n (by decide), s2_n (by decide)]; exact hbo) hq
theorem FR_on {Sg : Nat → Option Nat} (hH : k_H Sg cA Lb h) (hz : zr zNM cA ad I W O h) (hk : kok τ φ) (hS : rS τ φ I W) (sm : sgM0 Sg (ad 50)) : bo (I 55) (I 56) (I 62) τ.2.2.1 τ.1 ∨ τ.1 = 0 ∧ τ.2.1 = 0 := by
  have e0 := hS.1.1
  have e1 := hS.2.1.1
  obtain ⟨s, l5, hc, hl⟩ := zM_lab hz hH (ag.rf h) sm
  rcases hc with ⟨rfl, rfl⟩ | ⟨rfl, rfl⟩
  · left
    have b5 := hz.bd (L := 55) rfl rfl (hl 55 rfl) hH ⟨rfl, rfl⟩
    have b6 := hz.bd (L := 56) rfl rfl (hl 56 rfl) hH ⟨rfl, rfl⟩
    have b2 := hz.bd (L := 62) rfl rfl (hl 62 rfl) hH ⟨rfl, rfl⟩
    have d5 : ∀ p, p < 6 → (k_el (Lb (lbR 50 55 55)) (9 * p + 3)).2 = (0, 99) ∧ (k_el (Lb (lbR 50 55 55)) (9 * p + 4)).2 = (0, 99) ∧ (k_el (Lb (lbR 50 55 55)) (9 * p + 8)).2.2 ≤ 2 * (p : Int) - 1 := by decide +kernel
    have d6 : ∀ k, k < 12 → (k_el (Lb (lbR 50 55 56)) (18 + k)).2 = (0, 99) := by decide +kernel
    have d2 : ∀ k, k < 8 → (k_el (Lb (lbR 50 55 62)) k).2 = (0, 9) := by decide +kernel
    refine ⟨fun p hp => ?_, fun k hk9 => ?_, fun k hk9 => ?_, hk.2.2.2.1.2.1, hk.1.1⟩
    · obtain ⟨e1, e2, e3⟩ := d5 p hp
      have x3 := b5 (9 * p + 3) (by omega)
      have x4 := b5 (9 * p + 4) (by omega)
      have x8 := b5 (9 * p + 8) (by omega)
      rw [e1] at x3
      rw [e2] at x4
      have x3 : 0 ≤ (I 55 (9 * p + 3)).toInt ∧ (I 55 (9 * p + 3)).toInt ≤ 99 := x3
      have x4 : 0 ≤ (I 55 (9 * p + 4)).toInt ∧ (I 55 (9 * p + 4)).toInt ≤ 99 := x4
      exact ⟨x3.1, x3.2, x4.1, x4.2, Int.le_trans x8.2 e3⟩
    · have x := b6 (18 + k) (by omega)
      rw [d6 k hk9] at x
      have x : 0 ≤ (I 56 (18 + k)).toInt ∧ (I 56 (18 + k)).toInt ≤ 99 := x
      exact ⟨by omega, by omega⟩
    · have x := b2 k hk9
      rw [d2 k hk9] at x
      exact x
  · right
    obtain ⟨fs, c, -, ty⟩ := hH.obj (hl 50 rfl) (L := lbR 70 69 50) rfl
    rw [hz.ob (L := 50) rfl rfl] at c
    cases c
    obtain ⟨v, e, tv⟩ := ty 32 _ rfl
    obtain ⟨x, rfl, x1, x2⟩ := tv
    rw [z_fsI (k := 32) rfl rfl] at e
    cases e
    have x1 : (0 : Int) ≤ (I 50 32).toInt := x1
    have x2 : (I 50 32).toInt ≤ 0 := x2
    obtain ⟨v2, f, tw⟩ := ty 20 _ rfl
    obtain ⟨y, rfl, y1, y2⟩ := tw
    rw [z_fsI (k := 20) rfl rfl] at f
    cases f
    have y1 : (0 : Int) ≤ (I 50 20).toInt := y1
    have y2 : (I 50 20).toInt ≤ 0 := y2
    omega
end
section
variable {l : Launch} {D : va_G} {tys : List (ClassId × FieldType)} {A : Nat → Prop} {X : State → Prop} {cA : Nat → ClassId} {x m : Nat}
theorem hC_unseen (hT : k_TX tys cA A X) {p q r : Int32} : sG (kE cA) l D tys A X cA 100 6000 0 0 mX10_unseen x [.int p, .int q, .int r] (fun σ => σ) (fun _ v => isI v) (fun _ u => (u.1, u.2)) (fun u v => b9_unseen p q r u.1 u.2 v) :=
  sG_an (fC_unseen hT) (fun Sg h σ θ hH sx _ H => by
    obtain ⟨-, ⟨hk, ad, I, W, O, hz, rfl, hS, hA⟩, -⟩ := H
    show ww l D tys A X 100 6000 mX10_unseen _ 0 [(0, .ref (ad 0)), (1, .int p), (2, .int q), (3, .int r)] [] h
    exact z9q_unseen hT.1 hz hk hS (by decide) (by decide) (fun g v e => ⟨v, rfl, e⟩))
theorem hR_unseen (hT : k_TX tys cA A X) {p q r : Int32} : tG (kF cA) l D tys A X cA 100 6000 0 0 mX11_unseen m [.int p, .int q, .int r] (fun σ => σ) (fun _ v => isI v) (fun _ u => (u.1, u.2)) (fun u v => b9_unseen p q r u.1 u.2 v) :=
  tG_an (fR_unseen hT) (fun Sg h σ θ hH sm _ H => by
    obtain ⟨-, ⟨hk, ad, I, W, O, hz, rfl, hS⟩, -⟩ := H
    show ww l D tys A X 100 6000 mX11_unseen _ 0 [(0, .ref (ad 50)), (1, .int p), (2, .int q), (3, .int r)] [] h
    exact y9q_unseen hT.1 hz hk hS (by decide) (by decide) (FR_bo hH hz hk hS sm.1) (fun g v e => ⟨v, rfl, e⟩))
theorem hC_often (hT : k_TX tys cA A X) {p q r s : Int32} : sG (kE cA) l D tys A X cA 100 6000 0 0 mX10_often x [.int p, .int q, .int r, .int s] (fun σ => σ) (fun _ v => isI v) (fun _ u => (u.1, u.2)) (fun u v => b9_often p q r s u.1 u.2 v) :=
  sG_an (fC_often hT) (fun Sg h σ θ hH sx _ H => by
    obtain ⟨-, ⟨hk, ad, I, W, O, hz, rfl, hS, hA⟩, -⟩ := H
    show ww l D tys A X 100 6000 mX10_often _ 0 [(0, .ref (ad 0)), (1, .int p), (2, .int q), (3, .int r), (4, .int s)] [] h
    exact z9q_often hT.1 hz hk hS (by decide) (by decide) (fun g v e => ⟨v, rfl, e⟩))
theorem hR_often (hT : k_TX tys cA A X) {p q r s : Int32} : tG (kF cA) l D tys A X cA 100 6000 0 0 mX11_often m [.int p, .int q, .int r, .int s] (fun σ => σ) (fun _ v => isI v) (fun _ u => (u.1, u.2)) (fun u v => b9_often p q r s u.1 u.2 v) :=
  tG_an (fR_often hT) (fun Sg h σ θ hH sm _ H => by
    obtain ⟨-, ⟨hk, ad, I, W, O, hz, rfl, hS⟩, -⟩ := H
    show ww l D tys A X 100 6000 mX11_often _ 0 [(0, .ref (ad 50)), (1, .int p), (2, .int q), (3, .int r), (4, .int s)] [] h
    exact y9q_often hT.1 hz hk hS (by decide) (by decide) (FR_on hH hz hk hS sm.1) (fun g v e => ⟨v, rfl, e⟩))
end
