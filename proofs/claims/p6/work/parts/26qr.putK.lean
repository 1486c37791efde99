/-! the reference's queries that put the TOWN back: a store with its types and what is kept (P) -/
def jX (Sg : Nat → Option Nat) (cA : Nat → ClassId) (ad : Nat → Nat) (P : zI → zW → Prop) (h : ch_H) : Prop := ∃ (I : zI) (W : zW) (O : zO), zr zNM cA ad I W O h ∧ k_H Sg cA Lb h ∧ P I W
/-- the TOWN is as it was; it is as it was in what is kept -/
def jF (I0 : zI) (W0 : zW) (I : zI) (W : zW) : Prop := jB I0 W0 I W ∧ jT I0 W0 I W
def jG (I0 : zI) (W0 : zW) (I : zI) (W : zW) : Prop := jB I0 W0 I W ∧ jK I0 W0 I W
section
variable {I0 I I1 : zI} {W0 W W1 : zW} {Wr : List (Nat × Nat)}
theorem jF.q (ok : okTn Wr = true) (H : jF I0 W0 I W) (q : zq Wr I W I1 W1) : jF I0 W0 I1 W1 := by
  have ok2 := ok
  unfold okTn at ok2
  simp only [Bool.and_eq_true] at ok2
  exact ⟨H.1.c ok2.1 q, H.2.c ok q⟩
theorem jG.q (ok : okKn Wr = true) (H : jG I0 W0 I W) (q : zq Wr I W I1 W1) : jG I0 W0 I1 W1 := by
  have ok2 := ok
  unfold okKn at ok2
  simp only [Bool.and_eq_true] at ok2
  exact ⟨H.1.c ok2.1 q, H.2.c ok q⟩
theorem jB.a {L : Nat} {f : Nat → Int32} (hL : L = 56 ∨ L = 57 ∨ L = 66 ∨ L = 67) (H : jB I0 W0 I W) : jB I0 W0 (s2 I L f) W := by
  refine ⟨fun q hq => ?_, fun k hk => ?_, H.2.2⟩
  · rw [s2_n (by omega)]
    exact H.1 q hq
  · rw [s2_n (by omega)]
    exact H.2.1 k hk
theorem jF.a {L : Nat} {f : Nat → Int32} (hL : L = 66 ∨ L = 67) (H : jF I0 W0 I W) : jF I0 W0 (s2 I L f) W := by
  refine ⟨H.1.a (by omega), fun k hk => ?_, H.2.2⟩
  rw [s2_n (by omega)]
  exact H.2.1 k hk
theorem jG.a {L : Nat} {f : Nat → Int32} (hL : L = 56 ∨ L = 66 ∨ L = 67) (H : jG I0 W0 I W) : jG I0 W0 (s2 I L f) W := by
  refine ⟨H.1.a (by omega), fun k hk => ?_, H.2.2⟩
  rw [s2_n (by omega)]
  exact H.2.1 k hk
theorem jB.f {k : Nat} {f : Nat → Int32} (hk : k = 0 ∨ 42 ≤ k) (e : ∀ j, j ≠ k → f j = I 50 j) (H : jB I0 W0 I W) : jB I0 W0 (s2 I 50 f) W := by
  refine ⟨fun q hq => ?_, fun j hj => ?_, H.2.2⟩
  · rw [s2_n (by omega)]
    exact H.1 q hq
  · rw [s2_s, e j (by omega)]
    exact H.2.1 j hj
theorem jF.f {k : Nat} {f : Nat → Int32} (hk : k = 0 ∨ 42 ≤ k) (e : ∀ j, j ≠ k → f j = I 50 j) (H : jF I0 W0 I W) : jF I0 W0 (s2 I 50 f) W := by
  refine ⟨H.1.f hk e, fun j hj => ?_, H.2.2⟩
  rw [s2_n (by decide)]
  exact H.2.1 j hj
theorem jG.f {k : Nat} {f : Nat → Int32} (hk : k = 0 ∨ 42 ≤ k) (e : ∀ j, j ≠ k → f j = I 50 j) (H : jG I0 W0 I W) : jG I0 W0 (s2 I 50 f) W := by
  refine ⟨H.1.f hk e, fun j hj => ?_, H.2.2⟩
  rw [s2_n (by decide)]
  exact H.2.1 j hj
theorem jG.w {x : Int64} (H : jG I0 W0 I W) : jG I0 W0 I (s2 W 50 (wpd (W 50) 36 x)) := by
  refine ⟨⟨H.1.1, H.1.2.1, ?_⟩, H.2.1, ?_⟩
  · rw [s2_s, wpd_n _ _ (by decide)]
    exact H.1.2.2
  · rw [s2_s, wpd_n _ _ (by decide)]
    exact H.2.2
theorem jF.rf : jF I W I W := ⟨⟨fun _ _ => rfl, fun _ _ => rfl, rfl⟩, fun _ _ => rfl, rfl⟩
end
section
variable {l : Launch} {D : va_G} {tys : List (ClassId × FieldType)} {A : Nat → Prop} {X : State → Prop} {fr lo : Nat} {M : ch_M} {Q : Option Value → ch_H → Prop} {pc : Nat} {lv : List (Nat × Value)} {st : List Value} {h g : ch_H} {cA : Nat → ClassId} {Sg : Nat → Option Nat} {ad : Nat → Nat} {I I1 I0 : zI} {W W1 W0 : zW} {O O1 : zO} {P P2 : zI → zW → Prop}
theorem jX.im (J : jX Sg cA ad P h) (i : ∀ I W, P I W → P2 I W) : jX Sg cA ad P2 h := by
  obtain ⟨I, W, O, hz, hH, hP⟩ := J
  exact ⟨I, W, O, hz, hH, i I W hP⟩
theorem k5_bd {k : Nat} {lo1 hi1 : Int} (hl : ∀ L, zNM L = true → Sg (ad L) = some (lbR 50 55 L)) (hz : zr zNM cA ad I W O h) (hH : k_H Sg cA Lb h) (ht : (Lb 50).2.2.2[k]? = some (0, lo1, hi1)) (h5 : (zZ 50).2.2.2[k]? = some (0, 0, 0)) : lo1 ≤ (I 50 k).toInt ∧ (I 50 k).toInt ≤ hi1 := by
  obtain ⟨fs, c, -, ty⟩ := hH.obj (hl 50 rfl) (L := 50) rfl
  rw [hz.ob (L := 50) (ts := (zZ 50).2.2.2) rfl rfl] at c
  cases c
  obtain ⟨v, e, x, rfl, x1, x2⟩ := ty k _ ht
  have e2 := z_fsI (ad := ad) (f := I 50) (w := W 50) (o := O 50) h5 rfl
  have e3 := e.symm.trans e2
  cases e3
  exact ⟨x1, x2⟩
/-- types behind a write -/
theorem kH_a {L n : Nat} {ts : List k_T} {f : Nat → Int32} (hl : ∀ L, zNM L = true → Sg (ad L) = some (lbR 50 55 L)) (hH : k_H Sg cA Lb h) (hz : zr zNM cA ad I W O h) (hz1 : zr zNM cA ad I1 W O g) (hf : zf zNM ad h g) (e : I1 = s2 I L f) (hZ : zZ L = (1, 0, n, ts)) (hB : (Lb (lbR 50 55 L)).1 = 1 ∧ (Lb (lbR 50 55 L)).2.1 = 0 ∧ (Lb (lbR 50 55 L)).2.2.1 = n) (hb : ∀ i, i < n → (k_el (Lb (lbR 50 55 L)) i).2.1 ≤ (f i).toInt ∧ (f i).toInt ≤ (k_el (Lb (lbR 50 55 L)) i).2.2) : k_H Sg cA Lb g := by
  subst e
  refine zH_of hH hz hz1 hf (fun L1 l1 n1 s1 => ?_)
  by_cases c : L1 = L
  · right
    subst c
    rw [hl L1 n1] at s1
    cases s1
    rw [s2_s]
    exact zc_arr hZ hB hb
  · left
    exact ⟨s2_n c, rfl⟩
theorem kH_i {k : Nat} {x : Int32} {lo1 hi1 : Int} (hl : ∀ L, zNM L = true → Sg (ad L) = some (lbR 50 55 L)) (hH : k_H Sg cA Lb h) (hz : zr zNM cA ad I W O h) (hz1 : zr zNM cA ad I1 W O g) (hf : zf zNM ad h g) (e : I1 = s2 I 50 (upd (I 50) k x)) (ht : (Lb 50).2.2.2[k]? = some (0, lo1, hi1)) (h5 : (zZ 50).2.2.2[k]? = some (0, 0, 0)) (hb : lo1 ≤ x.toInt ∧ x.toInt ≤ hi1) : k_H Sg cA Lb g := by
  subst e
  refine zH_of hH hz hz1 hf (fun L1 l1 n1 s1 => ?_)
  by_cases c : L1 = 50
  · right
    subst c
    rw [hl 50 rfl] at s1
    cases s1
    rw [s2_s]
    obtain ⟨e9, c9, k9⟩ := hH (ad 50) 50 (hl 50 rfl)
    rw [hz.ob (L := 50) (ts := (zZ 50).2.2.2) rfl rfl] at c9
    cases c9
    have := k9.set (k := k) (v := .int x) ht ⟨x, rfl, hb.1, hb.2⟩
    rw [z_fs_int (zZ 50).2.2.2 0 k _ h5 rfl, Nat.zero_add] at this
    exact this
  · left
    exact ⟨s2_n c, rfl⟩
theorem kH_j {k : Nat} {x : Int64} (hl : ∀ L, zNM L = true → Sg (ad L) = some (lbR 50 55 L)) (hH : k_H Sg cA Lb h) (hz : zr zNM cA ad I W O h) (hz1 : zr zNM cA ad I W1 O g) (hf : zf zNM ad h g) (e : W1 = s2 W 50 (wpd (W 50) k x)) (ht : (Lb 50).2.2.2[k]? = some (1, 0, 0)) (h5 : (zZ 50).2.2.2[k]? = some (1, 0, 0)) : k_H Sg cA Lb g := by
  subst e
  refine zH_of hH hz hz1 hf (fun L1 l1 n1 s1 => ?_)
  by_cases c : L1 = 50
  · right
    subst c
    rw [hl 50 rfl] at s1
    cases s1
    rw [s2_s]
    obtain ⟨e9, c9, k9⟩ := hH (ad 50) 50 (hl 50 rfl)
    rw [hz.ob (L := 50) (ts := (zZ 50).2.2.2) rfl rfl] at c9
    cases c9
    have := k9.set (k := k) (v := .long x) ht ⟨x, rfl⟩
    rw [z_fs_long (zZ 50).2.2.2 0 k _ h5 rfl, Nat.zero_add] at this
    exact this
  · left
    exact ⟨rfl, s2_n c⟩
/-! the rows of a walk -/
theorem x_getI {own ix k : Nat} {lo1 hi1 : Int} (hl : ∀ L, zNM L = true → Sg (ad L) = some (lbR 50 55 L)) (J : jX Sg cA ad P h) (ht : (Lb 50).2.2.2[k]? = some (0, lo1, hi1)) (h5 : (zZ 50).2.2.2[k]? = some (0, 0, 0)) (hR : pg_R own = M.1.cls) (hx : k_fd (pg_fl own) ix = some (10, k)) (hc : 10 < 11 ∧ k < ch_N 10) (hd : decode M.2.1 pc = .ok (.getfield ix, 3)) (kk : ∀ v : Int32, lo1 ≤ v.toInt → v.toInt ≤ hi1 → ww l D tys A X fr lo M Q (pc + 3) lv (.int v :: st) h) : ww l D tys A X fr lo M Q pc lv (.ref (ad 50) :: st) h := by
  obtain ⟨I, W, O, hz, hH, -⟩ := J
  obtain ⟨b1, b2⟩ := k5_bd hl hz hH ht h5
  exact z_get (L := 50) (ts := (zZ 50).2.2.2) hz rfl rfl h5 rfl rfl hR hx hc hd (kk _ b1 b2)
theorem x_getR {own ix k L1 : Nat} {z : Int} (J : jX Sg cA ad P h) (h5 : (zZ 50).2.2.2[k]? = some (2, z, 0)) (e : z.toNat = L1) (hR : pg_R own = M.1.cls) (hx : k_fd (pg_fl own) ix = some (10, k)) (hc : 10 < 11 ∧ k < ch_N 10) (hd : decode M.2.1 pc = .ok (.getfield ix, 3)) (kk : ww l D tys A X fr lo M Q (pc + 3) lv (.ref (ad L1) :: st) h) : ww l D tys A X fr lo M Q pc lv (.ref (ad 50) :: st) h := by
  obtain ⟨I, W, O, hz, hH, -⟩ := J
  exact z_getR (L := 50) (ts := (zZ 50).2.2.2) hz rfl rfl h5 rfl e hR hx hc hd kk
theorem x_iald {L n : Nat} {ts : List k_T} {i : Int32} {lo1 hi1 : Int} (hT : k_tys tys cA) (hl : ∀ L, zNM L = true → Sg (ad L) = some (lbR 50 55 L)) (J : jX Sg cA ad P h) (hL : zNM L = true) (hZ : zZ L = (1, 0, n, ts)) (hB : (Lb (lbR 50 55 L)).1 = 1 ∧ (Lb (lbR 50 55 L)).2.2.1 = n) (hb : ∀ q, q < n → lo1 ≤ (k_el (Lb (lbR 50 55 L)) q).2.1 ∧ (k_el (Lb (lbR 50 55 L)) q).2.2 ≤ hi1) (h0 : 0 ≤ i.toInt) (h1 : i.toInt < n) (hd : decode M.2.1 pc = .ok (.iaload, 1)) (kk : ∀ v : Int32, lo1 ≤ v.toInt → v.toInt ≤ hi1 → ww l D tys A X fr lo M Q (pc + 1) lv (.int v :: st) h) : ww l D tys A X fr lo M Q pc lv (.int i :: .ref (ad L) :: st) h := by
  obtain ⟨I, W, O, hz, hH, -⟩ := J
  have b := hz.bd hL hZ (hl L hL) hH hB i.toInt.toNat (by omega)
  have b2 := hb i.toInt.toNat (by omega)
  refine z_iald (f := I L) hT hz hL hZ rfl h0 h1 hd (fun v e => ?_)
  subst e
  exact kk _ (Int.le_trans b2.1 b.1) (Int.le_trans b.2 b2.2)
theorem x_iast {L n : Nat} {ts : List k_T} {i x : Int32} (hT : k_tys tys cA) (hl : ∀ L, zNM L = true → Sg (ad L) = some (lbR 50 55 L)) (J : jX Sg cA ad P h) (hP : ∀ I W f, P I W → P (s2 I L f) W) (hL : zNM L = true) (hZ : zZ L = (1, 0, n, ts)) (hB : (Lb (lbR 50 55 L)).1 = 1 ∧ (Lb (lbR 50 55 L)).2.1 = 0 ∧ (Lb (lbR 50 55 L)).2.2.1 = n) (h0 : 0 ≤ i.toInt) (h1 : i.toInt < n) (hb : (k_el (Lb (lbR 50 55 L)) i.toInt.toNat).2.1 ≤ x.toInt ∧ x.toInt ≤ (k_el (Lb (lbR 50 55 L)) i.toInt.toNat).2.2) (hd : decode M.2.1 pc = .ok (.iastore, 1)) (kk : ∀ g, jX Sg cA ad P g → ww l D tys A X fr lo M Q (pc + 1) lv st g) : ww l D tys A X fr lo M Q pc lv (.int x :: .int i :: .ref (ad L) :: st) h := by
  obtain ⟨I, W, O, hz, hH, hp⟩ := J
  refine z_iast (f := I L) hT hz hL hZ rfl h0 h1 hd (fun g I1 e z f => kk g ⟨I1, W, O, z, kH_a hl hH hz z f e hZ hB (fun q hq => ?_), by rw [e]; exact hP I W _ hp⟩)
  by_cases c : q = i.toInt.toNat
  · subst c
    rw [upd_s]
    exact hb
  · rw [upd_n _ _ c]
    exact hz.bd hL hZ (hl L hL) hH ⟨hB.1, hB.2.2⟩ q hq
theorem x_putI {own ix k : Nat} {x : Int32} {lo1 hi1 : Int} (hl : ∀ L, zNM L = true → Sg (ad L) = some (lbR 50 55 L)) (J : jX Sg cA ad P h) (hP : ∀ I W f, (∀ j, j ≠ k → f j = I 50 j) → P I W → P (s2 I 50 f) W) (ht : (Lb 50).2.2.2[k]? = some (0, lo1, hi1)) (h5 : (zZ 50).2.2.2[k]? = some (0, 0, 0)) (hb : lo1 ≤ x.toInt ∧ x.toInt ≤ hi1) (hR : pg_R own = M.1.cls) (hx : k_fd (pg_fl own) ix = some (10, k)) (hc : 10 < 11 ∧ k < ch_N 10) (hfin : (ch_T 10 k).2.2.2 = false) (hn : narrow (ch_ty 10 k) (.int x) = .int x ∧ fits (ch_ty 10 k) (.int x) = true) (hd : decode M.2.1 pc = .ok (.putfield ix, 3)) (kk : ∀ g, jX Sg cA ad P g → ww l D tys A X fr lo M Q (pc + 3) lv st g) : ww l D tys A X fr lo M Q pc lv (.int x :: .ref (ad 50) :: st) h := by
  obtain ⟨I, W, O, hz, hH, hp⟩ := J
  exact z_put (L := 50) (ts := (zZ 50).2.2.2) (f := I 50) hz rfl rfl h5 rfl rfl hR hx hc hfin hn hd (fun g I1 e z f => kk g ⟨I1, W, O, z, kH_i hl hH hz z f e ht h5 hb, by rw [e]; exact hP I W _ (fun j hj => upd_n _ _ hj) hp⟩)
theorem x_putJ {own ix k : Nat} {x : Int64} (hl : ∀ L, zNM L = true → Sg (ad L) = some (lbR 50 55 L)) (J : jX Sg cA ad P h) (hP : ∀ I W, P I W → P I (s2 W 50 (wpd (W 50) k x))) (ht : (Lb 50).2.2.2[k]? = some (1, 0, 0)) (h5 : (zZ 50).2.2.2[k]? = some (1, 0, 0)) (hR : pg_R own = M.1.cls) (hx : k_fd (pg_fl own) ix = some (10, k)) (hc : 10 < 11 ∧ k < ch_N 10) (hfin : (ch_T 10 k).2.2.2 = false) (hn : narrow (ch_ty 10 k) (.long x) = .long x ∧ fits (ch_ty 10 k) (.long x) = true) (hd : decode M.2.1 pc = .ok (.putfield ix, 3)) (kk : ∀ g, jX Sg cA ad P g → ww l D tys A X fr lo M Q (pc + 3) lv st g) : ww l D tys A X fr lo M Q pc lv (.long x :: .ref (ad 50) :: st) h := by
  obtain ⟨I, W, O, hz, hH, hp⟩ := J
  exact z_putJ (L := 50) (ts := (zZ 50).2.2.2) (w := W 50) hz rfl rfl h5 rfl rfl hR hx hc hfin hn hd (fun g W1 e z f => kk g ⟨I, W1, O, z, kH_j hl hH hz z f e ht h5, by rw [e]; exact hP I W hp⟩)
/-- a call by its contract -/
theorem z_cX {own ix mi cf cl : Nat} {M' : ch_M} {t' : List (Nat × Instr × Nat)} {o' : Nat} {ts : List k_T} {ret : Option k_T} {Wr : List (Nat × Nat)} (As rest : List Value) (hl : ∀ L, zNM L = true → Sg (ad L) = some (lbR 50 55 L)) (J : jX Sg cA ad P h) (hP : ∀ I W I1 W1, P I W → zq Wr I W I1 W1 → P I1 W1) (hR : pg_R own = M.1.cls) (hc : pg_call own (ix, 0, mi)) (he : pg[mi]? = some (M', t', o')) (hn : pg_na.getD mi 0 = As.length) (hpm : k_pM mi = M') (hci : vwCl[10]? = some (M'.1.cls, ch_T 10, ch_N 10)) (hs : k_sat l D tys A X Sg cA Lb (mi, (2, 50, 0) :: ts, [], ret, Wr, cf, cl)) (ha : okA ts As) (ok : okP Wr = true) (hf : cf + 1 ≤ fr) (hlo : 8 + (M'.2.2.1 + 11) + cl ≤ lo) (hst : (rest.map fun v => v.category).sum ≤ 8) (hlen : (lg_sl (.ref (ad 50) :: As)).length ≤ M'.2.2.1) (hd : decode M.2.1 pc = .ok (.invokevirtual ix, 3)) (kk : ∀ (r : Option Value) (g : ch_H), jX Sg cA ad P g → k_rt Sg ret r → ww l D tys A X fr lo M Q (pc + 3) lv (r.toList ++ rest) g) : ww l D tys A X fr lo M Q pc lv (As.reverse ++ .ref (ad 50) :: rest) h := by
  obtain ⟨I, W, O, hz, hH, hp⟩ := J
  obtain ⟨q1, q2⟩ := ha.at_ (Sg := Sg)
  exact z_cK As rest hl hz hH hR hc he hn hpm hci hs q1 q2 ok hf hlo hst hlen hd (fun r g I1 W1 O1 z1 z2 z3 z4 => kk r g ⟨I1, W1, O1, z1, z2, hP I W I1 W1 hp z3⟩ z4)
theorem z_cI {own ix mi cf cl : Nat} {M' : ch_M} {t' : List (Nat × Instr × Nat)} {o' : Nat} {ts : List k_T} {lo1 hi1 : Int} {Wr : List (Nat × Nat)} (As rest : List Value) (hl : ∀ L, zNM L = true → Sg (ad L) = some (lbR 50 55 L)) (J : jX Sg cA ad P h) (hP : ∀ I W I1 W1, P I W → zq Wr I W I1 W1 → P I1 W1) (hR : pg_R own = M.1.cls) (hc : pg_call own (ix, 0, mi)) (he : pg[mi]? = some (M', t', o')) (hn : pg_na.getD mi 0 = As.length) (hpm : k_pM mi = M') (hci : vwCl[10]? = some (M'.1.cls, ch_T 10, ch_N 10)) (hs : k_sat l D tys A X Sg cA Lb (mi, (2, 50, 0) :: ts, [], some (0, lo1, hi1), Wr, cf, cl)) (ha : okA ts As) (ok : okP Wr = true) (hf : cf + 1 ≤ fr) (hlo : 8 + (M'.2.2.1 + 11) + cl ≤ lo) (hst : (rest.map fun v => v.category).sum ≤ 8) (hlen : (lg_sl (.ref (ad 50) :: As)).length ≤ M'.2.2.1) (hd : decode M.2.1 pc = .ok (.invokevirtual ix, 3)) (kk : ∀ (v : Int32) (g : ch_H), jX Sg cA ad P g → lo1 ≤ v.toInt → v.toInt ≤ hi1 → ww l D tys A X fr lo M Q (pc + 3) lv (.int v :: rest) g) : ww l D tys A X fr lo M Q pc lv (As.reverse ++ .ref (ad 50) :: rest) h :=
  z_cX As rest hl J hP hR hc he hn hpm hci hs ha ok hf hlo hst hlen hd (fun r g J1 z => by
    obtain ⟨v, rfl, x, rfl, x1, x2⟩ := z
    exact kk x g J1 x1 x2)
theorem z_cN {own ix mi cf cl : Nat} {M' : ch_M} {t' : List (Nat × Instr × Nat)} {o' : Nat} {ts : List k_T} {Wr : List (Nat × Nat)} (As rest : List Value) (hl : ∀ L, zNM L = true → Sg (ad L) = some (lbR 50 55 L)) (J : jX Sg cA ad P h) (hP : ∀ I W I1 W1, P I W → zq Wr I W I1 W1 → P I1 W1) (hR : pg_R own = M.1.cls) (hc : pg_call own (ix, 0, mi)) (he : pg[mi]? = some (M', t', o')) (hn : pg_na.getD mi 0 = As.length) (hpm : k_pM mi = M') (hci : vwCl[10]? = some (M'.1.cls, ch_T 10, ch_N 10)) (hs : k_sat l D tys A X Sg cA Lb (mi, (2, 50, 0) :: ts, [], none, Wr, cf, cl)) (ha : okA ts As) (ok : okP Wr = true) (hf : cf + 1 ≤ fr) (hlo : 8 + (M'.2.2.1 + 11) + cl ≤ lo) (hst : (rest.map fun v => v.category).sum ≤ 8) (hlen : (lg_sl (.ref (ad 50) :: As)).length ≤ M'.2.2.1) (hd : decode M.2.1 pc = .ok (.invokevirtual ix, 3)) (kk : ∀ (g : ch_H), jX Sg cA ad P g → ww l D tys A X fr lo M Q (pc + 3) lv rest g) : ww l D tys A X fr lo M Q pc lv (As.reverse ++ .ref (ad 50) :: rest) h :=
  z_cX As rest hl J hP hR hc he hn hpm hci hs ha ok hf hlo hst hlen hd (fun r g J1 z => by
    have z : r = none := z
    subst z
    exact kk g J1)
end
