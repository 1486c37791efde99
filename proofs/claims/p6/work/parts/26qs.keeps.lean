/-! the reference's queries that put the TOWN back: the walks -/
section
variable {l : Launch} {D : va_G} {tys : List (ClassId × FieldType)} {A : Nat → Prop} {X : State → Prop} {fr lo : Nat} {M : ch_M} {Q : Option Value → ch_H → Prop} {pc : Nat} {lv : List (Nat × Value)} {st : List Value} {h : ch_H} {cA : Nat → ClassId} {Sg : Nat → Option Nat} {ad : Nat → Nat} {I0 : zI} {W0 : zW}
theorem i32b (x : Int32) : -2147483648 ≤ x.toInt ∧ x.toInt ≤ 2147483647 := by
  have h1 := x.le_toInt
  have h2 := x.toInt_lt
  exact ⟨by omega, by omega⟩
theorem w_mulA {x y : Int32} (hd : decode M.2.1 pc = .ok (.imul, 1)) (k : ∀ v : Int32, ww l D tys A X fr lo M Q (pc + 1) lv (.int v :: st) h) : ww l D tys A X fr lo M Q pc lv (.int y :: .int x :: st) h := tt_imul hd (k _)
theorem w_ldcwA {ix : Nat} {v : Int32} (hw : Cond.constant M.1.cls ix v ∈ wsA) (hd : decode M.2.1 pc = .ok (.ldc_w ix, 3)) (k : ∀ v : Int32, ww l D tys A X fr lo M Q (pc + 3) lv (.int v :: st) h) : ww l D tys A X fr lo M Q pc lv st h := tt_ldcw hw hd (k _)
theorem w_i2lA {x : Int32} (hd : decode M.2.1 pc = .ok (.i2l, 1)) (k : ∀ v : Int64, ww l D tys A X fr lo M Q (pc + 1) lv (.long v :: st) h) : ww l D tys A X fr lo M Q pc lv (.int x :: st) h := tt_i2l hd (k _)
theorem e56w {i : Nat} {x : Int32} (h1 : 18 ≤ i) (h2 : i < 30) (hx : 0 ≤ x.toInt ∧ x.toInt ≤ 99) : (k_el (Lb (lbR 50 55 56)) i).2.1 ≤ x.toInt ∧ x.toInt ≤ (k_el (Lb (lbR 50 55 56)) i).2.2 := by
  have hd : ∀ q, q < 30 → 18 ≤ q → (k_el (Lb (lbR 50 55 56)) q).2 = (0, 99) := by decide +kernel
  rw [hd i h2 h1]
  exact hx
theorem e56b {i : Nat} {x : Int32} (h1 : 6 ≤ i) (h2 : i < 18) : (k_el (Lb (lbR 50 55 56)) i).2.1 ≤ x.toInt ∧ x.toInt ≤ (k_el (Lb (lbR 50 55 56)) i).2.2 := by
  have hd : ∀ q, q < 18 → 6 ≤ q → (k_el (Lb (lbR 50 55 56)) q).2 = (-2147483648, 2147483647) := by decide +kernel
  rw [hd i h2 h1]
  exact i32b x
theorem e66 {i : Nat} {x : Int32} (hx : -4 ≤ x.toInt ∧ x.toInt ≤ 4) : (k_el (Lb (lbR 50 55 66)) i).2.1 ≤ x.toInt ∧ x.toInt ≤ (k_el (Lb (lbR 50 55 66)) i).2.2 := by
  have e : k_el (Lb (lbR 50 55 66)) i = (0, -4, 4) := rfl
  rw [e]
  exact hx
theorem e67 {i : Nat} {x : Int32} (hx : 0 ≤ x.toInt ∧ x.toInt ≤ 5) : (k_el (Lb (lbR 50 55 67)) i).2.1 ≤ x.toInt ∧ x.toInt ≤ (k_el (Lb (lbR 50 55 67)) i).2.2 := by
  have e : k_el (Lb (lbR 50 55 67)) i = (0, 0, 5) := rfl
  rw [e]
  exact hx
theorem e57 {i : Nat} (hi : i < 39) : (k_el (Lb (lbR 50 55 57)) i).2 = (k_el (Lb (lbR 50 55 56)) i).2 := by
  have hd : ∀ q, q < 39 → (k_el (Lb (lbR 50 55 57)) q).2 = (k_el (Lb (lbR 50 55 56)) q).2 := by decide +kernel
  exact hd i hi
theorem x_getE {P : zI → zW → Prop} {own ix k : Nat} {lo1 hi1 : Int} (hl : ∀ L, zNM L = true → Sg (ad L) = some (lbR 50 55 L)) (J : jX Sg cA ad P h) (hE : ∀ I W, P I W → I 50 k = I0 50 k) (ht : (Lb 50).2.2.2[k]? = some (0, lo1, hi1)) (h5 : (zZ 50).2.2.2[k]? = some (0, 0, 0)) (hR : pg_R own = M.1.cls) (hx : k_fd (pg_fl own) ix = some (10, k)) (hc : 10 < 11 ∧ k < ch_N 10) (hd : decode M.2.1 pc = .ok (.getfield ix, 3)) (kk : lo1 ≤ (I0 50 k).toInt → (I0 50 k).toInt ≤ hi1 → ww l D tys A X fr lo M Q (pc + 3) lv (.int (I0 50 k) :: st) h) : ww l D tys A X fr lo M Q pc lv (.ref (ad 50) :: st) h := by
  obtain ⟨I, W, O, hz, hH, hp⟩ := J
  obtain ⟨b1, b2⟩ := k5_bd hl hz hH ht h5
  have e := hE I W hp
  rw [e] at b1 b2
  refine z_get (L := 50) (ts := (zZ 50).2.2.2) hz rfl rfl h5 rfl rfl hR hx hc hd ?_
  rw [e]
  exact kk b1 b2
theorem y_hasA {x y : Int32} (hq : ∀ v : Int32, (v.toInt = 1 ∨ v.toInt = 0) → Q (some (.int v)) h) : ww l D tys A X fr lo mX11_has Q 0 [(0, .int x), (1, .int y)] [] h := by
  refine w_iload_n (List.Mem.head _) (tX11_has_0_ok (0, .iload_n 0, 1) (List.mem_of_getElem? (i := 0) rfl)) ?_
  refine w_iload_n (List.Mem.tail _ (List.Mem.head _)) (tX11_has_0_ok (1, .iload_n 1, 1) (List.mem_of_getElem? (i := 1) rfl)) ?_
  refine w_ishr (tX11_has_0_ok (2, .ishr, 1) (List.mem_of_getElem? (i := 2) rfl)) (fun zv1 ze2 => ?_)
  refine w_iconst (by decide) (tX11_has_0_ok (3, .iconst 1, 1) (List.mem_of_getElem? (i := 3) rfl)) (fun zv3 ze4 => ?_)
  refine w_iand (tX11_has_0_ok (4, .iand, 1) (List.mem_of_getElem? (i := 4) rfl)) (fun zv5 ze6 => ?_)
  refine w_iconst (by decide) (tX11_has_0_ok (5, .iconst 1, 1) (List.mem_of_getElem? (i := 5) rfl)) (fun zv7 ze8 => ?_)
  refine w_icmp_ne (tgt := 13) (tX11_has_0_ok (6, .if_icmp .ne 7, 3) (List.mem_of_getElem? (i := 6) rfl)) rfl (fun zb9 => ?_) (fun zb9 => ?_)
  · refine w_iconst (by decide) (tX11_has_0_ok (13, .iconst 0, 1) (List.mem_of_getElem? (i := 9) rfl)) (fun zv10 ze11 => ?_)
    refine w_zret rfl (by omega) (by omega) (tX11_has_0_ok (14, .ireturn, 1) (List.mem_of_getElem? (i := 10) rfl)) ?_
    exact hq _ (by omega)
  · refine w_iconst (by decide) (tX11_has_0_ok (9, .iconst 1, 1) (List.mem_of_getElem? (i := 7) rfl)) (fun zv12 ze13 => ?_)
    refine w_goto (tgt := 14) (tX11_has_0_ok (10, .goto 4, 3) (List.mem_of_getElem? (i := 8) rfl)) rfl ?_
    refine w_zret rfl (by omega) (by omega) (tX11_has_0_ok (14, .ireturn, 1) (List.mem_of_getElem? (i := 10) rfl)) ?_
    exact hq _ (by omega)
theorem y_isRule {O : zO} {I : zI} {W : zW} {n : Nat} {p : Int32} (hz : zr zNM cA ad I W O h) (hn : (I 50 7).toInt = (n : Int)) (hq : ∀ v : Int32, (v.toInt = 1 ∧ (0 ≤ p.toInt ∧ p.toInt < (n : Int)) ∨ v.toInt = 0) → Q (some (.int v)) h) : ww l D tys A X fr lo mX11_isRule Q 0 [(0, .ref (ad 50)), (1, .int p)] [] h := by
  refine w_iload_n (List.Mem.tail _ (List.Mem.head _)) (tX11_isRule_0_ok (0, .iload_n 1, 1) (List.mem_of_getElem? (i := 0) rfl)) ?_
  refine w_if_lt (tgt := 16) (tX11_isRule_0_ok (1, .ifCond .lt 15, 3) (List.mem_of_getElem? (i := 1) rfl)) rfl (fun zb1 => ?_) (fun zb1 => ?_)
  · refine w_iconst (by decide) (tX11_isRule_0_ok (16, .iconst 0, 1) (List.mem_of_getElem? (i := 8) rfl)) (fun zv2 ze3 => ?_)
    refine w_zret rfl (by omega) (by omega) (tX11_isRule_0_ok (17, .ireturn, 1) (List.mem_of_getElem? (i := 9) rfl)) ?_
    exact hq _ (by omega)
  · refine w_iload_n (List.Mem.tail _ (List.Mem.head _)) (tX11_isRule_0_ok (4, .iload_n 1, 1) (List.mem_of_getElem? (i := 2) rfl)) ?_
    refine w_aload_n (List.Mem.head _) (tX11_isRule_0_ok (5, .aload_n 0, 1) (List.mem_of_getElem? (i := 3) rfl)) ?_
    refine z_get (f := (I 50)) (own := 16) (k := 7) hz rfl rfl rfl rfl rfl rfl rfl (by decide) (tX11_isRule_0_ok (6, .getfield 243, 3) (List.mem_of_getElem? (i := 4) rfl)) ?_
    refine w_icmp_ge (tgt := 16) (tX11_isRule_0_ok (9, .if_icmp .ge 7, 3) (List.mem_of_getElem? (i := 5) rfl)) rfl (fun zb4 => ?_) (fun zb4 => ?_)
    · refine w_iconst (by decide) (tX11_isRule_0_ok (16, .iconst 0, 1) (List.mem_of_getElem? (i := 8) rfl)) (fun zv5 ze6 => ?_)
      refine w_zret rfl (by omega) (by omega) (tX11_isRule_0_ok (17, .ireturn, 1) (List.mem_of_getElem? (i := 9) rfl)) ?_
      exact hq _ (by omega)
    · refine w_iconst (by decide) (tX11_isRule_0_ok (12, .iconst 1, 1) (List.mem_of_getElem? (i := 6) rfl)) (fun zv7 ze8 => ?_)
      refine w_goto (tgt := 17) (tX11_isRule_0_ok (13, .goto 4, 3) (List.mem_of_getElem? (i := 7) rfl)) rfl ?_
      refine w_zret rfl (by omega) (by omega) (tX11_isRule_0_ok (17, .ireturn, 1) (List.mem_of_getElem? (i := 9) rfl)) ?_
      exact hq _ (by omega)
theorem y_isKept {O : zO} {I : zI} {W : zW} {p : Int32} (hz : zr zNM cA ad I W O h) (hf : 1 ≤ fr) (hlo : 30 ≤ lo) (hq : ∀ v : Int32, (v.toInt = 1 ∧ (1 ≤ p.toInt ∧ p.toInt ≤ 60) ∨ v.toInt = 0) → Q (some (.int v)) h) : ww l D tys A X fr lo mX11_isKept Q 0 [(0, .ref (ad 50)), (1, .int p)] [] h := by
  refine w_aload_n (List.Mem.head _) (tX11_isKept_0_ok (0, .aload_n 0, 1) (List.mem_of_getElem? (i := 0) rfl)) ?_
  refine z_get (f := (I 50)) (own := 16) (k := 20) hz rfl rfl rfl rfl rfl rfl rfl (by decide) (tX11_isKept_0_ok (1, .getfield 248, 3) (List.mem_of_getElem? (i := 1) rfl)) ?_
  refine w_if_le (tgt := 21) (tX11_isKept_0_ok (4, .ifCond .le 17, 3) (List.mem_of_getElem? (i := 2) rfl)) rfl (fun zb1 => ?_) (fun zb1 => ?_)
  · refine w_iconst (by decide) (tX11_isKept_0_ok (21, .iconst 0, 1) (List.mem_of_getElem? (i := 10) rfl)) (fun zv2 ze3 => ?_)
    refine w_zret rfl (by omega) (by omega) (tX11_isKept_0_ok (22, .ireturn, 1) (List.mem_of_getElem? (i := 11) rfl)) ?_
    exact hq _ (by omega)
  · refine w_iload_n (List.Mem.tail _ (List.Mem.head _)) (tX11_isKept_0_ok (7, .iload_n 1, 1) (List.mem_of_getElem? (i := 3) rfl)) ?_
    refine w_iconst (by decide) (tX11_isKept_0_ok (8, .iconst 1, 1) (List.mem_of_getElem? (i := 4) rfl)) (fun zv4 ze5 => ?_)
    refine w_bipush (by decide) (tX11_isKept_0_ok (9, .bipush 60, 2) (List.mem_of_getElem? (i := 5) rfl)) (fun zv6 ze7 => ?_)
    refine w_callS (own := 16) (mi := 199) [.int p, .int zv4, .int zv6] [] [(0, .int p), (1, .int zv4), (2, .int zv6)] rfl (cllw_X11 (207, 1, 199) (List.mem_of_getElem? (i := 2) rfl)) rfl rfl (by omega) (w_lo (n := 22) rfl (by omega)) (Nat.le_of_ble_eq_true rfl) (Nat.le_of_ble_eq_true rfl) rfl (tX11_isKept_0_ok (11, .invokestatic 207, 3) (List.mem_of_getElem? (i := 6) rfl)) (r_isIn (fun zv8 ze9 => ?_))
    show ww l D tys A X fr lo mX11_isKept Q 14 [(0, .ref (ad 50)), (1, .int p)] [.int zv8] h
    refine w_if_eq (tgt := 21) (tX11_isKept_0_ok (14, .ifCond .eq 7, 3) (List.mem_of_getElem? (i := 7) rfl)) rfl (fun zb10 => ?_) (fun zb10 => ?_)
    · refine w_iconst (by decide) (tX11_isKept_0_ok (21, .iconst 0, 1) (List.mem_of_getElem? (i := 10) rfl)) (fun zv11 ze12 => ?_)
      refine w_zret rfl (by omega) (by omega) (tX11_isKept_0_ok (22, .ireturn, 1) (List.mem_of_getElem? (i := 11) rfl)) ?_
      exact hq _ (by omega)
    · refine w_iconst (by decide) (tX11_isKept_0_ok (17, .iconst 1, 1) (List.mem_of_getElem? (i := 8) rfl)) (fun zv13 ze14 => ?_)
      refine w_goto (tgt := 22) (tX11_isKept_0_ok (18, .goto 4, 3) (List.mem_of_getElem? (i := 9) rfl)) rfl ?_
      refine w_zret rfl (by omega) (by omega) (tX11_isKept_0_ok (22, .ireturn, 1) (List.mem_of_getElem? (i := 11) rfl)) ?_
      exact hq _ (by omega)
theorem x_keepsL (hT : k_tys tys cA) (hl : ∀ L, zNM L = true → Sg (ad L) = some (lbR 50 55 L)) (hq : ∀ (g : ch_H), jX Sg cA ad (jG I0 W0) g → Q none g) : ∀ (j9 : Nat) (h : ch_H) (I : zI) (W : zW) (O : zO) (i : Int32), i.toInt + j9 = 39 → 0 ≤ i.toInt → (∀ q, q < i.toInt.toNat → I 57 q = I0 56 q) → zr zNM cA ad I W O h → k_H Sg cA Lb h → jF I0 W0 I W → ww l D tys A X fr lo mX11_keeps Q 2 [(1, .int i), (0, .ref (ad 50))] [] h := by
  intro j9
  induction j9 using Nat.strongRecOn with
  | ind j9 ih =>
    intro h I W O i hj9 hi0 hD hz hH hP
    refine w_iload_n (List.Mem.head _) (tX11_keeps_0_ok (2, .iload_n 1, 1) (List.mem_of_getElem? (i := 2) rfl)) ?_
    refine w_bipush (by decide) (tX11_keeps_0_ok (3, .bipush 39, 2) (List.mem_of_getElem? (i := 3) rfl)) (fun zv1 ze2 => ?_)
    refine w_icmp_ge (tgt := 26) (tX11_keeps_0_ok (5, .if_icmp .ge 21, 3) (List.mem_of_getElem? (i := 4) rfl)) rfl (fun zb3 => ?_) (fun zb3 => ?_)
    · refine w_aload_n (List.Mem.tail _ (List.Mem.head _)) (tX11_keeps_0_ok (26, .aload_n 0, 1) (List.mem_of_getElem? (i := 15) rfl)) ?_
      refine w_aload_n (List.Mem.tail _ (List.Mem.head _)) (tX11_keeps_0_ok (27, .aload_n 0, 1) (List.mem_of_getElem? (i := 16) rfl)) ?_
      refine z_getJ (own := 16) (k := 36) hz rfl rfl rfl rfl rfl rfl rfl (by decide) (tX11_keeps_0_ok (28, .getfield 270, 3) (List.mem_of_getElem? (i := 17) rfl)) ?_
      refine z_putJ (w := (W 50)) (own := 16) (k := 37) hz rfl rfl rfl rfl rfl rfl rfl (by decide) rfl ⟨rfl, rfl⟩ (tX11_keeps_0_ok (31, .putfield 314, 3) (List.mem_of_getElem? (i := 18) rfl)) (fun zh4 zI5 zq6 zz7 zf8 => ?_)
      refine w_vret rfl (tX11_keeps_0_ok (34, .return_, 1) (List.mem_of_getElem? (i := 19) rfl)) ?_
      have cw := ((congrFun zq6 50).trans (s2_s _ _ _))
      refine hq _ ⟨I, zI5, O, zz7, kH_j (k := 37) hl hH hz zz7 zf8 zq6 rfl rfl, ⟨hP.1.1, hP.1.2.1, ?_⟩, fun q hq9 => hD q (by omega), ?_⟩
      · rw [cw, wpd_n _ _ (by decide)]
        exact hP.1.2.2
      · rw [cw, wpd_s]
        exact hP.2.2
    · refine w_aload_n (List.Mem.tail _ (List.Mem.head _)) (tX11_keeps_0_ok (8, .aload_n 0, 1) (List.mem_of_getElem? (i := 5) rfl)) ?_
      refine z_getR (L1 := 57) (own := 16) (k := 23) hz rfl rfl rfl rfl rfl rfl rfl (by decide) (tX11_keeps_0_ok (9, .getfield 48, 3) (List.mem_of_getElem? (i := 6) rfl)) ?_
      refine w_iload_n (List.Mem.head _) (tX11_keeps_0_ok (12, .iload_n 1, 1) (List.mem_of_getElem? (i := 7) rfl)) ?_
      refine w_aload_n (List.Mem.tail _ (List.Mem.head _)) (tX11_keeps_0_ok (13, .aload_n 0, 1) (List.mem_of_getElem? (i := 8) rfl)) ?_
      refine z_getR (L1 := 56) (own := 16) (k := 22) hz rfl rfl rfl rfl rfl rfl rfl (by decide) (tX11_keeps_0_ok (14, .getfield 45, 3) (List.mem_of_getElem? (i := 9) rfl)) ?_
      refine w_iload_n (List.Mem.head _) (tX11_keeps_0_ok (17, .iload_n 1, 1) (List.mem_of_getElem? (i := 10) rfl)) ?_
      refine z_iald (f := (I 56)) hT hz rfl rfl rfl (by omega) (by omega) (tX11_keeps_0_ok (18, .iaload, 1) (List.mem_of_getElem? (i := 11) rfl)) (fun zv9 zu10 => ?_)
      have ze11 : zv9.toInt = ((I 56) i.toInt.toNat).toInt := congrArg _ zu10
      refine z_iast (f := (I 57)) hT hz rfl rfl rfl (by omega) (by omega) (tX11_keeps_0_ok (19, .iastore, 1) (List.mem_of_getElem? (i := 12) rfl)) (fun zh12 zI13 zq14 zz15 zf16 => ?_)
      refine w_iinc (fun zv17 => [(1, .int zv17), (0, .ref (ad 50))]) (fun _ => rfl) (List.Mem.head _) (Nat.le_of_ble_eq_true rfl) (by decide) (by omega) (by omega) (tX11_keeps_0_ok (20, .iinc 1 1, 3) (List.mem_of_getElem? (i := 13) rfl)) (fun zv17 ze18 => ?_)
      refine w_goto (tgt := 2) (tX11_keeps_0_ok (23, .goto (-21), 3) (List.mem_of_getElem? (i := 14) rfl)) rfl ?_
      have c1 := ((congrFun zq14 57).trans (s2_s _ _ _))
      refine w_lv [(1, .int zv17), (0, .ref (ad 50))] (by intro q hq; simp only [List.mem_cons, List.not_mem_nil, or_false] at hq ⊢; rcases hq with e | e <;> subst e <;> simp) ?_
      refine ih (j9 - 1) (by omega) zh12 zI13 W O _ (by omega) (by omega) (fun q a1 => ?_) zz15 (kH_a (L := 57) (n := 39) hl hH hz zz15 zf16 zq14 rfl ⟨rfl, rfl, rfl⟩ (fun q hq9 => ?_)) (by subst zq14; exact ⟨hP.1.a (by decide), fun k hk => (congrFun (s2_n (by decide)) k).trans (hP.2.1 k hk), hP.2.2⟩)
      · rw [c1]
        by_cases e : q = i.toInt.toNat
        · subst e
          rw [upd_s, zu10]
          exact hP.2.1 _ (by omega)
        · rw [upd_n _ _ e]
          exact hD q (by omega)
      · by_cases e : q = i.toInt.toNat
        · subst e
          have b9 := hz.bd (L := 56) rfl rfl (hl 56 rfl) hH ⟨rfl, rfl⟩ i.toInt.toNat (by omega)
          rw [upd_s, zu10]
          rw [e57 (i := i.toInt.toNat) (by omega)]
          exact b9
        · rw [upd_n _ _ e]
          exact hz.bd (L := 57) rfl rfl (hl 57 rfl) hH ⟨rfl, rfl⟩ q hq9
theorem x_keeps (hT : k_tys tys cA) (hl : ∀ L, zNM L = true → Sg (ad L) = some (lbR 50 55 L)) (J : jX Sg cA ad (jF I0 W0) h) (hq : ∀ (g : ch_H), jX Sg cA ad (jG I0 W0) g → Q none g) : ww l D tys A X fr lo mX11_keeps Q 0 [(0, .ref (ad 50))] [] h := by
  refine w_iconst (by decide) (tX11_keeps_0_ok (0, .iconst 0, 1) (List.mem_of_getElem? (i := 0) rfl)) (fun zv1 ze2 => ?_)
  refine w_istore_n [(1, .int zv1), (0, .ref (ad 50))] rfl (Nat.le_of_ble_eq_true rfl) (tX11_keeps_0_ok (1, .istore_n 1, 1) (List.mem_of_getElem? (i := 1) rfl)) ?_
  refine w_lv [(1, .int zv1), (0, .ref (ad 50))] (by intro q hq; simp only [List.mem_cons, List.not_mem_nil, or_false] at hq ⊢; rcases hq with e | e <;> subst e <;> simp) ?_
  obtain ⟨I, W, O, hz, hH, hP⟩ := J
  exact x_keepsL hT hl hq 39 h I W O _ (by omega) (by omega) (fun q a1 => absurd a1 (by omega)) hz hH hP
theorem x_putBackL (hT : k_tys tys cA) (hl : ∀ L, zNM L = true → Sg (ad L) = some (lbR 50 55 L)) (hq : ∀ (g : ch_H), jX Sg cA ad (jF I0 W0) g → Q none g) : ∀ (j9 : Nat) (h : ch_H) (I : zI) (W : zW) (O : zO) (i : Int32), i.toInt + j9 = 39 → 0 ≤ i.toInt → (∀ q, q < i.toInt.toNat → I 56 q = I0 56 q) → zr zNM cA ad I W O h → k_H Sg cA Lb h → jG I0 W0 I W → ww l D tys A X fr lo mX11_putBack Q 2 [(1, .int i), (0, .ref (ad 50))] [] h := by
  intro j9
  induction j9 using Nat.strongRecOn with
  | ind j9 ih =>
    intro h I W O i hj9 hi0 hD hz hH hP
    refine w_iload_n (List.Mem.head _) (tX11_putBack_0_ok (2, .iload_n 1, 1) (List.mem_of_getElem? (i := 2) rfl)) ?_
    refine w_bipush (by decide) (tX11_putBack_0_ok (3, .bipush 39, 2) (List.mem_of_getElem? (i := 3) rfl)) (fun zv1 ze2 => ?_)
    refine w_icmp_ge (tgt := 26) (tX11_putBack_0_ok (5, .if_icmp .ge 21, 3) (List.mem_of_getElem? (i := 4) rfl)) rfl (fun zb3 => ?_) (fun zb3 => ?_)
    · refine w_aload_n (List.Mem.tail _ (List.Mem.head _)) (tX11_putBack_0_ok (26, .aload_n 0, 1) (List.mem_of_getElem? (i := 15) rfl)) ?_
      refine w_aload_n (List.Mem.tail _ (List.Mem.head _)) (tX11_putBack_0_ok (27, .aload_n 0, 1) (List.mem_of_getElem? (i := 16) rfl)) ?_
      refine z_getJ (own := 16) (k := 37) hz rfl rfl rfl rfl rfl rfl rfl (by decide) (tX11_putBack_0_ok (28, .getfield 314, 3) (List.mem_of_getElem? (i := 17) rfl)) ?_
      refine z_putJ (w := (W 50)) (own := 16) (k := 36) hz rfl rfl rfl rfl rfl rfl rfl (by decide) rfl ⟨rfl, rfl⟩ (tX11_putBack_0_ok (31, .putfield 270, 3) (List.mem_of_getElem? (i := 18) rfl)) (fun zh4 zI5 zq6 zz7 zf8 => ?_)
      refine w_vret rfl (tX11_putBack_0_ok (34, .return_, 1) (List.mem_of_getElem? (i := 19) rfl)) ?_
      have cw := ((congrFun zq6 50).trans (s2_s _ _ _))
      refine hq _ ⟨I, zI5, O, zz7, kH_j (k := 36) hl hH hz zz7 zf8 zq6 rfl rfl, ⟨hP.1.1, hP.1.2.1, ?_⟩, fun q hq9 => hD q (by omega), ?_⟩
      · rw [cw, wpd_n _ _ (by decide)]
        exact hP.1.2.2
      · rw [cw, wpd_s]
        exact hP.2.2
    · refine w_aload_n (List.Mem.tail _ (List.Mem.head _)) (tX11_putBack_0_ok (8, .aload_n 0, 1) (List.mem_of_getElem? (i := 5) rfl)) ?_
      refine z_getR (L1 := 56) (own := 16) (k := 22) hz rfl rfl rfl rfl rfl rfl rfl (by decide) (tX11_putBack_0_ok (9, .getfield 45, 3) (List.mem_of_getElem? (i := 6) rfl)) ?_
      refine w_iload_n (List.Mem.head _) (tX11_putBack_0_ok (12, .iload_n 1, 1) (List.mem_of_getElem? (i := 7) rfl)) ?_
      refine w_aload_n (List.Mem.tail _ (List.Mem.head _)) (tX11_putBack_0_ok (13, .aload_n 0, 1) (List.mem_of_getElem? (i := 8) rfl)) ?_
      refine z_getR (L1 := 57) (own := 16) (k := 23) hz rfl rfl rfl rfl rfl rfl rfl (by decide) (tX11_putBack_0_ok (14, .getfield 48, 3) (List.mem_of_getElem? (i := 9) rfl)) ?_
      refine w_iload_n (List.Mem.head _) (tX11_putBack_0_ok (17, .iload_n 1, 1) (List.mem_of_getElem? (i := 10) rfl)) ?_
      refine z_iald (f := (I 57)) hT hz rfl rfl rfl (by omega) (by omega) (tX11_putBack_0_ok (18, .iaload, 1) (List.mem_of_getElem? (i := 11) rfl)) (fun zv9 zu10 => ?_)
      have ze11 : zv9.toInt = ((I 57) i.toInt.toNat).toInt := congrArg _ zu10
      refine z_iast (f := (I 56)) hT hz rfl rfl rfl (by omega) (by omega) (tX11_putBack_0_ok (19, .iastore, 1) (List.mem_of_getElem? (i := 12) rfl)) (fun zh12 zI13 zq14 zz15 zf16 => ?_)
      refine w_iinc (fun zv17 => [(1, .int zv17), (0, .ref (ad 50))]) (fun _ => rfl) (List.Mem.head _) (Nat.le_of_ble_eq_true rfl) (by decide) (by omega) (by omega) (tX11_putBack_0_ok (20, .iinc 1 1, 3) (List.mem_of_getElem? (i := 13) rfl)) (fun zv17 ze18 => ?_)
      refine w_goto (tgt := 2) (tX11_putBack_0_ok (23, .goto (-21), 3) (List.mem_of_getElem? (i := 14) rfl)) rfl ?_
      have c1 := ((congrFun zq14 56).trans (s2_s _ _ _))
      refine w_lv [(1, .int zv17), (0, .ref (ad 50))] (by intro q hq; simp only [List.mem_cons, List.not_mem_nil, or_false] at hq ⊢; rcases hq with e | e <;> subst e <;> simp) ?_
      refine ih (j9 - 1) (by omega) zh12 zI13 W O _ (by omega) (by omega) (fun q a1 => ?_) zz15 (kH_a (L := 56) (n := 39) hl hH hz zz15 zf16 zq14 rfl ⟨rfl, rfl, rfl⟩ (fun q hq9 => ?_)) (by subst zq14; exact ⟨hP.1.a (by decide), fun k hk => (congrFun (s2_n (by decide)) k).trans (hP.2.1 k hk), hP.2.2⟩)
      · rw [c1]
        by_cases e : q = i.toInt.toNat
        · subst e
          rw [upd_s, zu10]
          exact hP.2.1 _ (by omega)
        · rw [upd_n _ _ e]
          exact hD q (by omega)
      · by_cases e : q = i.toInt.toNat
        · subst e
          have b9 := hz.bd (L := 57) rfl rfl (hl 57 rfl) hH ⟨rfl, rfl⟩ i.toInt.toNat (by omega)
          rw [upd_s, zu10]
          rw [← e57 (i := i.toInt.toNat) (by omega)]
          exact b9
        · rw [upd_n _ _ e]
          exact hz.bd (L := 56) rfl rfl (hl 56 rfl) hH ⟨rfl, rfl⟩ q hq9
theorem x_putBack (hT : k_tys tys cA) (hl : ∀ L, zNM L = true → Sg (ad L) = some (lbR 50 55 L)) (J : jX Sg cA ad (jG I0 W0) h) (hq : ∀ (g : ch_H), jX Sg cA ad (jF I0 W0) g → Q none g) : ww l D tys A X fr lo mX11_putBack Q 0 [(0, .ref (ad 50))] [] h := by
  refine w_iconst (by decide) (tX11_putBack_0_ok (0, .iconst 0, 1) (List.mem_of_getElem? (i := 0) rfl)) (fun zv1 ze2 => ?_)
  refine w_istore_n [(1, .int zv1), (0, .ref (ad 50))] rfl (Nat.le_of_ble_eq_true rfl) (tX11_putBack_0_ok (1, .istore_n 1, 1) (List.mem_of_getElem? (i := 1) rfl)) ?_
  refine w_lv [(1, .int zv1), (0, .ref (ad 50))] (by intro q hq; simp only [List.mem_cons, List.not_mem_nil, or_false] at hq ⊢; rcases hq with e | e <;> subst e <;> simp) ?_
  obtain ⟨I, W, O, hz, hH, hP⟩ := J
  exact x_putBackL hT hl hq 39 h I W O _ (by omega) (by omega) (fun q a1 => absurd a1 (by omega)) hz hH hP
end
