/-! heights, and who meets whom -/
def hz9 (ρ : aRw) (x : Nat → Int) : Nat → Nat → Int
  | 0, _ => 0
  | f + 1, r => m_pc ρ r (x (r / 2)) + (if ρ (r / 2) 8 < 0 then 0 else hz9 ρ x f (ρ (r / 2) 8).toNat)
theorem hz_st {n : Nat} {ρ : aRw} {x : Nat → Int} (wf : wfR n ρ) : ∀ (f g r : Nat), r < 2 * n → r / 2 < f → r / 2 < g → hz9 ρ x f r = hz9 ρ x g r
  | 0, _, _, _, h, _ => absurd h (Nat.not_lt_zero _)
  | _ + 1, 0, _, _, _, h => absurd h (Nat.not_lt_zero _)
  | f + 1, g + 1, r, hr, h1, h2 => by
    rw [hz9, hz9]
    have w8 := (wf.2 (r / 2) (by omega)).1.2.2.2.2.2.2.2.2
    by_cases c : ρ (r / 2) 8 < 0
    · rw [if_pos c, if_pos c]
    · rw [if_neg c, if_neg c, hz_st wf f g _ (by omega) (by omega) (by omega)]
/-- the height of a room; of a place -/
def hT9 (ρ : aRw) (T : Nat → Int32) (r : Nat) : Int := hz9 ρ (fun q => (T q).toInt) 6 r
def hP9 (ρ : aRw) (T GH : Nat → Int32) (k : Nat) : Int := if k < 12 then hT9 ρ T k else (GH (k - 12)).toInt
theorem m_pc_b {n : Nat} {ρ : aRw} (wf : wfR n ρ) {r : Nat} (hr : r < 2 * n) {x : Int} (hx : 0 ≤ x ∧ x ≤ ρ (r / 2) 1) : 0 ≤ m_pc ρ r x ∧ m_pc ρ r x ≤ 20 := by
  have w1 := (wf.2 (r / 2) (by omega)).1.2.1
  unfold m_pc
  split
  · omega
  · split <;> omega
theorem hz_b {n : Nat} {ρ : aRw} {T : Nat → Int32} (wf : wfR n ρ) (hx : m_ok n ρ T) : ∀ (f r : Nat), r < 2 * n → 0 ≤ hz9 ρ (fun q => (T q).toInt) f r ∧ hz9 ρ (fun q => (T q).toInt) f r ≤ 20 * (f : Int)
  | 0, r, _ => by
    show (0 : Int) ≤ 0 ∧ (0 : Int) ≤ 20 * ((0 : Nat) : Int)
    omega
  | f + 1, r, hr => by
    have w8 := (wf.2 (r / 2) (by omega)).1.2.2.2.2.2.2.2.2
    have h1 := m_pc_b wf hr (hx (r / 2) (by omega))
    rw [hz9]
    by_cases c : ρ (r / 2) 8 < 0
    · rw [if_pos c]
      omega
    · rw [if_neg c]
      have h2 := hz_b wf hx f (ρ (r / 2) 8).toNat (by omega)
      omega
theorem hT_b {n : Nat} {ρ : aRw} {T : Nat → Int32} (wf : wfR n ρ) (hx : m_ok n ρ T) {r : Nat} (hr : r < 2 * n) : 0 ≤ hT9 ρ T r ∧ hT9 ρ T r ≤ 120 := by
  have := hz_b wf hx 6 r hr
  unfold hT9
  omega
theorem hT_eq {n : Nat} {ρ : aRw} {T : Nat → Int32} (wf : wfR n ρ) {r : Nat} (hr : r < 2 * n) : hT9 ρ T r = m_pc ρ r (T (r / 2)).toInt + (if ρ (r / 2) 8 < 0 then 0 else hT9 ρ T (ρ (r / 2) 8).toNat) := by
  have w8 := (wf.2 (r / 2) (by omega)).1.2.2.2.2.2.2.2.2
  have n6 := wf.1
  unfold hT9
  rw [hz9]
  by_cases c : ρ (r / 2) 8 < 0
  · rw [if_pos c, if_pos c]
  · rw [if_neg c, if_neg c, hz_st wf 5 6 _ (by omega) (by omega) (by omega)]
section
variable {l : Launch} {D : va_G} {tys : List (ClassId × FieldType)} {A : Nat → Prop} {X : State → Prop} {fr lo : Nat} {M : ch_M} {Q : Option Value → ch_H → Prop} {pc : Nat} {lv : List (Nat × Value)} {st : List Value} {cA : Nat → ClassId} {h : ch_H} {ad : Nat → Nat} {I : zI} {W : zW} {O : zO} {n j pe ga : Nat} {ρ : aRw} {T GH : Nat → Int32} {BS : Nat → Nat → Bool}
theorem z_carrier (hT : k_tys tys cA) {k : Int32} (hz : zr zNC cA ad I W O h) (hp : pz I n ρ) (h0 : 0 ≤ k.toInt ∧ k.toInt < 2 * (n : Int)) (hq : ∀ v : Int32, v.toInt = ρ (k.toInt.toNat / 2) 8 → Q (some (.int v)) h) : ww l D tys A X fr lo mX4_carrier Q 0 [(0, .ref (ad 2)), (1, .int k)] [] h := by
  have n6 := hp.2.1.1
  have r9 := (hp.2.2 (k.toInt.toNat / 2) (by omega)).2.2.2.2.2.2.2.2
  refine w_iload_n (List.Mem.tail _ (List.Mem.head _)) (tX4_carrier_0_ok (0, .iload_n 1, 1) (List.mem_of_getElem? (i := 0) rfl)) ?_
  refine w_if_lt (tgt := 21) (tX4_carrier_0_ok (1, .ifCond .lt 20, 3) (List.mem_of_getElem? (i := 1) rfl)) rfl (fun yb1 => ?_) (fun yb1 => ?_)
  · exfalso; omega
  · refine w_iload_n (List.Mem.tail _ (List.Mem.head _)) (tX4_carrier_0_ok (4, .iload_n 1, 1) (List.mem_of_getElem? (i := 2) rfl)) ?_
    refine w_bipush (by decide) (tX4_carrier_0_ok (5, .bipush 12, 2) (List.mem_of_getElem? (i := 3) rfl)) (fun yv2 ye3 => ?_)
    refine w_icmp_ge (tgt := 21) (tX4_carrier_0_ok (7, .if_icmp .ge 14, 3) (List.mem_of_getElem? (i := 4) rfl)) rfl (fun yb4 => ?_) (fun yb4 => ?_)
    · exfalso; omega
    · refine w_aload_n (List.Mem.head _) (tX4_carrier_0_ok (10, .aload_n 0, 1) (List.mem_of_getElem? (i := 5) rfl)) ?_
      refine z_getR (L1 := 18) (own := 9) (k := 8) hz rfl rfl rfl rfl rfl rfl rfl (by decide) (tX4_carrier_0_ok (11, .getfield 33, 3) (List.mem_of_getElem? (i := 6) rfl)) ?_
      refine w_iload_n (List.Mem.tail _ (List.Mem.head _)) (tX4_carrier_0_ok (14, .iload_n 1, 1) (List.mem_of_getElem? (i := 7) rfl)) ?_
      refine w_iconst (by decide) (tX4_carrier_0_ok (15, .iconst 1, 1) (List.mem_of_getElem? (i := 8) rfl)) (fun yv5 ye6 => ?_)
      refine w_ishr (tX4_carrier_0_ok (16, .ishr, 1) (List.mem_of_getElem? (i := 9) rfl)) (fun yv7 ye8 => ?_)
      have hs9 := shr1w (x := k) (z := yv5) (by omega) (by omega) ye8
      refine z_iald (f := (I 18)) hT hz rfl rfl rfl (by omega) (by omega) (tX4_carrier_0_ok (17, .iaload, 1) (List.mem_of_getElem? (i := 10) rfl)) (fun yv9 yu10 => ?_)
      have ye11 : yv9.toInt = ((I 18) yv7.toInt.toNat).toInt := congrArg _ yu10
      have i9 : yv7.toInt.toNat = k.toInt.toNat / 2 := by omega
      rw [i9, r9] at ye11
      refine w_goto (tgt := 22) (tX4_carrier_0_ok (18, .goto 4, 3) (List.mem_of_getElem? (i := 11) rfl)) rfl ?_
      refine w_iret rfl (tX4_carrier_0_ok (22, .ireturn, 1) (List.mem_of_getElem? (i := 13) rfl)) ?_
      exact hq _ (by omega)
theorem z_hL (hT : k_tys tys cA) (hj_j : j < 10) {k0 : Int32} {H : Int} (hz : zr zNC cA ad I W O h) (hp : pz I n ρ) (hx : m_ok n ρ T) (hXT : ∀ q, q < n → I (100 + 6 * j + 1) q = T q) (hf : 1 ≤ fr) (hlo : 30 ≤ lo) (hH : 0 ≤ H ∧ H ≤ 120) (hq : ∀ v : Int32, v.toInt = H → Q (some (.int v)) h) : ∀ (j9 : Nat) (su k i : Int32), i.toInt + j9 = 6 → 0 ≤ i.toInt → 0 ≤ su.toInt ∧ su.toInt ≤ 20 * i.toInt → -1 ≤ k.toInt ∧ k.toInt < 2 * (n : Int) → su.toInt + (if k.toInt < 0 then 0 else hz9 ρ (fun q => (T q).toInt) (6 - i.toInt.toNat) k.toInt.toNat) = H → ww l D tys A X fr lo mX9_height Q 39 [(5, .int su), (6, .int k), (7, .int i), (0, .ref (ad 4)), (1, .ref (ad 2)), (2, .ref (ad (100 + 6 * j))), (3, .ref (ad 3)), (4, .int k0)] [] h := by
  intro j9
  induction j9 using Nat.strongRecOn with
  | ind j9 ih =>
    intro su k i hj9 hi0 hsu hk hs
    have n6 := hp.2.1.1
    refine w_iload (List.Mem.tail _ (List.Mem.tail _ (List.Mem.head _))) (tX9_height_0_ok (39, .iload 7, 2) (List.mem_of_getElem? (i := 21) rfl)) ?_
    refine w_bipush (by decide) (tX9_height_0_ok (41, .bipush 6, 2) (List.mem_of_getElem? (i := 22) rfl)) (fun zv1 ze2 => ?_)
    refine w_icmp_ge (tgt := 85) (tX9_height_0_ok (43, .if_icmp .ge 42, 3) (List.mem_of_getElem? (i := 23) rfl)) rfl (fun zb3 => ?_) (fun zb3 => ?_)
    · refine w_iload (List.Mem.head _) (tX9_height_0_ok (85, .iload 5, 2) (List.mem_of_getElem? (i := 44) rfl)) ?_
      refine w_iret rfl (tX9_height_0_ok (87, .ireturn, 1) (List.mem_of_getElem? (i := 45) rfl)) ?_
      rw [show 6 - i.toInt.toNat = 0 by omega] at hs
      refine hq su ?_
      split at hs
      · omega
      · rw [hz9] at hs
        omega
    · refine w_iload (List.Mem.tail _ (List.Mem.head _)) (tX9_height_0_ok (46, .iload 6, 2) (List.mem_of_getElem? (i := 24) rfl)) ?_
      refine w_if_lt (tgt := 85) (tX9_height_0_ok (48, .ifCond .lt 37, 3) (List.mem_of_getElem? (i := 25) rfl)) rfl (fun zb4 => ?_) (fun zb4 => ?_)
      · refine w_iload (List.Mem.head _) (tX9_height_0_ok (85, .iload 5, 2) (List.mem_of_getElem? (i := 44) rfl)) ?_
        refine w_iret rfl (tX9_height_0_ok (87, .ireturn, 1) (List.mem_of_getElem? (i := 45) rfl)) ?_
        rw [if_pos (by omega)] at hs
        exact hq su (by omega)
      · have kb : 0 ≤ k.toInt := by omega
        refine w_iload (List.Mem.head _) (tX9_height_0_ok (51, .iload 5, 2) (List.mem_of_getElem? (i := 26) rfl)) ?_
        refine w_aload_n (List.Mem.tail _ (List.Mem.tail _ (List.Mem.tail _ (List.Mem.tail _ (List.Mem.head _))))) (tX9_height_0_ok (53, .aload_n 1, 1) (List.mem_of_getElem? (i := 27) rfl)) ?_
        refine w_iload (List.Mem.tail _ (List.Mem.head _)) (tX9_height_0_ok (54, .iload 6, 2) (List.mem_of_getElem? (i := 28) rfl)) ?_
        refine w_aload_n (List.Mem.tail _ (List.Mem.tail _ (List.Mem.tail _ (List.Mem.tail _ (List.Mem.tail _ (List.Mem.head _)))))) (tX9_height_0_ok (56, .aload_n 2, 1) (List.mem_of_getElem? (i := 29) rfl)) ?_
        refine z_getR (L1 := (100 + 6 * j + 1)) (own := 14) (k := 0) hz (zNC_s (k := 0) hj_j (by decide)) (zZ_s j) rfl rfl rfl rfl rfl (by decide) (tX9_height_0_ok (57, .getfield 88, 3) (List.mem_of_getElem? (i := 30) rfl)) ?_
        refine w_iload (List.Mem.tail _ (List.Mem.head _)) (tX9_height_0_ok (60, .iload 6, 2) (List.mem_of_getElem? (i := 31) rfl)) ?_
        refine w_iconst (by decide) (tX9_height_0_ok (62, .iconst 1, 1) (List.mem_of_getElem? (i := 32) rfl)) (fun zv5 ze6 => ?_)
        refine w_ishr (tX9_height_0_ok (63, .ishr, 1) (List.mem_of_getElem? (i := 33) rfl)) (fun zv7 ze8 => ?_)
        have hs9 := shr1w (x := k) (z := zv5) (by omega) (by omega) ze8
        refine z_iald (f := (I (100 + 6 * j + 1))) hT hz (zNC_s (k := 1) hj_j (by decide)) (zZ_s1 j) rfl (by omega) (by omega) (tX9_height_0_ok (64, .iaload, 1) (List.mem_of_getElem? (i := 34) rfl)) (fun zv9 zu10 => ?_)
        have ze11 : zv9.toInt = ((I (100 + 6 * j + 1)) zv7.toInt.toNat).toInt := congrArg _ zu10
        have xe : zv9 = T (k.toInt.toNat / 2) := by rw [zu10, show zv7.toInt.toNat = k.toInt.toNat / 2 by omega, hXT _ (by omega)]
        refine w_callV (own := 14) (mi := 48) [.int k, .int zv9] [.int su] [(0, .ref (ad 2)), (1, .int k), (2, .int zv9)] rfl (cllw_X9 (116, 0, 48) (List.mem_of_getElem? (i := 0) rfl)) rfl rfl (hz.ob rfl rfl) rfl (by omega) (w_lo (n := 23) rfl (by omega)) (Nat.le_of_ble_eq_true rfl) (Nat.le_of_ble_eq_true rfl) rfl (tX9_height_0_ok (65, .invokevirtual 116, 3) (List.mem_of_getElem? (i := 35) rfl)) (z_place hT hz hp ⟨by omega, by omega⟩ (by rw [xe]; exact hx _ (by omega)) (fun zv12 ze13 => ?_))
        show ww l D tys A X fr lo mX9_height Q 68 [(5, .int su), (6, .int k), (7, .int i), (0, .ref (ad 4)), (1, .ref (ad 2)), (2, .ref (ad (100 + 6 * j))), (3, .ref (ad 3)), (4, .int k0)] [.int zv12, .int su] h
        rw [xe] at ze13
        have pb := m_pc_b hp.2.1 (r := k.toInt.toNat) (by omega) (hx (k.toInt.toNat / 2) (by omega))
        refine w_iadd (by omega) (by omega) (tX9_height_0_ok (68, .iadd, 1) (List.mem_of_getElem? (i := 36) rfl)) (fun zv14 ze15 => ?_)
        refine w_istore [(5, .int zv14), (6, .int k), (7, .int i), (0, .ref (ad 4)), (1, .ref (ad 2)), (2, .ref (ad (100 + 6 * j))), (3, .ref (ad 3)), (4, .int k0)] rfl (Nat.le_of_ble_eq_true rfl) (tX9_height_0_ok (69, .istore 5, 2) (List.mem_of_getElem? (i := 37) rfl)) ?_
        refine w_aload_n (List.Mem.tail _ (List.Mem.tail _ (List.Mem.tail _ (List.Mem.tail _ (List.Mem.head _))))) (tX9_height_0_ok (71, .aload_n 1, 1) (List.mem_of_getElem? (i := 38) rfl)) ?_
        refine w_iload (List.Mem.tail _ (List.Mem.head _)) (tX9_height_0_ok (72, .iload 6, 2) (List.mem_of_getElem? (i := 39) rfl)) ?_
        refine w_callV (own := 14) (mi := 43) [.int k] [] [(0, .ref (ad 2)), (1, .int k)] rfl (cllw_X9 (119, 0, 43) (List.mem_of_getElem? (i := 1) rfl)) rfl rfl (hz.ob rfl rfl) rfl (by omega) (w_lo (n := 21) rfl (by omega)) (Nat.le_of_ble_eq_true rfl) (Nat.le_of_ble_eq_true rfl) rfl (tX9_height_0_ok (74, .invokevirtual 119, 3) (List.mem_of_getElem? (i := 40) rfl)) (z_carrier hT hz hp ⟨by omega, by omega⟩ (fun zv16 ze17 => ?_))
        show ww l D tys A X fr lo mX9_height Q 77 [(5, .int zv14), (6, .int k), (7, .int i), (0, .ref (ad 4)), (1, .ref (ad 2)), (2, .ref (ad (100 + 6 * j))), (3, .ref (ad 3)), (4, .int k0)] [.int zv16] h
        have w8 := (hp.2.1.2 (k.toInt.toNat / 2) (by omega)).1.2.2.2.2.2.2.2.2
        refine w_istore [(6, .int zv16), (5, .int zv14), (7, .int i), (0, .ref (ad 4)), (1, .ref (ad 2)), (2, .ref (ad (100 + 6 * j))), (3, .ref (ad 3)), (4, .int k0)] rfl (Nat.le_of_ble_eq_true rfl) (tX9_height_0_ok (77, .istore 6, 2) (List.mem_of_getElem? (i := 41) rfl)) ?_
        refine w_iinc (fun zv18 => [(7, .int zv18), (6, .int zv16), (5, .int zv14), (0, .ref (ad 4)), (1, .ref (ad 2)), (2, .ref (ad (100 + 6 * j))), (3, .ref (ad 3)), (4, .int k0)]) (fun _ => rfl) (List.Mem.tail _ (List.Mem.tail _ (List.Mem.head _))) (Nat.le_of_ble_eq_true rfl) (by decide) (by omega) (by omega) (tX9_height_0_ok (79, .iinc 7 1, 3) (List.mem_of_getElem? (i := 42) rfl)) (fun zv18 ze19 => ?_)
        refine w_goto (tgt := 39) (tX9_height_0_ok (82, .goto (-43), 3) (List.mem_of_getElem? (i := 43) rfl)) rfl ?_
        refine w_lv [(5, .int zv14), (6, .int zv16), (7, .int zv18), (0, .ref (ad 4)), (1, .ref (ad 2)), (2, .ref (ad (100 + 6 * j))), (3, .ref (ad 3)), (4, .int k0)] (by intro q hq; simp only [List.mem_cons, List.not_mem_nil, or_false] at hq ⊢; rcases hq with e | e | e | e | e | e | e | e <;> subst e <;> simp) ?_
        have ei : 6 - i.toInt.toNat = (6 - zv18.toInt.toNat) + 1 := by omega
        refine ih (j9 - 1) (by omega) _ _ _ (by omega) (by omega) (by omega) (by omega) ?_
        rw [if_neg (by omega), ei, hz9, ← ze13, ← ze17] at hs
        split at hs
        · next c => rw [if_pos c]; omega
        · next c => rw [if_neg c]; omega
theorem z_heightR (hT : k_tys tys cA) (hj_j : j < 10) {k : Int32} (hz : zr zNC cA ad I W O h) (hp : pz I n ρ) (hx : m_ok n ρ T) (hXT : ∀ q, q < n → I (100 + 6 * j + 1) q = T q) (hf : 1 ≤ fr) (hlo : 30 ≤ lo) (h0 : 0 ≤ k.toInt ∧ k.toInt < 2 * (n : Int)) (hq : ∀ v : Int32, v.toInt = hT9 ρ T k.toInt.toNat → Q (some (.int v)) h) : ww l D tys A X fr lo mX9_height Q 0 [(0, .ref (ad 4)), (1, .ref (ad 2)), (2, .ref (ad (100 + 6 * j))), (3, .ref (ad 3)), (4, .int k)] [] h := by
  have n6 := hp.2.1.1
  refine w_iload (List.Mem.tail _ (List.Mem.tail _ (List.Mem.tail _ (List.Mem.tail _ (List.Mem.head _))))) (tX9_height_0_ok (0, .iload 4, 2) (List.mem_of_getElem? (i := 0) rfl)) ?_
  refine w_bipush (by decide) (tX9_height_0_ok (2, .bipush 12, 2) (List.mem_of_getElem? (i := 1) rfl)) (fun zv1 ze2 => ?_)
  refine w_icmp_lt (tgt := 29) (tX9_height_0_ok (4, .if_icmp .lt 25, 3) (List.mem_of_getElem? (i := 2) rfl)) rfl (fun zb3 => ?_) (fun zb3 => ?_)
  · refine w_iconst (by decide) (tX9_height_0_ok (29, .iconst 0, 1) (List.mem_of_getElem? (i := 15) rfl)) (fun zv4 ze5 => ?_)
    refine w_istore [(5, .int zv4), (0, .ref (ad 4)), (1, .ref (ad 2)), (2, .ref (ad (100 + 6 * j))), (3, .ref (ad 3)), (4, .int k)] rfl (Nat.le_of_ble_eq_true rfl) (tX9_height_0_ok (30, .istore 5, 2) (List.mem_of_getElem? (i := 16) rfl)) ?_
    refine w_iload (List.Mem.tail _ (List.Mem.tail _ (List.Mem.tail _ (List.Mem.tail _ (List.Mem.tail _ (List.Mem.head _)))))) (tX9_height_0_ok (32, .iload 4, 2) (List.mem_of_getElem? (i := 17) rfl)) ?_
    refine w_istore [(6, .int k), (5, .int zv4), (0, .ref (ad 4)), (1, .ref (ad 2)), (2, .ref (ad (100 + 6 * j))), (3, .ref (ad 3)), (4, .int k)] rfl (Nat.le_of_ble_eq_true rfl) (tX9_height_0_ok (34, .istore 6, 2) (List.mem_of_getElem? (i := 18) rfl)) ?_
    refine w_iconst (by decide) (tX9_height_0_ok (36, .iconst 0, 1) (List.mem_of_getElem? (i := 19) rfl)) (fun zv6 ze7 => ?_)
    refine w_istore [(7, .int zv6), (6, .int k), (5, .int zv4), (0, .ref (ad 4)), (1, .ref (ad 2)), (2, .ref (ad (100 + 6 * j))), (3, .ref (ad 3)), (4, .int k)] rfl (Nat.le_of_ble_eq_true rfl) (tX9_height_0_ok (37, .istore 7, 2) (List.mem_of_getElem? (i := 20) rfl)) ?_
    refine w_lv [(5, .int zv4), (6, .int k), (7, .int zv6), (0, .ref (ad 4)), (1, .ref (ad 2)), (2, .ref (ad (100 + 6 * j))), (3, .ref (ad 3)), (4, .int k)] (by intro q hq; simp only [List.mem_cons, List.not_mem_nil, or_false] at hq ⊢; rcases hq with e | e | e | e | e | e | e | e <;> subst e <;> simp) ?_
    refine z_hL hT hj_j hz hp hx hXT hf hlo (hT_b hp.2.1 hx (r := k.toInt.toNat) (by omega)) hq 6 _ _ _ (by omega) (by omega) (by omega) (by omega) ?_
    rw [if_neg (by omega), show 6 - zv6.toInt.toNat = 6 by omega, ze5]
    exact Int.zero_add _
  · exfalso; omega
theorem z_heightG (hT : k_tys tys cA) {k : Int32} (hz : zr zNC cA ad I W O h) (hG : ∀ g, g < ga → I 20 g = GH g) (hga : ga ≤ 6) (h0 : 12 ≤ k.toInt ∧ k.toInt < 12 + (ga : Int)) (hq : ∀ v : Int32, v = GH (k.toInt.toNat - 12) → Q (some (.int v)) h) : ww l D tys A X fr lo mX9_height Q 0 [(0, .ref (ad 4)), (1, .ref (ad 2)), (2, .ref (ad (100 + 6 * j))), (3, .ref (ad 3)), (4, .int k)] [] h := by
  refine w_iload (List.Mem.tail _ (List.Mem.tail _ (List.Mem.tail _ (List.Mem.tail _ (List.Mem.head _))))) (tX9_height_0_ok (0, .iload 4, 2) (List.mem_of_getElem? (i := 0) rfl)) ?_
  refine w_bipush (by decide) (tX9_height_0_ok (2, .bipush 12, 2) (List.mem_of_getElem? (i := 1) rfl)) (fun zv1 ze2 => ?_)
  refine w_icmp_lt (tgt := 29) (tX9_height_0_ok (4, .if_icmp .lt 25, 3) (List.mem_of_getElem? (i := 2) rfl)) rfl (fun zb3 => ?_) (fun zb3 => ?_)
  · exfalso; omega
  · refine w_iload (List.Mem.tail _ (List.Mem.tail _ (List.Mem.tail _ (List.Mem.tail _ (List.Mem.head _))))) (tX9_height_0_ok (7, .iload 4, 2) (List.mem_of_getElem? (i := 3) rfl)) ?_
    refine w_bipush (by decide) (tX9_height_0_ok (9, .bipush 18, 2) (List.mem_of_getElem? (i := 4) rfl)) (fun zv4 ze5 => ?_)
    refine w_icmp_ge (tgt := 27) (tX9_height_0_ok (11, .if_icmp .ge 16, 3) (List.mem_of_getElem? (i := 5) rfl)) rfl (fun zb6 => ?_) (fun zb6 => ?_)
    · exfalso; omega
    · refine w_aload_n (List.Mem.tail _ (List.Mem.tail _ (List.Mem.tail _ (List.Mem.head _)))) (tX9_height_0_ok (14, .aload_n 3, 1) (List.mem_of_getElem? (i := 6) rfl)) ?_
      refine z_getR (L1 := 20) (own := 14) (k := 1) hz rfl rfl rfl rfl rfl rfl rfl (by decide) (tX9_height_0_ok (15, .getfield 113, 3) (List.mem_of_getElem? (i := 7) rfl)) ?_
      refine w_iload (List.Mem.tail _ (List.Mem.tail _ (List.Mem.tail _ (List.Mem.tail _ (List.Mem.head _))))) (tX9_height_0_ok (18, .iload 4, 2) (List.mem_of_getElem? (i := 8) rfl)) ?_
      refine w_bipush (by decide) (tX9_height_0_ok (20, .bipush 12, 2) (List.mem_of_getElem? (i := 9) rfl)) (fun zv7 ze8 => ?_)
      refine w_isub (by omega) (by omega) (tX9_height_0_ok (22, .isub, 1) (List.mem_of_getElem? (i := 10) rfl)) (fun zv9 ze10 => ?_)
      refine z_iald (f := (I 20)) hT hz rfl rfl rfl (by omega) (by omega) (tX9_height_0_ok (23, .iaload, 1) (List.mem_of_getElem? (i := 11) rfl)) (fun zv11 zu12 => ?_)
      have ze13 : zv11.toInt = ((I 20) zv9.toInt.toNat).toInt := congrArg _ zu12
      refine w_goto (tgt := 28) (tX9_height_0_ok (24, .goto 4, 3) (List.mem_of_getElem? (i := 12) rfl)) rfl ?_
      refine w_iret rfl (tX9_height_0_ok (28, .ireturn, 1) (List.mem_of_getElem? (i := 14) rfl)) ?_
      refine hq _ ?_
      rw [zu12, show zv9.toInt.toNat = k.toInt.toNat - 12 by omega, hG _ (by omega)]
theorem z_height (hT : k_tys tys cA) (hj_j : j < 10) {k : Int32} (hz : zr zNC cA ad I W O h) (hp : pz I n ρ) (hx : m_ok n ρ T) (hXT : ∀ q, q < n → I (100 + 6 * j + 1) q = T q) (hG : ∀ g, g < ga → I 20 g = GH g) (hga : ga ≤ 6) (hf : 1 ≤ fr) (hlo : 30 ≤ lo) (h0 : (0 ≤ k.toInt ∧ k.toInt < 2 * (n : Int) ∨ 12 ≤ k.toInt ∧ k.toInt < 12 + (ga : Int))) (hq : ∀ v : Int32, v.toInt = hP9 ρ T GH k.toInt.toNat → Q (some (.int v)) h) : ww l D tys A X fr lo mX9_height Q 0 [(0, .ref (ad 4)), (1, .ref (ad 2)), (2, .ref (ad (100 + 6 * j))), (3, .ref (ad 3)), (4, .int k)] [] h := by
  have n6 := hp.2.1.1
  rcases h0 with h0 | h0
  · exact z_heightR hT hj_j hz hp hx hXT hf hlo h0 (fun v e => hq v (by unfold hP9; rw [if_pos (by omega)]; exact e))
  · exact z_heightG hT hz hG hga h0 (fun v e => hq v (by unfold hP9; rw [if_neg (by omega), e]))
theorem z_meeting (hT : k_tys tys cA) (hj_j : j < 10) {a9 b9 : Int32} (hz : zr zNC cA ad I W O h) (hp : pz I n ρ) (hx : m_ok n ρ T) (hXT : ∀ q, q < n → I (100 + 6 * j + 1) q = T q) (hG : ∀ g, g < ga → I 20 g = GH g) (hga : ga ≤ 6) (hB : ∀ a b, a < 18 → b < 18 → bt9 (I 21 a) b = BS a b) (hf : 2 ≤ fr) (hlo : 60 ≤ lo) (h1 : (0 ≤ a9.toInt ∧ a9.toInt < 2 * (n : Int) ∨ 12 ≤ a9.toInt ∧ a9.toInt < 12 + (ga : Int))) (h2 : (0 ≤ b9.toInt ∧ b9.toInt < 2 * (n : Int) ∨ 12 ≤ b9.toInt ∧ b9.toInt < 12 + (ga : Int))) (hq : ∀ v : Int32, (v.toInt = 1 ∧ (BS a9.toInt.toNat b9.toInt.toNat = true ∧ hP9 ρ T GH a9.toInt.toNat = hP9 ρ T GH b9.toInt.toNat) ∨ v.toInt = 0 ∧ ¬ (BS a9.toInt.toNat b9.toInt.toNat = true ∧ hP9 ρ T GH a9.toInt.toNat = hP9 ρ T GH b9.toInt.toNat)) → Q (some (.int v)) h) : ww l D tys A X fr lo mX9_meeting Q 0 [(0, .ref (ad 4)), (1, .ref (ad 2)), (2, .ref (ad (100 + 6 * j))), (3, .ref (ad 3)), (4, .int a9), (5, .int b9)] [] h := by
  have n6 := hp.2.1.1
  refine w_iload (List.Mem.tail _ (List.Mem.tail _ (List.Mem.tail _ (List.Mem.tail _ (List.Mem.head _))))) (tX9_meeting_0_ok (0, .iload 4, 2) (List.mem_of_getElem? (i := 0) rfl)) ?_
  refine w_if_lt (tgt := 27) (tX9_meeting_0_ok (2, .ifCond .lt 25, 3) (List.mem_of_getElem? (i := 1) rfl)) rfl (fun zb1 => ?_) (fun zb1 => ?_)
  · exfalso; omega
  · refine w_iload (List.Mem.tail _ (List.Mem.tail _ (List.Mem.tail _ (List.Mem.tail _ (List.Mem.head _))))) (tX9_meeting_0_ok (5, .iload 4, 2) (List.mem_of_getElem? (i := 2) rfl)) ?_
    refine w_bipush (by decide) (tX9_meeting_0_ok (7, .bipush 18, 2) (List.mem_of_getElem? (i := 3) rfl)) (fun zv2 ze3 => ?_)
    refine w_icmp_ge (tgt := 27) (tX9_meeting_0_ok (9, .if_icmp .ge 18, 3) (List.mem_of_getElem? (i := 4) rfl)) rfl (fun zb4 => ?_) (fun zb4 => ?_)
    · exfalso; omega
    · refine w_aload_n (List.Mem.tail _ (List.Mem.tail _ (List.Mem.tail _ (List.Mem.head _)))) (tX9_meeting_0_ok (12, .aload_n 3, 1) (List.mem_of_getElem? (i := 5) rfl)) ?_
      refine z_getR (L1 := 21) (own := 14) (k := 2) hz rfl rfl rfl rfl rfl rfl rfl (by decide) (tX9_meeting_0_ok (13, .getfield 125, 3) (List.mem_of_getElem? (i := 6) rfl)) ?_
      refine w_iload (List.Mem.tail _ (List.Mem.tail _ (List.Mem.tail _ (List.Mem.tail _ (List.Mem.head _))))) (tX9_meeting_0_ok (16, .iload 4, 2) (List.mem_of_getElem? (i := 7) rfl)) ?_
      refine z_iald (f := (I 21)) hT hz rfl rfl rfl (by omega) (by omega) (tX9_meeting_0_ok (18, .iaload, 1) (List.mem_of_getElem? (i := 8) rfl)) (fun zv5 zu6 => ?_)
      have ze7 : zv5.toInt = ((I 21) a9.toInt.toNat).toInt := congrArg _ zu6
      refine w_iload (List.Mem.tail _ (List.Mem.tail _ (List.Mem.tail _ (List.Mem.tail _ (List.Mem.tail _ (List.Mem.head _)))))) (tX9_meeting_0_ok (19, .iload 5, 2) (List.mem_of_getElem? (i := 9) rfl)) ?_
      refine w_ishr (tX9_meeting_0_ok (21, .ishr, 1) (List.mem_of_getElem? (i := 10) rfl)) (fun zv8 ze9 => ?_)
      refine w_iconst (by decide) (tX9_meeting_0_ok (22, .iconst 1, 1) (List.mem_of_getElem? (i := 11) rfl)) (fun zv10 ze11 => ?_)
      refine w_iand (tX9_meeting_0_ok (23, .iand, 1) (List.mem_of_getElem? (i := 12) rfl)) (fun zv12 ze13 => ?_)
      have hb9 := bt9_has (x := I 21 a9.toInt.toNat) (k := b9) (kk := b9.toInt.toNat) (by omega) (by omega) (z := zv10) (by omega) ((by rw [← zu6]; exact ze9)) ze13
      rw [hB _ _ (by omega) (by omega)] at hb9
      refine w_if_ne (tgt := 29) (tX9_meeting_0_ok (24, .ifCond .ne 5, 3) (List.mem_of_getElem? (i := 13) rfl)) rfl (fun zb14 => ?_) (fun zb14 => ?_)
      · refine w_aload_n (List.Mem.head _) (tX9_meeting_0_ok (29, .aload_n 0, 1) (List.mem_of_getElem? (i := 16) rfl)) ?_
        refine w_aload_n (List.Mem.tail _ (List.Mem.head _)) (tX9_meeting_0_ok (30, .aload_n 1, 1) (List.mem_of_getElem? (i := 17) rfl)) ?_
        refine w_aload_n (List.Mem.tail _ (List.Mem.tail _ (List.Mem.head _))) (tX9_meeting_0_ok (31, .aload_n 2, 1) (List.mem_of_getElem? (i := 18) rfl)) ?_
        refine w_aload_n (List.Mem.tail _ (List.Mem.tail _ (List.Mem.tail _ (List.Mem.head _)))) (tX9_meeting_0_ok (32, .aload_n 3, 1) (List.mem_of_getElem? (i := 19) rfl)) ?_
        refine w_iload (List.Mem.tail _ (List.Mem.tail _ (List.Mem.tail _ (List.Mem.tail _ (List.Mem.head _))))) (tX9_meeting_0_ok (33, .iload 4, 2) (List.mem_of_getElem? (i := 20) rfl)) ?_
        refine w_callV (own := 14) (mi := 89) [.ref (ad 2), .ref (ad (100 + 6 * j)), .ref (ad 3), .int a9] [] [(0, .ref (ad 4)), (1, .ref (ad 2)), (2, .ref (ad (100 + 6 * j))), (3, .ref (ad 3)), (4, .int a9)] rfl (cllw_X9 (128, 0, 89) (List.mem_of_getElem? (i := 12) rfl)) rfl rfl (hz.ob rfl rfl) rfl (by omega) (w_lo (n := 27) rfl (by omega)) (Nat.le_of_ble_eq_true rfl) (Nat.le_of_ble_eq_true rfl) rfl (tX9_meeting_0_ok (35, .invokevirtual 128, 3) (List.mem_of_getElem? (i := 21) rfl)) (z_height hT hj_j hz hp hx hXT hG hga (by omega) (w_sub (n := 27) rfl (by omega)) h1 (fun zv15 ze16 => ?_))
        show ww l D tys A X fr lo mX9_meeting Q 38 [(0, .ref (ad 4)), (1, .ref (ad 2)), (2, .ref (ad (100 + 6 * j))), (3, .ref (ad 3)), (4, .int a9), (5, .int b9)] [.int zv15] h
        refine w_aload_n (List.Mem.head _) (tX9_meeting_0_ok (38, .aload_n 0, 1) (List.mem_of_getElem? (i := 22) rfl)) ?_
        refine w_aload_n (List.Mem.tail _ (List.Mem.head _)) (tX9_meeting_0_ok (39, .aload_n 1, 1) (List.mem_of_getElem? (i := 23) rfl)) ?_
        refine w_aload_n (List.Mem.tail _ (List.Mem.tail _ (List.Mem.head _))) (tX9_meeting_0_ok (40, .aload_n 2, 1) (List.mem_of_getElem? (i := 24) rfl)) ?_
        refine w_aload_n (List.Mem.tail _ (List.Mem.tail _ (List.Mem.tail _ (List.Mem.head _)))) (tX9_meeting_0_ok (41, .aload_n 3, 1) (List.mem_of_getElem? (i := 25) rfl)) ?_
        refine w_iload (List.Mem.tail _ (List.Mem.tail _ (List.Mem.tail _ (List.Mem.tail _ (List.Mem.tail _ (List.Mem.head _)))))) (tX9_meeting_0_ok (42, .iload 5, 2) (List.mem_of_getElem? (i := 26) rfl)) ?_
        refine w_callV (own := 14) (mi := 89) [.ref (ad 2), .ref (ad (100 + 6 * j)), .ref (ad 3), .int b9] [.int zv15] [(0, .ref (ad 4)), (1, .ref (ad 2)), (2, .ref (ad (100 + 6 * j))), (3, .ref (ad 3)), (4, .int b9)] rfl (cllw_X9 (128, 0, 89) (List.mem_of_getElem? (i := 12) rfl)) rfl rfl (hz.ob rfl rfl) rfl (by omega) (w_lo (n := 27) rfl (by omega)) (Nat.le_of_ble_eq_true rfl) (Nat.le_of_ble_eq_true rfl) rfl (tX9_meeting_0_ok (44, .invokevirtual 128, 3) (List.mem_of_getElem? (i := 27) rfl)) (z_height hT hj_j hz hp hx hXT hG hga (by omega) (w_sub (n := 27) rfl (by omega)) h2 (fun zv17 ze18 => ?_))
        show ww l D tys A X fr lo mX9_meeting Q 47 [(0, .ref (ad 4)), (1, .ref (ad 2)), (2, .ref (ad (100 + 6 * j))), (3, .ref (ad 3)), (4, .int a9), (5, .int b9)] [.int zv17, .int zv15] h
        refine w_icmp_ne (tgt := 54) (tX9_meeting_0_ok (47, .if_icmp .ne 7, 3) (List.mem_of_getElem? (i := 28) rfl)) rfl (fun zb19 => ?_) (fun zb19 => ?_)
        · refine w_iconst (by decide) (tX9_meeting_0_ok (54, .iconst 0, 1) (List.mem_of_getElem? (i := 31) rfl)) (fun zv20 ze21 => ?_)
          refine w_zret rfl (by omega) (by omega) (tX9_meeting_0_ok (55, .ireturn, 1) (List.mem_of_getElem? (i := 32) rfl)) ?_
          exact hq _ (Or.inr ⟨by omega, fun z => by have := z.2; omega⟩)
        · refine w_iconst (by decide) (tX9_meeting_0_ok (50, .iconst 1, 1) (List.mem_of_getElem? (i := 29) rfl)) (fun zv22 ze23 => ?_)
          refine w_goto (tgt := 55) (tX9_meeting_0_ok (51, .goto 4, 3) (List.mem_of_getElem? (i := 30) rfl)) rfl ?_
          refine w_zret rfl (by omega) (by omega) (tX9_meeting_0_ok (55, .ireturn, 1) (List.mem_of_getElem? (i := 32) rfl)) ?_
          exact hq _ (Or.inl ⟨by omega, hb9.1.mp (by omega), by omega⟩)
      · refine w_iconst (by decide) (tX9_meeting_0_ok (27, .iconst 0, 1) (List.mem_of_getElem? (i := 14) rfl)) (fun zv24 ze25 => ?_)
        refine w_zret rfl (by omega) (by omega) (tX9_meeting_0_ok (28, .ireturn, 1) (List.mem_of_getElem? (i := 15) rfl)) ?_
        exact hq _ (Or.inr ⟨by omega, fun z => by have := hb9.1.mpr z.1; omega⟩)
theorem z_lvL (hT : k_tys tys cA) (hj_j : j < 10) {xf : Nat → Int32} {I0 : zI} (wf : wfR n ρ) (hx : m_ok n ρ T) (hXT : ∀ q, q < n → xf q = T q) (hf : 1 ≤ fr) (hlo : 30 ≤ lo) : ∀ (j9 : Nat) (h : ch_H) (I : zI) (r : Int32), r.toInt + j9 = 2 * (n : Int) → 0 ≤ r.toInt → (∀ q, q < r.toInt.toNat → (I 27 q).toInt = hT9 ρ T q) → pz I n ρ → I (100 + 6 * j + 1) = xf → (∀ L, L ≠ 27 → I L = I0 L) → zr zNC cA ad I W O h → (∀ (g : ch_H) (I1 : zI) (r1 : Int32), (∀ q, q < 2 * n → (I1 27 q).toInt = hT9 ρ T q) → (∀ L, L ≠ 27 → I1 L = I0 L) → zr zNC cA ad I1 W O g → zf zNC ad h g → ww l D tys A X fr lo mX9_level Q 78 [(4, .int r1), (0, .ref (ad 4)), (1, .ref (ad 2)), (2, .ref (ad (100 + 6 * j))), (3, .ref (ad 3))] [] g) → ww l D tys A X fr lo mX9_level Q 3 [(4, .int r), (0, .ref (ad 4)), (1, .ref (ad 2)), (2, .ref (ad (100 + 6 * j))), (3, .ref (ad 3))] [] h := by
  intro j9
  induction j9 using Nat.strongRecOn with
  | ind j9 ih =>
    intro h I r hj9 hr0 hD hp hX9 hI9 hz hq
    have n6 := wf.1
    have r0 := hp.1
    refine w_iload (List.Mem.head _) (tX9_level_0_ok (3, .iload 4, 2) (List.mem_of_getElem? (i := 2) rfl)) ?_
    refine w_iconst (by decide) (tX9_level_0_ok (5, .iconst 2, 1) (List.mem_of_getElem? (i := 3) rfl)) (fun zv1 ze2 => ?_)
    refine w_aload_n (List.Mem.tail _ (List.Mem.tail _ (List.Mem.head _))) (tX9_level_0_ok (6, .aload_n 1, 1) (List.mem_of_getElem? (i := 4) rfl)) ?_
    refine z_get (f := (I 2)) (own := 14) (k := 0) hz rfl rfl rfl rfl rfl rfl rfl (by decide) (tX9_level_0_ok (7, .getfield 21, 3) (List.mem_of_getElem? (i := 5) rfl)) ?_
    refine w_imul (by assumption) (by omega) (by omega) (tX9_level_0_ok (10, .imul, 1) (List.mem_of_getElem? (i := 6) rfl)) (fun zv3 ze4 => ?_)
    refine w_icmp_ge (tgt := 78) (tX9_level_0_ok (11, .if_icmp .ge 67, 3) (List.mem_of_getElem? (i := 7) rfl)) rfl (fun zb5 => ?_) (fun zb5 => ?_)
    · refine w_lv [(4, .int r), (0, .ref (ad 4)), (1, .ref (ad 2)), (2, .ref (ad (100 + 6 * j))), (3, .ref (ad 3))] (by intro q hq; simp only [List.mem_cons, List.not_mem_nil, or_false] at hq ⊢; rcases hq with e | e | e | e | e <;> subst e <;> simp) ?_
      exact hq h I r (fun q h1 => hD q (by omega)) hI9 hz zf.rf
    · refine w_aload_n (List.Mem.tail _ (List.Mem.tail _ (List.Mem.head _))) (tX9_level_0_ok (14, .aload_n 1, 1) (List.mem_of_getElem? (i := 8) rfl)) ?_
      refine w_iload (List.Mem.head _) (tX9_level_0_ok (15, .iload 4, 2) (List.mem_of_getElem? (i := 9) rfl)) ?_
      refine w_callV (own := 14) (mi := 43) [.int r] [] [(0, .ref (ad 2)), (1, .int r)] rfl (cllw_X9 (119, 0, 43) (List.mem_of_getElem? (i := 1) rfl)) rfl rfl (hz.ob rfl rfl) rfl (by omega) (w_lo (n := 21) rfl (by omega)) (Nat.le_of_ble_eq_true rfl) (Nat.le_of_ble_eq_true rfl) rfl (tX9_level_0_ok (17, .invokevirtual 119, 3) (List.mem_of_getElem? (i := 10) rfl)) (z_carrier hT hz hp ⟨by omega, by omega⟩ (fun zv6 ze7 => ?_))
      show ww l D tys A X fr lo mX9_level Q 20 [(4, .int r), (0, .ref (ad 4)), (1, .ref (ad 2)), (2, .ref (ad (100 + 6 * j))), (3, .ref (ad 3))] [.int zv6] h
      have w8 := (hp.2.1.2 (r.toInt.toNat / 2) (by omega)).1.2.2.2.2.2.2.2.2
      have he := hT_eq (T := T) hp.2.1 (r := r.toInt.toNat) (by omega)
      refine w_istore [(5, .int zv6), (4, .int r), (0, .ref (ad 4)), (1, .ref (ad 2)), (2, .ref (ad (100 + 6 * j))), (3, .ref (ad 3))] rfl (Nat.le_of_ble_eq_true rfl) (tX9_level_0_ok (20, .istore 5, 2) (List.mem_of_getElem? (i := 11) rfl)) ?_
      refine w_iload (List.Mem.head _) (tX9_level_0_ok (22, .iload 5, 2) (List.mem_of_getElem? (i := 12) rfl)) ?_
      refine w_if_lt (tgt := 44) (tX9_level_0_ok (24, .ifCond .lt 20, 3) (List.mem_of_getElem? (i := 13) rfl)) rfl (fun zb8 => ?_) (fun zb8 => ?_)
      · refine w_iconst (by decide) (tX9_level_0_ok (44, .iconst 0, 1) (List.mem_of_getElem? (i := 22) rfl)) (fun zv9 ze10 => ?_)
        refine w_istore [(6, .int zv9), (5, .int zv6), (4, .int r), (0, .ref (ad 4)), (1, .ref (ad 2)), (2, .ref (ad (100 + 6 * j))), (3, .ref (ad 3))] rfl (Nat.le_of_ble_eq_true rfl) (tX9_level_0_ok (45, .istore 6, 2) (List.mem_of_getElem? (i := 23) rfl)) ?_
        refine w_aload_n (List.Mem.tail _ (List.Mem.tail _ (List.Mem.tail _ (List.Mem.head _)))) (tX9_level_0_ok (47, .aload_n 0, 1) (List.mem_of_getElem? (i := 24) rfl)) ?_
        refine z_getR (L1 := 27) (own := 14) (k := 2) hz rfl rfl rfl rfl rfl rfl rfl (by decide) (tX9_level_0_ok (48, .getfield 18, 3) (List.mem_of_getElem? (i := 25) rfl)) ?_
        refine w_iload (List.Mem.tail _ (List.Mem.tail _ (List.Mem.head _))) (tX9_level_0_ok (51, .iload 4, 2) (List.mem_of_getElem? (i := 26) rfl)) ?_
        refine w_iload (List.Mem.head _) (tX9_level_0_ok (53, .iload 6, 2) (List.mem_of_getElem? (i := 27) rfl)) ?_
        refine w_aload_n (List.Mem.tail _ (List.Mem.tail _ (List.Mem.tail _ (List.Mem.tail _ (List.Mem.head _))))) (tX9_level_0_ok (55, .aload_n 1, 1) (List.mem_of_getElem? (i := 28) rfl)) ?_
        refine w_iload (List.Mem.tail _ (List.Mem.tail _ (List.Mem.head _))) (tX9_level_0_ok (56, .iload 4, 2) (List.mem_of_getElem? (i := 29) rfl)) ?_
        refine w_aload_n (List.Mem.tail _ (List.Mem.tail _ (List.Mem.tail _ (List.Mem.tail _ (List.Mem.tail _ (List.Mem.head _)))))) (tX9_level_0_ok (58, .aload_n 2, 1) (List.mem_of_getElem? (i := 30) rfl)) ?_
        refine z_getR (L1 := (100 + 6 * j + 1)) (own := 14) (k := 0) hz (zNC_s (k := 0) hj_j (by decide)) (zZ_s j) rfl rfl rfl rfl rfl (by decide) (tX9_level_0_ok (59, .getfield 88, 3) (List.mem_of_getElem? (i := 31) rfl)) ?_
        refine w_iload (List.Mem.tail _ (List.Mem.tail _ (List.Mem.head _))) (tX9_level_0_ok (62, .iload 4, 2) (List.mem_of_getElem? (i := 32) rfl)) ?_
        refine w_iconst (by decide) (tX9_level_0_ok (64, .iconst 1, 1) (List.mem_of_getElem? (i := 33) rfl)) (fun zv11 ze12 => ?_)
        refine w_ishr (tX9_level_0_ok (65, .ishr, 1) (List.mem_of_getElem? (i := 34) rfl)) (fun zv13 ze14 => ?_)
        have hs9 := shr1w (x := r) (z := zv11) (by omega) (by omega) ze14
        refine z_iald (f := xf) hT hz (zNC_s (k := 1) hj_j (by decide)) (zZ_s1 j) (hX9) (by omega) (by omega) (tX9_level_0_ok (66, .iaload, 1) (List.mem_of_getElem? (i := 35) rfl)) (fun zv15 zu16 => ?_)
        have ze17 : zv15.toInt = (xf zv13.toInt.toNat).toInt := congrArg _ zu16
        have xe : zv15 = T (r.toInt.toNat / 2) := by rw [zu16, show zv13.toInt.toNat = r.toInt.toNat / 2 by omega, hXT _ (by omega)]
        refine w_callV (own := 14) (mi := 48) [.int r, .int zv15] [.int zv9, .int r, .ref (ad 27)] [(0, .ref (ad 2)), (1, .int r), (2, .int zv15)] rfl (cllw_X9 (116, 0, 48) (List.mem_of_getElem? (i := 0) rfl)) rfl rfl (hz.ob rfl rfl) rfl (by omega) (w_lo (n := 23) rfl (by omega)) (Nat.le_of_ble_eq_true rfl) (Nat.le_of_ble_eq_true rfl) rfl (tX9_level_0_ok (67, .invokevirtual 116, 3) (List.mem_of_getElem? (i := 36) rfl)) (z_place hT hz hp ⟨by omega, by omega⟩ (by rw [xe]; exact hx _ (by omega)) (fun zv18 ze19 => ?_))
        show ww l D tys A X fr lo mX9_level Q 70 [(6, .int zv9), (5, .int zv6), (4, .int r), (0, .ref (ad 4)), (1, .ref (ad 2)), (2, .ref (ad (100 + 6 * j))), (3, .ref (ad 3))] [.int zv18, .int zv9, .int r, .ref (ad 27)] h
        rw [xe] at ze19
        have pb := m_pc_b hp.2.1 (r := r.toInt.toNat) (by omega) (hx (r.toInt.toNat / 2) (by omega))
        refine w_iadd (by omega) (by omega) (tX9_level_0_ok (70, .iadd, 1) (List.mem_of_getElem? (i := 37) rfl)) (fun zv20 ze21 => ?_)
        refine z_iast (f := (I 27)) hT hz rfl rfl rfl (by omega) (by omega) (tX9_level_0_ok (71, .iastore, 1) (List.mem_of_getElem? (i := 38) rfl)) (fun zh22 zI23 zq24 zz25 zf26 => ?_)
        refine w_iinc (fun zv27 => [(4, .int zv27), (6, .int zv9), (5, .int zv6), (0, .ref (ad 4)), (1, .ref (ad 2)), (2, .ref (ad (100 + 6 * j))), (3, .ref (ad 3))]) (fun _ => rfl) (List.Mem.tail _ (List.Mem.tail _ (List.Mem.head _))) (Nat.le_of_ble_eq_true rfl) (by decide) (by omega) (by omega) (tX9_level_0_ok (72, .iinc 4 1, 3) (List.mem_of_getElem? (i := 39) rfl)) (fun zv27 ze28 => ?_)
        refine w_goto (tgt := 3) (tX9_level_0_ok (75, .goto (-72), 3) (List.mem_of_getElem? (i := 40) rfl)) rfl ?_
        have hv9 : zv20.toInt = hT9 ρ T r.toInt.toNat := by
          rw [he]
          rw [if_pos (by omega)]
          omega
        have c1 := ((congrFun zq24 27).trans (s2_s _ _ _))
        have ep : zv27.toInt.toNat = r.toInt.toNat + 1 := by omega
        refine w_lv [(4, .int zv27), (0, .ref (ad 4)), (1, .ref (ad 2)), (2, .ref (ad (100 + 6 * j))), (3, .ref (ad 3))] (by intro q hq; simp only [List.mem_cons, List.not_mem_nil, or_false] at hq ⊢; rcases hq with e | e | e | e | e <;> subst e <;> simp) ?_
        refine ih (j9 - 1) (by omega) zh22 zI23 _ (by omega) (by omega) (fun q h1 => ?_) (hp.mv (fun L9 h9 => ?_)) ((congrFun zq24 _).trans ((s2_n (by omega)).trans hX9)) (fun L9 n1 => ?_) zz25 (fun g2 I2 r2 z1 z2 z3 z4 => hq g2 I2 r2 z1 z2 z3 (zf26.tr z4))
        · rw [c1]
          by_cases c9 : q = r.toInt.toNat
          · subst c9
            rw [upd_s]
            exact hv9
          · rw [upd_n _ _ c9]
            exact hD q (by omega)
        · rw [zq24, s2_n (by omega)]
        · rw [zq24, s2_n n1]
          exact hI9 L9 n1
      · refine w_iload (List.Mem.head _) (tX9_level_0_ok (27, .iload 5, 2) (List.mem_of_getElem? (i := 14) rfl)) ?_
        refine w_iload (List.Mem.tail _ (List.Mem.head _)) (tX9_level_0_ok (29, .iload 4, 2) (List.mem_of_getElem? (i := 15) rfl)) ?_
        refine w_icmp_ge (tgt := 44) (tX9_level_0_ok (31, .if_icmp .ge 13, 3) (List.mem_of_getElem? (i := 16) rfl)) rfl (fun zb29 => ?_) (fun zb29 => ?_)
        · refine w_iconst (by decide) (tX9_level_0_ok (44, .iconst 0, 1) (List.mem_of_getElem? (i := 22) rfl)) (fun zv30 ze31 => ?_)
          refine w_istore [(6, .int zv30), (5, .int zv6), (4, .int r), (0, .ref (ad 4)), (1, .ref (ad 2)), (2, .ref (ad (100 + 6 * j))), (3, .ref (ad 3))] rfl (Nat.le_of_ble_eq_true rfl) (tX9_level_0_ok (45, .istore 6, 2) (List.mem_of_getElem? (i := 23) rfl)) ?_
          refine w_aload_n (List.Mem.tail _ (List.Mem.tail _ (List.Mem.tail _ (List.Mem.head _)))) (tX9_level_0_ok (47, .aload_n 0, 1) (List.mem_of_getElem? (i := 24) rfl)) ?_
          refine z_getR (L1 := 27) (own := 14) (k := 2) hz rfl rfl rfl rfl rfl rfl rfl (by decide) (tX9_level_0_ok (48, .getfield 18, 3) (List.mem_of_getElem? (i := 25) rfl)) ?_
          refine w_iload (List.Mem.tail _ (List.Mem.tail _ (List.Mem.head _))) (tX9_level_0_ok (51, .iload 4, 2) (List.mem_of_getElem? (i := 26) rfl)) ?_
          refine w_iload (List.Mem.head _) (tX9_level_0_ok (53, .iload 6, 2) (List.mem_of_getElem? (i := 27) rfl)) ?_
          refine w_aload_n (List.Mem.tail _ (List.Mem.tail _ (List.Mem.tail _ (List.Mem.tail _ (List.Mem.head _))))) (tX9_level_0_ok (55, .aload_n 1, 1) (List.mem_of_getElem? (i := 28) rfl)) ?_
          refine w_iload (List.Mem.tail _ (List.Mem.tail _ (List.Mem.head _))) (tX9_level_0_ok (56, .iload 4, 2) (List.mem_of_getElem? (i := 29) rfl)) ?_
          refine w_aload_n (List.Mem.tail _ (List.Mem.tail _ (List.Mem.tail _ (List.Mem.tail _ (List.Mem.tail _ (List.Mem.head _)))))) (tX9_level_0_ok (58, .aload_n 2, 1) (List.mem_of_getElem? (i := 30) rfl)) ?_
          refine z_getR (L1 := (100 + 6 * j + 1)) (own := 14) (k := 0) hz (zNC_s (k := 0) hj_j (by decide)) (zZ_s j) rfl rfl rfl rfl rfl (by decide) (tX9_level_0_ok (59, .getfield 88, 3) (List.mem_of_getElem? (i := 31) rfl)) ?_
          refine w_iload (List.Mem.tail _ (List.Mem.tail _ (List.Mem.head _))) (tX9_level_0_ok (62, .iload 4, 2) (List.mem_of_getElem? (i := 32) rfl)) ?_
          refine w_iconst (by decide) (tX9_level_0_ok (64, .iconst 1, 1) (List.mem_of_getElem? (i := 33) rfl)) (fun zv32 ze33 => ?_)
          refine w_ishr (tX9_level_0_ok (65, .ishr, 1) (List.mem_of_getElem? (i := 34) rfl)) (fun zv34 ze35 => ?_)
          have hs9 := shr1w (x := r) (z := zv32) (by omega) (by omega) ze35
          refine z_iald (f := xf) hT hz (zNC_s (k := 1) hj_j (by decide)) (zZ_s1 j) (hX9) (by omega) (by omega) (tX9_level_0_ok (66, .iaload, 1) (List.mem_of_getElem? (i := 35) rfl)) (fun zv36 zu37 => ?_)
          have ze38 : zv36.toInt = (xf zv34.toInt.toNat).toInt := congrArg _ zu37
          have xe : zv36 = T (r.toInt.toNat / 2) := by rw [zu37, show zv34.toInt.toNat = r.toInt.toNat / 2 by omega, hXT _ (by omega)]
          refine w_callV (own := 14) (mi := 48) [.int r, .int zv36] [.int zv30, .int r, .ref (ad 27)] [(0, .ref (ad 2)), (1, .int r), (2, .int zv36)] rfl (cllw_X9 (116, 0, 48) (List.mem_of_getElem? (i := 0) rfl)) rfl rfl (hz.ob rfl rfl) rfl (by omega) (w_lo (n := 23) rfl (by omega)) (Nat.le_of_ble_eq_true rfl) (Nat.le_of_ble_eq_true rfl) rfl (tX9_level_0_ok (67, .invokevirtual 116, 3) (List.mem_of_getElem? (i := 36) rfl)) (z_place hT hz hp ⟨by omega, by omega⟩ (by rw [xe]; exact hx _ (by omega)) (fun zv39 ze40 => ?_))
          show ww l D tys A X fr lo mX9_level Q 70 [(6, .int zv30), (5, .int zv6), (4, .int r), (0, .ref (ad 4)), (1, .ref (ad 2)), (2, .ref (ad (100 + 6 * j))), (3, .ref (ad 3))] [.int zv39, .int zv30, .int r, .ref (ad 27)] h
          rw [xe] at ze40
          have pb := m_pc_b hp.2.1 (r := r.toInt.toNat) (by omega) (hx (r.toInt.toNat / 2) (by omega))
          refine w_iadd (by omega) (by omega) (tX9_level_0_ok (70, .iadd, 1) (List.mem_of_getElem? (i := 37) rfl)) (fun zv41 ze42 => ?_)
          refine z_iast (f := (I 27)) hT hz rfl rfl rfl (by omega) (by omega) (tX9_level_0_ok (71, .iastore, 1) (List.mem_of_getElem? (i := 38) rfl)) (fun zh43 zI44 zq45 zz46 zf47 => ?_)
          refine w_iinc (fun zv48 => [(4, .int zv48), (6, .int zv30), (5, .int zv6), (0, .ref (ad 4)), (1, .ref (ad 2)), (2, .ref (ad (100 + 6 * j))), (3, .ref (ad 3))]) (fun _ => rfl) (List.Mem.tail _ (List.Mem.tail _ (List.Mem.head _))) (Nat.le_of_ble_eq_true rfl) (by decide) (by omega) (by omega) (tX9_level_0_ok (72, .iinc 4 1, 3) (List.mem_of_getElem? (i := 39) rfl)) (fun zv48 ze49 => ?_)
          refine w_goto (tgt := 3) (tX9_level_0_ok (75, .goto (-72), 3) (List.mem_of_getElem? (i := 40) rfl)) rfl ?_
          have hv9 : zv41.toInt = hT9 ρ T r.toInt.toNat := by
            rw [he]
            omega
          have c1 := ((congrFun zq45 27).trans (s2_s _ _ _))
          have ep : zv48.toInt.toNat = r.toInt.toNat + 1 := by omega
          refine w_lv [(4, .int zv48), (0, .ref (ad 4)), (1, .ref (ad 2)), (2, .ref (ad (100 + 6 * j))), (3, .ref (ad 3))] (by intro q hq; simp only [List.mem_cons, List.not_mem_nil, or_false] at hq ⊢; rcases hq with e | e | e | e | e <;> subst e <;> simp) ?_
          refine ih (j9 - 1) (by omega) zh43 zI44 _ (by omega) (by omega) (fun q h1 => ?_) (hp.mv (fun L9 h9 => ?_)) ((congrFun zq45 _).trans ((s2_n (by omega)).trans hX9)) (fun L9 n1 => ?_) zz46 (fun g2 I2 r2 z1 z2 z3 z4 => hq g2 I2 r2 z1 z2 z3 (zf47.tr z4))
          · rw [c1]
            by_cases c9 : q = r.toInt.toNat
            · subst c9
              rw [upd_s]
              exact hv9
            · rw [upd_n _ _ c9]
              exact hD q (by omega)
          · rw [zq45, s2_n (by omega)]
          · rw [zq45, s2_n n1]
            exact hI9 L9 n1
        · refine w_aload_n (List.Mem.tail _ (List.Mem.tail _ (List.Mem.head _))) (tX9_level_0_ok (34, .aload_n 0, 1) (List.mem_of_getElem? (i := 17) rfl)) ?_
          refine z_getR (L1 := 27) (own := 14) (k := 2) hz rfl rfl rfl rfl rfl rfl rfl (by decide) (tX9_level_0_ok (35, .getfield 18, 3) (List.mem_of_getElem? (i := 18) rfl)) ?_
          refine w_iload (List.Mem.head _) (tX9_level_0_ok (38, .iload 5, 2) (List.mem_of_getElem? (i := 19) rfl)) ?_
          refine z_iald (f := (I 27)) hT hz rfl rfl rfl (by omega) (by omega) (tX9_level_0_ok (40, .iaload, 1) (List.mem_of_getElem? (i := 20) rfl)) (fun zv50 zu51 => ?_)
          have ze52 : zv50.toInt = ((I 27) zv6.toInt.toNat).toInt := congrArg _ zu51
          have f9 := hD zv6.toInt.toNat (by omega)
          have fb := hT_b hp.2.1 hx (r := zv6.toInt.toNat) (by omega)
          refine w_goto (tgt := 45) (tX9_level_0_ok (41, .goto 4, 3) (List.mem_of_getElem? (i := 21) rfl)) rfl ?_
          refine w_istore [(6, .int zv50), (5, .int zv6), (4, .int r), (0, .ref (ad 4)), (1, .ref (ad 2)), (2, .ref (ad (100 + 6 * j))), (3, .ref (ad 3))] rfl (Nat.le_of_ble_eq_true rfl) (tX9_level_0_ok (45, .istore 6, 2) (List.mem_of_getElem? (i := 23) rfl)) ?_
          refine w_aload_n (List.Mem.tail _ (List.Mem.tail _ (List.Mem.tail _ (List.Mem.head _)))) (tX9_level_0_ok (47, .aload_n 0, 1) (List.mem_of_getElem? (i := 24) rfl)) ?_
          refine z_getR (L1 := 27) (own := 14) (k := 2) hz rfl rfl rfl rfl rfl rfl rfl (by decide) (tX9_level_0_ok (48, .getfield 18, 3) (List.mem_of_getElem? (i := 25) rfl)) ?_
          refine w_iload (List.Mem.tail _ (List.Mem.tail _ (List.Mem.head _))) (tX9_level_0_ok (51, .iload 4, 2) (List.mem_of_getElem? (i := 26) rfl)) ?_
          refine w_iload (List.Mem.head _) (tX9_level_0_ok (53, .iload 6, 2) (List.mem_of_getElem? (i := 27) rfl)) ?_
          refine w_aload_n (List.Mem.tail _ (List.Mem.tail _ (List.Mem.tail _ (List.Mem.tail _ (List.Mem.head _))))) (tX9_level_0_ok (55, .aload_n 1, 1) (List.mem_of_getElem? (i := 28) rfl)) ?_
          refine w_iload (List.Mem.tail _ (List.Mem.tail _ (List.Mem.head _))) (tX9_level_0_ok (56, .iload 4, 2) (List.mem_of_getElem? (i := 29) rfl)) ?_
          refine w_aload_n (List.Mem.tail _ (List.Mem.tail _ (List.Mem.tail _ (List.Mem.tail _ (List.Mem.tail _ (List.Mem.head _)))))) (tX9_level_0_ok (58, .aload_n 2, 1) (List.mem_of_getElem? (i := 30) rfl)) ?_
          refine z_getR (L1 := (100 + 6 * j + 1)) (own := 14) (k := 0) hz (zNC_s (k := 0) hj_j (by decide)) (zZ_s j) rfl rfl rfl rfl rfl (by decide) (tX9_level_0_ok (59, .getfield 88, 3) (List.mem_of_getElem? (i := 31) rfl)) ?_
          refine w_iload (List.Mem.tail _ (List.Mem.tail _ (List.Mem.head _))) (tX9_level_0_ok (62, .iload 4, 2) (List.mem_of_getElem? (i := 32) rfl)) ?_
          refine w_iconst (by decide) (tX9_level_0_ok (64, .iconst 1, 1) (List.mem_of_getElem? (i := 33) rfl)) (fun zv53 ze54 => ?_)
          refine w_ishr (tX9_level_0_ok (65, .ishr, 1) (List.mem_of_getElem? (i := 34) rfl)) (fun zv55 ze56 => ?_)
          have hs9 := shr1w (x := r) (z := zv53) (by omega) (by omega) ze56
          refine z_iald (f := xf) hT hz (zNC_s (k := 1) hj_j (by decide)) (zZ_s1 j) (hX9) (by omega) (by omega) (tX9_level_0_ok (66, .iaload, 1) (List.mem_of_getElem? (i := 35) rfl)) (fun zv57 zu58 => ?_)
          have ze59 : zv57.toInt = (xf zv55.toInt.toNat).toInt := congrArg _ zu58
          have xe : zv57 = T (r.toInt.toNat / 2) := by rw [zu58, show zv55.toInt.toNat = r.toInt.toNat / 2 by omega, hXT _ (by omega)]
          refine w_callV (own := 14) (mi := 48) [.int r, .int zv57] [.int zv50, .int r, .ref (ad 27)] [(0, .ref (ad 2)), (1, .int r), (2, .int zv57)] rfl (cllw_X9 (116, 0, 48) (List.mem_of_getElem? (i := 0) rfl)) rfl rfl (hz.ob rfl rfl) rfl (by omega) (w_lo (n := 23) rfl (by omega)) (Nat.le_of_ble_eq_true rfl) (Nat.le_of_ble_eq_true rfl) rfl (tX9_level_0_ok (67, .invokevirtual 116, 3) (List.mem_of_getElem? (i := 36) rfl)) (z_place hT hz hp ⟨by omega, by omega⟩ (by rw [xe]; exact hx _ (by omega)) (fun zv60 ze61 => ?_))
          show ww l D tys A X fr lo mX9_level Q 70 [(6, .int zv50), (5, .int zv6), (4, .int r), (0, .ref (ad 4)), (1, .ref (ad 2)), (2, .ref (ad (100 + 6 * j))), (3, .ref (ad 3))] [.int zv60, .int zv50, .int r, .ref (ad 27)] h
          rw [xe] at ze61
          have pb := m_pc_b hp.2.1 (r := r.toInt.toNat) (by omega) (hx (r.toInt.toNat / 2) (by omega))
          refine w_iadd (by omega) (by omega) (tX9_level_0_ok (70, .iadd, 1) (List.mem_of_getElem? (i := 37) rfl)) (fun zv62 ze63 => ?_)
          refine z_iast (f := (I 27)) hT hz rfl rfl rfl (by omega) (by omega) (tX9_level_0_ok (71, .iastore, 1) (List.mem_of_getElem? (i := 38) rfl)) (fun zh64 zI65 zq66 zz67 zf68 => ?_)
          refine w_iinc (fun zv69 => [(4, .int zv69), (6, .int zv50), (5, .int zv6), (0, .ref (ad 4)), (1, .ref (ad 2)), (2, .ref (ad (100 + 6 * j))), (3, .ref (ad 3))]) (fun _ => rfl) (List.Mem.tail _ (List.Mem.tail _ (List.Mem.head _))) (Nat.le_of_ble_eq_true rfl) (by decide) (by omega) (by omega) (tX9_level_0_ok (72, .iinc 4 1, 3) (List.mem_of_getElem? (i := 39) rfl)) (fun zv69 ze70 => ?_)
          refine w_goto (tgt := 3) (tX9_level_0_ok (75, .goto (-72), 3) (List.mem_of_getElem? (i := 40) rfl)) rfl ?_
          have hv9 : zv62.toInt = hT9 ρ T r.toInt.toNat := by
            rw [he]
            rw [if_neg (by omega), show (ρ (r.toInt.toNat / 2) 8).toNat = zv6.toInt.toNat by omega]
            omega
          have c1 := ((congrFun zq66 27).trans (s2_s _ _ _))
          have ep : zv69.toInt.toNat = r.toInt.toNat + 1 := by omega
          refine w_lv [(4, .int zv69), (0, .ref (ad 4)), (1, .ref (ad 2)), (2, .ref (ad (100 + 6 * j))), (3, .ref (ad 3))] (by intro q hq; simp only [List.mem_cons, List.not_mem_nil, or_false] at hq ⊢; rcases hq with e | e | e | e | e <;> subst e <;> simp) ?_
          refine ih (j9 - 1) (by omega) zh64 zI65 _ (by omega) (by omega) (fun q h1 => ?_) (hp.mv (fun L9 h9 => ?_)) ((congrFun zq66 _).trans ((s2_n (by omega)).trans hX9)) (fun L9 n1 => ?_) zz67 (fun g2 I2 r2 z1 z2 z3 z4 => hq g2 I2 r2 z1 z2 z3 (zf68.tr z4))
          · rw [c1]
            by_cases c9 : q = r.toInt.toNat
            · subst c9
              rw [upd_s]
              exact hv9
            · rw [upd_n _ _ c9]
              exact hD q (by omega)
          · rw [zq66, s2_n (by omega)]
          · rw [zq66, s2_n n1]
            exact hI9 L9 n1
theorem z_lvG (hT : k_tys tys cA) {I0 : zI} (n6 : n ≤ 6) (hga : ga ≤ 6) : ∀ (j9 : Nat) (h : ch_H) (I : zI) (i : Int32), i.toInt + j9 = ga → 0 ≤ i.toInt → (∀ q, q < i.toInt.toNat → I 27 (12 + q) = GH q) → (∀ q, q < 2 * n → (I 27 q).toInt = hT9 ρ T q) → (I 3 0).toInt = (ga : Int) → (∀ g, g < ga → I 20 g = GH g) → (∀ L, L ≠ 27 → I L = I0 L) → zr zNC cA ad I W O h → (∀ (g : ch_H) (I1 : zI), (∀ q, q < 2 * n → (I1 27 q).toInt = hT9 ρ T q) → (∀ q, q < ga → I1 27 (12 + q) = GH q) → (∀ L, L ≠ 27 → I1 L = I0 L) → zr zNC cA ad I1 W O g → zf zNC ad h g → Q none g) → ww l D tys A X fr lo mX9_level Q 81 [(4, .int i), (0, .ref (ad 4)), (1, .ref (ad 2)), (2, .ref (ad (100 + 6 * j))), (3, .ref (ad 3))] [] h := by
  intro j9
  induction j9 using Nat.strongRecOn with
  | ind j9 ih =>
    intro h I i hj9 hi0 hD hR hg1 hg2 hI9 hz hq
    refine w_iload (List.Mem.head _) (tX9_level_0_ok (81, .iload 4, 2) (List.mem_of_getElem? (i := 43) rfl)) ?_
    refine w_aload_n (List.Mem.tail _ (List.Mem.tail _ (List.Mem.tail _ (List.Mem.tail _ (List.Mem.head _))))) (tX9_level_0_ok (83, .aload_n 3, 1) (List.mem_of_getElem? (i := 44) rfl)) ?_
    refine z_get (f := (I 3)) (own := 14) (k := 0) hz rfl rfl rfl rfl rfl rfl rfl (by decide) (tX9_level_0_ok (84, .getfield 122, 3) (List.mem_of_getElem? (i := 45) rfl)) ?_
    refine w_icmp_ge (tgt := 113) (tX9_level_0_ok (87, .if_icmp .ge 26, 3) (List.mem_of_getElem? (i := 46) rfl)) rfl (fun zb1 => ?_) (fun zb1 => ?_)
    · refine w_vret rfl (tX9_level_0_ok (113, .return_, 1) (List.mem_of_getElem? (i := 59) rfl)) ?_
      exact hq h I hR (fun q h1 => hD q (by omega)) hI9 hz zf.rf
    · refine w_aload_n (List.Mem.tail _ (List.Mem.head _)) (tX9_level_0_ok (90, .aload_n 0, 1) (List.mem_of_getElem? (i := 47) rfl)) ?_
      refine z_getR (L1 := 27) (own := 14) (k := 2) hz rfl rfl rfl rfl rfl rfl rfl (by decide) (tX9_level_0_ok (91, .getfield 18, 3) (List.mem_of_getElem? (i := 48) rfl)) ?_
      refine w_bipush (by decide) (tX9_level_0_ok (94, .bipush 12, 2) (List.mem_of_getElem? (i := 49) rfl)) (fun zv2 ze3 => ?_)
      refine w_iload (List.Mem.head _) (tX9_level_0_ok (96, .iload 4, 2) (List.mem_of_getElem? (i := 50) rfl)) ?_
      refine w_iadd (by omega) (by omega) (tX9_level_0_ok (98, .iadd, 1) (List.mem_of_getElem? (i := 51) rfl)) (fun zv4 ze5 => ?_)
      refine w_aload_n (List.Mem.tail _ (List.Mem.tail _ (List.Mem.tail _ (List.Mem.tail _ (List.Mem.head _))))) (tX9_level_0_ok (99, .aload_n 3, 1) (List.mem_of_getElem? (i := 52) rfl)) ?_
      refine z_getR (L1 := 20) (own := 14) (k := 1) hz rfl rfl rfl rfl rfl rfl rfl (by decide) (tX9_level_0_ok (100, .getfield 113, 3) (List.mem_of_getElem? (i := 53) rfl)) ?_
      refine w_iload (List.Mem.head _) (tX9_level_0_ok (103, .iload 4, 2) (List.mem_of_getElem? (i := 54) rfl)) ?_
      refine z_iald (f := (I 20)) hT hz rfl rfl rfl (by omega) (by omega) (tX9_level_0_ok (105, .iaload, 1) (List.mem_of_getElem? (i := 55) rfl)) (fun zv6 zu7 => ?_)
      have ze8 : zv6.toInt = ((I 20) i.toInt.toNat).toInt := congrArg _ zu7
      refine z_iast (f := (I 27)) hT hz rfl rfl rfl (by omega) (by omega) (tX9_level_0_ok (106, .iastore, 1) (List.mem_of_getElem? (i := 56) rfl)) (fun zh9 zI10 zq11 zz12 zf13 => ?_)
      refine w_iinc (fun zv14 => [(4, .int zv14), (0, .ref (ad 4)), (1, .ref (ad 2)), (2, .ref (ad (100 + 6 * j))), (3, .ref (ad 3))]) (fun _ => rfl) (List.Mem.head _) (Nat.le_of_ble_eq_true rfl) (by decide) (by omega) (by omega) (tX9_level_0_ok (107, .iinc 4 1, 3) (List.mem_of_getElem? (i := 57) rfl)) (fun zv14 ze15 => ?_)
      refine w_goto (tgt := 81) (tX9_level_0_ok (110, .goto (-29), 3) (List.mem_of_getElem? (i := 58) rfl)) rfl ?_
      have c1 := ((congrFun zq11 27).trans (s2_s _ _ _))
      refine w_lv [(4, .int zv14), (0, .ref (ad 4)), (1, .ref (ad 2)), (2, .ref (ad (100 + 6 * j))), (3, .ref (ad 3))] (by intro q hq; simp only [List.mem_cons, List.not_mem_nil, or_false] at hq ⊢; rcases hq with e | e | e | e | e <;> subst e <;> simp) ?_
      have i9 : zv4.toInt.toNat = 12 + i.toInt.toNat := by omega
      rw [i9] at c1
      refine ih (j9 - 1) (by omega) zh9 zI10 _ (by omega) (by omega) (fun q h1 => ?_) (fun q h1 => ?_) ?_ ?_ (fun L9 n1 => ?_) zz12 (fun g2 I2 z1 z2 z3 z4 z5 => hq g2 I2 z1 z2 z3 z4 (zf13.tr z5))
      · rw [c1]
        by_cases c9 : q = i.toInt.toNat
        · subst c9
          rw [upd_s, zu7, hg2 _ (by omega)]
        · rw [upd_n _ _ (by omega)]
          exact hD q (by omega)
      · rw [c1, upd_n _ _ (by omega)]
        exact hR q h1
      · rw [zq11, s2_n (by decide)]
        exact hg1
      · rw [zq11, s2_n (by decide)]
        exact hg2
      · rw [zq11, s2_n n1]
        exact hI9 L9 n1
theorem z_level (hT : k_tys tys cA) (hj_j : j < 10) (hz : zr zNC cA ad I W O h) (hp : pz I n ρ) (hx : m_ok n ρ T) (hXT : ∀ q, q < n → I (100 + 6 * j + 1) q = T q) (hg1 : (I 3 0).toInt = (ga : Int)) (hG : ∀ g, g < ga → I 20 g = GH g) (hga : ga ≤ 6) (hf : 1 ≤ fr) (hlo : 30 ≤ lo) (hq : (∀ (g : ch_H) (I1 : zI), (∀ q, q < 2 * n → (I1 27 q).toInt = hT9 ρ T q) → (∀ q, q < ga → I1 27 (12 + q) = GH q) → (∀ L, L ≠ 27 → I1 L = I L) → zr zNC cA ad I1 W O g → zf zNC ad h g → Q none g)) : ww l D tys A X fr lo mX9_level Q 0 [(0, .ref (ad 4)), (1, .ref (ad 2)), (2, .ref (ad (100 + 6 * j))), (3, .ref (ad 3))] [] h := by
  refine w_iconst (by decide) (tX9_level_0_ok (0, .iconst 0, 1) (List.mem_of_getElem? (i := 0) rfl)) (fun zv1 ze2 => ?_)
  refine w_istore [(4, .int zv1), (0, .ref (ad 4)), (1, .ref (ad 2)), (2, .ref (ad (100 + 6 * j))), (3, .ref (ad 3))] rfl (Nat.le_of_ble_eq_true rfl) (tX9_level_0_ok (1, .istore 4, 2) (List.mem_of_getElem? (i := 1) rfl)) ?_
  refine w_lv [(4, .int zv1), (0, .ref (ad 4)), (1, .ref (ad 2)), (2, .ref (ad (100 + 6 * j))), (3, .ref (ad 3))] (by intro q hq; simp only [List.mem_cons, List.not_mem_nil, or_false] at hq ⊢; rcases hq with e | e | e | e | e <;> subst e <;> simp) ?_
  refine z_lvL hT hj_j (I0 := I) hp.2.1 hx hXT hf hlo (2 * n) h I _ (by omega) (by omega) (fun q h1 => absurd h1 (by omega)) hp rfl (fun _ _ => rfl) hz (fun g I1 r1 y1 y2 y3 y4 => ?_)
  refine w_iconst (by decide) (tX9_level_0_ok (78, .iconst 0, 1) (List.mem_of_getElem? (i := 41) rfl)) (fun yv1 ye2 => ?_)
  refine w_istore [(4, .int yv1), (0, .ref (ad 4)), (1, .ref (ad 2)), (2, .ref (ad (100 + 6 * j))), (3, .ref (ad 3))] rfl (Nat.le_of_ble_eq_true rfl) (tX9_level_0_ok (79, .istore 4, 2) (List.mem_of_getElem? (i := 42) rfl)) ?_
  refine w_lv [(4, .int yv1), (0, .ref (ad 4)), (1, .ref (ad 2)), (2, .ref (ad (100 + 6 * j))), (3, .ref (ad 3))] (by intro q hq; simp only [List.mem_cons, List.not_mem_nil, or_false] at hq ⊢; rcases hq with e | e | e | e | e <;> subst e <;> simp) ?_
  exact z_lvG hT (I0 := I) hp.2.1.1 hga ga _ I1 _ (by omega) (by omega) (fun q h1 => absurd h1 (by omega)) y1 (by rw [y2 3 (by decide)]; exact hg1) (by rw [y2 20 (by decide)]; exact hG) y2 y3 (fun g2 I2 z1 z2 z3 z4 z5 => hq g2 I2 z1 z2 z3 z4 (y4.tr z5))
theorem y_placeOf (hT : k_tys tys cA) {p s9 x : Int32} (hz : zr zNM cA ad I W O h) (hp : qz I n ρ) (hf : 1 ≤ fr) (hlo : 30 ≤ lo) (h0 : 0 ≤ p.toInt ∧ p.toInt < (n : Int)) (hs : 0 ≤ s9.toInt ∧ s9.toInt ≤ 1) (hx : 0 ≤ x.toInt ∧ x.toInt ≤ ρ p.toInt.toNat 1) (hq : ∀ v : Int32, v.toInt = m_pc ρ (2 * p.toInt.toNat + s9.toInt.toNat) x.toInt → Q (some (.int v)) h) : ww l D tys A X fr lo mX11_placeOf Q 0 [(0, .ref (ad 50)), (1, .int p), (2, .int s9), (3, .int x)] [] h := by
  have wL := (hp.2.1.2 p.toInt.toNat (by omega)).1.2.1
  refine w_iload_n (List.Mem.tail _ (List.Mem.tail _ (List.Mem.head _))) (tX11_placeOf_0_ok (0, .iload_n 2, 1) (List.mem_of_getElem? (i := 0) rfl)) ?_
  refine w_if_ne (tgt := 8) (tX11_placeOf_0_ok (1, .ifCond .ne 7, 3) (List.mem_of_getElem? (i := 1) rfl)) rfl (fun zb1 => ?_) (fun zb1 => ?_)
  · refine w_aload_n (List.Mem.head _) (tX11_placeOf_0_ok (8, .aload_n 0, 1) (List.mem_of_getElem? (i := 4) rfl)) ?_
    refine w_iload_n (List.Mem.tail _ (List.Mem.head _)) (tX11_placeOf_0_ok (9, .iload_n 1, 1) (List.mem_of_getElem? (i := 5) rfl)) ?_
    refine w_iconst (by decide) (tX11_placeOf_0_ok (10, .iconst 0, 1) (List.mem_of_getElem? (i := 6) rfl)) (fun zv2 ze3 => ?_)
    refine w_callV (own := 16) (mi := 219) [.int p, .int zv2] [] [(0, .ref (ad 50)), (1, .int p), (2, .int zv2)] rfl (cllw_X11 (255, 0, 219) (List.mem_of_getElem? (i := 34) rfl)) rfl rfl (hz.ob rfl rfl) rfl (by omega) (w_lo (n := 22) rfl (by omega)) (Nat.le_of_ble_eq_true rfl) (Nat.le_of_ble_eq_true rfl) rfl (tX11_placeOf_0_ok (11, .invokevirtual 255, 3) (List.mem_of_getElem? (i := 7) rfl)) (y_of hT hz hp h0 (by omega) (fun zv4 ze5 => ?_))
    show ww l D tys A X fr lo mX11_placeOf Q 14 [(0, .ref (ad 50)), (1, .int p), (2, .int s9), (3, .int x)] [.int zv4] h
    rw [show zv2.toInt.toNat = 0 by omega] at ze5
    refine w_iconst (by decide) (tX11_placeOf_0_ok (14, .iconst 1, 1) (List.mem_of_getElem? (i := 8) rfl)) (fun zv6 ze7 => ?_)
    refine w_icmp_ne (tgt := 31) (tX11_placeOf_0_ok (15, .if_icmp .ne 16, 3) (List.mem_of_getElem? (i := 9) rfl)) rfl (fun zb8 => ?_) (fun zb8 => ?_)
    · refine w_aload_n (List.Mem.head _) (tX11_placeOf_0_ok (31, .aload_n 0, 1) (List.mem_of_getElem? (i := 19) rfl)) ?_
      refine w_iload_n (List.Mem.tail _ (List.Mem.head _)) (tX11_placeOf_0_ok (32, .iload_n 1, 1) (List.mem_of_getElem? (i := 20) rfl)) ?_
      refine w_iconst (by decide) (tX11_placeOf_0_ok (33, .iconst 1, 1) (List.mem_of_getElem? (i := 21) rfl)) (fun zv9 ze10 => ?_)
      refine w_callV (own := 16) (mi := 219) [.int p, .int zv9] [] [(0, .ref (ad 50)), (1, .int p), (2, .int zv9)] rfl (cllw_X11 (255, 0, 219) (List.mem_of_getElem? (i := 34) rfl)) rfl rfl (hz.ob rfl rfl) rfl (by omega) (w_lo (n := 22) rfl (by omega)) (Nat.le_of_ble_eq_true rfl) (Nat.le_of_ble_eq_true rfl) rfl (tX11_placeOf_0_ok (34, .invokevirtual 255, 3) (List.mem_of_getElem? (i := 22) rfl)) (y_of hT hz hp h0 (by omega) (fun zv11 ze12 => ?_))
      show ww l D tys A X fr lo mX11_placeOf Q 37 [(0, .ref (ad 50)), (1, .int p), (2, .int s9), (3, .int x)] [.int zv11] h
      rw [show zv9.toInt.toNat = 1 by omega] at ze12
      refine w_iload_n (List.Mem.tail _ (List.Mem.tail _ (List.Mem.tail _ (List.Mem.head _)))) (tX11_placeOf_0_ok (37, .iload_n 3, 1) (List.mem_of_getElem? (i := 23) rfl)) ?_
      refine w_isub (by omega) (by omega) (tX11_placeOf_0_ok (38, .isub, 1) (List.mem_of_getElem? (i := 24) rfl)) (fun zv13 ze14 => ?_)
      refine w_iret rfl (tX11_placeOf_0_ok (39, .ireturn, 1) (List.mem_of_getElem? (i := 25) rfl)) ?_
      refine hq _ ?_
      unfold m_pc
      rw [show (2 * p.toInt.toNat + s9.toInt.toNat) / 2 = p.toInt.toNat by omega]
      repeat (first | rw [if_pos (by omega)] | rw [if_neg (by omega)])
      all_goals omega
    · refine w_aload_n (List.Mem.head _) (tX11_placeOf_0_ok (18, .aload_n 0, 1) (List.mem_of_getElem? (i := 10) rfl)) ?_
      refine w_iload_n (List.Mem.tail _ (List.Mem.head _)) (tX11_placeOf_0_ok (19, .iload_n 1, 1) (List.mem_of_getElem? (i := 11) rfl)) ?_
      refine w_iconst (by decide) (tX11_placeOf_0_ok (20, .iconst 1, 1) (List.mem_of_getElem? (i := 12) rfl)) (fun zv15 ze16 => ?_)
      refine w_callV (own := 16) (mi := 219) [.int p, .int zv15] [] [(0, .ref (ad 50)), (1, .int p), (2, .int zv15)] rfl (cllw_X11 (255, 0, 219) (List.mem_of_getElem? (i := 34) rfl)) rfl rfl (hz.ob rfl rfl) rfl (by omega) (w_lo (n := 22) rfl (by omega)) (Nat.le_of_ble_eq_true rfl) (Nat.le_of_ble_eq_true rfl) rfl (tX11_placeOf_0_ok (21, .invokevirtual 255, 3) (List.mem_of_getElem? (i := 13) rfl)) (y_of hT hz hp h0 (by omega) (fun zv17 ze18 => ?_))
      show ww l D tys A X fr lo mX11_placeOf Q 24 [(0, .ref (ad 50)), (1, .int p), (2, .int s9), (3, .int x)] [.int zv17] h
      rw [show zv15.toInt.toNat = 1 by omega] at ze18
      refine w_iload_n (List.Mem.tail _ (List.Mem.tail _ (List.Mem.tail _ (List.Mem.head _)))) (tX11_placeOf_0_ok (24, .iload_n 3, 1) (List.mem_of_getElem? (i := 14) rfl)) ?_
      refine w_isub (by omega) (by omega) (tX11_placeOf_0_ok (25, .isub, 1) (List.mem_of_getElem? (i := 15) rfl)) (fun zv19 ze20 => ?_)
      refine w_iconst (by decide) (tX11_placeOf_0_ok (26, .iconst 2, 1) (List.mem_of_getElem? (i := 16) rfl)) (fun zv21 ze22 => ?_)
      refine w_idiv2 (by omega) (by omega) (tX11_placeOf_0_ok (27, .idiv, 1) (List.mem_of_getElem? (i := 17) rfl)) (fun zv23 ze24 => ?_)
      refine w_goto (tgt := 39) (tX11_placeOf_0_ok (28, .goto 11, 3) (List.mem_of_getElem? (i := 18) rfl)) rfl ?_
      refine w_iret rfl (tX11_placeOf_0_ok (39, .ireturn, 1) (List.mem_of_getElem? (i := 25) rfl)) ?_
      refine hq _ ?_
      unfold m_pc
      rw [show (2 * p.toInt.toNat + s9.toInt.toNat) / 2 = p.toInt.toNat by omega]
      repeat (first | rw [if_pos (by omega)] | rw [if_neg (by omega)])
      all_goals omega
  · refine w_iload_n (List.Mem.tail _ (List.Mem.tail _ (List.Mem.tail _ (List.Mem.head _)))) (tX11_placeOf_0_ok (4, .iload_n 3, 1) (List.mem_of_getElem? (i := 2) rfl)) ?_
    refine w_goto (tgt := 39) (tX11_placeOf_0_ok (5, .goto 34, 3) (List.mem_of_getElem? (i := 3) rfl)) rfl ?_
    refine w_iret rfl (tX11_placeOf_0_ok (39, .ireturn, 1) (List.mem_of_getElem? (i := 25) rfl)) ?_
    refine hq _ ?_
    unfold m_pc
    rw [show (2 * p.toInt.toNat + s9.toInt.toNat) / 2 = p.toInt.toNat by omega]
    repeat (first | rw [if_pos (by omega)] | rw [if_neg (by omega)])
    all_goals omega
theorem y_hR (hT : k_tys tys cA) (hz : zr zNM cA ad I W O h) (hp : qz I n ρ) (hx : m_ok n ρ T) (hXT : ∀ q, q < n → I 56 q = T q) : ∀ (d fr lo : Nat) (Q : Option Value → ch_H → Prop) {k : Int32}, d + 1 ≤ fr → 22 * d + 60 ≤ lo → k.toInt.toNat / 2 < d → (0 ≤ k.toInt ∧ k.toInt < 2 * (n : Int)) → (∀ v : Int32, v.toInt = hT9 ρ T k.toInt.toNat → Q (some (.int v)) h) → ww l D tys A X fr lo mX11_height Q 0 [(0, .ref (ad 50)), (1, .int k)] [] h := by
  intro d
  induction d with
  | zero =>
    intro fr lo Q k hf hlo hd h0 hq
    exact absurd hd (Nat.not_lt_zero _)
  | succ d ih =>
    intro fr lo Q k hf hlo hd h0 hq
    have n6 := hp.2.1.1
    refine w_iload_n (List.Mem.tail _ (List.Mem.head _)) (tX11_height_0_ok (0, .iload_n 1, 1) (List.mem_of_getElem? (i := 0) rfl)) ?_
    refine w_bipush (by decide) (tX11_height_0_ok (1, .bipush 12, 2) (List.mem_of_getElem? (i := 1) rfl)) (fun zv1 ze2 => ?_)
    refine w_icmp_lt (tgt := 13) (tX11_height_0_ok (3, .if_icmp .lt 10, 3) (List.mem_of_getElem? (i := 2) rfl)) rfl (fun zb3 => ?_) (fun zb3 => ?_)
    · refine w_iload_n (List.Mem.tail _ (List.Mem.head _)) (tX11_height_0_ok (13, .iload_n 1, 1) (List.mem_of_getElem? (i := 8) rfl)) ?_
      refine w_iconst (by decide) (tX11_height_0_ok (14, .iconst 2, 1) (List.mem_of_getElem? (i := 9) rfl)) (fun zv4 ze5 => ?_)
      refine w_idiv2 (by omega) (by omega) (tX11_height_0_ok (15, .idiv, 1) (List.mem_of_getElem? (i := 10) rfl)) (fun zv6 ze7 => ?_)
      refine w_istore_n [(2, .int zv6), (0, .ref (ad 50)), (1, .int k)] rfl (Nat.le_of_ble_eq_true rfl) (tX11_height_0_ok (16, .istore_n 2, 1) (List.mem_of_getElem? (i := 11) rfl)) ?_
      refine w_aload_n (List.Mem.tail _ (List.Mem.head _)) (tX11_height_0_ok (17, .aload_n 0, 1) (List.mem_of_getElem? (i := 12) rfl)) ?_
      refine w_iload_n (List.Mem.head _) (tX11_height_0_ok (18, .iload_n 2, 1) (List.mem_of_getElem? (i := 13) rfl)) ?_
      refine w_iload_n (List.Mem.tail _ (List.Mem.tail _ (List.Mem.head _))) (tX11_height_0_ok (19, .iload_n 1, 1) (List.mem_of_getElem? (i := 14) rfl)) ?_
      refine w_iconst (by decide) (tX11_height_0_ok (20, .iconst 2, 1) (List.mem_of_getElem? (i := 15) rfl)) (fun zv8 ze9 => ?_)
      refine w_irem2 (by omega) (by omega) (tX11_height_0_ok (21, .irem, 1) (List.mem_of_getElem? (i := 16) rfl)) (fun zv10 ze11 => ?_)
      refine w_aload_n (List.Mem.tail _ (List.Mem.head _)) (tX11_height_0_ok (22, .aload_n 0, 1) (List.mem_of_getElem? (i := 17) rfl)) ?_
      refine z_getR (L1 := 56) (own := 16) (k := 22) hz rfl rfl rfl rfl rfl rfl rfl (by decide) (tX11_height_0_ok (23, .getfield 45, 3) (List.mem_of_getElem? (i := 18) rfl)) ?_
      refine w_iload_n (List.Mem.head _) (tX11_height_0_ok (26, .iload_n 2, 1) (List.mem_of_getElem? (i := 19) rfl)) ?_
      refine z_iald (f := (I 56)) hT hz rfl rfl rfl (by omega) (by omega) (tX11_height_0_ok (27, .iaload, 1) (List.mem_of_getElem? (i := 20) rfl)) (fun zv12 zu13 => ?_)
      have ze14 : zv12.toInt = ((I 56) zv6.toInt.toNat).toInt := congrArg _ zu13
      have xe : zv12 = T (k.toInt.toNat / 2) := by rw [zu13, show zv6.toInt.toNat = k.toInt.toNat / 2 by omega, hXT _ (by omega)]
      refine w_callV (own := 16) (mi := 229) [.int zv6, .int zv10, .int zv12] [] [(0, .ref (ad 50)), (1, .int zv6), (2, .int zv10), (3, .int zv12)] rfl (cllw_X11 (277, 0, 229) (List.mem_of_getElem? (i := 40) rfl)) rfl rfl (hz.ob rfl rfl) rfl (by omega) (w_lo (n := 23) rfl (by omega)) (Nat.le_of_ble_eq_true rfl) (Nat.le_of_ble_eq_true rfl) rfl (tX11_height_0_ok (28, .invokevirtual 277, 3) (List.mem_of_getElem? (i := 21) rfl)) (y_placeOf hT hz hp (by omega) (w_sub (n := 23) rfl (by omega)) ⟨by omega, by omega⟩ (by omega) (by rw [xe, show zv6.toInt.toNat = k.toInt.toNat / 2 by omega]; exact hx _ (by omega)) (fun zv15 ze16 => ?_))
      show ww l D tys A X fr lo mX11_height Q 31 [(2, .int zv6), (0, .ref (ad 50)), (1, .int k)] [.int zv15] h
      rw [xe, show 2 * zv6.toInt.toNat + zv10.toInt.toNat = k.toInt.toNat by omega] at ze16
      have pb := m_pc_b hp.2.1 (r := k.toInt.toNat) (by omega) (hx (k.toInt.toNat / 2) (by omega))
      have w8 := (hp.2.1.2 (k.toInt.toNat / 2) (by omega)).1.2.2.2.2.2.2.2.2
      refine w_aload_n (List.Mem.tail _ (List.Mem.head _)) (tX11_height_0_ok (31, .aload_n 0, 1) (List.mem_of_getElem? (i := 22) rfl)) ?_
      refine w_iload_n (List.Mem.head _) (tX11_height_0_ok (32, .iload_n 2, 1) (List.mem_of_getElem? (i := 23) rfl)) ?_
      refine w_bipush (by decide) (tX11_height_0_ok (33, .bipush 8, 2) (List.mem_of_getElem? (i := 24) rfl)) (fun zv17 ze18 => ?_)
      refine w_callV (own := 16) (mi := 219) [.int zv6, .int zv17] [.int zv15] [(0, .ref (ad 50)), (1, .int zv6), (2, .int zv17)] rfl (cllw_X11 (255, 0, 219) (List.mem_of_getElem? (i := 34) rfl)) rfl rfl (hz.ob rfl rfl) rfl (by omega) (w_lo (n := 22) rfl (by omega)) (Nat.le_of_ble_eq_true rfl) (Nat.le_of_ble_eq_true rfl) rfl (tX11_height_0_ok (35, .invokevirtual 255, 3) (List.mem_of_getElem? (i := 25) rfl)) (y_of hT hz hp ⟨by omega, by omega⟩ (by omega) (fun zv19 ze20 => ?_))
      show ww l D tys A X fr lo mX11_height Q 38 [(2, .int zv6), (0, .ref (ad 50)), (1, .int k)] [.int zv19, .int zv15] h
      rw [show zv17.toInt.toNat = 8 by omega, show zv6.toInt.toNat = k.toInt.toNat / 2 by omega] at ze20
      refine w_iconst (by decide) (tX11_height_0_ok (38, .iconst (-1), 1) (List.mem_of_getElem? (i := 26) rfl)) (fun zv21 ze22 => ?_)
      refine w_icmp_ne (tgt := 46) (tX11_height_0_ok (39, .if_icmp .ne 7, 3) (List.mem_of_getElem? (i := 27) rfl)) rfl (fun zb23 => ?_) (fun zb23 => ?_)
      · refine w_aload_n (List.Mem.tail _ (List.Mem.head _)) (tX11_height_0_ok (46, .aload_n 0, 1) (List.mem_of_getElem? (i := 30) rfl)) ?_
        refine w_aload_n (List.Mem.tail _ (List.Mem.head _)) (tX11_height_0_ok (47, .aload_n 0, 1) (List.mem_of_getElem? (i := 31) rfl)) ?_
        refine w_iload_n (List.Mem.head _) (tX11_height_0_ok (48, .iload_n 2, 1) (List.mem_of_getElem? (i := 32) rfl)) ?_
        refine w_bipush (by decide) (tX11_height_0_ok (49, .bipush 8, 2) (List.mem_of_getElem? (i := 33) rfl)) (fun zv24 ze25 => ?_)
        refine w_callV (own := 16) (mi := 219) [.int zv6, .int zv24] [.ref (ad 50), .int zv15] [(0, .ref (ad 50)), (1, .int zv6), (2, .int zv24)] rfl (cllw_X11 (255, 0, 219) (List.mem_of_getElem? (i := 34) rfl)) rfl rfl (hz.ob rfl rfl) rfl (by omega) (w_lo (n := 22) rfl (by omega)) (Nat.le_of_ble_eq_true rfl) (Nat.le_of_ble_eq_true rfl) rfl (tX11_height_0_ok (51, .invokevirtual 255, 3) (List.mem_of_getElem? (i := 34) rfl)) (y_of hT hz hp ⟨by omega, by omega⟩ (by omega) (fun zv26 ze27 => ?_))
        show ww l D tys A X fr lo mX11_height Q 54 [(2, .int zv6), (0, .ref (ad 50)), (1, .int k)] [.int zv26, .ref (ad 50), .int zv15] h
        rw [show zv24.toInt.toNat = 8 by omega, show zv6.toInt.toNat = k.toInt.toNat / 2 by omega] at ze27
        refine w_callV (own := 16) (mi := 192) [.int zv26] [.int zv15] [(0, .ref (ad 50)), (1, .int zv26)] rfl (cllw_X11 (280, 0, 192) (List.mem_of_getElem? (i := 39) rfl)) rfl rfl (hz.ob rfl rfl) rfl (by omega) (w_lo (n := 22) rfl (by omega)) (Nat.le_of_ble_eq_true rfl) (Nat.le_of_ble_eq_true rfl) rfl (tX11_height_0_ok (54, .invokevirtual 280, 3) (List.mem_of_getElem? (i := 35) rfl)) (ih _ _ _ (by omega) (w_sub (n := 22) rfl (by omega)) (by omega) ⟨by omega, by omega⟩ (fun zv28 ze29 => ?_))
        show ww l D tys A X fr lo mX11_height Q 57 [(2, .int zv6), (0, .ref (ad 50)), (1, .int k)] [.int zv28, .int zv15] h
        have hb := hT_b hp.2.1 hx (r := zv26.toInt.toNat) (by omega)
        refine w_iadd (by omega) (by omega) (tX11_height_0_ok (57, .iadd, 1) (List.mem_of_getElem? (i := 36) rfl)) (fun zv30 ze31 => ?_)
        refine w_iret rfl (tX11_height_0_ok (58, .ireturn, 1) (List.mem_of_getElem? (i := 37) rfl)) ?_
        refine hq _ ?_
        rw [hT_eq hp.2.1 (by omega)]
        rw [if_neg (by omega), show (ρ (k.toInt.toNat / 2) 8).toNat = zv26.toInt.toNat by omega]
        omega
      · refine w_iconst (by decide) (tX11_height_0_ok (42, .iconst 0, 1) (List.mem_of_getElem? (i := 28) rfl)) (fun zv32 ze33 => ?_)
        refine w_goto (tgt := 57) (tX11_height_0_ok (43, .goto 14, 3) (List.mem_of_getElem? (i := 29) rfl)) rfl ?_
        refine w_iadd (by omega) (by omega) (tX11_height_0_ok (57, .iadd, 1) (List.mem_of_getElem? (i := 36) rfl)) (fun zv34 ze35 => ?_)
        refine w_iret rfl (tX11_height_0_ok (58, .ireturn, 1) (List.mem_of_getElem? (i := 37) rfl)) ?_
        refine hq _ ?_
        rw [hT_eq hp.2.1 (by omega)]
        rw [if_pos (by omega)]
        omega
    · exfalso; omega
theorem y_hG (hT : k_tys tys cA) {k : Int32} (hz : zr zNM cA ad I W O h) (hG : ∀ g, g < ga → I 59 (12 + g) = GH g) (hga : ga ≤ 6) (h0 : 12 ≤ k.toInt ∧ k.toInt < 12 + (ga : Int)) (hq : ∀ v : Int32, v = GH (k.toInt.toNat - 12) → Q (some (.int v)) h) : ww l D tys A X fr lo mX11_height Q 0 [(0, .ref (ad 50)), (1, .int k)] [] h := by
  refine w_iload_n (List.Mem.tail _ (List.Mem.head _)) (tX11_height_0_ok (0, .iload_n 1, 1) (List.mem_of_getElem? (i := 0) rfl)) ?_
  refine w_bipush (by decide) (tX11_height_0_ok (1, .bipush 12, 2) (List.mem_of_getElem? (i := 1) rfl)) (fun zv1 ze2 => ?_)
  refine w_icmp_lt (tgt := 13) (tX11_height_0_ok (3, .if_icmp .lt 10, 3) (List.mem_of_getElem? (i := 2) rfl)) rfl (fun zb3 => ?_) (fun zb3 => ?_)
  · exfalso; omega
  · refine w_aload_n (List.Mem.head _) (tX11_height_0_ok (6, .aload_n 0, 1) (List.mem_of_getElem? (i := 3) rfl)) ?_
    refine z_getR (L1 := 59) (own := 16) (k := 25) hz rfl rfl rfl rfl rfl rfl rfl (by decide) (tX11_height_0_ok (7, .getfield 54, 3) (List.mem_of_getElem? (i := 4) rfl)) ?_
    refine w_iload_n (List.Mem.tail _ (List.Mem.head _)) (tX11_height_0_ok (10, .iload_n 1, 1) (List.mem_of_getElem? (i := 5) rfl)) ?_
    refine z_iald (f := (I 59)) hT hz rfl rfl rfl (by omega) (by omega) (tX11_height_0_ok (11, .iaload, 1) (List.mem_of_getElem? (i := 6) rfl)) (fun zv4 zu5 => ?_)
    have ze6 : zv4.toInt = ((I 59) k.toInt.toNat).toInt := congrArg _ zu5
    refine w_iret rfl (tX11_height_0_ok (12, .ireturn, 1) (List.mem_of_getElem? (i := 7) rfl)) ?_
    refine hq _ ?_
    rw [zu5, show k.toInt.toNat = 12 + (k.toInt.toNat - 12) by omega, hG _ (by omega)]
    rw [show 12 + (k.toInt.toNat - 12) - 12 = k.toInt.toNat - 12 by omega]
theorem y_height (hT : k_tys tys cA) {k : Int32} (hz : zr zNM cA ad I W O h) (hp : qz I n ρ) (hx : m_ok n ρ T) (hXT : ∀ q, q < n → I 56 q = T q) (hG : ∀ g, g < ga → I 59 (12 + g) = GH g) (hga : ga ≤ 6) (hf : 7 ≤ fr) (hlo : 192 ≤ lo) (h0 : (0 ≤ k.toInt ∧ k.toInt < 2 * (n : Int) ∨ 12 ≤ k.toInt ∧ k.toInt < 12 + (ga : Int))) (hq : ∀ v : Int32, v.toInt = hP9 ρ T GH k.toInt.toNat → Q (some (.int v)) h) : ww l D tys A X fr lo mX11_height Q 0 [(0, .ref (ad 50)), (1, .int k)] [] h := by
  have n6 := hp.2.1.1
  rcases h0 with h0 | h0
  · exact y_hR hT hz hp hx hXT 6 fr lo Q (by omega) (by omega) (by omega) h0 (fun v e => hq v (by unfold hP9; rw [if_pos (by omega)]; exact e))
  · exact y_hG hT hz hG hga h0 (fun v e => hq v (by unfold hP9; rw [if_neg (by omega), e]))
theorem y_meets (hT : k_tys tys cA) {a9 b9 : Int32} (hz : zr zNM cA ad I W O h) (hp : qz I n ρ) (hx : m_ok n ρ T) (hXT : ∀ q, q < n → I 56 q = T q) (hG : ∀ g, g < ga → I 59 (12 + g) = GH g) (hga : ga ≤ 6) (hB : ∀ a b, a < 18 → b < 18 → ((I 65 (18 * a + b)).toInt = 1 ↔ BS a b = true) ∧ 0 ≤ (I 65 (18 * a + b)).toInt ∧ (I 65 (18 * a + b)).toInt ≤ 1) (hf : 8 ≤ fr) (hlo : 220 ≤ lo) (h1 : (0 ≤ a9.toInt ∧ a9.toInt < 2 * (n : Int) ∨ 12 ≤ a9.toInt ∧ a9.toInt < 12 + (ga : Int))) (h2 : (0 ≤ b9.toInt ∧ b9.toInt < 2 * (n : Int) ∨ 12 ≤ b9.toInt ∧ b9.toInt < 12 + (ga : Int))) (hq : ∀ v : Int32, (v.toInt = 1 ∧ (BS a9.toInt.toNat b9.toInt.toNat = true ∧ hP9 ρ T GH a9.toInt.toNat = hP9 ρ T GH b9.toInt.toNat) ∨ v.toInt = 0 ∧ ¬ (BS a9.toInt.toNat b9.toInt.toNat = true ∧ hP9 ρ T GH a9.toInt.toNat = hP9 ρ T GH b9.toInt.toNat)) → Q (some (.int v)) h) : ww l D tys A X fr lo mX11_meets Q 0 [(0, .ref (ad 50)), (1, .int a9), (2, .int b9)] [] h := by
  have n6 := hp.2.1.1
  refine w_aload_n (List.Mem.head _) (tX11_meets_0_ok (0, .aload_n 0, 1) (List.mem_of_getElem? (i := 0) rfl)) ?_
  refine z_getR (L1 := 65) (own := 16) (k := 31) hz rfl rfl rfl rfl rfl rfl rfl (by decide) (tX11_meets_0_ok (1, .getfield 72, 3) (List.mem_of_getElem? (i := 1) rfl)) ?_
  refine w_bipush (by decide) (tX11_meets_0_ok (4, .bipush 18, 2) (List.mem_of_getElem? (i := 2) rfl)) (fun zv1 ze2 => ?_)
  refine w_iload_n (List.Mem.tail _ (List.Mem.head _)) (tX11_meets_0_ok (6, .iload_n 1, 1) (List.mem_of_getElem? (i := 3) rfl)) ?_
  refine w_imul (by assumption) (by omega) (by omega) (tX11_meets_0_ok (7, .imul, 1) (List.mem_of_getElem? (i := 4) rfl)) (fun zv3 ze4 => ?_)
  refine w_iload_n (List.Mem.tail _ (List.Mem.tail _ (List.Mem.head _))) (tX11_meets_0_ok (8, .iload_n 2, 1) (List.mem_of_getElem? (i := 5) rfl)) ?_
  refine w_iadd (by omega) (by omega) (tX11_meets_0_ok (9, .iadd, 1) (List.mem_of_getElem? (i := 6) rfl)) (fun zv5 ze6 => ?_)
  refine z_zald (f := (I 65)) hT hz rfl rfl rfl (by omega) (by omega) (tX11_meets_0_ok (10, .baload, 1) (List.mem_of_getElem? (i := 7) rfl)) (fun zv7 zu8 => ?_)
  have ze9 : zv7.toInt = ((I 65) zv5.toInt.toNat).toInt := congrArg _ zu8
  have hb9 := (hB a9.toInt.toNat b9.toInt.toNat (by omega) (by omega)).1
  have hb8 := (hB a9.toInt.toNat b9.toInt.toNat (by omega) (by omega)).2
  rw [show zv5.toInt.toNat = 18 * a9.toInt.toNat + b9.toInt.toNat by omega] at ze9
  rw [← ze9] at hb9 hb8
  refine w_if_eq (tgt := 31) (tX11_meets_0_ok (11, .ifCond .eq 20, 3) (List.mem_of_getElem? (i := 8) rfl)) rfl (fun zb10 => ?_) (fun zb10 => ?_)
  · refine w_iconst (by decide) (tX11_meets_0_ok (31, .iconst 0, 1) (List.mem_of_getElem? (i := 18) rfl)) (fun zv11 ze12 => ?_)
    refine w_zret rfl (by omega) (by omega) (tX11_meets_0_ok (32, .ireturn, 1) (List.mem_of_getElem? (i := 19) rfl)) ?_
    exact hq _ (Or.inr ⟨by omega, fun z => by have := hb9.mpr z.1; omega⟩)
  · refine w_aload_n (List.Mem.head _) (tX11_meets_0_ok (14, .aload_n 0, 1) (List.mem_of_getElem? (i := 9) rfl)) ?_
    refine w_iload_n (List.Mem.tail _ (List.Mem.head _)) (tX11_meets_0_ok (15, .iload_n 1, 1) (List.mem_of_getElem? (i := 10) rfl)) ?_
    refine w_callV (own := 16) (mi := 192) [.int a9] [] [(0, .ref (ad 50)), (1, .int a9)] rfl (cllw_X11 (280, 0, 192) (List.mem_of_getElem? (i := 39) rfl)) rfl rfl (hz.ob rfl rfl) rfl (by omega) (w_lo (n := 22) rfl (by omega)) (Nat.le_of_ble_eq_true rfl) (Nat.le_of_ble_eq_true rfl) rfl (tX11_meets_0_ok (16, .invokevirtual 280, 3) (List.mem_of_getElem? (i := 11) rfl)) (y_height hT hz hp hx hXT hG hga (by omega) (w_sub (n := 22) rfl (by omega)) h1 (fun zv13 ze14 => ?_))
    show ww l D tys A X fr lo mX11_meets Q 19 [(0, .ref (ad 50)), (1, .int a9), (2, .int b9)] [.int zv13] h
    refine w_aload_n (List.Mem.head _) (tX11_meets_0_ok (19, .aload_n 0, 1) (List.mem_of_getElem? (i := 12) rfl)) ?_
    refine w_iload_n (List.Mem.tail _ (List.Mem.tail _ (List.Mem.head _))) (tX11_meets_0_ok (20, .iload_n 2, 1) (List.mem_of_getElem? (i := 13) rfl)) ?_
    refine w_callV (own := 16) (mi := 192) [.int b9] [.int zv13] [(0, .ref (ad 50)), (1, .int b9)] rfl (cllw_X11 (280, 0, 192) (List.mem_of_getElem? (i := 39) rfl)) rfl rfl (hz.ob rfl rfl) rfl (by omega) (w_lo (n := 22) rfl (by omega)) (Nat.le_of_ble_eq_true rfl) (Nat.le_of_ble_eq_true rfl) rfl (tX11_meets_0_ok (21, .invokevirtual 280, 3) (List.mem_of_getElem? (i := 14) rfl)) (y_height hT hz hp hx hXT hG hga (by omega) (w_sub (n := 22) rfl (by omega)) h2 (fun zv15 ze16 => ?_))
    show ww l D tys A X fr lo mX11_meets Q 24 [(0, .ref (ad 50)), (1, .int a9), (2, .int b9)] [.int zv15, .int zv13] h
    refine w_icmp_ne (tgt := 31) (tX11_meets_0_ok (24, .if_icmp .ne 7, 3) (List.mem_of_getElem? (i := 15) rfl)) rfl (fun zb17 => ?_) (fun zb17 => ?_)
    · refine w_iconst (by decide) (tX11_meets_0_ok (31, .iconst 0, 1) (List.mem_of_getElem? (i := 18) rfl)) (fun zv18 ze19 => ?_)
      refine w_zret rfl (by omega) (by omega) (tX11_meets_0_ok (32, .ireturn, 1) (List.mem_of_getElem? (i := 19) rfl)) ?_
      exact hq _ (Or.inr ⟨by omega, fun z => by have := z.2; omega⟩)
    · refine w_iconst (by decide) (tX11_meets_0_ok (27, .iconst 1, 1) (List.mem_of_getElem? (i := 16) rfl)) (fun zv20 ze21 => ?_)
      refine w_goto (tgt := 32) (tX11_meets_0_ok (28, .goto 4, 3) (List.mem_of_getElem? (i := 17) rfl)) rfl ?_
      refine w_zret rfl (by omega) (by omega) (tX11_meets_0_ok (32, .ireturn, 1) (List.mem_of_getElem? (i := 19) rfl)) ?_
      exact hq _ (Or.inl ⟨by omega, hb9.mp (by omega), by omega⟩)
end
