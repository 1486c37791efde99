/-! the reference: a ROPE's pull -/
theorem mul_bd {x y : Int} (hx : 0 ≤ x ∧ x ≤ 9) (hy : -60 ≤ y ∧ y ≤ 60) : -540 ≤ x * y ∧ x * y ≤ 540 := by
  have : x = 0 ∨ x = 1 ∨ x = 2 ∨ x = 3 ∨ x = 4 ∨ x = 5 ∨ x = 6 ∨ x = 7 ∨ x = 8 ∨ x = 9 := by omega
  rcases this with rfl | rfl | rfl | rfl | rfl | rfl | rfl | rfl | rfl | rfl <;> omega
/-- KIND, HEAVY, LONG, X, and what the two rooms bear -/
def sp_pl9 (K H L x b1 b2 : Int) : Int := if K = 2 then 0 else if K = 1 then 2 * b1 - b2 else b1 - b2 + H * (L - 2 * x)
/-- a move in the pull's direction keeps the direction -/
theorem sp_pl9_up {K H L x b1 b2 : Int} (hH : 0 ≤ H) (h : 0 < sp_pl9 K H L x b1 b2) {y : Int} (hy : y ≤ x) : 0 < sp_pl9 K H L y b1 b2 := by
  unfold sp_pl9 at h ⊢
  split at h
  · omega
  · next c =>
    rw [if_neg c]
    split at h
    · next c2 => rw [if_pos c2]; exact h
    · next c2 =>
      rw [if_neg c2]
      have : H * (L - 2 * x) ≤ H * (L - 2 * y) := Int.mul_le_mul_of_nonneg_left (by omega) hH
      omega
theorem sp_pl9_dn {K H L x b1 b2 : Int} (hH : 0 ≤ H) (h : sp_pl9 K H L x b1 b2 < 0) {y : Int} (hy : x ≤ y) : sp_pl9 K H L y b1 b2 < 0 := by
  unfold sp_pl9 at h ⊢
  split at h
  · omega
  · next c =>
    rw [if_neg c]
    split at h
    · next c2 => rw [if_pos c2]; exact h
    · next c2 =>
      rw [if_neg c2]
      have : H * (L - 2 * y) ≤ H * (L - 2 * x) := Int.mul_le_mul_of_nonneg_left (by omega) hH
      omega
section
variable {l : Launch} {D : va_G} {tys : List (ClassId × FieldType)} {A : Nat → Prop} {X : State → Prop} {fr lo : Nat} {Q : Option Value → ch_H → Prop} {h : ch_H} {cA : Nat → ClassId} {m ro to we : Nat} {fs : List Value} {R T Wt : Nat → Int32} {pe rp : Int32}
theorem w_imulB {M : ch_M} {pc : Nat} {lv : List (Nat × Value)} {st : List Value} {x y : Int32} (hx : 0 ≤ x.toInt ∧ x.toInt ≤ 9) (hy : -60 ≤ y.toInt ∧ y.toInt ≤ 60) (hd : decode M.2.1 pc = .ok (.imul, 1)) (k : ∀ v : Int32, v.toInt = x.toInt * y.toInt → -540 ≤ v.toInt → v.toInt ≤ 540 → ww l D tys A X fr lo M Q (pc + 1) lv (.int v :: st) h) : ww l D tys A X fr lo M Q pc lv (.int y :: .int x :: st) h := by
  have b := mul_bd hx hy
  have e : (x * y).toInt = x.toInt * y.toInt := fb_mulI (by omega) (by omega)
  exact tt_imul hd (k _ e (by rw [e]; exact b.1) (by rw [e]; exact b.2))
theorem h_pull (hT : k_tys tys cA) {p : Int32} (hp : 0 ≤ p.toInt ∧ p.toInt ≤ 5) (hH : 0 ≤ (R (9 * p.toInt.toNat + 7)).toInt ∧ (R (9 * p.toInt.toNat + 7)).toInt ≤ 9) (hL : 0 ≤ (R (9 * p.toInt.toNat + 1)).toInt ∧ (R (9 * p.toInt.toNat + 1)).toInt ≤ 20) (hx : 0 ≤ (T p.toInt.toNat).toInt ∧ (T p.toInt.toNat).toInt ≤ 20) (hf : 14 ≤ fr) (hl : 380 ≤ lo) (H : br9 cA h m fs ro to we R T Wt pe rp) (hq : ∀ v : Int32, v.toInt = sp_pl9 (R (9 * p.toInt.toNat)).toInt (R (9 * p.toInt.toNat + 7)).toInt (R (9 * p.toInt.toNat + 1)).toInt (T p.toInt.toNat).toInt (sp_br R T Wt pe.toInt.toNat rp.toInt.toNat 12 (2 * p.toInt.toNat)) (sp_br R T Wt pe.toInt.toNat rp.toInt.toNat 12 (2 * p.toInt.toNat + 1)) → Q (some (.int v)) h) : ww l D tys A X fr lo mX11_pull Q 0 [(0, .ref m), (1, .int p)] [] h := by
  have H9 := H
  obtain ⟨c_m, fL19, fL20, fL22, fL28, fL33, c_ro, c_to, c_we, pe0, rp0, hbo⟩ := H
  have pe8 := hbo.2.2.2.1
  have rp6 := hbo.2.2.2.2
  refine w_aload_n (List.Mem.head _) (tX11_pull_0_ok (0, .aload_n 0, 1) (List.mem_of_getElem? (i := 0) rfl)) ?_
  refine w_iload_n (List.Mem.tail _ (List.Mem.head _)) (tX11_pull_0_ok (1, .iload_n 1, 1) (List.mem_of_getElem? (i := 1) rfl)) ?_
  refine w_iconst (by decide) (tX11_pull_0_ok (2, .iconst 0, 1) (List.mem_of_getElem? (i := 2) rfl)) (fun v1 e2 => ?_)
  refine w_callV (own := 16) (mi := 219) [.int p, .int v1] [] [(0, .ref m), (1, .int p), (2, .int v1)] rfl (cllw_X11 (255, 0, 219) (List.mem_of_getElem? (i := 34) rfl)) rfl rfl c_m rfl (by omega) (w_lo (n := 22) rfl (by omega)) (Nat.le_of_ble_eq_true rfl) (Nat.le_of_ble_eq_true rfl) rfl (tX11_pull_0_ok (3, .invokevirtual 255, 3) (List.mem_of_getElem? (i := 3) rfl)) (h_of hT (by omega) (by omega) H9 (fun v3 e4 => ?_))
  have i5 : 9 * p.toInt.toNat + v1.toInt.toNat = 9 * p.toInt.toNat := by omega
  rw [i5] at e4
  show ww l D tys A X fr lo mX11_pull Q 6 [(0, .ref m), (1, .int p)] [.int v3] h
  refine w_iconst (by decide) (tX11_pull_0_ok (6, .iconst 2, 1) (List.mem_of_getElem? (i := 4) rfl)) (fun v6 e7 => ?_)
  refine w_icmp_ne (tgt := 12) (tX11_pull_0_ok (7, .if_icmp .ne 5, 3) (List.mem_of_getElem? (i := 5) rfl)) rfl (fun b8 => ?_) (fun b8 => ?_)
  · refine w_aload_n (List.Mem.head _) (tX11_pull_0_ok (12, .aload_n 0, 1) (List.mem_of_getElem? (i := 8) rfl)) ?_
    refine w_iconst (by decide) (tX11_pull_0_ok (13, .iconst 2, 1) (List.mem_of_getElem? (i := 9) rfl)) (fun v9 e10 => ?_)
    refine w_iload_n (List.Mem.tail _ (List.Mem.head _)) (tX11_pull_0_ok (14, .iload_n 1, 1) (List.mem_of_getElem? (i := 10) rfl)) ?_
    refine w_imul (by assumption) (by omega) (by omega) (tX11_pull_0_ok (15, .imul, 1) (List.mem_of_getElem? (i := 11) rfl)) (fun v11 e12 => ?_)
    refine w_callV (own := 16) (mi := 163) [.int v11] [] [(0, .ref m), (1, .int v11)] rfl (cllw_X11 (283, 0, 163) (List.mem_of_getElem? (i := 37) rfl)) rfl rfl c_m rfl (by omega) (w_lo (n := 23) rfl (by omega)) (Nat.le_of_ble_eq_true rfl) (Nat.le_of_ble_eq_true rfl) rfl (tX11_pull_0_ok (16, .invokevirtual 283, 3) (List.mem_of_getElem? (i := 12) rfl)) (h_bears hT H9 12 _ _ _ v11 (by omega) (w_sub (n := 23) rfl (by omega)) (by omega) (by omega) (fun v13 e14 => ?_))
    have i16 : v11.toInt.toNat = 2 * p.toInt.toNat := by omega
    rw [i16] at e14
    have u15 := sp_br_b hbo 12 (2 * p.toInt.toNat) (by omega)
    have u15b := pw_b ((2 * p.toInt.toNat) / 2)
    show ww l D tys A X fr lo mX11_pull Q 19 [(0, .ref m), (1, .int p)] [.int v13] h
    refine w_istore_n [(2, .int v13), (0, .ref m), (1, .int p)] rfl (Nat.le_of_ble_eq_true rfl) (tX11_pull_0_ok (19, .istore_n 2, 1) (List.mem_of_getElem? (i := 13) rfl)) ?_
    refine w_aload_n (List.Mem.tail _ (List.Mem.head _)) (tX11_pull_0_ok (20, .aload_n 0, 1) (List.mem_of_getElem? (i := 14) rfl)) ?_
    refine w_iconst (by decide) (tX11_pull_0_ok (21, .iconst 2, 1) (List.mem_of_getElem? (i := 15) rfl)) (fun v17 e18 => ?_)
    refine w_iload_n (List.Mem.tail _ (List.Mem.tail _ (List.Mem.head _))) (tX11_pull_0_ok (22, .iload_n 1, 1) (List.mem_of_getElem? (i := 16) rfl)) ?_
    refine w_imul (by assumption) (by omega) (by omega) (tX11_pull_0_ok (23, .imul, 1) (List.mem_of_getElem? (i := 17) rfl)) (fun v19 e20 => ?_)
    refine w_iconst (by decide) (tX11_pull_0_ok (24, .iconst 1, 1) (List.mem_of_getElem? (i := 18) rfl)) (fun v21 e22 => ?_)
    refine w_iadd (by omega) (by omega) (tX11_pull_0_ok (25, .iadd, 1) (List.mem_of_getElem? (i := 19) rfl)) (fun v23 e24 => ?_)
    refine w_callV (own := 16) (mi := 163) [.int v23] [] [(0, .ref m), (1, .int v23)] rfl (cllw_X11 (283, 0, 163) (List.mem_of_getElem? (i := 37) rfl)) rfl rfl c_m rfl (by omega) (w_lo (n := 23) rfl (by omega)) (Nat.le_of_ble_eq_true rfl) (Nat.le_of_ble_eq_true rfl) rfl (tX11_pull_0_ok (26, .invokevirtual 283, 3) (List.mem_of_getElem? (i := 20) rfl)) (h_bears hT H9 12 _ _ _ v23 (by omega) (w_sub (n := 23) rfl (by omega)) (by omega) (by omega) (fun v25 e26 => ?_))
    have i28 : v23.toInt.toNat = 2 * p.toInt.toNat + 1 := by omega
    rw [i28] at e26
    have u27 := sp_br_b hbo 12 (2 * p.toInt.toNat + 1) (by omega)
    have u27b := pw_b ((2 * p.toInt.toNat + 1) / 2)
    show ww l D tys A X fr lo mX11_pull Q 29 [(2, .int v13), (0, .ref m), (1, .int p)] [.int v25] h
    refine w_istore_n [(3, .int v25), (2, .int v13), (0, .ref m), (1, .int p)] rfl (Nat.le_of_ble_eq_true rfl) (tX11_pull_0_ok (29, .istore_n 3, 1) (List.mem_of_getElem? (i := 21) rfl)) ?_
    refine w_aload_n (List.Mem.tail _ (List.Mem.tail _ (List.Mem.head _))) (tX11_pull_0_ok (30, .aload_n 0, 1) (List.mem_of_getElem? (i := 22) rfl)) ?_
    refine w_iload_n (List.Mem.tail _ (List.Mem.tail _ (List.Mem.tail _ (List.Mem.head _)))) (tX11_pull_0_ok (31, .iload_n 1, 1) (List.mem_of_getElem? (i := 23) rfl)) ?_
    refine w_iconst (by decide) (tX11_pull_0_ok (32, .iconst 0, 1) (List.mem_of_getElem? (i := 24) rfl)) (fun v29 e30 => ?_)
    refine w_callV (own := 16) (mi := 219) [.int p, .int v29] [] [(0, .ref m), (1, .int p), (2, .int v29)] rfl (cllw_X11 (255, 0, 219) (List.mem_of_getElem? (i := 34) rfl)) rfl rfl c_m rfl (by omega) (w_lo (n := 22) rfl (by omega)) (Nat.le_of_ble_eq_true rfl) (Nat.le_of_ble_eq_true rfl) rfl (tX11_pull_0_ok (33, .invokevirtual 255, 3) (List.mem_of_getElem? (i := 25) rfl)) (h_of hT (by omega) (by omega) H9 (fun v31 e32 => ?_))
    have i33 : 9 * p.toInt.toNat + v29.toInt.toNat = 9 * p.toInt.toNat := by omega
    rw [i33] at e32
    show ww l D tys A X fr lo mX11_pull Q 36 [(3, .int v25), (2, .int v13), (0, .ref m), (1, .int p)] [.int v31] h
    refine w_iconst (by decide) (tX11_pull_0_ok (36, .iconst 1, 1) (List.mem_of_getElem? (i := 26) rfl)) (fun v34 e35 => ?_)
    refine w_icmp_ne (tgt := 48) (tX11_pull_0_ok (37, .if_icmp .ne 11, 3) (List.mem_of_getElem? (i := 27) rfl)) rfl (fun b36 => ?_) (fun b36 => ?_)
    · refine w_iload_n (List.Mem.tail _ (List.Mem.head _)) (tX11_pull_0_ok (48, .iload_n 2, 1) (List.mem_of_getElem? (i := 34) rfl)) ?_
      refine w_iload_n (List.Mem.head _) (tX11_pull_0_ok (49, .iload_n 3, 1) (List.mem_of_getElem? (i := 35) rfl)) ?_
      refine w_isub (by omega) (by omega) (tX11_pull_0_ok (50, .isub, 1) (List.mem_of_getElem? (i := 36) rfl)) (fun v37 e38 => ?_)
      refine w_aload_n (List.Mem.tail _ (List.Mem.tail _ (List.Mem.head _))) (tX11_pull_0_ok (51, .aload_n 0, 1) (List.mem_of_getElem? (i := 37) rfl)) ?_
      refine w_iload_n (List.Mem.tail _ (List.Mem.tail _ (List.Mem.tail _ (List.Mem.head _)))) (tX11_pull_0_ok (52, .iload_n 1, 1) (List.mem_of_getElem? (i := 38) rfl)) ?_
      refine w_bipush (by decide) (tX11_pull_0_ok (53, .bipush 7, 2) (List.mem_of_getElem? (i := 39) rfl)) (fun v39 e40 => ?_)
      refine w_callV (own := 16) (mi := 219) [.int p, .int v39] [.int v37] [(0, .ref m), (1, .int p), (2, .int v39)] rfl (cllw_X11 (255, 0, 219) (List.mem_of_getElem? (i := 34) rfl)) rfl rfl c_m rfl (by omega) (w_lo (n := 22) rfl (by omega)) (Nat.le_of_ble_eq_true rfl) (Nat.le_of_ble_eq_true rfl) rfl (tX11_pull_0_ok (55, .invokevirtual 255, 3) (List.mem_of_getElem? (i := 40) rfl)) (h_of hT (by omega) (by omega) H9 (fun v41 e42 => ?_))
      have i43 : 9 * p.toInt.toNat + v39.toInt.toNat = 9 * p.toInt.toNat + 7 := by omega
      rw [i43] at e42
      show ww l D tys A X fr lo mX11_pull Q 58 [(3, .int v25), (2, .int v13), (0, .ref m), (1, .int p)] [.int v41, .int v37] h
      refine w_aload_n (List.Mem.tail _ (List.Mem.tail _ (List.Mem.head _))) (tX11_pull_0_ok (58, .aload_n 0, 1) (List.mem_of_getElem? (i := 41) rfl)) ?_
      refine w_iload_n (List.Mem.tail _ (List.Mem.tail _ (List.Mem.tail _ (List.Mem.head _)))) (tX11_pull_0_ok (59, .iload_n 1, 1) (List.mem_of_getElem? (i := 42) rfl)) ?_
      refine w_iconst (by decide) (tX11_pull_0_ok (60, .iconst 1, 1) (List.mem_of_getElem? (i := 43) rfl)) (fun v44 e45 => ?_)
      refine w_callV (own := 16) (mi := 219) [.int p, .int v44] [.int v41, .int v37] [(0, .ref m), (1, .int p), (2, .int v44)] rfl (cllw_X11 (255, 0, 219) (List.mem_of_getElem? (i := 34) rfl)) rfl rfl c_m rfl (by omega) (w_lo (n := 22) rfl (by omega)) (Nat.le_of_ble_eq_true rfl) (Nat.le_of_ble_eq_true rfl) rfl (tX11_pull_0_ok (61, .invokevirtual 255, 3) (List.mem_of_getElem? (i := 44) rfl)) (h_of hT (by omega) (by omega) H9 (fun v46 e47 => ?_))
      have i48 : 9 * p.toInt.toNat + v44.toInt.toNat = 9 * p.toInt.toNat + 1 := by omega
      rw [i48] at e47
      show ww l D tys A X fr lo mX11_pull Q 64 [(3, .int v25), (2, .int v13), (0, .ref m), (1, .int p)] [.int v46, .int v41, .int v37] h
      refine w_iconst (by decide) (tX11_pull_0_ok (64, .iconst 2, 1) (List.mem_of_getElem? (i := 45) rfl)) (fun v49 e50 => ?_)
      refine w_aload_n (List.Mem.tail _ (List.Mem.tail _ (List.Mem.head _))) (tX11_pull_0_ok (65, .aload_n 0, 1) (List.mem_of_getElem? (i := 46) rfl)) ?_
      refine w_get (own := 16) rfl rfl (by decide) c_m fL22 (tX11_pull_0_ok (66, .getfield 45, 3) (List.mem_of_getElem? (i := 47) rfl)) ?_
      refine w_iload_n (List.Mem.tail _ (List.Mem.tail _ (List.Mem.tail _ (List.Mem.head _)))) (tX11_pull_0_ok (69, .iload_n 1, 1) (List.mem_of_getElem? (i := 48) rfl)) ?_
      refine w_iald hT c_to (by omega) (by omega) (tX11_pull_0_ok (70, .iaload, 1) (List.mem_of_getElem? (i := 49) rfl)) (fun v51 e52 => ?_)
      refine w_imul (by assumption) (by omega) (by omega) (tX11_pull_0_ok (71, .imul, 1) (List.mem_of_getElem? (i := 50) rfl)) (fun v53 e54 => ?_)
      refine w_isub (by omega) (by omega) (tX11_pull_0_ok (72, .isub, 1) (List.mem_of_getElem? (i := 51) rfl)) (fun v55 e56 => ?_)
      refine w_imulB (by omega) (by omega) (tX11_pull_0_ok (73, .imul, 1) (List.mem_of_getElem? (i := 52) rfl)) (fun v57 e58 b59 b60 => ?_)
      refine w_iadd (by omega) (by omega) (tX11_pull_0_ok (74, .iadd, 1) (List.mem_of_getElem? (i := 53) rfl)) (fun v61 e62 => ?_)
      refine w_iret rfl (tX11_pull_0_ok (75, .ireturn, 1) (List.mem_of_getElem? (i := 54) rfl)) ?_
      refine hq v61 ?_
      unfold sp_pl9
      rw [if_neg (by omega)]
      rw [if_neg (by omega)]
      have zz := e58
      rw [e42] at zz
      have z9 : v55.toInt = (R (9 * p.toInt.toNat + 1)).toInt - 2 * (T p.toInt.toNat).toInt := by omega
      rw [z9] at zz
      omega
    · refine w_iconst (by decide) (tX11_pull_0_ok (40, .iconst 2, 1) (List.mem_of_getElem? (i := 28) rfl)) (fun v63 e64 => ?_)
      refine w_iload_n (List.Mem.tail _ (List.Mem.head _)) (tX11_pull_0_ok (41, .iload_n 2, 1) (List.mem_of_getElem? (i := 29) rfl)) ?_
      refine w_imul (by assumption) (by omega) (by omega) (tX11_pull_0_ok (42, .imul, 1) (List.mem_of_getElem? (i := 30) rfl)) (fun v65 e66 => ?_)
      refine w_iload_n (List.Mem.head _) (tX11_pull_0_ok (43, .iload_n 3, 1) (List.mem_of_getElem? (i := 31) rfl)) ?_
      refine w_isub (by omega) (by omega) (tX11_pull_0_ok (44, .isub, 1) (List.mem_of_getElem? (i := 32) rfl)) (fun v67 e68 => ?_)
      refine w_goto (tgt := 75) (tX11_pull_0_ok (45, .goto 30, 3) (List.mem_of_getElem? (i := 33) rfl)) rfl ?_
      refine w_iret rfl (tX11_pull_0_ok (75, .ireturn, 1) (List.mem_of_getElem? (i := 54) rfl)) ?_
      refine hq v67 ?_
      unfold sp_pl9
      rw [if_neg (by omega)]
      rw [if_pos (by omega)]
      omega
  · refine w_iconst (by decide) (tX11_pull_0_ok (10, .iconst 0, 1) (List.mem_of_getElem? (i := 6) rfl)) (fun v69 e70 => ?_)
    refine w_iret rfl (tX11_pull_0_ok (11, .ireturn, 1) (List.mem_of_getElem? (i := 7) rfl)) ?_
    refine hq v69 ?_
    unfold sp_pl9
    rw [if_pos (by omega)]
    omega
end
