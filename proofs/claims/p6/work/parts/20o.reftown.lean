/-! the reference: reading a TOWN -/
def sp_rm (f : Nat → Int32) (len : Nat) (lo hi : Int) (n : Nat) : Nat ⊕ Nat := sp_bd (sp_num f len 3 n).1 (fun q => if lo ≤ (sp_num f len 3 n).2 ∧ (sp_num f len 3 n).2 ≤ hi then .inr q else .inl (q - 1))
theorem sp_rm_rn {f : Nat → Int32} {len n : Nat} {p L X c lo hi : Int} (h : lo ≤ (sp_num f len 3 n).2 ∧ (sp_num f len 3 n).2 ≤ hi ↔ sp_ok p L X c (sp_num f len 3 n).2) : sp_rm f len lo hi n = sp_rn f len p L X c n := by
  unfold sp_rm sp_rn
  cases (sp_num f len 3 n).1 with
  | inl e => rfl
  | inr q =>
    dsimp only [sp_bd]
    by_cases c9 : sp_ok p L X c (sp_num f len 3 n).2
    · rw [if_pos (h.mpr c9), if_pos c9]
    · rw [if_neg (fun z => c9 (h.mp z)), if_neg c9]
def us_v (k : Int) : Int := if k = 1 ∨ k = 3 ∨ k = 4 then 10 else if k = 5 then 5 else if k = 8 then -1 else 0
def td_l (w : Nat) : Int := if w = 8 then -1 else 0
def td_h (r w : Nat) : Int := if w = 0 then 2 else if w = 1 then 20 else if w = 2 then 20 else if w = 6 then 100 else if w = 7 then 9 else if w = 8 then (if r = 0 then 0 else 2 * (r : Int) - 1) else 99
theorem td_b : ∀ r, r < 6 → ∀ w, w < 9 → k_el (Lb 55) (54 + 9 * r + w) = (0, td_l w, td_h r w) := by decide +kernel
/-- the draft's rows are within their bounds -/
def TD (R : Nat → Int32) : Prop := ∀ r, r < 6 → ∀ w, w < 9 → td_l w ≤ (R (54 + 9 * r + w)).toInt ∧ (R (54 + 9 * r + w)).toInt ≤ td_h r w
theorem td_upd {R : Nat → Int32} {r w j : Nat} {x : Int32} (h : TD R) (hr : r < 6) (hw : w < 9) (hj : j = 54 + 9 * r + w) (hx : td_l w ≤ x.toInt ∧ x.toInt ≤ td_h r w) : TD (upd R j x) := by
  intro r2 hr2 w2 hw2
  unfold upd
  split
  · next e =>
    have e1 : r2 = r := by omega
    have e2 : w2 = w := by omega
    subst e1 e2
    exact hx
  · exact h r2 hr2 w2 hw2
theorem upd_n (R : Nat → Int32) {j k : Nat} (x : Int32) (h : ¬ k = j) : upd R j x k = R k := by unfold upd; exact if_neg h
def ltr (w : Nat) : Int := if w = 0 then 107 else if w = 1 then 108 else if w = 2 then 120 else if w = 3 then 97 else if w = 4 then 98 else if w = 5 then 104 else if w = 6 then 115 else if w = 7 then 114 else 117
theorem ltr_ok : ∀ w, w < 9 → (js_c 2 w).toInt = ltr w ∧ sp_bit (ltr w) = 2 ^ w := by decide +kernel
theorem ltr_no {c : Int} (h : ∀ w, w < 9 → ¬ (js_c 2 w).toInt = c) : sp_bit c = 0 := by
  have k0 := h 0 (by decide); have k1 := h 1 (by decide); have k2 := h 2 (by decide); have k3 := h 3 (by decide); have k4 := h 4 (by decide)
  have k5 := h 5 (by decide); have k6 := h 6 (by decide); have k7 := h 7 (by decide); have k8 := h 8 (by decide)
  rw [(ltr_ok 0 (by decide)).1] at k0; rw [(ltr_ok 1 (by decide)).1] at k1; rw [(ltr_ok 2 (by decide)).1] at k2; rw [(ltr_ok 3 (by decide)).1] at k3; rw [(ltr_ok 4 (by decide)).1] at k4
  rw [(ltr_ok 5 (by decide)).1] at k5; rw [(ltr_ok 6 (by decide)).1] at k6; rw [(ltr_ok 7 (by decide)).1] at k7; rw [(ltr_ok 8 (by decide)).1] at k8
  unfold sp_bit
  rw [if_neg (fun e => k0 e.symm), if_neg (fun e => k1 e.symm), if_neg (fun e => k2 e.symm), if_neg (fun e => k3 e.symm), if_neg (fun e => k4 e.symm), if_neg (fun e => k5 e.symm), if_neg (fun e => k6 e.symm), if_neg (fun e => k7 e.symm), if_neg (fun e => k8 e.symm)]
/-- what a letter stands for -/
def whP (there : Int) (w : Int) : Prop := w = -1 ∧ (∀ z, z < 9 → ¬ (js_c 2 z).toInt = there) ∨ ∃ z : Nat, z < 9 ∧ w = (z : Int) ∧ (js_c 2 z).toInt = there
/-- the bounds of a number by what it tells -/
def lo_w (w : Nat) (X : Int) : Int := if w = 1 then (if X ≤ 2 then 2 else X) else if w = 3 ∨ w = 4 then 1 else 0
def hi_w (w r : Nat) (L : Int) : Int := if w = 0 then 2 else if w = 1 then 20 else if w = 2 then L else if w = 7 then 9 else if w = 6 then 100 else if w = 8 then 2 * (r : Int) - 1 else 99
theorem w9 {w : Nat} (hw : w < 9) : w = 0 ∨ w = 1 ∨ w = 2 ∨ w = 3 ∨ w = 4 ∨ w = 5 ∨ w = 6 ∨ w = 7 ∨ w = 8 := by omega
theorem lh_ok {w r : Nat} {X L v : Int} (hw : w < 9) (hv : 0 ≤ v) : lo_w w X ≤ v ∧ v ≤ hi_w w r L ↔ sp_ok (r : Int) L X (ltr w) v := by
  rcases w9 hw with rfl | rfl | rfl | rfl | rfl | rfl | rfl | rfl | rfl
  · rw [sp_ok_107 (c := ltr 0) rfl]; simp only [lo_w, hi_w]; simp; omega
  · rw [sp_ok_108 (c := ltr 1) rfl]; simp only [lo_w, hi_w]; simp; split <;> omega
  · rw [sp_ok_120 (c := ltr 2) rfl]; simp only [lo_w, hi_w]; simp; omega
  · rw [sp_ok_97 (c := ltr 3) rfl]; simp only [lo_w, hi_w]; simp
  · rw [sp_ok_98 (c := ltr 4) rfl]; simp only [lo_w, hi_w]; simp
  · rw [sp_ok_104 (c := ltr 5) rfl]; simp only [lo_w, hi_w]; simp; omega
  · rw [sp_ok_115 (c := ltr 6) rfl]; simp only [lo_w, hi_w]; simp; omega
  · rw [sp_ok_114 (c := ltr 7) rfl]; simp only [lo_w, hi_w]; simp; omega
  · rw [sp_ok_117 (c := ltr 8) rfl]; simp only [lo_w, hi_w]; simp; omega
theorem lh_td {w r : Nat} {X L v : Int} (hw : w < 9) (hv : 0 ≤ v) (hL : L ≤ 20) (hr : ¬ (w = 8 ∧ r = 0)) (h : v ≤ hi_w w r L) : td_l w ≤ v ∧ v ≤ td_h r w := by
  rcases w9 hw with rfl | rfl | rfl | rfl | rfl | rfl | rfl | rfl | rfl <;> simp [td_l, td_h, hi_w] at h ⊢ <;> first | omega | (rw [if_neg (by omega)]; omega)
theorem sp_kv_l {c0 c v K : Int} (h : c = c0) : sp_kv c0 c v K = v := by unfold sp_kv; exact if_pos h
theorem sp_kv_n {c0 c v K : Int} (h : ¬ c = c0) : sp_kv c0 c v K = K := by unfold sp_kv; exact if_neg h
theorem ltr_inj : ∀ z, z < 9 → ∀ w, w < 9 → ¬ z = w → ¬ ltr w = ltr z := by decide +kernel
theorem kv_upd {R : Nat → Int32} {row w z : Nat} {x : Int32} {c0 : Int} (hz : z < 9) (hw : w < 9) (hc : ltr z = c0) : (upd R (row + w) x (row + z)).toInt = sp_kv c0 (ltr w) x.toInt (R (row + z)).toInt := by
  by_cases e : z = w
  · subst e
    rw [upd_s, sp_kv_l hc]
  · rw [upd_n R x (by omega), sp_kv_n ?_]
    subst hc
    exact ltr_inj z hz w hw e
theorem ltr_97 : ∀ w, w < 9 → 97 ≤ ltr w ∧ (ltr w = 117 ↔ w = 8) := by decide +kernel
theorem wh_no {there c : Int} (h : ∀ z, z < 9 → ¬ (js_c 2 z).toInt = there) (e : there = c ∨ there = -1 ∧ c = 0) : sp_bit c = 0 := by
  rcases e with e | ⟨-, e⟩
  · rw [← e]; exact ltr_no h
  · rw [e]; rfl
/-- a ROPE's text as the reference leaves it: a sign that is no end is found wrong behind it -/
def rpP (r : Nat ⊕ Nat) (f : Nat → Int32) (len : Nat) (a fl0 : Int32) : Prop := sp_is r a fl0 ∨ (fl0.toInt = -1 ∧ r = .inl a.toInt.toNat ∧ sp_sk f len a.toInt.toNat = a.toInt.toNat ∧ ¬ sp_sg f len a.toInt.toNat = 59 ∧ ¬ sp_sg f len a.toInt.toNat = 0)
theorem irem2 : ∀ x, x < 21 → (Int32.ofNat x - Int32.ofNat x / 2 * 2).toInt = ((x % 2 : Nat) : Int) := by decide +kernel
theorem us_0 : us_v 0 = 0 ∧ us_v 1 = 10 ∧ us_v 2 = 0 := by decide
theorem us_td : ∀ r, r < 6 → ∀ w, w < 9 → td_l w ≤ us_v w ∧ us_v w ≤ td_h r w := by decide +kernel
section
variable {l : Launch} {D : va_G} {tys : List (ClassId × FieldType)} {A : Nat → Prop} {X : State → Prop} {fr lo : Nat} {Q : Option Value → ch_H → Prop} {cA : Nat → ClassId} {h : ch_H} {m tx n le : Nat} {fs : List Value} {g f : Nat → Int32} {bg en at0 fl0 dp : Int32} {aK aV : Nat → Nat} {ro : Nat} {R : Nat → Int32}
theorem r_isIn {x a b : Int32} (hq : ∀ v : Int32, (a.toInt ≤ x.toInt ∧ x.toInt ≤ b.toInt ∧ v.toInt = 1 ∨ (x.toInt < a.toInt ∨ b.toInt < x.toInt) ∧ v.toInt = 0) → Q (some (.int v)) h) : ww l D tys A X fr lo mX11_isIn Q 0 [(0, .int x), (1, .int a), (2, .int b)] [] h := by
  refine w_iload_n (List.Mem.head _) (tX11_isIn_0_ok (0, .iload_n 0, 1) (List.mem_of_getElem? (i := 0) rfl)) ?_
  refine w_iload_n (List.Mem.tail _ (List.Mem.head _)) (tX11_isIn_0_ok (1, .iload_n 1, 1) (List.mem_of_getElem? (i := 1) rfl)) ?_
  refine w_icmp_lt (tgt := 14) (tX11_isIn_0_ok (2, .if_icmp .lt 12, 3) (List.mem_of_getElem? (i := 2) rfl)) rfl (fun b1 => ?_) (fun b1 => ?_)
  · refine w_iconst (by decide) (tX11_isIn_0_ok (14, .iconst 0, 1) (List.mem_of_getElem? (i := 8) rfl)) (fun v2 e3 => ?_)
    refine w_zret rfl (by omega) (by omega) (tX11_isIn_0_ok (15, .ireturn, 1) (List.mem_of_getElem? (i := 9) rfl)) ?_
    refine hq v2 ?_
    omega
  · refine w_iload_n (List.Mem.head _) (tX11_isIn_0_ok (5, .iload_n 0, 1) (List.mem_of_getElem? (i := 3) rfl)) ?_
    refine w_iload_n (List.Mem.tail _ (List.Mem.tail _ (List.Mem.head _))) (tX11_isIn_0_ok (6, .iload_n 2, 1) (List.mem_of_getElem? (i := 4) rfl)) ?_
    refine w_icmp_gt (tgt := 14) (tX11_isIn_0_ok (7, .if_icmp .gt 7, 3) (List.mem_of_getElem? (i := 5) rfl)) rfl (fun b4 => ?_) (fun b4 => ?_)
    · refine w_iconst (by decide) (tX11_isIn_0_ok (14, .iconst 0, 1) (List.mem_of_getElem? (i := 8) rfl)) (fun v5 e6 => ?_)
      refine w_zret rfl (by omega) (by omega) (tX11_isIn_0_ok (15, .ireturn, 1) (List.mem_of_getElem? (i := 9) rfl)) ?_
      refine hq v5 ?_
      omega
    · refine w_iconst (by decide) (tX11_isIn_0_ok (10, .iconst 1, 1) (List.mem_of_getElem? (i := 6) rfl)) (fun v7 e8 => ?_)
      refine w_goto (tgt := 15) (tX11_isIn_0_ok (11, .goto 4, 3) (List.mem_of_getElem? (i := 7) rfl)) rfl ?_
      refine w_zret rfl (by omega) (by omega) (tX11_isIn_0_ok (15, .ireturn, 1) (List.mem_of_getElem? (i := 9) rfl)) ?_
      refine hq v7 ?_
      omega
theorem r_numL (hT : k_tys tys cA) {lw hw : Int32} (hf : 1 ≤ fr) (hl : 60 ≤ lo) : ∀ (k : Nat) (i vv at0 fl0 : Int32) (h : ch_H) (fs : List Value), i.toInt = 3 - (k : Int) → k ≤ 3 → 0 ≤ vv.toInt → ((i.toInt = 0 → vv.toInt = 0) ∧ (i.toInt = 1 → vv.toInt ≤ 9) ∧ (i.toInt = 2 → vv.toInt ≤ 99) ∧ vv.toInt ≤ 999) → (i.toInt = 0 → sp_isd f en.toInt.toNat at0.toInt.toNat) → (1 ≤ i.toInt → 1 ≤ at0.toInt) → fl0.toInt = -1 → rl cA h m fs tx n le g f bg en at0 fl0 dp → (∀ (h1 : ch_H) (fs1 : List Value) (at1 fl1 u : Int32), rl cA h1 m fs1 tx n le g f bg en at1 fl1 dp → (sp_isd f en.toInt.toNat (sp_nd f en.toInt.toNat k at0.toInt.toNat vv.toInt).1 ∧ fl1.toInt = ((sp_nd f en.toInt.toNat k at0.toInt.toNat vv.toInt).1 : Nat) ∨ ¬ sp_isd f en.toInt.toNat (sp_nd f en.toInt.toNat k at0.toInt.toNat vv.toInt).1 ∧ (lw.toInt ≤ (sp_nd f en.toInt.toNat k at0.toInt.toNat vv.toInt).2 ∧ (sp_nd f en.toInt.toNat k at0.toInt.toNat vv.toInt).2 ≤ hw.toInt ∧ fl1.toInt = -1 ∧ at1.toInt = ((sp_nd f en.toInt.toNat k at0.toInt.toNat vv.toInt).1 : Nat) ∧ u.toInt = (sp_nd f en.toInt.toNat k at0.toInt.toNat vv.toInt).2 ∨ ((sp_nd f en.toInt.toNat k at0.toInt.toNat vv.toInt).2 < lw.toInt ∨ hw.toInt < (sp_nd f en.toInt.toNat k at0.toInt.toNat vv.toInt).2) ∧ fl1.toInt = ((sp_nd f en.toInt.toNat k at0.toInt.toNat vv.toInt).1 : Nat) - 1)) → (∀ j, j ≠ 10 ∧ j ≠ 11 ∧ j ≠ 12 → fs1[j]? = fs[j]?) → (∀ q, q ≠ m → h1 q = h q) → Q (some (.int u)) h1) → ww l D tys A X fr lo mX11_number Q 25 [(5, .int i), (4, .int vv), (1, .int lw), (2, .int hw), (0, .ref m)] [] h := by
  intro k
  induction k using Nat.strongRecOn with
  | ind k ih =>
    intro i vv at0 fl0 h fs hi hk hv0 hvb hd0 ha1 hfl H hq
    have hr1 : 1 ≤ fr := by omega
    have hr2 : 30 ≤ lo := by omega
    obtain ⟨⟨⟨c_m, fl, f5, f8, f9, f10, f11⟩, f12, n_tx_m, c_x, hs, hb, ha⟩, f4, n_le_m, gl, c_le⟩ := H
    refine w_iload (List.Mem.head _) (tX11_number_0_ok (25, .iload 5, 2) (List.mem_of_getElem? (i := 15) rfl)) ?_
    refine w_iconst (by decide) (tX11_number_0_ok (27, .iconst 3, 1) (List.mem_of_getElem? (i := 16) rfl)) (fun v1 e2 => ?_)
    refine w_icmp_ge (tgt := 69) (tX11_number_0_ok (28, .if_icmp .ge 41, 3) (List.mem_of_getElem? (i := 17) rfl)) rfl (fun b3 => ?_) (fun b3 => ?_)
    · refine w_aload_n (List.Mem.tail _ (List.Mem.tail _ (List.Mem.tail _ (List.Mem.tail _ (List.Mem.head _))))) (tX11_number_0_ok (69, .aload_n 0, 1) (List.mem_of_getElem? (i := 38) rfl)) ?_
      refine w_callV (own := 16) (mi := 198) [] [] [(0, .ref m)] rfl (cllw_X11 (158, 0, 198) (List.mem_of_getElem? (i := 16) rfl)) rfl rfl c_m rfl hr1 (w_lo (n := 20) rfl (Nat.le_trans (Nat.le_of_ble_eq_true rfl) hr2)) (Nat.le_of_ble_eq_true rfl) (Nat.le_of_ble_eq_true rfl) rfl (tX11_number_0_ok (70, .invokevirtual 158, 3) (List.mem_of_getElem? (i := 39) rfl)) (r_dig hT ⟨⟨c_m, fl, f5, f8, f9, f10, f11⟩, f12, n_tx_m, c_x, hs, hb, ha.1, ha.2⟩ (fun v4 e5 => ?_))
      show ww l D tys A X fr lo mX11_number Q 73 [(5, .int i), (4, .int vv), (1, .int lw), (2, .int hw), (0, .ref m)] [.int v4] h
      refine w_if_eq (tgt := 83) (tX11_number_0_ok (73, .ifCond .eq 10, 3) (List.mem_of_getElem? (i := 40) rfl)) rfl (fun b6 => ?_) (fun b6 => ?_)
      · refine w_iload (List.Mem.tail _ (List.Mem.head _)) (tX11_number_0_ok (83, .iload 4, 2) (List.mem_of_getElem? (i := 46) rfl)) ?_
        refine w_iload_n (List.Mem.tail _ (List.Mem.tail _ (List.Mem.head _))) (tX11_number_0_ok (85, .iload_n 1, 1) (List.mem_of_getElem? (i := 47) rfl)) ?_
        refine w_iload_n (List.Mem.tail _ (List.Mem.tail _ (List.Mem.tail _ (List.Mem.head _)))) (tX11_number_0_ok (86, .iload_n 2, 1) (List.mem_of_getElem? (i := 48) rfl)) ?_
        refine w_callS (own := 16) (mi := 199) [.int vv, .int lw, .int hw] [] [(0, .int vv), (1, .int lw), (2, .int hw)] rfl (cllw_X11 (207, 1, 199) (List.mem_of_getElem? (i := 2) rfl)) rfl rfl hr1 (w_lo (n := 22) rfl (Nat.le_trans (Nat.le_of_ble_eq_true rfl) hr2)) (Nat.le_of_ble_eq_true rfl) (Nat.le_of_ble_eq_true rfl) rfl (tX11_number_0_ok (87, .invokestatic 207, 3) (List.mem_of_getElem? (i := 49) rfl)) (r_isIn (fun v7 e8 => ?_))
        show ww l D tys A X fr lo mX11_number Q 90 [(5, .int i), (4, .int vv), (1, .int lw), (2, .int hw), (0, .ref m)] [.int v7] h
        refine w_if_ne (tgt := 110) (tX11_number_0_ok (90, .ifCond .ne 20, 3) (List.mem_of_getElem? (i := 50) rfl)) rfl (fun b9 => ?_) (fun b9 => ?_)
        · refine w_iload (List.Mem.tail _ (List.Mem.head _)) (tX11_number_1_ok (110, .iload 4, 2) (List.mem_of_getElem? (i := 2) rfl)) ?_
          refine w_iret rfl (tX11_number_1_ok (112, .ireturn, 1) (List.mem_of_getElem? (i := 3) rfl)) ?_
          have y8 : sp_nd f en.toInt.toNat k at0.toInt.toNat vv.toInt = (at0.toInt.toNat, vv.toInt) := by
            have k9 : k = 0 := by omega
            rw [k9, sp_nd]
          refine hq h fs at0 fl0 vv ⟨⟨⟨c_m, fl, f5, f8, f9, f10, f11⟩, f12, n_tx_m, c_x, hs, hb, ha.1, ha.2⟩, f4, n_le_m, _, c_le⟩ ?_ (fun j hj => rfl) (fun q hq => rfl)
          rw [y8]
          dsimp only
          exact Or.inr ⟨by omega, Or.inl ⟨by omega, by omega, by omega, by omega, by omega⟩⟩
        · refine w_aload_n (List.Mem.tail _ (List.Mem.tail _ (List.Mem.tail _ (List.Mem.tail _ (List.Mem.head _))))) (tX11_number_0_ok (93, .aload_n 0, 1) (List.mem_of_getElem? (i := 51) rfl)) ?_
          refine w_dup rfl (tX11_number_0_ok (94, .dup, 1) (List.mem_of_getElem? (i := 52) rfl)) ?_
          refine w_get (own := 16) rfl rfl (by decide) c_m f10 (tX11_number_0_ok (95, .getfield 109, 3) (List.mem_of_getElem? (i := 53) rfl)) ?_
          refine w_iconst (by decide) (tX11_number_0_ok (98, .iconst 1, 1) (List.mem_of_getElem? (i := 54) rfl)) (fun v10 e11 => ?_)
          refine w_isub (by omega) (by omega) (tX11_number_0_ok (99, .isub, 1) (List.mem_of_getElem? (i := 55) rfl)) (fun v12 e13 => ?_)
          refine w_putF (own := 16) (ci := 10) (k := 10) rfl rfl (by decide) rfl ⟨rfl, rfl⟩ c_m (by rw [fl]; decide) (tX11_number_0_ok (100, .putfield 109, 3) (List.mem_of_getElem? (i := 56) rfl)) (fun h14 fs17 l18 k19 j20 c15 o16 => ?_)
          rw [fl] at l18
          have f21 := (j20 4 (by decide)).trans f4
          have f22 := (j20 5 (by decide)).trans f5
          have f23 := (j20 8 (by decide)).trans f8
          have f24 := (j20 9 (by decide)).trans f9
          have f25 := (j20 11 (by decide)).trans f11
          have f26 := (j20 12 (by decide)).trans f12
          have c27 := (o16 tx n_tx_m).trans c_x
          have c28 := (o16 le n_le_m).trans c_le
          refine w_aload_n (List.Mem.tail _ (List.Mem.tail _ (List.Mem.tail _ (List.Mem.tail _ (List.Mem.head _))))) (tX11_number_0_ok (103, .aload_n 0, 1) (List.mem_of_getElem? (i := 57) rfl)) ?_
          refine w_callV (own := 16) (mi := 180) [] [] [(0, .ref m)] rfl (cllw_X11 (124, 0, 180) (List.mem_of_getElem? (i := 11) rfl)) rfl rfl c15 rfl hr1 (w_lo (n := 20) rfl (Nat.le_trans (Nat.le_of_ble_eq_true rfl) hr2)) (Nat.le_of_ble_eq_true rfl) (Nat.le_of_ble_eq_true rfl) rfl (tX11_number_0_ok (104, .invokevirtual 124, 3) (List.mem_of_getElem? (i := 58) rfl)) (r_fail ⟨⟨c15, l18, f22, f23, f24, k19, f25⟩, f26, n_tx_m, c27, hs, hb, by omega, by omega⟩ (fun h29 fs30 fl31 v32 p33 e34 e35 k36 o37 => ?_))
          obtain ⟨⟨c38, l39, f40, f41, f42, f43, f44⟩, f45, -, c46, -, -, a47, a48⟩ := p33
          have f49 := (k36 4 (by decide)).trans f21
          have c50 := (o37 le n_le_m).trans c28
          show ww l D tys A X fr lo mX11_number Q 107 [(5, .int i), (4, .int vv), (1, .int lw), (2, .int hw), (0, .ref m)] [.int v32] h29
          refine w_pop rfl (tX11_number_0_ok (107, .pop, 1) (List.mem_of_getElem? (i := 59) rfl)) ?_
          refine w_iconst (by decide) (tX11_number_1_ok (108, .iconst (-1), 1) (List.mem_of_getElem? (i := 0) rfl)) (fun v51 e52 => ?_)
          refine w_iret rfl (tX11_number_1_ok (109, .ireturn, 1) (List.mem_of_getElem? (i := 1) rfl)) ?_
          have y8 : sp_nd f en.toInt.toNat k at0.toInt.toNat vv.toInt = (at0.toInt.toNat, vv.toInt) := by
            have k9 : k = 0 := by omega
            rw [k9, sp_nd]
          refine hq h29 fs30 v12 fl31 v51 ⟨⟨⟨c38, l39, f40, f41, f42, f43, f44⟩, f45, n_tx_m, c46, hs, hb, a47, a48⟩, f49, n_le_m, _, c50⟩ ?_ (fun j hj => (k36 j hj).trans (j20 j hj.1)) (fun q hq => (o37 q hq).trans (o16 q hq))
          rw [y8]
          dsimp only
          exact Or.inr ⟨by omega, Or.inr ⟨by omega, by omega⟩⟩
      · refine w_aload_n (List.Mem.tail _ (List.Mem.tail _ (List.Mem.tail _ (List.Mem.tail _ (List.Mem.head _))))) (tX11_number_0_ok (76, .aload_n 0, 1) (List.mem_of_getElem? (i := 41) rfl)) ?_
        refine w_callV (own := 16) (mi := 180) [] [] [(0, .ref m)] rfl (cllw_X11 (124, 0, 180) (List.mem_of_getElem? (i := 11) rfl)) rfl rfl c_m rfl hr1 (w_lo (n := 20) rfl (Nat.le_trans (Nat.le_of_ble_eq_true rfl) hr2)) (Nat.le_of_ble_eq_true rfl) (Nat.le_of_ble_eq_true rfl) rfl (tX11_number_0_ok (77, .invokevirtual 124, 3) (List.mem_of_getElem? (i := 42) rfl)) (r_fail ⟨⟨c_m, fl, f5, f8, f9, f10, f11⟩, f12, n_tx_m, c_x, hs, hb, ha.1, ha.2⟩ (fun h53 fs54 fl55 v56 p57 e58 e59 k60 o61 => ?_))
        obtain ⟨⟨c62, l63, f64, f65, f66, f67, f68⟩, f69, -, c70, -, -, a71, a72⟩ := p57
        have f73 := (k60 4 (by decide)).trans f4
        have c74 := (o61 le n_le_m).trans c_le
        show ww l D tys A X fr lo mX11_number Q 80 [(5, .int i), (4, .int vv), (1, .int lw), (2, .int hw), (0, .ref m)] [.int v56] h53
        refine w_pop rfl (tX11_number_0_ok (80, .pop, 1) (List.mem_of_getElem? (i := 43) rfl)) ?_
        refine w_iconst (by decide) (tX11_number_0_ok (81, .iconst (-1), 1) (List.mem_of_getElem? (i := 44) rfl)) (fun v75 e76 => ?_)
        refine w_iret rfl (tX11_number_0_ok (82, .ireturn, 1) (List.mem_of_getElem? (i := 45) rfl)) ?_
        have y8 : sp_nd f en.toInt.toNat k at0.toInt.toNat vv.toInt = (at0.toInt.toNat, vv.toInt) := by
          have k9 : k = 0 := by omega
          rw [k9, sp_nd]
        refine hq h53 fs54 at0 fl55 v75 ⟨⟨⟨c62, l63, f64, f65, f66, f67, f68⟩, f69, n_tx_m, c70, hs, hb, a71, a72⟩, f73, n_le_m, _, c74⟩ ?_ (fun j hj => k60 j hj) (fun q hq => o61 q hq)
        rw [y8]
        dsimp only
        exact Or.inl ⟨by omega, by omega⟩
    · refine w_aload_n (List.Mem.tail _ (List.Mem.tail _ (List.Mem.tail _ (List.Mem.tail _ (List.Mem.head _))))) (tX11_number_0_ok (31, .aload_n 0, 1) (List.mem_of_getElem? (i := 18) rfl)) ?_
      refine w_callV (own := 16) (mi := 198) [] [] [(0, .ref m)] rfl (cllw_X11 (158, 0, 198) (List.mem_of_getElem? (i := 16) rfl)) rfl rfl c_m rfl hr1 (w_lo (n := 20) rfl (Nat.le_trans (Nat.le_of_ble_eq_true rfl) hr2)) (Nat.le_of_ble_eq_true rfl) (Nat.le_of_ble_eq_true rfl) rfl (tX11_number_0_ok (32, .invokevirtual 158, 3) (List.mem_of_getElem? (i := 19) rfl)) (r_dig hT ⟨⟨c_m, fl, f5, f8, f9, f10, f11⟩, f12, n_tx_m, c_x, hs, hb, ha.1, ha.2⟩ (fun v77 e78 => ?_))
      show ww l D tys A X fr lo mX11_number Q 35 [(5, .int i), (4, .int vv), (1, .int lw), (2, .int hw), (0, .ref m)] [.int v77] h
      refine w_if_eq (tgt := 69) (tX11_number_0_ok (35, .ifCond .eq 34, 3) (List.mem_of_getElem? (i := 20) rfl)) rfl (fun b79 => ?_) (fun b79 => ?_)
      · refine w_aload_n (List.Mem.tail _ (List.Mem.tail _ (List.Mem.tail _ (List.Mem.tail _ (List.Mem.head _))))) (tX11_number_0_ok (69, .aload_n 0, 1) (List.mem_of_getElem? (i := 38) rfl)) ?_
        refine w_callV (own := 16) (mi := 198) [] [] [(0, .ref m)] rfl (cllw_X11 (158, 0, 198) (List.mem_of_getElem? (i := 16) rfl)) rfl rfl c_m rfl hr1 (w_lo (n := 20) rfl (Nat.le_trans (Nat.le_of_ble_eq_true rfl) hr2)) (Nat.le_of_ble_eq_true rfl) (Nat.le_of_ble_eq_true rfl) rfl (tX11_number_0_ok (70, .invokevirtual 158, 3) (List.mem_of_getElem? (i := 39) rfl)) (r_dig hT ⟨⟨c_m, fl, f5, f8, f9, f10, f11⟩, f12, n_tx_m, c_x, hs, hb, ha.1, ha.2⟩ (fun v80 e81 => ?_))
        show ww l D tys A X fr lo mX11_number Q 73 [(5, .int i), (4, .int vv), (1, .int lw), (2, .int hw), (0, .ref m)] [.int v80] h
        refine w_if_eq (tgt := 83) (tX11_number_0_ok (73, .ifCond .eq 10, 3) (List.mem_of_getElem? (i := 40) rfl)) rfl (fun b82 => ?_) (fun b82 => ?_)
        · refine w_iload (List.Mem.tail _ (List.Mem.head _)) (tX11_number_0_ok (83, .iload 4, 2) (List.mem_of_getElem? (i := 46) rfl)) ?_
          refine w_iload_n (List.Mem.tail _ (List.Mem.tail _ (List.Mem.head _))) (tX11_number_0_ok (85, .iload_n 1, 1) (List.mem_of_getElem? (i := 47) rfl)) ?_
          refine w_iload_n (List.Mem.tail _ (List.Mem.tail _ (List.Mem.tail _ (List.Mem.head _)))) (tX11_number_0_ok (86, .iload_n 2, 1) (List.mem_of_getElem? (i := 48) rfl)) ?_
          refine w_callS (own := 16) (mi := 199) [.int vv, .int lw, .int hw] [] [(0, .int vv), (1, .int lw), (2, .int hw)] rfl (cllw_X11 (207, 1, 199) (List.mem_of_getElem? (i := 2) rfl)) rfl rfl hr1 (w_lo (n := 22) rfl (Nat.le_trans (Nat.le_of_ble_eq_true rfl) hr2)) (Nat.le_of_ble_eq_true rfl) (Nat.le_of_ble_eq_true rfl) rfl (tX11_number_0_ok (87, .invokestatic 207, 3) (List.mem_of_getElem? (i := 49) rfl)) (r_isIn (fun v83 e84 => ?_))
          show ww l D tys A X fr lo mX11_number Q 90 [(5, .int i), (4, .int vv), (1, .int lw), (2, .int hw), (0, .ref m)] [.int v83] h
          refine w_if_ne (tgt := 110) (tX11_number_0_ok (90, .ifCond .ne 20, 3) (List.mem_of_getElem? (i := 50) rfl)) rfl (fun b85 => ?_) (fun b85 => ?_)
          · refine w_iload (List.Mem.tail _ (List.Mem.head _)) (tX11_number_1_ok (110, .iload 4, 2) (List.mem_of_getElem? (i := 2) rfl)) ?_
            refine w_iret rfl (tX11_number_1_ok (112, .ireturn, 1) (List.mem_of_getElem? (i := 3) rfl)) ?_
            have y8 : sp_nd f en.toInt.toNat k at0.toInt.toNat vv.toInt = (at0.toInt.toNat, vv.toInt) := by
              cases k with
              | zero => rfl
              | succ k => rw [sp_nd, if_neg (by omega)]
            refine hq h fs at0 fl0 vv ⟨⟨⟨c_m, fl, f5, f8, f9, f10, f11⟩, f12, n_tx_m, c_x, hs, hb, ha.1, ha.2⟩, f4, n_le_m, _, c_le⟩ ?_ (fun j hj => rfl) (fun q hq => rfl)
            rw [y8]
            dsimp only
            exact Or.inr ⟨by omega, Or.inl ⟨by omega, by omega, by omega, by omega, by omega⟩⟩
          · refine w_aload_n (List.Mem.tail _ (List.Mem.tail _ (List.Mem.tail _ (List.Mem.tail _ (List.Mem.head _))))) (tX11_number_0_ok (93, .aload_n 0, 1) (List.mem_of_getElem? (i := 51) rfl)) ?_
            refine w_dup rfl (tX11_number_0_ok (94, .dup, 1) (List.mem_of_getElem? (i := 52) rfl)) ?_
            refine w_get (own := 16) rfl rfl (by decide) c_m f10 (tX11_number_0_ok (95, .getfield 109, 3) (List.mem_of_getElem? (i := 53) rfl)) ?_
            refine w_iconst (by decide) (tX11_number_0_ok (98, .iconst 1, 1) (List.mem_of_getElem? (i := 54) rfl)) (fun v86 e87 => ?_)
            refine w_isub (by omega) (by omega) (tX11_number_0_ok (99, .isub, 1) (List.mem_of_getElem? (i := 55) rfl)) (fun v88 e89 => ?_)
            refine w_putF (own := 16) (ci := 10) (k := 10) rfl rfl (by decide) rfl ⟨rfl, rfl⟩ c_m (by rw [fl]; decide) (tX11_number_0_ok (100, .putfield 109, 3) (List.mem_of_getElem? (i := 56) rfl)) (fun h90 fs93 l94 k95 j96 c91 o92 => ?_)
            rw [fl] at l94
            have f97 := (j96 4 (by decide)).trans f4
            have f98 := (j96 5 (by decide)).trans f5
            have f99 := (j96 8 (by decide)).trans f8
            have f100 := (j96 9 (by decide)).trans f9
            have f101 := (j96 11 (by decide)).trans f11
            have f102 := (j96 12 (by decide)).trans f12
            have c103 := (o92 tx n_tx_m).trans c_x
            have c104 := (o92 le n_le_m).trans c_le
            refine w_aload_n (List.Mem.tail _ (List.Mem.tail _ (List.Mem.tail _ (List.Mem.tail _ (List.Mem.head _))))) (tX11_number_0_ok (103, .aload_n 0, 1) (List.mem_of_getElem? (i := 57) rfl)) ?_
            refine w_callV (own := 16) (mi := 180) [] [] [(0, .ref m)] rfl (cllw_X11 (124, 0, 180) (List.mem_of_getElem? (i := 11) rfl)) rfl rfl c91 rfl hr1 (w_lo (n := 20) rfl (Nat.le_trans (Nat.le_of_ble_eq_true rfl) hr2)) (Nat.le_of_ble_eq_true rfl) (Nat.le_of_ble_eq_true rfl) rfl (tX11_number_0_ok (104, .invokevirtual 124, 3) (List.mem_of_getElem? (i := 58) rfl)) (r_fail ⟨⟨c91, l94, f98, f99, f100, k95, f101⟩, f102, n_tx_m, c103, hs, hb, by omega, by omega⟩ (fun h105 fs106 fl107 v108 p109 e110 e111 k112 o113 => ?_))
            obtain ⟨⟨c114, l115, f116, f117, f118, f119, f120⟩, f121, -, c122, -, -, a123, a124⟩ := p109
            have f125 := (k112 4 (by decide)).trans f97
            have c126 := (o113 le n_le_m).trans c104
            show ww l D tys A X fr lo mX11_number Q 107 [(5, .int i), (4, .int vv), (1, .int lw), (2, .int hw), (0, .ref m)] [.int v108] h105
            refine w_pop rfl (tX11_number_0_ok (107, .pop, 1) (List.mem_of_getElem? (i := 59) rfl)) ?_
            refine w_iconst (by decide) (tX11_number_1_ok (108, .iconst (-1), 1) (List.mem_of_getElem? (i := 0) rfl)) (fun v127 e128 => ?_)
            refine w_iret rfl (tX11_number_1_ok (109, .ireturn, 1) (List.mem_of_getElem? (i := 1) rfl)) ?_
            have y8 : sp_nd f en.toInt.toNat k at0.toInt.toNat vv.toInt = (at0.toInt.toNat, vv.toInt) := by
              cases k with
              | zero => rfl
              | succ k => rw [sp_nd, if_neg (by omega)]
            refine hq h105 fs106 v88 fl107 v127 ⟨⟨⟨c114, l115, f116, f117, f118, f119, f120⟩, f121, n_tx_m, c122, hs, hb, a123, a124⟩, f125, n_le_m, _, c126⟩ ?_ (fun j hj => (k112 j hj).trans (j96 j hj.1)) (fun q hq => (o113 q hq).trans (o92 q hq))
            rw [y8]
            dsimp only
            exact Or.inr ⟨by omega, Or.inr ⟨by omega, by omega⟩⟩
        · refine w_aload_n (List.Mem.tail _ (List.Mem.tail _ (List.Mem.tail _ (List.Mem.tail _ (List.Mem.head _))))) (tX11_number_0_ok (76, .aload_n 0, 1) (List.mem_of_getElem? (i := 41) rfl)) ?_
          refine w_callV (own := 16) (mi := 180) [] [] [(0, .ref m)] rfl (cllw_X11 (124, 0, 180) (List.mem_of_getElem? (i := 11) rfl)) rfl rfl c_m rfl hr1 (w_lo (n := 20) rfl (Nat.le_trans (Nat.le_of_ble_eq_true rfl) hr2)) (Nat.le_of_ble_eq_true rfl) (Nat.le_of_ble_eq_true rfl) rfl (tX11_number_0_ok (77, .invokevirtual 124, 3) (List.mem_of_getElem? (i := 42) rfl)) (r_fail ⟨⟨c_m, fl, f5, f8, f9, f10, f11⟩, f12, n_tx_m, c_x, hs, hb, ha.1, ha.2⟩ (fun h129 fs130 fl131 v132 p133 e134 e135 k136 o137 => ?_))
          obtain ⟨⟨c138, l139, f140, f141, f142, f143, f144⟩, f145, -, c146, -, -, a147, a148⟩ := p133
          have f149 := (k136 4 (by decide)).trans f4
          have c150 := (o137 le n_le_m).trans c_le
          show ww l D tys A X fr lo mX11_number Q 80 [(5, .int i), (4, .int vv), (1, .int lw), (2, .int hw), (0, .ref m)] [.int v132] h129
          refine w_pop rfl (tX11_number_0_ok (80, .pop, 1) (List.mem_of_getElem? (i := 43) rfl)) ?_
          refine w_iconst (by decide) (tX11_number_0_ok (81, .iconst (-1), 1) (List.mem_of_getElem? (i := 44) rfl)) (fun v151 e152 => ?_)
          refine w_iret rfl (tX11_number_0_ok (82, .ireturn, 1) (List.mem_of_getElem? (i := 45) rfl)) ?_
          have y8 : sp_nd f en.toInt.toNat k at0.toInt.toNat vv.toInt = (at0.toInt.toNat, vv.toInt) := by
            cases k with
            | zero => rfl
            | succ k => rw [sp_nd, if_neg (by omega)]
          refine hq h129 fs130 at0 fl131 v151 ⟨⟨⟨c138, l139, f140, f141, f142, f143, f144⟩, f145, n_tx_m, c146, hs, hb, a147, a148⟩, f149, n_le_m, _, c150⟩ ?_ (fun j hj => k136 j hj) (fun q hq => o137 q hq)
          rw [y8]
          dsimp only
          exact Or.inl ⟨by omega, by omega⟩
      · refine w_bipush (by decide) (tX11_number_0_ok (38, .bipush 10, 2) (List.mem_of_getElem? (i := 21) rfl)) (fun v153 e154 => ?_)
        refine w_iload (List.Mem.tail _ (List.Mem.head _)) (tX11_number_0_ok (40, .iload 4, 2) (List.mem_of_getElem? (i := 22) rfl)) ?_
        refine w_imul (by assumption) (by omega) (by omega) (tX11_number_0_ok (42, .imul, 1) (List.mem_of_getElem? (i := 23) rfl)) (fun v155 e156 => ?_)
        refine w_aload_n (List.Mem.tail _ (List.Mem.tail _ (List.Mem.tail _ (List.Mem.tail _ (List.Mem.head _))))) (tX11_number_0_ok (43, .aload_n 0, 1) (List.mem_of_getElem? (i := 24) rfl)) ?_
        refine w_callV (own := 16) (mi := 193) [] [.int v155] [(0, .ref m)] rfl (cllw_X11 (204, 0, 193) (List.mem_of_getElem? (i := 17) rfl)) rfl rfl c_m rfl hr1 (w_lo (n := 20) rfl (Nat.le_trans (Nat.le_of_ble_eq_true rfl) hr2)) (Nat.le_of_ble_eq_true rfl) (Nat.le_of_ble_eq_true rfl) rfl (tX11_number_0_ok (44, .invokevirtual 204, 3) (List.mem_of_getElem? (i := 25) rfl)) (r_here hT ⟨⟨c_m, fl, f5, f8, f9, f10, f11⟩, f12, n_tx_m, c_x, hs, hb, ha.1, ha.2⟩ (fun v157 e158 => ?_))
        show ww l D tys A X fr lo mX11_number Q 47 [(5, .int i), (4, .int vv), (1, .int lw), (2, .int hw), (0, .ref m)] [.int v157, .int v155] h
        refine w_iadd (by omega) (by omega) (tX11_number_0_ok (47, .iadd, 1) (List.mem_of_getElem? (i := 26) rfl)) (fun v159 e160 => ?_)
        refine w_bipush (by decide) (tX11_number_0_ok (48, .bipush 48, 2) (List.mem_of_getElem? (i := 27) rfl)) (fun v161 e162 => ?_)
        refine w_isub (by omega) (by omega) (tX11_number_0_ok (50, .isub, 1) (List.mem_of_getElem? (i := 28) rfl)) (fun v163 e164 => ?_)
        refine w_istore [(4, .int v163), (5, .int i), (1, .int lw), (2, .int hw), (0, .ref m)] rfl (Nat.le_of_ble_eq_true rfl) (tX11_number_0_ok (51, .istore 4, 2) (List.mem_of_getElem? (i := 29) rfl)) ?_
        refine w_aload_n (List.Mem.tail _ (List.Mem.tail _ (List.Mem.tail _ (List.Mem.tail _ (List.Mem.head _))))) (tX11_number_0_ok (53, .aload_n 0, 1) (List.mem_of_getElem? (i := 30) rfl)) ?_
        refine w_dup rfl (tX11_number_0_ok (54, .dup, 1) (List.mem_of_getElem? (i := 31) rfl)) ?_
        refine w_get (own := 16) rfl rfl (by decide) c_m f10 (tX11_number_0_ok (55, .getfield 109, 3) (List.mem_of_getElem? (i := 32) rfl)) ?_
        refine w_iconst (by decide) (tX11_number_0_ok (58, .iconst 1, 1) (List.mem_of_getElem? (i := 33) rfl)) (fun v165 e166 => ?_)
        refine w_iadd (by omega) (by omega) (tX11_number_0_ok (59, .iadd, 1) (List.mem_of_getElem? (i := 34) rfl)) (fun v167 e168 => ?_)
        refine w_putF (own := 16) (ci := 10) (k := 10) rfl rfl (by decide) rfl ⟨rfl, rfl⟩ c_m (by rw [fl]; decide) (tX11_number_0_ok (60, .putfield 109, 3) (List.mem_of_getElem? (i := 35) rfl)) (fun h169 fs172 l173 k174 j175 c170 o171 => ?_)
        rw [fl] at l173
        have f176 := (j175 4 (by decide)).trans f4
        have f177 := (j175 5 (by decide)).trans f5
        have f178 := (j175 8 (by decide)).trans f8
        have f179 := (j175 9 (by decide)).trans f9
        have f180 := (j175 11 (by decide)).trans f11
        have f181 := (j175 12 (by decide)).trans f12
        have c182 := (o171 tx n_tx_m).trans c_x
        have c183 := (o171 le n_le_m).trans c_le
        refine w_iinc (fun v184 => [(5, .int v184), (4, .int v163), (1, .int lw), (2, .int hw), (0, .ref m)]) (fun _ => rfl) (List.Mem.tail _ (List.Mem.head _)) (Nat.le_of_ble_eq_true rfl) (by decide) (by omega) (by omega) (tX11_number_0_ok (63, .iinc 5 1, 3) (List.mem_of_getElem? (i := 36) rfl)) (fun v184 e185 => ?_)
        refine w_goto (tgt := 25) (tX11_number_0_ok (66, .goto (-41), 3) (List.mem_of_getElem? (i := 37) rfl)) rfl ?_
        have a9 : v167.toInt.toNat = at0.toInt.toNat + 1 := by omega
        have k9 : k = (k - 1) + 1 := by omega
        have z9 : 10 * vv.toInt + ((f at0.toInt.toNat).toInt - 48) = v163.toInt := by omega
        refine w_lv [(5, .int v184), (4, .int v163), (1, .int lw), (2, .int hw), (0, .ref m)] (by intro q hq; simp only [List.mem_cons, List.not_mem_nil, or_false] at hq ⊢; rcases hq with e | e | e | e | e <;> subst e <;> simp) ?_
        refine ih (k - 1) (by omega) _ _ _ _ _ _ (by omega) (by omega) (by omega) (by omega) (fun z8 => by omega) (by omega) (by omega) ⟨⟨⟨c170, l173, f177, f178, f179, k174, f180⟩, f181, n_tx_m, c182, hs, hb, by omega, by omega⟩, f176, n_le_m, _, c183⟩ (fun h1 fs1 at1 fl1 u p1 p2 p3 p4 => hq h1 fs1 at1 fl1 u p1 ?_ (fun j hj => (p3 j hj).trans (j175 j hj.1)) (fun q hq => (p4 q hq).trans (o171 q hq)))
        rw [a9] at p2
        rw [k9, sp_nd, if_pos (by omega), z9]
        exact p2
theorem r_number (hT : k_tys tys cA) {lw hw : Int32} (hf : 1 ≤ fr) (hl : 60 ≤ lo) (hfl : fl0.toInt = -1) (H : rl cA h m fs tx n le g f bg en at0 fl0 dp) (hq : ∀ (h1 : ch_H) (fs1 : List Value) (at1 fl1 u : Int32), rl cA h1 m fs1 tx n le g f bg en at1 fl1 dp → sp_is (sp_rm f en.toInt.toNat lw.toInt hw.toInt at0.toInt.toNat) at1 fl1 ∧ (fl1.toInt = -1 → u.toInt = (sp_num f en.toInt.toNat 3 at0.toInt.toNat).2) → (∀ j, j ≠ 10 ∧ j ≠ 11 ∧ j ≠ 12 → fs1[j]? = fs[j]?) → (∀ q, q ≠ m → h1 q = h q) → Q (some (.int u)) h1) : ww l D tys A X fr lo mX11_number Q 0 [(0, .ref m), (1, .int lw), (2, .int hw)] [] h := by
  have hr1 : 1 ≤ fr := by omega
  have hr2 : 30 ≤ lo := by omega
  obtain ⟨⟨⟨c_m, fl, f5, f8, f9, f10, f11⟩, f12, n_tx_m, c_x, hs, hb, ha⟩, f4, n_le_m, gl, c_le⟩ := H
  refine w_aload_n (List.Mem.head _) (tX11_number_0_ok (0, .aload_n 0, 1) (List.mem_of_getElem? (i := 0) rfl)) ?_
  refine w_callV (own := 16) (mi := 212) [] [] [(0, .ref m)] rfl (cllw_X11 (128, 0, 212) (List.mem_of_getElem? (i := 7) rfl)) rfl rfl c_m rfl hr1 (w_lo (n := 20) rfl (Nat.le_trans (Nat.le_of_ble_eq_true rfl) hr2)) (Nat.le_of_ble_eq_true rfl) (Nat.le_of_ble_eq_true rfl) rfl (tX11_number_0_ok (1, .invokevirtual 128, 3) (List.mem_of_getElem? (i := 1) rfl)) (r_look hT ⟨⟨c_m, fl, f5, f8, f9, f10, f11⟩, f12, n_tx_m, c_x, hs, hb, ha.1, ha.2⟩ (fun h1 fs2 at3 v4 p5 e6 e7 k8 o9 => ?_))
  obtain ⟨⟨c10, l11, f12, f13, f14, f15, f16⟩, f17, -, c18, -, -, a19, a20⟩ := p5
  have f21 := (k8 4 (by decide)).trans f4
  have c22 := (o9 le n_le_m).trans c_le
  show ww l D tys A X fr lo mX11_number Q 4 [(0, .ref m), (1, .int lw), (2, .int hw)] [.int v4] h1
  refine w_istore_n [(3, .int v4), (0, .ref m), (1, .int lw), (2, .int hw)] rfl (Nat.le_of_ble_eq_true rfl) (tX11_number_0_ok (4, .istore_n 3, 1) (List.mem_of_getElem? (i := 2) rfl)) ?_
  refine w_aload_n (List.Mem.tail _ (List.Mem.head _)) (tX11_number_0_ok (5, .aload_n 0, 1) (List.mem_of_getElem? (i := 3) rfl)) ?_
  refine w_callV (own := 16) (mi := 198) [] [] [(0, .ref m)] rfl (cllw_X11 (158, 0, 198) (List.mem_of_getElem? (i := 16) rfl)) rfl rfl c10 rfl hr1 (w_lo (n := 20) rfl (Nat.le_trans (Nat.le_of_ble_eq_true rfl) hr2)) (Nat.le_of_ble_eq_true rfl) (Nat.le_of_ble_eq_true rfl) rfl (tX11_number_0_ok (6, .invokevirtual 158, 3) (List.mem_of_getElem? (i := 4) rfl)) (r_dig hT ⟨⟨c10, l11, f12, f13, f14, f15, f16⟩, f17, n_tx_m, c18, hs, hb, a19, a20⟩ (fun v23 e24 => ?_))
  show ww l D tys A X fr lo mX11_number Q 9 [(3, .int v4), (0, .ref m), (1, .int lw), (2, .int hw)] [.int v23] h1
  refine w_if_ne (tgt := 19) (tX11_number_0_ok (9, .ifCond .ne 10, 3) (List.mem_of_getElem? (i := 5) rfl)) rfl (fun b25 => ?_) (fun b25 => ?_)
  · refine w_iconst (by decide) (tX11_number_0_ok (19, .iconst 0, 1) (List.mem_of_getElem? (i := 11) rfl)) (fun v26 e27 => ?_)
    refine w_istore [(4, .int v26), (3, .int v4), (0, .ref m), (1, .int lw), (2, .int hw)] rfl (Nat.le_of_ble_eq_true rfl) (tX11_number_0_ok (20, .istore 4, 2) (List.mem_of_getElem? (i := 12) rfl)) ?_
    refine w_iconst (by decide) (tX11_number_0_ok (22, .iconst 0, 1) (List.mem_of_getElem? (i := 13) rfl)) (fun v28 e29 => ?_)
    refine w_istore [(5, .int v28), (4, .int v26), (3, .int v4), (0, .ref m), (1, .int lw), (2, .int hw)] rfl (Nat.le_of_ble_eq_true rfl) (tX11_number_0_ok (23, .istore 5, 2) (List.mem_of_getElem? (i := 14) rfl)) ?_
    rw [e6] at e24
    have y1 : sp_isd f en.toInt.toNat (sp_sk f en.toInt.toNat at0.toInt.toNat) := by omega
    refine w_lv [(5, .int v28), (4, .int v26), (1, .int lw), (2, .int hw), (0, .ref m)] (by intro q hq; simp only [List.mem_cons, List.not_mem_nil, or_false] at hq ⊢; rcases hq with e | e | e | e | e <;> subst e <;> simp) ?_
    refine r_numL hT hr1 (by omega) 3 _ _ _ _ _ _ (by omega) (by omega) (by omega) (by omega) (fun _ => by rw [e6]; exact y1) (by omega) (by omega) ⟨⟨⟨c10, l11, f12, f13, f14, f15, f16⟩, f17, n_tx_m, c18, hs, hb, a19, a20⟩, f21, n_le_m, _, c22⟩ (fun h1 fs1 at1 fl1 u p1 p2 p3 p4 => hq h1 fs1 at1 fl1 u p1 ?_ (fun j hj => (p3 j hj).trans (k8 j hj)) (fun q hq => (p4 q hq).trans (o9 q hq)))
    have z9 : v26.toInt = 0 := by omega
    rw [e6, z9] at p2
    have y2 : (sp_num f en.toInt.toNat 3 at0.toInt.toNat).2 = (sp_nd f en.toInt.toNat 3 (sp_sk f en.toInt.toNat at0.toInt.toNat) 0).2 := by unfold sp_num; rw [if_pos y1]; split <;> rfl
    have y3 : (sp_nd f en.toInt.toNat 3 (sp_sk f en.toInt.toNat at0.toInt.toNat) 0).1 ≥ 1 := by have y4 := sp_nd_le f en.toInt.toNat 2 (sp_sk f en.toInt.toNat at0.toInt.toNat + 1) (10 * 0 + ((f (sp_sk f en.toInt.toNat at0.toInt.toNat)).toInt - 48)); rw [sp_nd, if_pos y1]; omega
    rcases p2 with ⟨p5, p6⟩ | ⟨p5, p6⟩
    · refine ⟨?_, fun z8 => by omega⟩
      unfold sp_rm
      have y5 : (sp_num f en.toInt.toNat 3 at0.toInt.toNat).1 = .inl (sp_nd f en.toInt.toNat 3 (sp_sk f en.toInt.toNat at0.toInt.toNat) 0).1 := by unfold sp_num; rw [if_pos y1, if_pos p5]
      rw [y5]
      exact p6
    · have y5 : (sp_num f en.toInt.toNat 3 at0.toInt.toNat).1 = .inr (sp_nd f en.toInt.toNat 3 (sp_sk f en.toInt.toNat at0.toInt.toNat) 0).1 := by unfold sp_num; rw [if_pos y1, if_neg p5]
      rw [← y2] at p6
      rcases p6 with ⟨q1, q2, q3, q4, q5⟩ | ⟨q1, q2⟩
      · refine ⟨?_, fun _ => q5⟩
        unfold sp_rm
        rw [y5]
        dsimp only [sp_bd]
        rw [if_pos ⟨q1, q2⟩]
        exact ⟨q3, q4⟩
      · refine ⟨?_, fun z8 => by omega⟩
        unfold sp_rm
        rw [y5]
        dsimp only [sp_bd]
        rw [if_neg (by omega)]
        show _ = _
        omega
  · refine w_aload_n (List.Mem.tail _ (List.Mem.head _)) (tX11_number_0_ok (12, .aload_n 0, 1) (List.mem_of_getElem? (i := 6) rfl)) ?_
    refine w_callV (own := 16) (mi := 180) [] [] [(0, .ref m)] rfl (cllw_X11 (124, 0, 180) (List.mem_of_getElem? (i := 11) rfl)) rfl rfl c10 rfl hr1 (w_lo (n := 20) rfl (Nat.le_trans (Nat.le_of_ble_eq_true rfl) hr2)) (Nat.le_of_ble_eq_true rfl) (Nat.le_of_ble_eq_true rfl) rfl (tX11_number_0_ok (13, .invokevirtual 124, 3) (List.mem_of_getElem? (i := 7) rfl)) (r_fail ⟨⟨c10, l11, f12, f13, f14, f15, f16⟩, f17, n_tx_m, c18, hs, hb, a19, a20⟩ (fun h30 fs31 fl32 v33 p34 e35 e36 k37 o38 => ?_))
    obtain ⟨⟨c39, l40, f41, f42, f43, f44, f45⟩, f46, -, c47, -, -, a48, a49⟩ := p34
    have f50 := (k37 4 (by decide)).trans f21
    have c51 := (o38 le n_le_m).trans c22
    show ww l D tys A X fr lo mX11_number Q 16 [(3, .int v4), (0, .ref m), (1, .int lw), (2, .int hw)] [.int v33] h30
    refine w_pop rfl (tX11_number_0_ok (16, .pop, 1) (List.mem_of_getElem? (i := 8) rfl)) ?_
    refine w_iconst (by decide) (tX11_number_0_ok (17, .iconst (-1), 1) (List.mem_of_getElem? (i := 9) rfl)) (fun v52 e53 => ?_)
    refine w_iret rfl (tX11_number_0_ok (18, .ireturn, 1) (List.mem_of_getElem? (i := 10) rfl)) ?_
    rw [e6] at e24
    have y1 : ¬ sp_isd f en.toInt.toNat (sp_sk f en.toInt.toNat at0.toInt.toNat) := by omega
    refine hq h30 fs31 at3 fl32 v52 ⟨⟨⟨c39, l40, f41, f42, f43, f44, f45⟩, f46, n_tx_m, c47, hs, hb, a48, a49⟩, f50, n_le_m, _, c51⟩ ⟨?_, fun z8 => by omega⟩ (fun j hj => (k37 j hj).trans (k8 j hj)) (fun q hq => (o38 q hq).trans (o9 q hq))
    have y5 : (sp_num f en.toInt.toNat 3 at0.toInt.toNat).1 = .inl (sp_sk f en.toInt.toNat at0.toInt.toNat) := by unfold sp_num; rw [if_neg y1]
    unfold sp_rm
    rw [y5]
    show _ = _
    omega
theorem sp_told_h {told k z v w : Int32} {t kk : Nat} (ht : told.toInt = (t : Int)) (h5 : t < 512) (hk : k.toInt = (kk : Int) ∧ kk < 9) (hz : z.toInt = 1) (e1 : v = told >>> (k &&& 31)) (e2 : w = v &&& z) : w.toInt = 1 ↔ t / 2 ^ kk % 2 = 1 := by
  have z9 := (sp_told0 t h5 kk hk.2).2.2.1
  have a1 := kn_nat ht
  have a2 := kn_nat hk.1
  have hz2 : z = 1 := (kn_eq _ _).mpr (by rw [hz]; rfl)
  subst a1 a2 hz2 e1 e2
  exact z9
theorem sp_told_o {told k z v w : Int32} {t kk : Nat} (ht : told.toInt = (t : Int)) (h5 : t < 512) (hk : k.toInt = (kk : Int) ∧ kk < 9) (hz : z.toInt = 1) (hn : ¬ t / 2 ^ kk % 2 = 1) (e1 : v = z <<< (k &&& 31)) (e2 : w = told ||| v) : w.toInt = (t : Int) + (2 ^ kk : Nat) ∧ t + 2 ^ kk < 512 ∧ sp_pc (t + 2 ^ kk) = sp_pc t + 1 := by
  have z9 := sp_told0 t h5 kk hk.2
  have a1 := kn_nat ht
  have a2 := kn_nat hk.1
  have hz2 : z = Int32.ofNat 1 := (kn_eq _ _).mpr (by rw [hz]; rfl)
  have a3 : v = Int32.ofNat (2 ^ kk) := kn_nat (by rw [e1, hz2, a2]; exact z9.2.2.2)
  subst a1 a3 e2
  exact z9.2.1 hn
theorem r_has {told k : Int32} {t kk : Nat} (ht : told.toInt = (t : Int)) (h5 : t < 512) (hk : k.toInt = (kk : Int) ∧ kk < 9) (hq : ∀ v : Int32, (t / 2 ^ kk % 2 = 1 ∧ v.toInt = 1 ∨ ¬ t / 2 ^ kk % 2 = 1 ∧ v.toInt = 0) → Q (some (.int v)) h) : ww l D tys A X fr lo mX11_has Q 0 [(0, .int told), (1, .int k)] [] h := by
  refine w_iload_n (List.Mem.head _) (tX11_has_0_ok (0, .iload_n 0, 1) (List.mem_of_getElem? (i := 0) rfl)) ?_
  refine w_iload_n (List.Mem.tail _ (List.Mem.head _)) (tX11_has_0_ok (1, .iload_n 1, 1) (List.mem_of_getElem? (i := 1) rfl)) ?_
  refine w_ishr (tX11_has_0_ok (2, .ishr, 1) (List.mem_of_getElem? (i := 2) rfl)) (fun v1 e2 => ?_)
  refine w_iconst (by decide) (tX11_has_0_ok (3, .iconst 1, 1) (List.mem_of_getElem? (i := 3) rfl)) (fun v3 e4 => ?_)
  refine w_iand (tX11_has_0_ok (4, .iand, 1) (List.mem_of_getElem? (i := 4) rfl)) (fun v5 e6 => ?_)
  have d9 := sp_told_h ht h5 hk (by omega) e2 e6
  refine w_iconst (by decide) (tX11_has_0_ok (5, .iconst 1, 1) (List.mem_of_getElem? (i := 5) rfl)) (fun v7 e8 => ?_)
  refine w_icmp_ne (tgt := 13) (tX11_has_0_ok (6, .if_icmp .ne 7, 3) (List.mem_of_getElem? (i := 6) rfl)) rfl (fun b9 => ?_) (fun b9 => ?_)
  · refine w_iconst (by decide) (tX11_has_0_ok (13, .iconst 0, 1) (List.mem_of_getElem? (i := 9) rfl)) (fun v10 e11 => ?_)
    refine w_zret rfl (by omega) (by omega) (tX11_has_0_ok (14, .ireturn, 1) (List.mem_of_getElem? (i := 10) rfl)) ?_
    refine hq v10 ?_
    omega
  · refine w_iconst (by decide) (tX11_has_0_ok (9, .iconst 1, 1) (List.mem_of_getElem? (i := 7) rfl)) (fun v12 e13 => ?_)
    refine w_goto (tgt := 14) (tX11_has_0_ok (10, .goto 4, 3) (List.mem_of_getElem? (i := 8) rfl)) rfl ?_
    refine w_zret rfl (by omega) (by omega) (tX11_has_0_ok (14, .ireturn, 1) (List.mem_of_getElem? (i := 10) rfl)) ?_
    refine hq v12 ?_
    omega
theorem r_usual {k : Int32} (hk : 0 ≤ k.toInt ∧ k.toInt ≤ 8) (hq : ∀ v : Int32, v.toInt = us_v k.toInt → Q (some (.int v)) h) : ww l D tys A X fr lo mX11_usual Q 0 [(0, .int k)] [] h := by
  refine w_iload_n (List.Mem.head _) (tX11_usual_0_ok (0, .iload_n 0, 1) (List.mem_of_getElem? (i := 0) rfl)) ?_
  have b1 : (k.toInt < 1 ∨ 8 < k.toInt) ∨ k.toInt = 1 ∨ k.toInt = 2 ∨ k.toInt = 3 ∨ k.toInt = 4 ∨ k.toInt = 5 ∨ k.toInt = 6 ∨ k.toInt = 7 ∨ k.toInt = 8 := by omega
  rcases b1 with b1 | b1 | b1 | b1 | b1 | b1 | b1 | b1 | b1
  · refine w_tabOut (tgt := 55) (tX11_usual_0_ok (1, .tableswitch 54 1 8 #[47, 54, 47, 47, 50, 54, 54, 52], 47) (List.mem_of_getElem? (i := 1) rfl)) b1 rfl ?_
    refine w_iconst (by decide) (tX11_usual_0_ok (55, .iconst 0, 1) (List.mem_of_getElem? (i := 8) rfl)) (fun v2 e3 => ?_)
    refine w_iret rfl (tX11_usual_0_ok (56, .ireturn, 1) (List.mem_of_getElem? (i := 9) rfl)) ?_
    refine hq v2 ?_
    unfold us_v
    first | omega | (split <;> first | omega | (split <;> first | omega | (split <;> omega)))
  · refine w_tabIn (tgt := 48) (tX11_usual_0_ok (1, .tableswitch 54 1 8 #[47, 54, 47, 47, 50, 54, 54, 52], 47) (List.mem_of_getElem? (i := 1) rfl)) b1 (by decide) (by decide) rfl rfl ?_
    refine w_bipush (by decide) (tX11_usual_0_ok (48, .bipush 10, 2) (List.mem_of_getElem? (i := 2) rfl)) (fun v4 e5 => ?_)
    refine w_iret rfl (tX11_usual_0_ok (50, .ireturn, 1) (List.mem_of_getElem? (i := 3) rfl)) ?_
    refine hq v4 ?_
    unfold us_v
    first | omega | (split <;> first | omega | (split <;> first | omega | (split <;> omega)))
  · refine w_tabIn (tgt := 55) (tX11_usual_0_ok (1, .tableswitch 54 1 8 #[47, 54, 47, 47, 50, 54, 54, 52], 47) (List.mem_of_getElem? (i := 1) rfl)) b1 (by decide) (by decide) rfl rfl ?_
    refine w_iconst (by decide) (tX11_usual_0_ok (55, .iconst 0, 1) (List.mem_of_getElem? (i := 8) rfl)) (fun v6 e7 => ?_)
    refine w_iret rfl (tX11_usual_0_ok (56, .ireturn, 1) (List.mem_of_getElem? (i := 9) rfl)) ?_
    refine hq v6 ?_
    unfold us_v
    first | omega | (split <;> first | omega | (split <;> first | omega | (split <;> omega)))
  · refine w_tabIn (tgt := 48) (tX11_usual_0_ok (1, .tableswitch 54 1 8 #[47, 54, 47, 47, 50, 54, 54, 52], 47) (List.mem_of_getElem? (i := 1) rfl)) b1 (by decide) (by decide) rfl rfl ?_
    refine w_bipush (by decide) (tX11_usual_0_ok (48, .bipush 10, 2) (List.mem_of_getElem? (i := 2) rfl)) (fun v8 e9 => ?_)
    refine w_iret rfl (tX11_usual_0_ok (50, .ireturn, 1) (List.mem_of_getElem? (i := 3) rfl)) ?_
    refine hq v8 ?_
    unfold us_v
    first | omega | (split <;> first | omega | (split <;> first | omega | (split <;> omega)))
  · refine w_tabIn (tgt := 48) (tX11_usual_0_ok (1, .tableswitch 54 1 8 #[47, 54, 47, 47, 50, 54, 54, 52], 47) (List.mem_of_getElem? (i := 1) rfl)) b1 (by decide) (by decide) rfl rfl ?_
    refine w_bipush (by decide) (tX11_usual_0_ok (48, .bipush 10, 2) (List.mem_of_getElem? (i := 2) rfl)) (fun v10 e11 => ?_)
    refine w_iret rfl (tX11_usual_0_ok (50, .ireturn, 1) (List.mem_of_getElem? (i := 3) rfl)) ?_
    refine hq v10 ?_
    unfold us_v
    first | omega | (split <;> first | omega | (split <;> first | omega | (split <;> omega)))
  · refine w_tabIn (tgt := 51) (tX11_usual_0_ok (1, .tableswitch 54 1 8 #[47, 54, 47, 47, 50, 54, 54, 52], 47) (List.mem_of_getElem? (i := 1) rfl)) b1 (by decide) (by decide) rfl rfl ?_
    refine w_iconst (by decide) (tX11_usual_0_ok (51, .iconst 5, 1) (List.mem_of_getElem? (i := 4) rfl)) (fun v12 e13 => ?_)
    refine w_iret rfl (tX11_usual_0_ok (52, .ireturn, 1) (List.mem_of_getElem? (i := 5) rfl)) ?_
    refine hq v12 ?_
    unfold us_v
    first | omega | (split <;> first | omega | (split <;> first | omega | (split <;> omega)))
  · refine w_tabIn (tgt := 55) (tX11_usual_0_ok (1, .tableswitch 54 1 8 #[47, 54, 47, 47, 50, 54, 54, 52], 47) (List.mem_of_getElem? (i := 1) rfl)) b1 (by decide) (by decide) rfl rfl ?_
    refine w_iconst (by decide) (tX11_usual_0_ok (55, .iconst 0, 1) (List.mem_of_getElem? (i := 8) rfl)) (fun v14 e15 => ?_)
    refine w_iret rfl (tX11_usual_0_ok (56, .ireturn, 1) (List.mem_of_getElem? (i := 9) rfl)) ?_
    refine hq v14 ?_
    unfold us_v
    first | omega | (split <;> first | omega | (split <;> first | omega | (split <;> omega)))
  · refine w_tabIn (tgt := 55) (tX11_usual_0_ok (1, .tableswitch 54 1 8 #[47, 54, 47, 47, 50, 54, 54, 52], 47) (List.mem_of_getElem? (i := 1) rfl)) b1 (by decide) (by decide) rfl rfl ?_
    refine w_iconst (by decide) (tX11_usual_0_ok (55, .iconst 0, 1) (List.mem_of_getElem? (i := 8) rfl)) (fun v16 e17 => ?_)
    refine w_iret rfl (tX11_usual_0_ok (56, .ireturn, 1) (List.mem_of_getElem? (i := 9) rfl)) ?_
    refine hq v16 ?_
    unfold us_v
    first | omega | (split <;> first | omega | (split <;> first | omega | (split <;> omega)))
  · refine w_tabIn (tgt := 53) (tX11_usual_0_ok (1, .tableswitch 54 1 8 #[47, 54, 47, 47, 50, 54, 54, 52], 47) (List.mem_of_getElem? (i := 1) rfl)) b1 (by decide) (by decide) rfl rfl ?_
    refine w_iconst (by decide) (tX11_usual_0_ok (53, .iconst (-1), 1) (List.mem_of_getElem? (i := 6) rfl)) (fun v18 e19 => ?_)
    refine w_iret rfl (tX11_usual_0_ok (54, .ireturn, 1) (List.mem_of_getElem? (i := 7) rfl)) ?_
    refine hq v18 ?_
    unfold us_v
    first | omega | (split <;> first | omega | (split <;> first | omega | (split <;> omega)))
/-- the reference with its rows of ROPES -/
def rr (cA : Nat → ClassId) (h : ch_H) (m : Nat) (fs : List Value) (tx n le ro : Nat) (g f R : Nat → Int32) (bg en at0 fl0 dp : Int32) : Prop := rl cA h m fs tx n le g f bg en at0 fl0 dp ∧ fs[19]? = some (.ref ro) ∧ ro ≠ m ∧ m ≠ ro ∧ ro ≠ tx ∧ tx ≠ ro ∧ le ≠ ro ∧ ro ≠ le ∧ h ro = some (.inl (cA 0, 108, .inl R)) ∧ TD R
theorem w_max {lv : List (Nat × Value)} {M : ch_M} {pc : Nat} {x y : Int32} (hM : M.1.cls = RX11) (hf : 1 ≤ fr) (hl : 30 ≤ lo) (hd : decode M.2.1 pc = .ok (.invokestatic 211, 3)) (k : ∀ v : Int32, v.toInt = (if x.toInt ≤ y.toInt then y.toInt else x.toInt) → ww l D tys A X fr lo M Q (pc + 3) lv [.int v] h) : ww l D tys A X fr lo M Q pc lv [.int y, .int x] h := by
  have hw : Cond.methodLink M.1.cls 211 Lib.Math.max.name ∈ wsA := by rw [hM]; exact cllw_X11 (211, 10, 0) (List.mem_of_getElem? (i := 13) rfl)
  refine tt_mmax hw pg_max.1 pg_math pg_max.2 hf (by show 13 ≤ lo; omega) (Nat.le_refl _) (Nat.le_refl _) hd (k _ ?_)
  by_cases c : x < y
  · have := (kn_lt _ _).mp c
    rw [if_pos c, if_pos (by omega)]
  · have : ¬ x.toInt < y.toInt := fun q => c ((kn_lt _ _).mpr q)
    rw [if_neg c]
    split <;> omega
theorem r_leastOf (hT : k_tys tys cA) {row w : Int32} {ww9 : Nat} (hw : w.toInt = (ww9 : Int) ∧ ww9 < 9) (hrow : 0 ≤ row.toInt ∧ row.toInt ≤ 99) (hr1 : 1 ≤ fr) (hr2 : 30 ≤ lo) (c_m : h m = some (.inr (10, fs))) (fL19 : fs[19]? = some (.ref ro)) (c_ro : h ro = some (.inl (cA 0, 108, .inl R))) (hq : ∀ v : Int32, v.toInt = lo_w ww9 (R (row.toInt.toNat + 2)).toInt → Q (some (.int v)) h) : ww l D tys A X fr lo mX11_leastOf Q 0 [(0, .ref m), (1, .int row), (2, .int w)] [] h := by
  refine w_iload_n (List.Mem.tail _ (List.Mem.tail _ (List.Mem.head _))) (tX11_leastOf_0_ok (0, .iload_n 2, 1) (List.mem_of_getElem? (i := 0) rfl)) ?_
  refine w_iconst (by decide) (tX11_leastOf_0_ok (1, .iconst 1, 1) (List.mem_of_getElem? (i := 1) rfl)) (fun v1 e2 => ?_)
  refine w_icmp_ne (tgt := 20) (tX11_leastOf_0_ok (2, .if_icmp .ne 18, 3) (List.mem_of_getElem? (i := 2) rfl)) rfl (fun b3 => ?_) (fun b3 => ?_)
  · refine w_iload_n (List.Mem.tail _ (List.Mem.tail _ (List.Mem.head _))) (tX11_leastOf_0_ok (20, .iload_n 2, 1) (List.mem_of_getElem? (i := 12) rfl)) ?_
    refine w_iconst (by decide) (tX11_leastOf_0_ok (21, .iconst 3, 1) (List.mem_of_getElem? (i := 13) rfl)) (fun v4 e5 => ?_)
    refine w_icmp_eq (tgt := 30) (tX11_leastOf_0_ok (22, .if_icmp .eq 8, 3) (List.mem_of_getElem? (i := 14) rfl)) rfl (fun b6 => ?_) (fun b6 => ?_)
    · refine w_iconst (by decide) (tX11_leastOf_0_ok (30, .iconst 1, 1) (List.mem_of_getElem? (i := 18) rfl)) (fun v7 e8 => ?_)
      refine w_goto (tgt := 35) (tX11_leastOf_0_ok (31, .goto 4, 3) (List.mem_of_getElem? (i := 19) rfl)) rfl ?_
      refine w_iret rfl (tX11_leastOf_0_ok (35, .ireturn, 1) (List.mem_of_getElem? (i := 21) rfl)) ?_
      refine hq v7 ?_
      unfold lo_w
      first | omega | (split <;> first | omega | (split <;> first | omega | (split <;> omega)))
    · refine w_iload_n (List.Mem.tail _ (List.Mem.tail _ (List.Mem.head _))) (tX11_leastOf_0_ok (25, .iload_n 2, 1) (List.mem_of_getElem? (i := 15) rfl)) ?_
      refine w_iconst (by decide) (tX11_leastOf_0_ok (26, .iconst 4, 1) (List.mem_of_getElem? (i := 16) rfl)) (fun v9 e10 => ?_)
      refine w_icmp_ne (tgt := 34) (tX11_leastOf_0_ok (27, .if_icmp .ne 7, 3) (List.mem_of_getElem? (i := 17) rfl)) rfl (fun b11 => ?_) (fun b11 => ?_)
      · refine w_iconst (by decide) (tX11_leastOf_0_ok (34, .iconst 0, 1) (List.mem_of_getElem? (i := 20) rfl)) (fun v12 e13 => ?_)
        refine w_iret rfl (tX11_leastOf_0_ok (35, .ireturn, 1) (List.mem_of_getElem? (i := 21) rfl)) ?_
        refine hq v12 ?_
        unfold lo_w
        first | omega | (split <;> first | omega | (split <;> first | omega | (split <;> omega)))
      · refine w_iconst (by decide) (tX11_leastOf_0_ok (30, .iconst 1, 1) (List.mem_of_getElem? (i := 18) rfl)) (fun v14 e15 => ?_)
        refine w_goto (tgt := 35) (tX11_leastOf_0_ok (31, .goto 4, 3) (List.mem_of_getElem? (i := 19) rfl)) rfl ?_
        refine w_iret rfl (tX11_leastOf_0_ok (35, .ireturn, 1) (List.mem_of_getElem? (i := 21) rfl)) ?_
        refine hq v14 ?_
        unfold lo_w
        first | omega | (split <;> first | omega | (split <;> first | omega | (split <;> omega)))
  · refine w_iconst (by decide) (tX11_leastOf_0_ok (5, .iconst 2, 1) (List.mem_of_getElem? (i := 3) rfl)) (fun v16 e17 => ?_)
    refine w_aload_n (List.Mem.head _) (tX11_leastOf_0_ok (6, .aload_n 0, 1) (List.mem_of_getElem? (i := 4) rfl)) ?_
    refine w_get (own := 16) rfl rfl (by decide) c_m fL19 (tX11_leastOf_0_ok (7, .getfield 42, 3) (List.mem_of_getElem? (i := 5) rfl)) ?_
    refine w_iload_n (List.Mem.tail _ (List.Mem.head _)) (tX11_leastOf_0_ok (10, .iload_n 1, 1) (List.mem_of_getElem? (i := 6) rfl)) ?_
    refine w_iconst (by decide) (tX11_leastOf_0_ok (11, .iconst 2, 1) (List.mem_of_getElem? (i := 7) rfl)) (fun v18 e19 => ?_)
    refine w_iadd (by omega) (by omega) (tX11_leastOf_0_ok (12, .iadd, 1) (List.mem_of_getElem? (i := 8) rfl)) (fun v20 e21 => ?_)
    refine w_iald hT c_ro (by omega) (by omega) (tX11_leastOf_0_ok (13, .iaload, 1) (List.mem_of_getElem? (i := 9) rfl)) (fun v22 e23 => ?_)
    have i24 : v20.toInt.toNat = row.toInt.toNat + 2 := by omega
    rw [i24] at e23
    refine w_max rfl hr1 (by omega) (tX11_leastOf_0_ok (14, .invokestatic 211, 3) (List.mem_of_getElem? (i := 10) rfl)) (fun v25 e26 => ?_)
    refine w_goto (tgt := 35) (tX11_leastOf_0_ok (17, .goto 18, 3) (List.mem_of_getElem? (i := 11) rfl)) rfl ?_
    refine w_iret rfl (tX11_leastOf_0_ok (35, .ireturn, 1) (List.mem_of_getElem? (i := 21) rfl)) ?_
    refine hq v25 ?_
    unfold lo_w
    first | omega | (split <;> first | omega | (split <;> first | omega | (split <;> omega)))
theorem r_mostOf (hT : k_tys tys cA) {row w p : Int32} {ww9 : Nat} (hw : w.toInt = (ww9 : Int) ∧ ww9 < 9) (hrow : 0 ≤ row.toInt ∧ row.toInt ≤ 99) (hp : 0 ≤ p.toInt ∧ p.toInt < 6) (c_m : h m = some (.inr (10, fs))) (fL19 : fs[19]? = some (.ref ro)) (c_ro : h ro = some (.inl (cA 0, 108, .inl R))) (hq : ∀ v : Int32, v.toInt = hi_w ww9 p.toInt.toNat (R (row.toInt.toNat + 1)).toInt → Q (some (.int v)) h) : ww l D tys A X fr lo mX11_mostOf Q 0 [(0, .ref m), (1, .int row), (2, .int w), (3, .int p)] [] h := by
  refine w_iload_n (List.Mem.tail _ (List.Mem.tail _ (List.Mem.head _))) (tX11_mostOf_0_ok (0, .iload_n 2, 1) (List.mem_of_getElem? (i := 0) rfl)) ?_
  have b1 : (w.toInt < 0 ∨ 8 < w.toInt) ∨ w.toInt = 0 ∨ w.toInt = 1 ∨ w.toInt = 2 ∨ w.toInt = 3 ∨ w.toInt = 4 ∨ w.toInt = 5 ∨ w.toInt = 6 ∨ w.toInt = 7 ∨ w.toInt = 8 := by omega
  rcases b1 with b1 | b1 | b1 | b1 | b1 | b1 | b1 | b1 | b1 | b1
  · exfalso; omega
  · refine w_tabIn (tgt := 52) (tX11_mostOf_0_ok (1, .tableswitch 77 0 8 #[51, 53, 56, 77, 77, 77, 68, 65, 71], 51) (List.mem_of_getElem? (i := 1) rfl)) b1 (by decide) (by decide) rfl rfl ?_
    refine w_iconst (by decide) (tX11_mostOf_0_ok (52, .iconst 2, 1) (List.mem_of_getElem? (i := 2) rfl)) (fun v2 e3 => ?_)
    refine w_iret rfl (tX11_mostOf_0_ok (53, .ireturn, 1) (List.mem_of_getElem? (i := 3) rfl)) ?_
    refine hq v2 ?_
    unfold hi_w
    first | (rw [if_pos (by omega)]; omega) | (rw [if_neg (by omega)]; first | (rw [if_pos (by omega)]; omega) | (rw [if_neg (by omega)]; first | (rw [if_pos (by omega)]; omega) | (rw [if_neg (by omega)]; first | (rw [if_pos (by omega)]; omega) | (rw [if_neg (by omega)]; first | (rw [if_pos (by omega)]; omega) | (rw [if_neg (by omega)]; first | (rw [if_pos (by omega)]; omega) | (rw [if_neg (by omega)]; omega))))))
  · refine w_tabIn (tgt := 54) (tX11_mostOf_0_ok (1, .tableswitch 77 0 8 #[51, 53, 56, 77, 77, 77, 68, 65, 71], 51) (List.mem_of_getElem? (i := 1) rfl)) b1 (by decide) (by decide) rfl rfl ?_
    refine w_bipush (by decide) (tX11_mostOf_0_ok (54, .bipush 20, 2) (List.mem_of_getElem? (i := 4) rfl)) (fun v4 e5 => ?_)
    refine w_iret rfl (tX11_mostOf_0_ok (56, .ireturn, 1) (List.mem_of_getElem? (i := 5) rfl)) ?_
    refine hq v4 ?_
    unfold hi_w
    first | (rw [if_pos (by omega)]; omega) | (rw [if_neg (by omega)]; first | (rw [if_pos (by omega)]; omega) | (rw [if_neg (by omega)]; first | (rw [if_pos (by omega)]; omega) | (rw [if_neg (by omega)]; first | (rw [if_pos (by omega)]; omega) | (rw [if_neg (by omega)]; first | (rw [if_pos (by omega)]; omega) | (rw [if_neg (by omega)]; first | (rw [if_pos (by omega)]; omega) | (rw [if_neg (by omega)]; omega))))))
  · refine w_tabIn (tgt := 57) (tX11_mostOf_0_ok (1, .tableswitch 77 0 8 #[51, 53, 56, 77, 77, 77, 68, 65, 71], 51) (List.mem_of_getElem? (i := 1) rfl)) b1 (by decide) (by decide) rfl rfl ?_
    refine w_aload_n (List.Mem.head _) (tX11_mostOf_0_ok (57, .aload_n 0, 1) (List.mem_of_getElem? (i := 6) rfl)) ?_
    refine w_get (own := 16) rfl rfl (by decide) c_m fL19 (tX11_mostOf_0_ok (58, .getfield 42, 3) (List.mem_of_getElem? (i := 7) rfl)) ?_
    refine w_iload_n (List.Mem.tail _ (List.Mem.head _)) (tX11_mostOf_0_ok (61, .iload_n 1, 1) (List.mem_of_getElem? (i := 8) rfl)) ?_
    refine w_iconst (by decide) (tX11_mostOf_0_ok (62, .iconst 1, 1) (List.mem_of_getElem? (i := 9) rfl)) (fun v6 e7 => ?_)
    refine w_iadd (by omega) (by omega) (tX11_mostOf_0_ok (63, .iadd, 1) (List.mem_of_getElem? (i := 10) rfl)) (fun v8 e9 => ?_)
    refine w_iald hT c_ro (by omega) (by omega) (tX11_mostOf_0_ok (64, .iaload, 1) (List.mem_of_getElem? (i := 11) rfl)) (fun v10 e11 => ?_)
    have i12 : v8.toInt.toNat = row.toInt.toNat + 1 := by omega
    rw [i12] at e11
    refine w_iret rfl (tX11_mostOf_0_ok (65, .ireturn, 1) (List.mem_of_getElem? (i := 12) rfl)) ?_
    refine hq v10 ?_
    unfold hi_w
    first | (rw [if_pos (by omega)]; omega) | (rw [if_neg (by omega)]; first | (rw [if_pos (by omega)]; omega) | (rw [if_neg (by omega)]; first | (rw [if_pos (by omega)]; omega) | (rw [if_neg (by omega)]; first | (rw [if_pos (by omega)]; omega) | (rw [if_neg (by omega)]; first | (rw [if_pos (by omega)]; omega) | (rw [if_neg (by omega)]; first | (rw [if_pos (by omega)]; omega) | (rw [if_neg (by omega)]; omega))))))
  · refine w_tabIn (tgt := 78) (tX11_mostOf_0_ok (1, .tableswitch 77 0 8 #[51, 53, 56, 77, 77, 77, 68, 65, 71], 51) (List.mem_of_getElem? (i := 1) rfl)) b1 (by decide) (by decide) rfl rfl ?_
    refine w_bipush (by decide) (tX11_mostOf_0_ok (78, .bipush 99, 2) (List.mem_of_getElem? (i := 23) rfl)) (fun v13 e14 => ?_)
    refine w_iret rfl (tX11_mostOf_0_ok (80, .ireturn, 1) (List.mem_of_getElem? (i := 24) rfl)) ?_
    refine hq v13 ?_
    unfold hi_w
    first | (rw [if_pos (by omega)]; omega) | (rw [if_neg (by omega)]; first | (rw [if_pos (by omega)]; omega) | (rw [if_neg (by omega)]; first | (rw [if_pos (by omega)]; omega) | (rw [if_neg (by omega)]; first | (rw [if_pos (by omega)]; omega) | (rw [if_neg (by omega)]; first | (rw [if_pos (by omega)]; omega) | (rw [if_neg (by omega)]; first | (rw [if_pos (by omega)]; omega) | (rw [if_neg (by omega)]; omega))))))
  · refine w_tabIn (tgt := 78) (tX11_mostOf_0_ok (1, .tableswitch 77 0 8 #[51, 53, 56, 77, 77, 77, 68, 65, 71], 51) (List.mem_of_getElem? (i := 1) rfl)) b1 (by decide) (by decide) rfl rfl ?_
    refine w_bipush (by decide) (tX11_mostOf_0_ok (78, .bipush 99, 2) (List.mem_of_getElem? (i := 23) rfl)) (fun v15 e16 => ?_)
    refine w_iret rfl (tX11_mostOf_0_ok (80, .ireturn, 1) (List.mem_of_getElem? (i := 24) rfl)) ?_
    refine hq v15 ?_
    unfold hi_w
    first | (rw [if_pos (by omega)]; omega) | (rw [if_neg (by omega)]; first | (rw [if_pos (by omega)]; omega) | (rw [if_neg (by omega)]; first | (rw [if_pos (by omega)]; omega) | (rw [if_neg (by omega)]; first | (rw [if_pos (by omega)]; omega) | (rw [if_neg (by omega)]; first | (rw [if_pos (by omega)]; omega) | (rw [if_neg (by omega)]; first | (rw [if_pos (by omega)]; omega) | (rw [if_neg (by omega)]; omega))))))
  · refine w_tabIn (tgt := 78) (tX11_mostOf_0_ok (1, .tableswitch 77 0 8 #[51, 53, 56, 77, 77, 77, 68, 65, 71], 51) (List.mem_of_getElem? (i := 1) rfl)) b1 (by decide) (by decide) rfl rfl ?_
    refine w_bipush (by decide) (tX11_mostOf_0_ok (78, .bipush 99, 2) (List.mem_of_getElem? (i := 23) rfl)) (fun v17 e18 => ?_)
    refine w_iret rfl (tX11_mostOf_0_ok (80, .ireturn, 1) (List.mem_of_getElem? (i := 24) rfl)) ?_
    refine hq v17 ?_
    unfold hi_w
    first | (rw [if_pos (by omega)]; omega) | (rw [if_neg (by omega)]; first | (rw [if_pos (by omega)]; omega) | (rw [if_neg (by omega)]; first | (rw [if_pos (by omega)]; omega) | (rw [if_neg (by omega)]; first | (rw [if_pos (by omega)]; omega) | (rw [if_neg (by omega)]; first | (rw [if_pos (by omega)]; omega) | (rw [if_neg (by omega)]; first | (rw [if_pos (by omega)]; omega) | (rw [if_neg (by omega)]; omega))))))
  · refine w_tabIn (tgt := 69) (tX11_mostOf_0_ok (1, .tableswitch 77 0 8 #[51, 53, 56, 77, 77, 77, 68, 65, 71], 51) (List.mem_of_getElem? (i := 1) rfl)) b1 (by decide) (by decide) rfl rfl ?_
    refine w_bipush (by decide) (tX11_mostOf_0_ok (69, .bipush 100, 2) (List.mem_of_getElem? (i := 15) rfl)) (fun v19 e20 => ?_)
    refine w_iret rfl (tX11_mostOf_0_ok (71, .ireturn, 1) (List.mem_of_getElem? (i := 16) rfl)) ?_
    refine hq v19 ?_
    unfold hi_w
    first | (rw [if_pos (by omega)]; omega) | (rw [if_neg (by omega)]; first | (rw [if_pos (by omega)]; omega) | (rw [if_neg (by omega)]; first | (rw [if_pos (by omega)]; omega) | (rw [if_neg (by omega)]; first | (rw [if_pos (by omega)]; omega) | (rw [if_neg (by omega)]; first | (rw [if_pos (by omega)]; omega) | (rw [if_neg (by omega)]; first | (rw [if_pos (by omega)]; omega) | (rw [if_neg (by omega)]; omega))))))
  · refine w_tabIn (tgt := 66) (tX11_mostOf_0_ok (1, .tableswitch 77 0 8 #[51, 53, 56, 77, 77, 77, 68, 65, 71], 51) (List.mem_of_getElem? (i := 1) rfl)) b1 (by decide) (by decide) rfl rfl ?_
    refine w_bipush (by decide) (tX11_mostOf_0_ok (66, .bipush 9, 2) (List.mem_of_getElem? (i := 13) rfl)) (fun v21 e22 => ?_)
    refine w_iret rfl (tX11_mostOf_0_ok (68, .ireturn, 1) (List.mem_of_getElem? (i := 14) rfl)) ?_
    refine hq v21 ?_
    unfold hi_w
    first | (rw [if_pos (by omega)]; omega) | (rw [if_neg (by omega)]; first | (rw [if_pos (by omega)]; omega) | (rw [if_neg (by omega)]; first | (rw [if_pos (by omega)]; omega) | (rw [if_neg (by omega)]; first | (rw [if_pos (by omega)]; omega) | (rw [if_neg (by omega)]; first | (rw [if_pos (by omega)]; omega) | (rw [if_neg (by omega)]; first | (rw [if_pos (by omega)]; omega) | (rw [if_neg (by omega)]; omega))))))
  · refine w_tabIn (tgt := 72) (tX11_mostOf_0_ok (1, .tableswitch 77 0 8 #[51, 53, 56, 77, 77, 77, 68, 65, 71], 51) (List.mem_of_getElem? (i := 1) rfl)) b1 (by decide) (by decide) rfl rfl ?_
    refine w_iconst (by decide) (tX11_mostOf_0_ok (72, .iconst 2, 1) (List.mem_of_getElem? (i := 17) rfl)) (fun v23 e24 => ?_)
    refine w_iload_n (List.Mem.tail _ (List.Mem.tail _ (List.Mem.tail _ (List.Mem.head _)))) (tX11_mostOf_0_ok (73, .iload_n 3, 1) (List.mem_of_getElem? (i := 18) rfl)) ?_
    refine w_imul (by assumption) (by omega) (by omega) (tX11_mostOf_0_ok (74, .imul, 1) (List.mem_of_getElem? (i := 19) rfl)) (fun v25 e26 => ?_)
    refine w_iconst (by decide) (tX11_mostOf_0_ok (75, .iconst 1, 1) (List.mem_of_getElem? (i := 20) rfl)) (fun v27 e28 => ?_)
    refine w_isub (by omega) (by omega) (tX11_mostOf_0_ok (76, .isub, 1) (List.mem_of_getElem? (i := 21) rfl)) (fun v29 e30 => ?_)
    refine w_iret rfl (tX11_mostOf_0_ok (77, .ireturn, 1) (List.mem_of_getElem? (i := 22) rfl)) ?_
    refine hq v29 ?_
    unfold hi_w
    first | (rw [if_pos (by omega)]; omega) | (rw [if_neg (by omega)]; first | (rw [if_pos (by omega)]; omega) | (rw [if_neg (by omega)]; first | (rw [if_pos (by omega)]; omega) | (rw [if_neg (by omega)]; first | (rw [if_pos (by omega)]; omega) | (rw [if_neg (by omega)]; first | (rw [if_pos (by omega)]; omega) | (rw [if_neg (by omega)]; first | (rw [if_pos (by omega)]; omega) | (rw [if_neg (by omega)]; omega))))))
theorem w_irem2 {M : ch_M} {pc : Nat} {lv : List (Nat × Value)} {st : List Value} {x y : Int32} (hy : y.toInt = 2) (hx : 0 ≤ x.toInt ∧ x.toInt ≤ 20) (hd : decode M.2.1 pc = .ok (.irem, 1)) (k : ∀ v : Int32, v.toInt = x.toInt % 2 → ww l D tys A X fr lo M Q (pc + 1) lv (.int v :: st) h) : ww l D tys A X fr lo M Q pc lv (.int y :: .int x :: st) h := by
  have hy2 : y = 2 := (kn_eq _ _).mpr (by rw [hy]; rfl)
  subst hy2
  refine tt_irem (by decide) hd (k _ ?_)
  have h1 := irem2 x.toInt.toNat (by omega)
  rw [← kn_nat (x := x) (n := x.toInt.toNat) (by omega)] at h1
  rw [h1]
  omega
theorem r_usL (hT : k_tys tys cA) {p row : Int32} (hp : 0 ≤ p.toInt ∧ p.toInt < 6) (hrow : row.toInt = 54 + 9 * p.toInt) (hf : 1 ≤ fr) (hl : 30 ≤ lo) : ∀ (j : Nat) (k : Int32) (h : ch_H) (R : Nat → Int32), 0 ≤ k.toInt → k.toInt + j = 9 → (∀ z, z < k.toInt.toNat → (R (row.toInt.toNat + z)).toInt = us_v z) → rr cA h m fs tx n le ro g f R bg en at0 fl0 dp → (∀ (h1 : ch_H) (R1 : Nat → Int32) (k1 : Int32), rr cA h1 m fs tx n le ro g f R1 bg en at0 fl0 dp → (∀ z, z < 9 → (R1 (row.toInt.toNat + z)).toInt = us_v z) → (∀ i, i < row.toInt.toNat → R1 i = R i) → (∀ q, q ≠ ro → h1 q = h q) → ww l D tys A X fr lo mX11_readRope Q 34 [(3, .int k1), (2, .int row), (1, .int p), (0, .ref m)] [] h1) → ww l D tys A X fr lo mX11_readRope Q 10 [(3, .int k), (2, .int row), (1, .int p), (0, .ref m)] [] h := by
  intro j
  induction j using Nat.strongRecOn with
  | ind j ih =>
    intro k h R hk hj hz0 H hq
    obtain ⟨H, fL19, n_ro_m, n_m_ro, n_ro_tx, n_tx_ro, n_le_ro, n_ro_le, c_ro, hTD⟩ := H
    have hr1 : 1 ≤ fr := by omega
    have hr2 : 30 ≤ lo := by omega
    obtain ⟨⟨⟨c_m, fl, f5, f8, f9, f10, f11⟩, f12, n_tx_m, c_x, hs, hb, ha⟩, f4, n_le_m, gl, c_le⟩ := H
    have n_m_tx := n_tx_m.symm
    have n_m_le := n_le_m.symm
    refine w_iload_n (List.Mem.head _) (tX11_readRope_0_ok (10, .iload_n 3, 1) (List.mem_of_getElem? (i := 8) rfl)) ?_
    refine w_bipush (by decide) (tX11_readRope_0_ok (11, .bipush 9, 2) (List.mem_of_getElem? (i := 9) rfl)) (fun v1 e2 => ?_)
    refine w_icmp_ge (tgt := 34) (tX11_readRope_0_ok (13, .if_icmp .ge 21, 3) (List.mem_of_getElem? (i := 10) rfl)) rfl (fun b3 => ?_) (fun b3 => ?_)
    · exact hq h R k ⟨⟨⟨⟨c_m, fl, f5, f8, f9, f10, f11⟩, f12, n_tx_m, c_x, hs, hb, ha.1, ha.2⟩, f4, n_le_m, _, c_le⟩, fL19, n_ro_m, n_m_ro, n_ro_tx, n_tx_ro, n_le_ro, n_ro_le, c_ro, hTD⟩ (fun z hz => hz0 z (by omega)) (fun _ _ => rfl) (fun _ _ => rfl)
    · refine w_aload_n (List.Mem.tail _ (List.Mem.tail _ (List.Mem.tail _ (List.Mem.head _)))) (tX11_readRope_0_ok (16, .aload_n 0, 1) (List.mem_of_getElem? (i := 11) rfl)) ?_
      refine w_get (own := 16) rfl rfl (by decide) c_m fL19 (tX11_readRope_0_ok (17, .getfield 42, 3) (List.mem_of_getElem? (i := 12) rfl)) ?_
      refine w_iload_n (List.Mem.tail _ (List.Mem.head _)) (tX11_readRope_0_ok (20, .iload_n 2, 1) (List.mem_of_getElem? (i := 13) rfl)) ?_
      refine w_iload_n (List.Mem.head _) (tX11_readRope_0_ok (21, .iload_n 3, 1) (List.mem_of_getElem? (i := 14) rfl)) ?_
      refine w_iadd (by omega) (by omega) (tX11_readRope_0_ok (22, .iadd, 1) (List.mem_of_getElem? (i := 15) rfl)) (fun v4 e5 => ?_)
      refine w_iload_n (List.Mem.head _) (tX11_readRope_0_ok (23, .iload_n 3, 1) (List.mem_of_getElem? (i := 16) rfl)) ?_
      refine w_callS (own := 16) (mi := 258) [.int k] [.int v4, .ref ro] [(0, .int k)] rfl (cllw_X11 (214, 1, 258) (List.mem_of_getElem? (i := 6) rfl)) rfl rfl hr1 (w_lo (n := 20) rfl (Nat.le_trans (Nat.le_of_ble_eq_true rfl) hr2)) (Nat.le_of_ble_eq_true rfl) (Nat.le_of_ble_eq_true rfl) rfl (tX11_readRope_0_ok (24, .invokestatic 214, 3) (List.mem_of_getElem? (i := 17) rfl)) (r_usual (by omega) (fun v6 e7 => ?_))
      show ww l D tys A X fr lo mX11_readRope Q 27 [(3, .int k), (2, .int row), (1, .int p), (0, .ref m)] [.int v6, .int v4, .ref ro] h
      refine w_iast hT c_ro (by omega) (by omega) (tX11_readRope_0_ok (27, .iastore, 1) (List.mem_of_getElem? (i := 18) rfl)) (fun h8 c9 o10 => ?_)
      have c11 := (o10 m n_m_ro).trans c_m
      have c12 := (o10 tx n_tx_ro).trans c_x
      have c13 := (o10 le n_le_ro).trans c_le
      refine w_iinc (fun v14 => [(3, .int v14), (2, .int row), (1, .int p), (0, .ref m)]) (fun _ => rfl) (List.Mem.head _) (Nat.le_of_ble_eq_true rfl) (by decide) (by omega) (by omega) (tX11_readRope_0_ok (28, .iinc 3 1, 3) (List.mem_of_getElem? (i := 19) rfl)) (fun v14 e15 => ?_)
      refine w_goto (tgt := 10) (tX11_readRope_0_ok (31, .goto (-21), 3) (List.mem_of_getElem? (i := 20) rfl)) rfl ?_
      have y1 : k.toInt.toNat < 9 := by omega
      have y0 : ((k.toInt.toNat : Nat) : Int) = k.toInt := by omega
      have y2 := us_td p.toInt.toNat (by omega) k.toInt.toNat y1
      rw [y0] at y2
      rw [← e7] at y2
      refine w_lv [(3, .int v14), (2, .int row), (1, .int p), (0, .ref m)] (by intro q hq; simp only [List.mem_cons, List.not_mem_nil, or_false] at hq ⊢; rcases hq with e | e | e | e <;> subst e <;> simp) ?_
      refine ih (j - 1) (by omega) _ _ _ (by omega) (by omega) (fun z hz => ?_) ⟨⟨⟨⟨c11, fl, f5, f8, f9, f10, f11⟩, f12, n_tx_m, c12, hs, hb, ha.1, ha.2⟩, f4, n_le_m, _, c13⟩, fL19, n_ro_m, n_m_ro, n_ro_tx, n_tx_ro, n_le_ro, n_ro_le, c9, (td_upd hTD (r := p.toInt.toNat) (w := k.toInt.toNat) (by omega) y1 (by omega) y2)⟩ (fun h1 R1 k1 p1 p2 p3 p4 => hq h1 R1 k1 p1 p2 (fun i hi => (p3 i hi).trans (upd_n R _ (by omega))) (fun q hq => (p4 q hq).trans (o10 q hq)))
      by_cases c9 : z = k.toInt.toNat
      · subst c9
        have y3 : row.toInt.toNat + k.toInt.toNat = v4.toInt.toNat := by omega
        rw [y3, upd_s, e7, y0]
      · rw [upd_n R _ (by omega)]
        exact hz0 z (by omega)
theorem r_whL (hX : ∀ s, X s → xs A aK aV s) {there more told row p : Int32} (hr : 4 ≤ fr ∧ 110 ≤ lo) : ∀ (j : Nat) (k w : Int32), 0 ≤ k.toInt → k.toInt + j = 9 → (w.toInt = -1 ∧ (∀ z, z < k.toInt.toNat → ¬ (js_c 2 z).toInt = there.toInt) ∨ ∃ z : Nat, z < k.toInt.toNat ∧ w.toInt = (z : Int) ∧ (js_c 2 z).toInt = there.toInt) → (∀ k1 w1 : Int32, whP there.toInt w1.toInt → ww l D tys A X fr lo mX11_readRope Q 99 [(7, .int k1), (6, .int w1), (5, .int there), (4, .int more), (3, .int told), (2, .int row), (1, .int p), (0, .ref m)] [] h) → ww l D tys A X fr lo mX11_readRope Q 56 [(7, .int k), (6, .int w), (5, .int there), (4, .int more), (3, .int told), (2, .int row), (1, .int p), (0, .ref m)] [] h := by
  intro j
  induction j using Nat.strongRecOn with
  | ind j ih =>
    intro k w hk hj hw hq
    refine w_iload (List.Mem.head _) (tX11_readRope_0_ok (56, .iload 7, 2) (List.mem_of_getElem? (i := 34) rfl)) ?_
    refine tt_ldcS (fun s x => (hX s x).2.2.2.2.2) (tX11_readRope_0_ok (58, .ldc 37, 2) (List.mem_of_getElem? (i := 35) rfl)) ?_
    refine w_strlen (i := 2) (by decide) hX (wA6 12 rfl rfl) (by omega) (Nat.le_of_ble_eq_true rfl) (tX11_readRope_0_ok (60, .invokevirtual 89, 3) (List.mem_of_getElem? (i := 36) rfl)) (fun v1 e2 => ?_)
    have e2b : v1.toInt = 9 := e2
    refine w_icmp_ge (tgt := 99) (tX11_readRope_0_ok (63, .if_icmp .ge 36, 3) (List.mem_of_getElem? (i := 37) rfl)) rfl (fun b3 => ?_) (fun b3 => ?_)
    · refine hq _ _ ?_
      rcases hw with ⟨q1, q2⟩ | ⟨z, q1, q2, q3⟩
      · exact Or.inl ⟨q1, fun z hz => q2 z (by omega)⟩
      · exact Or.inr ⟨z, by omega, q2, q3⟩
    · refine w_iload (List.Mem.tail _ (List.Mem.tail _ (List.Mem.head _))) (tX11_readRope_0_ok (66, .iload 5, 2) (List.mem_of_getElem? (i := 38) rfl)) ?_
      refine w_iconst (by decide) (tX11_readRope_0_ok (68, .iconst (-1), 1) (List.mem_of_getElem? (i := 39) rfl)) (fun v4 e5 => ?_)
      refine w_icmp_eq (tgt := 89) (tX11_readRope_0_ok (69, .if_icmp .eq 20, 3) (List.mem_of_getElem? (i := 40) rfl)) rfl (fun b6 => ?_) (fun b6 => ?_)
      · refine w_iload (List.Mem.tail _ (List.Mem.head _)) (tX11_readRope_0_ok (89, .iload 6, 2) (List.mem_of_getElem? (i := 48) rfl)) ?_
        refine w_istore [(6, .int w), (7, .int k), (5, .int there), (4, .int more), (3, .int told), (2, .int row), (1, .int p), (0, .ref m)] rfl (Nat.le_of_ble_eq_true rfl) (tX11_readRope_0_ok (91, .istore 6, 2) (List.mem_of_getElem? (i := 49) rfl)) ?_
        refine w_iinc (fun v7 => [(7, .int v7), (6, .int w), (5, .int there), (4, .int more), (3, .int told), (2, .int row), (1, .int p), (0, .ref m)]) (fun _ => rfl) (List.Mem.tail _ (List.Mem.head _)) (Nat.le_of_ble_eq_true rfl) (by decide) (by omega) (by omega) (tX11_readRope_0_ok (93, .iinc 7 1, 3) (List.mem_of_getElem? (i := 50) rfl)) (fun v7 e8 => ?_)
        refine w_goto (tgt := 56) (tX11_readRope_0_ok (96, .goto (-40), 3) (List.mem_of_getElem? (i := 51) rfl)) rfl ?_
        refine w_lv [(7, .int v7), (6, .int w), (5, .int there), (4, .int more), (3, .int told), (2, .int row), (1, .int p), (0, .ref m)] (by intro q hq; simp only [List.mem_cons, List.not_mem_nil, or_false] at hq ⊢; rcases hq with e | e | e | e | e | e | e | e <;> subst e <;> simp) ?_
        refine ih (j - 1) (by omega) _ _ (by omega) (by omega) ?_ hq
        rcases hw with ⟨q1, q2⟩ | ⟨z, q1, q2, q3⟩
        · refine Or.inl ⟨q1, fun z hz => ?_⟩
          by_cases z9 : z = k.toInt.toNat
          · have z8 := ltr_97 z (by omega); have z7 := (ltr_ok z (by omega)).1; omega
          · exact q2 z (by omega)
        · exact Or.inr ⟨z, by omega, q2, q3⟩
      · refine tt_ldcS (fun s x => (hX s x).2.2.2.2.2) (tX11_readRope_0_ok (72, .ldc 37, 2) (List.mem_of_getElem? (i := 41) rfl)) ?_
        refine w_iload (List.Mem.head _) (tX11_readRope_0_ok (74, .iload 7, 2) (List.mem_of_getElem? (i := 42) rfl)) ?_
        refine w_strch (i := 2) (by decide) hX (wA6 22 rfl rfl) (by omega) (Nat.le_of_ble_eq_true rfl) (by omega) (by show _ < ((9 : Nat) : Int); omega) (tX11_readRope_0_ok (76, .invokevirtual 95, 3) (List.mem_of_getElem? (i := 43) rfl)) ?_
        refine w_iload (List.Mem.tail _ (List.Mem.tail _ (List.Mem.head _))) (tX11_readRope_0_ok (79, .iload 5, 2) (List.mem_of_getElem? (i := 44) rfl)) ?_
        refine w_icmp_ne (tgt := 89) (tX11_readRope_0_ok (81, .if_icmp .ne 8, 3) (List.mem_of_getElem? (i := 45) rfl)) rfl (fun b9 => ?_) (fun b9 => ?_)
        · refine w_iload (List.Mem.tail _ (List.Mem.head _)) (tX11_readRope_0_ok (89, .iload 6, 2) (List.mem_of_getElem? (i := 48) rfl)) ?_
          refine w_istore [(6, .int w), (7, .int k), (5, .int there), (4, .int more), (3, .int told), (2, .int row), (1, .int p), (0, .ref m)] rfl (Nat.le_of_ble_eq_true rfl) (tX11_readRope_0_ok (91, .istore 6, 2) (List.mem_of_getElem? (i := 49) rfl)) ?_
          refine w_iinc (fun v10 => [(7, .int v10), (6, .int w), (5, .int there), (4, .int more), (3, .int told), (2, .int row), (1, .int p), (0, .ref m)]) (fun _ => rfl) (List.Mem.tail _ (List.Mem.head _)) (Nat.le_of_ble_eq_true rfl) (by decide) (by omega) (by omega) (tX11_readRope_0_ok (93, .iinc 7 1, 3) (List.mem_of_getElem? (i := 50) rfl)) (fun v10 e11 => ?_)
          refine w_goto (tgt := 56) (tX11_readRope_0_ok (96, .goto (-40), 3) (List.mem_of_getElem? (i := 51) rfl)) rfl ?_
          refine w_lv [(7, .int v10), (6, .int w), (5, .int there), (4, .int more), (3, .int told), (2, .int row), (1, .int p), (0, .ref m)] (by intro q hq; simp only [List.mem_cons, List.not_mem_nil, or_false] at hq ⊢; rcases hq with e | e | e | e | e | e | e | e <;> subst e <;> simp) ?_
          refine ih (j - 1) (by omega) _ _ (by omega) (by omega) ?_ hq
          rcases hw with ⟨q1, q2⟩ | ⟨z, q1, q2, q3⟩
          · refine Or.inl ⟨q1, fun z hz => ?_⟩
            by_cases z9 : z = k.toInt.toNat
            · rw [z9]; exact b9
            · exact q2 z (by omega)
          · exact Or.inr ⟨z, by omega, q2, q3⟩
        · refine w_iload (List.Mem.head _) (tX11_readRope_0_ok (84, .iload 7, 2) (List.mem_of_getElem? (i := 46) rfl)) ?_
          refine w_goto (tgt := 91) (tX11_readRope_0_ok (86, .goto 5, 3) (List.mem_of_getElem? (i := 47) rfl)) rfl ?_
          refine w_istore [(6, .int k), (7, .int k), (5, .int there), (4, .int more), (3, .int told), (2, .int row), (1, .int p), (0, .ref m)] rfl (Nat.le_of_ble_eq_true rfl) (tX11_readRope_0_ok (91, .istore 6, 2) (List.mem_of_getElem? (i := 49) rfl)) ?_
          refine w_iinc (fun v12 => [(7, .int v12), (6, .int k), (5, .int there), (4, .int more), (3, .int told), (2, .int row), (1, .int p), (0, .ref m)]) (fun _ => rfl) (List.Mem.tail _ (List.Mem.head _)) (Nat.le_of_ble_eq_true rfl) (by decide) (by omega) (by omega) (tX11_readRope_0_ok (93, .iinc 7 1, 3) (List.mem_of_getElem? (i := 50) rfl)) (fun v12 e13 => ?_)
          refine w_goto (tgt := 56) (tX11_readRope_0_ok (96, .goto (-40), 3) (List.mem_of_getElem? (i := 51) rfl)) rfl ?_
          refine w_lv [(7, .int v12), (6, .int k), (5, .int there), (4, .int more), (3, .int told), (2, .int row), (1, .int p), (0, .ref m)] (by intro q hq; simp only [List.mem_cons, List.not_mem_nil, or_false] at hq ⊢; rcases hq with e | e | e | e | e | e | e | e <;> subst e <;> simp) ?_
          refine ih (j - 1) (by omega) _ _ (by omega) (by omega) (Or.inr ⟨k.toInt.toNat, by omega, by omega, b9⟩) hq
end
