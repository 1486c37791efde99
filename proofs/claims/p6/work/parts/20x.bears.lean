/-! the reference: what a room bears -/
/-- the persons in a room, the first so many -/
def sp_ps (T Wt : Nat → Int32) (room : Nat) : Nat → Int
  | 0 => 0
  | k + 1 => sp_ps T Wt room k + (if (T (30 + k)).toInt = (room : Int) then (Wt k).toInt else 0)
/-- what hangs on a room, the first so many ROPES -/
def sp_hs (R : Nat → Int32) (B : Nat → Int) (room : Nat) : Nat → Int
  | 0 => 0
  | p + 1 => sp_hs R B room p + (if (R (9 * p + 8)).toInt = (room : Int) then B (2 * p) + B (2 * p + 1) else 0)
def sp_br (R T Wt : Nat → Int32) (n r : Nat) : Nat → Nat → Int
  | 0, _ => 0
  | d + 1, room => (R (9 * (room / 2) + (3 + room % 2))).toInt + (T (18 + room)).toInt + sp_ps T Wt room n + sp_hs R (sp_br R T Wt n r d) room r
theorem sp_ps_b {T Wt : Nat → Int32} {room : Nat} (hW : ∀ k, k < 8 → 0 ≤ (Wt k).toInt ∧ (Wt k).toInt ≤ 9) : ∀ n, n ≤ 8 → 0 ≤ sp_ps T Wt room n ∧ sp_ps T Wt room n ≤ 9 * n
  | 0, _ => ⟨Int.le_refl _, Int.le_refl _⟩
  | n + 1, h => by
    have h1 := sp_ps_b (T := T) (room := room) hW n (by omega)
    have h2 := hW n (by omega)
    rw [sp_ps]
    split <;> omega
def hs_b (i : Nat) : Nat → Int
  | 0 => 0
  | p + 1 => hs_b i p + (if i < p then 2 * (280 * 3 ^ (5 - p) : Nat) else 0)
theorem hs_b_ok : ∀ i, i < 6 → ∀ p, p ≤ 6 → hs_b i p + 280 ≤ (280 * 3 ^ (5 - i) : Nat) ∧ 0 ≤ hs_b i p := by decide +kernel
theorem sp_hs_b {R : Nat → Int32} {B : Nat → Int} {room : Nat} (hroom : room < 12) (hR : ∀ p, p < 6 → (R (9 * p + 8)).toInt ≤ 2 * (p : Int) - 1) (hB : ∀ q, q < 12 → room < q → -((280 * 3 ^ (5 - q / 2) : Nat) : Int) ≤ B q ∧ B q ≤ (280 * 3 ^ (5 - q / 2) : Nat)) : ∀ r, r ≤ 6 → -hs_b (room / 2) r ≤ sp_hs R B room r ∧ sp_hs R B room r ≤ hs_b (room / 2) r
  | 0, _ => ⟨Int.le_refl _, Int.le_refl _⟩
  | p + 1, h => by
    have h1 := sp_hs_b hroom hR hB p (by omega)
    have h5 : (0 : Int) ≤ (280 * 3 ^ (5 - p) : Nat) := Int.natCast_nonneg _
    rw [sp_hs, hs_b]
    by_cases e : (R (9 * p + 8)).toInt = (room : Int)
    · rw [if_pos e]
      have h2 := hR p (by omega)
      have h3 := hB (2 * p) (by omega) (by omega)
      have h4 := hB (2 * p + 1) (by omega) (by omega)
      have e1 : 2 * p / 2 = p := by omega
      have e2 : (2 * p + 1) / 2 = p := by omega
      rw [e1] at h3
      rw [e2] at h4
      rw [if_pos (show room / 2 < p by omega)]
      omega
    · rw [if_neg e]
      by_cases c : room / 2 < p
      · rw [if_pos c]
        omega
      · rw [if_neg c]
        omega
/-- what the rows of a TOWN keep to -/
def bo (R T Wt : Nat → Int32) (n r : Nat) : Prop := (∀ p, p < 6 → 0 ≤ (R (9 * p + 3)).toInt ∧ (R (9 * p + 3)).toInt ≤ 99 ∧ 0 ≤ (R (9 * p + 4)).toInt ∧ (R (9 * p + 4)).toInt ≤ 99 ∧ (R (9 * p + 8)).toInt ≤ 2 * (p : Int) - 1) ∧ (∀ k, k < 12 → -4 ≤ (T (18 + k)).toInt ∧ (T (18 + k)).toInt ≤ 103) ∧ (∀ k, k < 8 → 0 ≤ (Wt k).toInt ∧ (Wt k).toInt ≤ 9) ∧ n ≤ 8 ∧ r ≤ 6
theorem bo.own {R T Wt : Nat → Int32} {n r room : Nat} (h : bo R T Wt n r) (hr : room < 12) : 0 ≤ (R (9 * (room / 2) + (3 + room % 2))).toInt ∧ (R (9 * (room / 2) + (3 + room % 2))).toInt ≤ 99 := by
  have h1 := h.1 (room / 2) (by omega)
  have : room % 2 = 0 ∨ room % 2 = 1 := by omega
  rcases this with e | e <;> rw [e]
  · exact ⟨h1.1, h1.2.1⟩
  · exact ⟨h1.2.2.1, h1.2.2.2.1⟩
theorem sp_br_b {R T Wt : Nat → Int32} {n r : Nat} (h : bo R T Wt n r) : ∀ (d room : Nat), room < 12 → -((280 * 3 ^ (5 - room / 2) : Nat) : Int) ≤ sp_br R T Wt n r d room ∧ sp_br R T Wt n r d room ≤ (280 * 3 ^ (5 - room / 2) : Nat)
  | 0, room, _ => ⟨Int.neg_nonpos_of_nonneg (Int.natCast_nonneg _), Int.natCast_nonneg _⟩
  | d + 1, room, hr => by
    have h1 := h.own hr
    have h2 := h.2.1 room hr
    have h3 := sp_ps_b (T := T) (room := room) h.2.2.1 n h.2.2.2.1
    have h4 := sp_hs_b (B := sp_br R T Wt n r d) hr (fun p hp => (h.1 p hp).2.2.2.2) (fun q hq _ => sp_br_b h d q hq) r h.2.2.2.2
    have h5 := hs_b_ok (room / 2) (by omega) r h.2.2.2.2
    have h6 := h.2.2.2.1
    rw [sp_br]
    omega
section
variable {l : Launch} {D : va_G} {tys : List (ClassId × FieldType)} {A : Nat → Prop} {X : State → Prop} {fr lo : Nat} {Q : Option Value → ch_H → Prop} {h : ch_H} {cA : Nat → ClassId} {m ro to we : Nat} {fs : List Value} {R T Wt : Nat → Int32} {pe rp : Int32}
/-- the reference's rows as bears reads them -/
def br9 (cA : Nat → ClassId) (h : ch_H) (m : Nat) (fs : List Value) (ro to we : Nat) (R T Wt : Nat → Int32) (pe rp : Int32) : Prop := h m = some (.inr (10, fs)) ∧ fs[19]? = some (.ref ro) ∧ fs[20]? = some (.int rp) ∧ fs[22]? = some (.ref to) ∧ fs[28]? = some (.ref we) ∧ fs[33]? = some (.int pe) ∧ h ro = some (.inl (cA 0, 108, .inl R)) ∧ h to = some (.inl (cA 0, 39, .inl T)) ∧ h we = some (.inl (cA 0, 8, .inl Wt)) ∧ 0 ≤ pe.toInt ∧ 0 ≤ rp.toInt ∧ bo R T Wt pe.toInt.toNat rp.toInt.toNat
theorem h_of (hT : k_tys tys cA) {p w : Int32} (hp : 0 ≤ p.toInt ∧ p.toInt ≤ 5) (hw : 0 ≤ w.toInt ∧ w.toInt ≤ 8) (H : br9 cA h m fs ro to we R T Wt pe rp) (hq : ∀ v : Int32, v.toInt = (R (9 * p.toInt.toNat + w.toInt.toNat)).toInt → Q (some (.int v)) h) : ww l D tys A X fr lo mX11_of Q 0 [(0, .ref m), (1, .int p), (2, .int w)] [] h := by
  obtain ⟨c_m, fL19, fL20, fL22, fL28, fL33, c_ro, c_to, c_we, pe0, rp0, hbo⟩ := H
  have pe8 := hbo.2.2.2.1
  have rp6 := hbo.2.2.2.2
  refine w_aload_n (List.Mem.head _) (tX11_of_0_ok (0, .aload_n 0, 1) (List.mem_of_getElem? (i := 0) rfl)) ?_
  refine w_get (own := 16) rfl rfl (by decide) c_m fL19 (tX11_of_0_ok (1, .getfield 42, 3) (List.mem_of_getElem? (i := 1) rfl)) ?_
  refine w_bipush (by decide) (tX11_of_0_ok (4, .bipush 9, 2) (List.mem_of_getElem? (i := 2) rfl)) (fun v1 e2 => ?_)
  refine w_iload_n (List.Mem.tail _ (List.Mem.head _)) (tX11_of_0_ok (6, .iload_n 1, 1) (List.mem_of_getElem? (i := 3) rfl)) ?_
  refine w_imul (by assumption) (by omega) (by omega) (tX11_of_0_ok (7, .imul, 1) (List.mem_of_getElem? (i := 4) rfl)) (fun v3 e4 => ?_)
  refine w_iload_n (List.Mem.tail _ (List.Mem.tail _ (List.Mem.head _))) (tX11_of_0_ok (8, .iload_n 2, 1) (List.mem_of_getElem? (i := 5) rfl)) ?_
  refine w_iadd (by omega) (by omega) (tX11_of_0_ok (9, .iadd, 1) (List.mem_of_getElem? (i := 6) rfl)) (fun v5 e6 => ?_)
  refine w_iald hT c_ro (by omega) (by omega) (tX11_of_0_ok (10, .iaload, 1) (List.mem_of_getElem? (i := 7) rfl)) (fun v7 e8 => ?_)
  have i9 : v5.toInt.toNat = 9 * p.toInt.toNat + w.toInt.toNat := by omega
  rw [i9] at e8
  refine w_iret rfl (tX11_of_0_ok (11, .ireturn, 1) (List.mem_of_getElem? (i := 8) rfl)) ?_
  exact hq v7 (by omega)
theorem pw_b (i : Nat) : ((280 * 3 ^ (5 - i) : Nat) : Int) ≤ 68040 := by
  have : 3 ^ (5 - i) ≤ 3 ^ 5 := Nat.pow_le_pow_right (by decide) (by omega)
  have h9 : (3 : Nat) ^ 5 = 243 := rfl
  omega
theorem h_brR (hT : k_tys tys cA) {d : Nat} {room : Int32} {base : Int} (hbase : -4 ≤ base ∧ base ≤ 400) (hrm : 0 ≤ room.toInt ∧ room.toInt ≤ 11) (hd : 12 ≤ room.toInt + d + 1) (H : br9 cA h m fs ro to we R T Wt pe rp) (ihd : ∀ (fr lo : Nat) (Q : Option Value → ch_H → Prop) (room : Int32), d + 1 ≤ fr → 25 * d + 30 ≤ lo → 0 ≤ room.toInt ∧ room.toInt ≤ 11 → 12 ≤ room.toInt + d → (∀ v : Int32, v.toInt = sp_br R T Wt pe.toInt.toNat rp.toInt.toNat d room.toInt.toNat → Q (some (.int v)) h) → ww l D tys A X fr lo mX11_bears Q 0 [(0, .ref m), (1, .int room)] [] h) (hf : d + 2 ≤ fr) (hl : 25 * d + 55 ≤ lo) : ∀ (j : Nat) (p su : Int32), 0 ≤ p.toInt → p.toInt + j = rp.toInt → su.toInt = base + sp_hs R (sp_br R T Wt pe.toInt.toNat rp.toInt.toNat d) room.toInt.toNat p.toInt.toNat → (∀ v : Int32, v.toInt = base + sp_hs R (sp_br R T Wt pe.toInt.toNat rp.toInt.toNat d) room.toInt.toNat rp.toInt.toNat → Q (some (.int v)) h) → ww l D tys A X fr lo mX11_bears Q 67 [(3, .int p), (2, .int su), (0, .ref m), (1, .int room)] [] h := by
  have H9 := H
  obtain ⟨c_m, fL19, fL20, fL22, fL28, fL33, c_ro, c_to, c_we, pe0, rp0, hbo⟩ := H
  have pe8 := hbo.2.2.2.1
  have rp6 := hbo.2.2.2.2
  intro j
  induction j using Nat.strongRecOn with
  | ind j ih =>
    intro p su hp0 hj hsu hq
    refine w_iload_n (List.Mem.head _) (tX11_bears_0_ok (67, .iload_n 3, 1) (List.mem_of_getElem? (i := 45) rfl)) ?_
    refine w_aload_n (List.Mem.tail _ (List.Mem.tail _ (List.Mem.head _))) (tX11_bears_0_ok (68, .aload_n 0, 1) (List.mem_of_getElem? (i := 46) rfl)) ?_
    refine w_get (own := 16) rfl rfl (by decide) c_m fL20 (tX11_bears_0_ok (69, .getfield 248, 3) (List.mem_of_getElem? (i := 47) rfl)) ?_
    refine w_icmp_ge (tgt := 116) (tX11_bears_0_ok (72, .if_icmp .ge 44, 3) (List.mem_of_getElem? (i := 48) rfl)) rfl (fun b1 => ?_) (fun b1 => ?_)
    · refine w_iload_n (List.Mem.tail _ (List.Mem.head _)) (tX11_bears_1_ok (116, .iload_n 2, 1) (List.mem_of_getElem? (i := 15) rfl)) ?_
      refine w_iret rfl (tX11_bears_1_ok (117, .ireturn, 1) (List.mem_of_getElem? (i := 16) rfl)) ?_
      have z9 : p.toInt.toNat = rp.toInt.toNat := by omega
      rw [z9] at hsu
      exact hq su (by omega)
    · have hsb := sp_hs_b (B := sp_br R T Wt pe.toInt.toNat rp.toInt.toNat d) (room := room.toInt.toNat) (by omega) (fun q hq => (hbo.1 q hq).2.2.2.2) (fun q hq _ => sp_br_b hbo d q hq) p.toInt.toNat (by omega)
      have hsc := hs_b_ok (room.toInt.toNat / 2) (by omega) p.toInt.toNat (by omega)
      have hsd := pw_b (room.toInt.toNat / 2)
      refine w_iload_n (List.Mem.tail _ (List.Mem.head _)) (tX11_bears_0_ok (75, .iload_n 2, 1) (List.mem_of_getElem? (i := 49) rfl)) ?_
      refine w_aload_n (List.Mem.tail _ (List.Mem.tail _ (List.Mem.head _))) (tX11_bears_0_ok (76, .aload_n 0, 1) (List.mem_of_getElem? (i := 50) rfl)) ?_
      refine w_iload_n (List.Mem.head _) (tX11_bears_0_ok (77, .iload_n 3, 1) (List.mem_of_getElem? (i := 51) rfl)) ?_
      refine w_bipush (by decide) (tX11_bears_0_ok (78, .bipush 8, 2) (List.mem_of_getElem? (i := 52) rfl)) (fun v2 e3 => ?_)
      refine w_callV (own := 16) (mi := 219) [.int p, .int v2] [.int su] [(0, .ref m), (1, .int p), (2, .int v2)] rfl (cllw_X11 (255, 0, 219) (List.mem_of_getElem? (i := 34) rfl)) rfl rfl c_m rfl (by omega) (w_lo (n := 22) rfl (by omega)) (Nat.le_of_ble_eq_true rfl) (Nat.le_of_ble_eq_true rfl) rfl (tX11_bears_0_ok (80, .invokevirtual 255, 3) (List.mem_of_getElem? (i := 53) rfl)) (h_of hT (by omega) (by omega) H9 (fun v4 e5 => ?_))
      show ww l D tys A X fr lo mX11_bears Q 83 [(3, .int p), (2, .int su), (0, .ref m), (1, .int room)] [.int v4, .int su] h
      have i6 : 9 * p.toInt.toNat + v2.toInt.toNat = 9 * p.toInt.toNat + 8 := by omega
      rw [i6] at e5
      have ron := (hbo.1 p.toInt.toNat (by omega)).2.2.2.2
      refine w_iload_n (List.Mem.tail _ (List.Mem.tail _ (List.Mem.tail _ (List.Mem.head _)))) (tX11_bears_0_ok (83, .iload_n 1, 1) (List.mem_of_getElem? (i := 54) rfl)) ?_
      refine w_icmp_ne (tgt := 107) (tX11_bears_0_ok (84, .if_icmp .ne 23, 3) (List.mem_of_getElem? (i := 55) rfl)) rfl (fun b7 => ?_) (fun b7 => ?_)
      · refine w_iconst (by decide) (tX11_bears_1_ok (107, .iconst 0, 1) (List.mem_of_getElem? (i := 10) rfl)) (fun v8 e9 => ?_)
        refine w_iadd (by omega) (by omega) (tX11_bears_1_ok (108, .iadd, 1) (List.mem_of_getElem? (i := 11) rfl)) (fun v10 e11 => ?_)
        refine w_istore_n [(2, .int v10), (3, .int p), (0, .ref m), (1, .int room)] rfl (Nat.le_of_ble_eq_true rfl) (tX11_bears_1_ok (109, .istore_n 2, 1) (List.mem_of_getElem? (i := 12) rfl)) ?_
        refine w_iinc (fun v12 => [(3, .int v12), (2, .int v10), (0, .ref m), (1, .int room)]) (fun _ => rfl) (List.Mem.tail _ (List.Mem.head _)) (Nat.le_of_ble_eq_true rfl) (by decide) (by omega) (by omega) (tX11_bears_1_ok (110, .iinc 3 1, 3) (List.mem_of_getElem? (i := 13) rfl)) (fun v12 e13 => ?_)
        refine w_goto (tgt := 67) (tX11_bears_1_ok (113, .goto (-46), 3) (List.mem_of_getElem? (i := 14) rfl)) rfl ?_
        have z9 : sp_hs R (sp_br R T Wt pe.toInt.toNat rp.toInt.toNat d) room.toInt.toNat (p.toInt.toNat + 1) = sp_hs R (sp_br R T Wt pe.toInt.toNat rp.toInt.toNat d) room.toInt.toNat p.toInt.toNat + 0 := by
          rw [sp_hs, if_neg (by omega)]
        have z8 : v12.toInt.toNat = p.toInt.toNat + 1 := by omega
        refine w_lv [(3, .int v12), (2, .int v10), (0, .ref m), (1, .int room)] (by intro q hq; simp only [List.mem_cons, List.not_mem_nil, or_false] at hq ⊢; rcases hq with e | e | e | e <;> subst e <;> simp) ?_
        exact ih (j - 1) (by omega) _ _ (by omega) (by omega) (by rw [z8]; omega) hq
      · refine w_aload_n (List.Mem.tail _ (List.Mem.tail _ (List.Mem.head _))) (tX11_bears_0_ok (87, .aload_n 0, 1) (List.mem_of_getElem? (i := 56) rfl)) ?_
        refine w_iconst (by decide) (tX11_bears_0_ok (88, .iconst 2, 1) (List.mem_of_getElem? (i := 57) rfl)) (fun v14 e15 => ?_)
        refine w_iload_n (List.Mem.head _) (tX11_bears_0_ok (89, .iload_n 3, 1) (List.mem_of_getElem? (i := 58) rfl)) ?_
        refine w_imul (by assumption) (by omega) (by omega) (tX11_bears_0_ok (90, .imul, 1) (List.mem_of_getElem? (i := 59) rfl)) (fun v16 e17 => ?_)
        refine w_callV (own := 16) (mi := 163) [.int v16] [.int su] [(0, .ref m), (1, .int v16)] rfl (cllw_X11 (283, 0, 163) (List.mem_of_getElem? (i := 37) rfl)) rfl rfl c_m rfl (by omega) (w_lo (n := 23) rfl (by omega)) (Nat.le_of_ble_eq_true rfl) (Nat.le_of_ble_eq_true rfl) rfl (tX11_bears_1_ok (91, .invokevirtual 283, 3) (List.mem_of_getElem? (i := 0) rfl)) (ihd _ _ _ v16 (by omega) (w_sub (n := 23) rfl (by omega)) (by omega) (by omega) (fun v18 e19 => ?_))
        have i21 : v16.toInt.toNat = 2 * p.toInt.toNat := by omega
        rw [i21] at e19
        have u20 := sp_br_b hbo d (2 * p.toInt.toNat) (by omega)
        have u20b : ((280 * 3 ^ (5 - (2 * p.toInt.toNat) / 2) : Nat) : Int) ≤ 68040 := pw_b _
        show ww l D tys A X fr lo mX11_bears Q 94 [(3, .int p), (2, .int su), (0, .ref m), (1, .int room)] [.int v18, .int su] h
        refine w_aload_n (List.Mem.tail _ (List.Mem.tail _ (List.Mem.head _))) (tX11_bears_1_ok (94, .aload_n 0, 1) (List.mem_of_getElem? (i := 1) rfl)) ?_
        refine w_iconst (by decide) (tX11_bears_1_ok (95, .iconst 2, 1) (List.mem_of_getElem? (i := 2) rfl)) (fun v22 e23 => ?_)
        refine w_iload_n (List.Mem.head _) (tX11_bears_1_ok (96, .iload_n 3, 1) (List.mem_of_getElem? (i := 3) rfl)) ?_
        refine w_imul (by assumption) (by omega) (by omega) (tX11_bears_1_ok (97, .imul, 1) (List.mem_of_getElem? (i := 4) rfl)) (fun v24 e25 => ?_)
        refine w_iconst (by decide) (tX11_bears_1_ok (98, .iconst 1, 1) (List.mem_of_getElem? (i := 5) rfl)) (fun v26 e27 => ?_)
        refine w_iadd (by omega) (by omega) (tX11_bears_1_ok (99, .iadd, 1) (List.mem_of_getElem? (i := 6) rfl)) (fun v28 e29 => ?_)
        refine w_callV (own := 16) (mi := 163) [.int v28] [.int v18, .int su] [(0, .ref m), (1, .int v28)] rfl (cllw_X11 (283, 0, 163) (List.mem_of_getElem? (i := 37) rfl)) rfl rfl c_m rfl (by omega) (w_lo (n := 23) rfl (by omega)) (Nat.le_of_ble_eq_true rfl) (Nat.le_of_ble_eq_true rfl) rfl (tX11_bears_1_ok (100, .invokevirtual 283, 3) (List.mem_of_getElem? (i := 7) rfl)) (ihd _ _ _ v28 (by omega) (w_sub (n := 23) rfl (by omega)) (by omega) (by omega) (fun v30 e31 => ?_))
        have i33 : v28.toInt.toNat = 2 * p.toInt.toNat + 1 := by omega
        rw [i33] at e31
        have u32 := sp_br_b hbo d (2 * p.toInt.toNat + 1) (by omega)
        have u32b : ((280 * 3 ^ (5 - (2 * p.toInt.toNat + 1) / 2) : Nat) : Int) ≤ 68040 := pw_b _
        show ww l D tys A X fr lo mX11_bears Q 103 [(3, .int p), (2, .int su), (0, .ref m), (1, .int room)] [.int v30, .int v18, .int su] h
        refine w_iadd (by omega) (by omega) (tX11_bears_1_ok (103, .iadd, 1) (List.mem_of_getElem? (i := 8) rfl)) (fun v34 e35 => ?_)
        refine w_goto (tgt := 108) (tX11_bears_1_ok (104, .goto 4, 3) (List.mem_of_getElem? (i := 9) rfl)) rfl ?_
        refine w_iadd (by omega) (by omega) (tX11_bears_1_ok (108, .iadd, 1) (List.mem_of_getElem? (i := 11) rfl)) (fun v36 e37 => ?_)
        refine w_istore_n [(2, .int v36), (3, .int p), (0, .ref m), (1, .int room)] rfl (Nat.le_of_ble_eq_true rfl) (tX11_bears_1_ok (109, .istore_n 2, 1) (List.mem_of_getElem? (i := 12) rfl)) ?_
        refine w_iinc (fun v38 => [(3, .int v38), (2, .int v36), (0, .ref m), (1, .int room)]) (fun _ => rfl) (List.Mem.tail _ (List.Mem.head _)) (Nat.le_of_ble_eq_true rfl) (by decide) (by omega) (by omega) (tX11_bears_1_ok (110, .iinc 3 1, 3) (List.mem_of_getElem? (i := 13) rfl)) (fun v38 e39 => ?_)
        refine w_goto (tgt := 67) (tX11_bears_1_ok (113, .goto (-46), 3) (List.mem_of_getElem? (i := 14) rfl)) rfl ?_
        have z9 : sp_hs R (sp_br R T Wt pe.toInt.toNat rp.toInt.toNat d) room.toInt.toNat (p.toInt.toNat + 1) = sp_hs R (sp_br R T Wt pe.toInt.toNat rp.toInt.toNat d) room.toInt.toNat p.toInt.toNat + (sp_br R T Wt pe.toInt.toNat rp.toInt.toNat d (2 * p.toInt.toNat) + sp_br R T Wt pe.toInt.toNat rp.toInt.toNat d (2 * p.toInt.toNat + 1)) := by
          rw [sp_hs, if_pos (by omega)]
        have z8 : v38.toInt.toNat = p.toInt.toNat + 1 := by omega
        refine w_lv [(3, .int v38), (2, .int v36), (0, .ref m), (1, .int room)] (by intro q hq; simp only [List.mem_cons, List.not_mem_nil, or_false] at hq ⊢; rcases hq with e | e | e | e <;> subst e <;> simp) ?_
        exact ih (j - 1) (by omega) _ _ (by omega) (by omega) (by rw [z8]; omega) hq
theorem h_brP (hT : k_tys tys cA) {d : Nat} {room : Int32} {base : Int} (hbase : -4 ≤ base ∧ base ≤ 202) (hrm : 0 ≤ room.toInt ∧ room.toInt ≤ 11) (hd : 12 ≤ room.toInt + d + 1) (H : br9 cA h m fs ro to we R T Wt pe rp) (ihd : ∀ (fr lo : Nat) (Q : Option Value → ch_H → Prop) (room : Int32), d + 1 ≤ fr → 25 * d + 30 ≤ lo → 0 ≤ room.toInt ∧ room.toInt ≤ 11 → 12 ≤ room.toInt + d → (∀ v : Int32, v.toInt = sp_br R T Wt pe.toInt.toNat rp.toInt.toNat d room.toInt.toNat → Q (some (.int v)) h) → ww l D tys A X fr lo mX11_bears Q 0 [(0, .ref m), (1, .int room)] [] h) (hf : d + 2 ≤ fr) (hl : 25 * d + 55 ≤ lo) : ∀ (j : Nat) (k su : Int32), 0 ≤ k.toInt → k.toInt + j = pe.toInt → su.toInt = base + sp_ps T Wt room.toInt.toNat k.toInt.toNat → (∀ v : Int32, v.toInt = base + sp_ps T Wt room.toInt.toNat pe.toInt.toNat + sp_hs R (sp_br R T Wt pe.toInt.toNat rp.toInt.toNat d) room.toInt.toNat rp.toInt.toNat → Q (some (.int v)) h) → ww l D tys A X fr lo mX11_bears Q 25 [(3, .int k), (2, .int su), (0, .ref m), (1, .int room)] [] h := by
  have H9 := H
  obtain ⟨c_m, fL19, fL20, fL22, fL28, fL33, c_ro, c_to, c_we, pe0, rp0, hbo⟩ := H
  have pe8 := hbo.2.2.2.1
  have rp6 := hbo.2.2.2.2
  intro j
  induction j using Nat.strongRecOn with
  | ind j ih =>
    intro k su hk0 hj hsu hq
    have psb := sp_ps_b (T := T) (room := room.toInt.toNat) hbo.2.2.1 k.toInt.toNat (by omega)
    refine w_iload_n (List.Mem.head _) (tX11_bears_0_ok (25, .iload_n 3, 1) (List.mem_of_getElem? (i := 20) rfl)) ?_
    refine w_aload_n (List.Mem.tail _ (List.Mem.tail _ (List.Mem.head _))) (tX11_bears_0_ok (26, .aload_n 0, 1) (List.mem_of_getElem? (i := 21) rfl)) ?_
    refine w_get (own := 16) rfl rfl (by decide) c_m fL33 (tX11_bears_0_ok (27, .getfield 261, 3) (List.mem_of_getElem? (i := 22) rfl)) ?_
    refine w_icmp_ge (tgt := 65) (tX11_bears_0_ok (30, .if_icmp .ge 35, 3) (List.mem_of_getElem? (i := 23) rfl)) rfl (fun b1 => ?_) (fun b1 => ?_)
    · refine w_iconst (by decide) (tX11_bears_0_ok (65, .iconst 0, 1) (List.mem_of_getElem? (i := 43) rfl)) (fun v2 e3 => ?_)
      refine w_istore_n [(3, .int v2), (2, .int su), (0, .ref m), (1, .int room)] rfl (Nat.le_of_ble_eq_true rfl) (tX11_bears_0_ok (66, .istore_n 3, 1) (List.mem_of_getElem? (i := 44) rfl)) ?_
      have z9 : k.toInt.toNat = pe.toInt.toNat := by omega
      rw [z9] at hsu psb
      refine w_lv [(3, .int v2), (2, .int su), (0, .ref m), (1, .int room)] (by intro q hq; simp only [List.mem_cons, List.not_mem_nil, or_false] at hq ⊢; rcases hq with e | e | e | e <;> subst e <;> simp) ?_
      refine h_brR hT (base := su.toInt) (by omega) hrm hd H9 ihd hf hl rp.toInt.toNat _ _ (by omega) (by omega) ?_ (fun v e => hq v (by rw [e]; omega))
      have z7 : v2.toInt.toNat = 0 := by omega
      rw [z7]
      show _ = su.toInt + 0
      omega
    · refine w_iload_n (List.Mem.tail _ (List.Mem.head _)) (tX11_bears_0_ok (33, .iload_n 2, 1) (List.mem_of_getElem? (i := 24) rfl)) ?_
      refine w_aload_n (List.Mem.tail _ (List.Mem.tail _ (List.Mem.head _))) (tX11_bears_0_ok (34, .aload_n 0, 1) (List.mem_of_getElem? (i := 25) rfl)) ?_
      refine w_get (own := 16) rfl rfl (by decide) c_m fL22 (tX11_bears_0_ok (35, .getfield 45, 3) (List.mem_of_getElem? (i := 26) rfl)) ?_
      refine w_bipush (by decide) (tX11_bears_0_ok (38, .bipush 30, 2) (List.mem_of_getElem? (i := 27) rfl)) (fun v4 e5 => ?_)
      refine w_iload_n (List.Mem.head _) (tX11_bears_0_ok (40, .iload_n 3, 1) (List.mem_of_getElem? (i := 28) rfl)) ?_
      refine w_iadd (by omega) (by omega) (tX11_bears_0_ok (41, .iadd, 1) (List.mem_of_getElem? (i := 29) rfl)) (fun v6 e7 => ?_)
      refine w_iald hT c_to (by omega) (by omega) (tX11_bears_0_ok (42, .iaload, 1) (List.mem_of_getElem? (i := 30) rfl)) (fun v8 e9 => ?_)
      have i10 : v6.toInt.toNat = 30 + k.toInt.toNat := by omega
      rw [i10] at e9
      refine w_iload_n (List.Mem.tail _ (List.Mem.tail _ (List.Mem.tail _ (List.Mem.head _)))) (tX11_bears_0_ok (43, .iload_n 1, 1) (List.mem_of_getElem? (i := 31) rfl)) ?_
      refine w_icmp_ne (tgt := 56) (tX11_bears_0_ok (44, .if_icmp .ne 12, 3) (List.mem_of_getElem? (i := 32) rfl)) rfl (fun b11 => ?_) (fun b11 => ?_)
      · refine w_iconst (by decide) (tX11_bears_0_ok (56, .iconst 0, 1) (List.mem_of_getElem? (i := 38) rfl)) (fun v12 e13 => ?_)
        refine w_iadd (by omega) (by omega) (tX11_bears_0_ok (57, .iadd, 1) (List.mem_of_getElem? (i := 39) rfl)) (fun v14 e15 => ?_)
        refine w_istore_n [(2, .int v14), (3, .int k), (0, .ref m), (1, .int room)] rfl (Nat.le_of_ble_eq_true rfl) (tX11_bears_0_ok (58, .istore_n 2, 1) (List.mem_of_getElem? (i := 40) rfl)) ?_
        refine w_iinc (fun v16 => [(3, .int v16), (2, .int v14), (0, .ref m), (1, .int room)]) (fun _ => rfl) (List.Mem.tail _ (List.Mem.head _)) (Nat.le_of_ble_eq_true rfl) (by decide) (by omega) (by omega) (tX11_bears_0_ok (59, .iinc 3 1, 3) (List.mem_of_getElem? (i := 41) rfl)) (fun v16 e17 => ?_)
        refine w_goto (tgt := 25) (tX11_bears_0_ok (62, .goto (-37), 3) (List.mem_of_getElem? (i := 42) rfl)) rfl ?_
        have z9 : sp_ps T Wt room.toInt.toNat (k.toInt.toNat + 1) = sp_ps T Wt room.toInt.toNat k.toInt.toNat + 0 := by
          rw [sp_ps, if_neg (by omega)]
        have z8 : v16.toInt.toNat = k.toInt.toNat + 1 := by omega
        refine w_lv [(3, .int v16), (2, .int v14), (0, .ref m), (1, .int room)] (by intro q hq; simp only [List.mem_cons, List.not_mem_nil, or_false] at hq ⊢; rcases hq with e | e | e | e <;> subst e <;> simp) ?_
        exact ih (j - 1) (by omega) _ _ (by omega) (by omega) (by rw [z8]; omega) hq
      · refine w_aload_n (List.Mem.tail _ (List.Mem.tail _ (List.Mem.head _))) (tX11_bears_0_ok (47, .aload_n 0, 1) (List.mem_of_getElem? (i := 33) rfl)) ?_
        refine w_get (own := 16) rfl rfl (by decide) c_m fL28 (tX11_bears_0_ok (48, .getfield 63, 3) (List.mem_of_getElem? (i := 34) rfl)) ?_
        refine w_iload_n (List.Mem.head _) (tX11_bears_0_ok (51, .iload_n 3, 1) (List.mem_of_getElem? (i := 35) rfl)) ?_
        refine w_iald hT c_we (by omega) (by omega) (tX11_bears_0_ok (52, .iaload, 1) (List.mem_of_getElem? (i := 36) rfl)) (fun v18 e19 => ?_)
        have wb9 := hbo.2.2.1 k.toInt.toNat (by omega)
        refine w_goto (tgt := 57) (tX11_bears_0_ok (53, .goto 4, 3) (List.mem_of_getElem? (i := 37) rfl)) rfl ?_
        refine w_iadd (by omega) (by omega) (tX11_bears_0_ok (57, .iadd, 1) (List.mem_of_getElem? (i := 39) rfl)) (fun v20 e21 => ?_)
        refine w_istore_n [(2, .int v20), (3, .int k), (0, .ref m), (1, .int room)] rfl (Nat.le_of_ble_eq_true rfl) (tX11_bears_0_ok (58, .istore_n 2, 1) (List.mem_of_getElem? (i := 40) rfl)) ?_
        refine w_iinc (fun v22 => [(3, .int v22), (2, .int v20), (0, .ref m), (1, .int room)]) (fun _ => rfl) (List.Mem.tail _ (List.Mem.head _)) (Nat.le_of_ble_eq_true rfl) (by decide) (by omega) (by omega) (tX11_bears_0_ok (59, .iinc 3 1, 3) (List.mem_of_getElem? (i := 41) rfl)) (fun v22 e23 => ?_)
        refine w_goto (tgt := 25) (tX11_bears_0_ok (62, .goto (-37), 3) (List.mem_of_getElem? (i := 42) rfl)) rfl ?_
        have z9 : sp_ps T Wt room.toInt.toNat (k.toInt.toNat + 1) = sp_ps T Wt room.toInt.toNat k.toInt.toNat + (Wt k.toInt.toNat).toInt := by
          rw [sp_ps, if_pos (by omega)]
        have z8 : v22.toInt.toNat = k.toInt.toNat + 1 := by omega
        refine w_lv [(3, .int v22), (2, .int v20), (0, .ref m), (1, .int room)] (by intro q hq; simp only [List.mem_cons, List.not_mem_nil, or_false] at hq ⊢; rcases hq with e | e | e | e <;> subst e <;> simp) ?_
        exact ih (j - 1) (by omega) _ _ (by omega) (by omega) (by rw [z8]; omega) hq
theorem h_bears (hT : k_tys tys cA) (H : br9 cA h m fs ro to we R T Wt pe rp) : ∀ (d fr lo : Nat) (Q : Option Value → ch_H → Prop) (room : Int32), d + 1 ≤ fr → 25 * d + 30 ≤ lo → 0 ≤ room.toInt ∧ room.toInt ≤ 11 → 12 ≤ room.toInt + d → (∀ v : Int32, v.toInt = sp_br R T Wt pe.toInt.toNat rp.toInt.toNat d room.toInt.toNat → Q (some (.int v)) h) → ww l D tys A X fr lo mX11_bears Q 0 [(0, .ref m), (1, .int room)] [] h := by
  have H9 := H
  obtain ⟨c_m, fL19, fL20, fL22, fL28, fL33, c_ro, c_to, c_we, pe0, rp0, hbo⟩ := H
  have pe8 := hbo.2.2.2.1
  have rp6 := hbo.2.2.2.2
  intro d
  induction d with
  | zero => intro fr lo Q room _ _ h1 h2; omega
  | succ d ihd0 =>
    intro fr lo Q room hf hl hrm hd hq
    refine w_aload_n (List.Mem.head _) (tX11_bears_0_ok (0, .aload_n 0, 1) (List.mem_of_getElem? (i := 0) rfl)) ?_
    refine w_iload_n (List.Mem.tail _ (List.Mem.head _)) (tX11_bears_0_ok (1, .iload_n 1, 1) (List.mem_of_getElem? (i := 1) rfl)) ?_
    refine w_iconst (by decide) (tX11_bears_0_ok (2, .iconst 2, 1) (List.mem_of_getElem? (i := 2) rfl)) (fun v1 e2 => ?_)
    refine w_idiv2 (by omega) (by omega) (tX11_bears_0_ok (3, .idiv, 1) (List.mem_of_getElem? (i := 3) rfl)) (fun v3 e4 => ?_)
    refine w_iconst (by decide) (tX11_bears_0_ok (4, .iconst 3, 1) (List.mem_of_getElem? (i := 4) rfl)) (fun v5 e6 => ?_)
    refine w_iload_n (List.Mem.tail _ (List.Mem.head _)) (tX11_bears_0_ok (5, .iload_n 1, 1) (List.mem_of_getElem? (i := 5) rfl)) ?_
    refine w_iconst (by decide) (tX11_bears_0_ok (6, .iconst 2, 1) (List.mem_of_getElem? (i := 6) rfl)) (fun v7 e8 => ?_)
    refine w_irem2 (by omega) (by omega) (tX11_bears_0_ok (7, .irem, 1) (List.mem_of_getElem? (i := 7) rfl)) (fun v9 e10 => ?_)
    refine w_iadd (by omega) (by omega) (tX11_bears_0_ok (8, .iadd, 1) (List.mem_of_getElem? (i := 8) rfl)) (fun v11 e12 => ?_)
    refine w_callV (own := 16) (mi := 219) [.int v3, .int v11] [] [(0, .ref m), (1, .int v3), (2, .int v11)] rfl (cllw_X11 (255, 0, 219) (List.mem_of_getElem? (i := 34) rfl)) rfl rfl c_m rfl (by omega) (w_lo (n := 22) rfl (by omega)) (Nat.le_of_ble_eq_true rfl) (Nat.le_of_ble_eq_true rfl) rfl (tX11_bears_0_ok (9, .invokevirtual 255, 3) (List.mem_of_getElem? (i := 9) rfl)) (h_of hT (by omega) (by omega) H9 (fun v13 e14 => ?_))
    show ww l D tys A X fr lo mX11_bears Q 12 [(0, .ref m), (1, .int room)] [.int v13] h
    have i15 : 9 * v3.toInt.toNat + v11.toInt.toNat = 9 * (room.toInt.toNat / 2) + (3 + room.toInt.toNat % 2) := by omega
    rw [i15] at e14
    have ow9 := hbo.own (room := room.toInt.toNat) (by omega)
    refine w_aload_n (List.Mem.head _) (tX11_bears_0_ok (12, .aload_n 0, 1) (List.mem_of_getElem? (i := 10) rfl)) ?_
    refine w_get (own := 16) rfl rfl (by decide) c_m fL22 (tX11_bears_0_ok (13, .getfield 45, 3) (List.mem_of_getElem? (i := 11) rfl)) ?_
    refine w_bipush (by decide) (tX11_bears_0_ok (16, .bipush 18, 2) (List.mem_of_getElem? (i := 12) rfl)) (fun v16 e17 => ?_)
    refine w_iload_n (List.Mem.tail _ (List.Mem.head _)) (tX11_bears_0_ok (18, .iload_n 1, 1) (List.mem_of_getElem? (i := 13) rfl)) ?_
    refine w_iadd (by omega) (by omega) (tX11_bears_0_ok (19, .iadd, 1) (List.mem_of_getElem? (i := 14) rfl)) (fun v18 e19 => ?_)
    refine w_iald hT c_to (by omega) (by omega) (tX11_bears_0_ok (20, .iaload, 1) (List.mem_of_getElem? (i := 15) rfl)) (fun v20 e21 => ?_)
    have i22 : v18.toInt.toNat = 18 + room.toInt.toNat := by omega
    rw [i22] at e21
    have wt9 := hbo.2.1 (room.toInt.toNat) (by omega)
    refine w_iadd (by omega) (by omega) (tX11_bears_0_ok (21, .iadd, 1) (List.mem_of_getElem? (i := 16) rfl)) (fun v23 e24 => ?_)
    refine w_istore_n [(2, .int v23), (0, .ref m), (1, .int room)] rfl (Nat.le_of_ble_eq_true rfl) (tX11_bears_0_ok (22, .istore_n 2, 1) (List.mem_of_getElem? (i := 17) rfl)) ?_
    refine w_iconst (by decide) (tX11_bears_0_ok (23, .iconst 0, 1) (List.mem_of_getElem? (i := 18) rfl)) (fun v25 e26 => ?_)
    refine w_istore_n [(3, .int v25), (2, .int v23), (0, .ref m), (1, .int room)] rfl (Nat.le_of_ble_eq_true rfl) (tX11_bears_0_ok (24, .istore_n 3, 1) (List.mem_of_getElem? (i := 19) rfl)) ?_
    refine w_lv [(3, .int v25), (2, .int v23), (0, .ref m), (1, .int room)] (by intro q hq; simp only [List.mem_cons, List.not_mem_nil, or_false] at hq ⊢; rcases hq with e | e | e | e <;> subst e <;> simp) ?_
    refine h_brP hT (d := d) (base := v23.toInt) (by omega) hrm (by omega) H9 ihd0 (by omega) (by omega) pe.toInt.toNat _ _ (by omega) (by omega) ?_ (fun v e => hq v ?_)
    · have z7 : v25.toInt.toNat = 0 := by omega
      rw [z7]
      show _ = v23.toInt + 0
      omega
    · rw [e, sp_br]; omega
end
