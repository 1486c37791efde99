/-! the reference's TOGETHER: sets by what they cost -/
theorem bc_popA : ∀ a, a < 64 → ∀ b, b < 64 → (bc9 (Int32.ofNat (64 * a + b))).toInt = ((b_pop 12 (64 * a + b) : Nat) : Int) := by decide +kernel
theorem bc_pop {x : Int32} (h : 0 ≤ x.toInt ∧ x.toInt ≤ 4095) : (bc9 x).toInt = ((b_pop 12 x.toInt.toNat : Nat) : Int) := by
  have h1 := kn_nat (x := x) (n := x.toInt.toNat) (by omega)
  have h2 := bc_popA (x.toInt.toNat / 64) (by omega) (x.toInt.toNat % 64) (by omega)
  rw [show 64 * (x.toInt.toNat / 64) + x.toInt.toNat % 64 = x.toInt.toNat by omega, ← h1] at h2
  exact h2
theorem tn_of {z : Int32} (hz : 0 ≤ z.toInt) : z.toBitVec.toNat = z.toInt.toNat := by
  have h2 := z.toBitVec.isLt
  have h3 : (z.toBitVec.toNat : Int) = z.toInt := by
    rw [← Int32.toInt_toBitVec, BitVec.toInt_eq_toNat_cond] at hz ⊢
    split at hz <;> split <;> omega
  omega
theorem tn_z (z : Int32) : z.toInt = 0 ↔ z.toBitVec.toNat = 0 := by
  have h2 := z.toBitVec.isLt
  rw [← Int32.toInt_toBitVec, BitVec.toInt_eq_toNat_cond]
  split <;> omega
theorem low_z {x y u g t r : Int32} (hx : 0 ≤ x.toInt ∧ x.toInt ≤ 4095) (hy : 0 ≤ y.toInt ∧ y.toInt ≤ 4095) (eu : u = x ^^^ y) (et : t = x &&& u) (eg : g = -u) (er : r = t &&& g) : ¬ r.toInt = 0 ↔ b_low 12 x.toInt.toNat y.toInt.toNat := by
  have ha := tn_of hx.1
  have hb := tn_of hy.1
  have hu : u.toBitVec.toNat = x.toInt.toNat ^^^ y.toInt.toNat := by rw [eu, Int32.toBitVec_xor, BitVec.toNat_xor, ha, hb]
  have h12 : (2 : Nat) ^ 12 = 4096 := rfl
  have hul : x.toInt.toNat ^^^ y.toInt.toNat < 2 ^ 12 := Nat.xor_lt_two_pow (by omega) (by omega)
  have hr : r.toBitVec.toNat = x.toInt.toNat &&& (x.toInt.toNat ^^^ y.toInt.toNat) &&& g.toBitVec.toNat := by rw [er, et, Int32.toBitVec_and, Int32.toBitVec_and, BitVec.toNat_and, BitVec.toNat_and, ha, hu]
  have hg : g.toBitVec.toNat = (2 ^ 32 - (x.toInt.toNat ^^^ y.toInt.toNat)) % 2 ^ 32 := by rw [eg, Int32.toBitVec_neg, BitVec.toNat_neg, hu]
  have key := b_and_low 12 x.toInt.toNat y.toInt.toNat (by omega) (by omega)
  have hA : x.toInt.toNat &&& (x.toInt.toNat ^^^ y.toInt.toNat) < 2 ^ 12 := Nat.and_lt_two_pow _ hul
  rw [tn_z, hr, ← key]
  by_cases c : x.toInt.toNat ^^^ y.toInt.toNat = 0
  · rw [c, Nat.and_zero, Nat.zero_and, Nat.zero_and]
  · have e1 : x.toInt.toNat &&& (x.toInt.toNat ^^^ y.toInt.toNat) &&& g.toBitVec.toNat = x.toInt.toNat &&& (x.toInt.toNat ^^^ y.toInt.toNat) &&& (2 ^ 12 - (x.toInt.toNat ^^^ y.toInt.toNat)) := by
      have e2 : g.toBitVec.toNat % 2 ^ 12 = 2 ^ 12 - (x.toInt.toNat ^^^ y.toInt.toNat) := by
        rw [hg]
        omega
      have e3 : x.toInt.toNat &&& (x.toInt.toNat ^^^ y.toInt.toNat) &&& g.toBitVec.toNat < 2 ^ 12 := by
        rw [Nat.and_comm]
        exact Nat.and_lt_two_pow _ hA
      rw [← Nat.mod_eq_of_lt e3, Nat.and_mod_two_pow, e2, Nat.mod_eq_of_lt hA]
    rw [e1]
section
variable {l : Launch} {D : va_G} {tys : List (ClassId × FieldType)} {A : Nat → Prop} {X : State → Prop} {fr lo : Nat} {M : ch_M} {Q : Option Value → ch_H → Prop} {pc : Nat} {lv : List (Nat × Value)} {st : List Value} {cA : Nat → ClassId} {h : ch_H}
theorem w_xorF {x y : Int32} (hd : decode M.2.1 pc = .ok (.ixor, 1)) (k : ∀ v : Int32, v = x ^^^ y → ww l D tys A X fr lo M Q (pc + 1) lv (.int v :: st) h) : ww l D tys A X fr lo M Q pc lv (.int y :: .int x :: st) h := tt_ixor hd (k _ rfl)
theorem w_negF {x : Int32} (hd : decode M.2.1 pc = .ok (.ineg, 1)) (k : ∀ v : Int32, v = -x → ww l D tys A X fr lo M Q (pc + 1) lv (.int v :: st) h) : ww l D tys A X fr lo M Q pc lv (.int x :: st) h := tt_ineg hd (k _ rfl)
end
section
variable {l : Launch} {D : va_G} {tys : List (ClassId × FieldType)} {A : Nat → Prop} {X : State → Prop} {fr lo : Nat} {Q : Option Value → ch_H → Prop} {cA : Nat → ClassId} {h : ch_H} {ρ : aRw} {W : Nat → Int}
theorem r_beforeC {x y : Int32} (hf : 1 ≤ fr) (hl : 30 ≤ lo) (hx : 0 ≤ x.toInt ∧ x.toInt ≤ 4095) (hy : 0 ≤ y.toInt ∧ y.toInt ≤ 4095) (hq : ∀ v : Int32, 0 ≤ v.toInt → v.toInt ≤ 1 → (v.toInt = 1 ↔ b_cst x.toInt.toNat < b_cst y.toInt.toNat) → Q (some (.int v)) h) : ww l D tys A X fr lo mX11_isBefore Q 0 [(0, .int x), (1, .int y)] [] h := by
  have zx := bc_pop hx
  have zy := bc_pop hy
  refine w_iload_n (List.Mem.head _) (tX11_isBefore_0_ok (0, .iload_n 0, 1) (List.mem_of_getElem? (i := 0) rfl)) ?_
  refine w_callS (own := 16) (mi := 11) [.int x] [] [(0, .int x)] rfl (cllw_X11 (353, 1, 11) (List.mem_of_getElem? (i := 62) rfl)) rfl rfl (by omega) (w_lo (n := 20) rfl (by omega)) (Nat.le_of_ble_eq_true rfl) (Nat.le_of_ble_eq_true rfl) rfl (tX11_isBefore_0_ok (1, .invokestatic 353, 3) (List.mem_of_getElem? (i := 1) rfl)) (r_bitCount ?_)
  show ww l D tys A X fr lo mX11_isBefore Q 4 [(0, .int x), (1, .int y)] [.int (bc9 x)] h
  refine w_istore_n [(2, .int (bc9 x)), (0, .int x), (1, .int y)] rfl (Nat.le_of_ble_eq_true rfl) (tX11_isBefore_0_ok (4, .istore_n 2, 1) (List.mem_of_getElem? (i := 2) rfl)) ?_
  refine w_iload_n (List.Mem.tail _ (List.Mem.tail _ (List.Mem.head _))) (tX11_isBefore_0_ok (5, .iload_n 1, 1) (List.mem_of_getElem? (i := 3) rfl)) ?_
  refine w_callS (own := 16) (mi := 11) [.int y] [] [(0, .int y)] rfl (cllw_X11 (353, 1, 11) (List.mem_of_getElem? (i := 62) rfl)) rfl rfl (by omega) (w_lo (n := 20) rfl (by omega)) (Nat.le_of_ble_eq_true rfl) (Nat.le_of_ble_eq_true rfl) rfl (tX11_isBefore_0_ok (6, .invokestatic 353, 3) (List.mem_of_getElem? (i := 4) rfl)) (r_bitCount ?_)
  show ww l D tys A X fr lo mX11_isBefore Q 9 [(2, .int (bc9 x)), (0, .int x), (1, .int y)] [.int (bc9 y)] h
  refine w_istore_n [(3, .int (bc9 y)), (2, .int (bc9 x)), (0, .int x), (1, .int y)] rfl (Nat.le_of_ble_eq_true rfl) (tX11_isBefore_0_ok (9, .istore_n 3, 1) (List.mem_of_getElem? (i := 5) rfl)) ?_
  refine w_iload_n (List.Mem.tail _ (List.Mem.tail _ (List.Mem.head _))) (tX11_isBefore_0_ok (10, .iload_n 0, 1) (List.mem_of_getElem? (i := 6) rfl)) ?_
  refine w_iload_n (List.Mem.tail _ (List.Mem.tail _ (List.Mem.tail _ (List.Mem.head _)))) (tX11_isBefore_0_ok (11, .iload_n 1, 1) (List.mem_of_getElem? (i := 7) rfl)) ?_
  refine w_xorF (tX11_isBefore_0_ok (12, .ixor, 1) (List.mem_of_getElem? (i := 8) rfl)) (fun zv1 ze2 => ?_)
  refine w_istore [(4, .int zv1), (3, .int (bc9 y)), (2, .int (bc9 x)), (0, .int x), (1, .int y)] rfl (Nat.le_of_ble_eq_true rfl) (tX11_isBefore_0_ok (13, .istore 4, 2) (List.mem_of_getElem? (i := 9) rfl)) ?_
  refine w_iload_n (List.Mem.tail _ (List.Mem.tail _ (List.Mem.head _))) (tX11_isBefore_0_ok (15, .iload_n 2, 1) (List.mem_of_getElem? (i := 10) rfl)) ?_
  refine w_iload_n (List.Mem.tail _ (List.Mem.head _)) (tX11_isBefore_0_ok (16, .iload_n 3, 1) (List.mem_of_getElem? (i := 11) rfl)) ?_
  refine w_icmp_eq (tgt := 33) (tX11_isBefore_0_ok (17, .if_icmp .eq 16, 3) (List.mem_of_getElem? (i := 12) rfl)) rfl (fun zb3 => ?_) (fun zb3 => ?_)
  · refine w_iload_n (List.Mem.tail _ (List.Mem.tail _ (List.Mem.tail _ (List.Mem.head _)))) (tX11_isBefore_0_ok (33, .iload_n 0, 1) (List.mem_of_getElem? (i := 20) rfl)) ?_
    refine w_iload (List.Mem.head _) (tX11_isBefore_0_ok (34, .iload 4, 2) (List.mem_of_getElem? (i := 21) rfl)) ?_
    refine w_iand (tX11_isBefore_0_ok (36, .iand, 1) (List.mem_of_getElem? (i := 22) rfl)) (fun zv4 ze5 => ?_)
    refine w_iload (List.Mem.head _) (tX11_isBefore_0_ok (37, .iload 4, 2) (List.mem_of_getElem? (i := 23) rfl)) ?_
    refine w_negF (tX11_isBefore_0_ok (39, .ineg, 1) (List.mem_of_getElem? (i := 24) rfl)) (fun zv6 ze7 => ?_)
    refine w_iand (tX11_isBefore_0_ok (40, .iand, 1) (List.mem_of_getElem? (i := 25) rfl)) (fun zv8 ze9 => ?_)
    refine w_if_eq (tgt := 48) (tX11_isBefore_0_ok (41, .ifCond .eq 7, 3) (List.mem_of_getElem? (i := 26) rfl)) rfl (fun zb10 => ?_) (fun zb10 => ?_)
    · refine w_iconst (by decide) (tX11_isBefore_0_ok (48, .iconst 0, 1) (List.mem_of_getElem? (i := 29) rfl)) (fun zv11 ze12 => ?_)
      refine w_zret rfl (by omega) (by omega) (tX11_isBefore_0_ok (49, .ireturn, 1) (List.mem_of_getElem? (i := 30) rfl)) ?_
      refine hq _ (by omega) (by omega) ?_
      rw [b_cst_lt]
      have lz := low_z hx hy ze2 ze5 ze7 ze9
      constructor
      · intro z
        omega
      · rintro (z | z)
        · omega
        · exact absurd (lz.mpr z.2) (by omega)
    · refine w_iconst (by decide) (tX11_isBefore_0_ok (44, .iconst 1, 1) (List.mem_of_getElem? (i := 27) rfl)) (fun zv13 ze14 => ?_)
      refine w_goto (tgt := 49) (tX11_isBefore_0_ok (45, .goto 4, 3) (List.mem_of_getElem? (i := 28) rfl)) rfl ?_
      refine w_zret rfl (by omega) (by omega) (tX11_isBefore_0_ok (49, .ireturn, 1) (List.mem_of_getElem? (i := 30) rfl)) ?_
      refine hq _ (by omega) (by omega) ?_
      rw [b_cst_lt]
      have lz := low_z hx hy ze2 ze5 ze7 ze9
      constructor
      · intro _
        exact Or.inr ⟨by omega, lz.mp (by omega)⟩
      · intro _
        omega
  · refine w_iload_n (List.Mem.tail _ (List.Mem.tail _ (List.Mem.head _))) (tX11_isBefore_0_ok (20, .iload_n 2, 1) (List.mem_of_getElem? (i := 13) rfl)) ?_
    refine w_iload_n (List.Mem.tail _ (List.Mem.head _)) (tX11_isBefore_0_ok (21, .iload_n 3, 1) (List.mem_of_getElem? (i := 14) rfl)) ?_
    refine w_icmp_ge (tgt := 29) (tX11_isBefore_0_ok (22, .if_icmp .ge 7, 3) (List.mem_of_getElem? (i := 15) rfl)) rfl (fun zb15 => ?_) (fun zb15 => ?_)
    · refine w_iconst (by decide) (tX11_isBefore_0_ok (29, .iconst 0, 1) (List.mem_of_getElem? (i := 18) rfl)) (fun zv16 ze17 => ?_)
      refine w_goto (tgt := 49) (tX11_isBefore_0_ok (30, .goto 19, 3) (List.mem_of_getElem? (i := 19) rfl)) rfl ?_
      refine w_zret rfl (by omega) (by omega) (tX11_isBefore_0_ok (49, .ireturn, 1) (List.mem_of_getElem? (i := 30) rfl)) ?_
      refine hq _ (by omega) (by omega) ?_
      rw [b_cst_lt]
      constructor
      · intro z
        omega
      · rintro (z | z)
        · omega
        · omega
    · refine w_iconst (by decide) (tX11_isBefore_0_ok (25, .iconst 1, 1) (List.mem_of_getElem? (i := 16) rfl)) (fun zv18 ze19 => ?_)
      refine w_goto (tgt := 49) (tX11_isBefore_0_ok (26, .goto 23, 3) (List.mem_of_getElem? (i := 17) rfl)) rfl ?_
      refine w_zret rfl (by omega) (by omega) (tX11_isBefore_0_ok (49, .ireturn, 1) (List.mem_of_getElem? (i := 30) rfl)) ?_
      refine hq _ (by omega) (by omega) ?_
      rw [b_cst_lt]
      constructor
      · intro _
        exact Or.inl (by omega)
      · intro _
        omega
theorem r_offAtC (hT : k_tys tys cA) {m ro wa : Nat} {fs : List Value} {R gw : Nat → Int32} {rp : Int32} (c_m : h m = some (.inr (10, fs))) (f19 : fs[19]? = some (.ref ro)) (f20 : fs[20]? = some (.int rp)) (f26 : fs[26]? = some (.ref wa)) (c_ro : h ro = some (.inl (cA 0, 108, .inl R))) (c_wa : h wa = some (.inl (cA 0, 12, .inl gw))) (hw : ∀ r, r < 12 → (gw r).toInt = W r) (hn : 0 ≤ rp.toInt ∧ rp.toInt ≤ 6) (wf : wfR rp.toInt.toNat ρ) (hρ : ∀ q, q < rp.toInt.toNat → ∀ w, w < 9 → (R (9 * q + w)).toInt = ρ q w) {r d : Int32} (hr : 0 ≤ r.toInt ∧ r.toInt ≤ 11) (hq : ∀ v : Int32, v.toInt = ((t_one W r.toInt.toNat d.toInt : Nat) : Int) → Q (some (.int v)) h) : ww l D tys A X fr lo mX11_offAt Q 0 [(0, .ref m), (1, .int r), (2, .int d)] [] h := by
  have hw9 := hw r.toInt.toNat (by omega)
  refine w_aload_n (List.Mem.head _) (tX11_offAt_0_ok (0, .aload_n 0, 1) (List.mem_of_getElem? (i := 0) rfl)) ?_
  refine w_get (own := 16) rfl rfl (by decide) c_m f26 (tX11_offAt_0_ok (1, .getfield 57, 3) (List.mem_of_getElem? (i := 1) rfl)) ?_
  refine w_iload_n (List.Mem.tail _ (List.Mem.head _)) (tX11_offAt_0_ok (4, .iload_n 1, 1) (List.mem_of_getElem? (i := 2) rfl)) ?_
  refine w_iald hT c_wa (by omega) (by omega) (tX11_offAt_0_ok (5, .iaload, 1) (List.mem_of_getElem? (i := 3) rfl)) (fun zv1 ze2 => ?_)
  refine w_iconst (by decide) (tX11_offAt_0_ok (6, .iconst (-1), 1) (List.mem_of_getElem? (i := 4) rfl)) (fun zv3 ze4 => ?_)
  refine w_icmp_eq (tgt := 26) (tX11_offAt_0_ok (7, .if_icmp .eq 19, 3) (List.mem_of_getElem? (i := 5) rfl)) rfl (fun zb5 => ?_) (fun zb5 => ?_)
  · refine w_iconst (by decide) (tX11_offAt_0_ok (26, .iconst 0, 1) (List.mem_of_getElem? (i := 16) rfl)) (fun zv6 ze7 => ?_)
    refine w_iret rfl (tX11_offAt_0_ok (27, .ireturn, 1) (List.mem_of_getElem? (i := 17) rfl)) ?_
    refine hq _ ?_
    unfold t_one
    rw [if_pos (Or.inl (by omega))]
    omega
  · refine w_aload_n (List.Mem.head _) (tX11_offAt_0_ok (10, .aload_n 0, 1) (List.mem_of_getElem? (i := 6) rfl)) ?_
    refine w_get (own := 16) rfl rfl (by decide) c_m f26 (tX11_offAt_0_ok (11, .getfield 57, 3) (List.mem_of_getElem? (i := 7) rfl)) ?_
    refine w_iload_n (List.Mem.tail _ (List.Mem.head _)) (tX11_offAt_0_ok (14, .iload_n 1, 1) (List.mem_of_getElem? (i := 8) rfl)) ?_
    refine w_iald hT c_wa (by omega) (by omega) (tX11_offAt_0_ok (15, .iaload, 1) (List.mem_of_getElem? (i := 9) rfl)) (fun zv8 ze9 => ?_)
    refine w_iload_n (List.Mem.tail _ (List.Mem.tail _ (List.Mem.head _))) (tX11_offAt_0_ok (16, .iload_n 2, 1) (List.mem_of_getElem? (i := 10) rfl)) ?_
    refine w_icmp_eq (tgt := 26) (tX11_offAt_0_ok (17, .if_icmp .eq 9, 3) (List.mem_of_getElem? (i := 11) rfl)) rfl (fun zb10 => ?_) (fun zb10 => ?_)
    · refine w_iconst (by decide) (tX11_offAt_0_ok (26, .iconst 0, 1) (List.mem_of_getElem? (i := 16) rfl)) (fun zv11 ze12 => ?_)
      refine w_iret rfl (tX11_offAt_0_ok (27, .ireturn, 1) (List.mem_of_getElem? (i := 17) rfl)) ?_
      refine hq _ ?_
      unfold t_one
      rw [if_pos (Or.inr (by omega))]
      omega
    · refine w_iconst (by decide) (tX11_offAt_0_ok (20, .iconst 1, 1) (List.mem_of_getElem? (i := 12) rfl)) (fun zv13 ze14 => ?_)
      refine w_iload_n (List.Mem.tail _ (List.Mem.head _)) (tX11_offAt_0_ok (21, .iload_n 1, 1) (List.mem_of_getElem? (i := 13) rfl)) ?_
      refine w_ishl (tX11_offAt_0_ok (22, .ishl, 1) (List.mem_of_getElem? (i := 14) rfl)) (fun zv15 ze16 => ?_)
      have sh9 := sh2 (k := r.toInt.toNat) (by omega) (by omega) (by omega) ze16
      refine w_goto (tgt := 27) (tX11_offAt_0_ok (23, .goto 4, 3) (List.mem_of_getElem? (i := 15) rfl)) rfl ?_
      refine w_iret rfl (tX11_offAt_0_ok (27, .ireturn, 1) (List.mem_of_getElem? (i := 17) rfl)) ?_
      refine hq _ ?_
      unfold t_one
      rw [if_neg (fun z => by omega)]
      exact sh9
theorem r_placeOfC (hT : k_tys tys cA) {m ro wa : Nat} {fs : List Value} {R gw : Nat → Int32} {rp : Int32} (c_m : h m = some (.inr (10, fs))) (f19 : fs[19]? = some (.ref ro)) (f20 : fs[20]? = some (.int rp)) (f26 : fs[26]? = some (.ref wa)) (c_ro : h ro = some (.inl (cA 0, 108, .inl R))) (c_wa : h wa = some (.inl (cA 0, 12, .inl gw))) (hw : ∀ r, r < 12 → (gw r).toInt = W r) (hn : 0 ≤ rp.toInt ∧ rp.toInt ≤ 6) (wf : wfR rp.toInt.toNat ρ) (hρ : ∀ q, q < rp.toInt.toNat → ∀ w, w < 9 → (R (9 * q + w)).toInt = ρ q w) {p s x : Int32} (hf : 1 ≤ fr) (hl : 30 ≤ lo) (hp : 0 ≤ p.toInt ∧ p.toInt < rp.toInt) (hs : 0 ≤ s.toInt ∧ s.toInt ≤ 1) (hx : 0 ≤ x.toInt ∧ x.toInt ≤ ρ p.toInt.toNat 1) (hq : ∀ v : Int32, v.toInt = f_pl ρ p.toInt.toNat s.toInt.toNat x.toInt → Q (some (.int v)) h) : ww l D tys A X fr lo mX11_placeOf Q 0 [(0, .ref m), (1, .int p), (2, .int s), (3, .int x)] [] h := by
  have hl9 := (wf.2 p.toInt.toNat (by omega)).1.2.1
  refine w_iload_n (List.Mem.tail _ (List.Mem.tail _ (List.Mem.head _))) (tX11_placeOf_0_ok (0, .iload_n 2, 1) (List.mem_of_getElem? (i := 0) rfl)) ?_
  refine w_if_ne (tgt := 8) (tX11_placeOf_0_ok (1, .ifCond .ne 7, 3) (List.mem_of_getElem? (i := 1) rfl)) rfl (fun zb1 => ?_) (fun zb1 => ?_)
  · refine w_aload_n (List.Mem.head _) (tX11_placeOf_0_ok (8, .aload_n 0, 1) (List.mem_of_getElem? (i := 4) rfl)) ?_
    refine w_iload_n (List.Mem.tail _ (List.Mem.head _)) (tX11_placeOf_0_ok (9, .iload_n 1, 1) (List.mem_of_getElem? (i := 5) rfl)) ?_
    refine w_iconst (by decide) (tX11_placeOf_0_ok (10, .iconst 0, 1) (List.mem_of_getElem? (i := 6) rfl)) (fun zv2 ze3 => ?_)
    refine w_callV (own := 16) (mi := 219) [.int p, .int zv2] [] [(0, .ref m), (1, .int p), (2, .int zv2)] rfl (cllw_X11 (255, 0, 219) (List.mem_of_getElem? (i := 34) rfl)) rfl rfl c_m rfl (by omega) (w_lo (n := 22) rfl (by omega)) (Nat.le_of_ble_eq_true rfl) (Nat.le_of_ble_eq_true rfl) rfl (tX11_placeOf_0_ok (11, .invokevirtual 255, 3) (List.mem_of_getElem? (i := 7) rfl)) (h_of2 hT (by omega) (by omega) c_m f19 c_ro (fun zv4 ze5 => ?_))
    have ze5r : zv4.toInt = ρ p.toInt.toNat 0 := by rw [ze5, show 9 * p.toInt.toNat + zv2.toInt.toNat = 9 * p.toInt.toNat + 0 by omega]; exact hρ _ (by omega) 0 (by decide)
    show ww l D tys A X fr lo mX11_placeOf Q 14 [(0, .ref m), (1, .int p), (2, .int s), (3, .int x)] [.int zv4] h
    refine w_iconst (by decide) (tX11_placeOf_0_ok (14, .iconst 1, 1) (List.mem_of_getElem? (i := 8) rfl)) (fun zv6 ze7 => ?_)
    refine w_icmp_ne (tgt := 31) (tX11_placeOf_0_ok (15, .if_icmp .ne 16, 3) (List.mem_of_getElem? (i := 9) rfl)) rfl (fun zb8 => ?_) (fun zb8 => ?_)
    · refine w_aload_n (List.Mem.head _) (tX11_placeOf_0_ok (31, .aload_n 0, 1) (List.mem_of_getElem? (i := 19) rfl)) ?_
      refine w_iload_n (List.Mem.tail _ (List.Mem.head _)) (tX11_placeOf_0_ok (32, .iload_n 1, 1) (List.mem_of_getElem? (i := 20) rfl)) ?_
      refine w_iconst (by decide) (tX11_placeOf_0_ok (33, .iconst 1, 1) (List.mem_of_getElem? (i := 21) rfl)) (fun zv9 ze10 => ?_)
      refine w_callV (own := 16) (mi := 219) [.int p, .int zv9] [] [(0, .ref m), (1, .int p), (2, .int zv9)] rfl (cllw_X11 (255, 0, 219) (List.mem_of_getElem? (i := 34) rfl)) rfl rfl c_m rfl (by omega) (w_lo (n := 22) rfl (by omega)) (Nat.le_of_ble_eq_true rfl) (Nat.le_of_ble_eq_true rfl) rfl (tX11_placeOf_0_ok (34, .invokevirtual 255, 3) (List.mem_of_getElem? (i := 22) rfl)) (h_of2 hT (by omega) (by omega) c_m f19 c_ro (fun zv11 ze12 => ?_))
      have ze12r : zv11.toInt = ρ p.toInt.toNat 1 := by rw [ze12, show 9 * p.toInt.toNat + zv9.toInt.toNat = 9 * p.toInt.toNat + 1 by omega]; exact hρ _ (by omega) 1 (by decide)
      show ww l D tys A X fr lo mX11_placeOf Q 37 [(0, .ref m), (1, .int p), (2, .int s), (3, .int x)] [.int zv11] h
      refine w_iload_n (List.Mem.tail _ (List.Mem.tail _ (List.Mem.tail _ (List.Mem.head _)))) (tX11_placeOf_0_ok (37, .iload_n 3, 1) (List.mem_of_getElem? (i := 23) rfl)) ?_
      refine w_isub (by omega) (by omega) (tX11_placeOf_0_ok (38, .isub, 1) (List.mem_of_getElem? (i := 24) rfl)) (fun zv13 ze14 => ?_)
      refine w_iret rfl (tX11_placeOf_0_ok (39, .ireturn, 1) (List.mem_of_getElem? (i := 25) rfl)) ?_
      refine hq _ ?_
      unfold f_pl
      repeat (first | rw [if_pos (by omega)] | rw [if_neg (by omega)])
      all_goals omega
    · refine w_aload_n (List.Mem.head _) (tX11_placeOf_0_ok (18, .aload_n 0, 1) (List.mem_of_getElem? (i := 10) rfl)) ?_
      refine w_iload_n (List.Mem.tail _ (List.Mem.head _)) (tX11_placeOf_0_ok (19, .iload_n 1, 1) (List.mem_of_getElem? (i := 11) rfl)) ?_
      refine w_iconst (by decide) (tX11_placeOf_0_ok (20, .iconst 1, 1) (List.mem_of_getElem? (i := 12) rfl)) (fun zv15 ze16 => ?_)
      refine w_callV (own := 16) (mi := 219) [.int p, .int zv15] [] [(0, .ref m), (1, .int p), (2, .int zv15)] rfl (cllw_X11 (255, 0, 219) (List.mem_of_getElem? (i := 34) rfl)) rfl rfl c_m rfl (by omega) (w_lo (n := 22) rfl (by omega)) (Nat.le_of_ble_eq_true rfl) (Nat.le_of_ble_eq_true rfl) rfl (tX11_placeOf_0_ok (21, .invokevirtual 255, 3) (List.mem_of_getElem? (i := 13) rfl)) (h_of2 hT (by omega) (by omega) c_m f19 c_ro (fun zv17 ze18 => ?_))
      have ze18r : zv17.toInt = ρ p.toInt.toNat 1 := by rw [ze18, show 9 * p.toInt.toNat + zv15.toInt.toNat = 9 * p.toInt.toNat + 1 by omega]; exact hρ _ (by omega) 1 (by decide)
      show ww l D tys A X fr lo mX11_placeOf Q 24 [(0, .ref m), (1, .int p), (2, .int s), (3, .int x)] [.int zv17] h
      refine w_iload_n (List.Mem.tail _ (List.Mem.tail _ (List.Mem.tail _ (List.Mem.head _)))) (tX11_placeOf_0_ok (24, .iload_n 3, 1) (List.mem_of_getElem? (i := 14) rfl)) ?_
      refine w_isub (by omega) (by omega) (tX11_placeOf_0_ok (25, .isub, 1) (List.mem_of_getElem? (i := 15) rfl)) (fun zv19 ze20 => ?_)
      refine w_iconst (by decide) (tX11_placeOf_0_ok (26, .iconst 2, 1) (List.mem_of_getElem? (i := 16) rfl)) (fun zv21 ze22 => ?_)
      refine w_idiv2 (by omega) (by omega) (tX11_placeOf_0_ok (27, .idiv, 1) (List.mem_of_getElem? (i := 17) rfl)) (fun zv23 ze24 => ?_)
      refine w_goto (tgt := 39) (tX11_placeOf_0_ok (28, .goto 11, 3) (List.mem_of_getElem? (i := 18) rfl)) rfl ?_
      refine w_iret rfl (tX11_placeOf_0_ok (39, .ireturn, 1) (List.mem_of_getElem? (i := 25) rfl)) ?_
      refine hq _ ?_
      unfold f_pl
      repeat (first | rw [if_pos (by omega)] | rw [if_neg (by omega)])
      all_goals omega
  · refine w_iload_n (List.Mem.tail _ (List.Mem.tail _ (List.Mem.tail _ (List.Mem.head _)))) (tX11_placeOf_0_ok (4, .iload_n 3, 1) (List.mem_of_getElem? (i := 2) rfl)) ?_
    refine w_goto (tgt := 39) (tX11_placeOf_0_ok (5, .goto 34, 3) (List.mem_of_getElem? (i := 3) rfl)) rfl ?_
    refine w_iret rfl (tX11_placeOf_0_ok (39, .ireturn, 1) (List.mem_of_getElem? (i := 25) rfl)) ?_
    refine hq _ ?_
    unfold f_pl
    repeat (first | rw [if_pos (by omega)] | rw [if_neg (by omega)])
    all_goals omega
/-- what outOf answers, wherever there is room for it -/
def oT (l : Launch) (D : va_G) (tys : List (ClassId × FieldType)) (A : Nat → Prop) (X : State → Prop) (h : ch_H) (m n : Nat) (ρ : aRw) (W : Nat → Int) (p : Nat) (base : Int) (fb lb : Nat) : Prop := ∀ (fr lo : Nat) (Q : Option Value → ch_H → Prop) (pI bI : Int32), fb ≤ fr → lb ≤ lo → pI.toInt = (p : Int) → bI.toInt = base → (∀ v : Int32, 0 ≤ v.toInt → t_in n ρ p v.toInt.toNat → b_cst v.toInt.toNat = t_C n ρ W 6 p base → Q (some (.int v)) h) → ww l D tys A X fr lo mX11_outOf Q 0 [(0, .ref m), (1, .int pI), (2, .int bI)] [] h
theorem or_tn {x y v : Int32} (hx : 0 ≤ x.toInt) (hy : 0 ≤ y.toInt) (h1 : x.toInt.toNat < 4096) (h2 : y.toInt.toNat < 4096) (e : v = x ||| y) : 0 ≤ v.toInt ∧ v.toInt.toNat = x.toInt.toNat ||| y.toInt.toNat := by
  have o := or_z (x := x) (y := y) (by omega) (by omega) e
  have q := tn_of o.1.1
  refine ⟨o.1.1, ?_⟩
  rw [← q, e, Int32.toBitVec_or, BitVec.toNat_or, tn_of hx, tn_of hy]
theorem r_onLC (hT : k_tys tys cA) {m ro wa : Nat} {fs : List Value} {R gw : Nat → Int32} {rp : Int32} (c_m : h m = some (.inr (10, fs))) (f19 : fs[19]? = some (.ref ro)) (f20 : fs[20]? = some (.int rp)) (f26 : fs[26]? = some (.ref wa)) (c_ro : h ro = some (.inl (cA 0, 108, .inl R))) (c_wa : h wa = some (.inl (cA 0, 12, .inl gw))) (hw : ∀ r, r < 12 → (gw r).toInt = W r) (hn : 0 ≤ rp.toInt ∧ rp.toInt ≤ 6) (wf : wfR rp.toInt.toNat ρ) (hρ : ∀ q, q < rp.toInt.toNat → ∀ w, w < 9 → (R (9 * q + w)).toInt = ρ q w) {r d : Int32} {fb lb : Nat} (hr : -1 ≤ r.toInt) (hof : ∀ q, q < rp.toInt.toNat → ρ q 8 = r.toInt → oT l D tys A X h m rp.toInt.toNat ρ W q d.toInt fb lb) (hf : fb + 1 ≤ fr ∧ 1 ≤ fr) (hl : lb + 27 ≤ lo ∧ 27 ≤ lo) : ∀ (j : Nat) (p b : Int32), p.toInt + j = rp.toInt → 0 ≤ p.toInt → 0 ≤ b.toInt → (t_on rp.toInt.toNat ρ r.toInt p.toInt.toNat b.toInt.toNat ∧ b_cst b.toInt.toNat = t_hs ρ r.toInt (fun q => t_C rp.toInt.toNat ρ W 6 q d.toInt) p.toInt.toNat) → (∀ v : Int32, 0 ≤ v.toInt → t_on rp.toInt.toNat ρ r.toInt rp.toInt.toNat v.toInt.toNat → b_cst v.toInt.toNat = t_hs ρ r.toInt (fun q => t_C rp.toInt.toNat ρ W 6 q d.toInt) rp.toInt.toNat → Q (some (.int v)) h) → ww l D tys A X fr lo mX11_outOn Q 5 [(4, .int p), (3, .int b), (0, .ref m), (1, .int r), (2, .int d)] [] h := by
  intro j
  induction j using Nat.strongRecOn with
  | ind j ih =>
    intro p b hj hp0 hb hi hq
    refine w_iload (List.Mem.head _) (tX11_outOn_0_ok (5, .iload 4, 2) (List.mem_of_getElem? (i := 4) rfl)) ?_
    refine w_aload_n (List.Mem.tail _ (List.Mem.tail _ (List.Mem.head _))) (tX11_outOn_0_ok (7, .aload_n 0, 1) (List.mem_of_getElem? (i := 5) rfl)) ?_
    refine w_get (own := 16) rfl rfl (by decide) c_m f20 (tX11_outOn_0_ok (8, .getfield 248, 3) (List.mem_of_getElem? (i := 6) rfl)) ?_
    refine w_icmp_ge (tgt := 46) (tX11_outOn_0_ok (11, .if_icmp .ge 35, 3) (List.mem_of_getElem? (i := 7) rfl)) rfl (fun zb1 => ?_) (fun zb1 => ?_)
    · refine w_iload_n (List.Mem.tail _ (List.Mem.head _)) (tX11_outOn_0_ok (46, .iload_n 3, 1) (List.mem_of_getElem? (i := 25) rfl)) ?_
      refine w_iret rfl (tX11_outOn_0_ok (47, .ireturn, 1) (List.mem_of_getElem? (i := 26) rfl)) ?_
      rw [show p.toInt.toNat = rp.toInt.toNat by omega] at hi
      exact hq _ hb hi.1 hi.2
    · refine w_iload_n (List.Mem.tail _ (List.Mem.head _)) (tX11_outOn_0_ok (14, .iload_n 3, 1) (List.mem_of_getElem? (i := 8) rfl)) ?_
      refine w_aload_n (List.Mem.tail _ (List.Mem.tail _ (List.Mem.head _))) (tX11_outOn_0_ok (15, .aload_n 0, 1) (List.mem_of_getElem? (i := 9) rfl)) ?_
      refine w_iload (List.Mem.head _) (tX11_outOn_0_ok (16, .iload 4, 2) (List.mem_of_getElem? (i := 10) rfl)) ?_
      refine w_bipush (by decide) (tX11_outOn_0_ok (18, .bipush 8, 2) (List.mem_of_getElem? (i := 11) rfl)) (fun zv2 ze3 => ?_)
      refine w_callV (own := 16) (mi := 219) [.int p, .int zv2] [.int b] [(0, .ref m), (1, .int p), (2, .int zv2)] rfl (cllw_X11 (255, 0, 219) (List.mem_of_getElem? (i := 34) rfl)) rfl rfl c_m rfl (by omega) (w_lo (n := 22) rfl (by omega)) (Nat.le_of_ble_eq_true rfl) (Nat.le_of_ble_eq_true rfl) rfl (tX11_outOn_0_ok (20, .invokevirtual 255, 3) (List.mem_of_getElem? (i := 12) rfl)) (h_of2 hT (by omega) (by omega) c_m f19 c_ro (fun zv4 ze5 => ?_))
      have ze5r : zv4.toInt = ρ p.toInt.toNat 8 := by rw [ze5, show 9 * p.toInt.toNat + zv2.toInt.toNat = 9 * p.toInt.toNat + 8 by omega]; exact hρ _ (by omega) 8 (by decide)
      show ww l D tys A X fr lo mX11_outOn Q 23 [(4, .int p), (3, .int b), (0, .ref m), (1, .int r), (2, .int d)] [.int zv4, .int b] h
      refine w_iload_n (List.Mem.tail _ (List.Mem.tail _ (List.Mem.tail _ (List.Mem.head _)))) (tX11_outOn_0_ok (23, .iload_n 1, 1) (List.mem_of_getElem? (i := 13) rfl)) ?_
      refine w_icmp_ne (tgt := 37) (tX11_outOn_0_ok (24, .if_icmp .ne 13, 3) (List.mem_of_getElem? (i := 14) rfl)) rfl (fun zb6 => ?_) (fun zb6 => ?_)
      · refine w_iconst (by decide) (tX11_outOn_0_ok (37, .iconst 0, 1) (List.mem_of_getElem? (i := 20) rfl)) (fun zv7 ze8 => ?_)
        refine w_ior (tX11_outOn_0_ok (38, .ior, 1) (List.mem_of_getElem? (i := 21) rfl)) (fun zv9 ze10 => ?_)
        have or9 := or_tn (x := b) (y := zv7) hb (by omega) (on_lt wf hi.1) (by omega) ze10
        obtain ⟨or1, or2⟩ := or9
        refine w_istore_n [(3, .int zv9), (4, .int p), (0, .ref m), (1, .int r), (2, .int d)] rfl (Nat.le_of_ble_eq_true rfl) (tX11_outOn_0_ok (39, .istore_n 3, 1) (List.mem_of_getElem? (i := 22) rfl)) ?_
        refine w_iinc (fun zv11 => [(4, .int zv11), (3, .int zv9), (0, .ref m), (1, .int r), (2, .int d)]) (fun _ => rfl) (List.Mem.tail _ (List.Mem.head _)) (Nat.le_of_ble_eq_true rfl) (by decide) (by omega) (by omega) (tX11_outOn_0_ok (40, .iinc 4 1, 3) (List.mem_of_getElem? (i := 23) rfl)) (fun zv11 ze12 => ?_)
        refine w_goto (tgt := 5) (tX11_outOn_0_ok (43, .goto (-38), 3) (List.mem_of_getElem? (i := 24) rfl)) rfl ?_
        refine w_lv [(4, .int zv11), (3, .int zv9), (0, .ref m), (1, .int r), (2, .int d)] (by intro q hq; simp only [List.mem_cons, List.not_mem_nil, or_false] at hq ⊢; rcases hq with e | e | e | e | e <;> subst e <;> simp) ?_
        refine ih (j - 1) (by omega) _ _ (by omega) (by omega) or1 ?_ hq
        rw [or2, show zv11.toInt.toNat = p.toInt.toNat + 1 by omega]
        unfold t_hs
        rw [if_neg (by omega), Int.add_zero, show zv7.toInt.toNat = 0 by omega, Nat.or_zero]
        exact ⟨t_on_wk (by omega) hi.1, hi.2⟩
      · refine w_aload_n (List.Mem.tail _ (List.Mem.tail _ (List.Mem.head _))) (tX11_outOn_0_ok (27, .aload_n 0, 1) (List.mem_of_getElem? (i := 15) rfl)) ?_
        refine w_iload (List.Mem.head _) (tX11_outOn_0_ok (28, .iload 4, 2) (List.mem_of_getElem? (i := 16) rfl)) ?_
        refine w_iload_n (List.Mem.tail _ (List.Mem.tail _ (List.Mem.tail _ (List.Mem.tail _ (List.Mem.head _))))) (tX11_outOn_0_ok (30, .iload_n 2, 1) (List.mem_of_getElem? (i := 17) rfl)) ?_
        refine w_callV (own := 16) (mi := 224) [.int p, .int d] [.int b] [(0, .ref m), (1, .int p), (2, .int d)] rfl (cllw_X11 (358, 0, 224) (List.mem_of_getElem? (i := 59) rfl)) rfl rfl c_m rfl (by omega) (w_lo (n := 27) rfl (by omega)) (Nat.le_of_ble_eq_true rfl) (Nat.le_of_ble_eq_true rfl) rfl (tX11_outOn_0_ok (31, .invokevirtual 358, 3) (List.mem_of_getElem? (i := 18) rfl)) (hof p.toInt.toNat (by omega) (by omega) _ _ _ _ _ (by omega) (w_sub (n := 27) rfl (by omega)) (by omega) rfl (fun zv13 ze14 ze15 ze16 => ?_))
        show ww l D tys A X fr lo mX11_outOn Q 34 [(4, .int p), (3, .int b), (0, .ref m), (1, .int r), (2, .int d)] [.int zv13, .int b] h
        refine w_goto (tgt := 38) (tX11_outOn_0_ok (34, .goto 4, 3) (List.mem_of_getElem? (i := 19) rfl)) rfl ?_
        refine w_ior (tX11_outOn_0_ok (38, .ior, 1) (List.mem_of_getElem? (i := 21) rfl)) (fun zv17 ze18 => ?_)
        have or9 := or_tn (x := b) (y := zv13) hb (by omega) (on_lt wf hi.1) (in_lt wf ze15) ze18
        obtain ⟨or1, or2⟩ := or9
        refine w_istore_n [(3, .int zv17), (4, .int p), (0, .ref m), (1, .int r), (2, .int d)] rfl (Nat.le_of_ble_eq_true rfl) (tX11_outOn_0_ok (39, .istore_n 3, 1) (List.mem_of_getElem? (i := 22) rfl)) ?_
        refine w_iinc (fun zv19 => [(4, .int zv19), (3, .int zv17), (0, .ref m), (1, .int r), (2, .int d)]) (fun _ => rfl) (List.Mem.tail _ (List.Mem.head _)) (Nat.le_of_ble_eq_true rfl) (by decide) (by omega) (by omega) (tX11_outOn_0_ok (40, .iinc 4 1, 3) (List.mem_of_getElem? (i := 23) rfl)) (fun zv19 ze20 => ?_)
        refine w_goto (tgt := 5) (tX11_outOn_0_ok (43, .goto (-38), 3) (List.mem_of_getElem? (i := 24) rfl)) rfl ?_
        refine w_lv [(4, .int zv19), (3, .int zv17), (0, .ref m), (1, .int r), (2, .int d)] (by intro q hq; simp only [List.mem_cons, List.not_mem_nil, or_false] at hq ⊢; rcases hq with e | e | e | e | e <;> subst e <;> simp) ?_
        refine ih (j - 1) (by omega) _ _ (by omega) (by omega) or1 ?_ hq
        rw [or2, show zv19.toInt.toNat = p.toInt.toNat + 1 by omega]
        unfold t_hs
        rw [if_pos (by omega), b_cst_or (t_on_dis wf hr (Nat.le_refl _) (by omega) (by omega) hi.1 ze15), hi.2, ze16]
        exact ⟨t_on_or (Nat.le_refl _) (by omega) (by omega) hi.1 ze15, rfl⟩
theorem r_outOnC (hT : k_tys tys cA) {m ro wa : Nat} {fs : List Value} {R gw : Nat → Int32} {rp : Int32} (c_m : h m = some (.inr (10, fs))) (f19 : fs[19]? = some (.ref ro)) (f20 : fs[20]? = some (.int rp)) (f26 : fs[26]? = some (.ref wa)) (c_ro : h ro = some (.inl (cA 0, 108, .inl R))) (c_wa : h wa = some (.inl (cA 0, 12, .inl gw))) (hw : ∀ r, r < 12 → (gw r).toInt = W r) (hn : 0 ≤ rp.toInt ∧ rp.toInt ≤ 6) (wf : wfR rp.toInt.toNat ρ) (hρ : ∀ q, q < rp.toInt.toNat → ∀ w, w < 9 → (R (9 * q + w)).toInt = ρ q w) {r d : Int32} {fb lb : Nat} (hr : -1 ≤ r.toInt) (hof : ∀ q, q < rp.toInt.toNat → ρ q 8 = r.toInt → oT l D tys A X h m rp.toInt.toNat ρ W q d.toInt fb lb) (hf : fb + 1 ≤ fr ∧ 1 ≤ fr) (hl : lb + 27 ≤ lo ∧ 27 ≤ lo) (hq : ∀ v : Int32, 0 ≤ v.toInt → t_on rp.toInt.toNat ρ r.toInt rp.toInt.toNat v.toInt.toNat → b_cst v.toInt.toNat = t_hs ρ r.toInt (fun q => t_C rp.toInt.toNat ρ W 6 q d.toInt) rp.toInt.toNat → Q (some (.int v)) h) : ww l D tys A X fr lo mX11_outOn Q 0 [(0, .ref m), (1, .int r), (2, .int d)] [] h := by
  refine w_iconst (by decide) (tX11_outOn_0_ok (0, .iconst 0, 1) (List.mem_of_getElem? (i := 0) rfl)) (fun zv1 ze2 => ?_)
  refine w_istore_n [(3, .int zv1), (0, .ref m), (1, .int r), (2, .int d)] rfl (Nat.le_of_ble_eq_true rfl) (tX11_outOn_0_ok (1, .istore_n 3, 1) (List.mem_of_getElem? (i := 1) rfl)) ?_
  refine w_iconst (by decide) (tX11_outOn_0_ok (2, .iconst 0, 1) (List.mem_of_getElem? (i := 2) rfl)) (fun zv3 ze4 => ?_)
  refine w_istore [(4, .int zv3), (3, .int zv1), (0, .ref m), (1, .int r), (2, .int d)] rfl (Nat.le_of_ble_eq_true rfl) (tX11_outOn_0_ok (3, .istore 4, 2) (List.mem_of_getElem? (i := 3) rfl)) ?_
  refine w_lv [(4, .int zv3), (3, .int zv1), (0, .ref m), (1, .int r), (2, .int d)] (by intro q hq; simp only [List.mem_cons, List.not_mem_nil, or_false] at hq ⊢; rcases hq with e | e | e | e | e <;> subst e <;> simp) ?_
  refine r_onLC hT c_m f19 f20 f26 c_ro c_wa hw hn wf hρ hr hof hf hl (rp.toInt - zv3.toInt).toNat _ _ (by omega) (by omega) (by omega) ?_ hq
  rw [show zv3.toInt.toNat = 0 by omega, show zv1.toInt.toNat = 0 by omega]
  exact ⟨t_on_0 _ _, b_cst_0⟩
/-- a ROPE's rooms so far -/
def t_sd (n : Nat) (ρ : aRw) (W : Nat → Int) (p : Nat) (ba x : Int) (s b : Nat) : Prop := s = 0 ∧ b = 0 ∨ (s = 1 ∧ ∃ a, t_on n ρ ((2 * p : Nat) : Int) n a ∧ b_cst a = t_hs ρ ((2 * p : Nat) : Int) (fun q => t_C n ρ W 6 q (ba + x)) n ∧ b = t_one W (2 * p) (ba + x) ||| a) ∨ s = 2 ∧ t_in n ρ p b ∧ b_cst b = t_at n ρ W (t_C n ρ W 6) p ba x
theorem t_sd_lt {n : Nat} {ρ : aRw} (wf : wfR n ρ) {p s b : Nat} {ba x : Int} (hp : p < n) (H : t_sd n ρ W p ba x s b) : b < 4096 := by
  rcases H with ⟨_, rfl⟩ | ⟨_, a, h1, _, rfl⟩ | ⟨_, h1, _⟩
  · decide
  · exact in_lt wf (or_in (t_one_i (s := 0) hp (by decide) _) (t_on_in (s := 0) (by decide) h1))
  · exact in_lt wf h1
theorem t_sd_next {n : Nat} {ρ : aRw} (wf : wfR n ρ) {p s b a : Nat} {ba x : Int} (hp : p < n) (hs : s < 2) (H : t_sd n ρ W p ba x s b) (ha : t_on n ρ ((2 * p + s : Nat) : Int) n a) (hc : b_cst a = t_hs ρ ((2 * p + s : Nat) : Int) (fun q => t_C n ρ W 6 q (ba + f_pl ρ p s x)) n) : t_sd n ρ W p ba x (s + 1) (b ||| (t_one W (2 * p + s) (ba + f_pl ρ p s x) ||| a)) := by
  rcases H with ⟨rfl, rfl⟩ | ⟨rfl, a0, h1, h2, rfl⟩ | ⟨rfl, _⟩
  · refine Or.inr (Or.inl ⟨rfl, a, ha, ?_, ?_⟩)
    · rw [f_pl0] at hc
      exact hc
    · rw [f_pl0, Nat.zero_or]
      rfl
  · refine Or.inr (Or.inr ⟨rfl, ?_⟩)
    obtain ⟨z1, z2⟩ := t_both (W := W) wf (h := ba + x) (h2 := ba + f_pl ρ p 1 x) hp h1 ha
    exact ⟨z2, by rw [z1, h2, hc]; rfl⟩
  · omega
theorem r_ofSC (hT : k_tys tys cA) {m ro wa : Nat} {fs : List Value} {R gw : Nat → Int32} {rp : Int32} (c_m : h m = some (.inr (10, fs))) (f19 : fs[19]? = some (.ref ro)) (f20 : fs[20]? = some (.int rp)) (f26 : fs[26]? = some (.ref wa)) (c_ro : h ro = some (.inl (cA 0, 108, .inl R))) (c_wa : h wa = some (.inl (cA 0, 12, .inl gw))) (hw : ∀ r, r < 12 → (gw r).toInt = W r) (hn : 0 ≤ rp.toInt ∧ rp.toInt ≤ 6) (wf : wfR rp.toInt.toNat ρ) (hρ : ∀ q, q < rp.toInt.toNat → ∀ w, w < 9 → (R (9 * q + w)).toInt = ρ q w) {p ba x be : Int32} {fb lb : Nat} (hof : ∀ q, 0 ≤ rp.toInt → q < rp.toInt.toNat → ∀ s : Nat, s < 2 → ρ q 8 = ((2 * p.toInt.toNat + s : Nat) : Int) → ∀ d : Int, ba.toInt ≤ d ∧ d ≤ ba.toInt + 20 → oT l D tys A X h m rp.toInt.toNat ρ W q d fb lb) (hf : fb + 2 ≤ fr) (hl : lb + 60 ≤ lo) (hp : 0 ≤ p.toInt ∧ p.toInt < rp.toInt) (hba : 0 ≤ ba.toInt ∧ ba.toInt ≤ 120) (hx9 : f_x ρ p.toInt.toNat x.toInt) : ∀ (j : Nat) (s b : Int32), s.toInt + j = 2 → 0 ≤ s.toInt → 0 ≤ b.toInt → t_sd rp.toInt.toNat ρ W p.toInt.toNat ba.toInt x.toInt s.toInt.toNat b.toInt.toNat → (∀ s1 b1 : Int32, 0 ≤ b1.toInt → t_in rp.toInt.toNat ρ p.toInt.toNat b1.toInt.toNat → b_cst b1.toInt.toNat = t_at rp.toInt.toNat ρ W (t_C rp.toInt.toNat ρ W 6) p.toInt.toNat ba.toInt x.toInt → ww l D tys A X fr lo mX11_outOf Q 77 [(6, .int s1), (5, .int b1), (4, .int x), (3, .int be), (0, .ref m), (1, .int p), (2, .int ba)] [] h) → ww l D tys A X fr lo mX11_outOf Q 22 [(6, .int s), (5, .int b), (4, .int x), (3, .int be), (0, .ref m), (1, .int p), (2, .int ba)] [] h := by
  intro j
  induction j using Nat.strongRecOn with
  | ind j ih =>
    intro s b hj hs0 hb hi hq
    have hx8 := f_x0 hx9
    refine w_iload (List.Mem.head _) (tX11_outOf_0_ok (22, .iload 6, 2) (List.mem_of_getElem? (i := 14) rfl)) ?_
    refine w_iconst (by decide) (tX11_outOf_0_ok (24, .iconst 2, 1) (List.mem_of_getElem? (i := 15) rfl)) (fun zv1 ze2 => ?_)
    refine w_icmp_ge (tgt := 77) (tX11_outOf_0_ok (25, .if_icmp .ge 52, 3) (List.mem_of_getElem? (i := 16) rfl)) rfl (fun zb3 => ?_) (fun zb3 => ?_)
    · rw [show s.toInt.toNat = 2 by omega] at hi
      rcases hi with ⟨z1, _⟩ | ⟨z1, _⟩ | ⟨_, z1, z2⟩
      · omega
      · omega
      · exact hq s b hb z1 z2
    · refine w_iload_n (List.Mem.tail _ (List.Mem.tail _ (List.Mem.tail _ (List.Mem.tail _ (List.Mem.tail _ (List.Mem.tail _ (List.Mem.head _))))))) (tX11_outOf_0_ok (28, .iload_n 2, 1) (List.mem_of_getElem? (i := 17) rfl)) ?_
      refine w_aload_n (List.Mem.tail _ (List.Mem.tail _ (List.Mem.tail _ (List.Mem.tail _ (List.Mem.head _))))) (tX11_outOf_0_ok (29, .aload_n 0, 1) (List.mem_of_getElem? (i := 18) rfl)) ?_
      refine w_iload_n (List.Mem.tail _ (List.Mem.tail _ (List.Mem.tail _ (List.Mem.tail _ (List.Mem.tail _ (List.Mem.head _)))))) (tX11_outOf_0_ok (30, .iload_n 1, 1) (List.mem_of_getElem? (i := 19) rfl)) ?_
      refine w_iload (List.Mem.head _) (tX11_outOf_0_ok (31, .iload 6, 2) (List.mem_of_getElem? (i := 20) rfl)) ?_
      refine w_iload (List.Mem.tail _ (List.Mem.tail _ (List.Mem.head _))) (tX11_outOf_0_ok (33, .iload 4, 2) (List.mem_of_getElem? (i := 21) rfl)) ?_
      refine w_callV (own := 16) (mi := 229) [.int p, .int s, .int x] [.int ba] [(0, .ref m), (1, .int p), (2, .int s), (3, .int x)] rfl (cllw_X11 (277, 0, 229) (List.mem_of_getElem? (i := 40) rfl)) rfl rfl c_m rfl (by omega) (w_lo (n := 23) rfl (by omega)) (Nat.le_of_ble_eq_true rfl) (Nat.le_of_ble_eq_true rfl) rfl (tX11_outOf_0_ok (35, .invokevirtual 277, 3) (List.mem_of_getElem? (i := 22) rfl)) (r_placeOfC hT c_m f19 f20 f26 c_ro c_wa hw hn wf hρ (by omega) (w_sub (n := 23) rfl (by omega)) (by omega) (by omega) (by omega) (fun zv4 ze5 => ?_))
      have plb := f_pl_b wf (s := s.toInt.toNat) (p := p.toInt.toNat) (by omega) hx9
      show ww l D tys A X fr lo mX11_outOf Q 38 [(6, .int s), (5, .int b), (4, .int x), (3, .int be), (0, .ref m), (1, .int p), (2, .int ba)] [.int zv4, .int ba] h
      refine w_iadd (by omega) (by omega) (tX11_outOf_0_ok (38, .iadd, 1) (List.mem_of_getElem? (i := 23) rfl)) (fun zv6 ze7 => ?_)
      refine w_istore [(7, .int zv6), (6, .int s), (5, .int b), (4, .int x), (3, .int be), (0, .ref m), (1, .int p), (2, .int ba)] rfl (Nat.le_of_ble_eq_true rfl) (tX11_outOf_0_ok (39, .istore 7, 2) (List.mem_of_getElem? (i := 24) rfl)) ?_
      refine w_iload (List.Mem.tail _ (List.Mem.tail _ (List.Mem.head _))) (tX11_outOf_0_ok (41, .iload 5, 2) (List.mem_of_getElem? (i := 25) rfl)) ?_
      refine w_aload_n (List.Mem.tail _ (List.Mem.tail _ (List.Mem.tail _ (List.Mem.tail _ (List.Mem.tail _ (List.Mem.head _)))))) (tX11_outOf_0_ok (43, .aload_n 0, 1) (List.mem_of_getElem? (i := 26) rfl)) ?_
      refine w_iconst (by decide) (tX11_outOf_0_ok (44, .iconst 2, 1) (List.mem_of_getElem? (i := 27) rfl)) (fun zv8 ze9 => ?_)
      refine w_iload_n (List.Mem.tail _ (List.Mem.tail _ (List.Mem.tail _ (List.Mem.tail _ (List.Mem.tail _ (List.Mem.tail _ (List.Mem.head _))))))) (tX11_outOf_0_ok (45, .iload_n 1, 1) (List.mem_of_getElem? (i := 28) rfl)) ?_
      refine w_imul (by assumption) (by omega) (by omega) (tX11_outOf_0_ok (46, .imul, 1) (List.mem_of_getElem? (i := 29) rfl)) (fun zv10 ze11 => ?_)
      refine w_iload (List.Mem.tail _ (List.Mem.head _)) (tX11_outOf_0_ok (47, .iload 6, 2) (List.mem_of_getElem? (i := 30) rfl)) ?_
      refine w_iadd (by omega) (by omega) (tX11_outOf_0_ok (49, .iadd, 1) (List.mem_of_getElem? (i := 31) rfl)) (fun zv12 ze13 => ?_)
      refine w_iload (List.Mem.head _) (tX11_outOf_0_ok (50, .iload 7, 2) (List.mem_of_getElem? (i := 32) rfl)) ?_
      refine w_callV (own := 16) (mi := 220) [.int zv12, .int zv6] [.int b] [(0, .ref m), (1, .int zv12), (2, .int zv6)] rfl (cllw_X11 (361, 0, 220) (List.mem_of_getElem? (i := 60) rfl)) rfl rfl c_m rfl (by omega) (w_lo (n := 22) rfl (by omega)) (Nat.le_of_ble_eq_true rfl) (Nat.le_of_ble_eq_true rfl) rfl (tX11_outOf_0_ok (52, .invokevirtual 361, 3) (List.mem_of_getElem? (i := 33) rfl)) (r_offAtC hT c_m f19 f20 f26 c_ro c_wa hw hn wf hρ (by omega) (fun zv14 ze15 => ?_))
      have dd9 : zv6.toInt = ba.toInt + f_pl ρ p.toInt.toNat s.toInt.toNat x.toInt := by omega
      rw [show zv12.toInt.toNat = 2 * p.toInt.toNat + s.toInt.toNat by omega, dd9] at ze15
      have ol9 := in_lt wf (t_one_i (W := W) (p := p.toInt.toNat) (s := s.toInt.toNat) (by omega) (by omega) (ba.toInt + f_pl ρ p.toInt.toNat s.toInt.toNat x.toInt))
      show ww l D tys A X fr lo mX11_outOf Q 55 [(7, .int zv6), (6, .int s), (5, .int b), (4, .int x), (3, .int be), (0, .ref m), (1, .int p), (2, .int ba)] [.int zv14, .int b] h
      refine w_aload_n (List.Mem.tail _ (List.Mem.tail _ (List.Mem.tail _ (List.Mem.tail _ (List.Mem.tail _ (List.Mem.head _)))))) (tX11_outOf_0_ok (55, .aload_n 0, 1) (List.mem_of_getElem? (i := 34) rfl)) ?_
      refine w_iconst (by decide) (tX11_outOf_0_ok (56, .iconst 2, 1) (List.mem_of_getElem? (i := 35) rfl)) (fun zv16 ze17 => ?_)
      refine w_iload_n (List.Mem.tail _ (List.Mem.tail _ (List.Mem.tail _ (List.Mem.tail _ (List.Mem.tail _ (List.Mem.tail _ (List.Mem.head _))))))) (tX11_outOf_0_ok (57, .iload_n 1, 1) (List.mem_of_getElem? (i := 36) rfl)) ?_
      refine w_imul (by assumption) (by omega) (by omega) (tX11_outOf_0_ok (58, .imul, 1) (List.mem_of_getElem? (i := 37) rfl)) (fun zv18 ze19 => ?_)
      refine w_iload (List.Mem.tail _ (List.Mem.head _)) (tX11_outOf_0_ok (59, .iload 6, 2) (List.mem_of_getElem? (i := 38) rfl)) ?_
      refine w_iadd (by omega) (by omega) (tX11_outOf_0_ok (61, .iadd, 1) (List.mem_of_getElem? (i := 39) rfl)) (fun zv20 ze21 => ?_)
      refine w_iload (List.Mem.head _) (tX11_outOf_0_ok (62, .iload 7, 2) (List.mem_of_getElem? (i := 40) rfl)) ?_
      refine w_callV (own := 16) (mi := 225) [.int zv20, .int zv6] [.int zv14, .int b] [(0, .ref m), (1, .int zv20), (2, .int zv6)] rfl (cllw_X11 (364, 0, 225) (List.mem_of_getElem? (i := 58) rfl)) rfl rfl c_m rfl (by omega) (w_lo (n := 24) rfl (by omega)) (Nat.le_of_ble_eq_true rfl) (Nat.le_of_ble_eq_true rfl) rfl (tX11_outOf_0_ok (64, .invokevirtual 364, 3) (List.mem_of_getElem? (i := 41) rfl)) (r_outOnC hT c_m f19 f20 f26 c_ro c_wa hw hn wf hρ (fb := fb) (lb := lb) (by omega) (fun q h1 h2 => hof q (by omega) h1 s.toInt.toNat (by omega) (by omega) zv6.toInt (by omega)) (by omega) ⟨w_sub (n := 24) rfl (by omega), w_sub (n := 24) rfl (by omega)⟩ (fun zv22 ze23 ze24 ze25 => ?_))
      rw [show zv20.toInt = ((2 * p.toInt.toNat + s.toInt.toNat : Nat) : Int) by omega] at ze24 ze25
      rw [dd9] at ze25
      show ww l D tys A X fr lo mX11_outOf Q 67 [(7, .int zv6), (6, .int s), (5, .int b), (4, .int x), (3, .int be), (0, .ref m), (1, .int p), (2, .int ba)] [.int zv22, .int zv14, .int b] h
      refine w_ior (tX11_outOf_0_ok (67, .ior, 1) (List.mem_of_getElem? (i := 42) rfl)) (fun zv26 ze27 => ?_)
      have or1 := or_tn (x := zv14) (y := zv22) (by omega) ze23 (by omega) (on_lt wf ze24) ze27
      rw [show zv14.toInt.toNat = t_one W (2 * p.toInt.toNat + s.toInt.toNat) (ba.toInt + f_pl ρ p.toInt.toNat s.toInt.toNat x.toInt) by omega] at or1
      have nx9 := t_sd_next wf (by omega) (by omega) hi ze24 ze25
      rw [← or1.2] at nx9
      have ol8 : zv26.toInt.toNat < 4096 := by rw [or1.2]; exact in_lt wf (or_in (t_one_i (s := s.toInt.toNat) (by omega) (by omega) _) (t_on_in (by omega) ze24))
      refine w_ior (tX11_outOf_0_ok (68, .ior, 1) (List.mem_of_getElem? (i := 43) rfl)) (fun zv28 ze29 => ?_)
      have or2 := or_tn (x := b) (y := zv26) hb or1.1 (t_sd_lt wf (by omega) hi) ol8 ze29
      rw [← or2.2] at nx9
      refine w_istore [(5, .int zv28), (7, .int zv6), (6, .int s), (4, .int x), (3, .int be), (0, .ref m), (1, .int p), (2, .int ba)] rfl (Nat.le_of_ble_eq_true rfl) (tX11_outOf_0_ok (69, .istore 5, 2) (List.mem_of_getElem? (i := 44) rfl)) ?_
      refine w_iinc (fun zv30 => [(6, .int zv30), (5, .int zv28), (7, .int zv6), (4, .int x), (3, .int be), (0, .ref m), (1, .int p), (2, .int ba)]) (fun _ => rfl) (List.Mem.tail _ (List.Mem.tail _ (List.Mem.head _))) (Nat.le_of_ble_eq_true rfl) (by decide) (by omega) (by omega) (tX11_outOf_0_ok (71, .iinc 6 1, 3) (List.mem_of_getElem? (i := 45) rfl)) (fun zv30 ze31 => ?_)
      refine w_goto (tgt := 22) (tX11_outOf_0_ok (74, .goto (-52), 3) (List.mem_of_getElem? (i := 46) rfl)) rfl ?_
      refine w_lv [(6, .int zv30), (5, .int zv28), (4, .int x), (3, .int be), (0, .ref m), (1, .int p), (2, .int ba)] (by intro q hq; simp only [List.mem_cons, List.not_mem_nil, or_false] at hq ⊢; rcases hq with e | e | e | e | e | e | e <;> subst e <;> simp) ?_
      refine ih (j - 1) (by omega) _ _ (by omega) (by omega) or2.1 ?_ hq
      rw [show zv30.toInt.toNat = s.toInt.toNat + 1 by omega]
      exact nx9
def o_bt (n : Nat) (ρ : aRw) (p : Nat) (F : Nat → Int) (i : Nat) (be : Int) : Prop := i = 0 ∧ be = -1 ∨ ∃ k : Nat, i = k + 1 ∧ f_st ρ p * (k : Int) ≤ ρ p 1 ∧ 0 ≤ be ∧ t_in n ρ p be.toNat ∧ b_cst be.toNat = t_fm F k
theorem r_ofXC (hT : k_tys tys cA) {m ro wa : Nat} {fs : List Value} {R gw : Nat → Int32} {rp : Int32} (c_m : h m = some (.inr (10, fs))) (f19 : fs[19]? = some (.ref ro)) (f20 : fs[20]? = some (.int rp)) (f26 : fs[26]? = some (.ref wa)) (c_ro : h ro = some (.inl (cA 0, 108, .inl R))) (c_wa : h wa = some (.inl (cA 0, 12, .inl gw))) (hw : ∀ r, r < 12 → (gw r).toInt = W r) (hn : 0 ≤ rp.toInt ∧ rp.toInt ≤ 6) (wf : wfR rp.toInt.toNat ρ) (hρ : ∀ q, q < rp.toInt.toNat → ∀ w, w < 9 → (R (9 * q + w)).toInt = ρ q w) {p ba : Int32} {fb lb : Nat} (hof : ∀ q, 0 ≤ rp.toInt → q < rp.toInt.toNat → ∀ s : Nat, s < 2 → ρ q 8 = ((2 * p.toInt.toNat + s : Nat) : Int) → ∀ d : Int, ba.toInt ≤ d ∧ d ≤ ba.toInt + 20 → oT l D tys A X h m rp.toInt.toNat ρ W q d fb lb) (hf : fb + 2 ≤ fr) (hl : lb + 60 ≤ lo) (hp : 0 ≤ p.toInt ∧ p.toInt < rp.toInt) (hba : 0 ≤ ba.toInt ∧ ba.toInt ≤ 120) (hq : ∀ v : Int32, 0 ≤ v.toInt → t_in rp.toInt.toNat ρ p.toInt.toNat v.toInt.toNat → b_cst v.toInt.toNat = t_C rp.toInt.toNat ρ W 6 p.toInt.toNat ba.toInt → Q (some (.int v)) h) : ∀ (j i : Nat) (x be : Int32), (ρ p.toInt.toNat 1 + 1 - x.toInt).toNat = j → x.toInt = f_st ρ p.toInt.toNat * i → 0 ≤ x.toInt ∧ x.toInt ≤ 24 → o_bt rp.toInt.toNat ρ p.toInt.toNat (fun i : Nat => t_at rp.toInt.toNat ρ W (t_C rp.toInt.toNat ρ W 6) p.toInt.toNat ba.toInt (f_st ρ p.toInt.toNat * (i : Int))) i be.toInt → ww l D tys A X fr lo mX11_outOf Q 5 [(4, .int x), (3, .int be), (0, .ref m), (1, .int p), (2, .int ba)] [] h := by
  intro j
  induction j using Nat.strongRecOn with
  | ind j ih =>
    intro i x be hj hi hx1 hbe
    have hl9 := (wf.2 p.toInt.toNat (by omega)).1.2.1
    have hs9 := f_st_b ρ p.toInt.toNat
    refine w_iload (List.Mem.head _) (tX11_outOf_0_ok (5, .iload 4, 2) (List.mem_of_getElem? (i := 4) rfl)) ?_
    refine w_aload_n (List.Mem.tail _ (List.Mem.tail _ (List.Mem.head _))) (tX11_outOf_0_ok (7, .aload_n 0, 1) (List.mem_of_getElem? (i := 5) rfl)) ?_
    refine w_iload_n (List.Mem.tail _ (List.Mem.tail _ (List.Mem.tail _ (List.Mem.head _)))) (tX11_outOf_0_ok (8, .iload_n 1, 1) (List.mem_of_getElem? (i := 6) rfl)) ?_
    refine w_iconst (by decide) (tX11_outOf_0_ok (9, .iconst 1, 1) (List.mem_of_getElem? (i := 7) rfl)) (fun zv1 ze2 => ?_)
    refine w_callV (own := 16) (mi := 219) [.int p, .int zv1] [.int x] [(0, .ref m), (1, .int p), (2, .int zv1)] rfl (cllw_X11 (255, 0, 219) (List.mem_of_getElem? (i := 34) rfl)) rfl rfl c_m rfl (by omega) (w_lo (n := 22) rfl (by omega)) (Nat.le_of_ble_eq_true rfl) (Nat.le_of_ble_eq_true rfl) rfl (tX11_outOf_0_ok (10, .invokevirtual 255, 3) (List.mem_of_getElem? (i := 8) rfl)) (h_of2 hT (by omega) (by omega) c_m f19 c_ro (fun zv3 ze4 => ?_))
    have ze4r : zv3.toInt = ρ p.toInt.toNat 1 := by rw [ze4, show 9 * p.toInt.toNat + zv1.toInt.toNat = 9 * p.toInt.toNat + 1 by omega]; exact hρ _ (by omega) 1 (by decide)
    show ww l D tys A X fr lo mX11_outOf Q 13 [(4, .int x), (3, .int be), (0, .ref m), (1, .int p), (2, .int ba)] [.int zv3, .int x] h
    refine w_icmp_gt (tgt := 117) (tX11_outOf_0_ok (13, .if_icmp .gt 104, 3) (List.mem_of_getElem? (i := 9) rfl)) rfl (fun zb5 => ?_) (fun zb5 => ?_)
    · refine w_iload_n (List.Mem.tail _ (List.Mem.head _)) (tX11_outOf_1_ok (117, .iload_n 3, 1) (List.mem_of_getElem? (i := 9) rfl)) ?_
      refine w_iret rfl (tX11_outOf_1_ok (118, .ireturn, 1) (List.mem_of_getElem? (i := 10) rfl)) ?_
      have nx : ¬ i ≤ t_n ρ p.toInt.toNat := fun z => by have := (t_n_iff wf (p := p.toInt.toNat) (by omega)).mpr z; omega
      rcases hbe with ⟨z1, z2⟩ | ⟨k, z1, z3, z4, z5, z6⟩
      · have : (0 : Nat) ≤ t_n ρ p.toInt.toNat := Nat.zero_le _
        omega
      · refine hq _ z4 z5 ?_
        have nk : k ≤ t_n ρ p.toInt.toNat := (t_n_iff wf (by omega)).mp z3
        rw [t_G wf (by omega), z6, show t_n ρ p.toInt.toNat = k by omega]
    · have hx9 : f_x ρ p.toInt.toNat x.toInt := ⟨i, hi, by omega⟩
      have hx8 := f_x0 hx9
      refine w_iconst (by decide) (tX11_outOf_0_ok (16, .iconst 0, 1) (List.mem_of_getElem? (i := 10) rfl)) (fun zv6 ze7 => ?_)
      refine w_istore [(5, .int zv6), (4, .int x), (3, .int be), (0, .ref m), (1, .int p), (2, .int ba)] rfl (Nat.le_of_ble_eq_true rfl) (tX11_outOf_0_ok (17, .istore 5, 2) (List.mem_of_getElem? (i := 11) rfl)) ?_
      refine w_iconst (by decide) (tX11_outOf_0_ok (19, .iconst 0, 1) (List.mem_of_getElem? (i := 12) rfl)) (fun zv8 ze9 => ?_)
      refine w_istore [(6, .int zv8), (5, .int zv6), (4, .int x), (3, .int be), (0, .ref m), (1, .int p), (2, .int ba)] rfl (Nat.le_of_ble_eq_true rfl) (tX11_outOf_0_ok (20, .istore 6, 2) (List.mem_of_getElem? (i := 13) rfl)) ?_
      refine w_lv [(6, .int zv8), (5, .int zv6), (4, .int x), (3, .int be), (0, .ref m), (1, .int p), (2, .int ba)] (by intro q hq; simp only [List.mem_cons, List.not_mem_nil, or_false] at hq ⊢; rcases hq with e | e | e | e | e | e | e <;> subst e <;> simp) ?_
      refine r_ofSC hT c_m f19 f20 f26 c_ro c_wa hw hn wf hρ hof hf hl hp hba hx9 2 _ _ (by omega) (by omega) (by omega) (Or.inl ⟨by omega, by omega⟩) (fun zs10 zb11 zq12 zq13 zq14 => ?_)
      have bl9 := in_lt wf zq13
      show ww l D tys A X fr lo mX11_outOf Q 77 [(6, .int zs10), (5, .int zb11), (4, .int x), (3, .int be), (0, .ref m), (1, .int p), (2, .int ba)] [] h
      refine w_iload_n (List.Mem.tail _ (List.Mem.tail _ (List.Mem.tail _ (List.Mem.head _)))) (tX11_outOf_0_ok (77, .iload_n 3, 1) (List.mem_of_getElem? (i := 47) rfl)) ?_
      refine w_iconst (by decide) (tX11_outOf_0_ok (78, .iconst (-1), 1) (List.mem_of_getElem? (i := 48) rfl)) (fun zv15 ze16 => ?_)
      refine w_icmp_eq (tgt := 91) (tX11_outOf_0_ok (79, .if_icmp .eq 12, 3) (List.mem_of_getElem? (i := 49) rfl)) rfl (fun zb17 => ?_) (fun zb17 => ?_)
      · refine w_iload (List.Mem.tail _ (List.Mem.head _)) (tX11_outOf_0_ok (91, .iload 5, 2) (List.mem_of_getElem? (i := 54) rfl)) ?_
        refine w_istore_n [(3, .int zb11), (6, .int zs10), (5, .int zb11), (4, .int x), (0, .ref m), (1, .int p), (2, .int ba)] rfl (Nat.le_of_ble_eq_true rfl) (tX11_outOf_0_ok (93, .istore_n 3, 1) (List.mem_of_getElem? (i := 55) rfl)) ?_
        refine w_iload (List.Mem.tail _ (List.Mem.tail _ (List.Mem.tail _ (List.Mem.head _)))) (tX11_outOf_0_ok (94, .iload 4, 2) (List.mem_of_getElem? (i := 56) rfl)) ?_
        refine w_aload_n (List.Mem.tail _ (List.Mem.tail _ (List.Mem.tail _ (List.Mem.tail _ (List.Mem.head _))))) (tX11_outOf_0_ok (96, .aload_n 0, 1) (List.mem_of_getElem? (i := 57) rfl)) ?_
        refine w_iload_n (List.Mem.tail _ (List.Mem.tail _ (List.Mem.tail _ (List.Mem.tail _ (List.Mem.tail _ (List.Mem.head _)))))) (tX11_outOf_0_ok (97, .iload_n 1, 1) (List.mem_of_getElem? (i := 58) rfl)) ?_
        refine w_iconst (by decide) (tX11_outOf_0_ok (98, .iconst 0, 1) (List.mem_of_getElem? (i := 59) rfl)) (fun zv18 ze19 => ?_)
        refine w_callV (own := 16) (mi := 219) [.int p, .int zv18] [.int x] [(0, .ref m), (1, .int p), (2, .int zv18)] rfl (cllw_X11 (255, 0, 219) (List.mem_of_getElem? (i := 34) rfl)) rfl rfl c_m rfl (by omega) (w_lo (n := 22) rfl (by omega)) (Nat.le_of_ble_eq_true rfl) (Nat.le_of_ble_eq_true rfl) rfl (tX11_outOf_1_ok (99, .invokevirtual 255, 3) (List.mem_of_getElem? (i := 0) rfl)) (h_of2 hT (by omega) (by omega) c_m f19 c_ro (fun zv20 ze21 => ?_))
        have ze21r : zv20.toInt = ρ p.toInt.toNat 0 := by rw [ze21, show 9 * p.toInt.toNat + zv18.toInt.toNat = 9 * p.toInt.toNat + 0 by omega]; exact hρ _ (by omega) 0 (by decide)
        show ww l D tys A X fr lo mX11_outOf Q 102 [(3, .int zb11), (6, .int zs10), (5, .int zb11), (4, .int x), (0, .ref m), (1, .int p), (2, .int ba)] [.int zv20, .int x] h
        refine w_iconst (by decide) (tX11_outOf_1_ok (102, .iconst 1, 1) (List.mem_of_getElem? (i := 1) rfl)) (fun zv22 ze23 => ?_)
        refine w_icmp_ne (tgt := 110) (tX11_outOf_1_ok (103, .if_icmp .ne 7, 3) (List.mem_of_getElem? (i := 2) rfl)) rfl (fun zb24 => ?_) (fun zb24 => ?_)
        · refine w_iconst (by decide) (tX11_outOf_1_ok (110, .iconst 1, 1) (List.mem_of_getElem? (i := 5) rfl)) (fun zv25 ze26 => ?_)
          refine w_iadd (by omega) (by omega) (tX11_outOf_1_ok (111, .iadd, 1) (List.mem_of_getElem? (i := 6) rfl)) (fun zv27 ze28 => ?_)
          refine w_istore [(4, .int zv27), (3, .int zb11), (6, .int zs10), (5, .int zb11), (0, .ref m), (1, .int p), (2, .int ba)] rfl (Nat.le_of_ble_eq_true rfl) (tX11_outOf_1_ok (112, .istore 4, 2) (List.mem_of_getElem? (i := 7) rfl)) ?_
          refine w_goto (tgt := 5) (tX11_outOf_1_ok (114, .goto (-109), 3) (List.mem_of_getElem? (i := 8) rfl)) rfl ?_
          refine w_lv [(4, .int zv27), (3, .int zb11), (0, .ref m), (1, .int p), (2, .int ba)] (by intro q hq; simp only [List.mem_cons, List.not_mem_nil, or_false] at hq ⊢; rcases hq with e | e | e | e | e <;> subst e <;> simp) ?_
          have st9 : zv27.toInt = x.toInt + f_st ρ p.toInt.toNat := by
            unfold f_st
            first | rw [if_pos (by omega)] | rw [if_neg (by omega)]
            omega
          have fe9 : (fun i : Nat => t_at rp.toInt.toNat ρ W (t_C rp.toInt.toNat ρ W 6) p.toInt.toNat ba.toInt (f_st ρ p.toInt.toNat * (i : Int))) i = t_at rp.toInt.toNat ρ W (t_C rp.toInt.toNat ρ W 6) p.toInt.toNat ba.toInt x.toInt := by rw [hi]
          have bq : 0 ≤ zb11.toInt ∧ t_in rp.toInt.toNat ρ p.toInt.toNat zb11.toInt.toNat ∧ b_cst zb11.toInt.toNat = t_fm (fun i : Nat => t_at rp.toInt.toNat ρ W (t_C rp.toInt.toNat ρ W 6) p.toInt.toNat ba.toInt (f_st ρ p.toInt.toNat * (i : Int))) i := by
            rcases hbe with ⟨z1, z2⟩ | ⟨k, z1, z3, z4, z5, z6⟩
            · subst z1
              exact ⟨zq12, zq13, by rw [zq14, ← fe9]; rfl⟩
            · omega
          refine ih (ρ p.toInt.toNat 1 + 1 - zv27.toInt).toNat (by omega) (i + 1) _ _ rfl ?_ (by omega) (Or.inr ⟨i, rfl, by rw [← hi]; exact hx8.2, bq⟩)
          rw [st9, hi]
          push_cast
          rw [Int.mul_add, Int.mul_one]
        · refine w_iconst (by decide) (tX11_outOf_1_ok (106, .iconst 2, 1) (List.mem_of_getElem? (i := 3) rfl)) (fun zv29 ze30 => ?_)
          refine w_goto (tgt := 111) (tX11_outOf_1_ok (107, .goto 4, 3) (List.mem_of_getElem? (i := 4) rfl)) rfl ?_
          refine w_iadd (by omega) (by omega) (tX11_outOf_1_ok (111, .iadd, 1) (List.mem_of_getElem? (i := 6) rfl)) (fun zv31 ze32 => ?_)
          refine w_istore [(4, .int zv31), (3, .int zb11), (6, .int zs10), (5, .int zb11), (0, .ref m), (1, .int p), (2, .int ba)] rfl (Nat.le_of_ble_eq_true rfl) (tX11_outOf_1_ok (112, .istore 4, 2) (List.mem_of_getElem? (i := 7) rfl)) ?_
          refine w_goto (tgt := 5) (tX11_outOf_1_ok (114, .goto (-109), 3) (List.mem_of_getElem? (i := 8) rfl)) rfl ?_
          refine w_lv [(4, .int zv31), (3, .int zb11), (0, .ref m), (1, .int p), (2, .int ba)] (by intro q hq; simp only [List.mem_cons, List.not_mem_nil, or_false] at hq ⊢; rcases hq with e | e | e | e | e <;> subst e <;> simp) ?_
          have st9 : zv31.toInt = x.toInt + f_st ρ p.toInt.toNat := by
            unfold f_st
            first | rw [if_pos (by omega)] | rw [if_neg (by omega)]
            omega
          have fe9 : (fun i : Nat => t_at rp.toInt.toNat ρ W (t_C rp.toInt.toNat ρ W 6) p.toInt.toNat ba.toInt (f_st ρ p.toInt.toNat * (i : Int))) i = t_at rp.toInt.toNat ρ W (t_C rp.toInt.toNat ρ W 6) p.toInt.toNat ba.toInt x.toInt := by rw [hi]
          have bq : 0 ≤ zb11.toInt ∧ t_in rp.toInt.toNat ρ p.toInt.toNat zb11.toInt.toNat ∧ b_cst zb11.toInt.toNat = t_fm (fun i : Nat => t_at rp.toInt.toNat ρ W (t_C rp.toInt.toNat ρ W 6) p.toInt.toNat ba.toInt (f_st ρ p.toInt.toNat * (i : Int))) i := by
            rcases hbe with ⟨z1, z2⟩ | ⟨k, z1, z3, z4, z5, z6⟩
            · subst z1
              exact ⟨zq12, zq13, by rw [zq14, ← fe9]; rfl⟩
            · omega
          refine ih (ρ p.toInt.toNat 1 + 1 - zv31.toInt).toNat (by omega) (i + 1) _ _ rfl ?_ (by omega) (Or.inr ⟨i, rfl, by rw [← hi]; exact hx8.2, bq⟩)
          rw [st9, hi]
          push_cast
          rw [Int.mul_add, Int.mul_one]
      · have hbb : 0 ≤ be.toInt ∧ be.toInt ≤ 4095 := hbe.elim (fun z => absurd z.2 (by omega)) (fun ⟨k, _, _, z1, z2, _⟩ => ⟨z1, by have := in_lt wf z2; omega⟩)
        refine w_iload (List.Mem.tail _ (List.Mem.head _)) (tX11_outOf_0_ok (82, .iload 5, 2) (List.mem_of_getElem? (i := 50) rfl)) ?_
        refine w_iload_n (List.Mem.tail _ (List.Mem.tail _ (List.Mem.tail _ (List.Mem.head _)))) (tX11_outOf_0_ok (84, .iload_n 3, 1) (List.mem_of_getElem? (i := 51) rfl)) ?_
        refine w_callS (own := 16) (mi := 197) [.int zb11, .int be] [] [(0, .int zb11), (1, .int be)] rfl (cllw_X11 (367, 1, 197) (List.mem_of_getElem? (i := 61) rfl)) rfl rfl (by omega) (w_lo (n := 24) rfl (by omega)) (Nat.le_of_ble_eq_true rfl) (Nat.le_of_ble_eq_true rfl) rfl (tX11_outOf_0_ok (85, .invokestatic 367, 3) (List.mem_of_getElem? (i := 52) rfl)) (r_beforeC (by omega) (w_sub (n := 24) rfl (by omega)) (by omega) hbb (fun zv33 ze34 ze35 ze36 => ?_))
        show ww l D tys A X fr lo mX11_outOf Q 88 [(6, .int zs10), (5, .int zb11), (4, .int x), (3, .int be), (0, .ref m), (1, .int p), (2, .int ba)] [.int zv33] h
        refine w_if_eq (tgt := 94) (tX11_outOf_0_ok (88, .ifCond .eq 6, 3) (List.mem_of_getElem? (i := 53) rfl)) rfl (fun zb37 => ?_) (fun zb37 => ?_)
        · refine w_iload (List.Mem.tail _ (List.Mem.tail _ (List.Mem.head _))) (tX11_outOf_0_ok (94, .iload 4, 2) (List.mem_of_getElem? (i := 56) rfl)) ?_
          refine w_aload_n (List.Mem.tail _ (List.Mem.tail _ (List.Mem.tail _ (List.Mem.tail _ (List.Mem.head _))))) (tX11_outOf_0_ok (96, .aload_n 0, 1) (List.mem_of_getElem? (i := 57) rfl)) ?_
          refine w_iload_n (List.Mem.tail _ (List.Mem.tail _ (List.Mem.tail _ (List.Mem.tail _ (List.Mem.tail _ (List.Mem.head _)))))) (tX11_outOf_0_ok (97, .iload_n 1, 1) (List.mem_of_getElem? (i := 58) rfl)) ?_
          refine w_iconst (by decide) (tX11_outOf_0_ok (98, .iconst 0, 1) (List.mem_of_getElem? (i := 59) rfl)) (fun zv38 ze39 => ?_)
          refine w_callV (own := 16) (mi := 219) [.int p, .int zv38] [.int x] [(0, .ref m), (1, .int p), (2, .int zv38)] rfl (cllw_X11 (255, 0, 219) (List.mem_of_getElem? (i := 34) rfl)) rfl rfl c_m rfl (by omega) (w_lo (n := 22) rfl (by omega)) (Nat.le_of_ble_eq_true rfl) (Nat.le_of_ble_eq_true rfl) rfl (tX11_outOf_1_ok (99, .invokevirtual 255, 3) (List.mem_of_getElem? (i := 0) rfl)) (h_of2 hT (by omega) (by omega) c_m f19 c_ro (fun zv40 ze41 => ?_))
          have ze41r : zv40.toInt = ρ p.toInt.toNat 0 := by rw [ze41, show 9 * p.toInt.toNat + zv38.toInt.toNat = 9 * p.toInt.toNat + 0 by omega]; exact hρ _ (by omega) 0 (by decide)
          show ww l D tys A X fr lo mX11_outOf Q 102 [(6, .int zs10), (5, .int zb11), (4, .int x), (3, .int be), (0, .ref m), (1, .int p), (2, .int ba)] [.int zv40, .int x] h
          refine w_iconst (by decide) (tX11_outOf_1_ok (102, .iconst 1, 1) (List.mem_of_getElem? (i := 1) rfl)) (fun zv42 ze43 => ?_)
          refine w_icmp_ne (tgt := 110) (tX11_outOf_1_ok (103, .if_icmp .ne 7, 3) (List.mem_of_getElem? (i := 2) rfl)) rfl (fun zb44 => ?_) (fun zb44 => ?_)
          · refine w_iconst (by decide) (tX11_outOf_1_ok (110, .iconst 1, 1) (List.mem_of_getElem? (i := 5) rfl)) (fun zv45 ze46 => ?_)
            refine w_iadd (by omega) (by omega) (tX11_outOf_1_ok (111, .iadd, 1) (List.mem_of_getElem? (i := 6) rfl)) (fun zv47 ze48 => ?_)
            refine w_istore [(4, .int zv47), (6, .int zs10), (5, .int zb11), (3, .int be), (0, .ref m), (1, .int p), (2, .int ba)] rfl (Nat.le_of_ble_eq_true rfl) (tX11_outOf_1_ok (112, .istore 4, 2) (List.mem_of_getElem? (i := 7) rfl)) ?_
            refine w_goto (tgt := 5) (tX11_outOf_1_ok (114, .goto (-109), 3) (List.mem_of_getElem? (i := 8) rfl)) rfl ?_
            refine w_lv [(4, .int zv47), (3, .int be), (0, .ref m), (1, .int p), (2, .int ba)] (by intro q hq; simp only [List.mem_cons, List.not_mem_nil, or_false] at hq ⊢; rcases hq with e | e | e | e | e <;> subst e <;> simp) ?_
            have st9 : zv47.toInt = x.toInt + f_st ρ p.toInt.toNat := by
              unfold f_st
              first | rw [if_pos (by omega)] | rw [if_neg (by omega)]
              omega
            have fe9 : (fun i : Nat => t_at rp.toInt.toNat ρ W (t_C rp.toInt.toNat ρ W 6) p.toInt.toNat ba.toInt (f_st ρ p.toInt.toNat * (i : Int))) i = t_at rp.toInt.toNat ρ W (t_C rp.toInt.toNat ρ W 6) p.toInt.toNat ba.toInt x.toInt := by rw [hi]
            have bq : 0 ≤ be.toInt ∧ t_in rp.toInt.toNat ρ p.toInt.toNat be.toInt.toNat ∧ b_cst be.toInt.toNat = t_fm (fun i : Nat => t_at rp.toInt.toNat ρ W (t_C rp.toInt.toNat ρ W 6) p.toInt.toNat ba.toInt (f_st ρ p.toInt.toNat * (i : Int))) i := by
              rcases hbe with ⟨z1, z2⟩ | ⟨k, z1, z3, z4, z5, z6⟩
              · omega
              · subst z1
                have mn : t_fm (fun i : Nat => t_at rp.toInt.toNat ρ W (t_C rp.toInt.toNat ρ W 6) p.toInt.toNat ba.toInt (f_st ρ p.toInt.toNat * (i : Int))) (k + 1) = min (t_fm (fun i : Nat => t_at rp.toInt.toNat ρ W (t_C rp.toInt.toNat ρ W 6) p.toInt.toNat ba.toInt (f_st ρ p.toInt.toNat * (i : Int))) k) ((fun i : Nat => t_at rp.toInt.toNat ρ W (t_C rp.toInt.toNat ρ W 6) p.toInt.toNat ba.toInt (f_st ρ p.toInt.toNat * (i : Int))) (k + 1)) := rfl
                rw [fe9, ← z6, ← zq14] at mn
                have lt9 := mt ze36.mpr (by omega)
                exact ⟨z4, z5, by omega⟩
            refine ih (ρ p.toInt.toNat 1 + 1 - zv47.toInt).toNat (by omega) (i + 1) _ _ rfl ?_ (by omega) (Or.inr ⟨i, rfl, by rw [← hi]; exact hx8.2, bq⟩)
            rw [st9, hi]
            push_cast
            rw [Int.mul_add, Int.mul_one]
          · refine w_iconst (by decide) (tX11_outOf_1_ok (106, .iconst 2, 1) (List.mem_of_getElem? (i := 3) rfl)) (fun zv49 ze50 => ?_)
            refine w_goto (tgt := 111) (tX11_outOf_1_ok (107, .goto 4, 3) (List.mem_of_getElem? (i := 4) rfl)) rfl ?_
            refine w_iadd (by omega) (by omega) (tX11_outOf_1_ok (111, .iadd, 1) (List.mem_of_getElem? (i := 6) rfl)) (fun zv51 ze52 => ?_)
            refine w_istore [(4, .int zv51), (6, .int zs10), (5, .int zb11), (3, .int be), (0, .ref m), (1, .int p), (2, .int ba)] rfl (Nat.le_of_ble_eq_true rfl) (tX11_outOf_1_ok (112, .istore 4, 2) (List.mem_of_getElem? (i := 7) rfl)) ?_
            refine w_goto (tgt := 5) (tX11_outOf_1_ok (114, .goto (-109), 3) (List.mem_of_getElem? (i := 8) rfl)) rfl ?_
            refine w_lv [(4, .int zv51), (3, .int be), (0, .ref m), (1, .int p), (2, .int ba)] (by intro q hq; simp only [List.mem_cons, List.not_mem_nil, or_false] at hq ⊢; rcases hq with e | e | e | e | e <;> subst e <;> simp) ?_
            have st9 : zv51.toInt = x.toInt + f_st ρ p.toInt.toNat := by
              unfold f_st
              first | rw [if_pos (by omega)] | rw [if_neg (by omega)]
              omega
            have fe9 : (fun i : Nat => t_at rp.toInt.toNat ρ W (t_C rp.toInt.toNat ρ W 6) p.toInt.toNat ba.toInt (f_st ρ p.toInt.toNat * (i : Int))) i = t_at rp.toInt.toNat ρ W (t_C rp.toInt.toNat ρ W 6) p.toInt.toNat ba.toInt x.toInt := by rw [hi]
            have bq : 0 ≤ be.toInt ∧ t_in rp.toInt.toNat ρ p.toInt.toNat be.toInt.toNat ∧ b_cst be.toInt.toNat = t_fm (fun i : Nat => t_at rp.toInt.toNat ρ W (t_C rp.toInt.toNat ρ W 6) p.toInt.toNat ba.toInt (f_st ρ p.toInt.toNat * (i : Int))) i := by
              rcases hbe with ⟨z1, z2⟩ | ⟨k, z1, z3, z4, z5, z6⟩
              · omega
              · subst z1
                have mn : t_fm (fun i : Nat => t_at rp.toInt.toNat ρ W (t_C rp.toInt.toNat ρ W 6) p.toInt.toNat ba.toInt (f_st ρ p.toInt.toNat * (i : Int))) (k + 1) = min (t_fm (fun i : Nat => t_at rp.toInt.toNat ρ W (t_C rp.toInt.toNat ρ W 6) p.toInt.toNat ba.toInt (f_st ρ p.toInt.toNat * (i : Int))) k) ((fun i : Nat => t_at rp.toInt.toNat ρ W (t_C rp.toInt.toNat ρ W 6) p.toInt.toNat ba.toInt (f_st ρ p.toInt.toNat * (i : Int))) (k + 1)) := rfl
                rw [fe9, ← z6, ← zq14] at mn
                have lt9 := mt ze36.mpr (by omega)
                exact ⟨z4, z5, by omega⟩
            refine ih (ρ p.toInt.toNat 1 + 1 - zv51.toInt).toNat (by omega) (i + 1) _ _ rfl ?_ (by omega) (Or.inr ⟨i, rfl, by rw [← hi]; exact hx8.2, bq⟩)
            rw [st9, hi]
            push_cast
            rw [Int.mul_add, Int.mul_one]
        · refine w_iload (List.Mem.tail _ (List.Mem.head _)) (tX11_outOf_0_ok (91, .iload 5, 2) (List.mem_of_getElem? (i := 54) rfl)) ?_
          refine w_istore_n [(3, .int zb11), (6, .int zs10), (5, .int zb11), (4, .int x), (0, .ref m), (1, .int p), (2, .int ba)] rfl (Nat.le_of_ble_eq_true rfl) (tX11_outOf_0_ok (93, .istore_n 3, 1) (List.mem_of_getElem? (i := 55) rfl)) ?_
          refine w_iload (List.Mem.tail _ (List.Mem.tail _ (List.Mem.tail _ (List.Mem.head _)))) (tX11_outOf_0_ok (94, .iload 4, 2) (List.mem_of_getElem? (i := 56) rfl)) ?_
          refine w_aload_n (List.Mem.tail _ (List.Mem.tail _ (List.Mem.tail _ (List.Mem.tail _ (List.Mem.head _))))) (tX11_outOf_0_ok (96, .aload_n 0, 1) (List.mem_of_getElem? (i := 57) rfl)) ?_
          refine w_iload_n (List.Mem.tail _ (List.Mem.tail _ (List.Mem.tail _ (List.Mem.tail _ (List.Mem.tail _ (List.Mem.head _)))))) (tX11_outOf_0_ok (97, .iload_n 1, 1) (List.mem_of_getElem? (i := 58) rfl)) ?_
          refine w_iconst (by decide) (tX11_outOf_0_ok (98, .iconst 0, 1) (List.mem_of_getElem? (i := 59) rfl)) (fun zv53 ze54 => ?_)
          refine w_callV (own := 16) (mi := 219) [.int p, .int zv53] [.int x] [(0, .ref m), (1, .int p), (2, .int zv53)] rfl (cllw_X11 (255, 0, 219) (List.mem_of_getElem? (i := 34) rfl)) rfl rfl c_m rfl (by omega) (w_lo (n := 22) rfl (by omega)) (Nat.le_of_ble_eq_true rfl) (Nat.le_of_ble_eq_true rfl) rfl (tX11_outOf_1_ok (99, .invokevirtual 255, 3) (List.mem_of_getElem? (i := 0) rfl)) (h_of2 hT (by omega) (by omega) c_m f19 c_ro (fun zv55 ze56 => ?_))
          have ze56r : zv55.toInt = ρ p.toInt.toNat 0 := by rw [ze56, show 9 * p.toInt.toNat + zv53.toInt.toNat = 9 * p.toInt.toNat + 0 by omega]; exact hρ _ (by omega) 0 (by decide)
          show ww l D tys A X fr lo mX11_outOf Q 102 [(3, .int zb11), (6, .int zs10), (5, .int zb11), (4, .int x), (0, .ref m), (1, .int p), (2, .int ba)] [.int zv55, .int x] h
          refine w_iconst (by decide) (tX11_outOf_1_ok (102, .iconst 1, 1) (List.mem_of_getElem? (i := 1) rfl)) (fun zv57 ze58 => ?_)
          refine w_icmp_ne (tgt := 110) (tX11_outOf_1_ok (103, .if_icmp .ne 7, 3) (List.mem_of_getElem? (i := 2) rfl)) rfl (fun zb59 => ?_) (fun zb59 => ?_)
          · refine w_iconst (by decide) (tX11_outOf_1_ok (110, .iconst 1, 1) (List.mem_of_getElem? (i := 5) rfl)) (fun zv60 ze61 => ?_)
            refine w_iadd (by omega) (by omega) (tX11_outOf_1_ok (111, .iadd, 1) (List.mem_of_getElem? (i := 6) rfl)) (fun zv62 ze63 => ?_)
            refine w_istore [(4, .int zv62), (3, .int zb11), (6, .int zs10), (5, .int zb11), (0, .ref m), (1, .int p), (2, .int ba)] rfl (Nat.le_of_ble_eq_true rfl) (tX11_outOf_1_ok (112, .istore 4, 2) (List.mem_of_getElem? (i := 7) rfl)) ?_
            refine w_goto (tgt := 5) (tX11_outOf_1_ok (114, .goto (-109), 3) (List.mem_of_getElem? (i := 8) rfl)) rfl ?_
            refine w_lv [(4, .int zv62), (3, .int zb11), (0, .ref m), (1, .int p), (2, .int ba)] (by intro q hq; simp only [List.mem_cons, List.not_mem_nil, or_false] at hq ⊢; rcases hq with e | e | e | e | e <;> subst e <;> simp) ?_
            have st9 : zv62.toInt = x.toInt + f_st ρ p.toInt.toNat := by
              unfold f_st
              first | rw [if_pos (by omega)] | rw [if_neg (by omega)]
              omega
            have fe9 : (fun i : Nat => t_at rp.toInt.toNat ρ W (t_C rp.toInt.toNat ρ W 6) p.toInt.toNat ba.toInt (f_st ρ p.toInt.toNat * (i : Int))) i = t_at rp.toInt.toNat ρ W (t_C rp.toInt.toNat ρ W 6) p.toInt.toNat ba.toInt x.toInt := by rw [hi]
            have bq : 0 ≤ zb11.toInt ∧ t_in rp.toInt.toNat ρ p.toInt.toNat zb11.toInt.toNat ∧ b_cst zb11.toInt.toNat = t_fm (fun i : Nat => t_at rp.toInt.toNat ρ W (t_C rp.toInt.toNat ρ W 6) p.toInt.toNat ba.toInt (f_st ρ p.toInt.toNat * (i : Int))) i := by
              rcases hbe with ⟨z1, z2⟩ | ⟨k, z1, z3, z4, z5, z6⟩
              · omega
              · subst z1
                have mn : t_fm (fun i : Nat => t_at rp.toInt.toNat ρ W (t_C rp.toInt.toNat ρ W 6) p.toInt.toNat ba.toInt (f_st ρ p.toInt.toNat * (i : Int))) (k + 1) = min (t_fm (fun i : Nat => t_at rp.toInt.toNat ρ W (t_C rp.toInt.toNat ρ W 6) p.toInt.toNat ba.toInt (f_st ρ p.toInt.toNat * (i : Int))) k) ((fun i : Nat => t_at rp.toInt.toNat ρ W (t_C rp.toInt.toNat ρ W 6) p.toInt.toNat ba.toInt (f_st ρ p.toInt.toNat * (i : Int))) (k + 1)) := rfl
                rw [fe9, ← z6, ← zq14] at mn
                have lt9 := ze36.mp (by omega)
                exact ⟨zq12, zq13, by omega⟩
            refine ih (ρ p.toInt.toNat 1 + 1 - zv62.toInt).toNat (by omega) (i + 1) _ _ rfl ?_ (by omega) (Or.inr ⟨i, rfl, by rw [← hi]; exact hx8.2, bq⟩)
            rw [st9, hi]
            push_cast
            rw [Int.mul_add, Int.mul_one]
          · refine w_iconst (by decide) (tX11_outOf_1_ok (106, .iconst 2, 1) (List.mem_of_getElem? (i := 3) rfl)) (fun zv64 ze65 => ?_)
            refine w_goto (tgt := 111) (tX11_outOf_1_ok (107, .goto 4, 3) (List.mem_of_getElem? (i := 4) rfl)) rfl ?_
            refine w_iadd (by omega) (by omega) (tX11_outOf_1_ok (111, .iadd, 1) (List.mem_of_getElem? (i := 6) rfl)) (fun zv66 ze67 => ?_)
            refine w_istore [(4, .int zv66), (3, .int zb11), (6, .int zs10), (5, .int zb11), (0, .ref m), (1, .int p), (2, .int ba)] rfl (Nat.le_of_ble_eq_true rfl) (tX11_outOf_1_ok (112, .istore 4, 2) (List.mem_of_getElem? (i := 7) rfl)) ?_
            refine w_goto (tgt := 5) (tX11_outOf_1_ok (114, .goto (-109), 3) (List.mem_of_getElem? (i := 8) rfl)) rfl ?_
            refine w_lv [(4, .int zv66), (3, .int zb11), (0, .ref m), (1, .int p), (2, .int ba)] (by intro q hq; simp only [List.mem_cons, List.not_mem_nil, or_false] at hq ⊢; rcases hq with e | e | e | e | e <;> subst e <;> simp) ?_
            have st9 : zv66.toInt = x.toInt + f_st ρ p.toInt.toNat := by
              unfold f_st
              first | rw [if_pos (by omega)] | rw [if_neg (by omega)]
              omega
            have fe9 : (fun i : Nat => t_at rp.toInt.toNat ρ W (t_C rp.toInt.toNat ρ W 6) p.toInt.toNat ba.toInt (f_st ρ p.toInt.toNat * (i : Int))) i = t_at rp.toInt.toNat ρ W (t_C rp.toInt.toNat ρ W 6) p.toInt.toNat ba.toInt x.toInt := by rw [hi]
            have bq : 0 ≤ zb11.toInt ∧ t_in rp.toInt.toNat ρ p.toInt.toNat zb11.toInt.toNat ∧ b_cst zb11.toInt.toNat = t_fm (fun i : Nat => t_at rp.toInt.toNat ρ W (t_C rp.toInt.toNat ρ W 6) p.toInt.toNat ba.toInt (f_st ρ p.toInt.toNat * (i : Int))) i := by
              rcases hbe with ⟨z1, z2⟩ | ⟨k, z1, z3, z4, z5, z6⟩
              · omega
              · subst z1
                have mn : t_fm (fun i : Nat => t_at rp.toInt.toNat ρ W (t_C rp.toInt.toNat ρ W 6) p.toInt.toNat ba.toInt (f_st ρ p.toInt.toNat * (i : Int))) (k + 1) = min (t_fm (fun i : Nat => t_at rp.toInt.toNat ρ W (t_C rp.toInt.toNat ρ W 6) p.toInt.toNat ba.toInt (f_st ρ p.toInt.toNat * (i : Int))) k) ((fun i : Nat => t_at rp.toInt.toNat ρ W (t_C rp.toInt.toNat ρ W 6) p.toInt.toNat ba.toInt (f_st ρ p.toInt.toNat * (i : Int))) (k + 1)) := rfl
                rw [fe9, ← z6, ← zq14] at mn
                have lt9 := ze36.mp (by omega)
                exact ⟨zq12, zq13, by omega⟩
            refine ih (ρ p.toInt.toNat 1 + 1 - zv66.toInt).toNat (by omega) (i + 1) _ _ rfl ?_ (by omega) (Or.inr ⟨i, rfl, by rw [← hi]; exact hx8.2, bq⟩)
            rw [st9, hi]
            push_cast
            rw [Int.mul_add, Int.mul_one]
theorem r_outOfC (hT : k_tys tys cA) {m ro wa : Nat} {fs : List Value} {R gw : Nat → Int32} {rp : Int32} (c_m : h m = some (.inr (10, fs))) (f19 : fs[19]? = some (.ref ro)) (f20 : fs[20]? = some (.int rp)) (f26 : fs[26]? = some (.ref wa)) (c_ro : h ro = some (.inl (cA 0, 108, .inl R))) (c_wa : h wa = some (.inl (cA 0, 12, .inl gw))) (hw : ∀ r, r < 12 → (gw r).toInt = W r) (hn : 0 ≤ rp.toInt ∧ rp.toInt ≤ 6) (wf : wfR rp.toInt.toNat ρ) (hρ : ∀ q, q < rp.toInt.toNat → ∀ w, w < 9 → (R (9 * q + w)).toInt = ρ q w) : ∀ (k p : Nat), p < rp.toInt.toNat → 6 ≤ p + k → ∀ base : Int, 0 ≤ base ∧ base ≤ 20 * p → oT l D tys A X h m rp.toInt.toNat ρ W p base (2 * k + 2) (60 * k + 60)
  | 0, p, hp, h6, base, hb => by
    have := wf.1
    omega
  | k + 1, p, hp, h6, base, hb => by
    intro fr lo Q pI bI hf hl ep eb hq
    have h66 := wf.1
    have pp9 : pI.toInt.toNat = p := by omega
    refine w_iconst (by decide) (tX11_outOf_0_ok (0, .iconst (-1), 1) (List.mem_of_getElem? (i := 0) rfl)) (fun zv1 ze2 => ?_)
    refine w_istore_n [(3, .int zv1), (0, .ref m), (1, .int pI), (2, .int bI)] rfl (Nat.le_of_ble_eq_true rfl) (tX11_outOf_0_ok (1, .istore_n 3, 1) (List.mem_of_getElem? (i := 1) rfl)) ?_
    refine w_iconst (by decide) (tX11_outOf_0_ok (2, .iconst 0, 1) (List.mem_of_getElem? (i := 2) rfl)) (fun zv3 ze4 => ?_)
    refine w_istore [(4, .int zv3), (3, .int zv1), (0, .ref m), (1, .int pI), (2, .int bI)] rfl (Nat.le_of_ble_eq_true rfl) (tX11_outOf_0_ok (3, .istore 4, 2) (List.mem_of_getElem? (i := 3) rfl)) ?_
    refine w_lv [(4, .int zv3), (3, .int zv1), (0, .ref m), (1, .int pI), (2, .int bI)] (by intro q hq; simp only [List.mem_cons, List.not_mem_nil, or_false] at hq ⊢; rcases hq with e | e | e | e | e <;> subst e <;> simp) ?_
    refine r_ofXC hT c_m f19 f20 f26 c_ro c_wa hw hn wf hρ (fb := 2 * k + 2) (lb := 60 * k + 60) (fun q _ h1 s h2 h3 dd h4 => r_outOfC hT c_m f19 f20 f26 c_ro c_wa hw hn wf hρ k q h1 (by have := f_up wf (p := pI.toInt.toNat) (s := s) h1 h3; omega) dd (by have := f_up wf (p := pI.toInt.toNat) (s := s) h1 h3; omega)) (by omega) (by omega) (by omega) (by omega) (fun v h1 h2 h3 => hq v h1 ?_ ?_) _ 0 _ _ rfl (by simp; omega) (by omega) (Or.inl ⟨rfl, by omega⟩)
    · rw [pp9] at h2
      exact h2
    · rw [pp9, eb] at h3
      exact h3
end
