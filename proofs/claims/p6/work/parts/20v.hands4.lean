/-! the reference's spread by hand: its bits grow -/
theorem and1 (x : Int32) : (x &&& 1).toInt = x.toInt % 2 := by
  rw [← Int32.toInt_toBitVec, ← Int32.toInt_toBitVec x, Int32.toBitVec_and]
  have h1 : (x.toBitVec &&& (1 : Int32).toBitVec).toNat = x.toBitVec.toNat % 2 := by
    rw [BitVec.toNat_and]
    exact Nat.and_two_pow_sub_one_eq_mod _ 1
  have h2 := x.toBitVec.isLt
  rw [BitVec.toInt_eq_toNat_cond, BitVec.toInt_eq_toNat_cond, h1]
  split <;> split <;> omega
def bt9 (x : Int32) (k : Nat) : Bool := x.toBitVec.getLsbD k
theorem bt9_div (x : Int32) (k : Nat) (hk : k < 18) : bt9 x k = true ↔ (x.toInt / (2 ^ k : Nat)) % 2 = 1 := by
  have h1 : bt9 x k = decide (x.toBitVec.toNat / 2 ^ k % 2 = 1) := Nat.testBit_eq_decide_div_mod_eq
  rw [h1, decide_eq_true_iff, ← Int32.toInt_toBitVec, BitVec.toInt_eq_toNat_cond]
  have h2 := x.toBitVec.isLt
  generalize x.toBitVec.toNat = n at h2 ⊢
  have h3 : k = 0 ∨ k = 1 ∨ k = 2 ∨ k = 3 ∨ k = 4 ∨ k = 5 ∨ k = 6 ∨ k = 7 ∨ k = 8 ∨ k = 9 ∨ k = 10 ∨ k = 11 ∨ k = 12 ∨ k = 13 ∨ k = 14 ∨ k = 15 ∨ k = 16 ∨ k = 17 := by omega
  rcases h3 with rfl | rfl | rfl | rfl | rfl | rfl | rfl | rfl | rfl | rfl | rfl | rfl | rfl | rfl | rfl | rfl | rfl | rfl <;> simp only [Nat.reducePow] <;> split <;> omega
theorem bt9_has {x k z v w : Int32} {kk : Nat} (hk : k.toInt = (kk : Int)) (h18 : kk < 18) (hz : z.toInt = 1) (e1 : v = x >>> (k &&& 31)) (e2 : w = v &&& z) : (w.toInt = 1 ↔ bt9 x kk = true) ∧ 0 ≤ w.toInt ∧ w.toInt ≤ 1 := by
  have hz2 : z = 1 := (kn_eq _ _).mpr (by rw [hz]; rfl)
  subst hz2
  have h1 : w.toInt = (x.toInt / (2 ^ kk : Nat)) % 2 := by rw [e2, and1, e1, kn_shr x k (by omega) hk]
  rw [bt9_div x kk h18, h1]
  exact ⟨Iff.rfl, by omega, by omega⟩
theorem bt9_one : ∀ b, b < 18 → ∀ k, k < 18 → bt9 ((1 : Int32) <<< (Int32.ofNat b &&& 31)) k = decide (k = b) := by decide +kernel
theorem bt9_or {x k z v w : Int32} {kk : Nat} (hk : k.toInt = (kk : Int)) (h18 : kk < 18) (hz : z.toInt = 1) (e1 : v = z <<< (k &&& 31)) (e2 : w = x ||| v) : ∀ j, j < 18 → bt9 w j = (bt9 x j || decide (j = kk)) := by
  intro j hj
  have hz2 : z = 1 := (kn_eq _ _).mpr (by rw [hz]; rfl)
  have hk2 := kn_nat hk
  have h1 := bt9_one kk h18 j hj
  rw [← hk2] at h1
  subst hz2 e2
  rw [← h1, ← e1]
  unfold bt9
  rw [Int32.toBitVec_or, BitVec.getLsbD_or]
/-- how many of the 18 places aren't in -/
def bt_n (x : Int32) : Nat := (List.range 18).countP (fun k => !bt9 x k)
theorem countP_lt {p q : Nat → Bool} {b : Nat} : ∀ l : List Nat, (∀ k, k ∈ l → p k = true → q k = true) → b ∈ l → p b = false → q b = true → l.countP p < l.countP q
  | [], _, hb, _, _ => nomatch hb
  | a :: l, h, hb, h1, h2 => by
    rw [List.countP_cons, List.countP_cons]
    have hle : l.countP p ≤ l.countP q := by
      refine List.countP_mono_left (fun k hk hp => h k (List.mem_cons_of_mem _ hk) hp)
    rcases List.mem_cons.mp hb with rfl | hb
    · rw [h1, h2]
      simp
      omega
    · have := countP_lt l (fun k hk => h k (List.mem_cons_of_mem _ hk)) hb h1 h2
      have h3 := h a (List.mem_cons_self)
      cases hp : p a with
      | false => simp; split <;> omega
      | true => rw [h3 hp]; simp; omega
theorem bt_n_lt {x k z v w : Int32} {kk : Nat} (hk : k.toInt = (kk : Int)) (h18 : kk < 18) (hz : z.toInt = 1) (hn : ¬ bt9 x kk = true) (e1 : v = z <<< (k &&& 31)) (e2 : w = x ||| v) : bt_n w < bt_n x := by
  have h1 := bt9_or hk h18 hz e1 e2
  refine countP_lt (b := kk) _ (fun j hj hp => ?_) (List.mem_range.mpr h18) ?_ ?_
  · rw [h1 j (List.mem_range.mp hj)] at hp
    cases hx : bt9 x j with
    | false => rfl
    | true => rw [hx] at hp; simp at hp
  · rw [h1 kk h18]; simp
  · cases hx : bt9 x kk with
    | false => rfl
    | true => exact absurd hx hn
section
variable {l : Launch} {D : va_G} {tys : List (ClassId × FieldType)} {A : Nat → Prop} {X : State → Prop} {fr lo : Nat} {Q : Option Value → ch_H → Prop} {h : ch_H} {cA : Nat → ClassId} {Sg : Nat → Option Nat}
theorem h_has {xx k : Int32} {kk : Nat} (hk : k.toInt = (kk : Int)) (h18 : kk < 18) (hq : ∀ v : Int32, (v.toInt = 0 ∨ v.toInt = 1) ∧ (¬ v.toInt = 0 ↔ bt9 xx kk = true) → Q (some (.int v)) h) : ww l D tys A X fr lo mX11_has Q 0 [(0, .int xx), (1, .int k)] [] h := by
  refine w_iload_n (List.Mem.head _) (tX11_has_0_ok (0, .iload_n 0, 1) (List.mem_of_getElem? (i := 0) rfl)) ?_
  refine w_iload_n (List.Mem.tail _ (List.Mem.head _)) (tX11_has_0_ok (1, .iload_n 1, 1) (List.mem_of_getElem? (i := 1) rfl)) ?_
  refine w_ishr (tX11_has_0_ok (2, .ishr, 1) (List.mem_of_getElem? (i := 2) rfl)) (fun v1 e2 => ?_)
  refine w_iconst (by decide) (tX11_has_0_ok (3, .iconst 1, 1) (List.mem_of_getElem? (i := 3) rfl)) (fun v3 e4 => ?_)
  refine w_iand (tX11_has_0_ok (4, .iand, 1) (List.mem_of_getElem? (i := 4) rfl)) (fun v5 e6 => ?_)
  have d9 := bt9_has hk h18 (by omega) e2 e6
  obtain ⟨d8, d7, d6⟩ := d9
  refine w_iconst (by decide) (tX11_has_0_ok (5, .iconst 1, 1) (List.mem_of_getElem? (i := 5) rfl)) (fun v7 e8 => ?_)
  refine w_icmp_ne (tgt := 13) (tX11_has_0_ok (6, .if_icmp .ne 7, 3) (List.mem_of_getElem? (i := 6) rfl)) rfl (fun b9 => ?_) (fun b9 => ?_)
  · refine w_iconst (by decide) (tX11_has_0_ok (13, .iconst 0, 1) (List.mem_of_getElem? (i := 9) rfl)) (fun v10 e11 => ?_)
    refine w_zret rfl (by omega) (by omega) (tX11_has_0_ok (14, .ireturn, 1) (List.mem_of_getElem? (i := 10) rfl)) ?_
    refine hq v10 ?_
    exact ⟨by omega, ⟨fun q => d8.mp (by omega), fun q => by have q2 := d8.mpr q; omega⟩⟩
  · refine w_iconst (by decide) (tX11_has_0_ok (9, .iconst 1, 1) (List.mem_of_getElem? (i := 7) rfl)) (fun v12 e13 => ?_)
    refine w_goto (tgt := 14) (tX11_has_0_ok (10, .goto 4, 3) (List.mem_of_getElem? (i := 8) rfl)) rfl ?_
    refine w_zret rfl (by omega) (by omega) (tX11_has_0_ok (14, .ireturn, 1) (List.mem_of_getElem? (i := 10) rfl)) ?_
    refine hq v12 ?_
    exact ⟨by omega, ⟨fun q => d8.mp (by omega), fun q => by have q2 := d8.mpr q; omega⟩⟩
theorem h_spI {m : Nat} {so : Int32} (sm : Sg m = some 50) (har : k_sat l D tys A X Sg cA Lb (160, [(2, 50, 0), (0, 0, 17), (0, 0, 17)], [], some (0, 0, 1), [], 3, 100)) (hme : k_sat l D tys A X Sg cA Lb (214, [(2, 50, 0), (0, 0, 17), (0, 0, 17)], [], some (0, 0, 1), [], 8, 177)) (hf : 10 ≤ fr) (hl : 300 ≤ lo) {a : Int32} (ha : 0 ≤ a.toInt ∧ a.toInt ≤ 17) {n0 : Nat} : ∀ (j : Nat) (b mo bi : Int32) (h : ch_H), 0 ≤ b.toInt → b.toInt + j = 18 → 0 ≤ mo.toInt → bt_n bi ≤ n0 → (¬ mo.toInt = 0 → bt_n bi < n0) → k_H Sg cA Lb h → (∀ (g : ch_H) (mo1 bi1 b1 : Int32), k_H Sg cA Lb g → 0 ≤ mo1.toInt → bt_n bi1 ≤ n0 → (¬ mo1.toInt = 0 → bt_n bi1 < n0) → k_U Sg [] h g → ww l D tys A X fr lo mX11_spread Q 88 [(5, .int b1), (4, .int a), (3, .int mo1), (2, .int bi1), (0, .ref m), (1, .int so)] [] g) → ww l D tys A X fr lo mX11_spread Q 23 [(5, .int b), (4, .int a), (3, .int mo), (2, .int bi), (0, .ref m), (1, .int so)] [] h := by
  intro j
  induction j using Nat.strongRecOn with
  | ind j ih =>
    intro b mo bi h hb0 hj hm0 hb hm hH hq
    obtain ⟨fs, c_m, -⟩ := hH.obj sm (L := 50) rfl
    refine w_iload (List.Mem.head _) (tX11_spread_0_ok (23, .iload 5, 2) (List.mem_of_getElem? (i := 15) rfl)) ?_
    refine w_bipush (by decide) (tX11_spread_0_ok (25, .bipush 18, 2) (List.mem_of_getElem? (i := 16) rfl)) (fun v1 e2 => ?_)
    refine w_icmp_ge (tgt := 88) (tX11_spread_0_ok (27, .if_icmp .ge 61, 3) (List.mem_of_getElem? (i := 17) rfl)) rfl (fun b3 => ?_) (fun b3 => ?_)
    · refine w_lv [(5, .int b), (4, .int a), (3, .int mo), (2, .int bi), (0, .ref m), (1, .int so)] (by intro q hq; simp only [List.mem_cons, List.not_mem_nil, or_false] at hq ⊢; rcases hq with e | e | e | e | e | e <;> subst e <;> simp) ?_
      exact hq _ _ _ _ hH hm0 hb hm (k_U.rf)
    · refine w_iload_n (List.Mem.tail _ (List.Mem.tail _ (List.Mem.tail _ (List.Mem.head _)))) (tX11_spread_0_ok (30, .iload_n 2, 1) (List.mem_of_getElem? (i := 18) rfl)) ?_
      refine w_iload (List.Mem.tail _ (List.Mem.head _)) (tX11_spread_0_ok (31, .iload 4, 2) (List.mem_of_getElem? (i := 19) rfl)) ?_
      refine w_callS (own := 16) (mi := 191) [.int bi, .int a] [] [(0, .int bi), (1, .int a)] rfl (cllw_X11 (217, 1, 191) (List.mem_of_getElem? (i := 10) rfl)) rfl rfl (by omega) (w_lo (n := 21) rfl (by omega)) (Nat.le_of_ble_eq_true rfl) (Nat.le_of_ble_eq_true rfl) rfl (tX11_spread_0_ok (33, .invokestatic 217, 3) (List.mem_of_getElem? (i := 20) rfl)) (h_has (kk := a.toInt.toNat) (by omega) (by omega) (fun v4 e5 => ?_))
      have e5a := e5.1
      show ww l D tys A X fr lo mX11_spread Q 36 [(5, .int b), (4, .int a), (3, .int mo), (2, .int bi), (0, .ref m), (1, .int so)] [.int v4] h
      refine w_if_eq (tgt := 88) (tX11_spread_0_ok (36, .ifCond .eq 52, 3) (List.mem_of_getElem? (i := 21) rfl)) rfl (fun b6 => ?_) (fun b6 => ?_)
      · refine w_lv [(5, .int b), (4, .int a), (3, .int mo), (2, .int bi), (0, .ref m), (1, .int so)] (by intro q hq; simp only [List.mem_cons, List.not_mem_nil, or_false] at hq ⊢; rcases hq with e | e | e | e | e | e <;> subst e <;> simp) ?_
        exact hq _ _ _ _ hH hm0 hb hm (k_U.rf)
      · refine w_iload_n (List.Mem.tail _ (List.Mem.tail _ (List.Mem.tail _ (List.Mem.head _)))) (tX11_spread_0_ok (39, .iload_n 2, 1) (List.mem_of_getElem? (i := 22) rfl)) ?_
        refine w_iload (List.Mem.head _) (tX11_spread_0_ok (40, .iload 5, 2) (List.mem_of_getElem? (i := 23) rfl)) ?_
        refine w_callS (own := 16) (mi := 191) [.int bi, .int b] [] [(0, .int bi), (1, .int b)] rfl (cllw_X11 (217, 1, 191) (List.mem_of_getElem? (i := 10) rfl)) rfl rfl (by omega) (w_lo (n := 21) rfl (by omega)) (Nat.le_of_ble_eq_true rfl) (Nat.le_of_ble_eq_true rfl) rfl (tX11_spread_0_ok (42, .invokestatic 217, 3) (List.mem_of_getElem? (i := 24) rfl)) (h_has (kk := b.toInt.toNat) (by omega) (by omega) (fun v7 e8 => ?_))
        have e8a := e8.1
        show ww l D tys A X fr lo mX11_spread Q 45 [(5, .int b), (4, .int a), (3, .int mo), (2, .int bi), (0, .ref m), (1, .int so)] [.int v7] h
        refine w_if_ne (tgt := 82) (tX11_spread_0_ok (45, .ifCond .ne 37, 3) (List.mem_of_getElem? (i := 25) rfl)) rfl (fun b9 => ?_) (fun b9 => ?_)
        · refine w_iinc (fun v10 => [(5, .int v10), (4, .int a), (3, .int mo), (2, .int bi), (0, .ref m), (1, .int so)]) (fun _ => rfl) (List.Mem.head _) (Nat.le_of_ble_eq_true rfl) (by decide) (by omega) (by omega) (tX11_spread_0_ok (82, .iinc 5 1, 3) (List.mem_of_getElem? (i := 45) rfl)) (fun v10 e11 => ?_)
          refine w_goto (tgt := 23) (tX11_spread_0_ok (85, .goto (-62), 3) (List.mem_of_getElem? (i := 46) rfl)) rfl ?_
          refine w_lv [(5, .int v10), (4, .int a), (3, .int mo), (2, .int bi), (0, .ref m), (1, .int so)] (by intro q hq; simp only [List.mem_cons, List.not_mem_nil, or_false] at hq ⊢; rcases hq with e | e | e | e | e | e <;> subst e <;> simp) ?_
          exact ih (j - 1) (by omega) _ _ _ _ (by omega) (by omega) hm0 hb hm hH (fun g mo1 bi1 b1 q1 q2 q3 q4 q5 => hq g mo1 bi1 b1 q1 q2 q3 q4 (q5))
        · refine w_aload_n (List.Mem.tail _ (List.Mem.tail _ (List.Mem.tail _ (List.Mem.tail _ (List.Mem.head _))))) (tX11_spread_0_ok (48, .aload_n 0, 1) (List.mem_of_getElem? (i := 26) rfl)) ?_
          refine w_iload (List.Mem.tail _ (List.Mem.head _)) (tX11_spread_0_ok (49, .iload 4, 2) (List.mem_of_getElem? (i := 27) rfl)) ?_
          refine w_iload (List.Mem.head _) (tX11_spread_0_ok (51, .iload 5, 2) (List.mem_of_getElem? (i := 28) rfl)) ?_
          refine w_callKV (own := 16) (mi := 160) [.int a, .int b] [] rfl (cllw_X11 (320, 0, 160) (List.mem_of_getElem? (i := 46) rfl)) rfl rfl rfl c_m rfl har hH rfl (fun i ty hi => ?_) (by omega) (Nat.le_trans (Nat.le_of_ble_eq_true rfl) hl) (Nat.le_of_ble_eq_true rfl) (Nat.le_of_ble_eq_true rfl) (tX11_spread_0_ok (53, .invokevirtual 320, 3) (List.mem_of_getElem? (i := 29) rfl)) (fun r12 g13 e14 e15 e16 => ?_)
          · match i, hi with
            | 0, hi => cases hi; exact ⟨_, rfl, m, rfl, sm⟩
            | 1, hi => cases hi; exact ⟨_, rfl, _, rfl, (show (0 : Int) ≤ _ by omega), (show _ ≤ (17 : Int) by omega)⟩
            | 2, hi => cases hi; exact ⟨_, rfl, _, rfl, (show (0 : Int) ≤ _ by omega), (show _ ≤ (17 : Int) by omega)⟩
          obtain ⟨v179, rfl, v17, rfl, b18, b19⟩ := e16
          have b18a : 0 ≤ v17.toInt := b18
          have b19a : v17.toInt ≤ 1 := b19
          have c20 := (k_U.nil hH e15 sm).trans c_m
          show ww l D tys A X fr lo mX11_spread Q 56 [(5, .int b), (4, .int a), (3, .int mo), (2, .int bi), (0, .ref m), (1, .int so)] [.int v17] g13
          clear hH
          have hH := e14
          refine w_if_eq (tgt := 82) (tX11_spread_0_ok (56, .ifCond .eq 26, 3) (List.mem_of_getElem? (i := 30) rfl)) rfl (fun b21 => ?_) (fun b21 => ?_)
          · refine w_iinc (fun v22 => [(5, .int v22), (4, .int a), (3, .int mo), (2, .int bi), (0, .ref m), (1, .int so)]) (fun _ => rfl) (List.Mem.head _) (Nat.le_of_ble_eq_true rfl) (by decide) (by omega) (by omega) (tX11_spread_0_ok (82, .iinc 5 1, 3) (List.mem_of_getElem? (i := 45) rfl)) (fun v22 e23 => ?_)
            refine w_goto (tgt := 23) (tX11_spread_0_ok (85, .goto (-62), 3) (List.mem_of_getElem? (i := 46) rfl)) rfl ?_
            refine w_lv [(5, .int v22), (4, .int a), (3, .int mo), (2, .int bi), (0, .ref m), (1, .int so)] (by intro q hq; simp only [List.mem_cons, List.not_mem_nil, or_false] at hq ⊢; rcases hq with e | e | e | e | e | e <;> subst e <;> simp) ?_
            exact ih (j - 1) (by omega) _ _ _ _ (by omega) (by omega) hm0 hb hm hH (fun g mo1 bi1 b1 q1 q2 q3 q4 q5 => hq g mo1 bi1 b1 q1 q2 q3 q4 ((e15).tr q5))
          · refine w_aload_n (List.Mem.tail _ (List.Mem.tail _ (List.Mem.tail _ (List.Mem.tail _ (List.Mem.head _))))) (tX11_spread_0_ok (59, .aload_n 0, 1) (List.mem_of_getElem? (i := 31) rfl)) ?_
            refine w_iload (List.Mem.tail _ (List.Mem.head _)) (tX11_spread_0_ok (60, .iload 4, 2) (List.mem_of_getElem? (i := 32) rfl)) ?_
            refine w_iload (List.Mem.head _) (tX11_spread_0_ok (62, .iload 5, 2) (List.mem_of_getElem? (i := 33) rfl)) ?_
            refine w_callKV (own := 16) (mi := 214) [.int a, .int b] [] rfl (cllw_X11 (323, 0, 214) (List.mem_of_getElem? (i := 48) rfl)) rfl rfl rfl c20 rfl hme hH rfl (fun i ty hi => ?_) (by omega) (Nat.le_trans (Nat.le_of_ble_eq_true rfl) hl) (Nat.le_of_ble_eq_true rfl) (Nat.le_of_ble_eq_true rfl) (tX11_spread_0_ok (64, .invokevirtual 323, 3) (List.mem_of_getElem? (i := 34) rfl)) (fun r24 g25 e26 e27 e28 => ?_)
            · match i, hi with
              | 0, hi => cases hi; exact ⟨_, rfl, m, rfl, sm⟩
              | 1, hi => cases hi; exact ⟨_, rfl, _, rfl, (show (0 : Int) ≤ _ by omega), (show _ ≤ (17 : Int) by omega)⟩
              | 2, hi => cases hi; exact ⟨_, rfl, _, rfl, (show (0 : Int) ≤ _ by omega), (show _ ≤ (17 : Int) by omega)⟩
            obtain ⟨v299, rfl, v29, rfl, b30, b31⟩ := e28
            have b30a : 0 ≤ v29.toInt := b30
            have b31a : v29.toInt ≤ 1 := b31
            have c32 := (k_U.nil hH e27 sm).trans c20
            show ww l D tys A X fr lo mX11_spread Q 67 [(5, .int b), (4, .int a), (3, .int mo), (2, .int bi), (0, .ref m), (1, .int so)] [.int v29] g25
            clear hH
            have hH := e26
            refine w_if_ne (tgt := 73) (tX11_spread_0_ok (67, .ifCond .ne 6, 3) (List.mem_of_getElem? (i := 35) rfl)) rfl (fun b33 => ?_) (fun b33 => ?_)
            · refine w_iload_n (List.Mem.tail _ (List.Mem.tail _ (List.Mem.tail _ (List.Mem.head _)))) (tX11_spread_0_ok (73, .iload_n 2, 1) (List.mem_of_getElem? (i := 37) rfl)) ?_
              refine w_iconst (by decide) (tX11_spread_0_ok (74, .iconst 1, 1) (List.mem_of_getElem? (i := 38) rfl)) (fun v34 e35 => ?_)
              refine w_iload (List.Mem.head _) (tX11_spread_0_ok (75, .iload 5, 2) (List.mem_of_getElem? (i := 39) rfl)) ?_
              refine w_ishl (tX11_spread_0_ok (77, .ishl, 1) (List.mem_of_getElem? (i := 40) rfl)) (fun v36 e37 => ?_)
              refine w_ior (tX11_spread_0_ok (78, .ior, 1) (List.mem_of_getElem? (i := 41) rfl)) (fun v38 e39 => ?_)
              have hlt := bt_n_lt (kk := b.toInt.toNat) (by omega) (by omega) (by omega) (fun q => absurd (e8.2.mpr q) (by omega)) e37 e39
              refine w_istore_n [(2, .int v38), (5, .int b), (4, .int a), (3, .int mo), (0, .ref m), (1, .int so)] rfl (Nat.le_of_ble_eq_true rfl) (tX11_spread_0_ok (79, .istore_n 2, 1) (List.mem_of_getElem? (i := 42) rfl)) ?_
              refine w_iconst (by decide) (tX11_spread_0_ok (80, .iconst 1, 1) (List.mem_of_getElem? (i := 43) rfl)) (fun v40 e41 => ?_)
              refine w_istore_n [(3, .int v40), (2, .int v38), (5, .int b), (4, .int a), (0, .ref m), (1, .int so)] rfl (Nat.le_of_ble_eq_true rfl) (tX11_spread_0_ok (81, .istore_n 3, 1) (List.mem_of_getElem? (i := 44) rfl)) ?_
              refine w_iinc (fun v42 => [(5, .int v42), (3, .int v40), (2, .int v38), (4, .int a), (0, .ref m), (1, .int so)]) (fun _ => rfl) (List.Mem.tail _ (List.Mem.tail _ (List.Mem.head _))) (Nat.le_of_ble_eq_true rfl) (by decide) (by omega) (by omega) (tX11_spread_0_ok (82, .iinc 5 1, 3) (List.mem_of_getElem? (i := 45) rfl)) (fun v42 e43 => ?_)
              refine w_goto (tgt := 23) (tX11_spread_0_ok (85, .goto (-62), 3) (List.mem_of_getElem? (i := 46) rfl)) rfl ?_
              refine w_lv [(5, .int v42), (4, .int a), (3, .int v40), (2, .int v38), (0, .ref m), (1, .int so)] (by intro q hq; simp only [List.mem_cons, List.not_mem_nil, or_false] at hq ⊢; rcases hq with e | e | e | e | e | e <;> subst e <;> simp) ?_
              exact ih (j - 1) (by omega) _ _ _ _ (by omega) (by omega) (by omega) (Nat.le_of_lt (Nat.lt_of_lt_of_le hlt hb)) (fun _ => Nat.lt_of_lt_of_le hlt hb) hH (fun g mo1 bi1 b1 q1 q2 q3 q4 q5 => hq g mo1 bi1 b1 q1 q2 q3 q4 (((e15).tr e27).tr q5))
            · refine w_goto (tgt := 82) (tX11_spread_0_ok (70, .goto 12, 3) (List.mem_of_getElem? (i := 36) rfl)) rfl ?_
              refine w_iinc (fun v44 => [(5, .int v44), (4, .int a), (3, .int mo), (2, .int bi), (0, .ref m), (1, .int so)]) (fun _ => rfl) (List.Mem.head _) (Nat.le_of_ble_eq_true rfl) (by decide) (by omega) (by omega) (tX11_spread_0_ok (82, .iinc 5 1, 3) (List.mem_of_getElem? (i := 45) rfl)) (fun v44 e45 => ?_)
              refine w_goto (tgt := 23) (tX11_spread_0_ok (85, .goto (-62), 3) (List.mem_of_getElem? (i := 46) rfl)) rfl ?_
              refine w_lv [(5, .int v44), (4, .int a), (3, .int mo), (2, .int bi), (0, .ref m), (1, .int so)] (by intro q hq; simp only [List.mem_cons, List.not_mem_nil, or_false] at hq ⊢; rcases hq with e | e | e | e | e | e <;> subst e <;> simp) ?_
              exact ih (j - 1) (by omega) _ _ _ _ (by omega) (by omega) hm0 hb hm hH (fun g mo1 bi1 b1 q1 q2 q3 q4 q5 => hq g mo1 bi1 b1 q1 q2 q3 q4 (((e15).tr e27).tr q5))
theorem h_spM {m : Nat} {so : Int32} (sm : Sg m = some 50) (har : k_sat l D tys A X Sg cA Lb (160, [(2, 50, 0), (0, 0, 17), (0, 0, 17)], [], some (0, 0, 1), [], 3, 100)) (hme : k_sat l D tys A X Sg cA Lb (214, [(2, 50, 0), (0, 0, 17), (0, 0, 17)], [], some (0, 0, 1), [], 8, 177)) (hf : 10 ≤ fr) (hl : 300 ≤ lo) {n0 : Nat} : ∀ (j : Nat) (a mo bi : Int32) (h : ch_H), 0 ≤ a.toInt → a.toInt + j = 18 → 0 ≤ mo.toInt → bt_n bi ≤ n0 → (¬ mo.toInt = 0 → bt_n bi < n0) → k_H Sg cA Lb h → (∀ (g : ch_H) (mo1 bi1 a1 : Int32), k_H Sg cA Lb g → 0 ≤ mo1.toInt → bt_n bi1 ≤ n0 → (¬ mo1.toInt = 0 → bt_n bi1 < n0) → k_U Sg [] h g → ww l D tys A X fr lo mX11_spread Q 94 [(4, .int a1), (3, .int mo1), (2, .int bi1), (0, .ref m), (1, .int so)] [] g) → ww l D tys A X fr lo mX11_spread Q 13 [(4, .int a), (3, .int mo), (2, .int bi), (0, .ref m), (1, .int so)] [] h := by
  intro j
  induction j using Nat.strongRecOn with
  | ind j ih =>
    intro a mo bi h ha0 hj hm0 hb hm hH hq
    obtain ⟨fs, c_m, -⟩ := hH.obj sm (L := 50) rfl
    refine w_iload (List.Mem.head _) (tX11_spread_0_ok (13, .iload 4, 2) (List.mem_of_getElem? (i := 10) rfl)) ?_
    refine w_bipush (by decide) (tX11_spread_0_ok (15, .bipush 18, 2) (List.mem_of_getElem? (i := 11) rfl)) (fun v1 e2 => ?_)
    refine w_icmp_ge (tgt := 94) (tX11_spread_0_ok (17, .if_icmp .ge 77, 3) (List.mem_of_getElem? (i := 12) rfl)) rfl (fun b3 => ?_) (fun b3 => ?_)
    · exact hq _ _ _ _ hH hm0 hb hm k_U.rf
    · refine w_iconst (by decide) (tX11_spread_0_ok (20, .iconst 0, 1) (List.mem_of_getElem? (i := 13) rfl)) (fun v4 e5 => ?_)
      refine w_istore [(5, .int v4), (4, .int a), (3, .int mo), (2, .int bi), (0, .ref m), (1, .int so)] rfl (Nat.le_of_ble_eq_true rfl) (tX11_spread_0_ok (21, .istore 5, 2) (List.mem_of_getElem? (i := 14) rfl)) ?_
      refine w_lv [(5, .int v4), (4, .int a), (3, .int mo), (2, .int bi), (0, .ref m), (1, .int so)] (by intro q hq; simp only [List.mem_cons, List.not_mem_nil, or_false] at hq ⊢; rcases hq with e | e | e | e | e | e <;> subst e <;> simp) ?_
      refine h_spI sm har hme hf hl (by omega) 18 _ _ _ _ (by omega) (by omega) hm0 hb hm hH (fun g6 mo7 bi8 b9 q10 q11 q12 q13 q14 => ?_)
      clear hH
      have hH := q10
      show ww l D tys A X fr lo mX11_spread Q 88 [(5, .int b9), (4, .int a), (3, .int mo7), (2, .int bi8), (0, .ref m), (1, .int so)] [] g6
      refine w_iinc (fun v15 => [(4, .int v15), (5, .int b9), (3, .int mo7), (2, .int bi8), (0, .ref m), (1, .int so)]) (fun _ => rfl) (List.Mem.tail _ (List.Mem.head _)) (Nat.le_of_ble_eq_true rfl) (by decide) (by omega) (by omega) (tX11_spread_0_ok (88, .iinc 4 1, 3) (List.mem_of_getElem? (i := 47) rfl)) (fun v15 e16 => ?_)
      refine w_goto (tgt := 13) (tX11_spread_0_ok (91, .goto (-78), 3) (List.mem_of_getElem? (i := 48) rfl)) rfl ?_
      refine w_lv [(4, .int v15), (3, .int mo7), (2, .int bi8), (0, .ref m), (1, .int so)] (by intro q hq; simp only [List.mem_cons, List.not_mem_nil, or_false] at hq ⊢; rcases hq with e | e | e | e | e <;> subst e <;> simp) ?_
      exact ih (j - 1) (by omega) _ _ _ _ (by omega) (by omega) q11 q12 q13 hH (fun g mo1 bi1 a1 q1 q2 q3 q4 q5 => hq g mo1 bi1 a1 q1 q2 q3 q4 (q14.tr q5))
theorem h_spZ {m : Nat} {so : Int32} {mo bi : Int32} (hz : mo.toInt = 0) (hH : k_H Sg cA Lb h) (hq : (∀ (v : Int32) (g : ch_H), k_H Sg cA Lb g → k_U Sg [] h g → Q (some (.int v)) g)) : ww l D tys A X fr lo mX11_spread Q 4 [(3, .int mo), (2, .int bi), (0, .ref m), (1, .int so)] [] h := by
  refine w_iload_n (List.Mem.head _) (tX11_spread_0_ok (4, .iload_n 3, 1) (List.mem_of_getElem? (i := 4) rfl)) ?_
  refine w_if_eq (tgt := 97) (tX11_spread_0_ok (5, .ifCond .eq 92, 3) (List.mem_of_getElem? (i := 5) rfl)) rfl (fun b1 => ?_) (fun b1 => ?_)
  · refine w_iload_n (List.Mem.tail _ (List.Mem.head _)) (tX11_spread_0_ok (97, .iload_n 2, 1) (List.mem_of_getElem? (i := 50) rfl)) ?_
    refine w_iret rfl (tX11_spread_0_ok (98, .ireturn, 1) (List.mem_of_getElem? (i := 51) rfl)) ?_
    exact hq bi h hH k_U.rf
  · exfalso; omega
theorem h_spO {m : Nat} {so : Int32} (sm : Sg m = some 50) (har : k_sat l D tys A X Sg cA Lb (160, [(2, 50, 0), (0, 0, 17), (0, 0, 17)], [], some (0, 0, 1), [], 3, 100)) (hme : k_sat l D tys A X Sg cA Lb (214, [(2, 50, 0), (0, 0, 17), (0, 0, 17)], [], some (0, 0, 1), [], 8, 177)) (hf : 10 ≤ fr) (hl : 300 ≤ lo) : ∀ (n9 : Nat) (mo bi : Int32) (h : ch_H), bt_n bi = n9 → ¬ mo.toInt = 0 → k_H Sg cA Lb h → (∀ (v : Int32) (g : ch_H), k_H Sg cA Lb g → k_U Sg [] h g → Q (some (.int v)) g) → ww l D tys A X fr lo mX11_spread Q 4 [(3, .int mo), (2, .int bi), (0, .ref m), (1, .int so)] [] h := by
  have hz := fun (mo bi : Int32) (h : ch_H) (e : mo.toInt = 0) (q : k_H Sg cA Lb h) r => h_spZ (l := l) (D := D) (tys := tys) (A := A) (X := X) (fr := fr) (lo := lo) (Q := Q) (h := h) (cA := cA) (Sg := Sg) (m := m) (so := so) (mo := mo) (bi := bi) e q r
  intro n9
  induction n9 using Nat.strongRecOn with
  | ind n9 ih =>
    intro mo bi h hn hmo hH hq
    subst hn
    obtain ⟨fs, c_m, -⟩ := hH.obj sm (L := 50) rfl
    refine w_iload_n (List.Mem.head _) (tX11_spread_0_ok (4, .iload_n 3, 1) (List.mem_of_getElem? (i := 4) rfl)) ?_
    refine w_if_eq (tgt := 97) (tX11_spread_0_ok (5, .ifCond .eq 92, 3) (List.mem_of_getElem? (i := 5) rfl)) rfl (fun b1 => ?_) (fun b1 => ?_)
    · exfalso; omega
    · refine w_iconst (by decide) (tX11_spread_0_ok (8, .iconst 0, 1) (List.mem_of_getElem? (i := 6) rfl)) (fun v2 e3 => ?_)
      refine w_istore_n [(3, .int v2), (2, .int bi), (0, .ref m), (1, .int so)] rfl (Nat.le_of_ble_eq_true rfl) (tX11_spread_0_ok (9, .istore_n 3, 1) (List.mem_of_getElem? (i := 7) rfl)) ?_
      refine w_iconst (by decide) (tX11_spread_0_ok (10, .iconst 0, 1) (List.mem_of_getElem? (i := 8) rfl)) (fun v4 e5 => ?_)
      refine w_istore [(4, .int v4), (3, .int v2), (2, .int bi), (0, .ref m), (1, .int so)] rfl (Nat.le_of_ble_eq_true rfl) (tX11_spread_0_ok (11, .istore 4, 2) (List.mem_of_getElem? (i := 9) rfl)) ?_
      refine w_lv [(4, .int v4), (3, .int v2), (2, .int bi), (0, .ref m), (1, .int so)] (by intro q hq; simp only [List.mem_cons, List.not_mem_nil, or_false] at hq ⊢; rcases hq with e | e | e | e | e <;> subst e <;> simp) ?_
      refine h_spM sm har hme hf hl (n0 := bt_n bi) 18 _ _ _ _ (by omega) (by omega) (by omega) (Nat.le_refl _) (fun q => absurd q (by omega)) hH (fun g6 mo7 bi8 a9 q10 q11 q12 q13 q14 => ?_)
      clear hH
      have hH := q10
      show ww l D tys A X fr lo mX11_spread Q 94 [(4, .int a9), (3, .int mo7), (2, .int bi8), (0, .ref m), (1, .int so)] [] g6
      refine w_goto (tgt := 4) (tX11_spread_0_ok (94, .goto (-90), 3) (List.mem_of_getElem? (i := 49) rfl)) rfl ?_
      by_cases mz : mo7.toInt = 0
      · refine w_lv [(3, .int mo7), (2, .int bi8), (0, .ref m), (1, .int so)] (by intro q hq; simp only [List.mem_cons, List.not_mem_nil, or_false] at hq ⊢; rcases hq with e | e | e | e <;> subst e <;> simp) ?_
        exact hz _ _ _ mz hH (fun v g q1 q2 => hq v g q1 (q14.tr q2))
      · refine w_lv [(3, .int mo7), (2, .int bi8), (0, .ref m), (1, .int so)] (by intro q hq; simp only [List.mem_cons, List.not_mem_nil, or_false] at hq ⊢; rcases hq with e | e | e | e <;> subst e <;> simp) ?_
        exact ih _ (q13 mz) _ _ _ rfl (by omega) hH (fun v g q1 q2 => hq v g q1 (q14.tr q2))
theorem hand_X11_spread {mi : Nat} (hT : k_TX tys cA A X) (har : k_sat l D tys A X Sg cA Lb (160, [(2, 50, 0), (0, 0, 17), (0, 0, 17)], [], some (0, 0, 1), [], 3, 100)) (hme : k_sat l D tys A X Sg cA Lb (214, [(2, 50, 0), (0, 0, 17), (0, 0, 17)], [], some (0, 0, 1), [], 8, 177)) (hm : k_pM mi = mX11_spread) : k_sat l D tys A X Sg cA Lb (mi, [(2, 50, 0), (0, -2147483648, 2147483647)], [], some (0, -2147483648, 2147483647), [], 20, 900) := by
  intro h vals hH hlen hv hk
  obtain ⟨w0, p0, q0⟩ := hv 0 _ rfl
  obtain ⟨w1, p1, q1⟩ := hv 1 _ rfl
  obtain ⟨m, rfl, sm⟩ := k_v.ref q0
  obtain ⟨so, rfl, -, -⟩ := k_v.int q1
  match vals, hlen, p0, p1 with
  | [_, _], _, p0, p1 =>
    cases p0
    cases p1
    show tt l D tys A X 20 900 0 0 (k_pM mi) _ 0 _ [] h 0 0
    rw [hm]
    show ww l D tys A X 20 900 mX11_spread _ 0 [(0, .ref m), (1, .int so)] [] h
    refine w_iload_n (List.Mem.tail _ (List.Mem.head _)) (tX11_spread_0_ok (0, .iload_n 1, 1) (List.mem_of_getElem? (i := 0) rfl)) ?_
    refine w_istore_n [(2, .int so), (0, .ref m), (1, .int so)] rfl (Nat.le_of_ble_eq_true rfl) (tX11_spread_0_ok (1, .istore_n 2, 1) (List.mem_of_getElem? (i := 1) rfl)) ?_
    refine w_iconst (by decide) (tX11_spread_0_ok (2, .iconst 1, 1) (List.mem_of_getElem? (i := 2) rfl)) (fun v1 e2 => ?_)
    refine w_istore_n [(3, .int v1), (2, .int so), (0, .ref m), (1, .int so)] rfl (Nat.le_of_ble_eq_true rfl) (tX11_spread_0_ok (3, .istore_n 3, 1) (List.mem_of_getElem? (i := 3) rfl)) ?_
    refine w_lv [(3, .int v1), (2, .int so), (0, .ref m), (1, .int so)] (by intro q hq; simp only [List.mem_cons, List.not_mem_nil, or_false] at hq ⊢; rcases hq with e | e | e | e <;> subst e <;> simp) ?_
    exact h_spO sm har hme (by decide) (by decide) _ _ _ _ rfl (by omega) hH (fun v g q1 q2 => ⟨q1, q2, _, rfl, k_v.top v⟩)
end
