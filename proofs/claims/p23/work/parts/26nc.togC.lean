/-! the class's TOGETHER: least costs, ROPE by ROPE -/
theorem sh2_all : ∀ k, k < 12 → ((1 : Int32) <<< (Int32.ofNat k &&& 31)).toInt = ((2 ^ k : Nat) : Int) := by decide +kernel
theorem sh2 {k : Nat} {y z v : Int32} (hk : k < 12) (hy : y.toInt = (k : Int)) (hz : z.toInt = 1) (e : v = z <<< (y &&& 31)) : v.toInt = ((2 ^ k : Nat) : Int) := by
  have h1 := kn_nat (x := y) (n := k) hy
  have hz2 : z = 1 := (kn_eq _ _).mpr (by rw [hz]; rfl)
  rw [e, hz2, h1]
  exact sh2_all k hk
theorem p11 {k : Nat} (hk : k < 12) : 1 ≤ 2 ^ k ∧ 2 ^ k ≤ 2048 := by
  have h1 : 2 ^ k ≤ 2 ^ 11 := Nat.pow_le_pow_right (by decide) (by omega)
  exact ⟨Nat.pow_pos (by decide), h1⟩
theorem t_hs_low {n : Nat} {ρ : aRw} (wf : wfR n ρ) {p s : Nat} {g : Nat → Int} : ∀ q, q ≤ p + 1 → q ≤ n → t_hs ρ ((2 * p + s : Nat) : Int) g q = 0
  | 0, _, _ => rfl
  | q + 1, h, h2 => by
    unfold t_hs
    rw [t_hs_low wf q (by omega) (by omega), if_neg (fun e => by have := f_up wf (q := q) (p := p) (s := s) (by omega) e; omega)]
    rfl
theorem t_hs_mono {n : Nat} {ρ : aRw} {r : Int} {g : Nat → Int} (hg : ∀ q, q < n → ρ q 8 = r → 0 ≤ g q) : ∀ m q, q ≤ m → m ≤ n → t_hs ρ r g q ≤ t_hs ρ r g m
  | 0, q, h, _ => by
    have : q = 0 := by omega
    subst this
    exact Int.le_refl _
  | m + 1, q, h, hm => by
    by_cases c : q = m + 1
    · subst c
      exact Int.le_refl _
    · have ih := t_hs_mono hg m q (by omega) (by omega)
      rw [show t_hs ρ r g (m + 1) = t_hs ρ r g m + (if ρ m 8 = r then g m else 0) from rfl]
      split
      · next e =>
        have := hg m (by omega) e
        omega
      · omega
/-- the highest foot of a ROPE -/
def t_mf (ρ : aRw) : Nat → Nat → Int
  | 0, _ => 0
  | k + 1, p => if 0 ≤ ρ p 8 then min 120 (t_mf ρ k ((ρ p 8).toNat / 2) + ρ ((ρ p 8).toNat / 2) 1) else 0
theorem t_mf_fu {n : Nat} {ρ : aRw} (wf : wfR n ρ) : ∀ k k' p, p < n → p < k → p < k' → t_mf ρ k p = t_mf ρ k' p
  | 0, _, p, _, h, _ => by omega
  | k + 1, 0, p, _, _, h => by omega
  | k + 1, k' + 1, p, hp, h, h2 => by
    unfold t_mf
    split
    · next e =>
      have := t_car wf hp e
      rw [t_mf_fu wf k k' _ (by omega) (by omega) (by omega)]
    · rfl
theorem t_mf_b {n : Nat} {ρ : aRw} (wf : wfR n ρ) : ∀ k p, p < n → 0 ≤ t_mf ρ k p ∧ t_mf ρ k p ≤ 20 * p
  | 0, p, _ => ⟨Int.le_refl _, by show (0 : Int) ≤ 20 * p; omega⟩
  | k + 1, p, hp => by
    unfold t_mf
    split
    · next e =>
      have h1 := t_car wf hp e
      have h2 := t_mf_b wf k ((ρ p 8).toNat / 2) (by omega)
      have h3 := (wf.2 ((ρ p 8).toNat / 2) (by omega)).1.2.1
      omega
    · omega
/-- a foot that its carrier gives is low enough -/
theorem t_mf_up {n : Nat} {ρ : aRw} (wf : wfR n ρ) {p q s : Nat} (hp : p < n) (hq : q < n) (hs : s < 2) (e : ρ q 8 = ((2 * p + s : Nat) : Int)) {d y : Int} (hd : d ≤ t_mf ρ 6 p) (hy : y ≤ ρ p 1) : d + y ≤ t_mf ρ 6 q := by
  have h6 := wf.1
  have h1 := t_mf_b wf 6 p hp
  have h2 := (wf.2 p hp).1.2.1
  have h3 : (ρ q 8).toNat / 2 = p := by omega
  have h4 : t_mf ρ 6 q = min 120 (t_mf ρ 5 p + ρ p 1) := by
    show (if 0 ≤ ρ q 8 then min 120 (t_mf ρ 5 ((ρ q 8).toNat / 2) + ρ ((ρ q 8).toNat / 2) 1) else 0) = _
    rw [if_pos (by omega), h3]
  have h5 := f_up wf hq e
  rw [h4, t_mf_fu wf 5 6 p hp (by omega) (by omega)]
  omega
theorem f_pl_L {n : Nat} {ρ : aRw} (wf : wfR n ρ) {p : Nat} {x : Int} (hp : p < n) (hx : f_x ρ p x) : 0 ≤ f_pl ρ p 1 x ∧ f_pl ρ p 1 x ≤ ρ p 1 := by
  have h1 := (wf.2 p hp).1.2.1
  have h2 := f_x0 hx
  unfold f_pl
  rw [if_neg (by decide)]
  split <;> omega
theorem t_n_iff {n : Nat} {ρ : aRw} (wf : wfR n ρ) {p i : Nat} (hp : p < n) : f_st ρ p * (i : Int) ≤ ρ p 1 ↔ i ≤ t_n ρ p := by
  have h1 := (wf.2 p hp).1.2.1
  unfold t_n f_st
  by_cases c : ρ p 0 = 1
  · rw [if_pos c]
    omega
  · rw [if_neg c]
    omega
section
variable {l : Launch} {D : va_G} {tys : List (ClassId × FieldType)} {A : Nat → Prop} {X : State → Prop} {fr lo : Nat} {M : ch_M} {Q : Option Value → ch_H → Prop} {pc : Nat} {lv : List (Nat × Value)} {st : List Value} {cA : Nat → ClassId} {h : ch_H}
theorem w_minE {x y : Int32} (hM : M.1.cls = RX0) (hf : 1 ≤ fr) (hl : (st.map fun v => v.category).sum + 13 ≤ lo) (hd : decode M.2.1 pc = .ok (.invokestatic 40, 3)) (k : ∀ v : Int32, v.toInt = min x.toInt y.toInt → ww l D tys A X fr lo M Q (pc + 3) lv (.int v :: st) h) : ww l D tys A X fr lo M Q pc lv (.int y :: .int x :: st) h := by
  have hw : Cond.methodLink M.1.cls 40 Lib.Math.min.name ∈ wsA := by rw [hM]; exact cllw_X0 (40, 11, 0) (List.mem_of_getElem? (i := 1) rfl)
  refine tt_mmin hw pg_min.1 pg_math pg_min.2 hf hl (Nat.le_refl _) (Nat.le_refl _) hd (k _ ?_)
  by_cases c : y < x
  · have := Int32.lt_iff_toInt_lt.mp c
    rw [if_pos c]
    omega
  · have := mt Int32.lt_iff_toInt_lt.mpr c
    rw [if_neg c]
    omega
theorem w_divE {x y : Int32} (hy : y.toInt = 8192) (hx : 0 ≤ x.toInt) (hd : decode M.2.1 pc = .ok (.idiv, 1)) (k : ∀ v : Int32, v.toInt = x.toInt / 8192 → ww l D tys A X fr lo M Q (pc + 1) lv (.int v :: st) h) : ww l D tys A X fr lo M Q pc lv (.int y :: .int x :: st) h := by
  refine tt_idiv (fun e => by rw [e] at hy; exact absurd hy (by decide)) hd (k _ ?_)
  have h2 := Int32.toInt_lt x
  rw [Int32.toInt_div, hy, Int.tdiv_eq_ediv_of_nonneg hx, Int.bmod_def]
  split <;> omega
theorem w_ldcE {ix : Nat} {u : Int32} (hw : Cond.constant M.1.cls ix u ∈ wsA) (hd : decode M.2.1 pc = .ok (.ldc ix, 2)) (k : ww l D tys A X fr lo M Q (pc + 2) lv (.int u :: st) h) : ww l D tys A X fr lo M Q pc lv st h := tt_ldc hw hd k
end
section
variable {l : Launch} {D : va_G} {tys : List (ClassId × FieldType)} {A : Nat → Prop} {X : State → Prop} {fr lo : Nat} {Q : Option Value → ch_H → Prop} {cA : Nat → ClassId} {h : ch_H} {ρ : aRw} {W : Nat → Int} {tab : Nat → Nat → Int32}
theorem c_costOf (hT : k_tys tys cA) {wa : Nat} {gw : Nat → Int32} (c_wa : h wa = some (.inl (cA 0, 12, .inl gw))) (hw : ∀ r, r < 12 → (gw r).toInt = W r) {r d : Int32} (hr : 0 ≤ r.toInt ∧ r.toInt ≤ 11) (hq : ∀ v : Int32, v.toInt = t_off W r.toInt.toNat d.toInt → Q (some (.int v)) h) : ww l D tys A X fr lo mX0_costOf Q 0 [(0, .ref wa), (1, .int r), (2, .int d)] [] h := by
  have hw9 := hw r.toInt.toNat (by omega)
  refine w_aload_n (List.Mem.head _) (tX0_costOf_0_ok (0, .aload_n 0, 1) (List.mem_of_getElem? (i := 0) rfl)) ?_
  refine w_iload_n (List.Mem.tail _ (List.Mem.head _)) (tX0_costOf_0_ok (1, .iload_n 1, 1) (List.mem_of_getElem? (i := 1) rfl)) ?_
  refine w_iald hT c_wa (by omega) (by omega) (tX0_costOf_0_ok (2, .iaload, 1) (List.mem_of_getElem? (i := 2) rfl)) (fun zv1 ze2 => ?_)
  refine w_iconst (by decide) (tX0_costOf_0_ok (3, .iconst (-1), 1) (List.mem_of_getElem? (i := 3) rfl)) (fun zv3 ze4 => ?_)
  refine w_icmp_eq (tgt := 14) (tX0_costOf_0_ok (4, .if_icmp .eq 10, 3) (List.mem_of_getElem? (i := 4) rfl)) rfl (fun zb5 => ?_) (fun zb5 => ?_)
  · refine w_iconst (by decide) (tX0_costOf_0_ok (14, .iconst 0, 1) (List.mem_of_getElem? (i := 10) rfl)) (fun zv6 ze7 => ?_)
    refine w_iret rfl (tX0_costOf_0_ok (15, .ireturn, 1) (List.mem_of_getElem? (i := 11) rfl)) ?_
    refine hq _ ?_
    unfold t_off
    rw [if_pos (Or.inl (by omega))]
    omega
  · refine w_aload_n (List.Mem.head _) (tX0_costOf_0_ok (7, .aload_n 0, 1) (List.mem_of_getElem? (i := 5) rfl)) ?_
    refine w_iload_n (List.Mem.tail _ (List.Mem.head _)) (tX0_costOf_0_ok (8, .iload_n 1, 1) (List.mem_of_getElem? (i := 6) rfl)) ?_
    refine w_iald hT c_wa (by omega) (by omega) (tX0_costOf_0_ok (9, .iaload, 1) (List.mem_of_getElem? (i := 7) rfl)) (fun zv8 ze9 => ?_)
    refine w_iload_n (List.Mem.tail _ (List.Mem.tail _ (List.Mem.head _))) (tX0_costOf_0_ok (10, .iload_n 2, 1) (List.mem_of_getElem? (i := 8) rfl)) ?_
    refine w_icmp_ne (tgt := 16) (tX0_costOf_0_ok (11, .if_icmp .ne 5, 3) (List.mem_of_getElem? (i := 9) rfl)) rfl (fun zb10 => ?_) (fun zb10 => ?_)
    · refine w_sipush (by decide) (tX0_costOf_0_ok (16, .sipush 8192, 3) (List.mem_of_getElem? (i := 12) rfl)) (fun zv11 ze12 => ?_)
      refine w_iconst (by decide) (tX0_costOf_0_ok (19, .iconst 1, 1) (List.mem_of_getElem? (i := 13) rfl)) (fun zv13 ze14 => ?_)
      refine w_bipush (by decide) (tX0_costOf_0_ok (20, .bipush 11, 2) (List.mem_of_getElem? (i := 14) rfl)) (fun zv15 ze16 => ?_)
      refine w_iload_n (List.Mem.tail _ (List.Mem.head _)) (tX0_costOf_0_ok (22, .iload_n 1, 1) (List.mem_of_getElem? (i := 15) rfl)) ?_
      refine w_isub (by omega) (by omega) (tX0_costOf_0_ok (23, .isub, 1) (List.mem_of_getElem? (i := 16) rfl)) (fun zv17 ze18 => ?_)
      refine w_ishl (tX0_costOf_0_ok (24, .ishl, 1) (List.mem_of_getElem? (i := 17) rfl)) (fun zv19 ze20 => ?_)
      have sh9 := sh2 (k := 11 - r.toInt.toNat) (by omega) (by omega) (by omega) ze20
      have sb9 := p11 (k := 11 - r.toInt.toNat) (by omega)
      refine w_isub (by omega) (by omega) (tX0_costOf_0_ok (25, .isub, 1) (List.mem_of_getElem? (i := 18) rfl)) (fun zv21 ze22 => ?_)
      refine w_iret rfl (tX0_costOf_0_ok (26, .ireturn, 1) (List.mem_of_getElem? (i := 19) rfl)) ?_
      refine hq _ ?_
      unfold t_off
      rw [if_neg (fun z => by omega)]
      omega
    · refine w_iconst (by decide) (tX0_costOf_0_ok (14, .iconst 0, 1) (List.mem_of_getElem? (i := 10) rfl)) (fun zv23 ze24 => ?_)
      refine w_iret rfl (tX0_costOf_0_ok (15, .ireturn, 1) (List.mem_of_getElem? (i := 11) rfl)) ?_
      refine hq _ ?_
      unfold t_off
      rw [if_pos (Or.inr (by omega))]
      omega
theorem c_lcI (hT : k_tys tys cA) {ft : Nat} {ts : List Value} (c_ft : h ft = some (.inr (0, ts))) {tb : Nat} {F : Nat → Option Nat} {tr : Nat → Nat} (t0 : ts[0]? = some (.ref tb)) (c_tb : h tb = some (.inl (cA 5, 6, .inr (.inr (.inr (.inr F)))))) (hF : ∀ i, i < 6 → F i = some (tr i)) (c_rw : ∀ i, i < 6 → h (tr i) = some (.inl (cA 0, 121, .inl (tab i)))) {pl pk pn ph : Nat} {ps : List Value} {gK gN gH : Nat → Int32} {nn : Int32} (c_pl : h pl = some (.inr (4, ps))) (p0 : ps[0]? = some (.int nn)) (p1 : ps[1]? = some (.ref pk)) (p2 : ps[2]? = some (.ref pn)) (p8 : ps[8]? = some (.ref ph)) (c_pk : h pk = some (.inl (cA 0, 6, .inl gK))) (c_pn : h pn = some (.inl (cA 0, 6, .inl gN))) (c_ph : h ph = some (.inl (cA 0, 6, .inl gH))) (hn : 0 ≤ nn.toInt ∧ nn.toInt ≤ 6) (hρ : ∀ q, q < nn.toInt.toNat → (gK q).toInt = ρ q 0 ∧ (gN q).toInt = ρ q 1 ∧ (gH q).toInt = ρ q 8) (wf : wfR nn.toInt.toNat ρ) (hL : ∀ q, q < 6 → 0 ≤ (gN q).toInt ∧ (gN q).toInt ≤ 20) {wa : Nat} {gw : Nat → Int32} (c_wa : h wa = some (.inl (cA 0, 12, .inl gw))) (hw : ∀ r, r < 12 → (gw r).toInt = W r) {p fo fi sc x le : Int32} {x0 x1 bs : Int} (hp : 0 ≤ p.toInt ∧ p.toInt < nn.toInt) (hfo : fo.toInt ≤ t_mf ρ 6 p.toInt.toNat) (e0 : fi.toInt = fo.toInt + x0) (e1 : sc.toInt = fo.toInt + x1) (y0 : x0 ≤ ρ p.toInt.toNat 1) (y1 : x1 ≤ ρ p.toInt.toNat 1) (b0 : 0 ≤ fi.toInt ∧ fi.toInt ≤ 120) (b1 : 0 ≤ sc.toInt ∧ sc.toInt ≤ 120) (hbs : 0 ≤ bs ∧ (bs + (t_hs ρ ((2 * p.toInt.toNat : Nat) : Int) (fun q => t_C nn.toInt.toNat ρ W 6 q fi.toInt) nn.toInt.toNat + t_hs ρ ((2 * p.toInt.toNat + 1 : Nat) : Int) (fun q => t_C nn.toInt.toNat ρ W 6 q sc.toInt) nn.toInt.toNat)) ≤ 98304) (ht : ∀ q, p.toInt.toNat < q → q < nn.toInt.toNat → ∀ d : Nat, (d : Int) ≤ t_mf ρ 6 q → (tab q d).toInt = t_C nn.toInt.toNat ρ W 6 q (d : Int)) : ∀ (j : Nat) (q co : Int32), q.toInt + j = nn.toInt → p.toInt < q.toInt → co.toInt = bs + (t_hs ρ ((2 * p.toInt.toNat : Nat) : Int) (fun q => t_C nn.toInt.toNat ρ W 6 q fi.toInt) q.toInt.toNat + t_hs ρ ((2 * p.toInt.toNat + 1 : Nat) : Int) (fun q => t_C nn.toInt.toNat ρ W 6 q sc.toInt) q.toInt.toNat) → (∀ q1 co1 : Int32, (co1.toInt = (bs + (t_hs ρ ((2 * p.toInt.toNat : Nat) : Int) (fun q => t_C nn.toInt.toNat ρ W 6 q fi.toInt) nn.toInt.toNat + t_hs ρ ((2 * p.toInt.toNat + 1 : Nat) : Int) (fun q => t_C nn.toInt.toNat ρ W 6 q sc.toInt) nn.toInt.toNat)) ∨ le.toInt ≤ co1.toInt ∧ co1.toInt ≤ (bs + (t_hs ρ ((2 * p.toInt.toNat : Nat) : Int) (fun q => t_C nn.toInt.toNat ρ W 6 q fi.toInt) nn.toInt.toNat + t_hs ρ ((2 * p.toInt.toNat + 1 : Nat) : Int) (fun q => t_C nn.toInt.toNat ρ W 6 q sc.toInt) nn.toInt.toNat))) → ww l D tys A X fr lo mX0_leastCost Q 166 [(10, .int q1), (9, .int co1), (8, .int sc), (7, .int fi), (6, .int x), (5, .int le), (0, .ref ft), (1, .ref pl), (2, .ref wa), (3, .int p), (4, .int fo)] [] h) → ww l D tys A X fr lo mX0_leastCost Q 69 [(10, .int q), (9, .int co), (8, .int sc), (7, .int fi), (6, .int x), (5, .int le), (0, .ref ft), (1, .ref pl), (2, .ref wa), (3, .int p), (4, .int fo)] [] h := by
  intro j
  induction j using Nat.strongRecOn with
  | ind j ih =>
    intro q co hj hq0 hi hq
    have n1 := t_hs_nn (ρ := ρ) (r := ((2 * p.toInt.toNat : Nat) : Int)) (g := fun q => t_C nn.toInt.toNat ρ W 6 q fi.toInt) q.toInt.toNat (fun q hq _ => (t_C_b wf _ (by omega) 6).1)
    have n2 := t_hs_nn (ρ := ρ) (r := ((2 * p.toInt.toNat + 1 : Nat) : Int)) (g := fun q => t_C nn.toInt.toNat ρ W 6 q sc.toInt) q.toInt.toNat (fun q hq _ => (t_C_b wf _ (by omega) 6).1)
    have m1 := t_hs_mono (ρ := ρ) (r := ((2 * p.toInt.toNat : Nat) : Int)) (g := fun q => t_C nn.toInt.toNat ρ W 6 q fi.toInt) (n := nn.toInt.toNat) (fun q hq _ => (t_C_b wf _ hq 6).1) nn.toInt.toNat q.toInt.toNat (by omega) (Nat.le_refl _)
    have m2 := t_hs_mono (ρ := ρ) (r := ((2 * p.toInt.toNat + 1 : Nat) : Int)) (g := fun q => t_C nn.toInt.toNat ρ W 6 q sc.toInt) (n := nn.toInt.toNat) (fun q hq _ => (t_C_b wf _ hq 6).1) nn.toInt.toNat q.toInt.toNat (by omega) (Nat.le_refl _)
    refine w_iload (List.Mem.head _) (tX0_leastCost_0_ok (69, .iload 10, 2) (List.mem_of_getElem? (i := 45) rfl)) ?_
    refine w_aload_n (List.Mem.tail _ (List.Mem.tail _ (List.Mem.tail _ (List.Mem.tail _ (List.Mem.tail _ (List.Mem.tail _ (List.Mem.tail _ (List.Mem.head _)))))))) (tX0_leastCost_0_ok (71, .aload_n 1, 1) (List.mem_of_getElem? (i := 46) rfl)) ?_
    refine w_get (own := 5) rfl rfl (by decide) c_pl p0 (tX0_leastCost_0_ok (72, .getfield 24, 3) (List.mem_of_getElem? (i := 47) rfl)) ?_
    refine w_icmp_ge (tgt := 166) (tX0_leastCost_0_ok (75, .if_icmp .ge 91, 3) (List.mem_of_getElem? (i := 48) rfl)) rfl (fun zb1 => ?_) (fun zb1 => ?_)
    · refine hq q co (Or.inl ?_)
      rw [show q.toInt.toNat = nn.toInt.toNat by omega] at hi
      exact hi
    · refine w_iload (List.Mem.tail _ (List.Mem.head _)) (tX0_leastCost_0_ok (78, .iload 9, 2) (List.mem_of_getElem? (i := 49) rfl)) ?_
      refine w_iload (List.Mem.tail _ (List.Mem.tail _ (List.Mem.tail _ (List.Mem.tail _ (List.Mem.tail _ (List.Mem.head _)))))) (tX0_leastCost_0_ok (80, .iload 5, 2) (List.mem_of_getElem? (i := 50) rfl)) ?_
      refine w_icmp_ge (tgt := 166) (tX0_leastCost_0_ok (82, .if_icmp .ge 84, 3) (List.mem_of_getElem? (i := 51) rfl)) rfl (fun zb2 => ?_) (fun zb2 => ?_)
      · refine hq q co (Or.inr ⟨by omega, ?_⟩)
        have m1 := t_hs_mono (ρ := ρ) (r := ((2 * p.toInt.toNat : Nat) : Int)) (g := fun q => t_C nn.toInt.toNat ρ W 6 q fi.toInt) (n := nn.toInt.toNat) (fun q hq _ => (t_C_b wf _ hq 6).1) nn.toInt.toNat q.toInt.toNat (by omega) (Nat.le_refl _)
        have m2 := t_hs_mono (ρ := ρ) (r := ((2 * p.toInt.toNat + 1 : Nat) : Int)) (g := fun q => t_C nn.toInt.toNat ρ W 6 q sc.toInt) (n := nn.toInt.toNat) (fun q hq _ => (t_C_b wf _ hq 6).1) nn.toInt.toNat q.toInt.toNat (by omega) (Nat.le_refl _)
        omega
      · refine w_aload_n (List.Mem.tail _ (List.Mem.tail _ (List.Mem.tail _ (List.Mem.tail _ (List.Mem.tail _ (List.Mem.tail _ (List.Mem.tail _ (List.Mem.head _)))))))) (tX0_leastCost_0_ok (85, .aload_n 1, 1) (List.mem_of_getElem? (i := 52) rfl)) ?_
        refine w_get (own := 5) rfl rfl (by decide) c_pl p8 (tX0_leastCost_0_ok (86, .getfield 34, 3) (List.mem_of_getElem? (i := 53) rfl)) ?_
        refine w_iload (List.Mem.head _) (tX0_leastCost_0_ok (89, .iload 10, 2) (List.mem_of_getElem? (i := 54) rfl)) ?_
        refine w_iald hT c_ph (by omega) (by omega) (tX0_leastCost_0_ok (91, .iaload, 1) (List.mem_of_getElem? (i := 55) rfl)) (fun zv3 ze4 => ?_)
        have zz5 := (hρ q.toInt.toNat (by omega)).2.2
        refine w_iconst (by decide) (tX0_leastCost_0_ok (92, .iconst 2, 1) (List.mem_of_getElem? (i := 56) rfl)) (fun zv6 ze7 => ?_)
        refine w_iload_n (List.Mem.tail _ (List.Mem.tail _ (List.Mem.tail _ (List.Mem.tail _ (List.Mem.tail _ (List.Mem.tail _ (List.Mem.tail _ (List.Mem.tail _ (List.Mem.tail _ (List.Mem.head _)))))))))) (tX0_leastCost_0_ok (93, .iload_n 3, 1) (List.mem_of_getElem? (i := 57) rfl)) ?_
        refine w_imul (by assumption) (by omega) (by omega) (tX0_leastCost_0_ok (94, .imul, 1) (List.mem_of_getElem? (i := 58) rfl)) (fun zv8 ze9 => ?_)
        refine w_icmp_ne (tgt := 123) (tX0_leastCost_0_ok (95, .if_icmp .ne 28, 3) (List.mem_of_getElem? (i := 59) rfl)) rfl (fun zb10 => ?_) (fun zb10 => ?_)
        · refine w_aload_n (List.Mem.tail _ (List.Mem.tail _ (List.Mem.tail _ (List.Mem.tail _ (List.Mem.tail _ (List.Mem.tail _ (List.Mem.tail _ (List.Mem.head _)))))))) (tX0_leastCost_1_ok (123, .aload_n 1, 1) (List.mem_of_getElem? (i := 13) rfl)) ?_
          refine w_get (own := 5) rfl rfl (by decide) c_pl p8 (tX0_leastCost_1_ok (124, .getfield 34, 3) (List.mem_of_getElem? (i := 14) rfl)) ?_
          refine w_iload (List.Mem.head _) (tX0_leastCost_1_ok (127, .iload 10, 2) (List.mem_of_getElem? (i := 15) rfl)) ?_
          refine w_iald hT c_ph (by omega) (by omega) (tX0_leastCost_1_ok (129, .iaload, 1) (List.mem_of_getElem? (i := 16) rfl)) (fun zv11 ze12 => ?_)
          have zz13 := (hρ q.toInt.toNat (by omega)).2.2
          refine w_iconst (by decide) (tX0_leastCost_1_ok (130, .iconst 2, 1) (List.mem_of_getElem? (i := 17) rfl)) (fun zv14 ze15 => ?_)
          refine w_iload_n (List.Mem.tail _ (List.Mem.tail _ (List.Mem.tail _ (List.Mem.tail _ (List.Mem.tail _ (List.Mem.tail _ (List.Mem.tail _ (List.Mem.tail _ (List.Mem.tail _ (List.Mem.head _)))))))))) (tX0_leastCost_1_ok (131, .iload_n 3, 1) (List.mem_of_getElem? (i := 18) rfl)) ?_
          refine w_imul (by assumption) (by omega) (by omega) (tX0_leastCost_1_ok (132, .imul, 1) (List.mem_of_getElem? (i := 19) rfl)) (fun zv16 ze17 => ?_)
          refine w_iconst (by decide) (tX0_leastCost_1_ok (133, .iconst 1, 1) (List.mem_of_getElem? (i := 20) rfl)) (fun zv18 ze19 => ?_)
          refine w_iadd (by omega) (by omega) (tX0_leastCost_1_ok (134, .iadd, 1) (List.mem_of_getElem? (i := 21) rfl)) (fun zv20 ze21 => ?_)
          refine w_icmp_ne (tgt := 160) (tX0_leastCost_1_ok (135, .if_icmp .ne 25, 3) (List.mem_of_getElem? (i := 22) rfl)) rfl (fun zb22 => ?_) (fun zb22 => ?_)
          · refine w_iinc (fun zv23 => [(10, .int zv23), (9, .int co), (8, .int sc), (7, .int fi), (6, .int x), (5, .int le), (0, .ref ft), (1, .ref pl), (2, .ref wa), (3, .int p), (4, .int fo)]) (fun _ => rfl) (List.Mem.head _) (Nat.le_of_ble_eq_true rfl) (by decide) (by omega) (by omega) (tX0_leastCost_1_ok (160, .iinc 10 1, 3) (List.mem_of_getElem? (i := 35) rfl)) (fun zv23 ze24 => ?_)
            refine w_goto (tgt := 69) (tX0_leastCost_1_ok (163, .goto (-94), 3) (List.mem_of_getElem? (i := 36) rfl)) rfl ?_
            refine w_lv [(10, .int zv23), (9, .int co), (8, .int sc), (7, .int fi), (6, .int x), (5, .int le), (0, .ref ft), (1, .ref pl), (2, .ref wa), (3, .int p), (4, .int fo)] (by intro q hq; simp only [List.mem_cons, List.not_mem_nil, or_false] at hq ⊢; rcases hq with e | e | e | e | e | e | e | e | e | e | e <;> subst e <;> simp) ?_
            refine ih (j - 1) (by omega) _ _ (by omega) (by omega) ?_ hq
            rw [show zv23.toInt.toNat = q.toInt.toNat + 1 by omega]
            unfold t_hs
            rw [if_neg (by omega), if_neg (by omega)]
            omega
          · refine w_iload (List.Mem.tail _ (List.Mem.tail _ (List.Mem.head _))) (tX0_leastCost_1_ok (138, .iload 8, 2) (List.mem_of_getElem? (i := 23) rfl)) ?_
            refine w_bipush (by decide) (tX0_leastCost_1_ok (140, .bipush 120, 2) (List.mem_of_getElem? (i := 24) rfl)) (fun zv25 ze26 => ?_)
            refine w_icmp_gt (tgt := 160) (tX0_leastCost_1_ok (142, .if_icmp .gt 18, 3) (List.mem_of_getElem? (i := 25) rfl)) rfl (fun zb27 => ?_) (fun zb27 => ?_)
            · exfalso; omega
            · refine w_iload (List.Mem.tail _ (List.Mem.head _)) (tX0_leastCost_1_ok (145, .iload 9, 2) (List.mem_of_getElem? (i := 26) rfl)) ?_
              refine w_aload_n (List.Mem.tail _ (List.Mem.tail _ (List.Mem.tail _ (List.Mem.tail _ (List.Mem.tail _ (List.Mem.tail _ (List.Mem.head _))))))) (tX0_leastCost_1_ok (147, .aload_n 0, 1) (List.mem_of_getElem? (i := 27) rfl)) ?_
              refine w_get (own := 5) rfl rfl (by decide) c_ft t0 (tX0_leastCost_1_ok (148, .getfield 13, 3) (List.mem_of_getElem? (i := 28) rfl)) ?_
              refine w_iload (List.Mem.head _) (tX0_leastCost_1_ok (151, .iload 10, 2) (List.mem_of_getElem? (i := 29) rfl)) ?_
              refine w_aald (b := tr q.toInt.toNat) hT c_tb (by omega) (by omega) (by rw [hF q.toInt.toNat (by omega)]; rfl) (tX0_leastCost_1_ok (153, .aaload, 1) (List.mem_of_getElem? (i := 30) rfl)) ?_
              refine w_iload (List.Mem.tail _ (List.Mem.tail _ (List.Mem.head _))) (tX0_leastCost_1_ok (154, .iload 8, 2) (List.mem_of_getElem? (i := 31) rfl)) ?_
              refine w_iald hT (c_rw q.toInt.toNat (by omega)) (by omega) (by omega) (tX0_leastCost_1_ok (156, .iaload, 1) (List.mem_of_getElem? (i := 32) rfl)) (fun zv28 ze29 => ?_)
              have tv9 := ht q.toInt.toNat (by omega) (by omega) sc.toInt.toNat (by rw [show ((sc.toInt.toNat : Nat) : Int) = sc.toInt by omega, e1]; exact t_mf_up wf (s := 1) (by omega) (by omega) (by decide) (by omega) hfo y1)
              rw [show ((sc.toInt.toNat : Nat) : Int) = sc.toInt by omega] at tv9
              have tb9 := t_C_b (W := W) wf (p := q.toInt.toNat) sc.toInt (by omega) 6
              refine w_iadd (by omega) (by omega) (tX0_leastCost_1_ok (157, .iadd, 1) (List.mem_of_getElem? (i := 33) rfl)) (fun zv30 ze31 => ?_)
              refine w_istore [(9, .int zv30), (10, .int q), (8, .int sc), (7, .int fi), (6, .int x), (5, .int le), (0, .ref ft), (1, .ref pl), (2, .ref wa), (3, .int p), (4, .int fo)] rfl (Nat.le_of_ble_eq_true rfl) (tX0_leastCost_1_ok (158, .istore 9, 2) (List.mem_of_getElem? (i := 34) rfl)) ?_
              refine w_iinc (fun zv32 => [(10, .int zv32), (9, .int zv30), (8, .int sc), (7, .int fi), (6, .int x), (5, .int le), (0, .ref ft), (1, .ref pl), (2, .ref wa), (3, .int p), (4, .int fo)]) (fun _ => rfl) (List.Mem.tail _ (List.Mem.head _)) (Nat.le_of_ble_eq_true rfl) (by decide) (by omega) (by omega) (tX0_leastCost_1_ok (160, .iinc 10 1, 3) (List.mem_of_getElem? (i := 35) rfl)) (fun zv32 ze33 => ?_)
              refine w_goto (tgt := 69) (tX0_leastCost_1_ok (163, .goto (-94), 3) (List.mem_of_getElem? (i := 36) rfl)) rfl ?_
              refine w_lv [(10, .int zv32), (9, .int zv30), (8, .int sc), (7, .int fi), (6, .int x), (5, .int le), (0, .ref ft), (1, .ref pl), (2, .ref wa), (3, .int p), (4, .int fo)] (by intro q hq; simp only [List.mem_cons, List.not_mem_nil, or_false] at hq ⊢; rcases hq with e | e | e | e | e | e | e | e | e | e | e <;> subst e <;> simp) ?_
              refine ih (j - 1) (by omega) _ _ (by omega) (by omega) ?_ hq
              rw [show zv32.toInt.toNat = q.toInt.toNat + 1 by omega]
              unfold t_hs
              rw [if_neg (by omega), if_pos (by omega)]
              omega
        · refine w_iload (List.Mem.tail _ (List.Mem.tail _ (List.Mem.tail _ (List.Mem.head _)))) (tX0_leastCost_1_ok (98, .iload 7, 2) (List.mem_of_getElem? (i := 0) rfl)) ?_
          refine w_bipush (by decide) (tX0_leastCost_1_ok (100, .bipush 120, 2) (List.mem_of_getElem? (i := 1) rfl)) (fun zv34 ze35 => ?_)
          refine w_icmp_gt (tgt := 123) (tX0_leastCost_1_ok (102, .if_icmp .gt 21, 3) (List.mem_of_getElem? (i := 2) rfl)) rfl (fun zb36 => ?_) (fun zb36 => ?_)
          · exfalso; omega
          · refine w_iload (List.Mem.tail _ (List.Mem.head _)) (tX0_leastCost_1_ok (105, .iload 9, 2) (List.mem_of_getElem? (i := 3) rfl)) ?_
            refine w_aload_n (List.Mem.tail _ (List.Mem.tail _ (List.Mem.tail _ (List.Mem.tail _ (List.Mem.tail _ (List.Mem.tail _ (List.Mem.head _))))))) (tX0_leastCost_1_ok (107, .aload_n 0, 1) (List.mem_of_getElem? (i := 4) rfl)) ?_
            refine w_get (own := 5) rfl rfl (by decide) c_ft t0 (tX0_leastCost_1_ok (108, .getfield 13, 3) (List.mem_of_getElem? (i := 5) rfl)) ?_
            refine w_iload (List.Mem.head _) (tX0_leastCost_1_ok (111, .iload 10, 2) (List.mem_of_getElem? (i := 6) rfl)) ?_
            refine w_aald (b := tr q.toInt.toNat) hT c_tb (by omega) (by omega) (by rw [hF q.toInt.toNat (by omega)]; rfl) (tX0_leastCost_1_ok (113, .aaload, 1) (List.mem_of_getElem? (i := 7) rfl)) ?_
            refine w_iload (List.Mem.tail _ (List.Mem.tail _ (List.Mem.tail _ (List.Mem.head _)))) (tX0_leastCost_1_ok (114, .iload 7, 2) (List.mem_of_getElem? (i := 8) rfl)) ?_
            refine w_iald hT (c_rw q.toInt.toNat (by omega)) (by omega) (by omega) (tX0_leastCost_1_ok (116, .iaload, 1) (List.mem_of_getElem? (i := 9) rfl)) (fun zv37 ze38 => ?_)
            have tv9 := ht q.toInt.toNat (by omega) (by omega) fi.toInt.toNat (by rw [show ((fi.toInt.toNat : Nat) : Int) = fi.toInt by omega, e0]; exact t_mf_up wf (s := 0) (by omega) (by omega) (by decide) (by omega) hfo y0)
            rw [show ((fi.toInt.toNat : Nat) : Int) = fi.toInt by omega] at tv9
            have tb9 := t_C_b (W := W) wf (p := q.toInt.toNat) fi.toInt (by omega) 6
            refine w_iadd (by omega) (by omega) (tX0_leastCost_1_ok (117, .iadd, 1) (List.mem_of_getElem? (i := 10) rfl)) (fun zv39 ze40 => ?_)
            refine w_istore [(9, .int zv39), (10, .int q), (8, .int sc), (7, .int fi), (6, .int x), (5, .int le), (0, .ref ft), (1, .ref pl), (2, .ref wa), (3, .int p), (4, .int fo)] rfl (Nat.le_of_ble_eq_true rfl) (tX0_leastCost_1_ok (118, .istore 9, 2) (List.mem_of_getElem? (i := 11) rfl)) ?_
            refine w_goto (tgt := 160) (tX0_leastCost_1_ok (120, .goto 40, 3) (List.mem_of_getElem? (i := 12) rfl)) rfl ?_
            refine w_iinc (fun zv41 => [(10, .int zv41), (9, .int zv39), (8, .int sc), (7, .int fi), (6, .int x), (5, .int le), (0, .ref ft), (1, .ref pl), (2, .ref wa), (3, .int p), (4, .int fo)]) (fun _ => rfl) (List.Mem.tail _ (List.Mem.head _)) (Nat.le_of_ble_eq_true rfl) (by decide) (by omega) (by omega) (tX0_leastCost_1_ok (160, .iinc 10 1, 3) (List.mem_of_getElem? (i := 35) rfl)) (fun zv41 ze42 => ?_)
            refine w_goto (tgt := 69) (tX0_leastCost_1_ok (163, .goto (-94), 3) (List.mem_of_getElem? (i := 36) rfl)) rfl ?_
            refine w_lv [(10, .int zv41), (9, .int zv39), (8, .int sc), (7, .int fi), (6, .int x), (5, .int le), (0, .ref ft), (1, .ref pl), (2, .ref wa), (3, .int p), (4, .int fo)] (by intro q hq; simp only [List.mem_cons, List.not_mem_nil, or_false] at hq ⊢; rcases hq with e | e | e | e | e | e | e | e | e | e | e <;> subst e <;> simp) ?_
            refine ih (j - 1) (by omega) _ _ (by omega) (by omega) ?_ hq
            rw [show zv41.toInt.toNat = q.toInt.toNat + 1 by omega]
            unfold t_hs
            rw [if_pos (by omega), if_neg (by omega)]
            omega
theorem c_lcX (hT : k_tys tys cA) {ft : Nat} {ts : List Value} (c_ft : h ft = some (.inr (0, ts))) {tb : Nat} {F : Nat → Option Nat} {tr : Nat → Nat} (t0 : ts[0]? = some (.ref tb)) (c_tb : h tb = some (.inl (cA 5, 6, .inr (.inr (.inr (.inr F)))))) (hF : ∀ i, i < 6 → F i = some (tr i)) (c_rw : ∀ i, i < 6 → h (tr i) = some (.inl (cA 0, 121, .inl (tab i)))) {pl pk pn ph : Nat} {ps : List Value} {gK gN gH : Nat → Int32} {nn : Int32} (c_pl : h pl = some (.inr (4, ps))) (p0 : ps[0]? = some (.int nn)) (p1 : ps[1]? = some (.ref pk)) (p2 : ps[2]? = some (.ref pn)) (p8 : ps[8]? = some (.ref ph)) (c_pk : h pk = some (.inl (cA 0, 6, .inl gK))) (c_pn : h pn = some (.inl (cA 0, 6, .inl gN))) (c_ph : h ph = some (.inl (cA 0, 6, .inl gH))) (hn : 0 ≤ nn.toInt ∧ nn.toInt ≤ 6) (hρ : ∀ q, q < nn.toInt.toNat → (gK q).toInt = ρ q 0 ∧ (gN q).toInt = ρ q 1 ∧ (gH q).toInt = ρ q 8) (wf : wfR nn.toInt.toNat ρ) (hL : ∀ q, q < 6 → 0 ≤ (gN q).toInt ∧ (gN q).toInt ≤ 20) {wa : Nat} {gw : Nat → Int32} (c_wa : h wa = some (.inl (cA 0, 12, .inl gw))) (hw : ∀ r, r < 12 → (gw r).toInt = W r) {p fo : Int32} (hp : 0 ≤ p.toInt ∧ p.toInt < nn.toInt) (hfo : fo.toInt ≤ t_mf ρ 6 p.toInt.toNat) (hf0 : 0 ≤ fo.toInt) (hf : 1 ≤ fr) (hl : 40 ≤ lo) (ht : ∀ q, p.toInt.toNat < q → q < nn.toInt.toNat → ∀ d : Nat, (d : Int) ≤ t_mf ρ 6 q → (tab q d).toInt = t_C nn.toInt.toNat ρ W 6 q (d : Int)) : ∀ (j i : Nat) (x le : Int32), (ρ p.toInt.toNat 1 + 1 - x.toInt).toNat = j → x.toInt = f_st ρ p.toInt.toNat * i → 0 ≤ x.toInt ∧ x.toInt ≤ 24 → (i = 0 ∧ le.toInt = 1000000 ∨ ∃ k : Nat, i = k + 1 ∧ f_st ρ p.toInt.toNat * (k : Int) ≤ ρ p.toInt.toNat 1 ∧ le.toInt = t_fm (fun i : Nat => t_at nn.toInt.toNat ρ W (t_C nn.toInt.toNat ρ W 6) p.toInt.toNat fo.toInt (f_st ρ p.toInt.toNat * (i : Int))) k) → (∀ v : Int32, v.toInt = t_C nn.toInt.toNat ρ W 6 p.toInt.toNat fo.toInt → Q (some (.int v)) h) → ww l D tys A X fr lo mX0_leastCost Q 7 [(6, .int x), (5, .int le), (0, .ref ft), (1, .ref pl), (2, .ref wa), (3, .int p), (4, .int fo)] [] h := by
  intro j
  induction j using Nat.strongRecOn with
  | ind j ih =>
    intro i x le hj hi hx1 hle hq
    have hr9 := hρ p.toInt.toNat (by omega)
    have hs9 := f_st_b ρ p.toInt.toNat
    have hl9 := (wf.2 p.toInt.toNat (by omega)).1.2.1
    have mb9 := t_mf_b wf 6 p.toInt.toNat (by omega)
    have h66 := wf.1
    refine w_iload (List.Mem.head _) (tX0_leastCost_0_ok (7, .iload 6, 2) (List.mem_of_getElem? (i := 4) rfl)) ?_
    refine w_aload_n (List.Mem.tail _ (List.Mem.tail _ (List.Mem.tail _ (List.Mem.head _)))) (tX0_leastCost_0_ok (9, .aload_n 1, 1) (List.mem_of_getElem? (i := 5) rfl)) ?_
    refine w_get (own := 5) rfl rfl (by decide) c_pl p2 (tX0_leastCost_0_ok (10, .getfield 37, 3) (List.mem_of_getElem? (i := 6) rfl)) ?_
    refine w_iload_n (List.Mem.tail _ (List.Mem.tail _ (List.Mem.tail _ (List.Mem.tail _ (List.Mem.tail _ (List.Mem.head _)))))) (tX0_leastCost_0_ok (13, .iload_n 3, 1) (List.mem_of_getElem? (i := 7) rfl)) ?_
    refine w_iald hT c_pn (by omega) (by omega) (tX0_leastCost_0_ok (14, .iaload, 1) (List.mem_of_getElem? (i := 8) rfl)) (fun zv1 ze2 => ?_)
    refine w_icmp_gt (tgt := 188) (tX0_leastCost_0_ok (15, .if_icmp .gt 173, 3) (List.mem_of_getElem? (i := 9) rfl)) rfl (fun zb3 => ?_) (fun zb3 => ?_)
    · refine w_iload (List.Mem.tail _ (List.Mem.head _)) (tX0_leastCost_1_ok (188, .iload 5, 2) (List.mem_of_getElem? (i := 48) rfl)) ?_
      refine w_iret rfl (tX0_leastCost_1_ok (190, .ireturn, 1) (List.mem_of_getElem? (i := 49) rfl)) ?_
      have nx : ¬ i ≤ t_n ρ p.toInt.toNat := fun z => by have := (t_n_iff wf (p := p.toInt.toNat) (by omega)).mpr z; omega
      rcases hle with ⟨z1, z2⟩ | ⟨k, z1, z3, z2⟩
      · omega
      · refine hq _ ?_
        rw [t_G wf (by omega), z2]
        have nk : k ≤ t_n ρ p.toInt.toNat := (t_n_iff wf (by omega)).mp z3
        rw [show t_n ρ p.toInt.toNat = k by omega]
    · have hx9 : f_x ρ p.toInt.toNat x.toInt := ⟨i, hi, by omega⟩
      have hx8 := f_x0 hx9
      refine w_iload (List.Mem.tail _ (List.Mem.tail _ (List.Mem.tail _ (List.Mem.tail _ (List.Mem.tail _ (List.Mem.tail _ (List.Mem.head _))))))) (tX0_leastCost_0_ok (18, .iload 4, 2) (List.mem_of_getElem? (i := 10) rfl)) ?_
      refine w_iload (List.Mem.head _) (tX0_leastCost_0_ok (20, .iload 6, 2) (List.mem_of_getElem? (i := 11) rfl)) ?_
      refine w_iadd (by omega) (by omega) (tX0_leastCost_0_ok (22, .iadd, 1) (List.mem_of_getElem? (i := 12) rfl)) (fun zv4 ze5 => ?_)
      refine w_istore [(7, .int zv4), (6, .int x), (5, .int le), (0, .ref ft), (1, .ref pl), (2, .ref wa), (3, .int p), (4, .int fo)] rfl (Nat.le_of_ble_eq_true rfl) (tX0_leastCost_0_ok (23, .istore 7, 2) (List.mem_of_getElem? (i := 13) rfl)) ?_
      refine w_iload (List.Mem.tail _ (List.Mem.tail _ (List.Mem.tail _ (List.Mem.tail _ (List.Mem.tail _ (List.Mem.tail _ (List.Mem.tail _ (List.Mem.head _)))))))) (tX0_leastCost_0_ok (25, .iload 4, 2) (List.mem_of_getElem? (i := 14) rfl)) ?_
      refine w_aload_n (List.Mem.tail _ (List.Mem.tail _ (List.Mem.tail _ (List.Mem.tail _ (List.Mem.head _))))) (tX0_leastCost_0_ok (27, .aload_n 1, 1) (List.mem_of_getElem? (i := 15) rfl)) ?_
      refine w_iconst (by decide) (tX0_leastCost_0_ok (28, .iconst 2, 1) (List.mem_of_getElem? (i := 16) rfl)) (fun zv6 ze7 => ?_)
      refine w_iload_n (List.Mem.tail _ (List.Mem.tail _ (List.Mem.tail _ (List.Mem.tail _ (List.Mem.tail _ (List.Mem.tail _ (List.Mem.head _))))))) (tX0_leastCost_0_ok (29, .iload_n 3, 1) (List.mem_of_getElem? (i := 17) rfl)) ?_
      refine w_imul (by assumption) (by omega) (by omega) (tX0_leastCost_0_ok (30, .imul, 1) (List.mem_of_getElem? (i := 18) rfl)) (fun zv8 ze9 => ?_)
      refine w_iconst (by decide) (tX0_leastCost_0_ok (31, .iconst 1, 1) (List.mem_of_getElem? (i := 19) rfl)) (fun zv10 ze11 => ?_)
      refine w_iadd (by omega) (by omega) (tX0_leastCost_0_ok (32, .iadd, 1) (List.mem_of_getElem? (i := 20) rfl)) (fun zv12 ze13 => ?_)
      refine w_iload (List.Mem.tail _ (List.Mem.head _)) (tX0_leastCost_0_ok (33, .iload 6, 2) (List.mem_of_getElem? (i := 21) rfl)) ?_
      refine w_callV (own := 5) (mi := 48) [.int zv12, .int x] [.int fo] [(0, .ref pl), (1, .int zv12), (2, .int x)] rfl (cllw_X0 (47, 0, 48) (List.mem_of_getElem? (i := 3) rfl)) rfl rfl c_pl rfl (by omega) (w_lo (n := 23) rfl (by omega)) (Nat.le_of_ble_eq_true rfl) (Nat.le_of_ble_eq_true rfl) rfl (tX0_leastCost_0_ok (35, .invokevirtual 47, 3) (List.mem_of_getElem? (i := 22) rfl)) (c_place hT (by omega) ⟨by omega, by rw [show zv12.toInt.toNat / 2 = p.toInt.toNat by omega]; omega⟩ hL c_pl p1 c_pk p2 c_pn (fun zv14 ze15 => ?_))
      have pl9 : zv14.toInt = f_pl ρ p.toInt.toNat 1 x.toInt := by
        rw [ze15, if_neg (by omega), show zv12.toInt.toNat / 2 = p.toInt.toNat by omega, hr9.1, hr9.2.1]
        rfl
      clear ze15
      have plb := f_pl_L wf (p := p.toInt.toNat) (by omega) hx9
      show ww l D tys A X fr lo mX0_leastCost Q 38 [(7, .int zv4), (6, .int x), (5, .int le), (0, .ref ft), (1, .ref pl), (2, .ref wa), (3, .int p), (4, .int fo)] [.int zv14, .int fo] h
      refine w_iadd (by omega) (by omega) (tX0_leastCost_0_ok (38, .iadd, 1) (List.mem_of_getElem? (i := 23) rfl)) (fun zv16 ze17 => ?_)
      refine w_istore [(8, .int zv16), (7, .int zv4), (6, .int x), (5, .int le), (0, .ref ft), (1, .ref pl), (2, .ref wa), (3, .int p), (4, .int fo)] rfl (Nat.le_of_ble_eq_true rfl) (tX0_leastCost_0_ok (39, .istore 8, 2) (List.mem_of_getElem? (i := 24) rfl)) ?_
      refine w_aload_n (List.Mem.tail _ (List.Mem.tail _ (List.Mem.tail _ (List.Mem.tail _ (List.Mem.tail _ (List.Mem.tail _ (List.Mem.head _))))))) (tX0_leastCost_0_ok (41, .aload_n 2, 1) (List.mem_of_getElem? (i := 25) rfl)) ?_
      refine w_iconst (by decide) (tX0_leastCost_0_ok (42, .iconst 2, 1) (List.mem_of_getElem? (i := 26) rfl)) (fun zv18 ze19 => ?_)
      refine w_iload_n (List.Mem.tail _ (List.Mem.tail _ (List.Mem.tail _ (List.Mem.tail _ (List.Mem.tail _ (List.Mem.tail _ (List.Mem.tail _ (List.Mem.head _)))))))) (tX0_leastCost_0_ok (43, .iload_n 3, 1) (List.mem_of_getElem? (i := 27) rfl)) ?_
      refine w_imul (by assumption) (by omega) (by omega) (tX0_leastCost_0_ok (44, .imul, 1) (List.mem_of_getElem? (i := 28) rfl)) (fun zv20 ze21 => ?_)
      refine w_iload (List.Mem.tail _ (List.Mem.head _)) (tX0_leastCost_0_ok (45, .iload 7, 2) (List.mem_of_getElem? (i := 29) rfl)) ?_
      refine w_callS (own := 5) (mi := 15) [.ref wa, .int zv20, .int zv4] [] [(0, .ref wa), (1, .int zv20), (2, .int zv4)] rfl (cllw_X0 (50, 1, 15) (List.mem_of_getElem? (i := 4) rfl)) rfl rfl (by omega) (w_lo (n := 22) rfl (by omega)) (Nat.le_of_ble_eq_true rfl) (Nat.le_of_ble_eq_true rfl) rfl (tX0_leastCost_0_ok (47, .invokestatic 50, 3) (List.mem_of_getElem? (i := 30) rfl)) (c_costOf hT c_wa hw (by omega) (fun zv22 ze23 => ?_))
      have ob0 := t_off_b (W := W) (r := zv20.toInt.toNat) (by omega) zv4.toInt
      rw [← ze23] at ob0
      show ww l D tys A X fr lo mX0_leastCost Q 50 [(8, .int zv16), (7, .int zv4), (6, .int x), (5, .int le), (0, .ref ft), (1, .ref pl), (2, .ref wa), (3, .int p), (4, .int fo)] [.int zv22] h
      refine w_aload_n (List.Mem.tail _ (List.Mem.tail _ (List.Mem.tail _ (List.Mem.tail _ (List.Mem.tail _ (List.Mem.tail _ (List.Mem.head _))))))) (tX0_leastCost_0_ok (50, .aload_n 2, 1) (List.mem_of_getElem? (i := 31) rfl)) ?_
      refine w_iconst (by decide) (tX0_leastCost_0_ok (51, .iconst 2, 1) (List.mem_of_getElem? (i := 32) rfl)) (fun zv24 ze25 => ?_)
      refine w_iload_n (List.Mem.tail _ (List.Mem.tail _ (List.Mem.tail _ (List.Mem.tail _ (List.Mem.tail _ (List.Mem.tail _ (List.Mem.tail _ (List.Mem.head _)))))))) (tX0_leastCost_0_ok (52, .iload_n 3, 1) (List.mem_of_getElem? (i := 33) rfl)) ?_
      refine w_imul (by assumption) (by omega) (by omega) (tX0_leastCost_0_ok (53, .imul, 1) (List.mem_of_getElem? (i := 34) rfl)) (fun zv26 ze27 => ?_)
      refine w_iconst (by decide) (tX0_leastCost_0_ok (54, .iconst 1, 1) (List.mem_of_getElem? (i := 35) rfl)) (fun zv28 ze29 => ?_)
      refine w_iadd (by omega) (by omega) (tX0_leastCost_0_ok (55, .iadd, 1) (List.mem_of_getElem? (i := 36) rfl)) (fun zv30 ze31 => ?_)
      refine w_iload (List.Mem.head _) (tX0_leastCost_0_ok (56, .iload 8, 2) (List.mem_of_getElem? (i := 37) rfl)) ?_
      refine w_callS (own := 5) (mi := 15) [.ref wa, .int zv30, .int zv16] [.int zv22] [(0, .ref wa), (1, .int zv30), (2, .int zv16)] rfl (cllw_X0 (50, 1, 15) (List.mem_of_getElem? (i := 4) rfl)) rfl rfl (by omega) (w_lo (n := 22) rfl (by omega)) (Nat.le_of_ble_eq_true rfl) (Nat.le_of_ble_eq_true rfl) rfl (tX0_leastCost_0_ok (58, .invokestatic 50, 3) (List.mem_of_getElem? (i := 38) rfl)) (c_costOf hT c_wa hw (by omega) (fun zv32 ze33 => ?_))
      have ob1 := t_off_b (W := W) (r := zv30.toInt.toNat) (by omega) zv16.toInt
      rw [← ze33] at ob1
      show ww l D tys A X fr lo mX0_leastCost Q 61 [(8, .int zv16), (7, .int zv4), (6, .int x), (5, .int le), (0, .ref ft), (1, .ref pl), (2, .ref wa), (3, .int p), (4, .int fo)] [.int zv32, .int zv22] h
      refine w_iadd (by omega) (by omega) (tX0_leastCost_0_ok (61, .iadd, 1) (List.mem_of_getElem? (i := 39) rfl)) (fun zv34 ze35 => ?_)
      refine w_istore [(9, .int zv34), (8, .int zv16), (7, .int zv4), (6, .int x), (5, .int le), (0, .ref ft), (1, .ref pl), (2, .ref wa), (3, .int p), (4, .int fo)] rfl (Nat.le_of_ble_eq_true rfl) (tX0_leastCost_0_ok (62, .istore 9, 2) (List.mem_of_getElem? (i := 40) rfl)) ?_
      refine w_iload_n (List.Mem.tail _ (List.Mem.tail _ (List.Mem.tail _ (List.Mem.tail _ (List.Mem.tail _ (List.Mem.tail _ (List.Mem.tail _ (List.Mem.tail _ (List.Mem.head _))))))))) (tX0_leastCost_0_ok (64, .iload_n 3, 1) (List.mem_of_getElem? (i := 41) rfl)) ?_
      refine w_iconst (by decide) (tX0_leastCost_0_ok (65, .iconst 1, 1) (List.mem_of_getElem? (i := 42) rfl)) (fun zv36 ze37 => ?_)
      refine w_iadd (by omega) (by omega) (tX0_leastCost_0_ok (66, .iadd, 1) (List.mem_of_getElem? (i := 43) rfl)) (fun zv38 ze39 => ?_)
      refine w_istore [(10, .int zv38), (9, .int zv34), (8, .int zv16), (7, .int zv4), (6, .int x), (5, .int le), (0, .ref ft), (1, .ref pl), (2, .ref wa), (3, .int p), (4, .int fo)] rfl (Nat.le_of_ble_eq_true rfl) (tX0_leastCost_0_ok (67, .istore 10, 2) (List.mem_of_getElem? (i := 44) rfl)) ?_
      refine w_lv [(10, .int zv38), (9, .int zv34), (8, .int zv16), (7, .int zv4), (6, .int x), (5, .int le), (0, .ref ft), (1, .ref pl), (2, .ref wa), (3, .int p), (4, .int fo)] (by intro q hq; simp only [List.mem_cons, List.not_mem_nil, or_false] at hq ⊢; rcases hq with e | e | e | e | e | e | e | e | e | e | e <;> subst e <;> simp) ?_
      have at9 : t_at nn.toInt.toNat ρ W (t_C nn.toInt.toNat ρ W 6) p.toInt.toNat fo.toInt x.toInt = (zv22.toInt + zv32.toInt) + (t_hs ρ ((2 * p.toInt.toNat : Nat) : Int) (fun q => t_C nn.toInt.toNat ρ W 6 q zv4.toInt) nn.toInt.toNat + t_hs ρ ((2 * p.toInt.toNat + 1 : Nat) : Int) (fun q => t_C nn.toInt.toNat ρ W 6 q zv16.toInt) nn.toInt.toNat) := by
        unfold t_at
        rw [ze23, ze33, show zv20.toInt.toNat = 2 * p.toInt.toNat by omega, show zv30.toInt.toNat = 2 * p.toInt.toNat + 1 by omega, show zv4.toInt = fo.toInt + x.toInt by omega, show zv16.toInt = fo.toInt + f_pl ρ p.toInt.toNat 1 x.toInt by omega]
        omega
      have ab9 := t_at_b (W := W) wf (p := p.toInt.toNat) fo.toInt x.toInt (by omega) 6
      refine c_lcI hT c_ft t0 c_tb hF c_rw c_pl p0 p1 p2 p8 c_pk c_pn c_ph hn hρ wf hL c_wa hw (x0 := x.toInt) (x1 := f_pl ρ p.toInt.toNat 1 x.toInt) (bs := zv22.toInt + zv32.toInt) hp hfo (by omega) (by omega) (by omega) plb.2 (by omega) (by omega) ⟨by omega, by rw [← at9]; exact ab9.2⟩ ht (nn.toInt - zv38.toInt).toNat _ _ (by omega) (by omega) ?_ (fun zqa40 zca41 zz42 => ?_)
      · rw [show zv38.toInt.toNat = p.toInt.toNat + 1 by omega, (show t_hs ρ ((2 * p.toInt.toNat : Nat) : Int) _ (p.toInt.toNat + 1) = 0 from t_hs_low (s := 0) wf (p.toInt.toNat + 1) (Nat.le_refl _) (by omega)), t_hs_low (s := 1) wf (p.toInt.toNat + 1) (Nat.le_refl _) (by omega)]
        omega
      rw [← at9] at zz42
      show ww l D tys A X fr lo mX0_leastCost Q 166 [(10, .int zqa40), (9, .int zca41), (8, .int zv16), (7, .int zv4), (6, .int x), (5, .int le), (0, .ref ft), (1, .ref pl), (2, .ref wa), (3, .int p), (4, .int fo)] [] h
      refine w_iload (List.Mem.tail _ (List.Mem.tail _ (List.Mem.tail _ (List.Mem.tail _ (List.Mem.tail _ (List.Mem.head _)))))) (tX0_leastCost_1_ok (166, .iload 5, 2) (List.mem_of_getElem? (i := 37) rfl)) ?_
      refine w_iload (List.Mem.tail _ (List.Mem.head _)) (tX0_leastCost_1_ok (168, .iload 9, 2) (List.mem_of_getElem? (i := 38) rfl)) ?_
      refine w_minE rfl (by omega) (by show 13 ≤ lo; omega) (tX0_leastCost_1_ok (170, .invokestatic 40, 3) (List.mem_of_getElem? (i := 39) rfl)) (fun zv43 ze44 => ?_)
      refine w_istore [(5, .int zv43), (10, .int zqa40), (9, .int zca41), (8, .int zv16), (7, .int zv4), (6, .int x), (0, .ref ft), (1, .ref pl), (2, .ref wa), (3, .int p), (4, .int fo)] rfl (Nat.le_of_ble_eq_true rfl) (tX0_leastCost_1_ok (173, .istore 5, 2) (List.mem_of_getElem? (i := 40) rfl)) ?_
      refine w_iload (List.Mem.tail _ (List.Mem.tail _ (List.Mem.tail _ (List.Mem.tail _ (List.Mem.tail _ (List.Mem.head _)))))) (tX0_leastCost_1_ok (175, .iload 6, 2) (List.mem_of_getElem? (i := 41) rfl)) ?_
      refine w_aload_n (List.Mem.tail _ (List.Mem.tail _ (List.Mem.tail _ (List.Mem.tail _ (List.Mem.tail _ (List.Mem.tail _ (List.Mem.tail _ (List.Mem.head _)))))))) (tX0_leastCost_1_ok (177, .aload_n 1, 1) (List.mem_of_getElem? (i := 42) rfl)) ?_
      refine w_iload_n (List.Mem.tail _ (List.Mem.tail _ (List.Mem.tail _ (List.Mem.tail _ (List.Mem.tail _ (List.Mem.tail _ (List.Mem.tail _ (List.Mem.tail _ (List.Mem.tail _ (List.Mem.head _)))))))))) (tX0_leastCost_1_ok (178, .iload_n 3, 1) (List.mem_of_getElem? (i := 43) rfl)) ?_
      refine w_callV (own := 5) (mi := 49) [.int p] [.int x] [(0, .ref pl), (1, .int p)] rfl (cllw_X0 (54, 0, 49) (List.mem_of_getElem? (i := 5) rfl)) rfl rfl c_pl rfl (by omega) (w_lo (n := 21) rfl (by omega)) (Nat.le_of_ble_eq_true rfl) (Nat.le_of_ble_eq_true rfl) rfl (tX0_leastCost_1_ok (179, .invokevirtual 54, 3) (List.mem_of_getElem? (i := 44) rfl)) (c_stride hT (by omega) c_pl p1 c_pk (fun zv45 ze46 => ?_))
      have st9 : zv45.toInt = f_st ρ p.toInt.toNat := by rw [ze46, hr9.1]; rfl
      clear ze46
      show ww l D tys A X fr lo mX0_leastCost Q 182 [(5, .int zv43), (10, .int zqa40), (9, .int zca41), (8, .int zv16), (7, .int zv4), (6, .int x), (0, .ref ft), (1, .ref pl), (2, .ref wa), (3, .int p), (4, .int fo)] [.int zv45, .int x] h
      refine w_iadd (by omega) (by omega) (tX0_leastCost_1_ok (182, .iadd, 1) (List.mem_of_getElem? (i := 45) rfl)) (fun zv47 ze48 => ?_)
      refine w_istore [(6, .int zv47), (5, .int zv43), (10, .int zqa40), (9, .int zca41), (8, .int zv16), (7, .int zv4), (0, .ref ft), (1, .ref pl), (2, .ref wa), (3, .int p), (4, .int fo)] rfl (Nat.le_of_ble_eq_true rfl) (tX0_leastCost_1_ok (183, .istore 6, 2) (List.mem_of_getElem? (i := 46) rfl)) ?_
      refine w_goto (tgt := 7) (tX0_leastCost_1_ok (185, .goto (-178), 3) (List.mem_of_getElem? (i := 47) rfl)) rfl ?_
      refine w_lv [(6, .int zv47), (5, .int zv43), (0, .ref ft), (1, .ref pl), (2, .ref wa), (3, .int p), (4, .int fo)] (by intro q hq; simp only [List.mem_cons, List.not_mem_nil, or_false] at hq ⊢; rcases hq with e | e | e | e | e | e | e <;> subst e <;> simp) ?_
      have mi9 := ze44
      have k9 : (ρ p.toInt.toNat 1 + 1 - zv47.toInt).toNat < j ∧ (0 ≤ zv47.toInt ∧ zv47.toInt ≤ 24) ∧ zv47.toInt = x.toInt + f_st ρ p.toInt.toNat := by
        clear hle
        omega
      refine ih (ρ p.toInt.toNat 1 + 1 - zv47.toInt).toNat k9.1 (i + 1) _ _ rfl ?_ k9.2.1 (Or.inr ⟨i, rfl, by rw [← hi]; exact hx8.2, ?_⟩) hq
      · rw [k9.2.2, hi]
        push_cast
        rw [Int.mul_add, Int.mul_one]
      · have ab9 := t_at_b (W := W) wf (p := p.toInt.toNat) fo.toInt x.toInt (by omega) 6
        have fe9 : (fun i : Nat => t_at nn.toInt.toNat ρ W (t_C nn.toInt.toNat ρ W 6) p.toInt.toNat fo.toInt (f_st ρ p.toInt.toNat * (i : Int))) i = t_at nn.toInt.toNat ρ W (t_C nn.toInt.toNat ρ W 6) p.toInt.toNat fo.toInt x.toInt := by rw [hi]
        rcases hle with ⟨z1, z2⟩ | ⟨k, z1, z3, z2⟩
        · subst z1
          show zv43.toInt = (fun i : Nat => t_at nn.toInt.toNat ρ W (t_C nn.toInt.toNat ρ W 6) p.toInt.toNat fo.toInt (f_st ρ p.toInt.toNat * (i : Int))) 0
          rw [fe9]
          omega
        · subst z1
          show zv43.toInt = min (t_fm (fun i : Nat => t_at nn.toInt.toNat ρ W (t_C nn.toInt.toNat ρ W 6) p.toInt.toNat fo.toInt (f_st ρ p.toInt.toNat * (i : Int))) k) ((fun i : Nat => t_at nn.toInt.toNat ρ W (t_C nn.toInt.toNat ρ W 6) p.toInt.toNat fo.toInt (f_st ρ p.toInt.toNat * (i : Int))) (k + 1))
          rw [fe9, ← z2]
          omega
theorem c_leastCost (hT : k_tys tys cA) {ft : Nat} {ts : List Value} (c_ft : h ft = some (.inr (0, ts))) {tb : Nat} {F : Nat → Option Nat} {tr : Nat → Nat} (t0 : ts[0]? = some (.ref tb)) (c_tb : h tb = some (.inl (cA 5, 6, .inr (.inr (.inr (.inr F)))))) (hF : ∀ i, i < 6 → F i = some (tr i)) (c_rw : ∀ i, i < 6 → h (tr i) = some (.inl (cA 0, 121, .inl (tab i)))) {pl pk pn ph : Nat} {ps : List Value} {gK gN gH : Nat → Int32} {nn : Int32} (c_pl : h pl = some (.inr (4, ps))) (p0 : ps[0]? = some (.int nn)) (p1 : ps[1]? = some (.ref pk)) (p2 : ps[2]? = some (.ref pn)) (p8 : ps[8]? = some (.ref ph)) (c_pk : h pk = some (.inl (cA 0, 6, .inl gK))) (c_pn : h pn = some (.inl (cA 0, 6, .inl gN))) (c_ph : h ph = some (.inl (cA 0, 6, .inl gH))) (hn : 0 ≤ nn.toInt ∧ nn.toInt ≤ 6) (hρ : ∀ q, q < nn.toInt.toNat → (gK q).toInt = ρ q 0 ∧ (gN q).toInt = ρ q 1 ∧ (gH q).toInt = ρ q 8) (wf : wfR nn.toInt.toNat ρ) (hL : ∀ q, q < 6 → 0 ≤ (gN q).toInt ∧ (gN q).toInt ≤ 20) {wa : Nat} {gw : Nat → Int32} (c_wa : h wa = some (.inl (cA 0, 12, .inl gw))) (hw : ∀ r, r < 12 → (gw r).toInt = W r) {p fo : Int32} (hp : 0 ≤ p.toInt ∧ p.toInt < nn.toInt) (hfo : fo.toInt ≤ t_mf ρ 6 p.toInt.toNat) (hf0 : 0 ≤ fo.toInt) (hf : 1 ≤ fr) (hl : 40 ≤ lo) (ht : ∀ q, p.toInt.toNat < q → q < nn.toInt.toNat → ∀ d : Nat, (d : Int) ≤ t_mf ρ 6 q → (tab q d).toInt = t_C nn.toInt.toNat ρ W 6 q (d : Int)) (hq : ∀ v : Int32, v.toInt = t_C nn.toInt.toNat ρ W 6 p.toInt.toNat fo.toInt → Q (some (.int v)) h) : ww l D tys A X fr lo mX0_leastCost Q 0 [(0, .ref ft), (1, .ref pl), (2, .ref wa), (3, .int p), (4, .int fo)] [] h := by
  refine w_ldcE (u := 1000000) (pg_kw 5 (46, 1000000) (List.mem_of_getElem? (i := 0) rfl)) (tX0_leastCost_0_ok (0, .ldc 46, 2) (List.mem_of_getElem? (i := 0) rfl)) ?_
  refine w_istore [(5, .int (1000000 : Int32)), (0, .ref ft), (1, .ref pl), (2, .ref wa), (3, .int p), (4, .int fo)] rfl (Nat.le_of_ble_eq_true rfl) (tX0_leastCost_0_ok (2, .istore 5, 2) (List.mem_of_getElem? (i := 1) rfl)) ?_
  refine w_iconst (by decide) (tX0_leastCost_0_ok (4, .iconst 0, 1) (List.mem_of_getElem? (i := 2) rfl)) (fun zv1 ze2 => ?_)
  refine w_istore [(6, .int zv1), (5, .int (1000000 : Int32)), (0, .ref ft), (1, .ref pl), (2, .ref wa), (3, .int p), (4, .int fo)] rfl (Nat.le_of_ble_eq_true rfl) (tX0_leastCost_0_ok (5, .istore 6, 2) (List.mem_of_getElem? (i := 3) rfl)) ?_
  refine w_lv [(6, .int zv1), (5, .int (1000000 : Int32)), (0, .ref ft), (1, .ref pl), (2, .ref wa), (3, .int p), (4, .int fo)] (by intro q hq; simp only [List.mem_cons, List.not_mem_nil, or_false] at hq ⊢; rcases hq with e | e | e | e | e | e | e <;> subst e <;> simp) ?_
  exact c_lcX hT c_ft t0 c_tb hF c_rw c_pl p0 p1 p2 p8 c_pk c_pn c_ph hn hρ wf hL c_wa hw hp hfo hf0 hf hl ht _ 0 _ _ rfl (by simp; omega) (by omega) (Or.inl ⟨rfl, rfl⟩) hq
theorem c_ffL (hT : k_tys tys cA) {ft mf : Nat} {ts : List Value} (t1 : ts[1]? = some (.ref mf)) {pl pk pn ph : Nat} {ps : List Value} {gK gN gH : Nat → Int32} {nn : Int32} (p0 : ps[0]? = some (.int nn)) (p1 : ps[1]? = some (.ref pk)) (p2 : ps[2]? = some (.ref pn)) (p8 : ps[8]? = some (.ref ph)) (n_ft_mf : ft ≠ mf) (n_pl_mf : pl ≠ mf) (n_pk_mf : pk ≠ mf) (n_pn_mf : pn ≠ mf) (n_ph_mf : ph ≠ mf) (hn : 0 ≤ nn.toInt ∧ nn.toInt ≤ 6) (hρ : ∀ q, q < nn.toInt.toNat → (gK q).toInt = ρ q 0 ∧ (gN q).toInt = ρ q 1 ∧ (gH q).toInt = ρ q 8) (wf : wfR nn.toInt.toNat ρ) (hf : 1 ≤ fr) (hl : 30 ≤ lo) : ∀ (j : Nat) (p : Int32) (h : ch_H) (gm : Nat → Int32), p.toInt + j = nn.toInt → 0 ≤ p.toInt → (∀ q, q < p.toInt.toNat → (gm q).toInt = t_mf ρ 6 q) → h ft = some (.inr (0, ts)) → h mf = some (.inl (cA 0, 6, .inl gm)) → h pl = some (.inr (4, ps)) → h pk = some (.inl (cA 0, 6, .inl gK)) → h pn = some (.inl (cA 0, 6, .inl gN)) → h ph = some (.inl (cA 0, 6, .inl gH)) → (∀ (g : ch_H) (gm : Nat → Int32) (p1 : Int32), (∀ q, q < nn.toInt.toNat → (gm q).toInt = t_mf ρ 6 q) → g ft = some (.inr (0, ts)) → g mf = some (.inl (cA 0, 6, .inl gm)) → g pl = some (.inr (4, ps)) → g pk = some (.inl (cA 0, 6, .inl gK)) → g pn = some (.inl (cA 0, 6, .inl gN)) → g ph = some (.inl (cA 0, 6, .inl gH)) → (∀ q, q ≠ mf → g q = h q) → Q none g) → ww l D tys A X fr lo mX0_findFeet Q 2 [(2, .int p), (0, .ref ft), (1, .ref pl)] [] h := by
  intro j
  induction j using Nat.strongRecOn with
  | ind j ih =>
    intro p h gm hj hp0 hi c_ft c_mf c_pl c_pk c_pn c_ph hq
    have h66 := wf.1
    refine w_iload_n (List.Mem.head _) (tX0_findFeet_0_ok (2, .iload_n 2, 1) (List.mem_of_getElem? (i := 2) rfl)) ?_
    refine w_aload_n (List.Mem.tail _ (List.Mem.tail _ (List.Mem.head _))) (tX0_findFeet_0_ok (3, .aload_n 1, 1) (List.mem_of_getElem? (i := 3) rfl)) ?_
    refine w_get (own := 5) rfl rfl (by decide) c_pl p0 (tX0_findFeet_0_ok (4, .getfield 24, 3) (List.mem_of_getElem? (i := 4) rfl)) ?_
    refine w_icmp_ge (tgt := 62) (tX0_findFeet_0_ok (7, .if_icmp .ge 55, 3) (List.mem_of_getElem? (i := 5) rfl)) rfl (fun zb1 => ?_) (fun zb1 => ?_)
    · refine w_vret rfl (tX0_findFeet_0_ok (62, .return_, 1) (List.mem_of_getElem? (i := 37) rfl)) ?_
      exact hq h gm p (fun q hq9 => hi q (by omega)) c_ft c_mf c_pl c_pk c_pn c_ph (fun _ _ => rfl)
    · refine w_aload_n (List.Mem.tail _ (List.Mem.tail _ (List.Mem.head _))) (tX0_findFeet_0_ok (10, .aload_n 1, 1) (List.mem_of_getElem? (i := 6) rfl)) ?_
      refine w_get (own := 5) rfl rfl (by decide) c_pl p8 (tX0_findFeet_0_ok (11, .getfield 34, 3) (List.mem_of_getElem? (i := 7) rfl)) ?_
      refine w_iload_n (List.Mem.head _) (tX0_findFeet_0_ok (14, .iload_n 2, 1) (List.mem_of_getElem? (i := 8) rfl)) ?_
      refine w_iald hT c_ph (by omega) (by omega) (tX0_findFeet_0_ok (15, .iaload, 1) (List.mem_of_getElem? (i := 9) rfl)) (fun zv2 ze3 => ?_)
      have hz9 := (hρ p.toInt.toNat (by omega)).2.2
      have hw9 := (wf.2 p.toInt.toNat (by omega)).1.2.2.2.2.2.2.2.2
      refine w_iconst (by decide) (tX0_findFeet_0_ok (16, .iconst 1, 1) (List.mem_of_getElem? (i := 10) rfl)) (fun zv4 ze5 => ?_)
      refine w_ishr (tX0_findFeet_0_ok (17, .ishr, 1) (List.mem_of_getElem? (i := 11) rfl)) (fun zv6 ze7 => ?_)
      have sh9 := kn_shr zv2 zv4 (k := 1) (by decide) (by omega)
      rw [← ze7] at sh9
      simp only [Nat.reducePow] at sh9
      refine w_istore_n [(3, .int zv6), (2, .int p), (0, .ref ft), (1, .ref pl)] rfl (Nat.le_of_ble_eq_true rfl) (tX0_findFeet_0_ok (18, .istore_n 3, 1) (List.mem_of_getElem? (i := 12) rfl)) ?_
      refine w_aload_n (List.Mem.tail _ (List.Mem.tail _ (List.Mem.head _))) (tX0_findFeet_0_ok (19, .aload_n 0, 1) (List.mem_of_getElem? (i := 13) rfl)) ?_
      refine w_get (own := 5) rfl rfl (by decide) c_ft t1 (tX0_findFeet_0_ok (20, .getfield 16, 3) (List.mem_of_getElem? (i := 14) rfl)) ?_
      refine w_iload_n (List.Mem.tail _ (List.Mem.head _)) (tX0_findFeet_0_ok (23, .iload_n 2, 1) (List.mem_of_getElem? (i := 15) rfl)) ?_
      refine w_iload_n (List.Mem.head _) (tX0_findFeet_0_ok (24, .iload_n 3, 1) (List.mem_of_getElem? (i := 16) rfl)) ?_
      refine w_if_lt (tgt := 54) (tX0_findFeet_0_ok (25, .ifCond .lt 29, 3) (List.mem_of_getElem? (i := 17) rfl)) rfl (fun zb8 => ?_) (fun zb8 => ?_)
      · refine w_iconst (by decide) (tX0_findFeet_0_ok (54, .iconst 0, 1) (List.mem_of_getElem? (i := 33) rfl)) (fun zv9 ze10 => ?_)
        refine w_iast hT c_mf (by omega) (by omega) (tX0_findFeet_0_ok (55, .iastore, 1) (List.mem_of_getElem? (i := 34) rfl)) (fun zh11 zc12 zo13 => ?_)
        have zc14 := (zo13 ft n_ft_mf).trans c_ft
        have zc15 := (zo13 pl n_pl_mf).trans c_pl
        have zc16 := (zo13 pk n_pk_mf).trans c_pk
        have zc17 := (zo13 pn n_pn_mf).trans c_pn
        have zc18 := (zo13 ph n_ph_mf).trans c_ph
        refine w_iinc (fun zv19 => [(2, .int zv19), (3, .int zv6), (0, .ref ft), (1, .ref pl)]) (fun _ => rfl) (List.Mem.tail _ (List.Mem.head _)) (Nat.le_of_ble_eq_true rfl) (by decide) (by omega) (by omega) (tX0_findFeet_0_ok (56, .iinc 2 1, 3) (List.mem_of_getElem? (i := 35) rfl)) (fun zv19 ze20 => ?_)
        refine w_goto (tgt := 2) (tX0_findFeet_0_ok (59, .goto (-57), 3) (List.mem_of_getElem? (i := 36) rfl)) rfl ?_
        refine w_lv [(2, .int zv19), (0, .ref ft), (1, .ref pl)] (by intro q hq; simp only [List.mem_cons, List.not_mem_nil, or_false] at hq ⊢; rcases hq with e | e | e <;> subst e <;> simp) ?_
        refine ih (j - 1) (by omega) _ _ _ (by omega) (by omega) (fun q hq9 => ?_) zc14 zc12 zc15 zc16 zc17 zc18 (fun g gm1 k1 z1 z2 z3 z4 z5 z6 z7 z8 => hq g gm1 k1 z1 z2 z3 z4 z5 z6 z7 (fun q hq9 => (z8 q hq9).trans (zo13 q hq9)))
        by_cases c9 : q = p.toInt.toNat
        · subst c9
          rw [upd_s]
          show _ = (if 0 ≤ ρ p.toInt.toNat 8 then min 120 (t_mf ρ 5 ((ρ p.toInt.toNat 8).toNat / 2) + ρ ((ρ p.toInt.toNat 8).toNat / 2) 1) else 0)
          rw [if_neg (by omega)]
          omega
        · rw [upd_n _ _ c9]
          exact hi q (by omega)
      · refine w_iload_n (List.Mem.head _) (tX0_findFeet_0_ok (28, .iload_n 3, 1) (List.mem_of_getElem? (i := 18) rfl)) ?_
        refine w_iload_n (List.Mem.tail _ (List.Mem.head _)) (tX0_findFeet_0_ok (29, .iload_n 2, 1) (List.mem_of_getElem? (i := 19) rfl)) ?_
        refine w_icmp_ge (tgt := 54) (tX0_findFeet_0_ok (30, .if_icmp .ge 24, 3) (List.mem_of_getElem? (i := 20) rfl)) rfl (fun zb21 => ?_) (fun zb21 => ?_)
        · exfalso; omega
        · refine w_bipush (by decide) (tX0_findFeet_0_ok (33, .bipush 120, 2) (List.mem_of_getElem? (i := 21) rfl)) (fun zv22 ze23 => ?_)
          refine w_aload_n (List.Mem.tail _ (List.Mem.tail _ (List.Mem.head _))) (tX0_findFeet_0_ok (35, .aload_n 0, 1) (List.mem_of_getElem? (i := 22) rfl)) ?_
          refine w_get (own := 5) rfl rfl (by decide) c_ft t1 (tX0_findFeet_0_ok (36, .getfield 16, 3) (List.mem_of_getElem? (i := 23) rfl)) ?_
          refine w_iload_n (List.Mem.head _) (tX0_findFeet_0_ok (39, .iload_n 3, 1) (List.mem_of_getElem? (i := 24) rfl)) ?_
          refine w_iald hT c_mf (by omega) (by omega) (tX0_findFeet_0_ok (40, .iaload, 1) (List.mem_of_getElem? (i := 25) rfl)) (fun zv24 ze25 => ?_)
          have mv9 := hi zv6.toInt.toNat (by omega)
          have mb9 := t_mf_b wf 6 zv6.toInt.toNat (by omega)
          refine w_aload_n (List.Mem.tail _ (List.Mem.tail _ (List.Mem.tail _ (List.Mem.head _)))) (tX0_findFeet_0_ok (41, .aload_n 1, 1) (List.mem_of_getElem? (i := 26) rfl)) ?_
          refine w_get (own := 5) rfl rfl (by decide) c_pl p2 (tX0_findFeet_0_ok (42, .getfield 37, 3) (List.mem_of_getElem? (i := 27) rfl)) ?_
          refine w_iload_n (List.Mem.head _) (tX0_findFeet_0_ok (45, .iload_n 3, 1) (List.mem_of_getElem? (i := 28) rfl)) ?_
          refine w_iald hT c_pn (by omega) (by omega) (tX0_findFeet_0_ok (46, .iaload, 1) (List.mem_of_getElem? (i := 29) rfl)) (fun zv26 ze27 => ?_)
          have lv9 := (hρ zv6.toInt.toNat (by omega)).2.1
          have lb9 := (wf.2 zv6.toInt.toNat (by omega)).1.2.1
          refine w_iadd (by omega) (by omega) (tX0_findFeet_0_ok (47, .iadd, 1) (List.mem_of_getElem? (i := 30) rfl)) (fun zv28 ze29 => ?_)
          refine w_minE rfl (by omega) (by show 1 + (1 + 0) + 13 ≤ lo; omega) (tX0_findFeet_0_ok (48, .invokestatic 40, 3) (List.mem_of_getElem? (i := 31) rfl)) (fun zv30 ze31 => ?_)
          refine w_goto (tgt := 55) (tX0_findFeet_0_ok (51, .goto 4, 3) (List.mem_of_getElem? (i := 32) rfl)) rfl ?_
          refine w_iast hT c_mf (by omega) (by omega) (tX0_findFeet_0_ok (55, .iastore, 1) (List.mem_of_getElem? (i := 34) rfl)) (fun zh32 zc33 zo34 => ?_)
          have zc35 := (zo34 ft n_ft_mf).trans c_ft
          have zc36 := (zo34 pl n_pl_mf).trans c_pl
          have zc37 := (zo34 pk n_pk_mf).trans c_pk
          have zc38 := (zo34 pn n_pn_mf).trans c_pn
          have zc39 := (zo34 ph n_ph_mf).trans c_ph
          refine w_iinc (fun zv40 => [(2, .int zv40), (3, .int zv6), (0, .ref ft), (1, .ref pl)]) (fun _ => rfl) (List.Mem.tail _ (List.Mem.head _)) (Nat.le_of_ble_eq_true rfl) (by decide) (by omega) (by omega) (tX0_findFeet_0_ok (56, .iinc 2 1, 3) (List.mem_of_getElem? (i := 35) rfl)) (fun zv40 ze41 => ?_)
          refine w_goto (tgt := 2) (tX0_findFeet_0_ok (59, .goto (-57), 3) (List.mem_of_getElem? (i := 36) rfl)) rfl ?_
          refine w_lv [(2, .int zv40), (0, .ref ft), (1, .ref pl)] (by intro q hq; simp only [List.mem_cons, List.not_mem_nil, or_false] at hq ⊢; rcases hq with e | e | e <;> subst e <;> simp) ?_
          refine ih (j - 1) (by omega) _ _ _ (by omega) (by omega) (fun q hq9 => ?_) zc35 zc33 zc36 zc37 zc38 zc39 (fun g gm1 k1 z1 z2 z3 z4 z5 z6 z7 z8 => hq g gm1 k1 z1 z2 z3 z4 z5 z6 z7 (fun q hq9 => (z8 q hq9).trans (zo34 q hq9)))
          by_cases c9 : q = p.toInt.toNat
          · subst c9
            rw [upd_s]
            show _ = (if 0 ≤ ρ p.toInt.toNat 8 then min 120 (t_mf ρ 5 ((ρ p.toInt.toNat 8).toNat / 2) + ρ ((ρ p.toInt.toNat 8).toNat / 2) 1) else 0)
            have ca9 := t_car wf (c := p.toInt.toNat) (by omega) (by omega)
            rw [if_pos (by omega), t_mf_fu wf 5 6 _ (by omega) (by omega) (by omega), show (ρ p.toInt.toNat 8).toNat / 2 = zv6.toInt.toNat by omega]
            omega
          · rw [upd_n _ _ c9]
            exact hi q (by omega)
theorem c_loT (hT : k_tys tys cA) {ft tb wa mf : Nat} {ts : List Value} {F : Nat → Option Nat} {tr : Nat → Nat} {gw gm : Nat → Int32} (t0 : ts[0]? = some (.ref tb)) (t1 : ts[1]? = some (.ref mf)) (hF : ∀ i, i < 6 → F i = some (tr i)) {pl pk pn ph : Nat} {ps : List Value} {gK gN gH : Nat → Int32} {nn : Int32} (p0 : ps[0]? = some (.int nn)) (p1 : ps[1]? = some (.ref pk)) (p2 : ps[2]? = some (.ref pn)) (p8 : ps[8]? = some (.ref ph)) (nd : ∀ i, i < 6 → tr i ≠ ft ∧ tr i ≠ tb ∧ tr i ≠ pl ∧ tr i ≠ pk ∧ tr i ≠ pn ∧ tr i ≠ ph ∧ tr i ≠ wa ∧ tr i ≠ mf) (nt : ∀ i j, i < 6 → j < 6 → i ≠ j → tr i ≠ tr j) (hn : 0 ≤ nn.toInt ∧ nn.toInt ≤ 6) (hρ : ∀ q, q < nn.toInt.toNat → (gK q).toInt = ρ q 0 ∧ (gN q).toInt = ρ q 1 ∧ (gH q).toInt = ρ q 8) (wf : wfR nn.toInt.toNat ρ) (hL : ∀ q, q < 6 → 0 ≤ (gN q).toInt ∧ (gN q).toInt ≤ 20) (hw : ∀ r, r < 12 → (gw r).toInt = W r) (hm : ∀ q, q < nn.toInt.toNat → (gm q).toInt = t_mf ρ 6 q) {p to : Int32} (hp : 0 ≤ p.toInt ∧ p.toInt < nn.toInt) (hf : 2 ≤ fr) (hl : 80 ≤ lo) : ∀ (j : Nat) (f : Int32) (h : ch_H) (tab : Nat → Nat → Int32), f.toInt + j = 121 → 0 ≤ f.toInt → h ft = some (.inr (0, ts)) → h tb = some (.inl (cA 5, 6, .inr (.inr (.inr (.inr F))))) → (∀ i, i < 6 → h (tr i) = some (.inl (cA 0, 121, .inl (tab i)))) → h pl = some (.inr (4, ps)) → h pk = some (.inl (cA 0, 6, .inl gK)) → h pn = some (.inl (cA 0, 6, .inl gN)) → h ph = some (.inl (cA 0, 6, .inl gH)) → h wa = some (.inl (cA 0, 12, .inl gw)) → h mf = some (.inl (cA 0, 6, .inl gm)) → (∀ q, p.toInt.toNat + 1 ≤ q → q < nn.toInt.toNat → ∀ d : Nat, (d : Int) ≤ t_mf ρ 6 q → (tab q d).toInt = t_C nn.toInt.toNat ρ W 6 q (d : Int)) → (∀ d : Nat, d < f.toInt.toNat → (tab p.toInt.toNat d).toInt = t_C nn.toInt.toNat ρ W 6 p.toInt.toNat (d : Int)) → (∀ (g : ch_H) (f1 : Int32) (tab1 : Nat → Nat → Int32), g ft = some (.inr (0, ts)) → g tb = some (.inl (cA 5, 6, .inr (.inr (.inr (.inr F))))) → (∀ i, i < 6 → g (tr i) = some (.inl (cA 0, 121, .inl (tab1 i)))) → g pl = some (.inr (4, ps)) → g pk = some (.inl (cA 0, 6, .inl gK)) → g pn = some (.inl (cA 0, 6, .inl gN)) → g ph = some (.inl (cA 0, 6, .inl gH)) → g wa = some (.inl (cA 0, 12, .inl gw)) → g mf = some (.inl (cA 0, 6, .inl gm)) → (∀ q, p.toInt.toNat ≤ q → q < nn.toInt.toNat → ∀ d : Nat, (d : Int) ≤ t_mf ρ 6 q → (tab1 q d).toInt = t_C nn.toInt.toNat ρ W 6 q (d : Int)) → (∀ q, (∀ i, i < 6 → q ≠ tr i) → g q = h q) → ww l D tys A X fr lo mX0_leaveOut Q 61 [(5, .int f1), (4, .int p), (3, .int to), (0, .ref ft), (1, .ref pl), (2, .ref wa)] [] g) → ww l D tys A X fr lo mX0_leaveOut Q 23 [(5, .int f), (4, .int p), (3, .int to), (0, .ref ft), (1, .ref pl), (2, .ref wa)] [] h := by
  intro j
  induction j using Nat.strongRecOn with
  | ind j ih =>
    intro f h tab hj hf0 c_ft c_tb c_rw c_pl c_pk c_pn c_ph c_wa c_mf T hi hq
    have h66 := wf.1
    refine w_iload (List.Mem.head _) (tX0_leaveOut_0_ok (23, .iload 5, 2) (List.mem_of_getElem? (i := 14) rfl)) ?_
    refine w_aload_n (List.Mem.tail _ (List.Mem.tail _ (List.Mem.tail _ (List.Mem.head _)))) (tX0_leaveOut_0_ok (25, .aload_n 0, 1) (List.mem_of_getElem? (i := 15) rfl)) ?_
    refine w_get (own := 5) rfl rfl (by decide) c_ft t1 (tX0_leaveOut_0_ok (26, .getfield 16, 3) (List.mem_of_getElem? (i := 16) rfl)) ?_
    refine w_iload (List.Mem.tail _ (List.Mem.head _)) (tX0_leaveOut_0_ok (29, .iload 4, 2) (List.mem_of_getElem? (i := 17) rfl)) ?_
    refine w_iald hT c_mf (by omega) (by omega) (tX0_leaveOut_0_ok (31, .iaload, 1) (List.mem_of_getElem? (i := 18) rfl)) (fun zv1 ze2 => ?_)
    have mv9 := hm p.toInt.toNat (by omega)
    have mb9 := t_mf_b wf 6 p.toInt.toNat (by omega)
    refine w_icmp_gt (tgt := 61) (tX0_leaveOut_0_ok (32, .if_icmp .gt 29, 3) (List.mem_of_getElem? (i := 19) rfl)) rfl (fun zb3 => ?_) (fun zb3 => ?_)
    · refine hq h f tab c_ft c_tb c_rw c_pl c_pk c_pn c_ph c_wa c_mf (fun q h1 h2 d h3 => ?_) (fun _ _ => rfl)
      by_cases c9 : q = p.toInt.toNat
      · subst c9
        exact hi d (by omega)
      · exact T q (by omega) h2 d h3
    · refine w_aload_n (List.Mem.tail _ (List.Mem.tail _ (List.Mem.tail _ (List.Mem.head _)))) (tX0_leaveOut_0_ok (35, .aload_n 0, 1) (List.mem_of_getElem? (i := 20) rfl)) ?_
      refine w_get (own := 5) rfl rfl (by decide) c_ft t0 (tX0_leaveOut_0_ok (36, .getfield 13, 3) (List.mem_of_getElem? (i := 21) rfl)) ?_
      refine w_iload (List.Mem.tail _ (List.Mem.head _)) (tX0_leaveOut_0_ok (39, .iload 4, 2) (List.mem_of_getElem? (i := 22) rfl)) ?_
      refine w_aald (b := tr p.toInt.toNat) hT c_tb (by omega) (by omega) (by rw [hF p.toInt.toNat (by omega)]; rfl) (tX0_leaveOut_0_ok (41, .aaload, 1) (List.mem_of_getElem? (i := 23) rfl)) ?_
      refine w_iload (List.Mem.head _) (tX0_leaveOut_0_ok (42, .iload 5, 2) (List.mem_of_getElem? (i := 24) rfl)) ?_
      refine w_aload_n (List.Mem.tail _ (List.Mem.tail _ (List.Mem.tail _ (List.Mem.head _)))) (tX0_leaveOut_0_ok (44, .aload_n 0, 1) (List.mem_of_getElem? (i := 25) rfl)) ?_
      refine w_aload_n (List.Mem.tail _ (List.Mem.tail _ (List.Mem.tail _ (List.Mem.tail _ (List.Mem.head _))))) (tX0_leaveOut_0_ok (45, .aload_n 1, 1) (List.mem_of_getElem? (i := 26) rfl)) ?_
      refine w_aload_n (List.Mem.tail _ (List.Mem.tail _ (List.Mem.tail _ (List.Mem.tail _ (List.Mem.tail _ (List.Mem.head _)))))) (tX0_leaveOut_0_ok (46, .aload_n 2, 1) (List.mem_of_getElem? (i := 27) rfl)) ?_
      refine w_iload (List.Mem.tail _ (List.Mem.head _)) (tX0_leaveOut_0_ok (47, .iload 4, 2) (List.mem_of_getElem? (i := 28) rfl)) ?_
      refine w_iload (List.Mem.head _) (tX0_leaveOut_0_ok (49, .iload 5, 2) (List.mem_of_getElem? (i := 29) rfl)) ?_
      refine w_callV (own := 5) (mi := 19) [.ref pl, .ref wa, .int p, .int f] [.int f, .ref (tr p.toInt.toNat)] [(0, .ref ft), (1, .ref pl), (2, .ref wa), (3, .int p), (4, .int f)] rfl (cllw_X0 (30, 0, 19) (List.mem_of_getElem? (i := 2) rfl)) rfl rfl c_ft rfl (by omega) (w_lo (n := 30) rfl (by omega)) (Nat.le_of_ble_eq_true rfl) (Nat.le_of_ble_eq_true rfl) rfl (tX0_leaveOut_0_ok (51, .invokevirtual 30, 3) (List.mem_of_getElem? (i := 30) rfl)) (c_leastCost hT c_ft t0 c_tb hF c_rw c_pl p0 p1 p2 p8 c_pk c_pn c_ph hn hρ wf hL c_wa hw (by omega) (by omega) (by omega) (by omega) (w_sub (n := 30) rfl (by omega)) (fun q h1 h2 d h3 => T q (by omega) h2 d h3) (fun zv4 ze5 => ?_))
      show ww l D tys A X fr lo mX0_leaveOut Q 54 [(5, .int f), (4, .int p), (3, .int to), (0, .ref ft), (1, .ref pl), (2, .ref wa)] [.int zv4, .int f, .ref (tr p.toInt.toNat)] h
      refine w_iast hT (c_rw p.toInt.toNat (by omega)) (by omega) (by omega) (tX0_leaveOut_0_ok (54, .iastore, 1) (List.mem_of_getElem? (i := 31) rfl)) (fun zh6 zc7 zo8 => ?_)
      refine w_iinc (fun zv9 => [(5, .int zv9), (4, .int p), (3, .int to), (0, .ref ft), (1, .ref pl), (2, .ref wa)]) (fun _ => rfl) (List.Mem.head _) (Nat.le_of_ble_eq_true rfl) (by decide) (by omega) (by omega) (tX0_leaveOut_0_ok (55, .iinc 5 1, 3) (List.mem_of_getElem? (i := 32) rfl)) (fun zv9 ze10 => ?_)
      refine w_goto (tgt := 23) (tX0_leaveOut_0_ok (58, .goto (-35), 3) (List.mem_of_getElem? (i := 33) rfl)) rfl ?_
      refine w_lv [(5, .int zv9), (4, .int p), (3, .int to), (0, .ref ft), (1, .ref pl), (2, .ref wa)] (by intro q hq; simp only [List.mem_cons, List.not_mem_nil, or_false] at hq ⊢; rcases hq with e | e | e | e | e | e <;> subst e <;> simp) ?_
      refine ih (j - 1) (by omega) _ _ (tU tab p.toInt.toNat (upd (tab p.toInt.toNat) f.toInt.toNat zv4)) (by omega) (by omega) ((zo8 ft (nd p.toInt.toNat (by omega)).1.symm).trans c_ft) ((zo8 tb (nd p.toInt.toNat (by omega)).2.1.symm).trans c_tb) (fun i hi9 => ?_) ((zo8 pl (nd p.toInt.toNat (by omega)).2.2.1.symm).trans c_pl) ((zo8 pk (nd p.toInt.toNat (by omega)).2.2.2.1.symm).trans c_pk) ((zo8 pn (nd p.toInt.toNat (by omega)).2.2.2.2.1.symm).trans c_pn) ((zo8 ph (nd p.toInt.toNat (by omega)).2.2.2.2.2.1.symm).trans c_ph) ((zo8 wa (nd p.toInt.toNat (by omega)).2.2.2.2.2.2.1.symm).trans c_wa) ((zo8 mf (nd p.toInt.toNat (by omega)).2.2.2.2.2.2.2.symm).trans c_mf) (fun q h1 h2 d h3 => ?_) (fun d h3 => ?_) (fun g k9 tab1 z1 z2 z3 z4 z5 z6 z7 z8 z9 z10 z11 => hq g k9 tab1 z1 z2 z3 z4 z5 z6 z7 z8 z9 z10 (fun q hq9 => (z11 q hq9).trans (zo8 q (hq9 p.toInt.toNat (by omega)))))
      · by_cases c9 : i = p.toInt.toNat
        · subst c9
          rw [tU_s]
          exact zc7
        · rw [tU_n _ _ c9]
          exact (zo8 _ (nt i _ hi9 (by omega) c9)).trans (c_rw i hi9)
      · rw [tU_n _ _ (show q ≠ p.toInt.toNat by omega)]
        exact T q h1 h2 d h3
      · rw [tU_s]
        by_cases c9 : d = f.toInt.toNat
        · subst c9
          rw [upd_s, ze5, show ((f.toInt.toNat : Nat) : Int) = f.toInt by omega]
        · rw [upd_n _ _ c9]
          exact hi d (by omega)
theorem c_loP (hT : k_tys tys cA) {ft tb wa mf : Nat} {ts : List Value} {F : Nat → Option Nat} {tr : Nat → Nat} {gw gm : Nat → Int32} (t0 : ts[0]? = some (.ref tb)) (t1 : ts[1]? = some (.ref mf)) (hF : ∀ i, i < 6 → F i = some (tr i)) {pl pk pn ph : Nat} {ps : List Value} {gK gN gH : Nat → Int32} {nn : Int32} (p0 : ps[0]? = some (.int nn)) (p1 : ps[1]? = some (.ref pk)) (p2 : ps[2]? = some (.ref pn)) (p8 : ps[8]? = some (.ref ph)) (nd : ∀ i, i < 6 → tr i ≠ ft ∧ tr i ≠ tb ∧ tr i ≠ pl ∧ tr i ≠ pk ∧ tr i ≠ pn ∧ tr i ≠ ph ∧ tr i ≠ wa ∧ tr i ≠ mf) (nt : ∀ i j, i < 6 → j < 6 → i ≠ j → tr i ≠ tr j) (hn : 0 ≤ nn.toInt ∧ nn.toInt ≤ 6) (hρ : ∀ q, q < nn.toInt.toNat → (gK q).toInt = ρ q 0 ∧ (gN q).toInt = ρ q 1 ∧ (gH q).toInt = ρ q 8) (wf : wfR nn.toInt.toNat ρ) (hL : ∀ q, q < 6 → 0 ≤ (gN q).toInt ∧ (gN q).toInt ≤ 20) (hw : ∀ r, r < 12 → (gw r).toInt = W r) (hm : ∀ q, q < nn.toInt.toNat → (gm q).toInt = t_mf ρ 6 q) (hf : 2 ≤ fr) (hl : 80 ≤ lo) : ∀ (j : Nat) (p to : Int32) (h : ch_H) (tab : Nat → Nat → Int32), p.toInt + 1 = j → p.toInt < nn.toInt → (0 ≤ to.toInt ∧ to.toInt + t_hs ρ (-1) (fun q => t_C nn.toInt.toNat ρ W 6 q 0) (p.toInt + 1).toNat = t_all nn.toInt.toNat ρ W) → h ft = some (.inr (0, ts)) → h tb = some (.inl (cA 5, 6, .inr (.inr (.inr (.inr F))))) → (∀ i, i < 6 → h (tr i) = some (.inl (cA 0, 121, .inl (tab i)))) → h pl = some (.inr (4, ps)) → h pk = some (.inl (cA 0, 6, .inl gK)) → h pn = some (.inl (cA 0, 6, .inl gN)) → h ph = some (.inl (cA 0, 6, .inl gH)) → h wa = some (.inl (cA 0, 12, .inl gw)) → h mf = some (.inl (cA 0, 6, .inl gm)) → (∀ q, (p.toInt + 1).toNat ≤ q → q < nn.toInt.toNat → ∀ d : Nat, (d : Int) ≤ t_mf ρ 6 q → (tab q d).toInt = t_C nn.toInt.toNat ρ W 6 q (d : Int)) → (∀ (g : ch_H) (tab : Nat → Nat → Int32) (p1 to1 : Int32), to1.toInt = t_all nn.toInt.toNat ρ W → g ft = some (.inr (0, ts)) → g tb = some (.inl (cA 5, 6, .inr (.inr (.inr (.inr F))))) → (∀ i, i < 6 → g (tr i) = some (.inl (cA 0, 121, .inl (tab i)))) → g pl = some (.inr (4, ps)) → g pk = some (.inl (cA 0, 6, .inl gK)) → g pn = some (.inl (cA 0, 6, .inl gN)) → g ph = some (.inl (cA 0, 6, .inl gH)) → g wa = some (.inl (cA 0, 12, .inl gw)) → g mf = some (.inl (cA 0, 6, .inl gm)) → (∀ q, (∀ i, i < 6 → q ≠ tr i) → g q = h q) → ww l D tys A X fr lo mX0_leaveOut Q 90 [(4, .int p1), (3, .int to1), (0, .ref ft), (1, .ref pl), (2, .ref wa)] [] g) → ww l D tys A X fr lo mX0_leaveOut Q 15 [(4, .int p), (3, .int to), (0, .ref ft), (1, .ref pl), (2, .ref wa)] [] h := by
  intro j
  induction j using Nat.strongRecOn with
  | ind j ih =>
    intro p to h tab hj hpn hi c_ft c_tb c_rw c_pl c_pk c_pn c_ph c_wa c_mf T9 hq
    have h66 := wf.1
    have T0 : 0 ≤ p.toInt → (∀ q, p.toInt.toNat + 1 ≤ q → q < nn.toInt.toNat → ∀ d : Nat, (d : Int) ≤ t_mf ρ 6 q → (tab q d).toInt = t_C nn.toInt.toNat ρ W 6 q (d : Int)) := fun z => by rw [show p.toInt.toNat + 1 = (p.toInt + 1).toNat by omega]; exact T9
    obtain ⟨ae, al, ab⟩ := t_all_ex (W := W) wf
    have an := b_cst_nn al
    have sn := t_hs_nn (ρ := ρ) (r := -1) (g := (fun q => t_C nn.toInt.toNat ρ W 6 q 0)) (p.toInt + 1).toNat (fun q hq _ => (t_C_b wf _ (by omega) 6).1)
    refine w_iload (List.Mem.head _) (tX0_leaveOut_0_ok (15, .iload 4, 2) (List.mem_of_getElem? (i := 10) rfl)) ?_
    refine w_if_lt (tgt := 90) (tX0_leaveOut_0_ok (17, .ifCond .lt 73, 3) (List.mem_of_getElem? (i := 11) rfl)) rfl (fun zb1 => ?_) (fun zb1 => ?_)
    · have hi := hi.2
      rw [show (p.toInt + 1).toNat = 0 by omega] at hi
      have hi : to.toInt + 0 = t_all nn.toInt.toNat ρ W := hi
      exact hq h tab p to (by omega) c_ft c_tb c_rw c_pl c_pk c_pn c_ph c_wa c_mf (fun _ _ => rfl)
    · have T := T0 (by omega)
      refine w_iconst (by decide) (tX0_leaveOut_0_ok (20, .iconst 0, 1) (List.mem_of_getElem? (i := 12) rfl)) (fun zv2 ze3 => ?_)
      refine w_istore [(5, .int zv2), (4, .int p), (3, .int to), (0, .ref ft), (1, .ref pl), (2, .ref wa)] rfl (Nat.le_of_ble_eq_true rfl) (tX0_leaveOut_0_ok (21, .istore 5, 2) (List.mem_of_getElem? (i := 13) rfl)) ?_
      refine w_lv [(5, .int zv2), (4, .int p), (3, .int to), (0, .ref ft), (1, .ref pl), (2, .ref wa)] (by intro q hq; simp only [List.mem_cons, List.not_mem_nil, or_false] at hq ⊢; rcases hq with e | e | e | e | e | e <;> subst e <;> simp) ?_
      refine c_loT hT t0 t1 hF p0 p1 p2 p8 nd nt hn hρ wf hL hw hm (by omega) hf hl 121 _ _ tab (by omega) (by omega) c_ft c_tb c_rw c_pl c_pk c_pn c_ph c_wa c_mf T (fun d h3 => absurd h3 (by omega)) (fun zg4 zf5 ztb6 zq7 zq8 zq9 zq10 zq11 zq12 zq13 zq14 zq15 zq16 zq17 => ?_)
      show ww l D tys A X fr lo mX0_leaveOut Q 61 [(5, .int zf5), (4, .int p), (3, .int to), (0, .ref ft), (1, .ref pl), (2, .ref wa)] [] zg4
      refine w_aload_n (List.Mem.tail _ (List.Mem.tail _ (List.Mem.tail _ (List.Mem.tail _ (List.Mem.head _))))) (tX0_leaveOut_0_ok (61, .aload_n 1, 1) (List.mem_of_getElem? (i := 34) rfl)) ?_
      refine w_get (own := 5) rfl rfl (by decide) zq10 p8 (tX0_leaveOut_0_ok (62, .getfield 34, 3) (List.mem_of_getElem? (i := 35) rfl)) ?_
      refine w_iload (List.Mem.tail _ (List.Mem.head _)) (tX0_leaveOut_0_ok (65, .iload 4, 2) (List.mem_of_getElem? (i := 36) rfl)) ?_
      refine w_iald hT zq13 (by omega) (by omega) (tX0_leaveOut_0_ok (67, .iaload, 1) (List.mem_of_getElem? (i := 37) rfl)) (fun zv18 ze19 => ?_)
      have hz9 := (hρ p.toInt.toNat (by omega)).2.2
      refine w_iconst (by decide) (tX0_leaveOut_0_ok (68, .iconst (-1), 1) (List.mem_of_getElem? (i := 38) rfl)) (fun zv20 ze21 => ?_)
      refine w_icmp_ne (tgt := 84) (tX0_leaveOut_0_ok (69, .if_icmp .ne 15, 3) (List.mem_of_getElem? (i := 39) rfl)) rfl (fun zb22 => ?_) (fun zb22 => ?_)
      · refine w_iinc (fun zv23 => [(4, .int zv23), (5, .int zf5), (3, .int to), (0, .ref ft), (1, .ref pl), (2, .ref wa)]) (fun _ => rfl) (List.Mem.tail _ (List.Mem.head _)) (Nat.le_of_ble_eq_true rfl) (by decide) (by omega) (by omega) (tX0_leaveOut_0_ok (84, .iinc 4 (-1), 3) (List.mem_of_getElem? (i := 49) rfl)) (fun zv23 ze24 => ?_)
        refine w_goto (tgt := 15) (tX0_leaveOut_0_ok (87, .goto (-72), 3) (List.mem_of_getElem? (i := 50) rfl)) rfl ?_
        refine w_lv [(4, .int zv23), (3, .int to), (0, .ref ft), (1, .ref pl), (2, .ref wa)] (by intro q hq; simp only [List.mem_cons, List.not_mem_nil, or_false] at hq ⊢; rcases hq with e | e | e | e | e <;> subst e <;> simp) ?_
        have e9 : (zv23.toInt + 1).toNat = p.toInt.toNat := by omega
        have e8 : (p.toInt + 1).toNat = p.toInt.toNat + 1 := by omega
        refine ih (j - 1) (by omega) _ _ _ ztb6 (by omega) (by omega) ⟨by omega, ?_⟩ zq7 zq8 zq9 zq10 zq11 zq12 zq13 zq14 zq15 ?_ (fun g1 tab1 p3 to1 y0 y1 y2 y3 y4 y5 y6 y7 y8 y9 y10 => hq g1 tab1 p3 to1 y0 y1 y2 y3 y4 y5 y6 y7 y8 y9 (fun q hq9 => (y10 q hq9).trans (zq17 q hq9)))
        · have hi := hi.2
          rw [e8] at hi
          rw [e9]
          have hu : t_hs ρ (-1) (fun q => t_C nn.toInt.toNat ρ W 6 q 0) (p.toInt.toNat + 1) = t_hs ρ (-1) (fun q => t_C nn.toInt.toNat ρ W 6 q 0) p.toInt.toNat + (if ρ p.toInt.toNat 8 = -1 then t_C nn.toInt.toNat ρ W 6 p.toInt.toNat 0 else 0) := rfl
          rw [hu, if_neg (by omega)] at hi
          omega
        · rw [e9]
          exact zq16
      · refine w_iload_n (List.Mem.tail _ (List.Mem.tail _ (List.Mem.head _))) (tX0_leaveOut_0_ok (72, .iload_n 3, 1) (List.mem_of_getElem? (i := 40) rfl)) ?_
        refine w_aload_n (List.Mem.tail _ (List.Mem.tail _ (List.Mem.tail _ (List.Mem.head _)))) (tX0_leaveOut_0_ok (73, .aload_n 0, 1) (List.mem_of_getElem? (i := 41) rfl)) ?_
        refine w_get (own := 5) rfl rfl (by decide) zq7 t0 (tX0_leaveOut_0_ok (74, .getfield 13, 3) (List.mem_of_getElem? (i := 42) rfl)) ?_
        refine w_iload (List.Mem.tail _ (List.Mem.head _)) (tX0_leaveOut_0_ok (77, .iload 4, 2) (List.mem_of_getElem? (i := 43) rfl)) ?_
        refine w_aald (b := tr p.toInt.toNat) hT zq8 (by omega) (by omega) (by rw [hF p.toInt.toNat (by omega)]; rfl) (tX0_leaveOut_0_ok (79, .aaload, 1) (List.mem_of_getElem? (i := 44) rfl)) ?_
        refine w_iconst (by decide) (tX0_leaveOut_0_ok (80, .iconst 0, 1) (List.mem_of_getElem? (i := 45) rfl)) (fun zv25 ze26 => ?_)
        refine w_iald hT (zq9 p.toInt.toNat (by omega)) (by omega) (by omega) (tX0_leaveOut_0_ok (81, .iaload, 1) (List.mem_of_getElem? (i := 46) rfl)) (fun zv27 ze28 => ?_)
        have mb9 := t_mf_b wf 6 p.toInt.toNat (by omega)
        have tv9 := zq16 p.toInt.toNat (Nat.le_refl _) (by omega) 0 (by omega)
        rw [show zv25.toInt.toNat = 0 by omega, tv9] at ze28
        have tb9 := t_C_b (W := W) wf (p := p.toInt.toNat) ((0 : Nat) : Int) (by omega) 6
        refine w_iadd (by omega) (by omega) (tX0_leaveOut_0_ok (82, .iadd, 1) (List.mem_of_getElem? (i := 47) rfl)) (fun zv29 ze30 => ?_)
        refine w_istore_n [(3, .int zv29), (5, .int zf5), (4, .int p), (0, .ref ft), (1, .ref pl), (2, .ref wa)] rfl (Nat.le_of_ble_eq_true rfl) (tX0_leaveOut_0_ok (83, .istore_n 3, 1) (List.mem_of_getElem? (i := 48) rfl)) ?_
        refine w_iinc (fun zv31 => [(4, .int zv31), (3, .int zv29), (5, .int zf5), (0, .ref ft), (1, .ref pl), (2, .ref wa)]) (fun _ => rfl) (List.Mem.tail _ (List.Mem.tail _ (List.Mem.head _))) (Nat.le_of_ble_eq_true rfl) (by decide) (by omega) (by omega) (tX0_leaveOut_0_ok (84, .iinc 4 (-1), 3) (List.mem_of_getElem? (i := 49) rfl)) (fun zv31 ze32 => ?_)
        refine w_goto (tgt := 15) (tX0_leaveOut_0_ok (87, .goto (-72), 3) (List.mem_of_getElem? (i := 50) rfl)) rfl ?_
        refine w_lv [(4, .int zv31), (3, .int zv29), (0, .ref ft), (1, .ref pl), (2, .ref wa)] (by intro q hq; simp only [List.mem_cons, List.not_mem_nil, or_false] at hq ⊢; rcases hq with e | e | e | e | e <;> subst e <;> simp) ?_
        have e9 : (zv31.toInt + 1).toNat = p.toInt.toNat := by omega
        have e8 : (p.toInt + 1).toNat = p.toInt.toNat + 1 := by omega
        refine ih (j - 1) (by omega) _ _ _ ztb6 (by omega) (by omega) ⟨by omega, ?_⟩ zq7 zq8 zq9 zq10 zq11 zq12 zq13 zq14 zq15 ?_ (fun g1 tab1 p3 to1 y0 y1 y2 y3 y4 y5 y6 y7 y8 y9 y10 => hq g1 tab1 p3 to1 y0 y1 y2 y3 y4 y5 y6 y7 y8 y9 (fun q hq9 => (y10 q hq9).trans (zq17 q hq9)))
        · have hi := hi.2
          rw [e8] at hi
          rw [e9]
          have hu : t_hs ρ (-1) (fun q => t_C nn.toInt.toNat ρ W 6 q 0) (p.toInt.toNat + 1) = t_hs ρ (-1) (fun q => t_C nn.toInt.toNat ρ W 6 q 0) p.toInt.toNat + (if ρ p.toInt.toNat 8 = -1 then t_C nn.toInt.toNat ρ W 6 p.toInt.toNat 0 else 0) := rfl
          rw [hu, if_pos (by omega)] at hi
          have : t_C nn.toInt.toNat ρ W 6 p.toInt.toNat ((0 : Nat) : Int) = t_C nn.toInt.toNat ρ W 6 p.toInt.toNat 0 := rfl
          omega
        · rw [e9]
          exact zq16
def t_lp (sh : Nat) : Nat → Nat
  | 0 => 0
  | r + 1 => t_lp sh r + (sh / 2 ^ (11 - r) % 2) * 2 ^ r
theorem t_lp_lt (sh : Nat) : ∀ r, t_lp sh r < 2 ^ r
  | 0 => by
    show (0 : Nat) < 2 ^ 0
    decide
  | r + 1 => by
    have h1 := t_lp_lt sh r
    have h2 : sh / 2 ^ (11 - r) % 2 = 0 ∨ sh / 2 ^ (11 - r) % 2 = 1 := by omega
    unfold t_lp
    rw [Nat.pow_succ]
    rcases h2 with e | e
    · rw [e, Nat.zero_mul]
      omega
    · rw [e, Nat.one_mul]
      omega
theorem t_lp_all : ∀ a, a < 64 → ∀ b, b < 64 → t_lp (64 * a + b) 12 = b_rev 12 (64 * a + b) := by decide +kernel
theorem t_lp_12 {sh : Nat} (h : sh < 4096) : t_lp sh 12 = b_rev 12 sh := by
  have := t_lp_all (sh / 64) (by omega) (sh % 64) (by omega)
  rw [show 64 * (sh / 64) + sh % 64 = sh by omega] at this
  exact this
theorem or_add {a r : Nat} {x y v : Int32} (hr : r < 12) (ha : a < 2 ^ r) (hx : x.toInt = (a : Int)) (hy : y.toInt = ((2 ^ r : Nat) : Int)) (e : v = x ||| y) : v.toInt = ((a + 2 ^ r : Nat) : Int) := by
  have hp := p11 hr
  have q : ∀ {z : Int32} {b : Nat}, z.toInt = (b : Int) → z.toBitVec.toNat = b := fun {z b} hz => by
    have h2 := z.toBitVec.isLt
    rw [← Int32.toInt_toBitVec, BitVec.toInt_eq_toNat_cond] at hz
    split at hz <;> omega
  have h1 : v.toBitVec.toNat = a + 2 ^ r := by
    rw [e, Int32.toBitVec_or, BitVec.toNat_or, q hx, q hy, Nat.or_comm]
    have h3 := Nat.two_pow_add_eq_or_of_lt ha 1
    rw [Nat.mul_one] at h3
    rw [← h3]
    omega
  rw [← Int32.toInt_toBitVec, BitVec.toInt_eq_toNat_cond, h1, if_pos (by omega)]
theorem c_loB {ft pl wa : Nat} {sh to : Int32} (hs : 0 ≤ sh.toInt ∧ sh.toInt < 4096) : ∀ (j : Nat) (r b : Int32), r.toInt + j = 12 → 0 ≤ r.toInt → b.toInt = ((t_lp sh.toInt.toNat r.toInt.toNat : Nat) : Int) → (∀ v : Int32, v.toInt = ((b_rev 12 sh.toInt.toNat : Nat) : Int) → Q (some (.int v)) h) → ww l D tys A X fr lo mX0_leaveOut Q 115 [(6, .int r), (5, .int b), (4, .int sh), (3, .int to), (0, .ref ft), (1, .ref pl), (2, .ref wa)] [] h := by
  intro j
  induction j using Nat.strongRecOn with
  | ind j ih =>
    intro r b hj hr0 hi hq
    refine w_iload (List.Mem.head _) (tX0_leaveOut_1_ok (115, .iload 6, 2) (List.mem_of_getElem? (i := 7) rfl)) ?_
    refine w_bipush (by decide) (tX0_leaveOut_1_ok (117, .bipush 12, 2) (List.mem_of_getElem? (i := 8) rfl)) (fun zv1 ze2 => ?_)
    refine w_icmp_ge (tgt := 150) (tX0_leaveOut_1_ok (119, .if_icmp .ge 31, 3) (List.mem_of_getElem? (i := 9) rfl)) rfl (fun zb3 => ?_) (fun zb3 => ?_)
    · refine w_iload (List.Mem.tail _ (List.Mem.head _)) (tX0_leaveOut_1_ok (150, .iload 5, 2) (List.mem_of_getElem? (i := 26) rfl)) ?_
      refine w_iret rfl (tX0_leaveOut_1_ok (152, .ireturn, 1) (List.mem_of_getElem? (i := 27) rfl)) ?_
      refine hq _ ?_
      rw [hi, show r.toInt.toNat = 12 by omega, t_lp_12 (by omega)]
    · refine w_iload (List.Mem.tail _ (List.Mem.tail _ (List.Mem.head _))) (tX0_leaveOut_1_ok (122, .iload 4, 2) (List.mem_of_getElem? (i := 10) rfl)) ?_
      refine w_bipush (by decide) (tX0_leaveOut_1_ok (124, .bipush 11, 2) (List.mem_of_getElem? (i := 11) rfl)) (fun zv4 ze5 => ?_)
      refine w_iload (List.Mem.head _) (tX0_leaveOut_1_ok (126, .iload 6, 2) (List.mem_of_getElem? (i := 12) rfl)) ?_
      refine w_isub (by omega) (by omega) (tX0_leaveOut_1_ok (128, .isub, 1) (List.mem_of_getElem? (i := 13) rfl)) (fun zv6 ze7 => ?_)
      refine w_ishr (tX0_leaveOut_1_ok (129, .ishr, 1) (List.mem_of_getElem? (i := 14) rfl)) (fun zv8 ze9 => ?_)
      refine w_iconst (by decide) (tX0_leaveOut_1_ok (130, .iconst 1, 1) (List.mem_of_getElem? (i := 15) rfl)) (fun zv10 ze11 => ?_)
      refine w_iand (tX0_leaveOut_1_ok (131, .iand, 1) (List.mem_of_getElem? (i := 16) rfl)) (fun zv12 ze13 => ?_)
      have bd9 := bt24_has (kk := 11 - r.toInt.toNat) (by omega) (by omega) (by omega) ze9 ze13
      obtain ⟨bd1, bd2, bd3⟩ := bd9
      rw [bt_div24 sh (11 - r.toInt.toNat) (by omega)] at bd1
      have bq9 : ((sh.toInt.toNat / 2 ^ (11 - r.toInt.toNat) % 2 : Nat) : Int) = sh.toInt / ((2 ^ (11 - r.toInt.toNat) : Nat) : Int) % 2 := by
        push_cast
        rw [show ((sh.toInt.toNat : Nat) : Int) = sh.toInt by omega]
      refine w_if_eq (tgt := 144) (tX0_leaveOut_1_ok (132, .ifCond .eq 12, 3) (List.mem_of_getElem? (i := 17) rfl)) rfl (fun zb14 => ?_) (fun zb14 => ?_)
      · refine w_iinc (fun zv15 => [(6, .int zv15), (5, .int b), (4, .int sh), (3, .int to), (0, .ref ft), (1, .ref pl), (2, .ref wa)]) (fun _ => rfl) (List.Mem.head _) (Nat.le_of_ble_eq_true rfl) (by decide) (by omega) (by omega) (tX0_leaveOut_1_ok (144, .iinc 6 1, 3) (List.mem_of_getElem? (i := 24) rfl)) (fun zv15 ze16 => ?_)
        refine w_goto (tgt := 115) (tX0_leaveOut_1_ok (147, .goto (-32), 3) (List.mem_of_getElem? (i := 25) rfl)) rfl ?_
        refine w_lv [(6, .int zv15), (5, .int b), (4, .int sh), (3, .int to), (0, .ref ft), (1, .ref pl), (2, .ref wa)] (by intro q hq; simp only [List.mem_cons, List.not_mem_nil, or_false] at hq ⊢; rcases hq with e | e | e | e | e | e | e <;> subst e <;> simp) ?_
        refine ih (j - 1) (by omega) _ _ (by omega) (by omega) ?_ hq
        rw [show zv15.toInt.toNat = r.toInt.toNat + 1 by omega]
        unfold t_lp
        rw [show sh.toInt.toNat / 2 ^ (11 - r.toInt.toNat) % 2 = 0 by omega, Nat.zero_mul, Nat.add_zero]
        exact hi
      · refine w_iload (List.Mem.tail _ (List.Mem.head _)) (tX0_leaveOut_1_ok (135, .iload 5, 2) (List.mem_of_getElem? (i := 18) rfl)) ?_
        refine w_iconst (by decide) (tX0_leaveOut_1_ok (137, .iconst 1, 1) (List.mem_of_getElem? (i := 19) rfl)) (fun zv17 ze18 => ?_)
        refine w_iload (List.Mem.head _) (tX0_leaveOut_1_ok (138, .iload 6, 2) (List.mem_of_getElem? (i := 20) rfl)) ?_
        refine w_ishl (tX0_leaveOut_1_ok (140, .ishl, 1) (List.mem_of_getElem? (i := 21) rfl)) (fun zv19 ze20 => ?_)
        have sh9 := sh2 (k := r.toInt.toNat) (by omega) (by omega) (by omega) ze20
        refine w_ior (tX0_leaveOut_1_ok (141, .ior, 1) (List.mem_of_getElem? (i := 22) rfl)) (fun zv21 ze22 => ?_)
        have or9 := or_add (r := r.toInt.toNat) (a := t_lp sh.toInt.toNat r.toInt.toNat) (by omega) (t_lp_lt _ _) hi sh9 ze22
        refine w_istore [(5, .int zv21), (6, .int r), (4, .int sh), (3, .int to), (0, .ref ft), (1, .ref pl), (2, .ref wa)] rfl (Nat.le_of_ble_eq_true rfl) (tX0_leaveOut_1_ok (142, .istore 5, 2) (List.mem_of_getElem? (i := 23) rfl)) ?_
        refine w_iinc (fun zv23 => [(6, .int zv23), (5, .int zv21), (4, .int sh), (3, .int to), (0, .ref ft), (1, .ref pl), (2, .ref wa)]) (fun _ => rfl) (List.Mem.tail _ (List.Mem.head _)) (Nat.le_of_ble_eq_true rfl) (by decide) (by omega) (by omega) (tX0_leaveOut_1_ok (144, .iinc 6 1, 3) (List.mem_of_getElem? (i := 24) rfl)) (fun zv23 ze24 => ?_)
        refine w_goto (tgt := 115) (tX0_leaveOut_1_ok (147, .goto (-32), 3) (List.mem_of_getElem? (i := 25) rfl)) rfl ?_
        refine w_lv [(6, .int zv23), (5, .int zv21), (4, .int sh), (3, .int to), (0, .ref ft), (1, .ref pl), (2, .ref wa)] (by intro q hq; simp only [List.mem_cons, List.not_mem_nil, or_false] at hq ⊢; rcases hq with e | e | e | e | e | e | e <;> subst e <;> simp) ?_
        refine ih (j - 1) (by omega) _ _ (by omega) (by omega) ?_ hq
        rw [show zv23.toInt.toNat = r.toInt.toNat + 1 by omega]
        unfold t_lp
        rw [show sh.toInt.toNat / 2 ^ (11 - r.toInt.toNat) % 2 = 1 by omega, Nat.one_mul]
        exact or9
theorem w_imulR {M : ch_M} {pc : Nat} {lv : List (Nat × Value)} {st : List Value} {x y : Int32} {n : Int} (hy : y.toInt = n) (h1 : -2147483648 ≤ x.toInt * n) (h2 : x.toInt * n < 2147483648) (hd : decode M.2.1 pc = .ok (.imul, 1)) (k : ∀ v : Int32, v.toInt = x.toInt * n → ww l D tys A X fr lo M Q (pc + 1) lv (.int v :: st) h) : ww l D tys A X fr lo M Q pc lv (.int y :: .int x :: st) h := tt_imul hd (k _ (by subst hy; exact fb_mulI h1 h2))
theorem c_ffB (hT : k_tys tys cA) {ft mf : Nat} {ts : List Value} (t1 : ts[1]? = some (.ref mf)) {pl pk pn ph : Nat} {ps : List Value} {gK gN gH : Nat → Int32} {nn : Int32} (p0 : ps[0]? = some (.int nn)) (p1 : ps[1]? = some (.ref pk)) (p2 : ps[2]? = some (.ref pn)) (p8 : ps[8]? = some (.ref ph)) (n_ft_mf : ft ≠ mf) (n_pl_mf : pl ≠ mf) (n_pk_mf : pk ≠ mf) (n_pn_mf : pn ≠ mf) (n_ph_mf : ph ≠ mf) (hn : 0 ≤ nn.toInt ∧ nn.toInt ≤ 6) (hρ : ∀ q, q < nn.toInt.toNat → (gK q).toInt = ρ q 0 ∧ (gN q).toInt = ρ q 1 ∧ (gH q).toInt = ρ q 8) (wf : wfR nn.toInt.toNat ρ) {gm : Nat → Int32} (hf : 1 ≤ fr) (hl : 30 ≤ lo) (c_ft : h ft = some (.inr (0, ts))) (c_mf : h mf = some (.inl (cA 0, 6, .inl gm))) (c_pl : h pl = some (.inr (4, ps))) (c_pk : h pk = some (.inl (cA 0, 6, .inl gK))) (c_pn : h pn = some (.inl (cA 0, 6, .inl gN))) (c_ph : h ph = some (.inl (cA 0, 6, .inl gH))) (hq : ∀ (g : ch_H) (gm : Nat → Int32) (p1 : Int32), (∀ q, q < nn.toInt.toNat → (gm q).toInt = t_mf ρ 6 q) → g ft = some (.inr (0, ts)) → g mf = some (.inl (cA 0, 6, .inl gm)) → g pl = some (.inr (4, ps)) → g pk = some (.inl (cA 0, 6, .inl gK)) → g pn = some (.inl (cA 0, 6, .inl gN)) → g ph = some (.inl (cA 0, 6, .inl gH)) → (∀ q, q ≠ mf → g q = h q) → Q none g) : ww l D tys A X fr lo mX0_findFeet Q 0 [(0, .ref ft), (1, .ref pl)] [] h := by
  refine w_iconst (by decide) (tX0_findFeet_0_ok (0, .iconst 0, 1) (List.mem_of_getElem? (i := 0) rfl)) (fun zv1 ze2 => ?_)
  refine w_istore_n [(2, .int zv1), (0, .ref ft), (1, .ref pl)] rfl (Nat.le_of_ble_eq_true rfl) (tX0_findFeet_0_ok (1, .istore_n 2, 1) (List.mem_of_getElem? (i := 1) rfl)) ?_
  exact c_ffL hT t1 p0 p1 p2 p8 n_ft_mf n_pl_mf n_pk_mf n_pn_mf n_ph_mf hn hρ wf hf hl (nn.toInt - zv1.toInt).toNat _ _ _ (by omega) (by omega) (fun q hq9 => absurd hq9 (by omega)) c_ft c_mf c_pl c_pk c_pn c_ph hq
theorem c_leaveOut (hT : k_tys tys cA) {ft tb wa mf : Nat} {ts : List Value} {F : Nat → Option Nat} {tr : Nat → Nat} {gw gm : Nat → Int32} (t0 : ts[0]? = some (.ref tb)) (t1 : ts[1]? = some (.ref mf)) (hF : ∀ i, i < 6 → F i = some (tr i)) {pl pk pn ph : Nat} {ps : List Value} {gK gN gH : Nat → Int32} {nn : Int32} (p0 : ps[0]? = some (.int nn)) (p1 : ps[1]? = some (.ref pk)) (p2 : ps[2]? = some (.ref pn)) (p8 : ps[8]? = some (.ref ph)) (nd : ∀ i, i < 6 → tr i ≠ ft ∧ tr i ≠ tb ∧ tr i ≠ pl ∧ tr i ≠ pk ∧ tr i ≠ pn ∧ tr i ≠ ph ∧ tr i ≠ wa ∧ tr i ≠ mf) (nt : ∀ i j, i < 6 → j < 6 → i ≠ j → tr i ≠ tr j) (hn : 0 ≤ nn.toInt ∧ nn.toInt ≤ 6) (hρ : ∀ q, q < nn.toInt.toNat → (gK q).toInt = ρ q 0 ∧ (gN q).toInt = ρ q 1 ∧ (gH q).toInt = ρ q 8) (wf : wfR nn.toInt.toNat ρ) (hL : ∀ q, q < 6 → 0 ≤ (gN q).toInt ∧ (gN q).toInt ≤ 20) (hw : ∀ r, r < 12 → (gw r).toInt = W r) (n_ft_mf : ft ≠ mf) (n_pl_mf : pl ≠ mf) (n_pk_mf : pk ≠ mf) (n_pn_mf : pn ≠ mf) (n_ph_mf : ph ≠ mf) (n_tb_mf : tb ≠ mf) (n_wa_mf : wa ≠ mf) (hf : 2 ≤ fr) (hl : 80 ≤ lo) (c_ft : h ft = some (.inr (0, ts))) (c_tb : h tb = some (.inl (cA 5, 6, .inr (.inr (.inr (.inr F)))))) (c_rw : ∀ i, i < 6 → h (tr i) = some (.inl (cA 0, 121, .inl (tab i)))) (c_pl : h pl = some (.inr (4, ps))) (c_pk : h pk = some (.inl (cA 0, 6, .inl gK))) (c_pn : h pn = some (.inl (cA 0, 6, .inl gN))) (c_ph : h ph = some (.inl (cA 0, 6, .inl gH))) (c_wa : h wa = some (.inl (cA 0, 12, .inl gw))) (c_mf : h mf = some (.inl (cA 0, 6, .inl gm))) (hq : ∀ (g : ch_H) (v : Int32) (a : Nat), a < 4096 → b_cst a = t_all nn.toInt.toNat ρ W → v.toInt = (a : Int) → (∀ q, q ≠ mf ∧ (∀ i, i < 6 → q ≠ tr i) → g q = h q) → Q (some (.int v)) g) : ww l D tys A X fr lo mX0_leaveOut Q 0 [(0, .ref ft), (1, .ref pl), (2, .ref wa)] [] h := by
  have h66 := wf.1
  refine w_aload_n (List.Mem.head _) (tX0_leaveOut_0_ok (0, .aload_n 0, 1) (List.mem_of_getElem? (i := 0) rfl)) ?_
  refine w_aload_n (List.Mem.tail _ (List.Mem.head _)) (tX0_leaveOut_0_ok (1, .aload_n 1, 1) (List.mem_of_getElem? (i := 1) rfl)) ?_
  refine w_callV (own := 5) (mi := 16) [.ref pl] [] [(0, .ref ft), (1, .ref pl)] rfl (cllw_X0 (20, 0, 16) (List.mem_of_getElem? (i := 0) rfl)) rfl rfl c_ft rfl (by omega) (w_lo (n := 23) rfl (by omega)) (Nat.le_of_ble_eq_true rfl) (Nat.le_of_ble_eq_true rfl) rfl (tX0_leaveOut_0_ok (2, .invokevirtual 20, 3) (List.mem_of_getElem? (i := 2) rfl)) (c_ffB hT t1 p0 p1 p2 p8 n_ft_mf n_pl_mf n_pk_mf n_pn_mf n_ph_mf hn hρ wf (by omega) (w_sub (n := 23) rfl (by omega)) c_ft c_mf c_pl c_pk c_pn c_ph (fun zg1 zgm2 zp3 zq4 zq5 zq6 zq7 zq8 zq9 zq10 zq11 => ?_))
  have y_tb := (zq11 tb n_tb_mf).trans c_tb
  have y_wa := (zq11 wa n_wa_mf).trans c_wa
  have y_rw : ∀ i, i < 6 → zg1 (tr i) = some (.inl (cA 0, 121, .inl (tab i))) := fun i hi => (zq11 _ (nd i hi).2.2.2.2.2.2.2).trans (c_rw i hi)
  show ww l D tys A X fr lo mX0_leaveOut Q 5 [(0, .ref ft), (1, .ref pl), (2, .ref wa)] [] zg1
  refine w_iconst (by decide) (tX0_leaveOut_0_ok (5, .iconst 0, 1) (List.mem_of_getElem? (i := 3) rfl)) (fun zv12 ze13 => ?_)
  refine w_istore_n [(3, .int zv12), (0, .ref ft), (1, .ref pl), (2, .ref wa)] rfl (Nat.le_of_ble_eq_true rfl) (tX0_leaveOut_0_ok (6, .istore_n 3, 1) (List.mem_of_getElem? (i := 4) rfl)) ?_
  refine w_aload_n (List.Mem.tail _ (List.Mem.tail _ (List.Mem.head _))) (tX0_leaveOut_0_ok (7, .aload_n 1, 1) (List.mem_of_getElem? (i := 5) rfl)) ?_
  refine w_get (own := 5) rfl rfl (by decide) zq7 p0 (tX0_leaveOut_0_ok (8, .getfield 24, 3) (List.mem_of_getElem? (i := 6) rfl)) ?_
  refine w_iconst (by decide) (tX0_leaveOut_0_ok (11, .iconst 1, 1) (List.mem_of_getElem? (i := 7) rfl)) (fun zv14 ze15 => ?_)
  refine w_isub (by omega) (by omega) (tX0_leaveOut_0_ok (12, .isub, 1) (List.mem_of_getElem? (i := 8) rfl)) (fun zv16 ze17 => ?_)
  refine w_istore [(4, .int zv16), (3, .int zv12), (0, .ref ft), (1, .ref pl), (2, .ref wa)] rfl (Nat.le_of_ble_eq_true rfl) (tX0_leaveOut_0_ok (13, .istore 4, 2) (List.mem_of_getElem? (i := 9) rfl)) ?_
  refine w_lv [(4, .int zv16), (3, .int zv12), (0, .ref ft), (1, .ref pl), (2, .ref wa)] (by intro q hq; simp only [List.mem_cons, List.not_mem_nil, or_false] at hq ⊢; rcases hq with e | e | e | e | e <;> subst e <;> simp) ?_
  refine c_loP hT t0 t1 hF p0 p1 p2 p8 nd nt hn hρ wf hL hw zq4 hf hl nn.toInt.toNat _ _ _ tab (by omega) (by omega) ⟨by omega, by rw [show (zv16.toInt + 1).toNat = nn.toInt.toNat by omega, show zv12.toInt = 0 by omega, Int.zero_add]; rfl⟩ zq5 y_tb y_rw zq7 zq8 zq9 zq10 y_wa zq6 (fun q h1 h2 => absurd h2 (by omega)) (fun zg18 ztb19 zp20 zto21 zy22 zy23 zy24 zy25 zy26 zy27 zy28 zy29 zy30 zy31 zy32 => ?_)
  show ww l D tys A X fr lo mX0_leaveOut Q 90 [(4, .int zp20), (3, .int zto21), (0, .ref ft), (1, .ref pl), (2, .ref wa)] [] zg18
  obtain ⟨ae, al, ab⟩ := t_all_ex (W := W) wf
  have an := b_cst_nn al
  rw [ab, ← zy22] at an
  refine w_iload_n (List.Mem.tail _ (List.Mem.head _)) (tX0_leaveOut_0_ok (90, .iload_n 3, 1) (List.mem_of_getElem? (i := 51) rfl)) ?_
  refine w_sipush (by decide) (tX0_leaveOut_0_ok (91, .sipush 8192, 3) (List.mem_of_getElem? (i := 52) rfl)) (fun zv33 ze34 => ?_)
  refine w_iadd (by omega) (by omega) (tX0_leaveOut_0_ok (94, .iadd, 1) (List.mem_of_getElem? (i := 53) rfl)) (fun zv35 ze36 => ?_)
  refine w_iconst (by decide) (tX0_leaveOut_0_ok (95, .iconst 1, 1) (List.mem_of_getElem? (i := 54) rfl)) (fun zv37 ze38 => ?_)
  refine w_isub (by omega) (by omega) (tX0_leaveOut_0_ok (96, .isub, 1) (List.mem_of_getElem? (i := 55) rfl)) (fun zv39 ze40 => ?_)
  refine w_sipush (by decide) (tX0_leaveOut_0_ok (97, .sipush 8192, 3) (List.mem_of_getElem? (i := 56) rfl)) (fun zv41 ze42 => ?_)
  refine w_divE (by omega) (by omega) (tX0_leaveOut_0_ok (100, .idiv, 1) (List.mem_of_getElem? (i := 57) rfl)) (fun zv43 ze44 => ?_)
  refine w_sipush (by decide) (tX0_leaveOut_0_ok (101, .sipush 8192, 3) (List.mem_of_getElem? (i := 58) rfl)) (fun zv45 ze46 => ?_)
  refine w_imulR (n := 8192) (by omega) (by omega) (by omega) (tX0_leaveOut_0_ok (104, .imul, 1) (List.mem_of_getElem? (i := 59) rfl)) (fun zv47 ze48 => ?_)
  refine w_iload_n (List.Mem.tail _ (List.Mem.head _)) (tX0_leaveOut_1_ok (105, .iload_n 3, 1) (List.mem_of_getElem? (i := 0) rfl)) ?_
  refine w_isub (by omega) (by omega) (tX0_leaveOut_1_ok (106, .isub, 1) (List.mem_of_getElem? (i := 1) rfl)) (fun zv49 ze50 => ?_)
  refine w_istore [(4, .int zv49), (3, .int zto21), (0, .ref ft), (1, .ref pl), (2, .ref wa)] rfl (Nat.le_of_ble_eq_true rfl) (tX0_leaveOut_1_ok (107, .istore 4, 2) (List.mem_of_getElem? (i := 2) rfl)) ?_
  refine w_iconst (by decide) (tX0_leaveOut_1_ok (109, .iconst 0, 1) (List.mem_of_getElem? (i := 3) rfl)) (fun zv51 ze52 => ?_)
  refine w_istore [(5, .int zv51), (4, .int zv49), (3, .int zto21), (0, .ref ft), (1, .ref pl), (2, .ref wa)] rfl (Nat.le_of_ble_eq_true rfl) (tX0_leaveOut_1_ok (110, .istore 5, 2) (List.mem_of_getElem? (i := 4) rfl)) ?_
  refine w_iconst (by decide) (tX0_leaveOut_1_ok (112, .iconst 0, 1) (List.mem_of_getElem? (i := 5) rfl)) (fun zv53 ze54 => ?_)
  refine w_istore [(6, .int zv53), (5, .int zv51), (4, .int zv49), (3, .int zto21), (0, .ref ft), (1, .ref pl), (2, .ref wa)] rfl (Nat.le_of_ble_eq_true rfl) (tX0_leaveOut_1_ok (113, .istore 6, 2) (List.mem_of_getElem? (i := 6) rfl)) ?_
  have sr9 := (b_sh al).1
  rw [ab, ← zy22] at sr9
  have rl9 := b_rev_lt 12 ae
  have p12 : (2 : Nat) ^ 12 = 4096 := rfl
  have se9 : zv49.toInt = ((b_rev 12 ae : Nat) : Int) := by omega
  refine w_lv [(6, .int zv53), (5, .int zv51), (4, .int zv49), (3, .int zto21), (0, .ref ft), (1, .ref pl), (2, .ref wa)] (by intro q hq; simp only [List.mem_cons, List.not_mem_nil, or_false] at hq ⊢; rcases hq with e | e | e | e | e | e | e <;> subst e <;> simp) ?_
  refine c_loB (by omega) 12 _ _ (by omega) (by omega) (by rw [show zv53.toInt.toNat = 0 by omega]; show _ = ((0 : Nat) : Int); omega) (fun v hv => hq zg18 v ae al ab ?_ (fun q hq9 => (zy32 q hq9.2).trans (zq11 q hq9.1)))
  rw [hv, show zv49.toInt.toNat = b_rev 12 ae by omega, (b_sh al).2]
end
