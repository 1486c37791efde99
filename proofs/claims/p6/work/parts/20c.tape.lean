/-! the class's TAPE: signs, digits, numbers -/
def sp_sk (f : Nat → Int32) (len n : Nat) : Nat := if n < len ∧ (f n).toInt = 32 then sp_sk f len (n + 1) else n
termination_by len - n
def sp_sg (f : Nat → Int32) (len n : Nat) : Int := if n < len then (f n).toInt else 0
abbrev sp_isd (f : Nat → Int32) (len n : Nat) : Prop := n < len ∧ 48 ≤ (f n).toInt ∧ (f n).toInt ≤ 57
/-- so many digits: where they end, and their number -/
def sp_nd (f : Nat → Int32) (len : Nat) : Nat → Nat → Int → Nat × Int
  | 0, n, v => (n, v)
  | d + 1, n, v => if sp_isd f len n then sp_nd f len d (n + 1) (10 * v + ((f n).toInt - 48)) else (n, v)
/-- what comes of a piece of a text: a FAULT (inl), or where it ends (inr) -/
def sp_num (f : Nat → Int32) (len k n : Nat) : (Nat ⊕ Nat) × Int := if sp_isd f len (sp_sk f len n) then (if sp_isd f len (sp_nd f len k (sp_sk f len n) 0).1 then (.inl (sp_nd f len k (sp_sk f len n) 0).1, (sp_nd f len k (sp_sk f len n) 0).2) else (.inr (sp_nd f len k (sp_sk f len n) 0).1, (sp_nd f len k (sp_sk f len n) 0).2)) else (.inl (sp_sk f len n), 0)
def sp_bd (r : Nat ⊕ Nat) (g : Nat → Nat ⊕ Nat) : Nat ⊕ Nat := match r with | .inl e => .inl e | .inr n => g n
def sp_tk (f : Nat → Int32) (len : Nat) (due : Int) (n : Nat) : Nat ⊕ Nat := if sp_sg f len (sp_sk f len n) = due then .inr (sp_sk f len n + 1) else .inl (sp_sk f len n)
/-- the TAPE stands so, at a FAULT or without -/
def sp_is (r : Nat ⊕ Nat) (at0 fl0 : Int32) : Prop := match r with | .inl e => fl0.toInt = e | .inr n => fl0.toInt = -1 ∧ at0.toInt = n
theorem sp_sk_y {f : Nat → Int32} {len n : Nat} (h1 : n < len) (h2 : (f n).toInt = 32) : sp_sk f len n = sp_sk f len (n + 1) := by rw [sp_sk, if_pos ⟨h1, h2⟩]
theorem sp_sk_n {f : Nat → Int32} {len n : Nat} (h1 : n < len → ¬ (f n).toInt = 32) : sp_sk f len n = n := by rw [sp_sk, if_neg (fun q => h1 q.1 q.2)]
theorem sp_sg_or (f : Nat → Int32) (len n : Nat) : sp_sg f len n = 0 ∨ n < len := by
  unfold sp_sg
  split
  · exact Or.inr (by assumption)
  · exact Or.inl rfl
def tp (cA : Nat → ClassId) (h : ch_H) (t b : Nat) (f : Nat → Int32) (len at0 fl0 : Int32) : Prop := h t = some (.inr (7, [.ref b, .int len, .int at0, .int fl0])) ∧ h b = some (.inl (cA 0, 160, .inl f)) ∧ b ≠ t ∧ 0 ≤ len.toInt ∧ len.toInt ≤ 160 ∧ 0 ≤ at0.toInt ∧ at0.toInt ≤ len.toInt
def tp0 (cA : Nat → ClassId) (h : ch_H) (t b : Nat) (f : Nat → Int32) (len at0 fl0 : Int32) : Prop := h t = some (.inr (7, [.ref b, .int len, .int at0, .int fl0])) ∧ h b = some (.inl (cA 0, 160, .inl f)) ∧ b ≠ t ∧ 0 ≤ len.toInt ∧ len.toInt ≤ 160
section
variable {l : Launch} {D : va_G} {tys : List (ClassId × FieldType)} {A : Nat → Prop} {X : State → Prop} {fr lo : Nat} {Q : Option Value → ch_H → Prop} {cA : Nat → ClassId} {h : ch_H} {t b : Nat} {f : Nat → Int32} {len at0 fl0 : Int32}
theorem s_sign0 (hT : k_tys tys cA) (n_b_t : b ≠ t) (hl : 0 ≤ len.toInt ∧ len.toInt ≤ 160) : ∀ (k : Nat) (at0 : Int32) (h : ch_H), 0 ≤ at0.toInt → at0.toInt ≤ len.toInt → len.toInt - at0.toInt ≤ k → h t = some (.inr (7, [.ref b, .int len, .int at0, .int fl0])) → h b = some (.inl (cA 0, 160, .inl f)) →
    (∀ (h1 : ch_H) (at1 v : Int32), at1.toInt.toNat = sp_sk f len.toInt.toNat at0.toInt.toNat → 0 ≤ at1.toInt ∧ at1.toInt ≤ len.toInt → v.toInt = sp_sg f len.toInt.toNat at1.toInt.toNat → h1 t = some (.inr (7, [.ref b, .int len, .int at1, .int fl0])) → (∀ q, q ≠ t → h1 q = h q) → Q (some (.int v)) h1) → ww l D tys A X fr lo mX7_sign Q 0 [(0, .ref t)] [] h := by
  intro k
  induction k using Nat.strongRecOn with
  | ind k ih =>
    intro at0 h ha hle hk c_t c_b hq
    refine w_aload_n (List.Mem.head _) (tX7_sign_0_ok (0, .aload_n 0, 1) (List.mem_of_getElem? (i := 0) rfl)) ?_
    refine w_get (own := 12) rfl rfl (by decide) c_t rfl (tX7_sign_0_ok (1, .getfield 22, 3) (List.mem_of_getElem? (i := 1) rfl)) ?_
    refine w_if_lt (tgt := 45) (tX7_sign_0_ok (4, .ifCond .lt 41, 3) (List.mem_of_getElem? (i := 2) rfl)) rfl (fun b1 => ?_) (fun b1 => ?_)
    · exfalso; omega
    · refine w_aload_n (List.Mem.head _) (tX7_sign_0_ok (7, .aload_n 0, 1) (List.mem_of_getElem? (i := 3) rfl)) ?_
      refine w_get (own := 12) rfl rfl (by decide) c_t rfl (tX7_sign_0_ok (8, .getfield 22, 3) (List.mem_of_getElem? (i := 4) rfl)) ?_
      refine w_aload_n (List.Mem.head _) (tX7_sign_0_ok (11, .aload_n 0, 1) (List.mem_of_getElem? (i := 5) rfl)) ?_
      refine w_get (own := 12) rfl rfl (by decide) c_t rfl (tX7_sign_0_ok (12, .getfield 19, 3) (List.mem_of_getElem? (i := 6) rfl)) ?_
      refine w_icmp_ge (tgt := 45) (tX7_sign_0_ok (15, .if_icmp .ge 30, 3) (List.mem_of_getElem? (i := 7) rfl)) rfl (fun b2 => ?_) (fun b2 => ?_)
      · refine w_aload_n (List.Mem.head _) (tX7_sign_0_ok (45, .aload_n 0, 1) (List.mem_of_getElem? (i := 22) rfl)) ?_
        refine w_get (own := 12) rfl rfl (by decide) c_t rfl (tX7_sign_0_ok (46, .getfield 22, 3) (List.mem_of_getElem? (i := 23) rfl)) ?_
        refine w_if_lt (tgt := 75) (tX7_sign_0_ok (49, .ifCond .lt 26, 3) (List.mem_of_getElem? (i := 24) rfl)) rfl (fun b3 => ?_) (fun b3 => ?_)
        · exfalso; omega
        · refine w_aload_n (List.Mem.head _) (tX7_sign_0_ok (52, .aload_n 0, 1) (List.mem_of_getElem? (i := 25) rfl)) ?_
          refine w_get (own := 12) rfl rfl (by decide) c_t rfl (tX7_sign_0_ok (53, .getfield 22, 3) (List.mem_of_getElem? (i := 26) rfl)) ?_
          refine w_aload_n (List.Mem.head _) (tX7_sign_0_ok (56, .aload_n 0, 1) (List.mem_of_getElem? (i := 27) rfl)) ?_
          refine w_get (own := 12) rfl rfl (by decide) c_t rfl (tX7_sign_0_ok (57, .getfield 19, 3) (List.mem_of_getElem? (i := 28) rfl)) ?_
          refine w_icmp_ge (tgt := 75) (tX7_sign_0_ok (60, .if_icmp .ge 15, 3) (List.mem_of_getElem? (i := 29) rfl)) rfl (fun b4 => ?_) (fun b4 => ?_)
          · refine w_iconst (by decide) (tX7_sign_0_ok (75, .iconst 0, 1) (List.mem_of_getElem? (i := 36) rfl)) (fun v5 e6 => ?_)
            refine w_iret rfl (tX7_sign_0_ok (76, .ireturn, 1) (List.mem_of_getElem? (i := 37) rfl)) ?_
            refine hq h at0 v5 (sp_sk_n (fun a2 => by omega)).symm (by omega) ?_ c_t (fun q hq => rfl)
            unfold sp_sg
            split <;> omega
          · refine w_aload_n (List.Mem.head _) (tX7_sign_0_ok (63, .aload_n 0, 1) (List.mem_of_getElem? (i := 30) rfl)) ?_
            refine w_get (own := 12) rfl rfl (by decide) c_t rfl (tX7_sign_0_ok (64, .getfield 9, 3) (List.mem_of_getElem? (i := 31) rfl)) ?_
            refine w_aload_n (List.Mem.head _) (tX7_sign_0_ok (67, .aload_n 0, 1) (List.mem_of_getElem? (i := 32) rfl)) ?_
            refine w_get (own := 12) rfl rfl (by decide) c_t rfl (tX7_sign_0_ok (68, .getfield 22, 3) (List.mem_of_getElem? (i := 33) rfl)) ?_
            refine w_iald hT c_b (by omega) (by omega) (tX7_sign_0_ok (71, .iaload, 1) (List.mem_of_getElem? (i := 34) rfl)) (fun v7 e8 => ?_)
            refine w_goto (tgt := 76) (tX7_sign_0_ok (72, .goto 4, 3) (List.mem_of_getElem? (i := 35) rfl)) rfl ?_
            refine w_iret rfl (tX7_sign_0_ok (76, .ireturn, 1) (List.mem_of_getElem? (i := 37) rfl)) ?_
            refine hq h at0 v7 (sp_sk_n (fun a2 => by omega)).symm (by omega) ?_ c_t (fun q hq => rfl)
            unfold sp_sg
            split <;> omega
      · refine w_aload_n (List.Mem.head _) (tX7_sign_0_ok (18, .aload_n 0, 1) (List.mem_of_getElem? (i := 8) rfl)) ?_
        refine w_get (own := 12) rfl rfl (by decide) c_t rfl (tX7_sign_0_ok (19, .getfield 9, 3) (List.mem_of_getElem? (i := 9) rfl)) ?_
        refine w_aload_n (List.Mem.head _) (tX7_sign_0_ok (22, .aload_n 0, 1) (List.mem_of_getElem? (i := 10) rfl)) ?_
        refine w_get (own := 12) rfl rfl (by decide) c_t rfl (tX7_sign_0_ok (23, .getfield 22, 3) (List.mem_of_getElem? (i := 11) rfl)) ?_
        refine w_iald hT c_b (by omega) (by omega) (tX7_sign_0_ok (26, .iaload, 1) (List.mem_of_getElem? (i := 12) rfl)) (fun v9 e10 => ?_)
        refine w_bipush (by decide) (tX7_sign_0_ok (27, .bipush 32, 2) (List.mem_of_getElem? (i := 13) rfl)) (fun v11 e12 => ?_)
        refine w_icmp_ne (tgt := 45) (tX7_sign_0_ok (29, .if_icmp .ne 16, 3) (List.mem_of_getElem? (i := 14) rfl)) rfl (fun b13 => ?_) (fun b13 => ?_)
        · refine w_aload_n (List.Mem.head _) (tX7_sign_0_ok (45, .aload_n 0, 1) (List.mem_of_getElem? (i := 22) rfl)) ?_
          refine w_get (own := 12) rfl rfl (by decide) c_t rfl (tX7_sign_0_ok (46, .getfield 22, 3) (List.mem_of_getElem? (i := 23) rfl)) ?_
          refine w_if_lt (tgt := 75) (tX7_sign_0_ok (49, .ifCond .lt 26, 3) (List.mem_of_getElem? (i := 24) rfl)) rfl (fun b14 => ?_) (fun b14 => ?_)
          · exfalso; omega
          · refine w_aload_n (List.Mem.head _) (tX7_sign_0_ok (52, .aload_n 0, 1) (List.mem_of_getElem? (i := 25) rfl)) ?_
            refine w_get (own := 12) rfl rfl (by decide) c_t rfl (tX7_sign_0_ok (53, .getfield 22, 3) (List.mem_of_getElem? (i := 26) rfl)) ?_
            refine w_aload_n (List.Mem.head _) (tX7_sign_0_ok (56, .aload_n 0, 1) (List.mem_of_getElem? (i := 27) rfl)) ?_
            refine w_get (own := 12) rfl rfl (by decide) c_t rfl (tX7_sign_0_ok (57, .getfield 19, 3) (List.mem_of_getElem? (i := 28) rfl)) ?_
            refine w_icmp_ge (tgt := 75) (tX7_sign_0_ok (60, .if_icmp .ge 15, 3) (List.mem_of_getElem? (i := 29) rfl)) rfl (fun b15 => ?_) (fun b15 => ?_)
            · refine w_iconst (by decide) (tX7_sign_0_ok (75, .iconst 0, 1) (List.mem_of_getElem? (i := 36) rfl)) (fun v16 e17 => ?_)
              refine w_iret rfl (tX7_sign_0_ok (76, .ireturn, 1) (List.mem_of_getElem? (i := 37) rfl)) ?_
              refine hq h at0 v16 (sp_sk_n (fun a2 => by omega)).symm (by omega) ?_ c_t (fun q hq => rfl)
              unfold sp_sg
              split <;> omega
            · refine w_aload_n (List.Mem.head _) (tX7_sign_0_ok (63, .aload_n 0, 1) (List.mem_of_getElem? (i := 30) rfl)) ?_
              refine w_get (own := 12) rfl rfl (by decide) c_t rfl (tX7_sign_0_ok (64, .getfield 9, 3) (List.mem_of_getElem? (i := 31) rfl)) ?_
              refine w_aload_n (List.Mem.head _) (tX7_sign_0_ok (67, .aload_n 0, 1) (List.mem_of_getElem? (i := 32) rfl)) ?_
              refine w_get (own := 12) rfl rfl (by decide) c_t rfl (tX7_sign_0_ok (68, .getfield 22, 3) (List.mem_of_getElem? (i := 33) rfl)) ?_
              refine w_iald hT c_b (by omega) (by omega) (tX7_sign_0_ok (71, .iaload, 1) (List.mem_of_getElem? (i := 34) rfl)) (fun v18 e19 => ?_)
              refine w_goto (tgt := 76) (tX7_sign_0_ok (72, .goto 4, 3) (List.mem_of_getElem? (i := 35) rfl)) rfl ?_
              refine w_iret rfl (tX7_sign_0_ok (76, .ireturn, 1) (List.mem_of_getElem? (i := 37) rfl)) ?_
              refine hq h at0 v18 (sp_sk_n (fun a2 => by omega)).symm (by omega) ?_ c_t (fun q hq => rfl)
              unfold sp_sg
              split <;> omega
        · refine w_aload_n (List.Mem.head _) (tX7_sign_0_ok (32, .aload_n 0, 1) (List.mem_of_getElem? (i := 15) rfl)) ?_
          refine w_dup rfl (tX7_sign_0_ok (33, .dup, 1) (List.mem_of_getElem? (i := 16) rfl)) ?_
          refine w_get (own := 12) rfl rfl (by decide) c_t rfl (tX7_sign_0_ok (34, .getfield 22, 3) (List.mem_of_getElem? (i := 17) rfl)) ?_
          refine w_iconst (by decide) (tX7_sign_0_ok (37, .iconst 1, 1) (List.mem_of_getElem? (i := 18) rfl)) (fun v20 e21 => ?_)
          refine w_iadd (by omega) (by omega) (tX7_sign_0_ok (38, .iadd, 1) (List.mem_of_getElem? (i := 19) rfl)) (fun v22 e23 => ?_)
          refine w_put (own := 12) [.ref b, .int len, .int v22, .int fl0] rfl rfl rfl (by decide) rfl ⟨rfl, rfl⟩ c_t (Nat.le_of_ble_eq_true rfl) (tX7_sign_0_ok (39, .putfield 22, 3) (List.mem_of_getElem? (i := 20) rfl)) (fun h24 c25 o26 => ?_)
          have c27 := (o26 b n_b_t).trans c_b
          refine w_goto (tgt := 0) (tX7_sign_0_ok (42, .goto (-42), 3) (List.mem_of_getElem? (i := 21) rfl)) rfl ?_
          have a1 : v22.toInt.toNat = at0.toInt.toNat + 1 := by omega
          refine ih (k - 1) (by omega) v22 h24 (by omega) (by omega) (by omega) c25 c27 (fun h1 at1 v p1 p2 p3 p4 p5 => hq h1 at1 v ?_ p2 p3 p4 (fun q hq => (p5 q hq).trans ((fun q hq => o26 q hq) q hq)))
          rw [p1, a1]
          exact (sp_sk_y (by omega) (by omega)).symm
theorem s_sign (hT : k_tys tys cA) (H : tp cA h t b f len at0 fl0) (hq : ∀ (h1 : ch_H) (at1 v : Int32), tp cA h1 t b f len at1 fl0 → at1.toInt.toNat = sp_sk f len.toInt.toNat at0.toInt.toNat → v.toInt = sp_sg f len.toInt.toNat at1.toInt.toNat → (∀ q, q ≠ t → h1 q = h q) → Q (some (.int v)) h1) : ww l D tys A X fr lo mX7_sign Q 0 [(0, .ref t)] [] h := by
  obtain ⟨c_t, c_b, n_b_t, l1, l2, a1, a2⟩ := H
  exact s_sign0 hT n_b_t ⟨l1, l2⟩ (len.toInt - at0.toInt).toNat at0 h a1 a2 (by omega) c_t c_b (fun h1 at1 v e1 e2 e3 e4 e5 => hq h1 at1 v ⟨e4, (e5 b n_b_t).trans c_b, n_b_t, l1, l2, e2.1, e2.2⟩ e1 e3 e5)
theorem s_open (hT : k_tys tys cA) (H : tp0 cA h t b f len at0 fl0) (hq : ∀ (h1 : ch_H) (at1 fl1 : Int32), tp cA h1 t b f len at1 fl1 → at1.toInt = 0 → fl1.toInt = -1 → (∀ q, q ≠ t → h1 q = h q) → Q none h1) : ww l D tys A X fr lo mX7_open Q 0 [(0, .ref t)] [] h := by
  obtain ⟨c_t, c_b, n_b_t, l1, l2⟩ := H
  refine w_aload_n (List.Mem.head _) (tX7_open_0_ok (0, .aload_n 0, 1) (List.mem_of_getElem? (i := 0) rfl)) ?_
  refine w_iconst (by decide) (tX7_open_0_ok (1, .iconst 0, 1) (List.mem_of_getElem? (i := 1) rfl)) (fun v1 e2 => ?_)
  refine w_put (own := 12) [.ref b, .int len, .int v1, .int fl0] rfl rfl rfl (by decide) rfl ⟨rfl, rfl⟩ c_t (Nat.le_of_ble_eq_true rfl) (tX7_open_0_ok (2, .putfield 22, 3) (List.mem_of_getElem? (i := 2) rfl)) (fun h3 c4 o5 => ?_)
  have c6 := (o5 b n_b_t).trans c_b
  refine w_aload_n (List.Mem.head _) (tX7_open_0_ok (5, .aload_n 0, 1) (List.mem_of_getElem? (i := 3) rfl)) ?_
  refine w_iconst (by decide) (tX7_open_0_ok (6, .iconst (-1), 1) (List.mem_of_getElem? (i := 4) rfl)) (fun v7 e8 => ?_)
  refine w_put (own := 12) [.ref b, .int len, .int v1, .int v7] rfl rfl rfl (by decide) rfl ⟨rfl, rfl⟩ c4 (Nat.le_of_ble_eq_true rfl) (tX7_open_0_ok (7, .putfield 15, 3) (List.mem_of_getElem? (i := 5) rfl)) (fun h9 c10 o11 => ?_)
  have c12 := (o11 b n_b_t).trans c6
  refine w_vret rfl (tX7_open_0_ok (10, .return_, 1) (List.mem_of_getElem? (i := 6) rfl)) ?_
  exact hq h9 v1 v7 ⟨c10, c12, n_b_t, l1, l2, by omega, by omega⟩ (by omega) (by omega) (fun q hq => (o11 q hq).trans (o5 q hq))
theorem s_isWrong (hT : k_tys tys cA) (H : tp cA h t b f len at0 fl0) (hq : ∀ v : Int32, (fl0.toInt = -1 ∧ v.toInt = 0 ∨ ¬ fl0.toInt = -1 ∧ v.toInt = 1) → Q (some (.int v)) h) : ww l D tys A X fr lo mX7_isWrong Q 0 [(0, .ref t)] [] h := by
  obtain ⟨c_t, c_b, n_b_t, l1, l2, a1, a2⟩ := H
  refine w_aload_n (List.Mem.head _) (tX7_isWrong_0_ok (0, .aload_n 0, 1) (List.mem_of_getElem? (i := 0) rfl)) ?_
  refine w_get (own := 12) rfl rfl (by decide) c_t rfl (tX7_isWrong_0_ok (1, .getfield 15, 3) (List.mem_of_getElem? (i := 1) rfl)) ?_
  refine w_iconst (by decide) (tX7_isWrong_0_ok (4, .iconst (-1), 1) (List.mem_of_getElem? (i := 2) rfl)) (fun v1 e2 => ?_)
  refine w_icmp_eq (tgt := 12) (tX7_isWrong_0_ok (5, .if_icmp .eq 7, 3) (List.mem_of_getElem? (i := 3) rfl)) rfl (fun b3 => ?_) (fun b3 => ?_)
  · refine w_iconst (by decide) (tX7_isWrong_0_ok (12, .iconst 0, 1) (List.mem_of_getElem? (i := 6) rfl)) (fun v4 e5 => ?_)
    refine w_zret rfl (by omega) (by omega) (tX7_isWrong_0_ok (13, .ireturn, 1) (List.mem_of_getElem? (i := 7) rfl)) ?_
    exact hq v4 (by omega)
  · refine w_iconst (by decide) (tX7_isWrong_0_ok (8, .iconst 1, 1) (List.mem_of_getElem? (i := 4) rfl)) (fun v6 e7 => ?_)
    refine w_goto (tgt := 13) (tX7_isWrong_0_ok (9, .goto 4, 3) (List.mem_of_getElem? (i := 5) rfl)) rfl ?_
    refine w_zret rfl (by omega) (by omega) (tX7_isWrong_0_ok (13, .ireturn, 1) (List.mem_of_getElem? (i := 7) rfl)) ?_
    exact hq v6 (by omega)
theorem s_wrong (hT : k_tys tys cA) (H : tp cA h t b f len at0 fl0) (hq : ∀ (h1 : ch_H) (fl1 : Int32), tp cA h1 t b f len at0 fl1 → (fl0.toInt = -1 ∧ fl1.toInt = at0.toInt ∨ ¬ fl0.toInt = -1 ∧ fl1.toInt = fl0.toInt) → (∀ q, q ≠ t → h1 q = h q) → Q none h1) : ww l D tys A X fr lo mX7_wrong Q 0 [(0, .ref t)] [] h := by
  obtain ⟨c_t, c_b, n_b_t, l1, l2, a1, a2⟩ := H
  refine w_aload_n (List.Mem.head _) (tX7_wrong_0_ok (0, .aload_n 0, 1) (List.mem_of_getElem? (i := 0) rfl)) ?_
  refine w_get (own := 12) rfl rfl (by decide) c_t rfl (tX7_wrong_0_ok (1, .getfield 15, 3) (List.mem_of_getElem? (i := 1) rfl)) ?_
  refine w_iconst (by decide) (tX7_wrong_0_ok (4, .iconst (-1), 1) (List.mem_of_getElem? (i := 2) rfl)) (fun v1 e2 => ?_)
  refine w_icmp_ne (tgt := 16) (tX7_wrong_0_ok (5, .if_icmp .ne 11, 3) (List.mem_of_getElem? (i := 3) rfl)) rfl (fun b3 => ?_) (fun b3 => ?_)
  · refine w_vret rfl (tX7_wrong_0_ok (16, .return_, 1) (List.mem_of_getElem? (i := 8) rfl)) ?_
    exact hq h fl0 ⟨c_t, c_b, n_b_t, l1, l2, by omega, by omega⟩ (by omega) (fun q hq => rfl)
  · refine w_aload_n (List.Mem.head _) (tX7_wrong_0_ok (8, .aload_n 0, 1) (List.mem_of_getElem? (i := 4) rfl)) ?_
    refine w_aload_n (List.Mem.head _) (tX7_wrong_0_ok (9, .aload_n 0, 1) (List.mem_of_getElem? (i := 5) rfl)) ?_
    refine w_get (own := 12) rfl rfl (by decide) c_t rfl (tX7_wrong_0_ok (10, .getfield 22, 3) (List.mem_of_getElem? (i := 6) rfl)) ?_
    refine w_put (own := 12) [.ref b, .int len, .int at0, .int at0] rfl rfl rfl (by decide) rfl ⟨rfl, rfl⟩ c_t (Nat.le_of_ble_eq_true rfl) (tX7_wrong_0_ok (13, .putfield 15, 3) (List.mem_of_getElem? (i := 7) rfl)) (fun h4 c5 o6 => ?_)
    have c7 := (o6 b n_b_t).trans c_b
    refine w_vret rfl (tX7_wrong_0_ok (16, .return_, 1) (List.mem_of_getElem? (i := 8) rfl)) ?_
    exact hq h4 at0 ⟨c5, c7, n_b_t, l1, l2, by omega, by omega⟩ (by omega) (fun q hq => o6 q hq)
theorem s_digit (hT : k_tys tys cA) (H : tp cA h t b f len at0 fl0) (hq : ∀ v : Int32, (sp_isd f len.toInt.toNat at0.toInt.toNat ∧ v.toInt = (f at0.toInt.toNat).toInt - 48 ∨ ¬ sp_isd f len.toInt.toNat at0.toInt.toNat ∧ v.toInt = -1) → Q (some (.int v)) h) : ww l D tys A X fr lo mX7_digit Q 0 [(0, .ref t)] [] h := by
  obtain ⟨c_t, c_b, n_b_t, l1, l2, a1, a2⟩ := H
  refine w_aload_n (List.Mem.head _) (tX7_digit_0_ok (0, .aload_n 0, 1) (List.mem_of_getElem? (i := 0) rfl)) ?_
  refine w_get (own := 12) rfl rfl (by decide) c_t rfl (tX7_digit_0_ok (1, .getfield 22, 3) (List.mem_of_getElem? (i := 1) rfl)) ?_
  refine w_if_lt (tgt := 30) (tX7_digit_0_ok (4, .ifCond .lt 26, 3) (List.mem_of_getElem? (i := 2) rfl)) rfl (fun b1 => ?_) (fun b1 => ?_)
  · exfalso; omega
  · refine w_aload_n (List.Mem.head _) (tX7_digit_0_ok (7, .aload_n 0, 1) (List.mem_of_getElem? (i := 3) rfl)) ?_
    refine w_get (own := 12) rfl rfl (by decide) c_t rfl (tX7_digit_0_ok (8, .getfield 22, 3) (List.mem_of_getElem? (i := 4) rfl)) ?_
    refine w_aload_n (List.Mem.head _) (tX7_digit_0_ok (11, .aload_n 0, 1) (List.mem_of_getElem? (i := 5) rfl)) ?_
    refine w_get (own := 12) rfl rfl (by decide) c_t rfl (tX7_digit_0_ok (12, .getfield 19, 3) (List.mem_of_getElem? (i := 6) rfl)) ?_
    refine w_icmp_ge (tgt := 30) (tX7_digit_0_ok (15, .if_icmp .ge 15, 3) (List.mem_of_getElem? (i := 7) rfl)) rfl (fun b2 => ?_) (fun b2 => ?_)
    · refine w_iconst (by decide) (tX7_digit_0_ok (30, .iconst 0, 1) (List.mem_of_getElem? (i := 14) rfl)) (fun v3 e4 => ?_)
      refine w_istore_n [(1, .int v3), (0, .ref t)] rfl (Nat.le_of_ble_eq_true rfl) (tX7_digit_0_ok (31, .istore_n 1, 1) (List.mem_of_getElem? (i := 15) rfl)) ?_
      refine w_iload_n (List.Mem.head _) (tX7_digit_0_ok (32, .iload_n 1, 1) (List.mem_of_getElem? (i := 16) rfl)) ?_
      refine w_bipush (by decide) (tX7_digit_0_ok (33, .bipush 48, 2) (List.mem_of_getElem? (i := 17) rfl)) (fun v5 e6 => ?_)
      refine w_icmp_lt (tgt := 51) (tX7_digit_0_ok (35, .if_icmp .lt 16, 3) (List.mem_of_getElem? (i := 18) rfl)) rfl (fun b7 => ?_) (fun b7 => ?_)
      · refine w_iconst (by decide) (tX7_digit_0_ok (51, .iconst (-1), 1) (List.mem_of_getElem? (i := 26) rfl)) (fun v8 e9 => ?_)
        refine w_iret rfl (tX7_digit_0_ok (52, .ireturn, 1) (List.mem_of_getElem? (i := 27) rfl)) ?_
        exact hq v8 (by omega)
      · exfalso; omega
    · refine w_aload_n (List.Mem.head _) (tX7_digit_0_ok (18, .aload_n 0, 1) (List.mem_of_getElem? (i := 8) rfl)) ?_
      refine w_get (own := 12) rfl rfl (by decide) c_t rfl (tX7_digit_0_ok (19, .getfield 9, 3) (List.mem_of_getElem? (i := 9) rfl)) ?_
      refine w_aload_n (List.Mem.head _) (tX7_digit_0_ok (22, .aload_n 0, 1) (List.mem_of_getElem? (i := 10) rfl)) ?_
      refine w_get (own := 12) rfl rfl (by decide) c_t rfl (tX7_digit_0_ok (23, .getfield 22, 3) (List.mem_of_getElem? (i := 11) rfl)) ?_
      refine w_iald hT c_b (by omega) (by omega) (tX7_digit_0_ok (26, .iaload, 1) (List.mem_of_getElem? (i := 12) rfl)) (fun v10 e11 => ?_)
      refine w_goto (tgt := 31) (tX7_digit_0_ok (27, .goto 4, 3) (List.mem_of_getElem? (i := 13) rfl)) rfl ?_
      refine w_istore_n [(1, .int v10), (0, .ref t)] rfl (Nat.le_of_ble_eq_true rfl) (tX7_digit_0_ok (31, .istore_n 1, 1) (List.mem_of_getElem? (i := 15) rfl)) ?_
      refine w_iload_n (List.Mem.head _) (tX7_digit_0_ok (32, .iload_n 1, 1) (List.mem_of_getElem? (i := 16) rfl)) ?_
      refine w_bipush (by decide) (tX7_digit_0_ok (33, .bipush 48, 2) (List.mem_of_getElem? (i := 17) rfl)) (fun v12 e13 => ?_)
      refine w_icmp_lt (tgt := 51) (tX7_digit_0_ok (35, .if_icmp .lt 16, 3) (List.mem_of_getElem? (i := 18) rfl)) rfl (fun b14 => ?_) (fun b14 => ?_)
      · refine w_iconst (by decide) (tX7_digit_0_ok (51, .iconst (-1), 1) (List.mem_of_getElem? (i := 26) rfl)) (fun v15 e16 => ?_)
        refine w_iret rfl (tX7_digit_0_ok (52, .ireturn, 1) (List.mem_of_getElem? (i := 27) rfl)) ?_
        exact hq v15 (by omega)
      · refine w_iload_n (List.Mem.head _) (tX7_digit_0_ok (38, .iload_n 1, 1) (List.mem_of_getElem? (i := 19) rfl)) ?_
        refine w_bipush (by decide) (tX7_digit_0_ok (39, .bipush 57, 2) (List.mem_of_getElem? (i := 20) rfl)) (fun v17 e18 => ?_)
        refine w_icmp_gt (tgt := 51) (tX7_digit_0_ok (41, .if_icmp .gt 10, 3) (List.mem_of_getElem? (i := 21) rfl)) rfl (fun b19 => ?_) (fun b19 => ?_)
        · refine w_iconst (by decide) (tX7_digit_0_ok (51, .iconst (-1), 1) (List.mem_of_getElem? (i := 26) rfl)) (fun v20 e21 => ?_)
          refine w_iret rfl (tX7_digit_0_ok (52, .ireturn, 1) (List.mem_of_getElem? (i := 27) rfl)) ?_
          exact hq v20 (by omega)
        · refine w_iload_n (List.Mem.head _) (tX7_digit_0_ok (44, .iload_n 1, 1) (List.mem_of_getElem? (i := 22) rfl)) ?_
          refine w_bipush (by decide) (tX7_digit_0_ok (45, .bipush 48, 2) (List.mem_of_getElem? (i := 23) rfl)) (fun v22 e23 => ?_)
          refine w_isub (by omega) (by omega) (tX7_digit_0_ok (47, .isub, 1) (List.mem_of_getElem? (i := 24) rfl)) (fun v24 e25 => ?_)
          refine w_goto (tgt := 52) (tX7_digit_0_ok (48, .goto 4, 3) (List.mem_of_getElem? (i := 25) rfl)) rfl ?_
          refine w_iret rfl (tX7_digit_0_ok (52, .ireturn, 1) (List.mem_of_getElem? (i := 27) rfl)) ?_
          exact hq v24 (by omega)
theorem s_takeSign (hT : k_tys tys cA) {due : Int32} (hd0 : ¬ due.toInt = 0) (hr : 1 ≤ fr ∧ 20 ≤ lo) (H : tp cA h t b f len at0 fl0) (hq : ∀ (h1 : ch_H) (at1 fl1 : Int32), tp cA h1 t b f len at1 fl1 → (¬ fl0.toInt = -1 ∧ fl1.toInt = fl0.toInt ∧ at1.toInt = at0.toInt ∨ fl0.toInt = -1 ∧ sp_is (sp_tk f len.toInt.toNat due.toInt at0.toInt.toNat) at1 fl1) → (∀ q, q ≠ t → h1 q = h q) → Q none h1) : ww l D tys A X fr lo mX7_takeSign Q 0 [(0, .ref t), (1, .int due)] [] h := by
  obtain ⟨c_t, c_b, n_b_t, l1, l2, a1, a2⟩ := H
  refine w_aload_n (List.Mem.head _) (tX7_takeSign_0_ok (0, .aload_n 0, 1) (List.mem_of_getElem? (i := 0) rfl)) ?_
  refine w_callV (own := 12) (mi := 74) [] [] [(0, .ref t)] rfl (cllw_X7 (25, 0, 74) (List.mem_of_getElem? (i := 3) rfl)) rfl rfl c_t rfl (by omega) (w_lo (n := 20) rfl (by omega)) (Nat.le_of_ble_eq_true rfl) (Nat.le_of_ble_eq_true rfl) rfl (tX7_takeSign_0_ok (1, .invokevirtual 25, 3) (List.mem_of_getElem? (i := 1) rfl)) (s_isWrong hT ⟨c_t, c_b, n_b_t, l1, l2, by omega, by omega⟩ (fun v1 e2 => ?_))
  show ww l D tys A X fr lo mX7_takeSign Q 4 [(0, .ref t), (1, .int due)] [.int v1] h
  refine w_if_eq (tgt := 8) (tX7_takeSign_0_ok (4, .ifCond .eq 4, 3) (List.mem_of_getElem? (i := 2) rfl)) rfl (fun b3 => ?_) (fun b3 => ?_)
  · refine w_aload_n (List.Mem.head _) (tX7_takeSign_0_ok (8, .aload_n 0, 1) (List.mem_of_getElem? (i := 4) rfl)) ?_
    refine w_callV (own := 12) (mi := 77) [] [] [(0, .ref t)] rfl (cllw_X7 (29, 0, 77) (List.mem_of_getElem? (i := 0) rfl)) rfl rfl c_t rfl (by omega) (w_lo (n := 20) rfl (by omega)) (Nat.le_of_ble_eq_true rfl) (Nat.le_of_ble_eq_true rfl) rfl (tX7_takeSign_0_ok (9, .invokevirtual 29, 3) (List.mem_of_getElem? (i := 5) rfl)) (s_sign hT ⟨c_t, c_b, n_b_t, l1, l2, by omega, by omega⟩ (fun h4 at5 v6 p7 e8 e9 o10 => ?_))
    obtain ⟨c11, c12, -, -, -, a13, a14⟩ := p7
    show ww l D tys A X fr lo mX7_takeSign Q 12 [(0, .ref t), (1, .int due)] [.int v6] h4
    rw [e8] at e9
    have g15 := sp_sg_or f len.toInt.toNat (sp_sk f len.toInt.toNat at0.toInt.toNat)
    refine w_iload_n (List.Mem.tail _ (List.Mem.head _)) (tX7_takeSign_0_ok (12, .iload_n 1, 1) (List.mem_of_getElem? (i := 6) rfl)) ?_
    refine w_icmp_ne (tgt := 29) (tX7_takeSign_0_ok (13, .if_icmp .ne 16, 3) (List.mem_of_getElem? (i := 7) rfl)) rfl (fun b16 => ?_) (fun b16 => ?_)
    · refine w_aload_n (List.Mem.head _) (tX7_takeSign_0_ok (29, .aload_n 0, 1) (List.mem_of_getElem? (i := 15) rfl)) ?_
      refine w_callV (own := 12) (mi := 80) [] [] [(0, .ref t)] rfl (cllw_X7 (33, 0, 80) (List.mem_of_getElem? (i := 2) rfl)) rfl rfl c11 rfl (by omega) (w_lo (n := 20) rfl (by omega)) (Nat.le_of_ble_eq_true rfl) (Nat.le_of_ble_eq_true rfl) rfl (tX7_takeSign_0_ok (30, .invokevirtual 33, 3) (List.mem_of_getElem? (i := 16) rfl)) (s_wrong hT ⟨c11, c12, n_b_t, l1, l2, by omega, by omega⟩ (fun h17 fl18 p19 e20 o21 => ?_))
      obtain ⟨c22, c23, -, -, -, a24, a25⟩ := p19
      show ww l D tys A X fr lo mX7_takeSign Q 33 [(0, .ref t), (1, .int due)] [] h17
      refine w_vret rfl (tX7_takeSign_0_ok (33, .return_, 1) (List.mem_of_getElem? (i := 17) rfl)) ?_
      refine hq h17 at5 fl18 ⟨c22, c23, n_b_t, l1, l2, by omega, by omega⟩ ?_ (fun q hq => (o21 q hq).trans (o10 q hq))
      first | exact Or.inl ⟨by omega, by omega, by omega⟩ | (refine Or.inr ⟨by omega, ?_⟩; unfold sp_tk; split <;> (simp only [sp_is]; omega))
    · refine w_aload_n (List.Mem.head _) (tX7_takeSign_0_ok (16, .aload_n 0, 1) (List.mem_of_getElem? (i := 8) rfl)) ?_
      refine w_dup rfl (tX7_takeSign_0_ok (17, .dup, 1) (List.mem_of_getElem? (i := 9) rfl)) ?_
      refine w_get (own := 12) rfl rfl (by decide) c11 rfl (tX7_takeSign_0_ok (18, .getfield 22, 3) (List.mem_of_getElem? (i := 10) rfl)) ?_
      refine w_iconst (by decide) (tX7_takeSign_0_ok (21, .iconst 1, 1) (List.mem_of_getElem? (i := 11) rfl)) (fun v26 e27 => ?_)
      refine w_iadd (by omega) (by omega) (tX7_takeSign_0_ok (22, .iadd, 1) (List.mem_of_getElem? (i := 12) rfl)) (fun v28 e29 => ?_)
      refine w_put (own := 12) [.ref b, .int len, .int v28, .int fl0] rfl rfl rfl (by decide) rfl ⟨rfl, rfl⟩ c11 (Nat.le_of_ble_eq_true rfl) (tX7_takeSign_0_ok (23, .putfield 22, 3) (List.mem_of_getElem? (i := 13) rfl)) (fun h30 c31 o32 => ?_)
      have c33 := (o32 b n_b_t).trans c12
      refine w_goto (tgt := 33) (tX7_takeSign_0_ok (26, .goto 7, 3) (List.mem_of_getElem? (i := 14) rfl)) rfl ?_
      refine w_vret rfl (tX7_takeSign_0_ok (33, .return_, 1) (List.mem_of_getElem? (i := 17) rfl)) ?_
      refine hq h30 v28 fl0 ⟨c31, c33, n_b_t, l1, l2, by omega, by omega⟩ ?_ (fun q hq => (o32 q hq).trans (o10 q hq))
      first | exact Or.inl ⟨by omega, by omega, by omega⟩ | (refine Or.inr ⟨by omega, ?_⟩; unfold sp_tk; split <;> (simp only [sp_is]; omega))
  · refine w_vret rfl (tX7_takeSign_0_ok (7, .return_, 1) (List.mem_of_getElem? (i := 3) rfl)) ?_
    refine hq h at0 fl0 ⟨c_t, c_b, n_b_t, l1, l2, by omega, by omega⟩ ?_ (fun q hq => rfl)
    first | exact Or.inl ⟨by omega, by omega, by omega⟩ | (refine Or.inr ⟨by omega, ?_⟩; unfold sp_tk; split <;> (simp only [sp_is]; omega))
theorem s_numL (hT : k_tys tys cA) {dig : Int32} (hr : 1 ≤ fr ∧ 21 ≤ lo) (hd : dig.toInt ≤ 4) : ∀ (k : Nat) (i value at0 : Int32) (h : ch_H), 0 ≤ i.toInt → dig.toInt - i.toInt = k → 0 ≤ value.toInt → ((i.toInt = 0 → value.toInt = 0) ∧ (i.toInt = 1 → value.toInt ≤ 9) ∧ (i.toInt = 2 → value.toInt ≤ 99) ∧ (i.toInt = 3 → value.toInt ≤ 999) ∧ value.toInt ≤ 9999) → tp cA h t b f len at0 fl0 →
    (∀ (h1 : ch_H) (at1 fl1 v : Int32), tp cA h1 t b f len at1 fl1 → v.toInt = (sp_nd f len.toInt.toNat k at0.toInt.toNat value.toInt).2 → (sp_isd f len.toInt.toNat (sp_nd f len.toInt.toNat k at0.toInt.toNat value.toInt).1 ∧ (fl0.toInt = -1 → fl1.toInt = (sp_nd f len.toInt.toNat k at0.toInt.toNat value.toInt).1) ∨ ¬ sp_isd f len.toInt.toNat (sp_nd f len.toInt.toNat k at0.toInt.toNat value.toInt).1 ∧ fl1.toInt = fl0.toInt ∧ at1.toInt = (sp_nd f len.toInt.toNat k at0.toInt.toNat value.toInt).1) → 0 ≤ v.toInt ∧ v.toInt ≤ 9999 → (∀ q, q ≠ t → h1 q = h q) → Q (some (.int v)) h1) → ww l D tys A X fr lo mX7_number Q 23 [(3, .int i), (2, .int value), (0, .ref t), (1, .int dig)] [] h := by
  intro k
  induction k using Nat.strongRecOn with
  | ind k ih =>
    intro i value at0 h i0 ik v0 vb H hq
    obtain ⟨c_t, c_b, n_b_t, l1, l2, a1, a2⟩ := H
    refine w_iload_n (List.Mem.head _) (tX7_number_0_ok (23, .iload_n 3, 1) (List.mem_of_getElem? (i := 15) rfl)) ?_
    refine w_iload_n (List.Mem.tail _ (List.Mem.tail _ (List.Mem.tail _ (List.Mem.head _)))) (tX7_number_0_ok (24, .iload_n 1, 1) (List.mem_of_getElem? (i := 16) rfl)) ?_
    refine w_icmp_ge (tgt := 62) (tX7_number_0_ok (25, .if_icmp .ge 37, 3) (List.mem_of_getElem? (i := 17) rfl)) rfl (fun b1 => ?_) (fun b1 => ?_)
    · refine w_aload_n (List.Mem.tail _ (List.Mem.tail _ (List.Mem.head _))) (tX7_number_0_ok (62, .aload_n 0, 1) (List.mem_of_getElem? (i := 37) rfl)) ?_
      refine w_callV (own := 12) (mi := 72) [] [] [(0, .ref t)] rfl (cllw_X7 (36, 0, 72) (List.mem_of_getElem? (i := 1) rfl)) rfl rfl c_t rfl (by omega) (w_lo (n := 21) rfl (by omega)) (Nat.le_of_ble_eq_true rfl) (Nat.le_of_ble_eq_true rfl) rfl (tX7_number_0_ok (63, .invokevirtual 36, 3) (List.mem_of_getElem? (i := 38) rfl)) (s_digit hT ⟨c_t, c_b, n_b_t, l1, l2, by omega, by omega⟩ (fun v2 e3 => ?_))
      show ww l D tys A X fr lo mX7_number Q 66 [(3, .int i), (2, .int value), (0, .ref t), (1, .int dig)] [.int v2] h
      refine w_iconst (by decide) (tX7_number_0_ok (66, .iconst (-1), 1) (List.mem_of_getElem? (i := 39) rfl)) (fun v4 e5 => ?_)
      refine w_icmp_eq (tgt := 74) (tX7_number_0_ok (67, .if_icmp .eq 7, 3) (List.mem_of_getElem? (i := 40) rfl)) rfl (fun b6 => ?_) (fun b6 => ?_)
      · refine w_iload_n (List.Mem.tail _ (List.Mem.head _)) (tX7_number_0_ok (74, .iload_n 2, 1) (List.mem_of_getElem? (i := 43) rfl)) ?_
        refine w_iret rfl (tX7_number_0_ok (75, .ireturn, 1) (List.mem_of_getElem? (i := 44) rfl)) ?_
        have k9 : k = 0 := by omega
        refine hq h at0 fl0 value ⟨c_t, c_b, n_b_t, l1, l2, by omega, by omega⟩ ?_ ?_ (by omega) (fun q hq => rfl)
        · rw [k9, sp_nd]
        · rw [k9, sp_nd]
          dsimp only
          first | exact Or.inl ⟨by omega, by omega⟩ | exact Or.inr ⟨by omega, by omega, by omega⟩
      · refine w_aload_n (List.Mem.tail _ (List.Mem.tail _ (List.Mem.head _))) (tX7_number_0_ok (70, .aload_n 0, 1) (List.mem_of_getElem? (i := 41) rfl)) ?_
        refine w_callV (own := 12) (mi := 80) [] [] [(0, .ref t)] rfl (cllw_X7 (33, 0, 80) (List.mem_of_getElem? (i := 2) rfl)) rfl rfl c_t rfl (by omega) (w_lo (n := 20) rfl (by omega)) (Nat.le_of_ble_eq_true rfl) (Nat.le_of_ble_eq_true rfl) rfl (tX7_number_0_ok (71, .invokevirtual 33, 3) (List.mem_of_getElem? (i := 42) rfl)) (s_wrong hT ⟨c_t, c_b, n_b_t, l1, l2, by omega, by omega⟩ (fun h7 fl8 p9 e10 o11 => ?_))
        obtain ⟨c12, c13, -, -, -, a14, a15⟩ := p9
        show ww l D tys A X fr lo mX7_number Q 74 [(3, .int i), (2, .int value), (0, .ref t), (1, .int dig)] [] h7
        refine w_iload_n (List.Mem.tail _ (List.Mem.head _)) (tX7_number_0_ok (74, .iload_n 2, 1) (List.mem_of_getElem? (i := 43) rfl)) ?_
        refine w_iret rfl (tX7_number_0_ok (75, .ireturn, 1) (List.mem_of_getElem? (i := 44) rfl)) ?_
        have k9 : k = 0 := by omega
        refine hq h7 at0 fl8 value ⟨c12, c13, n_b_t, l1, l2, by omega, by omega⟩ ?_ ?_ (by omega) (fun q hq => o11 q hq)
        · rw [k9, sp_nd]
        · rw [k9, sp_nd]
          dsimp only
          first | exact Or.inl ⟨by omega, by omega⟩ | exact Or.inr ⟨by omega, by omega, by omega⟩
    · refine w_aload_n (List.Mem.tail _ (List.Mem.tail _ (List.Mem.head _))) (tX7_number_0_ok (28, .aload_n 0, 1) (List.mem_of_getElem? (i := 18) rfl)) ?_
      refine w_callV (own := 12) (mi := 72) [] [] [(0, .ref t)] rfl (cllw_X7 (36, 0, 72) (List.mem_of_getElem? (i := 1) rfl)) rfl rfl c_t rfl (by omega) (w_lo (n := 21) rfl (by omega)) (Nat.le_of_ble_eq_true rfl) (Nat.le_of_ble_eq_true rfl) rfl (tX7_number_0_ok (29, .invokevirtual 36, 3) (List.mem_of_getElem? (i := 19) rfl)) (s_digit hT ⟨c_t, c_b, n_b_t, l1, l2, by omega, by omega⟩ (fun v16 e17 => ?_))
      show ww l D tys A X fr lo mX7_number Q 32 [(3, .int i), (2, .int value), (0, .ref t), (1, .int dig)] [.int v16] h
      refine w_iconst (by decide) (tX7_number_0_ok (32, .iconst (-1), 1) (List.mem_of_getElem? (i := 20) rfl)) (fun v18 e19 => ?_)
      refine w_icmp_eq (tgt := 62) (tX7_number_0_ok (33, .if_icmp .eq 29, 3) (List.mem_of_getElem? (i := 21) rfl)) rfl (fun b20 => ?_) (fun b20 => ?_)
      · refine w_aload_n (List.Mem.tail _ (List.Mem.tail _ (List.Mem.head _))) (tX7_number_0_ok (62, .aload_n 0, 1) (List.mem_of_getElem? (i := 37) rfl)) ?_
        refine w_callV (own := 12) (mi := 72) [] [] [(0, .ref t)] rfl (cllw_X7 (36, 0, 72) (List.mem_of_getElem? (i := 1) rfl)) rfl rfl c_t rfl (by omega) (w_lo (n := 21) rfl (by omega)) (Nat.le_of_ble_eq_true rfl) (Nat.le_of_ble_eq_true rfl) rfl (tX7_number_0_ok (63, .invokevirtual 36, 3) (List.mem_of_getElem? (i := 38) rfl)) (s_digit hT ⟨c_t, c_b, n_b_t, l1, l2, by omega, by omega⟩ (fun v21 e22 => ?_))
        show ww l D tys A X fr lo mX7_number Q 66 [(3, .int i), (2, .int value), (0, .ref t), (1, .int dig)] [.int v21] h
        refine w_iconst (by decide) (tX7_number_0_ok (66, .iconst (-1), 1) (List.mem_of_getElem? (i := 39) rfl)) (fun v23 e24 => ?_)
        refine w_icmp_eq (tgt := 74) (tX7_number_0_ok (67, .if_icmp .eq 7, 3) (List.mem_of_getElem? (i := 40) rfl)) rfl (fun b25 => ?_) (fun b25 => ?_)
        · refine w_iload_n (List.Mem.tail _ (List.Mem.head _)) (tX7_number_0_ok (74, .iload_n 2, 1) (List.mem_of_getElem? (i := 43) rfl)) ?_
          refine w_iret rfl (tX7_number_0_ok (75, .ireturn, 1) (List.mem_of_getElem? (i := 44) rfl)) ?_
          have k9 : k = (k - 1) + 1 := by omega
          refine hq h at0 fl0 value ⟨c_t, c_b, n_b_t, l1, l2, by omega, by omega⟩ ?_ ?_ (by omega) (fun q hq => rfl)
          · rw [k9, sp_nd, if_neg (by omega)]
          · rw [k9, sp_nd, if_neg (by omega)]
            dsimp only
            first | exact Or.inl ⟨by omega, by omega⟩ | exact Or.inr ⟨by omega, by omega, by omega⟩
        · refine w_aload_n (List.Mem.tail _ (List.Mem.tail _ (List.Mem.head _))) (tX7_number_0_ok (70, .aload_n 0, 1) (List.mem_of_getElem? (i := 41) rfl)) ?_
          refine w_callV (own := 12) (mi := 80) [] [] [(0, .ref t)] rfl (cllw_X7 (33, 0, 80) (List.mem_of_getElem? (i := 2) rfl)) rfl rfl c_t rfl (by omega) (w_lo (n := 20) rfl (by omega)) (Nat.le_of_ble_eq_true rfl) (Nat.le_of_ble_eq_true rfl) rfl (tX7_number_0_ok (71, .invokevirtual 33, 3) (List.mem_of_getElem? (i := 42) rfl)) (s_wrong hT ⟨c_t, c_b, n_b_t, l1, l2, by omega, by omega⟩ (fun h26 fl27 p28 e29 o30 => ?_))
          obtain ⟨c31, c32, -, -, -, a33, a34⟩ := p28
          show ww l D tys A X fr lo mX7_number Q 74 [(3, .int i), (2, .int value), (0, .ref t), (1, .int dig)] [] h26
          refine w_iload_n (List.Mem.tail _ (List.Mem.head _)) (tX7_number_0_ok (74, .iload_n 2, 1) (List.mem_of_getElem? (i := 43) rfl)) ?_
          refine w_iret rfl (tX7_number_0_ok (75, .ireturn, 1) (List.mem_of_getElem? (i := 44) rfl)) ?_
          have k9 : k = (k - 1) + 1 := by omega
          refine hq h26 at0 fl27 value ⟨c31, c32, n_b_t, l1, l2, by omega, by omega⟩ ?_ ?_ (by omega) (fun q hq => o30 q hq)
          · rw [k9, sp_nd, if_neg (by omega)]
          · rw [k9, sp_nd, if_neg (by omega)]
            dsimp only
            first | exact Or.inl ⟨by omega, by omega⟩ | exact Or.inr ⟨by omega, by omega, by omega⟩
      · refine w_bipush (by decide) (tX7_number_0_ok (36, .bipush 10, 2) (List.mem_of_getElem? (i := 22) rfl)) (fun v35 e36 => ?_)
        refine w_iload_n (List.Mem.tail _ (List.Mem.head _)) (tX7_number_0_ok (38, .iload_n 2, 1) (List.mem_of_getElem? (i := 23) rfl)) ?_
        refine w_imul (by assumption) (by omega) (by omega) (tX7_number_0_ok (39, .imul, 1) (List.mem_of_getElem? (i := 24) rfl)) (fun v37 e38 => ?_)
        refine w_aload_n (List.Mem.tail _ (List.Mem.tail _ (List.Mem.head _))) (tX7_number_0_ok (40, .aload_n 0, 1) (List.mem_of_getElem? (i := 25) rfl)) ?_
        refine w_callV (own := 12) (mi := 72) [] [.int v37] [(0, .ref t)] rfl (cllw_X7 (36, 0, 72) (List.mem_of_getElem? (i := 1) rfl)) rfl rfl c_t rfl (by omega) (w_lo (n := 21) rfl (by omega)) (Nat.le_of_ble_eq_true rfl) (Nat.le_of_ble_eq_true rfl) rfl (tX7_number_0_ok (41, .invokevirtual 36, 3) (List.mem_of_getElem? (i := 26) rfl)) (s_digit hT ⟨c_t, c_b, n_b_t, l1, l2, by omega, by omega⟩ (fun v39 e40 => ?_))
        show ww l D tys A X fr lo mX7_number Q 44 [(3, .int i), (2, .int value), (0, .ref t), (1, .int dig)] [.int v39, .int v37] h
        refine w_iadd (by omega) (by omega) (tX7_number_0_ok (44, .iadd, 1) (List.mem_of_getElem? (i := 27) rfl)) (fun v41 e42 => ?_)
        refine w_istore_n [(2, .int v41), (3, .int i), (0, .ref t), (1, .int dig)] rfl (Nat.le_of_ble_eq_true rfl) (tX7_number_0_ok (45, .istore_n 2, 1) (List.mem_of_getElem? (i := 28) rfl)) ?_
        refine w_aload_n (List.Mem.tail _ (List.Mem.tail _ (List.Mem.head _))) (tX7_number_0_ok (46, .aload_n 0, 1) (List.mem_of_getElem? (i := 29) rfl)) ?_
        refine w_dup rfl (tX7_number_0_ok (47, .dup, 1) (List.mem_of_getElem? (i := 30) rfl)) ?_
        refine w_get (own := 12) rfl rfl (by decide) c_t rfl (tX7_number_0_ok (48, .getfield 22, 3) (List.mem_of_getElem? (i := 31) rfl)) ?_
        refine w_iconst (by decide) (tX7_number_0_ok (51, .iconst 1, 1) (List.mem_of_getElem? (i := 32) rfl)) (fun v43 e44 => ?_)
        refine w_iadd (by omega) (by omega) (tX7_number_0_ok (52, .iadd, 1) (List.mem_of_getElem? (i := 33) rfl)) (fun v45 e46 => ?_)
        refine w_put (own := 12) [.ref b, .int len, .int v45, .int fl0] rfl rfl rfl (by decide) rfl ⟨rfl, rfl⟩ c_t (Nat.le_of_ble_eq_true rfl) (tX7_number_0_ok (53, .putfield 22, 3) (List.mem_of_getElem? (i := 34) rfl)) (fun h47 c48 o49 => ?_)
        have c50 := (o49 b n_b_t).trans c_b
        refine w_iinc (fun v51 => [(3, .int v51), (2, .int v41), (0, .ref t), (1, .int dig)]) (fun _ => rfl) (List.Mem.tail _ (List.Mem.head _)) (Nat.le_of_ble_eq_true rfl) (by decide) (by omega) (by omega) (tX7_number_0_ok (56, .iinc 3 1, 3) (List.mem_of_getElem? (i := 35) rfl)) (fun v51 e52 => ?_)
        refine w_goto (tgt := 23) (tX7_number_0_ok (59, .goto (-36), 3) (List.mem_of_getElem? (i := 36) rfl)) rfl ?_
        have a9 : v45.toInt.toNat = at0.toInt.toNat + 1 := by omega
        have k9 : k = (k - 1) + 1 := by omega
        refine ih (k - 1) (by omega) v51 v41 v45 h47 (by omega) (by omega) (by omega) (by omega) ⟨c48, c50, n_b_t, l1, l2, by omega, by omega⟩ (fun h1 at1 fl1 v p1 p2 p3 p4 p5 => ?_)
        rw [a9] at p2 p3
        refine hq h1 at1 fl1 v p1 ?_ ?_ p4 (fun q hq => (p5 q hq).trans ((fun q hq => o49 q hq) q hq))
        · rw [k9, sp_nd, if_pos (by omega)]
          have z9 : v41.toInt = 10 * value.toInt + ((f at0.toInt.toNat).toInt - 48) := by omega
          rw [← z9]
          exact p2
        · rw [k9, sp_nd, if_pos (by omega)]
          have z9 : v41.toInt = 10 * value.toInt + ((f at0.toInt.toNat).toInt - 48) := by omega
          rw [← z9]
          exact p3
theorem s_number (hT : k_tys tys cA) {dig : Int32} (hr : 1 ≤ fr ∧ 21 ≤ lo) (hd : 0 ≤ dig.toInt ∧ dig.toInt ≤ 4) (hf0 : fl0.toInt = -1) (H : tp cA h t b f len at0 fl0) (hq : ∀ (h1 : ch_H) (at1 fl1 v : Int32), tp cA h1 t b f len at1 fl1 → v.toInt = (sp_num f len.toInt.toNat dig.toInt.toNat at0.toInt.toNat).2 → sp_is (sp_num f len.toInt.toNat dig.toInt.toNat at0.toInt.toNat).1 at1 fl1 → 0 ≤ v.toInt ∧ v.toInt ≤ 9999 → (∀ q, q ≠ t → h1 q = h q) → Q (some (.int v)) h1) : ww l D tys A X fr lo mX7_number Q 0 [(0, .ref t), (1, .int dig)] [] h := by
  obtain ⟨c_t, c_b, n_b_t, l1, l2, a1, a2⟩ := H
  refine w_iconst (by decide) (tX7_number_0_ok (0, .iconst 0, 1) (List.mem_of_getElem? (i := 0) rfl)) (fun v1 e2 => ?_)
  refine w_istore_n [(2, .int v1), (0, .ref t), (1, .int dig)] rfl (Nat.le_of_ble_eq_true rfl) (tX7_number_0_ok (1, .istore_n 2, 1) (List.mem_of_getElem? (i := 1) rfl)) ?_
  refine w_aload_n (List.Mem.tail _ (List.Mem.head _)) (tX7_number_0_ok (2, .aload_n 0, 1) (List.mem_of_getElem? (i := 2) rfl)) ?_
  refine w_callV (own := 12) (mi := 77) [] [] [(0, .ref t)] rfl (cllw_X7 (29, 0, 77) (List.mem_of_getElem? (i := 0) rfl)) rfl rfl c_t rfl (by omega) (w_lo (n := 20) rfl (by omega)) (Nat.le_of_ble_eq_true rfl) (Nat.le_of_ble_eq_true rfl) rfl (tX7_number_0_ok (3, .invokevirtual 29, 3) (List.mem_of_getElem? (i := 3) rfl)) (s_sign hT ⟨c_t, c_b, n_b_t, l1, l2, by omega, by omega⟩ (fun h3 at4 v5 p6 e7 e8 o9 => ?_))
  obtain ⟨c10, c11, -, -, -, a12, a13⟩ := p6
  show ww l D tys A X fr lo mX7_number Q 6 [(2, .int v1), (0, .ref t), (1, .int dig)] [.int v5] h3
  rw [e7] at e8
  have g14 := sp_sg_or f len.toInt.toNat (sp_sk f len.toInt.toNat at0.toInt.toNat)
  refine w_pop rfl (tX7_number_0_ok (6, .pop, 1) (List.mem_of_getElem? (i := 4) rfl)) ?_
  refine w_aload_n (List.Mem.tail _ (List.Mem.head _)) (tX7_number_0_ok (7, .aload_n 0, 1) (List.mem_of_getElem? (i := 5) rfl)) ?_
  refine w_callV (own := 12) (mi := 72) [] [] [(0, .ref t)] rfl (cllw_X7 (36, 0, 72) (List.mem_of_getElem? (i := 1) rfl)) rfl rfl c10 rfl (by omega) (w_lo (n := 21) rfl (by omega)) (Nat.le_of_ble_eq_true rfl) (Nat.le_of_ble_eq_true rfl) rfl (tX7_number_0_ok (8, .invokevirtual 36, 3) (List.mem_of_getElem? (i := 6) rfl)) (s_digit hT ⟨c10, c11, n_b_t, l1, l2, by omega, by omega⟩ (fun v15 e16 => ?_))
  show ww l D tys A X fr lo mX7_number Q 11 [(2, .int v1), (0, .ref t), (1, .int dig)] [.int v15] h3
  have ea9 : at4.toInt.toNat = sp_sk f len.toInt.toNat at0.toInt.toNat := e7
  rw [ea9] at e16
  refine w_iconst (by decide) (tX7_number_0_ok (11, .iconst (-1), 1) (List.mem_of_getElem? (i := 7) rfl)) (fun v17 e18 => ?_)
  refine w_icmp_ne (tgt := 21) (tX7_number_0_ok (12, .if_icmp .ne 9, 3) (List.mem_of_getElem? (i := 8) rfl)) rfl (fun b19 => ?_) (fun b19 => ?_)
  · refine w_iconst (by decide) (tX7_number_0_ok (21, .iconst 0, 1) (List.mem_of_getElem? (i := 13) rfl)) (fun v20 e21 => ?_)
    refine w_istore_n [(3, .int v20), (2, .int v1), (0, .ref t), (1, .int dig)] rfl (Nat.le_of_ble_eq_true rfl) (tX7_number_0_ok (22, .istore_n 3, 1) (List.mem_of_getElem? (i := 14) rfl)) ?_
    have hd9 : sp_isd f len.toInt.toNat (sp_sk f len.toInt.toNat at0.toInt.toNat) := by omega
    have ez9 : v1.toInt = 0 := by omega
    refine s_numL hT hr (by omega) dig.toInt.toNat v20 v1 at4 h3 (by omega) (by omega) (by omega) (by omega) ⟨c10, c11, n_b_t, l1, l2, by omega, by omega⟩ (fun h1 at1 fl1 v p1 p2 p3 p4 p5 => ?_)
    rw [ea9, ez9] at p2 p3
    refine hq h1 at1 fl1 v p1 ?_ ?_ p4 (fun q hq => (p5 q hq).trans ((fun q hq => o9 q hq) q hq))
    · unfold sp_num
      rw [if_pos hd9]
      split <;> exact p2
    · unfold sp_num
      rw [if_pos hd9]
      split
      · simp only [sp_is]; omega
      · simp only [sp_is]; omega
  · refine w_aload_n (List.Mem.tail _ (List.Mem.head _)) (tX7_number_0_ok (15, .aload_n 0, 1) (List.mem_of_getElem? (i := 9) rfl)) ?_
    refine w_callV (own := 12) (mi := 80) [] [] [(0, .ref t)] rfl (cllw_X7 (33, 0, 80) (List.mem_of_getElem? (i := 2) rfl)) rfl rfl c10 rfl (by omega) (w_lo (n := 20) rfl (by omega)) (Nat.le_of_ble_eq_true rfl) (Nat.le_of_ble_eq_true rfl) rfl (tX7_number_0_ok (16, .invokevirtual 33, 3) (List.mem_of_getElem? (i := 10) rfl)) (s_wrong hT ⟨c10, c11, n_b_t, l1, l2, by omega, by omega⟩ (fun h22 fl23 p24 e25 o26 => ?_))
    obtain ⟨c27, c28, -, -, -, a29, a30⟩ := p24
    show ww l D tys A X fr lo mX7_number Q 19 [(2, .int v1), (0, .ref t), (1, .int dig)] [] h22
    refine w_iconst (by decide) (tX7_number_0_ok (19, .iconst 0, 1) (List.mem_of_getElem? (i := 11) rfl)) (fun v31 e32 => ?_)
    refine w_iret rfl (tX7_number_0_ok (20, .ireturn, 1) (List.mem_of_getElem? (i := 12) rfl)) ?_
    have hd9 : ¬ sp_isd f len.toInt.toNat (sp_sk f len.toInt.toNat at0.toInt.toNat) := by omega
    refine hq h22 at4 fl23 v31 ⟨c27, c28, n_b_t, l1, l2, by omega, by omega⟩ ?_ ?_ (by omega) (fun q hq => (o26 q hq).trans (o9 q hq))
    · unfold sp_num
      rw [if_neg hd9]
      exact (by omega)
    · unfold sp_num
      rw [if_neg hd9]
      simp only [sp_is]; omega
end
