/-! the class's TAPE: signs, digits, numbers -/
def sp_sk (f : Nat → Int32) (len n : Nat) : Nat := if n < len ∧ (f n).toInt = 32 then sp_sk f len (n + 1) else n
termination_by len - n
def sp_sg (f : Nat → Int32) (len n : Nat) : Int := if n < len then (f n).toInt else 0
theorem sp_sk_y {f : Nat → Int32} {len n : Nat} (h1 : n < len) (h2 : (f n).toInt = 32) : sp_sk f len n = sp_sk f len (n + 1) := by rw [sp_sk, if_pos ⟨h1, h2⟩]
theorem sp_sk_n {f : Nat → Int32} {len n : Nat} (h1 : n < len → ¬ (f n).toInt = 32) : sp_sk f len n = n := by rw [sp_sk, if_neg (fun q => h1 q.1 q.2)]
section
variable {l : Launch} {D : va_G} {tys : List (ClassId × FieldType)} {A : Nat → Prop} {X : State → Prop} {fr lo : Nat} {Q : Option Value → ch_H → Prop} {cA : Nat → ClassId}
theorem sp_sign (hT : k_tys tys cA) {t b : Nat} {f : Nat → Int32} {len fl0 : Int32} (n_b_t : b ≠ t) (hl : 0 ≤ len.toInt ∧ len.toInt ≤ 160) : ∀ (k : Nat) (at0 : Int32) (h : ch_H), 0 ≤ at0.toInt → len.toInt - at0.toInt ≤ k → h t = some (.inr (7, [.ref b, .int len, .int at0, .int fl0])) → h b = some (.inl (cA 0, 160, .inl f)) →
    (∀ (h1 : ch_H) (at1 v : Int32), at1.toInt.toNat = sp_sk f len.toInt.toNat at0.toInt.toNat → 0 ≤ at1.toInt → v.toInt = sp_sg f len.toInt.toNat at1.toInt.toNat → h1 t = some (.inr (7, [.ref b, .int len, .int at1, .int fl0])) → (∀ q, q ≠ t → h1 q = h q) → Q (some (.int v)) h1) → ww l D tys A X fr lo mX7_sign Q 0 [(0, .ref t)] [] h := by
  intro k
  induction k using Nat.strongRecOn with
  | ind k ih =>
    intro at0 h ha hk c_t c_b hq
    refine w_aload_n (List.Mem.head _) (tX7_sign_0_ok (0, .aload_n 0, 1) (List.mem_of_getElem? (i := 0) rfl)) ?_
    refine w_get (own := 12) rfl rfl (by decide) c_t rfl (tX7_sign_0_ok (1, .getfield 22, 3) (List.mem_of_getElem? (i := 1) rfl)) ?_
    refine w_if_lt (tgt := 45) (tX7_sign_0_ok (4, .ifCond .lt 41, 3) (List.mem_of_getElem? (i := 2) rfl)) rfl (fun b1 => ?_) (fun b1 => ?_)
    · exfalso; omega
    · refine w_aload_n (List.Mem.head _) (tX7_sign_0_ok (7, .aload_n 0, 1) (List.mem_of_getElem? (i := 3) rfl)) ?_
      refine w_get (own := 12) rfl rfl (by decide) c_t rfl (tX7_sign_0_ok (8, .getfield 22, 3) (List.mem_of_getElem? (i := 4) rfl)) ?_
      refine w_aload_n (List.Mem.head _) (tX7_sign_0_ok (11, .aload_n 0, 1) (List.mem_of_getElem? (i := 5) rfl)) ?_
      refine w_get (own := 12) rfl rfl (by decide) c_t rfl (tX7_sign_0_ok (12, .getfield 19, 3) (List.mem_of_getElem? (i := 6) rfl)) ?_
      refine w_icmp_ge (tgt := 45) (tX7_sign_0_ok (15, .if_icmp .ge 30, 3) (List.mem_of_getElem? (i := 7) rfl)) rfl (fun b2 => ?_) (fun b2 => ?_)
      · refine w_aload_n (List.Mem.head _) (tX7_sign_0_ok (45, .aload_n 0, 1) (List.mem_of_getElem? (i := 22) rfl)) ?_
        refine w_get (own := 12) rfl rfl (by decide) c_t rfl (tX7_sign_0_ok (46, .getfield 22, 3) (List.mem_of_getElem? (i := 23) rfl)) ?_
        refine w_if_lt (tgt := 75) (tX7_sign_0_ok (49, .ifCond .lt 26, 3) (List.mem_of_getElem? (i := 24) rfl)) rfl (fun b3 => ?_) (fun b3 => ?_)
        · exfalso; omega
        · refine w_aload_n (List.Mem.head _) (tX7_sign_0_ok (52, .aload_n 0, 1) (List.mem_of_getElem? (i := 25) rfl)) ?_
          refine w_get (own := 12) rfl rfl (by decide) c_t rfl (tX7_sign_0_ok (53, .getfield 22, 3) (List.mem_of_getElem? (i := 26) rfl)) ?_
          refine w_aload_n (List.Mem.head _) (tX7_sign_0_ok (56, .aload_n 0, 1) (List.mem_of_getElem? (i := 27) rfl)) ?_
          refine w_get (own := 12) rfl rfl (by decide) c_t rfl (tX7_sign_0_ok (57, .getfield 19, 3) (List.mem_of_getElem? (i := 28) rfl)) ?_
          refine w_icmp_ge (tgt := 75) (tX7_sign_0_ok (60, .if_icmp .ge 15, 3) (List.mem_of_getElem? (i := 29) rfl)) rfl (fun b4 => ?_) (fun b4 => ?_)
          · refine w_iconst (by decide) (tX7_sign_0_ok (75, .iconst 0, 1) (List.mem_of_getElem? (i := 36) rfl)) (fun v5 e6 => ?_)
            refine w_iret rfl (tX7_sign_0_ok (76, .ireturn, 1) (List.mem_of_getElem? (i := 37) rfl)) ?_
            refine hq h at0 v5 (sp_sk_n (fun a2 => by omega)).symm (by omega) ?_ c_t (fun q hq => rfl)
            unfold sp_sg
            split <;> omega
          · refine w_aload_n (List.Mem.head _) (tX7_sign_0_ok (63, .aload_n 0, 1) (List.mem_of_getElem? (i := 30) rfl)) ?_
            refine w_get (own := 12) rfl rfl (by decide) c_t rfl (tX7_sign_0_ok (64, .getfield 9, 3) (List.mem_of_getElem? (i := 31) rfl)) ?_
            refine w_aload_n (List.Mem.head _) (tX7_sign_0_ok (67, .aload_n 0, 1) (List.mem_of_getElem? (i := 32) rfl)) ?_
            refine w_get (own := 12) rfl rfl (by decide) c_t rfl (tX7_sign_0_ok (68, .getfield 22, 3) (List.mem_of_getElem? (i := 33) rfl)) ?_
            refine w_iald hT c_b (by omega) (by omega) (tX7_sign_0_ok (71, .iaload, 1) (List.mem_of_getElem? (i := 34) rfl)) (fun v7 e8 => ?_)
            refine w_goto (tgt := 76) (tX7_sign_0_ok (72, .goto 4, 3) (List.mem_of_getElem? (i := 35) rfl)) rfl ?_
            refine w_iret rfl (tX7_sign_0_ok (76, .ireturn, 1) (List.mem_of_getElem? (i := 37) rfl)) ?_
            refine hq h at0 v7 (sp_sk_n (fun a2 => by omega)).symm (by omega) ?_ c_t (fun q hq => rfl)
            unfold sp_sg
            split <;> omega
      · refine w_aload_n (List.Mem.head _) (tX7_sign_0_ok (18, .aload_n 0, 1) (List.mem_of_getElem? (i := 8) rfl)) ?_
        refine w_get (own := 12) rfl rfl (by decide) c_t rfl (tX7_sign_0_ok (19, .getfield 9, 3) (List.mem_of_getElem? (i := 9) rfl)) ?_
        refine w_aload_n (List.Mem.head _) (tX7_sign_0_ok (22, .aload_n 0, 1) (List.mem_of_getElem? (i := 10) rfl)) ?_
        refine w_get (own := 12) rfl rfl (by decide) c_t rfl (tX7_sign_0_ok (23, .getfield 22, 3) (List.mem_of_getElem? (i := 11) rfl)) ?_
        refine w_iald hT c_b (by omega) (by omega) (tX7_sign_0_ok (26, .iaload, 1) (List.mem_of_getElem? (i := 12) rfl)) (fun v9 e10 => ?_)
        refine w_bipush (by decide) (tX7_sign_0_ok (27, .bipush 32, 2) (List.mem_of_getElem? (i := 13) rfl)) (fun v11 e12 => ?_)
        refine w_icmp_ne (tgt := 45) (tX7_sign_0_ok (29, .if_icmp .ne 16, 3) (List.mem_of_getElem? (i := 14) rfl)) rfl (fun b13 => ?_) (fun b13 => ?_)
        · refine w_aload_n (List.Mem.head _) (tX7_sign_0_ok (45, .aload_n 0, 1) (List.mem_of_getElem? (i := 22) rfl)) ?_
          refine w_get (own := 12) rfl rfl (by decide) c_t rfl (tX7_sign_0_ok (46, .getfield 22, 3) (List.mem_of_getElem? (i := 23) rfl)) ?_
          refine w_if_lt (tgt := 75) (tX7_sign_0_ok (49, .ifCond .lt 26, 3) (List.mem_of_getElem? (i := 24) rfl)) rfl (fun b14 => ?_) (fun b14 => ?_)
          · exfalso; omega
          · refine w_aload_n (List.Mem.head _) (tX7_sign_0_ok (52, .aload_n 0, 1) (List.mem_of_getElem? (i := 25) rfl)) ?_
            refine w_get (own := 12) rfl rfl (by decide) c_t rfl (tX7_sign_0_ok (53, .getfield 22, 3) (List.mem_of_getElem? (i := 26) rfl)) ?_
            refine w_aload_n (List.Mem.head _) (tX7_sign_0_ok (56, .aload_n 0, 1) (List.mem_of_getElem? (i := 27) rfl)) ?_
            refine w_get (own := 12) rfl rfl (by decide) c_t rfl (tX7_sign_0_ok (57, .getfield 19, 3) (List.mem_of_getElem? (i := 28) rfl)) ?_
            refine w_icmp_ge (tgt := 75) (tX7_sign_0_ok (60, .if_icmp .ge 15, 3) (List.mem_of_getElem? (i := 29) rfl)) rfl (fun b15 => ?_) (fun b15 => ?_)
            · refine w_iconst (by decide) (tX7_sign_0_ok (75, .iconst 0, 1) (List.mem_of_getElem? (i := 36) rfl)) (fun v16 e17 => ?_)
              refine w_iret rfl (tX7_sign_0_ok (76, .ireturn, 1) (List.mem_of_getElem? (i := 37) rfl)) ?_
              refine hq h at0 v16 (sp_sk_n (fun a2 => by omega)).symm (by omega) ?_ c_t (fun q hq => rfl)
              unfold sp_sg
              split <;> omega
            · refine w_aload_n (List.Mem.head _) (tX7_sign_0_ok (63, .aload_n 0, 1) (List.mem_of_getElem? (i := 30) rfl)) ?_
              refine w_get (own := 12) rfl rfl (by decide) c_t rfl (tX7_sign_0_ok (64, .getfield 9, 3) (List.mem_of_getElem? (i := 31) rfl)) ?_
              refine w_aload_n (List.Mem.head _) (tX7_sign_0_ok (67, .aload_n 0, 1) (List.mem_of_getElem? (i := 32) rfl)) ?_
              refine w_get (own := 12) rfl rfl (by decide) c_t rfl (tX7_sign_0_ok (68, .getfield 22, 3) (List.mem_of_getElem? (i := 33) rfl)) ?_
              refine w_iald hT c_b (by omega) (by omega) (tX7_sign_0_ok (71, .iaload, 1) (List.mem_of_getElem? (i := 34) rfl)) (fun v18 e19 => ?_)
              refine w_goto (tgt := 76) (tX7_sign_0_ok (72, .goto 4, 3) (List.mem_of_getElem? (i := 35) rfl)) rfl ?_
              refine w_iret rfl (tX7_sign_0_ok (76, .ireturn, 1) (List.mem_of_getElem? (i := 37) rfl)) ?_
              refine hq h at0 v18 (sp_sk_n (fun a2 => by omega)).symm (by omega) ?_ c_t (fun q hq => rfl)
              unfold sp_sg
              split <;> omega
        · refine w_aload_n (List.Mem.head _) (tX7_sign_0_ok (32, .aload_n 0, 1) (List.mem_of_getElem? (i := 15) rfl)) ?_
          refine w_dup rfl (tX7_sign_0_ok (33, .dup, 1) (List.mem_of_getElem? (i := 16) rfl)) ?_
          refine w_get (own := 12) rfl rfl (by decide) c_t rfl (tX7_sign_0_ok (34, .getfield 22, 3) (List.mem_of_getElem? (i := 17) rfl)) ?_
          refine w_iconst (by decide) (tX7_sign_0_ok (37, .iconst 1, 1) (List.mem_of_getElem? (i := 18) rfl)) (fun v20 e21 => ?_)
          refine w_iadd (by omega) (by omega) (tX7_sign_0_ok (38, .iadd, 1) (List.mem_of_getElem? (i := 19) rfl)) (fun v22 e23 => ?_)
          refine w_put (own := 12) [.ref b, .int len, .int v22, .int fl0] rfl rfl rfl (by decide) rfl ⟨rfl, rfl⟩ c_t (Nat.le_of_ble_eq_true rfl) (tX7_sign_0_ok (39, .putfield 22, 3) (List.mem_of_getElem? (i := 20) rfl)) (fun h24 c25 o26 => ?_)
          have c27 := (o26 b n_b_t).trans c_b
          refine w_goto (tgt := 0) (tX7_sign_0_ok (42, .goto (-42), 3) (List.mem_of_getElem? (i := 21) rfl)) rfl ?_
          have a1 : v22.toInt.toNat = at0.toInt.toNat + 1 := by omega
          refine ih (k - 1) (by omega) v22 h24 (by omega) (by omega) c25 c27 (fun h1 at1 v p1 p2 p3 p4 p5 => hq h1 at1 v ?_ p2 p3 p4 (fun q hq => (p5 q hq).trans ((fun q hq => o26 q hq) q hq)))
          rw [p1, a1]
          exact (sp_sk_y (by omega) (by omega)).symm
end
