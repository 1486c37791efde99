/-! the class's RULES: reading them -/
def ns (t b r k : Nat) : Prop := b ≠ t ∧ r ≠ t ∧ k ≠ t ∧ r ≠ b ∧ k ≠ b ∧ r ≠ k
/-- a RULE's rows: its code within its bounds -/
def ru (cA : Nat → ClassId) (h : ch_H) (r k s : Nat) : Prop := ∃ (g : Nat → Int32) (sz : Int32), h r = some (.inr (5, [.ref k, .int sz, .ref s])) ∧ h k = some (.inl (cA 0, 192, .inl g)) ∧ 0 ≤ sz.toInt ∧ sz.toInt ≤ 192 ∧ ∀ i, i < 192 → -100 ≤ (g i).toInt ∧ (g i).toInt ≤ 20000
theorem ru_upd {g : Nat → Int32} {j : Nat} {x : Int32} (hg : ∀ i, i < 192 → -100 ≤ (g i).toInt ∧ (g i).toInt ≤ 20000) (hx : -100 ≤ x.toInt ∧ x.toInt ≤ 20000) : ∀ i, i < 192 → -100 ≤ (upd g j x i).toInt ∧ (upd g j x i).toInt ≤ 20000 := by
  intro i hi
  unfold upd
  split
  · exact hx
  · exact hg i hi
/-- how a piece of a text goes on from the TAPE's state -/
def sp_go (g : Nat → Nat ⊕ Nat) (at0 fl0 at1 fl1 : Int32) : Prop := ¬ fl0.toInt = -1 ∧ fl1.toInt = fl0.toInt ∨ fl0.toInt = -1 ∧ sp_is (g at0.toInt.toNat) at1 fl1
theorem sp_go.bd {g1 g2 : Nat → Nat ⊕ Nat} {a0 f0 a1 f1 a2 f2 : Int32} (p : sp_go g1 a0 f0 a1 f1) (q : sp_go g2 a1 f1 a2 f2) : sp_go (fun n => sp_bd (g1 n) g2) a0 f0 a2 f2 := by
  rcases p with ⟨p1, p2⟩ | ⟨p1, p2⟩
  · rcases q with ⟨q1, q2⟩ | ⟨q1, q2⟩
    · exact Or.inl ⟨p1, by omega⟩
    · omega
  · refine Or.inr ⟨p1, ?_⟩
    show sp_is (sp_bd (g1 a0.toInt.toNat) g2) a2 f2
    cases hg : g1 a0.toInt.toNat with
    | inl e =>
      rw [hg] at p2
      have p2 : f1.toInt = e := p2
      rcases q with ⟨q1, q2⟩ | ⟨q1, q2⟩
      · show f2.toInt = e
        omega
      · omega
    | inr n =>
      rw [hg] at p2
      have p2 : f1.toInt = -1 ∧ a1.toInt = n := p2
      rcases q with ⟨q1, q2⟩ | ⟨q1, q2⟩
      · omega
      · have : a1.toInt.toNat = n := by omega
        rw [this] at q2
        exact q2
abbrev sp_let (c : Int) : Prop := c = 112 ∨ c = 120 ∨ c = 108 ∨ c = 104 ∨ c = 100 ∨ c = 116 ∨ c = 105
abbrev sp_cmp (c : Int) : Prop := c = 61 ∨ c = 60 ∨ c = 62
section
variable {l : Launch} {D : va_G} {tys : List (ClassId × FieldType)} {A : Nat → Prop} {X : State → Prop} {fr lo : Nat} {Q : Option Value → ch_H → Prop} {cA : Nat → ClassId} {h : ch_H} {t b r k s : Nat} {f : Nat → Int32} {len at0 fl0 : Int32}
theorem s_emit (hT : k_tys tys cA) {one : Int32} (n_r_k : r ≠ k) (R : ru cA h r k s) (h1 : -100 ≤ one.toInt ∧ one.toInt ≤ 20000) (hq : ∀ h1 : ch_H, ru cA h1 r k s → (∀ q, q ≠ r ∧ q ≠ k → h1 q = h q) → Q none h1) : ww l D tys A X fr lo mX5_emit Q 0 [(0, .ref r), (1, .int one)] [] h := by
  obtain ⟨g, sz, c_r, c_k, z1, z2, gb⟩ := R
  have n_k_r := n_r_k.symm
  refine w_aload_n (List.Mem.head _) (tX5_emit_0_ok (0, .aload_n 0, 1) (List.mem_of_getElem? (i := 0) rfl)) ?_
  refine w_get (own := 10) rfl rfl (by decide) c_r rfl (tX5_emit_0_ok (1, .getfield 18, 3) (List.mem_of_getElem? (i := 1) rfl)) ?_
  refine w_sipush (by decide) (tX5_emit_0_ok (4, .sipush 192, 3) (List.mem_of_getElem? (i := 2) rfl)) (fun v1 e2 => ?_)
  refine w_icmp_ge (tgt := 30) (tX5_emit_0_ok (7, .if_icmp .ge 23, 3) (List.mem_of_getElem? (i := 3) rfl)) rfl (fun b3 => ?_) (fun b3 => ?_)
  · refine w_vret rfl (tX5_emit_0_ok (30, .return_, 1) (List.mem_of_getElem? (i := 16) rfl)) ?_
    exact hq h ⟨g, sz, c_r, c_k, by omega, by omega, gb⟩ (fun q hq => rfl)
  · refine w_aload_n (List.Mem.head _) (tX5_emit_0_ok (10, .aload_n 0, 1) (List.mem_of_getElem? (i := 4) rfl)) ?_
    refine w_get (own := 10) rfl rfl (by decide) c_r rfl (tX5_emit_0_ok (11, .getfield 11, 3) (List.mem_of_getElem? (i := 5) rfl)) ?_
    refine w_aload_n (List.Mem.head _) (tX5_emit_0_ok (14, .aload_n 0, 1) (List.mem_of_getElem? (i := 6) rfl)) ?_
    refine w_get (own := 10) rfl rfl (by decide) c_r rfl (tX5_emit_0_ok (15, .getfield 18, 3) (List.mem_of_getElem? (i := 7) rfl)) ?_
    refine w_iload_n (List.Mem.tail _ (List.Mem.head _)) (tX5_emit_0_ok (18, .iload_n 1, 1) (List.mem_of_getElem? (i := 8) rfl)) ?_
    refine w_iast hT c_k (by omega) (by omega) (tX5_emit_0_ok (19, .iastore, 1) (List.mem_of_getElem? (i := 9) rfl)) (fun h4 c5 o6 => ?_)
    have c7 := (o6 r n_r_k).trans c_r
    refine w_aload_n (List.Mem.head _) (tX5_emit_0_ok (20, .aload_n 0, 1) (List.mem_of_getElem? (i := 10) rfl)) ?_
    refine w_dup rfl (tX5_emit_0_ok (21, .dup, 1) (List.mem_of_getElem? (i := 11) rfl)) ?_
    refine w_get (own := 10) rfl rfl (by decide) c7 rfl (tX5_emit_0_ok (22, .getfield 18, 3) (List.mem_of_getElem? (i := 12) rfl)) ?_
    refine w_iconst (by decide) (tX5_emit_0_ok (25, .iconst 1, 1) (List.mem_of_getElem? (i := 13) rfl)) (fun v8 e9 => ?_)
    refine w_iadd (by omega) (by omega) (tX5_emit_0_ok (26, .iadd, 1) (List.mem_of_getElem? (i := 14) rfl)) (fun v10 e11 => ?_)
    refine w_put (own := 10) [.ref k, .int v10, .ref s] rfl rfl rfl (by decide) rfl ⟨rfl, rfl⟩ c7 (Nat.le_of_ble_eq_true rfl) (tX5_emit_0_ok (27, .putfield 18, 3) (List.mem_of_getElem? (i := 15) rfl)) (fun h12 c13 o14 => ?_)
    have c15 := (o14 k n_k_r).trans c5
    refine w_vret rfl (tX5_emit_0_ok (30, .return_, 1) (List.mem_of_getElem? (i := 16) rfl)) ?_
    exact hq h12 ⟨(upd g sz.toInt.toNat one), v10, c13, c15, by omega, by omega, ru_upd gb h1⟩ (fun q hq => (o14 q hq.1).trans (o6 q hq.2))
theorem s_isCompare {c : Int32} (hq : ∀ v : Int32, (sp_cmp c.toInt ∧ v.toInt = 1 ∨ ¬ sp_cmp c.toInt ∧ v.toInt = 0) → Q (some (.int v)) h) : ww l D tys A X fr lo mX5_isCompare Q 0 [(0, .int c)] [] h := by
  refine w_iload_n (List.Mem.head _) (tX5_isCompare_0_ok (0, .iload_n 0, 1) (List.mem_of_getElem? (i := 0) rfl)) ?_
  refine w_bipush (by decide) (tX5_isCompare_0_ok (1, .bipush 61, 2) (List.mem_of_getElem? (i := 1) rfl)) (fun v1 e2 => ?_)
  refine w_icmp_eq (tgt := 18) (tX5_isCompare_0_ok (3, .if_icmp .eq 15, 3) (List.mem_of_getElem? (i := 2) rfl)) rfl (fun b3 => ?_) (fun b3 => ?_)
  · refine w_iconst (by decide) (tX5_isCompare_0_ok (18, .iconst 1, 1) (List.mem_of_getElem? (i := 9) rfl)) (fun v4 e5 => ?_)
    refine w_goto (tgt := 23) (tX5_isCompare_0_ok (19, .goto 4, 3) (List.mem_of_getElem? (i := 10) rfl)) rfl ?_
    refine w_zret rfl (by omega) (by omega) (tX5_isCompare_0_ok (23, .ireturn, 1) (List.mem_of_getElem? (i := 12) rfl)) ?_
    exact hq v4 (by omega)
  · refine w_iload_n (List.Mem.head _) (tX5_isCompare_0_ok (6, .iload_n 0, 1) (List.mem_of_getElem? (i := 3) rfl)) ?_
    refine w_bipush (by decide) (tX5_isCompare_0_ok (7, .bipush 60, 2) (List.mem_of_getElem? (i := 4) rfl)) (fun v6 e7 => ?_)
    refine w_icmp_eq (tgt := 18) (tX5_isCompare_0_ok (9, .if_icmp .eq 9, 3) (List.mem_of_getElem? (i := 5) rfl)) rfl (fun b8 => ?_) (fun b8 => ?_)
    · refine w_iconst (by decide) (tX5_isCompare_0_ok (18, .iconst 1, 1) (List.mem_of_getElem? (i := 9) rfl)) (fun v9 e10 => ?_)
      refine w_goto (tgt := 23) (tX5_isCompare_0_ok (19, .goto 4, 3) (List.mem_of_getElem? (i := 10) rfl)) rfl ?_
      refine w_zret rfl (by omega) (by omega) (tX5_isCompare_0_ok (23, .ireturn, 1) (List.mem_of_getElem? (i := 12) rfl)) ?_
      exact hq v9 (by omega)
    · refine w_iload_n (List.Mem.head _) (tX5_isCompare_0_ok (12, .iload_n 0, 1) (List.mem_of_getElem? (i := 6) rfl)) ?_
      refine w_bipush (by decide) (tX5_isCompare_0_ok (13, .bipush 62, 2) (List.mem_of_getElem? (i := 7) rfl)) (fun v11 e12 => ?_)
      refine w_icmp_ne (tgt := 22) (tX5_isCompare_0_ok (15, .if_icmp .ne 7, 3) (List.mem_of_getElem? (i := 8) rfl)) rfl (fun b13 => ?_) (fun b13 => ?_)
      · refine w_iconst (by decide) (tX5_isCompare_0_ok (22, .iconst 0, 1) (List.mem_of_getElem? (i := 11) rfl)) (fun v14 e15 => ?_)
        refine w_zret rfl (by omega) (by omega) (tX5_isCompare_0_ok (23, .ireturn, 1) (List.mem_of_getElem? (i := 12) rfl)) ?_
        exact hq v14 (by omega)
      · refine w_iconst (by decide) (tX5_isCompare_0_ok (18, .iconst 1, 1) (List.mem_of_getElem? (i := 9) rfl)) (fun v16 e17 => ?_)
        refine w_goto (tgt := 23) (tX5_isCompare_0_ok (19, .goto 4, 3) (List.mem_of_getElem? (i := 10) rfl)) rfl ?_
        refine w_zret rfl (by omega) (by omega) (tX5_isCompare_0_ok (23, .ireturn, 1) (List.mem_of_getElem? (i := 12) rfl)) ?_
        exact hq v16 (by omega)
theorem s_letterOf {c : Int32} (hq : ∀ v : Int32, (sp_let c.toInt ∧ 0 ≤ v.toInt ∧ v.toInt ≤ 6 ∨ ¬ sp_let c.toInt ∧ v.toInt = -1) → Q (some (.int v)) h) : ww l D tys A X fr lo mX5_letterOf Q 0 [(0, .int c)] [] h := by
  refine w_iload_n (List.Mem.head _) (tX5_letterOf_0_ok (0, .iload_n 0, 1) (List.mem_of_getElem? (i := 0) rfl)) ?_
  have b1 : (c.toInt < 100 ∨ 120 < c.toInt) ∨ c.toInt = 100 ∨ c.toInt = 101 ∨ c.toInt = 102 ∨ c.toInt = 103 ∨ c.toInt = 104 ∨ c.toInt = 105 ∨ c.toInt = 106 ∨ c.toInt = 107 ∨ c.toInt = 108 ∨ c.toInt = 109 ∨ c.toInt = 110 ∨ c.toInt = 111 ∨ c.toInt = 112 ∨ c.toInt = 113 ∨ c.toInt = 114 ∨ c.toInt = 115 ∨ c.toInt = 116 ∨ c.toInt = 117 ∨ c.toInt = 118 ∨ c.toInt = 119 ∨ c.toInt = 120 := by omega
  rcases b1 with b1 | b1 | b1 | b1 | b1 | b1 | b1 | b1 | b1 | b1 | b1 | b1 | b1 | b1 | b1 | b1 | b1 | b1 | b1 | b1 | b1 | b1
  · refine w_tabOut (tgt := 115) (tX5_letterOf_0_ok (1, .tableswitch 114 100 120 #[107, 114, 114, 114, 105, 111, 114, 114, 103, 114, 114, 114, 99, 114, 114, 114, 109, 114, 114, 114, 101], 99) (List.mem_of_getElem? (i := 1) rfl)) b1 rfl ?_
    refine w_iconst (by decide) (tX5_letterOf_0_ok (115, .iconst (-1), 1) (List.mem_of_getElem? (i := 16) rfl)) (fun v2 e3 => ?_)
    refine w_iret rfl (tX5_letterOf_0_ok (116, .ireturn, 1) (List.mem_of_getElem? (i := 17) rfl)) ?_
    exact hq v2 (by omega)
  · refine w_tabIn (tgt := 108) (tX5_letterOf_0_ok (1, .tableswitch 114 100 120 #[107, 114, 114, 114, 105, 111, 114, 114, 103, 114, 114, 114, 99, 114, 114, 114, 109, 114, 114, 114, 101], 99) (List.mem_of_getElem? (i := 1) rfl)) b1 (by decide) (by decide) rfl rfl ?_
    refine w_iconst (by decide) (tX5_letterOf_0_ok (108, .iconst 4, 1) (List.mem_of_getElem? (i := 10) rfl)) (fun v4 e5 => ?_)
    refine w_iret rfl (tX5_letterOf_0_ok (109, .ireturn, 1) (List.mem_of_getElem? (i := 11) rfl)) ?_
    exact hq v4 (by omega)
  · refine w_tabIn (tgt := 115) (tX5_letterOf_0_ok (1, .tableswitch 114 100 120 #[107, 114, 114, 114, 105, 111, 114, 114, 103, 114, 114, 114, 99, 114, 114, 114, 109, 114, 114, 114, 101], 99) (List.mem_of_getElem? (i := 1) rfl)) b1 (by decide) (by decide) rfl rfl ?_
    refine w_iconst (by decide) (tX5_letterOf_0_ok (115, .iconst (-1), 1) (List.mem_of_getElem? (i := 16) rfl)) (fun v6 e7 => ?_)
    refine w_iret rfl (tX5_letterOf_0_ok (116, .ireturn, 1) (List.mem_of_getElem? (i := 17) rfl)) ?_
    exact hq v6 (by omega)
  · refine w_tabIn (tgt := 115) (tX5_letterOf_0_ok (1, .tableswitch 114 100 120 #[107, 114, 114, 114, 105, 111, 114, 114, 103, 114, 114, 114, 99, 114, 114, 114, 109, 114, 114, 114, 101], 99) (List.mem_of_getElem? (i := 1) rfl)) b1 (by decide) (by decide) rfl rfl ?_
    refine w_iconst (by decide) (tX5_letterOf_0_ok (115, .iconst (-1), 1) (List.mem_of_getElem? (i := 16) rfl)) (fun v8 e9 => ?_)
    refine w_iret rfl (tX5_letterOf_0_ok (116, .ireturn, 1) (List.mem_of_getElem? (i := 17) rfl)) ?_
    exact hq v8 (by omega)
  · refine w_tabIn (tgt := 115) (tX5_letterOf_0_ok (1, .tableswitch 114 100 120 #[107, 114, 114, 114, 105, 111, 114, 114, 103, 114, 114, 114, 99, 114, 114, 114, 109, 114, 114, 114, 101], 99) (List.mem_of_getElem? (i := 1) rfl)) b1 (by decide) (by decide) rfl rfl ?_
    refine w_iconst (by decide) (tX5_letterOf_0_ok (115, .iconst (-1), 1) (List.mem_of_getElem? (i := 16) rfl)) (fun v10 e11 => ?_)
    refine w_iret rfl (tX5_letterOf_0_ok (116, .ireturn, 1) (List.mem_of_getElem? (i := 17) rfl)) ?_
    exact hq v10 (by omega)
  · refine w_tabIn (tgt := 106) (tX5_letterOf_0_ok (1, .tableswitch 114 100 120 #[107, 114, 114, 114, 105, 111, 114, 114, 103, 114, 114, 114, 99, 114, 114, 114, 109, 114, 114, 114, 101], 99) (List.mem_of_getElem? (i := 1) rfl)) b1 (by decide) (by decide) rfl rfl ?_
    refine w_iconst (by decide) (tX5_letterOf_0_ok (106, .iconst 3, 1) (List.mem_of_getElem? (i := 8) rfl)) (fun v12 e13 => ?_)
    refine w_iret rfl (tX5_letterOf_0_ok (107, .ireturn, 1) (List.mem_of_getElem? (i := 9) rfl)) ?_
    exact hq v12 (by omega)
  · refine w_tabIn (tgt := 112) (tX5_letterOf_0_ok (1, .tableswitch 114 100 120 #[107, 114, 114, 114, 105, 111, 114, 114, 103, 114, 114, 114, 99, 114, 114, 114, 109, 114, 114, 114, 101], 99) (List.mem_of_getElem? (i := 1) rfl)) b1 (by decide) (by decide) rfl rfl ?_
    refine w_bipush (by decide) (tX5_letterOf_0_ok (112, .bipush 6, 2) (List.mem_of_getElem? (i := 14) rfl)) (fun v14 e15 => ?_)
    refine w_iret rfl (tX5_letterOf_0_ok (114, .ireturn, 1) (List.mem_of_getElem? (i := 15) rfl)) ?_
    exact hq v14 (by omega)
  · refine w_tabIn (tgt := 115) (tX5_letterOf_0_ok (1, .tableswitch 114 100 120 #[107, 114, 114, 114, 105, 111, 114, 114, 103, 114, 114, 114, 99, 114, 114, 114, 109, 114, 114, 114, 101], 99) (List.mem_of_getElem? (i := 1) rfl)) b1 (by decide) (by decide) rfl rfl ?_
    refine w_iconst (by decide) (tX5_letterOf_0_ok (115, .iconst (-1), 1) (List.mem_of_getElem? (i := 16) rfl)) (fun v16 e17 => ?_)
    refine w_iret rfl (tX5_letterOf_0_ok (116, .ireturn, 1) (List.mem_of_getElem? (i := 17) rfl)) ?_
    exact hq v16 (by omega)
  · refine w_tabIn (tgt := 115) (tX5_letterOf_0_ok (1, .tableswitch 114 100 120 #[107, 114, 114, 114, 105, 111, 114, 114, 103, 114, 114, 114, 99, 114, 114, 114, 109, 114, 114, 114, 101], 99) (List.mem_of_getElem? (i := 1) rfl)) b1 (by decide) (by decide) rfl rfl ?_
    refine w_iconst (by decide) (tX5_letterOf_0_ok (115, .iconst (-1), 1) (List.mem_of_getElem? (i := 16) rfl)) (fun v18 e19 => ?_)
    refine w_iret rfl (tX5_letterOf_0_ok (116, .ireturn, 1) (List.mem_of_getElem? (i := 17) rfl)) ?_
    exact hq v18 (by omega)
  · refine w_tabIn (tgt := 104) (tX5_letterOf_0_ok (1, .tableswitch 114 100 120 #[107, 114, 114, 114, 105, 111, 114, 114, 103, 114, 114, 114, 99, 114, 114, 114, 109, 114, 114, 114, 101], 99) (List.mem_of_getElem? (i := 1) rfl)) b1 (by decide) (by decide) rfl rfl ?_
    refine w_iconst (by decide) (tX5_letterOf_0_ok (104, .iconst 2, 1) (List.mem_of_getElem? (i := 6) rfl)) (fun v20 e21 => ?_)
    refine w_iret rfl (tX5_letterOf_0_ok (105, .ireturn, 1) (List.mem_of_getElem? (i := 7) rfl)) ?_
    exact hq v20 (by omega)
  · refine w_tabIn (tgt := 115) (tX5_letterOf_0_ok (1, .tableswitch 114 100 120 #[107, 114, 114, 114, 105, 111, 114, 114, 103, 114, 114, 114, 99, 114, 114, 114, 109, 114, 114, 114, 101], 99) (List.mem_of_getElem? (i := 1) rfl)) b1 (by decide) (by decide) rfl rfl ?_
    refine w_iconst (by decide) (tX5_letterOf_0_ok (115, .iconst (-1), 1) (List.mem_of_getElem? (i := 16) rfl)) (fun v22 e23 => ?_)
    refine w_iret rfl (tX5_letterOf_0_ok (116, .ireturn, 1) (List.mem_of_getElem? (i := 17) rfl)) ?_
    exact hq v22 (by omega)
  · refine w_tabIn (tgt := 115) (tX5_letterOf_0_ok (1, .tableswitch 114 100 120 #[107, 114, 114, 114, 105, 111, 114, 114, 103, 114, 114, 114, 99, 114, 114, 114, 109, 114, 114, 114, 101], 99) (List.mem_of_getElem? (i := 1) rfl)) b1 (by decide) (by decide) rfl rfl ?_
    refine w_iconst (by decide) (tX5_letterOf_0_ok (115, .iconst (-1), 1) (List.mem_of_getElem? (i := 16) rfl)) (fun v24 e25 => ?_)
    refine w_iret rfl (tX5_letterOf_0_ok (116, .ireturn, 1) (List.mem_of_getElem? (i := 17) rfl)) ?_
    exact hq v24 (by omega)
  · refine w_tabIn (tgt := 115) (tX5_letterOf_0_ok (1, .tableswitch 114 100 120 #[107, 114, 114, 114, 105, 111, 114, 114, 103, 114, 114, 114, 99, 114, 114, 114, 109, 114, 114, 114, 101], 99) (List.mem_of_getElem? (i := 1) rfl)) b1 (by decide) (by decide) rfl rfl ?_
    refine w_iconst (by decide) (tX5_letterOf_0_ok (115, .iconst (-1), 1) (List.mem_of_getElem? (i := 16) rfl)) (fun v26 e27 => ?_)
    refine w_iret rfl (tX5_letterOf_0_ok (116, .ireturn, 1) (List.mem_of_getElem? (i := 17) rfl)) ?_
    exact hq v26 (by omega)
  · refine w_tabIn (tgt := 100) (tX5_letterOf_0_ok (1, .tableswitch 114 100 120 #[107, 114, 114, 114, 105, 111, 114, 114, 103, 114, 114, 114, 99, 114, 114, 114, 109, 114, 114, 114, 101], 99) (List.mem_of_getElem? (i := 1) rfl)) b1 (by decide) (by decide) rfl rfl ?_
    refine w_iconst (by decide) (tX5_letterOf_0_ok (100, .iconst 0, 1) (List.mem_of_getElem? (i := 2) rfl)) (fun v28 e29 => ?_)
    refine w_iret rfl (tX5_letterOf_0_ok (101, .ireturn, 1) (List.mem_of_getElem? (i := 3) rfl)) ?_
    exact hq v28 (by omega)
  · refine w_tabIn (tgt := 115) (tX5_letterOf_0_ok (1, .tableswitch 114 100 120 #[107, 114, 114, 114, 105, 111, 114, 114, 103, 114, 114, 114, 99, 114, 114, 114, 109, 114, 114, 114, 101], 99) (List.mem_of_getElem? (i := 1) rfl)) b1 (by decide) (by decide) rfl rfl ?_
    refine w_iconst (by decide) (tX5_letterOf_0_ok (115, .iconst (-1), 1) (List.mem_of_getElem? (i := 16) rfl)) (fun v30 e31 => ?_)
    refine w_iret rfl (tX5_letterOf_0_ok (116, .ireturn, 1) (List.mem_of_getElem? (i := 17) rfl)) ?_
    exact hq v30 (by omega)
  · refine w_tabIn (tgt := 115) (tX5_letterOf_0_ok (1, .tableswitch 114 100 120 #[107, 114, 114, 114, 105, 111, 114, 114, 103, 114, 114, 114, 99, 114, 114, 114, 109, 114, 114, 114, 101], 99) (List.mem_of_getElem? (i := 1) rfl)) b1 (by decide) (by decide) rfl rfl ?_
    refine w_iconst (by decide) (tX5_letterOf_0_ok (115, .iconst (-1), 1) (List.mem_of_getElem? (i := 16) rfl)) (fun v32 e33 => ?_)
    refine w_iret rfl (tX5_letterOf_0_ok (116, .ireturn, 1) (List.mem_of_getElem? (i := 17) rfl)) ?_
    exact hq v32 (by omega)
  · refine w_tabIn (tgt := 115) (tX5_letterOf_0_ok (1, .tableswitch 114 100 120 #[107, 114, 114, 114, 105, 111, 114, 114, 103, 114, 114, 114, 99, 114, 114, 114, 109, 114, 114, 114, 101], 99) (List.mem_of_getElem? (i := 1) rfl)) b1 (by decide) (by decide) rfl rfl ?_
    refine w_iconst (by decide) (tX5_letterOf_0_ok (115, .iconst (-1), 1) (List.mem_of_getElem? (i := 16) rfl)) (fun v34 e35 => ?_)
    refine w_iret rfl (tX5_letterOf_0_ok (116, .ireturn, 1) (List.mem_of_getElem? (i := 17) rfl)) ?_
    exact hq v34 (by omega)
  · refine w_tabIn (tgt := 110) (tX5_letterOf_0_ok (1, .tableswitch 114 100 120 #[107, 114, 114, 114, 105, 111, 114, 114, 103, 114, 114, 114, 99, 114, 114, 114, 109, 114, 114, 114, 101], 99) (List.mem_of_getElem? (i := 1) rfl)) b1 (by decide) (by decide) rfl rfl ?_
    refine w_iconst (by decide) (tX5_letterOf_0_ok (110, .iconst 5, 1) (List.mem_of_getElem? (i := 12) rfl)) (fun v36 e37 => ?_)
    refine w_iret rfl (tX5_letterOf_0_ok (111, .ireturn, 1) (List.mem_of_getElem? (i := 13) rfl)) ?_
    exact hq v36 (by omega)
  · refine w_tabIn (tgt := 115) (tX5_letterOf_0_ok (1, .tableswitch 114 100 120 #[107, 114, 114, 114, 105, 111, 114, 114, 103, 114, 114, 114, 99, 114, 114, 114, 109, 114, 114, 114, 101], 99) (List.mem_of_getElem? (i := 1) rfl)) b1 (by decide) (by decide) rfl rfl ?_
    refine w_iconst (by decide) (tX5_letterOf_0_ok (115, .iconst (-1), 1) (List.mem_of_getElem? (i := 16) rfl)) (fun v38 e39 => ?_)
    refine w_iret rfl (tX5_letterOf_0_ok (116, .ireturn, 1) (List.mem_of_getElem? (i := 17) rfl)) ?_
    exact hq v38 (by omega)
  · refine w_tabIn (tgt := 115) (tX5_letterOf_0_ok (1, .tableswitch 114 100 120 #[107, 114, 114, 114, 105, 111, 114, 114, 103, 114, 114, 114, 99, 114, 114, 114, 109, 114, 114, 114, 101], 99) (List.mem_of_getElem? (i := 1) rfl)) b1 (by decide) (by decide) rfl rfl ?_
    refine w_iconst (by decide) (tX5_letterOf_0_ok (115, .iconst (-1), 1) (List.mem_of_getElem? (i := 16) rfl)) (fun v40 e41 => ?_)
    refine w_iret rfl (tX5_letterOf_0_ok (116, .ireturn, 1) (List.mem_of_getElem? (i := 17) rfl)) ?_
    exact hq v40 (by omega)
  · refine w_tabIn (tgt := 115) (tX5_letterOf_0_ok (1, .tableswitch 114 100 120 #[107, 114, 114, 114, 105, 111, 114, 114, 103, 114, 114, 114, 99, 114, 114, 114, 109, 114, 114, 114, 101], 99) (List.mem_of_getElem? (i := 1) rfl)) b1 (by decide) (by decide) rfl rfl ?_
    refine w_iconst (by decide) (tX5_letterOf_0_ok (115, .iconst (-1), 1) (List.mem_of_getElem? (i := 16) rfl)) (fun v42 e43 => ?_)
    refine w_iret rfl (tX5_letterOf_0_ok (116, .ireturn, 1) (List.mem_of_getElem? (i := 17) rfl)) ?_
    exact hq v42 (by omega)
  · refine w_tabIn (tgt := 102) (tX5_letterOf_0_ok (1, .tableswitch 114 100 120 #[107, 114, 114, 114, 105, 111, 114, 114, 103, 114, 114, 114, 99, 114, 114, 114, 109, 114, 114, 114, 101], 99) (List.mem_of_getElem? (i := 1) rfl)) b1 (by decide) (by decide) rfl rfl ?_
    refine w_iconst (by decide) (tX5_letterOf_0_ok (102, .iconst 1, 1) (List.mem_of_getElem? (i := 4) rfl)) (fun v44 e45 => ?_)
    refine w_iret rfl (tX5_letterOf_0_ok (103, .ireturn, 1) (List.mem_of_getElem? (i := 5) rfl)) ?_
    exact hq v44 (by omega)
end
def sp_atom (f : Nat → Int32) (len : Nat) (N : Nat → Nat ⊕ Nat) (n : Nat) : Nat ⊕ Nat := if sp_sg f len (sp_sk f len n) = 91 then N (sp_sk f len n) else if sp_let (sp_sg f len (sp_sk f len n)) then .inr (sp_sk f len n + 1) else (sp_num f len 4 (sp_sk f len n)).1
def sp_loop (f : Nat → Int32) (len : Nat) (ops : Int → Bool) (G : Nat → Nat ⊕ Nat) : Nat → Nat → Nat ⊕ Nat
  | 0, n => .inr n
  | j + 1, n => if ops (sp_sg f len (sp_sk f len n)) = true then sp_bd (G (sp_sk f len n + 1)) (sp_loop f len ops G j) else .inr (sp_sk f len n)
def sp_pl (c : Int) : Bool := c == 43 || c == 45 || c == 42 || c == 47
def sp_an (c : Int) : Bool := c == 38 || c == 124
def sp_sum (f : Nat → Int32) (len : Nat) (N : Nat → Nat ⊕ Nat) (n : Nat) : Nat ⊕ Nat := sp_bd (sp_atom f len N n) (sp_loop f len sp_pl (sp_atom f len N) 160)
def sp_cm (f : Nat → Int32) (len : Nat) (N : Nat → Nat ⊕ Nat) (n : Nat) : Nat ⊕ Nat := if sp_cmp (sp_sg f len (sp_sk f len n)) then sp_sum f len N (sp_sk f len n + 1) else .inl (sp_sk f len n)
def sp_unit (f : Nat → Int32) (len : Nat) (N NB NP : Nat → Nat ⊕ Nat) (n : Nat) : Nat ⊕ Nat := if sp_sg f len (sp_sk f len n) = 33 then NB (sp_sk f len n) else if sp_sg f len (sp_sk f len n) = 40 then NP (sp_sk f len n) else sp_bd (sp_sum f len N (sp_sk f len n)) (sp_cm f len N)
def sp_cond (f : Nat → Int32) (len : Nat) (N NB NP : Nat → Nat ⊕ Nat) (n : Nat) : Nat ⊕ Nat := sp_bd (sp_unit f len N NB NP n) (sp_loop f len sp_an (sp_unit f len N NB NP) 160)
/-- what stands behind the signs [ ! ( where so many levels are left -/
def sp_lv (f : Nat → Int32) (len : Nat) : Nat → (Nat → Nat ⊕ Nat) × (Nat → Nat ⊕ Nat) × (Nat → Nat ⊕ Nat)
  | 0 => (.inl, .inl, .inl)
  | d + 1 => (fun m => sp_bd (sp_sum f len (sp_lv f len d).1 (m + 1)) (sp_tk f len 93), fun m => sp_unit f len (sp_lv f len d).1 (sp_lv f len d).2.1 (sp_lv f len d).2.2 (m + 1), fun m => sp_bd (sp_cond f len (sp_lv f len d).1 (sp_lv f len d).2.1 (sp_lv f len d).2.2 (m + 1)) (sp_tk f len 41))
theorem sp_sk_sk (f : Nat → Int32) (len n : Nat) : sp_sk f len (sp_sk f len n) = sp_sk f len n := by
  generalize hk : len - n = k
  induction k using Nat.strongRecOn generalizing n with
  | ind k ih =>
    by_cases c : n < len ∧ (f n).toInt = 32
    · rw [sp_sk_y c.1 c.2]
      exact ih (len - (n + 1)) (by omega) (n + 1) rfl
    · have e : sp_sk f len n = n := sp_sk_n (fun a b => c ⟨a, b⟩)
      rw [e, e]
theorem sp_go.is {g : Nat → Nat ⊕ Nat} {a0 f0 a1 f1 : Int32} (p : sp_go g a0 f0 a1 f1) (h : f0.toInt = -1) : sp_is (g a0.toInt.toNat) a1 f1 := by
  rcases p with ⟨p1, p2⟩ | ⟨p1, p2⟩
  · exact absurd h p1
  · exact p2
/-- a method of a RULE that reads: what it comes to -/
def PR (l : Launch) (D : va_G) (tys : List (ClassId × FieldType)) (A : Nat → Prop) (X : State → Prop) (cA : Nat → ClassId) (t b : Nat) (f : Nat → Int32) (len : Int32) (r k s : Nat) (M : ch_M) (L : List (Nat × Value)) (P : Int32 → Int32 → Prop) (g : Nat → Nat ⊕ Nat) (nf nl : Nat) : Prop :=
  ∀ (fr lo : Nat) (Q : Option Value → ch_H → Prop) (h : ch_H) (at0 fl0 : Int32), nf ≤ fr → nl ≤ lo → P at0 fl0 → tp cA h t b f len at0 fl0 → ru cA h r k s →
    (∀ (h1 : ch_H) (at1 fl1 : Int32), tp cA h1 t b f len at1 fl1 → ru cA h1 r k s → sp_go g at0 fl0 at1 fl1 → (∀ q, q ≠ t ∧ q ≠ r ∧ q ≠ k → h1 q = h q) → Q none h1) → ww l D tys A X fr lo M Q 0 L [] h
section
variable {l : Launch} {D : va_G} {tys : List (ClassId × FieldType)} {A : Nat → Prop} {X : State → Prop} {cA : Nat → ClassId} {t b r k s : Nat} {f : Nat → Int32} {len : Int32}
theorem s_atom (hT : k_tys tys cA) (hN : ns t b r k) {d : Nat} {N NB NP : Nat → Nat ⊕ Nat} {depth : Int32} (hd : depth.toInt = 6 - (d : Int)) (h6 : d ≤ 6) (hnest : ∀ c : Int32, c.toInt = 91 → PR l D tys A X cA t b f len r k s mX5_nested [(0, .ref r), (1, .ref t), (2, .int depth), (3, .int c)] (fun a fl => fl.toInt = -1 ∧ a.toInt < len.toInt) N (5 * d + 1) (140 * d + 60)) : PR l D tys A X cA t b f len r k s mX5_atom [(0, .ref r), (1, .ref t), (2, .int depth)] (fun _ _ => True) (sp_atom f len.toInt.toNat N) (5 * d + 2) (140 * d + 90) := by
  obtain ⟨n_b_t, n_r_t, n_k_t, n_r_b, n_k_b, n_r_k⟩ := hN
  have n_t_b := n_b_t.symm
  have n_t_r := n_r_t.symm
  have n_t_k := n_k_t.symm
  have n_b_r := n_r_b.symm
  have n_b_k := n_k_b.symm
  have n_k_r := n_r_k.symm
  intro fr lo Q h at0 fl0 hf hl hP H R hq
  obtain ⟨c_t, c_b, -, l1, l2, a1, a2⟩ := H
  obtain ⟨g, sz, c_r, c_k, z1, z2, gb⟩ := R
  refine w_aload_n (List.Mem.tail _ (List.Mem.head _)) (tX5_atom_0_ok (0, .aload_n 1, 1) (List.mem_of_getElem? (i := 0) rfl)) ?_
  refine w_callV (own := 10) (mi := 74) [] [] [(0, .ref t)] rfl (cllw_X5 (31, 0, 74) (List.mem_of_getElem? (i := 6) rfl)) rfl rfl c_t rfl (by omega) (w_lo (n := 20) rfl (by omega)) (Nat.le_of_ble_eq_true rfl) (Nat.le_of_ble_eq_true rfl) rfl (tX5_atom_0_ok (1, .invokevirtual 31, 3) (List.mem_of_getElem? (i := 1) rfl)) (s_isWrong hT ⟨c_t, c_b, n_b_t, l1, l2, by omega, by omega⟩ (fun v1 e2 => ?_))
  show ww l D tys A X fr lo mX5_atom Q 4 [(0, .ref r), (1, .ref t), (2, .int depth)] [.int v1] h
  refine w_if_eq (tgt := 8) (tX5_atom_0_ok (4, .ifCond .eq 4, 3) (List.mem_of_getElem? (i := 2) rfl)) rfl (fun b3 => ?_) (fun b3 => ?_)
  · refine w_aload_n (List.Mem.tail _ (List.Mem.head _)) (tX5_atom_0_ok (8, .aload_n 1, 1) (List.mem_of_getElem? (i := 4) rfl)) ?_
    refine w_callV (own := 10) (mi := 77) [] [] [(0, .ref t)] rfl (cllw_X5 (35, 0, 77) (List.mem_of_getElem? (i := 3) rfl)) rfl rfl c_t rfl (by omega) (w_lo (n := 20) rfl (by omega)) (Nat.le_of_ble_eq_true rfl) (Nat.le_of_ble_eq_true rfl) rfl (tX5_atom_0_ok (9, .invokevirtual 35, 3) (List.mem_of_getElem? (i := 5) rfl)) (s_sign hT ⟨c_t, c_b, n_b_t, l1, l2, by omega, by omega⟩ (fun h4 at5 v6 p7 e8 e9 o10 => ?_))
    obtain ⟨c11, c12, -, -, -, a13, a14⟩ := p7
    have c15 := (o10 r n_r_t).trans c_r
    have c16 := (o10 k n_k_t).trans c_k
    show ww l D tys A X fr lo mX5_atom Q 12 [(0, .ref r), (1, .ref t), (2, .int depth)] [.int v6] h4
    rw [e8] at e9
    have g17 := sp_sg_or f len.toInt.toNat (sp_sk f len.toInt.toNat at0.toInt.toNat)
    refine w_istore_n [(3, .int v6), (0, .ref r), (1, .ref t), (2, .int depth)] rfl (Nat.le_of_ble_eq_true rfl) (tX5_atom_0_ok (12, .istore_n 3, 1) (List.mem_of_getElem? (i := 6) rfl)) ?_
    refine w_iload_n (List.Mem.head _) (tX5_atom_0_ok (13, .iload_n 3, 1) (List.mem_of_getElem? (i := 7) rfl)) ?_
    refine w_callS (own := 10) (mi := 59) [.int v6] [] [(0, .int v6)] rfl (cllw_X5 (74, 1, 59) (List.mem_of_getElem? (i := 7) rfl)) rfl rfl (by omega) (w_lo (n := 20) rfl (by omega)) (Nat.le_of_ble_eq_true rfl) (Nat.le_of_ble_eq_true rfl) rfl (tX5_atom_0_ok (14, .invokestatic 74, 3) (List.mem_of_getElem? (i := 8) rfl)) (s_letterOf (fun v18 e19 => ?_))
    show ww l D tys A X fr lo mX5_atom Q 17 [(3, .int v6), (0, .ref r), (1, .ref t), (2, .int depth)] [.int v18] h4
    refine w_istore [(4, .int v18), (3, .int v6), (0, .ref r), (1, .ref t), (2, .int depth)] rfl (Nat.le_of_ble_eq_true rfl) (tX5_atom_0_ok (17, .istore 4, 2) (List.mem_of_getElem? (i := 9) rfl)) ?_
    refine w_iload_n (List.Mem.tail _ (List.Mem.head _)) (tX5_atom_0_ok (19, .iload_n 3, 1) (List.mem_of_getElem? (i := 10) rfl)) ?_
    refine w_bipush (by decide) (tX5_atom_0_ok (20, .bipush 91, 2) (List.mem_of_getElem? (i := 11) rfl)) (fun v20 e21 => ?_)
    refine w_icmp_ne (tgt := 35) (tX5_atom_0_ok (22, .if_icmp .ne 13, 3) (List.mem_of_getElem? (i := 12) rfl)) rfl (fun b22 => ?_) (fun b22 => ?_)
    · refine w_iload (List.Mem.head _) (tX5_atom_0_ok (35, .iload 4, 2) (List.mem_of_getElem? (i := 19) rfl)) ?_
      refine w_if_lt (tgt := 61) (tX5_atom_0_ok (37, .ifCond .lt 24, 3) (List.mem_of_getElem? (i := 20) rfl)) rfl (fun b23 => ?_) (fun b23 => ?_)
      · refine w_aload_n (List.Mem.tail _ (List.Mem.tail _ (List.Mem.head _))) (tX5_atom_0_ok (61, .aload_n 0, 1) (List.mem_of_getElem? (i := 33) rfl)) ?_
        refine w_aload_n (List.Mem.tail _ (List.Mem.tail _ (List.Mem.tail _ (List.Mem.head _)))) (tX5_atom_0_ok (62, .aload_n 1, 1) (List.mem_of_getElem? (i := 34) rfl)) ?_
        refine w_iconst (by decide) (tX5_atom_0_ok (63, .iconst 4, 1) (List.mem_of_getElem? (i := 35) rfl)) (fun v24 e25 => ?_)
        refine w_callV (own := 10) (mi := 75) [.int v24] [.ref r] [(0, .ref t), (1, .int v24)] rfl (cllw_X5 (78, 0, 75) (List.mem_of_getElem? (i := 14) rfl)) rfl rfl c11 rfl (by omega) (w_lo (n := 23) rfl (by omega)) (Nat.le_of_ble_eq_true rfl) (Nat.le_of_ble_eq_true rfl) rfl (tX5_atom_0_ok (64, .invokevirtual 78, 3) (List.mem_of_getElem? (i := 36) rfl)) (s_number hT ⟨by omega, w_sub (n := 23) rfl (by omega)⟩ (by omega) (by omega) ⟨c11, c12, n_b_t, l1, l2, by omega, by omega⟩ (fun h26 at27 fl28 v29 p30 e31 e32 e33 o34 => ?_))
        obtain ⟨c35, c36, -, -, -, a37, a38⟩ := p30
        have c39 := (o34 r n_r_t).trans c15
        have c40 := (o34 k n_k_t).trans c16
        show ww l D tys A X fr lo mX5_atom Q 67 [(4, .int v18), (3, .int v6), (0, .ref r), (1, .ref t), (2, .int depth)] [.int v29, .ref r] h26
        have k9 : v24.toInt.toNat = 4 := by omega
        rw [k9] at e31 e32
        refine w_callV (own := 10) (mi := 56) [.int v29] [] [(0, .ref r), (1, .int v29)] rfl (cllw_X5 (55, 0, 56) (List.mem_of_getElem? (i := 12) rfl)) rfl rfl c39 rfl (by omega) (w_lo (n := 21) rfl (by omega)) (Nat.le_of_ble_eq_true rfl) (Nat.le_of_ble_eq_true rfl) rfl (tX5_atom_0_ok (67, .invokevirtual 55, 3) (List.mem_of_getElem? (i := 37) rfl)) (s_emit hT n_r_k ⟨g, sz, c39, c40, by omega, by omega, gb⟩ (by omega) (fun h41 u42 o43 => ?_))
        have c44 := (o43 t ⟨n_t_r, n_t_k⟩).trans c35
        have c45 := (o43 b ⟨n_b_r, n_b_k⟩).trans c36
        obtain ⟨g46, sz47, c48, c49, z50, z51, gb52⟩ := u42
        show ww l D tys A X fr lo mX5_atom Q 70 [(4, .int v18), (3, .int v6), (0, .ref r), (1, .ref t), (2, .int depth)] [] h41
        refine w_vret rfl (tX5_atom_0_ok (70, .return_, 1) (List.mem_of_getElem? (i := 38) rfl)) ?_
        refine hq h41 at27 fl28 ⟨c44, c45, n_b_t, l1, l2, by omega, by omega⟩ ⟨g46, sz47, c48, c49, by omega, by omega, gb52⟩ ?_ (fun q hq => (o43 q ⟨hq.2.1, hq.2.2⟩).trans ((o34 q hq.1).trans (o10 q hq.1)))
        refine Or.inr ⟨by omega, ?_⟩
        unfold sp_atom
        rw [if_neg (by omega), if_neg (by omega)]
        rw [e8] at e32
        exact e32
      · refine w_aload_n (List.Mem.tail _ (List.Mem.tail _ (List.Mem.tail _ (List.Mem.head _)))) (tX5_atom_0_ok (40, .aload_n 1, 1) (List.mem_of_getElem? (i := 21) rfl)) ?_
        refine w_dup rfl (tX5_atom_0_ok (41, .dup, 1) (List.mem_of_getElem? (i := 22) rfl)) ?_
        refine w_get (own := 10) rfl rfl (by decide) c11 rfl (tX5_atom_0_ok (42, .getfield 61, 3) (List.mem_of_getElem? (i := 23) rfl)) ?_
        refine w_iconst (by decide) (tX5_atom_0_ok (45, .iconst 1, 1) (List.mem_of_getElem? (i := 24) rfl)) (fun v53 e54 => ?_)
        refine w_iadd (by omega) (by omega) (tX5_atom_0_ok (46, .iadd, 1) (List.mem_of_getElem? (i := 25) rfl)) (fun v55 e56 => ?_)
        refine w_put (own := 10) [.ref b, .int len, .int v55, .int fl0] rfl rfl rfl (by decide) rfl ⟨rfl, rfl⟩ c11 (Nat.le_of_ble_eq_true rfl) (tX5_atom_0_ok (47, .putfield 61, 3) (List.mem_of_getElem? (i := 26) rfl)) (fun h57 c58 o59 => ?_)
        have c60 := (o59 b n_b_t).trans c12
        have c61 := (o59 r n_r_t).trans c15
        have c62 := (o59 k n_k_t).trans c16
        refine w_aload_n (List.Mem.tail _ (List.Mem.tail _ (List.Mem.head _))) (tX5_atom_0_ok (50, .aload_n 0, 1) (List.mem_of_getElem? (i := 27) rfl)) ?_
        refine w_iconst (by decide) (tX5_atom_0_ok (51, .iconst (-1), 1) (List.mem_of_getElem? (i := 28) rfl)) (fun v63 e64 => ?_)
        refine w_iload (List.Mem.head _) (tX5_atom_0_ok (52, .iload 4, 2) (List.mem_of_getElem? (i := 29) rfl)) ?_
        refine w_isub (by omega) (by omega) (tX5_atom_0_ok (54, .isub, 1) (List.mem_of_getElem? (i := 30) rfl)) (fun v65 e66 => ?_)
        refine w_callV (own := 10) (mi := 56) [.int v65] [] [(0, .ref r), (1, .int v65)] rfl (cllw_X5 (55, 0, 56) (List.mem_of_getElem? (i := 12) rfl)) rfl rfl c61 rfl (by omega) (w_lo (n := 21) rfl (by omega)) (Nat.le_of_ble_eq_true rfl) (Nat.le_of_ble_eq_true rfl) rfl (tX5_atom_0_ok (55, .invokevirtual 55, 3) (List.mem_of_getElem? (i := 31) rfl)) (s_emit hT n_r_k ⟨g, sz, c61, c62, by omega, by omega, gb⟩ (by omega) (fun h67 u68 o69 => ?_))
        have c70 := (o69 t ⟨n_t_r, n_t_k⟩).trans c58
        have c71 := (o69 b ⟨n_b_r, n_b_k⟩).trans c60
        obtain ⟨g72, sz73, c74, c75, z76, z77, gb78⟩ := u68
        show ww l D tys A X fr lo mX5_atom Q 58 [(4, .int v18), (3, .int v6), (0, .ref r), (1, .ref t), (2, .int depth)] [] h67
        refine w_goto (tgt := 70) (tX5_atom_0_ok (58, .goto 12, 3) (List.mem_of_getElem? (i := 32) rfl)) rfl ?_
        refine w_vret rfl (tX5_atom_0_ok (70, .return_, 1) (List.mem_of_getElem? (i := 38) rfl)) ?_
        refine hq h67 v55 fl0 ⟨c70, c71, n_b_t, l1, l2, by omega, by omega⟩ ⟨g72, sz73, c74, c75, by omega, by omega, gb78⟩ ?_ (fun q hq => (o69 q ⟨hq.2.1, hq.2.2⟩).trans ((o59 q hq.1).trans (o10 q hq.1)))
        refine Or.inr ⟨by omega, ?_⟩
        unfold sp_atom
        rw [if_neg (by omega), if_pos (by omega)]
        exact ⟨by omega, by omega⟩
    · refine w_aload_n (List.Mem.tail _ (List.Mem.tail _ (List.Mem.head _))) (tX5_atom_0_ok (25, .aload_n 0, 1) (List.mem_of_getElem? (i := 13) rfl)) ?_
      refine w_aload_n (List.Mem.tail _ (List.Mem.tail _ (List.Mem.tail _ (List.Mem.head _)))) (tX5_atom_0_ok (26, .aload_n 1, 1) (List.mem_of_getElem? (i := 14) rfl)) ?_
      refine w_iload_n (List.Mem.tail _ (List.Mem.tail _ (List.Mem.tail _ (List.Mem.tail _ (List.Mem.head _))))) (tX5_atom_0_ok (27, .iload_n 2, 1) (List.mem_of_getElem? (i := 15) rfl)) ?_
      refine w_iload_n (List.Mem.tail _ (List.Mem.head _)) (tX5_atom_0_ok (28, .iload_n 3, 1) (List.mem_of_getElem? (i := 16) rfl)) ?_
      refine w_callV (own := 10) (mi := 60) [.ref t, .int depth, .int v6] [] [(0, .ref r), (1, .ref t), (2, .int depth), (3, .int v6)] rfl (cllw_X5 (64, 0, 60) (List.mem_of_getElem? (i := 8) rfl)) rfl rfl c15 rfl (by omega) (w_lo (n := 23) rfl (by omega)) (Nat.le_of_ble_eq_true rfl) (Nat.le_of_ble_eq_true rfl) rfl (tX5_atom_0_ok (29, .invokevirtual 64, 3) (List.mem_of_getElem? (i := 17) rfl)) ((hnest v6 (by omega)) _ _ _ _ _ _ (by omega) (w_sub (n := 23) rfl (by omega)) ⟨by omega, by omega⟩ ⟨c11, c12, n_b_t, l1, l2, by omega, by omega⟩ ⟨g, sz, c15, c16, by omega, by omega, gb⟩ (fun h79 at80 fl81 p82 u83 e84 o85 => ?_))
      obtain ⟨c88, c89, -, -, -, a86, a87⟩ := p82
      obtain ⟨g90, sz91, c92, c93, z94, z95, gb96⟩ := u83
      show ww l D tys A X fr lo mX5_atom Q 32 [(4, .int v18), (3, .int v6), (0, .ref r), (1, .ref t), (2, .int depth)] [] h79
      refine w_goto (tgt := 70) (tX5_atom_0_ok (32, .goto 38, 3) (List.mem_of_getElem? (i := 18) rfl)) rfl ?_
      refine w_vret rfl (tX5_atom_0_ok (70, .return_, 1) (List.mem_of_getElem? (i := 38) rfl)) ?_
      refine hq h79 at80 fl81 ⟨c88, c89, n_b_t, l1, l2, by omega, by omega⟩ ⟨g90, sz91, c92, c93, by omega, by omega, gb96⟩ ?_ (fun q hq => (o85 q ⟨hq.1, hq.2.1, hq.2.2⟩).trans (o10 q hq.1))
      refine Or.inr ⟨by omega, ?_⟩
      unfold sp_atom
      rw [if_pos (by omega)]
      have y9 := e84.is (by omega)
      rw [e8] at y9
      exact y9
  · refine w_vret rfl (tX5_atom_0_ok (7, .return_, 1) (List.mem_of_getElem? (i := 3) rfl)) ?_
    refine hq h at0 fl0 ⟨c_t, c_b, n_b_t, l1, l2, by omega, by omega⟩ ⟨g, sz, c_r, c_k, by omega, by omega, gb⟩ ?_ (fun q hq => rfl)
    exact Or.inl ⟨by omega, rfl⟩
end
