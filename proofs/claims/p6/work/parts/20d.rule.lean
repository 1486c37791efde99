/-! the class's RULES: reading them -/
def ns (t b r k : Nat) : Prop := b ≠ t ∧ r ≠ t ∧ k ≠ t ∧ r ≠ b ∧ k ≠ b ∧ r ≠ k
/-- a RULE's rows: its code within its bounds -/
def ru (cA : Nat → ClassId) (h : ch_H) (r k s : Nat) : Prop := ∃ (g : Nat → Int32) (sz : Int32), h r = some (.inr (5, [.ref k, .int sz, .ref s])) ∧ h k = some (.inl (cA 0, 192, .inl g)) ∧ 0 ≤ sz.toInt ∧ sz.toInt ≤ 192 ∧ ∀ i, i < 192 → -100 ≤ (g i).toInt ∧ (g i).toInt ≤ 20000
theorem ru_upd {g : Nat → Int32} {j : Nat} {x : Int32} (hg : ∀ i, i < 192 → -100 ≤ (g i).toInt ∧ (g i).toInt ≤ 20000) (hx : -100 ≤ x.toInt ∧ x.toInt ≤ 20000) : ∀ i, i < 192 → -100 ≤ (upd g j x i).toInt ∧ (upd g j x i).toInt ≤ 20000 := by
  intro i hi
  unfold upd
  split
  · exact hx
  · exact hg i hi
/-- how a piece of a text goes on from the TAPE's state -/
def sp_go (g : Nat → Nat ⊕ Nat) (at0 fl0 at1 fl1 : Int32) : Prop := ¬ fl0.toInt = -1 ∧ fl1.toInt = fl0.toInt ∨ fl0.toInt = -1 ∧ sp_is (g at0.toInt.toNat) at1 fl1
theorem sp_go.bd {g1 g2 : Nat → Nat ⊕ Nat} {a0 f0 a1 f1 a2 f2 : Int32} (p : sp_go g1 a0 f0 a1 f1) (q : sp_go g2 a1 f1 a2 f2) : sp_go (fun n => sp_bd (g1 n) g2) a0 f0 a2 f2 := by
  rcases p with ⟨p1, p2⟩ | ⟨p1, p2⟩
  · rcases q with ⟨q1, q2⟩ | ⟨q1, q2⟩
    · exact Or.inl ⟨p1, by omega⟩
    · omega
  · refine Or.inr ⟨p1, ?_⟩
    show sp_is (sp_bd (g1 a0.toInt.toNat) g2) a2 f2
    cases hg : g1 a0.toInt.toNat with
    | inl e =>
      rw [hg] at p2
      have p2 : f1.toInt = e := p2
      rcases q with ⟨q1, q2⟩ | ⟨q1, q2⟩
      · show f2.toInt = e
        omega
      · omega
    | inr n =>
      rw [hg] at p2
      have p2 : f1.toInt = -1 ∧ a1.toInt = n := p2
      rcases q with ⟨q1, q2⟩ | ⟨q1, q2⟩
      · omega
      · have : a1.toInt.toNat = n := by omega
        rw [this] at q2
        exact q2
theorem w_lv {l : Launch} {D : va_G} {tys : List (ClassId × FieldType)} {A : Nat → Prop} {X : State → Prop} {fr lo : Nat} {M : ch_M} {Q : Option Value → ch_H → Prop} {pc : Nat} {lv : List (Nat × Value)} {st : List Value} {h : ch_H} (lv' : List (Nat × Value)) (hs : ∀ q ∈ lv', q ∈ lv) (k : ww l D tys A X fr lo M Q pc lv' st h) : ww l D tys A X fr lo M Q pc lv st h := fun p e s m args below meth cd H locs ls C hl hr hS => k p e s m args below meth cd H locs ls C ⟨hl.1, hl.2.1, fun q hq => hl.2.2 q (hs q hq)⟩ hr hS
abbrev sp_let (c : Int) : Prop := c = 112 ∨ c = 120 ∨ c = 108 ∨ c = 104 ∨ c = 100 ∨ c = 116 ∨ c = 105
abbrev sp_cmp (c : Int) : Prop := c = 61 ∨ c = 60 ∨ c = 62
section
variable {l : Launch} {D : va_G} {tys : List (ClassId × FieldType)} {A : Nat → Prop} {X : State → Prop} {fr lo : Nat} {Q : Option Value → ch_H → Prop} {cA : Nat → ClassId} {h : ch_H} {t b r k s : Nat} {f : Nat → Int32} {len at0 fl0 : Int32}
theorem s_emit (hT : k_tys tys cA) {one : Int32} (n_r_k : r ≠ k) (R : ru cA h r k s) (h1 : -100 ≤ one.toInt ∧ one.toInt ≤ 20000) (hq : ∀ h1 : ch_H, ru cA h1 r k s → (∀ q, q ≠ r ∧ q ≠ k → h1 q = h q) → Q none h1) : ww l D tys A X fr lo mX5_emit Q 0 [(0, .ref r), (1, .int one)] [] h := by
  obtain ⟨g, sz, c_r, c_k, z1, z2, gb⟩ := R
  have n_k_r := n_r_k.symm
  refine w_aload_n (List.Mem.head _) (tX5_emit_0_ok (0, .aload_n 0, 1) (List.mem_of_getElem? (i := 0) rfl)) ?_
  refine w_get (own := 10) rfl rfl (by decide) c_r rfl (tX5_emit_0_ok (1, .getfield 18, 3) (List.mem_of_getElem? (i := 1) rfl)) ?_
  refine w_sipush (by decide) (tX5_emit_0_ok (4, .sipush 192, 3) (List.mem_of_getElem? (i := 2) rfl)) (fun v1 e2 => ?_)
  refine w_icmp_ge (tgt := 30) (tX5_emit_0_ok (7, .if_icmp .ge 23, 3) (List.mem_of_getElem? (i := 3) rfl)) rfl (fun b3 => ?_) (fun b3 => ?_)
  · refine w_vret rfl (tX5_emit_0_ok (30, .return_, 1) (List.mem_of_getElem? (i := 16) rfl)) ?_
    exact hq h ⟨g, sz, c_r, c_k, by omega, by omega, gb⟩ (fun q hq => rfl)
  · refine w_aload_n (List.Mem.head _) (tX5_emit_0_ok (10, .aload_n 0, 1) (List.mem_of_getElem? (i := 4) rfl)) ?_
    refine w_get (own := 10) rfl rfl (by decide) c_r rfl (tX5_emit_0_ok (11, .getfield 11, 3) (List.mem_of_getElem? (i := 5) rfl)) ?_
    refine w_aload_n (List.Mem.head _) (tX5_emit_0_ok (14, .aload_n 0, 1) (List.mem_of_getElem? (i := 6) rfl)) ?_
    refine w_get (own := 10) rfl rfl (by decide) c_r rfl (tX5_emit_0_ok (15, .getfield 18, 3) (List.mem_of_getElem? (i := 7) rfl)) ?_
    refine w_iload_n (List.Mem.tail _ (List.Mem.head _)) (tX5_emit_0_ok (18, .iload_n 1, 1) (List.mem_of_getElem? (i := 8) rfl)) ?_
    refine w_iast hT c_k (by omega) (by omega) (tX5_emit_0_ok (19, .iastore, 1) (List.mem_of_getElem? (i := 9) rfl)) (fun h4 c5 o6 => ?_)
    have c7 := (o6 r n_r_k).trans c_r
    refine w_aload_n (List.Mem.head _) (tX5_emit_0_ok (20, .aload_n 0, 1) (List.mem_of_getElem? (i := 10) rfl)) ?_
    refine w_dup rfl (tX5_emit_0_ok (21, .dup, 1) (List.mem_of_getElem? (i := 11) rfl)) ?_
    refine w_get (own := 10) rfl rfl (by decide) c7 rfl (tX5_emit_0_ok (22, .getfield 18, 3) (List.mem_of_getElem? (i := 12) rfl)) ?_
    refine w_iconst (by decide) (tX5_emit_0_ok (25, .iconst 1, 1) (List.mem_of_getElem? (i := 13) rfl)) (fun v8 e9 => ?_)
    refine w_iadd (by omega) (by omega) (tX5_emit_0_ok (26, .iadd, 1) (List.mem_of_getElem? (i := 14) rfl)) (fun v10 e11 => ?_)
    refine w_put (own := 10) [.ref k, .int v10, .ref s] rfl rfl rfl (by decide) rfl ⟨rfl, rfl⟩ c7 (Nat.le_of_ble_eq_true rfl) (tX5_emit_0_ok (27, .putfield 18, 3) (List.mem_of_getElem? (i := 15) rfl)) (fun h12 c13 o14 => ?_)
    have c15 := (o14 k n_k_r).trans c5
    refine w_vret rfl (tX5_emit_0_ok (30, .return_, 1) (List.mem_of_getElem? (i := 16) rfl)) ?_
    exact hq h12 ⟨(upd g sz.toInt.toNat one), v10, c13, c15, by omega, by omega, ru_upd gb h1⟩ (fun q hq => (o14 q hq.1).trans (o6 q hq.2))
theorem s_isCompare {c : Int32} (hq : ∀ v : Int32, (sp_cmp c.toInt ∧ v.toInt = 1 ∨ ¬ sp_cmp c.toInt ∧ v.toInt = 0) → Q (some (.int v)) h) : ww l D tys A X fr lo mX5_isCompare Q 0 [(0, .int c)] [] h := by
  refine w_iload_n (List.Mem.head _) (tX5_isCompare_0_ok (0, .iload_n 0, 1) (List.mem_of_getElem? (i := 0) rfl)) ?_
  refine w_bipush (by decide) (tX5_isCompare_0_ok (1, .bipush 61, 2) (List.mem_of_getElem? (i := 1) rfl)) (fun v1 e2 => ?_)
  refine w_icmp_eq (tgt := 18) (tX5_isCompare_0_ok (3, .if_icmp .eq 15, 3) (List.mem_of_getElem? (i := 2) rfl)) rfl (fun b3 => ?_) (fun b3 => ?_)
  · refine w_iconst (by decide) (tX5_isCompare_0_ok (18, .iconst 1, 1) (List.mem_of_getElem? (i := 9) rfl)) (fun v4 e5 => ?_)
    refine w_goto (tgt := 23) (tX5_isCompare_0_ok (19, .goto 4, 3) (List.mem_of_getElem? (i := 10) rfl)) rfl ?_
    refine w_zret rfl (by omega) (by omega) (tX5_isCompare_0_ok (23, .ireturn, 1) (List.mem_of_getElem? (i := 12) rfl)) ?_
    exact hq v4 (by omega)
  · refine w_iload_n (List.Mem.head _) (tX5_isCompare_0_ok (6, .iload_n 0, 1) (List.mem_of_getElem? (i := 3) rfl)) ?_
    refine w_bipush (by decide) (tX5_isCompare_0_ok (7, .bipush 60, 2) (List.mem_of_getElem? (i := 4) rfl)) (fun v6 e7 => ?_)
    refine w_icmp_eq (tgt := 18) (tX5_isCompare_0_ok (9, .if_icmp .eq 9, 3) (List.mem_of_getElem? (i := 5) rfl)) rfl (fun b8 => ?_) (fun b8 => ?_)
    · refine w_iconst (by decide) (tX5_isCompare_0_ok (18, .iconst 1, 1) (List.mem_of_getElem? (i := 9) rfl)) (fun v9 e10 => ?_)
      refine w_goto (tgt := 23) (tX5_isCompare_0_ok (19, .goto 4, 3) (List.mem_of_getElem? (i := 10) rfl)) rfl ?_
      refine w_zret rfl (by omega) (by omega) (tX5_isCompare_0_ok (23, .ireturn, 1) (List.mem_of_getElem? (i := 12) rfl)) ?_
      exact hq v9 (by omega)
    · refine w_iload_n (List.Mem.head _) (tX5_isCompare_0_ok (12, .iload_n 0, 1) (List.mem_of_getElem? (i := 6) rfl)) ?_
      refine w_bipush (by decide) (tX5_isCompare_0_ok (13, .bipush 62, 2) (List.mem_of_getElem? (i := 7) rfl)) (fun v11 e12 => ?_)
      refine w_icmp_ne (tgt := 22) (tX5_isCompare_0_ok (15, .if_icmp .ne 7, 3) (List.mem_of_getElem? (i := 8) rfl)) rfl (fun b13 => ?_) (fun b13 => ?_)
      · refine w_iconst (by decide) (tX5_isCompare_0_ok (22, .iconst 0, 1) (List.mem_of_getElem? (i := 11) rfl)) (fun v14 e15 => ?_)
        refine w_zret rfl (by omega) (by omega) (tX5_isCompare_0_ok (23, .ireturn, 1) (List.mem_of_getElem? (i := 12) rfl)) ?_
        exact hq v14 (by omega)
      · refine w_iconst (by decide) (tX5_isCompare_0_ok (18, .iconst 1, 1) (List.mem_of_getElem? (i := 9) rfl)) (fun v16 e17 => ?_)
        refine w_goto (tgt := 23) (tX5_isCompare_0_ok (19, .goto 4, 3) (List.mem_of_getElem? (i := 10) rfl)) rfl ?_
        refine w_zret rfl (by omega) (by omega) (tX5_isCompare_0_ok (23, .ireturn, 1) (List.mem_of_getElem? (i := 12) rfl)) ?_
        exact hq v16 (by omega)
theorem s_letterOf {c : Int32} (hq : ∀ v : Int32, (sp_let c.toInt ∧ 0 ≤ v.toInt ∧ v.toInt ≤ 6 ∨ ¬ sp_let c.toInt ∧ v.toInt = -1) → Q (some (.int v)) h) : ww l D tys A X fr lo mX5_letterOf Q 0 [(0, .int c)] [] h := by
  refine w_iload_n (List.Mem.head _) (tX5_letterOf_0_ok (0, .iload_n 0, 1) (List.mem_of_getElem? (i := 0) rfl)) ?_
  have b1 : (c.toInt < 100 ∨ 120 < c.toInt) ∨ c.toInt = 100 ∨ c.toInt = 101 ∨ c.toInt = 102 ∨ c.toInt = 103 ∨ c.toInt = 104 ∨ c.toInt = 105 ∨ c.toInt = 106 ∨ c.toInt = 107 ∨ c.toInt = 108 ∨ c.toInt = 109 ∨ c.toInt = 110 ∨ c.toInt = 111 ∨ c.toInt = 112 ∨ c.toInt = 113 ∨ c.toInt = 114 ∨ c.toInt = 115 ∨ c.toInt = 116 ∨ c.toInt = 117 ∨ c.toInt = 118 ∨ c.toInt = 119 ∨ c.toInt = 120 := by omega
  rcases b1 with b1 | b1 | b1 | b1 | b1 | b1 | b1 | b1 | b1 | b1 | b1 | b1 | b1 | b1 | b1 | b1 | b1 | b1 | b1 | b1 | b1 | b1
  · refine w_tabOut (tgt := 115) (tX5_letterOf_0_ok (1, .tableswitch 114 100 120 #[107, 114, 114, 114, 105, 111, 114, 114, 103, 114, 114, 114, 99, 114, 114, 114, 109, 114, 114, 114, 101], 99) (List.mem_of_getElem? (i := 1) rfl)) b1 rfl ?_
    refine w_iconst (by decide) (tX5_letterOf_0_ok (115, .iconst (-1), 1) (List.mem_of_getElem? (i := 16) rfl)) (fun v2 e3 => ?_)
    refine w_iret rfl (tX5_letterOf_0_ok (116, .ireturn, 1) (List.mem_of_getElem? (i := 17) rfl)) ?_
    exact hq v2 (by omega)
  · refine w_tabIn (tgt := 108) (tX5_letterOf_0_ok (1, .tableswitch 114 100 120 #[107, 114, 114, 114, 105, 111, 114, 114, 103, 114, 114, 114, 99, 114, 114, 114, 109, 114, 114, 114, 101], 99) (List.mem_of_getElem? (i := 1) rfl)) b1 (by decide) (by decide) rfl rfl ?_
    refine w_iconst (by decide) (tX5_letterOf_0_ok (108, .iconst 4, 1) (List.mem_of_getElem? (i := 10) rfl)) (fun v4 e5 => ?_)
    refine w_iret rfl (tX5_letterOf_0_ok (109, .ireturn, 1) (List.mem_of_getElem? (i := 11) rfl)) ?_
    exact hq v4 (by omega)
  · refine w_tabIn (tgt := 115) (tX5_letterOf_0_ok (1, .tableswitch 114 100 120 #[107, 114, 114, 114, 105, 111, 114, 114, 103, 114, 114, 114, 99, 114, 114, 114, 109, 114, 114, 114, 101], 99) (List.mem_of_getElem? (i := 1) rfl)) b1 (by decide) (by decide) rfl rfl ?_
    refine w_iconst (by decide) (tX5_letterOf_0_ok (115, .iconst (-1), 1) (List.mem_of_getElem? (i := 16) rfl)) (fun v6 e7 => ?_)
    refine w_iret rfl (tX5_letterOf_0_ok (116, .ireturn, 1) (List.mem_of_getElem? (i := 17) rfl)) ?_
    exact hq v6 (by omega)
  · refine w_tabIn (tgt := 115) (tX5_letterOf_0_ok (1, .tableswitch 114 100 120 #[107, 114, 114, 114, 105, 111, 114, 114, 103, 114, 114, 114, 99, 114, 114, 114, 109, 114, 114, 114, 101], 99) (List.mem_of_getElem? (i := 1) rfl)) b1 (by decide) (by decide) rfl rfl ?_
    refine w_iconst (by decide) (tX5_letterOf_0_ok (115, .iconst (-1), 1) (List.mem_of_getElem? (i := 16) rfl)) (fun v8 e9 => ?_)
    refine w_iret rfl (tX5_letterOf_0_ok (116, .ireturn, 1) (List.mem_of_getElem? (i := 17) rfl)) ?_
    exact hq v8 (by omega)
  · refine w_tabIn (tgt := 115) (tX5_letterOf_0_ok (1, .tableswitch 114 100 120 #[107, 114, 114, 114, 105, 111, 114, 114, 103, 114, 114, 114, 99, 114, 114, 114, 109, 114, 114, 114, 101], 99) (List.mem_of_getElem? (i := 1) rfl)) b1 (by decide) (by decide) rfl rfl ?_
    refine w_iconst (by decide) (tX5_letterOf_0_ok (115, .iconst (-1), 1) (List.mem_of_getElem? (i := 16) rfl)) (fun v10 e11 => ?_)
    refine w_iret rfl (tX5_letterOf_0_ok (116, .ireturn, 1) (List.mem_of_getElem? (i := 17) rfl)) ?_
    exact hq v10 (by omega)
  · refine w_tabIn (tgt := 106) (tX5_letterOf_0_ok (1, .tableswitch 114 100 120 #[107, 114, 114, 114, 105, 111, 114, 114, 103, 114, 114, 114, 99, 114, 114, 114, 109, 114, 114, 114, 101], 99) (List.mem_of_getElem? (i := 1) rfl)) b1 (by decide) (by decide) rfl rfl ?_
    refine w_iconst (by decide) (tX5_letterOf_0_ok (106, .iconst 3, 1) (List.mem_of_getElem? (i := 8) rfl)) (fun v12 e13 => ?_)
    refine w_iret rfl (tX5_letterOf_0_ok (107, .ireturn, 1) (List.mem_of_getElem? (i := 9) rfl)) ?_
    exact hq v12 (by omega)
  · refine w_tabIn (tgt := 112) (tX5_letterOf_0_ok (1, .tableswitch 114 100 120 #[107, 114, 114, 114, 105, 111, 114, 114, 103, 114, 114, 114, 99, 114, 114, 114, 109, 114, 114, 114, 101], 99) (List.mem_of_getElem? (i := 1) rfl)) b1 (by decide) (by decide) rfl rfl ?_
    refine w_bipush (by decide) (tX5_letterOf_0_ok (112, .bipush 6, 2) (List.mem_of_getElem? (i := 14) rfl)) (fun v14 e15 => ?_)
    refine w_iret rfl (tX5_letterOf_0_ok (114, .ireturn, 1) (List.mem_of_getElem? (i := 15) rfl)) ?_
    exact hq v14 (by omega)
  · refine w_tabIn (tgt := 115) (tX5_letterOf_0_ok (1, .tableswitch 114 100 120 #[107, 114, 114, 114, 105, 111, 114, 114, 103, 114, 114, 114, 99, 114, 114, 114, 109, 114, 114, 114, 101], 99) (List.mem_of_getElem? (i := 1) rfl)) b1 (by decide) (by decide) rfl rfl ?_
    refine w_iconst (by decide) (tX5_letterOf_0_ok (115, .iconst (-1), 1) (List.mem_of_getElem? (i := 16) rfl)) (fun v16 e17 => ?_)
    refine w_iret rfl (tX5_letterOf_0_ok (116, .ireturn, 1) (List.mem_of_getElem? (i := 17) rfl)) ?_
    exact hq v16 (by omega)
  · refine w_tabIn (tgt := 115) (tX5_letterOf_0_ok (1, .tableswitch 114 100 120 #[107, 114, 114, 114, 105, 111, 114, 114, 103, 114, 114, 114, 99, 114, 114, 114, 109, 114, 114, 114, 101], 99) (List.mem_of_getElem? (i := 1) rfl)) b1 (by decide) (by decide) rfl rfl ?_
    refine w_iconst (by decide) (tX5_letterOf_0_ok (115, .iconst (-1), 1) (List.mem_of_getElem? (i := 16) rfl)) (fun v18 e19 => ?_)
    refine w_iret rfl (tX5_letterOf_0_ok (116, .ireturn, 1) (List.mem_of_getElem? (i := 17) rfl)) ?_
    exact hq v18 (by omega)
  · refine w_tabIn (tgt := 104) (tX5_letterOf_0_ok (1, .tableswitch 114 100 120 #[107, 114, 114, 114, 105, 111, 114, 114, 103, 114, 114, 114, 99, 114, 114, 114, 109, 114, 114, 114, 101], 99) (List.mem_of_getElem? (i := 1) rfl)) b1 (by decide) (by decide) rfl rfl ?_
    refine w_iconst (by decide) (tX5_letterOf_0_ok (104, .iconst 2, 1) (List.mem_of_getElem? (i := 6) rfl)) (fun v20 e21 => ?_)
    refine w_iret rfl (tX5_letterOf_0_ok (105, .ireturn, 1) (List.mem_of_getElem? (i := 7) rfl)) ?_
    exact hq v20 (by omega)
  · refine w_tabIn (tgt := 115) (tX5_letterOf_0_ok (1, .tableswitch 114 100 120 #[107, 114, 114, 114, 105, 111, 114, 114, 103, 114, 114, 114, 99, 114, 114, 114, 109, 114, 114, 114, 101], 99) (List.mem_of_getElem? (i := 1) rfl)) b1 (by decide) (by decide) rfl rfl ?_
    refine w_iconst (by decide) (tX5_letterOf_0_ok (115, .iconst (-1), 1) (List.mem_of_getElem? (i := 16) rfl)) (fun v22 e23 => ?_)
    refine w_iret rfl (tX5_letterOf_0_ok (116, .ireturn, 1) (List.mem_of_getElem? (i := 17) rfl)) ?_
    exact hq v22 (by omega)
  · refine w_tabIn (tgt := 115) (tX5_letterOf_0_ok (1, .tableswitch 114 100 120 #[107, 114, 114, 114, 105, 111, 114, 114, 103, 114, 114, 114, 99, 114, 114, 114, 109, 114, 114, 114, 101], 99) (List.mem_of_getElem? (i := 1) rfl)) b1 (by decide) (by decide) rfl rfl ?_
    refine w_iconst (by decide) (tX5_letterOf_0_ok (115, .iconst (-1), 1) (List.mem_of_getElem? (i := 16) rfl)) (fun v24 e25 => ?_)
    refine w_iret rfl (tX5_letterOf_0_ok (116, .ireturn, 1) (List.mem_of_getElem? (i := 17) rfl)) ?_
    exact hq v24 (by omega)
  · refine w_tabIn (tgt := 115) (tX5_letterOf_0_ok (1, .tableswitch 114 100 120 #[107, 114, 114, 114, 105, 111, 114, 114, 103, 114, 114, 114, 99, 114, 114, 114, 109, 114, 114, 114, 101], 99) (List.mem_of_getElem? (i := 1) rfl)) b1 (by decide) (by decide) rfl rfl ?_
    refine w_iconst (by decide) (tX5_letterOf_0_ok (115, .iconst (-1), 1) (List.mem_of_getElem? (i := 16) rfl)) (fun v26 e27 => ?_)
    refine w_iret rfl (tX5_letterOf_0_ok (116, .ireturn, 1) (List.mem_of_getElem? (i := 17) rfl)) ?_
    exact hq v26 (by omega)
  · refine w_tabIn (tgt := 100) (tX5_letterOf_0_ok (1, .tableswitch 114 100 120 #[107, 114, 114, 114, 105, 111, 114, 114, 103, 114, 114, 114, 99, 114, 114, 114, 109, 114, 114, 114, 101], 99) (List.mem_of_getElem? (i := 1) rfl)) b1 (by decide) (by decide) rfl rfl ?_
    refine w_iconst (by decide) (tX5_letterOf_0_ok (100, .iconst 0, 1) (List.mem_of_getElem? (i := 2) rfl)) (fun v28 e29 => ?_)
    refine w_iret rfl (tX5_letterOf_0_ok (101, .ireturn, 1) (List.mem_of_getElem? (i := 3) rfl)) ?_
    exact hq v28 (by omega)
  · refine w_tabIn (tgt := 115) (tX5_letterOf_0_ok (1, .tableswitch 114 100 120 #[107, 114, 114, 114, 105, 111, 114, 114, 103, 114, 114, 114, 99, 114, 114, 114, 109, 114, 114, 114, 101], 99) (List.mem_of_getElem? (i := 1) rfl)) b1 (by decide) (by decide) rfl rfl ?_
    refine w_iconst (by decide) (tX5_letterOf_0_ok (115, .iconst (-1), 1) (List.mem_of_getElem? (i := 16) rfl)) (fun v30 e31 => ?_)
    refine w_iret rfl (tX5_letterOf_0_ok (116, .ireturn, 1) (List.mem_of_getElem? (i := 17) rfl)) ?_
    exact hq v30 (by omega)
  · refine w_tabIn (tgt := 115) (tX5_letterOf_0_ok (1, .tableswitch 114 100 120 #[107, 114, 114, 114, 105, 111, 114, 114, 103, 114, 114, 114, 99, 114, 114, 114, 109, 114, 114, 114, 101], 99) (List.mem_of_getElem? (i := 1) rfl)) b1 (by decide) (by decide) rfl rfl ?_
    refine w_iconst (by decide) (tX5_letterOf_0_ok (115, .iconst (-1), 1) (List.mem_of_getElem? (i := 16) rfl)) (fun v32 e33 => ?_)
    refine w_iret rfl (tX5_letterOf_0_ok (116, .ireturn, 1) (List.mem_of_getElem? (i := 17) rfl)) ?_
    exact hq v32 (by omega)
  · refine w_tabIn (tgt := 115) (tX5_letterOf_0_ok (1, .tableswitch 114 100 120 #[107, 114, 114, 114, 105, 111, 114, 114, 103, 114, 114, 114, 99, 114, 114, 114, 109, 114, 114, 114, 101], 99) (List.mem_of_getElem? (i := 1) rfl)) b1 (by decide) (by decide) rfl rfl ?_
    refine w_iconst (by decide) (tX5_letterOf_0_ok (115, .iconst (-1), 1) (List.mem_of_getElem? (i := 16) rfl)) (fun v34 e35 => ?_)
    refine w_iret rfl (tX5_letterOf_0_ok (116, .ireturn, 1) (List.mem_of_getElem? (i := 17) rfl)) ?_
    exact hq v34 (by omega)
  · refine w_tabIn (tgt := 110) (tX5_letterOf_0_ok (1, .tableswitch 114 100 120 #[107, 114, 114, 114, 105, 111, 114, 114, 103, 114, 114, 114, 99, 114, 114, 114, 109, 114, 114, 114, 101], 99) (List.mem_of_getElem? (i := 1) rfl)) b1 (by decide) (by decide) rfl rfl ?_
    refine w_iconst (by decide) (tX5_letterOf_0_ok (110, .iconst 5, 1) (List.mem_of_getElem? (i := 12) rfl)) (fun v36 e37 => ?_)
    refine w_iret rfl (tX5_letterOf_0_ok (111, .ireturn, 1) (List.mem_of_getElem? (i := 13) rfl)) ?_
    exact hq v36 (by omega)
  · refine w_tabIn (tgt := 115) (tX5_letterOf_0_ok (1, .tableswitch 114 100 120 #[107, 114, 114, 114, 105, 111, 114, 114, 103, 114, 114, 114, 99, 114, 114, 114, 109, 114, 114, 114, 101], 99) (List.mem_of_getElem? (i := 1) rfl)) b1 (by decide) (by decide) rfl rfl ?_
    refine w_iconst (by decide) (tX5_letterOf_0_ok (115, .iconst (-1), 1) (List.mem_of_getElem? (i := 16) rfl)) (fun v38 e39 => ?_)
    refine w_iret rfl (tX5_letterOf_0_ok (116, .ireturn, 1) (List.mem_of_getElem? (i := 17) rfl)) ?_
    exact hq v38 (by omega)
  · refine w_tabIn (tgt := 115) (tX5_letterOf_0_ok (1, .tableswitch 114 100 120 #[107, 114, 114, 114, 105, 111, 114, 114, 103, 114, 114, 114, 99, 114, 114, 114, 109, 114, 114, 114, 101], 99) (List.mem_of_getElem? (i := 1) rfl)) b1 (by decide) (by decide) rfl rfl ?_
    refine w_iconst (by decide) (tX5_letterOf_0_ok (115, .iconst (-1), 1) (List.mem_of_getElem? (i := 16) rfl)) (fun v40 e41 => ?_)
    refine w_iret rfl (tX5_letterOf_0_ok (116, .ireturn, 1) (List.mem_of_getElem? (i := 17) rfl)) ?_
    exact hq v40 (by omega)
  · refine w_tabIn (tgt := 115) (tX5_letterOf_0_ok (1, .tableswitch 114 100 120 #[107, 114, 114, 114, 105, 111, 114, 114, 103, 114, 114, 114, 99, 114, 114, 114, 109, 114, 114, 114, 101], 99) (List.mem_of_getElem? (i := 1) rfl)) b1 (by decide) (by decide) rfl rfl ?_
    refine w_iconst (by decide) (tX5_letterOf_0_ok (115, .iconst (-1), 1) (List.mem_of_getElem? (i := 16) rfl)) (fun v42 e43 => ?_)
    refine w_iret rfl (tX5_letterOf_0_ok (116, .ireturn, 1) (List.mem_of_getElem? (i := 17) rfl)) ?_
    exact hq v42 (by omega)
  · refine w_tabIn (tgt := 102) (tX5_letterOf_0_ok (1, .tableswitch 114 100 120 #[107, 114, 114, 114, 105, 111, 114, 114, 103, 114, 114, 114, 99, 114, 114, 114, 109, 114, 114, 114, 101], 99) (List.mem_of_getElem? (i := 1) rfl)) b1 (by decide) (by decide) rfl rfl ?_
    refine w_iconst (by decide) (tX5_letterOf_0_ok (102, .iconst 1, 1) (List.mem_of_getElem? (i := 4) rfl)) (fun v44 e45 => ?_)
    refine w_iret rfl (tX5_letterOf_0_ok (103, .ireturn, 1) (List.mem_of_getElem? (i := 5) rfl)) ?_
    exact hq v44 (by omega)
end
def sp_atom (f : Nat → Int32) (len : Nat) (N : Nat → Nat ⊕ Nat) (n : Nat) : Nat ⊕ Nat := if sp_sg f len (sp_sk f len n) = 91 then N (sp_sk f len n) else if sp_let (sp_sg f len (sp_sk f len n)) then .inr (sp_sk f len n + 1) else (sp_num f len 4 (sp_sk f len n)).1
def sp_loop (f : Nat → Int32) (len : Nat) (ops : Int → Bool) (G : Nat → Nat ⊕ Nat) : Nat → Nat → Nat ⊕ Nat
  | 0, n => .inr n
  | j + 1, n => if ops (sp_sg f len (sp_sk f len n)) = true then sp_bd (G (sp_sk f len n + 1)) (sp_loop f len ops G j) else .inr (sp_sk f len n)
def sp_pl (c : Int) : Bool := c == 43 || c == 45 || c == 42 || c == 47
def sp_an (c : Int) : Bool := c == 38 || c == 124
def sp_sum (f : Nat → Int32) (len : Nat) (N : Nat → Nat ⊕ Nat) (n : Nat) : Nat ⊕ Nat := sp_bd (sp_atom f len N n) (sp_loop f len sp_pl (sp_atom f len N) 160)
def sp_cm (f : Nat → Int32) (len : Nat) (N : Nat → Nat ⊕ Nat) (n : Nat) : Nat ⊕ Nat := if sp_cmp (sp_sg f len (sp_sk f len n)) then sp_sum f len N (sp_sk f len n + 1) else .inl (sp_sk f len n)
def sp_unit (f : Nat → Int32) (len : Nat) (N NB NP : Nat → Nat ⊕ Nat) (n : Nat) : Nat ⊕ Nat := if sp_sg f len (sp_sk f len n) = 33 then NB (sp_sk f len n) else if sp_sg f len (sp_sk f len n) = 40 then NP (sp_sk f len n) else sp_bd (sp_sum f len N (sp_sk f len n)) (sp_cm f len N)
def sp_cond (f : Nat → Int32) (len : Nat) (N NB NP : Nat → Nat ⊕ Nat) (n : Nat) : Nat ⊕ Nat := sp_bd (sp_unit f len N NB NP n) (sp_loop f len sp_an (sp_unit f len N NB NP) 160)
/-- what stands behind the signs [ ! ( where so many levels are left -/
def sp_lv (f : Nat → Int32) (len : Nat) : Nat → (Nat → Nat ⊕ Nat) × (Nat → Nat ⊕ Nat) × (Nat → Nat ⊕ Nat)
  | 0 => (.inl, .inl, .inl)
  | d + 1 => (fun m => sp_bd (sp_sum f len (sp_lv f len d).1 (m + 1)) (sp_tk f len 93), fun m => sp_unit f len (sp_lv f len d).1 (sp_lv f len d).2.1 (sp_lv f len d).2.2 (m + 1), fun m => sp_bd (sp_cond f len (sp_lv f len d).1 (sp_lv f len d).2.1 (sp_lv f len d).2.2 (m + 1)) (sp_tk f len 41))
theorem sp_sk_sk (f : Nat → Int32) (len n : Nat) : sp_sk f len (sp_sk f len n) = sp_sk f len n := by
  generalize hk : len - n = k
  induction k using Nat.strongRecOn generalizing n with
  | ind k ih =>
    by_cases c : n < len ∧ (f n).toInt = 32
    · rw [sp_sk_y c.1 c.2]
      exact ih (len - (n + 1)) (by omega) (n + 1) rfl
    · have e : sp_sk f len n = n := sp_sk_n (fun a b => c ⟨a, b⟩)
      rw [e, e]
theorem sp_go.is {g : Nat → Nat ⊕ Nat} {a0 f0 a1 f1 : Int32} (p : sp_go g a0 f0 a1 f1) (h : f0.toInt = -1) : sp_is (g a0.toInt.toNat) a1 f1 := by
  rcases p with ⟨p1, p2⟩ | ⟨p1, p2⟩
  · exact absurd h p1
  · exact p2
/-- a method of a RULE that reads: what it comes to -/
def PR (l : Launch) (D : va_G) (tys : List (ClassId × FieldType)) (A : Nat → Prop) (X : State → Prop) (cA : Nat → ClassId) (t b : Nat) (f : Nat → Int32) (len : Int32) (r k s : Nat) (M : ch_M) (L : List (Nat × Value)) (P : Int32 → Int32 → Prop) (g : Nat → Nat ⊕ Nat) (nf nl : Nat) : Prop :=
  ∀ (fr lo : Nat) (Q : Option Value → ch_H → Prop) (h : ch_H) (at0 fl0 : Int32), nf ≤ fr → nl ≤ lo → P at0 fl0 → tp cA h t b f len at0 fl0 → ru cA h r k s →
    (∀ (h1 : ch_H) (at1 fl1 : Int32), tp cA h1 t b f len at1 fl1 → ru cA h1 r k s → sp_go g at0 fl0 at1 fl1 → (∀ q, q ≠ t ∧ q ≠ r ∧ q ≠ k → h1 q = h q) → Q none h1) → ww l D tys A X fr lo M Q 0 L [] h
section
variable {l : Launch} {D : va_G} {tys : List (ClassId × FieldType)} {A : Nat → Prop} {X : State → Prop} {cA : Nat → ClassId} {t b r k s : Nat} {f : Nat → Int32} {len : Int32}
theorem s_atom (hT : k_tys tys cA) (hN : ns t b r k) {d : Nat} {N NB NP : Nat → Nat ⊕ Nat} {depth : Int32} (hd : depth.toInt = 6 - (d : Int)) (h6 : d ≤ 6) (hnest : ∀ c : Int32, c.toInt = 91 → PR l D tys A X cA t b f len r k s mX5_nested [(0, .ref r), (1, .ref t), (2, .int depth), (3, .int c)] (fun a fl => fl.toInt = -1 ∧ a.toInt < len.toInt) N (5 * d + 1) (140 * d + 60)) : PR l D tys A X cA t b f len r k s mX5_atom [(0, .ref r), (1, .ref t), (2, .int depth)] (fun _ _ => True) (sp_atom f len.toInt.toNat N) (5 * d + 2) (140 * d + 90) := by
  have hN0 := hN
  obtain ⟨n_b_t, n_r_t, n_k_t, n_r_b, n_k_b, n_r_k⟩ := hN
  have n_t_b := n_b_t.symm
  have n_t_r := n_r_t.symm
  have n_t_k := n_k_t.symm
  have n_b_r := n_r_b.symm
  have n_b_k := n_k_b.symm
  have n_k_r := n_r_k.symm
  intro fr lo Q h at0 fl0 hf hl hP H R hq
  obtain ⟨c_t, c_b, -, l1, l2, a1, a2⟩ := H
  obtain ⟨g, sz, c_r, c_k, z1, z2, gb⟩ := R
  refine w_aload_n (List.Mem.tail _ (List.Mem.head _)) (tX5_atom_0_ok (0, .aload_n 1, 1) (List.mem_of_getElem? (i := 0) rfl)) ?_
  refine w_callV (own := 10) (mi := 74) [] [] [(0, .ref t)] rfl (cllw_X5 (31, 0, 74) (List.mem_of_getElem? (i := 6) rfl)) rfl rfl c_t rfl (by omega) (w_lo (n := 20) rfl (by omega)) (Nat.le_of_ble_eq_true rfl) (Nat.le_of_ble_eq_true rfl) rfl (tX5_atom_0_ok (1, .invokevirtual 31, 3) (List.mem_of_getElem? (i := 1) rfl)) (s_isWrong hT ⟨c_t, c_b, n_b_t, l1, l2, by omega, by omega⟩ (fun v1 e2 => ?_))
  show ww l D tys A X fr lo mX5_atom Q 4 [(0, .ref r), (1, .ref t), (2, .int depth)] [.int v1] h
  refine w_if_eq (tgt := 8) (tX5_atom_0_ok (4, .ifCond .eq 4, 3) (List.mem_of_getElem? (i := 2) rfl)) rfl (fun b3 => ?_) (fun b3 => ?_)
  · refine w_aload_n (List.Mem.tail _ (List.Mem.head _)) (tX5_atom_0_ok (8, .aload_n 1, 1) (List.mem_of_getElem? (i := 4) rfl)) ?_
    refine w_callV (own := 10) (mi := 77) [] [] [(0, .ref t)] rfl (cllw_X5 (35, 0, 77) (List.mem_of_getElem? (i := 3) rfl)) rfl rfl c_t rfl (by omega) (w_lo (n := 20) rfl (by omega)) (Nat.le_of_ble_eq_true rfl) (Nat.le_of_ble_eq_true rfl) rfl (tX5_atom_0_ok (9, .invokevirtual 35, 3) (List.mem_of_getElem? (i := 5) rfl)) (s_sign hT ⟨c_t, c_b, n_b_t, l1, l2, by omega, by omega⟩ (fun h4 at5 v6 p7 e8 e9 o10 => ?_))
    obtain ⟨c11, c12, -, -, -, a13, a14⟩ := p7
    have c15 := (o10 r n_r_t).trans c_r
    have c16 := (o10 k n_k_t).trans c_k
    show ww l D tys A X fr lo mX5_atom Q 12 [(0, .ref r), (1, .ref t), (2, .int depth)] [.int v6] h4
    rw [e8] at e9
    have g17 := sp_sg_or f len.toInt.toNat (sp_sk f len.toInt.toNat at0.toInt.toNat)
    refine w_istore_n [(3, .int v6), (0, .ref r), (1, .ref t), (2, .int depth)] rfl (Nat.le_of_ble_eq_true rfl) (tX5_atom_0_ok (12, .istore_n 3, 1) (List.mem_of_getElem? (i := 6) rfl)) ?_
    refine w_iload_n (List.Mem.head _) (tX5_atom_0_ok (13, .iload_n 3, 1) (List.mem_of_getElem? (i := 7) rfl)) ?_
    refine w_callS (own := 10) (mi := 59) [.int v6] [] [(0, .int v6)] rfl (cllw_X5 (74, 1, 59) (List.mem_of_getElem? (i := 7) rfl)) rfl rfl (by omega) (w_lo (n := 20) rfl (by omega)) (Nat.le_of_ble_eq_true rfl) (Nat.le_of_ble_eq_true rfl) rfl (tX5_atom_0_ok (14, .invokestatic 74, 3) (List.mem_of_getElem? (i := 8) rfl)) (s_letterOf (fun v18 e19 => ?_))
    show ww l D tys A X fr lo mX5_atom Q 17 [(3, .int v6), (0, .ref r), (1, .ref t), (2, .int depth)] [.int v18] h4
    refine w_istore [(4, .int v18), (3, .int v6), (0, .ref r), (1, .ref t), (2, .int depth)] rfl (Nat.le_of_ble_eq_true rfl) (tX5_atom_0_ok (17, .istore 4, 2) (List.mem_of_getElem? (i := 9) rfl)) ?_
    refine w_iload_n (List.Mem.tail _ (List.Mem.head _)) (tX5_atom_0_ok (19, .iload_n 3, 1) (List.mem_of_getElem? (i := 10) rfl)) ?_
    refine w_bipush (by decide) (tX5_atom_0_ok (20, .bipush 91, 2) (List.mem_of_getElem? (i := 11) rfl)) (fun v20 e21 => ?_)
    refine w_icmp_ne (tgt := 35) (tX5_atom_0_ok (22, .if_icmp .ne 13, 3) (List.mem_of_getElem? (i := 12) rfl)) rfl (fun b22 => ?_) (fun b22 => ?_)
    · refine w_iload (List.Mem.head _) (tX5_atom_0_ok (35, .iload 4, 2) (List.mem_of_getElem? (i := 19) rfl)) ?_
      refine w_if_lt (tgt := 61) (tX5_atom_0_ok (37, .ifCond .lt 24, 3) (List.mem_of_getElem? (i := 20) rfl)) rfl (fun b23 => ?_) (fun b23 => ?_)
      · refine w_aload_n (List.Mem.tail _ (List.Mem.tail _ (List.Mem.head _))) (tX5_atom_0_ok (61, .aload_n 0, 1) (List.mem_of_getElem? (i := 33) rfl)) ?_
        refine w_aload_n (List.Mem.tail _ (List.Mem.tail _ (List.Mem.tail _ (List.Mem.head _)))) (tX5_atom_0_ok (62, .aload_n 1, 1) (List.mem_of_getElem? (i := 34) rfl)) ?_
        refine w_iconst (by decide) (tX5_atom_0_ok (63, .iconst 4, 1) (List.mem_of_getElem? (i := 35) rfl)) (fun v24 e25 => ?_)
        refine w_callV (own := 10) (mi := 75) [.int v24] [.ref r] [(0, .ref t), (1, .int v24)] rfl (cllw_X5 (78, 0, 75) (List.mem_of_getElem? (i := 14) rfl)) rfl rfl c11 rfl (by omega) (w_lo (n := 23) rfl (by omega)) (Nat.le_of_ble_eq_true rfl) (Nat.le_of_ble_eq_true rfl) rfl (tX5_atom_0_ok (64, .invokevirtual 78, 3) (List.mem_of_getElem? (i := 36) rfl)) (s_number hT ⟨by omega, w_sub (n := 23) rfl (by omega)⟩ (by omega) (by omega) ⟨c11, c12, n_b_t, l1, l2, by omega, by omega⟩ (fun h26 at27 fl28 v29 p30 e31 e32 e33 o34 => ?_))
        obtain ⟨c35, c36, -, -, -, a37, a38⟩ := p30
        have c39 := (o34 r n_r_t).trans c15
        have c40 := (o34 k n_k_t).trans c16
        show ww l D tys A X fr lo mX5_atom Q 67 [(4, .int v18), (3, .int v6), (0, .ref r), (1, .ref t), (2, .int depth)] [.int v29, .ref r] h26
        have k9 : v24.toInt.toNat = 4 := by omega
        rw [k9] at e31 e32
        refine w_callV (own := 10) (mi := 56) [.int v29] [] [(0, .ref r), (1, .int v29)] rfl (cllw_X5 (55, 0, 56) (List.mem_of_getElem? (i := 12) rfl)) rfl rfl c39 rfl (by omega) (w_lo (n := 21) rfl (by omega)) (Nat.le_of_ble_eq_true rfl) (Nat.le_of_ble_eq_true rfl) rfl (tX5_atom_0_ok (67, .invokevirtual 55, 3) (List.mem_of_getElem? (i := 37) rfl)) (s_emit hT n_r_k ⟨g, sz, c39, c40, by omega, by omega, gb⟩ (by omega) (fun h41 u42 o43 => ?_))
        have c44 := (o43 t ⟨n_t_r, n_t_k⟩).trans c35
        have c45 := (o43 b ⟨n_b_r, n_b_k⟩).trans c36
        obtain ⟨g46, sz47, c48, c49, z50, z51, gb52⟩ := u42
        show ww l D tys A X fr lo mX5_atom Q 70 [(4, .int v18), (3, .int v6), (0, .ref r), (1, .ref t), (2, .int depth)] [] h41
        refine w_vret rfl (tX5_atom_0_ok (70, .return_, 1) (List.mem_of_getElem? (i := 38) rfl)) ?_
        refine hq h41 at27 fl28 ⟨c44, c45, n_b_t, l1, l2, by omega, by omega⟩ ⟨g46, sz47, c48, c49, by omega, by omega, gb52⟩ ?_ (fun q hq => (o43 q ⟨hq.2.1, hq.2.2⟩).trans ((o34 q hq.1).trans (o10 q hq.1)))
        refine Or.inr ⟨by omega, ?_⟩
        unfold sp_atom
        rw [if_neg (by omega), if_neg (by omega)]
        rw [e8] at e32
        exact e32
      · refine w_aload_n (List.Mem.tail _ (List.Mem.tail _ (List.Mem.tail _ (List.Mem.head _)))) (tX5_atom_0_ok (40, .aload_n 1, 1) (List.mem_of_getElem? (i := 21) rfl)) ?_
        refine w_dup rfl (tX5_atom_0_ok (41, .dup, 1) (List.mem_of_getElem? (i := 22) rfl)) ?_
        refine w_get (own := 10) rfl rfl (by decide) c11 rfl (tX5_atom_0_ok (42, .getfield 61, 3) (List.mem_of_getElem? (i := 23) rfl)) ?_
        refine w_iconst (by decide) (tX5_atom_0_ok (45, .iconst 1, 1) (List.mem_of_getElem? (i := 24) rfl)) (fun v53 e54 => ?_)
        refine w_iadd (by omega) (by omega) (tX5_atom_0_ok (46, .iadd, 1) (List.mem_of_getElem? (i := 25) rfl)) (fun v55 e56 => ?_)
        refine w_put (own := 10) [.ref b, .int len, .int v55, .int fl0] rfl rfl rfl (by decide) rfl ⟨rfl, rfl⟩ c11 (Nat.le_of_ble_eq_true rfl) (tX5_atom_0_ok (47, .putfield 61, 3) (List.mem_of_getElem? (i := 26) rfl)) (fun h57 c58 o59 => ?_)
        have c60 := (o59 b n_b_t).trans c12
        have c61 := (o59 r n_r_t).trans c15
        have c62 := (o59 k n_k_t).trans c16
        refine w_aload_n (List.Mem.tail _ (List.Mem.tail _ (List.Mem.head _))) (tX5_atom_0_ok (50, .aload_n 0, 1) (List.mem_of_getElem? (i := 27) rfl)) ?_
        refine w_iconst (by decide) (tX5_atom_0_ok (51, .iconst (-1), 1) (List.mem_of_getElem? (i := 28) rfl)) (fun v63 e64 => ?_)
        refine w_iload (List.Mem.head _) (tX5_atom_0_ok (52, .iload 4, 2) (List.mem_of_getElem? (i := 29) rfl)) ?_
        refine w_isub (by omega) (by omega) (tX5_atom_0_ok (54, .isub, 1) (List.mem_of_getElem? (i := 30) rfl)) (fun v65 e66 => ?_)
        refine w_callV (own := 10) (mi := 56) [.int v65] [] [(0, .ref r), (1, .int v65)] rfl (cllw_X5 (55, 0, 56) (List.mem_of_getElem? (i := 12) rfl)) rfl rfl c61 rfl (by omega) (w_lo (n := 21) rfl (by omega)) (Nat.le_of_ble_eq_true rfl) (Nat.le_of_ble_eq_true rfl) rfl (tX5_atom_0_ok (55, .invokevirtual 55, 3) (List.mem_of_getElem? (i := 31) rfl)) (s_emit hT n_r_k ⟨g, sz, c61, c62, by omega, by omega, gb⟩ (by omega) (fun h67 u68 o69 => ?_))
        have c70 := (o69 t ⟨n_t_r, n_t_k⟩).trans c58
        have c71 := (o69 b ⟨n_b_r, n_b_k⟩).trans c60
        obtain ⟨g72, sz73, c74, c75, z76, z77, gb78⟩ := u68
        show ww l D tys A X fr lo mX5_atom Q 58 [(4, .int v18), (3, .int v6), (0, .ref r), (1, .ref t), (2, .int depth)] [] h67
        refine w_goto (tgt := 70) (tX5_atom_0_ok (58, .goto 12, 3) (List.mem_of_getElem? (i := 32) rfl)) rfl ?_
        refine w_vret rfl (tX5_atom_0_ok (70, .return_, 1) (List.mem_of_getElem? (i := 38) rfl)) ?_
        refine hq h67 v55 fl0 ⟨c70, c71, n_b_t, l1, l2, by omega, by omega⟩ ⟨g72, sz73, c74, c75, by omega, by omega, gb78⟩ ?_ (fun q hq => (o69 q ⟨hq.2.1, hq.2.2⟩).trans ((o59 q hq.1).trans (o10 q hq.1)))
        refine Or.inr ⟨by omega, ?_⟩
        unfold sp_atom
        rw [if_neg (by omega), if_pos (by omega)]
        exact ⟨by omega, by omega⟩
    · refine w_aload_n (List.Mem.tail _ (List.Mem.tail _ (List.Mem.head _))) (tX5_atom_0_ok (25, .aload_n 0, 1) (List.mem_of_getElem? (i := 13) rfl)) ?_
      refine w_aload_n (List.Mem.tail _ (List.Mem.tail _ (List.Mem.tail _ (List.Mem.head _)))) (tX5_atom_0_ok (26, .aload_n 1, 1) (List.mem_of_getElem? (i := 14) rfl)) ?_
      refine w_iload_n (List.Mem.tail _ (List.Mem.tail _ (List.Mem.tail _ (List.Mem.tail _ (List.Mem.head _))))) (tX5_atom_0_ok (27, .iload_n 2, 1) (List.mem_of_getElem? (i := 15) rfl)) ?_
      refine w_iload_n (List.Mem.tail _ (List.Mem.head _)) (tX5_atom_0_ok (28, .iload_n 3, 1) (List.mem_of_getElem? (i := 16) rfl)) ?_
      refine w_callV (own := 10) (mi := 60) [.ref t, .int depth, .int v6] [] [(0, .ref r), (1, .ref t), (2, .int depth), (3, .int v6)] rfl (cllw_X5 (64, 0, 60) (List.mem_of_getElem? (i := 8) rfl)) rfl rfl c15 rfl (by omega) (w_lo (n := 23) rfl (by omega)) (Nat.le_of_ble_eq_true rfl) (Nat.le_of_ble_eq_true rfl) rfl (tX5_atom_0_ok (29, .invokevirtual 64, 3) (List.mem_of_getElem? (i := 17) rfl)) ((hnest v6 (by omega)) _ _ _ _ _ _ (by omega) (w_sub (n := 23) rfl (by omega)) ⟨by omega, by omega⟩ ⟨c11, c12, n_b_t, l1, l2, by omega, by omega⟩ ⟨g, sz, c15, c16, by omega, by omega, gb⟩ (fun h79 at80 fl81 p82 u83 e84 o85 => ?_))
      obtain ⟨c88, c89, -, -, -, a86, a87⟩ := p82
      obtain ⟨g90, sz91, c92, c93, z94, z95, gb96⟩ := u83
      show ww l D tys A X fr lo mX5_atom Q 32 [(4, .int v18), (3, .int v6), (0, .ref r), (1, .ref t), (2, .int depth)] [] h79
      refine w_goto (tgt := 70) (tX5_atom_0_ok (32, .goto 38, 3) (List.mem_of_getElem? (i := 18) rfl)) rfl ?_
      refine w_vret rfl (tX5_atom_0_ok (70, .return_, 1) (List.mem_of_getElem? (i := 38) rfl)) ?_
      refine hq h79 at80 fl81 ⟨c88, c89, n_b_t, l1, l2, by omega, by omega⟩ ⟨g90, sz91, c92, c93, by omega, by omega, gb96⟩ ?_ (fun q hq => (o85 q ⟨hq.1, hq.2.1, hq.2.2⟩).trans (o10 q hq.1))
      refine Or.inr ⟨by omega, ?_⟩
      unfold sp_atom
      rw [if_pos (by omega)]
      have y9 := e84.is (by omega)
      rw [e8] at y9
      exact y9
  · refine w_vret rfl (tX5_atom_0_ok (7, .return_, 1) (List.mem_of_getElem? (i := 3) rfl)) ?_
    refine hq h at0 fl0 ⟨c_t, c_b, n_b_t, l1, l2, by omega, by omega⟩ ⟨g, sz, c_r, c_k, by omega, by omega, gb⟩ ?_ (fun q hq => rfl)
    exact Or.inl ⟨by omega, rfl⟩
theorem sp_pl_iff {c : Int} : sp_pl c = true ↔ c = 43 ∨ c = 45 ∨ c = 42 ∨ c = 47 := by simp only [sp_pl, Bool.or_eq_true, beq_iff_eq]; omega
theorem sp_an_iff {c : Int} : sp_an c = true ↔ c = 38 ∨ c = 124 := by simp only [sp_an, Bool.or_eq_true, beq_iff_eq]
theorem s_sumL (hT : k_tys tys cA) (hN : ns t b r k) {d : Nat} {N NB NP : Nat → Nat ⊕ Nat} {depth : Int32} (hd : depth.toInt = 6 - (d : Int)) (h6 : d ≤ 6) (hatom : PR l D tys A X cA t b f len r k s mX5_atom [(0, .ref r), (1, .ref t), (2, .int depth)] (fun _ _ => True) (sp_atom f len.toInt.toNat N) (5 * d + 2) (140 * d + 90)) : ∀ (j : Nat) (fr lo : Nat) (Q : Option Value → ch_H → Prop) (h : ch_H) (at0 fl0 i wt : Int32), 5 * d + 3 ≤ fr → 140 * d + 115 ≤ lo → 160 - i.toInt = j → 0 ≤ i.toInt → 0 ≤ wt.toInt ∧ wt.toInt ≤ 255 → tp cA h t b f len at0 fl0 → ru cA h r k s →
    (∀ (h1 : ch_H) (at1 fl1 : Int32), tp cA h1 t b f len at1 fl1 → ru cA h1 r k s → sp_go (sp_loop f len.toInt.toNat sp_pl (sp_atom f len.toInt.toNat N) j) at0 fl0 at1 fl1 → (∀ q, q ≠ t ∧ q ≠ r ∧ q ≠ k → h1 q = h q) → Q none h1) → ww l D tys A X fr lo mX5_sum Q 11 [(4, .int i), (3, .int wt), (0, .ref r), (1, .ref t), (2, .int depth)] [] h := by
  obtain ⟨n_b_t, n_r_t, n_k_t, n_r_b, n_k_b, n_r_k⟩ := hN
  have n_t_b := n_b_t.symm
  have n_t_r := n_r_t.symm
  have n_t_k := n_k_t.symm
  have n_b_r := n_r_b.symm
  have n_b_k := n_k_b.symm
  have n_k_r := n_r_k.symm
  intro j
  induction j using Nat.strongRecOn with
  | ind j ih =>
    intro fr lo Q h at0 fl0 i wt hf hl hj hi hw H R hq
    obtain ⟨c_t, c_b, -, l1, l2, a1, a2⟩ := H
    obtain ⟨g, sz, c_r, c_k, z1, z2, gb⟩ := R
    refine w_iload (List.Mem.head _) (tX5_sum_0_ok (11, .iload 4, 2) (List.mem_of_getElem? (i := 8) rfl)) ?_
    refine w_sipush (by decide) (tX5_sum_0_ok (13, .sipush 160, 3) (List.mem_of_getElem? (i := 9) rfl)) (fun v1 e2 => ?_)
    refine w_icmp_ge (tgt := 142) (tX5_sum_0_ok (16, .if_icmp .ge 126, 3) (List.mem_of_getElem? (i := 10) rfl)) rfl (fun b3 => ?_) (fun b3 => ?_)
    · refine w_iload_n (List.Mem.tail _ (List.Mem.head _)) (tX5_sum_1_ok (142, .iload_n 3, 1) (List.mem_of_getElem? (i := 10) rfl)) ?_
      refine w_if_eq (tgt := 155) (tX5_sum_1_ok (143, .ifCond .eq 12, 3) (List.mem_of_getElem? (i := 11) rfl)) rfl (fun b4 => ?_) (fun b4 => ?_)
      · refine w_vret rfl (tX5_sum_1_ok (155, .return_, 1) (List.mem_of_getElem? (i := 17) rfl)) ?_
        refine hq h at0 fl0 ⟨c_t, c_b, n_b_t, l1, l2, by omega, by omega⟩ ⟨g, sz, c_r, c_k, by omega, by omega, gb⟩ ?_ (fun q hq => rfl)
        have a9 : j = 0 := by omega
        by_cases f9 : fl0.toInt = -1
        · refine Or.inr ⟨f9, ?_⟩
          rw [a9, sp_loop]
          exact ⟨by omega, by omega⟩
        · exact Or.inl ⟨f9, rfl⟩
      · refine w_aload_n (List.Mem.tail _ (List.Mem.tail _ (List.Mem.head _))) (tX5_sum_1_ok (146, .aload_n 0, 1) (List.mem_of_getElem? (i := 12) rfl)) ?_
        refine w_sipush (by decide) (tX5_sum_1_ok (147, .sipush 10000, 3) (List.mem_of_getElem? (i := 13) rfl)) (fun v5 e6 => ?_)
        refine w_iload_n (List.Mem.tail _ (List.Mem.head _)) (tX5_sum_1_ok (150, .iload_n 3, 1) (List.mem_of_getElem? (i := 14) rfl)) ?_
        refine w_iadd (by omega) (by omega) (tX5_sum_1_ok (151, .iadd, 1) (List.mem_of_getElem? (i := 15) rfl)) (fun v7 e8 => ?_)
        refine w_callV (own := 10) (mi := 56) [.int v7] [] [(0, .ref r), (1, .int v7)] rfl (cllw_X5 (55, 0, 56) (List.mem_of_getElem? (i := 12) rfl)) rfl rfl c_r rfl (by omega) (w_lo (n := 21) rfl (by omega)) (Nat.le_of_ble_eq_true rfl) (Nat.le_of_ble_eq_true rfl) rfl (tX5_sum_1_ok (152, .invokevirtual 55, 3) (List.mem_of_getElem? (i := 16) rfl)) (s_emit hT n_r_k ⟨g, sz, c_r, c_k, by omega, by omega, gb⟩ (by omega) (fun h9 u10 o11 => ?_))
        have c12 := (o11 t ⟨n_t_r, n_t_k⟩).trans c_t
        have c13 := (o11 b ⟨n_b_r, n_b_k⟩).trans c_b
        obtain ⟨g14, sz15, c16, c17, z18, z19, gb20⟩ := u10
        show ww l D tys A X fr lo mX5_sum Q 155 [(4, .int i), (3, .int wt), (0, .ref r), (1, .ref t), (2, .int depth)] [] h9
        refine w_vret rfl (tX5_sum_1_ok (155, .return_, 1) (List.mem_of_getElem? (i := 17) rfl)) ?_
        refine hq h9 at0 fl0 ⟨c12, c13, n_b_t, l1, l2, by omega, by omega⟩ ⟨g14, sz15, c16, c17, by omega, by omega, gb20⟩ ?_ (fun q hq => o11 q ⟨hq.2.1, hq.2.2⟩)
        have a9 : j = 0 := by omega
        by_cases f9 : fl0.toInt = -1
        · refine Or.inr ⟨f9, ?_⟩
          rw [a9, sp_loop]
          exact ⟨by omega, by omega⟩
        · exact Or.inl ⟨f9, rfl⟩
    · refine w_aload_n (List.Mem.tail _ (List.Mem.tail _ (List.Mem.tail _ (List.Mem.head _)))) (tX5_sum_0_ok (19, .aload_n 1, 1) (List.mem_of_getElem? (i := 11) rfl)) ?_
      refine w_callV (own := 10) (mi := 74) [] [] [(0, .ref t)] rfl (cllw_X5 (31, 0, 74) (List.mem_of_getElem? (i := 6) rfl)) rfl rfl c_t rfl (by omega) (w_lo (n := 20) rfl (by omega)) (Nat.le_of_ble_eq_true rfl) (Nat.le_of_ble_eq_true rfl) rfl (tX5_sum_0_ok (20, .invokevirtual 31, 3) (List.mem_of_getElem? (i := 12) rfl)) (s_isWrong hT ⟨c_t, c_b, n_b_t, l1, l2, by omega, by omega⟩ (fun v21 e22 => ?_))
      show ww l D tys A X fr lo mX5_sum Q 23 [(4, .int i), (3, .int wt), (0, .ref r), (1, .ref t), (2, .int depth)] [.int v21] h
      refine w_if_ne (tgt := 142) (tX5_sum_0_ok (23, .ifCond .ne 119, 3) (List.mem_of_getElem? (i := 13) rfl)) rfl (fun b23 => ?_) (fun b23 => ?_)
      · refine w_iload_n (List.Mem.tail _ (List.Mem.head _)) (tX5_sum_1_ok (142, .iload_n 3, 1) (List.mem_of_getElem? (i := 10) rfl)) ?_
        refine w_if_eq (tgt := 155) (tX5_sum_1_ok (143, .ifCond .eq 12, 3) (List.mem_of_getElem? (i := 11) rfl)) rfl (fun b24 => ?_) (fun b24 => ?_)
        · refine w_vret rfl (tX5_sum_1_ok (155, .return_, 1) (List.mem_of_getElem? (i := 17) rfl)) ?_
          refine hq h at0 fl0 ⟨c_t, c_b, n_b_t, l1, l2, by omega, by omega⟩ ⟨g, sz, c_r, c_k, by omega, by omega, gb⟩ ?_ (fun q hq => rfl)
          exact Or.inl ⟨by omega, rfl⟩
        · refine w_aload_n (List.Mem.tail _ (List.Mem.tail _ (List.Mem.head _))) (tX5_sum_1_ok (146, .aload_n 0, 1) (List.mem_of_getElem? (i := 12) rfl)) ?_
          refine w_sipush (by decide) (tX5_sum_1_ok (147, .sipush 10000, 3) (List.mem_of_getElem? (i := 13) rfl)) (fun v25 e26 => ?_)
          refine w_iload_n (List.Mem.tail _ (List.Mem.head _)) (tX5_sum_1_ok (150, .iload_n 3, 1) (List.mem_of_getElem? (i := 14) rfl)) ?_
          refine w_iadd (by omega) (by omega) (tX5_sum_1_ok (151, .iadd, 1) (List.mem_of_getElem? (i := 15) rfl)) (fun v27 e28 => ?_)
          refine w_callV (own := 10) (mi := 56) [.int v27] [] [(0, .ref r), (1, .int v27)] rfl (cllw_X5 (55, 0, 56) (List.mem_of_getElem? (i := 12) rfl)) rfl rfl c_r rfl (by omega) (w_lo (n := 21) rfl (by omega)) (Nat.le_of_ble_eq_true rfl) (Nat.le_of_ble_eq_true rfl) rfl (tX5_sum_1_ok (152, .invokevirtual 55, 3) (List.mem_of_getElem? (i := 16) rfl)) (s_emit hT n_r_k ⟨g, sz, c_r, c_k, by omega, by omega, gb⟩ (by omega) (fun h29 u30 o31 => ?_))
          have c32 := (o31 t ⟨n_t_r, n_t_k⟩).trans c_t
          have c33 := (o31 b ⟨n_b_r, n_b_k⟩).trans c_b
          obtain ⟨g34, sz35, c36, c37, z38, z39, gb40⟩ := u30
          show ww l D tys A X fr lo mX5_sum Q 155 [(4, .int i), (3, .int wt), (0, .ref r), (1, .ref t), (2, .int depth)] [] h29
          refine w_vret rfl (tX5_sum_1_ok (155, .return_, 1) (List.mem_of_getElem? (i := 17) rfl)) ?_
          refine hq h29 at0 fl0 ⟨c32, c33, n_b_t, l1, l2, by omega, by omega⟩ ⟨g34, sz35, c36, c37, by omega, by omega, gb40⟩ ?_ (fun q hq => o31 q ⟨hq.2.1, hq.2.2⟩)
          exact Or.inl ⟨by omega, rfl⟩
      · refine w_aload_n (List.Mem.tail _ (List.Mem.tail _ (List.Mem.tail _ (List.Mem.head _)))) (tX5_sum_0_ok (26, .aload_n 1, 1) (List.mem_of_getElem? (i := 14) rfl)) ?_
        refine w_callV (own := 10) (mi := 77) [] [] [(0, .ref t)] rfl (cllw_X5 (35, 0, 77) (List.mem_of_getElem? (i := 3) rfl)) rfl rfl c_t rfl (by omega) (w_lo (n := 20) rfl (by omega)) (Nat.le_of_ble_eq_true rfl) (Nat.le_of_ble_eq_true rfl) rfl (tX5_sum_0_ok (27, .invokevirtual 35, 3) (List.mem_of_getElem? (i := 15) rfl)) (s_sign hT ⟨c_t, c_b, n_b_t, l1, l2, by omega, by omega⟩ (fun h41 at42 v43 p44 e45 e46 o47 => ?_))
        obtain ⟨c48, c49, -, -, -, a50, a51⟩ := p44
        have c52 := (o47 r n_r_t).trans c_r
        have c53 := (o47 k n_k_t).trans c_k
        show ww l D tys A X fr lo mX5_sum Q 30 [(4, .int i), (3, .int wt), (0, .ref r), (1, .ref t), (2, .int depth)] [.int v43] h41
        rw [e45] at e46
        have g54 := sp_sg_or f len.toInt.toNat (sp_sk f len.toInt.toNat at0.toInt.toNat)
        refine w_istore [(5, .int v43), (4, .int i), (3, .int wt), (0, .ref r), (1, .ref t), (2, .int depth)] rfl (Nat.le_of_ble_eq_true rfl) (tX5_sum_0_ok (30, .istore 5, 2) (List.mem_of_getElem? (i := 16) rfl)) ?_
        refine w_iload (List.Mem.head _) (tX5_sum_0_ok (32, .iload 5, 2) (List.mem_of_getElem? (i := 17) rfl)) ?_
        refine w_bipush (by decide) (tX5_sum_0_ok (34, .bipush 43, 2) (List.mem_of_getElem? (i := 18) rfl)) (fun v55 e56 => ?_)
        refine w_icmp_eq (tgt := 46) (tX5_sum_0_ok (36, .if_icmp .eq 10, 3) (List.mem_of_getElem? (i := 19) rfl)) rfl (fun b57 => ?_) (fun b57 => ?_)
        · refine w_iconst (by decide) (tX5_sum_0_ok (46, .iconst 1, 1) (List.mem_of_getElem? (i := 23) rfl)) (fun v58 e59 => ?_)
          refine w_goto (tgt := 51) (tX5_sum_0_ok (47, .goto 4, 3) (List.mem_of_getElem? (i := 24) rfl)) rfl ?_
          refine w_istore [(6, .int v58), (5, .int v43), (4, .int i), (3, .int wt), (0, .ref r), (1, .ref t), (2, .int depth)] rfl (Nat.le_of_ble_eq_true rfl) (tX5_sum_0_ok (51, .istore 6, 2) (List.mem_of_getElem? (i := 26) rfl)) ?_
          refine w_iload (List.Mem.head _) (tX5_sum_0_ok (53, .iload 6, 2) (List.mem_of_getElem? (i := 27) rfl)) ?_
          refine w_if_ne (tgt := 75) (tX5_sum_0_ok (55, .ifCond .ne 20, 3) (List.mem_of_getElem? (i := 28) rfl)) rfl (fun b60 => ?_) (fun b60 => ?_)
          · refine w_aload_n (List.Mem.tail _ (List.Mem.tail _ (List.Mem.tail _ (List.Mem.tail _ (List.Mem.tail _ (List.Mem.head _)))))) (tX5_sum_0_ok (75, .aload_n 1, 1) (List.mem_of_getElem? (i := 36) rfl)) ?_
            refine w_dup rfl (tX5_sum_0_ok (76, .dup, 1) (List.mem_of_getElem? (i := 37) rfl)) ?_
            refine w_get (own := 10) rfl rfl (by decide) c48 rfl (tX5_sum_0_ok (77, .getfield 61, 3) (List.mem_of_getElem? (i := 38) rfl)) ?_
            refine w_iconst (by decide) (tX5_sum_0_ok (80, .iconst 1, 1) (List.mem_of_getElem? (i := 39) rfl)) (fun v61 e62 => ?_)
            refine w_iadd (by omega) (by omega) (tX5_sum_0_ok (81, .iadd, 1) (List.mem_of_getElem? (i := 40) rfl)) (fun v63 e64 => ?_)
            refine w_put (own := 10) [.ref b, .int len, .int v63, .int fl0] rfl rfl rfl (by decide) rfl ⟨rfl, rfl⟩ c48 (Nat.le_of_ble_eq_true rfl) (tX5_sum_0_ok (82, .putfield 61, 3) (List.mem_of_getElem? (i := 41) rfl)) (fun h65 c66 o67 => ?_)
            have c68 := (o67 b n_b_t).trans c49
            have c69 := (o67 r n_r_t).trans c52
            have c70 := (o67 k n_k_t).trans c53
            refine w_iload (List.Mem.head _) (tX5_sum_0_ok (85, .iload 6, 2) (List.mem_of_getElem? (i := 42) rfl)) ?_
            refine w_if_eq (tgt := 103) (tX5_sum_0_ok (87, .ifCond .eq 16, 3) (List.mem_of_getElem? (i := 43) rfl)) rfl (fun b71 => ?_) (fun b71 => ?_)
            · exfalso; omega
            · refine w_iload_n (List.Mem.tail _ (List.Mem.tail _ (List.Mem.tail _ (List.Mem.head _)))) (tX5_sum_0_ok (90, .iload_n 3, 1) (List.mem_of_getElem? (i := 44) rfl)) ?_
              refine w_if_eq (tgt := 103) (tX5_sum_0_ok (91, .ifCond .eq 12, 3) (List.mem_of_getElem? (i := 45) rfl)) rfl (fun b72 => ?_) (fun b72 => ?_)
              · refine w_iload (List.Mem.head _) (tX5_sum_0_ok (103, .iload 6, 2) (List.mem_of_getElem? (i := 51) rfl)) ?_
                refine w_if_eq (tgt := 113) (tX5_sum_0_ok (105, .ifCond .eq 8, 3) (List.mem_of_getElem? (i := 52) rfl)) rfl (fun b73 => ?_) (fun b73 => ?_)
                · exfalso; omega
                · refine w_iload (List.Mem.tail _ (List.Mem.head _)) (tX5_sum_0_ok (108, .iload 5, 2) (List.mem_of_getElem? (i := 53) rfl)) ?_
                  refine w_goto (tgt := 114) (tX5_sum_0_ok (110, .goto 4, 3) (List.mem_of_getElem? (i := 54) rfl)) rfl ?_
                  refine w_istore_n [(3, .int v43), (6, .int v58), (5, .int v43), (4, .int i), (0, .ref r), (1, .ref t), (2, .int depth)] rfl (Nat.le_of_ble_eq_true rfl) (tX5_sum_0_ok (114, .istore_n 3, 1) (List.mem_of_getElem? (i := 56) rfl)) ?_
                  refine w_aload_n (List.Mem.tail _ (List.Mem.tail _ (List.Mem.tail _ (List.Mem.tail _ (List.Mem.head _))))) (tX5_sum_0_ok (115, .aload_n 0, 1) (List.mem_of_getElem? (i := 57) rfl)) ?_
                  refine w_aload_n (List.Mem.tail _ (List.Mem.tail _ (List.Mem.tail _ (List.Mem.tail _ (List.Mem.tail _ (List.Mem.head _)))))) (tX5_sum_0_ok (116, .aload_n 1, 1) (List.mem_of_getElem? (i := 58) rfl)) ?_
                  refine w_iload_n (List.Mem.tail _ (List.Mem.tail _ (List.Mem.tail _ (List.Mem.tail _ (List.Mem.tail _ (List.Mem.tail _ (List.Mem.head _))))))) (tX5_sum_0_ok (117, .iload_n 2, 1) (List.mem_of_getElem? (i := 59) rfl)) ?_
                  refine w_callV (own := 10) (mi := 52) [.ref t, .int depth] [] [(0, .ref r), (1, .ref t), (2, .int depth)] rfl (cllw_X5 (71, 0, 52) (List.mem_of_getElem? (i := 5) rfl)) rfl rfl c69 rfl (by omega) (w_lo (n := 24) rfl (by omega)) (Nat.le_of_ble_eq_true rfl) (Nat.le_of_ble_eq_true rfl) rfl (tX5_sum_1_ok (118, .invokevirtual 71, 3) (List.mem_of_getElem? (i := 0) rfl)) (hatom _ _ _ _ _ _ (by omega) (w_sub (n := 24) rfl (by omega)) trivial ⟨c66, c68, n_b_t, l1, l2, by omega, by omega⟩ ⟨g, sz, c69, c70, by omega, by omega, gb⟩ (fun h74 at75 fl76 p77 u78 e79 o80 => ?_))
                  obtain ⟨c83, c84, -, -, -, a81, a82⟩ := p77
                  obtain ⟨g85, sz86, c87, c88, z89, z90, gb91⟩ := u78
                  show ww l D tys A X fr lo mX5_sum Q 121 [(3, .int v43), (6, .int v58), (5, .int v43), (4, .int i), (0, .ref r), (1, .ref t), (2, .int depth)] [] h74
                  refine w_iload (List.Mem.tail _ (List.Mem.head _)) (tX5_sum_1_ok (121, .iload 6, 2) (List.mem_of_getElem? (i := 1) rfl)) ?_
                  refine w_if_ne (tgt := 136) (tX5_sum_1_ok (123, .ifCond .ne 13, 3) (List.mem_of_getElem? (i := 2) rfl)) rfl (fun b92 => ?_) (fun b92 => ?_)
                  · refine w_iinc (fun v93 => [(4, .int v93), (3, .int v43), (6, .int v58), (5, .int v43), (0, .ref r), (1, .ref t), (2, .int depth)]) (fun _ => rfl) (List.Mem.tail _ (List.Mem.tail _ (List.Mem.tail _ (List.Mem.head _)))) (Nat.le_of_ble_eq_true rfl) (by decide) (by omega) (by omega) (tX5_sum_1_ok (136, .iinc 4 1, 3) (List.mem_of_getElem? (i := 8) rfl)) (fun v93 e94 => ?_)
                    refine w_goto (tgt := 11) (tX5_sum_1_ok (139, .goto (-128), 3) (List.mem_of_getElem? (i := 9) rfl)) rfl ?_
                    refine w_lv [(4, .int v93), (3, .int v43), (0, .ref r), (1, .ref t), (2, .int depth)] (List.forall_mem_cons.mpr ⟨(List.Mem.head _), List.forall_mem_cons.mpr ⟨(List.Mem.tail _ (List.Mem.head _)), List.forall_mem_cons.mpr ⟨(List.Mem.tail _ (List.Mem.tail _ (List.Mem.tail _ (List.Mem.tail _ (List.Mem.head _))))), List.forall_mem_cons.mpr ⟨(List.Mem.tail _ (List.Mem.tail _ (List.Mem.tail _ (List.Mem.tail _ (List.Mem.tail _ (List.Mem.head _)))))), List.forall_mem_cons.mpr ⟨(List.Mem.tail _ (List.Mem.tail _ (List.Mem.tail _ (List.Mem.tail _ (List.Mem.tail _ (List.Mem.tail _ (List.Mem.head _))))))), fun _ h => absurd h List.not_mem_nil⟩⟩⟩⟩⟩) ?_
                    have a9 : j = (j - 1) + 1 := by omega
                    refine ih (j - 1) (by omega) _ _ _ _ _ _ _ _ hf hl (by omega) (by omega) (by omega) ⟨c83, c84, n_b_t, l1, l2, by omega, by omega⟩ ⟨g85, sz86, c87, c88, by omega, by omega, gb91⟩ (fun h1 at1 fl1 p1 p2 p3 p4 => hq h1 at1 fl1 p1 p2 ?_ (fun q hq => (p4 q hq).trans ((o80 q ⟨hq.1, hq.2.1, hq.2.2⟩).trans ((o67 q hq.1).trans (o47 q hq.1)))))
                    refine Or.inr ⟨by omega, ?_⟩
                    have y9 := (e79.bd p3).is (by omega)
                    rw [a9, sp_loop, if_pos (sp_pl_iff.mpr (by omega))]
                    have z9 : v63.toInt.toNat = sp_sk f len.toInt.toNat at0.toInt.toNat + 1 := by omega
                    rw [z9] at y9
                    exact y9
                  · exfalso; omega
              · refine w_aload_n (List.Mem.tail _ (List.Mem.tail _ (List.Mem.tail _ (List.Mem.tail _ (List.Mem.head _))))) (tX5_sum_0_ok (94, .aload_n 0, 1) (List.mem_of_getElem? (i := 46) rfl)) ?_
                refine w_sipush (by decide) (tX5_sum_0_ok (95, .sipush 10000, 3) (List.mem_of_getElem? (i := 47) rfl)) (fun v95 e96 => ?_)
                refine w_iload_n (List.Mem.tail _ (List.Mem.tail _ (List.Mem.tail _ (List.Mem.head _)))) (tX5_sum_0_ok (98, .iload_n 3, 1) (List.mem_of_getElem? (i := 48) rfl)) ?_
                refine w_iadd (by omega) (by omega) (tX5_sum_0_ok (99, .iadd, 1) (List.mem_of_getElem? (i := 49) rfl)) (fun v97 e98 => ?_)
                refine w_callV (own := 10) (mi := 56) [.int v97] [] [(0, .ref r), (1, .int v97)] rfl (cllw_X5 (55, 0, 56) (List.mem_of_getElem? (i := 12) rfl)) rfl rfl c69 rfl (by omega) (w_lo (n := 21) rfl (by omega)) (Nat.le_of_ble_eq_true rfl) (Nat.le_of_ble_eq_true rfl) rfl (tX5_sum_0_ok (100, .invokevirtual 55, 3) (List.mem_of_getElem? (i := 50) rfl)) (s_emit hT n_r_k ⟨g, sz, c69, c70, by omega, by omega, gb⟩ (by omega) (fun h99 u100 o101 => ?_))
                have c102 := (o101 t ⟨n_t_r, n_t_k⟩).trans c66
                have c103 := (o101 b ⟨n_b_r, n_b_k⟩).trans c68
                obtain ⟨g104, sz105, c106, c107, z108, z109, gb110⟩ := u100
                show ww l D tys A X fr lo mX5_sum Q 103 [(6, .int v58), (5, .int v43), (4, .int i), (3, .int wt), (0, .ref r), (1, .ref t), (2, .int depth)] [] h99
                refine w_iload (List.Mem.head _) (tX5_sum_0_ok (103, .iload 6, 2) (List.mem_of_getElem? (i := 51) rfl)) ?_
                refine w_if_eq (tgt := 113) (tX5_sum_0_ok (105, .ifCond .eq 8, 3) (List.mem_of_getElem? (i := 52) rfl)) rfl (fun b111 => ?_) (fun b111 => ?_)
                · exfalso; omega
                · refine w_iload (List.Mem.tail _ (List.Mem.head _)) (tX5_sum_0_ok (108, .iload 5, 2) (List.mem_of_getElem? (i := 53) rfl)) ?_
                  refine w_goto (tgt := 114) (tX5_sum_0_ok (110, .goto 4, 3) (List.mem_of_getElem? (i := 54) rfl)) rfl ?_
                  refine w_istore_n [(3, .int v43), (6, .int v58), (5, .int v43), (4, .int i), (0, .ref r), (1, .ref t), (2, .int depth)] rfl (Nat.le_of_ble_eq_true rfl) (tX5_sum_0_ok (114, .istore_n 3, 1) (List.mem_of_getElem? (i := 56) rfl)) ?_
                  refine w_aload_n (List.Mem.tail _ (List.Mem.tail _ (List.Mem.tail _ (List.Mem.tail _ (List.Mem.head _))))) (tX5_sum_0_ok (115, .aload_n 0, 1) (List.mem_of_getElem? (i := 57) rfl)) ?_
                  refine w_aload_n (List.Mem.tail _ (List.Mem.tail _ (List.Mem.tail _ (List.Mem.tail _ (List.Mem.tail _ (List.Mem.head _)))))) (tX5_sum_0_ok (116, .aload_n 1, 1) (List.mem_of_getElem? (i := 58) rfl)) ?_
                  refine w_iload_n (List.Mem.tail _ (List.Mem.tail _ (List.Mem.tail _ (List.Mem.tail _ (List.Mem.tail _ (List.Mem.tail _ (List.Mem.head _))))))) (tX5_sum_0_ok (117, .iload_n 2, 1) (List.mem_of_getElem? (i := 59) rfl)) ?_
                  refine w_callV (own := 10) (mi := 52) [.ref t, .int depth] [] [(0, .ref r), (1, .ref t), (2, .int depth)] rfl (cllw_X5 (71, 0, 52) (List.mem_of_getElem? (i := 5) rfl)) rfl rfl c106 rfl (by omega) (w_lo (n := 24) rfl (by omega)) (Nat.le_of_ble_eq_true rfl) (Nat.le_of_ble_eq_true rfl) rfl (tX5_sum_1_ok (118, .invokevirtual 71, 3) (List.mem_of_getElem? (i := 0) rfl)) (hatom _ _ _ _ _ _ (by omega) (w_sub (n := 24) rfl (by omega)) trivial ⟨c102, c103, n_b_t, l1, l2, by omega, by omega⟩ ⟨g104, sz105, c106, c107, by omega, by omega, gb110⟩ (fun h112 at113 fl114 p115 u116 e117 o118 => ?_))
                  obtain ⟨c121, c122, -, -, -, a119, a120⟩ := p115
                  obtain ⟨g123, sz124, c125, c126, z127, z128, gb129⟩ := u116
                  show ww l D tys A X fr lo mX5_sum Q 121 [(3, .int v43), (6, .int v58), (5, .int v43), (4, .int i), (0, .ref r), (1, .ref t), (2, .int depth)] [] h112
                  refine w_iload (List.Mem.tail _ (List.Mem.head _)) (tX5_sum_1_ok (121, .iload 6, 2) (List.mem_of_getElem? (i := 1) rfl)) ?_
                  refine w_if_ne (tgt := 136) (tX5_sum_1_ok (123, .ifCond .ne 13, 3) (List.mem_of_getElem? (i := 2) rfl)) rfl (fun b130 => ?_) (fun b130 => ?_)
                  · refine w_iinc (fun v131 => [(4, .int v131), (3, .int v43), (6, .int v58), (5, .int v43), (0, .ref r), (1, .ref t), (2, .int depth)]) (fun _ => rfl) (List.Mem.tail _ (List.Mem.tail _ (List.Mem.tail _ (List.Mem.head _)))) (Nat.le_of_ble_eq_true rfl) (by decide) (by omega) (by omega) (tX5_sum_1_ok (136, .iinc 4 1, 3) (List.mem_of_getElem? (i := 8) rfl)) (fun v131 e132 => ?_)
                    refine w_goto (tgt := 11) (tX5_sum_1_ok (139, .goto (-128), 3) (List.mem_of_getElem? (i := 9) rfl)) rfl ?_
                    refine w_lv [(4, .int v131), (3, .int v43), (0, .ref r), (1, .ref t), (2, .int depth)] (List.forall_mem_cons.mpr ⟨(List.Mem.head _), List.forall_mem_cons.mpr ⟨(List.Mem.tail _ (List.Mem.head _)), List.forall_mem_cons.mpr ⟨(List.Mem.tail _ (List.Mem.tail _ (List.Mem.tail _ (List.Mem.tail _ (List.Mem.head _))))), List.forall_mem_cons.mpr ⟨(List.Mem.tail _ (List.Mem.tail _ (List.Mem.tail _ (List.Mem.tail _ (List.Mem.tail _ (List.Mem.head _)))))), List.forall_mem_cons.mpr ⟨(List.Mem.tail _ (List.Mem.tail _ (List.Mem.tail _ (List.Mem.tail _ (List.Mem.tail _ (List.Mem.tail _ (List.Mem.head _))))))), fun _ h => absurd h List.not_mem_nil⟩⟩⟩⟩⟩) ?_
                    have a9 : j = (j - 1) + 1 := by omega
                    refine ih (j - 1) (by omega) _ _ _ _ _ _ _ _ hf hl (by omega) (by omega) (by omega) ⟨c121, c122, n_b_t, l1, l2, by omega, by omega⟩ ⟨g123, sz124, c125, c126, by omega, by omega, gb129⟩ (fun h1 at1 fl1 p1 p2 p3 p4 => hq h1 at1 fl1 p1 p2 ?_ (fun q hq => (p4 q hq).trans ((o118 q ⟨hq.1, hq.2.1, hq.2.2⟩).trans ((o101 q ⟨hq.2.1, hq.2.2⟩).trans ((o67 q hq.1).trans (o47 q hq.1))))))
                    refine Or.inr ⟨by omega, ?_⟩
                    have y9 := (e117.bd p3).is (by omega)
                    rw [a9, sp_loop, if_pos (sp_pl_iff.mpr (by omega))]
                    have z9 : v63.toInt.toNat = sp_sk f len.toInt.toNat at0.toInt.toNat + 1 := by omega
                    rw [z9] at y9
                    exact y9
                  · exfalso; omega
          · exfalso; omega
        · refine w_iload (List.Mem.head _) (tX5_sum_0_ok (39, .iload 5, 2) (List.mem_of_getElem? (i := 20) rfl)) ?_
          refine w_bipush (by decide) (tX5_sum_0_ok (41, .bipush 45, 2) (List.mem_of_getElem? (i := 21) rfl)) (fun v133 e134 => ?_)
          refine w_icmp_ne (tgt := 50) (tX5_sum_0_ok (43, .if_icmp .ne 7, 3) (List.mem_of_getElem? (i := 22) rfl)) rfl (fun b135 => ?_) (fun b135 => ?_)
          · refine w_iconst (by decide) (tX5_sum_0_ok (50, .iconst 0, 1) (List.mem_of_getElem? (i := 25) rfl)) (fun v136 e137 => ?_)
            refine w_istore [(6, .int v136), (5, .int v43), (4, .int i), (3, .int wt), (0, .ref r), (1, .ref t), (2, .int depth)] rfl (Nat.le_of_ble_eq_true rfl) (tX5_sum_0_ok (51, .istore 6, 2) (List.mem_of_getElem? (i := 26) rfl)) ?_
            refine w_iload (List.Mem.head _) (tX5_sum_0_ok (53, .iload 6, 2) (List.mem_of_getElem? (i := 27) rfl)) ?_
            refine w_if_ne (tgt := 75) (tX5_sum_0_ok (55, .ifCond .ne 20, 3) (List.mem_of_getElem? (i := 28) rfl)) rfl (fun b138 => ?_) (fun b138 => ?_)
            · exfalso; omega
            · refine w_iload (List.Mem.tail _ (List.Mem.head _)) (tX5_sum_0_ok (58, .iload 5, 2) (List.mem_of_getElem? (i := 29) rfl)) ?_
              refine w_bipush (by decide) (tX5_sum_0_ok (60, .bipush 42, 2) (List.mem_of_getElem? (i := 30) rfl)) (fun v139 e140 => ?_)
              refine w_icmp_eq (tgt := 75) (tX5_sum_0_ok (62, .if_icmp .eq 13, 3) (List.mem_of_getElem? (i := 31) rfl)) rfl (fun b141 => ?_) (fun b141 => ?_)
              · refine w_aload_n (List.Mem.tail _ (List.Mem.tail _ (List.Mem.tail _ (List.Mem.tail _ (List.Mem.tail _ (List.Mem.head _)))))) (tX5_sum_0_ok (75, .aload_n 1, 1) (List.mem_of_getElem? (i := 36) rfl)) ?_
                refine w_dup rfl (tX5_sum_0_ok (76, .dup, 1) (List.mem_of_getElem? (i := 37) rfl)) ?_
                refine w_get (own := 10) rfl rfl (by decide) c48 rfl (tX5_sum_0_ok (77, .getfield 61, 3) (List.mem_of_getElem? (i := 38) rfl)) ?_
                refine w_iconst (by decide) (tX5_sum_0_ok (80, .iconst 1, 1) (List.mem_of_getElem? (i := 39) rfl)) (fun v142 e143 => ?_)
                refine w_iadd (by omega) (by omega) (tX5_sum_0_ok (81, .iadd, 1) (List.mem_of_getElem? (i := 40) rfl)) (fun v144 e145 => ?_)
                refine w_put (own := 10) [.ref b, .int len, .int v144, .int fl0] rfl rfl rfl (by decide) rfl ⟨rfl, rfl⟩ c48 (Nat.le_of_ble_eq_true rfl) (tX5_sum_0_ok (82, .putfield 61, 3) (List.mem_of_getElem? (i := 41) rfl)) (fun h146 c147 o148 => ?_)
                have c149 := (o148 b n_b_t).trans c49
                have c150 := (o148 r n_r_t).trans c52
                have c151 := (o148 k n_k_t).trans c53
                refine w_iload (List.Mem.head _) (tX5_sum_0_ok (85, .iload 6, 2) (List.mem_of_getElem? (i := 42) rfl)) ?_
                refine w_if_eq (tgt := 103) (tX5_sum_0_ok (87, .ifCond .eq 16, 3) (List.mem_of_getElem? (i := 43) rfl)) rfl (fun b152 => ?_) (fun b152 => ?_)
                · refine w_iload (List.Mem.head _) (tX5_sum_0_ok (103, .iload 6, 2) (List.mem_of_getElem? (i := 51) rfl)) ?_
                  refine w_if_eq (tgt := 113) (tX5_sum_0_ok (105, .ifCond .eq 8, 3) (List.mem_of_getElem? (i := 52) rfl)) rfl (fun b153 => ?_) (fun b153 => ?_)
                  · refine w_iload_n (List.Mem.tail _ (List.Mem.tail _ (List.Mem.tail _ (List.Mem.head _)))) (tX5_sum_0_ok (113, .iload_n 3, 1) (List.mem_of_getElem? (i := 55) rfl)) ?_
                    refine w_istore_n [(3, .int wt), (6, .int v136), (5, .int v43), (4, .int i), (0, .ref r), (1, .ref t), (2, .int depth)] rfl (Nat.le_of_ble_eq_true rfl) (tX5_sum_0_ok (114, .istore_n 3, 1) (List.mem_of_getElem? (i := 56) rfl)) ?_
                    refine w_aload_n (List.Mem.tail _ (List.Mem.tail _ (List.Mem.tail _ (List.Mem.tail _ (List.Mem.head _))))) (tX5_sum_0_ok (115, .aload_n 0, 1) (List.mem_of_getElem? (i := 57) rfl)) ?_
                    refine w_aload_n (List.Mem.tail _ (List.Mem.tail _ (List.Mem.tail _ (List.Mem.tail _ (List.Mem.tail _ (List.Mem.head _)))))) (tX5_sum_0_ok (116, .aload_n 1, 1) (List.mem_of_getElem? (i := 58) rfl)) ?_
                    refine w_iload_n (List.Mem.tail _ (List.Mem.tail _ (List.Mem.tail _ (List.Mem.tail _ (List.Mem.tail _ (List.Mem.tail _ (List.Mem.head _))))))) (tX5_sum_0_ok (117, .iload_n 2, 1) (List.mem_of_getElem? (i := 59) rfl)) ?_
                    refine w_callV (own := 10) (mi := 52) [.ref t, .int depth] [] [(0, .ref r), (1, .ref t), (2, .int depth)] rfl (cllw_X5 (71, 0, 52) (List.mem_of_getElem? (i := 5) rfl)) rfl rfl c150 rfl (by omega) (w_lo (n := 24) rfl (by omega)) (Nat.le_of_ble_eq_true rfl) (Nat.le_of_ble_eq_true rfl) rfl (tX5_sum_1_ok (118, .invokevirtual 71, 3) (List.mem_of_getElem? (i := 0) rfl)) (hatom _ _ _ _ _ _ (by omega) (w_sub (n := 24) rfl (by omega)) trivial ⟨c147, c149, n_b_t, l1, l2, by omega, by omega⟩ ⟨g, sz, c150, c151, by omega, by omega, gb⟩ (fun h154 at155 fl156 p157 u158 e159 o160 => ?_))
                    obtain ⟨c163, c164, -, -, -, a161, a162⟩ := p157
                    obtain ⟨g165, sz166, c167, c168, z169, z170, gb171⟩ := u158
                    show ww l D tys A X fr lo mX5_sum Q 121 [(3, .int wt), (6, .int v136), (5, .int v43), (4, .int i), (0, .ref r), (1, .ref t), (2, .int depth)] [] h154
                    refine w_iload (List.Mem.tail _ (List.Mem.head _)) (tX5_sum_1_ok (121, .iload 6, 2) (List.mem_of_getElem? (i := 1) rfl)) ?_
                    refine w_if_ne (tgt := 136) (tX5_sum_1_ok (123, .ifCond .ne 13, 3) (List.mem_of_getElem? (i := 2) rfl)) rfl (fun b172 => ?_) (fun b172 => ?_)
                    · exfalso; omega
                    · refine w_aload_n (List.Mem.tail _ (List.Mem.tail _ (List.Mem.tail _ (List.Mem.tail _ (List.Mem.head _))))) (tX5_sum_1_ok (126, .aload_n 0, 1) (List.mem_of_getElem? (i := 3) rfl)) ?_
                      refine w_sipush (by decide) (tX5_sum_1_ok (127, .sipush 10000, 3) (List.mem_of_getElem? (i := 4) rfl)) (fun v173 e174 => ?_)
                      refine w_iload (List.Mem.tail _ (List.Mem.tail _ (List.Mem.head _))) (tX5_sum_1_ok (130, .iload 5, 2) (List.mem_of_getElem? (i := 5) rfl)) ?_
                      refine w_iadd (by omega) (by omega) (tX5_sum_1_ok (132, .iadd, 1) (List.mem_of_getElem? (i := 6) rfl)) (fun v175 e176 => ?_)
                      refine w_callV (own := 10) (mi := 56) [.int v175] [] [(0, .ref r), (1, .int v175)] rfl (cllw_X5 (55, 0, 56) (List.mem_of_getElem? (i := 12) rfl)) rfl rfl c167 rfl (by omega) (w_lo (n := 21) rfl (by omega)) (Nat.le_of_ble_eq_true rfl) (Nat.le_of_ble_eq_true rfl) rfl (tX5_sum_1_ok (133, .invokevirtual 55, 3) (List.mem_of_getElem? (i := 7) rfl)) (s_emit hT n_r_k ⟨g165, sz166, c167, c168, by omega, by omega, gb171⟩ (by omega) (fun h177 u178 o179 => ?_))
                      have c180 := (o179 t ⟨n_t_r, n_t_k⟩).trans c163
                      have c181 := (o179 b ⟨n_b_r, n_b_k⟩).trans c164
                      obtain ⟨g182, sz183, c184, c185, z186, z187, gb188⟩ := u178
                      show ww l D tys A X fr lo mX5_sum Q 136 [(3, .int wt), (6, .int v136), (5, .int v43), (4, .int i), (0, .ref r), (1, .ref t), (2, .int depth)] [] h177
                      refine w_iinc (fun v189 => [(4, .int v189), (3, .int wt), (6, .int v136), (5, .int v43), (0, .ref r), (1, .ref t), (2, .int depth)]) (fun _ => rfl) (List.Mem.tail _ (List.Mem.tail _ (List.Mem.tail _ (List.Mem.head _)))) (Nat.le_of_ble_eq_true rfl) (by decide) (by omega) (by omega) (tX5_sum_1_ok (136, .iinc 4 1, 3) (List.mem_of_getElem? (i := 8) rfl)) (fun v189 e190 => ?_)
                      refine w_goto (tgt := 11) (tX5_sum_1_ok (139, .goto (-128), 3) (List.mem_of_getElem? (i := 9) rfl)) rfl ?_
                      refine w_lv [(4, .int v189), (3, .int wt), (0, .ref r), (1, .ref t), (2, .int depth)] (List.forall_mem_cons.mpr ⟨(List.Mem.head _), List.forall_mem_cons.mpr ⟨(List.Mem.tail _ (List.Mem.head _)), List.forall_mem_cons.mpr ⟨(List.Mem.tail _ (List.Mem.tail _ (List.Mem.tail _ (List.Mem.tail _ (List.Mem.head _))))), List.forall_mem_cons.mpr ⟨(List.Mem.tail _ (List.Mem.tail _ (List.Mem.tail _ (List.Mem.tail _ (List.Mem.tail _ (List.Mem.head _)))))), List.forall_mem_cons.mpr ⟨(List.Mem.tail _ (List.Mem.tail _ (List.Mem.tail _ (List.Mem.tail _ (List.Mem.tail _ (List.Mem.tail _ (List.Mem.head _))))))), fun _ h => absurd h List.not_mem_nil⟩⟩⟩⟩⟩) ?_
                      have a9 : j = (j - 1) + 1 := by omega
                      refine ih (j - 1) (by omega) _ _ _ _ _ _ _ _ hf hl (by omega) (by omega) (by omega) ⟨c180, c181, n_b_t, l1, l2, by omega, by omega⟩ ⟨g182, sz183, c184, c185, by omega, by omega, gb188⟩ (fun h1 at1 fl1 p1 p2 p3 p4 => hq h1 at1 fl1 p1 p2 ?_ (fun q hq => (p4 q hq).trans ((o179 q ⟨hq.2.1, hq.2.2⟩).trans ((o160 q ⟨hq.1, hq.2.1, hq.2.2⟩).trans ((o148 q hq.1).trans (o47 q hq.1))))))
                      refine Or.inr ⟨by omega, ?_⟩
                      have y9 := (e159.bd p3).is (by omega)
                      rw [a9, sp_loop, if_pos (sp_pl_iff.mpr (by omega))]
                      have z9 : v144.toInt.toNat = sp_sk f len.toInt.toNat at0.toInt.toNat + 1 := by omega
                      rw [z9] at y9
                      exact y9
                  · exfalso; omega
                · exfalso; omega
              · refine w_iload (List.Mem.tail _ (List.Mem.head _)) (tX5_sum_0_ok (65, .iload 5, 2) (List.mem_of_getElem? (i := 32) rfl)) ?_
                refine w_bipush (by decide) (tX5_sum_0_ok (67, .bipush 47, 2) (List.mem_of_getElem? (i := 33) rfl)) (fun v191 e192 => ?_)
                refine w_icmp_eq (tgt := 75) (tX5_sum_0_ok (69, .if_icmp .eq 6, 3) (List.mem_of_getElem? (i := 34) rfl)) rfl (fun b193 => ?_) (fun b193 => ?_)
                · refine w_aload_n (List.Mem.tail _ (List.Mem.tail _ (List.Mem.tail _ (List.Mem.tail _ (List.Mem.tail _ (List.Mem.head _)))))) (tX5_sum_0_ok (75, .aload_n 1, 1) (List.mem_of_getElem? (i := 36) rfl)) ?_
                  refine w_dup rfl (tX5_sum_0_ok (76, .dup, 1) (List.mem_of_getElem? (i := 37) rfl)) ?_
                  refine w_get (own := 10) rfl rfl (by decide) c48 rfl (tX5_sum_0_ok (77, .getfield 61, 3) (List.mem_of_getElem? (i := 38) rfl)) ?_
                  refine w_iconst (by decide) (tX5_sum_0_ok (80, .iconst 1, 1) (List.mem_of_getElem? (i := 39) rfl)) (fun v194 e195 => ?_)
                  refine w_iadd (by omega) (by omega) (tX5_sum_0_ok (81, .iadd, 1) (List.mem_of_getElem? (i := 40) rfl)) (fun v196 e197 => ?_)
                  refine w_put (own := 10) [.ref b, .int len, .int v196, .int fl0] rfl rfl rfl (by decide) rfl ⟨rfl, rfl⟩ c48 (Nat.le_of_ble_eq_true rfl) (tX5_sum_0_ok (82, .putfield 61, 3) (List.mem_of_getElem? (i := 41) rfl)) (fun h198 c199 o200 => ?_)
                  have c201 := (o200 b n_b_t).trans c49
                  have c202 := (o200 r n_r_t).trans c52
                  have c203 := (o200 k n_k_t).trans c53
                  refine w_iload (List.Mem.head _) (tX5_sum_0_ok (85, .iload 6, 2) (List.mem_of_getElem? (i := 42) rfl)) ?_
                  refine w_if_eq (tgt := 103) (tX5_sum_0_ok (87, .ifCond .eq 16, 3) (List.mem_of_getElem? (i := 43) rfl)) rfl (fun b204 => ?_) (fun b204 => ?_)
                  · refine w_iload (List.Mem.head _) (tX5_sum_0_ok (103, .iload 6, 2) (List.mem_of_getElem? (i := 51) rfl)) ?_
                    refine w_if_eq (tgt := 113) (tX5_sum_0_ok (105, .ifCond .eq 8, 3) (List.mem_of_getElem? (i := 52) rfl)) rfl (fun b205 => ?_) (fun b205 => ?_)
                    · refine w_iload_n (List.Mem.tail _ (List.Mem.tail _ (List.Mem.tail _ (List.Mem.head _)))) (tX5_sum_0_ok (113, .iload_n 3, 1) (List.mem_of_getElem? (i := 55) rfl)) ?_
                      refine w_istore_n [(3, .int wt), (6, .int v136), (5, .int v43), (4, .int i), (0, .ref r), (1, .ref t), (2, .int depth)] rfl (Nat.le_of_ble_eq_true rfl) (tX5_sum_0_ok (114, .istore_n 3, 1) (List.mem_of_getElem? (i := 56) rfl)) ?_
                      refine w_aload_n (List.Mem.tail _ (List.Mem.tail _ (List.Mem.tail _ (List.Mem.tail _ (List.Mem.head _))))) (tX5_sum_0_ok (115, .aload_n 0, 1) (List.mem_of_getElem? (i := 57) rfl)) ?_
                      refine w_aload_n (List.Mem.tail _ (List.Mem.tail _ (List.Mem.tail _ (List.Mem.tail _ (List.Mem.tail _ (List.Mem.head _)))))) (tX5_sum_0_ok (116, .aload_n 1, 1) (List.mem_of_getElem? (i := 58) rfl)) ?_
                      refine w_iload_n (List.Mem.tail _ (List.Mem.tail _ (List.Mem.tail _ (List.Mem.tail _ (List.Mem.tail _ (List.Mem.tail _ (List.Mem.head _))))))) (tX5_sum_0_ok (117, .iload_n 2, 1) (List.mem_of_getElem? (i := 59) rfl)) ?_
                      refine w_callV (own := 10) (mi := 52) [.ref t, .int depth] [] [(0, .ref r), (1, .ref t), (2, .int depth)] rfl (cllw_X5 (71, 0, 52) (List.mem_of_getElem? (i := 5) rfl)) rfl rfl c202 rfl (by omega) (w_lo (n := 24) rfl (by omega)) (Nat.le_of_ble_eq_true rfl) (Nat.le_of_ble_eq_true rfl) rfl (tX5_sum_1_ok (118, .invokevirtual 71, 3) (List.mem_of_getElem? (i := 0) rfl)) (hatom _ _ _ _ _ _ (by omega) (w_sub (n := 24) rfl (by omega)) trivial ⟨c199, c201, n_b_t, l1, l2, by omega, by omega⟩ ⟨g, sz, c202, c203, by omega, by omega, gb⟩ (fun h206 at207 fl208 p209 u210 e211 o212 => ?_))
                      obtain ⟨c215, c216, -, -, -, a213, a214⟩ := p209
                      obtain ⟨g217, sz218, c219, c220, z221, z222, gb223⟩ := u210
                      show ww l D tys A X fr lo mX5_sum Q 121 [(3, .int wt), (6, .int v136), (5, .int v43), (4, .int i), (0, .ref r), (1, .ref t), (2, .int depth)] [] h206
                      refine w_iload (List.Mem.tail _ (List.Mem.head _)) (tX5_sum_1_ok (121, .iload 6, 2) (List.mem_of_getElem? (i := 1) rfl)) ?_
                      refine w_if_ne (tgt := 136) (tX5_sum_1_ok (123, .ifCond .ne 13, 3) (List.mem_of_getElem? (i := 2) rfl)) rfl (fun b224 => ?_) (fun b224 => ?_)
                      · exfalso; omega
                      · refine w_aload_n (List.Mem.tail _ (List.Mem.tail _ (List.Mem.tail _ (List.Mem.tail _ (List.Mem.head _))))) (tX5_sum_1_ok (126, .aload_n 0, 1) (List.mem_of_getElem? (i := 3) rfl)) ?_
                        refine w_sipush (by decide) (tX5_sum_1_ok (127, .sipush 10000, 3) (List.mem_of_getElem? (i := 4) rfl)) (fun v225 e226 => ?_)
                        refine w_iload (List.Mem.tail _ (List.Mem.tail _ (List.Mem.head _))) (tX5_sum_1_ok (130, .iload 5, 2) (List.mem_of_getElem? (i := 5) rfl)) ?_
                        refine w_iadd (by omega) (by omega) (tX5_sum_1_ok (132, .iadd, 1) (List.mem_of_getElem? (i := 6) rfl)) (fun v227 e228 => ?_)
                        refine w_callV (own := 10) (mi := 56) [.int v227] [] [(0, .ref r), (1, .int v227)] rfl (cllw_X5 (55, 0, 56) (List.mem_of_getElem? (i := 12) rfl)) rfl rfl c219 rfl (by omega) (w_lo (n := 21) rfl (by omega)) (Nat.le_of_ble_eq_true rfl) (Nat.le_of_ble_eq_true rfl) rfl (tX5_sum_1_ok (133, .invokevirtual 55, 3) (List.mem_of_getElem? (i := 7) rfl)) (s_emit hT n_r_k ⟨g217, sz218, c219, c220, by omega, by omega, gb223⟩ (by omega) (fun h229 u230 o231 => ?_))
                        have c232 := (o231 t ⟨n_t_r, n_t_k⟩).trans c215
                        have c233 := (o231 b ⟨n_b_r, n_b_k⟩).trans c216
                        obtain ⟨g234, sz235, c236, c237, z238, z239, gb240⟩ := u230
                        show ww l D tys A X fr lo mX5_sum Q 136 [(3, .int wt), (6, .int v136), (5, .int v43), (4, .int i), (0, .ref r), (1, .ref t), (2, .int depth)] [] h229
                        refine w_iinc (fun v241 => [(4, .int v241), (3, .int wt), (6, .int v136), (5, .int v43), (0, .ref r), (1, .ref t), (2, .int depth)]) (fun _ => rfl) (List.Mem.tail _ (List.Mem.tail _ (List.Mem.tail _ (List.Mem.head _)))) (Nat.le_of_ble_eq_true rfl) (by decide) (by omega) (by omega) (tX5_sum_1_ok (136, .iinc 4 1, 3) (List.mem_of_getElem? (i := 8) rfl)) (fun v241 e242 => ?_)
                        refine w_goto (tgt := 11) (tX5_sum_1_ok (139, .goto (-128), 3) (List.mem_of_getElem? (i := 9) rfl)) rfl ?_
                        refine w_lv [(4, .int v241), (3, .int wt), (0, .ref r), (1, .ref t), (2, .int depth)] (List.forall_mem_cons.mpr ⟨(List.Mem.head _), List.forall_mem_cons.mpr ⟨(List.Mem.tail _ (List.Mem.head _)), List.forall_mem_cons.mpr ⟨(List.Mem.tail _ (List.Mem.tail _ (List.Mem.tail _ (List.Mem.tail _ (List.Mem.head _))))), List.forall_mem_cons.mpr ⟨(List.Mem.tail _ (List.Mem.tail _ (List.Mem.tail _ (List.Mem.tail _ (List.Mem.tail _ (List.Mem.head _)))))), List.forall_mem_cons.mpr ⟨(List.Mem.tail _ (List.Mem.tail _ (List.Mem.tail _ (List.Mem.tail _ (List.Mem.tail _ (List.Mem.tail _ (List.Mem.head _))))))), fun _ h => absurd h List.not_mem_nil⟩⟩⟩⟩⟩) ?_
                        have a9 : j = (j - 1) + 1 := by omega
                        refine ih (j - 1) (by omega) _ _ _ _ _ _ _ _ hf hl (by omega) (by omega) (by omega) ⟨c232, c233, n_b_t, l1, l2, by omega, by omega⟩ ⟨g234, sz235, c236, c237, by omega, by omega, gb240⟩ (fun h1 at1 fl1 p1 p2 p3 p4 => hq h1 at1 fl1 p1 p2 ?_ (fun q hq => (p4 q hq).trans ((o231 q ⟨hq.2.1, hq.2.2⟩).trans ((o212 q ⟨hq.1, hq.2.1, hq.2.2⟩).trans ((o200 q hq.1).trans (o47 q hq.1))))))
                        refine Or.inr ⟨by omega, ?_⟩
                        have y9 := (e211.bd p3).is (by omega)
                        rw [a9, sp_loop, if_pos (sp_pl_iff.mpr (by omega))]
                        have z9 : v196.toInt.toNat = sp_sk f len.toInt.toNat at0.toInt.toNat + 1 := by omega
                        rw [z9] at y9
                        exact y9
                    · exfalso; omega
                  · exfalso; omega
                · refine w_goto (tgt := 142) (tX5_sum_0_ok (72, .goto 70, 3) (List.mem_of_getElem? (i := 35) rfl)) rfl ?_
                  refine w_iload_n (List.Mem.tail _ (List.Mem.tail _ (List.Mem.tail _ (List.Mem.head _)))) (tX5_sum_1_ok (142, .iload_n 3, 1) (List.mem_of_getElem? (i := 10) rfl)) ?_
                  refine w_if_eq (tgt := 155) (tX5_sum_1_ok (143, .ifCond .eq 12, 3) (List.mem_of_getElem? (i := 11) rfl)) rfl (fun b243 => ?_) (fun b243 => ?_)
                  · refine w_vret rfl (tX5_sum_1_ok (155, .return_, 1) (List.mem_of_getElem? (i := 17) rfl)) ?_
                    refine hq h41 at42 fl0 ⟨c48, c49, n_b_t, l1, l2, by omega, by omega⟩ ⟨g, sz, c52, c53, by omega, by omega, gb⟩ ?_ (fun q hq => o47 q hq.1)
                    have a9 : j = (j - 1) + 1 := by omega
                    refine Or.inr ⟨by omega, ?_⟩
                    rw [a9, sp_loop, if_neg (fun q9 => by have := sp_pl_iff.mp q9; omega)]
                    exact ⟨by omega, by omega⟩
                  · refine w_aload_n (List.Mem.tail _ (List.Mem.tail _ (List.Mem.tail _ (List.Mem.tail _ (List.Mem.head _))))) (tX5_sum_1_ok (146, .aload_n 0, 1) (List.mem_of_getElem? (i := 12) rfl)) ?_
                    refine w_sipush (by decide) (tX5_sum_1_ok (147, .sipush 10000, 3) (List.mem_of_getElem? (i := 13) rfl)) (fun v244 e245 => ?_)
                    refine w_iload_n (List.Mem.tail _ (List.Mem.tail _ (List.Mem.tail _ (List.Mem.head _)))) (tX5_sum_1_ok (150, .iload_n 3, 1) (List.mem_of_getElem? (i := 14) rfl)) ?_
                    refine w_iadd (by omega) (by omega) (tX5_sum_1_ok (151, .iadd, 1) (List.mem_of_getElem? (i := 15) rfl)) (fun v246 e247 => ?_)
                    refine w_callV (own := 10) (mi := 56) [.int v246] [] [(0, .ref r), (1, .int v246)] rfl (cllw_X5 (55, 0, 56) (List.mem_of_getElem? (i := 12) rfl)) rfl rfl c52 rfl (by omega) (w_lo (n := 21) rfl (by omega)) (Nat.le_of_ble_eq_true rfl) (Nat.le_of_ble_eq_true rfl) rfl (tX5_sum_1_ok (152, .invokevirtual 55, 3) (List.mem_of_getElem? (i := 16) rfl)) (s_emit hT n_r_k ⟨g, sz, c52, c53, by omega, by omega, gb⟩ (by omega) (fun h248 u249 o250 => ?_))
                    have c251 := (o250 t ⟨n_t_r, n_t_k⟩).trans c48
                    have c252 := (o250 b ⟨n_b_r, n_b_k⟩).trans c49
                    obtain ⟨g253, sz254, c255, c256, z257, z258, gb259⟩ := u249
                    show ww l D tys A X fr lo mX5_sum Q 155 [(6, .int v136), (5, .int v43), (4, .int i), (3, .int wt), (0, .ref r), (1, .ref t), (2, .int depth)] [] h248
                    refine w_vret rfl (tX5_sum_1_ok (155, .return_, 1) (List.mem_of_getElem? (i := 17) rfl)) ?_
                    refine hq h248 at42 fl0 ⟨c251, c252, n_b_t, l1, l2, by omega, by omega⟩ ⟨g253, sz254, c255, c256, by omega, by omega, gb259⟩ ?_ (fun q hq => (o250 q ⟨hq.2.1, hq.2.2⟩).trans (o47 q hq.1))
                    have a9 : j = (j - 1) + 1 := by omega
                    refine Or.inr ⟨by omega, ?_⟩
                    rw [a9, sp_loop, if_neg (fun q9 => by have := sp_pl_iff.mp q9; omega)]
                    exact ⟨by omega, by omega⟩
          · refine w_iconst (by decide) (tX5_sum_0_ok (46, .iconst 1, 1) (List.mem_of_getElem? (i := 23) rfl)) (fun v260 e261 => ?_)
            refine w_goto (tgt := 51) (tX5_sum_0_ok (47, .goto 4, 3) (List.mem_of_getElem? (i := 24) rfl)) rfl ?_
            refine w_istore [(6, .int v260), (5, .int v43), (4, .int i), (3, .int wt), (0, .ref r), (1, .ref t), (2, .int depth)] rfl (Nat.le_of_ble_eq_true rfl) (tX5_sum_0_ok (51, .istore 6, 2) (List.mem_of_getElem? (i := 26) rfl)) ?_
            refine w_iload (List.Mem.head _) (tX5_sum_0_ok (53, .iload 6, 2) (List.mem_of_getElem? (i := 27) rfl)) ?_
            refine w_if_ne (tgt := 75) (tX5_sum_0_ok (55, .ifCond .ne 20, 3) (List.mem_of_getElem? (i := 28) rfl)) rfl (fun b262 => ?_) (fun b262 => ?_)
            · refine w_aload_n (List.Mem.tail _ (List.Mem.tail _ (List.Mem.tail _ (List.Mem.tail _ (List.Mem.tail _ (List.Mem.head _)))))) (tX5_sum_0_ok (75, .aload_n 1, 1) (List.mem_of_getElem? (i := 36) rfl)) ?_
              refine w_dup rfl (tX5_sum_0_ok (76, .dup, 1) (List.mem_of_getElem? (i := 37) rfl)) ?_
              refine w_get (own := 10) rfl rfl (by decide) c48 rfl (tX5_sum_0_ok (77, .getfield 61, 3) (List.mem_of_getElem? (i := 38) rfl)) ?_
              refine w_iconst (by decide) (tX5_sum_0_ok (80, .iconst 1, 1) (List.mem_of_getElem? (i := 39) rfl)) (fun v263 e264 => ?_)
              refine w_iadd (by omega) (by omega) (tX5_sum_0_ok (81, .iadd, 1) (List.mem_of_getElem? (i := 40) rfl)) (fun v265 e266 => ?_)
              refine w_put (own := 10) [.ref b, .int len, .int v265, .int fl0] rfl rfl rfl (by decide) rfl ⟨rfl, rfl⟩ c48 (Nat.le_of_ble_eq_true rfl) (tX5_sum_0_ok (82, .putfield 61, 3) (List.mem_of_getElem? (i := 41) rfl)) (fun h267 c268 o269 => ?_)
              have c270 := (o269 b n_b_t).trans c49
              have c271 := (o269 r n_r_t).trans c52
              have c272 := (o269 k n_k_t).trans c53
              refine w_iload (List.Mem.head _) (tX5_sum_0_ok (85, .iload 6, 2) (List.mem_of_getElem? (i := 42) rfl)) ?_
              refine w_if_eq (tgt := 103) (tX5_sum_0_ok (87, .ifCond .eq 16, 3) (List.mem_of_getElem? (i := 43) rfl)) rfl (fun b273 => ?_) (fun b273 => ?_)
              · exfalso; omega
              · refine w_iload_n (List.Mem.tail _ (List.Mem.tail _ (List.Mem.tail _ (List.Mem.head _)))) (tX5_sum_0_ok (90, .iload_n 3, 1) (List.mem_of_getElem? (i := 44) rfl)) ?_
                refine w_if_eq (tgt := 103) (tX5_sum_0_ok (91, .ifCond .eq 12, 3) (List.mem_of_getElem? (i := 45) rfl)) rfl (fun b274 => ?_) (fun b274 => ?_)
                · refine w_iload (List.Mem.head _) (tX5_sum_0_ok (103, .iload 6, 2) (List.mem_of_getElem? (i := 51) rfl)) ?_
                  refine w_if_eq (tgt := 113) (tX5_sum_0_ok (105, .ifCond .eq 8, 3) (List.mem_of_getElem? (i := 52) rfl)) rfl (fun b275 => ?_) (fun b275 => ?_)
                  · exfalso; omega
                  · refine w_iload (List.Mem.tail _ (List.Mem.head _)) (tX5_sum_0_ok (108, .iload 5, 2) (List.mem_of_getElem? (i := 53) rfl)) ?_
                    refine w_goto (tgt := 114) (tX5_sum_0_ok (110, .goto 4, 3) (List.mem_of_getElem? (i := 54) rfl)) rfl ?_
                    refine w_istore_n [(3, .int v43), (6, .int v260), (5, .int v43), (4, .int i), (0, .ref r), (1, .ref t), (2, .int depth)] rfl (Nat.le_of_ble_eq_true rfl) (tX5_sum_0_ok (114, .istore_n 3, 1) (List.mem_of_getElem? (i := 56) rfl)) ?_
                    refine w_aload_n (List.Mem.tail _ (List.Mem.tail _ (List.Mem.tail _ (List.Mem.tail _ (List.Mem.head _))))) (tX5_sum_0_ok (115, .aload_n 0, 1) (List.mem_of_getElem? (i := 57) rfl)) ?_
                    refine w_aload_n (List.Mem.tail _ (List.Mem.tail _ (List.Mem.tail _ (List.Mem.tail _ (List.Mem.tail _ (List.Mem.head _)))))) (tX5_sum_0_ok (116, .aload_n 1, 1) (List.mem_of_getElem? (i := 58) rfl)) ?_
                    refine w_iload_n (List.Mem.tail _ (List.Mem.tail _ (List.Mem.tail _ (List.Mem.tail _ (List.Mem.tail _ (List.Mem.tail _ (List.Mem.head _))))))) (tX5_sum_0_ok (117, .iload_n 2, 1) (List.mem_of_getElem? (i := 59) rfl)) ?_
                    refine w_callV (own := 10) (mi := 52) [.ref t, .int depth] [] [(0, .ref r), (1, .ref t), (2, .int depth)] rfl (cllw_X5 (71, 0, 52) (List.mem_of_getElem? (i := 5) rfl)) rfl rfl c271 rfl (by omega) (w_lo (n := 24) rfl (by omega)) (Nat.le_of_ble_eq_true rfl) (Nat.le_of_ble_eq_true rfl) rfl (tX5_sum_1_ok (118, .invokevirtual 71, 3) (List.mem_of_getElem? (i := 0) rfl)) (hatom _ _ _ _ _ _ (by omega) (w_sub (n := 24) rfl (by omega)) trivial ⟨c268, c270, n_b_t, l1, l2, by omega, by omega⟩ ⟨g, sz, c271, c272, by omega, by omega, gb⟩ (fun h276 at277 fl278 p279 u280 e281 o282 => ?_))
                    obtain ⟨c285, c286, -, -, -, a283, a284⟩ := p279
                    obtain ⟨g287, sz288, c289, c290, z291, z292, gb293⟩ := u280
                    show ww l D tys A X fr lo mX5_sum Q 121 [(3, .int v43), (6, .int v260), (5, .int v43), (4, .int i), (0, .ref r), (1, .ref t), (2, .int depth)] [] h276
                    refine w_iload (List.Mem.tail _ (List.Mem.head _)) (tX5_sum_1_ok (121, .iload 6, 2) (List.mem_of_getElem? (i := 1) rfl)) ?_
                    refine w_if_ne (tgt := 136) (tX5_sum_1_ok (123, .ifCond .ne 13, 3) (List.mem_of_getElem? (i := 2) rfl)) rfl (fun b294 => ?_) (fun b294 => ?_)
                    · refine w_iinc (fun v295 => [(4, .int v295), (3, .int v43), (6, .int v260), (5, .int v43), (0, .ref r), (1, .ref t), (2, .int depth)]) (fun _ => rfl) (List.Mem.tail _ (List.Mem.tail _ (List.Mem.tail _ (List.Mem.head _)))) (Nat.le_of_ble_eq_true rfl) (by decide) (by omega) (by omega) (tX5_sum_1_ok (136, .iinc 4 1, 3) (List.mem_of_getElem? (i := 8) rfl)) (fun v295 e296 => ?_)
                      refine w_goto (tgt := 11) (tX5_sum_1_ok (139, .goto (-128), 3) (List.mem_of_getElem? (i := 9) rfl)) rfl ?_
                      refine w_lv [(4, .int v295), (3, .int v43), (0, .ref r), (1, .ref t), (2, .int depth)] (List.forall_mem_cons.mpr ⟨(List.Mem.head _), List.forall_mem_cons.mpr ⟨(List.Mem.tail _ (List.Mem.head _)), List.forall_mem_cons.mpr ⟨(List.Mem.tail _ (List.Mem.tail _ (List.Mem.tail _ (List.Mem.tail _ (List.Mem.head _))))), List.forall_mem_cons.mpr ⟨(List.Mem.tail _ (List.Mem.tail _ (List.Mem.tail _ (List.Mem.tail _ (List.Mem.tail _ (List.Mem.head _)))))), List.forall_mem_cons.mpr ⟨(List.Mem.tail _ (List.Mem.tail _ (List.Mem.tail _ (List.Mem.tail _ (List.Mem.tail _ (List.Mem.tail _ (List.Mem.head _))))))), fun _ h => absurd h List.not_mem_nil⟩⟩⟩⟩⟩) ?_
                      have a9 : j = (j - 1) + 1 := by omega
                      refine ih (j - 1) (by omega) _ _ _ _ _ _ _ _ hf hl (by omega) (by omega) (by omega) ⟨c285, c286, n_b_t, l1, l2, by omega, by omega⟩ ⟨g287, sz288, c289, c290, by omega, by omega, gb293⟩ (fun h1 at1 fl1 p1 p2 p3 p4 => hq h1 at1 fl1 p1 p2 ?_ (fun q hq => (p4 q hq).trans ((o282 q ⟨hq.1, hq.2.1, hq.2.2⟩).trans ((o269 q hq.1).trans (o47 q hq.1)))))
                      refine Or.inr ⟨by omega, ?_⟩
                      have y9 := (e281.bd p3).is (by omega)
                      rw [a9, sp_loop, if_pos (sp_pl_iff.mpr (by omega))]
                      have z9 : v265.toInt.toNat = sp_sk f len.toInt.toNat at0.toInt.toNat + 1 := by omega
                      rw [z9] at y9
                      exact y9
                    · exfalso; omega
                · refine w_aload_n (List.Mem.tail _ (List.Mem.tail _ (List.Mem.tail _ (List.Mem.tail _ (List.Mem.head _))))) (tX5_sum_0_ok (94, .aload_n 0, 1) (List.mem_of_getElem? (i := 46) rfl)) ?_
                  refine w_sipush (by decide) (tX5_sum_0_ok (95, .sipush 10000, 3) (List.mem_of_getElem? (i := 47) rfl)) (fun v297 e298 => ?_)
                  refine w_iload_n (List.Mem.tail _ (List.Mem.tail _ (List.Mem.tail _ (List.Mem.head _)))) (tX5_sum_0_ok (98, .iload_n 3, 1) (List.mem_of_getElem? (i := 48) rfl)) ?_
                  refine w_iadd (by omega) (by omega) (tX5_sum_0_ok (99, .iadd, 1) (List.mem_of_getElem? (i := 49) rfl)) (fun v299 e300 => ?_)
                  refine w_callV (own := 10) (mi := 56) [.int v299] [] [(0, .ref r), (1, .int v299)] rfl (cllw_X5 (55, 0, 56) (List.mem_of_getElem? (i := 12) rfl)) rfl rfl c271 rfl (by omega) (w_lo (n := 21) rfl (by omega)) (Nat.le_of_ble_eq_true rfl) (Nat.le_of_ble_eq_true rfl) rfl (tX5_sum_0_ok (100, .invokevirtual 55, 3) (List.mem_of_getElem? (i := 50) rfl)) (s_emit hT n_r_k ⟨g, sz, c271, c272, by omega, by omega, gb⟩ (by omega) (fun h301 u302 o303 => ?_))
                  have c304 := (o303 t ⟨n_t_r, n_t_k⟩).trans c268
                  have c305 := (o303 b ⟨n_b_r, n_b_k⟩).trans c270
                  obtain ⟨g306, sz307, c308, c309, z310, z311, gb312⟩ := u302
                  show ww l D tys A X fr lo mX5_sum Q 103 [(6, .int v260), (5, .int v43), (4, .int i), (3, .int wt), (0, .ref r), (1, .ref t), (2, .int depth)] [] h301
                  refine w_iload (List.Mem.head _) (tX5_sum_0_ok (103, .iload 6, 2) (List.mem_of_getElem? (i := 51) rfl)) ?_
                  refine w_if_eq (tgt := 113) (tX5_sum_0_ok (105, .ifCond .eq 8, 3) (List.mem_of_getElem? (i := 52) rfl)) rfl (fun b313 => ?_) (fun b313 => ?_)
                  · exfalso; omega
                  · refine w_iload (List.Mem.tail _ (List.Mem.head _)) (tX5_sum_0_ok (108, .iload 5, 2) (List.mem_of_getElem? (i := 53) rfl)) ?_
                    refine w_goto (tgt := 114) (tX5_sum_0_ok (110, .goto 4, 3) (List.mem_of_getElem? (i := 54) rfl)) rfl ?_
                    refine w_istore_n [(3, .int v43), (6, .int v260), (5, .int v43), (4, .int i), (0, .ref r), (1, .ref t), (2, .int depth)] rfl (Nat.le_of_ble_eq_true rfl) (tX5_sum_0_ok (114, .istore_n 3, 1) (List.mem_of_getElem? (i := 56) rfl)) ?_
                    refine w_aload_n (List.Mem.tail _ (List.Mem.tail _ (List.Mem.tail _ (List.Mem.tail _ (List.Mem.head _))))) (tX5_sum_0_ok (115, .aload_n 0, 1) (List.mem_of_getElem? (i := 57) rfl)) ?_
                    refine w_aload_n (List.Mem.tail _ (List.Mem.tail _ (List.Mem.tail _ (List.Mem.tail _ (List.Mem.tail _ (List.Mem.head _)))))) (tX5_sum_0_ok (116, .aload_n 1, 1) (List.mem_of_getElem? (i := 58) rfl)) ?_
                    refine w_iload_n (List.Mem.tail _ (List.Mem.tail _ (List.Mem.tail _ (List.Mem.tail _ (List.Mem.tail _ (List.Mem.tail _ (List.Mem.head _))))))) (tX5_sum_0_ok (117, .iload_n 2, 1) (List.mem_of_getElem? (i := 59) rfl)) ?_
                    refine w_callV (own := 10) (mi := 52) [.ref t, .int depth] [] [(0, .ref r), (1, .ref t), (2, .int depth)] rfl (cllw_X5 (71, 0, 52) (List.mem_of_getElem? (i := 5) rfl)) rfl rfl c308 rfl (by omega) (w_lo (n := 24) rfl (by omega)) (Nat.le_of_ble_eq_true rfl) (Nat.le_of_ble_eq_true rfl) rfl (tX5_sum_1_ok (118, .invokevirtual 71, 3) (List.mem_of_getElem? (i := 0) rfl)) (hatom _ _ _ _ _ _ (by omega) (w_sub (n := 24) rfl (by omega)) trivial ⟨c304, c305, n_b_t, l1, l2, by omega, by omega⟩ ⟨g306, sz307, c308, c309, by omega, by omega, gb312⟩ (fun h314 at315 fl316 p317 u318 e319 o320 => ?_))
                    obtain ⟨c323, c324, -, -, -, a321, a322⟩ := p317
                    obtain ⟨g325, sz326, c327, c328, z329, z330, gb331⟩ := u318
                    show ww l D tys A X fr lo mX5_sum Q 121 [(3, .int v43), (6, .int v260), (5, .int v43), (4, .int i), (0, .ref r), (1, .ref t), (2, .int depth)] [] h314
                    refine w_iload (List.Mem.tail _ (List.Mem.head _)) (tX5_sum_1_ok (121, .iload 6, 2) (List.mem_of_getElem? (i := 1) rfl)) ?_
                    refine w_if_ne (tgt := 136) (tX5_sum_1_ok (123, .ifCond .ne 13, 3) (List.mem_of_getElem? (i := 2) rfl)) rfl (fun b332 => ?_) (fun b332 => ?_)
                    · refine w_iinc (fun v333 => [(4, .int v333), (3, .int v43), (6, .int v260), (5, .int v43), (0, .ref r), (1, .ref t), (2, .int depth)]) (fun _ => rfl) (List.Mem.tail _ (List.Mem.tail _ (List.Mem.tail _ (List.Mem.head _)))) (Nat.le_of_ble_eq_true rfl) (by decide) (by omega) (by omega) (tX5_sum_1_ok (136, .iinc 4 1, 3) (List.mem_of_getElem? (i := 8) rfl)) (fun v333 e334 => ?_)
                      refine w_goto (tgt := 11) (tX5_sum_1_ok (139, .goto (-128), 3) (List.mem_of_getElem? (i := 9) rfl)) rfl ?_
                      refine w_lv [(4, .int v333), (3, .int v43), (0, .ref r), (1, .ref t), (2, .int depth)] (List.forall_mem_cons.mpr ⟨(List.Mem.head _), List.forall_mem_cons.mpr ⟨(List.Mem.tail _ (List.Mem.head _)), List.forall_mem_cons.mpr ⟨(List.Mem.tail _ (List.Mem.tail _ (List.Mem.tail _ (List.Mem.tail _ (List.Mem.head _))))), List.forall_mem_cons.mpr ⟨(List.Mem.tail _ (List.Mem.tail _ (List.Mem.tail _ (List.Mem.tail _ (List.Mem.tail _ (List.Mem.head _)))))), List.forall_mem_cons.mpr ⟨(List.Mem.tail _ (List.Mem.tail _ (List.Mem.tail _ (List.Mem.tail _ (List.Mem.tail _ (List.Mem.tail _ (List.Mem.head _))))))), fun _ h => absurd h List.not_mem_nil⟩⟩⟩⟩⟩) ?_
                      have a9 : j = (j - 1) + 1 := by omega
                      refine ih (j - 1) (by omega) _ _ _ _ _ _ _ _ hf hl (by omega) (by omega) (by omega) ⟨c323, c324, n_b_t, l1, l2, by omega, by omega⟩ ⟨g325, sz326, c327, c328, by omega, by omega, gb331⟩ (fun h1 at1 fl1 p1 p2 p3 p4 => hq h1 at1 fl1 p1 p2 ?_ (fun q hq => (p4 q hq).trans ((o320 q ⟨hq.1, hq.2.1, hq.2.2⟩).trans ((o303 q ⟨hq.2.1, hq.2.2⟩).trans ((o269 q hq.1).trans (o47 q hq.1))))))
                      refine Or.inr ⟨by omega, ?_⟩
                      have y9 := (e319.bd p3).is (by omega)
                      rw [a9, sp_loop, if_pos (sp_pl_iff.mpr (by omega))]
                      have z9 : v265.toInt.toNat = sp_sk f len.toInt.toNat at0.toInt.toNat + 1 := by omega
                      rw [z9] at y9
                      exact y9
                    · exfalso; omega
            · exfalso; omega
theorem s_sum (hT : k_tys tys cA) (hN : ns t b r k) {d : Nat} {N NB NP : Nat → Nat ⊕ Nat} {depth : Int32} (hd : depth.toInt = 6 - (d : Int)) (h6 : d ≤ 6) (hatom : PR l D tys A X cA t b f len r k s mX5_atom [(0, .ref r), (1, .ref t), (2, .int depth)] (fun _ _ => True) (sp_atom f len.toInt.toNat N) (5 * d + 2) (140 * d + 90)) : PR l D tys A X cA t b f len r k s mX5_sum [(0, .ref r), (1, .ref t), (2, .int depth)] (fun _ _ => True) (sp_sum f len.toInt.toNat N) (5 * d + 3) (140 * d + 115) := by
  have hN0 := hN
  obtain ⟨n_b_t, n_r_t, n_k_t, n_r_b, n_k_b, n_r_k⟩ := hN
  have n_t_b := n_b_t.symm
  have n_t_r := n_r_t.symm
  have n_t_k := n_k_t.symm
  have n_b_r := n_r_b.symm
  have n_b_k := n_k_b.symm
  have n_k_r := n_r_k.symm
  intro fr lo Q h at0 fl0 hf hl hP H R hq
  obtain ⟨c_t, c_b, -, l1, l2, a1, a2⟩ := H
  obtain ⟨g, sz, c_r, c_k, z1, z2, gb⟩ := R
  refine w_aload_n (List.Mem.head _) (tX5_sum_0_ok (0, .aload_n 0, 1) (List.mem_of_getElem? (i := 0) rfl)) ?_
  refine w_aload_n (List.Mem.tail _ (List.Mem.head _)) (tX5_sum_0_ok (1, .aload_n 1, 1) (List.mem_of_getElem? (i := 1) rfl)) ?_
  refine w_iload_n (List.Mem.tail _ (List.Mem.tail _ (List.Mem.head _))) (tX5_sum_0_ok (2, .iload_n 2, 1) (List.mem_of_getElem? (i := 2) rfl)) ?_
  refine w_callV (own := 10) (mi := 52) [.ref t, .int depth] [] [(0, .ref r), (1, .ref t), (2, .int depth)] rfl (cllw_X5 (71, 0, 52) (List.mem_of_getElem? (i := 5) rfl)) rfl rfl c_r rfl (by omega) (w_lo (n := 24) rfl (by omega)) (Nat.le_of_ble_eq_true rfl) (Nat.le_of_ble_eq_true rfl) rfl (tX5_sum_0_ok (3, .invokevirtual 71, 3) (List.mem_of_getElem? (i := 3) rfl)) (hatom _ _ _ _ _ _ (by omega) (w_sub (n := 24) rfl (by omega)) trivial ⟨c_t, c_b, n_b_t, l1, l2, by omega, by omega⟩ ⟨g, sz, c_r, c_k, by omega, by omega, gb⟩ (fun h1 at2 fl3 p4 u5 e6 o7 => ?_))
  obtain ⟨c10, c11, -, -, -, a8, a9⟩ := p4
  obtain ⟨g12, sz13, c14, c15, z16, z17, gb18⟩ := u5
  show ww l D tys A X fr lo mX5_sum Q 6 [(0, .ref r), (1, .ref t), (2, .int depth)] [] h1
  refine w_iconst (by decide) (tX5_sum_0_ok (6, .iconst 0, 1) (List.mem_of_getElem? (i := 4) rfl)) (fun v19 e20 => ?_)
  refine w_istore_n [(3, .int v19), (0, .ref r), (1, .ref t), (2, .int depth)] rfl (Nat.le_of_ble_eq_true rfl) (tX5_sum_0_ok (7, .istore_n 3, 1) (List.mem_of_getElem? (i := 5) rfl)) ?_
  refine w_iconst (by decide) (tX5_sum_0_ok (8, .iconst 0, 1) (List.mem_of_getElem? (i := 6) rfl)) (fun v21 e22 => ?_)
  refine w_istore [(4, .int v21), (3, .int v19), (0, .ref r), (1, .ref t), (2, .int depth)] rfl (Nat.le_of_ble_eq_true rfl) (tX5_sum_0_ok (9, .istore 4, 2) (List.mem_of_getElem? (i := 7) rfl)) ?_
  refine s_sumL (NB := NB) (NP := NP) hT hN0 hd h6 hatom 160 _ _ _ _ _ _ _ _ hf hl (by omega) (by omega) (by omega) ⟨c10, c11, n_b_t, l1, l2, by omega, by omega⟩ ⟨g12, sz13, c14, c15, by omega, by omega, gb18⟩ (fun h1 at1 fl1 p1 p2 p3 p4 => hq h1 at1 fl1 p1 p2 ?_ (fun q hq => (p4 q hq).trans (o7 q ⟨hq.1, hq.2.1, hq.2.2⟩)))
  exact e6.bd p3
theorem sp_cm_sk {f : Nat → Int32} {len n m : Nat} {N : Nat → Nat ⊕ Nat} {a1 f1 : Int32} (e : m = sp_sk f len n) (p : sp_is (sp_cm f len N m) a1 f1) : sp_is (sp_cm f len N n) a1 f1 := by
  subst e
  unfold sp_cm at p ⊢
  rw [sp_sk_sk] at p
  exact p
theorem s_unit (hT : k_tys tys cA) (hN : ns t b r k) {d : Nat} {N NB NP : Nat → Nat ⊕ Nat} {depth : Int32} (hd : depth.toInt = 6 - (d : Int)) (h6 : d ≤ 6) (hsum : PR l D tys A X cA t b f len r k s mX5_sum [(0, .ref r), (1, .ref t), (2, .int depth)] (fun _ _ => True) (sp_sum f len.toInt.toNat N) (5 * d + 3) (140 * d + 115)) (hbang : ∀ c : Int32, c.toInt = 33 → PR l D tys A X cA t b f len r k s mX5_nested [(0, .ref r), (1, .ref t), (2, .int depth), (3, .int c)] (fun a fl => fl.toInt = -1 ∧ a.toInt < len.toInt) NB (5 * d + 1) (140 * d + 60)) (hpar : ∀ c : Int32, c.toInt = 40 → PR l D tys A X cA t b f len r k s mX5_nested [(0, .ref r), (1, .ref t), (2, .int depth), (3, .int c)] (fun a fl => fl.toInt = -1 ∧ a.toInt < len.toInt) NP (5 * d + 1) (140 * d + 60)) {bg : Int32} (hb : bg.toInt = 0) : PR l D tys A X cA t b f len r k s mX5_unit [(0, .ref r), (1, .ref t), (2, .int depth), (3, .int bg)] (fun _ _ => True) (sp_unit f len.toInt.toNat N NB NP) (5 * d + 4) (140 * d + 145) := by
  have hN0 := hN
  obtain ⟨n_b_t, n_r_t, n_k_t, n_r_b, n_k_b, n_r_k⟩ := hN
  have n_t_b := n_b_t.symm
  have n_t_r := n_r_t.symm
  have n_t_k := n_k_t.symm
  have n_b_r := n_r_b.symm
  have n_b_k := n_k_b.symm
  have n_k_r := n_r_k.symm
  intro fr lo Q h at0 fl0 hf hl hP H R hq
  obtain ⟨c_t, c_b, -, l1, l2, a1, a2⟩ := H
  obtain ⟨g, sz, c_r, c_k, z1, z2, gb⟩ := R
  refine w_aload_n (List.Mem.tail _ (List.Mem.head _)) (tX5_unit_0_ok (0, .aload_n 1, 1) (List.mem_of_getElem? (i := 0) rfl)) ?_
  refine w_callV (own := 10) (mi := 77) [] [] [(0, .ref t)] rfl (cllw_X5 (35, 0, 77) (List.mem_of_getElem? (i := 3) rfl)) rfl rfl c_t rfl (by omega) (w_lo (n := 20) rfl (by omega)) (Nat.le_of_ble_eq_true rfl) (Nat.le_of_ble_eq_true rfl) rfl (tX5_unit_0_ok (1, .invokevirtual 35, 3) (List.mem_of_getElem? (i := 1) rfl)) (s_sign hT ⟨c_t, c_b, n_b_t, l1, l2, by omega, by omega⟩ (fun h1 at2 v3 p4 e5 e6 o7 => ?_))
  obtain ⟨c8, c9, -, -, -, a10, a11⟩ := p4
  have c12 := (o7 r n_r_t).trans c_r
  have c13 := (o7 k n_k_t).trans c_k
  show ww l D tys A X fr lo mX5_unit Q 4 [(0, .ref r), (1, .ref t), (2, .int depth), (3, .int bg)] [.int v3] h1
  rw [e5] at e6
  have g14 := sp_sg_or f len.toInt.toNat (sp_sk f len.toInt.toNat at0.toInt.toNat)
  refine w_istore [(4, .int v3), (0, .ref r), (1, .ref t), (2, .int depth), (3, .int bg)] rfl (Nat.le_of_ble_eq_true rfl) (tX5_unit_0_ok (4, .istore 4, 2) (List.mem_of_getElem? (i := 2) rfl)) ?_
  refine w_aload_n (List.Mem.tail _ (List.Mem.tail _ (List.Mem.head _))) (tX5_unit_0_ok (6, .aload_n 1, 1) (List.mem_of_getElem? (i := 3) rfl)) ?_
  refine w_callV (own := 10) (mi := 74) [] [] [(0, .ref t)] rfl (cllw_X5 (31, 0, 74) (List.mem_of_getElem? (i := 6) rfl)) rfl rfl c8 rfl (by omega) (w_lo (n := 20) rfl (by omega)) (Nat.le_of_ble_eq_true rfl) (Nat.le_of_ble_eq_true rfl) rfl (tX5_unit_0_ok (7, .invokevirtual 31, 3) (List.mem_of_getElem? (i := 4) rfl)) (s_isWrong hT ⟨c8, c9, n_b_t, l1, l2, by omega, by omega⟩ (fun v15 e16 => ?_))
  show ww l D tys A X fr lo mX5_unit Q 10 [(4, .int v3), (0, .ref r), (1, .ref t), (2, .int depth), (3, .int bg)] [.int v15] h1
  refine w_if_eq (tgt := 14) (tX5_unit_0_ok (10, .ifCond .eq 4, 3) (List.mem_of_getElem? (i := 5) rfl)) rfl (fun b17 => ?_) (fun b17 => ?_)
  · refine w_iload_n (List.Mem.tail _ (List.Mem.tail _ (List.Mem.tail _ (List.Mem.tail _ (List.Mem.head _))))) (tX5_unit_0_ok (14, .iload_n 3, 1) (List.mem_of_getElem? (i := 7) rfl)) ?_
    refine w_if_ne (tgt := 41) (tX5_unit_0_ok (15, .ifCond .ne 26, 3) (List.mem_of_getElem? (i := 8) rfl)) rfl (fun b18 => ?_) (fun b18 => ?_)
    · exfalso; omega
    · refine w_iload (List.Mem.head _) (tX5_unit_0_ok (18, .iload 4, 2) (List.mem_of_getElem? (i := 9) rfl)) ?_
      refine w_bipush (by decide) (tX5_unit_0_ok (20, .bipush 33, 2) (List.mem_of_getElem? (i := 10) rfl)) (fun v19 e20 => ?_)
      refine w_icmp_eq (tgt := 32) (tX5_unit_0_ok (22, .if_icmp .eq 10, 3) (List.mem_of_getElem? (i := 11) rfl)) rfl (fun b21 => ?_) (fun b21 => ?_)
      · refine w_aload_n (List.Mem.tail _ (List.Mem.head _)) (tX5_unit_0_ok (32, .aload_n 0, 1) (List.mem_of_getElem? (i := 15) rfl)) ?_
        refine w_aload_n (List.Mem.tail _ (List.Mem.tail _ (List.Mem.head _))) (tX5_unit_0_ok (33, .aload_n 1, 1) (List.mem_of_getElem? (i := 16) rfl)) ?_
        refine w_iload_n (List.Mem.tail _ (List.Mem.tail _ (List.Mem.tail _ (List.Mem.head _)))) (tX5_unit_0_ok (34, .iload_n 2, 1) (List.mem_of_getElem? (i := 17) rfl)) ?_
        refine w_iload (List.Mem.head _) (tX5_unit_0_ok (35, .iload 4, 2) (List.mem_of_getElem? (i := 18) rfl)) ?_
        refine w_callV (own := 10) (mi := 60) [.ref t, .int depth, .int v3] [] [(0, .ref r), (1, .ref t), (2, .int depth), (3, .int v3)] rfl (cllw_X5 (64, 0, 60) (List.mem_of_getElem? (i := 8) rfl)) rfl rfl c12 rfl (by omega) (w_lo (n := 23) rfl (by omega)) (Nat.le_of_ble_eq_true rfl) (Nat.le_of_ble_eq_true rfl) rfl (tX5_unit_0_ok (37, .invokevirtual 64, 3) (List.mem_of_getElem? (i := 19) rfl)) ((hbang v3 (by omega)) _ _ _ _ _ _ (by omega) (w_sub (n := 23) rfl (by omega)) ⟨by omega, by omega⟩ ⟨c8, c9, n_b_t, l1, l2, by omega, by omega⟩ ⟨g, sz, c12, c13, by omega, by omega, gb⟩ (fun h22 at23 fl24 p25 u26 e27 o28 => ?_))
        obtain ⟨c31, c32, -, -, -, a29, a30⟩ := p25
        obtain ⟨g33, sz34, c35, c36, z37, z38, gb39⟩ := u26
        show ww l D tys A X fr lo mX5_unit Q 40 [(4, .int v3), (0, .ref r), (1, .ref t), (2, .int depth), (3, .int bg)] [] h22
        refine w_vret rfl (tX5_unit_0_ok (40, .return_, 1) (List.mem_of_getElem? (i := 20) rfl)) ?_
        refine hq h22 at23 fl24 ⟨c31, c32, n_b_t, l1, l2, by omega, by omega⟩ ⟨g33, sz34, c35, c36, by omega, by omega, gb39⟩ ?_ (fun q hq => (o28 q ⟨hq.1, hq.2.1, hq.2.2⟩).trans (o7 q hq.1))
        refine Or.inr ⟨by omega, ?_⟩
        unfold sp_unit
        rw [if_pos (by omega)]
        have y9 := e27.is (by omega)
        rw [e5] at y9
        exact y9
      · refine w_iload (List.Mem.head _) (tX5_unit_0_ok (25, .iload 4, 2) (List.mem_of_getElem? (i := 12) rfl)) ?_
        refine w_bipush (by decide) (tX5_unit_0_ok (27, .bipush 40, 2) (List.mem_of_getElem? (i := 13) rfl)) (fun v40 e41 => ?_)
        refine w_icmp_ne (tgt := 41) (tX5_unit_0_ok (29, .if_icmp .ne 12, 3) (List.mem_of_getElem? (i := 14) rfl)) rfl (fun b42 => ?_) (fun b42 => ?_)
        · refine w_iload_n (List.Mem.tail _ (List.Mem.tail _ (List.Mem.tail _ (List.Mem.tail _ (List.Mem.head _))))) (tX5_unit_0_ok (41, .iload_n 3, 1) (List.mem_of_getElem? (i := 21) rfl)) ?_
          refine w_if_ne (tgt := 51) (tX5_unit_0_ok (42, .ifCond .ne 9, 3) (List.mem_of_getElem? (i := 22) rfl)) rfl (fun b43 => ?_) (fun b43 => ?_)
          · exfalso; omega
          · refine w_aload_n (List.Mem.tail _ (List.Mem.head _)) (tX5_unit_0_ok (45, .aload_n 0, 1) (List.mem_of_getElem? (i := 23) rfl)) ?_
            refine w_aload_n (List.Mem.tail _ (List.Mem.tail _ (List.Mem.head _))) (tX5_unit_0_ok (46, .aload_n 1, 1) (List.mem_of_getElem? (i := 24) rfl)) ?_
            refine w_iload_n (List.Mem.tail _ (List.Mem.tail _ (List.Mem.tail _ (List.Mem.head _)))) (tX5_unit_0_ok (47, .iload_n 2, 1) (List.mem_of_getElem? (i := 25) rfl)) ?_
            refine w_callV (own := 10) (mi := 62) [.ref t, .int depth] [] [(0, .ref r), (1, .ref t), (2, .int depth)] rfl (cllw_X5 (43, 0, 62) (List.mem_of_getElem? (i := 4) rfl)) rfl rfl c12 rfl (by omega) (w_lo (n := 26) rfl (by omega)) (Nat.le_of_ble_eq_true rfl) (Nat.le_of_ble_eq_true rfl) rfl (tX5_unit_0_ok (48, .invokevirtual 43, 3) (List.mem_of_getElem? (i := 26) rfl)) (hsum _ _ _ _ _ _ (by omega) (w_sub (n := 26) rfl (by omega)) trivial ⟨c8, c9, n_b_t, l1, l2, by omega, by omega⟩ ⟨g, sz, c12, c13, by omega, by omega, gb⟩ (fun h44 at45 fl46 p47 u48 e49 o50 => ?_))
            obtain ⟨c53, c54, -, -, -, a51, a52⟩ := p47
            obtain ⟨g55, sz56, c57, c58, z59, z60, gb61⟩ := u48
            show ww l D tys A X fr lo mX5_unit Q 51 [(4, .int v3), (0, .ref r), (1, .ref t), (2, .int depth), (3, .int bg)] [] h44
            refine w_aload_n (List.Mem.tail _ (List.Mem.tail _ (List.Mem.head _))) (tX5_unit_0_ok (51, .aload_n 1, 1) (List.mem_of_getElem? (i := 27) rfl)) ?_
            refine w_callV (own := 10) (mi := 77) [] [] [(0, .ref t)] rfl (cllw_X5 (35, 0, 77) (List.mem_of_getElem? (i := 3) rfl)) rfl rfl c53 rfl (by omega) (w_lo (n := 20) rfl (by omega)) (Nat.le_of_ble_eq_true rfl) (Nat.le_of_ble_eq_true rfl) rfl (tX5_unit_0_ok (52, .invokevirtual 35, 3) (List.mem_of_getElem? (i := 28) rfl)) (s_sign hT ⟨c53, c54, n_b_t, l1, l2, by omega, by omega⟩ (fun h62 at63 v64 p65 e66 e67 o68 => ?_))
            obtain ⟨c69, c70, -, -, -, a71, a72⟩ := p65
            have c73 := (o68 r n_r_t).trans c57
            have c74 := (o68 k n_k_t).trans c58
            show ww l D tys A X fr lo mX5_unit Q 55 [(4, .int v3), (0, .ref r), (1, .ref t), (2, .int depth), (3, .int bg)] [.int v64] h62
            rw [e66] at e67
            have g75 := sp_sg_or f len.toInt.toNat (sp_sk f len.toInt.toNat at45.toInt.toNat)
            refine w_istore [(5, .int v64), (4, .int v3), (0, .ref r), (1, .ref t), (2, .int depth), (3, .int bg)] rfl (Nat.le_of_ble_eq_true rfl) (tX5_unit_0_ok (55, .istore 5, 2) (List.mem_of_getElem? (i := 29) rfl)) ?_
            refine w_aload_n (List.Mem.tail _ (List.Mem.tail _ (List.Mem.tail _ (List.Mem.head _)))) (tX5_unit_0_ok (57, .aload_n 1, 1) (List.mem_of_getElem? (i := 30) rfl)) ?_
            refine w_callV (own := 10) (mi := 74) [] [] [(0, .ref t)] rfl (cllw_X5 (31, 0, 74) (List.mem_of_getElem? (i := 6) rfl)) rfl rfl c69 rfl (by omega) (w_lo (n := 20) rfl (by omega)) (Nat.le_of_ble_eq_true rfl) (Nat.le_of_ble_eq_true rfl) rfl (tX5_unit_0_ok (58, .invokevirtual 31, 3) (List.mem_of_getElem? (i := 31) rfl)) (s_isWrong hT ⟨c69, c70, n_b_t, l1, l2, by omega, by omega⟩ (fun v76 e77 => ?_))
            show ww l D tys A X fr lo mX5_unit Q 61 [(5, .int v64), (4, .int v3), (0, .ref r), (1, .ref t), (2, .int depth), (3, .int bg)] [.int v76] h62
            refine w_if_ne (tgt := 72) (tX5_unit_0_ok (61, .ifCond .ne 11, 3) (List.mem_of_getElem? (i := 32) rfl)) rfl (fun b78 => ?_) (fun b78 => ?_)
            · refine w_aload_n (List.Mem.tail _ (List.Mem.tail _ (List.Mem.tail _ (List.Mem.head _)))) (tX5_unit_0_ok (72, .aload_n 1, 1) (List.mem_of_getElem? (i := 36) rfl)) ?_
              refine w_callV (own := 10) (mi := 80) [] [] [(0, .ref t)] rfl (cllw_X5 (68, 0, 80) (List.mem_of_getElem? (i := 9) rfl)) rfl rfl c69 rfl (by omega) (w_lo (n := 20) rfl (by omega)) (Nat.le_of_ble_eq_true rfl) (Nat.le_of_ble_eq_true rfl) rfl (tX5_unit_0_ok (73, .invokevirtual 68, 3) (List.mem_of_getElem? (i := 37) rfl)) (s_wrong hT ⟨c69, c70, n_b_t, l1, l2, by omega, by omega⟩ (fun h79 fl80 p81 e82 o83 => ?_))
              obtain ⟨c84, c85, -, -, -, a86, a87⟩ := p81
              have c88 := (o83 r n_r_t).trans c73
              have c89 := (o83 k n_k_t).trans c74
              show ww l D tys A X fr lo mX5_unit Q 76 [(5, .int v64), (4, .int v3), (0, .ref r), (1, .ref t), (2, .int depth), (3, .int bg)] [] h79
              refine w_vret rfl (tX5_unit_0_ok (76, .return_, 1) (List.mem_of_getElem? (i := 38) rfl)) ?_
              refine hq h79 at63 fl80 ⟨c84, c85, n_b_t, l1, l2, by omega, by omega⟩ ⟨g55, sz56, c88, c89, by omega, by omega, gb61⟩ ?_ (fun q hq => (o83 q hq.1).trans ((o68 q hq.1).trans ((o50 q ⟨hq.1, hq.2.1, hq.2.2⟩).trans (o7 q hq.1))))
              have c9 : sp_go (sp_cm f len.toInt.toNat N) at45 fl46 at63 fl80 := Or.inl ⟨by omega, by omega⟩
              refine Or.inr ⟨by omega, ?_⟩
              unfold sp_unit
              rw [if_neg (by omega), if_neg (by omega)]
              have y9 := (e49.bd c9).is (by omega)
              rw [e5] at y9
              exact y9
            · refine w_iload (List.Mem.head _) (tX5_unit_0_ok (64, .iload 5, 2) (List.mem_of_getElem? (i := 33) rfl)) ?_
              refine w_callS (own := 10) (mi := 58) [.int v64] [] [(0, .int v64)] rfl (cllw_X5 (47, 1, 58) (List.mem_of_getElem? (i := 11) rfl)) rfl rfl (by omega) (w_lo (n := 20) rfl (by omega)) (Nat.le_of_ble_eq_true rfl) (Nat.le_of_ble_eq_true rfl) rfl (tX5_unit_0_ok (66, .invokestatic 47, 3) (List.mem_of_getElem? (i := 34) rfl)) (s_isCompare (fun v90 e91 => ?_))
              show ww l D tys A X fr lo mX5_unit Q 69 [(5, .int v64), (4, .int v3), (0, .ref r), (1, .ref t), (2, .int depth), (3, .int bg)] [.int v90] h62
              refine w_if_ne (tgt := 77) (tX5_unit_0_ok (69, .ifCond .ne 8, 3) (List.mem_of_getElem? (i := 35) rfl)) rfl (fun b92 => ?_) (fun b92 => ?_)
              · refine w_aload_n (List.Mem.tail _ (List.Mem.tail _ (List.Mem.tail _ (List.Mem.head _)))) (tX5_unit_0_ok (77, .aload_n 1, 1) (List.mem_of_getElem? (i := 39) rfl)) ?_
                refine w_dup rfl (tX5_unit_0_ok (78, .dup, 1) (List.mem_of_getElem? (i := 40) rfl)) ?_
                refine w_get (own := 10) rfl rfl (by decide) c69 rfl (tX5_unit_0_ok (79, .getfield 61, 3) (List.mem_of_getElem? (i := 41) rfl)) ?_
                refine w_iconst (by decide) (tX5_unit_0_ok (82, .iconst 1, 1) (List.mem_of_getElem? (i := 42) rfl)) (fun v93 e94 => ?_)
                refine w_iadd (by omega) (by omega) (tX5_unit_0_ok (83, .iadd, 1) (List.mem_of_getElem? (i := 43) rfl)) (fun v95 e96 => ?_)
                refine w_put (own := 10) [.ref b, .int len, .int v95, .int fl46] rfl rfl rfl (by decide) rfl ⟨rfl, rfl⟩ c69 (Nat.le_of_ble_eq_true rfl) (tX5_unit_0_ok (84, .putfield 61, 3) (List.mem_of_getElem? (i := 44) rfl)) (fun h97 c98 o99 => ?_)
                have c100 := (o99 b n_b_t).trans c70
                have c101 := (o99 r n_r_t).trans c73
                have c102 := (o99 k n_k_t).trans c74
                refine w_aload_n (List.Mem.tail _ (List.Mem.tail _ (List.Mem.head _))) (tX5_unit_0_ok (87, .aload_n 0, 1) (List.mem_of_getElem? (i := 45) rfl)) ?_
                refine w_aload_n (List.Mem.tail _ (List.Mem.tail _ (List.Mem.tail _ (List.Mem.head _)))) (tX5_unit_0_ok (88, .aload_n 1, 1) (List.mem_of_getElem? (i := 46) rfl)) ?_
                refine w_iload_n (List.Mem.tail _ (List.Mem.tail _ (List.Mem.tail _ (List.Mem.tail _ (List.Mem.head _))))) (tX5_unit_0_ok (89, .iload_n 2, 1) (List.mem_of_getElem? (i := 47) rfl)) ?_
                refine w_callV (own := 10) (mi := 62) [.ref t, .int depth] [] [(0, .ref r), (1, .ref t), (2, .int depth)] rfl (cllw_X5 (43, 0, 62) (List.mem_of_getElem? (i := 4) rfl)) rfl rfl c101 rfl (by omega) (w_lo (n := 26) rfl (by omega)) (Nat.le_of_ble_eq_true rfl) (Nat.le_of_ble_eq_true rfl) rfl (tX5_unit_0_ok (90, .invokevirtual 43, 3) (List.mem_of_getElem? (i := 48) rfl)) (hsum _ _ _ _ _ _ (by omega) (w_sub (n := 26) rfl (by omega)) trivial ⟨c98, c100, n_b_t, l1, l2, by omega, by omega⟩ ⟨g55, sz56, c101, c102, by omega, by omega, gb61⟩ (fun h103 at104 fl105 p106 u107 e108 o109 => ?_))
                obtain ⟨c112, c113, -, -, -, a110, a111⟩ := p106
                obtain ⟨g114, sz115, c116, c117, z118, z119, gb120⟩ := u107
                show ww l D tys A X fr lo mX5_unit Q 93 [(5, .int v64), (4, .int v3), (0, .ref r), (1, .ref t), (2, .int depth), (3, .int bg)] [] h103
                refine w_aload_n (List.Mem.tail _ (List.Mem.tail _ (List.Mem.head _))) (tX5_unit_0_ok (93, .aload_n 0, 1) (List.mem_of_getElem? (i := 49) rfl)) ?_
                refine w_sipush (by decide) (tX5_unit_0_ok (94, .sipush 10000, 3) (List.mem_of_getElem? (i := 50) rfl)) (fun v121 e122 => ?_)
                refine w_iload (List.Mem.head _) (tX5_unit_0_ok (97, .iload 5, 2) (List.mem_of_getElem? (i := 51) rfl)) ?_
                refine w_iadd (by omega) (by omega) (tX5_unit_0_ok (99, .iadd, 1) (List.mem_of_getElem? (i := 52) rfl)) (fun v123 e124 => ?_)
                refine w_callV (own := 10) (mi := 56) [.int v123] [] [(0, .ref r), (1, .int v123)] rfl (cllw_X5 (55, 0, 56) (List.mem_of_getElem? (i := 12) rfl)) rfl rfl c116 rfl (by omega) (w_lo (n := 21) rfl (by omega)) (Nat.le_of_ble_eq_true rfl) (Nat.le_of_ble_eq_true rfl) rfl (tX5_unit_0_ok (100, .invokevirtual 55, 3) (List.mem_of_getElem? (i := 53) rfl)) (s_emit hT n_r_k ⟨g114, sz115, c116, c117, by omega, by omega, gb120⟩ (by omega) (fun h125 u126 o127 => ?_))
                have c128 := (o127 t ⟨n_t_r, n_t_k⟩).trans c112
                have c129 := (o127 b ⟨n_b_r, n_b_k⟩).trans c113
                obtain ⟨g130, sz131, c132, c133, z134, z135, gb136⟩ := u126
                show ww l D tys A X fr lo mX5_unit Q 103 [(5, .int v64), (4, .int v3), (0, .ref r), (1, .ref t), (2, .int depth), (3, .int bg)] [] h125
                refine w_vret rfl (tX5_unit_0_ok (103, .return_, 1) (List.mem_of_getElem? (i := 54) rfl)) ?_
                refine hq h125 at104 fl105 ⟨c128, c129, n_b_t, l1, l2, by omega, by omega⟩ ⟨g130, sz131, c132, c133, by omega, by omega, gb136⟩ ?_ (fun q hq => (o127 q ⟨hq.2.1, hq.2.2⟩).trans ((o109 q ⟨hq.1, hq.2.1, hq.2.2⟩).trans ((o99 q hq.1).trans ((o68 q hq.1).trans ((o50 q ⟨hq.1, hq.2.1, hq.2.2⟩).trans (o7 q hq.1))))))
                have c9 : sp_go (sp_cm f len.toInt.toNat N) at45 fl46 at104 fl105 := by
                  refine Or.inr ⟨by omega, ?_⟩
                  unfold sp_cm
                  rw [if_pos (by omega)]
                  have y9 := e108.is (by omega)
                  have z9 : v95.toInt.toNat = sp_sk f len.toInt.toNat at45.toInt.toNat + 1 := by omega
                  rw [z9] at y9
                  exact y9
                refine Or.inr ⟨by omega, ?_⟩
                unfold sp_unit
                rw [if_neg (by omega), if_neg (by omega)]
                have y9 := (e49.bd c9).is (by omega)
                rw [e5] at y9
                exact y9
              · refine w_aload_n (List.Mem.tail _ (List.Mem.tail _ (List.Mem.tail _ (List.Mem.head _)))) (tX5_unit_0_ok (72, .aload_n 1, 1) (List.mem_of_getElem? (i := 36) rfl)) ?_
                refine w_callV (own := 10) (mi := 80) [] [] [(0, .ref t)] rfl (cllw_X5 (68, 0, 80) (List.mem_of_getElem? (i := 9) rfl)) rfl rfl c69 rfl (by omega) (w_lo (n := 20) rfl (by omega)) (Nat.le_of_ble_eq_true rfl) (Nat.le_of_ble_eq_true rfl) rfl (tX5_unit_0_ok (73, .invokevirtual 68, 3) (List.mem_of_getElem? (i := 37) rfl)) (s_wrong hT ⟨c69, c70, n_b_t, l1, l2, by omega, by omega⟩ (fun h137 fl138 p139 e140 o141 => ?_))
                obtain ⟨c142, c143, -, -, -, a144, a145⟩ := p139
                have c146 := (o141 r n_r_t).trans c73
                have c147 := (o141 k n_k_t).trans c74
                show ww l D tys A X fr lo mX5_unit Q 76 [(5, .int v64), (4, .int v3), (0, .ref r), (1, .ref t), (2, .int depth), (3, .int bg)] [] h137
                refine w_vret rfl (tX5_unit_0_ok (76, .return_, 1) (List.mem_of_getElem? (i := 38) rfl)) ?_
                refine hq h137 at63 fl138 ⟨c142, c143, n_b_t, l1, l2, by omega, by omega⟩ ⟨g55, sz56, c146, c147, by omega, by omega, gb61⟩ ?_ (fun q hq => (o141 q hq.1).trans ((o68 q hq.1).trans ((o50 q ⟨hq.1, hq.2.1, hq.2.2⟩).trans (o7 q hq.1))))
                have c9 : sp_go (sp_cm f len.toInt.toNat N) at45 fl46 at63 fl138 := by
                  refine Or.inr ⟨by omega, ?_⟩
                  unfold sp_cm
                  rw [if_neg (by omega)]
                  show _ = _
                  omega
                refine Or.inr ⟨by omega, ?_⟩
                unfold sp_unit
                rw [if_neg (by omega), if_neg (by omega)]
                have y9 := (e49.bd c9).is (by omega)
                rw [e5] at y9
                exact y9
        · refine w_aload_n (List.Mem.tail _ (List.Mem.head _)) (tX5_unit_0_ok (32, .aload_n 0, 1) (List.mem_of_getElem? (i := 15) rfl)) ?_
          refine w_aload_n (List.Mem.tail _ (List.Mem.tail _ (List.Mem.head _))) (tX5_unit_0_ok (33, .aload_n 1, 1) (List.mem_of_getElem? (i := 16) rfl)) ?_
          refine w_iload_n (List.Mem.tail _ (List.Mem.tail _ (List.Mem.tail _ (List.Mem.head _)))) (tX5_unit_0_ok (34, .iload_n 2, 1) (List.mem_of_getElem? (i := 17) rfl)) ?_
          refine w_iload (List.Mem.head _) (tX5_unit_0_ok (35, .iload 4, 2) (List.mem_of_getElem? (i := 18) rfl)) ?_
          refine w_callV (own := 10) (mi := 60) [.ref t, .int depth, .int v3] [] [(0, .ref r), (1, .ref t), (2, .int depth), (3, .int v3)] rfl (cllw_X5 (64, 0, 60) (List.mem_of_getElem? (i := 8) rfl)) rfl rfl c12 rfl (by omega) (w_lo (n := 23) rfl (by omega)) (Nat.le_of_ble_eq_true rfl) (Nat.le_of_ble_eq_true rfl) rfl (tX5_unit_0_ok (37, .invokevirtual 64, 3) (List.mem_of_getElem? (i := 19) rfl)) ((hpar v3 (by omega)) _ _ _ _ _ _ (by omega) (w_sub (n := 23) rfl (by omega)) ⟨by omega, by omega⟩ ⟨c8, c9, n_b_t, l1, l2, by omega, by omega⟩ ⟨g, sz, c12, c13, by omega, by omega, gb⟩ (fun h148 at149 fl150 p151 u152 e153 o154 => ?_))
          obtain ⟨c157, c158, -, -, -, a155, a156⟩ := p151
          obtain ⟨g159, sz160, c161, c162, z163, z164, gb165⟩ := u152
          show ww l D tys A X fr lo mX5_unit Q 40 [(4, .int v3), (0, .ref r), (1, .ref t), (2, .int depth), (3, .int bg)] [] h148
          refine w_vret rfl (tX5_unit_0_ok (40, .return_, 1) (List.mem_of_getElem? (i := 20) rfl)) ?_
          refine hq h148 at149 fl150 ⟨c157, c158, n_b_t, l1, l2, by omega, by omega⟩ ⟨g159, sz160, c161, c162, by omega, by omega, gb165⟩ ?_ (fun q hq => (o154 q ⟨hq.1, hq.2.1, hq.2.2⟩).trans (o7 q hq.1))
          refine Or.inr ⟨by omega, ?_⟩
          unfold sp_unit
          rw [if_neg (by omega), if_pos (by omega)]
          have y9 := e153.is (by omega)
          rw [e5] at y9
          exact y9
  · refine w_vret rfl (tX5_unit_0_ok (13, .return_, 1) (List.mem_of_getElem? (i := 6) rfl)) ?_
    refine hq h1 at2 fl0 ⟨c8, c9, n_b_t, l1, l2, by omega, by omega⟩ ⟨g, sz, c12, c13, by omega, by omega, gb⟩ ?_ (fun q hq => o7 q hq.1)
    exact Or.inl ⟨by omega, rfl⟩
theorem s_unitB (hT : k_tys tys cA) (hN : ns t b r k) {d : Nat} {N NB NP : Nat → Nat ⊕ Nat} {depth : Int32} (hd : depth.toInt = 6 - (d : Int)) (h6 : d ≤ 6) (hsum : PR l D tys A X cA t b f len r k s mX5_sum [(0, .ref r), (1, .ref t), (2, .int depth)] (fun _ _ => True) (sp_sum f len.toInt.toNat N) (5 * d + 3) (140 * d + 115)) (hbang : ∀ c : Int32, c.toInt = 33 → PR l D tys A X cA t b f len r k s mX5_nested [(0, .ref r), (1, .ref t), (2, .int depth), (3, .int c)] (fun a fl => fl.toInt = -1 ∧ a.toInt < len.toInt) NB (5 * d + 1) (140 * d + 60)) (hpar : ∀ c : Int32, c.toInt = 40 → PR l D tys A X cA t b f len r k s mX5_nested [(0, .ref r), (1, .ref t), (2, .int depth), (3, .int c)] (fun a fl => fl.toInt = -1 ∧ a.toInt < len.toInt) NP (5 * d + 1) (140 * d + 60)) {bg : Int32} (hb : bg.toInt = 1) : PR l D tys A X cA t b f len r k s mX5_unit [(0, .ref r), (1, .ref t), (2, .int depth), (3, .int bg)] (fun _ _ => True) (sp_cm f len.toInt.toNat N) (5 * d + 4) (140 * d + 145) := by
  have hN0 := hN
  obtain ⟨n_b_t, n_r_t, n_k_t, n_r_b, n_k_b, n_r_k⟩ := hN
  have n_t_b := n_b_t.symm
  have n_t_r := n_r_t.symm
  have n_t_k := n_k_t.symm
  have n_b_r := n_r_b.symm
  have n_b_k := n_k_b.symm
  have n_k_r := n_r_k.symm
  intro fr lo Q h at0 fl0 hf hl hP H R hq
  obtain ⟨c_t, c_b, -, l1, l2, a1, a2⟩ := H
  obtain ⟨g, sz, c_r, c_k, z1, z2, gb⟩ := R
  refine w_aload_n (List.Mem.tail _ (List.Mem.head _)) (tX5_unit_0_ok (0, .aload_n 1, 1) (List.mem_of_getElem? (i := 0) rfl)) ?_
  refine w_callV (own := 10) (mi := 77) [] [] [(0, .ref t)] rfl (cllw_X5 (35, 0, 77) (List.mem_of_getElem? (i := 3) rfl)) rfl rfl c_t rfl (by omega) (w_lo (n := 20) rfl (by omega)) (Nat.le_of_ble_eq_true rfl) (Nat.le_of_ble_eq_true rfl) rfl (tX5_unit_0_ok (1, .invokevirtual 35, 3) (List.mem_of_getElem? (i := 1) rfl)) (s_sign hT ⟨c_t, c_b, n_b_t, l1, l2, by omega, by omega⟩ (fun h1 at2 v3 p4 e5 e6 o7 => ?_))
  obtain ⟨c8, c9, -, -, -, a10, a11⟩ := p4
  have c12 := (o7 r n_r_t).trans c_r
  have c13 := (o7 k n_k_t).trans c_k
  show ww l D tys A X fr lo mX5_unit Q 4 [(0, .ref r), (1, .ref t), (2, .int depth), (3, .int bg)] [.int v3] h1
  rw [e5] at e6
  have g14 := sp_sg_or f len.toInt.toNat (sp_sk f len.toInt.toNat at0.toInt.toNat)
  refine w_istore [(4, .int v3), (0, .ref r), (1, .ref t), (2, .int depth), (3, .int bg)] rfl (Nat.le_of_ble_eq_true rfl) (tX5_unit_0_ok (4, .istore 4, 2) (List.mem_of_getElem? (i := 2) rfl)) ?_
  refine w_aload_n (List.Mem.tail _ (List.Mem.tail _ (List.Mem.head _))) (tX5_unit_0_ok (6, .aload_n 1, 1) (List.mem_of_getElem? (i := 3) rfl)) ?_
  refine w_callV (own := 10) (mi := 74) [] [] [(0, .ref t)] rfl (cllw_X5 (31, 0, 74) (List.mem_of_getElem? (i := 6) rfl)) rfl rfl c8 rfl (by omega) (w_lo (n := 20) rfl (by omega)) (Nat.le_of_ble_eq_true rfl) (Nat.le_of_ble_eq_true rfl) rfl (tX5_unit_0_ok (7, .invokevirtual 31, 3) (List.mem_of_getElem? (i := 4) rfl)) (s_isWrong hT ⟨c8, c9, n_b_t, l1, l2, by omega, by omega⟩ (fun v15 e16 => ?_))
  show ww l D tys A X fr lo mX5_unit Q 10 [(4, .int v3), (0, .ref r), (1, .ref t), (2, .int depth), (3, .int bg)] [.int v15] h1
  refine w_if_eq (tgt := 14) (tX5_unit_0_ok (10, .ifCond .eq 4, 3) (List.mem_of_getElem? (i := 5) rfl)) rfl (fun b17 => ?_) (fun b17 => ?_)
  · refine w_iload_n (List.Mem.tail _ (List.Mem.tail _ (List.Mem.tail _ (List.Mem.tail _ (List.Mem.head _))))) (tX5_unit_0_ok (14, .iload_n 3, 1) (List.mem_of_getElem? (i := 7) rfl)) ?_
    refine w_if_ne (tgt := 41) (tX5_unit_0_ok (15, .ifCond .ne 26, 3) (List.mem_of_getElem? (i := 8) rfl)) rfl (fun b18 => ?_) (fun b18 => ?_)
    · refine w_iload_n (List.Mem.tail _ (List.Mem.tail _ (List.Mem.tail _ (List.Mem.tail _ (List.Mem.head _))))) (tX5_unit_0_ok (41, .iload_n 3, 1) (List.mem_of_getElem? (i := 21) rfl)) ?_
      refine w_if_ne (tgt := 51) (tX5_unit_0_ok (42, .ifCond .ne 9, 3) (List.mem_of_getElem? (i := 22) rfl)) rfl (fun b19 => ?_) (fun b19 => ?_)
      · refine w_aload_n (List.Mem.tail _ (List.Mem.tail _ (List.Mem.head _))) (tX5_unit_0_ok (51, .aload_n 1, 1) (List.mem_of_getElem? (i := 27) rfl)) ?_
        refine w_callV (own := 10) (mi := 77) [] [] [(0, .ref t)] rfl (cllw_X5 (35, 0, 77) (List.mem_of_getElem? (i := 3) rfl)) rfl rfl c8 rfl (by omega) (w_lo (n := 20) rfl (by omega)) (Nat.le_of_ble_eq_true rfl) (Nat.le_of_ble_eq_true rfl) rfl (tX5_unit_0_ok (52, .invokevirtual 35, 3) (List.mem_of_getElem? (i := 28) rfl)) (s_sign hT ⟨c8, c9, n_b_t, l1, l2, by omega, by omega⟩ (fun h20 at21 v22 p23 e24 e25 o26 => ?_))
        obtain ⟨c27, c28, -, -, -, a29, a30⟩ := p23
        have c31 := (o26 r n_r_t).trans c12
        have c32 := (o26 k n_k_t).trans c13
        show ww l D tys A X fr lo mX5_unit Q 55 [(4, .int v3), (0, .ref r), (1, .ref t), (2, .int depth), (3, .int bg)] [.int v22] h20
        rw [e24] at e25
        have g33 := sp_sg_or f len.toInt.toNat (sp_sk f len.toInt.toNat at2.toInt.toNat)
        refine w_istore [(5, .int v22), (4, .int v3), (0, .ref r), (1, .ref t), (2, .int depth), (3, .int bg)] rfl (Nat.le_of_ble_eq_true rfl) (tX5_unit_0_ok (55, .istore 5, 2) (List.mem_of_getElem? (i := 29) rfl)) ?_
        refine w_aload_n (List.Mem.tail _ (List.Mem.tail _ (List.Mem.tail _ (List.Mem.head _)))) (tX5_unit_0_ok (57, .aload_n 1, 1) (List.mem_of_getElem? (i := 30) rfl)) ?_
        refine w_callV (own := 10) (mi := 74) [] [] [(0, .ref t)] rfl (cllw_X5 (31, 0, 74) (List.mem_of_getElem? (i := 6) rfl)) rfl rfl c27 rfl (by omega) (w_lo (n := 20) rfl (by omega)) (Nat.le_of_ble_eq_true rfl) (Nat.le_of_ble_eq_true rfl) rfl (tX5_unit_0_ok (58, .invokevirtual 31, 3) (List.mem_of_getElem? (i := 31) rfl)) (s_isWrong hT ⟨c27, c28, n_b_t, l1, l2, by omega, by omega⟩ (fun v34 e35 => ?_))
        show ww l D tys A X fr lo mX5_unit Q 61 [(5, .int v22), (4, .int v3), (0, .ref r), (1, .ref t), (2, .int depth), (3, .int bg)] [.int v34] h20
        refine w_if_ne (tgt := 72) (tX5_unit_0_ok (61, .ifCond .ne 11, 3) (List.mem_of_getElem? (i := 32) rfl)) rfl (fun b36 => ?_) (fun b36 => ?_)
        · refine w_aload_n (List.Mem.tail _ (List.Mem.tail _ (List.Mem.tail _ (List.Mem.head _)))) (tX5_unit_0_ok (72, .aload_n 1, 1) (List.mem_of_getElem? (i := 36) rfl)) ?_
          refine w_callV (own := 10) (mi := 80) [] [] [(0, .ref t)] rfl (cllw_X5 (68, 0, 80) (List.mem_of_getElem? (i := 9) rfl)) rfl rfl c27 rfl (by omega) (w_lo (n := 20) rfl (by omega)) (Nat.le_of_ble_eq_true rfl) (Nat.le_of_ble_eq_true rfl) rfl (tX5_unit_0_ok (73, .invokevirtual 68, 3) (List.mem_of_getElem? (i := 37) rfl)) (s_wrong hT ⟨c27, c28, n_b_t, l1, l2, by omega, by omega⟩ (fun h37 fl38 p39 e40 o41 => ?_))
          obtain ⟨c42, c43, -, -, -, a44, a45⟩ := p39
          have c46 := (o41 r n_r_t).trans c31
          have c47 := (o41 k n_k_t).trans c32
          show ww l D tys A X fr lo mX5_unit Q 76 [(5, .int v22), (4, .int v3), (0, .ref r), (1, .ref t), (2, .int depth), (3, .int bg)] [] h37
          refine w_vret rfl (tX5_unit_0_ok (76, .return_, 1) (List.mem_of_getElem? (i := 38) rfl)) ?_
          refine hq h37 at21 fl38 ⟨c42, c43, n_b_t, l1, l2, by omega, by omega⟩ ⟨g, sz, c46, c47, by omega, by omega, gb⟩ ?_ (fun q hq => (o41 q hq.1).trans ((o26 q hq.1).trans (o7 q hq.1)))
          have c9 : sp_go (sp_cm f len.toInt.toNat N) at2 fl0 at21 fl38 := Or.inl ⟨by omega, by omega⟩
          rcases c9 with c9 | ⟨c8, c9⟩
          · exact Or.inl c9
          · refine Or.inr ⟨c8, ?_⟩
            exact sp_cm_sk e5 c9
        · refine w_iload (List.Mem.head _) (tX5_unit_0_ok (64, .iload 5, 2) (List.mem_of_getElem? (i := 33) rfl)) ?_
          refine w_callS (own := 10) (mi := 58) [.int v22] [] [(0, .int v22)] rfl (cllw_X5 (47, 1, 58) (List.mem_of_getElem? (i := 11) rfl)) rfl rfl (by omega) (w_lo (n := 20) rfl (by omega)) (Nat.le_of_ble_eq_true rfl) (Nat.le_of_ble_eq_true rfl) rfl (tX5_unit_0_ok (66, .invokestatic 47, 3) (List.mem_of_getElem? (i := 34) rfl)) (s_isCompare (fun v48 e49 => ?_))
          show ww l D tys A X fr lo mX5_unit Q 69 [(5, .int v22), (4, .int v3), (0, .ref r), (1, .ref t), (2, .int depth), (3, .int bg)] [.int v48] h20
          refine w_if_ne (tgt := 77) (tX5_unit_0_ok (69, .ifCond .ne 8, 3) (List.mem_of_getElem? (i := 35) rfl)) rfl (fun b50 => ?_) (fun b50 => ?_)
          · refine w_aload_n (List.Mem.tail _ (List.Mem.tail _ (List.Mem.tail _ (List.Mem.head _)))) (tX5_unit_0_ok (77, .aload_n 1, 1) (List.mem_of_getElem? (i := 39) rfl)) ?_
            refine w_dup rfl (tX5_unit_0_ok (78, .dup, 1) (List.mem_of_getElem? (i := 40) rfl)) ?_
            refine w_get (own := 10) rfl rfl (by decide) c27 rfl (tX5_unit_0_ok (79, .getfield 61, 3) (List.mem_of_getElem? (i := 41) rfl)) ?_
            refine w_iconst (by decide) (tX5_unit_0_ok (82, .iconst 1, 1) (List.mem_of_getElem? (i := 42) rfl)) (fun v51 e52 => ?_)
            refine w_iadd (by omega) (by omega) (tX5_unit_0_ok (83, .iadd, 1) (List.mem_of_getElem? (i := 43) rfl)) (fun v53 e54 => ?_)
            refine w_put (own := 10) [.ref b, .int len, .int v53, .int fl0] rfl rfl rfl (by decide) rfl ⟨rfl, rfl⟩ c27 (Nat.le_of_ble_eq_true rfl) (tX5_unit_0_ok (84, .putfield 61, 3) (List.mem_of_getElem? (i := 44) rfl)) (fun h55 c56 o57 => ?_)
            have c58 := (o57 b n_b_t).trans c28
            have c59 := (o57 r n_r_t).trans c31
            have c60 := (o57 k n_k_t).trans c32
            refine w_aload_n (List.Mem.tail _ (List.Mem.tail _ (List.Mem.head _))) (tX5_unit_0_ok (87, .aload_n 0, 1) (List.mem_of_getElem? (i := 45) rfl)) ?_
            refine w_aload_n (List.Mem.tail _ (List.Mem.tail _ (List.Mem.tail _ (List.Mem.head _)))) (tX5_unit_0_ok (88, .aload_n 1, 1) (List.mem_of_getElem? (i := 46) rfl)) ?_
            refine w_iload_n (List.Mem.tail _ (List.Mem.tail _ (List.Mem.tail _ (List.Mem.tail _ (List.Mem.head _))))) (tX5_unit_0_ok (89, .iload_n 2, 1) (List.mem_of_getElem? (i := 47) rfl)) ?_
            refine w_callV (own := 10) (mi := 62) [.ref t, .int depth] [] [(0, .ref r), (1, .ref t), (2, .int depth)] rfl (cllw_X5 (43, 0, 62) (List.mem_of_getElem? (i := 4) rfl)) rfl rfl c59 rfl (by omega) (w_lo (n := 26) rfl (by omega)) (Nat.le_of_ble_eq_true rfl) (Nat.le_of_ble_eq_true rfl) rfl (tX5_unit_0_ok (90, .invokevirtual 43, 3) (List.mem_of_getElem? (i := 48) rfl)) (hsum _ _ _ _ _ _ (by omega) (w_sub (n := 26) rfl (by omega)) trivial ⟨c56, c58, n_b_t, l1, l2, by omega, by omega⟩ ⟨g, sz, c59, c60, by omega, by omega, gb⟩ (fun h61 at62 fl63 p64 u65 e66 o67 => ?_))
            obtain ⟨c70, c71, -, -, -, a68, a69⟩ := p64
            obtain ⟨g72, sz73, c74, c75, z76, z77, gb78⟩ := u65
            show ww l D tys A X fr lo mX5_unit Q 93 [(5, .int v22), (4, .int v3), (0, .ref r), (1, .ref t), (2, .int depth), (3, .int bg)] [] h61
            refine w_aload_n (List.Mem.tail _ (List.Mem.tail _ (List.Mem.head _))) (tX5_unit_0_ok (93, .aload_n 0, 1) (List.mem_of_getElem? (i := 49) rfl)) ?_
            refine w_sipush (by decide) (tX5_unit_0_ok (94, .sipush 10000, 3) (List.mem_of_getElem? (i := 50) rfl)) (fun v79 e80 => ?_)
            refine w_iload (List.Mem.head _) (tX5_unit_0_ok (97, .iload 5, 2) (List.mem_of_getElem? (i := 51) rfl)) ?_
            refine w_iadd (by omega) (by omega) (tX5_unit_0_ok (99, .iadd, 1) (List.mem_of_getElem? (i := 52) rfl)) (fun v81 e82 => ?_)
            refine w_callV (own := 10) (mi := 56) [.int v81] [] [(0, .ref r), (1, .int v81)] rfl (cllw_X5 (55, 0, 56) (List.mem_of_getElem? (i := 12) rfl)) rfl rfl c74 rfl (by omega) (w_lo (n := 21) rfl (by omega)) (Nat.le_of_ble_eq_true rfl) (Nat.le_of_ble_eq_true rfl) rfl (tX5_unit_0_ok (100, .invokevirtual 55, 3) (List.mem_of_getElem? (i := 53) rfl)) (s_emit hT n_r_k ⟨g72, sz73, c74, c75, by omega, by omega, gb78⟩ (by omega) (fun h83 u84 o85 => ?_))
            have c86 := (o85 t ⟨n_t_r, n_t_k⟩).trans c70
            have c87 := (o85 b ⟨n_b_r, n_b_k⟩).trans c71
            obtain ⟨g88, sz89, c90, c91, z92, z93, gb94⟩ := u84
            show ww l D tys A X fr lo mX5_unit Q 103 [(5, .int v22), (4, .int v3), (0, .ref r), (1, .ref t), (2, .int depth), (3, .int bg)] [] h83
            refine w_vret rfl (tX5_unit_0_ok (103, .return_, 1) (List.mem_of_getElem? (i := 54) rfl)) ?_
            refine hq h83 at62 fl63 ⟨c86, c87, n_b_t, l1, l2, by omega, by omega⟩ ⟨g88, sz89, c90, c91, by omega, by omega, gb94⟩ ?_ (fun q hq => (o85 q ⟨hq.2.1, hq.2.2⟩).trans ((o67 q ⟨hq.1, hq.2.1, hq.2.2⟩).trans ((o57 q hq.1).trans ((o26 q hq.1).trans (o7 q hq.1)))))
            have c9 : sp_go (sp_cm f len.toInt.toNat N) at2 fl0 at62 fl63 := by
              refine Or.inr ⟨by omega, ?_⟩
              unfold sp_cm
              rw [if_pos (by omega)]
              have y9 := e66.is (by omega)
              have z9 : v53.toInt.toNat = sp_sk f len.toInt.toNat at2.toInt.toNat + 1 := by omega
              rw [z9] at y9
              exact y9
            rcases c9 with c9 | ⟨c8, c9⟩
            · exact Or.inl c9
            · refine Or.inr ⟨c8, ?_⟩
              exact sp_cm_sk e5 c9
          · refine w_aload_n (List.Mem.tail _ (List.Mem.tail _ (List.Mem.tail _ (List.Mem.head _)))) (tX5_unit_0_ok (72, .aload_n 1, 1) (List.mem_of_getElem? (i := 36) rfl)) ?_
            refine w_callV (own := 10) (mi := 80) [] [] [(0, .ref t)] rfl (cllw_X5 (68, 0, 80) (List.mem_of_getElem? (i := 9) rfl)) rfl rfl c27 rfl (by omega) (w_lo (n := 20) rfl (by omega)) (Nat.le_of_ble_eq_true rfl) (Nat.le_of_ble_eq_true rfl) rfl (tX5_unit_0_ok (73, .invokevirtual 68, 3) (List.mem_of_getElem? (i := 37) rfl)) (s_wrong hT ⟨c27, c28, n_b_t, l1, l2, by omega, by omega⟩ (fun h95 fl96 p97 e98 o99 => ?_))
            obtain ⟨c100, c101, -, -, -, a102, a103⟩ := p97
            have c104 := (o99 r n_r_t).trans c31
            have c105 := (o99 k n_k_t).trans c32
            show ww l D tys A X fr lo mX5_unit Q 76 [(5, .int v22), (4, .int v3), (0, .ref r), (1, .ref t), (2, .int depth), (3, .int bg)] [] h95
            refine w_vret rfl (tX5_unit_0_ok (76, .return_, 1) (List.mem_of_getElem? (i := 38) rfl)) ?_
            refine hq h95 at21 fl96 ⟨c100, c101, n_b_t, l1, l2, by omega, by omega⟩ ⟨g, sz, c104, c105, by omega, by omega, gb⟩ ?_ (fun q hq => (o99 q hq.1).trans ((o26 q hq.1).trans (o7 q hq.1)))
            have c9 : sp_go (sp_cm f len.toInt.toNat N) at2 fl0 at21 fl96 := by
              refine Or.inr ⟨by omega, ?_⟩
              unfold sp_cm
              rw [if_neg (by omega)]
              show _ = _
              omega
            rcases c9 with c9 | ⟨c8, c9⟩
            · exact Or.inl c9
            · refine Or.inr ⟨c8, ?_⟩
              exact sp_cm_sk e5 c9
      · exfalso; omega
    · exfalso; omega
  · refine w_vret rfl (tX5_unit_0_ok (13, .return_, 1) (List.mem_of_getElem? (i := 6) rfl)) ?_
    refine hq h1 at2 fl0 ⟨c8, c9, n_b_t, l1, l2, by omega, by omega⟩ ⟨g, sz, c12, c13, by omega, by omega, gb⟩ ?_ (fun q hq => o7 q hq.1)
    exact Or.inl ⟨by omega, rfl⟩
theorem kn_or1 {x y z : Int32} (hx : 0 ≤ x.toInt ∧ x.toInt ≤ 1) (hy : 0 ≤ y.toInt ∧ y.toInt ≤ 1) (e : z = x ||| y) : 0 ≤ z.toInt ∧ z.toInt ≤ 1 := by
  subst e
  rcases kn_bool hx.1 hx.2 with rfl | rfl <;> rcases kn_bool hy.1 hy.2 with rfl | rfl <;> decide
theorem s_condL (hT : k_tys tys cA) (hN : ns t b r k) {d : Nat} {N NB NP : Nat → Nat ⊕ Nat} {depth : Int32} (hd : depth.toInt = 6 - (d : Int)) (h6 : d ≤ 6) (hunit : ∀ c : Int32, c.toInt = 0 → PR l D tys A X cA t b f len r k s mX5_unit [(0, .ref r), (1, .ref t), (2, .int depth), (3, .int c)] (fun _ _ => True) (sp_unit f len.toInt.toNat N NB NP) (5 * d + 4) (140 * d + 145)) : ∀ (j : Nat) (fr lo : Nat) (Q : Option Value → ch_H → Prop) (h : ch_H) (at0 fl0 i wt : Int32), 5 * d + 5 ≤ fr → 140 * d + 170 ≤ lo → 160 - i.toInt = j → 0 ≤ i.toInt → 0 ≤ wt.toInt ∧ wt.toInt ≤ 1 → tp cA h t b f len at0 fl0 → ru cA h r k s →
    (∀ (h1 : ch_H) (at1 fl1 : Int32), tp cA h1 t b f len at1 fl1 → ru cA h1 r k s → sp_go (sp_loop f len.toInt.toNat sp_an (sp_unit f len.toInt.toNat N NB NP) j) at0 fl0 at1 fl1 → (∀ q, q ≠ t ∧ q ≠ r ∧ q ≠ k → h1 q = h q) → Q none h1) → ww l D tys A X fr lo mX5_condition Q 13 [(5, .int i), (4, .int wt), (0, .ref r), (1, .ref t), (2, .int depth)] [] h := by
  obtain ⟨n_b_t, n_r_t, n_k_t, n_r_b, n_k_b, n_r_k⟩ := hN
  have n_t_b := n_b_t.symm
  have n_t_r := n_r_t.symm
  have n_t_k := n_k_t.symm
  have n_b_r := n_r_b.symm
  have n_b_k := n_k_b.symm
  have n_k_r := n_r_k.symm
  intro j
  induction j using Nat.strongRecOn with
  | ind j ih =>
    intro fr lo Q h at0 fl0 i wt hf hl hj hi hw H R hq
    obtain ⟨c_t, c_b, -, l1, l2, a1, a2⟩ := H
    obtain ⟨g, sz, c_r, c_k, z1, z2, gb⟩ := R
    refine w_iload (List.Mem.head _) (tX5_condition_0_ok (13, .iload 5, 2) (List.mem_of_getElem? (i := 9) rfl)) ?_
    refine w_sipush (by decide) (tX5_condition_0_ok (15, .sipush 160, 3) (List.mem_of_getElem? (i := 10) rfl)) (fun v1 e2 => ?_)
    refine w_icmp_ge (tgt := 124) (tX5_condition_0_ok (18, .if_icmp .ge 106, 3) (List.mem_of_getElem? (i := 11) rfl)) rfl (fun b3 => ?_) (fun b3 => ?_)
    · refine w_iload (List.Mem.tail _ (List.Mem.head _)) (tX5_condition_1_ok (124, .iload 4, 2) (List.mem_of_getElem? (i := 1) rfl)) ?_
      refine w_if_eq (tgt := 136) (tX5_condition_1_ok (126, .ifCond .eq 10, 3) (List.mem_of_getElem? (i := 2) rfl)) rfl (fun b4 => ?_) (fun b4 => ?_)
      · refine w_vret rfl (tX5_condition_1_ok (136, .return_, 1) (List.mem_of_getElem? (i := 6) rfl)) ?_
        refine hq h at0 fl0 ⟨c_t, c_b, n_b_t, l1, l2, by omega, by omega⟩ ⟨g, sz, c_r, c_k, by omega, by omega, gb⟩ ?_ (fun q hq => rfl)
        have a9 : j = 0 := by omega
        by_cases f9 : fl0.toInt = -1
        · refine Or.inr ⟨f9, ?_⟩
          rw [a9, sp_loop]
          exact ⟨by omega, by omega⟩
        · exact Or.inl ⟨f9, rfl⟩
      · refine w_aload_n (List.Mem.tail _ (List.Mem.tail _ (List.Mem.head _))) (tX5_condition_1_ok (129, .aload_n 0, 1) (List.mem_of_getElem? (i := 3) rfl)) ?_
        refine w_sipush (by decide) (tX5_condition_1_ok (130, .sipush 10124, 3) (List.mem_of_getElem? (i := 4) rfl)) (fun v5 e6 => ?_)
        refine w_callV (own := 10) (mi := 56) [.int v5] [] [(0, .ref r), (1, .int v5)] rfl (cllw_X5 (55, 0, 56) (List.mem_of_getElem? (i := 12) rfl)) rfl rfl c_r rfl (by omega) (w_lo (n := 21) rfl (by omega)) (Nat.le_of_ble_eq_true rfl) (Nat.le_of_ble_eq_true rfl) rfl (tX5_condition_1_ok (133, .invokevirtual 55, 3) (List.mem_of_getElem? (i := 5) rfl)) (s_emit hT n_r_k ⟨g, sz, c_r, c_k, by omega, by omega, gb⟩ (by omega) (fun h7 u8 o9 => ?_))
        have c10 := (o9 t ⟨n_t_r, n_t_k⟩).trans c_t
        have c11 := (o9 b ⟨n_b_r, n_b_k⟩).trans c_b
        obtain ⟨g12, sz13, c14, c15, z16, z17, gb18⟩ := u8
        show ww l D tys A X fr lo mX5_condition Q 136 [(5, .int i), (4, .int wt), (0, .ref r), (1, .ref t), (2, .int depth)] [] h7
        refine w_vret rfl (tX5_condition_1_ok (136, .return_, 1) (List.mem_of_getElem? (i := 6) rfl)) ?_
        refine hq h7 at0 fl0 ⟨c10, c11, n_b_t, l1, l2, by omega, by omega⟩ ⟨g12, sz13, c14, c15, by omega, by omega, gb18⟩ ?_ (fun q hq => o9 q ⟨hq.2.1, hq.2.2⟩)
        have a9 : j = 0 := by omega
        by_cases f9 : fl0.toInt = -1
        · refine Or.inr ⟨f9, ?_⟩
          rw [a9, sp_loop]
          exact ⟨by omega, by omega⟩
        · exact Or.inl ⟨f9, rfl⟩
    · refine w_aload_n (List.Mem.tail _ (List.Mem.tail _ (List.Mem.tail _ (List.Mem.head _)))) (tX5_condition_0_ok (21, .aload_n 1, 1) (List.mem_of_getElem? (i := 12) rfl)) ?_
      refine w_callV (own := 10) (mi := 74) [] [] [(0, .ref t)] rfl (cllw_X5 (31, 0, 74) (List.mem_of_getElem? (i := 6) rfl)) rfl rfl c_t rfl (by omega) (w_lo (n := 20) rfl (by omega)) (Nat.le_of_ble_eq_true rfl) (Nat.le_of_ble_eq_true rfl) rfl (tX5_condition_0_ok (22, .invokevirtual 31, 3) (List.mem_of_getElem? (i := 13) rfl)) (s_isWrong hT ⟨c_t, c_b, n_b_t, l1, l2, by omega, by omega⟩ (fun v19 e20 => ?_))
      show ww l D tys A X fr lo mX5_condition Q 25 [(5, .int i), (4, .int wt), (0, .ref r), (1, .ref t), (2, .int depth)] [.int v19] h
      refine w_if_ne (tgt := 124) (tX5_condition_0_ok (25, .ifCond .ne 99, 3) (List.mem_of_getElem? (i := 14) rfl)) rfl (fun b21 => ?_) (fun b21 => ?_)
      · refine w_iload (List.Mem.tail _ (List.Mem.head _)) (tX5_condition_1_ok (124, .iload 4, 2) (List.mem_of_getElem? (i := 1) rfl)) ?_
        refine w_if_eq (tgt := 136) (tX5_condition_1_ok (126, .ifCond .eq 10, 3) (List.mem_of_getElem? (i := 2) rfl)) rfl (fun b22 => ?_) (fun b22 => ?_)
        · refine w_vret rfl (tX5_condition_1_ok (136, .return_, 1) (List.mem_of_getElem? (i := 6) rfl)) ?_
          refine hq h at0 fl0 ⟨c_t, c_b, n_b_t, l1, l2, by omega, by omega⟩ ⟨g, sz, c_r, c_k, by omega, by omega, gb⟩ ?_ (fun q hq => rfl)
          exact Or.inl ⟨by omega, rfl⟩
        · refine w_aload_n (List.Mem.tail _ (List.Mem.tail _ (List.Mem.head _))) (tX5_condition_1_ok (129, .aload_n 0, 1) (List.mem_of_getElem? (i := 3) rfl)) ?_
          refine w_sipush (by decide) (tX5_condition_1_ok (130, .sipush 10124, 3) (List.mem_of_getElem? (i := 4) rfl)) (fun v23 e24 => ?_)
          refine w_callV (own := 10) (mi := 56) [.int v23] [] [(0, .ref r), (1, .int v23)] rfl (cllw_X5 (55, 0, 56) (List.mem_of_getElem? (i := 12) rfl)) rfl rfl c_r rfl (by omega) (w_lo (n := 21) rfl (by omega)) (Nat.le_of_ble_eq_true rfl) (Nat.le_of_ble_eq_true rfl) rfl (tX5_condition_1_ok (133, .invokevirtual 55, 3) (List.mem_of_getElem? (i := 5) rfl)) (s_emit hT n_r_k ⟨g, sz, c_r, c_k, by omega, by omega, gb⟩ (by omega) (fun h25 u26 o27 => ?_))
          have c28 := (o27 t ⟨n_t_r, n_t_k⟩).trans c_t
          have c29 := (o27 b ⟨n_b_r, n_b_k⟩).trans c_b
          obtain ⟨g30, sz31, c32, c33, z34, z35, gb36⟩ := u26
          show ww l D tys A X fr lo mX5_condition Q 136 [(5, .int i), (4, .int wt), (0, .ref r), (1, .ref t), (2, .int depth)] [] h25
          refine w_vret rfl (tX5_condition_1_ok (136, .return_, 1) (List.mem_of_getElem? (i := 6) rfl)) ?_
          refine hq h25 at0 fl0 ⟨c28, c29, n_b_t, l1, l2, by omega, by omega⟩ ⟨g30, sz31, c32, c33, by omega, by omega, gb36⟩ ?_ (fun q hq => o27 q ⟨hq.2.1, hq.2.2⟩)
          exact Or.inl ⟨by omega, rfl⟩
      · refine w_aload_n (List.Mem.tail _ (List.Mem.tail _ (List.Mem.tail _ (List.Mem.head _)))) (tX5_condition_0_ok (28, .aload_n 1, 1) (List.mem_of_getElem? (i := 15) rfl)) ?_
        refine w_callV (own := 10) (mi := 77) [] [] [(0, .ref t)] rfl (cllw_X5 (35, 0, 77) (List.mem_of_getElem? (i := 3) rfl)) rfl rfl c_t rfl (by omega) (w_lo (n := 20) rfl (by omega)) (Nat.le_of_ble_eq_true rfl) (Nat.le_of_ble_eq_true rfl) rfl (tX5_condition_0_ok (29, .invokevirtual 35, 3) (List.mem_of_getElem? (i := 16) rfl)) (s_sign hT ⟨c_t, c_b, n_b_t, l1, l2, by omega, by omega⟩ (fun h37 at38 v39 p40 e41 e42 o43 => ?_))
        obtain ⟨c44, c45, -, -, -, a46, a47⟩ := p40
        have c48 := (o43 r n_r_t).trans c_r
        have c49 := (o43 k n_k_t).trans c_k
        show ww l D tys A X fr lo mX5_condition Q 32 [(5, .int i), (4, .int wt), (0, .ref r), (1, .ref t), (2, .int depth)] [.int v39] h37
        rw [e41] at e42
        have g50 := sp_sg_or f len.toInt.toNat (sp_sk f len.toInt.toNat at0.toInt.toNat)
        refine w_istore [(6, .int v39), (5, .int i), (4, .int wt), (0, .ref r), (1, .ref t), (2, .int depth)] rfl (Nat.le_of_ble_eq_true rfl) (tX5_condition_0_ok (32, .istore 6, 2) (List.mem_of_getElem? (i := 17) rfl)) ?_
        refine w_iload (List.Mem.head _) (tX5_condition_0_ok (34, .iload 6, 2) (List.mem_of_getElem? (i := 18) rfl)) ?_
        refine w_bipush (by decide) (tX5_condition_0_ok (36, .bipush 38, 2) (List.mem_of_getElem? (i := 19) rfl)) (fun v51 e52 => ?_)
        refine w_icmp_eq (tgt := 51) (tX5_condition_0_ok (38, .if_icmp .eq 13, 3) (List.mem_of_getElem? (i := 20) rfl)) rfl (fun b53 => ?_) (fun b53 => ?_)
        · refine w_aload_n (List.Mem.tail _ (List.Mem.tail _ (List.Mem.tail _ (List.Mem.tail _ (List.Mem.head _))))) (tX5_condition_0_ok (51, .aload_n 1, 1) (List.mem_of_getElem? (i := 25) rfl)) ?_
          refine w_dup rfl (tX5_condition_0_ok (52, .dup, 1) (List.mem_of_getElem? (i := 26) rfl)) ?_
          refine w_get (own := 10) rfl rfl (by decide) c44 rfl (tX5_condition_0_ok (53, .getfield 61, 3) (List.mem_of_getElem? (i := 27) rfl)) ?_
          refine w_iconst (by decide) (tX5_condition_0_ok (56, .iconst 1, 1) (List.mem_of_getElem? (i := 28) rfl)) (fun v54 e55 => ?_)
          refine w_iadd (by omega) (by omega) (tX5_condition_0_ok (57, .iadd, 1) (List.mem_of_getElem? (i := 29) rfl)) (fun v56 e57 => ?_)
          refine w_put (own := 10) [.ref b, .int len, .int v56, .int fl0] rfl rfl rfl (by decide) rfl ⟨rfl, rfl⟩ c44 (Nat.le_of_ble_eq_true rfl) (tX5_condition_0_ok (58, .putfield 61, 3) (List.mem_of_getElem? (i := 30) rfl)) (fun h58 c59 o60 => ?_)
          have c61 := (o60 b n_b_t).trans c45
          have c62 := (o60 r n_r_t).trans c48
          have c63 := (o60 k n_k_t).trans c49
          refine w_iload (List.Mem.head _) (tX5_condition_0_ok (61, .iload 6, 2) (List.mem_of_getElem? (i := 31) rfl)) ?_
          refine w_bipush (by decide) (tX5_condition_0_ok (63, .bipush 124, 2) (List.mem_of_getElem? (i := 32) rfl)) (fun v64 e65 => ?_)
          refine w_icmp_ne (tgt := 80) (tX5_condition_0_ok (65, .if_icmp .ne 15, 3) (List.mem_of_getElem? (i := 33) rfl)) rfl (fun b66 => ?_) (fun b66 => ?_)
          · refine w_iload (List.Mem.tail _ (List.Mem.tail _ (List.Mem.head _))) (tX5_condition_0_ok (80, .iload 4, 2) (List.mem_of_getElem? (i := 39) rfl)) ?_
            refine w_iload (List.Mem.head _) (tX5_condition_0_ok (82, .iload 6, 2) (List.mem_of_getElem? (i := 40) rfl)) ?_
            refine w_bipush (by decide) (tX5_condition_0_ok (84, .bipush 124, 2) (List.mem_of_getElem? (i := 41) rfl)) (fun v67 e68 => ?_)
            refine w_icmp_ne (tgt := 93) (tX5_condition_0_ok (86, .if_icmp .ne 7, 3) (List.mem_of_getElem? (i := 42) rfl)) rfl (fun b69 => ?_) (fun b69 => ?_)
            · refine w_iconst (by decide) (tX5_condition_0_ok (93, .iconst 0, 1) (List.mem_of_getElem? (i := 45) rfl)) (fun v70 e71 => ?_)
              refine w_ior (tX5_condition_0_ok (94, .ior, 1) (List.mem_of_getElem? (i := 46) rfl)) (fun v72 e73 => ?_)
              have o9v72 := kn_or1 (by omega) (by omega) e73
              refine w_istore [(4, .int v72), (6, .int v39), (5, .int i), (0, .ref r), (1, .ref t), (2, .int depth)] rfl (Nat.le_of_ble_eq_true rfl) (tX5_condition_0_ok (95, .istore 4, 2) (List.mem_of_getElem? (i := 47) rfl)) ?_
              refine w_aload_n (List.Mem.tail _ (List.Mem.tail _ (List.Mem.tail _ (List.Mem.head _)))) (tX5_condition_0_ok (97, .aload_n 0, 1) (List.mem_of_getElem? (i := 48) rfl)) ?_
              refine w_aload_n (List.Mem.tail _ (List.Mem.tail _ (List.Mem.tail _ (List.Mem.tail _ (List.Mem.head _))))) (tX5_condition_0_ok (98, .aload_n 1, 1) (List.mem_of_getElem? (i := 49) rfl)) ?_
              refine w_iload_n (List.Mem.tail _ (List.Mem.tail _ (List.Mem.tail _ (List.Mem.tail _ (List.Mem.tail _ (List.Mem.head _)))))) (tX5_condition_0_ok (99, .iload_n 2, 1) (List.mem_of_getElem? (i := 50) rfl)) ?_
              refine w_iconst (by decide) (tX5_condition_0_ok (100, .iconst 0, 1) (List.mem_of_getElem? (i := 51) rfl)) (fun v74 e75 => ?_)
              refine w_callV (own := 10) (mi := 63) [.ref t, .int depth, .int v74] [] [(0, .ref r), (1, .ref t), (2, .int depth), (3, .int v74)] rfl (cllw_X5 (58, 0, 63) (List.mem_of_getElem? (i := 10) rfl)) rfl rfl c62 rfl (by omega) (w_lo (n := 25) rfl (by omega)) (Nat.le_of_ble_eq_true rfl) (Nat.le_of_ble_eq_true rfl) rfl (tX5_condition_0_ok (101, .invokevirtual 58, 3) (List.mem_of_getElem? (i := 52) rfl)) ((hunit v74 (by omega)) _ _ _ _ _ _ (by omega) (w_sub (n := 25) rfl (by omega)) trivial ⟨c59, c61, n_b_t, l1, l2, by omega, by omega⟩ ⟨g, sz, c62, c63, by omega, by omega, gb⟩ (fun h76 at77 fl78 p79 u80 e81 o82 => ?_))
              obtain ⟨c85, c86, -, -, -, a83, a84⟩ := p79
              obtain ⟨g87, sz88, c89, c90, z91, z92, gb93⟩ := u80
              show ww l D tys A X fr lo mX5_condition Q 104 [(4, .int v72), (6, .int v39), (5, .int i), (0, .ref r), (1, .ref t), (2, .int depth)] [] h76
              refine w_iload (List.Mem.tail _ (List.Mem.head _)) (tX5_condition_0_ok (104, .iload 6, 2) (List.mem_of_getElem? (i := 53) rfl)) ?_
              refine w_bipush (by decide) (tX5_condition_0_ok (106, .bipush 38, 2) (List.mem_of_getElem? (i := 54) rfl)) (fun v94 e95 => ?_)
              refine w_icmp_ne (tgt := 118) (tX5_condition_0_ok (108, .if_icmp .ne 10, 3) (List.mem_of_getElem? (i := 55) rfl)) rfl (fun b96 => ?_) (fun b96 => ?_)
              · exfalso; omega
              · refine w_aload_n (List.Mem.tail _ (List.Mem.tail _ (List.Mem.tail _ (List.Mem.head _)))) (tX5_condition_0_ok (111, .aload_n 0, 1) (List.mem_of_getElem? (i := 56) rfl)) ?_
                refine w_sipush (by decide) (tX5_condition_0_ok (112, .sipush 10038, 3) (List.mem_of_getElem? (i := 57) rfl)) (fun v97 e98 => ?_)
                refine w_callV (own := 10) (mi := 56) [.int v97] [] [(0, .ref r), (1, .int v97)] rfl (cllw_X5 (55, 0, 56) (List.mem_of_getElem? (i := 12) rfl)) rfl rfl c89 rfl (by omega) (w_lo (n := 21) rfl (by omega)) (Nat.le_of_ble_eq_true rfl) (Nat.le_of_ble_eq_true rfl) rfl (tX5_condition_0_ok (115, .invokevirtual 55, 3) (List.mem_of_getElem? (i := 58) rfl)) (s_emit hT n_r_k ⟨g87, sz88, c89, c90, by omega, by omega, gb93⟩ (by omega) (fun h99 u100 o101 => ?_))
                have c102 := (o101 t ⟨n_t_r, n_t_k⟩).trans c85
                have c103 := (o101 b ⟨n_b_r, n_b_k⟩).trans c86
                obtain ⟨g104, sz105, c106, c107, z108, z109, gb110⟩ := u100
                show ww l D tys A X fr lo mX5_condition Q 118 [(4, .int v72), (6, .int v39), (5, .int i), (0, .ref r), (1, .ref t), (2, .int depth)] [] h99
                refine w_iinc (fun v111 => [(5, .int v111), (4, .int v72), (6, .int v39), (0, .ref r), (1, .ref t), (2, .int depth)]) (fun _ => rfl) (List.Mem.tail _ (List.Mem.tail _ (List.Mem.head _))) (Nat.le_of_ble_eq_true rfl) (by decide) (by omega) (by omega) (tX5_condition_0_ok (118, .iinc 5 1, 3) (List.mem_of_getElem? (i := 59) rfl)) (fun v111 e112 => ?_)
                refine w_goto (tgt := 13) (tX5_condition_1_ok (121, .goto (-108), 3) (List.mem_of_getElem? (i := 0) rfl)) rfl ?_
                refine w_lv [(5, .int v111), (4, .int v72), (0, .ref r), (1, .ref t), (2, .int depth)] (List.forall_mem_cons.mpr ⟨(List.Mem.head _), List.forall_mem_cons.mpr ⟨(List.Mem.tail _ (List.Mem.head _)), List.forall_mem_cons.mpr ⟨(List.Mem.tail _ (List.Mem.tail _ (List.Mem.tail _ (List.Mem.head _)))), List.forall_mem_cons.mpr ⟨(List.Mem.tail _ (List.Mem.tail _ (List.Mem.tail _ (List.Mem.tail _ (List.Mem.head _))))), List.forall_mem_cons.mpr ⟨(List.Mem.tail _ (List.Mem.tail _ (List.Mem.tail _ (List.Mem.tail _ (List.Mem.tail _ (List.Mem.head _)))))), fun _ h => absurd h List.not_mem_nil⟩⟩⟩⟩⟩) ?_
                have a9 : j = (j - 1) + 1 := by omega
                refine ih (j - 1) (by omega) _ _ _ _ _ _ _ _ hf hl (by omega) (by omega) (by omega) ⟨c102, c103, n_b_t, l1, l2, by omega, by omega⟩ ⟨g104, sz105, c106, c107, by omega, by omega, gb110⟩ (fun h1 at1 fl1 p1 p2 p3 p4 => hq h1 at1 fl1 p1 p2 ?_ (fun q hq => (p4 q hq).trans ((o101 q ⟨hq.2.1, hq.2.2⟩).trans ((o82 q ⟨hq.1, hq.2.1, hq.2.2⟩).trans ((o60 q hq.1).trans (o43 q hq.1))))))
                refine Or.inr ⟨by omega, ?_⟩
                have y9 := (e81.bd p3).is (by omega)
                rw [a9, sp_loop, if_pos (sp_an_iff.mpr (by omega))]
                have z9 : v56.toInt.toNat = sp_sk f len.toInt.toNat at0.toInt.toNat + 1 := by omega
                rw [z9] at y9
                exact y9
            · exfalso; omega
          · exfalso; omega
        · refine w_iload (List.Mem.head _) (tX5_condition_0_ok (41, .iload 6, 2) (List.mem_of_getElem? (i := 21) rfl)) ?_
          refine w_bipush (by decide) (tX5_condition_0_ok (43, .bipush 124, 2) (List.mem_of_getElem? (i := 22) rfl)) (fun v113 e114 => ?_)
          refine w_icmp_eq (tgt := 51) (tX5_condition_0_ok (45, .if_icmp .eq 6, 3) (List.mem_of_getElem? (i := 23) rfl)) rfl (fun b115 => ?_) (fun b115 => ?_)
          · refine w_aload_n (List.Mem.tail _ (List.Mem.tail _ (List.Mem.tail _ (List.Mem.tail _ (List.Mem.head _))))) (tX5_condition_0_ok (51, .aload_n 1, 1) (List.mem_of_getElem? (i := 25) rfl)) ?_
            refine w_dup rfl (tX5_condition_0_ok (52, .dup, 1) (List.mem_of_getElem? (i := 26) rfl)) ?_
            refine w_get (own := 10) rfl rfl (by decide) c44 rfl (tX5_condition_0_ok (53, .getfield 61, 3) (List.mem_of_getElem? (i := 27) rfl)) ?_
            refine w_iconst (by decide) (tX5_condition_0_ok (56, .iconst 1, 1) (List.mem_of_getElem? (i := 28) rfl)) (fun v116 e117 => ?_)
            refine w_iadd (by omega) (by omega) (tX5_condition_0_ok (57, .iadd, 1) (List.mem_of_getElem? (i := 29) rfl)) (fun v118 e119 => ?_)
            refine w_put (own := 10) [.ref b, .int len, .int v118, .int fl0] rfl rfl rfl (by decide) rfl ⟨rfl, rfl⟩ c44 (Nat.le_of_ble_eq_true rfl) (tX5_condition_0_ok (58, .putfield 61, 3) (List.mem_of_getElem? (i := 30) rfl)) (fun h120 c121 o122 => ?_)
            have c123 := (o122 b n_b_t).trans c45
            have c124 := (o122 r n_r_t).trans c48
            have c125 := (o122 k n_k_t).trans c49
            refine w_iload (List.Mem.head _) (tX5_condition_0_ok (61, .iload 6, 2) (List.mem_of_getElem? (i := 31) rfl)) ?_
            refine w_bipush (by decide) (tX5_condition_0_ok (63, .bipush 124, 2) (List.mem_of_getElem? (i := 32) rfl)) (fun v126 e127 => ?_)
            refine w_icmp_ne (tgt := 80) (tX5_condition_0_ok (65, .if_icmp .ne 15, 3) (List.mem_of_getElem? (i := 33) rfl)) rfl (fun b128 => ?_) (fun b128 => ?_)
            · exfalso; omega
            · refine w_iload (List.Mem.tail _ (List.Mem.tail _ (List.Mem.head _))) (tX5_condition_0_ok (68, .iload 4, 2) (List.mem_of_getElem? (i := 34) rfl)) ?_
              refine w_if_eq (tgt := 80) (tX5_condition_0_ok (70, .ifCond .eq 10, 3) (List.mem_of_getElem? (i := 35) rfl)) rfl (fun b129 => ?_) (fun b129 => ?_)
              · refine w_iload (List.Mem.tail _ (List.Mem.tail _ (List.Mem.head _))) (tX5_condition_0_ok (80, .iload 4, 2) (List.mem_of_getElem? (i := 39) rfl)) ?_
                refine w_iload (List.Mem.head _) (tX5_condition_0_ok (82, .iload 6, 2) (List.mem_of_getElem? (i := 40) rfl)) ?_
                refine w_bipush (by decide) (tX5_condition_0_ok (84, .bipush 124, 2) (List.mem_of_getElem? (i := 41) rfl)) (fun v130 e131 => ?_)
                refine w_icmp_ne (tgt := 93) (tX5_condition_0_ok (86, .if_icmp .ne 7, 3) (List.mem_of_getElem? (i := 42) rfl)) rfl (fun b132 => ?_) (fun b132 => ?_)
                · exfalso; omega
                · refine w_iconst (by decide) (tX5_condition_0_ok (89, .iconst 1, 1) (List.mem_of_getElem? (i := 43) rfl)) (fun v133 e134 => ?_)
                  refine w_goto (tgt := 94) (tX5_condition_0_ok (90, .goto 4, 3) (List.mem_of_getElem? (i := 44) rfl)) rfl ?_
                  refine w_ior (tX5_condition_0_ok (94, .ior, 1) (List.mem_of_getElem? (i := 46) rfl)) (fun v135 e136 => ?_)
                  have o9v135 := kn_or1 (by omega) (by omega) e136
                  refine w_istore [(4, .int v135), (6, .int v39), (5, .int i), (0, .ref r), (1, .ref t), (2, .int depth)] rfl (Nat.le_of_ble_eq_true rfl) (tX5_condition_0_ok (95, .istore 4, 2) (List.mem_of_getElem? (i := 47) rfl)) ?_
                  refine w_aload_n (List.Mem.tail _ (List.Mem.tail _ (List.Mem.tail _ (List.Mem.head _)))) (tX5_condition_0_ok (97, .aload_n 0, 1) (List.mem_of_getElem? (i := 48) rfl)) ?_
                  refine w_aload_n (List.Mem.tail _ (List.Mem.tail _ (List.Mem.tail _ (List.Mem.tail _ (List.Mem.head _))))) (tX5_condition_0_ok (98, .aload_n 1, 1) (List.mem_of_getElem? (i := 49) rfl)) ?_
                  refine w_iload_n (List.Mem.tail _ (List.Mem.tail _ (List.Mem.tail _ (List.Mem.tail _ (List.Mem.tail _ (List.Mem.head _)))))) (tX5_condition_0_ok (99, .iload_n 2, 1) (List.mem_of_getElem? (i := 50) rfl)) ?_
                  refine w_iconst (by decide) (tX5_condition_0_ok (100, .iconst 0, 1) (List.mem_of_getElem? (i := 51) rfl)) (fun v137 e138 => ?_)
                  refine w_callV (own := 10) (mi := 63) [.ref t, .int depth, .int v137] [] [(0, .ref r), (1, .ref t), (2, .int depth), (3, .int v137)] rfl (cllw_X5 (58, 0, 63) (List.mem_of_getElem? (i := 10) rfl)) rfl rfl c124 rfl (by omega) (w_lo (n := 25) rfl (by omega)) (Nat.le_of_ble_eq_true rfl) (Nat.le_of_ble_eq_true rfl) rfl (tX5_condition_0_ok (101, .invokevirtual 58, 3) (List.mem_of_getElem? (i := 52) rfl)) ((hunit v137 (by omega)) _ _ _ _ _ _ (by omega) (w_sub (n := 25) rfl (by omega)) trivial ⟨c121, c123, n_b_t, l1, l2, by omega, by omega⟩ ⟨g, sz, c124, c125, by omega, by omega, gb⟩ (fun h139 at140 fl141 p142 u143 e144 o145 => ?_))
                  obtain ⟨c148, c149, -, -, -, a146, a147⟩ := p142
                  obtain ⟨g150, sz151, c152, c153, z154, z155, gb156⟩ := u143
                  show ww l D tys A X fr lo mX5_condition Q 104 [(4, .int v135), (6, .int v39), (5, .int i), (0, .ref r), (1, .ref t), (2, .int depth)] [] h139
                  refine w_iload (List.Mem.tail _ (List.Mem.head _)) (tX5_condition_0_ok (104, .iload 6, 2) (List.mem_of_getElem? (i := 53) rfl)) ?_
                  refine w_bipush (by decide) (tX5_condition_0_ok (106, .bipush 38, 2) (List.mem_of_getElem? (i := 54) rfl)) (fun v157 e158 => ?_)
                  refine w_icmp_ne (tgt := 118) (tX5_condition_0_ok (108, .if_icmp .ne 10, 3) (List.mem_of_getElem? (i := 55) rfl)) rfl (fun b159 => ?_) (fun b159 => ?_)
                  · refine w_iinc (fun v160 => [(5, .int v160), (4, .int v135), (6, .int v39), (0, .ref r), (1, .ref t), (2, .int depth)]) (fun _ => rfl) (List.Mem.tail _ (List.Mem.tail _ (List.Mem.head _))) (Nat.le_of_ble_eq_true rfl) (by decide) (by omega) (by omega) (tX5_condition_0_ok (118, .iinc 5 1, 3) (List.mem_of_getElem? (i := 59) rfl)) (fun v160 e161 => ?_)
                    refine w_goto (tgt := 13) (tX5_condition_1_ok (121, .goto (-108), 3) (List.mem_of_getElem? (i := 0) rfl)) rfl ?_
                    refine w_lv [(5, .int v160), (4, .int v135), (0, .ref r), (1, .ref t), (2, .int depth)] (List.forall_mem_cons.mpr ⟨(List.Mem.head _), List.forall_mem_cons.mpr ⟨(List.Mem.tail _ (List.Mem.head _)), List.forall_mem_cons.mpr ⟨(List.Mem.tail _ (List.Mem.tail _ (List.Mem.tail _ (List.Mem.head _)))), List.forall_mem_cons.mpr ⟨(List.Mem.tail _ (List.Mem.tail _ (List.Mem.tail _ (List.Mem.tail _ (List.Mem.head _))))), List.forall_mem_cons.mpr ⟨(List.Mem.tail _ (List.Mem.tail _ (List.Mem.tail _ (List.Mem.tail _ (List.Mem.tail _ (List.Mem.head _)))))), fun _ h => absurd h List.not_mem_nil⟩⟩⟩⟩⟩) ?_
                    have a9 : j = (j - 1) + 1 := by omega
                    refine ih (j - 1) (by omega) _ _ _ _ _ _ _ _ hf hl (by omega) (by omega) (by omega) ⟨c148, c149, n_b_t, l1, l2, by omega, by omega⟩ ⟨g150, sz151, c152, c153, by omega, by omega, gb156⟩ (fun h1 at1 fl1 p1 p2 p3 p4 => hq h1 at1 fl1 p1 p2 ?_ (fun q hq => (p4 q hq).trans ((o145 q ⟨hq.1, hq.2.1, hq.2.2⟩).trans ((o122 q hq.1).trans (o43 q hq.1)))))
                    refine Or.inr ⟨by omega, ?_⟩
                    have y9 := (e144.bd p3).is (by omega)
                    rw [a9, sp_loop, if_pos (sp_an_iff.mpr (by omega))]
                    have z9 : v118.toInt.toNat = sp_sk f len.toInt.toNat at0.toInt.toNat + 1 := by omega
                    rw [z9] at y9
                    exact y9
                  · exfalso; omega
              · refine w_aload_n (List.Mem.tail _ (List.Mem.tail _ (List.Mem.tail _ (List.Mem.head _)))) (tX5_condition_0_ok (73, .aload_n 0, 1) (List.mem_of_getElem? (i := 36) rfl)) ?_
                refine w_sipush (by decide) (tX5_condition_0_ok (74, .sipush 10124, 3) (List.mem_of_getElem? (i := 37) rfl)) (fun v162 e163 => ?_)
                refine w_callV (own := 10) (mi := 56) [.int v162] [] [(0, .ref r), (1, .int v162)] rfl (cllw_X5 (55, 0, 56) (List.mem_of_getElem? (i := 12) rfl)) rfl rfl c124 rfl (by omega) (w_lo (n := 21) rfl (by omega)) (Nat.le_of_ble_eq_true rfl) (Nat.le_of_ble_eq_true rfl) rfl (tX5_condition_0_ok (77, .invokevirtual 55, 3) (List.mem_of_getElem? (i := 38) rfl)) (s_emit hT n_r_k ⟨g, sz, c124, c125, by omega, by omega, gb⟩ (by omega) (fun h164 u165 o166 => ?_))
                have c167 := (o166 t ⟨n_t_r, n_t_k⟩).trans c121
                have c168 := (o166 b ⟨n_b_r, n_b_k⟩).trans c123
                obtain ⟨g169, sz170, c171, c172, z173, z174, gb175⟩ := u165
                show ww l D tys A X fr lo mX5_condition Q 80 [(6, .int v39), (5, .int i), (4, .int wt), (0, .ref r), (1, .ref t), (2, .int depth)] [] h164
                refine w_iload (List.Mem.tail _ (List.Mem.tail _ (List.Mem.head _))) (tX5_condition_0_ok (80, .iload 4, 2) (List.mem_of_getElem? (i := 39) rfl)) ?_
                refine w_iload (List.Mem.head _) (tX5_condition_0_ok (82, .iload 6, 2) (List.mem_of_getElem? (i := 40) rfl)) ?_
                refine w_bipush (by decide) (tX5_condition_0_ok (84, .bipush 124, 2) (List.mem_of_getElem? (i := 41) rfl)) (fun v176 e177 => ?_)
                refine w_icmp_ne (tgt := 93) (tX5_condition_0_ok (86, .if_icmp .ne 7, 3) (List.mem_of_getElem? (i := 42) rfl)) rfl (fun b178 => ?_) (fun b178 => ?_)
                · exfalso; omega
                · refine w_iconst (by decide) (tX5_condition_0_ok (89, .iconst 1, 1) (List.mem_of_getElem? (i := 43) rfl)) (fun v179 e180 => ?_)
                  refine w_goto (tgt := 94) (tX5_condition_0_ok (90, .goto 4, 3) (List.mem_of_getElem? (i := 44) rfl)) rfl ?_
                  refine w_ior (tX5_condition_0_ok (94, .ior, 1) (List.mem_of_getElem? (i := 46) rfl)) (fun v181 e182 => ?_)
                  have o9v181 := kn_or1 (by omega) (by omega) e182
                  refine w_istore [(4, .int v181), (6, .int v39), (5, .int i), (0, .ref r), (1, .ref t), (2, .int depth)] rfl (Nat.le_of_ble_eq_true rfl) (tX5_condition_0_ok (95, .istore 4, 2) (List.mem_of_getElem? (i := 47) rfl)) ?_
                  refine w_aload_n (List.Mem.tail _ (List.Mem.tail _ (List.Mem.tail _ (List.Mem.head _)))) (tX5_condition_0_ok (97, .aload_n 0, 1) (List.mem_of_getElem? (i := 48) rfl)) ?_
                  refine w_aload_n (List.Mem.tail _ (List.Mem.tail _ (List.Mem.tail _ (List.Mem.tail _ (List.Mem.head _))))) (tX5_condition_0_ok (98, .aload_n 1, 1) (List.mem_of_getElem? (i := 49) rfl)) ?_
                  refine w_iload_n (List.Mem.tail _ (List.Mem.tail _ (List.Mem.tail _ (List.Mem.tail _ (List.Mem.tail _ (List.Mem.head _)))))) (tX5_condition_0_ok (99, .iload_n 2, 1) (List.mem_of_getElem? (i := 50) rfl)) ?_
                  refine w_iconst (by decide) (tX5_condition_0_ok (100, .iconst 0, 1) (List.mem_of_getElem? (i := 51) rfl)) (fun v183 e184 => ?_)
                  refine w_callV (own := 10) (mi := 63) [.ref t, .int depth, .int v183] [] [(0, .ref r), (1, .ref t), (2, .int depth), (3, .int v183)] rfl (cllw_X5 (58, 0, 63) (List.mem_of_getElem? (i := 10) rfl)) rfl rfl c171 rfl (by omega) (w_lo (n := 25) rfl (by omega)) (Nat.le_of_ble_eq_true rfl) (Nat.le_of_ble_eq_true rfl) rfl (tX5_condition_0_ok (101, .invokevirtual 58, 3) (List.mem_of_getElem? (i := 52) rfl)) ((hunit v183 (by omega)) _ _ _ _ _ _ (by omega) (w_sub (n := 25) rfl (by omega)) trivial ⟨c167, c168, n_b_t, l1, l2, by omega, by omega⟩ ⟨g169, sz170, c171, c172, by omega, by omega, gb175⟩ (fun h185 at186 fl187 p188 u189 e190 o191 => ?_))
                  obtain ⟨c194, c195, -, -, -, a192, a193⟩ := p188
                  obtain ⟨g196, sz197, c198, c199, z200, z201, gb202⟩ := u189
                  show ww l D tys A X fr lo mX5_condition Q 104 [(4, .int v181), (6, .int v39), (5, .int i), (0, .ref r), (1, .ref t), (2, .int depth)] [] h185
                  refine w_iload (List.Mem.tail _ (List.Mem.head _)) (tX5_condition_0_ok (104, .iload 6, 2) (List.mem_of_getElem? (i := 53) rfl)) ?_
                  refine w_bipush (by decide) (tX5_condition_0_ok (106, .bipush 38, 2) (List.mem_of_getElem? (i := 54) rfl)) (fun v203 e204 => ?_)
                  refine w_icmp_ne (tgt := 118) (tX5_condition_0_ok (108, .if_icmp .ne 10, 3) (List.mem_of_getElem? (i := 55) rfl)) rfl (fun b205 => ?_) (fun b205 => ?_)
                  · refine w_iinc (fun v206 => [(5, .int v206), (4, .int v181), (6, .int v39), (0, .ref r), (1, .ref t), (2, .int depth)]) (fun _ => rfl) (List.Mem.tail _ (List.Mem.tail _ (List.Mem.head _))) (Nat.le_of_ble_eq_true rfl) (by decide) (by omega) (by omega) (tX5_condition_0_ok (118, .iinc 5 1, 3) (List.mem_of_getElem? (i := 59) rfl)) (fun v206 e207 => ?_)
                    refine w_goto (tgt := 13) (tX5_condition_1_ok (121, .goto (-108), 3) (List.mem_of_getElem? (i := 0) rfl)) rfl ?_
                    refine w_lv [(5, .int v206), (4, .int v181), (0, .ref r), (1, .ref t), (2, .int depth)] (List.forall_mem_cons.mpr ⟨(List.Mem.head _), List.forall_mem_cons.mpr ⟨(List.Mem.tail _ (List.Mem.head _)), List.forall_mem_cons.mpr ⟨(List.Mem.tail _ (List.Mem.tail _ (List.Mem.tail _ (List.Mem.head _)))), List.forall_mem_cons.mpr ⟨(List.Mem.tail _ (List.Mem.tail _ (List.Mem.tail _ (List.Mem.tail _ (List.Mem.head _))))), List.forall_mem_cons.mpr ⟨(List.Mem.tail _ (List.Mem.tail _ (List.Mem.tail _ (List.Mem.tail _ (List.Mem.tail _ (List.Mem.head _)))))), fun _ h => absurd h List.not_mem_nil⟩⟩⟩⟩⟩) ?_
                    have a9 : j = (j - 1) + 1 := by omega
                    refine ih (j - 1) (by omega) _ _ _ _ _ _ _ _ hf hl (by omega) (by omega) (by omega) ⟨c194, c195, n_b_t, l1, l2, by omega, by omega⟩ ⟨g196, sz197, c198, c199, by omega, by omega, gb202⟩ (fun h1 at1 fl1 p1 p2 p3 p4 => hq h1 at1 fl1 p1 p2 ?_ (fun q hq => (p4 q hq).trans ((o191 q ⟨hq.1, hq.2.1, hq.2.2⟩).trans ((o166 q ⟨hq.2.1, hq.2.2⟩).trans ((o122 q hq.1).trans (o43 q hq.1))))))
                    refine Or.inr ⟨by omega, ?_⟩
                    have y9 := (e190.bd p3).is (by omega)
                    rw [a9, sp_loop, if_pos (sp_an_iff.mpr (by omega))]
                    have z9 : v118.toInt.toNat = sp_sk f len.toInt.toNat at0.toInt.toNat + 1 := by omega
                    rw [z9] at y9
                    exact y9
                  · exfalso; omega
          · refine w_goto (tgt := 124) (tX5_condition_0_ok (48, .goto 76, 3) (List.mem_of_getElem? (i := 24) rfl)) rfl ?_
            refine w_iload (List.Mem.tail _ (List.Mem.tail _ (List.Mem.head _))) (tX5_condition_1_ok (124, .iload 4, 2) (List.mem_of_getElem? (i := 1) rfl)) ?_
            refine w_if_eq (tgt := 136) (tX5_condition_1_ok (126, .ifCond .eq 10, 3) (List.mem_of_getElem? (i := 2) rfl)) rfl (fun b208 => ?_) (fun b208 => ?_)
            · refine w_vret rfl (tX5_condition_1_ok (136, .return_, 1) (List.mem_of_getElem? (i := 6) rfl)) ?_
              refine hq h37 at38 fl0 ⟨c44, c45, n_b_t, l1, l2, by omega, by omega⟩ ⟨g, sz, c48, c49, by omega, by omega, gb⟩ ?_ (fun q hq => o43 q hq.1)
              have a9 : j = (j - 1) + 1 := by omega
              refine Or.inr ⟨by omega, ?_⟩
              rw [a9, sp_loop, if_neg (fun q9 => by have := sp_an_iff.mp q9; omega)]
              exact ⟨by omega, by omega⟩
            · refine w_aload_n (List.Mem.tail _ (List.Mem.tail _ (List.Mem.tail _ (List.Mem.head _)))) (tX5_condition_1_ok (129, .aload_n 0, 1) (List.mem_of_getElem? (i := 3) rfl)) ?_
              refine w_sipush (by decide) (tX5_condition_1_ok (130, .sipush 10124, 3) (List.mem_of_getElem? (i := 4) rfl)) (fun v209 e210 => ?_)
              refine w_callV (own := 10) (mi := 56) [.int v209] [] [(0, .ref r), (1, .int v209)] rfl (cllw_X5 (55, 0, 56) (List.mem_of_getElem? (i := 12) rfl)) rfl rfl c48 rfl (by omega) (w_lo (n := 21) rfl (by omega)) (Nat.le_of_ble_eq_true rfl) (Nat.le_of_ble_eq_true rfl) rfl (tX5_condition_1_ok (133, .invokevirtual 55, 3) (List.mem_of_getElem? (i := 5) rfl)) (s_emit hT n_r_k ⟨g, sz, c48, c49, by omega, by omega, gb⟩ (by omega) (fun h211 u212 o213 => ?_))
              have c214 := (o213 t ⟨n_t_r, n_t_k⟩).trans c44
              have c215 := (o213 b ⟨n_b_r, n_b_k⟩).trans c45
              obtain ⟨g216, sz217, c218, c219, z220, z221, gb222⟩ := u212
              show ww l D tys A X fr lo mX5_condition Q 136 [(6, .int v39), (5, .int i), (4, .int wt), (0, .ref r), (1, .ref t), (2, .int depth)] [] h211
              refine w_vret rfl (tX5_condition_1_ok (136, .return_, 1) (List.mem_of_getElem? (i := 6) rfl)) ?_
              refine hq h211 at38 fl0 ⟨c214, c215, n_b_t, l1, l2, by omega, by omega⟩ ⟨g216, sz217, c218, c219, by omega, by omega, gb222⟩ ?_ (fun q hq => (o213 q ⟨hq.2.1, hq.2.2⟩).trans (o43 q hq.1))
              have a9 : j = (j - 1) + 1 := by omega
              refine Or.inr ⟨by omega, ?_⟩
              rw [a9, sp_loop, if_neg (fun q9 => by have := sp_an_iff.mp q9; omega)]
              exact ⟨by omega, by omega⟩
theorem s_cond (hT : k_tys tys cA) (hN : ns t b r k) {d : Nat} {N NB NP : Nat → Nat ⊕ Nat} {depth : Int32} (hd : depth.toInt = 6 - (d : Int)) (h6 : d ≤ 6) (hunit : ∀ c : Int32, c.toInt = 0 → PR l D tys A X cA t b f len r k s mX5_unit [(0, .ref r), (1, .ref t), (2, .int depth), (3, .int c)] (fun _ _ => True) (sp_unit f len.toInt.toNat N NB NP) (5 * d + 4) (140 * d + 145)) {bg : Int32} (hb : bg.toInt = 0) : PR l D tys A X cA t b f len r k s mX5_condition [(0, .ref r), (1, .ref t), (2, .int depth), (3, .int bg)] (fun _ _ => True) (sp_cond f len.toInt.toNat N NB NP) (5 * d + 5) (140 * d + 170) := by
  have hN0 := hN
  obtain ⟨n_b_t, n_r_t, n_k_t, n_r_b, n_k_b, n_r_k⟩ := hN
  have n_t_b := n_b_t.symm
  have n_t_r := n_r_t.symm
  have n_t_k := n_k_t.symm
  have n_b_r := n_r_b.symm
  have n_b_k := n_k_b.symm
  have n_k_r := n_r_k.symm
  intro fr lo Q h at0 fl0 hf hl hP H R hq
  obtain ⟨c_t, c_b, -, l1, l2, a1, a2⟩ := H
  obtain ⟨g, sz, c_r, c_k, z1, z2, gb⟩ := R
  refine w_aload_n (List.Mem.head _) (tX5_condition_0_ok (0, .aload_n 0, 1) (List.mem_of_getElem? (i := 0) rfl)) ?_
  refine w_aload_n (List.Mem.tail _ (List.Mem.head _)) (tX5_condition_0_ok (1, .aload_n 1, 1) (List.mem_of_getElem? (i := 1) rfl)) ?_
  refine w_iload_n (List.Mem.tail _ (List.Mem.tail _ (List.Mem.head _))) (tX5_condition_0_ok (2, .iload_n 2, 1) (List.mem_of_getElem? (i := 2) rfl)) ?_
  refine w_iload_n (List.Mem.tail _ (List.Mem.tail _ (List.Mem.tail _ (List.Mem.head _)))) (tX5_condition_0_ok (3, .iload_n 3, 1) (List.mem_of_getElem? (i := 3) rfl)) ?_
  refine w_callV (own := 10) (mi := 63) [.ref t, .int depth, .int bg] [] [(0, .ref r), (1, .ref t), (2, .int depth), (3, .int bg)] rfl (cllw_X5 (58, 0, 63) (List.mem_of_getElem? (i := 10) rfl)) rfl rfl c_r rfl (by omega) (w_lo (n := 25) rfl (by omega)) (Nat.le_of_ble_eq_true rfl) (Nat.le_of_ble_eq_true rfl) rfl (tX5_condition_0_ok (4, .invokevirtual 58, 3) (List.mem_of_getElem? (i := 4) rfl)) ((hunit bg (by omega)) _ _ _ _ _ _ (by omega) (w_sub (n := 25) rfl (by omega)) trivial ⟨c_t, c_b, n_b_t, l1, l2, by omega, by omega⟩ ⟨g, sz, c_r, c_k, by omega, by omega, gb⟩ (fun h1 at2 fl3 p4 u5 e6 o7 => ?_))
  obtain ⟨c10, c11, -, -, -, a8, a9⟩ := p4
  obtain ⟨g12, sz13, c14, c15, z16, z17, gb18⟩ := u5
  show ww l D tys A X fr lo mX5_condition Q 7 [(0, .ref r), (1, .ref t), (2, .int depth), (3, .int bg)] [] h1
  refine w_iconst (by decide) (tX5_condition_0_ok (7, .iconst 0, 1) (List.mem_of_getElem? (i := 5) rfl)) (fun v19 e20 => ?_)
  refine w_istore [(4, .int v19), (0, .ref r), (1, .ref t), (2, .int depth), (3, .int bg)] rfl (Nat.le_of_ble_eq_true rfl) (tX5_condition_0_ok (8, .istore 4, 2) (List.mem_of_getElem? (i := 6) rfl)) ?_
  refine w_iconst (by decide) (tX5_condition_0_ok (10, .iconst 0, 1) (List.mem_of_getElem? (i := 7) rfl)) (fun v21 e22 => ?_)
  refine w_istore [(5, .int v21), (4, .int v19), (0, .ref r), (1, .ref t), (2, .int depth), (3, .int bg)] rfl (Nat.le_of_ble_eq_true rfl) (tX5_condition_0_ok (11, .istore 5, 2) (List.mem_of_getElem? (i := 8) rfl)) ?_
  refine w_lv [(5, .int v21), (4, .int v19), (0, .ref r), (1, .ref t), (2, .int depth)] (List.forall_mem_cons.mpr ⟨(List.Mem.head _), List.forall_mem_cons.mpr ⟨(List.Mem.tail _ (List.Mem.head _)), List.forall_mem_cons.mpr ⟨(List.Mem.tail _ (List.Mem.tail _ (List.Mem.head _))), List.forall_mem_cons.mpr ⟨(List.Mem.tail _ (List.Mem.tail _ (List.Mem.tail _ (List.Mem.head _)))), List.forall_mem_cons.mpr ⟨(List.Mem.tail _ (List.Mem.tail _ (List.Mem.tail _ (List.Mem.tail _ (List.Mem.head _))))), fun _ h => absurd h List.not_mem_nil⟩⟩⟩⟩⟩) ?_
  refine s_condL (N := N) (NB := NB) (NP := NP) hT hN0 hd h6 hunit 160 _ _ _ _ _ _ _ _ hf hl (by omega) (by omega) (by omega) ⟨c10, c11, n_b_t, l1, l2, by omega, by omega⟩ ⟨g12, sz13, c14, c15, by omega, by omega, gb18⟩ (fun h1 at1 fl1 p1 p2 p3 p4 => hq h1 at1 fl1 p1 p2 ?_ (fun q hq => (p4 q hq).trans (o7 q ⟨hq.1, hq.2.1, hq.2.2⟩)))
  exact e6.bd p3
/-- a condition whose first SUM has been read -/
def sp_condB (f : Nat → Int32) (len : Nat) (N NB NP : Nat → Nat ⊕ Nat) (n : Nat) : Nat ⊕ Nat := sp_bd (sp_cm f len N n) (sp_loop f len sp_an (sp_unit f len N NB NP) 160)
theorem s_condB (hT : k_tys tys cA) (hN : ns t b r k) {d : Nat} {N NB NP : Nat → Nat ⊕ Nat} {depth : Int32} (hd : depth.toInt = 6 - (d : Int)) (h6 : d ≤ 6) (hunit : ∀ c : Int32, c.toInt = 0 → PR l D tys A X cA t b f len r k s mX5_unit [(0, .ref r), (1, .ref t), (2, .int depth), (3, .int c)] (fun _ _ => True) (sp_unit f len.toInt.toNat N NB NP) (5 * d + 4) (140 * d + 145)) {bg : Int32} (hunitB : PR l D tys A X cA t b f len r k s mX5_unit [(0, .ref r), (1, .ref t), (2, .int depth), (3, .int bg)] (fun _ _ => True) (sp_cm f len.toInt.toNat N) (5 * d + 4) (140 * d + 145)) : PR l D tys A X cA t b f len r k s mX5_condition [(0, .ref r), (1, .ref t), (2, .int depth), (3, .int bg)] (fun _ _ => True) (sp_condB f len.toInt.toNat N NB NP) (5 * d + 5) (140 * d + 170) := by
  have hN0 := hN
  obtain ⟨n_b_t, n_r_t, n_k_t, n_r_b, n_k_b, n_r_k⟩ := hN
  have n_t_b := n_b_t.symm
  have n_t_r := n_r_t.symm
  have n_t_k := n_k_t.symm
  have n_b_r := n_r_b.symm
  have n_b_k := n_k_b.symm
  have n_k_r := n_r_k.symm
  intro fr lo Q h at0 fl0 hf hl hP H R hq
  obtain ⟨c_t, c_b, -, l1, l2, a1, a2⟩ := H
  obtain ⟨g, sz, c_r, c_k, z1, z2, gb⟩ := R
  refine w_aload_n (List.Mem.head _) (tX5_condition_0_ok (0, .aload_n 0, 1) (List.mem_of_getElem? (i := 0) rfl)) ?_
  refine w_aload_n (List.Mem.tail _ (List.Mem.head _)) (tX5_condition_0_ok (1, .aload_n 1, 1) (List.mem_of_getElem? (i := 1) rfl)) ?_
  refine w_iload_n (List.Mem.tail _ (List.Mem.tail _ (List.Mem.head _))) (tX5_condition_0_ok (2, .iload_n 2, 1) (List.mem_of_getElem? (i := 2) rfl)) ?_
  refine w_iload_n (List.Mem.tail _ (List.Mem.tail _ (List.Mem.tail _ (List.Mem.head _)))) (tX5_condition_0_ok (3, .iload_n 3, 1) (List.mem_of_getElem? (i := 3) rfl)) ?_
  refine w_callV (own := 10) (mi := 63) [.ref t, .int depth, .int bg] [] [(0, .ref r), (1, .ref t), (2, .int depth), (3, .int bg)] rfl (cllw_X5 (58, 0, 63) (List.mem_of_getElem? (i := 10) rfl)) rfl rfl c_r rfl (by omega) (w_lo (n := 25) rfl (by omega)) (Nat.le_of_ble_eq_true rfl) (Nat.le_of_ble_eq_true rfl) rfl (tX5_condition_0_ok (4, .invokevirtual 58, 3) (List.mem_of_getElem? (i := 4) rfl)) (hunitB _ _ _ _ _ _ (by omega) (w_sub (n := 25) rfl (by omega)) trivial ⟨c_t, c_b, n_b_t, l1, l2, by omega, by omega⟩ ⟨g, sz, c_r, c_k, by omega, by omega, gb⟩ (fun h1 at2 fl3 p4 u5 e6 o7 => ?_))
  obtain ⟨c10, c11, -, -, -, a8, a9⟩ := p4
  obtain ⟨g12, sz13, c14, c15, z16, z17, gb18⟩ := u5
  show ww l D tys A X fr lo mX5_condition Q 7 [(0, .ref r), (1, .ref t), (2, .int depth), (3, .int bg)] [] h1
  refine w_iconst (by decide) (tX5_condition_0_ok (7, .iconst 0, 1) (List.mem_of_getElem? (i := 5) rfl)) (fun v19 e20 => ?_)
  refine w_istore [(4, .int v19), (0, .ref r), (1, .ref t), (2, .int depth), (3, .int bg)] rfl (Nat.le_of_ble_eq_true rfl) (tX5_condition_0_ok (8, .istore 4, 2) (List.mem_of_getElem? (i := 6) rfl)) ?_
  refine w_iconst (by decide) (tX5_condition_0_ok (10, .iconst 0, 1) (List.mem_of_getElem? (i := 7) rfl)) (fun v21 e22 => ?_)
  refine w_istore [(5, .int v21), (4, .int v19), (0, .ref r), (1, .ref t), (2, .int depth), (3, .int bg)] rfl (Nat.le_of_ble_eq_true rfl) (tX5_condition_0_ok (11, .istore 5, 2) (List.mem_of_getElem? (i := 8) rfl)) ?_
  refine w_lv [(5, .int v21), (4, .int v19), (0, .ref r), (1, .ref t), (2, .int depth)] (List.forall_mem_cons.mpr ⟨(List.Mem.head _), List.forall_mem_cons.mpr ⟨(List.Mem.tail _ (List.Mem.head _)), List.forall_mem_cons.mpr ⟨(List.Mem.tail _ (List.Mem.tail _ (List.Mem.head _))), List.forall_mem_cons.mpr ⟨(List.Mem.tail _ (List.Mem.tail _ (List.Mem.tail _ (List.Mem.head _)))), List.forall_mem_cons.mpr ⟨(List.Mem.tail _ (List.Mem.tail _ (List.Mem.tail _ (List.Mem.tail _ (List.Mem.head _))))), fun _ h => absurd h List.not_mem_nil⟩⟩⟩⟩⟩) ?_
  refine s_condL (N := N) (NB := NB) (NP := NP) hT hN0 hd h6 hunit 160 _ _ _ _ _ _ _ _ hf hl (by omega) (by omega) (by omega) ⟨c10, c11, n_b_t, l1, l2, by omega, by omega⟩ ⟨g12, sz13, c14, c15, by omega, by omega, gb18⟩ (fun h1 at1 fl1 p1 p2 p3 p4 => hq h1 at1 fl1 p1 p2 ?_ (fun q hq => (p4 q hq).trans (o7 q ⟨hq.1, hq.2.1, hq.2.2⟩)))
  exact e6.bd p3
theorem s_nested0 (hT : k_tys tys cA) (hN : ns t b r k) {depth sg0 : Int32} (hd : depth.toInt = 6) : PR l D tys A X cA t b f len r k s mX5_nested [(0, .ref r), (1, .ref t), (2, .int depth), (3, .int sg0)] (fun a fl => fl.toInt = -1 ∧ a.toInt < len.toInt) (.inl) 1 60 := by
  obtain ⟨n_b_t, n_r_t, n_k_t, n_r_b, n_k_b, n_r_k⟩ := hN
  have n_t_b := n_b_t.symm
  have n_t_r := n_r_t.symm
  have n_t_k := n_k_t.symm
  have n_b_r := n_r_b.symm
  have n_b_k := n_k_b.symm
  have n_k_r := n_r_k.symm
  intro fr lo Q h at0 fl0 hf hl hP H R hq
  obtain ⟨c_t, c_b, -, l1, l2, a1, a2⟩ := H
  obtain ⟨g, sz, c_r, c_k, z1, z2, gb⟩ := R
  obtain ⟨hP1, hP2⟩ := hP
  refine w_iload_n (List.Mem.tail _ (List.Mem.tail _ (List.Mem.head _))) (tX5_nested_0_ok (0, .iload_n 2, 1) (List.mem_of_getElem? (i := 0) rfl)) ?_
  refine w_bipush (by decide) (tX5_nested_0_ok (1, .bipush 6, 2) (List.mem_of_getElem? (i := 1) rfl)) (fun v1 e2 => ?_)
  refine w_icmp_lt (tgt := 11) (tX5_nested_0_ok (3, .if_icmp .lt 8, 3) (List.mem_of_getElem? (i := 2) rfl)) rfl (fun b3 => ?_) (fun b3 => ?_)
  · exfalso; omega
  · refine w_aload_n (List.Mem.tail _ (List.Mem.head _)) (tX5_nested_0_ok (6, .aload_n 1, 1) (List.mem_of_getElem? (i := 3) rfl)) ?_
    refine w_callV (own := 10) (mi := 80) [] [] [(0, .ref t)] rfl (cllw_X5 (68, 0, 80) (List.mem_of_getElem? (i := 9) rfl)) rfl rfl c_t rfl (by omega) (w_lo (n := 20) rfl (by omega)) (Nat.le_of_ble_eq_true rfl) (Nat.le_of_ble_eq_true rfl) rfl (tX5_nested_0_ok (7, .invokevirtual 68, 3) (List.mem_of_getElem? (i := 4) rfl)) (s_wrong hT ⟨c_t, c_b, n_b_t, l1, l2, by omega, by omega⟩ (fun h4 fl5 p6 e7 o8 => ?_))
    obtain ⟨c9, c10, -, -, -, a11, a12⟩ := p6
    have c13 := (o8 r n_r_t).trans c_r
    have c14 := (o8 k n_k_t).trans c_k
    show ww l D tys A X fr lo mX5_nested Q 10 [(0, .ref r), (1, .ref t), (2, .int depth), (3, .int sg0)] [] h4
    refine w_vret rfl (tX5_nested_0_ok (10, .return_, 1) (List.mem_of_getElem? (i := 5) rfl)) ?_
    refine hq h4 at0 fl5 ⟨c9, c10, n_b_t, l1, l2, by omega, by omega⟩ ⟨g, sz, c13, c14, by omega, by omega, gb⟩ ?_ (fun q hq => o8 q hq.1)
    refine Or.inr ⟨by omega, ?_⟩
    show _ = _
    omega
theorem s_nestB (hT : k_tys tys cA) (hN : ns t b r k) {d : Nat} {N NB NP : Nat → Nat ⊕ Nat} {depth sg0 : Int32} (hd : depth.toInt = 5 - (d : Int)) (h6 : d ≤ 5) (hc : sg0.toInt = 33) (hunit : ∀ d5 c : Int32, d5.toInt = 6 - (d : Int) → c.toInt = 0 → PR l D tys A X cA t b f len r k s mX5_unit [(0, .ref r), (1, .ref t), (2, .int d5), (3, .int c)] (fun _ _ => True) (sp_unit f len.toInt.toNat N NB NP) (5 * d + 4) (140 * d + 145)) : PR l D tys A X cA t b f len r k s mX5_nested [(0, .ref r), (1, .ref t), (2, .int depth), (3, .int sg0)] (fun a fl => fl.toInt = -1 ∧ a.toInt < len.toInt) (fun m => sp_unit f len.toInt.toNat N NB NP (m + 1)) (5 * (d + 1) + 1) (140 * (d + 1) + 60) := by
  obtain ⟨n_b_t, n_r_t, n_k_t, n_r_b, n_k_b, n_r_k⟩ := hN
  have n_t_b := n_b_t.symm
  have n_t_r := n_r_t.symm
  have n_t_k := n_k_t.symm
  have n_b_r := n_r_b.symm
  have n_b_k := n_k_b.symm
  have n_k_r := n_r_k.symm
  intro fr lo Q h at0 fl0 hf hl hP H R hq
  obtain ⟨c_t, c_b, -, l1, l2, a1, a2⟩ := H
  obtain ⟨g, sz, c_r, c_k, z1, z2, gb⟩ := R
  obtain ⟨hP1, hP2⟩ := hP
  refine w_iload_n (List.Mem.tail _ (List.Mem.tail _ (List.Mem.head _))) (tX5_nested_0_ok (0, .iload_n 2, 1) (List.mem_of_getElem? (i := 0) rfl)) ?_
  refine w_bipush (by decide) (tX5_nested_0_ok (1, .bipush 6, 2) (List.mem_of_getElem? (i := 1) rfl)) (fun v1 e2 => ?_)
  refine w_icmp_lt (tgt := 11) (tX5_nested_0_ok (3, .if_icmp .lt 8, 3) (List.mem_of_getElem? (i := 2) rfl)) rfl (fun b3 => ?_) (fun b3 => ?_)
  · refine w_aload_n (List.Mem.tail _ (List.Mem.head _)) (tX5_nested_0_ok (11, .aload_n 1, 1) (List.mem_of_getElem? (i := 6) rfl)) ?_
    refine w_dup rfl (tX5_nested_0_ok (12, .dup, 1) (List.mem_of_getElem? (i := 7) rfl)) ?_
    refine w_get (own := 10) rfl rfl (by decide) c_t rfl (tX5_nested_0_ok (13, .getfield 61, 3) (List.mem_of_getElem? (i := 8) rfl)) ?_
    refine w_iconst (by decide) (tX5_nested_0_ok (16, .iconst 1, 1) (List.mem_of_getElem? (i := 9) rfl)) (fun v4 e5 => ?_)
    refine w_iadd (by omega) (by omega) (tX5_nested_0_ok (17, .iadd, 1) (List.mem_of_getElem? (i := 10) rfl)) (fun v6 e7 => ?_)
    refine w_put (own := 10) [.ref b, .int len, .int v6, .int fl0] rfl rfl rfl (by decide) rfl ⟨rfl, rfl⟩ c_t (Nat.le_of_ble_eq_true rfl) (tX5_nested_0_ok (18, .putfield 61, 3) (List.mem_of_getElem? (i := 11) rfl)) (fun h8 c9 o10 => ?_)
    have c11 := (o10 b n_b_t).trans c_b
    have c12 := (o10 r n_r_t).trans c_r
    have c13 := (o10 k n_k_t).trans c_k
    refine w_iload_n (List.Mem.tail _ (List.Mem.tail _ (List.Mem.tail _ (List.Mem.head _)))) (tX5_nested_0_ok (21, .iload_n 3, 1) (List.mem_of_getElem? (i := 12) rfl)) ?_
    refine w_bipush (by decide) (tX5_nested_0_ok (22, .bipush 33, 2) (List.mem_of_getElem? (i := 13) rfl)) (fun v14 e15 => ?_)
    refine w_icmp_ne (tgt := 46) (tX5_nested_0_ok (24, .if_icmp .ne 22, 3) (List.mem_of_getElem? (i := 14) rfl)) rfl (fun b16 => ?_) (fun b16 => ?_)
    · exfalso; omega
    · refine w_aload_n (List.Mem.head _) (tX5_nested_0_ok (27, .aload_n 0, 1) (List.mem_of_getElem? (i := 15) rfl)) ?_
      refine w_aload_n (List.Mem.tail _ (List.Mem.head _)) (tX5_nested_0_ok (28, .aload_n 1, 1) (List.mem_of_getElem? (i := 16) rfl)) ?_
      refine w_iload_n (List.Mem.tail _ (List.Mem.tail _ (List.Mem.head _))) (tX5_nested_0_ok (29, .iload_n 2, 1) (List.mem_of_getElem? (i := 17) rfl)) ?_
      refine w_iconst (by decide) (tX5_nested_0_ok (30, .iconst 1, 1) (List.mem_of_getElem? (i := 18) rfl)) (fun v17 e18 => ?_)
      refine w_iadd (by omega) (by omega) (tX5_nested_0_ok (31, .iadd, 1) (List.mem_of_getElem? (i := 19) rfl)) (fun v19 e20 => ?_)
      refine w_iconst (by decide) (tX5_nested_0_ok (32, .iconst 0, 1) (List.mem_of_getElem? (i := 20) rfl)) (fun v21 e22 => ?_)
      refine w_callV (own := 10) (mi := 63) [.ref t, .int v19, .int v21] [] [(0, .ref r), (1, .ref t), (2, .int v19), (3, .int v21)] rfl (cllw_X5 (58, 0, 63) (List.mem_of_getElem? (i := 10) rfl)) rfl rfl c12 rfl (by omega) (w_lo (n := 25) rfl (by omega)) (Nat.le_of_ble_eq_true rfl) (Nat.le_of_ble_eq_true rfl) rfl (tX5_nested_0_ok (33, .invokevirtual 58, 3) (List.mem_of_getElem? (i := 21) rfl)) ((hunit v19 v21 (by omega) (by omega)) _ _ _ _ _ _ (by omega) (w_sub (n := 25) rfl (by omega)) trivial ⟨c9, c11, n_b_t, l1, l2, by omega, by omega⟩ ⟨g, sz, c12, c13, by omega, by omega, gb⟩ (fun h23 at24 fl25 p26 u27 e28 o29 => ?_))
      obtain ⟨c32, c33, -, -, -, a30, a31⟩ := p26
      obtain ⟨g34, sz35, c36, c37, z38, z39, gb40⟩ := u27
      show ww l D tys A X fr lo mX5_nested Q 36 [(0, .ref r), (1, .ref t), (2, .int depth), (3, .int sg0)] [] h23
      refine w_aload_n (List.Mem.head _) (tX5_nested_0_ok (36, .aload_n 0, 1) (List.mem_of_getElem? (i := 22) rfl)) ?_
      refine w_sipush (by decide) (tX5_nested_0_ok (37, .sipush 10033, 3) (List.mem_of_getElem? (i := 23) rfl)) (fun v41 e42 => ?_)
      refine w_callV (own := 10) (mi := 56) [.int v41] [] [(0, .ref r), (1, .int v41)] rfl (cllw_X5 (55, 0, 56) (List.mem_of_getElem? (i := 12) rfl)) rfl rfl c36 rfl (by omega) (w_lo (n := 21) rfl (by omega)) (Nat.le_of_ble_eq_true rfl) (Nat.le_of_ble_eq_true rfl) rfl (tX5_nested_0_ok (40, .invokevirtual 55, 3) (List.mem_of_getElem? (i := 24) rfl)) (s_emit hT n_r_k ⟨g34, sz35, c36, c37, by omega, by omega, gb40⟩ (by omega) (fun h43 u44 o45 => ?_))
      have c46 := (o45 t ⟨n_t_r, n_t_k⟩).trans c32
      have c47 := (o45 b ⟨n_b_r, n_b_k⟩).trans c33
      obtain ⟨g48, sz49, c50, c51, z52, z53, gb54⟩ := u44
      show ww l D tys A X fr lo mX5_nested Q 43 [(0, .ref r), (1, .ref t), (2, .int depth), (3, .int sg0)] [] h43
      refine w_goto (tgt := 84) (tX5_nested_0_ok (43, .goto 41, 3) (List.mem_of_getElem? (i := 25) rfl)) rfl ?_
      refine w_vret rfl (tX5_nested_0_ok (84, .return_, 1) (List.mem_of_getElem? (i := 49) rfl)) ?_
      refine hq h43 at24 fl25 ⟨c46, c47, n_b_t, l1, l2, by omega, by omega⟩ ⟨g48, sz49, c50, c51, by omega, by omega, gb54⟩ ?_ (fun q hq => (o45 q ⟨hq.2.1, hq.2.2⟩).trans ((o29 q ⟨hq.1, hq.2.1, hq.2.2⟩).trans (o10 q hq.1)))
      refine Or.inr ⟨by omega, ?_⟩
      have z9 : v6.toInt.toNat = at0.toInt.toNat + 1 := by omega
      have y9 := e28.is (by omega)
      rw [z9] at y9
      exact y9
  · exfalso; omega
theorem s_nestP (hT : k_tys tys cA) (hN : ns t b r k) {d : Nat} {N NB NP : Nat → Nat ⊕ Nat} {depth sg0 : Int32} (hd : depth.toInt = 5 - (d : Int)) (h6 : d ≤ 5) (hc : sg0.toInt = 40) (hcond : ∀ d5 c : Int32, d5.toInt = 6 - (d : Int) → c.toInt = 0 → PR l D tys A X cA t b f len r k s mX5_condition [(0, .ref r), (1, .ref t), (2, .int d5), (3, .int c)] (fun _ _ => True) (sp_cond f len.toInt.toNat N NB NP) (5 * d + 5) (140 * d + 170)) : PR l D tys A X cA t b f len r k s mX5_nested [(0, .ref r), (1, .ref t), (2, .int depth), (3, .int sg0)] (fun a fl => fl.toInt = -1 ∧ a.toInt < len.toInt) (fun m => sp_bd (sp_cond f len.toInt.toNat N NB NP (m + 1)) (sp_tk f len.toInt.toNat 41)) (5 * (d + 1) + 1) (140 * (d + 1) + 60) := by
  obtain ⟨n_b_t, n_r_t, n_k_t, n_r_b, n_k_b, n_r_k⟩ := hN
  have n_t_b := n_b_t.symm
  have n_t_r := n_r_t.symm
  have n_t_k := n_k_t.symm
  have n_b_r := n_r_b.symm
  have n_b_k := n_k_b.symm
  have n_k_r := n_r_k.symm
  intro fr lo Q h at0 fl0 hf hl hP H R hq
  obtain ⟨c_t, c_b, -, l1, l2, a1, a2⟩ := H
  obtain ⟨g, sz, c_r, c_k, z1, z2, gb⟩ := R
  obtain ⟨hP1, hP2⟩ := hP
  refine w_iload_n (List.Mem.tail _ (List.Mem.tail _ (List.Mem.head _))) (tX5_nested_0_ok (0, .iload_n 2, 1) (List.mem_of_getElem? (i := 0) rfl)) ?_
  refine w_bipush (by decide) (tX5_nested_0_ok (1, .bipush 6, 2) (List.mem_of_getElem? (i := 1) rfl)) (fun v1 e2 => ?_)
  refine w_icmp_lt (tgt := 11) (tX5_nested_0_ok (3, .if_icmp .lt 8, 3) (List.mem_of_getElem? (i := 2) rfl)) rfl (fun b3 => ?_) (fun b3 => ?_)
  · refine w_aload_n (List.Mem.tail _ (List.Mem.head _)) (tX5_nested_0_ok (11, .aload_n 1, 1) (List.mem_of_getElem? (i := 6) rfl)) ?_
    refine w_dup rfl (tX5_nested_0_ok (12, .dup, 1) (List.mem_of_getElem? (i := 7) rfl)) ?_
    refine w_get (own := 10) rfl rfl (by decide) c_t rfl (tX5_nested_0_ok (13, .getfield 61, 3) (List.mem_of_getElem? (i := 8) rfl)) ?_
    refine w_iconst (by decide) (tX5_nested_0_ok (16, .iconst 1, 1) (List.mem_of_getElem? (i := 9) rfl)) (fun v4 e5 => ?_)
    refine w_iadd (by omega) (by omega) (tX5_nested_0_ok (17, .iadd, 1) (List.mem_of_getElem? (i := 10) rfl)) (fun v6 e7 => ?_)
    refine w_put (own := 10) [.ref b, .int len, .int v6, .int fl0] rfl rfl rfl (by decide) rfl ⟨rfl, rfl⟩ c_t (Nat.le_of_ble_eq_true rfl) (tX5_nested_0_ok (18, .putfield 61, 3) (List.mem_of_getElem? (i := 11) rfl)) (fun h8 c9 o10 => ?_)
    have c11 := (o10 b n_b_t).trans c_b
    have c12 := (o10 r n_r_t).trans c_r
    have c13 := (o10 k n_k_t).trans c_k
    refine w_iload_n (List.Mem.tail _ (List.Mem.tail _ (List.Mem.tail _ (List.Mem.head _)))) (tX5_nested_0_ok (21, .iload_n 3, 1) (List.mem_of_getElem? (i := 12) rfl)) ?_
    refine w_bipush (by decide) (tX5_nested_0_ok (22, .bipush 33, 2) (List.mem_of_getElem? (i := 13) rfl)) (fun v14 e15 => ?_)
    refine w_icmp_ne (tgt := 46) (tX5_nested_0_ok (24, .if_icmp .ne 22, 3) (List.mem_of_getElem? (i := 14) rfl)) rfl (fun b16 => ?_) (fun b16 => ?_)
    · refine w_iload_n (List.Mem.tail _ (List.Mem.tail _ (List.Mem.tail _ (List.Mem.head _)))) (tX5_nested_0_ok (46, .iload_n 3, 1) (List.mem_of_getElem? (i := 26) rfl)) ?_
      refine w_bipush (by decide) (tX5_nested_0_ok (47, .bipush 40, 2) (List.mem_of_getElem? (i := 27) rfl)) (fun v17 e18 => ?_)
      refine w_icmp_ne (tgt := 70) (tX5_nested_0_ok (49, .if_icmp .ne 21, 3) (List.mem_of_getElem? (i := 28) rfl)) rfl (fun b19 => ?_) (fun b19 => ?_)
      · exfalso; omega
      · refine w_aload_n (List.Mem.head _) (tX5_nested_0_ok (52, .aload_n 0, 1) (List.mem_of_getElem? (i := 29) rfl)) ?_
        refine w_aload_n (List.Mem.tail _ (List.Mem.head _)) (tX5_nested_0_ok (53, .aload_n 1, 1) (List.mem_of_getElem? (i := 30) rfl)) ?_
        refine w_iload_n (List.Mem.tail _ (List.Mem.tail _ (List.Mem.head _))) (tX5_nested_0_ok (54, .iload_n 2, 1) (List.mem_of_getElem? (i := 31) rfl)) ?_
        refine w_iconst (by decide) (tX5_nested_0_ok (55, .iconst 1, 1) (List.mem_of_getElem? (i := 32) rfl)) (fun v20 e21 => ?_)
        refine w_iadd (by omega) (by omega) (tX5_nested_0_ok (56, .iadd, 1) (List.mem_of_getElem? (i := 33) rfl)) (fun v22 e23 => ?_)
        refine w_iconst (by decide) (tX5_nested_0_ok (57, .iconst 0, 1) (List.mem_of_getElem? (i := 34) rfl)) (fun v24 e25 => ?_)
        refine w_callV (own := 10) (mi := 55) [.ref t, .int v22, .int v24] [] [(0, .ref r), (1, .ref t), (2, .int v22), (3, .int v24)] rfl (cllw_X5 (51, 0, 55) (List.mem_of_getElem? (i := 13) rfl)) rfl rfl c12 rfl (by omega) (w_lo (n := 26) rfl (by omega)) (Nat.le_of_ble_eq_true rfl) (Nat.le_of_ble_eq_true rfl) rfl (tX5_nested_0_ok (58, .invokevirtual 51, 3) (List.mem_of_getElem? (i := 35) rfl)) ((hcond v22 v24 (by omega) (by omega)) _ _ _ _ _ _ (by omega) (w_sub (n := 26) rfl (by omega)) trivial ⟨c9, c11, n_b_t, l1, l2, by omega, by omega⟩ ⟨g, sz, c12, c13, by omega, by omega, gb⟩ (fun h26 at27 fl28 p29 u30 e31 o32 => ?_))
        obtain ⟨c35, c36, -, -, -, a33, a34⟩ := p29
        obtain ⟨g37, sz38, c39, c40, z41, z42, gb43⟩ := u30
        show ww l D tys A X fr lo mX5_nested Q 61 [(0, .ref r), (1, .ref t), (2, .int depth), (3, .int sg0)] [] h26
        refine w_aload_n (List.Mem.tail _ (List.Mem.head _)) (tX5_nested_0_ok (61, .aload_n 1, 1) (List.mem_of_getElem? (i := 36) rfl)) ?_
        refine w_bipush (by decide) (tX5_nested_0_ok (62, .bipush 41, 2) (List.mem_of_getElem? (i := 37) rfl)) (fun v44 e45 => ?_)
        refine w_callV (own := 10) (mi := 78) [.int v44] [] [(0, .ref t), (1, .int v44)] rfl (cllw_X5 (39, 0, 78) (List.mem_of_getElem? (i := 2) rfl)) rfl rfl c35 rfl (by omega) (w_lo (n := 21) rfl (by omega)) (Nat.le_of_ble_eq_true rfl) (Nat.le_of_ble_eq_true rfl) rfl (tX5_nested_0_ok (64, .invokevirtual 39, 3) (List.mem_of_getElem? (i := 38) rfl)) (s_takeSign hT (by omega) ⟨by omega, w_sub (n := 21) rfl (by omega)⟩ ⟨c35, c36, n_b_t, l1, l2, by omega, by omega⟩ (fun h46 at47 fl48 p49 e50 o51 => ?_))
        obtain ⟨c52, c53, -, -, -, a54, a55⟩ := p49
        have c56 := (o51 r n_r_t).trans c39
        have c57 := (o51 k n_k_t).trans c40
        show ww l D tys A X fr lo mX5_nested Q 67 [(0, .ref r), (1, .ref t), (2, .int depth), (3, .int sg0)] [] h46
        rw [e45] at e50
        have e58 : sp_go (sp_tk f len.toInt.toNat 41) at27 fl28 at47 fl48 := e50.elim (fun q => Or.inl ⟨q.1, q.2.1⟩) Or.inr
        refine w_goto (tgt := 84) (tX5_nested_0_ok (67, .goto 17, 3) (List.mem_of_getElem? (i := 39) rfl)) rfl ?_
        refine w_vret rfl (tX5_nested_0_ok (84, .return_, 1) (List.mem_of_getElem? (i := 49) rfl)) ?_
        refine hq h46 at47 fl48 ⟨c52, c53, n_b_t, l1, l2, by omega, by omega⟩ ⟨g37, sz38, c56, c57, by omega, by omega, gb43⟩ ?_ (fun q hq => (o51 q hq.1).trans ((o32 q ⟨hq.1, hq.2.1, hq.2.2⟩).trans (o10 q hq.1)))
        refine Or.inr ⟨by omega, ?_⟩
        have z9 : v6.toInt.toNat = at0.toInt.toNat + 1 := by omega
        have y9 := (e31.bd e58).is (by omega)
        rw [z9] at y9
        exact y9
    · exfalso; omega
  · exfalso; omega
theorem s_nestS (hT : k_tys tys cA) (hN : ns t b r k) {d : Nat} {N NB NP : Nat → Nat ⊕ Nat} {depth sg0 : Int32} (hd : depth.toInt = 5 - (d : Int)) (h6 : d ≤ 5) (hc : sg0.toInt = 91) (hsum : ∀ d5 : Int32, d5.toInt = 6 - (d : Int) → PR l D tys A X cA t b f len r k s mX5_sum [(0, .ref r), (1, .ref t), (2, .int d5)] (fun _ _ => True) (sp_sum f len.toInt.toNat N) (5 * d + 3) (140 * d + 115)) : PR l D tys A X cA t b f len r k s mX5_nested [(0, .ref r), (1, .ref t), (2, .int depth), (3, .int sg0)] (fun a fl => fl.toInt = -1 ∧ a.toInt < len.toInt) (fun m => sp_bd (sp_sum f len.toInt.toNat N (m + 1)) (sp_tk f len.toInt.toNat 93)) (5 * (d + 1) + 1) (140 * (d + 1) + 60) := by
  obtain ⟨n_b_t, n_r_t, n_k_t, n_r_b, n_k_b, n_r_k⟩ := hN
  have n_t_b := n_b_t.symm
  have n_t_r := n_r_t.symm
  have n_t_k := n_k_t.symm
  have n_b_r := n_r_b.symm
  have n_b_k := n_k_b.symm
  have n_k_r := n_r_k.symm
  intro fr lo Q h at0 fl0 hf hl hP H R hq
  obtain ⟨c_t, c_b, -, l1, l2, a1, a2⟩ := H
  obtain ⟨g, sz, c_r, c_k, z1, z2, gb⟩ := R
  obtain ⟨hP1, hP2⟩ := hP
  refine w_iload_n (List.Mem.tail _ (List.Mem.tail _ (List.Mem.head _))) (tX5_nested_0_ok (0, .iload_n 2, 1) (List.mem_of_getElem? (i := 0) rfl)) ?_
  refine w_bipush (by decide) (tX5_nested_0_ok (1, .bipush 6, 2) (List.mem_of_getElem? (i := 1) rfl)) (fun v1 e2 => ?_)
  refine w_icmp_lt (tgt := 11) (tX5_nested_0_ok (3, .if_icmp .lt 8, 3) (List.mem_of_getElem? (i := 2) rfl)) rfl (fun b3 => ?_) (fun b3 => ?_)
  · refine w_aload_n (List.Mem.tail _ (List.Mem.head _)) (tX5_nested_0_ok (11, .aload_n 1, 1) (List.mem_of_getElem? (i := 6) rfl)) ?_
    refine w_dup rfl (tX5_nested_0_ok (12, .dup, 1) (List.mem_of_getElem? (i := 7) rfl)) ?_
    refine w_get (own := 10) rfl rfl (by decide) c_t rfl (tX5_nested_0_ok (13, .getfield 61, 3) (List.mem_of_getElem? (i := 8) rfl)) ?_
    refine w_iconst (by decide) (tX5_nested_0_ok (16, .iconst 1, 1) (List.mem_of_getElem? (i := 9) rfl)) (fun v4 e5 => ?_)
    refine w_iadd (by omega) (by omega) (tX5_nested_0_ok (17, .iadd, 1) (List.mem_of_getElem? (i := 10) rfl)) (fun v6 e7 => ?_)
    refine w_put (own := 10) [.ref b, .int len, .int v6, .int fl0] rfl rfl rfl (by decide) rfl ⟨rfl, rfl⟩ c_t (Nat.le_of_ble_eq_true rfl) (tX5_nested_0_ok (18, .putfield 61, 3) (List.mem_of_getElem? (i := 11) rfl)) (fun h8 c9 o10 => ?_)
    have c11 := (o10 b n_b_t).trans c_b
    have c12 := (o10 r n_r_t).trans c_r
    have c13 := (o10 k n_k_t).trans c_k
    refine w_iload_n (List.Mem.tail _ (List.Mem.tail _ (List.Mem.tail _ (List.Mem.head _)))) (tX5_nested_0_ok (21, .iload_n 3, 1) (List.mem_of_getElem? (i := 12) rfl)) ?_
    refine w_bipush (by decide) (tX5_nested_0_ok (22, .bipush 33, 2) (List.mem_of_getElem? (i := 13) rfl)) (fun v14 e15 => ?_)
    refine w_icmp_ne (tgt := 46) (tX5_nested_0_ok (24, .if_icmp .ne 22, 3) (List.mem_of_getElem? (i := 14) rfl)) rfl (fun b16 => ?_) (fun b16 => ?_)
    · refine w_iload_n (List.Mem.tail _ (List.Mem.tail _ (List.Mem.tail _ (List.Mem.head _)))) (tX5_nested_0_ok (46, .iload_n 3, 1) (List.mem_of_getElem? (i := 26) rfl)) ?_
      refine w_bipush (by decide) (tX5_nested_0_ok (47, .bipush 40, 2) (List.mem_of_getElem? (i := 27) rfl)) (fun v17 e18 => ?_)
      refine w_icmp_ne (tgt := 70) (tX5_nested_0_ok (49, .if_icmp .ne 21, 3) (List.mem_of_getElem? (i := 28) rfl)) rfl (fun b19 => ?_) (fun b19 => ?_)
      · refine w_aload_n (List.Mem.head _) (tX5_nested_0_ok (70, .aload_n 0, 1) (List.mem_of_getElem? (i := 40) rfl)) ?_
        refine w_aload_n (List.Mem.tail _ (List.Mem.head _)) (tX5_nested_0_ok (71, .aload_n 1, 1) (List.mem_of_getElem? (i := 41) rfl)) ?_
        refine w_iload_n (List.Mem.tail _ (List.Mem.tail _ (List.Mem.head _))) (tX5_nested_0_ok (72, .iload_n 2, 1) (List.mem_of_getElem? (i := 42) rfl)) ?_
        refine w_iconst (by decide) (tX5_nested_0_ok (73, .iconst 1, 1) (List.mem_of_getElem? (i := 43) rfl)) (fun v20 e21 => ?_)
        refine w_iadd (by omega) (by omega) (tX5_nested_0_ok (74, .iadd, 1) (List.mem_of_getElem? (i := 44) rfl)) (fun v22 e23 => ?_)
        refine w_callV (own := 10) (mi := 62) [.ref t, .int v22] [] [(0, .ref r), (1, .ref t), (2, .int v22)] rfl (cllw_X5 (43, 0, 62) (List.mem_of_getElem? (i := 4) rfl)) rfl rfl c12 rfl (by omega) (w_lo (n := 26) rfl (by omega)) (Nat.le_of_ble_eq_true rfl) (Nat.le_of_ble_eq_true rfl) rfl (tX5_nested_0_ok (75, .invokevirtual 43, 3) (List.mem_of_getElem? (i := 45) rfl)) ((hsum v22 (by omega)) _ _ _ _ _ _ (by omega) (w_sub (n := 26) rfl (by omega)) trivial ⟨c9, c11, n_b_t, l1, l2, by omega, by omega⟩ ⟨g, sz, c12, c13, by omega, by omega, gb⟩ (fun h24 at25 fl26 p27 u28 e29 o30 => ?_))
        obtain ⟨c33, c34, -, -, -, a31, a32⟩ := p27
        obtain ⟨g35, sz36, c37, c38, z39, z40, gb41⟩ := u28
        show ww l D tys A X fr lo mX5_nested Q 78 [(0, .ref r), (1, .ref t), (2, .int depth), (3, .int sg0)] [] h24
        refine w_aload_n (List.Mem.tail _ (List.Mem.head _)) (tX5_nested_0_ok (78, .aload_n 1, 1) (List.mem_of_getElem? (i := 46) rfl)) ?_
        refine w_bipush (by decide) (tX5_nested_0_ok (79, .bipush 93, 2) (List.mem_of_getElem? (i := 47) rfl)) (fun v42 e43 => ?_)
        refine w_callV (own := 10) (mi := 78) [.int v42] [] [(0, .ref t), (1, .int v42)] rfl (cllw_X5 (39, 0, 78) (List.mem_of_getElem? (i := 2) rfl)) rfl rfl c33 rfl (by omega) (w_lo (n := 21) rfl (by omega)) (Nat.le_of_ble_eq_true rfl) (Nat.le_of_ble_eq_true rfl) rfl (tX5_nested_0_ok (81, .invokevirtual 39, 3) (List.mem_of_getElem? (i := 48) rfl)) (s_takeSign hT (by omega) ⟨by omega, w_sub (n := 21) rfl (by omega)⟩ ⟨c33, c34, n_b_t, l1, l2, by omega, by omega⟩ (fun h44 at45 fl46 p47 e48 o49 => ?_))
        obtain ⟨c50, c51, -, -, -, a52, a53⟩ := p47
        have c54 := (o49 r n_r_t).trans c37
        have c55 := (o49 k n_k_t).trans c38
        show ww l D tys A X fr lo mX5_nested Q 84 [(0, .ref r), (1, .ref t), (2, .int depth), (3, .int sg0)] [] h44
        rw [e43] at e48
        have e56 : sp_go (sp_tk f len.toInt.toNat 93) at25 fl26 at45 fl46 := e48.elim (fun q => Or.inl ⟨q.1, q.2.1⟩) Or.inr
        refine w_vret rfl (tX5_nested_0_ok (84, .return_, 1) (List.mem_of_getElem? (i := 49) rfl)) ?_
        refine hq h44 at45 fl46 ⟨c50, c51, n_b_t, l1, l2, by omega, by omega⟩ ⟨g35, sz36, c54, c55, by omega, by omega, gb41⟩ ?_ (fun q hq => (o49 q hq.1).trans ((o30 q ⟨hq.1, hq.2.1, hq.2.2⟩).trans (o10 q hq.1)))
        refine Or.inr ⟨by omega, ?_⟩
        have z9 : v6.toInt.toNat = at0.toInt.toNat + 1 := by omega
        have y9 := (e29.bd e56).is (by omega)
        rw [z9] at y9
        exact y9
      · exfalso; omega
    · exfalso; omega
  · exfalso; omega
theorem sp_go.kp {g : Nat → Nat ⊕ Nat} {a0 f0 a1 f1 : Int32} (p : sp_go g a0 f0 a1 f1) : ¬ f0.toInt = -1 → f1.toInt = f0.toInt := by
  intro h
  rcases p with ⟨p1, p2⟩ | ⟨p1, p2⟩
  · exact p2
  · exact absurd p1 h
theorem sp_go.mk {g : Nat → Nat ⊕ Nat} {a0 f0 a1 f1 : Int32} (h1 : ¬ f0.toInt = -1 → f1.toInt = f0.toInt) (h2 : f0.toInt = -1 → sp_is (g a0.toInt.toNat) a1 f1) : sp_go g a0 f0 a1 f1 := by
  by_cases h : f0.toInt = -1
  · exact Or.inr ⟨h, h2 h⟩
  · exact Or.inl ⟨h, h1 h⟩
theorem s_levels (hT : k_tys tys cA) (hN : ns t b r k) : ∀ d : Nat, d ≤ 6 → ∀ depth c : Int32, depth.toInt = 6 - (d : Int) → (c.toInt = 91 → PR l D tys A X cA t b f len r k s mX5_nested [(0, .ref r), (1, .ref t), (2, .int depth), (3, .int c)] (fun a fl => fl.toInt = -1 ∧ a.toInt < len.toInt) (sp_lv f len.toInt.toNat d).1 (5 * d + 1) (140 * d + 60)) ∧ (c.toInt = 33 → PR l D tys A X cA t b f len r k s mX5_nested [(0, .ref r), (1, .ref t), (2, .int depth), (3, .int c)] (fun a fl => fl.toInt = -1 ∧ a.toInt < len.toInt) (sp_lv f len.toInt.toNat d).2.1 (5 * d + 1) (140 * d + 60)) ∧ (c.toInt = 40 → PR l D tys A X cA t b f len r k s mX5_nested [(0, .ref r), (1, .ref t), (2, .int depth), (3, .int c)] (fun a fl => fl.toInt = -1 ∧ a.toInt < len.toInt) (sp_lv f len.toInt.toNat d).2.2 (5 * d + 1) (140 * d + 60))
  | 0, _ => fun depth c hd => ⟨fun _ => s_nested0 hT hN (by omega), fun _ => s_nested0 hT hN (by omega), fun _ => s_nested0 hT hN (by omega)⟩
  | d + 1, h6 => by
    have ih := s_levels hT hN d (by omega)
    have hA := fun (d5 : Int32) (hd : d5.toInt = 6 - (d : Int)) => s_atom (NB := (sp_lv f len.toInt.toNat d).2.1) (NP := (sp_lv f len.toInt.toNat d).2.2) hT hN hd (by omega) (fun c hc => (ih d5 c hd).1 hc)
    have hS := fun (d5 : Int32) (hd : d5.toInt = 6 - (d : Int)) => s_sum (NB := (sp_lv f len.toInt.toNat d).2.1) (NP := (sp_lv f len.toInt.toNat d).2.2) hT hN hd (by omega) (hA d5 hd)
    have hU := fun (d5 c : Int32) (hd : d5.toInt = 6 - (d : Int)) (hc : c.toInt = 0) => s_unit hT hN hd (by omega) (hS d5 hd) (fun c hc => (ih d5 c hd).2.1 hc) (fun c hc => (ih d5 c hd).2.2 hc) hc
    have hC := fun (d5 c : Int32) (hd : d5.toInt = 6 - (d : Int)) (hc : c.toInt = 0) => s_cond hT hN hd (by omega) (fun c hc => hU d5 c hd hc) hc
    intro depth c hd
    exact ⟨fun hc => s_nestS (NB := (sp_lv f len.toInt.toNat d).2.1) (NP := (sp_lv f len.toInt.toNat d).2.2) hT hN (by omega) (by omega) hc hS, fun hc => s_nestB hT hN (by omega) (by omega) hc hU, fun hc => s_nestP hT hN (by omega) (by omega) hc hC⟩
def sp_then (f : Nat → Int32) (len : Nat) (N : Nat → Nat ⊕ Nat) (n : Nat) : Nat ⊕ Nat := sp_bd (sp_tk f len 63 n) (sp_sum f len N)
def sp_body2 (f : Nat → Int32) (len : Nat) (N NB NP : Nat → Nat ⊕ Nat) (n : Nat) : Nat ⊕ Nat := if sp_cmp (sp_sg f len (sp_sk f len n)) then sp_bd (sp_condB f len N NB NP (sp_sk f len n)) (sp_then f len N) else .inr (sp_sk f len n)
def sp_body (f : Nat → Int32) (len : Nat) (N NB NP : Nat → Nat ⊕ Nat) (n : Nat) : Nat ⊕ Nat := if sp_sg f len (sp_sk f len n) = 33 ∨ sp_sg f len (sp_sk f len n) = 40 then sp_bd (sp_cond f len N NB NP (sp_sk f len n)) (sp_then f len N) else sp_bd (sp_sum f len N (sp_sk f len n)) (sp_body2 f len N NB NP)
def sp_clause (f : Nat → Int32) (len : Nat) (N NB NP : Nat → Nat ⊕ Nat) (n : Nat) : Nat ⊕ Nat := sp_bd (sp_tk f len 121 n) (fun n => sp_bd (sp_tk f len 58 n) (sp_body f len N NB NP))
theorem s_clause (hT : k_tys tys cA) (hN : ns t b r k) {N NB NP : Nat → Nat ⊕ Nat} (hsum : ∀ c : Int32, c.toInt = 0 → PR l D tys A X cA t b f len r k s mX5_sum [(0, .ref r), (1, .ref t), (2, .int c)] (fun _ _ => True) (sp_sum f len.toInt.toNat N) 33 955) (hcond : ∀ c bg : Int32, c.toInt = 0 → bg.toInt = 0 → PR l D tys A X cA t b f len r k s mX5_condition [(0, .ref r), (1, .ref t), (2, .int c), (3, .int bg)] (fun _ _ => True) (sp_cond f len.toInt.toNat N NB NP) 35 1010) (hcondB : ∀ c bg : Int32, c.toInt = 0 → bg.toInt = 1 → PR l D tys A X cA t b f len r k s mX5_condition [(0, .ref r), (1, .ref t), (2, .int c), (3, .int bg)] (fun _ _ => True) (sp_condB f len.toInt.toNat N NB NP) 35 1010) : PR l D tys A X cA t b f len r k s mX5_clause [(0, .ref r), (1, .ref t)] (fun _ _ => True) (sp_clause f len.toInt.toNat N NB NP) 36 1040 := by
  obtain ⟨n_b_t, n_r_t, n_k_t, n_r_b, n_k_b, n_r_k⟩ := hN
  have n_t_b := n_b_t.symm
  have n_t_r := n_r_t.symm
  have n_t_k := n_k_t.symm
  have n_b_r := n_r_b.symm
  have n_b_k := n_k_b.symm
  have n_k_r := n_r_k.symm
  intro fr lo Q h at0 fl0 hf hl hP H R hq
  obtain ⟨c_t, c_b, -, l1, l2, a1, a2⟩ := H
  obtain ⟨g, sz, c_r, c_k, z1, z2, gb⟩ := R
  refine w_aload_n (List.Mem.tail _ (List.Mem.head _)) (tX5_clause_0_ok (0, .aload_n 1, 1) (List.mem_of_getElem? (i := 0) rfl)) ?_
  refine w_bipush (by decide) (tX5_clause_0_ok (1, .bipush 121, 2) (List.mem_of_getElem? (i := 1) rfl)) (fun v1 e2 => ?_)
  refine w_callV (own := 10) (mi := 78) [.int v1] [] [(0, .ref t), (1, .int v1)] rfl (cllw_X5 (39, 0, 78) (List.mem_of_getElem? (i := 2) rfl)) rfl rfl c_t rfl (by omega) (w_lo (n := 21) rfl (by omega)) (Nat.le_of_ble_eq_true rfl) (Nat.le_of_ble_eq_true rfl) rfl (tX5_clause_0_ok (3, .invokevirtual 39, 3) (List.mem_of_getElem? (i := 2) rfl)) (s_takeSign hT (by omega) ⟨by omega, w_sub (n := 21) rfl (by omega)⟩ ⟨c_t, c_b, n_b_t, l1, l2, by omega, by omega⟩ (fun h3 at4 fl5 p6 e7 o8 => ?_))
  obtain ⟨c9, c10, -, -, -, a11, a12⟩ := p6
  have c13 := (o8 r n_r_t).trans c_r
  have c14 := (o8 k n_k_t).trans c_k
  show ww l D tys A X fr lo mX5_clause Q 6 [(0, .ref r), (1, .ref t)] [] h3
  rw [e2] at e7
  have e15 : sp_go (sp_tk f len.toInt.toNat 121) at0 fl0 at4 fl5 := e7.elim (fun q => Or.inl ⟨q.1, q.2.1⟩) Or.inr
  refine w_aload_n (List.Mem.tail _ (List.Mem.head _)) (tX5_clause_0_ok (6, .aload_n 1, 1) (List.mem_of_getElem? (i := 3) rfl)) ?_
  refine w_bipush (by decide) (tX5_clause_0_ok (7, .bipush 58, 2) (List.mem_of_getElem? (i := 4) rfl)) (fun v16 e17 => ?_)
  refine w_callV (own := 10) (mi := 78) [.int v16] [] [(0, .ref t), (1, .int v16)] rfl (cllw_X5 (39, 0, 78) (List.mem_of_getElem? (i := 2) rfl)) rfl rfl c9 rfl (by omega) (w_lo (n := 21) rfl (by omega)) (Nat.le_of_ble_eq_true rfl) (Nat.le_of_ble_eq_true rfl) rfl (tX5_clause_0_ok (9, .invokevirtual 39, 3) (List.mem_of_getElem? (i := 5) rfl)) (s_takeSign hT (by omega) ⟨by omega, w_sub (n := 21) rfl (by omega)⟩ ⟨c9, c10, n_b_t, l1, l2, by omega, by omega⟩ (fun h18 at19 fl20 p21 e22 o23 => ?_))
  obtain ⟨c24, c25, -, -, -, a26, a27⟩ := p21
  have c28 := (o23 r n_r_t).trans c13
  have c29 := (o23 k n_k_t).trans c14
  show ww l D tys A X fr lo mX5_clause Q 12 [(0, .ref r), (1, .ref t)] [] h18
  rw [e17] at e22
  have e30 : sp_go (sp_tk f len.toInt.toNat 58) at4 fl5 at19 fl20 := e22.elim (fun q => Or.inl ⟨q.1, q.2.1⟩) Or.inr
  refine w_aload_n (List.Mem.tail _ (List.Mem.head _)) (tX5_clause_0_ok (12, .aload_n 1, 1) (List.mem_of_getElem? (i := 6) rfl)) ?_
  refine w_callV (own := 10) (mi := 77) [] [] [(0, .ref t)] rfl (cllw_X5 (35, 0, 77) (List.mem_of_getElem? (i := 3) rfl)) rfl rfl c24 rfl (by omega) (w_lo (n := 20) rfl (by omega)) (Nat.le_of_ble_eq_true rfl) (Nat.le_of_ble_eq_true rfl) rfl (tX5_clause_0_ok (13, .invokevirtual 35, 3) (List.mem_of_getElem? (i := 7) rfl)) (s_sign hT ⟨c24, c25, n_b_t, l1, l2, by omega, by omega⟩ (fun h31 at32 v33 p34 e35 e36 o37 => ?_))
  obtain ⟨c38, c39, -, -, -, a40, a41⟩ := p34
  have c42 := (o37 r n_r_t).trans c28
  have c43 := (o37 k n_k_t).trans c29
  show ww l D tys A X fr lo mX5_clause Q 16 [(0, .ref r), (1, .ref t)] [.int v33] h31
  rw [e35] at e36
  have g44 := sp_sg_or f len.toInt.toNat (sp_sk f len.toInt.toNat at19.toInt.toNat)
  refine w_istore_n [(2, .int v33), (0, .ref r), (1, .ref t)] rfl (Nat.le_of_ble_eq_true rfl) (tX5_clause_0_ok (16, .istore_n 2, 1) (List.mem_of_getElem? (i := 8) rfl)) ?_
  refine w_iload_n (List.Mem.head _) (tX5_clause_0_ok (17, .iload_n 2, 1) (List.mem_of_getElem? (i := 9) rfl)) ?_
  refine w_bipush (by decide) (tX5_clause_0_ok (18, .bipush 33, 2) (List.mem_of_getElem? (i := 10) rfl)) (fun v45 e46 => ?_)
  refine w_icmp_eq (tgt := 33) (tX5_clause_0_ok (20, .if_icmp .eq 13, 3) (List.mem_of_getElem? (i := 11) rfl)) rfl (fun b47 => ?_) (fun b47 => ?_)
  · refine w_iconst (by decide) (tX5_clause_0_ok (33, .iconst 0, 1) (List.mem_of_getElem? (i := 17) rfl)) (fun v48 e49 => ?_)
    refine w_istore_n [(3, .int v48), (2, .int v33), (0, .ref r), (1, .ref t)] rfl (Nat.le_of_ble_eq_true rfl) (tX5_clause_0_ok (34, .istore_n 3, 1) (List.mem_of_getElem? (i := 18) rfl)) ?_
    refine w_iload_n (List.Mem.head _) (tX5_clause_0_ok (35, .iload_n 3, 1) (List.mem_of_getElem? (i := 19) rfl)) ?_
    refine w_if_eq (tgt := 45) (tX5_clause_0_ok (36, .ifCond .eq 9, 3) (List.mem_of_getElem? (i := 20) rfl)) rfl (fun b50 => ?_) (fun b50 => ?_)
    · refine w_iload_n (List.Mem.head _) (tX5_clause_0_ok (45, .iload_n 3, 1) (List.mem_of_getElem? (i := 25) rfl)) ?_
      refine w_if_eq (tgt := 59) (tX5_clause_0_ok (46, .ifCond .eq 13, 3) (List.mem_of_getElem? (i := 26) rfl)) rfl (fun b51 => ?_) (fun b51 => ?_)
      · refine w_aload_n (List.Mem.tail _ (List.Mem.tail _ (List.Mem.head _))) (tX5_clause_0_ok (59, .aload_n 0, 1) (List.mem_of_getElem? (i := 31) rfl)) ?_
        refine w_aload_n (List.Mem.tail _ (List.Mem.tail _ (List.Mem.tail _ (List.Mem.head _)))) (tX5_clause_0_ok (60, .aload_n 1, 1) (List.mem_of_getElem? (i := 32) rfl)) ?_
        refine w_iconst (by decide) (tX5_clause_0_ok (61, .iconst 0, 1) (List.mem_of_getElem? (i := 33) rfl)) (fun v52 e53 => ?_)
        refine w_iload_n (List.Mem.head _) (tX5_clause_0_ok (62, .iload_n 3, 1) (List.mem_of_getElem? (i := 34) rfl)) ?_
        refine w_callV (own := 10) (mi := 55) [.ref t, .int v52, .int v48] [] [(0, .ref r), (1, .ref t), (2, .int v52), (3, .int v48)] rfl (cllw_X5 (51, 0, 55) (List.mem_of_getElem? (i := 13) rfl)) rfl rfl c42 rfl (by omega) (w_lo (n := 26) rfl (by omega)) (Nat.le_of_ble_eq_true rfl) (Nat.le_of_ble_eq_true rfl) rfl (tX5_clause_0_ok (63, .invokevirtual 51, 3) (List.mem_of_getElem? (i := 35) rfl)) ((hcond v52 v48 (by omega) (by omega)) _ _ _ _ _ _ (by omega) (w_sub (n := 26) rfl (by omega)) trivial ⟨c38, c39, n_b_t, l1, l2, by omega, by omega⟩ ⟨g, sz, c42, c43, by omega, by omega, gb⟩ (fun h54 at55 fl56 p57 u58 e59 o60 => ?_))
        obtain ⟨c63, c64, -, -, -, a61, a62⟩ := p57
        obtain ⟨g65, sz66, c67, c68, z69, z70, gb71⟩ := u58
        show ww l D tys A X fr lo mX5_clause Q 66 [(3, .int v48), (2, .int v33), (0, .ref r), (1, .ref t)] [] h54
        refine w_aload_n (List.Mem.tail _ (List.Mem.tail _ (List.Mem.tail _ (List.Mem.head _)))) (tX5_clause_0_ok (66, .aload_n 1, 1) (List.mem_of_getElem? (i := 36) rfl)) ?_
        refine w_bipush (by decide) (tX5_clause_0_ok (67, .bipush 63, 2) (List.mem_of_getElem? (i := 37) rfl)) (fun v72 e73 => ?_)
        refine w_callV (own := 10) (mi := 78) [.int v72] [] [(0, .ref t), (1, .int v72)] rfl (cllw_X5 (39, 0, 78) (List.mem_of_getElem? (i := 2) rfl)) rfl rfl c63 rfl (by omega) (w_lo (n := 21) rfl (by omega)) (Nat.le_of_ble_eq_true rfl) (Nat.le_of_ble_eq_true rfl) rfl (tX5_clause_0_ok (69, .invokevirtual 39, 3) (List.mem_of_getElem? (i := 38) rfl)) (s_takeSign hT (by omega) ⟨by omega, w_sub (n := 21) rfl (by omega)⟩ ⟨c63, c64, n_b_t, l1, l2, by omega, by omega⟩ (fun h74 at75 fl76 p77 e78 o79 => ?_))
        obtain ⟨c80, c81, -, -, -, a82, a83⟩ := p77
        have c84 := (o79 r n_r_t).trans c67
        have c85 := (o79 k n_k_t).trans c68
        show ww l D tys A X fr lo mX5_clause Q 72 [(3, .int v48), (2, .int v33), (0, .ref r), (1, .ref t)] [] h74
        rw [e73] at e78
        have e86 : sp_go (sp_tk f len.toInt.toNat 63) at55 fl56 at75 fl76 := e78.elim (fun q => Or.inl ⟨q.1, q.2.1⟩) Or.inr
        refine w_aload_n (List.Mem.tail _ (List.Mem.tail _ (List.Mem.head _))) (tX5_clause_0_ok (72, .aload_n 0, 1) (List.mem_of_getElem? (i := 39) rfl)) ?_
        refine w_sipush (by decide) (tX5_clause_0_ok (73, .sipush 10063, 3) (List.mem_of_getElem? (i := 40) rfl)) (fun v87 e88 => ?_)
        refine w_callV (own := 10) (mi := 56) [.int v87] [] [(0, .ref r), (1, .int v87)] rfl (cllw_X5 (55, 0, 56) (List.mem_of_getElem? (i := 12) rfl)) rfl rfl c84 rfl (by omega) (w_lo (n := 21) rfl (by omega)) (Nat.le_of_ble_eq_true rfl) (Nat.le_of_ble_eq_true rfl) rfl (tX5_clause_0_ok (76, .invokevirtual 55, 3) (List.mem_of_getElem? (i := 41) rfl)) (s_emit hT n_r_k ⟨g65, sz66, c84, c85, by omega, by omega, gb71⟩ (by omega) (fun h89 u90 o91 => ?_))
        have c92 := (o91 t ⟨n_t_r, n_t_k⟩).trans c80
        have c93 := (o91 b ⟨n_b_r, n_b_k⟩).trans c81
        obtain ⟨g94, sz95, c96, c97, z98, z99, gb100⟩ := u90
        show ww l D tys A X fr lo mX5_clause Q 79 [(3, .int v48), (2, .int v33), (0, .ref r), (1, .ref t)] [] h89
        refine w_aload_n (List.Mem.tail _ (List.Mem.tail _ (List.Mem.head _))) (tX5_clause_0_ok (79, .aload_n 0, 1) (List.mem_of_getElem? (i := 42) rfl)) ?_
        refine w_get (own := 10) rfl rfl (by decide) c96 rfl (tX5_clause_0_ok (80, .getfield 18, 3) (List.mem_of_getElem? (i := 43) rfl)) ?_
        refine w_istore [(4, .int sz95), (3, .int v48), (2, .int v33), (0, .ref r), (1, .ref t)] rfl (Nat.le_of_ble_eq_true rfl) (tX5_clause_0_ok (83, .istore 4, 2) (List.mem_of_getElem? (i := 44) rfl)) ?_
        refine w_aload_n (List.Mem.tail _ (List.Mem.tail _ (List.Mem.tail _ (List.Mem.head _)))) (tX5_clause_0_ok (85, .aload_n 0, 1) (List.mem_of_getElem? (i := 45) rfl)) ?_
        refine w_iconst (by decide) (tX5_clause_0_ok (86, .iconst 0, 1) (List.mem_of_getElem? (i := 46) rfl)) (fun v101 e102 => ?_)
        refine w_callV (own := 10) (mi := 56) [.int v101] [] [(0, .ref r), (1, .int v101)] rfl (cllw_X5 (55, 0, 56) (List.mem_of_getElem? (i := 12) rfl)) rfl rfl c96 rfl (by omega) (w_lo (n := 21) rfl (by omega)) (Nat.le_of_ble_eq_true rfl) (Nat.le_of_ble_eq_true rfl) rfl (tX5_clause_0_ok (87, .invokevirtual 55, 3) (List.mem_of_getElem? (i := 47) rfl)) (s_emit hT n_r_k ⟨g94, sz95, c96, c97, by omega, by omega, gb100⟩ (by omega) (fun h103 u104 o105 => ?_))
        have c106 := (o105 t ⟨n_t_r, n_t_k⟩).trans c92
        have c107 := (o105 b ⟨n_b_r, n_b_k⟩).trans c93
        obtain ⟨g108, sz109, c110, c111, z112, z113, gb114⟩ := u104
        show ww l D tys A X fr lo mX5_clause Q 90 [(4, .int sz95), (3, .int v48), (2, .int v33), (0, .ref r), (1, .ref t)] [] h103
        refine w_aload_n (List.Mem.tail _ (List.Mem.tail _ (List.Mem.tail _ (List.Mem.head _)))) (tX5_clause_0_ok (90, .aload_n 0, 1) (List.mem_of_getElem? (i := 48) rfl)) ?_
        refine w_aload_n (List.Mem.tail _ (List.Mem.tail _ (List.Mem.tail _ (List.Mem.tail _ (List.Mem.head _))))) (tX5_clause_0_ok (91, .aload_n 1, 1) (List.mem_of_getElem? (i := 49) rfl)) ?_
        refine w_iconst (by decide) (tX5_clause_0_ok (92, .iconst 0, 1) (List.mem_of_getElem? (i := 50) rfl)) (fun v115 e116 => ?_)
        refine w_callV (own := 10) (mi := 62) [.ref t, .int v115] [] [(0, .ref r), (1, .ref t), (2, .int v115)] rfl (cllw_X5 (43, 0, 62) (List.mem_of_getElem? (i := 4) rfl)) rfl rfl c110 rfl (by omega) (w_lo (n := 26) rfl (by omega)) (Nat.le_of_ble_eq_true rfl) (Nat.le_of_ble_eq_true rfl) rfl (tX5_clause_0_ok (93, .invokevirtual 43, 3) (List.mem_of_getElem? (i := 51) rfl)) ((hsum v115 (by omega)) _ _ _ _ _ _ (by omega) (w_sub (n := 26) rfl (by omega)) trivial ⟨c106, c107, n_b_t, l1, l2, by omega, by omega⟩ ⟨g108, sz109, c110, c111, by omega, by omega, gb114⟩ (fun h117 at118 fl119 p120 u121 e122 o123 => ?_))
        obtain ⟨c126, c127, -, -, -, a124, a125⟩ := p120
        obtain ⟨g128, sz129, c130, c131, z132, z133, gb134⟩ := u121
        show ww l D tys A X fr lo mX5_clause Q 96 [(4, .int sz95), (3, .int v48), (2, .int v33), (0, .ref r), (1, .ref t)] [] h117
        refine w_aload_n (List.Mem.tail _ (List.Mem.tail _ (List.Mem.tail _ (List.Mem.head _)))) (tX5_clause_0_ok (96, .aload_n 0, 1) (List.mem_of_getElem? (i := 52) rfl)) ?_
        refine w_sipush (by decide) (tX5_clause_0_ok (97, .sipush 10059, 3) (List.mem_of_getElem? (i := 53) rfl)) (fun v135 e136 => ?_)
        refine w_callV (own := 10) (mi := 56) [.int v135] [] [(0, .ref r), (1, .int v135)] rfl (cllw_X5 (55, 0, 56) (List.mem_of_getElem? (i := 12) rfl)) rfl rfl c130 rfl (by omega) (w_lo (n := 21) rfl (by omega)) (Nat.le_of_ble_eq_true rfl) (Nat.le_of_ble_eq_true rfl) rfl (tX5_clause_0_ok (100, .invokevirtual 55, 3) (List.mem_of_getElem? (i := 54) rfl)) (s_emit hT n_r_k ⟨g128, sz129, c130, c131, by omega, by omega, gb134⟩ (by omega) (fun h137 u138 o139 => ?_))
        have c140 := (o139 t ⟨n_t_r, n_t_k⟩).trans c126
        have c141 := (o139 b ⟨n_b_r, n_b_k⟩).trans c127
        obtain ⟨g142, sz143, c144, c145, z146, z147, gb148⟩ := u138
        show ww l D tys A X fr lo mX5_clause Q 103 [(4, .int sz95), (3, .int v48), (2, .int v33), (0, .ref r), (1, .ref t)] [] h137
        refine w_iload (List.Mem.head _) (tX5_clause_0_ok (103, .iload 4, 2) (List.mem_of_getElem? (i := 55) rfl)) ?_
        refine w_sipush (by decide) (tX5_clause_0_ok (105, .sipush 192, 3) (List.mem_of_getElem? (i := 56) rfl)) (fun v149 e150 => ?_)
        refine w_icmp_ge (tgt := 122) (tX5_clause_0_ok (108, .if_icmp .ge 14, 3) (List.mem_of_getElem? (i := 57) rfl)) rfl (fun b151 => ?_) (fun b151 => ?_)
        · refine w_goto (tgt := 132) (tX5_clause_1_ok (122, .goto 10, 3) (List.mem_of_getElem? (i := 4) rfl)) rfl ?_
          refine w_vret rfl (tX5_clause_1_ok (132, .return_, 1) (List.mem_of_getElem? (i := 8) rfl)) ?_
          have kp152 := e30.kp
          have kp153 := e59.kp
          have kp154 := e86.kp
          have kp155 := e122.kp
          have c9 : sp_go (sp_body f len.toInt.toNat N NB NP) at19 fl20 at118 fl119 := sp_go.mk (by omega) (fun f9 => by
            unfold sp_body
            rw [if_pos (by omega)]
            have y9 := (e59.bd (e86.bd e122)).is (by omega)
            rw [e35] at y9
            exact y9)
          refine hq h137 at118 fl119 ⟨c140, c141, n_b_t, l1, l2, by omega, by omega⟩ ⟨g142, sz143, c144, c145, by omega, by omega, gb148⟩ ?_ (fun q hq => (o139 q ⟨hq.2.1, hq.2.2⟩).trans ((o123 q ⟨hq.1, hq.2.1, hq.2.2⟩).trans ((o105 q ⟨hq.2.1, hq.2.2⟩).trans ((o91 q ⟨hq.2.1, hq.2.2⟩).trans ((o79 q hq.1).trans ((o60 q ⟨hq.1, hq.2.1, hq.2.2⟩).trans ((o37 q hq.1).trans ((o23 q hq.1).trans (o8 q hq.1)))))))))
          exact e15.bd (e30.bd c9)
        · refine w_aload_n (List.Mem.tail _ (List.Mem.tail _ (List.Mem.tail _ (List.Mem.head _)))) (tX5_clause_0_ok (111, .aload_n 0, 1) (List.mem_of_getElem? (i := 58) rfl)) ?_
          refine w_get (own := 10) rfl rfl (by decide) c144 rfl (tX5_clause_0_ok (112, .getfield 11, 3) (List.mem_of_getElem? (i := 59) rfl)) ?_
          refine w_iload (List.Mem.head _) (tX5_clause_1_ok (115, .iload 4, 2) (List.mem_of_getElem? (i := 0) rfl)) ?_
          refine w_aload_n (List.Mem.tail _ (List.Mem.tail _ (List.Mem.tail _ (List.Mem.head _)))) (tX5_clause_1_ok (117, .aload_n 0, 1) (List.mem_of_getElem? (i := 1) rfl)) ?_
          refine w_get (own := 10) rfl rfl (by decide) c144 rfl (tX5_clause_1_ok (118, .getfield 18, 3) (List.mem_of_getElem? (i := 2) rfl)) ?_
          refine w_iast hT c145 (by omega) (by omega) (tX5_clause_1_ok (121, .iastore, 1) (List.mem_of_getElem? (i := 3) rfl)) (fun h156 c157 o158 => ?_)
          have c159 := (o158 t n_t_k).trans c140
          have c160 := (o158 b n_b_k).trans c141
          have c161 := (o158 r n_r_k).trans c144
          refine w_goto (tgt := 132) (tX5_clause_1_ok (122, .goto 10, 3) (List.mem_of_getElem? (i := 4) rfl)) rfl ?_
          refine w_vret rfl (tX5_clause_1_ok (132, .return_, 1) (List.mem_of_getElem? (i := 8) rfl)) ?_
          have kp162 := e30.kp
          have kp163 := e59.kp
          have kp164 := e86.kp
          have kp165 := e122.kp
          have c9 : sp_go (sp_body f len.toInt.toNat N NB NP) at19 fl20 at118 fl119 := sp_go.mk (by omega) (fun f9 => by
            unfold sp_body
            rw [if_pos (by omega)]
            have y9 := (e59.bd (e86.bd e122)).is (by omega)
            rw [e35] at y9
            exact y9)
          refine hq h156 at118 fl119 ⟨c159, c160, n_b_t, l1, l2, by omega, by omega⟩ ⟨(upd g142 sz95.toInt.toNat sz143), sz143, c161, c157, by omega, by omega, (ru_upd gb148 (by omega))⟩ ?_ (fun q hq => (o158 q hq.2.2).trans ((o139 q ⟨hq.2.1, hq.2.2⟩).trans ((o123 q ⟨hq.1, hq.2.1, hq.2.2⟩).trans ((o105 q ⟨hq.2.1, hq.2.2⟩).trans ((o91 q ⟨hq.2.1, hq.2.2⟩).trans ((o79 q hq.1).trans ((o60 q ⟨hq.1, hq.2.1, hq.2.2⟩).trans ((o37 q hq.1).trans ((o23 q hq.1).trans (o8 q hq.1))))))))))
          exact e15.bd (e30.bd c9)
      · exfalso; omega
    · exfalso; omega
  · refine w_iload_n (List.Mem.head _) (tX5_clause_0_ok (23, .iload_n 2, 1) (List.mem_of_getElem? (i := 12) rfl)) ?_
    refine w_bipush (by decide) (tX5_clause_0_ok (24, .bipush 40, 2) (List.mem_of_getElem? (i := 13) rfl)) (fun v166 e167 => ?_)
    refine w_icmp_eq (tgt := 33) (tX5_clause_0_ok (26, .if_icmp .eq 7, 3) (List.mem_of_getElem? (i := 14) rfl)) rfl (fun b168 => ?_) (fun b168 => ?_)
    · refine w_iconst (by decide) (tX5_clause_0_ok (33, .iconst 0, 1) (List.mem_of_getElem? (i := 17) rfl)) (fun v169 e170 => ?_)
      refine w_istore_n [(3, .int v169), (2, .int v33), (0, .ref r), (1, .ref t)] rfl (Nat.le_of_ble_eq_true rfl) (tX5_clause_0_ok (34, .istore_n 3, 1) (List.mem_of_getElem? (i := 18) rfl)) ?_
      refine w_iload_n (List.Mem.head _) (tX5_clause_0_ok (35, .iload_n 3, 1) (List.mem_of_getElem? (i := 19) rfl)) ?_
      refine w_if_eq (tgt := 45) (tX5_clause_0_ok (36, .ifCond .eq 9, 3) (List.mem_of_getElem? (i := 20) rfl)) rfl (fun b171 => ?_) (fun b171 => ?_)
      · refine w_iload_n (List.Mem.head _) (tX5_clause_0_ok (45, .iload_n 3, 1) (List.mem_of_getElem? (i := 25) rfl)) ?_
        refine w_if_eq (tgt := 59) (tX5_clause_0_ok (46, .ifCond .eq 13, 3) (List.mem_of_getElem? (i := 26) rfl)) rfl (fun b172 => ?_) (fun b172 => ?_)
        · refine w_aload_n (List.Mem.tail _ (List.Mem.tail _ (List.Mem.head _))) (tX5_clause_0_ok (59, .aload_n 0, 1) (List.mem_of_getElem? (i := 31) rfl)) ?_
          refine w_aload_n (List.Mem.tail _ (List.Mem.tail _ (List.Mem.tail _ (List.Mem.head _)))) (tX5_clause_0_ok (60, .aload_n 1, 1) (List.mem_of_getElem? (i := 32) rfl)) ?_
          refine w_iconst (by decide) (tX5_clause_0_ok (61, .iconst 0, 1) (List.mem_of_getElem? (i := 33) rfl)) (fun v173 e174 => ?_)
          refine w_iload_n (List.Mem.head _) (tX5_clause_0_ok (62, .iload_n 3, 1) (List.mem_of_getElem? (i := 34) rfl)) ?_
          refine w_callV (own := 10) (mi := 55) [.ref t, .int v173, .int v169] [] [(0, .ref r), (1, .ref t), (2, .int v173), (3, .int v169)] rfl (cllw_X5 (51, 0, 55) (List.mem_of_getElem? (i := 13) rfl)) rfl rfl c42 rfl (by omega) (w_lo (n := 26) rfl (by omega)) (Nat.le_of_ble_eq_true rfl) (Nat.le_of_ble_eq_true rfl) rfl (tX5_clause_0_ok (63, .invokevirtual 51, 3) (List.mem_of_getElem? (i := 35) rfl)) ((hcond v173 v169 (by omega) (by omega)) _ _ _ _ _ _ (by omega) (w_sub (n := 26) rfl (by omega)) trivial ⟨c38, c39, n_b_t, l1, l2, by omega, by omega⟩ ⟨g, sz, c42, c43, by omega, by omega, gb⟩ (fun h175 at176 fl177 p178 u179 e180 o181 => ?_))
          obtain ⟨c184, c185, -, -, -, a182, a183⟩ := p178
          obtain ⟨g186, sz187, c188, c189, z190, z191, gb192⟩ := u179
          show ww l D tys A X fr lo mX5_clause Q 66 [(3, .int v169), (2, .int v33), (0, .ref r), (1, .ref t)] [] h175
          refine w_aload_n (List.Mem.tail _ (List.Mem.tail _ (List.Mem.tail _ (List.Mem.head _)))) (tX5_clause_0_ok (66, .aload_n 1, 1) (List.mem_of_getElem? (i := 36) rfl)) ?_
          refine w_bipush (by decide) (tX5_clause_0_ok (67, .bipush 63, 2) (List.mem_of_getElem? (i := 37) rfl)) (fun v193 e194 => ?_)
          refine w_callV (own := 10) (mi := 78) [.int v193] [] [(0, .ref t), (1, .int v193)] rfl (cllw_X5 (39, 0, 78) (List.mem_of_getElem? (i := 2) rfl)) rfl rfl c184 rfl (by omega) (w_lo (n := 21) rfl (by omega)) (Nat.le_of_ble_eq_true rfl) (Nat.le_of_ble_eq_true rfl) rfl (tX5_clause_0_ok (69, .invokevirtual 39, 3) (List.mem_of_getElem? (i := 38) rfl)) (s_takeSign hT (by omega) ⟨by omega, w_sub (n := 21) rfl (by omega)⟩ ⟨c184, c185, n_b_t, l1, l2, by omega, by omega⟩ (fun h195 at196 fl197 p198 e199 o200 => ?_))
          obtain ⟨c201, c202, -, -, -, a203, a204⟩ := p198
          have c205 := (o200 r n_r_t).trans c188
          have c206 := (o200 k n_k_t).trans c189
          show ww l D tys A X fr lo mX5_clause Q 72 [(3, .int v169), (2, .int v33), (0, .ref r), (1, .ref t)] [] h195
          rw [e194] at e199
          have e207 : sp_go (sp_tk f len.toInt.toNat 63) at176 fl177 at196 fl197 := e199.elim (fun q => Or.inl ⟨q.1, q.2.1⟩) Or.inr
          refine w_aload_n (List.Mem.tail _ (List.Mem.tail _ (List.Mem.head _))) (tX5_clause_0_ok (72, .aload_n 0, 1) (List.mem_of_getElem? (i := 39) rfl)) ?_
          refine w_sipush (by decide) (tX5_clause_0_ok (73, .sipush 10063, 3) (List.mem_of_getElem? (i := 40) rfl)) (fun v208 e209 => ?_)
          refine w_callV (own := 10) (mi := 56) [.int v208] [] [(0, .ref r), (1, .int v208)] rfl (cllw_X5 (55, 0, 56) (List.mem_of_getElem? (i := 12) rfl)) rfl rfl c205 rfl (by omega) (w_lo (n := 21) rfl (by omega)) (Nat.le_of_ble_eq_true rfl) (Nat.le_of_ble_eq_true rfl) rfl (tX5_clause_0_ok (76, .invokevirtual 55, 3) (List.mem_of_getElem? (i := 41) rfl)) (s_emit hT n_r_k ⟨g186, sz187, c205, c206, by omega, by omega, gb192⟩ (by omega) (fun h210 u211 o212 => ?_))
          have c213 := (o212 t ⟨n_t_r, n_t_k⟩).trans c201
          have c214 := (o212 b ⟨n_b_r, n_b_k⟩).trans c202
          obtain ⟨g215, sz216, c217, c218, z219, z220, gb221⟩ := u211
          show ww l D tys A X fr lo mX5_clause Q 79 [(3, .int v169), (2, .int v33), (0, .ref r), (1, .ref t)] [] h210
          refine w_aload_n (List.Mem.tail _ (List.Mem.tail _ (List.Mem.head _))) (tX5_clause_0_ok (79, .aload_n 0, 1) (List.mem_of_getElem? (i := 42) rfl)) ?_
          refine w_get (own := 10) rfl rfl (by decide) c217 rfl (tX5_clause_0_ok (80, .getfield 18, 3) (List.mem_of_getElem? (i := 43) rfl)) ?_
          refine w_istore [(4, .int sz216), (3, .int v169), (2, .int v33), (0, .ref r), (1, .ref t)] rfl (Nat.le_of_ble_eq_true rfl) (tX5_clause_0_ok (83, .istore 4, 2) (List.mem_of_getElem? (i := 44) rfl)) ?_
          refine w_aload_n (List.Mem.tail _ (List.Mem.tail _ (List.Mem.tail _ (List.Mem.head _)))) (tX5_clause_0_ok (85, .aload_n 0, 1) (List.mem_of_getElem? (i := 45) rfl)) ?_
          refine w_iconst (by decide) (tX5_clause_0_ok (86, .iconst 0, 1) (List.mem_of_getElem? (i := 46) rfl)) (fun v222 e223 => ?_)
          refine w_callV (own := 10) (mi := 56) [.int v222] [] [(0, .ref r), (1, .int v222)] rfl (cllw_X5 (55, 0, 56) (List.mem_of_getElem? (i := 12) rfl)) rfl rfl c217 rfl (by omega) (w_lo (n := 21) rfl (by omega)) (Nat.le_of_ble_eq_true rfl) (Nat.le_of_ble_eq_true rfl) rfl (tX5_clause_0_ok (87, .invokevirtual 55, 3) (List.mem_of_getElem? (i := 47) rfl)) (s_emit hT n_r_k ⟨g215, sz216, c217, c218, by omega, by omega, gb221⟩ (by omega) (fun h224 u225 o226 => ?_))
          have c227 := (o226 t ⟨n_t_r, n_t_k⟩).trans c213
          have c228 := (o226 b ⟨n_b_r, n_b_k⟩).trans c214
          obtain ⟨g229, sz230, c231, c232, z233, z234, gb235⟩ := u225
          show ww l D tys A X fr lo mX5_clause Q 90 [(4, .int sz216), (3, .int v169), (2, .int v33), (0, .ref r), (1, .ref t)] [] h224
          refine w_aload_n (List.Mem.tail _ (List.Mem.tail _ (List.Mem.tail _ (List.Mem.head _)))) (tX5_clause_0_ok (90, .aload_n 0, 1) (List.mem_of_getElem? (i := 48) rfl)) ?_
          refine w_aload_n (List.Mem.tail _ (List.Mem.tail _ (List.Mem.tail _ (List.Mem.tail _ (List.Mem.head _))))) (tX5_clause_0_ok (91, .aload_n 1, 1) (List.mem_of_getElem? (i := 49) rfl)) ?_
          refine w_iconst (by decide) (tX5_clause_0_ok (92, .iconst 0, 1) (List.mem_of_getElem? (i := 50) rfl)) (fun v236 e237 => ?_)
          refine w_callV (own := 10) (mi := 62) [.ref t, .int v236] [] [(0, .ref r), (1, .ref t), (2, .int v236)] rfl (cllw_X5 (43, 0, 62) (List.mem_of_getElem? (i := 4) rfl)) rfl rfl c231 rfl (by omega) (w_lo (n := 26) rfl (by omega)) (Nat.le_of_ble_eq_true rfl) (Nat.le_of_ble_eq_true rfl) rfl (tX5_clause_0_ok (93, .invokevirtual 43, 3) (List.mem_of_getElem? (i := 51) rfl)) ((hsum v236 (by omega)) _ _ _ _ _ _ (by omega) (w_sub (n := 26) rfl (by omega)) trivial ⟨c227, c228, n_b_t, l1, l2, by omega, by omega⟩ ⟨g229, sz230, c231, c232, by omega, by omega, gb235⟩ (fun h238 at239 fl240 p241 u242 e243 o244 => ?_))
          obtain ⟨c247, c248, -, -, -, a245, a246⟩ := p241
          obtain ⟨g249, sz250, c251, c252, z253, z254, gb255⟩ := u242
          show ww l D tys A X fr lo mX5_clause Q 96 [(4, .int sz216), (3, .int v169), (2, .int v33), (0, .ref r), (1, .ref t)] [] h238
          refine w_aload_n (List.Mem.tail _ (List.Mem.tail _ (List.Mem.tail _ (List.Mem.head _)))) (tX5_clause_0_ok (96, .aload_n 0, 1) (List.mem_of_getElem? (i := 52) rfl)) ?_
          refine w_sipush (by decide) (tX5_clause_0_ok (97, .sipush 10059, 3) (List.mem_of_getElem? (i := 53) rfl)) (fun v256 e257 => ?_)
          refine w_callV (own := 10) (mi := 56) [.int v256] [] [(0, .ref r), (1, .int v256)] rfl (cllw_X5 (55, 0, 56) (List.mem_of_getElem? (i := 12) rfl)) rfl rfl c251 rfl (by omega) (w_lo (n := 21) rfl (by omega)) (Nat.le_of_ble_eq_true rfl) (Nat.le_of_ble_eq_true rfl) rfl (tX5_clause_0_ok (100, .invokevirtual 55, 3) (List.mem_of_getElem? (i := 54) rfl)) (s_emit hT n_r_k ⟨g249, sz250, c251, c252, by omega, by omega, gb255⟩ (by omega) (fun h258 u259 o260 => ?_))
          have c261 := (o260 t ⟨n_t_r, n_t_k⟩).trans c247
          have c262 := (o260 b ⟨n_b_r, n_b_k⟩).trans c248
          obtain ⟨g263, sz264, c265, c266, z267, z268, gb269⟩ := u259
          show ww l D tys A X fr lo mX5_clause Q 103 [(4, .int sz216), (3, .int v169), (2, .int v33), (0, .ref r), (1, .ref t)] [] h258
          refine w_iload (List.Mem.head _) (tX5_clause_0_ok (103, .iload 4, 2) (List.mem_of_getElem? (i := 55) rfl)) ?_
          refine w_sipush (by decide) (tX5_clause_0_ok (105, .sipush 192, 3) (List.mem_of_getElem? (i := 56) rfl)) (fun v270 e271 => ?_)
          refine w_icmp_ge (tgt := 122) (tX5_clause_0_ok (108, .if_icmp .ge 14, 3) (List.mem_of_getElem? (i := 57) rfl)) rfl (fun b272 => ?_) (fun b272 => ?_)
          · refine w_goto (tgt := 132) (tX5_clause_1_ok (122, .goto 10, 3) (List.mem_of_getElem? (i := 4) rfl)) rfl ?_
            refine w_vret rfl (tX5_clause_1_ok (132, .return_, 1) (List.mem_of_getElem? (i := 8) rfl)) ?_
            have kp273 := e30.kp
            have kp274 := e180.kp
            have kp275 := e207.kp
            have kp276 := e243.kp
            have c9 : sp_go (sp_body f len.toInt.toNat N NB NP) at19 fl20 at239 fl240 := sp_go.mk (by omega) (fun f9 => by
              unfold sp_body
              rw [if_pos (by omega)]
              have y9 := (e180.bd (e207.bd e243)).is (by omega)
              rw [e35] at y9
              exact y9)
            refine hq h258 at239 fl240 ⟨c261, c262, n_b_t, l1, l2, by omega, by omega⟩ ⟨g263, sz264, c265, c266, by omega, by omega, gb269⟩ ?_ (fun q hq => (o260 q ⟨hq.2.1, hq.2.2⟩).trans ((o244 q ⟨hq.1, hq.2.1, hq.2.2⟩).trans ((o226 q ⟨hq.2.1, hq.2.2⟩).trans ((o212 q ⟨hq.2.1, hq.2.2⟩).trans ((o200 q hq.1).trans ((o181 q ⟨hq.1, hq.2.1, hq.2.2⟩).trans ((o37 q hq.1).trans ((o23 q hq.1).trans (o8 q hq.1)))))))))
            exact e15.bd (e30.bd c9)
          · refine w_aload_n (List.Mem.tail _ (List.Mem.tail _ (List.Mem.tail _ (List.Mem.head _)))) (tX5_clause_0_ok (111, .aload_n 0, 1) (List.mem_of_getElem? (i := 58) rfl)) ?_
            refine w_get (own := 10) rfl rfl (by decide) c265 rfl (tX5_clause_0_ok (112, .getfield 11, 3) (List.mem_of_getElem? (i := 59) rfl)) ?_
            refine w_iload (List.Mem.head _) (tX5_clause_1_ok (115, .iload 4, 2) (List.mem_of_getElem? (i := 0) rfl)) ?_
            refine w_aload_n (List.Mem.tail _ (List.Mem.tail _ (List.Mem.tail _ (List.Mem.head _)))) (tX5_clause_1_ok (117, .aload_n 0, 1) (List.mem_of_getElem? (i := 1) rfl)) ?_
            refine w_get (own := 10) rfl rfl (by decide) c265 rfl (tX5_clause_1_ok (118, .getfield 18, 3) (List.mem_of_getElem? (i := 2) rfl)) ?_
            refine w_iast hT c266 (by omega) (by omega) (tX5_clause_1_ok (121, .iastore, 1) (List.mem_of_getElem? (i := 3) rfl)) (fun h277 c278 o279 => ?_)
            have c280 := (o279 t n_t_k).trans c261
            have c281 := (o279 b n_b_k).trans c262
            have c282 := (o279 r n_r_k).trans c265
            refine w_goto (tgt := 132) (tX5_clause_1_ok (122, .goto 10, 3) (List.mem_of_getElem? (i := 4) rfl)) rfl ?_
            refine w_vret rfl (tX5_clause_1_ok (132, .return_, 1) (List.mem_of_getElem? (i := 8) rfl)) ?_
            have kp283 := e30.kp
            have kp284 := e180.kp
            have kp285 := e207.kp
            have kp286 := e243.kp
            have c9 : sp_go (sp_body f len.toInt.toNat N NB NP) at19 fl20 at239 fl240 := sp_go.mk (by omega) (fun f9 => by
              unfold sp_body
              rw [if_pos (by omega)]
              have y9 := (e180.bd (e207.bd e243)).is (by omega)
              rw [e35] at y9
              exact y9)
            refine hq h277 at239 fl240 ⟨c280, c281, n_b_t, l1, l2, by omega, by omega⟩ ⟨(upd g263 sz216.toInt.toNat sz264), sz264, c282, c278, by omega, by omega, (ru_upd gb269 (by omega))⟩ ?_ (fun q hq => (o279 q hq.2.2).trans ((o260 q ⟨hq.2.1, hq.2.2⟩).trans ((o244 q ⟨hq.1, hq.2.1, hq.2.2⟩).trans ((o226 q ⟨hq.2.1, hq.2.2⟩).trans ((o212 q ⟨hq.2.1, hq.2.2⟩).trans ((o200 q hq.1).trans ((o181 q ⟨hq.1, hq.2.1, hq.2.2⟩).trans ((o37 q hq.1).trans ((o23 q hq.1).trans (o8 q hq.1))))))))))
            exact e15.bd (e30.bd c9)
        · exfalso; omega
      · exfalso; omega
    · refine w_iconst (by decide) (tX5_clause_0_ok (29, .iconst 1, 1) (List.mem_of_getElem? (i := 15) rfl)) (fun v287 e288 => ?_)
      refine w_goto (tgt := 34) (tX5_clause_0_ok (30, .goto 4, 3) (List.mem_of_getElem? (i := 16) rfl)) rfl ?_
      refine w_istore_n [(3, .int v287), (2, .int v33), (0, .ref r), (1, .ref t)] rfl (Nat.le_of_ble_eq_true rfl) (tX5_clause_0_ok (34, .istore_n 3, 1) (List.mem_of_getElem? (i := 18) rfl)) ?_
      refine w_iload_n (List.Mem.head _) (tX5_clause_0_ok (35, .iload_n 3, 1) (List.mem_of_getElem? (i := 19) rfl)) ?_
      refine w_if_eq (tgt := 45) (tX5_clause_0_ok (36, .ifCond .eq 9, 3) (List.mem_of_getElem? (i := 20) rfl)) rfl (fun b289 => ?_) (fun b289 => ?_)
      · exfalso; omega
      · refine w_aload_n (List.Mem.tail _ (List.Mem.tail _ (List.Mem.head _))) (tX5_clause_0_ok (39, .aload_n 0, 1) (List.mem_of_getElem? (i := 21) rfl)) ?_
        refine w_aload_n (List.Mem.tail _ (List.Mem.tail _ (List.Mem.tail _ (List.Mem.head _)))) (tX5_clause_0_ok (40, .aload_n 1, 1) (List.mem_of_getElem? (i := 22) rfl)) ?_
        refine w_iconst (by decide) (tX5_clause_0_ok (41, .iconst 0, 1) (List.mem_of_getElem? (i := 23) rfl)) (fun v290 e291 => ?_)
        refine w_callV (own := 10) (mi := 62) [.ref t, .int v290] [] [(0, .ref r), (1, .ref t), (2, .int v290)] rfl (cllw_X5 (43, 0, 62) (List.mem_of_getElem? (i := 4) rfl)) rfl rfl c42 rfl (by omega) (w_lo (n := 26) rfl (by omega)) (Nat.le_of_ble_eq_true rfl) (Nat.le_of_ble_eq_true rfl) rfl (tX5_clause_0_ok (42, .invokevirtual 43, 3) (List.mem_of_getElem? (i := 24) rfl)) ((hsum v290 (by omega)) _ _ _ _ _ _ (by omega) (w_sub (n := 26) rfl (by omega)) trivial ⟨c38, c39, n_b_t, l1, l2, by omega, by omega⟩ ⟨g, sz, c42, c43, by omega, by omega, gb⟩ (fun h292 at293 fl294 p295 u296 e297 o298 => ?_))
        obtain ⟨c301, c302, -, -, -, a299, a300⟩ := p295
        obtain ⟨g303, sz304, c305, c306, z307, z308, gb309⟩ := u296
        show ww l D tys A X fr lo mX5_clause Q 45 [(3, .int v287), (2, .int v33), (0, .ref r), (1, .ref t)] [] h292
        refine w_iload_n (List.Mem.head _) (tX5_clause_0_ok (45, .iload_n 3, 1) (List.mem_of_getElem? (i := 25) rfl)) ?_
        refine w_if_eq (tgt := 59) (tX5_clause_0_ok (46, .ifCond .eq 13, 3) (List.mem_of_getElem? (i := 26) rfl)) rfl (fun b310 => ?_) (fun b310 => ?_)
        · exfalso; omega
        · refine w_aload_n (List.Mem.tail _ (List.Mem.tail _ (List.Mem.tail _ (List.Mem.head _)))) (tX5_clause_0_ok (49, .aload_n 1, 1) (List.mem_of_getElem? (i := 27) rfl)) ?_
          refine w_callV (own := 10) (mi := 77) [] [] [(0, .ref t)] rfl (cllw_X5 (35, 0, 77) (List.mem_of_getElem? (i := 3) rfl)) rfl rfl c301 rfl (by omega) (w_lo (n := 20) rfl (by omega)) (Nat.le_of_ble_eq_true rfl) (Nat.le_of_ble_eq_true rfl) rfl (tX5_clause_0_ok (50, .invokevirtual 35, 3) (List.mem_of_getElem? (i := 28) rfl)) (s_sign hT ⟨c301, c302, n_b_t, l1, l2, by omega, by omega⟩ (fun h311 at312 v313 p314 e315 e316 o317 => ?_))
          obtain ⟨c318, c319, -, -, -, a320, a321⟩ := p314
          have c322 := (o317 r n_r_t).trans c305
          have c323 := (o317 k n_k_t).trans c306
          show ww l D tys A X fr lo mX5_clause Q 53 [(3, .int v287), (2, .int v33), (0, .ref r), (1, .ref t)] [.int v313] h311
          rw [e315] at e316
          have g324 := sp_sg_or f len.toInt.toNat (sp_sk f len.toInt.toNat at293.toInt.toNat)
          refine w_callS (own := 10) (mi := 58) [.int v313] [] [(0, .int v313)] rfl (cllw_X5 (47, 1, 58) (List.mem_of_getElem? (i := 11) rfl)) rfl rfl (by omega) (w_lo (n := 20) rfl (by omega)) (Nat.le_of_ble_eq_true rfl) (Nat.le_of_ble_eq_true rfl) rfl (tX5_clause_0_ok (53, .invokestatic 47, 3) (List.mem_of_getElem? (i := 29) rfl)) (s_isCompare (fun v325 e326 => ?_))
          show ww l D tys A X fr lo mX5_clause Q 56 [(3, .int v287), (2, .int v33), (0, .ref r), (1, .ref t)] [.int v325] h311
          refine w_if_eq (tgt := 125) (tX5_clause_0_ok (56, .ifCond .eq 69, 3) (List.mem_of_getElem? (i := 30) rfl)) rfl (fun b327 => ?_) (fun b327 => ?_)
          · refine w_aload_n (List.Mem.tail _ (List.Mem.tail _ (List.Mem.head _))) (tX5_clause_1_ok (125, .aload_n 0, 1) (List.mem_of_getElem? (i := 5) rfl)) ?_
            refine w_sipush (by decide) (tX5_clause_1_ok (126, .sipush 10059, 3) (List.mem_of_getElem? (i := 6) rfl)) (fun v328 e329 => ?_)
            refine w_callV (own := 10) (mi := 56) [.int v328] [] [(0, .ref r), (1, .int v328)] rfl (cllw_X5 (55, 0, 56) (List.mem_of_getElem? (i := 12) rfl)) rfl rfl c322 rfl (by omega) (w_lo (n := 21) rfl (by omega)) (Nat.le_of_ble_eq_true rfl) (Nat.le_of_ble_eq_true rfl) rfl (tX5_clause_1_ok (129, .invokevirtual 55, 3) (List.mem_of_getElem? (i := 7) rfl)) (s_emit hT n_r_k ⟨g303, sz304, c322, c323, by omega, by omega, gb309⟩ (by omega) (fun h330 u331 o332 => ?_))
            have c333 := (o332 t ⟨n_t_r, n_t_k⟩).trans c318
            have c334 := (o332 b ⟨n_b_r, n_b_k⟩).trans c319
            obtain ⟨g335, sz336, c337, c338, z339, z340, gb341⟩ := u331
            show ww l D tys A X fr lo mX5_clause Q 132 [(3, .int v287), (2, .int v33), (0, .ref r), (1, .ref t)] [] h330
            refine w_vret rfl (tX5_clause_1_ok (132, .return_, 1) (List.mem_of_getElem? (i := 8) rfl)) ?_
            have kp342 := e30.kp
            have kp343 := e297.kp
            have c8 : sp_go (sp_body2 f len.toInt.toNat N NB NP) at293 fl294 at312 fl294 := sp_go.mk (by omega) (fun f9 => by
              unfold sp_body2
              rw [if_neg (by omega)]
              exact ⟨by omega, by omega⟩)
            have c9 : sp_go (sp_body f len.toInt.toNat N NB NP) at19 fl20 at312 fl294 := sp_go.mk (by omega) (fun f9 => by
              unfold sp_body
              rw [if_neg (by omega)]
              have y9 := (e297.bd c8).is (by omega)
              rw [e35] at y9
              exact y9)
            refine hq h330 at312 fl294 ⟨c333, c334, n_b_t, l1, l2, by omega, by omega⟩ ⟨g335, sz336, c337, c338, by omega, by omega, gb341⟩ ?_ (fun q hq => (o332 q ⟨hq.2.1, hq.2.2⟩).trans ((o317 q hq.1).trans ((o298 q ⟨hq.1, hq.2.1, hq.2.2⟩).trans ((o37 q hq.1).trans ((o23 q hq.1).trans (o8 q hq.1))))))
            exact e15.bd (e30.bd c9)
          · refine w_aload_n (List.Mem.tail _ (List.Mem.tail _ (List.Mem.head _))) (tX5_clause_0_ok (59, .aload_n 0, 1) (List.mem_of_getElem? (i := 31) rfl)) ?_
            refine w_aload_n (List.Mem.tail _ (List.Mem.tail _ (List.Mem.tail _ (List.Mem.head _)))) (tX5_clause_0_ok (60, .aload_n 1, 1) (List.mem_of_getElem? (i := 32) rfl)) ?_
            refine w_iconst (by decide) (tX5_clause_0_ok (61, .iconst 0, 1) (List.mem_of_getElem? (i := 33) rfl)) (fun v344 e345 => ?_)
            refine w_iload_n (List.Mem.head _) (tX5_clause_0_ok (62, .iload_n 3, 1) (List.mem_of_getElem? (i := 34) rfl)) ?_
            refine w_callV (own := 10) (mi := 55) [.ref t, .int v344, .int v287] [] [(0, .ref r), (1, .ref t), (2, .int v344), (3, .int v287)] rfl (cllw_X5 (51, 0, 55) (List.mem_of_getElem? (i := 13) rfl)) rfl rfl c322 rfl (by omega) (w_lo (n := 26) rfl (by omega)) (Nat.le_of_ble_eq_true rfl) (Nat.le_of_ble_eq_true rfl) rfl (tX5_clause_0_ok (63, .invokevirtual 51, 3) (List.mem_of_getElem? (i := 35) rfl)) ((hcondB v344 v287 (by omega) (by omega)) _ _ _ _ _ _ (by omega) (w_sub (n := 26) rfl (by omega)) trivial ⟨c318, c319, n_b_t, l1, l2, by omega, by omega⟩ ⟨g303, sz304, c322, c323, by omega, by omega, gb309⟩ (fun h346 at347 fl348 p349 u350 e351 o352 => ?_))
            obtain ⟨c355, c356, -, -, -, a353, a354⟩ := p349
            obtain ⟨g357, sz358, c359, c360, z361, z362, gb363⟩ := u350
            show ww l D tys A X fr lo mX5_clause Q 66 [(3, .int v287), (2, .int v33), (0, .ref r), (1, .ref t)] [] h346
            refine w_aload_n (List.Mem.tail _ (List.Mem.tail _ (List.Mem.tail _ (List.Mem.head _)))) (tX5_clause_0_ok (66, .aload_n 1, 1) (List.mem_of_getElem? (i := 36) rfl)) ?_
            refine w_bipush (by decide) (tX5_clause_0_ok (67, .bipush 63, 2) (List.mem_of_getElem? (i := 37) rfl)) (fun v364 e365 => ?_)
            refine w_callV (own := 10) (mi := 78) [.int v364] [] [(0, .ref t), (1, .int v364)] rfl (cllw_X5 (39, 0, 78) (List.mem_of_getElem? (i := 2) rfl)) rfl rfl c355 rfl (by omega) (w_lo (n := 21) rfl (by omega)) (Nat.le_of_ble_eq_true rfl) (Nat.le_of_ble_eq_true rfl) rfl (tX5_clause_0_ok (69, .invokevirtual 39, 3) (List.mem_of_getElem? (i := 38) rfl)) (s_takeSign hT (by omega) ⟨by omega, w_sub (n := 21) rfl (by omega)⟩ ⟨c355, c356, n_b_t, l1, l2, by omega, by omega⟩ (fun h366 at367 fl368 p369 e370 o371 => ?_))
            obtain ⟨c372, c373, -, -, -, a374, a375⟩ := p369
            have c376 := (o371 r n_r_t).trans c359
            have c377 := (o371 k n_k_t).trans c360
            show ww l D tys A X fr lo mX5_clause Q 72 [(3, .int v287), (2, .int v33), (0, .ref r), (1, .ref t)] [] h366
            rw [e365] at e370
            have e378 : sp_go (sp_tk f len.toInt.toNat 63) at347 fl348 at367 fl368 := e370.elim (fun q => Or.inl ⟨q.1, q.2.1⟩) Or.inr
            refine w_aload_n (List.Mem.tail _ (List.Mem.tail _ (List.Mem.head _))) (tX5_clause_0_ok (72, .aload_n 0, 1) (List.mem_of_getElem? (i := 39) rfl)) ?_
            refine w_sipush (by decide) (tX5_clause_0_ok (73, .sipush 10063, 3) (List.mem_of_getElem? (i := 40) rfl)) (fun v379 e380 => ?_)
            refine w_callV (own := 10) (mi := 56) [.int v379] [] [(0, .ref r), (1, .int v379)] rfl (cllw_X5 (55, 0, 56) (List.mem_of_getElem? (i := 12) rfl)) rfl rfl c376 rfl (by omega) (w_lo (n := 21) rfl (by omega)) (Nat.le_of_ble_eq_true rfl) (Nat.le_of_ble_eq_true rfl) rfl (tX5_clause_0_ok (76, .invokevirtual 55, 3) (List.mem_of_getElem? (i := 41) rfl)) (s_emit hT n_r_k ⟨g357, sz358, c376, c377, by omega, by omega, gb363⟩ (by omega) (fun h381 u382 o383 => ?_))
            have c384 := (o383 t ⟨n_t_r, n_t_k⟩).trans c372
            have c385 := (o383 b ⟨n_b_r, n_b_k⟩).trans c373
            obtain ⟨g386, sz387, c388, c389, z390, z391, gb392⟩ := u382
            show ww l D tys A X fr lo mX5_clause Q 79 [(3, .int v287), (2, .int v33), (0, .ref r), (1, .ref t)] [] h381
            refine w_aload_n (List.Mem.tail _ (List.Mem.tail _ (List.Mem.head _))) (tX5_clause_0_ok (79, .aload_n 0, 1) (List.mem_of_getElem? (i := 42) rfl)) ?_
            refine w_get (own := 10) rfl rfl (by decide) c388 rfl (tX5_clause_0_ok (80, .getfield 18, 3) (List.mem_of_getElem? (i := 43) rfl)) ?_
            refine w_istore [(4, .int sz387), (3, .int v287), (2, .int v33), (0, .ref r), (1, .ref t)] rfl (Nat.le_of_ble_eq_true rfl) (tX5_clause_0_ok (83, .istore 4, 2) (List.mem_of_getElem? (i := 44) rfl)) ?_
            refine w_aload_n (List.Mem.tail _ (List.Mem.tail _ (List.Mem.tail _ (List.Mem.head _)))) (tX5_clause_0_ok (85, .aload_n 0, 1) (List.mem_of_getElem? (i := 45) rfl)) ?_
            refine w_iconst (by decide) (tX5_clause_0_ok (86, .iconst 0, 1) (List.mem_of_getElem? (i := 46) rfl)) (fun v393 e394 => ?_)
            refine w_callV (own := 10) (mi := 56) [.int v393] [] [(0, .ref r), (1, .int v393)] rfl (cllw_X5 (55, 0, 56) (List.mem_of_getElem? (i := 12) rfl)) rfl rfl c388 rfl (by omega) (w_lo (n := 21) rfl (by omega)) (Nat.le_of_ble_eq_true rfl) (Nat.le_of_ble_eq_true rfl) rfl (tX5_clause_0_ok (87, .invokevirtual 55, 3) (List.mem_of_getElem? (i := 47) rfl)) (s_emit hT n_r_k ⟨g386, sz387, c388, c389, by omega, by omega, gb392⟩ (by omega) (fun h395 u396 o397 => ?_))
            have c398 := (o397 t ⟨n_t_r, n_t_k⟩).trans c384
            have c399 := (o397 b ⟨n_b_r, n_b_k⟩).trans c385
            obtain ⟨g400, sz401, c402, c403, z404, z405, gb406⟩ := u396
            show ww l D tys A X fr lo mX5_clause Q 90 [(4, .int sz387), (3, .int v287), (2, .int v33), (0, .ref r), (1, .ref t)] [] h395
            refine w_aload_n (List.Mem.tail _ (List.Mem.tail _ (List.Mem.tail _ (List.Mem.head _)))) (tX5_clause_0_ok (90, .aload_n 0, 1) (List.mem_of_getElem? (i := 48) rfl)) ?_
            refine w_aload_n (List.Mem.tail _ (List.Mem.tail _ (List.Mem.tail _ (List.Mem.tail _ (List.Mem.head _))))) (tX5_clause_0_ok (91, .aload_n 1, 1) (List.mem_of_getElem? (i := 49) rfl)) ?_
            refine w_iconst (by decide) (tX5_clause_0_ok (92, .iconst 0, 1) (List.mem_of_getElem? (i := 50) rfl)) (fun v407 e408 => ?_)
            refine w_callV (own := 10) (mi := 62) [.ref t, .int v407] [] [(0, .ref r), (1, .ref t), (2, .int v407)] rfl (cllw_X5 (43, 0, 62) (List.mem_of_getElem? (i := 4) rfl)) rfl rfl c402 rfl (by omega) (w_lo (n := 26) rfl (by omega)) (Nat.le_of_ble_eq_true rfl) (Nat.le_of_ble_eq_true rfl) rfl (tX5_clause_0_ok (93, .invokevirtual 43, 3) (List.mem_of_getElem? (i := 51) rfl)) ((hsum v407 (by omega)) _ _ _ _ _ _ (by omega) (w_sub (n := 26) rfl (by omega)) trivial ⟨c398, c399, n_b_t, l1, l2, by omega, by omega⟩ ⟨g400, sz401, c402, c403, by omega, by omega, gb406⟩ (fun h409 at410 fl411 p412 u413 e414 o415 => ?_))
            obtain ⟨c418, c419, -, -, -, a416, a417⟩ := p412
            obtain ⟨g420, sz421, c422, c423, z424, z425, gb426⟩ := u413
            show ww l D tys A X fr lo mX5_clause Q 96 [(4, .int sz387), (3, .int v287), (2, .int v33), (0, .ref r), (1, .ref t)] [] h409
            refine w_aload_n (List.Mem.tail _ (List.Mem.tail _ (List.Mem.tail _ (List.Mem.head _)))) (tX5_clause_0_ok (96, .aload_n 0, 1) (List.mem_of_getElem? (i := 52) rfl)) ?_
            refine w_sipush (by decide) (tX5_clause_0_ok (97, .sipush 10059, 3) (List.mem_of_getElem? (i := 53) rfl)) (fun v427 e428 => ?_)
            refine w_callV (own := 10) (mi := 56) [.int v427] [] [(0, .ref r), (1, .int v427)] rfl (cllw_X5 (55, 0, 56) (List.mem_of_getElem? (i := 12) rfl)) rfl rfl c422 rfl (by omega) (w_lo (n := 21) rfl (by omega)) (Nat.le_of_ble_eq_true rfl) (Nat.le_of_ble_eq_true rfl) rfl (tX5_clause_0_ok (100, .invokevirtual 55, 3) (List.mem_of_getElem? (i := 54) rfl)) (s_emit hT n_r_k ⟨g420, sz421, c422, c423, by omega, by omega, gb426⟩ (by omega) (fun h429 u430 o431 => ?_))
            have c432 := (o431 t ⟨n_t_r, n_t_k⟩).trans c418
            have c433 := (o431 b ⟨n_b_r, n_b_k⟩).trans c419
            obtain ⟨g434, sz435, c436, c437, z438, z439, gb440⟩ := u430
            show ww l D tys A X fr lo mX5_clause Q 103 [(4, .int sz387), (3, .int v287), (2, .int v33), (0, .ref r), (1, .ref t)] [] h429
            refine w_iload (List.Mem.head _) (tX5_clause_0_ok (103, .iload 4, 2) (List.mem_of_getElem? (i := 55) rfl)) ?_
            refine w_sipush (by decide) (tX5_clause_0_ok (105, .sipush 192, 3) (List.mem_of_getElem? (i := 56) rfl)) (fun v441 e442 => ?_)
            refine w_icmp_ge (tgt := 122) (tX5_clause_0_ok (108, .if_icmp .ge 14, 3) (List.mem_of_getElem? (i := 57) rfl)) rfl (fun b443 => ?_) (fun b443 => ?_)
            · refine w_goto (tgt := 132) (tX5_clause_1_ok (122, .goto 10, 3) (List.mem_of_getElem? (i := 4) rfl)) rfl ?_
              refine w_vret rfl (tX5_clause_1_ok (132, .return_, 1) (List.mem_of_getElem? (i := 8) rfl)) ?_
              have kp444 := e30.kp
              have kp445 := e297.kp
              have kp446 := e351.kp
              have kp447 := e378.kp
              have kp448 := e414.kp
              have c8 : sp_go (sp_body2 f len.toInt.toNat N NB NP) at293 fl294 at410 fl411 := sp_go.mk (by omega) (fun f9 => by
                unfold sp_body2
                rw [if_pos (by omega)]
                have y9 := (e351.bd (e378.bd e414)).is (by omega)
                rw [e315] at y9
                exact y9)
              have c9 : sp_go (sp_body f len.toInt.toNat N NB NP) at19 fl20 at410 fl411 := sp_go.mk (by omega) (fun f9 => by
                unfold sp_body
                rw [if_neg (by omega)]
                have y9 := (e297.bd c8).is (by omega)
                rw [e35] at y9
                exact y9)
              refine hq h429 at410 fl411 ⟨c432, c433, n_b_t, l1, l2, by omega, by omega⟩ ⟨g434, sz435, c436, c437, by omega, by omega, gb440⟩ ?_ (fun q hq => (o431 q ⟨hq.2.1, hq.2.2⟩).trans ((o415 q ⟨hq.1, hq.2.1, hq.2.2⟩).trans ((o397 q ⟨hq.2.1, hq.2.2⟩).trans ((o383 q ⟨hq.2.1, hq.2.2⟩).trans ((o371 q hq.1).trans ((o352 q ⟨hq.1, hq.2.1, hq.2.2⟩).trans ((o317 q hq.1).trans ((o298 q ⟨hq.1, hq.2.1, hq.2.2⟩).trans ((o37 q hq.1).trans ((o23 q hq.1).trans (o8 q hq.1)))))))))))
              exact e15.bd (e30.bd c9)
            · refine w_aload_n (List.Mem.tail _ (List.Mem.tail _ (List.Mem.tail _ (List.Mem.head _)))) (tX5_clause_0_ok (111, .aload_n 0, 1) (List.mem_of_getElem? (i := 58) rfl)) ?_
              refine w_get (own := 10) rfl rfl (by decide) c436 rfl (tX5_clause_0_ok (112, .getfield 11, 3) (List.mem_of_getElem? (i := 59) rfl)) ?_
              refine w_iload (List.Mem.head _) (tX5_clause_1_ok (115, .iload 4, 2) (List.mem_of_getElem? (i := 0) rfl)) ?_
              refine w_aload_n (List.Mem.tail _ (List.Mem.tail _ (List.Mem.tail _ (List.Mem.head _)))) (tX5_clause_1_ok (117, .aload_n 0, 1) (List.mem_of_getElem? (i := 1) rfl)) ?_
              refine w_get (own := 10) rfl rfl (by decide) c436 rfl (tX5_clause_1_ok (118, .getfield 18, 3) (List.mem_of_getElem? (i := 2) rfl)) ?_
              refine w_iast hT c437 (by omega) (by omega) (tX5_clause_1_ok (121, .iastore, 1) (List.mem_of_getElem? (i := 3) rfl)) (fun h449 c450 o451 => ?_)
              have c452 := (o451 t n_t_k).trans c432
              have c453 := (o451 b n_b_k).trans c433
              have c454 := (o451 r n_r_k).trans c436
              refine w_goto (tgt := 132) (tX5_clause_1_ok (122, .goto 10, 3) (List.mem_of_getElem? (i := 4) rfl)) rfl ?_
              refine w_vret rfl (tX5_clause_1_ok (132, .return_, 1) (List.mem_of_getElem? (i := 8) rfl)) ?_
              have kp455 := e30.kp
              have kp456 := e297.kp
              have kp457 := e351.kp
              have kp458 := e378.kp
              have kp459 := e414.kp
              have c8 : sp_go (sp_body2 f len.toInt.toNat N NB NP) at293 fl294 at410 fl411 := sp_go.mk (by omega) (fun f9 => by
                unfold sp_body2
                rw [if_pos (by omega)]
                have y9 := (e351.bd (e378.bd e414)).is (by omega)
                rw [e315] at y9
                exact y9)
              have c9 : sp_go (sp_body f len.toInt.toNat N NB NP) at19 fl20 at410 fl411 := sp_go.mk (by omega) (fun f9 => by
                unfold sp_body
                rw [if_neg (by omega)]
                have y9 := (e297.bd c8).is (by omega)
                rw [e35] at y9
                exact y9)
              refine hq h449 at410 fl411 ⟨c452, c453, n_b_t, l1, l2, by omega, by omega⟩ ⟨(upd g434 sz387.toInt.toNat sz435), sz435, c454, c450, by omega, by omega, (ru_upd gb440 (by omega))⟩ ?_ (fun q hq => (o451 q hq.2.2).trans ((o431 q ⟨hq.2.1, hq.2.2⟩).trans ((o415 q ⟨hq.1, hq.2.1, hq.2.2⟩).trans ((o397 q ⟨hq.2.1, hq.2.2⟩).trans ((o383 q ⟨hq.2.1, hq.2.2⟩).trans ((o371 q hq.1).trans ((o352 q ⟨hq.1, hq.2.1, hq.2.2⟩).trans ((o317 q hq.1).trans ((o298 q ⟨hq.1, hq.2.1, hq.2.2⟩).trans ((o37 q hq.1).trans ((o23 q hq.1).trans (o8 q hq.1))))))))))))
              exact e15.bd (e30.bd c9)
def sp_rd (f : Nat → Int32) (len : Nat) (C : Nat → Nat ⊕ Nat) : Nat → Nat → Nat ⊕ Nat
  | 0, n => .inr n
  | j + 1, n => sp_bd (C n) (fun n => if sp_sg f len (sp_sk f len n) = 0 then .inr (sp_sk f len n) else sp_bd (sp_tk f len 59 (sp_sk f len n)) (sp_rd f len C j))
theorem s_readL (hT : k_tys tys cA) (hN : ns t b r k) {CL : Nat → Nat ⊕ Nat} (hcl : PR l D tys A X cA t b f len r k s mX5_clause [(0, .ref r), (1, .ref t)] (fun _ _ => True) CL 36 1040) : ∀ (j : Nat) (fr lo : Nat) (Q : Option Value → ch_H → Prop) (h : ch_H) (at0 fl0 i : Int32), 37 ≤ fr → 1070 ≤ lo → 161 - i.toInt = j → 0 ≤ i.toInt → tp cA h t b f len at0 fl0 → ru cA h r k s →
    (∀ (h1 : ch_H) (at1 fl1 : Int32), tp cA h1 t b f len at1 fl1 → ru cA h1 r k s → sp_go (sp_rd f len.toInt.toNat CL j) at0 fl0 at1 fl1 → (∀ q, q ≠ t ∧ q ≠ r ∧ q ≠ k → h1 q = h q) → Q none h1) → ww l D tys A X fr lo mX5_read Q 11 [(2, .int i), (0, .ref r), (1, .ref t)] [] h := by
  obtain ⟨n_b_t, n_r_t, n_k_t, n_r_b, n_k_b, n_r_k⟩ := hN
  have n_t_b := n_b_t.symm
  have n_t_r := n_r_t.symm
  have n_t_k := n_k_t.symm
  have n_b_r := n_r_b.symm
  have n_b_k := n_k_b.symm
  have n_k_r := n_r_k.symm
  intro j
  induction j using Nat.strongRecOn with
  | ind j ih =>
    intro fr lo Q h at0 fl0 i hf hl hj hi H R hq
    obtain ⟨c_t, c_b, -, l1, l2, a1, a2⟩ := H
    obtain ⟨g, sz, c_r, c_k, z1, z2, gb⟩ := R
    refine w_iload_n (List.Mem.head _) (tX5_read_0_ok (11, .iload_n 2, 1) (List.mem_of_getElem? (i := 7) rfl)) ?_
    refine w_sipush (by decide) (tX5_read_0_ok (12, .sipush 160, 3) (List.mem_of_getElem? (i := 8) rfl)) (fun v1 e2 => ?_)
    refine w_icmp_gt (tgt := 50) (tX5_read_0_ok (15, .if_icmp .gt 35, 3) (List.mem_of_getElem? (i := 9) rfl)) rfl (fun b3 => ?_) (fun b3 => ?_)
    · refine w_vret rfl (tX5_read_0_ok (50, .return_, 1) (List.mem_of_getElem? (i := 25) rfl)) ?_
      refine hq h at0 fl0 ⟨c_t, c_b, n_b_t, l1, l2, by omega, by omega⟩ ⟨g, sz, c_r, c_k, by omega, by omega, gb⟩ ?_ (fun q hq => rfl)
      have a9 : j = 0 := by omega
      rw [a9]
      exact sp_go.mk (fun _ => rfl) (fun f9 => ⟨by omega, by omega⟩)
    · refine w_aload_n (List.Mem.tail _ (List.Mem.head _)) (tX5_read_0_ok (18, .aload_n 0, 1) (List.mem_of_getElem? (i := 10) rfl)) ?_
      refine w_aload_n (List.Mem.tail _ (List.Mem.tail _ (List.Mem.head _))) (tX5_read_0_ok (19, .aload_n 1, 1) (List.mem_of_getElem? (i := 11) rfl)) ?_
      refine w_callV (own := 10) (mi := 54) [.ref t] [] [(0, .ref r), (1, .ref t)] rfl (cllw_X5 (27, 0, 54) (List.mem_of_getElem? (i := 1) rfl)) rfl rfl c_r rfl (by omega) (w_lo (n := 24) rfl (by omega)) (Nat.le_of_ble_eq_true rfl) (Nat.le_of_ble_eq_true rfl) rfl (tX5_read_0_ok (20, .invokevirtual 27, 3) (List.mem_of_getElem? (i := 12) rfl)) (hcl _ _ _ _ _ _ (by omega) (w_sub (n := 24) rfl (by omega)) trivial ⟨c_t, c_b, n_b_t, l1, l2, by omega, by omega⟩ ⟨g, sz, c_r, c_k, by omega, by omega, gb⟩ (fun h4 at5 fl6 p7 u8 e9 o10 => ?_))
      obtain ⟨c13, c14, -, -, -, a11, a12⟩ := p7
      obtain ⟨g15, sz16, c17, c18, z19, z20, gb21⟩ := u8
      show ww l D tys A X fr lo mX5_read Q 23 [(2, .int i), (0, .ref r), (1, .ref t)] [] h4
      refine w_aload_n (List.Mem.tail _ (List.Mem.tail _ (List.Mem.head _))) (tX5_read_0_ok (23, .aload_n 1, 1) (List.mem_of_getElem? (i := 13) rfl)) ?_
      refine w_callV (own := 10) (mi := 74) [] [] [(0, .ref t)] rfl (cllw_X5 (31, 0, 74) (List.mem_of_getElem? (i := 6) rfl)) rfl rfl c13 rfl (by omega) (w_lo (n := 20) rfl (by omega)) (Nat.le_of_ble_eq_true rfl) (Nat.le_of_ble_eq_true rfl) rfl (tX5_read_0_ok (24, .invokevirtual 31, 3) (List.mem_of_getElem? (i := 14) rfl)) (s_isWrong hT ⟨c13, c14, n_b_t, l1, l2, by omega, by omega⟩ (fun v22 e23 => ?_))
      show ww l D tys A X fr lo mX5_read Q 27 [(2, .int i), (0, .ref r), (1, .ref t)] [.int v22] h4
      refine w_if_ne (tgt := 37) (tX5_read_0_ok (27, .ifCond .ne 10, 3) (List.mem_of_getElem? (i := 15) rfl)) rfl (fun b24 => ?_) (fun b24 => ?_)
      · refine w_vret rfl (tX5_read_0_ok (37, .return_, 1) (List.mem_of_getElem? (i := 19) rfl)) ?_
        refine hq h4 at5 fl6 ⟨c13, c14, n_b_t, l1, l2, by omega, by omega⟩ ⟨g15, sz16, c17, c18, by omega, by omega, gb21⟩ ?_ (fun q hq => o10 q ⟨hq.1, hq.2.1, hq.2.2⟩)
        have a9 : j = (j - 1) + 1 := by omega
        have c9 : sp_go (fun n => if sp_sg f len.toInt.toNat (sp_sk f len.toInt.toNat n) = 0 then .inr (sp_sk f len.toInt.toNat n) else sp_bd (sp_tk f len.toInt.toNat 59 (sp_sk f len.toInt.toNat n)) (sp_rd f len.toInt.toNat CL (j - 1))) at5 fl6 at5 fl6 := sp_go.mk (fun _ => rfl) (fun f9 => by omega)
        rw [a9]
        exact e9.bd c9
      · refine w_aload_n (List.Mem.tail _ (List.Mem.tail _ (List.Mem.head _))) (tX5_read_0_ok (30, .aload_n 1, 1) (List.mem_of_getElem? (i := 16) rfl)) ?_
        refine w_callV (own := 10) (mi := 77) [] [] [(0, .ref t)] rfl (cllw_X5 (35, 0, 77) (List.mem_of_getElem? (i := 3) rfl)) rfl rfl c13 rfl (by omega) (w_lo (n := 20) rfl (by omega)) (Nat.le_of_ble_eq_true rfl) (Nat.le_of_ble_eq_true rfl) rfl (tX5_read_0_ok (31, .invokevirtual 35, 3) (List.mem_of_getElem? (i := 17) rfl)) (s_sign hT ⟨c13, c14, n_b_t, l1, l2, by omega, by omega⟩ (fun h25 at26 v27 p28 e29 e30 o31 => ?_))
        obtain ⟨c32, c33, -, -, -, a34, a35⟩ := p28
        have c36 := (o31 r n_r_t).trans c17
        have c37 := (o31 k n_k_t).trans c18
        show ww l D tys A X fr lo mX5_read Q 34 [(2, .int i), (0, .ref r), (1, .ref t)] [.int v27] h25
        rw [e29] at e30
        have g38 := sp_sg_or f len.toInt.toNat (sp_sk f len.toInt.toNat at5.toInt.toNat)
        refine w_if_ne (tgt := 38) (tX5_read_0_ok (34, .ifCond .ne 4, 3) (List.mem_of_getElem? (i := 18) rfl)) rfl (fun b39 => ?_) (fun b39 => ?_)
        · refine w_aload_n (List.Mem.tail _ (List.Mem.tail _ (List.Mem.head _))) (tX5_read_0_ok (38, .aload_n 1, 1) (List.mem_of_getElem? (i := 20) rfl)) ?_
          refine w_bipush (by decide) (tX5_read_0_ok (39, .bipush 59, 2) (List.mem_of_getElem? (i := 21) rfl)) (fun v40 e41 => ?_)
          refine w_callV (own := 10) (mi := 78) [.int v40] [] [(0, .ref t), (1, .int v40)] rfl (cllw_X5 (39, 0, 78) (List.mem_of_getElem? (i := 2) rfl)) rfl rfl c32 rfl (by omega) (w_lo (n := 21) rfl (by omega)) (Nat.le_of_ble_eq_true rfl) (Nat.le_of_ble_eq_true rfl) rfl (tX5_read_0_ok (41, .invokevirtual 39, 3) (List.mem_of_getElem? (i := 22) rfl)) (s_takeSign hT (by omega) ⟨by omega, w_sub (n := 21) rfl (by omega)⟩ ⟨c32, c33, n_b_t, l1, l2, by omega, by omega⟩ (fun h42 at43 fl44 p45 e46 o47 => ?_))
          obtain ⟨c48, c49, -, -, -, a50, a51⟩ := p45
          have c52 := (o47 r n_r_t).trans c36
          have c53 := (o47 k n_k_t).trans c37
          show ww l D tys A X fr lo mX5_read Q 44 [(2, .int i), (0, .ref r), (1, .ref t)] [] h42
          rw [e41] at e46
          have e54 : sp_go (sp_tk f len.toInt.toNat 59) at26 fl6 at43 fl44 := e46.elim (fun q => Or.inl ⟨q.1, q.2.1⟩) Or.inr
          refine w_iinc (fun v55 => [(2, .int v55), (0, .ref r), (1, .ref t)]) (fun _ => rfl) (List.Mem.head _) (Nat.le_of_ble_eq_true rfl) (by decide) (by omega) (by omega) (tX5_read_0_ok (44, .iinc 2 1, 3) (List.mem_of_getElem? (i := 23) rfl)) (fun v55 e56 => ?_)
          refine w_goto (tgt := 11) (tX5_read_0_ok (47, .goto (-36), 3) (List.mem_of_getElem? (i := 24) rfl)) rfl ?_
          have a9 : j = (j - 1) + 1 := by omega
          refine ih (j - 1) (by omega) _ _ _ _ _ _ _ hf hl (by omega) (by omega) ⟨c48, c49, n_b_t, l1, l2, by omega, by omega⟩ ⟨g15, sz16, c52, c53, by omega, by omega, gb21⟩ (fun h1 at1 fl1 p1 p2 p3 p4 => hq h1 at1 fl1 p1 p2 ?_ (fun q hq => (p4 q hq).trans ((o47 q hq.1).trans ((o31 q hq.1).trans (o10 q ⟨hq.1, hq.2.1, hq.2.2⟩)))))
          have c9 : sp_go (fun n => if sp_sg f len.toInt.toNat (sp_sk f len.toInt.toNat n) = 0 then .inr (sp_sk f len.toInt.toNat n) else sp_bd (sp_tk f len.toInt.toNat 59 (sp_sk f len.toInt.toNat n)) (sp_rd f len.toInt.toNat CL (j - 1))) at5 fl6 at1 fl1 := sp_go.mk (by omega) (fun f9 => by
            try dsimp only
            rw [if_neg (by omega)]
            have y9 := (e54.bd p3).is (by omega)
            rw [e29] at y9
            exact y9)
          rw [a9]
          exact e9.bd c9
        · refine w_vret rfl (tX5_read_0_ok (37, .return_, 1) (List.mem_of_getElem? (i := 19) rfl)) ?_
          refine hq h25 at26 fl6 ⟨c32, c33, n_b_t, l1, l2, by omega, by omega⟩ ⟨g15, sz16, c36, c37, by omega, by omega, gb21⟩ ?_ (fun q hq => (o31 q hq.1).trans (o10 q ⟨hq.1, hq.2.1, hq.2.2⟩))
          have a9 : j = (j - 1) + 1 := by omega
          have c9 : sp_go (fun n => if sp_sg f len.toInt.toNat (sp_sk f len.toInt.toNat n) = 0 then .inr (sp_sk f len.toInt.toNat n) else sp_bd (sp_tk f len.toInt.toNat 59 (sp_sk f len.toInt.toNat n)) (sp_rd f len.toInt.toNat CL (j - 1))) at5 fl6 at26 fl6 := sp_go.mk (fun _ => rfl) (fun f9 => by
            try dsimp only
            rw [if_pos (by omega)]
            exact ⟨by omega, by omega⟩)
          rw [a9]
          exact e9.bd c9
theorem s_read0 (hT : k_tys tys cA) (hN : ns t b r k) {CL : Nat → Nat ⊕ Nat} (hcl : PR l D tys A X cA t b f len r k s mX5_clause [(0, .ref r), (1, .ref t)] (fun _ _ => True) CL 36 1040) : ∀ (fr lo : Nat) (Q : Option Value → ch_H → Prop) (h : ch_H) (at0 fl0 : Int32), 37 ≤ fr → 1070 ≤ lo → True → tp0 cA h t b f len at0 fl0 → ru cA h r k s →
    (∀ (h1 : ch_H) (at1 fl1 : Int32), tp cA h1 t b f len at1 fl1 → ru cA h1 r k s → sp_is (sp_rd f len.toInt.toNat CL 161 0) at1 fl1 → (∀ q, q ≠ t ∧ q ≠ r ∧ q ≠ k → h1 q = h q) → Q none h1) → ww l D tys A X fr lo mX5_read Q 0 [(0, .ref r), (1, .ref t)] [] h := by
  have hN0 := hN
  obtain ⟨n_b_t, n_r_t, n_k_t, n_r_b, n_k_b, n_r_k⟩ := hN
  have n_t_b := n_b_t.symm
  have n_t_r := n_r_t.symm
  have n_t_k := n_k_t.symm
  have n_b_r := n_r_b.symm
  have n_b_k := n_k_b.symm
  have n_k_r := n_r_k.symm
  intro fr lo Q h at0 fl0 hf hl hP H R hq
  obtain ⟨c_t, c_b, -, l1, l2⟩ := H
  obtain ⟨g, sz, c_r, c_k, z1, z2, gb⟩ := R
  refine w_aload_n (List.Mem.head _) (tX5_read_0_ok (0, .aload_n 0, 1) (List.mem_of_getElem? (i := 0) rfl)) ?_
  refine w_iconst (by decide) (tX5_read_0_ok (1, .iconst 0, 1) (List.mem_of_getElem? (i := 1) rfl)) (fun v1 e2 => ?_)
  refine w_put (own := 10) [.ref k, .int v1, .ref s] rfl rfl rfl (by decide) rfl ⟨rfl, rfl⟩ c_r (Nat.le_of_ble_eq_true rfl) (tX5_read_0_ok (2, .putfield 18, 3) (List.mem_of_getElem? (i := 2) rfl)) (fun h3 c4 o5 => ?_)
  have c6 := (o5 t n_t_r).trans c_t
  have c7 := (o5 b n_b_r).trans c_b
  have c8 := (o5 k n_k_r).trans c_k
  refine w_aload_n (List.Mem.tail _ (List.Mem.head _)) (tX5_read_0_ok (5, .aload_n 1, 1) (List.mem_of_getElem? (i := 3) rfl)) ?_
  refine w_callV (own := 10) (mi := 76) [] [] [(0, .ref t)] rfl (cllw_X5 (22, 0, 76) (List.mem_of_getElem? (i := 0) rfl)) rfl rfl c6 rfl (by omega) (w_lo (n := 20) rfl (by omega)) (Nat.le_of_ble_eq_true rfl) (Nat.le_of_ble_eq_true rfl) rfl (tX5_read_0_ok (6, .invokevirtual 22, 3) (List.mem_of_getElem? (i := 4) rfl)) (s_open hT ⟨c6, c7, n_b_t, by omega, by omega⟩ (fun h9 at10 fl11 p12 e13 e14 o15 => ?_))
  obtain ⟨c16, c17, -, -, -, a18, a19⟩ := p12
  have c20 := (o15 r n_r_t).trans c4
  have c21 := (o15 k n_k_t).trans c8
  show ww l D tys A X fr lo mX5_read Q 9 [(0, .ref r), (1, .ref t)] [] h9
  refine w_iconst (by decide) (tX5_read_0_ok (9, .iconst 0, 1) (List.mem_of_getElem? (i := 5) rfl)) (fun v22 e23 => ?_)
  refine w_istore_n [(2, .int v22), (0, .ref r), (1, .ref t)] rfl (Nat.le_of_ble_eq_true rfl) (tX5_read_0_ok (10, .istore_n 2, 1) (List.mem_of_getElem? (i := 6) rfl)) ?_
  refine s_readL hT hN0 hcl 161 _ _ _ _ _ _ _ hf hl (by omega) (by omega) ⟨c16, c17, n_b_t, l1, l2, by omega, by omega⟩ ⟨g, v1, c20, c21, by omega, by omega, gb⟩ (fun h1 at1 fl1 p1 p2 p3 p4 => hq h1 at1 fl1 p1 p2 ?_ (fun q hq => (p4 q hq).trans ((o15 q hq.1).trans (o5 q hq.2.1))))
  have y9 := p3.is (by omega)
  have z9 : at10.toInt.toNat = 0 := by omega
  rw [z9] at y9
  exact y9
/-- a RULE's text, from its first byte -/
def sp_rule (f : Nat → Int32) (len : Nat) : Nat ⊕ Nat := sp_rd f len (sp_clause f len (sp_lv f len 6).1 (sp_lv f len 6).2.1 (sp_lv f len 6).2.2) 161 0
theorem s_read (hT : k_tys tys cA) (hN : ns t b r k) {fr lo : Nat} {Q : Option Value → ch_H → Prop} {h : ch_H} {at0 fl0 : Int32} (hf : 37 ≤ fr) (hl : 1070 ≤ lo) (H : tp0 cA h t b f len at0 fl0) (R : ru cA h r k s) (hq : ∀ (h1 : ch_H) (at1 fl1 : Int32), tp cA h1 t b f len at1 fl1 → ru cA h1 r k s → sp_is (sp_rule f len.toInt.toNat) at1 fl1 → (∀ q, q ≠ t ∧ q ≠ r ∧ q ≠ k → h1 q = h q) → Q none h1) : ww l D tys A X fr lo mX5_read Q 0 [(0, .ref r), (1, .ref t)] [] h := by
  have ih := s_levels (l := l) (D := D) (A := A) (X := X) (f := f) (len := len) (s := s) hT hN 6 (by omega)
  have hA := fun (d5 : Int32) (hd : d5.toInt = 0) => s_atom (d := 6) (NB := (sp_lv f len.toInt.toNat 6).2.1) (NP := (sp_lv f len.toInt.toNat 6).2.2) hT hN (depth := d5) (by omega) (by omega) (fun c hc => (ih d5 c (by omega)).1 hc)
  have hS := fun (d5 : Int32) (hd : d5.toInt = 0) => s_sum (d := 6) (NB := (sp_lv f len.toInt.toNat 6).2.1) (NP := (sp_lv f len.toInt.toNat 6).2.2) hT hN (depth := d5) (by omega) (by omega) (hA d5 hd)
  have hU := fun (d5 c : Int32) (hd : d5.toInt = 0) (hc : c.toInt = 0) => s_unit (d := 6) hT hN (depth := d5) (by omega) (by omega) (hS d5 hd) (fun c hc => (ih d5 c (by omega)).2.1 hc) (fun c hc => (ih d5 c (by omega)).2.2 hc) hc
  have hB := fun (d5 c : Int32) (hd : d5.toInt = 0) (hc : c.toInt = 1) => s_unitB (d := 6) hT hN (depth := d5) (by omega) (by omega) (hS d5 hd) (fun c hc => (ih d5 c (by omega)).2.1 hc) (fun c hc => (ih d5 c (by omega)).2.2 hc) hc
  exact s_read0 hT hN (s_clause hT hN hS (fun d5 c hd hc => s_cond (d := 6) hT hN (depth := d5) (by omega) (by omega) (fun c hc => hU d5 c hd hc) hc) (fun d5 c hd hc => s_condB (d := 6) hT hN (depth := d5) (by omega) (by omega) (fun c hc => hU d5 c hd hc) (hB d5 c hd hc))) fr lo Q h at0 fl0 hf hl trivial H R hq
end
