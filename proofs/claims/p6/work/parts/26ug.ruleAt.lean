/-! keep, the class: the RULE of a number -/
section
variable {l : Launch} {D : va_G} {tys : List (ClassId × FieldType)} {A : Nat → Prop} {X : State → Prop} {fr lo : Nat} {M : ch_M} {Q : Option Value → ch_H → Prop} {pc : Nat} {lv : List (Nat × Value)} {st : List Value} {cA : Nat → ClassId} {h : ch_H} {x ra : Nat} {xs : List Value} {fa : Nat → Option Nat} {p rc : Int32}
theorem w_aald4 {a n b : Nat} {f : Nat → Option Nat} {i : Int32} (hT : k_tys tys cA) (ha : h a = some (.inl (cA 4, n, .inr (.inr (.inr (.inr f)))))) (h0 : 0 ≤ i.toInt) (h1 : i.toInt < n) (hb : f i.toInt.toNat = some b) (hd : decode M.2.1 pc = .ok (.aaload, 1)) (kk : ww l D tys A X fr lo M Q (pc + 1) lv (.ref b :: st) h) : ww l D tys A X fr lo M Q pc lv (.int i :: .ref a :: st) h := by
  have e : i.toNatClampNeg = i.toInt.toNat := by have := kn_cl h0; omega
  refine tt_aald ha rfl (hT 4 (by omega)) (kn_in h0 h1) hd ?_
  rw [e, hb]
  exact kk
theorem z_ruleAt (hT : k_tys tys cA) (c_x : h x = some (.inr (9, xs))) (f12 : xs[12]? = some (.ref ra)) (f14 : xs[14]? = some (.int rc)) (c_ra : h ra = some (.inl (cA 4, 4, .inr (.inr (.inr (.inr fa)))))) (hrc : rc.toInt ≤ 4) (hfa : ∀ i : Nat, (i : Int) < rc.toInt → ∃ r, fa i = some r) (hq1 : ∀ r, 0 ≤ p.toInt ∧ p.toInt < rc.toInt → fa p.toInt.toNat = some r → Q (some (.ref r)) h) (hq2 : ¬ (0 ≤ p.toInt ∧ p.toInt < rc.toInt) → Q (some .null) h) : ww l D tys A X fr lo mX10_ruleAt Q 0 [(0, .ref x), (1, .int p)] [] h := by
  refine w_iload_n (List.Mem.tail _ (List.Mem.head _)) (tX10_ruleAt_0_ok (0, .iload_n 1, 1) (List.mem_of_getElem? (i := 0) rfl)) ?_
  refine w_if_lt (tgt := 21) (tX10_ruleAt_0_ok (1, .ifCond .lt 20, 3) (List.mem_of_getElem? (i := 1) rfl)) rfl (fun b1 => ?_) (fun b1 => ?_)
  · refine tt_null (tX10_ruleAt_0_ok (21, .aconst_null, 1) (List.mem_of_getElem? (i := 11) rfl)) ?_
    exact tt_aret rfl (Or.inl ⟨_, rfl⟩) (Or.inl rfl) (hq2 (by omega)) (Nat.le_refl _) (Nat.le_refl _) (tX10_ruleAt_0_ok (22, .areturn, 1) (List.mem_of_getElem? (i := 12) rfl))
  · refine w_iload_n (List.Mem.tail _ (List.Mem.head _)) (tX10_ruleAt_0_ok (4, .iload_n 1, 1) (List.mem_of_getElem? (i := 2) rfl)) ?_
    refine w_aload_n (List.Mem.head _) (tX10_ruleAt_0_ok (5, .aload_n 0, 1) (List.mem_of_getElem? (i := 3) rfl)) ?_
    refine w_get (own := 15) rfl rfl (by decide) c_x f14 (tX10_ruleAt_0_ok (6, .getfield 141, 3) (List.mem_of_getElem? (i := 4) rfl)) ?_
    refine w_icmp_ge (tgt := 21) (tX10_ruleAt_0_ok (9, .if_icmp .ge 12, 3) (List.mem_of_getElem? (i := 5) rfl)) rfl (fun b2 => ?_) (fun b2 => ?_)
    · refine tt_null (tX10_ruleAt_0_ok (21, .aconst_null, 1) (List.mem_of_getElem? (i := 11) rfl)) ?_
      exact tt_aret rfl (Or.inl ⟨_, rfl⟩) (Or.inl rfl) (hq2 (by omega)) (Nat.le_refl _) (Nat.le_refl _) (tX10_ruleAt_0_ok (22, .areturn, 1) (List.mem_of_getElem? (i := 12) rfl))
    · obtain ⟨r, e⟩ := hfa p.toInt.toNat (by omega)
      refine w_aload_n (List.Mem.head _) (tX10_ruleAt_0_ok (12, .aload_n 0, 1) (List.mem_of_getElem? (i := 6) rfl)) ?_
      refine w_get (own := 15) rfl rfl (by decide) c_x f12 (tX10_ruleAt_0_ok (13, .getfield 62, 3) (List.mem_of_getElem? (i := 7) rfl)) ?_
      refine w_iload_n (List.Mem.tail _ (List.Mem.head _)) (tX10_ruleAt_0_ok (16, .iload_n 1, 1) (List.mem_of_getElem? (i := 8) rfl)) ?_
      refine w_aald4 hT c_ra (by omega) (by omega) e (tX10_ruleAt_0_ok (17, .aaload, 1) (List.mem_of_getElem? (i := 9) rfl)) ?_
      refine w_goto (tgt := 22) (tX10_ruleAt_0_ok (18, .goto 4, 3) (List.mem_of_getElem? (i := 10) rfl)) rfl ?_
      exact tt_aret rfl (Or.inl ⟨_, rfl⟩) (Or.inr ⟨_, rfl⟩) (hq1 r (by omega) e) (Nat.le_refl _) (Nat.le_refl _) (tX10_ruleAt_0_ok (22, .areturn, 1) (List.mem_of_getElem? (i := 12) rfl))
end
