/-! the reference: all levels; clauses; a RULE's text gone through -/
section
variable {l : Launch} {D : va_G} {tys : List (ClassId × FieldType)} {A : Nat → Prop} {X : State → Prop} {fr lo : Nat} {Q : Option Value → ch_H → Prop} {cA : Nat → ClassId} {h : ch_H} {m tx n le : Nat} {fs : List Value} {g f : Nat → Int32} {bg en at0 fl0 dp : Int32} {aK aV : Nat → Nat}
theorem r_up (hT : k_tys tys cA) (d : Nat) (h6 : d ≤ 6) (hatom : PM l D tys A X cA m tx n le g f bg en mX11_atom [(0, .ref m)] (6 - (d : Int)) false (fun n9 a9 fl9 => sp_is (sp_atom f en.toInt.toNat (sp_lv f en.toInt.toNat (d)).1 n9) a9 fl9) (3 * (d) + 6) (75 * (d) + 140)) : (PM l D tys A X cA m tx n le g f bg en mX11_sum [(0, .ref m)] (6 - (d : Int)) false (fun n9 a9 fl9 => sp_is (sp_sum f en.toInt.toNat (sp_lv f en.toInt.toNat (d)).1 n9) a9 fl9) (3 * (d) + 8) (75 * (d) + 190)) ∧ (∀ hs1 rd1 : Int32, hs1.toInt = 0 → PM l D tys A X cA m tx n le g f bg en mX11_compares [(0, .ref m), (1, .int hs1), (2, .int rd1)] (6 - (d : Int)) true (fun n9 a9 fl9 => sp_is (sp_bd (sp_sum f en.toInt.toNat (sp_lv f en.toInt.toNat (d)).1 n9) (sp_cm f en.toInt.toNat (sp_lv f en.toInt.toNat (d)).1)) a9 fl9) (3 * (d) + 9) (75 * (d) + 215)) ∧ (∀ hs1 rd1 : Int32, hs1.toInt = 1 → PM l D tys A X cA m tx n le g f bg en mX11_compares [(0, .ref m), (1, .int hs1), (2, .int rd1)] (6 - (d : Int)) true (fun n9 a9 fl9 => sp_is (sp_cm f en.toInt.toNat (sp_lv f en.toInt.toNat (d)).1 n9) a9 fl9) (3 * (d) + 9) (75 * (d) + 215)) := by
  have hNp := sp_lv_pg (f := f) (len := en.toInt.toNat) d
  have hs := r_sum hT hNp.1 (dv := 6 - (d : Int)) (by omega) (r_term hT hNp.1 (by omega) hatom)
  exact ⟨hs, fun _ _ hh => r_cmp0 hT (by omega) hs hh, fun _ _ hh => r_cmp1 hT (by omega) hs hh⟩
theorem r_up2 (hT : k_tys tys cA) (d : Nat) (h6 : d ≤ 6) (hc1 : ∀ hs1 rd1 : Int32, hs1.toInt = 1 → PM l D tys A X cA m tx n le g f bg en mX11_compares [(0, .ref m), (1, .int hs1), (2, .int rd1)] (6 - (d : Int)) true (fun n9 a9 fl9 => sp_is (sp_cm f en.toInt.toNat (sp_lv f en.toInt.toNat (d)).1 n9) a9 fl9) (3 * (d) + 9) (75 * (d) + 215)) (hunit : PM l D tys A X cA m tx n le g f bg en mX11_unit [(0, .ref m)] (6 - (d : Int)) true (fun n9 a9 fl9 => sp_is (sp_unit f en.toInt.toNat (sp_lv f en.toInt.toNat (d)).1 (sp_lv f en.toInt.toNat (d)).2.1 (sp_lv f en.toInt.toNat (d)).2.2 n9) a9 fl9) (3 * (d) + 10) (75 * (d) + 245)) : (∀ hs1 rd1 : Int32, hs1.toInt = 0 → PM l D tys A X cA m tx n le g f bg en mX11_condition [(0, .ref m), (1, .int hs1), (2, .int rd1)] (6 - (d : Int)) true (fun n9 a9 fl9 => sp_is (sp_cond f en.toInt.toNat (sp_lv f en.toInt.toNat (d)).1 (sp_lv f en.toInt.toNat (d)).2.1 (sp_lv f en.toInt.toNat (d)).2.2 n9) a9 fl9) (3 * (d) + 12) (75 * (d) + 295)) ∧ (∀ hs1 rd1 : Int32, hs1.toInt = 1 → PM l D tys A X cA m tx n le g f bg en mX11_condition [(0, .ref m), (1, .int hs1), (2, .int rd1)] (6 - (d : Int)) true (fun n9 a9 fl9 => sp_is (sp_condB f en.toInt.toNat (sp_lv f en.toInt.toNat (d)).1 (sp_lv f en.toInt.toNat (d)).2.1 (sp_lv f en.toInt.toNat (d)).2.2 n9) a9 fl9) (3 * (d) + 12) (75 * (d) + 295)) := by
  have hNp := sp_lv_pg (f := f) (len := en.toInt.toNat) d
  have hp0 := fun hs1 rd1 hh => r_part0 hT hNp (dv := 6 - (d : Int)) (by omega) hunit (hs1 := hs1) (rd1 := rd1) hh
  have hp1 := fun hs1 rd1 hh => r_part1 hT hNp (dv := 6 - (d : Int)) (by omega) hunit hc1 (hs1 := hs1) (rd1 := rd1) hh
  exact ⟨fun _ _ hh => r_cond0 hT hNp (by omega) hp0 hh, fun _ _ hh => r_cond1 hT hNp (by omega) hp0 hp1 hh⟩
theorem r_levels (hT : k_tys tys cA) (hX : ∀ s, X s → xs A aK aV s) : ∀ d : Nat, d ≤ 6 → (PM l D tys A X cA m tx n le g f bg en mX11_sum [(0, .ref m)] (6 - (d : Int)) false (fun n9 a9 fl9 => sp_is (sp_sum f en.toInt.toNat (sp_lv f en.toInt.toNat (d)).1 n9) a9 fl9) (3 * (d) + 8) (75 * (d) + 190)) ∧ (∀ hs1 rd1 : Int32, hs1.toInt = 0 → PM l D tys A X cA m tx n le g f bg en mX11_compares [(0, .ref m), (1, .int hs1), (2, .int rd1)] (6 - (d : Int)) true (fun n9 a9 fl9 => sp_is (sp_bd (sp_sum f en.toInt.toNat (sp_lv f en.toInt.toNat (d)).1 n9) (sp_cm f en.toInt.toNat (sp_lv f en.toInt.toNat (d)).1)) a9 fl9) (3 * (d) + 9) (75 * (d) + 215)) ∧ (PM l D tys A X cA m tx n le g f bg en mX11_unit [(0, .ref m)] (6 - (d : Int)) true (fun n9 a9 fl9 => sp_is (sp_unit f en.toInt.toNat (sp_lv f en.toInt.toNat (d)).1 (sp_lv f en.toInt.toNat (d)).2.1 (sp_lv f en.toInt.toNat (d)).2.2 n9) a9 fl9) (3 * (d) + 10) (75 * (d) + 245)) ∧ (∀ hs1 rd1 : Int32, hs1.toInt = 0 → PM l D tys A X cA m tx n le g f bg en mX11_condition [(0, .ref m), (1, .int hs1), (2, .int rd1)] (6 - (d : Int)) true (fun n9 a9 fl9 => sp_is (sp_cond f en.toInt.toNat (sp_lv f en.toInt.toNat (d)).1 (sp_lv f en.toInt.toNat (d)).2.1 (sp_lv f en.toInt.toNat (d)).2.2 n9) a9 fl9) (3 * (d) + 12) (75 * (d) + 295)) ∧ (∀ hs1 rd1 : Int32, hs1.toInt = 1 → PM l D tys A X cA m tx n le g f bg en mX11_condition [(0, .ref m), (1, .int hs1), (2, .int rd1)] (6 - (d : Int)) true (fun n9 a9 fl9 => sp_is (sp_condB f en.toInt.toNat (sp_lv f en.toInt.toNat (d)).1 (sp_lv f en.toInt.toNat (d)).2.1 (sp_lv f en.toInt.toNat (d)).2.2 n9) a9 fl9) (3 * (d) + 12) (75 * (d) + 295))
  | 0, _ => by
    obtain ⟨h1, h2, h3⟩ := r_up (n := n) (le := le) (g := g) (bg := bg) hT 0 (by decide) (r_atom0 hT hX)
    have hu := r_unit0 hT h2
    obtain ⟨h4, h5⟩ := r_up2 hT 0 (by decide) h3 hu
    exact ⟨h1, h2, hu, h4, h5⟩
  | d + 1, h6 => by
    obtain ⟨g1, g2, g3, g4, g5⟩ := r_levels hT hX d (by omega)
    have e1 : (6 : Int) - ((d + 1 : Nat) : Int) = 5 - (d : Int) := by omega
    have e2 : 3 * (d + 1) + 6 = 3 * d + 9 := by omega
    have e3 : 75 * (d + 1) + 140 = 75 * d + 215 := by omega
    have e4 : 3 * (d + 1) + 10 = 3 * d + 13 := by omega
    have e5 : 75 * (d + 1) + 245 = 75 * d + 320 := by omega
    have e6 : 3 * (d + 1) + 9 = 3 * d + 12 := by omega
    have e7 : 75 * (d + 1) + 215 = 75 * d + 290 := by omega
    obtain ⟨h1, h2, h3⟩ := r_up (n := n) (le := le) (g := g) (bg := bg) hT (d + 1) h6 (by rw [e1, e2, e3]; exact r_atomS hT hX (by omega) g1)
    have hu : PM l D tys A X cA m tx n le g f bg en mX11_unit [(0, .ref m)] (6 - (((d + 1 : Nat)) : Int)) true (fun n9 a9 fl9 => sp_is (sp_unit f en.toInt.toNat (sp_lv f en.toInt.toNat (d + 1)).1 (sp_lv f en.toInt.toNat (d + 1)).2.1 (sp_lv f en.toInt.toNat (d + 1)).2.2 n9) a9 fl9) (3 * (d + 1) + 10) (75 * (d + 1) + 245) := by
      rw [e1, e4, e5]
      refine r_unitS hT (by omega) ?_ g3 g4
      intro hs1 rd1 hh
      have := h2 hs1 rd1 hh
      rw [e1, e6, e7] at this
      exact this
    obtain ⟨h4, h5⟩ := r_up2 hT (d + 1) h6 h3 hu
    exact ⟨h1, h2, hu, h4, h5⟩
end
section
variable {f : Nat → Int32} {len : Nat} {N NB NP : Nat → Nat ⊕ Nat}
theorem sp_then_pg (hN : sp_pg N) : sp_pg (sp_then f len N) := sp_pg_bd sp_tk_lt (fun n q e => Nat.le_of_lt (sp_sum_pg hN n q e))
theorem sp_condB_pg (hN : sp_pg N) (hB : sp_pg NB) (hP : sp_pg NP) : sp_pg (sp_condB f len N NB NP) := sp_pg_bd (sp_cm_pg hN) (fun n q e => sp_loop_le (sp_unit_pg hN hB hP) _ n q e)
theorem sp_body2_le (hN : sp_pg N) (hB : sp_pg NB) (hP : sp_pg NP) : ∀ n q, sp_body2 f len N NB NP n = .inr q → n ≤ q := by
  intro n q e
  have h4 := sp_sk_le f len n
  unfold sp_body2 at e
  split at e
  · have := sp_pg_bd (sp_condB_pg hN hB hP) (fun n q e => Nat.le_of_lt (sp_then_pg (f := f) (len := len) hN n q e)) _ _ e
    omega
  · injection e with e
    omega
theorem sp_body_le (hN : sp_pg N) (hB : sp_pg NB) (hP : sp_pg NP) : ∀ n q, sp_body f len N NB NP n = .inr q → n ≤ q := by
  intro n q e
  have h4 := sp_sk_le f len n
  unfold sp_body at e
  split at e
  · have := sp_pg_bd (sp_cond_pg hN hB hP) (fun n q e => Nat.le_of_lt (sp_then_pg (f := f) (len := len) hN n q e)) _ _ e
    omega
  · have := sp_pg_bd (sp_sum_pg hN) (sp_body2_le (f := f) (len := len) hN hB hP) _ _ e
    omega
theorem sp_clause_pg (hN : sp_pg N) (hB : sp_pg NB) (hP : sp_pg NP) : sp_pg (sp_clause f len N NB NP) := sp_pg_bd sp_tk_lt (fun n q e => Nat.le_of_lt (sp_pg_bd sp_tk_lt (sp_body_le hN hB hP) n q e))
/-- behind a clause -/
def sp_rs (f : Nat → Int32) (len : Nat) (R : Nat → Nat ⊕ Nat) (n : Nat) : Nat ⊕ Nat := if sp_sg f len (sp_sk f len n) = 0 then .inr (sp_sk f len n) else sp_bd (sp_tk f len 59 (sp_sk f len n)) R
theorem sp_rd_fu {C : Nat → Nat ⊕ Nat} (hC : sp_pg C) : ∀ (j k n : Nat), n ≤ len → len < n + 2 * j → len < n + 2 * k → sp_rd f len C j n = sp_rd f len C k n := by
  intro j
  induction j with
  | zero => intro k n h0 h1; omega
  | succ j ih =>
    intro k n h0 h1 h2
    cases k with
    | zero => omega
    | succ k =>
      rw [sp_rd, sp_rd]
      cases e : C n with
      | inl z => rfl
      | inr q =>
        have h3 := hC _ _ e
        have h4 := sp_sk_le f len q
        show (if sp_sg f len (sp_sk f len q) = 0 then Sum.inr (sp_sk f len q) else sp_bd (sp_tk f len 59 (sp_sk f len q)) (sp_rd f len C j)) = (if sp_sg f len (sp_sk f len q) = 0 then Sum.inr (sp_sk f len q) else sp_bd (sp_tk f len 59 (sp_sk f len q)) (sp_rd f len C k))
        split
        · rfl
        · next h5 =>
          have h6 := sp_sg_or f len (sp_sk f len q)
          unfold sp_tk
          rw [sp_sk_sk]
          split
          · exact ih k (sp_sk f len q + 1) (by omega) (by omega) (by omega)
          · rfl
theorem sp_rd_un {C : Nat → Nat ⊕ Nat} (hC : sp_pg C) (hl : len ≤ 160) (n : Nat) (hn : n ≤ len) : sp_rd f len C 161 n = sp_bd (C n) (sp_rs f len (sp_rd f len C 161)) := by
  rw [show (161 : Nat) = 160 + 1 from rfl, sp_rd]
  cases e : C n with
  | inl z => show (Sum.inl z : Nat ⊕ Nat) = Sum.inl z; rfl
  | inr q =>
    have h3 := hC _ _ e
    have h4 := sp_sk_le f len q
    show (if sp_sg f len (sp_sk f len q) = 0 then Sum.inr (sp_sk f len q) else sp_bd (sp_tk f len 59 (sp_sk f len q)) (sp_rd f len C 160)) = sp_rs f len (sp_rd f len C 161) q
    unfold sp_rs
    split
    · rfl
    · next h5 =>
      have h6 := sp_sg_or f len (sp_sk f len q)
      unfold sp_tk
      rw [sp_sk_sk]
      split
      · exact sp_rd_fu hC 160 161 (sp_sk f len q + 1) (by omega) (by omega) (by omega)
      · show (Sum.inl (sp_sk f len q) : Nat ⊕ Nat) = Sum.inl (sp_sk f len q)
        rfl
end
theorem r_tki {a0 f0 f1 : Int32} {Y : Nat ⊕ Nat} {Z W : Prop} (e : ¬ f0.toInt = -1 ∧ f1.toInt = f0.toInt ∧ Z ∨ f0.toInt = -1 ∧ sp_is Y a0 f1 ∧ W) (h : f0.toInt = -1) : sp_is Y a0 f1 := by
  rcases e with ⟨e1, -, -⟩ | ⟨-, e2, -⟩
  · exact absurd h e1
  · exact e2
theorem r_thn {a0 f0 a1 f1 a2 f2 : Int32} {f : Nat → Int32} {len : Nat} {N : Nat → Nat ⊕ Nat} {Z W : Prop} (e : ¬ f0.toInt = -1 ∧ f1.toInt = f0.toInt ∧ Z ∨ f0.toInt = -1 ∧ sp_is (sp_tk f len 63 a0.toInt.toNat) a1 f1 ∧ W) (h : ¬ f1.toInt = -1 ∧ f2.toInt = f1.toInt ∨ f1.toInt = -1 ∧ sp_is (sp_sum f len N a1.toInt.toNat) a2 f2) : ¬ f0.toInt = -1 ∧ f2.toInt = f0.toInt ∨ f0.toInt = -1 ∧ sp_is (sp_then f len N a0.toInt.toNat) a2 f2 := by
  rcases e with ⟨e1, e2, -⟩ | ⟨e1, e2, -⟩
  · rcases h with ⟨h1, h2⟩ | ⟨h1, -⟩
    · exact Or.inl ⟨e1, by omega⟩
    · omega
  · exact Or.inr ⟨e1, sp_is.bd e2 h⟩
section
variable {l : Launch} {D : va_G} {tys : List (ClassId × FieldType)} {A : Nat → Prop} {X : State → Prop} {fr lo : Nat} {Q : Option Value → ch_H → Prop} {cA : Nat → ClassId} {h : ch_H} {m tx n le : Nat} {fs : List Value} {g f : Nat → Int32} {bg en at0 fl0 dp : Int32} {aK aV : Nat → Nat}
/-- the reference, and what it found -/
def rk (cA : Nat → ClassId) (h : ch_H) (m : Nat) (fs : List Value) (tx n le : Nat) (g f : Nat → Int32) (bg en at0 fl0 dp : Int32) : Prop := rl cA h m fs tx n le g f bg en at0 fl0 dp ∧ (∃ x : Int32, fs[13]? = some (.int x)) ∧ (∃ x : Int32, fs[14]? = some (.int x)) ∧ ∃ x : Int32, fs[18]? = some (.int x) ∧ 0 ≤ x.toInt ∧ x.toInt ≤ 1
theorem r_clE {ow1 is2 nu3 : Int32} (hf : 1 ≤ fr) (hlo : 30 ≤ lo) (H : rk cA h m fs tx n le g f bg en at0 fl0 dp) (hq : ∀ (h1 : ch_H) (fs1 : List Value), rk cA h1 m fs1 tx n le g f bg en at0 fl0 dp → (∀ j, j ≠ 10 ∧ j ≠ 11 ∧ j ≠ 12 ∧ j ≠ 14 ∧ j ≠ 18 → fs1[j]? = fs[j]?) → (∀ q, q ≠ m → h1 q = h q) → Q none h1) : ww l D tys A X fr lo mX11_clause Q 134 [(3, .int nu3), (2, .int is2), (1, .int ow1), (0, .ref m)] [] h := by
  obtain ⟨H, ⟨lb, fL13⟩, ⟨fo, fL14⟩, hf1, fL18, hf2, hf3⟩ := H
  have hr1 : 1 ≤ fr := by omega
  have hr2 : 30 ≤ lo := by omega
  obtain ⟨⟨⟨c_m, fl, f5, f8, f9, f10, f11⟩, f12, n_tx_m, c_x, hs, hb, ha⟩, f4, n_le_m, gl, c_le⟩ := H
  refine w_aload_n (List.Mem.tail _ (List.Mem.tail _ (List.Mem.tail _ (List.Mem.head _)))) (tX11_clause_1_ok (134, .aload_n 0, 1) (List.mem_of_getElem? (i := 13) rfl)) ?_
  refine w_get (own := 16) rfl rfl (by decide) c_m f11 (tX11_clause_1_ok (135, .getfield 118, 3) (List.mem_of_getElem? (i := 14) rfl)) ?_
  refine w_iconst (by decide) (tX11_clause_1_ok (138, .iconst (-1), 1) (List.mem_of_getElem? (i := 15) rfl)) (fun v1 e2 => ?_)
  refine w_icmp_ne (tgt := 161) (tX11_clause_1_ok (139, .if_icmp .ne 22, 3) (List.mem_of_getElem? (i := 16) rfl)) rfl (fun b3 => ?_) (fun b3 => ?_)
  · refine w_vret rfl (tX11_clause_1_ok (161, .return_, 1) (List.mem_of_getElem? (i := 26) rfl)) ?_
    exact hq h fs ⟨⟨⟨⟨c_m, fl, f5, f8, f9, f10, f11⟩, f12, n_tx_m, c_x, hs, hb, ha.1, ha.2⟩, f4, n_le_m, _, c_le⟩, ⟨_, fL13⟩, ⟨_, fL14⟩, _, fL18, by omega, by omega⟩ (fun j hj => rfl) (fun q hq => rfl)
  · refine w_aload_n (List.Mem.tail _ (List.Mem.tail _ (List.Mem.tail _ (List.Mem.head _)))) (tX11_clause_1_ok (142, .aload_n 0, 1) (List.mem_of_getElem? (i := 17) rfl)) ?_
    refine w_get (own := 16) rfl rfl (by decide) c_m fL18 (tX11_clause_1_ok (143, .getfield 187, 3) (List.mem_of_getElem? (i := 18) rfl)) ?_
    refine w_if_ne (tgt := 161) (tX11_clause_1_ok (146, .ifCond .ne 15, 3) (List.mem_of_getElem? (i := 19) rfl)) rfl (fun b4 => ?_) (fun b4 => ?_)
    · refine w_vret rfl (tX11_clause_1_ok (161, .return_, 1) (List.mem_of_getElem? (i := 26) rfl)) ?_
      exact hq h fs ⟨⟨⟨⟨c_m, fl, f5, f8, f9, f10, f11⟩, f12, n_tx_m, c_x, hs, hb, ha.1, ha.2⟩, f4, n_le_m, _, c_le⟩, ⟨_, fL13⟩, ⟨_, fL14⟩, _, fL18, by omega, by omega⟩ (fun j hj => rfl) (fun q hq => rfl)
    · refine w_iload_n (List.Mem.tail _ (List.Mem.tail _ (List.Mem.head _))) (tX11_clause_1_ok (149, .iload_n 1, 1) (List.mem_of_getElem? (i := 20) rfl)) ?_
      refine w_aload_n (List.Mem.tail _ (List.Mem.tail _ (List.Mem.tail _ (List.Mem.head _)))) (tX11_clause_1_ok (150, .aload_n 0, 1) (List.mem_of_getElem? (i := 21) rfl)) ?_
      refine w_get (own := 16) rfl rfl (by decide) c_m fL13 (tX11_clause_1_ok (151, .getfield 191, 3) (List.mem_of_getElem? (i := 22) rfl)) ?_
      refine w_icmp_ne (tgt := 161) (tX11_clause_1_ok (154, .if_icmp .ne 7, 3) (List.mem_of_getElem? (i := 23) rfl)) rfl (fun b5 => ?_) (fun b5 => ?_)
      · refine w_vret rfl (tX11_clause_1_ok (161, .return_, 1) (List.mem_of_getElem? (i := 26) rfl)) ?_
        exact hq h fs ⟨⟨⟨⟨c_m, fl, f5, f8, f9, f10, f11⟩, f12, n_tx_m, c_x, hs, hb, ha.1, ha.2⟩, f4, n_le_m, _, c_le⟩, ⟨_, fL13⟩, ⟨_, fL14⟩, _, fL18, by omega, by omega⟩ (fun j hj => rfl) (fun q hq => rfl)
      · refine w_iload_n (List.Mem.tail _ (List.Mem.head _)) (tX11_clause_1_ok (157, .iload_n 2, 1) (List.mem_of_getElem? (i := 24) rfl)) ?_
        refine w_if_ne (tgt := 162) (tX11_clause_1_ok (158, .ifCond .ne 4, 3) (List.mem_of_getElem? (i := 25) rfl)) rfl (fun b6 => ?_) (fun b6 => ?_)
        · refine w_aload_n (List.Mem.tail _ (List.Mem.tail _ (List.Mem.tail _ (List.Mem.head _)))) (tX11_clause_1_ok (162, .aload_n 0, 1) (List.mem_of_getElem? (i := 27) rfl)) ?_
          refine w_iconst (by decide) (tX11_clause_1_ok (163, .iconst 1, 1) (List.mem_of_getElem? (i := 28) rfl)) (fun v7 e8 => ?_)
          refine w_putF (own := 16) (ci := 10) (k := 18) rfl rfl (by decide) rfl ⟨(kn_nz (by omega) (by omega)).1, (kn_nz (by omega) (by omega)).2.1⟩ c_m (by rw [fl]; decide) (tX11_clause_1_ok (164, .putfield 187, 3) (List.mem_of_getElem? (i := 29) rfl)) (fun h9 fs12 l13 k14 j15 c10 o11 => ?_)
          rw [fl] at l13
          have f16 := (j15 4 (by decide)).trans f4
          have f17 := (j15 5 (by decide)).trans f5
          have f18 := (j15 8 (by decide)).trans f8
          have f19 := (j15 9 (by decide)).trans f9
          have f20 := (j15 10 (by decide)).trans f10
          have f21 := (j15 11 (by decide)).trans f11
          have f22 := (j15 12 (by decide)).trans f12
          have f23 := (j15 13 (by decide)).trans fL13
          have f24 := (j15 14 (by decide)).trans fL14
          have c25 := (o11 tx n_tx_m).trans c_x
          have c26 := (o11 le n_le_m).trans c_le
          refine w_aload_n (List.Mem.tail _ (List.Mem.tail _ (List.Mem.tail _ (List.Mem.head _)))) (tX11_clause_1_ok (167, .aload_n 0, 1) (List.mem_of_getElem? (i := 30) rfl)) ?_
          refine w_iload_n (List.Mem.head _) (tX11_clause_1_ok (168, .iload_n 3, 1) (List.mem_of_getElem? (i := 31) rfl)) ?_
          refine w_putF (own := 16) (ci := 10) (k := 14) rfl rfl (by decide) rfl ⟨rfl, rfl⟩ c10 (by rw [l13]; decide) (tX11_clause_1_ok (169, .putfield 194, 3) (List.mem_of_getElem? (i := 32) rfl)) (fun h27 fs30 l31 k32 j33 c28 o29 => ?_)
          rw [l13] at l31
          have f34 := (j33 4 (by decide)).trans f16
          have f35 := (j33 5 (by decide)).trans f17
          have f36 := (j33 8 (by decide)).trans f18
          have f37 := (j33 9 (by decide)).trans f19
          have f38 := (j33 10 (by decide)).trans f20
          have f39 := (j33 11 (by decide)).trans f21
          have f40 := (j33 12 (by decide)).trans f22
          have f41 := (j33 13 (by decide)).trans f23
          have f42 := (j33 18 (by decide)).trans k14
          have c43 := (o29 tx n_tx_m).trans c25
          have c44 := (o29 le n_le_m).trans c26
          refine w_vret rfl (tX11_clause_1_ok (172, .return_, 1) (List.mem_of_getElem? (i := 33) rfl)) ?_
          exact hq h27 fs30 ⟨⟨⟨⟨c28, l31, f35, f36, f37, f38, f39⟩, f40, n_tx_m, c43, hs, hb, ha.1, ha.2⟩, f34, n_le_m, _, c44⟩, ⟨_, f41⟩, ⟨_, k32⟩, _, f42, by omega, by omega⟩ (fun j hj => (j33 j hj.2.2.2.1).trans (j15 j hj.2.2.2.2)) (fun q hq => (o29 q hq).trans (o11 q hq))
        · refine w_vret rfl (tX11_clause_1_ok (161, .return_, 1) (List.mem_of_getElem? (i := 26) rfl)) ?_
          exact hq h fs ⟨⟨⟨⟨c_m, fl, f5, f8, f9, f10, f11⟩, f12, n_tx_m, c_x, hs, hb, ha.1, ha.2⟩, f4, n_le_m, _, c_le⟩, ⟨_, fL13⟩, ⟨_, fL14⟩, _, fL18, by omega, by omega⟩ (fun j hj => rfl) (fun q hq => rfl)
theorem r_clB (hT : k_tys tys cA) (hX : ∀ s, X s → xs A aK aV s) {ow1 : Int32} (hf : 31 ≤ fr) (hlo : 800 ≤ lo) (hfl : fl0.toInt = -1) (hdp : dp.toInt = 0) (H : rk cA h m fs tx n le g f bg en at0 fl0 dp) (hq : (∀ (h1 : ch_H) (fs1 : List Value) (at1 fl1 dp1 : Int32), rk cA h1 m fs1 tx n le g f bg en at1 fl1 dp1 → sp_is (sp_body f en.toInt.toNat (sp_lv f en.toInt.toNat (6)).1 (sp_lv f en.toInt.toNat (6)).2.1 (sp_lv f en.toInt.toNat (6)).2.2 at0.toInt.toNat) at1 fl1 → 0 ≤ dp1.toInt ∧ dp1.toInt ≤ 6 ∧ (fl1.toInt = -1 → dp1.toInt = 0) → (∀ j, j ≠ 10 ∧ j ≠ 11 ∧ j ≠ 12 ∧ j ≠ 14 ∧ j ≠ 18 → fs1[j]? = fs[j]?) → (∀ q, q ≠ m → h1 q = h q) → Q none h1)) : ww l D tys A X fr lo mX11_clause Q 40 [(1, .int ow1), (0, .ref m)] [] h := by
  have hl := r_levels (l := l) (D := D) (m := m) (tx := tx) (n := n) (le := le) (g := g) (f := f) (bg := bg) (en := en) hT hX 6 (by decide)
  obtain ⟨H, ⟨lb, fL13⟩, ⟨fo, fL14⟩, hf1, fL18, hf2, hf3⟩ := H
  have hr1 : 1 ≤ fr := by omega
  have hr2 : 30 ≤ lo := by omega
  obtain ⟨⟨⟨c_m, fl, f5, f8, f9, f10, f11⟩, f12, n_tx_m, c_x, hs, hb, ha⟩, f4, n_le_m, gl, c_le⟩ := H
  refine w_iconst (by decide) (tX11_clause_0_ok (40, .iconst 1, 1) (List.mem_of_getElem? (i := 22) rfl)) (fun v1 e2 => ?_)
  refine w_istore_n [(2, .int v1), (1, .int ow1), (0, .ref m)] rfl (Nat.le_of_ble_eq_true rfl) (tX11_clause_0_ok (41, .istore_n 2, 1) (List.mem_of_getElem? (i := 23) rfl)) ?_
  refine w_iconst (by decide) (tX11_clause_0_ok (42, .iconst 0, 1) (List.mem_of_getElem? (i := 24) rfl)) (fun v3 e4 => ?_)
  refine w_istore_n [(3, .int v3), (2, .int v1), (1, .int ow1), (0, .ref m)] rfl (Nat.le_of_ble_eq_true rfl) (tX11_clause_0_ok (43, .istore_n 3, 1) (List.mem_of_getElem? (i := 25) rfl)) ?_
  refine w_aload_n (List.Mem.tail _ (List.Mem.tail _ (List.Mem.tail _ (List.Mem.head _)))) (tX11_clause_0_ok (44, .aload_n 0, 1) (List.mem_of_getElem? (i := 26) rfl)) ?_
  refine w_callV (own := 16) (mi := 212) [] [] [(0, .ref m)] rfl (cllw_X11 (128, 0, 212) (List.mem_of_getElem? (i := 7) rfl)) rfl rfl c_m rfl hr1 (w_lo (n := 20) rfl (Nat.le_trans (Nat.le_of_ble_eq_true rfl) hr2)) (Nat.le_of_ble_eq_true rfl) (Nat.le_of_ble_eq_true rfl) rfl (tX11_clause_0_ok (45, .invokevirtual 128, 3) (List.mem_of_getElem? (i := 27) rfl)) (r_look hT ⟨⟨c_m, fl, f5, f8, f9, f10, f11⟩, f12, n_tx_m, c_x, hs, hb, ha.1, ha.2⟩ (fun h5 fs6 at7 v8 p9 e10 e11 k12 o13 => ?_))
  obtain ⟨⟨c14, l15, f16, f17, f18, f19, f20⟩, f21, -, c22, -, -, a23, a24⟩ := p9
  have f25 := (k12 4 (by decide)).trans f4
  have f26 := (k12 13 (by decide)).trans fL13
  have f27 := (k12 14 (by decide)).trans fL14
  have f28 := (k12 18 (by decide)).trans fL18
  have c29 := (o13 le n_le_m).trans c_le
  show ww l D tys A X fr lo mX11_clause Q 48 [(3, .int v3), (2, .int v1), (1, .int ow1), (0, .ref m)] [.int v8] h5
  refine w_istore [(4, .int v8), (3, .int v3), (2, .int v1), (1, .int ow1), (0, .ref m)] rfl (Nat.le_of_ble_eq_true rfl) (tX11_clause_0_ok (48, .istore 4, 2) (List.mem_of_getElem? (i := 28) rfl)) ?_
  refine w_iload (List.Mem.head _) (tX11_clause_0_ok (50, .iload 4, 2) (List.mem_of_getElem? (i := 29) rfl)) ?_
  refine w_bipush (by decide) (tX11_clause_0_ok (52, .bipush 33, 2) (List.mem_of_getElem? (i := 30) rfl)) (fun v30 e31 => ?_)
  refine w_icmp_eq (tgt := 64) (tX11_clause_0_ok (54, .if_icmp .eq 10, 3) (List.mem_of_getElem? (i := 31) rfl)) rfl (fun b32 => ?_) (fun b32 => ?_)
  · have g33 : sp_sg f en.toInt.toNat (sp_sk f en.toInt.toNat at0.toInt.toNat) = 33 ∧ at7.toInt < en.toInt ∧ v8.toInt = 33 := by omega
    clear e11 b32
    refine w_aload_n (List.Mem.tail _ (List.Mem.tail _ (List.Mem.tail _ (List.Mem.tail _ (List.Mem.head _))))) (tX11_clause_0_ok (64, .aload_n 0, 1) (List.mem_of_getElem? (i := 35) rfl)) ?_
    refine w_iconst (by decide) (tX11_clause_0_ok (65, .iconst 0, 1) (List.mem_of_getElem? (i := 36) rfl)) (fun v34 e35 => ?_)
    refine w_iconst (by decide) (tX11_clause_0_ok (66, .iconst 0, 1) (List.mem_of_getElem? (i := 37) rfl)) (fun v36 e37 => ?_)
    refine w_callV (own := 16) (mi := 171) [.int v34, .int v36] [] [(0, .ref m), (1, .int v34), (2, .int v36)] rfl (cllw_X11 (177, 0, 171) (List.mem_of_getElem? (i := 22) rfl)) rfl rfl c14 rfl hr1 (w_lo (n := 24) rfl (Nat.le_trans (Nat.le_of_ble_eq_true rfl) hr2)) (Nat.le_of_ble_eq_true rfl) (Nat.le_of_ble_eq_true rfl) rfl (tX11_clause_0_ok (67, .invokevirtual 177, 3) (List.mem_of_getElem? (i := 38) rfl)) ((hl.2.2.2.1 _ _ (by omega)) _ _ _ _ _ _ _ _ (by omega) (w_sub (n := 24) rfl (by omega)) (by omega) (by omega) ⟨⟨⟨c14, l15, f16, f17, f18, f19, f20⟩, f21, n_tx_m, c22, hs, hb, a23, a24⟩, f25, n_le_m, _, c29⟩ (fun h38 fs39 at40 fl41 dp42 v43 p44 e45 e46 e47 k48 o49 => ?_))
    dsimp only at e45
    have e47b := e47 rfl
    have p50 := p44.1
    obtain ⟨⟨c51, l52, f53, f54, f55, f56, f57⟩, f58, -, c59, -, -, a60, a61⟩ := p50
    have f62 := (k48 4 (by decide)).trans f25
    have f63 := (k48 13 (by decide)).trans f26
    have f64 := (k48 14 (by decide)).trans f27
    have f65 := (k48 18 (by decide)).trans f28
    have c66 := (o49 le n_le_m).trans c29
    show ww l D tys A X fr lo mX11_clause Q 70 [(4, .int v8), (3, .int v3), (2, .int v1), (1, .int ow1), (0, .ref m)] [.int v43] h38
    refine w_istore_n [(2, .int v43), (4, .int v8), (3, .int v3), (1, .int ow1), (0, .ref m)] rfl (Nat.le_of_ble_eq_true rfl) (tX11_clause_0_ok (70, .istore_n 2, 1) (List.mem_of_getElem? (i := 39) rfl)) ?_
    refine w_aload_n (List.Mem.tail _ (List.Mem.tail _ (List.Mem.tail _ (List.Mem.tail _ (List.Mem.head _))))) (tX11_clause_0_ok (71, .aload_n 0, 1) (List.mem_of_getElem? (i := 40) rfl)) ?_
    refine w_bipush (by decide) (tX11_clause_0_ok (72, .bipush 63, 2) (List.mem_of_getElem? (i := 41) rfl)) (fun v67 e68 => ?_)
    refine w_callV (own := 16) (mi := 248) [.int v67] [] [(0, .ref m), (1, .int v67)] rfl (cllw_X11 (154, 0, 248) (List.mem_of_getElem? (i := 21) rfl)) rfl rfl c51 rfl hr1 (w_lo (n := 21) rfl (Nat.le_trans (Nat.le_of_ble_eq_true rfl) hr2)) (Nat.le_of_ble_eq_true rfl) (Nat.le_of_ble_eq_true rfl) rfl (tX11_clause_0_ok (74, .invokevirtual 154, 3) (List.mem_of_getElem? (i := 42) rfl)) (r_takes hT (by omega) ⟨by omega, w_sub (n := 21) rfl (by omega)⟩ ⟨⟨c51, l52, f53, f54, f55, f56, f57⟩, f58, n_tx_m, c59, hs, hb, a60, a61⟩ (fun h69 fs70 at71 fl72 v73 p74 e75 k76 o77 => ?_))
    have d78 : v67.toInt = 63 := by omega
    rw [d78] at e75
    obtain ⟨⟨c79, l80, f81, f82, f83, f84, f85⟩, f86, -, c87, -, -, a88, a89⟩ := p74
    have f90 := (k76 4 (by decide)).trans f62
    have f91 := (k76 13 (by decide)).trans f63
    have f92 := (k76 14 (by decide)).trans f64
    have f93 := (k76 18 (by decide)).trans f65
    have c94 := (o77 le n_le_m).trans c66
    show ww l D tys A X fr lo mX11_clause Q 77 [(2, .int v43), (4, .int v8), (3, .int v3), (1, .int ow1), (0, .ref m)] [.int v73] h69
    refine w_if_ne (tgt := 81) (tX11_clause_0_ok (77, .ifCond .ne 4, 3) (List.mem_of_getElem? (i := 43) rfl)) rfl (fun b95 => ?_) (fun b95 => ?_)
    · refine w_aload_n (List.Mem.tail _ (List.Mem.tail _ (List.Mem.tail _ (List.Mem.tail _ (List.Mem.head _))))) (tX11_clause_0_ok (81, .aload_n 0, 1) (List.mem_of_getElem? (i := 45) rfl)) ?_
      refine w_callV (own := 16) (mi := 246) [] [] [(0, .ref m)] rfl (cllw_X11 (151, 0, 246) (List.mem_of_getElem? (i := 25) rfl)) rfl rfl c79 rfl hr1 (w_lo (n := 24) rfl (Nat.le_trans (Nat.le_of_ble_eq_true rfl) hr2)) (Nat.le_of_ble_eq_true rfl) (Nat.le_of_ble_eq_true rfl) rfl (tX11_clause_0_ok (82, .invokevirtual 151, 3) (List.mem_of_getElem? (i := 46) rfl)) (hl.1 _ _ _ _ _ _ _ _ (by omega) (w_sub (n := 24) rfl (by omega)) (by omega) (by omega) ⟨⟨⟨c79, l80, f81, f82, f83, f84, f85⟩, f86, n_tx_m, c87, hs, hb, a88, a89⟩, f90, n_le_m, _, c94⟩ (fun h96 fs97 at98 fl99 dp100 v101 p102 e103 e104 e105 k106 o107 => ?_))
      dsimp only at e103
      have p108 := p102.1
      obtain ⟨⟨c109, l110, f111, f112, f113, f114, f115⟩, f116, -, c117, -, -, a118, a119⟩ := p108
      have f120 := (k106 4 (by decide)).trans f90
      have f121 := (k106 13 (by decide)).trans f91
      have f122 := (k106 14 (by decide)).trans f92
      have f123 := (k106 18 (by decide)).trans f93
      have c124 := (o107 le n_le_m).trans c94
      show ww l D tys A X fr lo mX11_clause Q 85 [(2, .int v43), (4, .int v8), (3, .int v3), (1, .int ow1), (0, .ref m)] [.int v101] h96
      refine w_istore_n [(3, .int v101), (2, .int v43), (4, .int v8), (1, .int ow1), (0, .ref m)] rfl (Nat.le_of_ble_eq_true rfl) (tX11_clause_0_ok (85, .istore_n 3, 1) (List.mem_of_getElem? (i := 47) rfl)) ?_
      refine w_goto (tgt := 134) (tX11_clause_0_ok (86, .goto 48, 3) (List.mem_of_getElem? (i := 48) rfl)) rfl ?_
      have key : sp_is (sp_body f en.toInt.toNat (sp_lv f en.toInt.toNat (6)).1 (sp_lv f en.toInt.toNat (6)).2.1 (sp_lv f en.toInt.toNat (6)).2.2 at0.toInt.toNat) at98 fl99 := by
        unfold sp_body
        rw [if_pos (by omega), ← e10]
        exact sp_is.bd e45 (r_thn e75 (Or.inr ⟨by omega, e103⟩))
      refine w_lv [(3, .int v101), (2, .int v43), (1, .int ow1), (0, .ref m)] (by intro q hq; simp only [List.mem_cons, List.not_mem_nil, or_false] at hq ⊢; rcases hq with e | e | e | e <;> subst e <;> simp) ?_
      exact r_clE hr1 hr2 ⟨⟨⟨⟨c109, l110, f111, f112, f113, f114, f115⟩, f116, n_tx_m, c117, hs, hb, a118, a119⟩, f120, n_le_m, _, c124⟩, ⟨_, f121⟩, ⟨_, f122⟩, _, f123, by omega, by omega⟩ (fun h1 fs1 p1 p2 p3 => hq h1 fs1 at98 fl99 dp100 p1 key (by omega) (fun j hj => (p2 j hj).trans ((k106 j ⟨hj.1, hj.2.1, hj.2.2.1⟩).trans ((k76 j ⟨hj.1, hj.2.1, hj.2.2.1⟩).trans ((k48 j ⟨hj.1, hj.2.1, hj.2.2.1⟩).trans (k12 j ⟨hj.1, hj.2.1, hj.2.2.1⟩))))) (fun q hq => (p3 q hq).trans ((o107 q hq).trans ((o77 q hq).trans ((o49 q hq).trans (o13 q hq))))))
    · refine w_vret rfl (tX11_clause_0_ok (80, .return_, 1) (List.mem_of_getElem? (i := 44) rfl)) ?_
      have key : sp_is (sp_body f en.toInt.toNat (sp_lv f en.toInt.toNat (6)).1 (sp_lv f en.toInt.toNat (6)).2.1 (sp_lv f en.toInt.toNat (6)).2.2 at0.toInt.toNat) at71 fl72 := by
        unfold sp_body
        rw [if_pos (by omega), ← e10]
        exact sp_is.bd e45 (r_thn e75 (Or.inl ⟨by omega, rfl⟩))
      exact hq h69 fs70 at71 fl72 dp42 ⟨⟨⟨⟨c79, l80, f81, f82, f83, f84, f85⟩, f86, n_tx_m, c87, hs, hb, a88, a89⟩, f90, n_le_m, _, c94⟩, ⟨_, f91⟩, ⟨_, f92⟩, _, f93, by omega, by omega⟩ key (by omega) (fun j hj => (k76 j ⟨hj.1, hj.2.1, hj.2.2.1⟩).trans ((k48 j ⟨hj.1, hj.2.1, hj.2.2.1⟩).trans (k12 j ⟨hj.1, hj.2.1, hj.2.2.1⟩))) (fun q hq => (o77 q hq).trans ((o49 q hq).trans (o13 q hq)))
  · refine w_iload (List.Mem.head _) (tX11_clause_0_ok (57, .iload 4, 2) (List.mem_of_getElem? (i := 32) rfl)) ?_
    refine w_bipush (by decide) (tX11_clause_0_ok (59, .bipush 40, 2) (List.mem_of_getElem? (i := 33) rfl)) (fun v126 e127 => ?_)
    refine w_icmp_ne (tgt := 89) (tX11_clause_0_ok (61, .if_icmp .ne 28, 3) (List.mem_of_getElem? (i := 34) rfl)) rfl (fun b128 => ?_) (fun b128 => ?_)
    · refine w_aload_n (List.Mem.tail _ (List.Mem.tail _ (List.Mem.tail _ (List.Mem.tail _ (List.Mem.head _))))) (tX11_clause_0_ok (89, .aload_n 0, 1) (List.mem_of_getElem? (i := 49) rfl)) ?_
      refine w_callV (own := 16) (mi := 246) [] [] [(0, .ref m)] rfl (cllw_X11 (151, 0, 246) (List.mem_of_getElem? (i := 25) rfl)) rfl rfl c14 rfl hr1 (w_lo (n := 24) rfl (Nat.le_trans (Nat.le_of_ble_eq_true rfl) hr2)) (Nat.le_of_ble_eq_true rfl) (Nat.le_of_ble_eq_true rfl) rfl (tX11_clause_0_ok (90, .invokevirtual 151, 3) (List.mem_of_getElem? (i := 50) rfl)) (hl.1 _ _ _ _ _ _ _ _ (by omega) (w_sub (n := 24) rfl (by omega)) (by omega) (by omega) ⟨⟨⟨c14, l15, f16, f17, f18, f19, f20⟩, f21, n_tx_m, c22, hs, hb, a23, a24⟩, f25, n_le_m, _, c29⟩ (fun h130 fs131 at132 fl133 dp134 v135 p136 e137 e138 e139 k140 o141 => ?_))
      dsimp only at e137
      have p142 := p136.1
      obtain ⟨⟨c143, l144, f145, f146, f147, f148, f149⟩, f150, -, c151, -, -, a152, a153⟩ := p142
      have f154 := (k140 4 (by decide)).trans f25
      have f155 := (k140 13 (by decide)).trans f26
      have f156 := (k140 14 (by decide)).trans f27
      have f157 := (k140 18 (by decide)).trans f28
      have c158 := (o141 le n_le_m).trans c29
      show ww l D tys A X fr lo mX11_clause Q 93 [(4, .int v8), (3, .int v3), (2, .int v1), (1, .int ow1), (0, .ref m)] [.int v135] h130
      refine w_istore_n [(3, .int v135), (4, .int v8), (2, .int v1), (1, .int ow1), (0, .ref m)] rfl (Nat.le_of_ble_eq_true rfl) (tX11_clause_0_ok (93, .istore_n 3, 1) (List.mem_of_getElem? (i := 51) rfl)) ?_
      refine w_aload_n (List.Mem.tail _ (List.Mem.tail _ (List.Mem.tail _ (List.Mem.tail _ (List.Mem.head _))))) (tX11_clause_0_ok (94, .aload_n 0, 1) (List.mem_of_getElem? (i := 52) rfl)) ?_
      refine w_get (own := 16) rfl rfl (by decide) c143 f149 (tX11_clause_0_ok (95, .getfield 118, 3) (List.mem_of_getElem? (i := 53) rfl)) ?_
      refine w_iconst (by decide) (tX11_clause_0_ok (98, .iconst (-1), 1) (List.mem_of_getElem? (i := 54) rfl)) (fun v159 e160 => ?_)
      refine w_icmp_ne (tgt := 134) (tX11_clause_0_ok (99, .if_icmp .ne 35, 3) (List.mem_of_getElem? (i := 55) rfl)) rfl (fun b161 => ?_) (fun b161 => ?_)
      · have key : sp_is (sp_body f en.toInt.toNat (sp_lv f en.toInt.toNat (6)).1 (sp_lv f en.toInt.toNat (6)).2.1 (sp_lv f en.toInt.toNat (6)).2.2 at0.toInt.toNat) at132 fl133 := by
          unfold sp_body
          rw [if_neg (by omega), ← e10]
          exact sp_is.bd e137 (Or.inl ⟨by omega, rfl⟩)
        refine w_lv [(3, .int v135), (2, .int v1), (1, .int ow1), (0, .ref m)] (by intro q hq; simp only [List.mem_cons, List.not_mem_nil, or_false] at hq ⊢; rcases hq with e | e | e | e <;> subst e <;> simp) ?_
        exact r_clE hr1 hr2 ⟨⟨⟨⟨c143, l144, f145, f146, f147, f148, f149⟩, f150, n_tx_m, c151, hs, hb, a152, a153⟩, f154, n_le_m, _, c158⟩, ⟨_, f155⟩, ⟨_, f156⟩, _, f157, by omega, by omega⟩ (fun h1 fs1 p1 p2 p3 => hq h1 fs1 at132 fl133 dp134 p1 key (by omega) (fun j hj => (p2 j hj).trans ((k140 j ⟨hj.1, hj.2.1, hj.2.2.1⟩).trans (k12 j ⟨hj.1, hj.2.1, hj.2.2.1⟩))) (fun q hq => (p3 q hq).trans ((o141 q hq).trans (o13 q hq))))
      · refine w_aload_n (List.Mem.tail _ (List.Mem.tail _ (List.Mem.tail _ (List.Mem.tail _ (List.Mem.head _))))) (tX11_clause_0_ok (102, .aload_n 0, 1) (List.mem_of_getElem? (i := 56) rfl)) ?_
        refine w_callV (own := 16) (mi := 212) [] [] [(0, .ref m)] rfl (cllw_X11 (128, 0, 212) (List.mem_of_getElem? (i := 7) rfl)) rfl rfl c143 rfl hr1 (w_lo (n := 20) rfl (Nat.le_trans (Nat.le_of_ble_eq_true rfl) hr2)) (Nat.le_of_ble_eq_true rfl) (Nat.le_of_ble_eq_true rfl) rfl (tX11_clause_0_ok (103, .invokevirtual 128, 3) (List.mem_of_getElem? (i := 57) rfl)) (r_look hT ⟨⟨c143, l144, f145, f146, f147, f148, f149⟩, f150, n_tx_m, c151, hs, hb, a152, a153⟩ (fun h162 fs163 at164 v165 p166 e167 e168 k169 o170 => ?_))
        obtain ⟨⟨c171, l172, f173, f174, f175, f176, f177⟩, f178, -, c179, -, -, a180, a181⟩ := p166
        have f182 := (k169 4 (by decide)).trans f154
        have f183 := (k169 13 (by decide)).trans f155
        have f184 := (k169 14 (by decide)).trans f156
        have f185 := (k169 18 (by decide)).trans f157
        have c186 := (o170 le n_le_m).trans c158
        show ww l D tys A X fr lo mX11_clause Q 106 [(3, .int v135), (4, .int v8), (2, .int v1), (1, .int ow1), (0, .ref m)] [.int v165] h162
        refine w_callS (own := 16) (mi := 206) [.int v165] [] [(0, .int v165)] rfl (cllw_X11 (171, 1, 206) (List.mem_of_getElem? (i := 30) rfl)) rfl rfl hr1 (w_lo (n := 20) rfl (Nat.le_trans (Nat.le_of_ble_eq_true rfl) hr2)) (Nat.le_of_ble_eq_true rfl) (Nat.le_of_ble_eq_true rfl) rfl (tX11_clause_0_ok (106, .invokestatic 171, 3) (List.mem_of_getElem? (i := 58) rfl)) (r_isSign (fun v187 e188 => ?_))
        show ww l D tys A X fr lo mX11_clause Q 109 [(3, .int v135), (4, .int v8), (2, .int v1), (1, .int ow1), (0, .ref m)] [.int v187] h162
        refine w_if_eq (tgt := 134) (tX11_clause_0_ok (109, .ifCond .eq 25, 3) (List.mem_of_getElem? (i := 59) rfl)) rfl (fun b189 => ?_) (fun b189 => ?_)
        · have key : sp_is (sp_body f en.toInt.toNat (sp_lv f en.toInt.toNat (6)).1 (sp_lv f en.toInt.toNat (6)).2.1 (sp_lv f en.toInt.toNat (6)).2.2 at0.toInt.toNat) at164 fl133 := by
            unfold sp_body
            rw [if_neg (by omega), ← e10]
            refine sp_is.bd e137 (Or.inr ⟨by omega, ?_⟩)
            unfold sp_body2
            rw [if_neg (by omega)]
            exact ⟨by omega, by omega⟩
          refine w_lv [(3, .int v135), (2, .int v1), (1, .int ow1), (0, .ref m)] (by intro q hq; simp only [List.mem_cons, List.not_mem_nil, or_false] at hq ⊢; rcases hq with e | e | e | e <;> subst e <;> simp) ?_
          exact r_clE hr1 hr2 ⟨⟨⟨⟨c171, l172, f173, f174, f175, f176, f177⟩, f178, n_tx_m, c179, hs, hb, a180, a181⟩, f182, n_le_m, _, c186⟩, ⟨_, f183⟩, ⟨_, f184⟩, _, f185, by omega, by omega⟩ (fun h1 fs1 p1 p2 p3 => hq h1 fs1 at164 fl133 dp134 p1 key (by omega) (fun j hj => (p2 j hj).trans ((k169 j ⟨hj.1, hj.2.1, hj.2.2.1⟩).trans ((k140 j ⟨hj.1, hj.2.1, hj.2.2.1⟩).trans (k12 j ⟨hj.1, hj.2.1, hj.2.2.1⟩)))) (fun q hq => (p3 q hq).trans ((o170 q hq).trans ((o141 q hq).trans (o13 q hq)))))
        · refine w_aload_n (List.Mem.tail _ (List.Mem.tail _ (List.Mem.tail _ (List.Mem.tail _ (List.Mem.head _))))) (tX11_clause_1_ok (112, .aload_n 0, 1) (List.mem_of_getElem? (i := 0) rfl)) ?_
          refine w_iconst (by decide) (tX11_clause_1_ok (113, .iconst 1, 1) (List.mem_of_getElem? (i := 1) rfl)) (fun v190 e191 => ?_)
          refine w_iload_n (List.Mem.head _) (tX11_clause_1_ok (114, .iload_n 3, 1) (List.mem_of_getElem? (i := 2) rfl)) ?_
          refine w_callV (own := 16) (mi := 171) [.int v190, .int v135] [] [(0, .ref m), (1, .int v190), (2, .int v135)] rfl (cllw_X11 (177, 0, 171) (List.mem_of_getElem? (i := 22) rfl)) rfl rfl c171 rfl hr1 (w_lo (n := 24) rfl (Nat.le_trans (Nat.le_of_ble_eq_true rfl) hr2)) (Nat.le_of_ble_eq_true rfl) (Nat.le_of_ble_eq_true rfl) rfl (tX11_clause_1_ok (115, .invokevirtual 177, 3) (List.mem_of_getElem? (i := 3) rfl)) ((hl.2.2.2.2 _ _ (by omega)) _ _ _ _ _ _ _ _ (by omega) (w_sub (n := 24) rfl (by omega)) (by omega) (by omega) ⟨⟨⟨c171, l172, f173, f174, f175, f176, f177⟩, f178, n_tx_m, c179, hs, hb, a180, a181⟩, f182, n_le_m, _, c186⟩ (fun h192 fs193 at194 fl195 dp196 v197 p198 e199 e200 e201 k202 o203 => ?_))
          dsimp only at e199
          have e201b := e201 rfl
          have p204 := p198.1
          obtain ⟨⟨c205, l206, f207, f208, f209, f210, f211⟩, f212, -, c213, -, -, a214, a215⟩ := p204
          have f216 := (k202 4 (by decide)).trans f182
          have f217 := (k202 13 (by decide)).trans f183
          have f218 := (k202 14 (by decide)).trans f184
          have f219 := (k202 18 (by decide)).trans f185
          have c220 := (o203 le n_le_m).trans c186
          show ww l D tys A X fr lo mX11_clause Q 118 [(3, .int v135), (4, .int v8), (2, .int v1), (1, .int ow1), (0, .ref m)] [.int v197] h192
          refine w_istore_n [(2, .int v197), (3, .int v135), (4, .int v8), (1, .int ow1), (0, .ref m)] rfl (Nat.le_of_ble_eq_true rfl) (tX11_clause_1_ok (118, .istore_n 2, 1) (List.mem_of_getElem? (i := 4) rfl)) ?_
          refine w_aload_n (List.Mem.tail _ (List.Mem.tail _ (List.Mem.tail _ (List.Mem.tail _ (List.Mem.head _))))) (tX11_clause_1_ok (119, .aload_n 0, 1) (List.mem_of_getElem? (i := 5) rfl)) ?_
          refine w_bipush (by decide) (tX11_clause_1_ok (120, .bipush 63, 2) (List.mem_of_getElem? (i := 6) rfl)) (fun v221 e222 => ?_)
          refine w_callV (own := 16) (mi := 248) [.int v221] [] [(0, .ref m), (1, .int v221)] rfl (cllw_X11 (154, 0, 248) (List.mem_of_getElem? (i := 21) rfl)) rfl rfl c205 rfl hr1 (w_lo (n := 21) rfl (Nat.le_trans (Nat.le_of_ble_eq_true rfl) hr2)) (Nat.le_of_ble_eq_true rfl) (Nat.le_of_ble_eq_true rfl) rfl (tX11_clause_1_ok (122, .invokevirtual 154, 3) (List.mem_of_getElem? (i := 7) rfl)) (r_takes hT (by omega) ⟨by omega, w_sub (n := 21) rfl (by omega)⟩ ⟨⟨c205, l206, f207, f208, f209, f210, f211⟩, f212, n_tx_m, c213, hs, hb, a214, a215⟩ (fun h223 fs224 at225 fl226 v227 p228 e229 k230 o231 => ?_))
          have d232 : v221.toInt = 63 := by omega
          rw [d232] at e229
          obtain ⟨⟨c233, l234, f235, f236, f237, f238, f239⟩, f240, -, c241, -, -, a242, a243⟩ := p228
          have f244 := (k230 4 (by decide)).trans f216
          have f245 := (k230 13 (by decide)).trans f217
          have f246 := (k230 14 (by decide)).trans f218
          have f247 := (k230 18 (by decide)).trans f219
          have c248 := (o231 le n_le_m).trans c220
          show ww l D tys A X fr lo mX11_clause Q 125 [(2, .int v197), (3, .int v135), (4, .int v8), (1, .int ow1), (0, .ref m)] [.int v227] h223
          refine w_if_ne (tgt := 129) (tX11_clause_1_ok (125, .ifCond .ne 4, 3) (List.mem_of_getElem? (i := 8) rfl)) rfl (fun b249 => ?_) (fun b249 => ?_)
          · refine w_aload_n (List.Mem.tail _ (List.Mem.tail _ (List.Mem.tail _ (List.Mem.tail _ (List.Mem.head _))))) (tX11_clause_1_ok (129, .aload_n 0, 1) (List.mem_of_getElem? (i := 10) rfl)) ?_
            refine w_callV (own := 16) (mi := 246) [] [] [(0, .ref m)] rfl (cllw_X11 (151, 0, 246) (List.mem_of_getElem? (i := 25) rfl)) rfl rfl c233 rfl hr1 (w_lo (n := 24) rfl (Nat.le_trans (Nat.le_of_ble_eq_true rfl) hr2)) (Nat.le_of_ble_eq_true rfl) (Nat.le_of_ble_eq_true rfl) rfl (tX11_clause_1_ok (130, .invokevirtual 151, 3) (List.mem_of_getElem? (i := 11) rfl)) (hl.1 _ _ _ _ _ _ _ _ (by omega) (w_sub (n := 24) rfl (by omega)) (by omega) (by omega) ⟨⟨⟨c233, l234, f235, f236, f237, f238, f239⟩, f240, n_tx_m, c241, hs, hb, a242, a243⟩, f244, n_le_m, _, c248⟩ (fun h250 fs251 at252 fl253 dp254 v255 p256 e257 e258 e259 k260 o261 => ?_))
            dsimp only at e257
            have p262 := p256.1
            obtain ⟨⟨c263, l264, f265, f266, f267, f268, f269⟩, f270, -, c271, -, -, a272, a273⟩ := p262
            have f274 := (k260 4 (by decide)).trans f244
            have f275 := (k260 13 (by decide)).trans f245
            have f276 := (k260 14 (by decide)).trans f246
            have f277 := (k260 18 (by decide)).trans f247
            have c278 := (o261 le n_le_m).trans c248
            show ww l D tys A X fr lo mX11_clause Q 133 [(2, .int v197), (3, .int v135), (4, .int v8), (1, .int ow1), (0, .ref m)] [.int v255] h250
            refine w_istore_n [(3, .int v255), (2, .int v197), (4, .int v8), (1, .int ow1), (0, .ref m)] rfl (Nat.le_of_ble_eq_true rfl) (tX11_clause_1_ok (133, .istore_n 3, 1) (List.mem_of_getElem? (i := 12) rfl)) ?_
            have key : sp_is (sp_body f en.toInt.toNat (sp_lv f en.toInt.toNat (6)).1 (sp_lv f en.toInt.toNat (6)).2.1 (sp_lv f en.toInt.toNat (6)).2.2 at0.toInt.toNat) at252 fl253 := by
              unfold sp_body
              rw [if_neg (by omega), ← e10]
              refine sp_is.bd e137 (Or.inr ⟨by omega, ?_⟩)
              unfold sp_body2
              rw [if_pos (by omega), ← e167]
              exact sp_is.bd e199 (r_thn e229 (Or.inr ⟨by omega, e257⟩))
            refine w_lv [(3, .int v255), (2, .int v197), (1, .int ow1), (0, .ref m)] (by intro q hq; simp only [List.mem_cons, List.not_mem_nil, or_false] at hq ⊢; rcases hq with e | e | e | e <;> subst e <;> simp) ?_
            exact r_clE hr1 hr2 ⟨⟨⟨⟨c263, l264, f265, f266, f267, f268, f269⟩, f270, n_tx_m, c271, hs, hb, a272, a273⟩, f274, n_le_m, _, c278⟩, ⟨_, f275⟩, ⟨_, f276⟩, _, f277, by omega, by omega⟩ (fun h1 fs1 p1 p2 p3 => hq h1 fs1 at252 fl253 dp254 p1 key (by omega) (fun j hj => (p2 j hj).trans ((k260 j ⟨hj.1, hj.2.1, hj.2.2.1⟩).trans ((k230 j ⟨hj.1, hj.2.1, hj.2.2.1⟩).trans ((k202 j ⟨hj.1, hj.2.1, hj.2.2.1⟩).trans ((k169 j ⟨hj.1, hj.2.1, hj.2.2.1⟩).trans ((k140 j ⟨hj.1, hj.2.1, hj.2.2.1⟩).trans (k12 j ⟨hj.1, hj.2.1, hj.2.2.1⟩))))))) (fun q hq => (p3 q hq).trans ((o261 q hq).trans ((o231 q hq).trans ((o203 q hq).trans ((o170 q hq).trans ((o141 q hq).trans (o13 q hq))))))))
          · refine w_vret rfl (tX11_clause_1_ok (128, .return_, 1) (List.mem_of_getElem? (i := 9) rfl)) ?_
            have key : sp_is (sp_body f en.toInt.toNat (sp_lv f en.toInt.toNat (6)).1 (sp_lv f en.toInt.toNat (6)).2.1 (sp_lv f en.toInt.toNat (6)).2.2 at0.toInt.toNat) at225 fl226 := by
              unfold sp_body
              rw [if_neg (by omega), ← e10]
              refine sp_is.bd e137 (Or.inr ⟨by omega, ?_⟩)
              unfold sp_body2
              rw [if_pos (by omega), ← e167]
              exact sp_is.bd e199 (r_thn e229 (Or.inl ⟨by omega, rfl⟩))
            exact hq h223 fs224 at225 fl226 dp196 ⟨⟨⟨⟨c233, l234, f235, f236, f237, f238, f239⟩, f240, n_tx_m, c241, hs, hb, a242, a243⟩, f244, n_le_m, _, c248⟩, ⟨_, f245⟩, ⟨_, f246⟩, _, f247, by omega, by omega⟩ key (by omega) (fun j hj => (k230 j ⟨hj.1, hj.2.1, hj.2.2.1⟩).trans ((k202 j ⟨hj.1, hj.2.1, hj.2.2.1⟩).trans ((k169 j ⟨hj.1, hj.2.1, hj.2.2.1⟩).trans ((k140 j ⟨hj.1, hj.2.1, hj.2.2.1⟩).trans (k12 j ⟨hj.1, hj.2.1, hj.2.2.1⟩))))) (fun q hq => (o231 q hq).trans ((o203 q hq).trans ((o170 q hq).trans ((o141 q hq).trans (o13 q hq)))))
    · have g279 : sp_sg f en.toInt.toNat (sp_sk f en.toInt.toNat at0.toInt.toNat) = 40 ∧ at7.toInt < en.toInt ∧ v8.toInt = 40 := by omega
      clear e11 b128
      refine w_aload_n (List.Mem.tail _ (List.Mem.tail _ (List.Mem.tail _ (List.Mem.tail _ (List.Mem.head _))))) (tX11_clause_0_ok (64, .aload_n 0, 1) (List.mem_of_getElem? (i := 35) rfl)) ?_
      refine w_iconst (by decide) (tX11_clause_0_ok (65, .iconst 0, 1) (List.mem_of_getElem? (i := 36) rfl)) (fun v280 e281 => ?_)
      refine w_iconst (by decide) (tX11_clause_0_ok (66, .iconst 0, 1) (List.mem_of_getElem? (i := 37) rfl)) (fun v282 e283 => ?_)
      refine w_callV (own := 16) (mi := 171) [.int v280, .int v282] [] [(0, .ref m), (1, .int v280), (2, .int v282)] rfl (cllw_X11 (177, 0, 171) (List.mem_of_getElem? (i := 22) rfl)) rfl rfl c14 rfl hr1 (w_lo (n := 24) rfl (Nat.le_trans (Nat.le_of_ble_eq_true rfl) hr2)) (Nat.le_of_ble_eq_true rfl) (Nat.le_of_ble_eq_true rfl) rfl (tX11_clause_0_ok (67, .invokevirtual 177, 3) (List.mem_of_getElem? (i := 38) rfl)) ((hl.2.2.2.1 _ _ (by omega)) _ _ _ _ _ _ _ _ (by omega) (w_sub (n := 24) rfl (by omega)) (by omega) (by omega) ⟨⟨⟨c14, l15, f16, f17, f18, f19, f20⟩, f21, n_tx_m, c22, hs, hb, a23, a24⟩, f25, n_le_m, _, c29⟩ (fun h284 fs285 at286 fl287 dp288 v289 p290 e291 e292 e293 k294 o295 => ?_))
      dsimp only at e291
      have e293b := e293 rfl
      have p296 := p290.1
      obtain ⟨⟨c297, l298, f299, f300, f301, f302, f303⟩, f304, -, c305, -, -, a306, a307⟩ := p296
      have f308 := (k294 4 (by decide)).trans f25
      have f309 := (k294 13 (by decide)).trans f26
      have f310 := (k294 14 (by decide)).trans f27
      have f311 := (k294 18 (by decide)).trans f28
      have c312 := (o295 le n_le_m).trans c29
      show ww l D tys A X fr lo mX11_clause Q 70 [(4, .int v8), (3, .int v3), (2, .int v1), (1, .int ow1), (0, .ref m)] [.int v289] h284
      refine w_istore_n [(2, .int v289), (4, .int v8), (3, .int v3), (1, .int ow1), (0, .ref m)] rfl (Nat.le_of_ble_eq_true rfl) (tX11_clause_0_ok (70, .istore_n 2, 1) (List.mem_of_getElem? (i := 39) rfl)) ?_
      refine w_aload_n (List.Mem.tail _ (List.Mem.tail _ (List.Mem.tail _ (List.Mem.tail _ (List.Mem.head _))))) (tX11_clause_0_ok (71, .aload_n 0, 1) (List.mem_of_getElem? (i := 40) rfl)) ?_
      refine w_bipush (by decide) (tX11_clause_0_ok (72, .bipush 63, 2) (List.mem_of_getElem? (i := 41) rfl)) (fun v313 e314 => ?_)
      refine w_callV (own := 16) (mi := 248) [.int v313] [] [(0, .ref m), (1, .int v313)] rfl (cllw_X11 (154, 0, 248) (List.mem_of_getElem? (i := 21) rfl)) rfl rfl c297 rfl hr1 (w_lo (n := 21) rfl (Nat.le_trans (Nat.le_of_ble_eq_true rfl) hr2)) (Nat.le_of_ble_eq_true rfl) (Nat.le_of_ble_eq_true rfl) rfl (tX11_clause_0_ok (74, .invokevirtual 154, 3) (List.mem_of_getElem? (i := 42) rfl)) (r_takes hT (by omega) ⟨by omega, w_sub (n := 21) rfl (by omega)⟩ ⟨⟨c297, l298, f299, f300, f301, f302, f303⟩, f304, n_tx_m, c305, hs, hb, a306, a307⟩ (fun h315 fs316 at317 fl318 v319 p320 e321 k322 o323 => ?_))
      have d324 : v313.toInt = 63 := by omega
      rw [d324] at e321
      obtain ⟨⟨c325, l326, f327, f328, f329, f330, f331⟩, f332, -, c333, -, -, a334, a335⟩ := p320
      have f336 := (k322 4 (by decide)).trans f308
      have f337 := (k322 13 (by decide)).trans f309
      have f338 := (k322 14 (by decide)).trans f310
      have f339 := (k322 18 (by decide)).trans f311
      have c340 := (o323 le n_le_m).trans c312
      show ww l D tys A X fr lo mX11_clause Q 77 [(2, .int v289), (4, .int v8), (3, .int v3), (1, .int ow1), (0, .ref m)] [.int v319] h315
      refine w_if_ne (tgt := 81) (tX11_clause_0_ok (77, .ifCond .ne 4, 3) (List.mem_of_getElem? (i := 43) rfl)) rfl (fun b341 => ?_) (fun b341 => ?_)
      · refine w_aload_n (List.Mem.tail _ (List.Mem.tail _ (List.Mem.tail _ (List.Mem.tail _ (List.Mem.head _))))) (tX11_clause_0_ok (81, .aload_n 0, 1) (List.mem_of_getElem? (i := 45) rfl)) ?_
        refine w_callV (own := 16) (mi := 246) [] [] [(0, .ref m)] rfl (cllw_X11 (151, 0, 246) (List.mem_of_getElem? (i := 25) rfl)) rfl rfl c325 rfl hr1 (w_lo (n := 24) rfl (Nat.le_trans (Nat.le_of_ble_eq_true rfl) hr2)) (Nat.le_of_ble_eq_true rfl) (Nat.le_of_ble_eq_true rfl) rfl (tX11_clause_0_ok (82, .invokevirtual 151, 3) (List.mem_of_getElem? (i := 46) rfl)) (hl.1 _ _ _ _ _ _ _ _ (by omega) (w_sub (n := 24) rfl (by omega)) (by omega) (by omega) ⟨⟨⟨c325, l326, f327, f328, f329, f330, f331⟩, f332, n_tx_m, c333, hs, hb, a334, a335⟩, f336, n_le_m, _, c340⟩ (fun h342 fs343 at344 fl345 dp346 v347 p348 e349 e350 e351 k352 o353 => ?_))
        dsimp only at e349
        have p354 := p348.1
        obtain ⟨⟨c355, l356, f357, f358, f359, f360, f361⟩, f362, -, c363, -, -, a364, a365⟩ := p354
        have f366 := (k352 4 (by decide)).trans f336
        have f367 := (k352 13 (by decide)).trans f337
        have f368 := (k352 14 (by decide)).trans f338
        have f369 := (k352 18 (by decide)).trans f339
        have c370 := (o353 le n_le_m).trans c340
        show ww l D tys A X fr lo mX11_clause Q 85 [(2, .int v289), (4, .int v8), (3, .int v3), (1, .int ow1), (0, .ref m)] [.int v347] h342
        refine w_istore_n [(3, .int v347), (2, .int v289), (4, .int v8), (1, .int ow1), (0, .ref m)] rfl (Nat.le_of_ble_eq_true rfl) (tX11_clause_0_ok (85, .istore_n 3, 1) (List.mem_of_getElem? (i := 47) rfl)) ?_
        refine w_goto (tgt := 134) (tX11_clause_0_ok (86, .goto 48, 3) (List.mem_of_getElem? (i := 48) rfl)) rfl ?_
        have key : sp_is (sp_body f en.toInt.toNat (sp_lv f en.toInt.toNat (6)).1 (sp_lv f en.toInt.toNat (6)).2.1 (sp_lv f en.toInt.toNat (6)).2.2 at0.toInt.toNat) at344 fl345 := by
          unfold sp_body
          rw [if_pos (by omega), ← e10]
          exact sp_is.bd e291 (r_thn e321 (Or.inr ⟨by omega, e349⟩))
        refine w_lv [(3, .int v347), (2, .int v289), (1, .int ow1), (0, .ref m)] (by intro q hq; simp only [List.mem_cons, List.not_mem_nil, or_false] at hq ⊢; rcases hq with e | e | e | e <;> subst e <;> simp) ?_
        exact r_clE hr1 hr2 ⟨⟨⟨⟨c355, l356, f357, f358, f359, f360, f361⟩, f362, n_tx_m, c363, hs, hb, a364, a365⟩, f366, n_le_m, _, c370⟩, ⟨_, f367⟩, ⟨_, f368⟩, _, f369, by omega, by omega⟩ (fun h1 fs1 p1 p2 p3 => hq h1 fs1 at344 fl345 dp346 p1 key (by omega) (fun j hj => (p2 j hj).trans ((k352 j ⟨hj.1, hj.2.1, hj.2.2.1⟩).trans ((k322 j ⟨hj.1, hj.2.1, hj.2.2.1⟩).trans ((k294 j ⟨hj.1, hj.2.1, hj.2.2.1⟩).trans (k12 j ⟨hj.1, hj.2.1, hj.2.2.1⟩))))) (fun q hq => (p3 q hq).trans ((o353 q hq).trans ((o323 q hq).trans ((o295 q hq).trans (o13 q hq))))))
      · refine w_vret rfl (tX11_clause_0_ok (80, .return_, 1) (List.mem_of_getElem? (i := 44) rfl)) ?_
        have key : sp_is (sp_body f en.toInt.toNat (sp_lv f en.toInt.toNat (6)).1 (sp_lv f en.toInt.toNat (6)).2.1 (sp_lv f en.toInt.toNat (6)).2.2 at0.toInt.toNat) at317 fl318 := by
          unfold sp_body
          rw [if_pos (by omega), ← e10]
          exact sp_is.bd e291 (r_thn e321 (Or.inl ⟨by omega, rfl⟩))
        exact hq h315 fs316 at317 fl318 dp288 ⟨⟨⟨⟨c325, l326, f327, f328, f329, f330, f331⟩, f332, n_tx_m, c333, hs, hb, a334, a335⟩, f336, n_le_m, _, c340⟩, ⟨_, f337⟩, ⟨_, f338⟩, _, f339, by omega, by omega⟩ key (by omega) (fun j hj => (k322 j ⟨hj.1, hj.2.1, hj.2.2.1⟩).trans ((k294 j ⟨hj.1, hj.2.1, hj.2.2.1⟩).trans (k12 j ⟨hj.1, hj.2.1, hj.2.2.1⟩))) (fun q hq => (o323 q hq).trans ((o295 q hq).trans (o13 q hq)))
theorem r_clause (hT : k_tys tys cA) (hX : ∀ s, X s → xs A aK aV s) (hf : 31 ≤ fr) (hlo : 800 ≤ lo) (hfl : fl0.toInt = -1) (hdp : dp.toInt = 0) (H : rk cA h m fs tx n le g f bg en at0 fl0 dp) (hq : (∀ (h1 : ch_H) (fs1 : List Value) (at1 fl1 dp1 : Int32), rk cA h1 m fs1 tx n le g f bg en at1 fl1 dp1 → sp_is (sp_clause f en.toInt.toNat (sp_lv f en.toInt.toNat (6)).1 (sp_lv f en.toInt.toNat (6)).2.1 (sp_lv f en.toInt.toNat (6)).2.2 at0.toInt.toNat) at1 fl1 → 0 ≤ dp1.toInt ∧ dp1.toInt ≤ 6 ∧ (fl1.toInt = -1 → dp1.toInt = 0) → (∀ j, j ≠ 10 ∧ j ≠ 11 ∧ j ≠ 12 ∧ j ≠ 14 ∧ j ≠ 18 → fs1[j]? = fs[j]?) → (∀ q, q ≠ m → h1 q = h q) → Q none h1)) : ww l D tys A X fr lo mX11_clause Q 0 [(0, .ref m)] [] h := by
  obtain ⟨H, ⟨lb, fL13⟩, ⟨fo, fL14⟩, hf1, fL18, hf2, hf3⟩ := H
  have hr1 : 1 ≤ fr := by omega
  have hr2 : 30 ≤ lo := by omega
  obtain ⟨⟨⟨c_m, fl, f5, f8, f9, f10, f11⟩, f12, n_tx_m, c_x, hs, hb, ha⟩, f4, n_le_m, gl, c_le⟩ := H
  refine w_aload_n (List.Mem.head _) (tX11_clause_0_ok (0, .aload_n 0, 1) (List.mem_of_getElem? (i := 0) rfl)) ?_
  refine w_callV (own := 16) (mi := 212) [] [] [(0, .ref m)] rfl (cllw_X11 (128, 0, 212) (List.mem_of_getElem? (i := 7) rfl)) rfl rfl c_m rfl hr1 (w_lo (n := 20) rfl (Nat.le_trans (Nat.le_of_ble_eq_true rfl) hr2)) (Nat.le_of_ble_eq_true rfl) (Nat.le_of_ble_eq_true rfl) rfl (tX11_clause_0_ok (1, .invokevirtual 128, 3) (List.mem_of_getElem? (i := 1) rfl)) (r_look hT ⟨⟨c_m, fl, f5, f8, f9, f10, f11⟩, f12, n_tx_m, c_x, hs, hb, ha.1, ha.2⟩ (fun h1 fs2 at3 v4 p5 e6 e7 k8 o9 => ?_))
  obtain ⟨⟨c10, l11, f12, f13, f14, f15, f16⟩, f17, -, c18, -, -, a19, a20⟩ := p5
  have f21 := (k8 4 (by decide)).trans f4
  have f22 := (k8 13 (by decide)).trans fL13
  have f23 := (k8 14 (by decide)).trans fL14
  have f24 := (k8 18 (by decide)).trans fL18
  have c25 := (o9 le n_le_m).trans c_le
  show ww l D tys A X fr lo mX11_clause Q 4 [(0, .ref m)] [.int v4] h1
  refine w_istore_n [(1, .int v4), (0, .ref m)] rfl (Nat.le_of_ble_eq_true rfl) (tX11_clause_0_ok (4, .istore_n 1, 1) (List.mem_of_getElem? (i := 2) rfl)) ?_
  refine tt_ldcS (fun s x => (hX s x).2.2.2.1) (tX11_clause_0_ok (5, .ldc 26, 2) (List.mem_of_getElem? (i := 3) rfl)) ?_
  refine w_iload_n (List.Mem.head _) (tX11_clause_0_ok (7, .iload_n 1, 1) (List.mem_of_getElem? (i := 4) rfl)) ?_
  refine w_callS (own := 16) (mi := 196) [.ref (aK 0), .int v4] [] [(0, .ref (aK 0)), (1, .int v4)] rfl (cllw_X11 (144, 1, 196) (List.mem_of_getElem? (i := 20) rfl)) rfl rfl hr1 (w_lo (n := 22) rfl (Nat.le_trans (Nat.le_of_ble_eq_true rfl) hr2)) (Nat.le_of_ble_eq_true rfl) (Nat.le_of_ble_eq_true rfl) rfl (tX11_clause_0_ok (8, .invokestatic 144, 3) (List.mem_of_getElem? (i := 5) rfl)) (r_amongY hX ⟨by omega, w_sub (n := 22) rfl (by omega)⟩ (fun v26 e27 => ?_))
  show ww l D tys A X fr lo mX11_clause Q 11 [(1, .int v4), (0, .ref m)] [.int v26] h1
  refine w_if_ne (tgt := 20) (tX11_clause_0_ok (11, .ifCond .ne 9, 3) (List.mem_of_getElem? (i := 6) rfl)) rfl (fun b28 => ?_) (fun b28 => ?_)
  · refine w_aload_n (List.Mem.tail _ (List.Mem.head _)) (tX11_clause_0_ok (20, .aload_n 0, 1) (List.mem_of_getElem? (i := 11) rfl)) ?_
    refine w_dup rfl (tX11_clause_0_ok (21, .dup, 1) (List.mem_of_getElem? (i := 12) rfl)) ?_
    refine w_get (own := 16) rfl rfl (by decide) c10 f15 (tX11_clause_0_ok (22, .getfield 109, 3) (List.mem_of_getElem? (i := 13) rfl)) ?_
    refine w_iconst (by decide) (tX11_clause_0_ok (25, .iconst 1, 1) (List.mem_of_getElem? (i := 14) rfl)) (fun v29 e30 => ?_)
    refine w_iadd (by omega) (by omega) (tX11_clause_0_ok (26, .iadd, 1) (List.mem_of_getElem? (i := 15) rfl)) (fun v31 e32 => ?_)
    refine w_putF (own := 16) (ci := 10) (k := 10) rfl rfl (by decide) rfl ⟨rfl, rfl⟩ c10 (by rw [l11]; decide) (tX11_clause_0_ok (27, .putfield 109, 3) (List.mem_of_getElem? (i := 16) rfl)) (fun h33 fs36 l37 k38 j39 c34 o35 => ?_)
    rw [l11] at l37
    have f40 := (j39 5 (by decide)).trans f12
    have f41 := (j39 8 (by decide)).trans f13
    have f42 := (j39 9 (by decide)).trans f14
    have f43 := (j39 11 (by decide)).trans f16
    have f44 := (j39 12 (by decide)).trans f17
    have f45 := (j39 4 (by decide)).trans f21
    have f46 := (j39 13 (by decide)).trans f22
    have f47 := (j39 14 (by decide)).trans f23
    have f48 := (j39 18 (by decide)).trans f24
    have c49 := (o35 tx n_tx_m).trans c18
    have c50 := (o35 le n_le_m).trans c25
    refine w_aload_n (List.Mem.tail _ (List.Mem.head _)) (tX11_clause_0_ok (30, .aload_n 0, 1) (List.mem_of_getElem? (i := 17) rfl)) ?_
    refine w_bipush (by decide) (tX11_clause_0_ok (31, .bipush 58, 2) (List.mem_of_getElem? (i := 18) rfl)) (fun v51 e52 => ?_)
    refine w_callV (own := 16) (mi := 248) [.int v51] [] [(0, .ref m), (1, .int v51)] rfl (cllw_X11 (154, 0, 248) (List.mem_of_getElem? (i := 21) rfl)) rfl rfl c34 rfl hr1 (w_lo (n := 21) rfl (Nat.le_trans (Nat.le_of_ble_eq_true rfl) hr2)) (Nat.le_of_ble_eq_true rfl) (Nat.le_of_ble_eq_true rfl) rfl (tX11_clause_0_ok (33, .invokevirtual 154, 3) (List.mem_of_getElem? (i := 19) rfl)) (r_takes hT (by omega) ⟨by omega, w_sub (n := 21) rfl (by omega)⟩ ⟨⟨c34, l37, f40, f41, f42, k38, f43⟩, f44, n_tx_m, c49, hs, hb, by omega, by omega⟩ (fun h53 fs54 at55 fl56 v57 p58 e59 k60 o61 => ?_))
    have d62 : v51.toInt = 58 := by omega
    rw [d62] at e59
    obtain ⟨⟨c63, l64, f65, f66, f67, f68, f69⟩, f70, -, c71, -, -, a72, a73⟩ := p58
    have f74 := (k60 4 (by decide)).trans f45
    have f75 := (k60 13 (by decide)).trans f46
    have f76 := (k60 14 (by decide)).trans f47
    have f77 := (k60 18 (by decide)).trans f48
    have c78 := (o61 le n_le_m).trans c50
    show ww l D tys A X fr lo mX11_clause Q 36 [(1, .int v4), (0, .ref m)] [.int v57] h53
    refine w_if_ne (tgt := 40) (tX11_clause_0_ok (36, .ifCond .ne 4, 3) (List.mem_of_getElem? (i := 20) rfl)) rfl (fun b79 => ?_) (fun b79 => ?_)
    · refine r_clB hT hX hf hlo (by omega) (by omega) ⟨⟨⟨⟨c63, l64, f65, f66, f67, f68, f69⟩, f70, n_tx_m, c71, hs, hb, a72, a73⟩, f74, n_le_m, _, c78⟩, ⟨_, f75⟩, ⟨_, f76⟩, _, f77, by omega, by omega⟩ (fun h1 fs1 at1 fl1 dp1 p1 p2 p5 p3 p4 => hq h1 fs1 at1 fl1 dp1 p1 ?_ p5 (fun j hj => (p3 j hj).trans ((k60 j ⟨hj.1, hj.2.1, hj.2.2.1⟩).trans ((j39 j hj.1).trans (k8 j ⟨hj.1, hj.2.1, hj.2.2.1⟩)))) (fun q hq => (p4 q hq).trans ((o61 q hq).trans ((o35 q hq).trans (o9 q hq)))))
      unfold sp_clause
      have y0 : sp_tk f en.toInt.toNat 121 at0.toInt.toNat = .inr v31.toInt.toNat := by unfold sp_tk; rw [if_pos (by omega)]; congr 1; omega
      rw [y0]
      show sp_is (sp_bd (sp_tk f en.toInt.toNat 58 v31.toInt.toNat) (sp_body f en.toInt.toNat (sp_lv f en.toInt.toNat (6)).1 (sp_lv f en.toInt.toNat (6)).2.1 (sp_lv f en.toInt.toNat (6)).2.2)) _ _
      exact sp_is.bd (r_tki e59 (by omega)) (Or.inr ⟨by omega, p2⟩)
    · refine w_vret rfl (tX11_clause_0_ok (39, .return_, 1) (List.mem_of_getElem? (i := 21) rfl)) ?_
      have key : sp_is (sp_clause f en.toInt.toNat (sp_lv f en.toInt.toNat (6)).1 (sp_lv f en.toInt.toNat (6)).2.1 (sp_lv f en.toInt.toNat (6)).2.2 at0.toInt.toNat) at55 fl56 := by
        unfold sp_clause
        have y0 : sp_tk f en.toInt.toNat 121 at0.toInt.toNat = .inr v31.toInt.toNat := by unfold sp_tk; rw [if_pos (by omega)]; congr 1; omega
        rw [y0]
        show sp_is (sp_bd (sp_tk f en.toInt.toNat 58 v31.toInt.toNat) (sp_body f en.toInt.toNat (sp_lv f en.toInt.toNat (6)).1 (sp_lv f en.toInt.toNat (6)).2.1 (sp_lv f en.toInt.toNat (6)).2.2)) _ _
        exact sp_is.bd (r_tki e59 (by omega)) (Or.inl ⟨by omega, rfl⟩)
      exact hq h53 fs54 at55 fl56 dp ⟨⟨⟨⟨c63, l64, f65, f66, f67, f68, f69⟩, f70, n_tx_m, c71, hs, hb, a72, a73⟩, f74, n_le_m, _, c78⟩, ⟨_, f75⟩, ⟨_, f76⟩, _, f77, by omega, by omega⟩ key (by omega) (fun j hj => (k60 j ⟨hj.1, hj.2.1, hj.2.2.1⟩).trans ((j39 j hj.1).trans (k8 j ⟨hj.1, hj.2.1, hj.2.2.1⟩))) (fun q hq => (o61 q hq).trans ((o35 q hq).trans (o9 q hq)))
  · refine w_aload_n (List.Mem.tail _ (List.Mem.head _)) (tX11_clause_0_ok (14, .aload_n 0, 1) (List.mem_of_getElem? (i := 7) rfl)) ?_
    refine w_callV (own := 16) (mi := 180) [] [] [(0, .ref m)] rfl (cllw_X11 (124, 0, 180) (List.mem_of_getElem? (i := 11) rfl)) rfl rfl c10 rfl hr1 (w_lo (n := 20) rfl (Nat.le_trans (Nat.le_of_ble_eq_true rfl) hr2)) (Nat.le_of_ble_eq_true rfl) (Nat.le_of_ble_eq_true rfl) rfl (tX11_clause_0_ok (15, .invokevirtual 124, 3) (List.mem_of_getElem? (i := 8) rfl)) (r_fail ⟨⟨c10, l11, f12, f13, f14, f15, f16⟩, f17, n_tx_m, c18, hs, hb, a19, a20⟩ (fun h80 fs81 fl82 v83 p84 e85 e86 k87 o88 => ?_))
    obtain ⟨⟨c89, l90, f91, f92, f93, f94, f95⟩, f96, -, c97, -, -, a98, a99⟩ := p84
    have f100 := (k87 4 (by decide)).trans f21
    have f101 := (k87 13 (by decide)).trans f22
    have f102 := (k87 14 (by decide)).trans f23
    have f103 := (k87 18 (by decide)).trans f24
    have c104 := (o88 le n_le_m).trans c25
    show ww l D tys A X fr lo mX11_clause Q 18 [(1, .int v4), (0, .ref m)] [.int v83] h80
    refine w_pop rfl (tX11_clause_0_ok (18, .pop, 1) (List.mem_of_getElem? (i := 9) rfl)) ?_
    refine w_vret rfl (tX11_clause_0_ok (19, .return_, 1) (List.mem_of_getElem? (i := 10) rfl)) ?_
    have key : sp_is (sp_clause f en.toInt.toNat (sp_lv f en.toInt.toNat (6)).1 (sp_lv f en.toInt.toNat (6)).2.1 (sp_lv f en.toInt.toNat (6)).2.2 at0.toInt.toNat) at3 fl82 := by
      unfold sp_clause sp_tk
      rw [if_neg (by omega)]
      show _ = _
      omega
    exact hq h80 fs81 at3 fl82 dp ⟨⟨⟨⟨c89, l90, f91, f92, f93, f94, f95⟩, f96, n_tx_m, c97, hs, hb, a98, a99⟩, f100, n_le_m, _, c104⟩, ⟨_, f101⟩, ⟨_, f102⟩, _, f103, by omega, by omega⟩ key (by omega) (fun j hj => (k87 j ⟨hj.1, hj.2.1, hj.2.2.1⟩).trans (k8 j ⟨hj.1, hj.2.1, hj.2.2.1⟩)) (fun q hq => (o88 q hq).trans (o9 q hq))
end
