/-! the class's TOWN: the rows that are told -/
def sp_ix (c : Int) : Nat := if c = 107 then 0 else if c = 108 then 1 else if c = 120 then 2 else if c = 97 then 3 else if c = 98 then 4 else if c = 104 then 5 else if c = 115 then 6 else if c = 114 then 7 else 8
def sp_set (row : Nat → Int) (w : Nat) (v : Int) : Nat → Int := fun i => if i = w then v else row i
def sp_us : Nat → Int := fun w => if w = 1 ∨ w = 3 ∨ w = 4 then 10 else if w = 5 then 5 else if w = 8 then -1 else 0
def sp_row (rc : Nat → Nat → Int) (p : Nat) (row : Nat → Int) : Nat → Nat → Int := fun q => if q = p then row else rc q
/-- the row that a ROPE's text tells -/
noncomputable def sp_rv (f : Nat → Int32) (len : Nat) (p : Int) : Nat → Nat → (Nat → Int) → (Nat → Int)
  | 0, _, row => row
  | j + 1, n, row => match sp_rn f len p (row 1) (row 2) (sp_sg f len (sp_sk f len n)) (sp_sk f len n + 1) with
    | .inl _ => row
    | .inr q => if sp_sg f len (sp_sk f len q) = 44 then sp_rv f len p j (sp_sk f len q + 1) (sp_set row (sp_ix (sp_sg f len (sp_sk f len n))) (sp_num f len 3 (sp_sk f len n + 1)).2) else sp_set row (sp_ix (sp_sg f len (sp_sk f len n))) (sp_num f len 3 (sp_sk f len n + 1)).2
/-- the rows that a TOWN's text tells, from the ROPE p at place n on -/
noncomputable def sp_tv (f : Nat → Int32) (len : Nat) : Nat → Nat → Nat → (Nat → Nat → Int) → (Nat → Nat → Int)
  | 0, _, _, rc => rc
  | j + 1, p, n, rc => match sp_rp f len p 10 n 0 0 10 0 with
    | .inl _ => sp_row rc p (sp_rv f len p 10 n sp_us)
    | .inr q => if sp_sg f len (sp_sk f len q) = 0 then sp_row rc p (sp_rv f len p 10 n sp_us) else if p = 5 then sp_row rc p (sp_rv f len p 10 n sp_us) else sp_tv f len j (p + 1) (sp_sk f len q + 1) (sp_row rc p (sp_rv f len p 10 n sp_us))
theorem sp_row_s (rc : Nat → Nat → Int) (p : Nat) (row : Nat → Int) : sp_row rc p row p = row := if_pos rfl
theorem sp_row_n (rc : Nat → Nat → Int) {p q : Nat} (row : Nat → Int) (h : q ≠ p) : sp_row rc p row q = rc q := if_neg h
theorem sp_row_row (rc : Nat → Nat → Int) (p : Nat) (r1 r2 : Nat → Int) : sp_row (sp_row rc p r1) p r2 = sp_row rc p r2 := by
  funext q
  unfold sp_row
  split <;> rfl
theorem sp_set_s (row : Nat → Int) (w : Nat) (v : Int) : sp_set row w v w = v := if_pos rfl
theorem sp_set_n (row : Nat → Int) {w i : Nat} (v : Int) (h : i ≠ w) : sp_set row w v i = row i := if_neg h
section
variable {g : Nat → Int32} {rc : Nat → Nat → Int} {p q w i : Nat} {x : Int32} {row : Nat → Int}
theorem row_u (hx : x.toInt = row w) (hi : i = p) (h : (g q).toInt = rc q w) : (upd g i x q).toInt = sp_row rc p row q w := by
  subst hi
  by_cases e : q = i
  · subst e
    rw [pk_us, sp_row_s]
    exact hx
  · rw [pk_un e, sp_row_n _ _ e]
    exact h
theorem row_k (hx : row w = rc p w) (h : (g i).toInt = rc q w) : (g i).toInt = sp_row rc p row q w := by
  by_cases e : q = p
  · subst e
    rw [sp_row_s, hx]
    exact h
  · rw [sp_row_n _ _ e]
    exact h
theorem row_v (k : Nat) (hk : k < 2) (hx : x.toInt = row w) (hi : i = 2 * p + k) (h : (g (2 * q + k)).toInt = rc q w) : (upd g i x (2 * q + k)).toInt = sp_row rc p row q w := by
  subst hi
  by_cases e : q = p
  · subst e
    rw [pk_us, sp_row_s]
    exact hx
  · rw [pk_un (by omega), sp_row_n _ _ e]
    exact h
theorem row_o {j : Nat} {z : Int} (hn : j ≠ i) (h : (g j).toInt = z) : (upd g i x j).toInt = z := by
  rw [pk_un hn]
  exact h
end
/-- a plan's rows: all nine numbers of each ROPE -/
def pr (cA : Nat → ClassId) (h : ch_H) (a1 a2 a3 a4 a5 a6 a7 a8 : Nat) (rc : Nat → Nat → Int) : Prop := ∃ e1 e2 e3 e4 e5 e6 e7 e8 : Nat → Int32, h a1 = some (.inl (cA 0, 6, .inl e1)) ∧ h a2 = some (.inl (cA 0, 6, .inl e2)) ∧ h a3 = some (.inl (cA 0, 6, .inl e3)) ∧ h a4 = some (.inl (cA 0, 12, .inl e4)) ∧ h a5 = some (.inl (cA 0, 6, .inl e5)) ∧ h a6 = some (.inl (cA 0, 6, .inl e6)) ∧ h a7 = some (.inl (cA 0, 6, .inl e7)) ∧ h a8 = some (.inl (cA 0, 6, .inl e8)) ∧ ∀ q, q < 6 → (e1 q).toInt = rc q 0 ∧ (e2 q).toInt = rc q 1 ∧ (e3 q).toInt = rc q 2 ∧ (e4 (2 * q)).toInt = rc q 3 ∧ (e4 (2 * q + 1)).toInt = rc q 4 ∧ (e5 q).toInt = rc q 5 ∧ (e6 q).toInt = rc q 6 ∧ (e7 q).toInt = rc q 7 ∧ (e8 q).toInt = rc q 8

theorem pr.fr {cA : Nat → ClassId} {h h1 : ch_H} {t b P a1 a2 a3 a4 a5 a6 a7 a8 : Nat} {rc : Nat → Nat → Int} {sg : Nat → Nat} (H : pr cA h a1 a2 a3 a4 a5 a6 a7 a8 rc) (N : pns sg t b P a1 a2 a3 a4 a5 a6 a7 a8) (o : ∀ q, q ≠ t → h1 q = h q) : pr cA h1 a1 a2 a3 a4 a5 a6 a7 a8 rc := by
  obtain ⟨s_t, s_b, s_P, s_a1, s_a2, s_a3, s_a4, s_a5, s_a6, s_a7, s_a8⟩ := N
  obtain ⟨e1, e2, e3, e4, e5, e6, e7, e8, r1, r2, r3, r4, r5, r6, r7, r8, hr⟩ := H
  exact ⟨e1, e2, e3, e4, e5, e6, e7, e8, (o a1 (pn_ne s_a1 s_t (by decide))).trans r1, (o a2 (pn_ne s_a2 s_t (by decide))).trans r2, (o a3 (pn_ne s_a3 s_t (by decide))).trans r3, (o a4 (pn_ne s_a4 s_t (by decide))).trans r4, (o a5 (pn_ne s_a5 s_t (by decide))).trans r5, (o a6 (pn_ne s_a6 s_t (by decide))).trans r6, (o a7 (pn_ne s_a7 s_t (by decide))).trans r7, (o a8 (pn_ne s_a8 s_t (by decide))).trans r8, hr⟩
theorem pr.frP {cA : Nat → ClassId} {h h1 : ch_H} {t b P a1 a2 a3 a4 a5 a6 a7 a8 : Nat} {rc : Nat → Nat → Int} {sg : Nat → Nat} (H : pr cA h a1 a2 a3 a4 a5 a6 a7 a8 rc) (N : pns sg t b P a1 a2 a3 a4 a5 a6 a7 a8) (o : ∀ q, q ≠ P → h1 q = h q) : pr cA h1 a1 a2 a3 a4 a5 a6 a7 a8 rc := by
  obtain ⟨s_t, s_b, s_P, s_a1, s_a2, s_a3, s_a4, s_a5, s_a6, s_a7, s_a8⟩ := N
  obtain ⟨e1, e2, e3, e4, e5, e6, e7, e8, r1, r2, r3, r4, r5, r6, r7, r8, hr⟩ := H
  exact ⟨e1, e2, e3, e4, e5, e6, e7, e8, (o a1 (pn_ne s_a1 s_P (by decide))).trans r1, (o a2 (pn_ne s_a2 s_P (by decide))).trans r2, (o a3 (pn_ne s_a3 s_P (by decide))).trans r3, (o a4 (pn_ne s_a4 s_P (by decide))).trans r4, (o a5 (pn_ne s_a5 s_P (by decide))).trans r5, (o a6 (pn_ne s_a6 s_P (by decide))).trans r6, (o a7 (pn_ne s_a7 s_P (by decide))).trans r7, (o a8 (pn_ne s_a8 s_P (by decide))).trans r8, hr⟩
section
variable {l : Launch} {D : va_G} {tys : List (ClassId × FieldType)} {A : Nat → Prop} {X : State → Prop} {fr lo : Nat} {Q : Option Value → ch_H → Prop} {cA : Nat → ClassId} {h : ch_H} {t b P a1 a2 a3 a4 a5 a6 a7 a8 : Nat} {f g1 g2 g3 : Nat → Int32} {len at0 fl0 : Int32} {sg : Nat → Nat} {rc : Nat → Nat → Int}
theorem s_untoldV (hT : k_tys tys cA) {p : Int32} (hN : pns sg t b P a1 a2 a3 a4 a5 a6 a7 a8) (hp : 0 ≤ p.toInt ∧ p.toInt < 6) (H : pn cA h P a1 a2 a3 a4 a5 a6 a7 a8 g1 g2 g3) (R : pr cA h a1 a2 a3 a4 a5 a6 a7 a8 rc) (hq : ∀ (h1 : ch_H) (k1 k2 k3 : Nat → Int32), pn cA h1 P a1 a2 a3 a4 a5 a6 a7 a8 k1 k2 k3 → (k1 p.toInt.toNat).toInt = 0 → (k2 p.toInt.toNat).toInt = 10 → (k3 p.toInt.toNat).toInt = 0 → pr cA h1 a1 a2 a3 a4 a5 a6 a7 a8 (sp_row rc p.toInt.toNat sp_us) → (∀ q, sg q < 11 → h1 q = h q) → Q none h1) : ww l D tys A X fr lo mX4_untold Q 0 [(0, .ref P), (1, .int p)] [] h := by
  have N := hN
  obtain ⟨s_t, s_b, s_P, s_a1, s_a2, s_a3, s_a4, s_a5, s_a6, s_a7, s_a8⟩ := hN
  obtain ⟨⟨ro, c_P, ro1, ro2⟩, c_a1, c_a2, c_a3, ⟨g4, c_a4⟩, ⟨g5, c_a5⟩, ⟨g6, c_a6⟩, ⟨g7, c_a7⟩, ⟨g8, c_a8, g8b⟩, g2b⟩ := H
  obtain ⟨e1, e2, e3, e4, e5, e6, e7, e8, r1, r2, r3, r4, r5, r6, r7, r8, hr⟩ := R
  rw [c_a1] at r1
  cases r1
  rw [c_a2] at r2
  cases r2
  rw [c_a3] at r3
  cases r3
  rw [c_a4] at r4
  cases r4
  rw [c_a5] at r5
  cases r5
  rw [c_a6] at r6
  cases r6
  rw [c_a7] at r7
  cases r7
  rw [c_a8] at r8
  cases r8
  refine w_aload_n (List.Mem.head _) (tX4_untold_0_ok (0, .aload_n 0, 1) (List.mem_of_getElem? (i := 0) rfl)) ?_
  refine w_get (own := 9) rfl rfl (by decide) c_P rfl (tX4_untold_0_ok (1, .getfield 9, 3) (List.mem_of_getElem? (i := 1) rfl)) ?_
  refine w_iload_n (List.Mem.tail _ (List.Mem.head _)) (tX4_untold_0_ok (4, .iload_n 1, 1) (List.mem_of_getElem? (i := 2) rfl)) ?_
  refine w_iconst (by decide) (tX4_untold_0_ok (5, .iconst 0, 1) (List.mem_of_getElem? (i := 3) rfl)) (fun v1 e2 => ?_)
  refine w_iast hT c_a1 (by omega) (by omega) (tX4_untold_0_ok (6, .iastore, 1) (List.mem_of_getElem? (i := 4) rfl)) (fun h3 c4 o5 => ?_)
  have c6 := (o5 P (pn_ne s_P s_a1 (by decide))).trans c_P
  have c7 := (o5 a2 (pn_ne s_a2 s_a1 (by decide))).trans c_a2
  have c8 := (o5 a3 (pn_ne s_a3 s_a1 (by decide))).trans c_a3
  have c9 := (o5 a4 (pn_ne s_a4 s_a1 (by decide))).trans c_a4
  have c10 := (o5 a5 (pn_ne s_a5 s_a1 (by decide))).trans c_a5
  have c11 := (o5 a6 (pn_ne s_a6 s_a1 (by decide))).trans c_a6
  have c12 := (o5 a7 (pn_ne s_a7 s_a1 (by decide))).trans c_a7
  have c13 := (o5 a8 (pn_ne s_a8 s_a1 (by decide))).trans c_a8
  refine w_aload_n (List.Mem.head _) (tX4_untold_0_ok (7, .aload_n 0, 1) (List.mem_of_getElem? (i := 5) rfl)) ?_
  refine w_get (own := 9) rfl rfl (by decide) c6 rfl (tX4_untold_0_ok (8, .getfield 15, 3) (List.mem_of_getElem? (i := 6) rfl)) ?_
  refine w_iload_n (List.Mem.tail _ (List.Mem.head _)) (tX4_untold_0_ok (11, .iload_n 1, 1) (List.mem_of_getElem? (i := 7) rfl)) ?_
  refine w_bipush (by decide) (tX4_untold_0_ok (12, .bipush 10, 2) (List.mem_of_getElem? (i := 8) rfl)) (fun v14 e15 => ?_)
  refine w_iast hT c7 (by omega) (by omega) (tX4_untold_0_ok (14, .iastore, 1) (List.mem_of_getElem? (i := 9) rfl)) (fun h16 c17 o18 => ?_)
  have c19 := (o18 P (pn_ne s_P s_a2 (by decide))).trans c6
  have c20 := (o18 a1 (pn_ne s_a1 s_a2 (by decide))).trans c4
  have c21 := (o18 a3 (pn_ne s_a3 s_a2 (by decide))).trans c8
  have c22 := (o18 a4 (pn_ne s_a4 s_a2 (by decide))).trans c9
  have c23 := (o18 a5 (pn_ne s_a5 s_a2 (by decide))).trans c10
  have c24 := (o18 a6 (pn_ne s_a6 s_a2 (by decide))).trans c11
  have c25 := (o18 a7 (pn_ne s_a7 s_a2 (by decide))).trans c12
  have c26 := (o18 a8 (pn_ne s_a8 s_a2 (by decide))).trans c13
  refine w_aload_n (List.Mem.head _) (tX4_untold_0_ok (15, .aload_n 0, 1) (List.mem_of_getElem? (i := 10) rfl)) ?_
  refine w_get (own := 9) rfl rfl (by decide) c19 rfl (tX4_untold_0_ok (16, .getfield 18, 3) (List.mem_of_getElem? (i := 11) rfl)) ?_
  refine w_iload_n (List.Mem.tail _ (List.Mem.head _)) (tX4_untold_0_ok (19, .iload_n 1, 1) (List.mem_of_getElem? (i := 12) rfl)) ?_
  refine w_iconst (by decide) (tX4_untold_0_ok (20, .iconst 0, 1) (List.mem_of_getElem? (i := 13) rfl)) (fun v27 e28 => ?_)
  refine w_iast hT c21 (by omega) (by omega) (tX4_untold_0_ok (21, .iastore, 1) (List.mem_of_getElem? (i := 14) rfl)) (fun h29 c30 o31 => ?_)
  have c32 := (o31 P (pn_ne s_P s_a3 (by decide))).trans c19
  have c33 := (o31 a1 (pn_ne s_a1 s_a3 (by decide))).trans c20
  have c34 := (o31 a2 (pn_ne s_a2 s_a3 (by decide))).trans c17
  have c35 := (o31 a4 (pn_ne s_a4 s_a3 (by decide))).trans c22
  have c36 := (o31 a5 (pn_ne s_a5 s_a3 (by decide))).trans c23
  have c37 := (o31 a6 (pn_ne s_a6 s_a3 (by decide))).trans c24
  have c38 := (o31 a7 (pn_ne s_a7 s_a3 (by decide))).trans c25
  have c39 := (o31 a8 (pn_ne s_a8 s_a3 (by decide))).trans c26
  refine w_aload_n (List.Mem.head _) (tX4_untold_0_ok (22, .aload_n 0, 1) (List.mem_of_getElem? (i := 15) rfl)) ?_
  refine w_get (own := 9) rfl rfl (by decide) c32 rfl (tX4_untold_0_ok (23, .getfield 21, 3) (List.mem_of_getElem? (i := 16) rfl)) ?_
  refine w_iconst (by decide) (tX4_untold_0_ok (26, .iconst 2, 1) (List.mem_of_getElem? (i := 17) rfl)) (fun v40 e41 => ?_)
  refine w_iload_n (List.Mem.tail _ (List.Mem.head _)) (tX4_untold_0_ok (27, .iload_n 1, 1) (List.mem_of_getElem? (i := 18) rfl)) ?_
  refine w_imul (by assumption) (by omega) (by omega) (tX4_untold_0_ok (28, .imul, 1) (List.mem_of_getElem? (i := 19) rfl)) (fun v42 e43 => ?_)
  refine w_bipush (by decide) (tX4_untold_0_ok (29, .bipush 10, 2) (List.mem_of_getElem? (i := 20) rfl)) (fun v44 e45 => ?_)
  refine w_iast hT c35 (by omega) (by omega) (tX4_untold_0_ok (31, .iastore, 1) (List.mem_of_getElem? (i := 21) rfl)) (fun h46 c47 o48 => ?_)
  have c49 := (o48 P (pn_ne s_P s_a4 (by decide))).trans c32
  have c50 := (o48 a1 (pn_ne s_a1 s_a4 (by decide))).trans c33
  have c51 := (o48 a2 (pn_ne s_a2 s_a4 (by decide))).trans c34
  have c52 := (o48 a3 (pn_ne s_a3 s_a4 (by decide))).trans c30
  have c53 := (o48 a5 (pn_ne s_a5 s_a4 (by decide))).trans c36
  have c54 := (o48 a6 (pn_ne s_a6 s_a4 (by decide))).trans c37
  have c55 := (o48 a7 (pn_ne s_a7 s_a4 (by decide))).trans c38
  have c56 := (o48 a8 (pn_ne s_a8 s_a4 (by decide))).trans c39
  refine w_aload_n (List.Mem.head _) (tX4_untold_0_ok (32, .aload_n 0, 1) (List.mem_of_getElem? (i := 22) rfl)) ?_
  refine w_get (own := 9) rfl rfl (by decide) c49 rfl (tX4_untold_0_ok (33, .getfield 21, 3) (List.mem_of_getElem? (i := 23) rfl)) ?_
  refine w_iconst (by decide) (tX4_untold_0_ok (36, .iconst 2, 1) (List.mem_of_getElem? (i := 24) rfl)) (fun v57 e58 => ?_)
  refine w_iload_n (List.Mem.tail _ (List.Mem.head _)) (tX4_untold_0_ok (37, .iload_n 1, 1) (List.mem_of_getElem? (i := 25) rfl)) ?_
  refine w_imul (by assumption) (by omega) (by omega) (tX4_untold_0_ok (38, .imul, 1) (List.mem_of_getElem? (i := 26) rfl)) (fun v59 e60 => ?_)
  refine w_iconst (by decide) (tX4_untold_0_ok (39, .iconst 1, 1) (List.mem_of_getElem? (i := 27) rfl)) (fun v61 e62 => ?_)
  refine w_iadd (by omega) (by omega) (tX4_untold_0_ok (40, .iadd, 1) (List.mem_of_getElem? (i := 28) rfl)) (fun v63 e64 => ?_)
  refine w_bipush (by decide) (tX4_untold_0_ok (41, .bipush 10, 2) (List.mem_of_getElem? (i := 29) rfl)) (fun v65 e66 => ?_)
  refine w_iast hT c47 (by omega) (by omega) (tX4_untold_0_ok (43, .iastore, 1) (List.mem_of_getElem? (i := 30) rfl)) (fun h67 c68 o69 => ?_)
  have c70 := (o69 P (pn_ne s_P s_a4 (by decide))).trans c49
  have c71 := (o69 a1 (pn_ne s_a1 s_a4 (by decide))).trans c50
  have c72 := (o69 a2 (pn_ne s_a2 s_a4 (by decide))).trans c51
  have c73 := (o69 a3 (pn_ne s_a3 s_a4 (by decide))).trans c52
  have c74 := (o69 a5 (pn_ne s_a5 s_a4 (by decide))).trans c53
  have c75 := (o69 a6 (pn_ne s_a6 s_a4 (by decide))).trans c54
  have c76 := (o69 a7 (pn_ne s_a7 s_a4 (by decide))).trans c55
  have c77 := (o69 a8 (pn_ne s_a8 s_a4 (by decide))).trans c56
  refine w_aload_n (List.Mem.head _) (tX4_untold_0_ok (44, .aload_n 0, 1) (List.mem_of_getElem? (i := 31) rfl)) ?_
  refine w_get (own := 9) rfl rfl (by decide) c70 rfl (tX4_untold_0_ok (45, .getfield 24, 3) (List.mem_of_getElem? (i := 32) rfl)) ?_
  refine w_iload_n (List.Mem.tail _ (List.Mem.head _)) (tX4_untold_0_ok (48, .iload_n 1, 1) (List.mem_of_getElem? (i := 33) rfl)) ?_
  refine w_iconst (by decide) (tX4_untold_0_ok (49, .iconst 5, 1) (List.mem_of_getElem? (i := 34) rfl)) (fun v78 e79 => ?_)
  refine w_iast hT c74 (by omega) (by omega) (tX4_untold_0_ok (50, .iastore, 1) (List.mem_of_getElem? (i := 35) rfl)) (fun h80 c81 o82 => ?_)
  have c83 := (o82 P (pn_ne s_P s_a5 (by decide))).trans c70
  have c84 := (o82 a1 (pn_ne s_a1 s_a5 (by decide))).trans c71
  have c85 := (o82 a2 (pn_ne s_a2 s_a5 (by decide))).trans c72
  have c86 := (o82 a3 (pn_ne s_a3 s_a5 (by decide))).trans c73
  have c87 := (o82 a4 (pn_ne s_a4 s_a5 (by decide))).trans c68
  have c88 := (o82 a6 (pn_ne s_a6 s_a5 (by decide))).trans c75
  have c89 := (o82 a7 (pn_ne s_a7 s_a5 (by decide))).trans c76
  have c90 := (o82 a8 (pn_ne s_a8 s_a5 (by decide))).trans c77
  refine w_aload_n (List.Mem.head _) (tX4_untold_0_ok (51, .aload_n 0, 1) (List.mem_of_getElem? (i := 36) rfl)) ?_
  refine w_get (own := 9) rfl rfl (by decide) c83 rfl (tX4_untold_0_ok (52, .getfield 27, 3) (List.mem_of_getElem? (i := 37) rfl)) ?_
  refine w_iload_n (List.Mem.tail _ (List.Mem.head _)) (tX4_untold_0_ok (55, .iload_n 1, 1) (List.mem_of_getElem? (i := 38) rfl)) ?_
  refine w_iconst (by decide) (tX4_untold_0_ok (56, .iconst 0, 1) (List.mem_of_getElem? (i := 39) rfl)) (fun v91 e92 => ?_)
  refine w_iast hT c88 (by omega) (by omega) (tX4_untold_0_ok (57, .iastore, 1) (List.mem_of_getElem? (i := 40) rfl)) (fun h93 c94 o95 => ?_)
  have c96 := (o95 P (pn_ne s_P s_a6 (by decide))).trans c83
  have c97 := (o95 a1 (pn_ne s_a1 s_a6 (by decide))).trans c84
  have c98 := (o95 a2 (pn_ne s_a2 s_a6 (by decide))).trans c85
  have c99 := (o95 a3 (pn_ne s_a3 s_a6 (by decide))).trans c86
  have c100 := (o95 a4 (pn_ne s_a4 s_a6 (by decide))).trans c87
  have c101 := (o95 a5 (pn_ne s_a5 s_a6 (by decide))).trans c81
  have c102 := (o95 a7 (pn_ne s_a7 s_a6 (by decide))).trans c89
  have c103 := (o95 a8 (pn_ne s_a8 s_a6 (by decide))).trans c90
  refine w_aload_n (List.Mem.head _) (tX4_untold_0_ok (58, .aload_n 0, 1) (List.mem_of_getElem? (i := 41) rfl)) ?_
  refine w_get (own := 9) rfl rfl (by decide) c96 rfl (tX4_untold_0_ok (59, .getfield 30, 3) (List.mem_of_getElem? (i := 42) rfl)) ?_
  refine w_iload_n (List.Mem.tail _ (List.Mem.head _)) (tX4_untold_0_ok (62, .iload_n 1, 1) (List.mem_of_getElem? (i := 43) rfl)) ?_
  refine w_iconst (by decide) (tX4_untold_0_ok (63, .iconst 0, 1) (List.mem_of_getElem? (i := 44) rfl)) (fun v104 e105 => ?_)
  refine w_iast hT c102 (by omega) (by omega) (tX4_untold_0_ok (64, .iastore, 1) (List.mem_of_getElem? (i := 45) rfl)) (fun h106 c107 o108 => ?_)
  have c109 := (o108 P (pn_ne s_P s_a7 (by decide))).trans c96
  have c110 := (o108 a1 (pn_ne s_a1 s_a7 (by decide))).trans c97
  have c111 := (o108 a2 (pn_ne s_a2 s_a7 (by decide))).trans c98
  have c112 := (o108 a3 (pn_ne s_a3 s_a7 (by decide))).trans c99
  have c113 := (o108 a4 (pn_ne s_a4 s_a7 (by decide))).trans c100
  have c114 := (o108 a5 (pn_ne s_a5 s_a7 (by decide))).trans c101
  have c115 := (o108 a6 (pn_ne s_a6 s_a7 (by decide))).trans c94
  have c116 := (o108 a8 (pn_ne s_a8 s_a7 (by decide))).trans c103
  refine w_aload_n (List.Mem.head _) (tX4_untold_0_ok (65, .aload_n 0, 1) (List.mem_of_getElem? (i := 46) rfl)) ?_
  refine w_get (own := 9) rfl rfl (by decide) c109 rfl (tX4_untold_0_ok (66, .getfield 33, 3) (List.mem_of_getElem? (i := 47) rfl)) ?_
  refine w_iload_n (List.Mem.tail _ (List.Mem.head _)) (tX4_untold_0_ok (69, .iload_n 1, 1) (List.mem_of_getElem? (i := 48) rfl)) ?_
  refine w_iconst (by decide) (tX4_untold_0_ok (70, .iconst (-1), 1) (List.mem_of_getElem? (i := 49) rfl)) (fun v117 e118 => ?_)
  refine w_iast hT c116 (by omega) (by omega) (tX4_untold_0_ok (71, .iastore, 1) (List.mem_of_getElem? (i := 50) rfl)) (fun h119 c120 o121 => ?_)
  have c122 := (o121 P (pn_ne s_P s_a8 (by decide))).trans c109
  have c123 := (o121 a1 (pn_ne s_a1 s_a8 (by decide))).trans c110
  have c124 := (o121 a2 (pn_ne s_a2 s_a8 (by decide))).trans c111
  have c125 := (o121 a3 (pn_ne s_a3 s_a8 (by decide))).trans c112
  have c126 := (o121 a4 (pn_ne s_a4 s_a8 (by decide))).trans c113
  have c127 := (o121 a5 (pn_ne s_a5 s_a8 (by decide))).trans c114
  have c128 := (o121 a6 (pn_ne s_a6 s_a8 (by decide))).trans c115
  have c129 := (o121 a7 (pn_ne s_a7 s_a8 (by decide))).trans c107
  refine w_vret rfl (tX4_untold_0_ok (72, .return_, 1) (List.mem_of_getElem? (i := 51) rfl)) ?_
  refine hq h119 (upd g1 p.toInt.toNat v1) (upd g2 p.toInt.toNat v14) (upd g3 p.toInt.toNat v27) ⟨⟨_, c122, by omega, by omega⟩, c123, c124, c125, ⟨_, c126⟩, ⟨_, c127⟩, ⟨_, c128⟩, ⟨_, c129⟩, ⟨_, c120, (upd_bd g8b (by omega))⟩, (upd_bd g2b (by omega))⟩ ?_ ?_ ?_ ⟨_, _, _, _, _, _, _, _, c123, c124, c125, c126, c127, c128, c129, c120, fun q hq => ⟨?_, ?_, ?_, ?_, ?_, ?_, ?_, ?_, ?_⟩⟩ (fun q hq => (o121 q (pn_nl hq s_a8 (by decide))).trans ((o108 q (pn_nl hq s_a7 (by decide))).trans ((o95 q (pn_nl hq s_a6 (by decide))).trans ((o82 q (pn_nl hq s_a5 (by decide))).trans ((o69 q (pn_nl hq s_a4 (by decide))).trans ((o48 q (pn_nl hq s_a4 (by decide))).trans ((o31 q (pn_nl hq s_a3 (by decide))).trans ((o18 q (pn_nl hq s_a2 (by decide))).trans (o5 q (pn_nl hq s_a1 (by decide)))))))))))
  · rw [upd_s]; omega
  · rw [upd_s]; omega
  · rw [upd_s]; omega
  · exact row_u (row := sp_us) (w := 0) (show _ = (0 : Int) by omega) rfl (hr q hq).1
  · exact row_u (row := sp_us) (w := 1) (show _ = (10 : Int) by omega) rfl (hr q hq).2.1
  · exact row_u (row := sp_us) (w := 2) (show _ = (0 : Int) by omega) rfl (hr q hq).2.2.1
  · exact row_o (by omega) (row_v 0 (by decide) (row := sp_us) (w := 3) (show _ = (10 : Int) by omega) (by omega) (hr q hq).2.2.2.1)
  · exact row_v 1 (by decide) (row := sp_us) (w := 4) (show _ = (10 : Int) by omega) (by omega) (row_o (by omega) (hr q hq).2.2.2.2.1)
  · exact row_u (row := sp_us) (w := 5) (show _ = (5 : Int) by omega) rfl (hr q hq).2.2.2.2.2.1
  · exact row_u (row := sp_us) (w := 6) (show _ = (0 : Int) by omega) rfl (hr q hq).2.2.2.2.2.2.1
  · exact row_u (row := sp_us) (w := 7) (show _ = (0 : Int) by omega) rfl (hr q hq).2.2.2.2.2.2.2.1
  · exact row_u (row := sp_us) (w := 8) (show _ = (-1 : Int) by omega) rfl (hr q hq).2.2.2.2.2.2.2.2
theorem s_tellV (hT : k_tys tys cA) {p c v : Int32} (hN : pns sg t b P a1 a2 a3 a4 a5 a6 a7 a8) (hp : 0 ≤ p.toInt ∧ p.toInt < 6) (hc : sp_ltr c.toInt) (hv : 0 ≤ v.toInt) (hk : sp_ok p.toInt (g2 p.toInt.toNat).toInt (g3 p.toInt.toNat).toInt c.toInt v.toInt) (H : pn cA h P a1 a2 a3 a4 a5 a6 a7 a8 g1 g2 g3) (R : pr cA h a1 a2 a3 a4 a5 a6 a7 a8 rc) (hq : ∀ (h1 : ch_H) (k1 k2 k3 : Nat → Int32), pn cA h1 P a1 a2 a3 a4 a5 a6 a7 a8 k1 k2 k3 → (k1 p.toInt.toNat).toInt = sp_kv 107 c.toInt v.toInt (g1 p.toInt.toNat).toInt → (k2 p.toInt.toNat).toInt = sp_kv 108 c.toInt v.toInt (g2 p.toInt.toNat).toInt → (k3 p.toInt.toNat).toInt = sp_kv 120 c.toInt v.toInt (g3 p.toInt.toNat).toInt → pr cA h1 a1 a2 a3 a4 a5 a6 a7 a8 (sp_row rc p.toInt.toNat (sp_set (rc p.toInt.toNat) (sp_ix c.toInt) v.toInt)) → (∀ q, sg q < 11 → h1 q = h q) → Q none h1) : ww l D tys A X fr lo mX4_tell Q 0 [(0, .ref P), (1, .int p), (2, .int c), (3, .int v)] [] h := by
  have N := hN
  obtain ⟨s_t, s_b, s_P, s_a1, s_a2, s_a3, s_a4, s_a5, s_a6, s_a7, s_a8⟩ := hN
  obtain ⟨⟨ro, c_P, ro1, ro2⟩, c_a1, c_a2, c_a3, ⟨g4, c_a4⟩, ⟨g5, c_a5⟩, ⟨g6, c_a6⟩, ⟨g7, c_a7⟩, ⟨g8, c_a8, g8b⟩, g2b⟩ := H
  obtain ⟨e1, e2, e3, e4, e5, e6, e7, e8, r1, r2, r3, r4, r5, r6, r7, r8, hr⟩ := R
  rw [c_a1] at r1
  cases r1
  rw [c_a2] at r2
  cases r2
  rw [c_a3] at r3
  cases r3
  rw [c_a4] at r4
  cases r4
  rw [c_a5] at r5
  cases r5
  rw [c_a6] at r6
  cases r6
  rw [c_a7] at r7
  cases r7
  rw [c_a8] at r8
  cases r8
  refine w_iload_n (List.Mem.tail _ (List.Mem.tail _ (List.Mem.head _))) (tX4_tell_0_ok (0, .iload_n 2, 1) (List.mem_of_getElem? (i := 0) rfl)) ?_
  have b1 : (c.toInt < 97 ∨ 120 < c.toInt) ∨ c.toInt = 97 ∨ c.toInt = 98 ∨ c.toInt = 99 ∨ c.toInt = 100 ∨ c.toInt = 101 ∨ c.toInt = 102 ∨ c.toInt = 103 ∨ c.toInt = 104 ∨ c.toInt = 105 ∨ c.toInt = 106 ∨ c.toInt = 107 ∨ c.toInt = 108 ∨ c.toInt = 109 ∨ c.toInt = 110 ∨ c.toInt = 111 ∨ c.toInt = 112 ∨ c.toInt = 113 ∨ c.toInt = 114 ∨ c.toInt = 115 ∨ c.toInt = 116 ∨ c.toInt = 117 ∨ c.toInt = 118 ∨ c.toInt = 119 ∨ c.toInt = 120 := by omega
  rcases b1 with b1 | b1 | b1 | b1 | b1 | b1 | b1 | b1 | b1 | b1 | b1 | b1 | b1 | b1 | b1 | b1 | b1 | b1 | b1 | b1 | b1 | b1 | b1 | b1 | b1
  · exfalso; unfold sp_ltr at hc; omega
  · refine w_tabIn (tgt := 142) (tX4_tell_0_ok (1, .tableswitch 197 97 120 #[141, 153, 197, 197, 197, 197, 197, 167, 197, 197, 111, 121, 197, 197, 197, 197, 197, 187, 177, 197, 197, 197, 197, 131], 111) (List.mem_of_getElem? (i := 1) rfl)) b1 (by decide) (by decide) rfl rfl ?_
    refine w_aload_n (List.Mem.head _) (tX4_tell_0_ok (142, .aload_n 0, 1) (List.mem_of_getElem? (i := 20) rfl)) ?_
    refine w_get (own := 9) rfl rfl (by decide) c_P rfl (tX4_tell_0_ok (143, .getfield 21, 3) (List.mem_of_getElem? (i := 21) rfl)) ?_
    refine w_iconst (by decide) (tX4_tell_0_ok (146, .iconst 2, 1) (List.mem_of_getElem? (i := 22) rfl)) (fun v2 e3 => ?_)
    refine w_iload_n (List.Mem.tail _ (List.Mem.head _)) (tX4_tell_0_ok (147, .iload_n 1, 1) (List.mem_of_getElem? (i := 23) rfl)) ?_
    refine w_imul (by assumption) (by omega) (by omega) (tX4_tell_0_ok (148, .imul, 1) (List.mem_of_getElem? (i := 24) rfl)) (fun v4 e5 => ?_)
    refine w_iload_n (List.Mem.tail _ (List.Mem.tail _ (List.Mem.tail _ (List.Mem.head _)))) (tX4_tell_0_ok (149, .iload_n 3, 1) (List.mem_of_getElem? (i := 25) rfl)) ?_
    refine w_iast hT c_a4 (by omega) (by omega) (tX4_tell_0_ok (150, .iastore, 1) (List.mem_of_getElem? (i := 26) rfl)) (fun h6 c7 o8 => ?_)
    have c9 := (o8 P (pn_ne s_P s_a4 (by decide))).trans c_P
    have c10 := (o8 a1 (pn_ne s_a1 s_a4 (by decide))).trans c_a1
    have c11 := (o8 a2 (pn_ne s_a2 s_a4 (by decide))).trans c_a2
    have c12 := (o8 a3 (pn_ne s_a3 s_a4 (by decide))).trans c_a3
    have c13 := (o8 a5 (pn_ne s_a5 s_a4 (by decide))).trans c_a5
    have c14 := (o8 a6 (pn_ne s_a6 s_a4 (by decide))).trans c_a6
    have c15 := (o8 a7 (pn_ne s_a7 s_a4 (by decide))).trans c_a7
    have c16 := (o8 a8 (pn_ne s_a8 s_a4 (by decide))).trans c_a8
    refine w_goto (tgt := 205) (tX4_tell_0_ok (151, .goto 54, 3) (List.mem_of_getElem? (i := 27) rfl)) rfl ?_
    refine w_vret rfl (tX4_tell_1_ok (205, .return_, 1) (List.mem_of_getElem? (i := 1) rfl)) ?_
    have k9 := (sp_ok_97 b1).mp hk
    have x9 : sp_ix c.toInt = 3 := by rw [b1]; rfl
    refine hq h6 g1 g2 g3 ⟨⟨_, c9, by omega, by omega⟩, c10, c11, c12, ⟨_, c7⟩, ⟨_, c13⟩, ⟨_, c14⟩, ⟨_, c15⟩, ⟨_, c16, g8b⟩, g2b⟩ ?_ ?_ ?_ ⟨_, _, _, _, _, _, _, _, c10, c11, c12, c7, c13, c14, c15, c16, fun q hq => ⟨?_, ?_, ?_, ?_, ?_, ?_, ?_, ?_, ?_⟩⟩ (fun q hq => o8 q (pn_nl hq s_a4 (by decide)))
    · unfold sp_kv; rw [if_neg (by omega)]
    · unfold sp_kv; rw [if_neg (by omega)]
    · unfold sp_kv; rw [if_neg (by omega)]
    · exact row_k (sp_set_n _ _ (by rw [x9]; decide)) (hr q hq).1
    · exact row_k (sp_set_n _ _ (by rw [x9]; decide)) (hr q hq).2.1
    · exact row_k (sp_set_n _ _ (by rw [x9]; decide)) (hr q hq).2.2.1
    · exact row_v 0 (by decide) (by rw [x9]; exact (sp_set_s _ _ _).symm) (by omega) (hr q hq).2.2.2.1
    · exact row_o (by omega) (row_k (g := g4) (i := 2 * q + 1) (sp_set_n _ _ (by rw [x9]; decide)) (hr q hq).2.2.2.2.1)
    · exact row_k (sp_set_n _ _ (by rw [x9]; decide)) (hr q hq).2.2.2.2.2.1
    · exact row_k (sp_set_n _ _ (by rw [x9]; decide)) (hr q hq).2.2.2.2.2.2.1
    · exact row_k (sp_set_n _ _ (by rw [x9]; decide)) (hr q hq).2.2.2.2.2.2.2.1
    · exact row_k (sp_set_n _ _ (by rw [x9]; decide)) (hr q hq).2.2.2.2.2.2.2.2
  · refine w_tabIn (tgt := 154) (tX4_tell_0_ok (1, .tableswitch 197 97 120 #[141, 153, 197, 197, 197, 197, 197, 167, 197, 197, 111, 121, 197, 197, 197, 197, 197, 187, 177, 197, 197, 197, 197, 131], 111) (List.mem_of_getElem? (i := 1) rfl)) b1 (by decide) (by decide) rfl rfl ?_
    refine w_aload_n (List.Mem.head _) (tX4_tell_0_ok (154, .aload_n 0, 1) (List.mem_of_getElem? (i := 28) rfl)) ?_
    refine w_get (own := 9) rfl rfl (by decide) c_P rfl (tX4_tell_0_ok (155, .getfield 21, 3) (List.mem_of_getElem? (i := 29) rfl)) ?_
    refine w_iconst (by decide) (tX4_tell_0_ok (158, .iconst 2, 1) (List.mem_of_getElem? (i := 30) rfl)) (fun v17 e18 => ?_)
    refine w_iload_n (List.Mem.tail _ (List.Mem.head _)) (tX4_tell_0_ok (159, .iload_n 1, 1) (List.mem_of_getElem? (i := 31) rfl)) ?_
    refine w_imul (by assumption) (by omega) (by omega) (tX4_tell_0_ok (160, .imul, 1) (List.mem_of_getElem? (i := 32) rfl)) (fun v19 e20 => ?_)
    refine w_iconst (by decide) (tX4_tell_0_ok (161, .iconst 1, 1) (List.mem_of_getElem? (i := 33) rfl)) (fun v21 e22 => ?_)
    refine w_iadd (by omega) (by omega) (tX4_tell_0_ok (162, .iadd, 1) (List.mem_of_getElem? (i := 34) rfl)) (fun v23 e24 => ?_)
    refine w_iload_n (List.Mem.tail _ (List.Mem.tail _ (List.Mem.tail _ (List.Mem.head _)))) (tX4_tell_0_ok (163, .iload_n 3, 1) (List.mem_of_getElem? (i := 35) rfl)) ?_
    refine w_iast hT c_a4 (by omega) (by omega) (tX4_tell_0_ok (164, .iastore, 1) (List.mem_of_getElem? (i := 36) rfl)) (fun h25 c26 o27 => ?_)
    have c28 := (o27 P (pn_ne s_P s_a4 (by decide))).trans c_P
    have c29 := (o27 a1 (pn_ne s_a1 s_a4 (by decide))).trans c_a1
    have c30 := (o27 a2 (pn_ne s_a2 s_a4 (by decide))).trans c_a2
    have c31 := (o27 a3 (pn_ne s_a3 s_a4 (by decide))).trans c_a3
    have c32 := (o27 a5 (pn_ne s_a5 s_a4 (by decide))).trans c_a5
    have c33 := (o27 a6 (pn_ne s_a6 s_a4 (by decide))).trans c_a6
    have c34 := (o27 a7 (pn_ne s_a7 s_a4 (by decide))).trans c_a7
    have c35 := (o27 a8 (pn_ne s_a8 s_a4 (by decide))).trans c_a8
    refine w_goto (tgt := 205) (tX4_tell_0_ok (165, .goto 40, 3) (List.mem_of_getElem? (i := 37) rfl)) rfl ?_
    refine w_vret rfl (tX4_tell_1_ok (205, .return_, 1) (List.mem_of_getElem? (i := 1) rfl)) ?_
    have k9 := (sp_ok_98 b1).mp hk
    have x9 : sp_ix c.toInt = 4 := by rw [b1]; rfl
    refine hq h25 g1 g2 g3 ⟨⟨_, c28, by omega, by omega⟩, c29, c30, c31, ⟨_, c26⟩, ⟨_, c32⟩, ⟨_, c33⟩, ⟨_, c34⟩, ⟨_, c35, g8b⟩, g2b⟩ ?_ ?_ ?_ ⟨_, _, _, _, _, _, _, _, c29, c30, c31, c26, c32, c33, c34, c35, fun q hq => ⟨?_, ?_, ?_, ?_, ?_, ?_, ?_, ?_, ?_⟩⟩ (fun q hq => o27 q (pn_nl hq s_a4 (by decide)))
    · unfold sp_kv; rw [if_neg (by omega)]
    · unfold sp_kv; rw [if_neg (by omega)]
    · unfold sp_kv; rw [if_neg (by omega)]
    · exact row_k (sp_set_n _ _ (by rw [x9]; decide)) (hr q hq).1
    · exact row_k (sp_set_n _ _ (by rw [x9]; decide)) (hr q hq).2.1
    · exact row_k (sp_set_n _ _ (by rw [x9]; decide)) (hr q hq).2.2.1
    · exact row_o (by omega) (row_k (g := g4) (i := 2 * q) (sp_set_n _ _ (by rw [x9]; decide)) (hr q hq).2.2.2.1)
    · exact row_v 1 (by decide) (by rw [x9]; exact (sp_set_s _ _ _).symm) (by omega) (hr q hq).2.2.2.2.1
    · exact row_k (sp_set_n _ _ (by rw [x9]; decide)) (hr q hq).2.2.2.2.2.1
    · exact row_k (sp_set_n _ _ (by rw [x9]; decide)) (hr q hq).2.2.2.2.2.2.1
    · exact row_k (sp_set_n _ _ (by rw [x9]; decide)) (hr q hq).2.2.2.2.2.2.2.1
    · exact row_k (sp_set_n _ _ (by rw [x9]; decide)) (hr q hq).2.2.2.2.2.2.2.2
  · exfalso; unfold sp_ltr at hc; omega
  · exfalso; unfold sp_ltr at hc; omega
  · exfalso; unfold sp_ltr at hc; omega
  · exfalso; unfold sp_ltr at hc; omega
  · exfalso; unfold sp_ltr at hc; omega
  · refine w_tabIn (tgt := 168) (tX4_tell_0_ok (1, .tableswitch 197 97 120 #[141, 153, 197, 197, 197, 197, 197, 167, 197, 197, 111, 121, 197, 197, 197, 197, 197, 187, 177, 197, 197, 197, 197, 131], 111) (List.mem_of_getElem? (i := 1) rfl)) b1 (by decide) (by decide) rfl rfl ?_
    refine w_aload_n (List.Mem.head _) (tX4_tell_0_ok (168, .aload_n 0, 1) (List.mem_of_getElem? (i := 38) rfl)) ?_
    refine w_get (own := 9) rfl rfl (by decide) c_P rfl (tX4_tell_0_ok (169, .getfield 24, 3) (List.mem_of_getElem? (i := 39) rfl)) ?_
    refine w_iload_n (List.Mem.tail _ (List.Mem.head _)) (tX4_tell_0_ok (172, .iload_n 1, 1) (List.mem_of_getElem? (i := 40) rfl)) ?_
    refine w_iload_n (List.Mem.tail _ (List.Mem.tail _ (List.Mem.tail _ (List.Mem.head _)))) (tX4_tell_0_ok (173, .iload_n 3, 1) (List.mem_of_getElem? (i := 41) rfl)) ?_
    refine w_iast hT c_a5 (by omega) (by omega) (tX4_tell_0_ok (174, .iastore, 1) (List.mem_of_getElem? (i := 42) rfl)) (fun h36 c37 o38 => ?_)
    have c39 := (o38 P (pn_ne s_P s_a5 (by decide))).trans c_P
    have c40 := (o38 a1 (pn_ne s_a1 s_a5 (by decide))).trans c_a1
    have c41 := (o38 a2 (pn_ne s_a2 s_a5 (by decide))).trans c_a2
    have c42 := (o38 a3 (pn_ne s_a3 s_a5 (by decide))).trans c_a3
    have c43 := (o38 a4 (pn_ne s_a4 s_a5 (by decide))).trans c_a4
    have c44 := (o38 a6 (pn_ne s_a6 s_a5 (by decide))).trans c_a6
    have c45 := (o38 a7 (pn_ne s_a7 s_a5 (by decide))).trans c_a7
    have c46 := (o38 a8 (pn_ne s_a8 s_a5 (by decide))).trans c_a8
    refine w_goto (tgt := 205) (tX4_tell_0_ok (175, .goto 30, 3) (List.mem_of_getElem? (i := 43) rfl)) rfl ?_
    refine w_vret rfl (tX4_tell_1_ok (205, .return_, 1) (List.mem_of_getElem? (i := 1) rfl)) ?_
    have k9 := (sp_ok_104 b1).mp hk
    have x9 : sp_ix c.toInt = 5 := by rw [b1]; rfl
    refine hq h36 g1 g2 g3 ⟨⟨_, c39, by omega, by omega⟩, c40, c41, c42, ⟨_, c43⟩, ⟨_, c37⟩, ⟨_, c44⟩, ⟨_, c45⟩, ⟨_, c46, g8b⟩, g2b⟩ ?_ ?_ ?_ ⟨_, _, _, _, _, _, _, _, c40, c41, c42, c43, c37, c44, c45, c46, fun q hq => ⟨?_, ?_, ?_, ?_, ?_, ?_, ?_, ?_, ?_⟩⟩ (fun q hq => o38 q (pn_nl hq s_a5 (by decide)))
    · unfold sp_kv; rw [if_neg (by omega)]
    · unfold sp_kv; rw [if_neg (by omega)]
    · unfold sp_kv; rw [if_neg (by omega)]
    · exact row_k (sp_set_n _ _ (by rw [x9]; decide)) (hr q hq).1
    · exact row_k (sp_set_n _ _ (by rw [x9]; decide)) (hr q hq).2.1
    · exact row_k (sp_set_n _ _ (by rw [x9]; decide)) (hr q hq).2.2.1
    · exact row_k (sp_set_n _ _ (by rw [x9]; decide)) (hr q hq).2.2.2.1
    · exact row_k (sp_set_n _ _ (by rw [x9]; decide)) (hr q hq).2.2.2.2.1
    · exact row_u (by rw [x9]; exact (sp_set_s _ _ _).symm) rfl (hr q hq).2.2.2.2.2.1
    · exact row_k (sp_set_n _ _ (by rw [x9]; decide)) (hr q hq).2.2.2.2.2.2.1
    · exact row_k (sp_set_n _ _ (by rw [x9]; decide)) (hr q hq).2.2.2.2.2.2.2.1
    · exact row_k (sp_set_n _ _ (by rw [x9]; decide)) (hr q hq).2.2.2.2.2.2.2.2
  · exfalso; unfold sp_ltr at hc; omega
  · exfalso; unfold sp_ltr at hc; omega
  · refine w_tabIn (tgt := 112) (tX4_tell_0_ok (1, .tableswitch 197 97 120 #[141, 153, 197, 197, 197, 197, 197, 167, 197, 197, 111, 121, 197, 197, 197, 197, 197, 187, 177, 197, 197, 197, 197, 131], 111) (List.mem_of_getElem? (i := 1) rfl)) b1 (by decide) (by decide) rfl rfl ?_
    refine w_aload_n (List.Mem.head _) (tX4_tell_0_ok (112, .aload_n 0, 1) (List.mem_of_getElem? (i := 2) rfl)) ?_
    refine w_get (own := 9) rfl rfl (by decide) c_P rfl (tX4_tell_0_ok (113, .getfield 9, 3) (List.mem_of_getElem? (i := 3) rfl)) ?_
    refine w_iload_n (List.Mem.tail _ (List.Mem.head _)) (tX4_tell_0_ok (116, .iload_n 1, 1) (List.mem_of_getElem? (i := 4) rfl)) ?_
    refine w_iload_n (List.Mem.tail _ (List.Mem.tail _ (List.Mem.tail _ (List.Mem.head _)))) (tX4_tell_0_ok (117, .iload_n 3, 1) (List.mem_of_getElem? (i := 5) rfl)) ?_
    refine w_iast hT c_a1 (by omega) (by omega) (tX4_tell_0_ok (118, .iastore, 1) (List.mem_of_getElem? (i := 6) rfl)) (fun h47 c48 o49 => ?_)
    have c50 := (o49 P (pn_ne s_P s_a1 (by decide))).trans c_P
    have c51 := (o49 a2 (pn_ne s_a2 s_a1 (by decide))).trans c_a2
    have c52 := (o49 a3 (pn_ne s_a3 s_a1 (by decide))).trans c_a3
    have c53 := (o49 a4 (pn_ne s_a4 s_a1 (by decide))).trans c_a4
    have c54 := (o49 a5 (pn_ne s_a5 s_a1 (by decide))).trans c_a5
    have c55 := (o49 a6 (pn_ne s_a6 s_a1 (by decide))).trans c_a6
    have c56 := (o49 a7 (pn_ne s_a7 s_a1 (by decide))).trans c_a7
    have c57 := (o49 a8 (pn_ne s_a8 s_a1 (by decide))).trans c_a8
    refine w_goto (tgt := 205) (tX4_tell_0_ok (119, .goto 86, 3) (List.mem_of_getElem? (i := 7) rfl)) rfl ?_
    refine w_vret rfl (tX4_tell_1_ok (205, .return_, 1) (List.mem_of_getElem? (i := 1) rfl)) ?_
    have k9 := (sp_ok_107 b1).mp hk
    have x9 : sp_ix c.toInt = 0 := by rw [b1]; rfl
    refine hq h47 (upd g1 p.toInt.toNat v) g2 g3 ⟨⟨_, c50, by omega, by omega⟩, c48, c51, c52, ⟨_, c53⟩, ⟨_, c54⟩, ⟨_, c55⟩, ⟨_, c56⟩, ⟨_, c57, g8b⟩, g2b⟩ ?_ ?_ ?_ ⟨_, _, _, _, _, _, _, _, c48, c51, c52, c53, c54, c55, c56, c57, fun q hq => ⟨?_, ?_, ?_, ?_, ?_, ?_, ?_, ?_, ?_⟩⟩ (fun q hq => o49 q (pn_nl hq s_a1 (by decide)))
    · unfold sp_kv; rw [upd_s, if_pos (by omega)]
    · unfold sp_kv; rw [if_neg (by omega)]
    · unfold sp_kv; rw [if_neg (by omega)]
    · exact row_u (by rw [x9]; exact (sp_set_s _ _ _).symm) rfl (hr q hq).1
    · exact row_k (sp_set_n _ _ (by rw [x9]; decide)) (hr q hq).2.1
    · exact row_k (sp_set_n _ _ (by rw [x9]; decide)) (hr q hq).2.2.1
    · exact row_k (sp_set_n _ _ (by rw [x9]; decide)) (hr q hq).2.2.2.1
    · exact row_k (sp_set_n _ _ (by rw [x9]; decide)) (hr q hq).2.2.2.2.1
    · exact row_k (sp_set_n _ _ (by rw [x9]; decide)) (hr q hq).2.2.2.2.2.1
    · exact row_k (sp_set_n _ _ (by rw [x9]; decide)) (hr q hq).2.2.2.2.2.2.1
    · exact row_k (sp_set_n _ _ (by rw [x9]; decide)) (hr q hq).2.2.2.2.2.2.2.1
    · exact row_k (sp_set_n _ _ (by rw [x9]; decide)) (hr q hq).2.2.2.2.2.2.2.2
  · refine w_tabIn (tgt := 122) (tX4_tell_0_ok (1, .tableswitch 197 97 120 #[141, 153, 197, 197, 197, 197, 197, 167, 197, 197, 111, 121, 197, 197, 197, 197, 197, 187, 177, 197, 197, 197, 197, 131], 111) (List.mem_of_getElem? (i := 1) rfl)) b1 (by decide) (by decide) rfl rfl ?_
    refine w_aload_n (List.Mem.head _) (tX4_tell_0_ok (122, .aload_n 0, 1) (List.mem_of_getElem? (i := 8) rfl)) ?_
    refine w_get (own := 9) rfl rfl (by decide) c_P rfl (tX4_tell_0_ok (123, .getfield 15, 3) (List.mem_of_getElem? (i := 9) rfl)) ?_
    refine w_iload_n (List.Mem.tail _ (List.Mem.head _)) (tX4_tell_0_ok (126, .iload_n 1, 1) (List.mem_of_getElem? (i := 10) rfl)) ?_
    refine w_iload_n (List.Mem.tail _ (List.Mem.tail _ (List.Mem.tail _ (List.Mem.head _)))) (tX4_tell_0_ok (127, .iload_n 3, 1) (List.mem_of_getElem? (i := 11) rfl)) ?_
    refine w_iast hT c_a2 (by omega) (by omega) (tX4_tell_0_ok (128, .iastore, 1) (List.mem_of_getElem? (i := 12) rfl)) (fun h58 c59 o60 => ?_)
    have c61 := (o60 P (pn_ne s_P s_a2 (by decide))).trans c_P
    have c62 := (o60 a1 (pn_ne s_a1 s_a2 (by decide))).trans c_a1
    have c63 := (o60 a3 (pn_ne s_a3 s_a2 (by decide))).trans c_a3
    have c64 := (o60 a4 (pn_ne s_a4 s_a2 (by decide))).trans c_a4
    have c65 := (o60 a5 (pn_ne s_a5 s_a2 (by decide))).trans c_a5
    have c66 := (o60 a6 (pn_ne s_a6 s_a2 (by decide))).trans c_a6
    have c67 := (o60 a7 (pn_ne s_a7 s_a2 (by decide))).trans c_a7
    have c68 := (o60 a8 (pn_ne s_a8 s_a2 (by decide))).trans c_a8
    refine w_goto (tgt := 205) (tX4_tell_0_ok (129, .goto 76, 3) (List.mem_of_getElem? (i := 13) rfl)) rfl ?_
    refine w_vret rfl (tX4_tell_1_ok (205, .return_, 1) (List.mem_of_getElem? (i := 1) rfl)) ?_
    have k9 := (sp_ok_108 b1).mp hk
    have x9 : sp_ix c.toInt = 1 := by rw [b1]; rfl
    refine hq h58 g1 (upd g2 p.toInt.toNat v) g3 ⟨⟨_, c61, by omega, by omega⟩, c62, c59, c63, ⟨_, c64⟩, ⟨_, c65⟩, ⟨_, c66⟩, ⟨_, c67⟩, ⟨_, c68, g8b⟩, (upd_bd g2b (by omega))⟩ ?_ ?_ ?_ ⟨_, _, _, _, _, _, _, _, c62, c59, c63, c64, c65, c66, c67, c68, fun q hq => ⟨?_, ?_, ?_, ?_, ?_, ?_, ?_, ?_, ?_⟩⟩ (fun q hq => o60 q (pn_nl hq s_a2 (by decide)))
    · unfold sp_kv; rw [if_neg (by omega)]
    · unfold sp_kv; rw [upd_s, if_pos (by omega)]
    · unfold sp_kv; rw [if_neg (by omega)]
    · exact row_k (sp_set_n _ _ (by rw [x9]; decide)) (hr q hq).1
    · exact row_u (by rw [x9]; exact (sp_set_s _ _ _).symm) rfl (hr q hq).2.1
    · exact row_k (sp_set_n _ _ (by rw [x9]; decide)) (hr q hq).2.2.1
    · exact row_k (sp_set_n _ _ (by rw [x9]; decide)) (hr q hq).2.2.2.1
    · exact row_k (sp_set_n _ _ (by rw [x9]; decide)) (hr q hq).2.2.2.2.1
    · exact row_k (sp_set_n _ _ (by rw [x9]; decide)) (hr q hq).2.2.2.2.2.1
    · exact row_k (sp_set_n _ _ (by rw [x9]; decide)) (hr q hq).2.2.2.2.2.2.1
    · exact row_k (sp_set_n _ _ (by rw [x9]; decide)) (hr q hq).2.2.2.2.2.2.2.1
    · exact row_k (sp_set_n _ _ (by rw [x9]; decide)) (hr q hq).2.2.2.2.2.2.2.2
  · exfalso; unfold sp_ltr at hc; omega
  · exfalso; unfold sp_ltr at hc; omega
  · exfalso; unfold sp_ltr at hc; omega
  · exfalso; unfold sp_ltr at hc; omega
  · exfalso; unfold sp_ltr at hc; omega
  · refine w_tabIn (tgt := 188) (tX4_tell_0_ok (1, .tableswitch 197 97 120 #[141, 153, 197, 197, 197, 197, 197, 167, 197, 197, 111, 121, 197, 197, 197, 197, 197, 187, 177, 197, 197, 197, 197, 131], 111) (List.mem_of_getElem? (i := 1) rfl)) b1 (by decide) (by decide) rfl rfl ?_
    refine w_aload_n (List.Mem.head _) (tX4_tell_0_ok (188, .aload_n 0, 1) (List.mem_of_getElem? (i := 50) rfl)) ?_
    refine w_get (own := 9) rfl rfl (by decide) c_P rfl (tX4_tell_0_ok (189, .getfield 30, 3) (List.mem_of_getElem? (i := 51) rfl)) ?_
    refine w_iload_n (List.Mem.tail _ (List.Mem.head _)) (tX4_tell_0_ok (192, .iload_n 1, 1) (List.mem_of_getElem? (i := 52) rfl)) ?_
    refine w_iload_n (List.Mem.tail _ (List.Mem.tail _ (List.Mem.tail _ (List.Mem.head _)))) (tX4_tell_0_ok (193, .iload_n 3, 1) (List.mem_of_getElem? (i := 53) rfl)) ?_
    refine w_iast hT c_a7 (by omega) (by omega) (tX4_tell_0_ok (194, .iastore, 1) (List.mem_of_getElem? (i := 54) rfl)) (fun h69 c70 o71 => ?_)
    have c72 := (o71 P (pn_ne s_P s_a7 (by decide))).trans c_P
    have c73 := (o71 a1 (pn_ne s_a1 s_a7 (by decide))).trans c_a1
    have c74 := (o71 a2 (pn_ne s_a2 s_a7 (by decide))).trans c_a2
    have c75 := (o71 a3 (pn_ne s_a3 s_a7 (by decide))).trans c_a3
    have c76 := (o71 a4 (pn_ne s_a4 s_a7 (by decide))).trans c_a4
    have c77 := (o71 a5 (pn_ne s_a5 s_a7 (by decide))).trans c_a5
    have c78 := (o71 a6 (pn_ne s_a6 s_a7 (by decide))).trans c_a6
    have c79 := (o71 a8 (pn_ne s_a8 s_a7 (by decide))).trans c_a8
    refine w_goto (tgt := 205) (tX4_tell_0_ok (195, .goto 10, 3) (List.mem_of_getElem? (i := 55) rfl)) rfl ?_
    refine w_vret rfl (tX4_tell_1_ok (205, .return_, 1) (List.mem_of_getElem? (i := 1) rfl)) ?_
    have k9 := (sp_ok_114 b1).mp hk
    have x9 : sp_ix c.toInt = 7 := by rw [b1]; rfl
    refine hq h69 g1 g2 g3 ⟨⟨_, c72, by omega, by omega⟩, c73, c74, c75, ⟨_, c76⟩, ⟨_, c77⟩, ⟨_, c78⟩, ⟨_, c70⟩, ⟨_, c79, g8b⟩, g2b⟩ ?_ ?_ ?_ ⟨_, _, _, _, _, _, _, _, c73, c74, c75, c76, c77, c78, c70, c79, fun q hq => ⟨?_, ?_, ?_, ?_, ?_, ?_, ?_, ?_, ?_⟩⟩ (fun q hq => o71 q (pn_nl hq s_a7 (by decide)))
    · unfold sp_kv; rw [if_neg (by omega)]
    · unfold sp_kv; rw [if_neg (by omega)]
    · unfold sp_kv; rw [if_neg (by omega)]
    · exact row_k (sp_set_n _ _ (by rw [x9]; decide)) (hr q hq).1
    · exact row_k (sp_set_n _ _ (by rw [x9]; decide)) (hr q hq).2.1
    · exact row_k (sp_set_n _ _ (by rw [x9]; decide)) (hr q hq).2.2.1
    · exact row_k (sp_set_n _ _ (by rw [x9]; decide)) (hr q hq).2.2.2.1
    · exact row_k (sp_set_n _ _ (by rw [x9]; decide)) (hr q hq).2.2.2.2.1
    · exact row_k (sp_set_n _ _ (by rw [x9]; decide)) (hr q hq).2.2.2.2.2.1
    · exact row_k (sp_set_n _ _ (by rw [x9]; decide)) (hr q hq).2.2.2.2.2.2.1
    · exact row_u (by rw [x9]; exact (sp_set_s _ _ _).symm) rfl (hr q hq).2.2.2.2.2.2.2.1
    · exact row_k (sp_set_n _ _ (by rw [x9]; decide)) (hr q hq).2.2.2.2.2.2.2.2
  · refine w_tabIn (tgt := 178) (tX4_tell_0_ok (1, .tableswitch 197 97 120 #[141, 153, 197, 197, 197, 197, 197, 167, 197, 197, 111, 121, 197, 197, 197, 197, 197, 187, 177, 197, 197, 197, 197, 131], 111) (List.mem_of_getElem? (i := 1) rfl)) b1 (by decide) (by decide) rfl rfl ?_
    refine w_aload_n (List.Mem.head _) (tX4_tell_0_ok (178, .aload_n 0, 1) (List.mem_of_getElem? (i := 44) rfl)) ?_
    refine w_get (own := 9) rfl rfl (by decide) c_P rfl (tX4_tell_0_ok (179, .getfield 27, 3) (List.mem_of_getElem? (i := 45) rfl)) ?_
    refine w_iload_n (List.Mem.tail _ (List.Mem.head _)) (tX4_tell_0_ok (182, .iload_n 1, 1) (List.mem_of_getElem? (i := 46) rfl)) ?_
    refine w_iload_n (List.Mem.tail _ (List.Mem.tail _ (List.Mem.tail _ (List.Mem.head _)))) (tX4_tell_0_ok (183, .iload_n 3, 1) (List.mem_of_getElem? (i := 47) rfl)) ?_
    refine w_iast hT c_a6 (by omega) (by omega) (tX4_tell_0_ok (184, .iastore, 1) (List.mem_of_getElem? (i := 48) rfl)) (fun h80 c81 o82 => ?_)
    have c83 := (o82 P (pn_ne s_P s_a6 (by decide))).trans c_P
    have c84 := (o82 a1 (pn_ne s_a1 s_a6 (by decide))).trans c_a1
    have c85 := (o82 a2 (pn_ne s_a2 s_a6 (by decide))).trans c_a2
    have c86 := (o82 a3 (pn_ne s_a3 s_a6 (by decide))).trans c_a3
    have c87 := (o82 a4 (pn_ne s_a4 s_a6 (by decide))).trans c_a4
    have c88 := (o82 a5 (pn_ne s_a5 s_a6 (by decide))).trans c_a5
    have c89 := (o82 a7 (pn_ne s_a7 s_a6 (by decide))).trans c_a7
    have c90 := (o82 a8 (pn_ne s_a8 s_a6 (by decide))).trans c_a8
    refine w_goto (tgt := 205) (tX4_tell_0_ok (185, .goto 20, 3) (List.mem_of_getElem? (i := 49) rfl)) rfl ?_
    refine w_vret rfl (tX4_tell_1_ok (205, .return_, 1) (List.mem_of_getElem? (i := 1) rfl)) ?_
    have k9 := (sp_ok_115 b1).mp hk
    have x9 : sp_ix c.toInt = 6 := by rw [b1]; rfl
    refine hq h80 g1 g2 g3 ⟨⟨_, c83, by omega, by omega⟩, c84, c85, c86, ⟨_, c87⟩, ⟨_, c88⟩, ⟨_, c81⟩, ⟨_, c89⟩, ⟨_, c90, g8b⟩, g2b⟩ ?_ ?_ ?_ ⟨_, _, _, _, _, _, _, _, c84, c85, c86, c87, c88, c81, c89, c90, fun q hq => ⟨?_, ?_, ?_, ?_, ?_, ?_, ?_, ?_, ?_⟩⟩ (fun q hq => o82 q (pn_nl hq s_a6 (by decide)))
    · unfold sp_kv; rw [if_neg (by omega)]
    · unfold sp_kv; rw [if_neg (by omega)]
    · unfold sp_kv; rw [if_neg (by omega)]
    · exact row_k (sp_set_n _ _ (by rw [x9]; decide)) (hr q hq).1
    · exact row_k (sp_set_n _ _ (by rw [x9]; decide)) (hr q hq).2.1
    · exact row_k (sp_set_n _ _ (by rw [x9]; decide)) (hr q hq).2.2.1
    · exact row_k (sp_set_n _ _ (by rw [x9]; decide)) (hr q hq).2.2.2.1
    · exact row_k (sp_set_n _ _ (by rw [x9]; decide)) (hr q hq).2.2.2.2.1
    · exact row_k (sp_set_n _ _ (by rw [x9]; decide)) (hr q hq).2.2.2.2.2.1
    · exact row_u (by rw [x9]; exact (sp_set_s _ _ _).symm) rfl (hr q hq).2.2.2.2.2.2.1
    · exact row_k (sp_set_n _ _ (by rw [x9]; decide)) (hr q hq).2.2.2.2.2.2.2.1
    · exact row_k (sp_set_n _ _ (by rw [x9]; decide)) (hr q hq).2.2.2.2.2.2.2.2
  · exfalso; unfold sp_ltr at hc; omega
  · refine w_tabIn (tgt := 198) (tX4_tell_0_ok (1, .tableswitch 197 97 120 #[141, 153, 197, 197, 197, 197, 197, 167, 197, 197, 111, 121, 197, 197, 197, 197, 197, 187, 177, 197, 197, 197, 197, 131], 111) (List.mem_of_getElem? (i := 1) rfl)) b1 (by decide) (by decide) rfl rfl ?_
    refine w_aload_n (List.Mem.head _) (tX4_tell_0_ok (198, .aload_n 0, 1) (List.mem_of_getElem? (i := 56) rfl)) ?_
    refine w_get (own := 9) rfl rfl (by decide) c_P rfl (tX4_tell_0_ok (199, .getfield 33, 3) (List.mem_of_getElem? (i := 57) rfl)) ?_
    refine w_iload_n (List.Mem.tail _ (List.Mem.head _)) (tX4_tell_0_ok (202, .iload_n 1, 1) (List.mem_of_getElem? (i := 58) rfl)) ?_
    refine w_iload_n (List.Mem.tail _ (List.Mem.tail _ (List.Mem.tail _ (List.Mem.head _)))) (tX4_tell_0_ok (203, .iload_n 3, 1) (List.mem_of_getElem? (i := 59) rfl)) ?_
    refine w_iast hT c_a8 (by omega) (by omega) (tX4_tell_1_ok (204, .iastore, 1) (List.mem_of_getElem? (i := 0) rfl)) (fun h91 c92 o93 => ?_)
    have c94 := (o93 P (pn_ne s_P s_a8 (by decide))).trans c_P
    have c95 := (o93 a1 (pn_ne s_a1 s_a8 (by decide))).trans c_a1
    have c96 := (o93 a2 (pn_ne s_a2 s_a8 (by decide))).trans c_a2
    have c97 := (o93 a3 (pn_ne s_a3 s_a8 (by decide))).trans c_a3
    have c98 := (o93 a4 (pn_ne s_a4 s_a8 (by decide))).trans c_a4
    have c99 := (o93 a5 (pn_ne s_a5 s_a8 (by decide))).trans c_a5
    have c100 := (o93 a6 (pn_ne s_a6 s_a8 (by decide))).trans c_a6
    have c101 := (o93 a7 (pn_ne s_a7 s_a8 (by decide))).trans c_a7
    refine w_vret rfl (tX4_tell_1_ok (205, .return_, 1) (List.mem_of_getElem? (i := 1) rfl)) ?_
    have k9 := (sp_ok_117 b1).mp hk
    have x9 : sp_ix c.toInt = 8 := by rw [b1]; rfl
    refine hq h91 g1 g2 g3 ⟨⟨_, c94, by omega, by omega⟩, c95, c96, c97, ⟨_, c98⟩, ⟨_, c99⟩, ⟨_, c100⟩, ⟨_, c101⟩, ⟨_, c92, (upd_bd g8b (by omega))⟩, g2b⟩ ?_ ?_ ?_ ⟨_, _, _, _, _, _, _, _, c95, c96, c97, c98, c99, c100, c101, c92, fun q hq => ⟨?_, ?_, ?_, ?_, ?_, ?_, ?_, ?_, ?_⟩⟩ (fun q hq => o93 q (pn_nl hq s_a8 (by decide)))
    · unfold sp_kv; rw [if_neg (by omega)]
    · unfold sp_kv; rw [if_neg (by omega)]
    · unfold sp_kv; rw [if_neg (by omega)]
    · exact row_k (sp_set_n _ _ (by rw [x9]; decide)) (hr q hq).1
    · exact row_k (sp_set_n _ _ (by rw [x9]; decide)) (hr q hq).2.1
    · exact row_k (sp_set_n _ _ (by rw [x9]; decide)) (hr q hq).2.2.1
    · exact row_k (sp_set_n _ _ (by rw [x9]; decide)) (hr q hq).2.2.2.1
    · exact row_k (sp_set_n _ _ (by rw [x9]; decide)) (hr q hq).2.2.2.2.1
    · exact row_k (sp_set_n _ _ (by rw [x9]; decide)) (hr q hq).2.2.2.2.2.1
    · exact row_k (sp_set_n _ _ (by rw [x9]; decide)) (hr q hq).2.2.2.2.2.2.1
    · exact row_k (sp_set_n _ _ (by rw [x9]; decide)) (hr q hq).2.2.2.2.2.2.2.1
    · exact row_u (by rw [x9]; exact (sp_set_s _ _ _).symm) rfl (hr q hq).2.2.2.2.2.2.2.2
  · exfalso; unfold sp_ltr at hc; omega
  · exfalso; unfold sp_ltr at hc; omega
  · refine w_tabIn (tgt := 132) (tX4_tell_0_ok (1, .tableswitch 197 97 120 #[141, 153, 197, 197, 197, 197, 197, 167, 197, 197, 111, 121, 197, 197, 197, 197, 197, 187, 177, 197, 197, 197, 197, 131], 111) (List.mem_of_getElem? (i := 1) rfl)) b1 (by decide) (by decide) rfl rfl ?_
    refine w_aload_n (List.Mem.head _) (tX4_tell_0_ok (132, .aload_n 0, 1) (List.mem_of_getElem? (i := 14) rfl)) ?_
    refine w_get (own := 9) rfl rfl (by decide) c_P rfl (tX4_tell_0_ok (133, .getfield 18, 3) (List.mem_of_getElem? (i := 15) rfl)) ?_
    refine w_iload_n (List.Mem.tail _ (List.Mem.head _)) (tX4_tell_0_ok (136, .iload_n 1, 1) (List.mem_of_getElem? (i := 16) rfl)) ?_
    refine w_iload_n (List.Mem.tail _ (List.Mem.tail _ (List.Mem.tail _ (List.Mem.head _)))) (tX4_tell_0_ok (137, .iload_n 3, 1) (List.mem_of_getElem? (i := 17) rfl)) ?_
    refine w_iast hT c_a3 (by omega) (by omega) (tX4_tell_0_ok (138, .iastore, 1) (List.mem_of_getElem? (i := 18) rfl)) (fun h102 c103 o104 => ?_)
    have c105 := (o104 P (pn_ne s_P s_a3 (by decide))).trans c_P
    have c106 := (o104 a1 (pn_ne s_a1 s_a3 (by decide))).trans c_a1
    have c107 := (o104 a2 (pn_ne s_a2 s_a3 (by decide))).trans c_a2
    have c108 := (o104 a4 (pn_ne s_a4 s_a3 (by decide))).trans c_a4
    have c109 := (o104 a5 (pn_ne s_a5 s_a3 (by decide))).trans c_a5
    have c110 := (o104 a6 (pn_ne s_a6 s_a3 (by decide))).trans c_a6
    have c111 := (o104 a7 (pn_ne s_a7 s_a3 (by decide))).trans c_a7
    have c112 := (o104 a8 (pn_ne s_a8 s_a3 (by decide))).trans c_a8
    refine w_goto (tgt := 205) (tX4_tell_0_ok (139, .goto 66, 3) (List.mem_of_getElem? (i := 19) rfl)) rfl ?_
    refine w_vret rfl (tX4_tell_1_ok (205, .return_, 1) (List.mem_of_getElem? (i := 1) rfl)) ?_
    have k9 := (sp_ok_120 b1).mp hk
    have x9 : sp_ix c.toInt = 2 := by rw [b1]; rfl
    refine hq h102 g1 g2 (upd g3 p.toInt.toNat v) ⟨⟨_, c105, by omega, by omega⟩, c106, c107, c103, ⟨_, c108⟩, ⟨_, c109⟩, ⟨_, c110⟩, ⟨_, c111⟩, ⟨_, c112, g8b⟩, g2b⟩ ?_ ?_ ?_ ⟨_, _, _, _, _, _, _, _, c106, c107, c103, c108, c109, c110, c111, c112, fun q hq => ⟨?_, ?_, ?_, ?_, ?_, ?_, ?_, ?_, ?_⟩⟩ (fun q hq => o104 q (pn_nl hq s_a3 (by decide)))
    · unfold sp_kv; rw [if_neg (by omega)]
    · unfold sp_kv; rw [if_neg (by omega)]
    · unfold sp_kv; rw [upd_s, if_pos (by omega)]
    · exact row_k (sp_set_n _ _ (by rw [x9]; decide)) (hr q hq).1
    · exact row_k (sp_set_n _ _ (by rw [x9]; decide)) (hr q hq).2.1
    · exact row_u (by rw [x9]; exact (sp_set_s _ _ _).symm) rfl (hr q hq).2.2.1
    · exact row_k (sp_set_n _ _ (by rw [x9]; decide)) (hr q hq).2.2.2.1
    · exact row_k (sp_set_n _ _ (by rw [x9]; decide)) (hr q hq).2.2.2.2.1
    · exact row_k (sp_set_n _ _ (by rw [x9]; decide)) (hr q hq).2.2.2.2.2.1
    · exact row_k (sp_set_n _ _ (by rw [x9]; decide)) (hr q hq).2.2.2.2.2.2.1
    · exact row_k (sp_set_n _ _ (by rw [x9]; decide)) (hr q hq).2.2.2.2.2.2.2.1
    · exact row_k (sp_set_n _ _ (by rw [x9]; decide)) (hr q hq).2.2.2.2.2.2.2.2
theorem s_readNumberV (hT : k_tys tys cA) {p : Int32} (hN : pns sg t b P a1 a2 a3 a4 a5 a6 a7 a8) (hp : 0 ≤ p.toInt ∧ p.toInt < 6) {c : Int32} (hc : sp_ltr c.toInt) (hr : 2 ≤ fr ∧ 60 ≤ lo) (hf0 : fl0.toInt = -1) (H : tp cA h t b f len at0 fl0) (HP : pn cA h P a1 a2 a3 a4 a5 a6 a7 a8 g1 g2 g3) (R : pr cA h a1 a2 a3 a4 a5 a6 a7 a8 rc) (hq : ∀ (h1 : ch_H) (at1 fl1 : Int32) (k1 k2 k3 : Nat → Int32), tp cA h1 t b f len at1 fl1 → pn cA h1 P a1 a2 a3 a4 a5 a6 a7 a8 k1 k2 k3 → sp_is (sp_rn f len.toInt.toNat p.toInt (g2 p.toInt.toNat).toInt (g3 p.toInt.toNat).toInt c.toInt at0.toInt.toNat) at1 fl1 → (fl1.toInt = -1 → (k1 p.toInt.toNat).toInt = sp_kv 107 c.toInt (sp_num f len.toInt.toNat 3 at0.toInt.toNat).2 (g1 p.toInt.toNat).toInt ∧ (k2 p.toInt.toNat).toInt = sp_kv 108 c.toInt (sp_num f len.toInt.toNat 3 at0.toInt.toNat).2 (g2 p.toInt.toNat).toInt ∧ (k3 p.toInt.toNat).toInt = sp_kv 120 c.toInt (sp_num f len.toInt.toNat 3 at0.toInt.toNat).2 (g3 p.toInt.toNat).toInt) → (fl1.toInt = -1 → pr cA h1 a1 a2 a3 a4 a5 a6 a7 a8 (sp_row rc p.toInt.toNat (sp_set (rc p.toInt.toNat) (sp_ix c.toInt) (sp_num f len.toInt.toNat 3 at0.toInt.toNat).2))) → (∀ q, sg q < 3 → h1 q = h q) → Q none h1) : ww l D tys A X fr lo mX8_readNumber Q 0 [(0, .ref t), (1, .ref P), (2, .int p), (3, .int c)] [] h := by
  have N := hN
  obtain ⟨s_t, s_b, s_P, s_a1, s_a2, s_a3, s_a4, s_a5, s_a6, s_a7, s_a8⟩ := hN
  obtain ⟨c_t, c_b, n_b_t, l1, l2, a9, a10⟩ := H
  refine w_aload_n (List.Mem.head _) (tX8_readNumber_0_ok (0, .aload_n 0, 1) (List.mem_of_getElem? (i := 0) rfl)) ?_
  refine w_iconst (by decide) (tX8_readNumber_0_ok (1, .iconst 3, 1) (List.mem_of_getElem? (i := 1) rfl)) (fun v1 e2 => ?_)
  refine w_callV (own := 13) (mi := 75) [.int v1] [] [(0, .ref t), (1, .int v1)] rfl (cllw_X8 (55, 0, 75) (List.mem_of_getElem? (i := 7) rfl)) rfl rfl c_t rfl (by omega) (w_lo (n := 23) rfl (by omega)) (Nat.le_of_ble_eq_true rfl) (Nat.le_of_ble_eq_true rfl) rfl (tX8_readNumber_0_ok (2, .invokevirtual 55, 3) (List.mem_of_getElem? (i := 2) rfl)) (s_number hT ⟨by omega, w_sub (n := 23) rfl (by omega)⟩ (by omega) (by omega) ⟨c_t, c_b, n_b_t, l1, l2, by omega, by omega⟩ (fun h3 at4 fl5 v6 p7 e8 e9 e10 o11 => ?_))
  have d12 : v1.toInt.toNat = 3 := by omega
  rw [d12] at e8 e9
  obtain ⟨c13, c14, -, -, -, a15, a16⟩ := p7
  show ww l D tys A X fr lo mX8_readNumber Q 5 [(0, .ref t), (1, .ref P), (2, .int p), (3, .int c)] [.int v6] h3
  refine w_istore [(4, .int v6), (0, .ref t), (1, .ref P), (2, .int p), (3, .int c)] rfl (Nat.le_of_ble_eq_true rfl) (tX8_readNumber_0_ok (5, .istore 4, 2) (List.mem_of_getElem? (i := 3) rfl)) ?_
  refine w_aload_n (List.Mem.tail _ (List.Mem.head _)) (tX8_readNumber_0_ok (7, .aload_n 0, 1) (List.mem_of_getElem? (i := 4) rfl)) ?_
  refine w_callV (own := 13) (mi := 74) [] [] [(0, .ref t)] rfl (cllw_X8 (20, 0, 74) (List.mem_of_getElem? (i := 8) rfl)) rfl rfl c13 rfl (by omega) (w_lo (n := 20) rfl (by omega)) (Nat.le_of_ble_eq_true rfl) (Nat.le_of_ble_eq_true rfl) rfl (tX8_readNumber_0_ok (8, .invokevirtual 20, 3) (List.mem_of_getElem? (i := 5) rfl)) (s_isWrong hT ⟨c13, c14, n_b_t, l1, l2, by omega, by omega⟩ (fun v17 e18 => ?_))
  show ww l D tys A X fr lo mX8_readNumber Q 11 [(4, .int v6), (0, .ref t), (1, .ref P), (2, .int p), (3, .int c)] [.int v17] h3
  refine w_if_eq (tgt := 15) (tX8_readNumber_0_ok (11, .ifCond .eq 4, 3) (List.mem_of_getElem? (i := 6) rfl)) rfl (fun b19 => ?_) (fun b19 => ?_)
  · refine w_aload_n (List.Mem.tail _ (List.Mem.tail _ (List.Mem.head _))) (tX8_readNumber_0_ok (15, .aload_n 1, 1) (List.mem_of_getElem? (i := 8) rfl)) ?_
    refine w_iload_n (List.Mem.tail _ (List.Mem.tail _ (List.Mem.tail _ (List.Mem.head _)))) (tX8_readNumber_0_ok (16, .iload_n 2, 1) (List.mem_of_getElem? (i := 9) rfl)) ?_
    refine w_iload_n (List.Mem.tail _ (List.Mem.tail _ (List.Mem.tail _ (List.Mem.tail _ (List.Mem.head _))))) (tX8_readNumber_0_ok (17, .iload_n 3, 1) (List.mem_of_getElem? (i := 10) rfl)) ?_
    refine w_iload (List.Mem.head _) (tX8_readNumber_0_ok (18, .iload 4, 2) (List.mem_of_getElem? (i := 11) rfl)) ?_
    refine w_callV (own := 13) (mi := 42) [.int p, .int c, .int v6] [] [(0, .ref P), (1, .int p), (2, .int c), (3, .int v6)] rfl (cllw_X8 (58, 0, 42) (List.mem_of_getElem? (i := 9) rfl)) rfl rfl (Exists.choose_spec (pn.obj ((HP).fr N o11))) rfl (by omega) (w_lo (n := 23) rfl (by omega)) (Nat.le_of_ble_eq_true rfl) (Nat.le_of_ble_eq_true rfl) rfl (tX8_readNumber_0_ok (20, .invokevirtual 58, 3) (List.mem_of_getElem? (i := 12) rfl)) (s_allows hT hp hc ((HP).fr N o11) (fun v20 e21 => ?_))
    have e21a := e21.1
    have e21b := e21.2
    show ww l D tys A X fr lo mX8_readNumber Q 23 [(4, .int v6), (0, .ref t), (1, .ref P), (2, .int p), (3, .int c)] [.int v20] h3
    refine w_if_eq (tgt := 37) (tX8_readNumber_0_ok (23, .ifCond .eq 14, 3) (List.mem_of_getElem? (i := 13) rfl)) rfl (fun b22 => ?_) (fun b22 => ?_)
    · refine w_aload_n (List.Mem.tail _ (List.Mem.head _)) (tX8_readNumber_0_ok (37, .aload_n 0, 1) (List.mem_of_getElem? (i := 20) rfl)) ?_
      refine w_aload_n (List.Mem.tail _ (List.Mem.head _)) (tX8_readNumber_0_ok (38, .aload_n 0, 1) (List.mem_of_getElem? (i := 21) rfl)) ?_
      refine w_get (own := 13) rfl rfl (by decide) c13 rfl (tX8_readNumber_0_ok (39, .getfield 37, 3) (List.mem_of_getElem? (i := 22) rfl)) ?_
      refine w_iconst (by decide) (tX8_readNumber_0_ok (42, .iconst 1, 1) (List.mem_of_getElem? (i := 23) rfl)) (fun v23 e24 => ?_)
      refine w_isub (by omega) (by omega) (tX8_readNumber_0_ok (43, .isub, 1) (List.mem_of_getElem? (i := 24) rfl)) (fun v25 e26 => ?_)
      refine w_put (own := 13) [.ref b, .int len, .int at4, .int v25] rfl rfl rfl (by decide) rfl ⟨rfl, rfl⟩ c13 (Nat.le_of_ble_eq_true rfl) (tX8_readNumber_0_ok (44, .putfield 66, 3) (List.mem_of_getElem? (i := 25) rfl)) (fun h27 c28 o29 => ?_)
      have c30 := (o29 b (pn_ne s_b s_t (by decide))).trans c14
      refine w_vret rfl (tX8_readNumber_0_ok (47, .return_, 1) (List.mem_of_getElem? (i := 26) rfl)) ?_
      obtain ⟨q9, q8, q7⟩ := sp_is.inr e9 (by omega)
      have q6 := sp_num_lt q8
      refine hq h27 at4 v25 g1 g2 g3 ⟨c28, c30, n_b_t, l1, l2, by omega, by omega⟩ (((HP).fr N o11).fr N o29) ?_ ?_ ?_ (fun q hq => (o29 q (pn_nl hq s_t (by decide))).trans (o11 q (pn_nl hq s_t (by decide))))
      · unfold sp_rn; rw [q8]; dsimp only [sp_bd]; rw [if_neg (by rw [← e8]; exact fun z9 => absurd (e21b.mpr z9) (by omega))]; show _ = ((q9 - 1 : Nat) : Int); omega
      · intro z9; omega
      · intro z9; omega
    · refine w_aload_n (List.Mem.tail _ (List.Mem.tail _ (List.Mem.head _))) (tX8_readNumber_0_ok (26, .aload_n 1, 1) (List.mem_of_getElem? (i := 14) rfl)) ?_
      refine w_iload_n (List.Mem.tail _ (List.Mem.tail _ (List.Mem.tail _ (List.Mem.head _)))) (tX8_readNumber_0_ok (27, .iload_n 2, 1) (List.mem_of_getElem? (i := 15) rfl)) ?_
      refine w_iload_n (List.Mem.tail _ (List.Mem.tail _ (List.Mem.tail _ (List.Mem.tail _ (List.Mem.head _))))) (tX8_readNumber_0_ok (28, .iload_n 3, 1) (List.mem_of_getElem? (i := 16) rfl)) ?_
      refine w_iload (List.Mem.head _) (tX8_readNumber_0_ok (29, .iload 4, 2) (List.mem_of_getElem? (i := 17) rfl)) ?_
      refine w_callV (own := 13) (mi := 50) [.int p, .int c, .int v6] [] [(0, .ref P), (1, .int p), (2, .int c), (3, .int v6)] rfl (cllw_X8 (62, 0, 50) (List.mem_of_getElem? (i := 10) rfl)) rfl rfl (Exists.choose_spec (pn.obj ((HP).fr N o11))) rfl (by omega) (w_lo (n := 23) rfl (by omega)) (Nat.le_of_ble_eq_true rfl) (Nat.le_of_ble_eq_true rfl) rfl (tX8_readNumber_0_ok (31, .invokevirtual 62, 3) (List.mem_of_getElem? (i := 18) rfl)) (s_tellV hT N hp hc (by omega) (e21b.mp (by omega)) ((HP).fr N o11) ((R).fr N o11) (fun h31 k32 k33 k34 p35 e36 e37 e38 r39 o40 => ?_))
      have c41 := (o40 t (by rw [s_t]; decide)).trans c13
      have c42 := (o40 b (by rw [s_b]; decide)).trans c14
      show ww l D tys A X fr lo mX8_readNumber Q 34 [(4, .int v6), (0, .ref t), (1, .ref P), (2, .int p), (3, .int c)] [] h31
      refine w_goto (tgt := 47) (tX8_readNumber_0_ok (34, .goto 13, 3) (List.mem_of_getElem? (i := 19) rfl)) rfl ?_
      refine w_vret rfl (tX8_readNumber_0_ok (47, .return_, 1) (List.mem_of_getElem? (i := 26) rfl)) ?_
      obtain ⟨q9, q8, q7⟩ := sp_is.inr e9 (by omega)
      have q6 := sp_num_lt q8
      refine hq h31 at4 fl5 k32 k33 k34 ⟨c41, c42, n_b_t, l1, l2, by omega, by omega⟩ p35 ?_ ?_ ?_ (fun q hq => (o40 q (Nat.lt_of_lt_of_le hq (by decide))).trans (o11 q (pn_nl hq s_t (by decide))))
      · unfold sp_rn; rw [q8]; dsimp only [sp_bd]; rw [if_pos (by rw [← e8]; exact e21b.mp (by omega))]; exact ⟨by omega, q7⟩
      · intro z9; rw [← e8]; exact ⟨e36, e37, e38⟩
      · intro z9; rw [← e8]; exact r39
  · refine w_vret rfl (tX8_readNumber_0_ok (14, .return_, 1) (List.mem_of_getElem? (i := 7) rfl)) ?_
    obtain ⟨q9, q8, q7⟩ := sp_is.inl e9 (by omega)
    refine hq h3 at4 fl5 g1 g2 g3 ⟨c13, c14, n_b_t, l1, l2, by omega, by omega⟩ ((HP).fr N o11) ?_ ?_ ?_ (fun q hq => o11 q (pn_nl hq s_t (by decide)))
    · unfold sp_rn; rw [q8]; exact q7
    · intro z9; omega
    · intro z9; omega
theorem s_endRopeV (hT : k_tys tys cA) {p : Int32} (hN : pns sg t b P a1 a2 a3 a4 a5 a6 a7 a8) (hp : 0 ≤ p.toInt ∧ p.toInt < 6) (hx : 0 ≤ (g3 p.toInt.toNat).toInt ∧ (g3 p.toInt.toNat).toInt ≤ 20) (hr : 1 ≤ fr ∧ 60 ≤ lo) (hf0 : fl0.toInt = -1) (H : tp cA h t b f len at0 fl0) (HP : pn cA h P a1 a2 a3 a4 a5 a6 a7 a8 g1 g2 g3) (R : pr cA h a1 a2 a3 a4 a5 a6 a7 a8 rc) (hq : ∀ (h1 : ch_H) (at1 fl1 : Int32), tp cA h1 t b f len at1 fl1 → pn cA h1 P a1 a2 a3 a4 a5 a6 a7 a8 g1 g2 g3 → pr cA h1 a1 a2 a3 a4 a5 a6 a7 a8 rc → sp_is (if (¬ sp_sg f len.toInt.toNat (sp_sk f len.toInt.toNat at0.toInt.toNat) = 59 ∧ ¬ sp_sg f len.toInt.toNat (sp_sk f len.toInt.toNat at0.toInt.toNat) = 0) ∨ sp_odd (g1 p.toInt.toNat).toInt (g2 p.toInt.toNat).toInt (g3 p.toInt.toNat).toInt then .inl (sp_sk f len.toInt.toNat at0.toInt.toNat) else .inr (sp_sk f len.toInt.toNat at0.toInt.toNat)) at1 fl1 → (∀ q, sg q < 3 → h1 q = h q) → Q none h1) : ww l D tys A X fr lo mX8_endRope Q 0 [(0, .ref t), (1, .ref P), (2, .int p)] [] h := by
  have N := hN
  obtain ⟨s_t, s_b, s_P, s_a1, s_a2, s_a3, s_a4, s_a5, s_a6, s_a7, s_a8⟩ := hN
  obtain ⟨c_t, c_b, n_b_t, l1, l2, a9, a10⟩ := H
  refine w_aload_n (List.Mem.head _) (tX8_endRope_0_ok (0, .aload_n 0, 1) (List.mem_of_getElem? (i := 0) rfl)) ?_
  refine w_callV (own := 13) (mi := 77) [] [] [(0, .ref t)] rfl (cllw_X8 (24, 0, 77) (List.mem_of_getElem? (i := 3) rfl)) rfl rfl c_t rfl (by omega) (w_lo (n := 20) rfl (by omega)) (Nat.le_of_ble_eq_true rfl) (Nat.le_of_ble_eq_true rfl) rfl (tX8_endRope_0_ok (1, .invokevirtual 24, 3) (List.mem_of_getElem? (i := 1) rfl)) (s_sign hT ⟨c_t, c_b, n_b_t, l1, l2, by omega, by omega⟩ (fun h1 at2 v3 p4 e5 e6 o7 => ?_))
  obtain ⟨c8, c9, -, -, -, a10, a11⟩ := p4
  show ww l D tys A X fr lo mX8_endRope Q 4 [(0, .ref t), (1, .ref P), (2, .int p)] [.int v3] h1
  rw [e5] at e6
  have g12 := sp_sg_or f len.toInt.toNat (sp_sk f len.toInt.toNat at0.toInt.toNat)
  refine w_istore_n [(3, .int v3), (0, .ref t), (1, .ref P), (2, .int p)] rfl (Nat.le_of_ble_eq_true rfl) (tX8_endRope_0_ok (4, .istore_n 3, 1) (List.mem_of_getElem? (i := 2) rfl)) ?_
  refine w_iload_n (List.Mem.head _) (tX8_endRope_0_ok (5, .iload_n 3, 1) (List.mem_of_getElem? (i := 3) rfl)) ?_
  refine w_bipush (by decide) (tX8_endRope_0_ok (6, .bipush 59, 2) (List.mem_of_getElem? (i := 4) rfl)) (fun v13 e14 => ?_)
  refine w_icmp_eq (tgt := 15) (tX8_endRope_0_ok (8, .if_icmp .eq 7, 3) (List.mem_of_getElem? (i := 5) rfl)) rfl (fun b15 => ?_) (fun b15 => ?_)
  · refine w_aload_n (List.Mem.tail _ (List.Mem.tail _ (List.Mem.head _))) (tX8_endRope_0_ok (15, .aload_n 1, 1) (List.mem_of_getElem? (i := 8) rfl)) ?_
    refine w_iload_n (List.Mem.tail _ (List.Mem.tail _ (List.Mem.tail _ (List.Mem.head _)))) (tX8_endRope_0_ok (16, .iload_n 2, 1) (List.mem_of_getElem? (i := 9) rfl)) ?_
    refine w_callV (own := 13) (mi := 46) [.int p] [] [(0, .ref P), (1, .int p)] rfl (cllw_X8 (69, 0, 46) (List.mem_of_getElem? (i := 12) rfl)) rfl rfl (Exists.choose_spec (pn.obj ((HP).fr N o7))) rfl (by omega) (w_lo (n := 21) rfl (by omega)) (Nat.le_of_ble_eq_true rfl) (Nat.le_of_ble_eq_true rfl) rfl (tX8_endRope_0_ok (17, .invokevirtual 69, 3) (List.mem_of_getElem? (i := 10) rfl)) (s_isUneven hT hp hx ((HP).fr N o7) (fun v16 e17 => ?_))
    show ww l D tys A X fr lo mX8_endRope Q 20 [(3, .int v3), (0, .ref t), (1, .ref P), (2, .int p)] [.int v16] h1
    refine w_if_eq (tgt := 27) (tX8_endRope_0_ok (20, .ifCond .eq 7, 3) (List.mem_of_getElem? (i := 11) rfl)) rfl (fun b18 => ?_) (fun b18 => ?_)
    · refine w_vret rfl (tX8_endRope_0_ok (27, .return_, 1) (List.mem_of_getElem? (i := 14) rfl)) ?_
      refine hq h1 at2 fl0 ⟨c8, c9, n_b_t, l1, l2, by omega, by omega⟩ ((HP).fr N o7) ((R).fr N o7) ?_ (fun q hq => o7 q (pn_nl hq s_t (by decide)))
      rw [if_neg (by omega)]
      exact ⟨by omega, by omega⟩
    · refine w_aload_n (List.Mem.tail _ (List.Mem.head _)) (tX8_endRope_0_ok (23, .aload_n 0, 1) (List.mem_of_getElem? (i := 12) rfl)) ?_
      refine w_callV (own := 13) (mi := 80) [] [] [(0, .ref t)] rfl (cllw_X8 (34, 0, 80) (List.mem_of_getElem? (i := 5) rfl)) rfl rfl c8 rfl (by omega) (w_lo (n := 20) rfl (by omega)) (Nat.le_of_ble_eq_true rfl) (Nat.le_of_ble_eq_true rfl) rfl (tX8_endRope_0_ok (24, .invokevirtual 34, 3) (List.mem_of_getElem? (i := 13) rfl)) (s_wrong hT ⟨c8, c9, n_b_t, l1, l2, by omega, by omega⟩ (fun h19 fl20 p21 e22 o23 => ?_))
      obtain ⟨c24, c25, -, -, -, a26, a27⟩ := p21
      show ww l D tys A X fr lo mX8_endRope Q 27 [(3, .int v3), (0, .ref t), (1, .ref P), (2, .int p)] [] h19
      refine w_vret rfl (tX8_endRope_0_ok (27, .return_, 1) (List.mem_of_getElem? (i := 14) rfl)) ?_
      refine hq h19 at2 fl20 ⟨c24, c25, n_b_t, l1, l2, by omega, by omega⟩ (((HP).fr N o7).fr N o23) (((R).fr N o7).fr N o23) ?_ (fun q hq => (o23 q (pn_nl hq s_t (by decide))).trans (o7 q (pn_nl hq s_t (by decide))))
      rw [if_pos (by omega)]
      show _ = _; omega
  · refine w_iload_n (List.Mem.head _) (tX8_endRope_0_ok (11, .iload_n 3, 1) (List.mem_of_getElem? (i := 6) rfl)) ?_
    refine w_if_ne (tgt := 23) (tX8_endRope_0_ok (12, .ifCond .ne 11, 3) (List.mem_of_getElem? (i := 7) rfl)) rfl (fun b28 => ?_) (fun b28 => ?_)
    · refine w_aload_n (List.Mem.tail _ (List.Mem.head _)) (tX8_endRope_0_ok (23, .aload_n 0, 1) (List.mem_of_getElem? (i := 12) rfl)) ?_
      refine w_callV (own := 13) (mi := 80) [] [] [(0, .ref t)] rfl (cllw_X8 (34, 0, 80) (List.mem_of_getElem? (i := 5) rfl)) rfl rfl c8 rfl (by omega) (w_lo (n := 20) rfl (by omega)) (Nat.le_of_ble_eq_true rfl) (Nat.le_of_ble_eq_true rfl) rfl (tX8_endRope_0_ok (24, .invokevirtual 34, 3) (List.mem_of_getElem? (i := 13) rfl)) (s_wrong hT ⟨c8, c9, n_b_t, l1, l2, by omega, by omega⟩ (fun h29 fl30 p31 e32 o33 => ?_))
      obtain ⟨c34, c35, -, -, -, a36, a37⟩ := p31
      show ww l D tys A X fr lo mX8_endRope Q 27 [(3, .int v3), (0, .ref t), (1, .ref P), (2, .int p)] [] h29
      refine w_vret rfl (tX8_endRope_0_ok (27, .return_, 1) (List.mem_of_getElem? (i := 14) rfl)) ?_
      refine hq h29 at2 fl30 ⟨c34, c35, n_b_t, l1, l2, by omega, by omega⟩ (((HP).fr N o7).fr N o33) (((R).fr N o7).fr N o33) ?_ (fun q hq => (o33 q (pn_nl hq s_t (by decide))).trans (o7 q (pn_nl hq s_t (by decide))))
      rw [if_pos (by omega)]
      show _ = _; omega
    · refine w_aload_n (List.Mem.tail _ (List.Mem.tail _ (List.Mem.head _))) (tX8_endRope_0_ok (15, .aload_n 1, 1) (List.mem_of_getElem? (i := 8) rfl)) ?_
      refine w_iload_n (List.Mem.tail _ (List.Mem.tail _ (List.Mem.tail _ (List.Mem.head _)))) (tX8_endRope_0_ok (16, .iload_n 2, 1) (List.mem_of_getElem? (i := 9) rfl)) ?_
      refine w_callV (own := 13) (mi := 46) [.int p] [] [(0, .ref P), (1, .int p)] rfl (cllw_X8 (69, 0, 46) (List.mem_of_getElem? (i := 12) rfl)) rfl rfl (Exists.choose_spec (pn.obj ((HP).fr N o7))) rfl (by omega) (w_lo (n := 21) rfl (by omega)) (Nat.le_of_ble_eq_true rfl) (Nat.le_of_ble_eq_true rfl) rfl (tX8_endRope_0_ok (17, .invokevirtual 69, 3) (List.mem_of_getElem? (i := 10) rfl)) (s_isUneven hT hp hx ((HP).fr N o7) (fun v38 e39 => ?_))
      show ww l D tys A X fr lo mX8_endRope Q 20 [(3, .int v3), (0, .ref t), (1, .ref P), (2, .int p)] [.int v38] h1
      refine w_if_eq (tgt := 27) (tX8_endRope_0_ok (20, .ifCond .eq 7, 3) (List.mem_of_getElem? (i := 11) rfl)) rfl (fun b40 => ?_) (fun b40 => ?_)
      · refine w_vret rfl (tX8_endRope_0_ok (27, .return_, 1) (List.mem_of_getElem? (i := 14) rfl)) ?_
        refine hq h1 at2 fl0 ⟨c8, c9, n_b_t, l1, l2, by omega, by omega⟩ ((HP).fr N o7) ((R).fr N o7) ?_ (fun q hq => o7 q (pn_nl hq s_t (by decide)))
        rw [if_neg (by omega)]
        exact ⟨by omega, by omega⟩
      · refine w_aload_n (List.Mem.tail _ (List.Mem.head _)) (tX8_endRope_0_ok (23, .aload_n 0, 1) (List.mem_of_getElem? (i := 12) rfl)) ?_
        refine w_callV (own := 13) (mi := 80) [] [] [(0, .ref t)] rfl (cllw_X8 (34, 0, 80) (List.mem_of_getElem? (i := 5) rfl)) rfl rfl c8 rfl (by omega) (w_lo (n := 20) rfl (by omega)) (Nat.le_of_ble_eq_true rfl) (Nat.le_of_ble_eq_true rfl) rfl (tX8_endRope_0_ok (24, .invokevirtual 34, 3) (List.mem_of_getElem? (i := 13) rfl)) (s_wrong hT ⟨c8, c9, n_b_t, l1, l2, by omega, by omega⟩ (fun h41 fl42 p43 e44 o45 => ?_))
        obtain ⟨c46, c47, -, -, -, a48, a49⟩ := p43
        show ww l D tys A X fr lo mX8_endRope Q 27 [(3, .int v3), (0, .ref t), (1, .ref P), (2, .int p)] [] h41
        refine w_vret rfl (tX8_endRope_0_ok (27, .return_, 1) (List.mem_of_getElem? (i := 14) rfl)) ?_
        refine hq h41 at2 fl42 ⟨c46, c47, n_b_t, l1, l2, by omega, by omega⟩ (((HP).fr N o7).fr N o45) (((R).fr N o7).fr N o45) ?_ (fun q hq => (o45 q (pn_nl hq s_t (by decide))).trans (o7 q (pn_nl hq s_t (by decide))))
        rw [if_pos (by omega)]
        show _ = _; omega
theorem s_ropeLV (hT : k_tys tys cA) {p : Int32} (hN : pns sg t b P a1 a2 a3 a4 a5 a6 a7 a8) (hp : 0 ≤ p.toInt ∧ p.toInt < 6) (hr : 3 ≤ fr ∧ 120 ≤ lo) : ∀ (j : Nat) (i told at0 fl0 : Int32) (h : ch_H) (g1 g2 g3 : Nat → Int32) (rc : Nat → Nat → Int) (tn : Nat), i.toInt = 10 - (j : Int) → j ≤ 10 → told.toInt = (tn : Int) → tn < 512 → (sp_pc tn : Int) = i.toInt → 0 ≤ (g3 p.toInt.toNat).toInt ∧ (g3 p.toInt.toNat).toInt ≤ 20 → fl0.toInt = -1 → tp cA h t b f len at0 fl0 → pn cA h P a1 a2 a3 a4 a5 a6 a7 a8 g1 g2 g3 → pr cA h a1 a2 a3 a4 a5 a6 a7 a8 rc → (∀ (h1 : ch_H) (at1 fl1 : Int32) (k1 k2 k3 : Nat → Int32), tp cA h1 t b f len at1 fl1 → pn cA h1 P a1 a2 a3 a4 a5 a6 a7 a8 k1 k2 k3 → sp_is (sp_rp f len.toInt.toNat p.toInt j at0.toInt.toNat tn (g1 p.toInt.toNat).toInt (g2 p.toInt.toNat).toInt (g3 p.toInt.toNat).toInt) at1 fl1 → (fl1.toInt = -1 → pr cA h1 a1 a2 a3 a4 a5 a6 a7 a8 (sp_row rc p.toInt.toNat (sp_rv f len.toInt.toNat p.toInt j at0.toInt.toNat (rc p.toInt.toNat)))) → (∀ q, sg q < 3 → h1 q = h q) → Q none h1) → ww l D tys A X fr lo mX8_readRope Q 10 [(4, .int i), (3, .int told), (0, .ref t), (1, .ref P), (2, .int p)] [] h := by
  intro j
  induction j using Nat.strongRecOn with
  | ind j ih =>
    intro i told at0 fl0 h g1 g2 g3 rc tn hi hj hto h5 hpc hx hf0 H HP R hq
    have N := hN
    obtain ⟨s_t, s_b, s_P, s_a1, s_a2, s_a3, s_a4, s_a5, s_a6, s_a7, s_a8⟩ := hN
    obtain ⟨c_t, c_b, n_b_t, l1, l2, a9, a10⟩ := H
    by_cases j0 : j = 0
    · exfalso; unfold sp_pc at hpc; omega
    have j9 : j = (j - 1) + 1 := by omega
    refine w_iload (List.Mem.head _) (tX8_readRope_0_ok (10, .iload 4, 2) (List.mem_of_getElem? (i := 7) rfl)) ?_
    refine w_bipush (by decide) (tX8_readRope_0_ok (12, .bipush 9, 2) (List.mem_of_getElem? (i := 8) rfl)) (fun v1 e2 => ?_)
    refine w_icmp_gt (tgt := 121) (tX8_readRope_0_ok (14, .if_icmp .gt 107, 3) (List.mem_of_getElem? (i := 9) rfl)) rfl (fun b3 => ?_) (fun b3 => ?_)
    · exfalso; unfold sp_pc at hpc; omega
    · refine w_aload_n (List.Mem.tail _ (List.Mem.tail _ (List.Mem.head _))) (tX8_readRope_0_ok (17, .aload_n 0, 1) (List.mem_of_getElem? (i := 10) rfl)) ?_
      refine w_callV (own := 13) (mi := 77) [] [] [(0, .ref t)] rfl (cllw_X8 (24, 0, 77) (List.mem_of_getElem? (i := 3) rfl)) rfl rfl c_t rfl (by omega) (w_lo (n := 20) rfl (by omega)) (Nat.le_of_ble_eq_true rfl) (Nat.le_of_ble_eq_true rfl) rfl (tX8_readRope_0_ok (18, .invokevirtual 24, 3) (List.mem_of_getElem? (i := 11) rfl)) (s_sign hT ⟨c_t, c_b, n_b_t, l1, l2, by omega, by omega⟩ (fun h4 at5 v6 p7 e8 e9 o10 => ?_))
      obtain ⟨c11, c12, -, -, -, a13, a14⟩ := p7
      show ww l D tys A X fr lo mX8_readRope Q 21 [(4, .int i), (3, .int told), (0, .ref t), (1, .ref P), (2, .int p)] [.int v6] h4
      rw [e8] at e9
      have g15 := sp_sg_or f len.toInt.toNat (sp_sk f len.toInt.toNat at0.toInt.toNat)
      refine w_istore [(5, .int v6), (4, .int i), (3, .int told), (0, .ref t), (1, .ref P), (2, .int p)] rfl (Nat.le_of_ble_eq_true rfl) (tX8_readRope_0_ok (21, .istore 5, 2) (List.mem_of_getElem? (i := 12) rfl)) ?_
      refine w_iload (List.Mem.head _) (tX8_readRope_0_ok (23, .iload 5, 2) (List.mem_of_getElem? (i := 13) rfl)) ?_
      refine w_callS (own := 13) (mi := 81) [.int v6] [] [(0, .int v6)] rfl (cllw_X8 (44, 1, 81) (List.mem_of_getElem? (i := 4) rfl)) rfl rfl (by omega) (w_lo (n := 20) rfl (by omega)) (Nat.le_of_ble_eq_true rfl) (Nat.le_of_ble_eq_true rfl) rfl (tX8_readRope_0_ok (25, .invokestatic 44, 3) (List.mem_of_getElem? (i := 14) rfl)) (s_bitOf (fun v16 e17 => ?_))
      show ww l D tys A X fr lo mX8_readRope Q 28 [(5, .int v6), (4, .int i), (3, .int told), (0, .ref t), (1, .ref P), (2, .int p)] [.int v16] h4
      refine w_istore [(6, .int v16), (5, .int v6), (4, .int i), (3, .int told), (0, .ref t), (1, .ref P), (2, .int p)] rfl (Nat.le_of_ble_eq_true rfl) (tX8_readRope_0_ok (28, .istore 6, 2) (List.mem_of_getElem? (i := 15) rfl)) ?_
      refine w_iload (List.Mem.head _) (tX8_readRope_0_ok (30, .iload 6, 2) (List.mem_of_getElem? (i := 16) rfl)) ?_
      refine w_if_eq (tgt := 53) (tX8_readRope_0_ok (32, .ifCond .eq 21, 3) (List.mem_of_getElem? (i := 17) rfl)) rfl (fun b18 => ?_) (fun b18 => ?_)
      · refine w_aload_n (List.Mem.tail _ (List.Mem.tail _ (List.Mem.tail _ (List.Mem.tail _ (List.Mem.head _))))) (tX8_readRope_0_ok (53, .aload_n 0, 1) (List.mem_of_getElem? (i := 27) rfl)) ?_
        refine w_callV (own := 13) (mi := 80) [] [] [(0, .ref t)] rfl (cllw_X8 (34, 0, 80) (List.mem_of_getElem? (i := 5) rfl)) rfl rfl c11 rfl (by omega) (w_lo (n := 20) rfl (by omega)) (Nat.le_of_ble_eq_true rfl) (Nat.le_of_ble_eq_true rfl) rfl (tX8_readRope_0_ok (54, .invokevirtual 34, 3) (List.mem_of_getElem? (i := 28) rfl)) (s_wrong hT ⟨c11, c12, n_b_t, l1, l2, by omega, by omega⟩ (fun h19 fl20 p21 e22 o23 => ?_))
        obtain ⟨c24, c25, -, -, -, a26, a27⟩ := p21
        show ww l D tys A X fr lo mX8_readRope Q 57 [(6, .int v16), (5, .int v6), (4, .int i), (3, .int told), (0, .ref t), (1, .ref P), (2, .int p)] [] h19
        refine w_vret rfl (tX8_readRope_0_ok (57, .return_, 1) (List.mem_of_getElem? (i := 29) rfl)) ?_
        rw [e9] at e17
        have y1 : sp_bit (sp_sg f len.toInt.toNat (sp_sk f len.toInt.toNat at0.toInt.toNat)) = 0 ∨ tn / sp_bit (sp_sg f len.toInt.toNat (sp_sk f len.toInt.toNat at0.toInt.toNat)) % 2 = 1 ∨ sp_sg f len.toInt.toNat (sp_sk f len.toInt.toNat at0.toInt.toNat) = 117 ∧ p.toInt = 0 := by omega
        refine hq h19 at5 fl20 g1 g2 g3 ⟨c24, c25, n_b_t, l1, l2, by omega, by omega⟩ (((HP).fr N o10).fr N o23) ?_ ?_ (fun q hq => (o23 q (pn_nl hq s_t (by decide))).trans (o10 q (pn_nl hq s_t (by decide))))
        · rw [j9, sp_rp_bad (c := sp_sg f len.toInt.toNat (sp_sk f len.toInt.toNat at0.toInt.toNat)) rfl rfl y1]
          show _ = _; omega
        · intro z9; omega
      · refine w_iload_n (List.Mem.tail _ (List.Mem.tail _ (List.Mem.tail _ (List.Mem.head _)))) (tX8_readRope_0_ok (35, .iload_n 3, 1) (List.mem_of_getElem? (i := 18) rfl)) ?_
        refine w_iload (List.Mem.head _) (tX8_readRope_0_ok (36, .iload 6, 2) (List.mem_of_getElem? (i := 19) rfl)) ?_
        refine w_iand (tX8_readRope_0_ok (38, .iand, 1) (List.mem_of_getElem? (i := 20) rfl)) (fun v28 e29 => ?_)
        rw [e9] at e17
        have d30 := sp_told_c hto h5 e17 (by assumption)
        have d31 := d30.1 v28 e29
        have d32 := sp_bit_nz (c := sp_sg f len.toInt.toNat (sp_sk f len.toInt.toNat at0.toInt.toNat)) (by omega)
        refine w_if_ne (tgt := 53) (tX8_readRope_0_ok (39, .ifCond .ne 14, 3) (List.mem_of_getElem? (i := 21) rfl)) rfl (fun b33 => ?_) (fun b33 => ?_)
        · refine w_aload_n (List.Mem.tail _ (List.Mem.tail _ (List.Mem.tail _ (List.Mem.tail _ (List.Mem.head _))))) (tX8_readRope_0_ok (53, .aload_n 0, 1) (List.mem_of_getElem? (i := 27) rfl)) ?_
          refine w_callV (own := 13) (mi := 80) [] [] [(0, .ref t)] rfl (cllw_X8 (34, 0, 80) (List.mem_of_getElem? (i := 5) rfl)) rfl rfl c11 rfl (by omega) (w_lo (n := 20) rfl (by omega)) (Nat.le_of_ble_eq_true rfl) (Nat.le_of_ble_eq_true rfl) rfl (tX8_readRope_0_ok (54, .invokevirtual 34, 3) (List.mem_of_getElem? (i := 28) rfl)) (s_wrong hT ⟨c11, c12, n_b_t, l1, l2, by omega, by omega⟩ (fun h34 fl35 p36 e37 o38 => ?_))
          obtain ⟨c39, c40, -, -, -, a41, a42⟩ := p36
          show ww l D tys A X fr lo mX8_readRope Q 57 [(6, .int v16), (5, .int v6), (4, .int i), (3, .int told), (0, .ref t), (1, .ref P), (2, .int p)] [] h34
          refine w_vret rfl (tX8_readRope_0_ok (57, .return_, 1) (List.mem_of_getElem? (i := 29) rfl)) ?_
          have y1 : sp_bit (sp_sg f len.toInt.toNat (sp_sk f len.toInt.toNat at0.toInt.toNat)) = 0 ∨ tn / sp_bit (sp_sg f len.toInt.toNat (sp_sk f len.toInt.toNat at0.toInt.toNat)) % 2 = 1 ∨ sp_sg f len.toInt.toNat (sp_sk f len.toInt.toNat at0.toInt.toNat) = 117 ∧ p.toInt = 0 := by omega
          refine hq h34 at5 fl35 g1 g2 g3 ⟨c39, c40, n_b_t, l1, l2, by omega, by omega⟩ (((HP).fr N o10).fr N o38) ?_ ?_ (fun q hq => (o38 q (pn_nl hq s_t (by decide))).trans (o10 q (pn_nl hq s_t (by decide))))
          · rw [j9, sp_rp_bad (c := sp_sg f len.toInt.toNat (sp_sk f len.toInt.toNat at0.toInt.toNat)) rfl rfl y1]
            show _ = _; omega
          · intro z9; omega
        · refine w_iload (List.Mem.tail _ (List.Mem.head _)) (tX8_readRope_0_ok (42, .iload 5, 2) (List.mem_of_getElem? (i := 22) rfl)) ?_
          refine w_bipush (by decide) (tX8_readRope_0_ok (44, .bipush 117, 2) (List.mem_of_getElem? (i := 23) rfl)) (fun v43 e44 => ?_)
          refine w_icmp_ne (tgt := 58) (tX8_readRope_0_ok (46, .if_icmp .ne 12, 3) (List.mem_of_getElem? (i := 24) rfl)) rfl (fun b45 => ?_) (fun b45 => ?_)
          · refine w_iload_n (List.Mem.tail _ (List.Mem.tail _ (List.Mem.tail _ (List.Mem.head _)))) (tX8_readRope_0_ok (58, .iload_n 3, 1) (List.mem_of_getElem? (i := 30) rfl)) ?_
            refine w_iload (List.Mem.head _) (tX8_readRope_0_ok (59, .iload 6, 2) (List.mem_of_getElem? (i := 31) rfl)) ?_
            refine w_ior (tX8_readRope_0_ok (61, .ior, 1) (List.mem_of_getElem? (i := 32) rfl)) (fun v46 e47 => ?_)
            have d9 : ¬ tn / sp_bit (sp_sg f len.toInt.toNat (sp_sk f len.toInt.toNat at0.toInt.toNat)) % 2 = 1 := by omega
            have d8 := d30.2 d9
            have d7 := d8.1 v46 e47
            refine w_istore_n [(3, .int v46), (6, .int v16), (5, .int v6), (4, .int i), (0, .ref t), (1, .ref P), (2, .int p)] rfl (Nat.le_of_ble_eq_true rfl) (tX8_readRope_0_ok (62, .istore_n 3, 1) (List.mem_of_getElem? (i := 33) rfl)) ?_
            refine w_aload_n (List.Mem.tail _ (List.Mem.tail _ (List.Mem.tail _ (List.Mem.tail _ (List.Mem.head _))))) (tX8_readRope_0_ok (63, .aload_n 0, 1) (List.mem_of_getElem? (i := 34) rfl)) ?_
            refine w_dup rfl (tX8_readRope_0_ok (64, .dup, 1) (List.mem_of_getElem? (i := 35) rfl)) ?_
            refine w_get (own := 13) rfl rfl (by decide) c11 rfl (tX8_readRope_0_ok (65, .getfield 37, 3) (List.mem_of_getElem? (i := 36) rfl)) ?_
            refine w_iconst (by decide) (tX8_readRope_0_ok (68, .iconst 1, 1) (List.mem_of_getElem? (i := 37) rfl)) (fun v48 e49 => ?_)
            refine w_iadd (by omega) (by omega) (tX8_readRope_0_ok (69, .iadd, 1) (List.mem_of_getElem? (i := 38) rfl)) (fun v50 e51 => ?_)
            refine w_put (own := 13) [.ref b, .int len, .int v50, .int fl0] rfl rfl rfl (by decide) rfl ⟨rfl, rfl⟩ c11 (Nat.le_of_ble_eq_true rfl) (tX8_readRope_0_ok (70, .putfield 37, 3) (List.mem_of_getElem? (i := 39) rfl)) (fun h52 c53 o54 => ?_)
            have c55 := (o54 b (pn_ne s_b s_t (by decide))).trans c12
            refine w_aload_n (List.Mem.tail _ (List.Mem.tail _ (List.Mem.tail _ (List.Mem.tail _ (List.Mem.head _))))) (tX8_readRope_0_ok (73, .aload_n 0, 1) (List.mem_of_getElem? (i := 40) rfl)) ?_
            refine w_aload_n (List.Mem.tail _ (List.Mem.tail _ (List.Mem.tail _ (List.Mem.tail _ (List.Mem.tail _ (List.Mem.head _)))))) (tX8_readRope_0_ok (74, .aload_n 1, 1) (List.mem_of_getElem? (i := 41) rfl)) ?_
            refine w_iload_n (List.Mem.tail _ (List.Mem.tail _ (List.Mem.tail _ (List.Mem.tail _ (List.Mem.tail _ (List.Mem.tail _ (List.Mem.head _))))))) (tX8_readRope_0_ok (75, .iload_n 2, 1) (List.mem_of_getElem? (i := 42) rfl)) ?_
            refine w_iload (List.Mem.tail _ (List.Mem.tail _ (List.Mem.head _))) (tX8_readRope_0_ok (76, .iload 5, 2) (List.mem_of_getElem? (i := 43) rfl)) ?_
            refine w_callS (own := 13) (mi := 84) [.ref t, .ref P, .int p, .int v6] [] [(0, .ref t), (1, .ref P), (2, .int p), (3, .int v6)] rfl (cllw_X8 (48, 1, 84) (List.mem_of_getElem? (i := 6) rfl)) rfl rfl (by omega) (w_lo (n := 24) rfl (by omega)) (Nat.le_of_ble_eq_true rfl) (Nat.le_of_ble_eq_true rfl) rfl (tX8_readRope_0_ok (78, .invokestatic 48, 3) (List.mem_of_getElem? (i := 44) rfl)) (s_readNumberV hT N hp (sp_bit_l (c := v6.toInt) (by rw [e9]; omega)) ⟨by omega, w_sub (n := 24) rfl (by omega)⟩ (by omega) ⟨c53, c55, n_b_t, l1, l2, by omega, by omega⟩ (((HP).fr N o10).fr N o54) (((R).fr N o10).fr N o54) (fun h56 at57 fl58 k59 k60 k61 p62 p63 e64 e65 e66 o67 => ?_))
            obtain ⟨c68, c69, -, -, -, a70, a71⟩ := p62
            have a72 : v50.toInt.toNat = (sp_sk f len.toInt.toNat at0.toInt.toNat) + 1 := by omega
            rw [a72, e9] at e64
            rw [a72, e9] at e65
            rw [a72, e9] at e66
            show ww l D tys A X fr lo mX8_readRope Q 81 [(3, .int v46), (6, .int v16), (5, .int v6), (4, .int i), (0, .ref t), (1, .ref P), (2, .int p)] [] h56
            refine w_aload_n (List.Mem.tail _ (List.Mem.tail _ (List.Mem.tail _ (List.Mem.tail _ (List.Mem.head _))))) (tX8_readRope_0_ok (81, .aload_n 0, 1) (List.mem_of_getElem? (i := 45) rfl)) ?_
            refine w_callV (own := 13) (mi := 74) [] [] [(0, .ref t)] rfl (cllw_X8 (20, 0, 74) (List.mem_of_getElem? (i := 8) rfl)) rfl rfl c68 rfl (by omega) (w_lo (n := 20) rfl (by omega)) (Nat.le_of_ble_eq_true rfl) (Nat.le_of_ble_eq_true rfl) rfl (tX8_readRope_0_ok (82, .invokevirtual 20, 3) (List.mem_of_getElem? (i := 46) rfl)) (s_isWrong hT ⟨c68, c69, n_b_t, l1, l2, by omega, by omega⟩ (fun v73 e74 => ?_))
            show ww l D tys A X fr lo mX8_readRope Q 85 [(3, .int v46), (6, .int v16), (5, .int v6), (4, .int i), (0, .ref t), (1, .ref P), (2, .int p)] [.int v73] h56
            refine w_if_eq (tgt := 89) (tX8_readRope_0_ok (85, .ifCond .eq 4, 3) (List.mem_of_getElem? (i := 47) rfl)) rfl (fun b75 => ?_) (fun b75 => ?_)
            · refine w_aload_n (List.Mem.tail _ (List.Mem.tail _ (List.Mem.tail _ (List.Mem.tail _ (List.Mem.head _))))) (tX8_readRope_0_ok (89, .aload_n 0, 1) (List.mem_of_getElem? (i := 49) rfl)) ?_
              refine w_callV (own := 13) (mi := 77) [] [] [(0, .ref t)] rfl (cllw_X8 (24, 0, 77) (List.mem_of_getElem? (i := 3) rfl)) rfl rfl c68 rfl (by omega) (w_lo (n := 20) rfl (by omega)) (Nat.le_of_ble_eq_true rfl) (Nat.le_of_ble_eq_true rfl) rfl (tX8_readRope_0_ok (90, .invokevirtual 24, 3) (List.mem_of_getElem? (i := 50) rfl)) (s_sign hT ⟨c68, c69, n_b_t, l1, l2, by omega, by omega⟩ (fun h76 at77 v78 p79 e80 e81 o82 => ?_))
              obtain ⟨c83, c84, -, -, -, a85, a86⟩ := p79
              show ww l D tys A X fr lo mX8_readRope Q 93 [(3, .int v46), (6, .int v16), (5, .int v6), (4, .int i), (0, .ref t), (1, .ref P), (2, .int p)] [.int v78] h76
              rw [e80] at e81
              have g87 := sp_sg_or f len.toInt.toNat (sp_sk f len.toInt.toNat at57.toInt.toNat)
              refine w_bipush (by decide) (tX8_readRope_0_ok (93, .bipush 44, 2) (List.mem_of_getElem? (i := 51) rfl)) (fun v88 e89 => ?_)
              refine w_icmp_eq (tgt := 105) (tX8_readRope_0_ok (95, .if_icmp .eq 10, 3) (List.mem_of_getElem? (i := 52) rfl)) rfl (fun b90 => ?_) (fun b90 => ?_)
              · refine w_aload_n (List.Mem.tail _ (List.Mem.tail _ (List.Mem.tail _ (List.Mem.tail _ (List.Mem.head _))))) (tX8_readRope_0_ok (105, .aload_n 0, 1) (List.mem_of_getElem? (i := 58) rfl)) ?_
                refine w_dup rfl (tX8_readRope_0_ok (106, .dup, 1) (List.mem_of_getElem? (i := 59) rfl)) ?_
                refine w_get (own := 13) rfl rfl (by decide) c83 rfl (tX8_readRope_1_ok (107, .getfield 37, 3) (List.mem_of_getElem? (i := 0) rfl)) ?_
                refine w_iconst (by decide) (tX8_readRope_1_ok (110, .iconst 1, 1) (List.mem_of_getElem? (i := 1) rfl)) (fun v91 e92 => ?_)
                refine w_iadd (by omega) (by omega) (tX8_readRope_1_ok (111, .iadd, 1) (List.mem_of_getElem? (i := 2) rfl)) (fun v93 e94 => ?_)
                refine w_put (own := 13) [.ref b, .int len, .int v93, .int fl58] rfl rfl rfl (by decide) rfl ⟨rfl, rfl⟩ c83 (Nat.le_of_ble_eq_true rfl) (tX8_readRope_1_ok (112, .putfield 37, 3) (List.mem_of_getElem? (i := 3) rfl)) (fun h95 c96 o97 => ?_)
                have c98 := (o97 b (pn_ne s_b s_t (by decide))).trans c84
                refine w_iinc (fun v99 => [(4, .int v99), (3, .int v46), (6, .int v16), (5, .int v6), (0, .ref t), (1, .ref P), (2, .int p)]) (fun _ => rfl) (List.Mem.tail _ (List.Mem.tail _ (List.Mem.tail _ (List.Mem.head _)))) (Nat.le_of_ble_eq_true rfl) (by decide) (by omega) (by omega) (tX8_readRope_1_ok (115, .iinc 4 1, 3) (List.mem_of_getElem? (i := 4) rfl)) (fun v99 e100 => ?_)
                refine w_goto (tgt := 10) (tX8_readRope_1_ok (118, .goto (-108), 3) (List.mem_of_getElem? (i := 5) rfl)) rfl ?_
                have y0 : fl58.toInt = -1 := by omega
                have y1 : ¬ (sp_bit (sp_sg f len.toInt.toNat (sp_sk f len.toInt.toNat at0.toInt.toNat)) = 0 ∨ tn / sp_bit (sp_sg f len.toInt.toNat (sp_sk f len.toInt.toNat at0.toInt.toNat)) % 2 = 1 ∨ sp_sg f len.toInt.toNat (sp_sk f len.toInt.toNat at0.toInt.toNat) = 117 ∧ p.toInt = 0) := by omega
                obtain ⟨q9, q8, q7⟩ := sp_is.inr e64 y0
                have y2 := e65 y0
                have y3 := sp_rp_go (j := j - 1) (t := tn) (K := (g1 p.toInt.toNat).toInt) rfl rfl y1 q8 y2.1 y2.2.1 y2.2.2
                have y4 := sp_num_nn f len.toInt.toNat 3 (sp_sk f len.toInt.toNat at0.toInt.toNat + 1)
                have g2o := HP.2.2.2.2.2.2.2.2.2 p.toInt.toNat (by omega)
                have g2p := ((((p63).fr N o82).fr N o97)).2.2.2.2.2.2.2.2.2 p.toInt.toNat (by omega)
                have x9 : 0 ≤ (k61 p.toInt.toNat).toInt ∧ (k61 p.toInt.toNat).toInt ≤ 20 := by
                  have z1 := y2.2.2
                  unfold sp_kv at z1
                  have z2 : sp_ok p.toInt (g2 p.toInt.toNat).toInt (g3 p.toInt.toNat).toInt (sp_sg f len.toInt.toNat (sp_sk f len.toInt.toNat at0.toInt.toNat)) (sp_num f len.toInt.toNat 3 (sp_sk f len.toInt.toNat at0.toInt.toNat + 1)).2 := sp_rn_ok q8
                  have z3 := fun e => sp_ok_x z2 e
                  split at z1 <;> omega
                have h1k : rc p.toInt.toNat 1 = (g2 p.toInt.toNat).toInt ∧ rc p.toInt.toNat 2 = (g3 p.toInt.toNat).toInt := by
                  obtain ⟨e1, e2, e3, e4, e5, e6, e7, e8, r1, r2, r3, r4, r5, r6, r7, r8, hr9⟩ := R
                  obtain ⟨-, c_a1, c_a2, c_a3, -⟩ := HP
                  rw [c_a2] at r2
                  cases r2
                  rw [c_a3] at r3
                  cases r3
                  have z8 := hr9 p.toInt.toNat (by omega)
                  exact ⟨z8.2.1.symm, z8.2.2.1.symm⟩
                refine w_lv [(4, .int v99), (3, .int v46), (0, .ref t), (1, .ref P), (2, .int p)] (by intro q hq; simp only [List.mem_cons, List.not_mem_nil, or_false] at hq ⊢; rcases hq with e | e | e | e | e <;> subst e <;> simp) ?_
                have yY : sp_sg f len.toInt.toNat (sp_sk f len.toInt.toNat q9) = 44 := by have y7 : q9 = at57.toInt.toNat := (by omega); rw [y7, ← e81]; omega
                have y6 : sp_sk f len.toInt.toNat q9 + 1 = v93.toInt.toNat := by have y7 : q9 = at57.toInt.toNat := (by omega); rw [y7, ← e80]; omega
                refine ih (j - 1) (by omega) _ _ _ _ _ _ _ _ _ (tn + sp_bit (sp_sg f len.toInt.toNat (sp_sk f len.toInt.toNat at0.toInt.toNat))) (by omega) (by omega) (by omega) d8.2.1 (by omega) x9 (by omega) ⟨c96, c98, n_b_t, l1, l2, by omega, by omega⟩ (((p63).fr N o82).fr N o97) ((((e66 (by omega))).fr N o82).fr N o97) (fun h1 at1 fl1 m1 m2 m3 p1 p2 p3 p5 p4 => hq h1 at1 fl1 m1 m2 m3 p1 p2 ?_ ?_ (fun q hq => (p4 q hq).trans ((o97 q (pn_nl hq s_t (by decide))).trans ((o82 q (pn_nl hq s_t (by decide))).trans ((o67 q hq).trans ((o54 q (pn_nl hq s_t (by decide))).trans (o10 q (pn_nl hq s_t (by decide)))))))))
                · rw [j9, y3]
                  unfold sp_re
                  rw [y6, if_pos yY]
                  exact p3
                · intro z9
                  have p6 := p5 z9
                  rw [sp_row_s, sp_row_row] at p6
                  rw [j9, sp_rv, h1k.1, h1k.2, q8]
                  dsimp only
                  rw [if_pos yY, y6]
                  exact p6
              · refine w_aload_n (List.Mem.tail _ (List.Mem.tail _ (List.Mem.tail _ (List.Mem.tail _ (List.Mem.head _))))) (tX8_readRope_0_ok (98, .aload_n 0, 1) (List.mem_of_getElem? (i := 53) rfl)) ?_
                refine w_aload_n (List.Mem.tail _ (List.Mem.tail _ (List.Mem.tail _ (List.Mem.tail _ (List.Mem.tail _ (List.Mem.head _)))))) (tX8_readRope_0_ok (99, .aload_n 1, 1) (List.mem_of_getElem? (i := 54) rfl)) ?_
                refine w_iload_n (List.Mem.tail _ (List.Mem.tail _ (List.Mem.tail _ (List.Mem.tail _ (List.Mem.tail _ (List.Mem.tail _ (List.Mem.head _))))))) (tX8_readRope_0_ok (100, .iload_n 2, 1) (List.mem_of_getElem? (i := 55) rfl)) ?_
                have y0 : fl58.toInt = -1 := by omega
                have y1 : ¬ (sp_bit (sp_sg f len.toInt.toNat (sp_sk f len.toInt.toNat at0.toInt.toNat)) = 0 ∨ tn / sp_bit (sp_sg f len.toInt.toNat (sp_sk f len.toInt.toNat at0.toInt.toNat)) % 2 = 1 ∨ sp_sg f len.toInt.toNat (sp_sk f len.toInt.toNat at0.toInt.toNat) = 117 ∧ p.toInt = 0) := by omega
                obtain ⟨q9, q8, q7⟩ := sp_is.inr e64 y0
                have y2 := e65 y0
                have y3 := sp_rp_go (j := j - 1) (t := tn) (K := (g1 p.toInt.toNat).toInt) rfl rfl y1 q8 y2.1 y2.2.1 y2.2.2
                have y4 := sp_num_nn f len.toInt.toNat 3 (sp_sk f len.toInt.toNat at0.toInt.toNat + 1)
                have g2o := HP.2.2.2.2.2.2.2.2.2 p.toInt.toNat (by omega)
                have g2p := (((p63).fr N o82)).2.2.2.2.2.2.2.2.2 p.toInt.toNat (by omega)
                have x9 : 0 ≤ (k61 p.toInt.toNat).toInt ∧ (k61 p.toInt.toNat).toInt ≤ 20 := by
                  have z1 := y2.2.2
                  unfold sp_kv at z1
                  have z2 : sp_ok p.toInt (g2 p.toInt.toNat).toInt (g3 p.toInt.toNat).toInt (sp_sg f len.toInt.toNat (sp_sk f len.toInt.toNat at0.toInt.toNat)) (sp_num f len.toInt.toNat 3 (sp_sk f len.toInt.toNat at0.toInt.toNat + 1)).2 := sp_rn_ok q8
                  have z3 := fun e => sp_ok_x z2 e
                  split at z1 <;> omega
                refine w_callS (own := 13) (mi := 82) [.ref t, .ref P, .int p] [] [(0, .ref t), (1, .ref P), (2, .int p)] rfl (cllw_X8 (52, 1, 82) (List.mem_of_getElem? (i := 11) rfl)) rfl rfl (by omega) (w_lo (n := 23) rfl (by omega)) (Nat.le_of_ble_eq_true rfl) (Nat.le_of_ble_eq_true rfl) rfl (tX8_readRope_0_ok (101, .invokestatic 52, 3) (List.mem_of_getElem? (i := 56) rfl)) (s_endRopeV hT N hp x9 ⟨by omega, w_sub (n := 23) rfl (by omega)⟩ (by omega) ⟨c83, c84, n_b_t, l1, l2, by omega, by omega⟩ ((p63).fr N o82) (((e66 (by omega))).fr N o82) (fun h101 at102 fl103 p104 p105 r106 e107 o108 => ?_))
                obtain ⟨c110, c111, -, -, -, a112, a113⟩ := p104
                show ww l D tys A X fr lo mX8_readRope Q 104 [(3, .int v46), (6, .int v16), (5, .int v6), (4, .int i), (0, .ref t), (1, .ref P), (2, .int p)] [] h101
                refine w_vret rfl (tX8_readRope_0_ok (104, .return_, 1) (List.mem_of_getElem? (i := 57) rfl)) ?_
                have y5 : sp_sk f len.toInt.toNat at77.toInt.toNat = at77.toInt.toNat := by rw [e80, sp_sk_sk]
                rw [y5] at e107
                have y6 : sp_sk f len.toInt.toNat q9 = at77.toInt.toNat := by rw [e80]; congr 1; omega
                have yN : ¬ sp_sg f len.toInt.toNat (sp_sk f len.toInt.toNat q9) = 44 := by have y7 : q9 = at57.toInt.toNat := (by omega); rw [y7, ← e81]; omega
                have h1k : rc p.toInt.toNat 1 = (g2 p.toInt.toNat).toInt ∧ rc p.toInt.toNat 2 = (g3 p.toInt.toNat).toInt := by
                  obtain ⟨e1, e2, e3, e4, e5, e6, e7, e8, r1, r2, r3, r4, r5, r6, r7, r8, hr9⟩ := R
                  obtain ⟨-, c_a1, c_a2, c_a3, -⟩ := HP
                  rw [c_a2] at r2
                  cases r2
                  rw [c_a3] at r3
                  cases r3
                  have z8 := hr9 p.toInt.toNat (by omega)
                  exact ⟨z8.2.1.symm, z8.2.2.1.symm⟩
                refine hq h101 at102 fl103 k59 k60 k61 ⟨c110, c111, n_b_t, l1, l2, by omega, by omega⟩ p105 ?_ ?_ (fun q hq => (o108 q hq).trans ((o82 q (pn_nl hq s_t (by decide))).trans ((o67 q hq).trans ((o54 q (pn_nl hq s_t (by decide))).trans (o10 q (pn_nl hq s_t (by decide)))))))
                · rw [j9, y3]
                  unfold sp_re
                  rw [y6, if_neg (by rw [← y6]; exact yN)]
                  exact e107
                · intro z9
                  rw [j9, sp_rv, h1k.1, h1k.2, q8]
                  dsimp only
                  rw [if_neg yN]
                  exact r106
            · refine w_vret rfl (tX8_readRope_0_ok (88, .return_, 1) (List.mem_of_getElem? (i := 48) rfl)) ?_
              obtain ⟨q9, q8, q7⟩ := sp_is.inl e64 (by omega)
              have y1 : ¬ (sp_bit (sp_sg f len.toInt.toNat (sp_sk f len.toInt.toNat at0.toInt.toNat)) = 0 ∨ tn / sp_bit (sp_sg f len.toInt.toNat (sp_sk f len.toInt.toNat at0.toInt.toNat)) % 2 = 1 ∨ sp_sg f len.toInt.toNat (sp_sk f len.toInt.toNat at0.toInt.toNat) = 117 ∧ p.toInt = 0) := by omega
              refine hq h56 at57 fl58 k59 k60 k61 ⟨c68, c69, n_b_t, l1, l2, by omega, by omega⟩ p63 ?_ ?_ (fun q hq => (o67 q hq).trans ((o54 q (pn_nl hq s_t (by decide))).trans (o10 q (pn_nl hq s_t (by decide)))))
              · rw [j9, sp_rp_num (c := sp_sg f len.toInt.toNat (sp_sk f len.toInt.toNat at0.toInt.toNat)) rfl rfl y1 q8]
                exact q7
              · intro z9; omega
          · refine w_iload_n (List.Mem.tail _ (List.Mem.tail _ (List.Mem.tail _ (List.Mem.tail _ (List.Mem.tail _ (List.Mem.tail _ (List.Mem.head _))))))) (tX8_readRope_0_ok (49, .iload_n 2, 1) (List.mem_of_getElem? (i := 25) rfl)) ?_
            refine w_if_ne (tgt := 58) (tX8_readRope_0_ok (50, .ifCond .ne 8, 3) (List.mem_of_getElem? (i := 26) rfl)) rfl (fun b114 => ?_) (fun b114 => ?_)
            · refine w_iload_n (List.Mem.tail _ (List.Mem.tail _ (List.Mem.tail _ (List.Mem.head _)))) (tX8_readRope_0_ok (58, .iload_n 3, 1) (List.mem_of_getElem? (i := 30) rfl)) ?_
              refine w_iload (List.Mem.head _) (tX8_readRope_0_ok (59, .iload 6, 2) (List.mem_of_getElem? (i := 31) rfl)) ?_
              refine w_ior (tX8_readRope_0_ok (61, .ior, 1) (List.mem_of_getElem? (i := 32) rfl)) (fun v115 e116 => ?_)
              have d9 : ¬ tn / sp_bit (sp_sg f len.toInt.toNat (sp_sk f len.toInt.toNat at0.toInt.toNat)) % 2 = 1 := by omega
              have d8 := d30.2 d9
              have d7 := d8.1 v115 e116
              refine w_istore_n [(3, .int v115), (6, .int v16), (5, .int v6), (4, .int i), (0, .ref t), (1, .ref P), (2, .int p)] rfl (Nat.le_of_ble_eq_true rfl) (tX8_readRope_0_ok (62, .istore_n 3, 1) (List.mem_of_getElem? (i := 33) rfl)) ?_
              refine w_aload_n (List.Mem.tail _ (List.Mem.tail _ (List.Mem.tail _ (List.Mem.tail _ (List.Mem.head _))))) (tX8_readRope_0_ok (63, .aload_n 0, 1) (List.mem_of_getElem? (i := 34) rfl)) ?_
              refine w_dup rfl (tX8_readRope_0_ok (64, .dup, 1) (List.mem_of_getElem? (i := 35) rfl)) ?_
              refine w_get (own := 13) rfl rfl (by decide) c11 rfl (tX8_readRope_0_ok (65, .getfield 37, 3) (List.mem_of_getElem? (i := 36) rfl)) ?_
              refine w_iconst (by decide) (tX8_readRope_0_ok (68, .iconst 1, 1) (List.mem_of_getElem? (i := 37) rfl)) (fun v117 e118 => ?_)
              refine w_iadd (by omega) (by omega) (tX8_readRope_0_ok (69, .iadd, 1) (List.mem_of_getElem? (i := 38) rfl)) (fun v119 e120 => ?_)
              refine w_put (own := 13) [.ref b, .int len, .int v119, .int fl0] rfl rfl rfl (by decide) rfl ⟨rfl, rfl⟩ c11 (Nat.le_of_ble_eq_true rfl) (tX8_readRope_0_ok (70, .putfield 37, 3) (List.mem_of_getElem? (i := 39) rfl)) (fun h121 c122 o123 => ?_)
              have c124 := (o123 b (pn_ne s_b s_t (by decide))).trans c12
              refine w_aload_n (List.Mem.tail _ (List.Mem.tail _ (List.Mem.tail _ (List.Mem.tail _ (List.Mem.head _))))) (tX8_readRope_0_ok (73, .aload_n 0, 1) (List.mem_of_getElem? (i := 40) rfl)) ?_
              refine w_aload_n (List.Mem.tail _ (List.Mem.tail _ (List.Mem.tail _ (List.Mem.tail _ (List.Mem.tail _ (List.Mem.head _)))))) (tX8_readRope_0_ok (74, .aload_n 1, 1) (List.mem_of_getElem? (i := 41) rfl)) ?_
              refine w_iload_n (List.Mem.tail _ (List.Mem.tail _ (List.Mem.tail _ (List.Mem.tail _ (List.Mem.tail _ (List.Mem.tail _ (List.Mem.head _))))))) (tX8_readRope_0_ok (75, .iload_n 2, 1) (List.mem_of_getElem? (i := 42) rfl)) ?_
              refine w_iload (List.Mem.tail _ (List.Mem.tail _ (List.Mem.head _))) (tX8_readRope_0_ok (76, .iload 5, 2) (List.mem_of_getElem? (i := 43) rfl)) ?_
              refine w_callS (own := 13) (mi := 84) [.ref t, .ref P, .int p, .int v6] [] [(0, .ref t), (1, .ref P), (2, .int p), (3, .int v6)] rfl (cllw_X8 (48, 1, 84) (List.mem_of_getElem? (i := 6) rfl)) rfl rfl (by omega) (w_lo (n := 24) rfl (by omega)) (Nat.le_of_ble_eq_true rfl) (Nat.le_of_ble_eq_true rfl) rfl (tX8_readRope_0_ok (78, .invokestatic 48, 3) (List.mem_of_getElem? (i := 44) rfl)) (s_readNumberV hT N hp (sp_bit_l (c := v6.toInt) (by rw [e9]; omega)) ⟨by omega, w_sub (n := 24) rfl (by omega)⟩ (by omega) ⟨c122, c124, n_b_t, l1, l2, by omega, by omega⟩ (((HP).fr N o10).fr N o123) (((R).fr N o10).fr N o123) (fun h125 at126 fl127 k128 k129 k130 p131 p132 e133 e134 e135 o136 => ?_))
              obtain ⟨c137, c138, -, -, -, a139, a140⟩ := p131
              have a141 : v119.toInt.toNat = (sp_sk f len.toInt.toNat at0.toInt.toNat) + 1 := by omega
              rw [a141, e9] at e133
              rw [a141, e9] at e134
              rw [a141, e9] at e135
              show ww l D tys A X fr lo mX8_readRope Q 81 [(3, .int v115), (6, .int v16), (5, .int v6), (4, .int i), (0, .ref t), (1, .ref P), (2, .int p)] [] h125
              refine w_aload_n (List.Mem.tail _ (List.Mem.tail _ (List.Mem.tail _ (List.Mem.tail _ (List.Mem.head _))))) (tX8_readRope_0_ok (81, .aload_n 0, 1) (List.mem_of_getElem? (i := 45) rfl)) ?_
              refine w_callV (own := 13) (mi := 74) [] [] [(0, .ref t)] rfl (cllw_X8 (20, 0, 74) (List.mem_of_getElem? (i := 8) rfl)) rfl rfl c137 rfl (by omega) (w_lo (n := 20) rfl (by omega)) (Nat.le_of_ble_eq_true rfl) (Nat.le_of_ble_eq_true rfl) rfl (tX8_readRope_0_ok (82, .invokevirtual 20, 3) (List.mem_of_getElem? (i := 46) rfl)) (s_isWrong hT ⟨c137, c138, n_b_t, l1, l2, by omega, by omega⟩ (fun v142 e143 => ?_))
              show ww l D tys A X fr lo mX8_readRope Q 85 [(3, .int v115), (6, .int v16), (5, .int v6), (4, .int i), (0, .ref t), (1, .ref P), (2, .int p)] [.int v142] h125
              refine w_if_eq (tgt := 89) (tX8_readRope_0_ok (85, .ifCond .eq 4, 3) (List.mem_of_getElem? (i := 47) rfl)) rfl (fun b144 => ?_) (fun b144 => ?_)
              · refine w_aload_n (List.Mem.tail _ (List.Mem.tail _ (List.Mem.tail _ (List.Mem.tail _ (List.Mem.head _))))) (tX8_readRope_0_ok (89, .aload_n 0, 1) (List.mem_of_getElem? (i := 49) rfl)) ?_
                refine w_callV (own := 13) (mi := 77) [] [] [(0, .ref t)] rfl (cllw_X8 (24, 0, 77) (List.mem_of_getElem? (i := 3) rfl)) rfl rfl c137 rfl (by omega) (w_lo (n := 20) rfl (by omega)) (Nat.le_of_ble_eq_true rfl) (Nat.le_of_ble_eq_true rfl) rfl (tX8_readRope_0_ok (90, .invokevirtual 24, 3) (List.mem_of_getElem? (i := 50) rfl)) (s_sign hT ⟨c137, c138, n_b_t, l1, l2, by omega, by omega⟩ (fun h145 at146 v147 p148 e149 e150 o151 => ?_))
                obtain ⟨c152, c153, -, -, -, a154, a155⟩ := p148
                show ww l D tys A X fr lo mX8_readRope Q 93 [(3, .int v115), (6, .int v16), (5, .int v6), (4, .int i), (0, .ref t), (1, .ref P), (2, .int p)] [.int v147] h145
                rw [e149] at e150
                have g156 := sp_sg_or f len.toInt.toNat (sp_sk f len.toInt.toNat at126.toInt.toNat)
                refine w_bipush (by decide) (tX8_readRope_0_ok (93, .bipush 44, 2) (List.mem_of_getElem? (i := 51) rfl)) (fun v157 e158 => ?_)
                refine w_icmp_eq (tgt := 105) (tX8_readRope_0_ok (95, .if_icmp .eq 10, 3) (List.mem_of_getElem? (i := 52) rfl)) rfl (fun b159 => ?_) (fun b159 => ?_)
                · refine w_aload_n (List.Mem.tail _ (List.Mem.tail _ (List.Mem.tail _ (List.Mem.tail _ (List.Mem.head _))))) (tX8_readRope_0_ok (105, .aload_n 0, 1) (List.mem_of_getElem? (i := 58) rfl)) ?_
                  refine w_dup rfl (tX8_readRope_0_ok (106, .dup, 1) (List.mem_of_getElem? (i := 59) rfl)) ?_
                  refine w_get (own := 13) rfl rfl (by decide) c152 rfl (tX8_readRope_1_ok (107, .getfield 37, 3) (List.mem_of_getElem? (i := 0) rfl)) ?_
                  refine w_iconst (by decide) (tX8_readRope_1_ok (110, .iconst 1, 1) (List.mem_of_getElem? (i := 1) rfl)) (fun v160 e161 => ?_)
                  refine w_iadd (by omega) (by omega) (tX8_readRope_1_ok (111, .iadd, 1) (List.mem_of_getElem? (i := 2) rfl)) (fun v162 e163 => ?_)
                  refine w_put (own := 13) [.ref b, .int len, .int v162, .int fl127] rfl rfl rfl (by decide) rfl ⟨rfl, rfl⟩ c152 (Nat.le_of_ble_eq_true rfl) (tX8_readRope_1_ok (112, .putfield 37, 3) (List.mem_of_getElem? (i := 3) rfl)) (fun h164 c165 o166 => ?_)
                  have c167 := (o166 b (pn_ne s_b s_t (by decide))).trans c153
                  refine w_iinc (fun v168 => [(4, .int v168), (3, .int v115), (6, .int v16), (5, .int v6), (0, .ref t), (1, .ref P), (2, .int p)]) (fun _ => rfl) (List.Mem.tail _ (List.Mem.tail _ (List.Mem.tail _ (List.Mem.head _)))) (Nat.le_of_ble_eq_true rfl) (by decide) (by omega) (by omega) (tX8_readRope_1_ok (115, .iinc 4 1, 3) (List.mem_of_getElem? (i := 4) rfl)) (fun v168 e169 => ?_)
                  refine w_goto (tgt := 10) (tX8_readRope_1_ok (118, .goto (-108), 3) (List.mem_of_getElem? (i := 5) rfl)) rfl ?_
                  have y0 : fl127.toInt = -1 := by omega
                  have y1 : ¬ (sp_bit (sp_sg f len.toInt.toNat (sp_sk f len.toInt.toNat at0.toInt.toNat)) = 0 ∨ tn / sp_bit (sp_sg f len.toInt.toNat (sp_sk f len.toInt.toNat at0.toInt.toNat)) % 2 = 1 ∨ sp_sg f len.toInt.toNat (sp_sk f len.toInt.toNat at0.toInt.toNat) = 117 ∧ p.toInt = 0) := by omega
                  obtain ⟨q9, q8, q7⟩ := sp_is.inr e133 y0
                  have y2 := e134 y0
                  have y3 := sp_rp_go (j := j - 1) (t := tn) (K := (g1 p.toInt.toNat).toInt) rfl rfl y1 q8 y2.1 y2.2.1 y2.2.2
                  have y4 := sp_num_nn f len.toInt.toNat 3 (sp_sk f len.toInt.toNat at0.toInt.toNat + 1)
                  have g2o := HP.2.2.2.2.2.2.2.2.2 p.toInt.toNat (by omega)
                  have g2p := ((((p132).fr N o151).fr N o166)).2.2.2.2.2.2.2.2.2 p.toInt.toNat (by omega)
                  have x9 : 0 ≤ (k130 p.toInt.toNat).toInt ∧ (k130 p.toInt.toNat).toInt ≤ 20 := by
                    have z1 := y2.2.2
                    unfold sp_kv at z1
                    have z2 : sp_ok p.toInt (g2 p.toInt.toNat).toInt (g3 p.toInt.toNat).toInt (sp_sg f len.toInt.toNat (sp_sk f len.toInt.toNat at0.toInt.toNat)) (sp_num f len.toInt.toNat 3 (sp_sk f len.toInt.toNat at0.toInt.toNat + 1)).2 := sp_rn_ok q8
                    have z3 := fun e => sp_ok_x z2 e
                    split at z1 <;> omega
                  have h1k : rc p.toInt.toNat 1 = (g2 p.toInt.toNat).toInt ∧ rc p.toInt.toNat 2 = (g3 p.toInt.toNat).toInt := by
                    obtain ⟨e1, e2, e3, e4, e5, e6, e7, e8, r1, r2, r3, r4, r5, r6, r7, r8, hr9⟩ := R
                    obtain ⟨-, c_a1, c_a2, c_a3, -⟩ := HP
                    rw [c_a2] at r2
                    cases r2
                    rw [c_a3] at r3
                    cases r3
                    have z8 := hr9 p.toInt.toNat (by omega)
                    exact ⟨z8.2.1.symm, z8.2.2.1.symm⟩
                  refine w_lv [(4, .int v168), (3, .int v115), (0, .ref t), (1, .ref P), (2, .int p)] (by intro q hq; simp only [List.mem_cons, List.not_mem_nil, or_false] at hq ⊢; rcases hq with e | e | e | e | e <;> subst e <;> simp) ?_
                  have yY : sp_sg f len.toInt.toNat (sp_sk f len.toInt.toNat q9) = 44 := by have y7 : q9 = at126.toInt.toNat := (by omega); rw [y7, ← e150]; omega
                  have y6 : sp_sk f len.toInt.toNat q9 + 1 = v162.toInt.toNat := by have y7 : q9 = at126.toInt.toNat := (by omega); rw [y7, ← e149]; omega
                  refine ih (j - 1) (by omega) _ _ _ _ _ _ _ _ _ (tn + sp_bit (sp_sg f len.toInt.toNat (sp_sk f len.toInt.toNat at0.toInt.toNat))) (by omega) (by omega) (by omega) d8.2.1 (by omega) x9 (by omega) ⟨c165, c167, n_b_t, l1, l2, by omega, by omega⟩ (((p132).fr N o151).fr N o166) ((((e135 (by omega))).fr N o151).fr N o166) (fun h1 at1 fl1 m1 m2 m3 p1 p2 p3 p5 p4 => hq h1 at1 fl1 m1 m2 m3 p1 p2 ?_ ?_ (fun q hq => (p4 q hq).trans ((o166 q (pn_nl hq s_t (by decide))).trans ((o151 q (pn_nl hq s_t (by decide))).trans ((o136 q hq).trans ((o123 q (pn_nl hq s_t (by decide))).trans (o10 q (pn_nl hq s_t (by decide)))))))))
                  · rw [j9, y3]
                    unfold sp_re
                    rw [y6, if_pos yY]
                    exact p3
                  · intro z9
                    have p6 := p5 z9
                    rw [sp_row_s, sp_row_row] at p6
                    rw [j9, sp_rv, h1k.1, h1k.2, q8]
                    dsimp only
                    rw [if_pos yY, y6]
                    exact p6
                · refine w_aload_n (List.Mem.tail _ (List.Mem.tail _ (List.Mem.tail _ (List.Mem.tail _ (List.Mem.head _))))) (tX8_readRope_0_ok (98, .aload_n 0, 1) (List.mem_of_getElem? (i := 53) rfl)) ?_
                  refine w_aload_n (List.Mem.tail _ (List.Mem.tail _ (List.Mem.tail _ (List.Mem.tail _ (List.Mem.tail _ (List.Mem.head _)))))) (tX8_readRope_0_ok (99, .aload_n 1, 1) (List.mem_of_getElem? (i := 54) rfl)) ?_
                  refine w_iload_n (List.Mem.tail _ (List.Mem.tail _ (List.Mem.tail _ (List.Mem.tail _ (List.Mem.tail _ (List.Mem.tail _ (List.Mem.head _))))))) (tX8_readRope_0_ok (100, .iload_n 2, 1) (List.mem_of_getElem? (i := 55) rfl)) ?_
                  have y0 : fl127.toInt = -1 := by omega
                  have y1 : ¬ (sp_bit (sp_sg f len.toInt.toNat (sp_sk f len.toInt.toNat at0.toInt.toNat)) = 0 ∨ tn / sp_bit (sp_sg f len.toInt.toNat (sp_sk f len.toInt.toNat at0.toInt.toNat)) % 2 = 1 ∨ sp_sg f len.toInt.toNat (sp_sk f len.toInt.toNat at0.toInt.toNat) = 117 ∧ p.toInt = 0) := by omega
                  obtain ⟨q9, q8, q7⟩ := sp_is.inr e133 y0
                  have y2 := e134 y0
                  have y3 := sp_rp_go (j := j - 1) (t := tn) (K := (g1 p.toInt.toNat).toInt) rfl rfl y1 q8 y2.1 y2.2.1 y2.2.2
                  have y4 := sp_num_nn f len.toInt.toNat 3 (sp_sk f len.toInt.toNat at0.toInt.toNat + 1)
                  have g2o := HP.2.2.2.2.2.2.2.2.2 p.toInt.toNat (by omega)
                  have g2p := (((p132).fr N o151)).2.2.2.2.2.2.2.2.2 p.toInt.toNat (by omega)
                  have x9 : 0 ≤ (k130 p.toInt.toNat).toInt ∧ (k130 p.toInt.toNat).toInt ≤ 20 := by
                    have z1 := y2.2.2
                    unfold sp_kv at z1
                    have z2 : sp_ok p.toInt (g2 p.toInt.toNat).toInt (g3 p.toInt.toNat).toInt (sp_sg f len.toInt.toNat (sp_sk f len.toInt.toNat at0.toInt.toNat)) (sp_num f len.toInt.toNat 3 (sp_sk f len.toInt.toNat at0.toInt.toNat + 1)).2 := sp_rn_ok q8
                    have z3 := fun e => sp_ok_x z2 e
                    split at z1 <;> omega
                  refine w_callS (own := 13) (mi := 82) [.ref t, .ref P, .int p] [] [(0, .ref t), (1, .ref P), (2, .int p)] rfl (cllw_X8 (52, 1, 82) (List.mem_of_getElem? (i := 11) rfl)) rfl rfl (by omega) (w_lo (n := 23) rfl (by omega)) (Nat.le_of_ble_eq_true rfl) (Nat.le_of_ble_eq_true rfl) rfl (tX8_readRope_0_ok (101, .invokestatic 52, 3) (List.mem_of_getElem? (i := 56) rfl)) (s_endRopeV hT N hp x9 ⟨by omega, w_sub (n := 23) rfl (by omega)⟩ (by omega) ⟨c152, c153, n_b_t, l1, l2, by omega, by omega⟩ ((p132).fr N o151) (((e135 (by omega))).fr N o151) (fun h170 at171 fl172 p173 p174 r175 e176 o177 => ?_))
                  obtain ⟨c179, c180, -, -, -, a181, a182⟩ := p173
                  show ww l D tys A X fr lo mX8_readRope Q 104 [(3, .int v115), (6, .int v16), (5, .int v6), (4, .int i), (0, .ref t), (1, .ref P), (2, .int p)] [] h170
                  refine w_vret rfl (tX8_readRope_0_ok (104, .return_, 1) (List.mem_of_getElem? (i := 57) rfl)) ?_
                  have y5 : sp_sk f len.toInt.toNat at146.toInt.toNat = at146.toInt.toNat := by rw [e149, sp_sk_sk]
                  rw [y5] at e176
                  have y6 : sp_sk f len.toInt.toNat q9 = at146.toInt.toNat := by rw [e149]; congr 1; omega
                  have yN : ¬ sp_sg f len.toInt.toNat (sp_sk f len.toInt.toNat q9) = 44 := by have y7 : q9 = at126.toInt.toNat := (by omega); rw [y7, ← e150]; omega
                  have h1k : rc p.toInt.toNat 1 = (g2 p.toInt.toNat).toInt ∧ rc p.toInt.toNat 2 = (g3 p.toInt.toNat).toInt := by
                    obtain ⟨e1, e2, e3, e4, e5, e6, e7, e8, r1, r2, r3, r4, r5, r6, r7, r8, hr9⟩ := R
                    obtain ⟨-, c_a1, c_a2, c_a3, -⟩ := HP
                    rw [c_a2] at r2
                    cases r2
                    rw [c_a3] at r3
                    cases r3
                    have z8 := hr9 p.toInt.toNat (by omega)
                    exact ⟨z8.2.1.symm, z8.2.2.1.symm⟩
                  refine hq h170 at171 fl172 k128 k129 k130 ⟨c179, c180, n_b_t, l1, l2, by omega, by omega⟩ p174 ?_ ?_ (fun q hq => (o177 q hq).trans ((o151 q (pn_nl hq s_t (by decide))).trans ((o136 q hq).trans ((o123 q (pn_nl hq s_t (by decide))).trans (o10 q (pn_nl hq s_t (by decide)))))))
                  · rw [j9, y3]
                    unfold sp_re
                    rw [y6, if_neg (by rw [← y6]; exact yN)]
                    exact e176
                  · intro z9
                    rw [j9, sp_rv, h1k.1, h1k.2, q8]
                    dsimp only
                    rw [if_neg yN]
                    exact r175
              · refine w_vret rfl (tX8_readRope_0_ok (88, .return_, 1) (List.mem_of_getElem? (i := 48) rfl)) ?_
                obtain ⟨q9, q8, q7⟩ := sp_is.inl e133 (by omega)
                have y1 : ¬ (sp_bit (sp_sg f len.toInt.toNat (sp_sk f len.toInt.toNat at0.toInt.toNat)) = 0 ∨ tn / sp_bit (sp_sg f len.toInt.toNat (sp_sk f len.toInt.toNat at0.toInt.toNat)) % 2 = 1 ∨ sp_sg f len.toInt.toNat (sp_sk f len.toInt.toNat at0.toInt.toNat) = 117 ∧ p.toInt = 0) := by omega
                refine hq h125 at126 fl127 k128 k129 k130 ⟨c137, c138, n_b_t, l1, l2, by omega, by omega⟩ p132 ?_ ?_ (fun q hq => (o136 q hq).trans ((o123 q (pn_nl hq s_t (by decide))).trans (o10 q (pn_nl hq s_t (by decide)))))
                · rw [j9, sp_rp_num (c := sp_sg f len.toInt.toNat (sp_sk f len.toInt.toNat at0.toInt.toNat)) rfl rfl y1 q8]
                  exact q7
                · intro z9; omega
            · refine w_aload_n (List.Mem.tail _ (List.Mem.tail _ (List.Mem.tail _ (List.Mem.tail _ (List.Mem.head _))))) (tX8_readRope_0_ok (53, .aload_n 0, 1) (List.mem_of_getElem? (i := 27) rfl)) ?_
              refine w_callV (own := 13) (mi := 80) [] [] [(0, .ref t)] rfl (cllw_X8 (34, 0, 80) (List.mem_of_getElem? (i := 5) rfl)) rfl rfl c11 rfl (by omega) (w_lo (n := 20) rfl (by omega)) (Nat.le_of_ble_eq_true rfl) (Nat.le_of_ble_eq_true rfl) rfl (tX8_readRope_0_ok (54, .invokevirtual 34, 3) (List.mem_of_getElem? (i := 28) rfl)) (s_wrong hT ⟨c11, c12, n_b_t, l1, l2, by omega, by omega⟩ (fun h183 fl184 p185 e186 o187 => ?_))
              obtain ⟨c188, c189, -, -, -, a190, a191⟩ := p185
              show ww l D tys A X fr lo mX8_readRope Q 57 [(6, .int v16), (5, .int v6), (4, .int i), (3, .int told), (0, .ref t), (1, .ref P), (2, .int p)] [] h183
              refine w_vret rfl (tX8_readRope_0_ok (57, .return_, 1) (List.mem_of_getElem? (i := 29) rfl)) ?_
              have y1 : sp_bit (sp_sg f len.toInt.toNat (sp_sk f len.toInt.toNat at0.toInt.toNat)) = 0 ∨ tn / sp_bit (sp_sg f len.toInt.toNat (sp_sk f len.toInt.toNat at0.toInt.toNat)) % 2 = 1 ∨ sp_sg f len.toInt.toNat (sp_sk f len.toInt.toNat at0.toInt.toNat) = 117 ∧ p.toInt = 0 := by omega
              refine hq h183 at5 fl184 g1 g2 g3 ⟨c188, c189, n_b_t, l1, l2, by omega, by omega⟩ (((HP).fr N o10).fr N o187) ?_ ?_ (fun q hq => (o187 q (pn_nl hq s_t (by decide))).trans (o10 q (pn_nl hq s_t (by decide))))
              · rw [j9, sp_rp_bad (c := sp_sg f len.toInt.toNat (sp_sk f len.toInt.toNat at0.toInt.toNat)) rfl rfl y1]
                show _ = _; omega
              · intro z9; omega
theorem s_readRopeV (hT : k_tys tys cA) {p : Int32} (hN : pns sg t b P a1 a2 a3 a4 a5 a6 a7 a8) (hp : 0 ≤ p.toInt ∧ p.toInt < 6) (hr : 3 ≤ fr ∧ 120 ≤ lo) (hf0 : fl0.toInt = -1) (H : tp cA h t b f len at0 fl0) (HP : pn cA h P a1 a2 a3 a4 a5 a6 a7 a8 g1 g2 g3) (R : pr cA h a1 a2 a3 a4 a5 a6 a7 a8 rc) (hq : ∀ (h1 : ch_H) (at1 fl1 : Int32) (k1 k2 k3 : Nat → Int32), tp cA h1 t b f len at1 fl1 → pn cA h1 P a1 a2 a3 a4 a5 a6 a7 a8 k1 k2 k3 → sp_is (sp_rp f len.toInt.toNat p.toInt 10 at0.toInt.toNat 0 0 10 0) at1 fl1 → (fl1.toInt = -1 → pr cA h1 a1 a2 a3 a4 a5 a6 a7 a8 (sp_row rc p.toInt.toNat (sp_rv f len.toInt.toNat p.toInt 10 at0.toInt.toNat sp_us))) → (∀ q, sg q < 3 → h1 q = h q) → Q none h1) : ww l D tys A X fr lo mX8_readRope Q 0 [(0, .ref t), (1, .ref P), (2, .int p)] [] h := by
  have N := hN
  obtain ⟨s_t, s_b, s_P, s_a1, s_a2, s_a3, s_a4, s_a5, s_a6, s_a7, s_a8⟩ := hN
  obtain ⟨c_t, c_b, n_b_t, l1, l2, a9, a10⟩ := H
  refine w_aload_n (List.Mem.tail _ (List.Mem.head _)) (tX8_readRope_0_ok (0, .aload_n 1, 1) (List.mem_of_getElem? (i := 0) rfl)) ?_
  refine w_iload_n (List.Mem.tail _ (List.Mem.tail _ (List.Mem.head _))) (tX8_readRope_0_ok (1, .iload_n 2, 1) (List.mem_of_getElem? (i := 1) rfl)) ?_
  refine w_callV (own := 13) (mi := 51) [.int p] [] [(0, .ref P), (1, .int p)] rfl (cllw_X8 (40, 0, 51) (List.mem_of_getElem? (i := 2) rfl)) rfl rfl (Exists.choose_spec (pn.obj HP)) rfl (by omega) (w_lo (n := 21) rfl (by omega)) (Nat.le_of_ble_eq_true rfl) (Nat.le_of_ble_eq_true rfl) rfl (tX8_readRope_0_ok (2, .invokevirtual 40, 3) (List.mem_of_getElem? (i := 2) rfl)) (s_untoldV hT N hp HP R (fun h1 k2 k3 k4 p5 e6 e7 e8 r9 o10 => ?_))
  have c11 := (o10 t (by rw [s_t]; decide)).trans c_t
  have c12 := (o10 b (by rw [s_b]; decide)).trans c_b
  show ww l D tys A X fr lo mX8_readRope Q 5 [(0, .ref t), (1, .ref P), (2, .int p)] [] h1
  refine w_iconst (by decide) (tX8_readRope_0_ok (5, .iconst 0, 1) (List.mem_of_getElem? (i := 3) rfl)) (fun v13 e14 => ?_)
  refine w_istore_n [(3, .int v13), (0, .ref t), (1, .ref P), (2, .int p)] rfl (Nat.le_of_ble_eq_true rfl) (tX8_readRope_0_ok (6, .istore_n 3, 1) (List.mem_of_getElem? (i := 4) rfl)) ?_
  refine w_iconst (by decide) (tX8_readRope_0_ok (7, .iconst 0, 1) (List.mem_of_getElem? (i := 5) rfl)) (fun v15 e16 => ?_)
  refine w_istore [(4, .int v15), (3, .int v13), (0, .ref t), (1, .ref P), (2, .int p)] rfl (Nat.le_of_ble_eq_true rfl) (tX8_readRope_0_ok (8, .istore 4, 2) (List.mem_of_getElem? (i := 6) rfl)) ?_
  refine s_ropeLV hT N hp hr 10 _ _ _ _ _ k2 k3 k4 _ 0 (by omega) (by omega) (by omega) (by decide) (by show ((0 : Nat) : Int) = _; omega) (by omega) hf0 ⟨c11, c12, n_b_t, l1, l2, by omega, by omega⟩ p5 r9 (fun h1 at1 fl1 m1 m2 m3 p1 p2 p3 p5 p4 => hq h1 at1 fl1 m1 m2 m3 p1 p2 ?_ ?_ (fun q hq => (p4 q hq).trans (o10 q (Nat.lt_of_lt_of_le hq (by decide)))))
  · rw [e6, e7, e8] at p3
    exact p3
  · intro z9
    have p6 := p5 z9
    rw [sp_row_s, sp_row_row] at p6
    exact p6
theorem s_townLV (hT : k_tys tys cA) (hN : pns sg t b P a1 a2 a3 a4 a5 a6 a7 a8) (hr : 4 ≤ fr ∧ 160 ≤ lo) : ∀ (j : Nat) (p at0 fl0 : Int32) (h : ch_H) (g1 g2 g3 : Nat → Int32) (rc : Nat → Nat → Int), p.toInt = 6 - (j : Int) → j ≤ 6 → 1 ≤ j → fl0.toInt = -1 → tp cA h t b f len at0 fl0 → pn cA h P a1 a2 a3 a4 a5 a6 a7 a8 g1 g2 g3 → pr cA h a1 a2 a3 a4 a5 a6 a7 a8 rc → (∀ (h1 : ch_H) (at1 fl1 : Int32) (k1 k2 k3 : Nat → Int32), tp cA h1 t b f len at1 fl1 → pn cA h1 P a1 a2 a3 a4 a5 a6 a7 a8 k1 k2 k3 → sp_is (sp_tn f len.toInt.toNat j p.toInt.toNat at0.toInt.toNat).1 at1 fl1 → (fl1.toInt = -1 → ∃ ro : Int32, h1 P = some (.inr (4, [.int ro, .ref a1, .ref a2, .ref a3, .ref a4, .ref a5, .ref a6, .ref a7, .ref a8])) ∧ ro.toInt = ((sp_tn f len.toInt.toNat j p.toInt.toNat at0.toInt.toNat).2 : Int)) → (fl1.toInt = -1 → pr cA h1 a1 a2 a3 a4 a5 a6 a7 a8 (sp_tv f len.toInt.toNat j p.toInt.toNat at0.toInt.toNat rc)) → (∀ q, sg q < 2 → h1 q = h q) → Q none h1) → ww l D tys A X fr lo mX8_read Q 6 [(2, .int p), (0, .ref t), (1, .ref P)] [] h := by
  intro j
  induction j using Nat.strongRecOn with
  | ind j ih =>
    intro p at0 fl0 h g1 g2 g3 rc hp hj h1j hf0 H HP R hq
    have N := hN
    obtain ⟨s_t, s_b, s_P, s_a1, s_a2, s_a3, s_a4, s_a5, s_a6, s_a7, s_a8⟩ := hN
    obtain ⟨c_t, c_b, n_b_t, l1, l2, a9, a10⟩ := H
    have j9 : j = (j - 1) + 1 := by omega
    refine w_iload_n (List.Mem.head _) (tX8_read_0_ok (6, .iload_n 2, 1) (List.mem_of_getElem? (i := 4) rfl)) ?_
    refine w_bipush (by decide) (tX8_read_0_ok (7, .bipush 6, 2) (List.mem_of_getElem? (i := 5) rfl)) (fun v1 e2 => ?_)
    refine w_icmp_ge (tgt := 66) (tX8_read_0_ok (9, .if_icmp .ge 57, 3) (List.mem_of_getElem? (i := 6) rfl)) rfl (fun b3 => ?_) (fun b3 => ?_)
    · exfalso; omega
    · refine w_aload_n (List.Mem.tail _ (List.Mem.head _)) (tX8_read_0_ok (12, .aload_n 0, 1) (List.mem_of_getElem? (i := 7) rfl)) ?_
      refine w_aload_n (List.Mem.tail _ (List.Mem.tail _ (List.Mem.head _))) (tX8_read_0_ok (13, .aload_n 1, 1) (List.mem_of_getElem? (i := 8) rfl)) ?_
      refine w_iload_n (List.Mem.head _) (tX8_read_0_ok (14, .iload_n 2, 1) (List.mem_of_getElem? (i := 9) rfl)) ?_
      refine w_callS (own := 13) (mi := 85) [.ref t, .ref P, .int p] [] [(0, .ref t), (1, .ref P), (2, .int p)] rfl (cllw_X8 (14, 1, 85) (List.mem_of_getElem? (i := 1) rfl)) rfl rfl (by omega) (w_lo (n := 26) rfl (by omega)) (Nat.le_of_ble_eq_true rfl) (Nat.le_of_ble_eq_true rfl) rfl (tX8_read_0_ok (15, .invokestatic 14, 3) (List.mem_of_getElem? (i := 10) rfl)) (s_readRopeV hT N (by omega) ⟨by omega, w_sub (n := 26) rfl (by omega)⟩ (by omega) ⟨c_t, c_b, n_b_t, l1, l2, by omega, by omega⟩ HP R (fun h4 at5 fl6 k7 k8 k9 p10 p11 e12 e13 o14 => ?_))
      obtain ⟨c15, c16, -, -, -, a17, a18⟩ := p10
      have a19 : p.toInt = ((p.toInt.toNat : Nat) : Int) := by omega
      rw [a19] at e12 e13
      show ww l D tys A X fr lo mX8_read Q 18 [(2, .int p), (0, .ref t), (1, .ref P)] [] h4
      refine w_aload_n (List.Mem.tail _ (List.Mem.head _)) (tX8_read_0_ok (18, .aload_n 0, 1) (List.mem_of_getElem? (i := 11) rfl)) ?_
      refine w_callV (own := 13) (mi := 74) [] [] [(0, .ref t)] rfl (cllw_X8 (20, 0, 74) (List.mem_of_getElem? (i := 8) rfl)) rfl rfl c15 rfl (by omega) (w_lo (n := 20) rfl (by omega)) (Nat.le_of_ble_eq_true rfl) (Nat.le_of_ble_eq_true rfl) rfl (tX8_read_0_ok (19, .invokevirtual 20, 3) (List.mem_of_getElem? (i := 12) rfl)) (s_isWrong hT ⟨c15, c16, n_b_t, l1, l2, by omega, by omega⟩ (fun v20 e21 => ?_))
      show ww l D tys A X fr lo mX8_read Q 22 [(2, .int p), (0, .ref t), (1, .ref P)] [.int v20] h4
      refine w_if_ne (tgt := 32) (tX8_read_0_ok (22, .ifCond .ne 10, 3) (List.mem_of_getElem? (i := 13) rfl)) rfl (fun b22 => ?_) (fun b22 => ?_)
      · obtain ⟨⟨ro, c_P, ro1, ro2⟩, c_a1, c_a2, c_a3, ⟨g4, c_a4⟩, ⟨g5, c_a5⟩, ⟨g6, c_a6⟩, ⟨g7, c_a7⟩, ⟨g8, c_a8, g8b⟩, g2b⟩ := p11
        refine w_aload_n (List.Mem.tail _ (List.Mem.tail _ (List.Mem.head _))) (tX8_read_0_ok (32, .aload_n 1, 1) (List.mem_of_getElem? (i := 17) rfl)) ?_
        refine w_iload_n (List.Mem.head _) (tX8_read_0_ok (33, .iload_n 2, 1) (List.mem_of_getElem? (i := 18) rfl)) ?_
        refine w_iconst (by decide) (tX8_read_0_ok (34, .iconst 1, 1) (List.mem_of_getElem? (i := 19) rfl)) (fun v23 e24 => ?_)
        refine w_iadd (by omega) (by omega) (tX8_read_0_ok (35, .iadd, 1) (List.mem_of_getElem? (i := 20) rfl)) (fun v25 e26 => ?_)
        refine w_put (own := 13) [.int v25, .ref a1, .ref a2, .ref a3, .ref a4, .ref a5, .ref a6, .ref a7, .ref a8] rfl rfl rfl (by decide) rfl ⟨rfl, rfl⟩ c_P (Nat.le_of_ble_eq_true rfl) (tX8_read_0_ok (36, .putfield 28, 3) (List.mem_of_getElem? (i := 21) rfl)) (fun h27 c28 o29 => ?_)
        have c30 := (o29 t (pn_ne s_t s_P (by decide))).trans c15
        have c31 := (o29 b (pn_ne s_b s_P (by decide))).trans c16
        have c32 := (o29 a1 (pn_ne s_a1 s_P (by decide))).trans c_a1
        have c33 := (o29 a2 (pn_ne s_a2 s_P (by decide))).trans c_a2
        have c34 := (o29 a3 (pn_ne s_a3 s_P (by decide))).trans c_a3
        have c35 := (o29 a4 (pn_ne s_a4 s_P (by decide))).trans c_a4
        have c36 := (o29 a5 (pn_ne s_a5 s_P (by decide))).trans c_a5
        have c37 := (o29 a6 (pn_ne s_a6 s_P (by decide))).trans c_a6
        have c38 := (o29 a7 (pn_ne s_a7 s_P (by decide))).trans c_a7
        have c39 := (o29 a8 (pn_ne s_a8 s_P (by decide))).trans c_a8
        refine w_vret rfl (tX8_read_0_ok (39, .return_, 1) (List.mem_of_getElem? (i := 22) rfl)) ?_
        obtain ⟨q9, q8, q7⟩ := sp_is.inl e12 (by omega)
        refine hq h27 at5 fl6 k7 k8 k9 ⟨c30, c31, n_b_t, l1, l2, by omega, by omega⟩ ⟨⟨_, c28, by omega, by omega⟩, c32, c33, c34, ⟨_, c35⟩, ⟨_, c36⟩, ⟨_, c37⟩, ⟨_, c38⟩, ⟨_, c39, g8b⟩, g2b⟩ ?_ ?_ ?_ (fun q hq => (o29 q (pn_nl hq s_P (by decide))).trans (o14 q (Nat.lt_of_lt_of_le hq (by decide))))
        · rw [j9, sp_tn, q8]; exact q7
        · intro z9; omega
        · intro z9; omega
      · refine w_aload_n (List.Mem.tail _ (List.Mem.head _)) (tX8_read_0_ok (25, .aload_n 0, 1) (List.mem_of_getElem? (i := 14) rfl)) ?_
        refine w_callV (own := 13) (mi := 77) [] [] [(0, .ref t)] rfl (cllw_X8 (24, 0, 77) (List.mem_of_getElem? (i := 3) rfl)) rfl rfl c15 rfl (by omega) (w_lo (n := 20) rfl (by omega)) (Nat.le_of_ble_eq_true rfl) (Nat.le_of_ble_eq_true rfl) rfl (tX8_read_0_ok (26, .invokevirtual 24, 3) (List.mem_of_getElem? (i := 15) rfl)) (s_sign hT ⟨c15, c16, n_b_t, l1, l2, by omega, by omega⟩ (fun h40 at41 v42 p43 e44 e45 o46 => ?_))
        obtain ⟨c47, c48, -, -, -, a49, a50⟩ := p43
        show ww l D tys A X fr lo mX8_read Q 29 [(2, .int p), (0, .ref t), (1, .ref P)] [.int v42] h40
        rw [e44] at e45
        have g51 := sp_sg_or f len.toInt.toNat (sp_sk f len.toInt.toNat at5.toInt.toNat)
        refine w_if_ne (tgt := 40) (tX8_read_0_ok (29, .ifCond .ne 11, 3) (List.mem_of_getElem? (i := 16) rfl)) rfl (fun b52 => ?_) (fun b52 => ?_)
        · refine w_iload_n (List.Mem.head _) (tX8_read_0_ok (40, .iload_n 2, 1) (List.mem_of_getElem? (i := 23) rfl)) ?_
          refine w_iconst (by decide) (tX8_read_0_ok (41, .iconst 5, 1) (List.mem_of_getElem? (i := 24) rfl)) (fun v53 e54 => ?_)
          refine w_icmp_ne (tgt := 50) (tX8_read_0_ok (42, .if_icmp .ne 8, 3) (List.mem_of_getElem? (i := 25) rfl)) rfl (fun b55 => ?_) (fun b55 => ?_)
          · refine w_aload_n (List.Mem.tail _ (List.Mem.head _)) (tX8_read_0_ok (50, .aload_n 0, 1) (List.mem_of_getElem? (i := 29) rfl)) ?_
            refine w_dup rfl (tX8_read_0_ok (51, .dup, 1) (List.mem_of_getElem? (i := 30) rfl)) ?_
            refine w_get (own := 13) rfl rfl (by decide) c47 rfl (tX8_read_0_ok (52, .getfield 37, 3) (List.mem_of_getElem? (i := 31) rfl)) ?_
            refine w_iconst (by decide) (tX8_read_0_ok (55, .iconst 1, 1) (List.mem_of_getElem? (i := 32) rfl)) (fun v56 e57 => ?_)
            refine w_iadd (by omega) (by omega) (tX8_read_0_ok (56, .iadd, 1) (List.mem_of_getElem? (i := 33) rfl)) (fun v58 e59 => ?_)
            refine w_put (own := 13) [.ref b, .int len, .int v58, .int fl6] rfl rfl rfl (by decide) rfl ⟨rfl, rfl⟩ c47 (Nat.le_of_ble_eq_true rfl) (tX8_read_0_ok (57, .putfield 37, 3) (List.mem_of_getElem? (i := 34) rfl)) (fun h60 c61 o62 => ?_)
            have c63 := (o62 b (pn_ne s_b s_t (by decide))).trans c48
            refine w_iinc (fun v64 => [(2, .int v64), (0, .ref t), (1, .ref P)]) (fun _ => rfl) (List.Mem.head _) (Nat.le_of_ble_eq_true rfl) (by decide) (by omega) (by omega) (tX8_read_0_ok (60, .iinc 2 1, 3) (List.mem_of_getElem? (i := 35) rfl)) (fun v64 e65 => ?_)
            refine w_goto (tgt := 6) (tX8_read_0_ok (63, .goto (-57), 3) (List.mem_of_getElem? (i := 36) rfl)) rfl ?_
            obtain ⟨q9, q8, q7⟩ := sp_is.inr e12 (by omega)
            have y7 : q9 = at5.toInt.toNat := by omega
            have y6 := e45
            rw [← y7] at y6
            have y5 := e44
            rw [← y7] at y5
            have y8 : sp_tn f len.toInt.toNat j p.toInt.toNat at0.toInt.toNat = sp_tn f len.toInt.toNat (j - 1) v64.toInt.toNat v58.toInt.toNat := by
              rw [j9, sp_tn, q8]; dsimp only; rw [if_neg (by omega), if_neg (by omega)]; congr 1 <;> omega
            have y9 : ∀ rc9, sp_tv f len.toInt.toNat j p.toInt.toNat at0.toInt.toNat rc9 = sp_tv f len.toInt.toNat (j - 1) v64.toInt.toNat v58.toInt.toNat (sp_row rc9 p.toInt.toNat (sp_rv f len.toInt.toNat p.toInt.toNat 10 at0.toInt.toNat sp_us)) := fun rc9 => by
              rw [j9, sp_tv, q8]; dsimp only; rw [if_neg (by omega), if_neg (by omega)]
              have z1 : p.toInt.toNat + 1 = v64.toInt.toNat := by omega
              have z2 : sp_sk f len.toInt.toNat q9 + 1 = v58.toInt.toNat := by omega
              rw [z1, z2]
              rfl
            refine ih (j - 1) (by omega) _ _ _ _ k7 k8 k9 _ (by omega) (by omega) (by omega) (by omega) ⟨c61, c63, n_b_t, l1, l2, by omega, by omega⟩ (((p11).fr N o46).fr N o62) ((((e13 (by omega))).fr N o46).fr N o62) (fun h1 at1 fl1 m1 m2 m3 p1 p2 p3 p5 p6 p4 => hq h1 at1 fl1 m1 m2 m3 p1 p2 ?_ ?_ ?_ (fun q hq => (p4 q hq).trans ((o62 q (pn_nl hq s_t (by decide))).trans ((o46 q (pn_nl hq s_t (by decide))).trans (o14 q (Nat.lt_of_lt_of_le hq (by decide)))))))
            · rw [y8]; exact p3
            · rw [y8]; exact p5
            · intro z9; rw [y9]; exact p6 z9
          · refine w_aload_n (List.Mem.tail _ (List.Mem.head _)) (tX8_read_0_ok (45, .aload_n 0, 1) (List.mem_of_getElem? (i := 26) rfl)) ?_
            refine w_callV (own := 13) (mi := 80) [] [] [(0, .ref t)] rfl (cllw_X8 (34, 0, 80) (List.mem_of_getElem? (i := 5) rfl)) rfl rfl c47 rfl (by omega) (w_lo (n := 20) rfl (by omega)) (Nat.le_of_ble_eq_true rfl) (Nat.le_of_ble_eq_true rfl) rfl (tX8_read_0_ok (46, .invokevirtual 34, 3) (List.mem_of_getElem? (i := 27) rfl)) (s_wrong hT ⟨c47, c48, n_b_t, l1, l2, by omega, by omega⟩ (fun h66 fl67 p68 e69 o70 => ?_))
            obtain ⟨c71, c72, -, -, -, a73, a74⟩ := p68
            show ww l D tys A X fr lo mX8_read Q 49 [(2, .int p), (0, .ref t), (1, .ref P)] [] h66
            refine w_vret rfl (tX8_read_0_ok (49, .return_, 1) (List.mem_of_getElem? (i := 28) rfl)) ?_
            obtain ⟨q9, q8, q7⟩ := sp_is.inr e12 (by omega)
            have y7 : q9 = at5.toInt.toNat := by omega
            have y6 := e45
            rw [← y7] at y6
            have y5 := e44
            rw [← y7] at y5
            refine hq h66 at41 fl67 k7 k8 k9 ⟨c71, c72, n_b_t, l1, l2, by omega, by omega⟩ (((p11).fr N o46).fr N o70) ?_ ?_ ?_ (fun q hq => (o70 q (pn_nl hq s_t (by decide))).trans ((o46 q (pn_nl hq s_t (by decide))).trans (o14 q (Nat.lt_of_lt_of_le hq (by decide)))))
            · rw [j9, sp_tn, q8]; dsimp only; rw [if_neg (by omega), if_pos (by omega)]; show _ = _; omega
            · intro z9; omega
            · intro z9; omega
        · obtain ⟨⟨ro, c_P, ro1, ro2⟩, c_a1, c_a2, c_a3, ⟨g4, c_a4⟩, ⟨g5, c_a5⟩, ⟨g6, c_a6⟩, ⟨g7, c_a7⟩, ⟨g8, c_a8, g8b⟩, g2b⟩ := ((p11).fr N o46)
          refine w_aload_n (List.Mem.tail _ (List.Mem.tail _ (List.Mem.head _))) (tX8_read_0_ok (32, .aload_n 1, 1) (List.mem_of_getElem? (i := 17) rfl)) ?_
          refine w_iload_n (List.Mem.head _) (tX8_read_0_ok (33, .iload_n 2, 1) (List.mem_of_getElem? (i := 18) rfl)) ?_
          refine w_iconst (by decide) (tX8_read_0_ok (34, .iconst 1, 1) (List.mem_of_getElem? (i := 19) rfl)) (fun v75 e76 => ?_)
          refine w_iadd (by omega) (by omega) (tX8_read_0_ok (35, .iadd, 1) (List.mem_of_getElem? (i := 20) rfl)) (fun v77 e78 => ?_)
          refine w_put (own := 13) [.int v77, .ref a1, .ref a2, .ref a3, .ref a4, .ref a5, .ref a6, .ref a7, .ref a8] rfl rfl rfl (by decide) rfl ⟨rfl, rfl⟩ c_P (Nat.le_of_ble_eq_true rfl) (tX8_read_0_ok (36, .putfield 28, 3) (List.mem_of_getElem? (i := 21) rfl)) (fun h79 c80 o81 => ?_)
          have c82 := (o81 t (pn_ne s_t s_P (by decide))).trans c47
          have c83 := (o81 b (pn_ne s_b s_P (by decide))).trans c48
          have c84 := (o81 a1 (pn_ne s_a1 s_P (by decide))).trans c_a1
          have c85 := (o81 a2 (pn_ne s_a2 s_P (by decide))).trans c_a2
          have c86 := (o81 a3 (pn_ne s_a3 s_P (by decide))).trans c_a3
          have c87 := (o81 a4 (pn_ne s_a4 s_P (by decide))).trans c_a4
          have c88 := (o81 a5 (pn_ne s_a5 s_P (by decide))).trans c_a5
          have c89 := (o81 a6 (pn_ne s_a6 s_P (by decide))).trans c_a6
          have c90 := (o81 a7 (pn_ne s_a7 s_P (by decide))).trans c_a7
          have c91 := (o81 a8 (pn_ne s_a8 s_P (by decide))).trans c_a8
          refine w_vret rfl (tX8_read_0_ok (39, .return_, 1) (List.mem_of_getElem? (i := 22) rfl)) ?_
          obtain ⟨q9, q8, q7⟩ := sp_is.inr e12 (by omega)
          have y7 : q9 = at5.toInt.toNat := by omega
          have y6 := e45
          rw [← y7] at y6
          have y5 := e44
          rw [← y7] at y5
          have y8 : sp_tn f len.toInt.toNat j p.toInt.toNat at0.toInt.toNat = (.inr (sp_sk f len.toInt.toNat q9), p.toInt.toNat + 1) := by
            rw [j9, sp_tn, q8]; dsimp only; rw [if_pos (by omega)]
          refine hq h79 at41 fl6 k7 k8 k9 ⟨c82, c83, n_b_t, l1, l2, by omega, by omega⟩ ⟨⟨_, c80, by omega, by omega⟩, c84, c85, c86, ⟨_, c87⟩, ⟨_, c88⟩, ⟨_, c89⟩, ⟨_, c90⟩, ⟨_, c91, g8b⟩, g2b⟩ ?_ ?_ ?_ (fun q hq => (o81 q (pn_nl hq s_P (by decide))).trans ((o46 q (pn_nl hq s_t (by decide))).trans (o14 q (Nat.lt_of_lt_of_le hq (by decide)))))
          · rw [y8]; exact ⟨by omega, by omega⟩
          · intro z9; rw [y8]; exact ⟨_, c80, by show _ = ((p.toInt.toNat + 1 : Nat) : Int); omega⟩
          · intro z9
            rw [j9, sp_tv, q8]
            dsimp only
            rw [if_pos (by omega)]
            exact ((((e13 (by omega))).fr N o46).frP N o81)
theorem s_townV (hT : k_tys tys cA) (hN : pns sg t b P a1 a2 a3 a4 a5 a6 a7 a8) (hr : 4 ≤ fr ∧ 160 ≤ lo) (H : tp0 cA h t b f len at0 fl0) (HP : pn cA h P a1 a2 a3 a4 a5 a6 a7 a8 g1 g2 g3) (R : pr cA h a1 a2 a3 a4 a5 a6 a7 a8 rc) (hq : (∀ (h1 : ch_H) (at1 fl1 : Int32) (k1 k2 k3 : Nat → Int32), tp cA h1 t b f len at1 fl1 → pn cA h1 P a1 a2 a3 a4 a5 a6 a7 a8 k1 k2 k3 → sp_is (sp_town f len.toInt.toNat).1 at1 fl1 → (fl1.toInt = -1 → ∃ ro : Int32, h1 P = some (.inr (4, [.int ro, .ref a1, .ref a2, .ref a3, .ref a4, .ref a5, .ref a6, .ref a7, .ref a8])) ∧ ro.toInt = ((sp_town f len.toInt.toNat).2 : Int)) → (fl1.toInt = -1 → pr cA h1 a1 a2 a3 a4 a5 a6 a7 a8 (sp_tv f len.toInt.toNat 6 0 0 rc)) → (∀ q, sg q < 2 → h1 q = h q) → Q none h1)) : ww l D tys A X fr lo mX8_read Q 0 [(0, .ref t), (1, .ref P)] [] h := by
  have N := hN
  obtain ⟨s_t, s_b, s_P, s_a1, s_a2, s_a3, s_a4, s_a5, s_a6, s_a7, s_a8⟩ := hN
  have c_t := H.1
  have c_b := H.2.1
  have n_b_t := H.2.2.1
  have l1 := H.2.2.2.1
  have l2 := H.2.2.2.2
  refine w_aload_n (List.Mem.head _) (tX8_read_0_ok (0, .aload_n 0, 1) (List.mem_of_getElem? (i := 0) rfl)) ?_
  refine w_callV (own := 13) (mi := 76) [] [] [(0, .ref t)] rfl (cllw_X8 (9, 0, 76) (List.mem_of_getElem? (i := 0) rfl)) rfl rfl c_t rfl (by omega) (w_lo (n := 20) rfl (by omega)) (Nat.le_of_ble_eq_true rfl) (Nat.le_of_ble_eq_true rfl) rfl (tX8_read_0_ok (1, .invokevirtual 9, 3) (List.mem_of_getElem? (i := 1) rfl)) (s_open hT H (fun h1 at2 fl3 p4 e5 e6 o7 => ?_))
  obtain ⟨c8, c9, -, -, -, a10, a11⟩ := p4
  show ww l D tys A X fr lo mX8_read Q 4 [(0, .ref t), (1, .ref P)] [] h1
  refine w_iconst (by decide) (tX8_read_0_ok (4, .iconst 0, 1) (List.mem_of_getElem? (i := 2) rfl)) (fun v12 e13 => ?_)
  refine w_istore_n [(2, .int v12), (0, .ref t), (1, .ref P)] rfl (Nat.le_of_ble_eq_true rfl) (tX8_read_0_ok (5, .istore_n 2, 1) (List.mem_of_getElem? (i := 3) rfl)) ?_
  have y8 : sp_town f len.toInt.toNat = sp_tn f len.toInt.toNat 6 v12.toInt.toNat at2.toInt.toNat := by
    unfold sp_town; congr 1 <;> omega
  have y9 : sp_tv f len.toInt.toNat 6 0 0 rc = sp_tv f len.toInt.toNat 6 v12.toInt.toNat at2.toInt.toNat rc := by
    congr 1 <;> omega
  refine s_townLV hT N hr 6 _ _ _ _ g1 g2 g3 _ (by omega) (by omega) (by omega) (by omega) ⟨c8, c9, n_b_t, l1, l2, by omega, by omega⟩ ((HP).fr N o7) ((R).fr N o7) (fun h1 at1 fl1 m1 m2 m3 p1 p2 p3 p5 p6 p4 => hq h1 at1 fl1 m1 m2 m3 p1 p2 ?_ ?_ ?_ (fun q hq => (p4 q hq).trans (o7 q (pn_nl hq s_t (by decide)))))
  · rw [y8]; exact p3
  · rw [y8]; exact p5
  · intro z9; rw [y9]; exact p6 z9
end
