/-! the rows that a TOWN's text tells keep their bounds -/
abbrev aRw : Type := Nat → Nat → Int
def wfr (p : Int) (row : Nat → Int) : Prop := (0 ≤ row 0 ∧ row 0 ≤ 2) ∧ (2 ≤ row 1 ∧ row 1 ≤ 20) ∧ (0 ≤ row 2 ∧ row 2 ≤ row 1) ∧ (1 ≤ row 3 ∧ row 3 ≤ 99) ∧ (1 ≤ row 4 ∧ row 4 ≤ 99) ∧ (0 ≤ row 5 ∧ row 5 ≤ 99) ∧ (0 ≤ row 6 ∧ row 6 ≤ 100) ∧ (0 ≤ row 7 ∧ row 7 ≤ 9) ∧ (-1 ≤ row 8 ∧ row 8 ≤ 2 * p - 1)
def wfe (row : Nat → Int) : Prop := row 0 = 1 → row 1 % 2 = 0 ∧ row 2 % 2 = 0
theorem wfr_us {p : Int} (hp : 0 ≤ p) : wfr p sp_us := by
  refine ⟨⟨by decide, by decide⟩, ⟨by decide, by decide⟩, ⟨by decide, by decide⟩, ⟨by decide, by decide⟩, ⟨by decide, by decide⟩, ⟨by decide, by decide⟩, ⟨by decide, by decide⟩, ⟨by decide, by decide⟩, by decide, ?_⟩
  show (-1 : Int) ≤ 2 * p - 1
  omega
theorem wfr_set {p c v : Int} {row : Nat → Int} (h : wfr p row) (hc : sp_ltr c) (hk : sp_ok p (row 1) (row 2) c v) (hv : 0 ≤ v) : wfr p (sp_set row (sp_ix c) v) := by
  obtain ⟨h0, h1, h2, h3, h4, h5, h6, h7, h8⟩ := h
  obtain ⟨k0, k1, k2, k3, k5, k6, k7, k8⟩ := hk
  rcases hc with rfl | rfl | rfl | rfl | rfl | rfl | rfl | rfl | rfl
  · have := k0 rfl
    exact ⟨⟨hv, this⟩, h1, h2, h3, h4, h5, h6, h7, h8⟩
  · have := k1 rfl
    exact ⟨h0, ⟨this.1, this.2.1⟩, ⟨h2.1, this.2.2⟩, h3, h4, h5, h6, h7, h8⟩
  · have := k2 rfl
    exact ⟨h0, h1, ⟨hv, this⟩, h3, h4, h5, h6, h7, h8⟩
  · have := k3 (Or.inl rfl)
    exact ⟨h0, h1, h2, this, h4, h5, h6, h7, h8⟩
  · have := k3 (Or.inr rfl)
    exact ⟨h0, h1, h2, h3, this, h5, h6, h7, h8⟩
  · have := k5 rfl
    exact ⟨h0, h1, h2, h3, h4, ⟨hv, this⟩, h6, h7, h8⟩
  · have := k6 rfl
    exact ⟨h0, h1, h2, h3, h4, h5, ⟨hv, this⟩, h7, h8⟩
  · have := k7 rfl
    exact ⟨h0, h1, h2, h3, h4, h5, h6, ⟨hv, this⟩, h8⟩
  · have := k8 rfl
    exact ⟨h0, h1, h2, h3, h4, h5, h6, h7, Int.le_trans (by decide) hv, this⟩
theorem sp_kv_set {c v : Int} {row : Nat → Int} (hc : sp_ltr c) : sp_kv 107 c v (row 0) = sp_set row (sp_ix c) v 0 ∧ sp_kv 108 c v (row 1) = sp_set row (sp_ix c) v 1 ∧ sp_kv 120 c v (row 2) = sp_set row (sp_ix c) v 2 := by
  rcases hc with rfl | rfl | rfl | rfl | rfl | rfl | rfl | rfl | rfl <;> exact ⟨rfl, rfl, rfl⟩
theorem wfr_rv (f : Nat → Int32) (len : Nat) (p : Int) : ∀ (j n t q : Nat) (row : Nat → Int), wfr p row → sp_rp f len p j n t (row 0) (row 1) (row 2) = .inr q → wfr p (sp_rv f len p j n row) ∧ wfe (sp_rv f len p j n row)
  | 0, n, t, q, row, h, e => by
    unfold sp_rp at e
    cases e
  | j + 1, n, t, q, row, h, e => by
    unfold sp_rp sp_rq at e
    unfold sp_rv
    by_cases c1 : sp_bit (sp_sg f len (sp_sk f len n)) = 0 ∨ t / sp_bit (sp_sg f len (sp_sk f len n)) % 2 = 1 ∨ sp_sg f len (sp_sk f len n) = 117 ∧ p = 0
    · rw [if_pos c1] at e
      cases e
    · rw [if_neg c1] at e
      have hc := sp_bit_l (fun z => c1 (Or.inl z))
      cases e9 : sp_rn f len p (row 1) (row 2) (sp_sg f len (sp_sk f len n)) (sp_sk f len n + 1) with
      | inl z =>
        rw [e9] at e
        cases e
      | inr z =>
        rw [e9] at e
        have hw := wfr_set h hc (sp_rn_ok e9) (sp_num_nn f len 3 (sp_sk f len n + 1))
        obtain ⟨k0, k1, k2⟩ := sp_kv_set (v := (sp_num f len 3 (sp_sk f len n + 1)).2) (row := row) hc
        have e : sp_re f len (sp_rp f len p j) (sp_sk f len z) (t + sp_bit (sp_sg f len (sp_sk f len n))) (sp_kv 107 (sp_sg f len (sp_sk f len n)) (sp_num f len 3 (sp_sk f len n + 1)).2 (row 0)) (sp_kv 108 (sp_sg f len (sp_sk f len n)) (sp_num f len 3 (sp_sk f len n + 1)).2 (row 1)) (sp_kv 120 (sp_sg f len (sp_sk f len n)) (sp_num f len 3 (sp_sk f len n + 1)).2 (row 2)) = .inr q := e
        rw [k0, k1, k2] at e
        unfold sp_re at e
        dsimp only
        by_cases c2 : sp_sg f len (sp_sk f len z) = 44
        · rw [if_pos c2] at e ⊢
          exact wfr_rv f len p j _ _ q _ hw e
        · rw [if_neg c2] at e ⊢
          by_cases c3 : (¬ sp_sg f len (sp_sk f len z) = 59 ∧ ¬ sp_sg f len (sp_sk f len z) = 0) ∨ sp_odd (sp_set row (sp_ix (sp_sg f len (sp_sk f len n))) (sp_num f len 3 (sp_sk f len n + 1)).2 0) (sp_set row (sp_ix (sp_sg f len (sp_sk f len n))) (sp_num f len 3 (sp_sk f len n + 1)).2 1) (sp_set row (sp_ix (sp_sg f len (sp_sk f len n))) (sp_num f len 3 (sp_sk f len n + 1)).2 2)
          · rw [if_pos c3] at e
            cases e
          · refine ⟨hw, fun z1 => ?_⟩
            have c4 := fun z2 => c3 (Or.inr ⟨z1, z2⟩)
            exact ⟨by have := fun z3 => c4 (Or.inl z3); omega, by have := fun z3 => c4 (Or.inr z3); omega⟩
/-- all rows of a TOWN -/
def wfR (n : Nat) (ρ : aRw) : Prop := n ≤ 6 ∧ ∀ q, q < n → wfr q (ρ q) ∧ wfe (ρ q)
theorem wfr.congr {p : Int} {r1 r2 : Nat → Int} (h : ∀ w, w < 9 → r1 w = r2 w) (H : wfr p r1 ∧ wfe r1) : wfr p r2 ∧ wfe r2 := by
  have e0 := h 0 (by decide)
  have e1 := h 1 (by decide)
  have e2 := h 2 (by decide)
  have e3 := h 3 (by decide)
  have e4 := h 4 (by decide)
  have e5 := h 5 (by decide)
  have e6 := h 6 (by decide)
  have e7 := h 7 (by decide)
  have e8 := h 8 (by decide)
  unfold wfr wfe at H ⊢
  rw [← e0, ← e1, ← e2, ← e3, ← e4, ← e5, ← e6, ← e7, ← e8]
  exact H
theorem wfR_tv (f : Nat → Int32) (len : Nat) : ∀ (j p n q : Nat) (rc : aRw), p + j = 6 → (∀ k, k < p → wfr k (rc k) ∧ wfe (rc k)) → (sp_tn f len j p n).1 = .inr q → wfR (sp_tn f len j p n).2 (sp_tv f len j p n rc)
  | 0, p, n, q, rc, hp, h, e => by
    unfold sp_tn at e
    cases e
  | j + 1, p, n, q, rc, hp, h, e => by
    unfold sp_tn at e ⊢
    unfold sp_tv
    have st : ∀ z, sp_rp f len p 10 n 0 0 10 0 = .inr z → ∀ k, k < p + 1 → wfr k (sp_row rc p (sp_rv f len p 10 n sp_us) k) ∧ wfe (sp_row rc p (sp_rv f len p 10 n sp_us) k) := fun z ez k hk => by
      by_cases c : k = p
      · subst c
        rw [sp_row_s]
        exact wfr_rv f len k 10 n 0 z sp_us (wfr_us (by omega)) ez
      · rw [sp_row_n _ _ c]
        exact h k (by omega)
    cases e9 : sp_rp f len p 10 n 0 0 10 0 with
    | inl z =>
      rw [e9] at e
      cases e
    | inr z =>
      rw [e9] at e
      dsimp only at e ⊢
      by_cases c1 : sp_sg f len (sp_sk f len z) = 0
      · rw [if_pos c1] at e ⊢
        rw [if_pos c1]
        exact ⟨by show p + 1 ≤ 6; omega, st z e9⟩
      · rw [if_neg c1] at e ⊢
        rw [if_neg c1]
        by_cases c2 : p = 5
        · rw [if_pos c2] at e
          cases e
        · rw [if_neg c2] at e ⊢
          rw [if_neg c2]
          exact wfR_tv f len j (p + 1) _ q _ (by omega) (st z e9) e
/-- the rows that text makes, and those that it leaves -/
noncomputable def r_text (so : Int32) (σ : aS) (ρ : aRw) : aRw := if so.toInt = 0 ∧ isRb (sp_town σ.1 σ.2.1).1 = true then sp_tv σ.1 σ.2.1 6 0 0 (fun _ _ => 0) else ρ
theorem r_text_pos {so : Int32} {σ : aS} {ρ : aRw} (h0 : so.toInt = 0) (h1 : isRb (sp_town σ.1 σ.2.1).1 = true) : r_text so σ ρ = sp_tv σ.1 σ.2.1 6 0 0 (fun _ _ => 0) := if_pos ⟨h0, h1⟩
theorem r_text_neg {so : Int32} {σ : aS} {ρ : aRw} (h : ¬ (so.toInt = 0 ∧ isRb (sp_town σ.1 σ.2.1).1 = true)) : r_text so σ ρ = ρ := if_neg h
theorem wfR_town {σ : aS} {q : Nat} (e : (sp_town σ.1 σ.2.1).1 = .inr q) : wfR (sp_town σ.1 σ.2.1).2 (sp_tv σ.1 σ.2.1 6 0 0 (fun _ _ => 0)) := wfR_tv σ.1 σ.2.1 6 0 0 q _ rfl (fun k hk => absurd hk (by omega)) e
