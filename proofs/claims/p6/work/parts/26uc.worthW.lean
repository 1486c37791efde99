/-! keep, the class: a RULE's worth over a store -/
/-- a RULE stands beside the store -/
def ruB (cA : Nat → ClassId) (h : ch_H) (r k s : Nat) (g : Nat → Int32) (sz : Int32) : Prop := h r = some (.inr (5, [.ref k, .int sz, .ref s])) ∧ h k = some (.inl (cA 0, 192, .inl g)) ∧ ∃ S9 : Nat → Int32, h s = some (.inl (cA 0, 64, .inl S9))
section
variable {l : Launch} {D : va_G} {tys : List (ClassId × FieldType)} {A : Nat → Prop} {X : State → Prop} {fr lo : Nat} {Q : Option Value → ch_H → Prop} {cA : Nat → ClassId} {h g9 : ch_H} {ad : Nat → Nat} {I : zI} {W : zW} {O : zO} {r k s la : Nat} {g Lt S9 : Nat → Int32} {sz v : Int32} {its : List Int} {m9 : Nat}
theorem w_worth (hT : k_tys tys cA) (n_r_s : r ≠ s) (n_k_s : k ≠ s) (n_la_s : la ≠ s) (hc : cdE g sz its) (hl : its.length ≤ 192) (gb : ∀ i, i < 192 → -100 ≤ (g i).toInt ∧ (g i).toInt ≤ 20000) (hf : 4 ≤ fr) (hlo : 120 ≤ lo) (hx : x_go (fun j => if j < 7 then Lt j else 0) its m9 0 [] = some v) (c_r : h r = some (.inr (5, [.ref k, .int sz, .ref s]))) (c_k : h k = some (.inl (cA 0, 192, .inl g))) (c_la : h la = some (.inl (cA 0, 7, .inl Lt))) (c_s : h s = some (.inl (cA 0, 64, .inl S9))) (hq : ∀ (g9 : ch_H) (S8 : Nat → Int32), g9 s = some (.inl (cA 0, 64, .inl S8)) → (∀ q, q ≠ s → g9 q = h q) → Q (some (.int v)) g9) : ww l D tys A X fr lo mX5_worth Q 0 [(0, .ref r), (1, .ref la)] [] h := by
  refine w_iconst (by decide) (tX5_worth_0_ok (0, .iconst 0, 1) (List.mem_of_getElem? (i := 0) rfl)) (fun v1 e1 => ?_)
  refine w_istore_n [(2, .int v1), (0, .ref r), (1, .ref la)] rfl (Nat.le_of_ble_eq_true rfl) (tX5_worth_0_ok (1, .istore_n 2, 1) (List.mem_of_getElem? (i := 1) rfl)) ?_
  refine w_iconst (by decide) (tX5_worth_0_ok (2, .iconst 0, 1) (List.mem_of_getElem? (i := 2) rfl)) (fun v2 e2 => ?_)
  refine w_istore_n [(3, .int v2), (2, .int v1), (0, .ref r), (1, .ref la)] rfl (Nat.le_of_ble_eq_true rfl) (tX5_worth_0_ok (3, .istore_n 3, 1) (List.mem_of_getElem? (i := 3) rfl)) ?_
  refine w_lv [(2, .int v1), (3, .int v2), (0, .ref r), (1, .ref la)] (by intro q hq; simp only [List.mem_cons, List.not_mem_nil, or_false] at hq ⊢; rcases hq with e | e | e | e <;> subst e <;> simp) ?_
  exact w_worthL hT n_r_s n_k_s n_la_s hc hl gb hf hlo m9 h S9 v2 v1 [] v (by rw [show v2.toInt.toNat = 0 by omega]; exact hx) (by omega) (by omega) (by show v1.toInt = ((0 : Nat) : Int); omega) (by omega) (fun j hj => absurd hj (Nat.not_lt_zero j)) c_r c_k c_la c_s hq
/-- the store doesn't hold the RULE: what the store's walks do leaves it -/
theorem ruB.zf_ (hr : ∀ L, zNC L = true → r ≠ ad L) (hk : ∀ L, zNC L = true → k ≠ ad L) (hs : ∀ L, zNC L = true → s ≠ ad L) (f : zf zNC ad h g9) (H : ruB cA h r k s g sz) : ruB cA g9 r k s g sz := by
  obtain ⟨h1, h2, S9, h3⟩ := H
  exact ⟨(f r hr).trans h1, (f k hk).trans h2, S9, (f s hs).trans h3⟩
/-- the worth, over a store: its stack alone is written -/
theorem z_worth (hT : k_tys tys cA) (hz : zr zNC cA ad I W O h) (hr : ∀ L, zNC L = true → r ≠ ad L) (hk : ∀ L, zNC L = true → k ≠ ad L) (hs : ∀ L, zNC L = true → s ≠ ad L) (n_r_s : r ≠ s) (n_k_s : k ≠ s) (R : ruB cA h r k s g sz) (hc : cdE g sz its) (gb : ∀ i, i < 192 → -100 ≤ (g i).toInt ∧ (g i).toInt ≤ 20000) {w9 : (Nat → Int) → Int} (hw : itW its w9) (hf : 4 ≤ fr) (hlo : 120 ≤ lo) {LI : Nat → Int} (hL : ∀ k, k < 7 → (I 7 k).toInt = LI k) (h7 : ∀ k, 7 ≤ k → LI k = 0) (hq : ∀ (g9 : ch_H) (v : Int32), v.toInt = w9 LI → zr zNC cA ad I W O g9 → ruB cA g9 r k s g sz → (∀ q, q ≠ s → g9 q = h q) → Q (some (.int v)) g9) : ww l D tys A X fr lo mX5_worth Q 0 [(0, .ref r), (1, .ref (ad 7))] [] h := by
  obtain ⟨c_r, c_k, S9, c_s⟩ := R
  obtain ⟨m, v, x1, x2⟩ := hw.2 LI
  have e9 : (fun k => Int32.ofInt (LI k)) = (fun j => if j < 7 then I 7 j else 0) := by
    funext j
    by_cases c : j < 7
    · show Int32.ofInt (LI j) = if j < 7 then I 7 j else 0
      rw [if_pos c, ← hL j c]
      exact Int32.ofInt_toInt _
    · show Int32.ofInt (LI j) = if j < 7 then I 7 j else 0
      rw [if_neg c, h7 j (by omega)]
      rfl
  rw [e9] at x1
  refine w_worth hT n_r_s n_k_s (fun z => hs 7 rfl z.symm) hc hw.1 gb hf hlo x1 c_r c_k (hz.ar (L := 7) (f := I 7) rfl rfl rfl) c_s (fun g9 S8 q1 q2 => ?_)
  exact hq g9 v x2 ⟨fun L hL9 => (q2 (ad L) (fun z => hs L hL9 z.symm)).trans (hz.1 L hL9), hz.2⟩ ⟨(q2 r n_r_s).trans c_r, (q2 k n_k_s).trans c_k, S8, q1⟩ q2
end
