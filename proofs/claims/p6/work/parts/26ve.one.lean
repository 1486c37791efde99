/-! one answer -/
theorem un_9 {C D : Prop} {x y E F : Int} (hD : C → D → False) (h1 : C ∧ x = E ∨ D ∧ x = F) (h2 : C ∧ y = E ∨ D ∧ y = F) : x = y := by
  rcases h1 with ⟨c, e⟩ | ⟨c, e⟩ <;> rcases h2 with ⟨d, f⟩ | ⟨d, f⟩
  · exact e.trans f.symm
  · exact (hD c d).elim
  · exact (hD d c).elim
  · exact e.trans f.symm
theorem un_turn {p q w1 w2 : Int32} {τ : aN} {φ : zP} (h1 : b9_turn p q τ φ (some (.int w1))) (h2 : b9_turn p q τ φ (some (.int w2))) : w1.toInt = w2.toInt := by
  obtain ⟨x1, e1, h1⟩ := h1
  cases e1
  obtain ⟨x2, e2, h2⟩ := h2
  cases e2
  exact un_9 (fun c d => d c) h1 h2
theorem un_minutes {p w1 w2 : Int32} {τ : aN} {φ : zP} (h1 : b9_minutes p τ φ (some (.int w1))) (h2 : b9_minutes p τ φ (some (.int w2))) : w1.toInt = w2.toInt := by
  obtain ⟨x1, e1, h1⟩ := h1
  cases e1
  obtain ⟨x2, e2, h2⟩ := h2
  cases e2
  exact un_9 (fun c d => d c) h1 h2
theorem un_rest {w1 w2 : Int32} {τ : aN} {φ : zP} (h1 : b9_rest τ φ (some (.int w1))) (h2 : b9_rest τ φ (some (.int w2))) : w1.toInt = w2.toInt := by
  obtain ⟨x1, e1, h1⟩ := h1
  cases e1
  obtain ⟨x2, e2, h2⟩ := h2
  cases e2
  exact un_9 (fun c d => c d) h1 h2
theorem un_step {p q w1 w2 : Int32} {τ : aN} {φ : zP} (h1 : b9_step p q τ φ (some (.int w1))) (h2 : b9_step p q τ φ (some (.int w2))) : w1.toInt = w2.toInt := by
  obtain ⟨x1, e1, h1⟩ := h1
  cases e1
  obtain ⟨x2, e2, h2⟩ := h2
  cases e2
  exact un_9 (fun c d => d c) h1 h2
theorem un_keep {p q w1 w2 : Int32} {τ : aN} {φ : zP} (h1 : b9_keep p q τ φ (some (.int w1))) (h2 : b9_keep p q τ φ (some (.int w2))) : w1.toInt = w2.toInt := by
  obtain ⟨x1, e1, h1⟩ := h1
  cases e1
  obtain ⟨x2, e2, h2⟩ := h2
  cases e2
  exact un_9 (fun c d => d c) h1 h2
theorem un_image {w1 w2 : Int32} {τ : aN} {φ : zP} (h1 : b9_image τ φ (some (.int w1))) (h2 : b9_image τ φ (some (.int w2))) : w1.toInt = w2.toInt := by
  obtain ⟨x1, e1, h1⟩ := h1
  cases e1
  obtain ⟨x2, e2, h2⟩ := h2
  cases e2
  rcases h1 with ⟨c, e⟩ | ⟨c, e⟩ <;> rcases h2 with ⟨d, f⟩ | ⟨d, f⟩
  · rw [e, f]
  · exact absurd d c
  · exact absurd c d
  · exact e.trans f.symm
theorem un_back {w1 w2 : Int32} {τ : aN} {φ : zP} (h1 : b9_back τ φ (some (.int w1))) (h2 : b9_back τ φ (some (.int w2))) : w1.toInt = w2.toInt := by
  obtain ⟨x1, e1, h1⟩ := h1
  cases e1
  obtain ⟨x2, e2, h2⟩ := h2
  cases e2
  rcases h1 with ⟨c, e⟩ | ⟨c, e⟩ <;> rcases h2 with ⟨d, f⟩ | ⟨d, f⟩
  · rw [e, f]
  · exact absurd c d
  · exact absurd d c
  · exact e.trans f.symm
