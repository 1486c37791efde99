/-! the TOWN's row, typed place by place; the rows of ROPES -/
def tw9 (lw hg : Int) : List k_T := [(0, 0, 20), (0, 0, 20), (0, 0, 20), (0, 0, 20), (0, 0, 20), (0, 0, 20), (0, -2147483648, 2147483647), (0, -2147483648, 2147483647), (0, -2147483648, 2147483647), (0, -2147483648, 2147483647), (0, -2147483648, 2147483647), (0, -2147483648, 2147483647), (0, -2147483648, 2147483647), (0, -2147483648, 2147483647), (0, -2147483648, 2147483647), (0, -2147483648, 2147483647), (0, -2147483648, 2147483647), (0, -2147483648, 2147483647), (0, lw, hg), (0, lw, hg), (0, lw, hg), (0, lw, hg), (0, lw, hg), (0, lw, hg), (0, lw, hg), (0, lw, hg), (0, lw, hg), (0, lw, hg), (0, lw, hg), (0, lw, hg), (0, -2147483648, 2147483647), (0, -2147483648, 2147483647), (0, -2147483648, 2147483647), (0, -2147483648, 2147483647), (0, -2147483648, 2147483647), (0, -2147483648, 2147483647), (0, -2147483648, 2147483647), (0, -2147483648, 2147483647), (0, -2147483648, 2147483647)]
theorem Lb_56 : Lb 56 = (1, 0, 39, tw9 0 99) := rfl
theorem Lb2_56 : Lb2 56 = (1, 0, 39, tw9 (-4) 103) := rfl
theorem Lb_57 : Lb 57 = (1, 0, 39, tw9 0 99) := rfl
section
variable {Sg : Nat → Option Nat} {cA : Nat → ClassId} {Lb9 : Nat → k_I} {h h1 : ch_H} {lw hg : Int} {T : Nat → Int32} {to ro L : Nat}
theorem tw_x (i : Nat) (hi : i < 6) : k_el (1, 0, 39, tw9 lw hg) i = (0, 0, 20) := by
  have z : i = 0 ∨ i = 1 ∨ i = 2 ∨ i = 3 ∨ i = 4 ∨ i = 5 := by omega
  rcases z with rfl | rfl | rfl | rfl | rfl | rfl <;> rfl
theorem tw_w (i : Nat) (hi : i < 12) : k_el (1, 0, 39, tw9 lw hg) (18 + i) = (0, lw, hg) := by
  have z : i = 0 ∨ i = 1 ∨ i = 2 ∨ i = 3 ∨ i = 4 ∨ i = 5 ∨ i = 6 ∨ i = 7 ∨ i = 8 ∨ i = 9 ∨ i = 10 ∨ i = 11 := by omega
  rcases z with rfl | rfl | rfl | rfl | rfl | rfl | rfl | rfl | rfl | rfl | rfl | rfl <;> rfl
theorem tw_t (i : Nat) (h0 : i < 39) (h2 : ¬ i < 6) (h3 : ¬ (18 ≤ i ∧ i < 30)) : k_el (1, 0, 39, tw9 lw hg) i = (0, -2147483648, 2147483647) := by
  have z : i = 6 ∨ i = 7 ∨ i = 8 ∨ i = 9 ∨ i = 10 ∨ i = 11 ∨ i = 12 ∨ i = 13 ∨ i = 14 ∨ i = 15 ∨ i = 16 ∨ i = 17 ∨ i = 30 ∨ i = 31 ∨ i = 32 ∨ i = 33 ∨ i = 34 ∨ i = 35 ∨ i = 36 ∨ i = 37 ∨ i = 38 := by omega
  rcases z with rfl | rfl | rfl | rfl | rfl | rfl | rfl | rfl | rfl | rfl | rfl | rfl | rfl | rfl | rfl | rfl | rfl | rfl | rfl | rfl | rfl <;> rfl
theorem tw_mk (h2 : ∀ i, i < 6 → 0 ≤ (T i).toInt ∧ (T i).toInt ≤ 20) (h3 : ∀ k, k < 12 → lw ≤ (T (18 + k)).toInt ∧ (T (18 + k)).toInt ≤ hg) : ∀ i, i < 39 → (k_el (1, 0, 39, tw9 lw hg) i).2.1 ≤ (T i).toInt ∧ (T i).toInt ≤ (k_el (1, 0, 39, tw9 lw hg) i).2.2 := by
  intro i hi
  by_cases c1 : i < 6
  · rw [tw_x i c1]
    exact h2 i c1
  · by_cases c2 : 18 ≤ i ∧ i < 30
    · obtain ⟨k, rfl⟩ : ∃ k, i = 18 + k := ⟨i - 18, by omega⟩
      rw [tw_w k (by omega)]
      exact h3 k (by omega)
    · rw [tw_t i hi c1 c2]
      exact ⟨Int32.minValue_le_toInt _, Int32.toInt_le _⟩
theorem T_town (hH : k_H Sg cA Lb9 h) (hs : Sg to = some L) (hL : Lb9 L = (1, 0, 39, tw9 lw hg)) : ∃ T : Nat → Int32, h to = some (.inl (cA 0, 39, .inl T)) ∧ (∀ i, i < 6 → 0 ≤ (T i).toInt ∧ (T i).toInt ≤ 20) ∧ (∀ k, k < 12 → lw ≤ (T (18 + k)).toInt ∧ (T (18 + k)).toInt ≤ hg) := by
  obtain ⟨T, c, b⟩ := hH.arr hs hL
  refine ⟨T, c, fun i hi => ?_, fun k hk => ?_⟩
  · have := b i (by omega)
    rw [tw_x i hi] at this
    exact this
  · have := b (18 + k) (by omega)
    rw [tw_w k hk] at this
    exact this
theorem k_H.twm (hH : k_H Sg cA Lb9 h) (hs : Sg to = some L) (hL : Lb9 L = (1, 0, 39, tw9 lw hg)) (c1 : h1 to = some (.inl (cA 0, 39, .inl T))) (h2 : ∀ i, i < 6 → 0 ≤ (T i).toInt ∧ (T i).toInt ≤ 20) (h3 : ∀ k, k < 12 → lw ≤ (T (18 + k)).toInt ∧ (T (18 + k)).toInt ≤ hg) (o : ∀ q, q ≠ to → h1 q = h q) : k_H Sg cA Lb9 h1 := by
  refine hH.one hs c1 ?_ o
  rw [hL]
  exact Or.inr (Or.inl ⟨rfl, T, rfl, tw_mk h2 h3⟩)
theorem k_H.twn (hH : k_H Sg cA Lb9 h) (hs : Sg to = some L) (hL : Lb9 L = (1, 0, 39, tw9 lw hg)) (c0 : h to = some (.inl (cA 0, 39, .inl T))) {i : Nat} {x : Int32} (c1 : h1 to = some (.inl (cA 0, 39, .inl (upd T i x)))) (b1 : i < 6 → 0 ≤ x.toInt ∧ x.toInt ≤ 20) (b2 : 18 ≤ i → i < 30 → lw ≤ x.toInt ∧ x.toInt ≤ hg) (o : ∀ q, q ≠ to → h1 q = h q) : k_H Sg cA Lb9 h1 := by
  obtain ⟨T2, c, a1, a2⟩ := T_town hH hs hL
  rw [c0] at c
  cases c
  refine hH.twm hs hL c1 (fun j hj => ?_) (fun k hk => ?_) o
  · by_cases q : j = i
    · subst q
      rw [pk_us]
      exact b1 hj
    · rw [pk_un q]
      exact a1 j hj
  · by_cases q : 18 + k = i
    · subst q
      rw [pk_us]
      exact b2 (by omega) (by omega)
    · rw [pk_un q]
      exact a2 k hk
theorem el55 : ∀ p, p < 6 → k_el (Lb 55) (9 * p + 1) = (0, 0, 20) ∧ k_el (Lb 55) (9 * p + 2) = (0, 0, 20) ∧ k_el (Lb 55) (9 * p + 3) = (0, 0, 99) ∧ k_el (Lb 55) (9 * p + 4) = (0, 0, 99) ∧ k_el (Lb 55) (9 * p + 7) = (0, 0, 9) ∧ k_el (Lb 55) (9 * p + 8) = (0, -1, 2 * (p : Int) - 1) := by decide +kernel
theorem T_rope (hH : k_H Sg cA Lb9 h) (hs : Sg ro = some 55) (hL : Lb9 55 = Lb 55) : ∃ R : Nat → Int32, h ro = some (.inl (cA 0, 108, .inl R)) ∧ ∀ p, p < 6 → (0 ≤ (R (9 * p + 1)).toInt ∧ (R (9 * p + 1)).toInt ≤ 20) ∧ (0 ≤ (R (9 * p + 2)).toInt ∧ (R (9 * p + 2)).toInt ≤ 20) ∧ (0 ≤ (R (9 * p + 3)).toInt ∧ (R (9 * p + 3)).toInt ≤ 99) ∧ (0 ≤ (R (9 * p + 4)).toInt ∧ (R (9 * p + 4)).toInt ≤ 99) ∧ (0 ≤ (R (9 * p + 7)).toInt ∧ (R (9 * p + 7)).toInt ≤ 9) ∧ (R (9 * p + 8)).toInt ≤ 2 * (p : Int) - 1 := by
  obtain ⟨e, e1, e2⟩ := hH ro 55 hs
  rw [hL] at e2
  obtain ⟨R, rfl, b⟩ := k_cell1 (I := Lb 55) rfl e2
  have b : ∀ i, i < 108 → (k_el (Lb 55) i).2.1 ≤ (R i).toInt ∧ (R i).toInt ≤ (k_el (Lb 55) i).2.2 := b
  refine ⟨R, e1, fun p hp => ?_⟩
  obtain ⟨t1, t2, t3, t4, t7, t8⟩ := el55 p hp
  have b1 := b (9 * p + 1) (by omega)
  have b2 := b (9 * p + 2) (by omega)
  have b3 := b (9 * p + 3) (by omega)
  have b4 := b (9 * p + 4) (by omega)
  have b7 := b (9 * p + 7) (by omega)
  have b8 := b (9 * p + 8) (by omega)
  rw [t1] at b1
  rw [t2] at b2
  rw [t3] at b3
  rw [t4] at b4
  rw [t7] at b7
  rw [t8] at b8
  exact ⟨b1, b2, b3, b4, b7, b8.2⟩
end
