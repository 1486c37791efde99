/-! longs: Math.max, Math.min, and what is bounded by them -/
section
variable {l : Launch} {D : va_G} {tys : List (ClassId × FieldType)} {A : Nat → Prop} {X : State → Prop} {fr lo mc ms : Nat} {M : ch_M} {Q : Option Value → ch_H → Prop} {pc : Nat} {lv : List (Nat × Value)} {st : List Value} {h : ch_H} {c z : Nat}
theorem pg_maxL : Cond.static Lib.MathLoose.max_long.x ∈ wsA ∧ Cond.code Lib.MathLoose.max_long.x Lib.MathLoose.max_long.code 4 (some .long) ∈ wsA := ⟨wA4 132 rfl rfl, wA4 133 rfl rfl⟩
theorem pg_minL : Cond.static Lib.MathLoose.min_long.x ∈ wsA ∧ Cond.code Lib.MathLoose.min_long.x Lib.MathLoose.min_long.code 4 (some .long) ∈ wsA := ⟨wA4 129 rfl rfl, wA4 130 rfl rfl⟩
theorem tt_mmaxL {ix : Nat} {x y : Int64} (hw1 : Cond.methodLink M.1.cls ix Lib.MathLoose.max_long.x ∈ wsA) (hf : 1 ≤ fr) (hlo : (st.map fun v => v.category).sum + 15 ≤ lo) (hc : c ≤ mc) (hz : z ≤ ms) (hd : decode M.2.1 pc = .ok (.invokestatic ix, 3)) (k : tt l D tys A X fr lo mc ms M Q (pc + 3) lv (.long (if y < x then x else y) :: st) h c z) : tt l D tys A X fr lo mc ms M Q pc lv (.long y :: .long x :: st) h c z := by
  intro p e s m args below meth cd H locs ls C hl hr hS
  exact va_mmax_long C.1 C.2.1 (by rw [C.2.2.2.1]; exact hl.1.symm) C.2.2.2.2.1 (C.2.2.2.2.2.1 _ hw1) (C.2.2.2.2.2.1 _ pg_maxL.1) (C.2.2.2.2.2.1 _ pg_math) (C.2.2.2.2.2.1 _ pg_maxL.2) hf hlo hc hz hd (k p e s m args below meth cd H locs ls C hl hr hS)
theorem tt_mminL {ix : Nat} {x y : Int64} (hw1 : Cond.methodLink M.1.cls ix Lib.MathLoose.min_long.x ∈ wsA) (hf : 1 ≤ fr) (hlo : (st.map fun v => v.category).sum + 15 ≤ lo) (hc : c ≤ mc) (hz : z ≤ ms) (hd : decode M.2.1 pc = .ok (.invokestatic ix, 3)) (k : tt l D tys A X fr lo mc ms M Q (pc + 3) lv (.long (if y < x then y else x) :: st) h c z) : tt l D tys A X fr lo mc ms M Q pc lv (.long y :: .long x :: st) h c z := by
  intro p e s m args below meth cd H locs ls C hl hr hS
  exact va_mmin_long C.1 C.2.1 (by rw [C.2.2.2.1]; exact hl.1.symm) C.2.2.2.2.1 (C.2.2.2.2.2.1 _ hw1) (C.2.2.2.2.2.1 _ pg_minL.1) (C.2.2.2.2.2.1 _ pg_math) (C.2.2.2.2.2.1 _ pg_minL.2) hf hlo hc hz hd (k p e s m args below meth cd H locs ls C hl hr hS)
theorem lb_rng {v : Int64} (h1 : -1000000 ≤ v.toInt) (h2 : v.toInt ≤ 1000000) : -1000000 ≤ v.toInt32.toInt ∧ v.toInt32.toInt ≤ 1000000 := by
  have e : v.toInt32.toInt = v.toInt := by
    rw [Int64.toInt_toInt32]
    exact fb_bmod (by omega) (by omega)
  omega
theorem lb_ok (v : Int64) : -1000000 ≤ (if (if v < 1000000 then v else 1000000) < (-1000000 : Int64) then (-1000000 : Int64) else (if v < 1000000 then v else 1000000)).toInt32.toInt ∧ (if (if v < 1000000 then v else 1000000) < (-1000000 : Int64) then (-1000000 : Int64) else (if v < 1000000 then v else 1000000)).toInt32.toInt ≤ 1000000 := by
  have k1 : (1000000 : Int64).toInt = 1000000 := rfl
  have k2 : (-1000000 : Int64).toInt = -1000000 := rfl
  by_cases c1 : v < 1000000
  · rw [if_pos c1]
    by_cases c2 : v < (-1000000 : Int64)
    · rw [if_pos c2]; decide
    · rw [if_neg c2]
      rw [Int64.lt_iff_toInt_lt] at c1 c2
      exact lb_rng (by omega) (by omega)
  · rw [if_neg c1, if_neg (by decide)]; decide
theorem h_bounded {v : Int64} (hf : 1 ≤ fr) (hl : 20 ≤ lo) (hq : ∀ x : Int32, -1000000 ≤ x.toInt ∧ x.toInt ≤ 1000000 → Q (some (.int x)) h) : tt l D tys A X fr lo 0 0 mX5_bounded Q 0 [(0, .long v)] [] h 0 0 := by
  refine tt_ldc2 (v := -1000000) (pg_jw 10 (99, -1000000) (List.mem_of_getElem? (i := 0) rfl)) (tX5_bounded_0_ok (0, .ldc2_w 99, 3) (List.mem_of_getElem? (i := 0) rfl)) ?_
  refine tt_ldc2 (v := 1000000) (pg_jw 10 (101, 1000000) (List.mem_of_getElem? (i := 1) rfl)) (tX5_bounded_0_ok (3, .ldc2_w 101, 3) (List.mem_of_getElem? (i := 1) rfl)) ?_
  refine tt_lload_n rfl (List.Mem.head _) (tX5_bounded_0_ok (6, .lload_n 0, 1) (List.mem_of_getElem? (i := 2) rfl)) ?_
  refine tt_mminL (wA4 128 rfl rfl) hf (Nat.le_trans (Nat.le_of_ble_eq_true rfl) hl) (Nat.le_refl _) (Nat.le_refl _) (tX5_bounded_0_ok (7, .invokestatic 103, 3) (List.mem_of_getElem? (i := 3) rfl)) ?_
  refine tt_mmaxL (wA4 131 rfl rfl) hf (Nat.le_trans (Nat.le_of_ble_eq_true rfl) hl) (Nat.le_refl _) (Nat.le_refl _) (tX5_bounded_0_ok (10, .invokestatic 107, 3) (List.mem_of_getElem? (i := 4) rfl)) ?_
  refine tt_l2i (tX5_bounded_0_ok (13, .l2i, 1) (List.mem_of_getElem? (i := 5) rfl)) ?_
  exact tt_iret rfl (hq _ (lb_ok v)) (Nat.le_refl _) (Nat.le_refl _) (tX5_bounded_0_ok (14, .ireturn, 1) (List.mem_of_getElem? (i := 6) rfl))
theorem h_within {v : Int64} (hf : 1 ≤ fr) (hl : 20 ≤ lo) (hq : ∀ x : Int32, -1000000 ≤ x.toInt ∧ x.toInt ≤ 1000000 → Q (some (.int x)) h) : tt l D tys A X fr lo 0 0 mX11_within Q 0 [(0, .long v)] [] h 0 0 := by
  refine tt_ldc2 (v := -1000000) (pg_jw 16 (131, -1000000) (List.mem_of_getElem? (i := 0) rfl)) (tX11_within_0_ok (0, .ldc2_w 131, 3) (List.mem_of_getElem? (i := 0) rfl)) ?_
  refine tt_ldc2 (v := 1000000) (pg_jw 16 (133, 1000000) (List.mem_of_getElem? (i := 1) rfl)) (tX11_within_0_ok (3, .ldc2_w 133, 3) (List.mem_of_getElem? (i := 1) rfl)) ?_
  refine tt_lload_n rfl (List.Mem.head _) (tX11_within_0_ok (6, .lload_n 0, 1) (List.mem_of_getElem? (i := 2) rfl)) ?_
  refine tt_mminL (wA6 136 rfl rfl) hf (Nat.le_trans (Nat.le_of_ble_eq_true rfl) hl) (Nat.le_refl _) (Nat.le_refl _) (tX11_within_0_ok (7, .invokestatic 135, 3) (List.mem_of_getElem? (i := 3) rfl)) ?_
  refine tt_mmaxL (wA6 137 rfl rfl) hf (Nat.le_trans (Nat.le_of_ble_eq_true rfl) hl) (Nat.le_refl _) (Nat.le_refl _) (tX11_within_0_ok (10, .invokestatic 141, 3) (List.mem_of_getElem? (i := 4) rfl)) ?_
  refine tt_l2i (tX11_within_0_ok (13, .l2i, 1) (List.mem_of_getElem? (i := 5) rfl)) ?_
  exact tt_iret rfl (hq _ (lb_ok v)) (Nat.le_refl _) (Nat.le_refl _) (tX11_within_0_ok (14, .ireturn, 1) (List.mem_of_getElem? (i := 6) rfl))
end
theorem hand_X5_bounded {l : Launch} {D : va_G} {tys : List (ClassId × FieldType)} {A : Nat → Prop} {X : State → Prop} {Sg : Nat → Option Nat} {cA : Nat → ClassId} {Lb : Nat → k_I} {mi : Nat} (hm : k_pM mi = mX5_bounded) : k_sat l D tys A X Sg cA Lb (mi, [(1, 0, 0)], [], some (0, -1000000, 1000000), [], 2, 60) := by
  intro h vals hH hlen hv hk
  obtain ⟨v, e1, x, rfl⟩ := hv 0 _ rfl
  match vals, hlen, e1 with
  | [w], _, e1 =>
    cases e1
    show tt l D tys A X 2 60 0 0 (k_pM mi) _ 0 _ [] h 0 0
    rw [hm]
    exact h_bounded (by omega) (by omega) (fun y hy => ⟨hH, k_U.rf, .int y, rfl, y, rfl, hy.1, hy.2⟩)
