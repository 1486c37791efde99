/-! a contract whose argument takes some numbers, from one for each number -/
section
variable {l : Launch} {D : va_G} {tys : List (ClassId × FieldType)} {A : Nat → Prop} {X : State → Prop} {Sg : Nat → Option Nat} {cA : Nat → ClassId} {Lb : Nat → k_I}
theorem k_sat_ones {c : k_C} (i : Nat) (lo hi : Int) (e : c.2.1[i]? = some (0, lo, hi)) (H : ∀ v : Int, lo ≤ v → v ≤ hi → k_sat l D tys A X Sg cA Lb (c.1, c.2.1.set i (0, v, v), c.2.2)) : k_sat l D tys A X Sg cA Lb c := by
  intro h vals hH hlen hv hk
  obtain ⟨x, hx, hx2⟩ := hv i _ e
  obtain ⟨n, ex, h1, h2⟩ := hx2
  subst ex
  refine H n.toInt h1 h2 h vals hH (by simpa using hlen) (fun j t ht => ?_) hk
  by_cases hj : i = j
  · subst hj
    have hl : i < c.2.1.length := (List.getElem?_eq_some_iff.mp e).1
    simp only [List.getElem?_set_self hl] at ht
    cases ht
    exact ⟨_, hx, n, rfl, Int.le_refl _, Int.le_refl _⟩
  · simp only [List.getElem?_set_ne hj] at ht
    exact hv j t ht
end
