/-- fallsWith 4 -/
def cc_228 : k_C := (181, [(2, 50, 0), (0, 4, 4)], [], some (0, 768, 3840), [], 2, 45)
def cp_228 : List k_Pt := []
theorem sat_228 {l : Launch} {D : va_G} {tys : List (ClassId × FieldType)} {A : Nat → Prop} {X : State → Prop} {Sg : Nat → Option Nat} {cA : Nat → ClassId} (hT : k_TX tys cA A X) : k_sat l D tys A X Sg cA Lb cc_228 := k_keeps_ok (cs := [cc_227]) (inl := pg_in) (fuel := 3000) (pts := cp_228) hT.1 (List.forall_mem_cons.mpr ⟨sat_227 hT, fun _ h => absurd h List.not_mem_nil⟩) (by decide +kernel)
/-- fallsWith 3 -/
def cc_229 : k_C := (181, [(2, 50, 0), (0, 3, 3)], [], some (0, -2147483648, 2147483647), [], 3, 68)
def cp_229 : List k_Pt := []
theorem sat_229 {l : Launch} {D : va_G} {tys : List (ClassId × FieldType)} {A : Nat → Prop} {X : State → Prop} {Sg : Nat → Option Nat} {cA : Nat → ClassId} (hT : k_TX tys cA A X) : k_sat l D tys A X Sg cA Lb cc_229 := k_keeps_ok (cs := [cc_227, cc_228]) (inl := pg_in) (fuel := 3000) (pts := cp_229) hT.1 (List.forall_mem_cons.mpr ⟨sat_227 hT, List.forall_mem_cons.mpr ⟨sat_228 hT, fun _ h => absurd h List.not_mem_nil⟩⟩) (by decide +kernel)
/-- fallsWith 2 -/
def cc_230 : k_C := (181, [(2, 50, 0), (0, 2, 2)], [], some (0, -2147483648, 2147483647), [], 4, 91)
def cp_230 : List k_Pt := []
theorem sat_230 {l : Launch} {D : va_G} {tys : List (ClassId × FieldType)} {A : Nat → Prop} {X : State → Prop} {Sg : Nat → Option Nat} {cA : Nat → ClassId} (hT : k_TX tys cA A X) : k_sat l D tys A X Sg cA Lb cc_230 := k_keeps_ok (cs := [cc_227, cc_228, cc_229]) (inl := pg_in) (fuel := 3000) (pts := cp_230) hT.1 (List.forall_mem_cons.mpr ⟨sat_227 hT, List.forall_mem_cons.mpr ⟨sat_228 hT, List.forall_mem_cons.mpr ⟨sat_229 hT, fun _ h => absurd h List.not_mem_nil⟩⟩⟩) (by decide +kernel)
/-- fallsWith 1 -/
def cc_231 : k_C := (181, [(2, 50, 0), (0, 1, 1)], [], some (0, -2147483648, 2147483647), [], 5, 114)
def cp_231 : List k_Pt := []
theorem sat_231 {l : Launch} {D : va_G} {tys : List (ClassId × FieldType)} {A : Nat → Prop} {X : State → Prop} {Sg : Nat → Option Nat} {cA : Nat → ClassId} (hT : k_TX tys cA A X) : k_sat l D tys A X Sg cA Lb cc_231 := k_keeps_ok (cs := [cc_227, cc_228, cc_229, cc_230]) (inl := pg_in) (fuel := 3000) (pts := cp_231) hT.1 (List.forall_mem_cons.mpr ⟨sat_227 hT, List.forall_mem_cons.mpr ⟨sat_228 hT, List.forall_mem_cons.mpr ⟨sat_229 hT, List.forall_mem_cons.mpr ⟨sat_230 hT, fun _ h => absurd h List.not_mem_nil⟩⟩⟩⟩) (by decide +kernel)
/-- fallsWith 0 -/
def cc_232 : k_C := (181, [(2, 50, 0), (0, 0, 0)], [], some (0, -2147483648, 2147483647), [], 6, 137)
def cp_232 : List k_Pt := []
theorem sat_232 {l : Launch} {D : va_G} {tys : List (ClassId × FieldType)} {A : Nat → Prop} {X : State → Prop} {Sg : Nat → Option Nat} {cA : Nat → ClassId} (hT : k_TX tys cA A X) : k_sat l D tys A X Sg cA Lb cc_232 := k_keeps_ok (cs := [cc_227, cc_228, cc_229, cc_230, cc_231]) (inl := pg_in) (fuel := 3000) (pts := cp_232) hT.1 (List.forall_mem_cons.mpr ⟨sat_227 hT, List.forall_mem_cons.mpr ⟨sat_228 hT, List.forall_mem_cons.mpr ⟨sat_229 hT, List.forall_mem_cons.mpr ⟨sat_230 hT, List.forall_mem_cons.mpr ⟨sat_231 hT, fun _ h => absurd h List.not_mem_nil⟩⟩⟩⟩⟩) (by decide +kernel)
/-- fallsWith 0, large -/
def cc_233 : k_C := (181, [(2, 50, 0), (0, 0, 0)], [], some (0, -2147483648, 2147483647), [], 6, 137)
theorem sat_233 {l : Launch} {D : va_G} {tys : List (ClassId × FieldType)} {A : Nat → Prop} {X : State → Prop} {Sg : Nat → Option Nat} {cA : Nat → ClassId} (hT : k_TX tys cA A X) : k_sat l D tys A X Sg cA Lb cc_233 := k_sat_room (sat_232 hT) (by decide) (by decide)
/-- fallsWith 1, large -/
def cc_234 : k_C := (181, [(2, 50, 0), (0, 1, 1)], [], some (0, -2147483648, 2147483647), [], 6, 137)
theorem sat_234 {l : Launch} {D : va_G} {tys : List (ClassId × FieldType)} {A : Nat → Prop} {X : State → Prop} {Sg : Nat → Option Nat} {cA : Nat → ClassId} (hT : k_TX tys cA A X) : k_sat l D tys A X Sg cA Lb cc_234 := k_sat_room (sat_231 hT) (by decide) (by decide)
/-- fallsWith 2, large -/
def cc_235 : k_C := (181, [(2, 50, 0), (0, 2, 2)], [], some (0, -2147483648, 2147483647), [], 6, 137)
theorem sat_235 {l : Launch} {D : va_G} {tys : List (ClassId × FieldType)} {A : Nat → Prop} {X : State → Prop} {Sg : Nat → Option Nat} {cA : Nat → ClassId} (hT : k_TX tys cA A X) : k_sat l D tys A X Sg cA Lb cc_235 := k_sat_room (sat_230 hT) (by decide) (by decide)
/-- fallsWith 3, large -/
def cc_236 : k_C := (181, [(2, 50, 0), (0, 3, 3)], [], some (0, -2147483648, 2147483647), [], 6, 137)
theorem sat_236 {l : Launch} {D : va_G} {tys : List (ClassId × FieldType)} {A : Nat → Prop} {X : State → Prop} {Sg : Nat → Option Nat} {cA : Nat → ClassId} (hT : k_TX tys cA A X) : k_sat l D tys A X Sg cA Lb cc_236 := k_sat_room (sat_229 hT) (by decide) (by decide)
/-- fallsWith 4, large -/
def cc_237 : k_C := (181, [(2, 50, 0), (0, 4, 4)], [], some (0, -2147483648, 2147483647), [], 6, 137)
def cp_237 : List k_Pt := []
theorem sat_237 {l : Launch} {D : va_G} {tys : List (ClassId × FieldType)} {A : Nat → Prop} {X : State → Prop} {Sg : Nat → Option Nat} {cA : Nat → ClassId} (hT : k_TX tys cA A X) : k_sat l D tys A X Sg cA Lb cc_237 := k_keeps_ok (cs := [cc_227, cc_228, cc_229, cc_230, cc_231, cc_232]) (inl := pg_in) (fuel := 3000) (pts := cp_237) hT.1 (List.forall_mem_cons.mpr ⟨sat_227 hT, List.forall_mem_cons.mpr ⟨sat_228 hT, List.forall_mem_cons.mpr ⟨sat_229 hT, List.forall_mem_cons.mpr ⟨sat_230 hT, List.forall_mem_cons.mpr ⟨sat_231 hT, List.forall_mem_cons.mpr ⟨sat_232 hT, fun _ h => absurd h List.not_mem_nil⟩⟩⟩⟩⟩⟩) (by decide +kernel)
/-- fallsWith 5, large -/
def cc_238 : k_C := (181, [(2, 50, 0), (0, 5, 5)], [], some (0, -2147483648, 2147483647), [], 6, 137)
def cp_238 : List k_Pt := []
theorem sat_238 {l : Launch} {D : va_G} {tys : List (ClassId × FieldType)} {A : Nat → Prop} {X : State → Prop} {Sg : Nat → Option Nat} {cA : Nat → ClassId} (hT : k_TX tys cA A X) : k_sat l D tys A X Sg cA Lb cc_238 := k_keeps_ok (cs := [cc_227, cc_228, cc_229, cc_230, cc_231, cc_232]) (inl := pg_in) (fuel := 3000) (pts := cp_238) hT.1 (List.forall_mem_cons.mpr ⟨sat_227 hT, List.forall_mem_cons.mpr ⟨sat_228 hT, List.forall_mem_cons.mpr ⟨sat_229 hT, List.forall_mem_cons.mpr ⟨sat_230 hT, List.forall_mem_cons.mpr ⟨sat_231 hT, List.forall_mem_cons.mpr ⟨sat_232 hT, fun _ h => absurd h List.not_mem_nil⟩⟩⟩⟩⟩⟩) (by decide +kernel)
/-- fallsWith, any -/
def cc_239 : k_C := (181, [(2, 50, 0), (0, 0, 5)], [], some (0, -2147483648, 2147483647), [], 6, 137)
theorem sat_239 {l : Launch} {D : va_G} {tys : List (ClassId × FieldType)} {A : Nat → Prop} {X : State → Prop} {Sg : Nat → Option Nat} {cA : Nat → ClassId} (hT : k_TX tys cA A X) : k_sat l D tys A X Sg cA Lb cc_239 := by
  refine k_sat_ones 1 0 5 rfl (fun v h1 h2 => ?_)
  have hv : v = 0 ∨ v = 1 ∨ v = 2 ∨ v = 3 ∨ v = 4 ∨ v = 5 := by omega
  rcases hv with rfl | rfl | rfl | rfl | rfl | rfl
  · exact sat_233 hT
  · exact sat_234 hT
  · exact sat_235 hT
  · exact sat_236 hT
  · exact sat_237 hT
  · exact sat_238 hT
