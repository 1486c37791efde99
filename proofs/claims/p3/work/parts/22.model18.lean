/-- X11_group -/
def cc_216 : k_C := (190, [(2, 50, 0), (0, -2147483648, 2147483647)], [], some (0, -2147483648, 2147483647), [(50, 0)], 21, 925)
def cp_216 : List k_Pt := [(47, [(0, (2, 50, 0)), (1, (0, -1, -1)), (2, (0, -2147483648, 2147483647)), (3, (0, -2147483648, 2147483647)), (4, (0, 0, 18))], [], [(-1, 4)], 19)]
theorem sat_216 {l : Launch} {D : va_G} {tys : List (ClassId × FieldType)} {A : Nat → Prop} {X : State → Prop} {Sg : Nat → Option Nat} {cA : Nat → ClassId} (hT : k_TX tys cA A X) : k_sat l D tys A X Sg cA Lb cc_216 := k_keeps_ok (cs := [cc_153]) (inl := pg_in) (fuel := 3000) (pts := cp_216) hT.1 (List.forall_mem_cons.mpr ⟨sat_153 hT, fun _ h => absurd h List.not_mem_nil⟩) (by decide +kernel)
/-- X11_often -/
def cc_217 : k_C := (221, [(2, 50, 0), (0, -2147483648, 2147483647), (0, -2147483648, 2147483647), (0, -2147483648, 2147483647), (0, -2147483648, 2147483647)], [], some (0, -2147483648, 2147483647), [(50, 0), (50, 36), (50, 37), (56, 0), (57, 0)], 9, 211)
def cp_217 : List k_Pt := [(54, [(0, (2, 50, 0)), (1, (0, 0, 17)), (2, (0, 0, 17)), (3, (0, 0, 60)), (4, (0, 0, 2)), (5, (0, -2147483648, 2147483647)), (6, (0, -1, 60)), (7, (0, -1, 60)), (8, (0, 0, 61))], [], [(-1, 8)], 62)]
theorem sat_217 {l : Launch} {D : va_G} {tys : List (ClassId × FieldType)} {A : Nat → Prop} {X : State → Prop} {Sg : Nat → Option Nat} {cA : Nat → ClassId} (hT : k_TX tys cA A X) : k_sat l D tys A X Sg cA Lb cc_217 := k_keeps_ok (cs := [cc_138, cc_142, cc_143, cc_146]) (inl := pg_in) (fuel := 3000) (pts := cp_217) hT.1 (List.forall_mem_cons.mpr ⟨sat_138 hT, List.forall_mem_cons.mpr ⟨sat_142 hT, List.forall_mem_cons.mpr ⟨sat_143 hT, List.forall_mem_cons.mpr ⟨sat_146 hT, fun _ h => absurd h List.not_mem_nil⟩⟩⟩⟩) (by decide +kernel)
/-- fallsWith 5 -/
def cc_218 : k_C := (181, [(2, 50, 0), (0, 5, 5)], [], some (0, 3072, 3072), [], 1, 22)
def cp_218 : List k_Pt := []
theorem sat_218 {l : Launch} {D : va_G} {tys : List (ClassId × FieldType)} {A : Nat → Prop} {X : State → Prop} {Sg : Nat → Option Nat} {cA : Nat → ClassId} (hT : k_TX tys cA A X) : k_sat l D tys A X Sg cA Lb cc_218 := k_keeps_ok (cs := []) (inl := pg_in) (fuel := 3000) (pts := cp_218) hT.1 (fun _ h => absurd h List.not_mem_nil) (by decide +kernel)
/-- fallsWith 4 -/
def cc_219 : k_C := (181, [(2, 50, 0), (0, 4, 4)], [], some (0, 768, 3840), [], 2, 45)
def cp_219 : List k_Pt := []
theorem sat_219 {l : Launch} {D : va_G} {tys : List (ClassId × FieldType)} {A : Nat → Prop} {X : State → Prop} {Sg : Nat → Option Nat} {cA : Nat → ClassId} (hT : k_TX tys cA A X) : k_sat l D tys A X Sg cA Lb cc_219 := k_keeps_ok (cs := [cc_218]) (inl := pg_in) (fuel := 3000) (pts := cp_219) hT.1 (List.forall_mem_cons.mpr ⟨sat_218 hT, fun _ h => absurd h List.not_mem_nil⟩) (by decide +kernel)
/-- fallsWith 3 -/
def cc_220 : k_C := (181, [(2, 50, 0), (0, 3, 3)], [], some (0, -2147483648, 2147483647), [], 3, 68)
def cp_220 : List k_Pt := []
theorem sat_220 {l : Launch} {D : va_G} {tys : List (ClassId × FieldType)} {A : Nat → Prop} {X : State → Prop} {Sg : Nat → Option Nat} {cA : Nat → ClassId} (hT : k_TX tys cA A X) : k_sat l D tys A X Sg cA Lb cc_220 := k_keeps_ok (cs := [cc_218, cc_219]) (inl := pg_in) (fuel := 3000) (pts := cp_220) hT.1 (List.forall_mem_cons.mpr ⟨sat_218 hT, List.forall_mem_cons.mpr ⟨sat_219 hT, fun _ h => absurd h List.not_mem_nil⟩⟩) (by decide +kernel)
/-- fallsWith 2 -/
def cc_221 : k_C := (181, [(2, 50, 0), (0, 2, 2)], [], some (0, -2147483648, 2147483647), [], 4, 91)
def cp_221 : List k_Pt := []
theorem sat_221 {l : Launch} {D : va_G} {tys : List (ClassId × FieldType)} {A : Nat → Prop} {X : State → Prop} {Sg : Nat → Option Nat} {cA : Nat → ClassId} (hT : k_TX tys cA A X) : k_sat l D tys A X Sg cA Lb cc_221 := k_keeps_ok (cs := [cc_218, cc_219, cc_220]) (inl := pg_in) (fuel := 3000) (pts := cp_221) hT.1 (List.forall_mem_cons.mpr ⟨sat_218 hT, List.forall_mem_cons.mpr ⟨sat_219 hT, List.forall_mem_cons.mpr ⟨sat_220 hT, fun _ h => absurd h List.not_mem_nil⟩⟩⟩) (by decide +kernel)
/-- fallsWith 1 -/
def cc_222 : k_C := (181, [(2, 50, 0), (0, 1, 1)], [], some (0, -2147483648, 2147483647), [], 5, 114)
def cp_222 : List k_Pt := []
theorem sat_222 {l : Launch} {D : va_G} {tys : List (ClassId × FieldType)} {A : Nat → Prop} {X : State → Prop} {Sg : Nat → Option Nat} {cA : Nat → ClassId} (hT : k_TX tys cA A X) : k_sat l D tys A X Sg cA Lb cc_222 := k_keeps_ok (cs := [cc_218, cc_219, cc_220, cc_221]) (inl := pg_in) (fuel := 3000) (pts := cp_222) hT.1 (List.forall_mem_cons.mpr ⟨sat_218 hT, List.forall_mem_cons.mpr ⟨sat_219 hT, List.forall_mem_cons.mpr ⟨sat_220 hT, List.forall_mem_cons.mpr ⟨sat_221 hT, fun _ h => absurd h List.not_mem_nil⟩⟩⟩⟩) (by decide +kernel)
/-- fallsWith 0 -/
def cc_223 : k_C := (181, [(2, 50, 0), (0, 0, 0)], [], some (0, -2147483648, 2147483647), [], 6, 137)
def cp_223 : List k_Pt := []
theorem sat_223 {l : Launch} {D : va_G} {tys : List (ClassId × FieldType)} {A : Nat → Prop} {X : State → Prop} {Sg : Nat → Option Nat} {cA : Nat → ClassId} (hT : k_TX tys cA A X) : k_sat l D tys A X Sg cA Lb cc_223 := k_keeps_ok (cs := [cc_218, cc_219, cc_220, cc_221, cc_222]) (inl := pg_in) (fuel := 3000) (pts := cp_223) hT.1 (List.forall_mem_cons.mpr ⟨sat_218 hT, List.forall_mem_cons.mpr ⟨sat_219 hT, List.forall_mem_cons.mpr ⟨sat_220 hT, List.forall_mem_cons.mpr ⟨sat_221 hT, List.forall_mem_cons.mpr ⟨sat_222 hT, fun _ h => absurd h List.not_mem_nil⟩⟩⟩⟩⟩) (by decide +kernel)
/-- fallsWith 0, large -/
def cc_224 : k_C := (181, [(2, 50, 0), (0, 0, 0)], [], some (0, -2147483648, 2147483647), [], 6, 137)
def cp_224 : List k_Pt := []
theorem sat_224 {l : Launch} {D : va_G} {tys : List (ClassId × FieldType)} {A : Nat → Prop} {X : State → Prop} {Sg : Nat → Option Nat} {cA : Nat → ClassId} (hT : k_TX tys cA A X) : k_sat l D tys A X Sg cA Lb cc_224 := k_keeps_ok (cs := [cc_218, cc_219, cc_220, cc_221, cc_222, cc_223]) (inl := pg_in) (fuel := 3000) (pts := cp_224) hT.1 (List.forall_mem_cons.mpr ⟨sat_218 hT, List.forall_mem_cons.mpr ⟨sat_219 hT, List.forall_mem_cons.mpr ⟨sat_220 hT, List.forall_mem_cons.mpr ⟨sat_221 hT, List.forall_mem_cons.mpr ⟨sat_222 hT, List.forall_mem_cons.mpr ⟨sat_223 hT, fun _ h => absurd h List.not_mem_nil⟩⟩⟩⟩⟩⟩) (by decide +kernel)
/-- fallsWith 1, large -/
def cc_225 : k_C := (181, [(2, 50, 0), (0, 1, 1)], [], some (0, -2147483648, 2147483647), [], 6, 137)
def cp_225 : List k_Pt := []
theorem sat_225 {l : Launch} {D : va_G} {tys : List (ClassId × FieldType)} {A : Nat → Prop} {X : State → Prop} {Sg : Nat → Option Nat} {cA : Nat → ClassId} (hT : k_TX tys cA A X) : k_sat l D tys A X Sg cA Lb cc_225 := k_keeps_ok (cs := [cc_218, cc_219, cc_220, cc_221, cc_222, cc_223]) (inl := pg_in) (fuel := 3000) (pts := cp_225) hT.1 (List.forall_mem_cons.mpr ⟨sat_218 hT, List.forall_mem_cons.mpr ⟨sat_219 hT, List.forall_mem_cons.mpr ⟨sat_220 hT, List.forall_mem_cons.mpr ⟨sat_221 hT, List.forall_mem_cons.mpr ⟨sat_222 hT, List.forall_mem_cons.mpr ⟨sat_223 hT, fun _ h => absurd h List.not_mem_nil⟩⟩⟩⟩⟩⟩) (by decide +kernel)
/-- fallsWith 2, large -/
def cc_226 : k_C := (181, [(2, 50, 0), (0, 2, 2)], [], some (0, -2147483648, 2147483647), [], 6, 137)
def cp_226 : List k_Pt := []
theorem sat_226 {l : Launch} {D : va_G} {tys : List (ClassId × FieldType)} {A : Nat → Prop} {X : State → Prop} {Sg : Nat → Option Nat} {cA : Nat → ClassId} (hT : k_TX tys cA A X) : k_sat l D tys A X Sg cA Lb cc_226 := k_keeps_ok (cs := [cc_218, cc_219, cc_220, cc_221, cc_222, cc_223]) (inl := pg_in) (fuel := 3000) (pts := cp_226) hT.1 (List.forall_mem_cons.mpr ⟨sat_218 hT, List.forall_mem_cons.mpr ⟨sat_219 hT, List.forall_mem_cons.mpr ⟨sat_220 hT, List.forall_mem_cons.mpr ⟨sat_221 hT, List.forall_mem_cons.mpr ⟨sat_222 hT, List.forall_mem_cons.mpr ⟨sat_223 hT, fun _ h => absurd h List.not_mem_nil⟩⟩⟩⟩⟩⟩) (by decide +kernel)
/-- fallsWith 3, large -/
def cc_227 : k_C := (181, [(2, 50, 0), (0, 3, 3)], [], some (0, -2147483648, 2147483647), [], 6, 137)
def cp_227 : List k_Pt := []
theorem sat_227 {l : Launch} {D : va_G} {tys : List (ClassId × FieldType)} {A : Nat → Prop} {X : State → Prop} {Sg : Nat → Option Nat} {cA : Nat → ClassId} (hT : k_TX tys cA A X) : k_sat l D tys A X Sg cA Lb cc_227 := k_keeps_ok (cs := [cc_218, cc_219, cc_220, cc_221, cc_222, cc_223]) (inl := pg_in) (fuel := 3000) (pts := cp_227) hT.1 (List.forall_mem_cons.mpr ⟨sat_218 hT, List.forall_mem_cons.mpr ⟨sat_219 hT, List.forall_mem_cons.mpr ⟨sat_220 hT, List.forall_mem_cons.mpr ⟨sat_221 hT, List.forall_mem_cons.mpr ⟨sat_222 hT, List.forall_mem_cons.mpr ⟨sat_223 hT, fun _ h => absurd h List.not_mem_nil⟩⟩⟩⟩⟩⟩) (by decide +kernel)
