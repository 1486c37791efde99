/-- X11_count -/
def cc_240 : k_C := (172, [(2, 50, 0), (0, -2147483648, 2147483647)], [], some (0, -2147483648, 2147483647), [(50, 0)], 0, 0)
def cp_240 : List k_Pt := []
theorem sat_240 {l : Launch} {D : va_G} {tys : List (ClassId × FieldType)} {A : Nat → Prop} {X : State → Prop} {Sg : Nat → Option Nat} {cA : Nat → ClassId} (hT : k_TX tys cA A X) : k_sat l D tys A X Sg cA Lb cc_240 := k_keeps_ok (cs := []) (inl := pg_in) (fuel := 3000) (pts := cp_240) hT.1 (fun _ h => absurd h List.not_mem_nil) (by decide +kernel)
/-- X11_rope -/
def cc_241 : k_C := (239, [(2, 50, 0), (0, -2147483648, 2147483647), (0, -2147483648, 2147483647)], [], some (0, -2147483648, 2147483647), [(50, 0)], 8, 183)
def cp_241 : List k_Pt := []
theorem sat_241 {l : Launch} {D : va_G} {tys : List (ClassId × FieldType)} {A : Nat → Prop} {X : State → Prop} {Sg : Nat → Option Nat} {cA : Nat → ClassId} (hT : k_TX tys cA A X) : k_sat l D tys A X Sg cA Lb cc_241 := k_keeps_ok (cs := [cc_136]) (inl := pg_in) (fuel := 3000) (pts := cp_241) hT.1 (List.forall_mem_cons.mpr ⟨sat_136 hT, fun _ h => absurd h List.not_mem_nil⟩) (by decide +kernel)
/-- X11_room -/
def cc_242 : k_C := (238, [(2, 50, 0), (0, -2147483648, 2147483647), (0, -2147483648, 2147483647)], [], some (0, -2147483648, 2147483647), [(50, 0)], 8, 177)
def cp_242 : List k_Pt := []
theorem sat_242 {l : Launch} {D : va_G} {tys : List (ClassId × FieldType)} {A : Nat → Prop} {X : State → Prop} {Sg : Nat → Option Nat} {cA : Nat → ClassId} (hT : k_TX tys cA A X) : k_sat l D tys A X Sg cA Lb cc_242 := k_keeps_ok (cs := [cc_104, cc_105, cc_106, cc_107, cc_108, cc_109, cc_110, cc_111, cc_112, cc_113, cc_114, cc_115, cc_116, cc_117, cc_118, cc_119, cc_120, cc_121, cc_122, cc_135]) (inl := pg_in) (fuel := 3000) (pts := cp_242) hT.1 (List.forall_mem_cons.mpr ⟨sat_104 hT, List.forall_mem_cons.mpr ⟨sat_105 hT, List.forall_mem_cons.mpr ⟨sat_106 hT, List.forall_mem_cons.mpr ⟨sat_107 hT, List.forall_mem_cons.mpr ⟨sat_108 hT, List.forall_mem_cons.mpr ⟨sat_109 hT, List.forall_mem_cons.mpr ⟨sat_110 hT, List.forall_mem_cons.mpr ⟨sat_111 hT, List.forall_mem_cons.mpr ⟨sat_112 hT, List.forall_mem_cons.mpr ⟨sat_113 hT, List.forall_mem_cons.mpr ⟨sat_114 hT, List.forall_mem_cons.mpr ⟨sat_115 hT, List.forall_mem_cons.mpr ⟨sat_116 hT, List.forall_mem_cons.mpr ⟨sat_117 hT, List.forall_mem_cons.mpr ⟨sat_118 hT, List.forall_mem_cons.mpr ⟨sat_119 hT, List.forall_mem_cons.mpr ⟨sat_120 hT, List.forall_mem_cons.mpr ⟨sat_121 hT, List.forall_mem_cons.mpr ⟨sat_122 hT, List.forall_mem_cons.mpr ⟨sat_135 hT, fun _ h => absurd h List.not_mem_nil⟩⟩⟩⟩⟩⟩⟩⟩⟩⟩⟩⟩⟩⟩⟩⟩⟩⟩⟩⟩) (by decide +kernel)
/-- X11_brake -/
def cc_243 : k_C := (167, [(2, 50, 0), (0, -2147483648, 2147483647), (0, 0, 1)], [], some (0, 0, 1), [(50, 0), (56, 0)], 1, 21)
def cp_243 : List k_Pt := []
theorem sat_243 {l : Launch} {D : va_G} {tys : List (ClassId × FieldType)} {A : Nat → Prop} {X : State → Prop} {Sg : Nat → Option Nat} {cA : Nat → ClassId} (hT : k_TX tys cA A X) : k_sat l D tys A X Sg cA Lb cc_243 := k_keeps_ok (cs := []) (inl := pg_in) (fuel := 3000) (pts := cp_243) hT.1 (fun _ h => absurd h List.not_mem_nil) (by decide +kernel)
/-- X11_water -/
def cc_244 : k_C := (262, [(2, 50, 0), (0, -2147483648, 2147483647), (0, -2147483648, 2147483647)], [], some (0, 0, 1), [(50, 0), (56, 0)], 1, 22)
def cp_244 : List k_Pt := []
theorem sat_244 {l : Launch} {D : va_G} {tys : List (ClassId × FieldType)} {A : Nat → Prop} {X : State → Prop} {Sg : Nat → Option Nat} {cA : Nat → ClassId} (hT : k_TX tys cA A X) : k_sat l D tys A X Sg cA Lb cc_244 := k_keeps_ok (cs := []) (inl := pg_in) (fuel := 3000) (pts := cp_244) hT.1 (fun _ h => absurd h List.not_mem_nil) (by decide +kernel)
/-- X11_turn -/
def cc_245 : k_C := (255, [(2, 50, 0), (0, -2147483648, 2147483647), (0, -2147483648, 2147483647)], [], some (0, -2147483648, 2147483647), [(50, 0), (56, 0)], 1, 22)
def cp_245 : List k_Pt := []
theorem sat_245 {l : Launch} {D : va_G} {tys : List (ClassId × FieldType)} {A : Nat → Prop} {X : State → Prop} {Sg : Nat → Option Nat} {cA : Nat → ClassId} (hT : k_TX tys cA A X) : k_sat l D tys A X Sg cA Lb cc_245 := k_keeps_ok (cs := []) (inl := pg_in) (fuel := 3000) (pts := cp_245) hT.1 (fun _ h => absurd h List.not_mem_nil) (by decide +kernel)
