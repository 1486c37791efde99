/-- X11_brake -/
def cc_252 : k_C := (167, [(2, 50, 0), (0, -2147483648, 2147483647), (0, 0, 1)], [], some (0, 0, 1), [(50, 0), (56, 0)], 1, 21)
def cp_252 : List k_Pt := []
theorem sat_252 {l : Launch} {D : va_G} {tys : List (ClassId × FieldType)} {A : Nat → Prop} {X : State → Prop} {Sg : Nat → Option Nat} {cA : Nat → ClassId} (hT : k_TX tys cA A X) : k_sat l D tys A X Sg cA Lb cc_252 := k_keeps_q (cs := []) (inl := pg_in) (fuel := 3000) (pts := cp_252) hT.1 (fun _ h => absurd h List.not_mem_nil) (by decide +kernel)
/-- X11_water -/
def cc_253 : k_C := (262, [(2, 50, 0), (0, -2147483648, 2147483647), (0, -2147483648, 2147483647)], [], some (0, 0, 1), [(50, 0), (56, 0)], 1, 22)
def cp_253 : List k_Pt := []
theorem sat_253 {l : Launch} {D : va_G} {tys : List (ClassId × FieldType)} {A : Nat → Prop} {X : State → Prop} {Sg : Nat → Option Nat} {cA : Nat → ClassId} (hT : k_TX tys cA A X) : k_sat l D tys A X Sg cA Lb cc_253 := k_keeps_q (cs := []) (inl := pg_in) (fuel := 3000) (pts := cp_253) hT.1 (fun _ h => absurd h List.not_mem_nil) (by decide +kernel)
/-- X11_turn -/
def cc_254 : k_C := (255, [(2, 50, 0), (0, -2147483648, 2147483647), (0, -2147483648, 2147483647)], [], some (0, -1, 20), [(50, 0), (56, 0)], 1, 22)
def cp_254 : List k_Pt := []
theorem sat_254 {l : Launch} {D : va_G} {tys : List (ClassId × FieldType)} {A : Nat → Prop} {X : State → Prop} {Sg : Nat → Option Nat} {cA : Nat → ClassId} (hT : k_TX tys cA A X) : k_sat l D tys A X Sg cA Lb cc_254 := k_keeps_q (cs := []) (inl := pg_in) (fuel := 3000) (pts := cp_254) hT.1 (fun _ h => absurd h List.not_mem_nil) (by decide +kernel)
