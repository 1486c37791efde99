/-- height 1 -/
def cc_104 : k_C := (192, [(2, 50, 0), (0, -1, 1)], [], some (0, -2147483648, 2147483647), [], 2, 45)
def cp_104 : List k_Pt := []
theorem sat_104 {l : Launch} {D : va_G} {tys : List (ClassId × FieldType)} {A : Nat → Prop} {X : State → Prop} {Sg : Nat → Option Nat} {cA : Nat → ClassId} (hT : k_TX tys cA A X) : k_sat l D tys A X Sg cA Lb cc_104 := k_keeps_q (cs := []) (inl := pg_in) (fuel := 3000) (pts := cp_104) hT.1 (fun _ h => absurd h List.not_mem_nil) (by decide +kernel)
/-- height 2 -/
def cc_105 : k_C := (192, [(2, 50, 0), (0, -1, 3)], [], some (0, -2147483648, 2147483647), [], 3, 67)
def cp_105 : List k_Pt := []
theorem sat_105 {l : Launch} {D : va_G} {tys : List (ClassId × FieldType)} {A : Nat → Prop} {X : State → Prop} {Sg : Nat → Option Nat} {cA : Nat → ClassId} (hT : k_TX tys cA A X) : k_sat l D tys A X Sg cA Lb cc_105 := k_keeps_q (cs := [cc_104]) (inl := pg_in) (fuel := 3000) (pts := cp_105) hT.1 (List.forall_mem_cons.mpr ⟨sat_104 hT, fun _ h => absurd h List.not_mem_nil⟩) (by decide +kernel)
/-- height 3 -/
def cc_106 : k_C := (192, [(2, 50, 0), (0, -1, 5)], [], some (0, -2147483648, 2147483647), [], 4, 89)
def cp_106 : List k_Pt := []
theorem sat_106 {l : Launch} {D : va_G} {tys : List (ClassId × FieldType)} {A : Nat → Prop} {X : State → Prop} {Sg : Nat → Option Nat} {cA : Nat → ClassId} (hT : k_TX tys cA A X) : k_sat l D tys A X Sg cA Lb cc_106 := k_keeps_q (cs := [cc_104, cc_105]) (inl := pg_in) (fuel := 3000) (pts := cp_106) hT.1 (List.forall_mem_cons.mpr ⟨sat_104 hT, List.forall_mem_cons.mpr ⟨sat_105 hT, fun _ h => absurd h List.not_mem_nil⟩⟩) (by decide +kernel)
/-- height 4 -/
def cc_107 : k_C := (192, [(2, 50, 0), (0, -1, 7)], [], some (0, -2147483648, 2147483647), [], 5, 111)
def cp_107 : List k_Pt := []
theorem sat_107 {l : Launch} {D : va_G} {tys : List (ClassId × FieldType)} {A : Nat → Prop} {X : State → Prop} {Sg : Nat → Option Nat} {cA : Nat → ClassId} (hT : k_TX tys cA A X) : k_sat l D tys A X Sg cA Lb cc_107 := k_keeps_q (cs := [cc_104, cc_105, cc_106]) (inl := pg_in) (fuel := 3000) (pts := cp_107) hT.1 (List.forall_mem_cons.mpr ⟨sat_104 hT, List.forall_mem_cons.mpr ⟨sat_105 hT, List.forall_mem_cons.mpr ⟨sat_106 hT, fun _ h => absurd h List.not_mem_nil⟩⟩⟩) (by decide +kernel)
