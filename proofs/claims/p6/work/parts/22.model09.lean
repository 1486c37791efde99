/-- height 5 -/
def cc_108 : k_C := (192, [(2, 50, 0), (0, -1, 9)], [], some (0, -2147483648, 2147483647), [], 6, 133)
def cp_108 : List k_Pt := []
theorem sat_108 {l : Launch} {D : va_G} {tys : List (ClassId × FieldType)} {A : Nat → Prop} {X : State → Prop} {Sg : Nat → Option Nat} {cA : Nat → ClassId} (hT : k_TX tys cA A X) : k_sat l D tys A X Sg cA Lb cc_108 := k_keeps_q (cs := [cc_104, cc_105, cc_106, cc_107]) (inl := pg_in) (fuel := 3000) (pts := cp_108) hT.1 (List.forall_mem_cons.mpr ⟨sat_104 hT, List.forall_mem_cons.mpr ⟨sat_105 hT, List.forall_mem_cons.mpr ⟨sat_106 hT, List.forall_mem_cons.mpr ⟨sat_107 hT, fun _ h => absurd h List.not_mem_nil⟩⟩⟩⟩) (by decide +kernel)
/-- height 6 -/
def cc_109 : k_C := (192, [(2, 50, 0), (0, -1, 11)], [], some (0, -2147483648, 2147483647), [], 7, 155)
def cp_109 : List k_Pt := []
theorem sat_109 {l : Launch} {D : va_G} {tys : List (ClassId × FieldType)} {A : Nat → Prop} {X : State → Prop} {Sg : Nat → Option Nat} {cA : Nat → ClassId} (hT : k_TX tys cA A X) : k_sat l D tys A X Sg cA Lb cc_109 := k_keeps_q (cs := [cc_104, cc_105, cc_106, cc_107, cc_108]) (inl := pg_in) (fuel := 3000) (pts := cp_109) hT.1 (List.forall_mem_cons.mpr ⟨sat_104 hT, List.forall_mem_cons.mpr ⟨sat_105 hT, List.forall_mem_cons.mpr ⟨sat_106 hT, List.forall_mem_cons.mpr ⟨sat_107 hT, List.forall_mem_cons.mpr ⟨sat_108 hT, fun _ h => absurd h List.not_mem_nil⟩⟩⟩⟩⟩) (by decide +kernel)
/-- height any -/
def cc_110 : k_C := (192, [(2, 50, 0), (0, -1, 17)], [], some (0, -2147483648, 2147483647), [], 7, 155)
def cp_110 : List k_Pt := []
theorem sat_110 {l : Launch} {D : va_G} {tys : List (ClassId × FieldType)} {A : Nat → Prop} {X : State → Prop} {Sg : Nat → Option Nat} {cA : Nat → ClassId} (hT : k_TX tys cA A X) : k_sat l D tys A X Sg cA Lb cc_110 := k_keeps_q (cs := [cc_104, cc_105, cc_106, cc_107, cc_108, cc_109]) (inl := pg_in) (fuel := 3000) (pts := cp_110) hT.1 (List.forall_mem_cons.mpr ⟨sat_104 hT, List.forall_mem_cons.mpr ⟨sat_105 hT, List.forall_mem_cons.mpr ⟨sat_106 hT, List.forall_mem_cons.mpr ⟨sat_107 hT, List.forall_mem_cons.mpr ⟨sat_108 hT, List.forall_mem_cons.mpr ⟨sat_109 hT, fun _ h => absurd h List.not_mem_nil⟩⟩⟩⟩⟩⟩) (by decide +kernel)
/-- bears 11 -/
def cc_111 : k_C := (163, [(2, 50, 0), (0, 11, 11)], [], some (0, -2147483648, 2147483647), [], 1, 22)
def cp_111 : List k_Pt := [(25, [(0, (2, 50, 0)), (1, (0, 11, 11)), (2, (0, -2147483648, 2147483647)), (3, (0, 0, 8))], [], [(-1, 3)], 9)]
theorem sat_111 {l : Launch} {D : va_G} {tys : List (ClassId × FieldType)} {A : Nat → Prop} {X : State → Prop} {Sg : Nat → Option Nat} {cA : Nat → ClassId} (hT : k_TX tys cA A X) : k_sat l D tys A X Sg cA Lb cc_111 := k_keeps_q (cs := []) (inl := pg_in) (fuel := 3000) (pts := cp_111) hT.1 (fun _ h => absurd h List.not_mem_nil) (by decide +kernel)
/-- bears 10 -/
def cc_112 : k_C := (163, [(2, 50, 0), (0, 10, 10)], [], some (0, -2147483648, 2147483647), [], 1, 22)
def cp_112 : List k_Pt := [(25, [(0, (2, 50, 0)), (1, (0, 10, 10)), (2, (0, -2147483648, 2147483647)), (3, (0, 0, 8))], [], [(-1, 3)], 9)]
theorem sat_112 {l : Launch} {D : va_G} {tys : List (ClassId × FieldType)} {A : Nat → Prop} {X : State → Prop} {Sg : Nat → Option Nat} {cA : Nat → ClassId} (hT : k_TX tys cA A X) : k_sat l D tys A X Sg cA Lb cc_112 := k_keeps_q (cs := [cc_111]) (inl := pg_in) (fuel := 3000) (pts := cp_112) hT.1 (List.forall_mem_cons.mpr ⟨sat_111 hT, fun _ h => absurd h List.not_mem_nil⟩) (by decide +kernel)
/-- bears 9 -/
def cc_113 : k_C := (163, [(2, 50, 0), (0, 9, 9)], [], some (0, -2147483648, 2147483647), [], 2, 45)
def cp_113 : List k_Pt := [(25, [(0, (2, 50, 0)), (1, (0, 9, 9)), (2, (0, -2147483648, 2147483647)), (3, (0, 0, 8))], [], [(-1, 3)], 9)]
theorem sat_113 {l : Launch} {D : va_G} {tys : List (ClassId × FieldType)} {A : Nat → Prop} {X : State → Prop} {Sg : Nat → Option Nat} {cA : Nat → ClassId} (hT : k_TX tys cA A X) : k_sat l D tys A X Sg cA Lb cc_113 := k_keeps_q (cs := [cc_111, cc_112]) (inl := pg_in) (fuel := 3000) (pts := cp_113) hT.1 (List.forall_mem_cons.mpr ⟨sat_111 hT, List.forall_mem_cons.mpr ⟨sat_112 hT, fun _ h => absurd h List.not_mem_nil⟩⟩) (by decide +kernel)
/-- bears 8 -/
def cc_114 : k_C := (163, [(2, 50, 0), (0, 8, 8)], [], some (0, -2147483648, 2147483647), [], 2, 45)
def cp_114 : List k_Pt := [(25, [(0, (2, 50, 0)), (1, (0, 8, 8)), (2, (0, -2147483648, 2147483647)), (3, (0, 0, 8))], [], [(-1, 3)], 9)]
theorem sat_114 {l : Launch} {D : va_G} {tys : List (ClassId × FieldType)} {A : Nat → Prop} {X : State → Prop} {Sg : Nat → Option Nat} {cA : Nat → ClassId} (hT : k_TX tys cA A X) : k_sat l D tys A X Sg cA Lb cc_114 := k_keeps_q (cs := [cc_111, cc_112, cc_113]) (inl := pg_in) (fuel := 3000) (pts := cp_114) hT.1 (List.forall_mem_cons.mpr ⟨sat_111 hT, List.forall_mem_cons.mpr ⟨sat_112 hT, List.forall_mem_cons.mpr ⟨sat_113 hT, fun _ h => absurd h List.not_mem_nil⟩⟩⟩) (by decide +kernel)
/-- bears 7 -/
def cc_115 : k_C := (163, [(2, 50, 0), (0, 7, 7)], [], some (0, -2147483648, 2147483647), [], 3, 68)
def cp_115 : List k_Pt := [(25, [(0, (2, 50, 0)), (1, (0, 7, 7)), (2, (0, -2147483648, 2147483647)), (3, (0, 0, 8))], [], [(-1, 3)], 9)]
theorem sat_115 {l : Launch} {D : va_G} {tys : List (ClassId × FieldType)} {A : Nat → Prop} {X : State → Prop} {Sg : Nat → Option Nat} {cA : Nat → ClassId} (hT : k_TX tys cA A X) : k_sat l D tys A X Sg cA Lb cc_115 := k_keeps_q (cs := [cc_111, cc_112, cc_113, cc_114]) (inl := pg_in) (fuel := 3000) (pts := cp_115) hT.1 (List.forall_mem_cons.mpr ⟨sat_111 hT, List.forall_mem_cons.mpr ⟨sat_112 hT, List.forall_mem_cons.mpr ⟨sat_113 hT, List.forall_mem_cons.mpr ⟨sat_114 hT, fun _ h => absurd h List.not_mem_nil⟩⟩⟩⟩) (by decide +kernel)
/-- bears 6 -/
def cc_116 : k_C := (163, [(2, 50, 0), (0, 6, 6)], [], some (0, -2147483648, 2147483647), [], 3, 68)
def cp_116 : List k_Pt := [(25, [(0, (2, 50, 0)), (1, (0, 6, 6)), (2, (0, -2147483648, 2147483647)), (3, (0, 0, 8))], [], [(-1, 3)], 9)]
theorem sat_116 {l : Launch} {D : va_G} {tys : List (ClassId × FieldType)} {A : Nat → Prop} {X : State → Prop} {Sg : Nat → Option Nat} {cA : Nat → ClassId} (hT : k_TX tys cA A X) : k_sat l D tys A X Sg cA Lb cc_116 := k_keeps_q (cs := [cc_111, cc_112, cc_113, cc_114, cc_115]) (inl := pg_in) (fuel := 3000) (pts := cp_116) hT.1 (List.forall_mem_cons.mpr ⟨sat_111 hT, List.forall_mem_cons.mpr ⟨sat_112 hT, List.forall_mem_cons.mpr ⟨sat_113 hT, List.forall_mem_cons.mpr ⟨sat_114 hT, List.forall_mem_cons.mpr ⟨sat_115 hT, fun _ h => absurd h List.not_mem_nil⟩⟩⟩⟩⟩) (by decide +kernel)
/-- bears 5 -/
def cc_117 : k_C := (163, [(2, 50, 0), (0, 5, 5)], [], some (0, -2147483648, 2147483647), [], 4, 91)
def cp_117 : List k_Pt := [(25, [(0, (2, 50, 0)), (1, (0, 5, 5)), (2, (0, -2147483648, 2147483647)), (3, (0, 0, 8))], [], [(-1, 3)], 9)]
theorem sat_117 {l : Launch} {D : va_G} {tys : List (ClassId × FieldType)} {A : Nat → Prop} {X : State → Prop} {Sg : Nat → Option Nat} {cA : Nat → ClassId} (hT : k_TX tys cA A X) : k_sat l D tys A X Sg cA Lb cc_117 := k_keeps_q (cs := [cc_111, cc_112, cc_113, cc_114, cc_115, cc_116]) (inl := pg_in) (fuel := 3000) (pts := cp_117) hT.1 (List.forall_mem_cons.mpr ⟨sat_111 hT, List.forall_mem_cons.mpr ⟨sat_112 hT, List.forall_mem_cons.mpr ⟨sat_113 hT, List.forall_mem_cons.mpr ⟨sat_114 hT, List.forall_mem_cons.mpr ⟨sat_115 hT, List.forall_mem_cons.mpr ⟨sat_116 hT, fun _ h => absurd h List.not_mem_nil⟩⟩⟩⟩⟩⟩) (by decide +kernel)
/-- bears 4 -/
def cc_118 : k_C := (163, [(2, 50, 0), (0, 4, 4)], [], some (0, -2147483648, 2147483647), [], 4, 91)
def cp_118 : List k_Pt := [(25, [(0, (2, 50, 0)), (1, (0, 4, 4)), (2, (0, -2147483648, 2147483647)), (3, (0, 0, 8))], [], [(-1, 3)], 9)]
theorem sat_118 {l : Launch} {D : va_G} {tys : List (ClassId × FieldType)} {A : Nat → Prop} {X : State → Prop} {Sg : Nat → Option Nat} {cA : Nat → ClassId} (hT : k_TX tys cA A X) : k_sat l D tys A X Sg cA Lb cc_118 := k_keeps_q (cs := [cc_111, cc_112, cc_113, cc_114, cc_115, cc_116, cc_117]) (inl := pg_in) (fuel := 3000) (pts := cp_118) hT.1 (List.forall_mem_cons.mpr ⟨sat_111 hT, List.forall_mem_cons.mpr ⟨sat_112 hT, List.forall_mem_cons.mpr ⟨sat_113 hT, List.forall_mem_cons.mpr ⟨sat_114 hT, List.forall_mem_cons.mpr ⟨sat_115 hT, List.forall_mem_cons.mpr ⟨sat_116 hT, List.forall_mem_cons.mpr ⟨sat_117 hT, fun _ h => absurd h List.not_mem_nil⟩⟩⟩⟩⟩⟩⟩) (by decide +kernel)
/-- bears 3 -/
def cc_119 : k_C := (163, [(2, 50, 0), (0, 3, 3)], [], some (0, -2147483648, 2147483647), [], 5, 114)
def cp_119 : List k_Pt := [(25, [(0, (2, 50, 0)), (1, (0, 3, 3)), (2, (0, -2147483648, 2147483647)), (3, (0, 0, 8))], [], [(-1, 3)], 9)]
theorem sat_119 {l : Launch} {D : va_G} {tys : List (ClassId × FieldType)} {A : Nat → Prop} {X : State → Prop} {Sg : Nat → Option Nat} {cA : Nat → ClassId} (hT : k_TX tys cA A X) : k_sat l D tys A X Sg cA Lb cc_119 := k_keeps_q (cs := [cc_111, cc_112, cc_113, cc_114, cc_115, cc_116, cc_117, cc_118]) (inl := pg_in) (fuel := 3000) (pts := cp_119) hT.1 (List.forall_mem_cons.mpr ⟨sat_111 hT, List.forall_mem_cons.mpr ⟨sat_112 hT, List.forall_mem_cons.mpr ⟨sat_113 hT, List.forall_mem_cons.mpr ⟨sat_114 hT, List.forall_mem_cons.mpr ⟨sat_115 hT, List.forall_mem_cons.mpr ⟨sat_116 hT, List.forall_mem_cons.mpr ⟨sat_117 hT, List.forall_mem_cons.mpr ⟨sat_118 hT, fun _ h => absurd h List.not_mem_nil⟩⟩⟩⟩⟩⟩⟩⟩) (by decide +kernel)
