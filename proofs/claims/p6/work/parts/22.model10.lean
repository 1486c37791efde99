/-- bears 2 -/
def cc_120 : k_C := (163, [(2, 50, 0), (0, 2, 2)], [], some (0, -2147483648, 2147483647), [], 5, 114)
def cp_120 : List k_Pt := [(25, [(0, (2, 50, 0)), (1, (0, 2, 2)), (2, (0, -2147483648, 2147483647)), (3, (0, 0, 8))], [], [(-1, 3)], 9)]
theorem sat_120 {l : Launch} {D : va_G} {tys : List (ClassId × FieldType)} {A : Nat → Prop} {X : State → Prop} {Sg : Nat → Option Nat} {cA : Nat → ClassId} (hT : k_TX tys cA A X) : k_sat l D tys A X Sg cA Lb cc_120 := k_keeps_q (cs := [cc_111, cc_112, cc_113, cc_114, cc_115, cc_116, cc_117, cc_118, cc_119]) (inl := pg_in) (fuel := 3000) (pts := cp_120) hT.1 (List.forall_mem_cons.mpr ⟨sat_111 hT, List.forall_mem_cons.mpr ⟨sat_112 hT, List.forall_mem_cons.mpr ⟨sat_113 hT, List.forall_mem_cons.mpr ⟨sat_114 hT, List.forall_mem_cons.mpr ⟨sat_115 hT, List.forall_mem_cons.mpr ⟨sat_116 hT, List.forall_mem_cons.mpr ⟨sat_117 hT, List.forall_mem_cons.mpr ⟨sat_118 hT, List.forall_mem_cons.mpr ⟨sat_119 hT, fun _ h => absurd h List.not_mem_nil⟩⟩⟩⟩⟩⟩⟩⟩⟩) (by decide +kernel)
/-- bears 1 -/
def cc_121 : k_C := (163, [(2, 50, 0), (0, 1, 1)], [], some (0, -2147483648, 2147483647), [], 6, 137)
def cp_121 : List k_Pt := [(25, [(0, (2, 50, 0)), (1, (0, 1, 1)), (2, (0, -2147483648, 2147483647)), (3, (0, 0, 8))], [], [(-1, 3)], 9)]
theorem sat_121 {l : Launch} {D : va_G} {tys : List (ClassId × FieldType)} {A : Nat → Prop} {X : State → Prop} {Sg : Nat → Option Nat} {cA : Nat → ClassId} (hT : k_TX tys cA A X) : k_sat l D tys A X Sg cA Lb cc_121 := k_keeps_q (cs := [cc_111, cc_112, cc_113, cc_114, cc_115, cc_116, cc_117, cc_118, cc_119, cc_120]) (inl := pg_in) (fuel := 3000) (pts := cp_121) hT.1 (List.forall_mem_cons.mpr ⟨sat_111 hT, List.forall_mem_cons.mpr ⟨sat_112 hT, List.forall_mem_cons.mpr ⟨sat_113 hT, List.forall_mem_cons.mpr ⟨sat_114 hT, List.forall_mem_cons.mpr ⟨sat_115 hT, List.forall_mem_cons.mpr ⟨sat_116 hT, List.forall_mem_cons.mpr ⟨sat_117 hT, List.forall_mem_cons.mpr ⟨sat_118 hT, List.forall_mem_cons.mpr ⟨sat_119 hT, List.forall_mem_cons.mpr ⟨sat_120 hT, fun _ h => absurd h List.not_mem_nil⟩⟩⟩⟩⟩⟩⟩⟩⟩⟩) (by decide +kernel)
/-- bears 0 -/
def cc_122 : k_C := (163, [(2, 50, 0), (0, 0, 0)], [], some (0, -2147483648, 2147483647), [], 6, 137)
def cp_122 : List k_Pt := [(25, [(0, (2, 50, 0)), (1, (0, 0, 0)), (2, (0, -2147483648, 2147483647)), (3, (0, 0, 8))], [], [(-1, 3)], 9)]
theorem sat_122 {l : Launch} {D : va_G} {tys : List (ClassId × FieldType)} {A : Nat → Prop} {X : State → Prop} {Sg : Nat → Option Nat} {cA : Nat → ClassId} (hT : k_TX tys cA A X) : k_sat l D tys A X Sg cA Lb cc_122 := k_keeps_q (cs := [cc_111, cc_112, cc_113, cc_114, cc_115, cc_116, cc_117, cc_118, cc_119, cc_120, cc_121]) (inl := pg_in) (fuel := 3000) (pts := cp_122) hT.1 (List.forall_mem_cons.mpr ⟨sat_111 hT, List.forall_mem_cons.mpr ⟨sat_112 hT, List.forall_mem_cons.mpr ⟨sat_113 hT, List.forall_mem_cons.mpr ⟨sat_114 hT, List.forall_mem_cons.mpr ⟨sat_115 hT, List.forall_mem_cons.mpr ⟨sat_116 hT, List.forall_mem_cons.mpr ⟨sat_117 hT, List.forall_mem_cons.mpr ⟨sat_118 hT, List.forall_mem_cons.mpr ⟨sat_119 hT, List.forall_mem_cons.mpr ⟨sat_120 hT, List.forall_mem_cons.mpr ⟨sat_121 hT, fun _ h => absurd h List.not_mem_nil⟩⟩⟩⟩⟩⟩⟩⟩⟩⟩⟩) (by decide +kernel)
/-- bears 0, large -/
def cc_123 : k_C := (163, [(2, 50, 0), (0, 0, 0)], [], some (0, -2147483648, 2147483647), [], 6, 137)
theorem sat_123 {l : Launch} {D : va_G} {tys : List (ClassId × FieldType)} {A : Nat → Prop} {X : State → Prop} {Sg : Nat → Option Nat} {cA : Nat → ClassId} (hT : k_TX tys cA A X) : k_sat l D tys A X Sg cA Lb cc_123 := k_sat_room (sat_122 hT) (by decide) (by decide)
/-- bears 1, large -/
def cc_124 : k_C := (163, [(2, 50, 0), (0, 1, 1)], [], some (0, -2147483648, 2147483647), [], 6, 137)
theorem sat_124 {l : Launch} {D : va_G} {tys : List (ClassId × FieldType)} {A : Nat → Prop} {X : State → Prop} {Sg : Nat → Option Nat} {cA : Nat → ClassId} (hT : k_TX tys cA A X) : k_sat l D tys A X Sg cA Lb cc_124 := k_sat_room (sat_121 hT) (by decide) (by decide)
/-- bears 2, large -/
def cc_125 : k_C := (163, [(2, 50, 0), (0, 2, 2)], [], some (0, -2147483648, 2147483647), [], 6, 137)
theorem sat_125 {l : Launch} {D : va_G} {tys : List (ClassId × FieldType)} {A : Nat → Prop} {X : State → Prop} {Sg : Nat → Option Nat} {cA : Nat → ClassId} (hT : k_TX tys cA A X) : k_sat l D tys A X Sg cA Lb cc_125 := k_sat_room (sat_120 hT) (by decide) (by decide)
/-- bears 3, large -/
def cc_126 : k_C := (163, [(2, 50, 0), (0, 3, 3)], [], some (0, -2147483648, 2147483647), [], 6, 137)
theorem sat_126 {l : Launch} {D : va_G} {tys : List (ClassId × FieldType)} {A : Nat → Prop} {X : State → Prop} {Sg : Nat → Option Nat} {cA : Nat → ClassId} (hT : k_TX tys cA A X) : k_sat l D tys A X Sg cA Lb cc_126 := k_sat_room (sat_119 hT) (by decide) (by decide)
/-- bears 4, large -/
def cc_127 : k_C := (163, [(2, 50, 0), (0, 4, 4)], [], some (0, -2147483648, 2147483647), [], 6, 137)
theorem sat_127 {l : Launch} {D : va_G} {tys : List (ClassId × FieldType)} {A : Nat → Prop} {X : State → Prop} {Sg : Nat → Option Nat} {cA : Nat → ClassId} (hT : k_TX tys cA A X) : k_sat l D tys A X Sg cA Lb cc_127 := k_sat_room (sat_118 hT) (by decide) (by decide)
/-- bears 5, large -/
def cc_128 : k_C := (163, [(2, 50, 0), (0, 5, 5)], [], some (0, -2147483648, 2147483647), [], 6, 137)
theorem sat_128 {l : Launch} {D : va_G} {tys : List (ClassId × FieldType)} {A : Nat → Prop} {X : State → Prop} {Sg : Nat → Option Nat} {cA : Nat → ClassId} (hT : k_TX tys cA A X) : k_sat l D tys A X Sg cA Lb cc_128 := k_sat_room (sat_117 hT) (by decide) (by decide)
/-- bears 6, large -/
def cc_129 : k_C := (163, [(2, 50, 0), (0, 6, 6)], [], some (0, -2147483648, 2147483647), [], 6, 137)
theorem sat_129 {l : Launch} {D : va_G} {tys : List (ClassId × FieldType)} {A : Nat → Prop} {X : State → Prop} {Sg : Nat → Option Nat} {cA : Nat → ClassId} (hT : k_TX tys cA A X) : k_sat l D tys A X Sg cA Lb cc_129 := k_sat_room (sat_116 hT) (by decide) (by decide)
/-- bears 7, large -/
def cc_130 : k_C := (163, [(2, 50, 0), (0, 7, 7)], [], some (0, -2147483648, 2147483647), [], 6, 137)
theorem sat_130 {l : Launch} {D : va_G} {tys : List (ClassId × FieldType)} {A : Nat → Prop} {X : State → Prop} {Sg : Nat → Option Nat} {cA : Nat → ClassId} (hT : k_TX tys cA A X) : k_sat l D tys A X Sg cA Lb cc_130 := k_sat_room (sat_115 hT) (by decide) (by decide)
/-- bears 8, large -/
def cc_131 : k_C := (163, [(2, 50, 0), (0, 8, 8)], [], some (0, -2147483648, 2147483647), [], 6, 137)
theorem sat_131 {l : Launch} {D : va_G} {tys : List (ClassId × FieldType)} {A : Nat → Prop} {X : State → Prop} {Sg : Nat → Option Nat} {cA : Nat → ClassId} (hT : k_TX tys cA A X) : k_sat l D tys A X Sg cA Lb cc_131 := k_sat_room (sat_114 hT) (by decide) (by decide)
