/-- bears 9, large -/
def cc_132 : k_C := (163, [(2, 50, 0), (0, 9, 9)], [], some (0, -2147483648, 2147483647), [], 6, 137)
theorem sat_132 {l : Launch} {D : va_G} {tys : List (ClassId × FieldType)} {A : Nat → Prop} {X : State → Prop} {Sg : Nat → Option Nat} {cA : Nat → ClassId} (hT : k_TX tys cA A X) : k_sat l D tys A X Sg cA Lb cc_132 := k_sat_room (sat_113 hT) (by decide) (by decide)
/-- bears 10, large -/
def cc_133 : k_C := (163, [(2, 50, 0), (0, 10, 10)], [], some (0, -2147483648, 2147483647), [], 6, 137)
theorem sat_133 {l : Launch} {D : va_G} {tys : List (ClassId × FieldType)} {A : Nat → Prop} {X : State → Prop} {Sg : Nat → Option Nat} {cA : Nat → ClassId} (hT : k_TX tys cA A X) : k_sat l D tys A X Sg cA Lb cc_133 := k_sat_room (sat_112 hT) (by decide) (by decide)
/-- bears 11, large -/
def cc_134 : k_C := (163, [(2, 50, 0), (0, 11, 11)], [], some (0, -2147483648, 2147483647), [], 6, 137)
theorem sat_134 {l : Launch} {D : va_G} {tys : List (ClassId × FieldType)} {A : Nat → Prop} {X : State → Prop} {Sg : Nat → Option Nat} {cA : Nat → ClassId} (hT : k_TX tys cA A X) : k_sat l D tys A X Sg cA Lb cc_134 := k_sat_room (sat_111 hT) (by decide) (by decide)
/-- bears, any -/
def cc_135 : k_C := (163, [(2, 50, 0), (0, 0, 11)], [], some (0, -2147483648, 2147483647), [], 6, 137)
theorem sat_135 {l : Launch} {D : va_G} {tys : List (ClassId × FieldType)} {A : Nat → Prop} {X : State → Prop} {Sg : Nat → Option Nat} {cA : Nat → ClassId} (hT : k_TX tys cA A X) : k_sat l D tys A X Sg cA Lb cc_135 := by
  refine k_sat_ones 1 0 11 rfl (fun v h1 h2 => ?_)
  have hv : v = 0 ∨ v = 1 ∨ v = 2 ∨ v = 3 ∨ v = 4 ∨ v = 5 ∨ v = 6 ∨ v = 7 ∨ v = 8 ∨ v = 9 ∨ v = 10 ∨ v = 11 := by omega
  rcases hv with rfl | rfl | rfl | rfl | rfl | rfl | rfl | rfl | rfl | rfl | rfl | rfl
  · exact sat_123 hT
  · exact sat_124 hT
  · exact sat_125 hT
  · exact sat_126 hT
  · exact sat_127 hT
  · exact sat_128 hT
  · exact sat_129 hT
  · exact sat_130 hT
  · exact sat_131 hT
  · exact sat_132 hT
  · exact sat_133 hT
  · exact sat_134 hT
/-- X11_pull -/
def cc_136 : k_C := (230, [(2, 50, 0), (0, 0, 5)], [], some (0, -2147483648, 2147483647), [], 7, 160)
def cp_136 : List k_Pt := []
theorem sat_136 {l : Launch} {D : va_G} {tys : List (ClassId × FieldType)} {A : Nat → Prop} {X : State → Prop} {Sg : Nat → Option Nat} {cA : Nat → ClassId} (hT : k_TX tys cA A X) : k_sat l D tys A X Sg cA Lb cc_136 := k_keeps_q (cs := [cc_111, cc_112, cc_113, cc_114, cc_115, cc_116, cc_117, cc_118, cc_119, cc_120, cc_121, cc_122, cc_135]) (inl := pg_in) (fuel := 3000) (pts := cp_136) hT.1 (List.forall_mem_cons.mpr ⟨sat_111 hT, List.forall_mem_cons.mpr ⟨sat_112 hT, List.forall_mem_cons.mpr ⟨sat_113 hT, List.forall_mem_cons.mpr ⟨sat_114 hT, List.forall_mem_cons.mpr ⟨sat_115 hT, List.forall_mem_cons.mpr ⟨sat_116 hT, List.forall_mem_cons.mpr ⟨sat_117 hT, List.forall_mem_cons.mpr ⟨sat_118 hT, List.forall_mem_cons.mpr ⟨sat_119 hT, List.forall_mem_cons.mpr ⟨sat_120 hT, List.forall_mem_cons.mpr ⟨sat_121 hT, List.forall_mem_cons.mpr ⟨sat_122 hT, List.forall_mem_cons.mpr ⟨sat_135 hT, fun _ h => absurd h List.not_mem_nil⟩⟩⟩⟩⟩⟩⟩⟩⟩⟩⟩⟩⟩) (by decide +kernel)
/-- X11_draw -/
def cc_137 : k_C := (176, [(2, 50, 0)], [], some (0, -2147483648, 2147483647), [(50, 36)], 0, 0)
def cp_137 : List k_Pt := []
theorem sat_137 {l : Launch} {D : va_G} {tys : List (ClassId × FieldType)} {A : Nat → Prop} {X : State → Prop} {Sg : Nat → Option Nat} {cA : Nat → ClassId} (hT : k_TX tys cA A X) : k_sat l D tys A X Sg cA Lb cc_137 := k_keeps_q (cs := []) (inl := pg_in) (fuel := 3000) (pts := cp_137) hT.1 (fun _ h => absurd h List.not_mem_nil) (by decide +kernel)
/-- X11_minute -/
def cc_138 : k_C := (215, [(2, 50, 0), (0, 0, 1)], [], some (0, -2147483648, 2147483647), [(50, 36), (56, 0)], 8, 183)
def cp_138 : List k_Pt := [(4, [(0, (2, 50, 0)), (1, (0, 0, 1)), (2, (0, -2147483648, 2147483647)), (3, (0, 0, 6))], [], [(-1, 3)], 7)]
theorem sat_138 {l : Launch} {D : va_G} {tys : List (ClassId × FieldType)} {A : Nat → Prop} {X : State → Prop} {Sg : Nat → Option Nat} {cA : Nat → ClassId} (hT : k_TX tys cA A X) : k_sat l D tys A X Sg cA Lb cc_138 := k_keeps_q (cs := [cc_136, cc_137]) (inl := pg_in) (fuel := 3000) (pts := cp_138) hT.1 (List.forall_mem_cons.mpr ⟨sat_136 hT, List.forall_mem_cons.mpr ⟨sat_137 hT, fun _ h => absurd h List.not_mem_nil⟩⟩) (by decide +kernel)
/-- X11_minutes -/
def cc_139 : k_C := (216, [(2, 50, 0), (0, -2147483648, 2147483647)], [], some (0, -2147483648, 2147483647), [(50, 0), (50, 36), (56, 0)], 9, 211)
def cp_139 : List k_Pt := [(28, [(0, (2, 50, 0)), (1, (0, 1, 60)), (2, (0, -2147483648, 2147483647)), (3, (0, 0, 60))], [], [(-1, 3)], 61)]
theorem sat_139 {l : Launch} {D : va_G} {tys : List (ClassId × FieldType)} {A : Nat → Prop} {X : State → Prop} {Sg : Nat → Option Nat} {cA : Nat → ClassId} (hT : k_TX tys cA A X) : k_sat l D tys A X Sg cA Lb cc_139 := k_keeps_q (cs := [cc_138]) (inl := pg_in) (fuel := 3000) (pts := cp_139) hT.1 (List.forall_mem_cons.mpr ⟨sat_138 hT, fun _ h => absurd h List.not_mem_nil⟩) (by decide +kernel)
/-- X11_rests -/
def cc_140 : k_C := (237, [(2, 50, 0)], [], some (0, -2147483648, 2147483647), [(50, 36), (56, 0)], 20, 900)
theorem sat_140 {l : Launch} {D : va_G} {tys : List (ClassId × FieldType)} {A : Nat → Prop} {X : State → Prop} {Sg : Nat → Option Nat} {cA : Nat → ClassId} (hT : k_TX tys cA A X) : k_sat l D tys A X Sg cA Lb cc_140 := hand_X11_rests hT rfl
/-- X11_rest -/
def cc_141 : k_C := (236, [(2, 50, 0)], [], some (0, -2147483648, 2147483647), [(50, 0), (50, 36), (56, 0)], 21, 921)
def cp_141 : List k_Pt := []
theorem sat_141 {l : Launch} {D : va_G} {tys : List (ClassId × FieldType)} {A : Nat → Prop} {X : State → Prop} {Sg : Nat → Option Nat} {cA : Nat → ClassId} (hT : k_TX tys cA A X) : k_sat l D tys A X Sg cA Lb cc_141 := k_keeps_q (cs := [cc_140]) (inl := pg_in) (fuel := 3000) (pts := cp_141) hT.1 (List.forall_mem_cons.mpr ⟨sat_140 hT, fun _ h => absurd h List.not_mem_nil⟩) (by decide +kernel)
/-- X11_keeps -/
def cc_142 : k_C := (208, [(2, 50, 0)], [], none, [(50, 37), (57, 0)], 0, 0)
def cp_142 : List k_Pt := []
theorem sat_142 {l : Launch} {D : va_G} {tys : List (ClassId × FieldType)} {A : Nat → Prop} {X : State → Prop} {Sg : Nat → Option Nat} {cA : Nat → ClassId} (hT : k_TX tys cA A X) : k_sat l D tys A X Sg cA Lb cc_142 := k_keeps_q (cs := []) (inl := pg_in) (fuel := 3000) (pts := cp_142) hT.1 (fun _ h => absurd h List.not_mem_nil) (by decide +kernel)
/-- X11_putBack -/
def cc_143 : k_C := (232, [(2, 50, 0)], [], none, [(50, 36), (56, 0)], 0, 0)
def cp_143 : List k_Pt := []
theorem sat_143 {l : Launch} {D : va_G} {tys : List (ClassId × FieldType)} {A : Nat → Prop} {X : State → Prop} {Sg : Nat → Option Nat} {cA : Nat → ClassId} (hT : k_TX tys cA A X) : k_sat l D tys A X Sg cA Lb cc_143 := k_keeps_q (cs := []) (inl := pg_in) (fuel := 3000) (pts := cp_143) hT.1 (fun _ h => absurd h List.not_mem_nil) (by decide +kernel)
