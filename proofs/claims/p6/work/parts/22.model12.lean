/-- X11_gallery -/
def cc_144 : k_C := (185, [(2, 50, 0), (0, -2147483648, 2147483647)], [], some (0, -1, 17), [(50, 0), (50, 32), (59, 0)], 1, 22)
def cp_144 : List k_Pt := []
theorem sat_144 {l : Launch} {D : va_G} {tys : List (ClassId × FieldType)} {A : Nat → Prop} {X : State → Prop} {Sg : Nat → Option Nat} {cA : Nat → ClassId} (hT : k_TX tys cA A X) : k_sat l D tys A X Sg cA Lb cc_144 := k_keeps_q (cs := []) (inl := pg_in) (fuel := 3000) (pts := cp_144) hT.1 (fun _ h => absurd h List.not_mem_nil) (by decide +kernel)
/-- X11_beside -/
def cc_145 : k_C := (165, [(2, 50, 0), (0, -2147483648, 2147483647), (0, -2147483648, 2147483647), (0, 0, 1)], [], some (0, 0, 1), [(50, 0), (65, 0)], 3, 64)
def cp_145 : List k_Pt := []
theorem sat_145 {l : Launch} {D : va_G} {tys : List (ClassId × FieldType)} {A : Nat → Prop} {X : State → Prop} {Sg : Nat → Option Nat} {cA : Nat → ClassId} (hT : k_TX tys cA A X) : k_sat l D tys A X Sg cA Lb cc_145 := k_keeps_q (cs := []) (inl := pg_in) (fuel := 3000) (pts := cp_145) hT.1 (fun _ h => absurd h List.not_mem_nil) (by decide +kernel)
/-- X11_meets -/
def cc_146 : k_C := (214, [(2, 50, 0), (0, 0, 17), (0, 0, 17)], [], some (0, 0, 1), [], 8, 177)
def cp_146 : List k_Pt := []
theorem sat_146 {l : Launch} {D : va_G} {tys : List (ClassId × FieldType)} {A : Nat → Prop} {X : State → Prop} {Sg : Nat → Option Nat} {cA : Nat → ClassId} (hT : k_TX tys cA A X) : k_sat l D tys A X Sg cA Lb cc_146 := k_keeps_q (cs := [cc_104, cc_105, cc_106, cc_107, cc_108, cc_109, cc_110]) (inl := pg_in) (fuel := 3000) (pts := cp_146) hT.1 (List.forall_mem_cons.mpr ⟨sat_104 hT, List.forall_mem_cons.mpr ⟨sat_105 hT, List.forall_mem_cons.mpr ⟨sat_106 hT, List.forall_mem_cons.mpr ⟨sat_107 hT, List.forall_mem_cons.mpr ⟨sat_108 hT, List.forall_mem_cons.mpr ⟨sat_109 hT, List.forall_mem_cons.mpr ⟨sat_110 hT, fun _ h => absurd h List.not_mem_nil⟩⟩⟩⟩⟩⟩⟩) (by decide +kernel)
/-- X11_meet -/
def cc_147 : k_C := (213, [(2, 50, 0), (0, -2147483648, 2147483647), (0, -2147483648, 2147483647)], [], some (0, -1, 1), [(50, 0)], 9, 199)
def cp_147 : List k_Pt := []
theorem sat_147 {l : Launch} {D : va_G} {tys : List (ClassId × FieldType)} {A : Nat → Prop} {X : State → Prop} {Sg : Nat → Option Nat} {cA : Nat → ClassId} (hT : k_TX tys cA A X) : k_sat l D tys A X Sg cA Lb cc_147 := k_keeps_q (cs := [cc_146]) (inl := pg_in) (fuel := 3000) (pts := cp_147) hT.1 (List.forall_mem_cons.mpr ⟨sat_146 hT, fun _ h => absurd h List.not_mem_nil⟩) (by decide +kernel)
/-- X11_person -/
def cc_148 : k_C := (228, [(2, 50, 0), (0, -2147483648, 2147483647), (0, -2147483648, 2147483647)], [], some (0, -1, 7), [(50, 0), (50, 33), (56, 0), (62, 0)], 2, 42)
def cp_148 : List k_Pt := []
theorem sat_148 {l : Launch} {D : va_G} {tys : List (ClassId × FieldType)} {A : Nat → Prop} {X : State → Prop} {Sg : Nat → Option Nat} {cA : Nat → ClassId} (hT : k_TX tys cA A X) : k_sat l D tys A X Sg cA Lb cc_148 := k_keeps_q (cs := []) (inl := pg_in) (fuel := 3000) (pts := cp_148) hT.1 (fun _ h => absurd h List.not_mem_nil) (by decide +kernel)
/-- X11_steps -/
def cc_149 : k_C := (243, [(2, 50, 0), (0, 0, 7), (0, -2147483648, 2147483647)], [], some (0, 0, 1), [(56, 0)], 9, 199)
def cp_149 : List k_Pt := []
theorem sat_149 {l : Launch} {D : va_G} {tys : List (ClassId × FieldType)} {A : Nat → Prop} {X : State → Prop} {Sg : Nat → Option Nat} {cA : Nat → ClassId} (hT : k_TX tys cA A X) : k_sat l D tys A X Sg cA Lb cc_149 := k_keeps_q (cs := [cc_146]) (inl := pg_in) (fuel := 3000) (pts := cp_149) hT.1 (List.forall_mem_cons.mpr ⟨sat_146 hT, fun _ h => absurd h List.not_mem_nil⟩) (by decide +kernel)
/-- X11_step -/
def cc_150 : k_C := (242, [(2, 50, 0), (0, -2147483648, 2147483647), (0, -2147483648, 2147483647)], [], some (0, 0, 1), [(50, 0), (56, 0)], 10, 222)
def cp_150 : List k_Pt := []
theorem sat_150 {l : Launch} {D : va_G} {tys : List (ClassId × FieldType)} {A : Nat → Prop} {X : State → Prop} {Sg : Nat → Option Nat} {cA : Nat → ClassId} (hT : k_TX tys cA A X) : k_sat l D tys A X Sg cA Lb cc_150 := k_keeps_q (cs := [cc_149]) (inl := pg_in) (fuel := 3000) (pts := cp_150) hT.1 (List.forall_mem_cons.mpr ⟨sat_149 hT, fun _ h => absurd h List.not_mem_nil⟩) (by decide +kernel)
/-- X11_where -/
def cc_151 : k_C := (264, [(2, 50, 0), (0, -2147483648, 2147483647)], [], some (0, -2147483648, 2147483647), [(50, 0)], 1, 21)
def cp_151 : List k_Pt := []
theorem sat_151 {l : Launch} {D : va_G} {tys : List (ClassId × FieldType)} {A : Nat → Prop} {X : State → Prop} {Sg : Nat → Option Nat} {cA : Nat → ClassId} (hT : k_TX tys cA A X) : k_sat l D tys A X Sg cA Lb cc_151 := k_keeps_q (cs := []) (inl := pg_in) (fuel := 3000) (pts := cp_151) hT.1 (fun _ h => absurd h List.not_mem_nil) (by decide +kernel)
/-- X11_areTwo -/
def cc_152 : k_C := (160, [(2, 50, 0), (0, 0, 17), (0, 0, 17)], [], some (0, 0, 1), [], 3, 100)
def cp_152 : List k_Pt := []
theorem sat_152 {l : Launch} {D : va_G} {tys : List (ClassId × FieldType)} {A : Nat → Prop} {X : State → Prop} {Sg : Nat → Option Nat} {cA : Nat → ClassId} (hT : k_TX tys cA A X) : k_sat l D tys A X Sg cA Lb cc_152 := k_keeps_q (cs := []) (inl := pg_in) (fuel := 3000) (pts := cp_152) hT.1 (fun _ h => absurd h List.not_mem_nil) (by decide +kernel)
/-- X11_spread -/
def cc_153 : k_C := (241, [(2, 50, 0), (0, -2147483648, 2147483647)], [], some (0, -2147483648, 2147483647), [], 20, 900)
theorem sat_153 {l : Launch} {D : va_G} {tys : List (ClassId × FieldType)} {A : Nat → Prop} {X : State → Prop} {Sg : Nat → Option Nat} {cA : Nat → ClassId} (hT : k_TX tys cA A X) : k_sat l D tys A X Sg cA Lb cc_153 := hand_X11_spread hT (sat_152 hT) (sat_146 hT) rfl
/-- X11_way -/
def cc_154 : k_C := (263, [(2, 50, 0), (0, -2147483648, 2147483647), (0, -2147483648, 2147483647)], [], some (0, -1, 60), [(50, 0), (50, 36), (50, 37), (56, 0), (57, 0)], 21, 925)
def cp_154 : List k_Pt := [(37, [(0, (2, 50, 0)), (1, (0, 0, 17)), (2, (0, 0, 17)), (3, (0, -2147483648, 2147483647)), (4, (0, -1, 60)), (5, (0, 0, 61))], [], [(-1, 5)], 62)]
theorem sat_154 {l : Launch} {D : va_G} {tys : List (ClassId × FieldType)} {A : Nat → Prop} {X : State → Prop} {Sg : Nat → Option Nat} {cA : Nat → ClassId} (hT : k_TX tys cA A X) : k_sat l D tys A X Sg cA Lb cc_154 := k_keeps_q (cs := [cc_138, cc_142, cc_143, cc_153]) (inl := pg_in) (fuel := 3000) (pts := cp_154) hT.1 (List.forall_mem_cons.mpr ⟨sat_138 hT, List.forall_mem_cons.mpr ⟨sat_142 hT, List.forall_mem_cons.mpr ⟨sat_143 hT, List.forall_mem_cons.mpr ⟨sat_153 hT, fun _ h => absurd h List.not_mem_nil⟩⟩⟩⟩) (by decide +kernel)
/-- X11_unseen -/
def cc_155 : k_C := (257, [(2, 50, 0), (0, -2147483648, 2147483647), (0, -2147483648, 2147483647), (0, -2147483648, 2147483647)], [], some (0, -1000000, 60), [(50, 0), (50, 36), (50, 37), (56, 0), (57, 0)], 9, 211)
def cp_155 : List k_Pt := [(50, [(0, (2, 50, 0)), (1, (0, 0, 11)), (2, (0, 0, 11)), (3, (0, 0, 60)), (4, (0, -1, 60)), (5, (0, 0, 61))], [], [(-1, 5)], 62)]
theorem sat_155 {l : Launch} {D : va_G} {tys : List (ClassId × FieldType)} {A : Nat → Prop} {X : State → Prop} {Sg : Nat → Option Nat} {cA : Nat → ClassId} (hT : k_TX tys cA A X) : k_sat l D tys A X Sg cA Lb cc_155 := k_keeps_q (cs := [cc_104, cc_105, cc_106, cc_107, cc_108, cc_109, cc_110, cc_138, cc_142, cc_143]) (inl := pg_in) (fuel := 3000) (pts := cp_155) hT.1 (List.forall_mem_cons.mpr ⟨sat_104 hT, List.forall_mem_cons.mpr ⟨sat_105 hT, List.forall_mem_cons.mpr ⟨sat_106 hT, List.forall_mem_cons.mpr ⟨sat_107 hT, List.forall_mem_cons.mpr ⟨sat_108 hT, List.forall_mem_cons.mpr ⟨sat_109 hT, List.forall_mem_cons.mpr ⟨sat_110 hT, List.forall_mem_cons.mpr ⟨sat_138 hT, List.forall_mem_cons.mpr ⟨sat_142 hT, List.forall_mem_cons.mpr ⟨sat_143 hT, fun _ h => absurd h List.not_mem_nil⟩⟩⟩⟩⟩⟩⟩⟩⟩⟩) (by decide +kernel)
