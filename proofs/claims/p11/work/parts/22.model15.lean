/-- goPails 1 -/
def cc_180 : k_C := (187, [(2, 50, 0), (0, 1, 1), (0, -4, 4)], [(0, 20, (0, 1, 6))], some (0, 0, 1), [(50, 36), (50, 37), (56, 0), (57, 0), (66, 0)], 36, 1275)
def cp_180 : List k_Pt := [(29, [(0, (2, 50, 0)), (1, (0, 1, 1)), (2, (0, -4, 4)), (3, (0, -5, 4))], [(0, 20, (0, 1, 6))], [(1, 3)], 6)]
theorem sat_180 {l : Launch} {D : va_G} {tys : List (ClassId × FieldType)} {A : Nat → Prop} {X : State → Prop} {Sg : Nat → Option Nat} {cA : Nat → ClassId} (hT : k_TX tys cA A X) : k_sat l D tys A X Sg cA Lb cc_180 := k_keeps_ok (cs := [cc_168, cc_169, cc_170, cc_171, cc_172, cc_173, cc_174, cc_175, cc_176, cc_177, cc_178, cc_179]) (inl := pg_in) (fuel := 3000) (pts := cp_180) hT.1 (List.forall_mem_cons.mpr ⟨sat_168 hT, List.forall_mem_cons.mpr ⟨sat_169 hT, List.forall_mem_cons.mpr ⟨sat_170 hT, List.forall_mem_cons.mpr ⟨sat_171 hT, List.forall_mem_cons.mpr ⟨sat_172 hT, List.forall_mem_cons.mpr ⟨sat_173 hT, List.forall_mem_cons.mpr ⟨sat_174 hT, List.forall_mem_cons.mpr ⟨sat_175 hT, List.forall_mem_cons.mpr ⟨sat_176 hT, List.forall_mem_cons.mpr ⟨sat_177 hT, List.forall_mem_cons.mpr ⟨sat_178 hT, List.forall_mem_cons.mpr ⟨sat_179 hT, fun _ h => absurd h List.not_mem_nil⟩⟩⟩⟩⟩⟩⟩⟩⟩⟩⟩⟩) (by decide +kernel)
/-- goPails 0 -/
def cc_181 : k_C := (187, [(2, 50, 0), (0, 0, 0), (0, 0, 4)], [], some (0, 0, 1), [(50, 36), (50, 37), (56, 0), (57, 0), (66, 0)], 37, 1298)
def cp_181 : List k_Pt := [(29, [(0, (2, 50, 0)), (1, (0, 0, 0)), (2, (0, 0, 4)), (3, (0, -5, 4))], [(0, 20, (0, 1, 6))], [(1, 3)], 6)]
theorem sat_181 {l : Launch} {D : va_G} {tys : List (ClassId × FieldType)} {A : Nat → Prop} {X : State → Prop} {Sg : Nat → Option Nat} {cA : Nat → ClassId} (hT : k_TX tys cA A X) : k_sat l D tys A X Sg cA Lb cc_181 := k_keeps_ok (cs := [cc_168, cc_169, cc_170, cc_171, cc_172, cc_173, cc_174, cc_175, cc_176, cc_177, cc_178, cc_179, cc_180]) (inl := pg_in) (fuel := 3000) (pts := cp_181) hT.1 (List.forall_mem_cons.mpr ⟨sat_168 hT, List.forall_mem_cons.mpr ⟨sat_169 hT, List.forall_mem_cons.mpr ⟨sat_170 hT, List.forall_mem_cons.mpr ⟨sat_171 hT, List.forall_mem_cons.mpr ⟨sat_172 hT, List.forall_mem_cons.mpr ⟨sat_173 hT, List.forall_mem_cons.mpr ⟨sat_174 hT, List.forall_mem_cons.mpr ⟨sat_175 hT, List.forall_mem_cons.mpr ⟨sat_176 hT, List.forall_mem_cons.mpr ⟨sat_177 hT, List.forall_mem_cons.mpr ⟨sat_178 hT, List.forall_mem_cons.mpr ⟨sat_179 hT, List.forall_mem_cons.mpr ⟨sat_180 hT, fun _ h => absurd h List.not_mem_nil⟩⟩⟩⟩⟩⟩⟩⟩⟩⟩⟩⟩⟩) (by decide +kernel)
/-- X11_pails -/
def cc_182 : k_C := (226, [(2, 50, 0), (0, -2147483648, 2147483647)], [], some (0, -1000000, 4), [(50, 0), (50, 36), (50, 37), (56, 0), (57, 0), (66, 0)], 38, 1321)
def cp_182 : List k_Pt := [(31, [(0, (2, 50, 0)), (1, (0, -1, 11)), (2, (0, 0, 5))], [], [(-1, 2)], 6)]
theorem sat_182 {l : Launch} {D : va_G} {tys : List (ClassId × FieldType)} {A : Nat → Prop} {X : State → Prop} {Sg : Nat → Option Nat} {cA : Nat → ClassId} (hT : k_TX tys cA A X) : k_sat l D tys A X Sg cA Lb cc_182 := k_keeps_ok (cs := [cc_169, cc_170, cc_171, cc_172, cc_173, cc_174, cc_175, cc_176, cc_177, cc_178, cc_179, cc_180, cc_181]) (inl := pg_in) (fuel := 3000) (pts := cp_182) hT.1 (List.forall_mem_cons.mpr ⟨sat_169 hT, List.forall_mem_cons.mpr ⟨sat_170 hT, List.forall_mem_cons.mpr ⟨sat_171 hT, List.forall_mem_cons.mpr ⟨sat_172 hT, List.forall_mem_cons.mpr ⟨sat_173 hT, List.forall_mem_cons.mpr ⟨sat_174 hT, List.forall_mem_cons.mpr ⟨sat_175 hT, List.forall_mem_cons.mpr ⟨sat_176 hT, List.forall_mem_cons.mpr ⟨sat_177 hT, List.forall_mem_cons.mpr ⟨sat_178 hT, List.forall_mem_cons.mpr ⟨sat_179 hT, List.forall_mem_cons.mpr ⟨sat_180 hT, List.forall_mem_cons.mpr ⟨sat_181 hT, fun _ h => absurd h List.not_mem_nil⟩⟩⟩⟩⟩⟩⟩⟩⟩⟩⟩⟩⟩) (by decide +kernel)
/-- X11_isBefore -/
def cc_183 : k_C := (197, [(0, -2147483648, 2147483647), (0, -2147483648, 2147483647)], [], some (0, 0, 1), [], 1, 20)
def cp_183 : List k_Pt := []
theorem sat_183 {l : Launch} {D : va_G} {tys : List (ClassId × FieldType)} {A : Nat → Prop} {X : State → Prop} {Sg : Nat → Option Nat} {cA : Nat → ClassId} (hT : k_TX tys cA A X) : k_sat l D tys A X Sg cA Lb cc_183 := k_keeps_ok (cs := []) (inl := pg_in) (fuel := 3000) (pts := cp_183) hT.1 (fun _ h => absurd h List.not_mem_nil) (by decide +kernel)
/-- outOn 11 -/
def cc_184 : k_C := (225, [(2, 50, 0), (0, 11, 11), (0, -2147483648, 2147483647)], [], some (0, 0, 0), [], 1, 22)
def cp_184 : List k_Pt := []
theorem sat_184 {l : Launch} {D : va_G} {tys : List (ClassId × FieldType)} {A : Nat → Prop} {X : State → Prop} {Sg : Nat → Option Nat} {cA : Nat → ClassId} (hT : k_TX tys cA A X) : k_sat l D tys A X Sg cA Lb cc_184 := k_keeps_ok (cs := []) (inl := pg_in) (fuel := 3000) (pts := cp_184) hT.1 (fun _ h => absurd h List.not_mem_nil) (by decide +kernel)
/-- outOn 10 -/
def cc_185 : k_C := (225, [(2, 50, 0), (0, 10, 10), (0, -2147483648, 2147483647)], [], some (0, 0, 0), [], 1, 22)
def cp_185 : List k_Pt := []
theorem sat_185 {l : Launch} {D : va_G} {tys : List (ClassId × FieldType)} {A : Nat → Prop} {X : State → Prop} {Sg : Nat → Option Nat} {cA : Nat → ClassId} (hT : k_TX tys cA A X) : k_sat l D tys A X Sg cA Lb cc_185 := k_keeps_ok (cs := []) (inl := pg_in) (fuel := 3000) (pts := cp_185) hT.1 (fun _ h => absurd h List.not_mem_nil) (by decide +kernel)
/-- outOf 5 -/
def cc_186 : k_C := (224, [(2, 50, 0), (0, 5, 5), (0, -2147483648, 2147483647)], [], some (0, -1, 3072), [], 2, 46)
def cp_186 : List k_Pt := [(5, [(0, (2, 50, 0)), (1, (0, 5, 5)), (2, (0, -2147483648, 2147483647)), (3, (0, -1, 3072)), (4, (0, 0, 22))], [], [(-1, 4)], 23)]
theorem sat_186 {l : Launch} {D : va_G} {tys : List (ClassId × FieldType)} {A : Nat → Prop} {X : State → Prop} {Sg : Nat → Option Nat} {cA : Nat → ClassId} (hT : k_TX tys cA A X) : k_sat l D tys A X Sg cA Lb cc_186 := k_keeps_ok (cs := [cc_183, cc_184, cc_185]) (inl := pg_in) (fuel := 3000) (pts := cp_186) hT.1 (List.forall_mem_cons.mpr ⟨sat_183 hT, List.forall_mem_cons.mpr ⟨sat_184 hT, List.forall_mem_cons.mpr ⟨sat_185 hT, fun _ h => absurd h List.not_mem_nil⟩⟩⟩) (by decide +kernel)
/-- outOn 9 -/
def cc_187 : k_C := (225, [(2, 50, 0), (0, 9, 9), (0, -2147483648, 2147483647)], [], some (0, -2147483648, 2147483647), [], 3, 73)
def cp_187 : List k_Pt := []
theorem sat_187 {l : Launch} {D : va_G} {tys : List (ClassId × FieldType)} {A : Nat → Prop} {X : State → Prop} {Sg : Nat → Option Nat} {cA : Nat → ClassId} (hT : k_TX tys cA A X) : k_sat l D tys A X Sg cA Lb cc_187 := k_keeps_ok (cs := [cc_186]) (inl := pg_in) (fuel := 3000) (pts := cp_187) hT.1 (List.forall_mem_cons.mpr ⟨sat_186 hT, fun _ h => absurd h List.not_mem_nil⟩) (by decide +kernel)
/-- outOn 8 -/
def cc_188 : k_C := (225, [(2, 50, 0), (0, 8, 8), (0, -2147483648, 2147483647)], [], some (0, -2147483648, 2147483647), [], 3, 73)
def cp_188 : List k_Pt := []
theorem sat_188 {l : Launch} {D : va_G} {tys : List (ClassId × FieldType)} {A : Nat → Prop} {X : State → Prop} {Sg : Nat → Option Nat} {cA : Nat → ClassId} (hT : k_TX tys cA A X) : k_sat l D tys A X Sg cA Lb cc_188 := k_keeps_ok (cs := [cc_186]) (inl := pg_in) (fuel := 3000) (pts := cp_188) hT.1 (List.forall_mem_cons.mpr ⟨sat_186 hT, fun _ h => absurd h List.not_mem_nil⟩) (by decide +kernel)
/-- outOf 4 -/
def cc_189 : k_C := (224, [(2, 50, 0), (0, 4, 4), (0, -2147483648, 2147483647)], [], some (0, -2147483648, 2147483647), [], 4, 97)
def cp_189 : List k_Pt := [(5, [(0, (2, 50, 0)), (1, (0, 4, 4)), (2, (0, -2147483648, 2147483647)), (3, (0, -2147483648, 2147483647)), (4, (0, 0, 22))], [], [(-1, 4)], 23)]
theorem sat_189 {l : Launch} {D : va_G} {tys : List (ClassId × FieldType)} {A : Nat → Prop} {X : State → Prop} {Sg : Nat → Option Nat} {cA : Nat → ClassId} (hT : k_TX tys cA A X) : k_sat l D tys A X Sg cA Lb cc_189 := k_keeps_ok (cs := [cc_183, cc_184, cc_185, cc_187, cc_188]) (inl := pg_in) (fuel := 3000) (pts := cp_189) hT.1 (List.forall_mem_cons.mpr ⟨sat_183 hT, List.forall_mem_cons.mpr ⟨sat_184 hT, List.forall_mem_cons.mpr ⟨sat_185 hT, List.forall_mem_cons.mpr ⟨sat_187 hT, List.forall_mem_cons.mpr ⟨sat_188 hT, fun _ h => absurd h List.not_mem_nil⟩⟩⟩⟩⟩) (by decide +kernel)
/-- outOn 7 -/
def cc_190 : k_C := (225, [(2, 50, 0), (0, 7, 7), (0, -2147483648, 2147483647)], [], some (0, -2147483648, 2147483647), [], 5, 124)
def cp_190 : List k_Pt := []
theorem sat_190 {l : Launch} {D : va_G} {tys : List (ClassId × FieldType)} {A : Nat → Prop} {X : State → Prop} {Sg : Nat → Option Nat} {cA : Nat → ClassId} (hT : k_TX tys cA A X) : k_sat l D tys A X Sg cA Lb cc_190 := k_keeps_ok (cs := [cc_186, cc_189]) (inl := pg_in) (fuel := 3000) (pts := cp_190) hT.1 (List.forall_mem_cons.mpr ⟨sat_186 hT, List.forall_mem_cons.mpr ⟨sat_189 hT, fun _ h => absurd h List.not_mem_nil⟩⟩) (by decide +kernel)
/-- outOn 6 -/
def cc_191 : k_C := (225, [(2, 50, 0), (0, 6, 6), (0, -2147483648, 2147483647)], [], some (0, -2147483648, 2147483647), [], 5, 124)
def cp_191 : List k_Pt := []
theorem sat_191 {l : Launch} {D : va_G} {tys : List (ClassId × FieldType)} {A : Nat → Prop} {X : State → Prop} {Sg : Nat → Option Nat} {cA : Nat → ClassId} (hT : k_TX tys cA A X) : k_sat l D tys A X Sg cA Lb cc_191 := k_keeps_ok (cs := [cc_186, cc_189]) (inl := pg_in) (fuel := 3000) (pts := cp_191) hT.1 (List.forall_mem_cons.mpr ⟨sat_186 hT, List.forall_mem_cons.mpr ⟨sat_189 hT, fun _ h => absurd h List.not_mem_nil⟩⟩) (by decide +kernel)
