/-- X11_want -/
def cc_156 : k_C := (259, [(2, 50, 0), (0, -2147483648, 2147483647), (0, -2147483648, 2147483647)], [], some (0, 0, 1), [(50, 0), (60, 0)], 1, 22)
def cp_156 : List k_Pt := []
theorem sat_156 {l : Launch} {D : va_G} {tys : List (ClassId × FieldType)} {A : Nat → Prop} {X : State → Prop} {Sg : Nat → Option Nat} {cA : Nat → ClassId} (hT : k_TX tys cA A X) : k_sat l D tys A X Sg cA Lb cc_156 := k_keeps_q (cs := []) (inl := pg_in) (fuel := 3000) (pts := cp_156) hT.1 (fun _ h => absurd h List.not_mem_nil) (by decide +kernel)
/-- X11_wantedSo -/
def cc_157 : k_C := (261, [(2, 50, 0)], [], some (0, -2147483648, 2147483647), [], 8, 177)
def cp_157 : List k_Pt := [(4, [(0, (2, 50, 0)), (1, (0, -2147483648, 2147483647)), (2, (0, 0, 12))], [], [(-1, 2)], 13)]
theorem sat_157 {l : Launch} {D : va_G} {tys : List (ClassId × FieldType)} {A : Nat → Prop} {X : State → Prop} {Sg : Nat → Option Nat} {cA : Nat → ClassId} (hT : k_TX tys cA A X) : k_sat l D tys A X Sg cA Lb cc_157 := k_keeps_q (cs := [cc_104, cc_105, cc_106, cc_107, cc_108, cc_109, cc_110]) (inl := pg_in) (fuel := 3000) (pts := cp_157) hT.1 (List.forall_mem_cons.mpr ⟨sat_104 hT, List.forall_mem_cons.mpr ⟨sat_105 hT, List.forall_mem_cons.mpr ⟨sat_106 hT, List.forall_mem_cons.mpr ⟨sat_107 hT, List.forall_mem_cons.mpr ⟨sat_108 hT, List.forall_mem_cons.mpr ⟨sat_109 hT, List.forall_mem_cons.mpr ⟨sat_110 hT, fun _ h => absurd h List.not_mem_nil⟩⟩⟩⟩⟩⟩⟩) (by decide +kernel)
/-- X11_wantedMany -/
def cc_158 : k_C := (260, [(2, 50, 0)], [], some (0, -2147483648, 2147483647), [], 0, 0)
def cp_158 : List k_Pt := [(4, [(0, (2, 50, 0)), (1, (0, -2147483648, 2147483647)), (2, (0, 0, 12))], [], [(-1, 2)], 13)]
theorem sat_158 {l : Launch} {D : va_G} {tys : List (ClassId × FieldType)} {A : Nat → Prop} {X : State → Prop} {Sg : Nat → Option Nat} {cA : Nat → ClassId} (hT : k_TX tys cA A X) : k_sat l D tys A X Sg cA Lb cc_158 := k_keeps_q (cs := []) (inl := pg_in) (fuel := 3000) (pts := cp_158) hT.1 (fun _ h => absurd h List.not_mem_nil) (by decide +kernel)
/-- pails: height 1 -/
def cc_159 : k_C := (192, [(2, 50, 0), (0, -1, 1)], [], some (0, -2147483648, 2147483647), [], 2, 45)
def cp_159 : List k_Pt := []
theorem sat_159 {l : Launch} {D : va_G} {tys : List (ClassId × FieldType)} {A : Nat → Prop} {X : State → Prop} {Sg : Nat → Option Nat} {cA : Nat → ClassId} (hT : k_TX tys cA A X) : k_sat l D tys A X Sg cA Lb2 cc_159 := k_keeps_q (cs := []) (inl := pg_in) (fuel := 3000) (pts := cp_159) hT.1 (fun _ h => absurd h List.not_mem_nil) (by decide +kernel)
/-- pails: height 2 -/
def cc_160 : k_C := (192, [(2, 50, 0), (0, -1, 3)], [], some (0, -2147483648, 2147483647), [], 3, 67)
def cp_160 : List k_Pt := []
theorem sat_160 {l : Launch} {D : va_G} {tys : List (ClassId × FieldType)} {A : Nat → Prop} {X : State → Prop} {Sg : Nat → Option Nat} {cA : Nat → ClassId} (hT : k_TX tys cA A X) : k_sat l D tys A X Sg cA Lb2 cc_160 := k_keeps_q (cs := [cc_159]) (inl := pg_in) (fuel := 3000) (pts := cp_160) hT.1 (List.forall_mem_cons.mpr ⟨sat_159 hT, fun _ h => absurd h List.not_mem_nil⟩) (by decide +kernel)
/-- pails: height 3 -/
def cc_161 : k_C := (192, [(2, 50, 0), (0, -1, 5)], [], some (0, -2147483648, 2147483647), [], 4, 89)
def cp_161 : List k_Pt := []
theorem sat_161 {l : Launch} {D : va_G} {tys : List (ClassId × FieldType)} {A : Nat → Prop} {X : State → Prop} {Sg : Nat → Option Nat} {cA : Nat → ClassId} (hT : k_TX tys cA A X) : k_sat l D tys A X Sg cA Lb2 cc_161 := k_keeps_q (cs := [cc_159, cc_160]) (inl := pg_in) (fuel := 3000) (pts := cp_161) hT.1 (List.forall_mem_cons.mpr ⟨sat_159 hT, List.forall_mem_cons.mpr ⟨sat_160 hT, fun _ h => absurd h List.not_mem_nil⟩⟩) (by decide +kernel)
/-- pails: height 4 -/
def cc_162 : k_C := (192, [(2, 50, 0), (0, -1, 7)], [], some (0, -2147483648, 2147483647), [], 5, 111)
def cp_162 : List k_Pt := []
theorem sat_162 {l : Launch} {D : va_G} {tys : List (ClassId × FieldType)} {A : Nat → Prop} {X : State → Prop} {Sg : Nat → Option Nat} {cA : Nat → ClassId} (hT : k_TX tys cA A X) : k_sat l D tys A X Sg cA Lb2 cc_162 := k_keeps_q (cs := [cc_159, cc_160, cc_161]) (inl := pg_in) (fuel := 3000) (pts := cp_162) hT.1 (List.forall_mem_cons.mpr ⟨sat_159 hT, List.forall_mem_cons.mpr ⟨sat_160 hT, List.forall_mem_cons.mpr ⟨sat_161 hT, fun _ h => absurd h List.not_mem_nil⟩⟩⟩) (by decide +kernel)
/-- pails: height 5 -/
def cc_163 : k_C := (192, [(2, 50, 0), (0, -1, 9)], [], some (0, -2147483648, 2147483647), [], 6, 133)
def cp_163 : List k_Pt := []
theorem sat_163 {l : Launch} {D : va_G} {tys : List (ClassId × FieldType)} {A : Nat → Prop} {X : State → Prop} {Sg : Nat → Option Nat} {cA : Nat → ClassId} (hT : k_TX tys cA A X) : k_sat l D tys A X Sg cA Lb2 cc_163 := k_keeps_q (cs := [cc_159, cc_160, cc_161, cc_162]) (inl := pg_in) (fuel := 3000) (pts := cp_163) hT.1 (List.forall_mem_cons.mpr ⟨sat_159 hT, List.forall_mem_cons.mpr ⟨sat_160 hT, List.forall_mem_cons.mpr ⟨sat_161 hT, List.forall_mem_cons.mpr ⟨sat_162 hT, fun _ h => absurd h List.not_mem_nil⟩⟩⟩⟩) (by decide +kernel)
/-- pails: height 6 -/
def cc_164 : k_C := (192, [(2, 50, 0), (0, -1, 11)], [], some (0, -2147483648, 2147483647), [], 7, 155)
def cp_164 : List k_Pt := []
theorem sat_164 {l : Launch} {D : va_G} {tys : List (ClassId × FieldType)} {A : Nat → Prop} {X : State → Prop} {Sg : Nat → Option Nat} {cA : Nat → ClassId} (hT : k_TX tys cA A X) : k_sat l D tys A X Sg cA Lb2 cc_164 := k_keeps_q (cs := [cc_159, cc_160, cc_161, cc_162, cc_163]) (inl := pg_in) (fuel := 3000) (pts := cp_164) hT.1 (List.forall_mem_cons.mpr ⟨sat_159 hT, List.forall_mem_cons.mpr ⟨sat_160 hT, List.forall_mem_cons.mpr ⟨sat_161 hT, List.forall_mem_cons.mpr ⟨sat_162 hT, List.forall_mem_cons.mpr ⟨sat_163 hT, fun _ h => absurd h List.not_mem_nil⟩⟩⟩⟩⟩) (by decide +kernel)
/-- pails: height any -/
def cc_165 : k_C := (192, [(2, 50, 0), (0, -1, 17)], [], some (0, -2147483648, 2147483647), [], 7, 155)
def cp_165 : List k_Pt := []
theorem sat_165 {l : Launch} {D : va_G} {tys : List (ClassId × FieldType)} {A : Nat → Prop} {X : State → Prop} {Sg : Nat → Option Nat} {cA : Nat → ClassId} (hT : k_TX tys cA A X) : k_sat l D tys A X Sg cA Lb2 cc_165 := k_keeps_q (cs := [cc_159, cc_160, cc_161, cc_162, cc_163, cc_164]) (inl := pg_in) (fuel := 3000) (pts := cp_165) hT.1 (List.forall_mem_cons.mpr ⟨sat_159 hT, List.forall_mem_cons.mpr ⟨sat_160 hT, List.forall_mem_cons.mpr ⟨sat_161 hT, List.forall_mem_cons.mpr ⟨sat_162 hT, List.forall_mem_cons.mpr ⟨sat_163 hT, List.forall_mem_cons.mpr ⟨sat_164 hT, fun _ h => absurd h List.not_mem_nil⟩⟩⟩⟩⟩⟩) (by decide +kernel)
/-- pails: wantedSo -/
def cc_166 : k_C := (261, [(2, 50, 0)], [], some (0, -2147483648, 2147483647), [], 8, 177)
def cp_166 : List k_Pt := [(4, [(0, (2, 50, 0)), (1, (0, -2147483648, 2147483647)), (2, (0, 0, 12))], [], [(-1, 2)], 13)]
theorem sat_166 {l : Launch} {D : va_G} {tys : List (ClassId × FieldType)} {A : Nat → Prop} {X : State → Prop} {Sg : Nat → Option Nat} {cA : Nat → ClassId} (hT : k_TX tys cA A X) : k_sat l D tys A X Sg cA Lb2 cc_166 := k_keeps_q (cs := [cc_159, cc_160, cc_161, cc_162, cc_163, cc_164, cc_165]) (inl := pg_in) (fuel := 3000) (pts := cp_166) hT.1 (List.forall_mem_cons.mpr ⟨sat_159 hT, List.forall_mem_cons.mpr ⟨sat_160 hT, List.forall_mem_cons.mpr ⟨sat_161 hT, List.forall_mem_cons.mpr ⟨sat_162 hT, List.forall_mem_cons.mpr ⟨sat_163 hT, List.forall_mem_cons.mpr ⟨sat_164 hT, List.forall_mem_cons.mpr ⟨sat_165 hT, fun _ h => absurd h List.not_mem_nil⟩⟩⟩⟩⟩⟩⟩) (by decide +kernel)
/-- pails: wantedMany -/
def cc_167 : k_C := (260, [(2, 50, 0)], [], some (0, -2147483648, 2147483647), [], 0, 0)
def cp_167 : List k_Pt := [(4, [(0, (2, 50, 0)), (1, (0, -2147483648, 2147483647)), (2, (0, 0, 12))], [], [(-1, 2)], 13)]
theorem sat_167 {l : Launch} {D : va_G} {tys : List (ClassId × FieldType)} {A : Nat → Prop} {X : State → Prop} {Sg : Nat → Option Nat} {cA : Nat → ClassId} (hT : k_TX tys cA A X) : k_sat l D tys A X Sg cA Lb2 cc_167 := k_keeps_q (cs := []) (inl := pg_in) (fuel := 3000) (pts := cp_167) hT.1 (fun _ h => absurd h List.not_mem_nil) (by decide +kernel)
