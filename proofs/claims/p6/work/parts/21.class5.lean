/-- X10_sway -/
def cc_100 : k_C := (145, [(2, 0, 0), (0, -2147483648, 2147483647), (0, -2147483648, 2147483647), (0, -2147483648, 2147483647)], [], some (0, -2147483648, 2147483647), [(3, 5), (3, 6), (19, 0), (20, 0), (21, 0), (22, 0), (23, 0), (29, 0), (30, 0)], 4, 142)
def cp_100 : List k_Pt := [(68, [(0, (2, 0, 0)), (1, (0, 0, 5)), (2, (0, 1, 60)), (3, (0, 1, 20)), (4, (0, -2147483648, 2147483647)), (5, (0, -2147483648, 2147483647)), (6, (0, 0, 20))], [], [(-1, 6)], 21)]
theorem sat_100 {l : Launch} {D : va_G} {tys : List (ClassId × FieldType)} {A : Nat → Prop} {X : State → Prop} {Sg : Nat → Option Nat} {cA : Nat → ClassId} (hT : k_TX tys cA A X) : k_sat l D tys A X Sg cA Lb cc_100 := k_keeps_q (cs := [cc_1, cc_7, cc_9]) (inl := pg_in) (fuel := 3000) (pts := cp_100) hT.1 (List.forall_mem_cons.mpr ⟨sat_1 hT, List.forall_mem_cons.mpr ⟨sat_7 hT, List.forall_mem_cons.mpr ⟨sat_9 hT, fun _ h => absurd h List.not_mem_nil⟩⟩⟩) (by decide +kernel)
/-- X10_image -/
def cc_101 : k_C := (118, [(2, 0, 0)], [], some (0, -2147483648, 2147483647), [(0, 6), (0, 7), (3, 5), (3, 6), (19, 0), (20, 0), (21, 0), (22, 0), (23, 0)], 2, 122)
def cp_101 : List k_Pt := []
theorem sat_101 {l : Launch} {D : va_G} {tys : List (ClassId × FieldType)} {A : Nat → Prop} {X : State → Prop} {Sg : Nat → Option Nat} {cA : Nat → ClassId} (hT : k_TX tys cA A X) : k_sat l D tys A X Sg cA Lb cc_101 := k_keeps_q (cs := [cc_1]) (inl := pg_in) (fuel := 3000) (pts := cp_101) hT.1 (List.forall_mem_cons.mpr ⟨sat_1 hT, fun _ h => absurd h List.not_mem_nil⟩) (by decide +kernel)
/-- X10_back -/
def cc_102 : k_C := (102, [(2, 0, 0)], [], some (0, -2147483648, 2147483647), [(3, 5), (3, 6), (19, 0), (20, 0), (21, 0), (22, 0), (23, 0)], 2, 122)
def cp_102 : List k_Pt := [(14, [(0, (2, 0, 0)), (1, (0, 0, 8))], [], [(-1, 1)], 9)]
theorem sat_102 {l : Launch} {D : va_G} {tys : List (ClassId × FieldType)} {A : Nat → Prop} {X : State → Prop} {Sg : Nat → Option Nat} {cA : Nat → ClassId} (hT : k_TX tys cA A X) : k_sat l D tys A X Sg cA Lb cc_102 := k_keeps_q (cs := [cc_1]) (inl := pg_in) (fuel := 3000) (pts := cp_102) hT.1 (List.forall_mem_cons.mpr ⟨sat_1 hT, fun _ h => absurd h List.not_mem_nil⟩) (by decide +kernel)
/-- X10_count -/
def cc_103 : k_C := (107, [(2, 0, 0), (0, -2147483648, 2147483647)], [], some (0, -2147483648, 2147483647), [], 0, 0)
def cp_103 : List k_Pt := []
theorem sat_103 {l : Launch} {D : va_G} {tys : List (ClassId × FieldType)} {A : Nat → Prop} {X : State → Prop} {Sg : Nat → Option Nat} {cA : Nat → ClassId} (hT : k_TX tys cA A X) : k_sat l D tys A X Sg cA Lb cc_103 := k_keeps_q (cs := []) (inl := pg_in) (fuel := 3000) (pts := cp_103) hT.1 (fun _ h => absurd h List.not_mem_nil) (by decide +kernel)
