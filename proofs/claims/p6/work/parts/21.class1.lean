/-- X5_worth -/
def cc_20 : k_C := (66, [(2, 6, 0), (2, 35, 0)], [], some (0, -2147483648, 2147483647), [(37, 0)], 4, 103)
def cp_20 : List k_Pt := [(4, [(0, (2, 6, 0)), (1, (2, 35, 0)), (2, (0, 0, 64)), (3, (0, 0, 20000))], [], [(-1, 3)], 20001)]
theorem sat_20 {l : Launch} {D : va_G} {tys : List (ClassId × FieldType)} {A : Nat → Prop} {X : State → Prop} {Sg : Nat → Option Nat} {cA : Nat → ClassId} (hT : k_TX tys cA A X) : k_sat l D tys A X Sg cA Lb cc_20 := k_keeps_q (cs := [cc_17, cc_19]) (inl := pg_in) (fuel := 3000) (pts := cp_20) hT.1 (List.forall_mem_cons.mpr ⟨sat_17 hT, List.forall_mem_cons.mpr ⟨sat_19 hT, fun _ h => absurd h List.not_mem_nil⟩⟩) (by decide +kernel)
/-- X3_mattering -/
def cc_21 : k_C := (39, [(2, 2, 0), (2, 32, 0)], [], some (0, -2147483648, 2147483647), [], 0, 0)
def cp_21 : List k_Pt := [(9, [(0, (2, 2, 0)), (1, (2, 32, 0)), (2, (0, -2147483648, 2147483647)), (3, (0, -1, 5))], [], [(1, 3)], 2)]
theorem sat_21 {l : Launch} {D : va_G} {tys : List (ClassId × FieldType)} {A : Nat → Prop} {X : State → Prop} {Sg : Nat → Option Nat} {cA : Nat → ClassId} (hT : k_TX tys cA A X) : k_sat l D tys A X Sg cA Lb cc_21 := k_keeps_q (cs := []) (inl := pg_in) (fuel := 3000) (pts := cp_21) hT.1 (fun _ h => absurd h List.not_mem_nil) (by decide +kernel)
/-- X3_moves -/
def cc_22 : k_C := (40, [(2, 2, 0), (0, 0, 11), (0, -2147483648, 2147483647)], [], some (0, 0, 1), [], 1, 22)
def cp_22 : List k_Pt := [(5, [(0, (2, 2, 0)), (1, (0, 0, 11)), (2, (0, -2147483648, 2147483647)), (3, (0, -1, 11)), (4, (0, 0, 6))], [], [(-1, 4)], 7)]
theorem sat_22 {l : Launch} {D : va_G} {tys : List (ClassId × FieldType)} {A : Nat → Prop} {X : State → Prop} {Sg : Nat → Option Nat} {cA : Nat → ClassId} (hT : k_TX tys cA A X) : k_sat l D tys A X Sg cA Lb cc_22 := k_keeps_q (cs := []) (inl := pg_in) (fuel := 3000) (pts := cp_22) hT.1 (fun _ h => absurd h List.not_mem_nil) (by decide +kernel)
/-- X3_findUseful -/
def cc_23 : k_C := (32, [(2, 7, 0), (2, 2, 0), (0, -2147483648, 2147483647)], [], none, [(7, 2), (39, 0)], 3, 100)
theorem sat_23 {l : Launch} {D : va_G} {tys : List (ClassId × FieldType)} {A : Nat → Prop} {X : State → Prop} {Sg : Nat → Option Nat} {cA : Nat → ClassId} (hT : k_TX tys cA A X) : k_sat l D tys A X Sg cA Lb cc_23 := hand_X3_findUseful hT (sat_22 hT) rfl
/-- X3_isSo -/
def cc_24 : k_C := (38, [(2, 7, 0), (2, 2, 0), (2, 32, 0), (0, 0, 5), (0, -2147483648, 2147483647)], [], some (0, 0, 1), [(40, 0)], 1, 23)
def cp_24 : List k_Pt := [(39, [(0, (2, 7, 0)), (1, (2, 2, 0)), (2, (2, 32, 0)), (3, (0, 0, 5)), (4, (0, -2147483648, 2147483647)), (5, (0, -1, 11)), (6, (0, -2147483648, 2147483647)), (7, (0, 0, 12))], [], [(-1, 7)], 13)]
theorem sat_24 {l : Launch} {D : va_G} {tys : List (ClassId × FieldType)} {A : Nat → Prop} {X : State → Prop} {Sg : Nat → Option Nat} {cA : Nat → ClassId} (hT : k_TX tys cA A X) : k_sat l D tys A X Sg cA Lb cc_24 := k_keeps_q (cs := []) (inl := pg_in) (fuel := 3000) (pts := cp_24) hT.1 (fun _ h => absurd h List.not_mem_nil) (by decide +kernel)
/-- findWays 0 -/
def cc_25 : k_C := (33, [(2, 7, 0), (2, 2, 0), (2, 3, 0), (2, 32, 0), (0, -2147483648, 2147483647), (0, 6, 6)], [], some (0, 1, 1), [], 0, 0)
def cp_25 : List k_Pt := []
theorem sat_25 {l : Launch} {D : va_G} {tys : List (ClassId × FieldType)} {A : Nat → Prop} {X : State → Prop} {Sg : Nat → Option Nat} {cA : Nat → ClassId} (hT : k_TX tys cA A X) : k_sat l D tys A X Sg cA Lb cc_25 := k_keeps_q (cs := [cc_24]) (inl := pg_in) (fuel := 3000) (pts := cp_25) hT.1 (List.forall_mem_cons.mpr ⟨sat_24 hT, fun _ h => absurd h List.not_mem_nil⟩) (by decide +kernel)
/-- findWays 1 -/
def cc_26 : k_C := (33, [(2, 7, 0), (2, 2, 0), (2, 3, 0), (2, 32, 0), (0, -2147483648, 2147483647), (0, 5, 6)], [], some (0, 0, 1), [(40, 0), (41, 0)], 2, 50)
def cp_26 : List k_Pt := []
theorem sat_26 {l : Launch} {D : va_G} {tys : List (ClassId × FieldType)} {A : Nat → Prop} {X : State → Prop} {Sg : Nat → Option Nat} {cA : Nat → ClassId} (hT : k_TX tys cA A X) : k_sat l D tys A X Sg cA Lb cc_26 := k_keeps_q (cs := [cc_24, cc_25]) (inl := pg_in) (fuel := 3000) (pts := cp_26) hT.1 (List.forall_mem_cons.mpr ⟨sat_24 hT, List.forall_mem_cons.mpr ⟨sat_25 hT, fun _ h => absurd h List.not_mem_nil⟩⟩) (by decide +kernel)
/-- findWays 2 -/
def cc_27 : k_C := (33, [(2, 7, 0), (2, 2, 0), (2, 3, 0), (2, 32, 0), (0, -2147483648, 2147483647), (0, 4, 6)], [], some (0, 0, 1), [(40, 0), (41, 0)], 3, 78)
def cp_27 : List k_Pt := []
theorem sat_27 {l : Launch} {D : va_G} {tys : List (ClassId × FieldType)} {A : Nat → Prop} {X : State → Prop} {Sg : Nat → Option Nat} {cA : Nat → ClassId} (hT : k_TX tys cA A X) : k_sat l D tys A X Sg cA Lb cc_27 := k_keeps_q (cs := [cc_24, cc_25, cc_26]) (inl := pg_in) (fuel := 3000) (pts := cp_27) hT.1 (List.forall_mem_cons.mpr ⟨sat_24 hT, List.forall_mem_cons.mpr ⟨sat_25 hT, List.forall_mem_cons.mpr ⟨sat_26 hT, fun _ h => absurd h List.not_mem_nil⟩⟩⟩) (by decide +kernel)
/-- findWays 3 -/
def cc_28 : k_C := (33, [(2, 7, 0), (2, 2, 0), (2, 3, 0), (2, 32, 0), (0, -2147483648, 2147483647), (0, 3, 6)], [], some (0, 0, 1), [(40, 0), (41, 0)], 4, 106)
def cp_28 : List k_Pt := []
theorem sat_28 {l : Launch} {D : va_G} {tys : List (ClassId × FieldType)} {A : Nat → Prop} {X : State → Prop} {Sg : Nat → Option Nat} {cA : Nat → ClassId} (hT : k_TX tys cA A X) : k_sat l D tys A X Sg cA Lb cc_28 := k_keeps_q (cs := [cc_24, cc_25, cc_26, cc_27]) (inl := pg_in) (fuel := 3000) (pts := cp_28) hT.1 (List.forall_mem_cons.mpr ⟨sat_24 hT, List.forall_mem_cons.mpr ⟨sat_25 hT, List.forall_mem_cons.mpr ⟨sat_26 hT, List.forall_mem_cons.mpr ⟨sat_27 hT, fun _ h => absurd h List.not_mem_nil⟩⟩⟩⟩) (by decide +kernel)
/-- findWays 4 -/
def cc_29 : k_C := (33, [(2, 7, 0), (2, 2, 0), (2, 3, 0), (2, 32, 0), (0, -2147483648, 2147483647), (0, 2, 6)], [], some (0, 0, 1), [(40, 0), (41, 0)], 5, 134)
def cp_29 : List k_Pt := []
theorem sat_29 {l : Launch} {D : va_G} {tys : List (ClassId × FieldType)} {A : Nat → Prop} {X : State → Prop} {Sg : Nat → Option Nat} {cA : Nat → ClassId} (hT : k_TX tys cA A X) : k_sat l D tys A X Sg cA Lb cc_29 := k_keeps_q (cs := [cc_24, cc_25, cc_26, cc_27, cc_28]) (inl := pg_in) (fuel := 3000) (pts := cp_29) hT.1 (List.forall_mem_cons.mpr ⟨sat_24 hT, List.forall_mem_cons.mpr ⟨sat_25 hT, List.forall_mem_cons.mpr ⟨sat_26 hT, List.forall_mem_cons.mpr ⟨sat_27 hT, List.forall_mem_cons.mpr ⟨sat_28 hT, fun _ h => absurd h List.not_mem_nil⟩⟩⟩⟩⟩) (by decide +kernel)
/-- findWays 5 -/
def cc_30 : k_C := (33, [(2, 7, 0), (2, 2, 0), (2, 3, 0), (2, 32, 0), (0, -2147483648, 2147483647), (0, 1, 6)], [], some (0, 0, 1), [(40, 0), (41, 0)], 6, 162)
def cp_30 : List k_Pt := []
theorem sat_30 {l : Launch} {D : va_G} {tys : List (ClassId × FieldType)} {A : Nat → Prop} {X : State → Prop} {Sg : Nat → Option Nat} {cA : Nat → ClassId} (hT : k_TX tys cA A X) : k_sat l D tys A X Sg cA Lb cc_30 := k_keeps_q (cs := [cc_24, cc_25, cc_26, cc_27, cc_28, cc_29]) (inl := pg_in) (fuel := 3000) (pts := cp_30) hT.1 (List.forall_mem_cons.mpr ⟨sat_24 hT, List.forall_mem_cons.mpr ⟨sat_25 hT, List.forall_mem_cons.mpr ⟨sat_26 hT, List.forall_mem_cons.mpr ⟨sat_27 hT, List.forall_mem_cons.mpr ⟨sat_28 hT, List.forall_mem_cons.mpr ⟨sat_29 hT, fun _ h => absurd h List.not_mem_nil⟩⟩⟩⟩⟩⟩) (by decide +kernel)
/-- findWays 6 -/
def cc_31 : k_C := (33, [(2, 7, 0), (2, 2, 0), (2, 3, 0), (2, 32, 0), (0, -2147483648, 2147483647), (0, 0, 6)], [], some (0, 0, 1), [(40, 0), (41, 0)], 7, 190)
def cp_31 : List k_Pt := []
theorem sat_31 {l : Launch} {D : va_G} {tys : List (ClassId × FieldType)} {A : Nat → Prop} {X : State → Prop} {Sg : Nat → Option Nat} {cA : Nat → ClassId} (hT : k_TX tys cA A X) : k_sat l D tys A X Sg cA Lb cc_31 := k_keeps_q (cs := [cc_24, cc_25, cc_26, cc_27, cc_28, cc_29, cc_30]) (inl := pg_in) (fuel := 3000) (pts := cp_31) hT.1 (List.forall_mem_cons.mpr ⟨sat_24 hT, List.forall_mem_cons.mpr ⟨sat_25 hT, List.forall_mem_cons.mpr ⟨sat_26 hT, List.forall_mem_cons.mpr ⟨sat_27 hT, List.forall_mem_cons.mpr ⟨sat_28 hT, List.forall_mem_cons.mpr ⟨sat_29 hT, List.forall_mem_cons.mpr ⟨sat_30 hT, fun _ h => absurd h List.not_mem_nil⟩⟩⟩⟩⟩⟩⟩) (by decide +kernel)
/-- X3_isHopeless -/
def cc_32 : k_C := (37, [(2, 7, 0), (2, 2, 0), (2, 3, 0), (2, 5, 0), (0, -60, 4)], [], some (0, 0, 1), [], 2, 51)
def cp_32 : List k_Pt := [(3, [(0, (2, 7, 0)), (1, (2, 2, 0)), (2, (2, 3, 0)), (3, (2, 5, 0)), (4, (0, -60, 4)), (5, (0, 0, 6))], [], [(-1, 5)], 7)]
theorem sat_32 {l : Launch} {D : va_G} {tys : List (ClassId × FieldType)} {A : Nat → Prop} {X : State → Prop} {Sg : Nat → Option Nat} {cA : Nat → ClassId} (hT : k_TX tys cA A X) : k_sat l D tys A X Sg cA Lb cc_32 := k_keeps_q (cs := [cc_10]) (inl := pg_in) (fuel := 3000) (pts := cp_32) hT.1 (List.forall_mem_cons.mpr ⟨sat_10 hT, fun _ h => absurd h List.not_mem_nil⟩) (by decide +kernel)
/-- X3_give -/
def cc_33 : k_C := (35, [(2, 7, 0), (2, 2, 0), (2, 5, 0), (0, 0, 11), (0, -2147483648, 2147483647)], [], none, [(30, 0), (38, 0)], 1, 22)
def cp_33 : List k_Pt := [(25, [(0, (2, 7, 0)), (1, (2, 2, 0)), (2, (2, 5, 0)), (3, (0, 0, 11)), (4, (0, -2147483648, 2147483647)), (5, (0, -2147483648, 2147483647)), (6, (0, -1, 11)), (7, (0, 0, 6))], [], [(-1, 7)], 7)]
theorem sat_33 {l : Launch} {D : va_G} {tys : List (ClassId × FieldType)} {A : Nat → Prop} {X : State → Prop} {Sg : Nat → Option Nat} {cA : Nat → ClassId} (hT : k_TX tys cA A X) : k_sat l D tys A X Sg cA Lb cc_33 := k_keeps_q (cs := []) (inl := pg_in) (fuel := 3000) (pts := cp_33) hT.1 (fun _ h => absurd h List.not_mem_nil) (by decide +kernel)
/-- X3_fits -/
def cc_34 : k_C := (34, [(2, 7, 0), (2, 2, 0), (2, 3, 0), (2, 5, 0), (2, 32, 0)], [], some (0, 0, 1), [(40, 0)], 3, 72)
def cp_34 : List k_Pt := [(3, [(0, (2, 7, 0)), (1, (2, 2, 0)), (2, (2, 3, 0)), (3, (2, 5, 0)), (4, (2, 32, 0)), (5, (0, 0, 6))], [], [(-1, 5)], 7)]
theorem sat_34 {l : Launch} {D : va_G} {tys : List (ClassId × FieldType)} {A : Nat → Prop} {X : State → Prop} {Sg : Nat → Option Nat} {cA : Nat → ClassId} (hT : k_TX tys cA A X) : k_sat l D tys A X Sg cA Lb cc_34 := k_keeps_q (cs := [cc_24]) (inl := pg_in) (fuel := 3000) (pts := cp_34) hT.1 (List.forall_mem_cons.mpr ⟨sat_24 hT, fun _ h => absurd h List.not_mem_nil⟩) (by decide +kernel)
/-- search 0 -/
def cc_35 : k_C := (41, [(2, 7, 0), (2, 2, 0), (2, 3, 0), (2, 5, 0), (2, 32, 0), (0, 12, 12), (0, -48, 4)], [], some (0, 0, 1), [(40, 0)], 4, 97)
def cp_35 : List k_Pt := []
theorem sat_35 {l : Launch} {D : va_G} {tys : List (ClassId × FieldType)} {A : Nat → Prop} {X : State → Prop} {Sg : Nat → Option Nat} {cA : Nat → ClassId} (hT : k_TX tys cA A X) : k_sat l D tys A X Sg cA Lb cc_35 := k_keeps_q (cs := [cc_32, cc_33, cc_34]) (inl := pg_in) (fuel := 3000) (pts := cp_35) hT.1 (List.forall_mem_cons.mpr ⟨sat_32 hT, List.forall_mem_cons.mpr ⟨sat_33 hT, List.forall_mem_cons.mpr ⟨sat_34 hT, fun _ h => absurd h List.not_mem_nil⟩⟩⟩) (by decide +kernel)
/-- search 1 -/
def cc_36 : k_C := (41, [(2, 7, 0), (2, 2, 0), (2, 3, 0), (2, 5, 0), (2, 32, 0), (0, 11, 12), (0, -44, 4)], [], some (0, 0, 1), [(30, 0), (38, 0), (40, 0)], 5, 128)
def cp_36 : List k_Pt := [(89, [(0, (2, 7, 0)), (1, (2, 2, 0)), (2, (2, 3, 0)), (3, (2, 5, 0)), (4, (2, 32, 0)), (5, (0, 11, 11)), (6, (0, -44, 4)), (7, (0, 0, 11)), (8, (0, -44, 4)), (9, (0, -44, 4)), (10, (0, -44, 4))], [], [(1, 10)], 45)]
theorem sat_36 {l : Launch} {D : va_G} {tys : List (ClassId × FieldType)} {A : Nat → Prop} {X : State → Prop} {Sg : Nat → Option Nat} {cA : Nat → ClassId} (hT : k_TX tys cA A X) : k_sat l D tys A X Sg cA Lb cc_36 := k_keeps_q (cs := [cc_32, cc_33, cc_34, cc_35]) (inl := pg_in) (fuel := 3000) (pts := cp_36) hT.1 (List.forall_mem_cons.mpr ⟨sat_32 hT, List.forall_mem_cons.mpr ⟨sat_33 hT, List.forall_mem_cons.mpr ⟨sat_34 hT, List.forall_mem_cons.mpr ⟨sat_35 hT, fun _ h => absurd h List.not_mem_nil⟩⟩⟩⟩) (by decide +kernel)
/-- search 2 -/
def cc_37 : k_C := (41, [(2, 7, 0), (2, 2, 0), (2, 3, 0), (2, 5, 0), (2, 32, 0), (0, 10, 12), (0, -40, 4)], [], some (0, 0, 1), [(30, 0), (38, 0), (40, 0)], 6, 159)
def cp_37 : List k_Pt := [(89, [(0, (2, 7, 0)), (1, (2, 2, 0)), (2, (2, 3, 0)), (3, (2, 5, 0)), (4, (2, 32, 0)), (5, (0, 10, 11)), (6, (0, -40, 4)), (7, (0, 0, 11)), (8, (0, -40, 4)), (9, (0, -40, 4)), (10, (0, -40, 4))], [], [(1, 10)], 41)]
theorem sat_37 {l : Launch} {D : va_G} {tys : List (ClassId × FieldType)} {A : Nat → Prop} {X : State → Prop} {Sg : Nat → Option Nat} {cA : Nat → ClassId} (hT : k_TX tys cA A X) : k_sat l D tys A X Sg cA Lb cc_37 := k_keeps_q (cs := [cc_32, cc_33, cc_34, cc_35, cc_36]) (inl := pg_in) (fuel := 3000) (pts := cp_37) hT.1 (List.forall_mem_cons.mpr ⟨sat_32 hT, List.forall_mem_cons.mpr ⟨sat_33 hT, List.forall_mem_cons.mpr ⟨sat_34 hT, List.forall_mem_cons.mpr ⟨sat_35 hT, List.forall_mem_cons.mpr ⟨sat_36 hT, fun _ h => absurd h List.not_mem_nil⟩⟩⟩⟩⟩) (by decide +kernel)
/-- search 3 -/
def cc_38 : k_C := (41, [(2, 7, 0), (2, 2, 0), (2, 3, 0), (2, 5, 0), (2, 32, 0), (0, 9, 12), (0, -36, 4)], [], some (0, 0, 1), [(30, 0), (38, 0), (40, 0)], 7, 190)
def cp_38 : List k_Pt := [(89, [(0, (2, 7, 0)), (1, (2, 2, 0)), (2, (2, 3, 0)), (3, (2, 5, 0)), (4, (2, 32, 0)), (5, (0, 9, 11)), (6, (0, -36, 4)), (7, (0, 0, 11)), (8, (0, -36, 4)), (9, (0, -36, 4)), (10, (0, -36, 4))], [], [(1, 10)], 37)]
theorem sat_38 {l : Launch} {D : va_G} {tys : List (ClassId × FieldType)} {A : Nat → Prop} {X : State → Prop} {Sg : Nat → Option Nat} {cA : Nat → ClassId} (hT : k_TX tys cA A X) : k_sat l D tys A X Sg cA Lb cc_38 := k_keeps_q (cs := [cc_32, cc_33, cc_34, cc_35, cc_36, cc_37]) (inl := pg_in) (fuel := 3000) (pts := cp_38) hT.1 (List.forall_mem_cons.mpr ⟨sat_32 hT, List.forall_mem_cons.mpr ⟨sat_33 hT, List.forall_mem_cons.mpr ⟨sat_34 hT, List.forall_mem_cons.mpr ⟨sat_35 hT, List.forall_mem_cons.mpr ⟨sat_36 hT, List.forall_mem_cons.mpr ⟨sat_37 hT, fun _ h => absurd h List.not_mem_nil⟩⟩⟩⟩⟩⟩) (by decide +kernel)
/-- search 4 -/
def cc_39 : k_C := (41, [(2, 7, 0), (2, 2, 0), (2, 3, 0), (2, 5, 0), (2, 32, 0), (0, 8, 12), (0, -32, 4)], [], some (0, 0, 1), [(30, 0), (38, 0), (40, 0)], 8, 221)
def cp_39 : List k_Pt := [(89, [(0, (2, 7, 0)), (1, (2, 2, 0)), (2, (2, 3, 0)), (3, (2, 5, 0)), (4, (2, 32, 0)), (5, (0, 8, 11)), (6, (0, -32, 4)), (7, (0, 0, 11)), (8, (0, -32, 4)), (9, (0, -32, 4)), (10, (0, -32, 4))], [], [(1, 10)], 33)]
theorem sat_39 {l : Launch} {D : va_G} {tys : List (ClassId × FieldType)} {A : Nat → Prop} {X : State → Prop} {Sg : Nat → Option Nat} {cA : Nat → ClassId} (hT : k_TX tys cA A X) : k_sat l D tys A X Sg cA Lb cc_39 := k_keeps_q (cs := [cc_32, cc_33, cc_34, cc_35, cc_36, cc_37, cc_38]) (inl := pg_in) (fuel := 3000) (pts := cp_39) hT.1 (List.forall_mem_cons.mpr ⟨sat_32 hT, List.forall_mem_cons.mpr ⟨sat_33 hT, List.forall_mem_cons.mpr ⟨sat_34 hT, List.forall_mem_cons.mpr ⟨sat_35 hT, List.forall_mem_cons.mpr ⟨sat_36 hT, List.forall_mem_cons.mpr ⟨sat_37 hT, List.forall_mem_cons.mpr ⟨sat_38 hT, fun _ h => absurd h List.not_mem_nil⟩⟩⟩⟩⟩⟩⟩) (by decide +kernel)
