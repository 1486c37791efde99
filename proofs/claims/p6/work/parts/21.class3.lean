/-- goThrough 4 -/
def cc_60 : k_C := (29, [(2, 9, 0), (2, 2, 0), (2, 4, 0), (2, 5, 0), (0, 2, 6), (0, -2147483648, 2147483647), (0, -2147483648, 2147483647)], [], none, [(3, 5), (3, 6), (9, 1), (9, 2), (19, 0), (20, 0), (21, 0), (22, 0), (23, 0), (29, 0), (30, 0)], 7, 218)
def cp_60 : List k_Pt := [(87, [(0, (2, 9, 0)), (1, (2, 2, 0)), (2, (2, 4, 0)), (3, (2, 5, 0)), (4, (0, 2, 5)), (5, (0, -2147483648, 2147483647)), (6, (0, -2147483648, 2147483647)), (7, (2, 3, 0)), (8, (2, 3, 0)), (9, (0, 0, 6))], [], [(-1, 9)], 7)]
theorem sat_60 {l : Launch} {D : va_G} {tys : List (ClassId × FieldType)} {A : Nat → Prop} {X : State → Prop} {Sg : Nat → Option Nat} {cA : Nat → ClassId} (hT : k_TX tys cA A X) : k_sat l D tys A X Sg cA Lb cc_60 := k_keeps_q (cs := [cc_1, cc_7, cc_11, cc_15, cc_56, cc_57, cc_58, cc_59]) (inl := pg_in) (fuel := 3000) (pts := cp_60) hT.1 (List.forall_mem_cons.mpr ⟨sat_1 hT, List.forall_mem_cons.mpr ⟨sat_7 hT, List.forall_mem_cons.mpr ⟨sat_11 hT, List.forall_mem_cons.mpr ⟨sat_15 hT, List.forall_mem_cons.mpr ⟨sat_56 hT, List.forall_mem_cons.mpr ⟨sat_57 hT, List.forall_mem_cons.mpr ⟨sat_58 hT, List.forall_mem_cons.mpr ⟨sat_59 hT, fun _ h => absurd h List.not_mem_nil⟩⟩⟩⟩⟩⟩⟩⟩) (by decide +kernel)
/-- goThrough 5 -/
def cc_61 : k_C := (29, [(2, 9, 0), (2, 2, 0), (2, 4, 0), (2, 5, 0), (0, 1, 6), (0, -2147483648, 2147483647), (0, -2147483648, 2147483647)], [], none, [(3, 5), (3, 6), (9, 1), (9, 2), (19, 0), (20, 0), (21, 0), (22, 0), (23, 0), (29, 0), (30, 0)], 8, 250)
def cp_61 : List k_Pt := [(87, [(0, (2, 9, 0)), (1, (2, 2, 0)), (2, (2, 4, 0)), (3, (2, 5, 0)), (4, (0, 1, 5)), (5, (0, -2147483648, 2147483647)), (6, (0, -2147483648, 2147483647)), (7, (2, 3, 0)), (8, (2, 3, 0)), (9, (0, 0, 6))], [], [(-1, 9)], 7)]
theorem sat_61 {l : Launch} {D : va_G} {tys : List (ClassId × FieldType)} {A : Nat → Prop} {X : State → Prop} {Sg : Nat → Option Nat} {cA : Nat → ClassId} (hT : k_TX tys cA A X) : k_sat l D tys A X Sg cA Lb cc_61 := k_keeps_q (cs := [cc_1, cc_7, cc_11, cc_15, cc_56, cc_57, cc_58, cc_59, cc_60]) (inl := pg_in) (fuel := 3000) (pts := cp_61) hT.1 (List.forall_mem_cons.mpr ⟨sat_1 hT, List.forall_mem_cons.mpr ⟨sat_7 hT, List.forall_mem_cons.mpr ⟨sat_11 hT, List.forall_mem_cons.mpr ⟨sat_15 hT, List.forall_mem_cons.mpr ⟨sat_56 hT, List.forall_mem_cons.mpr ⟨sat_57 hT, List.forall_mem_cons.mpr ⟨sat_58 hT, List.forall_mem_cons.mpr ⟨sat_59 hT, List.forall_mem_cons.mpr ⟨sat_60 hT, fun _ h => absurd h List.not_mem_nil⟩⟩⟩⟩⟩⟩⟩⟩⟩) (by decide +kernel)
/-- goThrough 6 -/
def cc_62 : k_C := (29, [(2, 9, 0), (2, 2, 0), (2, 4, 0), (2, 5, 0), (0, 0, 6), (0, -2147483648, 2147483647), (0, -2147483648, 2147483647)], [], none, [(3, 5), (3, 6), (9, 1), (9, 2), (19, 0), (20, 0), (21, 0), (22, 0), (23, 0), (29, 0), (30, 0)], 9, 282)
def cp_62 : List k_Pt := [(87, [(0, (2, 9, 0)), (1, (2, 2, 0)), (2, (2, 4, 0)), (3, (2, 5, 0)), (4, (0, 0, 5)), (5, (0, -2147483648, 2147483647)), (6, (0, -2147483648, 2147483647)), (7, (2, 3, 0)), (8, (2, 3, 0)), (9, (0, 0, 6))], [], [(-1, 9)], 7)]
theorem sat_62 {l : Launch} {D : va_G} {tys : List (ClassId × FieldType)} {A : Nat → Prop} {X : State → Prop} {Sg : Nat → Option Nat} {cA : Nat → ClassId} (hT : k_TX tys cA A X) : k_sat l D tys A X Sg cA Lb cc_62 := k_keeps_q (cs := [cc_1, cc_7, cc_11, cc_15, cc_56, cc_57, cc_58, cc_59, cc_60, cc_61]) (inl := pg_in) (fuel := 3000) (pts := cp_62) hT.1 (List.forall_mem_cons.mpr ⟨sat_1 hT, List.forall_mem_cons.mpr ⟨sat_7 hT, List.forall_mem_cons.mpr ⟨sat_11 hT, List.forall_mem_cons.mpr ⟨sat_15 hT, List.forall_mem_cons.mpr ⟨sat_56 hT, List.forall_mem_cons.mpr ⟨sat_57 hT, List.forall_mem_cons.mpr ⟨sat_58 hT, List.forall_mem_cons.mpr ⟨sat_59 hT, List.forall_mem_cons.mpr ⟨sat_60 hT, List.forall_mem_cons.mpr ⟨sat_61 hT, fun _ h => absurd h List.not_mem_nil⟩⟩⟩⟩⟩⟩⟩⟩⟩⟩) (by decide +kernel)
/-- X2_find -/
def cc_63 : k_C := (28, [(2, 9, 0), (2, 2, 0), (2, 3, 0), (2, 4, 0), (2, 5, 0)], [], none, [(3, 5), (3, 6), (9, 1), (9, 2), (19, 0), (20, 0), (21, 0), (22, 0), (23, 0), (29, 0), (30, 0)], 10, 314)
def cp_63 : List k_Pt := []
theorem sat_63 {l : Launch} {D : va_G} {tys : List (ClassId × FieldType)} {A : Nat → Prop} {X : State → Prop} {Sg : Nat → Option Nat} {cA : Nat → ClassId} (hT : k_TX tys cA A X) : k_sat l D tys A X Sg cA Lb cc_63 := k_keeps_q (cs := [cc_1, cc_56, cc_57, cc_58, cc_59, cc_60, cc_61, cc_62]) (inl := pg_in) (fuel := 3000) (pts := cp_63) hT.1 (List.forall_mem_cons.mpr ⟨sat_1 hT, List.forall_mem_cons.mpr ⟨sat_56 hT, List.forall_mem_cons.mpr ⟨sat_57 hT, List.forall_mem_cons.mpr ⟨sat_58 hT, List.forall_mem_cons.mpr ⟨sat_59 hT, List.forall_mem_cons.mpr ⟨sat_60 hT, List.forall_mem_cons.mpr ⟨sat_61 hT, List.forall_mem_cons.mpr ⟨sat_62 hT, fun _ h => absurd h List.not_mem_nil⟩⟩⟩⟩⟩⟩⟩⟩) (by decide +kernel)
/-- X10_room -/
def cc_64 : k_C := (138, [(2, 0, 0), (0, -2147483648, 2147483647), (0, -2147483648, 2147483647)], [], some (0, -2147483648, 2147483647), [(29, 0), (30, 0)], 3, 71)
def cp_64 : List k_Pt := []
theorem sat_64 {l : Launch} {D : va_G} {tys : List (ClassId × FieldType)} {A : Nat → Prop} {X : State → Prop} {Sg : Nat → Option Nat} {cA : Nat → ClassId} (hT : k_TX tys cA A X) : k_sat l D tys A X Sg cA Lb cc_64 := k_keeps_q (cs := [cc_7, cc_13]) (inl := pg_in) (fuel := 3000) (pts := cp_64) hT.1 (List.forall_mem_cons.mpr ⟨sat_7 hT, List.forall_mem_cons.mpr ⟨sat_13 hT, fun _ h => absurd h List.not_mem_nil⟩⟩) (by decide +kernel)
/-- X10_brake -/
def cc_65 : k_C := (106, [(2, 0, 0), (0, -2147483648, 2147483647), (0, 0, 1)], [], some (0, 0, 1), [(21, 0)], 1, 21)
def cp_65 : List k_Pt := []
theorem sat_65 {l : Launch} {D : va_G} {tys : List (ClassId × FieldType)} {A : Nat → Prop} {X : State → Prop} {Sg : Nat → Option Nat} {cA : Nat → ClassId} (hT : k_TX tys cA A X) : k_sat l D tys A X Sg cA Lb cc_65 := k_keeps_q (cs := []) (inl := pg_in) (fuel := 3000) (pts := cp_65) hT.1 (fun _ h => absurd h List.not_mem_nil) (by decide +kernel)
/-- X10_water -/
def cc_66 : k_C := (155, [(2, 0, 0), (0, -2147483648, 2147483647), (0, -2147483648, 2147483647)], [], some (0, 0, 1), [(22, 0)], 1, 21)
def cp_66 : List k_Pt := []
theorem sat_66 {l : Launch} {D : va_G} {tys : List (ClassId × FieldType)} {A : Nat → Prop} {X : State → Prop} {Sg : Nat → Option Nat} {cA : Nat → ClassId} (hT : k_TX tys cA A X) : k_sat l D tys A X Sg cA Lb cc_66 := k_keeps_q (cs := []) (inl := pg_in) (fuel := 3000) (pts := cp_66) hT.1 (fun _ h => absurd h List.not_mem_nil) (by decide +kernel)
/-- X10_turn -/
def cc_67 : k_C := (152, [(2, 0, 0), (0, -2147483648, 2147483647), (0, -2147483648, 2147483647)], [], some (0, -2147483648, 2147483647), [(19, 0)], 1, 21)
def cp_67 : List k_Pt := []
theorem sat_67 {l : Launch} {D : va_G} {tys : List (ClassId × FieldType)} {A : Nat → Prop} {X : State → Prop} {Sg : Nat → Option Nat} {cA : Nat → ClassId} (hT : k_TX tys cA A X) : k_sat l D tys A X Sg cA Lb cc_67 := k_keeps_q (cs := []) (inl := pg_in) (fuel := 3000) (pts := cp_67) hT.1 (fun _ h => absurd h List.not_mem_nil) (by decide +kernel)
/-- X10_minutes -/
def cc_68 : k_C := (128, [(2, 0, 0), (0, -2147483648, 2147483647)], [], some (0, -2147483648, 2147483647), [(3, 5), (3, 6), (19, 0), (20, 0), (29, 0), (30, 0)], 4, 101)
def cp_68 : List k_Pt := []
theorem sat_68 {l : Launch} {D : va_G} {tys : List (ClassId × FieldType)} {A : Nat → Prop} {X : State → Prop} {Sg : Nat → Option Nat} {cA : Nat → ClassId} (hT : k_TX tys cA A X) : k_sat l D tys A X Sg cA Lb cc_68 := k_keeps_q (cs := [cc_7, cc_9]) (inl := pg_in) (fuel := 3000) (pts := cp_68) hT.1 (List.forall_mem_cons.mpr ⟨sat_7 hT, List.forall_mem_cons.mpr ⟨sat_9 hT, fun _ h => absurd h List.not_mem_nil⟩⟩) (by decide +kernel)
/-- X10_rest -/
def cc_69 : k_C := (137, [(2, 0, 0)], [], some (0, -1, 2147483647), [(3, 5), (19, 0), (20, 0), (29, 0), (30, 0)], 4, 98)
def cp_69 : List k_Pt := []
theorem sat_69 {l : Launch} {D : va_G} {tys : List (ClassId × FieldType)} {A : Nat → Prop} {X : State → Prop} {Sg : Nat → Option Nat} {cA : Nat → ClassId} (hT : k_TX tys cA A X) : k_sat l D tys A X Sg cA Lb cc_69 := k_keeps_q (cs := [cc_7, cc_11]) (inl := pg_in) (fuel := 3000) (pts := cp_69) hT.1 (List.forall_mem_cons.mpr ⟨sat_7 hT, List.forall_mem_cons.mpr ⟨sat_11 hT, fun _ h => absurd h List.not_mem_nil⟩⟩) (by decide +kernel)
/-- X10_gallery -/
def cc_70 : k_C := (114, [(2, 0, 0), (0, -2147483648, 2147483647)], [], some (0, -1, 17), [(4, 0), (24, 0)], 0, 0)
def cp_70 : List k_Pt := []
theorem sat_70 {l : Launch} {D : va_G} {tys : List (ClassId × FieldType)} {A : Nat → Prop} {X : State → Prop} {Sg : Nat → Option Nat} {cA : Nat → ClassId} (hT : k_TX tys cA A X) : k_sat l D tys A X Sg cA Lb cc_70 := k_keeps_q (cs := []) (inl := pg_in) (fuel := 3000) (pts := cp_70) hT.1 (fun _ h => absurd h List.not_mem_nil) (by decide +kernel)
/-- X10_beside -/
def cc_71 : k_C := (104, [(2, 0, 0), (0, -2147483648, 2147483647), (0, -2147483648, 2147483647), (0, 0, 1)], [], some (0, 0, 1), [(25, 0)], 2, 42)
def cp_71 : List k_Pt := []
theorem sat_71 {l : Launch} {D : va_G} {tys : List (ClassId × FieldType)} {A : Nat → Prop} {X : State → Prop} {Sg : Nat → Option Nat} {cA : Nat → ClassId} (hT : k_TX tys cA A X) : k_sat l D tys A X Sg cA Lb cc_71 := k_keeps_q (cs := [cc_4]) (inl := pg_in) (fuel := 3000) (pts := cp_71) hT.1 (List.forall_mem_cons.mpr ⟨sat_4 hT, fun _ h => absurd h List.not_mem_nil⟩) (by decide +kernel)
/-- X10_meet -/
def cc_72 : k_C := (127, [(2, 0, 0), (0, -2147483648, 2147483647), (0, -2147483648, 2147483647)], [], some (0, -1, 1), [], 3, 75)
def cp_72 : List k_Pt := []
theorem sat_72 {l : Launch} {D : va_G} {tys : List (ClassId × FieldType)} {A : Nat → Prop} {X : State → Prop} {Sg : Nat → Option Nat} {cA : Nat → ClassId} (hT : k_TX tys cA A X) : k_sat l D tys A X Sg cA Lb cc_72 := k_keeps_q (cs := [cc_15]) (inl := pg_in) (fuel := 3000) (pts := cp_72) hT.1 (List.forall_mem_cons.mpr ⟨sat_15 hT, fun _ h => absurd h List.not_mem_nil⟩) (by decide +kernel)
/-- X10_person -/
def cc_73 : k_C := (134, [(2, 0, 0), (0, -2147483648, 2147483647), (0, -2147483648, 2147483647)], [], some (0, -1, 7), [(4, 3), (23, 0), (26, 0)], 2, 42)
def cp_73 : List k_Pt := []
theorem sat_73 {l : Launch} {D : va_G} {tys : List (ClassId × FieldType)} {A : Nat → Prop} {X : State → Prop} {Sg : Nat → Option Nat} {cA : Nat → ClassId} (hT : k_TX tys cA A X) : k_sat l D tys A X Sg cA Lb cc_73 := k_keeps_q (cs := []) (inl := pg_in) (fuel := 3000) (pts := cp_73) hT.1 (fun _ h => absurd h List.not_mem_nil) (by decide +kernel)
/-- X10_step -/
def cc_74 : k_C := (143, [(2, 0, 0), (0, -2147483648, 2147483647), (0, -2147483648, 2147483647)], [], some (0, 0, 1), [(23, 0)], 3, 75)
def cp_74 : List k_Pt := []
theorem sat_74 {l : Launch} {D : va_G} {tys : List (ClassId × FieldType)} {A : Nat → Prop} {X : State → Prop} {Sg : Nat → Option Nat} {cA : Nat → ClassId} (hT : k_TX tys cA A X) : k_sat l D tys A X Sg cA Lb cc_74 := k_keeps_q (cs := [cc_15]) (inl := pg_in) (fuel := 3000) (pts := cp_74) hT.1 (List.forall_mem_cons.mpr ⟨sat_15 hT, fun _ h => absurd h List.not_mem_nil⟩) (by decide +kernel)
/-- X10_where -/
def cc_75 : k_C := (157, [(2, 0, 0), (0, -2147483648, 2147483647)], [], some (0, -2147483648, 2147483647), [], 1, 21)
def cp_75 : List k_Pt := []
theorem sat_75 {l : Launch} {D : va_G} {tys : List (ClassId × FieldType)} {A : Nat → Prop} {X : State → Prop} {Sg : Nat → Option Nat} {cA : Nat → ClassId} (hT : k_TX tys cA A X) : k_sat l D tys A X Sg cA Lb cc_75 := k_keeps_q (cs := []) (inl := pg_in) (fuel := 3000) (pts := cp_75) hT.1 (fun _ h => absurd h List.not_mem_nil) (by decide +kernel)
/-- X10_way -/
def cc_76 : k_C := (156, [(2, 0, 0), (0, -2147483648, 2147483647), (0, -2147483648, 2147483647)], [], some (0, -1, 60), [(3, 5), (3, 6), (19, 0), (20, 0), (21, 0), (22, 0), (23, 0), (29, 0), (30, 0), (31, 0)], 3, 142)
def cp_76 : List k_Pt := [(29, [(0, (2, 0, 0)), (1, (0, 0, 17)), (2, (0, 0, 17)), (3, (0, -2147483648, 2147483647)), (4, (0, 0, 61))], [], [(-1, 4)], 62)]
theorem sat_76 {l : Launch} {D : va_G} {tys : List (ClassId × FieldType)} {A : Nat → Prop} {X : State → Prop} {Sg : Nat → Option Nat} {cA : Nat → ClassId} (hT : k_TX tys cA A X) : k_sat l D tys A X Sg cA Lb cc_76 := k_keeps_q (cs := [cc_1, cc_6, cc_7, cc_8, cc_14]) (inl := pg_in) (fuel := 3000) (pts := cp_76) hT.1 (List.forall_mem_cons.mpr ⟨sat_1 hT, List.forall_mem_cons.mpr ⟨sat_6 hT, List.forall_mem_cons.mpr ⟨sat_7 hT, List.forall_mem_cons.mpr ⟨sat_8 hT, List.forall_mem_cons.mpr ⟨sat_14 hT, fun _ h => absurd h List.not_mem_nil⟩⟩⟩⟩⟩) (by decide +kernel)
/-- X10_unseen -/
def cc_77 : k_C := (153, [(2, 0, 0), (0, -2147483648, 2147483647), (0, -2147483648, 2147483647), (0, -2147483648, 2147483647)], [], some (0, -1000000, 60), [(3, 5), (3, 6), (19, 0), (20, 0), (21, 0), (22, 0), (23, 0), (29, 0), (30, 0)], 3, 142)
def cp_77 : List k_Pt := [(39, [(0, (2, 0, 0)), (1, (0, 0, 11)), (2, (0, 0, 11)), (3, (0, 0, 60)), (4, (0, 0, 61))], [], [(-1, 4)], 62)]
theorem sat_77 {l : Launch} {D : va_G} {tys : List (ClassId × FieldType)} {A : Nat → Prop} {X : State → Prop} {Sg : Nat → Option Nat} {cA : Nat → ClassId} (hT : k_TX tys cA A X) : k_sat l D tys A X Sg cA Lb cc_77 := k_keeps_q (cs := [cc_1, cc_7, cc_8, cc_13]) (inl := pg_in) (fuel := 3000) (pts := cp_77) hT.1 (List.forall_mem_cons.mpr ⟨sat_1 hT, List.forall_mem_cons.mpr ⟨sat_7 hT, List.forall_mem_cons.mpr ⟨sat_8 hT, List.forall_mem_cons.mpr ⟨sat_13 hT, fun _ h => absurd h List.not_mem_nil⟩⟩⟩⟩) (by decide +kernel)
/-- X10_want -/
def cc_78 : k_C := (154, [(2, 0, 0), (0, -2147483648, 2147483647), (0, -2147483648, 2147483647)], [], some (0, 0, 1), [(32, 0)], 1, 21)
def cp_78 : List k_Pt := []
theorem sat_78 {l : Launch} {D : va_G} {tys : List (ClassId × FieldType)} {A : Nat → Prop} {X : State → Prop} {Sg : Nat → Option Nat} {cA : Nat → ClassId} (hT : k_TX tys cA A X) : k_sat l D tys A X Sg cA Lb cc_78 := k_keeps_q (cs := []) (inl := pg_in) (fuel := 3000) (pts := cp_78) hT.1 (fun _ h => absurd h List.not_mem_nil) (by decide +kernel)
/-- X10_pails -/
def cc_79 : k_C := (133, [(2, 0, 0), (0, -2147483648, 2147483647)], [], some (0, -2147483648, 2147483647), [(7, 2), (29, 0), (30, 0), (38, 0), (39, 0), (40, 0), (41, 0)], 18, 526)
def cp_79 : List k_Pt := []
theorem sat_79 {l : Launch} {D : va_G} {tys : List (ClassId × FieldType)} {A : Nat → Prop} {X : State → Prop} {Sg : Nat → Option Nat} {cA : Nat → ClassId} (hT : k_TX tys cA A X) : k_sat l D tys A X Sg cA Lb cc_79 := k_keeps_q (cs := [cc_7, cc_48]) (inl := pg_in) (fuel := 3000) (pts := cp_79) hT.1 (List.forall_mem_cons.mpr ⟨sat_7 hT, List.forall_mem_cons.mpr ⟨sat_48 hT, fun _ h => absurd h List.not_mem_nil⟩⟩) (by decide +kernel)
