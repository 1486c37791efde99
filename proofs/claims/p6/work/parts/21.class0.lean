/-- X4_falling -/
def cc_0 : k_C := (44, [(2, 2, 0), (0, 0, 5)], [], some (0, -2147483648, 2147483647), [], 0, 0)
def cp_0 : List k_Pt := [(10, [(0, (2, 2, 0)), (1, (0, 0, 5)), (2, (0, -2147483648, 2147483647)), (3, (0, 1, 6))], [], [(-1, 3)], 7)]
theorem sat_0 {l : Launch} {D : va_G} {tys : List (ClassId × FieldType)} {A : Nat → Prop} {X : State → Prop} {Sg : Nat → Option Nat} {cA : Nat → ClassId} (hT : k_TX tys cA A X) : k_sat l D tys A X Sg cA Lb cc_0 := k_keeps_q (cs := []) (inl := pg_in) (fuel := 3000) (pts := cp_0) hT.1 (fun _ h => absurd h List.not_mem_nil) (by decide +kernel)
/-- X6_take -/
def cc_1 : k_C := (70, [(2, 3, 0), (2, 3, 0)], [], none, [(3, 5), (3, 6), (19, 0), (20, 0), (21, 0), (22, 0), (23, 0)], 1, 100)
def cp_1 : List k_Pt := [(62, [(0, (2, 3, 0)), (1, (2, 3, 0)), (2, (0, 0, 6))], [], [(-1, 2)], 7)]
theorem sat_1 {l : Launch} {D : va_G} {tys : List (ClassId × FieldType)} {A : Nat → Prop} {X : State → Prop} {Sg : Nat → Option Nat} {cA : Nat → ClassId} (hT : k_TX tys cA A X) : k_sat l D tys A X Sg cA Lb cc_1 := k_keeps_q (cs := []) (inl := pg_in) (fuel := 3000) (pts := cp_1) hT.1 (fun _ h => absurd h List.not_mem_nil) (by decide +kernel)
/-- X6_draw -/
def cc_2 : k_C := (68, [(2, 3, 0)], [], some (0, -2147483648, 2147483647), [(3, 6)], 0, 0)
def cp_2 : List k_Pt := []
theorem sat_2 {l : Launch} {D : va_G} {tys : List (ClassId × FieldType)} {A : Nat → Prop} {X : State → Prop} {Sg : Nat → Option Nat} {cA : Nat → ClassId} (hT : k_TX tys cA A X) : k_sat l D tys A X Sg cA Lb cc_2 := k_keeps_q (cs := []) (inl := pg_in) (fuel := 3000) (pts := cp_2) hT.1 (fun _ h => absurd h List.not_mem_nil) (by decide +kernel)
/-- X1_leave -/
def cc_3 : k_C := (25, [(2, 4, 0)], [], none, [(4, 0), (4, 3), (4, 5), (25, 0)], 0, 0)
def cp_3 : List k_Pt := [(17, [(0, (2, 4, 0)), (1, (0, 0, 18))], [], [(-1, 1)], 19)]
theorem sat_3 {l : Launch} {D : va_G} {tys : List (ClassId × FieldType)} {A : Nat → Prop} {X : State → Prop} {Sg : Nat → Option Nat} {cA : Nat → ClassId} (hT : k_TX tys cA A X) : k_sat l D tys A X Sg cA Lb cc_3 := k_keeps_q (cs := []) (inl := pg_in) (fuel := 3000) (pts := cp_3) hT.1 (fun _ h => absurd h List.not_mem_nil) (by decide +kernel)
/-- X1_join -/
def cc_4 : k_C := (24, [(2, 4, 0), (0, 0, 17), (0, 0, 17), (0, 0, 1)], [], none, [(25, 0)], 0, 0)
def cp_4 : List k_Pt := []
theorem sat_4 {l : Launch} {D : va_G} {tys : List (ClassId × FieldType)} {A : Nat → Prop} {X : State → Prop} {Sg : Nat → Option Nat} {cA : Nat → ClassId} (hT : k_TX tys cA A X) : k_sat l D tys A X Sg cA Lb cc_4 := k_keeps_q (cs := []) (inl := pg_in) (fuel := 3000) (pts := cp_4) hT.1 (fun _ h => absurd h List.not_mem_nil) (by decide +kernel)
/-- X1_level -/
def cc_5 : k_C := (26, [(2, 4, 0), (0, 0, 17), (2, 31, 0)], [], some (0, -2147483648, 2147483647), [], 0, 0)
def cp_5 : List k_Pt := [(5, [(0, (2, 4, 0)), (1, (0, 0, 17)), (2, (2, 31, 0)), (3, (0, -2147483648, 2147483647)), (4, (0, 0, 18))], [], [(-1, 4)], 19)]
theorem sat_5 {l : Launch} {D : va_G} {tys : List (ClassId × FieldType)} {A : Nat → Prop} {X : State → Prop} {Sg : Nat → Option Nat} {cA : Nat → ClassId} (hT : k_TX tys cA A X) : k_sat l D tys A X Sg cA Lb cc_5 := k_keeps_q (cs := []) (inl := pg_in) (fuel := 3000) (pts := cp_5) hT.1 (fun _ h => absurd h List.not_mem_nil) (by decide +kernel)
/-- X1_spread -/
def cc_6 : k_C := (27, [(2, 4, 0), (0, -2147483648, 2147483647), (2, 31, 0)], [], some (0, -2147483648, 2147483647), [], 1, 24)
def cp_6 : List k_Pt := [(8, [(0, (2, 4, 0)), (1, (0, -2147483648, 2147483647)), (2, (2, 31, 0)), (3, (0, -2147483648, 2147483647)), (4, (0, -2147483648, 2147483647)), (5, (0, 0, 18))], [], [(-24, 5)], 455), (26, [(0, (2, 4, 0)), (1, (0, -2147483648, 2147483647)), (2, (2, 31, 0)), (3, (0, -2147483648, 2147483647)), (4, (0, -2147483648, 2147483647)), (5, (0, 0, 17)), (6, (0, -2147483648, 2147483647)), (7, (0, 0, 18))], [], [(-24, 5), (-1, 7)], 451)]
theorem sat_6 {l : Launch} {D : va_G} {tys : List (ClassId × FieldType)} {A : Nat → Prop} {X : State → Prop} {Sg : Nat → Option Nat} {cA : Nat → ClassId} (hT : k_TX tys cA A X) : k_sat l D tys A X Sg cA Lb cc_6 := k_keeps_q (cs := [cc_5]) (inl := pg_in) (fuel := 3000) (pts := cp_6) hT.1 (List.forall_mem_cons.mpr ⟨sat_5 hT, fun _ h => absurd h List.not_mem_nil⟩) (by decide +kernel)
/-- X9_weigh -/
def cc_7 : k_C := (100, [(2, 5, 0), (2, 2, 0), (2, 3, 0), (2, 4, 0)], [], none, [(29, 0), (30, 0)], 1, 22)
def cp_7 : List k_Pt := [(11, [(0, (2, 5, 0)), (1, (2, 2, 0)), (2, (2, 3, 0)), (3, (2, 4, 0)), (4, (0, 0, 12)), (5, (0, 0, 12))], [], [(-1, 5)], 35), (49, [(0, (2, 5, 0)), (1, (2, 2, 0)), (2, (2, 3, 0)), (3, (2, 4, 0)), (4, (0, 0, 12)), (5, (0, 0, 8))], [], [(-1, 5)], 19), (110, [(0, (2, 5, 0)), (1, (2, 2, 0)), (2, (2, 3, 0)), (3, (2, 4, 0)), (4, (0, 0, 12)), (5, (0, -1, 5))], [], [(1, 5)], 2)]
theorem sat_7 {l : Launch} {D : va_G} {tys : List (ClassId × FieldType)} {A : Nat → Prop} {X : State → Prop} {Sg : Nat → Option Nat} {cA : Nat → ClassId} (hT : k_TX tys cA A X) : k_sat l D tys A X Sg cA Lb cc_7 := k_keeps_q (cs := []) (inl := pg_in) (fuel := 3000) (pts := cp_7) hT.1 (fun _ h => absurd h List.not_mem_nil) (by decide +kernel)
/-- X9_minute -/
def cc_8 : k_C := (94, [(2, 5, 0), (2, 2, 0), (2, 3, 0), (0, 0, 1)], [], some (0, -2147483648, 2147483647), [(3, 6), (19, 0), (20, 0)], 2, 48)
def cp_8 : List k_Pt := [(6, [(0, (2, 5, 0)), (1, (2, 2, 0)), (2, (2, 3, 0)), (3, (0, 0, 1)), (4, (0, -2147483648, 2147483647)), (5, (0, 0, 6))], [], [(-1, 5)], 7)]
theorem sat_8 {l : Launch} {D : va_G} {tys : List (ClassId × FieldType)} {A : Nat → Prop} {X : State → Prop} {Sg : Nat → Option Nat} {cA : Nat → ClassId} (hT : k_TX tys cA A X) : k_sat l D tys A X Sg cA Lb cc_8 := k_keeps_q (cs := [cc_2]) (inl := pg_in) (fuel := 3000) (pts := cp_8) hT.1 (List.forall_mem_cons.mpr ⟨sat_2 hT, fun _ h => absurd h List.not_mem_nil⟩) (by decide +kernel)
/-- X9_goOn -/
def cc_9 : k_C := (87, [(2, 5, 0), (2, 2, 0), (2, 3, 0), (0, 0, 60), (0, 0, 1)], [], some (0, -2147483648, 2147483647), [(3, 6), (19, 0), (20, 0)], 3, 75)
def cp_9 : List k_Pt := [(6, [(0, (2, 5, 0)), (1, (2, 2, 0)), (2, (2, 3, 0)), (3, (0, 0, 60)), (4, (0, 0, 1)), (5, (0, -2147483648, 2147483647)), (6, (0, 0, 60))], [], [(-1, 6)], 61)]
theorem sat_9 {l : Launch} {D : va_G} {tys : List (ClassId × FieldType)} {A : Nat → Prop} {X : State → Prop} {Sg : Nat → Option Nat} {cA : Nat → ClassId} (hT : k_TX tys cA A X) : k_sat l D tys A X Sg cA Lb cc_9 := k_keeps_q (cs := [cc_8]) (inl := pg_in) (fuel := 3000) (pts := cp_9) hT.1 (List.forall_mem_cons.mpr ⟨sat_8 hT, fun _ h => absurd h List.not_mem_nil⟩) (by decide +kernel)
/-- X9_waysWithin -/
def cc_10 : k_C := (99, [(2, 5, 0), (2, 2, 0), (2, 3, 0), (0, 0, 5), (0, -60, 4)], [], some (0, 0, 7), [], 1, 23)
def cp_10 : List k_Pt := []
theorem sat_10 {l : Launch} {D : va_G} {tys : List (ClassId × FieldType)} {A : Nat → Prop} {X : State → Prop} {Sg : Nat → Option Nat} {cA : Nat → ClassId} (hT : k_TX tys cA A X) : k_sat l D tys A X Sg cA Lb cc_10 := k_keeps_q (cs := []) (inl := pg_in) (fuel := 3000) (pts := cp_10) hT.1 (fun _ h => absurd h List.not_mem_nil) (by decide +kernel)
/-- X9_settle -/
def cc_11 : k_C := (97, [(2, 5, 0), (2, 2, 0), (2, 3, 0)], [], some (0, 0, 2147483647), [(19, 0), (20, 0)], 3, 72)
def cp_11 : List k_Pt := [(5, [(0, (2, 5, 0)), (1, (2, 2, 0)), (2, (2, 3, 0)), (3, (0, 0, 2147483647)), (4, (0, 0, 6))], [], [(-1, 4)], 7)]
theorem sat_11 {l : Launch} {D : va_G} {tys : List (ClassId × FieldType)} {A : Nat → Prop} {X : State → Prop} {Sg : Nat → Option Nat} {cA : Nat → ClassId} (hT : k_TX tys cA A X) : k_sat l D tys A X Sg cA Lb cc_11 := k_keeps_q (cs := []) (inl := pg_in) (fuel := 3000) (pts := cp_11) hT.1 (fun _ h => absurd h List.not_mem_nil) (by decide +kernel)
/-- X9_isStill -/
def cc_12 : k_C := (91, [(2, 5, 0), (2, 2, 0), (2, 3, 0)], [], some (0, 0, 1), [], 3, 72)
def cp_12 : List k_Pt := [(2, [(0, (2, 5, 0)), (1, (2, 2, 0)), (2, (2, 3, 0)), (3, (0, 0, 6))], [], [(-1, 3)], 7)]
theorem sat_12 {l : Launch} {D : va_G} {tys : List (ClassId × FieldType)} {A : Nat → Prop} {X : State → Prop} {Sg : Nat → Option Nat} {cA : Nat → ClassId} (hT : k_TX tys cA A X) : k_sat l D tys A X Sg cA Lb cc_12 := k_keeps_q (cs := []) (inl := pg_in) (fuel := 3000) (pts := cp_12) hT.1 (fun _ h => absurd h List.not_mem_nil) (by decide +kernel)
/-- height any -/
def cc_13 : k_C := (89, [(2, 5, 0), (2, 2, 0), (2, 3, 0), (2, 4, 0), (0, -2147483648, 2147483647)], [], some (0, -2147483648, 2147483647), [], 1, 23)
def cp_13 : List k_Pt := [(39, [(0, (2, 5, 0)), (1, (2, 2, 0)), (2, (2, 3, 0)), (3, (2, 4, 0)), (4, (0, -2147483648, 11)), (5, (0, -2147483648, 2147483647)), (6, (0, -2147483648, 11)), (7, (0, 0, 6))], [], [(-1, 7)], 7)]
theorem sat_13 {l : Launch} {D : va_G} {tys : List (ClassId × FieldType)} {A : Nat → Prop} {X : State → Prop} {Sg : Nat → Option Nat} {cA : Nat → ClassId} (hT : k_TX tys cA A X) : k_sat l D tys A X Sg cA Lb cc_13 := k_keeps_q (cs := []) (inl := pg_in) (fuel := 3000) (pts := cp_13) hT.1 (fun _ h => absurd h List.not_mem_nil) (by decide +kernel)
/-- X9_level -/
def cc_14 : k_C := (92, [(2, 5, 0), (2, 2, 0), (2, 3, 0), (2, 4, 0)], [], none, [(31, 0)], 1, 23)
def cp_14 : List k_Pt := [(3, [(0, (2, 5, 0)), (1, (2, 2, 0)), (2, (2, 3, 0)), (3, (2, 4, 0)), (4, (0, 0, 12))], [], [(-1, 4)], 23), (81, [(0, (2, 5, 0)), (1, (2, 2, 0)), (2, (2, 3, 0)), (3, (2, 4, 0)), (4, (0, 0, 6))], [], [(-1, 4)], 7)]
theorem sat_14 {l : Launch} {D : va_G} {tys : List (ClassId × FieldType)} {A : Nat → Prop} {X : State → Prop} {Sg : Nat → Option Nat} {cA : Nat → ClassId} (hT : k_TX tys cA A X) : k_sat l D tys A X Sg cA Lb cc_14 := k_keeps_q (cs := []) (inl := pg_in) (fuel := 3000) (pts := cp_14) hT.1 (fun _ h => absurd h List.not_mem_nil) (by decide +kernel)
/-- X9_meeting -/
def cc_15 : k_C := (93, [(2, 5, 0), (2, 2, 0), (2, 3, 0), (2, 4, 0), (0, -2147483648, 2147483647), (0, -2147483648, 2147483647)], [], some (0, 0, 1), [], 2, 50)
def cp_15 : List k_Pt := []
theorem sat_15 {l : Launch} {D : va_G} {tys : List (ClassId × FieldType)} {A : Nat → Prop} {X : State → Prop} {Sg : Nat → Option Nat} {cA : Nat → ClassId} (hT : k_TX tys cA A X) : k_sat l D tys A X Sg cA Lb cc_15 := k_keeps_q (cs := [cc_13]) (inl := pg_in) (fuel := 3000) (pts := cp_15) hT.1 (List.forall_mem_cons.mpr ⟨sat_13 hT, fun _ h => absurd h List.not_mem_nil⟩) (by decide +kernel)
/-- X9_countAt -/
def cc_16 : k_C := (86, [(2, 5, 0), (2, 2, 0), (2, 3, 0), (2, 4, 0), (2, 32, 0)], [], some (0, -2147483648, 2147483647), [(31, 0)], 2, 49)
def cp_16 : List k_Pt := [(13, [(0, (2, 5, 0)), (1, (2, 2, 0)), (2, (2, 3, 0)), (3, (2, 4, 0)), (4, (2, 32, 0)), (5, (0, -2147483648, 2147483647)), (6, (0, 0, 12))], [], [(-1, 6)], 13)]
theorem sat_16 {l : Launch} {D : va_G} {tys : List (ClassId × FieldType)} {A : Nat → Prop} {X : State → Prop} {Sg : Nat → Option Nat} {cA : Nat → ClassId} (hT : k_TX tys cA A X) : k_sat l D tys A X Sg cA Lb cc_16 := k_keeps_q (cs := [cc_14]) (inl := pg_in) (fuel := 3000) (pts := cp_16) hT.1 (List.forall_mem_cons.mpr ⟨sat_14 hT, fun _ h => absurd h List.not_mem_nil⟩) (by decide +kernel)
/-- X5_valueOf -/
def cc_17 : k_C := (64, [(0, -2147483648, 2147483647), (2, 35, 0)], [], some (0, -2147483648, 2147483647), [], 0, 0)
def cp_17 : List k_Pt := []
theorem sat_17 {l : Launch} {D : va_G} {tys : List (ClassId × FieldType)} {A : Nat → Prop} {X : State → Prop} {Sg : Nat → Option Nat} {cA : Nat → ClassId} (hT : k_TX tys cA A X) : k_sat l D tys A X Sg cA Lb cc_17 := k_keeps_q (cs := []) (inl := pg_in) (fuel := 3000) (pts := cp_17) hT.1 (fun _ h => absurd h List.not_mem_nil) (by decide +kernel)
/-- X5_bounded -/
def cc_18 : k_C := (53, [(1, 0, 0)], [], some (0, -1000000, 1000000), [], 2, 60)
theorem sat_18 {l : Launch} {D : va_G} {tys : List (ClassId × FieldType)} {A : Nat → Prop} {X : State → Prop} {Sg : Nat → Option Nat} {cA : Nat → ClassId} (hT : k_TX tys cA A X) : k_sat l D tys A X Sg cA Lb cc_18 := hand_X5_bounded rfl
/-- X5_worked -/
def cc_19 : k_C := (65, [(0, -2147483648, 2147483647), (0, -2147483648, 2147483647), (0, -2147483648, 2147483647)], [], some (0, -2147483648, 2147483647), [], 3, 81)
def cp_19 : List k_Pt := []
theorem sat_19 {l : Launch} {D : va_G} {tys : List (ClassId × FieldType)} {A : Nat → Prop} {X : State → Prop} {Sg : Nat → Option Nat} {cA : Nat → ClassId} (hT : k_TX tys cA A X) : k_sat l D tys A X Sg cA Lb cc_19 := k_keeps_q (cs := [cc_18]) (inl := pg_in) (fuel := 3000) (pts := cp_19) hT.1 (List.forall_mem_cons.mpr ⟨sat_18 hT, fun _ h => absurd h List.not_mem_nil⟩) (by decide +kernel)
