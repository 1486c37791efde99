/-- X10_together -/
def cc_80 : k_C := (149, [(2, 0, 0), (0, -2147483648, 2147483647)], [], some (0, -2147483648, 2147483647), [(43, 0), (44, 0)], 4, 116)
def cp_80 : List k_Pt := []
theorem sat_80 {l : Launch} {D : va_G} {tys : List (ClassId × FieldType)} {A : Nat → Prop} {X : State → Prop} {Sg : Nat → Option Nat} {cA : Nat → ClassId} (hT : k_TX tys cA A X) : k_sat l D tys A X Sg cA Lb cc_80 := k_keeps_q (cs := [cc_51]) (inl := pg_in) (fuel := 3000) (pts := cp_80) hT.1 (List.forall_mem_cons.mpr ⟨sat_51 hT, fun _ h => absurd h List.not_mem_nil⟩) (by decide +kernel)
/-- X10_task -/
def cc_81 : k_C := (146, [(2, 0, 0), (0, -2147483648, 2147483647), (0, -2147483648, 2147483647)], [], some (0, -1, 6), [(4, 5), (27, 0), (28, 0)], 2, 42)
def cp_81 : List k_Pt := []
theorem sat_81 {l : Launch} {D : va_G} {tys : List (ClassId × FieldType)} {A : Nat → Prop} {X : State → Prop} {Sg : Nat → Option Nat} {cA : Nat → ClassId} (hT : k_TX tys cA A X) : k_sat l D tys A X Sg cA Lb cc_81 := k_keeps_q (cs := []) (inl := pg_in) (fuel := 3000) (pts := cp_81) hT.1 (fun _ h => absurd h List.not_mem_nil) (by decide +kernel)
/-- X10_orders -/
def cc_82 : k_C := (132, [(2, 0, 0), (0, -2147483648, 2147483647)], [], some (0, -2147483648, 2147483647), [(3, 5), (3, 6), (9, 1), (9, 2), (19, 0), (20, 0), (21, 0), (22, 0), (23, 0), (29, 0), (30, 0)], 11, 338)
def cp_82 : List k_Pt := []
theorem sat_82 {l : Launch} {D : va_G} {tys : List (ClassId × FieldType)} {A : Nat → Prop} {X : State → Prop} {Sg : Nat → Option Nat} {cA : Nat → ClassId} (hT : k_TX tys cA A X) : k_sat l D tys A X Sg cA Lb cc_82 := k_keeps_q (cs := [cc_63]) (inl := pg_in) (fuel := 3000) (pts := cp_82) hT.1 (List.forall_mem_cons.mpr ⟨sat_63 hT, fun _ h => absurd h List.not_mem_nil⟩) (by decide +kernel)
/-- X10_woke -/
def cc_83 : k_C := (158, [(2, 0, 0), (0, -2147483648, 2147483647), (0, -2147483648, 2147483647)], [], some (0, 0, 1), [(32, 0)], 1, 21)
def cp_83 : List k_Pt := []
theorem sat_83 {l : Launch} {D : va_G} {tys : List (ClassId × FieldType)} {A : Nat → Prop} {X : State → Prop} {Sg : Nat → Option Nat} {cA : Nat → ClassId} (hT : k_TX tys cA A X) : k_sat l D tys A X Sg cA Lb cc_83 := k_keeps_q (cs := []) (inl := pg_in) (fuel := 3000) (pts := cp_83) hT.1 (fun _ h => absurd h List.not_mem_nil) (by decide +kernel)
/-- X10_told -/
def cc_84 : k_C := (150, [(2, 0, 0), (2, 32, 0)], [], some (0, -2147483648, 2147483647), [], 0, 0)
def cp_84 : List k_Pt := [(4, [(0, (2, 0, 0)), (1, (2, 32, 0)), (2, (0, -2147483648, 2147483647)), (3, (0, 0, 12))], [], [(-1, 3)], 13)]
theorem sat_84 {l : Launch} {D : va_G} {tys : List (ClassId × FieldType)} {A : Nat → Prop} {X : State → Prop} {Sg : Nat → Option Nat} {cA : Nat → ClassId} (hT : k_TX tys cA A X) : k_sat l D tys A X Sg cA Lb cc_84 := k_keeps_q (cs := []) (inl := pg_in) (fuel := 3000) (pts := cp_84) hT.1 (fun _ h => absurd h List.not_mem_nil) (by decide +kernel)
/-- X10_slipped -/
def cc_85 : k_C := (142, [(2, 0, 0), (0, -2147483648, 2147483647)], [], some (0, -2147483648, 2147483647), [(3, 5), (3, 6), (19, 0), (20, 0), (21, 0), (22, 0), (23, 0), (29, 0), (30, 0), (31, 0)], 4, 142)
def cp_85 : List k_Pt := [(24, [(0, (2, 0, 0)), (1, (0, 1, 60)), (2, (0, -2147483648, 2147483647)), (3, (0, 0, 6))], [], [(-1, 3)], 7)]
theorem sat_85 {l : Launch} {D : va_G} {tys : List (ClassId × FieldType)} {A : Nat → Prop} {X : State → Prop} {Sg : Nat → Option Nat} {cA : Nat → ClassId} (hT : k_TX tys cA A X) : k_sat l D tys A X Sg cA Lb cc_85 := k_keeps_q (cs := [cc_1, cc_7, cc_9, cc_16, cc_84]) (inl := pg_in) (fuel := 3000) (pts := cp_85) hT.1 (List.forall_mem_cons.mpr ⟨sat_1 hT, List.forall_mem_cons.mpr ⟨sat_7 hT, List.forall_mem_cons.mpr ⟨sat_9 hT, List.forall_mem_cons.mpr ⟨sat_16 hT, List.forall_mem_cons.mpr ⟨sat_84 hT, fun _ h => absurd h List.not_mem_nil⟩⟩⟩⟩⟩) (by decide +kernel)
/-- X10_rent -/
def cc_86 : k_C := (136, [(2, 0, 0), (0, -2147483648, 2147483647), (0, -2147483648, 2147483647)], [], some (0, -2147483648, 2147483647), [], 3, 71)
def cp_86 : List k_Pt := [(43, [(0, (2, 0, 0)), (1, (0, -1, -1)), (2, (0, 0, 99)), (3, (0, -2147483648, 2147483647)), (4, (0, 0, 12))], [], [(-1, 4)], 13)]
theorem sat_86 {l : Launch} {D : va_G} {tys : List (ClassId × FieldType)} {A : Nat → Prop} {X : State → Prop} {Sg : Nat → Option Nat} {cA : Nat → ClassId} (hT : k_TX tys cA A X) : k_sat l D tys A X Sg cA Lb cc_86 := k_keeps_q (cs := [cc_13]) (inl := pg_in) (fuel := 3000) (pts := cp_86) hT.1 (List.forall_mem_cons.mpr ⟨sat_13 hT, fun _ h => absurd h List.not_mem_nil⟩) (by decide +kernel)
/-- X10_even -/
def cc_87 : k_C := (110, [(2, 0, 0), (0, -2147483648, 2147483647)], [], some (0, -2147483648, 2147483647), [(31, 0)], 2, 49)
def cp_87 : List k_Pt := [(58, [(0, (2, 0, 0)), (1, (0, 0, 1)), (2, (0, 2, 12)), (3, (0, -2147483648, 2147483647)), (4, (0, 0, 2147483647)), (5, (0, 0, 12))], [], [(-18, 5)], 233), (82, [(0, (2, 0, 0)), (1, (0, 0, 1)), (2, (0, 2, 12)), (3, (0, -2147483648, 2147483647)), (4, (0, 0, 2147483647)), (5, (0, 0, 11)), (6, (0, -2147483648, 2147483647)), (7, (0, -2147483648, 2147483647)), (8, (0, 0, 12))], [], [(-18, 5), (-1, 8)], 229)]
theorem sat_87 {l : Launch} {D : va_G} {tys : List (ClassId × FieldType)} {A : Nat → Prop} {X : State → Prop} {Sg : Nat → Option Nat} {cA : Nat → ClassId} (hT : k_TX tys cA A X) : k_sat l D tys A X Sg cA Lb cc_87 := k_keeps_q (cs := [cc_14]) (inl := pg_in) (fuel := 3000) (pts := cp_87) hT.1 (List.forall_mem_cons.mpr ⟨sat_14 hT, fun _ h => absurd h List.not_mem_nil⟩) (by decide +kernel)
/-- X10_tellLetters -/
def cc_88 : k_C := (147, [(2, 0, 0), (2, 3, 0), (0, 0, 5), (0, 0, 60)], [], none, [(35, 0)], 1, 23)
def cp_88 : List k_Pt := []
theorem sat_88 {l : Launch} {D : va_G} {tys : List (ClassId × FieldType)} {A : Nat → Prop} {X : State → Prop} {Sg : Nat → Option Nat} {cA : Nat → ClassId} (hT : k_TX tys cA A X) : k_sat l D tys A X Sg cA Lb cc_88 := k_keeps_q (cs := []) (inl := pg_in) (fuel := 3000) (pts := cp_88) hT.1 (fun _ h => absurd h List.not_mem_nil) (by decide +kernel)
/-- X10_goByRule -/
def cc_89 : k_C := (115, [(2, 0, 0), (2, 3, 0), (2, 6, 0), (0, 1, 60)], [], some (0, -2147483648, 2147483647), [(3, 5), (3, 6), (19, 0), (20, 0), (21, 0), (29, 0), (30, 0), (35, 0), (37, 0)], 5, 127)
def cp_89 : List k_Pt := [(22, [(0, (2, 0, 0)), (1, (2, 3, 0)), (2, (2, 6, 0)), (3, (0, 1, 60)), (4, (0, -2147483648, 2147483647)), (5, (0, 0, 61))], [], [(-12, 5)], 743), (31, [(0, (2, 0, 0)), (1, (2, 3, 0)), (2, (2, 6, 0)), (3, (0, 1, 60)), (4, (0, -2147483648, 2147483647)), (5, (0, 0, 60)), (6, (0, 0, 6))], [], [(-12, 5), (-1, 6)], 739)]
theorem sat_89 {l : Launch} {D : va_G} {tys : List (ClassId × FieldType)} {A : Nat → Prop} {X : State → Prop} {Sg : Nat → Option Nat} {cA : Nat → ClassId} (hT : k_TX tys cA A X) : k_sat l D tys A X Sg cA Lb cc_89 := k_keeps_q (cs := [cc_7, cc_8, cc_20, cc_88]) (inl := pg_in) (fuel := 3000) (pts := cp_89) hT.1 (List.forall_mem_cons.mpr ⟨sat_7 hT, List.forall_mem_cons.mpr ⟨sat_8 hT, List.forall_mem_cons.mpr ⟨sat_20 hT, List.forall_mem_cons.mpr ⟨sat_88 hT, fun _ h => absurd h List.not_mem_nil⟩⟩⟩⟩) (by decide +kernel)
/-- X10_keep -/
def cc_90 : k_C := (125, [(2, 0, 0), (0, -2147483648, 2147483647), (0, -2147483648, 2147483647)], [], some (0, -2147483648, 2147483647), [(3, 5), (3, 6), (19, 0), (20, 0), (21, 0), (29, 0), (30, 0), (35, 0), (37, 0)], 6, 153)
def cp_90 : List k_Pt := []
theorem sat_90 {l : Launch} {D : va_G} {tys : List (ClassId × FieldType)} {A : Nat → Prop} {X : State → Prop} {Sg : Nat → Option Nat} {cA : Nat → ClassId} (hT : k_TX tys cA A X) : k_sat l D tys A X Sg cA Lb cc_90 := k_keeps_q (cs := [cc_89]) (inl := pg_in) (fuel := 3000) (pts := cp_90) hT.1 (List.forall_mem_cons.mpr ⟨sat_89 hT, fun _ h => absurd h List.not_mem_nil⟩) (by decide +kernel)
/-- X10_tried -/
def cc_91 : k_C := (151, [(2, 0, 0), (0, -2147483648, 2147483647), (0, -2147483648, 2147483647), (0, -2147483648, 2147483647)], [], some (0, -2147483648, 2147483647), [(3, 5), (3, 6), (19, 0), (20, 0), (21, 0), (22, 0), (23, 0), (29, 0), (30, 0), (31, 0), (35, 0), (37, 0)], 6, 153)
def cp_91 : List k_Pt := []
theorem sat_91 {l : Launch} {D : va_G} {tys : List (ClassId × FieldType)} {A : Nat → Prop} {X : State → Prop} {Sg : Nat → Option Nat} {cA : Nat → ClassId} (hT : k_TX tys cA A X) : k_sat l D tys A X Sg cA Lb cc_91 := k_keeps_q (cs := [cc_1, cc_16, cc_89]) (inl := pg_in) (fuel := 3000) (pts := cp_91) hT.1 (List.forall_mem_cons.mpr ⟨sat_1 hT, List.forall_mem_cons.mpr ⟨sat_16 hT, List.forall_mem_cons.mpr ⟨sat_89 hT, fun _ h => absurd h List.not_mem_nil⟩⟩⟩) (by decide +kernel)
/-- X10_best -/
def cc_92 : k_C := (105, [(2, 0, 0), (0, -2147483648, 2147483647)], [], some (0, -1, 3), [(3, 5), (3, 6), (19, 0), (20, 0), (21, 0), (22, 0), (23, 0), (29, 0), (30, 0), (31, 0), (35, 0), (37, 0)], 6, 153)
def cp_92 : List k_Pt := [(30, [(0, (2, 0, 0)), (1, (0, 1, 60)), (2, (0, -1, 3)), (3, (0, -2147483648, 2147483647)), (4, (0, -2147483648, 2147483647)), (5, (0, 0, 4))], [], [(-1, 5)], 5)]
theorem sat_92 {l : Launch} {D : va_G} {tys : List (ClassId × FieldType)} {A : Nat → Prop} {X : State → Prop} {Sg : Nat → Option Nat} {cA : Nat → ClassId} (hT : k_TX tys cA A X) : k_sat l D tys A X Sg cA Lb cc_92 := k_keeps_q (cs := [cc_1, cc_16, cc_89]) (inl := pg_in) (fuel := 3000) (pts := cp_92) hT.1 (List.forall_mem_cons.mpr ⟨sat_1 hT, List.forall_mem_cons.mpr ⟨sat_16 hT, List.forall_mem_cons.mpr ⟨sat_89 hT, fun _ h => absurd h List.not_mem_nil⟩⟩⟩) (by decide +kernel)
/-- X10_feast -/
def cc_93 : k_C := (112, [(2, 0, 0), (0, -2147483648, 2147483647)], [], some (0, -1, 120), [(8, 2), (43, 0)], 4, 95)
def cp_93 : List k_Pt := []
theorem sat_93 {l : Launch} {D : va_G} {tys : List (ClassId × FieldType)} {A : Nat → Prop} {X : State → Prop} {Sg : Nat → Option Nat} {cA : Nat → ClassId} (hT : k_TX tys cA A X) : k_sat l D tys A X Sg cA Lb cc_93 := k_keeps_q (cs := [cc_55]) (inl := pg_in) (fuel := 3000) (pts := cp_93) hT.1 (List.forall_mem_cons.mpr ⟨sat_55 hT, fun _ h => absurd h List.not_mem_nil⟩) (by decide +kernel)
/-- X10_group -/
def cc_94 : k_C := (116, [(2, 0, 0), (0, -2147483648, 2147483647)], [], some (0, -2147483648, 2147483647), [(31, 0)], 2, 51)
def cp_94 : List k_Pt := [(74, [(0, (2, 0, 0)), (1, (0, -1, -1)), (2, (0, -2147483648, 2147483647)), (3, (0, -2147483648, 2147483647)), (4, (0, 0, 18))], [], [(-1, 4)], 19)]
theorem sat_94 {l : Launch} {D : va_G} {tys : List (ClassId × FieldType)} {A : Nat → Prop} {X : State → Prop} {Sg : Nat → Option Nat} {cA : Nat → ClassId} (hT : k_TX tys cA A X) : k_sat l D tys A X Sg cA Lb cc_94 := k_keeps_q (cs := [cc_6, cc_14]) (inl := pg_in) (fuel := 3000) (pts := cp_94) hT.1 (List.forall_mem_cons.mpr ⟨sat_6 hT, List.forall_mem_cons.mpr ⟨sat_14 hT, fun _ h => absurd h List.not_mem_nil⟩⟩) (by decide +kernel)
/-- X10_often -/
def cc_95 : k_C := (131, [(2, 0, 0), (0, -2147483648, 2147483647), (0, -2147483648, 2147483647), (0, -2147483648, 2147483647), (0, -2147483648, 2147483647)], [], some (0, -2147483648, 2147483647), [(3, 5), (3, 6), (19, 0), (20, 0), (21, 0), (22, 0), (23, 0), (29, 0), (30, 0)], 3, 142)
def cp_95 : List k_Pt := [(62, [(0, (2, 0, 0)), (1, (0, 0, 17)), (2, (0, 0, 17)), (3, (0, 0, 60)), (4, (0, 0, 2)), (5, (0, -2147483648, 2147483647)), (6, (0, -1, 60)), (7, (0, -1, 60)), (8, (0, 0, 61))], [], [(-1, 8)], 62)]
theorem sat_95 {l : Launch} {D : va_G} {tys : List (ClassId × FieldType)} {A : Nat → Prop} {X : State → Prop} {Sg : Nat → Option Nat} {cA : Nat → ClassId} (hT : k_TX tys cA A X) : k_sat l D tys A X Sg cA Lb cc_95 := k_keeps_q (cs := [cc_1, cc_7, cc_8, cc_15]) (inl := pg_in) (fuel := 3000) (pts := cp_95) hT.1 (List.forall_mem_cons.mpr ⟨sat_1 hT, List.forall_mem_cons.mpr ⟨sat_7 hT, List.forall_mem_cons.mpr ⟨sat_8 hT, List.forall_mem_cons.mpr ⟨sat_15 hT, fun _ h => absurd h List.not_mem_nil⟩⟩⟩⟩) (by decide +kernel)
/-- X10_cut -/
def cc_96 : k_C := (108, [(2, 0, 0), (0, -2147483648, 2147483647), (0, -2147483648, 2147483647)], [], some (0, -2147483648, 2147483647), [], 3, 71)
def cp_96 : List k_Pt := [(40, [(0, (2, 0, 0)), (1, (0, 0, 5)), (2, (0, 1, 1)), (3, (0, -2147483648, 2147483647)), (4, (0, -2147483648, 2147483647)), (5, (0, 0, 12))], [], [(-1, 5)], 13)]
theorem sat_96 {l : Launch} {D : va_G} {tys : List (ClassId × FieldType)} {A : Nat → Prop} {X : State → Prop} {Sg : Nat → Option Nat} {cA : Nat → ClassId} (hT : k_TX tys cA A X) : k_sat l D tys A X Sg cA Lb cc_96 := k_keeps_q (cs := [cc_0, cc_13]) (inl := pg_in) (fuel := 3000) (pts := cp_96) hT.1 (List.forall_mem_cons.mpr ⟨sat_0 hT, List.forall_mem_cons.mpr ⟨sat_13 hT, fun _ h => absurd h List.not_mem_nil⟩⟩) (by decide +kernel)
/-- X10_load -/
def cc_97 : k_C := (126, [(2, 0, 0), (0, -2147483648, 2147483647)], [], some (0, -1, 99), [(3, 5), (3, 6), (19, 0), (20, 0), (21, 0), (22, 0), (23, 0), (29, 0), (30, 0)], 4, 122)
def cp_97 : List k_Pt := [(24, [(0, (2, 0, 0)), (1, (0, 0, 11)), (2, (0, -1, 99))], [], [(1, 2)], 2)]
theorem sat_97 {l : Launch} {D : va_G} {tys : List (ClassId × FieldType)} {A : Nat → Prop} {X : State → Prop} {Sg : Nat → Option Nat} {cA : Nat → ClassId} (hT : k_TX tys cA A X) : k_sat l D tys A X Sg cA Lb cc_97 := k_keeps_q (cs := [cc_1, cc_7, cc_12]) (inl := pg_in) (fuel := 3000) (pts := cp_97) hT.1 (List.forall_mem_cons.mpr ⟨sat_1 hT, List.forall_mem_cons.mpr ⟨sat_7 hT, List.forall_mem_cons.mpr ⟨sat_12 hT, fun _ h => absurd h List.not_mem_nil⟩⟩⟩) (by decide +kernel)
/-- X10_strain -/
def cc_98 : k_C := (144, [(2, 0, 0), (0, -2147483648, 2147483647)], [], some (0, -2147483648, 2147483647), [(29, 0), (30, 0)], 2, 50)
def cp_98 : List k_Pt := [(66, [(0, (2, 0, 0)), (1, (0, -1, -1)), (2, (0, 0, 5)), (3, (0, 1, 6))], [], [(-1, 3)], 7)]
theorem sat_98 {l : Launch} {D : va_G} {tys : List (ClassId × FieldType)} {A : Nat → Prop} {X : State → Prop} {Sg : Nat → Option Nat} {cA : Nat → ClassId} (hT : k_TX tys cA A X) : k_sat l D tys A X Sg cA Lb cc_98 := k_keeps_q (cs := [cc_7]) (inl := pg_in) (fuel := 3000) (pts := cp_98) hT.1 (List.forall_mem_cons.mpr ⟨sat_7 hT, fun _ h => absurd h List.not_mem_nil⟩) (by decide +kernel)
/-- X10_above -/
def cc_99 : k_C := (101, [(2, 0, 0), (0, -2147483648, 2147483647)], [], some (0, -2147483648, 2147483647), [(31, 0)], 2, 49)
def cp_99 : List k_Pt := [(33, [(0, (2, 0, 0)), (1, (0, 0, 11)), (2, (0, -2147483648, 2147483647)), (3, (0, 0, 12))], [], [(-1, 3)], 13)]
theorem sat_99 {l : Launch} {D : va_G} {tys : List (ClassId × FieldType)} {A : Nat → Prop} {X : State → Prop} {Sg : Nat → Option Nat} {cA : Nat → ClassId} (hT : k_TX tys cA A X) : k_sat l D tys A X Sg cA Lb cc_99 := k_keeps_q (cs := [cc_14]) (inl := pg_in) (fuel := 3000) (pts := cp_99) hT.1 (List.forall_mem_cons.mpr ⟨sat_14 hT, fun _ h => absurd h List.not_mem_nil⟩) (by decide +kernel)
