/-- X4_falling -/
def scc_0 : k_C := (44, [(2, 2, 0), (0, 0, 5)], [], some (0, -2147483648, 2147483647), [], 0, 0)
def scp_0 : List k_Pt := [(10, [(0, (2, 2, 0)), (1, (0, 0, 5)), (2, (0, -2147483648, 2147483647)), (3, (0, 1, 6))], [], [(-1, 3)], 7)]
theorem ssat_0 {l : Launch} {D : va_G} {tys : List (ClassId × FieldType)} {A : Nat → Prop} {X : State → Prop} {Sg : Nat → Option Nat} {cA : Nat → ClassId} (hT : k_TX tys cA A X) : k_sat l D tys A X Sg cA Ls scc_0 := k_keeps_q (cs := []) (inl := pg_in) (fuel := 3000) (pts := scp_0) hT.1 (fun _ h => absurd h List.not_mem_nil) (by decide +kernel)
/-- take 100 3 -/
def scc_1 : k_C := (70, [(2, 100, 0), (2, 3, 0)], [], none, [(100, 5), (100, 6), (101, 0), (102, 0), (103, 0), (104, 0), (105, 0)], 1, 100)
def scp_1 : List k_Pt := [(62, [(0, (2, 100, 0)), (1, (2, 3, 0)), (2, (0, 0, 6))], [], [(-1, 2)], 7)]
theorem ssat_1 {l : Launch} {D : va_G} {tys : List (ClassId × FieldType)} {A : Nat → Prop} {X : State → Prop} {Sg : Nat → Option Nat} {cA : Nat → ClassId} (hT : k_TX tys cA A X) : k_sat l D tys A X Sg cA Ls scc_1 := k_keeps_q (cs := []) (inl := pg_in) (fuel := 3000) (pts := scp_1) hT.1 (fun _ h => absurd h List.not_mem_nil) (by decide +kernel)
/-- take 106 3 -/
def scc_2 : k_C := (70, [(2, 106, 0), (2, 3, 0)], [], none, [(106, 5), (106, 6), (107, 0), (108, 0), (109, 0), (110, 0), (111, 0)], 1, 100)
def scp_2 : List k_Pt := [(62, [(0, (2, 106, 0)), (1, (2, 3, 0)), (2, (0, 0, 6))], [], [(-1, 2)], 7)]
theorem ssat_2 {l : Launch} {D : va_G} {tys : List (ClassId × FieldType)} {A : Nat → Prop} {X : State → Prop} {Sg : Nat → Option Nat} {cA : Nat → ClassId} (hT : k_TX tys cA A X) : k_sat l D tys A X Sg cA Ls scc_2 := k_keeps_q (cs := []) (inl := pg_in) (fuel := 3000) (pts := scp_2) hT.1 (fun _ h => absurd h List.not_mem_nil) (by decide +kernel)
/-- take 3 106 -/
def scc_3 : k_C := (70, [(2, 3, 0), (2, 106, 0)], [], none, [(3, 5), (3, 6), (19, 0), (20, 0), (21, 0), (22, 0), (23, 0)], 1, 100)
def scp_3 : List k_Pt := [(62, [(0, (2, 3, 0)), (1, (2, 106, 0)), (2, (0, 0, 6))], [], [(-1, 2)], 7)]
theorem ssat_3 {l : Launch} {D : va_G} {tys : List (ClassId × FieldType)} {A : Nat → Prop} {X : State → Prop} {Sg : Nat → Option Nat} {cA : Nat → ClassId} (hT : k_TX tys cA A X) : k_sat l D tys A X Sg cA Ls scc_3 := k_keeps_q (cs := []) (inl := pg_in) (fuel := 3000) (pts := scp_3) hT.1 (fun _ h => absurd h List.not_mem_nil) (by decide +kernel)
/-- take 112 3 -/
def scc_4 : k_C := (70, [(2, 112, 0), (2, 3, 0)], [], none, [(112, 5), (112, 6), (113, 0), (114, 0), (115, 0), (116, 0), (117, 0)], 1, 100)
def scp_4 : List k_Pt := [(62, [(0, (2, 112, 0)), (1, (2, 3, 0)), (2, (0, 0, 6))], [], [(-1, 2)], 7)]
theorem ssat_4 {l : Launch} {D : va_G} {tys : List (ClassId × FieldType)} {A : Nat → Prop} {X : State → Prop} {Sg : Nat → Option Nat} {cA : Nat → ClassId} (hT : k_TX tys cA A X) : k_sat l D tys A X Sg cA Ls scc_4 := k_keeps_q (cs := []) (inl := pg_in) (fuel := 3000) (pts := scp_4) hT.1 (fun _ h => absurd h List.not_mem_nil) (by decide +kernel)
/-- take 112 112 -/
def scc_5 : k_C := (70, [(2, 112, 0), (2, 112, 0)], [], none, [(112, 5), (112, 6), (113, 0), (114, 0), (115, 0), (116, 0), (117, 0)], 1, 100)
def scp_5 : List k_Pt := [(62, [(0, (2, 112, 0)), (1, (2, 112, 0)), (2, (0, 0, 6))], [], [(-1, 2)], 7)]
theorem ssat_5 {l : Launch} {D : va_G} {tys : List (ClassId × FieldType)} {A : Nat → Prop} {X : State → Prop} {Sg : Nat → Option Nat} {cA : Nat → ClassId} (hT : k_TX tys cA A X) : k_sat l D tys A X Sg cA Ls scc_5 := k_keeps_q (cs := []) (inl := pg_in) (fuel := 3000) (pts := scp_5) hT.1 (fun _ h => absurd h List.not_mem_nil) (by decide +kernel)
/-- draw 3 -/
def scc_6 : k_C := (68, [(2, 3, 0)], [], some (0, -2147483648, 2147483647), [(3, 6)], 0, 0)
def scp_6 : List k_Pt := []
theorem ssat_6 {l : Launch} {D : va_G} {tys : List (ClassId × FieldType)} {A : Nat → Prop} {X : State → Prop} {Sg : Nat → Option Nat} {cA : Nat → ClassId} (hT : k_TX tys cA A X) : k_sat l D tys A X Sg cA Ls scc_6 := k_keeps_q (cs := []) (inl := pg_in) (fuel := 3000) (pts := scp_6) hT.1 (fun _ h => absurd h List.not_mem_nil) (by decide +kernel)
/-- draw 100 -/
def scc_7 : k_C := (68, [(2, 100, 0)], [], some (0, -2147483648, 2147483647), [(100, 6)], 0, 0)
def scp_7 : List k_Pt := []
theorem ssat_7 {l : Launch} {D : va_G} {tys : List (ClassId × FieldType)} {A : Nat → Prop} {X : State → Prop} {Sg : Nat → Option Nat} {cA : Nat → ClassId} (hT : k_TX tys cA A X) : k_sat l D tys A X Sg cA Ls scc_7 := k_keeps_q (cs := []) (inl := pg_in) (fuel := 3000) (pts := scp_7) hT.1 (fun _ h => absurd h List.not_mem_nil) (by decide +kernel)
/-- X1_leave -/
def scc_8 : k_C := (25, [(2, 4, 0)], [], none, [(4, 0), (4, 3), (4, 5), (25, 0)], 0, 0)
def scp_8 : List k_Pt := [(17, [(0, (2, 4, 0)), (1, (0, 0, 18))], [], [(-1, 1)], 19)]
theorem ssat_8 {l : Launch} {D : va_G} {tys : List (ClassId × FieldType)} {A : Nat → Prop} {X : State → Prop} {Sg : Nat → Option Nat} {cA : Nat → ClassId} (hT : k_TX tys cA A X) : k_sat l D tys A X Sg cA Ls scc_8 := k_keeps_q (cs := []) (inl := pg_in) (fuel := 3000) (pts := scp_8) hT.1 (fun _ h => absurd h List.not_mem_nil) (by decide +kernel)
/-- X1_join -/
def scc_9 : k_C := (24, [(2, 4, 0), (0, 0, 17), (0, 0, 17), (0, 0, 1)], [], none, [(25, 0)], 0, 0)
def scp_9 : List k_Pt := []
theorem ssat_9 {l : Launch} {D : va_G} {tys : List (ClassId × FieldType)} {A : Nat → Prop} {X : State → Prop} {Sg : Nat → Option Nat} {cA : Nat → ClassId} (hT : k_TX tys cA A X) : k_sat l D tys A X Sg cA Ls scc_9 := k_keeps_q (cs := []) (inl := pg_in) (fuel := 3000) (pts := scp_9) hT.1 (fun _ h => absurd h List.not_mem_nil) (by decide +kernel)
/-- X1_level -/
def scc_10 : k_C := (26, [(2, 4, 0), (0, 0, 17), (2, 31, 0)], [], some (0, -2147483648, 2147483647), [], 0, 0)
def scp_10 : List k_Pt := [(5, [(0, (2, 4, 0)), (1, (0, 0, 17)), (2, (2, 31, 0)), (3, (0, -2147483648, 2147483647)), (4, (0, 0, 18))], [], [(-1, 4)], 19)]
theorem ssat_10 {l : Launch} {D : va_G} {tys : List (ClassId × FieldType)} {A : Nat → Prop} {X : State → Prop} {Sg : Nat → Option Nat} {cA : Nat → ClassId} (hT : k_TX tys cA A X) : k_sat l D tys A X Sg cA Ls scc_10 := k_keeps_q (cs := []) (inl := pg_in) (fuel := 3000) (pts := scp_10) hT.1 (fun _ h => absurd h List.not_mem_nil) (by decide +kernel)
/-- X1_spread -/
def scc_11 : k_C := (27, [(2, 4, 0), (0, -2147483648, 2147483647), (2, 31, 0)], [], some (0, -2147483648, 2147483647), [], 1, 24)
def scp_11 : List k_Pt := [(8, [(0, (2, 4, 0)), (1, (0, -2147483648, 2147483647)), (2, (2, 31, 0)), (3, (0, -2147483648, 2147483647)), (4, (0, -2147483648, 2147483647)), (5, (0, 0, 18))], [], [(-24, 5)], 455), (26, [(0, (2, 4, 0)), (1, (0, -2147483648, 2147483647)), (2, (2, 31, 0)), (3, (0, -2147483648, 2147483647)), (4, (0, -2147483648, 2147483647)), (5, (0, 0, 17)), (6, (0, -2147483648, 2147483647)), (7, (0, 0, 18))], [], [(-24, 5), (-1, 7)], 451)]
theorem ssat_11 {l : Launch} {D : va_G} {tys : List (ClassId × FieldType)} {A : Nat → Prop} {X : State → Prop} {Sg : Nat → Option Nat} {cA : Nat → ClassId} (hT : k_TX tys cA A X) : k_sat l D tys A X Sg cA Ls scc_11 := k_keeps_q (cs := [scc_10]) (inl := pg_in) (fuel := 3000) (pts := scp_11) hT.1 (List.forall_mem_cons.mpr ⟨ssat_10 hT, fun _ h => absurd h List.not_mem_nil⟩) (by decide +kernel)
/-- weigh 3 -/
def scc_12 : k_C := (100, [(2, 5, 0), (2, 2, 0), (2, 3, 0), (2, 4, 0)], [], none, [(29, 0), (30, 0)], 1, 22)
def scp_12 : List k_Pt := [(11, [(0, (2, 5, 0)), (1, (2, 2, 0)), (2, (2, 3, 0)), (3, (2, 4, 0)), (4, (0, 0, 12)), (5, (0, 0, 12))], [], [(-1, 5)], 35), (49, [(0, (2, 5, 0)), (1, (2, 2, 0)), (2, (2, 3, 0)), (3, (2, 4, 0)), (4, (0, 0, 12)), (5, (0, 0, 8))], [], [(-1, 5)], 19), (110, [(0, (2, 5, 0)), (1, (2, 2, 0)), (2, (2, 3, 0)), (3, (2, 4, 0)), (4, (0, 0, 12)), (5, (0, -1, 5))], [], [(1, 5)], 2)]
theorem ssat_12 {l : Launch} {D : va_G} {tys : List (ClassId × FieldType)} {A : Nat → Prop} {X : State → Prop} {Sg : Nat → Option Nat} {cA : Nat → ClassId} (hT : k_TX tys cA A X) : k_sat l D tys A X Sg cA Ls scc_12 := k_keeps_q (cs := []) (inl := pg_in) (fuel := 3000) (pts := scp_12) hT.1 (fun _ h => absurd h List.not_mem_nil) (by decide +kernel)
/-- minute 3 -/
def scc_13 : k_C := (94, [(2, 5, 0), (2, 2, 0), (2, 3, 0), (0, 0, 1)], [], some (0, -2147483648, 2147483647), [(3, 6), (19, 0), (20, 0)], 2, 48)
def scp_13 : List k_Pt := [(6, [(0, (2, 5, 0)), (1, (2, 2, 0)), (2, (2, 3, 0)), (3, (0, 0, 1)), (4, (0, -2147483648, 2147483647)), (5, (0, 0, 6))], [], [(-1, 5)], 7)]
theorem ssat_13 {l : Launch} {D : va_G} {tys : List (ClassId × FieldType)} {A : Nat → Prop} {X : State → Prop} {Sg : Nat → Option Nat} {cA : Nat → ClassId} (hT : k_TX tys cA A X) : k_sat l D tys A X Sg cA Ls scc_13 := k_keeps_q (cs := [scc_6, scc_7]) (inl := pg_in) (fuel := 3000) (pts := scp_13) hT.1 (List.forall_mem_cons.mpr ⟨ssat_6 hT, List.forall_mem_cons.mpr ⟨ssat_7 hT, fun _ h => absurd h List.not_mem_nil⟩⟩) (by decide +kernel)
/-- goOn 3 -/
def scc_14 : k_C := (87, [(2, 5, 0), (2, 2, 0), (2, 3, 0), (0, 0, 60), (0, 0, 1)], [], some (0, -2147483648, 2147483647), [(3, 6), (19, 0), (20, 0)], 3, 75)
def scp_14 : List k_Pt := [(6, [(0, (2, 5, 0)), (1, (2, 2, 0)), (2, (2, 3, 0)), (3, (0, 0, 60)), (4, (0, 0, 1)), (5, (0, -2147483648, 2147483647)), (6, (0, 0, 60))], [], [(-1, 6)], 61)]
theorem ssat_14 {l : Launch} {D : va_G} {tys : List (ClassId × FieldType)} {A : Nat → Prop} {X : State → Prop} {Sg : Nat → Option Nat} {cA : Nat → ClassId} (hT : k_TX tys cA A X) : k_sat l D tys A X Sg cA Ls scc_14 := k_keeps_q (cs := [scc_13]) (inl := pg_in) (fuel := 3000) (pts := scp_14) hT.1 (List.forall_mem_cons.mpr ⟨ssat_13 hT, fun _ h => absurd h List.not_mem_nil⟩) (by decide +kernel)
/-- settle 3 -/
def scc_15 : k_C := (97, [(2, 5, 0), (2, 2, 0), (2, 3, 0)], [], some (0, 0, 2147483647), [(19, 0), (20, 0)], 3, 72)
def scp_15 : List k_Pt := [(5, [(0, (2, 5, 0)), (1, (2, 2, 0)), (2, (2, 3, 0)), (3, (0, 0, 2147483647)), (4, (0, 0, 6))], [], [(-1, 4)], 7)]
theorem ssat_15 {l : Launch} {D : va_G} {tys : List (ClassId × FieldType)} {A : Nat → Prop} {X : State → Prop} {Sg : Nat → Option Nat} {cA : Nat → ClassId} (hT : k_TX tys cA A X) : k_sat l D tys A X Sg cA Ls scc_15 := k_keeps_q (cs := []) (inl := pg_in) (fuel := 3000) (pts := scp_15) hT.1 (fun _ h => absurd h List.not_mem_nil) (by decide +kernel)
/-- isStill 3 -/
def scc_16 : k_C := (91, [(2, 5, 0), (2, 2, 0), (2, 3, 0)], [], some (0, 0, 1), [], 3, 72)
def scp_16 : List k_Pt := [(2, [(0, (2, 5, 0)), (1, (2, 2, 0)), (2, (2, 3, 0)), (3, (0, 0, 6))], [], [(-1, 3)], 7)]
theorem ssat_16 {l : Launch} {D : va_G} {tys : List (ClassId × FieldType)} {A : Nat → Prop} {X : State → Prop} {Sg : Nat → Option Nat} {cA : Nat → ClassId} (hT : k_TX tys cA A X) : k_sat l D tys A X Sg cA Ls scc_16 := k_keeps_q (cs := []) (inl := pg_in) (fuel := 3000) (pts := scp_16) hT.1 (fun _ h => absurd h List.not_mem_nil) (by decide +kernel)
/-- height any 3 -/
def scc_17 : k_C := (89, [(2, 5, 0), (2, 2, 0), (2, 3, 0), (2, 4, 0), (0, -2147483648, 2147483647)], [], some (0, -2147483648, 2147483647), [], 1, 23)
def scp_17 : List k_Pt := [(39, [(0, (2, 5, 0)), (1, (2, 2, 0)), (2, (2, 3, 0)), (3, (2, 4, 0)), (4, (0, -2147483648, 11)), (5, (0, -2147483648, 2147483647)), (6, (0, -2147483648, 11)), (7, (0, 0, 6))], [], [(-1, 7)], 7)]
theorem ssat_17 {l : Launch} {D : va_G} {tys : List (ClassId × FieldType)} {A : Nat → Prop} {X : State → Prop} {Sg : Nat → Option Nat} {cA : Nat → ClassId} (hT : k_TX tys cA A X) : k_sat l D tys A X Sg cA Ls scc_17 := k_keeps_q (cs := []) (inl := pg_in) (fuel := 3000) (pts := scp_17) hT.1 (fun _ h => absurd h List.not_mem_nil) (by decide +kernel)
/-- level 3 -/
def scc_18 : k_C := (92, [(2, 5, 0), (2, 2, 0), (2, 3, 0), (2, 4, 0)], [], none, [(31, 0)], 1, 23)
def scp_18 : List k_Pt := [(3, [(0, (2, 5, 0)), (1, (2, 2, 0)), (2, (2, 3, 0)), (3, (2, 4, 0)), (4, (0, 0, 12))], [], [(-1, 4)], 23), (81, [(0, (2, 5, 0)), (1, (2, 2, 0)), (2, (2, 3, 0)), (3, (2, 4, 0)), (4, (0, 0, 6))], [], [(-1, 4)], 7)]
theorem ssat_18 {l : Launch} {D : va_G} {tys : List (ClassId × FieldType)} {A : Nat → Prop} {X : State → Prop} {Sg : Nat → Option Nat} {cA : Nat → ClassId} (hT : k_TX tys cA A X) : k_sat l D tys A X Sg cA Ls scc_18 := k_keeps_q (cs := []) (inl := pg_in) (fuel := 3000) (pts := scp_18) hT.1 (fun _ h => absurd h List.not_mem_nil) (by decide +kernel)
/-- meeting 3 -/
def scc_19 : k_C := (93, [(2, 5, 0), (2, 2, 0), (2, 3, 0), (2, 4, 0), (0, -2147483648, 2147483647), (0, -2147483648, 2147483647)], [], some (0, 0, 1), [], 2, 50)
def scp_19 : List k_Pt := []
theorem ssat_19 {l : Launch} {D : va_G} {tys : List (ClassId × FieldType)} {A : Nat → Prop} {X : State → Prop} {Sg : Nat → Option Nat} {cA : Nat → ClassId} (hT : k_TX tys cA A X) : k_sat l D tys A X Sg cA Ls scc_19 := k_keeps_q (cs := [scc_17]) (inl := pg_in) (fuel := 3000) (pts := scp_19) hT.1 (List.forall_mem_cons.mpr ⟨ssat_17 hT, fun _ h => absurd h List.not_mem_nil⟩) (by decide +kernel)
/-- countAt 3 32 -/
def scc_20 : k_C := (86, [(2, 5, 0), (2, 2, 0), (2, 3, 0), (2, 4, 0), (2, 32, 0)], [], some (0, -2147483648, 2147483647), [(31, 0)], 2, 49)
def scp_20 : List k_Pt := [(13, [(0, (2, 5, 0)), (1, (2, 2, 0)), (2, (2, 3, 0)), (3, (2, 4, 0)), (4, (2, 32, 0)), (5, (0, -2147483648, 2147483647)), (6, (0, 0, 12))], [], [(-1, 6)], 13)]
theorem ssat_20 {l : Launch} {D : va_G} {tys : List (ClassId × FieldType)} {A : Nat → Prop} {X : State → Prop} {Sg : Nat → Option Nat} {cA : Nat → ClassId} (hT : k_TX tys cA A X) : k_sat l D tys A X Sg cA Ls scc_20 := k_keeps_q (cs := [scc_18]) (inl := pg_in) (fuel := 3000) (pts := scp_20) hT.1 (List.forall_mem_cons.mpr ⟨ssat_18 hT, fun _ h => absurd h List.not_mem_nil⟩) (by decide +kernel)
/-- weigh 100 -/
def scc_21 : k_C := (100, [(2, 5, 0), (2, 2, 0), (2, 100, 0), (2, 4, 0)], [], none, [(29, 0), (30, 0)], 1, 22)
def scp_21 : List k_Pt := [(11, [(0, (2, 5, 0)), (1, (2, 2, 0)), (2, (2, 100, 0)), (3, (2, 4, 0)), (4, (0, 0, 12)), (5, (0, 0, 12))], [], [(-1, 5)], 35), (49, [(0, (2, 5, 0)), (1, (2, 2, 0)), (2, (2, 100, 0)), (3, (2, 4, 0)), (4, (0, 0, 12)), (5, (0, 0, 8))], [], [(-1, 5)], 19), (110, [(0, (2, 5, 0)), (1, (2, 2, 0)), (2, (2, 100, 0)), (3, (2, 4, 0)), (4, (0, 0, 12)), (5, (0, -1, 5))], [], [(1, 5)], 2)]
theorem ssat_21 {l : Launch} {D : va_G} {tys : List (ClassId × FieldType)} {A : Nat → Prop} {X : State → Prop} {Sg : Nat → Option Nat} {cA : Nat → ClassId} (hT : k_TX tys cA A X) : k_sat l D tys A X Sg cA Ls scc_21 := k_keeps_q (cs := []) (inl := pg_in) (fuel := 3000) (pts := scp_21) hT.1 (fun _ h => absurd h List.not_mem_nil) (by decide +kernel)
/-- minute 100 -/
def scc_22 : k_C := (94, [(2, 5, 0), (2, 2, 0), (2, 100, 0), (0, 0, 1)], [], some (0, -2147483648, 2147483647), [(100, 6), (101, 0), (102, 0)], 2, 48)
def scp_22 : List k_Pt := [(6, [(0, (2, 5, 0)), (1, (2, 2, 0)), (2, (2, 100, 0)), (3, (0, 0, 1)), (4, (0, -2147483648, 2147483647)), (5, (0, 0, 6))], [], [(-1, 5)], 7)]
theorem ssat_22 {l : Launch} {D : va_G} {tys : List (ClassId × FieldType)} {A : Nat → Prop} {X : State → Prop} {Sg : Nat → Option Nat} {cA : Nat → ClassId} (hT : k_TX tys cA A X) : k_sat l D tys A X Sg cA Ls scc_22 := k_keeps_q (cs := [scc_6, scc_7]) (inl := pg_in) (fuel := 3000) (pts := scp_22) hT.1 (List.forall_mem_cons.mpr ⟨ssat_6 hT, List.forall_mem_cons.mpr ⟨ssat_7 hT, fun _ h => absurd h List.not_mem_nil⟩⟩) (by decide +kernel)
