/-- goOn 100 -/
def scc_23 : k_C := (87, [(2, 5, 0), (2, 2, 0), (2, 100, 0), (0, 0, 60), (0, 0, 1)], [], some (0, -2147483648, 2147483647), [(100, 6), (101, 0), (102, 0)], 3, 75)
def scp_23 : List k_Pt := [(6, [(0, (2, 5, 0)), (1, (2, 2, 0)), (2, (2, 100, 0)), (3, (0, 0, 60)), (4, (0, 0, 1)), (5, (0, -2147483648, 2147483647)), (6, (0, 0, 60))], [], [(-1, 6)], 61)]
theorem ssat_23 {l : Launch} {D : va_G} {tys : List (ClassId × FieldType)} {A : Nat → Prop} {X : State → Prop} {Sg : Nat → Option Nat} {cA : Nat → ClassId} (hT : k_TX tys cA A X) : k_sat l D tys A X Sg cA Ls scc_23 := k_keeps_q (cs := [scc_13, scc_22]) (inl := pg_in) (fuel := 3000) (pts := scp_23) hT.1 (List.forall_mem_cons.mpr ⟨ssat_13 hT, List.forall_mem_cons.mpr ⟨ssat_22 hT, fun _ h => absurd h List.not_mem_nil⟩⟩) (by decide +kernel)
/-- settle 100 -/
def scc_24 : k_C := (97, [(2, 5, 0), (2, 2, 0), (2, 100, 0)], [], some (0, 0, 2147483647), [(101, 0), (102, 0)], 3, 72)
def scp_24 : List k_Pt := [(5, [(0, (2, 5, 0)), (1, (2, 2, 0)), (2, (2, 100, 0)), (3, (0, 0, 2147483647)), (4, (0, 0, 6))], [], [(-1, 4)], 7)]
theorem ssat_24 {l : Launch} {D : va_G} {tys : List (ClassId × FieldType)} {A : Nat → Prop} {X : State → Prop} {Sg : Nat → Option Nat} {cA : Nat → ClassId} (hT : k_TX tys cA A X) : k_sat l D tys A X Sg cA Ls scc_24 := k_keeps_q (cs := []) (inl := pg_in) (fuel := 3000) (pts := scp_24) hT.1 (fun _ h => absurd h List.not_mem_nil) (by decide +kernel)
/-- isStill 100 -/
def scc_25 : k_C := (91, [(2, 5, 0), (2, 2, 0), (2, 100, 0)], [], some (0, 0, 1), [], 3, 72)
def scp_25 : List k_Pt := [(2, [(0, (2, 5, 0)), (1, (2, 2, 0)), (2, (2, 100, 0)), (3, (0, 0, 6))], [], [(-1, 3)], 7)]
theorem ssat_25 {l : Launch} {D : va_G} {tys : List (ClassId × FieldType)} {A : Nat → Prop} {X : State → Prop} {Sg : Nat → Option Nat} {cA : Nat → ClassId} (hT : k_TX tys cA A X) : k_sat l D tys A X Sg cA Ls scc_25 := k_keeps_q (cs := []) (inl := pg_in) (fuel := 3000) (pts := scp_25) hT.1 (fun _ h => absurd h List.not_mem_nil) (by decide +kernel)
/-- height any 100 -/
def scc_26 : k_C := (89, [(2, 5, 0), (2, 2, 0), (2, 100, 0), (2, 4, 0), (0, -2147483648, 2147483647)], [], some (0, -2147483648, 2147483647), [], 1, 23)
def scp_26 : List k_Pt := [(39, [(0, (2, 5, 0)), (1, (2, 2, 0)), (2, (2, 100, 0)), (3, (2, 4, 0)), (4, (0, -2147483648, 11)), (5, (0, -2147483648, 2147483647)), (6, (0, -2147483648, 11)), (7, (0, 0, 6))], [], [(-1, 7)], 7)]
theorem ssat_26 {l : Launch} {D : va_G} {tys : List (ClassId × FieldType)} {A : Nat → Prop} {X : State → Prop} {Sg : Nat → Option Nat} {cA : Nat → ClassId} (hT : k_TX tys cA A X) : k_sat l D tys A X Sg cA Ls scc_26 := k_keeps_q (cs := []) (inl := pg_in) (fuel := 3000) (pts := scp_26) hT.1 (fun _ h => absurd h List.not_mem_nil) (by decide +kernel)
/-- level 100 -/
def scc_27 : k_C := (92, [(2, 5, 0), (2, 2, 0), (2, 100, 0), (2, 4, 0)], [], none, [(31, 0)], 1, 23)
def scp_27 : List k_Pt := [(3, [(0, (2, 5, 0)), (1, (2, 2, 0)), (2, (2, 100, 0)), (3, (2, 4, 0)), (4, (0, 0, 12))], [], [(-1, 4)], 23), (81, [(0, (2, 5, 0)), (1, (2, 2, 0)), (2, (2, 100, 0)), (3, (2, 4, 0)), (4, (0, 0, 6))], [], [(-1, 4)], 7)]
theorem ssat_27 {l : Launch} {D : va_G} {tys : List (ClassId × FieldType)} {A : Nat → Prop} {X : State → Prop} {Sg : Nat → Option Nat} {cA : Nat → ClassId} (hT : k_TX tys cA A X) : k_sat l D tys A X Sg cA Ls scc_27 := k_keeps_q (cs := []) (inl := pg_in) (fuel := 3000) (pts := scp_27) hT.1 (fun _ h => absurd h List.not_mem_nil) (by decide +kernel)
/-- meeting 100 -/
def scc_28 : k_C := (93, [(2, 5, 0), (2, 2, 0), (2, 100, 0), (2, 4, 0), (0, -2147483648, 2147483647), (0, -2147483648, 2147483647)], [], some (0, 0, 1), [], 2, 50)
def scp_28 : List k_Pt := []
theorem ssat_28 {l : Launch} {D : va_G} {tys : List (ClassId × FieldType)} {A : Nat → Prop} {X : State → Prop} {Sg : Nat → Option Nat} {cA : Nat → ClassId} (hT : k_TX tys cA A X) : k_sat l D tys A X Sg cA Ls scc_28 := k_keeps_q (cs := [scc_17, scc_26]) (inl := pg_in) (fuel := 3000) (pts := scp_28) hT.1 (List.forall_mem_cons.mpr ⟨ssat_17 hT, List.forall_mem_cons.mpr ⟨ssat_26 hT, fun _ h => absurd h List.not_mem_nil⟩⟩) (by decide +kernel)
/-- countAt 100 32 -/
def scc_29 : k_C := (86, [(2, 5, 0), (2, 2, 0), (2, 100, 0), (2, 4, 0), (2, 32, 0)], [], some (0, -2147483648, 2147483647), [(31, 0)], 2, 49)
def scp_29 : List k_Pt := [(13, [(0, (2, 5, 0)), (1, (2, 2, 0)), (2, (2, 100, 0)), (3, (2, 4, 0)), (4, (2, 32, 0)), (5, (0, -2147483648, 2147483647)), (6, (0, 0, 12))], [], [(-1, 6)], 13)]
theorem ssat_29 {l : Launch} {D : va_G} {tys : List (ClassId × FieldType)} {A : Nat → Prop} {X : State → Prop} {Sg : Nat → Option Nat} {cA : Nat → ClassId} (hT : k_TX tys cA A X) : k_sat l D tys A X Sg cA Ls scc_29 := k_keeps_q (cs := [scc_18, scc_27]) (inl := pg_in) (fuel := 3000) (pts := scp_29) hT.1 (List.forall_mem_cons.mpr ⟨ssat_18 hT, List.forall_mem_cons.mpr ⟨ssat_27 hT, fun _ h => absurd h List.not_mem_nil⟩⟩) (by decide +kernel)
/-- countAt 100 118 -/
def scc_30 : k_C := (86, [(2, 5, 0), (2, 2, 0), (2, 100, 0), (2, 4, 0), (2, 118, 0)], [], some (0, -2147483648, 2147483647), [(31, 0)], 2, 49)
def scp_30 : List k_Pt := [(13, [(0, (2, 5, 0)), (1, (2, 2, 0)), (2, (2, 100, 0)), (3, (2, 4, 0)), (4, (2, 118, 0)), (5, (0, -2147483648, 2147483647)), (6, (0, 0, 12))], [], [(-1, 6)], 13)]
theorem ssat_30 {l : Launch} {D : va_G} {tys : List (ClassId × FieldType)} {A : Nat → Prop} {X : State → Prop} {Sg : Nat → Option Nat} {cA : Nat → ClassId} (hT : k_TX tys cA A X) : k_sat l D tys A X Sg cA Ls scc_30 := k_keeps_q (cs := [scc_18, scc_27]) (inl := pg_in) (fuel := 3000) (pts := scp_30) hT.1 (List.forall_mem_cons.mpr ⟨ssat_18 hT, List.forall_mem_cons.mpr ⟨ssat_27 hT, fun _ h => absurd h List.not_mem_nil⟩⟩) (by decide +kernel)
/-- weigh 112 -/
def scc_31 : k_C := (100, [(2, 5, 0), (2, 2, 0), (2, 112, 0), (2, 4, 0)], [], none, [(29, 0), (30, 0)], 1, 22)
def scp_31 : List k_Pt := [(11, [(0, (2, 5, 0)), (1, (2, 2, 0)), (2, (2, 112, 0)), (3, (2, 4, 0)), (4, (0, 0, 12)), (5, (0, 0, 12))], [], [(-1, 5)], 35), (49, [(0, (2, 5, 0)), (1, (2, 2, 0)), (2, (2, 112, 0)), (3, (2, 4, 0)), (4, (0, 0, 12)), (5, (0, 0, 8))], [], [(-1, 5)], 19), (110, [(0, (2, 5, 0)), (1, (2, 2, 0)), (2, (2, 112, 0)), (3, (2, 4, 0)), (4, (0, 0, 12)), (5, (0, -1, 5))], [], [(1, 5)], 2)]
theorem ssat_31 {l : Launch} {D : va_G} {tys : List (ClassId × FieldType)} {A : Nat → Prop} {X : State → Prop} {Sg : Nat → Option Nat} {cA : Nat → ClassId} (hT : k_TX tys cA A X) : k_sat l D tys A X Sg cA Ls scc_31 := k_keeps_q (cs := []) (inl := pg_in) (fuel := 3000) (pts := scp_31) hT.1 (fun _ h => absurd h List.not_mem_nil) (by decide +kernel)
/-- minute 112 -/
def scc_32 : k_C := (94, [(2, 5, 0), (2, 2, 0), (2, 112, 0), (0, 0, 0)], [], some (0, -2147483648, 2147483647), [(113, 0), (114, 0)], 2, 48)
def scp_32 : List k_Pt := [(6, [(0, (2, 5, 0)), (1, (2, 2, 0)), (2, (2, 112, 0)), (3, (0, 0, 0)), (4, (0, -2147483648, 2147483647)), (5, (0, 0, 6))], [], [(-1, 5)], 7)]
theorem ssat_32 {l : Launch} {D : va_G} {tys : List (ClassId × FieldType)} {A : Nat → Prop} {X : State → Prop} {Sg : Nat → Option Nat} {cA : Nat → ClassId} (hT : k_TX tys cA A X) : k_sat l D tys A X Sg cA Ls scc_32 := k_keeps_q (cs := [scc_6, scc_7]) (inl := pg_in) (fuel := 3000) (pts := scp_32) hT.1 (List.forall_mem_cons.mpr ⟨ssat_6 hT, List.forall_mem_cons.mpr ⟨ssat_7 hT, fun _ h => absurd h List.not_mem_nil⟩⟩) (by decide +kernel)
/-- settle 112 -/
def scc_33 : k_C := (97, [(2, 5, 0), (2, 2, 0), (2, 112, 0)], [], some (0, 0, 2147483647), [(113, 0), (114, 0)], 3, 72)
def scp_33 : List k_Pt := [(5, [(0, (2, 5, 0)), (1, (2, 2, 0)), (2, (2, 112, 0)), (3, (0, 0, 2147483647)), (4, (0, 0, 6))], [], [(-1, 4)], 7)]
theorem ssat_33 {l : Launch} {D : va_G} {tys : List (ClassId × FieldType)} {A : Nat → Prop} {X : State → Prop} {Sg : Nat → Option Nat} {cA : Nat → ClassId} (hT : k_TX tys cA A X) : k_sat l D tys A X Sg cA Ls scc_33 := k_keeps_q (cs := []) (inl := pg_in) (fuel := 3000) (pts := scp_33) hT.1 (fun _ h => absurd h List.not_mem_nil) (by decide +kernel)
/-- isStill 112 -/
def scc_34 : k_C := (91, [(2, 5, 0), (2, 2, 0), (2, 112, 0)], [], some (0, 0, 1), [], 3, 72)
def scp_34 : List k_Pt := [(2, [(0, (2, 5, 0)), (1, (2, 2, 0)), (2, (2, 112, 0)), (3, (0, 0, 6))], [], [(-1, 3)], 7)]
theorem ssat_34 {l : Launch} {D : va_G} {tys : List (ClassId × FieldType)} {A : Nat → Prop} {X : State → Prop} {Sg : Nat → Option Nat} {cA : Nat → ClassId} (hT : k_TX tys cA A X) : k_sat l D tys A X Sg cA Ls scc_34 := k_keeps_q (cs := []) (inl := pg_in) (fuel := 3000) (pts := scp_34) hT.1 (fun _ h => absurd h List.not_mem_nil) (by decide +kernel)
/-- height any 112 -/
def scc_35 : k_C := (89, [(2, 5, 0), (2, 2, 0), (2, 112, 0), (2, 4, 0), (0, -2147483648, 2147483647)], [], some (0, -2147483648, 2147483647), [], 1, 23)
def scp_35 : List k_Pt := [(39, [(0, (2, 5, 0)), (1, (2, 2, 0)), (2, (2, 112, 0)), (3, (2, 4, 0)), (4, (0, -2147483648, 11)), (5, (0, -2147483648, 2147483647)), (6, (0, -2147483648, 11)), (7, (0, 0, 6))], [], [(-1, 7)], 7)]
theorem ssat_35 {l : Launch} {D : va_G} {tys : List (ClassId × FieldType)} {A : Nat → Prop} {X : State → Prop} {Sg : Nat → Option Nat} {cA : Nat → ClassId} (hT : k_TX tys cA A X) : k_sat l D tys A X Sg cA Ls scc_35 := k_keeps_q (cs := []) (inl := pg_in) (fuel := 3000) (pts := scp_35) hT.1 (fun _ h => absurd h List.not_mem_nil) (by decide +kernel)
/-- level 112 -/
def scc_36 : k_C := (92, [(2, 5, 0), (2, 2, 0), (2, 112, 0), (2, 4, 0)], [], none, [(31, 0)], 1, 23)
def scp_36 : List k_Pt := [(3, [(0, (2, 5, 0)), (1, (2, 2, 0)), (2, (2, 112, 0)), (3, (2, 4, 0)), (4, (0, 0, 12))], [], [(-1, 4)], 23), (81, [(0, (2, 5, 0)), (1, (2, 2, 0)), (2, (2, 112, 0)), (3, (2, 4, 0)), (4, (0, 0, 6))], [], [(-1, 4)], 7)]
theorem ssat_36 {l : Launch} {D : va_G} {tys : List (ClassId × FieldType)} {A : Nat → Prop} {X : State → Prop} {Sg : Nat → Option Nat} {cA : Nat → ClassId} (hT : k_TX tys cA A X) : k_sat l D tys A X Sg cA Ls scc_36 := k_keeps_q (cs := []) (inl := pg_in) (fuel := 3000) (pts := scp_36) hT.1 (fun _ h => absurd h List.not_mem_nil) (by decide +kernel)
/-- meeting 112 -/
def scc_37 : k_C := (93, [(2, 5, 0), (2, 2, 0), (2, 112, 0), (2, 4, 0), (0, -2147483648, 2147483647), (0, -2147483648, 2147483647)], [], some (0, 0, 1), [], 2, 50)
def scp_37 : List k_Pt := []
theorem ssat_37 {l : Launch} {D : va_G} {tys : List (ClassId × FieldType)} {A : Nat → Prop} {X : State → Prop} {Sg : Nat → Option Nat} {cA : Nat → ClassId} (hT : k_TX tys cA A X) : k_sat l D tys A X Sg cA Ls scc_37 := k_keeps_q (cs := [scc_17, scc_26, scc_35]) (inl := pg_in) (fuel := 3000) (pts := scp_37) hT.1 (List.forall_mem_cons.mpr ⟨ssat_17 hT, List.forall_mem_cons.mpr ⟨ssat_26 hT, List.forall_mem_cons.mpr ⟨ssat_35 hT, fun _ h => absurd h List.not_mem_nil⟩⟩⟩) (by decide +kernel)
/-- countAt 112 32 -/
def scc_38 : k_C := (86, [(2, 5, 0), (2, 2, 0), (2, 112, 0), (2, 4, 0), (2, 32, 0)], [], some (0, -2147483648, 2147483647), [(31, 0)], 2, 49)
def scp_38 : List k_Pt := [(13, [(0, (2, 5, 0)), (1, (2, 2, 0)), (2, (2, 112, 0)), (3, (2, 4, 0)), (4, (2, 32, 0)), (5, (0, -2147483648, 2147483647)), (6, (0, 0, 12))], [], [(-1, 6)], 13)]
theorem ssat_38 {l : Launch} {D : va_G} {tys : List (ClassId × FieldType)} {A : Nat → Prop} {X : State → Prop} {Sg : Nat → Option Nat} {cA : Nat → ClassId} (hT : k_TX tys cA A X) : k_sat l D tys A X Sg cA Ls scc_38 := k_keeps_q (cs := [scc_18, scc_27, scc_36]) (inl := pg_in) (fuel := 3000) (pts := scp_38) hT.1 (List.forall_mem_cons.mpr ⟨ssat_18 hT, List.forall_mem_cons.mpr ⟨ssat_27 hT, List.forall_mem_cons.mpr ⟨ssat_36 hT, fun _ h => absurd h List.not_mem_nil⟩⟩⟩) (by decide +kernel)
/-- X9_waysWithin -/
def scc_39 : k_C := (99, [(2, 5, 0), (2, 2, 0), (2, 3, 0), (0, 0, 5), (0, -60, 4)], [], some (0, 0, 7), [], 1, 23)
def scp_39 : List k_Pt := []
theorem ssat_39 {l : Launch} {D : va_G} {tys : List (ClassId × FieldType)} {A : Nat → Prop} {X : State → Prop} {Sg : Nat → Option Nat} {cA : Nat → ClassId} (hT : k_TX tys cA A X) : k_sat l D tys A X Sg cA Ls scc_39 := k_keeps_q (cs := []) (inl := pg_in) (fuel := 3000) (pts := scp_39) hT.1 (fun _ h => absurd h List.not_mem_nil) (by decide +kernel)
/-- X5_valueOf -/
def scc_40 : k_C := (64, [(0, -2147483648, 2147483647), (2, 35, 0)], [], some (0, -2147483648, 2147483647), [], 0, 0)
def scp_40 : List k_Pt := []
theorem ssat_40 {l : Launch} {D : va_G} {tys : List (ClassId × FieldType)} {A : Nat → Prop} {X : State → Prop} {Sg : Nat → Option Nat} {cA : Nat → ClassId} (hT : k_TX tys cA A X) : k_sat l D tys A X Sg cA Ls scc_40 := k_keeps_q (cs := []) (inl := pg_in) (fuel := 3000) (pts := scp_40) hT.1 (fun _ h => absurd h List.not_mem_nil) (by decide +kernel)
/-- X5_bounded -/
def scc_41 : k_C := (53, [(1, 0, 0)], [], some (0, -1000000, 1000000), [], 2, 60)
theorem ssat_41 {l : Launch} {D : va_G} {tys : List (ClassId × FieldType)} {A : Nat → Prop} {X : State → Prop} {Sg : Nat → Option Nat} {cA : Nat → ClassId} (hT : k_TX tys cA A X) : k_sat l D tys A X Sg cA Ls scc_41 := hand_X5_bounded rfl
/-- X5_worked -/
def scc_42 : k_C := (65, [(0, -2147483648, 2147483647), (0, -2147483648, 2147483647), (0, -2147483648, 2147483647)], [], some (0, -2147483648, 2147483647), [], 3, 81)
def scp_42 : List k_Pt := []
theorem ssat_42 {l : Launch} {D : va_G} {tys : List (ClassId × FieldType)} {A : Nat → Prop} {X : State → Prop} {Sg : Nat → Option Nat} {cA : Nat → ClassId} (hT : k_TX tys cA A X) : k_sat l D tys A X Sg cA Ls scc_42 := k_keeps_q (cs := [scc_41]) (inl := pg_in) (fuel := 3000) (pts := scp_42) hT.1 (List.forall_mem_cons.mpr ⟨ssat_41 hT, fun _ h => absurd h List.not_mem_nil⟩) (by decide +kernel)
/-- X5_worth -/
def scc_43 : k_C := (66, [(2, 6, 0), (2, 35, 0)], [], some (0, -2147483648, 2147483647), [(37, 0)], 4, 103)
def scp_43 : List k_Pt := [(4, [(0, (2, 6, 0)), (1, (2, 35, 0)), (2, (0, 0, 64)), (3, (0, 0, 20000))], [], [(-1, 3)], 20001)]
theorem ssat_43 {l : Launch} {D : va_G} {tys : List (ClassId × FieldType)} {A : Nat → Prop} {X : State → Prop} {Sg : Nat → Option Nat} {cA : Nat → ClassId} (hT : k_TX tys cA A X) : k_sat l D tys A X Sg cA Ls scc_43 := k_keeps_q (cs := [scc_40, scc_42]) (inl := pg_in) (fuel := 3000) (pts := scp_43) hT.1 (List.forall_mem_cons.mpr ⟨ssat_40 hT, List.forall_mem_cons.mpr ⟨ssat_42 hT, fun _ h => absurd h List.not_mem_nil⟩⟩) (by decide +kernel)
/-- X3_mattering -/
def scc_44 : k_C := (39, [(2, 2, 0), (2, 32, 0)], [], some (0, -2147483648, 2147483647), [], 0, 0)
def scp_44 : List k_Pt := [(9, [(0, (2, 2, 0)), (1, (2, 32, 0)), (2, (0, -2147483648, 2147483647)), (3, (0, -1, 5))], [], [(1, 3)], 2)]
theorem ssat_44 {l : Launch} {D : va_G} {tys : List (ClassId × FieldType)} {A : Nat → Prop} {X : State → Prop} {Sg : Nat → Option Nat} {cA : Nat → ClassId} (hT : k_TX tys cA A X) : k_sat l D tys A X Sg cA Ls scc_44 := k_keeps_q (cs := []) (inl := pg_in) (fuel := 3000) (pts := scp_44) hT.1 (fun _ h => absurd h List.not_mem_nil) (by decide +kernel)
/-- X3_moves -/
def scc_45 : k_C := (40, [(2, 2, 0), (0, 0, 11), (0, -2147483648, 2147483647)], [], some (0, 0, 1), [], 1, 22)
def scp_45 : List k_Pt := [(5, [(0, (2, 2, 0)), (1, (0, 0, 11)), (2, (0, -2147483648, 2147483647)), (3, (0, -1, 11)), (4, (0, 0, 6))], [], [(-1, 4)], 7)]
theorem ssat_45 {l : Launch} {D : va_G} {tys : List (ClassId × FieldType)} {A : Nat → Prop} {X : State → Prop} {Sg : Nat → Option Nat} {cA : Nat → ClassId} (hT : k_TX tys cA A X) : k_sat l D tys A X Sg cA Ls scc_45 := k_keeps_q (cs := []) (inl := pg_in) (fuel := 3000) (pts := scp_45) hT.1 (fun _ h => absurd h List.not_mem_nil) (by decide +kernel)
/-- X3_findUseful -/
def scc_46 : k_C := (32, [(2, 7, 0), (2, 2, 0), (0, -2147483648, 2147483647)], [], none, [(7, 2), (39, 0)], 3, 100)
theorem ssat_46 {l : Launch} {D : va_G} {tys : List (ClassId × FieldType)} {A : Nat → Prop} {X : State → Prop} {Sg : Nat → Option Nat} {cA : Nat → ClassId} (hT : k_TX tys cA A X) : k_sat l D tys A X Sg cA Ls scc_46 := hands_X3_findUseful hT (ssat_45 hT) rfl
/-- X3_isSo -/
def scc_47 : k_C := (38, [(2, 7, 0), (2, 2, 0), (2, 32, 0), (0, 0, 5), (0, -2147483648, 2147483647)], [], some (0, 0, 1), [(40, 0)], 1, 23)
def scp_47 : List k_Pt := [(39, [(0, (2, 7, 0)), (1, (2, 2, 0)), (2, (2, 32, 0)), (3, (0, 0, 5)), (4, (0, -2147483648, 2147483647)), (5, (0, -1, 11)), (6, (0, -2147483648, 2147483647)), (7, (0, 0, 12))], [], [(-1, 7)], 13)]
theorem ssat_47 {l : Launch} {D : va_G} {tys : List (ClassId × FieldType)} {A : Nat → Prop} {X : State → Prop} {Sg : Nat → Option Nat} {cA : Nat → ClassId} (hT : k_TX tys cA A X) : k_sat l D tys A X Sg cA Ls scc_47 := k_keeps_q (cs := []) (inl := pg_in) (fuel := 3000) (pts := scp_47) hT.1 (fun _ h => absurd h List.not_mem_nil) (by decide +kernel)
/-- findWays 0 -/
def scc_48 : k_C := (33, [(2, 7, 0), (2, 2, 0), (2, 3, 0), (2, 32, 0), (0, -2147483648, 2147483647), (0, 6, 6)], [], some (0, 1, 1), [], 0, 0)
def scp_48 : List k_Pt := []
theorem ssat_48 {l : Launch} {D : va_G} {tys : List (ClassId × FieldType)} {A : Nat → Prop} {X : State → Prop} {Sg : Nat → Option Nat} {cA : Nat → ClassId} (hT : k_TX tys cA A X) : k_sat l D tys A X Sg cA Ls scc_48 := k_keeps_q (cs := [scc_47]) (inl := pg_in) (fuel := 3000) (pts := scp_48) hT.1 (List.forall_mem_cons.mpr ⟨ssat_47 hT, fun _ h => absurd h List.not_mem_nil⟩) (by decide +kernel)
/-- findWays 1 -/
def scc_49 : k_C := (33, [(2, 7, 0), (2, 2, 0), (2, 3, 0), (2, 32, 0), (0, -2147483648, 2147483647), (0, 5, 6)], [], some (0, 0, 1), [(40, 0), (41, 0)], 2, 50)
def scp_49 : List k_Pt := []
theorem ssat_49 {l : Launch} {D : va_G} {tys : List (ClassId × FieldType)} {A : Nat → Prop} {X : State → Prop} {Sg : Nat → Option Nat} {cA : Nat → ClassId} (hT : k_TX tys cA A X) : k_sat l D tys A X Sg cA Ls scc_49 := k_keeps_q (cs := [scc_47, scc_48]) (inl := pg_in) (fuel := 3000) (pts := scp_49) hT.1 (List.forall_mem_cons.mpr ⟨ssat_47 hT, List.forall_mem_cons.mpr ⟨ssat_48 hT, fun _ h => absurd h List.not_mem_nil⟩⟩) (by decide +kernel)
/-- findWays 2 -/
def scc_50 : k_C := (33, [(2, 7, 0), (2, 2, 0), (2, 3, 0), (2, 32, 0), (0, -2147483648, 2147483647), (0, 4, 6)], [], some (0, 0, 1), [(40, 0), (41, 0)], 3, 78)
def scp_50 : List k_Pt := []
theorem ssat_50 {l : Launch} {D : va_G} {tys : List (ClassId × FieldType)} {A : Nat → Prop} {X : State → Prop} {Sg : Nat → Option Nat} {cA : Nat → ClassId} (hT : k_TX tys cA A X) : k_sat l D tys A X Sg cA Ls scc_50 := k_keeps_q (cs := [scc_47, scc_48, scc_49]) (inl := pg_in) (fuel := 3000) (pts := scp_50) hT.1 (List.forall_mem_cons.mpr ⟨ssat_47 hT, List.forall_mem_cons.mpr ⟨ssat_48 hT, List.forall_mem_cons.mpr ⟨ssat_49 hT, fun _ h => absurd h List.not_mem_nil⟩⟩⟩) (by decide +kernel)
/-- findWays 3 -/
def scc_51 : k_C := (33, [(2, 7, 0), (2, 2, 0), (2, 3, 0), (2, 32, 0), (0, -2147483648, 2147483647), (0, 3, 6)], [], some (0, 0, 1), [(40, 0), (41, 0)], 4, 106)
def scp_51 : List k_Pt := []
theorem ssat_51 {l : Launch} {D : va_G} {tys : List (ClassId × FieldType)} {A : Nat → Prop} {X : State → Prop} {Sg : Nat → Option Nat} {cA : Nat → ClassId} (hT : k_TX tys cA A X) : k_sat l D tys A X Sg cA Ls scc_51 := k_keeps_q (cs := [scc_47, scc_48, scc_49, scc_50]) (inl := pg_in) (fuel := 3000) (pts := scp_51) hT.1 (List.forall_mem_cons.mpr ⟨ssat_47 hT, List.forall_mem_cons.mpr ⟨ssat_48 hT, List.forall_mem_cons.mpr ⟨ssat_49 hT, List.forall_mem_cons.mpr ⟨ssat_50 hT, fun _ h => absurd h List.not_mem_nil⟩⟩⟩⟩) (by decide +kernel)
/-- findWays 4 -/
def scc_52 : k_C := (33, [(2, 7, 0), (2, 2, 0), (2, 3, 0), (2, 32, 0), (0, -2147483648, 2147483647), (0, 2, 6)], [], some (0, 0, 1), [(40, 0), (41, 0)], 5, 134)
def scp_52 : List k_Pt := []
theorem ssat_52 {l : Launch} {D : va_G} {tys : List (ClassId × FieldType)} {A : Nat → Prop} {X : State → Prop} {Sg : Nat → Option Nat} {cA : Nat → ClassId} (hT : k_TX tys cA A X) : k_sat l D tys A X Sg cA Ls scc_52 := k_keeps_q (cs := [scc_47, scc_48, scc_49, scc_50, scc_51]) (inl := pg_in) (fuel := 3000) (pts := scp_52) hT.1 (List.forall_mem_cons.mpr ⟨ssat_47 hT, List.forall_mem_cons.mpr ⟨ssat_48 hT, List.forall_mem_cons.mpr ⟨ssat_49 hT, List.forall_mem_cons.mpr ⟨ssat_50 hT, List.forall_mem_cons.mpr ⟨ssat_51 hT, fun _ h => absurd h List.not_mem_nil⟩⟩⟩⟩⟩) (by decide +kernel)
/-- findWays 5 -/
def scc_53 : k_C := (33, [(2, 7, 0), (2, 2, 0), (2, 3, 0), (2, 32, 0), (0, -2147483648, 2147483647), (0, 1, 6)], [], some (0, 0, 1), [(40, 0), (41, 0)], 6, 162)
def scp_53 : List k_Pt := []
theorem ssat_53 {l : Launch} {D : va_G} {tys : List (ClassId × FieldType)} {A : Nat → Prop} {X : State → Prop} {Sg : Nat → Option Nat} {cA : Nat → ClassId} (hT : k_TX tys cA A X) : k_sat l D tys A X Sg cA Ls scc_53 := k_keeps_q (cs := [scc_47, scc_48, scc_49, scc_50, scc_51, scc_52]) (inl := pg_in) (fuel := 3000) (pts := scp_53) hT.1 (List.forall_mem_cons.mpr ⟨ssat_47 hT, List.forall_mem_cons.mpr ⟨ssat_48 hT, List.forall_mem_cons.mpr ⟨ssat_49 hT, List.forall_mem_cons.mpr ⟨ssat_50 hT, List.forall_mem_cons.mpr ⟨ssat_51 hT, List.forall_mem_cons.mpr ⟨ssat_52 hT, fun _ h => absurd h List.not_mem_nil⟩⟩⟩⟩⟩⟩) (by decide +kernel)
/-- findWays 6 -/
def scc_54 : k_C := (33, [(2, 7, 0), (2, 2, 0), (2, 3, 0), (2, 32, 0), (0, -2147483648, 2147483647), (0, 0, 6)], [], some (0, 0, 1), [(40, 0), (41, 0)], 7, 190)
def scp_54 : List k_Pt := []
theorem ssat_54 {l : Launch} {D : va_G} {tys : List (ClassId × FieldType)} {A : Nat → Prop} {X : State → Prop} {Sg : Nat → Option Nat} {cA : Nat → ClassId} (hT : k_TX tys cA A X) : k_sat l D tys A X Sg cA Ls scc_54 := k_keeps_q (cs := [scc_47, scc_48, scc_49, scc_50, scc_51, scc_52, scc_53]) (inl := pg_in) (fuel := 3000) (pts := scp_54) hT.1 (List.forall_mem_cons.mpr ⟨ssat_47 hT, List.forall_mem_cons.mpr ⟨ssat_48 hT, List.forall_mem_cons.mpr ⟨ssat_49 hT, List.forall_mem_cons.mpr ⟨ssat_50 hT, List.forall_mem_cons.mpr ⟨ssat_51 hT, List.forall_mem_cons.mpr ⟨ssat_52 hT, List.forall_mem_cons.mpr ⟨ssat_53 hT, fun _ h => absurd h List.not_mem_nil⟩⟩⟩⟩⟩⟩⟩) (by decide +kernel)
/-- X3_isHopeless -/
def scc_55 : k_C := (37, [(2, 7, 0), (2, 2, 0), (2, 3, 0), (2, 5, 0), (0, -60, 4)], [], some (0, 0, 1), [], 2, 51)
def scp_55 : List k_Pt := [(3, [(0, (2, 7, 0)), (1, (2, 2, 0)), (2, (2, 3, 0)), (3, (2, 5, 0)), (4, (0, -60, 4)), (5, (0, 0, 6))], [], [(-1, 5)], 7)]
theorem ssat_55 {l : Launch} {D : va_G} {tys : List (ClassId × FieldType)} {A : Nat → Prop} {X : State → Prop} {Sg : Nat → Option Nat} {cA : Nat → ClassId} (hT : k_TX tys cA A X) : k_sat l D tys A X Sg cA Ls scc_55 := k_keeps_q (cs := [scc_39]) (inl := pg_in) (fuel := 3000) (pts := scp_55) hT.1 (List.forall_mem_cons.mpr ⟨ssat_39 hT, fun _ h => absurd h List.not_mem_nil⟩) (by decide +kernel)
