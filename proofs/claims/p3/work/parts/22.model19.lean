/-- fallsWith 4, large -/
def cc_228 : k_C := (181, [(2, 50, 0), (0, 4, 4)], [], some (0, -2147483648, 2147483647), [], 6, 137)
def cp_228 : List k_Pt := []
theorem sat_228 {l : Launch} {D : va_G} {tys : List (ClassId × FieldType)} {A : Nat → Prop} {X : State → Prop} {Sg : Nat → Option Nat} {cA : Nat → ClassId} (hT : k_TX tys cA A X) : k_sat l D tys A X Sg cA Lb cc_228 := k_keeps_ok (cs := [cc_218, cc_219, cc_220, cc_221, cc_222, cc_223]) (inl := pg_in) (fuel := 3000) (pts := cp_228) hT.1 (List.forall_mem_cons.mpr ⟨sat_218 hT, List.forall_mem_cons.mpr ⟨sat_219 hT, List.forall_mem_cons.mpr ⟨sat_220 hT, List.forall_mem_cons.mpr ⟨sat_221 hT, List.forall_mem_cons.mpr ⟨sat_222 hT, List.forall_mem_cons.mpr ⟨sat_223 hT, fun _ h => absurd h List.not_mem_nil⟩⟩⟩⟩⟩⟩) (by decide +kernel)
/-- fallsWith 5, large -/
def cc_229 : k_C := (181, [(2, 50, 0), (0, 5, 5)], [], some (0, -2147483648, 2147483647), [], 6, 137)
def cp_229 : List k_Pt := []
theorem sat_229 {l : Launch} {D : va_G} {tys : List (ClassId × FieldType)} {A : Nat → Prop} {X : State → Prop} {Sg : Nat → Option Nat} {cA : Nat → ClassId} (hT : k_TX tys cA A X) : k_sat l D tys A X Sg cA Lb cc_229 := k_keeps_ok (cs := [cc_218, cc_219, cc_220, cc_221, cc_222, cc_223]) (inl := pg_in) (fuel := 3000) (pts := cp_229) hT.1 (List.forall_mem_cons.mpr ⟨sat_218 hT, List.forall_mem_cons.mpr ⟨sat_219 hT, List.forall_mem_cons.mpr ⟨sat_220 hT, List.forall_mem_cons.mpr ⟨sat_221 hT, List.forall_mem_cons.mpr ⟨sat_222 hT, List.forall_mem_cons.mpr ⟨sat_223 hT, fun _ h => absurd h List.not_mem_nil⟩⟩⟩⟩⟩⟩) (by decide +kernel)
/-- fallsWith, any -/
def cc_230 : k_C := (181, [(2, 50, 0), (0, 0, 5)], [], some (0, -2147483648, 2147483647), [], 6, 137)
theorem sat_230 {l : Launch} {D : va_G} {tys : List (ClassId × FieldType)} {A : Nat → Prop} {X : State → Prop} {Sg : Nat → Option Nat} {cA : Nat → ClassId} (hT : k_TX tys cA A X) : k_sat l D tys A X Sg cA Lb cc_230 := by
  refine k_sat_ones 1 0 5 rfl (fun v h1 h2 => ?_)
  have hv : v = 0 ∨ v = 1 ∨ v = 2 ∨ v = 3 ∨ v = 4 ∨ v = 5 := by omega
  rcases hv with rfl | rfl | rfl | rfl | rfl | rfl
  · exact sat_224 hT
  · exact sat_225 hT
  · exact sat_226 hT
  · exact sat_227 hT
  · exact sat_228 hT
  · exact sat_229 hT
/-- X11_cut -/
def cc_231 : k_C := (173, [(2, 50, 0), (0, -2147483648, 2147483647), (0, -2147483648, 2147483647)], [], some (0, -2147483648, 2147483647), [(50, 0)], 8, 177)
def cp_231 : List k_Pt := [(36, [(0, (2, 50, 0)), (1, (0, 0, 5)), (2, (0, 0, 1)), (3, (0, -2147483648, 2147483647)), (4, (0, -2147483648, 2147483647)), (5, (0, 0, 12))], [], [(-1, 5)], 13)]
theorem sat_231 {l : Launch} {D : va_G} {tys : List (ClassId × FieldType)} {A : Nat → Prop} {X : State → Prop} {Sg : Nat → Option Nat} {cA : Nat → ClassId} (hT : k_TX tys cA A X) : k_sat l D tys A X Sg cA Lb cc_231 := k_keeps_ok (cs := [cc_104, cc_105, cc_106, cc_107, cc_108, cc_109, cc_110, cc_218, cc_219, cc_220, cc_221, cc_222, cc_223, cc_230]) (inl := pg_in) (fuel := 3000) (pts := cp_231) hT.1 (List.forall_mem_cons.mpr ⟨sat_104 hT, List.forall_mem_cons.mpr ⟨sat_105 hT, List.forall_mem_cons.mpr ⟨sat_106 hT, List.forall_mem_cons.mpr ⟨sat_107 hT, List.forall_mem_cons.mpr ⟨sat_108 hT, List.forall_mem_cons.mpr ⟨sat_109 hT, List.forall_mem_cons.mpr ⟨sat_110 hT, List.forall_mem_cons.mpr ⟨sat_218 hT, List.forall_mem_cons.mpr ⟨sat_219 hT, List.forall_mem_cons.mpr ⟨sat_220 hT, List.forall_mem_cons.mpr ⟨sat_221 hT, List.forall_mem_cons.mpr ⟨sat_222 hT, List.forall_mem_cons.mpr ⟨sat_223 hT, List.forall_mem_cons.mpr ⟨sat_230 hT, fun _ h => absurd h List.not_mem_nil⟩⟩⟩⟩⟩⟩⟩⟩⟩⟩⟩⟩⟩⟩) (by decide +kernel)
/-- X11_load -/
def cc_232 : k_C := (211, [(2, 50, 0), (0, -2147483648, 2147483647)], [], some (0, -1, 99), [(50, 0), (50, 36), (50, 37), (56, 0), (57, 0)], 9, 211)
def cp_232 : List k_Pt := [(18, [(0, (2, 50, 0)), (1, (0, 0, 11)), (2, (0, -1, 99))], [], [(1, 2)], 2)]
theorem sat_232 {l : Launch} {D : va_G} {tys : List (ClassId × FieldType)} {A : Nat → Prop} {X : State → Prop} {Sg : Nat → Option Nat} {cA : Nat → ClassId} (hT : k_TX tys cA A X) : k_sat l D tys A X Sg cA Lb cc_232 := k_keeps_ok (cs := [cc_138, cc_142, cc_143]) (inl := pg_in) (fuel := 3000) (pts := cp_232) hT.1 (List.forall_mem_cons.mpr ⟨sat_138 hT, List.forall_mem_cons.mpr ⟨sat_142 hT, List.forall_mem_cons.mpr ⟨sat_143 hT, fun _ h => absurd h List.not_mem_nil⟩⟩⟩) (by decide +kernel)
/-- X11_strainOf -/
def cc_233 : k_C := (245, [(2, 50, 0), (0, 0, 5)], [], some (0, -2147483648, 2147483647), [], 7, 160)
def cp_233 : List k_Pt := []
theorem sat_233 {l : Launch} {D : va_G} {tys : List (ClassId × FieldType)} {A : Nat → Prop} {X : State → Prop} {Sg : Nat → Option Nat} {cA : Nat → ClassId} (hT : k_TX tys cA A X) : k_sat l D tys A X Sg cA Lb cc_233 := k_keeps_ok (cs := [cc_111, cc_112, cc_113, cc_114, cc_115, cc_116, cc_117, cc_118, cc_119, cc_120, cc_121, cc_122, cc_135]) (inl := pg_in) (fuel := 3000) (pts := cp_233) hT.1 (List.forall_mem_cons.mpr ⟨sat_111 hT, List.forall_mem_cons.mpr ⟨sat_112 hT, List.forall_mem_cons.mpr ⟨sat_113 hT, List.forall_mem_cons.mpr ⟨sat_114 hT, List.forall_mem_cons.mpr ⟨sat_115 hT, List.forall_mem_cons.mpr ⟨sat_116 hT, List.forall_mem_cons.mpr ⟨sat_117 hT, List.forall_mem_cons.mpr ⟨sat_118 hT, List.forall_mem_cons.mpr ⟨sat_119 hT, List.forall_mem_cons.mpr ⟨sat_120 hT, List.forall_mem_cons.mpr ⟨sat_121 hT, List.forall_mem_cons.mpr ⟨sat_122 hT, List.forall_mem_cons.mpr ⟨sat_135 hT, fun _ h => absurd h List.not_mem_nil⟩⟩⟩⟩⟩⟩⟩⟩⟩⟩⟩⟩⟩) (by decide +kernel)
/-- X11_strain -/
def cc_234 : k_C := (244, [(2, 50, 0), (0, -2147483648, 2147483647)], [], some (0, -2147483648, 2147483647), [(50, 0)], 8, 181)
def cp_234 : List k_Pt := [(42, [(0, (2, 50, 0)), (1, (0, -1, -1)), (2, (0, 0, 5)), (3, (0, 1, 6))], [], [(-1, 3)], 7)]
theorem sat_234 {l : Launch} {D : va_G} {tys : List (ClassId × FieldType)} {A : Nat → Prop} {X : State → Prop} {Sg : Nat → Option Nat} {cA : Nat → ClassId} (hT : k_TX tys cA A X) : k_sat l D tys A X Sg cA Lb cc_234 := k_keeps_ok (cs := [cc_233]) (inl := pg_in) (fuel := 3000) (pts := cp_234) hT.1 (List.forall_mem_cons.mpr ⟨sat_233 hT, fun _ h => absurd h List.not_mem_nil⟩) (by decide +kernel)
/-- X11_above -/
def cc_235 : k_C := (159, [(2, 50, 0), (0, -2147483648, 2147483647)], [], some (0, -2147483648, 2147483647), [(50, 0)], 8, 177)
def cp_235 : List k_Pt := [(19, [(0, (2, 50, 0)), (1, (0, 0, 11)), (2, (0, -2147483648, 2147483647)), (3, (0, 0, 12))], [], [(-1, 3)], 13)]
theorem sat_235 {l : Launch} {D : va_G} {tys : List (ClassId × FieldType)} {A : Nat → Prop} {X : State → Prop} {Sg : Nat → Option Nat} {cA : Nat → ClassId} (hT : k_TX tys cA A X) : k_sat l D tys A X Sg cA Lb cc_235 := k_keeps_ok (cs := [cc_104, cc_105, cc_106, cc_107, cc_108, cc_109, cc_110]) (inl := pg_in) (fuel := 3000) (pts := cp_235) hT.1 (List.forall_mem_cons.mpr ⟨sat_104 hT, List.forall_mem_cons.mpr ⟨sat_105 hT, List.forall_mem_cons.mpr ⟨sat_106 hT, List.forall_mem_cons.mpr ⟨sat_107 hT, List.forall_mem_cons.mpr ⟨sat_108 hT, List.forall_mem_cons.mpr ⟨sat_109 hT, List.forall_mem_cons.mpr ⟨sat_110 hT, fun _ h => absurd h List.not_mem_nil⟩⟩⟩⟩⟩⟩⟩) (by decide +kernel)
/-- X11_endsAt -/
def cc_236 : k_C := (178, [(2, 50, 0), (0, 0, 5), (0, 1, 60), (0, 0, 1), (0, -2147483648, 2147483647)], [], some (0, -2147483648, 2147483647), [(50, 36), (50, 37), (56, 0), (57, 0)], 9, 211)
def cp_236 : List k_Pt := [(17, [(0, (2, 50, 0)), (1, (0, 0, 5)), (2, (0, 1, 60)), (3, (0, 0, 1)), (4, (0, -2147483648, 2147483647)), (5, (0, -2147483648, 2147483647)), (6, (0, 0, 60))], [], [(-1, 6)], 61)]
theorem sat_236 {l : Launch} {D : va_G} {tys : List (ClassId × FieldType)} {A : Nat → Prop} {X : State → Prop} {Sg : Nat → Option Nat} {cA : Nat → ClassId} (hT : k_TX tys cA A X) : k_sat l D tys A X Sg cA Lb cc_236 := k_keeps_ok (cs := [cc_138, cc_142, cc_143]) (inl := pg_in) (fuel := 3000) (pts := cp_236) hT.1 (List.forall_mem_cons.mpr ⟨sat_138 hT, List.forall_mem_cons.mpr ⟨sat_142 hT, List.forall_mem_cons.mpr ⟨sat_143 hT, fun _ h => absurd h List.not_mem_nil⟩⟩⟩) (by decide +kernel)
/-- X11_sway -/
def cc_237 : k_C := (247, [(2, 50, 0), (0, -2147483648, 2147483647), (0, -2147483648, 2147483647), (0, -2147483648, 2147483647)], [], some (0, -2147483648, 2147483647), [(50, 0), (50, 36), (50, 37), (56, 0), (57, 0)], 10, 237)
def cp_237 : List k_Pt := [(51, [(0, (2, 50, 0)), (1, (0, 0, 5)), (2, (0, 1, 60)), (3, (0, 1, 20)), (4, (0, -2147483648, 2147483647)), (5, (0, -2147483648, 2147483647)), (6, (0, 0, 20))], [], [(-1, 6)], 21)]
theorem sat_237 {l : Launch} {D : va_G} {tys : List (ClassId × FieldType)} {A : Nat → Prop} {X : State → Prop} {Sg : Nat → Option Nat} {cA : Nat → ClassId} (hT : k_TX tys cA A X) : k_sat l D tys A X Sg cA Lb cc_237 := k_keeps_ok (cs := [cc_236]) (inl := pg_in) (fuel := 3000) (pts := cp_237) hT.1 (List.forall_mem_cons.mpr ⟨sat_236 hT, fun _ h => absurd h List.not_mem_nil⟩) (by decide +kernel)
/-- X11_image -/
def cc_238 : k_C := (194, [(2, 50, 0)], [], some (0, -2147483648, 2147483647), [(50, 0), (50, 35), (50, 38), (50, 39), (58, 0)], 0, 0)
def cp_238 : List k_Pt := [(16, [(0, (2, 50, 0)), (1, (0, 0, 39))], [], [(-1, 1)], 40)]
theorem sat_238 {l : Launch} {D : va_G} {tys : List (ClassId × FieldType)} {A : Nat → Prop} {X : State → Prop} {Sg : Nat → Option Nat} {cA : Nat → ClassId} (hT : k_TX tys cA A X) : k_sat l D tys A X Sg cA Lb cc_238 := k_keeps_ok (cs := []) (inl := pg_in) (fuel := 3000) (pts := cp_238) hT.1 (fun _ h => absurd h List.not_mem_nil) (by decide +kernel)
/-- X11_back -/
def cc_239 : k_C := (162, [(2, 50, 0)], [], some (0, -2147483648, 2147483647), [(50, 0), (50, 36), (56, 0)], 1, 22)
def cp_239 : List k_Pt := [(16, [(0, (2, 50, 0)), (1, (0, 0, 39))], [], [(-1, 1)], 40)]
theorem sat_239 {l : Launch} {D : va_G} {tys : List (ClassId × FieldType)} {A : Nat → Prop} {X : State → Prop} {Sg : Nat → Option Nat} {cA : Nat → ClassId} (hT : k_TX tys cA A X) : k_sat l D tys A X Sg cA Lb cc_239 := k_keeps_ok (cs := []) (inl := pg_in) (fuel := 3000) (pts := cp_239) hT.1 (fun _ h => absurd h List.not_mem_nil) (by decide +kernel)
