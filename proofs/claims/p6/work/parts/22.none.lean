/-- ahead of a TOWN: room -/
def cc_255 : k_C := (238, [(2, 70, 0), (0, -2147483648, 2147483647), (0, -2147483648, 2147483647)], [], some (0, -1000000, -1000000), [(70, 0)], 1, 21)
def cp_255 : List k_Pt := []
theorem sat_255 {l : Launch} {D : va_G} {tys : List (ClassId × FieldType)} {A : Nat → Prop} {X : State → Prop} {Sg : Nat → Option Nat} {cA : Nat → ClassId} (hT : k_TX tys cA A X) : k_sat l D tys A X Sg cA Lb cc_255 := k_keeps_q (cs := []) (inl := pg_in) (fuel := 3000) (pts := cp_255) hT.1 (fun _ h => absurd h List.not_mem_nil) (by decide +kernel)
/-- ahead of a TOWN: turn -/
def cc_256 : k_C := (255, [(2, 70, 0), (0, -2147483648, 2147483647), (0, -2147483648, 2147483647)], [], some (0, -1, -1), [(70, 0)], 1, 21)
def cp_256 : List k_Pt := []
theorem sat_256 {l : Launch} {D : va_G} {tys : List (ClassId × FieldType)} {A : Nat → Prop} {X : State → Prop} {Sg : Nat → Option Nat} {cA : Nat → ClassId} (hT : k_TX tys cA A X) : k_sat l D tys A X Sg cA Lb cc_256 := k_keeps_q (cs := []) (inl := pg_in) (fuel := 3000) (pts := cp_256) hT.1 (fun _ h => absurd h List.not_mem_nil) (by decide +kernel)
/-- ahead of a TOWN: minutes -/
def cc_257 : k_C := (216, [(2, 70, 0), (0, -2147483648, 2147483647)], [], some (0, -1, -1), [(70, 0)], 0, 0)
def cp_257 : List k_Pt := []
theorem sat_257 {l : Launch} {D : va_G} {tys : List (ClassId × FieldType)} {A : Nat → Prop} {X : State → Prop} {Sg : Nat → Option Nat} {cA : Nat → ClassId} (hT : k_TX tys cA A X) : k_sat l D tys A X Sg cA Lb cc_257 := k_keeps_q (cs := []) (inl := pg_in) (fuel := 3000) (pts := cp_257) hT.1 (fun _ h => absurd h List.not_mem_nil) (by decide +kernel)
/-- ahead of a TOWN: rest -/
def cc_258 : k_C := (236, [(2, 70, 0)], [], some (0, -1, -1), [(70, 0)], 0, 0)
def cp_258 : List k_Pt := []
theorem sat_258 {l : Launch} {D : va_G} {tys : List (ClassId × FieldType)} {A : Nat → Prop} {X : State → Prop} {Sg : Nat → Option Nat} {cA : Nat → ClassId} (hT : k_TX tys cA A X) : k_sat l D tys A X Sg cA Lb cc_258 := k_keeps_q (cs := []) (inl := pg_in) (fuel := 3000) (pts := cp_258) hT.1 (fun _ h => absurd h List.not_mem_nil) (by decide +kernel)
/-- ahead of a TOWN: meet -/
def cc_259 : k_C := (213, [(2, 70, 0), (0, -2147483648, 2147483647), (0, -2147483648, 2147483647)], [], some (0, -1, -1), [(70, 0)], 3, 64)
def cp_259 : List k_Pt := []
theorem sat_259 {l : Launch} {D : va_G} {tys : List (ClassId × FieldType)} {A : Nat → Prop} {X : State → Prop} {Sg : Nat → Option Nat} {cA : Nat → ClassId} (hT : k_TX tys cA A X) : k_sat l D tys A X Sg cA Lb cc_259 := k_keeps_q (cs := []) (inl := pg_in) (fuel := 3000) (pts := cp_259) hT.1 (fun _ h => absurd h List.not_mem_nil) (by decide +kernel)
/-- ahead of a TOWN: step -/
def cc_260 : k_C := (242, [(2, 70, 0), (0, -2147483648, 2147483647), (0, -2147483648, 2147483647)], [], some (0, 0, 0), [(70, 0)], 1, 21)
def cp_260 : List k_Pt := []
theorem sat_260 {l : Launch} {D : va_G} {tys : List (ClassId × FieldType)} {A : Nat → Prop} {X : State → Prop} {Sg : Nat → Option Nat} {cA : Nat → ClassId} (hT : k_TX tys cA A X) : k_sat l D tys A X Sg cA Lb cc_260 := k_keeps_q (cs := []) (inl := pg_in) (fuel := 3000) (pts := cp_260) hT.1 (fun _ h => absurd h List.not_mem_nil) (by decide +kernel)
/-- ahead of a TOWN: where -/
def cc_261 : k_C := (264, [(2, 70, 0), (0, -2147483648, 2147483647)], [], some (0, -1, -1), [(70, 0)], 1, 21)
def cp_261 : List k_Pt := []
theorem sat_261 {l : Launch} {D : va_G} {tys : List (ClassId × FieldType)} {A : Nat → Prop} {X : State → Prop} {Sg : Nat → Option Nat} {cA : Nat → ClassId} (hT : k_TX tys cA A X) : k_sat l D tys A X Sg cA Lb cc_261 := k_keeps_q (cs := []) (inl := pg_in) (fuel := 3000) (pts := cp_261) hT.1 (fun _ h => absurd h List.not_mem_nil) (by decide +kernel)
/-- ahead of a TOWN: way -/
def cc_262 : k_C := (263, [(2, 70, 0), (0, -2147483648, 2147483647), (0, -2147483648, 2147483647)], [], some (0, -1, -1), [(70, 0)], 2, 42)
def cp_262 : List k_Pt := []
theorem sat_262 {l : Launch} {D : va_G} {tys : List (ClassId × FieldType)} {A : Nat → Prop} {X : State → Prop} {Sg : Nat → Option Nat} {cA : Nat → ClassId} (hT : k_TX tys cA A X) : k_sat l D tys A X Sg cA Lb cc_262 := k_keeps_q (cs := []) (inl := pg_in) (fuel := 3000) (pts := cp_262) hT.1 (fun _ h => absurd h List.not_mem_nil) (by decide +kernel)
/-- ahead of a TOWN: unseen -/
def cc_263 : k_C := (257, [(2, 70, 0), (0, -2147483648, 2147483647), (0, -2147483648, 2147483647), (0, -2147483648, 2147483647)], [], some (0, -1000000, -1000000), [(70, 0)], 1, 21)
def cp_263 : List k_Pt := []
theorem sat_263 {l : Launch} {D : va_G} {tys : List (ClassId × FieldType)} {A : Nat → Prop} {X : State → Prop} {Sg : Nat → Option Nat} {cA : Nat → ClassId} (hT : k_TX tys cA A X) : k_sat l D tys A X Sg cA Lb cc_263 := k_keeps_q (cs := []) (inl := pg_in) (fuel := 3000) (pts := cp_263) hT.1 (fun _ h => absurd h List.not_mem_nil) (by decide +kernel)
/-- ahead of a TOWN: want -/
def cc_264 : k_C := (259, [(2, 70, 0), (0, -2147483648, 2147483647), (0, -2147483648, 2147483647)], [], some (0, 0, 0), [(70, 0)], 1, 21)
def cp_264 : List k_Pt := []
theorem sat_264 {l : Launch} {D : va_G} {tys : List (ClassId × FieldType)} {A : Nat → Prop} {X : State → Prop} {Sg : Nat → Option Nat} {cA : Nat → ClassId} (hT : k_TX tys cA A X) : k_sat l D tys A X Sg cA Lb cc_264 := k_keeps_q (cs := []) (inl := pg_in) (fuel := 3000) (pts := cp_264) hT.1 (fun _ h => absurd h List.not_mem_nil) (by decide +kernel)
/-- ahead of a TOWN: pails -/
def cc_265 : k_C := (226, [(2, 70, 0), (0, -2147483648, 2147483647)], [], some (0, -1000000, -1000000), [(70, 0)], 0, 0)
def cp_265 : List k_Pt := []
theorem sat_265 {l : Launch} {D : va_G} {tys : List (ClassId × FieldType)} {A : Nat → Prop} {X : State → Prop} {Sg : Nat → Option Nat} {cA : Nat → ClassId} (hT : k_TX tys cA A X) : k_sat l D tys A X Sg cA Lb cc_265 := k_keeps_q (cs := []) (inl := pg_in) (fuel := 3000) (pts := cp_265) hT.1 (fun _ h => absurd h List.not_mem_nil) (by decide +kernel)
/-- ahead of a TOWN: together -/
def cc_266 : k_C := (252, [(2, 70, 0), (0, -2147483648, 2147483647)], [], some (0, -1, -1), [(70, 0)], 0, 0)
def cp_266 : List k_Pt := []
theorem sat_266 {l : Launch} {D : va_G} {tys : List (ClassId × FieldType)} {A : Nat → Prop} {X : State → Prop} {Sg : Nat → Option Nat} {cA : Nat → ClassId} (hT : k_TX tys cA A X) : k_sat l D tys A X Sg cA Lb cc_266 := k_keeps_q (cs := []) (inl := pg_in) (fuel := 3000) (pts := cp_266) hT.1 (fun _ h => absurd h List.not_mem_nil) (by decide +kernel)
/-- ahead of a TOWN: task -/
def cc_267 : k_C := (249, [(2, 70, 0), (0, -2147483648, 2147483647), (0, -2147483648, 2147483647)], [], some (0, -1, -1), [(70, 0)], 1, 21)
def cp_267 : List k_Pt := []
theorem sat_267 {l : Launch} {D : va_G} {tys : List (ClassId × FieldType)} {A : Nat → Prop} {X : State → Prop} {Sg : Nat → Option Nat} {cA : Nat → ClassId} (hT : k_TX tys cA A X) : k_sat l D tys A X Sg cA Lb cc_267 := k_keeps_q (cs := []) (inl := pg_in) (fuel := 3000) (pts := cp_267) hT.1 (fun _ h => absurd h List.not_mem_nil) (by decide +kernel)
/-- ahead of a TOWN: orders -/
def cc_268 : k_C := (223, [(2, 70, 0), (0, -2147483648, 2147483647)], [], some (0, -1, -1), [(70, 0)], 0, 0)
def cp_268 : List k_Pt := []
theorem sat_268 {l : Launch} {D : va_G} {tys : List (ClassId × FieldType)} {A : Nat → Prop} {X : State → Prop} {Sg : Nat → Option Nat} {cA : Nat → ClassId} (hT : k_TX tys cA A X) : k_sat l D tys A X Sg cA Lb cc_268 := k_keeps_q (cs := []) (inl := pg_in) (fuel := 3000) (pts := cp_268) hT.1 (fun _ h => absurd h List.not_mem_nil) (by decide +kernel)
/-- ahead of a TOWN: woke -/
def cc_269 : k_C := (266, [(2, 70, 0), (0, -2147483648, 2147483647), (0, -2147483648, 2147483647)], [], some (0, 0, 0), [(70, 0)], 1, 21)
def cp_269 : List k_Pt := []
theorem sat_269 {l : Launch} {D : va_G} {tys : List (ClassId × FieldType)} {A : Nat → Prop} {X : State → Prop} {Sg : Nat → Option Nat} {cA : Nat → ClassId} (hT : k_TX tys cA A X) : k_sat l D tys A X Sg cA Lb cc_269 := k_keeps_q (cs := []) (inl := pg_in) (fuel := 3000) (pts := cp_269) hT.1 (fun _ h => absurd h List.not_mem_nil) (by decide +kernel)
/-- ahead of a TOWN: slipped -/
def cc_270 : k_C := (240, [(2, 70, 0), (0, -2147483648, 2147483647)], [], some (0, -1, -1), [(70, 0)], 0, 0)
def cp_270 : List k_Pt := []
theorem sat_270 {l : Launch} {D : va_G} {tys : List (ClassId × FieldType)} {A : Nat → Prop} {X : State → Prop} {Sg : Nat → Option Nat} {cA : Nat → ClassId} (hT : k_TX tys cA A X) : k_sat l D tys A X Sg cA Lb cc_270 := k_keeps_q (cs := []) (inl := pg_in) (fuel := 3000) (pts := cp_270) hT.1 (fun _ h => absurd h List.not_mem_nil) (by decide +kernel)
/-- ahead of a TOWN: rent -/
def cc_271 : k_C := (235, [(2, 70, 0), (0, -2147483648, 2147483647), (0, -2147483648, 2147483647)], [], some (0, -1, -1), [(70, 0)], 0, 0)
def cp_271 : List k_Pt := []
theorem sat_271 {l : Launch} {D : va_G} {tys : List (ClassId × FieldType)} {A : Nat → Prop} {X : State → Prop} {Sg : Nat → Option Nat} {cA : Nat → ClassId} (hT : k_TX tys cA A X) : k_sat l D tys A X Sg cA Lb cc_271 := k_keeps_q (cs := []) (inl := pg_in) (fuel := 3000) (pts := cp_271) hT.1 (fun _ h => absurd h List.not_mem_nil) (by decide +kernel)
/-- ahead of a TOWN: even -/
def cc_272 : k_C := (179, [(2, 70, 0), (0, -2147483648, 2147483647)], [], some (0, -1, -1), [(70, 0)], 0, 0)
def cp_272 : List k_Pt := []
theorem sat_272 {l : Launch} {D : va_G} {tys : List (ClassId × FieldType)} {A : Nat → Prop} {X : State → Prop} {Sg : Nat → Option Nat} {cA : Nat → ClassId} (hT : k_TX tys cA A X) : k_sat l D tys A X Sg cA Lb cc_272 := k_keeps_q (cs := []) (inl := pg_in) (fuel := 3000) (pts := cp_272) hT.1 (fun _ h => absurd h List.not_mem_nil) (by decide +kernel)
/-- ahead of a TOWN: keep -/
def cc_273 : k_C := (207, [(2, 70, 0), (0, -2147483648, 2147483647), (0, -2147483648, 2147483647)], [], some (0, -1, -1), [(70, 0)], 1, 21)
def cp_273 : List k_Pt := []
theorem sat_273 {l : Launch} {D : va_G} {tys : List (ClassId × FieldType)} {A : Nat → Prop} {X : State → Prop} {Sg : Nat → Option Nat} {cA : Nat → ClassId} (hT : k_TX tys cA A X) : k_sat l D tys A X Sg cA Lb cc_273 := k_keeps_q (cs := []) (inl := pg_in) (fuel := 3000) (pts := cp_273) hT.1 (fun _ h => absurd h List.not_mem_nil) (by decide +kernel)
/-- ahead of a TOWN: tried -/
def cc_274 : k_C := (253, [(2, 70, 0), (0, -2147483648, 2147483647), (0, -2147483648, 2147483647), (0, -2147483648, 2147483647)], [], some (0, -1, -1), [(70, 0)], 1, 21)
def cp_274 : List k_Pt := []
theorem sat_274 {l : Launch} {D : va_G} {tys : List (ClassId × FieldType)} {A : Nat → Prop} {X : State → Prop} {Sg : Nat → Option Nat} {cA : Nat → ClassId} (hT : k_TX tys cA A X) : k_sat l D tys A X Sg cA Lb cc_274 := k_keeps_q (cs := []) (inl := pg_in) (fuel := 3000) (pts := cp_274) hT.1 (fun _ h => absurd h List.not_mem_nil) (by decide +kernel)
/-- ahead of a TOWN: best -/
def cc_275 : k_C := (166, [(2, 70, 0), (0, -2147483648, 2147483647)], [], some (0, -1, -1), [(70, 0)], 1, 21)
def cp_275 : List k_Pt := []
theorem sat_275 {l : Launch} {D : va_G} {tys : List (ClassId × FieldType)} {A : Nat → Prop} {X : State → Prop} {Sg : Nat → Option Nat} {cA : Nat → ClassId} (hT : k_TX tys cA A X) : k_sat l D tys A X Sg cA Lb cc_275 := k_keeps_q (cs := []) (inl := pg_in) (fuel := 3000) (pts := cp_275) hT.1 (fun _ h => absurd h List.not_mem_nil) (by decide +kernel)
/-- ahead of a TOWN: feast -/
def cc_276 : k_C := (183, [(2, 70, 0), (0, -2147483648, 2147483647)], [], some (0, -1, -1), [(70, 0)], 0, 0)
def cp_276 : List k_Pt := []
theorem sat_276 {l : Launch} {D : va_G} {tys : List (ClassId × FieldType)} {A : Nat → Prop} {X : State → Prop} {Sg : Nat → Option Nat} {cA : Nat → ClassId} (hT : k_TX tys cA A X) : k_sat l D tys A X Sg cA Lb cc_276 := k_keeps_q (cs := []) (inl := pg_in) (fuel := 3000) (pts := cp_276) hT.1 (fun _ h => absurd h List.not_mem_nil) (by decide +kernel)
/-- ahead of a TOWN: group -/
def cc_277 : k_C := (190, [(2, 70, 0), (0, -2147483648, 2147483647)], [], some (0, -1, -1), [(70, 0)], 0, 0)
def cp_277 : List k_Pt := []
theorem sat_277 {l : Launch} {D : va_G} {tys : List (ClassId × FieldType)} {A : Nat → Prop} {X : State → Prop} {Sg : Nat → Option Nat} {cA : Nat → ClassId} (hT : k_TX tys cA A X) : k_sat l D tys A X Sg cA Lb cc_277 := k_keeps_q (cs := []) (inl := pg_in) (fuel := 3000) (pts := cp_277) hT.1 (fun _ h => absurd h List.not_mem_nil) (by decide +kernel)
/-- ahead of a TOWN: often -/
def cc_278 : k_C := (221, [(2, 70, 0), (0, -2147483648, 2147483647), (0, -2147483648, 2147483647), (0, -2147483648, 2147483647), (0, -2147483648, 2147483647)], [], some (0, -1000000, -1000000), [(70, 0)], 3, 64)
def cp_278 : List k_Pt := []
theorem sat_278 {l : Launch} {D : va_G} {tys : List (ClassId × FieldType)} {A : Nat → Prop} {X : State → Prop} {Sg : Nat → Option Nat} {cA : Nat → ClassId} (hT : k_TX tys cA A X) : k_sat l D tys A X Sg cA Lb cc_278 := k_keeps_q (cs := []) (inl := pg_in) (fuel := 3000) (pts := cp_278) hT.1 (fun _ h => absurd h List.not_mem_nil) (by decide +kernel)
/-- ahead of a TOWN: cut -/
def cc_279 : k_C := (173, [(2, 70, 0), (0, -2147483648, 2147483647), (0, -2147483648, 2147483647)], [], some (0, -1, -1), [(70, 0)], 1, 21)
def cp_279 : List k_Pt := []
theorem sat_279 {l : Launch} {D : va_G} {tys : List (ClassId × FieldType)} {A : Nat → Prop} {X : State → Prop} {Sg : Nat → Option Nat} {cA : Nat → ClassId} (hT : k_TX tys cA A X) : k_sat l D tys A X Sg cA Lb cc_279 := k_keeps_q (cs := []) (inl := pg_in) (fuel := 3000) (pts := cp_279) hT.1 (fun _ h => absurd h List.not_mem_nil) (by decide +kernel)
/-- ahead of a TOWN: load -/
def cc_280 : k_C := (211, [(2, 70, 0), (0, -2147483648, 2147483647)], [], some (0, -1, -1), [(70, 0)], 1, 21)
def cp_280 : List k_Pt := []
theorem sat_280 {l : Launch} {D : va_G} {tys : List (ClassId × FieldType)} {A : Nat → Prop} {X : State → Prop} {Sg : Nat → Option Nat} {cA : Nat → ClassId} (hT : k_TX tys cA A X) : k_sat l D tys A X Sg cA Lb cc_280 := k_keeps_q (cs := []) (inl := pg_in) (fuel := 3000) (pts := cp_280) hT.1 (fun _ h => absurd h List.not_mem_nil) (by decide +kernel)
/-- ahead of a TOWN: strain -/
def cc_281 : k_C := (244, [(2, 70, 0), (0, -2147483648, 2147483647)], [], some (0, -1, -1), [(70, 0)], 0, 0)
def cp_281 : List k_Pt := []
theorem sat_281 {l : Launch} {D : va_G} {tys : List (ClassId × FieldType)} {A : Nat → Prop} {X : State → Prop} {Sg : Nat → Option Nat} {cA : Nat → ClassId} (hT : k_TX tys cA A X) : k_sat l D tys A X Sg cA Lb cc_281 := k_keeps_q (cs := []) (inl := pg_in) (fuel := 3000) (pts := cp_281) hT.1 (fun _ h => absurd h List.not_mem_nil) (by decide +kernel)
/-- ahead of a TOWN: above -/
def cc_282 : k_C := (159, [(2, 70, 0), (0, -2147483648, 2147483647)], [], some (0, -1, -1), [(70, 0)], 1, 21)
def cp_282 : List k_Pt := []
theorem sat_282 {l : Launch} {D : va_G} {tys : List (ClassId × FieldType)} {A : Nat → Prop} {X : State → Prop} {Sg : Nat → Option Nat} {cA : Nat → ClassId} (hT : k_TX tys cA A X) : k_sat l D tys A X Sg cA Lb cc_282 := k_keeps_q (cs := []) (inl := pg_in) (fuel := 3000) (pts := cp_282) hT.1 (fun _ h => absurd h List.not_mem_nil) (by decide +kernel)
/-- ahead of a TOWN: sway -/
def cc_283 : k_C := (247, [(2, 70, 0), (0, -2147483648, 2147483647), (0, -2147483648, 2147483647), (0, -2147483648, 2147483647)], [], some (0, -1, -1), [(70, 0)], 1, 21)
def cp_283 : List k_Pt := []
theorem sat_283 {l : Launch} {D : va_G} {tys : List (ClassId × FieldType)} {A : Nat → Prop} {X : State → Prop} {Sg : Nat → Option Nat} {cA : Nat → ClassId} (hT : k_TX tys cA A X) : k_sat l D tys A X Sg cA Lb cc_283 := k_keeps_q (cs := []) (inl := pg_in) (fuel := 3000) (pts := cp_283) hT.1 (fun _ h => absurd h List.not_mem_nil) (by decide +kernel)
/-- ahead of a TOWN: image -/
def cc_284 : k_C := (194, [(2, 70, 0)], [], some (0, -1, -1), [(70, 0)], 0, 0)
def cp_284 : List k_Pt := []
theorem sat_284 {l : Launch} {D : va_G} {tys : List (ClassId × FieldType)} {A : Nat → Prop} {X : State → Prop} {Sg : Nat → Option Nat} {cA : Nat → ClassId} (hT : k_TX tys cA A X) : k_sat l D tys A X Sg cA Lb cc_284 := k_keeps_q (cs := []) (inl := pg_in) (fuel := 3000) (pts := cp_284) hT.1 (fun _ h => absurd h List.not_mem_nil) (by decide +kernel)
/-- ahead of a TOWN: back -/
def cc_285 : k_C := (162, [(2, 70, 0)], [], some (0, -1, -1), [(70, 0)], 0, 0)
def cp_285 : List k_Pt := []
theorem sat_285 {l : Launch} {D : va_G} {tys : List (ClassId × FieldType)} {A : Nat → Prop} {X : State → Prop} {Sg : Nat → Option Nat} {cA : Nat → ClassId} (hT : k_TX tys cA A X) : k_sat l D tys A X Sg cA Lb cc_285 := k_keeps_q (cs := []) (inl := pg_in) (fuel := 3000) (pts := cp_285) hT.1 (fun _ h => absurd h List.not_mem_nil) (by decide +kernel)
/-- ahead of a TOWN: count -/
def cc_286 : k_C := (172, [(2, 70, 0), (0, -2147483648, 2147483647)], [], some (0, -2147483648, 2147483647), [(70, 0)], 0, 0)
def cp_286 : List k_Pt := []
theorem sat_286 {l : Launch} {D : va_G} {tys : List (ClassId × FieldType)} {A : Nat → Prop} {X : State → Prop} {Sg : Nat → Option Nat} {cA : Nat → ClassId} (hT : k_TX tys cA A X) : k_sat l D tys A X Sg cA Lb cc_286 := k_keeps_q (cs := []) (inl := pg_in) (fuel := 3000) (pts := cp_286) hT.1 (fun _ h => absurd h List.not_mem_nil) (by decide +kernel)
/-- ahead of a TOWN: rope -/
def cc_287 : k_C := (239, [(2, 70, 0), (0, -2147483648, 2147483647), (0, -2147483648, 2147483647)], [], some (0, 0, 0), [(70, 0)], 1, 21)
def cp_287 : List k_Pt := []
theorem sat_287 {l : Launch} {D : va_G} {tys : List (ClassId × FieldType)} {A : Nat → Prop} {X : State → Prop} {Sg : Nat → Option Nat} {cA : Nat → ClassId} (hT : k_TX tys cA A X) : k_sat l D tys A X Sg cA Lb cc_287 := k_keeps_q (cs := []) (inl := pg_in) (fuel := 3000) (pts := cp_287) hT.1 (fun _ h => absurd h List.not_mem_nil) (by decide +kernel)
/-- ahead of a TOWN: brake -/
def cc_288 : k_C := (167, [(2, 70, 0), (0, -2147483648, 2147483647), (0, 0, 1)], [], some (0, 0, 0), [(70, 0)], 1, 21)
def cp_288 : List k_Pt := []
theorem sat_288 {l : Launch} {D : va_G} {tys : List (ClassId × FieldType)} {A : Nat → Prop} {X : State → Prop} {Sg : Nat → Option Nat} {cA : Nat → ClassId} (hT : k_TX tys cA A X) : k_sat l D tys A X Sg cA Lb cc_288 := k_keeps_q (cs := []) (inl := pg_in) (fuel := 3000) (pts := cp_288) hT.1 (fun _ h => absurd h List.not_mem_nil) (by decide +kernel)
/-- ahead of a TOWN: water -/
def cc_289 : k_C := (262, [(2, 70, 0), (0, -2147483648, 2147483647), (0, -2147483648, 2147483647)], [], some (0, 0, 0), [(70, 0)], 1, 21)
def cp_289 : List k_Pt := []
theorem sat_289 {l : Launch} {D : va_G} {tys : List (ClassId × FieldType)} {A : Nat → Prop} {X : State → Prop} {Sg : Nat → Option Nat} {cA : Nat → ClassId} (hT : k_TX tys cA A X) : k_sat l D tys A X Sg cA Lb cc_289 := k_keeps_q (cs := []) (inl := pg_in) (fuel := 3000) (pts := cp_289) hT.1 (fun _ h => absurd h List.not_mem_nil) (by decide +kernel)
/-- ahead of a TOWN: gallery -/
def cc_290 : k_C := (185, [(2, 70, 0), (0, -2147483648, 2147483647)], [], some (0, -1, -1), [(70, 0)], 0, 0)
def cp_290 : List k_Pt := []
theorem sat_290 {l : Launch} {D : va_G} {tys : List (ClassId × FieldType)} {A : Nat → Prop} {X : State → Prop} {Sg : Nat → Option Nat} {cA : Nat → ClassId} (hT : k_TX tys cA A X) : k_sat l D tys A X Sg cA Lb cc_290 := k_keeps_q (cs := []) (inl := pg_in) (fuel := 3000) (pts := cp_290) hT.1 (fun _ h => absurd h List.not_mem_nil) (by decide +kernel)
/-- ahead of a TOWN: beside -/
def cc_291 : k_C := (165, [(2, 70, 0), (0, -2147483648, 2147483647), (0, -2147483648, 2147483647), (0, 0, 1)], [], some (0, 0, 0), [(70, 0)], 3, 64)
def cp_291 : List k_Pt := []
theorem sat_291 {l : Launch} {D : va_G} {tys : List (ClassId × FieldType)} {A : Nat → Prop} {X : State → Prop} {Sg : Nat → Option Nat} {cA : Nat → ClassId} (hT : k_TX tys cA A X) : k_sat l D tys A X Sg cA Lb cc_291 := k_keeps_q (cs := []) (inl := pg_in) (fuel := 3000) (pts := cp_291) hT.1 (fun _ h => absurd h List.not_mem_nil) (by decide +kernel)
/-- ahead of a TOWN: person -/
def cc_292 : k_C := (228, [(2, 70, 0), (0, -2147483648, 2147483647), (0, -2147483648, 2147483647)], [], some (0, -1, -1), [(70, 0)], 2, 42)
def cp_292 : List k_Pt := []
theorem sat_292 {l : Launch} {D : va_G} {tys : List (ClassId × FieldType)} {A : Nat → Prop} {X : State → Prop} {Sg : Nat → Option Nat} {cA : Nat → ClassId} (hT : k_TX tys cA A X) : k_sat l D tys A X Sg cA Lb cc_292 := k_keeps_q (cs := []) (inl := pg_in) (fuel := 3000) (pts := cp_292) hT.1 (fun _ h => absurd h List.not_mem_nil) (by decide +kernel)
