theorem ch_good0 : wsA.all goodWord = true := List.all_eq_true.mpr fun _ h => (List.mem_filter.mp h).2
theorem ch_gi {w0 : Cond} (h0 : w0 ∈ wsA) : GoodIn wsA (w0 :: wsA) := by
  intro w hw
  have hm : w ∈ wsA := by
    rcases List.mem_cons.mp hw with rfl | hw
    · exact h0
    · exact hw
  exact ⟨hm, good_of_word (List.all_eq_true.mp ch_good0 w hm)⟩
theorem ch_giA {ws ws0 : List Cond} (h0 : ∀ w ∈ ws0, w ∈ wsA) (h1 : GoodIn wsA ws) : GoodIn wsA (ws0 ++ ws) := by
  intro w hw
  rcases List.mem_append.mp hw with hw | hw
  · exact ⟨h0 w hw, good_of_word (List.all_eq_true.mp ch_good0 w (h0 w hw))⟩
  · exact h1 w hw
def ch_p (D : va_G) (tys : List (ClassId × FieldType)) (A : Nat → Prop) (X : State → Prop) (vs : List Value) (h : ch_H) : Array Value → State → Prop := fun v U => v = vs.toArray ∧ ch_r D A h U.heap ∧ va_K D vwCl tys U ∧ (∀ q, U.heap.size ≤ q → A q) ∧ X U
/-- a method that can be called: its code, how many arguments -/
def ch_m (M : ch_M) (n : Nat) : Prop := Cond.code M.1 M.2.1 M.2.2.1 M.2.2.2 ∈ wsA ∧ Cond.initialized M.1.cls ∈ wsA ∧ plainName M.1.cls = true ∧ M.1.cls ≠ "java/lang/invoke/MethodHandle" ∧ M.1.cls ≠ "java/lang/invoke/VarHandle" ∧ (parseMethodDescriptor M.1.desc).map (fun d => d.parameters.length) = some n
section
variable {l : Launch} {D : va_G} {tys : List (ClassId × FieldType)} {A : Nat → Prop} {X : State → Prop} {fr lo mc ms : Nat} {M : ch_M} {Q : Option Value → ch_H → Prop} {pc : Nat} {lv : List (Nat × Value)} {st : List Value} {h : ch_H} {c z : Nat}
theorem tt_met {vs : List Value} (hy : plainName M.1.cls = true) (hlen : (lg_sl vs).length ≤ M.2.2.1) (hx : ch_x A X) (k : tt l D tys A X fr lo mc ms M Q 0 (lv_args 0 vs) [] h 0 0) : Met l M.1 (Cond.code M.1 M.2.1 M.2.2.1 M.2.2.2 :: wsA) (ch_room fr lo mc ms) (ch_p D tys A X vs h) (ch_q D A Q) mc ms A := by
  refine Met.ofW (cc := M.2.1) (maxL := M.2.2.1) (ret := M.2.2.2) hy rfl ?_
  intro p e s m args below meth cd s₁ B hml hv
  obtain ⟨rfl, hr, hK, hA, hX⟩ := hv
  have hts := atoms_spec (ws := Cond.code M.1 M.2.1 M.2.2.1 M.2.2.2 :: wsA) B.pre
  rw [lg_entry_eq]
  exact k p e s m _ below meth cd s.heap [] _ ⟨B.exec, B.bytes, B.returns, hml, findClass_of_methodNamed B.named, fun w hw => hts w (List.mem_cons_of_mem _ hw), hK, hA, B.notSynchronized, (name_of_methodNamed B.named B.method).1, hX, hx⟩ (lv_entry vs hlen) hr va_S.rf
theorem ch_blind {vs : List Value} (hx : ch_x A X) : FrameBlind (ch_p D tys A X vs h) := by
  intro a U g mk q
  obtain ⟨q1, q2, q3, q4, q5⟩ := q
  exact ⟨q1, q2, va_K.moved (u := U) (U := U.calling g mk a) (Vm.Alike.refl U.vm) q3, q4, hx U (U.calling g mk a) (State.WarmedH.refl U) ⟨Nat.le_refl _, fun _ _ _ => rfl⟩ q5⟩
theorem ch_pre {p : Program} {s : State} {m : MethodId} {args : Array Value} {meth : Method} {cd : Code} {H : Heap} {locs : List Loc} {vs : List Value} (C : ch_c l D tys A X M p s m args meth cd) (hr : ch_r D A h H) (hS : va_S A s.heap H locs) : ∀ U : State, U.heap = H → s.WarmedH U.vm → ch_p D tys A X vs h vs.toArray U := by
  intro U hU hW
  refine ⟨rfl, by rw [hU]; exact hr, va_K.moved hW.alike C.2.2.2.2.2.2.1, fun q hq => C.2.2.2.2.2.2.2.1 q (Nat.le_trans hS.1 (by rw [hU] at hq; exact hq)), C.2.2.2.2.2.2.2.2.2.2.2 s U hW ⟨by rw [hU]; exact hS.1, fun q h1 h2 => by rw [hU]; exact hS.2.1 q h1 h2⟩ C.2.2.2.2.2.2.2.2.2.2.1⟩
/-- behind a call -/
theorem tt_back {Q' : Option Value → ch_H → Prop} {mc' ms' : Nat} {rest st0 : List Value} {a : Array Value} {p : Program} {e : Env} {s : State} {m : MethodId} {args : Array Value} {below : List Frame} {meth : Method} {cd : Code} {H : Heap} {locs : List Loc} {ls : Array Slot} (C : ch_c l D tys A X M p s m args meth cd) (hl : lv_has ls M.2.2.1 lv) (hS : va_S A s.heap H locs)
    (hr : va_Run p l e (ch_room fr lo mc ms) s m args below meth cd H locs c z mc' ms' (F0 m pc ls st0) rest (ch_q D A Q' a) A)
    (kk : ∀ r g, Q' r g → tt l D tys A X fr lo mc ms M Q (pc + 3) lv (r.toList ++ rest) g (c + mc') (z + ms')) : W p l e (ch_room fr lo mc ms) s m args below meth cd H locs c z (MQ below (ch_q D A Q) args s mc ms A) (F0 m pc ls st0) := by
  intro T hT Y
  obtain ⟨v, st₀, t, T', L, h0, Y', hL, e1, e2, ⟨⟨r, g, hv, hrg, hQ⟩, hz, hk⟩, stp⟩ := hr T hT Y
  cases hv
  rw [h0] at hz hk
  obtain ⟨t2, a1, b1⟩ := kk v g hQ p e s m args below meth cd T'.heap (locs ++ L) ls C hl (by rw [e1]; exact hrg)
    ⟨Nat.le_trans hS.1 (by rw [e1]; exact hz), fun q h1 h2 => by rw [e1, hk q (Nat.lt_of_lt_of_le h1 hS.1) h2]; exact hS.2.1 q h1 h2, fun q hq => by
      rcases List.mem_append.mp hq with h | h
      · exact hS.2.2 q h
      · exact hL q h⟩ T' rfl Y'
  exact ⟨t2, stp t2 a1, b1⟩
theorem tt_callV {M' : ch_M} {Q' : Option Value → ch_H → Prop} {ix n fr' lo' mc' ms' : Nat} {b ci : Nat} {fs : List Value} {r9 : vw_C} {As rest : List Value} (hd : decode M.2.1 pc = .ok (.invokevirtual ix, 3)) (hm : ch_m M' n) (hw1 : Cond.methodLink M.1.cls ix M'.1 ∈ wsA) (hw2 : Cond.instanceMethod M'.1 ∈ wsA) (hw3 : Cond.selects M'.1.cls M'.1 M'.1 ∈ wsA) (hb : h b = some (.inr (ci, fs))) (hc : vwCl[ci]? = some r9) (hcl : r9.1 = M'.1.cls) (hn : As.length = n) (hroom : fr' + 1 ≤ fr ∧ 8 + (M'.2.2.1 + 11) + lo' ≤ lo) (hcells : c + mc' ≤ mc ∧ z + ms' ≤ ms) (hst : (rest.map fun v => v.category).sum ≤ 8) (hlen : (lg_sl (.ref b :: As)).length ≤ M'.2.2.1)
    (kc : tt l D tys A X fr' lo' mc' ms' M' Q' 0 (lv_args 0 (.ref b :: As)) [] h 0 0) (kk : ∀ r g, Q' r g → tt l D tys A X fr lo mc ms M Q (pc + 3) lv (r.toList ++ rest) g (c + mc') (z + ms')) : tt l D tys A X fr lo mc ms M Q pc lv (As.reverse ++ .ref b :: rest) h c z := by
  intro p e s m args below meth cd H locs ls C hl hr hS
  obtain ⟨ws, h1, hP, hD⟩ := id hr
  obtain ⟨q0, hq⟩ := h1 b _ hb
  have hG : GoodIn wsA (wsV M.1.cls ix M'.1.cls M'.1 (Cond.code M'.1 M'.2.1 M'.2.2.1 M'.2.2.2 :: wsA)) := ch_giA (fun w hw => by
    simp only [List.mem_cons, List.not_mem_nil, or_false] at hw
    rcases hw with rfl | rfl | rfl | rfl
    · exact hw1
    · exact hw2
    · exact hw3
    · exact hm.2.1) (ch_gi hm.1)
  have hrun := va_runV (e := e) (below := below) (meth := meth) (locs := locs) (cells := c) (slots := z) (R := ch_room fr lo mc ms) (g := F0 m pc ls (As.reverse ++ .ref b :: rest)) (As := As) (rest := rest) (b := b) (H := H) (index := ix) ⟨C.1, C.2.1, C.2.2.2.1, C.2.2.2.2.1, C.2.2.2.2.2.1⟩ (tt_met hm.2.2.1 hlen C.2.2.2.2.2.2.2.2.2.2.2 kc) (cwV n C.2.2.2.2.2.1 hG rfl rfl rfl ⟨rfl, hm.2.2.2.1, hm.2.2.2.2.1, hm.2.2.2.2.2⟩ hroom)
    ⟨ch_blind C.2.2.2.2.2.2.2.2.2.2.2, by rw [← hcl]; exact va_recv C.2.2.2.2.2.2.1 hP hc hq, ch_pre C hr hS⟩ rfl hn hl.1 rfl (lv_room (m := m) (pc := pc) (ls := ls) hst) hd hcells
  exact tt_back C hl hS hrun kk
theorem tt_callS {M' : ch_M} {Q' : Option Value → ch_H → Prop} {ix n fr' lo' mc' ms' : Nat} {As rest : List Value} (hd : decode M.2.1 pc = .ok (.invokestatic ix, 3)) (hm : ch_m M' n) (hw1 : Cond.methodLink M.1.cls ix M'.1 ∈ wsA) (hw2 : Cond.static M'.1 ∈ wsA) (hn : As.length = n) (hroom : fr' + 1 ≤ fr ∧ 8 + (M'.2.2.1 + 11) + lo' ≤ lo) (hcells : c + mc' ≤ mc ∧ z + ms' ≤ ms) (hst : (rest.map fun v => v.category).sum ≤ 8) (hlen : (lg_sl As).length ≤ M'.2.2.1)
    (kc : tt l D tys A X fr' lo' mc' ms' M' Q' 0 (lv_args 0 As) [] h 0 0) (kk : ∀ r g, Q' r g → tt l D tys A X fr lo mc ms M Q (pc + 3) lv (r.toList ++ rest) g (c + mc') (z + ms')) : tt l D tys A X fr lo mc ms M Q pc lv (As.reverse ++ rest) h c z := by
  intro p e s m args below meth cd H locs ls C hl hr hS
  have hG : GoodIn wsA (va_wsS M.1.cls ix M'.1 (Cond.code M'.1 M'.2.1 M'.2.2.1 M'.2.2.2 :: wsA)) := ch_giA (fun w hw => by
    simp only [List.mem_cons, List.not_mem_nil, or_false] at hw
    rcases hw with rfl | rfl | rfl
    · exact hw1
    · exact hw2
    · exact hm.2.1) (ch_gi hm.1)
  have hrun := va_runS (e := e) (below := below) (meth := meth) (locs := locs) (cells := c) (slots := z) (R := ch_room fr lo mc ms) (g := F0 m pc ls (As.reverse ++ rest)) (As := As) (rest := rest) (H := H) (index := ix) ⟨C.1, C.2.1, C.2.2.2.1, C.2.2.2.2.1, C.2.2.2.2.2.1⟩ (tt_met hm.2.2.1 hlen C.2.2.2.2.2.2.2.2.2.2.2 kc) (va_cwS n C.2.2.2.2.2.1 hG rfl rfl rfl ⟨hm.2.2.2.1, hm.2.2.2.2.1, hm.2.2.2.2.2⟩ hroom)
    ⟨ch_blind C.2.2.2.2.2.2.2.2.2.2.2, ch_pre C hr hS⟩ rfl hn hl.1 rfl (lv_room (m := m) (pc := pc) (ls := ls) hst) hd hcells
  exact tt_back C hl hS hrun kk
theorem tt_callI {M' : ch_M} {Q' : Option Value → ch_H → Prop} {ix n fr' lo' mc' ms' : Nat} {b : Nat} {As rest : List Value} (hd : decode M.2.1 pc = .ok (.invokespecial ix, 3)) (hm : ch_m M' n) (hi : M'.1.name = "<init>") (hret : M'.2.2.2 = none) (hw1 : Cond.methodLink M.1.cls ix M'.1 ∈ wsA) (hw2 : Cond.instanceMethod M'.1 ∈ wsA) (hn : As.length = n) (hroom : fr' + 1 ≤ fr ∧ 8 + (M'.2.2.1 + 11) + lo' ≤ lo) (hcells : c + mc' ≤ mc ∧ z + ms' ≤ ms) (hst : (rest.map fun v => v.category).sum ≤ 8) (hlen : (lg_sl (.ref b :: As)).length ≤ M'.2.2.1)
    (kc : tt l D tys A X fr' lo' mc' ms' M' Q' 0 (lv_args 0 (.ref b :: As)) [] h 0 0) (kk : ∀ r g, Q' r g → tt l D tys A X fr lo mc ms M Q (pc + 3) lv (r.toList ++ rest) g (c + mc') (z + ms')) : tt l D tys A X fr lo mc ms M Q pc lv (As.reverse ++ .ref b :: rest) h c z := by
  intro p e s m args below meth cd H locs ls C hl hr hS
  have hmet := tt_met hm.2.2.1 hlen C.2.2.2.2.2.2.2.2.2.2.2 kc
  have hcw := hm.1
  rw [hret] at hmet hcw
  have hrun := va_runI (e := e) (below := below) (meth := meth) (locs := locs) (cells := c) (slots := z) (R := ch_room fr lo mc ms) (g := F0 m pc ls (As.reverse ++ .ref b :: rest)) (As := As) (rest := rest) (b := b) (H := H) (index := ix) ⟨C.1, C.2.1, C.2.2.2.1, C.2.2.2.2.1, C.2.2.2.2.2.1⟩ hmet (cwI n C.2.2.2.2.2.1 (ch_gi hcw) rfl rfl rfl (C.2.2.2.2.2.1 _ hm.2.1) (C.2.2.2.2.2.1 _ hw1) (C.2.2.2.2.2.1 _ hw2) hi ⟨hm.2.2.2.1, hm.2.2.2.2.1, hm.2.2.2.2.2⟩ hroom)
    ⟨ch_blind C.2.2.2.2.2.2.2.2.2.2.2, ch_pre C hr hS⟩ rfl hn hl.1 rfl (lv_room (m := m) (pc := pc) (ls := ls) hst) hd hcells
  exact tt_back C hl hS hrun kk
theorem tt_objInit {ix a : Nat} {rest : List Value} (hw1 : Cond.methodLink M.1.cls ix objectInit ∈ wsA) (hw2 : Cond.instanceMethod objectInit ∈ wsA) (hw3 : Cond.code objectInit ⟨#[0xb1]⟩ 1 none ∈ wsA) (hd : decode M.2.1 pc = .ok (.invokespecial ix, 3)) (hf : 1 ≤ fr) (hlo : (rest.map fun v => v.category).sum + 12 ≤ lo) (k : tt l D tys A X fr lo mc ms M Q (pc + 3) lv rest h c z) : tt l D tys A X fr lo mc ms M Q pc lv (.ref a :: rest) h c z := by
  intro p e s m args below meth cd H locs ls C hl hr hS
  exact W.objInit C.1 C.2.1 C.2.2.2.2.1 (C.2.2.2.2.2.1 _ hw1) (C.2.2.2.2.2.1 _ hw2) (C.2.2.2.2.2.1 _ hw3) rfl (by rw [C.2.2.2.1]; exact hl.1) rfl hd hf (by show 2 * 0 + _ + 12 ≤ lo; omega) (k p e s m args below meth cd H locs ls C hl hr hS)
theorem tt_mmax {ix : Nat} {x y : Int32} (hw1 : Cond.methodLink M.1.cls ix Lib.Math.max.name ∈ wsA) (hw2 : Cond.static Lib.Math.max.name ∈ wsA) (hw3 : Cond.initialized "java/lang/Math" ∈ wsA) (hw4 : Cond.code Lib.Math.max.name Lib.Math.max.code 2 (some .int) ∈ wsA) (hf : 1 ≤ fr) (hlo : (st.map fun v => v.category).sum + 13 ≤ lo) (hc : c ≤ mc) (hz : z ≤ ms) (hd : decode M.2.1 pc = .ok (.invokestatic ix, 3)) (k : tt l D tys A X fr lo mc ms M Q (pc + 3) lv (.int (if x < y then y else x) :: st) h c z) : tt l D tys A X fr lo mc ms M Q pc lv (.int y :: .int x :: st) h c z := by
  intro p e s m args below meth cd H locs ls C hl hr hS
  exact va_mmax C.1 C.2.1 (by rw [C.2.2.2.1]; exact hl.1.symm) C.2.2.2.2.1 (C.2.2.2.2.2.1 _ hw1) (C.2.2.2.2.2.1 _ hw2) (C.2.2.2.2.2.1 _ hw3) (C.2.2.2.2.2.1 _ hw4) hf hlo hc hz hd (k p e s m args below meth cd H locs ls C hl hr hS)
theorem tt_mmin {ix : Nat} {x y : Int32} (hw1 : Cond.methodLink M.1.cls ix Lib.Math.min.name ∈ wsA) (hw2 : Cond.static Lib.Math.min.name ∈ wsA) (hw3 : Cond.initialized "java/lang/Math" ∈ wsA) (hw4 : Cond.code Lib.Math.min.name Lib.Math.min.code 2 (some .int) ∈ wsA) (hf : 1 ≤ fr) (hlo : (st.map fun v => v.category).sum + 13 ≤ lo) (hc : c ≤ mc) (hz : z ≤ ms) (hd : decode M.2.1 pc = .ok (.invokestatic ix, 3)) (k : tt l D tys A X fr lo mc ms M Q (pc + 3) lv (.int (if y < x then y else x) :: st) h c z) : tt l D tys A X fr lo mc ms M Q pc lv (.int y :: .int x :: st) h c z := by
  intro p e s m args below meth cd H locs ls C hl hr hS
  exact va_mmin C.1 C.2.1 (by rw [C.2.2.2.1]; exact hl.1.symm) C.2.2.2.2.1 (C.2.2.2.2.2.1 _ hw1) (C.2.2.2.2.2.1 _ hw2) (C.2.2.2.2.2.1 _ hw3) (C.2.2.2.2.2.1 _ hw4) hf hlo hc hz hd (k p e s m args below meth cd H locs ls C hl hr hS)
theorem tt_mabs {ix : Nat} {x : Int32} (hw1 : Cond.methodLink M.1.cls ix Lib.Math.abs.name ∈ wsA) (hw2 : Cond.static Lib.Math.abs.name ∈ wsA) (hw3 : Cond.initialized "java/lang/Math" ∈ wsA) (hw4 : Cond.code Lib.Math.abs.name Lib.Math.abs.code 1 (some .int) ∈ wsA) (hf : 1 ≤ fr) (hlo : (st.map fun v => v.category).sum + 13 ≤ lo) (hc : c ≤ mc) (hz : z ≤ ms) (hd : decode M.2.1 pc = .ok (.invokestatic ix, 3)) (k : tt l D tys A X fr lo mc ms M Q (pc + 3) lv (.int (if 0 ≤ x then x else 0 - x) :: st) h c z) : tt l D tys A X fr lo mc ms M Q pc lv (.int x :: st) h c z := by
  intro p e s m args below meth cd H locs ls C hl hr hS
  exact va_mabs C.1 C.2.1 (by rw [C.2.2.2.1]; exact hl.1.symm) C.2.2.2.2.1 (C.2.2.2.2.2.1 _ hw1) (C.2.2.2.2.2.1 _ hw2) (C.2.2.2.2.2.1 _ hw3) (C.2.2.2.2.2.1 _ hw4) hf hlo hc hz hd (k p e s m args below meth cd H locs ls C hl hr hS)
theorem ch_prim {s : State} {t0 : Nat} {cA cB : ClassId} {ty : FieldType} (hK : va_K D vwCl tys s) (h0 : tys[t0]? = some (cA, ty)) (hK2 : va_K D vwCl (tys ++ [(cB, ty)]) s) : cB = cA := by
  have a1 := (hK.2 t0 _ h0).2
  have a2 := (hK2.2 tys.length (cB, ty) (by simp)).2
  cases ty with
  | object C =>
    obtain ⟨_, _, _, _, _, b1⟩ := a1
    obtain ⟨_, _, _, _, _, b2⟩ := a2
    exact Option.some.inj (b2.symm.trans b1)
  | _ => exact Option.some.inj (a2.symm.trans a1)
theorem tt_newa {atype : ArrayType} {ty : FieldType} {t0 N' : Nat} {cA : ClassId} {a0 : vp_A} {n : Int32} (hw : Cond.arrayClass ty ∈ wsA) (hty : newarray.typeOf atype = ty) (ht : tys[t0]? = some (cA, ty)) (ha : ∀ cA : ClassId, vp_cell cA a0 = arrV cA N' (fun _ => defaultValue ty)) (hn : ¬ n < 0) (hN : n.toNatClampNeg = N') (hbytes : N' * componentBytes ty ≤ 536870912) (hcells : c + 1 ≤ mc) (hslots : z + N' ≤ ms) (hd : decode M.2.1 pc = .ok (.newarray atype, 2)) (kk : ∀ a : Nat, h a = none → tt l D tys A X fr lo mc ms M Q (pc + 2) lv (.ref a :: st) (ch_up h a (.inl (cA, a0))) (c + 1) (z + N')) : tt l D tys A X fr lo mc ms M Q pc lv (.int n :: st) h c z := by
  intro p e s m args below meth cd H locs ls C hl hr hS
  obtain ⟨ws, h1, hP, hD⟩ := id hr
  refine va_newa C.1 C.2.1 (by rw [hty]; exact C.2.2.2.2.2.1 _ hw) hty C.2.2.2.2.2.2.1 hP hD hS C.2.2.2.2.2.2.2.1 ha hn hN hbytes hcells hslots hd (fun q cB H hK hP hD hS => ?_)
  have hcB : cB = cA := ch_prim C.2.2.2.2.2.2.1 ht hK
  subst hcB
  obtain ⟨hno, hr⟩ := ch_r.new h1 hP hD
  exact kk q hno p e s m args below meth cd H locs ls C hl hr hS
end
