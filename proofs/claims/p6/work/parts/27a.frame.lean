/-! a call that leaves one cell alone; frames that may end in a throw; frames with a table of handlers -/
def ch_m1 (A : Nat → Prop) (o : Nat) : Nat → Prop := fun q => A q ∧ q ≠ o
section
variable {D : va_G} {A : Nat → Prop} {h g : ch_H} {H : Heap} {o : Nat} {eo : va_E}
theorem ch_cut (hn : h o = none) (hr : ch_r D A (ch_up h o eo) H) : ch_r D (ch_m1 A o) h H ∧ va_at D vwCl (o, eo) H ∧ A o := by
  obtain ⟨ws, h1, hP, hD⟩ := hr
  obtain ⟨k0, hk0⟩ := h1 o eo (ch_up_s _ _ _)
  refine ⟨⟨ws.filter (fun q => decide (q.1 ≠ o)), fun a e ha => ?_, fun k q hk => ?_, ⟨fun i j p q hi hj hpq => ?_, fun k q hk => ?_⟩⟩, hP k0 _ hk0, hD.2 k0 _ hk0⟩
  · have hne : a ≠ o := fun q => by rw [q, hn] at ha; cases ha
    obtain ⟨k, hk⟩ := h1 a e (by rw [ch_up_n _ _ hne]; exact ha)
    exact List.getElem?_of_mem (List.mem_filter.mpr ⟨List.mem_of_getElem? hk, decide_eq_true hne⟩)
  · obtain ⟨k9, hk9⟩ := List.getElem?_of_mem (List.mem_filter.mp (List.mem_of_getElem? hk)).1
    exact hP k9 q hk9
  · have hw : ws.Pairwise (fun a b => a.1 ≠ b.1) := List.pairwise_iff_getElem.mpr (fun i j hi hj hlt e => by
      have := hD.1 i j _ _ (List.getElem?_eq_getElem hi) (List.getElem?_eq_getElem hj) e
      omega)
    have hf := List.pairwise_iff_getElem.mp (hw.filter (fun q => decide (q.1 ≠ o)))
    obtain ⟨li, ei⟩ := List.getElem?_eq_some_iff.mp hi
    obtain ⟨lj, ej⟩ := List.getElem?_eq_some_iff.mp hj
    rcases Nat.lt_trichotomy i j with c | c | c
    · exact absurd (by rw [ei, ej]; exact hpq) (hf i j li lj c)
    · exact c
    · exact absurd (by rw [ei, ej]; exact hpq.symm) (hf j i lj li c)
  · have hm := List.mem_filter.mp (List.mem_of_getElem? hk)
    obtain ⟨k9, hk9⟩ := List.getElem?_of_mem hm.1
    exact ⟨hD.2 k9 q hk9, of_decide_eq_true hm.2⟩
theorem ch_glue (hr : ch_r D (ch_m1 A o) g H) (ha : va_at D vwCl (o, eo) H) (hA : A o) : g o = none ∧ ch_r D A (ch_up g o eo) H := by
  obtain ⟨ws, h1, hP, hD⟩ := hr
  have hno : g o = none := by
    cases hq : g o with
    | none => rfl
    | some x =>
      obtain ⟨k, hk⟩ := h1 o x hq
      exact absurd rfl (hD.2 k _ hk).2
  refine ⟨hno, ws ++ [(o, eo)], fun a e hx => ?_, hP.app (fun k q hk => ?_), (hD.weaken (fun _ _ _ q => q.1)).app ⟨fun i j p q hi hj _ => ?_, fun k q hk => ?_⟩ (fun i j p q hi hj e => ?_)⟩
  · by_cases c : a = o
    · subst c
      rw [ch_up_s] at hx
      cases hx
      exact ⟨ws.length, by simp⟩
    · rw [ch_up_n _ _ c] at hx
      obtain ⟨k, hk⟩ := h1 a e hx
      exact ⟨k, by rw [List.getElem?_append_left (List.getElem?_eq_some_iff.mp hk).1]; exact hk⟩
  · match k, hk with
    | 0, hk => cases hk; exact ha
  · match i, j, hi, hj with
    | 0, 0, _, _ => rfl
  · match k, hk with
    | 0, hk => cases hk; exact hA
  · match j, hj with
    | 0, hj =>
      cases hj
      exact (hD.2 i p hi).2 e
end
section
variable {l : Launch} {D : va_G} {tys : List (ClassId × FieldType)} {A : Nat → Prop} {X X' : State → Prop} {fr lo mc ms : Nat} {M : ch_M} {Q : Option Value → ch_H → Prop} {pc : Nat} {lv : List (Nat × Value)} {st : List Value} {h : ch_H} {c z : Nat} {o : Nat} {eo : va_E}
theorem tt_widen {c' z' : Nat} (hc : c ≤ c') (hz : z ≤ z') (k : tt l D tys A X fr lo mc ms M Q pc lv st h c' z') : tt l D tys A X fr lo mc ms M Q pc lv st h c z :=
  fun p e s m args below meth cd H locs ls C hl hr hS T hT Y => k p e s m args below meth cd H locs ls C hl hr hS T hT (stand_widen Y hc hz)
theorem ch_preF {p : Program} {s : State} {m : MethodId} {args : Array Value} {meth : Method} {cd : Code} {H : Heap} {locs : List Loc} {vs : List Value} (hX : ∀ s, X s → X' s) (C : ch_c l D tys A X M p s m args meth cd) (hr : ch_r D (ch_m1 A o) h H) (ho : o < H.size) (hS : va_S A s.heap H locs) : ∀ U : State, U.heap = H → s.WarmedH U.vm → ch_p D tys (ch_m1 A o) X' vs h vs.toArray U := by
  intro U hU hW
  refine ⟨rfl, by rw [hU]; exact hr, va_K.moved hW.alike C.2.2.2.2.2.2.1, fun q hq => ⟨C.2.2.2.2.2.2.2.1 q (Nat.le_trans hS.1 (by rw [hU] at hq; exact hq)), fun e => ?_⟩, hX U (C.2.2.2.2.2.2.2.2.2.2.2 s U hW ⟨by rw [hU]; exact hS.1, fun q h1 h2 => by rw [hU]; exact hS.2.1 q h1 h2⟩ C.2.2.2.2.2.2.2.2.2.2.1)⟩
  rw [hU, e] at hq
  omega
/-- a call that leaves the cell o alone -/
theorem tt_callVF {M' : ch_M} {Q' : Option Value → ch_H → Prop} {ix n fr' lo' mc' ms' : Nat} {b ci : Nat} {fs : List Value} {r9 : vw_C} {As rest : List Value} (hx' : ch_x (ch_m1 A o) X') (hX : ∀ s, X s → X' s) (hn0 : h o = none) (hd : decode M.2.1 pc = .ok (.invokevirtual ix, 3)) (hm : ch_m M' n) (hw1 : Cond.methodLink M.1.cls ix M'.1 ∈ wsA) (hw2 : Cond.instanceMethod M'.1 ∈ wsA) (hw3 : Cond.selects M'.1.cls M'.1 M'.1 ∈ wsA) (hb : h b = some (.inr (ci, fs))) (hc : vwCl[ci]? = some r9) (hcl : r9.1 = M'.1.cls) (hn : As.length = n) (hroom : fr' + 1 ≤ fr ∧ 8 + (M'.2.2.1 + 11) + lo' ≤ lo) (hcells : c + mc' ≤ mc ∧ z + ms' ≤ ms) (hst : (rest.map fun v => v.category).sum ≤ 8) (hlen : (lg_sl (.ref b :: As)).length ≤ M'.2.2.1)
    (kc : tt l D tys (ch_m1 A o) X' fr' lo' mc' ms' M' Q' 0 (lv_args 0 (.ref b :: As)) [] h 0 0) (kk : ∀ r g, Q' r g → g o = none → tt l D tys A X fr lo mc ms M Q (pc + 3) lv (r.toList ++ rest) (ch_up g o eo) (c + mc') (z + ms')) : tt l D tys A X fr lo mc ms M Q pc lv (As.reverse ++ .ref b :: rest) (ch_up h o eo) c z := by
  intro p e s m args below meth cd H locs ls C hl hr hS
  obtain ⟨hr', hat, hAo⟩ := ch_cut hn0 hr
  have ho : o < H.size := hat.lt
  obtain ⟨ws, h1, hP, hD⟩ := id hr'
  obtain ⟨q0, hq⟩ := h1 b _ hb
  have hG : GoodIn wsA (wsV M.1.cls ix M'.1.cls M'.1 (Cond.code M'.1 M'.2.1 M'.2.2.1 M'.2.2.2 :: wsA)) := ch_giA (fun w hw => by
    simp only [List.mem_cons, List.not_mem_nil, or_false] at hw
    rcases hw with rfl | rfl | rfl | rfl
    · exact hw1
    · exact hw2
    · exact hw3
    · exact hm.2.1) (ch_gi hm.1)
  have hrun := va_runV (e := e) (below := below) (meth := meth) (locs := locs) (cells := c) (slots := z) (R := ch_room fr lo mc ms) (g := F0 m pc ls (As.reverse ++ .ref b :: rest)) (As := As) (rest := rest) (b := b) (H := H) (index := ix) ⟨C.1, C.2.1, C.2.2.2.1, C.2.2.2.2.1, C.2.2.2.2.2.1⟩ (tt_met hm.2.2.1 hlen hx' kc) (cwV n C.2.2.2.2.2.1 hG rfl rfl rfl ⟨rfl, hm.2.2.2.1, hm.2.2.2.2.1, hm.2.2.2.2.2⟩ hroom)
    ⟨ch_blind hx', by rw [← hcl]; exact va_recv C.2.2.2.2.2.2.1 hP hc hq, ch_preF hX C hr' ho hS⟩ rfl hn hl.1 rfl (lv_room (m := m) (pc := pc) (ls := ls) hst) hd hcells
  intro T hT Y
  obtain ⟨v, st₀, t, T', L, h0, Y', hL, e1, e2, ⟨⟨r, g, hv, hrg, hQ⟩, hz, hk⟩, stp⟩ := hrun T hT Y
  cases hv
  rw [h0] at hz hk
  have hat2 : va_at D vwCl (o, eo) t.heap := hat.kept (hk o ho (fun q => q.2 rfl))
  obtain ⟨gn, hg⟩ := ch_glue hrg hat2 hAo
  obtain ⟨t2, a1, b1⟩ := kk v g hQ gn p e s m args below meth cd T'.heap (locs ++ L) ls C hl (by rw [e1]; exact hg)
    ⟨Nat.le_trans hS.1 (by rw [e1]; exact hz), fun q h1 h2 => by rw [e1, hk q (Nat.lt_of_lt_of_le h1 hS.1) (fun q9 => h2 q9.1)]; exact hS.2.1 q h1 h2, fun q hq => by
      rcases List.mem_append.mp hq with h | h
      · exact hS.2.2 q h
      · exact (hL q h).1⟩ T' rfl Y'
  exact ⟨t2, stp t2 a1, b1⟩
/-- a frame whose method has the table Ex, and that ends as Z says -/
def tz (l : Launch) (D : va_G) (tys : List (ClassId × FieldType)) (A : Nat → Prop) (X : State → Prop) (Z : List Frame → Array Value → State → State → Prop) (Ex : List ExceptionTableEntry → Prop) (fr lo mc ms : Nat) (M : ch_M) (pc : Nat) (lv : List (Nat × Value)) (st : List Value) (h : ch_H) (c z : Nat) : Prop :=
  ∀ (p : Program) (e : Env) (s : State) (m : MethodId) (args : Array Value) (below : List Frame) (meth : Method) (cd : Code) (H : Heap) (locs : List Loc) (ls : Array Slot), Ex cd.exceptionTable.toList →
    ch_c l D tys A X M p s m args meth cd → lv_has ls M.2.2.1 lv → ch_r D A h H → va_S A s.heap H locs →
    W p l e (ch_room fr lo mc ms) s m args below meth cd H locs c z (Z below args s) (F0 m pc ls st)
/-- what a throw leaves -/
def vq (D : va_G) (A : Nat → Prop) (Qx : ch_H → Prop) : String → State → State → Prop := fun E st t => E = nsX ∧ (∃ g, ch_r D A g t.heap ∧ Qx g) ∧ va_F A st t
def zX (D : va_G) (A : Nat → Prop) (mc ms : Nat) (Q : Option Value → ch_H → Prop) (XC : String → State → State → Prop) : List Frame → Array Value → State → State → Prop := fun below args s => vx_MQ below (ch_q D A Q) XC args s mc ms A
variable {Z : List Frame → Array Value → State → State → Prop} {Ex : List ExceptionTableEntry → Prop}
theorem tz_iconst {n : Int} {v : Int32} (hv : Int32.ofInt n = v) (hd : decode M.2.1 pc = .ok (.iconst n, 1)) (k : tz l D tys A X Z Ex fr lo mc ms M (pc + 1) lv (.int v :: st) h c z) : tz l D tys A X Z Ex fr lo mc ms M pc lv st h c z :=
  fun p e s m args below meth cd H locs ls hE C hl hr hS => lv_iconst C.1 C.2.1 hd hv (k p e s m args below meth cd H locs ls hE C hl hr hS)
theorem tz_bipush {n : Int} {v : Int32} (hv : (Int8.ofInt n).toInt32 = v) (hd : decode M.2.1 pc = .ok (.bipush n, 2)) (k : tz l D tys A X Z Ex fr lo mc ms M (pc + 2) lv (.int v :: st) h c z) : tz l D tys A X Z Ex fr lo mc ms M pc lv st h c z :=
  fun p e s m args below meth cd H locs ls hE C hl hr hS => lv_bipush C.1 C.2.1 hd hv (k p e s m args below meth cd H locs ls hE C hl hr hS)
theorem tz_iload_n {k4 : Fin 4} {i : Nat} {x : Int32} (hi : (k4 : Nat) = i) (hm : (i, Value.int x) ∈ lv) (hd : decode M.2.1 pc = .ok (.iload_n k4, 1)) (k : tz l D tys A X Z Ex fr lo mc ms M (pc + 1) lv (.int x :: st) h c z) : tz l D tys A X Z Ex fr lo mc ms M pc lv st h c z :=
  fun p e s m args below meth cd H locs ls hE C hl hr hS => lv_iload_n C.1 C.2.1 hd hi (hl.2.2 (i, Value.int x) hm) (k p e s m args below meth cd H locs ls hE C hl hr hS)
theorem tz_aload_n {k4 : Fin 4} {i : Nat} {x : Nat} (hi : (k4 : Nat) = i) (hm : (i, Value.ref x) ∈ lv) (hd : decode M.2.1 pc = .ok (.aload_n k4, 1)) (k : tz l D tys A X Z Ex fr lo mc ms M (pc + 1) lv (.ref x :: st) h c z) : tz l D tys A X Z Ex fr lo mc ms M pc lv st h c z :=
  fun p e s m args below meth cd H locs ls hE C hl hr hS => lv_aload_n C.1 C.2.1 hd hi (hl.2.2 (i, Value.ref x) hm) (k p e s m args below meth cd H locs ls hE C hl hr hS)
theorem tz_if_eq {x : Int32} {off : Int} {tgt : Nat} (hd : decode M.2.1 pc = .ok (.ifCond .eq off, 3)) (ht : (pc : Int) + off = (tgt : Int)) (kt : x = 0 → tz l D tys A X Z Ex fr lo mc ms M tgt lv st h c z) (kf : ¬ x = 0 → tz l D tys A X Z Ex fr lo mc ms M (pc + 3) lv st h c z) : tz l D tys A X Z Ex fr lo mc ms M pc lv (.int x :: st) h c z :=
  fun p e s m args below meth cd H locs ls hE C hl hr hS => lv_if_eq C.1 C.2.1 hd ht (fun q => kt q p e s m args below meth cd H locs ls hE C hl hr hS) (fun q => kf q p e s m args below meth cd H locs ls hE C hl hr hS)
theorem tz_if_lt {x : Int32} {off : Int} {tgt : Nat} (hd : decode M.2.1 pc = .ok (.ifCond .lt off, 3)) (ht : (pc : Int) + off = (tgt : Int)) (kt : x < 0 → tz l D tys A X Z Ex fr lo mc ms M tgt lv st h c z) (kf : ¬ x < 0 → tz l D tys A X Z Ex fr lo mc ms M (pc + 3) lv st h c z) : tz l D tys A X Z Ex fr lo mc ms M pc lv (.int x :: st) h c z :=
  fun p e s m args below meth cd H locs ls hE C hl hr hS => lv_if_lt C.1 C.2.1 hd ht (fun q => kt q p e s m args below meth cd H locs ls hE C hl hr hS) (fun q => kf q p e s m args below meth cd H locs ls hE C hl hr hS)
theorem tz_icmp_le {x y : Int32} {off : Int} {tgt : Nat} (hd : decode M.2.1 pc = .ok (.if_icmp .le off, 3)) (ht : (pc : Int) + off = (tgt : Int)) (kt : x ≤ y → tz l D tys A X Z Ex fr lo mc ms M tgt lv st h c z) (kf : ¬ x ≤ y → tz l D tys A X Z Ex fr lo mc ms M (pc + 3) lv st h c z) : tz l D tys A X Z Ex fr lo mc ms M pc lv (.int y :: .int x :: st) h c z :=
  fun p e s m args below meth cd H locs ls hE C hl hr hS => lv_icmp_le C.1 C.2.1 hd ht (fun q => kt q p e s m args below meth cd H locs ls hE C hl hr hS) (fun q => kf q p e s m args below meth cd H locs ls hE C hl hr hS)
/-- from here on it ends well -/
theorem tz_tt {XC : String → State → State → Prop} (k : tt l D tys A X fr lo mc ms M Q pc lv st h c z) : tz l D tys A X (zX D A mc ms Q XC) Ex fr lo mc ms M pc lv st h c z :=
  fun p e s m args below meth cd H locs ls _ C hl hr hS => vx_ret (k p e s m args below meth cd H locs ls C hl hr hS)
theorem tz_callV {M' : ch_M} {Q' : Option Value → ch_H → Prop} {ix n fr' lo' mc' ms' : Nat} {b ci : Nat} {fs : List Value} {r9 : vw_C} {As rest : List Value} (hd : decode M.2.1 pc = .ok (.invokevirtual ix, 3)) (hm : ch_m M' n) (hw1 : Cond.methodLink M.1.cls ix M'.1 ∈ wsA) (hw2 : Cond.instanceMethod M'.1 ∈ wsA) (hw3 : Cond.selects M'.1.cls M'.1 M'.1 ∈ wsA) (hb : h b = some (.inr (ci, fs))) (hc : vwCl[ci]? = some r9) (hcl : r9.1 = M'.1.cls) (hn : As.length = n) (hroom : fr' + 1 ≤ fr ∧ 8 + (M'.2.2.1 + 11) + lo' ≤ lo) (hcells : c + mc' ≤ mc ∧ z + ms' ≤ ms) (hst : (rest.map fun v => v.category).sum ≤ 8) (hlen : (lg_sl (.ref b :: As)).length ≤ M'.2.2.1)
    (kc : tt l D tys A X fr' lo' mc' ms' M' Q' 0 (lv_args 0 (.ref b :: As)) [] h 0 0) (kk : ∀ r g, Q' r g → tz l D tys A X Z Ex fr lo mc ms M (pc + 3) lv (r.toList ++ rest) g (c + mc') (z + ms')) : tz l D tys A X Z Ex fr lo mc ms M pc lv (As.reverse ++ .ref b :: rest) h c z := by
  intro p e s m args below meth cd H locs ls hE C hl hr hS
  obtain ⟨ws, h1, hP, hD⟩ := id hr
  obtain ⟨q0, hq⟩ := h1 b _ hb
  have hG : GoodIn wsA (wsV M.1.cls ix M'.1.cls M'.1 (Cond.code M'.1 M'.2.1 M'.2.2.1 M'.2.2.2 :: wsA)) := ch_giA (fun w hw => by
    simp only [List.mem_cons, List.not_mem_nil, or_false] at hw
    rcases hw with rfl | rfl | rfl | rfl
    · exact hw1
    · exact hw2
    · exact hw3
    · exact hm.2.1) (ch_gi hm.1)
  have hrun := va_runV (e := e) (below := below) (meth := meth) (locs := locs) (cells := c) (slots := z) (R := ch_room fr lo mc ms) (g := F0 m pc ls (As.reverse ++ .ref b :: rest)) (As := As) (rest := rest) (b := b) (H := H) (index := ix) ⟨C.1, C.2.1, C.2.2.2.1, C.2.2.2.2.1, C.2.2.2.2.2.1⟩ (tt_met hm.2.2.1 hlen C.2.2.2.2.2.2.2.2.2.2.2 kc) (cwV n C.2.2.2.2.2.1 hG rfl rfl rfl ⟨rfl, hm.2.2.2.1, hm.2.2.2.2.1, hm.2.2.2.2.2⟩ hroom)
    ⟨ch_blind C.2.2.2.2.2.2.2.2.2.2.2, by rw [← hcl]; exact va_recv C.2.2.2.2.2.2.1 hP hc hq, ch_pre C hr hS⟩ rfl hn hl.1 rfl (lv_room (m := m) (pc := pc) (ls := ls) hst) hd hcells
  intro T hT Y
  obtain ⟨v, st₀, t, T', L, h0, Y', hL, e1, e2, ⟨⟨r, g, hv, hrg, hQ⟩, hz, hk⟩, stp⟩ := hrun T hT Y
  cases hv
  rw [h0] at hz hk
  obtain ⟨t2, a1, b1⟩ := kk v g hQ p e s m args below meth cd T'.heap (locs ++ L) ls hE C hl (by rw [e1]; exact hrg)
    ⟨Nat.le_trans hS.1 (by rw [e1]; exact hz), fun q h1 h2 => by rw [e1, hk q (Nat.lt_of_lt_of_le h1 hS.1) h2]; exact hS.2.1 q h1 h2, fun q hq => by
      rcases List.mem_append.mp hq with h | h
      · exact hS.2.2 q h
      · exact hL q h⟩ T' rfl Y'
  exact ⟨t2, stp t2 a1, b1⟩
/-- a method that returns or throws -/
theorem tz_met {XC : String → State → State → Prop} {vs : List Value} (hy : plainName M.1.cls = true) (hlen : (lg_sl vs).length ≤ M.2.2.1) (hx : ch_x A X) (k : tz l D tys A X (zX D A mc ms Q XC) (fun E => ∀ x ∈ E, False) fr lo mc ms M 0 (lv_args 0 vs) [] h 0 0) : vx_Met l M.1 (Cond.code M.1 M.2.1 M.2.2.1 M.2.2.2 :: wsA) (ch_room fr lo mc ms) (ch_p D tys A X vs h) (ch_q D A Q) XC mc ms A := by
  refine vx_ofW (cc := M.2.1) (maxL := M.2.2.1) (ret := M.2.2.2) hy rfl ?_
  intro p e s m args below meth cd s₁ B hml hE hv
  obtain ⟨rfl, hr, hK, hA, hX⟩ := hv
  have hts := atoms_spec (ws := Cond.code M.1 M.2.1 M.2.2.1 M.2.2.2 :: wsA) B.pre
  rw [lg_entry_eq]
  exact k p e s m _ below meth cd s.heap [] _ hE ⟨B.exec, B.bytes, B.returns, hml, findClass_of_methodNamed B.named, fun w hw => hts w (List.mem_cons_of_mem _ hw), hK, hA, B.notSynchronized, (name_of_methodNamed B.named B.method).1, hX, hx⟩ (lv_entry vs hlen) hr va_S.rf
/-- a method with handlers, that throws nothing -/
theorem tz_metH {hh : List (Nat × Nat × Nat × Nat)} {vs : List Value} (hy : plainName M.1.cls = true) (hlen : (lg_sl vs).length ≤ M.2.2.1) (hx : ch_x A X) (k : tz l D tys A X (zX D A mc ms Q (fun _ _ _ => False)) (fun E => E = tableOf hh) fr lo mc ms M 0 (lv_args 0 vs) [] h 0 0) : Met l M.1 (Cond.codeWith M.1 M.2.1 M.2.2.1 M.2.2.2 hh :: wsA) (ch_room fr lo mc ms) (ch_p D tys A X vs h) (ch_q D A Q) mc ms A := by
  have h9 : vx_Met l M.1 (Cond.codeWith M.1 M.2.1 M.2.2.1 M.2.2.2 hh :: wsA) (ch_room fr lo mc ms) (ch_p D tys A X vs h) (ch_q D A Q) (fun _ _ _ => False) mc ms A := by
    refine vx_ofWH (cc := M.2.1) (maxL := M.2.2.1) (ret := M.2.2.2) hy rfl ?_
    intro p e s m args below meth cd s₁ B hml hv
    obtain ⟨rfl, hr, hK, hA, hX⟩ := hv
    have hts := atoms_spec (ws := Cond.codeWith M.1 M.2.1 M.2.2.1 M.2.2.2 hh :: wsA) B.pre
    rw [lg_entry_eq]
    exact k p e s m _ below meth cd s.heap [] _ (vx_table (x := M.1) B (hts _ List.mem_cons_self)) ⟨B.exec, B.bytes, B.returns, hml, findClass_of_methodNamed B.named, fun w hw => hts w (List.mem_cons_of_mem _ hw), hK, hA, B.notSynchronized, (name_of_methodNamed B.named B.method).1, hX, hx⟩ (lv_entry vs hlen) hr va_S.rf
  intro p e h1 h2 h3 s m args below h4 h5 h6 h7
  obtain ⟨n, o9, q1, q2, q3, q4⟩ := h9 p e h1 h2 h3 s m args below h4 h5 h6 h7
  rcases q4 with q4 | ⟨q, -, E, ce, L, hF, -⟩
  · exact ⟨n, o9, q1, q2, q3, q4⟩
  · exact hF.elim
end
