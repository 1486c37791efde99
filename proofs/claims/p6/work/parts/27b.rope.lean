/-! rope: of the class (it returns or throws), of the law (it catches) -/
def xr (A : Nat → Prop) (sa : Nat) (s : State) : Prop := (∀ w ∈ nsF, ∀ a : Array Value, w.before a s = true) ∧ vk_R RX10 159 "no such rope, or nothing of it by this number" sa s ∧ vx_Zq Bundle.tN "UNASSIGNED_STACK" Bundle.steD A s s.heap ∧ vx_Zq Bundle.tN "SUPPRESSED_SENTINEL" Bundle.listD A s s.heap
theorem ch_up_up (h : ch_H) (a : Nat) (e1 e2 : va_E) : ch_up (ch_up h a e1) a e2 = ch_up h a e2 := by
  funext q
  unfold ch_up
  split <;> rfl
/-- what rope of the law tells: 0 and the class's answer, or 1 -/
def l9_rope (cA : Nat → ClassId) (h : ch_H) (x : Nat) (a b w : Int32) (f : Nat → Int64) : Prop := w = 0 ∧ (∃ y : Int32, f 0 = y.toInt64 ∧ ∀ q, kE cA h x q → c9_rope a b q.1 ∧ y.toInt = q9_rope a.toInt.toNat b.toInt.toNat q.1 q.2) ∨ w = 1 ∧ ∀ q, kE cA h x q → ¬ c9_rope a b q.1
section
variable {l : Launch} {D : va_G} {tys : List (ClassId × FieldType)} {A : Nat → Prop} {X X' : State → Prop} {fr lo mc ms : Nat} {M : ch_M} {Q : Option Value → ch_H → Prop} {pc : Nat} {lv : List (Nat × Value)} {st : List Value} {h : ch_H} {c z : Nat} {o : Nat} {eo : va_E} {sa : Nat}
theorem tt_up {fr' lo' : Nat} (hf : fr' ≤ fr) (hl : lo' ≤ lo) (k : tt l D tys A X fr' lo' 0 0 M Q pc lv st h 0 0) : tt l D tys A X fr lo mc ms M Q pc lv st h 0 0 := by
  intro p e s m args below meth cd H locs ls C hl9 hr hS T hT Y
  have hroom : s.hasRoom e.platform (ch_room fr' lo' 0 0) = true := by
    have := Y.room
    unfold State.hasRoom at this ⊢
    simp only [Bool.and_eq_true, decide_eq_true_eq] at this ⊢
    have a1 : (ch_room fr' lo' 0 0).frames ≤ (ch_room fr lo mc ms).frames := hf
    have a2 : (ch_room fr' lo' 0 0).locals ≤ (ch_room fr lo mc ms).locals := hl
    have a3 : (ch_room fr' lo' 0 0).cells = 0 := rfl
    have a4 : (ch_room fr' lo' 0 0).slots = 0 := rfl
    obtain ⟨⟨⟨⟨b0, b1, b2, b3, b4, b5⟩, b6⟩, b7⟩, b8⟩ := this
    exact ⟨⟨⟨⟨by omega, by omega, by omega, by omega, by omega, b5⟩, by omega⟩, by omega⟩, b8⟩
  obtain ⟨t, a1, o9, b1, b2, b3, L9, b4, b5⟩ := k p e s m args below meth cd H locs ls C hl9 hr hS T hT ⟨Y.admits, Y.cas, Y.clock, Y.frames, hroom, Y.hears, Y.method, Y.code, Y.here, Y.tail, Y.warmed, Y.limits, Y.bytes, Y.same⟩
  exact ⟨t, a1, o9, b1, b2, b3, L9, ⟨b4.1, b4.2.1, b4.2.2.mono (Nat.zero_le _) (Nat.zero_le _)⟩, b5⟩
theorem tz_throw {Qx : ch_H → Prop} (hX : ∀ s, X s → xr A sa s) (hlt : l.stackTraces = false) (hM : M.1.cls = RX10) (hq : Qx h) (hf : 5 < fr) (hl : 100 ≤ lo) (hc : c + 1 ≤ mc) (hz : z + 6 ≤ ms) (hst : (st.map fun v => v.category).sum ≤ 8)
    (d0 : decode M.2.1 pc = .ok (.new 157, 3)) (d3 : decode M.2.1 (pc + 3) = .ok (.dup, 1)) (d4 : decode M.2.1 (pc + 4) = .ok (.ldc 159, 2)) (d6 : decode M.2.1 (pc + 6) = .ok (.invokespecial 161, 3)) (d9 : decode M.2.1 (pc + 9) = .ok (.athrow, 1)) :
    tz l D tys A X (zX D A mc ms Q (vq D A Qx)) (fun E => ∀ x ∈ E, False) fr lo mc ms M pc lv st h c z := by
  intro p e s m args below meth cd H locs ls hE C hl9 hr hS
  obtain ⟨x1, x2, x3, x4⟩ := hX s C.2.2.2.2.2.2.2.2.2.2.1
  have hown := C.2.2.2.2.1
  rw [hM] at hown
  refine ns_throw (own := RX10) (A := A) C.1 C.2.1 hlt hown (C.2.2.2.2.2.1 _ (wA4 226 rfl rfl)) (C.2.2.2.2.2.1 _ (wA1 21 rfl rfl)) x2 (fun w hw => ?_) x3 x4 hS (hl9.1.trans C.2.2.2.1.symm) d0 d3 d4 d6 d9 (fun x hx => (hE x hx).elim) hf (by
    show _ + _ ≤ lo
    omega) hc hz C.2.2.2.2.2.2.2.2.1 (fun t ht h1 h2 => ?_) hS.2.2 hc hz
  · rcases ns_words w hw with q | q
    · exact ⟨C.2.2.2.2.2.1 _ q, by unfold vx_ot; rw [(List.mem_filter.mp q).2]; exact Bool.or_true _⟩
    · exact ⟨x1 w q args, by unfold vx_ot; rw [(nsF_ot w q).1]; rfl⟩
  · obtain ⟨ws, r1, hP, hD⟩ := hr
    refine ⟨rfl, ⟨h, ⟨ws, r1, hP.kept (fun k q hk => h2 q.1 (hP k q hk).lt), hD⟩, hq⟩, Nat.le_trans hS.1 h1, fun q q1 q2 => ?_⟩
    rw [h2 q (Nat.lt_of_lt_of_le q1 hS.1)]
    exact hS.2.1 q q1 q2
/-- a call that may throw, with a handler for it; the cell o is left alone -/
theorem tz_callXF {Z : List Frame → Array Value → State → State → Prop} {M' : ch_M} {Q' : Option Value → ch_H → Prop} {Qx : ch_H → Prop} {hh : List (Nat × Nat × Nat × Nat)} {x0 : ExceptionTableEntry} {suf : List ExceptionTableEntry} {ix n fr' lo' mc' ms' : Nat} {b ci : Nat} {fs : List Value} {r9 : vw_C} {As rest : List Value} (hx' : ch_x (ch_m1 A o) X') (hXX : ∀ s, X s → X' s) (hn0 : h o = none) (hd : decode M.2.1 pc = .ok (.invokevirtual ix, 3)) (hm : ch_m M' n) (hw1 : Cond.methodLink M.1.cls ix M'.1 ∈ wsA) (hw2 : Cond.instanceMethod M'.1 ∈ wsA) (hw3 : Cond.selects M'.1.cls M'.1 M'.1 ∈ wsA) (hb : h b = some (.inr (ci, fs))) (hc : vwCl[ci]? = some r9) (hcl : r9.1 = M'.1.cls) (hn : As.length = n) (hroom : fr' + 1 ≤ fr ∧ 8 + (M'.2.2.1 + 11) + lo' ≤ lo) (hcells : c + mc' ≤ mc ∧ z + ms' ≤ ms) (hst : (rest.map fun v => v.category).sum ≤ 8)
    (hM : vx_Met l M'.1 (Cond.code M'.1 M'.2.1 M'.2.2.1 M'.2.2.2 :: wsA) (ch_room fr' lo' mc' ms') (ch_p D tys (ch_m1 A o) X' (.ref b :: As) h) (ch_q D (ch_m1 A o) Q') (vq D (ch_m1 A o) Qx) mc' ms' (ch_m1 A o))
    (hsp : tableOf hh = x0 :: suf) (hcov : covers x0 pc = true) (h00 : x0.catchType ≠ 0) (hlink : Cond.classLink M.1.cls x0.catchType nsX ∈ wsA) (hcast : ∀ s, X s → ∀ a : Array Value, (Cond.castable nsX nsX).before a s = true)
    (kk : ∀ r g, Q' r g → g o = none → tz l D tys A X Z (fun E => E = tableOf hh) fr lo mc ms M (pc + 3) lv (r.toList ++ rest) (ch_up g o eo) (c + mc') (z + ms'))
    (kx : ∀ g q, Qx g → g o = none → tz l D tys A X Z (fun E => E = tableOf hh) fr lo mc ms M x0.handlerPc lv [.ref q] (ch_up g o eo) (c + mc') (z + ms')) : tz l D tys A X Z (fun E => E = tableOf hh) fr lo mc ms M pc lv (As.reverse ++ .ref b :: rest) (ch_up h o eo) c z := by
  intro p e s m args below meth cd H locs ls hE C hl hr hS
  obtain ⟨hr', hat, hAo⟩ := ch_cut hn0 hr
  have ho : o < H.size := hat.lt
  obtain ⟨ws, h1, hP, hD⟩ := id hr'
  obtain ⟨q0, hq⟩ := h1 b _ hb
  have hG : GoodIn wsA (wsV M.1.cls ix M'.1.cls M'.1 (Cond.code M'.1 M'.2.1 M'.2.2.1 M'.2.2.2 :: wsA)) := ch_giA (fun w hw => by
    simp only [List.mem_cons, List.not_mem_nil, or_false] at hw
    rcases hw with rfl | rfl | rfl | rfl
    · exact hw1
    · exact hw2
    · exact hw3
    · exact hm.2.1) (ch_gi hm.1)
  have hrun := vx_runV (e := e) (below := below) (meth := meth) (locs := locs) (cells := c) (slots := z) (R := ch_room fr lo mc ms) (g := F0 m pc ls (As.reverse ++ .ref b :: rest)) (As := As) (rest := rest) (b := b) (H := H) (index := ix) ⟨C.1, C.2.1, C.2.2.2.1, C.2.2.2.2.1, C.2.2.2.2.2.1⟩ hM (cwV n C.2.2.2.2.2.1 hG rfl rfl rfl ⟨rfl, hm.2.2.2.1, hm.2.2.2.2.1, hm.2.2.2.2.2⟩ hroom)
    ⟨ch_blind hx', by rw [← hcl]; exact va_recv C.2.2.2.2.2.2.1 hP hc hq, ch_preF hXX C hr' ho hS⟩ rfl hn hl.1 rfl (lv_room (m := m) (pc := pc) (ls := ls) hst) hd hcells
  intro T hT Y
  rcases hrun T hT Y with ⟨v, st₀, t, T', L, h0, Y', hL, e1, e2, ⟨⟨r, g, hv, hrg, hQ⟩, hz, hk⟩, stp⟩ | ⟨q, st₀, t, T', L, E, ce, h0, Y', hL, e1, e2, ⟨rfl, ⟨g, hrg, hQx⟩, hz, hk⟩, hce, hcv, hcl2, stp⟩
  · cases hv
    rw [h0] at hz hk
    have hat2 : va_at D vwCl (o, eo) t.heap := hat.kept (hk o ho (fun q => q.2 rfl))
    obtain ⟨gn, hg⟩ := ch_glue hrg hat2 hAo
    obtain ⟨t2, a1, b1⟩ := kk v g hQ gn p e s m args below meth cd T'.heap (locs ++ L) ls hE C hl (by rw [e1]; exact hg)
      ⟨Nat.le_trans hS.1 (by rw [e1]; exact hz), fun q h1 h2 => by rw [e1, hk q (Nat.lt_of_lt_of_le h1 hS.1) (fun q9 => h2 q9.1)]; exact hS.2.1 q h1 h2, fun q hq => by
        rcases List.mem_append.mp hq with h | h
        · exact hS.2.2 q h
        · exact (hL q h).1⟩ T' rfl Y'
    exact ⟨t2, stp t2 a1, b1⟩
  · rw [h0] at hz hk
    have hat2 : va_at D vwCl (o, eo) t.heap := hat.kept (hk o ho (fun q => q.2 rfl))
    obtain ⟨gn, hg⟩ := ch_glue hrg hat2 hAo
    have hk2 := kx g q hQx gn p e s m args below meth cd T'.heap (locs ++ L) ls hE C hl (by rw [e1]; exact hg)
      ⟨Nat.le_trans hS.1 (by rw [e1]; exact hz), fun q h1 h2 => by rw [e1, hk q (Nat.lt_of_lt_of_le h1 hS.1) (fun q9 => h2 q9.1)]; exact hS.2.1 q h1 h2, fun q hq => by
        rcases List.mem_append.mp hq with h | h
        · exact hS.2.2 q h
        · exact (hL q h).1⟩
    have hcat := vx_catch (pc := pc) (rest := rest) (E := nsX) (name := nsX) (own := M.1.cls) (ce := ce) (q := q) C.2.2.2.2.1 [] x0 suf (hE.trans hsp) (fun z hz => absurd hz List.not_mem_nil) hcov h00 (C.2.2.2.2.2.1 _ hlink) (hcast s C.2.2.2.2.2.2.2.2.2.2.1 args) (by rw [e1]; exact hce) hcv hcl2 hk2
    obtain ⟨t2, a1, b1⟩ := hcat T' rfl Y'
    exact ⟨t2, stp.trans a1, b1⟩
end
section
variable {l : Launch} {D : va_G} {tys : List (ClassId × FieldType)} {A : Nat → Prop} {X : State → Prop} {Sg : Nat → Option Nat} {cA : Nat → ClassId} {Lb : Nat → k_I} {cs : List k_C} {inl : List Nat}
/-- a run from a place within a method -/
theorem k_at_ok (hT : k_tys tys cA) (hcs : ∀ c ∈ cs, k_sat l D tys A X Sg cA Lb c) {fuel p9 mi fr lo : Nat} {ts : List k_T} {ret : Option k_T} {W : List (Nat × Nat)} (e1 : ts.all k_one = true) (e2 : k_chk Lb cs inl W ret mi fr lo [] ([], 1000000000000000) fuel false (k_init (k_as 0 ts) []) (mi, p9, k_lnum 0 (k_as 0 ts), [], fr, lo) [] = true) (h : ch_H) (vals : List Value) (hH : k_H Sg cA Lb h) (hlen : vals.length = ts.length) (hty : ∀ (i : Nat) (t : k_T), ts[i]? = some t → ∃ v, vals[i]? = some v ∧ k_v Sg v t) :
    tt l D tys A X fr lo 0 0 (k_pM mi) (fun o g => k_H Sg cA Lb g ∧ k_U Sg W h g ∧ k_rt Sg ret o) p9 (lv_args 0 vals) [] h 0 0 := by
  have hcat : ∀ v ∈ vals, v.category = 1 := by
    intro v hv
    obtain ⟨i, hi⟩ := List.getElem?_of_mem hv
    have hlt := (List.getElem?_eq_some_iff.mp hi).1
    have hti : ts[i]? = some ts[i] := List.getElem?_eq_getElem (by omega)
    obtain ⟨v', p1, p2⟩ := hty i _ hti
    rw [hi] at p1
    cases p1
    exact k_cat (List.all_eq_true.mp e1 _ (List.mem_of_getElem? hti)) p2
  have ok : k_ok Sg cA Lb W h h := ⟨hH, k_U.rf⟩
  have gi : k_G Sg vals h (k_init (k_as 0 ts) []) := by
    refine ⟨by simp [k_init, k_as_len, hlen], fun q hq => ?_, fun q hq => absurd hq List.not_mem_nil, fun q hq => absurd hq List.not_mem_nil, fun q hq => absurd hq List.not_mem_nil, fun q hq => ?_⟩
    · obtain ⟨i, p1, p2⟩ := k_num_in 0 _ q hq
      rw [p2, Nat.zero_add]
      rw [k_as_map] at p1
      rw [List.map_nil, List.append_nil] at p1
      exact hty i _ p1
    · obtain ⟨i, u, p1, p2, p3, p4⟩ := k_knum_in _ _ q hq
      cases p1
  have li : k_lv vals (k_lnum 0 (k_as 0 ts)) (lv_args 0 vals) := by
    intro q hq
    obtain ⟨i, u, p1, p2, p3⟩ := k_lnum_in 0 _ q hq
    obtain ⟨q1, q2⟩ := k_as_at 0 ts i u p1
    obtain ⟨v, v1, v2⟩ := hty i _ q2
    refine ⟨v, by rw [p3, Nat.zero_add]; exact v1, ?_⟩
    rw [p2, q1]
    exact lv_args_in 0 vals hcat i v v1
  have fin := k_chk_ok (l := l) (D := D) (A := A) (X := X) (QF := k_QF Sg cA Lb W h ret) (m0 := ([], 1000000000000000)) (mu := 1000000000000000) (inl := inl) hT rfl hcs
    (fun P hP => absurd hP List.not_mem_nil) fuel false _ _ _ e2 vals h (lv_args 0 vals) [] gi ok (fun q hq => absurd hq List.not_mem_nil) (by simp [k_ev]) li rfl
  exact tt_mono (fun o g hq => ⟨hq.1.1, hq.1.2, hq.2⟩) fin
end
section
variable {l : Launch} {D : va_G} {tys : List (ClassId × FieldType)} {A : Nat → Prop} {X : State → Prop} {fr lo : Nat} {Sg : Nat → Option Nat} {cA : Nat → ClassId} {x sa : Nat} {h : ch_H}
theorem z0_isRope {a : Int32} (hH : k_H Sg cA Lb h) (sx : Sg x = some 0) : ww l D tys A X fr lo mX10_isRope (fun v g => ∃ w : Int32, v = some (.int w) ∧ g = h ∧ (¬ w = 0 → 0 ≤ a.toInt ∧ a.toInt ≤ 5) ∧ ∀ τ, bC h x τ → (¬ w = 0 ↔ 0 ≤ a.toInt ∧ a.toInt < (τ.1 : Int))) 0 [(0, .ref x), (1, .int a)] [] h := by
  obtain ⟨xs, c_x, xl, ty⟩ := hH.obj sx (L := 0) rfl
  obtain ⟨v1, f1, t1⟩ := ty 1 _ rfl
  obtain ⟨Pa, rfl, s_Pa⟩ := k_v.ref t1
  obtain ⟨ps, c_p, pl, typ⟩ := hH.obj s_Pa (L := 2) rfl
  obtain ⟨v2, f2, t2⟩ := typ 0 _ rfl
  obtain ⟨y, rfl, y1, y2⟩ := k_v.int t2
  have y2 : y.toInt ≤ 6 := y2
  have hb : ∀ τ, bC h x τ → y.toInt = (τ.1 : Int) := fun τ H => by
    obtain ⟨xs9, ps9, gs9, Pa9, P9, fo9, n9, ga9, pe9, ta9, k1, k2, k3, k4, k5, k6, k7, k8, k9, k10, k11, k12, -⟩ := H
    rw [c_x] at k1
    cases k1
    rw [f1] at k2
    cases k2
    rw [c_p] at k6
    cases k6
    rw [f2] at k7
    cases k7
    exact k12
  have no : (a.toInt < 0 ∨ y.toInt ≤ a.toInt) → ∀ lv9, ww l D tys A X fr lo mX10_isRope (fun v g => ∃ w : Int32, v = some (.int w) ∧ g = h ∧ (¬ w = 0 → 0 ≤ a.toInt ∧ a.toInt ≤ 5) ∧ ∀ τ, bC h x τ → (¬ w = 0 ↔ 0 ≤ a.toInt ∧ a.toInt < (τ.1 : Int))) 19 lv9 [] h := fun no9 lv9 => by
    refine tt_iconst (v := 0) rfl (tX10_isRope_0_ok (19, .iconst 0, 1) (List.mem_of_getElem? (i := 9) rfl)) ?_
    exact tt_zret (ty := .boolean) rfl (by decide) ⟨0, rfl, rfl, fun q => absurd rfl q, fun τ H => ⟨fun q => absurd rfl q, fun q => by have := hb τ H; omega⟩⟩ (Nat.le_refl _) (Nat.le_refl _) (tX10_isRope_0_ok (20, .ireturn, 1) (List.mem_of_getElem? (i := 10) rfl))
  refine w_iload_n (List.Mem.tail _ (List.Mem.head _)) (tX10_isRope_0_ok (0, .iload_n 1, 1) (List.mem_of_getElem? (i := 0) rfl)) ?_
  refine w_if_lt (tgt := 19) (tX10_isRope_0_ok (1, .ifCond .lt 18, 3) (List.mem_of_getElem? (i := 1) rfl)) rfl (fun b0 => no (Or.inl b0) _) (fun b1 => ?_)
  refine w_iload_n (List.Mem.tail _ (List.Mem.head _)) (tX10_isRope_0_ok (4, .iload_n 1, 1) (List.mem_of_getElem? (i := 2) rfl)) ?_
  refine w_aload_n (List.Mem.head _) (tX10_isRope_0_ok (5, .aload_n 0, 1) (List.mem_of_getElem? (i := 3) rfl)) ?_
  refine w_get (own := 15) rfl rfl (by decide) c_x f1 (tX10_isRope_0_ok (6, .getfield 19, 3) (List.mem_of_getElem? (i := 4) rfl)) ?_
  refine w_get (own := 15) rfl rfl (by decide) c_p f2 (tX10_isRope_0_ok (9, .getfield 95, 3) (List.mem_of_getElem? (i := 5) rfl)) ?_
  refine w_icmp_ge (tgt := 19) (tX10_isRope_0_ok (12, .if_icmp .ge 7, 3) (List.mem_of_getElem? (i := 6) rfl)) rfl (fun b0 => no (Or.inr b0) _) (fun b2 => ?_)
  refine tt_iconst (v := 1) rfl (tX10_isRope_0_ok (15, .iconst 1, 1) (List.mem_of_getElem? (i := 7) rfl)) ?_
  refine tt_goto (tgt := 20) (tX10_isRope_0_ok (16, .goto 4, 3) (List.mem_of_getElem? (i := 8) rfl)) rfl ?_
  exact tt_zret (ty := .boolean) rfl (by decide) ⟨1, rfl, rfl, fun _ => ⟨by omega, by omega⟩, fun τ H => ⟨fun _ => by have := hb τ H; omega, fun _ => by decide⟩⟩ (Nat.le_refl _) (Nat.le_refl _) (tX10_isRope_0_ok (20, .ireturn, 1) (List.mem_of_getElem? (i := 10) rfl))
theorem k_chk_rope : k_chk Lb [cc_7] pg_in [(29, 0), (30, 0)] (some (0, -2147483648, 2147483647)) 139 3 71 [] ([], 1000000000000000) 3000 false (k_init (k_as 0 [(2, 0, 0), (0, 0, 5), (0, 0, 9)]) []) (139, 28, k_lnum 0 (k_as 0 [(2, 0, 0), (0, 0, 5), (0, 0, 9)]), [], 3, 71) [] = true := by decide +kernel
/-- rope of the class -/
theorem z_rope (hT : k_TX tys cA A X) (hX : ∀ s, X s → xr A sa s) (hl : l.stackTraces = false) {a b : Int32} (hH : k_H Sg cA Lb h) (sx : Sg x = some 0) : tz l D tys A X (zX D A 1 6 (fun v g => (∃ w : Int32, v = some (.int w) ∧ ∀ q, kE cA h x q → c9_rope a b q.1 ∧ w.toInt = q9_rope a.toInt.toNat b.toInt.toNat q.1 q.2) ∧ k_H Sg cA Lb g ∧ k_U Sg [(29, 0), (30, 0)] h g) (vq D A (fun g => (k_H Sg cA Lb g ∧ k_U Sg [(29, 0), (30, 0)] h g) ∧ ∀ τ, bC h x τ → ¬ c9_rope a b τ))) (fun E => ∀ x ∈ E, False) 10 200 1 6 mX10_rope 0 [(0, .ref x), (1, .int a), (2, .int b)] [] h 0 0 := by
  obtain ⟨xs, c_x, xl, ty⟩ := hH.obj sx (L := 0) rfl
  have thr : (∀ τ, bC h x τ → ¬ c9_rope a b τ) → tz l D tys A X (zX D A 1 6 (fun v g => (∃ w : Int32, v = some (.int w) ∧ ∀ q, kE cA h x q → c9_rope a b q.1 ∧ w.toInt = q9_rope a.toInt.toNat b.toInt.toNat q.1 q.2) ∧ k_H Sg cA Lb g ∧ k_U Sg [(29, 0), (30, 0)] h g) (vq D A (fun g => (k_H Sg cA Lb g ∧ k_U Sg [(29, 0), (30, 0)] h g) ∧ ∀ τ, bC h x τ → ¬ c9_rope a b τ))) (fun E => ∀ x ∈ E, False) 10 200 1 6 mX10_rope 18 [(0, .ref x), (1, .int a), (2, .int b)] [] h 0 0 := fun hno =>
    tz_throw hX hl rfl ⟨⟨hH, k_U.rf⟩, hno⟩ (by decide) (by decide) (by decide) (by decide) (Nat.le_of_ble_eq_true rfl) (tX10_rope_0_ok (18, .new 157, 3) (List.mem_of_getElem? (i := 9) rfl)) (tX10_rope_0_ok (21, .dup, 1) (List.mem_of_getElem? (i := 10) rfl)) (tX10_rope_0_ok (22, .ldc 159, 2) (List.mem_of_getElem? (i := 11) rfl)) (tX10_rope_0_ok (24, .invokespecial 161, 3) (List.mem_of_getElem? (i := 12) rfl)) (tX10_rope_0_ok (27, .athrow, 1) (List.mem_of_getElem? (i := 13) rfl))
  refine tz_aload_n rfl (List.Mem.head _) (tX10_rope_0_ok (0, .aload_n 0, 1) (List.mem_of_getElem? (i := 0) rfl)) ?_
  refine tz_iload_n rfl (List.Mem.tail _ (List.Mem.head _)) (tX10_rope_0_ok (1, .iload_n 1, 1) (List.mem_of_getElem? (i := 1) rfl)) ?_
  obtain ⟨e9, z1, z2, z3, z4, z5⟩ := (cllw_X10 (154, 0, 123) (List.mem_of_getElem? (i := 13) rfl))
  cases z1
  refine tz_callV (M' := mX10_isRope) (As := [.int a]) (rest := []) (ci := 9) (fr' := 8) (lo' := 100) (mc' := 0) (ms' := 0) (tX10_rope_0_ok (2, .invokevirtual 154, 3) (List.mem_of_getElem? (i := 2) rfl)) z5 z2 z3 z4 c_x rfl rfl rfl ⟨by decide, by decide⟩ ⟨by decide, by decide⟩ (Nat.le_of_ble_eq_true rfl) (Nat.le_of_ble_eq_true rfl) (z0_isRope hH sx) (fun v1 g H1 => ?_)
  obtain ⟨w9, rfl, rfl, hw, hw2⟩ := H1
  refine tz_if_eq (tgt := 18) (tX10_rope_0_ok (5, .ifCond .eq 13, 3) (List.mem_of_getElem? (i := 3) rfl)) rfl (fun b0 => thr (fun τ H z => ((hw2 τ H).mpr z.1) b0)) (fun b1 => ?_)
  obtain ⟨a1, a2⟩ := hw b1
  refine tz_iload_n rfl (List.Mem.tail _ (List.Mem.tail _ (List.Mem.head _))) (tX10_rope_0_ok (8, .iload_n 2, 1) (List.mem_of_getElem? (i := 4) rfl)) ?_
  refine tz_if_lt (tgt := 18) (tX10_rope_0_ok (9, .ifCond .lt 9, 3) (List.mem_of_getElem? (i := 5) rfl)) rfl (fun b0 => thr (fun τ H z => by have := (kn_lt b 0).mp b0; have e0 : (0 : Int32).toInt = 0 := rfl; have := z.2.1; omega)) (fun b2 => ?_)
  refine tz_iload_n rfl (List.Mem.tail _ (List.Mem.tail _ (List.Mem.head _))) (tX10_rope_0_ok (12, .iload_n 2, 1) (List.mem_of_getElem? (i := 6) rfl)) ?_
  refine tz_bipush (v := 9) rfl (tX10_rope_0_ok (13, .bipush 9, 2) (List.mem_of_getElem? (i := 7) rfl)) ?_
  refine tz_icmp_le (tgt := 28) (tX10_rope_0_ok (15, .if_icmp .le 13, 3) (List.mem_of_getElem? (i := 8) rfl)) rfl (fun b3 => ?_) (fun b0 => thr (fun τ H z => b0 ((kn_le b 9).mpr z.2.2)))
  have b2 : 0 ≤ b.toInt := by have := mt (kn_lt b 0).mpr b2; have e0 : (0 : Int32).toInt = 0 := rfl; omega
  have b3 : b.toInt ≤ 9 := (kn_le b 9).mp b3
  refine tz_tt (tt_mono (fun v9 g9 H9 => ?_) (tt_alls (I := aN × zP) (P := fun q => kE cA g x q) (Q2 := fun q v _ => ∃ w : Int32, v = some (.int w) ∧ c9_rope a b q.1 ∧ w.toInt = q9_rope a.toInt.toNat b.toInt.toNat q.1 q.2) (tt_up (fr' := 3) (lo' := 71) (by decide) (by decide) (k_at_ok hT.1 (List.forall_mem_cons.mpr ⟨sat_7 hT, fun _ h => absurd h List.not_mem_nil⟩) rfl k_chk_rope _ [.ref x, .int a, .int b] hH rfl (fun i t hi => ?_))) (fun q hq => ?_)))
  · obtain ⟨⟨q1, q2, q3⟩, q5⟩ := H9
    obtain ⟨v8, rfl, q4⟩ := q3
    obtain ⟨y8, rfl, -, -⟩ := k_v.int q4
    refine ⟨⟨y8, rfl, fun q hq => ?_⟩, q1, q2⟩
    obtain ⟨g2, -, -, -, w, e, d⟩ := q5 q hq
    cases e
    exact d
  · match i, hi with
    | 0, hi => cases hi; exact ⟨_, rfl, x, rfl, sx⟩
    | 1, hi => cases hi; exact ⟨_, rfl, a, rfl, a1, a2⟩
    | 2, hi => cases hi; exact ⟨_, rfl, b, rfl, b2, b3⟩
  · have c9 : c9_rope a b q.1 := ⟨(hw2 _ hq.1).mp b1, b2, b3⟩
    obtain ⟨-, ⟨hk, ad, I, W, O, hz, rfl, hS, hA⟩, -⟩ := hq
    exact tt_up (fr' := 6) (lo' := 140) (by decide) (by decide) (z9q_rope hT.1 hz hk hS (Nat.le_refl _) (Nat.le_refl _) c9 (fun g v e => ⟨v, rfl, c9, e⟩))
theorem z_lrope {o : Nat} {X' : State → Prop} {f : Nat → Int64} (hT : k_TX tys cA (ch_m1 A o) X') (hTA : k_tys tys cA) (hX : ∀ s, X' s → xr (ch_m1 A o) sa s) (hx' : ch_x (ch_m1 A o) X') (hXX : ∀ s, X s → X' s) (hl : l.stackTraces = false) {a b : Int32} (hn : h o = none) (hH : k_H Sg cA Lb h) (sx : Sg x = some 0) :
    tz l D tys A X (zX D A 1 6 (fun v g' => ∃ (w : Int32) (f' : Nat → Int64) (g : ch_H), v = some (.int w) ∧ g' = ch_up g o (.inl (cA 6, 1, .inr (.inl f'))) ∧ g o = none ∧ k_H Sg cA Lb g ∧ k_U Sg [(29, 0), (30, 0)] h g ∧ l9_rope cA h x a b w f') (fun _ _ _ => False)) (fun E => E = tableOf [(0, 10, 13, 13)]) 12 250 1 6 mL_rope 0 [(0, .ref x), (1, .int a), (2, .int b), (3, .ref o)] [] (ch_up h o (.inl (cA 6, 1, .inr (.inl f)))) 0 0 := by
  obtain ⟨xs, c_x, xl, ty⟩ := hH.obj sx (L := 0) rfl
  refine tz_aload_n rfl (List.Mem.tail _ (List.Mem.tail _ (List.Mem.tail _ (List.Mem.head _)))) (tL_rope_0_ok (0, .aload_n 3, 1) (List.mem_of_getElem? (i := 0) rfl)) ?_
  refine tz_iconst (v := 0) rfl (tL_rope_0_ok (1, .iconst 0, 1) (List.mem_of_getElem? (i := 1) rfl)) ?_
  refine tz_aload_n rfl (List.Mem.head _) (tL_rope_0_ok (2, .aload_n 0, 1) (List.mem_of_getElem? (i := 2) rfl)) ?_
  refine tz_iload_n rfl (List.Mem.tail _ (List.Mem.head _)) (tL_rope_0_ok (3, .iload_n 1, 1) (List.mem_of_getElem? (i := 3) rfl)) ?_
  refine tz_iload_n rfl (List.Mem.tail _ (List.Mem.tail _ (List.Mem.head _))) (tL_rope_0_ok (4, .iload_n 2, 1) (List.mem_of_getElem? (i := 4) rfl)) ?_
  refine tz_callXF (M' := mX10_rope) (As := [.int a, .int b]) (rest := [.int 0, .ref o]) (ci := 9) (fr' := 10) (lo' := 200) (mc' := 1) (ms' := 6) (x0 := ⟨0, 10, 13, 13⟩) (suf := []) hx' hXX hn (tL_rope_0_ok (5, .invokevirtual 7, 3) (List.mem_of_getElem? (i := 5) rfl)) kX10_rope (wA4 222 rfl rfl) iX10_rope vX10_rope c_x rfl rfl rfl ⟨by decide, by decide⟩ ⟨by decide, by decide⟩ (Nat.le_of_ble_eq_true rfl) (tz_met kX10_rope.2.2.1 (Nat.le_of_ble_eq_true rfl) hx' (z_rope hT hX hl hH sx)) rfl rfl (by decide) (wA4 221 rfl rfl) (fun s h9 => (hX s (hXX s h9)).1 _ (List.mem_of_getElem? (i := 3) rfl)) (fun r g H1 gn => ?_) (fun g q H1 gn => ?_)
  · obtain ⟨⟨w9, rfl, q9⟩, q1, q2⟩ := H1
    refine tz_tt ?_
    refine tt_i2l (tL_rope_0_ok (8, .i2l, 1) (List.mem_of_getElem? (i := 6) rfl)) ?_
    refine tt_last (ch_up_s _ _ _) (hTA 6 (by decide)) (kn_in (by decide) (by decide)) (tL_rope_0_ok (9, .lastore, 1) (List.mem_of_getElem? (i := 7) rfl)) ?_
    refine tt_goto (tgt := 17) (tL_rope_0_ok (10, .goto 7, 3) (List.mem_of_getElem? (i := 8) rfl)) rfl ?_
    refine tt_iconst (v := 0) rfl (tL_rope_0_ok (17, .iconst 0, 1) (List.mem_of_getElem? (i := 12) rfl)) ?_
    exact tt_iret rfl ⟨0, _, g, rfl, ch_up_up _ _ _ _, gn, q1, q2, Or.inl ⟨rfl, w9, rfl, q9⟩⟩ (by decide) (by decide) (tL_rope_0_ok (18, .ireturn, 1) (List.mem_of_getElem? (i := 13) rfl))
  · refine tz_tt ?_
    refine tt_astore (tL_rope_0_ok (13, .astore 4, 2) (List.mem_of_getElem? (i := 9) rfl)) (by decide) ?_
    refine tt_iconst (v := 1) rfl (tL_rope_0_ok (15, .iconst 1, 1) (List.mem_of_getElem? (i := 10) rfl)) ?_
    exact tt_iret rfl ⟨1, f, g, rfl, rfl, gn, H1.1.1, H1.1.2, Or.inr ⟨rfl, fun q hq => H1.2 _ hq.1⟩⟩ (by decide) (by decide) (tL_rope_0_ok (16, .ireturn, 1) (List.mem_of_getElem? (i := 11) rfl))
end
