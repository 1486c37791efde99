/-! cells that are made: calls of constructors, arrays of references, and typed heaps that grow -/
section
variable {l : Launch} {D : va_G} {tys : List (ClassId × FieldType)} {A : Nat → Prop} {X : State → Prop} {fr lo mc ms : Nat} {M : ch_M} {Q : Option Value → ch_H → Prop} {pc : Nat} {lv : List (Nat × Value)} {st : List Value} {h : ch_H} {c z : Nat}
theorem tt_callIN {M' : ch_M} {Q' : Option Value → ch_H → Prop} {ix n fr' lo' mc' ms' : Nat} {b : Nat} {As rest : List Value} {host : String} (hd : decode M.2.1 pc = .ok (.invokespecial ix, 3)) (hm : ch_m M' n) (hi : M'.1.name = "<init>") (hret : M'.2.2.2 = none) (hnx : ∀ s, X s → va_Nw (.methodLinkNest M.1.cls ix M'.1 host) s) (hw2 : Cond.instanceMethod M'.1 ∈ wsA) (hn : As.length = n) (hroom : fr' + 1 ≤ fr ∧ 8 + (M'.2.2.1 + 11) + lo' ≤ lo) (hcells : c + mc' ≤ mc ∧ z + ms' ≤ ms) (hst : (rest.map fun v => v.category).sum ≤ 8) (hlen : (lg_sl (.ref b :: As)).length ≤ M'.2.2.1)
    (kc : tt l D tys A X fr' lo' mc' ms' M' Q' 0 (lv_args 0 (.ref b :: As)) [] h 0 0) (kk : ∀ r g, Q' r g → tt l D tys A X fr lo mc ms M Q (pc + 3) lv (r.toList ++ rest) g (c + mc') (z + ms')) : tt l D tys A X fr lo mc ms M Q pc lv (As.reverse ++ .ref b :: rest) h c z := by
  intro p e s m args below meth cd H locs ls C hl hr hS
  have hmet := tt_met hm.2.2.1 hlen C.2.2.2.2.2.2.2.2.2.2.2 kc
  have hcw := hm.1
  rw [hret] at hmet hcw
  have hrun := va_runIN (e := e) (below := below) (meth := meth) (locs := locs) (cells := c) (slots := z) (R := ch_room fr lo mc ms) (g := F0 m pc ls (As.reverse ++ .ref b :: rest)) (As := As) (rest := rest) (b := b) (H := H) (index := ix) ⟨C.1, C.2.1, C.2.2.2.1, C.2.2.2.2.1, C.2.2.2.2.2.1⟩ hmet ⟨va_cnB n C.2.2.2.2.2.1 (ch_gi hcw) rfl rfl rfl (hnx s C.2.2.2.2.2.2.2.2.2.2.1) (C.2.2.2.2.2.1 _ hm.2.1) ⟨hm.2.2.2.1, hm.2.2.2.2.1, hm.2.2.2.2.2⟩ hroom, hi, C.2.2.2.2.2.1 _ hw2⟩
    ⟨ch_blind C.2.2.2.2.2.2.2.2.2.2.2, ch_pre C hr hS⟩ rfl hn hl.1 rfl (lv_room (m := m) (pc := pc) (ls := ls) hst) hd hcells
  exact tt_back C hl hS hrun kk
theorem tt_newq {C9 : String} {ix t0 N' : Nat} {cA : ClassId} {n : Int32} (hw1 : Cond.classLink M.1.cls ix C9 ∈ wsA) (hover : ∀ s, X s → va_AO C9 s) (ht : tys[t0]? = some (cA, .object C9)) (hn : ¬ n < 0) (hN : n.toNatClampNeg = N') (hbytes : N' * 4 ≤ 536870912) (hcells : c + 1 ≤ mc) (hslots : z + N' ≤ ms) (hd : decode M.2.1 pc = .ok (.anewarray ix, 3)) (kk : ∀ a : Nat, h a = none → tt l D tys A X fr lo mc ms M Q (pc + 3) lv (.ref a :: st) (ch_up h a (.inl (cA, N', .inr (.inr (.inr (.inr (fun _ => none))))))) (c + 1) (z + N')) : tt l D tys A X fr lo mc ms M Q pc lv (.int n :: st) h c z := by
  intro p e s m args below meth cd H locs ls C hl hr hS
  obtain ⟨ws, h1, hP, hD⟩ := id hr
  refine va_newq C.1 C.2.1 C.2.2.2.2.1 (C.2.2.2.2.2.1 _ hw1) (hover s C.2.2.2.2.2.2.2.2.2.2.1) C.2.2.2.2.2.2.1 hP hD hS C.2.2.2.2.2.2.2.1 hn hN hbytes hcells hslots hd (fun q cB H hK hP hD hS => ?_)
  have hcB : cB = cA := ch_prim C.2.2.2.2.2.2.1 ht hK
  subst hcB
  obtain ⟨hno, hr⟩ := ch_r.new h1 hP hD
  exact kk q hno p e s m args below meth cd H locs ls C hl hr hS
/-- new int[N][K] -/
theorem tt_mna {ix t0 t1 N' K' : Nat} {cA cy : ClassId} {n k : Int32} (hw1 : Cond.classLink M.1.cls ix ("[" ++ (FieldType.array .int).toString) ∈ wsA) (hw2 : Cond.arrayClass .int ∈ wsA) (hover : ∀ s, X s → va_AOA .int s) (ht0 : tys[t0]? = some (cy, .int)) (ht1 : tys[t1]? = some (cA, .array .int)) (hn : ¬ n < 0) (hk : ¬ k < 0) (hN : n.toNatClampNeg = N') (hM : k.toNatClampNeg = K') (hb1 : N' * 4 ≤ 536870912) (hb2 : K' * componentBytes .int ≤ 536870912) (hb3 : K' ≤ 536870912) (hcells : c + (1 + N') ≤ mc) (hslots : z + (N' + N' * K') ≤ ms) (hd : decode M.2.1 pc = .ok (.multianewarray ix 2, 4))
    (kk : ∀ (q : Nat) (r : Nat → Nat) (g : ch_H), h q = none → (∀ i, i < N' → h (r i) = none ∧ r i ≠ q) → g q = some (.inl (cA, N', .inr (.inr (.inr (.inr (fun i => if i < N' then some (r i) else none)))))) → (∀ i, i < N' → g (r i) = some (.inl (cy, K', .inl (fun _ => 0)))) → (∀ a, a ≠ q → (∀ i, i < N' → a ≠ r i) → g a = h a) → tt l D tys A X fr lo mc ms M Q (pc + 4) lv (.ref q :: st) g (c + 1 + N') (z + N' + N' * K')) : tt l D tys A X fr lo mc ms M Q pc lv (.int k :: .int n :: st) h c z := by
  intro p e s m args below meth cd H locs ls C hl hr hS
  obtain ⟨ws, h1, hP, hD⟩ := id hr
  have hcy : s.vm.findClass (FieldType.array .int).toString = some cy := (C.2.2.2.2.2.2.1.2 t0 _ ht0).2
  refine va_mna (X := ws) (L := []) (f := fun _ => .inr (0, [])) (z := (K', .inl (fun _ => 0))) C.1 C.2.1 C.2.2.2.2.1 (C.2.2.2.2.2.1 _ hw1) (hover s C.2.2.2.2.2.2.2.2.2.2.1) (C.2.2.2.2.2.1 _ hw2) hcy C.2.2.2.2.2.2.1 (by show va_P D vwCl (ws ++ []) H; rw [List.append_nil]; exact hP) (by show va_D A (ws ++ []); rw [List.append_nil]; exact hD) hS C.2.2.2.2.2.2.2.1 hn hk hN hM hb1 hb2 hb3 rfl rfl hcells hslots (fun c => by rw [vp_cell_i]; exact arrV_new c K' (defaultValue .int)) hd (fun q r cB H hinj hnL hK hP hD hS => ?_)
  have hcB : cB = cA := ch_prim C.2.2.2.2.2.2.1 ht1 hK
  subst hcB
  have hq1 : ((ws ++ [(q, (.inl (cB, N', .inr (.inr (.inr (.inr (fun i => if i < N' then some (r i) else none))))) : va_E))]) ++ va_pl ([] ++ (List.range N').map r) (vr_up (fun _ => .inr (0, [])) ((List.range N').map r) (.inl (cy, K', .inl (fun _ => 0)))))[ws.length]? = some (q, .inl (cB, N', .inr (.inr (.inr (.inr (fun i => if i < N' then some (r i) else none)))))) := by
    rw [List.getElem?_append_left (by simp)]
    simp
  have hri : ∀ i, i < N' → ∃ k9 : Nat, ws.length < k9 ∧ ((ws ++ [(q, (.inl (cB, N', .inr (.inr (.inr (.inr (fun i => if i < N' then some (r i) else none))))) : va_E))]) ++ va_pl ([] ++ (List.range N').map r) (vr_up (fun _ => .inr (0, [])) ((List.range N').map r) (.inl (cy, K', .inl (fun _ => 0)))))[k9]? = some (r i, .inl (cy, K', .inl (fun _ => 0))) := by
    intro i hi
    refine ⟨ws.length + 1 + i, by omega, ?_⟩
    rw [List.getElem?_append_right (by simp)]
    have e : ws.length + 1 + i - (ws ++ [(q, (.inl (cB, N', .inr (.inr (.inr (.inr (fun i => if i < N' then some (r i) else none))))) : va_E))]).length = i := by simp
    rw [e]
    unfold va_pl
    rw [List.nil_append, List.map_map, List.getElem?_map, List.getElem?_range hi]
    show some (r i, vr_up _ _ _ (r i)) = _
    rw [vr_up_in (List.mem_map.mpr ⟨i, List.mem_range.mpr hi, rfl⟩)]
  have hold : ∀ (b : Nat) (x : va_E), h b = some x → ∃ k9 : Nat, k9 < ws.length ∧ ((ws ++ [(q, (.inl (cB, N', .inr (.inr (.inr (.inr (fun i => if i < N' then some (r i) else none))))) : va_E))]) ++ va_pl ([] ++ (List.range N').map r) (vr_up (fun _ => .inr (0, [])) ((List.range N').map r) (.inl (cy, K', .inl (fun _ => 0)))))[k9]? = some (b, x) := by
    intro b x hb
    obtain ⟨k9, hk9⟩ := h1 b x hb
    have hl9 : k9 < ws.length := (List.getElem?_eq_some_iff.mp hk9).1
    refine ⟨k9, hl9, ?_⟩
    rw [List.getElem?_append_left (by simp; omega), List.getElem?_append_left hl9]
    exact hk9
  have hqn : h q = none := by
    cases hh : h q with
    | none => rfl
    | some x =>
      obtain ⟨k9, hl9, hk9⟩ := hold q x hh
      have := hD.1 k9 ws.length _ _ hk9 hq1 rfl
      omega
  have hrn : ∀ i, i < N' → h (r i) = none ∧ r i ≠ q := by
    intro i hi
    obtain ⟨k8, hl8, hk8⟩ := hri i hi
    refine ⟨?_, fun e => ?_⟩
    · cases hh : h (r i) with
      | none => rfl
      | some x =>
        obtain ⟨k9, hl9, hk9⟩ := hold (r i) x hh
        have := hD.1 k9 k8 _ _ hk9 hk8 rfl
        omega
    · have := hD.1 k8 ws.length _ _ hk8 hq1 e
      omega
  refine kk q r (fun a => if a = q then some (.inl (cB, N', .inr (.inr (.inr (.inr (fun i => if i < N' then some (r i) else none)))))) else if a ∈ (List.range N').map r then some (.inl (cy, K', .inl (fun _ => 0))) else h a) hqn hrn (if_pos rfl) (fun i hi => ?_) (fun a ha1 ha2 => ?_) p e s m args below meth cd H locs ls C hl ?_ hS
  · rw [if_neg (hrn i hi).2, if_pos (List.mem_map.mpr ⟨i, List.mem_range.mpr hi, rfl⟩)]
  · rw [if_neg ha1, if_neg (fun hm => by
      obtain ⟨i, hi, e⟩ := List.mem_map.mp hm
      exact ha2 i (List.mem_range.mp hi) e.symm)]
  · refine ⟨_, fun a x hx => ?_, hP, hD⟩
    dsimp only at hx
    split at hx
    · next ea =>
      cases hx
      rw [ea]
      exact ⟨ws.length, hq1⟩
    · split at hx
      · next hm =>
        cases hx
        obtain ⟨i, hi, e⟩ := List.mem_map.mp hm
        obtain ⟨k8, -, hk8⟩ := hri i (List.mem_range.mp hi)
        rw [← e]
        exact ⟨k8, hk8⟩
      · obtain ⟨k9, -, hk9⟩ := hold a x hx
        exact ⟨k9, hk9⟩
end
theorem tt_room {l : Launch} {D : va_G} {tys : List (ClassId × FieldType)} {A : Nat → Prop} {X : State → Prop} {fr lo fr' lo' mc ms : Nat} {M : ch_M} {Q : Option Value → ch_H → Prop} {pc : Nat} {lv : List (Nat × Value)} {st : List Value} {h : ch_H} {c z : Nat} (hf : fr ≤ fr') (hl : lo ≤ lo') (k : tt l D tys A X fr lo mc ms M Q pc lv st h c z) : tt l D tys A X fr' lo' mc ms M Q pc lv st h c z := by
  intro p e s m args below meth cd H locs ls C hl9 hr hS T hT Y
  have hroom : s.hasRoom e.platform (ch_room fr lo mc ms) = true := by
    have := Y.room
    unfold State.hasRoom at this ⊢
    simp only [Bool.and_eq_true, decide_eq_true_eq] at this ⊢
    have a1 : (ch_room fr lo mc ms).frames ≤ (ch_room fr' lo' mc ms).frames := hf
    have a2 : (ch_room fr lo mc ms).locals ≤ (ch_room fr' lo' mc ms).locals := hl
    obtain ⟨⟨⟨⟨b0, b1, b2, b3, b4, b5⟩, b6⟩, b7⟩, b8⟩ := this
    exact ⟨⟨⟨⟨by omega, by omega, by omega, by omega, by omega, b5⟩, b6⟩, b7⟩, b8⟩
  exact k p e s m args below meth cd H locs ls C hl9 hr hS T hT ⟨Y.admits, Y.cas, Y.clock, Y.frames, hroom, Y.hears, Y.method, Y.code, Y.here, Y.tail, Y.warmed, Y.limits, Y.bytes, Y.same⟩
/-! typed heaps that grow -/
def sg_up (Sg : Nat → Option Nat) (a L : Nat) : Nat → Option Nat := fun q => if q = a then some L else Sg q
theorem sg_up_s (Sg : Nat → Option Nat) (a L : Nat) : sg_up Sg a L a = some L := if_pos rfl
theorem sg_up_n (Sg : Nat → Option Nat) {a q : Nat} (L : Nat) (n : q ≠ a) : sg_up Sg a L q = Sg q := if_neg n
def sg_le (Sg Sg1 : Nat → Option Nat) : Prop := ∀ q M, Sg q = some M → Sg1 q = some M
theorem sg_le.rf {Sg : Nat → Option Nat} : sg_le Sg Sg := fun _ _ e => e
theorem sg_le.tr {S1 S2 S3 : Nat → Option Nat} (h1 : sg_le S1 S2) (h2 : sg_le S2 S3) : sg_le S1 S3 := fun q M e => h2 q M (h1 q M e)
theorem sg_le.up {Sg : Nat → Option Nat} {a L : Nat} (h : Sg a = none) : sg_le Sg (sg_up Sg a L) := by
  intro q M e
  by_cases c : q = a
  · subst c
    rw [h] at e
    cases e
  · rw [sg_up_n _ _ c]
    exact e
section
variable {Sg Sg1 : Nat → Option Nat} {cA : Nat → ClassId} {Lb9 : Nat → k_I} {h h1 : ch_H}
theorem k_v.le {v : Value} {t : k_T} (hs : sg_le Sg Sg1) (hv : k_v Sg v t) : k_v Sg1 v t := by
  obtain ⟨k, x, y⟩ := t
  match k with
  | 0 => exact hv
  | 1 => exact hv
  | 2 =>
    obtain ⟨a, e1, e2⟩ := hv
    exact ⟨a, e1, hs a _ e2⟩
  | 3 =>
    rcases hv with hv | ⟨a, e1, e2⟩
    · exact Or.inl hv
    · exact Or.inr ⟨a, e1, hs a _ e2⟩
  | 4 => exact hv
  | n + 5 => exact trivial
theorem k_cell.le {I : k_I} {e : va_E} (hs : sg_le Sg Sg1) (hc : k_cell Sg cA I e) : k_cell Sg1 cA I e := by
  rcases hc with ⟨e1, fs, e2, e3, e4⟩ | hc | ⟨e1, f, e2, e3⟩
  · refine Or.inl ⟨e1, fs, e2, e3, fun k t hk => ?_⟩
    obtain ⟨v, e5, e6⟩ := e4 k t hk
    exact ⟨v, e5, e6.le hs⟩
  · exact Or.inr (Or.inl hc)
  · exact Or.inr (Or.inr ⟨e1, f, e2, fun i hi => (e3 i hi).le hs⟩)
theorem k_H.some_ {a L : Nat} (hH : k_H Sg cA Lb9 h) (hs : Sg a = some L) : h a ≠ none := by
  obtain ⟨e, e1, -⟩ := hH a L hs
  rw [e1]
  exact fun q => by cases q
theorem k_H.none_ {a : Nat} (hH : k_H Sg cA Lb9 h) (ha : h a = none) : Sg a = none := by
  cases hs : Sg a with
  | none => rfl
  | some L => exact absurd ha (hH.some_ hs)
/-- a cell gets its label -/
theorem k_H.lab {a L : Nat} {e : va_E} (hH : k_H Sg cA Lb9 h) (hs : Sg a = none) (he : h1 a = some e) (hc : k_cell (sg_up Sg a L) cA (Lb9 L) e) (o : ∀ q M, Sg q = some M → h1 q = h q) : k_H (sg_up Sg a L) cA Lb9 h1 := by
  intro q M hq
  by_cases c : q = a
  · subst c
    rw [sg_up_s] at hq
    cases hq
    exact ⟨e, he, hc⟩
  · rw [sg_up_n _ _ c] at hq
    obtain ⟨e2, e3, e4⟩ := hH q M hq
    exact ⟨e2, by rw [o q M hq]; exact e3, e4.le (sg_le.up hs)⟩
end
theorem wArr_int : Cond.arrayClass .int ∈ wsA := wA1 56 rfl rfl
theorem wArr_boolean : Cond.arrayClass .boolean ∈ wsA := wA1 158 rfl rfl
theorem wArr_byte : Cond.arrayClass .byte ∈ wsA := wA5 51 rfl rfl
theorem wArr_long : Cond.arrayClass .long ∈ wsA := wA7 218 rfl rfl
/-- a cell in the making, without a label; all that was there before is as it was -/
def nS (cA : Nat → ClassId) (Lb9 : Nat → k_I) (Sg0 : Nat → Option Nat) (h0 : ch_H) (a : Nat) (e : va_E) (Sg : Nat → Option Nat) (h : ch_H) : Prop := k_H Sg cA Lb9 h ∧ h a = some e ∧ Sg a = none ∧ ∀ q, q ≠ a → h0 q ≠ none → h q = h0 q ∧ Sg q = Sg0 q
/-- what a constructor leaves -/
def nQ (cA : Nat → ClassId) (Lb9 : Nat → k_I) (Sg0 : Nat → Option Nat) (h0 : ch_H) (a L : Nat) : Option Value → ch_H → Prop := fun o g => o = none ∧ ∃ Sg1, k_H Sg1 cA Lb9 g ∧ Sg1 a = some L ∧ ∀ q, q ≠ a → h0 q ≠ none → g q = h0 q ∧ Sg1 q = Sg0 q
/-- a constructor's contract -/
def k_nw (l : Launch) (D : va_G) (tys : List (ClassId × FieldType)) (A : Nat → Prop) (X : State → Prop) (cA : Nat → ClassId) (Lb9 : Nat → k_I) (M : ch_M) (ci : Nat) (df : List Value) (L fr lo mc ms : Nat) : Prop := ∀ (Sg : Nat → Option Nat) (a : Nat) (h : ch_H), k_H Sg cA Lb9 h → h a = some (.inr (ci, df)) → Sg a = none → tt l D tys A X fr lo mc ms M (nQ cA Lb9 Sg h a L) 0 [(0, .ref a)] [] h 0 0
section
variable {l : Launch} {D : va_G} {tys : List (ClassId × FieldType)} {A : Nat → Prop} {X : State → Prop} {fr lo mc ms : Nat} {M : ch_M} {Q : Option Value → ch_H → Prop} {pc : Nat} {lv : List (Nat × Value)} {st : List Value} {h : ch_H} {c z : Nat} {Sg Sg0 : Nat → Option Nat} {h0 : ch_H} {cA : Nat → ClassId} {Lb9 : Nat → k_I} {a : Nat} {e : va_E}
theorem nS.put {e2 : va_E} (H : nS cA Lb9 Sg0 h0 a e Sg h) : nS cA Lb9 Sg0 h0 a e2 Sg (ch_up h a e2) := by
  obtain ⟨h1, h2, h3, h4⟩ := H
  refine ⟨fun q M hq => ?_, ch_up_s _ _ _, h3, fun q hq hn => ?_⟩
  · have hne : q ≠ a := fun e => by rw [e, h3] at hq; cases hq
    rw [ch_up_n _ _ hne]
    exact h1 q M hq
  · rw [ch_up_n _ _ hq]
    exact h4 q hq hn
/-- the end: the cell gets its label -/
theorem nS.fin {L : Nat} (H : nS cA Lb9 Sg0 h0 a e Sg h) (hc : k_cell (sg_up Sg a L) cA (Lb9 L) e) : nQ cA Lb9 Sg0 h0 a L none h := by
  obtain ⟨h1, h2, h3, h4⟩ := H
  refine ⟨rfl, sg_up Sg a L, h1.lab h3 h2 hc (fun _ _ _ => rfl), sg_up_s _ _ _, fun q hq hn => ?_⟩
  rw [sg_up_n _ _ hq]
  exact h4 q hq hn
/-- one more cell, with its label -/
theorem nS.old {b : Nat} (H : nS cA Lb9 Sg0 h0 a e Sg h) (hb : h b = none) : h0 b = none := by
  cases hh : h0 b with
  | none => rfl
  | some x =>
    have hne : b ≠ a := fun q => by rw [q, H.2.1] at hb; cases hb
    have := (H.2.2.2 b hne (by rw [hh]; exact fun q => by cases q)).1
    rw [hb, hh] at this
    cases this
/-- one more cell, without a label -/
theorem nS.raw {b : Nat} {eb : va_E} (H : nS cA Lb9 Sg0 h0 a e Sg h) (hb : h b = none) : nS cA Lb9 Sg0 h0 a e Sg (ch_up h b eb) := by
  have ob := H.old hb
  obtain ⟨h1, h2, h3, h4⟩ := H
  have sb := h1.none_ hb
  have hne : a ≠ b := fun q => by rw [q, hb] at h2; cases h2
  refine ⟨fun q M hq => ?_, by rw [ch_up_n _ _ hne]; exact h2, h3, fun q hq hn => ?_⟩
  · have hqb : q ≠ b := fun e => by rw [e, sb] at hq; cases hq
    rw [ch_up_n _ _ hqb]
    exact h1 q M hq
  · have hqb : q ≠ b := fun e => hn (by rw [e]; exact ob)
    rw [ch_up_n _ _ hqb]
    exact h4 q hq hn
theorem nS.more {b L : Nat} {eb : va_E} (H : nS cA Lb9 Sg0 h0 a e Sg h) (hb : h b = none) (hc : k_cell (sg_up Sg b L) cA (Lb9 L) eb) : nS cA Lb9 Sg0 h0 a e (sg_up Sg b L) (ch_up h b eb) ∧ sg_le Sg (sg_up Sg b L) := by
  obtain ⟨h1, h2, h3, h4⟩ := H
  have sb := h1.none_ hb
  have hne : a ≠ b := fun q => by rw [q, hb] at h2; cases h2
  refine ⟨⟨h1.lab sb (ch_up_s _ _ _) hc (fun q M hq => ch_up_n _ _ (fun e => by rw [e, sb] at hq; cases hq)), by rw [ch_up_n _ _ hne]; exact h2, by rw [sg_up_n _ _ hne]; exact h3, fun q hq hn => ?_⟩, sg_le.up sb⟩
  have := h4 q hq hn
  have hqb : q ≠ b := fun e => by rw [e, hb] at this; exact hn (by rw [e]; exact this.1.symm)
  rw [ch_up_n _ _ hqb, sg_up_n _ _ hqb]
  exact this
/-- a row of ints, booleans or bytes -/
theorem n_arr {L t N : Nat} {ts : List k_T} {atype : ArrayType} {n : Int32} (hT : k_tys tys cA) (H : nS cA Lb9 Sg0 h0 a e Sg h) (hL : Lb9 L = (1, t, N, ts)) (hb : ∀ i, i < N → (k_el (1, t, N, ts) i).2.1 ≤ 0 ∧ 0 ≤ (k_el (1, t, N, ts) i).2.2) (ht : t < 3) (hty : newarray.typeOf atype = pg_at t) (hn : ¬ n < 0) (hN : n.toNatClampNeg = N) (hbytes : N ≤ 10000) (hcells : c + 1 ≤ mc) (hslots : z + N ≤ ms) (hd : decode M.2.1 pc = .ok (.newarray atype, 2)) (kk : ∀ (b : Nat) (Sg1 : Nat → Option Nat) (g : ch_H), nS cA Lb9 Sg0 h0 a e Sg1 g → Sg1 b = some L → sg_le Sg Sg1 → h0 b = none → tt l D tys A X fr lo mc ms M Q (pc + 2) lv (.ref b :: st) g (c + 1) (z + N)) : tt l D tys A X fr lo mc ms M Q pc lv (.int n :: st) h c z := by
  have fin : ∀ b : Nat, h b = none → tt l D tys A X fr lo mc ms M Q (pc + 2) lv (.ref b :: st) (ch_up h b (.inl (cA t, N, .inl (fun _ => 0)))) (c + 1) (z + N) := by
    intro b hb0
    obtain ⟨q1, q2⟩ := H.more (L := L) (eb := .inl (cA t, N, .inl (fun _ => 0))) hb0 (by rw [hL]; exact Or.inr (Or.inl ⟨rfl, _, rfl, fun i hi => hb i hi⟩))
    exact kk b _ _ q1 (sg_up_s _ _ _) q2 (H.old hb0)
  have h3 : t = 0 ∨ t = 1 ∨ t = 2 := by omega
  rcases h3 with rfl | rfl | rfl
  · exact tt_newa (a0 := (N, .inl (fun _ => 0))) (wArr_int) hty (hT 0 (by decide)) (fun cB => by rw [vp_cell_i]; rfl) hn hN (by show N * 4 ≤ 536870912; omega) hcells hslots hd fin
  · exact tt_newa (a0 := (N, .inl (fun _ => 0))) (wArr_boolean) hty (hT 1 (by decide)) (fun cB => by rw [vp_cell_i]; rfl) hn hN (by show N * 1 ≤ 536870912; omega) hcells hslots hd fin
  · exact tt_newa (a0 := (N, .inl (fun _ => 0))) (wArr_byte) hty (hT 2 (by decide)) (fun cB => by rw [vp_cell_i]; rfl) hn hN (by show N * 1 ≤ 536870912; omega) hcells hslots hd fin
/-- a field of the cell in the making -/
theorem n_put {own ix ci k : Nat} {fs : List Value} {v : Value} (fs2 : List Value) (e2 : fs.set k v = fs2) (H : nS cA Lb9 Sg0 h0 a (.inr (ci, fs)) Sg h) (hR : pg_R own = M.1.cls) (hx : k_fd (pg_fl own) ix = some (ci, k)) (hc : ci < 11 ∧ k < ch_N ci) (hin : M.1.name = "<init>") (hown : ch_n ci = M.1.cls) (hn : narrow (ch_ty ci k) v = v ∧ fits (ch_ty ci k) v = true) (hlen : k < fs.length) (hd : decode M.2.1 pc = .ok (.putfield ix, 3)) (kk : ∀ g : ch_H, nS cA Lb9 Sg0 h0 a (.inr (ci, fs2)) Sg g → (∀ q, q ≠ a → g q = h q) → tt l D tys A X fr lo mc ms M Q (pc + 3) lv st g c z) : tt l D tys A X fr lo mc ms M Q pc lv (v :: .ref a :: st) h c z := by
  have hw := pg_fw own _ (k_fd_ok hx)
  dsimp only at hw
  rw [hR] at hw
  subst e2
  cases hfin : (ch_T ci k).2.2.2 with
  | false => exact tt_put (pg_k ci hc.1) H.2.1 hc.2 hw hfin hn.1 hn.2 hlen hd (kk _ H.put (fun q hq => ch_up_n _ _ hq))
  | true => exact tt_putF (pg_k ci hc.1) H.2.1 hc.2 hw hfin hin hown hn.1 hn.2 hlen hd (kk _ H.put (fun q hq => ch_up_n _ _ hq))
/-- new, dup, and the constructor's call -/
theorem n_obj {M' : ch_M} {df : List Value} {ix ix2 ci L fr' lo' mc' ms' : Nat} (H : nS cA Lb9 Sg0 h0 a e Sg h) (hk : k_nw l D tys A X cA Lb9 M' ci df L fr' lo' mc' ms') (hcl : Cond.classLink M.1.cls ix (ch_n ci) ∈ wsA) (hins : Cond.instantiable (ch_n ci) (ch_N ci) ∈ wsA) (hini : Cond.initialized (ch_n ci) ∈ wsA) (hci : ci < 11) (hdf : ∀ j, j < ch_N ci → defaultValue (ch_ty ci j) = vp_V df j) (hm : ch_m M' 0) (hi : M'.1.name = "<init>") (hret : M'.2.2.2 = none) (hln : (∃ host, ∀ s, X s → va_Nw (.methodLinkNest M.1.cls ix2 M'.1 host) s) ∨ Cond.methodLink M.1.cls ix2 M'.1 ∈ wsA) (hw2 : Cond.instanceMethod M'.1 ∈ wsA) (hroom : fr' + 1 ≤ fr ∧ 8 + (M'.2.2.1 + 11) + lo' ≤ lo) (hcells : c + 1 + mc' ≤ mc) (hslots : z + ch_N ci + ms' ≤ ms) (hst : (st.map fun v => v.category).sum ≤ 7) (hlen : ∀ b, (lg_sl [.ref b]).length ≤ M'.2.2.1) (hd1 : decode M.2.1 pc = .ok (.new ix, 3)) (hd2 : decode M.2.1 (pc + 3) = .ok (.dup, 1)) (hd3 : decode M.2.1 (pc + 3 + 1) = .ok (.invokespecial ix2, 3))
    (kk : ∀ (b : Nat) (Sg1 : Nat → Option Nat) (g : ch_H), nS cA Lb9 Sg0 h0 a e Sg1 g → Sg1 b = some L → sg_le Sg Sg1 → h0 b = none → tt l D tys A X fr lo mc ms M Q (pc + 3 + 1 + 3) lv (.ref b :: st) g (c + 1 + mc') (z + ch_N ci + ms')) : tt l D tys A X fr lo mc ms M Q pc lv st h c z := by
  refine tt_new (pg_k ci hci) hcl hins hini hdf (by omega) (by omega) hd1 (fun b hb => ?_)
  have ob := H.old hb
  have Hr := H.raw (eb := .inr (ci, df)) hb
  have sb := H.1.none_ hb
  have hne : a ≠ b := fun q => by have := H.2.1; rw [q, hb] at this; cases this
  refine tt_dup rfl hd2 ?_
  have kc := hk Sg b (ch_up h b (.inr (ci, df))) Hr.1 (ch_up_s _ _ _) sb
  have fin : ∀ r g, nQ cA Lb9 Sg (ch_up h b (.inr (ci, df))) b L r g → tt l D tys A X fr lo mc ms M Q (pc + 3 + 1 + 3) lv (r.toList ++ .ref b :: st) g (c + 1 + mc') (z + ch_N ci + ms') := by
    intro r g ⟨e0, Sg1, q1, q2, q3⟩
    subst e0
    have qa := q3 a hne (by rw [Hr.2.1]; exact fun q => by cases q)
    refine kk b Sg1 g ⟨q1, qa.1.trans Hr.2.1, qa.2.trans Hr.2.2.1, fun q hq hn => ?_⟩ q2 (fun q M9 e9 => ?_) ob
    · have w1 := Hr.2.2.2 q hq hn
      have hqb : q ≠ b := fun e => hn (by rw [e]; exact ob)
      have w2 := q3 q hqb (by rw [w1.1]; exact hn)
      exact ⟨w2.1.trans w1.1, w2.2.trans w1.2⟩
    · have hqb : q ≠ b := fun e => by rw [e, sb] at e9; cases e9
      rw [(q3 q hqb (Hr.1.some_ e9)).2]
      exact e9
  have hst2 : ((Value.ref b :: st).map fun v => v.category).sum ≤ 8 := by
    simp only [List.map_cons, List.sum_cons]
    show 1 + _ ≤ 8
    omega
  rcases hln with ⟨host, hln⟩ | hln
  · exact tt_callIN (As := []) (rest := .ref b :: st) hd3 hm hi hret hln hw2 rfl hroom ⟨by omega, by omega⟩ hst2 (hlen b) kc fin
  · exact tt_callI (As := []) (rest := .ref b :: st) hd3 hm hi hret hln hw2 rfl hroom ⟨by omega, by omega⟩ hst2 (hlen b) kc fin
/-- a row of references that may be null -/
theorem n_refs {C9 : String} {L t ix N : Nat} {ts : List k_T} {n : Int32} (hT : k_tys tys cA) (H : nS cA Lb9 Sg0 h0 a e Sg h) (hL : Lb9 L = (2, t, N, ts)) (hb : ∀ i, i < N → (k_el (2, t, N, ts) i).1 = 3) (ht : t < 7) (hty : pg_at t = .object C9) (hw1 : Cond.classLink M.1.cls ix C9 ∈ wsA) (hover : ∀ s, X s → va_AO C9 s) (hn : ¬ n < 0) (hN : n.toNatClampNeg = N) (hbytes : N ≤ 10000) (hcells : c + 1 ≤ mc) (hslots : z + N ≤ ms) (hd : decode M.2.1 pc = .ok (.anewarray ix, 3)) (kk : ∀ (b : Nat) (Sg1 : Nat → Option Nat) (g : ch_H), nS cA Lb9 Sg0 h0 a e Sg1 g → Sg1 b = some L → sg_le Sg Sg1 → h0 b = none → tt l D tys A X fr lo mc ms M Q (pc + 3) lv (.ref b :: st) g (c + 1) (z + N)) : tt l D tys A X fr lo mc ms M Q pc lv (.int n :: st) h c z := by
  have ht0 := hT t ht
  rw [hty] at ht0
  refine tt_newq hw1 hover ht0 hn hN (by omega) hcells hslots hd (fun b hb0 => ?_)
  obtain ⟨q1, q2⟩ := H.more (L := L) (eb := .inl (cA t, N, .inr (.inr (.inr (.inr (fun _ => none)))))) hb0 (by
    rw [hL]
    refine Or.inr (Or.inr ⟨rfl, _, rfl, fun i hi => ?_⟩)
    unfold k_v
    rw [hb i hi]
    exact Or.inl rfl)
  exact kk b _ _ q1 (sg_up_s _ _ _) q2 (H.old hb0)
/-- a field of a cell that has its label and was made here -/
theorem n_putL {own ix ci k b L N : Nat} {ts : List k_T} {t : k_T} {v : Value} (H : nS cA Lb9 Sg0 h0 a e Sg h) (sb : Sg b = some L) (ob : h0 b = none) (hL : Lb9 L = (0, ci, N, ts)) (htk : ts[k]? = some t) (hv : k_v Sg v t) (hR : pg_R own = M.1.cls) (hx : k_fd (pg_fl own) ix = some (ci, k)) (hc : ci < 11 ∧ k < ch_N ci) (hfin : (ch_T ci k).2.2.2 = false) (hn : narrow (ch_ty ci k) v = v ∧ fits (ch_ty ci k) v = true) (hlen : k < N) (hd : decode M.2.1 pc = .ok (.putfield ix, 3)) (kk : ∀ g : ch_H, nS cA Lb9 Sg0 h0 a e Sg g → tt l D tys A X fr lo mc ms M Q (pc + 3) lv st g c z) : tt l D tys A X fr lo mc ms M Q pc lv (v :: .ref b :: st) h c z := by
  have hw := pg_fw own _ (k_fd_ok hx)
  dsimp only at hw
  rw [hR] at hw
  obtain ⟨fs, cb, fl, ty⟩ := H.1.obj sb hL
  have hne : b ≠ a := fun q => by rw [q, H.2.2.1] at sb; cases sb
  refine tt_put (pg_k ci hc.1) cb hc.2 hw hfin hn.1 hn.2 (by omega) hd (kk _ ⟨?_, ?_, H.2.2.1, fun q hq hn9 => ?_⟩)
  · refine H.1.fld (k := k) sb hL htk cb (ch_up_s _ _ _) (by rw [List.length_set]; exact fl) (by rw [List.getElem?_set_self (by omega)]) hv (fun j hj => List.getElem?_set_ne (Ne.symm hj)) (fun q hq => ch_up_n _ _ hq)
  · rw [ch_up_n _ _ (Ne.symm hne)]
    exact H.2.1
  · have hqb : q ≠ b := fun e => hn9 (by rw [e]; exact ob)
    rw [ch_up_n _ _ hqb]
    exact H.2.2.2 q hq hn9
end
