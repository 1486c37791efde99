/-! the reference's String constants: their length, their signs -/
section
variable {l : Launch} {D : va_G} {tys : List (ClassId × FieldType)} {A : Nat → Prop} {X : State → Prop} {fr lo mc ms : Nat} {M : ch_M} {Q : Option Value → ch_H → Prop} {pc : Nat} {lv : List (Nat × Value)} {st : List Value} {h : ch_H} {c z : Nat} {aK aV : Nat → Nat}
def js_l : List Nat := [1, 7, 9]
def js_b : List (List Int32) := [[121], [112, 120, 108, 104, 100, 116, 105], [107, 108, 120, 97, 98, 104, 115, 114, 117]]
/-- what the state holds of them -/
def xs (A : Nat → Prop) (aK aV : Nat → Nat) (s : State) : Prop := vk_S 3 js_l js_b aK aV A s s.heap ∧ va_Z "java/lang/String" "COMPACT_STRINGS" "Z" (.int 1) A s s.heap ∧ va_Zq "jdk/internal/util/Preconditions" "SIOOBE_FORMATTER" "Ljava/util/function/BiFunction;" A s s.heap ∧ vk_R RX11 26 "y" (aK 0) s ∧ vk_R RX11 32 "pxlhdti" (aK 1) s ∧ vk_R RX11 37 "klxabhsru" (aK 2) s
theorem tt_ldcS {ix q : Nat} {tx : String} (hZ : ∀ s, X s → vk_R M.1.cls ix tx q s) (hd : decode M.2.1 pc = .ok (.ldc ix, 2)) (k : tt l D tys A X fr lo mc ms M Q (pc + 2) lv (.ref q :: st) h c z) : tt l D tys A X fr lo mc ms M Q pc lv st h c z :=
  fun p e s m args below meth cd H locs ls C hl hr hS => va_ldcS C.1 C.2.1 C.2.2.2.2.1 (hZ s C.2.2.2.2.2.2.2.2.2.2.1) hd (k p e s m args below meth cd H locs ls C hl hr hS)
theorem tt_getS {ix q : Nat} {n d : String} {v : Value} (hw : Cond.fieldLink M.1.cls ix "java/lang/String" n d ∈ wsA) (hE : ∀ s, X s → va_OF "java/lang/String" n d v q A s s.heap) (hd : decode M.2.1 pc = .ok (.getfield ix, 3)) (k : tt l D tys A X fr lo mc ms M Q (pc + 3) lv (v :: st) h c z) : tt l D tys A X fr lo mc ms M Q pc lv (.ref q :: st) h c z :=
  fun p e s m args below meth cd H locs ls C hl hr hS => vk_getf C.1 C.2.1 (hE s C.2.2.2.2.2.2.2.2.2.2.1) hS C.2.2.2.2.1 (C.2.2.2.2.2.1 _ hw) (fun _ q => q) hd (k p e s m args below meth cd H locs ls C hl hr hS)
theorem tt_getZ {ix : Nat} {K n d : String} {v : Value} (hw : Cond.fieldLink M.1.cls ix K n d ∈ wsA) (hE : ∀ s, X s → va_Z K n d v A s s.heap) (hd : decode M.2.1 pc = .ok (.getstatic ix, 3)) (k : tt l D tys A X fr lo mc ms M Q (pc + 3) lv (v :: st) h c z) : tt l D tys A X fr lo mc ms M Q pc lv st h c z :=
  fun p e s m args below meth cd H locs ls C hl hr hS => va_gets C.1 C.2.1 (hE s C.2.2.2.2.2.2.2.2.2.2.1) hS C.2.2.2.2.1 (C.2.2.2.2.2.1 _ hw) (fun _ q => q) hd (k p e s m args below meth cd H locs ls C hl hr hS)
theorem tt_getZq {ix : Nat} {K n d : String} (hw : Cond.fieldLink M.1.cls ix K n d ∈ wsA) (hE : ∀ s, X s → va_Zq K n d A s s.heap) (hd : decode M.2.1 pc = .ok (.getstatic ix, 3)) (k1 : tt l D tys A X fr lo mc ms M Q (pc + 3) lv (.null :: st) h c z) (k2 : ∀ t : Nat, tt l D tys A X fr lo mc ms M Q (pc + 3) lv (.ref t :: st) h c z) : tt l D tys A X fr lo mc ms M Q pc lv st h c z := by
  intro p e s m args below meth cd H locs ls C hl hr hS
  rcases hE s C.2.2.2.2.2.2.2.2.2.2.1 with h1 | ⟨t, h1⟩
  · exact va_gets C.1 C.2.1 h1 hS C.2.2.2.2.1 (C.2.2.2.2.2.1 _ hw) (fun _ q => q) hd (k1 p e s m args below meth cd H locs ls C hl hr hS)
  · exact va_gets C.1 C.2.1 h1 hS C.2.2.2.2.1 (C.2.2.2.2.2.1 _ hw) (fun _ q => q) hd (k2 t p e s m args below meth cd H locs ls C hl hr hS)
theorem tt_tb {t N : Nat} {f : Nat → Value} {i : Int32} {v : Value} (hE : ∀ s, X s → va_T .byte t N f A s s.heap) (hin : vp_in i N) (hv : f i.toNatClampNeg = v) (hd : decode M.2.1 pc = .ok (.baload, 1)) (k : tt l D tys A X fr lo mc ms M Q (pc + 1) lv (v :: st) h c z) : tt l D tys A X fr lo mc ms M Q pc lv (.int i :: .ref t :: st) h c z :=
  fun p e s m args below meth cd H locs ls C hl hr hS => va_tb C.1 C.2.1 (hE s C.2.2.2.2.2.2.2.2.2.2.1) hS hin hv hd (k p e s m args below meth cd H locs ls C hl hr hS)
theorem tt_tlen {t N : Nat} {ty : FieldType} {f : Nat → Value} (hE : ∀ s, X s → va_T ty t N f A s s.heap) (hd : decode M.2.1 pc = .ok (.arraylength, 1)) (k : tt l D tys A X fr lo mc ms M Q (pc + 1) lv (.int (Int32.ofNat N) :: st) h c z) : tt l D tys A X fr lo mc ms M Q pc lv (.ref t :: st) h c z :=
  fun p e s m args below meth cd H locs ls C hl hr hS => va_tlen C.1 C.2.1 (hE s C.2.2.2.2.2.2.2.2.2.2.1) hS rfl hd (k p e s m args below meth cd H locs ls C hl hr hS)
theorem tt_callVR {M' : ch_M} {Q' : Option Value → ch_H → Prop} {ix n fr' lo' mc' ms' : Nat} {b : Nat} {As rest : List Value} (hd : decode M.2.1 pc = .ok (.invokevirtual ix, 3)) (hm : ch_m M' n) (hw1 : Cond.methodLink M.1.cls ix M'.1 ∈ wsA) (hw2 : Cond.instanceMethod M'.1 ∈ wsA) (hw3 : Cond.selects M'.1.cls M'.1 M'.1 ∈ wsA) (hb : ∀ (s : State) (H : Heap) (locs : List Loc), X s → va_S A s.heap H locs → ∃ cell : Cell, H[b]? = some cell ∧ cell.vm.isStatics = false ∧ s.vm.findClass M'.1.cls = some cell.cls) (hn : As.length = n) (hroom : fr' + 1 ≤ fr ∧ 8 + (M'.2.2.1 + 11) + lo' ≤ lo) (hcells : c + mc' ≤ mc ∧ z + ms' ≤ ms) (hst : (rest.map fun v => v.category).sum ≤ 8) (hlen : (lg_sl (.ref b :: As)).length ≤ M'.2.2.1)
    (kc : tt l D tys A X fr' lo' mc' ms' M' Q' 0 (lv_args 0 (.ref b :: As)) [] h 0 0) (kk : ∀ r g, Q' r g → tt l D tys A X fr lo mc ms M Q (pc + 3) lv (r.toList ++ rest) g (c + mc') (z + ms')) : tt l D tys A X fr lo mc ms M Q pc lv (As.reverse ++ .ref b :: rest) h c z := by
  intro p e s m args below meth cd H locs ls C hl hr hS
  have hG : GoodIn wsA (wsV M.1.cls ix M'.1.cls M'.1 (Cond.code M'.1 M'.2.1 M'.2.2.1 M'.2.2.2 :: wsA)) := ch_giA (fun w hw => by
    simp only [List.mem_cons, List.not_mem_nil, or_false] at hw
    rcases hw with rfl | rfl | rfl | rfl
    · exact hw1
    · exact hw2
    · exact hw3
    · exact hm.2.1) (ch_gi hm.1)
  have hrun := va_runV (e := e) (below := below) (meth := meth) (locs := locs) (cells := c) (slots := z) (R := ch_room fr lo mc ms) (g := F0 m pc ls (As.reverse ++ .ref b :: rest)) (As := As) (rest := rest) (b := b) (H := H) (index := ix) ⟨C.1, C.2.1, C.2.2.2.1, C.2.2.2.2.1, C.2.2.2.2.2.1⟩ (tt_met hm.2.2.1 hlen C.2.2.2.2.2.2.2.2.2.2.2 kc) (cwV n C.2.2.2.2.2.1 hG rfl rfl rfl ⟨rfl, hm.2.2.2.1, hm.2.2.2.2.1, hm.2.2.2.2.2⟩ hroom)
    ⟨ch_blind C.2.2.2.2.2.2.2.2.2.2.2, hb s H locs C.2.2.2.2.2.2.2.2.2.2.1 hS, ch_pre C hr hS⟩ rfl hn hl.1 rfl (lv_room (m := m) (pc := pc) (ls := ls) hst) hd hcells
  exact tt_back C hl hS hrun kk
theorem js_recv {i : Nat} (hi : i < 3) (hX : ∀ s, X s → xs A aK aV s) : ∀ (s : State) (H : Heap) (locs : List Loc), X s → va_S A s.heap H locs → ∃ cell : Cell, H[aK i]? = some cell ∧ cell.vm.isStatics = false ∧ s.vm.findClass "java/lang/String" = some cell.cls := fun s _ _ x hS => vk_recv (hX s x).1 hi hS
/-- coder: 0 -/
theorem j_coder {i : Nat} (hi : i < 3) (hX : ∀ s, X s → xs A aK aV s) (hq : Q (some (.int 0)) h) : ww l D tys A X fr lo mJ0_coder_7d493 Q 0 [(0, .ref (aK i))] [] h := by
  refine tt_getZ (K := "java/lang/String") (n := "COMPACT_STRINGS") (d := "Z") (v := .int 1) (wA6 20 rfl rfl) (fun s x => (hX s x).2.1) (tJ0_coder_7d493_0_ok (0, .getstatic 38, 3) (List.mem_of_getElem? (i := 0) rfl)) ?_
  refine tt_if_eq (tgt := 13) (tJ0_coder_7d493_0_ok (3, .ifCond .eq 10, 3) (List.mem_of_getElem? (i := 1) rfl)) rfl (fun b => absurd b (by decide)) (fun _ => ?_)
  refine tt_aload_n rfl (List.Mem.head _) (tJ0_coder_7d493_0_ok (6, .aload_n 0, 1) (List.mem_of_getElem? (i := 2) rfl)) ?_
  refine tt_getS (n := "coder") (d := "B") (v := .int 0) (wA7 235 rfl rfl) (fun s x => ((hX s x).1.1 i hi).2.1) (tJ0_coder_7d493_0_ok (7, .getfield 15, 3) (List.mem_of_getElem? (i := 3) rfl)) ?_
  refine tt_goto (tgt := 14) (tJ0_coder_7d493_0_ok (10, .goto 4, 3) (List.mem_of_getElem? (i := 4) rfl)) rfl ?_
  exact tt_zret (ty := .byte) rfl (by decide) hq (Nat.le_refl _) (Nat.le_refl _) (tJ0_coder_7d493_0_ok (14, .ireturn, 1) (List.mem_of_getElem? (i := 6) rfl))
theorem j_isLatin1 {i : Nat} (hi : i < 3) (hX : ∀ s, X s → xs A aK aV s) (hq : Q (some (.int 1)) h) : ww l D tys A X fr lo mJ0_isLatin1_aae02 Q 0 [(0, .ref (aK i))] [] h := by
  refine tt_getZ (K := "java/lang/String") (n := "COMPACT_STRINGS") (d := "Z") (v := .int 1) (wA6 20 rfl rfl) (fun s x => (hX s x).2.1) (tJ0_isLatin1_aae02_0_ok (0, .getstatic 38, 3) (List.mem_of_getElem? (i := 0) rfl)) ?_
  refine tt_if_eq (tgt := 17) (tJ0_isLatin1_aae02_0_ok (3, .ifCond .eq 14, 3) (List.mem_of_getElem? (i := 1) rfl)) rfl (fun b => absurd b (by decide)) (fun _ => ?_)
  refine tt_aload_n rfl (List.Mem.head _) (tJ0_isLatin1_aae02_0_ok (6, .aload_n 0, 1) (List.mem_of_getElem? (i := 2) rfl)) ?_
  refine tt_getS (n := "coder") (d := "B") (v := .int 0) (wA7 235 rfl rfl) (fun s x => ((hX s x).1.1 i hi).2.1) (tJ0_isLatin1_aae02_0_ok (7, .getfield 15, 3) (List.mem_of_getElem? (i := 3) rfl)) ?_
  refine tt_if_ne (tgt := 17) (tJ0_isLatin1_aae02_0_ok (10, .ifCond .ne 7, 3) (List.mem_of_getElem? (i := 4) rfl)) rfl (fun b => absurd rfl b) (fun _ => ?_)
  refine tt_iconst rfl (tJ0_isLatin1_aae02_0_ok (13, .iconst 1, 1) (List.mem_of_getElem? (i := 5) rfl)) ?_
  refine tt_goto (tgt := 18) (tJ0_isLatin1_aae02_0_ok (14, .goto 4, 3) (List.mem_of_getElem? (i := 6) rfl)) rfl ?_
  exact tt_zret (ty := .boolean) rfl (by decide) hq (Nat.le_refl _) (Nat.le_refl _) (tJ0_isLatin1_aae02_0_ok (18, .ireturn, 1) (List.mem_of_getElem? (i := 8) rfl))
theorem j_length {i : Nat} (hi : i < 3) (hX : ∀ s, X s → xs A aK aV s) (hr : 1 ≤ fr ∧ 20 ≤ lo) (hq : ∀ v : Int32, v.toInt = ((js_l.getD i 0 : Nat) : Int) → Q (some (.int v)) h) : ww l D tys A X fr lo mJ0_length_8abf5 Q 0 [(0, .ref (aK i))] [] h := by
  refine tt_aload_n rfl (List.Mem.head _) (tJ0_length_8abf5_0_ok (0, .aload_n 0, 1) (List.mem_of_getElem? (i := 0) rfl)) ?_
  refine tt_getS (n := "value") (d := "[B") (v := .ref (aV i)) (wA7 234 rfl rfl) (fun s x => ((hX s x).1.1 i hi).2.2.1) (tJ0_length_8abf5_0_ok (1, .getfield 9, 3) (List.mem_of_getElem? (i := 1) rfl)) ?_
  refine tt_tlen (fun s x => ((hX s x).1.1 i hi).2.2.2) (tJ0_length_8abf5_0_ok (4, .arraylength, 1) (List.mem_of_getElem? (i := 2) rfl)) ?_
  refine tt_aload_n rfl (List.Mem.head _) (tJ0_length_8abf5_0_ok (5, .aload_n 0, 1) (List.mem_of_getElem? (i := 3) rfl)) ?_
  refine tt_callVR (M' := mJ0_coder_7d493) (Q' := fun r g => r = some (.int 0) ∧ h = g) (As := []) (rest := [.int (Int32.ofNat (js_l.getD i 0))]) (n := 0) (fr' := fr - 1) (lo' := lo - 20) (mc' := 0) (ms' := 0) (tJ0_length_8abf5_0_ok (6, .invokevirtual 335, 3) (List.mem_of_getElem? (i := 4) rfl)) kJ0_coder_7d493 (wA6 16 rfl rfl) iJ0_coder_7d493 vJ0_coder_7d493 (js_recv hi hX) rfl ⟨by omega, by show 8 + (1 + 11) + (lo - 20) ≤ lo; omega⟩ ⟨Nat.le_refl _, Nat.le_refl _⟩ (Nat.le_of_ble_eq_true rfl) (Nat.le_of_ble_eq_true rfl) (j_coder hi hX ⟨rfl, rfl⟩) (fun r g hrg => ?_)
  obtain ⟨rfl, rfl⟩ := hrg
  refine tt_ishr (tJ0_length_8abf5_0_ok (9, .ishr, 1) (List.mem_of_getElem? (i := 5) rfl)) ?_
  refine tt_iret rfl (hq _ ?_) (Nat.le_refl _) (Nat.le_refl _) (tJ0_length_8abf5_0_ok (10, .ireturn, 1) (List.mem_of_getElem? (i := 6) rfl))
  have h3 : i = 0 ∨ i = 1 ∨ i = 2 := by omega
  rcases h3 with rfl | rfl | rfl <;> decide +kernel
theorem j_pre {a b : Int32} {v : Value} (h0 : 0 ≤ a.toInt) (h1 : a.toInt < b.toInt) (hq : Q (some (.int a)) h) : ww l D tys A X fr lo mJ3_checkIndex_8e157 Q 0 [(0, .int a), (1, .int b), (2, v)] [] h := by
  refine w_iload_n (List.Mem.head _) (tJ3_checkIndex_8e157_0_ok (0, .iload_n 0, 1) (List.mem_of_getElem? (i := 0) rfl)) ?_
  refine w_if_lt (tgt := 9) (tJ3_checkIndex_8e157_0_ok (1, .ifCond .lt 8, 3) (List.mem_of_getElem? (i := 1) rfl)) rfl (fun _ => by omega) (fun _ => ?_)
  refine w_iload_n (List.Mem.head _) (tJ3_checkIndex_8e157_0_ok (4, .iload_n 0, 1) (List.mem_of_getElem? (i := 2) rfl)) ?_
  refine w_iload_n (List.Mem.tail _ (List.Mem.head _)) (tJ3_checkIndex_8e157_0_ok (5, .iload_n 1, 1) (List.mem_of_getElem? (i := 3) rfl)) ?_
  refine w_icmp_lt (tgt := 16) (tJ3_checkIndex_8e157_0_ok (6, .if_icmp .lt 10, 3) (List.mem_of_getElem? (i := 4) rfl)) rfl (fun _ => ?_) (fun _ => by omega)
  refine w_iload_n (List.Mem.head _) (tJ3_checkIndex_8e157_0_ok (16, .iload_n 0, 1) (List.mem_of_getElem? (i := 10) rfl)) ?_
  exact w_iret rfl (tJ3_checkIndex_8e157_0_ok (17, .ireturn, 1) (List.mem_of_getElem? (i := 11) rfl)) hq
theorem j_check {a b : Int32} (hX : ∀ s, X s → xs A aK aV s) (hr : 1 ≤ fr ∧ 22 ≤ lo) (h0 : 0 ≤ a.toInt) (h1 : a.toInt < b.toInt) (hq : Q none h) : ww l D tys A X fr lo mJ0_checkIndex_df160 Q 0 [(0, .int a), (1, .int b)] [] h := by
  refine w_iload_n (List.Mem.head _) (tJ0_checkIndex_df160_0_ok (0, .iload_n 0, 1) (List.mem_of_getElem? (i := 0) rfl)) ?_
  refine w_iload_n (List.Mem.tail _ (List.Mem.head _)) (tJ0_checkIndex_df160_0_ok (1, .iload_n 1, 1) (List.mem_of_getElem? (i := 1) rfl)) ?_
  refine tt_getZq (K := "jdk/internal/util/Preconditions") (n := "SIOOBE_FORMATTER") (d := "Ljava/util/function/BiFunction;") (wA6 36 rfl rfl) (fun s x => (hX s x).2.2.1) (tJ0_checkIndex_df160_0_ok (2, .getstatic 1053, 3) (List.mem_of_getElem? (i := 2) rfl)) ?_ (fun t => ?_)
  · refine tt_callS (M' := mJ3_checkIndex_8e157) (Q' := fun r g => r = some (.int a) ∧ h = g) (As := [.int a, .int b, .null]) (rest := []) (n := 3) (fr' := fr - 1) (lo' := lo - 22) (mc' := 0) (ms' := 0) (tJ0_checkIndex_df160_0_ok (5, .invokestatic 1059, 3) (List.mem_of_getElem? (i := 3) rfl)) kJ3_checkIndex_8e157 (wA6 38 rfl rfl) sJ3_checkIndex_8e157 rfl ⟨by omega, by show 8 + (3 + 11) + (lo - 22) ≤ lo; omega⟩ ⟨Nat.le_refl _, Nat.le_refl _⟩ (Nat.le_of_ble_eq_true rfl) (Nat.le_of_ble_eq_true rfl) (j_pre h0 h1 ⟨rfl, rfl⟩) (fun r g hrg => ?_)
    obtain ⟨rfl, rfl⟩ := hrg
    refine w_pop rfl (tJ0_checkIndex_df160_0_ok (8, .pop, 1) (List.mem_of_getElem? (i := 4) rfl)) ?_
    exact w_vret rfl (tJ0_checkIndex_df160_0_ok (9, .return_, 1) (List.mem_of_getElem? (i := 5) rfl)) hq
  · refine tt_callS (M' := mJ3_checkIndex_8e157) (Q' := fun r g => r = some (.int a) ∧ h = g) (As := [.int a, .int b, .ref t]) (rest := []) (n := 3) (fr' := fr - 1) (lo' := lo - 22) (mc' := 0) (ms' := 0) (tJ0_checkIndex_df160_0_ok (5, .invokestatic 1059, 3) (List.mem_of_getElem? (i := 3) rfl)) kJ3_checkIndex_8e157 (wA6 38 rfl rfl) sJ3_checkIndex_8e157 rfl ⟨by omega, by show 8 + (3 + 11) + (lo - 22) ≤ lo; omega⟩ ⟨Nat.le_refl _, Nat.le_refl _⟩ (Nat.le_of_ble_eq_true rfl) (Nat.le_of_ble_eq_true rfl) (j_pre h0 h1 ⟨rfl, rfl⟩) (fun r g hrg => ?_)
    obtain ⟨rfl, rfl⟩ := hrg
    refine w_pop rfl (tJ0_checkIndex_df160_0_ok (8, .pop, 1) (List.mem_of_getElem? (i := 4) rfl)) ?_
    exact w_vret rfl (tJ0_checkIndex_df160_0_ok (9, .return_, 1) (List.mem_of_getElem? (i := 5) rfl)) hq
/-- the sign at a place -/
def js_c (i k : Nat) : Int32 := (js_b.getD i []).getD k 0
theorem js_c_ok : ∀ i, i < 3 → ∀ k, k < js_l.getD i 0 → narrow .char (.int ((js_c i k &&& 255).toUInt32 % 65536).toInt32) = .int ((js_c i k &&& 255).toUInt32 % 65536).toInt32 ∧ ((js_c i k &&& 255).toUInt32 % 65536).toInt32 = js_c i k := by decide +kernel
theorem j_charAt1 {i : Nat} {k : Int32} (hi : i < 3) (hX : ∀ s, X s → xs A aK aV s) (hr : 2 ≤ fr ∧ 50 ≤ lo) (h0 : 0 ≤ k.toInt) (h1 : k.toInt < (js_l.getD i 0 : Nat)) (hq : Q (some (.int (js_c i k.toInt.toNat))) h) : ww l D tys A X fr lo mJ1_charAt_3b067 Q 0 [(0, .ref (aV i)), (1, .int k)] [] h := by
  have hn : (Int32.ofNat (js_l.getD i 0)).toInt = (js_l.getD i 0 : Nat) := by
    have h3 : i = 0 ∨ i = 1 ∨ i = 2 := by omega
    rcases h3 with rfl | rfl | rfl <;> decide
  have e : k.toNatClampNeg = k.toInt.toNat := by have := kn_cl h0; omega
  have hok := js_c_ok i hi k.toInt.toNat (by omega)
  refine w_iload_n (List.Mem.tail _ (List.Mem.head _)) (tJ1_charAt_3b067_0_ok (0, .iload_n 1, 1) (List.mem_of_getElem? (i := 0) rfl)) ?_
  refine w_aload_n (List.Mem.head _) (tJ1_charAt_3b067_0_ok (1, .aload_n 0, 1) (List.mem_of_getElem? (i := 1) rfl)) ?_
  refine tt_tlen (fun s x => ((hX s x).1.1 i hi).2.2.2) (tJ1_charAt_3b067_0_ok (2, .arraylength, 1) (List.mem_of_getElem? (i := 2) rfl)) ?_
  refine tt_callS (M' := mJ0_checkIndex_df160) (Q' := fun r g => r = none ∧ h = g) (As := [.int k, .int (Int32.ofNat (js_l.getD i 0))]) (rest := []) (n := 2) (fr' := fr - 1) (lo' := lo - 21) (mc' := 0) (ms' := 0) (tJ1_charAt_3b067_0_ok (3, .invokestatic 9, 3) (List.mem_of_getElem? (i := 3) rfl)) kJ0_checkIndex_df160 (wA6 33 rfl rfl) sJ0_checkIndex_df160 rfl ⟨by omega, by show 8 + (2 + 11) + (lo - 21) ≤ lo; omega⟩ ⟨Nat.le_refl _, Nat.le_refl _⟩ (Nat.le_of_ble_eq_true rfl) (Nat.le_of_ble_eq_true rfl) (j_check hX (by omega) h0 (by omega) ⟨rfl, rfl⟩) (fun r g hrg => ?_)
  obtain ⟨rfl, rfl⟩ := hrg
  refine w_aload_n (List.Mem.head _) (tJ1_charAt_3b067_0_ok (6, .aload_n 0, 1) (List.mem_of_getElem? (i := 4) rfl)) ?_
  refine w_iload_n (List.Mem.tail _ (List.Mem.head _)) (tJ1_charAt_3b067_0_ok (7, .iload_n 1, 1) (List.mem_of_getElem? (i := 5) rfl)) ?_
  refine tt_tb (v := .int (js_c i k.toInt.toNat)) (fun s x => ((hX s x).1.1 i hi).2.2.2) (kn_in h0 h1) (by rw [e]; rfl) (tJ1_charAt_3b067_0_ok (8, .baload, 1) (List.mem_of_getElem? (i := 6) rfl)) ?_
  refine tt_sipush (v := 255) (by decide) (tJ1_charAt_3b067_0_ok (9, .sipush 255, 3) (List.mem_of_getElem? (i := 7) rfl)) ?_
  refine tt_iand (tJ1_charAt_3b067_0_ok (12, .iand, 1) (List.mem_of_getElem? (i := 8) rfl)) ?_
  refine tt_i2c (tJ1_charAt_3b067_0_ok (13, .i2c, 1) (List.mem_of_getElem? (i := 9) rfl)) ?_
  exact tt_zret (ty := .char) rfl hok.1 (by rw [hok.2]; exact hq) (Nat.le_refl _) (Nat.le_refl _) (tJ1_charAt_3b067_0_ok (14, .ireturn, 1) (List.mem_of_getElem? (i := 10) rfl))
theorem js_cn : ∀ i, i < 3 → ∀ k, k < js_l.getD i 0 → narrow .char (.int (js_c i k)) = .int (js_c i k) := by decide +kernel
theorem j_charAt {i : Nat} {k : Int32} (hi : i < 3) (hX : ∀ s, X s → xs A aK aV s) (hr : 3 ≤ fr ∧ 80 ≤ lo) (h0 : 0 ≤ k.toInt) (h1 : k.toInt < (js_l.getD i 0 : Nat)) (hq : Q (some (.int (js_c i k.toInt.toNat))) h) : ww l D tys A X fr lo mJ0_charAt_5068e Q 0 [(0, .ref (aK i)), (1, .int k)] [] h := by
  refine w_aload_n (List.Mem.head _) (tJ0_charAt_5068e_0_ok (0, .aload_n 0, 1) (List.mem_of_getElem? (i := 0) rfl)) ?_
  refine tt_callVR (M' := mJ0_isLatin1_aae02) (Q' := fun r g => r = some (.int 1) ∧ h = g) (As := []) (rest := []) (n := 0) (fr' := fr - 1) (lo' := lo - 20) (mc' := 0) (ms' := 0) (tJ0_charAt_5068e_0_ok (1, .invokevirtual 492, 3) (List.mem_of_getElem? (i := 1) rfl)) kJ0_isLatin1_aae02 (wA6 26 rfl rfl) iJ0_isLatin1_aae02 vJ0_isLatin1_aae02 (js_recv hi hX) rfl ⟨by omega, by show 8 + (1 + 11) + (lo - 20) ≤ lo; omega⟩ ⟨Nat.le_refl _, Nat.le_refl _⟩ (Nat.le_of_ble_eq_true rfl) (Nat.le_of_ble_eq_true rfl) (j_isLatin1 hi hX ⟨rfl, rfl⟩) (fun r g hrg => ?_)
  obtain ⟨rfl, rfl⟩ := hrg
  refine tt_if_eq (tgt := 16) (tJ0_charAt_5068e_0_ok (4, .ifCond .eq 12, 3) (List.mem_of_getElem? (i := 2) rfl)) rfl (fun b => absurd b (by decide)) (fun _ => ?_)
  refine w_aload_n (List.Mem.head _) (tJ0_charAt_5068e_0_ok (7, .aload_n 0, 1) (List.mem_of_getElem? (i := 3) rfl)) ?_
  refine tt_getS (n := "value") (d := "[B") (v := .ref (aV i)) (wA7 234 rfl rfl) (fun s x => ((hX s x).1.1 i hi).2.2.1) (tJ0_charAt_5068e_0_ok (8, .getfield 9, 3) (List.mem_of_getElem? (i := 4) rfl)) ?_
  refine w_iload_n (List.Mem.tail _ (List.Mem.head _)) (tJ0_charAt_5068e_0_ok (11, .iload_n 1, 1) (List.mem_of_getElem? (i := 5) rfl)) ?_
  refine tt_callS (M' := mJ1_charAt_3b067) (Q' := fun r g => r = some (.int (js_c i k.toInt.toNat)) ∧ h = g) (As := [.ref (aV i), .int k]) (rest := []) (n := 2) (fr' := fr - 1) (lo' := lo - 21) (mc' := 0) (ms' := 0) (tJ0_charAt_5068e_0_ok (12, .invokestatic 495, 3) (List.mem_of_getElem? (i := 6) rfl)) kJ1_charAt_3b067 (wA6 30 rfl rfl) sJ1_charAt_3b067 rfl ⟨by omega, by show 8 + (2 + 11) + (lo - 21) ≤ lo; omega⟩ ⟨Nat.le_refl _, Nat.le_refl _⟩ (Nat.le_of_ble_eq_true rfl) (Nat.le_of_ble_eq_true rfl) (j_charAt1 hi hX (by omega) h0 h1 ⟨rfl, rfl⟩) (fun r g hrg => ?_)
  obtain ⟨rfl, rfl⟩ := hrg
  exact tt_zret (ty := .char) rfl (js_cn i hi _ (by omega)) hq (Nat.le_refl _) (Nat.le_refl _) (tJ0_charAt_5068e_0_ok (15, .ireturn, 1) (List.mem_of_getElem? (i := 7) rfl))
/-- rows for the reference's own walks -/
theorem w_strlen {ix i : Nat} (hi : i < 3) (hX : ∀ s, X s → xs A aK aV s) (hw : Cond.methodLink M.1.cls ix mJ0_length_8abf5.1 ∈ wsA) (hr : 2 ≤ fr ∧ 40 ≤ lo) (hst : (st.map fun v => v.category).sum ≤ 8) (hd : decode M.2.1 pc = .ok (.invokevirtual ix, 3)) (k : ∀ v : Int32, v.toInt = ((js_l.getD i 0 : Nat) : Int) → ww l D tys A X fr lo M Q (pc + 3) lv (.int v :: st) h) : ww l D tys A X fr lo M Q pc lv (.ref (aK i) :: st) h := by
  refine tt_callVR (M' := mJ0_length_8abf5) (Q' := fun r g => ∃ v : Int32, r = some (.int v) ∧ v.toInt = ((js_l.getD i 0 : Nat) : Int) ∧ h = g) (As := []) (rest := st) (n := 0) (fr' := fr - 1) (lo' := lo - 20) (mc' := 0) (ms' := 0) hd kJ0_length_8abf5 hw iJ0_length_8abf5 vJ0_length_8abf5 (js_recv hi hX) rfl ⟨by omega, by show 8 + (1 + 11) + (lo - 20) ≤ lo; omega⟩ ⟨Nat.le_refl _, Nat.le_refl _⟩ hst (Nat.le_of_ble_eq_true rfl) (j_length hi hX (by omega) (fun v e => ⟨v, rfl, e, rfl⟩)) (fun r g hrg => ?_)
  obtain ⟨v, rfl, e, rfl⟩ := hrg
  exact k v e
theorem w_strch {ix i : Nat} {x : Int32} (hi : i < 3) (hX : ∀ s, X s → xs A aK aV s) (hw : Cond.methodLink M.1.cls ix mJ0_charAt_5068e.1 ∈ wsA) (hr : 4 ≤ fr ∧ 110 ≤ lo) (hst : (st.map fun v => v.category).sum ≤ 8) (h0 : 0 ≤ x.toInt) (h1 : x.toInt < (js_l.getD i 0 : Nat)) (hd : decode M.2.1 pc = .ok (.invokevirtual ix, 3)) (k : ww l D tys A X fr lo M Q (pc + 3) lv (.int (js_c i x.toInt.toNat) :: st) h) : ww l D tys A X fr lo M Q pc lv (.int x :: .ref (aK i) :: st) h := by
  refine tt_callVR (M' := mJ0_charAt_5068e) (Q' := fun r g => r = some (.int (js_c i x.toInt.toNat)) ∧ h = g) (As := [.int x]) (rest := st) (n := 1) (fr' := fr - 1) (lo' := lo - 21) (mc' := 0) (ms' := 0) hd kJ0_charAt_5068e hw iJ0_charAt_5068e vJ0_charAt_5068e (js_recv hi hX) rfl ⟨by omega, by show 8 + (2 + 11) + (lo - 21) ≤ lo; omega⟩ ⟨Nat.le_refl _, Nat.le_refl _⟩ hst (Nat.le_of_ble_eq_true rfl) (j_charAt hi hX (by omega) h0 h1 ⟨rfl, rfl⟩) (fun r g hrg => ?_)
  obtain ⟨rfl, rfl⟩ := hrg
  exact k
end
