/-! the constructors once more: what is new has a label of its own, which says that it is empty (made by gen_newzK) -/
section
variable {l : Launch} {D : va_G} {tys : List (ClassId × FieldType)} {A : Nat → Prop} {X : State → Prop} {fr lo mc ms : Nat} {M : ch_M} {Q : Option Value → ch_H → Prop} {pc : Nat} {lv : List (Nat × Value)} {st : List Value} {h : ch_H} {c z : Nat}
/-- new int[N][K] -/
theorem tt_mnaI {ix t0 t1 N' K' : Nat} {cA cy : ClassId} {n k : Int32} (hw1 : Cond.classLink M.1.cls ix ("[" ++ (FieldType.array .int).toString) ∈ wsA) (hw2 : Cond.arrayClass .int ∈ wsA) (hover : ∀ s, X s → va_AOA .int s) (ht0 : tys[t0]? = some (cy, .int)) (ht1 : tys[t1]? = some (cA, .array .int)) (hn : ¬ n < 0) (hk : ¬ k < 0) (hN : n.toNatClampNeg = N') (hM : k.toNatClampNeg = K') (hb1 : N' * 4 ≤ 536870912) (hb2 : K' * componentBytes .int ≤ 536870912) (hb3 : K' ≤ 536870912) (hcells : c + (1 + N') ≤ mc) (hslots : z + (N' + N' * K') ≤ ms) (hd : decode M.2.1 pc = .ok (.multianewarray ix 2, 4))
    (kk : ∀ (q : Nat) (r : Nat → Nat) (g : ch_H), h q = none → (∀ i, i < N' → h (r i) = none ∧ r i ≠ q) → g q = some (.inl (cA, N', .inr (.inr (.inr (.inr (fun i => if i < N' then some (r i) else none)))))) → (∀ i, i < N' → g (r i) = some (.inl (cy, K', .inl (fun _ => 0)))) → (∀ a, a ≠ q → (∀ i, i < N' → a ≠ r i) → g a = h a) → (∀ i j, i < N' → j < N' → i ≠ j → r i ≠ r j) → tt l D tys A X fr lo mc ms M Q (pc + 4) lv (.ref q :: st) g (c + 1 + N') (z + N' + N' * K')) : tt l D tys A X fr lo mc ms M Q pc lv (.int k :: .int n :: st) h c z := by
  intro p e s m args below meth cd H locs ls C hl hr hS
  obtain ⟨ws, h1, hP, hD⟩ := id hr
  have hcy : s.vm.findClass (FieldType.array .int).toString = some cy := (C.2.2.2.2.2.2.1.2 t0 _ ht0).2
  refine va_mna (X := ws) (L := []) (f := fun _ => .inr (0, [])) (z := (K', .inl (fun _ => 0))) C.1 C.2.1 C.2.2.2.2.1 (C.2.2.2.2.2.1 _ hw1) (hover s C.2.2.2.2.2.2.2.2.2.2.1) (C.2.2.2.2.2.1 _ hw2) hcy C.2.2.2.2.2.2.1 (by show va_P D vwCl (ws ++ []) H; rw [List.append_nil]; exact hP) (by show va_D A (ws ++ []); rw [List.append_nil]; exact hD) hS C.2.2.2.2.2.2.2.1 hn hk hN hM hb1 hb2 hb3 rfl rfl hcells hslots (fun c => by rw [vp_cell_i]; exact arrV_new c K' (defaultValue .int)) hd (fun q r cB H hinj hnL hK hP hD hS => ?_)
  have hcB : cB = cA := ch_prim C.2.2.2.2.2.2.1 ht1 hK
  subst hcB
  have hq1 : ((ws ++ [(q, (.inl (cB, N', .inr (.inr (.inr (.inr (fun i => if i < N' then some (r i) else none))))) : va_E))]) ++ va_pl ([] ++ (List.range N').map r) (vr_up (fun _ => .inr (0, [])) ((List.range N').map r) (.inl (cy, K', .inl (fun _ => 0)))))[ws.length]? = some (q, .inl (cB, N', .inr (.inr (.inr (.inr (fun i => if i < N' then some (r i) else none)))))) := by
    rw [List.getElem?_append_left (by simp)]
    simp
  have hri : ∀ i, i < N' → ∃ k9 : Nat, k9 = ws.length + 1 + i ∧ ((ws ++ [(q, (.inl (cB, N', .inr (.inr (.inr (.inr (fun i => if i < N' then some (r i) else none))))) : va_E))]) ++ va_pl ([] ++ (List.range N').map r) (vr_up (fun _ => .inr (0, [])) ((List.range N').map r) (.inl (cy, K', .inl (fun _ => 0)))))[k9]? = some (r i, .inl (cy, K', .inl (fun _ => 0))) := by
    intro i hi
    refine ⟨ws.length + 1 + i, rfl, ?_⟩
    rw [List.getElem?_append_right (by simp)]
    have e : ws.length + 1 + i - (ws ++ [(q, (.inl (cB, N', .inr (.inr (.inr (.inr (fun i => if i < N' then some (r i) else none))))) : va_E))]).length = i := by simp
    rw [e]
    unfold va_pl
    rw [List.nil_append, List.map_map, List.getElem?_map, List.getElem?_range hi]
    show some (r i, vr_up _ _ _ (r i)) = _
    rw [vr_up_in (List.mem_map.mpr ⟨i, List.mem_range.mpr hi, rfl⟩)]
  have hold : ∀ (b : Nat) (x : va_E), h b = some x → ∃ k9 : Nat, k9 < ws.length ∧ ((ws ++ [(q, (.inl (cB, N', .inr (.inr (.inr (.inr (fun i => if i < N' then some (r i) else none))))) : va_E))]) ++ va_pl ([] ++ (List.range N').map r) (vr_up (fun _ => .inr (0, [])) ((List.range N').map r) (.inl (cy, K', .inl (fun _ => 0)))))[k9]? = some (b, x) := by
    intro b x hb
    obtain ⟨k9, hk9⟩ := h1 b x hb
    have hl9 : k9 < ws.length := (List.getElem?_eq_some_iff.mp hk9).1
    refine ⟨k9, hl9, ?_⟩
    rw [List.getElem?_append_left (by simp; omega), List.getElem?_append_left hl9]
    exact hk9
  have hqn : h q = none := by
    cases hh : h q with
    | none => rfl
    | some x =>
      obtain ⟨k9, hl9, hk9⟩ := hold q x hh
      have := hD.1 k9 ws.length _ _ hk9 hq1 rfl
      omega
  have hrn : ∀ i, i < N' → h (r i) = none ∧ r i ≠ q := by
    intro i hi
    obtain ⟨k8, hl8, hk8⟩ := hri i hi
    refine ⟨?_, fun e => ?_⟩
    · cases hh : h (r i) with
      | none => rfl
      | some x =>
        obtain ⟨k9, hl9, hk9⟩ := hold (r i) x hh
        have := hD.1 k9 k8 _ _ hk9 hk8 rfl
        omega
    · have := hD.1 k8 ws.length _ _ hk8 hq1 e
      omega
  have hij : ∀ i j, i < N' → j < N' → i ≠ j → r i ≠ r j := fun i j hi hj hn9 e9 => by
    obtain ⟨k8, hl8, hk8⟩ := hri i hi
    obtain ⟨k7, hl7, hk7⟩ := hri j hj
    have := hD.1 k8 k7 _ _ hk8 hk7 e9
    omega
  refine kk q r (fun a => if a = q then some (.inl (cB, N', .inr (.inr (.inr (.inr (fun i => if i < N' then some (r i) else none)))))) else if a ∈ (List.range N').map r then some (.inl (cy, K', .inl (fun _ => 0))) else h a) hqn hrn (if_pos rfl) (fun i hi => ?_) (fun a ha1 ha2 => ?_) hij p e s m args below meth cd H locs ls C hl ?_ hS
  · rw [if_neg (hrn i hi).2, if_pos (List.mem_map.mpr ⟨i, List.mem_range.mpr hi, rfl⟩)]
  · rw [if_neg ha1, if_neg (fun hm => by
      obtain ⟨i, hi, e⟩ := List.mem_map.mp hm
      exact ha2 i (List.mem_range.mp hi) e.symm)]
  · refine ⟨_, fun a x hx => ?_, hP, hD⟩
    dsimp only at hx
    split at hx
    · next ea =>
      cases hx
      rw [ea]
      exact ⟨ws.length, hq1⟩
    · split at hx
      · next hm =>
        cases hx
        obtain ⟨i, hi, e⟩ := List.mem_map.mp hm
        obtain ⟨k8, -, hk8⟩ := hri i (List.mem_range.mp hi)
        rw [← e]
        exact ⟨k8, hk8⟩
      · obtain ⟨k9, -, hk9⟩ := hold a x hx
        exact ⟨k9, hk9⟩
end
/-- a constructor's contract, with what it leaves behind -/
def k_nwX (l : Launch) (D : va_G) (tys : List (ClassId × FieldType)) (A : Nat → Prop) (X : State → Prop) (cA : Nat → ClassId) (Lb9 : Nat → k_I) (Pz : ch_H → Nat → Prop) (M : ch_M) (ci : Nat) (df : List Value) (L fr lo mc ms : Nat) : Prop := ∀ (Sg : Nat → Option Nat) (a : Nat) (h : ch_H), k_H Sg cA Lb9 h → h a = some (.inr (ci, df)) → Sg a = none → tt l D tys A X fr lo mc ms M (fun o g => nQ cA Lb9 Sg h a L o g ∧ Pz g a) 0 [(0, .ref a)] [] h 0 0
section
variable {l : Launch} {D : va_G} {tys : List (ClassId × FieldType)} {A : Nat → Prop} {X : State → Prop} {fr lo mc ms : Nat} {M : ch_M} {Q : Option Value → ch_H → Prop} {pc : Nat} {lv : List (Nat × Value)} {st : List Value} {h : ch_H} {c z : Nat} {Sg Sg0 : Nat → Option Nat} {h0 : ch_H} {cA : Nat → ClassId} {Lb9 : Nat → k_I} {a : Nat} {e : va_E}
theorem nS.join {Sg1 Sg2 : Nat → Option Nat} {g1 g2 : ch_H} {e2 : va_E} (H : nS cA Lb9 Sg0 h0 a e Sg1 g1) (J : nS cA Lb9 Sg1 g1 a e2 Sg2 g2) : nS cA Lb9 Sg0 h0 a e2 Sg2 g2 := by
  refine ⟨J.1, J.2.1, J.2.2.1, fun q hq hn => ?_⟩
  have w := H.2.2.2 q hq hn
  have w2 := J.2.2.2 q hq (by rw [w.1]; exact hn)
  exact ⟨w2.1.trans w.1, w2.2.trans w.2⟩
theorem n_objX {M' : ch_M} {Pz : ch_H → Nat → Prop} {df : List Value} {ix ix2 ci L fr' lo' mc' ms' : Nat} (H : nS cA Lb9 Sg0 h0 a e Sg h) (hk : k_nwX l D tys A X cA Lb9 Pz M' ci df L fr' lo' mc' ms') (hcl : Cond.classLink M.1.cls ix (ch_n ci) ∈ wsA) (hins : Cond.instantiable (ch_n ci) (ch_N ci) ∈ wsA) (hini : Cond.initialized (ch_n ci) ∈ wsA) (hci : ci < 11) (hdf : ∀ j, j < ch_N ci → defaultValue (ch_ty ci j) = vp_V df j) (hm : ch_m M' 0) (hi : M'.1.name = "<init>") (hret : M'.2.2.2 = none) (hln : (∃ host, ∀ s, X s → va_Nw (.methodLinkNest M.1.cls ix2 M'.1 host) s) ∨ Cond.methodLink M.1.cls ix2 M'.1 ∈ wsA) (hw2 : Cond.instanceMethod M'.1 ∈ wsA) (hroom : fr' + 1 ≤ fr ∧ 8 + (M'.2.2.1 + 11) + lo' ≤ lo) (hcells : c + 1 + mc' ≤ mc) (hslots : z + ch_N ci + ms' ≤ ms) (hst : (st.map fun v => v.category).sum ≤ 7) (hlen : ∀ b, (lg_sl [.ref b]).length ≤ M'.2.2.1) (hd1 : decode M.2.1 pc = .ok (.new ix, 3)) (hd2 : decode M.2.1 (pc + 3) = .ok (.dup, 1)) (hd3 : decode M.2.1 (pc + 3 + 1) = .ok (.invokespecial ix2, 3))
    (kk : ∀ (b : Nat) (Sg1 : Nat → Option Nat) (g : ch_H), nS cA Lb9 Sg0 h0 a e Sg1 g → Sg1 b = some L → sg_le Sg Sg1 → h0 b = none → Pz g b → tt l D tys A X fr lo mc ms M Q (pc + 3 + 1 + 3) lv (.ref b :: st) g (c + 1 + mc') (z + ch_N ci + ms')) : tt l D tys A X fr lo mc ms M Q pc lv st h c z := by
  refine tt_new (pg_k ci hci) hcl hins hini hdf (by omega) (by omega) hd1 (fun b hb => ?_)
  have ob := H.old hb
  have Hr := H.raw (eb := .inr (ci, df)) hb
  have sb := H.1.none_ hb
  have hne : a ≠ b := fun q => by have := H.2.1; rw [q, hb] at this; cases this
  refine tt_dup rfl hd2 ?_
  have kc := hk Sg b (ch_up h b (.inr (ci, df))) Hr.1 (ch_up_s _ _ _) sb
  have fin : ∀ r g, nQ cA Lb9 Sg (ch_up h b (.inr (ci, df))) b L r g ∧ Pz g b → tt l D tys A X fr lo mc ms M Q (pc + 3 + 1 + 3) lv (r.toList ++ .ref b :: st) g (c + 1 + mc') (z + ch_N ci + ms') := by
    intro r g ⟨⟨e0, Sg1, q1, q2, q3⟩, pz⟩
    subst e0
    have qa := q3 a hne (by rw [Hr.2.1]; exact fun q => by cases q)
    refine kk b Sg1 g ⟨q1, qa.1.trans Hr.2.1, qa.2.trans Hr.2.2.1, fun q hq hn => ?_⟩ q2 (fun q M9 e9 => ?_) ob pz
    · have w1 := Hr.2.2.2 q hq hn
      have hqb : q ≠ b := fun e => hn (by rw [e]; exact ob)
      have w2 := q3 q hqb (by rw [w1.1]; exact hn)
      exact ⟨w2.1.trans w1.1, w2.2.trans w1.2⟩
    · have hqb : q ≠ b := fun e => by rw [e, sb] at e9; cases e9
      rw [(q3 q hqb (Hr.1.some_ e9)).2]
      exact e9
  have hst2 : ((Value.ref b :: st).map fun v => v.category).sum ≤ 8 := by
    simp only [List.map_cons, List.sum_cons]
    show 1 + _ ≤ 8
    omega
  rcases hln with ⟨host, hln⟩ | hln
  · exact tt_callIN (As := []) (rest := .ref b :: st) hd3 hm hi hret hln hw2 rfl hroom ⟨by omega, by omega⟩ hst2 (hlen b) kc fin
  · exact tt_callI (As := []) (rest := .ref b :: st) hd3 hm hi hret hln hw2 rfl hroom ⟨by omega, by omega⟩ hst2 (hlen b) kc fin
theorem n_putLF {own ix ci k b L N : Nat} {ts : List k_T} {t : k_T} {v : Value} (H : nS cA Lb9 Sg0 h0 a e Sg h) (sb : Sg b = some L) (ob : h0 b = none) (hL : Lb9 L = (0, ci, N, ts)) (htk : ts[k]? = some t) (hv : k_v Sg v t) (hR : pg_R own = M.1.cls) (hx : k_fd (pg_fl own) ix = some (ci, k)) (hc : ci < 11 ∧ k < ch_N ci) (hfin : (ch_T ci k).2.2.2 = false) (hn : narrow (ch_ty ci k) v = v ∧ fits (ch_ty ci k) v = true) (hlen : k < N) (hd : decode M.2.1 pc = .ok (.putfield ix, 3)) (kk : ∀ g : ch_H, nS cA Lb9 Sg0 h0 a e Sg g → (∀ q, q ≠ b → g q = h q) → tt l D tys A X fr lo mc ms M Q (pc + 3) lv st g c z) : tt l D tys A X fr lo mc ms M Q pc lv (v :: .ref b :: st) h c z := by
  have hw := pg_fw own _ (k_fd_ok hx)
  dsimp only at hw
  rw [hR] at hw
  obtain ⟨fs, cb, fl, ty⟩ := H.1.obj sb hL
  have hne : b ≠ a := fun q => by rw [q, H.2.2.1] at sb; cases sb
  refine tt_put (pg_k ci hc.1) cb hc.2 hw hfin hn.1 hn.2 (by omega) hd (kk _ ⟨?_, ?_, H.2.2.1, fun q hq hn9 => ?_⟩ (fun q hq => ch_up_n _ _ hq))
  · refine H.1.fld (k := k) sb hL htk cb (ch_up_s _ _ _) (by rw [List.length_set]; exact fl) (by rw [List.getElem?_set_self (by omega)]) hv (fun j hj => List.getElem?_set_ne (Ne.symm hj)) (fun q hq => ch_up_n _ _ hq)
  · rw [ch_up_n _ _ (Ne.symm hne)]
    exact H.2.1
  · have hqb : q ≠ b := fun e => hn9 (by rw [e]; exact ob)
    rw [ch_up_n _ _ hqb]
    exact H.2.2.2 q hq hn9
end
section
variable {l : Launch} {D : va_G} {tys : List (ClassId × FieldType)} {A : Nat → Prop} {X : State → Prop} {fr lo mc ms : Nat} {M : ch_M} {Q : Option Value → ch_H → Prop} {pc : Nat} {lv : List (Nat × Value)} {st : List Value} {h : ch_H} {c z : Nat} {Sg : Nat → Option Nat} {cA : Nat → ClassId} {Lb9 : Nat → k_I} {x : Nat}
theorem n_objLX {M' : ch_M} {Pz : ch_H → Nat → Prop} {df : List Value} {ix ix2 ci L fr' lo' mc' ms' : Nat} (hH : k_H Sg cA Lb9 h) (hk : k_nwX l D tys A X cA Lb9 Pz M' ci df L fr' lo' mc' ms') (hcl : Cond.classLink M.1.cls ix (ch_n ci) ∈ wsA) (hins : Cond.instantiable (ch_n ci) (ch_N ci) ∈ wsA) (hini : Cond.initialized (ch_n ci) ∈ wsA) (hci : ci < 11) (hdf : ∀ j, j < ch_N ci → defaultValue (ch_ty ci j) = vp_V df j) (hm : ch_m M' 0) (hi : M'.1.name = "<init>") (hret : M'.2.2.2 = none) (hln : (∃ host, ∀ s, X s → va_Nw (.methodLinkNest M.1.cls ix2 M'.1 host) s) ∨ Cond.methodLink M.1.cls ix2 M'.1 ∈ wsA) (hw2 : Cond.instanceMethod M'.1 ∈ wsA) (hroom : fr' + 1 ≤ fr ∧ 8 + (M'.2.2.1 + 11) + lo' ≤ lo) (hcells : c + 1 + mc' ≤ mc) (hslots : z + ch_N ci + ms' ≤ ms) (hst : (st.map fun v => v.category).sum ≤ 7) (hlen : ∀ b, (lg_sl [.ref b]).length ≤ M'.2.2.1) (hd1 : decode M.2.1 pc = .ok (.new ix, 3)) (hd2 : decode M.2.1 (pc + 3) = .ok (.dup, 1)) (hd3 : decode M.2.1 (pc + 3 + 1) = .ok (.invokespecial ix2, 3))
    (kk : ∀ (b : Nat) (Sg1 : Nat → Option Nat) (g : ch_H), k_H Sg1 cA Lb9 g → Sg1 b = some L → h b = none → (∀ q, h q ≠ none → g q = h q ∧ Sg1 q = Sg q) → Pz g b → tt l D tys A X fr lo mc ms M Q (pc + 3 + 1 + 3) lv (.ref b :: st) g (c + 1 + mc') (z + ch_N ci + ms')) : tt l D tys A X fr lo mc ms M Q pc lv st h c z := by
  refine tt_new (pg_k ci hci) hcl hins hini hdf (by omega) (by omega) hd1 (fun b hb => ?_)
  have sb := hH.none_ hb
  have hH1 : k_H Sg cA Lb9 (ch_up h b (.inr (ci, df))) := fun q M9 hq => by
    have hne : q ≠ b := fun e => by rw [e, sb] at hq; cases hq
    rw [ch_up_n _ _ hne]
    exact hH q M9 hq
  refine tt_dup rfl hd2 ?_
  have kc := hk Sg b (ch_up h b (.inr (ci, df))) hH1 (ch_up_s _ _ _) sb
  have fin : ∀ r g, nQ cA Lb9 Sg (ch_up h b (.inr (ci, df))) b L r g ∧ Pz g b → tt l D tys A X fr lo mc ms M Q (pc + 3 + 1 + 3) lv (r.toList ++ .ref b :: st) g (c + 1 + mc') (z + ch_N ci + ms') := by
    intro r g ⟨⟨e0, Sg1, q1, q2, q3⟩, pz⟩
    subst e0
    refine kk b Sg1 g q1 q2 hb (fun q hn => ?_) pz
    have hqb : q ≠ b := fun e => hn (by rw [e]; exact hb)
    have w := q3 q hqb (by rw [ch_up_n _ _ hqb]; exact hn)
    rw [ch_up_n _ _ hqb] at w
    exact w
  have hst2 : ((Value.ref b :: st).map fun v => v.category).sum ≤ 8 := by
    simp only [List.map_cons, List.sum_cons]
    show 1 + _ ≤ 8
    omega
  rcases hln with ⟨host, hln⟩ | hln
  · exact tt_callIN (As := []) (rest := .ref b :: st) hd3 hm hi hret hln hw2 rfl hroom ⟨by omega, by omega⟩ hst2 (hlen b) kc fin
  · exact tt_callI (As := []) (rest := .ref b :: st) hd3 hm hi hret hln hw2 rfl hroom ⟨by omega, by omega⟩ hst2 (hlen b) kc fin
end
def LzT : List k_I := [(0, 9, 19, [(2, 1, 0), (2, 2, 0), (2, 71, 0), (2, 3, 0), (2, 87, 0), (2, 93, 0), (0, 0, 0), (0, 0, 0), (2, 4, 0), (2, 5, 0), (2, 32, 0), (2, 86, 0), (2, 34, 0), (2, 6, 0), (0, 0, 0), (2, 35, 0), (2, 7, 0), (2, 8, 0), (2, 9, 0)]),
  (0, 7, 4, [(2, 10, 0), (0, 0, 0), (0, -2147483648, 2147483647), (0, -2147483648, 2147483647)]),
  (0, 4, 9, [(0, 0, 0), (2, 11, 0), (2, 12, 0), (2, 13, 0), (2, 14, 0), (2, 15, 0), (2, 16, 0), (2, 17, 0), (2, 18, 0)]),
  (0, 6, 7, [(2, 19, 0), (2, 20, 0), (2, 21, 0), (2, 22, 0), (2, 23, 0), (0, 0, 0), (1, 0, 0)]),
  (0, 1, 8, [(0, 0, 0), (2, 24, 0), (2, 25, 0), (0, 0, 0), (2, 26, 0), (0, 0, 0), (2, 27, 0), (2, 28, 0)]),
  (0, 8, 3, [(2, 29, 0), (2, 30, 0), (2, 31, 0)]),
  (0, 5, 3, [(2, 36, 0), (0, 0, 192), (2, 37, 0)]),
  (0, 3, 5, [(2, 38, 0), (2, 39, 0), (0, 0, 12), (2, 40, 0), (2, 41, 0)]),
  (0, 0, 3, [(2, 42, 0), (2, 44, 0), (0, -2147483648, 2147483647)]),
  (0, 2, 3, [(2, 45, 0), (0, -2147483648, 2147483647), (0, -2147483648, 2147483647)]),
  (1, 0, 160, [(0, -2147483648, 2147483647)]),
  (1, 0, 6, [(0, 0, 0)]),
  (1, 0, 6, [(0, 0, 0)]),
  (1, 0, 6, [(0, 0, 0)]),
  (1, 0, 12, [(0, 0, 0)]),
  (1, 0, 6, [(0, 0, 0)]),
  (1, 0, 6, [(0, 0, 0)]),
  (1, 0, 6, [(0, 0, 0)]),
  (1, 0, 6, [(0, 0, 0)]),
  (1, 0, 6, [(0, 0, 0)]),
  (1, 0, 6, [(0, 0, 0)]),
  (1, 1, 6, [(0, 0, 0)]),
  (1, 0, 12, [(0, 0, 0)]),
  (1, 0, 8, [(0, 0, 0)]),
  (1, 0, 6, [(0, 0, 0)]),
  (1, 0, 18, [(0, 0, 0)]),
  (1, 0, 8, [(0, 0, 0)]),
  (1, 0, 6, [(0, 0, 0)]),
  (1, 0, 6, [(0, 0, 0)]),
  (1, 0, 12, [(0, 0, 0)]),
  (1, 0, 6, [(0, 0, 0)]),
  (1, 0, 18, [(0, 0, 0)]),
  (1, 0, 12, [(0, 0, 0)]),
  (9, 0, 0, []),
  (2, 4, 4, [(3, 6, 0)]),
  (1, 0, 7, [(0, 0, 0)]),
  (1, 0, 192, [(0, -100, 20000)]),
  (1, 0, 64, [(0, -2147483648, 2147483647)]),
  (1, 0, 12, [(0, 0, 0)]),
  (1, 0, 12, [(0, 0, 0)]),
  (1, 0, 12, [(0, 0, 0)]),
  (1, 0, 6, [(0, 0, 0)]),
  (2, 5, 6, [(2, 80, 0), (2, 81, 0), (2, 82, 0), (2, 83, 0), (2, 84, 0), (2, 85, 0)]),
  (1, 0, 121, [(0, 0, 0)]),
  (1, 0, 6, [(0, 0, 0)]),
  (2, 3, 7, [(2, 99, 0), (2, 105, 0), (2, 111, 0), (2, 117, 0), (2, 123, 0), (2, 129, 0), (2, 135, 0)]),
  (9, 0, 0, []),
  (9, 0, 0, []),
  (9, 0, 0, []),
  (9, 0, 0, []),
  (0, 10, 47, [(0, -2147483648, 2147483647), (2, 51, 0), (2, 52, 0), (2, 53, 0), (2, 54, 0), (8, 0, 0), (0, 0, 160), (0, 0, 4), (0, -2147483648, 2147483647), (0, -2147483648, 2147483647), (0, -2147483648, 2147483647), (0, -2147483648, 2147483647), (0, -2147483648, 2147483647), (0, -2147483648, 2147483647), (0, -2147483648, 2147483647), (8, 0, 0), (8, 0, 0), (8, 0, 0), (0, 0, 1), (2, 55, 0), (0, 0, 6), (0, 0, 6), (2, 56, 0), (2, 57, 0), (2, 58, 0), (2, 59, 0), (2, 60, 0), (2, 61, 0), (2, 62, 0), (2, 63, 0), (2, 64, 0), (2, 65, 0), (0, 0, 6), (0, 0, 8), (0, 0, 6), (0, 0, 8), (1, 0, 0), (1, 0, 0), (1, 0, 0), (0, 0, 1), (2, 66, 0), (2, 67, 0), (0, -2147483648, 2147483647), (0, -2147483648, 2147483647), (0, -2147483648, 2147483647), (0, -2147483648, 2147483647), (2, 68, 0)]),
  (1, 2, 160, [(0, -128, 127)]),
  (1, 2, 640, [(0, 0, 0)]),
  (1, 0, 4, [(0, 0, 0)]),
  (1, 0, 128, [(0, 0, 0)]),
  (1, 0, 108, [(0, 0, 2), (0, 0, 20), (0, 0, 20), (0, 0, 99), (0, 0, 99), (0, 0, 99), (0, 0, 100), (0, 0, 9), (0, -1, -1), (0, 0, 2), (0, 0, 20), (0, 0, 20), (0, 0, 99), (0, 0, 99), (0, 0, 99), (0, 0, 100), (0, 0, 9), (0, -1, 1), (0, 0, 2), (0, 0, 20), (0, 0, 20), (0, 0, 99), (0, 0, 99), (0, 0, 99), (0, 0, 100), (0, 0, 9), (0, -1, 3), (0, 0, 2), (0, 0, 20), (0, 0, 20), (0, 0, 99), (0, 0, 99), (0, 0, 99), (0, 0, 100), (0, 0, 9), (0, -1, 5), (0, 0, 2), (0, 0, 20), (0, 0, 20), (0, 0, 99), (0, 0, 99), (0, 0, 99), (0, 0, 100), (0, 0, 9), (0, -1, 7), (0, 0, 2), (0, 0, 20), (0, 0, 20), (0, 0, 99), (0, 0, 99), (0, 0, 99), (0, 0, 100), (0, 0, 9), (0, -1, 9), (0, 0, 2), (0, 0, 20), (0, 0, 20), (0, 0, 99), (0, 0, 99), (0, 0, 99), (0, 0, 100), (0, 0, 9), (0, -1, 0), (0, 0, 2), (0, 0, 20), (0, 0, 20), (0, 0, 99), (0, 0, 99), (0, 0, 99), (0, 0, 100), (0, 0, 9), (0, -1, 1), (0, 0, 2), (0, 0, 20), (0, 0, 20), (0, 0, 99), (0, 0, 99), (0, 0, 99), (0, 0, 100), (0, 0, 9), (0, -1, 3), (0, 0, 2), (0, 0, 20), (0, 0, 20), (0, 0, 99), (0, 0, 99), (0, 0, 99), (0, 0, 100), (0, 0, 9), (0, -1, 5), (0, 0, 2), (0, 0, 20), (0, 0, 20), (0, 0, 99), (0, 0, 99), (0, 0, 99), (0, 0, 100), (0, 0, 9), (0, -1, 7), (0, 0, 2), (0, 0, 20), (0, 0, 20), (0, 0, 99), (0, 0, 99), (0, 0, 99), (0, 0, 100), (0, 0, 9), (0, -1, 9)]),
  (1, 0, 39, [(0, 0, 0)]),
  (1, 0, 39, [(0, 0, 0)]),
  (1, 0, 39, [(0, 0, 0)]),
  (1, 0, 18, [(0, 0, 0)]),
  (1, 0, 12, [(0, 0, 0)]),
  (1, 0, 12, [(0, 0, 0)]),
  (1, 0, 8, [(0, 0, 0)]),
  (1, 0, 6, [(0, 0, 0)]),
  (1, 0, 6, [(0, 0, 0)]),
  (1, 1, 324, [(0, 0, 0)]),
  (1, 0, 12, [(0, 0, 0)]),
  (1, 0, 6, [(0, 0, 0)]),
  (1, 0, 12, [(0, 0, 0)]),
  (1, 0, 108, [(0, 0, 0)]),
  (0, 10, 47, [(0, -2147483648, 2147483647), (2, 51, 0), (2, 52, 0), (2, 53, 0), (2, 54, 0), (8, 0, 0), (0, 0, 0), (0, 0, 0), (0, -2147483648, 2147483647), (0, -2147483648, 2147483647), (0, -2147483648, 2147483647), (0, -2147483648, 2147483647), (0, -2147483648, 2147483647), (0, -2147483648, 2147483647), (0, -2147483648, 2147483647), (8, 0, 0), (8, 0, 0), (8, 0, 0), (0, 0, 1), (2, 69, 0), (0, 0, 0), (0, 0, 6), (2, 56, 0), (2, 57, 0), (2, 58, 0), (2, 59, 0), (2, 60, 0), (2, 61, 0), (2, 62, 0), (2, 63, 0), (2, 64, 0), (2, 65, 0), (0, 0, 0), (0, 0, 0), (0, 0, 0), (0, 0, 8), (1, 0, 0), (1, 0, 0), (1, 0, 0), (0, 0, 0), (2, 66, 0), (2, 67, 0), (0, -2147483648, 2147483647), (0, -2147483648, 2147483647), (0, -2147483648, 2147483647), (0, -2147483648, 2147483647), (2, 68, 0)]),
  (0, 4, 9, [(0, 0, 0), (2, 72, 0), (2, 73, 0), (2, 74, 0), (2, 75, 0), (2, 76, 0), (2, 77, 0), (2, 78, 0), (2, 79, 0)]),
  (1, 0, 6, [(0, 0, 0)]),
  (1, 0, 6, [(0, 0, 0)]),
  (1, 0, 6, [(0, 0, 0)]),
  (1, 0, 12, [(0, 0, 0)]),
  (1, 0, 6, [(0, 0, 0)]),
  (1, 0, 6, [(0, 0, 0)]),
  (1, 0, 6, [(0, 0, 0)]),
  (1, 0, 6, [(0, 0, 0)]),
  (1, 0, 121, [(0, 0, 0)]),
  (1, 0, 121, [(0, 0, 0)]),
  (1, 0, 121, [(0, 0, 0)]),
  (1, 0, 121, [(0, 0, 0)]),
  (1, 0, 121, [(0, 0, 0)]),
  (1, 0, 121, [(0, 0, 0)]),
  (1, 0, 12, [(0, 0, 0)]),
  (0, 6, 7, [(2, 88, 0), (2, 89, 0), (2, 90, 0), (2, 91, 0), (2, 92, 0), (0, -2147483648, 2147483647), (1, 0, 0)]),
  (1, 0, 6, [(0, 0, 0)]),
  (1, 0, 6, [(0, 0, 0)]),
  (1, 1, 6, [(0, 0, 0)]),
  (1, 0, 12, [(0, 0, 0)]),
  (1, 0, 8, [(0, 0, 0)]),
  (0, 6, 7, [(2, 94, 0), (2, 95, 0), (2, 96, 0), (2, 97, 0), (2, 98, 0), (0, -2147483648, 2147483647), (1, 0, 0)]),
  (1, 0, 6, [(0, 0, 0)]),
  (1, 0, 6, [(0, 0, 0)]),
  (1, 1, 6, [(0, 0, 0)]),
  (1, 0, 12, [(0, 0, 0)]),
  (1, 0, 8, [(0, 0, 0)]),
  (0, 6, 7, [(2, 100, 0), (2, 101, 0), (2, 102, 0), (2, 103, 0), (2, 104, 0), (0, -2147483648, 2147483647), (1, 0, 0)]),
  (1, 0, 6, [(0, 0, 0)]),
  (1, 0, 6, [(0, 0, 0)]),
  (1, 1, 6, [(0, 0, 0)]),
  (1, 0, 12, [(0, 0, 0)]),
  (1, 0, 8, [(0, 0, 0)]),
  (0, 6, 7, [(2, 106, 0), (2, 107, 0), (2, 108, 0), (2, 109, 0), (2, 110, 0), (0, -2147483648, 2147483647), (1, 0, 0)]),
  (1, 0, 6, [(0, 0, 0)]),
  (1, 0, 6, [(0, 0, 0)]),
  (1, 1, 6, [(0, 0, 0)]),
  (1, 0, 12, [(0, 0, 0)]),
  (1, 0, 8, [(0, 0, 0)]),
  (0, 6, 7, [(2, 112, 0), (2, 113, 0), (2, 114, 0), (2, 115, 0), (2, 116, 0), (0, -2147483648, 2147483647), (1, 0, 0)]),
  (1, 0, 6, [(0, 0, 0)]),
  (1, 0, 6, [(0, 0, 0)]),
  (1, 1, 6, [(0, 0, 0)]),
  (1, 0, 12, [(0, 0, 0)]),
  (1, 0, 8, [(0, 0, 0)]),
  (0, 6, 7, [(2, 118, 0), (2, 119, 0), (2, 120, 0), (2, 121, 0), (2, 122, 0), (0, -2147483648, 2147483647), (1, 0, 0)]),
  (1, 0, 6, [(0, 0, 0)]),
  (1, 0, 6, [(0, 0, 0)]),
  (1, 1, 6, [(0, 0, 0)]),
  (1, 0, 12, [(0, 0, 0)]),
  (1, 0, 8, [(0, 0, 0)]),
  (0, 6, 7, [(2, 124, 0), (2, 125, 0), (2, 126, 0), (2, 127, 0), (2, 128, 0), (0, -2147483648, 2147483647), (1, 0, 0)]),
  (1, 0, 6, [(0, 0, 0)]),
  (1, 0, 6, [(0, 0, 0)]),
  (1, 1, 6, [(0, 0, 0)]),
  (1, 0, 12, [(0, 0, 0)]),
  (1, 0, 8, [(0, 0, 0)]),
  (0, 6, 7, [(2, 130, 0), (2, 131, 0), (2, 132, 0), (2, 133, 0), (2, 134, 0), (0, -2147483648, 2147483647), (1, 0, 0)]),
  (1, 0, 6, [(0, 0, 0)]),
  (1, 0, 6, [(0, 0, 0)]),
  (1, 1, 6, [(0, 0, 0)]),
  (1, 0, 12, [(0, 0, 0)]),
  (1, 0, 8, [(0, 0, 0)]),
  (0, 6, 7, [(2, 136, 0), (2, 137, 0), (2, 138, 0), (2, 139, 0), (2, 140, 0), (0, -2147483648, 2147483647), (1, 0, 0)]),
  (1, 0, 6, [(0, 0, 0)]),
  (1, 0, 6, [(0, 0, 0)]),
  (1, 1, 6, [(0, 0, 0)]),
  (1, 0, 12, [(0, 0, 0)]),
  (1, 0, 8, [(0, 0, 0)])]
def Lz (n : Nat) : k_I := LzT.getD n (9, 0, 0, [])
section
variable {l : Launch} {D : va_G} {tys : List (ClassId × FieldType)} {A : Nat → Prop} {X : State → Prop} {cA : Nat → ClassId}
theorem nz_X7_init (hT : k_tys tys cA) : k_nw l D tys A X cA Lz mX7_init 7 df_7 1 1 12 1 160 := by
  intro Sg a h hH ca sa
  have H0 : nS cA Lz Sg h a (.inr (7, df_7)) Sg h := ⟨hH, ca, sa, fun _ _ _ => ⟨rfl, rfl⟩⟩
  refine tt_aload_n rfl (List.Mem.head _) (tX7_init_0_ok (0, .aload_n 0, 1) (List.mem_of_getElem? (i := 0) rfl)) ?_
  refine tt_objInit (wA1 37 rfl rfl) (wA1 30 rfl rfl) (wA1 31 rfl rfl) (tX7_init_0_ok (1, .invokespecial 3, 3) (List.mem_of_getElem? (i := 1) rfl)) (by decide) (Nat.le_of_ble_eq_true rfl) ?_
  refine tt_aload_n rfl (List.Mem.head _) (tX7_init_0_ok (4, .aload_n 0, 1) (List.mem_of_getElem? (i := 2) rfl)) ?_
  refine tt_sipush rfl (tX7_init_0_ok (5, .sipush 160, 3) (List.mem_of_getElem? (i := 3) rfl)) ?_
  refine n_arr (L := 10) hT H0 rfl (by decide +kernel) (by decide) rfl (by decide) rfl (by decide) (by decide) (by decide) (tX7_init_0_ok (8, .newarray .int, 2) (List.mem_of_getElem? (i := 4) rfl)) (fun b1 S2 g3 H4 s5 m6 o7 => ?_)
  refine n_put (own := 12) (ci := 7) (k := 0) [.ref b1, .int 0, .int 0, .int 0] rfl H4 rfl rfl (by decide) rfl rfl ⟨rfl, rfl⟩ (Nat.le_of_ble_eq_true rfl) (tX7_init_0_ok (10, .putfield 9, 3) (List.mem_of_getElem? (i := 5) rfl)) (fun g8 H9 f10 => ?_)
  refine tt_aload_n rfl (List.Mem.head _) (tX7_init_0_ok (13, .aload_n 0, 1) (List.mem_of_getElem? (i := 6) rfl)) ?_
  refine tt_iconst rfl (tX7_init_0_ok (14, .iconst (-1), 1) (List.mem_of_getElem? (i := 7) rfl)) ?_
  refine n_put (own := 12) (ci := 7) (k := 3) [.ref b1, .int 0, .int 0, .int (-1)] rfl H9 rfl rfl (by decide) rfl rfl ⟨rfl, rfl⟩ (Nat.le_of_ble_eq_true rfl) (tX7_init_0_ok (15, .putfield 15, 3) (List.mem_of_getElem? (i := 8) rfl)) (fun g11 H12 f13 => ?_)
  refine tt_vret rfl (H12.fin (L := 1) ?_) (by decide) (by decide) (tX7_init_0_ok (18, .return_, 1) (List.mem_of_getElem? (i := 9) rfl))
  refine Or.inl ⟨rfl, _, rfl, rfl, fun k t hk => ?_⟩
  match k, hk with
  | 0, hk => cases hk; exact ⟨_, rfl, _, rfl, sg_le.up H12.2.2.1 _ _ s5⟩
  | 1, hk => cases hk; exact ⟨_, rfl, _, rfl, by decide, by decide⟩
  | 2, hk => cases hk; exact ⟨_, rfl, _, rfl, by decide, by decide⟩
  | 3, hk => cases hk; exact ⟨_, rfl, _, rfl, by decide, by decide⟩
  | k + 4, hk => cases hk
theorem nz_X4_init (hT : k_tys tys cA) : k_nw l D tys A X cA Lz mX4_init 4 df_4 2 1 12 8 54 := by
  intro Sg a h hH ca sa
  have H0 : nS cA Lz Sg h a (.inr (4, df_4)) Sg h := ⟨hH, ca, sa, fun _ _ _ => ⟨rfl, rfl⟩⟩
  refine tt_aload_n rfl (List.Mem.head _) (tX4_init_0_ok (0, .aload_n 0, 1) (List.mem_of_getElem? (i := 0) rfl)) ?_
  refine tt_objInit (wA1 62 rfl rfl) (wA1 30 rfl rfl) (wA1 31 rfl rfl) (tX4_init_0_ok (1, .invokespecial 3, 3) (List.mem_of_getElem? (i := 1) rfl)) (by decide) (Nat.le_of_ble_eq_true rfl) ?_
  refine tt_aload_n rfl (List.Mem.head _) (tX4_init_0_ok (4, .aload_n 0, 1) (List.mem_of_getElem? (i := 2) rfl)) ?_
  refine tt_bipush rfl (tX4_init_0_ok (5, .bipush 6, 2) (List.mem_of_getElem? (i := 3) rfl)) ?_
  refine n_arr (L := 11) hT H0 rfl (by decide +kernel) (by decide) rfl (by decide) rfl (by decide) (by decide) (by decide) (tX4_init_0_ok (7, .newarray .int, 2) (List.mem_of_getElem? (i := 4) rfl)) (fun b1 S2 g3 H4 s5 m6 o7 => ?_)
  refine n_put (own := 9) (ci := 4) (k := 1) [.int 0, .ref b1, .null, .null, .null, .null, .null, .null, .null] rfl H4 rfl rfl (by decide) rfl rfl ⟨rfl, rfl⟩ (Nat.le_of_ble_eq_true rfl) (tX4_init_0_ok (9, .putfield 9, 3) (List.mem_of_getElem? (i := 5) rfl)) (fun g8 H9 f10 => ?_)
  refine tt_aload_n rfl (List.Mem.head _) (tX4_init_0_ok (12, .aload_n 0, 1) (List.mem_of_getElem? (i := 6) rfl)) ?_
  refine tt_bipush rfl (tX4_init_0_ok (13, .bipush 6, 2) (List.mem_of_getElem? (i := 7) rfl)) ?_
  refine n_arr (L := 12) hT H9 rfl (by decide +kernel) (by decide) rfl (by decide) rfl (by decide) (by decide) (by decide) (tX4_init_0_ok (15, .newarray .int, 2) (List.mem_of_getElem? (i := 8) rfl)) (fun b11 S12 g13 H14 s15 m16 o17 => ?_)
  refine n_put (own := 9) (ci := 4) (k := 2) [.int 0, .ref b1, .ref b11, .null, .null, .null, .null, .null, .null] rfl H14 rfl rfl (by decide) rfl rfl ⟨rfl, rfl⟩ (Nat.le_of_ble_eq_true rfl) (tX4_init_0_ok (17, .putfield 15, 3) (List.mem_of_getElem? (i := 9) rfl)) (fun g18 H19 f20 => ?_)
  refine tt_aload_n rfl (List.Mem.head _) (tX4_init_0_ok (20, .aload_n 0, 1) (List.mem_of_getElem? (i := 10) rfl)) ?_
  refine tt_bipush rfl (tX4_init_0_ok (21, .bipush 6, 2) (List.mem_of_getElem? (i := 11) rfl)) ?_
  refine n_arr (L := 13) hT H19 rfl (by decide +kernel) (by decide) rfl (by decide) rfl (by decide) (by decide) (by decide) (tX4_init_0_ok (23, .newarray .int, 2) (List.mem_of_getElem? (i := 12) rfl)) (fun b21 S22 g23 H24 s25 m26 o27 => ?_)
  refine n_put (own := 9) (ci := 4) (k := 3) [.int 0, .ref b1, .ref b11, .ref b21, .null, .null, .null, .null, .null] rfl H24 rfl rfl (by decide) rfl rfl ⟨rfl, rfl⟩ (Nat.le_of_ble_eq_true rfl) (tX4_init_0_ok (25, .putfield 18, 3) (List.mem_of_getElem? (i := 13) rfl)) (fun g28 H29 f30 => ?_)
  refine tt_aload_n rfl (List.Mem.head _) (tX4_init_0_ok (28, .aload_n 0, 1) (List.mem_of_getElem? (i := 14) rfl)) ?_
  refine tt_bipush rfl (tX4_init_0_ok (29, .bipush 12, 2) (List.mem_of_getElem? (i := 15) rfl)) ?_
  refine n_arr (L := 14) hT H29 rfl (by decide +kernel) (by decide) rfl (by decide) rfl (by decide) (by decide) (by decide) (tX4_init_0_ok (31, .newarray .int, 2) (List.mem_of_getElem? (i := 16) rfl)) (fun b31 S32 g33 H34 s35 m36 o37 => ?_)
  refine n_put (own := 9) (ci := 4) (k := 4) [.int 0, .ref b1, .ref b11, .ref b21, .ref b31, .null, .null, .null, .null] rfl H34 rfl rfl (by decide) rfl rfl ⟨rfl, rfl⟩ (Nat.le_of_ble_eq_true rfl) (tX4_init_0_ok (33, .putfield 21, 3) (List.mem_of_getElem? (i := 17) rfl)) (fun g38 H39 f40 => ?_)
  refine tt_aload_n rfl (List.Mem.head _) (tX4_init_0_ok (36, .aload_n 0, 1) (List.mem_of_getElem? (i := 18) rfl)) ?_
  refine tt_bipush rfl (tX4_init_0_ok (37, .bipush 6, 2) (List.mem_of_getElem? (i := 19) rfl)) ?_
  refine n_arr (L := 15) hT H39 rfl (by decide +kernel) (by decide) rfl (by decide) rfl (by decide) (by decide) (by decide) (tX4_init_0_ok (39, .newarray .int, 2) (List.mem_of_getElem? (i := 20) rfl)) (fun b41 S42 g43 H44 s45 m46 o47 => ?_)
  refine n_put (own := 9) (ci := 4) (k := 5) [.int 0, .ref b1, .ref b11, .ref b21, .ref b31, .ref b41, .null, .null, .null] rfl H44 rfl rfl (by decide) rfl rfl ⟨rfl, rfl⟩ (Nat.le_of_ble_eq_true rfl) (tX4_init_0_ok (41, .putfield 24, 3) (List.mem_of_getElem? (i := 21) rfl)) (fun g48 H49 f50 => ?_)
  refine tt_aload_n rfl (List.Mem.head _) (tX4_init_0_ok (44, .aload_n 0, 1) (List.mem_of_getElem? (i := 22) rfl)) ?_
  refine tt_bipush rfl (tX4_init_0_ok (45, .bipush 6, 2) (List.mem_of_getElem? (i := 23) rfl)) ?_
  refine n_arr (L := 16) hT H49 rfl (by decide +kernel) (by decide) rfl (by decide) rfl (by decide) (by decide) (by decide) (tX4_init_0_ok (47, .newarray .int, 2) (List.mem_of_getElem? (i := 24) rfl)) (fun b51 S52 g53 H54 s55 m56 o57 => ?_)
  refine n_put (own := 9) (ci := 4) (k := 6) [.int 0, .ref b1, .ref b11, .ref b21, .ref b31, .ref b41, .ref b51, .null, .null] rfl H54 rfl rfl (by decide) rfl rfl ⟨rfl, rfl⟩ (Nat.le_of_ble_eq_true rfl) (tX4_init_0_ok (49, .putfield 27, 3) (List.mem_of_getElem? (i := 25) rfl)) (fun g58 H59 f60 => ?_)
  refine tt_aload_n rfl (List.Mem.head _) (tX4_init_0_ok (52, .aload_n 0, 1) (List.mem_of_getElem? (i := 26) rfl)) ?_
  refine tt_bipush rfl (tX4_init_0_ok (53, .bipush 6, 2) (List.mem_of_getElem? (i := 27) rfl)) ?_
  refine n_arr (L := 17) hT H59 rfl (by decide +kernel) (by decide) rfl (by decide) rfl (by decide) (by decide) (by decide) (tX4_init_0_ok (55, .newarray .int, 2) (List.mem_of_getElem? (i := 28) rfl)) (fun b61 S62 g63 H64 s65 m66 o67 => ?_)
  refine n_put (own := 9) (ci := 4) (k := 7) [.int 0, .ref b1, .ref b11, .ref b21, .ref b31, .ref b41, .ref b51, .ref b61, .null] rfl H64 rfl rfl (by decide) rfl rfl ⟨rfl, rfl⟩ (Nat.le_of_ble_eq_true rfl) (tX4_init_0_ok (57, .putfield 30, 3) (List.mem_of_getElem? (i := 29) rfl)) (fun g68 H69 f70 => ?_)
  refine tt_aload_n rfl (List.Mem.head _) (tX4_init_0_ok (60, .aload_n 0, 1) (List.mem_of_getElem? (i := 30) rfl)) ?_
  refine tt_bipush rfl (tX4_init_0_ok (61, .bipush 6, 2) (List.mem_of_getElem? (i := 31) rfl)) ?_
  refine n_arr (L := 18) hT H69 rfl (by decide +kernel) (by decide) rfl (by decide) rfl (by decide) (by decide) (by decide) (tX4_init_0_ok (63, .newarray .int, 2) (List.mem_of_getElem? (i := 32) rfl)) (fun b71 S72 g73 H74 s75 m76 o77 => ?_)
  refine n_put (own := 9) (ci := 4) (k := 8) [.int 0, .ref b1, .ref b11, .ref b21, .ref b31, .ref b41, .ref b51, .ref b61, .ref b71] rfl H74 rfl rfl (by decide) rfl rfl ⟨rfl, rfl⟩ (Nat.le_of_ble_eq_true rfl) (tX4_init_0_ok (65, .putfield 33, 3) (List.mem_of_getElem? (i := 33) rfl)) (fun g78 H79 f80 => ?_)
  refine tt_vret rfl (H79.fin (L := 2) ?_) (by decide) (by decide) (tX4_init_0_ok (68, .return_, 1) (List.mem_of_getElem? (i := 34) rfl))
  refine Or.inl ⟨rfl, _, rfl, rfl, fun k t hk => ?_⟩
  match k, hk with
  | 0, hk => cases hk; exact ⟨_, rfl, _, rfl, by decide, by decide⟩
  | 1, hk => cases hk; exact ⟨_, rfl, _, rfl, sg_le.up H79.2.2.1 _ _ (m76 _ _ (m66 _ _ (m56 _ _ (m46 _ _ (m36 _ _ (m26 _ _ (m16 _ _ s5)))))))⟩
  | 2, hk => cases hk; exact ⟨_, rfl, _, rfl, sg_le.up H79.2.2.1 _ _ (m76 _ _ (m66 _ _ (m56 _ _ (m46 _ _ (m36 _ _ (m26 _ _ s15))))))⟩
  | 3, hk => cases hk; exact ⟨_, rfl, _, rfl, sg_le.up H79.2.2.1 _ _ (m76 _ _ (m66 _ _ (m56 _ _ (m46 _ _ (m36 _ _ s25)))))⟩
  | 4, hk => cases hk; exact ⟨_, rfl, _, rfl, sg_le.up H79.2.2.1 _ _ (m76 _ _ (m66 _ _ (m56 _ _ (m46 _ _ s35))))⟩
  | 5, hk => cases hk; exact ⟨_, rfl, _, rfl, sg_le.up H79.2.2.1 _ _ (m76 _ _ (m66 _ _ (m56 _ _ s45)))⟩
  | 6, hk => cases hk; exact ⟨_, rfl, _, rfl, sg_le.up H79.2.2.1 _ _ (m76 _ _ (m66 _ _ s55))⟩
  | 7, hk => cases hk; exact ⟨_, rfl, _, rfl, sg_le.up H79.2.2.1 _ _ (m76 _ _ s65)⟩
  | 8, hk => cases hk; exact ⟨_, rfl, _, rfl, sg_le.up H79.2.2.1 _ _ s75⟩
  | k + 9, hk => cases hk
theorem nz_X4b_init (hT : k_tys tys cA) : k_nw l D tys A X cA Lz mX4_init 4 df_4 71 1 12 8 54 := by
  intro Sg a h hH ca sa
  have H0 : nS cA Lz Sg h a (.inr (4, df_4)) Sg h := ⟨hH, ca, sa, fun _ _ _ => ⟨rfl, rfl⟩⟩
  refine tt_aload_n rfl (List.Mem.head _) (tX4_init_0_ok (0, .aload_n 0, 1) (List.mem_of_getElem? (i := 0) rfl)) ?_
  refine tt_objInit (wA1 62 rfl rfl) (wA1 30 rfl rfl) (wA1 31 rfl rfl) (tX4_init_0_ok (1, .invokespecial 3, 3) (List.mem_of_getElem? (i := 1) rfl)) (by decide) (Nat.le_of_ble_eq_true rfl) ?_
  refine tt_aload_n rfl (List.Mem.head _) (tX4_init_0_ok (4, .aload_n 0, 1) (List.mem_of_getElem? (i := 2) rfl)) ?_
  refine tt_bipush rfl (tX4_init_0_ok (5, .bipush 6, 2) (List.mem_of_getElem? (i := 3) rfl)) ?_
  refine n_arr (L := 72) hT H0 rfl (by decide +kernel) (by decide) rfl (by decide) rfl (by decide) (by decide) (by decide) (tX4_init_0_ok (7, .newarray .int, 2) (List.mem_of_getElem? (i := 4) rfl)) (fun b1 S2 g3 H4 s5 m6 o7 => ?_)
  refine n_put (own := 9) (ci := 4) (k := 1) [.int 0, .ref b1, .null, .null, .null, .null, .null, .null, .null] rfl H4 rfl rfl (by decide) rfl rfl ⟨rfl, rfl⟩ (Nat.le_of_ble_eq_true rfl) (tX4_init_0_ok (9, .putfield 9, 3) (List.mem_of_getElem? (i := 5) rfl)) (fun g8 H9 f10 => ?_)
  refine tt_aload_n rfl (List.Mem.head _) (tX4_init_0_ok (12, .aload_n 0, 1) (List.mem_of_getElem? (i := 6) rfl)) ?_
  refine tt_bipush rfl (tX4_init_0_ok (13, .bipush 6, 2) (List.mem_of_getElem? (i := 7) rfl)) ?_
  refine n_arr (L := 73) hT H9 rfl (by decide +kernel) (by decide) rfl (by decide) rfl (by decide) (by decide) (by decide) (tX4_init_0_ok (15, .newarray .int, 2) (List.mem_of_getElem? (i := 8) rfl)) (fun b11 S12 g13 H14 s15 m16 o17 => ?_)
  refine n_put (own := 9) (ci := 4) (k := 2) [.int 0, .ref b1, .ref b11, .null, .null, .null, .null, .null, .null] rfl H14 rfl rfl (by decide) rfl rfl ⟨rfl, rfl⟩ (Nat.le_of_ble_eq_true rfl) (tX4_init_0_ok (17, .putfield 15, 3) (List.mem_of_getElem? (i := 9) rfl)) (fun g18 H19 f20 => ?_)
  refine tt_aload_n rfl (List.Mem.head _) (tX4_init_0_ok (20, .aload_n 0, 1) (List.mem_of_getElem? (i := 10) rfl)) ?_
  refine tt_bipush rfl (tX4_init_0_ok (21, .bipush 6, 2) (List.mem_of_getElem? (i := 11) rfl)) ?_
  refine n_arr (L := 74) hT H19 rfl (by decide +kernel) (by decide) rfl (by decide) rfl (by decide) (by decide) (by decide) (tX4_init_0_ok (23, .newarray .int, 2) (List.mem_of_getElem? (i := 12) rfl)) (fun b21 S22 g23 H24 s25 m26 o27 => ?_)
  refine n_put (own := 9) (ci := 4) (k := 3) [.int 0, .ref b1, .ref b11, .ref b21, .null, .null, .null, .null, .null] rfl H24 rfl rfl (by decide) rfl rfl ⟨rfl, rfl⟩ (Nat.le_of_ble_eq_true rfl) (tX4_init_0_ok (25, .putfield 18, 3) (List.mem_of_getElem? (i := 13) rfl)) (fun g28 H29 f30 => ?_)
  refine tt_aload_n rfl (List.Mem.head _) (tX4_init_0_ok (28, .aload_n 0, 1) (List.mem_of_getElem? (i := 14) rfl)) ?_
  refine tt_bipush rfl (tX4_init_0_ok (29, .bipush 12, 2) (List.mem_of_getElem? (i := 15) rfl)) ?_
  refine n_arr (L := 75) hT H29 rfl (by decide +kernel) (by decide) rfl (by decide) rfl (by decide) (by decide) (by decide) (tX4_init_0_ok (31, .newarray .int, 2) (List.mem_of_getElem? (i := 16) rfl)) (fun b31 S32 g33 H34 s35 m36 o37 => ?_)
  refine n_put (own := 9) (ci := 4) (k := 4) [.int 0, .ref b1, .ref b11, .ref b21, .ref b31, .null, .null, .null, .null] rfl H34 rfl rfl (by decide) rfl rfl ⟨rfl, rfl⟩ (Nat.le_of_ble_eq_true rfl) (tX4_init_0_ok (33, .putfield 21, 3) (List.mem_of_getElem? (i := 17) rfl)) (fun g38 H39 f40 => ?_)
  refine tt_aload_n rfl (List.Mem.head _) (tX4_init_0_ok (36, .aload_n 0, 1) (List.mem_of_getElem? (i := 18) rfl)) ?_
  refine tt_bipush rfl (tX4_init_0_ok (37, .bipush 6, 2) (List.mem_of_getElem? (i := 19) rfl)) ?_
  refine n_arr (L := 76) hT H39 rfl (by decide +kernel) (by decide) rfl (by decide) rfl (by decide) (by decide) (by decide) (tX4_init_0_ok (39, .newarray .int, 2) (List.mem_of_getElem? (i := 20) rfl)) (fun b41 S42 g43 H44 s45 m46 o47 => ?_)
  refine n_put (own := 9) (ci := 4) (k := 5) [.int 0, .ref b1, .ref b11, .ref b21, .ref b31, .ref b41, .null, .null, .null] rfl H44 rfl rfl (by decide) rfl rfl ⟨rfl, rfl⟩ (Nat.le_of_ble_eq_true rfl) (tX4_init_0_ok (41, .putfield 24, 3) (List.mem_of_getElem? (i := 21) rfl)) (fun g48 H49 f50 => ?_)
  refine tt_aload_n rfl (List.Mem.head _) (tX4_init_0_ok (44, .aload_n 0, 1) (List.mem_of_getElem? (i := 22) rfl)) ?_
  refine tt_bipush rfl (tX4_init_0_ok (45, .bipush 6, 2) (List.mem_of_getElem? (i := 23) rfl)) ?_
  refine n_arr (L := 77) hT H49 rfl (by decide +kernel) (by decide) rfl (by decide) rfl (by decide) (by decide) (by decide) (tX4_init_0_ok (47, .newarray .int, 2) (List.mem_of_getElem? (i := 24) rfl)) (fun b51 S52 g53 H54 s55 m56 o57 => ?_)
  refine n_put (own := 9) (ci := 4) (k := 6) [.int 0, .ref b1, .ref b11, .ref b21, .ref b31, .ref b41, .ref b51, .null, .null] rfl H54 rfl rfl (by decide) rfl rfl ⟨rfl, rfl⟩ (Nat.le_of_ble_eq_true rfl) (tX4_init_0_ok (49, .putfield 27, 3) (List.mem_of_getElem? (i := 25) rfl)) (fun g58 H59 f60 => ?_)
  refine tt_aload_n rfl (List.Mem.head _) (tX4_init_0_ok (52, .aload_n 0, 1) (List.mem_of_getElem? (i := 26) rfl)) ?_
  refine tt_bipush rfl (tX4_init_0_ok (53, .bipush 6, 2) (List.mem_of_getElem? (i := 27) rfl)) ?_
  refine n_arr (L := 78) hT H59 rfl (by decide +kernel) (by decide) rfl (by decide) rfl (by decide) (by decide) (by decide) (tX4_init_0_ok (55, .newarray .int, 2) (List.mem_of_getElem? (i := 28) rfl)) (fun b61 S62 g63 H64 s65 m66 o67 => ?_)
  refine n_put (own := 9) (ci := 4) (k := 7) [.int 0, .ref b1, .ref b11, .ref b21, .ref b31, .ref b41, .ref b51, .ref b61, .null] rfl H64 rfl rfl (by decide) rfl rfl ⟨rfl, rfl⟩ (Nat.le_of_ble_eq_true rfl) (tX4_init_0_ok (57, .putfield 30, 3) (List.mem_of_getElem? (i := 29) rfl)) (fun g68 H69 f70 => ?_)
  refine tt_aload_n rfl (List.Mem.head _) (tX4_init_0_ok (60, .aload_n 0, 1) (List.mem_of_getElem? (i := 30) rfl)) ?_
  refine tt_bipush rfl (tX4_init_0_ok (61, .bipush 6, 2) (List.mem_of_getElem? (i := 31) rfl)) ?_
  refine n_arr (L := 79) hT H69 rfl (by decide +kernel) (by decide) rfl (by decide) rfl (by decide) (by decide) (by decide) (tX4_init_0_ok (63, .newarray .int, 2) (List.mem_of_getElem? (i := 32) rfl)) (fun b71 S72 g73 H74 s75 m76 o77 => ?_)
  refine n_put (own := 9) (ci := 4) (k := 8) [.int 0, .ref b1, .ref b11, .ref b21, .ref b31, .ref b41, .ref b51, .ref b61, .ref b71] rfl H74 rfl rfl (by decide) rfl rfl ⟨rfl, rfl⟩ (Nat.le_of_ble_eq_true rfl) (tX4_init_0_ok (65, .putfield 33, 3) (List.mem_of_getElem? (i := 33) rfl)) (fun g78 H79 f80 => ?_)
  refine tt_vret rfl (H79.fin (L := 71) ?_) (by decide) (by decide) (tX4_init_0_ok (68, .return_, 1) (List.mem_of_getElem? (i := 34) rfl))
  refine Or.inl ⟨rfl, _, rfl, rfl, fun k t hk => ?_⟩
  match k, hk with
  | 0, hk => cases hk; exact ⟨_, rfl, _, rfl, by decide, by decide⟩
  | 1, hk => cases hk; exact ⟨_, rfl, _, rfl, sg_le.up H79.2.2.1 _ _ (m76 _ _ (m66 _ _ (m56 _ _ (m46 _ _ (m36 _ _ (m26 _ _ (m16 _ _ s5)))))))⟩
  | 2, hk => cases hk; exact ⟨_, rfl, _, rfl, sg_le.up H79.2.2.1 _ _ (m76 _ _ (m66 _ _ (m56 _ _ (m46 _ _ (m36 _ _ (m26 _ _ s15))))))⟩
  | 3, hk => cases hk; exact ⟨_, rfl, _, rfl, sg_le.up H79.2.2.1 _ _ (m76 _ _ (m66 _ _ (m56 _ _ (m46 _ _ (m36 _ _ s25)))))⟩
  | 4, hk => cases hk; exact ⟨_, rfl, _, rfl, sg_le.up H79.2.2.1 _ _ (m76 _ _ (m66 _ _ (m56 _ _ (m46 _ _ s35))))⟩
  | 5, hk => cases hk; exact ⟨_, rfl, _, rfl, sg_le.up H79.2.2.1 _ _ (m76 _ _ (m66 _ _ (m56 _ _ s45)))⟩
  | 6, hk => cases hk; exact ⟨_, rfl, _, rfl, sg_le.up H79.2.2.1 _ _ (m76 _ _ (m66 _ _ s55))⟩
  | 7, hk => cases hk; exact ⟨_, rfl, _, rfl, sg_le.up H79.2.2.1 _ _ (m76 _ _ s65)⟩
  | 8, hk => cases hk; exact ⟨_, rfl, _, rfl, sg_le.up H79.2.2.1 _ _ s75⟩
  | k + 9, hk => cases hk
theorem nz_X6_init (hT : k_tys tys cA) : k_nw l D tys A X cA Lz mX6_init 6 df_6 3 1 12 5 38 := by
  intro Sg a h hH ca sa
  have H0 : nS cA Lz Sg h a (.inr (6, df_6)) Sg h := ⟨hH, ca, sa, fun _ _ _ => ⟨rfl, rfl⟩⟩
  refine tt_aload_n rfl (List.Mem.head _) (tX6_init_0_ok (0, .aload_n 0, 1) (List.mem_of_getElem? (i := 0) rfl)) ?_
  refine tt_objInit (wA1 120 rfl rfl) (wA1 30 rfl rfl) (wA1 31 rfl rfl) (tX6_init_0_ok (1, .invokespecial 3, 3) (List.mem_of_getElem? (i := 1) rfl)) (by decide) (Nat.le_of_ble_eq_true rfl) ?_
  refine tt_aload_n rfl (List.Mem.head _) (tX6_init_0_ok (4, .aload_n 0, 1) (List.mem_of_getElem? (i := 2) rfl)) ?_
  refine tt_bipush rfl (tX6_init_0_ok (5, .bipush 6, 2) (List.mem_of_getElem? (i := 3) rfl)) ?_
  refine n_arr (L := 19) hT H0 rfl (by decide +kernel) (by decide) rfl (by decide) rfl (by decide) (by decide) (by decide) (tX6_init_0_ok (7, .newarray .int, 2) (List.mem_of_getElem? (i := 4) rfl)) (fun b1 S2 g3 H4 s5 m6 o7 => ?_)
  refine n_put (own := 11) (ci := 6) (k := 0) [.ref b1, .null, .null, .null, .null, .int 0, .long 0] rfl H4 rfl rfl (by decide) rfl rfl ⟨rfl, rfl⟩ (Nat.le_of_ble_eq_true rfl) (tX6_init_0_ok (9, .putfield 9, 3) (List.mem_of_getElem? (i := 5) rfl)) (fun g8 H9 f10 => ?_)
  refine tt_aload_n rfl (List.Mem.head _) (tX6_init_0_ok (12, .aload_n 0, 1) (List.mem_of_getElem? (i := 6) rfl)) ?_
  refine tt_bipush rfl (tX6_init_0_ok (13, .bipush 6, 2) (List.mem_of_getElem? (i := 7) rfl)) ?_
  refine n_arr (L := 20) hT H9 rfl (by decide +kernel) (by decide) rfl (by decide) rfl (by decide) (by decide) (by decide) (tX6_init_0_ok (15, .newarray .int, 2) (List.mem_of_getElem? (i := 8) rfl)) (fun b11 S12 g13 H14 s15 m16 o17 => ?_)
  refine n_put (own := 11) (ci := 6) (k := 1) [.ref b1, .ref b11, .null, .null, .null, .int 0, .long 0] rfl H14 rfl rfl (by decide) rfl rfl ⟨rfl, rfl⟩ (Nat.le_of_ble_eq_true rfl) (tX6_init_0_ok (17, .putfield 15, 3) (List.mem_of_getElem? (i := 9) rfl)) (fun g18 H19 f20 => ?_)
  refine tt_aload_n rfl (List.Mem.head _) (tX6_init_0_ok (20, .aload_n 0, 1) (List.mem_of_getElem? (i := 10) rfl)) ?_
  refine tt_bipush rfl (tX6_init_0_ok (21, .bipush 6, 2) (List.mem_of_getElem? (i := 11) rfl)) ?_
  refine n_arr (L := 21) hT H19 rfl (by decide +kernel) (by decide) rfl (by decide) rfl (by decide) (by decide) (by decide) (tX6_init_0_ok (23, .newarray .boolean, 2) (List.mem_of_getElem? (i := 12) rfl)) (fun b21 S22 g23 H24 s25 m26 o27 => ?_)
  refine n_put (own := 11) (ci := 6) (k := 2) [.ref b1, .ref b11, .ref b21, .null, .null, .int 0, .long 0] rfl H24 rfl rfl (by decide) rfl rfl ⟨rfl, rfl⟩ (Nat.le_of_ble_eq_true rfl) (tX6_init_0_ok (25, .putfield 18, 3) (List.mem_of_getElem? (i := 13) rfl)) (fun g28 H29 f30 => ?_)
  refine tt_aload_n rfl (List.Mem.head _) (tX6_init_0_ok (28, .aload_n 0, 1) (List.mem_of_getElem? (i := 14) rfl)) ?_
  refine tt_bipush rfl (tX6_init_0_ok (29, .bipush 12, 2) (List.mem_of_getElem? (i := 15) rfl)) ?_
  refine n_arr (L := 22) hT H29 rfl (by decide +kernel) (by decide) rfl (by decide) rfl (by decide) (by decide) (by decide) (tX6_init_0_ok (31, .newarray .int, 2) (List.mem_of_getElem? (i := 16) rfl)) (fun b31 S32 g33 H34 s35 m36 o37 => ?_)
  refine n_put (own := 11) (ci := 6) (k := 3) [.ref b1, .ref b11, .ref b21, .ref b31, .null, .int 0, .long 0] rfl H34 rfl rfl (by decide) rfl rfl ⟨rfl, rfl⟩ (Nat.le_of_ble_eq_true rfl) (tX6_init_0_ok (33, .putfield 22, 3) (List.mem_of_getElem? (i := 17) rfl)) (fun g38 H39 f40 => ?_)
  refine tt_aload_n rfl (List.Mem.head _) (tX6_init_0_ok (36, .aload_n 0, 1) (List.mem_of_getElem? (i := 18) rfl)) ?_
  refine tt_bipush rfl (tX6_init_0_ok (37, .bipush 8, 2) (List.mem_of_getElem? (i := 19) rfl)) ?_
  refine n_arr (L := 23) hT H39 rfl (by decide +kernel) (by decide) rfl (by decide) rfl (by decide) (by decide) (by decide) (tX6_init_0_ok (39, .newarray .int, 2) (List.mem_of_getElem? (i := 20) rfl)) (fun b41 S42 g43 H44 s45 m46 o47 => ?_)
  refine n_put (own := 11) (ci := 6) (k := 4) [.ref b1, .ref b11, .ref b21, .ref b31, .ref b41, .int 0, .long 0] rfl H44 rfl rfl (by decide) rfl rfl ⟨rfl, rfl⟩ (Nat.le_of_ble_eq_true rfl) (tX6_init_0_ok (41, .putfield 25, 3) (List.mem_of_getElem? (i := 21) rfl)) (fun g48 H49 f50 => ?_)
  refine tt_vret rfl (H49.fin (L := 3) ?_) (by decide) (by decide) (tX6_init_0_ok (44, .return_, 1) (List.mem_of_getElem? (i := 22) rfl))
  refine Or.inl ⟨rfl, _, rfl, rfl, fun k t hk => ?_⟩
  match k, hk with
  | 0, hk => cases hk; exact ⟨_, rfl, _, rfl, sg_le.up H49.2.2.1 _ _ (m46 _ _ (m36 _ _ (m26 _ _ (m16 _ _ s5))))⟩
  | 1, hk => cases hk; exact ⟨_, rfl, _, rfl, sg_le.up H49.2.2.1 _ _ (m46 _ _ (m36 _ _ (m26 _ _ s15)))⟩
  | 2, hk => cases hk; exact ⟨_, rfl, _, rfl, sg_le.up H49.2.2.1 _ _ (m46 _ _ (m36 _ _ s25))⟩
  | 3, hk => cases hk; exact ⟨_, rfl, _, rfl, sg_le.up H49.2.2.1 _ _ (m46 _ _ s35)⟩
  | 4, hk => cases hk; exact ⟨_, rfl, _, rfl, sg_le.up H49.2.2.1 _ _ s45⟩
  | 5, hk => cases hk; exact ⟨_, rfl, _, rfl, by decide, by decide⟩
  | 6, hk => cases hk; exact ⟨_, rfl, _, rfl⟩
  | k + 7, hk => cases hk
theorem nz_X6s1_init (hT : k_tys tys cA) : k_nw l D tys A X cA Lz mX6_init 6 df_6 87 1 12 5 38 := by
  intro Sg a h hH ca sa
  have H0 : nS cA Lz Sg h a (.inr (6, df_6)) Sg h := ⟨hH, ca, sa, fun _ _ _ => ⟨rfl, rfl⟩⟩
  refine tt_aload_n rfl (List.Mem.head _) (tX6_init_0_ok (0, .aload_n 0, 1) (List.mem_of_getElem? (i := 0) rfl)) ?_
  refine tt_objInit (wA1 120 rfl rfl) (wA1 30 rfl rfl) (wA1 31 rfl rfl) (tX6_init_0_ok (1, .invokespecial 3, 3) (List.mem_of_getElem? (i := 1) rfl)) (by decide) (Nat.le_of_ble_eq_true rfl) ?_
  refine tt_aload_n rfl (List.Mem.head _) (tX6_init_0_ok (4, .aload_n 0, 1) (List.mem_of_getElem? (i := 2) rfl)) ?_
  refine tt_bipush rfl (tX6_init_0_ok (5, .bipush 6, 2) (List.mem_of_getElem? (i := 3) rfl)) ?_
  refine n_arr (L := 88) hT H0 rfl (by decide +kernel) (by decide) rfl (by decide) rfl (by decide) (by decide) (by decide) (tX6_init_0_ok (7, .newarray .int, 2) (List.mem_of_getElem? (i := 4) rfl)) (fun b1 S2 g3 H4 s5 m6 o7 => ?_)
  refine n_put (own := 11) (ci := 6) (k := 0) [.ref b1, .null, .null, .null, .null, .int 0, .long 0] rfl H4 rfl rfl (by decide) rfl rfl ⟨rfl, rfl⟩ (Nat.le_of_ble_eq_true rfl) (tX6_init_0_ok (9, .putfield 9, 3) (List.mem_of_getElem? (i := 5) rfl)) (fun g8 H9 f10 => ?_)
  refine tt_aload_n rfl (List.Mem.head _) (tX6_init_0_ok (12, .aload_n 0, 1) (List.mem_of_getElem? (i := 6) rfl)) ?_
  refine tt_bipush rfl (tX6_init_0_ok (13, .bipush 6, 2) (List.mem_of_getElem? (i := 7) rfl)) ?_
  refine n_arr (L := 89) hT H9 rfl (by decide +kernel) (by decide) rfl (by decide) rfl (by decide) (by decide) (by decide) (tX6_init_0_ok (15, .newarray .int, 2) (List.mem_of_getElem? (i := 8) rfl)) (fun b11 S12 g13 H14 s15 m16 o17 => ?_)
  refine n_put (own := 11) (ci := 6) (k := 1) [.ref b1, .ref b11, .null, .null, .null, .int 0, .long 0] rfl H14 rfl rfl (by decide) rfl rfl ⟨rfl, rfl⟩ (Nat.le_of_ble_eq_true rfl) (tX6_init_0_ok (17, .putfield 15, 3) (List.mem_of_getElem? (i := 9) rfl)) (fun g18 H19 f20 => ?_)
  refine tt_aload_n rfl (List.Mem.head _) (tX6_init_0_ok (20, .aload_n 0, 1) (List.mem_of_getElem? (i := 10) rfl)) ?_
  refine tt_bipush rfl (tX6_init_0_ok (21, .bipush 6, 2) (List.mem_of_getElem? (i := 11) rfl)) ?_
  refine n_arr (L := 90) hT H19 rfl (by decide +kernel) (by decide) rfl (by decide) rfl (by decide) (by decide) (by decide) (tX6_init_0_ok (23, .newarray .boolean, 2) (List.mem_of_getElem? (i := 12) rfl)) (fun b21 S22 g23 H24 s25 m26 o27 => ?_)
  refine n_put (own := 11) (ci := 6) (k := 2) [.ref b1, .ref b11, .ref b21, .null, .null, .int 0, .long 0] rfl H24 rfl rfl (by decide) rfl rfl ⟨rfl, rfl⟩ (Nat.le_of_ble_eq_true rfl) (tX6_init_0_ok (25, .putfield 18, 3) (List.mem_of_getElem? (i := 13) rfl)) (fun g28 H29 f30 => ?_)
  refine tt_aload_n rfl (List.Mem.head _) (tX6_init_0_ok (28, .aload_n 0, 1) (List.mem_of_getElem? (i := 14) rfl)) ?_
  refine tt_bipush rfl (tX6_init_0_ok (29, .bipush 12, 2) (List.mem_of_getElem? (i := 15) rfl)) ?_
  refine n_arr (L := 91) hT H29 rfl (by decide +kernel) (by decide) rfl (by decide) rfl (by decide) (by decide) (by decide) (tX6_init_0_ok (31, .newarray .int, 2) (List.mem_of_getElem? (i := 16) rfl)) (fun b31 S32 g33 H34 s35 m36 o37 => ?_)
  refine n_put (own := 11) (ci := 6) (k := 3) [.ref b1, .ref b11, .ref b21, .ref b31, .null, .int 0, .long 0] rfl H34 rfl rfl (by decide) rfl rfl ⟨rfl, rfl⟩ (Nat.le_of_ble_eq_true rfl) (tX6_init_0_ok (33, .putfield 22, 3) (List.mem_of_getElem? (i := 17) rfl)) (fun g38 H39 f40 => ?_)
  refine tt_aload_n rfl (List.Mem.head _) (tX6_init_0_ok (36, .aload_n 0, 1) (List.mem_of_getElem? (i := 18) rfl)) ?_
  refine tt_bipush rfl (tX6_init_0_ok (37, .bipush 8, 2) (List.mem_of_getElem? (i := 19) rfl)) ?_
  refine n_arr (L := 92) hT H39 rfl (by decide +kernel) (by decide) rfl (by decide) rfl (by decide) (by decide) (by decide) (tX6_init_0_ok (39, .newarray .int, 2) (List.mem_of_getElem? (i := 20) rfl)) (fun b41 S42 g43 H44 s45 m46 o47 => ?_)
  refine n_put (own := 11) (ci := 6) (k := 4) [.ref b1, .ref b11, .ref b21, .ref b31, .ref b41, .int 0, .long 0] rfl H44 rfl rfl (by decide) rfl rfl ⟨rfl, rfl⟩ (Nat.le_of_ble_eq_true rfl) (tX6_init_0_ok (41, .putfield 25, 3) (List.mem_of_getElem? (i := 21) rfl)) (fun g48 H49 f50 => ?_)
  refine tt_vret rfl (H49.fin (L := 87) ?_) (by decide) (by decide) (tX6_init_0_ok (44, .return_, 1) (List.mem_of_getElem? (i := 22) rfl))
  refine Or.inl ⟨rfl, _, rfl, rfl, fun k t hk => ?_⟩
  match k, hk with
  | 0, hk => cases hk; exact ⟨_, rfl, _, rfl, sg_le.up H49.2.2.1 _ _ (m46 _ _ (m36 _ _ (m26 _ _ (m16 _ _ s5))))⟩
  | 1, hk => cases hk; exact ⟨_, rfl, _, rfl, sg_le.up H49.2.2.1 _ _ (m46 _ _ (m36 _ _ (m26 _ _ s15)))⟩
  | 2, hk => cases hk; exact ⟨_, rfl, _, rfl, sg_le.up H49.2.2.1 _ _ (m46 _ _ (m36 _ _ s25))⟩
  | 3, hk => cases hk; exact ⟨_, rfl, _, rfl, sg_le.up H49.2.2.1 _ _ (m46 _ _ s35)⟩
  | 4, hk => cases hk; exact ⟨_, rfl, _, rfl, sg_le.up H49.2.2.1 _ _ s45⟩
  | 5, hk => cases hk; exact ⟨_, rfl, _, rfl, by decide, by decide⟩
  | 6, hk => cases hk; exact ⟨_, rfl, _, rfl⟩
  | k + 7, hk => cases hk
theorem nz_X6s2_init (hT : k_tys tys cA) : k_nw l D tys A X cA Lz mX6_init 6 df_6 93 1 12 5 38 := by
  intro Sg a h hH ca sa
  have H0 : nS cA Lz Sg h a (.inr (6, df_6)) Sg h := ⟨hH, ca, sa, fun _ _ _ => ⟨rfl, rfl⟩⟩
  refine tt_aload_n rfl (List.Mem.head _) (tX6_init_0_ok (0, .aload_n 0, 1) (List.mem_of_getElem? (i := 0) rfl)) ?_
  refine tt_objInit (wA1 120 rfl rfl) (wA1 30 rfl rfl) (wA1 31 rfl rfl) (tX6_init_0_ok (1, .invokespecial 3, 3) (List.mem_of_getElem? (i := 1) rfl)) (by decide) (Nat.le_of_ble_eq_true rfl) ?_
  refine tt_aload_n rfl (List.Mem.head _) (tX6_init_0_ok (4, .aload_n 0, 1) (List.mem_of_getElem? (i := 2) rfl)) ?_
  refine tt_bipush rfl (tX6_init_0_ok (5, .bipush 6, 2) (List.mem_of_getElem? (i := 3) rfl)) ?_
  refine n_arr (L := 94) hT H0 rfl (by decide +kernel) (by decide) rfl (by decide) rfl (by decide) (by decide) (by decide) (tX6_init_0_ok (7, .newarray .int, 2) (List.mem_of_getElem? (i := 4) rfl)) (fun b1 S2 g3 H4 s5 m6 o7 => ?_)
  refine n_put (own := 11) (ci := 6) (k := 0) [.ref b1, .null, .null, .null, .null, .int 0, .long 0] rfl H4 rfl rfl (by decide) rfl rfl ⟨rfl, rfl⟩ (Nat.le_of_ble_eq_true rfl) (tX6_init_0_ok (9, .putfield 9, 3) (List.mem_of_getElem? (i := 5) rfl)) (fun g8 H9 f10 => ?_)
  refine tt_aload_n rfl (List.Mem.head _) (tX6_init_0_ok (12, .aload_n 0, 1) (List.mem_of_getElem? (i := 6) rfl)) ?_
  refine tt_bipush rfl (tX6_init_0_ok (13, .bipush 6, 2) (List.mem_of_getElem? (i := 7) rfl)) ?_
  refine n_arr (L := 95) hT H9 rfl (by decide +kernel) (by decide) rfl (by decide) rfl (by decide) (by decide) (by decide) (tX6_init_0_ok (15, .newarray .int, 2) (List.mem_of_getElem? (i := 8) rfl)) (fun b11 S12 g13 H14 s15 m16 o17 => ?_)
  refine n_put (own := 11) (ci := 6) (k := 1) [.ref b1, .ref b11, .null, .null, .null, .int 0, .long 0] rfl H14 rfl rfl (by decide) rfl rfl ⟨rfl, rfl⟩ (Nat.le_of_ble_eq_true rfl) (tX6_init_0_ok (17, .putfield 15, 3) (List.mem_of_getElem? (i := 9) rfl)) (fun g18 H19 f20 => ?_)
  refine tt_aload_n rfl (List.Mem.head _) (tX6_init_0_ok (20, .aload_n 0, 1) (List.mem_of_getElem? (i := 10) rfl)) ?_
  refine tt_bipush rfl (tX6_init_0_ok (21, .bipush 6, 2) (List.mem_of_getElem? (i := 11) rfl)) ?_
  refine n_arr (L := 96) hT H19 rfl (by decide +kernel) (by decide) rfl (by decide) rfl (by decide) (by decide) (by decide) (tX6_init_0_ok (23, .newarray .boolean, 2) (List.mem_of_getElem? (i := 12) rfl)) (fun b21 S22 g23 H24 s25 m26 o27 => ?_)
  refine n_put (own := 11) (ci := 6) (k := 2) [.ref b1, .ref b11, .ref b21, .null, .null, .int 0, .long 0] rfl H24 rfl rfl (by decide) rfl rfl ⟨rfl, rfl⟩ (Nat.le_of_ble_eq_true rfl) (tX6_init_0_ok (25, .putfield 18, 3) (List.mem_of_getElem? (i := 13) rfl)) (fun g28 H29 f30 => ?_)
  refine tt_aload_n rfl (List.Mem.head _) (tX6_init_0_ok (28, .aload_n 0, 1) (List.mem_of_getElem? (i := 14) rfl)) ?_
  refine tt_bipush rfl (tX6_init_0_ok (29, .bipush 12, 2) (List.mem_of_getElem? (i := 15) rfl)) ?_
  refine n_arr (L := 97) hT H29 rfl (by decide +kernel) (by decide) rfl (by decide) rfl (by decide) (by decide) (by decide) (tX6_init_0_ok (31, .newarray .int, 2) (List.mem_of_getElem? (i := 16) rfl)) (fun b31 S32 g33 H34 s35 m36 o37 => ?_)
  refine n_put (own := 11) (ci := 6) (k := 3) [.ref b1, .ref b11, .ref b21, .ref b31, .null, .int 0, .long 0] rfl H34 rfl rfl (by decide) rfl rfl ⟨rfl, rfl⟩ (Nat.le_of_ble_eq_true rfl) (tX6_init_0_ok (33, .putfield 22, 3) (List.mem_of_getElem? (i := 17) rfl)) (fun g38 H39 f40 => ?_)
  refine tt_aload_n rfl (List.Mem.head _) (tX6_init_0_ok (36, .aload_n 0, 1) (List.mem_of_getElem? (i := 18) rfl)) ?_
  refine tt_bipush rfl (tX6_init_0_ok (37, .bipush 8, 2) (List.mem_of_getElem? (i := 19) rfl)) ?_
  refine n_arr (L := 98) hT H39 rfl (by decide +kernel) (by decide) rfl (by decide) rfl (by decide) (by decide) (by decide) (tX6_init_0_ok (39, .newarray .int, 2) (List.mem_of_getElem? (i := 20) rfl)) (fun b41 S42 g43 H44 s45 m46 o47 => ?_)
  refine n_put (own := 11) (ci := 6) (k := 4) [.ref b1, .ref b11, .ref b21, .ref b31, .ref b41, .int 0, .long 0] rfl H44 rfl rfl (by decide) rfl rfl ⟨rfl, rfl⟩ (Nat.le_of_ble_eq_true rfl) (tX6_init_0_ok (41, .putfield 25, 3) (List.mem_of_getElem? (i := 21) rfl)) (fun g48 H49 f50 => ?_)
  refine tt_vret rfl (H49.fin (L := 93) ?_) (by decide) (by decide) (tX6_init_0_ok (44, .return_, 1) (List.mem_of_getElem? (i := 22) rfl))
  refine Or.inl ⟨rfl, _, rfl, rfl, fun k t hk => ?_⟩
  match k, hk with
  | 0, hk => cases hk; exact ⟨_, rfl, _, rfl, sg_le.up H49.2.2.1 _ _ (m46 _ _ (m36 _ _ (m26 _ _ (m16 _ _ s5))))⟩
  | 1, hk => cases hk; exact ⟨_, rfl, _, rfl, sg_le.up H49.2.2.1 _ _ (m46 _ _ (m36 _ _ (m26 _ _ s15)))⟩
  | 2, hk => cases hk; exact ⟨_, rfl, _, rfl, sg_le.up H49.2.2.1 _ _ (m46 _ _ (m36 _ _ s25))⟩
  | 3, hk => cases hk; exact ⟨_, rfl, _, rfl, sg_le.up H49.2.2.1 _ _ (m46 _ _ s35)⟩
  | 4, hk => cases hk; exact ⟨_, rfl, _, rfl, sg_le.up H49.2.2.1 _ _ s45⟩
  | 5, hk => cases hk; exact ⟨_, rfl, _, rfl, by decide, by decide⟩
  | 6, hk => cases hk; exact ⟨_, rfl, _, rfl⟩
  | k + 7, hk => cases hk
theorem nz_X6s3_init (hT : k_tys tys cA) : k_nw l D tys A X cA Lz mX6_init 6 df_6 99 1 12 5 38 := by
  intro Sg a h hH ca sa
  have H0 : nS cA Lz Sg h a (.inr (6, df_6)) Sg h := ⟨hH, ca, sa, fun _ _ _ => ⟨rfl, rfl⟩⟩
  refine tt_aload_n rfl (List.Mem.head _) (tX6_init_0_ok (0, .aload_n 0, 1) (List.mem_of_getElem? (i := 0) rfl)) ?_
  refine tt_objInit (wA1 120 rfl rfl) (wA1 30 rfl rfl) (wA1 31 rfl rfl) (tX6_init_0_ok (1, .invokespecial 3, 3) (List.mem_of_getElem? (i := 1) rfl)) (by decide) (Nat.le_of_ble_eq_true rfl) ?_
  refine tt_aload_n rfl (List.Mem.head _) (tX6_init_0_ok (4, .aload_n 0, 1) (List.mem_of_getElem? (i := 2) rfl)) ?_
  refine tt_bipush rfl (tX6_init_0_ok (5, .bipush 6, 2) (List.mem_of_getElem? (i := 3) rfl)) ?_
  refine n_arr (L := 100) hT H0 rfl (by decide +kernel) (by decide) rfl (by decide) rfl (by decide) (by decide) (by decide) (tX6_init_0_ok (7, .newarray .int, 2) (List.mem_of_getElem? (i := 4) rfl)) (fun b1 S2 g3 H4 s5 m6 o7 => ?_)
  refine n_put (own := 11) (ci := 6) (k := 0) [.ref b1, .null, .null, .null, .null, .int 0, .long 0] rfl H4 rfl rfl (by decide) rfl rfl ⟨rfl, rfl⟩ (Nat.le_of_ble_eq_true rfl) (tX6_init_0_ok (9, .putfield 9, 3) (List.mem_of_getElem? (i := 5) rfl)) (fun g8 H9 f10 => ?_)
  refine tt_aload_n rfl (List.Mem.head _) (tX6_init_0_ok (12, .aload_n 0, 1) (List.mem_of_getElem? (i := 6) rfl)) ?_
  refine tt_bipush rfl (tX6_init_0_ok (13, .bipush 6, 2) (List.mem_of_getElem? (i := 7) rfl)) ?_
  refine n_arr (L := 101) hT H9 rfl (by decide +kernel) (by decide) rfl (by decide) rfl (by decide) (by decide) (by decide) (tX6_init_0_ok (15, .newarray .int, 2) (List.mem_of_getElem? (i := 8) rfl)) (fun b11 S12 g13 H14 s15 m16 o17 => ?_)
  refine n_put (own := 11) (ci := 6) (k := 1) [.ref b1, .ref b11, .null, .null, .null, .int 0, .long 0] rfl H14 rfl rfl (by decide) rfl rfl ⟨rfl, rfl⟩ (Nat.le_of_ble_eq_true rfl) (tX6_init_0_ok (17, .putfield 15, 3) (List.mem_of_getElem? (i := 9) rfl)) (fun g18 H19 f20 => ?_)
  refine tt_aload_n rfl (List.Mem.head _) (tX6_init_0_ok (20, .aload_n 0, 1) (List.mem_of_getElem? (i := 10) rfl)) ?_
  refine tt_bipush rfl (tX6_init_0_ok (21, .bipush 6, 2) (List.mem_of_getElem? (i := 11) rfl)) ?_
  refine n_arr (L := 102) hT H19 rfl (by decide +kernel) (by decide) rfl (by decide) rfl (by decide) (by decide) (by decide) (tX6_init_0_ok (23, .newarray .boolean, 2) (List.mem_of_getElem? (i := 12) rfl)) (fun b21 S22 g23 H24 s25 m26 o27 => ?_)
  refine n_put (own := 11) (ci := 6) (k := 2) [.ref b1, .ref b11, .ref b21, .null, .null, .int 0, .long 0] rfl H24 rfl rfl (by decide) rfl rfl ⟨rfl, rfl⟩ (Nat.le_of_ble_eq_true rfl) (tX6_init_0_ok (25, .putfield 18, 3) (List.mem_of_getElem? (i := 13) rfl)) (fun g28 H29 f30 => ?_)
  refine tt_aload_n rfl (List.Mem.head _) (tX6_init_0_ok (28, .aload_n 0, 1) (List.mem_of_getElem? (i := 14) rfl)) ?_
  refine tt_bipush rfl (tX6_init_0_ok (29, .bipush 12, 2) (List.mem_of_getElem? (i := 15) rfl)) ?_
  refine n_arr (L := 103) hT H29 rfl (by decide +kernel) (by decide) rfl (by decide) rfl (by decide) (by decide) (by decide) (tX6_init_0_ok (31, .newarray .int, 2) (List.mem_of_getElem? (i := 16) rfl)) (fun b31 S32 g33 H34 s35 m36 o37 => ?_)
  refine n_put (own := 11) (ci := 6) (k := 3) [.ref b1, .ref b11, .ref b21, .ref b31, .null, .int 0, .long 0] rfl H34 rfl rfl (by decide) rfl rfl ⟨rfl, rfl⟩ (Nat.le_of_ble_eq_true rfl) (tX6_init_0_ok (33, .putfield 22, 3) (List.mem_of_getElem? (i := 17) rfl)) (fun g38 H39 f40 => ?_)
  refine tt_aload_n rfl (List.Mem.head _) (tX6_init_0_ok (36, .aload_n 0, 1) (List.mem_of_getElem? (i := 18) rfl)) ?_
  refine tt_bipush rfl (tX6_init_0_ok (37, .bipush 8, 2) (List.mem_of_getElem? (i := 19) rfl)) ?_
  refine n_arr (L := 104) hT H39 rfl (by decide +kernel) (by decide) rfl (by decide) rfl (by decide) (by decide) (by decide) (tX6_init_0_ok (39, .newarray .int, 2) (List.mem_of_getElem? (i := 20) rfl)) (fun b41 S42 g43 H44 s45 m46 o47 => ?_)
  refine n_put (own := 11) (ci := 6) (k := 4) [.ref b1, .ref b11, .ref b21, .ref b31, .ref b41, .int 0, .long 0] rfl H44 rfl rfl (by decide) rfl rfl ⟨rfl, rfl⟩ (Nat.le_of_ble_eq_true rfl) (tX6_init_0_ok (41, .putfield 25, 3) (List.mem_of_getElem? (i := 21) rfl)) (fun g48 H49 f50 => ?_)
  refine tt_vret rfl (H49.fin (L := 99) ?_) (by decide) (by decide) (tX6_init_0_ok (44, .return_, 1) (List.mem_of_getElem? (i := 22) rfl))
  refine Or.inl ⟨rfl, _, rfl, rfl, fun k t hk => ?_⟩
  match k, hk with
  | 0, hk => cases hk; exact ⟨_, rfl, _, rfl, sg_le.up H49.2.2.1 _ _ (m46 _ _ (m36 _ _ (m26 _ _ (m16 _ _ s5))))⟩
  | 1, hk => cases hk; exact ⟨_, rfl, _, rfl, sg_le.up H49.2.2.1 _ _ (m46 _ _ (m36 _ _ (m26 _ _ s15)))⟩
  | 2, hk => cases hk; exact ⟨_, rfl, _, rfl, sg_le.up H49.2.2.1 _ _ (m46 _ _ (m36 _ _ s25))⟩
  | 3, hk => cases hk; exact ⟨_, rfl, _, rfl, sg_le.up H49.2.2.1 _ _ (m46 _ _ s35)⟩
  | 4, hk => cases hk; exact ⟨_, rfl, _, rfl, sg_le.up H49.2.2.1 _ _ s45⟩
  | 5, hk => cases hk; exact ⟨_, rfl, _, rfl, by decide, by decide⟩
  | 6, hk => cases hk; exact ⟨_, rfl, _, rfl⟩
  | k + 7, hk => cases hk
theorem nz_X6s4_init (hT : k_tys tys cA) : k_nw l D tys A X cA Lz mX6_init 6 df_6 105 1 12 5 38 := by
  intro Sg a h hH ca sa
  have H0 : nS cA Lz Sg h a (.inr (6, df_6)) Sg h := ⟨hH, ca, sa, fun _ _ _ => ⟨rfl, rfl⟩⟩
  refine tt_aload_n rfl (List.Mem.head _) (tX6_init_0_ok (0, .aload_n 0, 1) (List.mem_of_getElem? (i := 0) rfl)) ?_
  refine tt_objInit (wA1 120 rfl rfl) (wA1 30 rfl rfl) (wA1 31 rfl rfl) (tX6_init_0_ok (1, .invokespecial 3, 3) (List.mem_of_getElem? (i := 1) rfl)) (by decide) (Nat.le_of_ble_eq_true rfl) ?_
  refine tt_aload_n rfl (List.Mem.head _) (tX6_init_0_ok (4, .aload_n 0, 1) (List.mem_of_getElem? (i := 2) rfl)) ?_
  refine tt_bipush rfl (tX6_init_0_ok (5, .bipush 6, 2) (List.mem_of_getElem? (i := 3) rfl)) ?_
  refine n_arr (L := 106) hT H0 rfl (by decide +kernel) (by decide) rfl (by decide) rfl (by decide) (by decide) (by decide) (tX6_init_0_ok (7, .newarray .int, 2) (List.mem_of_getElem? (i := 4) rfl)) (fun b1 S2 g3 H4 s5 m6 o7 => ?_)
  refine n_put (own := 11) (ci := 6) (k := 0) [.ref b1, .null, .null, .null, .null, .int 0, .long 0] rfl H4 rfl rfl (by decide) rfl rfl ⟨rfl, rfl⟩ (Nat.le_of_ble_eq_true rfl) (tX6_init_0_ok (9, .putfield 9, 3) (List.mem_of_getElem? (i := 5) rfl)) (fun g8 H9 f10 => ?_)
  refine tt_aload_n rfl (List.Mem.head _) (tX6_init_0_ok (12, .aload_n 0, 1) (List.mem_of_getElem? (i := 6) rfl)) ?_
  refine tt_bipush rfl (tX6_init_0_ok (13, .bipush 6, 2) (List.mem_of_getElem? (i := 7) rfl)) ?_
  refine n_arr (L := 107) hT H9 rfl (by decide +kernel) (by decide) rfl (by decide) rfl (by decide) (by decide) (by decide) (tX6_init_0_ok (15, .newarray .int, 2) (List.mem_of_getElem? (i := 8) rfl)) (fun b11 S12 g13 H14 s15 m16 o17 => ?_)
  refine n_put (own := 11) (ci := 6) (k := 1) [.ref b1, .ref b11, .null, .null, .null, .int 0, .long 0] rfl H14 rfl rfl (by decide) rfl rfl ⟨rfl, rfl⟩ (Nat.le_of_ble_eq_true rfl) (tX6_init_0_ok (17, .putfield 15, 3) (List.mem_of_getElem? (i := 9) rfl)) (fun g18 H19 f20 => ?_)
  refine tt_aload_n rfl (List.Mem.head _) (tX6_init_0_ok (20, .aload_n 0, 1) (List.mem_of_getElem? (i := 10) rfl)) ?_
  refine tt_bipush rfl (tX6_init_0_ok (21, .bipush 6, 2) (List.mem_of_getElem? (i := 11) rfl)) ?_
  refine n_arr (L := 108) hT H19 rfl (by decide +kernel) (by decide) rfl (by decide) rfl (by decide) (by decide) (by decide) (tX6_init_0_ok (23, .newarray .boolean, 2) (List.mem_of_getElem? (i := 12) rfl)) (fun b21 S22 g23 H24 s25 m26 o27 => ?_)
  refine n_put (own := 11) (ci := 6) (k := 2) [.ref b1, .ref b11, .ref b21, .null, .null, .int 0, .long 0] rfl H24 rfl rfl (by decide) rfl rfl ⟨rfl, rfl⟩ (Nat.le_of_ble_eq_true rfl) (tX6_init_0_ok (25, .putfield 18, 3) (List.mem_of_getElem? (i := 13) rfl)) (fun g28 H29 f30 => ?_)
  refine tt_aload_n rfl (List.Mem.head _) (tX6_init_0_ok (28, .aload_n 0, 1) (List.mem_of_getElem? (i := 14) rfl)) ?_
  refine tt_bipush rfl (tX6_init_0_ok (29, .bipush 12, 2) (List.mem_of_getElem? (i := 15) rfl)) ?_
  refine n_arr (L := 109) hT H29 rfl (by decide +kernel) (by decide) rfl (by decide) rfl (by decide) (by decide) (by decide) (tX6_init_0_ok (31, .newarray .int, 2) (List.mem_of_getElem? (i := 16) rfl)) (fun b31 S32 g33 H34 s35 m36 o37 => ?_)
  refine n_put (own := 11) (ci := 6) (k := 3) [.ref b1, .ref b11, .ref b21, .ref b31, .null, .int 0, .long 0] rfl H34 rfl rfl (by decide) rfl rfl ⟨rfl, rfl⟩ (Nat.le_of_ble_eq_true rfl) (tX6_init_0_ok (33, .putfield 22, 3) (List.mem_of_getElem? (i := 17) rfl)) (fun g38 H39 f40 => ?_)
  refine tt_aload_n rfl (List.Mem.head _) (tX6_init_0_ok (36, .aload_n 0, 1) (List.mem_of_getElem? (i := 18) rfl)) ?_
  refine tt_bipush rfl (tX6_init_0_ok (37, .bipush 8, 2) (List.mem_of_getElem? (i := 19) rfl)) ?_
  refine n_arr (L := 110) hT H39 rfl (by decide +kernel) (by decide) rfl (by decide) rfl (by decide) (by decide) (by decide) (tX6_init_0_ok (39, .newarray .int, 2) (List.mem_of_getElem? (i := 20) rfl)) (fun b41 S42 g43 H44 s45 m46 o47 => ?_)
  refine n_put (own := 11) (ci := 6) (k := 4) [.ref b1, .ref b11, .ref b21, .ref b31, .ref b41, .int 0, .long 0] rfl H44 rfl rfl (by decide) rfl rfl ⟨rfl, rfl⟩ (Nat.le_of_ble_eq_true rfl) (tX6_init_0_ok (41, .putfield 25, 3) (List.mem_of_getElem? (i := 21) rfl)) (fun g48 H49 f50 => ?_)
  refine tt_vret rfl (H49.fin (L := 105) ?_) (by decide) (by decide) (tX6_init_0_ok (44, .return_, 1) (List.mem_of_getElem? (i := 22) rfl))
  refine Or.inl ⟨rfl, _, rfl, rfl, fun k t hk => ?_⟩
  match k, hk with
  | 0, hk => cases hk; exact ⟨_, rfl, _, rfl, sg_le.up H49.2.2.1 _ _ (m46 _ _ (m36 _ _ (m26 _ _ (m16 _ _ s5))))⟩
  | 1, hk => cases hk; exact ⟨_, rfl, _, rfl, sg_le.up H49.2.2.1 _ _ (m46 _ _ (m36 _ _ (m26 _ _ s15)))⟩
  | 2, hk => cases hk; exact ⟨_, rfl, _, rfl, sg_le.up H49.2.2.1 _ _ (m46 _ _ (m36 _ _ s25))⟩
  | 3, hk => cases hk; exact ⟨_, rfl, _, rfl, sg_le.up H49.2.2.1 _ _ (m46 _ _ s35)⟩
  | 4, hk => cases hk; exact ⟨_, rfl, _, rfl, sg_le.up H49.2.2.1 _ _ s45⟩
  | 5, hk => cases hk; exact ⟨_, rfl, _, rfl, by decide, by decide⟩
  | 6, hk => cases hk; exact ⟨_, rfl, _, rfl⟩
  | k + 7, hk => cases hk
theorem nz_X6s5_init (hT : k_tys tys cA) : k_nw l D tys A X cA Lz mX6_init 6 df_6 111 1 12 5 38 := by
  intro Sg a h hH ca sa
  have H0 : nS cA Lz Sg h a (.inr (6, df_6)) Sg h := ⟨hH, ca, sa, fun _ _ _ => ⟨rfl, rfl⟩⟩
  refine tt_aload_n rfl (List.Mem.head _) (tX6_init_0_ok (0, .aload_n 0, 1) (List.mem_of_getElem? (i := 0) rfl)) ?_
  refine tt_objInit (wA1 120 rfl rfl) (wA1 30 rfl rfl) (wA1 31 rfl rfl) (tX6_init_0_ok (1, .invokespecial 3, 3) (List.mem_of_getElem? (i := 1) rfl)) (by decide) (Nat.le_of_ble_eq_true rfl) ?_
  refine tt_aload_n rfl (List.Mem.head _) (tX6_init_0_ok (4, .aload_n 0, 1) (List.mem_of_getElem? (i := 2) rfl)) ?_
  refine tt_bipush rfl (tX6_init_0_ok (5, .bipush 6, 2) (List.mem_of_getElem? (i := 3) rfl)) ?_
  refine n_arr (L := 112) hT H0 rfl (by decide +kernel) (by decide) rfl (by decide) rfl (by decide) (by decide) (by decide) (tX6_init_0_ok (7, .newarray .int, 2) (List.mem_of_getElem? (i := 4) rfl)) (fun b1 S2 g3 H4 s5 m6 o7 => ?_)
  refine n_put (own := 11) (ci := 6) (k := 0) [.ref b1, .null, .null, .null, .null, .int 0, .long 0] rfl H4 rfl rfl (by decide) rfl rfl ⟨rfl, rfl⟩ (Nat.le_of_ble_eq_true rfl) (tX6_init_0_ok (9, .putfield 9, 3) (List.mem_of_getElem? (i := 5) rfl)) (fun g8 H9 f10 => ?_)
  refine tt_aload_n rfl (List.Mem.head _) (tX6_init_0_ok (12, .aload_n 0, 1) (List.mem_of_getElem? (i := 6) rfl)) ?_
  refine tt_bipush rfl (tX6_init_0_ok (13, .bipush 6, 2) (List.mem_of_getElem? (i := 7) rfl)) ?_
  refine n_arr (L := 113) hT H9 rfl (by decide +kernel) (by decide) rfl (by decide) rfl (by decide) (by decide) (by decide) (tX6_init_0_ok (15, .newarray .int, 2) (List.mem_of_getElem? (i := 8) rfl)) (fun b11 S12 g13 H14 s15 m16 o17 => ?_)
  refine n_put (own := 11) (ci := 6) (k := 1) [.ref b1, .ref b11, .null, .null, .null, .int 0, .long 0] rfl H14 rfl rfl (by decide) rfl rfl ⟨rfl, rfl⟩ (Nat.le_of_ble_eq_true rfl) (tX6_init_0_ok (17, .putfield 15, 3) (List.mem_of_getElem? (i := 9) rfl)) (fun g18 H19 f20 => ?_)
  refine tt_aload_n rfl (List.Mem.head _) (tX6_init_0_ok (20, .aload_n 0, 1) (List.mem_of_getElem? (i := 10) rfl)) ?_
  refine tt_bipush rfl (tX6_init_0_ok (21, .bipush 6, 2) (List.mem_of_getElem? (i := 11) rfl)) ?_
  refine n_arr (L := 114) hT H19 rfl (by decide +kernel) (by decide) rfl (by decide) rfl (by decide) (by decide) (by decide) (tX6_init_0_ok (23, .newarray .boolean, 2) (List.mem_of_getElem? (i := 12) rfl)) (fun b21 S22 g23 H24 s25 m26 o27 => ?_)
  refine n_put (own := 11) (ci := 6) (k := 2) [.ref b1, .ref b11, .ref b21, .null, .null, .int 0, .long 0] rfl H24 rfl rfl (by decide) rfl rfl ⟨rfl, rfl⟩ (Nat.le_of_ble_eq_true rfl) (tX6_init_0_ok (25, .putfield 18, 3) (List.mem_of_getElem? (i := 13) rfl)) (fun g28 H29 f30 => ?_)
  refine tt_aload_n rfl (List.Mem.head _) (tX6_init_0_ok (28, .aload_n 0, 1) (List.mem_of_getElem? (i := 14) rfl)) ?_
  refine tt_bipush rfl (tX6_init_0_ok (29, .bipush 12, 2) (List.mem_of_getElem? (i := 15) rfl)) ?_
  refine n_arr (L := 115) hT H29 rfl (by decide +kernel) (by decide) rfl (by decide) rfl (by decide) (by decide) (by decide) (tX6_init_0_ok (31, .newarray .int, 2) (List.mem_of_getElem? (i := 16) rfl)) (fun b31 S32 g33 H34 s35 m36 o37 => ?_)
  refine n_put (own := 11) (ci := 6) (k := 3) [.ref b1, .ref b11, .ref b21, .ref b31, .null, .int 0, .long 0] rfl H34 rfl rfl (by decide) rfl rfl ⟨rfl, rfl⟩ (Nat.le_of_ble_eq_true rfl) (tX6_init_0_ok (33, .putfield 22, 3) (List.mem_of_getElem? (i := 17) rfl)) (fun g38 H39 f40 => ?_)
  refine tt_aload_n rfl (List.Mem.head _) (tX6_init_0_ok (36, .aload_n 0, 1) (List.mem_of_getElem? (i := 18) rfl)) ?_
  refine tt_bipush rfl (tX6_init_0_ok (37, .bipush 8, 2) (List.mem_of_getElem? (i := 19) rfl)) ?_
  refine n_arr (L := 116) hT H39 rfl (by decide +kernel) (by decide) rfl (by decide) rfl (by decide) (by decide) (by decide) (tX6_init_0_ok (39, .newarray .int, 2) (List.mem_of_getElem? (i := 20) rfl)) (fun b41 S42 g43 H44 s45 m46 o47 => ?_)
  refine n_put (own := 11) (ci := 6) (k := 4) [.ref b1, .ref b11, .ref b21, .ref b31, .ref b41, .int 0, .long 0] rfl H44 rfl rfl (by decide) rfl rfl ⟨rfl, rfl⟩ (Nat.le_of_ble_eq_true rfl) (tX6_init_0_ok (41, .putfield 25, 3) (List.mem_of_getElem? (i := 21) rfl)) (fun g48 H49 f50 => ?_)
  refine tt_vret rfl (H49.fin (L := 111) ?_) (by decide) (by decide) (tX6_init_0_ok (44, .return_, 1) (List.mem_of_getElem? (i := 22) rfl))
  refine Or.inl ⟨rfl, _, rfl, rfl, fun k t hk => ?_⟩
  match k, hk with
  | 0, hk => cases hk; exact ⟨_, rfl, _, rfl, sg_le.up H49.2.2.1 _ _ (m46 _ _ (m36 _ _ (m26 _ _ (m16 _ _ s5))))⟩
  | 1, hk => cases hk; exact ⟨_, rfl, _, rfl, sg_le.up H49.2.2.1 _ _ (m46 _ _ (m36 _ _ (m26 _ _ s15)))⟩
  | 2, hk => cases hk; exact ⟨_, rfl, _, rfl, sg_le.up H49.2.2.1 _ _ (m46 _ _ (m36 _ _ s25))⟩
  | 3, hk => cases hk; exact ⟨_, rfl, _, rfl, sg_le.up H49.2.2.1 _ _ (m46 _ _ s35)⟩
  | 4, hk => cases hk; exact ⟨_, rfl, _, rfl, sg_le.up H49.2.2.1 _ _ s45⟩
  | 5, hk => cases hk; exact ⟨_, rfl, _, rfl, by decide, by decide⟩
  | 6, hk => cases hk; exact ⟨_, rfl, _, rfl⟩
  | k + 7, hk => cases hk
theorem nz_X6s6_init (hT : k_tys tys cA) : k_nw l D tys A X cA Lz mX6_init 6 df_6 117 1 12 5 38 := by
  intro Sg a h hH ca sa
  have H0 : nS cA Lz Sg h a (.inr (6, df_6)) Sg h := ⟨hH, ca, sa, fun _ _ _ => ⟨rfl, rfl⟩⟩
  refine tt_aload_n rfl (List.Mem.head _) (tX6_init_0_ok (0, .aload_n 0, 1) (List.mem_of_getElem? (i := 0) rfl)) ?_
  refine tt_objInit (wA1 120 rfl rfl) (wA1 30 rfl rfl) (wA1 31 rfl rfl) (tX6_init_0_ok (1, .invokespecial 3, 3) (List.mem_of_getElem? (i := 1) rfl)) (by decide) (Nat.le_of_ble_eq_true rfl) ?_
  refine tt_aload_n rfl (List.Mem.head _) (tX6_init_0_ok (4, .aload_n 0, 1) (List.mem_of_getElem? (i := 2) rfl)) ?_
  refine tt_bipush rfl (tX6_init_0_ok (5, .bipush 6, 2) (List.mem_of_getElem? (i := 3) rfl)) ?_
  refine n_arr (L := 118) hT H0 rfl (by decide +kernel) (by decide) rfl (by decide) rfl (by decide) (by decide) (by decide) (tX6_init_0_ok (7, .newarray .int, 2) (List.mem_of_getElem? (i := 4) rfl)) (fun b1 S2 g3 H4 s5 m6 o7 => ?_)
  refine n_put (own := 11) (ci := 6) (k := 0) [.ref b1, .null, .null, .null, .null, .int 0, .long 0] rfl H4 rfl rfl (by decide) rfl rfl ⟨rfl, rfl⟩ (Nat.le_of_ble_eq_true rfl) (tX6_init_0_ok (9, .putfield 9, 3) (List.mem_of_getElem? (i := 5) rfl)) (fun g8 H9 f10 => ?_)
  refine tt_aload_n rfl (List.Mem.head _) (tX6_init_0_ok (12, .aload_n 0, 1) (List.mem_of_getElem? (i := 6) rfl)) ?_
  refine tt_bipush rfl (tX6_init_0_ok (13, .bipush 6, 2) (List.mem_of_getElem? (i := 7) rfl)) ?_
  refine n_arr (L := 119) hT H9 rfl (by decide +kernel) (by decide) rfl (by decide) rfl (by decide) (by decide) (by decide) (tX6_init_0_ok (15, .newarray .int, 2) (List.mem_of_getElem? (i := 8) rfl)) (fun b11 S12 g13 H14 s15 m16 o17 => ?_)
  refine n_put (own := 11) (ci := 6) (k := 1) [.ref b1, .ref b11, .null, .null, .null, .int 0, .long 0] rfl H14 rfl rfl (by decide) rfl rfl ⟨rfl, rfl⟩ (Nat.le_of_ble_eq_true rfl) (tX6_init_0_ok (17, .putfield 15, 3) (List.mem_of_getElem? (i := 9) rfl)) (fun g18 H19 f20 => ?_)
  refine tt_aload_n rfl (List.Mem.head _) (tX6_init_0_ok (20, .aload_n 0, 1) (List.mem_of_getElem? (i := 10) rfl)) ?_
  refine tt_bipush rfl (tX6_init_0_ok (21, .bipush 6, 2) (List.mem_of_getElem? (i := 11) rfl)) ?_
  refine n_arr (L := 120) hT H19 rfl (by decide +kernel) (by decide) rfl (by decide) rfl (by decide) (by decide) (by decide) (tX6_init_0_ok (23, .newarray .boolean, 2) (List.mem_of_getElem? (i := 12) rfl)) (fun b21 S22 g23 H24 s25 m26 o27 => ?_)
  refine n_put (own := 11) (ci := 6) (k := 2) [.ref b1, .ref b11, .ref b21, .null, .null, .int 0, .long 0] rfl H24 rfl rfl (by decide) rfl rfl ⟨rfl, rfl⟩ (Nat.le_of_ble_eq_true rfl) (tX6_init_0_ok (25, .putfield 18, 3) (List.mem_of_getElem? (i := 13) rfl)) (fun g28 H29 f30 => ?_)
  refine tt_aload_n rfl (List.Mem.head _) (tX6_init_0_ok (28, .aload_n 0, 1) (List.mem_of_getElem? (i := 14) rfl)) ?_
  refine tt_bipush rfl (tX6_init_0_ok (29, .bipush 12, 2) (List.mem_of_getElem? (i := 15) rfl)) ?_
  refine n_arr (L := 121) hT H29 rfl (by decide +kernel) (by decide) rfl (by decide) rfl (by decide) (by decide) (by decide) (tX6_init_0_ok (31, .newarray .int, 2) (List.mem_of_getElem? (i := 16) rfl)) (fun b31 S32 g33 H34 s35 m36 o37 => ?_)
  refine n_put (own := 11) (ci := 6) (k := 3) [.ref b1, .ref b11, .ref b21, .ref b31, .null, .int 0, .long 0] rfl H34 rfl rfl (by decide) rfl rfl ⟨rfl, rfl⟩ (Nat.le_of_ble_eq_true rfl) (tX6_init_0_ok (33, .putfield 22, 3) (List.mem_of_getElem? (i := 17) rfl)) (fun g38 H39 f40 => ?_)
  refine tt_aload_n rfl (List.Mem.head _) (tX6_init_0_ok (36, .aload_n 0, 1) (List.mem_of_getElem? (i := 18) rfl)) ?_
  refine tt_bipush rfl (tX6_init_0_ok (37, .bipush 8, 2) (List.mem_of_getElem? (i := 19) rfl)) ?_
  refine n_arr (L := 122) hT H39 rfl (by decide +kernel) (by decide) rfl (by decide) rfl (by decide) (by decide) (by decide) (tX6_init_0_ok (39, .newarray .int, 2) (List.mem_of_getElem? (i := 20) rfl)) (fun b41 S42 g43 H44 s45 m46 o47 => ?_)
  refine n_put (own := 11) (ci := 6) (k := 4) [.ref b1, .ref b11, .ref b21, .ref b31, .ref b41, .int 0, .long 0] rfl H44 rfl rfl (by decide) rfl rfl ⟨rfl, rfl⟩ (Nat.le_of_ble_eq_true rfl) (tX6_init_0_ok (41, .putfield 25, 3) (List.mem_of_getElem? (i := 21) rfl)) (fun g48 H49 f50 => ?_)
  refine tt_vret rfl (H49.fin (L := 117) ?_) (by decide) (by decide) (tX6_init_0_ok (44, .return_, 1) (List.mem_of_getElem? (i := 22) rfl))
  refine Or.inl ⟨rfl, _, rfl, rfl, fun k t hk => ?_⟩
  match k, hk with
  | 0, hk => cases hk; exact ⟨_, rfl, _, rfl, sg_le.up H49.2.2.1 _ _ (m46 _ _ (m36 _ _ (m26 _ _ (m16 _ _ s5))))⟩
  | 1, hk => cases hk; exact ⟨_, rfl, _, rfl, sg_le.up H49.2.2.1 _ _ (m46 _ _ (m36 _ _ (m26 _ _ s15)))⟩
  | 2, hk => cases hk; exact ⟨_, rfl, _, rfl, sg_le.up H49.2.2.1 _ _ (m46 _ _ (m36 _ _ s25))⟩
  | 3, hk => cases hk; exact ⟨_, rfl, _, rfl, sg_le.up H49.2.2.1 _ _ (m46 _ _ s35)⟩
  | 4, hk => cases hk; exact ⟨_, rfl, _, rfl, sg_le.up H49.2.2.1 _ _ s45⟩
  | 5, hk => cases hk; exact ⟨_, rfl, _, rfl, by decide, by decide⟩
  | 6, hk => cases hk; exact ⟨_, rfl, _, rfl⟩
  | k + 7, hk => cases hk
theorem nz_X6s7_init (hT : k_tys tys cA) : k_nw l D tys A X cA Lz mX6_init 6 df_6 123 1 12 5 38 := by
  intro Sg a h hH ca sa
  have H0 : nS cA Lz Sg h a (.inr (6, df_6)) Sg h := ⟨hH, ca, sa, fun _ _ _ => ⟨rfl, rfl⟩⟩
  refine tt_aload_n rfl (List.Mem.head _) (tX6_init_0_ok (0, .aload_n 0, 1) (List.mem_of_getElem? (i := 0) rfl)) ?_
  refine tt_objInit (wA1 120 rfl rfl) (wA1 30 rfl rfl) (wA1 31 rfl rfl) (tX6_init_0_ok (1, .invokespecial 3, 3) (List.mem_of_getElem? (i := 1) rfl)) (by decide) (Nat.le_of_ble_eq_true rfl) ?_
  refine tt_aload_n rfl (List.Mem.head _) (tX6_init_0_ok (4, .aload_n 0, 1) (List.mem_of_getElem? (i := 2) rfl)) ?_
  refine tt_bipush rfl (tX6_init_0_ok (5, .bipush 6, 2) (List.mem_of_getElem? (i := 3) rfl)) ?_
  refine n_arr (L := 124) hT H0 rfl (by decide +kernel) (by decide) rfl (by decide) rfl (by decide) (by decide) (by decide) (tX6_init_0_ok (7, .newarray .int, 2) (List.mem_of_getElem? (i := 4) rfl)) (fun b1 S2 g3 H4 s5 m6 o7 => ?_)
  refine n_put (own := 11) (ci := 6) (k := 0) [.ref b1, .null, .null, .null, .null, .int 0, .long 0] rfl H4 rfl rfl (by decide) rfl rfl ⟨rfl, rfl⟩ (Nat.le_of_ble_eq_true rfl) (tX6_init_0_ok (9, .putfield 9, 3) (List.mem_of_getElem? (i := 5) rfl)) (fun g8 H9 f10 => ?_)
  refine tt_aload_n rfl (List.Mem.head _) (tX6_init_0_ok (12, .aload_n 0, 1) (List.mem_of_getElem? (i := 6) rfl)) ?_
  refine tt_bipush rfl (tX6_init_0_ok (13, .bipush 6, 2) (List.mem_of_getElem? (i := 7) rfl)) ?_
  refine n_arr (L := 125) hT H9 rfl (by decide +kernel) (by decide) rfl (by decide) rfl (by decide) (by decide) (by decide) (tX6_init_0_ok (15, .newarray .int, 2) (List.mem_of_getElem? (i := 8) rfl)) (fun b11 S12 g13 H14 s15 m16 o17 => ?_)
  refine n_put (own := 11) (ci := 6) (k := 1) [.ref b1, .ref b11, .null, .null, .null, .int 0, .long 0] rfl H14 rfl rfl (by decide) rfl rfl ⟨rfl, rfl⟩ (Nat.le_of_ble_eq_true rfl) (tX6_init_0_ok (17, .putfield 15, 3) (List.mem_of_getElem? (i := 9) rfl)) (fun g18 H19 f20 => ?_)
  refine tt_aload_n rfl (List.Mem.head _) (tX6_init_0_ok (20, .aload_n 0, 1) (List.mem_of_getElem? (i := 10) rfl)) ?_
  refine tt_bipush rfl (tX6_init_0_ok (21, .bipush 6, 2) (List.mem_of_getElem? (i := 11) rfl)) ?_
  refine n_arr (L := 126) hT H19 rfl (by decide +kernel) (by decide) rfl (by decide) rfl (by decide) (by decide) (by decide) (tX6_init_0_ok (23, .newarray .boolean, 2) (List.mem_of_getElem? (i := 12) rfl)) (fun b21 S22 g23 H24 s25 m26 o27 => ?_)
  refine n_put (own := 11) (ci := 6) (k := 2) [.ref b1, .ref b11, .ref b21, .null, .null, .int 0, .long 0] rfl H24 rfl rfl (by decide) rfl rfl ⟨rfl, rfl⟩ (Nat.le_of_ble_eq_true rfl) (tX6_init_0_ok (25, .putfield 18, 3) (List.mem_of_getElem? (i := 13) rfl)) (fun g28 H29 f30 => ?_)
  refine tt_aload_n rfl (List.Mem.head _) (tX6_init_0_ok (28, .aload_n 0, 1) (List.mem_of_getElem? (i := 14) rfl)) ?_
  refine tt_bipush rfl (tX6_init_0_ok (29, .bipush 12, 2) (List.mem_of_getElem? (i := 15) rfl)) ?_
  refine n_arr (L := 127) hT H29 rfl (by decide +kernel) (by decide) rfl (by decide) rfl (by decide) (by decide) (by decide) (tX6_init_0_ok (31, .newarray .int, 2) (List.mem_of_getElem? (i := 16) rfl)) (fun b31 S32 g33 H34 s35 m36 o37 => ?_)
  refine n_put (own := 11) (ci := 6) (k := 3) [.ref b1, .ref b11, .ref b21, .ref b31, .null, .int 0, .long 0] rfl H34 rfl rfl (by decide) rfl rfl ⟨rfl, rfl⟩ (Nat.le_of_ble_eq_true rfl) (tX6_init_0_ok (33, .putfield 22, 3) (List.mem_of_getElem? (i := 17) rfl)) (fun g38 H39 f40 => ?_)
  refine tt_aload_n rfl (List.Mem.head _) (tX6_init_0_ok (36, .aload_n 0, 1) (List.mem_of_getElem? (i := 18) rfl)) ?_
  refine tt_bipush rfl (tX6_init_0_ok (37, .bipush 8, 2) (List.mem_of_getElem? (i := 19) rfl)) ?_
  refine n_arr (L := 128) hT H39 rfl (by decide +kernel) (by decide) rfl (by decide) rfl (by decide) (by decide) (by decide) (tX6_init_0_ok (39, .newarray .int, 2) (List.mem_of_getElem? (i := 20) rfl)) (fun b41 S42 g43 H44 s45 m46 o47 => ?_)
  refine n_put (own := 11) (ci := 6) (k := 4) [.ref b1, .ref b11, .ref b21, .ref b31, .ref b41, .int 0, .long 0] rfl H44 rfl rfl (by decide) rfl rfl ⟨rfl, rfl⟩ (Nat.le_of_ble_eq_true rfl) (tX6_init_0_ok (41, .putfield 25, 3) (List.mem_of_getElem? (i := 21) rfl)) (fun g48 H49 f50 => ?_)
  refine tt_vret rfl (H49.fin (L := 123) ?_) (by decide) (by decide) (tX6_init_0_ok (44, .return_, 1) (List.mem_of_getElem? (i := 22) rfl))
  refine Or.inl ⟨rfl, _, rfl, rfl, fun k t hk => ?_⟩
  match k, hk with
  | 0, hk => cases hk; exact ⟨_, rfl, _, rfl, sg_le.up H49.2.2.1 _ _ (m46 _ _ (m36 _ _ (m26 _ _ (m16 _ _ s5))))⟩
  | 1, hk => cases hk; exact ⟨_, rfl, _, rfl, sg_le.up H49.2.2.1 _ _ (m46 _ _ (m36 _ _ (m26 _ _ s15)))⟩
  | 2, hk => cases hk; exact ⟨_, rfl, _, rfl, sg_le.up H49.2.2.1 _ _ (m46 _ _ (m36 _ _ s25))⟩
  | 3, hk => cases hk; exact ⟨_, rfl, _, rfl, sg_le.up H49.2.2.1 _ _ (m46 _ _ s35)⟩
  | 4, hk => cases hk; exact ⟨_, rfl, _, rfl, sg_le.up H49.2.2.1 _ _ s45⟩
  | 5, hk => cases hk; exact ⟨_, rfl, _, rfl, by decide, by decide⟩
  | 6, hk => cases hk; exact ⟨_, rfl, _, rfl⟩
  | k + 7, hk => cases hk
theorem nz_X6s8_init (hT : k_tys tys cA) : k_nw l D tys A X cA Lz mX6_init 6 df_6 129 1 12 5 38 := by
  intro Sg a h hH ca sa
  have H0 : nS cA Lz Sg h a (.inr (6, df_6)) Sg h := ⟨hH, ca, sa, fun _ _ _ => ⟨rfl, rfl⟩⟩
  refine tt_aload_n rfl (List.Mem.head _) (tX6_init_0_ok (0, .aload_n 0, 1) (List.mem_of_getElem? (i := 0) rfl)) ?_
  refine tt_objInit (wA1 120 rfl rfl) (wA1 30 rfl rfl) (wA1 31 rfl rfl) (tX6_init_0_ok (1, .invokespecial 3, 3) (List.mem_of_getElem? (i := 1) rfl)) (by decide) (Nat.le_of_ble_eq_true rfl) ?_
  refine tt_aload_n rfl (List.Mem.head _) (tX6_init_0_ok (4, .aload_n 0, 1) (List.mem_of_getElem? (i := 2) rfl)) ?_
  refine tt_bipush rfl (tX6_init_0_ok (5, .bipush 6, 2) (List.mem_of_getElem? (i := 3) rfl)) ?_
  refine n_arr (L := 130) hT H0 rfl (by decide +kernel) (by decide) rfl (by decide) rfl (by decide) (by decide) (by decide) (tX6_init_0_ok (7, .newarray .int, 2) (List.mem_of_getElem? (i := 4) rfl)) (fun b1 S2 g3 H4 s5 m6 o7 => ?_)
  refine n_put (own := 11) (ci := 6) (k := 0) [.ref b1, .null, .null, .null, .null, .int 0, .long 0] rfl H4 rfl rfl (by decide) rfl rfl ⟨rfl, rfl⟩ (Nat.le_of_ble_eq_true rfl) (tX6_init_0_ok (9, .putfield 9, 3) (List.mem_of_getElem? (i := 5) rfl)) (fun g8 H9 f10 => ?_)
  refine tt_aload_n rfl (List.Mem.head _) (tX6_init_0_ok (12, .aload_n 0, 1) (List.mem_of_getElem? (i := 6) rfl)) ?_
  refine tt_bipush rfl (tX6_init_0_ok (13, .bipush 6, 2) (List.mem_of_getElem? (i := 7) rfl)) ?_
  refine n_arr (L := 131) hT H9 rfl (by decide +kernel) (by decide) rfl (by decide) rfl (by decide) (by decide) (by decide) (tX6_init_0_ok (15, .newarray .int, 2) (List.mem_of_getElem? (i := 8) rfl)) (fun b11 S12 g13 H14 s15 m16 o17 => ?_)
  refine n_put (own := 11) (ci := 6) (k := 1) [.ref b1, .ref b11, .null, .null, .null, .int 0, .long 0] rfl H14 rfl rfl (by decide) rfl rfl ⟨rfl, rfl⟩ (Nat.le_of_ble_eq_true rfl) (tX6_init_0_ok (17, .putfield 15, 3) (List.mem_of_getElem? (i := 9) rfl)) (fun g18 H19 f20 => ?_)
  refine tt_aload_n rfl (List.Mem.head _) (tX6_init_0_ok (20, .aload_n 0, 1) (List.mem_of_getElem? (i := 10) rfl)) ?_
  refine tt_bipush rfl (tX6_init_0_ok (21, .bipush 6, 2) (List.mem_of_getElem? (i := 11) rfl)) ?_
  refine n_arr (L := 132) hT H19 rfl (by decide +kernel) (by decide) rfl (by decide) rfl (by decide) (by decide) (by decide) (tX6_init_0_ok (23, .newarray .boolean, 2) (List.mem_of_getElem? (i := 12) rfl)) (fun b21 S22 g23 H24 s25 m26 o27 => ?_)
  refine n_put (own := 11) (ci := 6) (k := 2) [.ref b1, .ref b11, .ref b21, .null, .null, .int 0, .long 0] rfl H24 rfl rfl (by decide) rfl rfl ⟨rfl, rfl⟩ (Nat.le_of_ble_eq_true rfl) (tX6_init_0_ok (25, .putfield 18, 3) (List.mem_of_getElem? (i := 13) rfl)) (fun g28 H29 f30 => ?_)
  refine tt_aload_n rfl (List.Mem.head _) (tX6_init_0_ok (28, .aload_n 0, 1) (List.mem_of_getElem? (i := 14) rfl)) ?_
  refine tt_bipush rfl (tX6_init_0_ok (29, .bipush 12, 2) (List.mem_of_getElem? (i := 15) rfl)) ?_
  refine n_arr (L := 133) hT H29 rfl (by decide +kernel) (by decide) rfl (by decide) rfl (by decide) (by decide) (by decide) (tX6_init_0_ok (31, .newarray .int, 2) (List.mem_of_getElem? (i := 16) rfl)) (fun b31 S32 g33 H34 s35 m36 o37 => ?_)
  refine n_put (own := 11) (ci := 6) (k := 3) [.ref b1, .ref b11, .ref b21, .ref b31, .null, .int 0, .long 0] rfl H34 rfl rfl (by decide) rfl rfl ⟨rfl, rfl⟩ (Nat.le_of_ble_eq_true rfl) (tX6_init_0_ok (33, .putfield 22, 3) (List.mem_of_getElem? (i := 17) rfl)) (fun g38 H39 f40 => ?_)
  refine tt_aload_n rfl (List.Mem.head _) (tX6_init_0_ok (36, .aload_n 0, 1) (List.mem_of_getElem? (i := 18) rfl)) ?_
  refine tt_bipush rfl (tX6_init_0_ok (37, .bipush 8, 2) (List.mem_of_getElem? (i := 19) rfl)) ?_
  refine n_arr (L := 134) hT H39 rfl (by decide +kernel) (by decide) rfl (by decide) rfl (by decide) (by decide) (by decide) (tX6_init_0_ok (39, .newarray .int, 2) (List.mem_of_getElem? (i := 20) rfl)) (fun b41 S42 g43 H44 s45 m46 o47 => ?_)
  refine n_put (own := 11) (ci := 6) (k := 4) [.ref b1, .ref b11, .ref b21, .ref b31, .ref b41, .int 0, .long 0] rfl H44 rfl rfl (by decide) rfl rfl ⟨rfl, rfl⟩ (Nat.le_of_ble_eq_true rfl) (tX6_init_0_ok (41, .putfield 25, 3) (List.mem_of_getElem? (i := 21) rfl)) (fun g48 H49 f50 => ?_)
  refine tt_vret rfl (H49.fin (L := 129) ?_) (by decide) (by decide) (tX6_init_0_ok (44, .return_, 1) (List.mem_of_getElem? (i := 22) rfl))
  refine Or.inl ⟨rfl, _, rfl, rfl, fun k t hk => ?_⟩
  match k, hk with
  | 0, hk => cases hk; exact ⟨_, rfl, _, rfl, sg_le.up H49.2.2.1 _ _ (m46 _ _ (m36 _ _ (m26 _ _ (m16 _ _ s5))))⟩
  | 1, hk => cases hk; exact ⟨_, rfl, _, rfl, sg_le.up H49.2.2.1 _ _ (m46 _ _ (m36 _ _ (m26 _ _ s15)))⟩
  | 2, hk => cases hk; exact ⟨_, rfl, _, rfl, sg_le.up H49.2.2.1 _ _ (m46 _ _ (m36 _ _ s25))⟩
  | 3, hk => cases hk; exact ⟨_, rfl, _, rfl, sg_le.up H49.2.2.1 _ _ (m46 _ _ s35)⟩
  | 4, hk => cases hk; exact ⟨_, rfl, _, rfl, sg_le.up H49.2.2.1 _ _ s45⟩
  | 5, hk => cases hk; exact ⟨_, rfl, _, rfl, by decide, by decide⟩
  | 6, hk => cases hk; exact ⟨_, rfl, _, rfl⟩
  | k + 7, hk => cases hk
theorem nz_X6s9_init (hT : k_tys tys cA) : k_nw l D tys A X cA Lz mX6_init 6 df_6 135 1 12 5 38 := by
  intro Sg a h hH ca sa
  have H0 : nS cA Lz Sg h a (.inr (6, df_6)) Sg h := ⟨hH, ca, sa, fun _ _ _ => ⟨rfl, rfl⟩⟩
  refine tt_aload_n rfl (List.Mem.head _) (tX6_init_0_ok (0, .aload_n 0, 1) (List.mem_of_getElem? (i := 0) rfl)) ?_
  refine tt_objInit (wA1 120 rfl rfl) (wA1 30 rfl rfl) (wA1 31 rfl rfl) (tX6_init_0_ok (1, .invokespecial 3, 3) (List.mem_of_getElem? (i := 1) rfl)) (by decide) (Nat.le_of_ble_eq_true rfl) ?_
  refine tt_aload_n rfl (List.Mem.head _) (tX6_init_0_ok (4, .aload_n 0, 1) (List.mem_of_getElem? (i := 2) rfl)) ?_
  refine tt_bipush rfl (tX6_init_0_ok (5, .bipush 6, 2) (List.mem_of_getElem? (i := 3) rfl)) ?_
  refine n_arr (L := 136) hT H0 rfl (by decide +kernel) (by decide) rfl (by decide) rfl (by decide) (by decide) (by decide) (tX6_init_0_ok (7, .newarray .int, 2) (List.mem_of_getElem? (i := 4) rfl)) (fun b1 S2 g3 H4 s5 m6 o7 => ?_)
  refine n_put (own := 11) (ci := 6) (k := 0) [.ref b1, .null, .null, .null, .null, .int 0, .long 0] rfl H4 rfl rfl (by decide) rfl rfl ⟨rfl, rfl⟩ (Nat.le_of_ble_eq_true rfl) (tX6_init_0_ok (9, .putfield 9, 3) (List.mem_of_getElem? (i := 5) rfl)) (fun g8 H9 f10 => ?_)
  refine tt_aload_n rfl (List.Mem.head _) (tX6_init_0_ok (12, .aload_n 0, 1) (List.mem_of_getElem? (i := 6) rfl)) ?_
  refine tt_bipush rfl (tX6_init_0_ok (13, .bipush 6, 2) (List.mem_of_getElem? (i := 7) rfl)) ?_
  refine n_arr (L := 137) hT H9 rfl (by decide +kernel) (by decide) rfl (by decide) rfl (by decide) (by decide) (by decide) (tX6_init_0_ok (15, .newarray .int, 2) (List.mem_of_getElem? (i := 8) rfl)) (fun b11 S12 g13 H14 s15 m16 o17 => ?_)
  refine n_put (own := 11) (ci := 6) (k := 1) [.ref b1, .ref b11, .null, .null, .null, .int 0, .long 0] rfl H14 rfl rfl (by decide) rfl rfl ⟨rfl, rfl⟩ (Nat.le_of_ble_eq_true rfl) (tX6_init_0_ok (17, .putfield 15, 3) (List.mem_of_getElem? (i := 9) rfl)) (fun g18 H19 f20 => ?_)
  refine tt_aload_n rfl (List.Mem.head _) (tX6_init_0_ok (20, .aload_n 0, 1) (List.mem_of_getElem? (i := 10) rfl)) ?_
  refine tt_bipush rfl (tX6_init_0_ok (21, .bipush 6, 2) (List.mem_of_getElem? (i := 11) rfl)) ?_
  refine n_arr (L := 138) hT H19 rfl (by decide +kernel) (by decide) rfl (by decide) rfl (by decide) (by decide) (by decide) (tX6_init_0_ok (23, .newarray .boolean, 2) (List.mem_of_getElem? (i := 12) rfl)) (fun b21 S22 g23 H24 s25 m26 o27 => ?_)
  refine n_put (own := 11) (ci := 6) (k := 2) [.ref b1, .ref b11, .ref b21, .null, .null, .int 0, .long 0] rfl H24 rfl rfl (by decide) rfl rfl ⟨rfl, rfl⟩ (Nat.le_of_ble_eq_true rfl) (tX6_init_0_ok (25, .putfield 18, 3) (List.mem_of_getElem? (i := 13) rfl)) (fun g28 H29 f30 => ?_)
  refine tt_aload_n rfl (List.Mem.head _) (tX6_init_0_ok (28, .aload_n 0, 1) (List.mem_of_getElem? (i := 14) rfl)) ?_
  refine tt_bipush rfl (tX6_init_0_ok (29, .bipush 12, 2) (List.mem_of_getElem? (i := 15) rfl)) ?_
  refine n_arr (L := 139) hT H29 rfl (by decide +kernel) (by decide) rfl (by decide) rfl (by decide) (by decide) (by decide) (tX6_init_0_ok (31, .newarray .int, 2) (List.mem_of_getElem? (i := 16) rfl)) (fun b31 S32 g33 H34 s35 m36 o37 => ?_)
  refine n_put (own := 11) (ci := 6) (k := 3) [.ref b1, .ref b11, .ref b21, .ref b31, .null, .int 0, .long 0] rfl H34 rfl rfl (by decide) rfl rfl ⟨rfl, rfl⟩ (Nat.le_of_ble_eq_true rfl) (tX6_init_0_ok (33, .putfield 22, 3) (List.mem_of_getElem? (i := 17) rfl)) (fun g38 H39 f40 => ?_)
  refine tt_aload_n rfl (List.Mem.head _) (tX6_init_0_ok (36, .aload_n 0, 1) (List.mem_of_getElem? (i := 18) rfl)) ?_
  refine tt_bipush rfl (tX6_init_0_ok (37, .bipush 8, 2) (List.mem_of_getElem? (i := 19) rfl)) ?_
  refine n_arr (L := 140) hT H39 rfl (by decide +kernel) (by decide) rfl (by decide) rfl (by decide) (by decide) (by decide) (tX6_init_0_ok (39, .newarray .int, 2) (List.mem_of_getElem? (i := 20) rfl)) (fun b41 S42 g43 H44 s45 m46 o47 => ?_)
  refine n_put (own := 11) (ci := 6) (k := 4) [.ref b1, .ref b11, .ref b21, .ref b31, .ref b41, .int 0, .long 0] rfl H44 rfl rfl (by decide) rfl rfl ⟨rfl, rfl⟩ (Nat.le_of_ble_eq_true rfl) (tX6_init_0_ok (41, .putfield 25, 3) (List.mem_of_getElem? (i := 21) rfl)) (fun g48 H49 f50 => ?_)
  refine tt_vret rfl (H49.fin (L := 135) ?_) (by decide) (by decide) (tX6_init_0_ok (44, .return_, 1) (List.mem_of_getElem? (i := 22) rfl))
  refine Or.inl ⟨rfl, _, rfl, rfl, fun k t hk => ?_⟩
  match k, hk with
  | 0, hk => cases hk; exact ⟨_, rfl, _, rfl, sg_le.up H49.2.2.1 _ _ (m46 _ _ (m36 _ _ (m26 _ _ (m16 _ _ s5))))⟩
  | 1, hk => cases hk; exact ⟨_, rfl, _, rfl, sg_le.up H49.2.2.1 _ _ (m46 _ _ (m36 _ _ (m26 _ _ s15)))⟩
  | 2, hk => cases hk; exact ⟨_, rfl, _, rfl, sg_le.up H49.2.2.1 _ _ (m46 _ _ (m36 _ _ s25))⟩
  | 3, hk => cases hk; exact ⟨_, rfl, _, rfl, sg_le.up H49.2.2.1 _ _ (m46 _ _ s35)⟩
  | 4, hk => cases hk; exact ⟨_, rfl, _, rfl, sg_le.up H49.2.2.1 _ _ s45⟩
  | 5, hk => cases hk; exact ⟨_, rfl, _, rfl, by decide, by decide⟩
  | 6, hk => cases hk; exact ⟨_, rfl, _, rfl⟩
  | k + 7, hk => cases hk
theorem nz_X6X_init (hT : k_tys tys cA) : k_nwX l D tys A X cA Lz (fun g b => ∃ fs, g b = some (.inr (6, fs)) ∧ fs[6]? = some (.long 0)) mX6_init 6 df_6 3 1 12 5 38 := by
  intro Sg a h hH ca sa
  have H0 : nS cA Lz Sg h a (.inr (6, df_6)) Sg h := ⟨hH, ca, sa, fun _ _ _ => ⟨rfl, rfl⟩⟩
  refine tt_aload_n rfl (List.Mem.head _) (tX6_init_0_ok (0, .aload_n 0, 1) (List.mem_of_getElem? (i := 0) rfl)) ?_
  refine tt_objInit (wA1 120 rfl rfl) (wA1 30 rfl rfl) (wA1 31 rfl rfl) (tX6_init_0_ok (1, .invokespecial 3, 3) (List.mem_of_getElem? (i := 1) rfl)) (by decide) (Nat.le_of_ble_eq_true rfl) ?_
  refine tt_aload_n rfl (List.Mem.head _) (tX6_init_0_ok (4, .aload_n 0, 1) (List.mem_of_getElem? (i := 2) rfl)) ?_
  refine tt_bipush rfl (tX6_init_0_ok (5, .bipush 6, 2) (List.mem_of_getElem? (i := 3) rfl)) ?_
  refine n_arr (L := 19) hT H0 rfl (by decide +kernel) (by decide) rfl (by decide) rfl (by decide) (by decide) (by decide) (tX6_init_0_ok (7, .newarray .int, 2) (List.mem_of_getElem? (i := 4) rfl)) (fun b1 S2 g3 H4 s5 m6 o7 => ?_)
  refine n_put (own := 11) (ci := 6) (k := 0) [.ref b1, .null, .null, .null, .null, .int 0, .long 0] rfl H4 rfl rfl (by decide) rfl rfl ⟨rfl, rfl⟩ (Nat.le_of_ble_eq_true rfl) (tX6_init_0_ok (9, .putfield 9, 3) (List.mem_of_getElem? (i := 5) rfl)) (fun g8 H9 f10 => ?_)
  refine tt_aload_n rfl (List.Mem.head _) (tX6_init_0_ok (12, .aload_n 0, 1) (List.mem_of_getElem? (i := 6) rfl)) ?_
  refine tt_bipush rfl (tX6_init_0_ok (13, .bipush 6, 2) (List.mem_of_getElem? (i := 7) rfl)) ?_
  refine n_arr (L := 20) hT H9 rfl (by decide +kernel) (by decide) rfl (by decide) rfl (by decide) (by decide) (by decide) (tX6_init_0_ok (15, .newarray .int, 2) (List.mem_of_getElem? (i := 8) rfl)) (fun b11 S12 g13 H14 s15 m16 o17 => ?_)
  refine n_put (own := 11) (ci := 6) (k := 1) [.ref b1, .ref b11, .null, .null, .null, .int 0, .long 0] rfl H14 rfl rfl (by decide) rfl rfl ⟨rfl, rfl⟩ (Nat.le_of_ble_eq_true rfl) (tX6_init_0_ok (17, .putfield 15, 3) (List.mem_of_getElem? (i := 9) rfl)) (fun g18 H19 f20 => ?_)
  refine tt_aload_n rfl (List.Mem.head _) (tX6_init_0_ok (20, .aload_n 0, 1) (List.mem_of_getElem? (i := 10) rfl)) ?_
  refine tt_bipush rfl (tX6_init_0_ok (21, .bipush 6, 2) (List.mem_of_getElem? (i := 11) rfl)) ?_
  refine n_arr (L := 21) hT H19 rfl (by decide +kernel) (by decide) rfl (by decide) rfl (by decide) (by decide) (by decide) (tX6_init_0_ok (23, .newarray .boolean, 2) (List.mem_of_getElem? (i := 12) rfl)) (fun b21 S22 g23 H24 s25 m26 o27 => ?_)
  refine n_put (own := 11) (ci := 6) (k := 2) [.ref b1, .ref b11, .ref b21, .null, .null, .int 0, .long 0] rfl H24 rfl rfl (by decide) rfl rfl ⟨rfl, rfl⟩ (Nat.le_of_ble_eq_true rfl) (tX6_init_0_ok (25, .putfield 18, 3) (List.mem_of_getElem? (i := 13) rfl)) (fun g28 H29 f30 => ?_)
  refine tt_aload_n rfl (List.Mem.head _) (tX6_init_0_ok (28, .aload_n 0, 1) (List.mem_of_getElem? (i := 14) rfl)) ?_
  refine tt_bipush rfl (tX6_init_0_ok (29, .bipush 12, 2) (List.mem_of_getElem? (i := 15) rfl)) ?_
  refine n_arr (L := 22) hT H29 rfl (by decide +kernel) (by decide) rfl (by decide) rfl (by decide) (by decide) (by decide) (tX6_init_0_ok (31, .newarray .int, 2) (List.mem_of_getElem? (i := 16) rfl)) (fun b31 S32 g33 H34 s35 m36 o37 => ?_)
  refine n_put (own := 11) (ci := 6) (k := 3) [.ref b1, .ref b11, .ref b21, .ref b31, .null, .int 0, .long 0] rfl H34 rfl rfl (by decide) rfl rfl ⟨rfl, rfl⟩ (Nat.le_of_ble_eq_true rfl) (tX6_init_0_ok (33, .putfield 22, 3) (List.mem_of_getElem? (i := 17) rfl)) (fun g38 H39 f40 => ?_)
  refine tt_aload_n rfl (List.Mem.head _) (tX6_init_0_ok (36, .aload_n 0, 1) (List.mem_of_getElem? (i := 18) rfl)) ?_
  refine tt_bipush rfl (tX6_init_0_ok (37, .bipush 8, 2) (List.mem_of_getElem? (i := 19) rfl)) ?_
  refine n_arr (L := 23) hT H39 rfl (by decide +kernel) (by decide) rfl (by decide) rfl (by decide) (by decide) (by decide) (tX6_init_0_ok (39, .newarray .int, 2) (List.mem_of_getElem? (i := 20) rfl)) (fun b41 S42 g43 H44 s45 m46 o47 => ?_)
  refine n_put (own := 11) (ci := 6) (k := 4) [.ref b1, .ref b11, .ref b21, .ref b31, .ref b41, .int 0, .long 0] rfl H44 rfl rfl (by decide) rfl rfl ⟨rfl, rfl⟩ (Nat.le_of_ble_eq_true rfl) (tX6_init_0_ok (41, .putfield 25, 3) (List.mem_of_getElem? (i := 21) rfl)) (fun g48 H49 f50 => ?_)
  refine tt_vret rfl ⟨H49.fin (L := 3) ?_, _, H49.2.1, rfl⟩ (by decide) (by decide) (tX6_init_0_ok (44, .return_, 1) (List.mem_of_getElem? (i := 22) rfl))
  refine Or.inl ⟨rfl, _, rfl, rfl, fun k t hk => ?_⟩
  match k, hk with
  | 0, hk => cases hk; exact ⟨_, rfl, _, rfl, sg_le.up H49.2.2.1 _ _ (m46 _ _ (m36 _ _ (m26 _ _ (m16 _ _ s5))))⟩
  | 1, hk => cases hk; exact ⟨_, rfl, _, rfl, sg_le.up H49.2.2.1 _ _ (m46 _ _ (m36 _ _ (m26 _ _ s15)))⟩
  | 2, hk => cases hk; exact ⟨_, rfl, _, rfl, sg_le.up H49.2.2.1 _ _ (m46 _ _ (m36 _ _ s25))⟩
  | 3, hk => cases hk; exact ⟨_, rfl, _, rfl, sg_le.up H49.2.2.1 _ _ (m46 _ _ s35)⟩
  | 4, hk => cases hk; exact ⟨_, rfl, _, rfl, sg_le.up H49.2.2.1 _ _ s45⟩
  | 5, hk => cases hk; exact ⟨_, rfl, _, rfl, by decide, by decide⟩
  | 6, hk => cases hk; exact ⟨_, rfl, _, rfl⟩
  | k + 7, hk => cases hk
theorem nz_X1_init (hT : k_tys tys cA) : k_nw l D tys A X cA Lz mX1_init 1 df_1 4 1 12 5 44 := by
  intro Sg a h hH ca sa
  have H0 : nS cA Lz Sg h a (.inr (1, df_1)) Sg h := ⟨hH, ca, sa, fun _ _ _ => ⟨rfl, rfl⟩⟩
  refine tt_aload_n rfl (List.Mem.head _) (tX1_init_0_ok (0, .aload_n 0, 1) (List.mem_of_getElem? (i := 0) rfl)) ?_
  refine tt_objInit (wA1 164 rfl rfl) (wA1 30 rfl rfl) (wA1 31 rfl rfl) (tX1_init_0_ok (1, .invokespecial 3, 3) (List.mem_of_getElem? (i := 1) rfl)) (by decide) (Nat.le_of_ble_eq_true rfl) ?_
  refine tt_aload_n rfl (List.Mem.head _) (tX1_init_0_ok (4, .aload_n 0, 1) (List.mem_of_getElem? (i := 2) rfl)) ?_
  refine tt_bipush rfl (tX1_init_0_ok (5, .bipush 6, 2) (List.mem_of_getElem? (i := 3) rfl)) ?_
  refine n_arr (L := 24) hT H0 rfl (by decide +kernel) (by decide) rfl (by decide) rfl (by decide) (by decide) (by decide) (tX1_init_0_ok (7, .newarray .int, 2) (List.mem_of_getElem? (i := 4) rfl)) (fun b1 S2 g3 H4 s5 m6 o7 => ?_)
  refine n_put (own := 6) (ci := 1) (k := 1) [.int 0, .ref b1, .null, .int 0, .null, .int 0, .null, .null] rfl H4 rfl rfl (by decide) rfl rfl ⟨rfl, rfl⟩ (Nat.le_of_ble_eq_true rfl) (tX1_init_0_ok (9, .putfield 9, 3) (List.mem_of_getElem? (i := 5) rfl)) (fun g8 H9 f10 => ?_)
  refine tt_aload_n rfl (List.Mem.head _) (tX1_init_0_ok (12, .aload_n 0, 1) (List.mem_of_getElem? (i := 6) rfl)) ?_
  refine tt_bipush rfl (tX1_init_0_ok (13, .bipush 18, 2) (List.mem_of_getElem? (i := 7) rfl)) ?_
  refine n_arr (L := 25) hT H9 rfl (by decide +kernel) (by decide) rfl (by decide) rfl (by decide) (by decide) (by decide) (tX1_init_0_ok (15, .newarray .int, 2) (List.mem_of_getElem? (i := 8) rfl)) (fun b11 S12 g13 H14 s15 m16 o17 => ?_)
  refine n_put (own := 6) (ci := 1) (k := 2) [.int 0, .ref b1, .ref b11, .int 0, .null, .int 0, .null, .null] rfl H14 rfl rfl (by decide) rfl rfl ⟨rfl, rfl⟩ (Nat.le_of_ble_eq_true rfl) (tX1_init_0_ok (17, .putfield 15, 3) (List.mem_of_getElem? (i := 9) rfl)) (fun g18 H19 f20 => ?_)
  refine tt_aload_n rfl (List.Mem.head _) (tX1_init_0_ok (20, .aload_n 0, 1) (List.mem_of_getElem? (i := 10) rfl)) ?_
  refine tt_bipush rfl (tX1_init_0_ok (21, .bipush 8, 2) (List.mem_of_getElem? (i := 11) rfl)) ?_
  refine n_arr (L := 26) hT H19 rfl (by decide +kernel) (by decide) rfl (by decide) rfl (by decide) (by decide) (by decide) (tX1_init_0_ok (23, .newarray .int, 2) (List.mem_of_getElem? (i := 12) rfl)) (fun b21 S22 g23 H24 s25 m26 o27 => ?_)
  refine n_put (own := 6) (ci := 1) (k := 4) [.int 0, .ref b1, .ref b11, .int 0, .ref b21, .int 0, .null, .null] rfl H24 rfl rfl (by decide) rfl rfl ⟨rfl, rfl⟩ (Nat.le_of_ble_eq_true rfl) (tX1_init_0_ok (25, .putfield 18, 3) (List.mem_of_getElem? (i := 13) rfl)) (fun g28 H29 f30 => ?_)
  refine tt_aload_n rfl (List.Mem.head _) (tX1_init_0_ok (28, .aload_n 0, 1) (List.mem_of_getElem? (i := 14) rfl)) ?_
  refine tt_bipush rfl (tX1_init_0_ok (29, .bipush 6, 2) (List.mem_of_getElem? (i := 15) rfl)) ?_
  refine n_arr (L := 27) hT H29 rfl (by decide +kernel) (by decide) rfl (by decide) rfl (by decide) (by decide) (by decide) (tX1_init_0_ok (31, .newarray .int, 2) (List.mem_of_getElem? (i := 16) rfl)) (fun b31 S32 g33 H34 s35 m36 o37 => ?_)
  refine n_put (own := 6) (ci := 1) (k := 6) [.int 0, .ref b1, .ref b11, .int 0, .ref b21, .int 0, .ref b31, .null] rfl H34 rfl rfl (by decide) rfl rfl ⟨rfl, rfl⟩ (Nat.le_of_ble_eq_true rfl) (tX1_init_0_ok (33, .putfield 21, 3) (List.mem_of_getElem? (i := 17) rfl)) (fun g38 H39 f40 => ?_)
  refine tt_aload_n rfl (List.Mem.head _) (tX1_init_0_ok (36, .aload_n 0, 1) (List.mem_of_getElem? (i := 18) rfl)) ?_
  refine tt_bipush rfl (tX1_init_0_ok (37, .bipush 6, 2) (List.mem_of_getElem? (i := 19) rfl)) ?_
  refine n_arr (L := 28) hT H39 rfl (by decide +kernel) (by decide) rfl (by decide) rfl (by decide) (by decide) (by decide) (tX1_init_0_ok (39, .newarray .int, 2) (List.mem_of_getElem? (i := 20) rfl)) (fun b41 S42 g43 H44 s45 m46 o47 => ?_)
  refine n_put (own := 6) (ci := 1) (k := 7) [.int 0, .ref b1, .ref b11, .int 0, .ref b21, .int 0, .ref b31, .ref b41] rfl H44 rfl rfl (by decide) rfl rfl ⟨rfl, rfl⟩ (Nat.le_of_ble_eq_true rfl) (tX1_init_0_ok (41, .putfield 24, 3) (List.mem_of_getElem? (i := 21) rfl)) (fun g48 H49 f50 => ?_)
  refine tt_vret rfl (H49.fin (L := 4) ?_) (by decide) (by decide) (tX1_init_0_ok (44, .return_, 1) (List.mem_of_getElem? (i := 22) rfl))
  refine Or.inl ⟨rfl, _, rfl, rfl, fun k t hk => ?_⟩
  match k, hk with
  | 0, hk => cases hk; exact ⟨_, rfl, _, rfl, by decide, by decide⟩
  | 1, hk => cases hk; exact ⟨_, rfl, _, rfl, sg_le.up H49.2.2.1 _ _ (m46 _ _ (m36 _ _ (m26 _ _ (m16 _ _ s5))))⟩
  | 2, hk => cases hk; exact ⟨_, rfl, _, rfl, sg_le.up H49.2.2.1 _ _ (m46 _ _ (m36 _ _ (m26 _ _ s15)))⟩
  | 3, hk => cases hk; exact ⟨_, rfl, _, rfl, by decide, by decide⟩
  | 4, hk => cases hk; exact ⟨_, rfl, _, rfl, sg_le.up H49.2.2.1 _ _ (m46 _ _ (m36 _ _ s25))⟩
  | 5, hk => cases hk; exact ⟨_, rfl, _, rfl, by decide, by decide⟩
  | 6, hk => cases hk; exact ⟨_, rfl, _, rfl, sg_le.up H49.2.2.1 _ _ (m46 _ _ s35)⟩
  | 7, hk => cases hk; exact ⟨_, rfl, _, rfl, sg_le.up H49.2.2.1 _ _ s45⟩
  | k + 8, hk => cases hk
theorem nz_X9_init (hT : k_tys tys cA) : k_nw l D tys A X cA Lz mX9_init 8 df_8 5 1 12 3 36 := by
  intro Sg a h hH ca sa
  have H0 : nS cA Lz Sg h a (.inr (8, df_8)) Sg h := ⟨hH, ca, sa, fun _ _ _ => ⟨rfl, rfl⟩⟩
  refine tt_aload_n rfl (List.Mem.head _) (tX9_init_0_ok (0, .aload_n 0, 1) (List.mem_of_getElem? (i := 0) rfl)) ?_
  refine tt_objInit (wA1 210 rfl rfl) (wA1 30 rfl rfl) (wA1 31 rfl rfl) (tX9_init_0_ok (1, .invokespecial 3, 3) (List.mem_of_getElem? (i := 1) rfl)) (by decide) (Nat.le_of_ble_eq_true rfl) ?_
  refine tt_aload_n rfl (List.Mem.head _) (tX9_init_0_ok (4, .aload_n 0, 1) (List.mem_of_getElem? (i := 2) rfl)) ?_
  refine tt_bipush rfl (tX9_init_0_ok (5, .bipush 12, 2) (List.mem_of_getElem? (i := 3) rfl)) ?_
  refine n_arr (L := 29) hT H0 rfl (by decide +kernel) (by decide) rfl (by decide) rfl (by decide) (by decide) (by decide) (tX9_init_0_ok (7, .newarray .int, 2) (List.mem_of_getElem? (i := 4) rfl)) (fun b1 S2 g3 H4 s5 m6 o7 => ?_)
  refine n_put (own := 14) (ci := 8) (k := 0) [.ref b1, .null, .null] rfl H4 rfl rfl (by decide) rfl rfl ⟨rfl, rfl⟩ (Nat.le_of_ble_eq_true rfl) (tX9_init_0_ok (9, .putfield 9, 3) (List.mem_of_getElem? (i := 5) rfl)) (fun g8 H9 f10 => ?_)
  refine tt_aload_n rfl (List.Mem.head _) (tX9_init_0_ok (12, .aload_n 0, 1) (List.mem_of_getElem? (i := 6) rfl)) ?_
  refine tt_bipush rfl (tX9_init_0_ok (13, .bipush 6, 2) (List.mem_of_getElem? (i := 7) rfl)) ?_
  refine n_arr (L := 30) hT H9 rfl (by decide +kernel) (by decide) rfl (by decide) rfl (by decide) (by decide) (by decide) (tX9_init_0_ok (15, .newarray .int, 2) (List.mem_of_getElem? (i := 8) rfl)) (fun b11 S12 g13 H14 s15 m16 o17 => ?_)
  refine n_put (own := 14) (ci := 8) (k := 1) [.ref b1, .ref b11, .null] rfl H14 rfl rfl (by decide) rfl rfl ⟨rfl, rfl⟩ (Nat.le_of_ble_eq_true rfl) (tX9_init_0_ok (17, .putfield 15, 3) (List.mem_of_getElem? (i := 9) rfl)) (fun g18 H19 f20 => ?_)
  refine tt_aload_n rfl (List.Mem.head _) (tX9_init_0_ok (20, .aload_n 0, 1) (List.mem_of_getElem? (i := 10) rfl)) ?_
  refine tt_bipush rfl (tX9_init_0_ok (21, .bipush 18, 2) (List.mem_of_getElem? (i := 11) rfl)) ?_
  refine n_arr (L := 31) hT H19 rfl (by decide +kernel) (by decide) rfl (by decide) rfl (by decide) (by decide) (by decide) (tX9_init_0_ok (23, .newarray .int, 2) (List.mem_of_getElem? (i := 12) rfl)) (fun b21 S22 g23 H24 s25 m26 o27 => ?_)
  refine n_put (own := 14) (ci := 8) (k := 2) [.ref b1, .ref b11, .ref b21] rfl H24 rfl rfl (by decide) rfl rfl ⟨rfl, rfl⟩ (Nat.le_of_ble_eq_true rfl) (tX9_init_0_ok (25, .putfield 18, 3) (List.mem_of_getElem? (i := 13) rfl)) (fun g28 H29 f30 => ?_)
  refine tt_vret rfl (H29.fin (L := 5) ?_) (by decide) (by decide) (tX9_init_0_ok (28, .return_, 1) (List.mem_of_getElem? (i := 14) rfl))
  refine Or.inl ⟨rfl, _, rfl, rfl, fun k t hk => ?_⟩
  match k, hk with
  | 0, hk => cases hk; exact ⟨_, rfl, _, rfl, sg_le.up H29.2.2.1 _ _ (m26 _ _ (m16 _ _ s5))⟩
  | 1, hk => cases hk; exact ⟨_, rfl, _, rfl, sg_le.up H29.2.2.1 _ _ (m26 _ _ s15)⟩
  | 2, hk => cases hk; exact ⟨_, rfl, _, rfl, sg_le.up H29.2.2.1 _ _ s25⟩
  | k + 3, hk => cases hk
theorem nz_X5_init (hT : k_tys tys cA) : k_nw l D tys A X cA Lz mX5_init 5 df_5 6 1 12 2 256 := by
  intro Sg a h hH ca sa
  have H0 : nS cA Lz Sg h a (.inr (5, df_5)) Sg h := ⟨hH, ca, sa, fun _ _ _ => ⟨rfl, rfl⟩⟩
  refine tt_aload_n rfl (List.Mem.head _) (tX5_init_0_ok (0, .aload_n 0, 1) (List.mem_of_getElem? (i := 0) rfl)) ?_
  refine tt_objInit (wA1 230 rfl rfl) (wA1 30 rfl rfl) (wA1 31 rfl rfl) (tX5_init_0_ok (1, .invokespecial 3, 3) (List.mem_of_getElem? (i := 1) rfl)) (by decide) (Nat.le_of_ble_eq_true rfl) ?_
  refine tt_aload_n rfl (List.Mem.head _) (tX5_init_0_ok (4, .aload_n 0, 1) (List.mem_of_getElem? (i := 2) rfl)) ?_
  refine tt_sipush rfl (tX5_init_0_ok (5, .sipush 192, 3) (List.mem_of_getElem? (i := 3) rfl)) ?_
  refine n_arr (L := 36) hT H0 rfl (by decide +kernel) (by decide) rfl (by decide) rfl (by decide) (by decide) (by decide) (tX5_init_0_ok (8, .newarray .int, 2) (List.mem_of_getElem? (i := 4) rfl)) (fun b1 S2 g3 H4 s5 m6 o7 => ?_)
  refine n_put (own := 10) (ci := 5) (k := 0) [.ref b1, .int 0, .null] rfl H4 rfl rfl (by decide) rfl rfl ⟨rfl, rfl⟩ (Nat.le_of_ble_eq_true rfl) (tX5_init_0_ok (10, .putfield 11, 3) (List.mem_of_getElem? (i := 5) rfl)) (fun g8 H9 f10 => ?_)
  refine tt_aload_n rfl (List.Mem.head _) (tX5_init_0_ok (13, .aload_n 0, 1) (List.mem_of_getElem? (i := 6) rfl)) ?_
  refine tt_bipush rfl (tX5_init_0_ok (14, .bipush 64, 2) (List.mem_of_getElem? (i := 7) rfl)) ?_
  refine n_arr (L := 37) hT H9 rfl (by decide +kernel) (by decide) rfl (by decide) rfl (by decide) (by decide) (by decide) (tX5_init_0_ok (16, .newarray .int, 2) (List.mem_of_getElem? (i := 8) rfl)) (fun b11 S12 g13 H14 s15 m16 o17 => ?_)
  refine n_put (own := 10) (ci := 5) (k := 2) [.ref b1, .int 0, .ref b11] rfl H14 rfl rfl (by decide) rfl rfl ⟨rfl, rfl⟩ (Nat.le_of_ble_eq_true rfl) (tX5_init_0_ok (18, .putfield 15, 3) (List.mem_of_getElem? (i := 9) rfl)) (fun g18 H19 f20 => ?_)
  refine tt_vret rfl (H19.fin (L := 6) ?_) (by decide) (by decide) (tX5_init_0_ok (21, .return_, 1) (List.mem_of_getElem? (i := 10) rfl))
  refine Or.inl ⟨rfl, _, rfl, rfl, fun k t hk => ?_⟩
  match k, hk with
  | 0, hk => cases hk; exact ⟨_, rfl, _, rfl, sg_le.up H19.2.2.1 _ _ (m16 _ _ s5)⟩
  | 1, hk => cases hk; exact ⟨_, rfl, _, rfl, by decide, by decide⟩
  | 2, hk => cases hk; exact ⟨_, rfl, _, rfl, sg_le.up H19.2.2.1 _ _ s15⟩
  | k + 3, hk => cases hk
theorem nz_X3_init (hT : k_tys tys cA) : k_nw l D tys A X cA Lz mX3_init 3 df_3 7 1 12 4 42 := by
  intro Sg a h hH ca sa
  have H0 : nS cA Lz Sg h a (.inr (3, df_3)) Sg h := ⟨hH, ca, sa, fun _ _ _ => ⟨rfl, rfl⟩⟩
  refine tt_aload_n rfl (List.Mem.head _) (tX3_init_0_ok (0, .aload_n 0, 1) (List.mem_of_getElem? (i := 0) rfl)) ?_
  refine tt_objInit (wA2 6 rfl rfl) (wA1 30 rfl rfl) (wA1 31 rfl rfl) (tX3_init_0_ok (1, .invokespecial 3, 3) (List.mem_of_getElem? (i := 1) rfl)) (by decide) (Nat.le_of_ble_eq_true rfl) ?_
  refine tt_aload_n rfl (List.Mem.head _) (tX3_init_0_ok (4, .aload_n 0, 1) (List.mem_of_getElem? (i := 2) rfl)) ?_
  refine tt_bipush rfl (tX3_init_0_ok (5, .bipush 12, 2) (List.mem_of_getElem? (i := 3) rfl)) ?_
  refine n_arr (L := 38) hT H0 rfl (by decide +kernel) (by decide) rfl (by decide) rfl (by decide) (by decide) (by decide) (tX3_init_0_ok (7, .newarray .int, 2) (List.mem_of_getElem? (i := 4) rfl)) (fun b1 S2 g3 H4 s5 m6 o7 => ?_)
  refine n_put (own := 8) (ci := 3) (k := 0) [.ref b1, .null, .int 0, .null, .null] rfl H4 rfl rfl (by decide) rfl rfl ⟨rfl, rfl⟩ (Nat.le_of_ble_eq_true rfl) (tX3_init_0_ok (9, .putfield 9, 3) (List.mem_of_getElem? (i := 5) rfl)) (fun g8 H9 f10 => ?_)
  refine tt_aload_n rfl (List.Mem.head _) (tX3_init_0_ok (12, .aload_n 0, 1) (List.mem_of_getElem? (i := 6) rfl)) ?_
  refine tt_bipush rfl (tX3_init_0_ok (13, .bipush 12, 2) (List.mem_of_getElem? (i := 7) rfl)) ?_
  refine n_arr (L := 39) hT H9 rfl (by decide +kernel) (by decide) rfl (by decide) rfl (by decide) (by decide) (by decide) (tX3_init_0_ok (15, .newarray .int, 2) (List.mem_of_getElem? (i := 8) rfl)) (fun b11 S12 g13 H14 s15 m16 o17 => ?_)
  refine n_put (own := 8) (ci := 3) (k := 1) [.ref b1, .ref b11, .int 0, .null, .null] rfl H14 rfl rfl (by decide) rfl rfl ⟨rfl, rfl⟩ (Nat.le_of_ble_eq_true rfl) (tX3_init_0_ok (17, .putfield 15, 3) (List.mem_of_getElem? (i := 9) rfl)) (fun g18 H19 f20 => ?_)
  refine tt_aload_n rfl (List.Mem.head _) (tX3_init_0_ok (20, .aload_n 0, 1) (List.mem_of_getElem? (i := 10) rfl)) ?_
  refine tt_bipush rfl (tX3_init_0_ok (21, .bipush 12, 2) (List.mem_of_getElem? (i := 11) rfl)) ?_
  refine n_arr (L := 40) hT H19 rfl (by decide +kernel) (by decide) rfl (by decide) rfl (by decide) (by decide) (by decide) (tX3_init_0_ok (23, .newarray .int, 2) (List.mem_of_getElem? (i := 12) rfl)) (fun b21 S22 g23 H24 s25 m26 o27 => ?_)
  refine n_put (own := 8) (ci := 3) (k := 3) [.ref b1, .ref b11, .int 0, .ref b21, .null] rfl H24 rfl rfl (by decide) rfl rfl ⟨rfl, rfl⟩ (Nat.le_of_ble_eq_true rfl) (tX3_init_0_ok (25, .putfield 18, 3) (List.mem_of_getElem? (i := 13) rfl)) (fun g28 H29 f30 => ?_)
  refine tt_aload_n rfl (List.Mem.head _) (tX3_init_0_ok (28, .aload_n 0, 1) (List.mem_of_getElem? (i := 14) rfl)) ?_
  refine tt_bipush rfl (tX3_init_0_ok (29, .bipush 6, 2) (List.mem_of_getElem? (i := 15) rfl)) ?_
  refine n_arr (L := 41) hT H29 rfl (by decide +kernel) (by decide) rfl (by decide) rfl (by decide) (by decide) (by decide) (tX3_init_0_ok (31, .newarray .int, 2) (List.mem_of_getElem? (i := 16) rfl)) (fun b31 S32 g33 H34 s35 m36 o37 => ?_)
  refine n_put (own := 8) (ci := 3) (k := 4) [.ref b1, .ref b11, .int 0, .ref b21, .ref b31] rfl H34 rfl rfl (by decide) rfl rfl ⟨rfl, rfl⟩ (Nat.le_of_ble_eq_true rfl) (tX3_init_0_ok (33, .putfield 21, 3) (List.mem_of_getElem? (i := 17) rfl)) (fun g38 H39 f40 => ?_)
  refine tt_vret rfl (H39.fin (L := 7) ?_) (by decide) (by decide) (tX3_init_0_ok (36, .return_, 1) (List.mem_of_getElem? (i := 18) rfl))
  refine Or.inl ⟨rfl, _, rfl, rfl, fun k t hk => ?_⟩
  match k, hk with
  | 0, hk => cases hk; exact ⟨_, rfl, _, rfl, sg_le.up H39.2.2.1 _ _ (m36 _ _ (m26 _ _ (m16 _ _ s5)))⟩
  | 1, hk => cases hk; exact ⟨_, rfl, _, rfl, sg_le.up H39.2.2.1 _ _ (m36 _ _ (m26 _ _ s15))⟩
  | 2, hk => cases hk; exact ⟨_, rfl, _, rfl, by decide, by decide⟩
  | 3, hk => cases hk; exact ⟨_, rfl, _, rfl, sg_le.up H39.2.2.1 _ _ (m36 _ _ s25)⟩
  | 4, hk => cases hk; exact ⟨_, rfl, _, rfl, sg_le.up H39.2.2.1 _ _ s35⟩
  | k + 5, hk => cases hk
def sgt (Sg : Nat → Option Nat) (q : Nat) (r : Nat → Nat) : Nat → Option Nat := fun b => if b = q then some 42 else if b = r 0 then some 80 else if b = r 1 then some 81 else if b = r 2 then some 82 else if b = r 3 then some 83 else if b = r 4 then some 84 else if b = r 5 then some 85 else Sg b
theorem nz_tab {h0 h g : ch_H} {Sg0 Sg : Nat → Option Nat} {a q : Nat} {e : va_E} {r : Nat → Nat} (H : nS cA Lz Sg0 h0 a e Sg h) (h1 : h q = none) (h2 : ∀ i, i < 6 → h (r i) = none ∧ r i ≠ q) (h3 : g q = some (.inl (cA 5, 6, .inr (.inr (.inr (.inr (fun i => if i < 6 then some (r i) else none))))))) (h4 : ∀ i, i < 6 → g (r i) = some (.inl (cA 0, 121, .inl (fun _ => 0)))) (h5 : ∀ b, b ≠ q → (∀ i, i < 6 → b ≠ r i) → g b = h b) (h6 : ∀ i j, i < 6 → j < 6 → i ≠ j → r i ≠ r j) : ∃ Sg1, nS cA Lz Sg0 h0 a e Sg1 g ∧ Sg1 q = some 42 ∧ sg_le Sg Sg1 := by
  have sn : ∀ b M, Sg b = some M → b ≠ q ∧ ∀ i, i < 6 → b ≠ r i := fun b M hb => ⟨fun e => H.1.some_ hb (by rw [e]; exact h1), fun i hi e => H.1.some_ hb (by rw [e]; exact (h2 i hi).1)⟩
  have on : ∀ b, h b ≠ none → b ≠ q ∧ ∀ i, i < 6 → b ≠ r i := fun b hb => ⟨fun e => hb (by rw [e]; exact h1), fun i hi e => hb (by rw [e]; exact (h2 i hi).1)⟩
  have hrow0 : sgt Sg q r (r 0) = some 80 := by
    unfold sgt
    rw [if_neg (h2 0 (by decide)).2, if_pos rfl]
  have hrow1 : sgt Sg q r (r 1) = some 81 := by
    unfold sgt
    rw [if_neg (h2 1 (by decide)).2, if_neg (h6 1 0 (by decide) (by decide) (by decide)), if_pos rfl]
  have hrow2 : sgt Sg q r (r 2) = some 82 := by
    unfold sgt
    rw [if_neg (h2 2 (by decide)).2, if_neg (h6 2 0 (by decide) (by decide) (by decide)), if_neg (h6 2 1 (by decide) (by decide) (by decide)), if_pos rfl]
  have hrow3 : sgt Sg q r (r 3) = some 83 := by
    unfold sgt
    rw [if_neg (h2 3 (by decide)).2, if_neg (h6 3 0 (by decide) (by decide) (by decide)), if_neg (h6 3 1 (by decide) (by decide) (by decide)), if_neg (h6 3 2 (by decide) (by decide) (by decide)), if_pos rfl]
  have hrow4 : sgt Sg q r (r 4) = some 84 := by
    unfold sgt
    rw [if_neg (h2 4 (by decide)).2, if_neg (h6 4 0 (by decide) (by decide) (by decide)), if_neg (h6 4 1 (by decide) (by decide) (by decide)), if_neg (h6 4 2 (by decide) (by decide) (by decide)), if_neg (h6 4 3 (by decide) (by decide) (by decide)), if_pos rfl]
  have hrow5 : sgt Sg q r (r 5) = some 85 := by
    unfold sgt
    rw [if_neg (h2 5 (by decide)).2, if_neg (h6 5 0 (by decide) (by decide) (by decide)), if_neg (h6 5 1 (by decide) (by decide) (by decide)), if_neg (h6 5 2 (by decide) (by decide) (by decide)), if_neg (h6 5 3 (by decide) (by decide) (by decide)), if_neg (h6 5 4 (by decide) (by decide) (by decide)), if_pos rfl]
  have hold : ∀ b, b ≠ q → (∀ i, i < 6 → b ≠ r i) → sgt Sg q r b = Sg b := fun b b1 b2 => by
    unfold sgt
    rw [if_neg b1, if_neg (b2 0 (by decide)), if_neg (b2 1 (by decide)), if_neg (b2 2 (by decide)), if_neg (b2 3 (by decide)), if_neg (b2 4 (by decide)), if_neg (b2 5 (by decide))]
  have hle : sg_le Sg (sgt Sg q r) := fun b M hb => (hold b (sn b M hb).1 (sn b M hb).2).trans hb
  have ha := on a (by rw [H.2.1]; exact fun q => by cases q)
  have hq42 : sgt Sg q r q = some 42 := if_pos rfl
  refine ⟨sgt Sg q r, ⟨fun b M hb => ?_, (h5 a ha.1 ha.2).trans H.2.1, (hold a ha.1 ha.2).trans H.2.2.1, fun b hb hn => ?_⟩, hq42, hle⟩
  · by_cases eb : b = q
    · rw [eb, hq42] at hb
      cases hb
      rw [eb]
      refine ⟨_, h3, Or.inr (Or.inr ⟨rfl, _, rfl, fun i hi => ?_⟩)⟩
      have hi : i < 6 := hi
      rw [if_pos hi]
      match i, hi with
      | 0, _ => exact ⟨r 0, rfl, hrow0⟩
      | 1, _ => exact ⟨r 1, rfl, hrow1⟩
      | 2, _ => exact ⟨r 2, rfl, hrow2⟩
      | 3, _ => exact ⟨r 3, rfl, hrow3⟩
      | 4, _ => exact ⟨r 4, rfl, hrow4⟩
      | 5, _ => exact ⟨r 5, rfl, hrow5⟩
    · by_cases e0 : b = r 0
      · subst e0
        rw [hrow0] at hb
        cases hb
        exact ⟨_, h4 0 (by decide), Or.inr (Or.inl ⟨rfl, _, rfl, fun i hi => ⟨by show (0 : Int) ≤ 0; decide, by show (0 : Int) ≤ 0; decide⟩⟩)⟩
      · by_cases e1 : b = r 1
        · subst e1
          rw [hrow1] at hb
          cases hb
          exact ⟨_, h4 1 (by decide), Or.inr (Or.inl ⟨rfl, _, rfl, fun i hi => ⟨by show (0 : Int) ≤ 0; decide, by show (0 : Int) ≤ 0; decide⟩⟩)⟩
        · by_cases e2 : b = r 2
          · subst e2
            rw [hrow2] at hb
            cases hb
            exact ⟨_, h4 2 (by decide), Or.inr (Or.inl ⟨rfl, _, rfl, fun i hi => ⟨by show (0 : Int) ≤ 0; decide, by show (0 : Int) ≤ 0; decide⟩⟩)⟩
          · by_cases e3 : b = r 3
            · subst e3
              rw [hrow3] at hb
              cases hb
              exact ⟨_, h4 3 (by decide), Or.inr (Or.inl ⟨rfl, _, rfl, fun i hi => ⟨by show (0 : Int) ≤ 0; decide, by show (0 : Int) ≤ 0; decide⟩⟩)⟩
            · by_cases e4 : b = r 4
              · subst e4
                rw [hrow4] at hb
                cases hb
                exact ⟨_, h4 4 (by decide), Or.inr (Or.inl ⟨rfl, _, rfl, fun i hi => ⟨by show (0 : Int) ≤ 0; decide, by show (0 : Int) ≤ 0; decide⟩⟩)⟩
              · by_cases e5 : b = r 5
                · subst e5
                  rw [hrow5] at hb
                  cases hb
                  exact ⟨_, h4 5 (by decide), Or.inr (Or.inl ⟨rfl, _, rfl, fun i hi => ⟨by show (0 : Int) ≤ 0; decide, by show (0 : Int) ≤ 0; decide⟩⟩)⟩
                · have wn : ∀ i, i < 6 → b ≠ r i := fun i hi => by
                    match i, hi with
                    | 0, _ => exact e0
                    | 1, _ => exact e1
                    | 2, _ => exact e2
                    | 3, _ => exact e3
                    | 4, _ => exact e4
                    | 5, _ => exact e5
                  rw [hold b eb wn] at hb
                  obtain ⟨e9, f1, f2⟩ := H.1 b M hb
                  exact ⟨e9, by rw [h5 b eb wn]; exact f1, f2.le hle⟩
  · have w := H.2.2.2 b hb hn
    have wn := on b (by rw [w.1]; exact hn)
    exact ⟨(h5 b wn.1 wn.2).trans w.1, (hold b wn.1 wn.2).trans w.2⟩
theorem nz_X0_init (hT : k_tys tys cA) (hN : k_NX X) : k_nw l D tys A X cA Lz mX0_init 0 df_0 8 1 12 8 738 := by
  intro Sg a h hH ca sa
  have H0 : nS cA Lz Sg h a (.inr (0, df_0)) Sg h := ⟨hH, ca, sa, fun _ _ _ => ⟨rfl, rfl⟩⟩
  refine tt_aload_n rfl (List.Mem.head _) (tX0_init_0_ok (0, .aload_n 0, 1) (List.mem_of_getElem? (i := 0) rfl)) ?_
  refine tt_objInit (wA2 29 rfl rfl) (wA1 30 rfl rfl) (wA1 31 rfl rfl) (tX0_init_0_ok (1, .invokespecial 3, 3) (List.mem_of_getElem? (i := 1) rfl)) (by decide) (Nat.le_of_ble_eq_true rfl) ?_
  refine tt_aload_n rfl (List.Mem.head _) (tX0_init_0_ok (4, .aload_n 0, 1) (List.mem_of_getElem? (i := 2) rfl)) ?_
  refine tt_bipush rfl (tX0_init_0_ok (5, .bipush 6, 2) (List.mem_of_getElem? (i := 3) rfl)) ?_
  refine tt_bipush rfl (tX0_init_0_ok (7, .bipush 121, 2) (List.mem_of_getElem? (i := 4) rfl)) ?_
  refine tt_mnaI (N' := 6) (K' := 121) (wA2 30 rfl rfl) wArr_int (fun s x => (hN s x).2.2.2.2.2.2.2.2.2.2.2) (hT 0 (by decide)) (hT 5 (by decide)) (by decide) (by decide) rfl rfl (by decide) (by decide) (by decide) (by decide) (by decide) (tX0_init_0_ok (9, .multianewarray 11 2, 4) (List.mem_of_getElem? (i := 5) rfl)) (fun q r g h1 h2 h3 h4 h5 h6 => ?_)
  obtain ⟨S1, H1, s1, m1⟩ := nz_tab H0 h1 h2 h3 h4 h5 h6
  refine n_put (own := 5) (ci := 0) (k := 0) [.ref q, .null, .int 0] rfl H1 rfl rfl (by decide) rfl rfl ⟨rfl, rfl⟩ (Nat.le_of_ble_eq_true rfl) (tX0_init_0_ok (13, .putfield 13, 3) (List.mem_of_getElem? (i := 6) rfl)) (fun g2 H2 f2 => ?_)
  refine tt_aload_n rfl (List.Mem.head _) (tX0_init_0_ok (16, .aload_n 0, 1) (List.mem_of_getElem? (i := 7) rfl)) ?_
  refine tt_bipush rfl (tX0_init_0_ok (17, .bipush 6, 2) (List.mem_of_getElem? (i := 8) rfl)) ?_
  refine n_arr (L := 44) hT H2 rfl (by decide +kernel) (by decide) rfl (by decide) rfl (by decide) (by decide) (by decide) (tX0_init_0_ok (19, .newarray .int, 2) (List.mem_of_getElem? (i := 9) rfl)) (fun b3 S3 g3 H3 s3 m3 o3 => ?_)
  refine n_put (own := 5) (ci := 0) (k := 1) [.ref q, .ref b3, .int 0] rfl H3 rfl rfl (by decide) rfl rfl ⟨rfl, rfl⟩ (Nat.le_of_ble_eq_true rfl) (tX0_init_0_ok (21, .putfield 16, 3) (List.mem_of_getElem? (i := 10) rfl)) (fun g4 H4 f4 => ?_)
  refine tt_vret rfl (H4.fin (L := 8) ?_) (by decide) (by decide) (tX0_init_0_ok (24, .return_, 1) (List.mem_of_getElem? (i := 11) rfl))
  refine Or.inl ⟨rfl, _, rfl, rfl, fun k t hk => ?_⟩
  match k, hk with
  | 0, hk => cases hk; exact ⟨_, rfl, _, rfl, sg_le.up H4.2.2.1 _ _ (m3 _ _ s1)⟩
  | 1, hk => cases hk; exact ⟨_, rfl, _, rfl, sg_le.up H4.2.2.1 _ _ s3⟩
  | 2, hk => cases hk; exact ⟨_, rfl, _, rfl, by decide, by decide⟩
  | k + 3, hk => cases hk
theorem nz_X2_init (hT : k_tys tys cA) (hN : k_NX X) : k_nw l D tys A X cA Lz mX2_init 2 df_2 9 2 32 43 322 := by
  intro Sg a h hH ca sa
  have H0 : nS cA Lz Sg h a (.inr (2, df_2)) Sg h := ⟨hH, ca, sa, fun _ _ _ => ⟨rfl, rfl⟩⟩
  refine tt_aload_n rfl (List.Mem.head _) (tX2_init_0_ok (0, .aload_n 0, 1) (List.mem_of_getElem? (i := 0) rfl)) ?_
  refine tt_objInit (wA2 47 rfl rfl) (wA1 30 rfl rfl) (wA1 31 rfl rfl) (tX2_init_0_ok (1, .invokespecial 3, 3) (List.mem_of_getElem? (i := 1) rfl)) (by decide) (Nat.le_of_ble_eq_true rfl) ?_
  refine tt_aload_n rfl (List.Mem.head _) (tX2_init_0_ok (4, .aload_n 0, 1) (List.mem_of_getElem? (i := 2) rfl)) ?_
  refine tt_bipush rfl (tX2_init_0_ok (5, .bipush 7, 2) (List.mem_of_getElem? (i := 3) rfl)) ?_
  refine tt_newq (N' := 7) (wA2 48 rfl rfl) (fun s x => (hN s x).2.2.2.2.2.2.2.2.2.2.1) (hT 3 (by decide)) (by decide) rfl (by decide) (by decide) (by decide) (tX2_init_0_ok (7, .anewarray 9, 3) (List.mem_of_getElem? (i := 4) rfl)) (fun r hr => ?_)
  have n_r_a : r ≠ a := fun q => by rw [q, ca] at hr; cases hr
  have H1 := H0.raw (eb := .inl (cA 3, 7, .inr (.inr (.inr (.inr (fun _ => none)))))) hr
  refine n_put (own := 7) (ci := 2) (k := 0) [.ref r, .int 0, .int 0] rfl H1 rfl rfl (by decide) rfl rfl ⟨rfl, rfl⟩ (Nat.le_of_ble_eq_true rfl) (tX2_init_0_ok (10, .putfield 11, 3) (List.mem_of_getElem? (i := 5) rfl)) (fun g2 H2 f2 => ?_)
  have sr : Sg r = none := H0.1.none_ hr
  have J0 : nS cA Lz Sg g2 r (.inl (cA 3, 7, .inr (.inr (.inr (.inr (fun _ => none)))))) Sg g2 := ⟨H2.1, (f2 r n_r_a).trans (ch_up_s _ _ _), sr, fun _ _ _ => ⟨rfl, rfl⟩⟩
  have ga : g2 a = some (.inr (2, [.ref r, .int 0, .int 0])) := H2.2.1
  have gn : g2 a ≠ none := by rw [ga]; exact fun q => by cases q
  refine tt_iconst rfl (tX2_init_0_ok (13, .iconst 0, 1) (List.mem_of_getElem? (i := 6) rfl)) ?_
  refine tt_istore_n rfl (tX2_init_0_ok (14, .istore_n 1, 1) (List.mem_of_getElem? (i := 7) rfl)) (by decide) ?_
  show tt l D tys A X _ _ _ _ mX2_init _ 15 [(1, .int 0), (0, .ref a)] [] g2 _ _
  refine tt_iload_n rfl (List.Mem.head _) (tX2_init_0_ok (15, .iload_n 1, 1) (List.mem_of_getElem? (i := 8) rfl)) ?_
  refine tt_bipush rfl (tX2_init_0_ok (16, .bipush 6, 2) (List.mem_of_getElem? (i := 9) rfl)) ?_
  refine tt_icmp_gt (tgt := 40) (tX2_init_0_ok (18, .if_icmp .gt 22, 3) (List.mem_of_getElem? (i := 10) rfl)) rfl (fun b9 => absurd b9 (by decide)) (fun b9 => ?_)
  refine tt_aload_n rfl (List.Mem.tail _ (List.Mem.head _)) (tX2_init_0_ok (21, .aload_n 0, 1) (List.mem_of_getElem? (i := 11) rfl)) ?_
  refine tt_get (pg_k 2 (by decide)) ((J0.2.2.2 a (Ne.symm n_r_a) gn).1.trans ga) (by decide) (pg_fw 7 _ (k_fd_ok (q := (2, 0)) rfl)) rfl (tX2_init_0_ok (22, .getfield 11, 3) (List.mem_of_getElem? (i := 12) rfl)) ?_
  refine tt_iload_n rfl (List.Mem.head _) (tX2_init_0_ok (25, .iload_n 1, 1) (List.mem_of_getElem? (i := 13) rfl)) ?_
  refine n_obj J0 (nz_X6s3_init hT) (wA2 48 rfl rfl) (wA1 116 rfl rfl) (wA1 4 rfl rfl) (by decide) df_6_ok kX6_init rfl rfl (Or.inl ⟨_, (fun s x => (hN s x).2.2.2.2.2.2.2.2.1)⟩) iX6_init (by decide) (by decide) (by decide) (Nat.le_of_ble_eq_true rfl) (fun _ => Nat.le_of_ble_eq_true rfl) (tX2_init_0_ok (26, .new 9, 3) (List.mem_of_getElem? (i := 14) rfl)) (tX2_init_0_ok (29, .dup, 1) (List.mem_of_getElem? (i := 15) rfl)) (tX2_init_0_ok (30, .invokespecial 17, 3) (List.mem_of_getElem? (i := 16) rfl)) (fun b0 S0 x0 K0 s0 m0 o0 => ?_)
  obtain ⟨v0, w0, -, -⟩ := K0.1.obj s0 rfl
  refine tt_aast K0.2.1 (hT 3 (by decide)) w0 (r := (RX6, TX6, 7)) rfl (kn_in (by decide) (by decide)) (tX2_init_0_ok (33, .aastore, 1) (List.mem_of_getElem? (i := 17) rfl)) ?_
  have L0 := K0.put (e2 := .inl (cA 3, 7, .inr (.inr (.inr (.inr (va_up (fun _ => none) (Int32.toNatClampNeg 0) (some b0)))))))
  refine tt_iinc (tX2_init_0_ok (34, .iinc 1 1, 3) (List.mem_of_getElem? (i := 18) rfl)) (List.Mem.head _) (by decide) ?_
  refine tt_goto (tgt := 15) (tX2_init_0_ok (37, .goto (-22), 3) (List.mem_of_getElem? (i := 19) rfl)) rfl ?_
  show tt l D tys A X _ _ _ _ mX2_init _ 15 [(1, .int 1), (0, .ref a)] [] _ _ _
  refine tt_iload_n rfl (List.Mem.head _) (tX2_init_0_ok (15, .iload_n 1, 1) (List.mem_of_getElem? (i := 8) rfl)) ?_
  refine tt_bipush rfl (tX2_init_0_ok (16, .bipush 6, 2) (List.mem_of_getElem? (i := 9) rfl)) ?_
  refine tt_icmp_gt (tgt := 40) (tX2_init_0_ok (18, .if_icmp .gt 22, 3) (List.mem_of_getElem? (i := 10) rfl)) rfl (fun b9 => absurd b9 (by decide)) (fun b9 => ?_)
  refine tt_aload_n rfl (List.Mem.tail _ (List.Mem.head _)) (tX2_init_0_ok (21, .aload_n 0, 1) (List.mem_of_getElem? (i := 11) rfl)) ?_
  refine tt_get (pg_k 2 (by decide)) ((L0.2.2.2 a (Ne.symm n_r_a) gn).1.trans ga) (by decide) (pg_fw 7 _ (k_fd_ok (q := (2, 0)) rfl)) rfl (tX2_init_0_ok (22, .getfield 11, 3) (List.mem_of_getElem? (i := 12) rfl)) ?_
  refine tt_iload_n rfl (List.Mem.head _) (tX2_init_0_ok (25, .iload_n 1, 1) (List.mem_of_getElem? (i := 13) rfl)) ?_
  refine n_obj L0 (nz_X6s4_init hT) (wA2 48 rfl rfl) (wA1 116 rfl rfl) (wA1 4 rfl rfl) (by decide) df_6_ok kX6_init rfl rfl (Or.inl ⟨_, (fun s x => (hN s x).2.2.2.2.2.2.2.2.1)⟩) iX6_init (by decide) (by decide) (by decide) (Nat.le_of_ble_eq_true rfl) (fun _ => Nat.le_of_ble_eq_true rfl) (tX2_init_0_ok (26, .new 9, 3) (List.mem_of_getElem? (i := 14) rfl)) (tX2_init_0_ok (29, .dup, 1) (List.mem_of_getElem? (i := 15) rfl)) (tX2_init_0_ok (30, .invokespecial 17, 3) (List.mem_of_getElem? (i := 16) rfl)) (fun b1 S1 x1 K1 s1 m1 o1 => ?_)
  obtain ⟨v1, w1, -, -⟩ := K1.1.obj s1 rfl
  refine tt_aast K1.2.1 (hT 3 (by decide)) w1 (r := (RX6, TX6, 7)) rfl (kn_in (by decide) (by decide)) (tX2_init_0_ok (33, .aastore, 1) (List.mem_of_getElem? (i := 17) rfl)) ?_
  have L1 := K1.put (e2 := .inl (cA 3, 7, .inr (.inr (.inr (.inr (va_up (va_up (fun _ => none) (Int32.toNatClampNeg 0) (some b0)) (Int32.toNatClampNeg 1) (some b1)))))))
  refine tt_iinc (tX2_init_0_ok (34, .iinc 1 1, 3) (List.mem_of_getElem? (i := 18) rfl)) (List.Mem.head _) (by decide) ?_
  refine tt_goto (tgt := 15) (tX2_init_0_ok (37, .goto (-22), 3) (List.mem_of_getElem? (i := 19) rfl)) rfl ?_
  show tt l D tys A X _ _ _ _ mX2_init _ 15 [(1, .int 2), (0, .ref a)] [] _ _ _
  refine tt_iload_n rfl (List.Mem.head _) (tX2_init_0_ok (15, .iload_n 1, 1) (List.mem_of_getElem? (i := 8) rfl)) ?_
  refine tt_bipush rfl (tX2_init_0_ok (16, .bipush 6, 2) (List.mem_of_getElem? (i := 9) rfl)) ?_
  refine tt_icmp_gt (tgt := 40) (tX2_init_0_ok (18, .if_icmp .gt 22, 3) (List.mem_of_getElem? (i := 10) rfl)) rfl (fun b9 => absurd b9 (by decide)) (fun b9 => ?_)
  refine tt_aload_n rfl (List.Mem.tail _ (List.Mem.head _)) (tX2_init_0_ok (21, .aload_n 0, 1) (List.mem_of_getElem? (i := 11) rfl)) ?_
  refine tt_get (pg_k 2 (by decide)) ((L1.2.2.2 a (Ne.symm n_r_a) gn).1.trans ga) (by decide) (pg_fw 7 _ (k_fd_ok (q := (2, 0)) rfl)) rfl (tX2_init_0_ok (22, .getfield 11, 3) (List.mem_of_getElem? (i := 12) rfl)) ?_
  refine tt_iload_n rfl (List.Mem.head _) (tX2_init_0_ok (25, .iload_n 1, 1) (List.mem_of_getElem? (i := 13) rfl)) ?_
  refine n_obj L1 (nz_X6s5_init hT) (wA2 48 rfl rfl) (wA1 116 rfl rfl) (wA1 4 rfl rfl) (by decide) df_6_ok kX6_init rfl rfl (Or.inl ⟨_, (fun s x => (hN s x).2.2.2.2.2.2.2.2.1)⟩) iX6_init (by decide) (by decide) (by decide) (Nat.le_of_ble_eq_true rfl) (fun _ => Nat.le_of_ble_eq_true rfl) (tX2_init_0_ok (26, .new 9, 3) (List.mem_of_getElem? (i := 14) rfl)) (tX2_init_0_ok (29, .dup, 1) (List.mem_of_getElem? (i := 15) rfl)) (tX2_init_0_ok (30, .invokespecial 17, 3) (List.mem_of_getElem? (i := 16) rfl)) (fun b2 S2 x2 K2 s2 m2 o2 => ?_)
  obtain ⟨v2, w2, -, -⟩ := K2.1.obj s2 rfl
  refine tt_aast K2.2.1 (hT 3 (by decide)) w2 (r := (RX6, TX6, 7)) rfl (kn_in (by decide) (by decide)) (tX2_init_0_ok (33, .aastore, 1) (List.mem_of_getElem? (i := 17) rfl)) ?_
  have L2 := K2.put (e2 := .inl (cA 3, 7, .inr (.inr (.inr (.inr (va_up (va_up (va_up (fun _ => none) (Int32.toNatClampNeg 0) (some b0)) (Int32.toNatClampNeg 1) (some b1)) (Int32.toNatClampNeg 2) (some b2)))))))
  refine tt_iinc (tX2_init_0_ok (34, .iinc 1 1, 3) (List.mem_of_getElem? (i := 18) rfl)) (List.Mem.head _) (by decide) ?_
  refine tt_goto (tgt := 15) (tX2_init_0_ok (37, .goto (-22), 3) (List.mem_of_getElem? (i := 19) rfl)) rfl ?_
  show tt l D tys A X _ _ _ _ mX2_init _ 15 [(1, .int 3), (0, .ref a)] [] _ _ _
  refine tt_iload_n rfl (List.Mem.head _) (tX2_init_0_ok (15, .iload_n 1, 1) (List.mem_of_getElem? (i := 8) rfl)) ?_
  refine tt_bipush rfl (tX2_init_0_ok (16, .bipush 6, 2) (List.mem_of_getElem? (i := 9) rfl)) ?_
  refine tt_icmp_gt (tgt := 40) (tX2_init_0_ok (18, .if_icmp .gt 22, 3) (List.mem_of_getElem? (i := 10) rfl)) rfl (fun b9 => absurd b9 (by decide)) (fun b9 => ?_)
  refine tt_aload_n rfl (List.Mem.tail _ (List.Mem.head _)) (tX2_init_0_ok (21, .aload_n 0, 1) (List.mem_of_getElem? (i := 11) rfl)) ?_
  refine tt_get (pg_k 2 (by decide)) ((L2.2.2.2 a (Ne.symm n_r_a) gn).1.trans ga) (by decide) (pg_fw 7 _ (k_fd_ok (q := (2, 0)) rfl)) rfl (tX2_init_0_ok (22, .getfield 11, 3) (List.mem_of_getElem? (i := 12) rfl)) ?_
  refine tt_iload_n rfl (List.Mem.head _) (tX2_init_0_ok (25, .iload_n 1, 1) (List.mem_of_getElem? (i := 13) rfl)) ?_
  refine n_obj L2 (nz_X6s6_init hT) (wA2 48 rfl rfl) (wA1 116 rfl rfl) (wA1 4 rfl rfl) (by decide) df_6_ok kX6_init rfl rfl (Or.inl ⟨_, (fun s x => (hN s x).2.2.2.2.2.2.2.2.1)⟩) iX6_init (by decide) (by decide) (by decide) (Nat.le_of_ble_eq_true rfl) (fun _ => Nat.le_of_ble_eq_true rfl) (tX2_init_0_ok (26, .new 9, 3) (List.mem_of_getElem? (i := 14) rfl)) (tX2_init_0_ok (29, .dup, 1) (List.mem_of_getElem? (i := 15) rfl)) (tX2_init_0_ok (30, .invokespecial 17, 3) (List.mem_of_getElem? (i := 16) rfl)) (fun b3 S3 x3 K3 s3 m3 o3 => ?_)
  obtain ⟨v3, w3, -, -⟩ := K3.1.obj s3 rfl
  refine tt_aast K3.2.1 (hT 3 (by decide)) w3 (r := (RX6, TX6, 7)) rfl (kn_in (by decide) (by decide)) (tX2_init_0_ok (33, .aastore, 1) (List.mem_of_getElem? (i := 17) rfl)) ?_
  have L3 := K3.put (e2 := .inl (cA 3, 7, .inr (.inr (.inr (.inr (va_up (va_up (va_up (va_up (fun _ => none) (Int32.toNatClampNeg 0) (some b0)) (Int32.toNatClampNeg 1) (some b1)) (Int32.toNatClampNeg 2) (some b2)) (Int32.toNatClampNeg 3) (some b3)))))))
  refine tt_iinc (tX2_init_0_ok (34, .iinc 1 1, 3) (List.mem_of_getElem? (i := 18) rfl)) (List.Mem.head _) (by decide) ?_
  refine tt_goto (tgt := 15) (tX2_init_0_ok (37, .goto (-22), 3) (List.mem_of_getElem? (i := 19) rfl)) rfl ?_
  show tt l D tys A X _ _ _ _ mX2_init _ 15 [(1, .int 4), (0, .ref a)] [] _ _ _
  refine tt_iload_n rfl (List.Mem.head _) (tX2_init_0_ok (15, .iload_n 1, 1) (List.mem_of_getElem? (i := 8) rfl)) ?_
  refine tt_bipush rfl (tX2_init_0_ok (16, .bipush 6, 2) (List.mem_of_getElem? (i := 9) rfl)) ?_
  refine tt_icmp_gt (tgt := 40) (tX2_init_0_ok (18, .if_icmp .gt 22, 3) (List.mem_of_getElem? (i := 10) rfl)) rfl (fun b9 => absurd b9 (by decide)) (fun b9 => ?_)
  refine tt_aload_n rfl (List.Mem.tail _ (List.Mem.head _)) (tX2_init_0_ok (21, .aload_n 0, 1) (List.mem_of_getElem? (i := 11) rfl)) ?_
  refine tt_get (pg_k 2 (by decide)) ((L3.2.2.2 a (Ne.symm n_r_a) gn).1.trans ga) (by decide) (pg_fw 7 _ (k_fd_ok (q := (2, 0)) rfl)) rfl (tX2_init_0_ok (22, .getfield 11, 3) (List.mem_of_getElem? (i := 12) rfl)) ?_
  refine tt_iload_n rfl (List.Mem.head _) (tX2_init_0_ok (25, .iload_n 1, 1) (List.mem_of_getElem? (i := 13) rfl)) ?_
  refine n_obj L3 (nz_X6s7_init hT) (wA2 48 rfl rfl) (wA1 116 rfl rfl) (wA1 4 rfl rfl) (by decide) df_6_ok kX6_init rfl rfl (Or.inl ⟨_, (fun s x => (hN s x).2.2.2.2.2.2.2.2.1)⟩) iX6_init (by decide) (by decide) (by decide) (Nat.le_of_ble_eq_true rfl) (fun _ => Nat.le_of_ble_eq_true rfl) (tX2_init_0_ok (26, .new 9, 3) (List.mem_of_getElem? (i := 14) rfl)) (tX2_init_0_ok (29, .dup, 1) (List.mem_of_getElem? (i := 15) rfl)) (tX2_init_0_ok (30, .invokespecial 17, 3) (List.mem_of_getElem? (i := 16) rfl)) (fun b4 S4 x4 K4 s4 m4 o4 => ?_)
  obtain ⟨v4, w4, -, -⟩ := K4.1.obj s4 rfl
  refine tt_aast K4.2.1 (hT 3 (by decide)) w4 (r := (RX6, TX6, 7)) rfl (kn_in (by decide) (by decide)) (tX2_init_0_ok (33, .aastore, 1) (List.mem_of_getElem? (i := 17) rfl)) ?_
  have L4 := K4.put (e2 := .inl (cA 3, 7, .inr (.inr (.inr (.inr (va_up (va_up (va_up (va_up (va_up (fun _ => none) (Int32.toNatClampNeg 0) (some b0)) (Int32.toNatClampNeg 1) (some b1)) (Int32.toNatClampNeg 2) (some b2)) (Int32.toNatClampNeg 3) (some b3)) (Int32.toNatClampNeg 4) (some b4)))))))
  refine tt_iinc (tX2_init_0_ok (34, .iinc 1 1, 3) (List.mem_of_getElem? (i := 18) rfl)) (List.Mem.head _) (by decide) ?_
  refine tt_goto (tgt := 15) (tX2_init_0_ok (37, .goto (-22), 3) (List.mem_of_getElem? (i := 19) rfl)) rfl ?_
  show tt l D tys A X _ _ _ _ mX2_init _ 15 [(1, .int 5), (0, .ref a)] [] _ _ _
  refine tt_iload_n rfl (List.Mem.head _) (tX2_init_0_ok (15, .iload_n 1, 1) (List.mem_of_getElem? (i := 8) rfl)) ?_
  refine tt_bipush rfl (tX2_init_0_ok (16, .bipush 6, 2) (List.mem_of_getElem? (i := 9) rfl)) ?_
  refine tt_icmp_gt (tgt := 40) (tX2_init_0_ok (18, .if_icmp .gt 22, 3) (List.mem_of_getElem? (i := 10) rfl)) rfl (fun b9 => absurd b9 (by decide)) (fun b9 => ?_)
  refine tt_aload_n rfl (List.Mem.tail _ (List.Mem.head _)) (tX2_init_0_ok (21, .aload_n 0, 1) (List.mem_of_getElem? (i := 11) rfl)) ?_
  refine tt_get (pg_k 2 (by decide)) ((L4.2.2.2 a (Ne.symm n_r_a) gn).1.trans ga) (by decide) (pg_fw 7 _ (k_fd_ok (q := (2, 0)) rfl)) rfl (tX2_init_0_ok (22, .getfield 11, 3) (List.mem_of_getElem? (i := 12) rfl)) ?_
  refine tt_iload_n rfl (List.Mem.head _) (tX2_init_0_ok (25, .iload_n 1, 1) (List.mem_of_getElem? (i := 13) rfl)) ?_
  refine n_obj L4 (nz_X6s8_init hT) (wA2 48 rfl rfl) (wA1 116 rfl rfl) (wA1 4 rfl rfl) (by decide) df_6_ok kX6_init rfl rfl (Or.inl ⟨_, (fun s x => (hN s x).2.2.2.2.2.2.2.2.1)⟩) iX6_init (by decide) (by decide) (by decide) (Nat.le_of_ble_eq_true rfl) (fun _ => Nat.le_of_ble_eq_true rfl) (tX2_init_0_ok (26, .new 9, 3) (List.mem_of_getElem? (i := 14) rfl)) (tX2_init_0_ok (29, .dup, 1) (List.mem_of_getElem? (i := 15) rfl)) (tX2_init_0_ok (30, .invokespecial 17, 3) (List.mem_of_getElem? (i := 16) rfl)) (fun b5 S5 x5 K5 s5 m5 o5 => ?_)
  obtain ⟨v5, w5, -, -⟩ := K5.1.obj s5 rfl
  refine tt_aast K5.2.1 (hT 3 (by decide)) w5 (r := (RX6, TX6, 7)) rfl (kn_in (by decide) (by decide)) (tX2_init_0_ok (33, .aastore, 1) (List.mem_of_getElem? (i := 17) rfl)) ?_
  have L5 := K5.put (e2 := .inl (cA 3, 7, .inr (.inr (.inr (.inr (va_up (va_up (va_up (va_up (va_up (va_up (fun _ => none) (Int32.toNatClampNeg 0) (some b0)) (Int32.toNatClampNeg 1) (some b1)) (Int32.toNatClampNeg 2) (some b2)) (Int32.toNatClampNeg 3) (some b3)) (Int32.toNatClampNeg 4) (some b4)) (Int32.toNatClampNeg 5) (some b5)))))))
  refine tt_iinc (tX2_init_0_ok (34, .iinc 1 1, 3) (List.mem_of_getElem? (i := 18) rfl)) (List.Mem.head _) (by decide) ?_
  refine tt_goto (tgt := 15) (tX2_init_0_ok (37, .goto (-22), 3) (List.mem_of_getElem? (i := 19) rfl)) rfl ?_
  show tt l D tys A X _ _ _ _ mX2_init _ 15 [(1, .int 6), (0, .ref a)] [] _ _ _
  refine tt_iload_n rfl (List.Mem.head _) (tX2_init_0_ok (15, .iload_n 1, 1) (List.mem_of_getElem? (i := 8) rfl)) ?_
  refine tt_bipush rfl (tX2_init_0_ok (16, .bipush 6, 2) (List.mem_of_getElem? (i := 9) rfl)) ?_
  refine tt_icmp_gt (tgt := 40) (tX2_init_0_ok (18, .if_icmp .gt 22, 3) (List.mem_of_getElem? (i := 10) rfl)) rfl (fun b9 => absurd b9 (by decide)) (fun b9 => ?_)
  refine tt_aload_n rfl (List.Mem.tail _ (List.Mem.head _)) (tX2_init_0_ok (21, .aload_n 0, 1) (List.mem_of_getElem? (i := 11) rfl)) ?_
  refine tt_get (pg_k 2 (by decide)) ((L5.2.2.2 a (Ne.symm n_r_a) gn).1.trans ga) (by decide) (pg_fw 7 _ (k_fd_ok (q := (2, 0)) rfl)) rfl (tX2_init_0_ok (22, .getfield 11, 3) (List.mem_of_getElem? (i := 12) rfl)) ?_
  refine tt_iload_n rfl (List.Mem.head _) (tX2_init_0_ok (25, .iload_n 1, 1) (List.mem_of_getElem? (i := 13) rfl)) ?_
  refine n_obj L5 (nz_X6s9_init hT) (wA2 48 rfl rfl) (wA1 116 rfl rfl) (wA1 4 rfl rfl) (by decide) df_6_ok kX6_init rfl rfl (Or.inl ⟨_, (fun s x => (hN s x).2.2.2.2.2.2.2.2.1)⟩) iX6_init (by decide) (by decide) (by decide) (Nat.le_of_ble_eq_true rfl) (fun _ => Nat.le_of_ble_eq_true rfl) (tX2_init_0_ok (26, .new 9, 3) (List.mem_of_getElem? (i := 14) rfl)) (tX2_init_0_ok (29, .dup, 1) (List.mem_of_getElem? (i := 15) rfl)) (tX2_init_0_ok (30, .invokespecial 17, 3) (List.mem_of_getElem? (i := 16) rfl)) (fun b6 S6 x6 K6 s6 m6 o6 => ?_)
  obtain ⟨v6, w6, -, -⟩ := K6.1.obj s6 rfl
  refine tt_aast K6.2.1 (hT 3 (by decide)) w6 (r := (RX6, TX6, 7)) rfl (kn_in (by decide) (by decide)) (tX2_init_0_ok (33, .aastore, 1) (List.mem_of_getElem? (i := 17) rfl)) ?_
  have L6 := K6.put (e2 := .inl (cA 3, 7, .inr (.inr (.inr (.inr (va_up (va_up (va_up (va_up (va_up (va_up (va_up (fun _ => none) (Int32.toNatClampNeg 0) (some b0)) (Int32.toNatClampNeg 1) (some b1)) (Int32.toNatClampNeg 2) (some b2)) (Int32.toNatClampNeg 3) (some b3)) (Int32.toNatClampNeg 4) (some b4)) (Int32.toNatClampNeg 5) (some b5)) (Int32.toNatClampNeg 6) (some b6)))))))
  refine tt_iinc (tX2_init_0_ok (34, .iinc 1 1, 3) (List.mem_of_getElem? (i := 18) rfl)) (List.Mem.head _) (by decide) ?_
  refine tt_goto (tgt := 15) (tX2_init_0_ok (37, .goto (-22), 3) (List.mem_of_getElem? (i := 19) rfl)) rfl ?_
  show tt l D tys A X _ _ _ _ mX2_init _ 15 [(1, .int 7), (0, .ref a)] [] _ _ _
  refine tt_iload_n rfl (List.Mem.head _) (tX2_init_0_ok (15, .iload_n 1, 1) (List.mem_of_getElem? (i := 8) rfl)) ?_
  refine tt_bipush rfl (tX2_init_0_ok (16, .bipush 6, 2) (List.mem_of_getElem? (i := 9) rfl)) ?_
  refine tt_icmp_gt (tgt := 40) (tX2_init_0_ok (18, .if_icmp .gt 22, 3) (List.mem_of_getElem? (i := 10) rfl)) rfl (fun b9 => ?_) (fun b9 => absurd (by decide) b9)
  have R9 : ∀ i, i < 7 → ∃ b, (va_up (va_up (va_up (va_up (va_up (va_up (va_up (fun _ => none) (Int32.toNatClampNeg 0) (some b0)) (Int32.toNatClampNeg 1) (some b1)) (Int32.toNatClampNeg 2) (some b2)) (Int32.toNatClampNeg 3) (some b3)) (Int32.toNatClampNeg 4) (some b4)) (Int32.toNatClampNeg 5) (some b5)) (Int32.toNatClampNeg 6) (some b6)) i = some b ∧ S6 b = some (99 + 6 * i) := by
    intro i hi
    match i, hi with
    | 0, _ => exact ⟨b0, rfl, (m6 _ _ (m5 _ _ (m4 _ _ (m3 _ _ (m2 _ _ (m1 _ _ s0))))))⟩
    | 1, _ => exact ⟨b1, rfl, (m6 _ _ (m5 _ _ (m4 _ _ (m3 _ _ (m2 _ _ s1)))))⟩
    | 2, _ => exact ⟨b2, rfl, (m6 _ _ (m5 _ _ (m4 _ _ (m3 _ _ s2))))⟩
    | 3, _ => exact ⟨b3, rfl, (m6 _ _ (m5 _ _ (m4 _ _ s3)))⟩
    | 4, _ => exact ⟨b4, rfl, (m6 _ _ (m5 _ _ s4))⟩
    | 5, _ => exact ⟨b5, rfl, (m6 _ _ s5)⟩
    | 6, _ => exact ⟨b6, rfl, s6⟩
    | i + 7, hi => exact absurd hi (by omega)
  refine tt_vret rfl ?_ (by decide) (by decide) (tX2_init_0_ok (40, .return_, 1) (List.mem_of_getElem? (i := 20) rfl))
  have hr6 : k_H (sg_up S6 r 45) cA Lz _ := L6.1.lab L6.2.2.1 L6.2.1 (by
    refine Or.inr (Or.inr ⟨rfl, _, rfl, fun i hi => ?_⟩)
    obtain ⟨b, e1, e2⟩ := R9 i hi
    rw [e1]
    match i, hi, e2 with
    | 0, _, e2 => exact ⟨b, rfl, sg_le.up L6.2.2.1 _ _ e2⟩
    | 1, _, e2 => exact ⟨b, rfl, sg_le.up L6.2.2.1 _ _ e2⟩
    | 2, _, e2 => exact ⟨b, rfl, sg_le.up L6.2.2.1 _ _ e2⟩
    | 3, _, e2 => exact ⟨b, rfl, sg_le.up L6.2.2.1 _ _ e2⟩
    | 4, _, e2 => exact ⟨b, rfl, sg_le.up L6.2.2.1 _ _ e2⟩
    | 5, _, e2 => exact ⟨b, rfl, sg_le.up L6.2.2.1 _ _ e2⟩
    | 6, _, e2 => exact ⟨b, rfl, sg_le.up L6.2.2.1 _ _ e2⟩
    | i + 7, hi, _ => exact absurd (show i + 7 < 7 from hi) (by omega)) (fun _ _ _ => rfl)
  have fa := L6.2.2.2 a (Ne.symm n_r_a) gn
  have na : sg_up S6 r 45 a = none := by rw [sg_up_n _ _ (Ne.symm n_r_a), fa.2]; exact sa
  refine ⟨rfl, sg_up (sg_up S6 r 45) a 9, hr6.lab na (fa.1.trans ga) (by
    refine Or.inl ⟨rfl, _, rfl, rfl, fun k t hk => ?_⟩
    match k, hk with
    | 0, hk => cases hk; exact ⟨_, rfl, r, rfl, sg_le.up na _ _ (sg_up_s _ _ _)⟩
    | 1, hk => cases hk; exact ⟨_, rfl, _, rfl, by decide, by decide⟩
    | 2, hk => cases hk; exact ⟨_, rfl, _, rfl, by decide, by decide⟩
    | k + 3, hk => cases hk) (fun _ _ _ => rfl), sg_up_s _ _ _, fun q hq hn => ?_⟩
  have qr : q ≠ r := fun e => hn (by rw [e]; exact hr)
  have w1 := H2.2.2.2 q hq hn
  have w2 := L6.2.2.2 q qr (by rw [w1.1]; exact hn)
  rw [sg_up_n _ _ hq, sg_up_n _ _ qr]
  exact ⟨w2.1.trans w1.1, w2.2⟩
theorem nz_X10_init (hT : k_tys tys cA) (hN : k_NX X) : k_nwX l D tys A X cA Lz (fun g x => ∃ xs b fs, g x = some (.inr (9, xs)) ∧ xs[3]? = some (.ref b) ∧ g b = some (.inr (6, fs)) ∧ fs[6]? = some (.long 0)) mX10_init 9 df_9 0 3 53 113 1923 := by
  intro Sg a h hH ca sa
  have H0 : nS cA Lz Sg h a (.inr (9, df_9)) Sg h := ⟨hH, ca, sa, fun _ _ _ => ⟨rfl, rfl⟩⟩
  refine tt_aload_n rfl (List.Mem.head _) (tX10_init_0_ok (0, .aload_n 0, 1) (List.mem_of_getElem? (i := 0) rfl)) ?_
  refine tt_objInit (wA1 29 rfl rfl) (wA1 30 rfl rfl) (wA1 31 rfl rfl) (tX10_init_0_ok (1, .invokespecial 1, 3) (List.mem_of_getElem? (i := 1) rfl)) (by decide) (Nat.le_of_ble_eq_true rfl) ?_
  refine tt_aload_n rfl (List.Mem.head _) (tX10_init_0_ok (4, .aload_n 0, 1) (List.mem_of_getElem? (i := 2) rfl)) ?_
  refine n_obj H0 (nz_X7_init hT) (wA1 32 rfl rfl) (wA1 33 rfl rfl) (wA1 2 rfl rfl) (by decide) df_7_ok kX7_init rfl rfl (Or.inl ⟨_, (fun s x => (hN s x).1)⟩) iX7_init (by decide) (by decide) (by decide) (Nat.le_of_ble_eq_true rfl) (fun _ => Nat.le_of_ble_eq_true rfl) (tX10_init_0_ok (5, .new 7, 3) (List.mem_of_getElem? (i := 3) rfl)) (tX10_init_0_ok (8, .dup, 1) (List.mem_of_getElem? (i := 4) rfl)) (tX10_init_0_ok (9, .invokespecial 9, 3) (List.mem_of_getElem? (i := 5) rfl)) (fun b1 S2 g3 H4 s5 m6 o7 => ?_)
  refine n_put (own := 15) (ci := 9) (k := 0) [.ref b1, .null, .null, .null, .null, .null, .int 0, .int 0, .null, .null, .null, .null, .null, .null, .int 0, .null, .null, .null, .null] rfl H4 rfl rfl (by decide) rfl rfl ⟨rfl, rfl⟩ (Nat.le_of_ble_eq_true rfl) (tX10_init_0_ok (12, .putfield 10, 3) (List.mem_of_getElem? (i := 6) rfl)) (fun g8 H9 f10 => ?_)
  refine tt_aload_n rfl (List.Mem.head _) (tX10_init_0_ok (15, .aload_n 0, 1) (List.mem_of_getElem? (i := 7) rfl)) ?_
  refine n_obj H9 (nz_X4_init hT) (wA1 57 rfl rfl) (wA1 58 rfl rfl) (wA1 3 rfl rfl) (by decide) df_4_ok kX4_init rfl rfl (Or.inl ⟨_, (fun s x => (hN s x).2.1)⟩) iX4_init (by decide) (by decide) (by decide) (Nat.le_of_ble_eq_true rfl) (fun _ => Nat.le_of_ble_eq_true rfl) (tX10_init_0_ok (16, .new 16, 3) (List.mem_of_getElem? (i := 8) rfl)) (tX10_init_0_ok (19, .dup, 1) (List.mem_of_getElem? (i := 9) rfl)) (tX10_init_0_ok (20, .invokespecial 18, 3) (List.mem_of_getElem? (i := 10) rfl)) (fun b11 S12 g13 H14 s15 m16 o17 => ?_)
  refine n_put (own := 15) (ci := 9) (k := 1) [.ref b1, .ref b11, .null, .null, .null, .null, .int 0, .int 0, .null, .null, .null, .null, .null, .null, .int 0, .null, .null, .null, .null] rfl H14 rfl rfl (by decide) rfl rfl ⟨rfl, rfl⟩ (Nat.le_of_ble_eq_true rfl) (tX10_init_0_ok (23, .putfield 19, 3) (List.mem_of_getElem? (i := 11) rfl)) (fun g18 H19 f20 => ?_)
  refine tt_aload_n rfl (List.Mem.head _) (tX10_init_0_ok (26, .aload_n 0, 1) (List.mem_of_getElem? (i := 12) rfl)) ?_
  refine n_obj H19 (nz_X4b_init hT) (wA1 57 rfl rfl) (wA1 58 rfl rfl) (wA1 3 rfl rfl) (by decide) df_4_ok kX4_init rfl rfl (Or.inl ⟨_, (fun s x => (hN s x).2.1)⟩) iX4_init (by decide) (by decide) (by decide) (Nat.le_of_ble_eq_true rfl) (fun _ => Nat.le_of_ble_eq_true rfl) (tX10_init_0_ok (27, .new 16, 3) (List.mem_of_getElem? (i := 13) rfl)) (tX10_init_0_ok (30, .dup, 1) (List.mem_of_getElem? (i := 14) rfl)) (tX10_init_0_ok (31, .invokespecial 18, 3) (List.mem_of_getElem? (i := 15) rfl)) (fun b21 S22 g23 H24 s25 m26 o27 => ?_)
  refine n_put (own := 15) (ci := 9) (k := 2) [.ref b1, .ref b11, .ref b21, .null, .null, .null, .int 0, .int 0, .null, .null, .null, .null, .null, .null, .int 0, .null, .null, .null, .null] rfl H24 rfl rfl (by decide) rfl rfl ⟨rfl, rfl⟩ (Nat.le_of_ble_eq_true rfl) (tX10_init_0_ok (34, .putfield 23, 3) (List.mem_of_getElem? (i := 16) rfl)) (fun g28 H29 f30 => ?_)
  refine tt_aload_n rfl (List.Mem.head _) (tX10_init_0_ok (37, .aload_n 0, 1) (List.mem_of_getElem? (i := 17) rfl)) ?_
  refine n_objX H29 (nz_X6X_init hT) (wA1 115 rfl rfl) (wA1 116 rfl rfl) (wA1 4 rfl rfl) (by decide) df_6_ok kX6_init rfl rfl (Or.inl ⟨_, (fun s x => (hN s x).2.2.1)⟩) iX6_init (by decide) (by decide) (by decide) (Nat.le_of_ble_eq_true rfl) (fun _ => Nat.le_of_ble_eq_true rfl) (tX10_init_0_ok (38, .new 26, 3) (List.mem_of_getElem? (i := 18) rfl)) (tX10_init_0_ok (41, .dup, 1) (List.mem_of_getElem? (i := 19) rfl)) (tX10_init_0_ok (42, .invokespecial 28, 3) (List.mem_of_getElem? (i := 20) rfl)) (fun b31 S32 g33 H34 s35 m36 o37 PN => ?_)
  obtain ⟨fN, cN, eN⟩ := PN
  have JN : nS cA Lz S32 g33 a _ S32 g33 := ⟨H34.1, H34.2.1, H34.2.2.1, fun _ _ _ => ⟨rfl, rfl⟩⟩
  refine n_put (own := 15) (ci := 9) (k := 3) [.ref b1, .ref b11, .ref b21, .ref b31, .null, .null, .int 0, .int 0, .null, .null, .null, .null, .null, .null, .int 0, .null, .null, .null, .null] rfl JN rfl rfl (by decide) rfl rfl ⟨rfl, rfl⟩ (Nat.le_of_ble_eq_true rfl) (tX10_init_0_ok (45, .putfield 29, 3) (List.mem_of_getElem? (i := 21) rfl)) (fun g38 H39 f40 => ?_)
  refine tt_aload_n rfl (List.Mem.head _) (tX10_init_0_ok (48, .aload_n 0, 1) (List.mem_of_getElem? (i := 22) rfl)) ?_
  refine n_obj H39 (nz_X6s1_init hT) (wA1 115 rfl rfl) (wA1 116 rfl rfl) (wA1 4 rfl rfl) (by decide) df_6_ok kX6_init rfl rfl (Or.inl ⟨_, (fun s x => (hN s x).2.2.1)⟩) iX6_init (by decide) (by decide) (by decide) (Nat.le_of_ble_eq_true rfl) (fun _ => Nat.le_of_ble_eq_true rfl) (tX10_init_0_ok (49, .new 26, 3) (List.mem_of_getElem? (i := 23) rfl)) (tX10_init_0_ok (52, .dup, 1) (List.mem_of_getElem? (i := 24) rfl)) (tX10_init_0_ok (53, .invokespecial 28, 3) (List.mem_of_getElem? (i := 25) rfl)) (fun b41 S42 g43 H44 s45 m46 o47 => ?_)
  refine n_put (own := 15) (ci := 9) (k := 4) [.ref b1, .ref b11, .ref b21, .ref b31, .ref b41, .null, .int 0, .int 0, .null, .null, .null, .null, .null, .null, .int 0, .null, .null, .null, .null] rfl H44 rfl rfl (by decide) rfl rfl ⟨rfl, rfl⟩ (Nat.le_of_ble_eq_true rfl) (tX10_init_0_ok (56, .putfield 33, 3) (List.mem_of_getElem? (i := 26) rfl)) (fun g48 H49 f50 => ?_)
  refine tt_aload_n rfl (List.Mem.head _) (tX10_init_0_ok (59, .aload_n 0, 1) (List.mem_of_getElem? (i := 27) rfl)) ?_
  refine n_obj H49 (nz_X6s2_init hT) (wA1 115 rfl rfl) (wA1 116 rfl rfl) (wA1 4 rfl rfl) (by decide) df_6_ok kX6_init rfl rfl (Or.inl ⟨_, (fun s x => (hN s x).2.2.1)⟩) iX6_init (by decide) (by decide) (by decide) (Nat.le_of_ble_eq_true rfl) (fun _ => Nat.le_of_ble_eq_true rfl) (tX10_init_0_ok (60, .new 26, 3) (List.mem_of_getElem? (i := 28) rfl)) (tX10_init_0_ok (63, .dup, 1) (List.mem_of_getElem? (i := 29) rfl)) (tX10_init_0_ok (64, .invokespecial 28, 3) (List.mem_of_getElem? (i := 30) rfl)) (fun b51 S52 g53 H54 s55 m56 o57 => ?_)
  refine n_put (own := 15) (ci := 9) (k := 5) [.ref b1, .ref b11, .ref b21, .ref b31, .ref b41, .ref b51, .int 0, .int 0, .null, .null, .null, .null, .null, .null, .int 0, .null, .null, .null, .null] rfl H54 rfl rfl (by decide) rfl rfl ⟨rfl, rfl⟩ (Nat.le_of_ble_eq_true rfl) (tX10_init_0_ok (67, .putfield 36, 3) (List.mem_of_getElem? (i := 31) rfl)) (fun g58 H59 f60 => ?_)
  refine tt_aload_n rfl (List.Mem.head _) (tX10_init_0_ok (70, .aload_n 0, 1) (List.mem_of_getElem? (i := 32) rfl)) ?_
  refine n_obj H59 (nz_X1_init hT) (wA1 159 rfl rfl) (wA1 160 rfl rfl) (wA1 5 rfl rfl) (by decide) df_1_ok kX1_init rfl rfl (Or.inl ⟨_, (fun s x => (hN s x).2.2.2.1)⟩) iX1_init (by decide) (by decide) (by decide) (Nat.le_of_ble_eq_true rfl) (fun _ => Nat.le_of_ble_eq_true rfl) (tX10_init_0_ok (71, .new 39, 3) (List.mem_of_getElem? (i := 33) rfl)) (tX10_init_0_ok (74, .dup, 1) (List.mem_of_getElem? (i := 34) rfl)) (tX10_init_0_ok (75, .invokespecial 41, 3) (List.mem_of_getElem? (i := 35) rfl)) (fun b61 S62 g63 H64 s65 m66 o67 => ?_)
  refine n_put (own := 15) (ci := 9) (k := 8) [.ref b1, .ref b11, .ref b21, .ref b31, .ref b41, .ref b51, .int 0, .int 0, .ref b61, .null, .null, .null, .null, .null, .int 0, .null, .null, .null, .null] rfl H64 rfl rfl (by decide) rfl rfl ⟨rfl, rfl⟩ (Nat.le_of_ble_eq_true rfl) (tX10_init_0_ok (78, .putfield 42, 3) (List.mem_of_getElem? (i := 36) rfl)) (fun g68 H69 f70 => ?_)
  refine tt_aload_n rfl (List.Mem.head _) (tX10_init_0_ok (81, .aload_n 0, 1) (List.mem_of_getElem? (i := 37) rfl)) ?_
  refine n_obj H69 (nz_X9_init hT) (wA1 205 rfl rfl) (wA1 206 rfl rfl) (wA1 6 rfl rfl) (by decide) df_8_ok kX9_init rfl rfl (Or.inl ⟨_, (fun s x => (hN s x).2.2.2.2.1)⟩) iX9_init (by decide) (by decide) (by decide) (Nat.le_of_ble_eq_true rfl) (fun _ => Nat.le_of_ble_eq_true rfl) (tX10_init_0_ok (82, .new 46, 3) (List.mem_of_getElem? (i := 38) rfl)) (tX10_init_0_ok (85, .dup, 1) (List.mem_of_getElem? (i := 39) rfl)) (tX10_init_0_ok (86, .invokespecial 48, 3) (List.mem_of_getElem? (i := 40) rfl)) (fun b71 S72 g73 H74 s75 m76 o77 => ?_)
  refine n_put (own := 15) (ci := 9) (k := 9) [.ref b1, .ref b11, .ref b21, .ref b31, .ref b41, .ref b51, .int 0, .int 0, .ref b61, .ref b71, .null, .null, .null, .null, .int 0, .null, .null, .null, .null] rfl H74 rfl rfl (by decide) rfl rfl ⟨rfl, rfl⟩ (Nat.le_of_ble_eq_true rfl) (tX10_init_0_ok (89, .putfield 49, 3) (List.mem_of_getElem? (i := 41) rfl)) (fun g78 H79 f80 => ?_)
  refine tt_aload_n rfl (List.Mem.head _) (tX10_init_0_ok (92, .aload_n 0, 1) (List.mem_of_getElem? (i := 42) rfl)) ?_
  refine tt_bipush rfl (tX10_init_0_ok (93, .bipush 12, 2) (List.mem_of_getElem? (i := 43) rfl)) ?_
  refine n_arr (L := 32) hT H79 rfl (by decide +kernel) (by decide) rfl (by decide) rfl (by decide) (by decide) (by decide) (tX10_init_0_ok (95, .newarray .int, 2) (List.mem_of_getElem? (i := 44) rfl)) (fun b81 S82 g83 H84 s85 m86 o87 => ?_)
  refine n_put (own := 15) (ci := 9) (k := 10) [.ref b1, .ref b11, .ref b21, .ref b31, .ref b41, .ref b51, .int 0, .int 0, .ref b61, .ref b71, .ref b81, .null, .null, .null, .int 0, .null, .null, .null, .null] rfl H84 rfl rfl (by decide) rfl rfl ⟨rfl, rfl⟩ (Nat.le_of_ble_eq_true rfl) (tX10_init_0_ok (97, .putfield 53, 3) (List.mem_of_getElem? (i := 45) rfl)) (fun g88 H89 f90 => ?_)
  refine tt_aload_n rfl (List.Mem.head _) (tX10_init_0_ok (100, .aload_n 0, 1) (List.mem_of_getElem? (i := 46) rfl)) ?_
  refine tt_bipush rfl (tX10_init_0_ok (101, .bipush 12, 2) (List.mem_of_getElem? (i := 47) rfl)) ?_
  refine n_arr (L := 86) hT H89 rfl (by decide +kernel) (by decide) rfl (by decide) rfl (by decide) (by decide) (by decide) (tX10_init_0_ok (103, .newarray .int, 2) (List.mem_of_getElem? (i := 48) rfl)) (fun b91 S92 g93 H94 s95 m96 o97 => ?_)
  refine n_put (own := 15) (ci := 9) (k := 11) [.ref b1, .ref b11, .ref b21, .ref b31, .ref b41, .ref b51, .int 0, .int 0, .ref b61, .ref b71, .ref b81, .ref b91, .null, .null, .int 0, .null, .null, .null, .null] rfl H94 rfl rfl (by decide) rfl rfl ⟨rfl, rfl⟩ (Nat.le_of_ble_eq_true rfl) (tX10_init_0_ok (105, .putfield 57, 3) (List.mem_of_getElem? (i := 49) rfl)) (fun g98 H99 f100 => ?_)
  refine tt_aload_n rfl (List.Mem.head _) (tX10_init_0_ok (108, .aload_n 0, 1) (List.mem_of_getElem? (i := 50) rfl)) ?_
  refine tt_iconst rfl (tX10_init_0_ok (109, .iconst 4, 1) (List.mem_of_getElem? (i := 51) rfl)) ?_
  refine n_refs (C9 := "RopeRooms$Rule") (L := 34) hT H99 rfl (by decide +kernel) (by decide) rfl (wA1 224 rfl rfl) (fun s x => (hN s x).2.2.2.2.2.2.2.2.2.1) (by decide) rfl (by decide) (by decide) (by decide) (tX10_init_0_ok (110, .anewarray 60, 3) (List.mem_of_getElem? (i := 52) rfl)) (fun b101 S102 g103 H104 s105 m106 o107 => ?_)
  refine n_put (own := 15) (ci := 9) (k := 12) [.ref b1, .ref b11, .ref b21, .ref b31, .ref b41, .ref b51, .int 0, .int 0, .ref b61, .ref b71, .ref b81, .ref b91, .ref b101, .null, .int 0, .null, .null, .null, .null] rfl H104 rfl rfl (by decide) rfl rfl ⟨rfl, rfl⟩ (Nat.le_of_ble_eq_true rfl) (tX10_init_0_ok (113, .putfield 62, 3) (List.mem_of_getElem? (i := 53) rfl)) (fun g108 H109 f110 => ?_)
  refine tt_aload_n rfl (List.Mem.head _) (tX10_init_0_ok (116, .aload_n 0, 1) (List.mem_of_getElem? (i := 54) rfl)) ?_
  refine n_obj H109 (nz_X5_init hT) (wA1 224 rfl rfl) (wA1 226 rfl rfl) (wA1 7 rfl rfl) (by decide) df_5_ok kX5_init rfl rfl (Or.inl ⟨_, (fun s x => (hN s x).2.2.2.2.2.1)⟩) iX5_init (by decide) (by decide) (by decide) (Nat.le_of_ble_eq_true rfl) (fun _ => Nat.le_of_ble_eq_true rfl) (tX10_init_0_ok (117, .new 60, 3) (List.mem_of_getElem? (i := 55) rfl)) (tX10_init_0_ok (120, .dup, 1) (List.mem_of_getElem? (i := 56) rfl)) (tX10_init_0_ok (121, .invokespecial 66, 3) (List.mem_of_getElem? (i := 57) rfl)) (fun b111 S112 g113 H114 s115 m116 o117 => ?_)
  refine n_put (own := 15) (ci := 9) (k := 13) [.ref b1, .ref b11, .ref b21, .ref b31, .ref b41, .ref b51, .int 0, .int 0, .ref b61, .ref b71, .ref b81, .ref b91, .ref b101, .ref b111, .int 0, .null, .null, .null, .null] rfl H114 rfl rfl (by decide) rfl rfl ⟨rfl, rfl⟩ (Nat.le_of_ble_eq_true rfl) (tX10_init_0_ok (124, .putfield 67, 3) (List.mem_of_getElem? (i := 58) rfl)) (fun g118 H119 f120 => ?_)
  refine tt_aload_n rfl (List.Mem.head _) (tX10_init_0_ok (127, .aload_n 0, 1) (List.mem_of_getElem? (i := 59) rfl)) ?_
  refine tt_bipush rfl (tX10_init_1_ok (128, .bipush 7, 2) (List.mem_of_getElem? (i := 0) rfl)) ?_
  refine n_arr (L := 35) hT H119 rfl (by decide +kernel) (by decide) rfl (by decide) rfl (by decide) (by decide) (by decide) (tX10_init_1_ok (130, .newarray .int, 2) (List.mem_of_getElem? (i := 1) rfl)) (fun b121 S122 g123 H124 s125 m126 o127 => ?_)
  refine n_put (own := 15) (ci := 9) (k := 15) [.ref b1, .ref b11, .ref b21, .ref b31, .ref b41, .ref b51, .int 0, .int 0, .ref b61, .ref b71, .ref b81, .ref b91, .ref b101, .ref b111, .int 0, .ref b121, .null, .null, .null] rfl H124 rfl rfl (by decide) rfl rfl ⟨rfl, rfl⟩ (Nat.le_of_ble_eq_true rfl) (tX10_init_1_ok (132, .putfield 71, 3) (List.mem_of_getElem? (i := 2) rfl)) (fun g128 H129 f130 => ?_)
  refine tt_aload_n rfl (List.Mem.head _) (tX10_init_1_ok (135, .aload_n 0, 1) (List.mem_of_getElem? (i := 3) rfl)) ?_
  refine n_obj H129 (nz_X3_init hT) (wA2 1 rfl rfl) (wA2 2 rfl rfl) (wA1 8 rfl rfl) (by decide) df_3_ok kX3_init rfl rfl (Or.inl ⟨_, (fun s x => (hN s x).2.2.2.2.2.2.1)⟩) iX3_init (by decide) (by decide) (by decide) (Nat.le_of_ble_eq_true rfl) (fun _ => Nat.le_of_ble_eq_true rfl) (tX10_init_1_ok (136, .new 74, 3) (List.mem_of_getElem? (i := 4) rfl)) (tX10_init_1_ok (139, .dup, 1) (List.mem_of_getElem? (i := 5) rfl)) (tX10_init_1_ok (140, .invokespecial 76, 3) (List.mem_of_getElem? (i := 6) rfl)) (fun b131 S132 g133 H134 s135 m136 o137 => ?_)
  refine n_put (own := 15) (ci := 9) (k := 16) [.ref b1, .ref b11, .ref b21, .ref b31, .ref b41, .ref b51, .int 0, .int 0, .ref b61, .ref b71, .ref b81, .ref b91, .ref b101, .ref b111, .int 0, .ref b121, .ref b131, .null, .null] rfl H134 rfl rfl (by decide) rfl rfl ⟨rfl, rfl⟩ (Nat.le_of_ble_eq_true rfl) (tX10_init_1_ok (143, .putfield 77, 3) (List.mem_of_getElem? (i := 7) rfl)) (fun g138 H139 f140 => ?_)
  refine tt_aload_n rfl (List.Mem.head _) (tX10_init_1_ok (146, .aload_n 0, 1) (List.mem_of_getElem? (i := 8) rfl)) ?_
  refine n_obj H139 (nz_X0_init hT hN) (wA2 24 rfl rfl) (wA2 25 rfl rfl) (wA1 9 rfl rfl) (by decide) df_0_ok kX0_init rfl rfl (Or.inl ⟨_, (fun s x => (hN s x).2.2.2.2.2.2.2.1)⟩) iX0_init (by decide) (by decide) (by decide) (Nat.le_of_ble_eq_true rfl) (fun _ => Nat.le_of_ble_eq_true rfl) (tX10_init_1_ok (147, .new 81, 3) (List.mem_of_getElem? (i := 9) rfl)) (tX10_init_1_ok (150, .dup, 1) (List.mem_of_getElem? (i := 10) rfl)) (tX10_init_1_ok (151, .invokespecial 83, 3) (List.mem_of_getElem? (i := 11) rfl)) (fun b141 S142 g143 H144 s145 m146 o147 => ?_)
  refine n_put (own := 15) (ci := 9) (k := 17) [.ref b1, .ref b11, .ref b21, .ref b31, .ref b41, .ref b51, .int 0, .int 0, .ref b61, .ref b71, .ref b81, .ref b91, .ref b101, .ref b111, .int 0, .ref b121, .ref b131, .ref b141, .null] rfl H144 rfl rfl (by decide) rfl rfl ⟨rfl, rfl⟩ (Nat.le_of_ble_eq_true rfl) (tX10_init_1_ok (154, .putfield 84, 3) (List.mem_of_getElem? (i := 12) rfl)) (fun g148 H149 f150 => ?_)
  refine tt_aload_n rfl (List.Mem.head _) (tX10_init_1_ok (157, .aload_n 0, 1) (List.mem_of_getElem? (i := 13) rfl)) ?_
  refine n_obj H149 (nz_X2_init hT hN) (wA2 42 rfl rfl) (wA2 43 rfl rfl) (wA1 10 rfl rfl) (by decide) df_2_ok kX2_init rfl rfl (Or.inr (wA2 44 rfl rfl)) iX2_init (by decide) (by decide) (by decide) (Nat.le_of_ble_eq_true rfl) (fun _ => Nat.le_of_ble_eq_true rfl) (tX10_init_1_ok (158, .new 88, 3) (List.mem_of_getElem? (i := 14) rfl)) (tX10_init_1_ok (161, .dup, 1) (List.mem_of_getElem? (i := 15) rfl)) (tX10_init_1_ok (162, .invokespecial 90, 3) (List.mem_of_getElem? (i := 16) rfl)) (fun b151 S152 g153 H154 s155 m156 o157 => ?_)
  refine n_put (own := 15) (ci := 9) (k := 18) [.ref b1, .ref b11, .ref b21, .ref b31, .ref b41, .ref b51, .int 0, .int 0, .ref b61, .ref b71, .ref b81, .ref b91, .ref b101, .ref b111, .int 0, .ref b121, .ref b131, .ref b141, .ref b151] rfl H154 rfl rfl (by decide) rfl rfl ⟨rfl, rfl⟩ (Nat.le_of_ble_eq_true rfl) (tX10_init_1_ok (165, .putfield 91, 3) (List.mem_of_getElem? (i := 17) rfl)) (fun g158 H159 f160 => ?_)
  refine tt_aload_n rfl (List.Mem.head _) (tX10_init_1_ok (168, .aload_n 0, 1) (List.mem_of_getElem? (i := 18) rfl)) ?_
  refine tt_get (pg_k 9 (by decide)) H159.2.1 (by decide) (pg_fw 15 _ (k_fd_ok (q := (9, 1)) rfl)) rfl (tX10_init_1_ok (169, .getfield 19, 3) (List.mem_of_getElem? (i := 19) rfl)) ?_
  refine tt_iconst rfl (tX10_init_1_ok (172, .iconst 0, 1) (List.mem_of_getElem? (i := 20) rfl)) ?_
  refine n_putLF (own := 15) (ci := 4) (k := 0) (H34.join H159) (m156 _ _ (m146 _ _ (m136 _ _ (m126 _ _ (m116 _ _ (m106 _ _ (m96 _ _ (m86 _ _ (m76 _ _ (m66 _ _ (m56 _ _ (m46 _ _ (m36 _ _ (m26 _ _ s15)))))))))))))) o17 rfl rfl ⟨_, rfl, by decide, by decide⟩ rfl rfl (by decide) rfl ⟨rfl, rfl⟩ (by decide) (tX10_init_1_ok (173, .putfield 95, 3) (List.mem_of_getElem? (i := 21) rfl)) (fun g161 H162 fE => ?_)
  refine tt_vret rfl ⟨H162.fin (L := 0) ?_, _, b31, fN, H162.2.1, rfl, (fE b31 (fun e => by have z := (m156 _ _ (m146 _ _ (m136 _ _ (m126 _ _ (m116 _ _ (m106 _ _ (m96 _ _ (m86 _ _ (m76 _ _ (m66 _ _ (m56 _ _ (m46 _ _ s35)))))))))))); rw [e, (m156 _ _ (m146 _ _ (m136 _ _ (m126 _ _ (m116 _ _ (m106 _ _ (m96 _ _ (m86 _ _ (m76 _ _ (m66 _ _ (m56 _ _ (m46 _ _ (m36 _ _ (m26 _ _ s15))))))))))))))] at z; cases z)).trans ((H159.2.2.2 b31 (fun q => by have z := H34.2.2.1; rw [← q, s35] at z; cases z) (by rw [cN]; exact fun q => by cases q)).1.trans cN), eN⟩ (by decide) (by decide) (tX10_init_1_ok (176, .return_, 1) (List.mem_of_getElem? (i := 22) rfl))
  refine Or.inl ⟨rfl, _, rfl, rfl, fun k t hk => ?_⟩
  match k, hk with
  | 0, hk => cases hk; exact ⟨_, rfl, _, rfl, sg_le.up H162.2.2.1 _ _ (m156 _ _ (m146 _ _ (m136 _ _ (m126 _ _ (m116 _ _ (m106 _ _ (m96 _ _ (m86 _ _ (m76 _ _ (m66 _ _ (m56 _ _ (m46 _ _ (m36 _ _ (m26 _ _ (m16 _ _ s5)))))))))))))))⟩
  | 1, hk => cases hk; exact ⟨_, rfl, _, rfl, sg_le.up H162.2.2.1 _ _ (m156 _ _ (m146 _ _ (m136 _ _ (m126 _ _ (m116 _ _ (m106 _ _ (m96 _ _ (m86 _ _ (m76 _ _ (m66 _ _ (m56 _ _ (m46 _ _ (m36 _ _ (m26 _ _ s15))))))))))))))⟩
  | 2, hk => cases hk; exact ⟨_, rfl, _, rfl, sg_le.up H162.2.2.1 _ _ (m156 _ _ (m146 _ _ (m136 _ _ (m126 _ _ (m116 _ _ (m106 _ _ (m96 _ _ (m86 _ _ (m76 _ _ (m66 _ _ (m56 _ _ (m46 _ _ (m36 _ _ s25)))))))))))))⟩
  | 3, hk => cases hk; exact ⟨_, rfl, _, rfl, sg_le.up H162.2.2.1 _ _ (m156 _ _ (m146 _ _ (m136 _ _ (m126 _ _ (m116 _ _ (m106 _ _ (m96 _ _ (m86 _ _ (m76 _ _ (m66 _ _ (m56 _ _ (m46 _ _ s35))))))))))))⟩
  | 4, hk => cases hk; exact ⟨_, rfl, _, rfl, sg_le.up H162.2.2.1 _ _ (m156 _ _ (m146 _ _ (m136 _ _ (m126 _ _ (m116 _ _ (m106 _ _ (m96 _ _ (m86 _ _ (m76 _ _ (m66 _ _ (m56 _ _ s45)))))))))))⟩
  | 5, hk => cases hk; exact ⟨_, rfl, _, rfl, sg_le.up H162.2.2.1 _ _ (m156 _ _ (m146 _ _ (m136 _ _ (m126 _ _ (m116 _ _ (m106 _ _ (m96 _ _ (m86 _ _ (m76 _ _ (m66 _ _ s55))))))))))⟩
  | 6, hk => cases hk; exact ⟨_, rfl, _, rfl, by decide, by decide⟩
  | 7, hk => cases hk; exact ⟨_, rfl, _, rfl, by decide, by decide⟩
  | 8, hk => cases hk; exact ⟨_, rfl, _, rfl, sg_le.up H162.2.2.1 _ _ (m156 _ _ (m146 _ _ (m136 _ _ (m126 _ _ (m116 _ _ (m106 _ _ (m96 _ _ (m86 _ _ (m76 _ _ s65)))))))))⟩
  | 9, hk => cases hk; exact ⟨_, rfl, _, rfl, sg_le.up H162.2.2.1 _ _ (m156 _ _ (m146 _ _ (m136 _ _ (m126 _ _ (m116 _ _ (m106 _ _ (m96 _ _ (m86 _ _ s75))))))))⟩
  | 10, hk => cases hk; exact ⟨_, rfl, _, rfl, sg_le.up H162.2.2.1 _ _ (m156 _ _ (m146 _ _ (m136 _ _ (m126 _ _ (m116 _ _ (m106 _ _ (m96 _ _ s85)))))))⟩
  | 11, hk => cases hk; exact ⟨_, rfl, _, rfl, sg_le.up H162.2.2.1 _ _ (m156 _ _ (m146 _ _ (m136 _ _ (m126 _ _ (m116 _ _ (m106 _ _ s95))))))⟩
  | 12, hk => cases hk; exact ⟨_, rfl, _, rfl, sg_le.up H162.2.2.1 _ _ (m156 _ _ (m146 _ _ (m136 _ _ (m126 _ _ (m116 _ _ s105)))))⟩
  | 13, hk => cases hk; exact ⟨_, rfl, _, rfl, sg_le.up H162.2.2.1 _ _ (m156 _ _ (m146 _ _ (m136 _ _ (m126 _ _ s115))))⟩
  | 14, hk => cases hk; exact ⟨_, rfl, _, rfl, by decide, by decide⟩
  | 15, hk => cases hk; exact ⟨_, rfl, _, rfl, sg_le.up H162.2.2.1 _ _ (m156 _ _ (m146 _ _ (m136 _ _ s125)))⟩
  | 16, hk => cases hk; exact ⟨_, rfl, _, rfl, sg_le.up H162.2.2.1 _ _ (m156 _ _ (m146 _ _ s135))⟩
  | 17, hk => cases hk; exact ⟨_, rfl, _, rfl, sg_le.up H162.2.2.1 _ _ (m156 _ _ s145)⟩
  | 18, hk => cases hk; exact ⟨_, rfl, _, rfl, sg_le.up H162.2.2.1 _ _ s155⟩
  | k + 19, hk => cases hk
theorem nz_X11_init {aK aV : Nat → Nat} (hT : k_tys tys cA) (hX : ∀ s, X s → xs A aK aV s) : k_nwX l D tys A X cA Lz (fun g m => ∃ fs, g m = some (.inr (10, fs)) ∧ fs[36]? = some (.long 0)) mX11_init 10 df_10 70 1 12 18 1573 := by
  intro Sg a h hH ca sa
  have H0 : nS cA Lz Sg h a (.inr (10, df_10)) Sg h := ⟨hH, ca, sa, fun _ _ _ => ⟨rfl, rfl⟩⟩
  refine tt_aload_n rfl (List.Mem.head _) (tX11_init_0_ok (0, .aload_n 0, 1) (List.mem_of_getElem? (i := 0) rfl)) ?_
  refine tt_objInit (wA5 61 rfl rfl) (wA1 30 rfl rfl) (wA1 31 rfl rfl) (tX11_init_0_ok (1, .invokespecial 3, 3) (List.mem_of_getElem? (i := 1) rfl)) (by decide) (Nat.le_of_ble_eq_true rfl) ?_
  refine tt_aload_n rfl (List.Mem.head _) (tX11_init_0_ok (4, .aload_n 0, 1) (List.mem_of_getElem? (i := 2) rfl)) ?_
  refine tt_sipush rfl (tX11_init_0_ok (5, .sipush 160, 3) (List.mem_of_getElem? (i := 3) rfl)) ?_
  refine n_arr (L := 51) hT H0 rfl (by decide +kernel) (by decide) rfl (by decide) rfl (by decide) (by decide) (by decide) (tX11_init_0_ok (8, .newarray .byte, 2) (List.mem_of_getElem? (i := 4) rfl)) (fun b1 S2 g3 H4 s5 m6 o7 => ?_)
  refine n_put (own := 16) (ci := 10) (k := 1) [.int 0, .ref b1, .null, .null, .null, .null, .int 0, .int 0, .int 0, .int 0, .int 0, .int 0, .int 0, .int 0, .int 0, .null, .null, .null, .int 0, .null, .int 0, .int 0, .null, .null, .null, .null, .null, .null, .null, .null, .null, .null, .int 0, .int 0, .int 0, .int 0, .long 0, .long 0, .long 0, .int 0, .null, .null, .int 0, .int 0, .int 0, .int 0, .null] rfl H4 rfl rfl (by decide) rfl rfl ⟨rfl, rfl⟩ (Nat.le_of_ble_eq_true rfl) (tX11_init_0_ok (10, .putfield 9, 3) (List.mem_of_getElem? (i := 5) rfl)) (fun g8 H9 f10 => ?_)
  refine tt_aload_n rfl (List.Mem.head _) (tX11_init_0_ok (13, .aload_n 0, 1) (List.mem_of_getElem? (i := 6) rfl)) ?_
  refine tt_sipush rfl (tX11_init_0_ok (14, .sipush 640, 3) (List.mem_of_getElem? (i := 7) rfl)) ?_
  refine n_arr (L := 52) hT H9 rfl (by decide +kernel) (by decide) rfl (by decide) rfl (by decide) (by decide) (by decide) (tX11_init_0_ok (17, .newarray .byte, 2) (List.mem_of_getElem? (i := 8) rfl)) (fun b11 S12 g13 H14 s15 m16 o17 => ?_)
  refine n_put (own := 16) (ci := 10) (k := 2) [.int 0, .ref b1, .ref b11, .null, .null, .null, .int 0, .int 0, .int 0, .int 0, .int 0, .int 0, .int 0, .int 0, .int 0, .null, .null, .null, .int 0, .null, .int 0, .int 0, .null, .null, .null, .null, .null, .null, .null, .null, .null, .null, .int 0, .int 0, .int 0, .int 0, .long 0, .long 0, .long 0, .int 0, .null, .null, .int 0, .int 0, .int 0, .int 0, .null] rfl H14 rfl rfl (by decide) rfl rfl ⟨rfl, rfl⟩ (Nat.le_of_ble_eq_true rfl) (tX11_init_0_ok (19, .putfield 13, 3) (List.mem_of_getElem? (i := 9) rfl)) (fun g18 H19 f20 => ?_)
  refine tt_aload_n rfl (List.Mem.head _) (tX11_init_0_ok (22, .aload_n 0, 1) (List.mem_of_getElem? (i := 10) rfl)) ?_
  refine tt_iconst rfl (tX11_init_0_ok (23, .iconst 4, 1) (List.mem_of_getElem? (i := 11) rfl)) ?_
  refine n_arr (L := 53) hT H19 rfl (by decide +kernel) (by decide) rfl (by decide) rfl (by decide) (by decide) (by decide) (tX11_init_0_ok (24, .newarray .int, 2) (List.mem_of_getElem? (i := 12) rfl)) (fun b21 S22 g23 H24 s25 m26 o27 => ?_)
  refine n_put (own := 16) (ci := 10) (k := 3) [.int 0, .ref b1, .ref b11, .ref b21, .null, .null, .int 0, .int 0, .int 0, .int 0, .int 0, .int 0, .int 0, .int 0, .int 0, .null, .null, .null, .int 0, .null, .int 0, .int 0, .null, .null, .null, .null, .null, .null, .null, .null, .null, .null, .int 0, .int 0, .int 0, .int 0, .long 0, .long 0, .long 0, .int 0, .null, .null, .int 0, .int 0, .int 0, .int 0, .null] rfl H24 rfl rfl (by decide) rfl rfl ⟨rfl, rfl⟩ (Nat.le_of_ble_eq_true rfl) (tX11_init_0_ok (26, .putfield 16, 3) (List.mem_of_getElem? (i := 13) rfl)) (fun g28 H29 f30 => ?_)
  refine tt_aload_n rfl (List.Mem.head _) (tX11_init_0_ok (29, .aload_n 0, 1) (List.mem_of_getElem? (i := 14) rfl)) ?_
  refine tt_sipush rfl (tX11_init_0_ok (30, .sipush 128, 3) (List.mem_of_getElem? (i := 15) rfl)) ?_
  refine n_arr (L := 54) hT H29 rfl (by decide +kernel) (by decide) rfl (by decide) rfl (by decide) (by decide) (by decide) (tX11_init_0_ok (33, .newarray .int, 2) (List.mem_of_getElem? (i := 16) rfl)) (fun b31 S32 g33 H34 s35 m36 o37 => ?_)
  refine n_put (own := 16) (ci := 10) (k := 4) [.int 0, .ref b1, .ref b11, .ref b21, .ref b31, .null, .int 0, .int 0, .int 0, .int 0, .int 0, .int 0, .int 0, .int 0, .int 0, .null, .null, .null, .int 0, .null, .int 0, .int 0, .null, .null, .null, .null, .null, .null, .null, .null, .null, .null, .int 0, .int 0, .int 0, .int 0, .long 0, .long 0, .long 0, .int 0, .null, .null, .int 0, .int 0, .int 0, .int 0, .null] rfl H34 rfl rfl (by decide) rfl rfl ⟨rfl, rfl⟩ (Nat.le_of_ble_eq_true rfl) (tX11_init_0_ok (35, .putfield 20, 3) (List.mem_of_getElem? (i := 17) rfl)) (fun g38 H39 f40 => ?_)
  refine tt_aload_n rfl (List.Mem.head _) (tX11_init_0_ok (38, .aload_n 0, 1) (List.mem_of_getElem? (i := 18) rfl)) ?_
  refine tt_aload_n rfl (List.Mem.head _) (tX11_init_0_ok (39, .aload_n 0, 1) (List.mem_of_getElem? (i := 19) rfl)) ?_
  refine tt_get (pg_k 10 (by decide)) H39.2.1 (by decide) (pg_fw 16 _ (k_fd_ok (q := (10, 1)) rfl)) rfl (tX11_init_0_ok (40, .getfield 9, 3) (List.mem_of_getElem? (i := 20) rfl)) ?_
  refine n_put (own := 16) (ci := 10) (k := 5) [.int 0, .ref b1, .ref b11, .ref b21, .ref b31, .ref b1, .int 0, .int 0, .int 0, .int 0, .int 0, .int 0, .int 0, .int 0, .int 0, .null, .null, .null, .int 0, .null, .int 0, .int 0, .null, .null, .null, .null, .null, .null, .null, .null, .null, .null, .int 0, .int 0, .int 0, .int 0, .long 0, .long 0, .long 0, .int 0, .null, .null, .int 0, .int 0, .int 0, .int 0, .null] rfl H39 rfl rfl (by decide) rfl rfl ⟨rfl, rfl⟩ (Nat.le_of_ble_eq_true rfl) (tX11_init_0_ok (43, .putfield 23, 3) (List.mem_of_getElem? (i := 21) rfl)) (fun g41 H42 f43 => ?_)
  refine tt_aload_n rfl (List.Mem.head _) (tX11_init_0_ok (46, .aload_n 0, 1) (List.mem_of_getElem? (i := 22) rfl)) ?_
  refine tt_ldcS (fun s x => (hX s x).2.2.2.1) (tX11_init_0_ok (47, .ldc 26, 2) (List.mem_of_getElem? (i := 23) rfl)) ?_
  refine n_put (own := 16) (ci := 10) (k := 15) [.int 0, .ref b1, .ref b11, .ref b21, .ref b31, .ref b1, .int 0, .int 0, .int 0, .int 0, .int 0, .int 0, .int 0, .int 0, .int 0, .ref (aK 0), .null, .null, .int 0, .null, .int 0, .int 0, .null, .null, .null, .null, .null, .null, .null, .null, .null, .null, .int 0, .int 0, .int 0, .int 0, .long 0, .long 0, .long 0, .int 0, .null, .null, .int 0, .int 0, .int 0, .int 0, .null] rfl H42 rfl rfl (by decide) rfl rfl ⟨rfl, rfl⟩ (Nat.le_of_ble_eq_true rfl) (tX11_init_0_ok (49, .putfield 28, 3) (List.mem_of_getElem? (i := 24) rfl)) (fun g44 H45 f46 => ?_)
  refine tt_aload_n rfl (List.Mem.head _) (tX11_init_0_ok (52, .aload_n 0, 1) (List.mem_of_getElem? (i := 25) rfl)) ?_
  refine tt_ldcS (fun s x => (hX s x).2.2.2.2.1) (tX11_init_0_ok (53, .ldc 32, 2) (List.mem_of_getElem? (i := 26) rfl)) ?_
  refine n_put (own := 16) (ci := 10) (k := 16) [.int 0, .ref b1, .ref b11, .ref b21, .ref b31, .ref b1, .int 0, .int 0, .int 0, .int 0, .int 0, .int 0, .int 0, .int 0, .int 0, .ref (aK 0), .ref (aK 1), .null, .int 0, .null, .int 0, .int 0, .null, .null, .null, .null, .null, .null, .null, .null, .null, .null, .int 0, .int 0, .int 0, .int 0, .long 0, .long 0, .long 0, .int 0, .null, .null, .int 0, .int 0, .int 0, .int 0, .null] rfl H45 rfl rfl (by decide) rfl rfl ⟨rfl, rfl⟩ (Nat.le_of_ble_eq_true rfl) (tX11_init_0_ok (55, .putfield 34, 3) (List.mem_of_getElem? (i := 27) rfl)) (fun g47 H48 f49 => ?_)
  refine tt_aload_n rfl (List.Mem.head _) (tX11_init_0_ok (58, .aload_n 0, 1) (List.mem_of_getElem? (i := 28) rfl)) ?_
  refine tt_ldcS (fun s x => (hX s x).2.2.2.2.2) (tX11_init_0_ok (59, .ldc 37, 2) (List.mem_of_getElem? (i := 29) rfl)) ?_
  refine n_put (own := 16) (ci := 10) (k := 17) [.int 0, .ref b1, .ref b11, .ref b21, .ref b31, .ref b1, .int 0, .int 0, .int 0, .int 0, .int 0, .int 0, .int 0, .int 0, .int 0, .ref (aK 0), .ref (aK 1), .ref (aK 2), .int 0, .null, .int 0, .int 0, .null, .null, .null, .null, .null, .null, .null, .null, .null, .null, .int 0, .int 0, .int 0, .int 0, .long 0, .long 0, .long 0, .int 0, .null, .null, .int 0, .int 0, .int 0, .int 0, .null] rfl H48 rfl rfl (by decide) rfl rfl ⟨rfl, rfl⟩ (Nat.le_of_ble_eq_true rfl) (tX11_init_0_ok (61, .putfield 39, 3) (List.mem_of_getElem? (i := 30) rfl)) (fun g50 H51 f52 => ?_)
  refine tt_aload_n rfl (List.Mem.head _) (tX11_init_0_ok (64, .aload_n 0, 1) (List.mem_of_getElem? (i := 31) rfl)) ?_
  refine tt_bipush rfl (tX11_init_0_ok (65, .bipush 108, 2) (List.mem_of_getElem? (i := 32) rfl)) ?_
  refine n_arr (L := 69) hT H51 rfl (by decide +kernel) (by decide) rfl (by decide) rfl (by decide) (by decide) (by decide) (tX11_init_0_ok (67, .newarray .int, 2) (List.mem_of_getElem? (i := 33) rfl)) (fun b53 S54 g55 H56 s57 m58 o59 => ?_)
  refine n_put (own := 16) (ci := 10) (k := 19) [.int 0, .ref b1, .ref b11, .ref b21, .ref b31, .ref b1, .int 0, .int 0, .int 0, .int 0, .int 0, .int 0, .int 0, .int 0, .int 0, .ref (aK 0), .ref (aK 1), .ref (aK 2), .int 0, .ref b53, .int 0, .int 0, .null, .null, .null, .null, .null, .null, .null, .null, .null, .null, .int 0, .int 0, .int 0, .int 0, .long 0, .long 0, .long 0, .int 0, .null, .null, .int 0, .int 0, .int 0, .int 0, .null] rfl H56 rfl rfl (by decide) rfl rfl ⟨rfl, rfl⟩ (Nat.le_of_ble_eq_true rfl) (tX11_init_0_ok (69, .putfield 42, 3) (List.mem_of_getElem? (i := 34) rfl)) (fun g60 H61 f62 => ?_)
  refine tt_aload_n rfl (List.Mem.head _) (tX11_init_0_ok (72, .aload_n 0, 1) (List.mem_of_getElem? (i := 35) rfl)) ?_
  refine tt_bipush rfl (tX11_init_0_ok (73, .bipush 39, 2) (List.mem_of_getElem? (i := 36) rfl)) ?_
  refine n_arr (L := 56) hT H61 rfl (by decide +kernel) (by decide) rfl (by decide) rfl (by decide) (by decide) (by decide) (tX11_init_0_ok (75, .newarray .int, 2) (List.mem_of_getElem? (i := 37) rfl)) (fun b63 S64 g65 H66 s67 m68 o69 => ?_)
  refine n_put (own := 16) (ci := 10) (k := 22) [.int 0, .ref b1, .ref b11, .ref b21, .ref b31, .ref b1, .int 0, .int 0, .int 0, .int 0, .int 0, .int 0, .int 0, .int 0, .int 0, .ref (aK 0), .ref (aK 1), .ref (aK 2), .int 0, .ref b53, .int 0, .int 0, .ref b63, .null, .null, .null, .null, .null, .null, .null, .null, .null, .int 0, .int 0, .int 0, .int 0, .long 0, .long 0, .long 0, .int 0, .null, .null, .int 0, .int 0, .int 0, .int 0, .null] rfl H66 rfl rfl (by decide) rfl rfl ⟨rfl, rfl⟩ (Nat.le_of_ble_eq_true rfl) (tX11_init_0_ok (77, .putfield 45, 3) (List.mem_of_getElem? (i := 38) rfl)) (fun g70 H71 f72 => ?_)
  refine tt_aload_n rfl (List.Mem.head _) (tX11_init_0_ok (80, .aload_n 0, 1) (List.mem_of_getElem? (i := 39) rfl)) ?_
  refine tt_bipush rfl (tX11_init_0_ok (81, .bipush 39, 2) (List.mem_of_getElem? (i := 40) rfl)) ?_
  refine n_arr (L := 57) hT H71 rfl (by decide +kernel) (by decide) rfl (by decide) rfl (by decide) (by decide) (by decide) (tX11_init_0_ok (83, .newarray .int, 2) (List.mem_of_getElem? (i := 41) rfl)) (fun b73 S74 g75 H76 s77 m78 o79 => ?_)
  refine n_put (own := 16) (ci := 10) (k := 23) [.int 0, .ref b1, .ref b11, .ref b21, .ref b31, .ref b1, .int 0, .int 0, .int 0, .int 0, .int 0, .int 0, .int 0, .int 0, .int 0, .ref (aK 0), .ref (aK 1), .ref (aK 2), .int 0, .ref b53, .int 0, .int 0, .ref b63, .ref b73, .null, .null, .null, .null, .null, .null, .null, .null, .int 0, .int 0, .int 0, .int 0, .long 0, .long 0, .long 0, .int 0, .null, .null, .int 0, .int 0, .int 0, .int 0, .null] rfl H76 rfl rfl (by decide) rfl rfl ⟨rfl, rfl⟩ (Nat.le_of_ble_eq_true rfl) (tX11_init_0_ok (85, .putfield 48, 3) (List.mem_of_getElem? (i := 42) rfl)) (fun g80 H81 f82 => ?_)
  refine tt_aload_n rfl (List.Mem.head _) (tX11_init_0_ok (88, .aload_n 0, 1) (List.mem_of_getElem? (i := 43) rfl)) ?_
  refine tt_bipush rfl (tX11_init_0_ok (89, .bipush 39, 2) (List.mem_of_getElem? (i := 44) rfl)) ?_
  refine n_arr (L := 58) hT H81 rfl (by decide +kernel) (by decide) rfl (by decide) rfl (by decide) (by decide) (by decide) (tX11_init_0_ok (91, .newarray .int, 2) (List.mem_of_getElem? (i := 45) rfl)) (fun b83 S84 g85 H86 s87 m88 o89 => ?_)
  refine n_put (own := 16) (ci := 10) (k := 24) [.int 0, .ref b1, .ref b11, .ref b21, .ref b31, .ref b1, .int 0, .int 0, .int 0, .int 0, .int 0, .int 0, .int 0, .int 0, .int 0, .ref (aK 0), .ref (aK 1), .ref (aK 2), .int 0, .ref b53, .int 0, .int 0, .ref b63, .ref b73, .ref b83, .null, .null, .null, .null, .null, .null, .null, .int 0, .int 0, .int 0, .int 0, .long 0, .long 0, .long 0, .int 0, .null, .null, .int 0, .int 0, .int 0, .int 0, .null] rfl H86 rfl rfl (by decide) rfl rfl ⟨rfl, rfl⟩ (Nat.le_of_ble_eq_true rfl) (tX11_init_0_ok (93, .putfield 51, 3) (List.mem_of_getElem? (i := 46) rfl)) (fun g90 H91 f92 => ?_)
  refine tt_aload_n rfl (List.Mem.head _) (tX11_init_0_ok (96, .aload_n 0, 1) (List.mem_of_getElem? (i := 47) rfl)) ?_
  refine tt_bipush rfl (tX11_init_0_ok (97, .bipush 18, 2) (List.mem_of_getElem? (i := 48) rfl)) ?_
  refine n_arr (L := 59) hT H91 rfl (by decide +kernel) (by decide) rfl (by decide) rfl (by decide) (by decide) (by decide) (tX11_init_0_ok (99, .newarray .int, 2) (List.mem_of_getElem? (i := 49) rfl)) (fun b93 S94 g95 H96 s97 m98 o99 => ?_)
  refine n_put (own := 16) (ci := 10) (k := 25) [.int 0, .ref b1, .ref b11, .ref b21, .ref b31, .ref b1, .int 0, .int 0, .int 0, .int 0, .int 0, .int 0, .int 0, .int 0, .int 0, .ref (aK 0), .ref (aK 1), .ref (aK 2), .int 0, .ref b53, .int 0, .int 0, .ref b63, .ref b73, .ref b83, .ref b93, .null, .null, .null, .null, .null, .null, .int 0, .int 0, .int 0, .int 0, .long 0, .long 0, .long 0, .int 0, .null, .null, .int 0, .int 0, .int 0, .int 0, .null] rfl H96 rfl rfl (by decide) rfl rfl ⟨rfl, rfl⟩ (Nat.le_of_ble_eq_true rfl) (tX11_init_0_ok (101, .putfield 54, 3) (List.mem_of_getElem? (i := 50) rfl)) (fun g100 H101 f102 => ?_)
  refine tt_aload_n rfl (List.Mem.head _) (tX11_init_0_ok (104, .aload_n 0, 1) (List.mem_of_getElem? (i := 51) rfl)) ?_
  refine tt_bipush rfl (tX11_init_0_ok (105, .bipush 12, 2) (List.mem_of_getElem? (i := 52) rfl)) ?_
  refine n_arr (L := 60) hT H101 rfl (by decide +kernel) (by decide) rfl (by decide) rfl (by decide) (by decide) (by decide) (tX11_init_0_ok (107, .newarray .int, 2) (List.mem_of_getElem? (i := 53) rfl)) (fun b103 S104 g105 H106 s107 m108 o109 => ?_)
  refine n_put (own := 16) (ci := 10) (k := 26) [.int 0, .ref b1, .ref b11, .ref b21, .ref b31, .ref b1, .int 0, .int 0, .int 0, .int 0, .int 0, .int 0, .int 0, .int 0, .int 0, .ref (aK 0), .ref (aK 1), .ref (aK 2), .int 0, .ref b53, .int 0, .int 0, .ref b63, .ref b73, .ref b83, .ref b93, .ref b103, .null, .null, .null, .null, .null, .int 0, .int 0, .int 0, .int 0, .long 0, .long 0, .long 0, .int 0, .null, .null, .int 0, .int 0, .int 0, .int 0, .null] rfl H106 rfl rfl (by decide) rfl rfl ⟨rfl, rfl⟩ (Nat.le_of_ble_eq_true rfl) (tX11_init_0_ok (109, .putfield 57, 3) (List.mem_of_getElem? (i := 54) rfl)) (fun g110 H111 f112 => ?_)
  refine tt_aload_n rfl (List.Mem.head _) (tX11_init_0_ok (112, .aload_n 0, 1) (List.mem_of_getElem? (i := 55) rfl)) ?_
  refine tt_bipush rfl (tX11_init_0_ok (113, .bipush 12, 2) (List.mem_of_getElem? (i := 56) rfl)) ?_
  refine n_arr (L := 61) hT H111 rfl (by decide +kernel) (by decide) rfl (by decide) rfl (by decide) (by decide) (by decide) (tX11_init_0_ok (115, .newarray .int, 2) (List.mem_of_getElem? (i := 57) rfl)) (fun b113 S114 g115 H116 s117 m118 o119 => ?_)
  refine n_put (own := 16) (ci := 10) (k := 27) [.int 0, .ref b1, .ref b11, .ref b21, .ref b31, .ref b1, .int 0, .int 0, .int 0, .int 0, .int 0, .int 0, .int 0, .int 0, .int 0, .ref (aK 0), .ref (aK 1), .ref (aK 2), .int 0, .ref b53, .int 0, .int 0, .ref b63, .ref b73, .ref b83, .ref b93, .ref b103, .ref b113, .null, .null, .null, .null, .int 0, .int 0, .int 0, .int 0, .long 0, .long 0, .long 0, .int 0, .null, .null, .int 0, .int 0, .int 0, .int 0, .null] rfl H116 rfl rfl (by decide) rfl rfl ⟨rfl, rfl⟩ (Nat.le_of_ble_eq_true rfl) (tX11_init_0_ok (117, .putfield 60, 3) (List.mem_of_getElem? (i := 58) rfl)) (fun g120 H121 f122 => ?_)
  refine tt_aload_n rfl (List.Mem.head _) (tX11_init_0_ok (120, .aload_n 0, 1) (List.mem_of_getElem? (i := 59) rfl)) ?_
  refine tt_bipush rfl (tX11_init_1_ok (121, .bipush 8, 2) (List.mem_of_getElem? (i := 0) rfl)) ?_
  refine n_arr (L := 62) hT H121 rfl (by decide +kernel) (by decide) rfl (by decide) rfl (by decide) (by decide) (by decide) (tX11_init_1_ok (123, .newarray .int, 2) (List.mem_of_getElem? (i := 1) rfl)) (fun b123 S124 g125 H126 s127 m128 o129 => ?_)
  refine n_put (own := 16) (ci := 10) (k := 28) [.int 0, .ref b1, .ref b11, .ref b21, .ref b31, .ref b1, .int 0, .int 0, .int 0, .int 0, .int 0, .int 0, .int 0, .int 0, .int 0, .ref (aK 0), .ref (aK 1), .ref (aK 2), .int 0, .ref b53, .int 0, .int 0, .ref b63, .ref b73, .ref b83, .ref b93, .ref b103, .ref b113, .ref b123, .null, .null, .null, .int 0, .int 0, .int 0, .int 0, .long 0, .long 0, .long 0, .int 0, .null, .null, .int 0, .int 0, .int 0, .int 0, .null] rfl H126 rfl rfl (by decide) rfl rfl ⟨rfl, rfl⟩ (Nat.le_of_ble_eq_true rfl) (tX11_init_1_ok (125, .putfield 63, 3) (List.mem_of_getElem? (i := 2) rfl)) (fun g130 H131 f132 => ?_)
  refine tt_aload_n rfl (List.Mem.head _) (tX11_init_1_ok (128, .aload_n 0, 1) (List.mem_of_getElem? (i := 3) rfl)) ?_
  refine tt_bipush rfl (tX11_init_1_ok (129, .bipush 6, 2) (List.mem_of_getElem? (i := 4) rfl)) ?_
  refine n_arr (L := 63) hT H131 rfl (by decide +kernel) (by decide) rfl (by decide) rfl (by decide) (by decide) (by decide) (tX11_init_1_ok (131, .newarray .int, 2) (List.mem_of_getElem? (i := 5) rfl)) (fun b133 S134 g135 H136 s137 m138 o139 => ?_)
  refine n_put (own := 16) (ci := 10) (k := 29) [.int 0, .ref b1, .ref b11, .ref b21, .ref b31, .ref b1, .int 0, .int 0, .int 0, .int 0, .int 0, .int 0, .int 0, .int 0, .int 0, .ref (aK 0), .ref (aK 1), .ref (aK 2), .int 0, .ref b53, .int 0, .int 0, .ref b63, .ref b73, .ref b83, .ref b93, .ref b103, .ref b113, .ref b123, .ref b133, .null, .null, .int 0, .int 0, .int 0, .int 0, .long 0, .long 0, .long 0, .int 0, .null, .null, .int 0, .int 0, .int 0, .int 0, .null] rfl H136 rfl rfl (by decide) rfl rfl ⟨rfl, rfl⟩ (Nat.le_of_ble_eq_true rfl) (tX11_init_1_ok (133, .putfield 66, 3) (List.mem_of_getElem? (i := 6) rfl)) (fun g140 H141 f142 => ?_)
  refine tt_aload_n rfl (List.Mem.head _) (tX11_init_1_ok (136, .aload_n 0, 1) (List.mem_of_getElem? (i := 7) rfl)) ?_
  refine tt_bipush rfl (tX11_init_1_ok (137, .bipush 6, 2) (List.mem_of_getElem? (i := 8) rfl)) ?_
  refine n_arr (L := 64) hT H141 rfl (by decide +kernel) (by decide) rfl (by decide) rfl (by decide) (by decide) (by decide) (tX11_init_1_ok (139, .newarray .int, 2) (List.mem_of_getElem? (i := 9) rfl)) (fun b143 S144 g145 H146 s147 m148 o149 => ?_)
  refine n_put (own := 16) (ci := 10) (k := 30) [.int 0, .ref b1, .ref b11, .ref b21, .ref b31, .ref b1, .int 0, .int 0, .int 0, .int 0, .int 0, .int 0, .int 0, .int 0, .int 0, .ref (aK 0), .ref (aK 1), .ref (aK 2), .int 0, .ref b53, .int 0, .int 0, .ref b63, .ref b73, .ref b83, .ref b93, .ref b103, .ref b113, .ref b123, .ref b133, .ref b143, .null, .int 0, .int 0, .int 0, .int 0, .long 0, .long 0, .long 0, .int 0, .null, .null, .int 0, .int 0, .int 0, .int 0, .null] rfl H146 rfl rfl (by decide) rfl rfl ⟨rfl, rfl⟩ (Nat.le_of_ble_eq_true rfl) (tX11_init_1_ok (141, .putfield 69, 3) (List.mem_of_getElem? (i := 10) rfl)) (fun g150 H151 f152 => ?_)
  refine tt_aload_n rfl (List.Mem.head _) (tX11_init_1_ok (144, .aload_n 0, 1) (List.mem_of_getElem? (i := 11) rfl)) ?_
  refine tt_sipush rfl (tX11_init_1_ok (145, .sipush 324, 3) (List.mem_of_getElem? (i := 12) rfl)) ?_
  refine n_arr (L := 65) hT H151 rfl (by decide +kernel) (by decide) rfl (by decide) rfl (by decide) (by decide) (by decide) (tX11_init_1_ok (148, .newarray .boolean, 2) (List.mem_of_getElem? (i := 13) rfl)) (fun b153 S154 g155 H156 s157 m158 o159 => ?_)
  refine n_put (own := 16) (ci := 10) (k := 31) [.int 0, .ref b1, .ref b11, .ref b21, .ref b31, .ref b1, .int 0, .int 0, .int 0, .int 0, .int 0, .int 0, .int 0, .int 0, .int 0, .ref (aK 0), .ref (aK 1), .ref (aK 2), .int 0, .ref b53, .int 0, .int 0, .ref b63, .ref b73, .ref b83, .ref b93, .ref b103, .ref b113, .ref b123, .ref b133, .ref b143, .ref b153, .int 0, .int 0, .int 0, .int 0, .long 0, .long 0, .long 0, .int 0, .null, .null, .int 0, .int 0, .int 0, .int 0, .null] rfl H156 rfl rfl (by decide) rfl rfl ⟨rfl, rfl⟩ (Nat.le_of_ble_eq_true rfl) (tX11_init_1_ok (150, .putfield 72, 3) (List.mem_of_getElem? (i := 14) rfl)) (fun g160 H161 f162 => ?_)
  refine tt_aload_n rfl (List.Mem.head _) (tX11_init_1_ok (153, .aload_n 0, 1) (List.mem_of_getElem? (i := 15) rfl)) ?_
  refine tt_bipush rfl (tX11_init_1_ok (154, .bipush 12, 2) (List.mem_of_getElem? (i := 16) rfl)) ?_
  refine n_arr (L := 66) hT H161 rfl (by decide +kernel) (by decide) rfl (by decide) rfl (by decide) (by decide) (by decide) (tX11_init_1_ok (156, .newarray .int, 2) (List.mem_of_getElem? (i := 17) rfl)) (fun b163 S164 g165 H166 s167 m168 o169 => ?_)
  refine n_put (own := 16) (ci := 10) (k := 40) [.int 0, .ref b1, .ref b11, .ref b21, .ref b31, .ref b1, .int 0, .int 0, .int 0, .int 0, .int 0, .int 0, .int 0, .int 0, .int 0, .ref (aK 0), .ref (aK 1), .ref (aK 2), .int 0, .ref b53, .int 0, .int 0, .ref b63, .ref b73, .ref b83, .ref b93, .ref b103, .ref b113, .ref b123, .ref b133, .ref b143, .ref b153, .int 0, .int 0, .int 0, .int 0, .long 0, .long 0, .long 0, .int 0, .ref b163, .null, .int 0, .int 0, .int 0, .int 0, .null] rfl H166 rfl rfl (by decide) rfl rfl ⟨rfl, rfl⟩ (Nat.le_of_ble_eq_true rfl) (tX11_init_1_ok (158, .putfield 76, 3) (List.mem_of_getElem? (i := 18) rfl)) (fun g170 H171 f172 => ?_)
  refine tt_aload_n rfl (List.Mem.head _) (tX11_init_1_ok (161, .aload_n 0, 1) (List.mem_of_getElem? (i := 19) rfl)) ?_
  refine tt_bipush rfl (tX11_init_1_ok (162, .bipush 6, 2) (List.mem_of_getElem? (i := 20) rfl)) ?_
  refine n_arr (L := 67) hT H171 rfl (by decide +kernel) (by decide) rfl (by decide) rfl (by decide) (by decide) (by decide) (tX11_init_1_ok (164, .newarray .int, 2) (List.mem_of_getElem? (i := 21) rfl)) (fun b173 S174 g175 H176 s177 m178 o179 => ?_)
  refine n_put (own := 16) (ci := 10) (k := 41) [.int 0, .ref b1, .ref b11, .ref b21, .ref b31, .ref b1, .int 0, .int 0, .int 0, .int 0, .int 0, .int 0, .int 0, .int 0, .int 0, .ref (aK 0), .ref (aK 1), .ref (aK 2), .int 0, .ref b53, .int 0, .int 0, .ref b63, .ref b73, .ref b83, .ref b93, .ref b103, .ref b113, .ref b123, .ref b133, .ref b143, .ref b153, .int 0, .int 0, .int 0, .int 0, .long 0, .long 0, .long 0, .int 0, .ref b163, .ref b173, .int 0, .int 0, .int 0, .int 0, .null] rfl H176 rfl rfl (by decide) rfl rfl ⟨rfl, rfl⟩ (Nat.le_of_ble_eq_true rfl) (tX11_init_1_ok (166, .putfield 79, 3) (List.mem_of_getElem? (i := 22) rfl)) (fun g180 H181 f182 => ?_)
  refine tt_aload_n rfl (List.Mem.head _) (tX11_init_1_ok (169, .aload_n 0, 1) (List.mem_of_getElem? (i := 23) rfl)) ?_
  refine tt_bipush rfl (tX11_init_1_ok (170, .bipush 12, 2) (List.mem_of_getElem? (i := 24) rfl)) ?_
  refine n_arr (L := 68) hT H181 rfl (by decide +kernel) (by decide) rfl (by decide) rfl (by decide) (by decide) (by decide) (tX11_init_1_ok (172, .newarray .int, 2) (List.mem_of_getElem? (i := 25) rfl)) (fun b183 S184 g185 H186 s187 m188 o189 => ?_)
  refine n_put (own := 16) (ci := 10) (k := 46) [.int 0, .ref b1, .ref b11, .ref b21, .ref b31, .ref b1, .int 0, .int 0, .int 0, .int 0, .int 0, .int 0, .int 0, .int 0, .int 0, .ref (aK 0), .ref (aK 1), .ref (aK 2), .int 0, .ref b53, .int 0, .int 0, .ref b63, .ref b73, .ref b83, .ref b93, .ref b103, .ref b113, .ref b123, .ref b133, .ref b143, .ref b153, .int 0, .int 0, .int 0, .int 0, .long 0, .long 0, .long 0, .int 0, .ref b163, .ref b173, .int 0, .int 0, .int 0, .int 0, .ref b183] rfl H186 rfl rfl (by decide) rfl rfl ⟨rfl, rfl⟩ (Nat.le_of_ble_eq_true rfl) (tX11_init_1_ok (174, .putfield 82, 3) (List.mem_of_getElem? (i := 26) rfl)) (fun g190 H191 f192 => ?_)
  refine tt_vret rfl ⟨H191.fin (L := 70) ?_, _, H191.2.1, rfl⟩ (by decide) (by decide) (tX11_init_1_ok (177, .return_, 1) (List.mem_of_getElem? (i := 27) rfl))
  refine Or.inl ⟨rfl, _, rfl, rfl, fun k t hk => ?_⟩
  match k, hk with
  | 0, hk => cases hk; exact ⟨_, rfl, _, rfl, by decide, by decide⟩
  | 1, hk => cases hk; exact ⟨_, rfl, _, rfl, sg_le.up H191.2.2.1 _ _ (m188 _ _ (m178 _ _ (m168 _ _ (m158 _ _ (m148 _ _ (m138 _ _ (m128 _ _ (m118 _ _ (m108 _ _ (m98 _ _ (m88 _ _ (m78 _ _ (m68 _ _ (m58 _ _ (m36 _ _ (m26 _ _ (m16 _ _ s5)))))))))))))))))⟩
  | 2, hk => cases hk; exact ⟨_, rfl, _, rfl, sg_le.up H191.2.2.1 _ _ (m188 _ _ (m178 _ _ (m168 _ _ (m158 _ _ (m148 _ _ (m138 _ _ (m128 _ _ (m118 _ _ (m108 _ _ (m98 _ _ (m88 _ _ (m78 _ _ (m68 _ _ (m58 _ _ (m36 _ _ (m26 _ _ s15))))))))))))))))⟩
  | 3, hk => cases hk; exact ⟨_, rfl, _, rfl, sg_le.up H191.2.2.1 _ _ (m188 _ _ (m178 _ _ (m168 _ _ (m158 _ _ (m148 _ _ (m138 _ _ (m128 _ _ (m118 _ _ (m108 _ _ (m98 _ _ (m88 _ _ (m78 _ _ (m68 _ _ (m58 _ _ (m36 _ _ s25)))))))))))))))⟩
  | 4, hk => cases hk; exact ⟨_, rfl, _, rfl, sg_le.up H191.2.2.1 _ _ (m188 _ _ (m178 _ _ (m168 _ _ (m158 _ _ (m148 _ _ (m138 _ _ (m128 _ _ (m118 _ _ (m108 _ _ (m98 _ _ (m88 _ _ (m78 _ _ (m68 _ _ (m58 _ _ s35))))))))))))))⟩
  | 5, hk => cases hk; exact ⟨_, rfl, trivial⟩
  | 6, hk => cases hk; exact ⟨_, rfl, _, rfl, by decide, by decide⟩
  | 7, hk => cases hk; exact ⟨_, rfl, _, rfl, by decide, by decide⟩
  | 8, hk => cases hk; exact ⟨_, rfl, _, rfl, by decide, by decide⟩
  | 9, hk => cases hk; exact ⟨_, rfl, _, rfl, by decide, by decide⟩
  | 10, hk => cases hk; exact ⟨_, rfl, _, rfl, by decide, by decide⟩
  | 11, hk => cases hk; exact ⟨_, rfl, _, rfl, by decide, by decide⟩
  | 12, hk => cases hk; exact ⟨_, rfl, _, rfl, by decide, by decide⟩
  | 13, hk => cases hk; exact ⟨_, rfl, _, rfl, by decide, by decide⟩
  | 14, hk => cases hk; exact ⟨_, rfl, _, rfl, by decide, by decide⟩
  | 15, hk => cases hk; exact ⟨_, rfl, trivial⟩
  | 16, hk => cases hk; exact ⟨_, rfl, trivial⟩
  | 17, hk => cases hk; exact ⟨_, rfl, trivial⟩
  | 18, hk => cases hk; exact ⟨_, rfl, _, rfl, by decide, by decide⟩
  | 19, hk => cases hk; exact ⟨_, rfl, _, rfl, sg_le.up H191.2.2.1 _ _ (m188 _ _ (m178 _ _ (m168 _ _ (m158 _ _ (m148 _ _ (m138 _ _ (m128 _ _ (m118 _ _ (m108 _ _ (m98 _ _ (m88 _ _ (m78 _ _ (m68 _ _ s57)))))))))))))⟩
  | 20, hk => cases hk; exact ⟨_, rfl, _, rfl, by decide, by decide⟩
  | 21, hk => cases hk; exact ⟨_, rfl, _, rfl, by decide, by decide⟩
  | 22, hk => cases hk; exact ⟨_, rfl, _, rfl, sg_le.up H191.2.2.1 _ _ (m188 _ _ (m178 _ _ (m168 _ _ (m158 _ _ (m148 _ _ (m138 _ _ (m128 _ _ (m118 _ _ (m108 _ _ (m98 _ _ (m88 _ _ (m78 _ _ s67))))))))))))⟩
  | 23, hk => cases hk; exact ⟨_, rfl, _, rfl, sg_le.up H191.2.2.1 _ _ (m188 _ _ (m178 _ _ (m168 _ _ (m158 _ _ (m148 _ _ (m138 _ _ (m128 _ _ (m118 _ _ (m108 _ _ (m98 _ _ (m88 _ _ s77)))))))))))⟩
  | 24, hk => cases hk; exact ⟨_, rfl, _, rfl, sg_le.up H191.2.2.1 _ _ (m188 _ _ (m178 _ _ (m168 _ _ (m158 _ _ (m148 _ _ (m138 _ _ (m128 _ _ (m118 _ _ (m108 _ _ (m98 _ _ s87))))))))))⟩
  | 25, hk => cases hk; exact ⟨_, rfl, _, rfl, sg_le.up H191.2.2.1 _ _ (m188 _ _ (m178 _ _ (m168 _ _ (m158 _ _ (m148 _ _ (m138 _ _ (m128 _ _ (m118 _ _ (m108 _ _ s97)))))))))⟩
  | 26, hk => cases hk; exact ⟨_, rfl, _, rfl, sg_le.up H191.2.2.1 _ _ (m188 _ _ (m178 _ _ (m168 _ _ (m158 _ _ (m148 _ _ (m138 _ _ (m128 _ _ (m118 _ _ s107))))))))⟩
  | 27, hk => cases hk; exact ⟨_, rfl, _, rfl, sg_le.up H191.2.2.1 _ _ (m188 _ _ (m178 _ _ (m168 _ _ (m158 _ _ (m148 _ _ (m138 _ _ (m128 _ _ s117)))))))⟩
  | 28, hk => cases hk; exact ⟨_, rfl, _, rfl, sg_le.up H191.2.2.1 _ _ (m188 _ _ (m178 _ _ (m168 _ _ (m158 _ _ (m148 _ _ (m138 _ _ s127))))))⟩
  | 29, hk => cases hk; exact ⟨_, rfl, _, rfl, sg_le.up H191.2.2.1 _ _ (m188 _ _ (m178 _ _ (m168 _ _ (m158 _ _ (m148 _ _ s137)))))⟩
  | 30, hk => cases hk; exact ⟨_, rfl, _, rfl, sg_le.up H191.2.2.1 _ _ (m188 _ _ (m178 _ _ (m168 _ _ (m158 _ _ s147))))⟩
  | 31, hk => cases hk; exact ⟨_, rfl, _, rfl, sg_le.up H191.2.2.1 _ _ (m188 _ _ (m178 _ _ (m168 _ _ s157)))⟩
  | 32, hk => cases hk; exact ⟨_, rfl, _, rfl, by decide, by decide⟩
  | 33, hk => cases hk; exact ⟨_, rfl, _, rfl, by decide, by decide⟩
  | 34, hk => cases hk; exact ⟨_, rfl, _, rfl, by decide, by decide⟩
  | 35, hk => cases hk; exact ⟨_, rfl, _, rfl, by decide, by decide⟩
  | 36, hk => cases hk; exact ⟨_, rfl, _, rfl⟩
  | 37, hk => cases hk; exact ⟨_, rfl, _, rfl⟩
  | 38, hk => cases hk; exact ⟨_, rfl, _, rfl⟩
  | 39, hk => cases hk; exact ⟨_, rfl, _, rfl, by decide, by decide⟩
  | 40, hk => cases hk; exact ⟨_, rfl, _, rfl, sg_le.up H191.2.2.1 _ _ (m188 _ _ (m178 _ _ s167))⟩
  | 41, hk => cases hk; exact ⟨_, rfl, _, rfl, sg_le.up H191.2.2.1 _ _ (m188 _ _ s177)⟩
  | 42, hk => cases hk; exact ⟨_, rfl, _, rfl, by decide, by decide⟩
  | 43, hk => cases hk; exact ⟨_, rfl, _, rfl, by decide, by decide⟩
  | 44, hk => cases hk; exact ⟨_, rfl, _, rfl, by decide, by decide⟩
  | 45, hk => cases hk; exact ⟨_, rfl, _, rfl, by decide, by decide⟩
  | 46, hk => cases hk; exact ⟨_, rfl, _, rfl, sg_le.up H191.2.2.1 _ _ s187⟩
  | k + 47, hk => cases hk
end
/-- what is so labelled is labelled the plain way, too -/
def plz (L : Nat) : Nat := if L = 71 then 2 else if L < 71 then L else if L < 80 then L - 61 else if L < 86 then 43 else if L = 86 then 32 else if (L - 87) % 6 = 0 then 3 else 18 + (L - 87) % 6
def sgp (Sg : Nat → Option Nat) : Nat → Option Nat := fun q => match Sg q with
  | some L => some (plz L)
  | none => none
theorem sgp_pl {Sg : Nat → Option Nat} {q L : Nat} (h : Sg q = some L) : sgp Sg q = some (plz L) := by
  unfold sgp
  rw [h]
theorem plz_lt {L : Nat} (h : L < 71) : plz L = L := by
  unfold plz
  rw [if_neg (by omega), if_pos h]
theorem sgp_of {Sg : Nat → Option Nat} {q L : Nat} (h : Sg q = some L) (hn : L < 71) : sgp Sg q = some L := by
  rw [sgp_pl h, plz_lt hn]
theorem sgp_in {Sg : Nat → Option Nat} {q L : Nat} (h : sgp Sg q = some L) : ∃ L0, Sg q = some L0 ∧ L = plz L0 := by
  unfold sgp at h
  cases h9 : Sg q with
  | none => rw [h9] at h; cases h
  | some L9 =>
    rw [h9] at h
    cases h
    exact ⟨L9, rfl, rfl⟩
def ok71 (t : k_T) : Bool := !(t.1 == 2 || t.1 == 3) || decide (t.2.1.toNat < 71)
theorem k_v.c71 {Sg : Nat → Option Nat} {v : Value} {t : k_T} (ht : ok71 t = true) (hv : k_v Sg v t) : k_v (sgp Sg) v t := by
  obtain ⟨k, y, z⟩ := t
  match k, ht, hv with
  | 0, _, hv => exact hv
  | 1, _, hv => exact hv
  | 2, ht, hv =>
    obtain ⟨a, e1, e2⟩ := hv
    have hn : y.toNat < 71 := by simpa [ok71] using ht
    exact ⟨a, e1, sgp_of e2 hn⟩
  | 3, ht, hv =>
    have hn : y.toNat < 71 := by simpa [ok71] using ht
    rcases hv with hv | ⟨a, e1, e2⟩
    · exact Or.inl hv
    · exact Or.inr ⟨a, e1, sgp_of e2 hn⟩
  | 4, _, hv => exact hv
  | n + 5, _, _ => exact trivial
def kz_le (t u : k_T) : Bool := (t == u && ok71 t) || (t.1 == 0 && u.1 == 0 && decide (u.2.1 ≤ t.2.1) && decide (t.2.2 ≤ u.2.2)) || (t.1 == 2 && u.1 == 2 && decide (plz t.2.1.toNat = u.2.1.toNat))
theorem k_v.subz {Sg : Nat → Option Nat} {v : Value} {t u : k_T} (h : kz_le t u = true) (hv : k_v Sg v t) : k_v (sgp Sg) v u := by
  unfold kz_le at h
  simp only [Bool.or_eq_true, Bool.and_eq_true, decide_eq_true_eq, beq_iff_eq] at h
  rcases h with (⟨rfl, h⟩ | ⟨⟨⟨h1, h2⟩, h3⟩, h4⟩) | ⟨⟨h1, h2⟩, h3⟩
  · exact hv.c71 h
  · obtain ⟨k, a, b⟩ := t
    obtain ⟨k2, a2, b2⟩ := u
    cases h1
    cases h2
    obtain ⟨y, e1, e2, e3⟩ := hv
    exact ⟨y, e1, Int.le_trans h3 e2, Int.le_trans e3 h4⟩
  · obtain ⟨k, a, b⟩ := t
    obtain ⟨k2, a2, b2⟩ := u
    cases h1
    cases h2
    obtain ⟨q, e1, e2⟩ := hv
    refine ⟨q, e1, ?_⟩
    rw [sgp_pl e2]
    exact congrArg some h3
def kz_leL : List k_T → List k_T → Bool
  | [], [] => true
  | t :: ts, u :: us => kz_le t u && kz_leL ts us
  | _, _ => false
theorem kz_leL.at_ : ∀ {ts us : List k_T}, kz_leL ts us = true → ∀ (i : Nat) (u : k_T), us[i]? = some u → ∃ t, ts[i]? = some t ∧ kz_le t u = true
  | [], [], _, i, u, h => by simp at h
  | t :: ts, u :: us, e, i, v, h => by
    simp only [kz_leL, Bool.and_eq_true] at e
    match i, h with
    | 0, h => cases h; exact ⟨t, rfl, e.1⟩
    | i + 1, h => exact kz_leL.at_ e.2 i v h
  | [], _ :: _, e, _, _, _ => by simp [kz_leL] at e
  | _ :: _, [], e, _, _, _ => by simp [kz_leL] at e
def kz_leI (I J : k_I) : Bool := (decide (I = J) && I.2.2.2.all ok71) || (I.1 == 0 && J.1 == 0 && I.2.1 == J.2.1 && I.2.2.1 == J.2.2.1 && kz_leL I.2.2.2 J.2.2.2) || (I.1 == 1 && J.1 == 1 && I.2.1 == J.2.1 && I.2.2.1 == J.2.2.1 && (List.range I.2.2.1).all (fun i => decide ((k_el J i).2.1 ≤ (k_el I i).2.1) && decide ((k_el I i).2.2 ≤ (k_el J i).2.2))) || (I.1 == 2 && J.1 == 2 && I.2.1 == J.2.1 && I.2.2.1 == J.2.2.1 && (List.range I.2.2.1).all (fun i => kz_le (k_el I i) (k_el J i)))
theorem Lz_le : ∀ L, L < 141 → kz_leI (Lz L) (Lb (plz L)) = true := by decide +kernel
theorem Lz_big {L : Nat} (h : 141 ≤ L) : Lz L = (9, 0, 0, []) := by
  unfold Lz
  rw [List.getD_eq_getElem?_getD, List.getElem?_eq_none (show 141 ≤ L from h)]
  rfl
theorem k_cell.plain {Sg : Nat → Option Nat} {cA : Nat → ClassId} {I J : k_I} {e : va_E} (hle : kz_leI I J = true) (e2 : k_cell Sg cA I e) : k_cell (sgp Sg) cA J e := by
  unfold kz_leI at hle
  simp only [Bool.or_eq_true, Bool.and_eq_true, decide_eq_true_eq, beq_iff_eq] at hle
  rcases hle with ((⟨rfl, ok⟩ | ⟨⟨⟨⟨c1, c2⟩, c3⟩, c4⟩, c5⟩) | ⟨⟨⟨⟨c1, c2⟩, c3⟩, c4⟩, c5⟩) | ⟨⟨⟨⟨c1, c2⟩, c3⟩, c4⟩, c5⟩
  · have ok := List.all_eq_true.mp ok
    rcases e2 with ⟨f1, fs, f2, f3, f4⟩ | e2 | ⟨f1, f, f2, f3⟩
    · refine Or.inl ⟨f1, fs, f2, f3, fun k t hk => ?_⟩
      obtain ⟨v, g1, g2⟩ := f4 k t hk
      exact ⟨v, g1, g2.c71 (ok t (List.mem_of_getElem? hk))⟩
    · exact Or.inr (Or.inl e2)
    · refine Or.inr (Or.inr ⟨f1, f, f2, fun i hi => (f3 i hi).c71 ?_⟩)
      rcases k_el_in I i with q | q
      · rw [q]; rfl
      · exact ok _ q
  · rcases e2 with ⟨f1, fs, f2, f3, f4⟩ | ⟨f1, -⟩ | ⟨f1, -⟩
    · refine Or.inl ⟨c2, fs, by rw [← c3]; exact f2, by rw [← c4]; exact f3, fun k u hk => ?_⟩
      obtain ⟨t, q1, q2⟩ := kz_leL.at_ c5 k u hk
      obtain ⟨v, q3, q4⟩ := f4 k t q1
      exact ⟨v, q3, q4.subz q2⟩
    · rw [c1] at f1
      cases f1
    · rw [c1] at f1
      cases f1
  · have c5 := List.all_eq_true.mp c5
    rcases e2 with ⟨f1, -⟩ | ⟨f1, f, f2, f3⟩ | ⟨f1, -⟩
    · rw [c1] at f1
      cases f1
    · refine Or.inr (Or.inl ⟨c2, f, by rw [← c3, ← c4]; exact f2, fun i hi => ?_⟩)
      have hi : i < I.2.2.1 := by rw [c4]; exact hi
      have q := c5 i (List.mem_range.mpr hi)
      simp only [Bool.and_eq_true, decide_eq_true_eq] at q
      exact ⟨Int.le_trans q.1 (f3 i hi).1, Int.le_trans (f3 i hi).2 q.2⟩
    · rw [c1] at f1
      cases f1
  · have c5 := List.all_eq_true.mp c5
    rcases e2 with ⟨f1, -⟩ | ⟨f1, -⟩ | ⟨f1, f, f2, f3⟩
    · rw [c1] at f1
      cases f1
    · rw [c1] at f1
      cases f1
    · refine Or.inr (Or.inr ⟨c2, f, by rw [← c3, ← c4]; exact f2, fun i hi => ?_⟩)
      have hi : i < I.2.2.1 := by rw [c4]; exact hi
      exact (f3 i hi).subz (c5 i (List.mem_range.mpr hi))
theorem k_H.plain {Sg : Nat → Option Nat} {cA : Nat → ClassId} {h : ch_H} (hH : k_H Sg cA Lz h) : k_H (sgp Sg) cA Lb h := by
  intro a L ha
  obtain ⟨L0, h0, rfl⟩ := sgp_in ha
  obtain ⟨e, e1, e2⟩ := hH a L0 h0
  by_cases hl : 141 ≤ L0
  · rw [Lz_big hl] at e2
    rcases e2 with ⟨f1, -⟩ | ⟨f1, -⟩ | ⟨f1, -⟩ <;> cases f1
  · exact ⟨e, e1, e2.plain (Lz_le L0 (by omega))⟩
