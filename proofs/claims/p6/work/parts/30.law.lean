/-! the law's loop and its beginning -/
theorem AOA_moved {ty : FieldType} {u U : State} (hvm : u.vm.Alike U.vm) (h : va_AOA ty u) : va_AOA ty U := by
  have h1 : (Cond.arrayOver (.array ty)).before #[] (u.setVm U.vm) = true := (Cond.arrayOver_setVmC hvm (.array ty)).trans h
  exact h1
/-- what a state holds over calls -/
def X9 (aK aV : Nat → Nat) (sa sc N : Nat) (sv : Nat → Int32) (A : Nat → Prop) (s : State) : Prop := xs A aK aV s ∧ k_NX (fun t => t = s) ∧ xr A sa s ∧ va_T .int sc N (fun j => .int (sv j)) A s s.heap
theorem X9.chx {aK aV : Nat → Nat} {sa sc N : Nat} {sv : Nat → Int32} {A : Nat → Prop} : ch_x A (X9 aK aV sa sc N sv A) := by
  intro s U hW hF ⟨⟨a1, a2, a3, a4, a5, a6⟩, b, ⟨c1, c2, c3, c4⟩, e⟩
  have hk : ∀ a : Nat, a < s.heap.size → ¬ A a → U.heap[a]? = s.heap[a]? := hF.2
  have hv := hW.alike
  refine ⟨⟨(a1.kept hk).moved hv, (a2.kept hk).moved hv, (a3.kept hk).moved hv, a4.warm hW, a5.warm hW, a6.warm hW⟩, ?_, ⟨fun w hw a => ?_, c2.warm hW, (c3.kept hk).moved hv, (c4.kept hk).moved hv⟩, (e.kept hk).moved hv⟩
  · intro t ht
    subst ht
    obtain ⟨n1, n2, n3, n4, n5, n6, n7, n8, n9, n10, n11, n12⟩ := b s rfl
    exact ⟨n1.warmM hW, n2.warmM hW, n3.warmM hW, n4.warmM hW, n5.warmM hW, n6.warmM hW, n7.warmM hW, n8.warmM hW, n9.warmM hW, n10.moved hv, n11.moved hv, AOA_moved hv n12⟩
  · have h1 := Cond.faceAtom_setVm hv w (nsF_ot w hw).2 (c1 w hw a)
    exact va_tabs (nsF_ot w hw).1 (rfl : (s.setVm U.vm).vm = U.vm) h1
theorem X9.narrow {aK aV : Nat → Nat} {sa sc N : Nat} {sv : Nat → Int32} {A B : Nat → Prop} (hAB : ∀ q, B q → A q) {s : State} (h : X9 aK aV sa sc N sv A s) : X9 aK aV sa sc N sv B s := by
  obtain ⟨⟨a1, a2, a3, a4, a5, a6⟩, b, ⟨c1, c2, c3, c4⟩, e⟩ := h
  exact ⟨⟨a1.narrow hAB, a2.narrow hAB, a3.narrow hAB, a4, a5, a6⟩, b, ⟨c1, c2, c3.narrow hAB, c4.narrow hAB⟩, e.narrow hAB⟩
theorem X9.lwX {l : Launch} {tys : List (ClassId × FieldType)} {cA : Nat → ClassId} {aK aV : Nat → Nat} {sa sc N o : Nat} {sv : Nat → Int32} {A : Nat → Prop} (hT : k_tys tys cA) (hl : l.stackTraces = false) (hN : N ≤ 3072) : lwX l tys A (X9 aK aV sa sc N sv A) (X9 aK aV sa sc N sv (ch_m1 A o)) cA o sc N sa sv aK aV :=
  ⟨hT, fun s h => h.2.1 s rfl, X9.chx, fun s h => h.narrow (fun _ q => q.1), fun s h => h.1, fun s h => h.2.2.1, hl, fun s h => h.2.2.2, hN, X9.chx⟩
section
variable {l : Launch} {D : va_G} {tys : List (ClassId × FieldType)} {A : Nat → Prop} {X X' : State → Prop} {o : Nat} {sa sc N : Nat} {sv : Nat → Int32} {aK aV : Nat → Nat} {cA : Nat → ClassId} {x m : Nat}
theorem law_loop (hX : lwX l tys A X X' cA o sc N sa sv aK aV) : ∀ (n : Nat) (i : Int32) (c z : Nat) (f : Nat → Int64) (Sg : Nat → Option Nat) (h : ch_H) (σ : aS) (τ : aN × zP), 0 ≤ i.toInt → i.toInt ≤ 3078 → 3084 - i.toInt ≤ (n : Int) → (c : Int) + 4 * (3084 - i.toInt) ≤ 601024 → (z : Int) + 300 * (3084 - i.toInt) ≤ 7293034 → lwI Sg cA h x m o σ σ τ τ →
    tt l D tys A X 2048 84000 601024 7293034 mL_law (fun v _ => v = some (.int 1)) 23 [(0, .ref sc), (1, .ref x), (2, .ref m), (3, .ref o), (4, .int i)] [] (ch_up h o (.inl (cA 6, 1, .inr (.inl f)))) c z
  | 0, i, c, z, f, Sg, h, σ, τ, i0, i1, i2, _, _, _ => by omega
  | n + 1, i, c, z, f, Sg, h, σ, τ, i0, i1, i2, hc, hz, I => by
    have hN := hX.2.2.2.2.2.2.2.2.1
    have eN : (Int32.ofNat N).toInt = (N : Int) := Int32.toInt_ofNat_of_lt (by omega)
    refine tt_iload (List.Mem.tail _ (List.Mem.tail _ (List.Mem.tail _ (List.Mem.tail _ (List.Mem.head _))))) (tL_law_0_ok (23, .iload 4, 2) (List.mem_of_getElem? (i := 13) rfl)) ?_
    refine tt_aload_n rfl (List.Mem.head _) (tL_law_0_ok (25, .aload_n 0, 1) (List.mem_of_getElem? (i := 14) rfl)) ?_
    refine tt_tlen hX.2.2.2.2.2.2.2.1 (tL_law_0_ok (26, .arraylength, 1) (List.mem_of_getElem? (i := 15) rfl)) ?_
    refine tt_bipush (v := 6) rfl (tL_law_0_ok (27, .bipush 6, 2) (List.mem_of_getElem? (i := 16) rfl)) ?_
    refine tt_isub (tL_law_0_ok (29, .isub, 1) (List.mem_of_getElem? (i := 17) rfl)) ?_
    have e6 : (6 : Int32).toInt = 6 := rfl
    have eS := fb_subI (x := Int32.ofNat N) (y := 6) (by omega) (by omega)
    refine tt_icmp_gt (tgt := 1711) (tL_law_0_ok (30, .if_icmp .gt 1681, 3) (List.mem_of_getElem? (i := 18) rfl)) rfl (fun _ => ?_) (fun b1 => ?_)
    · refine tt_iconst (v := 1) rfl (tL_law_17_ok (1711, .iconst 1, 1) (List.mem_of_getElem? (i := 59) rfl)) ?_
      exact tt_zret (ty := .boolean) rfl (by decide) rfl (by omega) (by omega) (tL_law_18_ok (1712, .ireturn, 1) (List.mem_of_getElem? (i := 0) rfl))
    · have b1 : i.toInt + 6 ≤ (N : Int) := by
        have := mt (kn_lt (Int32.ofNat N - 6) i).mpr b1
        omega
      have hi : 0 ≤ i.toInt ∧ i.toInt + 6 ≤ (N : Int) := ⟨i0, b1⟩
      have hc4 : c + 4 ≤ 601024 := by omega
      have hz4 : z + 300 ≤ 7293034 := by omega
      have nx : ∀ Sg1 g (σ : aS) (τ : aN × zP) (f' : Nat → Int64), lwI Sg1 cA g x m o σ σ τ τ → tt l D tys A X 2048 84000 601024 7293034 mL_law (fun v _ => v = some (.int 1)) 1705 [(0, .ref sc), (1, .ref x), (2, .ref m), (3, .ref o), (4, .int i)] [] (ch_up g o (.inl (cA 6, 1, .inr (.inl f')))) (c + 4) (z + 300) := fun Sg1 g σ' τ' f' I' => by
        refine tt_iinc (tL_law_17_ok (1705, .iinc 4 6, 3) (List.mem_of_getElem? (i := 57) rfl)) (List.Mem.tail _ (List.Mem.tail _ (List.Mem.tail _ (List.Mem.tail _ (List.Mem.head _))))) (by decide) ?_
        refine tt_goto (tgt := 23) (tL_law_17_ok (1708, .goto (-1685), 3) (List.mem_of_getElem? (i := 58) rfl)) rfl ?_
        have ei : (i + 6).toInt = i.toInt + 6 := fb_addI (by omega) (by omega)
        refine tt_lv [(0, .ref sc), (1, .ref x), (2, .ref m), (3, .ref o), (4, .int (i + 6))] (fun q hq => ?_) (law_loop hX n (i + 6) (c + 4) (z + 300) f' Sg1 g σ' τ' (by omega) (by omega) (by omega) (by omega) (by omega) I')
        show q ∈ [(4, Value.int (i + 6)), (0, .ref sc), (1, .ref x), (2, .ref m), (3, .ref o)]
        simp only [List.mem_cons, List.not_mem_nil, or_false] at hq ⊢
        rcases hq with e | e | e | e | e <;> simp only [e, true_or, or_true]
      refine tt_aload_n rfl (List.Mem.head _) (tL_law_0_ok (33, .aload_n 0, 1) (List.mem_of_getElem? (i := 19) rfl)) ?_
      refine tt_iload (List.Mem.tail _ (List.Mem.tail _ (List.Mem.tail _ (List.Mem.tail _ (List.Mem.head _))))) (tL_law_0_ok (34, .iload 4, 2) (List.mem_of_getElem? (i := 20) rfl)) ?_
      refine tt_ti hX.2.2.2.2.2.2.2.1 (kn_in (by omega) (by omega)) rfl (tL_law_0_ok (36, .iaload, 1) (List.mem_of_getElem? (i := 21) rfl)) ?_
      refine tt_bipush (v := 63) rfl (tL_law_0_ok (37, .bipush 63, 2) (List.mem_of_getElem? (i := 22) rfl)) ?_
      refine tt_iand (tL_law_0_ok (39, .iand, 1) (List.mem_of_getElem? (i := 23) rfl)) ?_
      generalize (sv i.toNatClampNeg &&& 63) = v
      by_cases hq : v.toInt < 0 ∨ 41 < v.toInt
      · exact tt_tableOut (tgt := 1705) (tL_law_0_ok (40, .tableswitch 1665 0 41 #[184, 257, 282, 307, 376, 444, 481, 534, 571, 608, 633, 646, 671, 736, 773, 810, 847, 872, 909, 958, 995, 1020, 1045, 1082, 1107, 1144, 1169, 1206, 1231, 1268, 1317, 1342, 1367, 1392, 1453, 1490, 1515, 1540, 1565, 1614, 1627, 1640], 184) (List.mem_of_getElem? (i := 24) rfl)) hq rfl (tt_widen (by omega) (by omega) (nx Sg h σ τ f I))
      · have h42 : v.toInt = 0 ∨ v.toInt = 1 ∨ v.toInt = 2 ∨ v.toInt = 3 ∨ v.toInt = 4 ∨ v.toInt = 5 ∨ v.toInt = 6 ∨ v.toInt = 7 ∨ v.toInt = 8 ∨ v.toInt = 9 ∨ v.toInt = 10 ∨ v.toInt = 11 ∨ v.toInt = 12 ∨ v.toInt = 13 ∨ v.toInt = 14 ∨ v.toInt = 15 ∨ v.toInt = 16 ∨ v.toInt = 17 ∨ v.toInt = 18 ∨ v.toInt = 19 ∨ v.toInt = 20 ∨ v.toInt = 21 ∨ v.toInt = 22 ∨ v.toInt = 23 ∨ v.toInt = 24 ∨ v.toInt = 25 ∨ v.toInt = 26 ∨ v.toInt = 27 ∨ v.toInt = 28 ∨ v.toInt = 29 ∨ v.toInt = 30 ∨ v.toInt = 31 ∨ v.toInt = 32 ∨ v.toInt = 33 ∨ v.toInt = 34 ∨ v.toInt = 35 ∨ v.toInt = 36 ∨ v.toInt = 37 ∨ v.toInt = 38 ∨ v.toInt = 39 ∨ v.toInt = 40 ∨ v.toInt = 41 := by omega
        rcases h42 with e | e | e | e | e | e | e | e | e | e | e | e | e | e | e | e | e | e | e | e | e | e | e | e | e | e | e | e | e | e | e | e | e | e | e | e | e | e | e | e | e | e
        · exact tt_tableIn (off := 184) (tgt := 224) (tL_law_0_ok (40, .tableswitch 1665 0 41 #[184, 257, 282, 307, 376, 444, 481, 534, 571, 608, 633, 646, 671, 736, 773, 810, 847, 872, 909, 958, 995, 1020, 1045, 1082, 1107, 1144, 1169, 1206, 1231, 1268, 1317, 1342, 1367, 1392, 1453, 1490, 1515, 1540, 1565, 1614, 1627, 1640], 184) (List.mem_of_getElem? (i := 24) rfl)) (by omega) (by omega) (by rw [e]; rfl) rfl (law_0 hX hi hc4 hz4 I nx)
        · exact tt_tableIn (off := 257) (tgt := 297) (tL_law_0_ok (40, .tableswitch 1665 0 41 #[184, 257, 282, 307, 376, 444, 481, 534, 571, 608, 633, 646, 671, 736, 773, 810, 847, 872, 909, 958, 995, 1020, 1045, 1082, 1107, 1144, 1169, 1206, 1231, 1268, 1317, 1342, 1367, 1392, 1453, 1490, 1515, 1540, 1565, 1614, 1627, 1640], 184) (List.mem_of_getElem? (i := 24) rfl)) (by omega) (by omega) (by rw [e]; rfl) rfl (law_1 hX hi hc4 hz4 I nx)
        · exact tt_tableIn (off := 282) (tgt := 322) (tL_law_0_ok (40, .tableswitch 1665 0 41 #[184, 257, 282, 307, 376, 444, 481, 534, 571, 608, 633, 646, 671, 736, 773, 810, 847, 872, 909, 958, 995, 1020, 1045, 1082, 1107, 1144, 1169, 1206, 1231, 1268, 1317, 1342, 1367, 1392, 1453, 1490, 1515, 1540, 1565, 1614, 1627, 1640], 184) (List.mem_of_getElem? (i := 24) rfl)) (by omega) (by omega) (by rw [e]; rfl) rfl (law_2 hX hi hc4 hz4 I nx)
        · exact tt_tableIn (off := 307) (tgt := 347) (tL_law_0_ok (40, .tableswitch 1665 0 41 #[184, 257, 282, 307, 376, 444, 481, 534, 571, 608, 633, 646, 671, 736, 773, 810, 847, 872, 909, 958, 995, 1020, 1045, 1082, 1107, 1144, 1169, 1206, 1231, 1268, 1317, 1342, 1367, 1392, 1453, 1490, 1515, 1540, 1565, 1614, 1627, 1640], 184) (List.mem_of_getElem? (i := 24) rfl)) (by omega) (by omega) (by rw [e]; rfl) rfl (law_3 hX hi hc4 hz4 I nx)
        · exact tt_tableIn (off := 376) (tgt := 416) (tL_law_0_ok (40, .tableswitch 1665 0 41 #[184, 257, 282, 307, 376, 444, 481, 534, 571, 608, 633, 646, 671, 736, 773, 810, 847, 872, 909, 958, 995, 1020, 1045, 1082, 1107, 1144, 1169, 1206, 1231, 1268, 1317, 1342, 1367, 1392, 1453, 1490, 1515, 1540, 1565, 1614, 1627, 1640], 184) (List.mem_of_getElem? (i := 24) rfl)) (by omega) (by omega) (by rw [e]; rfl) rfl (law_4 hX hi hc4 hz4 I nx)
        · exact tt_tableIn (off := 444) (tgt := 484) (tL_law_0_ok (40, .tableswitch 1665 0 41 #[184, 257, 282, 307, 376, 444, 481, 534, 571, 608, 633, 646, 671, 736, 773, 810, 847, 872, 909, 958, 995, 1020, 1045, 1082, 1107, 1144, 1169, 1206, 1231, 1268, 1317, 1342, 1367, 1392, 1453, 1490, 1515, 1540, 1565, 1614, 1627, 1640], 184) (List.mem_of_getElem? (i := 24) rfl)) (by omega) (by omega) (by rw [e]; rfl) rfl (law_5 hX hi hc4 hz4 I nx)
        · exact tt_tableIn (off := 481) (tgt := 521) (tL_law_0_ok (40, .tableswitch 1665 0 41 #[184, 257, 282, 307, 376, 444, 481, 534, 571, 608, 633, 646, 671, 736, 773, 810, 847, 872, 909, 958, 995, 1020, 1045, 1082, 1107, 1144, 1169, 1206, 1231, 1268, 1317, 1342, 1367, 1392, 1453, 1490, 1515, 1540, 1565, 1614, 1627, 1640], 184) (List.mem_of_getElem? (i := 24) rfl)) (by omega) (by omega) (by rw [e]; rfl) rfl (law_6 hX hi hc4 hz4 I nx)
        · exact tt_tableIn (off := 534) (tgt := 574) (tL_law_0_ok (40, .tableswitch 1665 0 41 #[184, 257, 282, 307, 376, 444, 481, 534, 571, 608, 633, 646, 671, 736, 773, 810, 847, 872, 909, 958, 995, 1020, 1045, 1082, 1107, 1144, 1169, 1206, 1231, 1268, 1317, 1342, 1367, 1392, 1453, 1490, 1515, 1540, 1565, 1614, 1627, 1640], 184) (List.mem_of_getElem? (i := 24) rfl)) (by omega) (by omega) (by rw [e]; rfl) rfl (law_7 hX hi hc4 hz4 I nx)
        · exact tt_tableIn (off := 571) (tgt := 611) (tL_law_0_ok (40, .tableswitch 1665 0 41 #[184, 257, 282, 307, 376, 444, 481, 534, 571, 608, 633, 646, 671, 736, 773, 810, 847, 872, 909, 958, 995, 1020, 1045, 1082, 1107, 1144, 1169, 1206, 1231, 1268, 1317, 1342, 1367, 1392, 1453, 1490, 1515, 1540, 1565, 1614, 1627, 1640], 184) (List.mem_of_getElem? (i := 24) rfl)) (by omega) (by omega) (by rw [e]; rfl) rfl (law_8 hX hi hc4 hz4 I nx)
        · exact tt_tableIn (off := 608) (tgt := 648) (tL_law_0_ok (40, .tableswitch 1665 0 41 #[184, 257, 282, 307, 376, 444, 481, 534, 571, 608, 633, 646, 671, 736, 773, 810, 847, 872, 909, 958, 995, 1020, 1045, 1082, 1107, 1144, 1169, 1206, 1231, 1268, 1317, 1342, 1367, 1392, 1453, 1490, 1515, 1540, 1565, 1614, 1627, 1640], 184) (List.mem_of_getElem? (i := 24) rfl)) (by omega) (by omega) (by rw [e]; rfl) rfl (law_9 hX hi hc4 hz4 I nx)
        · exact tt_tableIn (off := 633) (tgt := 673) (tL_law_0_ok (40, .tableswitch 1665 0 41 #[184, 257, 282, 307, 376, 444, 481, 534, 571, 608, 633, 646, 671, 736, 773, 810, 847, 872, 909, 958, 995, 1020, 1045, 1082, 1107, 1144, 1169, 1206, 1231, 1268, 1317, 1342, 1367, 1392, 1453, 1490, 1515, 1540, 1565, 1614, 1627, 1640], 184) (List.mem_of_getElem? (i := 24) rfl)) (by omega) (by omega) (by rw [e]; rfl) rfl (law_10 hX hi hc4 hz4 I nx)
        · exact tt_tableIn (off := 646) (tgt := 686) (tL_law_0_ok (40, .tableswitch 1665 0 41 #[184, 257, 282, 307, 376, 444, 481, 534, 571, 608, 633, 646, 671, 736, 773, 810, 847, 872, 909, 958, 995, 1020, 1045, 1082, 1107, 1144, 1169, 1206, 1231, 1268, 1317, 1342, 1367, 1392, 1453, 1490, 1515, 1540, 1565, 1614, 1627, 1640], 184) (List.mem_of_getElem? (i := 24) rfl)) (by omega) (by omega) (by rw [e]; rfl) rfl (law_11 hX hi hc4 hz4 I nx)
        · exact tt_tableIn (off := 671) (tgt := 711) (tL_law_0_ok (40, .tableswitch 1665 0 41 #[184, 257, 282, 307, 376, 444, 481, 534, 571, 608, 633, 646, 671, 736, 773, 810, 847, 872, 909, 958, 995, 1020, 1045, 1082, 1107, 1144, 1169, 1206, 1231, 1268, 1317, 1342, 1367, 1392, 1453, 1490, 1515, 1540, 1565, 1614, 1627, 1640], 184) (List.mem_of_getElem? (i := 24) rfl)) (by omega) (by omega) (by rw [e]; rfl) rfl (law_12 hX hi hc4 hz4 I nx)
        · exact tt_tableIn (off := 736) (tgt := 776) (tL_law_0_ok (40, .tableswitch 1665 0 41 #[184, 257, 282, 307, 376, 444, 481, 534, 571, 608, 633, 646, 671, 736, 773, 810, 847, 872, 909, 958, 995, 1020, 1045, 1082, 1107, 1144, 1169, 1206, 1231, 1268, 1317, 1342, 1367, 1392, 1453, 1490, 1515, 1540, 1565, 1614, 1627, 1640], 184) (List.mem_of_getElem? (i := 24) rfl)) (by omega) (by omega) (by rw [e]; rfl) rfl (law_13 hX hi hc4 hz4 I nx)
        · exact tt_tableIn (off := 773) (tgt := 813) (tL_law_0_ok (40, .tableswitch 1665 0 41 #[184, 257, 282, 307, 376, 444, 481, 534, 571, 608, 633, 646, 671, 736, 773, 810, 847, 872, 909, 958, 995, 1020, 1045, 1082, 1107, 1144, 1169, 1206, 1231, 1268, 1317, 1342, 1367, 1392, 1453, 1490, 1515, 1540, 1565, 1614, 1627, 1640], 184) (List.mem_of_getElem? (i := 24) rfl)) (by omega) (by omega) (by rw [e]; rfl) rfl (law_14 hX hi hc4 hz4 I nx)
        · exact tt_tableIn (off := 810) (tgt := 850) (tL_law_0_ok (40, .tableswitch 1665 0 41 #[184, 257, 282, 307, 376, 444, 481, 534, 571, 608, 633, 646, 671, 736, 773, 810, 847, 872, 909, 958, 995, 1020, 1045, 1082, 1107, 1144, 1169, 1206, 1231, 1268, 1317, 1342, 1367, 1392, 1453, 1490, 1515, 1540, 1565, 1614, 1627, 1640], 184) (List.mem_of_getElem? (i := 24) rfl)) (by omega) (by omega) (by rw [e]; rfl) rfl (law_15 hX hi hc4 hz4 I nx)
        · exact tt_tableIn (off := 847) (tgt := 887) (tL_law_0_ok (40, .tableswitch 1665 0 41 #[184, 257, 282, 307, 376, 444, 481, 534, 571, 608, 633, 646, 671, 736, 773, 810, 847, 872, 909, 958, 995, 1020, 1045, 1082, 1107, 1144, 1169, 1206, 1231, 1268, 1317, 1342, 1367, 1392, 1453, 1490, 1515, 1540, 1565, 1614, 1627, 1640], 184) (List.mem_of_getElem? (i := 24) rfl)) (by omega) (by omega) (by rw [e]; rfl) rfl (law_16 hX hi hc4 hz4 I nx)
        · exact tt_tableIn (off := 872) (tgt := 912) (tL_law_0_ok (40, .tableswitch 1665 0 41 #[184, 257, 282, 307, 376, 444, 481, 534, 571, 608, 633, 646, 671, 736, 773, 810, 847, 872, 909, 958, 995, 1020, 1045, 1082, 1107, 1144, 1169, 1206, 1231, 1268, 1317, 1342, 1367, 1392, 1453, 1490, 1515, 1540, 1565, 1614, 1627, 1640], 184) (List.mem_of_getElem? (i := 24) rfl)) (by omega) (by omega) (by rw [e]; rfl) rfl (law_17 hX hi hc4 hz4 I nx)
        · exact tt_tableIn (off := 909) (tgt := 949) (tL_law_0_ok (40, .tableswitch 1665 0 41 #[184, 257, 282, 307, 376, 444, 481, 534, 571, 608, 633, 646, 671, 736, 773, 810, 847, 872, 909, 958, 995, 1020, 1045, 1082, 1107, 1144, 1169, 1206, 1231, 1268, 1317, 1342, 1367, 1392, 1453, 1490, 1515, 1540, 1565, 1614, 1627, 1640], 184) (List.mem_of_getElem? (i := 24) rfl)) (by omega) (by omega) (by rw [e]; rfl) rfl (law_18 hX hi hc4 hz4 I nx)
        · exact tt_tableIn (off := 958) (tgt := 998) (tL_law_0_ok (40, .tableswitch 1665 0 41 #[184, 257, 282, 307, 376, 444, 481, 534, 571, 608, 633, 646, 671, 736, 773, 810, 847, 872, 909, 958, 995, 1020, 1045, 1082, 1107, 1144, 1169, 1206, 1231, 1268, 1317, 1342, 1367, 1392, 1453, 1490, 1515, 1540, 1565, 1614, 1627, 1640], 184) (List.mem_of_getElem? (i := 24) rfl)) (by omega) (by omega) (by rw [e]; rfl) rfl (law_19 hX hi hc4 hz4 I nx)
        · exact tt_tableIn (off := 995) (tgt := 1035) (tL_law_0_ok (40, .tableswitch 1665 0 41 #[184, 257, 282, 307, 376, 444, 481, 534, 571, 608, 633, 646, 671, 736, 773, 810, 847, 872, 909, 958, 995, 1020, 1045, 1082, 1107, 1144, 1169, 1206, 1231, 1268, 1317, 1342, 1367, 1392, 1453, 1490, 1515, 1540, 1565, 1614, 1627, 1640], 184) (List.mem_of_getElem? (i := 24) rfl)) (by omega) (by omega) (by rw [e]; rfl) rfl (law_20 hX hi hc4 hz4 I nx)
        · exact tt_tableIn (off := 1020) (tgt := 1060) (tL_law_0_ok (40, .tableswitch 1665 0 41 #[184, 257, 282, 307, 376, 444, 481, 534, 571, 608, 633, 646, 671, 736, 773, 810, 847, 872, 909, 958, 995, 1020, 1045, 1082, 1107, 1144, 1169, 1206, 1231, 1268, 1317, 1342, 1367, 1392, 1453, 1490, 1515, 1540, 1565, 1614, 1627, 1640], 184) (List.mem_of_getElem? (i := 24) rfl)) (by omega) (by omega) (by rw [e]; rfl) rfl (law_21 hX hi hc4 hz4 I nx)
        · exact tt_tableIn (off := 1045) (tgt := 1085) (tL_law_0_ok (40, .tableswitch 1665 0 41 #[184, 257, 282, 307, 376, 444, 481, 534, 571, 608, 633, 646, 671, 736, 773, 810, 847, 872, 909, 958, 995, 1020, 1045, 1082, 1107, 1144, 1169, 1206, 1231, 1268, 1317, 1342, 1367, 1392, 1453, 1490, 1515, 1540, 1565, 1614, 1627, 1640], 184) (List.mem_of_getElem? (i := 24) rfl)) (by omega) (by omega) (by rw [e]; rfl) rfl (law_22 hX hi hc4 hz4 I nx)
        · exact tt_tableIn (off := 1082) (tgt := 1122) (tL_law_0_ok (40, .tableswitch 1665 0 41 #[184, 257, 282, 307, 376, 444, 481, 534, 571, 608, 633, 646, 671, 736, 773, 810, 847, 872, 909, 958, 995, 1020, 1045, 1082, 1107, 1144, 1169, 1206, 1231, 1268, 1317, 1342, 1367, 1392, 1453, 1490, 1515, 1540, 1565, 1614, 1627, 1640], 184) (List.mem_of_getElem? (i := 24) rfl)) (by omega) (by omega) (by rw [e]; rfl) rfl (law_23 hX hi hc4 hz4 I nx)
        · exact tt_tableIn (off := 1107) (tgt := 1147) (tL_law_0_ok (40, .tableswitch 1665 0 41 #[184, 257, 282, 307, 376, 444, 481, 534, 571, 608, 633, 646, 671, 736, 773, 810, 847, 872, 909, 958, 995, 1020, 1045, 1082, 1107, 1144, 1169, 1206, 1231, 1268, 1317, 1342, 1367, 1392, 1453, 1490, 1515, 1540, 1565, 1614, 1627, 1640], 184) (List.mem_of_getElem? (i := 24) rfl)) (by omega) (by omega) (by rw [e]; rfl) rfl (law_24 hX hi hc4 hz4 I nx)
        · exact tt_tableIn (off := 1144) (tgt := 1184) (tL_law_0_ok (40, .tableswitch 1665 0 41 #[184, 257, 282, 307, 376, 444, 481, 534, 571, 608, 633, 646, 671, 736, 773, 810, 847, 872, 909, 958, 995, 1020, 1045, 1082, 1107, 1144, 1169, 1206, 1231, 1268, 1317, 1342, 1367, 1392, 1453, 1490, 1515, 1540, 1565, 1614, 1627, 1640], 184) (List.mem_of_getElem? (i := 24) rfl)) (by omega) (by omega) (by rw [e]; rfl) rfl (law_25 hX hi hc4 hz4 I nx)
        · exact tt_tableIn (off := 1169) (tgt := 1209) (tL_law_0_ok (40, .tableswitch 1665 0 41 #[184, 257, 282, 307, 376, 444, 481, 534, 571, 608, 633, 646, 671, 736, 773, 810, 847, 872, 909, 958, 995, 1020, 1045, 1082, 1107, 1144, 1169, 1206, 1231, 1268, 1317, 1342, 1367, 1392, 1453, 1490, 1515, 1540, 1565, 1614, 1627, 1640], 184) (List.mem_of_getElem? (i := 24) rfl)) (by omega) (by omega) (by rw [e]; rfl) rfl (law_26 hX hi hc4 hz4 I nx)
        · exact tt_tableIn (off := 1206) (tgt := 1246) (tL_law_0_ok (40, .tableswitch 1665 0 41 #[184, 257, 282, 307, 376, 444, 481, 534, 571, 608, 633, 646, 671, 736, 773, 810, 847, 872, 909, 958, 995, 1020, 1045, 1082, 1107, 1144, 1169, 1206, 1231, 1268, 1317, 1342, 1367, 1392, 1453, 1490, 1515, 1540, 1565, 1614, 1627, 1640], 184) (List.mem_of_getElem? (i := 24) rfl)) (by omega) (by omega) (by rw [e]; rfl) rfl (law_27 hX hi hc4 hz4 I nx)
        · exact tt_tableIn (off := 1231) (tgt := 1271) (tL_law_0_ok (40, .tableswitch 1665 0 41 #[184, 257, 282, 307, 376, 444, 481, 534, 571, 608, 633, 646, 671, 736, 773, 810, 847, 872, 909, 958, 995, 1020, 1045, 1082, 1107, 1144, 1169, 1206, 1231, 1268, 1317, 1342, 1367, 1392, 1453, 1490, 1515, 1540, 1565, 1614, 1627, 1640], 184) (List.mem_of_getElem? (i := 24) rfl)) (by omega) (by omega) (by rw [e]; rfl) rfl (law_28 hX hi hc4 hz4 I nx)
        · exact tt_tableIn (off := 1268) (tgt := 1308) (tL_law_0_ok (40, .tableswitch 1665 0 41 #[184, 257, 282, 307, 376, 444, 481, 534, 571, 608, 633, 646, 671, 736, 773, 810, 847, 872, 909, 958, 995, 1020, 1045, 1082, 1107, 1144, 1169, 1206, 1231, 1268, 1317, 1342, 1367, 1392, 1453, 1490, 1515, 1540, 1565, 1614, 1627, 1640], 184) (List.mem_of_getElem? (i := 24) rfl)) (by omega) (by omega) (by rw [e]; rfl) rfl (law_29 hX hi hc4 hz4 I nx)
        · exact tt_tableIn (off := 1317) (tgt := 1357) (tL_law_0_ok (40, .tableswitch 1665 0 41 #[184, 257, 282, 307, 376, 444, 481, 534, 571, 608, 633, 646, 671, 736, 773, 810, 847, 872, 909, 958, 995, 1020, 1045, 1082, 1107, 1144, 1169, 1206, 1231, 1268, 1317, 1342, 1367, 1392, 1453, 1490, 1515, 1540, 1565, 1614, 1627, 1640], 184) (List.mem_of_getElem? (i := 24) rfl)) (by omega) (by omega) (by rw [e]; rfl) rfl (law_30 hX hi hc4 hz4 I nx)
        · exact tt_tableIn (off := 1342) (tgt := 1382) (tL_law_0_ok (40, .tableswitch 1665 0 41 #[184, 257, 282, 307, 376, 444, 481, 534, 571, 608, 633, 646, 671, 736, 773, 810, 847, 872, 909, 958, 995, 1020, 1045, 1082, 1107, 1144, 1169, 1206, 1231, 1268, 1317, 1342, 1367, 1392, 1453, 1490, 1515, 1540, 1565, 1614, 1627, 1640], 184) (List.mem_of_getElem? (i := 24) rfl)) (by omega) (by omega) (by rw [e]; rfl) rfl (law_31 hX hi hc4 hz4 I nx)
        · exact tt_tableIn (off := 1367) (tgt := 1407) (tL_law_0_ok (40, .tableswitch 1665 0 41 #[184, 257, 282, 307, 376, 444, 481, 534, 571, 608, 633, 646, 671, 736, 773, 810, 847, 872, 909, 958, 995, 1020, 1045, 1082, 1107, 1144, 1169, 1206, 1231, 1268, 1317, 1342, 1367, 1392, 1453, 1490, 1515, 1540, 1565, 1614, 1627, 1640], 184) (List.mem_of_getElem? (i := 24) rfl)) (by omega) (by omega) (by rw [e]; rfl) rfl (law_32 hX hi hc4 hz4 I nx)
        · exact tt_tableIn (off := 1392) (tgt := 1432) (tL_law_0_ok (40, .tableswitch 1665 0 41 #[184, 257, 282, 307, 376, 444, 481, 534, 571, 608, 633, 646, 671, 736, 773, 810, 847, 872, 909, 958, 995, 1020, 1045, 1082, 1107, 1144, 1169, 1206, 1231, 1268, 1317, 1342, 1367, 1392, 1453, 1490, 1515, 1540, 1565, 1614, 1627, 1640], 184) (List.mem_of_getElem? (i := 24) rfl)) (by omega) (by omega) (by rw [e]; rfl) rfl (law_33 hX hi hc4 hz4 I nx)
        · exact tt_tableIn (off := 1453) (tgt := 1493) (tL_law_0_ok (40, .tableswitch 1665 0 41 #[184, 257, 282, 307, 376, 444, 481, 534, 571, 608, 633, 646, 671, 736, 773, 810, 847, 872, 909, 958, 995, 1020, 1045, 1082, 1107, 1144, 1169, 1206, 1231, 1268, 1317, 1342, 1367, 1392, 1453, 1490, 1515, 1540, 1565, 1614, 1627, 1640], 184) (List.mem_of_getElem? (i := 24) rfl)) (by omega) (by omega) (by rw [e]; rfl) rfl (law_34 hX hi hc4 hz4 I nx)
        · exact tt_tableIn (off := 1490) (tgt := 1530) (tL_law_0_ok (40, .tableswitch 1665 0 41 #[184, 257, 282, 307, 376, 444, 481, 534, 571, 608, 633, 646, 671, 736, 773, 810, 847, 872, 909, 958, 995, 1020, 1045, 1082, 1107, 1144, 1169, 1206, 1231, 1268, 1317, 1342, 1367, 1392, 1453, 1490, 1515, 1540, 1565, 1614, 1627, 1640], 184) (List.mem_of_getElem? (i := 24) rfl)) (by omega) (by omega) (by rw [e]; rfl) rfl (law_35 hX hi hc4 hz4 I nx)
        · exact tt_tableIn (off := 1515) (tgt := 1555) (tL_law_0_ok (40, .tableswitch 1665 0 41 #[184, 257, 282, 307, 376, 444, 481, 534, 571, 608, 633, 646, 671, 736, 773, 810, 847, 872, 909, 958, 995, 1020, 1045, 1082, 1107, 1144, 1169, 1206, 1231, 1268, 1317, 1342, 1367, 1392, 1453, 1490, 1515, 1540, 1565, 1614, 1627, 1640], 184) (List.mem_of_getElem? (i := 24) rfl)) (by omega) (by omega) (by rw [e]; rfl) rfl (law_36 hX hi hc4 hz4 I nx)
        · exact tt_tableIn (off := 1540) (tgt := 1580) (tL_law_0_ok (40, .tableswitch 1665 0 41 #[184, 257, 282, 307, 376, 444, 481, 534, 571, 608, 633, 646, 671, 736, 773, 810, 847, 872, 909, 958, 995, 1020, 1045, 1082, 1107, 1144, 1169, 1206, 1231, 1268, 1317, 1342, 1367, 1392, 1453, 1490, 1515, 1540, 1565, 1614, 1627, 1640], 184) (List.mem_of_getElem? (i := 24) rfl)) (by omega) (by omega) (by rw [e]; rfl) rfl (law_37 hX hi hc4 hz4 I nx)
        · exact tt_tableIn (off := 1565) (tgt := 1605) (tL_law_0_ok (40, .tableswitch 1665 0 41 #[184, 257, 282, 307, 376, 444, 481, 534, 571, 608, 633, 646, 671, 736, 773, 810, 847, 872, 909, 958, 995, 1020, 1045, 1082, 1107, 1144, 1169, 1206, 1231, 1268, 1317, 1342, 1367, 1392, 1453, 1490, 1515, 1540, 1565, 1614, 1627, 1640], 184) (List.mem_of_getElem? (i := 24) rfl)) (by omega) (by omega) (by rw [e]; rfl) rfl (law_38 hX hi hc4 hz4 I nx)
        · exact tt_tableIn (off := 1614) (tgt := 1654) (tL_law_0_ok (40, .tableswitch 1665 0 41 #[184, 257, 282, 307, 376, 444, 481, 534, 571, 608, 633, 646, 671, 736, 773, 810, 847, 872, 909, 958, 995, 1020, 1045, 1082, 1107, 1144, 1169, 1206, 1231, 1268, 1317, 1342, 1367, 1392, 1453, 1490, 1515, 1540, 1565, 1614, 1627, 1640], 184) (List.mem_of_getElem? (i := 24) rfl)) (by omega) (by omega) (by rw [e]; rfl) rfl (law_39 hX hi hc4 hz4 I nx)
        · exact tt_tableIn (off := 1627) (tgt := 1667) (tL_law_0_ok (40, .tableswitch 1665 0 41 #[184, 257, 282, 307, 376, 444, 481, 534, 571, 608, 633, 646, 671, 736, 773, 810, 847, 872, 909, 958, 995, 1020, 1045, 1082, 1107, 1144, 1169, 1206, 1231, 1268, 1317, 1342, 1367, 1392, 1453, 1490, 1515, 1540, 1565, 1614, 1627, 1640], 184) (List.mem_of_getElem? (i := 24) rfl)) (by omega) (by omega) (by rw [e]; rfl) rfl (law_40 hX hi hc4 hz4 I nx)
        · exact tt_tableIn (off := 1640) (tgt := 1680) (tL_law_0_ok (40, .tableswitch 1665 0 41 #[184, 257, 282, 307, 376, 444, 481, 534, 571, 608, 633, 646, 671, 736, 773, 810, 847, 872, 909, 958, 995, 1020, 1045, 1082, 1107, 1144, 1169, 1206, 1231, 1268, 1317, 1342, 1367, 1392, 1453, 1490, 1515, 1540, 1565, 1614, 1627, 1640], 184) (List.mem_of_getElem? (i := 24) rfl)) (by omega) (by omega) (by rw [e]; rfl) rfl (law_41 hX hi hc4 hz4 I nx)
/-- labels of reference objects: of m alone -/
def sg70 (Sg : Nat → Option Nat) (m : Nat) : Nat → Option Nat := fun q => match Sg q with
  | some L => if (L = 50 ∨ L = 70) ∧ q ≠ m then none else some L
  | none => none
def ok70 (t : k_T) : Bool := !(t.1 == 2 || t.1 == 3) || (decide (t.2.1.toNat ≠ 50) && decide (t.2.1.toNat ≠ 70))
theorem ok70_all : ∀ L, L < 71 → (Lb L).2.2.2.all ok70 = true := by decide +kernel
theorem sg70_of {Sg : Nat → Option Nat} {m q L : Nat} (h : Sg q = some L) (hn : L ≠ 50 ∧ L ≠ 70 ∨ q = m) : sg70 Sg m q = some L := by
  unfold sg70
  rw [h]
  refine if_neg (fun hh => ?_)
  rcases hn with hn | hn
  · rcases hh.1 with e | e
    · exact hn.1 e
    · exact hn.2 e
  · exact hh.2 hn
theorem sg70_in {Sg : Nat → Option Nat} {m q L : Nat} (h : sg70 Sg m q = some L) : Sg q = some L ∧ (L = 50 ∨ L = 70 → q = m) := by
  unfold sg70 at h
  cases h9 : Sg q with
  | none => rw [h9] at h; cases h
  | some L9 =>
    rw [h9] at h
    dsimp only at h
    by_cases c9 : (L9 = 50 ∨ L9 = 70) ∧ q ≠ m
    · rw [if_pos c9] at h
      cases h
    · rw [if_neg c9] at h
      cases h
      exact ⟨rfl, fun hl => Classical.byContradiction (fun hn => c9 ⟨hl, hn⟩)⟩
theorem k_v.c70 {Sg : Nat → Option Nat} {m : Nat} {v : Value} {t : k_T} (ht : ok70 t = true) (hv : k_v Sg v t) : k_v (sg70 Sg m) v t := by
  obtain ⟨k, y, z⟩ := t
  match k, ht, hv with
  | 0, _, hv => exact hv
  | 1, _, hv => exact hv
  | 2, ht, hv =>
    obtain ⟨a, e1, e2⟩ := hv
    have hn : y.toNat ≠ 50 ∧ y.toNat ≠ 70 := by simpa [ok70] using ht
    exact ⟨a, e1, sg70_of e2 (Or.inl hn)⟩
  | 3, ht, hv =>
    have hn : y.toNat ≠ 50 ∧ y.toNat ≠ 70 := by simpa [ok70] using ht
    rcases hv with hv | ⟨a, e1, e2⟩
    · exact Or.inl hv
    · exact Or.inr ⟨a, e1, sg70_of e2 (Or.inl hn)⟩
  | 4, _, hv => exact hv
  | n + 5, _, _ => exact trivial
theorem k_H.c70 {Sg : Nat → Option Nat} {m : Nat} {h : ch_H} (hH : k_H Sg cA Lb h) : k_H (sg70 Sg m) cA Lb h := by
  intro a L ha
  obtain ⟨e, e1, e2⟩ := hH a L (sg70_in ha).1
  refine ⟨e, e1, ?_⟩
  have ok : ∀ t ∈ (Lb L).2.2.2, ok70 t = true := fun t ht => by
    by_cases hl : 71 ≤ L
    · rw [Lb_big hl] at ht
      exact absurd ht List.not_mem_nil
    · exact List.all_eq_true.mp (ok70_all L (by omega)) t ht
  rcases e2 with ⟨f1, fs, f2, f3, f4⟩ | e2 | ⟨f1, f, f2, f3⟩
  · refine Or.inl ⟨f1, fs, f2, f3, fun k t hk => ?_⟩
    obtain ⟨v, g1, g2⟩ := f4 k t hk
    exact ⟨v, g1, g2.c70 (ok t (List.mem_of_getElem? hk))⟩
  · exact Or.inr (Or.inl e2)
  · refine Or.inr (Or.inr ⟨f1, f, f2, fun i hi => (f3 i hi).c70 ?_⟩)
    rcases k_el_in (Lb L) i with q | q
    · rw [q]; rfl
    · exact ok _ q
/-- both sides as they are made -/
theorem law_first {Sg : Nat → Option Nat} {h : ch_H} (hH : k_H Sg cA Lz h) (sx : Sg x = some 0) (sm : Sg m = some 70) (PX : ∃ xs b fs, h x = some (.inr (9, xs)) ∧ xs[3]? = some (.ref b) ∧ h b = some (.inr (6, fs)) ∧ fs[6]? = some (.long 0)) (PM : ∃ fs, h m = some (.inr (10, fs)) ∧ fs[36]? = some (.long 0)) : ∃ σ : aS, aC cA h x σ ∧ aR cA h m σ ∧ kE cA h x ((0, 0, 0, 0), φ0) ∧ kF cA h m ((0, 0, 0, 0), φ0) := by
  obtain ⟨xs9, c_x, -, ty⟩ := hH.obj sx (L := 0) rfl
  obtain ⟨v0, f0, t0⟩ := ty 0 _ rfl
  obtain ⟨t, rfl, s_t⟩ := k_v.ref t0
  obtain ⟨v14, f14, t14⟩ := ty 14 _ rfl
  obtain ⟨rc, rfl, r1, r2⟩ := k_v.int t14
  have r1 : (0 : Int) ≤ rc.toInt := r1
  have r2 : rc.toInt ≤ (0 : Int) := r2
  obtain ⟨ts, c_t, tl, tyt⟩ := hH.obj s_t (L := 1) rfl
  obtain ⟨u0, g0, p0⟩ := tyt 0 _ rfl
  obtain ⟨b, rfl, s_b⟩ := k_v.ref p0
  obtain ⟨u1, g1, p1⟩ := tyt 1 _ rfl
  obtain ⟨len, rfl, l1, l2⟩ := k_v.int p1
  have l1 : (0 : Int) ≤ len.toInt := l1
  have l2 : len.toInt ≤ (0 : Int) := l2
  obtain ⟨u2, g2, p2⟩ := tyt 2 _ rfl
  obtain ⟨a2, rfl, -⟩ := k_v.int p2
  obtain ⟨u3, g3, p3⟩ := tyt 3 _ rfl
  obtain ⟨a3, rfl, -⟩ := k_v.int p3
  have e9 := list4 tl g0 g1 g2 g3
  subst e9
  obtain ⟨f, c_b, -⟩ := hH.arr s_b (L := 10) rfl
  obtain ⟨fs, c_m, -, tym⟩ := hH.obj sm (L := 70) rfl
  obtain ⟨w1, m1, q1⟩ := tym 1 _ rfl
  obtain ⟨tx, rfl, s_tx⟩ := k_v.ref q1
  obtain ⟨w6, m6, q6⟩ := tym 6 _ rfl
  obtain ⟨y6, rfl, y61, y62⟩ := k_v.int q6
  have y61 : (0 : Int) ≤ y6.toInt := y61
  have y62 : y6.toInt ≤ (0 : Int) := y62
  obtain ⟨w7, m7, q7⟩ := tym 7 _ rfl
  obtain ⟨y7, rfl, y71, y72⟩ := k_v.int q7
  have y71 : (0 : Int) ≤ y7.toInt := y71
  have y72 : y7.toInt ≤ (0 : Int) := y72
  obtain ⟨g, c_tx, gb⟩ := hH.arr s_tx (L := 51) rfl
  obtain ⟨u11, g11, p11⟩ := ty 1 _ rfl
  obtain ⟨Pa, rfl, s_Pa⟩ := k_v.ref p11
  obtain ⟨u12, g12, p12⟩ := ty 2 _ rfl
  obtain ⟨P, rfl, s_P⟩ := k_v.ref p12
  obtain ⟨u18, g18, p18⟩ := ty 8 _ rfl
  obtain ⟨fo, rfl, s_fo⟩ := k_v.ref p18
  obtain ⟨ps, c_Pa, -, tyP⟩ := hH.obj s_Pa (L := 2) rfl
  obtain ⟨i0, j0, k0⟩ := tyP 0 _ rfl
  obtain ⟨n0, rfl, n1, n2⟩ := k_v.int k0
  have n1 : (0 : Int) ≤ n0.toInt := n1
  have n2 : n0.toInt ≤ (0 : Int) := n2
  obtain ⟨gs, c_fo, -, tyF⟩ := hH.obj s_fo (L := 4) rfl
  obtain ⟨i1, j1, k1⟩ := tyF 0 _ rfl
  obtain ⟨z0, rfl, z01, z02⟩ := k_v.int k1
  have z01 : (0 : Int) ≤ z0.toInt := z01
  have z02 : z0.toInt ≤ (0 : Int) := z02
  obtain ⟨i3, j3, k3⟩ := tyF 3 _ rfl
  obtain ⟨z3, rfl, z31, z32⟩ := k_v.int k3
  have z31 : (0 : Int) ≤ z3.toInt := z31
  have z32 : z3.toInt ≤ (0 : Int) := z32
  obtain ⟨i5, j5, k5⟩ := tyF 5 _ rfl
  obtain ⟨z5, rfl, z51, z52⟩ := k_v.int k5
  have z51 : (0 : Int) ≤ z5.toInt := z51
  have z52 : z5.toInt ≤ (0 : Int) := z52
  obtain ⟨w20, m20, q20⟩ := tym 20 _ rfl
  obtain ⟨y20, rfl, y201, y202⟩ := k_v.int q20
  have y201 : (0 : Int) ≤ y20.toInt := y201
  have y202 : y20.toInt ≤ (0 : Int) := y202
  obtain ⟨w32, m32, q32⟩ := tym 32 _ rfl
  obtain ⟨y32, rfl, y321, y322⟩ := k_v.int q32
  have y321 : (0 : Int) ≤ y32.toInt := y321
  have y322 : y32.toInt ≤ (0 : Int) := y322
  obtain ⟨w33, m33, q33⟩ := tym 33 _ rfl
  obtain ⟨y33, rfl, y331, y332⟩ := k_v.int q33
  have y331 : (0 : Int) ≤ y33.toInt := y331
  have y332 : y33.toInt ≤ (0 : Int) := y332
  obtain ⟨w34, m34, q34⟩ := tym 34 _ rfl
  obtain ⟨y34, rfl, y341, y342⟩ := k_v.int q34
  have y341 : (0 : Int) ≤ y34.toInt := y341
  have y342 : y34.toInt ≤ (0 : Int) := y342
  have hbC : bC h x (0, 0, 0, 0) := ⟨xs9, ps, gs, Pa, P, fo, n0, z0, z3, z5, c_x, g11, g12, g18, k_sg_ne s_Pa s_P (by decide), c_Pa, j0, c_fo, j1, j3, j5, by show n0.toInt = 0; omega, by show z0.toInt = 0; omega, by show z3.toInt = 0; omega, by show z5.toInt = 0; omega⟩
  have hbR : bR h m (0, 0, 0, 0) := ⟨fs, y20, y32, y33, y34, c_m, m20, m32, m33, m34, by show y20.toInt = 0; omega, by show y32.toInt = 0; omega, by show y33.toInt = 0; omega, by show y34.toInt = 0; omega⟩
  exact ⟨(f, 0, 0), ⟨xs9, t, b, len, rc, a2, a3, c_x, f0, f14, ⟨c_t, c_b, k_sg_ne s_b s_t (by decide), by omega, by omega⟩, by show len.toInt = 0; omega, by show rc.toInt = 0; omega⟩,
    ⟨fs, tx, g, y6, y7, c_m, m1, m6, m7, c_tx, ⟨fun i hi => absurd (show i < 0 from hi) (Nat.not_lt_zero i), fun i hi => absurd (show i < 0 from hi) (Nat.not_lt_zero i), fun i hi => gb i hi⟩, by show y6.toInt = 0; omega, by show y7.toInt = 0; omega⟩, ⟨hbC, FC_first hH sx PX, RC_first hH sx⟩, hbR, FR_first hH sm PM, RR_first hH sm⟩
theorem law_all (hT : k_tys tys cA) (hN : k_NX X) (hs : ∀ s, X s → xs A aK aV s) (hX : ∀ o, ∃ X', lwX l tys A X X' cA o sc N sa sv aK aV) : tt l D tys A X 2048 84000 601024 7293034 mL_law (fun v _ => v = some (.int 1)) 0 [(0, .ref sc)] [] (fun _ => none) 0 0 := by
  have hH0 : k_H (fun _ => none) cA Lz (fun _ => none) := fun a L ha => by cases ha
  refine n_objLX (Lb9 := Lz) hH0 (nz_X10_init hT hN) (wA1 24 rfl rfl) (wA1 25 rfl rfl) (wA1 1 rfl rfl) (by decide) df_9_ok kX10_init rfl rfl (Or.inr (wA1 26 rfl rfl)) iX10_init (by decide) (by decide) (by decide) (Nat.le_of_ble_eq_true rfl) (fun _ => Nat.le_of_ble_eq_true rfl) (tL_law_0_ok (0, .new 8, 3) (List.mem_of_getElem? (i := 0) rfl)) (tL_law_0_ok (3, .dup, 1) (List.mem_of_getElem? (i := 1) rfl)) (tL_law_0_ok (4, .invokespecial 15, 3) (List.mem_of_getElem? (i := 2) rfl)) (fun x S1 g1 hH1 sx _ _ PX1 => ?_)
  refine tt_astore_n rfl (tL_law_0_ok (7, .astore_n 1, 1) (List.mem_of_getElem? (i := 3) rfl)) (by decide) ?_
  show tt l D tys A X 2048 84000 601024 7293034 mL_law _ _ [(1, .ref x), (0, .ref sc)] [] g1 _ _
  refine n_objLX (Lb9 := Lz) hH1 (nz_X11_init hT hs) (wA5 56 rfl rfl) (wA5 57 rfl rfl) (wA1 11 rfl rfl) (by decide) df_10_ok kX11_init rfl rfl (Or.inr (wA5 58 rfl rfl)) iX11_init (by decide) (by decide) (by decide) (Nat.le_of_ble_eq_true rfl) (fun _ => Nat.le_of_ble_eq_true rfl) (tL_law_0_ok (8, .new 16, 3) (List.mem_of_getElem? (i := 4) rfl)) (tL_law_0_ok (11, .dup, 1) (List.mem_of_getElem? (i := 5) rfl)) (tL_law_0_ok (12, .invokespecial 18, 3) (List.mem_of_getElem? (i := 6) rfl)) (fun m S2 g2 hH2 sm _ o2 PM => ?_)
  refine tt_astore_n rfl (tL_law_0_ok (15, .astore_n 2, 1) (List.mem_of_getElem? (i := 7) rfl)) (by decide) ?_
  show tt l D tys A X 2048 84000 601024 7293034 mL_law _ _ [(2, .ref m), (1, .ref x), (0, .ref sc)] [] g2 _ _
  have sx2 : S2 x = some 0 := by rw [(o2 x (hH1.some_ sx)).2]; exact sx
  have PX : ∃ xs b fs, g2 x = some (.inr (9, xs)) ∧ xs[3]? = some (.ref b) ∧ g2 b = some (.inr (6, fs)) ∧ fs[6]? = some (.long 0) := by
    obtain ⟨xs, b, fs, p1, p2, p3, p4⟩ := PX1
    exact ⟨xs, b, fs, (o2 x (by rw [p1]; exact fun q => by cases q)).1.trans p1, p2, (o2 b (by rw [p3]; exact fun q => by cases q)).1.trans p3, p4⟩
  obtain ⟨σ, hC, hR, hb, hr9⟩ := law_first hH2 sx2 sm PX PM
  refine tt_iconst (v := 1) rfl (tL_law_0_ok (16, .iconst 1, 1) (List.mem_of_getElem? (i := 8) rfl)) ?_
  refine tt_newa (t0 := 6) (cA := cA 6) (a0 := (1, .inr (.inl (fun _ => 0)))) wArr_long rfl (hT 6 (by decide)) (fun cB => by rw [vp_cell_l]; rfl) (by decide) rfl (by decide) (by decide) (by decide) (tL_law_0_ok (17, .newarray .long, 2) (List.mem_of_getElem? (i := 9) rfl)) (fun o ho => ?_)
  refine tt_astore_n rfl (tL_law_0_ok (19, .astore_n 3, 1) (List.mem_of_getElem? (i := 10) rfl)) (by decide) ?_
  refine tt_iconst (v := 0) rfl (tL_law_0_ok (20, .iconst 0, 1) (List.mem_of_getElem? (i := 11) rfl)) ?_
  refine tt_istore (tL_law_0_ok (21, .istore 4, 2) (List.mem_of_getElem? (i := 12) rfl)) (by decide) ?_
  obtain ⟨X', hX'⟩ := hX o
  refine tt_lv [(0, .ref sc), (1, .ref x), (2, .ref m), (3, .ref o), (4, .int 0)] (fun q hq => ?_) (law_loop hX' 3084 0 _ _ _ (sg70 (sgp S2) m) g2 σ ((0, 0, 0, 0), φ0) (by decide) (by decide) (by decide) (by decide) (by decide) ⟨hH2.plain.c70, sg70_of (sgp_of sx2 (by decide)) (Or.inl (by decide)), ⟨Or.inr (sg70_of (sgp_of sm (by decide)) (Or.inr rfl)), fun a L ha hl => (sg70_in ha).2 hl⟩, hC, hR, ho, hb, hr9⟩)
  show q ∈ [(4, Value.int 0), (3, .ref o), (2, .ref m), (1, .ref x), (0, .ref sc)]
  simp only [List.mem_cons, List.not_mem_nil, or_false] at hq ⊢
  rcases hq with e | e | e | e | e <;> simp only [e, true_or, or_true]
end
