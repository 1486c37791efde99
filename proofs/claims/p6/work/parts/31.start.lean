/-! the first state -/
theorem st_prim {args : Array Value} {s : State} {ty : FieldType} (h : (Cond.arrayClass ty).before args s = true) (hn : ∀ cA, s.vm.findClass ("[" ++ ty.toString) = some cA → va_RA s cA ty) : ∃ cA, ArrOfT s cA ty ∧ va_RA s cA ty := by
  obtain ⟨c, k, comp, h1, h2, h3⟩ := Cond.arrayClass_spec h
  exact ⟨c, fun n z => ⟨(fun k h => by cases h), k, h2, comp, h3⟩, hn c h1⟩
theorem st_obj {args : Array Value} {s : State} {C : String} (h : (Cond.arrayOver (.object C)).before args s = true) : ∃ cA, ArrOfT s cA (.object C) ∧ va_RA s cA (.object C) := by
  obtain ⟨comp, c, k, h1, h2, h3, h4, h5⟩ := Cond.arrayOver_spec h
  exact ⟨c, fun n z => ⟨(fun k h => by cases h), k, h3, comp, h4⟩, k, comp, h3, h4, h1, h5⟩
theorem st_arr {args : Array Value} {s : State} {t : FieldType} (h : (Cond.arrayOver (.array t)).before args s = true) : ∃ cA, ArrOfT s cA (.array t) ∧ va_RA s cA (.array t) := by
  obtain ⟨comp, c, k, h1, h2, h3, h4⟩ := Cond.arrayOver_specA h
  exact ⟨c, fun n z => ⟨(fun k h => by cases h), k, h2, comp, h3⟩, h4⟩
theorem st_tys {args : Array Value} {s : State} (hts : ∀ w ∈ lw_tbl, w.before args s = true) : ∃ (tys : List (ClassId × FieldType)) (cA : Nat → ClassId), k_tys tys cA ∧ ∀ (k : Nat) (q : ClassId × FieldType), tys[k]? = some q → ArrOfT s q.1 q.2 ∧ va_RA s q.1 q.2 := by
  obtain ⟨c0, h0⟩ := st_prim (hts _ (wB1 56 rfl)) (fun _ h => h)
  obtain ⟨c1, h1⟩ := st_prim (hts _ (wB1 158 rfl)) (fun _ h => h)
  obtain ⟨c2, h2⟩ := st_prim (hts _ (wB5 51 rfl)) (fun _ h => h)
  obtain ⟨c3, h3⟩ := st_obj (C := RX6) (hts _ (wB2 49 rfl))
  obtain ⟨c4, h4⟩ := st_obj (C := RX5) (hts _ (wB1 225 rfl))
  obtain ⟨c5, h5⟩ := st_arr (t := .int) (hts _ (wB2 31 rfl))
  obtain ⟨c6, h6⟩ := st_prim (hts _ (wB7 218 rfl)) (fun _ h => h)
  refine ⟨[(c0, .int), (c1, .boolean), (c2, .byte), (c3, .object RX6), (c4, .object RX5), (c5, .array .int), (c6, .long)], fun t => match t with | 0 => c0 | 1 => c1 | 2 => c2 | 3 => c3 | 4 => c4 | 5 => c5 | _ => c6, fun t ht => ?_, fun k q hk => ?_⟩
  · match t, ht with
    | 0, _ => rfl
    | 1, _ => rfl
    | 2, _ => rfl
    | 3, _ => rfl
    | 4, _ => rfl
    | 5, _ => rfl
    | 6, _ => rfl
  · match k, hk with
    | 0, hk => cases hk; exact h0
    | 1, hk => cases hk; exact h1
    | 2, hk => cases hk; exact h2
    | 3, hk => cases hk; exact h3
    | 4, hk => cases hk; exact h4
    | 5, hk => cases hk; exact h5
    | 6, hk => cases hk; exact h6
    | k + 7, hk => cases hk
theorem st_D {args : Array Value} {s : State} (hts : ∀ w ∈ wsA, w.before args s = true) : ∃ D : va_G, ∀ (c : Nat) (q : vw_C), vwCl[c]? = some q → u_Kn s q.1 q.2.1 q.2.2 (D.1 c) (D.2 c) := by
  have h0 : ∀ c : Nat, ∃ y : ClassId × (Nat → Nat), ∀ q : vw_C, vwCl[c]? = some q → u_Kn s q.1 q.2.1 q.2.2 y.1 y.2 := by
    intro c
    match c with
    | 0 =>
      obtain ⟨cC, iS, h⟩ := u_known (ws := wsA) hts (pg_k 0 (by decide)).2.1 (hts (.instantiable RX0 3) (wA2 25 rfl rfl))
      exact ⟨(cC, iS), fun q hq => by cases hq; exact h⟩
    | 1 =>
      obtain ⟨cC, iS, h⟩ := u_known (ws := wsA) hts (pg_k 1 (by decide)).2.1 (hts (.instantiable RX1 8) (wA1 160 rfl rfl))
      exact ⟨(cC, iS), fun q hq => by cases hq; exact h⟩
    | 2 =>
      obtain ⟨cC, iS, h⟩ := u_known (ws := wsA) hts (pg_k 2 (by decide)).2.1 (hts (.instantiable RX2 3) (wA2 43 rfl rfl))
      exact ⟨(cC, iS), fun q hq => by cases hq; exact h⟩
    | 3 =>
      obtain ⟨cC, iS, h⟩ := u_known (ws := wsA) hts (pg_k 3 (by decide)).2.1 (hts (.instantiable RX3 5) (wA2 2 rfl rfl))
      exact ⟨(cC, iS), fun q hq => by cases hq; exact h⟩
    | 4 =>
      obtain ⟨cC, iS, h⟩ := u_known (ws := wsA) hts (pg_k 4 (by decide)).2.1 (hts (.instantiable RX4 9) (wA1 58 rfl rfl))
      exact ⟨(cC, iS), fun q hq => by cases hq; exact h⟩
    | 5 =>
      obtain ⟨cC, iS, h⟩ := u_known (ws := wsA) hts (pg_k 5 (by decide)).2.1 (hts (.instantiable RX5 3) (wA1 226 rfl rfl))
      exact ⟨(cC, iS), fun q hq => by cases hq; exact h⟩
    | 6 =>
      obtain ⟨cC, iS, h⟩ := u_known (ws := wsA) hts (pg_k 6 (by decide)).2.1 (hts (.instantiable RX6 7) (wA1 116 rfl rfl))
      exact ⟨(cC, iS), fun q hq => by cases hq; exact h⟩
    | 7 =>
      obtain ⟨cC, iS, h⟩ := u_known (ws := wsA) hts (pg_k 7 (by decide)).2.1 (hts (.instantiable RX7 4) (wA1 33 rfl rfl))
      exact ⟨(cC, iS), fun q hq => by cases hq; exact h⟩
    | 8 =>
      obtain ⟨cC, iS, h⟩ := u_known (ws := wsA) hts (pg_k 8 (by decide)).2.1 (hts (.instantiable RX9 3) (wA1 206 rfl rfl))
      exact ⟨(cC, iS), fun q hq => by cases hq; exact h⟩
    | 9 =>
      obtain ⟨cC, iS, h⟩ := u_known (ws := wsA) hts (pg_k 9 (by decide)).2.1 (hts (.instantiable RX10 19) (wA1 25 rfl rfl))
      exact ⟨(cC, iS), fun q hq => by cases hq; exact h⟩
    | 10 =>
      obtain ⟨cC, iS, h⟩ := u_known (ws := wsA) hts (pg_k 10 (by decide)).2.1 (hts (.instantiable RX11 47) (wA5 57 rfl rfl))
      exact ⟨(cC, iS), fun q hq => by cases hq; exact h⟩
    | n + 11 => exact ⟨(0, fun _ => 0), fun q hq => by cases hq⟩
  obtain ⟨f, hf⟩ := Classical.axiomOfChoice h0
  exact ⟨(fun c => (f c).1, fun c => (f c).2), hf⟩
/-- the three String constants of the reference -/
def st_tm (i : Nat) : Term := [Term.string RX11 26, Term.string RX11 32, Term.string RX11 37].getD i (.arg 0)
def st_F : List Cond := flatC (Jvm.Cond.and given_1 narrow_1)
theorem st_e1 : ∀ i, i < 3 → Cond.exactly (st_tm i) "java/lang/String" ∈ st_F := by decide +kernel
theorem st_e2 : ∀ i, i < 3 → Cond.eq (.field (st_tm i) "java/lang/String" "coder" "B") (.int 0) ∈ st_F := by decide +kernel
theorem st_e3 : ∀ i, i < 3 → Cond.arrayOf (.field (st_tm i) "java/lang/String" "value" "[B") .byte ∈ st_F := by decide +kernel
theorem st_e4 : ∀ i, i < 3 → Cond.eq (.length (.field (st_tm i) "java/lang/String" "value" "[B")) (.int (Int32.ofNat (js_l.getD i 0))) ∈ st_F := by decide +kernel
theorem st_e5 : ∀ i, i < 3 → ∀ j, j < js_l.getD i 0 → Cond.eq (.elem (.field (st_tm i) "java/lang/String" "value" "[B") (.int (Int32.ofNat j))) (.int ((js_b.getD i []).getD j 0)) ∈ st_F := by decide +kernel
theorem st_e6 : ∀ i, i < 3 → ∀ j, j < 3 → i ≠ j → Cond.not (Cond.eq (st_tm i) (st_tm j)) ∈ st_F ∨ Cond.not (Cond.eq (st_tm j) (st_tm i)) ∈ st_F := by decide +kernel
theorem st_e7 : Cond.exactly (Term.string RX10 159) "java/lang/String" ∈ st_F ∧ Cond.eq (.static "java/lang/String" "COMPACT_STRINGS" "Z") (.int 1) ∈ st_F ∧ Cond.isRef (.static "jdk/internal/util/Preconditions" "SIOOBE_FORMATTER" "Ljava/util/function/BiFunction;") ∈ st_F ∧ Cond.isRef (.static Bundle.tN "UNASSIGNED_STACK" Bundle.steD) ∈ st_F ∧ Cond.isRef (.static Bundle.tN "SUPPRESSED_SENTINEL" Bundle.listD) ∈ st_F := by decide +kernel
theorem st_nsF : ∀ w ∈ nsF, w ∈ lw_tbl := List.forall_mem_cons.mpr ⟨wB4 230 rfl, List.forall_mem_cons.mpr ⟨wB4 232 rfl, List.forall_mem_cons.mpr ⟨wB4 234 rfl, List.forall_mem_cons.mpr ⟨wB4 228 rfl, fun _ h => absurd h List.not_mem_nil⟩⟩⟩⟩
theorem st_X9 {args : Array Value} {s : State} {b L : Nat} {sv : Nat → Int32} (hts : ∀ w ∈ lw_tbl, w.before args s = true) (hgv : (Jvm.Cond.and given_1 narrow_1).before args s = true) (hX : va_X b L sv s s.heap) (hbl : b < s.heap.size) : ∃ (aK aV : Nat → Nat) (sa : Nat), X9 aK aV sa b L sv (fun q => s.heap.size ≤ q) s := by
  have hs : ∀ c ∈ st_F, c.before args s = true := flat_of_before _ hgv
  have hA : ∀ a : Nat, a < s.heap.size → ¬ (fun q => s.heap.size ≤ q) a := fun a ha h => absurd ha (Nat.not_lt.mpr h)
  obtain ⟨aK, aV, hS, hev⟩ := vk_Sof (N := 3) (tm := st_tm) (len := js_l) (byt := js_b) (A := fun q => s.heap.size ≤ q) (by decide +kernel) (fun i hi => hs _ (st_e1 i hi)) (fun i hi => hs _ (st_e2 i hi)) (fun i hi => hs _ (st_e3 i hi)) (fun i hi => hs _ (st_e4 i hi)) (fun i hi j hj => hs _ (st_e5 i hi j hj)) (fun i j hi hj hij => (st_e6 i hi j hj hij).imp (hs _) (hs _)) hA
  obtain ⟨e1, e2, e3, e4, e5⟩ := st_e7
  obtain ⟨sa, -, -, -, q1, -⟩ := Cond.exactly_spec (args := args) (first := s) (o := none) (s := s) (idx := []) (t := Term.string RX10 159) (cls := "java/lang/String") (hs _ e1)
  obtain ⟨scr, x1, x2, x3, x4, x5⟩ := hX
  refine ⟨aK, aV, sa, ⟨hS, va_Zof (hts _ (wB6 21 rfl)) (hts _ (wB1 13 rfl)) (va_eqt (hs _ e2)) hA, va_Zqof (hts _ (wB6 37 rfl)) (hts _ (wB1 15 rfl)) (hs _ e3) hA, vk_R.of (hts _ (wB5 62 rfl)) (hev 0 (by decide)), vk_R.of (hts _ (wB5 63 rfl)) (hev 1 (by decide)), vk_R.of (hts _ (wB5 64 rfl)) (hev 2 (by decide))⟩, ?_, ⟨fun w hw a => va_tabs (nsF_ot w hw).1 rfl (hts w (st_nsF w hw)), vk_R.of (hts _ (wB5 25 rfl)) q1, vx_Zqof (hts _ (wB5 13 rfl)) (hts _ (wB1 18 rfl)) (hs _ e4) hA, vx_Zqof (hts _ (wB5 15 rfl)) (hts _ (wB1 18 rfl)) (hs _ e5) hA⟩, ⟨scr, x1, x2, x3, Nat.le_of_eq x4.symm, by rw [x4], x5, hA b hbl⟩⟩
  intro t ht
  subst ht
  exact ⟨va_Nw.of rfl (hts _ (wB1 34 rfl)), va_Nw.of rfl (hts _ (wB1 59 rfl)), va_Nw.of rfl (hts _ (wB1 117 rfl)), va_Nw.of rfl (hts _ (wB1 161 rfl)), va_Nw.of rfl (hts _ (wB1 207 rfl)), va_Nw.of rfl (hts _ (wB1 227 rfl)), va_Nw.of rfl (hts _ (wB2 3 rfl)), va_Nw.of rfl (hts _ (wB2 26 rfl)), va_Nw.of rfl (hts _ (wB2 50 rfl)), va_AO.of (hts _ (wB1 225 rfl)), va_AO.of (hts _ (wB2 49 rfl)), va_AOA.of (hts _ (wB2 31 rfl))⟩
