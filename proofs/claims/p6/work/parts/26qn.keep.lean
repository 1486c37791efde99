/-! contracts over stores: what a method doesn't write is shown as it was -/
def gi9 (v : Option Value) (d : Int32) : Int32 := match v with | some (.int x) => x | _ => d
def gl9 (v : Option Value) (d : Int64) : Int64 := match v with | some (.long x) => x | _ => d
def zkd (ts : List k_T) (k : Nat) : Nat := (ts.getD k (9, 0, 0)).1
theorem zkd_e {ts : List k_T} {k : Nat} {t : k_T} (h : ts[k]? = some t) : zkd ts k = t.1 := by
  unfold zkd
  rw [List.getD_eq_getElem?_getD, h]
  rfl
theorem zkd_s {ts : List k_T} {k n : Nat} (h : zkd ts k = n) (h9 : n ≠ 9) : ∃ t, ts[k]? = some t ∧ t.1 = n := by
  cases e : ts[k]? with
  | none =>
    unfold zkd at h
    rw [List.getD_eq_getElem?_getD, e] at h
    exact absurd (show n = 9 from h.symm) h9
  | some t => exact ⟨t, rfl, by rw [← zkd_e e]; exact h⟩
def shk (Z B : k_I) : Bool := Z.1 == B.1 && (Z.2.1 == B.2.1 && (Z.2.2.1 == B.2.2.1 && (Z.1 == 1 || (Z.1 == 0 && (Z.2.2.2.length == Z.2.2.1 && (B.2.2.2.length == B.2.2.1 && (List.range Z.2.2.1).all (fun k => zkd Z.2.2.2 k == zkd B.2.2.2 k || zkd Z.2.2.2 k == 8)))))))
section
variable {Sg : Nat → Option Nat} {cA : Nat → ClassId} {Lb1 : Nat → k_I} {Wr : List (Nat × Nat)} {h h1 : ch_H} {N : Nat → Bool} {ad : Nat → Nat} {I : zI} {W : zW} {O : zO}
theorem zU_arr {a ty n l : Nat} {ts2 : List k_T} {f : Nat → Int32} (c : h a = some (.inl (cA ty, n, .inl f))) (hs : Sg a = some l) (hB : Lb1 l = (1, ty, n, ts2)) (hH1 : k_H Sg cA Lb1 h1) (u : k_U Sg Wr h h1) : ∃ f1 : Nat → Int32, h1 a = some (.inl (cA ty, n, .inl f1)) ∧ ((l, 0) ∉ Wr → f1 = f) := by
  obtain ⟨e9, z1, z2⟩ := hH1 a l hs
  rw [hB] at z2
  obtain ⟨f1, rfl, -⟩ := k_cell1 rfl z2
  have z1 : h1 a = some (.inl (cA ty, n, .inl f1)) := z1
  refine ⟨f1, z1, fun hn => ?_⟩
  have z3 := (u a l hs).2 _ c hn
  rw [z1] at z3
  cases z3
  rfl
theorem zU_obj {a ci n l : Nat} {ts ts2 : List k_T} {f : Nat → Int32} {w : Nat → Int64} {o : Nat → Value} (c : h a = some (.inr (ci, z_fs ad f w o 0 ts))) (hs : Sg a = some l) (hB : Lb1 l = (0, ci, n, ts2)) (hH1 : k_H Sg cA Lb1 h1) (u : k_U Sg Wr h h1) (hl : ts.length = n ∧ ts2.length = n) (hk : ∀ k, k < n → zkd ts k = zkd ts2 k ∨ zkd ts k = 8) (hr : ∀ k, zkd ts k = 2 → (l, k) ∉ Wr) : ∃ (f1 : Nat → Int32) (w1 : Nat → Int64) (o1 : Nat → Value), h1 a = some (.inr (ci, z_fs ad f1 w1 o1 0 ts)) ∧ ∀ k, (l, k) ∉ Wr → f1 k = f k ∧ w1 k = w k := by
  obtain ⟨fs, c1, u1⟩ := (u a l hs).1 ci _ c
  obtain ⟨fs2, c2, l2, ty⟩ := hH1.obj hs hB
  rw [c1] at c2
  cases c2
  refine ⟨fun k => if zkd ts k = 0 then gi9 fs[k]? (f k) else f k, fun k => if zkd ts k = 1 then gl9 fs[k]? (w k) else w k, fun k => fs[k]?.getD (o k), ?_, fun k hk9 => ⟨?_, ?_⟩⟩
  · refine c1.trans (congrArg (fun z => some (Sum.inr (ci, z))) (List.ext_getElem? (fun k => ?_)))
    by_cases hkn : k < n
    · obtain ⟨t, et⟩ : ∃ t, ts[k]? = some t := ⟨_, List.getElem?_eq_getElem (by omega)⟩
      obtain ⟨t2, et2⟩ : ∃ t, ts2[k]? = some t := ⟨_, List.getElem?_eq_getElem (by omega)⟩
      obtain ⟨v, e, tv⟩ := ty k t2 et2
      rw [z_fs0 et, e]
      refine congrArg some ?_
      have d1 := zkd_e et
      have d2 := zkd_e et2
      have q := hk k hkn
      obtain ⟨tk, ta, tb⟩ := t
      obtain ⟨sk, sa, sb⟩ := t2
      have d1 : zkd ts k = tk := d1
      have d2 : zkd ts2 k = sk := d2
      by_cases t0 : tk = 0
      · subst t0
        have e0 : sk = 0 := by omega
        subst e0
        obtain ⟨x, rfl, -⟩ := tv
        show Value.int x = Value.int (if zkd ts k = 0 then gi9 fs[k]? (f k) else f k)
        rw [if_pos d1, e]
        rfl
      · by_cases t1 : tk = 1
        · subst t1
          have e0 : sk = 1 := by omega
          subst e0
          obtain ⟨x, rfl⟩ := tv
          show Value.long x = Value.long (if zkd ts k = 1 then gl9 fs[k]? (w k) else w k)
          rw [if_pos d1, e]
          rfl
        · by_cases t3 : tk = 2
          · subst t3
            have z := u1 k (hr k d1)
            rw [e, z_fs0 et] at z
            exact Option.some.inj z
          · obtain ⟨m, rfl⟩ : ∃ m, tk = m + 3 := ⟨tk - 3, by omega⟩
            show v = fs[k]?.getD (o k)
            rw [e, Option.getD_some]
    · rw [List.getElem?_eq_none (by omega), List.getElem?_eq_none (by rw [z_fs_len]; omega)]
  · show (if zkd ts k = 0 then gi9 fs[k]? (f k) else f k) = f k
    by_cases z : zkd ts k = 0
    · obtain ⟨t, et, t0⟩ := zkd_s z (by decide)
      rw [if_pos z, u1 k hk9, z_fs0 et]
      unfold z_v
      rw [t0]
      rfl
    · exact if_neg z
  · show (if zkd ts k = 1 then gl9 fs[k]? (w k) else w k) = w k
    by_cases z : zkd ts k = 1
    · obtain ⟨t, et, t0⟩ := zkd_s z (by decide)
      rw [if_pos z, u1 k hk9, z_fs0 et]
      unfold z_v
      rw [t0]
      rfl
    · exact if_neg z
theorem zr.U {lb : Nat → Nat} (hz : zr N cA ad I W O h) (hs : ∀ L, N L = true → Sg (ad L) = some (lb L)) (hH1 : k_H Sg cA Lb1 h1) (u : k_U Sg Wr h h1) (sh : ∀ L, N L = true → shk (zZ L) (Lb1 (lb L)) = true) (rf : ∀ L k, N L = true → (zZ L).1 = 0 → zkd (zZ L).2.2.2 k = 2 → (lb L, k) ∉ Wr) : ∃ (I1 : zI) (W1 : zW) (O1 : zO), zr N cA ad I1 W1 O1 h1 ∧ (∀ L k, N L = true → ((zZ L).1 = 1 → (lb L, 0) ∉ Wr) → ((zZ L).1 = 0 → (lb L, k) ∉ Wr) → I1 L k = I L k ∧ W1 L k = W L k) ∧ ∀ L, ¬ N L = true → I1 L = I L ∧ W1 L = W L := by
  have hc : ∀ L, ∃ q : (Nat → Int32) × (Nat → Int64) × (Nat → Value), (N L = true → h1 (ad L) = some (z_e ad cA q.1 q.2.1 q.2.2 (zZ L)) ∧ ∀ k, ((zZ L).1 = 1 → (lb L, 0) ∉ Wr) → ((zZ L).1 = 0 → (lb L, k) ∉ Wr) → q.1 k = I L k ∧ q.2.1 k = W L k) ∧ (¬ N L = true → q.1 = I L ∧ q.2.1 = W L) := fun L => by
    by_cases hL : N L = true
    · have q0 := sh L hL
      have r := fun k => rf L k hL
      have ho := fun (ci n : Nat) (ts : List k_T) (e : zZ L = (0, ci, n, ts)) => hz.ob hL e
      have ha := fun (t n : Nat) (ts : List k_T) (e : zZ L = (1, t, n, ts)) => hz.ar (f := I L) hL e rfl
      have hs9 := hs L hL
      rcases eZ : zZ L with ⟨zk, zc, zn, zt⟩
      rcases eB : Lb1 (lb L) with ⟨bk, bc, bn, bt⟩
      rw [eZ, eB] at q0
      rw [eZ] at r
      simp only [shk, Bool.and_eq_true, Bool.or_eq_true, beq_iff_eq] at q0
      obtain ⟨q1, q2, q3, q4⟩ := q0
      subst q1
      subst q2
      subst q3
      rcases q4 with q4 | ⟨q4, q5, q6, q7⟩
      · subst q4
        obtain ⟨f1, c1, c2⟩ := zU_arr (ha _ _ _ eZ) hs9 eB hH1 u
        exact ⟨(f1, W L, O L), fun _ => ⟨c1, fun k n1 _ => ⟨congrFun (c2 (n1 rfl)) k, rfl⟩⟩, fun z => absurd hL z⟩
      · subst q4
        obtain ⟨f1, w1, o1, c1, c2⟩ := zU_obj (ho _ _ _ eZ) hs9 eB hH1 u ⟨q5, q6⟩ (fun k hk => by
          have z := List.all_eq_true.mp q7 k (List.mem_range.mpr hk)
          simp only [Bool.or_eq_true, beq_iff_eq] at z
          exact z) (fun k z => r k rfl z)
        exact ⟨(f1, w1, o1), fun _ => ⟨c1, fun k _ n0 => c2 k (n0 rfl)⟩, fun z => absurd hL z⟩
    · exact ⟨(I L, W L, O L), fun z => absurd z hL, fun _ => ⟨rfl, rfl⟩⟩
  exact ⟨fun L => (Classical.choose (hc L)).1, fun L => (Classical.choose (hc L)).2.1, fun L => (Classical.choose (hc L)).2.2, ⟨fun L hL => ((Classical.choose_spec (hc L)).1 hL).1, hz.2⟩, fun L k hL => ((Classical.choose_spec (hc L)).1 hL).2 k, fun L hL => (Classical.choose_spec (hc L)).2 hL⟩
end
/-! the class's finer labels -/
def lbS (L : Nat) : Nat := if L = 6 then 118 else if L < 100 then lbC L else if L < 106 then lbC L else if L < 112 then L - 6 else if L < 118 then L - 6 else 112 + (L - 100) % 6
def zN9 (L : Nat) : Bool := zNC L || (L == 32 || L == 49)
theorem zN9_lt {L : Nat} (h : zN9 L = true) : L < 160 := by
  unfold zN9 zNC at h
  simp only [Bool.or_eq_true, Bool.and_eq_true, decide_eq_true_eq, bne_iff_ne, beq_iff_eq] at h
  omega
theorem zNC_9 {L : Nat} (h : zNC L = true) : zN9 L = true := by
  unfold zN9
  rw [h]
  rfl
theorem zN9_c {L : Nat} (h : zN9 L = true) : zNC L = true ∨ L = 32 ∨ L = 49 := by
  unfold zN9 at h
  simp only [Bool.or_eq_true, beq_iff_eq] at h
  exact h
/-- labels of cells outside the store that stay labelled -/
def okX (l : Nat) : Bool := decide (l < 50) && !([0, 3, 9, 45].contains l)
/-- the labels over Ls -/
noncomputable def sgS (Sg : Nat → Option Nat) (ad : Nat → Nat) : Nat → Option Nat := fun a => @dite (Option Nat) (∃ L, zN9 L = true ∧ ad L = a) (Classical.propDecidable _) (fun e => some (lbS (Classical.choose e))) (fun _ => match Sg a with | some l => if okX l = true then some l else none | none => none)
section
variable {Sg : Nat → Option Nat} {cA : Nat → ClassId} {Wr : List (Nat × Nat)} {h h1 : ch_H} {ad : Nat → Nat} {I : zI} {W : zW} {O : zO} {x : Nat} {τ : aN} {φ : zP}
def kd9 (e : va_E) : Nat := match e with | .inl a => (match a.2.2 with | .inl _ => 0 | .inr _ => 1) | .inr _ => 2
def tEq (a b : k_T) : Bool := a.1 == b.1 && (a.2.1 == b.2.1 && a.2.2 == b.2.2)
theorem tEq_e {a b : k_T} (h9 : tEq a b = true) : a = b := by
  unfold tEq at h9
  simp only [Bool.and_eq_true, beq_iff_eq] at h9
  exact Prod.ext h9.1 (Prod.ext h9.2.1 h9.2.2)
def lEq : List k_T → List k_T → Bool
  | [], [] => true
  | a :: l, b :: m => tEq a b && lEq l m
  | _, _ => false
theorem lEq_e : ∀ {l m : List k_T}, lEq l m = true → l = m
  | [], [], _ => rfl
  | a :: l, b :: m, h9 => by
    unfold lEq at h9
    simp only [Bool.and_eq_true] at h9
    rw [tEq_e h9.1, lEq_e h9.2]
  | [], _ :: _, h9 => by cases h9
  | _ :: _, [], h9 => by cases h9
def iEq (J K : k_I) : Bool := J.1 == K.1 && (J.2.1 == K.2.1 && (J.2.2.1 == K.2.2.1 && lEq J.2.2.2 K.2.2.2))
theorem iEq_e {J K : k_I} (h9 : iEq J K = true) : J = K := by
  unfold iEq at h9
  simp only [Bool.and_eq_true, beq_iff_eq] at h9
  exact Prod.ext h9.1 (Prod.ext h9.2.1 (Prod.ext h9.2.2.1 (lEq_e h9.2.2.2)))
theorem zC_inj (hz : zr zNC cA ad I W O h) (hA : zRA cA ad h) : ∀ L L1, zN9 L = true → zN9 L1 = true → ad L = ad L1 → L = L1 := by
  obtain ⟨⟨F1, c1, -⟩, F2, c2, -⟩ := hA
  have n32 : ∀ L, zNC L = true → ad L ≠ ad 32 := fun L hL e => by
    have z := hz.1 L hL
    rw [e, c1] at z
    have z := Option.some.inj z
    have hk : ∀ q, q < 160 → zNC q = true → (zZ q).1 = 0 ∨ (zZ q).1 = 1 := by decide +kernel
    have h9 := hk L (zN9_lt (zNC_9 hL)) hL
    unfold z_e at z
    rcases h9 with q | q
    · rw [q] at z
      exact absurd (show (1 : Nat) = 2 from congrArg kd9 z) (by decide)
    · rw [q] at z
      exact absurd (show (1 : Nat) = 0 from congrArg kd9 z) (by decide)
  have n49 : ∀ L, zNC L = true → ad L ≠ ad 49 := fun L hL e => by
    have z := hz.1 L hL
    rw [e, c2] at z
    have z := Option.some.inj z
    have hk : ∀ q, q < 160 → zNC q = true → (zZ q).1 = 0 ∨ (zZ q).1 = 1 := by decide +kernel
    have h9 := hk L (zN9_lt (zNC_9 hL)) hL
    unfold z_e at z
    rcases h9 with q | q
    · rw [q] at z
      exact absurd (show (1 : Nat) = 2 from congrArg kd9 z) (by decide)
    · rw [q] at z
      exact absurd (show (1 : Nat) = 0 from congrArg kd9 z) (by decide)
  have n39 : ad 32 ≠ ad 49 := fun e => by
    rw [e, c2] at c1
    have z := congrArg (fun q : va_E => match q with | .inl a => a.2.1 | .inr _ => 0) (Option.some.inj c1)
    exact absurd (show (7 : Nat) = 6 from z) (by decide)
  intro L L1 h9 h8 e
  rcases zN9_c h9 with a | a | a <;> rcases zN9_c h8 with b | b | b
  · exact hz.2 L L1 a b e
  · subst b
    exact absurd e (n32 L a)
  · subst b
    exact absurd e (n49 L a)
  · subst a
    exact absurd e.symm (n32 L1 b)
  · rw [a, b]
  · subst a
    subst b
    exact absurd e n39
  · subst a
    exact absurd e.symm (n49 L1 b)
  · subst a
    subst b
    exact absurd e.symm n39
  · rw [a, b]
theorem sgS_s (hj : ∀ L L1, zN9 L = true → zN9 L1 = true → ad L = ad L1 → L = L1) {L : Nat} (hL : zN9 L = true) : sgS Sg ad (ad L) = some (lbS L) := by
  have e : ∃ L1, zN9 L1 = true ∧ ad L1 = ad L := ⟨L, hL, rfl⟩
  unfold sgS
  rw [dif_pos e]
  have s := Classical.choose_spec e
  rw [hj _ _ s.1 hL s.2]
theorem sgS_c {a l : Nat} (h9 : sgS Sg ad a = some l) : (∃ L, zN9 L = true ∧ ad L = a ∧ l = lbS L) ∨ (¬ ∃ L, zN9 L = true ∧ ad L = a) ∧ Sg a = some l ∧ okX l = true := by
  unfold sgS at h9
  by_cases e : ∃ L, zN9 L = true ∧ ad L = a
  · rw [dif_pos e] at h9
    have s := Classical.choose_spec e
    exact Or.inl ⟨_, s.1, s.2, (Option.some.inj h9).symm⟩
  · rw [dif_neg e] at h9
    refine Or.inr ⟨e, ?_⟩
    cases c : Sg a with
    | none =>
      rw [c] at h9
      cases h9
    | some l1 =>
      rw [c] at h9
      by_cases q : okX l1 = true
      · have h9 : (if okX l1 = true then some l1 else none) = some l := h9
        rw [if_pos q] at h9
        cases h9
        exact ⟨rfl, q⟩
      · have h9 : (if okX l1 = true then some l1 else none) = some l := h9
        rw [if_neg q] at h9
        cases h9
/-- a value of a cell outside the store -/
def okT9 (t : k_T) : Bool := !(t.1 == 2 || t.1 == 3) || okX t.2.1.toNat && !([3, 19, 20, 21, 22, 23, 32].contains t.2.1.toNat)
theorem okX_tab : ∀ l, okX l = true → Ls l = Lb l ∧ ((Lb l).2.2.2.all okT9 = true) := by
  have hd : ∀ q, q < 50 → okX q = true → iEq (Ls q) (Lb q) = true ∧ ((Lb q).2.2.2.all okT9 = true) := by decide +kernel
  intro l h9
  have h8 := hd l ?_ h9
  · exact ⟨iEq_e h8.1, h8.2⟩
  unfold okX at h9
  simp only [Bool.and_eq_true, decide_eq_true_eq] at h9
  exact h9.1
theorem lbS_C : ∀ L, zN9 L = true → okX (lbC L) = true → ¬ lbC L ∈ [3, 19, 20, 21, 22, 23, 32] → lbS L = lbC L := by
  have hd : ∀ q, q < 160 → zN9 q = true → okX (lbC q) = true → ¬ lbC q ∈ [3, 19, 20, 21, 22, 23, 32] → lbS q = lbC q := by decide +kernel
  exact fun L h9 => hd L (zN9_lt h9) h9
theorem k_v.S {v : Value} {t : k_T} (hl : ∀ L, zN9 L = true → Sg (ad L) = some (lbC L)) (ht : okT9 t = true) (hv : k_v Sg v t) : k_v (sgS Sg ad) v t := by
  have key : ∀ a l : Nat, Sg a = some l → okX l = true → ¬ l ∈ [3, 19, 20, 21, 22, 23, 32] → sgS Sg ad a = some l := fun a l hs h1 h2 => by
    unfold sgS
    by_cases e : ∃ L, zN9 L = true ∧ ad L = a
    · rw [dif_pos e]
      have s := Classical.choose_spec e
      have z := hl _ s.1
      rw [s.2, hs] at z
      have z := Option.some.inj z
      rw [lbS_C _ s.1 (by rw [← z]; exact h1) (by rw [← z]; exact h2), ← z]
    · rw [dif_neg e, hs]
      exact if_pos h1
  obtain ⟨tk, ta, tb⟩ := t
  by_cases t2 : tk = 2 ∨ tk = 3
  · have ok : okX ta.toNat = true ∧ ¬ ta.toNat ∈ [3, 19, 20, 21, 22, 23, 32] := by
      unfold okT9 at ht
      rcases t2 with t2 | t2
      · subst t2
        simpa [List.contains_iff_mem] using ht
      · subst t2
        simpa [List.contains_iff_mem] using ht
    rcases t2 with t2 | t2
    · subst t2
      obtain ⟨a, rfl, hs⟩ := hv
      exact ⟨a, rfl, key a _ hs ok.1 ok.2⟩
    · subst t2
      rcases hv with hv | ⟨a, rfl, hs⟩
      · exact Or.inl hv
      · exact Or.inr ⟨a, rfl, key a _ hs ok.1 ok.2⟩
  · match tk, t2, hv with
    | 0, _, hv => exact hv
    | 1, _, hv => exact hv
    | 2, t2, _ => exact absurd (Or.inl rfl) t2
    | 3, t2, _ => exact absurd (Or.inr rfl) t2
    | 4, _, hv => exact hv
    | n + 5, _, _ => exact trivial
theorem okT9_D {ts : List k_T} (h9 : ∀ t ∈ ts, okT9 t = true) (i : Nat) : okT9 (ts.getD i k_top) = true := by
  rw [List.getD_eq_getElem?_getD]
  cases e : ts[i]? with
  | none =>
    show okT9 k_top = true
    decide
  | some t => exact h9 t (List.mem_of_getElem? e)
theorem k_cell.S {l : Nat} {e : va_E} (hl : ∀ L, zN9 L = true → Sg (ad L) = some (lbC L)) (ho : okX l = true) (hc : k_cell Sg cA (Lb l) e) : k_cell (sgS Sg ad) cA (Ls l) e := by
  obtain ⟨e1, e2⟩ := okX_tab l ho
  rw [e1]
  have kt : ∀ t, t ∈ (Lb l).2.2.2 → okT9 t = true := fun t ht => List.all_eq_true.mp e2 t ht
  have kl : ∀ i, okT9 (k_el (Lb l) i) = true := fun i => by
    unfold k_el
    split
    · exact okT9_D kt 0
    · exact okT9_D kt i
  rcases hc with ⟨a1, fs, a2, a3, a4⟩ | ⟨a1, f, a2, a3⟩ | ⟨a1, f, a2, a3⟩
  · exact Or.inl ⟨a1, fs, a2, a3, fun k t ht => (a4 k t ht).elim fun v q => ⟨v, q.1, k_v.S hl (kt t (List.mem_of_getElem? ht)) q.2⟩⟩
  · exact Or.inr (Or.inl ⟨a1, f, a2, a3⟩)
  · exact Or.inr (Or.inr ⟨a1, f, a2, fun i hi => k_v.S hl (kl i) (a3 i hi)⟩)
def tat (ts : List k_T) (k : Nat) : Nat := (ts.getD k (9, 0, 0)).2.1.toNat
theorem getD_e {ts : List k_T} {k : Nat} {t : k_T} (h9 : ts[k]? = some t) : ts.getD k (9, 0, 0) = t := by
  rw [List.getD_eq_getElem?_getD, h9]
  rfl
theorem tabS1 : ∀ q, q < 160 → zNC q = true → (zZ q).1 = 1 → iEq (Ls (lbS q)) (Lb (lbC q)) = true ∧ (Lb (lbC q)).1 = 1 := by decide +kernel
def tb0 (Z S B : k_I) : Bool := S.1 == 0 && (B.1 == 0 && (S.2.1 == B.2.1 && (S.2.2.1 == B.2.2.1 && (S.2.2.2.length == Z.2.2.2.length && (B.2.2.2.length == Z.2.2.2.length && (List.range Z.2.2.2.length).all (fun k => zkd Z.2.2.2 k == 2 && (zkd S.2.2.2 k == 2 && (zN9 (tat Z.2.2.2 k) && tat S.2.2.2 k == lbS (tat Z.2.2.2 k))) || tEq (S.2.2.2.getD k (9, 0, 0)) (B.2.2.2.getD k (9, 0, 0)) && okT9 (B.2.2.2.getD k (9, 0, 0))))))))
theorem tabS0 : ∀ q, q < 160 → zNC q = true → (zZ q).1 = 0 → ((Ls (lbS q)).1 = 0 ∧ (Lb (lbC q)).1 = 0) ∧ (Ls (lbS q)).2.1 = (Lb (lbC q)).2.1 ∧ (Ls (lbS q)).2.2.1 = (Lb (lbC q)).2.2.1 ∧ (Ls (lbS q)).2.2.2.length = (zZ q).2.2.2.length ∧ (Lb (lbC q)).2.2.2.length = (zZ q).2.2.2.length ∧ ∀ k, k < (zZ q).2.2.2.length → (zkd (zZ q).2.2.2 k = 2 ∧ zkd (Ls (lbS q)).2.2.2 k = 2 ∧ zN9 (tat (zZ q).2.2.2 k) = true ∧ tat (Ls (lbS q)).2.2.2 k = lbS (tat (zZ q).2.2.2 k)) ∨ (tEq ((Ls (lbS q)).2.2.2.getD k (9, 0, 0)) ((Lb (lbC q)).2.2.2.getD k (9, 0, 0)) = true ∧ okT9 ((Lb (lbC q)).2.2.2.getD k (9, 0, 0)) = true) := fun q h1 h2 h3 => by
  have hd : ∀ q, q < 160 → zNC q = true → (zZ q).1 = 0 → tb0 (zZ q) (Ls (lbS q)) (Lb (lbC q)) = true := by decide +kernel
  have h := hd q h1 h2 h3
  unfold tb0 at h
  simp only [Bool.and_eq_true, beq_iff_eq] at h
  obtain ⟨a1, a2, a3, a4, a5, a6, a7⟩ := h
  refine ⟨⟨a1, a2⟩, a3, a4, a5, a6, fun k hk => ?_⟩
  have z := List.all_eq_true.mp a7 k (List.mem_range.mpr hk)
  simp only [Bool.or_eq_true, Bool.and_eq_true, beq_iff_eq] at z
  exact z
/-- the heap is typed by the finer labels -/
theorem zS_H (hH : k_H Sg cA Lb h) (hz : zr zNC cA ad I W O h) (hA : zRA cA ad h) (sx : Sg (ad 0) = some 0) : k_H (sgS Sg ad) cA Ls h := by
  have hl : ∀ L, zN9 L = true → Sg (ad L) = some (lbC L) := fun L hL => zC_lab hz hA hH (ag.rf h) (agR.rf h) sx L (zN9_c hL)
  have hj := zC_inj hz hA
  intro a l hs9
  rcases sgS_c hs9 with ⟨L, hL, rfl, rfl⟩ | ⟨-, q1, q2⟩
  · obtain ⟨e, c, hc⟩ := hH (ad L) (lbC L) (hl L hL)
    rcases zN9_c hL with hN | rfl | rfl
    · have hk : ∀ q, q < 160 → zNC q = true → (zZ q).1 = 0 ∨ (zZ q).1 = 1 := by decide +kernel
      rcases hk L (zN9_lt hL) hN with k0 | k1
      · obtain ⟨⟨t1, t1b⟩, t2, t3, t4, t5, t6⟩ := tabS0 L (zN9_lt hL) hN k0
        refine ⟨e, c, Or.inl ?_⟩
        rcases hc with ⟨a1, fs, rfl, a3, a4⟩ | ⟨a1, f, rfl, a3⟩ | ⟨a1, f, rfl, a3⟩
        · have e9 : fs = z_fs ad (I L) (W L) (O L) 0 (zZ L).2.2.2 := by
            have z := hz.1 L hN
            rw [c] at z
            unfold z_e at z
            rw [k0] at z
            exact (Prod.mk.inj (Sum.inr.inj (Option.some.inj z))).2
          refine ⟨t1, fs, by rw [t2], by rw [t3]; exact a3, fun k t ht => ?_⟩
          have hlen : k < (zZ L).2.2.2.length := by
            have := (List.getElem?_eq_some_iff.mp ht).1
            omega
          rcases t6 k hlen with ⟨b1, b2, b3, b4⟩ | ⟨b1, b2⟩
          · obtain ⟨t0, et, e0⟩ := zkd_s b1 (by decide)
            have r := z_fsR (ad := ad) (f := I L) (w := W L) (o := O L) et e0 rfl
            refine ⟨_, by rw [e9]; exact r, ?_⟩
            have d := zkd_e ht
            rw [b2] at d
            unfold tat at b3 b4
            rw [getD_e et] at b3 b4
            rw [getD_e ht] at b4
            obtain ⟨tk, ta, tb⟩ := t
            have d : tk = 2 := d.symm
            subst d
            have b4 : ta.toNat = lbS t0.2.1.toNat := b4
            refine ⟨ad t0.2.1.toNat, rfl, ?_⟩
            show sgS Sg ad (ad t0.2.1.toNat) = some ta.toNat
            rw [sgS_s hj b3, b4]
          · obtain ⟨t2', et2⟩ : ∃ t, (Lb (lbC L)).2.2.2[k]? = some t := ⟨_, List.getElem?_eq_getElem (by omega)⟩
            have b1 := tEq_e b1
            rw [getD_e ht, getD_e et2] at b1
            rw [getD_e et2] at b2
            subst b1
            obtain ⟨v, d1, d2⟩ := a4 k t et2
            exact ⟨v, d1, k_v.S hl b2 d2⟩
        · omega
        · omega
      · obtain ⟨t1, t2⟩ := tabS1 L (zN9_lt hL) hN k1
        rw [iEq_e t1]
        refine ⟨e, c, Or.inr (Or.inl ?_)⟩
        rcases hc with ⟨a1, -⟩ | hc | ⟨a1, -⟩
        · omega
        · exact hc
        · omega
    · obtain ⟨⟨F1, c1, e1⟩, -⟩ := hA
      refine ⟨_, c1, Or.inr (Or.inr ⟨rfl, F1, rfl, fun i hi => ?_⟩)⟩
      have hi : i < 6 := hi
      have hd : ∀ j, j < 6 → zN9 (43 + j) = true ∧ lbS (43 + j) = 43 := by decide
      rw [e1 i hi]
      refine ⟨ad (43 + i), rfl, ?_⟩
      show sgS Sg ad (ad (43 + i)) = some 43
      rw [sgS_s hj (hd i hi).1, (hd i hi).2]
    · obtain ⟨-, F2, c2, e2⟩ := hA
      refine ⟨_, c2, Or.inr (Or.inr ⟨rfl, F2, rfl, fun i hi => ?_⟩)⟩
      have hi : i < 7 := hi
      have hd : ∀ j, j < 7 → zN9 (100 + 6 * (j + 3)) = true ∧ lbS (100 + 6 * (j + 3)) = 112 := by decide
      rw [e2 i hi]
      refine ⟨ad (100 + 6 * (i + 3)), rfl, ?_⟩
      show sgS Sg ad (ad (100 + 6 * (i + 3))) = some 112
      rw [sgS_s hj (hd i hi).1, (hd i hi).2]
  · obtain ⟨e, c, hc⟩ := hH a l q1
    exact ⟨e, c, k_cell.S hl q2 hc⟩
/-- what such methods may write -/
def alC : List (Nat × Nat) := [(1, 1), (1, 2), (1, 3), (7, 2), (8, 2), (9, 1), (9, 2), (10, 0), (29, 0), (30, 0), (31, 0), (35, 0), (37, 0), (38, 0), (39, 0), (40, 0), (41, 0), (43, 0), (44, 0), (100, 5), (100, 6), (101, 0), (102, 0), (103, 0), (104, 0), (105, 0), (112, 5), (112, 6), (113, 0), (114, 0), (115, 0), (116, 0), (117, 0)]
def okS (Wr : List (Nat × Nat)) : Bool := Wr.all (fun q => alC.contains q)
theorem alC_sh : ∀ q, q < 160 → zNC q = true → ¬ (q = 1 ∨ q = 4 ∨ 7 ≤ q ∧ q ≤ 10 ∨ q = 19 ∨ 25 ≤ q ∧ q < 50 ∨ 106 ≤ q ∧ q < 112 ∨ 118 ≤ q) → ∀ p ∈ alC, ¬ p.1 = lbS q := by decide +kernel
theorem alC_rf : ∀ q, q < 160 → zNC q = true → (zZ q).1 = 0 → ∀ p ∈ alC, p.1 = lbS q → ¬ zkd (zZ q).2.2.2 p.2 = 2 := by decide +kernel
theorem shS : ∀ q, q < 160 → zNC q = true → shk (zZ q) (Ls (lbS q)) = true := by decide +kernel
theorem FC.S (hH : k_H Sg cA Lb h) (sx : Sg x = some 0) (H : FC cA h x τ φ) : ∃ Sg1 : Nat → Option Nat, k_H Sg1 cA Ls h ∧ Sg1 x = some 0 ∧ ∀ (g : ch_H) (Wr : List (Nat × Nat)), k_H Sg1 cA Ls g → k_U Sg1 Wr h g → okS Wr = true → FC cA g x τ φ := by
  obtain ⟨hk, ad, I, W, O, hz, rfl, hS, hA⟩ := H
  have hj := zC_inj hz hA
  have h0 : sgS Sg ad (ad 0) = some 0 := sgS_s hj rfl
  refine ⟨sgS Sg ad, zS_H hH hz hA sx, h0, fun g Wr hg u ok => ?_⟩
  have no : ∀ q ∈ Wr, q ∈ alC := fun q hq => List.contains_iff_mem.mp (List.all_eq_true.mp ok q hq)
  obtain ⟨I1, W1, O1, z1, z2, z3⟩ := hz.U (fun L hL => sgS_s hj (zNC_9 hL)) hg u (fun L hL => shS L (zN9_lt (zNC_9 hL)) hL) (fun L k hL k0 k2 hm => alC_rf L (zN9_lt (zNC_9 hL)) hL k0 _ (no _ hm) rfl k2)
  have sm : ∀ L, ¬ scr L → I1 L = I L ∧ W1 L = W L := fun L hL => by
    by_cases hN : zNC L = true
    · have nw : ∀ k, (lbS L, k) ∉ Wr := fun k hm => alC_sh L (zN9_lt (zNC_9 hN)) hN hL _ (no _ hm) rfl
      exact ⟨funext fun k => (z2 L k hN (fun _ => nw 0) (fun _ => nw k)).1, funext fun k => (z2 L k hN (fun _ => nw 0) (fun _ => nw k)).2⟩
    · exact z3 L hN
  obtain ⟨⟨F1, c1, e1⟩, F2, c2, e2⟩ := hA
  refine ⟨hk, ad, I1, W1, O1, z1, rfl, hS.mv (fun L hL => (sm L hL).1) (fun L hL => (sm L ?_).2), ⟨F1, (u (ad 32) 42 (sgS_s hj rfl)).2 _ c1 (fun hm => absurd (no _ hm) (by decide)), e1⟩, F2, (u (ad 49) 45 (sgS_s hj rfl)).2 _ c2 (fun hm => absurd (no _ hm) (by decide)), e2⟩
  unfold scr
  omega
/-- the store written, the rows of references stay -/
theorem zRA.f {g : ch_H} (hz : zr zNC cA ad I W O h) (hA : zRA cA ad h) (hf : zf zNC ad h g) : zRA cA ad g := by
  have hj := zC_inj hz hA
  have n1 : ∀ L, zNC L = true → ad 32 ≠ ad L := fun L hL e => by
    have z := hj 32 L rfl (zNC_9 hL) e
    subst z
    exact absurd hL (by decide)
  have n2 : ∀ L, zNC L = true → ad 49 ≠ ad L := fun L hL e => by
    have z := hj 49 L rfl (zNC_9 hL) e
    subst z
    exact absurd hL (by decide)
  obtain ⟨⟨F1, c1, e1⟩, F2, c2, e2⟩ := hA
  exact ⟨⟨F1, (hf _ n1).trans c1, e1⟩, F2, (hf _ n2).trans c2, e2⟩
end
section
variable {Θ : Type} {l : Launch} {D : va_G} {tys : List (ClassId × FieldType)} {A : Nat → Prop} {X : State → Prop} {cA : Nat → ClassId} {fr lo : Nat} {M : ch_M} {x m : Nat} {As : List Value} {op : aS → aS} {an : aS → Option Value → Prop} {E : ch_H → Nat → Θ → Prop} {on : aS → Θ → Θ} {bn : Θ → Option Value → Prop} {pr : Θ → aN}
/-- a method of the class that writes nothing shown -/
theorem sG_keepS {mi fr1 lo1 : Nat} {ts : List k_T} {ra rb : Int} {Wr : List (Nat × Nat)} (pr : Θ → aN) (hs : sG E l D tys A X cA fr lo 0 0 M x As op an on bn) (ho : ∀ σ θ, pr (on σ θ) = pr θ) (hc : ∀ Sg, k_sat l D tys A X Sg cA Ls (mi, (2, 0, 0) :: ts, [], some (0, ra, rb), Wr, fr1, lo1)) (hm : k_pM mi = M) (ha : okA ts As) (hf : fr1 ≤ fr) (hl : lo1 ≤ lo) (ok : okS Wr = true) :
    sG (fun h x (q : Θ × zP) => E h x q.1 ∧ FC cA h x (pr q.1) q.2) l D tys A X cA fr lo 0 0 M x As op an (fun σ q => (on σ q.1, q.2)) (fun q v => bn q.1 v ∧ True) := by
  refine sG_add (F := fun h x θ φ => FC cA h x (pr θ) φ) (on2 := fun _ _ φ => φ) (bn2 := fun _ _ _ => True) (fun Sg g g2 θ φ => FC_ag Sg g g2 (pr θ) φ) hs (fun Sg h σ θ φ hH sx _ _ hf9 => ?_)
  obtain ⟨Sg1, k1, k2, k3⟩ := FC.S hH sx hf9
  obtain ⟨q1, q2⟩ := ha.at_ (Sg := Sg1)
  have k := hc Sg1 h (.ref x :: As) k1 (by simp [q1]) (fun i t hi => by
    match i, hi with
    | 0, hi => cases hi; exact ⟨_, rfl, x, rfl, k2⟩
    | i + 1, hi => exact q2 i t hi) (fun q hq => absurd hq List.not_mem_nil)
  rw [hm] at k
  refine tt_room hf hl (tt_mono (fun v g H => ⟨?_, trivial⟩) k)
  show FC cA g x (pr (on σ θ)) φ
  rw [ho]
  exact k3 g Wr H.1 H.2.1 ok
end
