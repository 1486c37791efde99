/-! walks over the reference's store with its types: calls by their contracts -/
/-- what a contract leaves of the store -/
def zq (Wr : List (Nat × Nat)) (I : zI) (W : zW) (I1 : zI) (W1 : zW) : Prop := (∀ L, zNM L = true → (zZ L).1 = 1 → (lbR 50 55 L, 0) ∉ Wr → I1 L = I L) ∧ ∀ k, (50, k) ∉ Wr → I1 50 k = I 50 k ∧ W1 50 k = W 50 k
section
variable {l : Launch} {D : va_G} {tys : List (ClassId × FieldType)} {A : Nat → Prop} {X : State → Prop} {fr lo : Nat} {M : ch_M} {Q : Option Value → ch_H → Prop} {pc : Nat} {lv : List (Nat × Value)} {h g : ch_H} {cA : Nat → ClassId} {Sg : Nat → Option Nat} {N : Nat → Bool} {ad : Nat → Nat} {I I1 : zI} {W W1 : zW} {O O1 : zO} {Wr : List (Nat × Nat)}
theorem z_cK {own ix mi cf cl : Nat} {M' : ch_M} {t' : List (Nat × Instr × Nat)} {o' : Nat} {ts : List k_T} {ret : Option k_T} (As rest : List Value) (hl : ∀ L, zNM L = true → Sg (ad L) = some (lbR 50 55 L)) (hz : zr zNM cA ad I W O h) (hH : k_H Sg cA Lb h) (hR : pg_R own = M.1.cls) (hc : pg_call own (ix, 0, mi)) (he : pg[mi]? = some (M', t', o')) (hn : pg_na.getD mi 0 = As.length) (hpm : k_pM mi = M') (hci : vwCl[10]? = some (M'.1.cls, ch_T 10, ch_N 10)) (hs : k_sat l D tys A X Sg cA Lb (mi, (2, 50, 0) :: ts, [], ret, Wr, cf, cl)) (hla : As.length = ts.length) (ha : ∀ (i : Nat) (t : k_T), ts[i]? = some t → ∃ v, As[i]? = some v ∧ k_v Sg v t) (ok : okP Wr = true) (hf : cf + 1 ≤ fr) (hlo : 8 + (M'.2.2.1 + 11) + cl ≤ lo) (hst : (rest.map fun v => v.category).sum ≤ 8) (hlen : (lg_sl (.ref (ad 50) :: As)).length ≤ M'.2.2.1) (hd : decode M.2.1 pc = .ok (.invokevirtual ix, 3)) (kk : ∀ (r : Option Value) (g : ch_H) (I1 : zI) (W1 : zW) (O1 : zO), zr zNM cA ad I1 W1 O1 g → k_H Sg cA Lb g → zq Wr I W I1 W1 → k_rt Sg ret r → ww l D tys A X fr lo M Q (pc + 3) lv (r.toList ++ rest) g) : ww l D tys A X fr lo M Q pc lv (As.reverse ++ .ref (ad 50) :: rest) h := by
  refine w_callKV As rest hR hc he hn hpm (hz.ob (L := 50) rfl rfl) hci hs hH (by simp [hla]) (fun i t hi => ?_) hf hlo hst hlen hd (fun r g g1 g2 g3 => ?_)
  · match i, hi with
    | 0, hi => cases hi; exact ⟨_, rfl, ad 50, rfl, hl 50 rfl⟩
    | i + 1, hi => exact ha i t hi
  · obtain ⟨I1, W1, O1, z1, z2, z3⟩ := hz.UR (Or.inl ⟨rfl, rfl⟩) hl g1 g2 ok
    exact kk r g I1 W1 O1 z1 g1 ⟨z2, z3⟩ g3
/-- types again, from the store: of what changed alone -/
theorem zH_of (hH : k_H Sg cA Lb h) (hz : zr N cA ad I W O h) (hz1 : zr N cA ad I1 W1 O g) (hf : zf N ad h g) (hc : ∀ L l, N L = true → Sg (ad L) = some l → (I1 L = I L ∧ W1 L = W L) ∨ k_cell Sg cA (Lb l) (z_e ad cA (I1 L) (W1 L) (O L) (zZ L))) : k_H Sg cA Lb g := fun a l hs => by
  by_cases e : ∃ L, N L = true ∧ a = ad L
  · obtain ⟨L, hL, rfl⟩ := e
    rcases hc L l hL hs with ⟨q1, q2⟩ | q
    · obtain ⟨e9, c, k⟩ := hH (ad L) l hs
      refine ⟨e9, ?_, k⟩
      rw [hz1.1 L hL, q1, q2, ← hz.1 L hL, c]
    · exact ⟨_, hz1.1 L hL, q⟩
  · obtain ⟨e9, c, k⟩ := hH a l hs
    exact ⟨e9, (hf a (fun L hL z => e ⟨L, hL, z⟩)).trans c, k⟩
/-- an array of numbers within its bounds -/
theorem zc_arr {L l t n : Nat} {ts : List k_T} {f : Nat → Int32} {w : Nat → Int64} {o : Nat → Value} (hZ : zZ L = (1, t, n, ts)) (hB : (Lb l).1 = 1 ∧ (Lb l).2.1 = t ∧ (Lb l).2.2.1 = n) (hb : ∀ i, i < n → (k_el (Lb l) i).2.1 ≤ (f i).toInt ∧ (f i).toInt ≤ (k_el (Lb l) i).2.2) : k_cell Sg cA (Lb l) (z_e ad cA f w o (zZ L)) := by
  rw [hZ]
  refine Or.inr (Or.inl ⟨hB.1, f, ?_, fun i hi => hb i (by rw [← hB.2.2]; exact hi)⟩)
  rw [hB.2.1, hB.2.2]
  rfl
/-- a field of an object written -/
theorem k_cell.set {J : k_I} {ci k : Nat} {fs : List Value} {v : Value} {t : k_T} (hc : k_cell Sg cA J (.inr (ci, fs))) (hk : J.2.2.2[k]? = some t) (hv : k_v Sg v t) : k_cell Sg cA J (.inr (ci, fs.set k v)) := by
  rcases hc with ⟨a1, fs', e, a3, a4⟩ | ⟨-, f, e, -⟩ | ⟨-, f, e, -⟩
  · cases e
    refine Or.inl ⟨a1, _, rfl, by rw [List.length_set]; exact a3, fun j t' ht => ?_⟩
    obtain ⟨v2, b1, b2⟩ := a4 j t' ht
    by_cases e : k = j
    · subst e
      rw [hk] at ht
      cases ht
      have hlt := (List.getElem?_eq_some_iff.mp b1).1
      exact ⟨v, by rw [List.getElem?_set_self hlt], hv⟩
    · exact ⟨v2, by rw [List.getElem?_set_ne e]; exact b1, b2⟩
  · cases e
  · cases e
end
/-! what a query keeps: the shown labels but the TOWN (jB), the TOWN (jT), the TOWN as it was kept (jK) -/
def jB (I0 : zI) (W0 : zW) (I : zI) (W : zW) : Prop := (∀ L, L = 55 ∨ 58 ≤ L ∧ L ≤ 65 → I L = I0 L) ∧ (∀ k, k = 7 ∨ k = 20 ∨ 32 ≤ k ∧ k ≤ 35 ∨ k = 39 → I 50 k = I0 50 k) ∧ W 50 38 = W0 50 38
def jT (I0 : zI) (W0 : zW) (I : zI) (W : zW) : Prop := (∀ k, k < 39 → I 56 k = I0 56 k) ∧ W 50 36 = W0 50 36
def jK (I0 : zI) (W0 : zW) (I : zI) (W : zW) : Prop := (∀ k, k < 39 → I 57 k = I0 56 k) ∧ W 50 37 = W0 50 36
section
variable {I0 I I1 : zI} {W0 W W1 : zW} {Wr : List (Nat × Nat)} {τ : aN} {φ : zP}
/-- what calls may write: the TOWN too, or what is kept too -/
def okKn (Wr : List (Nat × Nat)) : Bool := okP Wr && (!Wr.contains (57, 0) && !Wr.contains (50, 37))
def okTn (Wr : List (Nat × Nat)) : Bool := okP Wr && (!Wr.contains (56, 0) && !Wr.contains (50, 36))
theorem jB.c (H : jB I0 W0 I W) (ok : okP Wr = true) (hq : zq Wr I W I1 W1) : jB I0 W0 I1 W1 := by
  have no : ∀ q ∈ Wr, q ∈ alP := fun q hq => List.contains_iff_mem.mp (List.all_eq_true.mp ok q hq)
  have n5 : ∀ k, k = 7 ∨ k = 20 ∨ 32 ≤ k ∧ k ≤ 35 ∨ k = 38 ∨ k = 39 → (50, k) ∉ Wr := fun k hk9 hm => by
    have hd : ∀ q ∈ alP, q.1 = 50 → ¬ (q.2 = 7 ∨ q.2 = 20 ∨ 32 ≤ q.2 ∧ q.2 ≤ 35 ∨ q.2 = 38 ∨ q.2 = 39) := by decide +kernel
    exact hd _ (no _ hm) rfl hk9
  have nL : ∀ L, L = 55 ∨ 58 ≤ L ∧ L ≤ 65 → zNM L = true ∧ (zZ L).1 = 1 ∧ (lbR 50 55 L, 0) ∉ Wr := fun L hL => by
    have h9 : L < 69 := by omega
    have hd : ∀ q, q < 69 → (q = 55 ∨ 58 ≤ q ∧ q ≤ 65) → (zNM q && ((zZ q).1 == 1 && !alP.contains (lbR 50 55 q, 0))) = true := by decide +kernel
    have h8 := hd L h9 hL
    simp only [Bool.and_eq_true, beq_iff_eq, Bool.not_eq_true'] at h8
    obtain ⟨d1, d2, d3⟩ := h8
    refine ⟨d1, d2, fun hm => ?_⟩
    rw [List.contains_iff_mem.mpr (no _ hm)] at d3
    cases d3
  refine ⟨fun L hL => ?_, fun k hk => ?_, ?_⟩
  · obtain ⟨d1, d2, d3⟩ := nL L hL
    exact (hq.1 L d1 d2 d3).trans (H.1 L hL)
  · exact (hq.2 k (n5 k (by omega))).1.trans (H.2.1 k hk)
  · exact (hq.2 38 (n5 38 (by decide))).2.trans H.2.2
theorem jK.c (H : jK I0 W0 I W) (ok : okKn Wr = true) (hq : zq Wr I W I1 W1) : jK I0 W0 I1 W1 := by
  unfold okKn at ok
  simp only [Bool.and_eq_true, Bool.not_eq_true'] at ok
  have n1 : (57, 0) ∉ Wr := fun hm => by
    rw [List.contains_iff_mem.mpr hm] at ok
    cases ok.2.1
  have n2 : (50, 37) ∉ Wr := fun hm => by
    rw [List.contains_iff_mem.mpr hm] at ok
    cases ok.2.2
  refine ⟨fun k hk => ?_, (hq.2 37 n2).2.trans H.2⟩
  rw [hq.1 57 rfl rfl n1]
  exact H.1 k hk
theorem jT.c (H : jT I0 W0 I W) (ok : okTn Wr = true) (hq : zq Wr I W I1 W1) : jT I0 W0 I1 W1 := by
  unfold okTn at ok
  simp only [Bool.and_eq_true, Bool.not_eq_true'] at ok
  have n1 : (56, 0) ∉ Wr := fun hm => by
    rw [List.contains_iff_mem.mpr hm] at ok
    cases ok.2.1
  have n2 : (50, 36) ∉ Wr := fun hm => by
    rw [List.contains_iff_mem.mpr hm] at ok
    cases ok.2.2
  refine ⟨fun k hk => ?_, (hq.2 36 n2).2.trans H.2⟩
  rw [hq.1 56 rfl rfl n1]
  exact H.1 k hk
/-- all as it was: the same TOWN is shown -/
theorem jB.rS (hB : jB I0 W0 I W) (hT : jT I0 W0 I W) (hk : kok τ φ) (H : rS τ φ I0 W0) : rS τ φ I W := H.mv hk hB.1 hT.1 hB.2.1 ⟨hT.2, hB.2.2⟩
end
