/-! the reference: what a contract doesn't write is shown as it was -/
def alR : List (Nat × Nat) := [(50, 0), (50, 5), (50, 8), (50, 9), (50, 10), (50, 11), (50, 12), (50, 13), (50, 14), (50, 18), (50, 37), (50, 42), (50, 43), (50, 44), (50, 45), (54, 0), (57, 0), (66, 0), (67, 0), (70, 0)]
/-- .. and what is put back -/
def alP : List (Nat × Nat) := (50, 36) :: (56, 0) :: alR
def okQ (Wr : List (Nat × Nat)) : Bool := Wr.all (fun q => alR.contains q)
def okP (Wr : List (Nat × Nat)) : Bool := Wr.all (fun q => alP.contains q)
section
variable {Sg : Nat → Option Nat} {cA : Nat → ClassId} {h g : ch_H} {ad : Nat → Nat} {I I1 : zI} {W W1 : zW} {O : zO} {τ : aN} {φ : zP} {m : Nat} {Wr : List (Nat × Nat)}
theorem rS.mv (hk : kok τ φ) (H : rS τ φ I W) (o : ∀ L, L = 55 ∨ 58 ≤ L ∧ L ≤ 65 → I1 L = I L) (o6 : ∀ k, k < 39 → I1 56 k = I 56 k) (o5 : ∀ k, k = 7 ∨ k = 20 ∨ 32 ≤ k ∧ k ≤ 35 ∨ k = 39 → I1 50 k = I 50 k) (ow : W1 50 36 = W 50 36 ∧ W1 50 38 = W 50 38) : rS τ φ I1 W1 := by
  obtain ⟨h1, h2, ⟨h3, h32⟩, h4, h5, h6, h7, h8, h9, h10, h11⟩ := H
  refine ⟨h1.mv (o5 20 (by decide)) (o 55 (by decide)), ?_, ⟨h3.bE o6 hk.1.1 hk.2.2.2.1.2.1, ow.1.trans h32⟩, fun g hg => ?_, fun a b ha hb => ?_, fun i hi => ?_, fun i hi => ?_, fun r hr => ?_, ?_, fun z => ?_, ?_⟩
  · rw [o5 32 (by decide), o5 33 (by decide), o5 34 (by decide)]
    exact h2
  · rw [o 59 (by decide)]
    exact h4 g hg
  · rw [o 65 (by decide)]
    exact h5 a b ha hb
  · rw [o 62 (by decide)]
    exact h6 i hi
  · rw [o 63 (by decide), o 64 (by decide)]
    exact h7 i hi
  · rw [o 60 (by decide), o 61 (by decide)]
    exact h8 r hr
  · rw [o5 39 (by decide)]
    exact h9
  · rw [o5 35 (by decide)]
    exact ⟨(h10 z).1, (h10 z).2.1.mv (o 58 (by decide)), ow.2.trans (h10 z).2.2⟩
  · rw [o5 7 (by decide)]
    exact h11
theorem shR (s l5 : Nat) (hc : s = 50 ∧ l5 = 55 ∨ s = 70 ∧ l5 = 69) : ∀ L, zNM L = true → shk (zZ L) (Lb (lbR s l5 L)) = true := by
  intro L hL
  have h9 : L < 69 := by
    unfold zNM at hL
    simp only [Bool.and_eq_true, decide_eq_true_eq] at hL
    omega
  rcases hc with ⟨rfl, rfl⟩ | ⟨rfl, rfl⟩
  · have hd : ∀ q, q < 69 → zNM q = true → shk (zZ q) (Lb (lbR 50 55 q)) = true := by decide +kernel
    exact hd L h9 hL
  · have hd : ∀ q, q < 69 → zNM q = true → shk (zZ q) (Lb (lbR 70 69 q)) = true := by decide +kernel
    exact hd L h9 hL
/-- the store behind a contract -/
theorem zr.UR {s l5 : Nat} (hz : zr zNM cA ad I W O h) (hc : s = 50 ∧ l5 = 55 ∨ s = 70 ∧ l5 = 69) (hl : ∀ L, zNM L = true → Sg (ad L) = some (lbR s l5 L)) (hg : k_H Sg cA Lb g) (u : k_U Sg Wr h g) (ok : okP Wr = true) : ∃ (I1 : zI) (W1 : zW) (O1 : zO), zr zNM cA ad I1 W1 O1 g ∧ (∀ L, zNM L = true → (zZ L).1 = 1 → (lbR s l5 L, 0) ∉ Wr → I1 L = I L) ∧ ∀ k, (s, k) ∉ Wr → I1 50 k = I 50 k ∧ W1 50 k = W 50 k := by
  have no : ∀ q ∈ Wr, q ∈ alP := fun q hq => List.contains_iff_mem.mp (List.all_eq_true.mp ok q hq)
  obtain ⟨I1, W1, O1, z1, z2, -⟩ := hz.U hl hg u (shR s l5 hc) (fun L k hL k0 k2 hm => by
    have h50 : L = 50 := by
      have hd : ∀ q, q < 69 → zNM q = true → (zZ q).1 = 0 → q = 50 := by decide +kernel
      refine hd L ?_ hL k0
      unfold zNM at hL
      simp only [Bool.and_eq_true, decide_eq_true_eq] at hL
      omega
    subst h50
    have hd : ∀ q ∈ alP, (q.1 = 50 ∨ q.1 = 70) → ¬ zkd (zZ 50).2.2.2 q.2 = 2 := by decide +kernel
    refine hd _ (no _ hm) ?_ k2
    show lbR s l5 50 = 50 ∨ lbR s l5 50 = 70
    have e : lbR s l5 50 = s := if_pos rfl
    omega)
  refine ⟨I1, W1, O1, z1, fun L hL k1 hn => funext fun k => (z2 L k hL (fun _ => hn) (fun k0 => ?_)).1, fun k hn => z2 50 k rfl (fun k1 => absurd k1 (by decide)) (fun _ => ?_)⟩
  · omega
  · have e : lbR s l5 50 = s := if_pos rfl
    rw [e]
    exact hn
theorem FR.U (hH : k_H Sg cA Lb h) (sm : sgM0 Sg m) (H : FR cA h m τ φ) (hg : k_H Sg cA Lb g) (u : k_U Sg Wr h g) (ok : okQ Wr = true) : FR cA g m τ φ := by
  obtain ⟨hk, ad, I, W, O, hz, rfl, hS⟩ := H
  obtain ⟨s, l5, hc, hl⟩ := zM_lab hz hH (ag.rf h) sm
  have no : ∀ q ∈ Wr, q ∈ alR := fun q hq => List.contains_iff_mem.mp (List.all_eq_true.mp ok q hq)
  have ok2 : okP Wr = true := List.all_eq_true.mpr (fun q hq => List.contains_iff_mem.mpr (List.mem_cons_of_mem _ (List.mem_cons_of_mem _ (no q hq))))
  obtain ⟨I1, W1, O1, z1, z2, z3⟩ := hz.UR hc hl hg u ok2
  have n5 : ∀ k, k = 7 ∨ k = 20 ∨ 32 ≤ k ∧ k ≤ 36 ∨ k = 38 ∨ k = 39 → (s, k) ∉ Wr := fun k hk9 hm => by
    have hd : ∀ q ∈ alR, (q.1 = 50 ∨ q.1 = 70) → ¬ (q.2 = 7 ∨ q.2 = 20 ∨ 32 ≤ q.2 ∧ q.2 ≤ 36 ∨ q.2 = 38 ∨ q.2 = 39) := by decide +kernel
    exact hd _ (no _ hm) (by show s = 50 ∨ s = 70; omega) hk9
  have nL : ∀ L, L = 55 ∨ L = 56 ∨ 58 ≤ L ∧ L ≤ 65 → zNM L = true ∧ (zZ L).1 = 1 ∧ (lbR s l5 L, 0) ∉ Wr := fun L hL => by
    have h9 : L < 69 := by omega
    have hd : ∀ q, q < 69 → (q = 55 ∨ q = 56 ∨ 58 ≤ q ∧ q ≤ 65) → (zNM q && ((zZ q).1 == 1 && (!alR.contains (lbR 50 55 q, 0) && !alR.contains (lbR 70 69 q, 0)))) = true := by decide +kernel
    have h8 := hd L h9 hL
    simp only [Bool.and_eq_true, beq_iff_eq, Bool.not_eq_true'] at h8
    obtain ⟨d1, d2, d3, d4⟩ := h8
    refine ⟨d1, d2, fun hm => ?_⟩
    rcases hc with ⟨rfl, rfl⟩ | ⟨rfl, rfl⟩
    · rw [List.contains_iff_mem.mpr (no _ hm)] at d3
      cases d3
    · rw [List.contains_iff_mem.mpr (no _ hm)] at d4
      cases d4
  refine ⟨hk, ad, I1, W1, O1, z1, rfl, hS.mv hk (fun L hL => ?_) (fun k _ => ?_) (fun k hk9 => (z3 k (n5 k (by omega))).1) ⟨(z3 36 (n5 36 (by decide))).2, (z3 38 (n5 38 (by decide))).2⟩⟩
  · obtain ⟨d1, d2, d3⟩ := nL L (by omega)
    exact z2 L d1 d2 d3
  · obtain ⟨d1, d2, d3⟩ := nL 56 (by decide)
    rw [z2 56 d1 d2 d3]
end
section
variable {Θ : Type} {l : Launch} {D : va_G} {tys : List (ClassId × FieldType)} {A : Nat → Prop} {X : State → Prop} {cA : Nat → ClassId} {fr lo : Nat} {M : ch_M} {m : Nat} {As : List Value} {op : aS → aS} {an : aS → Option Value → Prop} {E : ch_H → Nat → Θ → Prop} {on : aS → Θ → Θ} {bn : Θ → Option Value → Prop}
/-- a method of the reference that writes nothing shown -/
theorem tG_keepR {mi mi2 fr1 lo1 fr2 lo2 : Nat} {ts ts2 : List k_T} {ra rb ra2 rb2 : Int} {Wr Wr2 : List (Nat × Nat)} (pr : Θ → aN) (hs : tG E l D tys A X cA fr lo 0 0 M m As op an on bn) (ho : ∀ σ θ, pr (on σ θ) = pr θ) (hc : ∀ Sg, k_sat l D tys A X Sg cA Lb (mi, (2, 50, 0) :: ts, [], some (0, ra, rb), Wr, fr1, lo1)) (hc2 : ∀ Sg, k_sat l D tys A X Sg cA Lb (mi2, (2, 70, 0) :: ts2, [], some (0, ra2, rb2), Wr2, fr2, lo2)) (hm : k_pM mi = M) (hm2 : k_pM mi2 = M) (ha : okA ts As) (ha2 : okA ts2 As) (hf : fr1 ≤ fr ∧ fr2 ≤ fr) (hl : lo1 ≤ lo ∧ lo2 ≤ lo) (ok : okQ Wr = true) (ok2 : okQ Wr2 = true) :
    tG (fun h x (q : Θ × zP) => E h x q.1 ∧ FR cA h x (pr q.1) q.2) l D tys A X cA fr lo 0 0 M m As op an (fun σ q => (on σ q.1, q.2)) (fun q v => bn q.1 v ∧ True) :=
  tG_keep (F := fun h x θ φ => FR cA h x (pr θ) φ) (fun Sg g g2 θ φ => FR_ag Sg g g2 (pr θ) φ) (fun Sg h h9 σ θ φ hH hg u sm H => by
    show FR cA h9 m (pr (on σ θ)) φ
    rw [ho]
    rcases u with u | u
    · exact FR.U hH sm H hg u ok
    · exact FR.U hH sm H hg u ok2) hs hc hc2 hm hm2 ha ha2 hf hl
end
