/-! keep, the class, as a layer of FC and RC -/
section
variable {ρ : aRw} {b : Nat → Int} {w : (Nat → Int) → Int} {T : Nat → Int32} {d : Int64} {n ga pe : Nat} {τ : aN} {φ : zP} {r k : Int32}
theorem k_g_ev (wf : wfR n ρ) (hx : m_ok n ρ T) (h : e_ok n ρ T) : ∀ t : Nat, e_ok n ρ (k_g ρ b w n T d t).1
  | 0 => h
  | t + 1 => m_k_ev (S := (k_on ρ b w t n (k_g ρ b w n T d t).1, (k_g ρ b w n T d t).2.1, 0)) wf (k_on_ok wf.1 (k_g_ok wf hx t)) (fun q hq => by
    have n6 := wf.1
    show ev9 ρ q (k_on ρ b w t n (k_g ρ b w n T d t).1 q).toInt
    rw [k_on_n (by omega)]
    exact k_g_ev wf hx h t q hq) n (Nat.le_refl _)
theorem kok.keep (H : kok τ φ) : kok τ (k9_keep r k τ φ) := by
  have n6 := H.1.1
  unfold k9_keep
  split
  · refine H.t (fun L hL => s2_n hL) ?_
    show tk9 _ _ _ _ (s2 φ.1 56 _ 56)
    rw [s2_s]
    obtain ⟨c1, c2, c3, c4, c5⟩ := H.2.1
    have hx := k_g_ok (b := kb τ φ) (w := φ.2.2.2 r.toInt.toNat) (d := φ.2.1 36) H.1 c1 k.toInt.toNat
    have he := k_g_ev (b := kb τ φ) (w := φ.2.2.2 r.toInt.toNat) (d := φ.2.1 36) H.1 c1 c2 k.toInt.toNat
    have hb := k_g_br (ρ := φ.2.2.1) (b := kb τ φ) (w := φ.2.2.2 r.toInt.toNat) (d := φ.2.1 36) n6 c3 k.toInt.toNat
    have p8 := H.2.2.2.1.2.1
    refine ⟨fun q hq => ?_, fun q hq => ?_, fun q hq => ?_, fun q hq => ?_, fun i hi => ?_⟩
    · dsimp only
      rw [if_neg (by omega)]
      exact hx q hq
    · dsimp only
      rw [if_neg (by omega)]
      exact he q hq
    · dsimp only
      rw [if_neg (by omega)]
      exact hb q hq
    · dsimp only
      rw [if_neg (by omega), show (k9_kg r.toInt.toNat τ φ k.toInt.toNat).1 (18 + q) = φ.1 56 (18 + q) from k_g_hi n6 _ _ (by omega)]
      exact c4 q hq
    · dsimp only
      rw [if_neg (by omega), show (k9_kg r.toInt.toNat τ φ k.toInt.toNat).1 (30 + i) = φ.1 56 (30 + i) from k_g_hi n6 _ _ (by omega)]
      exact c5 i hi
  · exact H
end
section
variable {Θ : Type} {l : Launch} {D : va_G} {tys : List (ClassId × FieldType)} {A : Nat → Prop} {X : State → Prop} {cA : Nat → ClassId} {fr lo : Nat} {x : Nat} {op : aS → aS} {an : aS → Option Value → Prop} {E : ch_H → Nat → Θ → Prop} {on : aS → Θ → Θ} {bn : Θ → Option Value → Prop}
theorem kC_keep (hT : k_tys tys cA) (pr : Θ → aN) {r k : Int32} (hs : sG E l D tys A X cA fr lo 0 0 mX10_keep x [.int r, .int k] op an on bn) (ho : ∀ σ θ, pr (on σ θ) = pr θ) (hf : 30 ≤ fr) (hl : 900 ≤ lo) : sG (fun h x (q : Θ × zP) => E h x q.1 ∧ (FC cA h x (pr q.1) q.2 ∧ RC cA h x (p9 q.2))) l D tys A X cA fr lo 0 0 mX10_keep x [.int r, .int k] op an (fun σ q => (on σ q.1, k9_keep r k (pr q.1) q.2)) (fun q v => bn q.1 v ∧ b9_keep r k (pr q.1) q.2 v) := by
  refine sG_add (F := fun h x θ φ => FC cA h x (pr θ) φ ∧ RC cA h x (p9 φ)) (on2 := fun _ θ φ => k9_keep r k (pr θ) φ) (bn2 := fun θ φ v => b9_keep r k (pr θ) φ v) (fun Sg g g2 θ φ hH sx a ai ar H => ⟨FC_ag Sg g g2 (pr θ) φ hH sx a ai ar H.1, RC.ag hH sx a ai ar H.2⟩) hs (fun Sg h σ θ φ hH sx _ _ hf9 => ?_)
  obtain ⟨hfc, Rc⟩ := hf9
  obtain ⟨hk, ad, I, W, O, hz, rfl, hS, hA, hl9⟩ := hfc.lab hH sx
  show ww l D tys A X fr lo mX10_keep _ 0 [(0, .ref (ad 0)), (1, .int r), (2, .int k)] [] h
  refine z9_keep hT hz hk hS Rc hH hl9 (by omega) (by omega) (fun g I1 W1 v e1 e2 e3 e4 e5 => ⟨?_, ⟨v, rfl, e1⟩⟩)
  show FC cA g (ad 0) (pr (on σ θ)) _ ∧ RC cA g (ad 0) (p9 (k9_keep r k (pr θ) φ))
  rw [ho, p9_keep]
  have s32 := hl9 32 (Or.inr (Or.inl rfl))
  have s49 := hl9 49 (Or.inr (Or.inr rfl))
  have hd : ∀ q, q < 160 → zNC q = true → lbC q ≠ 42 ∧ lbC q ≠ 45 := by decide +kernel
  exact ⟨⟨hk.keep, ad, I1, W1, O, e3, rfl, e2, hA.mv (e5 _ 42 s32 (by decide) (fun M hM => k_sg_ne s32 (hl9 M (Or.inl hM)) (fun z => (hd M (zNC_lt hM) hM).1 z.symm))) (e5 _ 45 s49 (by decide) (fun M hM => k_sg_ne s49 (hl9 M (Or.inl hM)) (fun z => (hd M (zNC_lt hM) hM).2 z.symm)))⟩, e4⟩
end
