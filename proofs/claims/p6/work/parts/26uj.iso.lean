/-! layers: the same picture, otherwise told -/
section
variable {Θ Θ2 : Type} {l : Launch} {D : va_G} {tys : List (ClassId × FieldType)} {A : Nat → Prop} {X : State → Prop} {cA : Nat → ClassId} {fr lo mc ms : Nat} {M : ch_M} {x m : Nat} {As : List Value} {op : aS → aS} {an : aS → Option Value → Prop} {E : ch_H → Nat → Θ → Prop} {E2 : ch_H → Nat → Θ2 → Prop} {on : aS → Θ → Θ} {bn : Θ → Option Value → Prop} {on2 : aS → Θ2 → Θ2}
theorem sG_iso (f : Θ2 → Θ) (h1 : ∀ h θ, E2 h x θ → E h x (f θ)) (h2 : ∀ h σ θ, E h x (on σ (f θ)) → E2 h x (on2 σ θ)) (hs : sG E l D tys A X cA fr lo mc ms M x As op an on bn) : sG E2 l D tys A X cA fr lo mc ms M x As op an on2 (fun θ v => bn (f θ) v) := by
  intro Sg h σ hH sx hC
  refine tt_mono (fun v g H => ?_) (hs Sg h σ hH sx hC)
  obtain ⟨Sg1, q1, q2, q3, q4, q5, q6⟩ := H
  exact ⟨Sg1, q1, q2, q3, q4, fun θ hE => ⟨h2 g σ θ (q5 (f θ) (h1 h θ hE)).1, (q5 (f θ) (h1 h θ hE)).2⟩, q6⟩
theorem tG_iso (f : Θ2 → Θ) (h1 : ∀ h θ, E2 h m θ → E h m (f θ)) (h2 : ∀ h σ θ, E h m (on σ (f θ)) → E2 h m (on2 σ θ)) (hs : tG E l D tys A X cA fr lo mc ms M m As op an on bn) : tG E2 l D tys A X cA fr lo mc ms M m As op an on2 (fun θ v => bn (f θ) v) := by
  intro Sg h σ hH sm hR
  refine tt_mono (fun v g H => ?_) (hs Sg h σ hH sm hR)
  obtain ⟨Sg1, q1, q2, q3, q4, q5, q6⟩ := H
  exact ⟨Sg1, q1, q2, q3, q4, fun θ hE => ⟨h2 g σ θ (q5 (f θ) (h1 h θ hE)).1, (q5 (f θ) (h1 h θ hE)).2⟩, q6⟩
/-- FC over E0, then RC over that, is FC and RC over E0 -/
theorem sG_two {E0 : ch_H → Nat → Θ → Prop} {on0 : aS → Θ → Θ} {F : ch_H → Nat → Θ → zP → Prop} {R : ch_H → Nat → zP → Prop} {o2 : aS → Θ → zP → zP} {bn0 : (Θ × zP) × Unit → Option Value → Prop} (hs : sG (fun h x (q : (Θ × zP) × Unit) => (E0 h x q.1.1 ∧ F h x q.1.1 q.1.2) ∧ R h x q.1.2) l D tys A X cA fr lo mc ms M x As op an (fun σ q => ((on0 σ q.1.1, o2 σ q.1.1 q.1.2), q.2)) bn0) : sG (fun h x (q : Θ × zP) => E0 h x q.1 ∧ (F h x q.1 q.2 ∧ R h x q.2)) l D tys A X cA fr lo mc ms M x As op an (fun σ q => (on0 σ q.1, o2 σ q.1 q.2)) (fun q v => bn0 (q, ()) v) :=
  sG_iso (fun q => (q, ())) (fun _ _ H => ⟨⟨H.1, H.2.1⟩, H.2.2⟩) (fun _ _ _ H => ⟨H.1.1, H.1.2, H.2⟩) hs
theorem tG_two {E0 : ch_H → Nat → Θ → Prop} {on0 : aS → Θ → Θ} {F : ch_H → Nat → Θ → zP → Prop} {R : ch_H → Nat → zP → Prop} {o2 : aS → Θ → zP → zP} {bn0 : (Θ × zP) × Unit → Option Value → Prop} (hs : tG (fun h x (q : (Θ × zP) × Unit) => (E0 h x q.1.1 ∧ F h x q.1.1 q.1.2) ∧ R h x q.1.2) l D tys A X cA fr lo mc ms M m As op an (fun σ q => ((on0 σ q.1.1, o2 σ q.1.1 q.1.2), q.2)) bn0) : tG (fun h x (q : Θ × zP) => E0 h x q.1 ∧ (F h x q.1 q.2 ∧ R h x q.2)) l D tys A X cA fr lo mc ms M m As op an (fun σ q => (on0 σ q.1, o2 σ q.1 q.2)) (fun q v => bn0 (q, ()) v) :=
  tG_iso (fun q => (q, ())) (fun _ _ H => ⟨⟨H.1, H.2.1⟩, H.2.2⟩) (fun _ _ _ H => ⟨H.1.1, H.1.2, H.2⟩) hs
end
