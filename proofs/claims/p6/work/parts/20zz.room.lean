/-! a contract with more room -/
theorem tt_room0 {l : Launch} {D : va_G} {tys : List (ClassId × FieldType)} {A : Nat → Prop} {X : State → Prop} {fr lo fr' lo' mc ms : Nat} {M : ch_M} {Q : Option Value → ch_H → Prop} {pc : Nat} {lv : List (Nat × Value)} {st : List Value} {h : ch_H} {c z : Nat} (hf : fr ≤ fr') (hl : lo ≤ lo') (k : tt l D tys A X fr lo mc ms M Q pc lv st h c z) : tt l D tys A X fr' lo' mc ms M Q pc lv st h c z := by
  intro p e s m args below meth cd H locs ls C hl9 hr hS T hT Y
  have hroom : s.hasRoom e.platform (ch_room fr lo mc ms) = true := by
    have := Y.room
    unfold State.hasRoom at this ⊢
    simp only [Bool.and_eq_true, decide_eq_true_eq] at this ⊢
    have a1 : (ch_room fr lo mc ms).frames ≤ (ch_room fr' lo' mc ms).frames := hf
    have a2 : (ch_room fr lo mc ms).locals ≤ (ch_room fr' lo' mc ms).locals := hl
    obtain ⟨⟨⟨⟨b0, b1, b2, b3, b4, b5⟩, b6⟩, b7⟩, b8⟩ := this
    exact ⟨⟨⟨⟨by omega, by omega, by omega, by omega, by omega, b5⟩, b6⟩, b7⟩, b8⟩
  exact k p e s m args below meth cd H locs ls C hl9 hr hS T hT ⟨Y.admits, Y.cas, Y.clock, Y.frames, hroom, Y.hears, Y.method, Y.code, Y.here, Y.tail, Y.warmed, Y.limits, Y.bytes, Y.same⟩
theorem k_sat_room {l : Launch} {D : va_G} {tys : List (ClassId × FieldType)} {A : Nat → Prop} {X : State → Prop} {Sg : Nat → Option Nat} {cA : Nat → ClassId} {Lb9 : Nat → k_I} {mi fr lo fr' lo' : Nat} {ts : List k_T} {kn : List (Nat × Nat × k_T)} {rt : Option k_T} {W : List (Nat × Nat)} (k : k_sat l D tys A X Sg cA Lb9 (mi, ts, kn, rt, W, fr, lo)) (hf : fr ≤ fr') (hl : lo ≤ lo') : k_sat l D tys A X Sg cA Lb9 (mi, ts, kn, rt, W, fr', lo') :=
  fun h vals hH hn ht hk => tt_room0 hf hl (k h vals hH hn ht hk)
