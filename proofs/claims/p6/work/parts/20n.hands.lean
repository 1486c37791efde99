/-! contracts by hand -/
/-- what all contracts are told: the arrays' classes, the String constants -/
def k_TX (tys : List (ClassId × FieldType)) (cA : Nat → ClassId) (A : Nat → Prop) (X : State → Prop) : Prop := k_tys tys cA ∧ ∃ aK aV : Nat → Nat, ∀ s, X s → xs A aK aV s
section
variable {Sg : Nat → Option Nat} {cA : Nat → ClassId} {Lb9 : Nat → k_I} {h h1 : ch_H}
theorem k_H.obj {a L ci n : Nat} {ts : List k_T} (hH : k_H Sg cA Lb9 h) (hs : Sg a = some L) (hL : Lb9 L = (0, ci, n, ts)) : ∃ fs : List Value, h a = some (.inr (ci, fs)) ∧ fs.length = n ∧ ∀ (k : Nat) (t : k_T), ts[k]? = some t → ∃ v, fs[k]? = some v ∧ k_v Sg v t := by
  obtain ⟨e, e1, e2⟩ := hH a L hs
  rw [hL] at e2
  rcases e2 with ⟨-, fs, rfl, p2, p3⟩ | ⟨q, -⟩ | ⟨q, -⟩
  · exact ⟨fs, e1, p2, p3⟩
  · cases q
  · cases q
theorem k_H.arr {a L ci n : Nat} {ts : List k_T} (hH : k_H Sg cA Lb9 h) (hs : Sg a = some L) (hL : Lb9 L = (1, ci, n, ts)) : ∃ f : Nat → Int32, h a = some (.inl (cA ci, n, .inl f)) ∧ ∀ i, i < n → (k_el (1, ci, n, ts) i).2.1 ≤ (f i).toInt ∧ (f i).toInt ≤ (k_el (1, ci, n, ts) i).2.2 := by
  obtain ⟨e, e1, e2⟩ := hH a L hs
  rw [hL] at e2
  rcases e2 with ⟨q, -⟩ | ⟨-, f, rfl, p2⟩ | ⟨q, -⟩
  · cases q
  · exact ⟨f, e1, p2⟩
  · cases q
theorem k_v.ref {v : Value} {L : Int} {z : Int} (h : k_v Sg v (2, L, z)) : ∃ a : Nat, v = .ref a ∧ Sg a = some L.toNat := h
theorem k_v.int {v : Value} {lo hi : Int} (h : k_v Sg v (0, lo, hi)) : ∃ x : Int32, v = .int x ∧ lo ≤ x.toInt ∧ x.toInt ≤ hi := h
theorem k_v.any {v : Value} {lo hi : Int} : k_v Sg v (8, lo, hi) := trivial
theorem k_v.top (x : Int32) : k_v Sg (.int x) (0, -2147483648, 2147483647) := ⟨x, rfl, (show (-2147483648 : Int) ≤ x.toInt from x.minValue_le_toInt), (show x.toInt ≤ (2147483647 : Int) from x.toInt_le)⟩
/-- one cell changed: the heap is typed again -/
theorem k_H.one {m L : Nat} {e : va_E} (hH : k_H Sg cA Lb9 h) (hs : Sg m = some L) (hm : h1 m = some e) (hc : k_cell Sg cA (Lb9 L) e) (o : ∀ q, q ≠ m → h1 q = h q) : k_H Sg cA Lb9 h1 := by
  intro a L2 ha
  by_cases q : a = m
  · subst q
    rw [hs] at ha
    cases ha
    exact ⟨e, hm, hc⟩
  · rw [o a q]
    exact hH a L2 ha
theorem k_sg_ne {a b m n : Nat} (ha : Sg a = some m) (hb : Sg b = some n) (hne : m ≠ n) : a ≠ b := fun e => hne (by rw [e, hb] at ha; exact (Option.some.inj ha).symm)
theorem sb_of {g : Nat → Int32} {bg en n : Nat} (hg : ∀ i, i < n → -128 ≤ (g i).toInt ∧ (g i).toInt ≤ 127) (hb : bg + en ≤ n) : sb g (fun i => g (bg + i) &&& 255) bg en := by
  intro i hi
  have h1 := hg (bg + i) (by omega)
  have h2 := kn_and (g (bg + i)) (y := 255) (by decide)
  refine ⟨rfl, h2.1, h2.2, ?_⟩
  have h3 : ∀ x : Fin 256, ((Int32.ofInt ((x : Int) - 128)) &&& 255).toInt = if (x : Int) - 128 < 0 then (x : Int) - 128 + 256 else (x : Int) - 128 := by decide +kernel
  have h4 := h3 ⟨((g (bg + i)).toInt + 128).toNat, by omega⟩
  have e1 : ((⟨((g (bg + i)).toInt + 128).toNat, by omega⟩ : Fin 256) : Int) - 128 = (g (bg + i)).toInt := by
    show ((((g (bg + i)).toInt + 128).toNat : Nat) : Int) - 128 = _
    omega
  rw [e1, fb_asI] at h4
  show (g (bg + i)).toInt = (g (bg + i) &&& 255).toInt ∨ 128 ≤ (g (bg + i) &&& 255).toInt ∧ (g (bg + i)).toInt = (g (bg + i) &&& 255).toInt - 256
  split at h4
  · exact Or.inr ⟨by omega, by omega⟩
  · exact Or.inl (by omega)
end
theorem hand_X11_goThrough {l : Launch} {D : va_G} {tys : List (ClassId × FieldType)} {A : Nat → Prop} {X : State → Prop} {Sg : Nat → Option Nat} {cA : Nat → ClassId} {mi : Nat} (hT : k_TX tys cA A X) (hm : k_pM mi = mX11_goThrough) : k_sat l D tys A X Sg cA Lb (mi, [(2, 50, 0), (2, 52, 0), (0, 0, 480), (0, 0, 160)], [], none, [(50, 5), (50, 8), (50, 9), (50, 10), (50, 11), (50, 12), (50, 13), (50, 14), (50, 18)], 60, 2500) := by
  obtain ⟨hT, aK, aV, hX⟩ := hT
  intro h vals hH hlen hv hk
  obtain ⟨w0, p0, q0⟩ := hv 0 _ rfl
  obtain ⟨w1, p1, q1⟩ := hv 1 _ rfl
  obtain ⟨w2, p2, q2⟩ := hv 2 _ rfl
  obtain ⟨w3, p3, q3⟩ := hv 3 _ rfl
  obtain ⟨m, rfl, sm⟩ := k_v.ref q0
  obtain ⟨tx, rfl, st⟩ := k_v.ref q1
  obtain ⟨bg, rfl, b1, b2⟩ := k_v.int q2
  obtain ⟨en, rfl, b3, b4⟩ := k_v.int q3
  match vals, hlen, p0, p1, p2, p3 with
  | [_, _, _, _], _, p0, p1, p2, p3 =>
    cases p0
    cases p1
    cases p2
    cases p3
    obtain ⟨fs, c_m, fl, ty⟩ := hH.obj sm (L := 50) rfl
    obtain ⟨v4, f4, t4⟩ := ty 4 _ rfl
    obtain ⟨le, rfl, sl⟩ := k_v.ref t4
    obtain ⟨gl, c_le, -⟩ := hH.arr sl (L := 54) rfl
    obtain ⟨g, c_x, gb⟩ := hH.arr st (L := 52) rfl
    show tt l D tys A X 60 2500 0 0 (k_pM mi) _ 0 _ [] h 0 0
    rw [hm]
    refine r_goThrough hT hX (by decide) (by decide) c_m fl f4 (k_sg_ne sl sm (by decide)) c_le (k_sg_ne st sm (by decide)) c_x (sb_of (n := 640) gb (by omega)) ⟨b1, b2, b3, b4, by omega⟩ (fun h1 fs1 at1 fl1 dp1 p1 p2 p5 p3 p4 => ?_)
    obtain ⟨⟨⟨⟨e1, e2, e3, e4, e5, e6, e7⟩, e8, -⟩, -⟩, ⟨x13, e13⟩, ⟨x14, e14⟩, x18, e18, y1, y2⟩ := p1
    refine ⟨hH.one sm e1 (Or.inl ⟨rfl, fs1, rfl, e2, fun k t hk => ?_⟩) p4, fun a L ha => ⟨fun ci fs2 hc => ?_, fun e he _ => ?_⟩, rfl⟩
    · by_cases c5 : k = 5
      · subst c5; cases hk; exact ⟨_, e3, trivial⟩
      by_cases c8 : k = 8
      · subst c8; cases hk; exact ⟨_, e4, k_v.top _⟩
      by_cases c9 : k = 9
      · subst c9; cases hk; exact ⟨_, e5, k_v.top _⟩
      by_cases c10 : k = 10
      · subst c10; cases hk; exact ⟨_, e6, k_v.top _⟩
      by_cases c11 : k = 11
      · subst c11; cases hk; exact ⟨_, e7, k_v.top _⟩
      by_cases c12 : k = 12
      · subst c12; cases hk; exact ⟨_, e8, k_v.top _⟩
      by_cases c13 : k = 13
      · subst c13; cases hk; exact ⟨_, e13, k_v.top _⟩
      by_cases c14 : k = 14
      · subst c14; cases hk; exact ⟨_, e14, k_v.top _⟩
      by_cases c18 : k = 18
      · subst c18; cases hk; exact ⟨_, e18, x18, rfl, y1, y2⟩
      rw [p3 k ⟨c5, c8, c9, c10, c11, c12, c13, c14, c18⟩]
      exact ty k t hk
    · by_cases q : a = m
      · subst q
        obtain rfl : L = 50 := by rw [sm] at ha; exact (Option.some.inj ha).symm
        rw [c_m] at hc
        cases hc
        refine ⟨fs1, e1, fun k hk => p3 k ?_⟩
        simp only [List.mem_cons, Prod.mk.injEq, true_and, List.not_mem_nil, or_false, not_or] at hk
        exact hk
      · exact ⟨fs2, by rw [p4 a q]; exact hc, fun _ _ => rfl⟩
    · have q : a ≠ m := fun e9 => by rw [e9, c_m] at he; cases he
      rw [p4 a q]
      exact he
