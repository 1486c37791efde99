/-! stores of what is new -/
def lzT : List Nat := [0, 1, 2, 4, 5, 32, 86, 35, 7, 8, 9, 11, 12, 13, 14, 15, 16, 17, 18, 10, 24, 25, 26, 27, 28, 29, 30, 31, 38, 39, 40, 41, 42, 71, 72, 73, 74, 75, 76, 77, 78, 79, 44, 80, 81, 82, 83, 84, 85, 45, 70, 51, 52, 53, 54, 69, 56, 57, 58, 59, 60, 61, 62, 63, 64, 65, 66, 67, 68, 140, 140, 140, 140, 140, 140, 140, 140, 140, 140, 140, 140, 140, 140, 140, 140, 140, 140, 140, 140, 140, 140, 140, 140, 140, 140, 140, 140, 140, 140, 140, 3, 19, 20, 21, 22, 23, 87, 88, 89, 90, 91, 92, 93, 94, 95, 96, 97, 98, 99, 100, 101, 102, 103, 104, 105, 106, 107, 108, 109, 110, 111, 112, 113, 114, 115, 116, 117, 118, 119, 120, 121, 122, 123, 124, 125, 126, 127, 128, 129, 130, 131, 132, 133, 134, 135, 136, 137, 138, 139, 140]
def zpT : List Nat := [0, 0, 0, 0, 0, 0, 0, 0, 0, 0, 0, 2, 2, 2, 2, 2, 2, 2, 2, 1, 3, 3, 3, 3, 3, 4, 4, 4, 8, 8, 8, 8, 9, 0, 33, 33, 33, 33, 33, 33, 33, 33, 9, 32, 32, 32, 32, 32, 32, 10, 0, 50, 50, 50, 50, 50, 50, 50, 50, 50, 50, 50, 50, 50, 50, 50, 50, 50, 50, 0, 0, 0, 0, 0, 0, 0, 0, 0, 0, 0, 0, 0, 0, 0, 0, 0, 0, 0, 0, 0, 0, 0, 0, 0, 0, 0, 0, 0, 0, 0, 0, 100, 100, 100, 100, 100, 0, 106, 106, 106, 106, 106, 0, 112, 112, 112, 112, 112, 49, 118, 118, 118, 118, 118, 49, 124, 124, 124, 124, 124, 49, 130, 130, 130, 130, 130, 49, 136, 136, 136, 136, 136, 49, 142, 142, 142, 142, 142, 49, 148, 148, 148, 148, 148, 49, 154, 154, 154, 154, 154]
def zsT : List Nat := [0, 0, 1, 8, 9, 10, 11, 15, 16, 17, 18, 1, 2, 3, 4, 5, 6, 7, 8, 0, 1, 2, 4, 6, 7, 0, 1, 2, 0, 1, 3, 4, 0, 2, 1, 2, 3, 4, 5, 6, 7, 8, 1, 0, 1, 2, 3, 4, 5, 0, 0, 1, 2, 3, 4, 19, 22, 23, 24, 25, 26, 27, 28, 29, 30, 31, 40, 41, 46, 0, 0, 0, 0, 0, 0, 0, 0, 0, 0, 0, 0, 0, 0, 0, 0, 0, 0, 0, 0, 0, 0, 0, 0, 0, 0, 0, 0, 0, 0, 0, 3, 0, 1, 2, 3, 4, 4, 0, 1, 2, 3, 4, 5, 0, 1, 2, 3, 4, 0, 0, 1, 2, 3, 4, 1, 0, 1, 2, 3, 4, 2, 0, 1, 2, 3, 4, 3, 0, 1, 2, 3, 4, 4, 0, 1, 2, 3, 4, 5, 0, 1, 2, 3, 4, 6, 0, 1, 2, 3, 4]
def zdT : List Nat := [0, 1, 1, 1, 1, 1, 1, 1, 1, 1, 1, 2, 2, 2, 2, 2, 2, 2, 2, 2, 2, 2, 2, 2, 2, 2, 2, 2, 2, 2, 2, 2, 2, 1, 2, 2, 2, 2, 2, 2, 2, 2, 2, 3, 3, 3, 3, 3, 3, 2, 0, 1, 1, 1, 1, 1, 1, 1, 1, 1, 1, 1, 1, 1, 1, 1, 1, 1, 1, 9, 9, 9, 9, 9, 9, 9, 9, 9, 9, 9, 9, 9, 9, 9, 9, 9, 9, 9, 9, 9, 9, 9, 9, 9, 9, 9, 9, 9, 9, 9, 1, 2, 2, 2, 2, 2, 1, 2, 2, 2, 2, 2, 1, 2, 2, 2, 2, 2, 3, 4, 4, 4, 4, 4, 3, 4, 4, 4, 4, 4, 3, 4, 4, 4, 4, 4, 3, 4, 4, 4, 4, 4, 3, 4, 4, 4, 4, 4, 3, 4, 4, 4, 4, 4, 3, 4, 4, 4, 4, 4]
def lq (L : Nat) : Nat := lzT.getD L 140
def zpar (L : Nat) : Nat := zpT.getD L 0
def zslot (L : Nat) : Nat := zsT.getD L 0
def zdep (L : Nat) : Nat := zdT.getD L 9
/-- labels of the class (r = 0), of the reference (r = 50) -/
def inz (r L : Nat) : Bool := if r = 0 then decide (L < 50) || (decide (100 ≤ L) && decide (L < 160)) else decide (50 ≤ L) && decide (L < 69)
theorem inz_lt {r L : Nat} (h : inz r L = true) : L < 160 := by
  unfold inz at h
  split at h
  · simp only [Bool.or_eq_true, Bool.and_eq_true, decide_eq_true_eq] at h
    omega
  · simp only [Bool.and_eq_true, decide_eq_true_eq] at h
    omega
/-- a cell bears a reference of another, in this place -/
def lkz (cA : Nat → ClassId) (h : ch_H) (p a k b : Nat) : Prop := ((zZ p).1 = 0 ∧ ∃ fs, h a = some (.inr ((zZ p).2.1, fs)) ∧ fs[k]? = some (.ref b)) ∨ ((zZ p).1 = 2 ∧ ∃ F : Nat → Option Nat, h a = some (.inl (cA (zZ p).2.1, (zZ p).2.2.1, .inr (.inr (.inr (.inr F))))) ∧ F k = some b)
def tz1 (L : Nat) : Bool := ((zZ (zpar L)).1 == 0 && (Lz (lq (zpar L))).1 == 0 && (Lz (lq (zpar L))).2.1 == (zZ (zpar L)).2.1 && decide ((Lz (lq (zpar L))).2.2.2[zslot L]? = some (2, ((lq L : Nat) : Int), 0))) || ((zZ (zpar L)).1 == 2 && (Lz (lq (zpar L))).1 == 2 && (Lz (lq (zpar L))).2.1 == (zZ (zpar L)).2.1 && (Lz (lq (zpar L))).2.2.1 == (zZ (zpar L)).2.2.1 && decide (zslot L < (Lz (lq (zpar L))).2.2.1) && decide (k_el (Lz (lq (zpar L))) (zslot L) = (2, ((lq L : Nat) : Int), 0)))
theorem tz1_ok : ∀ r, r = 0 ∨ r = 50 → ∀ L, L < 160 → inz r L = true → zdep L ≠ 0 → tz1 L = true ∧ inz r (zpar L) = true ∧ zdep (zpar L) + 1 = zdep L := by
  have h0 : ∀ L, L < 160 → inz 0 L = true → zdep L ≠ 0 → tz1 L = true ∧ inz 0 (zpar L) = true ∧ zdep (zpar L) + 1 = zdep L := by decide +kernel
  have h5 : ∀ L, L < 160 → inz 50 L = true → zdep L ≠ 0 → tz1 L = true ∧ inz 50 (zpar L) = true ∧ zdep (zpar L) + 1 = zdep L := by decide +kernel
  intro r hr
  rcases hr with rfl | rfl
  · exact h0
  · exact h5
theorem tz0_ok : ∀ r, r = 0 ∨ r = 50 → ∀ L, L < 160 → inz r L = true → zdep L ≤ 4 ∧ (zdep L = 0 → L = r) := by
  have h0 : ∀ L, L < 160 → inz 0 L = true → zdep L ≤ 4 ∧ (zdep L = 0 → L = 0) := by decide +kernel
  have h5 : ∀ L, L < 160 → inz 50 L = true → zdep L ≤ 4 ∧ (zdep L = 0 → L = 50) := by decide +kernel
  intro r hr
  rcases hr with rfl | rfl
  · exact h0
  · exact h5
section
variable {S : Nat → Option Nat} {cA : Nat → ClassId} {h : ch_H} {x r : Nat} {ad : Nat → Nat}
theorem lkz_ex {L a : Nat} (hH : k_H S cA Lz h) (ht : tz1 L = true) (s : S a = some (lq (zpar L))) : ∃ b, lkz cA h (zpar L) a (zslot L) b ∧ S b = some (lq L) := by
  obtain ⟨e, c, hc⟩ := hH a _ s
  unfold tz1 at ht
  simp only [Bool.or_eq_true, Bool.and_eq_true, decide_eq_true_eq, beq_iff_eq] at ht
  rcases ht with ⟨⟨⟨t1, t2⟩, t3⟩, t4⟩ | ⟨⟨⟨⟨⟨t1, t2⟩, t3⟩, t4⟩, t5⟩, t6⟩
  · rcases hc with ⟨-, fs, rfl, -, f3⟩ | ⟨f1, -⟩ | ⟨f1, -⟩
    · obtain ⟨v, e1, e2⟩ := f3 _ _ t4
      obtain ⟨b, rfl, sb⟩ := k_v.ref e2
      exact ⟨b, Or.inl ⟨t1, fs, by rw [← t3]; exact c, e1⟩, sb⟩
    · rw [t2] at f1
      cases f1
    · rw [t2] at f1
      cases f1
  · rcases hc with ⟨f1, -⟩ | ⟨f1, -⟩ | ⟨-, F, rfl, f3⟩
    · rw [t2] at f1
      cases f1
    · rw [t2] at f1
      cases f1
    · have e2 := f3 _ t5
      rw [t6] at e2
      obtain ⟨b, e1, sb⟩ := k_v.ref e2
      exact ⟨b, Or.inr ⟨t1, F, by rw [← t3, ← t4]; exact c, va_rf_ref e1⟩, sb⟩
theorem z_grow (hH : k_H S cA Lz h) (hr : r = 0 ∨ r = 50) (s0 : S x = some (lq r)) : ∀ d : Nat, ∃ ad : Nat → Nat, ad r = x ∧ ∀ L, inz r L = true → zdep L ≤ d → S (ad L) = some (lq L) ∧ (zdep L ≠ 0 → lkz cA h (zpar L) (ad (zpar L)) (zslot L) (ad L))
  | 0 => ⟨fun _ => x, rfl, fun L hL hd => by
    have e := (tz0_ok r hr L (inz_lt hL) hL).2 (by omega)
    subst e
    exact ⟨s0, fun z => absurd (by omega) z⟩⟩
  | d + 1 => by
    obtain ⟨ad, a0, ha⟩ := z_grow hH hr s0 d
    have hex : ∀ L, ∃ b, inz r L = true → zdep L = d + 1 → lkz cA h (zpar L) (ad (zpar L)) (zslot L) b ∧ S b = some (lq L) := fun L => by
      by_cases c : inz r L = true ∧ zdep L = d + 1
      · obtain ⟨q1, q2, q3⟩ := tz1_ok r hr L (inz_lt c.1) c.1 (by omega)
        obtain ⟨b, e1, e2⟩ := lkz_ex hH q1 (ha (zpar L) q2 (by omega)).1
        exact ⟨b, fun _ _ => ⟨e1, e2⟩⟩
      · exact ⟨0, fun z1 z2 => absurd ⟨z1, z2⟩ c⟩
    obtain ⟨f, hf⟩ := Classical.axiomOfChoice hex
    have dr : zdep r = 0 := by rcases hr with rfl | rfl <;> rfl
    refine ⟨fun L => if zdep L = d + 1 then f L else ad L, ?_, fun L hL hd => ?_⟩
    · show (if zdep r = d + 1 then f r else ad r) = x
      rw [if_neg (by omega)]
      exact a0
    · show S (if zdep L = d + 1 then f L else ad L) = _ ∧ (_ → lkz cA h _ (if zdep (zpar L) = d + 1 then f (zpar L) else ad (zpar L)) _ (if zdep L = d + 1 then f L else ad L))
      by_cases c : zdep L = d + 1
      · obtain ⟨q1, q2, q3⟩ := tz1_ok r hr L (inz_lt hL) hL (by omega)
        obtain ⟨e1, e2⟩ := hf L hL c
        rw [if_pos c, if_neg (by omega)]
        exact ⟨e2, fun _ => e1⟩
      · obtain ⟨e1, e2⟩ := ha L hL (by omega)
        rw [if_neg c]
        refine ⟨e1, fun z => ?_⟩
        obtain ⟨q1, q2, q3⟩ := tz1_ok r hr L (inz_lt hL) hL z
        rw [if_neg (by omega)]
        exact e2 z
end
def uzI (e : Option va_E) : Nat → Int32 := match e with
  | some (.inl (_, _, .inl f)) => f
  | some (.inr (_, fs)) => fun k => match fs[k]? with
    | some (.int y) => y
    | _ => 0
  | _ => fun _ => 0
def uzW (e : Option va_E) : Nat → Int64 := match e with
  | some (.inr (_, fs)) => fun k => match fs[k]? with
    | some (.long y) => y
    | _ => 0
  | _ => fun _ => 0
def uzO (e : Option va_E) : Nat → Value := match e with
  | some (.inr (_, fs)) => fun k => (fs[k]?).getD .null
  | _ => fun _ => .null
theorem uzI_o {ci : Nat} {fs : List Value} {k : Nat} {y : Int32} (h : fs[k]? = some (.int y)) : uzI (some (.inr (ci, fs))) k = y := by
  show (match fs[k]? with | some (.int y) => y | _ => 0) = y
  rw [h]
theorem uzW_o {ci : Nat} {fs : List Value} {k : Nat} {y : Int64} (h : fs[k]? = some (.long y)) : uzW (some (.inr (ci, fs))) k = y := by
  show (match fs[k]? with | some (.long y) => y | _ => 0) = y
  rw [h]
theorem uzO_o {ci : Nat} {fs : List Value} {k : Nat} {v : Value} (h : fs[k]? = some v) : uzO (some (.inr (ci, fs))) k = v := by
  show (fs[k]?).getD .null = v
  rw [h]
  rfl
/-- the two tables alike -/
def tz2 (r L : Nat) : Bool := (zZ L).1 == (Lz (lq L)).1 && (zZ L).2.1 == (Lz (lq L)).2.1 && (zZ L).2.2.1 == (Lz (lq L)).2.2.1 && ((zZ L).1 == 1 || ((zZ L).1 == 0 && decide ((zZ L).2.2.2.length = (zZ L).2.2.1) && decide ((Lz (lq L)).2.2.2.length = (zZ L).2.2.1) && (List.range (zZ L).2.2.1).all (fun k => match ((zZ L).2.2.2.getD k (9, 0, 0)).1 with
  | 0 => ((Lz (lq L)).2.2.2.getD k (9, 0, 0)).1 == 0
  | 1 => ((Lz (lq L)).2.2.2.getD k (9, 0, 0)).1 == 1
  | 2 => inz r ((zZ L).2.2.2.getD k (9, 0, 0)).2.1.toNat && zpar ((zZ L).2.2.2.getD k (9, 0, 0)).2.1.toNat == L && zslot ((zZ L).2.2.2.getD k (9, 0, 0)).2.1.toNat == k && !(zdep ((zZ L).2.2.2.getD k (9, 0, 0)).2.1.toNat == 0)
  | _ => true)))
theorem tz2_C : ∀ L, L < 160 → zNC L = true → tz2 0 L = true ∧ inz 0 L = true := by decide +kernel
theorem tz2_R : ∀ L, L < 160 → zNM L = true → tz2 50 L = true ∧ inz 50 L = true := by decide +kernel
theorem lz_inv : ∀ r, r = 0 ∨ r = 50 → ∀ L, L < 160 → inz r L = true → (List.range 160).all (fun q => !(inz r q && lq q == lq L) || q == L) = true := by
  have h0 : ∀ L, L < 160 → inz 0 L = true → (List.range 160).all (fun q => !(inz 0 q && lq q == lq L) || q == L) = true := by decide +kernel
  have h5 : ∀ L, L < 160 → inz 50 L = true → (List.range 160).all (fun q => !(inz 50 q && lq q == lq L) || q == L) = true := by decide +kernel
  intro r hr
  rcases hr with rfl | rfl
  · exact h0
  · exact h5
section
variable {S : Nat → Option Nat} {cA : Nat → ClassId} {h : ch_H} {x r : Nat} {ad : Nat → Nat} {N : Nat → Bool}
theorem zr_first (hH : k_H S cA Lz h) (hr : r = 0 ∨ r = 50) (hN : ∀ L, N L = true → tz2 r L = true ∧ inz r L = true) (ha : ∀ L, inz r L = true → S (ad L) = some (lq L) ∧ (zdep L ≠ 0 → lkz cA h (zpar L) (ad (zpar L)) (zslot L) (ad L))) : zr N cA ad (fun L => uzI (h (ad L))) (fun L => uzW (h (ad L))) (fun L => uzO (h (ad L))) h := by
  refine ⟨fun L hL => ?_, fun L L1 hL hL1 e => ?_⟩
  · obtain ⟨t2, iz⟩ := hN L hL
    obtain ⟨e, c, hc⟩ := hH (ad L) _ (ha L iz).1
    unfold tz2 at t2
    simp only [Bool.or_eq_true, Bool.and_eq_true, decide_eq_true_eq, beq_iff_eq] at t2
    obtain ⟨⟨⟨k1, k2⟩, k3⟩, k4⟩ := t2
    dsimp only
    unfold z_e
    rcases k4 with k4 | ⟨⟨⟨k4, k5⟩, k6⟩, k7⟩
    · rcases hc with ⟨f1, -⟩ | ⟨-, f, rfl, -⟩ | ⟨f1, -⟩
      · rw [← k1, k4] at f1
        cases f1
      · rw [c, k4, k2, k3]
        rfl
      · rw [← k1, k4] at f1
        cases f1
    · rcases hc with ⟨-, fs, rfl, f2, f3⟩ | ⟨f1, -⟩ | ⟨f1, -⟩
      · rw [c, k4, k2]
        show some (Sum.inr (_, fs)) = some (Sum.inr (_, z_fs ad (uzI (some (.inr (_, fs)))) (uzW (some (.inr (_, fs)))) (uzO (some (.inr (_, fs)))) 0 (zZ L).2.2.2))
        congr 3
        refine List.ext_getElem? (fun k => ?_)
        by_cases hk : k < (zZ L).2.2.1
        · obtain ⟨tz, ez⟩ : ∃ t, (zZ L).2.2.2[k]? = some t := ⟨_, List.getElem?_eq_getElem (by omega)⟩
          obtain ⟨tl, el⟩ : ∃ t, (Lz (lq L)).2.2.2[k]? = some t := ⟨_, List.getElem?_eq_getElem (by omega)⟩
          have q7 := List.all_eq_true.mp k7 k (List.mem_range.mpr hk)
          have gz : (zZ L).2.2.2.getD k (9, 0, 0) = tz := by rw [List.getD_eq_getElem?_getD, ez]; rfl
          have gl : (Lz (lq L)).2.2.2.getD k (9, 0, 0) = tl := by rw [List.getD_eq_getElem?_getD, el]; rfl
          rw [gz, gl] at q7
          obtain ⟨v, v1, v2⟩ := f3 k tl el
          rw [z_fs_get _ 0 k tz ez, v1, Nat.zero_add]
          congr 1
          obtain ⟨kz, az, bz⟩ := tz
          obtain ⟨kl, al, bl⟩ := tl
          unfold z_v
          match kz, q7 with
          | 0, q7 =>
            have q7 : kl = 0 := by simpa using q7
            subst q7
            obtain ⟨y, rfl, -⟩ := k_v.int v2
            show Value.int y = Value.int (uzI _ k)
            rw [uzI_o v1]
          | 1, q7 =>
            have q7 : kl = 1 := by simpa using q7
            subst q7
            obtain ⟨y, rfl⟩ : ∃ y : Int64, v = .long y := v2
            show Value.long y = Value.long (uzW _ k)
            rw [uzW_o v1]
          | 2, q7 =>
            dsimp only at q7
            simp only [Bool.and_eq_true, beq_iff_eq, Bool.not_eq_true', beq_eq_false_iff_ne] at q7
            obtain ⟨⟨⟨p1, p2⟩, p3⟩, p4⟩ := q7
            have lk := (ha az.toNat p1).2 p4
            rw [p2, p3] at lk
            rcases lk with ⟨-, fs2, d1, d2⟩ | ⟨z, -⟩
            · rw [c] at d1
              have d3 := (Prod.mk.inj (Sum.inr.inj (Option.some.inj d1))).2
              rw [← d3, v1] at d2
              exact Option.some.inj d2
            · rw [k4] at z
              cases z
          | n + 3, q7 =>
            show v = uzO _ k
            rw [uzO_o v1]
        · rw [List.getElem?_eq_none (by omega), List.getElem?_eq_none (by rw [z_fs_len]; omega)]
      · rw [← k1, k4] at f1
        cases f1
      · rw [← k1, k4] at f1
        cases f1
  · have iz := (hN L hL).2
    have iz1 := (hN L1 hL1).2
    have s := (ha L iz).1
    rw [e, (ha L1 iz1).1] at s
    have q := List.all_eq_true.mp (lz_inv r hr L (inz_lt iz) iz) L1 (List.mem_range.mpr (inz_lt iz1))
    simp only [Bool.or_eq_true, Bool.not_eq_true', Bool.and_eq_false_iff, beq_eq_false_iff_ne, beq_iff_eq] at q
    rcases q with (q | q) | q
    · rw [iz1] at q
      cases q
    · exact absurd (Option.some.inj s) q
    · exact q.symm
/-- bounds, by the types -/
theorem fz_arr {I : zI} {W : zW} {O : zO} {L l t n : Nat} {ts us : List k_T} (hz : zr N cA ad I W O h) (hL : N L = true) (hZ : zZ L = (1, t, n, ts)) (s : S (ad L) = some l) (hH : k_H S cA Lz h) (hB : Lz l = (1, t, n, us)) : ∀ i, i < n → (k_el (1, t, n, us) i).2.1 ≤ (I L i).toInt ∧ (I L i).toInt ≤ (k_el (1, t, n, us) i).2.2 := by
  obtain ⟨f, c, hb⟩ := hH.arr s hB
  have c2 := hz.ar hL hZ rfl
  rw [c] at c2
  have e : f = I L := Sum.inl.inj (Prod.mk.inj (Prod.mk.inj (Sum.inl.inj (Option.some.inj c2))).2).2
  rw [← e]
  exact hb
theorem fz_fld {I : zI} {W : zW} {O : zO} {L l ci n k : Nat} {ts us : List k_T} {a b : Int} {t : k_T} (hz : zr N cA ad I W O h) (hL : N L = true) (hZ : zZ L = (0, ci, n, ts)) (s : S (ad L) = some l) (hH : k_H S cA Lz h) (hB : Lz l = (0, ci, n, us)) (hu : us[k]? = some (0, a, b)) (ht : ts[k]? = some t) (h0 : t.1 = 0) : a ≤ (I L k).toInt ∧ (I L k).toInt ≤ b := by
  obtain ⟨fs, c, -, ty⟩ := hH.obj s hB
  have c2 := hz.ob hL hZ
  rw [c] at c2
  cases c2
  obtain ⟨v, e1, e2⟩ := ty k _ hu
  rw [z_fsI ht h0] at e1
  cases e1
  obtain ⟨y, e3, y1, y2⟩ := k_v.int e2
  cases e3
  exact ⟨y1, y2⟩
theorem fz_zero {I : zI} {W : zW} {O : zO} {L l t n : Nat} {ts : List k_T} (hz : zr N cA ad I W O h) (hL : N L = true) (hZ : zZ L = (1, t, n, ts)) (s : S (ad L) = some l) (hH : k_H S cA Lz h) (hB : Lz l = (1, t, n, [(0, 0, 0)])) : ∀ i, i < n → I L i = 0 := fun i hi => by
  have q := fz_arr hz hL hZ s hH hB i hi
  have q : (0 : Int) ≤ (I L i).toInt ∧ (I L i).toInt ≤ (0 : Int) := q
  refine (kn_eq _ _).mpr ?_
  show (I L i).toInt = 0
  omega
theorem fz_f0 {I : zI} {W : zW} {O : zO} {L l ci n k : Nat} {ts us : List k_T} {t : k_T} (hz : zr N cA ad I W O h) (hL : N L = true) (hZ : zZ L = (0, ci, n, ts)) (s : S (ad L) = some l) (hH : k_H S cA Lz h) (hB : Lz l = (0, ci, n, us)) (hu : us[k]? = some (0, 0, 0)) (ht : ts[k]? = some t) (h0 : t.1 = 0) : I L k = 0 := by
  have q := fz_fld hz hL hZ s hH hB hu ht h0
  refine (kn_eq _ _).mpr ?_
  show (I L k).toInt = 0
  omega
/-- what a TOWN shows at first -/
def φ0 : zP := (fun _ _ => 0, fun _ => 0, fun _ _ => 0, fun _ _ => 0)
theorem kok_0 : kok (0, 0, 0, 0) φ0 := by
  refine ⟨⟨by decide, fun q hq => absurd hq (Nat.not_lt_zero q)⟩, ⟨fun q hq => absurd hq (Nat.not_lt_zero q), fun q hq => absurd hq (Nat.not_lt_zero q), fun q hq => absurd hq (Nat.not_lt_zero q), fun k _ => ?_, fun i hi => absurd hi (Nat.not_lt_zero i)⟩, fun i _ => ?_, ⟨by decide, by decide, by decide⟩, fun a _ => rfl, Or.inl rfl, fun i hi => absurd hi (Nat.not_lt_zero i), fun r _ => ?_⟩
  · show (0 : Int) ≤ 0 ∧ (0 : Int) ≤ 99
    decide
  · show (0 : Int) ≤ 0 ∧ (0 : Int) ≤ 9
    decide
  · show ((-1 : Int) ≤ 0 ∧ (0 : Int) ≤ 200) ∧ (-1 : Int) ≤ 0 ∧ (0 : Int) ≤ 200
    decide
theorem FC_first (hH : k_H S cA Lz h) (sx : S x = some 0) (PX : ∃ xs b fs, h x = some (.inr (9, xs)) ∧ xs[3]? = some (.ref b) ∧ h b = some (.inr (6, fs)) ∧ fs[6]? = some (.long 0)) : FC cA h x (0, 0, 0, 0) φ0 := by
  obtain ⟨ad, a0, ha⟩ := z_grow (r := 0) hH (Or.inl rfl) sx 4
  have ha : ∀ L, inz 0 L = true → S (ad L) = some (lq L) ∧ (zdep L ≠ 0 → lkz cA h (zpar L) (ad (zpar L)) (zslot L) (ad L)) := fun L hL => ha L hL (tz0_ok 0 (Or.inl rfl) L (inz_lt hL) hL).1
  have hz := zr_first (N := zNC) hH (Or.inl rfl) (fun L hL => tz2_C L (zNC_lt hL) hL) ha
  obtain ⟨I, eI⟩ : ∃ I : zI, I = fun L => uzI (h (ad L)) := ⟨_, rfl⟩
  obtain ⟨W, eW⟩ : ∃ W : zW, W = fun L => uzW (h (ad L)) := ⟨_, rfl⟩
  obtain ⟨O, eO⟩ : ∃ O : zO, O = fun L => uzO (h (ad L)) := ⟨_, rfl⟩
  rw [← eI, ← eW, ← eO] at hz
  have sl : ∀ L, inz 0 L = true → S (ad L) = some (lq L) := fun L hL => (ha L hL).1
  have f0 : ∀ {L k n ci : Nat} {ts us : List k_T} {t : k_T}, zNC L = true → inz 0 L = true → zZ L = (0, ci, n, ts) → Lz (lq L) = (0, ci, n, us) → us[k]? = some (0, 0, 0) → ts[k]? = some t → t.1 = 0 → I L k = 0 := fun n1 n2 hZ hB hu ht h0 => fz_f0 hz n1 hZ (sl _ n2) hH hB hu ht h0
  have i20 : I 2 0 = 0 := f0 (L := 2) (k := 0) rfl rfl rfl rfl rfl rfl rfl
  have i30 : I 3 0 = 0 := f0 (L := 3) (k := 0) rfl rfl rfl rfl rfl rfl rfl
  have i33 : I 3 3 = 0 := f0 (L := 3) (k := 3) rfl rfl rfl rfl rfl rfl rfl
  have i35 : I 3 5 = 0 := f0 (L := 3) (k := 5) rfl rfl rfl rfl rfl rfl rfl
  have i100 : I 100 5 = 0 := f0 (L := 100) (k := 5) rfl rfl rfl rfl rfl rfl rfl
  have i06 : I 0 6 = 0 := f0 (L := 0) (k := 6) rfl rfl rfl rfl rfl rfl rfl
  have i014 : I 0 14 = 0 := f0 (L := 0) (k := 14) rfl rfl rfl rfl rfl rfl rfl
  have z104 : ∀ i, i < 12 → I 104 i = 0 := fz_zero (L := 104) hz rfl rfl (sl 104 rfl) hH rfl
  have z103 : ∀ i, i < 6 → I 103 i = 0 := fz_zero (L := 103) hz rfl rfl (sl 103 rfl) hH rfl
  have z21 : ∀ i, i < 18 → I 21 i = 0 := fz_zero (L := 21) hz rfl rfl (sl 21 rfl) hH rfl
  have z5 : ∀ i, i < 12 → I 5 i = 0 := fz_zero (L := 5) hz rfl rfl (sl 5 rfl) hH rfl
  have z6 : ∀ i, i < 12 → I 6 i = 0 := fz_zero (L := 6) hz rfl rfl (sl 6 rfl) hH rfl
  have w100 : W 100 6 = 0 := by
    obtain ⟨xs, b, fs, p1, p2, p3, p4⟩ := PX
    have c0 := hz.ob (L := 0) rfl rfl
    rw [a0, p1] at c0
    cases c0
    rw [z_fsR (k := 3) (L1 := 100) rfl rfl rfl] at p2
    cases p2
    have c1 := hz.ob (L := 100) rfl rfl
    rw [p3] at c1
    cases c1
    rw [z_fs_get _ 0 6 (1, 0, 0) rfl] at p4
    have p4 : some (Value.long (W 100 6)) = some (Value.long 0) := p4
    exact Value.long.inj (Option.some.inj p4)
  refine ⟨kok_0, ad, I, W, O, hz, a0, ⟨⟨by rw [i20]; rfl, ⟨by decide, fun q hq => absurd hq (Nat.not_lt_zero q)⟩, fun q hq => absurd hq (Nat.not_lt_zero q)⟩, ⟨by rw [i30]; rfl, by rw [i33]; rfl, by rw [i35]; rfl⟩, ⟨fun q hq => absurd hq (Nat.not_lt_zero q), fun q hq => z104 q hq, fun q hq => absurd hq (Nat.not_lt_zero q), i100, w100, fun q hq => ?_⟩, fun q hq => absurd hq (Nat.not_lt_zero q), fun a b ha9 hb9 => ?_, fun q hq => absurd hq (Nat.not_lt_zero q), fun q hq => absurd hq (Nat.not_lt_zero q), fun r hr => ⟨z5 r hr, z6 r hr⟩, by rw [i06]; rfl, fun z => absurd (show (0 : Int) = 1 from z) (by decide), i014⟩, ?_, ?_⟩
  · show 0 ≤ (I 103 q).toInt ∧ (I 103 q).toInt ≤ 1
    rw [z103 q hq]
    decide
  · rw [z21 a ha9]
    exact (bt9_0 hb9).trans rfl
  · obtain ⟨e, c, hc⟩ := hH (ad 32) 42 (sl 32 rfl)
    rcases hc with ⟨q, -⟩ | ⟨q, -⟩ | ⟨-, F, rfl, -⟩
    · cases q
    · cases q
    · refine ⟨F, c, fun i hi => ?_⟩
      have key : ∀ i, i < 6 → inz 0 (43 + i) = true ∧ zdep (43 + i) ≠ 0 ∧ zpar (43 + i) = 32 ∧ zslot (43 + i) = i := by decide +kernel
      obtain ⟨d1, d2, d3, d4⟩ := key i hi
      have lk := (ha (43 + i) d1).2 d2
      rw [d3, d4] at lk
      rcases lk with ⟨z, -⟩ | ⟨-, F2, g1, g2⟩
      · cases z
      · rw [c] at g1
        have e9 : F = F2 := Sum.inr.inj (Sum.inr.inj (Sum.inr.inj (Sum.inr.inj (Prod.mk.inj (Prod.mk.inj (Sum.inl.inj (Option.some.inj g1))).2).2)))
        rw [e9]
        exact g2
  · obtain ⟨e, c, hc⟩ := hH (ad 49) 45 (sl 49 rfl)
    rcases hc with ⟨q, -⟩ | ⟨q, -⟩ | ⟨-, F, rfl, -⟩
    · cases q
    · cases q
    · refine ⟨F, c, fun i hi => ?_⟩
      have key : ∀ i, i < 7 → inz 0 (100 + 6 * (i + 3)) = true ∧ zdep (100 + 6 * (i + 3)) ≠ 0 ∧ zpar (100 + 6 * (i + 3)) = 49 ∧ zslot (100 + 6 * (i + 3)) = i := by decide +kernel
      obtain ⟨d1, d2, d3, d4⟩ := key i hi
      have lk := (ha _ d1).2 d2
      rw [d3, d4] at lk
      rcases lk with ⟨z, -⟩ | ⟨-, F2, g1, g2⟩
      · cases z
      · rw [c] at g1
        have e9 : F = F2 := Sum.inr.inj (Sum.inr.inj (Sum.inr.inj (Sum.inr.inj (Prod.mk.inj (Prod.mk.inj (Sum.inl.inj (Option.some.inj g1))).2).2)))
        rw [e9]
        exact g2
theorem FR_first {m : Nat} (hH : k_H S cA Lz h) (sm : S m = some 70) (PM : ∃ fs, h m = some (.inr (10, fs)) ∧ fs[36]? = some (.long 0)) : FR cA h m (0, 0, 0, 0) φ0 := by
  obtain ⟨ad, a0, ha⟩ := z_grow (r := 50) hH (Or.inr rfl) sm 4
  have ha : ∀ L, inz 50 L = true → S (ad L) = some (lq L) ∧ (zdep L ≠ 0 → lkz cA h (zpar L) (ad (zpar L)) (zslot L) (ad L)) := fun L hL => ha L hL (tz0_ok 50 (Or.inr rfl) L (inz_lt hL) hL).1
  have hz := zr_first (N := zNM) hH (Or.inr rfl) (fun L hL => tz2_R L (by unfold zNM at hL; simp only [Bool.and_eq_true, decide_eq_true_eq] at hL; omega) hL) ha
  obtain ⟨I, eI⟩ : ∃ I : zI, I = fun L => uzI (h (ad L)) := ⟨_, rfl⟩
  obtain ⟨W, eW⟩ : ∃ W : zW, W = fun L => uzW (h (ad L)) := ⟨_, rfl⟩
  obtain ⟨O, eO⟩ : ∃ O : zO, O = fun L => uzO (h (ad L)) := ⟨_, rfl⟩
  rw [← eI, ← eW, ← eO] at hz
  have sl : ∀ L, inz 50 L = true → S (ad L) = some (lq L) := fun L hL => (ha L hL).1
  have f0 : ∀ {k : Nat} {us : List k_T} {t : k_T}, Lz 70 = (0, 10, 47, us) → us[k]? = some (0, 0, 0) → (zZ 50).2.2.2[k]? = some t → t.1 = 0 → I 50 k = 0 := fun hB hu ht h0 => fz_f0 (L := 50) hz rfl rfl (sl 50 rfl) hH hB hu ht h0
  have i20 : I 50 20 = 0 := f0 (k := 20) rfl rfl rfl rfl
  have i32 : I 50 32 = 0 := f0 (k := 32) rfl rfl rfl rfl
  have i33 : I 50 33 = 0 := f0 (k := 33) rfl rfl rfl rfl
  have i34 : I 50 34 = 0 := f0 (k := 34) rfl rfl rfl rfl
  have i39 : I 50 39 = 0 := f0 (k := 39) rfl rfl rfl rfl
  have i7 : I 50 7 = 0 := f0 (k := 7) rfl rfl rfl rfl
  have z56 : ∀ i, i < 39 → I 56 i = 0 := fz_zero (L := 56) hz rfl rfl (sl 56 rfl) hH rfl
  have z65 : ∀ i, i < 324 → I 65 i = 0 := fz_zero (L := 65) hz rfl rfl (sl 65 rfl) hH rfl
  have z60 : ∀ i, i < 12 → I 60 i = 0 := fz_zero (L := 60) hz rfl rfl (sl 60 rfl) hH rfl
  have z61 : ∀ i, i < 12 → I 61 i = 0 := fz_zero (L := 61) hz rfl rfl (sl 61 rfl) hH rfl
  have w36 : W 50 36 = 0 := by
    obtain ⟨fs, p1, p2⟩ := PM
    have c0 := hz.ob (L := 50) rfl rfl
    rw [a0, p1] at c0
    cases c0
    rw [z_fs_get _ 0 36 (1, 0, 0) rfl] at p2
    have p2 : some (Value.long (W 50 36)) = some (Value.long 0) := p2
    exact Value.long.inj (Option.some.inj p2)
  refine ⟨kok_0, ad, I, W, O, hz, a0, ⟨by rw [i20]; rfl, ⟨by decide, fun q hq => absurd hq (Nat.not_lt_zero q)⟩, fun q hq => absurd hq (Nat.not_lt_zero q)⟩, ⟨by rw [i32]; rfl, by rw [i33]; rfl, by rw [i34]; rfl⟩, ⟨⟨fun q hq => absurd hq (Nat.not_lt_zero q), fun q hq => z56 _ (by omega), fun q hq => absurd hq (Nat.not_lt_zero q), z56 38 (by decide)⟩, w36⟩, fun q hq => absurd hq (Nat.not_lt_zero q), fun a b h1 h2 => ⟨z65 _ (by omega), (by show (0 : Int) ≤ 0; decide), (by show (0 : Int) ≤ 1; decide)⟩, fun q hq => absurd hq (Nat.not_lt_zero q), fun q hq => absurd hq (Nat.not_lt_zero q), fun r hr => ⟨z60 r hr, z61 r hr⟩, by rw [i39]; rfl, fun z => absurd (show (0 : Int) = 1 from z) (by decide), i7⟩
theorem RC_first (hH : k_H S cA Lz h) (sx : S x = some 0) : RC cA h x (p9 φ0) := by
  obtain ⟨xs, c_x, -, ty⟩ := hH.obj sx (L := 0) rfl
  obtain ⟨v12, f12, t12⟩ := ty 12 _ rfl
  obtain ⟨ra, rfl, s_ra⟩ := k_v.ref t12
  obtain ⟨v13, f13, t13⟩ := ty 13 _ rfl
  obtain ⟨sp, rfl, s_sp⟩ := k_v.ref t13
  obtain ⟨v14, f14, t14⟩ := ty 14 _ rfl
  obtain ⟨rc, rfl, r1, r2⟩ := k_v.int t14
  have r1 : (0 : Int) ≤ rc.toInt := r1
  have r2 : rc.toInt ≤ (0 : Int) := r2
  obtain ⟨e, c_ra, hc⟩ := hH ra 34 s_ra
  rcases hc with ⟨q, -⟩ | ⟨q, -⟩ | ⟨-, F, rfl, -⟩
  · cases q
  · cases q
  · obtain ⟨ksp, s9, -, -, hru⟩ := T_ru hH.plain (sgp_of s_sp (by decide))
    have hru : ∃ s, ru cA h sp ksp s := ⟨s9, hru⟩
    exact ⟨xs, ra, sp, ksp, F, rc, c_x, f12, f13, f14, by show rc.toInt = 0; omega, by decide, c_ra, hru, fun i hi => absurd hi (Nat.not_lt_zero i)⟩
theorem RR_first {m : Nat} (hH : k_H S cA Lz h) (sm : S m = some 70) : RR cA h m (p9 φ0) := by
  obtain ⟨fs, c_m, -, ty⟩ := hH.obj sm (L := 70) rfl
  obtain ⟨v2, f2, t2⟩ := ty 2 _ rfl
  obtain ⟨te, rfl, s_te⟩ := k_v.ref t2
  obtain ⟨v3, f3, t3⟩ := ty 3 _ rfl
  obtain ⟨tl, rfl, s_tl⟩ := k_v.ref t3
  obtain ⟨v7, f7, t7⟩ := ty 7 _ rfl
  obtain ⟨rc, rfl, r1, r2⟩ := k_v.int t7
  have r1 : (0 : Int) ≤ rc.toInt := r1
  have r2 : rc.toInt ≤ (0 : Int) := r2
  obtain ⟨gt, c_te, -⟩ := hH.arr s_te (L := 52) rfl
  obtain ⟨gz, c_tl, -⟩ := hH.arr s_tl (L := 53) rfl
  exact ⟨fs, te, tl, gt, gz, rc, c_m, f2, f3, f7, by show rc.toInt = 0; omega, by decide, c_te, c_tl, fun i hi => absurd hi (Nat.not_lt_zero i)⟩
end
