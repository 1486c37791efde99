/-! the class's TOWN: reading it -/
def sp_bit (c : Int) : Nat := if c = 107 then 1 else if c = 108 then 2 else if c = 120 then 4 else if c = 97 then 8 else if c = 98 then 16 else if c = 104 then 32 else if c = 115 then 64 else if c = 114 then 128 else if c = 117 then 256 else 0
theorem sp_bit_b (c : Int) : sp_bit c = 0 ∨ ∃ k, k < 9 ∧ sp_bit c = 2 ^ k := by
  unfold sp_bit
  split; exact Or.inr ⟨0, by decide, rfl⟩
  split; exact Or.inr ⟨1, by decide, rfl⟩
  split; exact Or.inr ⟨2, by decide, rfl⟩
  split; exact Or.inr ⟨3, by decide, rfl⟩
  split; exact Or.inr ⟨4, by decide, rfl⟩
  split; exact Or.inr ⟨5, by decide, rfl⟩
  split; exact Or.inr ⟨6, by decide, rfl⟩
  split; exact Or.inr ⟨7, by decide, rfl⟩
  split; exact Or.inr ⟨8, by decide, rfl⟩
  exact Or.inl rfl
def sp_pc (t : Nat) : Nat := t % 2 + t / 2 % 2 + t / 4 % 2 + t / 8 % 2 + t / 16 % 2 + t / 32 % 2 + t / 64 % 2 + t / 128 % 2 + t / 256 % 2
theorem sp_told0 : ∀ t, t < 512 → ∀ k, k < 9 → ((Int32.ofNat t &&& Int32.ofNat (2 ^ k)).toInt = 0 ↔ ¬ t / 2 ^ k % 2 = 1) ∧ (¬ t / 2 ^ k % 2 = 1 → (Int32.ofNat t ||| Int32.ofNat (2 ^ k)).toInt = (t : Int) + (2 ^ k : Nat) ∧ t + 2 ^ k < 512 ∧ sp_pc (t + 2 ^ k) = sp_pc t + 1) ∧ (((Int32.ofNat t >>> (Int32.ofNat k &&& 31)) &&& 1).toInt = 1 ↔ t / 2 ^ k % 2 = 1) ∧ ((Int32.ofNat 1 <<< (Int32.ofNat k &&& 31))).toInt = (2 ^ k : Nat) := by decide +kernel
theorem kn_nat {x : Int32} {n : Nat} (h : x.toInt = (n : Int)) : x = Int32.ofNat n := by
  have h1 : x = Int32.ofInt x.toInt := (fb_asI x).symm
  rw [h1, h]
  rfl
theorem sp_told_c {told bit : Int32} {t : Nat} {c : Int} (ht : told.toInt = (t : Int)) (h5 : t < 512) (hb : bit.toInt = (sp_bit c : Int)) (h0 : ¬ bit.toInt = 0) : (∀ v, v = told &&& bit → (v.toInt = 0 ↔ ¬ t / sp_bit c % 2 = 1)) ∧ (¬ t / sp_bit c % 2 = 1 → (∀ v, v = told ||| bit → v.toInt = (t : Int) + (sp_bit c : Int)) ∧ t + sp_bit c < 512 ∧ sp_pc (t + sp_bit c) = sp_pc t + 1) := by
  rcases sp_bit_b c with e | ⟨k, hk, e⟩
  · rw [e] at hb
    exact absurd hb h0
  · have z := sp_told0 t h5 k hk
    have e1 := kn_nat ht
    have e2 := kn_nat hb
    rw [e] at e2 ⊢
    subst e1 e2
    exact ⟨fun v hv => by rw [hv]; exact z.1, fun h9 => ⟨fun v hv => by rw [hv]; exact (z.2.1 h9).1, (z.2.1 h9).2⟩⟩
def sp_ok (p L X c v : Int) : Prop := (c = 107 → v ≤ 2) ∧ (c = 108 → 2 ≤ v ∧ v ≤ 20 ∧ X ≤ v) ∧ (c = 120 → v ≤ L) ∧ (c = 97 ∨ c = 98 → 1 ≤ v ∧ v ≤ 99) ∧ (c = 104 → v ≤ 99) ∧ (c = 115 → v ≤ 100) ∧ (c = 114 → v ≤ 9) ∧ (c = 117 → v ≤ 2 * p - 1)
def sp_ltr (c : Int) : Prop := c = 107 ∨ c = 108 ∨ c = 120 ∨ c = 97 ∨ c = 98 ∨ c = 104 ∨ c = 115 ∨ c = 114 ∨ c = 117
theorem sp_bit_l {c : Int} (h : ¬ sp_bit c = 0) : sp_ltr c := by
  unfold sp_bit at h
  unfold sp_ltr
  repeat (split at h; · omega)
  exact absurd rfl h
theorem sp_bit_nz {c : Int} (h : ¬ sp_bit c = 0) : ¬ c = 0 := fun e => h (by rw [e]; rfl)
theorem sp_ok_x {p L X c v : Int} (h : sp_ok p L X c v) (hc : c = 120) : v ≤ L := by
  obtain ⟨_, _, h3, _⟩ := h
  exact h3 hc
noncomputable def sp_rn (f : Nat → Int32) (len : Nat) (p L X c : Int) (n : Nat) : Nat ⊕ Nat := sp_bd (sp_num f len 3 n).1 (fun q => haveI : Decidable (sp_ok p L X c (sp_num f len 3 n).2) := Classical.propDecidable _; if sp_ok p L X c (sp_num f len 3 n).2 then .inr q else .inl (q - 1))
abbrev sp_odd (K L X : Int) : Prop := K = 1 ∧ (L % 2 = 1 ∨ X % 2 = 1)
def sp_re (f : Nat → Int32) (len : Nat) (G : Nat → Nat → Int → Int → Int → Nat ⊕ Nat) (m t : Nat) (K L X : Int) : Nat ⊕ Nat := if sp_sg f len m = 44 then G (m + 1) t K L X else if (¬ sp_sg f len m = 59 ∧ ¬ sp_sg f len m = 0) ∨ sp_odd K L X then .inl m else .inr m
def sp_kv (c0 c v K : Int) : Int := if c = c0 then v else K
noncomputable def sp_rq (f : Nat → Int32) (len : Nat) (p : Int) (G : Nat → Nat → Int → Int → Int → Nat ⊕ Nat) (m : Nat) (c : Int) (t : Nat) (K L X : Int) : Nat ⊕ Nat :=
  if sp_bit c = 0 ∨ t / sp_bit c % 2 = 1 ∨ c = 117 ∧ p = 0 then .inl m
  else sp_bd (sp_rn f len p L X c (m + 1)) (fun q => sp_re f len G (sp_sk f len q) (t + sp_bit c) (sp_kv 107 c (sp_num f len 3 (m + 1)).2 K) (sp_kv 108 c (sp_num f len 3 (m + 1)).2 L) (sp_kv 120 c (sp_num f len 3 (m + 1)).2 X))
/-- a ROPE's text from place n on: told letters, KIND, LONG, X so far -/
noncomputable def sp_rp (f : Nat → Int32) (len : Nat) (p : Int) : Nat → Nat → Nat → Int → Int → Int → Nat ⊕ Nat
  | 0, n, _, _, _, _ => .inl n
  | j + 1, n, t, K, L, X => sp_rq f len p (sp_rp f len p j) (sp_sk f len n) (sp_sg f len (sp_sk f len n)) t K L X
/-- a TOWN's text from the ROPE p at place n on; and how many ROPES -/
noncomputable def sp_tn (f : Nat → Int32) (len : Nat) : Nat → Nat → Nat → (Nat ⊕ Nat) × Nat
  | 0, p, n => (.inl n, p)
  | j + 1, p, n => match sp_rp f len p 10 n 0 0 10 0 with
    | .inl e => (.inl e, p + 1)
    | .inr q => if sp_sg f len (sp_sk f len q) = 0 then (.inr (sp_sk f len q), p + 1) else if p = 5 then (.inl (sp_sk f len q), p + 1) else sp_tn f len j (p + 1) (sp_sk f len q + 1)
noncomputable def sp_town (f : Nat → Int32) (len : Nat) : (Nat ⊕ Nat) × Nat := sp_tn f len 6 0 0
theorem sp_sk_le (f : Nat → Int32) (len n : Nat) : n ≤ sp_sk f len n := by
  generalize e : len - n = k
  induction k using Nat.strongRecOn generalizing n with
  | ind k ih =>
    rw [sp_sk]
    split
    · have := ih (len - (n + 1)) (by omega) (n + 1) rfl
      omega
    · exact Nat.le_refl _
theorem sp_nd_le (f : Nat → Int32) (len : Nat) : ∀ (d n : Nat) (v : Int), n ≤ (sp_nd f len d n v).1
  | 0, n, v => Nat.le_refl _
  | d + 1, n, v => by
    rw [sp_nd]
    split
    · have := sp_nd_le f len d (n + 1) (10 * v + ((f n).toInt - 48))
      omega
    · exact Nat.le_refl _
theorem sp_num_lt {f : Nat → Int32} {len d n q : Nat} (h : (sp_num f len (d + 1) n).1 = .inr q) : n < q := by
  unfold sp_num at h
  split at h
  · next h1 =>
    split at h
    · cases h
    · have e : (sp_nd f len (d + 1) (sp_sk f len n) 0).1 = q := by injection h
      rw [sp_nd, if_pos h1] at e
      have h2 := sp_nd_le f len d (sp_sk f len n + 1) (10 * 0 + ((f (sp_sk f len n)).toInt - 48))
      have h3 := sp_sk_le f len n
      omega
  · cases h
theorem sp_nd_nn (f : Nat → Int32) (len : Nat) : ∀ (d n : Nat) (v : Int), 0 ≤ v → 0 ≤ (sp_nd f len d n v).2
  | 0, n, v, h => h
  | d + 1, n, v, h => by
    rw [sp_nd]
    split
    · exact sp_nd_nn f len d _ _ (by omega)
    · exact h
theorem sp_num_nn (f : Nat → Int32) (len d n : Nat) : 0 ≤ (sp_num f len d n).2 := by
  unfold sp_num
  split
  · split
    · exact sp_nd_nn f len d _ _ (by decide)
    · exact sp_nd_nn f len d _ _ (by decide)
  · exact Int.le_refl _
theorem sp_is.inl {r : Nat ⊕ Nat} {a fl0 : Int32} (h : sp_is r a fl0) (h1 : ¬ fl0.toInt = -1) : ∃ e, r = .inl e ∧ fl0.toInt = e := by
  cases r with
  | inl e => exact ⟨e, rfl, h⟩
  | inr q => exact absurd h.1 h1
theorem sp_is.inr {r : Nat ⊕ Nat} {a fl0 : Int32} (h : sp_is r a fl0) (h1 : fl0.toInt = -1) : ∃ q, r = .inr q ∧ a.toInt = q := by
  cases r with
  | inl e => have h : fl0.toInt = e := h; omega
  | inr q => exact ⟨q, rfl, h.2⟩
section
variable {f : Nat → Int32} {len : Nat} {p : Int} {j n t : Nat} {K L X : Int}
theorem sp_rp_bad {m : Nat} {c : Int} (hm : m = sp_sk f len n) (hc : c = sp_sg f len (sp_sk f len n)) (hb : sp_bit c = 0 ∨ t / sp_bit c % 2 = 1 ∨ c = 117 ∧ p = 0) : sp_rp f len p (j + 1) n t K L X = .inl m := by
  subst hm hc
  rw [sp_rp, sp_rq, if_pos hb]
theorem sp_rp_num {m e : Nat} {c : Int} (hm : m = sp_sk f len n) (hc : c = sp_sg f len (sp_sk f len n)) (hb : ¬ (sp_bit c = 0 ∨ t / sp_bit c % 2 = 1 ∨ c = 117 ∧ p = 0)) (h : sp_rn f len p L X c (m + 1) = .inl e) : sp_rp f len p (j + 1) n t K L X = .inl e := by
  subst hm hc
  rw [sp_rp, sp_rq, if_neg hb, h]
  rfl
theorem sp_rp_go {m q : Nat} {c K1 L1 X1 : Int} (hm : m = sp_sk f len n) (hc : c = sp_sg f len (sp_sk f len n)) (hb : ¬ (sp_bit c = 0 ∨ t / sp_bit c % 2 = 1 ∨ c = 117 ∧ p = 0)) (h : sp_rn f len p L X c (m + 1) = .inr q) (hK : K1 = sp_kv 107 c (sp_num f len 3 (m + 1)).2 K) (hL : L1 = sp_kv 108 c (sp_num f len 3 (m + 1)).2 L) (hX : X1 = sp_kv 120 c (sp_num f len 3 (m + 1)).2 X) : sp_rp f len p (j + 1) n t K L X = sp_re f len (sp_rp f len p j) (sp_sk f len q) (t + sp_bit c) K1 L1 X1 := by
  subst hm hc hK hL hX
  rw [sp_rp, sp_rq, if_neg hb, h]
  rfl
end
def pns (sg : Nat → Nat) (t b P a1 a2 a3 a4 a5 a6 a7 a8 : Nat) : Prop := sg t = 3 ∧ sg b = 1 ∧ sg P = 2 ∧ sg a1 = 11 ∧ sg a2 = 12 ∧ sg a3 = 13 ∧ sg a4 = 14 ∧ sg a5 = 15 ∧ sg a6 = 16 ∧ sg a7 = 17 ∧ sg a8 = 18
theorem pn_ne {sg : Nat → Nat} {x y m n : Nat} (hx : sg x = m) (hy : sg y = n) (h : m ≠ n) : x ≠ y := fun e => h (hx ▸ hy ▸ e ▸ rfl)
theorem pn_nl {sg : Nat → Nat} {x y m n : Nat} (hx : sg x < m) (hy : sg y = n) (h : m ≤ n) : x ≠ y := fun e => by subst e; omega
/-- a plan: its rows; KIND, LONG, X are g1, g2, g3 -/
def pn (cA : Nat → ClassId) (h : ch_H) (P a1 a2 a3 a4 a5 a6 a7 a8 : Nat) (g1 g2 g3 : Nat → Int32) : Prop := (∃ ro : Int32, h P = some (.inr (4, [.int ro, .ref a1, .ref a2, .ref a3, .ref a4, .ref a5, .ref a6, .ref a7, .ref a8])) ∧ 0 ≤ ro.toInt ∧ ro.toInt ≤ 6) ∧ h a1 = some (.inl (cA 0, 6, .inl g1)) ∧ h a2 = some (.inl (cA 0, 6, .inl g2)) ∧ h a3 = some (.inl (cA 0, 6, .inl g3)) ∧ (∃ g : Nat → Int32, h a4 = some (.inl (cA 0, 12, .inl g))) ∧ (∃ g : Nat → Int32, h a5 = some (.inl (cA 0, 6, .inl g))) ∧ (∃ g : Nat → Int32, h a6 = some (.inl (cA 0, 6, .inl g))) ∧ (∃ g : Nat → Int32, h a7 = some (.inl (cA 0, 6, .inl g))) ∧ (∃ g : Nat → Int32, h a8 = some (.inl (cA 0, 6, .inl g)) ∧ ∀ i, i < 6 → -1 ≤ (g i).toInt ∧ (g i).toInt ≤ 11) ∧ ∀ i, i < 6 → 0 ≤ (g2 i).toInt ∧ (g2 i).toInt ≤ 20
theorem pn.fr {cA : Nat → ClassId} {h h1 : ch_H} {t b P a1 a2 a3 a4 a5 a6 a7 a8 : Nat} {g1 g2 g3 : Nat → Int32} {sg : Nat → Nat} (H : pn cA h P a1 a2 a3 a4 a5 a6 a7 a8 g1 g2 g3) (N : pns sg t b P a1 a2 a3 a4 a5 a6 a7 a8) (o : ∀ q, q ≠ t → h1 q = h q) : pn cA h1 P a1 a2 a3 a4 a5 a6 a7 a8 g1 g2 g3 := by
  obtain ⟨s_t, s_b, s_P, s_a1, s_a2, s_a3, s_a4, s_a5, s_a6, s_a7, s_a8⟩ := N
  obtain ⟨⟨ro, p1, p2⟩, p3, p4, p5, ⟨g4, p6⟩, ⟨g5, p7⟩, ⟨g6, p8⟩, ⟨g7, p9⟩, ⟨g8, p10, p11⟩, p12⟩ := H
  exact ⟨⟨ro, (o P (pn_ne s_P s_t (by decide))).trans p1, p2⟩, (o a1 (pn_ne s_a1 s_t (by decide))).trans p3, (o a2 (pn_ne s_a2 s_t (by decide))).trans p4, (o a3 (pn_ne s_a3 s_t (by decide))).trans p5, ⟨g4, (o a4 (pn_ne s_a4 s_t (by decide))).trans p6⟩, ⟨g5, (o a5 (pn_ne s_a5 s_t (by decide))).trans p7⟩, ⟨g6, (o a6 (pn_ne s_a6 s_t (by decide))).trans p8⟩, ⟨g7, (o a7 (pn_ne s_a7 s_t (by decide))).trans p9⟩, ⟨g8, (o a8 (pn_ne s_a8 s_t (by decide))).trans p10, p11⟩, p12⟩
theorem pn.obj {cA : Nat → ClassId} {h : ch_H} {P a1 a2 a3 a4 a5 a6 a7 a8 : Nat} {g1 g2 g3 : Nat → Int32} (H : pn cA h P a1 a2 a3 a4 a5 a6 a7 a8 g1 g2 g3) : ∃ fs : List Value, h P = some (.inr (4, fs)) := H.1.elim fun ro z => ⟨_, z.1⟩
theorem upd_bd {g : Nat → Int32} {n j : Nat} {x : Int32} {lo hi : Int} (hg : ∀ i, i < n → lo ≤ (g i).toInt ∧ (g i).toInt ≤ hi) (hx : lo ≤ x.toInt ∧ x.toInt ≤ hi) : ∀ i, i < n → lo ≤ (upd g j x i).toInt ∧ (upd g j x i).toInt ≤ hi := by
  intro i hi
  unfold upd
  split
  · exact hx
  · exact hg i hi
theorem upd_s (g : Nat → Int32) (j : Nat) (x : Int32) : upd g j x j = x := by unfold upd; exact if_pos rfl
theorem sp_odd_or : ∀ a, a < 21 → ∀ b, b < 21 → (((Int32.ofNat a ||| Int32.ofNat b) &&& 1).toInt = 0 ↔ ¬ (a % 2 = 1 ∨ b % 2 = 1)) := by decide +kernel
theorem sp_odd_c {x y z v w : Int32} (hx : 0 ≤ x.toInt ∧ x.toInt ≤ 20) (hy : 0 ≤ y.toInt ∧ y.toInt ≤ 20) (hz : z.toInt = 1) (e1 : v = x ||| y) (e2 : w = v &&& z) : w.toInt = 0 ↔ ¬ (x.toInt % 2 = 1 ∨ y.toInt % 2 = 1) := by
  have hx2 := kn_nat (x := x) (n := x.toInt.toNat) (by omega)
  have hy2 := kn_nat (x := y) (n := y.toInt.toNat) (by omega)
  have hz2 : z = 1 := (kn_eq _ _).mpr (by rw [hz]; rfl)
  have h9 := sp_odd_or x.toInt.toNat (by omega) y.toInt.toNat (by omega)
  rw [← hx2, ← hy2, ← hz2, ← e1, ← e2] at h9
  rw [h9]
  omega
section
variable {l : Launch} {D : va_G} {tys : List (ClassId × FieldType)} {A : Nat → Prop} {X : State → Prop} {fr lo : Nat} {Q : Option Value → ch_H → Prop} {cA : Nat → ClassId} {h : ch_H} {t b P a1 a2 a3 a4 a5 a6 a7 a8 : Nat} {f g1 g2 g3 : Nat → Int32} {len at0 fl0 : Int32} {sg : Nat → Nat}
theorem s_untold (hT : k_tys tys cA) {p : Int32} (hN : pns sg t b P a1 a2 a3 a4 a5 a6 a7 a8) (hp : 0 ≤ p.toInt ∧ p.toInt < 6) (H : pn cA h P a1 a2 a3 a4 a5 a6 a7 a8 g1 g2 g3) (hq : ∀ (h1 : ch_H) (k1 k2 k3 : Nat → Int32), pn cA h1 P a1 a2 a3 a4 a5 a6 a7 a8 k1 k2 k3 → (k1 p.toInt.toNat).toInt = 0 → (k2 p.toInt.toNat).toInt = 10 → (k3 p.toInt.toNat).toInt = 0 → (∀ q, sg q < 11 → h1 q = h q) → Q none h1) : ww l D tys A X fr lo mX4_untold Q 0 [(0, .ref P), (1, .int p)] [] h := by
  have N := hN
  obtain ⟨s_t, s_b, s_P, s_a1, s_a2, s_a3, s_a4, s_a5, s_a6, s_a7, s_a8⟩ := hN
  obtain ⟨⟨ro, c_P, ro1, ro2⟩, c_a1, c_a2, c_a3, ⟨g4, c_a4⟩, ⟨g5, c_a5⟩, ⟨g6, c_a6⟩, ⟨g7, c_a7⟩, ⟨g8, c_a8, g8b⟩, g2b⟩ := H
  refine w_aload_n (List.Mem.head _) (tX4_untold_0_ok (0, .aload_n 0, 1) (List.mem_of_getElem? (i := 0) rfl)) ?_
  refine w_get (own := 9) rfl rfl (by decide) c_P rfl (tX4_untold_0_ok (1, .getfield 9, 3) (List.mem_of_getElem? (i := 1) rfl)) ?_
  refine w_iload_n (List.Mem.tail _ (List.Mem.head _)) (tX4_untold_0_ok (4, .iload_n 1, 1) (List.mem_of_getElem? (i := 2) rfl)) ?_
  refine w_iconst (by decide) (tX4_untold_0_ok (5, .iconst 0, 1) (List.mem_of_getElem? (i := 3) rfl)) (fun v1 e2 => ?_)
  refine w_iast hT c_a1 (by omega) (by omega) (tX4_untold_0_ok (6, .iastore, 1) (List.mem_of_getElem? (i := 4) rfl)) (fun h3 c4 o5 => ?_)
  have c6 := (o5 P (pn_ne s_P s_a1 (by decide))).trans c_P
  have c7 := (o5 a2 (pn_ne s_a2 s_a1 (by decide))).trans c_a2
  have c8 := (o5 a3 (pn_ne s_a3 s_a1 (by decide))).trans c_a3
  have c9 := (o5 a4 (pn_ne s_a4 s_a1 (by decide))).trans c_a4
  have c10 := (o5 a5 (pn_ne s_a5 s_a1 (by decide))).trans c_a5
  have c11 := (o5 a6 (pn_ne s_a6 s_a1 (by decide))).trans c_a6
  have c12 := (o5 a7 (pn_ne s_a7 s_a1 (by decide))).trans c_a7
  have c13 := (o5 a8 (pn_ne s_a8 s_a1 (by decide))).trans c_a8
  refine w_aload_n (List.Mem.head _) (tX4_untold_0_ok (7, .aload_n 0, 1) (List.mem_of_getElem? (i := 5) rfl)) ?_
  refine w_get (own := 9) rfl rfl (by decide) c6 rfl (tX4_untold_0_ok (8, .getfield 15, 3) (List.mem_of_getElem? (i := 6) rfl)) ?_
  refine w_iload_n (List.Mem.tail _ (List.Mem.head _)) (tX4_untold_0_ok (11, .iload_n 1, 1) (List.mem_of_getElem? (i := 7) rfl)) ?_
  refine w_bipush (by decide) (tX4_untold_0_ok (12, .bipush 10, 2) (List.mem_of_getElem? (i := 8) rfl)) (fun v14 e15 => ?_)
  refine w_iast hT c7 (by omega) (by omega) (tX4_untold_0_ok (14, .iastore, 1) (List.mem_of_getElem? (i := 9) rfl)) (fun h16 c17 o18 => ?_)
  have c19 := (o18 P (pn_ne s_P s_a2 (by decide))).trans c6
  have c20 := (o18 a1 (pn_ne s_a1 s_a2 (by decide))).trans c4
  have c21 := (o18 a3 (pn_ne s_a3 s_a2 (by decide))).trans c8
  have c22 := (o18 a4 (pn_ne s_a4 s_a2 (by decide))).trans c9
  have c23 := (o18 a5 (pn_ne s_a5 s_a2 (by decide))).trans c10
  have c24 := (o18 a6 (pn_ne s_a6 s_a2 (by decide))).trans c11
  have c25 := (o18 a7 (pn_ne s_a7 s_a2 (by decide))).trans c12
  have c26 := (o18 a8 (pn_ne s_a8 s_a2 (by decide))).trans c13
  refine w_aload_n (List.Mem.head _) (tX4_untold_0_ok (15, .aload_n 0, 1) (List.mem_of_getElem? (i := 10) rfl)) ?_
  refine w_get (own := 9) rfl rfl (by decide) c19 rfl (tX4_untold_0_ok (16, .getfield 18, 3) (List.mem_of_getElem? (i := 11) rfl)) ?_
  refine w_iload_n (List.Mem.tail _ (List.Mem.head _)) (tX4_untold_0_ok (19, .iload_n 1, 1) (List.mem_of_getElem? (i := 12) rfl)) ?_
  refine w_iconst (by decide) (tX4_untold_0_ok (20, .iconst 0, 1) (List.mem_of_getElem? (i := 13) rfl)) (fun v27 e28 => ?_)
  refine w_iast hT c21 (by omega) (by omega) (tX4_untold_0_ok (21, .iastore, 1) (List.mem_of_getElem? (i := 14) rfl)) (fun h29 c30 o31 => ?_)
  have c32 := (o31 P (pn_ne s_P s_a3 (by decide))).trans c19
  have c33 := (o31 a1 (pn_ne s_a1 s_a3 (by decide))).trans c20
  have c34 := (o31 a2 (pn_ne s_a2 s_a3 (by decide))).trans c17
  have c35 := (o31 a4 (pn_ne s_a4 s_a3 (by decide))).trans c22
  have c36 := (o31 a5 (pn_ne s_a5 s_a3 (by decide))).trans c23
  have c37 := (o31 a6 (pn_ne s_a6 s_a3 (by decide))).trans c24
  have c38 := (o31 a7 (pn_ne s_a7 s_a3 (by decide))).trans c25
  have c39 := (o31 a8 (pn_ne s_a8 s_a3 (by decide))).trans c26
  refine w_aload_n (List.Mem.head _) (tX4_untold_0_ok (22, .aload_n 0, 1) (List.mem_of_getElem? (i := 15) rfl)) ?_
  refine w_get (own := 9) rfl rfl (by decide) c32 rfl (tX4_untold_0_ok (23, .getfield 21, 3) (List.mem_of_getElem? (i := 16) rfl)) ?_
  refine w_iconst (by decide) (tX4_untold_0_ok (26, .iconst 2, 1) (List.mem_of_getElem? (i := 17) rfl)) (fun v40 e41 => ?_)
  refine w_iload_n (List.Mem.tail _ (List.Mem.head _)) (tX4_untold_0_ok (27, .iload_n 1, 1) (List.mem_of_getElem? (i := 18) rfl)) ?_
  refine w_imul (by assumption) (by omega) (by omega) (tX4_untold_0_ok (28, .imul, 1) (List.mem_of_getElem? (i := 19) rfl)) (fun v42 e43 => ?_)
  refine w_bipush (by decide) (tX4_untold_0_ok (29, .bipush 10, 2) (List.mem_of_getElem? (i := 20) rfl)) (fun v44 e45 => ?_)
  refine w_iast hT c35 (by omega) (by omega) (tX4_untold_0_ok (31, .iastore, 1) (List.mem_of_getElem? (i := 21) rfl)) (fun h46 c47 o48 => ?_)
  have c49 := (o48 P (pn_ne s_P s_a4 (by decide))).trans c32
  have c50 := (o48 a1 (pn_ne s_a1 s_a4 (by decide))).trans c33
  have c51 := (o48 a2 (pn_ne s_a2 s_a4 (by decide))).trans c34
  have c52 := (o48 a3 (pn_ne s_a3 s_a4 (by decide))).trans c30
  have c53 := (o48 a5 (pn_ne s_a5 s_a4 (by decide))).trans c36
  have c54 := (o48 a6 (pn_ne s_a6 s_a4 (by decide))).trans c37
  have c55 := (o48 a7 (pn_ne s_a7 s_a4 (by decide))).trans c38
  have c56 := (o48 a8 (pn_ne s_a8 s_a4 (by decide))).trans c39
  refine w_aload_n (List.Mem.head _) (tX4_untold_0_ok (32, .aload_n 0, 1) (List.mem_of_getElem? (i := 22) rfl)) ?_
  refine w_get (own := 9) rfl rfl (by decide) c49 rfl (tX4_untold_0_ok (33, .getfield 21, 3) (List.mem_of_getElem? (i := 23) rfl)) ?_
  refine w_iconst (by decide) (tX4_untold_0_ok (36, .iconst 2, 1) (List.mem_of_getElem? (i := 24) rfl)) (fun v57 e58 => ?_)
  refine w_iload_n (List.Mem.tail _ (List.Mem.head _)) (tX4_untold_0_ok (37, .iload_n 1, 1) (List.mem_of_getElem? (i := 25) rfl)) ?_
  refine w_imul (by assumption) (by omega) (by omega) (tX4_untold_0_ok (38, .imul, 1) (List.mem_of_getElem? (i := 26) rfl)) (fun v59 e60 => ?_)
  refine w_iconst (by decide) (tX4_untold_0_ok (39, .iconst 1, 1) (List.mem_of_getElem? (i := 27) rfl)) (fun v61 e62 => ?_)
  refine w_iadd (by omega) (by omega) (tX4_untold_0_ok (40, .iadd, 1) (List.mem_of_getElem? (i := 28) rfl)) (fun v63 e64 => ?_)
  refine w_bipush (by decide) (tX4_untold_0_ok (41, .bipush 10, 2) (List.mem_of_getElem? (i := 29) rfl)) (fun v65 e66 => ?_)
  refine w_iast hT c47 (by omega) (by omega) (tX4_untold_0_ok (43, .iastore, 1) (List.mem_of_getElem? (i := 30) rfl)) (fun h67 c68 o69 => ?_)
  have c70 := (o69 P (pn_ne s_P s_a4 (by decide))).trans c49
  have c71 := (o69 a1 (pn_ne s_a1 s_a4 (by decide))).trans c50
  have c72 := (o69 a2 (pn_ne s_a2 s_a4 (by decide))).trans c51
  have c73 := (o69 a3 (pn_ne s_a3 s_a4 (by decide))).trans c52
  have c74 := (o69 a5 (pn_ne s_a5 s_a4 (by decide))).trans c53
  have c75 := (o69 a6 (pn_ne s_a6 s_a4 (by decide))).trans c54
  have c76 := (o69 a7 (pn_ne s_a7 s_a4 (by decide))).trans c55
  have c77 := (o69 a8 (pn_ne s_a8 s_a4 (by decide))).trans c56
  refine w_aload_n (List.Mem.head _) (tX4_untold_0_ok (44, .aload_n 0, 1) (List.mem_of_getElem? (i := 31) rfl)) ?_
  refine w_get (own := 9) rfl rfl (by decide) c70 rfl (tX4_untold_0_ok (45, .getfield 24, 3) (List.mem_of_getElem? (i := 32) rfl)) ?_
  refine w_iload_n (List.Mem.tail _ (List.Mem.head _)) (tX4_untold_0_ok (48, .iload_n 1, 1) (List.mem_of_getElem? (i := 33) rfl)) ?_
  refine w_iconst (by decide) (tX4_untold_0_ok (49, .iconst 5, 1) (List.mem_of_getElem? (i := 34) rfl)) (fun v78 e79 => ?_)
  refine w_iast hT c74 (by omega) (by omega) (tX4_untold_0_ok (50, .iastore, 1) (List.mem_of_getElem? (i := 35) rfl)) (fun h80 c81 o82 => ?_)
  have c83 := (o82 P (pn_ne s_P s_a5 (by decide))).trans c70
  have c84 := (o82 a1 (pn_ne s_a1 s_a5 (by decide))).trans c71
  have c85 := (o82 a2 (pn_ne s_a2 s_a5 (by decide))).trans c72
  have c86 := (o82 a3 (pn_ne s_a3 s_a5 (by decide))).trans c73
  have c87 := (o82 a4 (pn_ne s_a4 s_a5 (by decide))).trans c68
  have c88 := (o82 a6 (pn_ne s_a6 s_a5 (by decide))).trans c75
  have c89 := (o82 a7 (pn_ne s_a7 s_a5 (by decide))).trans c76
  have c90 := (o82 a8 (pn_ne s_a8 s_a5 (by decide))).trans c77
  refine w_aload_n (List.Mem.head _) (tX4_untold_0_ok (51, .aload_n 0, 1) (List.mem_of_getElem? (i := 36) rfl)) ?_
  refine w_get (own := 9) rfl rfl (by decide) c83 rfl (tX4_untold_0_ok (52, .getfield 27, 3) (List.mem_of_getElem? (i := 37) rfl)) ?_
  refine w_iload_n (List.Mem.tail _ (List.Mem.head _)) (tX4_untold_0_ok (55, .iload_n 1, 1) (List.mem_of_getElem? (i := 38) rfl)) ?_
  refine w_iconst (by decide) (tX4_untold_0_ok (56, .iconst 0, 1) (List.mem_of_getElem? (i := 39) rfl)) (fun v91 e92 => ?_)
  refine w_iast hT c88 (by omega) (by omega) (tX4_untold_0_ok (57, .iastore, 1) (List.mem_of_getElem? (i := 40) rfl)) (fun h93 c94 o95 => ?_)
  have c96 := (o95 P (pn_ne s_P s_a6 (by decide))).trans c83
  have c97 := (o95 a1 (pn_ne s_a1 s_a6 (by decide))).trans c84
  have c98 := (o95 a2 (pn_ne s_a2 s_a6 (by decide))).trans c85
  have c99 := (o95 a3 (pn_ne s_a3 s_a6 (by decide))).trans c86
  have c100 := (o95 a4 (pn_ne s_a4 s_a6 (by decide))).trans c87
  have c101 := (o95 a5 (pn_ne s_a5 s_a6 (by decide))).trans c81
  have c102 := (o95 a7 (pn_ne s_a7 s_a6 (by decide))).trans c89
  have c103 := (o95 a8 (pn_ne s_a8 s_a6 (by decide))).trans c90
  refine w_aload_n (List.Mem.head _) (tX4_untold_0_ok (58, .aload_n 0, 1) (List.mem_of_getElem? (i := 41) rfl)) ?_
  refine w_get (own := 9) rfl rfl (by decide) c96 rfl (tX4_untold_0_ok (59, .getfield 30, 3) (List.mem_of_getElem? (i := 42) rfl)) ?_
  refine w_iload_n (List.Mem.tail _ (List.Mem.head _)) (tX4_untold_0_ok (62, .iload_n 1, 1) (List.mem_of_getElem? (i := 43) rfl)) ?_
  refine w_iconst (by decide) (tX4_untold_0_ok (63, .iconst 0, 1) (List.mem_of_getElem? (i := 44) rfl)) (fun v104 e105 => ?_)
  refine w_iast hT c102 (by omega) (by omega) (tX4_untold_0_ok (64, .iastore, 1) (List.mem_of_getElem? (i := 45) rfl)) (fun h106 c107 o108 => ?_)
  have c109 := (o108 P (pn_ne s_P s_a7 (by decide))).trans c96
  have c110 := (o108 a1 (pn_ne s_a1 s_a7 (by decide))).trans c97
  have c111 := (o108 a2 (pn_ne s_a2 s_a7 (by decide))).trans c98
  have c112 := (o108 a3 (pn_ne s_a3 s_a7 (by decide))).trans c99
  have c113 := (o108 a4 (pn_ne s_a4 s_a7 (by decide))).trans c100
  have c114 := (o108 a5 (pn_ne s_a5 s_a7 (by decide))).trans c101
  have c115 := (o108 a6 (pn_ne s_a6 s_a7 (by decide))).trans c94
  have c116 := (o108 a8 (pn_ne s_a8 s_a7 (by decide))).trans c103
  refine w_aload_n (List.Mem.head _) (tX4_untold_0_ok (65, .aload_n 0, 1) (List.mem_of_getElem? (i := 46) rfl)) ?_
  refine w_get (own := 9) rfl rfl (by decide) c109 rfl (tX4_untold_0_ok (66, .getfield 33, 3) (List.mem_of_getElem? (i := 47) rfl)) ?_
  refine w_iload_n (List.Mem.tail _ (List.Mem.head _)) (tX4_untold_0_ok (69, .iload_n 1, 1) (List.mem_of_getElem? (i := 48) rfl)) ?_
  refine w_iconst (by decide) (tX4_untold_0_ok (70, .iconst (-1), 1) (List.mem_of_getElem? (i := 49) rfl)) (fun v117 e118 => ?_)
  refine w_iast hT c116 (by omega) (by omega) (tX4_untold_0_ok (71, .iastore, 1) (List.mem_of_getElem? (i := 50) rfl)) (fun h119 c120 o121 => ?_)
  have c122 := (o121 P (pn_ne s_P s_a8 (by decide))).trans c109
  have c123 := (o121 a1 (pn_ne s_a1 s_a8 (by decide))).trans c110
  have c124 := (o121 a2 (pn_ne s_a2 s_a8 (by decide))).trans c111
  have c125 := (o121 a3 (pn_ne s_a3 s_a8 (by decide))).trans c112
  have c126 := (o121 a4 (pn_ne s_a4 s_a8 (by decide))).trans c113
  have c127 := (o121 a5 (pn_ne s_a5 s_a8 (by decide))).trans c114
  have c128 := (o121 a6 (pn_ne s_a6 s_a8 (by decide))).trans c115
  have c129 := (o121 a7 (pn_ne s_a7 s_a8 (by decide))).trans c107
  refine w_vret rfl (tX4_untold_0_ok (72, .return_, 1) (List.mem_of_getElem? (i := 51) rfl)) ?_
  refine hq h119 (upd g1 p.toInt.toNat v1) (upd g2 p.toInt.toNat v14) (upd g3 p.toInt.toNat v27) ⟨⟨_, c122, by omega, by omega⟩, c123, c124, c125, ⟨_, c126⟩, ⟨_, c127⟩, ⟨_, c128⟩, ⟨_, c129⟩, ⟨_, c120, (upd_bd g8b (by omega))⟩, (upd_bd g2b (by omega))⟩ ?_ ?_ ?_ (fun q hq => (o121 q (pn_nl hq s_a8 (by decide))).trans ((o108 q (pn_nl hq s_a7 (by decide))).trans ((o95 q (pn_nl hq s_a6 (by decide))).trans ((o82 q (pn_nl hq s_a5 (by decide))).trans ((o69 q (pn_nl hq s_a4 (by decide))).trans ((o48 q (pn_nl hq s_a4 (by decide))).trans ((o31 q (pn_nl hq s_a3 (by decide))).trans ((o18 q (pn_nl hq s_a2 (by decide))).trans (o5 q (pn_nl hq s_a1 (by decide)))))))))))
  · rw [upd_s]; omega
  · rw [upd_s]; omega
  · rw [upd_s]; omega
theorem s_bitOf {c : Int32} (hq : ∀ v : Int32, v.toInt = (sp_bit c.toInt : Int) → Q (some (.int v)) h) : ww l D tys A X fr lo mX8_bitOf Q 0 [(0, .int c)] [] h := by
  refine w_iload_n (List.Mem.head _) (tX8_bitOf_0_ok (0, .iload_n 0, 1) (List.mem_of_getElem? (i := 0) rfl)) ?_
  have b1 : (c.toInt < 97 ∨ 120 < c.toInt) ∨ c.toInt = 97 ∨ c.toInt = 98 ∨ c.toInt = 99 ∨ c.toInt = 100 ∨ c.toInt = 101 ∨ c.toInt = 102 ∨ c.toInt = 103 ∨ c.toInt = 104 ∨ c.toInt = 105 ∨ c.toInt = 106 ∨ c.toInt = 107 ∨ c.toInt = 108 ∨ c.toInt = 109 ∨ c.toInt = 110 ∨ c.toInt = 111 ∨ c.toInt = 112 ∨ c.toInt = 113 ∨ c.toInt = 114 ∨ c.toInt = 115 ∨ c.toInt = 116 ∨ c.toInt = 117 ∨ c.toInt = 118 ∨ c.toInt = 119 ∨ c.toInt = 120 := by omega
  rcases b1 with b1 | b1 | b1 | b1 | b1 | b1 | b1 | b1 | b1 | b1 | b1 | b1 | b1 | b1 | b1 | b1 | b1 | b1 | b1 | b1 | b1 | b1 | b1 | b1 | b1
  · refine w_tabOut (tgt := 138) (tX8_bitOf_0_ok (1, .tableswitch 137 97 120 #[117, 120, 137, 137, 137, 137, 137, 123, 137, 137, 111, 113, 137, 137, 137, 137, 137, 129, 126, 137, 133, 137, 137, 115], 111) (List.mem_of_getElem? (i := 1) rfl)) b1 rfl ?_
    refine w_iconst (by decide) (tX8_bitOf_0_ok (138, .iconst 0, 1) (List.mem_of_getElem? (i := 20) rfl)) (fun v2 e3 => ?_)
    refine w_iret rfl (tX8_bitOf_0_ok (139, .ireturn, 1) (List.mem_of_getElem? (i := 21) rfl)) ?_
    refine hq v2 ?_
    unfold sp_bit
    repeat rw [if_neg (by omega)]
    assumption
  · refine w_tabIn (tgt := 118) (tX8_bitOf_0_ok (1, .tableswitch 137 97 120 #[117, 120, 137, 137, 137, 137, 137, 123, 137, 137, 111, 113, 137, 137, 137, 137, 137, 129, 126, 137, 133, 137, 137, 115], 111) (List.mem_of_getElem? (i := 1) rfl)) b1 (by decide) (by decide) rfl rfl ?_
    refine w_bipush (by decide) (tX8_bitOf_0_ok (118, .bipush 8, 2) (List.mem_of_getElem? (i := 8) rfl)) (fun v4 e5 => ?_)
    refine w_iret rfl (tX8_bitOf_0_ok (120, .ireturn, 1) (List.mem_of_getElem? (i := 9) rfl)) ?_
    refine hq v4 ?_
    rw [b1]
    first | exact (by assumption) | (show _ = ((0 : Nat) : Int); assumption)
  · refine w_tabIn (tgt := 121) (tX8_bitOf_0_ok (1, .tableswitch 137 97 120 #[117, 120, 137, 137, 137, 137, 137, 123, 137, 137, 111, 113, 137, 137, 137, 137, 137, 129, 126, 137, 133, 137, 137, 115], 111) (List.mem_of_getElem? (i := 1) rfl)) b1 (by decide) (by decide) rfl rfl ?_
    refine w_bipush (by decide) (tX8_bitOf_0_ok (121, .bipush 16, 2) (List.mem_of_getElem? (i := 10) rfl)) (fun v6 e7 => ?_)
    refine w_iret rfl (tX8_bitOf_0_ok (123, .ireturn, 1) (List.mem_of_getElem? (i := 11) rfl)) ?_
    refine hq v6 ?_
    rw [b1]
    first | exact (by assumption) | (show _ = ((0 : Nat) : Int); assumption)
  · refine w_tabIn (tgt := 138) (tX8_bitOf_0_ok (1, .tableswitch 137 97 120 #[117, 120, 137, 137, 137, 137, 137, 123, 137, 137, 111, 113, 137, 137, 137, 137, 137, 129, 126, 137, 133, 137, 137, 115], 111) (List.mem_of_getElem? (i := 1) rfl)) b1 (by decide) (by decide) rfl rfl ?_
    refine w_iconst (by decide) (tX8_bitOf_0_ok (138, .iconst 0, 1) (List.mem_of_getElem? (i := 20) rfl)) (fun v8 e9 => ?_)
    refine w_iret rfl (tX8_bitOf_0_ok (139, .ireturn, 1) (List.mem_of_getElem? (i := 21) rfl)) ?_
    refine hq v8 ?_
    rw [b1]
    first | exact (by assumption) | (show _ = ((0 : Nat) : Int); assumption)
  · refine w_tabIn (tgt := 138) (tX8_bitOf_0_ok (1, .tableswitch 137 97 120 #[117, 120, 137, 137, 137, 137, 137, 123, 137, 137, 111, 113, 137, 137, 137, 137, 137, 129, 126, 137, 133, 137, 137, 115], 111) (List.mem_of_getElem? (i := 1) rfl)) b1 (by decide) (by decide) rfl rfl ?_
    refine w_iconst (by decide) (tX8_bitOf_0_ok (138, .iconst 0, 1) (List.mem_of_getElem? (i := 20) rfl)) (fun v10 e11 => ?_)
    refine w_iret rfl (tX8_bitOf_0_ok (139, .ireturn, 1) (List.mem_of_getElem? (i := 21) rfl)) ?_
    refine hq v10 ?_
    rw [b1]
    first | exact (by assumption) | (show _ = ((0 : Nat) : Int); assumption)
  · refine w_tabIn (tgt := 138) (tX8_bitOf_0_ok (1, .tableswitch 137 97 120 #[117, 120, 137, 137, 137, 137, 137, 123, 137, 137, 111, 113, 137, 137, 137, 137, 137, 129, 126, 137, 133, 137, 137, 115], 111) (List.mem_of_getElem? (i := 1) rfl)) b1 (by decide) (by decide) rfl rfl ?_
    refine w_iconst (by decide) (tX8_bitOf_0_ok (138, .iconst 0, 1) (List.mem_of_getElem? (i := 20) rfl)) (fun v12 e13 => ?_)
    refine w_iret rfl (tX8_bitOf_0_ok (139, .ireturn, 1) (List.mem_of_getElem? (i := 21) rfl)) ?_
    refine hq v12 ?_
    rw [b1]
    first | exact (by assumption) | (show _ = ((0 : Nat) : Int); assumption)
  · refine w_tabIn (tgt := 138) (tX8_bitOf_0_ok (1, .tableswitch 137 97 120 #[117, 120, 137, 137, 137, 137, 137, 123, 137, 137, 111, 113, 137, 137, 137, 137, 137, 129, 126, 137, 133, 137, 137, 115], 111) (List.mem_of_getElem? (i := 1) rfl)) b1 (by decide) (by decide) rfl rfl ?_
    refine w_iconst (by decide) (tX8_bitOf_0_ok (138, .iconst 0, 1) (List.mem_of_getElem? (i := 20) rfl)) (fun v14 e15 => ?_)
    refine w_iret rfl (tX8_bitOf_0_ok (139, .ireturn, 1) (List.mem_of_getElem? (i := 21) rfl)) ?_
    refine hq v14 ?_
    rw [b1]
    first | exact (by assumption) | (show _ = ((0 : Nat) : Int); assumption)
  · refine w_tabIn (tgt := 138) (tX8_bitOf_0_ok (1, .tableswitch 137 97 120 #[117, 120, 137, 137, 137, 137, 137, 123, 137, 137, 111, 113, 137, 137, 137, 137, 137, 129, 126, 137, 133, 137, 137, 115], 111) (List.mem_of_getElem? (i := 1) rfl)) b1 (by decide) (by decide) rfl rfl ?_
    refine w_iconst (by decide) (tX8_bitOf_0_ok (138, .iconst 0, 1) (List.mem_of_getElem? (i := 20) rfl)) (fun v16 e17 => ?_)
    refine w_iret rfl (tX8_bitOf_0_ok (139, .ireturn, 1) (List.mem_of_getElem? (i := 21) rfl)) ?_
    refine hq v16 ?_
    rw [b1]
    first | exact (by assumption) | (show _ = ((0 : Nat) : Int); assumption)
  · refine w_tabIn (tgt := 124) (tX8_bitOf_0_ok (1, .tableswitch 137 97 120 #[117, 120, 137, 137, 137, 137, 137, 123, 137, 137, 111, 113, 137, 137, 137, 137, 137, 129, 126, 137, 133, 137, 137, 115], 111) (List.mem_of_getElem? (i := 1) rfl)) b1 (by decide) (by decide) rfl rfl ?_
    refine w_bipush (by decide) (tX8_bitOf_0_ok (124, .bipush 32, 2) (List.mem_of_getElem? (i := 12) rfl)) (fun v18 e19 => ?_)
    refine w_iret rfl (tX8_bitOf_0_ok (126, .ireturn, 1) (List.mem_of_getElem? (i := 13) rfl)) ?_
    refine hq v18 ?_
    rw [b1]
    first | exact (by assumption) | (show _ = ((0 : Nat) : Int); assumption)
  · refine w_tabIn (tgt := 138) (tX8_bitOf_0_ok (1, .tableswitch 137 97 120 #[117, 120, 137, 137, 137, 137, 137, 123, 137, 137, 111, 113, 137, 137, 137, 137, 137, 129, 126, 137, 133, 137, 137, 115], 111) (List.mem_of_getElem? (i := 1) rfl)) b1 (by decide) (by decide) rfl rfl ?_
    refine w_iconst (by decide) (tX8_bitOf_0_ok (138, .iconst 0, 1) (List.mem_of_getElem? (i := 20) rfl)) (fun v20 e21 => ?_)
    refine w_iret rfl (tX8_bitOf_0_ok (139, .ireturn, 1) (List.mem_of_getElem? (i := 21) rfl)) ?_
    refine hq v20 ?_
    rw [b1]
    first | exact (by assumption) | (show _ = ((0 : Nat) : Int); assumption)
  · refine w_tabIn (tgt := 138) (tX8_bitOf_0_ok (1, .tableswitch 137 97 120 #[117, 120, 137, 137, 137, 137, 137, 123, 137, 137, 111, 113, 137, 137, 137, 137, 137, 129, 126, 137, 133, 137, 137, 115], 111) (List.mem_of_getElem? (i := 1) rfl)) b1 (by decide) (by decide) rfl rfl ?_
    refine w_iconst (by decide) (tX8_bitOf_0_ok (138, .iconst 0, 1) (List.mem_of_getElem? (i := 20) rfl)) (fun v22 e23 => ?_)
    refine w_iret rfl (tX8_bitOf_0_ok (139, .ireturn, 1) (List.mem_of_getElem? (i := 21) rfl)) ?_
    refine hq v22 ?_
    rw [b1]
    first | exact (by assumption) | (show _ = ((0 : Nat) : Int); assumption)
  · refine w_tabIn (tgt := 112) (tX8_bitOf_0_ok (1, .tableswitch 137 97 120 #[117, 120, 137, 137, 137, 137, 137, 123, 137, 137, 111, 113, 137, 137, 137, 137, 137, 129, 126, 137, 133, 137, 137, 115], 111) (List.mem_of_getElem? (i := 1) rfl)) b1 (by decide) (by decide) rfl rfl ?_
    refine w_iconst (by decide) (tX8_bitOf_0_ok (112, .iconst 1, 1) (List.mem_of_getElem? (i := 2) rfl)) (fun v24 e25 => ?_)
    refine w_iret rfl (tX8_bitOf_0_ok (113, .ireturn, 1) (List.mem_of_getElem? (i := 3) rfl)) ?_
    refine hq v24 ?_
    rw [b1]
    first | exact (by assumption) | (show _ = ((0 : Nat) : Int); assumption)
  · refine w_tabIn (tgt := 114) (tX8_bitOf_0_ok (1, .tableswitch 137 97 120 #[117, 120, 137, 137, 137, 137, 137, 123, 137, 137, 111, 113, 137, 137, 137, 137, 137, 129, 126, 137, 133, 137, 137, 115], 111) (List.mem_of_getElem? (i := 1) rfl)) b1 (by decide) (by decide) rfl rfl ?_
    refine w_iconst (by decide) (tX8_bitOf_0_ok (114, .iconst 2, 1) (List.mem_of_getElem? (i := 4) rfl)) (fun v26 e27 => ?_)
    refine w_iret rfl (tX8_bitOf_0_ok (115, .ireturn, 1) (List.mem_of_getElem? (i := 5) rfl)) ?_
    refine hq v26 ?_
    rw [b1]
    first | exact (by assumption) | (show _ = ((0 : Nat) : Int); assumption)
  · refine w_tabIn (tgt := 138) (tX8_bitOf_0_ok (1, .tableswitch 137 97 120 #[117, 120, 137, 137, 137, 137, 137, 123, 137, 137, 111, 113, 137, 137, 137, 137, 137, 129, 126, 137, 133, 137, 137, 115], 111) (List.mem_of_getElem? (i := 1) rfl)) b1 (by decide) (by decide) rfl rfl ?_
    refine w_iconst (by decide) (tX8_bitOf_0_ok (138, .iconst 0, 1) (List.mem_of_getElem? (i := 20) rfl)) (fun v28 e29 => ?_)
    refine w_iret rfl (tX8_bitOf_0_ok (139, .ireturn, 1) (List.mem_of_getElem? (i := 21) rfl)) ?_
    refine hq v28 ?_
    rw [b1]
    first | exact (by assumption) | (show _ = ((0 : Nat) : Int); assumption)
  · refine w_tabIn (tgt := 138) (tX8_bitOf_0_ok (1, .tableswitch 137 97 120 #[117, 120, 137, 137, 137, 137, 137, 123, 137, 137, 111, 113, 137, 137, 137, 137, 137, 129, 126, 137, 133, 137, 137, 115], 111) (List.mem_of_getElem? (i := 1) rfl)) b1 (by decide) (by decide) rfl rfl ?_
    refine w_iconst (by decide) (tX8_bitOf_0_ok (138, .iconst 0, 1) (List.mem_of_getElem? (i := 20) rfl)) (fun v30 e31 => ?_)
    refine w_iret rfl (tX8_bitOf_0_ok (139, .ireturn, 1) (List.mem_of_getElem? (i := 21) rfl)) ?_
    refine hq v30 ?_
    rw [b1]
    first | exact (by assumption) | (show _ = ((0 : Nat) : Int); assumption)
  · refine w_tabIn (tgt := 138) (tX8_bitOf_0_ok (1, .tableswitch 137 97 120 #[117, 120, 137, 137, 137, 137, 137, 123, 137, 137, 111, 113, 137, 137, 137, 137, 137, 129, 126, 137, 133, 137, 137, 115], 111) (List.mem_of_getElem? (i := 1) rfl)) b1 (by decide) (by decide) rfl rfl ?_
    refine w_iconst (by decide) (tX8_bitOf_0_ok (138, .iconst 0, 1) (List.mem_of_getElem? (i := 20) rfl)) (fun v32 e33 => ?_)
    refine w_iret rfl (tX8_bitOf_0_ok (139, .ireturn, 1) (List.mem_of_getElem? (i := 21) rfl)) ?_
    refine hq v32 ?_
    rw [b1]
    first | exact (by assumption) | (show _ = ((0 : Nat) : Int); assumption)
  · refine w_tabIn (tgt := 138) (tX8_bitOf_0_ok (1, .tableswitch 137 97 120 #[117, 120, 137, 137, 137, 137, 137, 123, 137, 137, 111, 113, 137, 137, 137, 137, 137, 129, 126, 137, 133, 137, 137, 115], 111) (List.mem_of_getElem? (i := 1) rfl)) b1 (by decide) (by decide) rfl rfl ?_
    refine w_iconst (by decide) (tX8_bitOf_0_ok (138, .iconst 0, 1) (List.mem_of_getElem? (i := 20) rfl)) (fun v34 e35 => ?_)
    refine w_iret rfl (tX8_bitOf_0_ok (139, .ireturn, 1) (List.mem_of_getElem? (i := 21) rfl)) ?_
    refine hq v34 ?_
    rw [b1]
    first | exact (by assumption) | (show _ = ((0 : Nat) : Int); assumption)
  · refine w_tabIn (tgt := 138) (tX8_bitOf_0_ok (1, .tableswitch 137 97 120 #[117, 120, 137, 137, 137, 137, 137, 123, 137, 137, 111, 113, 137, 137, 137, 137, 137, 129, 126, 137, 133, 137, 137, 115], 111) (List.mem_of_getElem? (i := 1) rfl)) b1 (by decide) (by decide) rfl rfl ?_
    refine w_iconst (by decide) (tX8_bitOf_0_ok (138, .iconst 0, 1) (List.mem_of_getElem? (i := 20) rfl)) (fun v36 e37 => ?_)
    refine w_iret rfl (tX8_bitOf_0_ok (139, .ireturn, 1) (List.mem_of_getElem? (i := 21) rfl)) ?_
    refine hq v36 ?_
    rw [b1]
    first | exact (by assumption) | (show _ = ((0 : Nat) : Int); assumption)
  · refine w_tabIn (tgt := 130) (tX8_bitOf_0_ok (1, .tableswitch 137 97 120 #[117, 120, 137, 137, 137, 137, 137, 123, 137, 137, 111, 113, 137, 137, 137, 137, 137, 129, 126, 137, 133, 137, 137, 115], 111) (List.mem_of_getElem? (i := 1) rfl)) b1 (by decide) (by decide) rfl rfl ?_
    refine w_sipush (by decide) (tX8_bitOf_0_ok (130, .sipush 128, 3) (List.mem_of_getElem? (i := 16) rfl)) (fun v38 e39 => ?_)
    refine w_iret rfl (tX8_bitOf_0_ok (133, .ireturn, 1) (List.mem_of_getElem? (i := 17) rfl)) ?_
    refine hq v38 ?_
    rw [b1]
    first | exact (by assumption) | (show _ = ((0 : Nat) : Int); assumption)
  · refine w_tabIn (tgt := 127) (tX8_bitOf_0_ok (1, .tableswitch 137 97 120 #[117, 120, 137, 137, 137, 137, 137, 123, 137, 137, 111, 113, 137, 137, 137, 137, 137, 129, 126, 137, 133, 137, 137, 115], 111) (List.mem_of_getElem? (i := 1) rfl)) b1 (by decide) (by decide) rfl rfl ?_
    refine w_bipush (by decide) (tX8_bitOf_0_ok (127, .bipush 64, 2) (List.mem_of_getElem? (i := 14) rfl)) (fun v40 e41 => ?_)
    refine w_iret rfl (tX8_bitOf_0_ok (129, .ireturn, 1) (List.mem_of_getElem? (i := 15) rfl)) ?_
    refine hq v40 ?_
    rw [b1]
    first | exact (by assumption) | (show _ = ((0 : Nat) : Int); assumption)
  · refine w_tabIn (tgt := 138) (tX8_bitOf_0_ok (1, .tableswitch 137 97 120 #[117, 120, 137, 137, 137, 137, 137, 123, 137, 137, 111, 113, 137, 137, 137, 137, 137, 129, 126, 137, 133, 137, 137, 115], 111) (List.mem_of_getElem? (i := 1) rfl)) b1 (by decide) (by decide) rfl rfl ?_
    refine w_iconst (by decide) (tX8_bitOf_0_ok (138, .iconst 0, 1) (List.mem_of_getElem? (i := 20) rfl)) (fun v42 e43 => ?_)
    refine w_iret rfl (tX8_bitOf_0_ok (139, .ireturn, 1) (List.mem_of_getElem? (i := 21) rfl)) ?_
    refine hq v42 ?_
    rw [b1]
    first | exact (by assumption) | (show _ = ((0 : Nat) : Int); assumption)
  · refine w_tabIn (tgt := 134) (tX8_bitOf_0_ok (1, .tableswitch 137 97 120 #[117, 120, 137, 137, 137, 137, 137, 123, 137, 137, 111, 113, 137, 137, 137, 137, 137, 129, 126, 137, 133, 137, 137, 115], 111) (List.mem_of_getElem? (i := 1) rfl)) b1 (by decide) (by decide) rfl rfl ?_
    refine w_sipush (by decide) (tX8_bitOf_0_ok (134, .sipush 256, 3) (List.mem_of_getElem? (i := 18) rfl)) (fun v44 e45 => ?_)
    refine w_iret rfl (tX8_bitOf_0_ok (137, .ireturn, 1) (List.mem_of_getElem? (i := 19) rfl)) ?_
    refine hq v44 ?_
    rw [b1]
    first | exact (by assumption) | (show _ = ((0 : Nat) : Int); assumption)
  · refine w_tabIn (tgt := 138) (tX8_bitOf_0_ok (1, .tableswitch 137 97 120 #[117, 120, 137, 137, 137, 137, 137, 123, 137, 137, 111, 113, 137, 137, 137, 137, 137, 129, 126, 137, 133, 137, 137, 115], 111) (List.mem_of_getElem? (i := 1) rfl)) b1 (by decide) (by decide) rfl rfl ?_
    refine w_iconst (by decide) (tX8_bitOf_0_ok (138, .iconst 0, 1) (List.mem_of_getElem? (i := 20) rfl)) (fun v46 e47 => ?_)
    refine w_iret rfl (tX8_bitOf_0_ok (139, .ireturn, 1) (List.mem_of_getElem? (i := 21) rfl)) ?_
    refine hq v46 ?_
    rw [b1]
    first | exact (by assumption) | (show _ = ((0 : Nat) : Int); assumption)
  · refine w_tabIn (tgt := 138) (tX8_bitOf_0_ok (1, .tableswitch 137 97 120 #[117, 120, 137, 137, 137, 137, 137, 123, 137, 137, 111, 113, 137, 137, 137, 137, 137, 129, 126, 137, 133, 137, 137, 115], 111) (List.mem_of_getElem? (i := 1) rfl)) b1 (by decide) (by decide) rfl rfl ?_
    refine w_iconst (by decide) (tX8_bitOf_0_ok (138, .iconst 0, 1) (List.mem_of_getElem? (i := 20) rfl)) (fun v48 e49 => ?_)
    refine w_iret rfl (tX8_bitOf_0_ok (139, .ireturn, 1) (List.mem_of_getElem? (i := 21) rfl)) ?_
    refine hq v48 ?_
    rw [b1]
    first | exact (by assumption) | (show _ = ((0 : Nat) : Int); assumption)
  · refine w_tabIn (tgt := 116) (tX8_bitOf_0_ok (1, .tableswitch 137 97 120 #[117, 120, 137, 137, 137, 137, 137, 123, 137, 137, 111, 113, 137, 137, 137, 137, 137, 129, 126, 137, 133, 137, 137, 115], 111) (List.mem_of_getElem? (i := 1) rfl)) b1 (by decide) (by decide) rfl rfl ?_
    refine w_iconst (by decide) (tX8_bitOf_0_ok (116, .iconst 4, 1) (List.mem_of_getElem? (i := 6) rfl)) (fun v50 e51 => ?_)
    refine w_iret rfl (tX8_bitOf_0_ok (117, .ireturn, 1) (List.mem_of_getElem? (i := 7) rfl)) ?_
    refine hq v50 ?_
    rw [b1]
    first | exact (by assumption) | (show _ = ((0 : Nat) : Int); assumption)
theorem sp_ok_107 {p L X c v : Int} (h : c = 107) : sp_ok p L X c v ↔ v ≤ 2 := by subst h; simp [sp_ok]
theorem sp_ok_108 {p L X c v : Int} (h : c = 108) : sp_ok p L X c v ↔ 2 ≤ v ∧ v ≤ 20 ∧ X ≤ v := by subst h; simp [sp_ok]
theorem sp_ok_120 {p L X c v : Int} (h : c = 120) : sp_ok p L X c v ↔ v ≤ L := by subst h; simp [sp_ok]
theorem sp_ok_97 {p L X c v : Int} (h : c = 97) : sp_ok p L X c v ↔ 1 ≤ v ∧ v ≤ 99 := by subst h; simp [sp_ok]
theorem sp_ok_98 {p L X c v : Int} (h : c = 98) : sp_ok p L X c v ↔ 1 ≤ v ∧ v ≤ 99 := by subst h; simp [sp_ok]
theorem sp_ok_104 {p L X c v : Int} (h : c = 104) : sp_ok p L X c v ↔ v ≤ 99 := by subst h; simp [sp_ok]
theorem sp_ok_115 {p L X c v : Int} (h : c = 115) : sp_ok p L X c v ↔ v ≤ 100 := by subst h; simp [sp_ok]
theorem sp_ok_114 {p L X c v : Int} (h : c = 114) : sp_ok p L X c v ↔ v ≤ 9 := by subst h; simp [sp_ok]
theorem sp_ok_117 {p L X c v : Int} (h : c = 117) : sp_ok p L X c v ↔ v ≤ 2 * p - 1 := by subst h; simp [sp_ok]
theorem s_allows (hT : k_tys tys cA) {p c v : Int32} (hp : 0 ≤ p.toInt ∧ p.toInt < 6) (hc : sp_ltr c.toInt) (H : pn cA h P a1 a2 a3 a4 a5 a6 a7 a8 g1 g2 g3) (hq : ∀ r : Int32, ((r.toInt = 0 ∨ r.toInt = 1) ∧ (¬ r.toInt = 0 ↔ sp_ok p.toInt (g2 p.toInt.toNat).toInt (g3 p.toInt.toNat).toInt c.toInt v.toInt)) → Q (some (.int r)) h) : ww l D tys A X fr lo mX4_allows Q 0 [(0, .ref P), (1, .int p), (2, .int c), (3, .int v)] [] h := by
  obtain ⟨⟨ro, c_P, ro1, ro2⟩, c_a1, c_a2, c_a3, ⟨g4, c_a4⟩, ⟨g5, c_a5⟩, ⟨g6, c_a6⟩, ⟨g7, c_a7⟩, ⟨g8, c_a8, g8b⟩, g2b⟩ := H
  refine w_iload_n (List.Mem.tail _ (List.Mem.tail _ (List.Mem.head _))) (tX4_allows_0_ok (0, .iload_n 2, 1) (List.mem_of_getElem? (i := 0) rfl)) ?_
  have b1 : (c.toInt < 97 ∨ 120 < c.toInt) ∨ c.toInt = 97 ∨ c.toInt = 98 ∨ c.toInt = 99 ∨ c.toInt = 100 ∨ c.toInt = 101 ∨ c.toInt = 102 ∨ c.toInt = 103 ∨ c.toInt = 104 ∨ c.toInt = 105 ∨ c.toInt = 106 ∨ c.toInt = 107 ∨ c.toInt = 108 ∨ c.toInt = 109 ∨ c.toInt = 110 ∨ c.toInt = 111 ∨ c.toInt = 112 ∨ c.toInt = 113 ∨ c.toInt = 114 ∨ c.toInt = 115 ∨ c.toInt = 116 ∨ c.toInt = 117 ∨ c.toInt = 118 ∨ c.toInt = 119 ∨ c.toInt = 120 := by omega
  rcases b1 with b1 | b1 | b1 | b1 | b1 | b1 | b1 | b1 | b1 | b1 | b1 | b1 | b1 | b1 | b1 | b1 | b1 | b1 | b1 | b1 | b1 | b1 | b1 | b1 | b1
  · exfalso; unfold sp_ltr at hc; omega
  · refine w_tabIn (tgt := 166) (tX4_allows_0_ok (1, .tableswitch 235 97 120 #[165, 182, 235, 235, 235, 235, 235, 199, 235, 235, 111, 122, 235, 235, 235, 235, 235, 223, 211, 235, 235, 235, 235, 149], 111) (List.mem_of_getElem? (i := 1) rfl)) b1 (by decide) (by decide) rfl rfl ?_
    refine w_iload_n (List.Mem.tail _ (List.Mem.tail _ (List.Mem.tail _ (List.Mem.head _)))) (tX4_allows_0_ok (166, .iload_n 3, 1) (List.mem_of_getElem? (i := 35) rfl)) ?_
    refine w_iconst (by decide) (tX4_allows_0_ok (167, .iconst 1, 1) (List.mem_of_getElem? (i := 36) rfl)) (fun v2 e3 => ?_)
    refine w_icmp_lt (tgt := 181) (tX4_allows_0_ok (168, .if_icmp .lt 13, 3) (List.mem_of_getElem? (i := 37) rfl)) rfl (fun b4 => ?_) (fun b4 => ?_)
    · refine w_iconst (by decide) (tX4_allows_0_ok (181, .iconst 0, 1) (List.mem_of_getElem? (i := 43) rfl)) (fun v5 e6 => ?_)
      refine w_zret rfl (by omega) (by omega) (tX4_allows_0_ok (182, .ireturn, 1) (List.mem_of_getElem? (i := 44) rfl)) ?_
      refine hq v5 ?_
      rw [sp_ok_97 b1]
      omega
    · refine w_iload_n (List.Mem.tail _ (List.Mem.tail _ (List.Mem.tail _ (List.Mem.head _)))) (tX4_allows_0_ok (171, .iload_n 3, 1) (List.mem_of_getElem? (i := 38) rfl)) ?_
      refine w_bipush (by decide) (tX4_allows_0_ok (172, .bipush 99, 2) (List.mem_of_getElem? (i := 39) rfl)) (fun v7 e8 => ?_)
      refine w_icmp_gt (tgt := 181) (tX4_allows_0_ok (174, .if_icmp .gt 7, 3) (List.mem_of_getElem? (i := 40) rfl)) rfl (fun b9 => ?_) (fun b9 => ?_)
      · refine w_iconst (by decide) (tX4_allows_0_ok (181, .iconst 0, 1) (List.mem_of_getElem? (i := 43) rfl)) (fun v10 e11 => ?_)
        refine w_zret rfl (by omega) (by omega) (tX4_allows_0_ok (182, .ireturn, 1) (List.mem_of_getElem? (i := 44) rfl)) ?_
        refine hq v10 ?_
        rw [sp_ok_97 b1]
        omega
      · refine w_iconst (by decide) (tX4_allows_0_ok (177, .iconst 1, 1) (List.mem_of_getElem? (i := 41) rfl)) (fun v12 e13 => ?_)
        refine w_goto (tgt := 182) (tX4_allows_0_ok (178, .goto 4, 3) (List.mem_of_getElem? (i := 42) rfl)) rfl ?_
        refine w_zret rfl (by omega) (by omega) (tX4_allows_0_ok (182, .ireturn, 1) (List.mem_of_getElem? (i := 44) rfl)) ?_
        refine hq v12 ?_
        rw [sp_ok_97 b1]
        omega
  · refine w_tabIn (tgt := 183) (tX4_allows_0_ok (1, .tableswitch 235 97 120 #[165, 182, 235, 235, 235, 235, 235, 199, 235, 235, 111, 122, 235, 235, 235, 235, 235, 223, 211, 235, 235, 235, 235, 149], 111) (List.mem_of_getElem? (i := 1) rfl)) b1 (by decide) (by decide) rfl rfl ?_
    refine w_iload_n (List.Mem.tail _ (List.Mem.tail _ (List.Mem.tail _ (List.Mem.head _)))) (tX4_allows_0_ok (183, .iload_n 3, 1) (List.mem_of_getElem? (i := 45) rfl)) ?_
    refine w_iconst (by decide) (tX4_allows_0_ok (184, .iconst 1, 1) (List.mem_of_getElem? (i := 46) rfl)) (fun v14 e15 => ?_)
    refine w_icmp_lt (tgt := 198) (tX4_allows_0_ok (185, .if_icmp .lt 13, 3) (List.mem_of_getElem? (i := 47) rfl)) rfl (fun b16 => ?_) (fun b16 => ?_)
    · refine w_iconst (by decide) (tX4_allows_0_ok (198, .iconst 0, 1) (List.mem_of_getElem? (i := 53) rfl)) (fun v17 e18 => ?_)
      refine w_zret rfl (by omega) (by omega) (tX4_allows_0_ok (199, .ireturn, 1) (List.mem_of_getElem? (i := 54) rfl)) ?_
      refine hq v17 ?_
      rw [sp_ok_98 b1]
      omega
    · refine w_iload_n (List.Mem.tail _ (List.Mem.tail _ (List.Mem.tail _ (List.Mem.head _)))) (tX4_allows_0_ok (188, .iload_n 3, 1) (List.mem_of_getElem? (i := 48) rfl)) ?_
      refine w_bipush (by decide) (tX4_allows_0_ok (189, .bipush 99, 2) (List.mem_of_getElem? (i := 49) rfl)) (fun v19 e20 => ?_)
      refine w_icmp_gt (tgt := 198) (tX4_allows_0_ok (191, .if_icmp .gt 7, 3) (List.mem_of_getElem? (i := 50) rfl)) rfl (fun b21 => ?_) (fun b21 => ?_)
      · refine w_iconst (by decide) (tX4_allows_0_ok (198, .iconst 0, 1) (List.mem_of_getElem? (i := 53) rfl)) (fun v22 e23 => ?_)
        refine w_zret rfl (by omega) (by omega) (tX4_allows_0_ok (199, .ireturn, 1) (List.mem_of_getElem? (i := 54) rfl)) ?_
        refine hq v22 ?_
        rw [sp_ok_98 b1]
        omega
      · refine w_iconst (by decide) (tX4_allows_0_ok (194, .iconst 1, 1) (List.mem_of_getElem? (i := 51) rfl)) (fun v24 e25 => ?_)
        refine w_goto (tgt := 199) (tX4_allows_0_ok (195, .goto 4, 3) (List.mem_of_getElem? (i := 52) rfl)) rfl ?_
        refine w_zret rfl (by omega) (by omega) (tX4_allows_0_ok (199, .ireturn, 1) (List.mem_of_getElem? (i := 54) rfl)) ?_
        refine hq v24 ?_
        rw [sp_ok_98 b1]
        omega
  · exfalso; unfold sp_ltr at hc; omega
  · exfalso; unfold sp_ltr at hc; omega
  · exfalso; unfold sp_ltr at hc; omega
  · exfalso; unfold sp_ltr at hc; omega
  · exfalso; unfold sp_ltr at hc; omega
  · refine w_tabIn (tgt := 200) (tX4_allows_0_ok (1, .tableswitch 235 97 120 #[165, 182, 235, 235, 235, 235, 235, 199, 235, 235, 111, 122, 235, 235, 235, 235, 235, 223, 211, 235, 235, 235, 235, 149], 111) (List.mem_of_getElem? (i := 1) rfl)) b1 (by decide) (by decide) rfl rfl ?_
    refine w_iload_n (List.Mem.tail _ (List.Mem.tail _ (List.Mem.tail _ (List.Mem.head _)))) (tX4_allows_0_ok (200, .iload_n 3, 1) (List.mem_of_getElem? (i := 55) rfl)) ?_
    refine w_bipush (by decide) (tX4_allows_0_ok (201, .bipush 99, 2) (List.mem_of_getElem? (i := 56) rfl)) (fun v26 e27 => ?_)
    refine w_icmp_gt (tgt := 210) (tX4_allows_0_ok (203, .if_icmp .gt 7, 3) (List.mem_of_getElem? (i := 57) rfl)) rfl (fun b28 => ?_) (fun b28 => ?_)
    · refine w_iconst (by decide) (tX4_allows_1_ok (210, .iconst 0, 1) (List.mem_of_getElem? (i := 0) rfl)) (fun v29 e30 => ?_)
      refine w_zret rfl (by omega) (by omega) (tX4_allows_1_ok (211, .ireturn, 1) (List.mem_of_getElem? (i := 1) rfl)) ?_
      refine hq v29 ?_
      rw [sp_ok_104 b1]
      omega
    · refine w_iconst (by decide) (tX4_allows_0_ok (206, .iconst 1, 1) (List.mem_of_getElem? (i := 58) rfl)) (fun v31 e32 => ?_)
      refine w_goto (tgt := 211) (tX4_allows_0_ok (207, .goto 4, 3) (List.mem_of_getElem? (i := 59) rfl)) rfl ?_
      refine w_zret rfl (by omega) (by omega) (tX4_allows_1_ok (211, .ireturn, 1) (List.mem_of_getElem? (i := 1) rfl)) ?_
      refine hq v31 ?_
      rw [sp_ok_104 b1]
      omega
  · exfalso; unfold sp_ltr at hc; omega
  · exfalso; unfold sp_ltr at hc; omega
  · refine w_tabIn (tgt := 112) (tX4_allows_0_ok (1, .tableswitch 235 97 120 #[165, 182, 235, 235, 235, 235, 235, 199, 235, 235, 111, 122, 235, 235, 235, 235, 235, 223, 211, 235, 235, 235, 235, 149], 111) (List.mem_of_getElem? (i := 1) rfl)) b1 (by decide) (by decide) rfl rfl ?_
    refine w_iload_n (List.Mem.tail _ (List.Mem.tail _ (List.Mem.tail _ (List.Mem.head _)))) (tX4_allows_0_ok (112, .iload_n 3, 1) (List.mem_of_getElem? (i := 2) rfl)) ?_
    refine w_iconst (by decide) (tX4_allows_0_ok (113, .iconst 2, 1) (List.mem_of_getElem? (i := 3) rfl)) (fun v33 e34 => ?_)
    refine w_icmp_gt (tgt := 121) (tX4_allows_0_ok (114, .if_icmp .gt 7, 3) (List.mem_of_getElem? (i := 4) rfl)) rfl (fun b35 => ?_) (fun b35 => ?_)
    · refine w_iconst (by decide) (tX4_allows_0_ok (121, .iconst 0, 1) (List.mem_of_getElem? (i := 7) rfl)) (fun v36 e37 => ?_)
      refine w_zret rfl (by omega) (by omega) (tX4_allows_0_ok (122, .ireturn, 1) (List.mem_of_getElem? (i := 8) rfl)) ?_
      refine hq v36 ?_
      rw [sp_ok_107 b1]
      omega
    · refine w_iconst (by decide) (tX4_allows_0_ok (117, .iconst 1, 1) (List.mem_of_getElem? (i := 5) rfl)) (fun v38 e39 => ?_)
      refine w_goto (tgt := 122) (tX4_allows_0_ok (118, .goto 4, 3) (List.mem_of_getElem? (i := 6) rfl)) rfl ?_
      refine w_zret rfl (by omega) (by omega) (tX4_allows_0_ok (122, .ireturn, 1) (List.mem_of_getElem? (i := 8) rfl)) ?_
      refine hq v38 ?_
      rw [sp_ok_107 b1]
      omega
  · refine w_tabIn (tgt := 123) (tX4_allows_0_ok (1, .tableswitch 235 97 120 #[165, 182, 235, 235, 235, 235, 235, 199, 235, 235, 111, 122, 235, 235, 235, 235, 235, 223, 211, 235, 235, 235, 235, 149], 111) (List.mem_of_getElem? (i := 1) rfl)) b1 (by decide) (by decide) rfl rfl ?_
    refine w_iload_n (List.Mem.tail _ (List.Mem.tail _ (List.Mem.tail _ (List.Mem.head _)))) (tX4_allows_0_ok (123, .iload_n 3, 1) (List.mem_of_getElem? (i := 9) rfl)) ?_
    refine w_iconst (by decide) (tX4_allows_0_ok (124, .iconst 2, 1) (List.mem_of_getElem? (i := 10) rfl)) (fun v40 e41 => ?_)
    refine w_icmp_lt (tgt := 148) (tX4_allows_0_ok (125, .if_icmp .lt 23, 3) (List.mem_of_getElem? (i := 11) rfl)) rfl (fun b42 => ?_) (fun b42 => ?_)
    · refine w_iconst (by decide) (tX4_allows_0_ok (148, .iconst 0, 1) (List.mem_of_getElem? (i := 23) rfl)) (fun v43 e44 => ?_)
      refine w_zret rfl (by omega) (by omega) (tX4_allows_0_ok (149, .ireturn, 1) (List.mem_of_getElem? (i := 24) rfl)) ?_
      refine hq v43 ?_
      rw [sp_ok_108 b1]
      omega
    · refine w_iload_n (List.Mem.tail _ (List.Mem.tail _ (List.Mem.tail _ (List.Mem.head _)))) (tX4_allows_0_ok (128, .iload_n 3, 1) (List.mem_of_getElem? (i := 12) rfl)) ?_
      refine w_bipush (by decide) (tX4_allows_0_ok (129, .bipush 20, 2) (List.mem_of_getElem? (i := 13) rfl)) (fun v45 e46 => ?_)
      refine w_icmp_gt (tgt := 148) (tX4_allows_0_ok (131, .if_icmp .gt 17, 3) (List.mem_of_getElem? (i := 14) rfl)) rfl (fun b47 => ?_) (fun b47 => ?_)
      · refine w_iconst (by decide) (tX4_allows_0_ok (148, .iconst 0, 1) (List.mem_of_getElem? (i := 23) rfl)) (fun v48 e49 => ?_)
        refine w_zret rfl (by omega) (by omega) (tX4_allows_0_ok (149, .ireturn, 1) (List.mem_of_getElem? (i := 24) rfl)) ?_
        refine hq v48 ?_
        rw [sp_ok_108 b1]
        omega
      · refine w_iload_n (List.Mem.tail _ (List.Mem.tail _ (List.Mem.tail _ (List.Mem.head _)))) (tX4_allows_0_ok (134, .iload_n 3, 1) (List.mem_of_getElem? (i := 15) rfl)) ?_
        refine w_aload_n (List.Mem.head _) (tX4_allows_0_ok (135, .aload_n 0, 1) (List.mem_of_getElem? (i := 16) rfl)) ?_
        refine w_get (own := 9) rfl rfl (by decide) c_P rfl (tX4_allows_0_ok (136, .getfield 18, 3) (List.mem_of_getElem? (i := 17) rfl)) ?_
        refine w_iload_n (List.Mem.tail _ (List.Mem.head _)) (tX4_allows_0_ok (139, .iload_n 1, 1) (List.mem_of_getElem? (i := 18) rfl)) ?_
        refine w_iald hT c_a3 (by omega) (by omega) (tX4_allows_0_ok (140, .iaload, 1) (List.mem_of_getElem? (i := 19) rfl)) (fun v50 e51 => ?_)
        refine w_icmp_lt (tgt := 148) (tX4_allows_0_ok (141, .if_icmp .lt 7, 3) (List.mem_of_getElem? (i := 20) rfl)) rfl (fun b52 => ?_) (fun b52 => ?_)
        · refine w_iconst (by decide) (tX4_allows_0_ok (148, .iconst 0, 1) (List.mem_of_getElem? (i := 23) rfl)) (fun v53 e54 => ?_)
          refine w_zret rfl (by omega) (by omega) (tX4_allows_0_ok (149, .ireturn, 1) (List.mem_of_getElem? (i := 24) rfl)) ?_
          refine hq v53 ?_
          rw [sp_ok_108 b1]
          omega
        · refine w_iconst (by decide) (tX4_allows_0_ok (144, .iconst 1, 1) (List.mem_of_getElem? (i := 21) rfl)) (fun v55 e56 => ?_)
          refine w_goto (tgt := 149) (tX4_allows_0_ok (145, .goto 4, 3) (List.mem_of_getElem? (i := 22) rfl)) rfl ?_
          refine w_zret rfl (by omega) (by omega) (tX4_allows_0_ok (149, .ireturn, 1) (List.mem_of_getElem? (i := 24) rfl)) ?_
          refine hq v55 ?_
          rw [sp_ok_108 b1]
          omega
  · exfalso; unfold sp_ltr at hc; omega
  · exfalso; unfold sp_ltr at hc; omega
  · exfalso; unfold sp_ltr at hc; omega
  · exfalso; unfold sp_ltr at hc; omega
  · exfalso; unfold sp_ltr at hc; omega
  · refine w_tabIn (tgt := 224) (tX4_allows_0_ok (1, .tableswitch 235 97 120 #[165, 182, 235, 235, 235, 235, 235, 199, 235, 235, 111, 122, 235, 235, 235, 235, 235, 223, 211, 235, 235, 235, 235, 149], 111) (List.mem_of_getElem? (i := 1) rfl)) b1 (by decide) (by decide) rfl rfl ?_
    refine w_iload_n (List.Mem.tail _ (List.Mem.tail _ (List.Mem.tail _ (List.Mem.head _)))) (tX4_allows_1_ok (224, .iload_n 3, 1) (List.mem_of_getElem? (i := 9) rfl)) ?_
    refine w_bipush (by decide) (tX4_allows_1_ok (225, .bipush 9, 2) (List.mem_of_getElem? (i := 10) rfl)) (fun v57 e58 => ?_)
    refine w_icmp_gt (tgt := 234) (tX4_allows_1_ok (227, .if_icmp .gt 7, 3) (List.mem_of_getElem? (i := 11) rfl)) rfl (fun b59 => ?_) (fun b59 => ?_)
    · refine w_iconst (by decide) (tX4_allows_1_ok (234, .iconst 0, 1) (List.mem_of_getElem? (i := 14) rfl)) (fun v60 e61 => ?_)
      refine w_zret rfl (by omega) (by omega) (tX4_allows_1_ok (235, .ireturn, 1) (List.mem_of_getElem? (i := 15) rfl)) ?_
      refine hq v60 ?_
      rw [sp_ok_114 b1]
      omega
    · refine w_iconst (by decide) (tX4_allows_1_ok (230, .iconst 1, 1) (List.mem_of_getElem? (i := 12) rfl)) (fun v62 e63 => ?_)
      refine w_goto (tgt := 235) (tX4_allows_1_ok (231, .goto 4, 3) (List.mem_of_getElem? (i := 13) rfl)) rfl ?_
      refine w_zret rfl (by omega) (by omega) (tX4_allows_1_ok (235, .ireturn, 1) (List.mem_of_getElem? (i := 15) rfl)) ?_
      refine hq v62 ?_
      rw [sp_ok_114 b1]
      omega
  · refine w_tabIn (tgt := 212) (tX4_allows_0_ok (1, .tableswitch 235 97 120 #[165, 182, 235, 235, 235, 235, 235, 199, 235, 235, 111, 122, 235, 235, 235, 235, 235, 223, 211, 235, 235, 235, 235, 149], 111) (List.mem_of_getElem? (i := 1) rfl)) b1 (by decide) (by decide) rfl rfl ?_
    refine w_iload_n (List.Mem.tail _ (List.Mem.tail _ (List.Mem.tail _ (List.Mem.head _)))) (tX4_allows_1_ok (212, .iload_n 3, 1) (List.mem_of_getElem? (i := 2) rfl)) ?_
    refine w_bipush (by decide) (tX4_allows_1_ok (213, .bipush 100, 2) (List.mem_of_getElem? (i := 3) rfl)) (fun v64 e65 => ?_)
    refine w_icmp_gt (tgt := 222) (tX4_allows_1_ok (215, .if_icmp .gt 7, 3) (List.mem_of_getElem? (i := 4) rfl)) rfl (fun b66 => ?_) (fun b66 => ?_)
    · refine w_iconst (by decide) (tX4_allows_1_ok (222, .iconst 0, 1) (List.mem_of_getElem? (i := 7) rfl)) (fun v67 e68 => ?_)
      refine w_zret rfl (by omega) (by omega) (tX4_allows_1_ok (223, .ireturn, 1) (List.mem_of_getElem? (i := 8) rfl)) ?_
      refine hq v67 ?_
      rw [sp_ok_115 b1]
      omega
    · refine w_iconst (by decide) (tX4_allows_1_ok (218, .iconst 1, 1) (List.mem_of_getElem? (i := 5) rfl)) (fun v69 e70 => ?_)
      refine w_goto (tgt := 223) (tX4_allows_1_ok (219, .goto 4, 3) (List.mem_of_getElem? (i := 6) rfl)) rfl ?_
      refine w_zret rfl (by omega) (by omega) (tX4_allows_1_ok (223, .ireturn, 1) (List.mem_of_getElem? (i := 8) rfl)) ?_
      refine hq v69 ?_
      rw [sp_ok_115 b1]
      omega
  · exfalso; unfold sp_ltr at hc; omega
  · refine w_tabIn (tgt := 236) (tX4_allows_0_ok (1, .tableswitch 235 97 120 #[165, 182, 235, 235, 235, 235, 235, 199, 235, 235, 111, 122, 235, 235, 235, 235, 235, 223, 211, 235, 235, 235, 235, 149], 111) (List.mem_of_getElem? (i := 1) rfl)) b1 (by decide) (by decide) rfl rfl ?_
    refine w_iload_n (List.Mem.tail _ (List.Mem.tail _ (List.Mem.tail _ (List.Mem.head _)))) (tX4_allows_1_ok (236, .iload_n 3, 1) (List.mem_of_getElem? (i := 16) rfl)) ?_
    refine w_iconst (by decide) (tX4_allows_1_ok (237, .iconst 2, 1) (List.mem_of_getElem? (i := 17) rfl)) (fun v71 e72 => ?_)
    refine w_iload_n (List.Mem.tail _ (List.Mem.head _)) (tX4_allows_1_ok (238, .iload_n 1, 1) (List.mem_of_getElem? (i := 18) rfl)) ?_
    refine w_imul (by assumption) (by omega) (by omega) (tX4_allows_1_ok (239, .imul, 1) (List.mem_of_getElem? (i := 19) rfl)) (fun v73 e74 => ?_)
    refine w_iconst (by decide) (tX4_allows_1_ok (240, .iconst 1, 1) (List.mem_of_getElem? (i := 20) rfl)) (fun v75 e76 => ?_)
    refine w_isub (by omega) (by omega) (tX4_allows_1_ok (241, .isub, 1) (List.mem_of_getElem? (i := 21) rfl)) (fun v77 e78 => ?_)
    refine w_icmp_gt (tgt := 249) (tX4_allows_1_ok (242, .if_icmp .gt 7, 3) (List.mem_of_getElem? (i := 22) rfl)) rfl (fun b79 => ?_) (fun b79 => ?_)
    · refine w_iconst (by decide) (tX4_allows_1_ok (249, .iconst 0, 1) (List.mem_of_getElem? (i := 25) rfl)) (fun v80 e81 => ?_)
      refine w_zret rfl (by omega) (by omega) (tX4_allows_1_ok (250, .ireturn, 1) (List.mem_of_getElem? (i := 26) rfl)) ?_
      refine hq v80 ?_
      rw [sp_ok_117 b1]
      omega
    · refine w_iconst (by decide) (tX4_allows_1_ok (245, .iconst 1, 1) (List.mem_of_getElem? (i := 23) rfl)) (fun v82 e83 => ?_)
      refine w_goto (tgt := 250) (tX4_allows_1_ok (246, .goto 4, 3) (List.mem_of_getElem? (i := 24) rfl)) rfl ?_
      refine w_zret rfl (by omega) (by omega) (tX4_allows_1_ok (250, .ireturn, 1) (List.mem_of_getElem? (i := 26) rfl)) ?_
      refine hq v82 ?_
      rw [sp_ok_117 b1]
      omega
  · exfalso; unfold sp_ltr at hc; omega
  · exfalso; unfold sp_ltr at hc; omega
  · refine w_tabIn (tgt := 150) (tX4_allows_0_ok (1, .tableswitch 235 97 120 #[165, 182, 235, 235, 235, 235, 235, 199, 235, 235, 111, 122, 235, 235, 235, 235, 235, 223, 211, 235, 235, 235, 235, 149], 111) (List.mem_of_getElem? (i := 1) rfl)) b1 (by decide) (by decide) rfl rfl ?_
    refine w_iload_n (List.Mem.tail _ (List.Mem.tail _ (List.Mem.tail _ (List.Mem.head _)))) (tX4_allows_0_ok (150, .iload_n 3, 1) (List.mem_of_getElem? (i := 25) rfl)) ?_
    refine w_aload_n (List.Mem.head _) (tX4_allows_0_ok (151, .aload_n 0, 1) (List.mem_of_getElem? (i := 26) rfl)) ?_
    refine w_get (own := 9) rfl rfl (by decide) c_P rfl (tX4_allows_0_ok (152, .getfield 15, 3) (List.mem_of_getElem? (i := 27) rfl)) ?_
    refine w_iload_n (List.Mem.tail _ (List.Mem.head _)) (tX4_allows_0_ok (155, .iload_n 1, 1) (List.mem_of_getElem? (i := 28) rfl)) ?_
    refine w_iald hT c_a2 (by omega) (by omega) (tX4_allows_0_ok (156, .iaload, 1) (List.mem_of_getElem? (i := 29) rfl)) (fun v84 e85 => ?_)
    refine w_icmp_gt (tgt := 164) (tX4_allows_0_ok (157, .if_icmp .gt 7, 3) (List.mem_of_getElem? (i := 30) rfl)) rfl (fun b86 => ?_) (fun b86 => ?_)
    · refine w_iconst (by decide) (tX4_allows_0_ok (164, .iconst 0, 1) (List.mem_of_getElem? (i := 33) rfl)) (fun v87 e88 => ?_)
      refine w_zret rfl (by omega) (by omega) (tX4_allows_0_ok (165, .ireturn, 1) (List.mem_of_getElem? (i := 34) rfl)) ?_
      refine hq v87 ?_
      rw [sp_ok_120 b1]
      omega
    · refine w_iconst (by decide) (tX4_allows_0_ok (160, .iconst 1, 1) (List.mem_of_getElem? (i := 31) rfl)) (fun v89 e90 => ?_)
      refine w_goto (tgt := 165) (tX4_allows_0_ok (161, .goto 4, 3) (List.mem_of_getElem? (i := 32) rfl)) rfl ?_
      refine w_zret rfl (by omega) (by omega) (tX4_allows_0_ok (165, .ireturn, 1) (List.mem_of_getElem? (i := 34) rfl)) ?_
      refine hq v89 ?_
      rw [sp_ok_120 b1]
      omega
theorem s_tell (hT : k_tys tys cA) {p c v : Int32} (hN : pns sg t b P a1 a2 a3 a4 a5 a6 a7 a8) (hp : 0 ≤ p.toInt ∧ p.toInt < 6) (hc : sp_ltr c.toInt) (hv : 0 ≤ v.toInt) (hk : sp_ok p.toInt (g2 p.toInt.toNat).toInt (g3 p.toInt.toNat).toInt c.toInt v.toInt) (H : pn cA h P a1 a2 a3 a4 a5 a6 a7 a8 g1 g2 g3) (hq : ∀ (h1 : ch_H) (k1 k2 k3 : Nat → Int32), pn cA h1 P a1 a2 a3 a4 a5 a6 a7 a8 k1 k2 k3 → (k1 p.toInt.toNat).toInt = sp_kv 107 c.toInt v.toInt (g1 p.toInt.toNat).toInt → (k2 p.toInt.toNat).toInt = sp_kv 108 c.toInt v.toInt (g2 p.toInt.toNat).toInt → (k3 p.toInt.toNat).toInt = sp_kv 120 c.toInt v.toInt (g3 p.toInt.toNat).toInt → (∀ q, sg q < 11 → h1 q = h q) → Q none h1) : ww l D tys A X fr lo mX4_tell Q 0 [(0, .ref P), (1, .int p), (2, .int c), (3, .int v)] [] h := by
  have N := hN
  obtain ⟨s_t, s_b, s_P, s_a1, s_a2, s_a3, s_a4, s_a5, s_a6, s_a7, s_a8⟩ := hN
  obtain ⟨⟨ro, c_P, ro1, ro2⟩, c_a1, c_a2, c_a3, ⟨g4, c_a4⟩, ⟨g5, c_a5⟩, ⟨g6, c_a6⟩, ⟨g7, c_a7⟩, ⟨g8, c_a8, g8b⟩, g2b⟩ := H
  refine w_iload_n (List.Mem.tail _ (List.Mem.tail _ (List.Mem.head _))) (tX4_tell_0_ok (0, .iload_n 2, 1) (List.mem_of_getElem? (i := 0) rfl)) ?_
  have b1 : (c.toInt < 97 ∨ 120 < c.toInt) ∨ c.toInt = 97 ∨ c.toInt = 98 ∨ c.toInt = 99 ∨ c.toInt = 100 ∨ c.toInt = 101 ∨ c.toInt = 102 ∨ c.toInt = 103 ∨ c.toInt = 104 ∨ c.toInt = 105 ∨ c.toInt = 106 ∨ c.toInt = 107 ∨ c.toInt = 108 ∨ c.toInt = 109 ∨ c.toInt = 110 ∨ c.toInt = 111 ∨ c.toInt = 112 ∨ c.toInt = 113 ∨ c.toInt = 114 ∨ c.toInt = 115 ∨ c.toInt = 116 ∨ c.toInt = 117 ∨ c.toInt = 118 ∨ c.toInt = 119 ∨ c.toInt = 120 := by omega
  rcases b1 with b1 | b1 | b1 | b1 | b1 | b1 | b1 | b1 | b1 | b1 | b1 | b1 | b1 | b1 | b1 | b1 | b1 | b1 | b1 | b1 | b1 | b1 | b1 | b1 | b1
  · exfalso; unfold sp_ltr at hc; omega
  · refine w_tabIn (tgt := 142) (tX4_tell_0_ok (1, .tableswitch 197 97 120 #[141, 153, 197, 197, 197, 197, 197, 167, 197, 197, 111, 121, 197, 197, 197, 197, 197, 187, 177, 197, 197, 197, 197, 131], 111) (List.mem_of_getElem? (i := 1) rfl)) b1 (by decide) (by decide) rfl rfl ?_
    refine w_aload_n (List.Mem.head _) (tX4_tell_0_ok (142, .aload_n 0, 1) (List.mem_of_getElem? (i := 20) rfl)) ?_
    refine w_get (own := 9) rfl rfl (by decide) c_P rfl (tX4_tell_0_ok (143, .getfield 21, 3) (List.mem_of_getElem? (i := 21) rfl)) ?_
    refine w_iconst (by decide) (tX4_tell_0_ok (146, .iconst 2, 1) (List.mem_of_getElem? (i := 22) rfl)) (fun v2 e3 => ?_)
    refine w_iload_n (List.Mem.tail _ (List.Mem.head _)) (tX4_tell_0_ok (147, .iload_n 1, 1) (List.mem_of_getElem? (i := 23) rfl)) ?_
    refine w_imul (by assumption) (by omega) (by omega) (tX4_tell_0_ok (148, .imul, 1) (List.mem_of_getElem? (i := 24) rfl)) (fun v4 e5 => ?_)
    refine w_iload_n (List.Mem.tail _ (List.Mem.tail _ (List.Mem.tail _ (List.Mem.head _)))) (tX4_tell_0_ok (149, .iload_n 3, 1) (List.mem_of_getElem? (i := 25) rfl)) ?_
    refine w_iast hT c_a4 (by omega) (by omega) (tX4_tell_0_ok (150, .iastore, 1) (List.mem_of_getElem? (i := 26) rfl)) (fun h6 c7 o8 => ?_)
    have c9 := (o8 P (pn_ne s_P s_a4 (by decide))).trans c_P
    have c10 := (o8 a1 (pn_ne s_a1 s_a4 (by decide))).trans c_a1
    have c11 := (o8 a2 (pn_ne s_a2 s_a4 (by decide))).trans c_a2
    have c12 := (o8 a3 (pn_ne s_a3 s_a4 (by decide))).trans c_a3
    have c13 := (o8 a5 (pn_ne s_a5 s_a4 (by decide))).trans c_a5
    have c14 := (o8 a6 (pn_ne s_a6 s_a4 (by decide))).trans c_a6
    have c15 := (o8 a7 (pn_ne s_a7 s_a4 (by decide))).trans c_a7
    have c16 := (o8 a8 (pn_ne s_a8 s_a4 (by decide))).trans c_a8
    refine w_goto (tgt := 205) (tX4_tell_0_ok (151, .goto 54, 3) (List.mem_of_getElem? (i := 27) rfl)) rfl ?_
    refine w_vret rfl (tX4_tell_1_ok (205, .return_, 1) (List.mem_of_getElem? (i := 1) rfl)) ?_
    have k9 := (sp_ok_97 b1).mp hk
    refine hq h6 g1 g2 g3 ⟨⟨_, c9, by omega, by omega⟩, c10, c11, c12, ⟨_, c7⟩, ⟨_, c13⟩, ⟨_, c14⟩, ⟨_, c15⟩, ⟨_, c16, g8b⟩, g2b⟩ ?_ ?_ ?_ (fun q hq => o8 q (pn_nl hq s_a4 (by decide)))
    · unfold sp_kv; rw [if_neg (by omega)]
    · unfold sp_kv; rw [if_neg (by omega)]
    · unfold sp_kv; rw [if_neg (by omega)]
  · refine w_tabIn (tgt := 154) (tX4_tell_0_ok (1, .tableswitch 197 97 120 #[141, 153, 197, 197, 197, 197, 197, 167, 197, 197, 111, 121, 197, 197, 197, 197, 197, 187, 177, 197, 197, 197, 197, 131], 111) (List.mem_of_getElem? (i := 1) rfl)) b1 (by decide) (by decide) rfl rfl ?_
    refine w_aload_n (List.Mem.head _) (tX4_tell_0_ok (154, .aload_n 0, 1) (List.mem_of_getElem? (i := 28) rfl)) ?_
    refine w_get (own := 9) rfl rfl (by decide) c_P rfl (tX4_tell_0_ok (155, .getfield 21, 3) (List.mem_of_getElem? (i := 29) rfl)) ?_
    refine w_iconst (by decide) (tX4_tell_0_ok (158, .iconst 2, 1) (List.mem_of_getElem? (i := 30) rfl)) (fun v17 e18 => ?_)
    refine w_iload_n (List.Mem.tail _ (List.Mem.head _)) (tX4_tell_0_ok (159, .iload_n 1, 1) (List.mem_of_getElem? (i := 31) rfl)) ?_
    refine w_imul (by assumption) (by omega) (by omega) (tX4_tell_0_ok (160, .imul, 1) (List.mem_of_getElem? (i := 32) rfl)) (fun v19 e20 => ?_)
    refine w_iconst (by decide) (tX4_tell_0_ok (161, .iconst 1, 1) (List.mem_of_getElem? (i := 33) rfl)) (fun v21 e22 => ?_)
    refine w_iadd (by omega) (by omega) (tX4_tell_0_ok (162, .iadd, 1) (List.mem_of_getElem? (i := 34) rfl)) (fun v23 e24 => ?_)
    refine w_iload_n (List.Mem.tail _ (List.Mem.tail _ (List.Mem.tail _ (List.Mem.head _)))) (tX4_tell_0_ok (163, .iload_n 3, 1) (List.mem_of_getElem? (i := 35) rfl)) ?_
    refine w_iast hT c_a4 (by omega) (by omega) (tX4_tell_0_ok (164, .iastore, 1) (List.mem_of_getElem? (i := 36) rfl)) (fun h25 c26 o27 => ?_)
    have c28 := (o27 P (pn_ne s_P s_a4 (by decide))).trans c_P
    have c29 := (o27 a1 (pn_ne s_a1 s_a4 (by decide))).trans c_a1
    have c30 := (o27 a2 (pn_ne s_a2 s_a4 (by decide))).trans c_a2
    have c31 := (o27 a3 (pn_ne s_a3 s_a4 (by decide))).trans c_a3
    have c32 := (o27 a5 (pn_ne s_a5 s_a4 (by decide))).trans c_a5
    have c33 := (o27 a6 (pn_ne s_a6 s_a4 (by decide))).trans c_a6
    have c34 := (o27 a7 (pn_ne s_a7 s_a4 (by decide))).trans c_a7
    have c35 := (o27 a8 (pn_ne s_a8 s_a4 (by decide))).trans c_a8
    refine w_goto (tgt := 205) (tX4_tell_0_ok (165, .goto 40, 3) (List.mem_of_getElem? (i := 37) rfl)) rfl ?_
    refine w_vret rfl (tX4_tell_1_ok (205, .return_, 1) (List.mem_of_getElem? (i := 1) rfl)) ?_
    have k9 := (sp_ok_98 b1).mp hk
    refine hq h25 g1 g2 g3 ⟨⟨_, c28, by omega, by omega⟩, c29, c30, c31, ⟨_, c26⟩, ⟨_, c32⟩, ⟨_, c33⟩, ⟨_, c34⟩, ⟨_, c35, g8b⟩, g2b⟩ ?_ ?_ ?_ (fun q hq => o27 q (pn_nl hq s_a4 (by decide)))
    · unfold sp_kv; rw [if_neg (by omega)]
    · unfold sp_kv; rw [if_neg (by omega)]
    · unfold sp_kv; rw [if_neg (by omega)]
  · exfalso; unfold sp_ltr at hc; omega
  · exfalso; unfold sp_ltr at hc; omega
  · exfalso; unfold sp_ltr at hc; omega
  · exfalso; unfold sp_ltr at hc; omega
  · exfalso; unfold sp_ltr at hc; omega
  · refine w_tabIn (tgt := 168) (tX4_tell_0_ok (1, .tableswitch 197 97 120 #[141, 153, 197, 197, 197, 197, 197, 167, 197, 197, 111, 121, 197, 197, 197, 197, 197, 187, 177, 197, 197, 197, 197, 131], 111) (List.mem_of_getElem? (i := 1) rfl)) b1 (by decide) (by decide) rfl rfl ?_
    refine w_aload_n (List.Mem.head _) (tX4_tell_0_ok (168, .aload_n 0, 1) (List.mem_of_getElem? (i := 38) rfl)) ?_
    refine w_get (own := 9) rfl rfl (by decide) c_P rfl (tX4_tell_0_ok (169, .getfield 24, 3) (List.mem_of_getElem? (i := 39) rfl)) ?_
    refine w_iload_n (List.Mem.tail _ (List.Mem.head _)) (tX4_tell_0_ok (172, .iload_n 1, 1) (List.mem_of_getElem? (i := 40) rfl)) ?_
    refine w_iload_n (List.Mem.tail _ (List.Mem.tail _ (List.Mem.tail _ (List.Mem.head _)))) (tX4_tell_0_ok (173, .iload_n 3, 1) (List.mem_of_getElem? (i := 41) rfl)) ?_
    refine w_iast hT c_a5 (by omega) (by omega) (tX4_tell_0_ok (174, .iastore, 1) (List.mem_of_getElem? (i := 42) rfl)) (fun h36 c37 o38 => ?_)
    have c39 := (o38 P (pn_ne s_P s_a5 (by decide))).trans c_P
    have c40 := (o38 a1 (pn_ne s_a1 s_a5 (by decide))).trans c_a1
    have c41 := (o38 a2 (pn_ne s_a2 s_a5 (by decide))).trans c_a2
    have c42 := (o38 a3 (pn_ne s_a3 s_a5 (by decide))).trans c_a3
    have c43 := (o38 a4 (pn_ne s_a4 s_a5 (by decide))).trans c_a4
    have c44 := (o38 a6 (pn_ne s_a6 s_a5 (by decide))).trans c_a6
    have c45 := (o38 a7 (pn_ne s_a7 s_a5 (by decide))).trans c_a7
    have c46 := (o38 a8 (pn_ne s_a8 s_a5 (by decide))).trans c_a8
    refine w_goto (tgt := 205) (tX4_tell_0_ok (175, .goto 30, 3) (List.mem_of_getElem? (i := 43) rfl)) rfl ?_
    refine w_vret rfl (tX4_tell_1_ok (205, .return_, 1) (List.mem_of_getElem? (i := 1) rfl)) ?_
    have k9 := (sp_ok_104 b1).mp hk
    refine hq h36 g1 g2 g3 ⟨⟨_, c39, by omega, by omega⟩, c40, c41, c42, ⟨_, c43⟩, ⟨_, c37⟩, ⟨_, c44⟩, ⟨_, c45⟩, ⟨_, c46, g8b⟩, g2b⟩ ?_ ?_ ?_ (fun q hq => o38 q (pn_nl hq s_a5 (by decide)))
    · unfold sp_kv; rw [if_neg (by omega)]
    · unfold sp_kv; rw [if_neg (by omega)]
    · unfold sp_kv; rw [if_neg (by omega)]
  · exfalso; unfold sp_ltr at hc; omega
  · exfalso; unfold sp_ltr at hc; omega
  · refine w_tabIn (tgt := 112) (tX4_tell_0_ok (1, .tableswitch 197 97 120 #[141, 153, 197, 197, 197, 197, 197, 167, 197, 197, 111, 121, 197, 197, 197, 197, 197, 187, 177, 197, 197, 197, 197, 131], 111) (List.mem_of_getElem? (i := 1) rfl)) b1 (by decide) (by decide) rfl rfl ?_
    refine w_aload_n (List.Mem.head _) (tX4_tell_0_ok (112, .aload_n 0, 1) (List.mem_of_getElem? (i := 2) rfl)) ?_
    refine w_get (own := 9) rfl rfl (by decide) c_P rfl (tX4_tell_0_ok (113, .getfield 9, 3) (List.mem_of_getElem? (i := 3) rfl)) ?_
    refine w_iload_n (List.Mem.tail _ (List.Mem.head _)) (tX4_tell_0_ok (116, .iload_n 1, 1) (List.mem_of_getElem? (i := 4) rfl)) ?_
    refine w_iload_n (List.Mem.tail _ (List.Mem.tail _ (List.Mem.tail _ (List.Mem.head _)))) (tX4_tell_0_ok (117, .iload_n 3, 1) (List.mem_of_getElem? (i := 5) rfl)) ?_
    refine w_iast hT c_a1 (by omega) (by omega) (tX4_tell_0_ok (118, .iastore, 1) (List.mem_of_getElem? (i := 6) rfl)) (fun h47 c48 o49 => ?_)
    have c50 := (o49 P (pn_ne s_P s_a1 (by decide))).trans c_P
    have c51 := (o49 a2 (pn_ne s_a2 s_a1 (by decide))).trans c_a2
    have c52 := (o49 a3 (pn_ne s_a3 s_a1 (by decide))).trans c_a3
    have c53 := (o49 a4 (pn_ne s_a4 s_a1 (by decide))).trans c_a4
    have c54 := (o49 a5 (pn_ne s_a5 s_a1 (by decide))).trans c_a5
    have c55 := (o49 a6 (pn_ne s_a6 s_a1 (by decide))).trans c_a6
    have c56 := (o49 a7 (pn_ne s_a7 s_a1 (by decide))).trans c_a7
    have c57 := (o49 a8 (pn_ne s_a8 s_a1 (by decide))).trans c_a8
    refine w_goto (tgt := 205) (tX4_tell_0_ok (119, .goto 86, 3) (List.mem_of_getElem? (i := 7) rfl)) rfl ?_
    refine w_vret rfl (tX4_tell_1_ok (205, .return_, 1) (List.mem_of_getElem? (i := 1) rfl)) ?_
    have k9 := (sp_ok_107 b1).mp hk
    refine hq h47 (upd g1 p.toInt.toNat v) g2 g3 ⟨⟨_, c50, by omega, by omega⟩, c48, c51, c52, ⟨_, c53⟩, ⟨_, c54⟩, ⟨_, c55⟩, ⟨_, c56⟩, ⟨_, c57, g8b⟩, g2b⟩ ?_ ?_ ?_ (fun q hq => o49 q (pn_nl hq s_a1 (by decide)))
    · unfold sp_kv; rw [upd_s, if_pos (by omega)]
    · unfold sp_kv; rw [if_neg (by omega)]
    · unfold sp_kv; rw [if_neg (by omega)]
  · refine w_tabIn (tgt := 122) (tX4_tell_0_ok (1, .tableswitch 197 97 120 #[141, 153, 197, 197, 197, 197, 197, 167, 197, 197, 111, 121, 197, 197, 197, 197, 197, 187, 177, 197, 197, 197, 197, 131], 111) (List.mem_of_getElem? (i := 1) rfl)) b1 (by decide) (by decide) rfl rfl ?_
    refine w_aload_n (List.Mem.head _) (tX4_tell_0_ok (122, .aload_n 0, 1) (List.mem_of_getElem? (i := 8) rfl)) ?_
    refine w_get (own := 9) rfl rfl (by decide) c_P rfl (tX4_tell_0_ok (123, .getfield 15, 3) (List.mem_of_getElem? (i := 9) rfl)) ?_
    refine w_iload_n (List.Mem.tail _ (List.Mem.head _)) (tX4_tell_0_ok (126, .iload_n 1, 1) (List.mem_of_getElem? (i := 10) rfl)) ?_
    refine w_iload_n (List.Mem.tail _ (List.Mem.tail _ (List.Mem.tail _ (List.Mem.head _)))) (tX4_tell_0_ok (127, .iload_n 3, 1) (List.mem_of_getElem? (i := 11) rfl)) ?_
    refine w_iast hT c_a2 (by omega) (by omega) (tX4_tell_0_ok (128, .iastore, 1) (List.mem_of_getElem? (i := 12) rfl)) (fun h58 c59 o60 => ?_)
    have c61 := (o60 P (pn_ne s_P s_a2 (by decide))).trans c_P
    have c62 := (o60 a1 (pn_ne s_a1 s_a2 (by decide))).trans c_a1
    have c63 := (o60 a3 (pn_ne s_a3 s_a2 (by decide))).trans c_a3
    have c64 := (o60 a4 (pn_ne s_a4 s_a2 (by decide))).trans c_a4
    have c65 := (o60 a5 (pn_ne s_a5 s_a2 (by decide))).trans c_a5
    have c66 := (o60 a6 (pn_ne s_a6 s_a2 (by decide))).trans c_a6
    have c67 := (o60 a7 (pn_ne s_a7 s_a2 (by decide))).trans c_a7
    have c68 := (o60 a8 (pn_ne s_a8 s_a2 (by decide))).trans c_a8
    refine w_goto (tgt := 205) (tX4_tell_0_ok (129, .goto 76, 3) (List.mem_of_getElem? (i := 13) rfl)) rfl ?_
    refine w_vret rfl (tX4_tell_1_ok (205, .return_, 1) (List.mem_of_getElem? (i := 1) rfl)) ?_
    have k9 := (sp_ok_108 b1).mp hk
    refine hq h58 g1 (upd g2 p.toInt.toNat v) g3 ⟨⟨_, c61, by omega, by omega⟩, c62, c59, c63, ⟨_, c64⟩, ⟨_, c65⟩, ⟨_, c66⟩, ⟨_, c67⟩, ⟨_, c68, g8b⟩, (upd_bd g2b (by omega))⟩ ?_ ?_ ?_ (fun q hq => o60 q (pn_nl hq s_a2 (by decide)))
    · unfold sp_kv; rw [if_neg (by omega)]
    · unfold sp_kv; rw [upd_s, if_pos (by omega)]
    · unfold sp_kv; rw [if_neg (by omega)]
  · exfalso; unfold sp_ltr at hc; omega
  · exfalso; unfold sp_ltr at hc; omega
  · exfalso; unfold sp_ltr at hc; omega
  · exfalso; unfold sp_ltr at hc; omega
  · exfalso; unfold sp_ltr at hc; omega
  · refine w_tabIn (tgt := 188) (tX4_tell_0_ok (1, .tableswitch 197 97 120 #[141, 153, 197, 197, 197, 197, 197, 167, 197, 197, 111, 121, 197, 197, 197, 197, 197, 187, 177, 197, 197, 197, 197, 131], 111) (List.mem_of_getElem? (i := 1) rfl)) b1 (by decide) (by decide) rfl rfl ?_
    refine w_aload_n (List.Mem.head _) (tX4_tell_0_ok (188, .aload_n 0, 1) (List.mem_of_getElem? (i := 50) rfl)) ?_
    refine w_get (own := 9) rfl rfl (by decide) c_P rfl (tX4_tell_0_ok (189, .getfield 30, 3) (List.mem_of_getElem? (i := 51) rfl)) ?_
    refine w_iload_n (List.Mem.tail _ (List.Mem.head _)) (tX4_tell_0_ok (192, .iload_n 1, 1) (List.mem_of_getElem? (i := 52) rfl)) ?_
    refine w_iload_n (List.Mem.tail _ (List.Mem.tail _ (List.Mem.tail _ (List.Mem.head _)))) (tX4_tell_0_ok (193, .iload_n 3, 1) (List.mem_of_getElem? (i := 53) rfl)) ?_
    refine w_iast hT c_a7 (by omega) (by omega) (tX4_tell_0_ok (194, .iastore, 1) (List.mem_of_getElem? (i := 54) rfl)) (fun h69 c70 o71 => ?_)
    have c72 := (o71 P (pn_ne s_P s_a7 (by decide))).trans c_P
    have c73 := (o71 a1 (pn_ne s_a1 s_a7 (by decide))).trans c_a1
    have c74 := (o71 a2 (pn_ne s_a2 s_a7 (by decide))).trans c_a2
    have c75 := (o71 a3 (pn_ne s_a3 s_a7 (by decide))).trans c_a3
    have c76 := (o71 a4 (pn_ne s_a4 s_a7 (by decide))).trans c_a4
    have c77 := (o71 a5 (pn_ne s_a5 s_a7 (by decide))).trans c_a5
    have c78 := (o71 a6 (pn_ne s_a6 s_a7 (by decide))).trans c_a6
    have c79 := (o71 a8 (pn_ne s_a8 s_a7 (by decide))).trans c_a8
    refine w_goto (tgt := 205) (tX4_tell_0_ok (195, .goto 10, 3) (List.mem_of_getElem? (i := 55) rfl)) rfl ?_
    refine w_vret rfl (tX4_tell_1_ok (205, .return_, 1) (List.mem_of_getElem? (i := 1) rfl)) ?_
    have k9 := (sp_ok_114 b1).mp hk
    refine hq h69 g1 g2 g3 ⟨⟨_, c72, by omega, by omega⟩, c73, c74, c75, ⟨_, c76⟩, ⟨_, c77⟩, ⟨_, c78⟩, ⟨_, c70⟩, ⟨_, c79, g8b⟩, g2b⟩ ?_ ?_ ?_ (fun q hq => o71 q (pn_nl hq s_a7 (by decide)))
    · unfold sp_kv; rw [if_neg (by omega)]
    · unfold sp_kv; rw [if_neg (by omega)]
    · unfold sp_kv; rw [if_neg (by omega)]
  · refine w_tabIn (tgt := 178) (tX4_tell_0_ok (1, .tableswitch 197 97 120 #[141, 153, 197, 197, 197, 197, 197, 167, 197, 197, 111, 121, 197, 197, 197, 197, 197, 187, 177, 197, 197, 197, 197, 131], 111) (List.mem_of_getElem? (i := 1) rfl)) b1 (by decide) (by decide) rfl rfl ?_
    refine w_aload_n (List.Mem.head _) (tX4_tell_0_ok (178, .aload_n 0, 1) (List.mem_of_getElem? (i := 44) rfl)) ?_
    refine w_get (own := 9) rfl rfl (by decide) c_P rfl (tX4_tell_0_ok (179, .getfield 27, 3) (List.mem_of_getElem? (i := 45) rfl)) ?_
    refine w_iload_n (List.Mem.tail _ (List.Mem.head _)) (tX4_tell_0_ok (182, .iload_n 1, 1) (List.mem_of_getElem? (i := 46) rfl)) ?_
    refine w_iload_n (List.Mem.tail _ (List.Mem.tail _ (List.Mem.tail _ (List.Mem.head _)))) (tX4_tell_0_ok (183, .iload_n 3, 1) (List.mem_of_getElem? (i := 47) rfl)) ?_
    refine w_iast hT c_a6 (by omega) (by omega) (tX4_tell_0_ok (184, .iastore, 1) (List.mem_of_getElem? (i := 48) rfl)) (fun h80 c81 o82 => ?_)
    have c83 := (o82 P (pn_ne s_P s_a6 (by decide))).trans c_P
    have c84 := (o82 a1 (pn_ne s_a1 s_a6 (by decide))).trans c_a1
    have c85 := (o82 a2 (pn_ne s_a2 s_a6 (by decide))).trans c_a2
    have c86 := (o82 a3 (pn_ne s_a3 s_a6 (by decide))).trans c_a3
    have c87 := (o82 a4 (pn_ne s_a4 s_a6 (by decide))).trans c_a4
    have c88 := (o82 a5 (pn_ne s_a5 s_a6 (by decide))).trans c_a5
    have c89 := (o82 a7 (pn_ne s_a7 s_a6 (by decide))).trans c_a7
    have c90 := (o82 a8 (pn_ne s_a8 s_a6 (by decide))).trans c_a8
    refine w_goto (tgt := 205) (tX4_tell_0_ok (185, .goto 20, 3) (List.mem_of_getElem? (i := 49) rfl)) rfl ?_
    refine w_vret rfl (tX4_tell_1_ok (205, .return_, 1) (List.mem_of_getElem? (i := 1) rfl)) ?_
    have k9 := (sp_ok_115 b1).mp hk
    refine hq h80 g1 g2 g3 ⟨⟨_, c83, by omega, by omega⟩, c84, c85, c86, ⟨_, c87⟩, ⟨_, c88⟩, ⟨_, c81⟩, ⟨_, c89⟩, ⟨_, c90, g8b⟩, g2b⟩ ?_ ?_ ?_ (fun q hq => o82 q (pn_nl hq s_a6 (by decide)))
    · unfold sp_kv; rw [if_neg (by omega)]
    · unfold sp_kv; rw [if_neg (by omega)]
    · unfold sp_kv; rw [if_neg (by omega)]
  · exfalso; unfold sp_ltr at hc; omega
  · refine w_tabIn (tgt := 198) (tX4_tell_0_ok (1, .tableswitch 197 97 120 #[141, 153, 197, 197, 197, 197, 197, 167, 197, 197, 111, 121, 197, 197, 197, 197, 197, 187, 177, 197, 197, 197, 197, 131], 111) (List.mem_of_getElem? (i := 1) rfl)) b1 (by decide) (by decide) rfl rfl ?_
    refine w_aload_n (List.Mem.head _) (tX4_tell_0_ok (198, .aload_n 0, 1) (List.mem_of_getElem? (i := 56) rfl)) ?_
    refine w_get (own := 9) rfl rfl (by decide) c_P rfl (tX4_tell_0_ok (199, .getfield 33, 3) (List.mem_of_getElem? (i := 57) rfl)) ?_
    refine w_iload_n (List.Mem.tail _ (List.Mem.head _)) (tX4_tell_0_ok (202, .iload_n 1, 1) (List.mem_of_getElem? (i := 58) rfl)) ?_
    refine w_iload_n (List.Mem.tail _ (List.Mem.tail _ (List.Mem.tail _ (List.Mem.head _)))) (tX4_tell_0_ok (203, .iload_n 3, 1) (List.mem_of_getElem? (i := 59) rfl)) ?_
    refine w_iast hT c_a8 (by omega) (by omega) (tX4_tell_1_ok (204, .iastore, 1) (List.mem_of_getElem? (i := 0) rfl)) (fun h91 c92 o93 => ?_)
    have c94 := (o93 P (pn_ne s_P s_a8 (by decide))).trans c_P
    have c95 := (o93 a1 (pn_ne s_a1 s_a8 (by decide))).trans c_a1
    have c96 := (o93 a2 (pn_ne s_a2 s_a8 (by decide))).trans c_a2
    have c97 := (o93 a3 (pn_ne s_a3 s_a8 (by decide))).trans c_a3
    have c98 := (o93 a4 (pn_ne s_a4 s_a8 (by decide))).trans c_a4
    have c99 := (o93 a5 (pn_ne s_a5 s_a8 (by decide))).trans c_a5
    have c100 := (o93 a6 (pn_ne s_a6 s_a8 (by decide))).trans c_a6
    have c101 := (o93 a7 (pn_ne s_a7 s_a8 (by decide))).trans c_a7
    refine w_vret rfl (tX4_tell_1_ok (205, .return_, 1) (List.mem_of_getElem? (i := 1) rfl)) ?_
    have k9 := (sp_ok_117 b1).mp hk
    refine hq h91 g1 g2 g3 ⟨⟨_, c94, by omega, by omega⟩, c95, c96, c97, ⟨_, c98⟩, ⟨_, c99⟩, ⟨_, c100⟩, ⟨_, c101⟩, ⟨_, c92, (upd_bd g8b (by omega))⟩, g2b⟩ ?_ ?_ ?_ (fun q hq => o93 q (pn_nl hq s_a8 (by decide)))
    · unfold sp_kv; rw [if_neg (by omega)]
    · unfold sp_kv; rw [if_neg (by omega)]
    · unfold sp_kv; rw [if_neg (by omega)]
  · exfalso; unfold sp_ltr at hc; omega
  · exfalso; unfold sp_ltr at hc; omega
  · refine w_tabIn (tgt := 132) (tX4_tell_0_ok (1, .tableswitch 197 97 120 #[141, 153, 197, 197, 197, 197, 197, 167, 197, 197, 111, 121, 197, 197, 197, 197, 197, 187, 177, 197, 197, 197, 197, 131], 111) (List.mem_of_getElem? (i := 1) rfl)) b1 (by decide) (by decide) rfl rfl ?_
    refine w_aload_n (List.Mem.head _) (tX4_tell_0_ok (132, .aload_n 0, 1) (List.mem_of_getElem? (i := 14) rfl)) ?_
    refine w_get (own := 9) rfl rfl (by decide) c_P rfl (tX4_tell_0_ok (133, .getfield 18, 3) (List.mem_of_getElem? (i := 15) rfl)) ?_
    refine w_iload_n (List.Mem.tail _ (List.Mem.head _)) (tX4_tell_0_ok (136, .iload_n 1, 1) (List.mem_of_getElem? (i := 16) rfl)) ?_
    refine w_iload_n (List.Mem.tail _ (List.Mem.tail _ (List.Mem.tail _ (List.Mem.head _)))) (tX4_tell_0_ok (137, .iload_n 3, 1) (List.mem_of_getElem? (i := 17) rfl)) ?_
    refine w_iast hT c_a3 (by omega) (by omega) (tX4_tell_0_ok (138, .iastore, 1) (List.mem_of_getElem? (i := 18) rfl)) (fun h102 c103 o104 => ?_)
    have c105 := (o104 P (pn_ne s_P s_a3 (by decide))).trans c_P
    have c106 := (o104 a1 (pn_ne s_a1 s_a3 (by decide))).trans c_a1
    have c107 := (o104 a2 (pn_ne s_a2 s_a3 (by decide))).trans c_a2
    have c108 := (o104 a4 (pn_ne s_a4 s_a3 (by decide))).trans c_a4
    have c109 := (o104 a5 (pn_ne s_a5 s_a3 (by decide))).trans c_a5
    have c110 := (o104 a6 (pn_ne s_a6 s_a3 (by decide))).trans c_a6
    have c111 := (o104 a7 (pn_ne s_a7 s_a3 (by decide))).trans c_a7
    have c112 := (o104 a8 (pn_ne s_a8 s_a3 (by decide))).trans c_a8
    refine w_goto (tgt := 205) (tX4_tell_0_ok (139, .goto 66, 3) (List.mem_of_getElem? (i := 19) rfl)) rfl ?_
    refine w_vret rfl (tX4_tell_1_ok (205, .return_, 1) (List.mem_of_getElem? (i := 1) rfl)) ?_
    have k9 := (sp_ok_120 b1).mp hk
    refine hq h102 g1 g2 (upd g3 p.toInt.toNat v) ⟨⟨_, c105, by omega, by omega⟩, c106, c107, c103, ⟨_, c108⟩, ⟨_, c109⟩, ⟨_, c110⟩, ⟨_, c111⟩, ⟨_, c112, g8b⟩, g2b⟩ ?_ ?_ ?_ (fun q hq => o104 q (pn_nl hq s_a3 (by decide)))
    · unfold sp_kv; rw [if_neg (by omega)]
    · unfold sp_kv; rw [if_neg (by omega)]
    · unfold sp_kv; rw [upd_s, if_pos (by omega)]
theorem s_isUneven (hT : k_tys tys cA) {p : Int32} (hp : 0 ≤ p.toInt ∧ p.toInt < 6) (hx : 0 ≤ (g3 p.toInt.toNat).toInt ∧ (g3 p.toInt.toNat).toInt ≤ 20) (H : pn cA h P a1 a2 a3 a4 a5 a6 a7 a8 g1 g2 g3) (hq : ∀ r : Int32, (sp_odd (g1 p.toInt.toNat).toInt (g2 p.toInt.toNat).toInt (g3 p.toInt.toNat).toInt ∧ r.toInt = 1 ∨ ¬ sp_odd (g1 p.toInt.toNat).toInt (g2 p.toInt.toNat).toInt (g3 p.toInt.toNat).toInt ∧ r.toInt = 0) → Q (some (.int r)) h) : ww l D tys A X fr lo mX4_isUneven Q 0 [(0, .ref P), (1, .int p)] [] h := by
  obtain ⟨⟨ro, c_P, ro1, ro2⟩, c_a1, c_a2, c_a3, ⟨g4, c_a4⟩, ⟨g5, c_a5⟩, ⟨g6, c_a6⟩, ⟨g7, c_a7⟩, ⟨g8, c_a8, g8b⟩, g2b⟩ := H
  have g2p := g2b p.toInt.toNat (by omega)
  refine w_aload_n (List.Mem.head _) (tX4_isUneven_0_ok (0, .aload_n 0, 1) (List.mem_of_getElem? (i := 0) rfl)) ?_
  refine w_get (own := 9) rfl rfl (by decide) c_P rfl (tX4_isUneven_0_ok (1, .getfield 9, 3) (List.mem_of_getElem? (i := 1) rfl)) ?_
  refine w_iload_n (List.Mem.tail _ (List.Mem.head _)) (tX4_isUneven_0_ok (4, .iload_n 1, 1) (List.mem_of_getElem? (i := 2) rfl)) ?_
  refine w_iald hT c_a1 (by omega) (by omega) (tX4_isUneven_0_ok (5, .iaload, 1) (List.mem_of_getElem? (i := 3) rfl)) (fun v1 e2 => ?_)
  refine w_iconst (by decide) (tX4_isUneven_0_ok (6, .iconst 1, 1) (List.mem_of_getElem? (i := 4) rfl)) (fun v3 e4 => ?_)
  refine w_icmp_ne (tgt := 32) (tX4_isUneven_0_ok (7, .if_icmp .ne 25, 3) (List.mem_of_getElem? (i := 5) rfl)) rfl (fun b5 => ?_) (fun b5 => ?_)
  · refine w_iconst (by decide) (tX4_isUneven_0_ok (32, .iconst 0, 1) (List.mem_of_getElem? (i := 20) rfl)) (fun v6 e7 => ?_)
    refine w_zret rfl (by omega) (by omega) (tX4_isUneven_0_ok (33, .ireturn, 1) (List.mem_of_getElem? (i := 21) rfl)) ?_
    exact hq v6 (by omega)
  · refine w_aload_n (List.Mem.head _) (tX4_isUneven_0_ok (10, .aload_n 0, 1) (List.mem_of_getElem? (i := 6) rfl)) ?_
    refine w_get (own := 9) rfl rfl (by decide) c_P rfl (tX4_isUneven_0_ok (11, .getfield 15, 3) (List.mem_of_getElem? (i := 7) rfl)) ?_
    refine w_iload_n (List.Mem.tail _ (List.Mem.head _)) (tX4_isUneven_0_ok (14, .iload_n 1, 1) (List.mem_of_getElem? (i := 8) rfl)) ?_
    refine w_iald hT c_a2 (by omega) (by omega) (tX4_isUneven_0_ok (15, .iaload, 1) (List.mem_of_getElem? (i := 9) rfl)) (fun v8 e9 => ?_)
    refine w_aload_n (List.Mem.head _) (tX4_isUneven_0_ok (16, .aload_n 0, 1) (List.mem_of_getElem? (i := 10) rfl)) ?_
    refine w_get (own := 9) rfl rfl (by decide) c_P rfl (tX4_isUneven_0_ok (17, .getfield 18, 3) (List.mem_of_getElem? (i := 11) rfl)) ?_
    refine w_iload_n (List.Mem.tail _ (List.Mem.head _)) (tX4_isUneven_0_ok (20, .iload_n 1, 1) (List.mem_of_getElem? (i := 12) rfl)) ?_
    refine w_iald hT c_a3 (by omega) (by omega) (tX4_isUneven_0_ok (21, .iaload, 1) (List.mem_of_getElem? (i := 13) rfl)) (fun v10 e11 => ?_)
    refine w_ior (tX4_isUneven_0_ok (22, .ior, 1) (List.mem_of_getElem? (i := 14) rfl)) (fun v12 e13 => ?_)
    refine w_iconst (by decide) (tX4_isUneven_0_ok (23, .iconst 1, 1) (List.mem_of_getElem? (i := 15) rfl)) (fun v14 e15 => ?_)
    refine w_iand (tX4_isUneven_0_ok (24, .iand, 1) (List.mem_of_getElem? (i := 16) rfl)) (fun v16 e17 => ?_)
    have d18 := sp_odd_c (x := v8) (y := v10) (by omega) (by omega) (by omega) e13 e17
    refine w_if_eq (tgt := 32) (tX4_isUneven_0_ok (25, .ifCond .eq 7, 3) (List.mem_of_getElem? (i := 17) rfl)) rfl (fun b19 => ?_) (fun b19 => ?_)
    · refine w_iconst (by decide) (tX4_isUneven_0_ok (32, .iconst 0, 1) (List.mem_of_getElem? (i := 20) rfl)) (fun v20 e21 => ?_)
      refine w_zret rfl (by omega) (by omega) (tX4_isUneven_0_ok (33, .ireturn, 1) (List.mem_of_getElem? (i := 21) rfl)) ?_
      exact hq v20 (by omega)
    · refine w_iconst (by decide) (tX4_isUneven_0_ok (28, .iconst 1, 1) (List.mem_of_getElem? (i := 18) rfl)) (fun v22 e23 => ?_)
      refine w_goto (tgt := 33) (tX4_isUneven_0_ok (29, .goto 4, 3) (List.mem_of_getElem? (i := 19) rfl)) rfl ?_
      refine w_zret rfl (by omega) (by omega) (tX4_isUneven_0_ok (33, .ireturn, 1) (List.mem_of_getElem? (i := 21) rfl)) ?_
      exact hq v22 (by omega)
theorem s_readNumber (hT : k_tys tys cA) {p : Int32} (hN : pns sg t b P a1 a2 a3 a4 a5 a6 a7 a8) (hp : 0 ≤ p.toInt ∧ p.toInt < 6) {c : Int32} (hc : sp_ltr c.toInt) (hr : 2 ≤ fr ∧ 60 ≤ lo) (hf0 : fl0.toInt = -1) (H : tp cA h t b f len at0 fl0) (HP : pn cA h P a1 a2 a3 a4 a5 a6 a7 a8 g1 g2 g3) (hq : ∀ (h1 : ch_H) (at1 fl1 : Int32) (k1 k2 k3 : Nat → Int32), tp cA h1 t b f len at1 fl1 → pn cA h1 P a1 a2 a3 a4 a5 a6 a7 a8 k1 k2 k3 → sp_is (sp_rn f len.toInt.toNat p.toInt (g2 p.toInt.toNat).toInt (g3 p.toInt.toNat).toInt c.toInt at0.toInt.toNat) at1 fl1 → (fl1.toInt = -1 → (k1 p.toInt.toNat).toInt = sp_kv 107 c.toInt (sp_num f len.toInt.toNat 3 at0.toInt.toNat).2 (g1 p.toInt.toNat).toInt ∧ (k2 p.toInt.toNat).toInt = sp_kv 108 c.toInt (sp_num f len.toInt.toNat 3 at0.toInt.toNat).2 (g2 p.toInt.toNat).toInt ∧ (k3 p.toInt.toNat).toInt = sp_kv 120 c.toInt (sp_num f len.toInt.toNat 3 at0.toInt.toNat).2 (g3 p.toInt.toNat).toInt) → (∀ q, sg q < 3 → h1 q = h q) → Q none h1) : ww l D tys A X fr lo mX8_readNumber Q 0 [(0, .ref t), (1, .ref P), (2, .int p), (3, .int c)] [] h := by
  have N := hN
  obtain ⟨s_t, s_b, s_P, s_a1, s_a2, s_a3, s_a4, s_a5, s_a6, s_a7, s_a8⟩ := hN
  obtain ⟨c_t, c_b, n_b_t, l1, l2, a9, a10⟩ := H
  refine w_aload_n (List.Mem.head _) (tX8_readNumber_0_ok (0, .aload_n 0, 1) (List.mem_of_getElem? (i := 0) rfl)) ?_
  refine w_iconst (by decide) (tX8_readNumber_0_ok (1, .iconst 3, 1) (List.mem_of_getElem? (i := 1) rfl)) (fun v1 e2 => ?_)
  refine w_callV (own := 13) (mi := 75) [.int v1] [] [(0, .ref t), (1, .int v1)] rfl (cllw_X8 (55, 0, 75) (List.mem_of_getElem? (i := 7) rfl)) rfl rfl c_t rfl (by omega) (w_lo (n := 23) rfl (by omega)) (Nat.le_of_ble_eq_true rfl) (Nat.le_of_ble_eq_true rfl) rfl (tX8_readNumber_0_ok (2, .invokevirtual 55, 3) (List.mem_of_getElem? (i := 2) rfl)) (s_number hT ⟨by omega, w_sub (n := 23) rfl (by omega)⟩ (by omega) (by omega) ⟨c_t, c_b, n_b_t, l1, l2, by omega, by omega⟩ (fun h3 at4 fl5 v6 p7 e8 e9 e10 o11 => ?_))
  have d12 : v1.toInt.toNat = 3 := by omega
  rw [d12] at e8 e9
  obtain ⟨c13, c14, -, -, -, a15, a16⟩ := p7
  show ww l D tys A X fr lo mX8_readNumber Q 5 [(0, .ref t), (1, .ref P), (2, .int p), (3, .int c)] [.int v6] h3
  refine w_istore [(4, .int v6), (0, .ref t), (1, .ref P), (2, .int p), (3, .int c)] rfl (Nat.le_of_ble_eq_true rfl) (tX8_readNumber_0_ok (5, .istore 4, 2) (List.mem_of_getElem? (i := 3) rfl)) ?_
  refine w_aload_n (List.Mem.tail _ (List.Mem.head _)) (tX8_readNumber_0_ok (7, .aload_n 0, 1) (List.mem_of_getElem? (i := 4) rfl)) ?_
  refine w_callV (own := 13) (mi := 74) [] [] [(0, .ref t)] rfl (cllw_X8 (20, 0, 74) (List.mem_of_getElem? (i := 8) rfl)) rfl rfl c13 rfl (by omega) (w_lo (n := 20) rfl (by omega)) (Nat.le_of_ble_eq_true rfl) (Nat.le_of_ble_eq_true rfl) rfl (tX8_readNumber_0_ok (8, .invokevirtual 20, 3) (List.mem_of_getElem? (i := 5) rfl)) (s_isWrong hT ⟨c13, c14, n_b_t, l1, l2, by omega, by omega⟩ (fun v17 e18 => ?_))
  show ww l D tys A X fr lo mX8_readNumber Q 11 [(4, .int v6), (0, .ref t), (1, .ref P), (2, .int p), (3, .int c)] [.int v17] h3
  refine w_if_eq (tgt := 15) (tX8_readNumber_0_ok (11, .ifCond .eq 4, 3) (List.mem_of_getElem? (i := 6) rfl)) rfl (fun b19 => ?_) (fun b19 => ?_)
  · refine w_aload_n (List.Mem.tail _ (List.Mem.tail _ (List.Mem.head _))) (tX8_readNumber_0_ok (15, .aload_n 1, 1) (List.mem_of_getElem? (i := 8) rfl)) ?_
    refine w_iload_n (List.Mem.tail _ (List.Mem.tail _ (List.Mem.tail _ (List.Mem.head _)))) (tX8_readNumber_0_ok (16, .iload_n 2, 1) (List.mem_of_getElem? (i := 9) rfl)) ?_
    refine w_iload_n (List.Mem.tail _ (List.Mem.tail _ (List.Mem.tail _ (List.Mem.tail _ (List.Mem.head _))))) (tX8_readNumber_0_ok (17, .iload_n 3, 1) (List.mem_of_getElem? (i := 10) rfl)) ?_
    refine w_iload (List.Mem.head _) (tX8_readNumber_0_ok (18, .iload 4, 2) (List.mem_of_getElem? (i := 11) rfl)) ?_
    refine w_callV (own := 13) (mi := 42) [.int p, .int c, .int v6] [] [(0, .ref P), (1, .int p), (2, .int c), (3, .int v6)] rfl (cllw_X8 (58, 0, 42) (List.mem_of_getElem? (i := 9) rfl)) rfl rfl (Exists.choose_spec (pn.obj ((HP).fr N o11))) rfl (by omega) (w_lo (n := 23) rfl (by omega)) (Nat.le_of_ble_eq_true rfl) (Nat.le_of_ble_eq_true rfl) rfl (tX8_readNumber_0_ok (20, .invokevirtual 58, 3) (List.mem_of_getElem? (i := 12) rfl)) (s_allows hT hp hc ((HP).fr N o11) (fun v20 e21 => ?_))
    have e21a := e21.1
    have e21b := e21.2
    show ww l D tys A X fr lo mX8_readNumber Q 23 [(4, .int v6), (0, .ref t), (1, .ref P), (2, .int p), (3, .int c)] [.int v20] h3
    refine w_if_eq (tgt := 37) (tX8_readNumber_0_ok (23, .ifCond .eq 14, 3) (List.mem_of_getElem? (i := 13) rfl)) rfl (fun b22 => ?_) (fun b22 => ?_)
    · refine w_aload_n (List.Mem.tail _ (List.Mem.head _)) (tX8_readNumber_0_ok (37, .aload_n 0, 1) (List.mem_of_getElem? (i := 20) rfl)) ?_
      refine w_aload_n (List.Mem.tail _ (List.Mem.head _)) (tX8_readNumber_0_ok (38, .aload_n 0, 1) (List.mem_of_getElem? (i := 21) rfl)) ?_
      refine w_get (own := 13) rfl rfl (by decide) c13 rfl (tX8_readNumber_0_ok (39, .getfield 37, 3) (List.mem_of_getElem? (i := 22) rfl)) ?_
      refine w_iconst (by decide) (tX8_readNumber_0_ok (42, .iconst 1, 1) (List.mem_of_getElem? (i := 23) rfl)) (fun v23 e24 => ?_)
      refine w_isub (by omega) (by omega) (tX8_readNumber_0_ok (43, .isub, 1) (List.mem_of_getElem? (i := 24) rfl)) (fun v25 e26 => ?_)
      refine w_put (own := 13) [.ref b, .int len, .int at4, .int v25] rfl rfl rfl (by decide) rfl ⟨rfl, rfl⟩ c13 (Nat.le_of_ble_eq_true rfl) (tX8_readNumber_0_ok (44, .putfield 66, 3) (List.mem_of_getElem? (i := 25) rfl)) (fun h27 c28 o29 => ?_)
      have c30 := (o29 b (pn_ne s_b s_t (by decide))).trans c14
      refine w_vret rfl (tX8_readNumber_0_ok (47, .return_, 1) (List.mem_of_getElem? (i := 26) rfl)) ?_
      obtain ⟨q9, q8, q7⟩ := sp_is.inr e9 (by omega)
      have q6 := sp_num_lt q8
      refine hq h27 at4 v25 g1 g2 g3 ⟨c28, c30, n_b_t, l1, l2, by omega, by omega⟩ (((HP).fr N o11).fr N o29) ?_ ?_ (fun q hq => (o29 q (pn_nl hq s_t (by decide))).trans (o11 q (pn_nl hq s_t (by decide))))
      · unfold sp_rn; rw [q8]; dsimp only [sp_bd]; rw [if_neg (by rw [← e8]; exact fun z9 => absurd (e21b.mpr z9) (by omega))]; show _ = ((q9 - 1 : Nat) : Int); omega
      · intro z9; omega
    · refine w_aload_n (List.Mem.tail _ (List.Mem.tail _ (List.Mem.head _))) (tX8_readNumber_0_ok (26, .aload_n 1, 1) (List.mem_of_getElem? (i := 14) rfl)) ?_
      refine w_iload_n (List.Mem.tail _ (List.Mem.tail _ (List.Mem.tail _ (List.Mem.head _)))) (tX8_readNumber_0_ok (27, .iload_n 2, 1) (List.mem_of_getElem? (i := 15) rfl)) ?_
      refine w_iload_n (List.Mem.tail _ (List.Mem.tail _ (List.Mem.tail _ (List.Mem.tail _ (List.Mem.head _))))) (tX8_readNumber_0_ok (28, .iload_n 3, 1) (List.mem_of_getElem? (i := 16) rfl)) ?_
      refine w_iload (List.Mem.head _) (tX8_readNumber_0_ok (29, .iload 4, 2) (List.mem_of_getElem? (i := 17) rfl)) ?_
      refine w_callV (own := 13) (mi := 50) [.int p, .int c, .int v6] [] [(0, .ref P), (1, .int p), (2, .int c), (3, .int v6)] rfl (cllw_X8 (62, 0, 50) (List.mem_of_getElem? (i := 10) rfl)) rfl rfl (Exists.choose_spec (pn.obj ((HP).fr N o11))) rfl (by omega) (w_lo (n := 23) rfl (by omega)) (Nat.le_of_ble_eq_true rfl) (Nat.le_of_ble_eq_true rfl) rfl (tX8_readNumber_0_ok (31, .invokevirtual 62, 3) (List.mem_of_getElem? (i := 18) rfl)) (s_tell hT N hp hc (by omega) (e21b.mp (by omega)) ((HP).fr N o11) (fun h31 k32 k33 k34 p35 e36 e37 e38 o39 => ?_))
      have c40 := (o39 t (by rw [s_t]; decide)).trans c13
      have c41 := (o39 b (by rw [s_b]; decide)).trans c14
      show ww l D tys A X fr lo mX8_readNumber Q 34 [(4, .int v6), (0, .ref t), (1, .ref P), (2, .int p), (3, .int c)] [] h31
      refine w_goto (tgt := 47) (tX8_readNumber_0_ok (34, .goto 13, 3) (List.mem_of_getElem? (i := 19) rfl)) rfl ?_
      refine w_vret rfl (tX8_readNumber_0_ok (47, .return_, 1) (List.mem_of_getElem? (i := 26) rfl)) ?_
      obtain ⟨q9, q8, q7⟩ := sp_is.inr e9 (by omega)
      have q6 := sp_num_lt q8
      refine hq h31 at4 fl5 k32 k33 k34 ⟨c40, c41, n_b_t, l1, l2, by omega, by omega⟩ p35 ?_ ?_ (fun q hq => (o39 q (Nat.lt_of_lt_of_le hq (by decide))).trans (o11 q (pn_nl hq s_t (by decide))))
      · unfold sp_rn; rw [q8]; dsimp only [sp_bd]; rw [if_pos (by rw [← e8]; exact e21b.mp (by omega))]; exact ⟨by omega, q7⟩
      · intro z9; rw [← e8]; exact ⟨e36, e37, e38⟩
  · refine w_vret rfl (tX8_readNumber_0_ok (14, .return_, 1) (List.mem_of_getElem? (i := 7) rfl)) ?_
    obtain ⟨q9, q8, q7⟩ := sp_is.inl e9 (by omega)
    refine hq h3 at4 fl5 g1 g2 g3 ⟨c13, c14, n_b_t, l1, l2, by omega, by omega⟩ ((HP).fr N o11) ?_ ?_ (fun q hq => o11 q (pn_nl hq s_t (by decide)))
    · unfold sp_rn; rw [q8]; exact q7
    · intro z9; omega
theorem s_endRope (hT : k_tys tys cA) {p : Int32} (hN : pns sg t b P a1 a2 a3 a4 a5 a6 a7 a8) (hp : 0 ≤ p.toInt ∧ p.toInt < 6) (hx : 0 ≤ (g3 p.toInt.toNat).toInt ∧ (g3 p.toInt.toNat).toInt ≤ 20) (hr : 1 ≤ fr ∧ 60 ≤ lo) (hf0 : fl0.toInt = -1) (H : tp cA h t b f len at0 fl0) (HP : pn cA h P a1 a2 a3 a4 a5 a6 a7 a8 g1 g2 g3) (hq : ∀ (h1 : ch_H) (at1 fl1 : Int32), tp cA h1 t b f len at1 fl1 → pn cA h1 P a1 a2 a3 a4 a5 a6 a7 a8 g1 g2 g3 → sp_is (if (¬ sp_sg f len.toInt.toNat (sp_sk f len.toInt.toNat at0.toInt.toNat) = 59 ∧ ¬ sp_sg f len.toInt.toNat (sp_sk f len.toInt.toNat at0.toInt.toNat) = 0) ∨ sp_odd (g1 p.toInt.toNat).toInt (g2 p.toInt.toNat).toInt (g3 p.toInt.toNat).toInt then .inl (sp_sk f len.toInt.toNat at0.toInt.toNat) else .inr (sp_sk f len.toInt.toNat at0.toInt.toNat)) at1 fl1 → (∀ q, sg q < 3 → h1 q = h q) → Q none h1) : ww l D tys A X fr lo mX8_endRope Q 0 [(0, .ref t), (1, .ref P), (2, .int p)] [] h := by
  have N := hN
  obtain ⟨s_t, s_b, s_P, s_a1, s_a2, s_a3, s_a4, s_a5, s_a6, s_a7, s_a8⟩ := hN
  obtain ⟨c_t, c_b, n_b_t, l1, l2, a9, a10⟩ := H
  refine w_aload_n (List.Mem.head _) (tX8_endRope_0_ok (0, .aload_n 0, 1) (List.mem_of_getElem? (i := 0) rfl)) ?_
  refine w_callV (own := 13) (mi := 77) [] [] [(0, .ref t)] rfl (cllw_X8 (24, 0, 77) (List.mem_of_getElem? (i := 3) rfl)) rfl rfl c_t rfl (by omega) (w_lo (n := 20) rfl (by omega)) (Nat.le_of_ble_eq_true rfl) (Nat.le_of_ble_eq_true rfl) rfl (tX8_endRope_0_ok (1, .invokevirtual 24, 3) (List.mem_of_getElem? (i := 1) rfl)) (s_sign hT ⟨c_t, c_b, n_b_t, l1, l2, by omega, by omega⟩ (fun h1 at2 v3 p4 e5 e6 o7 => ?_))
  obtain ⟨c8, c9, -, -, -, a10, a11⟩ := p4
  show ww l D tys A X fr lo mX8_endRope Q 4 [(0, .ref t), (1, .ref P), (2, .int p)] [.int v3] h1
  rw [e5] at e6
  have g12 := sp_sg_or f len.toInt.toNat (sp_sk f len.toInt.toNat at0.toInt.toNat)
  refine w_istore_n [(3, .int v3), (0, .ref t), (1, .ref P), (2, .int p)] rfl (Nat.le_of_ble_eq_true rfl) (tX8_endRope_0_ok (4, .istore_n 3, 1) (List.mem_of_getElem? (i := 2) rfl)) ?_
  refine w_iload_n (List.Mem.head _) (tX8_endRope_0_ok (5, .iload_n 3, 1) (List.mem_of_getElem? (i := 3) rfl)) ?_
  refine w_bipush (by decide) (tX8_endRope_0_ok (6, .bipush 59, 2) (List.mem_of_getElem? (i := 4) rfl)) (fun v13 e14 => ?_)
  refine w_icmp_eq (tgt := 15) (tX8_endRope_0_ok (8, .if_icmp .eq 7, 3) (List.mem_of_getElem? (i := 5) rfl)) rfl (fun b15 => ?_) (fun b15 => ?_)
  · refine w_aload_n (List.Mem.tail _ (List.Mem.tail _ (List.Mem.head _))) (tX8_endRope_0_ok (15, .aload_n 1, 1) (List.mem_of_getElem? (i := 8) rfl)) ?_
    refine w_iload_n (List.Mem.tail _ (List.Mem.tail _ (List.Mem.tail _ (List.Mem.head _)))) (tX8_endRope_0_ok (16, .iload_n 2, 1) (List.mem_of_getElem? (i := 9) rfl)) ?_
    refine w_callV (own := 13) (mi := 46) [.int p] [] [(0, .ref P), (1, .int p)] rfl (cllw_X8 (69, 0, 46) (List.mem_of_getElem? (i := 12) rfl)) rfl rfl (Exists.choose_spec (pn.obj ((HP).fr N o7))) rfl (by omega) (w_lo (n := 21) rfl (by omega)) (Nat.le_of_ble_eq_true rfl) (Nat.le_of_ble_eq_true rfl) rfl (tX8_endRope_0_ok (17, .invokevirtual 69, 3) (List.mem_of_getElem? (i := 10) rfl)) (s_isUneven hT hp hx ((HP).fr N o7) (fun v16 e17 => ?_))
    show ww l D tys A X fr lo mX8_endRope Q 20 [(3, .int v3), (0, .ref t), (1, .ref P), (2, .int p)] [.int v16] h1
    refine w_if_eq (tgt := 27) (tX8_endRope_0_ok (20, .ifCond .eq 7, 3) (List.mem_of_getElem? (i := 11) rfl)) rfl (fun b18 => ?_) (fun b18 => ?_)
    · refine w_vret rfl (tX8_endRope_0_ok (27, .return_, 1) (List.mem_of_getElem? (i := 14) rfl)) ?_
      refine hq h1 at2 fl0 ⟨c8, c9, n_b_t, l1, l2, by omega, by omega⟩ ((HP).fr N o7) ?_ (fun q hq => o7 q (pn_nl hq s_t (by decide)))
      rw [if_neg (by omega)]
      exact ⟨by omega, by omega⟩
    · refine w_aload_n (List.Mem.tail _ (List.Mem.head _)) (tX8_endRope_0_ok (23, .aload_n 0, 1) (List.mem_of_getElem? (i := 12) rfl)) ?_
      refine w_callV (own := 13) (mi := 80) [] [] [(0, .ref t)] rfl (cllw_X8 (34, 0, 80) (List.mem_of_getElem? (i := 5) rfl)) rfl rfl c8 rfl (by omega) (w_lo (n := 20) rfl (by omega)) (Nat.le_of_ble_eq_true rfl) (Nat.le_of_ble_eq_true rfl) rfl (tX8_endRope_0_ok (24, .invokevirtual 34, 3) (List.mem_of_getElem? (i := 13) rfl)) (s_wrong hT ⟨c8, c9, n_b_t, l1, l2, by omega, by omega⟩ (fun h19 fl20 p21 e22 o23 => ?_))
      obtain ⟨c24, c25, -, -, -, a26, a27⟩ := p21
      show ww l D tys A X fr lo mX8_endRope Q 27 [(3, .int v3), (0, .ref t), (1, .ref P), (2, .int p)] [] h19
      refine w_vret rfl (tX8_endRope_0_ok (27, .return_, 1) (List.mem_of_getElem? (i := 14) rfl)) ?_
      refine hq h19 at2 fl20 ⟨c24, c25, n_b_t, l1, l2, by omega, by omega⟩ (((HP).fr N o7).fr N o23) ?_ (fun q hq => (o23 q (pn_nl hq s_t (by decide))).trans (o7 q (pn_nl hq s_t (by decide))))
      rw [if_pos (by omega)]
      show _ = _; omega
  · refine w_iload_n (List.Mem.head _) (tX8_endRope_0_ok (11, .iload_n 3, 1) (List.mem_of_getElem? (i := 6) rfl)) ?_
    refine w_if_ne (tgt := 23) (tX8_endRope_0_ok (12, .ifCond .ne 11, 3) (List.mem_of_getElem? (i := 7) rfl)) rfl (fun b28 => ?_) (fun b28 => ?_)
    · refine w_aload_n (List.Mem.tail _ (List.Mem.head _)) (tX8_endRope_0_ok (23, .aload_n 0, 1) (List.mem_of_getElem? (i := 12) rfl)) ?_
      refine w_callV (own := 13) (mi := 80) [] [] [(0, .ref t)] rfl (cllw_X8 (34, 0, 80) (List.mem_of_getElem? (i := 5) rfl)) rfl rfl c8 rfl (by omega) (w_lo (n := 20) rfl (by omega)) (Nat.le_of_ble_eq_true rfl) (Nat.le_of_ble_eq_true rfl) rfl (tX8_endRope_0_ok (24, .invokevirtual 34, 3) (List.mem_of_getElem? (i := 13) rfl)) (s_wrong hT ⟨c8, c9, n_b_t, l1, l2, by omega, by omega⟩ (fun h29 fl30 p31 e32 o33 => ?_))
      obtain ⟨c34, c35, -, -, -, a36, a37⟩ := p31
      show ww l D tys A X fr lo mX8_endRope Q 27 [(3, .int v3), (0, .ref t), (1, .ref P), (2, .int p)] [] h29
      refine w_vret rfl (tX8_endRope_0_ok (27, .return_, 1) (List.mem_of_getElem? (i := 14) rfl)) ?_
      refine hq h29 at2 fl30 ⟨c34, c35, n_b_t, l1, l2, by omega, by omega⟩ (((HP).fr N o7).fr N o33) ?_ (fun q hq => (o33 q (pn_nl hq s_t (by decide))).trans (o7 q (pn_nl hq s_t (by decide))))
      rw [if_pos (by omega)]
      show _ = _; omega
    · refine w_aload_n (List.Mem.tail _ (List.Mem.tail _ (List.Mem.head _))) (tX8_endRope_0_ok (15, .aload_n 1, 1) (List.mem_of_getElem? (i := 8) rfl)) ?_
      refine w_iload_n (List.Mem.tail _ (List.Mem.tail _ (List.Mem.tail _ (List.Mem.head _)))) (tX8_endRope_0_ok (16, .iload_n 2, 1) (List.mem_of_getElem? (i := 9) rfl)) ?_
      refine w_callV (own := 13) (mi := 46) [.int p] [] [(0, .ref P), (1, .int p)] rfl (cllw_X8 (69, 0, 46) (List.mem_of_getElem? (i := 12) rfl)) rfl rfl (Exists.choose_spec (pn.obj ((HP).fr N o7))) rfl (by omega) (w_lo (n := 21) rfl (by omega)) (Nat.le_of_ble_eq_true rfl) (Nat.le_of_ble_eq_true rfl) rfl (tX8_endRope_0_ok (17, .invokevirtual 69, 3) (List.mem_of_getElem? (i := 10) rfl)) (s_isUneven hT hp hx ((HP).fr N o7) (fun v38 e39 => ?_))
      show ww l D tys A X fr lo mX8_endRope Q 20 [(3, .int v3), (0, .ref t), (1, .ref P), (2, .int p)] [.int v38] h1
      refine w_if_eq (tgt := 27) (tX8_endRope_0_ok (20, .ifCond .eq 7, 3) (List.mem_of_getElem? (i := 11) rfl)) rfl (fun b40 => ?_) (fun b40 => ?_)
      · refine w_vret rfl (tX8_endRope_0_ok (27, .return_, 1) (List.mem_of_getElem? (i := 14) rfl)) ?_
        refine hq h1 at2 fl0 ⟨c8, c9, n_b_t, l1, l2, by omega, by omega⟩ ((HP).fr N o7) ?_ (fun q hq => o7 q (pn_nl hq s_t (by decide)))
        rw [if_neg (by omega)]
        exact ⟨by omega, by omega⟩
      · refine w_aload_n (List.Mem.tail _ (List.Mem.head _)) (tX8_endRope_0_ok (23, .aload_n 0, 1) (List.mem_of_getElem? (i := 12) rfl)) ?_
        refine w_callV (own := 13) (mi := 80) [] [] [(0, .ref t)] rfl (cllw_X8 (34, 0, 80) (List.mem_of_getElem? (i := 5) rfl)) rfl rfl c8 rfl (by omega) (w_lo (n := 20) rfl (by omega)) (Nat.le_of_ble_eq_true rfl) (Nat.le_of_ble_eq_true rfl) rfl (tX8_endRope_0_ok (24, .invokevirtual 34, 3) (List.mem_of_getElem? (i := 13) rfl)) (s_wrong hT ⟨c8, c9, n_b_t, l1, l2, by omega, by omega⟩ (fun h41 fl42 p43 e44 o45 => ?_))
        obtain ⟨c46, c47, -, -, -, a48, a49⟩ := p43
        show ww l D tys A X fr lo mX8_endRope Q 27 [(3, .int v3), (0, .ref t), (1, .ref P), (2, .int p)] [] h41
        refine w_vret rfl (tX8_endRope_0_ok (27, .return_, 1) (List.mem_of_getElem? (i := 14) rfl)) ?_
        refine hq h41 at2 fl42 ⟨c46, c47, n_b_t, l1, l2, by omega, by omega⟩ (((HP).fr N o7).fr N o45) ?_ (fun q hq => (o45 q (pn_nl hq s_t (by decide))).trans (o7 q (pn_nl hq s_t (by decide))))
        rw [if_pos (by omega)]
        show _ = _; omega
theorem sp_rn_ok {f : Nat → Int32} {len n q : Nat} {p L X c : Int} (h : sp_rn f len p L X c n = .inr q) : sp_ok p L X c (sp_num f len 3 n).2 := by
  unfold sp_rn at h
  cases e : (sp_num f len 3 n).1 with
  | inl z => rw [e] at h; cases h
  | inr z =>
    rw [e] at h
    dsimp only [sp_bd] at h
    split at h
    · assumption
    · cases h
theorem s_ropeL (hT : k_tys tys cA) {p : Int32} (hN : pns sg t b P a1 a2 a3 a4 a5 a6 a7 a8) (hp : 0 ≤ p.toInt ∧ p.toInt < 6) (hr : 3 ≤ fr ∧ 120 ≤ lo) : ∀ (j : Nat) (i told at0 fl0 : Int32) (h : ch_H) (g1 g2 g3 : Nat → Int32) (tn : Nat), i.toInt = 10 - (j : Int) → j ≤ 10 → told.toInt = (tn : Int) → tn < 512 → (sp_pc tn : Int) = i.toInt → 0 ≤ (g3 p.toInt.toNat).toInt ∧ (g3 p.toInt.toNat).toInt ≤ 20 → fl0.toInt = -1 → tp cA h t b f len at0 fl0 → pn cA h P a1 a2 a3 a4 a5 a6 a7 a8 g1 g2 g3 → (∀ (h1 : ch_H) (at1 fl1 : Int32) (k1 k2 k3 : Nat → Int32), tp cA h1 t b f len at1 fl1 → pn cA h1 P a1 a2 a3 a4 a5 a6 a7 a8 k1 k2 k3 → sp_is (sp_rp f len.toInt.toNat p.toInt j at0.toInt.toNat tn (g1 p.toInt.toNat).toInt (g2 p.toInt.toNat).toInt (g3 p.toInt.toNat).toInt) at1 fl1 → (∀ q, sg q < 3 → h1 q = h q) → Q none h1) → ww l D tys A X fr lo mX8_readRope Q 10 [(4, .int i), (3, .int told), (0, .ref t), (1, .ref P), (2, .int p)] [] h := by
  intro j
  induction j using Nat.strongRecOn with
  | ind j ih =>
    intro i told at0 fl0 h g1 g2 g3 tn hi hj hto h5 hpc hx hf0 H HP hq
    have N := hN
    obtain ⟨s_t, s_b, s_P, s_a1, s_a2, s_a3, s_a4, s_a5, s_a6, s_a7, s_a8⟩ := hN
    obtain ⟨c_t, c_b, n_b_t, l1, l2, a9, a10⟩ := H
    by_cases j0 : j = 0
    · exfalso; unfold sp_pc at hpc; omega
    have j9 : j = (j - 1) + 1 := by omega
    refine w_iload (List.Mem.head _) (tX8_readRope_0_ok (10, .iload 4, 2) (List.mem_of_getElem? (i := 7) rfl)) ?_
    refine w_bipush (by decide) (tX8_readRope_0_ok (12, .bipush 9, 2) (List.mem_of_getElem? (i := 8) rfl)) (fun v1 e2 => ?_)
    refine w_icmp_gt (tgt := 121) (tX8_readRope_0_ok (14, .if_icmp .gt 107, 3) (List.mem_of_getElem? (i := 9) rfl)) rfl (fun b3 => ?_) (fun b3 => ?_)
    · exfalso; unfold sp_pc at hpc; omega
    · refine w_aload_n (List.Mem.tail _ (List.Mem.tail _ (List.Mem.head _))) (tX8_readRope_0_ok (17, .aload_n 0, 1) (List.mem_of_getElem? (i := 10) rfl)) ?_
      refine w_callV (own := 13) (mi := 77) [] [] [(0, .ref t)] rfl (cllw_X8 (24, 0, 77) (List.mem_of_getElem? (i := 3) rfl)) rfl rfl c_t rfl (by omega) (w_lo (n := 20) rfl (by omega)) (Nat.le_of_ble_eq_true rfl) (Nat.le_of_ble_eq_true rfl) rfl (tX8_readRope_0_ok (18, .invokevirtual 24, 3) (List.mem_of_getElem? (i := 11) rfl)) (s_sign hT ⟨c_t, c_b, n_b_t, l1, l2, by omega, by omega⟩ (fun h4 at5 v6 p7 e8 e9 o10 => ?_))
      obtain ⟨c11, c12, -, -, -, a13, a14⟩ := p7
      show ww l D tys A X fr lo mX8_readRope Q 21 [(4, .int i), (3, .int told), (0, .ref t), (1, .ref P), (2, .int p)] [.int v6] h4
      rw [e8] at e9
      have g15 := sp_sg_or f len.toInt.toNat (sp_sk f len.toInt.toNat at0.toInt.toNat)
      refine w_istore [(5, .int v6), (4, .int i), (3, .int told), (0, .ref t), (1, .ref P), (2, .int p)] rfl (Nat.le_of_ble_eq_true rfl) (tX8_readRope_0_ok (21, .istore 5, 2) (List.mem_of_getElem? (i := 12) rfl)) ?_
      refine w_iload (List.Mem.head _) (tX8_readRope_0_ok (23, .iload 5, 2) (List.mem_of_getElem? (i := 13) rfl)) ?_
      refine w_callS (own := 13) (mi := 81) [.int v6] [] [(0, .int v6)] rfl (cllw_X8 (44, 1, 81) (List.mem_of_getElem? (i := 4) rfl)) rfl rfl (by omega) (w_lo (n := 20) rfl (by omega)) (Nat.le_of_ble_eq_true rfl) (Nat.le_of_ble_eq_true rfl) rfl (tX8_readRope_0_ok (25, .invokestatic 44, 3) (List.mem_of_getElem? (i := 14) rfl)) (s_bitOf (fun v16 e17 => ?_))
      show ww l D tys A X fr lo mX8_readRope Q 28 [(5, .int v6), (4, .int i), (3, .int told), (0, .ref t), (1, .ref P), (2, .int p)] [.int v16] h4
      refine w_istore [(6, .int v16), (5, .int v6), (4, .int i), (3, .int told), (0, .ref t), (1, .ref P), (2, .int p)] rfl (Nat.le_of_ble_eq_true rfl) (tX8_readRope_0_ok (28, .istore 6, 2) (List.mem_of_getElem? (i := 15) rfl)) ?_
      refine w_iload (List.Mem.head _) (tX8_readRope_0_ok (30, .iload 6, 2) (List.mem_of_getElem? (i := 16) rfl)) ?_
      refine w_if_eq (tgt := 53) (tX8_readRope_0_ok (32, .ifCond .eq 21, 3) (List.mem_of_getElem? (i := 17) rfl)) rfl (fun b18 => ?_) (fun b18 => ?_)
      · refine w_aload_n (List.Mem.tail _ (List.Mem.tail _ (List.Mem.tail _ (List.Mem.tail _ (List.Mem.head _))))) (tX8_readRope_0_ok (53, .aload_n 0, 1) (List.mem_of_getElem? (i := 27) rfl)) ?_
        refine w_callV (own := 13) (mi := 80) [] [] [(0, .ref t)] rfl (cllw_X8 (34, 0, 80) (List.mem_of_getElem? (i := 5) rfl)) rfl rfl c11 rfl (by omega) (w_lo (n := 20) rfl (by omega)) (Nat.le_of_ble_eq_true rfl) (Nat.le_of_ble_eq_true rfl) rfl (tX8_readRope_0_ok (54, .invokevirtual 34, 3) (List.mem_of_getElem? (i := 28) rfl)) (s_wrong hT ⟨c11, c12, n_b_t, l1, l2, by omega, by omega⟩ (fun h19 fl20 p21 e22 o23 => ?_))
        obtain ⟨c24, c25, -, -, -, a26, a27⟩ := p21
        show ww l D tys A X fr lo mX8_readRope Q 57 [(6, .int v16), (5, .int v6), (4, .int i), (3, .int told), (0, .ref t), (1, .ref P), (2, .int p)] [] h19
        refine w_vret rfl (tX8_readRope_0_ok (57, .return_, 1) (List.mem_of_getElem? (i := 29) rfl)) ?_
        rw [e9] at e17
        have y1 : sp_bit (sp_sg f len.toInt.toNat (sp_sk f len.toInt.toNat at0.toInt.toNat)) = 0 ∨ tn / sp_bit (sp_sg f len.toInt.toNat (sp_sk f len.toInt.toNat at0.toInt.toNat)) % 2 = 1 ∨ sp_sg f len.toInt.toNat (sp_sk f len.toInt.toNat at0.toInt.toNat) = 117 ∧ p.toInt = 0 := by omega
        refine hq h19 at5 fl20 g1 g2 g3 ⟨c24, c25, n_b_t, l1, l2, by omega, by omega⟩ (((HP).fr N o10).fr N o23) ?_ (fun q hq => (o23 q (pn_nl hq s_t (by decide))).trans (o10 q (pn_nl hq s_t (by decide))))
        rw [j9, sp_rp_bad (c := sp_sg f len.toInt.toNat (sp_sk f len.toInt.toNat at0.toInt.toNat)) rfl rfl y1]
        show _ = _; omega
      · refine w_iload_n (List.Mem.tail _ (List.Mem.tail _ (List.Mem.tail _ (List.Mem.head _)))) (tX8_readRope_0_ok (35, .iload_n 3, 1) (List.mem_of_getElem? (i := 18) rfl)) ?_
        refine w_iload (List.Mem.head _) (tX8_readRope_0_ok (36, .iload 6, 2) (List.mem_of_getElem? (i := 19) rfl)) ?_
        refine w_iand (tX8_readRope_0_ok (38, .iand, 1) (List.mem_of_getElem? (i := 20) rfl)) (fun v28 e29 => ?_)
        rw [e9] at e17
        have d30 := sp_told_c hto h5 e17 (by assumption)
        have d31 := d30.1 v28 e29
        have d32 := sp_bit_nz (c := sp_sg f len.toInt.toNat (sp_sk f len.toInt.toNat at0.toInt.toNat)) (by omega)
        refine w_if_ne (tgt := 53) (tX8_readRope_0_ok (39, .ifCond .ne 14, 3) (List.mem_of_getElem? (i := 21) rfl)) rfl (fun b33 => ?_) (fun b33 => ?_)
        · refine w_aload_n (List.Mem.tail _ (List.Mem.tail _ (List.Mem.tail _ (List.Mem.tail _ (List.Mem.head _))))) (tX8_readRope_0_ok (53, .aload_n 0, 1) (List.mem_of_getElem? (i := 27) rfl)) ?_
          refine w_callV (own := 13) (mi := 80) [] [] [(0, .ref t)] rfl (cllw_X8 (34, 0, 80) (List.mem_of_getElem? (i := 5) rfl)) rfl rfl c11 rfl (by omega) (w_lo (n := 20) rfl (by omega)) (Nat.le_of_ble_eq_true rfl) (Nat.le_of_ble_eq_true rfl) rfl (tX8_readRope_0_ok (54, .invokevirtual 34, 3) (List.mem_of_getElem? (i := 28) rfl)) (s_wrong hT ⟨c11, c12, n_b_t, l1, l2, by omega, by omega⟩ (fun h34 fl35 p36 e37 o38 => ?_))
          obtain ⟨c39, c40, -, -, -, a41, a42⟩ := p36
          show ww l D tys A X fr lo mX8_readRope Q 57 [(6, .int v16), (5, .int v6), (4, .int i), (3, .int told), (0, .ref t), (1, .ref P), (2, .int p)] [] h34
          refine w_vret rfl (tX8_readRope_0_ok (57, .return_, 1) (List.mem_of_getElem? (i := 29) rfl)) ?_
          have y1 : sp_bit (sp_sg f len.toInt.toNat (sp_sk f len.toInt.toNat at0.toInt.toNat)) = 0 ∨ tn / sp_bit (sp_sg f len.toInt.toNat (sp_sk f len.toInt.toNat at0.toInt.toNat)) % 2 = 1 ∨ sp_sg f len.toInt.toNat (sp_sk f len.toInt.toNat at0.toInt.toNat) = 117 ∧ p.toInt = 0 := by omega
          refine hq h34 at5 fl35 g1 g2 g3 ⟨c39, c40, n_b_t, l1, l2, by omega, by omega⟩ (((HP).fr N o10).fr N o38) ?_ (fun q hq => (o38 q (pn_nl hq s_t (by decide))).trans (o10 q (pn_nl hq s_t (by decide))))
          rw [j9, sp_rp_bad (c := sp_sg f len.toInt.toNat (sp_sk f len.toInt.toNat at0.toInt.toNat)) rfl rfl y1]
          show _ = _; omega
        · refine w_iload (List.Mem.tail _ (List.Mem.head _)) (tX8_readRope_0_ok (42, .iload 5, 2) (List.mem_of_getElem? (i := 22) rfl)) ?_
          refine w_bipush (by decide) (tX8_readRope_0_ok (44, .bipush 117, 2) (List.mem_of_getElem? (i := 23) rfl)) (fun v43 e44 => ?_)
          refine w_icmp_ne (tgt := 58) (tX8_readRope_0_ok (46, .if_icmp .ne 12, 3) (List.mem_of_getElem? (i := 24) rfl)) rfl (fun b45 => ?_) (fun b45 => ?_)
          · refine w_iload_n (List.Mem.tail _ (List.Mem.tail _ (List.Mem.tail _ (List.Mem.head _)))) (tX8_readRope_0_ok (58, .iload_n 3, 1) (List.mem_of_getElem? (i := 30) rfl)) ?_
            refine w_iload (List.Mem.head _) (tX8_readRope_0_ok (59, .iload 6, 2) (List.mem_of_getElem? (i := 31) rfl)) ?_
            refine w_ior (tX8_readRope_0_ok (61, .ior, 1) (List.mem_of_getElem? (i := 32) rfl)) (fun v46 e47 => ?_)
            have d9 : ¬ tn / sp_bit (sp_sg f len.toInt.toNat (sp_sk f len.toInt.toNat at0.toInt.toNat)) % 2 = 1 := by omega
            have d8 := d30.2 d9
            have d7 := d8.1 v46 e47
            refine w_istore_n [(3, .int v46), (6, .int v16), (5, .int v6), (4, .int i), (0, .ref t), (1, .ref P), (2, .int p)] rfl (Nat.le_of_ble_eq_true rfl) (tX8_readRope_0_ok (62, .istore_n 3, 1) (List.mem_of_getElem? (i := 33) rfl)) ?_
            refine w_aload_n (List.Mem.tail _ (List.Mem.tail _ (List.Mem.tail _ (List.Mem.tail _ (List.Mem.head _))))) (tX8_readRope_0_ok (63, .aload_n 0, 1) (List.mem_of_getElem? (i := 34) rfl)) ?_
            refine w_dup rfl (tX8_readRope_0_ok (64, .dup, 1) (List.mem_of_getElem? (i := 35) rfl)) ?_
            refine w_get (own := 13) rfl rfl (by decide) c11 rfl (tX8_readRope_0_ok (65, .getfield 37, 3) (List.mem_of_getElem? (i := 36) rfl)) ?_
            refine w_iconst (by decide) (tX8_readRope_0_ok (68, .iconst 1, 1) (List.mem_of_getElem? (i := 37) rfl)) (fun v48 e49 => ?_)
            refine w_iadd (by omega) (by omega) (tX8_readRope_0_ok (69, .iadd, 1) (List.mem_of_getElem? (i := 38) rfl)) (fun v50 e51 => ?_)
            refine w_put (own := 13) [.ref b, .int len, .int v50, .int fl0] rfl rfl rfl (by decide) rfl ⟨rfl, rfl⟩ c11 (Nat.le_of_ble_eq_true rfl) (tX8_readRope_0_ok (70, .putfield 37, 3) (List.mem_of_getElem? (i := 39) rfl)) (fun h52 c53 o54 => ?_)
            have c55 := (o54 b (pn_ne s_b s_t (by decide))).trans c12
            refine w_aload_n (List.Mem.tail _ (List.Mem.tail _ (List.Mem.tail _ (List.Mem.tail _ (List.Mem.head _))))) (tX8_readRope_0_ok (73, .aload_n 0, 1) (List.mem_of_getElem? (i := 40) rfl)) ?_
            refine w_aload_n (List.Mem.tail _ (List.Mem.tail _ (List.Mem.tail _ (List.Mem.tail _ (List.Mem.tail _ (List.Mem.head _)))))) (tX8_readRope_0_ok (74, .aload_n 1, 1) (List.mem_of_getElem? (i := 41) rfl)) ?_
            refine w_iload_n (List.Mem.tail _ (List.Mem.tail _ (List.Mem.tail _ (List.Mem.tail _ (List.Mem.tail _ (List.Mem.tail _ (List.Mem.head _))))))) (tX8_readRope_0_ok (75, .iload_n 2, 1) (List.mem_of_getElem? (i := 42) rfl)) ?_
            refine w_iload (List.Mem.tail _ (List.Mem.tail _ (List.Mem.head _))) (tX8_readRope_0_ok (76, .iload 5, 2) (List.mem_of_getElem? (i := 43) rfl)) ?_
            refine w_callS (own := 13) (mi := 84) [.ref t, .ref P, .int p, .int v6] [] [(0, .ref t), (1, .ref P), (2, .int p), (3, .int v6)] rfl (cllw_X8 (48, 1, 84) (List.mem_of_getElem? (i := 6) rfl)) rfl rfl (by omega) (w_lo (n := 24) rfl (by omega)) (Nat.le_of_ble_eq_true rfl) (Nat.le_of_ble_eq_true rfl) rfl (tX8_readRope_0_ok (78, .invokestatic 48, 3) (List.mem_of_getElem? (i := 44) rfl)) (s_readNumber hT N hp (sp_bit_l (c := v6.toInt) (by rw [e9]; omega)) ⟨by omega, w_sub (n := 24) rfl (by omega)⟩ (by omega) ⟨c53, c55, n_b_t, l1, l2, by omega, by omega⟩ (((HP).fr N o10).fr N o54) (fun h56 at57 fl58 k59 k60 k61 p62 p63 e64 e65 o66 => ?_))
            obtain ⟨c67, c68, -, -, -, a69, a70⟩ := p62
            have a71 : v50.toInt.toNat = (sp_sk f len.toInt.toNat at0.toInt.toNat) + 1 := by omega
            rw [a71, e9] at e64
            rw [a71, e9] at e65
            show ww l D tys A X fr lo mX8_readRope Q 81 [(3, .int v46), (6, .int v16), (5, .int v6), (4, .int i), (0, .ref t), (1, .ref P), (2, .int p)] [] h56
            refine w_aload_n (List.Mem.tail _ (List.Mem.tail _ (List.Mem.tail _ (List.Mem.tail _ (List.Mem.head _))))) (tX8_readRope_0_ok (81, .aload_n 0, 1) (List.mem_of_getElem? (i := 45) rfl)) ?_
            refine w_callV (own := 13) (mi := 74) [] [] [(0, .ref t)] rfl (cllw_X8 (20, 0, 74) (List.mem_of_getElem? (i := 8) rfl)) rfl rfl c67 rfl (by omega) (w_lo (n := 20) rfl (by omega)) (Nat.le_of_ble_eq_true rfl) (Nat.le_of_ble_eq_true rfl) rfl (tX8_readRope_0_ok (82, .invokevirtual 20, 3) (List.mem_of_getElem? (i := 46) rfl)) (s_isWrong hT ⟨c67, c68, n_b_t, l1, l2, by omega, by omega⟩ (fun v72 e73 => ?_))
            show ww l D tys A X fr lo mX8_readRope Q 85 [(3, .int v46), (6, .int v16), (5, .int v6), (4, .int i), (0, .ref t), (1, .ref P), (2, .int p)] [.int v72] h56
            refine w_if_eq (tgt := 89) (tX8_readRope_0_ok (85, .ifCond .eq 4, 3) (List.mem_of_getElem? (i := 47) rfl)) rfl (fun b74 => ?_) (fun b74 => ?_)
            · refine w_aload_n (List.Mem.tail _ (List.Mem.tail _ (List.Mem.tail _ (List.Mem.tail _ (List.Mem.head _))))) (tX8_readRope_0_ok (89, .aload_n 0, 1) (List.mem_of_getElem? (i := 49) rfl)) ?_
              refine w_callV (own := 13) (mi := 77) [] [] [(0, .ref t)] rfl (cllw_X8 (24, 0, 77) (List.mem_of_getElem? (i := 3) rfl)) rfl rfl c67 rfl (by omega) (w_lo (n := 20) rfl (by omega)) (Nat.le_of_ble_eq_true rfl) (Nat.le_of_ble_eq_true rfl) rfl (tX8_readRope_0_ok (90, .invokevirtual 24, 3) (List.mem_of_getElem? (i := 50) rfl)) (s_sign hT ⟨c67, c68, n_b_t, l1, l2, by omega, by omega⟩ (fun h75 at76 v77 p78 e79 e80 o81 => ?_))
              obtain ⟨c82, c83, -, -, -, a84, a85⟩ := p78
              show ww l D tys A X fr lo mX8_readRope Q 93 [(3, .int v46), (6, .int v16), (5, .int v6), (4, .int i), (0, .ref t), (1, .ref P), (2, .int p)] [.int v77] h75
              rw [e79] at e80
              have g86 := sp_sg_or f len.toInt.toNat (sp_sk f len.toInt.toNat at57.toInt.toNat)
              refine w_bipush (by decide) (tX8_readRope_0_ok (93, .bipush 44, 2) (List.mem_of_getElem? (i := 51) rfl)) (fun v87 e88 => ?_)
              refine w_icmp_eq (tgt := 105) (tX8_readRope_0_ok (95, .if_icmp .eq 10, 3) (List.mem_of_getElem? (i := 52) rfl)) rfl (fun b89 => ?_) (fun b89 => ?_)
              · refine w_aload_n (List.Mem.tail _ (List.Mem.tail _ (List.Mem.tail _ (List.Mem.tail _ (List.Mem.head _))))) (tX8_readRope_0_ok (105, .aload_n 0, 1) (List.mem_of_getElem? (i := 58) rfl)) ?_
                refine w_dup rfl (tX8_readRope_0_ok (106, .dup, 1) (List.mem_of_getElem? (i := 59) rfl)) ?_
                refine w_get (own := 13) rfl rfl (by decide) c82 rfl (tX8_readRope_1_ok (107, .getfield 37, 3) (List.mem_of_getElem? (i := 0) rfl)) ?_
                refine w_iconst (by decide) (tX8_readRope_1_ok (110, .iconst 1, 1) (List.mem_of_getElem? (i := 1) rfl)) (fun v90 e91 => ?_)
                refine w_iadd (by omega) (by omega) (tX8_readRope_1_ok (111, .iadd, 1) (List.mem_of_getElem? (i := 2) rfl)) (fun v92 e93 => ?_)
                refine w_put (own := 13) [.ref b, .int len, .int v92, .int fl58] rfl rfl rfl (by decide) rfl ⟨rfl, rfl⟩ c82 (Nat.le_of_ble_eq_true rfl) (tX8_readRope_1_ok (112, .putfield 37, 3) (List.mem_of_getElem? (i := 3) rfl)) (fun h94 c95 o96 => ?_)
                have c97 := (o96 b (pn_ne s_b s_t (by decide))).trans c83
                refine w_iinc (fun v98 => [(4, .int v98), (3, .int v46), (6, .int v16), (5, .int v6), (0, .ref t), (1, .ref P), (2, .int p)]) (fun _ => rfl) (List.Mem.tail _ (List.Mem.tail _ (List.Mem.tail _ (List.Mem.head _)))) (Nat.le_of_ble_eq_true rfl) (by decide) (by omega) (by omega) (tX8_readRope_1_ok (115, .iinc 4 1, 3) (List.mem_of_getElem? (i := 4) rfl)) (fun v98 e99 => ?_)
                refine w_goto (tgt := 10) (tX8_readRope_1_ok (118, .goto (-108), 3) (List.mem_of_getElem? (i := 5) rfl)) rfl ?_
                have y0 : fl58.toInt = -1 := by omega
                have y1 : ¬ (sp_bit (sp_sg f len.toInt.toNat (sp_sk f len.toInt.toNat at0.toInt.toNat)) = 0 ∨ tn / sp_bit (sp_sg f len.toInt.toNat (sp_sk f len.toInt.toNat at0.toInt.toNat)) % 2 = 1 ∨ sp_sg f len.toInt.toNat (sp_sk f len.toInt.toNat at0.toInt.toNat) = 117 ∧ p.toInt = 0) := by omega
                obtain ⟨q9, q8, q7⟩ := sp_is.inr e64 y0
                have y2 := e65 y0
                have y3 := sp_rp_go (j := j - 1) (t := tn) (K := (g1 p.toInt.toNat).toInt) rfl rfl y1 q8 y2.1 y2.2.1 y2.2.2
                have y4 := sp_num_nn f len.toInt.toNat 3 (sp_sk f len.toInt.toNat at0.toInt.toNat + 1)
                have g2o := HP.2.2.2.2.2.2.2.2.2 p.toInt.toNat (by omega)
                have g2p := ((((p63).fr N o81).fr N o96)).2.2.2.2.2.2.2.2.2 p.toInt.toNat (by omega)
                have x9 : 0 ≤ (k61 p.toInt.toNat).toInt ∧ (k61 p.toInt.toNat).toInt ≤ 20 := by
                  have z1 := y2.2.2
                  unfold sp_kv at z1
                  have z2 : sp_ok p.toInt (g2 p.toInt.toNat).toInt (g3 p.toInt.toNat).toInt (sp_sg f len.toInt.toNat (sp_sk f len.toInt.toNat at0.toInt.toNat)) (sp_num f len.toInt.toNat 3 (sp_sk f len.toInt.toNat at0.toInt.toNat + 1)).2 := sp_rn_ok q8
                  have z3 := fun e => sp_ok_x z2 e
                  split at z1 <;> omega
                refine w_lv [(4, .int v98), (3, .int v46), (0, .ref t), (1, .ref P), (2, .int p)] (by intro q hq; simp only [List.mem_cons, List.not_mem_nil, or_false] at hq ⊢; rcases hq with e | e | e | e | e <;> subst e <;> simp) ?_
                refine ih (j - 1) (by omega) _ _ _ _ _ _ _ _ (tn + sp_bit (sp_sg f len.toInt.toNat (sp_sk f len.toInt.toNat at0.toInt.toNat))) (by omega) (by omega) (by omega) d8.2.1 (by omega) x9 (by omega) ⟨c95, c97, n_b_t, l1, l2, by omega, by omega⟩ (((p63).fr N o81).fr N o96) (fun h1 at1 fl1 m1 m2 m3 p1 p2 p3 p4 => hq h1 at1 fl1 m1 m2 m3 p1 p2 ?_ (fun q hq => (p4 q hq).trans ((o96 q (pn_nl hq s_t (by decide))).trans ((o81 q (pn_nl hq s_t (by decide))).trans ((o66 q hq).trans ((o54 q (pn_nl hq s_t (by decide))).trans (o10 q (pn_nl hq s_t (by decide)))))))))
                rw [j9, y3]
                unfold sp_re
                have y6 : sp_sk f len.toInt.toNat q9 + 1 = v92.toInt.toNat := by have y7 : q9 = at57.toInt.toNat := (by omega); rw [y7, ← e79]; omega
                rw [y6, if_pos (by have y7 : q9 = at57.toInt.toNat := (by omega); rw [y7, ← e80]; omega)]
                exact p3
              · refine w_aload_n (List.Mem.tail _ (List.Mem.tail _ (List.Mem.tail _ (List.Mem.tail _ (List.Mem.head _))))) (tX8_readRope_0_ok (98, .aload_n 0, 1) (List.mem_of_getElem? (i := 53) rfl)) ?_
                refine w_aload_n (List.Mem.tail _ (List.Mem.tail _ (List.Mem.tail _ (List.Mem.tail _ (List.Mem.tail _ (List.Mem.head _)))))) (tX8_readRope_0_ok (99, .aload_n 1, 1) (List.mem_of_getElem? (i := 54) rfl)) ?_
                refine w_iload_n (List.Mem.tail _ (List.Mem.tail _ (List.Mem.tail _ (List.Mem.tail _ (List.Mem.tail _ (List.Mem.tail _ (List.Mem.head _))))))) (tX8_readRope_0_ok (100, .iload_n 2, 1) (List.mem_of_getElem? (i := 55) rfl)) ?_
                have y0 : fl58.toInt = -1 := by omega
                have y1 : ¬ (sp_bit (sp_sg f len.toInt.toNat (sp_sk f len.toInt.toNat at0.toInt.toNat)) = 0 ∨ tn / sp_bit (sp_sg f len.toInt.toNat (sp_sk f len.toInt.toNat at0.toInt.toNat)) % 2 = 1 ∨ sp_sg f len.toInt.toNat (sp_sk f len.toInt.toNat at0.toInt.toNat) = 117 ∧ p.toInt = 0) := by omega
                obtain ⟨q9, q8, q7⟩ := sp_is.inr e64 y0
                have y2 := e65 y0
                have y3 := sp_rp_go (j := j - 1) (t := tn) (K := (g1 p.toInt.toNat).toInt) rfl rfl y1 q8 y2.1 y2.2.1 y2.2.2
                have y4 := sp_num_nn f len.toInt.toNat 3 (sp_sk f len.toInt.toNat at0.toInt.toNat + 1)
                have g2o := HP.2.2.2.2.2.2.2.2.2 p.toInt.toNat (by omega)
                have g2p := (((p63).fr N o81)).2.2.2.2.2.2.2.2.2 p.toInt.toNat (by omega)
                have x9 : 0 ≤ (k61 p.toInt.toNat).toInt ∧ (k61 p.toInt.toNat).toInt ≤ 20 := by
                  have z1 := y2.2.2
                  unfold sp_kv at z1
                  have z2 : sp_ok p.toInt (g2 p.toInt.toNat).toInt (g3 p.toInt.toNat).toInt (sp_sg f len.toInt.toNat (sp_sk f len.toInt.toNat at0.toInt.toNat)) (sp_num f len.toInt.toNat 3 (sp_sk f len.toInt.toNat at0.toInt.toNat + 1)).2 := sp_rn_ok q8
                  have z3 := fun e => sp_ok_x z2 e
                  split at z1 <;> omega
                refine w_callS (own := 13) (mi := 82) [.ref t, .ref P, .int p] [] [(0, .ref t), (1, .ref P), (2, .int p)] rfl (cllw_X8 (52, 1, 82) (List.mem_of_getElem? (i := 11) rfl)) rfl rfl (by omega) (w_lo (n := 23) rfl (by omega)) (Nat.le_of_ble_eq_true rfl) (Nat.le_of_ble_eq_true rfl) rfl (tX8_readRope_0_ok (101, .invokestatic 52, 3) (List.mem_of_getElem? (i := 56) rfl)) (s_endRope hT N hp x9 ⟨by omega, w_sub (n := 23) rfl (by omega)⟩ (by omega) ⟨c82, c83, n_b_t, l1, l2, by omega, by omega⟩ ((p63).fr N o81) (fun h100 at101 fl102 p103 p104 e105 o106 => ?_))
                obtain ⟨c108, c109, -, -, -, a110, a111⟩ := p103
                show ww l D tys A X fr lo mX8_readRope Q 104 [(3, .int v46), (6, .int v16), (5, .int v6), (4, .int i), (0, .ref t), (1, .ref P), (2, .int p)] [] h100
                refine w_vret rfl (tX8_readRope_0_ok (104, .return_, 1) (List.mem_of_getElem? (i := 57) rfl)) ?_
                have y5 : sp_sk f len.toInt.toNat at76.toInt.toNat = at76.toInt.toNat := by rw [e79, sp_sk_sk]
                rw [y5] at e105
                refine hq h100 at101 fl102 k59 k60 k61 ⟨c108, c109, n_b_t, l1, l2, by omega, by omega⟩ p104 ?_ (fun q hq => (o106 q hq).trans ((o81 q (pn_nl hq s_t (by decide))).trans ((o66 q hq).trans ((o54 q (pn_nl hq s_t (by decide))).trans (o10 q (pn_nl hq s_t (by decide)))))))
                rw [j9, y3]
                unfold sp_re
                have y6 : sp_sk f len.toInt.toNat q9 = at76.toInt.toNat := by rw [e79]; congr 1; omega
                rw [y6, if_neg (by rw [← y6]; have y7 : q9 = at57.toInt.toNat := (by omega); rw [y7, ← e80]; omega)]
                exact e105
            · refine w_vret rfl (tX8_readRope_0_ok (88, .return_, 1) (List.mem_of_getElem? (i := 48) rfl)) ?_
              obtain ⟨q9, q8, q7⟩ := sp_is.inl e64 (by omega)
              have y1 : ¬ (sp_bit (sp_sg f len.toInt.toNat (sp_sk f len.toInt.toNat at0.toInt.toNat)) = 0 ∨ tn / sp_bit (sp_sg f len.toInt.toNat (sp_sk f len.toInt.toNat at0.toInt.toNat)) % 2 = 1 ∨ sp_sg f len.toInt.toNat (sp_sk f len.toInt.toNat at0.toInt.toNat) = 117 ∧ p.toInt = 0) := by omega
              refine hq h56 at57 fl58 k59 k60 k61 ⟨c67, c68, n_b_t, l1, l2, by omega, by omega⟩ p63 ?_ (fun q hq => (o66 q hq).trans ((o54 q (pn_nl hq s_t (by decide))).trans (o10 q (pn_nl hq s_t (by decide)))))
              rw [j9, sp_rp_num (c := sp_sg f len.toInt.toNat (sp_sk f len.toInt.toNat at0.toInt.toNat)) rfl rfl y1 q8]
              exact q7
          · refine w_iload_n (List.Mem.tail _ (List.Mem.tail _ (List.Mem.tail _ (List.Mem.tail _ (List.Mem.tail _ (List.Mem.tail _ (List.Mem.head _))))))) (tX8_readRope_0_ok (49, .iload_n 2, 1) (List.mem_of_getElem? (i := 25) rfl)) ?_
            refine w_if_ne (tgt := 58) (tX8_readRope_0_ok (50, .ifCond .ne 8, 3) (List.mem_of_getElem? (i := 26) rfl)) rfl (fun b112 => ?_) (fun b112 => ?_)
            · refine w_iload_n (List.Mem.tail _ (List.Mem.tail _ (List.Mem.tail _ (List.Mem.head _)))) (tX8_readRope_0_ok (58, .iload_n 3, 1) (List.mem_of_getElem? (i := 30) rfl)) ?_
              refine w_iload (List.Mem.head _) (tX8_readRope_0_ok (59, .iload 6, 2) (List.mem_of_getElem? (i := 31) rfl)) ?_
              refine w_ior (tX8_readRope_0_ok (61, .ior, 1) (List.mem_of_getElem? (i := 32) rfl)) (fun v113 e114 => ?_)
              have d9 : ¬ tn / sp_bit (sp_sg f len.toInt.toNat (sp_sk f len.toInt.toNat at0.toInt.toNat)) % 2 = 1 := by omega
              have d8 := d30.2 d9
              have d7 := d8.1 v113 e114
              refine w_istore_n [(3, .int v113), (6, .int v16), (5, .int v6), (4, .int i), (0, .ref t), (1, .ref P), (2, .int p)] rfl (Nat.le_of_ble_eq_true rfl) (tX8_readRope_0_ok (62, .istore_n 3, 1) (List.mem_of_getElem? (i := 33) rfl)) ?_
              refine w_aload_n (List.Mem.tail _ (List.Mem.tail _ (List.Mem.tail _ (List.Mem.tail _ (List.Mem.head _))))) (tX8_readRope_0_ok (63, .aload_n 0, 1) (List.mem_of_getElem? (i := 34) rfl)) ?_
              refine w_dup rfl (tX8_readRope_0_ok (64, .dup, 1) (List.mem_of_getElem? (i := 35) rfl)) ?_
              refine w_get (own := 13) rfl rfl (by decide) c11 rfl (tX8_readRope_0_ok (65, .getfield 37, 3) (List.mem_of_getElem? (i := 36) rfl)) ?_
              refine w_iconst (by decide) (tX8_readRope_0_ok (68, .iconst 1, 1) (List.mem_of_getElem? (i := 37) rfl)) (fun v115 e116 => ?_)
              refine w_iadd (by omega) (by omega) (tX8_readRope_0_ok (69, .iadd, 1) (List.mem_of_getElem? (i := 38) rfl)) (fun v117 e118 => ?_)
              refine w_put (own := 13) [.ref b, .int len, .int v117, .int fl0] rfl rfl rfl (by decide) rfl ⟨rfl, rfl⟩ c11 (Nat.le_of_ble_eq_true rfl) (tX8_readRope_0_ok (70, .putfield 37, 3) (List.mem_of_getElem? (i := 39) rfl)) (fun h119 c120 o121 => ?_)
              have c122 := (o121 b (pn_ne s_b s_t (by decide))).trans c12
              refine w_aload_n (List.Mem.tail _ (List.Mem.tail _ (List.Mem.tail _ (List.Mem.tail _ (List.Mem.head _))))) (tX8_readRope_0_ok (73, .aload_n 0, 1) (List.mem_of_getElem? (i := 40) rfl)) ?_
              refine w_aload_n (List.Mem.tail _ (List.Mem.tail _ (List.Mem.tail _ (List.Mem.tail _ (List.Mem.tail _ (List.Mem.head _)))))) (tX8_readRope_0_ok (74, .aload_n 1, 1) (List.mem_of_getElem? (i := 41) rfl)) ?_
              refine w_iload_n (List.Mem.tail _ (List.Mem.tail _ (List.Mem.tail _ (List.Mem.tail _ (List.Mem.tail _ (List.Mem.tail _ (List.Mem.head _))))))) (tX8_readRope_0_ok (75, .iload_n 2, 1) (List.mem_of_getElem? (i := 42) rfl)) ?_
              refine w_iload (List.Mem.tail _ (List.Mem.tail _ (List.Mem.head _))) (tX8_readRope_0_ok (76, .iload 5, 2) (List.mem_of_getElem? (i := 43) rfl)) ?_
              refine w_callS (own := 13) (mi := 84) [.ref t, .ref P, .int p, .int v6] [] [(0, .ref t), (1, .ref P), (2, .int p), (3, .int v6)] rfl (cllw_X8 (48, 1, 84) (List.mem_of_getElem? (i := 6) rfl)) rfl rfl (by omega) (w_lo (n := 24) rfl (by omega)) (Nat.le_of_ble_eq_true rfl) (Nat.le_of_ble_eq_true rfl) rfl (tX8_readRope_0_ok (78, .invokestatic 48, 3) (List.mem_of_getElem? (i := 44) rfl)) (s_readNumber hT N hp (sp_bit_l (c := v6.toInt) (by rw [e9]; omega)) ⟨by omega, w_sub (n := 24) rfl (by omega)⟩ (by omega) ⟨c120, c122, n_b_t, l1, l2, by omega, by omega⟩ (((HP).fr N o10).fr N o121) (fun h123 at124 fl125 k126 k127 k128 p129 p130 e131 e132 o133 => ?_))
              obtain ⟨c134, c135, -, -, -, a136, a137⟩ := p129
              have a138 : v117.toInt.toNat = (sp_sk f len.toInt.toNat at0.toInt.toNat) + 1 := by omega
              rw [a138, e9] at e131
              rw [a138, e9] at e132
              show ww l D tys A X fr lo mX8_readRope Q 81 [(3, .int v113), (6, .int v16), (5, .int v6), (4, .int i), (0, .ref t), (1, .ref P), (2, .int p)] [] h123
              refine w_aload_n (List.Mem.tail _ (List.Mem.tail _ (List.Mem.tail _ (List.Mem.tail _ (List.Mem.head _))))) (tX8_readRope_0_ok (81, .aload_n 0, 1) (List.mem_of_getElem? (i := 45) rfl)) ?_
              refine w_callV (own := 13) (mi := 74) [] [] [(0, .ref t)] rfl (cllw_X8 (20, 0, 74) (List.mem_of_getElem? (i := 8) rfl)) rfl rfl c134 rfl (by omega) (w_lo (n := 20) rfl (by omega)) (Nat.le_of_ble_eq_true rfl) (Nat.le_of_ble_eq_true rfl) rfl (tX8_readRope_0_ok (82, .invokevirtual 20, 3) (List.mem_of_getElem? (i := 46) rfl)) (s_isWrong hT ⟨c134, c135, n_b_t, l1, l2, by omega, by omega⟩ (fun v139 e140 => ?_))
              show ww l D tys A X fr lo mX8_readRope Q 85 [(3, .int v113), (6, .int v16), (5, .int v6), (4, .int i), (0, .ref t), (1, .ref P), (2, .int p)] [.int v139] h123
              refine w_if_eq (tgt := 89) (tX8_readRope_0_ok (85, .ifCond .eq 4, 3) (List.mem_of_getElem? (i := 47) rfl)) rfl (fun b141 => ?_) (fun b141 => ?_)
              · refine w_aload_n (List.Mem.tail _ (List.Mem.tail _ (List.Mem.tail _ (List.Mem.tail _ (List.Mem.head _))))) (tX8_readRope_0_ok (89, .aload_n 0, 1) (List.mem_of_getElem? (i := 49) rfl)) ?_
                refine w_callV (own := 13) (mi := 77) [] [] [(0, .ref t)] rfl (cllw_X8 (24, 0, 77) (List.mem_of_getElem? (i := 3) rfl)) rfl rfl c134 rfl (by omega) (w_lo (n := 20) rfl (by omega)) (Nat.le_of_ble_eq_true rfl) (Nat.le_of_ble_eq_true rfl) rfl (tX8_readRope_0_ok (90, .invokevirtual 24, 3) (List.mem_of_getElem? (i := 50) rfl)) (s_sign hT ⟨c134, c135, n_b_t, l1, l2, by omega, by omega⟩ (fun h142 at143 v144 p145 e146 e147 o148 => ?_))
                obtain ⟨c149, c150, -, -, -, a151, a152⟩ := p145
                show ww l D tys A X fr lo mX8_readRope Q 93 [(3, .int v113), (6, .int v16), (5, .int v6), (4, .int i), (0, .ref t), (1, .ref P), (2, .int p)] [.int v144] h142
                rw [e146] at e147
                have g153 := sp_sg_or f len.toInt.toNat (sp_sk f len.toInt.toNat at124.toInt.toNat)
                refine w_bipush (by decide) (tX8_readRope_0_ok (93, .bipush 44, 2) (List.mem_of_getElem? (i := 51) rfl)) (fun v154 e155 => ?_)
                refine w_icmp_eq (tgt := 105) (tX8_readRope_0_ok (95, .if_icmp .eq 10, 3) (List.mem_of_getElem? (i := 52) rfl)) rfl (fun b156 => ?_) (fun b156 => ?_)
                · refine w_aload_n (List.Mem.tail _ (List.Mem.tail _ (List.Mem.tail _ (List.Mem.tail _ (List.Mem.head _))))) (tX8_readRope_0_ok (105, .aload_n 0, 1) (List.mem_of_getElem? (i := 58) rfl)) ?_
                  refine w_dup rfl (tX8_readRope_0_ok (106, .dup, 1) (List.mem_of_getElem? (i := 59) rfl)) ?_
                  refine w_get (own := 13) rfl rfl (by decide) c149 rfl (tX8_readRope_1_ok (107, .getfield 37, 3) (List.mem_of_getElem? (i := 0) rfl)) ?_
                  refine w_iconst (by decide) (tX8_readRope_1_ok (110, .iconst 1, 1) (List.mem_of_getElem? (i := 1) rfl)) (fun v157 e158 => ?_)
                  refine w_iadd (by omega) (by omega) (tX8_readRope_1_ok (111, .iadd, 1) (List.mem_of_getElem? (i := 2) rfl)) (fun v159 e160 => ?_)
                  refine w_put (own := 13) [.ref b, .int len, .int v159, .int fl125] rfl rfl rfl (by decide) rfl ⟨rfl, rfl⟩ c149 (Nat.le_of_ble_eq_true rfl) (tX8_readRope_1_ok (112, .putfield 37, 3) (List.mem_of_getElem? (i := 3) rfl)) (fun h161 c162 o163 => ?_)
                  have c164 := (o163 b (pn_ne s_b s_t (by decide))).trans c150
                  refine w_iinc (fun v165 => [(4, .int v165), (3, .int v113), (6, .int v16), (5, .int v6), (0, .ref t), (1, .ref P), (2, .int p)]) (fun _ => rfl) (List.Mem.tail _ (List.Mem.tail _ (List.Mem.tail _ (List.Mem.head _)))) (Nat.le_of_ble_eq_true rfl) (by decide) (by omega) (by omega) (tX8_readRope_1_ok (115, .iinc 4 1, 3) (List.mem_of_getElem? (i := 4) rfl)) (fun v165 e166 => ?_)
                  refine w_goto (tgt := 10) (tX8_readRope_1_ok (118, .goto (-108), 3) (List.mem_of_getElem? (i := 5) rfl)) rfl ?_
                  have y0 : fl125.toInt = -1 := by omega
                  have y1 : ¬ (sp_bit (sp_sg f len.toInt.toNat (sp_sk f len.toInt.toNat at0.toInt.toNat)) = 0 ∨ tn / sp_bit (sp_sg f len.toInt.toNat (sp_sk f len.toInt.toNat at0.toInt.toNat)) % 2 = 1 ∨ sp_sg f len.toInt.toNat (sp_sk f len.toInt.toNat at0.toInt.toNat) = 117 ∧ p.toInt = 0) := by omega
                  obtain ⟨q9, q8, q7⟩ := sp_is.inr e131 y0
                  have y2 := e132 y0
                  have y3 := sp_rp_go (j := j - 1) (t := tn) (K := (g1 p.toInt.toNat).toInt) rfl rfl y1 q8 y2.1 y2.2.1 y2.2.2
                  have y4 := sp_num_nn f len.toInt.toNat 3 (sp_sk f len.toInt.toNat at0.toInt.toNat + 1)
                  have g2o := HP.2.2.2.2.2.2.2.2.2 p.toInt.toNat (by omega)
                  have g2p := ((((p130).fr N o148).fr N o163)).2.2.2.2.2.2.2.2.2 p.toInt.toNat (by omega)
                  have x9 : 0 ≤ (k128 p.toInt.toNat).toInt ∧ (k128 p.toInt.toNat).toInt ≤ 20 := by
                    have z1 := y2.2.2
                    unfold sp_kv at z1
                    have z2 : sp_ok p.toInt (g2 p.toInt.toNat).toInt (g3 p.toInt.toNat).toInt (sp_sg f len.toInt.toNat (sp_sk f len.toInt.toNat at0.toInt.toNat)) (sp_num f len.toInt.toNat 3 (sp_sk f len.toInt.toNat at0.toInt.toNat + 1)).2 := sp_rn_ok q8
                    have z3 := fun e => sp_ok_x z2 e
                    split at z1 <;> omega
                  refine w_lv [(4, .int v165), (3, .int v113), (0, .ref t), (1, .ref P), (2, .int p)] (by intro q hq; simp only [List.mem_cons, List.not_mem_nil, or_false] at hq ⊢; rcases hq with e | e | e | e | e <;> subst e <;> simp) ?_
                  refine ih (j - 1) (by omega) _ _ _ _ _ _ _ _ (tn + sp_bit (sp_sg f len.toInt.toNat (sp_sk f len.toInt.toNat at0.toInt.toNat))) (by omega) (by omega) (by omega) d8.2.1 (by omega) x9 (by omega) ⟨c162, c164, n_b_t, l1, l2, by omega, by omega⟩ (((p130).fr N o148).fr N o163) (fun h1 at1 fl1 m1 m2 m3 p1 p2 p3 p4 => hq h1 at1 fl1 m1 m2 m3 p1 p2 ?_ (fun q hq => (p4 q hq).trans ((o163 q (pn_nl hq s_t (by decide))).trans ((o148 q (pn_nl hq s_t (by decide))).trans ((o133 q hq).trans ((o121 q (pn_nl hq s_t (by decide))).trans (o10 q (pn_nl hq s_t (by decide)))))))))
                  rw [j9, y3]
                  unfold sp_re
                  have y6 : sp_sk f len.toInt.toNat q9 + 1 = v159.toInt.toNat := by have y7 : q9 = at124.toInt.toNat := (by omega); rw [y7, ← e146]; omega
                  rw [y6, if_pos (by have y7 : q9 = at124.toInt.toNat := (by omega); rw [y7, ← e147]; omega)]
                  exact p3
                · refine w_aload_n (List.Mem.tail _ (List.Mem.tail _ (List.Mem.tail _ (List.Mem.tail _ (List.Mem.head _))))) (tX8_readRope_0_ok (98, .aload_n 0, 1) (List.mem_of_getElem? (i := 53) rfl)) ?_
                  refine w_aload_n (List.Mem.tail _ (List.Mem.tail _ (List.Mem.tail _ (List.Mem.tail _ (List.Mem.tail _ (List.Mem.head _)))))) (tX8_readRope_0_ok (99, .aload_n 1, 1) (List.mem_of_getElem? (i := 54) rfl)) ?_
                  refine w_iload_n (List.Mem.tail _ (List.Mem.tail _ (List.Mem.tail _ (List.Mem.tail _ (List.Mem.tail _ (List.Mem.tail _ (List.Mem.head _))))))) (tX8_readRope_0_ok (100, .iload_n 2, 1) (List.mem_of_getElem? (i := 55) rfl)) ?_
                  have y0 : fl125.toInt = -1 := by omega
                  have y1 : ¬ (sp_bit (sp_sg f len.toInt.toNat (sp_sk f len.toInt.toNat at0.toInt.toNat)) = 0 ∨ tn / sp_bit (sp_sg f len.toInt.toNat (sp_sk f len.toInt.toNat at0.toInt.toNat)) % 2 = 1 ∨ sp_sg f len.toInt.toNat (sp_sk f len.toInt.toNat at0.toInt.toNat) = 117 ∧ p.toInt = 0) := by omega
                  obtain ⟨q9, q8, q7⟩ := sp_is.inr e131 y0
                  have y2 := e132 y0
                  have y3 := sp_rp_go (j := j - 1) (t := tn) (K := (g1 p.toInt.toNat).toInt) rfl rfl y1 q8 y2.1 y2.2.1 y2.2.2
                  have y4 := sp_num_nn f len.toInt.toNat 3 (sp_sk f len.toInt.toNat at0.toInt.toNat + 1)
                  have g2o := HP.2.2.2.2.2.2.2.2.2 p.toInt.toNat (by omega)
                  have g2p := (((p130).fr N o148)).2.2.2.2.2.2.2.2.2 p.toInt.toNat (by omega)
                  have x9 : 0 ≤ (k128 p.toInt.toNat).toInt ∧ (k128 p.toInt.toNat).toInt ≤ 20 := by
                    have z1 := y2.2.2
                    unfold sp_kv at z1
                    have z2 : sp_ok p.toInt (g2 p.toInt.toNat).toInt (g3 p.toInt.toNat).toInt (sp_sg f len.toInt.toNat (sp_sk f len.toInt.toNat at0.toInt.toNat)) (sp_num f len.toInt.toNat 3 (sp_sk f len.toInt.toNat at0.toInt.toNat + 1)).2 := sp_rn_ok q8
                    have z3 := fun e => sp_ok_x z2 e
                    split at z1 <;> omega
                  refine w_callS (own := 13) (mi := 82) [.ref t, .ref P, .int p] [] [(0, .ref t), (1, .ref P), (2, .int p)] rfl (cllw_X8 (52, 1, 82) (List.mem_of_getElem? (i := 11) rfl)) rfl rfl (by omega) (w_lo (n := 23) rfl (by omega)) (Nat.le_of_ble_eq_true rfl) (Nat.le_of_ble_eq_true rfl) rfl (tX8_readRope_0_ok (101, .invokestatic 52, 3) (List.mem_of_getElem? (i := 56) rfl)) (s_endRope hT N hp x9 ⟨by omega, w_sub (n := 23) rfl (by omega)⟩ (by omega) ⟨c149, c150, n_b_t, l1, l2, by omega, by omega⟩ ((p130).fr N o148) (fun h167 at168 fl169 p170 p171 e172 o173 => ?_))
                  obtain ⟨c175, c176, -, -, -, a177, a178⟩ := p170
                  show ww l D tys A X fr lo mX8_readRope Q 104 [(3, .int v113), (6, .int v16), (5, .int v6), (4, .int i), (0, .ref t), (1, .ref P), (2, .int p)] [] h167
                  refine w_vret rfl (tX8_readRope_0_ok (104, .return_, 1) (List.mem_of_getElem? (i := 57) rfl)) ?_
                  have y5 : sp_sk f len.toInt.toNat at143.toInt.toNat = at143.toInt.toNat := by rw [e146, sp_sk_sk]
                  rw [y5] at e172
                  refine hq h167 at168 fl169 k126 k127 k128 ⟨c175, c176, n_b_t, l1, l2, by omega, by omega⟩ p171 ?_ (fun q hq => (o173 q hq).trans ((o148 q (pn_nl hq s_t (by decide))).trans ((o133 q hq).trans ((o121 q (pn_nl hq s_t (by decide))).trans (o10 q (pn_nl hq s_t (by decide)))))))
                  rw [j9, y3]
                  unfold sp_re
                  have y6 : sp_sk f len.toInt.toNat q9 = at143.toInt.toNat := by rw [e146]; congr 1; omega
                  rw [y6, if_neg (by rw [← y6]; have y7 : q9 = at124.toInt.toNat := (by omega); rw [y7, ← e147]; omega)]
                  exact e172
              · refine w_vret rfl (tX8_readRope_0_ok (88, .return_, 1) (List.mem_of_getElem? (i := 48) rfl)) ?_
                obtain ⟨q9, q8, q7⟩ := sp_is.inl e131 (by omega)
                have y1 : ¬ (sp_bit (sp_sg f len.toInt.toNat (sp_sk f len.toInt.toNat at0.toInt.toNat)) = 0 ∨ tn / sp_bit (sp_sg f len.toInt.toNat (sp_sk f len.toInt.toNat at0.toInt.toNat)) % 2 = 1 ∨ sp_sg f len.toInt.toNat (sp_sk f len.toInt.toNat at0.toInt.toNat) = 117 ∧ p.toInt = 0) := by omega
                refine hq h123 at124 fl125 k126 k127 k128 ⟨c134, c135, n_b_t, l1, l2, by omega, by omega⟩ p130 ?_ (fun q hq => (o133 q hq).trans ((o121 q (pn_nl hq s_t (by decide))).trans (o10 q (pn_nl hq s_t (by decide)))))
                rw [j9, sp_rp_num (c := sp_sg f len.toInt.toNat (sp_sk f len.toInt.toNat at0.toInt.toNat)) rfl rfl y1 q8]
                exact q7
            · refine w_aload_n (List.Mem.tail _ (List.Mem.tail _ (List.Mem.tail _ (List.Mem.tail _ (List.Mem.head _))))) (tX8_readRope_0_ok (53, .aload_n 0, 1) (List.mem_of_getElem? (i := 27) rfl)) ?_
              refine w_callV (own := 13) (mi := 80) [] [] [(0, .ref t)] rfl (cllw_X8 (34, 0, 80) (List.mem_of_getElem? (i := 5) rfl)) rfl rfl c11 rfl (by omega) (w_lo (n := 20) rfl (by omega)) (Nat.le_of_ble_eq_true rfl) (Nat.le_of_ble_eq_true rfl) rfl (tX8_readRope_0_ok (54, .invokevirtual 34, 3) (List.mem_of_getElem? (i := 28) rfl)) (s_wrong hT ⟨c11, c12, n_b_t, l1, l2, by omega, by omega⟩ (fun h179 fl180 p181 e182 o183 => ?_))
              obtain ⟨c184, c185, -, -, -, a186, a187⟩ := p181
              show ww l D tys A X fr lo mX8_readRope Q 57 [(6, .int v16), (5, .int v6), (4, .int i), (3, .int told), (0, .ref t), (1, .ref P), (2, .int p)] [] h179
              refine w_vret rfl (tX8_readRope_0_ok (57, .return_, 1) (List.mem_of_getElem? (i := 29) rfl)) ?_
              have y1 : sp_bit (sp_sg f len.toInt.toNat (sp_sk f len.toInt.toNat at0.toInt.toNat)) = 0 ∨ tn / sp_bit (sp_sg f len.toInt.toNat (sp_sk f len.toInt.toNat at0.toInt.toNat)) % 2 = 1 ∨ sp_sg f len.toInt.toNat (sp_sk f len.toInt.toNat at0.toInt.toNat) = 117 ∧ p.toInt = 0 := by omega
              refine hq h179 at5 fl180 g1 g2 g3 ⟨c184, c185, n_b_t, l1, l2, by omega, by omega⟩ (((HP).fr N o10).fr N o183) ?_ (fun q hq => (o183 q (pn_nl hq s_t (by decide))).trans (o10 q (pn_nl hq s_t (by decide))))
              rw [j9, sp_rp_bad (c := sp_sg f len.toInt.toNat (sp_sk f len.toInt.toNat at0.toInt.toNat)) rfl rfl y1]
              show _ = _; omega
theorem s_readRope (hT : k_tys tys cA) {p : Int32} (hN : pns sg t b P a1 a2 a3 a4 a5 a6 a7 a8) (hp : 0 ≤ p.toInt ∧ p.toInt < 6) (hr : 3 ≤ fr ∧ 120 ≤ lo) (hf0 : fl0.toInt = -1) (H : tp cA h t b f len at0 fl0) (HP : pn cA h P a1 a2 a3 a4 a5 a6 a7 a8 g1 g2 g3) (hq : ∀ (h1 : ch_H) (at1 fl1 : Int32) (k1 k2 k3 : Nat → Int32), tp cA h1 t b f len at1 fl1 → pn cA h1 P a1 a2 a3 a4 a5 a6 a7 a8 k1 k2 k3 → sp_is (sp_rp f len.toInt.toNat p.toInt 10 at0.toInt.toNat 0 0 10 0) at1 fl1 → (∀ q, sg q < 3 → h1 q = h q) → Q none h1) : ww l D tys A X fr lo mX8_readRope Q 0 [(0, .ref t), (1, .ref P), (2, .int p)] [] h := by
  have N := hN
  obtain ⟨s_t, s_b, s_P, s_a1, s_a2, s_a3, s_a4, s_a5, s_a6, s_a7, s_a8⟩ := hN
  obtain ⟨c_t, c_b, n_b_t, l1, l2, a9, a10⟩ := H
  refine w_aload_n (List.Mem.tail _ (List.Mem.head _)) (tX8_readRope_0_ok (0, .aload_n 1, 1) (List.mem_of_getElem? (i := 0) rfl)) ?_
  refine w_iload_n (List.Mem.tail _ (List.Mem.tail _ (List.Mem.head _))) (tX8_readRope_0_ok (1, .iload_n 2, 1) (List.mem_of_getElem? (i := 1) rfl)) ?_
  refine w_callV (own := 13) (mi := 51) [.int p] [] [(0, .ref P), (1, .int p)] rfl (cllw_X8 (40, 0, 51) (List.mem_of_getElem? (i := 2) rfl)) rfl rfl (Exists.choose_spec (pn.obj HP)) rfl (by omega) (w_lo (n := 21) rfl (by omega)) (Nat.le_of_ble_eq_true rfl) (Nat.le_of_ble_eq_true rfl) rfl (tX8_readRope_0_ok (2, .invokevirtual 40, 3) (List.mem_of_getElem? (i := 2) rfl)) (s_untold hT N hp HP (fun h1 k2 k3 k4 p5 e6 e7 e8 o9 => ?_))
  have c10 := (o9 t (by rw [s_t]; decide)).trans c_t
  have c11 := (o9 b (by rw [s_b]; decide)).trans c_b
  show ww l D tys A X fr lo mX8_readRope Q 5 [(0, .ref t), (1, .ref P), (2, .int p)] [] h1
  refine w_iconst (by decide) (tX8_readRope_0_ok (5, .iconst 0, 1) (List.mem_of_getElem? (i := 3) rfl)) (fun v12 e13 => ?_)
  refine w_istore_n [(3, .int v12), (0, .ref t), (1, .ref P), (2, .int p)] rfl (Nat.le_of_ble_eq_true rfl) (tX8_readRope_0_ok (6, .istore_n 3, 1) (List.mem_of_getElem? (i := 4) rfl)) ?_
  refine w_iconst (by decide) (tX8_readRope_0_ok (7, .iconst 0, 1) (List.mem_of_getElem? (i := 5) rfl)) (fun v14 e15 => ?_)
  refine w_istore [(4, .int v14), (3, .int v12), (0, .ref t), (1, .ref P), (2, .int p)] rfl (Nat.le_of_ble_eq_true rfl) (tX8_readRope_0_ok (8, .istore 4, 2) (List.mem_of_getElem? (i := 6) rfl)) ?_
  refine s_ropeL hT N hp hr 10 _ _ _ _ _ k2 k3 k4 0 (by omega) (by omega) (by omega) (by decide) (by show ((0 : Nat) : Int) = _; omega) (by omega) hf0 ⟨c10, c11, n_b_t, l1, l2, by omega, by omega⟩ p5 (fun h1 at1 fl1 m1 m2 m3 p1 p2 p3 p4 => hq h1 at1 fl1 m1 m2 m3 p1 p2 ?_ (fun q hq => (p4 q hq).trans (o9 q (Nat.lt_of_lt_of_le hq (by decide)))))
  rw [e6, e7, e8] at p3
  exact p3
theorem s_townL (hT : k_tys tys cA) (hN : pns sg t b P a1 a2 a3 a4 a5 a6 a7 a8) (hr : 4 ≤ fr ∧ 160 ≤ lo) : ∀ (j : Nat) (p at0 fl0 : Int32) (h : ch_H) (g1 g2 g3 : Nat → Int32), p.toInt = 6 - (j : Int) → j ≤ 6 → 1 ≤ j → fl0.toInt = -1 → tp cA h t b f len at0 fl0 → pn cA h P a1 a2 a3 a4 a5 a6 a7 a8 g1 g2 g3 → (∀ (h1 : ch_H) (at1 fl1 : Int32) (k1 k2 k3 : Nat → Int32), tp cA h1 t b f len at1 fl1 → pn cA h1 P a1 a2 a3 a4 a5 a6 a7 a8 k1 k2 k3 → sp_is (sp_tn f len.toInt.toNat j p.toInt.toNat at0.toInt.toNat).1 at1 fl1 → (fl1.toInt = -1 → ∃ ro : Int32, h1 P = some (.inr (4, [.int ro, .ref a1, .ref a2, .ref a3, .ref a4, .ref a5, .ref a6, .ref a7, .ref a8])) ∧ ro.toInt = ((sp_tn f len.toInt.toNat j p.toInt.toNat at0.toInt.toNat).2 : Int)) → (∀ q, sg q < 2 → h1 q = h q) → Q none h1) → ww l D tys A X fr lo mX8_read Q 6 [(2, .int p), (0, .ref t), (1, .ref P)] [] h := by
  intro j
  induction j using Nat.strongRecOn with
  | ind j ih =>
    intro p at0 fl0 h g1 g2 g3 hp hj h1j hf0 H HP hq
    have N := hN
    obtain ⟨s_t, s_b, s_P, s_a1, s_a2, s_a3, s_a4, s_a5, s_a6, s_a7, s_a8⟩ := hN
    obtain ⟨c_t, c_b, n_b_t, l1, l2, a9, a10⟩ := H
    have j9 : j = (j - 1) + 1 := by omega
    refine w_iload_n (List.Mem.head _) (tX8_read_0_ok (6, .iload_n 2, 1) (List.mem_of_getElem? (i := 4) rfl)) ?_
    refine w_bipush (by decide) (tX8_read_0_ok (7, .bipush 6, 2) (List.mem_of_getElem? (i := 5) rfl)) (fun v1 e2 => ?_)
    refine w_icmp_ge (tgt := 66) (tX8_read_0_ok (9, .if_icmp .ge 57, 3) (List.mem_of_getElem? (i := 6) rfl)) rfl (fun b3 => ?_) (fun b3 => ?_)
    · exfalso; omega
    · refine w_aload_n (List.Mem.tail _ (List.Mem.head _)) (tX8_read_0_ok (12, .aload_n 0, 1) (List.mem_of_getElem? (i := 7) rfl)) ?_
      refine w_aload_n (List.Mem.tail _ (List.Mem.tail _ (List.Mem.head _))) (tX8_read_0_ok (13, .aload_n 1, 1) (List.mem_of_getElem? (i := 8) rfl)) ?_
      refine w_iload_n (List.Mem.head _) (tX8_read_0_ok (14, .iload_n 2, 1) (List.mem_of_getElem? (i := 9) rfl)) ?_
      refine w_callS (own := 13) (mi := 85) [.ref t, .ref P, .int p] [] [(0, .ref t), (1, .ref P), (2, .int p)] rfl (cllw_X8 (14, 1, 85) (List.mem_of_getElem? (i := 1) rfl)) rfl rfl (by omega) (w_lo (n := 26) rfl (by omega)) (Nat.le_of_ble_eq_true rfl) (Nat.le_of_ble_eq_true rfl) rfl (tX8_read_0_ok (15, .invokestatic 14, 3) (List.mem_of_getElem? (i := 10) rfl)) (s_readRope hT N (by omega) ⟨by omega, w_sub (n := 26) rfl (by omega)⟩ (by omega) ⟨c_t, c_b, n_b_t, l1, l2, by omega, by omega⟩ HP (fun h4 at5 fl6 k7 k8 k9 p10 p11 e12 o13 => ?_))
      obtain ⟨c14, c15, -, -, -, a16, a17⟩ := p10
      have a18 : p.toInt = ((p.toInt.toNat : Nat) : Int) := by omega
      rw [a18] at e12
      show ww l D tys A X fr lo mX8_read Q 18 [(2, .int p), (0, .ref t), (1, .ref P)] [] h4
      refine w_aload_n (List.Mem.tail _ (List.Mem.head _)) (tX8_read_0_ok (18, .aload_n 0, 1) (List.mem_of_getElem? (i := 11) rfl)) ?_
      refine w_callV (own := 13) (mi := 74) [] [] [(0, .ref t)] rfl (cllw_X8 (20, 0, 74) (List.mem_of_getElem? (i := 8) rfl)) rfl rfl c14 rfl (by omega) (w_lo (n := 20) rfl (by omega)) (Nat.le_of_ble_eq_true rfl) (Nat.le_of_ble_eq_true rfl) rfl (tX8_read_0_ok (19, .invokevirtual 20, 3) (List.mem_of_getElem? (i := 12) rfl)) (s_isWrong hT ⟨c14, c15, n_b_t, l1, l2, by omega, by omega⟩ (fun v19 e20 => ?_))
      show ww l D tys A X fr lo mX8_read Q 22 [(2, .int p), (0, .ref t), (1, .ref P)] [.int v19] h4
      refine w_if_ne (tgt := 32) (tX8_read_0_ok (22, .ifCond .ne 10, 3) (List.mem_of_getElem? (i := 13) rfl)) rfl (fun b21 => ?_) (fun b21 => ?_)
      · obtain ⟨⟨ro, c_P, ro1, ro2⟩, c_a1, c_a2, c_a3, ⟨g4, c_a4⟩, ⟨g5, c_a5⟩, ⟨g6, c_a6⟩, ⟨g7, c_a7⟩, ⟨g8, c_a8, g8b⟩, g2b⟩ := p11
        refine w_aload_n (List.Mem.tail _ (List.Mem.tail _ (List.Mem.head _))) (tX8_read_0_ok (32, .aload_n 1, 1) (List.mem_of_getElem? (i := 17) rfl)) ?_
        refine w_iload_n (List.Mem.head _) (tX8_read_0_ok (33, .iload_n 2, 1) (List.mem_of_getElem? (i := 18) rfl)) ?_
        refine w_iconst (by decide) (tX8_read_0_ok (34, .iconst 1, 1) (List.mem_of_getElem? (i := 19) rfl)) (fun v22 e23 => ?_)
        refine w_iadd (by omega) (by omega) (tX8_read_0_ok (35, .iadd, 1) (List.mem_of_getElem? (i := 20) rfl)) (fun v24 e25 => ?_)
        refine w_put (own := 13) [.int v24, .ref a1, .ref a2, .ref a3, .ref a4, .ref a5, .ref a6, .ref a7, .ref a8] rfl rfl rfl (by decide) rfl ⟨rfl, rfl⟩ c_P (Nat.le_of_ble_eq_true rfl) (tX8_read_0_ok (36, .putfield 28, 3) (List.mem_of_getElem? (i := 21) rfl)) (fun h26 c27 o28 => ?_)
        have c29 := (o28 t (pn_ne s_t s_P (by decide))).trans c14
        have c30 := (o28 b (pn_ne s_b s_P (by decide))).trans c15
        have c31 := (o28 a1 (pn_ne s_a1 s_P (by decide))).trans c_a1
        have c32 := (o28 a2 (pn_ne s_a2 s_P (by decide))).trans c_a2
        have c33 := (o28 a3 (pn_ne s_a3 s_P (by decide))).trans c_a3
        have c34 := (o28 a4 (pn_ne s_a4 s_P (by decide))).trans c_a4
        have c35 := (o28 a5 (pn_ne s_a5 s_P (by decide))).trans c_a5
        have c36 := (o28 a6 (pn_ne s_a6 s_P (by decide))).trans c_a6
        have c37 := (o28 a7 (pn_ne s_a7 s_P (by decide))).trans c_a7
        have c38 := (o28 a8 (pn_ne s_a8 s_P (by decide))).trans c_a8
        refine w_vret rfl (tX8_read_0_ok (39, .return_, 1) (List.mem_of_getElem? (i := 22) rfl)) ?_
        obtain ⟨q9, q8, q7⟩ := sp_is.inl e12 (by omega)
        refine hq h26 at5 fl6 k7 k8 k9 ⟨c29, c30, n_b_t, l1, l2, by omega, by omega⟩ ⟨⟨_, c27, by omega, by omega⟩, c31, c32, c33, ⟨_, c34⟩, ⟨_, c35⟩, ⟨_, c36⟩, ⟨_, c37⟩, ⟨_, c38, g8b⟩, g2b⟩ ?_ ?_ (fun q hq => (o28 q (pn_nl hq s_P (by decide))).trans (o13 q (Nat.lt_of_lt_of_le hq (by decide))))
        · rw [j9, sp_tn, q8]; exact q7
        · intro z9; omega
      · refine w_aload_n (List.Mem.tail _ (List.Mem.head _)) (tX8_read_0_ok (25, .aload_n 0, 1) (List.mem_of_getElem? (i := 14) rfl)) ?_
        refine w_callV (own := 13) (mi := 77) [] [] [(0, .ref t)] rfl (cllw_X8 (24, 0, 77) (List.mem_of_getElem? (i := 3) rfl)) rfl rfl c14 rfl (by omega) (w_lo (n := 20) rfl (by omega)) (Nat.le_of_ble_eq_true rfl) (Nat.le_of_ble_eq_true rfl) rfl (tX8_read_0_ok (26, .invokevirtual 24, 3) (List.mem_of_getElem? (i := 15) rfl)) (s_sign hT ⟨c14, c15, n_b_t, l1, l2, by omega, by omega⟩ (fun h39 at40 v41 p42 e43 e44 o45 => ?_))
        obtain ⟨c46, c47, -, -, -, a48, a49⟩ := p42
        show ww l D tys A X fr lo mX8_read Q 29 [(2, .int p), (0, .ref t), (1, .ref P)] [.int v41] h39
        rw [e43] at e44
        have g50 := sp_sg_or f len.toInt.toNat (sp_sk f len.toInt.toNat at5.toInt.toNat)
        refine w_if_ne (tgt := 40) (tX8_read_0_ok (29, .ifCond .ne 11, 3) (List.mem_of_getElem? (i := 16) rfl)) rfl (fun b51 => ?_) (fun b51 => ?_)
        · refine w_iload_n (List.Mem.head _) (tX8_read_0_ok (40, .iload_n 2, 1) (List.mem_of_getElem? (i := 23) rfl)) ?_
          refine w_iconst (by decide) (tX8_read_0_ok (41, .iconst 5, 1) (List.mem_of_getElem? (i := 24) rfl)) (fun v52 e53 => ?_)
          refine w_icmp_ne (tgt := 50) (tX8_read_0_ok (42, .if_icmp .ne 8, 3) (List.mem_of_getElem? (i := 25) rfl)) rfl (fun b54 => ?_) (fun b54 => ?_)
          · refine w_aload_n (List.Mem.tail _ (List.Mem.head _)) (tX8_read_0_ok (50, .aload_n 0, 1) (List.mem_of_getElem? (i := 29) rfl)) ?_
            refine w_dup rfl (tX8_read_0_ok (51, .dup, 1) (List.mem_of_getElem? (i := 30) rfl)) ?_
            refine w_get (own := 13) rfl rfl (by decide) c46 rfl (tX8_read_0_ok (52, .getfield 37, 3) (List.mem_of_getElem? (i := 31) rfl)) ?_
            refine w_iconst (by decide) (tX8_read_0_ok (55, .iconst 1, 1) (List.mem_of_getElem? (i := 32) rfl)) (fun v55 e56 => ?_)
            refine w_iadd (by omega) (by omega) (tX8_read_0_ok (56, .iadd, 1) (List.mem_of_getElem? (i := 33) rfl)) (fun v57 e58 => ?_)
            refine w_put (own := 13) [.ref b, .int len, .int v57, .int fl6] rfl rfl rfl (by decide) rfl ⟨rfl, rfl⟩ c46 (Nat.le_of_ble_eq_true rfl) (tX8_read_0_ok (57, .putfield 37, 3) (List.mem_of_getElem? (i := 34) rfl)) (fun h59 c60 o61 => ?_)
            have c62 := (o61 b (pn_ne s_b s_t (by decide))).trans c47
            refine w_iinc (fun v63 => [(2, .int v63), (0, .ref t), (1, .ref P)]) (fun _ => rfl) (List.Mem.head _) (Nat.le_of_ble_eq_true rfl) (by decide) (by omega) (by omega) (tX8_read_0_ok (60, .iinc 2 1, 3) (List.mem_of_getElem? (i := 35) rfl)) (fun v63 e64 => ?_)
            refine w_goto (tgt := 6) (tX8_read_0_ok (63, .goto (-57), 3) (List.mem_of_getElem? (i := 36) rfl)) rfl ?_
            obtain ⟨q9, q8, q7⟩ := sp_is.inr e12 (by omega)
            have y7 : q9 = at5.toInt.toNat := by omega
            have y6 := e44
            rw [← y7] at y6
            have y5 := e43
            rw [← y7] at y5
            have y8 : sp_tn f len.toInt.toNat j p.toInt.toNat at0.toInt.toNat = sp_tn f len.toInt.toNat (j - 1) v63.toInt.toNat v57.toInt.toNat := by
              rw [j9, sp_tn, q8]; dsimp only; rw [if_neg (by omega), if_neg (by omega)]; congr 1 <;> omega
            refine ih (j - 1) (by omega) _ _ _ _ k7 k8 k9 (by omega) (by omega) (by omega) (by omega) ⟨c60, c62, n_b_t, l1, l2, by omega, by omega⟩ (((p11).fr N o45).fr N o61) (fun h1 at1 fl1 m1 m2 m3 p1 p2 p3 p5 p4 => hq h1 at1 fl1 m1 m2 m3 p1 p2 ?_ ?_ (fun q hq => (p4 q hq).trans ((o61 q (pn_nl hq s_t (by decide))).trans ((o45 q (pn_nl hq s_t (by decide))).trans (o13 q (Nat.lt_of_lt_of_le hq (by decide)))))))
            · rw [y8]; exact p3
            · rw [y8]; exact p5
          · refine w_aload_n (List.Mem.tail _ (List.Mem.head _)) (tX8_read_0_ok (45, .aload_n 0, 1) (List.mem_of_getElem? (i := 26) rfl)) ?_
            refine w_callV (own := 13) (mi := 80) [] [] [(0, .ref t)] rfl (cllw_X8 (34, 0, 80) (List.mem_of_getElem? (i := 5) rfl)) rfl rfl c46 rfl (by omega) (w_lo (n := 20) rfl (by omega)) (Nat.le_of_ble_eq_true rfl) (Nat.le_of_ble_eq_true rfl) rfl (tX8_read_0_ok (46, .invokevirtual 34, 3) (List.mem_of_getElem? (i := 27) rfl)) (s_wrong hT ⟨c46, c47, n_b_t, l1, l2, by omega, by omega⟩ (fun h65 fl66 p67 e68 o69 => ?_))
            obtain ⟨c70, c71, -, -, -, a72, a73⟩ := p67
            show ww l D tys A X fr lo mX8_read Q 49 [(2, .int p), (0, .ref t), (1, .ref P)] [] h65
            refine w_vret rfl (tX8_read_0_ok (49, .return_, 1) (List.mem_of_getElem? (i := 28) rfl)) ?_
            obtain ⟨q9, q8, q7⟩ := sp_is.inr e12 (by omega)
            have y7 : q9 = at5.toInt.toNat := by omega
            have y6 := e44
            rw [← y7] at y6
            have y5 := e43
            rw [← y7] at y5
            refine hq h65 at40 fl66 k7 k8 k9 ⟨c70, c71, n_b_t, l1, l2, by omega, by omega⟩ (((p11).fr N o45).fr N o69) ?_ ?_ (fun q hq => (o69 q (pn_nl hq s_t (by decide))).trans ((o45 q (pn_nl hq s_t (by decide))).trans (o13 q (Nat.lt_of_lt_of_le hq (by decide)))))
            · rw [j9, sp_tn, q8]; dsimp only; rw [if_neg (by omega), if_pos (by omega)]; show _ = _; omega
            · intro z9; omega
        · obtain ⟨⟨ro, c_P, ro1, ro2⟩, c_a1, c_a2, c_a3, ⟨g4, c_a4⟩, ⟨g5, c_a5⟩, ⟨g6, c_a6⟩, ⟨g7, c_a7⟩, ⟨g8, c_a8, g8b⟩, g2b⟩ := ((p11).fr N o45)
          refine w_aload_n (List.Mem.tail _ (List.Mem.tail _ (List.Mem.head _))) (tX8_read_0_ok (32, .aload_n 1, 1) (List.mem_of_getElem? (i := 17) rfl)) ?_
          refine w_iload_n (List.Mem.head _) (tX8_read_0_ok (33, .iload_n 2, 1) (List.mem_of_getElem? (i := 18) rfl)) ?_
          refine w_iconst (by decide) (tX8_read_0_ok (34, .iconst 1, 1) (List.mem_of_getElem? (i := 19) rfl)) (fun v74 e75 => ?_)
          refine w_iadd (by omega) (by omega) (tX8_read_0_ok (35, .iadd, 1) (List.mem_of_getElem? (i := 20) rfl)) (fun v76 e77 => ?_)
          refine w_put (own := 13) [.int v76, .ref a1, .ref a2, .ref a3, .ref a4, .ref a5, .ref a6, .ref a7, .ref a8] rfl rfl rfl (by decide) rfl ⟨rfl, rfl⟩ c_P (Nat.le_of_ble_eq_true rfl) (tX8_read_0_ok (36, .putfield 28, 3) (List.mem_of_getElem? (i := 21) rfl)) (fun h78 c79 o80 => ?_)
          have c81 := (o80 t (pn_ne s_t s_P (by decide))).trans c46
          have c82 := (o80 b (pn_ne s_b s_P (by decide))).trans c47
          have c83 := (o80 a1 (pn_ne s_a1 s_P (by decide))).trans c_a1
          have c84 := (o80 a2 (pn_ne s_a2 s_P (by decide))).trans c_a2
          have c85 := (o80 a3 (pn_ne s_a3 s_P (by decide))).trans c_a3
          have c86 := (o80 a4 (pn_ne s_a4 s_P (by decide))).trans c_a4
          have c87 := (o80 a5 (pn_ne s_a5 s_P (by decide))).trans c_a5
          have c88 := (o80 a6 (pn_ne s_a6 s_P (by decide))).trans c_a6
          have c89 := (o80 a7 (pn_ne s_a7 s_P (by decide))).trans c_a7
          have c90 := (o80 a8 (pn_ne s_a8 s_P (by decide))).trans c_a8
          refine w_vret rfl (tX8_read_0_ok (39, .return_, 1) (List.mem_of_getElem? (i := 22) rfl)) ?_
          obtain ⟨q9, q8, q7⟩ := sp_is.inr e12 (by omega)
          have y7 : q9 = at5.toInt.toNat := by omega
          have y6 := e44
          rw [← y7] at y6
          have y5 := e43
          rw [← y7] at y5
          have y8 : sp_tn f len.toInt.toNat j p.toInt.toNat at0.toInt.toNat = (.inr (sp_sk f len.toInt.toNat q9), p.toInt.toNat + 1) := by
            rw [j9, sp_tn, q8]; dsimp only; rw [if_pos (by omega)]
          refine hq h78 at40 fl6 k7 k8 k9 ⟨c81, c82, n_b_t, l1, l2, by omega, by omega⟩ ⟨⟨_, c79, by omega, by omega⟩, c83, c84, c85, ⟨_, c86⟩, ⟨_, c87⟩, ⟨_, c88⟩, ⟨_, c89⟩, ⟨_, c90, g8b⟩, g2b⟩ ?_ ?_ (fun q hq => (o80 q (pn_nl hq s_P (by decide))).trans ((o45 q (pn_nl hq s_t (by decide))).trans (o13 q (Nat.lt_of_lt_of_le hq (by decide)))))
          · rw [y8]; exact ⟨by omega, by omega⟩
          · intro z9; rw [y8]; exact ⟨_, c79, by show _ = ((p.toInt.toNat + 1 : Nat) : Int); omega⟩
theorem s_town (hT : k_tys tys cA) (hN : pns sg t b P a1 a2 a3 a4 a5 a6 a7 a8) (hr : 4 ≤ fr ∧ 160 ≤ lo) (H : tp0 cA h t b f len at0 fl0) (HP : pn cA h P a1 a2 a3 a4 a5 a6 a7 a8 g1 g2 g3) (hq : (∀ (h1 : ch_H) (at1 fl1 : Int32) (k1 k2 k3 : Nat → Int32), tp cA h1 t b f len at1 fl1 → pn cA h1 P a1 a2 a3 a4 a5 a6 a7 a8 k1 k2 k3 → sp_is (sp_town f len.toInt.toNat).1 at1 fl1 → (fl1.toInt = -1 → ∃ ro : Int32, h1 P = some (.inr (4, [.int ro, .ref a1, .ref a2, .ref a3, .ref a4, .ref a5, .ref a6, .ref a7, .ref a8])) ∧ ro.toInt = ((sp_town f len.toInt.toNat).2 : Int)) → (∀ q, sg q < 2 → h1 q = h q) → Q none h1)) : ww l D tys A X fr lo mX8_read Q 0 [(0, .ref t), (1, .ref P)] [] h := by
  have N := hN
  obtain ⟨s_t, s_b, s_P, s_a1, s_a2, s_a3, s_a4, s_a5, s_a6, s_a7, s_a8⟩ := hN
  have c_t := H.1
  have c_b := H.2.1
  have n_b_t := H.2.2.1
  have l1 := H.2.2.2.1
  have l2 := H.2.2.2.2
  refine w_aload_n (List.Mem.head _) (tX8_read_0_ok (0, .aload_n 0, 1) (List.mem_of_getElem? (i := 0) rfl)) ?_
  refine w_callV (own := 13) (mi := 76) [] [] [(0, .ref t)] rfl (cllw_X8 (9, 0, 76) (List.mem_of_getElem? (i := 0) rfl)) rfl rfl c_t rfl (by omega) (w_lo (n := 20) rfl (by omega)) (Nat.le_of_ble_eq_true rfl) (Nat.le_of_ble_eq_true rfl) rfl (tX8_read_0_ok (1, .invokevirtual 9, 3) (List.mem_of_getElem? (i := 1) rfl)) (s_open hT H (fun h1 at2 fl3 p4 e5 e6 o7 => ?_))
  obtain ⟨c8, c9, -, -, -, a10, a11⟩ := p4
  show ww l D tys A X fr lo mX8_read Q 4 [(0, .ref t), (1, .ref P)] [] h1
  refine w_iconst (by decide) (tX8_read_0_ok (4, .iconst 0, 1) (List.mem_of_getElem? (i := 2) rfl)) (fun v12 e13 => ?_)
  refine w_istore_n [(2, .int v12), (0, .ref t), (1, .ref P)] rfl (Nat.le_of_ble_eq_true rfl) (tX8_read_0_ok (5, .istore_n 2, 1) (List.mem_of_getElem? (i := 3) rfl)) ?_
  have y8 : sp_town f len.toInt.toNat = sp_tn f len.toInt.toNat 6 v12.toInt.toNat at2.toInt.toNat := by
    unfold sp_town; congr 1 <;> omega
  refine s_townL hT N hr 6 _ _ _ _ g1 g2 g3 (by omega) (by omega) (by omega) (by omega) ⟨c8, c9, n_b_t, l1, l2, by omega, by omega⟩ ((HP).fr N o7) (fun h1 at1 fl1 m1 m2 m3 p1 p2 p3 p5 p4 => hq h1 at1 fl1 m1 m2 m3 p1 p2 ?_ ?_ (fun q hq => (p4 q hq).trans (o7 q (pn_nl hq s_t (by decide)))))
  · rw [y8]; exact p3
  · rw [y8]; exact p5
end
