/-! what rooms bear, by the rows that are told; the class's weigh over stores -/
/-- the rows of ROPES as the reference keeps them -/
def Rn (n : Nat) (ρ : aRw) : Nat → Int32 := fun i => if i / 9 < n then Int32.ofInt (ρ (i / 9) (i % 9)) else if i % 9 = 8 then -1 else 0
def bb (n pe : Nat) (ρ : aRw) (T Wt : Nat → Int32) : Nat → Int := sp_br (Rn n ρ) T Wt pe n 12
theorem wfr_b {p : Int} {r : Nat → Int} (hp : p ≤ 5) (h : wfr p r) : ∀ w, w < 9 → -1 ≤ r w ∧ r w ≤ 100 := by
  obtain ⟨h0, h1, h2, h3, h4, h5, h6, h7, h8⟩ := h
  intro w hw
  match w, hw with
  | 0, _ => omega
  | 1, _ => omega
  | 2, _ => omega
  | 3, _ => omega
  | 4, _ => omega
  | 5, _ => omega
  | 6, _ => omega
  | 7, _ => omega
  | 8, _ => omega
theorem Rn_at {n : Nat} {ρ : aRw} (wf : wfR n ρ) {p w : Nat} (hp : p < n) (hw : w < 9) : (Rn n ρ (9 * p + w)).toInt = ρ p w := by
  have n6 := wf.1
  have hb := wfr_b (by omega) (wf.2 p hp).1 w hw
  unfold Rn
  rw [show (9 * p + w) / 9 = p by omega, show (9 * p + w) % 9 = w by omega, if_pos hp, ofInt_b (by omega)]
theorem Rn_hi {n : Nat} {ρ : aRw} {p w : Nat} (hp : n ≤ p) (hw : w < 9) : (Rn n ρ (9 * p + w)).toInt = if w = 8 then -1 else 0 := by
  unfold Rn
  rw [show (9 * p + w) / 9 = p by omega, show (9 * p + w) % 9 = w by omega, if_neg (by omega)]
  split <;> rfl
theorem bo_of {n pe : Nat} {ρ : aRw} {T Wt : Nat → Int32} (wf : wfR n ρ) (hT : ∀ k, k < 12 → 0 ≤ (T (18 + k)).toInt ∧ (T (18 + k)).toInt ≤ 99) (hW : ∀ i, i < 8 → 0 ≤ (Wt i).toInt ∧ (Wt i).toInt ≤ 9) (hpe : pe ≤ 8) : bo (Rn n ρ) T Wt pe n := by
  refine ⟨fun p hp => ?_, fun k hk => by have := hT k hk; omega, hW, hpe, wf.1⟩
  by_cases c : p < n
  · obtain ⟨-, -, -, w3, w4, -, -, -, w8⟩ := (wf.2 p c).1
    rw [Rn_at wf c (by decide), Rn_at wf c (by decide), Rn_at wf c (by decide)]
    omega
  · rw [Rn_hi (by omega) (by decide), Rn_hi (by omega) (by decide), Rn_hi (by omega) (by decide), if_neg (by decide), if_neg (by decide), if_pos rfl]
    omega
theorem sp_ps_cg {T T1 Wt W1 : Nat → Int32} {room n : Nat} (hT : ∀ i, i < n → T1 (30 + i) = T (30 + i)) (hW : ∀ i, i < n → W1 i = Wt i) : ∀ k, k ≤ n → sp_ps T1 W1 room k = sp_ps T Wt room k
  | 0, _ => rfl
  | k + 1, hk => by rw [sp_ps, sp_ps, sp_ps_cg hT hW k (by omega), hT k (by omega), hW k (by omega)]
theorem sp_hs_cg {R R1 : Nat → Int32} {B C : Nat → Int} {room n : Nat} (hR : ∀ p, p < n → (R1 (9 * p + 8)).toInt = (R (9 * p + 8)).toInt) (h : ∀ q, q < 2 * n → B q = C q) : ∀ p, p ≤ n → sp_hs R1 B room p = sp_hs R C room p
  | 0, _ => rfl
  | p + 1, hp => by rw [sp_hs, sp_hs, sp_hs_cg hR h p (by omega), hR p (by omega), h (2 * p) (by omega), h (2 * p + 1) (by omega)]
/-- it goes by what is told alone -/
theorem sp_br_cg {R R1 T T1 Wt W1 : Nat → Int32} {pe n : Nat} (hR : ∀ p, p < n → ∀ w, w < 9 → (R1 (9 * p + w)).toInt = (R (9 * p + w)).toInt) (hT : ∀ k, k < 12 → T1 (18 + k) = T (18 + k)) (hP : ∀ i, i < pe → T1 (30 + i) = T (30 + i)) (hW : ∀ i, i < pe → W1 i = Wt i) (hn : n ≤ 6) : ∀ (d room : Nat), room < 2 * n → sp_br R1 T1 W1 pe n d room = sp_br R T Wt pe n d room
  | 0, _, _ => rfl
  | d + 1, room, h => by
    rw [sp_br, sp_br, sp_ps_cg hP hW pe (Nat.le_refl _), sp_hs_cg (fun p hp => hR p hp 8 (by decide)) (fun q hq => sp_br_cg hR hT hP hW hn d q hq) n (Nat.le_refl _), hR (room / 2) (by omega) (3 + room % 2) (by omega), hT room (by omega)]
theorem zr.two {N : Nat → Bool} {cA : Nat → ClassId} {ad : Nat → Nat} {I : zI} {W : zW} {O : zO} {h g : ch_H} {L1 L2 t1 n1 t2 n2 : Nat} {f1 f2 : Nat → Int32} (hz : zr N cA ad I W O h) (h1 : N L1 = true) (h2 : N L2 = true) (ne : L1 ≠ L2) (z1 : zZ L1 = (1, t1, n1, [])) (z2 : zZ L2 = (1, t2, n2, [])) (c1 : g (ad L1) = some (.inl (cA t1, n1, .inl f1))) (c2 : g (ad L2) = some (.inl (cA t2, n2, .inl f2))) (o : ∀ q, q ≠ ad L1 ∧ q ≠ ad L2 → g q = h q) : zr N cA ad (s2 (s2 I L1 f1) L2 f2) W O g := by
  refine ⟨fun L hL => ?_, hz.2⟩
  by_cases e2 : L = L2
  · subst e2
    rw [s2_s]
    exact z_ar_of z2 c2
  · rw [s2_n e2]
    by_cases e1 : L = L1
    · subst e1
      rw [s2_s]
      exact z_ar_of z1 c1
    · rw [s2_n e1, o _ ⟨fun z => e1 (hz.2 _ _ hL h1 z), fun z => e2 (hz.2 _ _ hL h2 z)⟩]
      exact hz.1 L hL
theorem ln9_b {K b1 b2 : Int} (h1 : -68040 ≤ b1 ∧ b1 ≤ 68040) (h2 : -68040 ≤ b2 ∧ b2 ≤ 68040) : -1000000 ≤ ln9 K b1 b2 ∧ ln9 K b1 b2 ≤ 1000000 := by
  unfold ln9
  split
  · omega
  · split <;> omega
section
variable {l : Launch} {D : va_G} {tys : List (ClassId × FieldType)} {A : Nat → Prop} {X : State → Prop} {fr lo : Nat} {Q : Option Value → ch_H → Prop} {cA : Nat → ClassId} {h : ch_H} {ad : Nat → Nat} {I : zI} {W : zW} {O : zO} {n pe j : Nat} {ρ : aRw} {T Wt : Nat → Int32}
theorem z_weigh (hT : k_tys tys cA) (hj_j : j < 10) (hz : zr zNC cA ad I W O h) (hp : pz I n ρ) (hpe : (I 3 3).toInt = (pe : Int) ∧ pe ≤ 8) (hb : bo (Rn n ρ) T Wt pe n) (h4 : ∀ q, q < 12 → I (100 + 6 * j + 4) q = T (18 + q)) (h5 : ∀ i, i < pe → I (100 + 6 * j + 5) i = T (30 + i)) (h22 : ∀ i, i < pe → I 22 i = Wt i) (hf : 1 ≤ fr) (hlo : 30 ≤ lo) (hq : ∀ (g : ch_H) (I1 : zI), (∀ q, q < 2 * n → (I1 25 q).toInt = bb n pe ρ T Wt q) → lz I1 n ρ (bb n pe ρ T Wt) → (∀ L, L ≠ 25 → L ≠ 26 → I1 L = I L) → zr zNC cA ad I1 W O g → zf zNC ad h g → Q none g) : ww l D tys A X fr lo mX9_weigh Q 0 [(0, .ref (ad 4)), (1, .ref (ad 2)), (2, .ref (ad (100 + 6 * j))), (3, .ref (ad 3))] [] h := by
  have n6 := hp.2.1.1
  have e1 : (I 2 0).toInt.toNat = n := by have := hp.1; omega
  have e2 : (I 3 3).toInt.toNat = pe := by have := hpe.1; omega
  have s0 := zNC_s (k := 0) hj_j (by decide)
  have s4 := zNC_s (k := 4) hj_j (by decide)
  have s5 := zNC_s (k := 5) hj_j (by decide)
  have nd : ∀ q, q ∈ [ad 4, ad 2, ad (100 + 6 * j), ad 3, ad 11, ad 14, ad 18, ad (100 + 6 * j + 4), ad (100 + 6 * j + 5), ad 22] → q ≠ ad 25 ∧ q ≠ ad 26 := by
    intro q hq
    simp only [List.mem_cons, List.not_mem_nil, or_false] at hq
    rcases hq with e | e | e | e | e | e | e | e | e | e <;> subst e
    · exact ⟨hz.ne rfl rfl (by decide), hz.ne rfl rfl (by decide)⟩
    · exact ⟨hz.ne rfl rfl (by decide), hz.ne rfl rfl (by decide)⟩
    · exact ⟨hz.ne s0 rfl (by omega), hz.ne s0 rfl (by omega)⟩
    · exact ⟨hz.ne rfl rfl (by decide), hz.ne rfl rfl (by decide)⟩
    · exact ⟨hz.ne rfl rfl (by decide), hz.ne rfl rfl (by decide)⟩
    · exact ⟨hz.ne rfl rfl (by decide), hz.ne rfl rfl (by decide)⟩
    · exact ⟨hz.ne rfl rfl (by decide), hz.ne rfl rfl (by decide)⟩
    · exact ⟨hz.ne s4 rfl (by omega), hz.ne s4 rfl (by omega)⟩
    · exact ⟨hz.ne s5 rfl (by omega), hz.ne s5 rfl (by omega)⟩
    · exact ⟨hz.ne rfl rfl (by decide), hz.ne rfl rfl (by decide)⟩
  have hC : cw (Rn n ρ) T Wt (I 11) (I 14) (I 18) (I (100 + 6 * j + 4)) (I (100 + 6 * j + 5)) (I 22) n pe := by
    refine ⟨fun p hp9 => ?_, fun q hq9 => ⟨?_, by rw [h4 q (by omega)]⟩, fun i hi => ⟨by rw [h5 i hi], by rw [h22 i hi]⟩⟩
    · have r9 := hp.2.2 p hp9
      rw [Rn_at hp.2.1 hp9 (by decide), show 9 * p = 9 * p + 0 from rfl, Rn_at hp.2.1 hp9 (by decide)]
      exact ⟨r9.1, r9.2.2.2.2.2.2.2.2⟩
    · have r9 := hp.2.2 (q / 2) (by omega)
      rw [Rn_at hp.2.1 (by omega) (by omega)]
      rcases (show q % 2 = 0 ∨ q % 2 = 1 by omega) with e | e
      · rw [e]
        rw [show 2 * (q / 2) = q by omega] at r9
        exact r9.2.2.2.1
      · rw [e]
        rw [show 2 * (q / 2) + 1 = q by omega] at r9
        exact r9.2.2.2.2.1
  refine c_weigh hT (R := Rn n ρ) (T := T) (Wt := Wt) (w := ad 4) (pl := ad 2) (st := ad (100 + 6 * j)) (fo := ad 3) (wb := ad 25) (wl := ad 26) (pk := ad 11) (pw := ad 14) (ph := ad 18) (sw := ad (100 + 6 * j + 4)) (sa := ad (100 + 6 * j + 5)) (fw := ad 22) (nn := I 2 0) (pe := I 3 3) (z_fsR (k := 0) rfl rfl rfl) (z_fsR (k := 1) rfl rfl rfl) (z_fsI (k := 0) rfl rfl) (z_fsR (k := 1) rfl rfl rfl) (z_fsR (k := 4) rfl rfl rfl) (z_fsR (k := 8) rfl rfl rfl) (z_fsR (k := 3) rfl rfl rfl) (z_fsR (k := 4) rfl rfl rfl) (z_fsI (k := 3) rfl rfl) (z_fsR (k := 4) rfl rfl rfl) nd (hz.ne rfl rfl (by decide)) (by rw [e1, e2]; exact hb) (by rw [e1, e2]; exact hC) (by have := hp.1; omega) (by have := hpe.1; omega) hf hlo (hz.ob (L := 4) rfl rfl) (hz.ob (L := 2) rfl rfl) (hz.ob s0 (zZ_s j)) (hz.ob (L := 3) rfl rfl) (hz.ar (L := 11) rfl rfl rfl) (hz.ar (L := 14) rfl rfl rfl) (hz.ar (L := 18) rfl rfl rfl) (hz.ar s4 (zZ_s4 j) rfl) (hz.ar s5 (zZ_s5 j) rfl) (hz.ar (L := 22) rfl rfl rfl) (hz.ar (L := 25) rfl rfl rfl) (hz.ar (L := 26) rfl rfl rfl) (fun g B L9 q1 q2 q3 q4 q5 => ?_)
  rw [e1, e2] at q1 q2
  have hz1 := hz.two (L1 := 25) (L2 := 26) rfl rfl (by decide) rfl rfl q3 q4 q5
  refine hq g _ (fun q hq9 => ?_) (fun q hq9 => ?_) (fun L n1 n2 => by rw [s2_n n2, s2_n n1]) hz1 (fun q hq9 => q5 q ⟨hq9 25 rfl, hq9 26 rfl⟩)
  · rw [s2_n (by decide), s2_s]
    exact q1 q hq9
  · rw [s2_s]
    have h1 := q2 q hq9
    rw [show 9 * q = 9 * q + 0 from rfl, Rn_at hp.2.1 hq9 (by decide)] at h1
    refine ⟨h1, ?_⟩
    rw [h1]
    have b1 := sp_br_b hb 12 (2 * q) (by omega)
    have b2 := sp_br_b hb 12 (2 * q + 1) (by omega)
    have p1 := pw_b (2 * q / 2)
    have p2 := pw_b ((2 * q + 1) / 2)
    exact ln9_b (by omega) (by omega)
end
