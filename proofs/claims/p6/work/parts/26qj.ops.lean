/-! the calls on what a TOWN shows: bounds are kept; a change of the town alone -/
section
variable {τ : aN} {φ : zP} {K : zI} {V : Nat → Int64} {I I1 : zI} {W W1 : zW}
theorem kok.t (H : kok τ φ) (hK : ∀ L, L ≠ 56 → K L = φ.1 L) (ht : tk9 τ.1 τ.2.1 τ.2.2.1 φ.2.2.1 (K 56)) : kok τ (K, V, φ.2.2) := by
  obtain ⟨h1, h2, h3, h4, h5, h6, h7, h8⟩ := H
  refine ⟨h1, ht, ?_, h4, ?_, ?_, ?_, ?_⟩
  · show ∀ i, i < 8 → 0 ≤ (K 62 i).toInt ∧ (K 62 i).toInt ≤ 9
    rw [hK 62 (by decide)]
    exact h3
  · show ∀ a, a < 18 → decide ((K 65 (18 * a + a)).toInt = 1) = false
    rw [hK 65 (by decide)]
    exact h5
  · show (K 50 39).toInt = 0 ∨ (K 50 39).toInt = 1 ∧ 0 ≤ (K 50 35).toInt ∧ (K 50 35).toInt ≤ (τ.2.2.1 : Int) ∧ tk9 τ.1 τ.2.1 (K 50 35).toInt.toNat φ.2.2.1 (K 58)
    rw [hK 50 (by decide), hK 58 (by decide)]
    exact h6
  · show ∀ i, i < τ.2.2.2 → (0 ≤ (K 63 i).toInt ∧ (K 63 i).toInt < (τ.2.2.1 : Int)) ∧ isPl τ.1 τ.2.1 (K 64 i).toInt
    rw [hK 63 (by decide), hK 64 (by decide)]
    exact h7
  · show ∀ r, r < 12 → (-1 ≤ (K 60 r).toInt ∧ (K 60 r).toInt ≤ 200) ∧ -1 ≤ (K 61 r).toInt ∧ (K 61 r).toInt ≤ 200
    rw [hK 60 (by decide), hK 61 (by decide)]
    exact h8
theorem cS.t (H : cS τ φ I W) (hK : ∀ L, L ≠ 56 → K L = φ.1 L) (hV : V 38 = φ.2.1 38) (o : ∀ L, ¬ scr L → ¬ (100 ≤ L ∧ L < 106) → I1 L = I L) (ow : W1 112 = W 112) (hs : sx I1 W1 0 τ.1 τ.2.2.1 (K 56) (V 36)) : cS τ (K, V, φ.2.2) I1 W1 := by
  obtain ⟨h1, h2, h3, h4, h5, h6, h7, h8, h9, h10, h11⟩ := H
  unfold scr at o
  refine ⟨h1.mv (fun L hL => o L (by omega) (by omega)), ?_, hs, fun g hg => ?_, fun a b ha hb => ?_, fun i hi => ?_, fun i hi => ?_, fun r hr => ?_, ?_, ?_, ?_⟩
  · rw [o 3 (by omega) (by omega)]
    exact h2
  · show I1 20 g = K 59 (12 + g)
    rw [o 20 (by omega) (by omega), hK 59 (by decide)]
    exact h4 g hg
  · show bt9 (I1 21 a) b = decide ((K 65 (18 * a + b)).toInt = 1)
    rw [o 21 (by omega) (by omega), hK 65 (by decide)]
    exact h5 a b ha hb
  · show I1 22 i = K 62 i
    rw [o 22 (by omega) (by omega), hK 62 (by decide)]
    exact h6 i hi
  · show I1 23 i = K 63 i ∧ I1 24 i = K 64 i
    rw [o 23 (by omega) (by omega), o 24 (by omega) (by omega), hK 63 (by decide), hK 64 (by decide)]
    exact h7 i hi
  · show I1 5 r = K 60 r ∧ I1 6 r = K 61 r
    rw [o 5 (by omega) (by omega), o 6 (by omega) (by omega), hK 60 (by decide), hK 61 (by decide)]
    exact h8 r hr
  · show (I1 0 6).toInt = (K 50 39).toInt
    rw [o 0 (by omega) (by omega), hK 50 (by decide)]
    exact h9
  · show (K 50 39).toInt = 1 → (I1 0 7).toInt = (K 50 35).toInt ∧ sx I1 W1 2 τ.1 (K 50 35).toInt.toNat (K 58) (V 38)
    rw [o 0 (by omega) (by omega), hK 50 (by decide), hK 58 (by decide), hV]
    exact fun z => ⟨(h10 z).1, (h10 z).2.mv (fun L a b => o L (by omega) (by omega)) (congrFun ow 6)⟩
  · show I1 0 14 = K 50 7
    rw [o 0 (by omega) (by omega), hK 50 (by decide)]
    exact h11
theorem tx.mv {L n pe : Nat} {T : Nat → Int32} (H : tx I L n pe T) (o : I1 L = I L) : tx I1 L n pe T := by
  unfold tx
  rw [o]
  exact H
theorem rS.t (H : rS τ φ I W) (hK : ∀ L, L ≠ 56 → K L = φ.1 L) (hV : V 38 = φ.2.1 38) (o : ∀ L, L ≠ 56 → L ≠ 50 → I1 L = I L) (o5 : ∀ k, k = 7 ∨ k = 20 ∨ k = 32 ∨ k = 33 ∨ k = 34 ∨ k = 35 ∨ k = 39 → I1 50 k = I 50 k) (ow : W1 50 38 = W 50 38) (hs : tx I1 56 τ.1 τ.2.2.1 (K 56) ∧ W1 50 36 = V 36) : rS τ (K, V, φ.2.2) I1 W1 := by
  obtain ⟨h1, h2, h3, h4, h5, h6, h7, h8, h9, h10, h11⟩ := H
  refine ⟨h1.mv (o5 20 (by decide)) (o 55 (by decide) (by decide)), ?_, hs, fun g hg => ?_, fun a b ha hb => ?_, fun i hi => ?_, fun i hi => ?_, fun r hr => ?_, ?_, ?_, ?_⟩
  · rw [o5 32 (by decide), o5 33 (by decide), o5 34 (by decide)]
    exact h2
  · show I1 59 (12 + g) = K 59 (12 + g)
    rw [o 59 (by decide) (by decide), hK 59 (by decide)]
    exact h4 g hg
  · show I1 65 (18 * a + b) = K 65 (18 * a + b) ∧ 0 ≤ (K 65 (18 * a + b)).toInt ∧ (K 65 (18 * a + b)).toInt ≤ 1
    rw [o 65 (by decide) (by decide), hK 65 (by decide)]
    exact h5 a b ha hb
  · show I1 62 i = K 62 i
    rw [o 62 (by decide) (by decide), hK 62 (by decide)]
    exact h6 i hi
  · show I1 63 i = K 63 i ∧ I1 64 i = K 64 i
    rw [o 63 (by decide) (by decide), o 64 (by decide) (by decide), hK 63 (by decide), hK 64 (by decide)]
    exact h7 i hi
  · show I1 60 r = K 60 r ∧ I1 61 r = K 61 r
    rw [o 60 (by decide) (by decide), o 61 (by decide) (by decide), hK 60 (by decide), hK 61 (by decide)]
    exact h8 r hr
  · show (I1 50 39).toInt = (K 50 39).toInt
    rw [o5 39 (by decide), hK 50 (by decide)]
    exact h9
  · show (K 50 39).toInt = 1 → (I1 50 35).toInt = (K 50 35).toInt ∧ tx I1 58 τ.1 (K 50 35).toInt.toNat (K 58) ∧ W1 50 38 = V 38
    rw [o5 35 (by decide), hK 50 (by decide), hK 58 (by decide), hV, ow]
    exact fun z => ⟨(h10 z).1, (h10 z).2.1.mv (o 58 (by decide) (by decide)), (h10 z).2.2⟩
  · show I1 50 7 = K 50 7
    rw [o5 7 (by decide), hK 50 (by decide)]
    exact h11
theorem k56_n {T : Nat → Int32} : ∀ L, L ≠ 56 → (k56 φ T).1 L = φ.1 L := fun L hL => s2_n hL
theorem k56_s {T : Nat → Int32} : (k56 φ T).1 56 = T := by
  show s2 φ.1 56 T 56 = T
  exact s2_s _ _ _
/-- one entry of the town -/
theorem tk9.brake {n ga pe : Nat} {ρ : aRw} {T : Nat → Int32} {p : Nat} {o : Int32} (H : tk9 n ga pe ρ T) (n6 : n ≤ 6) (hp : p < n) (ho : 0 ≤ o.toInt ∧ o.toInt ≤ 1) : tk9 n ga pe ρ (upd T (12 + p) o) := by
  obtain ⟨h1, h2, h3, h4, h5⟩ := H
  refine ⟨fun q hq => ?_, fun q hq => ?_, fun q hq => ?_, fun k hk => ?_, fun i hi => ?_⟩
  · rw [upd_n _ _ (by omega)]
    exact h1 q hq
  · rw [upd_n _ _ (by omega)]
    exact h2 q hq
  · by_cases c : q = p
    · subst c
      rw [upd_s]
      exact ho
    · rw [upd_n _ _ (by omega)]
      exact h3 q hq
  · rw [upd_n _ _ (by omega)]
    exact h4 k hk
  · rw [upd_n _ _ (by omega)]
    exact h5 i hi
theorem tk9.water {n ga pe : Nat} {ρ : aRw} {T : Nat → Int32} {r : Nat} {o : Int32} (H : tk9 n ga pe ρ T) (n6 : n ≤ 6) (hp : r < 12) (ho : 0 ≤ o.toInt ∧ o.toInt ≤ 99) : tk9 n ga pe ρ (upd T (18 + r) o) := by
  obtain ⟨h1, h2, h3, h4, h5⟩ := H
  refine ⟨fun q hq => ?_, fun q hq => ?_, fun q hq => ?_, fun k hk => ?_, fun i hi => ?_⟩
  · rw [upd_n _ _ (by omega)]
    exact h1 q hq
  · rw [upd_n _ _ (by omega)]
    exact h2 q hq
  · rw [upd_n _ _ (by omega)]
    exact h3 q hq
  · by_cases c : k = r
    · subst c
      rw [upd_s]
      exact ho
    · rw [upd_n _ _ (by omega)]
      exact h4 k hk
  · rw [upd_n _ _ (by omega)]
    exact h5 i hi
theorem tk9.turn {n ga pe : Nat} {ρ : aRw} {T : Nat → Int32} {p : Nat} {o : Int32} (H : tk9 n ga pe ρ T) (n6 : n ≤ 6) (hp : p < n) (hk : ρ p 0 = 2) (ho : 0 ≤ o.toInt ∧ o.toInt ≤ ρ p 1) : tk9 n ga pe ρ (upd T p o) := by
  obtain ⟨h1, h2, h3, h4, h5⟩ := H
  refine ⟨fun q hq => ?_, fun q hq => ?_, fun q hq => ?_, fun k hk => ?_, fun i hi => ?_⟩
  · by_cases c : q = p
    · subst c
      rw [upd_s]
      exact ho
    · rw [upd_n _ _ c]
      exact h1 q hq
  · by_cases c : q = p
    · subst c
      exact fun z => by omega
    · rw [upd_n _ _ c]
      exact h2 q hq
  · rw [upd_n _ _ (by omega)]
    exact h3 q hq
  · rw [upd_n _ _ (by omega)]
    exact h4 k hk
  · rw [upd_n _ _ (by omega)]
    exact h5 i hi
theorem tk9.at {n ga pe : Nat} {ρ : aRw} {T : Nat → Int32} {p pe1 : Nat} {o : Int32} (H : tk9 n ga pe ρ T) (n6 : n ≤ 6) (ho : isPl n ga o.toInt) (h1 : ∀ i, i < pe1 → i ≠ p → i < pe) : tk9 n ga pe1 ρ (upd T (30 + p) o) := by
  obtain ⟨g1, g2, g3, g4, g5⟩ := H
  refine ⟨fun q hq => ?_, fun q hq => ?_, fun q hq => ?_, fun k hk => ?_, fun i hi => ?_⟩
  · rw [upd_n _ _ (by omega)]
    exact g1 q hq
  · rw [upd_n _ _ (by omega)]
    exact g2 q hq
  · rw [upd_n _ _ (by omega)]
    exact g3 q hq
  · rw [upd_n _ _ (by omega)]
    exact g4 k hk
  · by_cases c : i = p
    · subst c
      rw [upd_s]
      exact ho
    · rw [upd_n _ _ (by omega)]
      exact g5 i (h1 i hi c)
theorem kok.brake {p o : Int32} (H : kok τ φ) (ho : 0 ≤ o.toInt ∧ o.toInt ≤ 1) : kok τ (k9_brake p o τ φ) := by
  unfold k9_brake
  split
  · next c => exact H.t k56_n (by rw [s2_s]; exact H.2.1.brake H.1.1 (by omega) ho)
  · exact H
theorem kok.water {r v : Int32} (H : kok τ φ) : kok τ (k9_water r v τ φ) := by
  unfold k9_water
  have n6 := H.1.1
  split
  · next c => exact H.t k56_n (by rw [s2_s]; exact H.2.1.water H.1.1 (by omega) c.2)
  · exact H
theorem k9_trn_b (H : kok τ φ) {p : Nat} (hp : p < τ.1) (k : Int) : 0 ≤ k9_trn p k φ ∧ k9_trn p k φ ≤ φ.2.2.1 p 1 := by
  have w1 := (H.1.2 p hp).1.2.1
  unfold k9_trn
  omega
theorem kok.turn {p k : Int32} (H : kok τ φ) : kok τ (k9_turn p k τ φ) := by
  unfold k9_turn
  split
  · next c =>
    have hb := k9_trn_b H (p := p.toInt.toNat) (by omega) k.toInt
    have w1 := (H.1.2 p.toInt.toNat (by omega)).1.2.1
    exact H.t k56_n (by rw [s2_s]; exact H.2.1.turn H.1.1 (by omega) c.2.1 (by rw [ofInt_b (by omega)]; exact hb))
  · exact H
theorem ev_nx {ρ : aRw} {b : Nat → Int} {p : Nat} {x : Int} {fe : Bool} (h : ev9 ρ p x) : ev9 ρ p (m_nx ρ b p x fe) := fun z => by
  have h1 := h z
  have h2 : f_st ρ p = 2 := if_pos z
  refine ⟨?_, h1.2⟩
  unfold m_nx
  rw [h2]
  have h3 := m_hd_b (ρ := ρ) (b := b) p x fe
  split
  · rcases h3 with c | c | c <;> rw [c] <;> omega
  · exact h1.1
theorem m_0_ev {ρ : aRw} {b : Nat → Int} {n p : Nat} {fe : Bool} {T : Nat → Int32} {d : Int64} {s : Int} (wf : wfR n ρ) (hp : p < n) (hx : m_ok n ρ T) (h : e_ok n ρ T) : e_ok n ρ (m_0 ρ b p fe T d s).1 := fun q hq => by
  have n6 := wf.1
  by_cases c : q = p
  · subst c
    have hb := m_nx_b (b := b) (fe := fe) (hx q hq)
    have w1 := (wf.2 q hq).1.2.1
    rw [m_0_x, ofInt_b (by omega)]
    exact ev_nx (h q hq)
  · rw [m_0_hi p fe T d s c (by omega)]
    exact h q hq
theorem m_k_ev {ρ : aRw} {b : Nat → Int} {n : Nat} {sl : Bool} (wf : wfR n ρ) {S : mS} (hx : m_ok n ρ S.1) (h : e_ok n ρ S.1) : ∀ k, k ≤ n → e_ok n ρ (m_k ρ b sl S k).1
  | 0, _ => h
  | k + 1, hk => m_0_ev wf (by omega) (m_k_ok wf hx k (by omega)) (m_k_ev wf hx h k (by omega))
theorem m_g_ev {ρ : aRw} {b : Nat → Int} {n : Nat} {sl : Bool} {T : Nat → Int32} {d : Int64} (wf : wfR n ρ) (hx : m_ok n ρ T) (h : e_ok n ρ T) : ∀ t : Nat, e_ok n ρ (m_g ρ b sl n T d t).1
  | 0 => h
  | t + 1 => m_k_ev (S := ((m_g ρ b sl n T d t).1, (m_g ρ b sl n T d t).2.1, 0)) wf (m_g_ok wf hx t) (m_g_ev wf hx h t) n (Nat.le_refl _)
/-- X and TRAVEL changed alone -/
theorem tk9.go {n ga pe : Nat} {ρ : aRw} {T T1 : Nat → Int32} (H : tk9 n ga pe ρ T) (hx : m_ok n ρ T1) (he : e_ok n ρ T1) (hi : ∀ k, 12 ≤ k → k < 38 → T1 k = T k) (n6 : n ≤ 6) (p8 : pe ≤ 8) : tk9 n ga pe ρ T1 := by
  obtain ⟨g1, g2, g3, g4, g5⟩ := H
  refine ⟨hx, he, fun q hq => ?_, fun k hk => ?_, fun i h9 => ?_⟩
  · rw [hi _ (by omega) (by omega)]
    exact g3 q hq
  · rw [hi _ (by omega) (by omega)]
    exact g4 k hk
  · rw [hi _ (by omega) (by omega)]
    exact g5 i h9
theorem kok.minutes {k : Int32} (H : kok τ φ) : kok τ (k9_minutes k τ φ) := by
  have n6 := H.1.1
  unfold k9_minutes
  split
  · refine H.t (fun L hL => s2_n hL) ?_
    show tk9 _ _ _ _ (s2 φ.1 56 _ 56)
    rw [s2_s]
    have hx := m_g_ok (b := kb τ φ) (sl := true) (d := φ.2.1 36) H.1 H.2.1.1 k.toInt.toNat
    have he := m_g_ev (b := kb τ φ) (sl := true) (d := φ.2.1 36) H.1 H.2.1.1 H.2.1.2.1 k.toInt.toNat
    refine H.2.1.go (fun q hq => ?_) (fun q hq => ?_) (fun k9 h1 h2 => ?_) n6 H.2.2.2.1.2.1
    · rw [if_neg (by omega)]
      exact hx q hq
    · rw [if_neg (by omega)]
      exact he q hq
    · rw [if_neg (by omega)]
      exact m_g_hi n6 _ _ h1
  · exact H
theorem ev_rx {ρ : aRw} {b : Nat → Int} {p : Nat} {x : Int} {fe : Bool} (h : ev9 ρ p x) : ev9 ρ p (r_x ρ b p x fe) := fun z => by
  have h1 := h z
  refine ⟨?_, h1.2⟩
  unfold r_x
  split
  · exact h1.1
  · split
    · rfl
    · exact h1.2
theorem k9_rt_x {q : Nat} (hq : q < τ.1) : k9_rt τ φ q = Int32.ofInt (r_x φ.2.2.1 (kb τ φ) q (φ.1 56 q).toInt (fr9 (φ.1 56) q)) := if_pos hq
theorem k9_rt_t (n6 : τ.1 ≤ 6) {q : Nat} (hq : q < τ.1) : k9_rt τ φ (6 + q) = φ.1 56 (6 + q) + Int32.ofInt (r_s φ.2.2.1 (kb τ φ) q (φ.1 56 q).toInt (fr9 (φ.1 56) q)) := by
  unfold k9_rt
  rw [if_neg (by omega), if_pos (by omega), show 6 + q - 6 = q by omega]
theorem k9_rt_n (n6 : τ.1 ≤ 6) {q : Nat} (hq : 12 ≤ q) (h8 : q ≠ 38) : k9_rt τ φ q = φ.1 56 q := by
  unfold k9_rt
  rw [if_neg (by omega), if_neg (by omega), if_neg h8]
theorem k9_rt_m (n6 : τ.1 ≤ 6) : k9_rt τ φ 38 = φ.1 56 38 + Int32.ofInt (k9_M τ φ) := by
  unfold k9_rt
  rw [if_neg (by omega), if_neg (by omega), if_pos rfl]
theorem kok.rest (H : kok τ φ) : kok τ (k9_rest τ φ) := by
  have n6 := H.1.1
  unfold k9_rest
  split
  · refine H.t k56_n ?_
    rw [s2_s]
    refine H.2.1.go (fun q hq => ?_) (fun q hq => ?_) (fun k9 h1 h2 => k9_rt_n n6 h1 (by omega)) n6 H.2.2.2.1.2.1
    · have hb := r_x_b (b := kb τ φ) (fe := fr9 (φ.1 56) q) (H.2.1.1 q hq)
      have w1 := (H.1.2 q hq).1.2.1
      rw [k9_rt_x hq, ofInt_b (by omega)]
      exact hb
    · have hb := r_x_b (b := kb τ φ) (fe := fr9 (φ.1 56) q) (H.2.1.1 q hq)
      have w1 := (H.1.2 q hq).1.2.1
      rw [k9_rt_x hq, ofInt_b (by omega)]
      exact ev_rx (H.2.1.2.1 q hq)
  · exact H
theorem kok.step {p q : Int32} (H : kok τ φ) : kok τ (k9_step p q τ φ) := by
  unfold k9_step
  split
  · next c => exact H.t k56_n (by rw [s2_s]; exact H.2.1.at H.1.1 c.2.1 (fun i h1 _ => h1))
  · exact H
theorem isPl.mono {n ga ga1 : Nat} {k : Int} (h : isPl n ga k) (hg : ga ≤ ga1) : isPl n ga1 k := by
  unfold isPl at *
  omega
theorem tk9.mono {n ga ga1 pe : Nat} {ρ : aRw} {T : Nat → Int32} (H : tk9 n ga pe ρ T) (hg : ga ≤ ga1) : tk9 n ga1 pe ρ T := ⟨H.1, H.2.1, H.2.2.1, H.2.2.2.1, fun i hi => (H.2.2.2.2 i hi).mono hg⟩
theorem kok.gallery {w : Int32} (H : kok τ φ) : kok (n_gallery w τ) (k9_gallery w τ φ) := by
  unfold n_gallery k9_gallery
  split
  · next c =>
    obtain ⟨h1, h2, h3, h4, h5, h6, h7, h8⟩ := H
    obtain ⟨K9, eK⟩ : ∃ K9 : zI, K9 = s2 φ.1 59 (upd (φ.1 59) (12 + τ.2.1) w) := ⟨_, rfl⟩
    rw [← eK]
    have k_s := (congrFun eK 59).trans (s2_s _ _ _)
    have k_n : ∀ L, L ≠ 59 → K9 L = φ.1 L := fun L hL => by rw [eK, s2_n hL]
    refine ⟨h1, ?_, ?_, ⟨by show τ.2.1 + 1 ≤ 6; omega, h4.2⟩, ?_, ?_, ?_, ?_⟩
    · show tk9 τ.1 (τ.2.1 + 1) τ.2.2.1 φ.2.2.1 (K9 56)
      rw [k_n 56 (by decide)]
      exact h2.mono (by omega)
    · show ∀ i, i < 8 → 0 ≤ (K9 62 i).toInt ∧ (K9 62 i).toInt ≤ 9
      rw [k_n 62 (by decide)]
      exact h3
    · show ∀ a, a < 18 → decide ((K9 65 (18 * a + a)).toInt = 1) = false
      rw [k_n 65 (by decide)]
      exact h5
    · show (K9 50 39).toInt = 0 ∨ (K9 50 39).toInt = 1 ∧ 0 ≤ (K9 50 35).toInt ∧ (K9 50 35).toInt ≤ (τ.2.2.1 : Int) ∧ tk9 τ.1 (τ.2.1 + 1) (K9 50 35).toInt.toNat φ.2.2.1 (K9 58)
      rw [k_n 50 (by decide), k_n 58 (by decide)]
      rcases h6 with z | z
      · exact Or.inl z
      · exact Or.inr ⟨z.1, z.2.1, z.2.2.1, z.2.2.2.mono (by omega)⟩
    · show ∀ i, i < τ.2.2.2 → (0 ≤ (K9 63 i).toInt ∧ (K9 63 i).toInt < (τ.2.2.1 : Int)) ∧ isPl τ.1 (τ.2.1 + 1) (K9 64 i).toInt
      rw [k_n 63 (by decide), k_n 64 (by decide)]
      exact fun i hi => ⟨(h7 i hi).1, (h7 i hi).2.mono (by omega)⟩
    · show ∀ r, r < 12 → (-1 ≤ (K9 60 r).toInt ∧ (K9 60 r).toInt ≤ 200) ∧ -1 ≤ (K9 61 r).toInt ∧ (K9 61 r).toInt ≤ 200
      rw [k_n 60 (by decide), k_n 61 (by decide)]
      exact h8
  · exact H
theorem kok.person {w p : Int32} (H : kok τ φ) : kok (n_person w p τ) (k9_person w p τ φ) := by
  unfold n_person k9_person
  split
  · next c =>
    obtain ⟨h1, h2, h3, h4, h5, h6, h7, h8⟩ := H
    obtain ⟨K9, eK⟩ : ∃ K9 : zI, K9 = s2 (s2 φ.1 62 (upd (φ.1 62) τ.2.2.1 w)) 56 (upd (φ.1 56) (30 + τ.2.2.1) p) := ⟨_, rfl⟩
    rw [← eK]
    have k_t := (congrFun eK 56).trans (s2_s _ _ _)
    have k_s := ((congrFun eK 62).trans (s2_n (by decide))).trans (s2_s _ _ _)
    have k_n : ∀ L, L ≠ 62 ∧ L ≠ 56 → K9 L = φ.1 L := fun L hL => by rw [eK, s2_n hL.2, s2_n hL.1]
    refine ⟨h1, ?_, ?_, ⟨h4.1, by show τ.2.2.1 + 1 ≤ 8; omega, h4.2.2⟩, ?_, ?_, ?_, ?_⟩
    · show tk9 τ.1 τ.2.1 (τ.2.2.1 + 1) φ.2.2.1 (K9 56)
      rw [k_t]
      exact h2.at h1.1 c.2.2.1 (fun i h9 h10 => by omega)
    · show ∀ i, i < 8 → 0 ≤ (K9 62 i).toInt ∧ (K9 62 i).toInt ≤ 9
      rw [k_s]
      intro i hi
      by_cases e : i = τ.2.2.1
      · subst e
        rw [upd_s]
        omega
      · rw [upd_n _ _ e]
        exact h3 i hi
    · show ∀ a, a < 18 → decide ((K9 65 (18 * a + a)).toInt = 1) = false
      rw [k_n 65 (by decide)]
      exact h5
    · show (K9 50 39).toInt = 0 ∨ (K9 50 39).toInt = 1 ∧ 0 ≤ (K9 50 35).toInt ∧ (K9 50 35).toInt ≤ ((τ.2.2.1 + 1 : Nat) : Int) ∧ tk9 τ.1 τ.2.1 (K9 50 35).toInt.toNat φ.2.2.1 (K9 58)
      rw [k_n 50 (by decide), k_n 58 (by decide)]
      rcases h6 with z | z
      · exact Or.inl z
      · exact Or.inr ⟨z.1, z.2.1, by omega, z.2.2.2⟩
    · show ∀ i, i < τ.2.2.2 → (0 ≤ (K9 63 i).toInt ∧ (K9 63 i).toInt < ((τ.2.2.1 + 1 : Nat) : Int)) ∧ isPl τ.1 τ.2.1 (K9 64 i).toInt
      rw [k_n 63 (by decide), k_n 64 (by decide)]
      exact fun i hi => ⟨by have := (h7 i hi).1; omega, (h7 i hi).2⟩
    · show ∀ r, r < 12 → (-1 ≤ (K9 60 r).toInt ∧ (K9 60 r).toInt ≤ 200) ∧ -1 ≤ (K9 61 r).toInt ∧ (K9 61 r).toInt ≤ 200
      rw [k_n 60 (by decide), k_n 61 (by decide)]
      exact h8
  · exact H
theorem kok.task {p q : Int32} (H : kok τ φ) : kok (n_task p q τ) (k9_task p q τ φ) := by
  unfold n_task k9_task
  split
  · next c =>
    obtain ⟨h1, h2, h3, h4, h5, h6, h7, h8⟩ := H
    obtain ⟨K9, eK⟩ : ∃ K9 : zI, K9 = s2 (s2 φ.1 63 (upd (φ.1 63) τ.2.2.2 p)) 64 (upd (φ.1 64) τ.2.2.2 q) := ⟨_, rfl⟩
    rw [← eK]
    have k_t := (congrFun eK 64).trans (s2_s _ _ _)
    have k_s := ((congrFun eK 63).trans (s2_n (by decide))).trans (s2_s _ _ _)
    have k_n : ∀ L, L ≠ 63 ∧ L ≠ 64 → K9 L = φ.1 L := fun L hL => by rw [eK, s2_n hL.2, s2_n hL.1]
    refine ⟨h1, ?_, ?_, ⟨h4.1, h4.2.1, by show τ.2.2.2 + 1 ≤ 6; omega⟩, ?_, ?_, ?_, ?_⟩
    · show tk9 τ.1 τ.2.1 τ.2.2.1 φ.2.2.1 (K9 56)
      rw [k_n 56 (by decide)]
      exact h2
    · show ∀ i, i < 8 → 0 ≤ (K9 62 i).toInt ∧ (K9 62 i).toInt ≤ 9
      rw [k_n 62 (by decide)]
      exact h3
    · show ∀ a, a < 18 → decide ((K9 65 (18 * a + a)).toInt = 1) = false
      rw [k_n 65 (by decide)]
      exact h5
    · show (K9 50 39).toInt = 0 ∨ (K9 50 39).toInt = 1 ∧ 0 ≤ (K9 50 35).toInt ∧ (K9 50 35).toInt ≤ (τ.2.2.1 : Int) ∧ tk9 τ.1 τ.2.1 (K9 50 35).toInt.toNat φ.2.2.1 (K9 58)
      rw [k_n 50 (by decide), k_n 58 (by decide)]
      exact h6
    · show ∀ i, i < τ.2.2.2 + 1 → (0 ≤ (K9 63 i).toInt ∧ (K9 63 i).toInt < (τ.2.2.1 : Int)) ∧ isPl τ.1 τ.2.1 (K9 64 i).toInt
      rw [k_s, k_t]
      intro i hi
      by_cases e : i = τ.2.2.2
      · subst e
        rw [upd_s, upd_s]
        exact ⟨⟨c.1, c.2.1⟩, c.2.2.1⟩
      · rw [upd_n _ _ e, upd_n _ _ e]
        exact h7 i (by omega)
    · show ∀ r, r < 12 → (-1 ≤ (K9 60 r).toInt ∧ (K9 60 r).toInt ≤ 200) ∧ -1 ≤ (K9 61 r).toInt ∧ (K9 61 r).toInt ≤ 200
      rw [k_n 60 (by decide), k_n 61 (by decide)]
      exact h8
  · exact H
theorem kok.beside {a b o : Int32} (H : kok τ φ) : kok τ (k9_beside a b o τ φ) := by
  unfold k9_beside
  split
  · next c =>
    obtain ⟨h1, h2, h3, h4, h5, h6, h7, h8⟩ := H
    have n6 := h1.1
    unfold isPl at c
    obtain ⟨K9, eK⟩ : ∃ K9 : zI, K9 = s2 φ.1 65 (upd (upd (φ.1 65) (18 * a.toInt.toNat + b.toInt.toNat) o) (18 * b.toInt.toNat + a.toInt.toNat) o) := ⟨_, rfl⟩
    rw [← eK]
    have k_s := (congrFun eK 65).trans (s2_s _ _ _)
    have k_n : ∀ L, L ≠ 65 → K9 L = φ.1 L := fun L hL => by rw [eK, s2_n hL]
    refine ⟨h1, ?_, ?_, h4, ?_, ?_, ?_, ?_⟩
    · show tk9 τ.1 τ.2.1 τ.2.2.1 φ.2.2.1 (K9 56)
      rw [k_n 56 (by decide)]
      exact h2
    · show ∀ i, i < 8 → 0 ≤ (K9 62 i).toInt ∧ (K9 62 i).toInt ≤ 9
      rw [k_n 62 (by decide)]
      exact h3
    · show ∀ a9, a9 < 18 → decide ((K9 65 (18 * a9 + a9)).toInt = 1) = false
      rw [k_s]
      intro a9 ha
      rw [upd_n _ _ (by omega), upd_n _ _ (by omega)]
      exact h5 a9 ha
    · show (K9 50 39).toInt = 0 ∨ (K9 50 39).toInt = 1 ∧ 0 ≤ (K9 50 35).toInt ∧ (K9 50 35).toInt ≤ (τ.2.2.1 : Int) ∧ tk9 τ.1 τ.2.1 (K9 50 35).toInt.toNat φ.2.2.1 (K9 58)
      rw [k_n 50 (by decide), k_n 58 (by decide)]
      exact h6
    · show ∀ i, i < τ.2.2.2 → (0 ≤ (K9 63 i).toInt ∧ (K9 63 i).toInt < (τ.2.2.1 : Int)) ∧ isPl τ.1 τ.2.1 (K9 64 i).toInt
      rw [k_n 63 (by decide), k_n 64 (by decide)]
      exact h7
    · show ∀ r, r < 12 → (-1 ≤ (K9 60 r).toInt ∧ (K9 60 r).toInt ≤ 200) ∧ -1 ≤ (K9 61 r).toInt ∧ (K9 61 r).toInt ≤ 200
      rw [k_n 60 (by decide), k_n 61 (by decide)]
      exact h8
  · exact H
theorem kok.want {r w : Int32} (H : kok τ φ) : kok τ (k9_want r w τ φ) := by
  unfold k9_want
  split
  · next c =>
    obtain ⟨h1, h2, h3, h4, h5, h6, h7, h8⟩ := H
    obtain ⟨K9, eK⟩ : ∃ K9 : zI, K9 = s2 φ.1 60 (upd (φ.1 60) r.toInt.toNat w) := ⟨_, rfl⟩
    rw [← eK]
    have k_s := (congrFun eK 60).trans (s2_s _ _ _)
    have k_n : ∀ L, L ≠ 60 → K9 L = φ.1 L := fun L hL => by rw [eK, s2_n hL]
    refine ⟨h1, ?_, ?_, h4, ?_, ?_, ?_, ?_⟩
    · show tk9 τ.1 τ.2.1 τ.2.2.1 φ.2.2.1 (K9 56)
      rw [k_n 56 (by decide)]
      exact h2
    · show ∀ i, i < 8 → 0 ≤ (K9 62 i).toInt ∧ (K9 62 i).toInt ≤ 9
      rw [k_n 62 (by decide)]
      exact h3
    · show ∀ a9, a9 < 18 → decide ((K9 65 (18 * a9 + a9)).toInt = 1) = false
      rw [k_n 65 (by decide)]
      exact h5
    · show (K9 50 39).toInt = 0 ∨ (K9 50 39).toInt = 1 ∧ 0 ≤ (K9 50 35).toInt ∧ (K9 50 35).toInt ≤ (τ.2.2.1 : Int) ∧ tk9 τ.1 τ.2.1 (K9 50 35).toInt.toNat φ.2.2.1 (K9 58)
      rw [k_n 50 (by decide), k_n 58 (by decide)]
      exact h6
    · show ∀ i, i < τ.2.2.2 → (0 ≤ (K9 63 i).toInt ∧ (K9 63 i).toInt < (τ.2.2.1 : Int)) ∧ isPl τ.1 τ.2.1 (K9 64 i).toInt
      rw [k_n 63 (by decide), k_n 64 (by decide)]
      exact h7
    · show ∀ r, r < 12 → (-1 ≤ (K9 60 r).toInt ∧ (K9 60 r).toInt ≤ 200) ∧ -1 ≤ (K9 61 r).toInt ∧ (K9 61 r).toInt ≤ 200
      rw [k_s, k_n 61 (by decide)]
      intro r9 h9
      refine ⟨?_, (h8 r9 h9).2⟩
      by_cases e : r9 = r.toInt.toNat
      · subst e
        rw [upd_s]
        exact c.2
      · rw [upd_n _ _ e]
        exact (h8 r9 h9).1
  · exact H
theorem kok.woke {r w : Int32} (H : kok τ φ) : kok τ (k9_woke r w τ φ) := by
  unfold k9_woke
  split
  · next c =>
    obtain ⟨h1, h2, h3, h4, h5, h6, h7, h8⟩ := H
    obtain ⟨K9, eK⟩ : ∃ K9 : zI, K9 = s2 φ.1 61 (upd (φ.1 61) r.toInt.toNat w) := ⟨_, rfl⟩
    rw [← eK]
    have k_s := (congrFun eK 61).trans (s2_s _ _ _)
    have k_n : ∀ L, L ≠ 61 → K9 L = φ.1 L := fun L hL => by rw [eK, s2_n hL]
    refine ⟨h1, ?_, ?_, h4, ?_, ?_, ?_, ?_⟩
    · show tk9 τ.1 τ.2.1 τ.2.2.1 φ.2.2.1 (K9 56)
      rw [k_n 56 (by decide)]
      exact h2
    · show ∀ i, i < 8 → 0 ≤ (K9 62 i).toInt ∧ (K9 62 i).toInt ≤ 9
      rw [k_n 62 (by decide)]
      exact h3
    · show ∀ a9, a9 < 18 → decide ((K9 65 (18 * a9 + a9)).toInt = 1) = false
      rw [k_n 65 (by decide)]
      exact h5
    · show (K9 50 39).toInt = 0 ∨ (K9 50 39).toInt = 1 ∧ 0 ≤ (K9 50 35).toInt ∧ (K9 50 35).toInt ≤ (τ.2.2.1 : Int) ∧ tk9 τ.1 τ.2.1 (K9 50 35).toInt.toNat φ.2.2.1 (K9 58)
      rw [k_n 50 (by decide), k_n 58 (by decide)]
      exact h6
    · show ∀ i, i < τ.2.2.2 → (0 ≤ (K9 63 i).toInt ∧ (K9 63 i).toInt < (τ.2.2.1 : Int)) ∧ isPl τ.1 τ.2.1 (K9 64 i).toInt
      rw [k_n 63 (by decide), k_n 64 (by decide)]
      exact h7
    · show ∀ r, r < 12 → (-1 ≤ (K9 60 r).toInt ∧ (K9 60 r).toInt ≤ 200) ∧ -1 ≤ (K9 61 r).toInt ∧ (K9 61 r).toInt ≤ 200
      rw [k_n 60 (by decide), k_s]
      intro r9 h9
      refine ⟨(h8 r9 h9).1, ?_⟩
      by_cases e : r9 = r.toInt.toNat
      · subst e
        rw [upd_s]
        exact c.2
      · rw [upd_n _ _ e]
        exact (h8 r9 h9).2
  · exact H
theorem kok.image (H : kok τ φ) : kok τ (k9_image τ φ) := by
  unfold k9_image
  split
  · next c =>
    obtain ⟨h1, h2, h3, h4, h5, h6, h7, h8⟩ := H
    have e35 : (Int32.ofNat τ.2.2.1).toInt = (τ.2.2.1 : Int) := by
      rw [show Int32.ofNat τ.2.2.1 = Int32.ofInt (τ.2.2.1 : Int) from rfl, ofInt_b (by omega)]
    obtain ⟨K9, eK⟩ : ∃ K9 : zI, K9 = s2 (s2 φ.1 58 (φ.1 56)) 50 (upd (upd (φ.1 50) 39 1) 35 (Int32.ofNat τ.2.2.1)) := ⟨_, rfl⟩
    rw [← eK]
    have k_t := (congrFun eK 50).trans (s2_s _ _ _)
    have k_s := ((congrFun eK 58).trans (s2_n (by decide))).trans (s2_s _ _ _)
    have k_n : ∀ L, L ≠ 58 ∧ L ≠ 50 → K9 L = φ.1 L := fun L hL => by rw [eK, s2_n hL.2, s2_n hL.1]
    refine ⟨h1, ?_, ?_, h4, ?_, ?_, ?_, ?_⟩
    · show tk9 τ.1 τ.2.1 τ.2.2.1 φ.2.2.1 (K9 56)
      rw [k_n 56 (by decide)]
      exact h2
    · show ∀ i, i < 8 → 0 ≤ (K9 62 i).toInt ∧ (K9 62 i).toInt ≤ 9
      rw [k_n 62 (by decide)]
      exact h3
    · show ∀ a9, a9 < 18 → decide ((K9 65 (18 * a9 + a9)).toInt = 1) = false
      rw [k_n 65 (by decide)]
      exact h5
    · refine Or.inr ?_
      show (K9 50 39).toInt = 1 ∧ 0 ≤ (K9 50 35).toInt ∧ (K9 50 35).toInt ≤ (τ.2.2.1 : Int) ∧ tk9 τ.1 τ.2.1 (K9 50 35).toInt.toNat φ.2.2.1 (K9 58)
      rw [k_t, k_s, upd_s, upd_n _ _ (by decide), upd_s, e35, Int.toNat_natCast]
      exact ⟨rfl, by omega, Int.le_refl _, h2⟩
    · show ∀ i, i < τ.2.2.2 → (0 ≤ (K9 63 i).toInt ∧ (K9 63 i).toInt < (τ.2.2.1 : Int)) ∧ isPl τ.1 τ.2.1 (K9 64 i).toInt
      rw [k_n 63 (by decide), k_n 64 (by decide)]
      exact h7
    · show ∀ r, r < 12 → (-1 ≤ (K9 60 r).toInt ∧ (K9 60 r).toInt ≤ 200) ∧ -1 ≤ (K9 61 r).toInt ∧ (K9 61 r).toInt ≤ 200
      rw [k_n 60 (by decide), k_n 61 (by decide)]
      exact h8
  · exact H
theorem kok.back (H : kok τ φ) : kok τ (k9_back φ) := by
  unfold k9_back
  split
  · next c =>
    have n6 := H.1.1
    have p8 := H.2.2.2.1.2.1
    obtain ⟨z0, z1, z2, z3⟩ : (φ.1 50 39).toInt = 1 ∧ 0 ≤ (φ.1 50 35).toInt ∧ (φ.1 50 35).toInt ≤ (τ.2.2.1 : Int) ∧ tk9 τ.1 τ.2.1 (φ.1 50 35).toInt.toNat φ.2.2.1 (φ.1 58) := by
      rcases H.2.2.2.2.2.1 with z | z
      · omega
      · exact z
    refine H.t (fun L hL => s2_n hL) ?_
    rw [s2_s]
    obtain ⟨g1, g2, g3, g4, g5⟩ := z3
    refine ⟨fun q hq => ?_, fun q hq => ?_, fun q hq => ?_, fun k hk => ?_, fun i hi => ?_⟩
    · dsimp only
      rw [if_neg (by omega)]
      exact g1 q hq
    · dsimp only
      rw [if_neg (by omega)]
      exact g2 q hq
    · dsimp only
      rw [if_neg (by omega)]
      exact g3 q hq
    · dsimp only
      rw [if_neg (by omega)]
      exact g4 k hk
    · dsimp only
      by_cases e : i < (φ.1 50 35).toInt.toNat
      · rw [if_neg (by omega)]
        exact g5 i e
      · rw [if_pos (by omega)]
        exact H.2.1.2.2.2.2 i hi
  · exact H
end
