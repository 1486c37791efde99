/-! the class: newTown, what a TOWN shows -/
/-- what becomes of it when a TOWN's text is told -/
noncomputable def k9_town (σ : aS) (seed : Int64) (φ : zP) : zP := if isRb (sp_town σ.1 σ.2.1).1 = true then k9_new (sp_town σ.1 σ.2.1).2 (sp_tv σ.1 σ.2.1 6 0 0 (fun _ _ => 0)) seed φ else φ
section
variable {τ : aN} {φ : zP} {n : Nat} {ρ : aRw} {seed : Int64}
theorem kok.new (H : kok τ φ) (wf : wfR n ρ) : kok (n, 0, 0, 0) (k9_new n ρ seed φ) := by
  obtain ⟨h1, h2, h3, h4, h5, h6, h7, h8⟩ := H
  obtain ⟨K9, eK⟩ : ∃ K9 : zI, K9 = s2 (s2 (s2 (s2 (s2 φ.1 56 (fun q => if q < n then Int32.ofInt (ρ q 2) else if 12 ≤ q ∧ q < 12 + n then 1 else 0)) 60 (fun _ => -1)) 61 (fun _ => -1)) 65 (fun _ => 0)) 50 (upd (φ.1 50) 39 0) := ⟨_, rfl⟩
  show kok (n, 0, 0, 0) (s2 (s2 (s2 (s2 (s2 φ.1 56 _) 60 _) 61 _) 65 _) 50 _, _, ρ, φ.2.2.2)
  rw [← eK]
  have n6 : n ≤ 6 := wf.1
  have k56 : K9 56 = fun q => if q < n then Int32.ofInt (ρ q 2) else if 12 ≤ q ∧ q < 12 + n then 1 else 0 := by
    rw [eK, s2_n (by decide), s2_n (by decide), s2_n (by decide), s2_n (by decide), s2_s]
  have tq : ∀ q, q < n → (K9 56 q).toInt = ρ q 2 := fun q hq => by
    obtain ⟨-, w1, w2, -⟩ := (wf.2 q hq).1
    rw [k56]
    show (if q < n then Int32.ofInt (ρ q 2) else _).toInt = _
    rw [if_pos hq, ofInt_b (by omega)]
  have tz : ∀ q, 18 ≤ q → K9 56 q = 0 := fun q hq => by
    rw [k56]
    show (if q < n then _ else if 12 ≤ q ∧ q < 12 + n then (1 : Int32) else 0) = 0
    rw [if_neg (by omega), if_neg (by omega)]
  have t1 : ∀ q, q < n → K9 56 (12 + q) = 1 := fun q hq => by
    rw [k56]
    show (if 12 + q < n then _ else if 12 ≤ 12 + q ∧ 12 + q < 12 + n then (1 : Int32) else 0) = 1
    rw [if_neg (by omega), if_pos (by omega)]
  refine ⟨wf, ⟨fun q hq => ?_, fun q hq => ?_, fun q hq => ?_, fun k hk => ?_, fun i hi => absurd hi (Nat.not_lt_zero i)⟩, ?_, ⟨Nat.zero_le _, Nat.zero_le _, Nat.zero_le _⟩, ?_, ?_, fun i hi => absurd hi (Nat.not_lt_zero i), ?_⟩
  · show 0 ≤ (K9 56 q).toInt ∧ (K9 56 q).toInt ≤ ρ q 1
    rw [tq q hq]
    exact (wf.2 q hq).1.2.2.1
  · show ρ q 0 = 1 → (K9 56 q).toInt % 2 = 0 ∧ ρ q 1 % 2 = 0
    rw [tq q hq]
    exact fun z => ⟨((wf.2 q hq).2 z).2, ((wf.2 q hq).2 z).1⟩
  · show 0 ≤ (K9 56 (12 + q)).toInt ∧ (K9 56 (12 + q)).toInt ≤ 1
    rw [t1 q hq]
    decide
  · show 0 ≤ (K9 56 (18 + k)).toInt ∧ (K9 56 (18 + k)).toInt ≤ 99
    rw [tz (18 + k) (by omega)]
    decide
  · show ∀ i, i < 8 → 0 ≤ (K9 62 i).toInt ∧ (K9 62 i).toInt ≤ 9
    rw [eK, s2_n (by decide), s2_n (by decide), s2_n (by decide), s2_n (by decide), s2_n (by decide)]
    exact h3
  · show ∀ a9, a9 < 18 → decide ((K9 65 (18 * a9 + a9)).toInt = 1) = false
    rw [eK, s2_n (by decide), s2_s]
    exact fun _ _ => rfl
  · refine Or.inl ?_
    show (K9 50 39).toInt = 0
    rw [eK, s2_s, upd_s]
    rfl
  · show ∀ r, r < 12 → (-1 ≤ (K9 60 r).toInt ∧ (K9 60 r).toInt ≤ 200) ∧ -1 ≤ (K9 61 r).toInt ∧ (K9 61 r).toInt ≤ 200
    rw [eK, s2_n (by decide), s2_n (by decide), s2_n (by decide), s2_s, s2_n (by decide), s2_n (by decide), s2_s]
    exact fun _ _ => by decide
theorem bt9_0 {b : Nat} (_ : b < 18) : bt9 0 b = false := by
  show (BitVec.ofNat 32 0).getLsbD b = false
  simp
/-- the class's store shows a new TOWN -/
theorem cS.new {I I1 : zI} {W W1 : zW} (H : cS τ φ I W) (hp : pz I1 n ρ) (h10 : ∀ q, q < 6 → I1 101 q = I1 13 q ∧ I1 102 q = 0 ∧ I1 103 q = 1 ∧ I1 104 (2 * q) = 0 ∧ I1 104 (2 * q + 1) = 0) (h5 : I1 100 5 = 0) (hw : W1 100 6 = seed) (h21 : ∀ q, q < 18 → I1 21 q = 0) (h3 : I1 3 0 = 0 ∧ I1 3 3 = 0 ∧ I1 3 5 = 0) (hx : ∀ q, q < 12 → I1 5 q = -1 ∧ I1 6 q = -1) (h06 : I1 0 6 = 0) (h14 : I1 0 14 = I 0 14) : cS (n, 0, 0, 0) (k9_new n ρ seed φ) I1 W1 := by
  have n6 : n ≤ 6 := hp.2.1.1
  obtain ⟨-, -, -, -, -, -, -, -, -, -, z11⟩ := H
  obtain ⟨K9, eK⟩ : ∃ K9 : zI, K9 = s2 (s2 (s2 (s2 (s2 φ.1 56 (fun q => if q < n then Int32.ofInt (ρ q 2) else if 12 ≤ q ∧ q < 12 + n then 1 else 0)) 60 (fun _ => -1)) 61 (fun _ => -1)) 65 (fun _ => 0)) 50 (upd (φ.1 50) 39 0) := ⟨_, rfl⟩
  show cS (n, 0, 0, 0) (s2 (s2 (s2 (s2 (s2 φ.1 56 _) 60 _) 61 _) 65 _) 50 _, _, ρ, φ.2.2.2) I1 W1
  rw [← eK]
  have k56 : K9 56 = fun q => if q < n then Int32.ofInt (ρ q 2) else if 12 ≤ q ∧ q < 12 + n then 1 else 0 := by
    rw [eK, s2_n (by decide), s2_n (by decide), s2_n (by decide), s2_n (by decide), s2_s]
  have tz : ∀ q, 6 ≤ q → (q < 12 ∨ 18 ≤ q) → K9 56 q = 0 := fun q hq h9 => by
    rw [k56]
    show (if q < n then _ else if 12 ≤ q ∧ q < 12 + n then (1 : Int32) else 0) = 0
    rw [if_neg (by omega), if_neg (by omega)]
  have t1 : ∀ q, q < n → K9 56 (12 + q) = 1 := fun q hq => by
    rw [k56]
    show (if 12 + q < n then _ else if 12 ≤ 12 + q ∧ 12 + q < 12 + n then (1 : Int32) else 0) = 1
    rw [if_neg (by omega), if_pos (by omega)]
  have k50 : K9 50 = upd (φ.1 50) 39 0 := by rw [eK, s2_s]
  have w4 : ∀ q, q < 12 → I1 104 q = 0 := fun q hq => by
    have e2 : q = 2 * (q / 2) ∨ q = 2 * (q / 2) + 1 := by omega
    have := h10 (q / 2) (by omega)
    rcases e2 with e2 | e2 <;> rw [e2]
    · exact this.2.2.2.1
    · exact this.2.2.2.2
  refine ⟨hp, ⟨by rw [h3.1]; rfl, by rw [h3.2.1]; rfl, by rw [h3.2.2]; rfl⟩, ⟨fun q hq => ?_, fun q hq => ?_, fun i hi => absurd hi (Nat.not_lt_zero i), ?_, ?_, fun q hq => ?_⟩, fun g hg => absurd hg (Nat.not_lt_zero g), fun a b ha hb => ?_, fun i hi => absurd hi (Nat.not_lt_zero i), fun i hi => absurd hi (Nat.not_lt_zero i), fun r hr => ?_, ?_, fun z => ?_, ?_⟩
  · show I1 101 q = K9 56 q ∧ I1 102 q = K9 56 (6 + q) ∧ I1 103 q = K9 56 (12 + q)
    have hq : q < n := hq
    obtain ⟨a1, a2, a3, -⟩ := h10 q (by omega)
    refine ⟨?_, ?_, ?_⟩
    · rw [a1, k56]
      show _ = (if q < n then Int32.ofInt (ρ q 2) else _)
      rw [if_pos hq]
      refine (kn_eq _ _).mpr ?_
      obtain ⟨-, u1, u2, -⟩ := (hp.2.1.2 q hq).1
      rw [(hp.2.2 q hq).2.2.1, ofInt_b (by omega)]
    · rw [a2, tz (6 + q) (by omega) (by omega)]
    · rw [a3, t1 q hq]
  · show I1 104 q = K9 56 (18 + q)
    rw [w4 q hq, tz (18 + q) (by omega) (by omega)]
  · show I1 100 5 = K9 56 38
    rw [h5, tz 38 (by omega) (by omega)]
  · show W1 100 6 = (if (36 : Nat) = 36 then seed else φ.2.1 36)
    rw [if_pos rfl]
    exact hw
  · show 0 ≤ (I1 103 q).toInt ∧ (I1 103 q).toInt ≤ 1
    rw [(h10 q hq).2.2.1]
    decide
  · show bt9 (I1 21 a) b = decide ((K9 65 (18 * a + b)).toInt = 1)
    rw [h21 a ha, eK, s2_n (by decide), s2_s]
    exact bt9_0 hb
  · show I1 5 r = K9 60 r ∧ I1 6 r = K9 61 r
    rw [(hx r hr).1, (hx r hr).2, eK, s2_n (by decide), s2_n (by decide), s2_n (by decide), s2_s, s2_n (by decide), s2_n (by decide), s2_s]
    exact ⟨rfl, rfl⟩
  · show (I1 0 6).toInt = (K9 50 39).toInt
    rw [h06, k50, upd_s]
  · have z : (K9 50 39).toInt = 1 := z
    rw [k50, upd_s] at z
    exact absurd z (by decide)
  · show I1 0 14 = K9 50 7
    rw [h14, k50, upd_n _ _ (by decide)]
    exact z11
end
section
variable {cA : Nat → ClassId} {h1 : ch_H} {P a1 a2 a3 a4 a5 a6 a7 a8 : Nat} {g1 g2 g3 : Nat → Int32} {fl : Int32} {n : Nat} {rc : Nat → Nat → Int}
theorem rd_ex (P1 : pn cA h1 P a1 a2 a3 a4 a5 a6 a7 a8 g1 g2 g3) (e2 : fl.toInt = -1 → ∃ ro : Int32, h1 P = some (.inr (4, [.int ro, .ref a1, .ref a2, .ref a3, .ref a4, .ref a5, .ref a6, .ref a7, .ref a8])) ∧ ro.toInt = (n : Int)) (e3 : fl.toInt = -1 → pr cA h1 a1 a2 a3 a4 a5 a6 a7 a8 rc) : ∃ (ro : Int32) (f1 f2 f3 f4 f5 f6 f7 f8 : Nat → Int32), h1 P = some (.inr (4, [.int ro, .ref a1, .ref a2, .ref a3, .ref a4, .ref a5, .ref a6, .ref a7, .ref a8])) ∧ h1 a1 = some (.inl (cA 0, 6, .inl f1)) ∧ h1 a2 = some (.inl (cA 0, 6, .inl f2)) ∧ h1 a3 = some (.inl (cA 0, 6, .inl f3)) ∧ h1 a4 = some (.inl (cA 0, 12, .inl f4)) ∧ h1 a5 = some (.inl (cA 0, 6, .inl f5)) ∧ h1 a6 = some (.inl (cA 0, 6, .inl f6)) ∧ h1 a7 = some (.inl (cA 0, 6, .inl f7)) ∧ h1 a8 = some (.inl (cA 0, 6, .inl f8)) ∧ (fl.toInt = -1 → ro.toInt = (n : Int) ∧ ∀ q, q < 6 → (f1 q).toInt = rc q 0 ∧ (f2 q).toInt = rc q 1 ∧ (f3 q).toInt = rc q 2 ∧ (f4 (2 * q)).toInt = rc q 3 ∧ (f4 (2 * q + 1)).toInt = rc q 4 ∧ (f5 q).toInt = rc q 5 ∧ (f6 q).toInt = rc q 6 ∧ (f7 q).toInt = rc q 7 ∧ (f8 q).toInt = rc q 8) := by
  by_cases c : fl.toInt = -1
  · obtain ⟨ro, q1, q2⟩ := e2 c
    obtain ⟨f1, f2, f3, f4, f5, f6, f7, f8, d1, d2, d3, d4, d5, d6, d7, d8, v⟩ := e3 c
    exact ⟨ro, f1, f2, f3, f4, f5, f6, f7, f8, q1, d1, d2, d3, d4, d5, d6, d7, d8, fun _ => ⟨q2, v⟩⟩
  · obtain ⟨⟨ro, q1, -⟩, d1, d2, d3, ⟨f4, d4⟩, ⟨f5, d5⟩, ⟨f6, d6⟩, ⟨f7, d7⟩, ⟨f8, d8, -⟩, -⟩ := P1
    exact ⟨ro, g1, g2, g3, f4, f5, f6, f7, f8, q1, d1, d2, d3, d4, d5, d6, d7, d8, fun z => absurd z c⟩
end
section
variable {l : Launch} {D : va_G} {tys : List (ClassId × FieldType)} {A : Nat → Prop} {X : State → Prop} {fr lo : Nat} {Q : Option Value → ch_H → Prop} {cA : Nat → ClassId} {Sg : Nat → Option Nat} {h : ch_H} {ad : Nat → Nat} {I : zI} {W : zW} {O : zO} {seed : Int64} {τ : aN} {φ : zP} {f : Nat → Int32} {n9 : Nat} {len at0 fl0 : Int32}
theorem z_newTown (hT : k_tys tys cA) {rr : Nat} (hk : kok τ φ) (hz : zr zNC cA ad I W O h) (hS : cS τ φ I W) (hA : zRA cA ad h) (hH : k_H Sg cA Lb h) (hl : ∀ L, zNC L = true ∨ L = 32 ∨ L = 49 → Sg (ad L) = some (lbC L)) (T : tp0 cA h (ad 1) (ad 19) f len at0 fl0) (hn : len.toInt.toNat = n9) (hf : 12 ≤ fr) (hlo : 400 ≤ lo) (hq : ∀ (g : ch_H) (v : Int32), FC cA g (ad 0) (n_text 0 (f, n9, rr) τ) (k9_town (f, n9, rr) seed φ) → Q (some (.int v)) g) : ww l D tys A X fr lo mX10_newTown Q 0 [(0, .ref (ad 0)), (1, .long seed)] [] h := by
  have nRA : ∀ L, L = 32 ∨ L = 49 → ∀ M, zNC M = true → ad L ≠ ad M := fun L hL M hM => by
    have s1 := hl L (Or.inr hL)
    have s2 := hl M (Or.inl hM)
    have hd : ∀ q, q < 160 → zNC q = true → lbC q ≠ 42 ∧ lbC q ≠ 45 := by decide +kernel
    have d := hd M (zNC_lt hM) hM
    refine k_sg_ne s1 s2 ?_
    rcases hL with e | e <;> subst e
    · exact fun z => d.1 z.symm
    · exact fun z => d.2 z.symm
  have n320 : ad 32 ≠ ad 0 := nRA 32 (Or.inl rfl) 0 rfl
  have n490 : ad 49 ≠ ad 0 := nRA 49 (Or.inr rfl) 0 rfl
  refine w_aload_n (List.Mem.head _) (tX10_newTown_0_ok (0, .aload_n 0, 1) (List.mem_of_getElem? (i := 0) rfl)) ?_
  refine z_getR (L1 := 1) (own := 15) (k := 0) hz rfl rfl rfl rfl rfl rfl rfl (by decide) (tX10_newTown_0_ok (1, .getfield 10, 3) (List.mem_of_getElem? (i := 1) rfl)) ?_
  refine w_aload_n (List.Mem.head _) (tX10_newTown_0_ok (4, .aload_n 0, 1) (List.mem_of_getElem? (i := 2) rfl)) ?_
  refine z_getR (L1 := 33) (own := 15) (k := 2) hz rfl rfl rfl rfl rfl rfl rfl (by decide) (tX10_newTown_0_ok (5, .getfield 23, 3) (List.mem_of_getElem? (i := 3) rfl)) ?_
  have s_ : ∀ L, zNC L = true → Sg (ad L) = some (lbC L) := fun L hL => hl L (Or.inl hL)
  have c_P0 := hz.ob (L := 33) rfl rfl
  have c_P0 : h (ad 33) = some (.inr (4, [.int (I 33 0), .ref (ad 34), .ref (ad 35), .ref (ad 36), .ref (ad 37), .ref (ad 38), .ref (ad 39), .ref (ad 40), .ref (ad 41)])) := c_P0
  obtain ⟨u1, u2, u3, HP, -⟩ := pn_at hH (s_ 33 rfl) c_P0
  obtain ⟨rc8, R8⟩ := pr_ex hH (s_ 33 rfl) c_P0
  refine w_callS (own := 15) (mi := 83) [.ref (ad 1), .ref (ad 33)] [] [(0, .ref (ad 1)), (1, .ref (ad 33))] rfl (cllw_X10 (110, 1, 83) (List.mem_of_getElem? (i := 2) rfl)) rfl rfl (by omega) (w_lo (n := 22) rfl (by omega)) (Nat.le_of_ble_eq_true rfl) (Nat.le_of_ble_eq_true rfl) rfl (tX10_newTown_0_ok (8, .invokestatic 110, 3) (List.mem_of_getElem? (i := 4) rfl)) (s_townV hT (pns_of (s_ 1 rfl) (s_ 19 rfl) (s_ 33 rfl) (s_ 34 rfl) (s_ 35 rfl) (s_ 36 rfl) (s_ 37 rfl) (s_ 38 rfl) (s_ 39 rfl) (s_ 40 rfl) (s_ 41 rfl)) ⟨by omega, w_sub (n := 22) rfl (by omega)⟩ T HP R8 (fun h1 at1 fl1 k1 k2 k3 T1 P1 e1 e2 e3 o1 => ?_))
  obtain ⟨ro, f1, f2, f3, f4, f5, f6, f7, f8, c33, d1, d2, d3, d4, d5, d6, d7, d8, hv⟩ := rd_ex (fl := fl1) P1 e2 e3
  have nsg : ∀ q l1, Sg q = some l1 → (l1 ≠ 1 ∧ l1 ≠ 10 ∧ l1 ≠ 2 ∧ ¬ (11 ≤ l1 ∧ l1 ≤ 18)) → h1 q = h q := fun q l1 hs hn => o1 q (sgP_lt (k_sg_ne hs (s_ 1 rfl) hn.1) (k_sg_ne hs (s_ 19 rfl) hn.2.1) (k_sg_ne hs (s_ 33 rfl) hn.2.2.1) (k_sg_ne hs (s_ 34 rfl) (by show ¬ l1 = 11; omega)) (k_sg_ne hs (s_ 35 rfl) (by show ¬ l1 = 12; omega)) (k_sg_ne hs (s_ 36 rfl) (by show ¬ l1 = 13; omega)) (k_sg_ne hs (s_ 37 rfl) (by show ¬ l1 = 14; omega)) (k_sg_ne hs (s_ 38 rfl) (by show ¬ l1 = 15; omega)) (k_sg_ne hs (s_ 39 rfl) (by show ¬ l1 = 16; omega)) (k_sg_ne hs (s_ 40 rfl) (by show ¬ l1 = 17; omega)) (k_sg_ne hs (s_ 41 rfl) (by show ¬ l1 = 18; omega)))
  have oL : ∀ L, zNC L = true → L ≠ 1 → ¬ (33 ≤ L ∧ L ≤ 41) → h1 (ad L) = h (ad L) := fun L hL n1 n2 => by
    by_cases e : L = 19
    · subst e
      exact o1 _ (by rw [(pns_of (Sg := Sg) (s_ 1 rfl) (s_ 19 rfl) (s_ 33 rfl) (s_ 34 rfl) (s_ 35 rfl) (s_ 36 rfl) (s_ 37 rfl) (s_ 38 rfl) (s_ 39 rfl) (s_ 40 rfl) (s_ 41 rfl)).2.1]; decide)
    · have ne : ∀ M, zNC M = true → L ≠ M → ad L ≠ ad M := fun M hM n9 => hz.ne hL hM n9
      exact o1 _ (sgP_lt (ne 1 rfl n1) (ne 19 rfl e) (ne 33 rfl (by omega)) (ne 34 rfl (by omega)) (ne 35 rfl (by omega)) (ne 36 rfl (by omega)) (ne 37 rfl (by omega)) (ne 38 rfl (by omega)) (ne 39 rfl (by omega)) (ne 40 rfl (by omega)) (ne 41 rfl (by omega)))
  have z1 := hz.rd (len := len) (at1 := at1) (fl1 := fl1) (ro := ro) T1.1 c33 d1 d2 d3 d4 d5 d6 d7 d8 oL
  obtain ⟨I1, eI⟩ : ∃ J : zI, J = zrd I len at1 fl1 ro f1 f2 f3 f4 f5 f6 f7 f8 := ⟨_, rfl⟩
  rw [← eI] at z1
  have e13 : (I1 1 3).toInt = fl1.toInt := by rw [eI]; rfl
  have nI : ∀ L, L ≠ 1 → ¬ (33 ≤ L ∧ L ≤ 41) → I1 L = I L := fun L n1 n2 => by rw [eI, zrd_n n1 n2]
  have A1 : zRA cA ad h1 := hA.mv (nsg _ 42 (hl 32 (Or.inr (Or.inl rfl))) (by decide)) (nsg _ 45 (hl 49 (Or.inr (Or.inr rfl))) (by decide))
  show ww l D tys A X fr lo mX10_newTown Q 11 [(0, .ref (ad 0)), (1, .long seed)] [] h1
  refine w_aload_n (List.Mem.head _) (tX10_newTown_0_ok (11, .aload_n 0, 1) (List.mem_of_getElem? (i := 5) rfl)) ?_
  refine z_getR (L1 := 1) (own := 15) (k := 0) z1 rfl rfl rfl rfl rfl rfl rfl (by decide) (tX10_newTown_0_ok (12, .getfield 10, 3) (List.mem_of_getElem? (i := 6) rfl)) ?_
  refine z_get (f := (I1 1)) (own := 15) (k := 3) z1 rfl rfl rfl rfl rfl rfl rfl (by decide) (tX10_newTown_0_ok (15, .getfield 116, 3) (List.mem_of_getElem? (i := 7) rfl)) ?_
  refine w_iconst (by decide) (tX10_newTown_0_ok (18, .iconst (-1), 1) (List.mem_of_getElem? (i := 8) rfl)) (fun zv1 ze2 => ?_)
  refine w_icmp_eq (tgt := 24) (tX10_newTown_0_ok (19, .if_icmp .eq 5, 3) (List.mem_of_getElem? (i := 9) rfl)) rfl (fun zb3 => ?_) (fun zb3 => ?_)
  · refine w_aload_n (List.Mem.head _) (tX10_newTown_0_ok (24, .aload_n 0, 1) (List.mem_of_getElem? (i := 12) rfl)) ?_
    refine z_getR (L1 := 2) (own := 15) (k := 1) z1 rfl rfl rfl rfl rfl rfl rfl (by decide) (tX10_newTown_0_ok (25, .getfield 19, 3) (List.mem_of_getElem? (i := 13) rfl)) ?_
    refine w_astore_n [(3, .ref (ad 2)), (0, .ref (ad 0)), (1, .long seed)] rfl (Nat.le_of_ble_eq_true rfl) (tX10_newTown_0_ok (28, .astore_n 3, 1) (List.mem_of_getElem? (i := 14) rfl)) ?_
    refine w_aload_n (List.Mem.tail _ (List.Mem.head _)) (tX10_newTown_0_ok (29, .aload_n 0, 1) (List.mem_of_getElem? (i := 15) rfl)) ?_
    refine w_aload_n (List.Mem.tail _ (List.Mem.head _)) (tX10_newTown_0_ok (30, .aload_n 0, 1) (List.mem_of_getElem? (i := 16) rfl)) ?_
    refine z_getR (L1 := 33) (own := 15) (k := 2) z1 rfl rfl rfl rfl rfl rfl rfl (by decide) (tX10_newTown_0_ok (31, .getfield 23, 3) (List.mem_of_getElem? (i := 17) rfl)) ?_
    refine w_putF (own := 15) (ci := 9) (k := 1) rfl rfl (by decide) rfl ⟨rfl, rfl⟩ (z1.ob (L := 0) rfl rfl) (by rw [z_fs_len]; decide) (tX10_newTown_0_ok (34, .putfield 19, 3) (List.mem_of_getElem? (i := 18) rfl)) (fun g4 fs4 l4 k4 j4 c4 o4 => ?_)
    refine w_aload_n (List.Mem.tail _ (List.Mem.head _)) (tX10_newTown_0_ok (37, .aload_n 0, 1) (List.mem_of_getElem? (i := 19) rfl)) ?_
    refine w_aload_n (List.Mem.head _) (tX10_newTown_0_ok (38, .aload_n 3, 1) (List.mem_of_getElem? (i := 20) rfl)) ?_
    refine w_putF (own := 15) (ci := 9) (k := 2) rfl rfl (by decide) rfl ⟨rfl, rfl⟩ c4 (by rw [l4, z_fs_len]; decide) (tX10_newTown_0_ok (39, .putfield 23, 3) (List.mem_of_getElem? (i := 21) rfl)) (fun g5 fs5 l5 k5 j5 c5 o5 => ?_)
    have x4 := set_of (k := 1) l4 (by rw [z_fs_len]; decide) k4 j4
    have x5 := set_of (k := 2) l5 (by rw [l4, z_fs_len]; decide) k5 j5
    have z5 : zr zNC cA (fun q => ad (sw9 q)) (fun q => I1 (sw9 q)) (fun q => W (sw9 q)) (fun q => O (sw9 q)) g5 := z1.sw9_ (by rw [c5, x5, x4]; rfl) (fun q hq9 => (o5 q hq9).trans (o4 q hq9))
    obtain ⟨ad1, ea⟩ : ∃ a : Nat → Nat, a = fun q => ad (sw9 q) := ⟨_, rfl⟩
    obtain ⟨I5, e5⟩ : ∃ J : zI, J = fun q => I1 (sw9 q) := ⟨_, rfl⟩
    obtain ⟨W5, ew⟩ : ∃ J : zW, J = fun q => W (sw9 q) := ⟨_, rfl⟩
    obtain ⟨O5, eo⟩ : ∃ J : zO, J = fun q => O (sw9 q) := ⟨_, rfl⟩
    rw [← ea, ← e5, ← ew, ← eo] at z5
    have a0 : ad 0 = ad1 0 := by rw [ea]; rfl
    have A5 : zRA cA ad1 g5 := by
      have A2 : zRA cA ad g5 := A1.mv ((o5 _ n320).trans (o4 _ n320)) ((o5 _ n490).trans (o4 _ n490))
      rw [ea]
      exact A2.sw
    refine w_lv [(3, .ref (ad 2)), (0, .ref (ad 0)), (1, .long seed)] (by intro q hq; simp only [List.mem_cons, List.not_mem_nil, or_false] at hq ⊢; rcases hq with e | e | e <;> subst e <;> simp) ?_
    rw [a0]
    obtain ⟨q9, q8, q7⟩ := sp_is.inr e1 (by omega)
    rw [hn] at q8
    obtain ⟨v0, vv⟩ := hv (by omega)
    rw [hn] at v0 vv
    refine z_newT2 (ad := ad1) hT z5 (by omega) (by omega) (fun g I6 W6 y1 y2 y3 y4 y5 y6 y7 y8 y9 y10 y11 y12 => ?_)
    have yes : isRb (sp_town f n9).1 = true := by rw [q8]; rfl
    have nT : n_text 0 (f, n9, rr) τ = ((sp_town f n9).2, 0, 0, 0) := if_pos ⟨rfl, yes⟩
    have kT : k9_town (f, n9, rr) seed φ = k9_new (sp_town f n9).2 (sp_tv f n9 6 0 0 (fun _ _ => 0)) seed φ := if_pos yes
    have wf : wfR (sp_town f n9).2 (sp_tv f n9 6 0 0 (fun _ _ => 0)) := wfR_town (σ := (f, n9, rr)) q8
    have L2 : ∀ L, L = 2 ∨ 11 ≤ L ∧ L ≤ 18 → I6 L = I1 (sw9 L) := fun L hL => by rw [y9 L (by omega), e5]
    have P6 : pz I6 (sp_town f n9).2 (sp_tv f n9 6 0 0 (fun _ _ => 0)) := by
      refine ⟨?_, wf, fun q hq9 => ?_⟩
      · rw [L2 2 (Or.inl rfl), eI]
        exact v0
      · have rw9 := sp_tv_rows f n9 6 0 0 rc8 (fun _ _ => 0) (fun k hk => absurd hk (by omega)) q hq9
        have n6 := wf.1
        have v := vv q (by omega)
        rw [rw9] at v
        rw [L2 11 (by omega), L2 12 (by omega), L2 13 (by omega), L2 14 (by omega), L2 15 (by omega), L2 16 (by omega), L2 17 (by omega), L2 18 (by omega), eI]
        exact v
    refine hq _ _ ?_
    rw [nT, kT]
    refine ⟨hk.new wf, ad1, I6, W6, O5, y11, a0.symm, hS.new P6 (fun q hq9 => ?_) y2 y3 y4 y5 y6 y7 ?_, ?_⟩
    · obtain ⟨b1, b2⟩ := y1 q hq9
      exact ⟨by rw [b1, y9 13 (by omega)], b2⟩
    · rw [y8 14 (by decide), e5]
      show I1 0 14 = I 0 14
      rw [nI 0 (by decide) (by decide)]
    · have oz : ∀ L, L = 32 ∨ L = 49 → ∀ M, zNC M = true → ad1 L ≠ ad1 M := fun L hL M hM z => by
        rw [ea] at z
        have z : ad (sw9 L) = ad (sw9 M) := z
        rw [sw9_n (L := L) (by omega)] at z
        exact nRA L hL _ (sw9_N hM) z
      exact A5.mv (y12 _ (oz 32 (Or.inl rfl))) (y12 _ (oz 49 (Or.inr rfl)))
  · refine w_iconst (by decide) (tX10_newTown_0_ok (22, .iconst (-1), 1) (List.mem_of_getElem? (i := 10) rfl)) (fun zv4 ze5 => ?_)
    refine w_iret rfl (tX10_newTown_0_ok (23, .ireturn, 1) (List.mem_of_getElem? (i := 11) rfl)) ?_
    obtain ⟨q9, q8, q7⟩ := sp_is.inl e1 (by omega)
    rw [hn] at q8
    have no : ¬ isRb (sp_town f n9).1 = true := fun z => by rw [q8] at z; cases z
    refine hq _ _ ?_
    rw [show k9_town (f, n9, rr) seed φ = φ from if_neg no, show n_text 0 (f, n9, rr) τ = τ from if_neg (fun z => no z.2)]
    exact ⟨hk, ad, I1, W, O, z1, rfl, hS.mv (fun L hL => nI L (fun z => hL (Or.inl z)) (fun z => hL (by unfold scr; omega))) (fun _ _ => rfl), A1⟩
end
