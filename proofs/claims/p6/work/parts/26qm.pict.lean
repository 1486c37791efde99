/-! the pictures of class and reference; clean heaps alike, contracts -/
def lbC (L : Nat) : Nat := if L < 100 then [0, 1, 2, 4, 5, 32, 32, 35, 7, 8, 9, 11, 12, 13, 14, 15, 16, 17, 18, 10, 24, 25, 26, 27, 28, 29, 30, 31, 38, 39, 40, 41, 42, 2, 11, 12, 13, 14, 15, 16, 17, 18, 44, 43, 43, 43, 43, 43, 43, 45].getD L 0 else [3, 19, 20, 21, 22, 23].getD ((L - 100) % 6) 0
/-- two rows of references of the class -/
def zRA (cA : Nat → ClassId) (ad : Nat → Nat) (h : ch_H) : Prop := (∃ F : Nat → Option Nat, h (ad 32) = some (.inl (cA 5, 6, .inr (.inr (.inr (.inr F))))) ∧ ∀ i, i < 6 → F i = some (ad (43 + i))) ∧ ∃ F : Nat → Option Nat, h (ad 49) = some (.inl (cA 3, 7, .inr (.inr (.inr (.inr F))))) ∧ ∀ i, i < 7 → F i = some (ad (100 + 6 * (i + 3)))
/-- what the class's object shows; the reference's -/
def FC (cA : Nat → ClassId) (h : ch_H) (x : Nat) (τ : aN) (φ : zP) : Prop := kok τ φ ∧ ∃ (ad : Nat → Nat) (I : zI) (W : zW) (O : zO), zr zNC cA ad I W O h ∧ ad 0 = x ∧ cS τ φ I W ∧ zRA cA ad h
def FR (cA : Nat → ClassId) (h : ch_H) (m : Nat) (τ : aN) (φ : zP) : Prop := kok τ φ ∧ ∃ (ad : Nat → Nat) (I : zI) (W : zW) (O : zO), zr zNM cA ad I W O h ∧ ad 50 = m ∧ rS τ φ I W
def siz (L : Nat) : Nat := (zZ L).2.2.1
section
variable {Sg : Nat → Option Nat} {cA : Nat → ClassId} {h h1 g g2 : ch_H} {N : Nat → Bool} {ad : Nat → Nat} {I I1 : zI} {W W1 : zW} {O O1 : zO} {x m : Nat} {τ : aN} {φ : zP}
theorem ag.rf (h : ch_H) : ag h h := fun a ci f1 f2 e1 e2 r hr k hk => by
  rw [e1] at e2
  cases e2
  rfl
theorem agI.rf (h : ch_H) : agI h h := fun a n1 n2 c1 c2 f1 f2 e1 e2 => by
  rw [e1] at e2
  cases e2
  exact ⟨rfl, fun _ _ => rfl⟩
theorem agR.rf (h : ch_H) : agR h h := fun a n1 n2 c1 c2 f1 f2 e1 e2 => by
  rw [e1] at e2
  cases e2
  exact ⟨rfl, fun _ _ => rfl⟩
/-- an object of the store, in the other heap -/
theorem zr.agO {L l1 ci n : Nat} {ts ts2 : List k_T} (hz : zr N cA ad I W O g2) (hH : k_H Sg cA Lb g) (a : ag g g2) (hL : N L = true) (hs : Sg (ad L) = some l1) (hZ : zZ L = (0, ci, n, ts)) (hB : Lb l1 = (0, ci, n, ts2)) (hn : ts.length = n ∧ ci < 11 ∧ ch_N ci = n) : g (ad L) = some (.inr (ci, z_fs ad (I L) (W L) (O L) 0 ts)) := by
  obtain ⟨fs, c, l, -⟩ := hH.obj hs hB
  have c2 := hz.ob hL hZ
  have e : fs = z_fs ad (I L) (W L) (O L) 0 ts := by
    refine List.ext_getElem? (fun k => ?_)
    by_cases hk : k < n
    · have h2 : (z_fs ad (I L) (W L) (O L) 0 ts)[k]? = some ((z_fs ad (I L) (W L) (O L) 0 ts)[k]'(by rw [z_fs_len]; omega)) := List.getElem?_eq_getElem _
      rw [h2]
      exact a.get c c2 ⟨hn.2.1, by omega⟩ (by omega) h2
    · rw [List.getElem?_eq_none (by omega), List.getElem?_eq_none (by rw [z_fs_len]; omega)]
  rw [c, e]
/-- what a reference of it bears -/
theorem zr.lb_ {L l1 ci n k L2 l2 : Nat} {ts ts2 : List k_T} {z z2 : Int} (hz : zr N cA ad I W O g2) (hH : k_H Sg cA Lb g) (a : ag g g2) (hL : N L = true) (hs : Sg (ad L) = some l1) (hZ : zZ L = (0, ci, n, ts)) (hB : Lb l1 = (0, ci, n, ts2)) (hn : ts.length = n ∧ ci < 11 ∧ ch_N ci = n) (ht : ts[k]? = some (2, ((L2 : Nat) : Int), z)) (ht2 : ts2[k]? = some (2, ((l2 : Nat) : Int), z2)) : Sg (ad L2) = some l2 := by
  have c := hz.agO hH a hL hs hZ hB hn
  obtain ⟨fs, c1, -, ty⟩ := hH.obj hs hB
  rw [c] at c1
  cases c1
  obtain ⟨v, e, tv⟩ := ty k _ ht2
  have e2 := z_fsR (ad := ad) (f := I L) (w := W L) (o := O L) (L1 := L2) ht rfl rfl
  rw [e2] at e
  cases e
  obtain ⟨t, e3, s⟩ := k_v.ref tv
  cases e3
  exact s
theorem zC_lab (hz : zr zNC cA ad I W O g2) (hA : zRA cA ad g2) (hH : k_H Sg cA Lb g) (a : ag g g2) (ar : agR g g2) (sx : Sg (ad 0) = some 0) : ∀ L, zNC L = true ∨ L = 32 ∨ L = 49 → Sg (ad L) = some (lbC L) := by
  have s0 := sx
  have s1 : Sg (ad 1) = some 1 := hz.lb_ (L := 0) (k := 0) (L2 := 1) hH a rfl s0 rfl rfl ⟨rfl, by decide, rfl⟩ rfl rfl
  have s2 : Sg (ad 2) = some 2 := hz.lb_ (L := 0) (k := 1) (L2 := 2) hH a rfl s0 rfl rfl ⟨rfl, by decide, rfl⟩ rfl rfl
  have s33 : Sg (ad 33) = some 2 := hz.lb_ (L := 0) (k := 2) (L2 := 33) hH a rfl s0 rfl rfl ⟨rfl, by decide, rfl⟩ rfl rfl
  have s100 : Sg (ad 100) = some 3 := hz.lb_ (L := 0) (k := 3) (L2 := 100) hH a rfl s0 rfl rfl ⟨rfl, by decide, rfl⟩ rfl rfl
  have s106 : Sg (ad 106) = some 3 := hz.lb_ (L := 0) (k := 4) (L2 := 106) hH a rfl s0 rfl rfl ⟨rfl, by decide, rfl⟩ rfl rfl
  have s112 : Sg (ad 112) = some 3 := hz.lb_ (L := 0) (k := 5) (L2 := 112) hH a rfl s0 rfl rfl ⟨rfl, by decide, rfl⟩ rfl rfl
  have s3 : Sg (ad 3) = some 4 := hz.lb_ (L := 0) (k := 8) (L2 := 3) hH a rfl s0 rfl rfl ⟨rfl, by decide, rfl⟩ rfl rfl
  have s4 : Sg (ad 4) = some 5 := hz.lb_ (L := 0) (k := 9) (L2 := 4) hH a rfl s0 rfl rfl ⟨rfl, by decide, rfl⟩ rfl rfl
  have s5 : Sg (ad 5) = some 32 := hz.lb_ (L := 0) (k := 10) (L2 := 5) hH a rfl s0 rfl rfl ⟨rfl, by decide, rfl⟩ rfl rfl
  have s6 : Sg (ad 6) = some 32 := hz.lb_ (L := 0) (k := 11) (L2 := 6) hH a rfl s0 rfl rfl ⟨rfl, by decide, rfl⟩ rfl rfl
  have s7 : Sg (ad 7) = some 35 := hz.lb_ (L := 0) (k := 15) (L2 := 7) hH a rfl s0 rfl rfl ⟨rfl, by decide, rfl⟩ rfl rfl
  have s8 : Sg (ad 8) = some 7 := hz.lb_ (L := 0) (k := 16) (L2 := 8) hH a rfl s0 rfl rfl ⟨rfl, by decide, rfl⟩ rfl rfl
  have s9 : Sg (ad 9) = some 8 := hz.lb_ (L := 0) (k := 17) (L2 := 9) hH a rfl s0 rfl rfl ⟨rfl, by decide, rfl⟩ rfl rfl
  have s10 : Sg (ad 10) = some 9 := hz.lb_ (L := 0) (k := 18) (L2 := 10) hH a rfl s0 rfl rfl ⟨rfl, by decide, rfl⟩ rfl rfl
  have s19 : Sg (ad 19) = some 10 := hz.lb_ (L := 1) (k := 0) (L2 := 19) hH a rfl s1 rfl rfl ⟨rfl, by decide, rfl⟩ rfl rfl
  have s11 : Sg (ad 11) = some 11 := hz.lb_ (L := 2) (k := 1) (L2 := 11) hH a rfl s2 rfl rfl ⟨rfl, by decide, rfl⟩ rfl rfl
  have s12 : Sg (ad 12) = some 12 := hz.lb_ (L := 2) (k := 2) (L2 := 12) hH a rfl s2 rfl rfl ⟨rfl, by decide, rfl⟩ rfl rfl
  have s13 : Sg (ad 13) = some 13 := hz.lb_ (L := 2) (k := 3) (L2 := 13) hH a rfl s2 rfl rfl ⟨rfl, by decide, rfl⟩ rfl rfl
  have s14 : Sg (ad 14) = some 14 := hz.lb_ (L := 2) (k := 4) (L2 := 14) hH a rfl s2 rfl rfl ⟨rfl, by decide, rfl⟩ rfl rfl
  have s15 : Sg (ad 15) = some 15 := hz.lb_ (L := 2) (k := 5) (L2 := 15) hH a rfl s2 rfl rfl ⟨rfl, by decide, rfl⟩ rfl rfl
  have s16 : Sg (ad 16) = some 16 := hz.lb_ (L := 2) (k := 6) (L2 := 16) hH a rfl s2 rfl rfl ⟨rfl, by decide, rfl⟩ rfl rfl
  have s17 : Sg (ad 17) = some 17 := hz.lb_ (L := 2) (k := 7) (L2 := 17) hH a rfl s2 rfl rfl ⟨rfl, by decide, rfl⟩ rfl rfl
  have s18 : Sg (ad 18) = some 18 := hz.lb_ (L := 2) (k := 8) (L2 := 18) hH a rfl s2 rfl rfl ⟨rfl, by decide, rfl⟩ rfl rfl
  have s34 : Sg (ad 34) = some 11 := hz.lb_ (L := 33) (k := 1) (L2 := 34) hH a rfl s33 rfl rfl ⟨rfl, by decide, rfl⟩ rfl rfl
  have s35 : Sg (ad 35) = some 12 := hz.lb_ (L := 33) (k := 2) (L2 := 35) hH a rfl s33 rfl rfl ⟨rfl, by decide, rfl⟩ rfl rfl
  have s36 : Sg (ad 36) = some 13 := hz.lb_ (L := 33) (k := 3) (L2 := 36) hH a rfl s33 rfl rfl ⟨rfl, by decide, rfl⟩ rfl rfl
  have s37 : Sg (ad 37) = some 14 := hz.lb_ (L := 33) (k := 4) (L2 := 37) hH a rfl s33 rfl rfl ⟨rfl, by decide, rfl⟩ rfl rfl
  have s38 : Sg (ad 38) = some 15 := hz.lb_ (L := 33) (k := 5) (L2 := 38) hH a rfl s33 rfl rfl ⟨rfl, by decide, rfl⟩ rfl rfl
  have s39 : Sg (ad 39) = some 16 := hz.lb_ (L := 33) (k := 6) (L2 := 39) hH a rfl s33 rfl rfl ⟨rfl, by decide, rfl⟩ rfl rfl
  have s40 : Sg (ad 40) = some 17 := hz.lb_ (L := 33) (k := 7) (L2 := 40) hH a rfl s33 rfl rfl ⟨rfl, by decide, rfl⟩ rfl rfl
  have s41 : Sg (ad 41) = some 18 := hz.lb_ (L := 33) (k := 8) (L2 := 41) hH a rfl s33 rfl rfl ⟨rfl, by decide, rfl⟩ rfl rfl
  have s101 : Sg (ad 101) = some 19 := hz.lb_ (L := 100) (k := 0) (L2 := 101) hH a rfl s100 rfl rfl ⟨rfl, by decide, rfl⟩ rfl rfl
  have s102 : Sg (ad 102) = some 20 := hz.lb_ (L := 100) (k := 1) (L2 := 102) hH a rfl s100 rfl rfl ⟨rfl, by decide, rfl⟩ rfl rfl
  have s103 : Sg (ad 103) = some 21 := hz.lb_ (L := 100) (k := 2) (L2 := 103) hH a rfl s100 rfl rfl ⟨rfl, by decide, rfl⟩ rfl rfl
  have s104 : Sg (ad 104) = some 22 := hz.lb_ (L := 100) (k := 3) (L2 := 104) hH a rfl s100 rfl rfl ⟨rfl, by decide, rfl⟩ rfl rfl
  have s105 : Sg (ad 105) = some 23 := hz.lb_ (L := 100) (k := 4) (L2 := 105) hH a rfl s100 rfl rfl ⟨rfl, by decide, rfl⟩ rfl rfl
  have s107 : Sg (ad 107) = some 19 := hz.lb_ (L := 106) (k := 0) (L2 := 107) hH a rfl s106 rfl rfl ⟨rfl, by decide, rfl⟩ rfl rfl
  have s108 : Sg (ad 108) = some 20 := hz.lb_ (L := 106) (k := 1) (L2 := 108) hH a rfl s106 rfl rfl ⟨rfl, by decide, rfl⟩ rfl rfl
  have s109 : Sg (ad 109) = some 21 := hz.lb_ (L := 106) (k := 2) (L2 := 109) hH a rfl s106 rfl rfl ⟨rfl, by decide, rfl⟩ rfl rfl
  have s110 : Sg (ad 110) = some 22 := hz.lb_ (L := 106) (k := 3) (L2 := 110) hH a rfl s106 rfl rfl ⟨rfl, by decide, rfl⟩ rfl rfl
  have s111 : Sg (ad 111) = some 23 := hz.lb_ (L := 106) (k := 4) (L2 := 111) hH a rfl s106 rfl rfl ⟨rfl, by decide, rfl⟩ rfl rfl
  have s113 : Sg (ad 113) = some 19 := hz.lb_ (L := 112) (k := 0) (L2 := 113) hH a rfl s112 rfl rfl ⟨rfl, by decide, rfl⟩ rfl rfl
  have s114 : Sg (ad 114) = some 20 := hz.lb_ (L := 112) (k := 1) (L2 := 114) hH a rfl s112 rfl rfl ⟨rfl, by decide, rfl⟩ rfl rfl
  have s115 : Sg (ad 115) = some 21 := hz.lb_ (L := 112) (k := 2) (L2 := 115) hH a rfl s112 rfl rfl ⟨rfl, by decide, rfl⟩ rfl rfl
  have s116 : Sg (ad 116) = some 22 := hz.lb_ (L := 112) (k := 3) (L2 := 116) hH a rfl s112 rfl rfl ⟨rfl, by decide, rfl⟩ rfl rfl
  have s117 : Sg (ad 117) = some 23 := hz.lb_ (L := 112) (k := 4) (L2 := 117) hH a rfl s112 rfl rfl ⟨rfl, by decide, rfl⟩ rfl rfl
  have s20 : Sg (ad 20) = some 24 := hz.lb_ (L := 3) (k := 1) (L2 := 20) hH a rfl s3 rfl rfl ⟨rfl, by decide, rfl⟩ rfl rfl
  have s21 : Sg (ad 21) = some 25 := hz.lb_ (L := 3) (k := 2) (L2 := 21) hH a rfl s3 rfl rfl ⟨rfl, by decide, rfl⟩ rfl rfl
  have s22 : Sg (ad 22) = some 26 := hz.lb_ (L := 3) (k := 4) (L2 := 22) hH a rfl s3 rfl rfl ⟨rfl, by decide, rfl⟩ rfl rfl
  have s23 : Sg (ad 23) = some 27 := hz.lb_ (L := 3) (k := 6) (L2 := 23) hH a rfl s3 rfl rfl ⟨rfl, by decide, rfl⟩ rfl rfl
  have s24 : Sg (ad 24) = some 28 := hz.lb_ (L := 3) (k := 7) (L2 := 24) hH a rfl s3 rfl rfl ⟨rfl, by decide, rfl⟩ rfl rfl
  have s25 : Sg (ad 25) = some 29 := hz.lb_ (L := 4) (k := 0) (L2 := 25) hH a rfl s4 rfl rfl ⟨rfl, by decide, rfl⟩ rfl rfl
  have s26 : Sg (ad 26) = some 30 := hz.lb_ (L := 4) (k := 1) (L2 := 26) hH a rfl s4 rfl rfl ⟨rfl, by decide, rfl⟩ rfl rfl
  have s27 : Sg (ad 27) = some 31 := hz.lb_ (L := 4) (k := 2) (L2 := 27) hH a rfl s4 rfl rfl ⟨rfl, by decide, rfl⟩ rfl rfl
  have s28 : Sg (ad 28) = some 38 := hz.lb_ (L := 8) (k := 0) (L2 := 28) hH a rfl s8 rfl rfl ⟨rfl, by decide, rfl⟩ rfl rfl
  have s29 : Sg (ad 29) = some 39 := hz.lb_ (L := 8) (k := 1) (L2 := 29) hH a rfl s8 rfl rfl ⟨rfl, by decide, rfl⟩ rfl rfl
  have s30 : Sg (ad 30) = some 40 := hz.lb_ (L := 8) (k := 3) (L2 := 30) hH a rfl s8 rfl rfl ⟨rfl, by decide, rfl⟩ rfl rfl
  have s31 : Sg (ad 31) = some 41 := hz.lb_ (L := 8) (k := 4) (L2 := 31) hH a rfl s8 rfl rfl ⟨rfl, by decide, rfl⟩ rfl rfl
  have s32 : Sg (ad 32) = some 42 := hz.lb_ (L := 9) (k := 0) (L2 := 32) hH a rfl s9 rfl rfl ⟨rfl, by decide, rfl⟩ rfl rfl
  have s42 : Sg (ad 42) = some 44 := hz.lb_ (L := 9) (k := 1) (L2 := 42) hH a rfl s9 rfl rfl ⟨rfl, by decide, rfl⟩ rfl rfl
  have s49 : Sg (ad 49) = some 45 := hz.lb_ (L := 10) (k := 0) (L2 := 49) hH a rfl s10 rfl rfl ⟨rfl, by decide, rfl⟩ rfl rfl
  obtain ⟨⟨F1, c1, e1⟩, F2, c2, e2⟩ := hA
  have t1 : ∀ i, i < 6 → Sg (ad (43 + i)) = some 43 := fun i hi => by
    obtain ⟨e9, z1, z2⟩ := hH (ad 32) 42 s32
    obtain ⟨F, rfl, hf⟩ := k_cell2 (I := Lb 42) rfl z2
    have z1 : g (ad 32) = some (.inl (cA 5, 6, .inr (.inr (.inr (.inr F))))) := z1
    have w := (ar (ad 32) _ _ _ _ _ _ z1 c1).2 i hi
    have v := hf i hi
    rw [w, e1 i hi] at v
    obtain ⟨b, q1, q2⟩ := k_v.ref (L := 43) (z := 0) v
    cases q1
    exact q2
  have t2 : ∀ i, i < 7 → Sg (ad (100 + 6 * (i + 3))) = some 3 := fun i hi => by
    obtain ⟨e9, z1, z2⟩ := hH (ad 49) 45 s49
    obtain ⟨F, rfl, hf⟩ := k_cell2 (I := Lb 45) rfl z2
    have z1 : g (ad 49) = some (.inl (cA 3, 7, .inr (.inr (.inr (.inr F))))) := z1
    have w := (ar (ad 49) _ _ _ _ _ _ z1 c2).2 i hi
    have v := hf i hi
    rw [w, e2 i hi] at v
    obtain ⟨b, q1, q2⟩ := k_v.ref (L := 3) (z := 0) v
    cases q1
    exact q2
  have s118 : Sg (ad 118) = some 3 := t2 0 (by decide)
  have s119 : Sg (ad 119) = some 19 := hz.lb_ (L := 118) (k := 0) (L2 := 119) hH a rfl s118 rfl rfl ⟨rfl, by decide, rfl⟩ rfl rfl
  have s120 : Sg (ad 120) = some 20 := hz.lb_ (L := 118) (k := 1) (L2 := 120) hH a rfl s118 rfl rfl ⟨rfl, by decide, rfl⟩ rfl rfl
  have s121 : Sg (ad 121) = some 21 := hz.lb_ (L := 118) (k := 2) (L2 := 121) hH a rfl s118 rfl rfl ⟨rfl, by decide, rfl⟩ rfl rfl
  have s122 : Sg (ad 122) = some 22 := hz.lb_ (L := 118) (k := 3) (L2 := 122) hH a rfl s118 rfl rfl ⟨rfl, by decide, rfl⟩ rfl rfl
  have s123 : Sg (ad 123) = some 23 := hz.lb_ (L := 118) (k := 4) (L2 := 123) hH a rfl s118 rfl rfl ⟨rfl, by decide, rfl⟩ rfl rfl
  have s124 : Sg (ad 124) = some 3 := t2 1 (by decide)
  have s125 : Sg (ad 125) = some 19 := hz.lb_ (L := 124) (k := 0) (L2 := 125) hH a rfl s124 rfl rfl ⟨rfl, by decide, rfl⟩ rfl rfl
  have s126 : Sg (ad 126) = some 20 := hz.lb_ (L := 124) (k := 1) (L2 := 126) hH a rfl s124 rfl rfl ⟨rfl, by decide, rfl⟩ rfl rfl
  have s127 : Sg (ad 127) = some 21 := hz.lb_ (L := 124) (k := 2) (L2 := 127) hH a rfl s124 rfl rfl ⟨rfl, by decide, rfl⟩ rfl rfl
  have s128 : Sg (ad 128) = some 22 := hz.lb_ (L := 124) (k := 3) (L2 := 128) hH a rfl s124 rfl rfl ⟨rfl, by decide, rfl⟩ rfl rfl
  have s129 : Sg (ad 129) = some 23 := hz.lb_ (L := 124) (k := 4) (L2 := 129) hH a rfl s124 rfl rfl ⟨rfl, by decide, rfl⟩ rfl rfl
  have s130 : Sg (ad 130) = some 3 := t2 2 (by decide)
  have s131 : Sg (ad 131) = some 19 := hz.lb_ (L := 130) (k := 0) (L2 := 131) hH a rfl s130 rfl rfl ⟨rfl, by decide, rfl⟩ rfl rfl
  have s132 : Sg (ad 132) = some 20 := hz.lb_ (L := 130) (k := 1) (L2 := 132) hH a rfl s130 rfl rfl ⟨rfl, by decide, rfl⟩ rfl rfl
  have s133 : Sg (ad 133) = some 21 := hz.lb_ (L := 130) (k := 2) (L2 := 133) hH a rfl s130 rfl rfl ⟨rfl, by decide, rfl⟩ rfl rfl
  have s134 : Sg (ad 134) = some 22 := hz.lb_ (L := 130) (k := 3) (L2 := 134) hH a rfl s130 rfl rfl ⟨rfl, by decide, rfl⟩ rfl rfl
  have s135 : Sg (ad 135) = some 23 := hz.lb_ (L := 130) (k := 4) (L2 := 135) hH a rfl s130 rfl rfl ⟨rfl, by decide, rfl⟩ rfl rfl
  have s136 : Sg (ad 136) = some 3 := t2 3 (by decide)
  have s137 : Sg (ad 137) = some 19 := hz.lb_ (L := 136) (k := 0) (L2 := 137) hH a rfl s136 rfl rfl ⟨rfl, by decide, rfl⟩ rfl rfl
  have s138 : Sg (ad 138) = some 20 := hz.lb_ (L := 136) (k := 1) (L2 := 138) hH a rfl s136 rfl rfl ⟨rfl, by decide, rfl⟩ rfl rfl
  have s139 : Sg (ad 139) = some 21 := hz.lb_ (L := 136) (k := 2) (L2 := 139) hH a rfl s136 rfl rfl ⟨rfl, by decide, rfl⟩ rfl rfl
  have s140 : Sg (ad 140) = some 22 := hz.lb_ (L := 136) (k := 3) (L2 := 140) hH a rfl s136 rfl rfl ⟨rfl, by decide, rfl⟩ rfl rfl
  have s141 : Sg (ad 141) = some 23 := hz.lb_ (L := 136) (k := 4) (L2 := 141) hH a rfl s136 rfl rfl ⟨rfl, by decide, rfl⟩ rfl rfl
  have s142 : Sg (ad 142) = some 3 := t2 4 (by decide)
  have s143 : Sg (ad 143) = some 19 := hz.lb_ (L := 142) (k := 0) (L2 := 143) hH a rfl s142 rfl rfl ⟨rfl, by decide, rfl⟩ rfl rfl
  have s144 : Sg (ad 144) = some 20 := hz.lb_ (L := 142) (k := 1) (L2 := 144) hH a rfl s142 rfl rfl ⟨rfl, by decide, rfl⟩ rfl rfl
  have s145 : Sg (ad 145) = some 21 := hz.lb_ (L := 142) (k := 2) (L2 := 145) hH a rfl s142 rfl rfl ⟨rfl, by decide, rfl⟩ rfl rfl
  have s146 : Sg (ad 146) = some 22 := hz.lb_ (L := 142) (k := 3) (L2 := 146) hH a rfl s142 rfl rfl ⟨rfl, by decide, rfl⟩ rfl rfl
  have s147 : Sg (ad 147) = some 23 := hz.lb_ (L := 142) (k := 4) (L2 := 147) hH a rfl s142 rfl rfl ⟨rfl, by decide, rfl⟩ rfl rfl
  have s148 : Sg (ad 148) = some 3 := t2 5 (by decide)
  have s149 : Sg (ad 149) = some 19 := hz.lb_ (L := 148) (k := 0) (L2 := 149) hH a rfl s148 rfl rfl ⟨rfl, by decide, rfl⟩ rfl rfl
  have s150 : Sg (ad 150) = some 20 := hz.lb_ (L := 148) (k := 1) (L2 := 150) hH a rfl s148 rfl rfl ⟨rfl, by decide, rfl⟩ rfl rfl
  have s151 : Sg (ad 151) = some 21 := hz.lb_ (L := 148) (k := 2) (L2 := 151) hH a rfl s148 rfl rfl ⟨rfl, by decide, rfl⟩ rfl rfl
  have s152 : Sg (ad 152) = some 22 := hz.lb_ (L := 148) (k := 3) (L2 := 152) hH a rfl s148 rfl rfl ⟨rfl, by decide, rfl⟩ rfl rfl
  have s153 : Sg (ad 153) = some 23 := hz.lb_ (L := 148) (k := 4) (L2 := 153) hH a rfl s148 rfl rfl ⟨rfl, by decide, rfl⟩ rfl rfl
  have s154 : Sg (ad 154) = some 3 := t2 6 (by decide)
  have s155 : Sg (ad 155) = some 19 := hz.lb_ (L := 154) (k := 0) (L2 := 155) hH a rfl s154 rfl rfl ⟨rfl, by decide, rfl⟩ rfl rfl
  have s156 : Sg (ad 156) = some 20 := hz.lb_ (L := 154) (k := 1) (L2 := 156) hH a rfl s154 rfl rfl ⟨rfl, by decide, rfl⟩ rfl rfl
  have s157 : Sg (ad 157) = some 21 := hz.lb_ (L := 154) (k := 2) (L2 := 157) hH a rfl s154 rfl rfl ⟨rfl, by decide, rfl⟩ rfl rfl
  have s158 : Sg (ad 158) = some 22 := hz.lb_ (L := 154) (k := 3) (L2 := 158) hH a rfl s154 rfl rfl ⟨rfl, by decide, rfl⟩ rfl rfl
  have s159 : Sg (ad 159) = some 23 := hz.lb_ (L := 154) (k := 4) (L2 := 159) hH a rfl s154 rfl rfl ⟨rfl, by decide, rfl⟩ rfl rfl
  have s43 : Sg (ad 43) = some 43 := t1 0 (by decide)
  have s44 : Sg (ad 44) = some 43 := t1 1 (by decide)
  have s45 : Sg (ad 45) = some 43 := t1 2 (by decide)
  have s46 : Sg (ad 46) = some 43 := t1 3 (by decide)
  have s47 : Sg (ad 47) = some 43 := t1 4 (by decide)
  have s48 : Sg (ad 48) = some 43 := t1 5 (by decide)
  have hall : ∀ L, L ∈ [0, 1, 2, 3, 4, 5, 6, 7, 8, 9, 10, 11, 12, 13, 14, 15, 16, 17, 18, 19, 20, 21, 22, 23, 24, 25, 26, 27, 28, 29, 30, 31, 32, 33, 34, 35, 36, 37, 38, 39, 40, 41, 42, 43, 44, 45, 46, 47, 48, 49, 100, 101, 102, 103, 104, 105, 106, 107, 108, 109, 110, 111, 112, 113, 114, 115, 116, 117, 118, 119, 120, 121, 122, 123, 124, 125, 126, 127, 128, 129, 130, 131, 132, 133, 134, 135, 136, 137, 138, 139, 140, 141, 142, 143, 144, 145, 146, 147, 148, 149, 150, 151, 152, 153, 154, 155, 156, 157, 158, 159] → Sg (ad L) = some (lbC L) := by
    intro L hL
    simp only [List.mem_cons, List.not_mem_nil, or_false] at hL
    rcases hL with e | e | e | e | e | e | e | e | e | e | e | e | e | e | e | e | e | e | e | e | e | e | e | e | e | e | e | e | e | e | e | e | e | e | e | e | e | e | e | e | e | e | e | e | e | e | e | e | e | e | e | e | e | e | e | e | e | e | e | e | e | e | e | e | e | e | e | e | e | e | e | e | e | e | e | e | e | e | e | e | e | e | e | e | e | e | e | e | e | e | e | e | e | e | e | e | e | e | e | e | e | e | e | e | e | e | e | e | e | e
    · subst e; exact s0
    · subst e; exact s1
    · subst e; exact s2
    · subst e; exact s3
    · subst e; exact s4
    · subst e; exact s5
    · subst e; exact s6
    · subst e; exact s7
    · subst e; exact s8
    · subst e; exact s9
    · subst e; exact s10
    · subst e; exact s11
    · subst e; exact s12
    · subst e; exact s13
    · subst e; exact s14
    · subst e; exact s15
    · subst e; exact s16
    · subst e; exact s17
    · subst e; exact s18
    · subst e; exact s19
    · subst e; exact s20
    · subst e; exact s21
    · subst e; exact s22
    · subst e; exact s23
    · subst e; exact s24
    · subst e; exact s25
    · subst e; exact s26
    · subst e; exact s27
    · subst e; exact s28
    · subst e; exact s29
    · subst e; exact s30
    · subst e; exact s31
    · subst e; exact s32
    · subst e; exact s33
    · subst e; exact s34
    · subst e; exact s35
    · subst e; exact s36
    · subst e; exact s37
    · subst e; exact s38
    · subst e; exact s39
    · subst e; exact s40
    · subst e; exact s41
    · subst e; exact s42
    · subst e; exact s43
    · subst e; exact s44
    · subst e; exact s45
    · subst e; exact s46
    · subst e; exact s47
    · subst e; exact s48
    · subst e; exact s49
    · subst e; exact s100
    · subst e; exact s101
    · subst e; exact s102
    · subst e; exact s103
    · subst e; exact s104
    · subst e; exact s105
    · subst e; exact s106
    · subst e; exact s107
    · subst e; exact s108
    · subst e; exact s109
    · subst e; exact s110
    · subst e; exact s111
    · subst e; exact s112
    · subst e; exact s113
    · subst e; exact s114
    · subst e; exact s115
    · subst e; exact s116
    · subst e; exact s117
    · subst e; exact s118
    · subst e; exact s119
    · subst e; exact s120
    · subst e; exact s121
    · subst e; exact s122
    · subst e; exact s123
    · subst e; exact s124
    · subst e; exact s125
    · subst e; exact s126
    · subst e; exact s127
    · subst e; exact s128
    · subst e; exact s129
    · subst e; exact s130
    · subst e; exact s131
    · subst e; exact s132
    · subst e; exact s133
    · subst e; exact s134
    · subst e; exact s135
    · subst e; exact s136
    · subst e; exact s137
    · subst e; exact s138
    · subst e; exact s139
    · subst e; exact s140
    · subst e; exact s141
    · subst e; exact s142
    · subst e; exact s143
    · subst e; exact s144
    · subst e; exact s145
    · subst e; exact s146
    · subst e; exact s147
    · subst e; exact s148
    · subst e; exact s149
    · subst e; exact s150
    · subst e; exact s151
    · subst e; exact s152
    · subst e; exact s153
    · subst e; exact s154
    · subst e; exact s155
    · subst e; exact s156
    · subst e; exact s157
    · subst e; exact s158
    · subst e; exact s159
  intro L hL
  refine hall L ?_
  have hd : ∀ q, q < 160 → zNC q = true ∨ q = 32 ∨ q = 49 → q ∈ [0, 1, 2, 3, 4, 5, 6, 7, 8, 9, 10, 11, 12, 13, 14, 15, 16, 17, 18, 19, 20, 21, 22, 23, 24, 25, 26, 27, 28, 29, 30, 31, 32, 33, 34, 35, 36, 37, 38, 39, 40, 41, 42, 43, 44, 45, 46, 47, 48, 49, 100, 101, 102, 103, 104, 105, 106, 107, 108, 109, 110, 111, 112, 113, 114, 115, 116, 117, 118, 119, 120, 121, 122, 123, 124, 125, 126, 127, 128, 129, 130, 131, 132, 133, 134, 135, 136, 137, 138, 139, 140, 141, 142, 143, 144, 145, 146, 147, 148, 149, 150, 151, 152, 153, 154, 155, 156, 157, 158, 159] := by decide +kernel
  refine hd L ?_ hL
  rcases hL with e | e | e
  · unfold zNC at e
    simp only [Bool.or_eq_true, Bool.and_eq_true, decide_eq_true_eq, bne_iff_ne] at e
    omega
  · omega
  · omega
theorem zM_lab0 (hz : zr zNM cA ad I W O g2) (hH : k_H Sg cA Lb g) (a : ag g g2) (sx : Sg (ad 50) = some 50) : ∀ L, zNM L = true → Sg (ad L) = some (if L = 50 then 50 else if L = 55 then 55 else L) := by
  have s50 := sx
  have s51 : Sg (ad 51) = some 51 := hz.lb_ (L := 50) (k := 1) (L2 := 51) hH a rfl s50 rfl rfl ⟨rfl, by decide, rfl⟩ rfl rfl
  have s52 : Sg (ad 52) = some 52 := hz.lb_ (L := 50) (k := 2) (L2 := 52) hH a rfl s50 rfl rfl ⟨rfl, by decide, rfl⟩ rfl rfl
  have s53 : Sg (ad 53) = some 53 := hz.lb_ (L := 50) (k := 3) (L2 := 53) hH a rfl s50 rfl rfl ⟨rfl, by decide, rfl⟩ rfl rfl
  have s54 : Sg (ad 54) = some 54 := hz.lb_ (L := 50) (k := 4) (L2 := 54) hH a rfl s50 rfl rfl ⟨rfl, by decide, rfl⟩ rfl rfl
  have s55 : Sg (ad 55) = some 55 := hz.lb_ (L := 50) (k := 19) (L2 := 55) hH a rfl s50 rfl rfl ⟨rfl, by decide, rfl⟩ rfl rfl
  have s56 : Sg (ad 56) = some 56 := hz.lb_ (L := 50) (k := 22) (L2 := 56) hH a rfl s50 rfl rfl ⟨rfl, by decide, rfl⟩ rfl rfl
  have s57 : Sg (ad 57) = some 57 := hz.lb_ (L := 50) (k := 23) (L2 := 57) hH a rfl s50 rfl rfl ⟨rfl, by decide, rfl⟩ rfl rfl
  have s58 : Sg (ad 58) = some 58 := hz.lb_ (L := 50) (k := 24) (L2 := 58) hH a rfl s50 rfl rfl ⟨rfl, by decide, rfl⟩ rfl rfl
  have s59 : Sg (ad 59) = some 59 := hz.lb_ (L := 50) (k := 25) (L2 := 59) hH a rfl s50 rfl rfl ⟨rfl, by decide, rfl⟩ rfl rfl
  have s60 : Sg (ad 60) = some 60 := hz.lb_ (L := 50) (k := 26) (L2 := 60) hH a rfl s50 rfl rfl ⟨rfl, by decide, rfl⟩ rfl rfl
  have s61 : Sg (ad 61) = some 61 := hz.lb_ (L := 50) (k := 27) (L2 := 61) hH a rfl s50 rfl rfl ⟨rfl, by decide, rfl⟩ rfl rfl
  have s62 : Sg (ad 62) = some 62 := hz.lb_ (L := 50) (k := 28) (L2 := 62) hH a rfl s50 rfl rfl ⟨rfl, by decide, rfl⟩ rfl rfl
  have s63 : Sg (ad 63) = some 63 := hz.lb_ (L := 50) (k := 29) (L2 := 63) hH a rfl s50 rfl rfl ⟨rfl, by decide, rfl⟩ rfl rfl
  have s64 : Sg (ad 64) = some 64 := hz.lb_ (L := 50) (k := 30) (L2 := 64) hH a rfl s50 rfl rfl ⟨rfl, by decide, rfl⟩ rfl rfl
  have s65 : Sg (ad 65) = some 65 := hz.lb_ (L := 50) (k := 31) (L2 := 65) hH a rfl s50 rfl rfl ⟨rfl, by decide, rfl⟩ rfl rfl
  have s66 : Sg (ad 66) = some 66 := hz.lb_ (L := 50) (k := 40) (L2 := 66) hH a rfl s50 rfl rfl ⟨rfl, by decide, rfl⟩ rfl rfl
  have s67 : Sg (ad 67) = some 67 := hz.lb_ (L := 50) (k := 41) (L2 := 67) hH a rfl s50 rfl rfl ⟨rfl, by decide, rfl⟩ rfl rfl
  have s68 : Sg (ad 68) = some 68 := hz.lb_ (L := 50) (k := 46) (L2 := 68) hH a rfl s50 rfl rfl ⟨rfl, by decide, rfl⟩ rfl rfl
  have hall : ∀ L, L ∈ [50, 51, 52, 53, 54, 55, 56, 57, 58, 59, 60, 61, 62, 63, 64, 65, 66, 67, 68] → Sg (ad L) = some (if L = 50 then 50 else if L = 55 then 55 else L) := by
    intro L hL
    simp only [List.mem_cons, List.not_mem_nil, or_false] at hL
    rcases hL with e | e | e | e | e | e | e | e | e | e | e | e | e | e | e | e | e | e | e
    · subst e; exact s50
    · subst e; exact s51
    · subst e; exact s52
    · subst e; exact s53
    · subst e; exact s54
    · subst e; exact s55
    · subst e; exact s56
    · subst e; exact s57
    · subst e; exact s58
    · subst e; exact s59
    · subst e; exact s60
    · subst e; exact s61
    · subst e; exact s62
    · subst e; exact s63
    · subst e; exact s64
    · subst e; exact s65
    · subst e; exact s66
    · subst e; exact s67
    · subst e; exact s68
  intro L hL
  refine hall L ?_
  unfold zNM at hL
  simp only [Bool.and_eq_true, decide_eq_true_eq] at hL
  have hd : ∀ q, q < 69 → 50 ≤ q → q ∈ [50, 51, 52, 53, 54, 55, 56, 57, 58, 59, 60, 61, 62, 63, 64, 65, 66, 67, 68] := by decide
  exact hd L (by omega) (by omega)
theorem zM_lab7 (hz : zr zNM cA ad I W O g2) (hH : k_H Sg cA Lb g) (a : ag g g2) (sx : Sg (ad 50) = some 70) : ∀ L, zNM L = true → Sg (ad L) = some (if L = 50 then 70 else if L = 55 then 69 else L) := by
  have s50 := sx
  have s51 : Sg (ad 51) = some 51 := hz.lb_ (L := 50) (k := 1) (L2 := 51) hH a rfl s50 rfl rfl ⟨rfl, by decide, rfl⟩ rfl rfl
  have s52 : Sg (ad 52) = some 52 := hz.lb_ (L := 50) (k := 2) (L2 := 52) hH a rfl s50 rfl rfl ⟨rfl, by decide, rfl⟩ rfl rfl
  have s53 : Sg (ad 53) = some 53 := hz.lb_ (L := 50) (k := 3) (L2 := 53) hH a rfl s50 rfl rfl ⟨rfl, by decide, rfl⟩ rfl rfl
  have s54 : Sg (ad 54) = some 54 := hz.lb_ (L := 50) (k := 4) (L2 := 54) hH a rfl s50 rfl rfl ⟨rfl, by decide, rfl⟩ rfl rfl
  have s55 : Sg (ad 55) = some 69 := hz.lb_ (L := 50) (k := 19) (L2 := 55) hH a rfl s50 rfl rfl ⟨rfl, by decide, rfl⟩ rfl rfl
  have s56 : Sg (ad 56) = some 56 := hz.lb_ (L := 50) (k := 22) (L2 := 56) hH a rfl s50 rfl rfl ⟨rfl, by decide, rfl⟩ rfl rfl
  have s57 : Sg (ad 57) = some 57 := hz.lb_ (L := 50) (k := 23) (L2 := 57) hH a rfl s50 rfl rfl ⟨rfl, by decide, rfl⟩ rfl rfl
  have s58 : Sg (ad 58) = some 58 := hz.lb_ (L := 50) (k := 24) (L2 := 58) hH a rfl s50 rfl rfl ⟨rfl, by decide, rfl⟩ rfl rfl
  have s59 : Sg (ad 59) = some 59 := hz.lb_ (L := 50) (k := 25) (L2 := 59) hH a rfl s50 rfl rfl ⟨rfl, by decide, rfl⟩ rfl rfl
  have s60 : Sg (ad 60) = some 60 := hz.lb_ (L := 50) (k := 26) (L2 := 60) hH a rfl s50 rfl rfl ⟨rfl, by decide, rfl⟩ rfl rfl
  have s61 : Sg (ad 61) = some 61 := hz.lb_ (L := 50) (k := 27) (L2 := 61) hH a rfl s50 rfl rfl ⟨rfl, by decide, rfl⟩ rfl rfl
  have s62 : Sg (ad 62) = some 62 := hz.lb_ (L := 50) (k := 28) (L2 := 62) hH a rfl s50 rfl rfl ⟨rfl, by decide, rfl⟩ rfl rfl
  have s63 : Sg (ad 63) = some 63 := hz.lb_ (L := 50) (k := 29) (L2 := 63) hH a rfl s50 rfl rfl ⟨rfl, by decide, rfl⟩ rfl rfl
  have s64 : Sg (ad 64) = some 64 := hz.lb_ (L := 50) (k := 30) (L2 := 64) hH a rfl s50 rfl rfl ⟨rfl, by decide, rfl⟩ rfl rfl
  have s65 : Sg (ad 65) = some 65 := hz.lb_ (L := 50) (k := 31) (L2 := 65) hH a rfl s50 rfl rfl ⟨rfl, by decide, rfl⟩ rfl rfl
  have s66 : Sg (ad 66) = some 66 := hz.lb_ (L := 50) (k := 40) (L2 := 66) hH a rfl s50 rfl rfl ⟨rfl, by decide, rfl⟩ rfl rfl
  have s67 : Sg (ad 67) = some 67 := hz.lb_ (L := 50) (k := 41) (L2 := 67) hH a rfl s50 rfl rfl ⟨rfl, by decide, rfl⟩ rfl rfl
  have s68 : Sg (ad 68) = some 68 := hz.lb_ (L := 50) (k := 46) (L2 := 68) hH a rfl s50 rfl rfl ⟨rfl, by decide, rfl⟩ rfl rfl
  have hall : ∀ L, L ∈ [50, 51, 52, 53, 54, 55, 56, 57, 58, 59, 60, 61, 62, 63, 64, 65, 66, 67, 68] → Sg (ad L) = some (if L = 50 then 70 else if L = 55 then 69 else L) := by
    intro L hL
    simp only [List.mem_cons, List.not_mem_nil, or_false] at hL
    rcases hL with e | e | e | e | e | e | e | e | e | e | e | e | e | e | e | e | e | e | e
    · subst e; exact s50
    · subst e; exact s51
    · subst e; exact s52
    · subst e; exact s53
    · subst e; exact s54
    · subst e; exact s55
    · subst e; exact s56
    · subst e; exact s57
    · subst e; exact s58
    · subst e; exact s59
    · subst e; exact s60
    · subst e; exact s61
    · subst e; exact s62
    · subst e; exact s63
    · subst e; exact s64
    · subst e; exact s65
    · subst e; exact s66
    · subst e; exact s67
    · subst e; exact s68
  intro L hL
  refine hall L ?_
  unfold zNM at hL
  simp only [Bool.and_eq_true, decide_eq_true_eq] at hL
  have hd : ∀ q, q < 69 → 50 ≤ q → q ∈ [50, 51, 52, 53, 54, 55, 56, 57, 58, 59, 60, 61, 62, 63, 64, 65, 66, 67, 68] := by decide
  exact hd L (by omega) (by omega)
def lbR (s l5 L : Nat) : Nat := if L = 50 then s else if L = 55 then l5 else L
/-- a store in a heap alike -/
theorem zr.ag_ {lb : Nat → Nat} (hz : zr N cA ad I W O g2) (hH : k_H Sg cA Lb g) (a : ag g g2) (ai : agI g g2) (hs : ∀ L, N L = true → Sg (ad L) = some (lb L)) (hsh : ∀ L, N L = true → ((zZ L).1 = 0 ∧ (Lb (lb L)).1 = 0 ∨ (zZ L).1 = 1 ∧ (Lb (lb L)).1 = 1) ∧ (Lb (lb L)).2.1 = (zZ L).2.1 ∧ (Lb (lb L)).2.2.1 = (zZ L).2.2.1 ∧ ((zZ L).1 = 0 → (zZ L).2.2.2.length = (zZ L).2.2.1 ∧ (zZ L).2.1 < 11 ∧ ch_N (zZ L).2.1 = (zZ L).2.2.1)) : ∃ I1 : zI, zr N cA ad I1 W O g ∧ (∀ L, N L = true → (zZ L).1 = 0 → I1 L = I L) ∧ ∀ L, N L = true → ∀ k, k < siz L → I1 L k = I L k := by
  have hc : ∀ L, ∃ f : Nat → Int32, N L = true → g (ad L) = some (z_e ad cA f (W L) (O L) (zZ L)) ∧ ((zZ L).1 = 0 → f = I L) ∧ ∀ k, k < siz L → f k = I L k := fun L => by
    by_cases hL : N L = true
    · obtain ⟨q1, q2, q3, q4⟩ := hsh L hL
      rcases q1 with ⟨q5, q6⟩ | ⟨q5, q6⟩
      · obtain ⟨q7, q8, q9⟩ := q4 q5
        refine ⟨I L, fun _ => ⟨?_, fun _ => rfl, fun _ _ => rfl⟩⟩
        have eZ : zZ L = (0, (zZ L).2.1, (zZ L).2.2.1, (zZ L).2.2.2) := by
          rw [← q5]
        have eB : Lb (lb L) = (0, (zZ L).2.1, (zZ L).2.2.1, (Lb (lb L)).2.2.2) := by
          rw [← q6, ← q2, ← q3]
        have c := hz.agO hH a hL (hs L hL) eZ eB ⟨q7, q8, q9⟩
        rw [c, eZ]
        rfl
      · obtain ⟨e9, z1, z2⟩ := hH (ad L) (lb L) (hs L hL)
        obtain ⟨f, rfl, -⟩ := k_cell1 q6 z2
        have c2 : g2 (ad L) = some (.inl (cA (zZ L).2.1, (zZ L).2.2.1, .inl (I L))) := by
          rw [hz.1 L hL]
          unfold z_e
          rw [q5]
          rfl
        refine ⟨f, fun _ => ⟨?_, fun z => ?_, fun k hk => ?_⟩⟩
        · rw [z1, q2, q3]
          unfold z_e
          rw [q5]
          rfl
        · rw [z] at q5
          cases q5
        · rw [q2, q3] at z1
          exact (ai _ _ _ _ _ _ _ z1 c2).2 k hk
    · exact ⟨I L, fun z => absurd z hL⟩
  refine ⟨fun L => Classical.choose (hc L), ⟨fun L hL => (Classical.choose_spec (hc L) hL).1, hz.2⟩, fun L hL h0 => (Classical.choose_spec (hc L) hL).2.1 h0, fun L hL => (Classical.choose_spec (hc L) hL).2.2⟩
theorem zC_sh : ∀ L, zNC L = true → ((zZ L).1 = 0 ∧ (Lb (lbC L)).1 = 0 ∨ (zZ L).1 = 1 ∧ (Lb (lbC L)).1 = 1) ∧ (Lb (lbC L)).2.1 = (zZ L).2.1 ∧ (Lb (lbC L)).2.2.1 = (zZ L).2.2.1 ∧ ((zZ L).1 = 0 → (zZ L).2.2.2.length = (zZ L).2.2.1 ∧ (zZ L).2.1 < 11 ∧ ch_N (zZ L).2.1 = (zZ L).2.2.1) := by
  have hd : ∀ q, q < 160 → zNC q = true → ((zZ q).1 = 0 ∧ (Lb (lbC q)).1 = 0 ∨ (zZ q).1 = 1 ∧ (Lb (lbC q)).1 = 1) ∧ (Lb (lbC q)).2.1 = (zZ q).2.1 ∧ (Lb (lbC q)).2.2.1 = (zZ q).2.2.1 ∧ ((zZ q).1 = 0 → (zZ q).2.2.2.length = (zZ q).2.2.1 ∧ (zZ q).2.1 < 11 ∧ ch_N (zZ q).2.1 = (zZ q).2.2.1) := by decide +kernel
  intro L hL
  refine hd L ?_ hL
  unfold zNC at hL
  simp only [Bool.or_eq_true, Bool.and_eq_true, decide_eq_true_eq, bne_iff_ne] at hL
  omega
theorem zM_sh (s l5 : Nat) (h : s = 50 ∧ l5 = 55 ∨ s = 70 ∧ l5 = 69) : ∀ L, zNM L = true → ((zZ L).1 = 0 ∧ (Lb (lbR s l5 L)).1 = 0 ∨ (zZ L).1 = 1 ∧ (Lb (lbR s l5 L)).1 = 1) ∧ (Lb (lbR s l5 L)).2.1 = (zZ L).2.1 ∧ (Lb (lbR s l5 L)).2.2.1 = (zZ L).2.2.1 ∧ ((zZ L).1 = 0 → (zZ L).2.2.2.length = (zZ L).2.2.1 ∧ (zZ L).2.1 < 11 ∧ ch_N (zZ L).2.1 = (zZ L).2.2.1) := by
  intro L hL
  have h9 : L < 69 := by
    unfold zNM at hL
    simp only [Bool.and_eq_true, decide_eq_true_eq] at hL
    omega
  rcases h with ⟨rfl, rfl⟩ | ⟨rfl, rfl⟩
  · have hd : ∀ q, q < 69 → zNM q = true → ((zZ q).1 = 0 ∧ (Lb (lbR 50 55 q)).1 = 0 ∨ (zZ q).1 = 1 ∧ (Lb (lbR 50 55 q)).1 = 1) ∧ (Lb (lbR 50 55 q)).2.1 = (zZ q).2.1 ∧ (Lb (lbR 50 55 q)).2.2.1 = (zZ q).2.2.1 ∧ ((zZ q).1 = 0 → (zZ q).2.2.2.length = (zZ q).2.2.1 ∧ (zZ q).2.1 < 11 ∧ ch_N (zZ q).2.1 = (zZ q).2.2.1) := by decide +kernel
    exact hd L h9 hL
  · have hd : ∀ q, q < 69 → zNM q = true → ((zZ q).1 = 0 ∧ (Lb (lbR 70 69 q)).1 = 0 ∨ (zZ q).1 = 1 ∧ (Lb (lbR 70 69 q)).1 = 1) ∧ (Lb (lbR 70 69 q)).2.1 = (zZ q).2.1 ∧ (Lb (lbR 70 69 q)).2.2.1 = (zZ q).2.2.1 ∧ ((zZ q).1 = 0 → (zZ q).2.2.2.length = (zZ q).2.2.1 ∧ (zZ q).2.1 < 11 ∧ ch_N (zZ q).2.1 = (zZ q).2.2.1) := by decide +kernel
    exact hd L h9 hL
theorem zM_lab (hz : zr zNM cA ad I W O g2) (hH : k_H Sg cA Lb g) (a : ag g g2) (sm : sgM0 Sg (ad 50)) : ∃ s l5 : Nat, (s = 50 ∧ l5 = 55 ∨ s = 70 ∧ l5 = 69) ∧ ∀ L, zNM L = true → Sg (ad L) = some (lbR s l5 L) := by
  rcases sm with s | s
  · exact ⟨50, 55, Or.inl ⟨rfl, rfl⟩, zM_lab0 hz hH a s⟩
  · exact ⟨70, 69, Or.inr ⟨rfl, rfl⟩, zM_lab7 hz hH a s⟩
/-- alike within bounds, the same is shown -/
def bE (N : Nat → Bool) (I1 I : zI) : Prop := ∀ L, N L = true → ∀ k, k < siz L → I1 L k = I L k
theorem sx.bE {j n pe : Nat} {T : Nat → Int32} {d : Int64} (hj : j < 10) (H : sx I W j n pe T d) (b : bE zNC I1 I) (n6 : n ≤ 6) (p8 : pe ≤ 8) : sx I1 W j n pe T d := by
  obtain ⟨h1, h2, h3, h4, h5, h6⟩ := H
  have z : ∀ k c : Nat, k < 6 → ∀ q, q < siz (100 + 6 * j + k) → I1 (100 + 6 * j + k) q = I (100 + 6 * j + k) q := fun k c hk q hq => b _ (zNC_s hj hk) q hq
  have w1 : siz (100 + 6 * j + 1) = 6 := by unfold siz; rw [zZ_s1]
  have w2 : siz (100 + 6 * j + 2) = 6 := by unfold siz; rw [zZ_s2]
  have w3 : siz (100 + 6 * j + 3) = 6 := by unfold siz; rw [zZ_s3]
  have w4 : siz (100 + 6 * j + 4) = 12 := by unfold siz; rw [zZ_s4]
  have w5 : siz (100 + 6 * j + 5) = 8 := by unfold siz; rw [zZ_s5]
  have w0 : siz (100 + 6 * j + 0) = 7 := by unfold siz; rw [Nat.add_zero, zZ_s]
  refine ⟨fun q hq => ?_, fun q hq => ?_, fun i hi => ?_, ?_, h5, fun q hq => ?_⟩
  · rw [z 1 0 (by decide) q (by omega), z 2 0 (by decide) q (by omega), z 3 0 (by decide) q (by omega)]
    exact h1 q hq
  · rw [z 4 0 (by decide) q (by omega)]
    exact h2 q hq
  · rw [z 5 0 (by decide) i (by omega)]
    exact h3 i hi
  · have := z 0 0 (by decide) 5 (by omega)
    rw [Nat.add_zero] at this
    rw [this]
    exact h4
  · rw [z 3 0 (by decide) q (by omega)]
    exact h6 q hq
theorem cS.bE (hk : kok τ φ) (H : cS τ φ I W) (b : bE zNC I1 I) : cS τ φ I1 W := by
  obtain ⟨h1, h2, h3, h4, h5, h6, h7, h8, h9, h10, h11⟩ := H
  obtain ⟨ga6, pe8, ta6⟩ := hk.2.2.2.1
  have n6 := hk.1.1
  refine ⟨⟨?_, h1.2.1, fun q hq => ?_⟩, ?_, h3.bE (by decide) b n6 pe8, fun g hg => ?_, fun a c ha hc => ?_, fun i hi => ?_, fun i hi => ?_, fun r hr => ?_, ?_, fun z => ?_, ?_⟩
  · rw [b 2 rfl 0 (by decide)]
    exact h1.1
  · rw [b 11 rfl q (show q < 6 by omega), b 12 rfl q (show q < 6 by omega), b 13 rfl q (show q < 6 by omega), b 14 rfl (2 * q) (show 2 * q < 12 by omega), b 14 rfl (2 * q + 1) (show 2 * q + 1 < 12 by omega), b 15 rfl q (show q < 6 by omega), b 16 rfl q (show q < 6 by omega), b 17 rfl q (show q < 6 by omega), b 18 rfl q (show q < 6 by omega)]
    exact h1.2.2 q hq
  · rw [b 3 rfl 0 (by decide), b 3 rfl 3 (by decide), b 3 rfl 5 (by decide)]
    exact h2
  · rw [b 20 rfl g (show g < 6 by omega)]
    exact h4 g hg
  · rw [b 21 rfl a ha]
    exact h5 a c ha hc
  · rw [b 22 rfl i (show i < 8 by omega)]
    exact h6 i hi
  · rw [b 23 rfl i (show i < 6 by omega), b 24 rfl i (show i < 6 by omega)]
    exact h7 i hi
  · rw [b 5 rfl r hr, b 6 rfl r hr]
    exact h8 r hr
  · rw [b 0 rfl 6 (by decide)]
    exact h9
  · rw [b 0 rfl 7 (by decide)]
    have hi : (φ.1 50 35).toInt ≤ (τ.2.2.1 : Int) := by
      rcases hk.2.2.2.2.2.1 with z2 | z2
      · omega
      · exact z2.2.2.1
    exact ⟨(h10 z).1, (h10 z).2.bE (by decide) b n6 (by omega)⟩
  · rw [b 0 rfl 14 (by decide)]
    exact h11
theorem tx.bE {L n pe : Nat} {T : Nat → Int32} (H : tx I L n pe T) (b : ∀ k, k < 39 → I1 L k = I L k) (n6 : n ≤ 6) (p8 : pe ≤ 8) : tx I1 L n pe T := by
  obtain ⟨h1, h2, h3, h4⟩ := H
  refine ⟨fun q hq => ?_, fun q hq => ?_, fun i hi => ?_, ?_⟩
  · rw [b q (by omega), b (6 + q) (by omega), b (12 + q) (by omega)]
    exact h1 q hq
  · rw [b (18 + q) (by omega)]
    exact h2 q hq
  · rw [b (30 + i) (by omega)]
    exact h3 i hi
  · rw [b 38 (by omega)]
    exact h4
theorem rS.bE (hk : kok τ φ) (H : rS τ φ I W) (b : bE zNM I1 I) : rS τ φ I1 W := by
  obtain ⟨h1, h2, h3, h4, h5, h6, h7, h8, h9, h10, h11⟩ := H
  obtain ⟨ga6, pe8, ta6⟩ := hk.2.2.2.1
  have n6 := hk.1.1
  refine ⟨⟨?_, h1.2.1, fun q hq w hw => ?_⟩, ?_, ⟨h3.1.bE (fun k hk9 => b 56 rfl k hk9) n6 pe8, h3.2⟩, fun g hg => ?_, fun a c ha hc => ?_, fun i hi => ?_, fun i hi => ?_, fun r hr => ?_, ?_, fun z => ?_, ?_⟩
  · rw [b 50 rfl 20 (by decide)]
    exact h1.1
  · rw [b 55 rfl _ (show 9 * q + w < 108 by omega)]
    exact h1.2.2 q hq w hw
  · rw [b 50 rfl 32 (by decide), b 50 rfl 33 (by decide), b 50 rfl 34 (by decide)]
    exact h2
  · rw [b 59 rfl _ (show 12 + g < 18 by omega)]
    exact h4 g hg
  · rw [b 65 rfl _ (show 18 * a + c < 324 by omega)]
    exact h5 a c ha hc
  · rw [b 62 rfl i (show i < 8 by omega)]
    exact h6 i hi
  · rw [b 63 rfl i (show i < 6 by omega), b 64 rfl i (show i < 6 by omega)]
    exact h7 i hi
  · rw [b 60 rfl r hr, b 61 rfl r hr]
    exact h8 r hr
  · rw [b 50 rfl 39 (by decide)]
    exact h9
  · rw [b 50 rfl 35 (by decide)]
    have hi : (φ.1 50 35).toInt ≤ (τ.2.2.1 : Int) := by
      rcases hk.2.2.2.2.2.1 with z2 | z2
      · omega
      · exact z2.2.2.1
    exact ⟨(h10 z).1, (h10 z).2.1.bE (fun k hk9 => b 58 rfl k hk9) n6 (by omega), (h10 z).2.2⟩
  · rw [b 50 rfl 7 (by decide)]
    exact h11
theorem FC_ag : agF cA (FC cA) x := fun Sg g g2 τ φ hH sx a ai ar H => by
  obtain ⟨hk, ad, I, W, O, hz, rfl, hS, hA⟩ := H
  have hl := zC_lab hz hA hH a ar sx
  obtain ⟨I1, z1, -, z2⟩ := hz.ag_ hH a ai (fun L hL => hl L (Or.inl hL)) zC_sh
  refine ⟨hk, ad, I1, W, O, z1, rfl, hS.bE hk z2, ?_⟩
  obtain ⟨⟨F1, c1, e1⟩, F2, c2, e2⟩ := hA
  refine ⟨?_, ?_⟩
  · obtain ⟨e9, y1, y2⟩ := hH (ad 32) 42 (hl 32 (Or.inr (Or.inl rfl)))
    obtain ⟨F, rfl, -⟩ := k_cell2 (I := Lb 42) rfl y2
    have y1 : g (ad 32) = some (.inl (cA 5, 6, .inr (.inr (.inr (.inr F))))) := y1
    exact ⟨F, y1, fun i hi => ((ar (ad 32) _ _ _ _ _ _ y1 c1).2 i hi).trans (e1 i hi)⟩
  · obtain ⟨e9, y1, y2⟩ := hH (ad 49) 45 (hl 49 (Or.inr (Or.inr rfl)))
    obtain ⟨F, rfl, -⟩ := k_cell2 (I := Lb 45) rfl y2
    have y1 : g (ad 49) = some (.inl (cA 3, 7, .inr (.inr (.inr (.inr F))))) := y1
    exact ⟨F, y1, fun i hi => ((ar (ad 49) _ _ _ _ _ _ y1 c2).2 i hi).trans (e2 i hi)⟩
theorem FR_ag : agT cA (FR cA) m := fun Sg g g2 τ φ hH sm a ai ar H => by
  obtain ⟨hk, ad, I, W, O, hz, rfl, hS⟩ := H
  obtain ⟨s, l5, h9, hl⟩ := zM_lab hz hH a sm
  obtain ⟨I1, z1, -, z2⟩ := hz.ag_ hH a ai hl (zM_sh s l5 h9)
  exact ⟨hk, ad, I1, W, O, z1, rfl, hS.bE hk z2⟩
end
