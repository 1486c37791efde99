/-! keep, the reference: a RULE's text gone through, over a store -/
section
variable {l : Launch} {D : va_G} {tys : List (ClassId × FieldType)} {A : Nat → Prop} {X : State → Prop} {fr lo : Nat} {Q : Option Value → ch_H → Prop} {cA : Nat → ClassId} {h : ch_H} {ad : Nat → Nat} {I : zI} {W : zW} {O : zO} {aK aV : Nat → Nat}
theorem y_rule (hT : k_tys tys cA) (hX : ∀ s, X s → xs A aK aV s) (hz : zr zNM cA ad I W O h) {bg : Int32} {i : Nat} {w : (Nat → Int) → Int} {LI : Nat → Int} (hr : rT (I 52) i (I 53 i) w) (hi : i < 4) (hbg : bg.toInt = 160 * (i : Int)) (hgl : ∀ c : Int, sp_let c → I 54 c.toNat = Int32.ofInt (LI (vL c))) (hL : ∀ k, -1000000 ≤ LI k ∧ LI k ≤ 1000000) (hf : 32 ≤ fr) (hlo : 830 ≤ lo) (hq : ∀ (g : ch_H) (I1 : zI) (O1 : zO), zr zNM cA ad I1 W O1 g → (∀ L, L ≠ 50 → I1 L = I L) → (∀ k, ¬ (8 ≤ k ∧ k ≤ 14) → k ≠ 18 → I1 50 k = I 50 k) → (I1 50 14).toInt = w LI → (∀ q, q ≠ ad 50 → g q = h q) → Q none g) : ww l D tys A X fr lo mX11_goThrough Q 0 [(0, .ref (ad 50)), (1, .ref (ad 52)), (2, .int bg), (3, .int (I 53 i))] [] h := by
  obtain ⟨⟨l0, l1⟩, f, hs, hnz, hv⟩ := hr
  obtain ⟨q, o, hV, ho⟩ := hv LI
  have c_m := hz.ob (L := 50) (ts := (zZ 50).2.2.2) rfl rfl
  refine r_goThroughV (L := fun k => Int32.ofInt (LI k)) hT hX hgl (fun k => by rw [fb_ofI (by have := hL k; omega) (by have := hL k; omega)]; exact hL k) hnz hf hlo hV c_m (by rw [z_fs_len]; rfl) (z_fsR (k := 4) (L1 := 54) rfl rfl rfl) (hz.ne rfl rfl (by decide)) (hz.ar (L := 54) (f := I 54) rfl rfl rfl) (hz.ne (L := 52) (L1 := 50) rfl rfl (by decide)) (hz.ar (L := 52) (f := I 52) rfl rfl rfl) (by rw [show bg.toInt.toNat = 160 * i by omega]; exact hs) ⟨by omega, by omega, l0, l1, by omega⟩ (fun h1 fs1 at1 fl1 dp1 p1 _ _ hj o9 => ?_)
  obtain ⟨⟨⟨⟨c1, k1, e5, e8, e9, e10, e11⟩, e12, -⟩, -⟩, ⟨lb, e13, -⟩, hf9, fo, e14, e18, cgx⟩ := p1
  have z0 : ∀ k : Nat, (zZ 50).2.2.2[k]? = some (0, 0, 0) → (z_fs ad (I 50) (W 50) (O 50) 0 (zZ 50).2.2.2)[k]? = some (.int (I 50 k)) := fun k hk => z_fsI hk rfl
  have zk : ∀ k : Nat, k < 47 → sF k = true → (zZ 50).2.2.2[k]? = some (0, 0, 0) := by decide +kernel
  have sk : ∀ k, sF k = true → k = 0 ∨ 6 ≤ k ∧ k ≤ 14 ∨ k = 18 ∨ k = 20 ∨ k = 21 := fun k hk => by
    unfold sF at hk
    simp only [Bool.or_eq_true, Bool.and_eq_true, beq_iff_eq, decide_eq_true_eq] at hk
    omega
  have old : ∀ k, sF k = true → ¬ (8 ≤ k ∧ k ≤ 14) → k ≠ 18 → fs1[k]? = some (.int (I 50 k)) := fun k hk n1 n2 => by
    have := sk k hk
    rw [hj k (by omega)]
    exact z0 k (zk k (by omega) hk)
  obtain ⟨O1, z1⟩ := hz.mR_ (g51 := I 51) (g52 := I 52) (g53 := I 53) (R1 := I 55) c1 k1 (fun k hk => by
    by_cases c8 : 8 ≤ k ∧ k ≤ 14
    · have : k = 8 ∨ k = 9 ∨ k = 10 ∨ k = 11 ∨ k = 12 ∨ k = 13 ∨ k = 14 := by omega
      rcases this with e | e | e | e | e | e | e <;> subst e
      · exact ⟨_, e8⟩
      · exact ⟨_, e9⟩
      · exact ⟨_, e10⟩
      · exact ⟨_, e11⟩
      · exact ⟨_, e12⟩
      · exact ⟨_, e13⟩
      · exact ⟨_, e14⟩
    · by_cases c18 : k = 18
      · subst c18
        exact ⟨_, e18⟩
      · exact ⟨_, old k hk c8 c18⟩) ⟨_, e5⟩ (fun j hj9 j5 => hj j (by
        have nn : ¬ (j = 0 ∨ 6 ≤ j ∧ j ≤ 14 ∨ j = 18 ∨ j = 20 ∨ j = 21) := fun z => hj9 (by
          unfold sF
          simp only [Bool.or_eq_true, Bool.and_eq_true, beq_iff_eq, decide_eq_true_eq]
          omega)
        omega)) ((o9 _ (hz.ne rfl rfl (by decide))).trans (hz.ar (L := 51) (f := I 51) rfl rfl rfl)) ((o9 _ (hz.ne rfl rfl (by decide))).trans (hz.ar (L := 52) (f := I 52) rfl rfl rfl)) ((o9 _ (hz.ne rfl rfl (by decide))).trans (hz.ar (L := 53) (f := I 53) rfl rfl rfl)) ((o9 _ (hz.ne rfl rfl (by decide))).trans (hz.ar (L := 55) (f := I 55) rfl rfl rfl)) (fun L hL n => o9 _ (hz.ne hL rfl (by omega)))
  refine hq h1 _ O1 z1 (fun L n50 => ?_) (fun k n8 n18 => ?_) ?_ o9
  · by_cases c : ¬ (50 ≤ L ∧ L ≤ 53) ∧ L ≠ 55
    · exact mR_n c
    · have : L = 51 ∨ L = 52 ∨ L = 53 ∨ L = 55 := by omega
      rcases this with e | e | e | e <;> subst e <;> rfl
  · show nF fs1 (I 50) k = I 50 k
    by_cases c : sF k = true
    · exact nF_i c (old k c n8 n18)
    · exact nF_n c
  · show (nF fs1 (I 50) 14).toInt = w LI
    rw [nF_i rfl e14, cgx.get]
    exact ho
end
