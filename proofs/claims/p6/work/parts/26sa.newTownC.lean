/-! the class: a TOWN told; plan and draft change places -/
def sw9 (L : Nat) : Nat := if L = 2 then 33 else if L = 33 then 2 else if 11 ≤ L ∧ L ≤ 18 then L + 23 else if 34 ≤ L ∧ L ≤ 41 then L - 23 else L
theorem sw9_a {L : Nat} (h : 11 ≤ L ∧ L ≤ 18) : sw9 L = L + 23 := by
  unfold sw9
  rw [if_neg (by omega), if_neg (by omega), if_pos h]
theorem sw9_b {L : Nat} (h : 34 ≤ L ∧ L ≤ 41) : sw9 L = L - 23 := by
  unfold sw9
  rw [if_neg (by omega), if_neg (by omega), if_neg (by omega), if_pos h]
theorem sw9_n {L : Nat} (h : ¬ (L = 2 ∨ L = 33 ∨ 11 ≤ L ∧ L ≤ 18 ∨ 34 ≤ L ∧ L ≤ 41)) : sw9 L = L := by
  unfold sw9
  rw [if_neg (by omega), if_neg (by omega), if_neg (by omega), if_neg (by omega)]
theorem sw9_sw (L : Nat) : sw9 (sw9 L) = L := by
  by_cases e1 : L = 2
  · subst e1; rfl
  by_cases e2 : L = 33
  · subst e2; rfl
  by_cases e3 : 11 ≤ L ∧ L ≤ 18
  · rw [sw9_a e3, sw9_b (by omega)]; omega
  by_cases e4 : 34 ≤ L ∧ L ≤ 41
  · rw [sw9_b e4, sw9_a (by omega)]; omega
  · rw [sw9_n (L := L) (by omega), sw9_n (by omega)]
theorem sw9_i {L L1 : Nat} (h : sw9 L = sw9 L1) : L = L1 := by rw [← sw9_sw L, h, sw9_sw]
theorem zNC_lt {L : Nat} (h : zNC L = true) : L < 160 := by
  unfold zNC at h
  simp only [Bool.or_eq_true, Bool.and_eq_true, decide_eq_true_eq] at h
  omega
theorem sw9_N {L : Nat} (h : zNC L = true) : zNC (sw9 L) = true := by
  have hd : ∀ q, q < 160 → zNC q = true → zNC (sw9 q) = true := by decide +kernel
  exact hd L (zNC_lt h) h
def swk : List k_T → List k_T → Bool
  | [], [] => true
  | t :: ts, t2 :: ts2 => t.1 == t2.1 && (!(t.1 == 2) || t.2.1.toNat == sw9 t2.2.1.toNat) && swk ts ts2
  | _, _ => false
section
variable {ad : Nat → Nat} {cA : Nat → ClassId} {I I1 : zI} {W W1 : zW} {O O1 : zO} {h h1 : ch_H} {f : Nat → Int32} {w : Nat → Int64} {o : Nat → Value}
theorem z_v_sw {k : Nat} {t t2 : k_T} (e1 : t.1 = t2.1) (e2 : t.1 = 2 → t.2.1.toNat = sw9 t2.2.1.toNat) : z_v (fun q => ad (sw9 q)) f w o k t2 = z_v ad f w o k t := by
  obtain ⟨a, b, c⟩ := t
  obtain ⟨a2, b2, c2⟩ := t2
  have e1 : a = a2 := e1
  subst e1
  match a, e2 with
  | 0, _ => rfl
  | 1, _ => rfl
  | 2, e2 =>
    have e2 : b.toNat = sw9 b2.toNat := e2 rfl
    show Value.ref (ad (sw9 b2.toNat)) = .ref (ad b.toNat)
    rw [e2]
  | _ + 3, _ => rfl
theorem z_fs_sw : ∀ (ts ts2 : List k_T) (b : Nat), swk ts ts2 = true → z_fs (fun q => ad (sw9 q)) f w o b ts2 = z_fs ad f w o b ts
  | [], [], _, _ => rfl
  | [], _ :: _, _, h => by cases h
  | _ :: _, [], _, h => by cases h
  | t :: ts, t2 :: ts2, b, h => by
    have h : (t.1 == t2.1 && (!(t.1 == 2) || t.2.1.toNat == sw9 t2.2.1.toNat) && swk ts ts2) = true := h
    simp only [Bool.and_eq_true, Bool.or_eq_true, Bool.not_eq_true', beq_iff_eq, beq_eq_false_iff_ne] at h
    obtain ⟨⟨h1, h2⟩, h3⟩ := h
    show z_v (fun q => ad (sw9 q)) f w o b t2 :: z_fs (fun q => ad (sw9 q)) f w o (b + 1) ts2 = z_v ad f w o b t :: z_fs ad f w o (b + 1) ts
    rw [z_fs_sw ts ts2 (b + 1) h3, z_v_sw h1 (fun e => h2.elim (fun z => absurd e z) id)]
theorem z_e_of {J J2 : k_I} (e0 : J2.1 = 0 ∨ J2.1 = 1) (e1 : J2.1 = J.1) (e2 : J2.2.1 = J.2.1) (e3 : J2.2.2.1 = J.2.2.1) (e4 : swk J2.2.2.2 J.2.2.2 = true) : z_e (fun q => ad (sw9 q)) cA f w o J = z_e ad cA f w o J2 := by
  obtain ⟨a, b, c, ts⟩ := J
  obtain ⟨a2, b2, c2, ts2⟩ := J2
  have e1 : a2 = a := e1
  have e2 : b2 = b := e2
  have e3 : c2 = c := e3
  have e0 : a2 = 0 ∨ a2 = 1 := e0
  subst e1
  subst e2
  subst e3
  rcases e0 with e0 | e0
  · subst e0
    show Sum.inr (b2, z_fs (fun q => ad (sw9 q)) f w o 0 ts) = Sum.inr (b2, z_fs ad f w o 0 ts2)
    rw [z_fs_sw ts2 ts 0 e4]
  · subst e0
    rfl
def swc (q : Nat) : Bool := ((zZ (sw9 q)).1 == 0 || (zZ (sw9 q)).1 == 1) && ((zZ (sw9 q)).1 == (zZ q).1 && ((zZ (sw9 q)).2.1 == (zZ q).2.1 && ((zZ (sw9 q)).2.2.1 == (zZ q).2.2.1 && swk (zZ (sw9 q)).2.2.2 (zZ q).2.2.2)))
theorem z_e_sw {L : Nat} (hL : zNC L = true) (h0 : L ≠ 0) : z_e (fun q => ad (sw9 q)) cA f w o (zZ L) = z_e ad cA f w o (zZ (sw9 L)) := by
  have hd : ∀ q, q < 160 → zNC q = true → q ≠ 0 → swc q = true := by decide +kernel
  have c := hd L (zNC_lt hL) hL h0
  unfold swc at c
  simp only [Bool.and_eq_true, Bool.or_eq_true, beq_iff_eq] at c
  obtain ⟨c0, c1, c2, c3, c4⟩ := c
  exact z_e_of c0 c1 c2 c3 c4
/-- the store when plan and draft have changed places -/
theorem zr.sw9_ (hz : zr zNC cA ad I W O h) (c0 : h1 (ad 0) = some (z_e (fun q => ad (sw9 q)) cA (I 0) (W 0) (O 0) (zZ 0))) (oh : ∀ q, q ≠ ad 0 → h1 q = h q) : zr zNC cA (fun q => ad (sw9 q)) (fun q => I (sw9 q)) (fun q => W (sw9 q)) (fun q => O (sw9 q)) h1 := by
  refine ⟨fun L hL => ?_, fun L L1 hL hL1 z => sw9_i (hz.2 _ _ (sw9_N hL) (sw9_N hL1) z)⟩
  by_cases e : L = 0
  · subst e
    exact c0
  · show h1 (ad (sw9 L)) = some (z_e _ cA (I (sw9 L)) (W (sw9 L)) (O (sw9 L)) (zZ L))
    rw [z_e_sw hL e, oh _ (fun z => e (sw9_i (hz.2 _ _ (sw9_N hL) rfl z)))]
    exact hz.1 _ (sw9_N hL)
def zrd (I : zI) (len at1 fl1 ro : Int32) (f1 f2 f3 f4 f5 f6 f7 f8 : Nat → Int32) (L : Nat) : Nat → Int32 := if L = 1 then (fun k => if k = 1 then len else if k = 2 then at1 else fl1) else if L = 33 then (fun _ => ro) else if L = 34 then f1 else if L = 35 then f2 else if L = 36 then f3 else if L = 37 then f4 else if L = 38 then f5 else if L = 39 then f6 else if L = 40 then f7 else if L = 41 then f8 else I L
theorem zrd_n {len at1 fl1 ro : Int32} {f1 f2 f3 f4 f5 f6 f7 f8 : Nat → Int32} {L : Nat} (n1 : L ≠ 1) (n2 : ¬ (33 ≤ L ∧ L ≤ 41)) : zrd I len at1 fl1 ro f1 f2 f3 f4 f5 f6 f7 f8 L = I L := by
  unfold zrd
  rw [if_neg n1, if_neg (by omega), if_neg (by omega), if_neg (by omega), if_neg (by omega), if_neg (by omega), if_neg (by omega), if_neg (by omega), if_neg (by omega), if_neg (by omega)]
/-- .. when a TOWN's text was read -/
theorem zr.rd {len at1 fl1 ro : Int32} {f1 f2 f3 f4 f5 f6 f7 f8 : Nat → Int32} (hz : zr zNC cA ad I W O h) (c1 : h1 (ad 1) = some (.inr (7, [.ref (ad 19), .int len, .int at1, .int fl1]))) (c33 : h1 (ad 33) = some (.inr (4, [.int ro, .ref (ad 34), .ref (ad 35), .ref (ad 36), .ref (ad 37), .ref (ad 38), .ref (ad 39), .ref (ad 40), .ref (ad 41)])))
    (k1 : h1 (ad 34) = some (.inl (cA 0, 6, .inl f1))) (k2 : h1 (ad 35) = some (.inl (cA 0, 6, .inl f2))) (k3 : h1 (ad 36) = some (.inl (cA 0, 6, .inl f3))) (k4 : h1 (ad 37) = some (.inl (cA 0, 12, .inl f4))) (k5 : h1 (ad 38) = some (.inl (cA 0, 6, .inl f5))) (k6 : h1 (ad 39) = some (.inl (cA 0, 6, .inl f6))) (k7 : h1 (ad 40) = some (.inl (cA 0, 6, .inl f7))) (k8 : h1 (ad 41) = some (.inl (cA 0, 6, .inl f8)))
    (oh : ∀ L, zNC L = true → L ≠ 1 → ¬ (33 ≤ L ∧ L ≤ 41) → h1 (ad L) = h (ad L)) : zr zNC cA ad (zrd I len at1 fl1 ro f1 f2 f3 f4 f5 f6 f7 f8) W O h1 := by
  refine ⟨fun L hL => ?_, hz.2⟩
  by_cases n1 : L = 1
  · subst n1; rw [c1]; rfl
  by_cases n2 : 33 ≤ L ∧ L ≤ 41
  · have : L = 33 ∨ L = 34 ∨ L = 35 ∨ L = 36 ∨ L = 37 ∨ L = 38 ∨ L = 39 ∨ L = 40 ∨ L = 41 := by omega
    rcases this with e | e | e | e | e | e | e | e | e <;> subst e
    · rw [c33]; rfl
    · rw [k1]; rfl
    · rw [k2]; rfl
    · rw [k3]; rfl
    · rw [k4]; rfl
    · rw [k5]; rfl
    · rw [k6]; rfl
    · rw [k7]; rfl
    · rw [k8]; rfl
  · rw [zrd_n n1 n2, oh L hL n1 n2]
    exact hz.1 L hL
theorem zRA.mv (o32 : h1 (ad 32) = h (ad 32)) (o49 : h1 (ad 49) = h (ad 49)) (H : zRA cA ad h) : zRA cA ad h1 := by
  obtain ⟨⟨F1, a1, a2⟩, F2, b1, b2⟩ := H
  exact ⟨⟨F1, o32.trans a1, a2⟩, F2, o49.trans b1, b2⟩
theorem zRA.sw (H : zRA cA ad h) : zRA cA (fun q => ad (sw9 q)) h := by
  obtain ⟨⟨F1, a1, a2⟩, F2, b1, b2⟩ := H
  refine ⟨⟨F1, a1, fun i hi => ?_⟩, F2, b1, fun i hi => ?_⟩
  · show F1 i = some (ad (sw9 (43 + i)))
    rw [sw9_n (by omega)]
    exact a2 i hi
  · show F2 i = some (ad (sw9 (100 + 6 * (i + 3))))
    rw [sw9_n (by omega)]
    exact b2 i hi
theorem set_of {α : Type} {l1 l0 : List α} {k : Nat} {v : α} (hl : l1.length = l0.length) (hk : k < l0.length) (e1 : l1[k]? = some v) (e2 : ∀ j, j ≠ k → l1[j]? = l0[j]?) : l1 = l0.set k v := by
  refine List.ext_getElem? (fun j => ?_)
  by_cases c : j = k
  · subst c
    rw [e1, List.getElem?_set_self hk]
  · rw [e2 j c, List.getElem?_set_ne (fun z => c z.symm)]
end
section
variable {l : Launch} {D : va_G} {tys : List (ClassId × FieldType)} {A : Nat → Prop} {X : State → Prop} {fr lo : Nat} {Q : Option Value → ch_H → Prop} {cA : Nat → ClassId} {h : ch_H} {ad : Nat → Nat} {I : zI} {W : zW} {O : zO} {seed : Int64} {Pa : Nat}
theorem z_ntL (hT : k_tys tys cA) {I0 : zI} : ∀ (j9 : Nat) (h : ch_H) (I : zI) (k : Int32), k.toInt + j9 = 12 → 0 ≤ k.toInt → zr zNC cA ad I W O h → (∀ q, q < k.toInt.toNat → I 5 q = -1 ∧ I 6 q = -1) → (∀ L, L ≠ 5 → L ≠ 6 → I L = I0 L) → (∀ (g : ch_H) (I1 : zI) (k1 : Int32), (∀ q, q < 12 → I1 5 q = -1 ∧ I1 6 q = -1) → (∀ L, L ≠ 5 → L ≠ 6 → I1 L = I0 L) → zr zNC cA ad I1 W O g → zf zNC ad h g → ww l D tys A X fr lo mX10_newTown Q 101 [(4, .int k1), (0, .ref (ad 0)), (1, .long seed), (3, .ref Pa)] [] g) → ww l D tys A X fr lo mX10_newTown Q 72 [(4, .int k), (0, .ref (ad 0)), (1, .long seed), (3, .ref Pa)] [] h := by
  intro j9
  induction j9 using Nat.strongRecOn with
  | ind j9 ih =>
    intro h I k hj9 hk0 hz hD hI hq
    refine w_iload (List.Mem.head _) (tX10_newTown_0_ok (72, .iload 4, 2) (List.mem_of_getElem? (i := 37) rfl)) ?_
    refine w_bipush (by decide) (tX10_newTown_0_ok (74, .bipush 12, 2) (List.mem_of_getElem? (i := 38) rfl)) (fun zv1 ze2 => ?_)
    refine w_icmp_ge (tgt := 101) (tX10_newTown_0_ok (76, .if_icmp .ge 25, 3) (List.mem_of_getElem? (i := 39) rfl)) rfl (fun zb3 => ?_) (fun zb3 => ?_)
    · refine w_lv [(4, .int k), (0, .ref (ad 0)), (1, .long seed), (3, .ref Pa)] (by intro q hq; simp only [List.mem_cons, List.not_mem_nil, or_false] at hq ⊢; rcases hq with e | e | e | e <;> subst e <;> simp) ?_
      exact hq h I k (fun q a1 => hD q (by omega)) hI hz zf.rf
    · refine w_aload_n (List.Mem.tail _ (List.Mem.head _)) (tX10_newTown_0_ok (79, .aload_n 0, 1) (List.mem_of_getElem? (i := 40) rfl)) ?_
      refine z_getR (L1 := 5) (own := 15) (k := 10) hz rfl rfl rfl rfl rfl rfl rfl (by decide) (tX10_newTown_0_ok (80, .getfield 53, 3) (List.mem_of_getElem? (i := 41) rfl)) ?_
      refine w_iload (List.Mem.head _) (tX10_newTown_0_ok (83, .iload 4, 2) (List.mem_of_getElem? (i := 42) rfl)) ?_
      refine w_iconst (by decide) (tX10_newTown_0_ok (85, .iconst (-1), 1) (List.mem_of_getElem? (i := 43) rfl)) (fun zv4 ze5 => ?_)
      refine z_iast (f := (I 5)) hT hz rfl rfl rfl (by omega) (by omega) (tX10_newTown_0_ok (86, .iastore, 1) (List.mem_of_getElem? (i := 44) rfl)) (fun zh6 zI7 zq8 zz9 zf10 => ?_)
      refine w_aload_n (List.Mem.tail _ (List.Mem.head _)) (tX10_newTown_0_ok (87, .aload_n 0, 1) (List.mem_of_getElem? (i := 45) rfl)) ?_
      refine z_getR (L1 := 6) (own := 15) (k := 11) zz9 rfl rfl rfl rfl rfl rfl rfl (by decide) (tX10_newTown_0_ok (88, .getfield 57, 3) (List.mem_of_getElem? (i := 46) rfl)) ?_
      refine w_iload (List.Mem.head _) (tX10_newTown_0_ok (91, .iload 4, 2) (List.mem_of_getElem? (i := 47) rfl)) ?_
      refine w_iconst (by decide) (tX10_newTown_0_ok (93, .iconst (-1), 1) (List.mem_of_getElem? (i := 48) rfl)) (fun zv11 ze12 => ?_)
      refine z_iast (f := (I 6)) hT zz9 rfl rfl ((congrFun zq8 6).trans (s2_n (by decide))) (by omega) (by omega) (tX10_newTown_0_ok (94, .iastore, 1) (List.mem_of_getElem? (i := 49) rfl)) (fun zh13 zI14 zq15 zz16 zf17 => ?_)
      refine w_iinc (fun zv18 => [(4, .int zv18), (0, .ref (ad 0)), (1, .long seed), (3, .ref Pa)]) (fun _ => rfl) (List.Mem.head _) (Nat.le_of_ble_eq_true rfl) (by decide) (by omega) (by omega) (tX10_newTown_0_ok (95, .iinc 4 1, 3) (List.mem_of_getElem? (i := 50) rfl)) (fun zv18 ze19 => ?_)
      refine w_goto (tgt := 72) (tX10_newTown_0_ok (98, .goto (-26), 3) (List.mem_of_getElem? (i := 51) rfl)) rfl ?_
      have c5 := (((congrFun zq15 5).trans (s2_n (by decide))).trans ((congrFun zq8 5).trans (s2_s _ _ _)))
      have c6 := ((congrFun zq15 6).trans (s2_s _ _ _))
      refine w_lv [(4, .int zv18), (0, .ref (ad 0)), (1, .long seed), (3, .ref Pa)] (by intro q hq; simp only [List.mem_cons, List.not_mem_nil, or_false] at hq ⊢; rcases hq with e | e | e | e <;> subst e <;> simp) ?_
      refine ih (j9 - 1) (by omega) zh13 zI14 _ (by omega) (by omega) zz16 (fun q a1 => ?_) (fun L n1 n2 => ?_) (fun g2 I2 k2 z1 z2 z3 z4 => hq g2 I2 k2 z1 z2 z3 ((zf10.tr zf17).tr z4))
      · rw [c5, c6]
        by_cases e : q = k.toInt.toNat
        · subst e
          rw [upd_s, upd_s]
          exact ⟨(kn_eq _ _).mpr (ze5.trans (by decide)), (kn_eq _ _).mpr (ze12.trans (by decide))⟩
        · rw [upd_n _ _ e, upd_n _ _ e]
          exact hD q (by omega)
      · rw [zq15, s2_n n2, zq8, s2_n n1]
        exact hI L n1 n2
theorem z_newT2 (hT : k_tys tys cA) (hz : zr zNC cA ad I W O h) (hf : 8 ≤ fr) (hlo : 300 ≤ lo) (hq : ∀ (g : ch_H) (I1 : zI) (W1 : zW), (∀ q, q < 6 → I1 101 q = I 13 q ∧ I1 102 q = 0 ∧ I1 103 q = 1 ∧ I1 104 (2 * q) = 0 ∧ I1 104 (2 * q + 1) = 0) → I1 100 5 = 0 → W1 100 6 = seed → (∀ q, q < 18 → I1 21 q = 0) → (I1 3 0 = 0 ∧ I1 3 3 = 0 ∧ I1 3 5 = 0) → (∀ q, q < 12 → I1 5 q = -1 ∧ I1 6 q = -1) → I1 0 6 = 0 → (∀ k, k ≠ 6 → I1 0 k = I 0 k) → (∀ L, ¬ (L = 0 ∨ L = 1 ∨ L = 3 ∨ L = 5 ∨ L = 6 ∨ L = 21 ∨ 100 ≤ L ∧ L < 105) → I1 L = I L) → (∀ L, L ≠ 100 → W1 L = W L) → zr zNC cA ad I1 W1 O g → zf zNC ad h g → Q (some (.int (I 2 0))) g) : ww l D tys A X fr lo mX10_newTown Q 42 [(3, .ref Pa), (0, .ref (ad 0)), (1, .long seed)] [] h := by
  refine w_aload_n (List.Mem.tail _ (List.Mem.head _)) (tX10_newTown_0_ok (42, .aload_n 0, 1) (List.mem_of_getElem? (i := 22) rfl)) ?_
  refine z_getR (L1 := 1) (own := 15) (k := 0) hz rfl rfl rfl rfl rfl rfl rfl (by decide) (tX10_newTown_0_ok (43, .getfield 10, 3) (List.mem_of_getElem? (i := 23) rfl)) ?_
  refine w_iconst (by decide) (tX10_newTown_0_ok (46, .iconst 0, 1) (List.mem_of_getElem? (i := 24) rfl)) (fun zv1 ze2 => ?_)
  refine z_put (f := (I 1)) (own := 15) (k := 1) hz rfl rfl rfl rfl rfl rfl rfl (by decide) rfl ⟨rfl, rfl⟩ (tX10_newTown_0_ok (47, .putfield 103, 3) (List.mem_of_getElem? (i := 25) rfl)) (fun zh3 zI4 zq5 zz6 zf7 => ?_)
  refine w_aload_n (List.Mem.tail _ (List.Mem.head _)) (tX10_newTown_0_ok (50, .aload_n 0, 1) (List.mem_of_getElem? (i := 26) rfl)) ?_
  refine z_getR (L1 := 100) (own := 15) (k := 3) zz6 rfl rfl rfl rfl rfl rfl rfl (by decide) (tX10_newTown_0_ok (51, .getfield 29, 3) (List.mem_of_getElem? (i := 27) rfl)) ?_
  refine w_aload_n (List.Mem.tail _ (List.Mem.head _)) (tX10_newTown_0_ok (54, .aload_n 0, 1) (List.mem_of_getElem? (i := 28) rfl)) ?_
  refine z_getR (L1 := 2) (own := 15) (k := 1) zz6 rfl rfl rfl rfl rfl rfl rfl (by decide) (tX10_newTown_0_ok (55, .getfield 19, 3) (List.mem_of_getElem? (i := 29) rfl)) ?_
  refine w_lload_n (List.Mem.tail _ (List.Mem.tail _ (List.Mem.head _))) (tX10_newTown_0_ok (58, .lload_n 1, 1) (List.mem_of_getElem? (i := 30) rfl)) ?_
  refine w_callV (own := 15) (mi := 67) [.ref (ad 2), .long seed] [] [(0, .ref (ad 100)), (1, .ref (ad 2)), (2, .long seed)] rfl (cllw_X10 (130, 0, 67) (List.mem_of_getElem? (i := 5) rfl)) rfl rfl (zz6.ob rfl rfl) rfl (by omega) (w_lo (n := 24) rfl (by omega)) (Nat.le_of_ble_eq_true rfl) (Nat.le_of_ble_eq_true rfl) rfl (tX10_newTown_0_ok (59, .invokevirtual 130, 3) (List.mem_of_getElem? (i := 31) rfl)) (z_begin hT (j := 0) (by decide) zz6 (fun g2 I2 W2 y1 y2 y3 y4 y5 y6 y7 => ?_))
  show ww l D tys A X fr lo mX10_newTown Q 62 [(3, .ref Pa), (0, .ref (ad 0)), (1, .long seed)] [] g2
  refine w_aload_n (List.Mem.tail _ (List.Mem.head _)) (tX10_newTown_0_ok (62, .aload_n 0, 1) (List.mem_of_getElem? (i := 32) rfl)) ?_
  refine z_getR (L1 := 3) (own := 15) (k := 8) y6 rfl rfl rfl rfl rfl rfl rfl (by decide) (tX10_newTown_0_ok (63, .getfield 42, 3) (List.mem_of_getElem? (i := 33) rfl)) ?_
  refine w_callV (own := 15) (mi := 25) [] [] [(0, .ref (ad 3))] rfl (cllw_X10 (134, 0, 25) (List.mem_of_getElem? (i := 6) rfl)) rfl rfl (y6.ob rfl rfl) rfl (by omega) (w_lo (n := 21) rfl (by omega)) (Nat.le_of_ble_eq_true rfl) (Nat.le_of_ble_eq_true rfl) rfl (tX10_newTown_0_ok (66, .invokevirtual 134, 3) (List.mem_of_getElem? (i := 34) rfl)) (z_leave hT y6 (fun g3 I3 x1 x2 x3 x4 x5 x6 x7 => ?_))
  show ww l D tys A X fr lo mX10_newTown Q 69 [(3, .ref Pa), (0, .ref (ad 0)), (1, .long seed)] [] g3
  refine w_iconst (by decide) (tX10_newTown_0_ok (69, .iconst 0, 1) (List.mem_of_getElem? (i := 35) rfl)) (fun zv8 ze9 => ?_)
  refine w_istore [(4, .int zv8), (3, .ref Pa), (0, .ref (ad 0)), (1, .long seed)] rfl (Nat.le_of_ble_eq_true rfl) (tX10_newTown_0_ok (70, .istore 4, 2) (List.mem_of_getElem? (i := 36) rfl)) ?_
  refine w_lv [(4, .int zv8), (0, .ref (ad 0)), (1, .long seed), (3, .ref Pa)] (by intro q hq; simp only [List.mem_cons, List.not_mem_nil, or_false] at hq ⊢; rcases hq with e | e | e | e <;> subst e <;> simp) ?_
  refine z_ntL hT (I0 := I3) 12 _ I3 _ (by omega) (by omega) x6 (fun q a1 => absurd a1 (by omega)) (fun _ _ _ => rfl) (fun g4 I4 k4 w1 w2 w3 w4 => ?_)
  refine w_aload_n (List.Mem.tail _ (List.Mem.head _)) (tX10_newTown_0_ok (101, .aload_n 0, 1) (List.mem_of_getElem? (i := 52) rfl)) ?_
  refine w_iconst (by decide) (tX10_newTown_0_ok (102, .iconst 0, 1) (List.mem_of_getElem? (i := 53) rfl)) (fun zv10 ze11 => ?_)
  refine z_put (f := (I4 0)) (own := 15) (k := 6) w3 rfl rfl rfl rfl rfl rfl rfl (by decide) rfl ⟨(kn_nz (by omega) (by omega)).1, (kn_nz (by omega) (by omega)).2.1⟩ (tX10_newTown_0_ok (103, .putfield 137, 3) (List.mem_of_getElem? (i := 54) rfl)) (fun zh12 zI13 zq14 zz15 zf16 => ?_)
  refine w_aload_n (List.Mem.tail _ (List.Mem.head _)) (tX10_newTown_0_ok (106, .aload_n 0, 1) (List.mem_of_getElem? (i := 55) rfl)) ?_
  refine z_getR (L1 := 2) (own := 15) (k := 1) zz15 rfl rfl rfl rfl rfl rfl rfl (by decide) (tX10_newTown_0_ok (107, .getfield 19, 3) (List.mem_of_getElem? (i := 56) rfl)) ?_
  refine z_get (f := (I4 2)) (own := 15) (k := 0) zz15 rfl rfl rfl rfl ((congrFun zq14 2).trans (s2_n (by decide))) rfl rfl (by decide) (tX10_newTown_0_ok (110, .getfield 95, 3) (List.mem_of_getElem? (i := 57) rfl)) ?_
  refine w_iret rfl (tX10_newTown_0_ok (113, .ireturn, 1) (List.mem_of_getElem? (i := 58) rfl)) ?_
  have c0 := ((congrFun zq14 0).trans (s2_s _ _ _))
  have e2 : I4 2 = I 2 := by rw [w2 2 (by decide) (by decide), x5 2 (by decide) (by decide), y4 2 (Or.inl (by decide)), zq5, s2_n (by decide)]
  rw [e2]
  refine hq _ zI13 W2 (fun q hq9 => ?_) ?_ y3 (fun q hq9 => ?_) ⟨?_, ?_, ?_⟩ (fun q hq9 => ?_) ?_ (fun k hk => ?_) (fun L hL => ?_) (fun L hL => y5 L hL) zz15 (zf7.tr (y7.tr (x7.tr (w4.tr zf16))))
  · rw [zq14, s2_n (by decide), s2_n (by decide), s2_n (by decide), s2_n (by decide), w2 101 (by decide) (by decide), w2 102 (by decide) (by decide), w2 103 (by decide) (by decide), w2 104 (by decide) (by decide), x5 101 (by decide) (by decide), x5 102 (by decide) (by decide), x5 103 (by decide) (by decide), x5 104 (by decide) (by decide)]
    have y := y1 q hq9
    rw [zq5, s2_n (show 13 ≠ 1 by decide)] at y
    exact y
  · rw [zq14, s2_n (by decide), w2 100 (by decide) (by decide), x5 100 (by decide) (by decide)]
    exact y2
  · rw [zq14, s2_n (by decide), w2 21 (by decide) (by decide)]
    exact x1 q hq9
  · rw [zq14, s2_n (by decide), w2 3 (by decide) (by decide)]
    exact x2
  · rw [zq14, s2_n (by decide), w2 3 (by decide) (by decide)]
    exact x3
  · rw [zq14, s2_n (by decide), w2 3 (by decide) (by decide)]
    exact x4
  · rw [zq14, s2_n (by decide), s2_n (by decide)]
    exact w1 q hq9
  · rw [c0, upd_s]
    exact (kn_eq _ _).mpr (ze11.trans (by decide))
  · rw [c0, upd_n _ _ hk, w2 0 (by decide) (by decide), x5 0 (by decide) (by decide), y4 0 (Or.inl (by decide)), zq5, s2_n (by decide)]
  · rw [zq14, s2_n (by omega), w2 L (by omega) (by omega), x5 L (by omega) (by omega), y4 L (by omega), zq5, s2_n (by omega)]
end
