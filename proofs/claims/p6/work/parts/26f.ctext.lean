/-! the class's newRule and text, from typed heaps -/
section
variable {l : Launch} {D : va_G} {tys : List (ClassId × FieldType)} {A : Nat → Prop} {X : State → Prop} {fr lo mc ms : Nat} {M : ch_M} {Q : Option Value → ch_H → Prop} {pc : Nat} {lv : List (Nat × Value)} {st : List Value} {h : ch_H} {c z : Nat} {Sg : Nat → Option Nat} {cA : Nat → ClassId} {Lb9 : Nat → k_I} {x : Nat}
/-- new, dup, and the constructor's call: no cell in the making -/
theorem n_objL {M' : ch_M} {df : List Value} {ix ix2 ci L fr' lo' mc' ms' : Nat} (hH : k_H Sg cA Lb9 h) (hk : k_nw l D tys A X cA Lb9 M' ci df L fr' lo' mc' ms') (hcl : Cond.classLink M.1.cls ix (ch_n ci) ∈ wsA) (hins : Cond.instantiable (ch_n ci) (ch_N ci) ∈ wsA) (hini : Cond.initialized (ch_n ci) ∈ wsA) (hci : ci < 11) (hdf : ∀ j, j < ch_N ci → defaultValue (ch_ty ci j) = vp_V df j) (hm : ch_m M' 0) (hi : M'.1.name = "<init>") (hret : M'.2.2.2 = none) (hln : (∃ host, ∀ s, X s → va_Nw (.methodLinkNest M.1.cls ix2 M'.1 host) s) ∨ Cond.methodLink M.1.cls ix2 M'.1 ∈ wsA) (hw2 : Cond.instanceMethod M'.1 ∈ wsA) (hroom : fr' + 1 ≤ fr ∧ 8 + (M'.2.2.1 + 11) + lo' ≤ lo) (hcells : c + 1 + mc' ≤ mc) (hslots : z + ch_N ci + ms' ≤ ms) (hst : (st.map fun v => v.category).sum ≤ 7) (hlen : ∀ b, (lg_sl [.ref b]).length ≤ M'.2.2.1) (hd1 : decode M.2.1 pc = .ok (.new ix, 3)) (hd2 : decode M.2.1 (pc + 3) = .ok (.dup, 1)) (hd3 : decode M.2.1 (pc + 3 + 1) = .ok (.invokespecial ix2, 3))
    (kk : ∀ (b : Nat) (Sg1 : Nat → Option Nat) (g : ch_H), k_H Sg1 cA Lb9 g → Sg1 b = some L → h b = none → (∀ q, h q ≠ none → g q = h q ∧ Sg1 q = Sg q) → (∀ q M9, Sg1 q = some M9 → Sg q = some M9 ∨ Lb9 M9 = Lb9 M9) → tt l D tys A X fr lo mc ms M Q (pc + 3 + 1 + 3) lv (.ref b :: st) g (c + 1 + mc') (z + ch_N ci + ms')) : tt l D tys A X fr lo mc ms M Q pc lv st h c z := by
  refine tt_new (pg_k ci hci) hcl hins hini hdf (by omega) (by omega) hd1 (fun b hb => ?_)
  have sb := hH.none_ hb
  have hH1 : k_H Sg cA Lb9 (ch_up h b (.inr (ci, df))) := fun q M9 hq => by
    have hne : q ≠ b := fun e => by rw [e, sb] at hq; cases hq
    rw [ch_up_n _ _ hne]
    exact hH q M9 hq
  refine tt_dup rfl hd2 ?_
  have kc := hk Sg b (ch_up h b (.inr (ci, df))) hH1 (ch_up_s _ _ _) sb
  have fin : ∀ r g, nQ cA Lb9 Sg (ch_up h b (.inr (ci, df))) b L r g → tt l D tys A X fr lo mc ms M Q (pc + 3 + 1 + 3) lv (r.toList ++ .ref b :: st) g (c + 1 + mc') (z + ch_N ci + ms') := by
    intro r g ⟨e0, Sg1, q1, q2, q3⟩
    subst e0
    refine kk b Sg1 g q1 q2 hb (fun q hn => ?_) (fun _ _ _ => Or.inr rfl)
    have hqb : q ≠ b := fun e => hn (by rw [e]; exact hb)
    have w := q3 q hqb (by rw [ch_up_n _ _ hqb]; exact hn)
    rw [ch_up_n _ _ hqb] at w
    exact w
  have hst2 : ((Value.ref b :: st).map fun v => v.category).sum ≤ 8 := by
    simp only [List.map_cons, List.sum_cons]
    show 1 + _ ≤ 8
    omega
  rcases hln with ⟨host, hln⟩ | hln
  · exact tt_callIN (As := []) (rest := .ref b :: st) hd3 hm hi hret hln hw2 rfl hroom ⟨by omega, by omega⟩ hst2 (hlen b) kc fin
  · exact tt_callI (As := []) (rest := .ref b :: st) hd3 hm hi hret hln hw2 rfl hroom ⟨by omega, by omega⟩ hst2 (hlen b) kc fin
/-- a field of a cell with a label -/
theorem t_put {own ix ci k a L n : Nat} {ts : List k_T} {t : k_T} {v : Value} {fs : List Value} (hH : k_H Sg cA Lb9 h) (hs : Sg a = some L) (hL : Lb9 L = (0, ci, n, ts)) (ht : ts[k]? = some t) (hv : k_v Sg v t) (ca : h a = some (.inr (ci, fs))) (hR : pg_R own = M.1.cls) (hx : k_fd (pg_fl own) ix = some (ci, k)) (hc : ci < 11 ∧ k < ch_N ci) (hfin : (ch_T ci k).2.2.2 = false) (hn : narrow (ch_ty ci k) v = v ∧ fits (ch_ty ci k) v = true) (hlen : k < n) (hd : decode M.2.1 pc = .ok (.putfield ix, 3)) (kk : ∀ (g : ch_H) (fs1 : List Value), k_H Sg cA Lb9 g → g a = some (.inr (ci, fs1)) → fs1[k]? = some v → (∀ j, j ≠ k → fs1[j]? = fs[j]?) → (∀ q, q ≠ a → g q = h q) → tt l D tys A X fr lo mc ms M Q (pc + 3) lv st g c z) : tt l D tys A X fr lo mc ms M Q pc lv (v :: .ref a :: st) h c z := by
  have hw := pg_fw own _ (k_fd_ok hx)
  dsimp only at hw
  rw [hR] at hw
  obtain ⟨fs2, cb, fl, ty⟩ := hH.obj hs hL
  rw [ca] at cb
  cases cb
  have e1 : (fs.set k v)[k]? = some v := by rw [List.getElem?_set_self (by omega)]
  have e2 : ∀ j, j ≠ k → (fs.set k v)[j]? = fs[j]? := fun j hj => List.getElem?_set_ne (Ne.symm hj)
  have e3 : ∀ q, q ≠ a → ch_up h a (.inr (ci, fs.set k v)) q = h q := fun q hq => ch_up_n _ _ hq
  exact tt_put (pg_k ci hc.1) ca hc.2 hw hfin hn.1 hn.2 (by omega) hd (kk _ (fs.set k v) (hH.fld (k := k) hs hL ht ca (ch_up_s _ _ _) (by rw [List.length_set]; exact fl) e1 hv e2 e3) (ch_up_s _ _ _) e1 e2 e3)
theorem t_get {own ix ci k a : Nat} {fs : List Value} {v : Value} (hR : pg_R own = M.1.cls) (hx : k_fd (pg_fl own) ix = some (ci, k)) (hc : ci < 11 ∧ k < ch_N ci) (ca : h a = some (.inr (ci, fs))) (hv : fs[k]? = some v) (hd : decode M.2.1 pc = .ok (.getfield ix, 3)) (kk : tt l D tys A X fr lo mc ms M Q (pc + 3) lv (v :: st) h c z) : tt l D tys A X fr lo mc ms M Q pc lv (.ref a :: st) h c z := by
  have hw := pg_fw own _ (k_fd_ok hx)
  dsimp only at hw
  rw [hR] at hw
  exact tt_get (pg_k ci hc.1) ca hc.2 hw hv hd kk
def sg50 (Sg Sg1 : Nat → Option Nat) : Nat → Option Nat := fun q => match Sg1 q with
  | some M => if M < 50 then some M else Sg q
  | none => none
def okB5 (t : k_T) : Bool := !(t.1 == 2 || t.1 == 3) || decide (t.2.1.toNat < 50)
theorem okB5_all : ∀ L, L < 50 → (Lb L).2.2.2.all okB5 = true := by decide +kernel
theorem sg50_lt {Sg1 : Nat → Option Nat} {a M9 : Nat} (hs : Sg1 a = some M9) (hm : M9 < 50) : sg50 Sg Sg1 a = some M9 := by
  unfold sg50
  rw [hs]
  exact if_pos hm
theorem k_v.cut {Sg1 : Nat → Option Nat} {v : Value} {t : k_T} (ht : okB5 t = true) (hv : k_v Sg1 v t) : k_v (sg50 Sg Sg1) v t := by
  obtain ⟨k, y, z⟩ := t
  match k, ht, hv with
  | 0, _, hv => exact hv
  | 1, _, hv => exact hv
  | 2, ht, hv =>
    obtain ⟨a, e1, e2⟩ := hv
    have hn : y.toNat < 50 := by simpa [okB5] using ht
    exact ⟨a, e1, sg50_lt e2 hn⟩
  | 3, ht, hv =>
    have hn : y.toNat < 50 := by simpa [okB5] using ht
    rcases hv with hv | ⟨a, e1, e2⟩
    · exact Or.inl hv
    · exact Or.inr ⟨a, e1, sg50_lt e2 hn⟩
  | 4, _, hv => exact hv
  | n + 5, _, _ => exact trivial
theorem k_H.cut {Sg1 : Nat → Option Nat} {g : ch_H} (hH : k_H Sg cA Lb h) (hH1 : k_H Sg1 cA Lb g) (le : sg_le Sg Sg1) (o : ∀ a L, Sg a = some L → 50 ≤ L → g a = h a) : k_H (sg50 Sg Sg1) cA Lb g ∧ sg_le Sg (sg50 Sg Sg1) ∧ ∀ a L, sg50 Sg Sg1 a = some L → 50 ≤ L → Sg a = some L ∧ g a = h a := by
  have le2 : sg_le Sg (sg50 Sg Sg1) := fun q M9 hq => by
    unfold sg50
    rw [le q M9 hq]
    by_cases c9 : M9 < 50
    · exact if_pos c9
    · exact (if_neg c9).trans hq
  have two : ∀ a L, sg50 Sg Sg1 a = some L → (Sg1 a = some L ∧ L < 50) ∨ (Sg a = some L ∧ 50 ≤ L) := fun a L ha => by
    unfold sg50 at ha
    cases h9 : Sg1 a with
    | none => rw [h9] at ha; cases ha
    | some M9 =>
      rw [h9] at ha
      dsimp only at ha
      by_cases c9 : M9 < 50
      · rw [if_pos c9] at ha
        cases ha
        exact Or.inl ⟨rfl, c9⟩
      · rw [if_neg c9] at ha
        have := le a L ha
        rw [h9] at this
        cases this
        exact Or.inr ⟨ha, by omega⟩
  refine ⟨fun a L ha => ?_, le2, fun a L ha hl => ?_⟩
  · rcases two a L ha with ⟨q1, q2⟩ | ⟨q1, q2⟩
    · obtain ⟨e, e1, e2⟩ := hH1 a L q1
      refine ⟨e, e1, ?_⟩
      have ok := List.all_eq_true.mp (okB5_all L q2)
      rcases e2 with ⟨f1, fs, f2, f3, f4⟩ | e2 | ⟨f1, f, f2, f3⟩
      · refine Or.inl ⟨f1, fs, f2, f3, fun k t hk => ?_⟩
        obtain ⟨v, g1, g2⟩ := f4 k t hk
        exact ⟨v, g1, g2.cut (ok t (List.mem_of_getElem? hk))⟩
      · exact Or.inr (Or.inl e2)
      · refine Or.inr (Or.inr ⟨f1, f, f2, fun i hi => (f3 i hi).cut ?_⟩)
        rcases k_el_in (Lb L) i with q | q
        · rw [q]; rfl
        · exact ok _ q
    · obtain ⟨e, e1, e2⟩ := hH a L q1
      exact ⟨e, (o a L q1 q2).trans e1, e2.le le2⟩
  · rcases two a L ha with ⟨q1, q2⟩ | ⟨q1, q2⟩
    · omega
    · exact ⟨q1, o a L q1 q2⟩
theorem lab_ne {a b L N9 : Nat} (ha : Sg a = some L) (hb : Sg b = some N9) (hne : L ≠ N9) : a ≠ b := k_sg_ne ha hb hne
theorem t_newRule (hT : k_tys tys cA) (hN : k_NX X) {xs : List Value} {t b r k s ra : Nat} {f : Nat → Int32} {len rc at0 fl0 : Int32} (hH : k_H Sg cA Lb h) (sx : Sg x = some 0) (st : Sg t = some 1) (sb : Sg b = some 10) (s_r : Sg r = some 6) (s_k : Sg k = some 36) (s_s : Sg s = some 37) (s_ra : Sg ra = some 34) (c_x : h x = some (.inr (9, xs))) (f0 : xs[0]? = some (.ref t)) (f12 : xs[12]? = some (.ref ra)) (f13 : xs[13]? = some (.ref r)) (f14 : xs[14]? = some (.int rc)) (hrc : 0 ≤ rc.toInt ∧ rc.toInt ≤ 4) (T : tp0 cA h t b f len at0 fl0) (Ru : ru cA h r k s)
    (hq : ∀ (g : ch_H) (v : Int32) (Sg1 : Nat → Option Nat) (xs1 : List Value) (len1 rc1 at1 fl1 : Int32), k_H Sg1 cA Lb g → sg_le Sg Sg1 → (∀ a L, Sg1 a = some L → 50 ≤ L → Sg a = some L ∧ g a = h a) → g x = some (.inr (9, xs1)) → xs1[0]? = some (.ref t) → xs1[14]? = some (.int rc1) → tp0 cA g t b f len1 at1 fl1 → (rc.toInt < 4 ∧ (∃ q, sp_rule f len.toInt.toNat = .inr q) ∧ len1.toInt = 0 ∧ rc1.toInt = rc.toInt + 1 ∧ v.toInt = rc.toInt ∨ (4 ≤ rc.toInt ∨ ∃ e, sp_rule f len.toInt.toNat = .inl e) ∧ len1 = len ∧ rc1 = rc ∧ v.toInt = -1) → (∀ j, j ≠ 13 → j ≠ 14 → xs1[j]? = xs[j]?) → (∀ a L, Sg a = some L → L = 2 ∨ L = 4 → g a = h a) → Q (some (.int v)) g) : tt l D tys A X 42 1200 3 259 mX10_newRule Q 0 [(0, .ref x)] [] h 0 0 := by
  have T9 := T
  refine tt_aload_n rfl (List.Mem.head _) (tX10_newRule_0_ok (0, .aload_n 0, 1) (List.mem_of_getElem? (i := 0) rfl)) ?_
  refine t_get (own := 15) rfl rfl (by decide) c_x f14 (tX10_newRule_0_ok (1, .getfield 141, 3) (List.mem_of_getElem? (i := 1) rfl)) ?_
  refine tt_iconst (v := 4) rfl (tX10_newRule_0_ok (4, .iconst 4, 1) (List.mem_of_getElem? (i := 2) rfl)) ?_
  refine tt_icmp_lt (tgt := 10) (tX10_newRule_0_ok (5, .if_icmp .lt 5, 3) (List.mem_of_getElem? (i := 3) rfl)) rfl (fun b1 => ?_) (fun b1 => ?_)
  · have b1 : rc.toInt < 4 := (kn_lt rc 4).mp b1
    refine tt_aload_n rfl (List.Mem.head _) (tX10_newRule_0_ok (10, .aload_n 0, 1) (List.mem_of_getElem? (i := 6) rfl)) ?_
    refine t_get (own := 15) rfl rfl (by decide) c_x f13 (tX10_newRule_0_ok (11, .getfield 67, 3) (List.mem_of_getElem? (i := 7) rfl)) ?_
    refine tt_aload_n rfl (List.Mem.head _) (tX10_newRule_0_ok (14, .aload_n 0, 1) (List.mem_of_getElem? (i := 8) rfl)) ?_
    refine t_get (own := 15) rfl rfl (by decide) c_x f0 (tX10_newRule_0_ok (15, .getfield 10, 3) (List.mem_of_getElem? (i := 9) rfl)) ?_
    obtain ⟨cR, hcR⟩ := ru.obj Ru
    have kc : tt l D tys A X 40 1170 0 0 mX5_read (fun v g => v = none ∧ ∃ at1 fl1 : Int32, tp cA g t b f len at1 fl1 ∧ ru cA g r k s ∧ sp_is (sp_rule f len.toInt.toNat) at1 fl1 ∧ ∀ q, q ≠ t ∧ q ≠ r ∧ q ≠ k → g q = h q) 0 [(0, .ref r), (1, .ref t)] [] h 0 0 :=
      s_read hT ⟨T.2.2.1, k_sg_ne s_r st (by decide), k_sg_ne s_k st (by decide), k_sg_ne s_r sb (by decide), k_sg_ne s_k sb (by decide), k_sg_ne s_r s_k (by decide)⟩ (by decide) (by decide) T Ru (fun h1 at1 fl1 T1 R1 e1 o1 => ⟨rfl, at1, fl1, T1, R1, e1, o1⟩)
    obtain ⟨e9, z1, z2, z3, z4, z5⟩ := (cllw_X10 (119, 0, 61) (List.mem_of_getElem? (i := 3) rfl))
    cases z1
    refine tt_callV (M' := mX5_read) (As := [.ref t]) (rest := []) (fr' := 40) (lo' := 1170) (mc' := 0) (ms' := 0) (tX10_newRule_0_ok (18, .invokevirtual 119, 3) (List.mem_of_getElem? (i := 10) rfl)) z5 z2 z3 z4 hcR rfl rfl rfl ⟨by decide, by decide⟩ ⟨by decide, by decide⟩ (Nat.le_of_ble_eq_true rfl) (Nat.le_of_ble_eq_true rfl) kc (fun v1 h1 H1 => ?_)
    obtain ⟨rfl, at1, fl1, T1, R1, e1, o1⟩ := H1
    obtain ⟨hH1, u1⟩ := k_H.rule hH st sb s_r s_k s_s T T1 R1 Ru o1
    have c_x1 : h1 x = some (.inr (9, xs)) := (o1 x ⟨k_sg_ne sx st (by decide), k_sg_ne sx s_r (by decide), k_sg_ne sx s_k (by decide)⟩).trans c_x
    show tt l D tys A X 42 1200 3 259 mX10_newRule Q 21 [(0, .ref x)] [] h1 0 0
    refine tt_aload_n rfl (List.Mem.head _) (tX10_newRule_0_ok (21, .aload_n 0, 1) (List.mem_of_getElem? (i := 11) rfl)) ?_
    refine t_get (own := 15) rfl rfl (by decide) c_x1 f0 (tX10_newRule_0_ok (22, .getfield 10, 3) (List.mem_of_getElem? (i := 12) rfl)) ?_
    refine t_get (own := 15) (ci := 7) (k := 3) rfl rfl (by decide) T1.1 rfl (tX10_newRule_0_ok (25, .getfield 116, 3) (List.mem_of_getElem? (i := 13) rfl)) ?_
    refine tt_iconst (v := -1) rfl (tX10_newRule_0_ok (28, .iconst (-1), 1) (List.mem_of_getElem? (i := 14) rfl)) ?_
    refine tt_icmp_eq (tgt := 34) (tX10_newRule_0_ok (29, .if_icmp .eq 5, 3) (List.mem_of_getElem? (i := 15) rfl)) rfl (fun b2 => ?_) (fun b2 => ?_)
    · have b2 : fl1.toInt = -1 := by rw [b2]; rfl
      obtain ⟨q9, q8, q7⟩ := sp_is.inr e1 b2
      obtain ⟨ea, ea1, ea2⟩ := hH1 ra 34 s_ra
      obtain ⟨fa, rfl, fa2⟩ := k_cell2 (I := Lb 34) rfl ea2
      have ea1 : h1 ra = some (.inl (cA 4, 4, .inr (.inr (.inr (.inr fa))))) := ea1
      obtain ⟨gr, szr, r1, -⟩ := id R1
      refine tt_aload_n rfl (List.Mem.head _) (tX10_newRule_0_ok (34, .aload_n 0, 1) (List.mem_of_getElem? (i := 18) rfl)) ?_
      refine t_get (own := 15) rfl rfl (by decide) c_x1 f12 (tX10_newRule_0_ok (35, .getfield 62, 3) (List.mem_of_getElem? (i := 19) rfl)) ?_
      refine tt_aload_n rfl (List.Mem.head _) (tX10_newRule_0_ok (38, .aload_n 0, 1) (List.mem_of_getElem? (i := 20) rfl)) ?_
      refine t_get (own := 15) rfl rfl (by decide) c_x1 f14 (tX10_newRule_0_ok (39, .getfield 141, 3) (List.mem_of_getElem? (i := 21) rfl)) ?_
      refine tt_aload_n rfl (List.Mem.head _) (tX10_newRule_0_ok (42, .aload_n 0, 1) (List.mem_of_getElem? (i := 22) rfl)) ?_
      refine t_get (own := 15) rfl rfl (by decide) c_x1 f13 (tX10_newRule_0_ok (43, .getfield 67, 3) (List.mem_of_getElem? (i := 23) rfl)) ?_
      refine tt_aast ea1 (hT 4 (by decide)) r1 (r := (RX5, TX5, 3)) rfl (kn_in hrc.1 (by omega)) (tX10_newRule_0_ok (46, .aastore, 1) (List.mem_of_getElem? (i := 24) rfl)) ?_
      generalize hg2 : ch_up h1 ra (.inl (cA 4, 4, .inr (.inr (.inr (.inr (va_up fa rc.toNatClampNeg (some r))))))) = h2
      have c_ra2 : h2 ra = some (.inl (cA 4, 4, .inr (.inr (.inr (.inr (va_up fa rc.toNatClampNeg (some r))))))) := by rw [← hg2]; exact ch_up_s _ _ _
      have o2 : ∀ q, q ≠ ra → h2 q = h1 q := fun q hq => by rw [← hg2]; exact ch_up_n _ _ hq
      have hH2 : k_H Sg cA Lb h2 := hH1.one s_ra c_ra2 (Or.inr (Or.inr ⟨rfl, _, rfl, fun i hi => by
        unfold va_up
        split
        · exact Or.inr ⟨r, rfl, s_r⟩
        · exact fa2 i hi⟩)) o2
      have c_x2 := (o2 x (k_sg_ne sx s_ra (by decide))).trans c_x1
      have c_t2 := (o2 t (k_sg_ne st s_ra (by decide))).trans T1.1
      have c_b2 := (o2 b (k_sg_ne sb s_ra (by decide))).trans T1.2.1
      show tt l D tys A X 42 1200 3 259 mX10_newRule Q 47 [(0, .ref x)] [] h2 0 0
      refine tt_aload_n rfl (List.Mem.head _) (tX10_newRule_0_ok (47, .aload_n 0, 1) (List.mem_of_getElem? (i := 25) rfl)) ?_
      refine n_objL hH2 (n_X5_init hT (fun _ _ => rfl)) (wA1 224 rfl rfl) (wA1 226 rfl rfl) (wA1 7 rfl rfl) (by decide) df_5_ok kX5_init rfl rfl (Or.inl ⟨_, (fun s x => (hN s x).2.2.2.2.2.1)⟩) iX5_init (by decide) (by decide) (by decide) (Nat.le_of_ble_eq_true rfl) (fun _ => Nat.le_of_ble_eq_true rfl) (tX10_newRule_0_ok (48, .new 60, 3) (List.mem_of_getElem? (i := 26) rfl)) (tX10_newRule_0_ok (51, .dup, 1) (List.mem_of_getElem? (i := 27) rfl)) (tX10_newRule_0_ok (52, .invokespecial 66, 3) (List.mem_of_getElem? (i := 28) rfl)) (fun nb Sg1 h3 hH3 s_nb hnb o3 _ => ?_)
      have le3 : sg_le Sg Sg1 := fun q M9 hq => by rw [(o3 q (hH2.some_ hq)).2]; exact hq
      have sx3 := le3 x 0 sx
      have st3 := le3 t 1 st
      have sb3 := le3 b 10 sb
      have c_x3 := (o3 x (by rw [c_x2]; exact fun q => by cases q)).1.trans c_x2
      have c_t3 := (o3 t (by rw [c_t2]; exact fun q => by cases q)).1.trans c_t2
      have c_b3 := (o3 b (by rw [c_b2]; exact fun q => by cases q)).1.trans c_b2
      refine t_put (own := 15) (ci := 9) (k := 13) hH3 sx3 rfl rfl ⟨nb, rfl, s_nb⟩ c_x3 rfl rfl (by decide) rfl ⟨rfl, rfl⟩ (by decide) (tX10_newRule_0_ok (55, .putfield 67, 3) (List.mem_of_getElem? (i := 29) rfl)) (fun h4 xs4 hH4 c_x4 f134 j4 o4 => ?_)
      have f04 := (j4 0 (by decide)).trans f0
      have f144 := (j4 14 (by decide)).trans f14
      have c_t4 := (o4 t (k_sg_ne st3 sx3 (by decide))).trans c_t3
      have c_b4 := (o4 b (k_sg_ne sb3 sx3 (by decide))).trans c_b3
      refine tt_aload_n rfl (List.Mem.head _) (tX10_newRule_0_ok (58, .aload_n 0, 1) (List.mem_of_getElem? (i := 30) rfl)) ?_
      refine t_get (own := 15) rfl rfl (by decide) c_x4 f04 (tX10_newRule_0_ok (59, .getfield 10, 3) (List.mem_of_getElem? (i := 31) rfl)) ?_
      refine tt_iconst (v := 0) rfl (tX10_newRule_0_ok (62, .iconst 0, 1) (List.mem_of_getElem? (i := 32) rfl)) ?_
      refine t_put (own := 15) (ci := 7) (k := 1) hH4 st3 rfl rfl ⟨0, rfl, by decide, by decide⟩ c_t4 rfl rfl (by decide) rfl ⟨rfl, rfl⟩ (by decide) (tX10_newRule_0_ok (63, .putfield 103, 3) (List.mem_of_getElem? (i := 33) rfl)) (fun h5 ts5 hH5 c_t5 f15 j5 o5 => ?_)
      have l5 : ts5.length = 4 := by
        obtain ⟨w9, w8, w7, -⟩ := hH5.obj st3 (L := 1) rfl
        rw [c_t5] at w8
        cases w8
        exact w7
      have e5 := list4 l5 ((j5 0 (by decide)).trans rfl) f15 ((j5 2 (by decide)).trans rfl) ((j5 3 (by decide)).trans rfl)
      subst e5
      have c_x5 := (o5 x (k_sg_ne sx3 st3 (by decide))).trans c_x4
      have c_b5 := (o5 b (k_sg_ne sb3 st3 (by decide))).trans c_b4
      refine tt_aload_n rfl (List.Mem.head _) (tX10_newRule_0_ok (66, .aload_n 0, 1) (List.mem_of_getElem? (i := 34) rfl)) ?_
      refine tt_dup rfl (tX10_newRule_0_ok (67, .dup, 1) (List.mem_of_getElem? (i := 35) rfl)) ?_
      refine t_get (own := 15) rfl rfl (by decide) c_x5 f144 (tX10_newRule_0_ok (68, .getfield 141, 3) (List.mem_of_getElem? (i := 36) rfl)) ?_
      refine tt_iconst (v := 1) rfl (tX10_newRule_0_ok (71, .iconst 1, 1) (List.mem_of_getElem? (i := 37) rfl)) ?_
      refine tt_iadd (tX10_newRule_0_ok (72, .iadd, 1) (List.mem_of_getElem? (i := 38) rfl)) ?_
      have er : (rc + 1).toInt = rc.toInt + 1 := fb_addI (by show -2147483648 ≤ rc.toInt + 1; omega) (by show rc.toInt + 1 < 2147483648; omega)
      refine t_put (own := 15) (ci := 9) (k := 14) hH5 sx3 rfl rfl ⟨rc + 1, rfl, by show (0 : Int) ≤ _; omega, by show _ ≤ (4 : Int); omega⟩ c_x5 rfl rfl (by decide) rfl ⟨rfl, rfl⟩ (by decide) (tX10_newRule_0_ok (73, .putfield 141, 3) (List.mem_of_getElem? (i := 39) rfl)) (fun h6 xs6 hH6 c_x6 f146 j6 o6 => ?_)
      refine tt_aload_n rfl (List.Mem.head _) (tX10_newRule_0_ok (76, .aload_n 0, 1) (List.mem_of_getElem? (i := 40) rfl)) ?_
      refine t_get (own := 15) rfl rfl (by decide) c_x6 f146 (tX10_newRule_0_ok (77, .getfield 141, 3) (List.mem_of_getElem? (i := 41) rfl)) ?_
      refine tt_iconst (v := 1) rfl (tX10_newRule_0_ok (80, .iconst 1, 1) (List.mem_of_getElem? (i := 42) rfl)) ?_
      refine tt_isub (tX10_newRule_0_ok (81, .isub, 1) (List.mem_of_getElem? (i := 43) rfl)) ?_
      refine tt_iret rfl ?_ (by decide) (by decide) (tX10_newRule_0_ok (82, .ireturn, 1) (List.mem_of_getElem? (i := 44) rfl))
      obtain ⟨hH9, le9, nx⟩ := k_H.cut (h := h) (g := h6) hH hH6 le3 (fun a L ha hl => by
        have n0 := lab_ge ha sx hl (by decide)
        have n1 := lab_ge ha st hl (by decide)
        have w2 := (o2 a (lab_ge ha s_ra hl (by decide))).trans (o1 a ⟨n1, lab_ge ha s_r hl (by decide), lab_ge ha s_k hl (by decide)⟩)
        exact (((o6 a n0).trans (o5 a n1)).trans (o4 a n0)).trans ((o3 a (hH2.some_ ha)).1.trans w2))
      have ev : (rc + 1 - 1).toInt = rc.toInt := by
        have e1 : (1 : Int32).toInt = 1 := rfl
        have := fb_subI (x := rc + 1) (y := 1) (by omega) (by omega)
        omega
      exact hq h6 _ (sg50 Sg Sg1) xs6 0 (rc + 1) at1 fl1 hH9 le9 nx c_x6 ((j6 0 (by decide)).trans f04) f146 ⟨(o6 t (k_sg_ne st3 sx3 (by decide))).trans c_t5, (o6 b (k_sg_ne sb3 sx3 (by decide))).trans c_b5, T.2.2.1, by decide, by decide⟩ (Or.inl ⟨b1, ⟨q9, q8⟩, rfl, er, ev⟩) (fun j n13 n14 => (j6 j n14).trans (j4 j n13)) (fun a L ha hl => by
        have n0 : a ≠ x := k_sg_ne ha sx (by omega)
        have n1 : a ≠ t := k_sg_ne ha st (by omega)
        have w2 := (o2 a (k_sg_ne ha s_ra (by omega))).trans (o1 a ⟨n1, k_sg_ne ha s_r (by omega), k_sg_ne ha s_k (by omega)⟩)
        exact (((o6 a n0).trans (o5 a n1)).trans (o4 a n0)).trans ((o3 a (hH2.some_ ha)).1.trans w2))
    · have b2 : ¬ fl1.toInt = -1 := fun q => b2 ((kn_eq _ _).mpr (by rw [q]; rfl))
      obtain ⟨q9, q8, q7⟩ := sp_is.inl e1 b2
      refine tt_iconst (v := -1) rfl (tX10_newRule_0_ok (32, .iconst (-1), 1) (List.mem_of_getElem? (i := 16) rfl)) ?_
      refine tt_iret rfl ?_ (by decide) (by decide) (tX10_newRule_0_ok (33, .ireturn, 1) (List.mem_of_getElem? (i := 17) rfl))
      exact hq h1 _ Sg xs len rc at1 fl1 hH1 sg_le.rf (fun a L ha hl => ⟨ha, o1 a ⟨lab_ge ha st hl (by decide), lab_ge ha s_r hl (by decide), lab_ge ha s_k hl (by decide)⟩⟩) c_x1 f0 f14 ⟨T1.1, T1.2.1, T1.2.2.1, T1.2.2.2.1, T1.2.2.2.2.1⟩ (Or.inr ⟨Or.inr ⟨q9, q8⟩, rfl, rfl, by decide⟩) (fun _ _ _ => rfl) (fun a L ha hl => o1 a ⟨k_sg_ne ha st (by omega), k_sg_ne ha s_r (by omega), k_sg_ne ha s_k (by omega)⟩)
  · have b1 : 4 ≤ rc.toInt := by have := mt (kn_lt rc 4).mpr b1; have e4 : (4 : Int32).toInt = 4 := rfl; omega
    refine tt_iconst (v := -1) rfl (tX10_newRule_0_ok (8, .iconst (-1), 1) (List.mem_of_getElem? (i := 4) rfl)) ?_
    refine tt_iret rfl ?_ (by decide) (by decide) (tX10_newRule_0_ok (9, .ireturn, 1) (List.mem_of_getElem? (i := 5) rfl))
    exact hq h _ Sg xs len rc at0 fl0 hH sg_le.rf (fun a L ha hl => ⟨ha, rfl⟩) c_x f0 f14 T9 (Or.inr ⟨Or.inl b1, rfl, rfl, by decide⟩) (fun _ _ _ => rfl) (fun _ _ _ _ => rfl)
theorem sC_text (hT : k_TX tys cA A X) (hN : k_NX X) {so : Int32} {seed : Int64} : sC l D tys A X cA 44 1300 3 259 mX10_text x [.int so, .long seed] (o_text so) (a_text so) (n_text so) noN := by
  intro Sg h σ hH sx hC
  have hC9 := hC
  obtain ⟨xs, t, b, len, rc, at0, fl0, c_x, f0, f14, T, e1, e2⟩ := hC
  obtain ⟨st, sb⟩ := aC.sg hH sx c_x f0 T
  obtain ⟨xs2, c2, xl, ty⟩ := hH.obj sx (L := 0) rfl
  rw [c_x] at c2
  cases c2
  have hn : len.toInt.toNat = σ.2.1 := by omega
  obtain ⟨v1, f1, t1⟩ := ty 1 _ rfl
  obtain ⟨Pa, rfl, s_Pa⟩ := k_v.ref t1
  obtain ⟨v2, f2, t2⟩ := ty 2 _ rfl
  obtain ⟨P, rfl, s_P⟩ := k_v.ref t2
  obtain ⟨v3, f3, t3⟩ := ty 3 _ rfl
  obtain ⟨no, rfl, s_no⟩ := k_v.ref t3
  obtain ⟨v8, f8, t8⟩ := ty 8 _ rfl
  obtain ⟨fo, rfl, s_fo⟩ := k_v.ref t8
  obtain ⟨v10, f10, t10⟩ := ty 10 _ rfl
  obtain ⟨wn, rfl, s_wn⟩ := k_v.ref t10
  obtain ⟨v11, f11, t11⟩ := ty 11 _ rfl
  obtain ⟨sn, rfl, s_sn⟩ := k_v.ref t11
  obtain ⟨v12, f12, t12⟩ := ty 12 _ rfl
  obtain ⟨ra, rfl, s_ra⟩ := k_v.ref t12
  obtain ⟨v13, f13, t13⟩ := ty 13 _ rfl
  obtain ⟨r, rfl, s_r⟩ := k_v.ref t13
  obtain ⟨v14, f14b, t14⟩ := ty 14 _ rfl
  rw [f14] at f14b
  cases f14b
  obtain ⟨y14, ey, r1, r2⟩ := k_v.int t14
  cases ey
  have r1 : 0 ≤ rc.toInt := r1
  have r2 : rc.toInt ≤ 4 := r2
  show tt l D tys A X 44 1300 3 259 mX10_text _ 0 [(0, .ref x), (1, .int so), (2, .long seed)] [] h 0 0
  refine tt_iload_n rfl (List.Mem.tail _ (List.Mem.head _)) (tX10_text_0_ok (0, .iload_n 1, 1) (List.mem_of_getElem? (i := 0) rfl)) ?_
  refine tt_if_ne (tgt := 10) (tX10_text_0_ok (1, .ifCond .ne 9, 3) (List.mem_of_getElem? (i := 1) rfl)) rfl (fun b1 => ?_) (fun b1 => ?_)
  · have b1 : ¬ so.toInt = 0 := fun q => b1 ((kn_eq _ _).mpr q)
    refine tt_iload_n rfl (List.Mem.tail _ (List.Mem.head _)) (tX10_text_0_ok (10, .iload_n 1, 1) (List.mem_of_getElem? (i := 6) rfl)) ?_
    refine tt_iconst (v := 1) rfl (tX10_text_0_ok (11, .iconst 1, 1) (List.mem_of_getElem? (i := 7) rfl)) ?_
    refine tt_icmp_ne (tgt := 20) (tX10_text_0_ok (12, .if_icmp .ne 8, 3) (List.mem_of_getElem? (i := 8) rfl)) rfl (fun b2 => ?_) (fun b2 => ?_)
    · have b2 : ¬ so.toInt = 1 := fun q => b2 ((kn_eq _ _).mpr q)
      refine tt_iconst (v := -1) rfl (tX10_text_0_ok (20, .iconst (-1), 1) (List.mem_of_getElem? (i := 12) rfl)) ?_
      refine tt_iret rfl ?_ (by decide) (by decide) (tX10_text_0_ok (21, .ireturn, 1) (List.mem_of_getElem? (i := 13) rfl))
      have eo : o_text so σ = σ := by unfold o_text; rw [if_neg b1, if_neg b2]
      refine ⟨Sg, hH, sg_le.rf, fun a L ha _ => ⟨ha, rfl⟩, ?_, fun τ H => ⟨by rw [n_text_neg (fun q => b1 q.1)]; exact H, trivial⟩, -1, rfl, ?_⟩
      · rw [eo]
        exact hC9
      · unfold v_text
        rw [if_neg b1, if_neg b2]
        decide
    · have b2 : so.toInt = 1 := by rw [b2]; rfl
      obtain ⟨k, s, s_k, s_s, R⟩ := T_ru hH s_r
      refine tt_aload_n rfl (List.Mem.head _) (tX10_text_0_ok (15, .aload_n 0, 1) (List.mem_of_getElem? (i := 9) rfl)) ?_
      obtain ⟨e9, z1, z2, z3, z4, z5⟩ := (cllw_X10 (126, 0, 129) (List.mem_of_getElem? (i := 7) rfl))
      cases z1
      refine tt_callV (M' := mX10_newRule) (As := []) (rest := []) (ci := 9) (fr' := 42) (lo' := 1200) (mc' := 3) (ms' := 259) (tX10_text_0_ok (16, .invokevirtual 126, 3) (List.mem_of_getElem? (i := 10) rfl)) z5 z2 z3 z4 c_x rfl rfl rfl ⟨by decide, by decide⟩ ⟨by decide, by decide⟩ (Nat.le_of_ble_eq_true rfl) (Nat.le_of_ble_eq_true rfl) (t_newRule (Q := fun v g => a_text so σ v ∧ ∃ Sg1, k_H Sg1 cA Lb g ∧ sg_le Sg Sg1 ∧ (∀ a L, Sg1 a = some L → 50 ≤ L → Sg a = some L ∧ g a = h a) ∧ aC cA g x (o_text so σ) ∧ nC h g x σ (n_text so) noN v) hT.1 hN hH sx st sb s_r s_k s_s s_ra c_x f0 f12 f13 f14 ⟨r1, r2⟩ T R (fun g v Sg1 xs1 len1 rc1 at1 fl1 q1 q2 q3 q4 q5 q6 q7 q8 kp kq => ?_)) (fun v1 g H1 => ?_)
      · have nt : nC h g x σ (n_text so) noN (some (.int v)) := fun τ H => ⟨by rw [n_text_neg (fun q => b1 q.1)]; exact H.mod hH sx c_x q4 (kp 1 (by decide) (by decide)) (kp 2 (by decide) (by decide)) (kp 8 (by decide) (by decide)) (fun a _ _ ha _ => kq a 2 ha (Or.inl rfl)) (fun a ha => kq a 4 ha (Or.inr rfl)), trivial⟩
        rw [hn] at q8
        rcases q8 with ⟨a1, ⟨a2, a3⟩, a4, a5, a6⟩ | ⟨a1, rfl, rfl, a6⟩
        · refine ⟨⟨v, rfl, ?_⟩, Sg1, q1, q2, q3, ?_, nt⟩
          · unfold v_text
            rw [if_neg b1, if_pos b2, if_pos ⟨by omega, by rw [a3]; rfl⟩]
            omega
          · unfold o_text
            rw [if_neg b1, if_pos b2, if_pos ⟨by omega, by rw [a3]; rfl⟩]
            exact ⟨xs1, t, b, len1, rc1, at1, fl1, q4, q5, q6, q7, a4, by show rc1.toInt = ((σ.2.2 + 1 : Nat) : Int); omega⟩
        · have nn : ¬ (σ.2.2 < 4 ∧ isRb (sp_rule σ.1 σ.2.1) = true) := by
            rintro ⟨c1, c2⟩
            rcases a1 with a1 | ⟨e, a1⟩
            · omega
            · rw [a1] at c2
              cases c2
          refine ⟨⟨v, rfl, ?_⟩, Sg1, q1, q2, q3, ?_, nt⟩
          · unfold v_text
            rw [if_neg b1, if_pos b2, if_neg nn]
            exact a6
          · unfold o_text
            rw [if_neg b1, if_pos b2, if_neg nn]
            exact ⟨xs1, t, b, len1, rc1, at1, fl1, q4, q5, q6, q7, e1, e2⟩
      · obtain ⟨⟨w9, rfl, hw9⟩, Sg1, q1, q2, q3, q4, q5⟩ := H1
        refine tt_iret rfl ?_ (by decide) (by decide) (tX10_text_0_ok (19, .ireturn, 1) (List.mem_of_getElem? (i := 11) rfl))
        exact ⟨Sg1, q1, q2, q3, q4, q5, w9, rfl, hw9⟩
  · have b1 : so.toInt = 0 := by rw [b1]; rfl
    refine tt_aload_n rfl (List.Mem.head _) (tX10_text_0_ok (4, .aload_n 0, 1) (List.mem_of_getElem? (i := 2) rfl)) ?_
    refine tt_lload_n rfl (List.Mem.tail _ (List.Mem.tail _ (List.Mem.head _))) (tX10_text_0_ok (5, .lload_n 2, 1) (List.mem_of_getElem? (i := 3) rfl)) ?_
    obtain ⟨e9, z1, z2, z3, z4, z5⟩ := (cllw_X10 (122, 0, 130) (List.mem_of_getElem? (i := 4) rfl))
    cases z1
    have kc : tt l D tys A X 8 300 0 0 mX10_newTown (fun v g => a_text so σ v ∧ k_H Sg cA Lb g ∧ (∀ a L, Sg a = some L → 50 ≤ L → g a = h a) ∧ aC cA g x (o_text so σ) ∧ nC h g x σ (n_text so) noN v) 0 [(0, .ref x), (1, .long seed)] [] h 0 0 := by
      refine h_newTown hT.1 (sat_3 hT) (by decide) (by decide) xl f0 f1 f2 f3 f8 f10 f11 sx st s_Pa s_P s_no s_fo s_wn s_sn sb hH c_x T (fun g v hg u z at1 fl1 c_t hz => ?_)
      refine ⟨⟨v, rfl, ?_⟩, hg, fun a L ha hl => k_U.same hH u ha (fun q hq e => ?_), ?_, fun τ H => ⟨?_, trivial⟩⟩
      · rw [hn] at hz
        unfold v_text
        rw [if_pos b1]
        rcases hz with ⟨⟨y1, y2⟩, -, y3, -⟩ | ⟨⟨y1, y2⟩, -, y3, -⟩
        · rw [if_pos (by rw [y2]; rfl)]
          exact y3
        · rw [if_neg (by rw [y2]; exact fun q => by cases q)]
          exact y3
      · have := List.all_eq_true.mp (show ([(0, 1), (0, 2), (0, 6), (1, 1), (1, 2), (1, 3), (2, 0), (3, 5), (3, 6), (4, 0), (4, 3), (4, 5), (11, 0), (12, 0), (13, 0), (14, 0), (15, 0), (16, 0), (17, 0), (18, 0), (19, 0), (20, 0), (21, 0), (22, 0), (25, 0), (32, 0)] : List (Nat × Nat)).all (fun q => decide (q.1 < 50)) = true by decide) q hq
        have := of_decide_eq_true this
        omega
      · obtain ⟨xs1, c1, k1⟩ := (u x 0 sx).1 _ _ c_x
        have c3 := k_U.same hH u sb (by decide)
        have q0 := (k1 0 (by decide)).trans f0
        have q14 := (k1 14 (by decide)).trans f14
        unfold o_text
        rw [if_pos b1]
        rw [hn] at hz
        rcases hz with ⟨⟨y1, y2⟩, y3, -⟩ | ⟨⟨y1, y2⟩, rfl, -⟩
        · rw [if_pos (by rw [y2]; rfl)]
          exact ⟨xs1, t, b, z, rc, at1, fl1, c1, q0, q14, ⟨c_t, c3.trans T.2.1, T.2.2.1, by omega, by omega⟩, y3, e2⟩
        · rw [if_neg (by rw [y2]; exact fun q => by cases q)]
          exact ⟨xs1, t, b, z, rc, at1, fl1, c1, q0, q14, ⟨c_t, c3.trans T.2.1, T.2.2⟩, e1, e2⟩
      · rw [hn] at hz
        rcases hz with ⟨⟨y1, y2⟩, -, y3, xs1, ps1, gs1, z0, z3, z5, d1, d2, d3, d4, d5, d6, d7, d8, d9, d10, d11, d12, d13⟩ | ⟨⟨y1, y2⟩, -, -, d1, d2, d3⟩
        · rw [n_text_pos b1 (by rw [y2]; rfl)]
          obtain ⟨xs9, ps9, gs9, Pa9, P9, fo9, n9, ga9, pe9, ta9, k1, k2, k3, k4, k5, -⟩ := H
          rw [c_x] at k1
          cases k1
          rw [f1] at k2
          cases k2
          rw [f2] at k3
          cases k3
          exact ⟨xs1, ps1, gs1, P, Pa, fo, v, z0, z3, z5, d1, d2, d3, d4, fun e => k5 e.symm, d5, d6, d7, d8, d9, d10, y3, by show z0.toInt = 0; exact d11, by show z3.toInt = 0; exact d12, by show z5.toInt = 0; exact d13⟩
        · rw [n_text_neg (fun q => by have q2 := q.2; rw [y2] at q2; cases q2)]
          exact H.mod hH sx c_x (d1.trans c_x) rfl rfl rfl (fun a P9 f9 ha ne => d2 a ha (by rw [f2] at f9; cases f9; exact ne)) d3
    refine tt_callV (M' := mX10_newTown) (As := [.long seed]) (rest := []) (ci := 9) (fr' := 8) (lo' := 300) (mc' := 0) (ms' := 0) (tX10_text_0_ok (6, .invokevirtual 122, 3) (List.mem_of_getElem? (i := 4) rfl)) z5 z2 z3 z4 c_x rfl rfl rfl ⟨by decide, by decide⟩ ⟨by decide, by decide⟩ (Nat.le_of_ble_eq_true rfl) (Nat.le_of_ble_eq_true rfl) kc (fun v1 g H1 => ?_)
    obtain ⟨⟨w9, rfl, hw9⟩, q1, q3, q4, q5⟩ := H1
    refine tt_iret rfl ?_ (by decide) (by decide) (tX10_text_0_ok (9, .ireturn, 1) (List.mem_of_getElem? (i := 5) rfl))
    exact ⟨Sg, q1, sg_le.rf, fun a L ha hl => ⟨ha, q3 a L ha hl⟩, q4, q5, w9, rfl, hw9⟩
end
