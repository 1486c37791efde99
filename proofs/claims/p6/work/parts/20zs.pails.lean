/-! the reference: rests and doPailsDo, their contracts -/
section
variable {l : Launch} {D : va_G} {tys : List (ClassId × FieldType)} {A : Nat → Prop} {X : State → Prop} {fr lo : Nat} {Q : Option Value → ch_H → Prop} {h : ch_H} {cA : Nat → ClassId} {Sg : Nat → Option Nat}
theorem T_br {Lb9 : Nat → k_I} {lw hg : Int} {m : Nat} (hH : k_H Sg cA Lb9 h) (s_m : Sg m = some 50) (h50 : Lb9 50 = Lb 50) (h55 : Lb9 55 = Lb 55) (h56 : Lb9 56 = (1, 0, 39, tw9 lw hg)) (h62 : Lb9 62 = Lb 62) (hlw : -4 ≤ lw) (hhg : hg ≤ 103) : ∃ (fs : List Value) (ro to we : Nat) (R T Wt : Nat → Int32) (pe rp : Int32), Sg ro = some 55 ∧ Sg to = some 56 ∧ Sg we = some 62 ∧ br9 cA h m fs ro to we R T Wt pe rp ∧ mi9 R T ∧ (∀ k, k < 12 → lw ≤ (T (18 + k)).toInt ∧ (T (18 + k)).toInt ≤ hg) ∧ fs.length = 47 ∧ rp.toInt ≤ 6 := by
  obtain ⟨fs, c_m, fl, ty⟩ := hH.obj s_m (L := 50) h50
  obtain ⟨v19, f19, t19⟩ := ty 19 _ rfl
  obtain ⟨ro, rfl, s_ro⟩ := k_v.ref t19
  obtain ⟨v20, f20, t20⟩ := ty 20 _ rfl
  obtain ⟨rp, rfl, rp0, rp6⟩ := k_v.int t20
  obtain ⟨v22, f22, t22⟩ := ty 22 _ rfl
  obtain ⟨to, rfl, s_to⟩ := k_v.ref t22
  obtain ⟨v28, f28, t28⟩ := ty 28 _ rfl
  obtain ⟨we, rfl, s_we⟩ := k_v.ref t28
  obtain ⟨v33, f33, t33⟩ := ty 33 _ rfl
  obtain ⟨pe, rfl, pe0, pe8⟩ := k_v.int t33
  obtain ⟨R, c_ro, hR⟩ := T_rope hH s_ro h55
  obtain ⟨T, c_to, hx, hw⟩ := T_town hH s_to h56
  obtain ⟨Wt, c_we, hW⟩ := hH.arr s_we (L := 62) h62
  refine ⟨fs, ro, to, we, R, T, Wt, pe, rp, s_ro, s_to, s_we, ⟨c_m, f19, f20, f22, f28, f33, c_ro, c_to, c_we, pe0, rp0, fun p hp => ?_, fun k hk => ?_, fun k hk => hW k hk, by omega, by omega⟩, fun p hp => ?_, hw, fl, rp6⟩
  · obtain ⟨-, -, r3, r4, -, r8⟩ := hR p hp
    exact ⟨r3.1, r3.2, r4.1, r4.2, r8⟩
  · have := hw k hk
    exact ⟨by omega, by omega⟩
  · obtain ⟨r1, -, -, -, r7, -⟩ := hR p hp
    have := hx p hp
    exact ⟨r7.1, r7.2, r1.1, r1.2, this.1, this.2⟩
theorem hand_X11_rests {mi : Nat} (hT : k_TX tys cA A X) (hm : k_pM mi = mX11_rests) : k_sat l D tys A X Sg cA Lb (mi, [(2, 50, 0)], [], some (0, -2147483648, 2147483647), [(50, 36), (56, 0)], 20, 900) := by
  intro h vals hH hlen hv hk
  obtain ⟨w0, p0, q0⟩ := hv 0 _ rfl
  obtain ⟨m, rfl, s_m⟩ := k_v.ref q0
  match vals, hlen, p0 with
  | [_], _, p0 =>
    cases p0
    obtain ⟨fs, ro, to, we, R, T, Wt, pe, rp, s_ro, s_to, s_we, H, hmi, hw, -, -⟩ := T_br hH s_m rfl rfl Lb_56 rfl (by decide) (by decide)
    show tt l D tys A X 20 900 0 0 (k_pM mi) _ 0 _ [] h 0 0
    rw [hm]
    show ww l D tys A X 20 900 mX11_rests _ 0 [(0, .ref m)] [] h
    refine h_rests hT.1 (k_sg_ne s_m s_to (by decide)) (k_sg_ne s_ro s_to (by decide)) (k_sg_ne s_we s_to (by decide)) (by decide) (by decide) H hmi (fun h1 T1 v r1 r2 r3 r4 => ?_)
    exact ⟨hH.twm s_to Lb_56 r1.2.2.2.2.2.2.2.1 (fun i hi => (r2 i hi).2.2.2.2) (fun k hk => by rw [r3 (18 + k) (by omega) (by omega)]; exact hw k hk) r4, k_U.ast (W := [(50, 36), (56, 0)]) s_to (by decide) H.2.2.2.2.2.2.2.1 r4, _, rfl, k_v.top v⟩
theorem h_pbL (hT : k_tys tys cA) {m to kp : Nat} {fs : List Value} {K : Nat → Int32} {kd : Int64} {h0 : ch_H} (n_m_to : m ≠ to) (n_to_m : to ≠ m) (n_kp_to : kp ≠ to) (n_kp_m : kp ≠ m) (fl : fs.length = 47) (fL22 : fs[22]? = some (.ref to)) (fL23 : fs[23]? = some (.ref kp)) (fL37 : fs[37]? = some (.long kd)) (hq : ∀ (g : ch_H) (T1 : Nat → Int32) (fs1 : List Value), g to = some (.inl (cA 0, 39, .inl T1)) → (∀ i, i < 39 → T1 i = K i) → g m = some (.inr (10, fs1)) → fs1.length = 47 → fs1[36]? = some (.long kd) → (∀ j, j ≠ 36 → fs1[j]? = fs[j]?) → (∀ q, q ≠ to ∧ q ≠ m → g q = h0 q) → Q none g) : ∀ (j : Nat) (k : Int32) (h : ch_H) (T : Nat → Int32), 0 ≤ k.toInt → k.toInt + j = 39 → h m = some (.inr (10, fs)) → h to = some (.inl (cA 0, 39, .inl T)) → h kp = some (.inl (cA 0, 39, .inl K)) → (∀ i, i < k.toInt.toNat → T i = K i) → (∀ q, q ≠ to → h q = h0 q) → ww l D tys A X fr lo mX11_putBack Q 2 [(1, .int k), (0, .ref m)] [] h := by
  intro j
  induction j using Nat.strongRecOn with
  | ind j ih =>
    intro k h T hk hj c_m c_to c_kp hT0 ho
    refine w_iload_n (List.Mem.head _) (tX11_putBack_0_ok (2, .iload_n 1, 1) (List.mem_of_getElem? (i := 2) rfl)) ?_
    refine w_bipush (by decide) (tX11_putBack_0_ok (3, .bipush 39, 2) (List.mem_of_getElem? (i := 3) rfl)) (fun v1 e2 => ?_)
    refine w_icmp_ge (tgt := 26) (tX11_putBack_0_ok (5, .if_icmp .ge 21, 3) (List.mem_of_getElem? (i := 4) rfl)) rfl (fun b3 => ?_) (fun b3 => ?_)
    · refine w_aload_n (List.Mem.tail _ (List.Mem.head _)) (tX11_putBack_0_ok (26, .aload_n 0, 1) (List.mem_of_getElem? (i := 15) rfl)) ?_
      refine w_aload_n (List.Mem.tail _ (List.Mem.head _)) (tX11_putBack_0_ok (27, .aload_n 0, 1) (List.mem_of_getElem? (i := 16) rfl)) ?_
      refine w_get (own := 16) rfl rfl (by decide) c_m fL37 (tX11_putBack_0_ok (28, .getfield 314, 3) (List.mem_of_getElem? (i := 17) rfl)) ?_
      refine w_putF (own := 16) (ci := 10) (k := 36) rfl rfl (by decide) rfl ⟨rfl, rfl⟩ c_m (by rw [fl]; decide) (tX11_putBack_0_ok (31, .putfield 270, 3) (List.mem_of_getElem? (i := 18) rfl)) (fun h4 fs7 l8 k9 j10 c5 o6 => ?_)
      rw [fl] at l8
      have f11 := (j10 22 (by decide)).trans fL22
      have f12 := (j10 23 (by decide)).trans fL23
      have f13 := (j10 37 (by decide)).trans fL37
      have c14 := (o6 to n_to_m).trans c_to
      have c15 := (o6 kp n_kp_m).trans c_kp
      refine w_vret rfl (tX11_putBack_0_ok (34, .return_, 1) (List.mem_of_getElem? (i := 19) rfl)) ?_
      exact hq _ T fs7 c14 (fun i hi => hT0 i (by omega)) c5 l8 k9 j10 (fun q hq => (o6 q hq.2).trans (ho q hq.1))
    · refine w_aload_n (List.Mem.tail _ (List.Mem.head _)) (tX11_putBack_0_ok (8, .aload_n 0, 1) (List.mem_of_getElem? (i := 5) rfl)) ?_
      refine w_get (own := 16) rfl rfl (by decide) c_m fL22 (tX11_putBack_0_ok (9, .getfield 45, 3) (List.mem_of_getElem? (i := 6) rfl)) ?_
      refine w_iload_n (List.Mem.head _) (tX11_putBack_0_ok (12, .iload_n 1, 1) (List.mem_of_getElem? (i := 7) rfl)) ?_
      refine w_aload_n (List.Mem.tail _ (List.Mem.head _)) (tX11_putBack_0_ok (13, .aload_n 0, 1) (List.mem_of_getElem? (i := 8) rfl)) ?_
      refine w_get (own := 16) rfl rfl (by decide) c_m fL23 (tX11_putBack_0_ok (14, .getfield 48, 3) (List.mem_of_getElem? (i := 9) rfl)) ?_
      refine w_iload_n (List.Mem.head _) (tX11_putBack_0_ok (17, .iload_n 1, 1) (List.mem_of_getElem? (i := 10) rfl)) ?_
      refine w_iald hT c_kp (by omega) (by omega) (tX11_putBack_0_ok (18, .iaload, 1) (List.mem_of_getElem? (i := 11) rfl)) (fun v16 e17 => ?_)
      refine w_iast hT c_to (by omega) (by omega) (tX11_putBack_0_ok (19, .iastore, 1) (List.mem_of_getElem? (i := 12) rfl)) (fun h18 c19 o20 => ?_)
      have c21 := (o20 m n_m_to).trans c_m
      have c22 := (o20 kp n_kp_to).trans c_kp
      refine w_iinc (fun v23 => [(1, .int v23), (0, .ref m)]) (fun _ => rfl) (List.Mem.head _) (Nat.le_of_ble_eq_true rfl) (by decide) (by omega) (by omega) (tX11_putBack_0_ok (20, .iinc 1 1, 3) (List.mem_of_getElem? (i := 13) rfl)) (fun v23 e24 => ?_)
      refine w_goto (tgt := 2) (tX11_putBack_0_ok (23, .goto (-21), 3) (List.mem_of_getElem? (i := 14) rfl)) rfl ?_
      refine w_lv [(1, .int v23), (0, .ref m)] (by intro q hq; simp only [List.mem_cons, List.not_mem_nil, or_false] at hq ⊢; rcases hq with e | e <;> subst e <;> simp) ?_
      refine ih (j - 1) (by omega) _ _ (upd T k.toInt.toNat v16) (by omega) (by omega) c21 c19 c22 (fun i hi => ?_) (fun q hq => (o20 q hq).trans (ho q hq))
      by_cases q : i = k.toInt.toNat
      · subst q
        rw [pk_us]
        exact (kn_eq _ _).mpr e17
      · rw [pk_un q]
        exact hT0 i (by omega)
theorem h_putBack (hT : k_tys tys cA) {m to kp : Nat} {fs : List Value} {T K : Nat → Int32} {kd : Int64} (n_m_to : m ≠ to) (n_to_m : to ≠ m) (n_kp_to : kp ≠ to) (n_kp_m : kp ≠ m) (fl : fs.length = 47) (fL22 : fs[22]? = some (.ref to)) (fL23 : fs[23]? = some (.ref kp)) (fL37 : fs[37]? = some (.long kd)) (c_m : h m = some (.inr (10, fs))) (c_to : h to = some (.inl (cA 0, 39, .inl T))) (c_kp : h kp = some (.inl (cA 0, 39, .inl K))) (hq : ∀ (g : ch_H) (T1 : Nat → Int32) (fs1 : List Value), g to = some (.inl (cA 0, 39, .inl T1)) → (∀ i, i < 39 → T1 i = K i) → g m = some (.inr (10, fs1)) → fs1.length = 47 → fs1[36]? = some (.long kd) → (∀ j, j ≠ 36 → fs1[j]? = fs[j]?) → (∀ q, q ≠ to ∧ q ≠ m → g q = h q) → Q none g) : ww l D tys A X fr lo mX11_putBack Q 0 [(0, .ref m)] [] h := by
  refine w_iconst (by decide) (tX11_putBack_0_ok (0, .iconst 0, 1) (List.mem_of_getElem? (i := 0) rfl)) (fun v1 e2 => ?_)
  refine w_istore_n [(1, .int v1), (0, .ref m)] rfl (Nat.le_of_ble_eq_true rfl) (tX11_putBack_0_ok (1, .istore_n 1, 1) (List.mem_of_getElem? (i := 1) rfl)) ?_
  refine w_lv [(1, .int v1), (0, .ref m)] (by intro q hq; simp only [List.mem_cons, List.not_mem_nil, or_false] at hq ⊢; rcases hq with e | e <;> subst e <;> simp) ?_
  exact h_pbL hT n_m_to n_to_m n_kp_to n_kp_m fl fL22 fL23 fL37 hq 39 _ _ T (by omega) (by omega) c_m c_to c_kp (fun i hi => by omega) (fun q hq => rfl)
theorem h_pdL (hT : k_tys tys cA) {m to pa : Nat} {fs : List Value} {T0 P : Nat → Int32} {rp : Int32} {h0 : ch_H} (n_m_to : m ≠ to) (n_pa_to : pa ≠ to) (fL20 : fs[20]? = some (.int rp)) (fL22 : fs[22]? = some (.ref to)) (fL40 : fs[40]? = some (.ref pa)) (hrp : 0 ≤ rp.toInt ∧ rp.toInt ≤ 6) (hw : ∀ k, k < 12 → 0 ≤ (T0 (18 + k)).toInt ∧ (T0 (18 + k)).toInt ≤ 99) (hP : ∀ k, k < 12 → -4 ≤ (P k).toInt ∧ (P k).toInt ≤ 4) (hq : ∀ (g : ch_H) (k1 : Int32) (T1 : Nat → Int32), g m = some (.inr (10, fs)) → g to = some (.inl (cA 0, 39, .inl T1)) → (∀ i, i < 18 → T1 i = T0 i) → (∀ q, q < 12 → -4 ≤ (T1 (18 + q)).toInt ∧ (T1 (18 + q)).toInt ≤ 103) → (∀ q, q ≠ to → g q = h0 q) → ww l D tys A X fr lo mX11_doPailsDo Q 40 [(1, .int k1), (0, .ref m)] [] g) : ∀ (j : Nat) (k : Int32) (h : ch_H) (T : Nat → Int32), 0 ≤ k.toInt → k.toInt + j = 2 * rp.toInt → h m = some (.inr (10, fs)) → h to = some (.inl (cA 0, 39, .inl T)) → h pa = some (.inl (cA 0, 12, .inl P)) → (∀ i, (i < 18 ∨ 18 + k.toInt.toNat ≤ i) → T i = T0 i) → (∀ q, q < 12 → q < k.toInt.toNat → -4 ≤ (T (18 + q)).toInt ∧ (T (18 + q)).toInt ≤ 103) → (∀ q, q ≠ to → h q = h0 q) → ww l D tys A X fr lo mX11_doPailsDo Q 6 [(1, .int k), (0, .ref m)] [] h := by
  intro j
  induction j using Nat.strongRecOn with
  | ind j ih =>
    intro k h T hk hj c_m c_to c_pa hge hlt ho
    refine w_iload_n (List.Mem.head _) (tX11_doPailsDo_0_ok (6, .iload_n 1, 1) (List.mem_of_getElem? (i := 4) rfl)) ?_
    refine w_iconst (by decide) (tX11_doPailsDo_0_ok (7, .iconst 2, 1) (List.mem_of_getElem? (i := 5) rfl)) (fun v1 e2 => ?_)
    refine w_aload_n (List.Mem.tail _ (List.Mem.head _)) (tX11_doPailsDo_0_ok (8, .aload_n 0, 1) (List.mem_of_getElem? (i := 6) rfl)) ?_
    refine w_get (own := 16) rfl rfl (by decide) c_m fL20 (tX11_doPailsDo_0_ok (9, .getfield 248, 3) (List.mem_of_getElem? (i := 7) rfl)) ?_
    refine w_imul (by assumption) (by omega) (by omega) (tX11_doPailsDo_0_ok (12, .imul, 1) (List.mem_of_getElem? (i := 8) rfl)) (fun v3 e4 => ?_)
    refine w_icmp_ge (tgt := 40) (tX11_doPailsDo_0_ok (13, .if_icmp .ge 27, 3) (List.mem_of_getElem? (i := 9) rfl)) rfl (fun b5 => ?_) (fun b5 => ?_)
    · refine hq h k T c_m c_to (fun i hi => hge i (by omega)) (fun q q1 => ?_) ho
      by_cases z : q < k.toInt.toNat
      · exact hlt q q1 z
      · rw [hge (18 + q) (by omega)]
        have := hw q q1
        exact ⟨by omega, by omega⟩
    · refine w_aload_n (List.Mem.tail _ (List.Mem.head _)) (tX11_doPailsDo_0_ok (16, .aload_n 0, 1) (List.mem_of_getElem? (i := 10) rfl)) ?_
      refine w_get (own := 16) rfl rfl (by decide) c_m fL22 (tX11_doPailsDo_0_ok (17, .getfield 45, 3) (List.mem_of_getElem? (i := 11) rfl)) ?_
      refine w_bipush (by decide) (tX11_doPailsDo_0_ok (20, .bipush 18, 2) (List.mem_of_getElem? (i := 12) rfl)) (fun v6 e7 => ?_)
      refine w_iload_n (List.Mem.head _) (tX11_doPailsDo_0_ok (22, .iload_n 1, 1) (List.mem_of_getElem? (i := 13) rfl)) ?_
      refine w_iadd (by omega) (by omega) (tX11_doPailsDo_0_ok (23, .iadd, 1) (List.mem_of_getElem? (i := 14) rfl)) (fun v8 e9 => ?_)
      refine tt_dup2 rfl rfl (tX11_doPailsDo_0_ok (24, .dup2, 1) (List.mem_of_getElem? (i := 15) rfl)) ?_
      show ww l D tys A X fr lo mX11_doPailsDo Q 25 [(1, .int k), (0, .ref m)] [.int v8, .ref to, .int v8, .ref to] h
      refine w_iald hT c_to (by omega) (by omega) (tX11_doPailsDo_0_ok (25, .iaload, 1) (List.mem_of_getElem? (i := 16) rfl)) (fun v10 e11 => ?_)
      have i12 : v8.toInt.toNat = 18 + k.toInt.toNat := by omega
      rw [i12] at e11
      have t9 := hw k.toInt.toNat (by omega)
      have u9 := hge (18 + k.toInt.toNat) (by omega)
      rw [← u9] at t9
      refine w_aload_n (List.Mem.tail _ (List.Mem.head _)) (tX11_doPailsDo_0_ok (26, .aload_n 0, 1) (List.mem_of_getElem? (i := 17) rfl)) ?_
      refine w_get (own := 16) rfl rfl (by decide) c_m fL40 (tX11_doPailsDo_0_ok (27, .getfield 76, 3) (List.mem_of_getElem? (i := 18) rfl)) ?_
      refine w_iload_n (List.Mem.head _) (tX11_doPailsDo_0_ok (30, .iload_n 1, 1) (List.mem_of_getElem? (i := 19) rfl)) ?_
      refine w_iald hT c_pa (by omega) (by omega) (tX11_doPailsDo_0_ok (31, .iaload, 1) (List.mem_of_getElem? (i := 20) rfl)) (fun v13 e14 => ?_)
      have p9 := hP k.toInt.toNat (by omega)
      refine w_iadd (by omega) (by omega) (tX11_doPailsDo_0_ok (32, .iadd, 1) (List.mem_of_getElem? (i := 21) rfl)) (fun v15 e16 => ?_)
      refine w_iast hT c_to (by omega) (by omega) (tX11_doPailsDo_0_ok (33, .iastore, 1) (List.mem_of_getElem? (i := 22) rfl)) (fun h17 c18 o19 => ?_)
      have c20 := (o19 m n_m_to).trans c_m
      have c21 := (o19 pa n_pa_to).trans c_pa
      refine w_iinc (fun v22 => [(1, .int v22), (0, .ref m)]) (fun _ => rfl) (List.Mem.head _) (Nat.le_of_ble_eq_true rfl) (by decide) (by omega) (by omega) (tX11_doPailsDo_0_ok (34, .iinc 1 1, 3) (List.mem_of_getElem? (i := 23) rfl)) (fun v22 e23 => ?_)
      refine w_goto (tgt := 6) (tX11_doPailsDo_0_ok (37, .goto (-31), 3) (List.mem_of_getElem? (i := 24) rfl)) rfl ?_
      have y9 : v8.toInt.toNat = 18 + k.toInt.toNat := by omega
      refine w_lv [(1, .int v22), (0, .ref m)] (by intro q hq; simp only [List.mem_cons, List.not_mem_nil, or_false] at hq ⊢; rcases hq with e | e <;> subst e <;> simp) ?_
      refine ih (j - 1) (by omega) _ _ (upd T v8.toInt.toNat v15) (by omega) (by omega) c20 c18 c21 (fun i hi => ?_) (fun q q1 q2 => ?_) (fun q hq => (o19 q hq).trans (ho q hq))
      · rw [pk_un (by omega)]
        exact hge i (by omega)
      · by_cases z : 18 + q = v8.toInt.toNat
        · rw [z, pk_us]
          exact ⟨by omega, by omega⟩
        · rw [pk_un z]
          exact hlt q q1 (by omega)
theorem T_wide {h h1 : ch_H} {to : Nat} {T : Nat → Int32} (hH : k_H Sg cA Lb h) (s_to : Sg to = some 56) (c1 : h1 to = some (.inl (cA 0, 39, .inl T))) (h2 : ∀ i, i < 6 → 0 ≤ (T i).toInt ∧ (T i).toInt ≤ 20) (h3 : ∀ k, k < 12 → -4 ≤ (T (18 + k)).toInt ∧ (T (18 + k)).toInt ≤ 103) (o : ∀ q, q ≠ to → h1 q = h q) : k_H Sg cA Lb2 h1 := by
  intro a L ha
  by_cases q : a = to
  · subst q
    rw [s_to] at ha
    cases ha
    exact ⟨_, c1, by rw [Lb2_56]; exact Or.inr (Or.inl ⟨rfl, T, rfl, tw_mk h2 h3⟩)⟩
  · rw [o a q]
    by_cases q2 : L = 56
    · subst q2
      obtain ⟨T9, c9, b1, b2⟩ := T_town hH ha Lb_56
      exact ⟨_, c9, by rw [Lb2_56]; exact Or.inr (Or.inl ⟨rfl, T9, rfl, tw_mk b1 (fun k hk => by have := b2 k hk; exact ⟨by omega, by omega⟩)⟩)⟩
    · have e : Lb2 L = Lb L := by
        unfold Lb2
        rw [if_neg q2]
      rw [e]
      exact hH a L ha
theorem T_back6 {h h1 : ch_H} {m to : Nat} {T : Nat → Int32} {fs fs1 : List Value} {kd : Int64} (hH : k_H Sg cA Lb h) (s_m : Sg m = some 50) (s_to : Sg to = some 56) (c0 : h m = some (.inr (10, fs))) (c1 : h1 to = some (.inl (cA 0, 39, .inl T))) (h2 : ∀ i, i < 6 → 0 ≤ (T i).toInt ∧ (T i).toInt ≤ 20) (h3 : ∀ k, k < 12 → 0 ≤ (T (18 + k)).toInt ∧ (T (18 + k)).toInt ≤ 99) (c_m : h1 m = some (.inr (10, fs1))) (fl : fs1.length = 47) (f36 : fs1[36]? = some (.long kd)) (f : ∀ j, j ≠ 36 → fs1[j]? = fs[j]?) (o : ∀ a L, Sg a = some L → a ≠ to → a ≠ m → h1 a = h a) : k_H Sg cA Lb h1 := by
  intro a L ha
  by_cases q : a = to
  · subst q
    rw [s_to] at ha
    cases ha
    exact ⟨_, c1, by rw [Lb_56]; exact Or.inr (Or.inl ⟨rfl, T, rfl, tw_mk h2 h3⟩)⟩
  · by_cases q2 : a = m
    · subst q2
      rw [s_m] at ha
      cases ha
      obtain ⟨fs0, c9, -, ty⟩ := hH.obj s_m (L := 50) rfl
      rw [c0] at c9
      cases c9
      refine ⟨_, c_m, Or.inl ⟨rfl, fs1, rfl, fl, fun k t hk => ?_⟩⟩
      by_cases q3 : k = 36
      · subst q3
        cases hk
        exact ⟨_, f36, _, rfl⟩
      · rw [f k q3]
        exact ty k t hk
    · rw [o a L ha q q2]
      exact hH a L ha
theorem T_U6 {h h1 : ch_H} {m to : Nat} {T : Nat → Int32} {fs fs1 : List Value} (s_m : Sg m = some 50) (s_to : Sg to = some 56) (c0 : h m = some (.inr (10, fs))) (c2 : h to = some (.inl (cA 0, 39, .inl T))) (c_m : h1 m = some (.inr (10, fs1))) (f : ∀ j, j ≠ 36 → fs1[j]? = fs[j]?) (o : ∀ a L, Sg a = some L → a ≠ to → a ≠ m → h1 a = h a) : k_U Sg [(50, 36), (50, 37), (56, 0), (57, 0)] h h1 := by
  intro a L ha
  refine ⟨fun ci fs2 e => ?_, fun e he hn => ?_⟩
  · have q : a ≠ to := fun e9 => by rw [e9, c2] at e; cases e
    by_cases q2 : a = m
    · subst q2
      rw [c0] at e
      cases e
      rw [s_m] at ha
      cases ha
      exact ⟨fs1, c_m, fun j hj => f j (fun e => hj (by rw [e]; decide))⟩
    · exact ⟨fs2, by rw [o a L ha q q2]; exact e, fun _ _ => rfl⟩
  · have q : a ≠ m := fun e9 => by rw [e9, c0] at he; cases he
    have q2 : a ≠ to := fun e9 => by
      rw [e9, s_to] at ha
      cases ha
      exact hn (by decide)
    rw [o a L ha q2 q]
    exact he
theorem hand_X11_doPailsDo {mi : Nat} (hT : k_TX tys cA A X) (hkp : k_sat l D tys A X Sg cA Lb (208, [(2, 50, 0)], [], none, [(50, 37), (57, 0)], 0, 0)) (hws : k_sat l D tys A X Sg cA Lb2 (261, [(2, 50, 0)], [], some (0, -2147483648, 2147483647), [], 8, 177)) (hwm : k_sat l D tys A X Sg cA Lb2 (260, [(2, 50, 0)], [], some (0, -2147483648, 2147483647), [], 0, 0)) (hm : k_pM mi = mX11_doPailsDo) : k_sat l D tys A X Sg cA Lb (mi, [(2, 50, 0)], [], some (0, 0, 1), [(50, 36), (50, 37), (56, 0), (57, 0)], 24, 1000) := by
  intro h vals hH hlen hv hk
  obtain ⟨w0, p0, q0⟩ := hv 0 _ rfl
  obtain ⟨m, rfl, s_m⟩ := k_v.ref q0
  match vals, hlen, p0 with
  | [_], _, p0 =>
    cases p0
    obtain ⟨fs0, c_m0, fl0, -⟩ := hH.obj s_m (L := 50) rfl
    show tt l D tys A X 24 1000 0 0 (k_pM mi) _ 0 _ [] h 0 0
    rw [hm]
    show ww l D tys A X 24 1000 mX11_doPailsDo _ 0 [(0, .ref m)] [] h
    refine w_aload_n (List.Mem.head _) (tX11_doPailsDo_0_ok (0, .aload_n 0, 1) (List.mem_of_getElem? (i := 0) rfl)) ?_
    refine w_callKV (own := 16) (mi := 208) [] [] rfl (cllw_X11 (332, 0, 208) (List.mem_of_getElem? (i := 51) rfl)) rfl rfl rfl c_m0 rfl hkp hH rfl (fun i ty hi => ?_) (by decide) (Nat.le_of_ble_eq_true rfl) (Nat.le_of_ble_eq_true rfl) (Nat.le_of_ble_eq_true rfl) (tX11_doPailsDo_0_ok (1, .invokevirtual 332, 3) (List.mem_of_getElem? (i := 1) rfl)) (fun zr1 zg2 zq3 zq4 zq5 => ?_)
    · match i, hi with
      | 0, hi => cases hi; exact ⟨_, rfl, m, rfl, s_m⟩
    have e9 : zr1 = none := zq5
    subst e9
    obtain ⟨fs, ro, to, we, R, T, Wt, pe, rp, s_ro, s_to, s_we, H, hmi, hw, fl, rp6⟩ := T_br zq3 s_m rfl rfl Lb_56 rfl (by decide) (by decide)
    obtain ⟨fs9, c_m9, -, ty⟩ := zq3.obj s_m (L := 50) rfl
    rw [H.1] at c_m9
    cases c_m9
    obtain ⟨v23, f23, t23⟩ := ty 23 _ rfl
    obtain ⟨kp, rfl, s_kp⟩ := k_v.ref t23
    obtain ⟨v40, f40, t40⟩ := ty 40 _ rfl
    obtain ⟨pa, rfl, s_pa⟩ := k_v.ref t40
    obtain ⟨v37, f37, kd, rfl⟩ := ty 37 _ rfl
    obtain ⟨K, c_kp, hKx, hKw⟩ := T_town zq3 s_kp Lb_57
    obtain ⟨P, c_pa, hP⟩ := zq3.arr s_pa (L := 66) rfl
    have H9 := H
    obtain ⟨c_m, f19, f20, f22, f28, f33, c_ro, c_to, c_we, pe0, rp0, hbo⟩ := H
    have n_m_to : m ≠ to := k_sg_ne s_m s_to (by decide)
    have n_to_m : to ≠ m := k_sg_ne s_to s_m (by decide)
    have n_kp_to : kp ≠ to := k_sg_ne s_kp s_to (by decide)
    have n_kp_m : kp ≠ m := k_sg_ne s_kp s_m (by decide)
    have n_pa_to : pa ≠ to := k_sg_ne s_pa s_to (by decide)
    have n_ro_to : ro ≠ to := k_sg_ne s_ro s_to (by decide)
    have n_we_to : we ≠ to := k_sg_ne s_we s_to (by decide)
    show ww l D tys A X 24 1000 mX11_doPailsDo _ 4 [(0, .ref m)] [] zg2
    refine w_iconst (by decide) (tX11_doPailsDo_0_ok (4, .iconst 0, 1) (List.mem_of_getElem? (i := 2) rfl)) (fun zv6 ze7 => ?_)
    refine w_istore_n [(1, .int zv6), (0, .ref m)] rfl (Nat.le_of_ble_eq_true rfl) (tX11_doPailsDo_0_ok (5, .istore_n 1, 1) (List.mem_of_getElem? (i := 3) rfl)) ?_
    refine w_lv [(1, .int zv6), (0, .ref m)] (by intro q hq; simp only [List.mem_cons, List.not_mem_nil, or_false] at hq ⊢; rcases hq with e | e <;> subst e <;> simp) ?_
    refine h_pdL hT.1 (h0 := zg2) n_m_to n_pa_to f20 f22 f40 ⟨rp0, rp6⟩ hw hP (fun g2 k2 T2 c_m2 c_to2 hx2 hw2 ho2 => ?_) (2 * rp.toInt.toNat) _ _ T (by omega) (by omega) c_m c_to c_pa (fun _ _ => rfl) (fun q q1 q2 => by omega) (fun _ _ => rfl)
    have H2 : br9 cA g2 m fs ro to we R T2 Wt pe rp := ⟨c_m2, f19, f20, f22, f28, f33, (ho2 ro n_ro_to).trans c_ro, c_to2, (ho2 we n_we_to).trans c_we, pe0, rp0, hbo.1, hw2, hbo.2.2⟩
    have hmi2 : mi9 R T2 := fun p hp => by rw [hx2 p (by omega)]; exact hmi p hp
    refine w_aload_n (List.Mem.tail _ (List.Mem.head _)) (tX11_doPailsDo_0_ok (40, .aload_n 0, 1) (List.mem_of_getElem? (i := 25) rfl)) ?_
    refine w_callV (own := 16) (mi := 237) [] [] [(0, .ref m)] rfl (cllw_X11 (311, 0, 237) (List.mem_of_getElem? (i := 45) rfl)) rfl rfl c_m2 rfl (by omega) (w_lo (n := 21) rfl (by omega)) (Nat.le_of_ble_eq_true rfl) (Nat.le_of_ble_eq_true rfl) rfl (tX11_doPailsDo_0_ok (41, .invokevirtual 311, 3) (List.mem_of_getElem? (i := 26) rfl)) (h_rests hT.1 n_m_to n_ro_to n_we_to (by decide) (Nat.le_of_ble_eq_true rfl) H2 hmi2 (fun g3 T3 v3 r1 r2 r3 r4 => ?_))
    have o3 : ∀ q, q ≠ to → g3 q = zg2 q := fun q hq => (r4 q hq).trans (ho2 q hq)
    have w3 : ∀ k, k < 12 → -4 ≤ (T3 (18 + k)).toInt ∧ (T3 (18 + k)).toInt ≤ 103 := fun k hk => by rw [r3 (18 + k) (by omega) (by omega)]; exact hw2 k hk
    have hH3 : k_H Sg cA Lb2 g3 := T_wide zq3 s_to r1.2.2.2.2.2.2.2.1 (fun i hi => (r2 i hi).2.2.2.2) w3 o3
    show ww l D tys A X 24 1000 mX11_doPailsDo _ 44 [(1, .int k2), (0, .ref m)] [.int v3] g3
    refine w_istore_n [(1, .int v3), (0, .ref m)] rfl (Nat.le_of_ble_eq_true rfl) (tX11_doPailsDo_0_ok (44, .istore_n 1, 1) (List.mem_of_getElem? (i := 27) rfl)) ?_
    refine w_aload_n (List.Mem.tail _ (List.Mem.head _)) (tX11_doPailsDo_0_ok (45, .aload_n 0, 1) (List.mem_of_getElem? (i := 28) rfl)) ?_
    refine w_callKV (own := 16) (mi := 261) [] [] rfl (cllw_X11 (341, 0, 261) (List.mem_of_getElem? (i := 56) rfl)) rfl rfl rfl r1.1 rfl hws hH3 rfl (fun i ty hi => ?_) (by decide) (Nat.le_of_ble_eq_true rfl) (Nat.le_of_ble_eq_true rfl) (Nat.le_of_ble_eq_true rfl) (tX11_doPailsDo_0_ok (46, .invokevirtual 341, 3) (List.mem_of_getElem? (i := 29) rfl)) (fun zr8 zg9 zq10 zq11 zq12 => ?_)
    · match i, hi with
      | 0, hi => cases hi; exact ⟨_, rfl, m, rfl, s_m⟩
    obtain ⟨vA, eA, tA⟩ := zq12
    obtain ⟨xA, rfl, -, -⟩ := k_v.int tA
    subst eA
    have c_mA := (k_U.nil hH3 zq11 s_m).trans r1.1
    have nA : ∀ a L, Sg a = some L → zg9 a = g3 a := fun a L ha => k_U.nil hH3 zq11 ha
    show ww l D tys A X 24 1000 mX11_doPailsDo _ 49 [(1, .int v3), (0, .ref m)] [.int xA] zg9
    refine w_aload_n (List.Mem.tail _ (List.Mem.head _)) (tX11_doPailsDo_0_ok (49, .aload_n 0, 1) (List.mem_of_getElem? (i := 30) rfl)) ?_
    refine w_callKV (own := 16) (mi := 260) [] [.int xA] rfl (cllw_X11 (344, 0, 260) (List.mem_of_getElem? (i := 57) rfl)) rfl rfl rfl c_mA rfl hwm zq10 rfl (fun i ty hi => ?_) (by decide) (Nat.le_of_ble_eq_true rfl) (Nat.le_of_ble_eq_true rfl) (Nat.le_of_ble_eq_true rfl) (tX11_doPailsDo_0_ok (50, .invokevirtual 344, 3) (List.mem_of_getElem? (i := 31) rfl)) (fun zr13 zg14 zq15 zq16 zq17 => ?_)
    · match i, hi with
      | 0, hi => cases hi; exact ⟨_, rfl, m, rfl, s_m⟩
    obtain ⟨vB, eB, tB⟩ := zq17
    obtain ⟨xB, rfl, -, -⟩ := k_v.int tB
    subst eB
    have c_mB := (k_U.nil zq10 zq16 s_m).trans c_mA
    have nB : ∀ a L, Sg a = some L → zg14 a = zg9 a := fun a L ha => k_U.nil zq10 zq16 ha
    show ww l D tys A X 24 1000 mX11_doPailsDo _ 53 [(1, .int v3), (0, .ref m)] [.int xB, .int xA] zg14
    refine w_icmp_ne (tgt := 60) (tX11_doPailsDo_0_ok (53, .if_icmp .ne 7, 3) (List.mem_of_getElem? (i := 32) rfl)) rfl (fun zb18 => ?_) (fun zb18 => ?_)
    · refine w_iconst (by decide) (tX11_doPailsDo_0_ok (60, .iconst 0, 1) (List.mem_of_getElem? (i := 35) rfl)) (fun zv19 ze20 => ?_)
      refine w_istore_n [(2, .int zv19), (1, .int v3), (0, .ref m)] rfl (Nat.le_of_ble_eq_true rfl) (tX11_doPailsDo_0_ok (61, .istore_n 2, 1) (List.mem_of_getElem? (i := 36) rfl)) ?_
      refine w_aload_n (List.Mem.tail _ (List.Mem.tail _ (List.Mem.head _))) (tX11_doPailsDo_0_ok (62, .aload_n 0, 1) (List.mem_of_getElem? (i := 37) rfl)) ?_
      have o5 : ∀ a L, Sg a = some L → a ≠ to → zg14 a = zg2 a := fun a L ha hne => ((nB a L ha).trans (nA a L ha)).trans (o3 a hne)
      have c_to5 : zg14 to = some (.inl (cA 0, 39, .inl T3)) := ((nB to _ s_to).trans (nA to _ s_to)).trans r1.2.2.2.2.2.2.2.1
      refine w_callV (own := 16) (mi := 232) [] [] [(0, .ref m)] rfl (cllw_X11 (338, 0, 232) (List.mem_of_getElem? (i := 53) rfl)) rfl rfl c_mB rfl (by omega) (w_lo (n := 21) rfl (by omega)) (Nat.le_of_ble_eq_true rfl) (Nat.le_of_ble_eq_true rfl) rfl (tX11_doPailsDo_0_ok (63, .invokevirtual 338, 3) (List.mem_of_getElem? (i := 38) rfl)) (h_putBack hT.1 n_m_to n_to_m n_kp_to n_kp_m fl f22 f23 f37 c_mB c_to5 ((o5 kp _ s_kp n_kp_to).trans c_kp) (fun g6 T6 fs6 c_to6 hT6 c_m6 fl6 f36 f6 o6 => ?_))
      show ww l D tys A X 24 1000 mX11_doPailsDo _ 66 [(2, .int zv19), (1, .int v3), (0, .ref m)] [] g6
      refine w_iload_n (List.Mem.head _) (tX11_doPailsDo_0_ok (66, .iload_n 2, 1) (List.mem_of_getElem? (i := 39) rfl)) ?_
      refine w_zret rfl (by omega) (by omega) (tX11_doPailsDo_0_ok (67, .ireturn, 1) (List.mem_of_getElem? (i := 40) rfl)) ?_
      refine ⟨?_, ?_, _, rfl, zv19, rfl, by show (0 : Int) ≤ _; omega, by show _ ≤ (1 : Int); omega⟩
      · exact T_back6 zq3 s_m s_to H9.1 c_to6 (fun i hi => by rw [hT6 i (by omega)]; exact hKx i hi) (fun k hk => by rw [hT6 (18 + k) (by omega)]; exact hKw k hk) c_m6 fl6 f36 f6 (fun a L ha n1 n2 => (o6 a ⟨n1, n2⟩).trans (o5 a L ha n1))
      · exact (k_U.sub (W' := [(50, 36), (50, 37), (56, 0), (57, 0)]) (by decide) zq4).tr (T_U6 s_m s_to H9.1 c_to c_m6 f6 (fun a L ha n1 n2 => (o6 a ⟨n1, n2⟩).trans (o5 a L ha n1)))
    · refine w_iconst (by decide) (tX11_doPailsDo_0_ok (56, .iconst 1, 1) (List.mem_of_getElem? (i := 33) rfl)) (fun zv21 ze22 => ?_)
      refine w_goto (tgt := 61) (tX11_doPailsDo_0_ok (57, .goto 4, 3) (List.mem_of_getElem? (i := 34) rfl)) rfl ?_
      refine w_istore_n [(2, .int zv21), (1, .int v3), (0, .ref m)] rfl (Nat.le_of_ble_eq_true rfl) (tX11_doPailsDo_0_ok (61, .istore_n 2, 1) (List.mem_of_getElem? (i := 36) rfl)) ?_
      refine w_aload_n (List.Mem.tail _ (List.Mem.tail _ (List.Mem.head _))) (tX11_doPailsDo_0_ok (62, .aload_n 0, 1) (List.mem_of_getElem? (i := 37) rfl)) ?_
      have o5 : ∀ a L, Sg a = some L → a ≠ to → zg14 a = zg2 a := fun a L ha hne => ((nB a L ha).trans (nA a L ha)).trans (o3 a hne)
      have c_to5 : zg14 to = some (.inl (cA 0, 39, .inl T3)) := ((nB to _ s_to).trans (nA to _ s_to)).trans r1.2.2.2.2.2.2.2.1
      refine w_callV (own := 16) (mi := 232) [] [] [(0, .ref m)] rfl (cllw_X11 (338, 0, 232) (List.mem_of_getElem? (i := 53) rfl)) rfl rfl c_mB rfl (by omega) (w_lo (n := 21) rfl (by omega)) (Nat.le_of_ble_eq_true rfl) (Nat.le_of_ble_eq_true rfl) rfl (tX11_doPailsDo_0_ok (63, .invokevirtual 338, 3) (List.mem_of_getElem? (i := 38) rfl)) (h_putBack hT.1 n_m_to n_to_m n_kp_to n_kp_m fl f22 f23 f37 c_mB c_to5 ((o5 kp _ s_kp n_kp_to).trans c_kp) (fun g6 T6 fs6 c_to6 hT6 c_m6 fl6 f36 f6 o6 => ?_))
      show ww l D tys A X 24 1000 mX11_doPailsDo _ 66 [(2, .int zv21), (1, .int v3), (0, .ref m)] [] g6
      refine w_iload_n (List.Mem.head _) (tX11_doPailsDo_0_ok (66, .iload_n 2, 1) (List.mem_of_getElem? (i := 39) rfl)) ?_
      refine w_zret rfl (by omega) (by omega) (tX11_doPailsDo_0_ok (67, .ireturn, 1) (List.mem_of_getElem? (i := 40) rfl)) ?_
      refine ⟨?_, ?_, _, rfl, zv21, rfl, by show (0 : Int) ≤ _; omega, by show _ ≤ (1 : Int); omega⟩
      · exact T_back6 zq3 s_m s_to H9.1 c_to6 (fun i hi => by rw [hT6 i (by omega)]; exact hKx i hi) (fun k hk => by rw [hT6 (18 + k) (by omega)]; exact hKw k hk) c_m6 fl6 f36 f6 (fun a L ha n1 n2 => (o6 a ⟨n1, n2⟩).trans (o5 a L ha n1))
      · exact (k_U.sub (W' := [(50, 36), (50, 37), (56, 0), (57, 0)]) (by decide) zq4).tr (T_U6 s_m s_to H9.1 c_to c_m6 f6 (fun a L ha n1 n2 => (o6 a ⟨n1, n2⟩).trans (o5 a L ha n1)))
end
