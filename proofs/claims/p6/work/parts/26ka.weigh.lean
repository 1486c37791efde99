/-! the class: what rooms bear, how ROPES lean and pull -/
section
variable {R T Wt : Nat → Int32} {n r : Nat}
theorem hs_congr {B C : Nat → Int} {room : Nat} : ∀ p, (∀ q, q < p → (R (9 * q + 8)).toInt = (room : Int) → B (2 * q) + B (2 * q + 1) = C (2 * q) + C (2 * q + 1)) → sp_hs R B room p = sp_hs R C room p
  | 0, _ => rfl
  | p + 1, h => by
    rw [sp_hs, sp_hs, hs_congr p (fun q hq => h q (by omega))]
    split
    · next e => rw [h p (by omega) e]
    · rfl
theorem hs_zero {B : Nat → Int} {room : Nat} (hR : ∀ q, q < 6 → (R (9 * q + 8)).toInt ≤ 2 * (q : Int) - 1) : ∀ p, p ≤ 6 → 2 * p ≤ room + 2 → sp_hs R B room p = 0
  | 0, _, _ => rfl
  | p + 1, h6, h => by
    rw [sp_hs, hs_zero hR p (by omega) (by omega), if_neg]
    · rfl
    · have := hR p (by omega)
      omega
theorem br_st (h : bo R T Wt n r) : ∀ (d room : Nat), room < 12 → 6 ≤ d + room / 2 → sp_br R T Wt n r d room = sp_br R T Wt n r (d + 1) room
  | 0, room, h1, h2 => by omega
  | d + 1, room, h1, h2 => by
    rw [sp_br, sp_br, hs_congr r (fun q hq e => ?_)]
    have h6 := h.2.2.2.2
    have h9 := (h.1 q (by omega)).2.2.2.2
    rw [br_st h d (2 * q) (by omega) (by omega), br_st h d (2 * q + 1) (by omega) (by omega)]
/-- a room's own, without what hangs on it -/
def ow (R T Wt : Nat → Int32) (k room : Nat) : Int := (R (9 * (room / 2) + (3 + room % 2))).toInt + (T (18 + room)).toInt + sp_ps T Wt room k
theorem br_fix (h : bo R T Wt n r) {room : Nat} (hr : room < 12) : sp_br R T Wt n r 12 room = ow R T Wt n room + sp_hs R (sp_br R T Wt n r 12) room r := by
  rw [br_st h 12 room hr (by omega), sp_br]
  rfl
/-- how a ROPE leans -/
def ln9 (K b1 b2 : Int) : Int := if K = 2 then 0 else if K = 1 then 2 * b1 - b2 else b1 - b2
end

/-- the class's cells, by the reference's numbers -/
def cw (R T Wt : Nat → Int32) (gK gW gH gA gT gF : Nat → Int32) (n k : Nat) : Prop := (∀ p, p < n → (gK p).toInt = (R (9 * p)).toInt ∧ (gH p).toInt = (R (9 * p + 8)).toInt) ∧ (∀ q, q < 2 * n → (gW q).toInt = (R (9 * (q / 2) + (3 + q % 2))).toInt ∧ (gA q).toInt = (T (18 + q)).toInt) ∧ ∀ i, i < k → (gT i).toInt = (T (30 + i)).toInt ∧ (gF i).toInt = (Wt i).toInt
section
variable {l : Launch} {D : va_G} {tys : List (ClassId × FieldType)} {A : Nat → Prop} {X : State → Prop} {fr lo : Nat} {Q : Option Value → ch_H → Prop} {cA : Nat → ClassId} {h : ch_H} {R T Wt : Nat → Int32}
theorem c_wg1 (hT : k_tys tys cA) {w pl st fo wb wl pk pw ph sw sa fw : Nat} {ws ps ss gs : List Value} {gK gW gH gA gT gF : Nat → Int32} {nn pe rm : Int32} (w0 : ws[0]? = some (.ref wb)) (w1 : ws[1]? = some (.ref wl)) (p0 : ps[0]? = some (.int nn)) (p1 : ps[1]? = some (.ref pk)) (p4 : ps[4]? = some (.ref pw)) (p8 : ps[8]? = some (.ref ph)) (s3 : ss[3]? = some (.ref sw)) (s4 : ss[4]? = some (.ref sa)) (f3 : gs[3]? = some (.int pe)) (f4 : gs[4]? = some (.ref fw)) (nd : ∀ q, q ∈ [w, pl, st, fo, pk, pw, ph, sw, sa, fw] → q ≠ wb ∧ q ≠ wl) (nbl : wb ≠ wl) (hb : bo R T Wt pe.toInt.toNat nn.toInt.toNat) (hC : cw R T Wt gK gW gH gA gT gF nn.toInt.toNat pe.toInt.toNat) (hn : 0 ≤ nn.toInt ∧ nn.toInt ≤ 6) (hpe : 0 ≤ pe.toInt ∧ pe.toInt ≤ 8) (hrm : rm.toInt = 2 * nn.toInt) : ∀ (j : Nat) (i : Int32) (h : ch_H) (gB gL : Nat → Int32), i.toInt + j = rm.toInt → 0 ≤ i.toInt → (∀ q, q < i.toInt.toNat → (gB q).toInt = ow R T Wt 0 q) → h w = some (.inr (8, ws)) → h pl = some (.inr (4, ps)) → h st = some (.inr (6, ss)) → h fo = some (.inr (1, gs)) → h pk = some (.inl (cA 0, 6, .inl gK)) → h pw = some (.inl (cA 0, 12, .inl gW)) → h ph = some (.inl (cA 0, 6, .inl gH)) → h sw = some (.inl (cA 0, 12, .inl gA)) → h sa = some (.inl (cA 0, 8, .inl gT)) → h fw = some (.inl (cA 0, 8, .inl gF)) → h wb = some (.inl (cA 0, 12, .inl gB)) → h wl = some (.inl (cA 0, 6, .inl gL)) → (∀ (g : ch_H) (i1 : Int32) (gB gL : Nat → Int32), (∀ q, q < 2 * nn.toInt.toNat → (gB q).toInt = ow R T Wt 0 q) → g wb = some (.inl (cA 0, 12, .inl gB)) → g wl = some (.inl (cA 0, 6, .inl gL)) → (∀ q, q ≠ wb ∧ q ≠ wl → g q = h q) → ww l D tys A X fr lo mX9_weigh Q 46 [(5, .int i1), (4, .int rm), (0, .ref w), (1, .ref pl), (2, .ref st), (3, .ref fo)] [] g) → ww l D tys A X fr lo mX9_weigh Q 11 [(5, .int i), (4, .int rm), (0, .ref w), (1, .ref pl), (2, .ref st), (3, .ref fo)] [] h := by
  intro j
  induction j using Nat.strongRecOn with
  | ind j ih =>
    intro i h gB gL hd hd0 hi c_w c_pl c_st c_fo c_pk c_pw c_ph c_sw c_sa c_fw c_wb c_wl hq
    have n_w_wb := (nd w (by simp)).1
    have n_pl_wb := (nd pl (by simp)).1
    have n_st_wb := (nd st (by simp)).1
    have n_fo_wb := (nd fo (by simp)).1
    have n_pk_wb := (nd pk (by simp)).1
    have n_pw_wb := (nd pw (by simp)).1
    have n_ph_wb := (nd ph (by simp)).1
    have n_sw_wb := (nd sw (by simp)).1
    have n_sa_wb := (nd sa (by simp)).1
    have n_fw_wb := (nd fw (by simp)).1
    have n_w_wl := (nd w (by simp)).2
    have n_pl_wl := (nd pl (by simp)).2
    have n_st_wl := (nd st (by simp)).2
    have n_fo_wl := (nd fo (by simp)).2
    have n_pk_wl := (nd pk (by simp)).2
    have n_pw_wl := (nd pw (by simp)).2
    have n_ph_wl := (nd ph (by simp)).2
    have n_sw_wl := (nd sw (by simp)).2
    have n_sa_wl := (nd sa (by simp)).2
    have n_fw_wl := (nd fw (by simp)).2
    refine w_iload (List.Mem.head _) (tX9_weigh_0_ok (11, .iload 5, 2) (List.mem_of_getElem? (i := 7) rfl)) ?_
    refine w_iload (List.Mem.tail _ (List.Mem.head _)) (tX9_weigh_0_ok (13, .iload 4, 2) (List.mem_of_getElem? (i := 8) rfl)) ?_
    refine w_icmp_ge (tgt := 46) (tX9_weigh_0_ok (15, .if_icmp .ge 31, 3) (List.mem_of_getElem? (i := 9) rfl)) rfl (fun zb1 => ?_) (fun zb1 => ?_)
    · exact hq h i gB gL (fun q hq9 => hi q (by omega)) c_wb c_wl (fun _ _ => rfl)
    · refine w_aload_n (List.Mem.tail _ (List.Mem.tail _ (List.Mem.head _))) (tX9_weigh_0_ok (18, .aload_n 0, 1) (List.mem_of_getElem? (i := 10) rfl)) ?_
      refine w_get (own := 14) rfl rfl (by decide) c_w w0 (tX9_weigh_0_ok (19, .getfield 9, 3) (List.mem_of_getElem? (i := 11) rfl)) ?_
      refine w_iload (List.Mem.head _) (tX9_weigh_0_ok (22, .iload 5, 2) (List.mem_of_getElem? (i := 12) rfl)) ?_
      refine w_aload_n (List.Mem.tail _ (List.Mem.tail _ (List.Mem.tail _ (List.Mem.head _)))) (tX9_weigh_0_ok (24, .aload_n 1, 1) (List.mem_of_getElem? (i := 13) rfl)) ?_
      refine w_get (own := 14) rfl rfl (by decide) c_pl p4 (tX9_weigh_0_ok (25, .getfield 27, 3) (List.mem_of_getElem? (i := 14) rfl)) ?_
      refine w_iload (List.Mem.head _) (tX9_weigh_0_ok (28, .iload 5, 2) (List.mem_of_getElem? (i := 15) rfl)) ?_
      refine w_iald hT c_pw (by omega) (by omega) (tX9_weigh_0_ok (30, .iaload, 1) (List.mem_of_getElem? (i := 16) rfl)) (fun zv2 ze3 => ?_)
      have zz4 := hC.2.1 i.toInt.toNat (by omega)
      have zz4a := hb.own (room := i.toInt.toNat) (by omega)
      have zz4b := hb.2.1 i.toInt.toNat (by omega)
      refine w_aload_n (List.Mem.tail _ (List.Mem.tail _ (List.Mem.tail _ (List.Mem.tail _ (List.Mem.head _))))) (tX9_weigh_0_ok (31, .aload_n 2, 1) (List.mem_of_getElem? (i := 17) rfl)) ?_
      refine w_get (own := 14) rfl rfl (by decide) c_st s3 (tX9_weigh_0_ok (32, .getfield 30, 3) (List.mem_of_getElem? (i := 18) rfl)) ?_
      refine w_iload (List.Mem.head _) (tX9_weigh_0_ok (35, .iload 5, 2) (List.mem_of_getElem? (i := 19) rfl)) ?_
      refine w_iald hT c_sw (by omega) (by omega) (tX9_weigh_0_ok (37, .iaload, 1) (List.mem_of_getElem? (i := 20) rfl)) (fun zv5 ze6 => ?_)
      have zz7 := hC.2.1 i.toInt.toNat (by omega)
      have zz7a := hb.own (room := i.toInt.toNat) (by omega)
      have zz7b := hb.2.1 i.toInt.toNat (by omega)
      refine w_iadd (by omega) (by omega) (tX9_weigh_0_ok (38, .iadd, 1) (List.mem_of_getElem? (i := 21) rfl)) (fun zv8 ze9 => ?_)
      refine w_iast hT c_wb (by omega) (by omega) (tX9_weigh_0_ok (39, .iastore, 1) (List.mem_of_getElem? (i := 22) rfl)) (fun zh10 zc11 zo12 => ?_)
      have zc13 := (zo12 w n_w_wb).trans c_w
      have zc14 := (zo12 pl n_pl_wb).trans c_pl
      have zc15 := (zo12 st n_st_wb).trans c_st
      have zc16 := (zo12 fo n_fo_wb).trans c_fo
      have zc17 := (zo12 wl nbl.symm).trans c_wl
      have zc18 := (zo12 pk n_pk_wb).trans c_pk
      have zc19 := (zo12 pw n_pw_wb).trans c_pw
      have zc20 := (zo12 ph n_ph_wb).trans c_ph
      have zc21 := (zo12 sw n_sw_wb).trans c_sw
      have zc22 := (zo12 sa n_sa_wb).trans c_sa
      have zc23 := (zo12 fw n_fw_wb).trans c_fw
      refine w_iinc (fun zv24 => [(5, .int zv24), (4, .int rm), (0, .ref w), (1, .ref pl), (2, .ref st), (3, .ref fo)]) (fun _ => rfl) (List.Mem.head _) (Nat.le_of_ble_eq_true rfl) (by decide) (by omega) (by omega) (tX9_weigh_0_ok (40, .iinc 5 1, 3) (List.mem_of_getElem? (i := 23) rfl)) (fun zv24 ze25 => ?_)
      refine w_goto (tgt := 11) (tX9_weigh_0_ok (43, .goto (-32), 3) (List.mem_of_getElem? (i := 24) rfl)) rfl ?_
      refine w_lv [(5, .int zv24), (4, .int rm), (0, .ref w), (1, .ref pl), (2, .ref st), (3, .ref fo)] (by intro q hq; simp only [List.mem_cons, List.not_mem_nil, or_false] at hq ⊢; rcases hq with e | e | e | e | e | e <;> subst e <;> simp) ?_
      refine ih (j - 1) (by omega) _ _ _ _ (by omega) (by omega) (fun q hq9 => ?_) zc13 zc14 zc15 zc16 zc18 zc19 zc20 zc21 zc22 zc23 zc11 zc17 (fun g i1 gB gL q1 q2 q3 q4 => hq g i1 gB gL q1 q2 q3 (fun q hq => (q4 q hq).trans (zo12 q hq.1)))
      by_cases e9 : q = i.toInt.toNat
      · subst e9
        rw [upd_s]
        have z9 := hC.2.1 i.toInt.toNat (by omega)
        unfold ow
        rw [sp_ps]
        omega
      · rw [upd_n _ _ e9]
        exact hi q (by omega)
theorem c_wg2 (hT : k_tys tys cA) {w pl st fo wb wl pk pw ph sw sa fw : Nat} {ws ps ss gs : List Value} {gK gW gH gA gT gF : Nat → Int32} {nn pe rm : Int32} (w0 : ws[0]? = some (.ref wb)) (w1 : ws[1]? = some (.ref wl)) (p0 : ps[0]? = some (.int nn)) (p1 : ps[1]? = some (.ref pk)) (p4 : ps[4]? = some (.ref pw)) (p8 : ps[8]? = some (.ref ph)) (s3 : ss[3]? = some (.ref sw)) (s4 : ss[4]? = some (.ref sa)) (f3 : gs[3]? = some (.int pe)) (f4 : gs[4]? = some (.ref fw)) (nd : ∀ q, q ∈ [w, pl, st, fo, pk, pw, ph, sw, sa, fw] → q ≠ wb ∧ q ≠ wl) (nbl : wb ≠ wl) (hb : bo R T Wt pe.toInt.toNat nn.toInt.toNat) (hC : cw R T Wt gK gW gH gA gT gF nn.toInt.toNat pe.toInt.toNat) (hn : 0 ≤ nn.toInt ∧ nn.toInt ≤ 6) (hpe : 0 ≤ pe.toInt ∧ pe.toInt ≤ 8) (hrm : rm.toInt = 2 * nn.toInt) : ∀ (j : Nat) (i : Int32) (h : ch_H) (gB gL : Nat → Int32), i.toInt + j = pe.toInt → 0 ≤ i.toInt → (∀ q, q < 2 * nn.toInt.toNat → (gB q).toInt = ow R T Wt i.toInt.toNat q) → h w = some (.inr (8, ws)) → h pl = some (.inr (4, ps)) → h st = some (.inr (6, ss)) → h fo = some (.inr (1, gs)) → h pk = some (.inl (cA 0, 6, .inl gK)) → h pw = some (.inl (cA 0, 12, .inl gW)) → h ph = some (.inl (cA 0, 6, .inl gH)) → h sw = some (.inl (cA 0, 12, .inl gA)) → h sa = some (.inl (cA 0, 8, .inl gT)) → h fw = some (.inl (cA 0, 8, .inl gF)) → h wb = some (.inl (cA 0, 12, .inl gB)) → h wl = some (.inl (cA 0, 6, .inl gL)) → (∀ (g : ch_H) (i1 : Int32) (gB gL : Nat → Int32), (∀ q, q < 2 * nn.toInt.toNat → (gB q).toInt = ow R T Wt pe.toInt.toNat q) → g wb = some (.inl (cA 0, 12, .inl gB)) → g wl = some (.inl (cA 0, 6, .inl gL)) → (∀ q, q ≠ wb ∧ q ≠ wl → g q = h q) → ww l D tys A X fr lo mX9_weigh Q 102 [(5, .int i1), (4, .int rm), (0, .ref w), (1, .ref pl), (2, .ref st), (3, .ref fo)] [] g) → ww l D tys A X fr lo mX9_weigh Q 49 [(5, .int i), (4, .int rm), (0, .ref w), (1, .ref pl), (2, .ref st), (3, .ref fo)] [] h := by
  intro j
  induction j using Nat.strongRecOn with
  | ind j ih =>
    intro i h gB gL hd hd0 hi c_w c_pl c_st c_fo c_pk c_pw c_ph c_sw c_sa c_fw c_wb c_wl hq
    have n_w_wb := (nd w (by simp)).1
    have n_pl_wb := (nd pl (by simp)).1
    have n_st_wb := (nd st (by simp)).1
    have n_fo_wb := (nd fo (by simp)).1
    have n_pk_wb := (nd pk (by simp)).1
    have n_pw_wb := (nd pw (by simp)).1
    have n_ph_wb := (nd ph (by simp)).1
    have n_sw_wb := (nd sw (by simp)).1
    have n_sa_wb := (nd sa (by simp)).1
    have n_fw_wb := (nd fw (by simp)).1
    have n_w_wl := (nd w (by simp)).2
    have n_pl_wl := (nd pl (by simp)).2
    have n_st_wl := (nd st (by simp)).2
    have n_fo_wl := (nd fo (by simp)).2
    have n_pk_wl := (nd pk (by simp)).2
    have n_pw_wl := (nd pw (by simp)).2
    have n_ph_wl := (nd ph (by simp)).2
    have n_sw_wl := (nd sw (by simp)).2
    have n_sa_wl := (nd sa (by simp)).2
    have n_fw_wl := (nd fw (by simp)).2
    refine w_iload (List.Mem.head _) (tX9_weigh_0_ok (49, .iload 5, 2) (List.mem_of_getElem? (i := 27) rfl)) ?_
    refine w_aload_n (List.Mem.tail _ (List.Mem.tail _ (List.Mem.tail _ (List.Mem.tail _ (List.Mem.tail _ (List.Mem.head _)))))) (tX9_weigh_0_ok (51, .aload_n 3, 1) (List.mem_of_getElem? (i := 28) rfl)) ?_
    refine w_get (own := 14) rfl rfl (by decide) c_fo f3 (tX9_weigh_0_ok (52, .getfield 35, 3) (List.mem_of_getElem? (i := 29) rfl)) ?_
    refine w_icmp_ge (tgt := 102) (tX9_weigh_0_ok (55, .if_icmp .ge 47, 3) (List.mem_of_getElem? (i := 30) rfl)) rfl (fun zb1 => ?_) (fun zb1 => ?_)
    · have y9 : i.toInt.toNat = pe.toInt.toNat := by omega
      rw [y9] at hi
      exact hq h i gB gL hi c_wb c_wl (fun _ _ => rfl)
    · refine w_aload_n (List.Mem.tail _ (List.Mem.tail _ (List.Mem.tail _ (List.Mem.tail _ (List.Mem.head _))))) (tX9_weigh_0_ok (58, .aload_n 2, 1) (List.mem_of_getElem? (i := 31) rfl)) ?_
      refine w_get (own := 14) rfl rfl (by decide) c_st s4 (tX9_weigh_0_ok (59, .getfield 40, 3) (List.mem_of_getElem? (i := 32) rfl)) ?_
      refine w_iload (List.Mem.head _) (tX9_weigh_0_ok (62, .iload 5, 2) (List.mem_of_getElem? (i := 33) rfl)) ?_
      refine w_iald hT c_sa (by omega) (by omega) (tX9_weigh_0_ok (64, .iaload, 1) (List.mem_of_getElem? (i := 34) rfl)) (fun zv2 ze3 => ?_)
      have zz4 := hC.2.2 i.toInt.toNat (by omega)
      refine w_istore [(6, .int zv2), (5, .int i), (4, .int rm), (0, .ref w), (1, .ref pl), (2, .ref st), (3, .ref fo)] rfl (Nat.le_of_ble_eq_true rfl) (tX9_weigh_0_ok (65, .istore 6, 2) (List.mem_of_getElem? (i := 35) rfl)) ?_
      refine w_iload (List.Mem.head _) (tX9_weigh_0_ok (67, .iload 6, 2) (List.mem_of_getElem? (i := 36) rfl)) ?_
      refine w_if_lt (tgt := 96) (tX9_weigh_0_ok (69, .ifCond .lt 27, 3) (List.mem_of_getElem? (i := 37) rfl)) rfl (fun zb5 => ?_) (fun zb5 => ?_)
      · refine w_iinc (fun zv6 => [(5, .int zv6), (6, .int zv2), (4, .int rm), (0, .ref w), (1, .ref pl), (2, .ref st), (3, .ref fo)]) (fun _ => rfl) (List.Mem.tail _ (List.Mem.head _)) (Nat.le_of_ble_eq_true rfl) (by decide) (by omega) (by omega) (tX9_weigh_0_ok (96, .iinc 5 1, 3) (List.mem_of_getElem? (i := 52) rfl)) (fun zv6 ze7 => ?_)
        refine w_goto (tgt := 49) (tX9_weigh_0_ok (99, .goto (-50), 3) (List.mem_of_getElem? (i := 53) rfl)) rfl ?_
        refine w_lv [(5, .int zv6), (4, .int rm), (0, .ref w), (1, .ref pl), (2, .ref st), (3, .ref fo)] (by intro q hq; simp only [List.mem_cons, List.not_mem_nil, or_false] at hq ⊢; rcases hq with e | e | e | e | e | e <;> subst e <;> simp) ?_
        refine ih (j - 1) (by omega) _ _ _ _ (by omega) (by omega) (fun q hq9 => ?_) c_w c_pl c_st c_fo c_pk c_pw c_ph c_sw c_sa c_fw c_wb c_wl (fun g i1 gB gL q1 q2 q3 q4 => hq g i1 gB gL q1 q2 q3 (fun q hq => (q4 q hq).trans (rfl)))
        have y9 : zv6.toInt.toNat = i.toInt.toNat + 1 := by omega
        have y8 := hi q hq9
        unfold ow at y8 ⊢
        rw [y9, sp_ps]
        have z9 := hC.2.2 i.toInt.toNat (by omega)
        rw [if_neg (by omega)]
        omega
      · refine w_iload (List.Mem.head _) (tX9_weigh_0_ok (72, .iload 6, 2) (List.mem_of_getElem? (i := 38) rfl)) ?_
        refine w_iload (List.Mem.tail _ (List.Mem.tail _ (List.Mem.head _))) (tX9_weigh_0_ok (74, .iload 4, 2) (List.mem_of_getElem? (i := 39) rfl)) ?_
        refine w_icmp_ge (tgt := 96) (tX9_weigh_0_ok (76, .if_icmp .ge 20, 3) (List.mem_of_getElem? (i := 40) rfl)) rfl (fun zb8 => ?_) (fun zb8 => ?_)
        · refine w_iinc (fun zv9 => [(5, .int zv9), (6, .int zv2), (4, .int rm), (0, .ref w), (1, .ref pl), (2, .ref st), (3, .ref fo)]) (fun _ => rfl) (List.Mem.tail _ (List.Mem.head _)) (Nat.le_of_ble_eq_true rfl) (by decide) (by omega) (by omega) (tX9_weigh_0_ok (96, .iinc 5 1, 3) (List.mem_of_getElem? (i := 52) rfl)) (fun zv9 ze10 => ?_)
          refine w_goto (tgt := 49) (tX9_weigh_0_ok (99, .goto (-50), 3) (List.mem_of_getElem? (i := 53) rfl)) rfl ?_
          refine w_lv [(5, .int zv9), (4, .int rm), (0, .ref w), (1, .ref pl), (2, .ref st), (3, .ref fo)] (by intro q hq; simp only [List.mem_cons, List.not_mem_nil, or_false] at hq ⊢; rcases hq with e | e | e | e | e | e <;> subst e <;> simp) ?_
          refine ih (j - 1) (by omega) _ _ _ _ (by omega) (by omega) (fun q hq9 => ?_) c_w c_pl c_st c_fo c_pk c_pw c_ph c_sw c_sa c_fw c_wb c_wl (fun g i1 gB gL q1 q2 q3 q4 => hq g i1 gB gL q1 q2 q3 (fun q hq => (q4 q hq).trans (rfl)))
          have y9 : zv9.toInt.toNat = i.toInt.toNat + 1 := by omega
          have y8 := hi q hq9
          unfold ow at y8 ⊢
          rw [y9, sp_ps]
          have z9 := hC.2.2 i.toInt.toNat (by omega)
          rw [if_neg (by omega)]
          omega
        · refine w_aload_n (List.Mem.tail _ (List.Mem.tail _ (List.Mem.tail _ (List.Mem.head _)))) (tX9_weigh_0_ok (79, .aload_n 0, 1) (List.mem_of_getElem? (i := 41) rfl)) ?_
          refine w_get (own := 14) rfl rfl (by decide) c_w w0 (tX9_weigh_0_ok (80, .getfield 9, 3) (List.mem_of_getElem? (i := 42) rfl)) ?_
          refine w_iload (List.Mem.head _) (tX9_weigh_0_ok (83, .iload 6, 2) (List.mem_of_getElem? (i := 43) rfl)) ?_
          refine tt_dup2 rfl rfl (tX9_weigh_0_ok (85, .dup2, 1) (List.mem_of_getElem? (i := 44) rfl)) ?_
          show ww l D tys A X fr lo mX9_weigh Q 86 [(6, .int zv2), (5, .int i), (4, .int rm), (0, .ref w), (1, .ref pl), (2, .ref st), (3, .ref fo)] [.int zv2, .ref wb, .int zv2, .ref wb] h
          refine w_iald hT c_wb (by omega) (by omega) (tX9_weigh_0_ok (86, .iaload, 1) (List.mem_of_getElem? (i := 45) rfl)) (fun zv11 ze12 => ?_)
          have zz13 := hi zv2.toInt.toNat (by omega)
          have zz13a := hb.own (room := zv2.toInt.toNat) (by omega)
          have zz13b := hb.2.1 zv2.toInt.toNat (by omega)
          have zz13c := sp_ps_b (T := T) (room := zv2.toInt.toNat) hb.2.2.1 i.toInt.toNat (by omega)
          unfold ow at zz13
          refine w_aload_n (List.Mem.tail _ (List.Mem.tail _ (List.Mem.tail _ (List.Mem.tail _ (List.Mem.tail _ (List.Mem.tail _ (List.Mem.head _))))))) (tX9_weigh_0_ok (87, .aload_n 3, 1) (List.mem_of_getElem? (i := 46) rfl)) ?_
          refine w_get (own := 14) rfl rfl (by decide) c_fo f4 (tX9_weigh_0_ok (88, .getfield 43, 3) (List.mem_of_getElem? (i := 47) rfl)) ?_
          refine w_iload (List.Mem.tail _ (List.Mem.head _)) (tX9_weigh_0_ok (91, .iload 5, 2) (List.mem_of_getElem? (i := 48) rfl)) ?_
          refine w_iald hT c_fw (by omega) (by omega) (tX9_weigh_0_ok (93, .iaload, 1) (List.mem_of_getElem? (i := 49) rfl)) (fun zv14 ze15 => ?_)
          have zz16 := hb.2.2.1 i.toInt.toNat (by omega)
          have zz16a := hC.2.2 i.toInt.toNat (by omega)
          refine w_iadd (by omega) (by omega) (tX9_weigh_0_ok (94, .iadd, 1) (List.mem_of_getElem? (i := 50) rfl)) (fun zv17 ze18 => ?_)
          refine w_iast hT c_wb (by omega) (by omega) (tX9_weigh_0_ok (95, .iastore, 1) (List.mem_of_getElem? (i := 51) rfl)) (fun zh19 zc20 zo21 => ?_)
          have zc22 := (zo21 w n_w_wb).trans c_w
          have zc23 := (zo21 pl n_pl_wb).trans c_pl
          have zc24 := (zo21 st n_st_wb).trans c_st
          have zc25 := (zo21 fo n_fo_wb).trans c_fo
          have zc26 := (zo21 wl nbl.symm).trans c_wl
          have zc27 := (zo21 pk n_pk_wb).trans c_pk
          have zc28 := (zo21 pw n_pw_wb).trans c_pw
          have zc29 := (zo21 ph n_ph_wb).trans c_ph
          have zc30 := (zo21 sw n_sw_wb).trans c_sw
          have zc31 := (zo21 sa n_sa_wb).trans c_sa
          have zc32 := (zo21 fw n_fw_wb).trans c_fw
          refine w_iinc (fun zv33 => [(5, .int zv33), (6, .int zv2), (4, .int rm), (0, .ref w), (1, .ref pl), (2, .ref st), (3, .ref fo)]) (fun _ => rfl) (List.Mem.tail _ (List.Mem.head _)) (Nat.le_of_ble_eq_true rfl) (by decide) (by omega) (by omega) (tX9_weigh_0_ok (96, .iinc 5 1, 3) (List.mem_of_getElem? (i := 52) rfl)) (fun zv33 ze34 => ?_)
          refine w_goto (tgt := 49) (tX9_weigh_0_ok (99, .goto (-50), 3) (List.mem_of_getElem? (i := 53) rfl)) rfl ?_
          refine w_lv [(5, .int zv33), (4, .int rm), (0, .ref w), (1, .ref pl), (2, .ref st), (3, .ref fo)] (by intro q hq; simp only [List.mem_cons, List.not_mem_nil, or_false] at hq ⊢; rcases hq with e | e | e | e | e | e <;> subst e <;> simp) ?_
          refine ih (j - 1) (by omega) _ _ _ _ (by omega) (by omega) (fun q hq9 => ?_) zc22 zc23 zc24 zc25 zc27 zc28 zc29 zc30 zc31 zc32 zc20 zc26 (fun g i1 gB gL q1 q2 q3 q4 => hq g i1 gB gL q1 q2 q3 (fun q hq => (q4 q hq).trans (zo21 q hq.1)))
          have y9 : zv33.toInt.toNat = i.toInt.toNat + 1 := by omega
          have y8 := hi q hq9
          unfold ow at y8 ⊢
          rw [y9, sp_ps]
          have z9 := hC.2.2 i.toInt.toNat (by omega)
          by_cases e9 : q = zv2.toInt.toNat
          · subst e9
            rw [upd_s, if_pos (by omega)]
            omega
          · rw [upd_n _ _ e9, if_neg (by omega)]
            omega
theorem sh1_all : ∀ x, x < 12 → (Int32.ofNat x >>> (1 &&& 31)).toInt = ((x / 2 : Nat) : Int) ∧ (Int32.ofNat x &&& 1).toInt = ((x % 2 : Nat) : Int) := by decide +kernel
theorem shr1w {x z v : Int32} (hx : 0 ≤ x.toInt ∧ x.toInt ≤ 11) (hz : z.toInt = 1) (e : v = x >>> (z &&& 31)) : v.toInt = x.toInt / 2 := by
  have h1 := kn_nat (x := x) (n := x.toInt.toNat) (by omega)
  have h2 : z = 1 := (kn_eq _ _).mpr (by rw [hz]; rfl)
  have h3 := (sh1_all x.toInt.toNat (by omega)).1
  rw [← h1, ← h2, ← e] at h3
  omega
theorem and1w {x z v : Int32} (hx : 0 ≤ x.toInt ∧ x.toInt ≤ 11) (hz : z.toInt = 1) (e : v = x &&& z) : v.toInt = x.toInt % 2 := by
  have h1 := kn_nat (x := x) (n := x.toInt.toNat) (by omega)
  have h2 : z = 1 := (kn_eq _ _).mpr (by rw [hz]; rfl)
  have h3 := (sh1_all x.toInt.toNat (by omega)).2
  rw [← h1, ← h2, ← e] at h3
  omega
theorem c_lever {pl pk : Nat} {ps : List Value} {gK : Nat → Int32} {k : Int32} (hT : k_tys tys cA) (hk : 0 ≤ k.toInt ∧ k.toInt ≤ 11) (c_pl : h pl = some (.inr (4, ps))) (p1 : ps[1]? = some (.ref pk)) (c_pk : h pk = some (.inl (cA 0, 6, .inl gK))) (hq : ∀ v : Int32, v.toInt = (if (gK (k.toInt.toNat / 2)).toInt = 2 then 0 else if k.toInt % 2 = 1 then -1 else if (gK (k.toInt.toNat / 2)).toInt = 1 then 2 else 1) → Q (some (.int v)) h) : ww l D tys A X fr lo mX4_lever Q 0 [(0, .ref pl), (1, .int k)] [] h := by
  refine w_iload_n (List.Mem.tail _ (List.Mem.head _)) (tX4_lever_0_ok (0, .iload_n 1, 1) (List.mem_of_getElem? (i := 0) rfl)) ?_
  refine w_iconst (by decide) (tX4_lever_0_ok (1, .iconst 1, 1) (List.mem_of_getElem? (i := 1) rfl)) (fun yv1 ye2 => ?_)
  refine w_ishr (tX4_lever_0_ok (2, .ishr, 1) (List.mem_of_getElem? (i := 2) rfl)) (fun yv3 ye4 => ?_)
  have hs9 := shr1w (x := k) (z := yv1) (by omega) (by omega) ye4
  refine w_istore_n [(2, .int yv3), (0, .ref pl), (1, .int k)] rfl (Nat.le_of_ble_eq_true rfl) (tX4_lever_0_ok (3, .istore_n 2, 1) (List.mem_of_getElem? (i := 3) rfl)) ?_
  refine w_aload_n (List.Mem.tail _ (List.Mem.head _)) (tX4_lever_0_ok (4, .aload_n 0, 1) (List.mem_of_getElem? (i := 4) rfl)) ?_
  refine w_get (own := 9) rfl rfl (by decide) c_pl p1 (tX4_lever_0_ok (5, .getfield 9, 3) (List.mem_of_getElem? (i := 5) rfl)) ?_
  refine w_iload_n (List.Mem.head _) (tX4_lever_0_ok (8, .iload_n 2, 1) (List.mem_of_getElem? (i := 6) rfl)) ?_
  refine w_iald hT c_pk (by omega) (by omega) (tX4_lever_0_ok (9, .iaload, 1) (List.mem_of_getElem? (i := 7) rfl)) (fun yv5 ye6 => ?_)
  have yi7 : yv3.toInt.toNat = k.toInt.toNat / 2 := by omega
  rw [yi7] at ye6
  refine w_iconst (by decide) (tX4_lever_0_ok (10, .iconst 2, 1) (List.mem_of_getElem? (i := 8) rfl)) (fun yv8 ye9 => ?_)
  refine w_icmp_ne (tgt := 16) (tX4_lever_0_ok (11, .if_icmp .ne 5, 3) (List.mem_of_getElem? (i := 9) rfl)) rfl (fun yb10 => ?_) (fun yb10 => ?_)
  · refine w_iload_n (List.Mem.tail _ (List.Mem.tail _ (List.Mem.head _))) (tX4_lever_0_ok (16, .iload_n 1, 1) (List.mem_of_getElem? (i := 12) rfl)) ?_
    refine w_iconst (by decide) (tX4_lever_0_ok (17, .iconst 1, 1) (List.mem_of_getElem? (i := 13) rfl)) (fun yv11 ye12 => ?_)
    refine w_iand (tX4_lever_0_ok (18, .iand, 1) (List.mem_of_getElem? (i := 14) rfl)) (fun yv13 ye14 => ?_)
    have ha9 := and1w (x := k) (z := yv11) (by omega) (by omega) ye14
    refine w_if_eq (tgt := 24) (tX4_lever_0_ok (19, .ifCond .eq 5, 3) (List.mem_of_getElem? (i := 15) rfl)) rfl (fun yb15 => ?_) (fun yb15 => ?_)
    · refine w_aload_n (List.Mem.tail _ (List.Mem.head _)) (tX4_lever_0_ok (24, .aload_n 0, 1) (List.mem_of_getElem? (i := 18) rfl)) ?_
      refine w_get (own := 9) rfl rfl (by decide) c_pl p1 (tX4_lever_0_ok (25, .getfield 9, 3) (List.mem_of_getElem? (i := 19) rfl)) ?_
      refine w_iload_n (List.Mem.head _) (tX4_lever_0_ok (28, .iload_n 2, 1) (List.mem_of_getElem? (i := 20) rfl)) ?_
      refine w_iald hT c_pk (by omega) (by omega) (tX4_lever_0_ok (29, .iaload, 1) (List.mem_of_getElem? (i := 21) rfl)) (fun yv16 ye17 => ?_)
      have yi18 : yv3.toInt.toNat = k.toInt.toNat / 2 := by omega
      rw [yi18] at ye17
      refine w_iconst (by decide) (tX4_lever_0_ok (30, .iconst 1, 1) (List.mem_of_getElem? (i := 22) rfl)) (fun yv19 ye20 => ?_)
      refine w_icmp_ne (tgt := 38) (tX4_lever_0_ok (31, .if_icmp .ne 7, 3) (List.mem_of_getElem? (i := 23) rfl)) rfl (fun yb21 => ?_) (fun yb21 => ?_)
      · refine w_iconst (by decide) (tX4_lever_0_ok (38, .iconst 1, 1) (List.mem_of_getElem? (i := 26) rfl)) (fun yv22 ye23 => ?_)
        refine w_iret rfl (tX4_lever_0_ok (39, .ireturn, 1) (List.mem_of_getElem? (i := 27) rfl)) ?_
        refine hq _ ?_
        repeat (first | rw [if_pos (by omega)] | rw [if_neg (by omega)])
        omega
      · refine w_iconst (by decide) (tX4_lever_0_ok (34, .iconst 2, 1) (List.mem_of_getElem? (i := 24) rfl)) (fun yv24 ye25 => ?_)
        refine w_goto (tgt := 39) (tX4_lever_0_ok (35, .goto 4, 3) (List.mem_of_getElem? (i := 25) rfl)) rfl ?_
        refine w_iret rfl (tX4_lever_0_ok (39, .ireturn, 1) (List.mem_of_getElem? (i := 27) rfl)) ?_
        refine hq _ ?_
        repeat (first | rw [if_pos (by omega)] | rw [if_neg (by omega)])
        omega
    · refine w_iconst (by decide) (tX4_lever_0_ok (22, .iconst (-1), 1) (List.mem_of_getElem? (i := 16) rfl)) (fun yv26 ye27 => ?_)
      refine w_iret rfl (tX4_lever_0_ok (23, .ireturn, 1) (List.mem_of_getElem? (i := 17) rfl)) ?_
      refine hq _ ?_
      repeat (first | rw [if_pos (by omega)] | rw [if_neg (by omega)])
      omega
  · refine w_iconst (by decide) (tX4_lever_0_ok (14, .iconst 0, 1) (List.mem_of_getElem? (i := 10) rfl)) (fun yv28 ye29 => ?_)
    refine w_iret rfl (tX4_lever_0_ok (15, .ireturn, 1) (List.mem_of_getElem? (i := 11) rfl)) ?_
    refine hq _ ?_
    repeat (first | rw [if_pos (by omega)] | rw [if_neg (by omega)])
    omega
theorem w_imulS {M : ch_M} {pc : Nat} {lv : List (Nat × Value)} {st : List Value} {x y : Int32} (hx : -1 ≤ x.toInt ∧ x.toInt ≤ 2) (hy : -1000000 ≤ y.toInt ∧ y.toInt ≤ 1000000) (hd : decode M.2.1 pc = .ok (.imul, 1)) (k : ∀ v : Int32, v.toInt = x.toInt * y.toInt → -2000000 ≤ v.toInt → v.toInt ≤ 2000000 → ww l D tys A X fr lo M Q (pc + 1) lv (.int v :: st) h) : ww l D tys A X fr lo M Q pc lv (.int y :: .int x :: st) h := by
  have hc : x.toInt = -1 ∨ x.toInt = 0 ∨ x.toInt = 1 ∨ x.toInt = 2 := by omega
  have h1 : -2000000 ≤ x.toInt * y.toInt ∧ x.toInt * y.toInt ≤ 2000000 := by
    rcases hc with e | e | e | e <;> rw [e] <;> omega
  exact w_imul rfl (by omega) (by omega) hd (fun v e => k v e (by omega) (by omega))
theorem c_wg3 (hT : k_tys tys cA) {w pl st fo wb wl pk pw ph sw sa fw : Nat} {ws ps ss gs : List Value} {gK gW gH gA gT gF : Nat → Int32} {nn pe rm : Int32} (w0 : ws[0]? = some (.ref wb)) (w1 : ws[1]? = some (.ref wl)) (p0 : ps[0]? = some (.int nn)) (p1 : ps[1]? = some (.ref pk)) (p4 : ps[4]? = some (.ref pw)) (p8 : ps[8]? = some (.ref ph)) (s3 : ss[3]? = some (.ref sw)) (s4 : ss[4]? = some (.ref sa)) (f3 : gs[3]? = some (.int pe)) (f4 : gs[4]? = some (.ref fw)) (nd : ∀ q, q ∈ [w, pl, st, fo, pk, pw, ph, sw, sa, fw] → q ≠ wb ∧ q ≠ wl) (nbl : wb ≠ wl) (hb : bo R T Wt pe.toInt.toNat nn.toInt.toNat) (hC : cw R T Wt gK gW gH gA gT gF nn.toInt.toNat pe.toInt.toNat) (hn : 0 ≤ nn.toInt ∧ nn.toInt ≤ 6) (hpe : 0 ≤ pe.toInt ∧ pe.toInt ≤ 8) (hrm : rm.toInt = 2 * nn.toInt) (hf : 1 ≤ fr) (hl : 30 ≤ lo) : ∀ (j : Nat) (i : Int32) (h : ch_H) (gB gL : Nat → Int32), i.toInt + 1 = j → i.toInt < nn.toInt → ((∀ q, q < 2 * nn.toInt.toNat → (gB q).toInt = ow R T Wt pe.toInt.toNat q + (sp_hs R (sp_br R T Wt pe.toInt.toNat nn.toInt.toNat 12) q nn.toInt.toNat - sp_hs R (sp_br R T Wt pe.toInt.toNat nn.toInt.toNat 12) q (i.toInt + 1).toNat)) ∧ ∀ p, (i.toInt + 1).toNat ≤ p → p < nn.toInt.toNat → (gL p).toInt = ln9 (R (9 * p)).toInt ((sp_br R T Wt pe.toInt.toNat nn.toInt.toNat 12) (2 * p)) ((sp_br R T Wt pe.toInt.toNat nn.toInt.toNat 12) (2 * p + 1))) → h w = some (.inr (8, ws)) → h pl = some (.inr (4, ps)) → h st = some (.inr (6, ss)) → h fo = some (.inr (1, gs)) → h pk = some (.inl (cA 0, 6, .inl gK)) → h pw = some (.inl (cA 0, 12, .inl gW)) → h ph = some (.inl (cA 0, 6, .inl gH)) → h sw = some (.inl (cA 0, 12, .inl gA)) → h sa = some (.inl (cA 0, 8, .inl gT)) → h fw = some (.inl (cA 0, 8, .inl gF)) → h wb = some (.inl (cA 0, 12, .inl gB)) → h wl = some (.inl (cA 0, 6, .inl gL)) → (∀ (g : ch_H) (i1 : Int32) (gB gL : Nat → Int32), ((∀ q, q < 2 * nn.toInt.toNat → (gB q).toInt = (sp_br R T Wt pe.toInt.toNat nn.toInt.toNat 12) q) ∧ ∀ p, p < nn.toInt.toNat → (gL p).toInt = ln9 (R (9 * p)).toInt ((sp_br R T Wt pe.toInt.toNat nn.toInt.toNat 12) (2 * p)) ((sp_br R T Wt pe.toInt.toNat nn.toInt.toNat 12) (2 * p + 1))) → g wb = some (.inl (cA 0, 12, .inl gB)) → g wl = some (.inl (cA 0, 6, .inl gL)) → (∀ q, q ≠ wb ∧ q ≠ wl → g q = h q) → ww l D tys A X fr lo mX9_weigh Q 215 [(5, .int i1), (4, .int rm), (0, .ref w), (1, .ref pl), (2, .ref st), (3, .ref fo)] [] g) → ww l D tys A X fr lo mX9_weigh Q 110 [(5, .int i), (4, .int rm), (0, .ref w), (1, .ref pl), (2, .ref st), (3, .ref fo)] [] h := by
  intro j
  induction j using Nat.strongRecOn with
  | ind j ih =>
    intro i h gB gL hd hd0 hi c_w c_pl c_st c_fo c_pk c_pw c_ph c_sw c_sa c_fw c_wb c_wl hq
    have n_w_wb := (nd w (by simp)).1
    have n_pl_wb := (nd pl (by simp)).1
    have n_st_wb := (nd st (by simp)).1
    have n_fo_wb := (nd fo (by simp)).1
    have n_pk_wb := (nd pk (by simp)).1
    have n_pw_wb := (nd pw (by simp)).1
    have n_ph_wb := (nd ph (by simp)).1
    have n_sw_wb := (nd sw (by simp)).1
    have n_sa_wb := (nd sa (by simp)).1
    have n_fw_wb := (nd fw (by simp)).1
    have n_w_wl := (nd w (by simp)).2
    have n_pl_wl := (nd pl (by simp)).2
    have n_st_wl := (nd st (by simp)).2
    have n_fo_wl := (nd fo (by simp)).2
    have n_pk_wl := (nd pk (by simp)).2
    have n_pw_wl := (nd pw (by simp)).2
    have n_ph_wl := (nd ph (by simp)).2
    have n_sw_wl := (nd sw (by simp)).2
    have n_sa_wl := (nd sa (by simp)).2
    have n_fw_wl := (nd fw (by simp)).2
    have whole : ∀ q, q < 2 * nn.toInt.toNat → 2 * i.toInt.toNat ≤ q → 0 ≤ i.toInt → (gB q).toInt = (sp_br R T Wt pe.toInt.toNat nn.toInt.toNat 12) q := fun q h1 h2 h3 => by
      rw [hi.1 q h1, br_fix hb (by omega), hs_zero (fun q hq => (hb.1 q hq).2.2.2.2) (i.toInt + 1).toNat (by omega) (by omega)]
      omega
    have part : ∀ q, q < 2 * nn.toInt.toNat → -1000000 ≤ (gB q).toInt ∧ (gB q).toInt ≤ 1000000 := fun q h1 => by
      have h2 := hi.1 q h1
      have h3 := sp_hs_b (B := (sp_br R T Wt pe.toInt.toNat nn.toInt.toNat 12)) (R := R) (room := q) (by omega) (fun p hp => (hb.1 p hp).2.2.2.2) (fun q2 h4 _ => sp_br_b hb 12 q2 h4)
      have h5 := h3 nn.toInt.toNat (by omega)
      have h6 := h3 (i.toInt + 1).toNat (by omega)
      have h7 := hs_b_ok (q / 2) (by omega) nn.toInt.toNat (by omega)
      have h8 := hs_b_ok (q / 2) (by omega) (i.toInt + 1).toNat (by omega)
      have h9 := pw_b (q / 2)
      have g1 := hb.own (room := q) (by omega)
      have g2 := hb.2.1 q (by omega)
      have g3 := sp_ps_b (T := T) (room := q) hb.2.2.1 pe.toInt.toNat (by omega)
      unfold ow at h2
      omega
    refine w_iload (List.Mem.head _) (tX9_weigh_0_ok (110, .iload 5, 2) (List.mem_of_getElem? (i := 59) rfl)) ?_
    refine w_if_lt (tgt := 215) (tX9_weigh_1_ok (112, .ifCond .lt 103, 3) (List.mem_of_getElem? (i := 0) rfl)) rfl (fun zb1 => ?_) (fun zb1 => ?_)
    · have y9 : (i.toInt + 1).toNat = 0 := by omega
      refine hq h i gB gL ⟨fun q hq9 => ?_, fun p hp => hi.2 p (by omega) hp⟩ c_wb c_wl (fun _ _ => rfl)
      rw [hi.1 q hq9, br_fix hb (by omega), y9, sp_hs]
      omega
    · refine w_iconst (by decide) (tX9_weigh_1_ok (115, .iconst 2, 1) (List.mem_of_getElem? (i := 1) rfl)) (fun zv2 ze3 => ?_)
      refine w_iload (List.Mem.head _) (tX9_weigh_1_ok (116, .iload 5, 2) (List.mem_of_getElem? (i := 2) rfl)) ?_
      refine w_imul (by assumption) (by omega) (by omega) (tX9_weigh_1_ok (118, .imul, 1) (List.mem_of_getElem? (i := 3) rfl)) (fun zv4 ze5 => ?_)
      refine w_istore [(6, .int zv4), (5, .int i), (4, .int rm), (0, .ref w), (1, .ref pl), (2, .ref st), (3, .ref fo)] rfl (Nat.le_of_ble_eq_true rfl) (tX9_weigh_1_ok (119, .istore 6, 2) (List.mem_of_getElem? (i := 4) rfl)) ?_
      refine w_iload (List.Mem.head _) (tX9_weigh_1_ok (121, .iload 6, 2) (List.mem_of_getElem? (i := 5) rfl)) ?_
      refine w_iconst (by decide) (tX9_weigh_1_ok (123, .iconst 1, 1) (List.mem_of_getElem? (i := 6) rfl)) (fun zv6 ze7 => ?_)
      refine w_iadd (by omega) (by omega) (tX9_weigh_1_ok (124, .iadd, 1) (List.mem_of_getElem? (i := 7) rfl)) (fun zv8 ze9 => ?_)
      refine w_istore [(7, .int zv8), (6, .int zv4), (5, .int i), (4, .int rm), (0, .ref w), (1, .ref pl), (2, .ref st), (3, .ref fo)] rfl (Nat.le_of_ble_eq_true rfl) (tX9_weigh_1_ok (125, .istore 7, 2) (List.mem_of_getElem? (i := 8) rfl)) ?_
      refine w_aload_n (List.Mem.tail _ (List.Mem.tail _ (List.Mem.tail _ (List.Mem.tail _ (List.Mem.head _))))) (tX9_weigh_1_ok (127, .aload_n 0, 1) (List.mem_of_getElem? (i := 9) rfl)) ?_
      refine w_get (own := 14) rfl rfl (by decide) c_w w1 (tX9_weigh_1_ok (128, .getfield 15, 3) (List.mem_of_getElem? (i := 10) rfl)) ?_
      refine w_iload (List.Mem.tail _ (List.Mem.tail _ (List.Mem.head _))) (tX9_weigh_1_ok (131, .iload 5, 2) (List.mem_of_getElem? (i := 11) rfl)) ?_
      refine w_aload_n (List.Mem.tail _ (List.Mem.tail _ (List.Mem.tail _ (List.Mem.tail _ (List.Mem.tail _ (List.Mem.head _)))))) (tX9_weigh_1_ok (133, .aload_n 1, 1) (List.mem_of_getElem? (i := 12) rfl)) ?_
      refine w_iload (List.Mem.tail _ (List.Mem.head _)) (tX9_weigh_1_ok (134, .iload 6, 2) (List.mem_of_getElem? (i := 13) rfl)) ?_
      refine w_callV (own := 14) (mi := 47) [.int zv4] [.int i, .ref wl] [(0, .ref pl), (1, .int zv4)] rfl (cllw_X9 (44, 0, 47) (List.mem_of_getElem? (i := 2) rfl)) rfl rfl c_pl rfl (by omega) (w_lo (n := 22) rfl (by omega)) (Nat.le_of_ble_eq_true rfl) (Nat.le_of_ble_eq_true rfl) rfl (tX9_weigh_1_ok (136, .invokevirtual 44, 3) (List.mem_of_getElem? (i := 14) rfl)) (c_lever hT (by omega) c_pl p1 c_pk (fun zv10 ze11 => ?_))
      show ww l D tys A X fr lo mX9_weigh Q 139 [(7, .int zv8), (6, .int zv4), (5, .int i), (4, .int rm), (0, .ref w), (1, .ref pl), (2, .ref st), (3, .ref fo)] [.int zv10, .int i, .ref wl] h
      have zz12 : zv4.toInt.toNat / 2 = i.toInt.toNat := by omega
      rw [zz12] at ze11
      have zz12b : -1 ≤ zv10.toInt ∧ zv10.toInt ≤ 2 := by rw [ze11]; split <;> (try split) <;> (try split) <;> omega
      refine w_aload_n (List.Mem.tail _ (List.Mem.tail _ (List.Mem.tail _ (List.Mem.tail _ (List.Mem.head _))))) (tX9_weigh_1_ok (139, .aload_n 0, 1) (List.mem_of_getElem? (i := 15) rfl)) ?_
      refine w_get (own := 14) rfl rfl (by decide) c_w w0 (tX9_weigh_1_ok (140, .getfield 9, 3) (List.mem_of_getElem? (i := 16) rfl)) ?_
      refine w_iload (List.Mem.tail _ (List.Mem.head _)) (tX9_weigh_1_ok (143, .iload 6, 2) (List.mem_of_getElem? (i := 17) rfl)) ?_
      refine w_iald hT c_wb (by omega) (by omega) (tX9_weigh_1_ok (145, .iaload, 1) (List.mem_of_getElem? (i := 18) rfl)) (fun zv13 ze14 => ?_)
      have zz15i : zv4.toInt.toNat = 2 * i.toInt.toNat := by omega
      rw [zz15i] at ze14
      have zz15 := whole (2 * i.toInt.toNat) (by omega) (by omega) (by omega)
      have zz15b := sp_br_b hb 12 (2 * i.toInt.toNat) (by omega)
      have zz15c := pw_b ((2 * i.toInt.toNat) / 2)
      refine w_imulS (by omega) (by omega) (tX9_weigh_1_ok (146, .imul, 1) (List.mem_of_getElem? (i := 19) rfl)) (fun zv16 ze17 zb18 zb19 => ?_)
      refine w_aload_n (List.Mem.tail _ (List.Mem.tail _ (List.Mem.tail _ (List.Mem.tail _ (List.Mem.tail _ (List.Mem.head _)))))) (tX9_weigh_1_ok (147, .aload_n 1, 1) (List.mem_of_getElem? (i := 20) rfl)) ?_
      refine w_iload (List.Mem.head _) (tX9_weigh_1_ok (148, .iload 7, 2) (List.mem_of_getElem? (i := 21) rfl)) ?_
      refine w_callV (own := 14) (mi := 47) [.int zv8] [.int zv16, .int i, .ref wl] [(0, .ref pl), (1, .int zv8)] rfl (cllw_X9 (44, 0, 47) (List.mem_of_getElem? (i := 2) rfl)) rfl rfl c_pl rfl (by omega) (w_lo (n := 22) rfl (by omega)) (Nat.le_of_ble_eq_true rfl) (Nat.le_of_ble_eq_true rfl) rfl (tX9_weigh_1_ok (150, .invokevirtual 44, 3) (List.mem_of_getElem? (i := 22) rfl)) (c_lever hT (by omega) c_pl p1 c_pk (fun zv20 ze21 => ?_))
      show ww l D tys A X fr lo mX9_weigh Q 153 [(7, .int zv8), (6, .int zv4), (5, .int i), (4, .int rm), (0, .ref w), (1, .ref pl), (2, .ref st), (3, .ref fo)] [.int zv20, .int zv16, .int i, .ref wl] h
      have zz22 : zv8.toInt.toNat / 2 = i.toInt.toNat := by omega
      rw [zz22] at ze21
      have zz22b : -1 ≤ zv20.toInt ∧ zv20.toInt ≤ 2 := by rw [ze21]; split <;> (try split) <;> (try split) <;> omega
      refine w_aload_n (List.Mem.tail _ (List.Mem.tail _ (List.Mem.tail _ (List.Mem.tail _ (List.Mem.head _))))) (tX9_weigh_1_ok (153, .aload_n 0, 1) (List.mem_of_getElem? (i := 23) rfl)) ?_
      refine w_get (own := 14) rfl rfl (by decide) c_w w0 (tX9_weigh_1_ok (154, .getfield 9, 3) (List.mem_of_getElem? (i := 24) rfl)) ?_
      refine w_iload (List.Mem.head _) (tX9_weigh_1_ok (157, .iload 7, 2) (List.mem_of_getElem? (i := 25) rfl)) ?_
      refine w_iald hT c_wb (by omega) (by omega) (tX9_weigh_1_ok (159, .iaload, 1) (List.mem_of_getElem? (i := 26) rfl)) (fun zv23 ze24 => ?_)
      have zz25i : zv8.toInt.toNat = 2 * i.toInt.toNat + 1 := by omega
      rw [zz25i] at ze24
      have zz25 := whole (2 * i.toInt.toNat + 1) (by omega) (by omega) (by omega)
      have zz25b := sp_br_b hb 12 (2 * i.toInt.toNat + 1) (by omega)
      have zz25c := pw_b ((2 * i.toInt.toNat + 1) / 2)
      refine w_imulS (by omega) (by omega) (tX9_weigh_1_ok (160, .imul, 1) (List.mem_of_getElem? (i := 27) rfl)) (fun zv26 ze27 zb28 zb29 => ?_)
      refine w_iadd (by omega) (by omega) (tX9_weigh_1_ok (161, .iadd, 1) (List.mem_of_getElem? (i := 28) rfl)) (fun zv30 ze31 => ?_)
      refine w_iast hT c_wl (by omega) (by omega) (tX9_weigh_1_ok (162, .iastore, 1) (List.mem_of_getElem? (i := 29) rfl)) (fun zh32 zc33 zo34 => ?_)
      have zc35 := (zo34 w n_w_wl).trans c_w
      have zc36 := (zo34 pl n_pl_wl).trans c_pl
      have zc37 := (zo34 st n_st_wl).trans c_st
      have zc38 := (zo34 fo n_fo_wl).trans c_fo
      have zc39 := (zo34 wb nbl).trans c_wb
      have zc40 := (zo34 pk n_pk_wl).trans c_pk
      have zc41 := (zo34 pw n_pw_wl).trans c_pw
      have zc42 := (zo34 ph n_ph_wl).trans c_ph
      have zc43 := (zo34 sw n_sw_wl).trans c_sw
      have zc44 := (zo34 sa n_sa_wl).trans c_sa
      have zc45 := (zo34 fw n_fw_wl).trans c_fw
      refine w_aload_n (List.Mem.tail _ (List.Mem.tail _ (List.Mem.tail _ (List.Mem.tail _ (List.Mem.tail _ (List.Mem.head _)))))) (tX9_weigh_1_ok (163, .aload_n 1, 1) (List.mem_of_getElem? (i := 30) rfl)) ?_
      refine w_get (own := 14) rfl rfl (by decide) zc36 p8 (tX9_weigh_1_ok (164, .getfield 48, 3) (List.mem_of_getElem? (i := 31) rfl)) ?_
      refine w_iload (List.Mem.tail _ (List.Mem.tail _ (List.Mem.head _))) (tX9_weigh_1_ok (167, .iload 5, 2) (List.mem_of_getElem? (i := 32) rfl)) ?_
      refine w_iald hT zc42 (by omega) (by omega) (tX9_weigh_1_ok (169, .iaload, 1) (List.mem_of_getElem? (i := 33) rfl)) (fun zv46 ze47 => ?_)
      have zz48 := hC.1 i.toInt.toNat (by omega)
      have zz48a := (hb.1 i.toInt.toNat (by omega)).2.2.2.2
      refine w_istore [(8, .int zv46), (7, .int zv8), (6, .int zv4), (5, .int i), (4, .int rm), (0, .ref w), (1, .ref pl), (2, .ref st), (3, .ref fo)] rfl (Nat.le_of_ble_eq_true rfl) (tX9_weigh_1_ok (170, .istore 8, 2) (List.mem_of_getElem? (i := 34) rfl)) ?_
      refine w_iload (List.Mem.head _) (tX9_weigh_1_ok (172, .iload 8, 2) (List.mem_of_getElem? (i := 35) rfl)) ?_
      refine w_if_lt (tgt := 209) (tX9_weigh_1_ok (174, .ifCond .lt 35, 3) (List.mem_of_getElem? (i := 36) rfl)) rfl (fun zb49 => ?_) (fun zb49 => ?_)
      · refine w_iinc (fun zv50 => [(5, .int zv50), (8, .int zv46), (7, .int zv8), (6, .int zv4), (4, .int rm), (0, .ref w), (1, .ref pl), (2, .ref st), (3, .ref fo)]) (fun _ => rfl) (List.Mem.tail _ (List.Mem.tail _ (List.Mem.tail _ (List.Mem.head _)))) (Nat.le_of_ble_eq_true rfl) (by decide) (by omega) (by omega) (tX9_weigh_1_ok (209, .iinc 5 (-1), 3) (List.mem_of_getElem? (i := 56) rfl)) (fun zv50 ze51 => ?_)
        refine w_goto (tgt := 110) (tX9_weigh_1_ok (212, .goto (-102), 3) (List.mem_of_getElem? (i := 57) rfl)) rfl ?_
        refine w_lv [(5, .int zv50), (4, .int rm), (0, .ref w), (1, .ref pl), (2, .ref st), (3, .ref fo)] (by intro q hq; simp only [List.mem_cons, List.not_mem_nil, or_false] at hq ⊢; rcases hq with e | e | e | e | e | e <;> subst e <;> simp) ?_
        have y9 : (zv50.toInt + 1).toNat = i.toInt.toNat := by omega
        have y7 : (i.toInt + 1).toNat = i.toInt.toNat + 1 := by omega
        have z8 := hC.1 i.toInt.toNat (by omega)
        refine ih (j - 1) (by omega) _ _ _ _ (by omega) (by omega) ⟨fun q hq9 => ?_, fun p hp9 hp8 => ?_⟩ zc35 zc36 zc37 zc38 zc40 zc41 zc42 zc43 zc44 zc45 zc39 zc33 (fun g i1 gB gL q1 q2 q3 q4 => hq g i1 gB gL q1 q2 q3 (fun q hq => (q4 q hq).trans (zo34 q hq.2)))
        · rw [y9]
          have y8 := hi.1 q hq9
          rw [y7, sp_hs] at y8
          rw [if_neg (by omega)] at y8
          omega
        · rw [y9] at hp9
          by_cases e9 : p = i.toInt.toNat
          · subst e9
            rw [upd_s, ← z8.1]
            unfold ln9
            by_cases k2 : (gK i.toInt.toNat).toInt = 2
            · rw [if_pos k2] at ze11 ze21 ⊢
              rw [ze11] at ze17
              rw [ze21] at ze27
              omega
            · rw [if_neg k2] at ze11 ze21 ⊢
              rw [if_neg (by omega)] at ze11
              rw [if_pos (by omega)] at ze21
              by_cases k1 : (gK i.toInt.toNat).toInt = 1
              · rw [if_pos k1] at ze11 ⊢
                rw [ze11] at ze17
                rw [ze21] at ze27
                omega
              · rw [if_neg k1] at ze11 ⊢
                rw [ze11] at ze17
                rw [ze21] at ze27
                omega
          · rw [upd_n _ _ e9]
            exact hi.2 p (by omega) hp8
      · refine w_iload (List.Mem.head _) (tX9_weigh_1_ok (177, .iload 8, 2) (List.mem_of_getElem? (i := 37) rfl)) ?_
        refine w_iload (List.Mem.tail _ (List.Mem.tail _ (List.Mem.tail _ (List.Mem.tail _ (List.Mem.head _))))) (tX9_weigh_1_ok (179, .iload 4, 2) (List.mem_of_getElem? (i := 38) rfl)) ?_
        refine w_icmp_ge (tgt := 209) (tX9_weigh_1_ok (181, .if_icmp .ge 28, 3) (List.mem_of_getElem? (i := 39) rfl)) rfl (fun zb52 => ?_) (fun zb52 => ?_)
        · refine w_iinc (fun zv53 => [(5, .int zv53), (8, .int zv46), (7, .int zv8), (6, .int zv4), (4, .int rm), (0, .ref w), (1, .ref pl), (2, .ref st), (3, .ref fo)]) (fun _ => rfl) (List.Mem.tail _ (List.Mem.tail _ (List.Mem.tail _ (List.Mem.head _)))) (Nat.le_of_ble_eq_true rfl) (by decide) (by omega) (by omega) (tX9_weigh_1_ok (209, .iinc 5 (-1), 3) (List.mem_of_getElem? (i := 56) rfl)) (fun zv53 ze54 => ?_)
          refine w_goto (tgt := 110) (tX9_weigh_1_ok (212, .goto (-102), 3) (List.mem_of_getElem? (i := 57) rfl)) rfl ?_
          refine w_lv [(5, .int zv53), (4, .int rm), (0, .ref w), (1, .ref pl), (2, .ref st), (3, .ref fo)] (by intro q hq; simp only [List.mem_cons, List.not_mem_nil, or_false] at hq ⊢; rcases hq with e | e | e | e | e | e <;> subst e <;> simp) ?_
          have y9 : (zv53.toInt + 1).toNat = i.toInt.toNat := by omega
          have y7 : (i.toInt + 1).toNat = i.toInt.toNat + 1 := by omega
          have z8 := hC.1 i.toInt.toNat (by omega)
          refine ih (j - 1) (by omega) _ _ _ _ (by omega) (by omega) ⟨fun q hq9 => ?_, fun p hp9 hp8 => ?_⟩ zc35 zc36 zc37 zc38 zc40 zc41 zc42 zc43 zc44 zc45 zc39 zc33 (fun g i1 gB gL q1 q2 q3 q4 => hq g i1 gB gL q1 q2 q3 (fun q hq => (q4 q hq).trans (zo34 q hq.2)))
          · rw [y9]
            have y8 := hi.1 q hq9
            rw [y7, sp_hs] at y8
            rw [if_neg (by omega)] at y8
            omega
          · rw [y9] at hp9
            by_cases e9 : p = i.toInt.toNat
            · subst e9
              rw [upd_s, ← z8.1]
              unfold ln9
              by_cases k2 : (gK i.toInt.toNat).toInt = 2
              · rw [if_pos k2] at ze11 ze21 ⊢
                rw [ze11] at ze17
                rw [ze21] at ze27
                omega
              · rw [if_neg k2] at ze11 ze21 ⊢
                rw [if_neg (by omega)] at ze11
                rw [if_pos (by omega)] at ze21
                by_cases k1 : (gK i.toInt.toNat).toInt = 1
                · rw [if_pos k1] at ze11 ⊢
                  rw [ze11] at ze17
                  rw [ze21] at ze27
                  omega
                · rw [if_neg k1] at ze11 ⊢
                  rw [ze11] at ze17
                  rw [ze21] at ze27
                  omega
            · rw [upd_n _ _ e9]
              exact hi.2 p (by omega) hp8
        · refine w_aload_n (List.Mem.tail _ (List.Mem.tail _ (List.Mem.tail _ (List.Mem.tail _ (List.Mem.tail _ (List.Mem.head _)))))) (tX9_weigh_1_ok (184, .aload_n 0, 1) (List.mem_of_getElem? (i := 40) rfl)) ?_
          refine w_get (own := 14) rfl rfl (by decide) zc35 w0 (tX9_weigh_1_ok (185, .getfield 9, 3) (List.mem_of_getElem? (i := 41) rfl)) ?_
          refine w_iload (List.Mem.head _) (tX9_weigh_1_ok (188, .iload 8, 2) (List.mem_of_getElem? (i := 42) rfl)) ?_
          refine tt_dup2 rfl rfl (tX9_weigh_1_ok (190, .dup2, 1) (List.mem_of_getElem? (i := 43) rfl)) ?_
          show ww l D tys A X fr lo mX9_weigh Q 191 [(8, .int zv46), (7, .int zv8), (6, .int zv4), (5, .int i), (4, .int rm), (0, .ref w), (1, .ref pl), (2, .ref st), (3, .ref fo)] [.int zv46, .ref wb, .int zv46, .ref wb] zh32
          refine w_iald hT zc39 (by omega) (by omega) (tX9_weigh_1_ok (191, .iaload, 1) (List.mem_of_getElem? (i := 44) rfl)) (fun zv55 ze56 => ?_)
          have zz57 := part zv46.toInt.toNat (by omega)
          refine w_aload_n (List.Mem.tail _ (List.Mem.tail _ (List.Mem.tail _ (List.Mem.tail _ (List.Mem.tail _ (List.Mem.head _)))))) (tX9_weigh_1_ok (192, .aload_n 0, 1) (List.mem_of_getElem? (i := 45) rfl)) ?_
          refine w_get (own := 14) rfl rfl (by decide) zc35 w0 (tX9_weigh_1_ok (193, .getfield 9, 3) (List.mem_of_getElem? (i := 46) rfl)) ?_
          refine w_iload (List.Mem.tail _ (List.Mem.tail _ (List.Mem.head _))) (tX9_weigh_1_ok (196, .iload 6, 2) (List.mem_of_getElem? (i := 47) rfl)) ?_
          refine w_iald hT zc39 (by omega) (by omega) (tX9_weigh_1_ok (198, .iaload, 1) (List.mem_of_getElem? (i := 48) rfl)) (fun zv58 ze59 => ?_)
          have zz60i : zv4.toInt.toNat = 2 * i.toInt.toNat := by omega
          rw [zz60i] at ze59
          have zz60 := whole (2 * i.toInt.toNat) (by omega) (by omega) (by omega)
          have zz60b := sp_br_b hb 12 (2 * i.toInt.toNat) (by omega)
          have zz60c := pw_b ((2 * i.toInt.toNat) / 2)
          refine w_aload_n (List.Mem.tail _ (List.Mem.tail _ (List.Mem.tail _ (List.Mem.tail _ (List.Mem.tail _ (List.Mem.head _)))))) (tX9_weigh_1_ok (199, .aload_n 0, 1) (List.mem_of_getElem? (i := 49) rfl)) ?_
          refine w_get (own := 14) rfl rfl (by decide) zc35 w0 (tX9_weigh_1_ok (200, .getfield 9, 3) (List.mem_of_getElem? (i := 50) rfl)) ?_
          refine w_iload (List.Mem.tail _ (List.Mem.head _)) (tX9_weigh_1_ok (203, .iload 7, 2) (List.mem_of_getElem? (i := 51) rfl)) ?_
          refine w_iald hT zc39 (by omega) (by omega) (tX9_weigh_1_ok (205, .iaload, 1) (List.mem_of_getElem? (i := 52) rfl)) (fun zv61 ze62 => ?_)
          have zz63i : zv8.toInt.toNat = 2 * i.toInt.toNat + 1 := by omega
          rw [zz63i] at ze62
          have zz63 := whole (2 * i.toInt.toNat + 1) (by omega) (by omega) (by omega)
          have zz63b := sp_br_b hb 12 (2 * i.toInt.toNat + 1) (by omega)
          have zz63c := pw_b ((2 * i.toInt.toNat + 1) / 2)
          refine w_iadd (by omega) (by omega) (tX9_weigh_1_ok (206, .iadd, 1) (List.mem_of_getElem? (i := 53) rfl)) (fun zv64 ze65 => ?_)
          refine w_iadd (by omega) (by omega) (tX9_weigh_1_ok (207, .iadd, 1) (List.mem_of_getElem? (i := 54) rfl)) (fun zv66 ze67 => ?_)
          refine w_iast hT zc39 (by omega) (by omega) (tX9_weigh_1_ok (208, .iastore, 1) (List.mem_of_getElem? (i := 55) rfl)) (fun zh68 zc69 zo70 => ?_)
          have zc71 := (zo70 w n_w_wb).trans zc35
          have zc72 := (zo70 pl n_pl_wb).trans zc36
          have zc73 := (zo70 st n_st_wb).trans zc37
          have zc74 := (zo70 fo n_fo_wb).trans zc38
          have zc75 := (zo70 wl nbl.symm).trans zc33
          have zc76 := (zo70 pk n_pk_wb).trans zc40
          have zc77 := (zo70 pw n_pw_wb).trans zc41
          have zc78 := (zo70 ph n_ph_wb).trans zc42
          have zc79 := (zo70 sw n_sw_wb).trans zc43
          have zc80 := (zo70 sa n_sa_wb).trans zc44
          have zc81 := (zo70 fw n_fw_wb).trans zc45
          refine w_iinc (fun zv82 => [(5, .int zv82), (8, .int zv46), (7, .int zv8), (6, .int zv4), (4, .int rm), (0, .ref w), (1, .ref pl), (2, .ref st), (3, .ref fo)]) (fun _ => rfl) (List.Mem.tail _ (List.Mem.tail _ (List.Mem.tail _ (List.Mem.head _)))) (Nat.le_of_ble_eq_true rfl) (by decide) (by omega) (by omega) (tX9_weigh_1_ok (209, .iinc 5 (-1), 3) (List.mem_of_getElem? (i := 56) rfl)) (fun zv82 ze83 => ?_)
          refine w_goto (tgt := 110) (tX9_weigh_1_ok (212, .goto (-102), 3) (List.mem_of_getElem? (i := 57) rfl)) rfl ?_
          refine w_lv [(5, .int zv82), (4, .int rm), (0, .ref w), (1, .ref pl), (2, .ref st), (3, .ref fo)] (by intro q hq; simp only [List.mem_cons, List.not_mem_nil, or_false] at hq ⊢; rcases hq with e | e | e | e | e | e <;> subst e <;> simp) ?_
          have y9 : (zv82.toInt + 1).toNat = i.toInt.toNat := by omega
          have y7 : (i.toInt + 1).toNat = i.toInt.toNat + 1 := by omega
          have z8 := hC.1 i.toInt.toNat (by omega)
          refine ih (j - 1) (by omega) _ _ _ _ (by omega) (by omega) ⟨fun q hq9 => ?_, fun p hp9 hp8 => ?_⟩ zc71 zc72 zc73 zc74 zc76 zc77 zc78 zc79 zc80 zc81 zc69 zc75 (fun g i1 gB gL q1 q2 q3 q4 => hq g i1 gB gL q1 q2 q3 (fun q hq => (q4 q hq).trans ((zo70 q hq.1).trans (zo34 q hq.2))))
          · rw [y9]
            have y8 := hi.1 q hq9
            rw [y7, sp_hs] at y8
            by_cases e9 : q = zv46.toInt.toNat
            · subst e9
              rw [upd_s]
              rw [if_pos (by omega)] at y8
              omega
            · rw [upd_n _ _ e9]
              rw [if_neg (by omega)] at y8
              omega
          · rw [y9] at hp9
            by_cases e9 : p = i.toInt.toNat
            · subst e9
              rw [upd_s, ← z8.1]
              unfold ln9
              by_cases k2 : (gK i.toInt.toNat).toInt = 2
              · rw [if_pos k2] at ze11 ze21 ⊢
                rw [ze11] at ze17
                rw [ze21] at ze27
                omega
              · rw [if_neg k2] at ze11 ze21 ⊢
                rw [if_neg (by omega)] at ze11
                rw [if_pos (by omega)] at ze21
                by_cases k1 : (gK i.toInt.toNat).toInt = 1
                · rw [if_pos k1] at ze11 ⊢
                  rw [ze11] at ze17
                  rw [ze21] at ze27
                  omega
                · rw [if_neg k1] at ze11 ⊢
                  rw [ze11] at ze17
                  rw [ze21] at ze27
                  omega
            · rw [upd_n _ _ e9]
              exact hi.2 p (by omega) hp8
theorem c_weigh (hT : k_tys tys cA) {w pl st fo wb wl pk pw ph sw sa fw : Nat} {ws ps ss gs : List Value} {gK gW gH gA gT gF : Nat → Int32} {nn pe : Int32} (w0 : ws[0]? = some (.ref wb)) (w1 : ws[1]? = some (.ref wl)) (p0 : ps[0]? = some (.int nn)) (p1 : ps[1]? = some (.ref pk)) (p4 : ps[4]? = some (.ref pw)) (p8 : ps[8]? = some (.ref ph)) (s3 : ss[3]? = some (.ref sw)) (s4 : ss[4]? = some (.ref sa)) (f3 : gs[3]? = some (.int pe)) (f4 : gs[4]? = some (.ref fw)) (nd : ∀ q, q ∈ [w, pl, st, fo, pk, pw, ph, sw, sa, fw] → q ≠ wb ∧ q ≠ wl) (nbl : wb ≠ wl) (hb : bo R T Wt pe.toInt.toNat nn.toInt.toNat) (hC : cw R T Wt gK gW gH gA gT gF nn.toInt.toNat pe.toInt.toNat) (hn : 0 ≤ nn.toInt ∧ nn.toInt ≤ 6) (hpe : 0 ≤ pe.toInt ∧ pe.toInt ≤ 8) (hf : 1 ≤ fr) (hl : 30 ≤ lo) {gB gL : Nat → Int32} (c_w : h w = some (.inr (8, ws))) (c_pl : h pl = some (.inr (4, ps))) (c_st : h st = some (.inr (6, ss))) (c_fo : h fo = some (.inr (1, gs))) (c_pk : h pk = some (.inl (cA 0, 6, .inl gK))) (c_pw : h pw = some (.inl (cA 0, 12, .inl gW))) (c_ph : h ph = some (.inl (cA 0, 6, .inl gH))) (c_sw : h sw = some (.inl (cA 0, 12, .inl gA))) (c_sa : h sa = some (.inl (cA 0, 8, .inl gT))) (c_fw : h fw = some (.inl (cA 0, 8, .inl gF))) (c_wb : h wb = some (.inl (cA 0, 12, .inl gB))) (c_wl : h wl = some (.inl (cA 0, 6, .inl gL))) (hq : ∀ (g : ch_H) (B L : Nat → Int32), (∀ q, q < 2 * nn.toInt.toNat → (B q).toInt = (sp_br R T Wt pe.toInt.toNat nn.toInt.toNat 12) q) → (∀ p, p < nn.toInt.toNat → (L p).toInt = ln9 (R (9 * p)).toInt ((sp_br R T Wt pe.toInt.toNat nn.toInt.toNat 12) (2 * p)) ((sp_br R T Wt pe.toInt.toNat nn.toInt.toNat 12) (2 * p + 1))) → g wb = some (.inl (cA 0, 12, .inl B)) → g wl = some (.inl (cA 0, 6, .inl L)) → (∀ q, q ≠ wb ∧ q ≠ wl → g q = h q) → Q none g) : ww l D tys A X fr lo mX9_weigh Q 0 [(0, .ref w), (1, .ref pl), (2, .ref st), (3, .ref fo)] [] h := by
  have n_w_wb := (nd w (by simp)).1
  have n_pl_wb := (nd pl (by simp)).1
  have n_st_wb := (nd st (by simp)).1
  have n_fo_wb := (nd fo (by simp)).1
  have n_pk_wb := (nd pk (by simp)).1
  have n_pw_wb := (nd pw (by simp)).1
  have n_ph_wb := (nd ph (by simp)).1
  have n_sw_wb := (nd sw (by simp)).1
  have n_sa_wb := (nd sa (by simp)).1
  have n_fw_wb := (nd fw (by simp)).1
  have n_w_wl := (nd w (by simp)).2
  have n_pl_wl := (nd pl (by simp)).2
  have n_st_wl := (nd st (by simp)).2
  have n_fo_wl := (nd fo (by simp)).2
  have n_pk_wl := (nd pk (by simp)).2
  have n_pw_wl := (nd pw (by simp)).2
  have n_ph_wl := (nd ph (by simp)).2
  have n_sw_wl := (nd sw (by simp)).2
  have n_sa_wl := (nd sa (by simp)).2
  have n_fw_wl := (nd fw (by simp)).2
  refine w_iconst (by decide) (tX9_weigh_0_ok (0, .iconst 2, 1) (List.mem_of_getElem? (i := 0) rfl)) (fun zv1 ze2 => ?_)
  refine w_aload_n (List.Mem.tail _ (List.Mem.head _)) (tX9_weigh_0_ok (1, .aload_n 1, 1) (List.mem_of_getElem? (i := 1) rfl)) ?_
  refine w_get (own := 14) rfl rfl (by decide) c_pl p0 (tX9_weigh_0_ok (2, .getfield 21, 3) (List.mem_of_getElem? (i := 2) rfl)) ?_
  refine w_imul (by assumption) (by omega) (by omega) (tX9_weigh_0_ok (5, .imul, 1) (List.mem_of_getElem? (i := 3) rfl)) (fun zv3 ze4 => ?_)
  refine w_istore [(4, .int zv3), (0, .ref w), (1, .ref pl), (2, .ref st), (3, .ref fo)] rfl (Nat.le_of_ble_eq_true rfl) (tX9_weigh_0_ok (6, .istore 4, 2) (List.mem_of_getElem? (i := 4) rfl)) ?_
  refine w_iconst (by decide) (tX9_weigh_0_ok (8, .iconst 0, 1) (List.mem_of_getElem? (i := 5) rfl)) (fun zv5 ze6 => ?_)
  refine w_istore [(5, .int zv5), (4, .int zv3), (0, .ref w), (1, .ref pl), (2, .ref st), (3, .ref fo)] rfl (Nat.le_of_ble_eq_true rfl) (tX9_weigh_0_ok (9, .istore 5, 2) (List.mem_of_getElem? (i := 6) rfl)) ?_
  refine w_lv [(5, .int zv5), (4, .int zv3), (0, .ref w), (1, .ref pl), (2, .ref st), (3, .ref fo)] (by intro q hq; simp only [List.mem_cons, List.not_mem_nil, or_false] at hq ⊢; rcases hq with e | e | e | e | e | e <;> subst e <;> simp) ?_
  refine c_wg1 hT w0 w1 p0 p1 p4 p8 s3 s4 f3 f4 nd nbl hb hC hn hpe (by omega) (2 * nn.toInt.toNat) _ _ _ _ (by omega) (by omega) (fun q hq9 => absurd hq9 (by omega)) c_w c_pl c_st c_fo c_pk c_pw c_ph c_sw c_sa c_fw c_wb c_wl (fun zg7 zia8 zBa9 zLa10 zq11 zq12 zq13 zq14 => ?_)
  have zc15 := (zq14 w ⟨n_w_wb, n_w_wl⟩).trans c_w
  have zc16 := (zq14 pl ⟨n_pl_wb, n_pl_wl⟩).trans c_pl
  have zc17 := (zq14 st ⟨n_st_wb, n_st_wl⟩).trans c_st
  have zc18 := (zq14 fo ⟨n_fo_wb, n_fo_wl⟩).trans c_fo
  have zc19 := (zq14 pk ⟨n_pk_wb, n_pk_wl⟩).trans c_pk
  have zc20 := (zq14 pw ⟨n_pw_wb, n_pw_wl⟩).trans c_pw
  have zc21 := (zq14 ph ⟨n_ph_wb, n_ph_wl⟩).trans c_ph
  have zc22 := (zq14 sw ⟨n_sw_wb, n_sw_wl⟩).trans c_sw
  have zc23 := (zq14 sa ⟨n_sa_wb, n_sa_wl⟩).trans c_sa
  have zc24 := (zq14 fw ⟨n_fw_wb, n_fw_wl⟩).trans c_fw
  show ww l D tys A X fr lo mX9_weigh Q 46 [(5, .int zia8), (4, .int zv3), (0, .ref w), (1, .ref pl), (2, .ref st), (3, .ref fo)] [] zg7
  refine w_iconst (by decide) (tX9_weigh_0_ok (46, .iconst 0, 1) (List.mem_of_getElem? (i := 25) rfl)) (fun zv25 ze26 => ?_)
  refine w_istore [(5, .int zv25), (4, .int zv3), (0, .ref w), (1, .ref pl), (2, .ref st), (3, .ref fo)] rfl (Nat.le_of_ble_eq_true rfl) (tX9_weigh_0_ok (47, .istore 5, 2) (List.mem_of_getElem? (i := 26) rfl)) ?_
  refine w_lv [(5, .int zv25), (4, .int zv3), (0, .ref w), (1, .ref pl), (2, .ref st), (3, .ref fo)] (by intro q hq; simp only [List.mem_cons, List.not_mem_nil, or_false] at hq ⊢; rcases hq with e | e | e | e | e | e <;> subst e <;> simp) ?_
  refine c_wg2 hT w0 w1 p0 p1 p4 p8 s3 s4 f3 f4 nd nbl hb hC hn hpe (by omega) (pe.toInt.toNat) _ _ _ _ (by omega) (by omega) (fun q hq9 => by rw [show (zv25).toInt.toNat = 0 by omega]; exact zq11 q hq9) zc15 zc16 zc17 zc18 zc19 zc20 zc21 zc22 zc23 zc24 zq12 zq13 (fun zg27 zia28 zBa29 zLa30 zq31 zq32 zq33 zq34 => ?_)
  have zc35 := (zq34 w ⟨n_w_wb, n_w_wl⟩).trans zc15
  have zc36 := (zq34 pl ⟨n_pl_wb, n_pl_wl⟩).trans zc16
  have zc37 := (zq34 st ⟨n_st_wb, n_st_wl⟩).trans zc17
  have zc38 := (zq34 fo ⟨n_fo_wb, n_fo_wl⟩).trans zc18
  have zc39 := (zq34 pk ⟨n_pk_wb, n_pk_wl⟩).trans zc19
  have zc40 := (zq34 pw ⟨n_pw_wb, n_pw_wl⟩).trans zc20
  have zc41 := (zq34 ph ⟨n_ph_wb, n_ph_wl⟩).trans zc21
  have zc42 := (zq34 sw ⟨n_sw_wb, n_sw_wl⟩).trans zc22
  have zc43 := (zq34 sa ⟨n_sa_wb, n_sa_wl⟩).trans zc23
  have zc44 := (zq34 fw ⟨n_fw_wb, n_fw_wl⟩).trans zc24
  show ww l D tys A X fr lo mX9_weigh Q 102 [(5, .int zia28), (4, .int zv3), (0, .ref w), (1, .ref pl), (2, .ref st), (3, .ref fo)] [] zg27
  refine w_aload_n (List.Mem.tail _ (List.Mem.tail _ (List.Mem.tail _ (List.Mem.head _)))) (tX9_weigh_0_ok (102, .aload_n 1, 1) (List.mem_of_getElem? (i := 54) rfl)) ?_
  refine w_get (own := 14) rfl rfl (by decide) zc36 p0 (tX9_weigh_0_ok (103, .getfield 21, 3) (List.mem_of_getElem? (i := 55) rfl)) ?_
  refine w_iconst (by decide) (tX9_weigh_0_ok (106, .iconst 1, 1) (List.mem_of_getElem? (i := 56) rfl)) (fun zv45 ze46 => ?_)
  refine w_isub (by omega) (by omega) (tX9_weigh_0_ok (107, .isub, 1) (List.mem_of_getElem? (i := 57) rfl)) (fun zv47 ze48 => ?_)
  refine w_istore [(5, .int zv47), (4, .int zv3), (0, .ref w), (1, .ref pl), (2, .ref st), (3, .ref fo)] rfl (Nat.le_of_ble_eq_true rfl) (tX9_weigh_0_ok (108, .istore 5, 2) (List.mem_of_getElem? (i := 58) rfl)) ?_
  refine w_lv [(5, .int zv47), (4, .int zv3), (0, .ref w), (1, .ref pl), (2, .ref st), (3, .ref fo)] (by intro q hq; simp only [List.mem_cons, List.not_mem_nil, or_false] at hq ⊢; rcases hq with e | e | e | e | e | e <;> subst e <;> simp) ?_
  refine c_wg3 hT w0 w1 p0 p1 p4 p8 s3 s4 f3 f4 nd nbl hb hC hn hpe (by omega) (by omega) (by omega) (nn.toInt.toNat) _ _ _ _ (by omega) (by omega) ⟨fun q hq9 => by rw [zq31 q hq9, show ((zv47).toInt + 1).toNat = nn.toInt.toNat by omega]; omega, fun p h1 h2 => absurd h1 (by omega)⟩ zc35 zc36 zc37 zc38 zc39 zc40 zc41 zc42 zc43 zc44 zq32 zq33 (fun zg49 zia50 zBa51 zLa52 zq53 zq54 zq55 zq56 => ?_)
  have zc57 := (zq56 w ⟨n_w_wb, n_w_wl⟩).trans zc35
  have zc58 := (zq56 pl ⟨n_pl_wb, n_pl_wl⟩).trans zc36
  have zc59 := (zq56 st ⟨n_st_wb, n_st_wl⟩).trans zc37
  have zc60 := (zq56 fo ⟨n_fo_wb, n_fo_wl⟩).trans zc38
  have zc61 := (zq56 pk ⟨n_pk_wb, n_pk_wl⟩).trans zc39
  have zc62 := (zq56 pw ⟨n_pw_wb, n_pw_wl⟩).trans zc40
  have zc63 := (zq56 ph ⟨n_ph_wb, n_ph_wl⟩).trans zc41
  have zc64 := (zq56 sw ⟨n_sw_wb, n_sw_wl⟩).trans zc42
  have zc65 := (zq56 sa ⟨n_sa_wb, n_sa_wl⟩).trans zc43
  have zc66 := (zq56 fw ⟨n_fw_wb, n_fw_wl⟩).trans zc44
  show ww l D tys A X fr lo mX9_weigh Q 215 [(5, .int zia50), (4, .int zv3), (0, .ref w), (1, .ref pl), (2, .ref st), (3, .ref fo)] [] zg49
  refine w_vret rfl (tX9_weigh_1_ok (215, .return_, 1) (List.mem_of_getElem? (i := 58) rfl)) ?_
  exact hq _ _ _ zq53.1 zq53.2 zq54 zq55 (fun q hq => (zq56 q hq).trans ((zq34 q hq).trans (zq14 q hq)))
end
