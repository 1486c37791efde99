/-! the reference over stores: a MINUTE -/
/-- its rows -/
def qz (I : zI) (n : Nat) (ρ : aRw) : Prop := (I 50 20).toInt = (n : Int) ∧ wfR n ρ ∧ ∀ q, q < n → ∀ w, w < 9 → (I 55 (9 * q + w)).toInt = ρ q w
theorem qz.mv {I I1 : zI} {n : Nat} {ρ : aRw} (H : qz I n ρ) (o : I1 50 20 = I 50 20) (o5 : I1 55 = I 55) : qz I1 n ρ := by
  refine ⟨by rw [o]; exact H.1, H.2.1, fun q hq w hw => ?_⟩
  rw [o5]
  exact H.2.2 q hq w hw
/-- what rooms bear -/
def yz (I : zI) (n pe : Nat) (b : Nat → Int) : Prop := (I 50 33).toInt = (pe : Int) ∧ bo (I 55) (I 56) (I 62) pe n ∧ ∀ q, q < 2 * n → sp_br (I 55) (I 56) (I 62) pe n 12 q = b q
theorem bo.ext {R T T1 Wt : Nat → Int32} {n r : Nat} (H : bo R T Wt n r) (h : ∀ k, 18 ≤ k → k < 38 → T1 k = T k) : bo R T1 Wt n r := ⟨H.1, fun k hk => by rw [h (18 + k) (by omega) (by omega)]; exact H.2.1 k hk, H.2.2⟩
theorem yz.mv {I I1 : zI} {n pe : Nat} {b : Nat → Int} (H : yz I n pe b) (o : I1 50 33 = I 50 33) (o5 : I1 55 = I 55) (o6 : I1 62 = I 62) (ot : ∀ k, 18 ≤ k → k < 38 → I1 56 k = I 56 k) : yz I1 n pe b := by
  refine ⟨by rw [o]; exact H.1, by rw [o5, o6]; exact H.2.1.ext ot, fun q hq => ?_⟩
  rw [o5, o6, sp_br_ext H.2.1.2.2.2.1 H.2.1.2.2.2.2 ot 12 q (by have := H.2.1.2.2.2.2; omega)]
  exact H.2.2 q hq
section
variable {l : Launch} {D : va_G} {tys : List (ClassId × FieldType)} {A : Nat → Prop} {X : State → Prop} {fr lo : Nat} {Q : Option Value → ch_H → Prop} {cA : Nat → ClassId} {h : ch_H} {ad : Nat → Nat} {I : zI} {W : zW} {O : zO} {n pe : Nat} {ρ : aRw} {b : Nat → Int}
theorem w_absR {M : ch_M} {pc : Nat} {lv : List (Nat × Value)} {st : List Value} {x : Int32} (hx : -1000000000 ≤ x.toInt ∧ x.toInt ≤ 1000000000) (hM : M.1.cls = RX11) (hst : (st.map fun v => v.category).sum + 13 ≤ lo) (hf : 1 ≤ fr) (hd : decode M.2.1 pc = .ok (.invokestatic 304, 3)) (k : ∀ v : Int32, v.toInt = (if x.toInt < 0 then -x.toInt else x.toInt) → ww l D tys A X fr lo M Q (pc + 3) lv (.int v :: st) h) : ww l D tys A X fr lo M Q pc lv (.int x :: st) h := by
  have hw : Cond.methodLink M.1.cls 304 Lib.Math.abs.name ∈ wsA := by rw [hM]; exact cllw_X11 (304, 12, 0) (List.mem_of_getElem? (i := 44) rfl)
  exact tt_mabs hw pg_abs.1 pg_math pg_abs.2 hf hst (Nat.le_refl _) (Nat.le_refl _) hd (k _ (abs_v hx))
theorem y_of (hT : k_tys tys cA) {p w : Int32} (hz : zr zNM cA ad I W O h) (hp : qz I n ρ) (h0 : 0 ≤ p.toInt ∧ p.toInt < (n : Int)) (hw : 0 ≤ w.toInt ∧ w.toInt ≤ 8) (hq : ∀ v : Int32, v.toInt = ρ p.toInt.toNat w.toInt.toNat → Q (some (.int v)) h) : ww l D tys A X fr lo mX11_of Q 0 [(0, .ref (ad 50)), (1, .int p), (2, .int w)] [] h := by
  have n6 := hp.2.1.1
  refine w_aload_n (List.Mem.head _) (tX11_of_0_ok (0, .aload_n 0, 1) (List.mem_of_getElem? (i := 0) rfl)) ?_
  refine z_getR (L1 := 55) (own := 16) (k := 19) hz rfl rfl rfl rfl rfl rfl rfl (by decide) (tX11_of_0_ok (1, .getfield 42, 3) (List.mem_of_getElem? (i := 1) rfl)) ?_
  refine w_bipush (by decide) (tX11_of_0_ok (4, .bipush 9, 2) (List.mem_of_getElem? (i := 2) rfl)) (fun zv1 ze2 => ?_)
  refine w_iload_n (List.Mem.tail _ (List.Mem.head _)) (tX11_of_0_ok (6, .iload_n 1, 1) (List.mem_of_getElem? (i := 3) rfl)) ?_
  refine w_imul (by assumption) (by omega) (by omega) (tX11_of_0_ok (7, .imul, 1) (List.mem_of_getElem? (i := 4) rfl)) (fun zv3 ze4 => ?_)
  refine w_iload_n (List.Mem.tail _ (List.Mem.tail _ (List.Mem.head _))) (tX11_of_0_ok (8, .iload_n 2, 1) (List.mem_of_getElem? (i := 5) rfl)) ?_
  refine w_iadd (by omega) (by omega) (tX11_of_0_ok (9, .iadd, 1) (List.mem_of_getElem? (i := 6) rfl)) (fun zv5 ze6 => ?_)
  refine z_iald (f := (I 55)) hT hz rfl rfl rfl (by omega) (by omega) (tX11_of_0_ok (10, .iaload, 1) (List.mem_of_getElem? (i := 7) rfl)) (fun zv7 zu8 => ?_)
  have ze9 : zv7.toInt = ((I 55) zv5.toInt.toNat).toInt := congrArg _ zu8
  refine w_iret rfl (tX11_of_0_ok (11, .ireturn, 1) (List.mem_of_getElem? (i := 8) rfl)) ?_
  refine hq _ ?_
  rw [zu8]
  rw [show zv5.toInt.toNat = 9 * p.toInt.toNat + w.toInt.toNat by omega]
  exact hp.2.2 _ (by omega) _ (by omega)
theorem y_br9 (hz : zr zNM cA ad I W O h) (hp : qz I n ρ) (hy : yz I n pe b) : br9 cA h (ad 50) (z_fs ad (I 50) (W 50) (O 50) 0 (zZ 50).2.2.2) (ad 55) (ad 56) (ad 62) (I 55) (I 56) (I 62) (I 50 33) (I 50 20) := by
  have e1 : (I 50 33).toInt.toNat = pe := by have := hy.1; omega
  have e2 : (I 50 20).toInt.toNat = n := by have := hp.1; omega
  exact ⟨hz.ob (L := 50) rfl rfl, z_fsR (k := 19) rfl rfl rfl, z_fsI (k := 20) rfl rfl, z_fsR (k := 22) rfl rfl rfl, z_fsR (k := 28) rfl rfl rfl, z_fsI (k := 33) rfl rfl, hz.ar (L := 55) rfl rfl rfl, hz.ar (L := 56) rfl rfl rfl, hz.ar (L := 62) rfl rfl rfl, by have := hy.1; omega, by have := hp.1; omega, by rw [e1, e2]; exact hy.2.1⟩
theorem y_bears (hT : k_tys tys cA) {k : Int32} (hz : zr zNM cA ad I W O h) (hp : qz I n ρ) (hy : yz I n pe b) (h0 : 0 ≤ k.toInt ∧ k.toInt < 2 * (n : Int)) (hf : 13 ≤ fr) (hlo : 330 ≤ lo) (hq : ∀ v : Int32, v.toInt = b k.toInt.toNat → Q (some (.int v)) h) : ww l D tys A X fr lo mX11_bears Q 0 [(0, .ref (ad 50)), (1, .int k)] [] h := by
  have e1 : (I 50 33).toInt.toNat = pe := by have := hy.1; omega
  have e2 : (I 50 20).toInt.toNat = n := by have := hp.1; omega
  have n6 := hp.2.1.1
  refine h_bears hT (y_br9 hz hp hy) 12 fr lo Q k (by omega) (by omega) (by omega) (by omega) (fun v e => hq v ?_)
  rw [e, e1, e2]
  exact hy.2.2 _ (by omega)
theorem y_bb (hp : qz I n ρ) (hy : yz I n pe b) {q : Nat} (hq : q < 2 * n) : -68040 ≤ b q ∧ b q ≤ 68040 := by
  have n6 := hp.2.1.1
  have h1 := sp_br_b hy.2.1 12 q (by omega)
  have h2 := pw_b (q / 2)
  rw [hy.2.2 q hq] at h1
  omega
theorem y_pull (hT : k_tys tys cA) {p : Int32} {x : Int} (hz : zr zNM cA ad I W O h) (hp : qz I n ρ) (hy : yz I n pe b) (h0 : 0 ≤ p.toInt ∧ p.toInt < (n : Int)) (ex : (I 56 p.toInt.toNat).toInt = x) (hx : 0 ≤ x ∧ x ≤ ρ p.toInt.toNat 1) (hf : 14 ≤ fr) (hlo : 380 ≤ lo) (hq : ∀ v : Int32, v.toInt = m_pu ρ b p.toInt.toNat x → -1000000 ≤ v.toInt → v.toInt ≤ 1000000 → Q (some (.int v)) h) : ww l D tys A X fr lo mX11_pull Q 0 [(0, .ref (ad 50)), (1, .int p)] [] h := by
  have e1 : (I 50 33).toInt.toNat = pe := by have := hy.1; omega
  have e2 : (I 50 20).toInt.toNat = n := by have := hp.1; omega
  have n6 := hp.2.1.1
  have hp9 : p.toInt.toNat < n := by omega
  obtain ⟨w0, wL, wX, -, -, wD, wI, wV, wH⟩ := (hp.2.1.2 _ hp9).1
  have r0 := hp.2.2 _ hp9 0 (by decide)
  have r1 := hp.2.2 _ hp9 1 (by decide)
  have r7 := hp.2.2 _ hp9 7 (by decide)
  have b1 := y_bb hp hy (q := 2 * p.toInt.toNat) (by omega)
  have b2 := y_bb hp hy (q := 2 * p.toInt.toNat + 1) (by omega)
  have hm := mul_bd wV (y := ρ p.toInt.toNat 1 - 2 * x) (by omega)
  refine h_pull hT (by omega) (by omega) (by omega) (by omega) hf hlo (y_br9 hz hp hy) (fun v e => ?_)
  rw [e1, e2, hy.2.2 _ (by omega), hy.2.2 _ (by omega), show 9 * p.toInt.toNat = 9 * p.toInt.toNat + 0 from rfl, r0, r1, r7, ex] at e
  have eb : -1000000 ≤ v.toInt ∧ v.toInt ≤ 1000000 := by
    rw [e]
    unfold sp_pl9
    split
    · omega
    · split <;> omega
  exact hq v e eb.1 eb.2
theorem y_draw (hz : zr zNM cA ad I W O h) (hq : ∀ (g : ch_H) (W1 : zW) (v : Int32), v = d_v (d_nx (W 50 36)) → W1 = s2 W 50 (wpd (W 50) 36 (d_nx (W 50 36))) → zr zNM cA ad I W1 O g → zf zNM ad h g → Q (some (.int v)) g) : ww l D tys A X fr lo mX11_draw Q 0 [(0, .ref (ad 50))] [] h := by
  refine w_aload_n (List.Mem.head _) (tX11_draw_0_ok (0, .aload_n 0, 1) (List.mem_of_getElem? (i := 0) rfl)) ?_
  refine w_aload_n (List.Mem.head _) (tX11_draw_0_ok (1, .aload_n 0, 1) (List.mem_of_getElem? (i := 1) rfl)) ?_
  refine z_getJ (own := 16) (k := 36) (w := W 50) hz rfl rfl rfl rfl rfl rfl rfl (by decide) (tX11_draw_0_ok (2, .getfield 270, 3) (List.mem_of_getElem? (i := 2) rfl)) ?_
  refine tt_ldc2 (v := 6364136223846793005) (pg_jw 16 (295, 6364136223846793005) (List.mem_of_getElem? (i := 2) rfl)) (tX11_draw_0_ok (5, .ldc2_w 295, 3) (List.mem_of_getElem? (i := 3) rfl)) ?_
  refine tt_lmul (tX11_draw_0_ok (8, .lmul, 1) (List.mem_of_getElem? (i := 4) rfl)) ?_
  refine tt_ldc2 (v := 1442695040888963407) (pg_jw 16 (297, 1442695040888963407) (List.mem_of_getElem? (i := 3) rfl)) (tX11_draw_0_ok (9, .ldc2_w 297, 3) (List.mem_of_getElem? (i := 5) rfl)) ?_
  refine tt_ladd (tX11_draw_0_ok (12, .ladd, 1) (List.mem_of_getElem? (i := 6) rfl)) ?_
  refine z_putJ (own := 16) (k := 36) (w := W 50) hz rfl rfl rfl rfl rfl rfl rfl (by decide) rfl ⟨rfl, rfl⟩ (tX11_draw_0_ok (13, .putfield 270, 3) (List.mem_of_getElem? (i := 7) rfl)) (fun g W1 q1 z1 f1 => ?_)
  refine w_aload_n (List.Mem.head _) (tX11_draw_0_ok (16, .aload_n 0, 1) (List.mem_of_getElem? (i := 8) rfl)) ?_
  refine z_getJ (own := 16) (k := 36) z1 rfl rfl rfl rfl ((congrFun q1 _).trans (s2_s _ _ _)) rfl rfl (by decide) (tX11_draw_0_ok (17, .getfield 270, 3) (List.mem_of_getElem? (i := 9) rfl)) ?_
  rw [wpd_s]
  refine tt_bipush (v := 33) rfl (tX11_draw_0_ok (20, .bipush 33, 2) (List.mem_of_getElem? (i := 10) rfl)) ?_
  refine tt_lushr (tX11_draw_0_ok (22, .lushr, 1) (List.mem_of_getElem? (i := 11) rfl)) ?_
  refine tt_ldc2 (v := 100) (pg_jw 16 (299, 100) (List.mem_of_getElem? (i := 4) rfl)) (tX11_draw_0_ok (23, .ldc2_w 299, 3) (List.mem_of_getElem? (i := 12) rfl)) ?_
  refine tt_lrem (by decide) (tX11_draw_0_ok (26, .lrem, 1) (List.mem_of_getElem? (i := 13) rfl)) ?_
  refine tt_l2i (tX11_draw_0_ok (27, .l2i, 1) (List.mem_of_getElem? (i := 14) rfl)) ?_
  refine tt_iret rfl ?_ (by decide) (by decide) (tX11_draw_0_ok (28, .ireturn, 1) (List.mem_of_getElem? (i := 15) rfl))
  exact hq g W1 _ rfl q1 z1 f1
theorem y_mnB (hT : k_tys tys cA) {T : Nat → Int32} {d : Int64} {sl9 sp p fe : Int32} {fb : Bool} (hz : zr zNM cA ad I W O h) (hp : qz I n ρ) (hy : yz I n pe b) (hf : 16 ≤ fr) (hlo : 420 ≤ lo) (h0 : 0 ≤ p.toInt ∧ p.toInt < (n : Int)) (hsp : 0 ≤ sp.toInt ∧ sp.toInt ≤ 6) (hfe : fe.toInt = 0 ∧ fb = false ∨ fe.toInt = 1 ∧ fb = true) (hx : m_ok n ρ T) (hXT : ∀ q, q < n → I 56 q = T q ∧ I 56 (6 + q) = T (6 + q)) (kk : ∀ (g : ch_H) (I1 : zI) (sp1 p1 : Int32), p1.toInt = p.toInt + 1 → sp1.toInt = (m_0 ρ b p.toInt.toNat fb T d sp.toInt).2.2 → (∀ q, q < n → I1 56 q = (m_0 ρ b p.toInt.toNat fb T d sp.toInt).1 q ∧ I1 56 (6 + q) = (m_0 ρ b p.toInt.toNat fb T d sp.toInt).1 (6 + q)) → (∀ k, 12 ≤ k → I1 56 k = I 56 k) → (∀ L, L ≠ 56 → I1 L = I L) → zr zNM cA ad I1 W O g → zf zNM ad h g → ww l D tys A X fr lo mX11_minute Q 4 [(2, .int sp1), (3, .int p1), (0, .ref (ad 50)), (1, .int sl9)] [] g) : ww l D tys A X fr lo mX11_minute Q 72 [(0, .ref (ad 50)), (1, .int sl9), (2, .int sp), (3, .int p), (5, .int fe)] [] h := by
  have n6 := hp.2.1.1
  have hp9 : p.toInt.toNat < n := by omega
  obtain ⟨w0, wL, wX, -, -, wD, wI, wV, wH⟩ := (hp.2.1.2 _ hp9).1
  have x9 := hx _ hp9
  refine w_aload_n (List.Mem.head _) (tX11_minute_0_ok (72, .aload_n 0, 1) (List.mem_of_getElem? (i := 40) rfl)) ?_
  refine w_iload_n (List.Mem.tail _ (List.Mem.tail _ (List.Mem.tail _ (List.Mem.head _)))) (tX11_minute_0_ok (73, .iload_n 3, 1) (List.mem_of_getElem? (i := 41) rfl)) ?_
  refine w_callV (own := 16) (mi := 230) [.int p] [] [(0, .ref (ad 50)), (1, .int p)] rfl (cllw_X11 (289, 0, 230) (List.mem_of_getElem? (i := 36) rfl)) rfl rfl (hz.ob rfl rfl) rfl (by omega) (w_lo (n := 23) rfl (by omega)) (Nat.le_of_ble_eq_true rfl) (Nat.le_of_ble_eq_true rfl) rfl (tX11_minute_0_ok (74, .invokevirtual 289, 3) (List.mem_of_getElem? (i := 42) rfl)) (y_pull hT hz hp hy h0 (x := (T p.toInt.toNat).toInt) (by rw [(hXT _ hp9).1]) x9 (by omega) (w_sub (n := 23) rfl (by omega)) (fun zv1 ze2 zb3 zb4 => ?_))
  show ww l D tys A X fr lo mX11_minute Q 77 [(0, .ref (ad 50)), (1, .int sl9), (2, .int sp), (3, .int p), (5, .int fe)] [.int zv1] h
  refine w_istore [(6, .int zv1), (0, .ref (ad 50)), (1, .int sl9), (2, .int sp), (3, .int p), (5, .int fe)] rfl (Nat.le_of_ble_eq_true rfl) (tX11_minute_0_ok (77, .istore 6, 2) (List.mem_of_getElem? (i := 43) rfl)) ?_
  refine w_iload (List.Mem.tail _ (List.Mem.tail _ (List.Mem.tail _ (List.Mem.tail _ (List.Mem.tail _ (List.Mem.head _)))))) (tX11_minute_0_ok (79, .iload 5, 2) (List.mem_of_getElem? (i := 44) rfl)) ?_
  refine w_if_eq (tgt := 89) (tX11_minute_0_ok (81, .ifCond .eq 8, 3) (List.mem_of_getElem? (i := 45) rfl)) rfl (fun zb5 => ?_) (fun zb5 => ?_)
  · refine w_iload (List.Mem.head _) (tX11_minute_0_ok (89, .iload 6, 2) (List.mem_of_getElem? (i := 48) rfl)) ?_
    refine w_absR (by omega) rfl (by show 13 ≤ lo; omega) (by omega) (tX11_minute_0_ok (91, .invokestatic 304, 3) (List.mem_of_getElem? (i := 49) rfl)) (fun zv6 ze7 => ?_)
    refine w_aload_n (List.Mem.tail _ (List.Mem.head _)) (tX11_minute_0_ok (94, .aload_n 0, 1) (List.mem_of_getElem? (i := 50) rfl)) ?_
    refine w_iload_n (List.Mem.tail _ (List.Mem.tail _ (List.Mem.tail _ (List.Mem.tail _ (List.Mem.head _))))) (tX11_minute_0_ok (95, .iload_n 3, 1) (List.mem_of_getElem? (i := 51) rfl)) ?_
    refine w_iconst (by decide) (tX11_minute_0_ok (96, .iconst 5, 1) (List.mem_of_getElem? (i := 52) rfl)) (fun zv8 ze9 => ?_)
    refine w_callV (own := 16) (mi := 219) [.int p, .int zv8] [.int zv6] [(0, .ref (ad 50)), (1, .int p), (2, .int zv8)] rfl (cllw_X11 (255, 0, 219) (List.mem_of_getElem? (i := 34) rfl)) rfl rfl (hz.ob rfl rfl) rfl (by omega) (w_lo (n := 22) rfl (by omega)) (Nat.le_of_ble_eq_true rfl) (Nat.le_of_ble_eq_true rfl) rfl (tX11_minute_0_ok (97, .invokevirtual 255, 3) (List.mem_of_getElem? (i := 53) rfl)) (y_of hT hz hp h0 (by omega) (fun zv10 ze11 => ?_))
    show ww l D tys A X fr lo mX11_minute Q 100 [(6, .int zv1), (0, .ref (ad 50)), (1, .int sl9), (2, .int sp), (3, .int p), (5, .int fe)] [.int zv10, .int zv6] h
    rw [show zv8.toInt.toNat = 5 by omega] at ze11
    refine w_icmp_gt (tgt := 106) (tX11_minute_0_ok (100, .if_icmp .gt 6, 3) (List.mem_of_getElem? (i := 54) rfl)) rfl (fun zb12 => ?_) (fun zb12 => ?_)
    · refine w_aload_n (List.Mem.tail _ (List.Mem.head _)) (tX11_minute_0_ok (106, .aload_n 0, 1) (List.mem_of_getElem? (i := 56) rfl)) ?_
      refine w_iload_n (List.Mem.tail _ (List.Mem.tail _ (List.Mem.tail _ (List.Mem.tail _ (List.Mem.head _))))) (tX11_minute_0_ok (107, .iload_n 3, 1) (List.mem_of_getElem? (i := 57) rfl)) ?_
      refine w_iconst (by decide) (tX11_minute_0_ok (108, .iconst 0, 1) (List.mem_of_getElem? (i := 58) rfl)) (fun zv13 ze14 => ?_)
      refine w_callV (own := 16) (mi := 219) [.int p, .int zv13] [] [(0, .ref (ad 50)), (1, .int p), (2, .int zv13)] rfl (cllw_X11 (255, 0, 219) (List.mem_of_getElem? (i := 34) rfl)) rfl rfl (hz.ob rfl rfl) rfl (by omega) (w_lo (n := 22) rfl (by omega)) (Nat.le_of_ble_eq_true rfl) (Nat.le_of_ble_eq_true rfl) rfl (tX11_minute_0_ok (109, .invokevirtual 255, 3) (List.mem_of_getElem? (i := 59) rfl)) (y_of hT hz hp h0 (by omega) (fun zv15 ze16 => ?_))
      show ww l D tys A X fr lo mX11_minute Q 112 [(6, .int zv1), (0, .ref (ad 50)), (1, .int sl9), (2, .int sp), (3, .int p), (5, .int fe)] [.int zv15] h
      rw [show zv13.toInt.toNat = 0 by omega] at ze16
      refine w_iconst (by decide) (tX11_minute_1_ok (112, .iconst 1, 1) (List.mem_of_getElem? (i := 0) rfl)) (fun zv17 ze18 => ?_)
      refine w_icmp_ne (tgt := 120) (tX11_minute_1_ok (113, .if_icmp .ne 7, 3) (List.mem_of_getElem? (i := 1) rfl)) rfl (fun zb19 => ?_) (fun zb19 => ?_)
      · refine w_iconst (by decide) (tX11_minute_1_ok (120, .iconst 1, 1) (List.mem_of_getElem? (i := 4) rfl)) (fun zv20 ze21 => ?_)
        refine w_istore [(7, .int zv20), (6, .int zv1), (0, .ref (ad 50)), (1, .int sl9), (2, .int sp), (3, .int p), (5, .int fe)] rfl (Nat.le_of_ble_eq_true rfl) (tX11_minute_1_ok (121, .istore 7, 2) (List.mem_of_getElem? (i := 5) rfl)) ?_
        refine w_iload (List.Mem.tail _ (List.Mem.head _)) (tX11_minute_1_ok (123, .iload 6, 2) (List.mem_of_getElem? (i := 6) rfl)) ?_
        refine w_if_le (tgt := 140) (tX11_minute_1_ok (125, .ifCond .le 15, 3) (List.mem_of_getElem? (i := 7) rfl)) rfl (fun zb22 => ?_) (fun zb22 => ?_)
        · refine w_aload_n (List.Mem.tail _ (List.Mem.tail _ (List.Mem.head _))) (tX11_minute_1_ok (140, .aload_n 0, 1) (List.mem_of_getElem? (i := 15) rfl)) ?_
          refine z_getR (L1 := 56) (own := 16) (k := 22) hz rfl rfl rfl rfl rfl rfl rfl (by decide) (tX11_minute_1_ok (141, .getfield 45, 3) (List.mem_of_getElem? (i := 16) rfl)) ?_
          refine w_iload_n (List.Mem.tail _ (List.Mem.tail _ (List.Mem.tail _ (List.Mem.tail _ (List.Mem.tail _ (List.Mem.head _)))))) (tX11_minute_1_ok (144, .iload_n 3, 1) (List.mem_of_getElem? (i := 17) rfl)) ?_
          refine z_iald (f := (I 56)) hT hz rfl rfl rfl (by omega) (by omega) (tX11_minute_1_ok (145, .iaload, 1) (List.mem_of_getElem? (i := 18) rfl)) (fun zv23 zu24 => ?_)
          have ze25 : zv23.toInt = ((I 56) p.toInt.toNat).toInt := congrArg _ zu24
          have yzv23 := (hXT _ hp9).1
          rw [← zu24] at yzv23
          have wzv23 : zv23.toInt = (T p.toInt.toNat).toInt := by rw [yzv23]
          refine w_iload (List.Mem.head _) (tX11_minute_1_ok (146, .iload 7, 2) (List.mem_of_getElem? (i := 19) rfl)) ?_
          refine w_iadd (by omega) (by omega) (tX11_minute_1_ok (148, .iadd, 1) (List.mem_of_getElem? (i := 20) rfl)) (fun zv26 ze27 => ?_)
          refine w_istore [(8, .int zv26), (7, .int zv20), (6, .int zv1), (0, .ref (ad 50)), (1, .int sl9), (2, .int sp), (3, .int p), (5, .int fe)] rfl (Nat.le_of_ble_eq_true rfl) (tX11_minute_1_ok (149, .istore 8, 2) (List.mem_of_getElem? (i := 21) rfl)) ?_
          refine w_iload (List.Mem.head _) (tX11_minute_1_ok (151, .iload 8, 2) (List.mem_of_getElem? (i := 22) rfl)) ?_
          refine w_iconst (by decide) (tX11_minute_1_ok (153, .iconst 0, 1) (List.mem_of_getElem? (i := 23) rfl)) (fun zv28 ze29 => ?_)
          refine w_aload_n (List.Mem.tail _ (List.Mem.tail _ (List.Mem.tail _ (List.Mem.head _)))) (tX11_minute_1_ok (154, .aload_n 0, 1) (List.mem_of_getElem? (i := 24) rfl)) ?_
          refine w_iload_n (List.Mem.tail _ (List.Mem.tail _ (List.Mem.tail _ (List.Mem.tail _ (List.Mem.tail _ (List.Mem.tail _ (List.Mem.head _))))))) (tX11_minute_1_ok (155, .iload_n 3, 1) (List.mem_of_getElem? (i := 25) rfl)) ?_
          refine w_iconst (by decide) (tX11_minute_1_ok (156, .iconst 1, 1) (List.mem_of_getElem? (i := 26) rfl)) (fun zv30 ze31 => ?_)
          refine w_callV (own := 16) (mi := 219) [.int p, .int zv30] [.int zv28, .int zv26] [(0, .ref (ad 50)), (1, .int p), (2, .int zv30)] rfl (cllw_X11 (255, 0, 219) (List.mem_of_getElem? (i := 34) rfl)) rfl rfl (hz.ob rfl rfl) rfl (by omega) (w_lo (n := 22) rfl (by omega)) (Nat.le_of_ble_eq_true rfl) (Nat.le_of_ble_eq_true rfl) rfl (tX11_minute_1_ok (157, .invokevirtual 255, 3) (List.mem_of_getElem? (i := 27) rfl)) (y_of hT hz hp h0 (by omega) (fun zv32 ze33 => ?_))
          show ww l D tys A X fr lo mX11_minute Q 160 [(8, .int zv26), (7, .int zv20), (6, .int zv1), (0, .ref (ad 50)), (1, .int sl9), (2, .int sp), (3, .int p), (5, .int fe)] [.int zv32, .int zv28, .int zv26] h
          rw [show zv30.toInt.toNat = 1 by omega] at ze33
          refine w_callS (own := 16) (mi := 199) [.int zv26, .int zv28, .int zv32] [] [(0, .int zv26), (1, .int zv28), (2, .int zv32)] rfl (cllw_X11 (207, 1, 199) (List.mem_of_getElem? (i := 2) rfl)) rfl rfl (by omega) (w_lo (n := 22) rfl (by omega)) (Nat.le_of_ble_eq_true rfl) (Nat.le_of_ble_eq_true rfl) rfl (tX11_minute_1_ok (160, .invokestatic 207, 3) (List.mem_of_getElem? (i := 28) rfl)) (r_isIn (fun zv34 ze35 => ?_))
          show ww l D tys A X fr lo mX11_minute Q 163 [(8, .int zv26), (7, .int zv20), (6, .int zv1), (0, .ref (ad 50)), (1, .int sl9), (2, .int sp), (3, .int p), (5, .int fe)] [.int zv34] h
          refine w_if_eq (tgt := 198) (tX11_minute_1_ok (163, .ifCond .eq 35, 3) (List.mem_of_getElem? (i := 29) rfl)) rfl (fun zb36 => ?_) (fun zb36 => ?_)
          · refine w_iinc (fun zv37 => [(3, .int zv37), (8, .int zv26), (7, .int zv20), (6, .int zv1), (0, .ref (ad 50)), (1, .int sl9), (2, .int sp), (5, .int fe)]) (fun _ => rfl) (List.Mem.tail _ (List.Mem.tail _ (List.Mem.tail _ (List.Mem.tail _ (List.Mem.tail _ (List.Mem.tail _ (List.Mem.head _))))))) (Nat.le_of_ble_eq_true rfl) (by decide) (by omega) (by omega) (tX11_minute_1_ok (198, .iinc 3 1, 3) (List.mem_of_getElem? (i := 49) rfl)) (fun zv37 ze38 => ?_)
            refine w_goto (tgt := 4) (tX11_minute_1_ok (201, .goto (-197), 3) (List.mem_of_getElem? (i := 50) rfl)) rfl ?_
            have fz := f_st_2 (ρ := ρ) p.toInt.toNat
            have fe0 : ¬ fe.toInt = 0 → fb = true := by
              intro z
              rcases hfe with ⟨c, -⟩ | ⟨-, c⟩
              · exact absurd c z
              · exact c
            have fe1 : fe.toInt = 0 → fb = false := by
              intro z
              rcases hfe with ⟨-, c⟩ | ⟨c, -⟩
              · exact c
              · omega
            have st9 : f_st ρ p.toInt.toNat = 1 := if_neg (by omega)
            have ab9 : ρ p.toInt.toNat 5 < zv1.toInt ∨ zv1.toInt < -(ρ p.toInt.toNat 5) := by
              split at ze7 <;> omega
            have en : m_nx ρ b p.toInt.toNat (T p.toInt.toNat).toInt fb = (T p.toInt.toNat).toInt := by
              by_cases c0 : m_pu ρ b p.toInt.toNat (T p.toInt.toNat).toInt = 0
              · exact m_st0 (ρ := ρ) (Or.inr c0)
              · rw [m_up (Or.inr (by omega)) (by omega) (by omega), if_neg (by omega)]
            have e0 : m_0 ρ b p.toInt.toNat fb T d sp.toInt = (T, d, sp.toInt) := if_pos en
            refine w_lv [(2, .int sp), (3, .int zv37), (0, .ref (ad 50)), (1, .int sl9)] (by intro q hq; simp only [List.mem_cons, List.not_mem_nil, or_false] at hq ⊢; rcases hq with e | e | e | e <;> subst e <;> simp) ?_
            exact kk h I _ _ (by omega) (by rw [e0]) (fun q hq => by rw [e0]; exact hXT q hq) (fun k _ => rfl) (fun _ _ => rfl) hz zf.rf
          · refine w_iload (List.Mem.tail _ (List.Mem.tail _ (List.Mem.head _))) (tX11_minute_1_ok (166, .iload 6, 2) (List.mem_of_getElem? (i := 30) rfl)) ?_
            refine w_if_ne (tgt := 174) (tX11_minute_1_ok (168, .ifCond .ne 6, 3) (List.mem_of_getElem? (i := 31) rfl)) rfl (fun zb39 => ?_) (fun zb39 => ?_)
            · refine w_aload_n (List.Mem.tail _ (List.Mem.tail _ (List.Mem.tail _ (List.Mem.head _)))) (tX11_minute_1_ok (174, .aload_n 0, 1) (List.mem_of_getElem? (i := 33) rfl)) ?_
              refine z_getR (L1 := 56) (own := 16) (k := 22) hz rfl rfl rfl rfl rfl rfl rfl (by decide) (tX11_minute_1_ok (175, .getfield 45, 3) (List.mem_of_getElem? (i := 34) rfl)) ?_
              refine w_iload_n (List.Mem.tail _ (List.Mem.tail _ (List.Mem.tail _ (List.Mem.tail _ (List.Mem.tail _ (List.Mem.tail _ (List.Mem.head _))))))) (tX11_minute_1_ok (178, .iload_n 3, 1) (List.mem_of_getElem? (i := 35) rfl)) ?_
              refine w_iload (List.Mem.head _) (tX11_minute_1_ok (179, .iload 8, 2) (List.mem_of_getElem? (i := 36) rfl)) ?_
              refine z_iast (f := (I 56)) hT hz rfl rfl rfl (by omega) (by omega) (tX11_minute_1_ok (181, .iastore, 1) (List.mem_of_getElem? (i := 37) rfl)) (fun zh40 zI41 zq42 zz43 zf44 => ?_)
              refine w_aload_n (List.Mem.tail _ (List.Mem.tail _ (List.Mem.tail _ (List.Mem.head _)))) (tX11_minute_1_ok (182, .aload_n 0, 1) (List.mem_of_getElem? (i := 38) rfl)) ?_
              refine z_getR (L1 := 56) (own := 16) (k := 22) zz43 rfl rfl rfl rfl rfl rfl rfl (by decide) (tX11_minute_1_ok (183, .getfield 45, 3) (List.mem_of_getElem? (i := 39) rfl)) ?_
              refine w_bipush (by decide) (tX11_minute_1_ok (186, .bipush 6, 2) (List.mem_of_getElem? (i := 40) rfl)) (fun zv45 ze46 => ?_)
              refine w_iload_n (List.Mem.tail _ (List.Mem.tail _ (List.Mem.tail _ (List.Mem.tail _ (List.Mem.tail _ (List.Mem.tail _ (List.Mem.head _))))))) (tX11_minute_1_ok (188, .iload_n 3, 1) (List.mem_of_getElem? (i := 41) rfl)) ?_
              refine w_iadd (by omega) (by omega) (tX11_minute_1_ok (189, .iadd, 1) (List.mem_of_getElem? (i := 42) rfl)) (fun zv47 ze48 => ?_)
              refine tt_dup2 rfl rfl (tX11_minute_1_ok (190, .dup2, 1) (List.mem_of_getElem? (i := 43) rfl)) ?_
              show ww l D tys A X fr lo mX11_minute Q 191 [(8, .int zv26), (7, .int zv20), (6, .int zv1), (0, .ref (ad 50)), (1, .int sl9), (2, .int sp), (3, .int p), (5, .int fe)] [.int zv47, .ref (ad 56), .int zv47, .ref (ad 56)] zh40
              refine z_iald (f := (upd (I 56) p.toInt.toNat zv26)) hT zz43 rfl rfl ((congrFun zq42 56).trans (s2_s _ _ _)) (by omega) (by omega) (tX11_minute_1_ok (191, .iaload, 1) (List.mem_of_getElem? (i := 44) rfl)) (fun zv49 zu50 => ?_)
              have ze51 : zv49.toInt = ((upd (I 56) p.toInt.toNat zv26) zv47.toInt.toNat).toInt := congrArg _ zu50
              refine w_iconst (by decide) (tX11_minute_1_ok (192, .iconst 1, 1) (List.mem_of_getElem? (i := 45) rfl)) (fun zv52 ze53 => ?_)
              refine w_addE (tX11_minute_1_ok (193, .iadd, 1) (List.mem_of_getElem? (i := 46) rfl)) (fun zv54 ze55 => ?_)
              refine z_iast (f := (upd (I 56) p.toInt.toNat zv26)) hT zz43 rfl rfl ((congrFun zq42 56).trans (s2_s _ _ _)) (by omega) (by omega) (tX11_minute_1_ok (194, .iastore, 1) (List.mem_of_getElem? (i := 47) rfl)) (fun zh56 zI57 zq58 zz59 zf60 => ?_)
              refine w_iinc (fun zv61 => [(2, .int zv61), (8, .int zv26), (7, .int zv20), (6, .int zv1), (0, .ref (ad 50)), (1, .int sl9), (3, .int p), (5, .int fe)]) (fun _ => rfl) (List.Mem.tail _ (List.Mem.tail _ (List.Mem.tail _ (List.Mem.tail _ (List.Mem.tail _ (List.Mem.head _)))))) (Nat.le_of_ble_eq_true rfl) (by decide) (by omega) (by omega) (tX11_minute_1_ok (195, .iinc 2 1, 3) (List.mem_of_getElem? (i := 48) rfl)) (fun zv61 ze62 => ?_)
              refine w_iinc (fun zv63 => [(3, .int zv63), (2, .int zv61), (8, .int zv26), (7, .int zv20), (6, .int zv1), (0, .ref (ad 50)), (1, .int sl9), (5, .int fe)]) (fun _ => rfl) (List.Mem.tail _ (List.Mem.tail _ (List.Mem.tail _ (List.Mem.tail _ (List.Mem.tail _ (List.Mem.tail _ (List.Mem.head _))))))) (Nat.le_of_ble_eq_true rfl) (by decide) (by omega) (by omega) (tX11_minute_1_ok (198, .iinc 3 1, 3) (List.mem_of_getElem? (i := 49) rfl)) (fun zv63 ze64 => ?_)
              refine w_goto (tgt := 4) (tX11_minute_1_ok (201, .goto (-197), 3) (List.mem_of_getElem? (i := 50) rfl)) rfl ?_
              have fz := f_st_2 (ρ := ρ) p.toInt.toNat
              have fe0 : ¬ fe.toInt = 0 → fb = true := by
                intro z
                rcases hfe with ⟨c, -⟩ | ⟨-, c⟩
                · exact absurd c z
                · exact c
              have fe1 : fe.toInt = 0 → fb = false := by
                intro z
                rcases hfe with ⟨-, c⟩ | ⟨c, -⟩
                · exact c
                · omega
              have ab9 : ρ p.toInt.toNat 5 < zv1.toInt ∨ zv1.toInt < -(ρ p.toInt.toNat 5) := by
                split at ze7 <;> omega
              have st9 : f_st ρ p.toInt.toNat = 1 := if_neg (by omega)
              have en : m_nx ρ b p.toInt.toNat (T p.toInt.toNat).toInt fb = if (T p.toInt.toNat).toInt + f_st ρ p.toInt.toNat ≤ ρ p.toInt.toNat 1 then (T p.toInt.toNat).toInt + f_st ρ p.toInt.toNat else (T p.toInt.toNat).toInt := by
                by_cases c0 : m_pu ρ b p.toInt.toNat (T p.toInt.toNat).toInt = 0
                · exfalso; omega
                · exact m_up (Or.inr (by omega)) (by omega) (by omega)
              rw [if_pos (by omega)] at en
              have e8 : m_nx ρ b p.toInt.toNat (T p.toInt.toNat).toInt fb = zv26.toInt := by omega
              have e0 : m_0 ρ b p.toInt.toNat fb T d sp.toInt = (upd (upd T p.toInt.toNat (Int32.ofInt (m_nx ρ b p.toInt.toNat (T p.toInt.toNat).toInt fb))) (6 + p.toInt.toNat) (T (6 + p.toInt.toNat) + 1), d, sp.toInt + 1) := if_neg (by omega)
              rw [e8] at e0
              have ei : Int32.ofInt zv26.toInt = zv26 := (kn_eq _ _).mpr (ofInt_b (by omega))
              rw [ei] at e0
              have ti : zv47.toInt.toNat = 6 + p.toInt.toNat := by omega
              have ev : zv54 = T (6 + p.toInt.toNat) + 1 := by
                rw [ze55, zu50, ti, upd_n _ _ (by omega), (hXT _ hp9).2, show zv52 = 1 from (kn_eq _ _).mpr (by rw [ze53]; rfl)]
              have c2 := ((congrFun zq58 56).trans (s2_s _ _ _))
              rw [ti, ev] at c2
              refine w_lv [(2, .int zv61), (3, .int zv63), (0, .ref (ad 50)), (1, .int sl9)] (by intro q hq; simp only [List.mem_cons, List.not_mem_nil, or_false] at hq ⊢; rcases hq with e | e | e | e <;> subst e <;> simp) ?_
              refine kk zh56 zI57 _ _ (by omega) (by rw [e0]; show _ = sp.toInt + 1; omega) (fun q hq => ?_) (fun k hk => ?_) (fun L9 n1 => ?_) zz59 (zf44.tr zf60)
              · rw [e0, c2]
                by_cases c9 : q = p.toInt.toNat
                · subst c9
                  refine ⟨?_, ?_⟩
                  · show upd (upd _ p.toInt.toNat zv26) (6 + p.toInt.toNat) _ p.toInt.toNat = upd (upd T p.toInt.toNat zv26) (6 + p.toInt.toNat) _ p.toInt.toNat
                    rw [upd_n _ _ (by omega), upd_s, upd_n _ _ (by omega), upd_s]
                  · show upd (upd _ p.toInt.toNat zv26) (6 + p.toInt.toNat) _ (6 + p.toInt.toNat) = upd (upd T p.toInt.toNat zv26) (6 + p.toInt.toNat) _ (6 + p.toInt.toNat)
                    rw [upd_s, upd_s]
                · refine ⟨?_, ?_⟩
                  · show upd (upd _ p.toInt.toNat zv26) (6 + p.toInt.toNat) _ q = upd (upd T p.toInt.toNat zv26) (6 + p.toInt.toNat) _ q
                    rw [upd_n _ _ (by omega), upd_n _ _ c9, upd_n _ _ (by omega), upd_n _ _ c9]
                    exact (hXT q hq).1
                  · show upd (upd _ p.toInt.toNat zv26) (6 + p.toInt.toNat) _ (6 + q) = upd (upd T p.toInt.toNat zv26) (6 + p.toInt.toNat) _ (6 + q)
                    rw [upd_n _ _ (by omega), upd_n _ _ (by omega), upd_n _ _ (by omega), upd_n _ _ (by omega)]
                    exact (hXT q hq).2
              · rw [c2, upd_n _ _ (by omega), upd_n _ _ (by omega)]
              · rw [zq58, s2_n n1, zq42, s2_n n1]
            · refine w_goto (tgt := 198) (tX11_minute_1_ok (171, .goto 27, 3) (List.mem_of_getElem? (i := 32) rfl)) rfl ?_
              refine w_iinc (fun zv65 => [(3, .int zv65), (8, .int zv26), (7, .int zv20), (6, .int zv1), (0, .ref (ad 50)), (1, .int sl9), (2, .int sp), (5, .int fe)]) (fun _ => rfl) (List.Mem.tail _ (List.Mem.tail _ (List.Mem.tail _ (List.Mem.tail _ (List.Mem.tail _ (List.Mem.tail _ (List.Mem.head _))))))) (Nat.le_of_ble_eq_true rfl) (by decide) (by omega) (by omega) (tX11_minute_1_ok (198, .iinc 3 1, 3) (List.mem_of_getElem? (i := 49) rfl)) (fun zv65 ze66 => ?_)
              refine w_goto (tgt := 4) (tX11_minute_1_ok (201, .goto (-197), 3) (List.mem_of_getElem? (i := 50) rfl)) rfl ?_
              have fz := f_st_2 (ρ := ρ) p.toInt.toNat
              have fe0 : ¬ fe.toInt = 0 → fb = true := by
                intro z
                rcases hfe with ⟨c, -⟩ | ⟨-, c⟩
                · exact absurd c z
                · exact c
              have fe1 : fe.toInt = 0 → fb = false := by
                intro z
                rcases hfe with ⟨-, c⟩ | ⟨c, -⟩
                · exact c
                · omega
              have en := m_st0 (ρ := ρ) (b := b) (p := p.toInt.toNat) (x := (T p.toInt.toNat).toInt) (fe := fb) (Or.inr (by omega))
              have e0 : m_0 ρ b p.toInt.toNat fb T d sp.toInt = (T, d, sp.toInt) := if_pos en
              refine w_lv [(2, .int sp), (3, .int zv65), (0, .ref (ad 50)), (1, .int sl9)] (by intro q hq; simp only [List.mem_cons, List.not_mem_nil, or_false] at hq ⊢; rcases hq with e | e | e | e <;> subst e <;> simp) ?_
              exact kk h I _ _ (by omega) (by rw [e0]) (fun q hq => by rw [e0]; exact hXT q hq) (fun k _ => rfl) (fun _ _ => rfl) hz zf.rf
        · refine w_aload_n (List.Mem.tail _ (List.Mem.tail _ (List.Mem.head _))) (tX11_minute_1_ok (128, .aload_n 0, 1) (List.mem_of_getElem? (i := 8) rfl)) ?_
          refine z_getR (L1 := 56) (own := 16) (k := 22) hz rfl rfl rfl rfl rfl rfl rfl (by decide) (tX11_minute_1_ok (129, .getfield 45, 3) (List.mem_of_getElem? (i := 9) rfl)) ?_
          refine w_iload_n (List.Mem.tail _ (List.Mem.tail _ (List.Mem.tail _ (List.Mem.tail _ (List.Mem.tail _ (List.Mem.head _)))))) (tX11_minute_1_ok (132, .iload_n 3, 1) (List.mem_of_getElem? (i := 10) rfl)) ?_
          refine z_iald (f := (I 56)) hT hz rfl rfl rfl (by omega) (by omega) (tX11_minute_1_ok (133, .iaload, 1) (List.mem_of_getElem? (i := 11) rfl)) (fun zv67 zu68 => ?_)
          have ze69 : zv67.toInt = ((I 56) p.toInt.toNat).toInt := congrArg _ zu68
          have yzv67 := (hXT _ hp9).1
          rw [← zu68] at yzv67
          have wzv67 : zv67.toInt = (T p.toInt.toNat).toInt := by rw [yzv67]
          refine w_iload (List.Mem.head _) (tX11_minute_1_ok (134, .iload 7, 2) (List.mem_of_getElem? (i := 12) rfl)) ?_
          refine w_isub (by omega) (by omega) (tX11_minute_1_ok (136, .isub, 1) (List.mem_of_getElem? (i := 13) rfl)) (fun zv70 ze71 => ?_)
          refine w_goto (tgt := 149) (tX11_minute_1_ok (137, .goto 12, 3) (List.mem_of_getElem? (i := 14) rfl)) rfl ?_
          refine w_istore [(8, .int zv70), (7, .int zv20), (6, .int zv1), (0, .ref (ad 50)), (1, .int sl9), (2, .int sp), (3, .int p), (5, .int fe)] rfl (Nat.le_of_ble_eq_true rfl) (tX11_minute_1_ok (149, .istore 8, 2) (List.mem_of_getElem? (i := 21) rfl)) ?_
          refine w_iload (List.Mem.head _) (tX11_minute_1_ok (151, .iload 8, 2) (List.mem_of_getElem? (i := 22) rfl)) ?_
          refine w_iconst (by decide) (tX11_minute_1_ok (153, .iconst 0, 1) (List.mem_of_getElem? (i := 23) rfl)) (fun zv72 ze73 => ?_)
          refine w_aload_n (List.Mem.tail _ (List.Mem.tail _ (List.Mem.tail _ (List.Mem.head _)))) (tX11_minute_1_ok (154, .aload_n 0, 1) (List.mem_of_getElem? (i := 24) rfl)) ?_
          refine w_iload_n (List.Mem.tail _ (List.Mem.tail _ (List.Mem.tail _ (List.Mem.tail _ (List.Mem.tail _ (List.Mem.tail _ (List.Mem.head _))))))) (tX11_minute_1_ok (155, .iload_n 3, 1) (List.mem_of_getElem? (i := 25) rfl)) ?_
          refine w_iconst (by decide) (tX11_minute_1_ok (156, .iconst 1, 1) (List.mem_of_getElem? (i := 26) rfl)) (fun zv74 ze75 => ?_)
          refine w_callV (own := 16) (mi := 219) [.int p, .int zv74] [.int zv72, .int zv70] [(0, .ref (ad 50)), (1, .int p), (2, .int zv74)] rfl (cllw_X11 (255, 0, 219) (List.mem_of_getElem? (i := 34) rfl)) rfl rfl (hz.ob rfl rfl) rfl (by omega) (w_lo (n := 22) rfl (by omega)) (Nat.le_of_ble_eq_true rfl) (Nat.le_of_ble_eq_true rfl) rfl (tX11_minute_1_ok (157, .invokevirtual 255, 3) (List.mem_of_getElem? (i := 27) rfl)) (y_of hT hz hp h0 (by omega) (fun zv76 ze77 => ?_))
          show ww l D tys A X fr lo mX11_minute Q 160 [(8, .int zv70), (7, .int zv20), (6, .int zv1), (0, .ref (ad 50)), (1, .int sl9), (2, .int sp), (3, .int p), (5, .int fe)] [.int zv76, .int zv72, .int zv70] h
          rw [show zv74.toInt.toNat = 1 by omega] at ze77
          refine w_callS (own := 16) (mi := 199) [.int zv70, .int zv72, .int zv76] [] [(0, .int zv70), (1, .int zv72), (2, .int zv76)] rfl (cllw_X11 (207, 1, 199) (List.mem_of_getElem? (i := 2) rfl)) rfl rfl (by omega) (w_lo (n := 22) rfl (by omega)) (Nat.le_of_ble_eq_true rfl) (Nat.le_of_ble_eq_true rfl) rfl (tX11_minute_1_ok (160, .invokestatic 207, 3) (List.mem_of_getElem? (i := 28) rfl)) (r_isIn (fun zv78 ze79 => ?_))
          show ww l D tys A X fr lo mX11_minute Q 163 [(8, .int zv70), (7, .int zv20), (6, .int zv1), (0, .ref (ad 50)), (1, .int sl9), (2, .int sp), (3, .int p), (5, .int fe)] [.int zv78] h
          refine w_if_eq (tgt := 198) (tX11_minute_1_ok (163, .ifCond .eq 35, 3) (List.mem_of_getElem? (i := 29) rfl)) rfl (fun zb80 => ?_) (fun zb80 => ?_)
          · refine w_iinc (fun zv81 => [(3, .int zv81), (8, .int zv70), (7, .int zv20), (6, .int zv1), (0, .ref (ad 50)), (1, .int sl9), (2, .int sp), (5, .int fe)]) (fun _ => rfl) (List.Mem.tail _ (List.Mem.tail _ (List.Mem.tail _ (List.Mem.tail _ (List.Mem.tail _ (List.Mem.tail _ (List.Mem.head _))))))) (Nat.le_of_ble_eq_true rfl) (by decide) (by omega) (by omega) (tX11_minute_1_ok (198, .iinc 3 1, 3) (List.mem_of_getElem? (i := 49) rfl)) (fun zv81 ze82 => ?_)
            refine w_goto (tgt := 4) (tX11_minute_1_ok (201, .goto (-197), 3) (List.mem_of_getElem? (i := 50) rfl)) rfl ?_
            have fz := f_st_2 (ρ := ρ) p.toInt.toNat
            have fe0 : ¬ fe.toInt = 0 → fb = true := by
              intro z
              rcases hfe with ⟨c, -⟩ | ⟨-, c⟩
              · exact absurd c z
              · exact c
            have fe1 : fe.toInt = 0 → fb = false := by
              intro z
              rcases hfe with ⟨-, c⟩ | ⟨c, -⟩
              · exact c
              · omega
            have ab9 : ρ p.toInt.toNat 5 < zv1.toInt ∨ zv1.toInt < -(ρ p.toInt.toNat 5) := by
              split at ze7 <;> omega
            have st9 : f_st ρ p.toInt.toNat = 1 := if_neg (by omega)
            have en := m_dn (ρ := ρ) (b := b) (p := p.toInt.toNat) (x := (T p.toInt.toNat).toInt) (fe := fb) (Or.inr (by omega)) (by omega) (by omega)
            rw [if_neg (by omega)] at en
            have e0 : m_0 ρ b p.toInt.toNat fb T d sp.toInt = (T, d, sp.toInt) := if_pos en
            refine w_lv [(2, .int sp), (3, .int zv81), (0, .ref (ad 50)), (1, .int sl9)] (by intro q hq; simp only [List.mem_cons, List.not_mem_nil, or_false] at hq ⊢; rcases hq with e | e | e | e <;> subst e <;> simp) ?_
            exact kk h I _ _ (by omega) (by rw [e0]) (fun q hq => by rw [e0]; exact hXT q hq) (fun k _ => rfl) (fun _ _ => rfl) hz zf.rf
          · refine w_iload (List.Mem.tail _ (List.Mem.tail _ (List.Mem.head _))) (tX11_minute_1_ok (166, .iload 6, 2) (List.mem_of_getElem? (i := 30) rfl)) ?_
            refine w_if_ne (tgt := 174) (tX11_minute_1_ok (168, .ifCond .ne 6, 3) (List.mem_of_getElem? (i := 31) rfl)) rfl (fun zb83 => ?_) (fun zb83 => ?_)
            · refine w_aload_n (List.Mem.tail _ (List.Mem.tail _ (List.Mem.tail _ (List.Mem.head _)))) (tX11_minute_1_ok (174, .aload_n 0, 1) (List.mem_of_getElem? (i := 33) rfl)) ?_
              refine z_getR (L1 := 56) (own := 16) (k := 22) hz rfl rfl rfl rfl rfl rfl rfl (by decide) (tX11_minute_1_ok (175, .getfield 45, 3) (List.mem_of_getElem? (i := 34) rfl)) ?_
              refine w_iload_n (List.Mem.tail _ (List.Mem.tail _ (List.Mem.tail _ (List.Mem.tail _ (List.Mem.tail _ (List.Mem.tail _ (List.Mem.head _))))))) (tX11_minute_1_ok (178, .iload_n 3, 1) (List.mem_of_getElem? (i := 35) rfl)) ?_
              refine w_iload (List.Mem.head _) (tX11_minute_1_ok (179, .iload 8, 2) (List.mem_of_getElem? (i := 36) rfl)) ?_
              refine z_iast (f := (I 56)) hT hz rfl rfl rfl (by omega) (by omega) (tX11_minute_1_ok (181, .iastore, 1) (List.mem_of_getElem? (i := 37) rfl)) (fun zh84 zI85 zq86 zz87 zf88 => ?_)
              refine w_aload_n (List.Mem.tail _ (List.Mem.tail _ (List.Mem.tail _ (List.Mem.head _)))) (tX11_minute_1_ok (182, .aload_n 0, 1) (List.mem_of_getElem? (i := 38) rfl)) ?_
              refine z_getR (L1 := 56) (own := 16) (k := 22) zz87 rfl rfl rfl rfl rfl rfl rfl (by decide) (tX11_minute_1_ok (183, .getfield 45, 3) (List.mem_of_getElem? (i := 39) rfl)) ?_
              refine w_bipush (by decide) (tX11_minute_1_ok (186, .bipush 6, 2) (List.mem_of_getElem? (i := 40) rfl)) (fun zv89 ze90 => ?_)
              refine w_iload_n (List.Mem.tail _ (List.Mem.tail _ (List.Mem.tail _ (List.Mem.tail _ (List.Mem.tail _ (List.Mem.tail _ (List.Mem.head _))))))) (tX11_minute_1_ok (188, .iload_n 3, 1) (List.mem_of_getElem? (i := 41) rfl)) ?_
              refine w_iadd (by omega) (by omega) (tX11_minute_1_ok (189, .iadd, 1) (List.mem_of_getElem? (i := 42) rfl)) (fun zv91 ze92 => ?_)
              refine tt_dup2 rfl rfl (tX11_minute_1_ok (190, .dup2, 1) (List.mem_of_getElem? (i := 43) rfl)) ?_
              show ww l D tys A X fr lo mX11_minute Q 191 [(8, .int zv70), (7, .int zv20), (6, .int zv1), (0, .ref (ad 50)), (1, .int sl9), (2, .int sp), (3, .int p), (5, .int fe)] [.int zv91, .ref (ad 56), .int zv91, .ref (ad 56)] zh84
              refine z_iald (f := (upd (I 56) p.toInt.toNat zv70)) hT zz87 rfl rfl ((congrFun zq86 56).trans (s2_s _ _ _)) (by omega) (by omega) (tX11_minute_1_ok (191, .iaload, 1) (List.mem_of_getElem? (i := 44) rfl)) (fun zv93 zu94 => ?_)
              have ze95 : zv93.toInt = ((upd (I 56) p.toInt.toNat zv70) zv91.toInt.toNat).toInt := congrArg _ zu94
              refine w_iconst (by decide) (tX11_minute_1_ok (192, .iconst 1, 1) (List.mem_of_getElem? (i := 45) rfl)) (fun zv96 ze97 => ?_)
              refine w_addE (tX11_minute_1_ok (193, .iadd, 1) (List.mem_of_getElem? (i := 46) rfl)) (fun zv98 ze99 => ?_)
              refine z_iast (f := (upd (I 56) p.toInt.toNat zv70)) hT zz87 rfl rfl ((congrFun zq86 56).trans (s2_s _ _ _)) (by omega) (by omega) (tX11_minute_1_ok (194, .iastore, 1) (List.mem_of_getElem? (i := 47) rfl)) (fun zh100 zI101 zq102 zz103 zf104 => ?_)
              refine w_iinc (fun zv105 => [(2, .int zv105), (8, .int zv70), (7, .int zv20), (6, .int zv1), (0, .ref (ad 50)), (1, .int sl9), (3, .int p), (5, .int fe)]) (fun _ => rfl) (List.Mem.tail _ (List.Mem.tail _ (List.Mem.tail _ (List.Mem.tail _ (List.Mem.tail _ (List.Mem.head _)))))) (Nat.le_of_ble_eq_true rfl) (by decide) (by omega) (by omega) (tX11_minute_1_ok (195, .iinc 2 1, 3) (List.mem_of_getElem? (i := 48) rfl)) (fun zv105 ze106 => ?_)
              refine w_iinc (fun zv107 => [(3, .int zv107), (2, .int zv105), (8, .int zv70), (7, .int zv20), (6, .int zv1), (0, .ref (ad 50)), (1, .int sl9), (5, .int fe)]) (fun _ => rfl) (List.Mem.tail _ (List.Mem.tail _ (List.Mem.tail _ (List.Mem.tail _ (List.Mem.tail _ (List.Mem.tail _ (List.Mem.head _))))))) (Nat.le_of_ble_eq_true rfl) (by decide) (by omega) (by omega) (tX11_minute_1_ok (198, .iinc 3 1, 3) (List.mem_of_getElem? (i := 49) rfl)) (fun zv107 ze108 => ?_)
              refine w_goto (tgt := 4) (tX11_minute_1_ok (201, .goto (-197), 3) (List.mem_of_getElem? (i := 50) rfl)) rfl ?_
              have fz := f_st_2 (ρ := ρ) p.toInt.toNat
              have fe0 : ¬ fe.toInt = 0 → fb = true := by
                intro z
                rcases hfe with ⟨c, -⟩ | ⟨-, c⟩
                · exact absurd c z
                · exact c
              have fe1 : fe.toInt = 0 → fb = false := by
                intro z
                rcases hfe with ⟨-, c⟩ | ⟨c, -⟩
                · exact c
                · omega
              have ab9 : ρ p.toInt.toNat 5 < zv1.toInt ∨ zv1.toInt < -(ρ p.toInt.toNat 5) := by
                split at ze7 <;> omega
              have st9 : f_st ρ p.toInt.toNat = 1 := if_neg (by omega)
              have en := m_dn (ρ := ρ) (b := b) (p := p.toInt.toNat) (x := (T p.toInt.toNat).toInt) (fe := fb) (Or.inr (by omega)) (by omega) (by omega)
              rw [if_pos (by omega)] at en
              have e8 : m_nx ρ b p.toInt.toNat (T p.toInt.toNat).toInt fb = zv70.toInt := by omega
              have e0 : m_0 ρ b p.toInt.toNat fb T d sp.toInt = (upd (upd T p.toInt.toNat (Int32.ofInt (m_nx ρ b p.toInt.toNat (T p.toInt.toNat).toInt fb))) (6 + p.toInt.toNat) (T (6 + p.toInt.toNat) + 1), d, sp.toInt + 1) := if_neg (by omega)
              rw [e8] at e0
              have ei : Int32.ofInt zv70.toInt = zv70 := (kn_eq _ _).mpr (ofInt_b (by omega))
              rw [ei] at e0
              have ti : zv91.toInt.toNat = 6 + p.toInt.toNat := by omega
              have ev : zv98 = T (6 + p.toInt.toNat) + 1 := by
                rw [ze99, zu94, ti, upd_n _ _ (by omega), (hXT _ hp9).2, show zv96 = 1 from (kn_eq _ _).mpr (by rw [ze97]; rfl)]
              have c2 := ((congrFun zq102 56).trans (s2_s _ _ _))
              rw [ti, ev] at c2
              refine w_lv [(2, .int zv105), (3, .int zv107), (0, .ref (ad 50)), (1, .int sl9)] (by intro q hq; simp only [List.mem_cons, List.not_mem_nil, or_false] at hq ⊢; rcases hq with e | e | e | e <;> subst e <;> simp) ?_
              refine kk zh100 zI101 _ _ (by omega) (by rw [e0]; show _ = sp.toInt + 1; omega) (fun q hq => ?_) (fun k hk => ?_) (fun L9 n1 => ?_) zz103 (zf88.tr zf104)
              · rw [e0, c2]
                by_cases c9 : q = p.toInt.toNat
                · subst c9
                  refine ⟨?_, ?_⟩
                  · show upd (upd _ p.toInt.toNat zv70) (6 + p.toInt.toNat) _ p.toInt.toNat = upd (upd T p.toInt.toNat zv70) (6 + p.toInt.toNat) _ p.toInt.toNat
                    rw [upd_n _ _ (by omega), upd_s, upd_n _ _ (by omega), upd_s]
                  · show upd (upd _ p.toInt.toNat zv70) (6 + p.toInt.toNat) _ (6 + p.toInt.toNat) = upd (upd T p.toInt.toNat zv70) (6 + p.toInt.toNat) _ (6 + p.toInt.toNat)
                    rw [upd_s, upd_s]
                · refine ⟨?_, ?_⟩
                  · show upd (upd _ p.toInt.toNat zv70) (6 + p.toInt.toNat) _ q = upd (upd T p.toInt.toNat zv70) (6 + p.toInt.toNat) _ q
                    rw [upd_n _ _ (by omega), upd_n _ _ c9, upd_n _ _ (by omega), upd_n _ _ c9]
                    exact (hXT q hq).1
                  · show upd (upd _ p.toInt.toNat zv70) (6 + p.toInt.toNat) _ (6 + q) = upd (upd T p.toInt.toNat zv70) (6 + p.toInt.toNat) _ (6 + q)
                    rw [upd_n _ _ (by omega), upd_n _ _ (by omega), upd_n _ _ (by omega), upd_n _ _ (by omega)]
                    exact (hXT q hq).2
              · rw [c2, upd_n _ _ (by omega), upd_n _ _ (by omega)]
              · rw [zq102, s2_n n1, zq86, s2_n n1]
            · refine w_goto (tgt := 198) (tX11_minute_1_ok (171, .goto 27, 3) (List.mem_of_getElem? (i := 32) rfl)) rfl ?_
              refine w_iinc (fun zv109 => [(3, .int zv109), (8, .int zv70), (7, .int zv20), (6, .int zv1), (0, .ref (ad 50)), (1, .int sl9), (2, .int sp), (5, .int fe)]) (fun _ => rfl) (List.Mem.tail _ (List.Mem.tail _ (List.Mem.tail _ (List.Mem.tail _ (List.Mem.tail _ (List.Mem.tail _ (List.Mem.head _))))))) (Nat.le_of_ble_eq_true rfl) (by decide) (by omega) (by omega) (tX11_minute_1_ok (198, .iinc 3 1, 3) (List.mem_of_getElem? (i := 49) rfl)) (fun zv109 ze110 => ?_)
              refine w_goto (tgt := 4) (tX11_minute_1_ok (201, .goto (-197), 3) (List.mem_of_getElem? (i := 50) rfl)) rfl ?_
              have fz := f_st_2 (ρ := ρ) p.toInt.toNat
              have fe0 : ¬ fe.toInt = 0 → fb = true := by
                intro z
                rcases hfe with ⟨c, -⟩ | ⟨-, c⟩
                · exact absurd c z
                · exact c
              have fe1 : fe.toInt = 0 → fb = false := by
                intro z
                rcases hfe with ⟨-, c⟩ | ⟨c, -⟩
                · exact c
                · omega
              have ab9 : ρ p.toInt.toNat 5 < zv1.toInt ∨ zv1.toInt < -(ρ p.toInt.toNat 5) := by
                split at ze7 <;> omega
              have st9 : f_st ρ p.toInt.toNat = 1 := if_neg (by omega)
              have en := m_dn (ρ := ρ) (b := b) (p := p.toInt.toNat) (x := (T p.toInt.toNat).toInt) (fe := fb) (Or.inr (by omega)) (by omega) (by omega)
              rw [if_neg (by omega)] at en
              have e0 : m_0 ρ b p.toInt.toNat fb T d sp.toInt = (T, d, sp.toInt) := if_pos en
              refine w_lv [(2, .int sp), (3, .int zv109), (0, .ref (ad 50)), (1, .int sl9)] (by intro q hq; simp only [List.mem_cons, List.not_mem_nil, or_false] at hq ⊢; rcases hq with e | e | e | e <;> subst e <;> simp) ?_
              exact kk h I _ _ (by omega) (by rw [e0]) (fun q hq => by rw [e0]; exact hXT q hq) (fun k _ => rfl) (fun _ _ => rfl) hz zf.rf
      · refine w_iconst (by decide) (tX11_minute_1_ok (116, .iconst 2, 1) (List.mem_of_getElem? (i := 2) rfl)) (fun zv111 ze112 => ?_)
        refine w_goto (tgt := 121) (tX11_minute_1_ok (117, .goto 4, 3) (List.mem_of_getElem? (i := 3) rfl)) rfl ?_
        refine w_istore [(7, .int zv111), (6, .int zv1), (0, .ref (ad 50)), (1, .int sl9), (2, .int sp), (3, .int p), (5, .int fe)] rfl (Nat.le_of_ble_eq_true rfl) (tX11_minute_1_ok (121, .istore 7, 2) (List.mem_of_getElem? (i := 5) rfl)) ?_
        refine w_iload (List.Mem.tail _ (List.Mem.head _)) (tX11_minute_1_ok (123, .iload 6, 2) (List.mem_of_getElem? (i := 6) rfl)) ?_
        refine w_if_le (tgt := 140) (tX11_minute_1_ok (125, .ifCond .le 15, 3) (List.mem_of_getElem? (i := 7) rfl)) rfl (fun zb113 => ?_) (fun zb113 => ?_)
        · refine w_aload_n (List.Mem.tail _ (List.Mem.tail _ (List.Mem.head _))) (tX11_minute_1_ok (140, .aload_n 0, 1) (List.mem_of_getElem? (i := 15) rfl)) ?_
          refine z_getR (L1 := 56) (own := 16) (k := 22) hz rfl rfl rfl rfl rfl rfl rfl (by decide) (tX11_minute_1_ok (141, .getfield 45, 3) (List.mem_of_getElem? (i := 16) rfl)) ?_
          refine w_iload_n (List.Mem.tail _ (List.Mem.tail _ (List.Mem.tail _ (List.Mem.tail _ (List.Mem.tail _ (List.Mem.head _)))))) (tX11_minute_1_ok (144, .iload_n 3, 1) (List.mem_of_getElem? (i := 17) rfl)) ?_
          refine z_iald (f := (I 56)) hT hz rfl rfl rfl (by omega) (by omega) (tX11_minute_1_ok (145, .iaload, 1) (List.mem_of_getElem? (i := 18) rfl)) (fun zv114 zu115 => ?_)
          have ze116 : zv114.toInt = ((I 56) p.toInt.toNat).toInt := congrArg _ zu115
          have yzv114 := (hXT _ hp9).1
          rw [← zu115] at yzv114
          have wzv114 : zv114.toInt = (T p.toInt.toNat).toInt := by rw [yzv114]
          refine w_iload (List.Mem.head _) (tX11_minute_1_ok (146, .iload 7, 2) (List.mem_of_getElem? (i := 19) rfl)) ?_
          refine w_iadd (by omega) (by omega) (tX11_minute_1_ok (148, .iadd, 1) (List.mem_of_getElem? (i := 20) rfl)) (fun zv117 ze118 => ?_)
          refine w_istore [(8, .int zv117), (7, .int zv111), (6, .int zv1), (0, .ref (ad 50)), (1, .int sl9), (2, .int sp), (3, .int p), (5, .int fe)] rfl (Nat.le_of_ble_eq_true rfl) (tX11_minute_1_ok (149, .istore 8, 2) (List.mem_of_getElem? (i := 21) rfl)) ?_
          refine w_iload (List.Mem.head _) (tX11_minute_1_ok (151, .iload 8, 2) (List.mem_of_getElem? (i := 22) rfl)) ?_
          refine w_iconst (by decide) (tX11_minute_1_ok (153, .iconst 0, 1) (List.mem_of_getElem? (i := 23) rfl)) (fun zv119 ze120 => ?_)
          refine w_aload_n (List.Mem.tail _ (List.Mem.tail _ (List.Mem.tail _ (List.Mem.head _)))) (tX11_minute_1_ok (154, .aload_n 0, 1) (List.mem_of_getElem? (i := 24) rfl)) ?_
          refine w_iload_n (List.Mem.tail _ (List.Mem.tail _ (List.Mem.tail _ (List.Mem.tail _ (List.Mem.tail _ (List.Mem.tail _ (List.Mem.head _))))))) (tX11_minute_1_ok (155, .iload_n 3, 1) (List.mem_of_getElem? (i := 25) rfl)) ?_
          refine w_iconst (by decide) (tX11_minute_1_ok (156, .iconst 1, 1) (List.mem_of_getElem? (i := 26) rfl)) (fun zv121 ze122 => ?_)
          refine w_callV (own := 16) (mi := 219) [.int p, .int zv121] [.int zv119, .int zv117] [(0, .ref (ad 50)), (1, .int p), (2, .int zv121)] rfl (cllw_X11 (255, 0, 219) (List.mem_of_getElem? (i := 34) rfl)) rfl rfl (hz.ob rfl rfl) rfl (by omega) (w_lo (n := 22) rfl (by omega)) (Nat.le_of_ble_eq_true rfl) (Nat.le_of_ble_eq_true rfl) rfl (tX11_minute_1_ok (157, .invokevirtual 255, 3) (List.mem_of_getElem? (i := 27) rfl)) (y_of hT hz hp h0 (by omega) (fun zv123 ze124 => ?_))
          show ww l D tys A X fr lo mX11_minute Q 160 [(8, .int zv117), (7, .int zv111), (6, .int zv1), (0, .ref (ad 50)), (1, .int sl9), (2, .int sp), (3, .int p), (5, .int fe)] [.int zv123, .int zv119, .int zv117] h
          rw [show zv121.toInt.toNat = 1 by omega] at ze124
          refine w_callS (own := 16) (mi := 199) [.int zv117, .int zv119, .int zv123] [] [(0, .int zv117), (1, .int zv119), (2, .int zv123)] rfl (cllw_X11 (207, 1, 199) (List.mem_of_getElem? (i := 2) rfl)) rfl rfl (by omega) (w_lo (n := 22) rfl (by omega)) (Nat.le_of_ble_eq_true rfl) (Nat.le_of_ble_eq_true rfl) rfl (tX11_minute_1_ok (160, .invokestatic 207, 3) (List.mem_of_getElem? (i := 28) rfl)) (r_isIn (fun zv125 ze126 => ?_))
          show ww l D tys A X fr lo mX11_minute Q 163 [(8, .int zv117), (7, .int zv111), (6, .int zv1), (0, .ref (ad 50)), (1, .int sl9), (2, .int sp), (3, .int p), (5, .int fe)] [.int zv125] h
          refine w_if_eq (tgt := 198) (tX11_minute_1_ok (163, .ifCond .eq 35, 3) (List.mem_of_getElem? (i := 29) rfl)) rfl (fun zb127 => ?_) (fun zb127 => ?_)
          · refine w_iinc (fun zv128 => [(3, .int zv128), (8, .int zv117), (7, .int zv111), (6, .int zv1), (0, .ref (ad 50)), (1, .int sl9), (2, .int sp), (5, .int fe)]) (fun _ => rfl) (List.Mem.tail _ (List.Mem.tail _ (List.Mem.tail _ (List.Mem.tail _ (List.Mem.tail _ (List.Mem.tail _ (List.Mem.head _))))))) (Nat.le_of_ble_eq_true rfl) (by decide) (by omega) (by omega) (tX11_minute_1_ok (198, .iinc 3 1, 3) (List.mem_of_getElem? (i := 49) rfl)) (fun zv128 ze129 => ?_)
            refine w_goto (tgt := 4) (tX11_minute_1_ok (201, .goto (-197), 3) (List.mem_of_getElem? (i := 50) rfl)) rfl ?_
            have fz := f_st_2 (ρ := ρ) p.toInt.toNat
            have fe0 : ¬ fe.toInt = 0 → fb = true := by
              intro z
              rcases hfe with ⟨c, -⟩ | ⟨-, c⟩
              · exact absurd c z
              · exact c
            have fe1 : fe.toInt = 0 → fb = false := by
              intro z
              rcases hfe with ⟨-, c⟩ | ⟨c, -⟩
              · exact c
              · omega
            have st9 : f_st ρ p.toInt.toNat = 2 := if_pos (by omega)
            have ab9 : ρ p.toInt.toNat 5 < zv1.toInt ∨ zv1.toInt < -(ρ p.toInt.toNat 5) := by
              split at ze7 <;> omega
            have en : m_nx ρ b p.toInt.toNat (T p.toInt.toNat).toInt fb = (T p.toInt.toNat).toInt := by
              by_cases c0 : m_pu ρ b p.toInt.toNat (T p.toInt.toNat).toInt = 0
              · exact m_st0 (ρ := ρ) (Or.inr c0)
              · rw [m_up (Or.inr (by omega)) (by omega) (by omega), if_neg (by omega)]
            have e0 : m_0 ρ b p.toInt.toNat fb T d sp.toInt = (T, d, sp.toInt) := if_pos en
            refine w_lv [(2, .int sp), (3, .int zv128), (0, .ref (ad 50)), (1, .int sl9)] (by intro q hq; simp only [List.mem_cons, List.not_mem_nil, or_false] at hq ⊢; rcases hq with e | e | e | e <;> subst e <;> simp) ?_
            exact kk h I _ _ (by omega) (by rw [e0]) (fun q hq => by rw [e0]; exact hXT q hq) (fun k _ => rfl) (fun _ _ => rfl) hz zf.rf
          · refine w_iload (List.Mem.tail _ (List.Mem.tail _ (List.Mem.head _))) (tX11_minute_1_ok (166, .iload 6, 2) (List.mem_of_getElem? (i := 30) rfl)) ?_
            refine w_if_ne (tgt := 174) (tX11_minute_1_ok (168, .ifCond .ne 6, 3) (List.mem_of_getElem? (i := 31) rfl)) rfl (fun zb130 => ?_) (fun zb130 => ?_)
            · refine w_aload_n (List.Mem.tail _ (List.Mem.tail _ (List.Mem.tail _ (List.Mem.head _)))) (tX11_minute_1_ok (174, .aload_n 0, 1) (List.mem_of_getElem? (i := 33) rfl)) ?_
              refine z_getR (L1 := 56) (own := 16) (k := 22) hz rfl rfl rfl rfl rfl rfl rfl (by decide) (tX11_minute_1_ok (175, .getfield 45, 3) (List.mem_of_getElem? (i := 34) rfl)) ?_
              refine w_iload_n (List.Mem.tail _ (List.Mem.tail _ (List.Mem.tail _ (List.Mem.tail _ (List.Mem.tail _ (List.Mem.tail _ (List.Mem.head _))))))) (tX11_minute_1_ok (178, .iload_n 3, 1) (List.mem_of_getElem? (i := 35) rfl)) ?_
              refine w_iload (List.Mem.head _) (tX11_minute_1_ok (179, .iload 8, 2) (List.mem_of_getElem? (i := 36) rfl)) ?_
              refine z_iast (f := (I 56)) hT hz rfl rfl rfl (by omega) (by omega) (tX11_minute_1_ok (181, .iastore, 1) (List.mem_of_getElem? (i := 37) rfl)) (fun zh131 zI132 zq133 zz134 zf135 => ?_)
              refine w_aload_n (List.Mem.tail _ (List.Mem.tail _ (List.Mem.tail _ (List.Mem.head _)))) (tX11_minute_1_ok (182, .aload_n 0, 1) (List.mem_of_getElem? (i := 38) rfl)) ?_
              refine z_getR (L1 := 56) (own := 16) (k := 22) zz134 rfl rfl rfl rfl rfl rfl rfl (by decide) (tX11_minute_1_ok (183, .getfield 45, 3) (List.mem_of_getElem? (i := 39) rfl)) ?_
              refine w_bipush (by decide) (tX11_minute_1_ok (186, .bipush 6, 2) (List.mem_of_getElem? (i := 40) rfl)) (fun zv136 ze137 => ?_)
              refine w_iload_n (List.Mem.tail _ (List.Mem.tail _ (List.Mem.tail _ (List.Mem.tail _ (List.Mem.tail _ (List.Mem.tail _ (List.Mem.head _))))))) (tX11_minute_1_ok (188, .iload_n 3, 1) (List.mem_of_getElem? (i := 41) rfl)) ?_
              refine w_iadd (by omega) (by omega) (tX11_minute_1_ok (189, .iadd, 1) (List.mem_of_getElem? (i := 42) rfl)) (fun zv138 ze139 => ?_)
              refine tt_dup2 rfl rfl (tX11_minute_1_ok (190, .dup2, 1) (List.mem_of_getElem? (i := 43) rfl)) ?_
              show ww l D tys A X fr lo mX11_minute Q 191 [(8, .int zv117), (7, .int zv111), (6, .int zv1), (0, .ref (ad 50)), (1, .int sl9), (2, .int sp), (3, .int p), (5, .int fe)] [.int zv138, .ref (ad 56), .int zv138, .ref (ad 56)] zh131
              refine z_iald (f := (upd (I 56) p.toInt.toNat zv117)) hT zz134 rfl rfl ((congrFun zq133 56).trans (s2_s _ _ _)) (by omega) (by omega) (tX11_minute_1_ok (191, .iaload, 1) (List.mem_of_getElem? (i := 44) rfl)) (fun zv140 zu141 => ?_)
              have ze142 : zv140.toInt = ((upd (I 56) p.toInt.toNat zv117) zv138.toInt.toNat).toInt := congrArg _ zu141
              refine w_iconst (by decide) (tX11_minute_1_ok (192, .iconst 1, 1) (List.mem_of_getElem? (i := 45) rfl)) (fun zv143 ze144 => ?_)
              refine w_addE (tX11_minute_1_ok (193, .iadd, 1) (List.mem_of_getElem? (i := 46) rfl)) (fun zv145 ze146 => ?_)
              refine z_iast (f := (upd (I 56) p.toInt.toNat zv117)) hT zz134 rfl rfl ((congrFun zq133 56).trans (s2_s _ _ _)) (by omega) (by omega) (tX11_minute_1_ok (194, .iastore, 1) (List.mem_of_getElem? (i := 47) rfl)) (fun zh147 zI148 zq149 zz150 zf151 => ?_)
              refine w_iinc (fun zv152 => [(2, .int zv152), (8, .int zv117), (7, .int zv111), (6, .int zv1), (0, .ref (ad 50)), (1, .int sl9), (3, .int p), (5, .int fe)]) (fun _ => rfl) (List.Mem.tail _ (List.Mem.tail _ (List.Mem.tail _ (List.Mem.tail _ (List.Mem.tail _ (List.Mem.head _)))))) (Nat.le_of_ble_eq_true rfl) (by decide) (by omega) (by omega) (tX11_minute_1_ok (195, .iinc 2 1, 3) (List.mem_of_getElem? (i := 48) rfl)) (fun zv152 ze153 => ?_)
              refine w_iinc (fun zv154 => [(3, .int zv154), (2, .int zv152), (8, .int zv117), (7, .int zv111), (6, .int zv1), (0, .ref (ad 50)), (1, .int sl9), (5, .int fe)]) (fun _ => rfl) (List.Mem.tail _ (List.Mem.tail _ (List.Mem.tail _ (List.Mem.tail _ (List.Mem.tail _ (List.Mem.tail _ (List.Mem.head _))))))) (Nat.le_of_ble_eq_true rfl) (by decide) (by omega) (by omega) (tX11_minute_1_ok (198, .iinc 3 1, 3) (List.mem_of_getElem? (i := 49) rfl)) (fun zv154 ze155 => ?_)
              refine w_goto (tgt := 4) (tX11_minute_1_ok (201, .goto (-197), 3) (List.mem_of_getElem? (i := 50) rfl)) rfl ?_
              have fz := f_st_2 (ρ := ρ) p.toInt.toNat
              have fe0 : ¬ fe.toInt = 0 → fb = true := by
                intro z
                rcases hfe with ⟨c, -⟩ | ⟨-, c⟩
                · exact absurd c z
                · exact c
              have fe1 : fe.toInt = 0 → fb = false := by
                intro z
                rcases hfe with ⟨-, c⟩ | ⟨c, -⟩
                · exact c
                · omega
              have ab9 : ρ p.toInt.toNat 5 < zv1.toInt ∨ zv1.toInt < -(ρ p.toInt.toNat 5) := by
                split at ze7 <;> omega
              have st9 : f_st ρ p.toInt.toNat = 2 := if_pos (by omega)
              have en : m_nx ρ b p.toInt.toNat (T p.toInt.toNat).toInt fb = if (T p.toInt.toNat).toInt + f_st ρ p.toInt.toNat ≤ ρ p.toInt.toNat 1 then (T p.toInt.toNat).toInt + f_st ρ p.toInt.toNat else (T p.toInt.toNat).toInt := by
                by_cases c0 : m_pu ρ b p.toInt.toNat (T p.toInt.toNat).toInt = 0
                · exfalso; omega
                · exact m_up (Or.inr (by omega)) (by omega) (by omega)
              rw [if_pos (by omega)] at en
              have e8 : m_nx ρ b p.toInt.toNat (T p.toInt.toNat).toInt fb = zv117.toInt := by omega
              have e0 : m_0 ρ b p.toInt.toNat fb T d sp.toInt = (upd (upd T p.toInt.toNat (Int32.ofInt (m_nx ρ b p.toInt.toNat (T p.toInt.toNat).toInt fb))) (6 + p.toInt.toNat) (T (6 + p.toInt.toNat) + 1), d, sp.toInt + 1) := if_neg (by omega)
              rw [e8] at e0
              have ei : Int32.ofInt zv117.toInt = zv117 := (kn_eq _ _).mpr (ofInt_b (by omega))
              rw [ei] at e0
              have ti : zv138.toInt.toNat = 6 + p.toInt.toNat := by omega
              have ev : zv145 = T (6 + p.toInt.toNat) + 1 := by
                rw [ze146, zu141, ti, upd_n _ _ (by omega), (hXT _ hp9).2, show zv143 = 1 from (kn_eq _ _).mpr (by rw [ze144]; rfl)]
              have c2 := ((congrFun zq149 56).trans (s2_s _ _ _))
              rw [ti, ev] at c2
              refine w_lv [(2, .int zv152), (3, .int zv154), (0, .ref (ad 50)), (1, .int sl9)] (by intro q hq; simp only [List.mem_cons, List.not_mem_nil, or_false] at hq ⊢; rcases hq with e | e | e | e <;> subst e <;> simp) ?_
              refine kk zh147 zI148 _ _ (by omega) (by rw [e0]; show _ = sp.toInt + 1; omega) (fun q hq => ?_) (fun k hk => ?_) (fun L9 n1 => ?_) zz150 (zf135.tr zf151)
              · rw [e0, c2]
                by_cases c9 : q = p.toInt.toNat
                · subst c9
                  refine ⟨?_, ?_⟩
                  · show upd (upd _ p.toInt.toNat zv117) (6 + p.toInt.toNat) _ p.toInt.toNat = upd (upd T p.toInt.toNat zv117) (6 + p.toInt.toNat) _ p.toInt.toNat
                    rw [upd_n _ _ (by omega), upd_s, upd_n _ _ (by omega), upd_s]
                  · show upd (upd _ p.toInt.toNat zv117) (6 + p.toInt.toNat) _ (6 + p.toInt.toNat) = upd (upd T p.toInt.toNat zv117) (6 + p.toInt.toNat) _ (6 + p.toInt.toNat)
                    rw [upd_s, upd_s]
                · refine ⟨?_, ?_⟩
                  · show upd (upd _ p.toInt.toNat zv117) (6 + p.toInt.toNat) _ q = upd (upd T p.toInt.toNat zv117) (6 + p.toInt.toNat) _ q
                    rw [upd_n _ _ (by omega), upd_n _ _ c9, upd_n _ _ (by omega), upd_n _ _ c9]
                    exact (hXT q hq).1
                  · show upd (upd _ p.toInt.toNat zv117) (6 + p.toInt.toNat) _ (6 + q) = upd (upd T p.toInt.toNat zv117) (6 + p.toInt.toNat) _ (6 + q)
                    rw [upd_n _ _ (by omega), upd_n _ _ (by omega), upd_n _ _ (by omega), upd_n _ _ (by omega)]
                    exact (hXT q hq).2
              · rw [c2, upd_n _ _ (by omega), upd_n _ _ (by omega)]
              · rw [zq149, s2_n n1, zq133, s2_n n1]
            · refine w_goto (tgt := 198) (tX11_minute_1_ok (171, .goto 27, 3) (List.mem_of_getElem? (i := 32) rfl)) rfl ?_
              refine w_iinc (fun zv156 => [(3, .int zv156), (8, .int zv117), (7, .int zv111), (6, .int zv1), (0, .ref (ad 50)), (1, .int sl9), (2, .int sp), (5, .int fe)]) (fun _ => rfl) (List.Mem.tail _ (List.Mem.tail _ (List.Mem.tail _ (List.Mem.tail _ (List.Mem.tail _ (List.Mem.tail _ (List.Mem.head _))))))) (Nat.le_of_ble_eq_true rfl) (by decide) (by omega) (by omega) (tX11_minute_1_ok (198, .iinc 3 1, 3) (List.mem_of_getElem? (i := 49) rfl)) (fun zv156 ze157 => ?_)
              refine w_goto (tgt := 4) (tX11_minute_1_ok (201, .goto (-197), 3) (List.mem_of_getElem? (i := 50) rfl)) rfl ?_
              have fz := f_st_2 (ρ := ρ) p.toInt.toNat
              have fe0 : ¬ fe.toInt = 0 → fb = true := by
                intro z
                rcases hfe with ⟨c, -⟩ | ⟨-, c⟩
                · exact absurd c z
                · exact c
              have fe1 : fe.toInt = 0 → fb = false := by
                intro z
                rcases hfe with ⟨-, c⟩ | ⟨c, -⟩
                · exact c
                · omega
              have en := m_st0 (ρ := ρ) (b := b) (p := p.toInt.toNat) (x := (T p.toInt.toNat).toInt) (fe := fb) (Or.inr (by omega))
              have e0 : m_0 ρ b p.toInt.toNat fb T d sp.toInt = (T, d, sp.toInt) := if_pos en
              refine w_lv [(2, .int sp), (3, .int zv156), (0, .ref (ad 50)), (1, .int sl9)] (by intro q hq; simp only [List.mem_cons, List.not_mem_nil, or_false] at hq ⊢; rcases hq with e | e | e | e <;> subst e <;> simp) ?_
              exact kk h I _ _ (by omega) (by rw [e0]) (fun q hq => by rw [e0]; exact hXT q hq) (fun k _ => rfl) (fun _ _ => rfl) hz zf.rf
        · refine w_aload_n (List.Mem.tail _ (List.Mem.tail _ (List.Mem.head _))) (tX11_minute_1_ok (128, .aload_n 0, 1) (List.mem_of_getElem? (i := 8) rfl)) ?_
          refine z_getR (L1 := 56) (own := 16) (k := 22) hz rfl rfl rfl rfl rfl rfl rfl (by decide) (tX11_minute_1_ok (129, .getfield 45, 3) (List.mem_of_getElem? (i := 9) rfl)) ?_
          refine w_iload_n (List.Mem.tail _ (List.Mem.tail _ (List.Mem.tail _ (List.Mem.tail _ (List.Mem.tail _ (List.Mem.head _)))))) (tX11_minute_1_ok (132, .iload_n 3, 1) (List.mem_of_getElem? (i := 10) rfl)) ?_
          refine z_iald (f := (I 56)) hT hz rfl rfl rfl (by omega) (by omega) (tX11_minute_1_ok (133, .iaload, 1) (List.mem_of_getElem? (i := 11) rfl)) (fun zv158 zu159 => ?_)
          have ze160 : zv158.toInt = ((I 56) p.toInt.toNat).toInt := congrArg _ zu159
          have yzv158 := (hXT _ hp9).1
          rw [← zu159] at yzv158
          have wzv158 : zv158.toInt = (T p.toInt.toNat).toInt := by rw [yzv158]
          refine w_iload (List.Mem.head _) (tX11_minute_1_ok (134, .iload 7, 2) (List.mem_of_getElem? (i := 12) rfl)) ?_
          refine w_isub (by omega) (by omega) (tX11_minute_1_ok (136, .isub, 1) (List.mem_of_getElem? (i := 13) rfl)) (fun zv161 ze162 => ?_)
          refine w_goto (tgt := 149) (tX11_minute_1_ok (137, .goto 12, 3) (List.mem_of_getElem? (i := 14) rfl)) rfl ?_
          refine w_istore [(8, .int zv161), (7, .int zv111), (6, .int zv1), (0, .ref (ad 50)), (1, .int sl9), (2, .int sp), (3, .int p), (5, .int fe)] rfl (Nat.le_of_ble_eq_true rfl) (tX11_minute_1_ok (149, .istore 8, 2) (List.mem_of_getElem? (i := 21) rfl)) ?_
          refine w_iload (List.Mem.head _) (tX11_minute_1_ok (151, .iload 8, 2) (List.mem_of_getElem? (i := 22) rfl)) ?_
          refine w_iconst (by decide) (tX11_minute_1_ok (153, .iconst 0, 1) (List.mem_of_getElem? (i := 23) rfl)) (fun zv163 ze164 => ?_)
          refine w_aload_n (List.Mem.tail _ (List.Mem.tail _ (List.Mem.tail _ (List.Mem.head _)))) (tX11_minute_1_ok (154, .aload_n 0, 1) (List.mem_of_getElem? (i := 24) rfl)) ?_
          refine w_iload_n (List.Mem.tail _ (List.Mem.tail _ (List.Mem.tail _ (List.Mem.tail _ (List.Mem.tail _ (List.Mem.tail _ (List.Mem.head _))))))) (tX11_minute_1_ok (155, .iload_n 3, 1) (List.mem_of_getElem? (i := 25) rfl)) ?_
          refine w_iconst (by decide) (tX11_minute_1_ok (156, .iconst 1, 1) (List.mem_of_getElem? (i := 26) rfl)) (fun zv165 ze166 => ?_)
          refine w_callV (own := 16) (mi := 219) [.int p, .int zv165] [.int zv163, .int zv161] [(0, .ref (ad 50)), (1, .int p), (2, .int zv165)] rfl (cllw_X11 (255, 0, 219) (List.mem_of_getElem? (i := 34) rfl)) rfl rfl (hz.ob rfl rfl) rfl (by omega) (w_lo (n := 22) rfl (by omega)) (Nat.le_of_ble_eq_true rfl) (Nat.le_of_ble_eq_true rfl) rfl (tX11_minute_1_ok (157, .invokevirtual 255, 3) (List.mem_of_getElem? (i := 27) rfl)) (y_of hT hz hp h0 (by omega) (fun zv167 ze168 => ?_))
          show ww l D tys A X fr lo mX11_minute Q 160 [(8, .int zv161), (7, .int zv111), (6, .int zv1), (0, .ref (ad 50)), (1, .int sl9), (2, .int sp), (3, .int p), (5, .int fe)] [.int zv167, .int zv163, .int zv161] h
          rw [show zv165.toInt.toNat = 1 by omega] at ze168
          refine w_callS (own := 16) (mi := 199) [.int zv161, .int zv163, .int zv167] [] [(0, .int zv161), (1, .int zv163), (2, .int zv167)] rfl (cllw_X11 (207, 1, 199) (List.mem_of_getElem? (i := 2) rfl)) rfl rfl (by omega) (w_lo (n := 22) rfl (by omega)) (Nat.le_of_ble_eq_true rfl) (Nat.le_of_ble_eq_true rfl) rfl (tX11_minute_1_ok (160, .invokestatic 207, 3) (List.mem_of_getElem? (i := 28) rfl)) (r_isIn (fun zv169 ze170 => ?_))
          show ww l D tys A X fr lo mX11_minute Q 163 [(8, .int zv161), (7, .int zv111), (6, .int zv1), (0, .ref (ad 50)), (1, .int sl9), (2, .int sp), (3, .int p), (5, .int fe)] [.int zv169] h
          refine w_if_eq (tgt := 198) (tX11_minute_1_ok (163, .ifCond .eq 35, 3) (List.mem_of_getElem? (i := 29) rfl)) rfl (fun zb171 => ?_) (fun zb171 => ?_)
          · refine w_iinc (fun zv172 => [(3, .int zv172), (8, .int zv161), (7, .int zv111), (6, .int zv1), (0, .ref (ad 50)), (1, .int sl9), (2, .int sp), (5, .int fe)]) (fun _ => rfl) (List.Mem.tail _ (List.Mem.tail _ (List.Mem.tail _ (List.Mem.tail _ (List.Mem.tail _ (List.Mem.tail _ (List.Mem.head _))))))) (Nat.le_of_ble_eq_true rfl) (by decide) (by omega) (by omega) (tX11_minute_1_ok (198, .iinc 3 1, 3) (List.mem_of_getElem? (i := 49) rfl)) (fun zv172 ze173 => ?_)
            refine w_goto (tgt := 4) (tX11_minute_1_ok (201, .goto (-197), 3) (List.mem_of_getElem? (i := 50) rfl)) rfl ?_
            have fz := f_st_2 (ρ := ρ) p.toInt.toNat
            have fe0 : ¬ fe.toInt = 0 → fb = true := by
              intro z
              rcases hfe with ⟨c, -⟩ | ⟨-, c⟩
              · exact absurd c z
              · exact c
            have fe1 : fe.toInt = 0 → fb = false := by
              intro z
              rcases hfe with ⟨-, c⟩ | ⟨c, -⟩
              · exact c
              · omega
            have ab9 : ρ p.toInt.toNat 5 < zv1.toInt ∨ zv1.toInt < -(ρ p.toInt.toNat 5) := by
              split at ze7 <;> omega
            have st9 : f_st ρ p.toInt.toNat = 2 := if_pos (by omega)
            have en := m_dn (ρ := ρ) (b := b) (p := p.toInt.toNat) (x := (T p.toInt.toNat).toInt) (fe := fb) (Or.inr (by omega)) (by omega) (by omega)
            rw [if_neg (by omega)] at en
            have e0 : m_0 ρ b p.toInt.toNat fb T d sp.toInt = (T, d, sp.toInt) := if_pos en
            refine w_lv [(2, .int sp), (3, .int zv172), (0, .ref (ad 50)), (1, .int sl9)] (by intro q hq; simp only [List.mem_cons, List.not_mem_nil, or_false] at hq ⊢; rcases hq with e | e | e | e <;> subst e <;> simp) ?_
            exact kk h I _ _ (by omega) (by rw [e0]) (fun q hq => by rw [e0]; exact hXT q hq) (fun k _ => rfl) (fun _ _ => rfl) hz zf.rf
          · refine w_iload (List.Mem.tail _ (List.Mem.tail _ (List.Mem.head _))) (tX11_minute_1_ok (166, .iload 6, 2) (List.mem_of_getElem? (i := 30) rfl)) ?_
            refine w_if_ne (tgt := 174) (tX11_minute_1_ok (168, .ifCond .ne 6, 3) (List.mem_of_getElem? (i := 31) rfl)) rfl (fun zb174 => ?_) (fun zb174 => ?_)
            · refine w_aload_n (List.Mem.tail _ (List.Mem.tail _ (List.Mem.tail _ (List.Mem.head _)))) (tX11_minute_1_ok (174, .aload_n 0, 1) (List.mem_of_getElem? (i := 33) rfl)) ?_
              refine z_getR (L1 := 56) (own := 16) (k := 22) hz rfl rfl rfl rfl rfl rfl rfl (by decide) (tX11_minute_1_ok (175, .getfield 45, 3) (List.mem_of_getElem? (i := 34) rfl)) ?_
              refine w_iload_n (List.Mem.tail _ (List.Mem.tail _ (List.Mem.tail _ (List.Mem.tail _ (List.Mem.tail _ (List.Mem.tail _ (List.Mem.head _))))))) (tX11_minute_1_ok (178, .iload_n 3, 1) (List.mem_of_getElem? (i := 35) rfl)) ?_
              refine w_iload (List.Mem.head _) (tX11_minute_1_ok (179, .iload 8, 2) (List.mem_of_getElem? (i := 36) rfl)) ?_
              refine z_iast (f := (I 56)) hT hz rfl rfl rfl (by omega) (by omega) (tX11_minute_1_ok (181, .iastore, 1) (List.mem_of_getElem? (i := 37) rfl)) (fun zh175 zI176 zq177 zz178 zf179 => ?_)
              refine w_aload_n (List.Mem.tail _ (List.Mem.tail _ (List.Mem.tail _ (List.Mem.head _)))) (tX11_minute_1_ok (182, .aload_n 0, 1) (List.mem_of_getElem? (i := 38) rfl)) ?_
              refine z_getR (L1 := 56) (own := 16) (k := 22) zz178 rfl rfl rfl rfl rfl rfl rfl (by decide) (tX11_minute_1_ok (183, .getfield 45, 3) (List.mem_of_getElem? (i := 39) rfl)) ?_
              refine w_bipush (by decide) (tX11_minute_1_ok (186, .bipush 6, 2) (List.mem_of_getElem? (i := 40) rfl)) (fun zv180 ze181 => ?_)
              refine w_iload_n (List.Mem.tail _ (List.Mem.tail _ (List.Mem.tail _ (List.Mem.tail _ (List.Mem.tail _ (List.Mem.tail _ (List.Mem.head _))))))) (tX11_minute_1_ok (188, .iload_n 3, 1) (List.mem_of_getElem? (i := 41) rfl)) ?_
              refine w_iadd (by omega) (by omega) (tX11_minute_1_ok (189, .iadd, 1) (List.mem_of_getElem? (i := 42) rfl)) (fun zv182 ze183 => ?_)
              refine tt_dup2 rfl rfl (tX11_minute_1_ok (190, .dup2, 1) (List.mem_of_getElem? (i := 43) rfl)) ?_
              show ww l D tys A X fr lo mX11_minute Q 191 [(8, .int zv161), (7, .int zv111), (6, .int zv1), (0, .ref (ad 50)), (1, .int sl9), (2, .int sp), (3, .int p), (5, .int fe)] [.int zv182, .ref (ad 56), .int zv182, .ref (ad 56)] zh175
              refine z_iald (f := (upd (I 56) p.toInt.toNat zv161)) hT zz178 rfl rfl ((congrFun zq177 56).trans (s2_s _ _ _)) (by omega) (by omega) (tX11_minute_1_ok (191, .iaload, 1) (List.mem_of_getElem? (i := 44) rfl)) (fun zv184 zu185 => ?_)
              have ze186 : zv184.toInt = ((upd (I 56) p.toInt.toNat zv161) zv182.toInt.toNat).toInt := congrArg _ zu185
              refine w_iconst (by decide) (tX11_minute_1_ok (192, .iconst 1, 1) (List.mem_of_getElem? (i := 45) rfl)) (fun zv187 ze188 => ?_)
              refine w_addE (tX11_minute_1_ok (193, .iadd, 1) (List.mem_of_getElem? (i := 46) rfl)) (fun zv189 ze190 => ?_)
              refine z_iast (f := (upd (I 56) p.toInt.toNat zv161)) hT zz178 rfl rfl ((congrFun zq177 56).trans (s2_s _ _ _)) (by omega) (by omega) (tX11_minute_1_ok (194, .iastore, 1) (List.mem_of_getElem? (i := 47) rfl)) (fun zh191 zI192 zq193 zz194 zf195 => ?_)
              refine w_iinc (fun zv196 => [(2, .int zv196), (8, .int zv161), (7, .int zv111), (6, .int zv1), (0, .ref (ad 50)), (1, .int sl9), (3, .int p), (5, .int fe)]) (fun _ => rfl) (List.Mem.tail _ (List.Mem.tail _ (List.Mem.tail _ (List.Mem.tail _ (List.Mem.tail _ (List.Mem.head _)))))) (Nat.le_of_ble_eq_true rfl) (by decide) (by omega) (by omega) (tX11_minute_1_ok (195, .iinc 2 1, 3) (List.mem_of_getElem? (i := 48) rfl)) (fun zv196 ze197 => ?_)
              refine w_iinc (fun zv198 => [(3, .int zv198), (2, .int zv196), (8, .int zv161), (7, .int zv111), (6, .int zv1), (0, .ref (ad 50)), (1, .int sl9), (5, .int fe)]) (fun _ => rfl) (List.Mem.tail _ (List.Mem.tail _ (List.Mem.tail _ (List.Mem.tail _ (List.Mem.tail _ (List.Mem.tail _ (List.Mem.head _))))))) (Nat.le_of_ble_eq_true rfl) (by decide) (by omega) (by omega) (tX11_minute_1_ok (198, .iinc 3 1, 3) (List.mem_of_getElem? (i := 49) rfl)) (fun zv198 ze199 => ?_)
              refine w_goto (tgt := 4) (tX11_minute_1_ok (201, .goto (-197), 3) (List.mem_of_getElem? (i := 50) rfl)) rfl ?_
              have fz := f_st_2 (ρ := ρ) p.toInt.toNat
              have fe0 : ¬ fe.toInt = 0 → fb = true := by
                intro z
                rcases hfe with ⟨c, -⟩ | ⟨-, c⟩
                · exact absurd c z
                · exact c
              have fe1 : fe.toInt = 0 → fb = false := by
                intro z
                rcases hfe with ⟨-, c⟩ | ⟨c, -⟩
                · exact c
                · omega
              have ab9 : ρ p.toInt.toNat 5 < zv1.toInt ∨ zv1.toInt < -(ρ p.toInt.toNat 5) := by
                split at ze7 <;> omega
              have st9 : f_st ρ p.toInt.toNat = 2 := if_pos (by omega)
              have en := m_dn (ρ := ρ) (b := b) (p := p.toInt.toNat) (x := (T p.toInt.toNat).toInt) (fe := fb) (Or.inr (by omega)) (by omega) (by omega)
              rw [if_pos (by omega)] at en
              have e8 : m_nx ρ b p.toInt.toNat (T p.toInt.toNat).toInt fb = zv161.toInt := by omega
              have e0 : m_0 ρ b p.toInt.toNat fb T d sp.toInt = (upd (upd T p.toInt.toNat (Int32.ofInt (m_nx ρ b p.toInt.toNat (T p.toInt.toNat).toInt fb))) (6 + p.toInt.toNat) (T (6 + p.toInt.toNat) + 1), d, sp.toInt + 1) := if_neg (by omega)
              rw [e8] at e0
              have ei : Int32.ofInt zv161.toInt = zv161 := (kn_eq _ _).mpr (ofInt_b (by omega))
              rw [ei] at e0
              have ti : zv182.toInt.toNat = 6 + p.toInt.toNat := by omega
              have ev : zv189 = T (6 + p.toInt.toNat) + 1 := by
                rw [ze190, zu185, ti, upd_n _ _ (by omega), (hXT _ hp9).2, show zv187 = 1 from (kn_eq _ _).mpr (by rw [ze188]; rfl)]
              have c2 := ((congrFun zq193 56).trans (s2_s _ _ _))
              rw [ti, ev] at c2
              refine w_lv [(2, .int zv196), (3, .int zv198), (0, .ref (ad 50)), (1, .int sl9)] (by intro q hq; simp only [List.mem_cons, List.not_mem_nil, or_false] at hq ⊢; rcases hq with e | e | e | e <;> subst e <;> simp) ?_
              refine kk zh191 zI192 _ _ (by omega) (by rw [e0]; show _ = sp.toInt + 1; omega) (fun q hq => ?_) (fun k hk => ?_) (fun L9 n1 => ?_) zz194 (zf179.tr zf195)
              · rw [e0, c2]
                by_cases c9 : q = p.toInt.toNat
                · subst c9
                  refine ⟨?_, ?_⟩
                  · show upd (upd _ p.toInt.toNat zv161) (6 + p.toInt.toNat) _ p.toInt.toNat = upd (upd T p.toInt.toNat zv161) (6 + p.toInt.toNat) _ p.toInt.toNat
                    rw [upd_n _ _ (by omega), upd_s, upd_n _ _ (by omega), upd_s]
                  · show upd (upd _ p.toInt.toNat zv161) (6 + p.toInt.toNat) _ (6 + p.toInt.toNat) = upd (upd T p.toInt.toNat zv161) (6 + p.toInt.toNat) _ (6 + p.toInt.toNat)
                    rw [upd_s, upd_s]
                · refine ⟨?_, ?_⟩
                  · show upd (upd _ p.toInt.toNat zv161) (6 + p.toInt.toNat) _ q = upd (upd T p.toInt.toNat zv161) (6 + p.toInt.toNat) _ q
                    rw [upd_n _ _ (by omega), upd_n _ _ c9, upd_n _ _ (by omega), upd_n _ _ c9]
                    exact (hXT q hq).1
                  · show upd (upd _ p.toInt.toNat zv161) (6 + p.toInt.toNat) _ (6 + q) = upd (upd T p.toInt.toNat zv161) (6 + p.toInt.toNat) _ (6 + q)
                    rw [upd_n _ _ (by omega), upd_n _ _ (by omega), upd_n _ _ (by omega), upd_n _ _ (by omega)]
                    exact (hXT q hq).2
              · rw [c2, upd_n _ _ (by omega), upd_n _ _ (by omega)]
              · rw [zq193, s2_n n1, zq177, s2_n n1]
            · refine w_goto (tgt := 198) (tX11_minute_1_ok (171, .goto 27, 3) (List.mem_of_getElem? (i := 32) rfl)) rfl ?_
              refine w_iinc (fun zv200 => [(3, .int zv200), (8, .int zv161), (7, .int zv111), (6, .int zv1), (0, .ref (ad 50)), (1, .int sl9), (2, .int sp), (5, .int fe)]) (fun _ => rfl) (List.Mem.tail _ (List.Mem.tail _ (List.Mem.tail _ (List.Mem.tail _ (List.Mem.tail _ (List.Mem.tail _ (List.Mem.head _))))))) (Nat.le_of_ble_eq_true rfl) (by decide) (by omega) (by omega) (tX11_minute_1_ok (198, .iinc 3 1, 3) (List.mem_of_getElem? (i := 49) rfl)) (fun zv200 ze201 => ?_)
              refine w_goto (tgt := 4) (tX11_minute_1_ok (201, .goto (-197), 3) (List.mem_of_getElem? (i := 50) rfl)) rfl ?_
              have fz := f_st_2 (ρ := ρ) p.toInt.toNat
              have fe0 : ¬ fe.toInt = 0 → fb = true := by
                intro z
                rcases hfe with ⟨c, -⟩ | ⟨-, c⟩
                · exact absurd c z
                · exact c
              have fe1 : fe.toInt = 0 → fb = false := by
                intro z
                rcases hfe with ⟨-, c⟩ | ⟨c, -⟩
                · exact c
                · omega
              have ab9 : ρ p.toInt.toNat 5 < zv1.toInt ∨ zv1.toInt < -(ρ p.toInt.toNat 5) := by
                split at ze7 <;> omega
              have st9 : f_st ρ p.toInt.toNat = 2 := if_pos (by omega)
              have en := m_dn (ρ := ρ) (b := b) (p := p.toInt.toNat) (x := (T p.toInt.toNat).toInt) (fe := fb) (Or.inr (by omega)) (by omega) (by omega)
              rw [if_neg (by omega)] at en
              have e0 : m_0 ρ b p.toInt.toNat fb T d sp.toInt = (T, d, sp.toInt) := if_pos en
              refine w_lv [(2, .int sp), (3, .int zv200), (0, .ref (ad 50)), (1, .int sl9)] (by intro q hq; simp only [List.mem_cons, List.not_mem_nil, or_false] at hq ⊢; rcases hq with e | e | e | e <;> subst e <;> simp) ?_
              exact kk h I _ _ (by omega) (by rw [e0]) (fun q hq => by rw [e0]; exact hXT q hq) (fun k _ => rfl) (fun _ _ => rfl) hz zf.rf
    · refine w_goto (tgt := 198) (tX11_minute_0_ok (103, .goto 95, 3) (List.mem_of_getElem? (i := 55) rfl)) rfl ?_
      refine w_iinc (fun zv202 => [(3, .int zv202), (6, .int zv1), (0, .ref (ad 50)), (1, .int sl9), (2, .int sp), (5, .int fe)]) (fun _ => rfl) (List.Mem.tail _ (List.Mem.tail _ (List.Mem.tail _ (List.Mem.tail _ (List.Mem.head _))))) (Nat.le_of_ble_eq_true rfl) (by decide) (by omega) (by omega) (tX11_minute_1_ok (198, .iinc 3 1, 3) (List.mem_of_getElem? (i := 49) rfl)) (fun zv202 ze203 => ?_)
      refine w_goto (tgt := 4) (tX11_minute_1_ok (201, .goto (-197), 3) (List.mem_of_getElem? (i := 50) rfl)) rfl ?_
      have fz := f_st_2 (ρ := ρ) p.toInt.toNat
      have fe0 : ¬ fe.toInt = 0 → fb = true := by
        intro z
        rcases hfe with ⟨c, -⟩ | ⟨-, c⟩
        · exact absurd c z
        · exact c
      have fe1 : fe.toInt = 0 → fb = false := by
        intro z
        rcases hfe with ⟨-, c⟩ | ⟨c, -⟩
        · exact c
        · omega
      have ab9 : -(ρ p.toInt.toNat 5) ≤ zv1.toInt ∧ zv1.toInt ≤ ρ p.toInt.toNat 5 := by
        split at ze7 <;> omega
      have en := m_st0 (ρ := ρ) (b := b) (p := p.toInt.toNat) (x := (T p.toInt.toNat).toInt) (fe := fb) (Or.inl ⟨fe1 (by omega), by omega, by omega⟩)
      have e0 : m_0 ρ b p.toInt.toNat fb T d sp.toInt = (T, d, sp.toInt) := if_pos en
      refine w_lv [(2, .int sp), (3, .int zv202), (0, .ref (ad 50)), (1, .int sl9)] (by intro q hq; simp only [List.mem_cons, List.not_mem_nil, or_false] at hq ⊢; rcases hq with e | e | e | e <;> subst e <;> simp) ?_
      exact kk h I _ _ (by omega) (by rw [e0]) (fun q hq => by rw [e0]; exact hXT q hq) (fun k _ => rfl) (fun _ _ => rfl) hz zf.rf
  · refine w_iload (List.Mem.head _) (tX11_minute_0_ok (84, .iload 6, 2) (List.mem_of_getElem? (i := 46) rfl)) ?_
    refine w_if_ne (tgt := 106) (tX11_minute_0_ok (86, .ifCond .ne 20, 3) (List.mem_of_getElem? (i := 47) rfl)) rfl (fun zb204 => ?_) (fun zb204 => ?_)
    · refine w_aload_n (List.Mem.tail _ (List.Mem.head _)) (tX11_minute_0_ok (106, .aload_n 0, 1) (List.mem_of_getElem? (i := 56) rfl)) ?_
      refine w_iload_n (List.Mem.tail _ (List.Mem.tail _ (List.Mem.tail _ (List.Mem.tail _ (List.Mem.head _))))) (tX11_minute_0_ok (107, .iload_n 3, 1) (List.mem_of_getElem? (i := 57) rfl)) ?_
      refine w_iconst (by decide) (tX11_minute_0_ok (108, .iconst 0, 1) (List.mem_of_getElem? (i := 58) rfl)) (fun zv205 ze206 => ?_)
      refine w_callV (own := 16) (mi := 219) [.int p, .int zv205] [] [(0, .ref (ad 50)), (1, .int p), (2, .int zv205)] rfl (cllw_X11 (255, 0, 219) (List.mem_of_getElem? (i := 34) rfl)) rfl rfl (hz.ob rfl rfl) rfl (by omega) (w_lo (n := 22) rfl (by omega)) (Nat.le_of_ble_eq_true rfl) (Nat.le_of_ble_eq_true rfl) rfl (tX11_minute_0_ok (109, .invokevirtual 255, 3) (List.mem_of_getElem? (i := 59) rfl)) (y_of hT hz hp h0 (by omega) (fun zv207 ze208 => ?_))
      show ww l D tys A X fr lo mX11_minute Q 112 [(6, .int zv1), (0, .ref (ad 50)), (1, .int sl9), (2, .int sp), (3, .int p), (5, .int fe)] [.int zv207] h
      rw [show zv205.toInt.toNat = 0 by omega] at ze208
      refine w_iconst (by decide) (tX11_minute_1_ok (112, .iconst 1, 1) (List.mem_of_getElem? (i := 0) rfl)) (fun zv209 ze210 => ?_)
      refine w_icmp_ne (tgt := 120) (tX11_minute_1_ok (113, .if_icmp .ne 7, 3) (List.mem_of_getElem? (i := 1) rfl)) rfl (fun zb211 => ?_) (fun zb211 => ?_)
      · refine w_iconst (by decide) (tX11_minute_1_ok (120, .iconst 1, 1) (List.mem_of_getElem? (i := 4) rfl)) (fun zv212 ze213 => ?_)
        refine w_istore [(7, .int zv212), (6, .int zv1), (0, .ref (ad 50)), (1, .int sl9), (2, .int sp), (3, .int p), (5, .int fe)] rfl (Nat.le_of_ble_eq_true rfl) (tX11_minute_1_ok (121, .istore 7, 2) (List.mem_of_getElem? (i := 5) rfl)) ?_
        refine w_iload (List.Mem.tail _ (List.Mem.head _)) (tX11_minute_1_ok (123, .iload 6, 2) (List.mem_of_getElem? (i := 6) rfl)) ?_
        refine w_if_le (tgt := 140) (tX11_minute_1_ok (125, .ifCond .le 15, 3) (List.mem_of_getElem? (i := 7) rfl)) rfl (fun zb214 => ?_) (fun zb214 => ?_)
        · refine w_aload_n (List.Mem.tail _ (List.Mem.tail _ (List.Mem.head _))) (tX11_minute_1_ok (140, .aload_n 0, 1) (List.mem_of_getElem? (i := 15) rfl)) ?_
          refine z_getR (L1 := 56) (own := 16) (k := 22) hz rfl rfl rfl rfl rfl rfl rfl (by decide) (tX11_minute_1_ok (141, .getfield 45, 3) (List.mem_of_getElem? (i := 16) rfl)) ?_
          refine w_iload_n (List.Mem.tail _ (List.Mem.tail _ (List.Mem.tail _ (List.Mem.tail _ (List.Mem.tail _ (List.Mem.head _)))))) (tX11_minute_1_ok (144, .iload_n 3, 1) (List.mem_of_getElem? (i := 17) rfl)) ?_
          refine z_iald (f := (I 56)) hT hz rfl rfl rfl (by omega) (by omega) (tX11_minute_1_ok (145, .iaload, 1) (List.mem_of_getElem? (i := 18) rfl)) (fun zv215 zu216 => ?_)
          have ze217 : zv215.toInt = ((I 56) p.toInt.toNat).toInt := congrArg _ zu216
          have yzv215 := (hXT _ hp9).1
          rw [← zu216] at yzv215
          have wzv215 : zv215.toInt = (T p.toInt.toNat).toInt := by rw [yzv215]
          refine w_iload (List.Mem.head _) (tX11_minute_1_ok (146, .iload 7, 2) (List.mem_of_getElem? (i := 19) rfl)) ?_
          refine w_iadd (by omega) (by omega) (tX11_minute_1_ok (148, .iadd, 1) (List.mem_of_getElem? (i := 20) rfl)) (fun zv218 ze219 => ?_)
          refine w_istore [(8, .int zv218), (7, .int zv212), (6, .int zv1), (0, .ref (ad 50)), (1, .int sl9), (2, .int sp), (3, .int p), (5, .int fe)] rfl (Nat.le_of_ble_eq_true rfl) (tX11_minute_1_ok (149, .istore 8, 2) (List.mem_of_getElem? (i := 21) rfl)) ?_
          refine w_iload (List.Mem.head _) (tX11_minute_1_ok (151, .iload 8, 2) (List.mem_of_getElem? (i := 22) rfl)) ?_
          refine w_iconst (by decide) (tX11_minute_1_ok (153, .iconst 0, 1) (List.mem_of_getElem? (i := 23) rfl)) (fun zv220 ze221 => ?_)
          refine w_aload_n (List.Mem.tail _ (List.Mem.tail _ (List.Mem.tail _ (List.Mem.head _)))) (tX11_minute_1_ok (154, .aload_n 0, 1) (List.mem_of_getElem? (i := 24) rfl)) ?_
          refine w_iload_n (List.Mem.tail _ (List.Mem.tail _ (List.Mem.tail _ (List.Mem.tail _ (List.Mem.tail _ (List.Mem.tail _ (List.Mem.head _))))))) (tX11_minute_1_ok (155, .iload_n 3, 1) (List.mem_of_getElem? (i := 25) rfl)) ?_
          refine w_iconst (by decide) (tX11_minute_1_ok (156, .iconst 1, 1) (List.mem_of_getElem? (i := 26) rfl)) (fun zv222 ze223 => ?_)
          refine w_callV (own := 16) (mi := 219) [.int p, .int zv222] [.int zv220, .int zv218] [(0, .ref (ad 50)), (1, .int p), (2, .int zv222)] rfl (cllw_X11 (255, 0, 219) (List.mem_of_getElem? (i := 34) rfl)) rfl rfl (hz.ob rfl rfl) rfl (by omega) (w_lo (n := 22) rfl (by omega)) (Nat.le_of_ble_eq_true rfl) (Nat.le_of_ble_eq_true rfl) rfl (tX11_minute_1_ok (157, .invokevirtual 255, 3) (List.mem_of_getElem? (i := 27) rfl)) (y_of hT hz hp h0 (by omega) (fun zv224 ze225 => ?_))
          show ww l D tys A X fr lo mX11_minute Q 160 [(8, .int zv218), (7, .int zv212), (6, .int zv1), (0, .ref (ad 50)), (1, .int sl9), (2, .int sp), (3, .int p), (5, .int fe)] [.int zv224, .int zv220, .int zv218] h
          rw [show zv222.toInt.toNat = 1 by omega] at ze225
          refine w_callS (own := 16) (mi := 199) [.int zv218, .int zv220, .int zv224] [] [(0, .int zv218), (1, .int zv220), (2, .int zv224)] rfl (cllw_X11 (207, 1, 199) (List.mem_of_getElem? (i := 2) rfl)) rfl rfl (by omega) (w_lo (n := 22) rfl (by omega)) (Nat.le_of_ble_eq_true rfl) (Nat.le_of_ble_eq_true rfl) rfl (tX11_minute_1_ok (160, .invokestatic 207, 3) (List.mem_of_getElem? (i := 28) rfl)) (r_isIn (fun zv226 ze227 => ?_))
          show ww l D tys A X fr lo mX11_minute Q 163 [(8, .int zv218), (7, .int zv212), (6, .int zv1), (0, .ref (ad 50)), (1, .int sl9), (2, .int sp), (3, .int p), (5, .int fe)] [.int zv226] h
          refine w_if_eq (tgt := 198) (tX11_minute_1_ok (163, .ifCond .eq 35, 3) (List.mem_of_getElem? (i := 29) rfl)) rfl (fun zb228 => ?_) (fun zb228 => ?_)
          · refine w_iinc (fun zv229 => [(3, .int zv229), (8, .int zv218), (7, .int zv212), (6, .int zv1), (0, .ref (ad 50)), (1, .int sl9), (2, .int sp), (5, .int fe)]) (fun _ => rfl) (List.Mem.tail _ (List.Mem.tail _ (List.Mem.tail _ (List.Mem.tail _ (List.Mem.tail _ (List.Mem.tail _ (List.Mem.head _))))))) (Nat.le_of_ble_eq_true rfl) (by decide) (by omega) (by omega) (tX11_minute_1_ok (198, .iinc 3 1, 3) (List.mem_of_getElem? (i := 49) rfl)) (fun zv229 ze230 => ?_)
            refine w_goto (tgt := 4) (tX11_minute_1_ok (201, .goto (-197), 3) (List.mem_of_getElem? (i := 50) rfl)) rfl ?_
            have fz := f_st_2 (ρ := ρ) p.toInt.toNat
            have fe0 : ¬ fe.toInt = 0 → fb = true := by
              intro z
              rcases hfe with ⟨c, -⟩ | ⟨-, c⟩
              · exact absurd c z
              · exact c
            have fe1 : fe.toInt = 0 → fb = false := by
              intro z
              rcases hfe with ⟨-, c⟩ | ⟨c, -⟩
              · exact c
              · omega
            have st9 : f_st ρ p.toInt.toNat = 1 := if_neg (by omega)
            have en : m_nx ρ b p.toInt.toNat (T p.toInt.toNat).toInt fb = (T p.toInt.toNat).toInt := by
              by_cases c0 : m_pu ρ b p.toInt.toNat (T p.toInt.toNat).toInt = 0
              · exact m_st0 (ρ := ρ) (Or.inr c0)
              · rw [m_up (Or.inl (fe0 (by omega))) (by omega) (by omega), if_neg (by omega)]
            have e0 : m_0 ρ b p.toInt.toNat fb T d sp.toInt = (T, d, sp.toInt) := if_pos en
            refine w_lv [(2, .int sp), (3, .int zv229), (0, .ref (ad 50)), (1, .int sl9)] (by intro q hq; simp only [List.mem_cons, List.not_mem_nil, or_false] at hq ⊢; rcases hq with e | e | e | e <;> subst e <;> simp) ?_
            exact kk h I _ _ (by omega) (by rw [e0]) (fun q hq => by rw [e0]; exact hXT q hq) (fun k _ => rfl) (fun _ _ => rfl) hz zf.rf
          · refine w_iload (List.Mem.tail _ (List.Mem.tail _ (List.Mem.head _))) (tX11_minute_1_ok (166, .iload 6, 2) (List.mem_of_getElem? (i := 30) rfl)) ?_
            refine w_if_ne (tgt := 174) (tX11_minute_1_ok (168, .ifCond .ne 6, 3) (List.mem_of_getElem? (i := 31) rfl)) rfl (fun zb231 => ?_) (fun zb231 => ?_)
            · refine w_aload_n (List.Mem.tail _ (List.Mem.tail _ (List.Mem.tail _ (List.Mem.head _)))) (tX11_minute_1_ok (174, .aload_n 0, 1) (List.mem_of_getElem? (i := 33) rfl)) ?_
              refine z_getR (L1 := 56) (own := 16) (k := 22) hz rfl rfl rfl rfl rfl rfl rfl (by decide) (tX11_minute_1_ok (175, .getfield 45, 3) (List.mem_of_getElem? (i := 34) rfl)) ?_
              refine w_iload_n (List.Mem.tail _ (List.Mem.tail _ (List.Mem.tail _ (List.Mem.tail _ (List.Mem.tail _ (List.Mem.tail _ (List.Mem.head _))))))) (tX11_minute_1_ok (178, .iload_n 3, 1) (List.mem_of_getElem? (i := 35) rfl)) ?_
              refine w_iload (List.Mem.head _) (tX11_minute_1_ok (179, .iload 8, 2) (List.mem_of_getElem? (i := 36) rfl)) ?_
              refine z_iast (f := (I 56)) hT hz rfl rfl rfl (by omega) (by omega) (tX11_minute_1_ok (181, .iastore, 1) (List.mem_of_getElem? (i := 37) rfl)) (fun zh232 zI233 zq234 zz235 zf236 => ?_)
              refine w_aload_n (List.Mem.tail _ (List.Mem.tail _ (List.Mem.tail _ (List.Mem.head _)))) (tX11_minute_1_ok (182, .aload_n 0, 1) (List.mem_of_getElem? (i := 38) rfl)) ?_
              refine z_getR (L1 := 56) (own := 16) (k := 22) zz235 rfl rfl rfl rfl rfl rfl rfl (by decide) (tX11_minute_1_ok (183, .getfield 45, 3) (List.mem_of_getElem? (i := 39) rfl)) ?_
              refine w_bipush (by decide) (tX11_minute_1_ok (186, .bipush 6, 2) (List.mem_of_getElem? (i := 40) rfl)) (fun zv237 ze238 => ?_)
              refine w_iload_n (List.Mem.tail _ (List.Mem.tail _ (List.Mem.tail _ (List.Mem.tail _ (List.Mem.tail _ (List.Mem.tail _ (List.Mem.head _))))))) (tX11_minute_1_ok (188, .iload_n 3, 1) (List.mem_of_getElem? (i := 41) rfl)) ?_
              refine w_iadd (by omega) (by omega) (tX11_minute_1_ok (189, .iadd, 1) (List.mem_of_getElem? (i := 42) rfl)) (fun zv239 ze240 => ?_)
              refine tt_dup2 rfl rfl (tX11_minute_1_ok (190, .dup2, 1) (List.mem_of_getElem? (i := 43) rfl)) ?_
              show ww l D tys A X fr lo mX11_minute Q 191 [(8, .int zv218), (7, .int zv212), (6, .int zv1), (0, .ref (ad 50)), (1, .int sl9), (2, .int sp), (3, .int p), (5, .int fe)] [.int zv239, .ref (ad 56), .int zv239, .ref (ad 56)] zh232
              refine z_iald (f := (upd (I 56) p.toInt.toNat zv218)) hT zz235 rfl rfl ((congrFun zq234 56).trans (s2_s _ _ _)) (by omega) (by omega) (tX11_minute_1_ok (191, .iaload, 1) (List.mem_of_getElem? (i := 44) rfl)) (fun zv241 zu242 => ?_)
              have ze243 : zv241.toInt = ((upd (I 56) p.toInt.toNat zv218) zv239.toInt.toNat).toInt := congrArg _ zu242
              refine w_iconst (by decide) (tX11_minute_1_ok (192, .iconst 1, 1) (List.mem_of_getElem? (i := 45) rfl)) (fun zv244 ze245 => ?_)
              refine w_addE (tX11_minute_1_ok (193, .iadd, 1) (List.mem_of_getElem? (i := 46) rfl)) (fun zv246 ze247 => ?_)
              refine z_iast (f := (upd (I 56) p.toInt.toNat zv218)) hT zz235 rfl rfl ((congrFun zq234 56).trans (s2_s _ _ _)) (by omega) (by omega) (tX11_minute_1_ok (194, .iastore, 1) (List.mem_of_getElem? (i := 47) rfl)) (fun zh248 zI249 zq250 zz251 zf252 => ?_)
              refine w_iinc (fun zv253 => [(2, .int zv253), (8, .int zv218), (7, .int zv212), (6, .int zv1), (0, .ref (ad 50)), (1, .int sl9), (3, .int p), (5, .int fe)]) (fun _ => rfl) (List.Mem.tail _ (List.Mem.tail _ (List.Mem.tail _ (List.Mem.tail _ (List.Mem.tail _ (List.Mem.head _)))))) (Nat.le_of_ble_eq_true rfl) (by decide) (by omega) (by omega) (tX11_minute_1_ok (195, .iinc 2 1, 3) (List.mem_of_getElem? (i := 48) rfl)) (fun zv253 ze254 => ?_)
              refine w_iinc (fun zv255 => [(3, .int zv255), (2, .int zv253), (8, .int zv218), (7, .int zv212), (6, .int zv1), (0, .ref (ad 50)), (1, .int sl9), (5, .int fe)]) (fun _ => rfl) (List.Mem.tail _ (List.Mem.tail _ (List.Mem.tail _ (List.Mem.tail _ (List.Mem.tail _ (List.Mem.tail _ (List.Mem.head _))))))) (Nat.le_of_ble_eq_true rfl) (by decide) (by omega) (by omega) (tX11_minute_1_ok (198, .iinc 3 1, 3) (List.mem_of_getElem? (i := 49) rfl)) (fun zv255 ze256 => ?_)
              refine w_goto (tgt := 4) (tX11_minute_1_ok (201, .goto (-197), 3) (List.mem_of_getElem? (i := 50) rfl)) rfl ?_
              have fz := f_st_2 (ρ := ρ) p.toInt.toNat
              have fe0 : ¬ fe.toInt = 0 → fb = true := by
                intro z
                rcases hfe with ⟨c, -⟩ | ⟨-, c⟩
                · exact absurd c z
                · exact c
              have fe1 : fe.toInt = 0 → fb = false := by
                intro z
                rcases hfe with ⟨-, c⟩ | ⟨c, -⟩
                · exact c
                · omega
              have st9 : f_st ρ p.toInt.toNat = 1 := if_neg (by omega)
              have en : m_nx ρ b p.toInt.toNat (T p.toInt.toNat).toInt fb = if (T p.toInt.toNat).toInt + f_st ρ p.toInt.toNat ≤ ρ p.toInt.toNat 1 then (T p.toInt.toNat).toInt + f_st ρ p.toInt.toNat else (T p.toInt.toNat).toInt := by
                by_cases c0 : m_pu ρ b p.toInt.toNat (T p.toInt.toNat).toInt = 0
                · exfalso; omega
                · exact m_up (Or.inl (fe0 (by omega))) (by omega) (by omega)
              rw [if_pos (by omega)] at en
              have e8 : m_nx ρ b p.toInt.toNat (T p.toInt.toNat).toInt fb = zv218.toInt := by omega
              have e0 : m_0 ρ b p.toInt.toNat fb T d sp.toInt = (upd (upd T p.toInt.toNat (Int32.ofInt (m_nx ρ b p.toInt.toNat (T p.toInt.toNat).toInt fb))) (6 + p.toInt.toNat) (T (6 + p.toInt.toNat) + 1), d, sp.toInt + 1) := if_neg (by omega)
              rw [e8] at e0
              have ei : Int32.ofInt zv218.toInt = zv218 := (kn_eq _ _).mpr (ofInt_b (by omega))
              rw [ei] at e0
              have ti : zv239.toInt.toNat = 6 + p.toInt.toNat := by omega
              have ev : zv246 = T (6 + p.toInt.toNat) + 1 := by
                rw [ze247, zu242, ti, upd_n _ _ (by omega), (hXT _ hp9).2, show zv244 = 1 from (kn_eq _ _).mpr (by rw [ze245]; rfl)]
              have c2 := ((congrFun zq250 56).trans (s2_s _ _ _))
              rw [ti, ev] at c2
              refine w_lv [(2, .int zv253), (3, .int zv255), (0, .ref (ad 50)), (1, .int sl9)] (by intro q hq; simp only [List.mem_cons, List.not_mem_nil, or_false] at hq ⊢; rcases hq with e | e | e | e <;> subst e <;> simp) ?_
              refine kk zh248 zI249 _ _ (by omega) (by rw [e0]; show _ = sp.toInt + 1; omega) (fun q hq => ?_) (fun k hk => ?_) (fun L9 n1 => ?_) zz251 (zf236.tr zf252)
              · rw [e0, c2]
                by_cases c9 : q = p.toInt.toNat
                · subst c9
                  refine ⟨?_, ?_⟩
                  · show upd (upd _ p.toInt.toNat zv218) (6 + p.toInt.toNat) _ p.toInt.toNat = upd (upd T p.toInt.toNat zv218) (6 + p.toInt.toNat) _ p.toInt.toNat
                    rw [upd_n _ _ (by omega), upd_s, upd_n _ _ (by omega), upd_s]
                  · show upd (upd _ p.toInt.toNat zv218) (6 + p.toInt.toNat) _ (6 + p.toInt.toNat) = upd (upd T p.toInt.toNat zv218) (6 + p.toInt.toNat) _ (6 + p.toInt.toNat)
                    rw [upd_s, upd_s]
                · refine ⟨?_, ?_⟩
                  · show upd (upd _ p.toInt.toNat zv218) (6 + p.toInt.toNat) _ q = upd (upd T p.toInt.toNat zv218) (6 + p.toInt.toNat) _ q
                    rw [upd_n _ _ (by omega), upd_n _ _ c9, upd_n _ _ (by omega), upd_n _ _ c9]
                    exact (hXT q hq).1
                  · show upd (upd _ p.toInt.toNat zv218) (6 + p.toInt.toNat) _ (6 + q) = upd (upd T p.toInt.toNat zv218) (6 + p.toInt.toNat) _ (6 + q)
                    rw [upd_n _ _ (by omega), upd_n _ _ (by omega), upd_n _ _ (by omega), upd_n _ _ (by omega)]
                    exact (hXT q hq).2
              · rw [c2, upd_n _ _ (by omega), upd_n _ _ (by omega)]
              · rw [zq250, s2_n n1, zq234, s2_n n1]
            · refine w_goto (tgt := 198) (tX11_minute_1_ok (171, .goto 27, 3) (List.mem_of_getElem? (i := 32) rfl)) rfl ?_
              refine w_iinc (fun zv257 => [(3, .int zv257), (8, .int zv218), (7, .int zv212), (6, .int zv1), (0, .ref (ad 50)), (1, .int sl9), (2, .int sp), (5, .int fe)]) (fun _ => rfl) (List.Mem.tail _ (List.Mem.tail _ (List.Mem.tail _ (List.Mem.tail _ (List.Mem.tail _ (List.Mem.tail _ (List.Mem.head _))))))) (Nat.le_of_ble_eq_true rfl) (by decide) (by omega) (by omega) (tX11_minute_1_ok (198, .iinc 3 1, 3) (List.mem_of_getElem? (i := 49) rfl)) (fun zv257 ze258 => ?_)
              refine w_goto (tgt := 4) (tX11_minute_1_ok (201, .goto (-197), 3) (List.mem_of_getElem? (i := 50) rfl)) rfl ?_
              have fz := f_st_2 (ρ := ρ) p.toInt.toNat
              have fe0 : ¬ fe.toInt = 0 → fb = true := by
                intro z
                rcases hfe with ⟨c, -⟩ | ⟨-, c⟩
                · exact absurd c z
                · exact c
              have fe1 : fe.toInt = 0 → fb = false := by
                intro z
                rcases hfe with ⟨-, c⟩ | ⟨c, -⟩
                · exact c
                · omega
              have en := m_st0 (ρ := ρ) (b := b) (p := p.toInt.toNat) (x := (T p.toInt.toNat).toInt) (fe := fb) (Or.inr (by omega))
              have e0 : m_0 ρ b p.toInt.toNat fb T d sp.toInt = (T, d, sp.toInt) := if_pos en
              refine w_lv [(2, .int sp), (3, .int zv257), (0, .ref (ad 50)), (1, .int sl9)] (by intro q hq; simp only [List.mem_cons, List.not_mem_nil, or_false] at hq ⊢; rcases hq with e | e | e | e <;> subst e <;> simp) ?_
              exact kk h I _ _ (by omega) (by rw [e0]) (fun q hq => by rw [e0]; exact hXT q hq) (fun k _ => rfl) (fun _ _ => rfl) hz zf.rf
        · refine w_aload_n (List.Mem.tail _ (List.Mem.tail _ (List.Mem.head _))) (tX11_minute_1_ok (128, .aload_n 0, 1) (List.mem_of_getElem? (i := 8) rfl)) ?_
          refine z_getR (L1 := 56) (own := 16) (k := 22) hz rfl rfl rfl rfl rfl rfl rfl (by decide) (tX11_minute_1_ok (129, .getfield 45, 3) (List.mem_of_getElem? (i := 9) rfl)) ?_
          refine w_iload_n (List.Mem.tail _ (List.Mem.tail _ (List.Mem.tail _ (List.Mem.tail _ (List.Mem.tail _ (List.Mem.head _)))))) (tX11_minute_1_ok (132, .iload_n 3, 1) (List.mem_of_getElem? (i := 10) rfl)) ?_
          refine z_iald (f := (I 56)) hT hz rfl rfl rfl (by omega) (by omega) (tX11_minute_1_ok (133, .iaload, 1) (List.mem_of_getElem? (i := 11) rfl)) (fun zv259 zu260 => ?_)
          have ze261 : zv259.toInt = ((I 56) p.toInt.toNat).toInt := congrArg _ zu260
          have yzv259 := (hXT _ hp9).1
          rw [← zu260] at yzv259
          have wzv259 : zv259.toInt = (T p.toInt.toNat).toInt := by rw [yzv259]
          refine w_iload (List.Mem.head _) (tX11_minute_1_ok (134, .iload 7, 2) (List.mem_of_getElem? (i := 12) rfl)) ?_
          refine w_isub (by omega) (by omega) (tX11_minute_1_ok (136, .isub, 1) (List.mem_of_getElem? (i := 13) rfl)) (fun zv262 ze263 => ?_)
          refine w_goto (tgt := 149) (tX11_minute_1_ok (137, .goto 12, 3) (List.mem_of_getElem? (i := 14) rfl)) rfl ?_
          refine w_istore [(8, .int zv262), (7, .int zv212), (6, .int zv1), (0, .ref (ad 50)), (1, .int sl9), (2, .int sp), (3, .int p), (5, .int fe)] rfl (Nat.le_of_ble_eq_true rfl) (tX11_minute_1_ok (149, .istore 8, 2) (List.mem_of_getElem? (i := 21) rfl)) ?_
          refine w_iload (List.Mem.head _) (tX11_minute_1_ok (151, .iload 8, 2) (List.mem_of_getElem? (i := 22) rfl)) ?_
          refine w_iconst (by decide) (tX11_minute_1_ok (153, .iconst 0, 1) (List.mem_of_getElem? (i := 23) rfl)) (fun zv264 ze265 => ?_)
          refine w_aload_n (List.Mem.tail _ (List.Mem.tail _ (List.Mem.tail _ (List.Mem.head _)))) (tX11_minute_1_ok (154, .aload_n 0, 1) (List.mem_of_getElem? (i := 24) rfl)) ?_
          refine w_iload_n (List.Mem.tail _ (List.Mem.tail _ (List.Mem.tail _ (List.Mem.tail _ (List.Mem.tail _ (List.Mem.tail _ (List.Mem.head _))))))) (tX11_minute_1_ok (155, .iload_n 3, 1) (List.mem_of_getElem? (i := 25) rfl)) ?_
          refine w_iconst (by decide) (tX11_minute_1_ok (156, .iconst 1, 1) (List.mem_of_getElem? (i := 26) rfl)) (fun zv266 ze267 => ?_)
          refine w_callV (own := 16) (mi := 219) [.int p, .int zv266] [.int zv264, .int zv262] [(0, .ref (ad 50)), (1, .int p), (2, .int zv266)] rfl (cllw_X11 (255, 0, 219) (List.mem_of_getElem? (i := 34) rfl)) rfl rfl (hz.ob rfl rfl) rfl (by omega) (w_lo (n := 22) rfl (by omega)) (Nat.le_of_ble_eq_true rfl) (Nat.le_of_ble_eq_true rfl) rfl (tX11_minute_1_ok (157, .invokevirtual 255, 3) (List.mem_of_getElem? (i := 27) rfl)) (y_of hT hz hp h0 (by omega) (fun zv268 ze269 => ?_))
          show ww l D tys A X fr lo mX11_minute Q 160 [(8, .int zv262), (7, .int zv212), (6, .int zv1), (0, .ref (ad 50)), (1, .int sl9), (2, .int sp), (3, .int p), (5, .int fe)] [.int zv268, .int zv264, .int zv262] h
          rw [show zv266.toInt.toNat = 1 by omega] at ze269
          refine w_callS (own := 16) (mi := 199) [.int zv262, .int zv264, .int zv268] [] [(0, .int zv262), (1, .int zv264), (2, .int zv268)] rfl (cllw_X11 (207, 1, 199) (List.mem_of_getElem? (i := 2) rfl)) rfl rfl (by omega) (w_lo (n := 22) rfl (by omega)) (Nat.le_of_ble_eq_true rfl) (Nat.le_of_ble_eq_true rfl) rfl (tX11_minute_1_ok (160, .invokestatic 207, 3) (List.mem_of_getElem? (i := 28) rfl)) (r_isIn (fun zv270 ze271 => ?_))
          show ww l D tys A X fr lo mX11_minute Q 163 [(8, .int zv262), (7, .int zv212), (6, .int zv1), (0, .ref (ad 50)), (1, .int sl9), (2, .int sp), (3, .int p), (5, .int fe)] [.int zv270] h
          refine w_if_eq (tgt := 198) (tX11_minute_1_ok (163, .ifCond .eq 35, 3) (List.mem_of_getElem? (i := 29) rfl)) rfl (fun zb272 => ?_) (fun zb272 => ?_)
          · refine w_iinc (fun zv273 => [(3, .int zv273), (8, .int zv262), (7, .int zv212), (6, .int zv1), (0, .ref (ad 50)), (1, .int sl9), (2, .int sp), (5, .int fe)]) (fun _ => rfl) (List.Mem.tail _ (List.Mem.tail _ (List.Mem.tail _ (List.Mem.tail _ (List.Mem.tail _ (List.Mem.tail _ (List.Mem.head _))))))) (Nat.le_of_ble_eq_true rfl) (by decide) (by omega) (by omega) (tX11_minute_1_ok (198, .iinc 3 1, 3) (List.mem_of_getElem? (i := 49) rfl)) (fun zv273 ze274 => ?_)
            refine w_goto (tgt := 4) (tX11_minute_1_ok (201, .goto (-197), 3) (List.mem_of_getElem? (i := 50) rfl)) rfl ?_
            have fz := f_st_2 (ρ := ρ) p.toInt.toNat
            have fe0 : ¬ fe.toInt = 0 → fb = true := by
              intro z
              rcases hfe with ⟨c, -⟩ | ⟨-, c⟩
              · exact absurd c z
              · exact c
            have fe1 : fe.toInt = 0 → fb = false := by
              intro z
              rcases hfe with ⟨-, c⟩ | ⟨c, -⟩
              · exact c
              · omega
            have st9 : f_st ρ p.toInt.toNat = 1 := if_neg (by omega)
            have en := m_dn (ρ := ρ) (b := b) (p := p.toInt.toNat) (x := (T p.toInt.toNat).toInt) (fe := fb) (Or.inl (fe0 (by omega))) (by omega) (by omega)
            rw [if_neg (by omega)] at en
            have e0 : m_0 ρ b p.toInt.toNat fb T d sp.toInt = (T, d, sp.toInt) := if_pos en
            refine w_lv [(2, .int sp), (3, .int zv273), (0, .ref (ad 50)), (1, .int sl9)] (by intro q hq; simp only [List.mem_cons, List.not_mem_nil, or_false] at hq ⊢; rcases hq with e | e | e | e <;> subst e <;> simp) ?_
            exact kk h I _ _ (by omega) (by rw [e0]) (fun q hq => by rw [e0]; exact hXT q hq) (fun k _ => rfl) (fun _ _ => rfl) hz zf.rf
          · refine w_iload (List.Mem.tail _ (List.Mem.tail _ (List.Mem.head _))) (tX11_minute_1_ok (166, .iload 6, 2) (List.mem_of_getElem? (i := 30) rfl)) ?_
            refine w_if_ne (tgt := 174) (tX11_minute_1_ok (168, .ifCond .ne 6, 3) (List.mem_of_getElem? (i := 31) rfl)) rfl (fun zb275 => ?_) (fun zb275 => ?_)
            · refine w_aload_n (List.Mem.tail _ (List.Mem.tail _ (List.Mem.tail _ (List.Mem.head _)))) (tX11_minute_1_ok (174, .aload_n 0, 1) (List.mem_of_getElem? (i := 33) rfl)) ?_
              refine z_getR (L1 := 56) (own := 16) (k := 22) hz rfl rfl rfl rfl rfl rfl rfl (by decide) (tX11_minute_1_ok (175, .getfield 45, 3) (List.mem_of_getElem? (i := 34) rfl)) ?_
              refine w_iload_n (List.Mem.tail _ (List.Mem.tail _ (List.Mem.tail _ (List.Mem.tail _ (List.Mem.tail _ (List.Mem.tail _ (List.Mem.head _))))))) (tX11_minute_1_ok (178, .iload_n 3, 1) (List.mem_of_getElem? (i := 35) rfl)) ?_
              refine w_iload (List.Mem.head _) (tX11_minute_1_ok (179, .iload 8, 2) (List.mem_of_getElem? (i := 36) rfl)) ?_
              refine z_iast (f := (I 56)) hT hz rfl rfl rfl (by omega) (by omega) (tX11_minute_1_ok (181, .iastore, 1) (List.mem_of_getElem? (i := 37) rfl)) (fun zh276 zI277 zq278 zz279 zf280 => ?_)
              refine w_aload_n (List.Mem.tail _ (List.Mem.tail _ (List.Mem.tail _ (List.Mem.head _)))) (tX11_minute_1_ok (182, .aload_n 0, 1) (List.mem_of_getElem? (i := 38) rfl)) ?_
              refine z_getR (L1 := 56) (own := 16) (k := 22) zz279 rfl rfl rfl rfl rfl rfl rfl (by decide) (tX11_minute_1_ok (183, .getfield 45, 3) (List.mem_of_getElem? (i := 39) rfl)) ?_
              refine w_bipush (by decide) (tX11_minute_1_ok (186, .bipush 6, 2) (List.mem_of_getElem? (i := 40) rfl)) (fun zv281 ze282 => ?_)
              refine w_iload_n (List.Mem.tail _ (List.Mem.tail _ (List.Mem.tail _ (List.Mem.tail _ (List.Mem.tail _ (List.Mem.tail _ (List.Mem.head _))))))) (tX11_minute_1_ok (188, .iload_n 3, 1) (List.mem_of_getElem? (i := 41) rfl)) ?_
              refine w_iadd (by omega) (by omega) (tX11_minute_1_ok (189, .iadd, 1) (List.mem_of_getElem? (i := 42) rfl)) (fun zv283 ze284 => ?_)
              refine tt_dup2 rfl rfl (tX11_minute_1_ok (190, .dup2, 1) (List.mem_of_getElem? (i := 43) rfl)) ?_
              show ww l D tys A X fr lo mX11_minute Q 191 [(8, .int zv262), (7, .int zv212), (6, .int zv1), (0, .ref (ad 50)), (1, .int sl9), (2, .int sp), (3, .int p), (5, .int fe)] [.int zv283, .ref (ad 56), .int zv283, .ref (ad 56)] zh276
              refine z_iald (f := (upd (I 56) p.toInt.toNat zv262)) hT zz279 rfl rfl ((congrFun zq278 56).trans (s2_s _ _ _)) (by omega) (by omega) (tX11_minute_1_ok (191, .iaload, 1) (List.mem_of_getElem? (i := 44) rfl)) (fun zv285 zu286 => ?_)
              have ze287 : zv285.toInt = ((upd (I 56) p.toInt.toNat zv262) zv283.toInt.toNat).toInt := congrArg _ zu286
              refine w_iconst (by decide) (tX11_minute_1_ok (192, .iconst 1, 1) (List.mem_of_getElem? (i := 45) rfl)) (fun zv288 ze289 => ?_)
              refine w_addE (tX11_minute_1_ok (193, .iadd, 1) (List.mem_of_getElem? (i := 46) rfl)) (fun zv290 ze291 => ?_)
              refine z_iast (f := (upd (I 56) p.toInt.toNat zv262)) hT zz279 rfl rfl ((congrFun zq278 56).trans (s2_s _ _ _)) (by omega) (by omega) (tX11_minute_1_ok (194, .iastore, 1) (List.mem_of_getElem? (i := 47) rfl)) (fun zh292 zI293 zq294 zz295 zf296 => ?_)
              refine w_iinc (fun zv297 => [(2, .int zv297), (8, .int zv262), (7, .int zv212), (6, .int zv1), (0, .ref (ad 50)), (1, .int sl9), (3, .int p), (5, .int fe)]) (fun _ => rfl) (List.Mem.tail _ (List.Mem.tail _ (List.Mem.tail _ (List.Mem.tail _ (List.Mem.tail _ (List.Mem.head _)))))) (Nat.le_of_ble_eq_true rfl) (by decide) (by omega) (by omega) (tX11_minute_1_ok (195, .iinc 2 1, 3) (List.mem_of_getElem? (i := 48) rfl)) (fun zv297 ze298 => ?_)
              refine w_iinc (fun zv299 => [(3, .int zv299), (2, .int zv297), (8, .int zv262), (7, .int zv212), (6, .int zv1), (0, .ref (ad 50)), (1, .int sl9), (5, .int fe)]) (fun _ => rfl) (List.Mem.tail _ (List.Mem.tail _ (List.Mem.tail _ (List.Mem.tail _ (List.Mem.tail _ (List.Mem.tail _ (List.Mem.head _))))))) (Nat.le_of_ble_eq_true rfl) (by decide) (by omega) (by omega) (tX11_minute_1_ok (198, .iinc 3 1, 3) (List.mem_of_getElem? (i := 49) rfl)) (fun zv299 ze300 => ?_)
              refine w_goto (tgt := 4) (tX11_minute_1_ok (201, .goto (-197), 3) (List.mem_of_getElem? (i := 50) rfl)) rfl ?_
              have fz := f_st_2 (ρ := ρ) p.toInt.toNat
              have fe0 : ¬ fe.toInt = 0 → fb = true := by
                intro z
                rcases hfe with ⟨c, -⟩ | ⟨-, c⟩
                · exact absurd c z
                · exact c
              have fe1 : fe.toInt = 0 → fb = false := by
                intro z
                rcases hfe with ⟨-, c⟩ | ⟨c, -⟩
                · exact c
                · omega
              have st9 : f_st ρ p.toInt.toNat = 1 := if_neg (by omega)
              have en := m_dn (ρ := ρ) (b := b) (p := p.toInt.toNat) (x := (T p.toInt.toNat).toInt) (fe := fb) (Or.inl (fe0 (by omega))) (by omega) (by omega)
              rw [if_pos (by omega)] at en
              have e8 : m_nx ρ b p.toInt.toNat (T p.toInt.toNat).toInt fb = zv262.toInt := by omega
              have e0 : m_0 ρ b p.toInt.toNat fb T d sp.toInt = (upd (upd T p.toInt.toNat (Int32.ofInt (m_nx ρ b p.toInt.toNat (T p.toInt.toNat).toInt fb))) (6 + p.toInt.toNat) (T (6 + p.toInt.toNat) + 1), d, sp.toInt + 1) := if_neg (by omega)
              rw [e8] at e0
              have ei : Int32.ofInt zv262.toInt = zv262 := (kn_eq _ _).mpr (ofInt_b (by omega))
              rw [ei] at e0
              have ti : zv283.toInt.toNat = 6 + p.toInt.toNat := by omega
              have ev : zv290 = T (6 + p.toInt.toNat) + 1 := by
                rw [ze291, zu286, ti, upd_n _ _ (by omega), (hXT _ hp9).2, show zv288 = 1 from (kn_eq _ _).mpr (by rw [ze289]; rfl)]
              have c2 := ((congrFun zq294 56).trans (s2_s _ _ _))
              rw [ti, ev] at c2
              refine w_lv [(2, .int zv297), (3, .int zv299), (0, .ref (ad 50)), (1, .int sl9)] (by intro q hq; simp only [List.mem_cons, List.not_mem_nil, or_false] at hq ⊢; rcases hq with e | e | e | e <;> subst e <;> simp) ?_
              refine kk zh292 zI293 _ _ (by omega) (by rw [e0]; show _ = sp.toInt + 1; omega) (fun q hq => ?_) (fun k hk => ?_) (fun L9 n1 => ?_) zz295 (zf280.tr zf296)
              · rw [e0, c2]
                by_cases c9 : q = p.toInt.toNat
                · subst c9
                  refine ⟨?_, ?_⟩
                  · show upd (upd _ p.toInt.toNat zv262) (6 + p.toInt.toNat) _ p.toInt.toNat = upd (upd T p.toInt.toNat zv262) (6 + p.toInt.toNat) _ p.toInt.toNat
                    rw [upd_n _ _ (by omega), upd_s, upd_n _ _ (by omega), upd_s]
                  · show upd (upd _ p.toInt.toNat zv262) (6 + p.toInt.toNat) _ (6 + p.toInt.toNat) = upd (upd T p.toInt.toNat zv262) (6 + p.toInt.toNat) _ (6 + p.toInt.toNat)
                    rw [upd_s, upd_s]
                · refine ⟨?_, ?_⟩
                  · show upd (upd _ p.toInt.toNat zv262) (6 + p.toInt.toNat) _ q = upd (upd T p.toInt.toNat zv262) (6 + p.toInt.toNat) _ q
                    rw [upd_n _ _ (by omega), upd_n _ _ c9, upd_n _ _ (by omega), upd_n _ _ c9]
                    exact (hXT q hq).1
                  · show upd (upd _ p.toInt.toNat zv262) (6 + p.toInt.toNat) _ (6 + q) = upd (upd T p.toInt.toNat zv262) (6 + p.toInt.toNat) _ (6 + q)
                    rw [upd_n _ _ (by omega), upd_n _ _ (by omega), upd_n _ _ (by omega), upd_n _ _ (by omega)]
                    exact (hXT q hq).2
              · rw [c2, upd_n _ _ (by omega), upd_n _ _ (by omega)]
              · rw [zq294, s2_n n1, zq278, s2_n n1]
            · refine w_goto (tgt := 198) (tX11_minute_1_ok (171, .goto 27, 3) (List.mem_of_getElem? (i := 32) rfl)) rfl ?_
              refine w_iinc (fun zv301 => [(3, .int zv301), (8, .int zv262), (7, .int zv212), (6, .int zv1), (0, .ref (ad 50)), (1, .int sl9), (2, .int sp), (5, .int fe)]) (fun _ => rfl) (List.Mem.tail _ (List.Mem.tail _ (List.Mem.tail _ (List.Mem.tail _ (List.Mem.tail _ (List.Mem.tail _ (List.Mem.head _))))))) (Nat.le_of_ble_eq_true rfl) (by decide) (by omega) (by omega) (tX11_minute_1_ok (198, .iinc 3 1, 3) (List.mem_of_getElem? (i := 49) rfl)) (fun zv301 ze302 => ?_)
              refine w_goto (tgt := 4) (tX11_minute_1_ok (201, .goto (-197), 3) (List.mem_of_getElem? (i := 50) rfl)) rfl ?_
              have fz := f_st_2 (ρ := ρ) p.toInt.toNat
              have fe0 : ¬ fe.toInt = 0 → fb = true := by
                intro z
                rcases hfe with ⟨c, -⟩ | ⟨-, c⟩
                · exact absurd c z
                · exact c
              have fe1 : fe.toInt = 0 → fb = false := by
                intro z
                rcases hfe with ⟨-, c⟩ | ⟨c, -⟩
                · exact c
                · omega
              have st9 : f_st ρ p.toInt.toNat = 1 := if_neg (by omega)
              have en := m_dn (ρ := ρ) (b := b) (p := p.toInt.toNat) (x := (T p.toInt.toNat).toInt) (fe := fb) (Or.inl (fe0 (by omega))) (by omega) (by omega)
              rw [if_neg (by omega)] at en
              have e0 : m_0 ρ b p.toInt.toNat fb T d sp.toInt = (T, d, sp.toInt) := if_pos en
              refine w_lv [(2, .int sp), (3, .int zv301), (0, .ref (ad 50)), (1, .int sl9)] (by intro q hq; simp only [List.mem_cons, List.not_mem_nil, or_false] at hq ⊢; rcases hq with e | e | e | e <;> subst e <;> simp) ?_
              exact kk h I _ _ (by omega) (by rw [e0]) (fun q hq => by rw [e0]; exact hXT q hq) (fun k _ => rfl) (fun _ _ => rfl) hz zf.rf
      · refine w_iconst (by decide) (tX11_minute_1_ok (116, .iconst 2, 1) (List.mem_of_getElem? (i := 2) rfl)) (fun zv303 ze304 => ?_)
        refine w_goto (tgt := 121) (tX11_minute_1_ok (117, .goto 4, 3) (List.mem_of_getElem? (i := 3) rfl)) rfl ?_
        refine w_istore [(7, .int zv303), (6, .int zv1), (0, .ref (ad 50)), (1, .int sl9), (2, .int sp), (3, .int p), (5, .int fe)] rfl (Nat.le_of_ble_eq_true rfl) (tX11_minute_1_ok (121, .istore 7, 2) (List.mem_of_getElem? (i := 5) rfl)) ?_
        refine w_iload (List.Mem.tail _ (List.Mem.head _)) (tX11_minute_1_ok (123, .iload 6, 2) (List.mem_of_getElem? (i := 6) rfl)) ?_
        refine w_if_le (tgt := 140) (tX11_minute_1_ok (125, .ifCond .le 15, 3) (List.mem_of_getElem? (i := 7) rfl)) rfl (fun zb305 => ?_) (fun zb305 => ?_)
        · refine w_aload_n (List.Mem.tail _ (List.Mem.tail _ (List.Mem.head _))) (tX11_minute_1_ok (140, .aload_n 0, 1) (List.mem_of_getElem? (i := 15) rfl)) ?_
          refine z_getR (L1 := 56) (own := 16) (k := 22) hz rfl rfl rfl rfl rfl rfl rfl (by decide) (tX11_minute_1_ok (141, .getfield 45, 3) (List.mem_of_getElem? (i := 16) rfl)) ?_
          refine w_iload_n (List.Mem.tail _ (List.Mem.tail _ (List.Mem.tail _ (List.Mem.tail _ (List.Mem.tail _ (List.Mem.head _)))))) (tX11_minute_1_ok (144, .iload_n 3, 1) (List.mem_of_getElem? (i := 17) rfl)) ?_
          refine z_iald (f := (I 56)) hT hz rfl rfl rfl (by omega) (by omega) (tX11_minute_1_ok (145, .iaload, 1) (List.mem_of_getElem? (i := 18) rfl)) (fun zv306 zu307 => ?_)
          have ze308 : zv306.toInt = ((I 56) p.toInt.toNat).toInt := congrArg _ zu307
          have yzv306 := (hXT _ hp9).1
          rw [← zu307] at yzv306
          have wzv306 : zv306.toInt = (T p.toInt.toNat).toInt := by rw [yzv306]
          refine w_iload (List.Mem.head _) (tX11_minute_1_ok (146, .iload 7, 2) (List.mem_of_getElem? (i := 19) rfl)) ?_
          refine w_iadd (by omega) (by omega) (tX11_minute_1_ok (148, .iadd, 1) (List.mem_of_getElem? (i := 20) rfl)) (fun zv309 ze310 => ?_)
          refine w_istore [(8, .int zv309), (7, .int zv303), (6, .int zv1), (0, .ref (ad 50)), (1, .int sl9), (2, .int sp), (3, .int p), (5, .int fe)] rfl (Nat.le_of_ble_eq_true rfl) (tX11_minute_1_ok (149, .istore 8, 2) (List.mem_of_getElem? (i := 21) rfl)) ?_
          refine w_iload (List.Mem.head _) (tX11_minute_1_ok (151, .iload 8, 2) (List.mem_of_getElem? (i := 22) rfl)) ?_
          refine w_iconst (by decide) (tX11_minute_1_ok (153, .iconst 0, 1) (List.mem_of_getElem? (i := 23) rfl)) (fun zv311 ze312 => ?_)
          refine w_aload_n (List.Mem.tail _ (List.Mem.tail _ (List.Mem.tail _ (List.Mem.head _)))) (tX11_minute_1_ok (154, .aload_n 0, 1) (List.mem_of_getElem? (i := 24) rfl)) ?_
          refine w_iload_n (List.Mem.tail _ (List.Mem.tail _ (List.Mem.tail _ (List.Mem.tail _ (List.Mem.tail _ (List.Mem.tail _ (List.Mem.head _))))))) (tX11_minute_1_ok (155, .iload_n 3, 1) (List.mem_of_getElem? (i := 25) rfl)) ?_
          refine w_iconst (by decide) (tX11_minute_1_ok (156, .iconst 1, 1) (List.mem_of_getElem? (i := 26) rfl)) (fun zv313 ze314 => ?_)
          refine w_callV (own := 16) (mi := 219) [.int p, .int zv313] [.int zv311, .int zv309] [(0, .ref (ad 50)), (1, .int p), (2, .int zv313)] rfl (cllw_X11 (255, 0, 219) (List.mem_of_getElem? (i := 34) rfl)) rfl rfl (hz.ob rfl rfl) rfl (by omega) (w_lo (n := 22) rfl (by omega)) (Nat.le_of_ble_eq_true rfl) (Nat.le_of_ble_eq_true rfl) rfl (tX11_minute_1_ok (157, .invokevirtual 255, 3) (List.mem_of_getElem? (i := 27) rfl)) (y_of hT hz hp h0 (by omega) (fun zv315 ze316 => ?_))
          show ww l D tys A X fr lo mX11_minute Q 160 [(8, .int zv309), (7, .int zv303), (6, .int zv1), (0, .ref (ad 50)), (1, .int sl9), (2, .int sp), (3, .int p), (5, .int fe)] [.int zv315, .int zv311, .int zv309] h
          rw [show zv313.toInt.toNat = 1 by omega] at ze316
          refine w_callS (own := 16) (mi := 199) [.int zv309, .int zv311, .int zv315] [] [(0, .int zv309), (1, .int zv311), (2, .int zv315)] rfl (cllw_X11 (207, 1, 199) (List.mem_of_getElem? (i := 2) rfl)) rfl rfl (by omega) (w_lo (n := 22) rfl (by omega)) (Nat.le_of_ble_eq_true rfl) (Nat.le_of_ble_eq_true rfl) rfl (tX11_minute_1_ok (160, .invokestatic 207, 3) (List.mem_of_getElem? (i := 28) rfl)) (r_isIn (fun zv317 ze318 => ?_))
          show ww l D tys A X fr lo mX11_minute Q 163 [(8, .int zv309), (7, .int zv303), (6, .int zv1), (0, .ref (ad 50)), (1, .int sl9), (2, .int sp), (3, .int p), (5, .int fe)] [.int zv317] h
          refine w_if_eq (tgt := 198) (tX11_minute_1_ok (163, .ifCond .eq 35, 3) (List.mem_of_getElem? (i := 29) rfl)) rfl (fun zb319 => ?_) (fun zb319 => ?_)
          · refine w_iinc (fun zv320 => [(3, .int zv320), (8, .int zv309), (7, .int zv303), (6, .int zv1), (0, .ref (ad 50)), (1, .int sl9), (2, .int sp), (5, .int fe)]) (fun _ => rfl) (List.Mem.tail _ (List.Mem.tail _ (List.Mem.tail _ (List.Mem.tail _ (List.Mem.tail _ (List.Mem.tail _ (List.Mem.head _))))))) (Nat.le_of_ble_eq_true rfl) (by decide) (by omega) (by omega) (tX11_minute_1_ok (198, .iinc 3 1, 3) (List.mem_of_getElem? (i := 49) rfl)) (fun zv320 ze321 => ?_)
            refine w_goto (tgt := 4) (tX11_minute_1_ok (201, .goto (-197), 3) (List.mem_of_getElem? (i := 50) rfl)) rfl ?_
            have fz := f_st_2 (ρ := ρ) p.toInt.toNat
            have fe0 : ¬ fe.toInt = 0 → fb = true := by
              intro z
              rcases hfe with ⟨c, -⟩ | ⟨-, c⟩
              · exact absurd c z
              · exact c
            have fe1 : fe.toInt = 0 → fb = false := by
              intro z
              rcases hfe with ⟨-, c⟩ | ⟨c, -⟩
              · exact c
              · omega
            have st9 : f_st ρ p.toInt.toNat = 2 := if_pos (by omega)
            have en : m_nx ρ b p.toInt.toNat (T p.toInt.toNat).toInt fb = (T p.toInt.toNat).toInt := by
              by_cases c0 : m_pu ρ b p.toInt.toNat (T p.toInt.toNat).toInt = 0
              · exact m_st0 (ρ := ρ) (Or.inr c0)
              · rw [m_up (Or.inl (fe0 (by omega))) (by omega) (by omega), if_neg (by omega)]
            have e0 : m_0 ρ b p.toInt.toNat fb T d sp.toInt = (T, d, sp.toInt) := if_pos en
            refine w_lv [(2, .int sp), (3, .int zv320), (0, .ref (ad 50)), (1, .int sl9)] (by intro q hq; simp only [List.mem_cons, List.not_mem_nil, or_false] at hq ⊢; rcases hq with e | e | e | e <;> subst e <;> simp) ?_
            exact kk h I _ _ (by omega) (by rw [e0]) (fun q hq => by rw [e0]; exact hXT q hq) (fun k _ => rfl) (fun _ _ => rfl) hz zf.rf
          · refine w_iload (List.Mem.tail _ (List.Mem.tail _ (List.Mem.head _))) (tX11_minute_1_ok (166, .iload 6, 2) (List.mem_of_getElem? (i := 30) rfl)) ?_
            refine w_if_ne (tgt := 174) (tX11_minute_1_ok (168, .ifCond .ne 6, 3) (List.mem_of_getElem? (i := 31) rfl)) rfl (fun zb322 => ?_) (fun zb322 => ?_)
            · refine w_aload_n (List.Mem.tail _ (List.Mem.tail _ (List.Mem.tail _ (List.Mem.head _)))) (tX11_minute_1_ok (174, .aload_n 0, 1) (List.mem_of_getElem? (i := 33) rfl)) ?_
              refine z_getR (L1 := 56) (own := 16) (k := 22) hz rfl rfl rfl rfl rfl rfl rfl (by decide) (tX11_minute_1_ok (175, .getfield 45, 3) (List.mem_of_getElem? (i := 34) rfl)) ?_
              refine w_iload_n (List.Mem.tail _ (List.Mem.tail _ (List.Mem.tail _ (List.Mem.tail _ (List.Mem.tail _ (List.Mem.tail _ (List.Mem.head _))))))) (tX11_minute_1_ok (178, .iload_n 3, 1) (List.mem_of_getElem? (i := 35) rfl)) ?_
              refine w_iload (List.Mem.head _) (tX11_minute_1_ok (179, .iload 8, 2) (List.mem_of_getElem? (i := 36) rfl)) ?_
              refine z_iast (f := (I 56)) hT hz rfl rfl rfl (by omega) (by omega) (tX11_minute_1_ok (181, .iastore, 1) (List.mem_of_getElem? (i := 37) rfl)) (fun zh323 zI324 zq325 zz326 zf327 => ?_)
              refine w_aload_n (List.Mem.tail _ (List.Mem.tail _ (List.Mem.tail _ (List.Mem.head _)))) (tX11_minute_1_ok (182, .aload_n 0, 1) (List.mem_of_getElem? (i := 38) rfl)) ?_
              refine z_getR (L1 := 56) (own := 16) (k := 22) zz326 rfl rfl rfl rfl rfl rfl rfl (by decide) (tX11_minute_1_ok (183, .getfield 45, 3) (List.mem_of_getElem? (i := 39) rfl)) ?_
              refine w_bipush (by decide) (tX11_minute_1_ok (186, .bipush 6, 2) (List.mem_of_getElem? (i := 40) rfl)) (fun zv328 ze329 => ?_)
              refine w_iload_n (List.Mem.tail _ (List.Mem.tail _ (List.Mem.tail _ (List.Mem.tail _ (List.Mem.tail _ (List.Mem.tail _ (List.Mem.head _))))))) (tX11_minute_1_ok (188, .iload_n 3, 1) (List.mem_of_getElem? (i := 41) rfl)) ?_
              refine w_iadd (by omega) (by omega) (tX11_minute_1_ok (189, .iadd, 1) (List.mem_of_getElem? (i := 42) rfl)) (fun zv330 ze331 => ?_)
              refine tt_dup2 rfl rfl (tX11_minute_1_ok (190, .dup2, 1) (List.mem_of_getElem? (i := 43) rfl)) ?_
              show ww l D tys A X fr lo mX11_minute Q 191 [(8, .int zv309), (7, .int zv303), (6, .int zv1), (0, .ref (ad 50)), (1, .int sl9), (2, .int sp), (3, .int p), (5, .int fe)] [.int zv330, .ref (ad 56), .int zv330, .ref (ad 56)] zh323
              refine z_iald (f := (upd (I 56) p.toInt.toNat zv309)) hT zz326 rfl rfl ((congrFun zq325 56).trans (s2_s _ _ _)) (by omega) (by omega) (tX11_minute_1_ok (191, .iaload, 1) (List.mem_of_getElem? (i := 44) rfl)) (fun zv332 zu333 => ?_)
              have ze334 : zv332.toInt = ((upd (I 56) p.toInt.toNat zv309) zv330.toInt.toNat).toInt := congrArg _ zu333
              refine w_iconst (by decide) (tX11_minute_1_ok (192, .iconst 1, 1) (List.mem_of_getElem? (i := 45) rfl)) (fun zv335 ze336 => ?_)
              refine w_addE (tX11_minute_1_ok (193, .iadd, 1) (List.mem_of_getElem? (i := 46) rfl)) (fun zv337 ze338 => ?_)
              refine z_iast (f := (upd (I 56) p.toInt.toNat zv309)) hT zz326 rfl rfl ((congrFun zq325 56).trans (s2_s _ _ _)) (by omega) (by omega) (tX11_minute_1_ok (194, .iastore, 1) (List.mem_of_getElem? (i := 47) rfl)) (fun zh339 zI340 zq341 zz342 zf343 => ?_)
              refine w_iinc (fun zv344 => [(2, .int zv344), (8, .int zv309), (7, .int zv303), (6, .int zv1), (0, .ref (ad 50)), (1, .int sl9), (3, .int p), (5, .int fe)]) (fun _ => rfl) (List.Mem.tail _ (List.Mem.tail _ (List.Mem.tail _ (List.Mem.tail _ (List.Mem.tail _ (List.Mem.head _)))))) (Nat.le_of_ble_eq_true rfl) (by decide) (by omega) (by omega) (tX11_minute_1_ok (195, .iinc 2 1, 3) (List.mem_of_getElem? (i := 48) rfl)) (fun zv344 ze345 => ?_)
              refine w_iinc (fun zv346 => [(3, .int zv346), (2, .int zv344), (8, .int zv309), (7, .int zv303), (6, .int zv1), (0, .ref (ad 50)), (1, .int sl9), (5, .int fe)]) (fun _ => rfl) (List.Mem.tail _ (List.Mem.tail _ (List.Mem.tail _ (List.Mem.tail _ (List.Mem.tail _ (List.Mem.tail _ (List.Mem.head _))))))) (Nat.le_of_ble_eq_true rfl) (by decide) (by omega) (by omega) (tX11_minute_1_ok (198, .iinc 3 1, 3) (List.mem_of_getElem? (i := 49) rfl)) (fun zv346 ze347 => ?_)
              refine w_goto (tgt := 4) (tX11_minute_1_ok (201, .goto (-197), 3) (List.mem_of_getElem? (i := 50) rfl)) rfl ?_
              have fz := f_st_2 (ρ := ρ) p.toInt.toNat
              have fe0 : ¬ fe.toInt = 0 → fb = true := by
                intro z
                rcases hfe with ⟨c, -⟩ | ⟨-, c⟩
                · exact absurd c z
                · exact c
              have fe1 : fe.toInt = 0 → fb = false := by
                intro z
                rcases hfe with ⟨-, c⟩ | ⟨c, -⟩
                · exact c
                · omega
              have st9 : f_st ρ p.toInt.toNat = 2 := if_pos (by omega)
              have en : m_nx ρ b p.toInt.toNat (T p.toInt.toNat).toInt fb = if (T p.toInt.toNat).toInt + f_st ρ p.toInt.toNat ≤ ρ p.toInt.toNat 1 then (T p.toInt.toNat).toInt + f_st ρ p.toInt.toNat else (T p.toInt.toNat).toInt := by
                by_cases c0 : m_pu ρ b p.toInt.toNat (T p.toInt.toNat).toInt = 0
                · exfalso; omega
                · exact m_up (Or.inl (fe0 (by omega))) (by omega) (by omega)
              rw [if_pos (by omega)] at en
              have e8 : m_nx ρ b p.toInt.toNat (T p.toInt.toNat).toInt fb = zv309.toInt := by omega
              have e0 : m_0 ρ b p.toInt.toNat fb T d sp.toInt = (upd (upd T p.toInt.toNat (Int32.ofInt (m_nx ρ b p.toInt.toNat (T p.toInt.toNat).toInt fb))) (6 + p.toInt.toNat) (T (6 + p.toInt.toNat) + 1), d, sp.toInt + 1) := if_neg (by omega)
              rw [e8] at e0
              have ei : Int32.ofInt zv309.toInt = zv309 := (kn_eq _ _).mpr (ofInt_b (by omega))
              rw [ei] at e0
              have ti : zv330.toInt.toNat = 6 + p.toInt.toNat := by omega
              have ev : zv337 = T (6 + p.toInt.toNat) + 1 := by
                rw [ze338, zu333, ti, upd_n _ _ (by omega), (hXT _ hp9).2, show zv335 = 1 from (kn_eq _ _).mpr (by rw [ze336]; rfl)]
              have c2 := ((congrFun zq341 56).trans (s2_s _ _ _))
              rw [ti, ev] at c2
              refine w_lv [(2, .int zv344), (3, .int zv346), (0, .ref (ad 50)), (1, .int sl9)] (by intro q hq; simp only [List.mem_cons, List.not_mem_nil, or_false] at hq ⊢; rcases hq with e | e | e | e <;> subst e <;> simp) ?_
              refine kk zh339 zI340 _ _ (by omega) (by rw [e0]; show _ = sp.toInt + 1; omega) (fun q hq => ?_) (fun k hk => ?_) (fun L9 n1 => ?_) zz342 (zf327.tr zf343)
              · rw [e0, c2]
                by_cases c9 : q = p.toInt.toNat
                · subst c9
                  refine ⟨?_, ?_⟩
                  · show upd (upd _ p.toInt.toNat zv309) (6 + p.toInt.toNat) _ p.toInt.toNat = upd (upd T p.toInt.toNat zv309) (6 + p.toInt.toNat) _ p.toInt.toNat
                    rw [upd_n _ _ (by omega), upd_s, upd_n _ _ (by omega), upd_s]
                  · show upd (upd _ p.toInt.toNat zv309) (6 + p.toInt.toNat) _ (6 + p.toInt.toNat) = upd (upd T p.toInt.toNat zv309) (6 + p.toInt.toNat) _ (6 + p.toInt.toNat)
                    rw [upd_s, upd_s]
                · refine ⟨?_, ?_⟩
                  · show upd (upd _ p.toInt.toNat zv309) (6 + p.toInt.toNat) _ q = upd (upd T p.toInt.toNat zv309) (6 + p.toInt.toNat) _ q
                    rw [upd_n _ _ (by omega), upd_n _ _ c9, upd_n _ _ (by omega), upd_n _ _ c9]
                    exact (hXT q hq).1
                  · show upd (upd _ p.toInt.toNat zv309) (6 + p.toInt.toNat) _ (6 + q) = upd (upd T p.toInt.toNat zv309) (6 + p.toInt.toNat) _ (6 + q)
                    rw [upd_n _ _ (by omega), upd_n _ _ (by omega), upd_n _ _ (by omega), upd_n _ _ (by omega)]
                    exact (hXT q hq).2
              · rw [c2, upd_n _ _ (by omega), upd_n _ _ (by omega)]
              · rw [zq341, s2_n n1, zq325, s2_n n1]
            · refine w_goto (tgt := 198) (tX11_minute_1_ok (171, .goto 27, 3) (List.mem_of_getElem? (i := 32) rfl)) rfl ?_
              refine w_iinc (fun zv348 => [(3, .int zv348), (8, .int zv309), (7, .int zv303), (6, .int zv1), (0, .ref (ad 50)), (1, .int sl9), (2, .int sp), (5, .int fe)]) (fun _ => rfl) (List.Mem.tail _ (List.Mem.tail _ (List.Mem.tail _ (List.Mem.tail _ (List.Mem.tail _ (List.Mem.tail _ (List.Mem.head _))))))) (Nat.le_of_ble_eq_true rfl) (by decide) (by omega) (by omega) (tX11_minute_1_ok (198, .iinc 3 1, 3) (List.mem_of_getElem? (i := 49) rfl)) (fun zv348 ze349 => ?_)
              refine w_goto (tgt := 4) (tX11_minute_1_ok (201, .goto (-197), 3) (List.mem_of_getElem? (i := 50) rfl)) rfl ?_
              have fz := f_st_2 (ρ := ρ) p.toInt.toNat
              have fe0 : ¬ fe.toInt = 0 → fb = true := by
                intro z
                rcases hfe with ⟨c, -⟩ | ⟨-, c⟩
                · exact absurd c z
                · exact c
              have fe1 : fe.toInt = 0 → fb = false := by
                intro z
                rcases hfe with ⟨-, c⟩ | ⟨c, -⟩
                · exact c
                · omega
              have en := m_st0 (ρ := ρ) (b := b) (p := p.toInt.toNat) (x := (T p.toInt.toNat).toInt) (fe := fb) (Or.inr (by omega))
              have e0 : m_0 ρ b p.toInt.toNat fb T d sp.toInt = (T, d, sp.toInt) := if_pos en
              refine w_lv [(2, .int sp), (3, .int zv348), (0, .ref (ad 50)), (1, .int sl9)] (by intro q hq; simp only [List.mem_cons, List.not_mem_nil, or_false] at hq ⊢; rcases hq with e | e | e | e <;> subst e <;> simp) ?_
              exact kk h I _ _ (by omega) (by rw [e0]) (fun q hq => by rw [e0]; exact hXT q hq) (fun k _ => rfl) (fun _ _ => rfl) hz zf.rf
        · refine w_aload_n (List.Mem.tail _ (List.Mem.tail _ (List.Mem.head _))) (tX11_minute_1_ok (128, .aload_n 0, 1) (List.mem_of_getElem? (i := 8) rfl)) ?_
          refine z_getR (L1 := 56) (own := 16) (k := 22) hz rfl rfl rfl rfl rfl rfl rfl (by decide) (tX11_minute_1_ok (129, .getfield 45, 3) (List.mem_of_getElem? (i := 9) rfl)) ?_
          refine w_iload_n (List.Mem.tail _ (List.Mem.tail _ (List.Mem.tail _ (List.Mem.tail _ (List.Mem.tail _ (List.Mem.head _)))))) (tX11_minute_1_ok (132, .iload_n 3, 1) (List.mem_of_getElem? (i := 10) rfl)) ?_
          refine z_iald (f := (I 56)) hT hz rfl rfl rfl (by omega) (by omega) (tX11_minute_1_ok (133, .iaload, 1) (List.mem_of_getElem? (i := 11) rfl)) (fun zv350 zu351 => ?_)
          have ze352 : zv350.toInt = ((I 56) p.toInt.toNat).toInt := congrArg _ zu351
          have yzv350 := (hXT _ hp9).1
          rw [← zu351] at yzv350
          have wzv350 : zv350.toInt = (T p.toInt.toNat).toInt := by rw [yzv350]
          refine w_iload (List.Mem.head _) (tX11_minute_1_ok (134, .iload 7, 2) (List.mem_of_getElem? (i := 12) rfl)) ?_
          refine w_isub (by omega) (by omega) (tX11_minute_1_ok (136, .isub, 1) (List.mem_of_getElem? (i := 13) rfl)) (fun zv353 ze354 => ?_)
          refine w_goto (tgt := 149) (tX11_minute_1_ok (137, .goto 12, 3) (List.mem_of_getElem? (i := 14) rfl)) rfl ?_
          refine w_istore [(8, .int zv353), (7, .int zv303), (6, .int zv1), (0, .ref (ad 50)), (1, .int sl9), (2, .int sp), (3, .int p), (5, .int fe)] rfl (Nat.le_of_ble_eq_true rfl) (tX11_minute_1_ok (149, .istore 8, 2) (List.mem_of_getElem? (i := 21) rfl)) ?_
          refine w_iload (List.Mem.head _) (tX11_minute_1_ok (151, .iload 8, 2) (List.mem_of_getElem? (i := 22) rfl)) ?_
          refine w_iconst (by decide) (tX11_minute_1_ok (153, .iconst 0, 1) (List.mem_of_getElem? (i := 23) rfl)) (fun zv355 ze356 => ?_)
          refine w_aload_n (List.Mem.tail _ (List.Mem.tail _ (List.Mem.tail _ (List.Mem.head _)))) (tX11_minute_1_ok (154, .aload_n 0, 1) (List.mem_of_getElem? (i := 24) rfl)) ?_
          refine w_iload_n (List.Mem.tail _ (List.Mem.tail _ (List.Mem.tail _ (List.Mem.tail _ (List.Mem.tail _ (List.Mem.tail _ (List.Mem.head _))))))) (tX11_minute_1_ok (155, .iload_n 3, 1) (List.mem_of_getElem? (i := 25) rfl)) ?_
          refine w_iconst (by decide) (tX11_minute_1_ok (156, .iconst 1, 1) (List.mem_of_getElem? (i := 26) rfl)) (fun zv357 ze358 => ?_)
          refine w_callV (own := 16) (mi := 219) [.int p, .int zv357] [.int zv355, .int zv353] [(0, .ref (ad 50)), (1, .int p), (2, .int zv357)] rfl (cllw_X11 (255, 0, 219) (List.mem_of_getElem? (i := 34) rfl)) rfl rfl (hz.ob rfl rfl) rfl (by omega) (w_lo (n := 22) rfl (by omega)) (Nat.le_of_ble_eq_true rfl) (Nat.le_of_ble_eq_true rfl) rfl (tX11_minute_1_ok (157, .invokevirtual 255, 3) (List.mem_of_getElem? (i := 27) rfl)) (y_of hT hz hp h0 (by omega) (fun zv359 ze360 => ?_))
          show ww l D tys A X fr lo mX11_minute Q 160 [(8, .int zv353), (7, .int zv303), (6, .int zv1), (0, .ref (ad 50)), (1, .int sl9), (2, .int sp), (3, .int p), (5, .int fe)] [.int zv359, .int zv355, .int zv353] h
          rw [show zv357.toInt.toNat = 1 by omega] at ze360
          refine w_callS (own := 16) (mi := 199) [.int zv353, .int zv355, .int zv359] [] [(0, .int zv353), (1, .int zv355), (2, .int zv359)] rfl (cllw_X11 (207, 1, 199) (List.mem_of_getElem? (i := 2) rfl)) rfl rfl (by omega) (w_lo (n := 22) rfl (by omega)) (Nat.le_of_ble_eq_true rfl) (Nat.le_of_ble_eq_true rfl) rfl (tX11_minute_1_ok (160, .invokestatic 207, 3) (List.mem_of_getElem? (i := 28) rfl)) (r_isIn (fun zv361 ze362 => ?_))
          show ww l D tys A X fr lo mX11_minute Q 163 [(8, .int zv353), (7, .int zv303), (6, .int zv1), (0, .ref (ad 50)), (1, .int sl9), (2, .int sp), (3, .int p), (5, .int fe)] [.int zv361] h
          refine w_if_eq (tgt := 198) (tX11_minute_1_ok (163, .ifCond .eq 35, 3) (List.mem_of_getElem? (i := 29) rfl)) rfl (fun zb363 => ?_) (fun zb363 => ?_)
          · refine w_iinc (fun zv364 => [(3, .int zv364), (8, .int zv353), (7, .int zv303), (6, .int zv1), (0, .ref (ad 50)), (1, .int sl9), (2, .int sp), (5, .int fe)]) (fun _ => rfl) (List.Mem.tail _ (List.Mem.tail _ (List.Mem.tail _ (List.Mem.tail _ (List.Mem.tail _ (List.Mem.tail _ (List.Mem.head _))))))) (Nat.le_of_ble_eq_true rfl) (by decide) (by omega) (by omega) (tX11_minute_1_ok (198, .iinc 3 1, 3) (List.mem_of_getElem? (i := 49) rfl)) (fun zv364 ze365 => ?_)
            refine w_goto (tgt := 4) (tX11_minute_1_ok (201, .goto (-197), 3) (List.mem_of_getElem? (i := 50) rfl)) rfl ?_
            have fz := f_st_2 (ρ := ρ) p.toInt.toNat
            have fe0 : ¬ fe.toInt = 0 → fb = true := by
              intro z
              rcases hfe with ⟨c, -⟩ | ⟨-, c⟩
              · exact absurd c z
              · exact c
            have fe1 : fe.toInt = 0 → fb = false := by
              intro z
              rcases hfe with ⟨-, c⟩ | ⟨c, -⟩
              · exact c
              · omega
            have st9 : f_st ρ p.toInt.toNat = 2 := if_pos (by omega)
            have en := m_dn (ρ := ρ) (b := b) (p := p.toInt.toNat) (x := (T p.toInt.toNat).toInt) (fe := fb) (Or.inl (fe0 (by omega))) (by omega) (by omega)
            rw [if_neg (by omega)] at en
            have e0 : m_0 ρ b p.toInt.toNat fb T d sp.toInt = (T, d, sp.toInt) := if_pos en
            refine w_lv [(2, .int sp), (3, .int zv364), (0, .ref (ad 50)), (1, .int sl9)] (by intro q hq; simp only [List.mem_cons, List.not_mem_nil, or_false] at hq ⊢; rcases hq with e | e | e | e <;> subst e <;> simp) ?_
            exact kk h I _ _ (by omega) (by rw [e0]) (fun q hq => by rw [e0]; exact hXT q hq) (fun k _ => rfl) (fun _ _ => rfl) hz zf.rf
          · refine w_iload (List.Mem.tail _ (List.Mem.tail _ (List.Mem.head _))) (tX11_minute_1_ok (166, .iload 6, 2) (List.mem_of_getElem? (i := 30) rfl)) ?_
            refine w_if_ne (tgt := 174) (tX11_minute_1_ok (168, .ifCond .ne 6, 3) (List.mem_of_getElem? (i := 31) rfl)) rfl (fun zb366 => ?_) (fun zb366 => ?_)
            · refine w_aload_n (List.Mem.tail _ (List.Mem.tail _ (List.Mem.tail _ (List.Mem.head _)))) (tX11_minute_1_ok (174, .aload_n 0, 1) (List.mem_of_getElem? (i := 33) rfl)) ?_
              refine z_getR (L1 := 56) (own := 16) (k := 22) hz rfl rfl rfl rfl rfl rfl rfl (by decide) (tX11_minute_1_ok (175, .getfield 45, 3) (List.mem_of_getElem? (i := 34) rfl)) ?_
              refine w_iload_n (List.Mem.tail _ (List.Mem.tail _ (List.Mem.tail _ (List.Mem.tail _ (List.Mem.tail _ (List.Mem.tail _ (List.Mem.head _))))))) (tX11_minute_1_ok (178, .iload_n 3, 1) (List.mem_of_getElem? (i := 35) rfl)) ?_
              refine w_iload (List.Mem.head _) (tX11_minute_1_ok (179, .iload 8, 2) (List.mem_of_getElem? (i := 36) rfl)) ?_
              refine z_iast (f := (I 56)) hT hz rfl rfl rfl (by omega) (by omega) (tX11_minute_1_ok (181, .iastore, 1) (List.mem_of_getElem? (i := 37) rfl)) (fun zh367 zI368 zq369 zz370 zf371 => ?_)
              refine w_aload_n (List.Mem.tail _ (List.Mem.tail _ (List.Mem.tail _ (List.Mem.head _)))) (tX11_minute_1_ok (182, .aload_n 0, 1) (List.mem_of_getElem? (i := 38) rfl)) ?_
              refine z_getR (L1 := 56) (own := 16) (k := 22) zz370 rfl rfl rfl rfl rfl rfl rfl (by decide) (tX11_minute_1_ok (183, .getfield 45, 3) (List.mem_of_getElem? (i := 39) rfl)) ?_
              refine w_bipush (by decide) (tX11_minute_1_ok (186, .bipush 6, 2) (List.mem_of_getElem? (i := 40) rfl)) (fun zv372 ze373 => ?_)
              refine w_iload_n (List.Mem.tail _ (List.Mem.tail _ (List.Mem.tail _ (List.Mem.tail _ (List.Mem.tail _ (List.Mem.tail _ (List.Mem.head _))))))) (tX11_minute_1_ok (188, .iload_n 3, 1) (List.mem_of_getElem? (i := 41) rfl)) ?_
              refine w_iadd (by omega) (by omega) (tX11_minute_1_ok (189, .iadd, 1) (List.mem_of_getElem? (i := 42) rfl)) (fun zv374 ze375 => ?_)
              refine tt_dup2 rfl rfl (tX11_minute_1_ok (190, .dup2, 1) (List.mem_of_getElem? (i := 43) rfl)) ?_
              show ww l D tys A X fr lo mX11_minute Q 191 [(8, .int zv353), (7, .int zv303), (6, .int zv1), (0, .ref (ad 50)), (1, .int sl9), (2, .int sp), (3, .int p), (5, .int fe)] [.int zv374, .ref (ad 56), .int zv374, .ref (ad 56)] zh367
              refine z_iald (f := (upd (I 56) p.toInt.toNat zv353)) hT zz370 rfl rfl ((congrFun zq369 56).trans (s2_s _ _ _)) (by omega) (by omega) (tX11_minute_1_ok (191, .iaload, 1) (List.mem_of_getElem? (i := 44) rfl)) (fun zv376 zu377 => ?_)
              have ze378 : zv376.toInt = ((upd (I 56) p.toInt.toNat zv353) zv374.toInt.toNat).toInt := congrArg _ zu377
              refine w_iconst (by decide) (tX11_minute_1_ok (192, .iconst 1, 1) (List.mem_of_getElem? (i := 45) rfl)) (fun zv379 ze380 => ?_)
              refine w_addE (tX11_minute_1_ok (193, .iadd, 1) (List.mem_of_getElem? (i := 46) rfl)) (fun zv381 ze382 => ?_)
              refine z_iast (f := (upd (I 56) p.toInt.toNat zv353)) hT zz370 rfl rfl ((congrFun zq369 56).trans (s2_s _ _ _)) (by omega) (by omega) (tX11_minute_1_ok (194, .iastore, 1) (List.mem_of_getElem? (i := 47) rfl)) (fun zh383 zI384 zq385 zz386 zf387 => ?_)
              refine w_iinc (fun zv388 => [(2, .int zv388), (8, .int zv353), (7, .int zv303), (6, .int zv1), (0, .ref (ad 50)), (1, .int sl9), (3, .int p), (5, .int fe)]) (fun _ => rfl) (List.Mem.tail _ (List.Mem.tail _ (List.Mem.tail _ (List.Mem.tail _ (List.Mem.tail _ (List.Mem.head _)))))) (Nat.le_of_ble_eq_true rfl) (by decide) (by omega) (by omega) (tX11_minute_1_ok (195, .iinc 2 1, 3) (List.mem_of_getElem? (i := 48) rfl)) (fun zv388 ze389 => ?_)
              refine w_iinc (fun zv390 => [(3, .int zv390), (2, .int zv388), (8, .int zv353), (7, .int zv303), (6, .int zv1), (0, .ref (ad 50)), (1, .int sl9), (5, .int fe)]) (fun _ => rfl) (List.Mem.tail _ (List.Mem.tail _ (List.Mem.tail _ (List.Mem.tail _ (List.Mem.tail _ (List.Mem.tail _ (List.Mem.head _))))))) (Nat.le_of_ble_eq_true rfl) (by decide) (by omega) (by omega) (tX11_minute_1_ok (198, .iinc 3 1, 3) (List.mem_of_getElem? (i := 49) rfl)) (fun zv390 ze391 => ?_)
              refine w_goto (tgt := 4) (tX11_minute_1_ok (201, .goto (-197), 3) (List.mem_of_getElem? (i := 50) rfl)) rfl ?_
              have fz := f_st_2 (ρ := ρ) p.toInt.toNat
              have fe0 : ¬ fe.toInt = 0 → fb = true := by
                intro z
                rcases hfe with ⟨c, -⟩ | ⟨-, c⟩
                · exact absurd c z
                · exact c
              have fe1 : fe.toInt = 0 → fb = false := by
                intro z
                rcases hfe with ⟨-, c⟩ | ⟨c, -⟩
                · exact c
                · omega
              have st9 : f_st ρ p.toInt.toNat = 2 := if_pos (by omega)
              have en := m_dn (ρ := ρ) (b := b) (p := p.toInt.toNat) (x := (T p.toInt.toNat).toInt) (fe := fb) (Or.inl (fe0 (by omega))) (by omega) (by omega)
              rw [if_pos (by omega)] at en
              have e8 : m_nx ρ b p.toInt.toNat (T p.toInt.toNat).toInt fb = zv353.toInt := by omega
              have e0 : m_0 ρ b p.toInt.toNat fb T d sp.toInt = (upd (upd T p.toInt.toNat (Int32.ofInt (m_nx ρ b p.toInt.toNat (T p.toInt.toNat).toInt fb))) (6 + p.toInt.toNat) (T (6 + p.toInt.toNat) + 1), d, sp.toInt + 1) := if_neg (by omega)
              rw [e8] at e0
              have ei : Int32.ofInt zv353.toInt = zv353 := (kn_eq _ _).mpr (ofInt_b (by omega))
              rw [ei] at e0
              have ti : zv374.toInt.toNat = 6 + p.toInt.toNat := by omega
              have ev : zv381 = T (6 + p.toInt.toNat) + 1 := by
                rw [ze382, zu377, ti, upd_n _ _ (by omega), (hXT _ hp9).2, show zv379 = 1 from (kn_eq _ _).mpr (by rw [ze380]; rfl)]
              have c2 := ((congrFun zq385 56).trans (s2_s _ _ _))
              rw [ti, ev] at c2
              refine w_lv [(2, .int zv388), (3, .int zv390), (0, .ref (ad 50)), (1, .int sl9)] (by intro q hq; simp only [List.mem_cons, List.not_mem_nil, or_false] at hq ⊢; rcases hq with e | e | e | e <;> subst e <;> simp) ?_
              refine kk zh383 zI384 _ _ (by omega) (by rw [e0]; show _ = sp.toInt + 1; omega) (fun q hq => ?_) (fun k hk => ?_) (fun L9 n1 => ?_) zz386 (zf371.tr zf387)
              · rw [e0, c2]
                by_cases c9 : q = p.toInt.toNat
                · subst c9
                  refine ⟨?_, ?_⟩
                  · show upd (upd _ p.toInt.toNat zv353) (6 + p.toInt.toNat) _ p.toInt.toNat = upd (upd T p.toInt.toNat zv353) (6 + p.toInt.toNat) _ p.toInt.toNat
                    rw [upd_n _ _ (by omega), upd_s, upd_n _ _ (by omega), upd_s]
                  · show upd (upd _ p.toInt.toNat zv353) (6 + p.toInt.toNat) _ (6 + p.toInt.toNat) = upd (upd T p.toInt.toNat zv353) (6 + p.toInt.toNat) _ (6 + p.toInt.toNat)
                    rw [upd_s, upd_s]
                · refine ⟨?_, ?_⟩
                  · show upd (upd _ p.toInt.toNat zv353) (6 + p.toInt.toNat) _ q = upd (upd T p.toInt.toNat zv353) (6 + p.toInt.toNat) _ q
                    rw [upd_n _ _ (by omega), upd_n _ _ c9, upd_n _ _ (by omega), upd_n _ _ c9]
                    exact (hXT q hq).1
                  · show upd (upd _ p.toInt.toNat zv353) (6 + p.toInt.toNat) _ (6 + q) = upd (upd T p.toInt.toNat zv353) (6 + p.toInt.toNat) _ (6 + q)
                    rw [upd_n _ _ (by omega), upd_n _ _ (by omega), upd_n _ _ (by omega), upd_n _ _ (by omega)]
                    exact (hXT q hq).2
              · rw [c2, upd_n _ _ (by omega), upd_n _ _ (by omega)]
              · rw [zq385, s2_n n1, zq369, s2_n n1]
            · refine w_goto (tgt := 198) (tX11_minute_1_ok (171, .goto 27, 3) (List.mem_of_getElem? (i := 32) rfl)) rfl ?_
              refine w_iinc (fun zv392 => [(3, .int zv392), (8, .int zv353), (7, .int zv303), (6, .int zv1), (0, .ref (ad 50)), (1, .int sl9), (2, .int sp), (5, .int fe)]) (fun _ => rfl) (List.Mem.tail _ (List.Mem.tail _ (List.Mem.tail _ (List.Mem.tail _ (List.Mem.tail _ (List.Mem.tail _ (List.Mem.head _))))))) (Nat.le_of_ble_eq_true rfl) (by decide) (by omega) (by omega) (tX11_minute_1_ok (198, .iinc 3 1, 3) (List.mem_of_getElem? (i := 49) rfl)) (fun zv392 ze393 => ?_)
              refine w_goto (tgt := 4) (tX11_minute_1_ok (201, .goto (-197), 3) (List.mem_of_getElem? (i := 50) rfl)) rfl ?_
              have fz := f_st_2 (ρ := ρ) p.toInt.toNat
              have fe0 : ¬ fe.toInt = 0 → fb = true := by
                intro z
                rcases hfe with ⟨c, -⟩ | ⟨-, c⟩
                · exact absurd c z
                · exact c
              have fe1 : fe.toInt = 0 → fb = false := by
                intro z
                rcases hfe with ⟨-, c⟩ | ⟨c, -⟩
                · exact c
                · omega
              have st9 : f_st ρ p.toInt.toNat = 2 := if_pos (by omega)
              have en := m_dn (ρ := ρ) (b := b) (p := p.toInt.toNat) (x := (T p.toInt.toNat).toInt) (fe := fb) (Or.inl (fe0 (by omega))) (by omega) (by omega)
              rw [if_neg (by omega)] at en
              have e0 : m_0 ρ b p.toInt.toNat fb T d sp.toInt = (T, d, sp.toInt) := if_pos en
              refine w_lv [(2, .int sp), (3, .int zv392), (0, .ref (ad 50)), (1, .int sl9)] (by intro q hq; simp only [List.mem_cons, List.not_mem_nil, or_false] at hq ⊢; rcases hq with e | e | e | e <;> subst e <;> simp) ?_
              exact kk h I _ _ (by omega) (by rw [e0]) (fun q hq => by rw [e0]; exact hXT q hq) (fun k _ => rfl) (fun _ _ => rfl) hz zf.rf
    · refine w_iload (List.Mem.head _) (tX11_minute_0_ok (89, .iload 6, 2) (List.mem_of_getElem? (i := 48) rfl)) ?_
      refine w_absR (by omega) rfl (by show 13 ≤ lo; omega) (by omega) (tX11_minute_0_ok (91, .invokestatic 304, 3) (List.mem_of_getElem? (i := 49) rfl)) (fun zv394 ze395 => ?_)
      refine w_aload_n (List.Mem.tail _ (List.Mem.head _)) (tX11_minute_0_ok (94, .aload_n 0, 1) (List.mem_of_getElem? (i := 50) rfl)) ?_
      refine w_iload_n (List.Mem.tail _ (List.Mem.tail _ (List.Mem.tail _ (List.Mem.tail _ (List.Mem.head _))))) (tX11_minute_0_ok (95, .iload_n 3, 1) (List.mem_of_getElem? (i := 51) rfl)) ?_
      refine w_iconst (by decide) (tX11_minute_0_ok (96, .iconst 5, 1) (List.mem_of_getElem? (i := 52) rfl)) (fun zv396 ze397 => ?_)
      refine w_callV (own := 16) (mi := 219) [.int p, .int zv396] [.int zv394] [(0, .ref (ad 50)), (1, .int p), (2, .int zv396)] rfl (cllw_X11 (255, 0, 219) (List.mem_of_getElem? (i := 34) rfl)) rfl rfl (hz.ob rfl rfl) rfl (by omega) (w_lo (n := 22) rfl (by omega)) (Nat.le_of_ble_eq_true rfl) (Nat.le_of_ble_eq_true rfl) rfl (tX11_minute_0_ok (97, .invokevirtual 255, 3) (List.mem_of_getElem? (i := 53) rfl)) (y_of hT hz hp h0 (by omega) (fun zv398 ze399 => ?_))
      show ww l D tys A X fr lo mX11_minute Q 100 [(6, .int zv1), (0, .ref (ad 50)), (1, .int sl9), (2, .int sp), (3, .int p), (5, .int fe)] [.int zv398, .int zv394] h
      rw [show zv396.toInt.toNat = 5 by omega] at ze399
      refine w_icmp_gt (tgt := 106) (tX11_minute_0_ok (100, .if_icmp .gt 6, 3) (List.mem_of_getElem? (i := 54) rfl)) rfl (fun zb400 => ?_) (fun zb400 => ?_)
      · refine w_aload_n (List.Mem.tail _ (List.Mem.head _)) (tX11_minute_0_ok (106, .aload_n 0, 1) (List.mem_of_getElem? (i := 56) rfl)) ?_
        refine w_iload_n (List.Mem.tail _ (List.Mem.tail _ (List.Mem.tail _ (List.Mem.tail _ (List.Mem.head _))))) (tX11_minute_0_ok (107, .iload_n 3, 1) (List.mem_of_getElem? (i := 57) rfl)) ?_
        refine w_iconst (by decide) (tX11_minute_0_ok (108, .iconst 0, 1) (List.mem_of_getElem? (i := 58) rfl)) (fun zv401 ze402 => ?_)
        refine w_callV (own := 16) (mi := 219) [.int p, .int zv401] [] [(0, .ref (ad 50)), (1, .int p), (2, .int zv401)] rfl (cllw_X11 (255, 0, 219) (List.mem_of_getElem? (i := 34) rfl)) rfl rfl (hz.ob rfl rfl) rfl (by omega) (w_lo (n := 22) rfl (by omega)) (Nat.le_of_ble_eq_true rfl) (Nat.le_of_ble_eq_true rfl) rfl (tX11_minute_0_ok (109, .invokevirtual 255, 3) (List.mem_of_getElem? (i := 59) rfl)) (y_of hT hz hp h0 (by omega) (fun zv403 ze404 => ?_))
        show ww l D tys A X fr lo mX11_minute Q 112 [(6, .int zv1), (0, .ref (ad 50)), (1, .int sl9), (2, .int sp), (3, .int p), (5, .int fe)] [.int zv403] h
        rw [show zv401.toInt.toNat = 0 by omega] at ze404
        refine w_iconst (by decide) (tX11_minute_1_ok (112, .iconst 1, 1) (List.mem_of_getElem? (i := 0) rfl)) (fun zv405 ze406 => ?_)
        refine w_icmp_ne (tgt := 120) (tX11_minute_1_ok (113, .if_icmp .ne 7, 3) (List.mem_of_getElem? (i := 1) rfl)) rfl (fun zb407 => ?_) (fun zb407 => ?_)
        · refine w_iconst (by decide) (tX11_minute_1_ok (120, .iconst 1, 1) (List.mem_of_getElem? (i := 4) rfl)) (fun zv408 ze409 => ?_)
          refine w_istore [(7, .int zv408), (6, .int zv1), (0, .ref (ad 50)), (1, .int sl9), (2, .int sp), (3, .int p), (5, .int fe)] rfl (Nat.le_of_ble_eq_true rfl) (tX11_minute_1_ok (121, .istore 7, 2) (List.mem_of_getElem? (i := 5) rfl)) ?_
          refine w_iload (List.Mem.tail _ (List.Mem.head _)) (tX11_minute_1_ok (123, .iload 6, 2) (List.mem_of_getElem? (i := 6) rfl)) ?_
          refine w_if_le (tgt := 140) (tX11_minute_1_ok (125, .ifCond .le 15, 3) (List.mem_of_getElem? (i := 7) rfl)) rfl (fun zb410 => ?_) (fun zb410 => ?_)
          · refine w_aload_n (List.Mem.tail _ (List.Mem.tail _ (List.Mem.head _))) (tX11_minute_1_ok (140, .aload_n 0, 1) (List.mem_of_getElem? (i := 15) rfl)) ?_
            refine z_getR (L1 := 56) (own := 16) (k := 22) hz rfl rfl rfl rfl rfl rfl rfl (by decide) (tX11_minute_1_ok (141, .getfield 45, 3) (List.mem_of_getElem? (i := 16) rfl)) ?_
            refine w_iload_n (List.Mem.tail _ (List.Mem.tail _ (List.Mem.tail _ (List.Mem.tail _ (List.Mem.tail _ (List.Mem.head _)))))) (tX11_minute_1_ok (144, .iload_n 3, 1) (List.mem_of_getElem? (i := 17) rfl)) ?_
            refine z_iald (f := (I 56)) hT hz rfl rfl rfl (by omega) (by omega) (tX11_minute_1_ok (145, .iaload, 1) (List.mem_of_getElem? (i := 18) rfl)) (fun zv411 zu412 => ?_)
            have ze413 : zv411.toInt = ((I 56) p.toInt.toNat).toInt := congrArg _ zu412
            have yzv411 := (hXT _ hp9).1
            rw [← zu412] at yzv411
            have wzv411 : zv411.toInt = (T p.toInt.toNat).toInt := by rw [yzv411]
            refine w_iload (List.Mem.head _) (tX11_minute_1_ok (146, .iload 7, 2) (List.mem_of_getElem? (i := 19) rfl)) ?_
            refine w_iadd (by omega) (by omega) (tX11_minute_1_ok (148, .iadd, 1) (List.mem_of_getElem? (i := 20) rfl)) (fun zv414 ze415 => ?_)
            refine w_istore [(8, .int zv414), (7, .int zv408), (6, .int zv1), (0, .ref (ad 50)), (1, .int sl9), (2, .int sp), (3, .int p), (5, .int fe)] rfl (Nat.le_of_ble_eq_true rfl) (tX11_minute_1_ok (149, .istore 8, 2) (List.mem_of_getElem? (i := 21) rfl)) ?_
            refine w_iload (List.Mem.head _) (tX11_minute_1_ok (151, .iload 8, 2) (List.mem_of_getElem? (i := 22) rfl)) ?_
            refine w_iconst (by decide) (tX11_minute_1_ok (153, .iconst 0, 1) (List.mem_of_getElem? (i := 23) rfl)) (fun zv416 ze417 => ?_)
            refine w_aload_n (List.Mem.tail _ (List.Mem.tail _ (List.Mem.tail _ (List.Mem.head _)))) (tX11_minute_1_ok (154, .aload_n 0, 1) (List.mem_of_getElem? (i := 24) rfl)) ?_
            refine w_iload_n (List.Mem.tail _ (List.Mem.tail _ (List.Mem.tail _ (List.Mem.tail _ (List.Mem.tail _ (List.Mem.tail _ (List.Mem.head _))))))) (tX11_minute_1_ok (155, .iload_n 3, 1) (List.mem_of_getElem? (i := 25) rfl)) ?_
            refine w_iconst (by decide) (tX11_minute_1_ok (156, .iconst 1, 1) (List.mem_of_getElem? (i := 26) rfl)) (fun zv418 ze419 => ?_)
            refine w_callV (own := 16) (mi := 219) [.int p, .int zv418] [.int zv416, .int zv414] [(0, .ref (ad 50)), (1, .int p), (2, .int zv418)] rfl (cllw_X11 (255, 0, 219) (List.mem_of_getElem? (i := 34) rfl)) rfl rfl (hz.ob rfl rfl) rfl (by omega) (w_lo (n := 22) rfl (by omega)) (Nat.le_of_ble_eq_true rfl) (Nat.le_of_ble_eq_true rfl) rfl (tX11_minute_1_ok (157, .invokevirtual 255, 3) (List.mem_of_getElem? (i := 27) rfl)) (y_of hT hz hp h0 (by omega) (fun zv420 ze421 => ?_))
            show ww l D tys A X fr lo mX11_minute Q 160 [(8, .int zv414), (7, .int zv408), (6, .int zv1), (0, .ref (ad 50)), (1, .int sl9), (2, .int sp), (3, .int p), (5, .int fe)] [.int zv420, .int zv416, .int zv414] h
            rw [show zv418.toInt.toNat = 1 by omega] at ze421
            refine w_callS (own := 16) (mi := 199) [.int zv414, .int zv416, .int zv420] [] [(0, .int zv414), (1, .int zv416), (2, .int zv420)] rfl (cllw_X11 (207, 1, 199) (List.mem_of_getElem? (i := 2) rfl)) rfl rfl (by omega) (w_lo (n := 22) rfl (by omega)) (Nat.le_of_ble_eq_true rfl) (Nat.le_of_ble_eq_true rfl) rfl (tX11_minute_1_ok (160, .invokestatic 207, 3) (List.mem_of_getElem? (i := 28) rfl)) (r_isIn (fun zv422 ze423 => ?_))
            show ww l D tys A X fr lo mX11_minute Q 163 [(8, .int zv414), (7, .int zv408), (6, .int zv1), (0, .ref (ad 50)), (1, .int sl9), (2, .int sp), (3, .int p), (5, .int fe)] [.int zv422] h
            refine w_if_eq (tgt := 198) (tX11_minute_1_ok (163, .ifCond .eq 35, 3) (List.mem_of_getElem? (i := 29) rfl)) rfl (fun zb424 => ?_) (fun zb424 => ?_)
            · refine w_iinc (fun zv425 => [(3, .int zv425), (8, .int zv414), (7, .int zv408), (6, .int zv1), (0, .ref (ad 50)), (1, .int sl9), (2, .int sp), (5, .int fe)]) (fun _ => rfl) (List.Mem.tail _ (List.Mem.tail _ (List.Mem.tail _ (List.Mem.tail _ (List.Mem.tail _ (List.Mem.tail _ (List.Mem.head _))))))) (Nat.le_of_ble_eq_true rfl) (by decide) (by omega) (by omega) (tX11_minute_1_ok (198, .iinc 3 1, 3) (List.mem_of_getElem? (i := 49) rfl)) (fun zv425 ze426 => ?_)
              refine w_goto (tgt := 4) (tX11_minute_1_ok (201, .goto (-197), 3) (List.mem_of_getElem? (i := 50) rfl)) rfl ?_
              have fz := f_st_2 (ρ := ρ) p.toInt.toNat
              have fe0 : ¬ fe.toInt = 0 → fb = true := by
                intro z
                rcases hfe with ⟨c, -⟩ | ⟨-, c⟩
                · exact absurd c z
                · exact c
              have fe1 : fe.toInt = 0 → fb = false := by
                intro z
                rcases hfe with ⟨-, c⟩ | ⟨c, -⟩
                · exact c
                · omega
              have st9 : f_st ρ p.toInt.toNat = 1 := if_neg (by omega)
              have ab9 : ρ p.toInt.toNat 5 < zv1.toInt ∨ zv1.toInt < -(ρ p.toInt.toNat 5) := by
                split at ze395 <;> omega
              have en : m_nx ρ b p.toInt.toNat (T p.toInt.toNat).toInt fb = (T p.toInt.toNat).toInt := by
                by_cases c0 : m_pu ρ b p.toInt.toNat (T p.toInt.toNat).toInt = 0
                · exact m_st0 (ρ := ρ) (Or.inr c0)
                · rw [m_up (Or.inl (fe0 (by omega))) (by omega) (by omega), if_neg (by omega)]
              have e0 : m_0 ρ b p.toInt.toNat fb T d sp.toInt = (T, d, sp.toInt) := if_pos en
              refine w_lv [(2, .int sp), (3, .int zv425), (0, .ref (ad 50)), (1, .int sl9)] (by intro q hq; simp only [List.mem_cons, List.not_mem_nil, or_false] at hq ⊢; rcases hq with e | e | e | e <;> subst e <;> simp) ?_
              exact kk h I _ _ (by omega) (by rw [e0]) (fun q hq => by rw [e0]; exact hXT q hq) (fun k _ => rfl) (fun _ _ => rfl) hz zf.rf
            · refine w_iload (List.Mem.tail _ (List.Mem.tail _ (List.Mem.head _))) (tX11_minute_1_ok (166, .iload 6, 2) (List.mem_of_getElem? (i := 30) rfl)) ?_
              refine w_if_ne (tgt := 174) (tX11_minute_1_ok (168, .ifCond .ne 6, 3) (List.mem_of_getElem? (i := 31) rfl)) rfl (fun zb427 => ?_) (fun zb427 => ?_)
              · exfalso; omega
              · refine w_goto (tgt := 198) (tX11_minute_1_ok (171, .goto 27, 3) (List.mem_of_getElem? (i := 32) rfl)) rfl ?_
                refine w_iinc (fun zv428 => [(3, .int zv428), (8, .int zv414), (7, .int zv408), (6, .int zv1), (0, .ref (ad 50)), (1, .int sl9), (2, .int sp), (5, .int fe)]) (fun _ => rfl) (List.Mem.tail _ (List.Mem.tail _ (List.Mem.tail _ (List.Mem.tail _ (List.Mem.tail _ (List.Mem.tail _ (List.Mem.head _))))))) (Nat.le_of_ble_eq_true rfl) (by decide) (by omega) (by omega) (tX11_minute_1_ok (198, .iinc 3 1, 3) (List.mem_of_getElem? (i := 49) rfl)) (fun zv428 ze429 => ?_)
                refine w_goto (tgt := 4) (tX11_minute_1_ok (201, .goto (-197), 3) (List.mem_of_getElem? (i := 50) rfl)) rfl ?_
                have fz := f_st_2 (ρ := ρ) p.toInt.toNat
                have fe0 : ¬ fe.toInt = 0 → fb = true := by
                  intro z
                  rcases hfe with ⟨c, -⟩ | ⟨-, c⟩
                  · exact absurd c z
                  · exact c
                have fe1 : fe.toInt = 0 → fb = false := by
                  intro z
                  rcases hfe with ⟨-, c⟩ | ⟨c, -⟩
                  · exact c
                  · omega
                have en := m_st0 (ρ := ρ) (b := b) (p := p.toInt.toNat) (x := (T p.toInt.toNat).toInt) (fe := fb) (Or.inr (by omega))
                have e0 : m_0 ρ b p.toInt.toNat fb T d sp.toInt = (T, d, sp.toInt) := if_pos en
                refine w_lv [(2, .int sp), (3, .int zv428), (0, .ref (ad 50)), (1, .int sl9)] (by intro q hq; simp only [List.mem_cons, List.not_mem_nil, or_false] at hq ⊢; rcases hq with e | e | e | e <;> subst e <;> simp) ?_
                exact kk h I _ _ (by omega) (by rw [e0]) (fun q hq => by rw [e0]; exact hXT q hq) (fun k _ => rfl) (fun _ _ => rfl) hz zf.rf
          · exfalso; omega
        · refine w_iconst (by decide) (tX11_minute_1_ok (116, .iconst 2, 1) (List.mem_of_getElem? (i := 2) rfl)) (fun zv430 ze431 => ?_)
          refine w_goto (tgt := 121) (tX11_minute_1_ok (117, .goto 4, 3) (List.mem_of_getElem? (i := 3) rfl)) rfl ?_
          refine w_istore [(7, .int zv430), (6, .int zv1), (0, .ref (ad 50)), (1, .int sl9), (2, .int sp), (3, .int p), (5, .int fe)] rfl (Nat.le_of_ble_eq_true rfl) (tX11_minute_1_ok (121, .istore 7, 2) (List.mem_of_getElem? (i := 5) rfl)) ?_
          refine w_iload (List.Mem.tail _ (List.Mem.head _)) (tX11_minute_1_ok (123, .iload 6, 2) (List.mem_of_getElem? (i := 6) rfl)) ?_
          refine w_if_le (tgt := 140) (tX11_minute_1_ok (125, .ifCond .le 15, 3) (List.mem_of_getElem? (i := 7) rfl)) rfl (fun zb432 => ?_) (fun zb432 => ?_)
          · refine w_aload_n (List.Mem.tail _ (List.Mem.tail _ (List.Mem.head _))) (tX11_minute_1_ok (140, .aload_n 0, 1) (List.mem_of_getElem? (i := 15) rfl)) ?_
            refine z_getR (L1 := 56) (own := 16) (k := 22) hz rfl rfl rfl rfl rfl rfl rfl (by decide) (tX11_minute_1_ok (141, .getfield 45, 3) (List.mem_of_getElem? (i := 16) rfl)) ?_
            refine w_iload_n (List.Mem.tail _ (List.Mem.tail _ (List.Mem.tail _ (List.Mem.tail _ (List.Mem.tail _ (List.Mem.head _)))))) (tX11_minute_1_ok (144, .iload_n 3, 1) (List.mem_of_getElem? (i := 17) rfl)) ?_
            refine z_iald (f := (I 56)) hT hz rfl rfl rfl (by omega) (by omega) (tX11_minute_1_ok (145, .iaload, 1) (List.mem_of_getElem? (i := 18) rfl)) (fun zv433 zu434 => ?_)
            have ze435 : zv433.toInt = ((I 56) p.toInt.toNat).toInt := congrArg _ zu434
            have yzv433 := (hXT _ hp9).1
            rw [← zu434] at yzv433
            have wzv433 : zv433.toInt = (T p.toInt.toNat).toInt := by rw [yzv433]
            refine w_iload (List.Mem.head _) (tX11_minute_1_ok (146, .iload 7, 2) (List.mem_of_getElem? (i := 19) rfl)) ?_
            refine w_iadd (by omega) (by omega) (tX11_minute_1_ok (148, .iadd, 1) (List.mem_of_getElem? (i := 20) rfl)) (fun zv436 ze437 => ?_)
            refine w_istore [(8, .int zv436), (7, .int zv430), (6, .int zv1), (0, .ref (ad 50)), (1, .int sl9), (2, .int sp), (3, .int p), (5, .int fe)] rfl (Nat.le_of_ble_eq_true rfl) (tX11_minute_1_ok (149, .istore 8, 2) (List.mem_of_getElem? (i := 21) rfl)) ?_
            refine w_iload (List.Mem.head _) (tX11_minute_1_ok (151, .iload 8, 2) (List.mem_of_getElem? (i := 22) rfl)) ?_
            refine w_iconst (by decide) (tX11_minute_1_ok (153, .iconst 0, 1) (List.mem_of_getElem? (i := 23) rfl)) (fun zv438 ze439 => ?_)
            refine w_aload_n (List.Mem.tail _ (List.Mem.tail _ (List.Mem.tail _ (List.Mem.head _)))) (tX11_minute_1_ok (154, .aload_n 0, 1) (List.mem_of_getElem? (i := 24) rfl)) ?_
            refine w_iload_n (List.Mem.tail _ (List.Mem.tail _ (List.Mem.tail _ (List.Mem.tail _ (List.Mem.tail _ (List.Mem.tail _ (List.Mem.head _))))))) (tX11_minute_1_ok (155, .iload_n 3, 1) (List.mem_of_getElem? (i := 25) rfl)) ?_
            refine w_iconst (by decide) (tX11_minute_1_ok (156, .iconst 1, 1) (List.mem_of_getElem? (i := 26) rfl)) (fun zv440 ze441 => ?_)
            refine w_callV (own := 16) (mi := 219) [.int p, .int zv440] [.int zv438, .int zv436] [(0, .ref (ad 50)), (1, .int p), (2, .int zv440)] rfl (cllw_X11 (255, 0, 219) (List.mem_of_getElem? (i := 34) rfl)) rfl rfl (hz.ob rfl rfl) rfl (by omega) (w_lo (n := 22) rfl (by omega)) (Nat.le_of_ble_eq_true rfl) (Nat.le_of_ble_eq_true rfl) rfl (tX11_minute_1_ok (157, .invokevirtual 255, 3) (List.mem_of_getElem? (i := 27) rfl)) (y_of hT hz hp h0 (by omega) (fun zv442 ze443 => ?_))
            show ww l D tys A X fr lo mX11_minute Q 160 [(8, .int zv436), (7, .int zv430), (6, .int zv1), (0, .ref (ad 50)), (1, .int sl9), (2, .int sp), (3, .int p), (5, .int fe)] [.int zv442, .int zv438, .int zv436] h
            rw [show zv440.toInt.toNat = 1 by omega] at ze443
            refine w_callS (own := 16) (mi := 199) [.int zv436, .int zv438, .int zv442] [] [(0, .int zv436), (1, .int zv438), (2, .int zv442)] rfl (cllw_X11 (207, 1, 199) (List.mem_of_getElem? (i := 2) rfl)) rfl rfl (by omega) (w_lo (n := 22) rfl (by omega)) (Nat.le_of_ble_eq_true rfl) (Nat.le_of_ble_eq_true rfl) rfl (tX11_minute_1_ok (160, .invokestatic 207, 3) (List.mem_of_getElem? (i := 28) rfl)) (r_isIn (fun zv444 ze445 => ?_))
            show ww l D tys A X fr lo mX11_minute Q 163 [(8, .int zv436), (7, .int zv430), (6, .int zv1), (0, .ref (ad 50)), (1, .int sl9), (2, .int sp), (3, .int p), (5, .int fe)] [.int zv444] h
            refine w_if_eq (tgt := 198) (tX11_minute_1_ok (163, .ifCond .eq 35, 3) (List.mem_of_getElem? (i := 29) rfl)) rfl (fun zb446 => ?_) (fun zb446 => ?_)
            · refine w_iinc (fun zv447 => [(3, .int zv447), (8, .int zv436), (7, .int zv430), (6, .int zv1), (0, .ref (ad 50)), (1, .int sl9), (2, .int sp), (5, .int fe)]) (fun _ => rfl) (List.Mem.tail _ (List.Mem.tail _ (List.Mem.tail _ (List.Mem.tail _ (List.Mem.tail _ (List.Mem.tail _ (List.Mem.head _))))))) (Nat.le_of_ble_eq_true rfl) (by decide) (by omega) (by omega) (tX11_minute_1_ok (198, .iinc 3 1, 3) (List.mem_of_getElem? (i := 49) rfl)) (fun zv447 ze448 => ?_)
              refine w_goto (tgt := 4) (tX11_minute_1_ok (201, .goto (-197), 3) (List.mem_of_getElem? (i := 50) rfl)) rfl ?_
              have fz := f_st_2 (ρ := ρ) p.toInt.toNat
              have fe0 : ¬ fe.toInt = 0 → fb = true := by
                intro z
                rcases hfe with ⟨c, -⟩ | ⟨-, c⟩
                · exact absurd c z
                · exact c
              have fe1 : fe.toInt = 0 → fb = false := by
                intro z
                rcases hfe with ⟨-, c⟩ | ⟨c, -⟩
                · exact c
                · omega
              have st9 : f_st ρ p.toInt.toNat = 2 := if_pos (by omega)
              have ab9 : ρ p.toInt.toNat 5 < zv1.toInt ∨ zv1.toInt < -(ρ p.toInt.toNat 5) := by
                split at ze395 <;> omega
              have en : m_nx ρ b p.toInt.toNat (T p.toInt.toNat).toInt fb = (T p.toInt.toNat).toInt := by
                by_cases c0 : m_pu ρ b p.toInt.toNat (T p.toInt.toNat).toInt = 0
                · exact m_st0 (ρ := ρ) (Or.inr c0)
                · rw [m_up (Or.inl (fe0 (by omega))) (by omega) (by omega), if_neg (by omega)]
              have e0 : m_0 ρ b p.toInt.toNat fb T d sp.toInt = (T, d, sp.toInt) := if_pos en
              refine w_lv [(2, .int sp), (3, .int zv447), (0, .ref (ad 50)), (1, .int sl9)] (by intro q hq; simp only [List.mem_cons, List.not_mem_nil, or_false] at hq ⊢; rcases hq with e | e | e | e <;> subst e <;> simp) ?_
              exact kk h I _ _ (by omega) (by rw [e0]) (fun q hq => by rw [e0]; exact hXT q hq) (fun k _ => rfl) (fun _ _ => rfl) hz zf.rf
            · refine w_iload (List.Mem.tail _ (List.Mem.tail _ (List.Mem.head _))) (tX11_minute_1_ok (166, .iload 6, 2) (List.mem_of_getElem? (i := 30) rfl)) ?_
              refine w_if_ne (tgt := 174) (tX11_minute_1_ok (168, .ifCond .ne 6, 3) (List.mem_of_getElem? (i := 31) rfl)) rfl (fun zb449 => ?_) (fun zb449 => ?_)
              · exfalso; omega
              · refine w_goto (tgt := 198) (tX11_minute_1_ok (171, .goto 27, 3) (List.mem_of_getElem? (i := 32) rfl)) rfl ?_
                refine w_iinc (fun zv450 => [(3, .int zv450), (8, .int zv436), (7, .int zv430), (6, .int zv1), (0, .ref (ad 50)), (1, .int sl9), (2, .int sp), (5, .int fe)]) (fun _ => rfl) (List.Mem.tail _ (List.Mem.tail _ (List.Mem.tail _ (List.Mem.tail _ (List.Mem.tail _ (List.Mem.tail _ (List.Mem.head _))))))) (Nat.le_of_ble_eq_true rfl) (by decide) (by omega) (by omega) (tX11_minute_1_ok (198, .iinc 3 1, 3) (List.mem_of_getElem? (i := 49) rfl)) (fun zv450 ze451 => ?_)
                refine w_goto (tgt := 4) (tX11_minute_1_ok (201, .goto (-197), 3) (List.mem_of_getElem? (i := 50) rfl)) rfl ?_
                have fz := f_st_2 (ρ := ρ) p.toInt.toNat
                have fe0 : ¬ fe.toInt = 0 → fb = true := by
                  intro z
                  rcases hfe with ⟨c, -⟩ | ⟨-, c⟩
                  · exact absurd c z
                  · exact c
                have fe1 : fe.toInt = 0 → fb = false := by
                  intro z
                  rcases hfe with ⟨-, c⟩ | ⟨c, -⟩
                  · exact c
                  · omega
                have en := m_st0 (ρ := ρ) (b := b) (p := p.toInt.toNat) (x := (T p.toInt.toNat).toInt) (fe := fb) (Or.inr (by omega))
                have e0 : m_0 ρ b p.toInt.toNat fb T d sp.toInt = (T, d, sp.toInt) := if_pos en
                refine w_lv [(2, .int sp), (3, .int zv450), (0, .ref (ad 50)), (1, .int sl9)] (by intro q hq; simp only [List.mem_cons, List.not_mem_nil, or_false] at hq ⊢; rcases hq with e | e | e | e <;> subst e <;> simp) ?_
                exact kk h I _ _ (by omega) (by rw [e0]) (fun q hq => by rw [e0]; exact hXT q hq) (fun k _ => rfl) (fun _ _ => rfl) hz zf.rf
          · exfalso; omega
      · refine w_goto (tgt := 198) (tX11_minute_0_ok (103, .goto 95, 3) (List.mem_of_getElem? (i := 55) rfl)) rfl ?_
        refine w_iinc (fun zv452 => [(3, .int zv452), (6, .int zv1), (0, .ref (ad 50)), (1, .int sl9), (2, .int sp), (5, .int fe)]) (fun _ => rfl) (List.Mem.tail _ (List.Mem.tail _ (List.Mem.tail _ (List.Mem.tail _ (List.Mem.head _))))) (Nat.le_of_ble_eq_true rfl) (by decide) (by omega) (by omega) (tX11_minute_1_ok (198, .iinc 3 1, 3) (List.mem_of_getElem? (i := 49) rfl)) (fun zv452 ze453 => ?_)
        refine w_goto (tgt := 4) (tX11_minute_1_ok (201, .goto (-197), 3) (List.mem_of_getElem? (i := 50) rfl)) rfl ?_
        have fz := f_st_2 (ρ := ρ) p.toInt.toNat
        have fe0 : ¬ fe.toInt = 0 → fb = true := by
          intro z
          rcases hfe with ⟨c, -⟩ | ⟨-, c⟩
          · exact absurd c z
          · exact c
        have fe1 : fe.toInt = 0 → fb = false := by
          intro z
          rcases hfe with ⟨-, c⟩ | ⟨c, -⟩
          · exact c
          · omega
        have ab9 : -(ρ p.toInt.toNat 5) ≤ zv1.toInt ∧ zv1.toInt ≤ ρ p.toInt.toNat 5 := by
          split at ze395 <;> omega
        have en := m_st0 (ρ := ρ) (b := b) (p := p.toInt.toNat) (x := (T p.toInt.toNat).toInt) (fe := fb) (Or.inr (by omega))
        have e0 : m_0 ρ b p.toInt.toNat fb T d sp.toInt = (T, d, sp.toInt) := if_pos en
        refine w_lv [(2, .int sp), (3, .int zv452), (0, .ref (ad 50)), (1, .int sl9)] (by intro q hq; simp only [List.mem_cons, List.not_mem_nil, or_false] at hq ⊢; rcases hq with e | e | e | e <;> subst e <;> simp) ?_
        exact kk h I _ _ (by omega) (by rw [e0]) (fun q hq => by rw [e0]; exact hXT q hq) (fun k _ => rfl) (fun _ _ => rfl) hz zf.rf
theorem y_mnL (hT : k_tys tys cA) {T : Nat → Int32} {d : Int64} {sl9 : Int32} {slb : Bool} {I0 : zI} (wf : wfR n ρ) (hf : 17 ≤ fr) (hlo : 440 ≤ lo) (hsl : sl9.toInt = 0 ∧ slb = false ∨ sl9.toInt = 1 ∧ slb = true) (hx : m_ok n ρ T) (hOT : ∀ q, q < n → I0 56 (12 + q) = T (12 + q)) : ∀ (j9 : Nat) (h : ch_H) (I : zI) (W : zW) (sp p : Int32), p.toInt + j9 = n → 0 ≤ p.toInt → sp.toInt = (m_k ρ b slb (T, d, 0) p.toInt.toNat).2.2 → (∀ q, q < n → I 56 q = (m_k ρ b slb (T, d, 0) p.toInt.toNat).1 q ∧ I 56 (6 + q) = (m_k ρ b slb (T, d, 0) p.toInt.toNat).1 (6 + q)) → W 50 36 = (m_k ρ b slb (T, d, 0) p.toInt.toNat).2.1 → qz I n ρ → yz I n pe b → (∀ k, 12 ≤ k → I 56 k = I0 56 k) → zr zNM cA ad I W O h → (∀ (g : ch_H) (I1 : zI) (W1 : zW) (v : Int32), v.toInt = (m_k ρ b slb (T, d, 0) n).2.2 → (∀ q, q < n → I1 56 q = (m_k ρ b slb (T, d, 0) n).1 q ∧ I1 56 (6 + q) = (m_k ρ b slb (T, d, 0) n).1 (6 + q)) → W1 50 36 = (m_k ρ b slb (T, d, 0) n).2.1 → (∀ L, L ≠ 50 → W1 L = W L) → (∀ k, k ≠ 36 → W1 50 k = W 50 k) → (∀ L, L ≠ 56 → I1 L = I L) → (I1 56 38 = I0 56 38 + 1 ∧ (∀ k, 12 ≤ k → k ≠ 38 → I1 56 k = I0 56 k) ∧ zr zNM cA ad I1 W1 O g) → zf zNM ad h g → Q (some (.int v)) g) → ww l D tys A X fr lo mX11_minute Q 4 [(2, .int sp), (3, .int p), (0, .ref (ad 50)), (1, .int sl9)] [] h := by
  intro j9
  induction j9 using Nat.strongRecOn with
  | ind j9 ih =>
    intro h I W sp p hj9 hp0 hsp hXT hd hp hy hhi hz hq
    have n6 := wf.1
    have r0 := hp.1
    have hs1 : ¬ sl9.toInt = 0 → slb = true := by
      intro z
      rcases hsl with ⟨c, -⟩ | ⟨-, c⟩
      · exact absurd c z
      · exact c
    have hs0 : sl9.toInt = 0 → slb = false := by
      intro z
      rcases hsl with ⟨-, c⟩ | ⟨c, -⟩
      · exact c
      · omega
    have sb9 := m_k_s (ρ := ρ) (b := b) (sl := slb) (T, d, 0) p.toInt.toNat
    have sb8 : ((T, d, (0 : Int)) : mS).2.2 = 0 := rfl
    refine w_iload_n (List.Mem.tail _ (List.Mem.head _)) (tX11_minute_0_ok (4, .iload_n 3, 1) (List.mem_of_getElem? (i := 4) rfl)) ?_
    refine w_aload_n (List.Mem.tail _ (List.Mem.tail _ (List.Mem.head _))) (tX11_minute_0_ok (5, .aload_n 0, 1) (List.mem_of_getElem? (i := 5) rfl)) ?_
    refine z_get (f := (I 50)) (own := 16) (k := 20) hz rfl rfl rfl rfl rfl rfl rfl (by decide) (tX11_minute_0_ok (6, .getfield 248, 3) (List.mem_of_getElem? (i := 6) rfl)) ?_
    refine w_icmp_ge (tgt := 204) (tX11_minute_0_ok (9, .if_icmp .ge 195, 3) (List.mem_of_getElem? (i := 7) rfl)) rfl (fun zb1 => ?_) (fun zb1 => ?_)
    · refine w_aload_n (List.Mem.tail _ (List.Mem.tail _ (List.Mem.head _))) (tX11_minute_1_ok (204, .aload_n 0, 1) (List.mem_of_getElem? (i := 51) rfl)) ?_
      refine z_getR (L1 := 56) (own := 16) (k := 22) hz rfl rfl rfl rfl rfl rfl rfl (by decide) (tX11_minute_1_ok (205, .getfield 45, 3) (List.mem_of_getElem? (i := 52) rfl)) ?_
      refine w_bipush (by decide) (tX11_minute_1_ok (208, .bipush 38, 2) (List.mem_of_getElem? (i := 53) rfl)) (fun zv2 ze3 => ?_)
      refine tt_dup2 rfl rfl (tX11_minute_1_ok (210, .dup2, 1) (List.mem_of_getElem? (i := 54) rfl)) ?_
      show ww l D tys A X fr lo mX11_minute Q 211 [(2, .int sp), (3, .int p), (0, .ref (ad 50)), (1, .int sl9)] [.int zv2, .ref (ad 56), .int zv2, .ref (ad 56)] h
      refine z_iald (f := (I 56)) hT hz rfl rfl rfl (by omega) (by omega) (tX11_minute_1_ok (211, .iaload, 1) (List.mem_of_getElem? (i := 55) rfl)) (fun zv4 zu5 => ?_)
      have ze6 : zv4.toInt = ((I 56) zv2.toInt.toNat).toInt := congrArg _ zu5
      refine w_iconst (by decide) (tX11_minute_1_ok (212, .iconst 1, 1) (List.mem_of_getElem? (i := 56) rfl)) (fun zv7 ze8 => ?_)
      refine w_addE (tX11_minute_1_ok (213, .iadd, 1) (List.mem_of_getElem? (i := 57) rfl)) (fun zv9 ze10 => ?_)
      refine z_iast (f := (I 56)) hT hz rfl rfl rfl (by omega) (by omega) (tX11_minute_1_ok (214, .iastore, 1) (List.mem_of_getElem? (i := 58) rfl)) (fun zh11 zI12 zq13 zz14 zf15 => ?_)
      refine w_iload_n (List.Mem.head _) (tX11_minute_1_ok (215, .iload_n 2, 1) (List.mem_of_getElem? (i := 59) rfl)) ?_
      refine w_iret rfl (tX11_minute_2_ok (216, .ireturn, 1) (List.mem_of_getElem? (i := 0) rfl)) ?_
      have ep : p.toInt.toNat = n := by omega
      rw [ep] at hsp hXT hd
      have t8 : zv2.toInt.toNat = 38 := by omega
      have ev : zv9 = I0 56 38 + 1 := by
        rw [ze10, zu5, t8, hhi 38 (by decide), show zv7 = 1 from (kn_eq _ _).mpr (by rw [ze8]; rfl)]
      have c2 := ((congrFun zq13 56).trans (s2_s _ _ _))
      rw [t8, ev] at c2
      refine hq zh11 zI12 W sp hsp (fun q hq => ?_) hd (fun _ _ => rfl) (fun _ _ => rfl) (fun L9 n1 => ?_) ⟨by rw [c2, upd_s], fun k k1 k2 => ?_, zz14⟩ zf15
      · rw [c2, upd_n _ _ (by omega), upd_n _ _ (by omega)]
        exact hXT q hq
      · rw [zq13, s2_n n1]
      · rw [c2, upd_n _ _ (by omega)]
        exact hhi k k1
    · have hp9 : p.toInt.toNat < n := by omega
      have h0 : 0 ≤ p.toInt ∧ p.toInt < (n : Int) := by omega
      have ot9 : (m_k ρ b slb (T, d, 0) p.toInt.toNat).1 (12 + p.toInt.toNat) = I 56 (12 + p.toInt.toNat) := by
        rw [m_k_hi _ p.toInt.toNat (12 + p.toInt.toNat) (by omega) (by omega), hhi _ (by omega)]
        exact (hOT p.toInt.toNat hp9).symm
      refine w_aload_n (List.Mem.tail _ (List.Mem.tail _ (List.Mem.head _))) (tX11_minute_0_ok (12, .aload_n 0, 1) (List.mem_of_getElem? (i := 8) rfl)) ?_
      refine z_getR (L1 := 56) (own := 16) (k := 22) hz rfl rfl rfl rfl rfl rfl rfl (by decide) (tX11_minute_0_ok (13, .getfield 45, 3) (List.mem_of_getElem? (i := 9) rfl)) ?_
      refine w_bipush (by decide) (tX11_minute_0_ok (16, .bipush 12, 2) (List.mem_of_getElem? (i := 10) rfl)) (fun zv16 ze17 => ?_)
      refine w_iload_n (List.Mem.tail _ (List.Mem.head _)) (tX11_minute_0_ok (18, .iload_n 3, 1) (List.mem_of_getElem? (i := 11) rfl)) ?_
      refine w_iadd (by omega) (by omega) (tX11_minute_0_ok (19, .iadd, 1) (List.mem_of_getElem? (i := 12) rfl)) (fun zv18 ze19 => ?_)
      refine z_iald (f := (I 56)) hT hz rfl rfl rfl (by omega) (by omega) (tX11_minute_0_ok (20, .iaload, 1) (List.mem_of_getElem? (i := 13) rfl)) (fun zv20 zu21 => ?_)
      have ze22 : zv20.toInt = ((I 56) zv18.toInt.toNat).toInt := congrArg _ zu21
      have ow : zv18.toInt.toNat = 12 + p.toInt.toNat := by omega
      rw [ow, ← ot9] at ze22
      refine w_iconst (by decide) (tX11_minute_0_ok (21, .iconst 1, 1) (List.mem_of_getElem? (i := 14) rfl)) (fun zv23 ze24 => ?_)
      refine w_icmp_ne (tgt := 29) (tX11_minute_0_ok (22, .if_icmp .ne 7, 3) (List.mem_of_getElem? (i := 15) rfl)) rfl (fun zb25 => ?_) (fun zb25 => ?_)
      · refine w_iconst (by decide) (tX11_minute_0_ok (29, .iconst 0, 1) (List.mem_of_getElem? (i := 18) rfl)) (fun zv26 ze27 => ?_)
        refine w_istore [(4, .int zv26), (2, .int sp), (3, .int p), (0, .ref (ad 50)), (1, .int sl9)] rfl (Nat.le_of_ble_eq_true rfl) (tX11_minute_0_ok (30, .istore 4, 2) (List.mem_of_getElem? (i := 19) rfl)) ?_
        refine w_iload (List.Mem.head _) (tX11_minute_0_ok (32, .iload 4, 2) (List.mem_of_getElem? (i := 20) rfl)) ?_
        refine w_if_eq (tgt := 65) (tX11_minute_0_ok (34, .ifCond .eq 31, 3) (List.mem_of_getElem? (i := 21) rfl)) rfl (fun zb28 => ?_) (fun zb28 => ?_)
        · refine w_iconst (by decide) (tX11_minute_0_ok (65, .iconst 1, 1) (List.mem_of_getElem? (i := 36) rfl)) (fun zv29 ze30 => ?_)
          refine w_goto (tgt := 70) (tX11_minute_0_ok (66, .goto 4, 3) (List.mem_of_getElem? (i := 37) rfl)) rfl ?_
          refine w_istore [(5, .int zv29), (4, .int zv26), (2, .int sp), (3, .int p), (0, .ref (ad 50)), (1, .int sl9)] rfl (Nat.le_of_ble_eq_true rfl) (tX11_minute_0_ok (70, .istore 5, 2) (List.mem_of_getElem? (i := 39) rfl)) ?_
          have ef : m_fr ρ slb p.toInt.toNat (m_k ρ b slb (T, d, 0) p.toInt.toNat).1 (m_k ρ b slb (T, d, 0) p.toInt.toNat).2.1 = true := m_fr_o (by omega)
          have ed : m_d ρ slb p.toInt.toNat (m_k ρ b slb (T, d, 0) p.toInt.toNat).1 (m_k ρ b slb (T, d, 0) p.toInt.toNat).2.1 = (m_k ρ b slb (T, d, 0) p.toInt.toNat).2.1 := m_d_f (Or.inl (by omega))
          refine w_lv [(0, .ref (ad 50)), (1, .int sl9), (2, .int sp), (3, .int p), (5, .int zv29)] (by intro q hq; simp only [List.mem_cons, List.not_mem_nil, or_false] at hq ⊢; rcases hq with e | e | e | e | e <;> subst e <;> simp) ?_
          refine y_mnB hT (b := b) (fb := true) (T := (m_k ρ b slb (T, d, 0) p.toInt.toNat).1) (d := (m_k ρ b slb (T, d, 0) p.toInt.toNat).2.1) hz hp hy (by omega) (by omega) (by omega) (by omega) (Or.inr ⟨by omega, rfl⟩) (m_k_ok hp.2.1 hx p.toInt.toNat (by omega)) hXT (fun g9 I9 sp9 p9 y1 y2 y3 y4 y5 y6 y7 => ?_)
          have em : m_0 ρ b p.toInt.toNat true (m_k ρ b slb (T, d, 0) p.toInt.toNat).1 ((m_k ρ b slb (T, d, 0) p.toInt.toNat).2.1) (m_k ρ b slb (T, d, 0) p.toInt.toNat).2.2 = m_k ρ b slb (T, d, 0) (p.toInt.toNat + 1) := by
            show _ = m_0 ρ b p.toInt.toNat (m_fr ρ slb p.toInt.toNat (m_k ρ b slb (T, d, 0) p.toInt.toNat).1 (m_k ρ b slb (T, d, 0) p.toInt.toNat).2.1) (m_k ρ b slb (T, d, 0) p.toInt.toNat).1 (m_d ρ slb p.toInt.toNat (m_k ρ b slb (T, d, 0) p.toInt.toNat).1 (m_k ρ b slb (T, d, 0) p.toInt.toNat).2.1) (m_k ρ b slb (T, d, 0) p.toInt.toNat).2.2
            rw [ef, ed]
          rw [← hsp] at em
          rw [em] at y2 y3
          have ep : p9.toInt.toNat = p.toInt.toNat + 1 := by omega
          rw [← ep] at y2 y3
          have ed9 : W 50 36 = (m_k ρ b slb (T, d, 0) p9.toInt.toNat).2.1 := by
            rw [ep, show (m_k ρ b slb (T, d, 0) (p.toInt.toNat + 1)).2.1 = m_d ρ slb p.toInt.toNat (m_k ρ b slb (T, d, 0) p.toInt.toNat).1 (m_k ρ b slb (T, d, 0) p.toInt.toNat).2.1 from m_0_d _ _ _ _ _, ed]
            exact hd
          exact ih (j9 - 1) (by omega) g9 I9 W sp9 p9 (by omega) (by omega) y2 y3 ed9 (hp.mv (by rw [y5 50 (by decide)]) (y5 55 (by decide))) (hy.mv (by rw [y5 50 (by decide)]) (y5 55 (by decide)) (y5 62 (by decide)) (fun k k1 k2 => y4 k (by omega))) (fun k hk => (y4 k hk).trans (hhi k hk)) y6 (fun g1 I1 W1 v z1 z2 z3 z4 z5 z6 z7 z8 => hq g1 I1 W1 v z1 z2 z3 z4 z5 (fun L9 n1 => (z6 L9 n1).trans (y5 L9 n1)) z7 ((zf.rf.tr y7).tr z8))
        · exfalso; omega
      · refine w_iconst (by decide) (tX11_minute_0_ok (25, .iconst 1, 1) (List.mem_of_getElem? (i := 16) rfl)) (fun zv31 ze32 => ?_)
        refine w_goto (tgt := 30) (tX11_minute_0_ok (26, .goto 4, 3) (List.mem_of_getElem? (i := 17) rfl)) rfl ?_
        refine w_istore [(4, .int zv31), (2, .int sp), (3, .int p), (0, .ref (ad 50)), (1, .int sl9)] rfl (Nat.le_of_ble_eq_true rfl) (tX11_minute_0_ok (30, .istore 4, 2) (List.mem_of_getElem? (i := 19) rfl)) ?_
        refine w_iload (List.Mem.head _) (tX11_minute_0_ok (32, .iload 4, 2) (List.mem_of_getElem? (i := 20) rfl)) ?_
        refine w_if_eq (tgt := 65) (tX11_minute_0_ok (34, .ifCond .eq 31, 3) (List.mem_of_getElem? (i := 21) rfl)) rfl (fun zb33 => ?_) (fun zb33 => ?_)
        · exfalso; omega
        · refine w_iload_n (List.Mem.tail _ (List.Mem.tail _ (List.Mem.tail _ (List.Mem.tail _ (List.Mem.head _))))) (tX11_minute_0_ok (37, .iload_n 1, 1) (List.mem_of_getElem? (i := 22) rfl)) ?_
          refine w_if_eq (tgt := 69) (tX11_minute_0_ok (38, .ifCond .eq 31, 3) (List.mem_of_getElem? (i := 23) rfl)) rfl (fun zb34 => ?_) (fun zb34 => ?_)
          · refine w_iconst (by decide) (tX11_minute_0_ok (69, .iconst 0, 1) (List.mem_of_getElem? (i := 38) rfl)) (fun zv35 ze36 => ?_)
            refine w_istore [(5, .int zv35), (4, .int zv31), (2, .int sp), (3, .int p), (0, .ref (ad 50)), (1, .int sl9)] rfl (Nat.le_of_ble_eq_true rfl) (tX11_minute_0_ok (70, .istore 5, 2) (List.mem_of_getElem? (i := 39) rfl)) ?_
            have ef : m_fr ρ slb p.toInt.toNat (m_k ρ b slb (T, d, 0) p.toInt.toNat).1 (m_k ρ b slb (T, d, 0) p.toInt.toNat).2.1 = false := m_fr_f (by omega) (Or.inl (hs0 (by omega)))
            have ed : m_d ρ slb p.toInt.toNat (m_k ρ b slb (T, d, 0) p.toInt.toNat).1 (m_k ρ b slb (T, d, 0) p.toInt.toNat).2.1 = (m_k ρ b slb (T, d, 0) p.toInt.toNat).2.1 := m_d_f (Or.inr (Or.inl (hs0 (by omega))))
            refine w_lv [(0, .ref (ad 50)), (1, .int sl9), (2, .int sp), (3, .int p), (5, .int zv35)] (by intro q hq; simp only [List.mem_cons, List.not_mem_nil, or_false] at hq ⊢; rcases hq with e | e | e | e | e <;> subst e <;> simp) ?_
            refine y_mnB hT (b := b) (fb := false) (T := (m_k ρ b slb (T, d, 0) p.toInt.toNat).1) (d := (m_k ρ b slb (T, d, 0) p.toInt.toNat).2.1) hz hp hy (by omega) (by omega) (by omega) (by omega) (Or.inl ⟨by omega, rfl⟩) (m_k_ok hp.2.1 hx p.toInt.toNat (by omega)) hXT (fun g9 I9 sp9 p9 y1 y2 y3 y4 y5 y6 y7 => ?_)
            have em : m_0 ρ b p.toInt.toNat false (m_k ρ b slb (T, d, 0) p.toInt.toNat).1 ((m_k ρ b slb (T, d, 0) p.toInt.toNat).2.1) (m_k ρ b slb (T, d, 0) p.toInt.toNat).2.2 = m_k ρ b slb (T, d, 0) (p.toInt.toNat + 1) := by
              show _ = m_0 ρ b p.toInt.toNat (m_fr ρ slb p.toInt.toNat (m_k ρ b slb (T, d, 0) p.toInt.toNat).1 (m_k ρ b slb (T, d, 0) p.toInt.toNat).2.1) (m_k ρ b slb (T, d, 0) p.toInt.toNat).1 (m_d ρ slb p.toInt.toNat (m_k ρ b slb (T, d, 0) p.toInt.toNat).1 (m_k ρ b slb (T, d, 0) p.toInt.toNat).2.1) (m_k ρ b slb (T, d, 0) p.toInt.toNat).2.2
              rw [ef, ed]
            rw [← hsp] at em
            rw [em] at y2 y3
            have ep : p9.toInt.toNat = p.toInt.toNat + 1 := by omega
            rw [← ep] at y2 y3
            have ed9 : W 50 36 = (m_k ρ b slb (T, d, 0) p9.toInt.toNat).2.1 := by
              rw [ep, show (m_k ρ b slb (T, d, 0) (p.toInt.toNat + 1)).2.1 = m_d ρ slb p.toInt.toNat (m_k ρ b slb (T, d, 0) p.toInt.toNat).1 (m_k ρ b slb (T, d, 0) p.toInt.toNat).2.1 from m_0_d _ _ _ _ _, ed]
              exact hd
            exact ih (j9 - 1) (by omega) g9 I9 W sp9 p9 (by omega) (by omega) y2 y3 ed9 (hp.mv (by rw [y5 50 (by decide)]) (y5 55 (by decide))) (hy.mv (by rw [y5 50 (by decide)]) (y5 55 (by decide)) (y5 62 (by decide)) (fun k k1 k2 => y4 k (by omega))) (fun k hk => (y4 k hk).trans (hhi k hk)) y6 (fun g1 I1 W1 v z1 z2 z3 z4 z5 z6 z7 z8 => hq g1 I1 W1 v z1 z2 z3 z4 z5 (fun L9 n1 => (z6 L9 n1).trans (y5 L9 n1)) z7 ((zf.rf.tr y7).tr z8))
          · refine w_aload_n (List.Mem.tail _ (List.Mem.tail _ (List.Mem.tail _ (List.Mem.head _)))) (tX11_minute_0_ok (41, .aload_n 0, 1) (List.mem_of_getElem? (i := 24) rfl)) ?_
            refine w_iload_n (List.Mem.tail _ (List.Mem.tail _ (List.Mem.head _))) (tX11_minute_0_ok (42, .iload_n 3, 1) (List.mem_of_getElem? (i := 25) rfl)) ?_
            refine w_bipush (by decide) (tX11_minute_0_ok (43, .bipush 6, 2) (List.mem_of_getElem? (i := 26) rfl)) (fun zv37 ze38 => ?_)
            refine w_callV (own := 16) (mi := 219) [.int p, .int zv37] [] [(0, .ref (ad 50)), (1, .int p), (2, .int zv37)] rfl (cllw_X11 (255, 0, 219) (List.mem_of_getElem? (i := 34) rfl)) rfl rfl (hz.ob rfl rfl) rfl (by omega) (w_lo (n := 22) rfl (by omega)) (Nat.le_of_ble_eq_true rfl) (Nat.le_of_ble_eq_true rfl) rfl (tX11_minute_0_ok (45, .invokevirtual 255, 3) (List.mem_of_getElem? (i := 27) rfl)) (y_of hT hz hp h0 (by omega) (fun zv39 ze40 => ?_))
            show ww l D tys A X fr lo mX11_minute Q 48 [(4, .int zv31), (2, .int sp), (3, .int p), (0, .ref (ad 50)), (1, .int sl9)] [.int zv39] h
            rw [show zv37.toInt.toNat = 6 by omega] at ze40
            refine w_if_le (tgt := 69) (tX11_minute_0_ok (48, .ifCond .le 21, 3) (List.mem_of_getElem? (i := 28) rfl)) rfl (fun zb41 => ?_) (fun zb41 => ?_)
            · refine w_iconst (by decide) (tX11_minute_0_ok (69, .iconst 0, 1) (List.mem_of_getElem? (i := 38) rfl)) (fun zv42 ze43 => ?_)
              refine w_istore [(5, .int zv42), (4, .int zv31), (2, .int sp), (3, .int p), (0, .ref (ad 50)), (1, .int sl9)] rfl (Nat.le_of_ble_eq_true rfl) (tX11_minute_0_ok (70, .istore 5, 2) (List.mem_of_getElem? (i := 39) rfl)) ?_
              have ef : m_fr ρ slb p.toInt.toNat (m_k ρ b slb (T, d, 0) p.toInt.toNat).1 (m_k ρ b slb (T, d, 0) p.toInt.toNat).2.1 = false := m_fr_f (by omega) (Or.inr (by omega))
              have ed : m_d ρ slb p.toInt.toNat (m_k ρ b slb (T, d, 0) p.toInt.toNat).1 (m_k ρ b slb (T, d, 0) p.toInt.toNat).2.1 = (m_k ρ b slb (T, d, 0) p.toInt.toNat).2.1 := m_d_f (Or.inr (Or.inr (by omega)))
              refine w_lv [(0, .ref (ad 50)), (1, .int sl9), (2, .int sp), (3, .int p), (5, .int zv42)] (by intro q hq; simp only [List.mem_cons, List.not_mem_nil, or_false] at hq ⊢; rcases hq with e | e | e | e | e <;> subst e <;> simp) ?_
              refine y_mnB hT (b := b) (fb := false) (T := (m_k ρ b slb (T, d, 0) p.toInt.toNat).1) (d := (m_k ρ b slb (T, d, 0) p.toInt.toNat).2.1) hz hp hy (by omega) (by omega) (by omega) (by omega) (Or.inl ⟨by omega, rfl⟩) (m_k_ok hp.2.1 hx p.toInt.toNat (by omega)) hXT (fun g9 I9 sp9 p9 y1 y2 y3 y4 y5 y6 y7 => ?_)
              have em : m_0 ρ b p.toInt.toNat false (m_k ρ b slb (T, d, 0) p.toInt.toNat).1 ((m_k ρ b slb (T, d, 0) p.toInt.toNat).2.1) (m_k ρ b slb (T, d, 0) p.toInt.toNat).2.2 = m_k ρ b slb (T, d, 0) (p.toInt.toNat + 1) := by
                show _ = m_0 ρ b p.toInt.toNat (m_fr ρ slb p.toInt.toNat (m_k ρ b slb (T, d, 0) p.toInt.toNat).1 (m_k ρ b slb (T, d, 0) p.toInt.toNat).2.1) (m_k ρ b slb (T, d, 0) p.toInt.toNat).1 (m_d ρ slb p.toInt.toNat (m_k ρ b slb (T, d, 0) p.toInt.toNat).1 (m_k ρ b slb (T, d, 0) p.toInt.toNat).2.1) (m_k ρ b slb (T, d, 0) p.toInt.toNat).2.2
                rw [ef, ed]
              rw [← hsp] at em
              rw [em] at y2 y3
              have ep : p9.toInt.toNat = p.toInt.toNat + 1 := by omega
              rw [← ep] at y2 y3
              have ed9 : W 50 36 = (m_k ρ b slb (T, d, 0) p9.toInt.toNat).2.1 := by
                rw [ep, show (m_k ρ b slb (T, d, 0) (p.toInt.toNat + 1)).2.1 = m_d ρ slb p.toInt.toNat (m_k ρ b slb (T, d, 0) p.toInt.toNat).1 (m_k ρ b slb (T, d, 0) p.toInt.toNat).2.1 from m_0_d _ _ _ _ _, ed]
                exact hd
              exact ih (j9 - 1) (by omega) g9 I9 W sp9 p9 (by omega) (by omega) y2 y3 ed9 (hp.mv (by rw [y5 50 (by decide)]) (y5 55 (by decide))) (hy.mv (by rw [y5 50 (by decide)]) (y5 55 (by decide)) (y5 62 (by decide)) (fun k k1 k2 => y4 k (by omega))) (fun k hk => (y4 k hk).trans (hhi k hk)) y6 (fun g1 I1 W1 v z1 z2 z3 z4 z5 z6 z7 z8 => hq g1 I1 W1 v z1 z2 z3 z4 z5 (fun L9 n1 => (z6 L9 n1).trans (y5 L9 n1)) z7 ((zf.rf.tr y7).tr z8))
            · refine w_aload_n (List.Mem.tail _ (List.Mem.tail _ (List.Mem.tail _ (List.Mem.head _)))) (tX11_minute_0_ok (51, .aload_n 0, 1) (List.mem_of_getElem? (i := 29) rfl)) ?_
              refine w_callV (own := 16) (mi := 176) [] [] [(0, .ref (ad 50))] rfl (cllw_X11 (301, 0, 176) (List.mem_of_getElem? (i := 43) rfl)) rfl rfl (hz.ob rfl rfl) rfl (by omega) (w_lo (n := 20) rfl (by omega)) (Nat.le_of_ble_eq_true rfl) (Nat.le_of_ble_eq_true rfl) rfl (tX11_minute_0_ok (52, .invokevirtual 301, 3) (List.mem_of_getElem? (i := 30) rfl)) (y_draw hz (fun zh44 zW45 zv49 ze50 zq46 zz47 zf48 => ?_))
              show ww l D tys A X fr lo mX11_minute Q 55 [(4, .int zv31), (2, .int sp), (3, .int p), (0, .ref (ad 50)), (1, .int sl9)] [.int zv49] zh44
              rw [hd] at zq46 ze50
              refine w_aload_n (List.Mem.tail _ (List.Mem.tail _ (List.Mem.tail _ (List.Mem.head _)))) (tX11_minute_0_ok (55, .aload_n 0, 1) (List.mem_of_getElem? (i := 31) rfl)) ?_
              refine w_iload_n (List.Mem.tail _ (List.Mem.tail _ (List.Mem.head _))) (tX11_minute_0_ok (56, .iload_n 3, 1) (List.mem_of_getElem? (i := 32) rfl)) ?_
              refine w_bipush (by decide) (tX11_minute_0_ok (57, .bipush 6, 2) (List.mem_of_getElem? (i := 33) rfl)) (fun zv51 ze52 => ?_)
              refine w_callV (own := 16) (mi := 219) [.int p, .int zv51] [.int zv49] [(0, .ref (ad 50)), (1, .int p), (2, .int zv51)] rfl (cllw_X11 (255, 0, 219) (List.mem_of_getElem? (i := 34) rfl)) rfl rfl (zz47.ob rfl rfl) rfl (by omega) (w_lo (n := 22) rfl (by omega)) (Nat.le_of_ble_eq_true rfl) (Nat.le_of_ble_eq_true rfl) rfl (tX11_minute_0_ok (59, .invokevirtual 255, 3) (List.mem_of_getElem? (i := 34) rfl)) (y_of hT zz47 hp h0 (by omega) (fun zv53 ze54 => ?_))
              show ww l D tys A X fr lo mX11_minute Q 62 [(4, .int zv31), (2, .int sp), (3, .int p), (0, .ref (ad 50)), (1, .int sl9)] [.int zv53, .int zv49] zh44
              rw [show zv51.toInt.toNat = 6 by omega] at ze54
              refine w_icmp_ge (tgt := 69) (tX11_minute_0_ok (62, .if_icmp .ge 7, 3) (List.mem_of_getElem? (i := 35) rfl)) rfl (fun zb55 => ?_) (fun zb55 => ?_)
              · refine w_iconst (by decide) (tX11_minute_0_ok (69, .iconst 0, 1) (List.mem_of_getElem? (i := 38) rfl)) (fun zv56 ze57 => ?_)
                refine w_istore [(5, .int zv56), (4, .int zv31), (2, .int sp), (3, .int p), (0, .ref (ad 50)), (1, .int sl9)] rfl (Nat.le_of_ble_eq_true rfl) (tX11_minute_0_ok (70, .istore 5, 2) (List.mem_of_getElem? (i := 39) rfl)) ?_
                have ef : m_fr ρ slb p.toInt.toNat (m_k ρ b slb (T, d, 0) p.toInt.toNat).1 (m_k ρ b slb (T, d, 0) p.toInt.toNat).2.1 = false := (m_fr_t ze50 (by omega) (hs1 (by omega)) (by omega)).trans (decide_eq_false (by omega))
                have ed : m_d ρ slb p.toInt.toNat (m_k ρ b slb (T, d, 0) p.toInt.toNat).1 (m_k ρ b slb (T, d, 0) p.toInt.toNat).2.1 = d_nx (m_k ρ b slb (T, d, 0) p.toInt.toNat).2.1 := m_d_t (by omega) (hs1 (by omega)) (by omega)
                refine w_lv [(0, .ref (ad 50)), (1, .int sl9), (2, .int sp), (3, .int p), (5, .int zv56)] (by intro q hq; simp only [List.mem_cons, List.not_mem_nil, or_false] at hq ⊢; rcases hq with e | e | e | e | e <;> subst e <;> simp) ?_
                refine y_mnB hT (b := b) (fb := false) (T := (m_k ρ b slb (T, d, 0) p.toInt.toNat).1) (d := d_nx (m_k ρ b slb (T, d, 0) p.toInt.toNat).2.1) zz47 hp hy (by omega) (by omega) (by omega) (by omega) (Or.inl ⟨by omega, rfl⟩) (m_k_ok hp.2.1 hx p.toInt.toNat (by omega)) hXT (fun g9 I9 sp9 p9 y1 y2 y3 y4 y5 y6 y7 => ?_)
                have em : m_0 ρ b p.toInt.toNat false (m_k ρ b slb (T, d, 0) p.toInt.toNat).1 (d_nx (m_k ρ b slb (T, d, 0) p.toInt.toNat).2.1) (m_k ρ b slb (T, d, 0) p.toInt.toNat).2.2 = m_k ρ b slb (T, d, 0) (p.toInt.toNat + 1) := by
                  show _ = m_0 ρ b p.toInt.toNat (m_fr ρ slb p.toInt.toNat (m_k ρ b slb (T, d, 0) p.toInt.toNat).1 (m_k ρ b slb (T, d, 0) p.toInt.toNat).2.1) (m_k ρ b slb (T, d, 0) p.toInt.toNat).1 (m_d ρ slb p.toInt.toNat (m_k ρ b slb (T, d, 0) p.toInt.toNat).1 (m_k ρ b slb (T, d, 0) p.toInt.toNat).2.1) (m_k ρ b slb (T, d, 0) p.toInt.toNat).2.2
                  rw [ef, ed]
                rw [← hsp] at em
                rw [em] at y2 y3
                have ep : p9.toInt.toNat = p.toInt.toNat + 1 := by omega
                rw [← ep] at y2 y3
                have ed9 : zW45 50 36 = (m_k ρ b slb (T, d, 0) p9.toInt.toNat).2.1 := by
                  rw [ep, show (m_k ρ b slb (T, d, 0) (p.toInt.toNat + 1)).2.1 = m_d ρ slb p.toInt.toNat (m_k ρ b slb (T, d, 0) p.toInt.toNat).1 (m_k ρ b slb (T, d, 0) p.toInt.toNat).2.1 from m_0_d _ _ _ _ _, ed]
                  rw [zq46, s2_s, wpd_s]
                exact ih (j9 - 1) (by omega) g9 I9 zW45 sp9 p9 (by omega) (by omega) y2 y3 ed9 (hp.mv (by rw [y5 50 (by decide)]) (y5 55 (by decide))) (hy.mv (by rw [y5 50 (by decide)]) (y5 55 (by decide)) (y5 62 (by decide)) (fun k k1 k2 => y4 k (by omega))) (fun k hk => (y4 k hk).trans (hhi k hk)) y6 (fun g1 I1 W1 v z1 z2 z3 z4 z5 z6 z7 z8 => hq g1 I1 W1 v z1 z2 z3 (fun L9 n1 => (z4 L9 n1).trans (by rw [zq46, s2_n n1])) (fun k nk => (z5 k nk).trans (by rw [zq46, s2_s, wpd_n _ _ nk])) (fun L9 n1 => (z6 L9 n1).trans (y5 L9 n1)) z7 ((zf48.tr y7).tr z8))
              · refine w_iconst (by decide) (tX11_minute_0_ok (65, .iconst 1, 1) (List.mem_of_getElem? (i := 36) rfl)) (fun zv58 ze59 => ?_)
                refine w_goto (tgt := 70) (tX11_minute_0_ok (66, .goto 4, 3) (List.mem_of_getElem? (i := 37) rfl)) rfl ?_
                refine w_istore [(5, .int zv58), (4, .int zv31), (2, .int sp), (3, .int p), (0, .ref (ad 50)), (1, .int sl9)] rfl (Nat.le_of_ble_eq_true rfl) (tX11_minute_0_ok (70, .istore 5, 2) (List.mem_of_getElem? (i := 39) rfl)) ?_
                have ef : m_fr ρ slb p.toInt.toNat (m_k ρ b slb (T, d, 0) p.toInt.toNat).1 (m_k ρ b slb (T, d, 0) p.toInt.toNat).2.1 = true := (m_fr_t ze50 (by omega) (hs1 (by omega)) (by omega)).trans (decide_eq_true (by omega))
                have ed : m_d ρ slb p.toInt.toNat (m_k ρ b slb (T, d, 0) p.toInt.toNat).1 (m_k ρ b slb (T, d, 0) p.toInt.toNat).2.1 = d_nx (m_k ρ b slb (T, d, 0) p.toInt.toNat).2.1 := m_d_t (by omega) (hs1 (by omega)) (by omega)
                refine w_lv [(0, .ref (ad 50)), (1, .int sl9), (2, .int sp), (3, .int p), (5, .int zv58)] (by intro q hq; simp only [List.mem_cons, List.not_mem_nil, or_false] at hq ⊢; rcases hq with e | e | e | e | e <;> subst e <;> simp) ?_
                refine y_mnB hT (b := b) (fb := true) (T := (m_k ρ b slb (T, d, 0) p.toInt.toNat).1) (d := d_nx (m_k ρ b slb (T, d, 0) p.toInt.toNat).2.1) zz47 hp hy (by omega) (by omega) (by omega) (by omega) (Or.inr ⟨by omega, rfl⟩) (m_k_ok hp.2.1 hx p.toInt.toNat (by omega)) hXT (fun g9 I9 sp9 p9 y1 y2 y3 y4 y5 y6 y7 => ?_)
                have em : m_0 ρ b p.toInt.toNat true (m_k ρ b slb (T, d, 0) p.toInt.toNat).1 (d_nx (m_k ρ b slb (T, d, 0) p.toInt.toNat).2.1) (m_k ρ b slb (T, d, 0) p.toInt.toNat).2.2 = m_k ρ b slb (T, d, 0) (p.toInt.toNat + 1) := by
                  show _ = m_0 ρ b p.toInt.toNat (m_fr ρ slb p.toInt.toNat (m_k ρ b slb (T, d, 0) p.toInt.toNat).1 (m_k ρ b slb (T, d, 0) p.toInt.toNat).2.1) (m_k ρ b slb (T, d, 0) p.toInt.toNat).1 (m_d ρ slb p.toInt.toNat (m_k ρ b slb (T, d, 0) p.toInt.toNat).1 (m_k ρ b slb (T, d, 0) p.toInt.toNat).2.1) (m_k ρ b slb (T, d, 0) p.toInt.toNat).2.2
                  rw [ef, ed]
                rw [← hsp] at em
                rw [em] at y2 y3
                have ep : p9.toInt.toNat = p.toInt.toNat + 1 := by omega
                rw [← ep] at y2 y3
                have ed9 : zW45 50 36 = (m_k ρ b slb (T, d, 0) p9.toInt.toNat).2.1 := by
                  rw [ep, show (m_k ρ b slb (T, d, 0) (p.toInt.toNat + 1)).2.1 = m_d ρ slb p.toInt.toNat (m_k ρ b slb (T, d, 0) p.toInt.toNat).1 (m_k ρ b slb (T, d, 0) p.toInt.toNat).2.1 from m_0_d _ _ _ _ _, ed]
                  rw [zq46, s2_s, wpd_s]
                exact ih (j9 - 1) (by omega) g9 I9 zW45 sp9 p9 (by omega) (by omega) y2 y3 ed9 (hp.mv (by rw [y5 50 (by decide)]) (y5 55 (by decide))) (hy.mv (by rw [y5 50 (by decide)]) (y5 55 (by decide)) (y5 62 (by decide)) (fun k k1 k2 => y4 k (by omega))) (fun k hk => (y4 k hk).trans (hhi k hk)) y6 (fun g1 I1 W1 v z1 z2 z3 z4 z5 z6 z7 z8 => hq g1 I1 W1 v z1 z2 z3 (fun L9 n1 => (z4 L9 n1).trans (by rw [zq46, s2_n n1])) (fun k nk => (z5 k nk).trans (by rw [zq46, s2_s, wpd_n _ _ nk])) (fun L9 n1 => (z6 L9 n1).trans (y5 L9 n1)) z7 ((zf48.tr y7).tr z8))
theorem y_minute (hT : k_tys tys cA) {T : Nat → Int32} {d : Int64} {sl9 : Int32} {slb : Bool} (hz : zr zNM cA ad I W O h) (hp : qz I n ρ) (hy : yz I n pe b) (hf : 17 ≤ fr) (hlo : 440 ≤ lo) (hsl : sl9.toInt = 0 ∧ slb = false ∨ sl9.toInt = 1 ∧ slb = true) (hx : m_ok n ρ T) (hOT : ∀ q, q < n → I 56 (12 + q) = T (12 + q)) (hXT : ∀ q, q < n → I 56 q = T q ∧ I 56 (6 + q) = T (6 + q)) (hd : W 50 36 = d) (hq : ∀ (g : ch_H) (I1 : zI) (W1 : zW) (v : Int32), v.toInt = (m_k ρ b slb (T, d, 0) n).2.2 → (∀ q, q < n → I1 56 q = (m_k ρ b slb (T, d, 0) n).1 q ∧ I1 56 (6 + q) = (m_k ρ b slb (T, d, 0) n).1 (6 + q)) → W1 50 36 = (m_k ρ b slb (T, d, 0) n).2.1 → (∀ L, L ≠ 50 → W1 L = W L) → (∀ k, k ≠ 36 → W1 50 k = W 50 k) → (∀ L, L ≠ 56 → I1 L = I L) → (I1 56 38 = I 56 38 + 1 ∧ (∀ k, 12 ≤ k → k ≠ 38 → I1 56 k = I 56 k) ∧ zr zNM cA ad I1 W1 O g) → zf zNM ad h g → Q (some (.int v)) g) : ww l D tys A X fr lo mX11_minute Q 0 [(0, .ref (ad 50)), (1, .int sl9)] [] h := by
  refine w_iconst (by decide) (tX11_minute_0_ok (0, .iconst 0, 1) (List.mem_of_getElem? (i := 0) rfl)) (fun zv1 ze2 => ?_)
  refine w_istore_n [(2, .int zv1), (0, .ref (ad 50)), (1, .int sl9)] rfl (Nat.le_of_ble_eq_true rfl) (tX11_minute_0_ok (1, .istore_n 2, 1) (List.mem_of_getElem? (i := 1) rfl)) ?_
  refine w_iconst (by decide) (tX11_minute_0_ok (2, .iconst 0, 1) (List.mem_of_getElem? (i := 2) rfl)) (fun zv3 ze4 => ?_)
  refine w_istore_n [(3, .int zv3), (2, .int zv1), (0, .ref (ad 50)), (1, .int sl9)] rfl (Nat.le_of_ble_eq_true rfl) (tX11_minute_0_ok (3, .istore_n 3, 1) (List.mem_of_getElem? (i := 3) rfl)) ?_
  refine w_lv [(2, .int zv1), (3, .int zv3), (0, .ref (ad 50)), (1, .int sl9)] (by intro q hq; simp only [List.mem_cons, List.not_mem_nil, or_false] at hq ⊢; rcases hq with e | e | e | e <;> subst e <;> simp) ?_
  exact y_mnL hT (I0 := I) hp.2.1 hf hlo hsl hx hOT n h I W _ _ (by omega) (by omega) (by rw [show zv3.toInt.toNat = 0 by omega]; show _ = (0 : Int); omega) (by rw [show zv3.toInt.toNat = 0 by omega]; exact hXT) (by rw [show zv3.toInt.toNat = 0 by omega]; exact hd) hp hy (fun _ _ => rfl) hz hq
end
