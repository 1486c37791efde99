/-! the reference: a minute without slips -/
section
variable {R T T0 Wt : Nat → Int32} {n r : Nat}
theorem sp_ps_ext {room : Nat} (h : ∀ k, 18 ≤ k → k < 38 → T k = T0 k) : ∀ k, k ≤ 8 → sp_ps T Wt room k = sp_ps T0 Wt room k
  | 0, _ => rfl
  | k + 1, hk => by rw [sp_ps, sp_ps, sp_ps_ext h k (by omega), h (30 + k) (by omega) (by omega)]
theorem sp_hs_ext {B C : Nat → Int} {room : Nat} (h : ∀ q, q < 12 → B q = C q) : ∀ p, p ≤ 6 → sp_hs R B room p = sp_hs R C room p
  | 0, _ => rfl
  | p + 1, hp => by rw [sp_hs, sp_hs, sp_hs_ext h p (by omega), h (2 * p) (by omega), h (2 * p + 1) (by omega)]
theorem sp_br_ext (hn : n ≤ 8) (hr : r ≤ 6) (h : ∀ k, 18 ≤ k → k < 38 → T k = T0 k) : ∀ (d room : Nat), room < 12 → sp_br R T Wt n r d room = sp_br R T0 Wt n r d room
  | 0, _, _ => rfl
  | d + 1, room, hr2 => by rw [sp_br, sp_br, h (18 + room) (by omega) (by omega), sp_ps_ext h n hn, sp_hs_ext (fun q hq => sp_br_ext hn hr h d q hq) r hr]
/-- a ROPE's pull at a place, by what its rooms bear -/
def pl_at (R : Nat → Int32) (b : Nat → Int) (p : Nat) (x : Int) : Int := sp_pl9 (R (9 * p)).toInt (R (9 * p + 7)).toInt (R (9 * p + 1)).toInt x (b (2 * p)) (b (2 * p + 1))
/-- how many moves may be left -/
def ph_at (R : Nat → Int32) (b : Nat → Int) (p : Nat) (x : Int) : Int := if 0 < pl_at R b p x then x else if pl_at R b p x < 0 then (R (9 * p + 1)).toInt - x else 0
def ph_s (R T : Nat → Int32) (b : Nat → Int) : Nat → Int
  | 0 => 0
  | p + 1 => ph_s R T b p + ph_at R b p (T p).toInt
theorem ph_s_ext {b : Nat → Int} : ∀ p, (∀ q, q < p → T q = T0 q) → ph_s R T b p = ph_s R T0 b p
  | 0, _ => rfl
  | p + 1, h => by rw [ph_s, ph_s, ph_s_ext p (fun q hq => h q (by omega)), h p (by omega)]
theorem ph_dn {b : Nat → Int} {p : Nat} {x y : Int} (hH : 0 ≤ (R (9 * p + 7)).toInt) (h : 0 < pl_at R b p x) (hy : y < x) : ph_at R b p y + 1 ≤ ph_at R b p x := by
  have h1 : 0 < pl_at R b p y := sp_pl9_up hH h (by omega)
  unfold ph_at
  rw [if_pos h, if_pos h1]
  omega
theorem ph_up {b : Nat → Int} {p : Nat} {x y : Int} (hH : 0 ≤ (R (9 * p + 7)).toInt) (h : pl_at R b p x < 0) (hy : x < y) : ph_at R b p y + 1 ≤ ph_at R b p x := by
  have h1 : pl_at R b p y < 0 := sp_pl9_dn hH h (by omega)
  unfold ph_at
  rw [if_neg (show ¬ 0 < pl_at R b p y by omega), if_pos h1, if_neg (show ¬ 0 < pl_at R b p x by omega), if_pos h]
  omega
/-- what a minute goes by: rows within their bounds -/
def mi9 (R T : Nat → Int32) : Prop := ∀ p, p < 6 → 0 ≤ (R (9 * p + 7)).toInt ∧ (R (9 * p + 7)).toInt ≤ 9 ∧ 0 ≤ (R (9 * p + 1)).toInt ∧ (R (9 * p + 1)).toInt ≤ 20 ∧ 0 ≤ (T p).toInt ∧ (T p).toInt ≤ 20
theorem mi9.upd {p : Nat} {x y : Int32} (h : mi9 R T) (hp : p < 6) (hx : 0 ≤ x.toInt ∧ x.toInt ≤ 20) : mi9 R (upd (upd T p x) (6 + p) y) := by
  intro q hq
  obtain ⟨h1, h2, h3, h4, h5, h6⟩ := h q hq
  refine ⟨h1, h2, h3, h4, ?_⟩
  rw [upd_n _ _ (by omega)]
  by_cases c : q = p
  · subst c; rw [upd_s]; exact hx
  · rw [upd_n _ _ c]; exact ⟨h5, h6⟩
theorem bo.upd {p : Nat} {x y : Int32} (h : bo R T Wt n r) (hp : p < 6) : bo R (upd (upd T p x) (6 + p) y) Wt n r := ⟨h.1, fun k hk => by rw [upd_n _ _ (by omega), upd_n _ _ (by omega)]; exact h.2.1 k hk, h.2.2⟩
end
section
variable {l : Launch} {D : va_G} {tys : List (ClassId × FieldType)} {A : Nat → Prop} {X : State → Prop} {fr lo : Nat} {M : ch_M} {Q : Option Value → ch_H → Prop} {pc : Nat} {lv : List (Nat × Value)} {st : List Value} {h : ch_H} {cA : Nat → ClassId} {m ro to we : Nat} {fs : List Value} {R T T0 Wt : Nat → Int32} {pe rp : Int32}
theorem w_absA {x : Int32} (hM : M.1.cls = RX11) (hf : 1 ≤ fr) (hl : 30 ≤ lo) (hd : decode M.2.1 pc = .ok (.invokestatic 304, 3)) (k : ∀ v : Int32, ww l D tys A X fr lo M Q (pc + 3) lv [.int v] h) : ww l D tys A X fr lo M Q pc lv [.int x] h := by
  have hw : Cond.methodLink M.1.cls 304 Lib.Math.abs.name ∈ wsA := by rw [hM]; exact cllw_X11 (304, 12, 0) (List.mem_of_getElem? (i := 44) rfl)
  exact tt_mabs hw pg_abs.1 pg_math pg_abs.2 hf (by show 13 ≤ lo; omega) (Nat.le_refl _) (Nat.le_refl _) hd (k _)
theorem h_minL (hT : k_tys tys cA) {sl : Int32} {b : Nat → Int} (hsl : sl.toInt = 0) (n_m_to : m ≠ to) (n_ro_to : ro ≠ to) (n_we_to : we ≠ to) (hb : ∀ q, q < 12 → b q = sp_br R T0 Wt pe.toInt.toNat rp.toInt.toNat 12 q) (hf : 16 ≤ fr) (hl : 420 ≤ lo) : ∀ (j : Nat) (p sp : Int32) (h : ch_H) (T : Nat → Int32), 0 ≤ p.toInt → p.toInt + j = rp.toInt → 0 ≤ sp.toInt ∧ sp.toInt ≤ p.toInt → br9 cA h m fs ro to we R T Wt pe rp → mi9 R T → (∀ q, 18 ≤ q → q < 38 → T q = T0 q) → (∀ q, p.toInt.toNat ≤ q → q < 6 → T q = T0 q) → ph_s R T b p.toInt.toNat + sp.toInt ≤ ph_s R T0 b p.toInt.toNat → (∀ (h1 : ch_H) (T1 : Nat → Int32) (v : Int32), br9 cA h1 m fs ro to we R T1 Wt pe rp → mi9 R T1 → (∀ q, 18 ≤ q → q < 38 → T1 q = T0 q) → 0 ≤ v.toInt → ph_s R T1 b rp.toInt.toNat + v.toInt ≤ ph_s R T0 b rp.toInt.toNat → (∀ q, q ≠ to → h1 q = h q) → Q (some (.int v)) h1) → ww l D tys A X fr lo mX11_minute Q 4 [(3, .int p), (2, .int sp), (0, .ref m), (1, .int sl)] [] h := by
  intro j
  induction j using Nat.strongRecOn with
  | ind j ih =>
    intro p sp h T hp0 hj hsp H hmi hT0 hge hph hq
    have H9 := H
    have hs0 := hsp.1
    obtain ⟨c_m, fL19, fL20, fL22, fL28, fL33, c_ro, c_to, c_we, pe0, rp0, hbo⟩ := H
    have pe8 := hbo.2.2.2.1
    have rp6 := hbo.2.2.2.2
    have hbr : ∀ q, q < 12 → sp_br R T Wt pe.toInt.toNat rp.toInt.toNat 12 q = b q := fun q hq => by rw [hb q hq]; exact sp_br_ext pe8 rp6 hT0 12 q hq
    refine w_iload_n (List.Mem.head _) (tX11_minute_0_ok (4, .iload_n 3, 1) (List.mem_of_getElem? (i := 4) rfl)) ?_
    refine w_aload_n (List.Mem.tail _ (List.Mem.tail _ (List.Mem.head _))) (tX11_minute_0_ok (5, .aload_n 0, 1) (List.mem_of_getElem? (i := 5) rfl)) ?_
    refine w_get (own := 16) rfl rfl (by decide) c_m fL20 (tX11_minute_0_ok (6, .getfield 248, 3) (List.mem_of_getElem? (i := 6) rfl)) ?_
    refine w_icmp_ge (tgt := 204) (tX11_minute_0_ok (9, .if_icmp .ge 195, 3) (List.mem_of_getElem? (i := 7) rfl)) rfl (fun zb1 => ?_) (fun zb1 => ?_)
    · refine w_aload_n (List.Mem.tail _ (List.Mem.tail _ (List.Mem.head _))) (tX11_minute_1_ok (204, .aload_n 0, 1) (List.mem_of_getElem? (i := 51) rfl)) ?_
      refine w_get (own := 16) rfl rfl (by decide) c_m fL22 (tX11_minute_1_ok (205, .getfield 45, 3) (List.mem_of_getElem? (i := 52) rfl)) ?_
      refine w_bipush (by decide) (tX11_minute_1_ok (208, .bipush 38, 2) (List.mem_of_getElem? (i := 53) rfl)) (fun zv2 ze3 => ?_)
      refine tt_dup2 rfl rfl (tX11_minute_1_ok (210, .dup2, 1) (List.mem_of_getElem? (i := 54) rfl)) ?_
      show ww l D tys A X fr lo mX11_minute Q 211 [(3, .int p), (2, .int sp), (0, .ref m), (1, .int sl)] [.int zv2, .ref to, .int zv2, .ref to] h
      refine w_iald hT c_to (by omega) (by omega) (tX11_minute_1_ok (211, .iaload, 1) (List.mem_of_getElem? (i := 55) rfl)) (fun zv4 ze5 => ?_)
      refine w_iconst (by decide) (tX11_minute_1_ok (212, .iconst 1, 1) (List.mem_of_getElem? (i := 56) rfl)) (fun zv6 ze7 => ?_)
      refine w_iaddA (tX11_minute_1_ok (213, .iadd, 1) (List.mem_of_getElem? (i := 57) rfl)) (fun zv8 => ?_)
      refine w_iast hT c_to (by omega) (by omega) (tX11_minute_1_ok (214, .iastore, 1) (List.mem_of_getElem? (i := 58) rfl)) (fun zh9 zc10 zo11 => ?_)
      have zc12 := (zo11 m n_m_to).trans c_m
      have zc13 := (zo11 ro n_ro_to).trans c_ro
      have zc14 := (zo11 we n_we_to).trans c_we
      refine w_iload_n (List.Mem.tail _ (List.Mem.head _)) (tX11_minute_1_ok (215, .iload_n 2, 1) (List.mem_of_getElem? (i := 59) rfl)) ?_
      refine w_iret rfl (tX11_minute_2_ok (216, .ireturn, 1) (List.mem_of_getElem? (i := 0) rfl)) ?_
      have e1 : zv2.toInt.toNat = 38 := by omega
      have c9 := zc10
      rw [e1] at c9
      have z8 : p.toInt.toNat = rp.toInt.toNat := by omega
      rw [z8] at hph
      refine hq zh9 (upd T 38 zv8) sp ⟨zc12, fL19, fL20, fL22, fL28, fL33, zc13, c9, zc14, pe0, rp0, hbo.1, fun k hk => by rw [upd_n _ _ (by omega)]; exact hbo.2.1 k hk, hbo.2.2⟩ (fun q hq => by rw [upd_n _ _ (by omega)]; exact hmi q hq) (fun q q1 q2 => by rw [upd_n _ _ (by omega)]; exact hT0 q q1 q2) hs0 ?_ (fun q hq => zo11 q hq)
      rw [ph_s_ext (T := upd T 38 zv8) (T0 := T) _ (fun q hq => upd_n _ _ (by omega))]
      exact hph
    · have mb := hmi p.toInt.toNat (by omega)
      refine w_aload_n (List.Mem.tail _ (List.Mem.tail _ (List.Mem.head _))) (tX11_minute_0_ok (12, .aload_n 0, 1) (List.mem_of_getElem? (i := 8) rfl)) ?_
      refine w_get (own := 16) rfl rfl (by decide) c_m fL22 (tX11_minute_0_ok (13, .getfield 45, 3) (List.mem_of_getElem? (i := 9) rfl)) ?_
      refine w_bipush (by decide) (tX11_minute_0_ok (16, .bipush 12, 2) (List.mem_of_getElem? (i := 10) rfl)) (fun zv15 ze16 => ?_)
      refine w_iload_n (List.Mem.head _) (tX11_minute_0_ok (18, .iload_n 3, 1) (List.mem_of_getElem? (i := 11) rfl)) ?_
      refine w_iadd (by omega) (by omega) (tX11_minute_0_ok (19, .iadd, 1) (List.mem_of_getElem? (i := 12) rfl)) (fun zv17 ze18 => ?_)
      refine w_iald hT c_to (by omega) (by omega) (tX11_minute_0_ok (20, .iaload, 1) (List.mem_of_getElem? (i := 13) rfl)) (fun zv19 ze20 => ?_)
      refine w_iconst (by decide) (tX11_minute_0_ok (21, .iconst 1, 1) (List.mem_of_getElem? (i := 14) rfl)) (fun zv21 ze22 => ?_)
      refine w_icmp_ne (tgt := 29) (tX11_minute_0_ok (22, .if_icmp .ne 7, 3) (List.mem_of_getElem? (i := 15) rfl)) rfl (fun zb23 => ?_) (fun zb23 => ?_)
      · refine w_iconst (by decide) (tX11_minute_0_ok (29, .iconst 0, 1) (List.mem_of_getElem? (i := 18) rfl)) (fun zv24 ze25 => ?_)
        refine w_istore [(4, .int zv24), (3, .int p), (2, .int sp), (0, .ref m), (1, .int sl)] rfl (Nat.le_of_ble_eq_true rfl) (tX11_minute_0_ok (30, .istore 4, 2) (List.mem_of_getElem? (i := 19) rfl)) ?_
        refine w_iload (List.Mem.head _) (tX11_minute_0_ok (32, .iload 4, 2) (List.mem_of_getElem? (i := 20) rfl)) ?_
        refine w_if_eq (tgt := 65) (tX11_minute_0_ok (34, .ifCond .eq 31, 3) (List.mem_of_getElem? (i := 21) rfl)) rfl (fun zb26 => ?_) (fun zb26 => ?_)
        · refine w_iconst (by decide) (tX11_minute_0_ok (65, .iconst 1, 1) (List.mem_of_getElem? (i := 36) rfl)) (fun zv27 ze28 => ?_)
          refine w_goto (tgt := 70) (tX11_minute_0_ok (66, .goto 4, 3) (List.mem_of_getElem? (i := 37) rfl)) rfl ?_
          refine w_istore [(5, .int zv27), (4, .int zv24), (3, .int p), (2, .int sp), (0, .ref m), (1, .int sl)] rfl (Nat.le_of_ble_eq_true rfl) (tX11_minute_0_ok (70, .istore 5, 2) (List.mem_of_getElem? (i := 39) rfl)) ?_
          refine w_aload_n (List.Mem.tail _ (List.Mem.tail _ (List.Mem.tail _ (List.Mem.tail _ (List.Mem.head _))))) (tX11_minute_0_ok (72, .aload_n 0, 1) (List.mem_of_getElem? (i := 40) rfl)) ?_
          refine w_iload_n (List.Mem.tail _ (List.Mem.tail _ (List.Mem.head _))) (tX11_minute_0_ok (73, .iload_n 3, 1) (List.mem_of_getElem? (i := 41) rfl)) ?_
          refine w_callV (own := 16) (mi := 230) [.int p] [] [(0, .ref m), (1, .int p)] rfl (cllw_X11 (289, 0, 230) (List.mem_of_getElem? (i := 36) rfl)) rfl rfl c_m rfl (by omega) (w_lo (n := 23) rfl (by omega)) (Nat.le_of_ble_eq_true rfl) (Nat.le_of_ble_eq_true rfl) rfl (tX11_minute_0_ok (74, .invokevirtual 289, 3) (List.mem_of_getElem? (i := 42) rfl)) (h_pull hT (by omega) ⟨mb.1, mb.2.1⟩ ⟨mb.2.2.1, mb.2.2.2.1⟩ mb.2.2.2.2 (by omega) (w_sub (n := 23) rfl (by omega)) H9 (fun zv29 ze30 => ?_))
          have plq : zv29.toInt = pl_at R b p.toInt.toNat (T p.toInt.toNat).toInt := by rw [ze30, hbr (2 * p.toInt.toNat) (by omega), hbr (2 * p.toInt.toNat + 1) (by omega)]; rfl
          clear ze30
          show ww l D tys A X fr lo mX11_minute Q 77 [(5, .int zv27), (4, .int zv24), (3, .int p), (2, .int sp), (0, .ref m), (1, .int sl)] [.int zv29] h
          refine w_istore [(6, .int zv29), (5, .int zv27), (4, .int zv24), (3, .int p), (2, .int sp), (0, .ref m), (1, .int sl)] rfl (Nat.le_of_ble_eq_true rfl) (tX11_minute_0_ok (77, .istore 6, 2) (List.mem_of_getElem? (i := 43) rfl)) ?_
          refine w_iload (List.Mem.tail _ (List.Mem.head _)) (tX11_minute_0_ok (79, .iload 5, 2) (List.mem_of_getElem? (i := 44) rfl)) ?_
          refine w_if_eq (tgt := 89) (tX11_minute_0_ok (81, .ifCond .eq 8, 3) (List.mem_of_getElem? (i := 45) rfl)) rfl (fun zb31 => ?_) (fun zb31 => ?_)
          · exfalso; omega
          · refine w_iload (List.Mem.head _) (tX11_minute_0_ok (84, .iload 6, 2) (List.mem_of_getElem? (i := 46) rfl)) ?_
            refine w_if_ne (tgt := 106) (tX11_minute_0_ok (86, .ifCond .ne 20, 3) (List.mem_of_getElem? (i := 47) rfl)) rfl (fun zb32 => ?_) (fun zb32 => ?_)
            · refine w_aload_n (List.Mem.tail _ (List.Mem.tail _ (List.Mem.tail _ (List.Mem.tail _ (List.Mem.tail _ (List.Mem.head _)))))) (tX11_minute_0_ok (106, .aload_n 0, 1) (List.mem_of_getElem? (i := 56) rfl)) ?_
              refine w_iload_n (List.Mem.tail _ (List.Mem.tail _ (List.Mem.tail _ (List.Mem.head _)))) (tX11_minute_0_ok (107, .iload_n 3, 1) (List.mem_of_getElem? (i := 57) rfl)) ?_
              refine w_iconst (by decide) (tX11_minute_0_ok (108, .iconst 0, 1) (List.mem_of_getElem? (i := 58) rfl)) (fun zv33 ze34 => ?_)
              refine w_callV (own := 16) (mi := 219) [.int p, .int zv33] [] [(0, .ref m), (1, .int p), (2, .int zv33)] rfl (cllw_X11 (255, 0, 219) (List.mem_of_getElem? (i := 34) rfl)) rfl rfl c_m rfl (by omega) (w_lo (n := 22) rfl (by omega)) (Nat.le_of_ble_eq_true rfl) (Nat.le_of_ble_eq_true rfl) rfl (tX11_minute_0_ok (109, .invokevirtual 255, 3) (List.mem_of_getElem? (i := 59) rfl)) (h_of hT (by omega) (by omega) H9 (fun zv35 ze36 => ?_))
              have zi37 : 9 * p.toInt.toNat + zv33.toInt.toNat = 9 * p.toInt.toNat := by omega
              rw [zi37] at ze36
              show ww l D tys A X fr lo mX11_minute Q 112 [(6, .int zv29), (5, .int zv27), (4, .int zv24), (3, .int p), (2, .int sp), (0, .ref m), (1, .int sl)] [.int zv35] h
              refine w_iconst (by decide) (tX11_minute_1_ok (112, .iconst 1, 1) (List.mem_of_getElem? (i := 0) rfl)) (fun zv38 ze39 => ?_)
              refine w_icmp_ne (tgt := 120) (tX11_minute_1_ok (113, .if_icmp .ne 7, 3) (List.mem_of_getElem? (i := 1) rfl)) rfl (fun zb40 => ?_) (fun zb40 => ?_)
              · refine w_iconst (by decide) (tX11_minute_1_ok (120, .iconst 1, 1) (List.mem_of_getElem? (i := 4) rfl)) (fun zv41 ze42 => ?_)
                refine w_istore [(7, .int zv41), (6, .int zv29), (5, .int zv27), (4, .int zv24), (3, .int p), (2, .int sp), (0, .ref m), (1, .int sl)] rfl (Nat.le_of_ble_eq_true rfl) (tX11_minute_1_ok (121, .istore 7, 2) (List.mem_of_getElem? (i := 5) rfl)) ?_
                refine w_iload (List.Mem.tail _ (List.Mem.head _)) (tX11_minute_1_ok (123, .iload 6, 2) (List.mem_of_getElem? (i := 6) rfl)) ?_
                refine w_if_le (tgt := 140) (tX11_minute_1_ok (125, .ifCond .le 15, 3) (List.mem_of_getElem? (i := 7) rfl)) rfl (fun zb43 => ?_) (fun zb43 => ?_)
                · refine w_aload_n (List.Mem.tail _ (List.Mem.tail _ (List.Mem.tail _ (List.Mem.tail _ (List.Mem.tail _ (List.Mem.tail _ (List.Mem.head _))))))) (tX11_minute_1_ok (140, .aload_n 0, 1) (List.mem_of_getElem? (i := 15) rfl)) ?_
                  refine w_get (own := 16) rfl rfl (by decide) c_m fL22 (tX11_minute_1_ok (141, .getfield 45, 3) (List.mem_of_getElem? (i := 16) rfl)) ?_
                  refine w_iload_n (List.Mem.tail _ (List.Mem.tail _ (List.Mem.tail _ (List.Mem.tail _ (List.Mem.head _))))) (tX11_minute_1_ok (144, .iload_n 3, 1) (List.mem_of_getElem? (i := 17) rfl)) ?_
                  refine w_iald hT c_to (by omega) (by omega) (tX11_minute_1_ok (145, .iaload, 1) (List.mem_of_getElem? (i := 18) rfl)) (fun zv44 ze45 => ?_)
                  have zi46 : p.toInt.toNat = p.toInt.toNat := by omega
                  rw [zi46] at ze45
                  refine w_iload (List.Mem.head _) (tX11_minute_1_ok (146, .iload 7, 2) (List.mem_of_getElem? (i := 19) rfl)) ?_
                  refine w_iadd (by omega) (by omega) (tX11_minute_1_ok (148, .iadd, 1) (List.mem_of_getElem? (i := 20) rfl)) (fun zv47 ze48 => ?_)
                  refine w_istore [(8, .int zv47), (7, .int zv41), (6, .int zv29), (5, .int zv27), (4, .int zv24), (3, .int p), (2, .int sp), (0, .ref m), (1, .int sl)] rfl (Nat.le_of_ble_eq_true rfl) (tX11_minute_1_ok (149, .istore 8, 2) (List.mem_of_getElem? (i := 21) rfl)) ?_
                  refine w_iload (List.Mem.head _) (tX11_minute_1_ok (151, .iload 8, 2) (List.mem_of_getElem? (i := 22) rfl)) ?_
                  refine w_iconst (by decide) (tX11_minute_1_ok (153, .iconst 0, 1) (List.mem_of_getElem? (i := 23) rfl)) (fun zv49 ze50 => ?_)
                  refine w_aload_n (List.Mem.tail _ (List.Mem.tail _ (List.Mem.tail _ (List.Mem.tail _ (List.Mem.tail _ (List.Mem.tail _ (List.Mem.tail _ (List.Mem.head _)))))))) (tX11_minute_1_ok (154, .aload_n 0, 1) (List.mem_of_getElem? (i := 24) rfl)) ?_
                  refine w_iload_n (List.Mem.tail _ (List.Mem.tail _ (List.Mem.tail _ (List.Mem.tail _ (List.Mem.tail _ (List.Mem.head _)))))) (tX11_minute_1_ok (155, .iload_n 3, 1) (List.mem_of_getElem? (i := 25) rfl)) ?_
                  refine w_iconst (by decide) (tX11_minute_1_ok (156, .iconst 1, 1) (List.mem_of_getElem? (i := 26) rfl)) (fun zv51 ze52 => ?_)
                  refine w_callV (own := 16) (mi := 219) [.int p, .int zv51] [.int zv49, .int zv47] [(0, .ref m), (1, .int p), (2, .int zv51)] rfl (cllw_X11 (255, 0, 219) (List.mem_of_getElem? (i := 34) rfl)) rfl rfl c_m rfl (by omega) (w_lo (n := 22) rfl (by omega)) (Nat.le_of_ble_eq_true rfl) (Nat.le_of_ble_eq_true rfl) rfl (tX11_minute_1_ok (157, .invokevirtual 255, 3) (List.mem_of_getElem? (i := 27) rfl)) (h_of hT (by omega) (by omega) H9 (fun zv53 ze54 => ?_))
                  have zi55 : 9 * p.toInt.toNat + zv51.toInt.toNat = 9 * p.toInt.toNat + 1 := by omega
                  rw [zi55] at ze54
                  show ww l D tys A X fr lo mX11_minute Q 160 [(8, .int zv47), (7, .int zv41), (6, .int zv29), (5, .int zv27), (4, .int zv24), (3, .int p), (2, .int sp), (0, .ref m), (1, .int sl)] [.int zv53, .int zv49, .int zv47] h
                  refine w_callS (own := 16) (mi := 199) [.int zv47, .int zv49, .int zv53] [] [(0, .int zv47), (1, .int zv49), (2, .int zv53)] rfl (cllw_X11 (207, 1, 199) (List.mem_of_getElem? (i := 2) rfl)) rfl rfl (by omega) (w_lo (n := 22) rfl (by omega)) (Nat.le_of_ble_eq_true rfl) (Nat.le_of_ble_eq_true rfl) rfl (tX11_minute_1_ok (160, .invokestatic 207, 3) (List.mem_of_getElem? (i := 28) rfl)) (r_isIn (fun zv56 ze57 => ?_))
                  show ww l D tys A X fr lo mX11_minute Q 163 [(8, .int zv47), (7, .int zv41), (6, .int zv29), (5, .int zv27), (4, .int zv24), (3, .int p), (2, .int sp), (0, .ref m), (1, .int sl)] [.int zv56] h
                  refine w_if_eq (tgt := 198) (tX11_minute_1_ok (163, .ifCond .eq 35, 3) (List.mem_of_getElem? (i := 29) rfl)) rfl (fun zb58 => ?_) (fun zb58 => ?_)
                  · refine w_iinc (fun zv59 => [(3, .int zv59), (8, .int zv47), (7, .int zv41), (6, .int zv29), (5, .int zv27), (4, .int zv24), (2, .int sp), (0, .ref m), (1, .int sl)]) (fun _ => rfl) (List.Mem.tail _ (List.Mem.tail _ (List.Mem.tail _ (List.Mem.tail _ (List.Mem.tail _ (List.Mem.head _)))))) (Nat.le_of_ble_eq_true rfl) (by decide) (by omega) (by omega) (tX11_minute_1_ok (198, .iinc 3 1, 3) (List.mem_of_getElem? (i := 49) rfl)) (fun zv59 ze60 => ?_)
                    refine w_goto (tgt := 4) (tX11_minute_1_ok (201, .goto (-197), 3) (List.mem_of_getElem? (i := 50) rfl)) rfl ?_
                    have z8 : zv59.toInt.toNat = p.toInt.toNat + 1 := by omega
                    refine w_lv [(3, .int zv59), (2, .int sp), (0, .ref m), (1, .int sl)] (by intro q hq; simp only [List.mem_cons, List.not_mem_nil, or_false] at hq ⊢; rcases hq with e | e | e | e <;> subst e <;> simp) ?_
                    exact ih (j - 1) (by omega) _ _ _ _ (by omega) (by omega) (by omega) H9 hmi hT0 (fun q hq1 hq2 => hge q (by omega) hq2) (by rw [z8, ph_s, ph_s, hge p.toInt.toNat (by omega) (by omega)]; omega) hq
                  · refine w_iload (List.Mem.tail _ (List.Mem.tail _ (List.Mem.head _))) (tX11_minute_1_ok (166, .iload 6, 2) (List.mem_of_getElem? (i := 30) rfl)) ?_
                    refine w_if_ne (tgt := 174) (tX11_minute_1_ok (168, .ifCond .ne 6, 3) (List.mem_of_getElem? (i := 31) rfl)) rfl (fun zb61 => ?_) (fun zb61 => ?_)
                    · refine w_aload_n (List.Mem.tail _ (List.Mem.tail _ (List.Mem.tail _ (List.Mem.tail _ (List.Mem.tail _ (List.Mem.tail _ (List.Mem.tail _ (List.Mem.head _)))))))) (tX11_minute_1_ok (174, .aload_n 0, 1) (List.mem_of_getElem? (i := 33) rfl)) ?_
                      refine w_get (own := 16) rfl rfl (by decide) c_m fL22 (tX11_minute_1_ok (175, .getfield 45, 3) (List.mem_of_getElem? (i := 34) rfl)) ?_
                      refine w_iload_n (List.Mem.tail _ (List.Mem.tail _ (List.Mem.tail _ (List.Mem.tail _ (List.Mem.tail _ (List.Mem.head _)))))) (tX11_minute_1_ok (178, .iload_n 3, 1) (List.mem_of_getElem? (i := 35) rfl)) ?_
                      refine w_iload (List.Mem.head _) (tX11_minute_1_ok (179, .iload 8, 2) (List.mem_of_getElem? (i := 36) rfl)) ?_
                      refine w_iast hT c_to (by omega) (by omega) (tX11_minute_1_ok (181, .iastore, 1) (List.mem_of_getElem? (i := 37) rfl)) (fun zh62 zc63 zo64 => ?_)
                      have zc65 := (zo64 m n_m_to).trans c_m
                      have zc66 := (zo64 ro n_ro_to).trans c_ro
                      have zc67 := (zo64 we n_we_to).trans c_we
                      refine w_aload_n (List.Mem.tail _ (List.Mem.tail _ (List.Mem.tail _ (List.Mem.tail _ (List.Mem.tail _ (List.Mem.tail _ (List.Mem.tail _ (List.Mem.head _)))))))) (tX11_minute_1_ok (182, .aload_n 0, 1) (List.mem_of_getElem? (i := 38) rfl)) ?_
                      refine w_get (own := 16) rfl rfl (by decide) zc65 fL22 (tX11_minute_1_ok (183, .getfield 45, 3) (List.mem_of_getElem? (i := 39) rfl)) ?_
                      refine w_bipush (by decide) (tX11_minute_1_ok (186, .bipush 6, 2) (List.mem_of_getElem? (i := 40) rfl)) (fun zv68 ze69 => ?_)
                      refine w_iload_n (List.Mem.tail _ (List.Mem.tail _ (List.Mem.tail _ (List.Mem.tail _ (List.Mem.tail _ (List.Mem.head _)))))) (tX11_minute_1_ok (188, .iload_n 3, 1) (List.mem_of_getElem? (i := 41) rfl)) ?_
                      refine w_iadd (by omega) (by omega) (tX11_minute_1_ok (189, .iadd, 1) (List.mem_of_getElem? (i := 42) rfl)) (fun zv70 ze71 => ?_)
                      refine tt_dup2 rfl rfl (tX11_minute_1_ok (190, .dup2, 1) (List.mem_of_getElem? (i := 43) rfl)) ?_
                      show ww l D tys A X fr lo mX11_minute Q 191 [(8, .int zv47), (7, .int zv41), (6, .int zv29), (5, .int zv27), (4, .int zv24), (3, .int p), (2, .int sp), (0, .ref m), (1, .int sl)] [.int zv70, .ref to, .int zv70, .ref to] zh62
                      refine w_iald hT zc63 (by omega) (by omega) (tX11_minute_1_ok (191, .iaload, 1) (List.mem_of_getElem? (i := 44) rfl)) (fun zv72 ze73 => ?_)
                      refine w_iconst (by decide) (tX11_minute_1_ok (192, .iconst 1, 1) (List.mem_of_getElem? (i := 45) rfl)) (fun zv74 ze75 => ?_)
                      refine w_iaddA (tX11_minute_1_ok (193, .iadd, 1) (List.mem_of_getElem? (i := 46) rfl)) (fun zv76 => ?_)
                      refine w_iast hT zc63 (by omega) (by omega) (tX11_minute_1_ok (194, .iastore, 1) (List.mem_of_getElem? (i := 47) rfl)) (fun zh77 zc78 zo79 => ?_)
                      have zc80 := (zo79 m n_m_to).trans zc65
                      have zc81 := (zo79 ro n_ro_to).trans zc66
                      have zc82 := (zo79 we n_we_to).trans zc67
                      refine w_iinc (fun zv83 => [(2, .int zv83), (8, .int zv47), (7, .int zv41), (6, .int zv29), (5, .int zv27), (4, .int zv24), (3, .int p), (0, .ref m), (1, .int sl)]) (fun _ => rfl) (List.Mem.tail _ (List.Mem.tail _ (List.Mem.tail _ (List.Mem.tail _ (List.Mem.tail _ (List.Mem.tail _ (List.Mem.head _))))))) (Nat.le_of_ble_eq_true rfl) (by decide) (by omega) (by omega) (tX11_minute_1_ok (195, .iinc 2 1, 3) (List.mem_of_getElem? (i := 48) rfl)) (fun zv83 ze84 => ?_)
                      refine w_iinc (fun zv85 => [(3, .int zv85), (2, .int zv83), (8, .int zv47), (7, .int zv41), (6, .int zv29), (5, .int zv27), (4, .int zv24), (0, .ref m), (1, .int sl)]) (fun _ => rfl) (List.Mem.tail _ (List.Mem.tail _ (List.Mem.tail _ (List.Mem.tail _ (List.Mem.tail _ (List.Mem.tail _ (List.Mem.head _))))))) (Nat.le_of_ble_eq_true rfl) (by decide) (by omega) (by omega) (tX11_minute_1_ok (198, .iinc 3 1, 3) (List.mem_of_getElem? (i := 49) rfl)) (fun zv85 ze86 => ?_)
                      refine w_goto (tgt := 4) (tX11_minute_1_ok (201, .goto (-197), 3) (List.mem_of_getElem? (i := 50) rfl)) rfl ?_
                      have z8 : zv85.toInt.toNat = p.toInt.toNat + 1 := by omega
                      have e1 : p.toInt.toNat = p.toInt.toNat := by omega
                      have e2 : zv70.toInt.toNat = 6 + p.toInt.toNat := by omega
                      have c9 := zc78
                      rw [e1, e2] at c9
                      have k9 : (∀ q, ¬ q = p.toInt.toNat → ¬ q = 6 + p.toInt.toNat → upd (upd T p.toInt.toNat zv47) (6 + p.toInt.toNat) zv76 q = T q) := fun q q1 q2 => by rw [upd_n _ _ q2, upd_n _ _ q1]
                      have d9 := ph_up (R := R) (b := b) (p := p.toInt.toNat) (x := (T p.toInt.toNat).toInt) (y := zv47.toInt) mb.1 (by rw [← plq]; omega) (by omega)
                      have d8 : ph_s R (upd (upd T p.toInt.toNat zv47) (6 + p.toInt.toNat) zv76) b p.toInt.toNat = ph_s R T b p.toInt.toNat := ph_s_ext _ (fun q hq => k9 q (by omega) (by omega))
                      have d7 : (upd (upd T p.toInt.toNat zv47) (6 + p.toInt.toNat) zv76) p.toInt.toNat = zv47 := by rw [upd_n _ _ (by omega), upd_s]
                      refine w_lv [(3, .int zv85), (2, .int zv83), (0, .ref m), (1, .int sl)] (by intro q hq; simp only [List.mem_cons, List.not_mem_nil, or_false] at hq ⊢; rcases hq with e | e | e | e <;> subst e <;> simp) ?_
                      refine ih (j - 1) (by omega) _ _ _ _ (by omega) (by omega) (by omega) ⟨zc80, fL19, fL20, fL22, fL28, fL33, zc81, c9, zc82, pe0, rp0, hbo.upd (by omega)⟩ (hmi.upd (by omega) (by omega)) (fun q q1 q2 => (k9 q (by omega) (by omega)).trans (hT0 q q1 q2)) (fun q q1 q2 => (k9 q (by omega) (by omega)).trans (hge q (by omega) q2)) ?_ (fun h1 T1 v1 q1 q2 q3 q4 q5 q6 => hq h1 T1 v1 q1 q2 q3 q4 q5 (fun q hq => (q6 q hq).trans ((zo79 q hq).trans (zo64 q hq))))
                      rw [z8, ph_s, ph_s, d8, d7, ← hge p.toInt.toNat (by omega) (by omega)]
                      omega
                    · refine w_goto (tgt := 198) (tX11_minute_1_ok (171, .goto 27, 3) (List.mem_of_getElem? (i := 32) rfl)) rfl ?_
                      refine w_iinc (fun zv87 => [(3, .int zv87), (8, .int zv47), (7, .int zv41), (6, .int zv29), (5, .int zv27), (4, .int zv24), (2, .int sp), (0, .ref m), (1, .int sl)]) (fun _ => rfl) (List.Mem.tail _ (List.Mem.tail _ (List.Mem.tail _ (List.Mem.tail _ (List.Mem.tail _ (List.Mem.head _)))))) (Nat.le_of_ble_eq_true rfl) (by decide) (by omega) (by omega) (tX11_minute_1_ok (198, .iinc 3 1, 3) (List.mem_of_getElem? (i := 49) rfl)) (fun zv87 ze88 => ?_)
                      refine w_goto (tgt := 4) (tX11_minute_1_ok (201, .goto (-197), 3) (List.mem_of_getElem? (i := 50) rfl)) rfl ?_
                      have z8 : zv87.toInt.toNat = p.toInt.toNat + 1 := by omega
                      refine w_lv [(3, .int zv87), (2, .int sp), (0, .ref m), (1, .int sl)] (by intro q hq; simp only [List.mem_cons, List.not_mem_nil, or_false] at hq ⊢; rcases hq with e | e | e | e <;> subst e <;> simp) ?_
                      exact ih (j - 1) (by omega) _ _ _ _ (by omega) (by omega) (by omega) H9 hmi hT0 (fun q hq1 hq2 => hge q (by omega) hq2) (by rw [z8, ph_s, ph_s, hge p.toInt.toNat (by omega) (by omega)]; omega) hq
                · refine w_aload_n (List.Mem.tail _ (List.Mem.tail _ (List.Mem.tail _ (List.Mem.tail _ (List.Mem.tail _ (List.Mem.tail _ (List.Mem.head _))))))) (tX11_minute_1_ok (128, .aload_n 0, 1) (List.mem_of_getElem? (i := 8) rfl)) ?_
                  refine w_get (own := 16) rfl rfl (by decide) c_m fL22 (tX11_minute_1_ok (129, .getfield 45, 3) (List.mem_of_getElem? (i := 9) rfl)) ?_
                  refine w_iload_n (List.Mem.tail _ (List.Mem.tail _ (List.Mem.tail _ (List.Mem.tail _ (List.Mem.head _))))) (tX11_minute_1_ok (132, .iload_n 3, 1) (List.mem_of_getElem? (i := 10) rfl)) ?_
                  refine w_iald hT c_to (by omega) (by omega) (tX11_minute_1_ok (133, .iaload, 1) (List.mem_of_getElem? (i := 11) rfl)) (fun zv89 ze90 => ?_)
                  have zi91 : p.toInt.toNat = p.toInt.toNat := by omega
                  rw [zi91] at ze90
                  refine w_iload (List.Mem.head _) (tX11_minute_1_ok (134, .iload 7, 2) (List.mem_of_getElem? (i := 12) rfl)) ?_
                  refine w_isub (by omega) (by omega) (tX11_minute_1_ok (136, .isub, 1) (List.mem_of_getElem? (i := 13) rfl)) (fun zv92 ze93 => ?_)
                  refine w_goto (tgt := 149) (tX11_minute_1_ok (137, .goto 12, 3) (List.mem_of_getElem? (i := 14) rfl)) rfl ?_
                  refine w_istore [(8, .int zv92), (7, .int zv41), (6, .int zv29), (5, .int zv27), (4, .int zv24), (3, .int p), (2, .int sp), (0, .ref m), (1, .int sl)] rfl (Nat.le_of_ble_eq_true rfl) (tX11_minute_1_ok (149, .istore 8, 2) (List.mem_of_getElem? (i := 21) rfl)) ?_
                  refine w_iload (List.Mem.head _) (tX11_minute_1_ok (151, .iload 8, 2) (List.mem_of_getElem? (i := 22) rfl)) ?_
                  refine w_iconst (by decide) (tX11_minute_1_ok (153, .iconst 0, 1) (List.mem_of_getElem? (i := 23) rfl)) (fun zv94 ze95 => ?_)
                  refine w_aload_n (List.Mem.tail _ (List.Mem.tail _ (List.Mem.tail _ (List.Mem.tail _ (List.Mem.tail _ (List.Mem.tail _ (List.Mem.tail _ (List.Mem.head _)))))))) (tX11_minute_1_ok (154, .aload_n 0, 1) (List.mem_of_getElem? (i := 24) rfl)) ?_
                  refine w_iload_n (List.Mem.tail _ (List.Mem.tail _ (List.Mem.tail _ (List.Mem.tail _ (List.Mem.tail _ (List.Mem.head _)))))) (tX11_minute_1_ok (155, .iload_n 3, 1) (List.mem_of_getElem? (i := 25) rfl)) ?_
                  refine w_iconst (by decide) (tX11_minute_1_ok (156, .iconst 1, 1) (List.mem_of_getElem? (i := 26) rfl)) (fun zv96 ze97 => ?_)
                  refine w_callV (own := 16) (mi := 219) [.int p, .int zv96] [.int zv94, .int zv92] [(0, .ref m), (1, .int p), (2, .int zv96)] rfl (cllw_X11 (255, 0, 219) (List.mem_of_getElem? (i := 34) rfl)) rfl rfl c_m rfl (by omega) (w_lo (n := 22) rfl (by omega)) (Nat.le_of_ble_eq_true rfl) (Nat.le_of_ble_eq_true rfl) rfl (tX11_minute_1_ok (157, .invokevirtual 255, 3) (List.mem_of_getElem? (i := 27) rfl)) (h_of hT (by omega) (by omega) H9 (fun zv98 ze99 => ?_))
                  have zi100 : 9 * p.toInt.toNat + zv96.toInt.toNat = 9 * p.toInt.toNat + 1 := by omega
                  rw [zi100] at ze99
                  show ww l D tys A X fr lo mX11_minute Q 160 [(8, .int zv92), (7, .int zv41), (6, .int zv29), (5, .int zv27), (4, .int zv24), (3, .int p), (2, .int sp), (0, .ref m), (1, .int sl)] [.int zv98, .int zv94, .int zv92] h
                  refine w_callS (own := 16) (mi := 199) [.int zv92, .int zv94, .int zv98] [] [(0, .int zv92), (1, .int zv94), (2, .int zv98)] rfl (cllw_X11 (207, 1, 199) (List.mem_of_getElem? (i := 2) rfl)) rfl rfl (by omega) (w_lo (n := 22) rfl (by omega)) (Nat.le_of_ble_eq_true rfl) (Nat.le_of_ble_eq_true rfl) rfl (tX11_minute_1_ok (160, .invokestatic 207, 3) (List.mem_of_getElem? (i := 28) rfl)) (r_isIn (fun zv101 ze102 => ?_))
                  show ww l D tys A X fr lo mX11_minute Q 163 [(8, .int zv92), (7, .int zv41), (6, .int zv29), (5, .int zv27), (4, .int zv24), (3, .int p), (2, .int sp), (0, .ref m), (1, .int sl)] [.int zv101] h
                  refine w_if_eq (tgt := 198) (tX11_minute_1_ok (163, .ifCond .eq 35, 3) (List.mem_of_getElem? (i := 29) rfl)) rfl (fun zb103 => ?_) (fun zb103 => ?_)
                  · refine w_iinc (fun zv104 => [(3, .int zv104), (8, .int zv92), (7, .int zv41), (6, .int zv29), (5, .int zv27), (4, .int zv24), (2, .int sp), (0, .ref m), (1, .int sl)]) (fun _ => rfl) (List.Mem.tail _ (List.Mem.tail _ (List.Mem.tail _ (List.Mem.tail _ (List.Mem.tail _ (List.Mem.head _)))))) (Nat.le_of_ble_eq_true rfl) (by decide) (by omega) (by omega) (tX11_minute_1_ok (198, .iinc 3 1, 3) (List.mem_of_getElem? (i := 49) rfl)) (fun zv104 ze105 => ?_)
                    refine w_goto (tgt := 4) (tX11_minute_1_ok (201, .goto (-197), 3) (List.mem_of_getElem? (i := 50) rfl)) rfl ?_
                    have z8 : zv104.toInt.toNat = p.toInt.toNat + 1 := by omega
                    refine w_lv [(3, .int zv104), (2, .int sp), (0, .ref m), (1, .int sl)] (by intro q hq; simp only [List.mem_cons, List.not_mem_nil, or_false] at hq ⊢; rcases hq with e | e | e | e <;> subst e <;> simp) ?_
                    exact ih (j - 1) (by omega) _ _ _ _ (by omega) (by omega) (by omega) H9 hmi hT0 (fun q hq1 hq2 => hge q (by omega) hq2) (by rw [z8, ph_s, ph_s, hge p.toInt.toNat (by omega) (by omega)]; omega) hq
                  · refine w_iload (List.Mem.tail _ (List.Mem.tail _ (List.Mem.head _))) (tX11_minute_1_ok (166, .iload 6, 2) (List.mem_of_getElem? (i := 30) rfl)) ?_
                    refine w_if_ne (tgt := 174) (tX11_minute_1_ok (168, .ifCond .ne 6, 3) (List.mem_of_getElem? (i := 31) rfl)) rfl (fun zb106 => ?_) (fun zb106 => ?_)
                    · refine w_aload_n (List.Mem.tail _ (List.Mem.tail _ (List.Mem.tail _ (List.Mem.tail _ (List.Mem.tail _ (List.Mem.tail _ (List.Mem.tail _ (List.Mem.head _)))))))) (tX11_minute_1_ok (174, .aload_n 0, 1) (List.mem_of_getElem? (i := 33) rfl)) ?_
                      refine w_get (own := 16) rfl rfl (by decide) c_m fL22 (tX11_minute_1_ok (175, .getfield 45, 3) (List.mem_of_getElem? (i := 34) rfl)) ?_
                      refine w_iload_n (List.Mem.tail _ (List.Mem.tail _ (List.Mem.tail _ (List.Mem.tail _ (List.Mem.tail _ (List.Mem.head _)))))) (tX11_minute_1_ok (178, .iload_n 3, 1) (List.mem_of_getElem? (i := 35) rfl)) ?_
                      refine w_iload (List.Mem.head _) (tX11_minute_1_ok (179, .iload 8, 2) (List.mem_of_getElem? (i := 36) rfl)) ?_
                      refine w_iast hT c_to (by omega) (by omega) (tX11_minute_1_ok (181, .iastore, 1) (List.mem_of_getElem? (i := 37) rfl)) (fun zh107 zc108 zo109 => ?_)
                      have zc110 := (zo109 m n_m_to).trans c_m
                      have zc111 := (zo109 ro n_ro_to).trans c_ro
                      have zc112 := (zo109 we n_we_to).trans c_we
                      refine w_aload_n (List.Mem.tail _ (List.Mem.tail _ (List.Mem.tail _ (List.Mem.tail _ (List.Mem.tail _ (List.Mem.tail _ (List.Mem.tail _ (List.Mem.head _)))))))) (tX11_minute_1_ok (182, .aload_n 0, 1) (List.mem_of_getElem? (i := 38) rfl)) ?_
                      refine w_get (own := 16) rfl rfl (by decide) zc110 fL22 (tX11_minute_1_ok (183, .getfield 45, 3) (List.mem_of_getElem? (i := 39) rfl)) ?_
                      refine w_bipush (by decide) (tX11_minute_1_ok (186, .bipush 6, 2) (List.mem_of_getElem? (i := 40) rfl)) (fun zv113 ze114 => ?_)
                      refine w_iload_n (List.Mem.tail _ (List.Mem.tail _ (List.Mem.tail _ (List.Mem.tail _ (List.Mem.tail _ (List.Mem.head _)))))) (tX11_minute_1_ok (188, .iload_n 3, 1) (List.mem_of_getElem? (i := 41) rfl)) ?_
                      refine w_iadd (by omega) (by omega) (tX11_minute_1_ok (189, .iadd, 1) (List.mem_of_getElem? (i := 42) rfl)) (fun zv115 ze116 => ?_)
                      refine tt_dup2 rfl rfl (tX11_minute_1_ok (190, .dup2, 1) (List.mem_of_getElem? (i := 43) rfl)) ?_
                      show ww l D tys A X fr lo mX11_minute Q 191 [(8, .int zv92), (7, .int zv41), (6, .int zv29), (5, .int zv27), (4, .int zv24), (3, .int p), (2, .int sp), (0, .ref m), (1, .int sl)] [.int zv115, .ref to, .int zv115, .ref to] zh107
                      refine w_iald hT zc108 (by omega) (by omega) (tX11_minute_1_ok (191, .iaload, 1) (List.mem_of_getElem? (i := 44) rfl)) (fun zv117 ze118 => ?_)
                      refine w_iconst (by decide) (tX11_minute_1_ok (192, .iconst 1, 1) (List.mem_of_getElem? (i := 45) rfl)) (fun zv119 ze120 => ?_)
                      refine w_iaddA (tX11_minute_1_ok (193, .iadd, 1) (List.mem_of_getElem? (i := 46) rfl)) (fun zv121 => ?_)
                      refine w_iast hT zc108 (by omega) (by omega) (tX11_minute_1_ok (194, .iastore, 1) (List.mem_of_getElem? (i := 47) rfl)) (fun zh122 zc123 zo124 => ?_)
                      have zc125 := (zo124 m n_m_to).trans zc110
                      have zc126 := (zo124 ro n_ro_to).trans zc111
                      have zc127 := (zo124 we n_we_to).trans zc112
                      refine w_iinc (fun zv128 => [(2, .int zv128), (8, .int zv92), (7, .int zv41), (6, .int zv29), (5, .int zv27), (4, .int zv24), (3, .int p), (0, .ref m), (1, .int sl)]) (fun _ => rfl) (List.Mem.tail _ (List.Mem.tail _ (List.Mem.tail _ (List.Mem.tail _ (List.Mem.tail _ (List.Mem.tail _ (List.Mem.head _))))))) (Nat.le_of_ble_eq_true rfl) (by decide) (by omega) (by omega) (tX11_minute_1_ok (195, .iinc 2 1, 3) (List.mem_of_getElem? (i := 48) rfl)) (fun zv128 ze129 => ?_)
                      refine w_iinc (fun zv130 => [(3, .int zv130), (2, .int zv128), (8, .int zv92), (7, .int zv41), (6, .int zv29), (5, .int zv27), (4, .int zv24), (0, .ref m), (1, .int sl)]) (fun _ => rfl) (List.Mem.tail _ (List.Mem.tail _ (List.Mem.tail _ (List.Mem.tail _ (List.Mem.tail _ (List.Mem.tail _ (List.Mem.head _))))))) (Nat.le_of_ble_eq_true rfl) (by decide) (by omega) (by omega) (tX11_minute_1_ok (198, .iinc 3 1, 3) (List.mem_of_getElem? (i := 49) rfl)) (fun zv130 ze131 => ?_)
                      refine w_goto (tgt := 4) (tX11_minute_1_ok (201, .goto (-197), 3) (List.mem_of_getElem? (i := 50) rfl)) rfl ?_
                      have z8 : zv130.toInt.toNat = p.toInt.toNat + 1 := by omega
                      have e1 : p.toInt.toNat = p.toInt.toNat := by omega
                      have e2 : zv115.toInt.toNat = 6 + p.toInt.toNat := by omega
                      have c9 := zc123
                      rw [e1, e2] at c9
                      have k9 : (∀ q, ¬ q = p.toInt.toNat → ¬ q = 6 + p.toInt.toNat → upd (upd T p.toInt.toNat zv92) (6 + p.toInt.toNat) zv121 q = T q) := fun q q1 q2 => by rw [upd_n _ _ q2, upd_n _ _ q1]
                      have d9 := ph_dn (R := R) (b := b) (p := p.toInt.toNat) (x := (T p.toInt.toNat).toInt) (y := zv92.toInt) mb.1 (by rw [← plq]; omega) (by omega)
                      have d8 : ph_s R (upd (upd T p.toInt.toNat zv92) (6 + p.toInt.toNat) zv121) b p.toInt.toNat = ph_s R T b p.toInt.toNat := ph_s_ext _ (fun q hq => k9 q (by omega) (by omega))
                      have d7 : (upd (upd T p.toInt.toNat zv92) (6 + p.toInt.toNat) zv121) p.toInt.toNat = zv92 := by rw [upd_n _ _ (by omega), upd_s]
                      refine w_lv [(3, .int zv130), (2, .int zv128), (0, .ref m), (1, .int sl)] (by intro q hq; simp only [List.mem_cons, List.not_mem_nil, or_false] at hq ⊢; rcases hq with e | e | e | e <;> subst e <;> simp) ?_
                      refine ih (j - 1) (by omega) _ _ _ _ (by omega) (by omega) (by omega) ⟨zc125, fL19, fL20, fL22, fL28, fL33, zc126, c9, zc127, pe0, rp0, hbo.upd (by omega)⟩ (hmi.upd (by omega) (by omega)) (fun q q1 q2 => (k9 q (by omega) (by omega)).trans (hT0 q q1 q2)) (fun q q1 q2 => (k9 q (by omega) (by omega)).trans (hge q (by omega) q2)) ?_ (fun h1 T1 v1 q1 q2 q3 q4 q5 q6 => hq h1 T1 v1 q1 q2 q3 q4 q5 (fun q hq => (q6 q hq).trans ((zo124 q hq).trans (zo109 q hq))))
                      rw [z8, ph_s, ph_s, d8, d7, ← hge p.toInt.toNat (by omega) (by omega)]
                      omega
                    · refine w_goto (tgt := 198) (tX11_minute_1_ok (171, .goto 27, 3) (List.mem_of_getElem? (i := 32) rfl)) rfl ?_
                      refine w_iinc (fun zv132 => [(3, .int zv132), (8, .int zv92), (7, .int zv41), (6, .int zv29), (5, .int zv27), (4, .int zv24), (2, .int sp), (0, .ref m), (1, .int sl)]) (fun _ => rfl) (List.Mem.tail _ (List.Mem.tail _ (List.Mem.tail _ (List.Mem.tail _ (List.Mem.tail _ (List.Mem.head _)))))) (Nat.le_of_ble_eq_true rfl) (by decide) (by omega) (by omega) (tX11_minute_1_ok (198, .iinc 3 1, 3) (List.mem_of_getElem? (i := 49) rfl)) (fun zv132 ze133 => ?_)
                      refine w_goto (tgt := 4) (tX11_minute_1_ok (201, .goto (-197), 3) (List.mem_of_getElem? (i := 50) rfl)) rfl ?_
                      have z8 : zv132.toInt.toNat = p.toInt.toNat + 1 := by omega
                      refine w_lv [(3, .int zv132), (2, .int sp), (0, .ref m), (1, .int sl)] (by intro q hq; simp only [List.mem_cons, List.not_mem_nil, or_false] at hq ⊢; rcases hq with e | e | e | e <;> subst e <;> simp) ?_
                      exact ih (j - 1) (by omega) _ _ _ _ (by omega) (by omega) (by omega) H9 hmi hT0 (fun q hq1 hq2 => hge q (by omega) hq2) (by rw [z8, ph_s, ph_s, hge p.toInt.toNat (by omega) (by omega)]; omega) hq
              · refine w_iconst (by decide) (tX11_minute_1_ok (116, .iconst 2, 1) (List.mem_of_getElem? (i := 2) rfl)) (fun zv134 ze135 => ?_)
                refine w_goto (tgt := 121) (tX11_minute_1_ok (117, .goto 4, 3) (List.mem_of_getElem? (i := 3) rfl)) rfl ?_
                refine w_istore [(7, .int zv134), (6, .int zv29), (5, .int zv27), (4, .int zv24), (3, .int p), (2, .int sp), (0, .ref m), (1, .int sl)] rfl (Nat.le_of_ble_eq_true rfl) (tX11_minute_1_ok (121, .istore 7, 2) (List.mem_of_getElem? (i := 5) rfl)) ?_
                refine w_iload (List.Mem.tail _ (List.Mem.head _)) (tX11_minute_1_ok (123, .iload 6, 2) (List.mem_of_getElem? (i := 6) rfl)) ?_
                refine w_if_le (tgt := 140) (tX11_minute_1_ok (125, .ifCond .le 15, 3) (List.mem_of_getElem? (i := 7) rfl)) rfl (fun zb136 => ?_) (fun zb136 => ?_)
                · refine w_aload_n (List.Mem.tail _ (List.Mem.tail _ (List.Mem.tail _ (List.Mem.tail _ (List.Mem.tail _ (List.Mem.tail _ (List.Mem.head _))))))) (tX11_minute_1_ok (140, .aload_n 0, 1) (List.mem_of_getElem? (i := 15) rfl)) ?_
                  refine w_get (own := 16) rfl rfl (by decide) c_m fL22 (tX11_minute_1_ok (141, .getfield 45, 3) (List.mem_of_getElem? (i := 16) rfl)) ?_
                  refine w_iload_n (List.Mem.tail _ (List.Mem.tail _ (List.Mem.tail _ (List.Mem.tail _ (List.Mem.head _))))) (tX11_minute_1_ok (144, .iload_n 3, 1) (List.mem_of_getElem? (i := 17) rfl)) ?_
                  refine w_iald hT c_to (by omega) (by omega) (tX11_minute_1_ok (145, .iaload, 1) (List.mem_of_getElem? (i := 18) rfl)) (fun zv137 ze138 => ?_)
                  have zi139 : p.toInt.toNat = p.toInt.toNat := by omega
                  rw [zi139] at ze138
                  refine w_iload (List.Mem.head _) (tX11_minute_1_ok (146, .iload 7, 2) (List.mem_of_getElem? (i := 19) rfl)) ?_
                  refine w_iadd (by omega) (by omega) (tX11_minute_1_ok (148, .iadd, 1) (List.mem_of_getElem? (i := 20) rfl)) (fun zv140 ze141 => ?_)
                  refine w_istore [(8, .int zv140), (7, .int zv134), (6, .int zv29), (5, .int zv27), (4, .int zv24), (3, .int p), (2, .int sp), (0, .ref m), (1, .int sl)] rfl (Nat.le_of_ble_eq_true rfl) (tX11_minute_1_ok (149, .istore 8, 2) (List.mem_of_getElem? (i := 21) rfl)) ?_
                  refine w_iload (List.Mem.head _) (tX11_minute_1_ok (151, .iload 8, 2) (List.mem_of_getElem? (i := 22) rfl)) ?_
                  refine w_iconst (by decide) (tX11_minute_1_ok (153, .iconst 0, 1) (List.mem_of_getElem? (i := 23) rfl)) (fun zv142 ze143 => ?_)
                  refine w_aload_n (List.Mem.tail _ (List.Mem.tail _ (List.Mem.tail _ (List.Mem.tail _ (List.Mem.tail _ (List.Mem.tail _ (List.Mem.tail _ (List.Mem.head _)))))))) (tX11_minute_1_ok (154, .aload_n 0, 1) (List.mem_of_getElem? (i := 24) rfl)) ?_
                  refine w_iload_n (List.Mem.tail _ (List.Mem.tail _ (List.Mem.tail _ (List.Mem.tail _ (List.Mem.tail _ (List.Mem.head _)))))) (tX11_minute_1_ok (155, .iload_n 3, 1) (List.mem_of_getElem? (i := 25) rfl)) ?_
                  refine w_iconst (by decide) (tX11_minute_1_ok (156, .iconst 1, 1) (List.mem_of_getElem? (i := 26) rfl)) (fun zv144 ze145 => ?_)
                  refine w_callV (own := 16) (mi := 219) [.int p, .int zv144] [.int zv142, .int zv140] [(0, .ref m), (1, .int p), (2, .int zv144)] rfl (cllw_X11 (255, 0, 219) (List.mem_of_getElem? (i := 34) rfl)) rfl rfl c_m rfl (by omega) (w_lo (n := 22) rfl (by omega)) (Nat.le_of_ble_eq_true rfl) (Nat.le_of_ble_eq_true rfl) rfl (tX11_minute_1_ok (157, .invokevirtual 255, 3) (List.mem_of_getElem? (i := 27) rfl)) (h_of hT (by omega) (by omega) H9 (fun zv146 ze147 => ?_))
                  have zi148 : 9 * p.toInt.toNat + zv144.toInt.toNat = 9 * p.toInt.toNat + 1 := by omega
                  rw [zi148] at ze147
                  show ww l D tys A X fr lo mX11_minute Q 160 [(8, .int zv140), (7, .int zv134), (6, .int zv29), (5, .int zv27), (4, .int zv24), (3, .int p), (2, .int sp), (0, .ref m), (1, .int sl)] [.int zv146, .int zv142, .int zv140] h
                  refine w_callS (own := 16) (mi := 199) [.int zv140, .int zv142, .int zv146] [] [(0, .int zv140), (1, .int zv142), (2, .int zv146)] rfl (cllw_X11 (207, 1, 199) (List.mem_of_getElem? (i := 2) rfl)) rfl rfl (by omega) (w_lo (n := 22) rfl (by omega)) (Nat.le_of_ble_eq_true rfl) (Nat.le_of_ble_eq_true rfl) rfl (tX11_minute_1_ok (160, .invokestatic 207, 3) (List.mem_of_getElem? (i := 28) rfl)) (r_isIn (fun zv149 ze150 => ?_))
                  show ww l D tys A X fr lo mX11_minute Q 163 [(8, .int zv140), (7, .int zv134), (6, .int zv29), (5, .int zv27), (4, .int zv24), (3, .int p), (2, .int sp), (0, .ref m), (1, .int sl)] [.int zv149] h
                  refine w_if_eq (tgt := 198) (tX11_minute_1_ok (163, .ifCond .eq 35, 3) (List.mem_of_getElem? (i := 29) rfl)) rfl (fun zb151 => ?_) (fun zb151 => ?_)
                  · refine w_iinc (fun zv152 => [(3, .int zv152), (8, .int zv140), (7, .int zv134), (6, .int zv29), (5, .int zv27), (4, .int zv24), (2, .int sp), (0, .ref m), (1, .int sl)]) (fun _ => rfl) (List.Mem.tail _ (List.Mem.tail _ (List.Mem.tail _ (List.Mem.tail _ (List.Mem.tail _ (List.Mem.head _)))))) (Nat.le_of_ble_eq_true rfl) (by decide) (by omega) (by omega) (tX11_minute_1_ok (198, .iinc 3 1, 3) (List.mem_of_getElem? (i := 49) rfl)) (fun zv152 ze153 => ?_)
                    refine w_goto (tgt := 4) (tX11_minute_1_ok (201, .goto (-197), 3) (List.mem_of_getElem? (i := 50) rfl)) rfl ?_
                    have z8 : zv152.toInt.toNat = p.toInt.toNat + 1 := by omega
                    refine w_lv [(3, .int zv152), (2, .int sp), (0, .ref m), (1, .int sl)] (by intro q hq; simp only [List.mem_cons, List.not_mem_nil, or_false] at hq ⊢; rcases hq with e | e | e | e <;> subst e <;> simp) ?_
                    exact ih (j - 1) (by omega) _ _ _ _ (by omega) (by omega) (by omega) H9 hmi hT0 (fun q hq1 hq2 => hge q (by omega) hq2) (by rw [z8, ph_s, ph_s, hge p.toInt.toNat (by omega) (by omega)]; omega) hq
                  · refine w_iload (List.Mem.tail _ (List.Mem.tail _ (List.Mem.head _))) (tX11_minute_1_ok (166, .iload 6, 2) (List.mem_of_getElem? (i := 30) rfl)) ?_
                    refine w_if_ne (tgt := 174) (tX11_minute_1_ok (168, .ifCond .ne 6, 3) (List.mem_of_getElem? (i := 31) rfl)) rfl (fun zb154 => ?_) (fun zb154 => ?_)
                    · refine w_aload_n (List.Mem.tail _ (List.Mem.tail _ (List.Mem.tail _ (List.Mem.tail _ (List.Mem.tail _ (List.Mem.tail _ (List.Mem.tail _ (List.Mem.head _)))))))) (tX11_minute_1_ok (174, .aload_n 0, 1) (List.mem_of_getElem? (i := 33) rfl)) ?_
                      refine w_get (own := 16) rfl rfl (by decide) c_m fL22 (tX11_minute_1_ok (175, .getfield 45, 3) (List.mem_of_getElem? (i := 34) rfl)) ?_
                      refine w_iload_n (List.Mem.tail _ (List.Mem.tail _ (List.Mem.tail _ (List.Mem.tail _ (List.Mem.tail _ (List.Mem.head _)))))) (tX11_minute_1_ok (178, .iload_n 3, 1) (List.mem_of_getElem? (i := 35) rfl)) ?_
                      refine w_iload (List.Mem.head _) (tX11_minute_1_ok (179, .iload 8, 2) (List.mem_of_getElem? (i := 36) rfl)) ?_
                      refine w_iast hT c_to (by omega) (by omega) (tX11_minute_1_ok (181, .iastore, 1) (List.mem_of_getElem? (i := 37) rfl)) (fun zh155 zc156 zo157 => ?_)
                      have zc158 := (zo157 m n_m_to).trans c_m
                      have zc159 := (zo157 ro n_ro_to).trans c_ro
                      have zc160 := (zo157 we n_we_to).trans c_we
                      refine w_aload_n (List.Mem.tail _ (List.Mem.tail _ (List.Mem.tail _ (List.Mem.tail _ (List.Mem.tail _ (List.Mem.tail _ (List.Mem.tail _ (List.Mem.head _)))))))) (tX11_minute_1_ok (182, .aload_n 0, 1) (List.mem_of_getElem? (i := 38) rfl)) ?_
                      refine w_get (own := 16) rfl rfl (by decide) zc158 fL22 (tX11_minute_1_ok (183, .getfield 45, 3) (List.mem_of_getElem? (i := 39) rfl)) ?_
                      refine w_bipush (by decide) (tX11_minute_1_ok (186, .bipush 6, 2) (List.mem_of_getElem? (i := 40) rfl)) (fun zv161 ze162 => ?_)
                      refine w_iload_n (List.Mem.tail _ (List.Mem.tail _ (List.Mem.tail _ (List.Mem.tail _ (List.Mem.tail _ (List.Mem.head _)))))) (tX11_minute_1_ok (188, .iload_n 3, 1) (List.mem_of_getElem? (i := 41) rfl)) ?_
                      refine w_iadd (by omega) (by omega) (tX11_minute_1_ok (189, .iadd, 1) (List.mem_of_getElem? (i := 42) rfl)) (fun zv163 ze164 => ?_)
                      refine tt_dup2 rfl rfl (tX11_minute_1_ok (190, .dup2, 1) (List.mem_of_getElem? (i := 43) rfl)) ?_
                      show ww l D tys A X fr lo mX11_minute Q 191 [(8, .int zv140), (7, .int zv134), (6, .int zv29), (5, .int zv27), (4, .int zv24), (3, .int p), (2, .int sp), (0, .ref m), (1, .int sl)] [.int zv163, .ref to, .int zv163, .ref to] zh155
                      refine w_iald hT zc156 (by omega) (by omega) (tX11_minute_1_ok (191, .iaload, 1) (List.mem_of_getElem? (i := 44) rfl)) (fun zv165 ze166 => ?_)
                      refine w_iconst (by decide) (tX11_minute_1_ok (192, .iconst 1, 1) (List.mem_of_getElem? (i := 45) rfl)) (fun zv167 ze168 => ?_)
                      refine w_iaddA (tX11_minute_1_ok (193, .iadd, 1) (List.mem_of_getElem? (i := 46) rfl)) (fun zv169 => ?_)
                      refine w_iast hT zc156 (by omega) (by omega) (tX11_minute_1_ok (194, .iastore, 1) (List.mem_of_getElem? (i := 47) rfl)) (fun zh170 zc171 zo172 => ?_)
                      have zc173 := (zo172 m n_m_to).trans zc158
                      have zc174 := (zo172 ro n_ro_to).trans zc159
                      have zc175 := (zo172 we n_we_to).trans zc160
                      refine w_iinc (fun zv176 => [(2, .int zv176), (8, .int zv140), (7, .int zv134), (6, .int zv29), (5, .int zv27), (4, .int zv24), (3, .int p), (0, .ref m), (1, .int sl)]) (fun _ => rfl) (List.Mem.tail _ (List.Mem.tail _ (List.Mem.tail _ (List.Mem.tail _ (List.Mem.tail _ (List.Mem.tail _ (List.Mem.head _))))))) (Nat.le_of_ble_eq_true rfl) (by decide) (by omega) (by omega) (tX11_minute_1_ok (195, .iinc 2 1, 3) (List.mem_of_getElem? (i := 48) rfl)) (fun zv176 ze177 => ?_)
                      refine w_iinc (fun zv178 => [(3, .int zv178), (2, .int zv176), (8, .int zv140), (7, .int zv134), (6, .int zv29), (5, .int zv27), (4, .int zv24), (0, .ref m), (1, .int sl)]) (fun _ => rfl) (List.Mem.tail _ (List.Mem.tail _ (List.Mem.tail _ (List.Mem.tail _ (List.Mem.tail _ (List.Mem.tail _ (List.Mem.head _))))))) (Nat.le_of_ble_eq_true rfl) (by decide) (by omega) (by omega) (tX11_minute_1_ok (198, .iinc 3 1, 3) (List.mem_of_getElem? (i := 49) rfl)) (fun zv178 ze179 => ?_)
                      refine w_goto (tgt := 4) (tX11_minute_1_ok (201, .goto (-197), 3) (List.mem_of_getElem? (i := 50) rfl)) rfl ?_
                      have z8 : zv178.toInt.toNat = p.toInt.toNat + 1 := by omega
                      have e1 : p.toInt.toNat = p.toInt.toNat := by omega
                      have e2 : zv163.toInt.toNat = 6 + p.toInt.toNat := by omega
                      have c9 := zc171
                      rw [e1, e2] at c9
                      have k9 : (∀ q, ¬ q = p.toInt.toNat → ¬ q = 6 + p.toInt.toNat → upd (upd T p.toInt.toNat zv140) (6 + p.toInt.toNat) zv169 q = T q) := fun q q1 q2 => by rw [upd_n _ _ q2, upd_n _ _ q1]
                      have d9 := ph_up (R := R) (b := b) (p := p.toInt.toNat) (x := (T p.toInt.toNat).toInt) (y := zv140.toInt) mb.1 (by rw [← plq]; omega) (by omega)
                      have d8 : ph_s R (upd (upd T p.toInt.toNat zv140) (6 + p.toInt.toNat) zv169) b p.toInt.toNat = ph_s R T b p.toInt.toNat := ph_s_ext _ (fun q hq => k9 q (by omega) (by omega))
                      have d7 : (upd (upd T p.toInt.toNat zv140) (6 + p.toInt.toNat) zv169) p.toInt.toNat = zv140 := by rw [upd_n _ _ (by omega), upd_s]
                      refine w_lv [(3, .int zv178), (2, .int zv176), (0, .ref m), (1, .int sl)] (by intro q hq; simp only [List.mem_cons, List.not_mem_nil, or_false] at hq ⊢; rcases hq with e | e | e | e <;> subst e <;> simp) ?_
                      refine ih (j - 1) (by omega) _ _ _ _ (by omega) (by omega) (by omega) ⟨zc173, fL19, fL20, fL22, fL28, fL33, zc174, c9, zc175, pe0, rp0, hbo.upd (by omega)⟩ (hmi.upd (by omega) (by omega)) (fun q q1 q2 => (k9 q (by omega) (by omega)).trans (hT0 q q1 q2)) (fun q q1 q2 => (k9 q (by omega) (by omega)).trans (hge q (by omega) q2)) ?_ (fun h1 T1 v1 q1 q2 q3 q4 q5 q6 => hq h1 T1 v1 q1 q2 q3 q4 q5 (fun q hq => (q6 q hq).trans ((zo172 q hq).trans (zo157 q hq))))
                      rw [z8, ph_s, ph_s, d8, d7, ← hge p.toInt.toNat (by omega) (by omega)]
                      omega
                    · refine w_goto (tgt := 198) (tX11_minute_1_ok (171, .goto 27, 3) (List.mem_of_getElem? (i := 32) rfl)) rfl ?_
                      refine w_iinc (fun zv180 => [(3, .int zv180), (8, .int zv140), (7, .int zv134), (6, .int zv29), (5, .int zv27), (4, .int zv24), (2, .int sp), (0, .ref m), (1, .int sl)]) (fun _ => rfl) (List.Mem.tail _ (List.Mem.tail _ (List.Mem.tail _ (List.Mem.tail _ (List.Mem.tail _ (List.Mem.head _)))))) (Nat.le_of_ble_eq_true rfl) (by decide) (by omega) (by omega) (tX11_minute_1_ok (198, .iinc 3 1, 3) (List.mem_of_getElem? (i := 49) rfl)) (fun zv180 ze181 => ?_)
                      refine w_goto (tgt := 4) (tX11_minute_1_ok (201, .goto (-197), 3) (List.mem_of_getElem? (i := 50) rfl)) rfl ?_
                      have z8 : zv180.toInt.toNat = p.toInt.toNat + 1 := by omega
                      refine w_lv [(3, .int zv180), (2, .int sp), (0, .ref m), (1, .int sl)] (by intro q hq; simp only [List.mem_cons, List.not_mem_nil, or_false] at hq ⊢; rcases hq with e | e | e | e <;> subst e <;> simp) ?_
                      exact ih (j - 1) (by omega) _ _ _ _ (by omega) (by omega) (by omega) H9 hmi hT0 (fun q hq1 hq2 => hge q (by omega) hq2) (by rw [z8, ph_s, ph_s, hge p.toInt.toNat (by omega) (by omega)]; omega) hq
                · refine w_aload_n (List.Mem.tail _ (List.Mem.tail _ (List.Mem.tail _ (List.Mem.tail _ (List.Mem.tail _ (List.Mem.tail _ (List.Mem.head _))))))) (tX11_minute_1_ok (128, .aload_n 0, 1) (List.mem_of_getElem? (i := 8) rfl)) ?_
                  refine w_get (own := 16) rfl rfl (by decide) c_m fL22 (tX11_minute_1_ok (129, .getfield 45, 3) (List.mem_of_getElem? (i := 9) rfl)) ?_
                  refine w_iload_n (List.Mem.tail _ (List.Mem.tail _ (List.Mem.tail _ (List.Mem.tail _ (List.Mem.head _))))) (tX11_minute_1_ok (132, .iload_n 3, 1) (List.mem_of_getElem? (i := 10) rfl)) ?_
                  refine w_iald hT c_to (by omega) (by omega) (tX11_minute_1_ok (133, .iaload, 1) (List.mem_of_getElem? (i := 11) rfl)) (fun zv182 ze183 => ?_)
                  have zi184 : p.toInt.toNat = p.toInt.toNat := by omega
                  rw [zi184] at ze183
                  refine w_iload (List.Mem.head _) (tX11_minute_1_ok (134, .iload 7, 2) (List.mem_of_getElem? (i := 12) rfl)) ?_
                  refine w_isub (by omega) (by omega) (tX11_minute_1_ok (136, .isub, 1) (List.mem_of_getElem? (i := 13) rfl)) (fun zv185 ze186 => ?_)
                  refine w_goto (tgt := 149) (tX11_minute_1_ok (137, .goto 12, 3) (List.mem_of_getElem? (i := 14) rfl)) rfl ?_
                  refine w_istore [(8, .int zv185), (7, .int zv134), (6, .int zv29), (5, .int zv27), (4, .int zv24), (3, .int p), (2, .int sp), (0, .ref m), (1, .int sl)] rfl (Nat.le_of_ble_eq_true rfl) (tX11_minute_1_ok (149, .istore 8, 2) (List.mem_of_getElem? (i := 21) rfl)) ?_
                  refine w_iload (List.Mem.head _) (tX11_minute_1_ok (151, .iload 8, 2) (List.mem_of_getElem? (i := 22) rfl)) ?_
                  refine w_iconst (by decide) (tX11_minute_1_ok (153, .iconst 0, 1) (List.mem_of_getElem? (i := 23) rfl)) (fun zv187 ze188 => ?_)
                  refine w_aload_n (List.Mem.tail _ (List.Mem.tail _ (List.Mem.tail _ (List.Mem.tail _ (List.Mem.tail _ (List.Mem.tail _ (List.Mem.tail _ (List.Mem.head _)))))))) (tX11_minute_1_ok (154, .aload_n 0, 1) (List.mem_of_getElem? (i := 24) rfl)) ?_
                  refine w_iload_n (List.Mem.tail _ (List.Mem.tail _ (List.Mem.tail _ (List.Mem.tail _ (List.Mem.tail _ (List.Mem.head _)))))) (tX11_minute_1_ok (155, .iload_n 3, 1) (List.mem_of_getElem? (i := 25) rfl)) ?_
                  refine w_iconst (by decide) (tX11_minute_1_ok (156, .iconst 1, 1) (List.mem_of_getElem? (i := 26) rfl)) (fun zv189 ze190 => ?_)
                  refine w_callV (own := 16) (mi := 219) [.int p, .int zv189] [.int zv187, .int zv185] [(0, .ref m), (1, .int p), (2, .int zv189)] rfl (cllw_X11 (255, 0, 219) (List.mem_of_getElem? (i := 34) rfl)) rfl rfl c_m rfl (by omega) (w_lo (n := 22) rfl (by omega)) (Nat.le_of_ble_eq_true rfl) (Nat.le_of_ble_eq_true rfl) rfl (tX11_minute_1_ok (157, .invokevirtual 255, 3) (List.mem_of_getElem? (i := 27) rfl)) (h_of hT (by omega) (by omega) H9 (fun zv191 ze192 => ?_))
                  have zi193 : 9 * p.toInt.toNat + zv189.toInt.toNat = 9 * p.toInt.toNat + 1 := by omega
                  rw [zi193] at ze192
                  show ww l D tys A X fr lo mX11_minute Q 160 [(8, .int zv185), (7, .int zv134), (6, .int zv29), (5, .int zv27), (4, .int zv24), (3, .int p), (2, .int sp), (0, .ref m), (1, .int sl)] [.int zv191, .int zv187, .int zv185] h
                  refine w_callS (own := 16) (mi := 199) [.int zv185, .int zv187, .int zv191] [] [(0, .int zv185), (1, .int zv187), (2, .int zv191)] rfl (cllw_X11 (207, 1, 199) (List.mem_of_getElem? (i := 2) rfl)) rfl rfl (by omega) (w_lo (n := 22) rfl (by omega)) (Nat.le_of_ble_eq_true rfl) (Nat.le_of_ble_eq_true rfl) rfl (tX11_minute_1_ok (160, .invokestatic 207, 3) (List.mem_of_getElem? (i := 28) rfl)) (r_isIn (fun zv194 ze195 => ?_))
                  show ww l D tys A X fr lo mX11_minute Q 163 [(8, .int zv185), (7, .int zv134), (6, .int zv29), (5, .int zv27), (4, .int zv24), (3, .int p), (2, .int sp), (0, .ref m), (1, .int sl)] [.int zv194] h
                  refine w_if_eq (tgt := 198) (tX11_minute_1_ok (163, .ifCond .eq 35, 3) (List.mem_of_getElem? (i := 29) rfl)) rfl (fun zb196 => ?_) (fun zb196 => ?_)
                  · refine w_iinc (fun zv197 => [(3, .int zv197), (8, .int zv185), (7, .int zv134), (6, .int zv29), (5, .int zv27), (4, .int zv24), (2, .int sp), (0, .ref m), (1, .int sl)]) (fun _ => rfl) (List.Mem.tail _ (List.Mem.tail _ (List.Mem.tail _ (List.Mem.tail _ (List.Mem.tail _ (List.Mem.head _)))))) (Nat.le_of_ble_eq_true rfl) (by decide) (by omega) (by omega) (tX11_minute_1_ok (198, .iinc 3 1, 3) (List.mem_of_getElem? (i := 49) rfl)) (fun zv197 ze198 => ?_)
                    refine w_goto (tgt := 4) (tX11_minute_1_ok (201, .goto (-197), 3) (List.mem_of_getElem? (i := 50) rfl)) rfl ?_
                    have z8 : zv197.toInt.toNat = p.toInt.toNat + 1 := by omega
                    refine w_lv [(3, .int zv197), (2, .int sp), (0, .ref m), (1, .int sl)] (by intro q hq; simp only [List.mem_cons, List.not_mem_nil, or_false] at hq ⊢; rcases hq with e | e | e | e <;> subst e <;> simp) ?_
                    exact ih (j - 1) (by omega) _ _ _ _ (by omega) (by omega) (by omega) H9 hmi hT0 (fun q hq1 hq2 => hge q (by omega) hq2) (by rw [z8, ph_s, ph_s, hge p.toInt.toNat (by omega) (by omega)]; omega) hq
                  · refine w_iload (List.Mem.tail _ (List.Mem.tail _ (List.Mem.head _))) (tX11_minute_1_ok (166, .iload 6, 2) (List.mem_of_getElem? (i := 30) rfl)) ?_
                    refine w_if_ne (tgt := 174) (tX11_minute_1_ok (168, .ifCond .ne 6, 3) (List.mem_of_getElem? (i := 31) rfl)) rfl (fun zb199 => ?_) (fun zb199 => ?_)
                    · refine w_aload_n (List.Mem.tail _ (List.Mem.tail _ (List.Mem.tail _ (List.Mem.tail _ (List.Mem.tail _ (List.Mem.tail _ (List.Mem.tail _ (List.Mem.head _)))))))) (tX11_minute_1_ok (174, .aload_n 0, 1) (List.mem_of_getElem? (i := 33) rfl)) ?_
                      refine w_get (own := 16) rfl rfl (by decide) c_m fL22 (tX11_minute_1_ok (175, .getfield 45, 3) (List.mem_of_getElem? (i := 34) rfl)) ?_
                      refine w_iload_n (List.Mem.tail _ (List.Mem.tail _ (List.Mem.tail _ (List.Mem.tail _ (List.Mem.tail _ (List.Mem.head _)))))) (tX11_minute_1_ok (178, .iload_n 3, 1) (List.mem_of_getElem? (i := 35) rfl)) ?_
                      refine w_iload (List.Mem.head _) (tX11_minute_1_ok (179, .iload 8, 2) (List.mem_of_getElem? (i := 36) rfl)) ?_
                      refine w_iast hT c_to (by omega) (by omega) (tX11_minute_1_ok (181, .iastore, 1) (List.mem_of_getElem? (i := 37) rfl)) (fun zh200 zc201 zo202 => ?_)
                      have zc203 := (zo202 m n_m_to).trans c_m
                      have zc204 := (zo202 ro n_ro_to).trans c_ro
                      have zc205 := (zo202 we n_we_to).trans c_we
                      refine w_aload_n (List.Mem.tail _ (List.Mem.tail _ (List.Mem.tail _ (List.Mem.tail _ (List.Mem.tail _ (List.Mem.tail _ (List.Mem.tail _ (List.Mem.head _)))))))) (tX11_minute_1_ok (182, .aload_n 0, 1) (List.mem_of_getElem? (i := 38) rfl)) ?_
                      refine w_get (own := 16) rfl rfl (by decide) zc203 fL22 (tX11_minute_1_ok (183, .getfield 45, 3) (List.mem_of_getElem? (i := 39) rfl)) ?_
                      refine w_bipush (by decide) (tX11_minute_1_ok (186, .bipush 6, 2) (List.mem_of_getElem? (i := 40) rfl)) (fun zv206 ze207 => ?_)
                      refine w_iload_n (List.Mem.tail _ (List.Mem.tail _ (List.Mem.tail _ (List.Mem.tail _ (List.Mem.tail _ (List.Mem.head _)))))) (tX11_minute_1_ok (188, .iload_n 3, 1) (List.mem_of_getElem? (i := 41) rfl)) ?_
                      refine w_iadd (by omega) (by omega) (tX11_minute_1_ok (189, .iadd, 1) (List.mem_of_getElem? (i := 42) rfl)) (fun zv208 ze209 => ?_)
                      refine tt_dup2 rfl rfl (tX11_minute_1_ok (190, .dup2, 1) (List.mem_of_getElem? (i := 43) rfl)) ?_
                      show ww l D tys A X fr lo mX11_minute Q 191 [(8, .int zv185), (7, .int zv134), (6, .int zv29), (5, .int zv27), (4, .int zv24), (3, .int p), (2, .int sp), (0, .ref m), (1, .int sl)] [.int zv208, .ref to, .int zv208, .ref to] zh200
                      refine w_iald hT zc201 (by omega) (by omega) (tX11_minute_1_ok (191, .iaload, 1) (List.mem_of_getElem? (i := 44) rfl)) (fun zv210 ze211 => ?_)
                      refine w_iconst (by decide) (tX11_minute_1_ok (192, .iconst 1, 1) (List.mem_of_getElem? (i := 45) rfl)) (fun zv212 ze213 => ?_)
                      refine w_iaddA (tX11_minute_1_ok (193, .iadd, 1) (List.mem_of_getElem? (i := 46) rfl)) (fun zv214 => ?_)
                      refine w_iast hT zc201 (by omega) (by omega) (tX11_minute_1_ok (194, .iastore, 1) (List.mem_of_getElem? (i := 47) rfl)) (fun zh215 zc216 zo217 => ?_)
                      have zc218 := (zo217 m n_m_to).trans zc203
                      have zc219 := (zo217 ro n_ro_to).trans zc204
                      have zc220 := (zo217 we n_we_to).trans zc205
                      refine w_iinc (fun zv221 => [(2, .int zv221), (8, .int zv185), (7, .int zv134), (6, .int zv29), (5, .int zv27), (4, .int zv24), (3, .int p), (0, .ref m), (1, .int sl)]) (fun _ => rfl) (List.Mem.tail _ (List.Mem.tail _ (List.Mem.tail _ (List.Mem.tail _ (List.Mem.tail _ (List.Mem.tail _ (List.Mem.head _))))))) (Nat.le_of_ble_eq_true rfl) (by decide) (by omega) (by omega) (tX11_minute_1_ok (195, .iinc 2 1, 3) (List.mem_of_getElem? (i := 48) rfl)) (fun zv221 ze222 => ?_)
                      refine w_iinc (fun zv223 => [(3, .int zv223), (2, .int zv221), (8, .int zv185), (7, .int zv134), (6, .int zv29), (5, .int zv27), (4, .int zv24), (0, .ref m), (1, .int sl)]) (fun _ => rfl) (List.Mem.tail _ (List.Mem.tail _ (List.Mem.tail _ (List.Mem.tail _ (List.Mem.tail _ (List.Mem.tail _ (List.Mem.head _))))))) (Nat.le_of_ble_eq_true rfl) (by decide) (by omega) (by omega) (tX11_minute_1_ok (198, .iinc 3 1, 3) (List.mem_of_getElem? (i := 49) rfl)) (fun zv223 ze224 => ?_)
                      refine w_goto (tgt := 4) (tX11_minute_1_ok (201, .goto (-197), 3) (List.mem_of_getElem? (i := 50) rfl)) rfl ?_
                      have z8 : zv223.toInt.toNat = p.toInt.toNat + 1 := by omega
                      have e1 : p.toInt.toNat = p.toInt.toNat := by omega
                      have e2 : zv208.toInt.toNat = 6 + p.toInt.toNat := by omega
                      have c9 := zc216
                      rw [e1, e2] at c9
                      have k9 : (∀ q, ¬ q = p.toInt.toNat → ¬ q = 6 + p.toInt.toNat → upd (upd T p.toInt.toNat zv185) (6 + p.toInt.toNat) zv214 q = T q) := fun q q1 q2 => by rw [upd_n _ _ q2, upd_n _ _ q1]
                      have d9 := ph_dn (R := R) (b := b) (p := p.toInt.toNat) (x := (T p.toInt.toNat).toInt) (y := zv185.toInt) mb.1 (by rw [← plq]; omega) (by omega)
                      have d8 : ph_s R (upd (upd T p.toInt.toNat zv185) (6 + p.toInt.toNat) zv214) b p.toInt.toNat = ph_s R T b p.toInt.toNat := ph_s_ext _ (fun q hq => k9 q (by omega) (by omega))
                      have d7 : (upd (upd T p.toInt.toNat zv185) (6 + p.toInt.toNat) zv214) p.toInt.toNat = zv185 := by rw [upd_n _ _ (by omega), upd_s]
                      refine w_lv [(3, .int zv223), (2, .int zv221), (0, .ref m), (1, .int sl)] (by intro q hq; simp only [List.mem_cons, List.not_mem_nil, or_false] at hq ⊢; rcases hq with e | e | e | e <;> subst e <;> simp) ?_
                      refine ih (j - 1) (by omega) _ _ _ _ (by omega) (by omega) (by omega) ⟨zc218, fL19, fL20, fL22, fL28, fL33, zc219, c9, zc220, pe0, rp0, hbo.upd (by omega)⟩ (hmi.upd (by omega) (by omega)) (fun q q1 q2 => (k9 q (by omega) (by omega)).trans (hT0 q q1 q2)) (fun q q1 q2 => (k9 q (by omega) (by omega)).trans (hge q (by omega) q2)) ?_ (fun h1 T1 v1 q1 q2 q3 q4 q5 q6 => hq h1 T1 v1 q1 q2 q3 q4 q5 (fun q hq => (q6 q hq).trans ((zo217 q hq).trans (zo202 q hq))))
                      rw [z8, ph_s, ph_s, d8, d7, ← hge p.toInt.toNat (by omega) (by omega)]
                      omega
                    · refine w_goto (tgt := 198) (tX11_minute_1_ok (171, .goto 27, 3) (List.mem_of_getElem? (i := 32) rfl)) rfl ?_
                      refine w_iinc (fun zv225 => [(3, .int zv225), (8, .int zv185), (7, .int zv134), (6, .int zv29), (5, .int zv27), (4, .int zv24), (2, .int sp), (0, .ref m), (1, .int sl)]) (fun _ => rfl) (List.Mem.tail _ (List.Mem.tail _ (List.Mem.tail _ (List.Mem.tail _ (List.Mem.tail _ (List.Mem.head _)))))) (Nat.le_of_ble_eq_true rfl) (by decide) (by omega) (by omega) (tX11_minute_1_ok (198, .iinc 3 1, 3) (List.mem_of_getElem? (i := 49) rfl)) (fun zv225 ze226 => ?_)
                      refine w_goto (tgt := 4) (tX11_minute_1_ok (201, .goto (-197), 3) (List.mem_of_getElem? (i := 50) rfl)) rfl ?_
                      have z8 : zv225.toInt.toNat = p.toInt.toNat + 1 := by omega
                      refine w_lv [(3, .int zv225), (2, .int sp), (0, .ref m), (1, .int sl)] (by intro q hq; simp only [List.mem_cons, List.not_mem_nil, or_false] at hq ⊢; rcases hq with e | e | e | e <;> subst e <;> simp) ?_
                      exact ih (j - 1) (by omega) _ _ _ _ (by omega) (by omega) (by omega) H9 hmi hT0 (fun q hq1 hq2 => hge q (by omega) hq2) (by rw [z8, ph_s, ph_s, hge p.toInt.toNat (by omega) (by omega)]; omega) hq
            · refine w_iload (List.Mem.head _) (tX11_minute_0_ok (89, .iload 6, 2) (List.mem_of_getElem? (i := 48) rfl)) ?_
              refine w_absA rfl (by omega) (by omega) (tX11_minute_0_ok (91, .invokestatic 304, 3) (List.mem_of_getElem? (i := 49) rfl)) (fun zv227 => ?_)
              refine w_aload_n (List.Mem.tail _ (List.Mem.tail _ (List.Mem.tail _ (List.Mem.tail _ (List.Mem.tail _ (List.Mem.head _)))))) (tX11_minute_0_ok (94, .aload_n 0, 1) (List.mem_of_getElem? (i := 50) rfl)) ?_
              refine w_iload_n (List.Mem.tail _ (List.Mem.tail _ (List.Mem.tail _ (List.Mem.head _)))) (tX11_minute_0_ok (95, .iload_n 3, 1) (List.mem_of_getElem? (i := 51) rfl)) ?_
              refine w_iconst (by decide) (tX11_minute_0_ok (96, .iconst 5, 1) (List.mem_of_getElem? (i := 52) rfl)) (fun zv228 ze229 => ?_)
              refine w_callV (own := 16) (mi := 219) [.int p, .int zv228] [.int zv227] [(0, .ref m), (1, .int p), (2, .int zv228)] rfl (cllw_X11 (255, 0, 219) (List.mem_of_getElem? (i := 34) rfl)) rfl rfl c_m rfl (by omega) (w_lo (n := 22) rfl (by omega)) (Nat.le_of_ble_eq_true rfl) (Nat.le_of_ble_eq_true rfl) rfl (tX11_minute_0_ok (97, .invokevirtual 255, 3) (List.mem_of_getElem? (i := 53) rfl)) (h_of hT (by omega) (by omega) H9 (fun zv230 ze231 => ?_))
              have zi232 : 9 * p.toInt.toNat + zv228.toInt.toNat = 9 * p.toInt.toNat + 5 := by omega
              rw [zi232] at ze231
              show ww l D tys A X fr lo mX11_minute Q 100 [(6, .int zv29), (5, .int zv27), (4, .int zv24), (3, .int p), (2, .int sp), (0, .ref m), (1, .int sl)] [.int zv230, .int zv227] h
              refine w_icmp_gt (tgt := 106) (tX11_minute_0_ok (100, .if_icmp .gt 6, 3) (List.mem_of_getElem? (i := 54) rfl)) rfl (fun zb233 => ?_) (fun zb233 => ?_)
              · refine w_aload_n (List.Mem.tail _ (List.Mem.tail _ (List.Mem.tail _ (List.Mem.tail _ (List.Mem.tail _ (List.Mem.head _)))))) (tX11_minute_0_ok (106, .aload_n 0, 1) (List.mem_of_getElem? (i := 56) rfl)) ?_
                refine w_iload_n (List.Mem.tail _ (List.Mem.tail _ (List.Mem.tail _ (List.Mem.head _)))) (tX11_minute_0_ok (107, .iload_n 3, 1) (List.mem_of_getElem? (i := 57) rfl)) ?_
                refine w_iconst (by decide) (tX11_minute_0_ok (108, .iconst 0, 1) (List.mem_of_getElem? (i := 58) rfl)) (fun zv234 ze235 => ?_)
                refine w_callV (own := 16) (mi := 219) [.int p, .int zv234] [] [(0, .ref m), (1, .int p), (2, .int zv234)] rfl (cllw_X11 (255, 0, 219) (List.mem_of_getElem? (i := 34) rfl)) rfl rfl c_m rfl (by omega) (w_lo (n := 22) rfl (by omega)) (Nat.le_of_ble_eq_true rfl) (Nat.le_of_ble_eq_true rfl) rfl (tX11_minute_0_ok (109, .invokevirtual 255, 3) (List.mem_of_getElem? (i := 59) rfl)) (h_of hT (by omega) (by omega) H9 (fun zv236 ze237 => ?_))
                have zi238 : 9 * p.toInt.toNat + zv234.toInt.toNat = 9 * p.toInt.toNat := by omega
                rw [zi238] at ze237
                show ww l D tys A X fr lo mX11_minute Q 112 [(6, .int zv29), (5, .int zv27), (4, .int zv24), (3, .int p), (2, .int sp), (0, .ref m), (1, .int sl)] [.int zv236] h
                refine w_iconst (by decide) (tX11_minute_1_ok (112, .iconst 1, 1) (List.mem_of_getElem? (i := 0) rfl)) (fun zv239 ze240 => ?_)
                refine w_icmp_ne (tgt := 120) (tX11_minute_1_ok (113, .if_icmp .ne 7, 3) (List.mem_of_getElem? (i := 1) rfl)) rfl (fun zb241 => ?_) (fun zb241 => ?_)
                · refine w_iconst (by decide) (tX11_minute_1_ok (120, .iconst 1, 1) (List.mem_of_getElem? (i := 4) rfl)) (fun zv242 ze243 => ?_)
                  refine w_istore [(7, .int zv242), (6, .int zv29), (5, .int zv27), (4, .int zv24), (3, .int p), (2, .int sp), (0, .ref m), (1, .int sl)] rfl (Nat.le_of_ble_eq_true rfl) (tX11_minute_1_ok (121, .istore 7, 2) (List.mem_of_getElem? (i := 5) rfl)) ?_
                  refine w_iload (List.Mem.tail _ (List.Mem.head _)) (tX11_minute_1_ok (123, .iload 6, 2) (List.mem_of_getElem? (i := 6) rfl)) ?_
                  refine w_if_le (tgt := 140) (tX11_minute_1_ok (125, .ifCond .le 15, 3) (List.mem_of_getElem? (i := 7) rfl)) rfl (fun zb244 => ?_) (fun zb244 => ?_)
                  · refine w_aload_n (List.Mem.tail _ (List.Mem.tail _ (List.Mem.tail _ (List.Mem.tail _ (List.Mem.tail _ (List.Mem.tail _ (List.Mem.head _))))))) (tX11_minute_1_ok (140, .aload_n 0, 1) (List.mem_of_getElem? (i := 15) rfl)) ?_
                    refine w_get (own := 16) rfl rfl (by decide) c_m fL22 (tX11_minute_1_ok (141, .getfield 45, 3) (List.mem_of_getElem? (i := 16) rfl)) ?_
                    refine w_iload_n (List.Mem.tail _ (List.Mem.tail _ (List.Mem.tail _ (List.Mem.tail _ (List.Mem.head _))))) (tX11_minute_1_ok (144, .iload_n 3, 1) (List.mem_of_getElem? (i := 17) rfl)) ?_
                    refine w_iald hT c_to (by omega) (by omega) (tX11_minute_1_ok (145, .iaload, 1) (List.mem_of_getElem? (i := 18) rfl)) (fun zv245 ze246 => ?_)
                    have zi247 : p.toInt.toNat = p.toInt.toNat := by omega
                    rw [zi247] at ze246
                    refine w_iload (List.Mem.head _) (tX11_minute_1_ok (146, .iload 7, 2) (List.mem_of_getElem? (i := 19) rfl)) ?_
                    refine w_iadd (by omega) (by omega) (tX11_minute_1_ok (148, .iadd, 1) (List.mem_of_getElem? (i := 20) rfl)) (fun zv248 ze249 => ?_)
                    refine w_istore [(8, .int zv248), (7, .int zv242), (6, .int zv29), (5, .int zv27), (4, .int zv24), (3, .int p), (2, .int sp), (0, .ref m), (1, .int sl)] rfl (Nat.le_of_ble_eq_true rfl) (tX11_minute_1_ok (149, .istore 8, 2) (List.mem_of_getElem? (i := 21) rfl)) ?_
                    refine w_iload (List.Mem.head _) (tX11_minute_1_ok (151, .iload 8, 2) (List.mem_of_getElem? (i := 22) rfl)) ?_
                    refine w_iconst (by decide) (tX11_minute_1_ok (153, .iconst 0, 1) (List.mem_of_getElem? (i := 23) rfl)) (fun zv250 ze251 => ?_)
                    refine w_aload_n (List.Mem.tail _ (List.Mem.tail _ (List.Mem.tail _ (List.Mem.tail _ (List.Mem.tail _ (List.Mem.tail _ (List.Mem.tail _ (List.Mem.head _)))))))) (tX11_minute_1_ok (154, .aload_n 0, 1) (List.mem_of_getElem? (i := 24) rfl)) ?_
                    refine w_iload_n (List.Mem.tail _ (List.Mem.tail _ (List.Mem.tail _ (List.Mem.tail _ (List.Mem.tail _ (List.Mem.head _)))))) (tX11_minute_1_ok (155, .iload_n 3, 1) (List.mem_of_getElem? (i := 25) rfl)) ?_
                    refine w_iconst (by decide) (tX11_minute_1_ok (156, .iconst 1, 1) (List.mem_of_getElem? (i := 26) rfl)) (fun zv252 ze253 => ?_)
                    refine w_callV (own := 16) (mi := 219) [.int p, .int zv252] [.int zv250, .int zv248] [(0, .ref m), (1, .int p), (2, .int zv252)] rfl (cllw_X11 (255, 0, 219) (List.mem_of_getElem? (i := 34) rfl)) rfl rfl c_m rfl (by omega) (w_lo (n := 22) rfl (by omega)) (Nat.le_of_ble_eq_true rfl) (Nat.le_of_ble_eq_true rfl) rfl (tX11_minute_1_ok (157, .invokevirtual 255, 3) (List.mem_of_getElem? (i := 27) rfl)) (h_of hT (by omega) (by omega) H9 (fun zv254 ze255 => ?_))
                    have zi256 : 9 * p.toInt.toNat + zv252.toInt.toNat = 9 * p.toInt.toNat + 1 := by omega
                    rw [zi256] at ze255
                    show ww l D tys A X fr lo mX11_minute Q 160 [(8, .int zv248), (7, .int zv242), (6, .int zv29), (5, .int zv27), (4, .int zv24), (3, .int p), (2, .int sp), (0, .ref m), (1, .int sl)] [.int zv254, .int zv250, .int zv248] h
                    refine w_callS (own := 16) (mi := 199) [.int zv248, .int zv250, .int zv254] [] [(0, .int zv248), (1, .int zv250), (2, .int zv254)] rfl (cllw_X11 (207, 1, 199) (List.mem_of_getElem? (i := 2) rfl)) rfl rfl (by omega) (w_lo (n := 22) rfl (by omega)) (Nat.le_of_ble_eq_true rfl) (Nat.le_of_ble_eq_true rfl) rfl (tX11_minute_1_ok (160, .invokestatic 207, 3) (List.mem_of_getElem? (i := 28) rfl)) (r_isIn (fun zv257 ze258 => ?_))
                    show ww l D tys A X fr lo mX11_minute Q 163 [(8, .int zv248), (7, .int zv242), (6, .int zv29), (5, .int zv27), (4, .int zv24), (3, .int p), (2, .int sp), (0, .ref m), (1, .int sl)] [.int zv257] h
                    refine w_if_eq (tgt := 198) (tX11_minute_1_ok (163, .ifCond .eq 35, 3) (List.mem_of_getElem? (i := 29) rfl)) rfl (fun zb259 => ?_) (fun zb259 => ?_)
                    · refine w_iinc (fun zv260 => [(3, .int zv260), (8, .int zv248), (7, .int zv242), (6, .int zv29), (5, .int zv27), (4, .int zv24), (2, .int sp), (0, .ref m), (1, .int sl)]) (fun _ => rfl) (List.Mem.tail _ (List.Mem.tail _ (List.Mem.tail _ (List.Mem.tail _ (List.Mem.tail _ (List.Mem.head _)))))) (Nat.le_of_ble_eq_true rfl) (by decide) (by omega) (by omega) (tX11_minute_1_ok (198, .iinc 3 1, 3) (List.mem_of_getElem? (i := 49) rfl)) (fun zv260 ze261 => ?_)
                      refine w_goto (tgt := 4) (tX11_minute_1_ok (201, .goto (-197), 3) (List.mem_of_getElem? (i := 50) rfl)) rfl ?_
                      have z8 : zv260.toInt.toNat = p.toInt.toNat + 1 := by omega
                      refine w_lv [(3, .int zv260), (2, .int sp), (0, .ref m), (1, .int sl)] (by intro q hq; simp only [List.mem_cons, List.not_mem_nil, or_false] at hq ⊢; rcases hq with e | e | e | e <;> subst e <;> simp) ?_
                      exact ih (j - 1) (by omega) _ _ _ _ (by omega) (by omega) (by omega) H9 hmi hT0 (fun q hq1 hq2 => hge q (by omega) hq2) (by rw [z8, ph_s, ph_s, hge p.toInt.toNat (by omega) (by omega)]; omega) hq
                    · refine w_iload (List.Mem.tail _ (List.Mem.tail _ (List.Mem.head _))) (tX11_minute_1_ok (166, .iload 6, 2) (List.mem_of_getElem? (i := 30) rfl)) ?_
                      refine w_if_ne (tgt := 174) (tX11_minute_1_ok (168, .ifCond .ne 6, 3) (List.mem_of_getElem? (i := 31) rfl)) rfl (fun zb262 => ?_) (fun zb262 => ?_)
                      · exfalso; omega
                      · refine w_goto (tgt := 198) (tX11_minute_1_ok (171, .goto 27, 3) (List.mem_of_getElem? (i := 32) rfl)) rfl ?_
                        refine w_iinc (fun zv263 => [(3, .int zv263), (8, .int zv248), (7, .int zv242), (6, .int zv29), (5, .int zv27), (4, .int zv24), (2, .int sp), (0, .ref m), (1, .int sl)]) (fun _ => rfl) (List.Mem.tail _ (List.Mem.tail _ (List.Mem.tail _ (List.Mem.tail _ (List.Mem.tail _ (List.Mem.head _)))))) (Nat.le_of_ble_eq_true rfl) (by decide) (by omega) (by omega) (tX11_minute_1_ok (198, .iinc 3 1, 3) (List.mem_of_getElem? (i := 49) rfl)) (fun zv263 ze264 => ?_)
                        refine w_goto (tgt := 4) (tX11_minute_1_ok (201, .goto (-197), 3) (List.mem_of_getElem? (i := 50) rfl)) rfl ?_
                        have z8 : zv263.toInt.toNat = p.toInt.toNat + 1 := by omega
                        refine w_lv [(3, .int zv263), (2, .int sp), (0, .ref m), (1, .int sl)] (by intro q hq; simp only [List.mem_cons, List.not_mem_nil, or_false] at hq ⊢; rcases hq with e | e | e | e <;> subst e <;> simp) ?_
                        exact ih (j - 1) (by omega) _ _ _ _ (by omega) (by omega) (by omega) H9 hmi hT0 (fun q hq1 hq2 => hge q (by omega) hq2) (by rw [z8, ph_s, ph_s, hge p.toInt.toNat (by omega) (by omega)]; omega) hq
                  · exfalso; omega
                · refine w_iconst (by decide) (tX11_minute_1_ok (116, .iconst 2, 1) (List.mem_of_getElem? (i := 2) rfl)) (fun zv265 ze266 => ?_)
                  refine w_goto (tgt := 121) (tX11_minute_1_ok (117, .goto 4, 3) (List.mem_of_getElem? (i := 3) rfl)) rfl ?_
                  refine w_istore [(7, .int zv265), (6, .int zv29), (5, .int zv27), (4, .int zv24), (3, .int p), (2, .int sp), (0, .ref m), (1, .int sl)] rfl (Nat.le_of_ble_eq_true rfl) (tX11_minute_1_ok (121, .istore 7, 2) (List.mem_of_getElem? (i := 5) rfl)) ?_
                  refine w_iload (List.Mem.tail _ (List.Mem.head _)) (tX11_minute_1_ok (123, .iload 6, 2) (List.mem_of_getElem? (i := 6) rfl)) ?_
                  refine w_if_le (tgt := 140) (tX11_minute_1_ok (125, .ifCond .le 15, 3) (List.mem_of_getElem? (i := 7) rfl)) rfl (fun zb267 => ?_) (fun zb267 => ?_)
                  · refine w_aload_n (List.Mem.tail _ (List.Mem.tail _ (List.Mem.tail _ (List.Mem.tail _ (List.Mem.tail _ (List.Mem.tail _ (List.Mem.head _))))))) (tX11_minute_1_ok (140, .aload_n 0, 1) (List.mem_of_getElem? (i := 15) rfl)) ?_
                    refine w_get (own := 16) rfl rfl (by decide) c_m fL22 (tX11_minute_1_ok (141, .getfield 45, 3) (List.mem_of_getElem? (i := 16) rfl)) ?_
                    refine w_iload_n (List.Mem.tail _ (List.Mem.tail _ (List.Mem.tail _ (List.Mem.tail _ (List.Mem.head _))))) (tX11_minute_1_ok (144, .iload_n 3, 1) (List.mem_of_getElem? (i := 17) rfl)) ?_
                    refine w_iald hT c_to (by omega) (by omega) (tX11_minute_1_ok (145, .iaload, 1) (List.mem_of_getElem? (i := 18) rfl)) (fun zv268 ze269 => ?_)
                    have zi270 : p.toInt.toNat = p.toInt.toNat := by omega
                    rw [zi270] at ze269
                    refine w_iload (List.Mem.head _) (tX11_minute_1_ok (146, .iload 7, 2) (List.mem_of_getElem? (i := 19) rfl)) ?_
                    refine w_iadd (by omega) (by omega) (tX11_minute_1_ok (148, .iadd, 1) (List.mem_of_getElem? (i := 20) rfl)) (fun zv271 ze272 => ?_)
                    refine w_istore [(8, .int zv271), (7, .int zv265), (6, .int zv29), (5, .int zv27), (4, .int zv24), (3, .int p), (2, .int sp), (0, .ref m), (1, .int sl)] rfl (Nat.le_of_ble_eq_true rfl) (tX11_minute_1_ok (149, .istore 8, 2) (List.mem_of_getElem? (i := 21) rfl)) ?_
                    refine w_iload (List.Mem.head _) (tX11_minute_1_ok (151, .iload 8, 2) (List.mem_of_getElem? (i := 22) rfl)) ?_
                    refine w_iconst (by decide) (tX11_minute_1_ok (153, .iconst 0, 1) (List.mem_of_getElem? (i := 23) rfl)) (fun zv273 ze274 => ?_)
                    refine w_aload_n (List.Mem.tail _ (List.Mem.tail _ (List.Mem.tail _ (List.Mem.tail _ (List.Mem.tail _ (List.Mem.tail _ (List.Mem.tail _ (List.Mem.head _)))))))) (tX11_minute_1_ok (154, .aload_n 0, 1) (List.mem_of_getElem? (i := 24) rfl)) ?_
                    refine w_iload_n (List.Mem.tail _ (List.Mem.tail _ (List.Mem.tail _ (List.Mem.tail _ (List.Mem.tail _ (List.Mem.head _)))))) (tX11_minute_1_ok (155, .iload_n 3, 1) (List.mem_of_getElem? (i := 25) rfl)) ?_
                    refine w_iconst (by decide) (tX11_minute_1_ok (156, .iconst 1, 1) (List.mem_of_getElem? (i := 26) rfl)) (fun zv275 ze276 => ?_)
                    refine w_callV (own := 16) (mi := 219) [.int p, .int zv275] [.int zv273, .int zv271] [(0, .ref m), (1, .int p), (2, .int zv275)] rfl (cllw_X11 (255, 0, 219) (List.mem_of_getElem? (i := 34) rfl)) rfl rfl c_m rfl (by omega) (w_lo (n := 22) rfl (by omega)) (Nat.le_of_ble_eq_true rfl) (Nat.le_of_ble_eq_true rfl) rfl (tX11_minute_1_ok (157, .invokevirtual 255, 3) (List.mem_of_getElem? (i := 27) rfl)) (h_of hT (by omega) (by omega) H9 (fun zv277 ze278 => ?_))
                    have zi279 : 9 * p.toInt.toNat + zv275.toInt.toNat = 9 * p.toInt.toNat + 1 := by omega
                    rw [zi279] at ze278
                    show ww l D tys A X fr lo mX11_minute Q 160 [(8, .int zv271), (7, .int zv265), (6, .int zv29), (5, .int zv27), (4, .int zv24), (3, .int p), (2, .int sp), (0, .ref m), (1, .int sl)] [.int zv277, .int zv273, .int zv271] h
                    refine w_callS (own := 16) (mi := 199) [.int zv271, .int zv273, .int zv277] [] [(0, .int zv271), (1, .int zv273), (2, .int zv277)] rfl (cllw_X11 (207, 1, 199) (List.mem_of_getElem? (i := 2) rfl)) rfl rfl (by omega) (w_lo (n := 22) rfl (by omega)) (Nat.le_of_ble_eq_true rfl) (Nat.le_of_ble_eq_true rfl) rfl (tX11_minute_1_ok (160, .invokestatic 207, 3) (List.mem_of_getElem? (i := 28) rfl)) (r_isIn (fun zv280 ze281 => ?_))
                    show ww l D tys A X fr lo mX11_minute Q 163 [(8, .int zv271), (7, .int zv265), (6, .int zv29), (5, .int zv27), (4, .int zv24), (3, .int p), (2, .int sp), (0, .ref m), (1, .int sl)] [.int zv280] h
                    refine w_if_eq (tgt := 198) (tX11_minute_1_ok (163, .ifCond .eq 35, 3) (List.mem_of_getElem? (i := 29) rfl)) rfl (fun zb282 => ?_) (fun zb282 => ?_)
                    · refine w_iinc (fun zv283 => [(3, .int zv283), (8, .int zv271), (7, .int zv265), (6, .int zv29), (5, .int zv27), (4, .int zv24), (2, .int sp), (0, .ref m), (1, .int sl)]) (fun _ => rfl) (List.Mem.tail _ (List.Mem.tail _ (List.Mem.tail _ (List.Mem.tail _ (List.Mem.tail _ (List.Mem.head _)))))) (Nat.le_of_ble_eq_true rfl) (by decide) (by omega) (by omega) (tX11_minute_1_ok (198, .iinc 3 1, 3) (List.mem_of_getElem? (i := 49) rfl)) (fun zv283 ze284 => ?_)
                      refine w_goto (tgt := 4) (tX11_minute_1_ok (201, .goto (-197), 3) (List.mem_of_getElem? (i := 50) rfl)) rfl ?_
                      have z8 : zv283.toInt.toNat = p.toInt.toNat + 1 := by omega
                      refine w_lv [(3, .int zv283), (2, .int sp), (0, .ref m), (1, .int sl)] (by intro q hq; simp only [List.mem_cons, List.not_mem_nil, or_false] at hq ⊢; rcases hq with e | e | e | e <;> subst e <;> simp) ?_
                      exact ih (j - 1) (by omega) _ _ _ _ (by omega) (by omega) (by omega) H9 hmi hT0 (fun q hq1 hq2 => hge q (by omega) hq2) (by rw [z8, ph_s, ph_s, hge p.toInt.toNat (by omega) (by omega)]; omega) hq
                    · refine w_iload (List.Mem.tail _ (List.Mem.tail _ (List.Mem.head _))) (tX11_minute_1_ok (166, .iload 6, 2) (List.mem_of_getElem? (i := 30) rfl)) ?_
                      refine w_if_ne (tgt := 174) (tX11_minute_1_ok (168, .ifCond .ne 6, 3) (List.mem_of_getElem? (i := 31) rfl)) rfl (fun zb285 => ?_) (fun zb285 => ?_)
                      · exfalso; omega
                      · refine w_goto (tgt := 198) (tX11_minute_1_ok (171, .goto 27, 3) (List.mem_of_getElem? (i := 32) rfl)) rfl ?_
                        refine w_iinc (fun zv286 => [(3, .int zv286), (8, .int zv271), (7, .int zv265), (6, .int zv29), (5, .int zv27), (4, .int zv24), (2, .int sp), (0, .ref m), (1, .int sl)]) (fun _ => rfl) (List.Mem.tail _ (List.Mem.tail _ (List.Mem.tail _ (List.Mem.tail _ (List.Mem.tail _ (List.Mem.head _)))))) (Nat.le_of_ble_eq_true rfl) (by decide) (by omega) (by omega) (tX11_minute_1_ok (198, .iinc 3 1, 3) (List.mem_of_getElem? (i := 49) rfl)) (fun zv286 ze287 => ?_)
                        refine w_goto (tgt := 4) (tX11_minute_1_ok (201, .goto (-197), 3) (List.mem_of_getElem? (i := 50) rfl)) rfl ?_
                        have z8 : zv286.toInt.toNat = p.toInt.toNat + 1 := by omega
                        refine w_lv [(3, .int zv286), (2, .int sp), (0, .ref m), (1, .int sl)] (by intro q hq; simp only [List.mem_cons, List.not_mem_nil, or_false] at hq ⊢; rcases hq with e | e | e | e <;> subst e <;> simp) ?_
                        exact ih (j - 1) (by omega) _ _ _ _ (by omega) (by omega) (by omega) H9 hmi hT0 (fun q hq1 hq2 => hge q (by omega) hq2) (by rw [z8, ph_s, ph_s, hge p.toInt.toNat (by omega) (by omega)]; omega) hq
                  · exfalso; omega
              · refine w_goto (tgt := 198) (tX11_minute_0_ok (103, .goto 95, 3) (List.mem_of_getElem? (i := 55) rfl)) rfl ?_
                refine w_iinc (fun zv288 => [(3, .int zv288), (6, .int zv29), (5, .int zv27), (4, .int zv24), (2, .int sp), (0, .ref m), (1, .int sl)]) (fun _ => rfl) (List.Mem.tail _ (List.Mem.tail _ (List.Mem.tail _ (List.Mem.head _)))) (Nat.le_of_ble_eq_true rfl) (by decide) (by omega) (by omega) (tX11_minute_1_ok (198, .iinc 3 1, 3) (List.mem_of_getElem? (i := 49) rfl)) (fun zv288 ze289 => ?_)
                refine w_goto (tgt := 4) (tX11_minute_1_ok (201, .goto (-197), 3) (List.mem_of_getElem? (i := 50) rfl)) rfl ?_
                have z8 : zv288.toInt.toNat = p.toInt.toNat + 1 := by omega
                refine w_lv [(3, .int zv288), (2, .int sp), (0, .ref m), (1, .int sl)] (by intro q hq; simp only [List.mem_cons, List.not_mem_nil, or_false] at hq ⊢; rcases hq with e | e | e | e <;> subst e <;> simp) ?_
                exact ih (j - 1) (by omega) _ _ _ _ (by omega) (by omega) (by omega) H9 hmi hT0 (fun q hq1 hq2 => hge q (by omega) hq2) (by rw [z8, ph_s, ph_s, hge p.toInt.toNat (by omega) (by omega)]; omega) hq
        · exfalso; omega
      · refine w_iconst (by decide) (tX11_minute_0_ok (25, .iconst 1, 1) (List.mem_of_getElem? (i := 16) rfl)) (fun zv290 ze291 => ?_)
        refine w_goto (tgt := 30) (tX11_minute_0_ok (26, .goto 4, 3) (List.mem_of_getElem? (i := 17) rfl)) rfl ?_
        refine w_istore [(4, .int zv290), (3, .int p), (2, .int sp), (0, .ref m), (1, .int sl)] rfl (Nat.le_of_ble_eq_true rfl) (tX11_minute_0_ok (30, .istore 4, 2) (List.mem_of_getElem? (i := 19) rfl)) ?_
        refine w_iload (List.Mem.head _) (tX11_minute_0_ok (32, .iload 4, 2) (List.mem_of_getElem? (i := 20) rfl)) ?_
        refine w_if_eq (tgt := 65) (tX11_minute_0_ok (34, .ifCond .eq 31, 3) (List.mem_of_getElem? (i := 21) rfl)) rfl (fun zb292 => ?_) (fun zb292 => ?_)
        · exfalso; omega
        · refine w_iload_n (List.Mem.tail _ (List.Mem.tail _ (List.Mem.tail _ (List.Mem.tail _ (List.Mem.head _))))) (tX11_minute_0_ok (37, .iload_n 1, 1) (List.mem_of_getElem? (i := 22) rfl)) ?_
          refine w_if_eq (tgt := 69) (tX11_minute_0_ok (38, .ifCond .eq 31, 3) (List.mem_of_getElem? (i := 23) rfl)) rfl (fun zb293 => ?_) (fun zb293 => ?_)
          · refine w_iconst (by decide) (tX11_minute_0_ok (69, .iconst 0, 1) (List.mem_of_getElem? (i := 38) rfl)) (fun zv294 ze295 => ?_)
            refine w_istore [(5, .int zv294), (4, .int zv290), (3, .int p), (2, .int sp), (0, .ref m), (1, .int sl)] rfl (Nat.le_of_ble_eq_true rfl) (tX11_minute_0_ok (70, .istore 5, 2) (List.mem_of_getElem? (i := 39) rfl)) ?_
            refine w_aload_n (List.Mem.tail _ (List.Mem.tail _ (List.Mem.tail _ (List.Mem.tail _ (List.Mem.head _))))) (tX11_minute_0_ok (72, .aload_n 0, 1) (List.mem_of_getElem? (i := 40) rfl)) ?_
            refine w_iload_n (List.Mem.tail _ (List.Mem.tail _ (List.Mem.head _))) (tX11_minute_0_ok (73, .iload_n 3, 1) (List.mem_of_getElem? (i := 41) rfl)) ?_
            refine w_callV (own := 16) (mi := 230) [.int p] [] [(0, .ref m), (1, .int p)] rfl (cllw_X11 (289, 0, 230) (List.mem_of_getElem? (i := 36) rfl)) rfl rfl c_m rfl (by omega) (w_lo (n := 23) rfl (by omega)) (Nat.le_of_ble_eq_true rfl) (Nat.le_of_ble_eq_true rfl) rfl (tX11_minute_0_ok (74, .invokevirtual 289, 3) (List.mem_of_getElem? (i := 42) rfl)) (h_pull hT (by omega) ⟨mb.1, mb.2.1⟩ ⟨mb.2.2.1, mb.2.2.2.1⟩ mb.2.2.2.2 (by omega) (w_sub (n := 23) rfl (by omega)) H9 (fun zv296 ze297 => ?_))
            have plq : zv296.toInt = pl_at R b p.toInt.toNat (T p.toInt.toNat).toInt := by rw [ze297, hbr (2 * p.toInt.toNat) (by omega), hbr (2 * p.toInt.toNat + 1) (by omega)]; rfl
            clear ze297
            show ww l D tys A X fr lo mX11_minute Q 77 [(5, .int zv294), (4, .int zv290), (3, .int p), (2, .int sp), (0, .ref m), (1, .int sl)] [.int zv296] h
            refine w_istore [(6, .int zv296), (5, .int zv294), (4, .int zv290), (3, .int p), (2, .int sp), (0, .ref m), (1, .int sl)] rfl (Nat.le_of_ble_eq_true rfl) (tX11_minute_0_ok (77, .istore 6, 2) (List.mem_of_getElem? (i := 43) rfl)) ?_
            refine w_iload (List.Mem.tail _ (List.Mem.head _)) (tX11_minute_0_ok (79, .iload 5, 2) (List.mem_of_getElem? (i := 44) rfl)) ?_
            refine w_if_eq (tgt := 89) (tX11_minute_0_ok (81, .ifCond .eq 8, 3) (List.mem_of_getElem? (i := 45) rfl)) rfl (fun zb298 => ?_) (fun zb298 => ?_)
            · refine w_iload (List.Mem.head _) (tX11_minute_0_ok (89, .iload 6, 2) (List.mem_of_getElem? (i := 48) rfl)) ?_
              refine w_absA rfl (by omega) (by omega) (tX11_minute_0_ok (91, .invokestatic 304, 3) (List.mem_of_getElem? (i := 49) rfl)) (fun zv299 => ?_)
              refine w_aload_n (List.Mem.tail _ (List.Mem.tail _ (List.Mem.tail _ (List.Mem.tail _ (List.Mem.tail _ (List.Mem.head _)))))) (tX11_minute_0_ok (94, .aload_n 0, 1) (List.mem_of_getElem? (i := 50) rfl)) ?_
              refine w_iload_n (List.Mem.tail _ (List.Mem.tail _ (List.Mem.tail _ (List.Mem.head _)))) (tX11_minute_0_ok (95, .iload_n 3, 1) (List.mem_of_getElem? (i := 51) rfl)) ?_
              refine w_iconst (by decide) (tX11_minute_0_ok (96, .iconst 5, 1) (List.mem_of_getElem? (i := 52) rfl)) (fun zv300 ze301 => ?_)
              refine w_callV (own := 16) (mi := 219) [.int p, .int zv300] [.int zv299] [(0, .ref m), (1, .int p), (2, .int zv300)] rfl (cllw_X11 (255, 0, 219) (List.mem_of_getElem? (i := 34) rfl)) rfl rfl c_m rfl (by omega) (w_lo (n := 22) rfl (by omega)) (Nat.le_of_ble_eq_true rfl) (Nat.le_of_ble_eq_true rfl) rfl (tX11_minute_0_ok (97, .invokevirtual 255, 3) (List.mem_of_getElem? (i := 53) rfl)) (h_of hT (by omega) (by omega) H9 (fun zv302 ze303 => ?_))
              have zi304 : 9 * p.toInt.toNat + zv300.toInt.toNat = 9 * p.toInt.toNat + 5 := by omega
              rw [zi304] at ze303
              show ww l D tys A X fr lo mX11_minute Q 100 [(6, .int zv296), (5, .int zv294), (4, .int zv290), (3, .int p), (2, .int sp), (0, .ref m), (1, .int sl)] [.int zv302, .int zv299] h
              refine w_icmp_gt (tgt := 106) (tX11_minute_0_ok (100, .if_icmp .gt 6, 3) (List.mem_of_getElem? (i := 54) rfl)) rfl (fun zb305 => ?_) (fun zb305 => ?_)
              · refine w_aload_n (List.Mem.tail _ (List.Mem.tail _ (List.Mem.tail _ (List.Mem.tail _ (List.Mem.tail _ (List.Mem.head _)))))) (tX11_minute_0_ok (106, .aload_n 0, 1) (List.mem_of_getElem? (i := 56) rfl)) ?_
                refine w_iload_n (List.Mem.tail _ (List.Mem.tail _ (List.Mem.tail _ (List.Mem.head _)))) (tX11_minute_0_ok (107, .iload_n 3, 1) (List.mem_of_getElem? (i := 57) rfl)) ?_
                refine w_iconst (by decide) (tX11_minute_0_ok (108, .iconst 0, 1) (List.mem_of_getElem? (i := 58) rfl)) (fun zv306 ze307 => ?_)
                refine w_callV (own := 16) (mi := 219) [.int p, .int zv306] [] [(0, .ref m), (1, .int p), (2, .int zv306)] rfl (cllw_X11 (255, 0, 219) (List.mem_of_getElem? (i := 34) rfl)) rfl rfl c_m rfl (by omega) (w_lo (n := 22) rfl (by omega)) (Nat.le_of_ble_eq_true rfl) (Nat.le_of_ble_eq_true rfl) rfl (tX11_minute_0_ok (109, .invokevirtual 255, 3) (List.mem_of_getElem? (i := 59) rfl)) (h_of hT (by omega) (by omega) H9 (fun zv308 ze309 => ?_))
                have zi310 : 9 * p.toInt.toNat + zv306.toInt.toNat = 9 * p.toInt.toNat := by omega
                rw [zi310] at ze309
                show ww l D tys A X fr lo mX11_minute Q 112 [(6, .int zv296), (5, .int zv294), (4, .int zv290), (3, .int p), (2, .int sp), (0, .ref m), (1, .int sl)] [.int zv308] h
                refine w_iconst (by decide) (tX11_minute_1_ok (112, .iconst 1, 1) (List.mem_of_getElem? (i := 0) rfl)) (fun zv311 ze312 => ?_)
                refine w_icmp_ne (tgt := 120) (tX11_minute_1_ok (113, .if_icmp .ne 7, 3) (List.mem_of_getElem? (i := 1) rfl)) rfl (fun zb313 => ?_) (fun zb313 => ?_)
                · refine w_iconst (by decide) (tX11_minute_1_ok (120, .iconst 1, 1) (List.mem_of_getElem? (i := 4) rfl)) (fun zv314 ze315 => ?_)
                  refine w_istore [(7, .int zv314), (6, .int zv296), (5, .int zv294), (4, .int zv290), (3, .int p), (2, .int sp), (0, .ref m), (1, .int sl)] rfl (Nat.le_of_ble_eq_true rfl) (tX11_minute_1_ok (121, .istore 7, 2) (List.mem_of_getElem? (i := 5) rfl)) ?_
                  refine w_iload (List.Mem.tail _ (List.Mem.head _)) (tX11_minute_1_ok (123, .iload 6, 2) (List.mem_of_getElem? (i := 6) rfl)) ?_
                  refine w_if_le (tgt := 140) (tX11_minute_1_ok (125, .ifCond .le 15, 3) (List.mem_of_getElem? (i := 7) rfl)) rfl (fun zb316 => ?_) (fun zb316 => ?_)
                  · refine w_aload_n (List.Mem.tail _ (List.Mem.tail _ (List.Mem.tail _ (List.Mem.tail _ (List.Mem.tail _ (List.Mem.tail _ (List.Mem.head _))))))) (tX11_minute_1_ok (140, .aload_n 0, 1) (List.mem_of_getElem? (i := 15) rfl)) ?_
                    refine w_get (own := 16) rfl rfl (by decide) c_m fL22 (tX11_minute_1_ok (141, .getfield 45, 3) (List.mem_of_getElem? (i := 16) rfl)) ?_
                    refine w_iload_n (List.Mem.tail _ (List.Mem.tail _ (List.Mem.tail _ (List.Mem.tail _ (List.Mem.head _))))) (tX11_minute_1_ok (144, .iload_n 3, 1) (List.mem_of_getElem? (i := 17) rfl)) ?_
                    refine w_iald hT c_to (by omega) (by omega) (tX11_minute_1_ok (145, .iaload, 1) (List.mem_of_getElem? (i := 18) rfl)) (fun zv317 ze318 => ?_)
                    have zi319 : p.toInt.toNat = p.toInt.toNat := by omega
                    rw [zi319] at ze318
                    refine w_iload (List.Mem.head _) (tX11_minute_1_ok (146, .iload 7, 2) (List.mem_of_getElem? (i := 19) rfl)) ?_
                    refine w_iadd (by omega) (by omega) (tX11_minute_1_ok (148, .iadd, 1) (List.mem_of_getElem? (i := 20) rfl)) (fun zv320 ze321 => ?_)
                    refine w_istore [(8, .int zv320), (7, .int zv314), (6, .int zv296), (5, .int zv294), (4, .int zv290), (3, .int p), (2, .int sp), (0, .ref m), (1, .int sl)] rfl (Nat.le_of_ble_eq_true rfl) (tX11_minute_1_ok (149, .istore 8, 2) (List.mem_of_getElem? (i := 21) rfl)) ?_
                    refine w_iload (List.Mem.head _) (tX11_minute_1_ok (151, .iload 8, 2) (List.mem_of_getElem? (i := 22) rfl)) ?_
                    refine w_iconst (by decide) (tX11_minute_1_ok (153, .iconst 0, 1) (List.mem_of_getElem? (i := 23) rfl)) (fun zv322 ze323 => ?_)
                    refine w_aload_n (List.Mem.tail _ (List.Mem.tail _ (List.Mem.tail _ (List.Mem.tail _ (List.Mem.tail _ (List.Mem.tail _ (List.Mem.tail _ (List.Mem.head _)))))))) (tX11_minute_1_ok (154, .aload_n 0, 1) (List.mem_of_getElem? (i := 24) rfl)) ?_
                    refine w_iload_n (List.Mem.tail _ (List.Mem.tail _ (List.Mem.tail _ (List.Mem.tail _ (List.Mem.tail _ (List.Mem.head _)))))) (tX11_minute_1_ok (155, .iload_n 3, 1) (List.mem_of_getElem? (i := 25) rfl)) ?_
                    refine w_iconst (by decide) (tX11_minute_1_ok (156, .iconst 1, 1) (List.mem_of_getElem? (i := 26) rfl)) (fun zv324 ze325 => ?_)
                    refine w_callV (own := 16) (mi := 219) [.int p, .int zv324] [.int zv322, .int zv320] [(0, .ref m), (1, .int p), (2, .int zv324)] rfl (cllw_X11 (255, 0, 219) (List.mem_of_getElem? (i := 34) rfl)) rfl rfl c_m rfl (by omega) (w_lo (n := 22) rfl (by omega)) (Nat.le_of_ble_eq_true rfl) (Nat.le_of_ble_eq_true rfl) rfl (tX11_minute_1_ok (157, .invokevirtual 255, 3) (List.mem_of_getElem? (i := 27) rfl)) (h_of hT (by omega) (by omega) H9 (fun zv326 ze327 => ?_))
                    have zi328 : 9 * p.toInt.toNat + zv324.toInt.toNat = 9 * p.toInt.toNat + 1 := by omega
                    rw [zi328] at ze327
                    show ww l D tys A X fr lo mX11_minute Q 160 [(8, .int zv320), (7, .int zv314), (6, .int zv296), (5, .int zv294), (4, .int zv290), (3, .int p), (2, .int sp), (0, .ref m), (1, .int sl)] [.int zv326, .int zv322, .int zv320] h
                    refine w_callS (own := 16) (mi := 199) [.int zv320, .int zv322, .int zv326] [] [(0, .int zv320), (1, .int zv322), (2, .int zv326)] rfl (cllw_X11 (207, 1, 199) (List.mem_of_getElem? (i := 2) rfl)) rfl rfl (by omega) (w_lo (n := 22) rfl (by omega)) (Nat.le_of_ble_eq_true rfl) (Nat.le_of_ble_eq_true rfl) rfl (tX11_minute_1_ok (160, .invokestatic 207, 3) (List.mem_of_getElem? (i := 28) rfl)) (r_isIn (fun zv329 ze330 => ?_))
                    show ww l D tys A X fr lo mX11_minute Q 163 [(8, .int zv320), (7, .int zv314), (6, .int zv296), (5, .int zv294), (4, .int zv290), (3, .int p), (2, .int sp), (0, .ref m), (1, .int sl)] [.int zv329] h
                    refine w_if_eq (tgt := 198) (tX11_minute_1_ok (163, .ifCond .eq 35, 3) (List.mem_of_getElem? (i := 29) rfl)) rfl (fun zb331 => ?_) (fun zb331 => ?_)
                    · refine w_iinc (fun zv332 => [(3, .int zv332), (8, .int zv320), (7, .int zv314), (6, .int zv296), (5, .int zv294), (4, .int zv290), (2, .int sp), (0, .ref m), (1, .int sl)]) (fun _ => rfl) (List.Mem.tail _ (List.Mem.tail _ (List.Mem.tail _ (List.Mem.tail _ (List.Mem.tail _ (List.Mem.head _)))))) (Nat.le_of_ble_eq_true rfl) (by decide) (by omega) (by omega) (tX11_minute_1_ok (198, .iinc 3 1, 3) (List.mem_of_getElem? (i := 49) rfl)) (fun zv332 ze333 => ?_)
                      refine w_goto (tgt := 4) (tX11_minute_1_ok (201, .goto (-197), 3) (List.mem_of_getElem? (i := 50) rfl)) rfl ?_
                      have z8 : zv332.toInt.toNat = p.toInt.toNat + 1 := by omega
                      refine w_lv [(3, .int zv332), (2, .int sp), (0, .ref m), (1, .int sl)] (by intro q hq; simp only [List.mem_cons, List.not_mem_nil, or_false] at hq ⊢; rcases hq with e | e | e | e <;> subst e <;> simp) ?_
                      exact ih (j - 1) (by omega) _ _ _ _ (by omega) (by omega) (by omega) H9 hmi hT0 (fun q hq1 hq2 => hge q (by omega) hq2) (by rw [z8, ph_s, ph_s, hge p.toInt.toNat (by omega) (by omega)]; omega) hq
                    · refine w_iload (List.Mem.tail _ (List.Mem.tail _ (List.Mem.head _))) (tX11_minute_1_ok (166, .iload 6, 2) (List.mem_of_getElem? (i := 30) rfl)) ?_
                      refine w_if_ne (tgt := 174) (tX11_minute_1_ok (168, .ifCond .ne 6, 3) (List.mem_of_getElem? (i := 31) rfl)) rfl (fun zb334 => ?_) (fun zb334 => ?_)
                      · refine w_aload_n (List.Mem.tail _ (List.Mem.tail _ (List.Mem.tail _ (List.Mem.tail _ (List.Mem.tail _ (List.Mem.tail _ (List.Mem.tail _ (List.Mem.head _)))))))) (tX11_minute_1_ok (174, .aload_n 0, 1) (List.mem_of_getElem? (i := 33) rfl)) ?_
                        refine w_get (own := 16) rfl rfl (by decide) c_m fL22 (tX11_minute_1_ok (175, .getfield 45, 3) (List.mem_of_getElem? (i := 34) rfl)) ?_
                        refine w_iload_n (List.Mem.tail _ (List.Mem.tail _ (List.Mem.tail _ (List.Mem.tail _ (List.Mem.tail _ (List.Mem.head _)))))) (tX11_minute_1_ok (178, .iload_n 3, 1) (List.mem_of_getElem? (i := 35) rfl)) ?_
                        refine w_iload (List.Mem.head _) (tX11_minute_1_ok (179, .iload 8, 2) (List.mem_of_getElem? (i := 36) rfl)) ?_
                        refine w_iast hT c_to (by omega) (by omega) (tX11_minute_1_ok (181, .iastore, 1) (List.mem_of_getElem? (i := 37) rfl)) (fun zh335 zc336 zo337 => ?_)
                        have zc338 := (zo337 m n_m_to).trans c_m
                        have zc339 := (zo337 ro n_ro_to).trans c_ro
                        have zc340 := (zo337 we n_we_to).trans c_we
                        refine w_aload_n (List.Mem.tail _ (List.Mem.tail _ (List.Mem.tail _ (List.Mem.tail _ (List.Mem.tail _ (List.Mem.tail _ (List.Mem.tail _ (List.Mem.head _)))))))) (tX11_minute_1_ok (182, .aload_n 0, 1) (List.mem_of_getElem? (i := 38) rfl)) ?_
                        refine w_get (own := 16) rfl rfl (by decide) zc338 fL22 (tX11_minute_1_ok (183, .getfield 45, 3) (List.mem_of_getElem? (i := 39) rfl)) ?_
                        refine w_bipush (by decide) (tX11_minute_1_ok (186, .bipush 6, 2) (List.mem_of_getElem? (i := 40) rfl)) (fun zv341 ze342 => ?_)
                        refine w_iload_n (List.Mem.tail _ (List.Mem.tail _ (List.Mem.tail _ (List.Mem.tail _ (List.Mem.tail _ (List.Mem.head _)))))) (tX11_minute_1_ok (188, .iload_n 3, 1) (List.mem_of_getElem? (i := 41) rfl)) ?_
                        refine w_iadd (by omega) (by omega) (tX11_minute_1_ok (189, .iadd, 1) (List.mem_of_getElem? (i := 42) rfl)) (fun zv343 ze344 => ?_)
                        refine tt_dup2 rfl rfl (tX11_minute_1_ok (190, .dup2, 1) (List.mem_of_getElem? (i := 43) rfl)) ?_
                        show ww l D tys A X fr lo mX11_minute Q 191 [(8, .int zv320), (7, .int zv314), (6, .int zv296), (5, .int zv294), (4, .int zv290), (3, .int p), (2, .int sp), (0, .ref m), (1, .int sl)] [.int zv343, .ref to, .int zv343, .ref to] zh335
                        refine w_iald hT zc336 (by omega) (by omega) (tX11_minute_1_ok (191, .iaload, 1) (List.mem_of_getElem? (i := 44) rfl)) (fun zv345 ze346 => ?_)
                        refine w_iconst (by decide) (tX11_minute_1_ok (192, .iconst 1, 1) (List.mem_of_getElem? (i := 45) rfl)) (fun zv347 ze348 => ?_)
                        refine w_iaddA (tX11_minute_1_ok (193, .iadd, 1) (List.mem_of_getElem? (i := 46) rfl)) (fun zv349 => ?_)
                        refine w_iast hT zc336 (by omega) (by omega) (tX11_minute_1_ok (194, .iastore, 1) (List.mem_of_getElem? (i := 47) rfl)) (fun zh350 zc351 zo352 => ?_)
                        have zc353 := (zo352 m n_m_to).trans zc338
                        have zc354 := (zo352 ro n_ro_to).trans zc339
                        have zc355 := (zo352 we n_we_to).trans zc340
                        refine w_iinc (fun zv356 => [(2, .int zv356), (8, .int zv320), (7, .int zv314), (6, .int zv296), (5, .int zv294), (4, .int zv290), (3, .int p), (0, .ref m), (1, .int sl)]) (fun _ => rfl) (List.Mem.tail _ (List.Mem.tail _ (List.Mem.tail _ (List.Mem.tail _ (List.Mem.tail _ (List.Mem.tail _ (List.Mem.head _))))))) (Nat.le_of_ble_eq_true rfl) (by decide) (by omega) (by omega) (tX11_minute_1_ok (195, .iinc 2 1, 3) (List.mem_of_getElem? (i := 48) rfl)) (fun zv356 ze357 => ?_)
                        refine w_iinc (fun zv358 => [(3, .int zv358), (2, .int zv356), (8, .int zv320), (7, .int zv314), (6, .int zv296), (5, .int zv294), (4, .int zv290), (0, .ref m), (1, .int sl)]) (fun _ => rfl) (List.Mem.tail _ (List.Mem.tail _ (List.Mem.tail _ (List.Mem.tail _ (List.Mem.tail _ (List.Mem.tail _ (List.Mem.head _))))))) (Nat.le_of_ble_eq_true rfl) (by decide) (by omega) (by omega) (tX11_minute_1_ok (198, .iinc 3 1, 3) (List.mem_of_getElem? (i := 49) rfl)) (fun zv358 ze359 => ?_)
                        refine w_goto (tgt := 4) (tX11_minute_1_ok (201, .goto (-197), 3) (List.mem_of_getElem? (i := 50) rfl)) rfl ?_
                        have z8 : zv358.toInt.toNat = p.toInt.toNat + 1 := by omega
                        have e1 : p.toInt.toNat = p.toInt.toNat := by omega
                        have e2 : zv343.toInt.toNat = 6 + p.toInt.toNat := by omega
                        have c9 := zc351
                        rw [e1, e2] at c9
                        have k9 : (∀ q, ¬ q = p.toInt.toNat → ¬ q = 6 + p.toInt.toNat → upd (upd T p.toInt.toNat zv320) (6 + p.toInt.toNat) zv349 q = T q) := fun q q1 q2 => by rw [upd_n _ _ q2, upd_n _ _ q1]
                        have d9 := ph_up (R := R) (b := b) (p := p.toInt.toNat) (x := (T p.toInt.toNat).toInt) (y := zv320.toInt) mb.1 (by rw [← plq]; omega) (by omega)
                        have d8 : ph_s R (upd (upd T p.toInt.toNat zv320) (6 + p.toInt.toNat) zv349) b p.toInt.toNat = ph_s R T b p.toInt.toNat := ph_s_ext _ (fun q hq => k9 q (by omega) (by omega))
                        have d7 : (upd (upd T p.toInt.toNat zv320) (6 + p.toInt.toNat) zv349) p.toInt.toNat = zv320 := by rw [upd_n _ _ (by omega), upd_s]
                        refine w_lv [(3, .int zv358), (2, .int zv356), (0, .ref m), (1, .int sl)] (by intro q hq; simp only [List.mem_cons, List.not_mem_nil, or_false] at hq ⊢; rcases hq with e | e | e | e <;> subst e <;> simp) ?_
                        refine ih (j - 1) (by omega) _ _ _ _ (by omega) (by omega) (by omega) ⟨zc353, fL19, fL20, fL22, fL28, fL33, zc354, c9, zc355, pe0, rp0, hbo.upd (by omega)⟩ (hmi.upd (by omega) (by omega)) (fun q q1 q2 => (k9 q (by omega) (by omega)).trans (hT0 q q1 q2)) (fun q q1 q2 => (k9 q (by omega) (by omega)).trans (hge q (by omega) q2)) ?_ (fun h1 T1 v1 q1 q2 q3 q4 q5 q6 => hq h1 T1 v1 q1 q2 q3 q4 q5 (fun q hq => (q6 q hq).trans ((zo352 q hq).trans (zo337 q hq))))
                        rw [z8, ph_s, ph_s, d8, d7, ← hge p.toInt.toNat (by omega) (by omega)]
                        omega
                      · refine w_goto (tgt := 198) (tX11_minute_1_ok (171, .goto 27, 3) (List.mem_of_getElem? (i := 32) rfl)) rfl ?_
                        refine w_iinc (fun zv360 => [(3, .int zv360), (8, .int zv320), (7, .int zv314), (6, .int zv296), (5, .int zv294), (4, .int zv290), (2, .int sp), (0, .ref m), (1, .int sl)]) (fun _ => rfl) (List.Mem.tail _ (List.Mem.tail _ (List.Mem.tail _ (List.Mem.tail _ (List.Mem.tail _ (List.Mem.head _)))))) (Nat.le_of_ble_eq_true rfl) (by decide) (by omega) (by omega) (tX11_minute_1_ok (198, .iinc 3 1, 3) (List.mem_of_getElem? (i := 49) rfl)) (fun zv360 ze361 => ?_)
                        refine w_goto (tgt := 4) (tX11_minute_1_ok (201, .goto (-197), 3) (List.mem_of_getElem? (i := 50) rfl)) rfl ?_
                        have z8 : zv360.toInt.toNat = p.toInt.toNat + 1 := by omega
                        refine w_lv [(3, .int zv360), (2, .int sp), (0, .ref m), (1, .int sl)] (by intro q hq; simp only [List.mem_cons, List.not_mem_nil, or_false] at hq ⊢; rcases hq with e | e | e | e <;> subst e <;> simp) ?_
                        exact ih (j - 1) (by omega) _ _ _ _ (by omega) (by omega) (by omega) H9 hmi hT0 (fun q hq1 hq2 => hge q (by omega) hq2) (by rw [z8, ph_s, ph_s, hge p.toInt.toNat (by omega) (by omega)]; omega) hq
                  · refine w_aload_n (List.Mem.tail _ (List.Mem.tail _ (List.Mem.tail _ (List.Mem.tail _ (List.Mem.tail _ (List.Mem.tail _ (List.Mem.head _))))))) (tX11_minute_1_ok (128, .aload_n 0, 1) (List.mem_of_getElem? (i := 8) rfl)) ?_
                    refine w_get (own := 16) rfl rfl (by decide) c_m fL22 (tX11_minute_1_ok (129, .getfield 45, 3) (List.mem_of_getElem? (i := 9) rfl)) ?_
                    refine w_iload_n (List.Mem.tail _ (List.Mem.tail _ (List.Mem.tail _ (List.Mem.tail _ (List.Mem.head _))))) (tX11_minute_1_ok (132, .iload_n 3, 1) (List.mem_of_getElem? (i := 10) rfl)) ?_
                    refine w_iald hT c_to (by omega) (by omega) (tX11_minute_1_ok (133, .iaload, 1) (List.mem_of_getElem? (i := 11) rfl)) (fun zv362 ze363 => ?_)
                    have zi364 : p.toInt.toNat = p.toInt.toNat := by omega
                    rw [zi364] at ze363
                    refine w_iload (List.Mem.head _) (tX11_minute_1_ok (134, .iload 7, 2) (List.mem_of_getElem? (i := 12) rfl)) ?_
                    refine w_isub (by omega) (by omega) (tX11_minute_1_ok (136, .isub, 1) (List.mem_of_getElem? (i := 13) rfl)) (fun zv365 ze366 => ?_)
                    refine w_goto (tgt := 149) (tX11_minute_1_ok (137, .goto 12, 3) (List.mem_of_getElem? (i := 14) rfl)) rfl ?_
                    refine w_istore [(8, .int zv365), (7, .int zv314), (6, .int zv296), (5, .int zv294), (4, .int zv290), (3, .int p), (2, .int sp), (0, .ref m), (1, .int sl)] rfl (Nat.le_of_ble_eq_true rfl) (tX11_minute_1_ok (149, .istore 8, 2) (List.mem_of_getElem? (i := 21) rfl)) ?_
                    refine w_iload (List.Mem.head _) (tX11_minute_1_ok (151, .iload 8, 2) (List.mem_of_getElem? (i := 22) rfl)) ?_
                    refine w_iconst (by decide) (tX11_minute_1_ok (153, .iconst 0, 1) (List.mem_of_getElem? (i := 23) rfl)) (fun zv367 ze368 => ?_)
                    refine w_aload_n (List.Mem.tail _ (List.Mem.tail _ (List.Mem.tail _ (List.Mem.tail _ (List.Mem.tail _ (List.Mem.tail _ (List.Mem.tail _ (List.Mem.head _)))))))) (tX11_minute_1_ok (154, .aload_n 0, 1) (List.mem_of_getElem? (i := 24) rfl)) ?_
                    refine w_iload_n (List.Mem.tail _ (List.Mem.tail _ (List.Mem.tail _ (List.Mem.tail _ (List.Mem.tail _ (List.Mem.head _)))))) (tX11_minute_1_ok (155, .iload_n 3, 1) (List.mem_of_getElem? (i := 25) rfl)) ?_
                    refine w_iconst (by decide) (tX11_minute_1_ok (156, .iconst 1, 1) (List.mem_of_getElem? (i := 26) rfl)) (fun zv369 ze370 => ?_)
                    refine w_callV (own := 16) (mi := 219) [.int p, .int zv369] [.int zv367, .int zv365] [(0, .ref m), (1, .int p), (2, .int zv369)] rfl (cllw_X11 (255, 0, 219) (List.mem_of_getElem? (i := 34) rfl)) rfl rfl c_m rfl (by omega) (w_lo (n := 22) rfl (by omega)) (Nat.le_of_ble_eq_true rfl) (Nat.le_of_ble_eq_true rfl) rfl (tX11_minute_1_ok (157, .invokevirtual 255, 3) (List.mem_of_getElem? (i := 27) rfl)) (h_of hT (by omega) (by omega) H9 (fun zv371 ze372 => ?_))
                    have zi373 : 9 * p.toInt.toNat + zv369.toInt.toNat = 9 * p.toInt.toNat + 1 := by omega
                    rw [zi373] at ze372
                    show ww l D tys A X fr lo mX11_minute Q 160 [(8, .int zv365), (7, .int zv314), (6, .int zv296), (5, .int zv294), (4, .int zv290), (3, .int p), (2, .int sp), (0, .ref m), (1, .int sl)] [.int zv371, .int zv367, .int zv365] h
                    refine w_callS (own := 16) (mi := 199) [.int zv365, .int zv367, .int zv371] [] [(0, .int zv365), (1, .int zv367), (2, .int zv371)] rfl (cllw_X11 (207, 1, 199) (List.mem_of_getElem? (i := 2) rfl)) rfl rfl (by omega) (w_lo (n := 22) rfl (by omega)) (Nat.le_of_ble_eq_true rfl) (Nat.le_of_ble_eq_true rfl) rfl (tX11_minute_1_ok (160, .invokestatic 207, 3) (List.mem_of_getElem? (i := 28) rfl)) (r_isIn (fun zv374 ze375 => ?_))
                    show ww l D tys A X fr lo mX11_minute Q 163 [(8, .int zv365), (7, .int zv314), (6, .int zv296), (5, .int zv294), (4, .int zv290), (3, .int p), (2, .int sp), (0, .ref m), (1, .int sl)] [.int zv374] h
                    refine w_if_eq (tgt := 198) (tX11_minute_1_ok (163, .ifCond .eq 35, 3) (List.mem_of_getElem? (i := 29) rfl)) rfl (fun zb376 => ?_) (fun zb376 => ?_)
                    · refine w_iinc (fun zv377 => [(3, .int zv377), (8, .int zv365), (7, .int zv314), (6, .int zv296), (5, .int zv294), (4, .int zv290), (2, .int sp), (0, .ref m), (1, .int sl)]) (fun _ => rfl) (List.Mem.tail _ (List.Mem.tail _ (List.Mem.tail _ (List.Mem.tail _ (List.Mem.tail _ (List.Mem.head _)))))) (Nat.le_of_ble_eq_true rfl) (by decide) (by omega) (by omega) (tX11_minute_1_ok (198, .iinc 3 1, 3) (List.mem_of_getElem? (i := 49) rfl)) (fun zv377 ze378 => ?_)
                      refine w_goto (tgt := 4) (tX11_minute_1_ok (201, .goto (-197), 3) (List.mem_of_getElem? (i := 50) rfl)) rfl ?_
                      have z8 : zv377.toInt.toNat = p.toInt.toNat + 1 := by omega
                      refine w_lv [(3, .int zv377), (2, .int sp), (0, .ref m), (1, .int sl)] (by intro q hq; simp only [List.mem_cons, List.not_mem_nil, or_false] at hq ⊢; rcases hq with e | e | e | e <;> subst e <;> simp) ?_
                      exact ih (j - 1) (by omega) _ _ _ _ (by omega) (by omega) (by omega) H9 hmi hT0 (fun q hq1 hq2 => hge q (by omega) hq2) (by rw [z8, ph_s, ph_s, hge p.toInt.toNat (by omega) (by omega)]; omega) hq
                    · refine w_iload (List.Mem.tail _ (List.Mem.tail _ (List.Mem.head _))) (tX11_minute_1_ok (166, .iload 6, 2) (List.mem_of_getElem? (i := 30) rfl)) ?_
                      refine w_if_ne (tgt := 174) (tX11_minute_1_ok (168, .ifCond .ne 6, 3) (List.mem_of_getElem? (i := 31) rfl)) rfl (fun zb379 => ?_) (fun zb379 => ?_)
                      · refine w_aload_n (List.Mem.tail _ (List.Mem.tail _ (List.Mem.tail _ (List.Mem.tail _ (List.Mem.tail _ (List.Mem.tail _ (List.Mem.tail _ (List.Mem.head _)))))))) (tX11_minute_1_ok (174, .aload_n 0, 1) (List.mem_of_getElem? (i := 33) rfl)) ?_
                        refine w_get (own := 16) rfl rfl (by decide) c_m fL22 (tX11_minute_1_ok (175, .getfield 45, 3) (List.mem_of_getElem? (i := 34) rfl)) ?_
                        refine w_iload_n (List.Mem.tail _ (List.Mem.tail _ (List.Mem.tail _ (List.Mem.tail _ (List.Mem.tail _ (List.Mem.head _)))))) (tX11_minute_1_ok (178, .iload_n 3, 1) (List.mem_of_getElem? (i := 35) rfl)) ?_
                        refine w_iload (List.Mem.head _) (tX11_minute_1_ok (179, .iload 8, 2) (List.mem_of_getElem? (i := 36) rfl)) ?_
                        refine w_iast hT c_to (by omega) (by omega) (tX11_minute_1_ok (181, .iastore, 1) (List.mem_of_getElem? (i := 37) rfl)) (fun zh380 zc381 zo382 => ?_)
                        have zc383 := (zo382 m n_m_to).trans c_m
                        have zc384 := (zo382 ro n_ro_to).trans c_ro
                        have zc385 := (zo382 we n_we_to).trans c_we
                        refine w_aload_n (List.Mem.tail _ (List.Mem.tail _ (List.Mem.tail _ (List.Mem.tail _ (List.Mem.tail _ (List.Mem.tail _ (List.Mem.tail _ (List.Mem.head _)))))))) (tX11_minute_1_ok (182, .aload_n 0, 1) (List.mem_of_getElem? (i := 38) rfl)) ?_
                        refine w_get (own := 16) rfl rfl (by decide) zc383 fL22 (tX11_minute_1_ok (183, .getfield 45, 3) (List.mem_of_getElem? (i := 39) rfl)) ?_
                        refine w_bipush (by decide) (tX11_minute_1_ok (186, .bipush 6, 2) (List.mem_of_getElem? (i := 40) rfl)) (fun zv386 ze387 => ?_)
                        refine w_iload_n (List.Mem.tail _ (List.Mem.tail _ (List.Mem.tail _ (List.Mem.tail _ (List.Mem.tail _ (List.Mem.head _)))))) (tX11_minute_1_ok (188, .iload_n 3, 1) (List.mem_of_getElem? (i := 41) rfl)) ?_
                        refine w_iadd (by omega) (by omega) (tX11_minute_1_ok (189, .iadd, 1) (List.mem_of_getElem? (i := 42) rfl)) (fun zv388 ze389 => ?_)
                        refine tt_dup2 rfl rfl (tX11_minute_1_ok (190, .dup2, 1) (List.mem_of_getElem? (i := 43) rfl)) ?_
                        show ww l D tys A X fr lo mX11_minute Q 191 [(8, .int zv365), (7, .int zv314), (6, .int zv296), (5, .int zv294), (4, .int zv290), (3, .int p), (2, .int sp), (0, .ref m), (1, .int sl)] [.int zv388, .ref to, .int zv388, .ref to] zh380
                        refine w_iald hT zc381 (by omega) (by omega) (tX11_minute_1_ok (191, .iaload, 1) (List.mem_of_getElem? (i := 44) rfl)) (fun zv390 ze391 => ?_)
                        refine w_iconst (by decide) (tX11_minute_1_ok (192, .iconst 1, 1) (List.mem_of_getElem? (i := 45) rfl)) (fun zv392 ze393 => ?_)
                        refine w_iaddA (tX11_minute_1_ok (193, .iadd, 1) (List.mem_of_getElem? (i := 46) rfl)) (fun zv394 => ?_)
                        refine w_iast hT zc381 (by omega) (by omega) (tX11_minute_1_ok (194, .iastore, 1) (List.mem_of_getElem? (i := 47) rfl)) (fun zh395 zc396 zo397 => ?_)
                        have zc398 := (zo397 m n_m_to).trans zc383
                        have zc399 := (zo397 ro n_ro_to).trans zc384
                        have zc400 := (zo397 we n_we_to).trans zc385
                        refine w_iinc (fun zv401 => [(2, .int zv401), (8, .int zv365), (7, .int zv314), (6, .int zv296), (5, .int zv294), (4, .int zv290), (3, .int p), (0, .ref m), (1, .int sl)]) (fun _ => rfl) (List.Mem.tail _ (List.Mem.tail _ (List.Mem.tail _ (List.Mem.tail _ (List.Mem.tail _ (List.Mem.tail _ (List.Mem.head _))))))) (Nat.le_of_ble_eq_true rfl) (by decide) (by omega) (by omega) (tX11_minute_1_ok (195, .iinc 2 1, 3) (List.mem_of_getElem? (i := 48) rfl)) (fun zv401 ze402 => ?_)
                        refine w_iinc (fun zv403 => [(3, .int zv403), (2, .int zv401), (8, .int zv365), (7, .int zv314), (6, .int zv296), (5, .int zv294), (4, .int zv290), (0, .ref m), (1, .int sl)]) (fun _ => rfl) (List.Mem.tail _ (List.Mem.tail _ (List.Mem.tail _ (List.Mem.tail _ (List.Mem.tail _ (List.Mem.tail _ (List.Mem.head _))))))) (Nat.le_of_ble_eq_true rfl) (by decide) (by omega) (by omega) (tX11_minute_1_ok (198, .iinc 3 1, 3) (List.mem_of_getElem? (i := 49) rfl)) (fun zv403 ze404 => ?_)
                        refine w_goto (tgt := 4) (tX11_minute_1_ok (201, .goto (-197), 3) (List.mem_of_getElem? (i := 50) rfl)) rfl ?_
                        have z8 : zv403.toInt.toNat = p.toInt.toNat + 1 := by omega
                        have e1 : p.toInt.toNat = p.toInt.toNat := by omega
                        have e2 : zv388.toInt.toNat = 6 + p.toInt.toNat := by omega
                        have c9 := zc396
                        rw [e1, e2] at c9
                        have k9 : (∀ q, ¬ q = p.toInt.toNat → ¬ q = 6 + p.toInt.toNat → upd (upd T p.toInt.toNat zv365) (6 + p.toInt.toNat) zv394 q = T q) := fun q q1 q2 => by rw [upd_n _ _ q2, upd_n _ _ q1]
                        have d9 := ph_dn (R := R) (b := b) (p := p.toInt.toNat) (x := (T p.toInt.toNat).toInt) (y := zv365.toInt) mb.1 (by rw [← plq]; omega) (by omega)
                        have d8 : ph_s R (upd (upd T p.toInt.toNat zv365) (6 + p.toInt.toNat) zv394) b p.toInt.toNat = ph_s R T b p.toInt.toNat := ph_s_ext _ (fun q hq => k9 q (by omega) (by omega))
                        have d7 : (upd (upd T p.toInt.toNat zv365) (6 + p.toInt.toNat) zv394) p.toInt.toNat = zv365 := by rw [upd_n _ _ (by omega), upd_s]
                        refine w_lv [(3, .int zv403), (2, .int zv401), (0, .ref m), (1, .int sl)] (by intro q hq; simp only [List.mem_cons, List.not_mem_nil, or_false] at hq ⊢; rcases hq with e | e | e | e <;> subst e <;> simp) ?_
                        refine ih (j - 1) (by omega) _ _ _ _ (by omega) (by omega) (by omega) ⟨zc398, fL19, fL20, fL22, fL28, fL33, zc399, c9, zc400, pe0, rp0, hbo.upd (by omega)⟩ (hmi.upd (by omega) (by omega)) (fun q q1 q2 => (k9 q (by omega) (by omega)).trans (hT0 q q1 q2)) (fun q q1 q2 => (k9 q (by omega) (by omega)).trans (hge q (by omega) q2)) ?_ (fun h1 T1 v1 q1 q2 q3 q4 q5 q6 => hq h1 T1 v1 q1 q2 q3 q4 q5 (fun q hq => (q6 q hq).trans ((zo397 q hq).trans (zo382 q hq))))
                        rw [z8, ph_s, ph_s, d8, d7, ← hge p.toInt.toNat (by omega) (by omega)]
                        omega
                      · refine w_goto (tgt := 198) (tX11_minute_1_ok (171, .goto 27, 3) (List.mem_of_getElem? (i := 32) rfl)) rfl ?_
                        refine w_iinc (fun zv405 => [(3, .int zv405), (8, .int zv365), (7, .int zv314), (6, .int zv296), (5, .int zv294), (4, .int zv290), (2, .int sp), (0, .ref m), (1, .int sl)]) (fun _ => rfl) (List.Mem.tail _ (List.Mem.tail _ (List.Mem.tail _ (List.Mem.tail _ (List.Mem.tail _ (List.Mem.head _)))))) (Nat.le_of_ble_eq_true rfl) (by decide) (by omega) (by omega) (tX11_minute_1_ok (198, .iinc 3 1, 3) (List.mem_of_getElem? (i := 49) rfl)) (fun zv405 ze406 => ?_)
                        refine w_goto (tgt := 4) (tX11_minute_1_ok (201, .goto (-197), 3) (List.mem_of_getElem? (i := 50) rfl)) rfl ?_
                        have z8 : zv405.toInt.toNat = p.toInt.toNat + 1 := by omega
                        refine w_lv [(3, .int zv405), (2, .int sp), (0, .ref m), (1, .int sl)] (by intro q hq; simp only [List.mem_cons, List.not_mem_nil, or_false] at hq ⊢; rcases hq with e | e | e | e <;> subst e <;> simp) ?_
                        exact ih (j - 1) (by omega) _ _ _ _ (by omega) (by omega) (by omega) H9 hmi hT0 (fun q hq1 hq2 => hge q (by omega) hq2) (by rw [z8, ph_s, ph_s, hge p.toInt.toNat (by omega) (by omega)]; omega) hq
                · refine w_iconst (by decide) (tX11_minute_1_ok (116, .iconst 2, 1) (List.mem_of_getElem? (i := 2) rfl)) (fun zv407 ze408 => ?_)
                  refine w_goto (tgt := 121) (tX11_minute_1_ok (117, .goto 4, 3) (List.mem_of_getElem? (i := 3) rfl)) rfl ?_
                  refine w_istore [(7, .int zv407), (6, .int zv296), (5, .int zv294), (4, .int zv290), (3, .int p), (2, .int sp), (0, .ref m), (1, .int sl)] rfl (Nat.le_of_ble_eq_true rfl) (tX11_minute_1_ok (121, .istore 7, 2) (List.mem_of_getElem? (i := 5) rfl)) ?_
                  refine w_iload (List.Mem.tail _ (List.Mem.head _)) (tX11_minute_1_ok (123, .iload 6, 2) (List.mem_of_getElem? (i := 6) rfl)) ?_
                  refine w_if_le (tgt := 140) (tX11_minute_1_ok (125, .ifCond .le 15, 3) (List.mem_of_getElem? (i := 7) rfl)) rfl (fun zb409 => ?_) (fun zb409 => ?_)
                  · refine w_aload_n (List.Mem.tail _ (List.Mem.tail _ (List.Mem.tail _ (List.Mem.tail _ (List.Mem.tail _ (List.Mem.tail _ (List.Mem.head _))))))) (tX11_minute_1_ok (140, .aload_n 0, 1) (List.mem_of_getElem? (i := 15) rfl)) ?_
                    refine w_get (own := 16) rfl rfl (by decide) c_m fL22 (tX11_minute_1_ok (141, .getfield 45, 3) (List.mem_of_getElem? (i := 16) rfl)) ?_
                    refine w_iload_n (List.Mem.tail _ (List.Mem.tail _ (List.Mem.tail _ (List.Mem.tail _ (List.Mem.head _))))) (tX11_minute_1_ok (144, .iload_n 3, 1) (List.mem_of_getElem? (i := 17) rfl)) ?_
                    refine w_iald hT c_to (by omega) (by omega) (tX11_minute_1_ok (145, .iaload, 1) (List.mem_of_getElem? (i := 18) rfl)) (fun zv410 ze411 => ?_)
                    have zi412 : p.toInt.toNat = p.toInt.toNat := by omega
                    rw [zi412] at ze411
                    refine w_iload (List.Mem.head _) (tX11_minute_1_ok (146, .iload 7, 2) (List.mem_of_getElem? (i := 19) rfl)) ?_
                    refine w_iadd (by omega) (by omega) (tX11_minute_1_ok (148, .iadd, 1) (List.mem_of_getElem? (i := 20) rfl)) (fun zv413 ze414 => ?_)
                    refine w_istore [(8, .int zv413), (7, .int zv407), (6, .int zv296), (5, .int zv294), (4, .int zv290), (3, .int p), (2, .int sp), (0, .ref m), (1, .int sl)] rfl (Nat.le_of_ble_eq_true rfl) (tX11_minute_1_ok (149, .istore 8, 2) (List.mem_of_getElem? (i := 21) rfl)) ?_
                    refine w_iload (List.Mem.head _) (tX11_minute_1_ok (151, .iload 8, 2) (List.mem_of_getElem? (i := 22) rfl)) ?_
                    refine w_iconst (by decide) (tX11_minute_1_ok (153, .iconst 0, 1) (List.mem_of_getElem? (i := 23) rfl)) (fun zv415 ze416 => ?_)
                    refine w_aload_n (List.Mem.tail _ (List.Mem.tail _ (List.Mem.tail _ (List.Mem.tail _ (List.Mem.tail _ (List.Mem.tail _ (List.Mem.tail _ (List.Mem.head _)))))))) (tX11_minute_1_ok (154, .aload_n 0, 1) (List.mem_of_getElem? (i := 24) rfl)) ?_
                    refine w_iload_n (List.Mem.tail _ (List.Mem.tail _ (List.Mem.tail _ (List.Mem.tail _ (List.Mem.tail _ (List.Mem.head _)))))) (tX11_minute_1_ok (155, .iload_n 3, 1) (List.mem_of_getElem? (i := 25) rfl)) ?_
                    refine w_iconst (by decide) (tX11_minute_1_ok (156, .iconst 1, 1) (List.mem_of_getElem? (i := 26) rfl)) (fun zv417 ze418 => ?_)
                    refine w_callV (own := 16) (mi := 219) [.int p, .int zv417] [.int zv415, .int zv413] [(0, .ref m), (1, .int p), (2, .int zv417)] rfl (cllw_X11 (255, 0, 219) (List.mem_of_getElem? (i := 34) rfl)) rfl rfl c_m rfl (by omega) (w_lo (n := 22) rfl (by omega)) (Nat.le_of_ble_eq_true rfl) (Nat.le_of_ble_eq_true rfl) rfl (tX11_minute_1_ok (157, .invokevirtual 255, 3) (List.mem_of_getElem? (i := 27) rfl)) (h_of hT (by omega) (by omega) H9 (fun zv419 ze420 => ?_))
                    have zi421 : 9 * p.toInt.toNat + zv417.toInt.toNat = 9 * p.toInt.toNat + 1 := by omega
                    rw [zi421] at ze420
                    show ww l D tys A X fr lo mX11_minute Q 160 [(8, .int zv413), (7, .int zv407), (6, .int zv296), (5, .int zv294), (4, .int zv290), (3, .int p), (2, .int sp), (0, .ref m), (1, .int sl)] [.int zv419, .int zv415, .int zv413] h
                    refine w_callS (own := 16) (mi := 199) [.int zv413, .int zv415, .int zv419] [] [(0, .int zv413), (1, .int zv415), (2, .int zv419)] rfl (cllw_X11 (207, 1, 199) (List.mem_of_getElem? (i := 2) rfl)) rfl rfl (by omega) (w_lo (n := 22) rfl (by omega)) (Nat.le_of_ble_eq_true rfl) (Nat.le_of_ble_eq_true rfl) rfl (tX11_minute_1_ok (160, .invokestatic 207, 3) (List.mem_of_getElem? (i := 28) rfl)) (r_isIn (fun zv422 ze423 => ?_))
                    show ww l D tys A X fr lo mX11_minute Q 163 [(8, .int zv413), (7, .int zv407), (6, .int zv296), (5, .int zv294), (4, .int zv290), (3, .int p), (2, .int sp), (0, .ref m), (1, .int sl)] [.int zv422] h
                    refine w_if_eq (tgt := 198) (tX11_minute_1_ok (163, .ifCond .eq 35, 3) (List.mem_of_getElem? (i := 29) rfl)) rfl (fun zb424 => ?_) (fun zb424 => ?_)
                    · refine w_iinc (fun zv425 => [(3, .int zv425), (8, .int zv413), (7, .int zv407), (6, .int zv296), (5, .int zv294), (4, .int zv290), (2, .int sp), (0, .ref m), (1, .int sl)]) (fun _ => rfl) (List.Mem.tail _ (List.Mem.tail _ (List.Mem.tail _ (List.Mem.tail _ (List.Mem.tail _ (List.Mem.head _)))))) (Nat.le_of_ble_eq_true rfl) (by decide) (by omega) (by omega) (tX11_minute_1_ok (198, .iinc 3 1, 3) (List.mem_of_getElem? (i := 49) rfl)) (fun zv425 ze426 => ?_)
                      refine w_goto (tgt := 4) (tX11_minute_1_ok (201, .goto (-197), 3) (List.mem_of_getElem? (i := 50) rfl)) rfl ?_
                      have z8 : zv425.toInt.toNat = p.toInt.toNat + 1 := by omega
                      refine w_lv [(3, .int zv425), (2, .int sp), (0, .ref m), (1, .int sl)] (by intro q hq; simp only [List.mem_cons, List.not_mem_nil, or_false] at hq ⊢; rcases hq with e | e | e | e <;> subst e <;> simp) ?_
                      exact ih (j - 1) (by omega) _ _ _ _ (by omega) (by omega) (by omega) H9 hmi hT0 (fun q hq1 hq2 => hge q (by omega) hq2) (by rw [z8, ph_s, ph_s, hge p.toInt.toNat (by omega) (by omega)]; omega) hq
                    · refine w_iload (List.Mem.tail _ (List.Mem.tail _ (List.Mem.head _))) (tX11_minute_1_ok (166, .iload 6, 2) (List.mem_of_getElem? (i := 30) rfl)) ?_
                      refine w_if_ne (tgt := 174) (tX11_minute_1_ok (168, .ifCond .ne 6, 3) (List.mem_of_getElem? (i := 31) rfl)) rfl (fun zb427 => ?_) (fun zb427 => ?_)
                      · refine w_aload_n (List.Mem.tail _ (List.Mem.tail _ (List.Mem.tail _ (List.Mem.tail _ (List.Mem.tail _ (List.Mem.tail _ (List.Mem.tail _ (List.Mem.head _)))))))) (tX11_minute_1_ok (174, .aload_n 0, 1) (List.mem_of_getElem? (i := 33) rfl)) ?_
                        refine w_get (own := 16) rfl rfl (by decide) c_m fL22 (tX11_minute_1_ok (175, .getfield 45, 3) (List.mem_of_getElem? (i := 34) rfl)) ?_
                        refine w_iload_n (List.Mem.tail _ (List.Mem.tail _ (List.Mem.tail _ (List.Mem.tail _ (List.Mem.tail _ (List.Mem.head _)))))) (tX11_minute_1_ok (178, .iload_n 3, 1) (List.mem_of_getElem? (i := 35) rfl)) ?_
                        refine w_iload (List.Mem.head _) (tX11_minute_1_ok (179, .iload 8, 2) (List.mem_of_getElem? (i := 36) rfl)) ?_
                        refine w_iast hT c_to (by omega) (by omega) (tX11_minute_1_ok (181, .iastore, 1) (List.mem_of_getElem? (i := 37) rfl)) (fun zh428 zc429 zo430 => ?_)
                        have zc431 := (zo430 m n_m_to).trans c_m
                        have zc432 := (zo430 ro n_ro_to).trans c_ro
                        have zc433 := (zo430 we n_we_to).trans c_we
                        refine w_aload_n (List.Mem.tail _ (List.Mem.tail _ (List.Mem.tail _ (List.Mem.tail _ (List.Mem.tail _ (List.Mem.tail _ (List.Mem.tail _ (List.Mem.head _)))))))) (tX11_minute_1_ok (182, .aload_n 0, 1) (List.mem_of_getElem? (i := 38) rfl)) ?_
                        refine w_get (own := 16) rfl rfl (by decide) zc431 fL22 (tX11_minute_1_ok (183, .getfield 45, 3) (List.mem_of_getElem? (i := 39) rfl)) ?_
                        refine w_bipush (by decide) (tX11_minute_1_ok (186, .bipush 6, 2) (List.mem_of_getElem? (i := 40) rfl)) (fun zv434 ze435 => ?_)
                        refine w_iload_n (List.Mem.tail _ (List.Mem.tail _ (List.Mem.tail _ (List.Mem.tail _ (List.Mem.tail _ (List.Mem.head _)))))) (tX11_minute_1_ok (188, .iload_n 3, 1) (List.mem_of_getElem? (i := 41) rfl)) ?_
                        refine w_iadd (by omega) (by omega) (tX11_minute_1_ok (189, .iadd, 1) (List.mem_of_getElem? (i := 42) rfl)) (fun zv436 ze437 => ?_)
                        refine tt_dup2 rfl rfl (tX11_minute_1_ok (190, .dup2, 1) (List.mem_of_getElem? (i := 43) rfl)) ?_
                        show ww l D tys A X fr lo mX11_minute Q 191 [(8, .int zv413), (7, .int zv407), (6, .int zv296), (5, .int zv294), (4, .int zv290), (3, .int p), (2, .int sp), (0, .ref m), (1, .int sl)] [.int zv436, .ref to, .int zv436, .ref to] zh428
                        refine w_iald hT zc429 (by omega) (by omega) (tX11_minute_1_ok (191, .iaload, 1) (List.mem_of_getElem? (i := 44) rfl)) (fun zv438 ze439 => ?_)
                        refine w_iconst (by decide) (tX11_minute_1_ok (192, .iconst 1, 1) (List.mem_of_getElem? (i := 45) rfl)) (fun zv440 ze441 => ?_)
                        refine w_iaddA (tX11_minute_1_ok (193, .iadd, 1) (List.mem_of_getElem? (i := 46) rfl)) (fun zv442 => ?_)
                        refine w_iast hT zc429 (by omega) (by omega) (tX11_minute_1_ok (194, .iastore, 1) (List.mem_of_getElem? (i := 47) rfl)) (fun zh443 zc444 zo445 => ?_)
                        have zc446 := (zo445 m n_m_to).trans zc431
                        have zc447 := (zo445 ro n_ro_to).trans zc432
                        have zc448 := (zo445 we n_we_to).trans zc433
                        refine w_iinc (fun zv449 => [(2, .int zv449), (8, .int zv413), (7, .int zv407), (6, .int zv296), (5, .int zv294), (4, .int zv290), (3, .int p), (0, .ref m), (1, .int sl)]) (fun _ => rfl) (List.Mem.tail _ (List.Mem.tail _ (List.Mem.tail _ (List.Mem.tail _ (List.Mem.tail _ (List.Mem.tail _ (List.Mem.head _))))))) (Nat.le_of_ble_eq_true rfl) (by decide) (by omega) (by omega) (tX11_minute_1_ok (195, .iinc 2 1, 3) (List.mem_of_getElem? (i := 48) rfl)) (fun zv449 ze450 => ?_)
                        refine w_iinc (fun zv451 => [(3, .int zv451), (2, .int zv449), (8, .int zv413), (7, .int zv407), (6, .int zv296), (5, .int zv294), (4, .int zv290), (0, .ref m), (1, .int sl)]) (fun _ => rfl) (List.Mem.tail _ (List.Mem.tail _ (List.Mem.tail _ (List.Mem.tail _ (List.Mem.tail _ (List.Mem.tail _ (List.Mem.head _))))))) (Nat.le_of_ble_eq_true rfl) (by decide) (by omega) (by omega) (tX11_minute_1_ok (198, .iinc 3 1, 3) (List.mem_of_getElem? (i := 49) rfl)) (fun zv451 ze452 => ?_)
                        refine w_goto (tgt := 4) (tX11_minute_1_ok (201, .goto (-197), 3) (List.mem_of_getElem? (i := 50) rfl)) rfl ?_
                        have z8 : zv451.toInt.toNat = p.toInt.toNat + 1 := by omega
                        have e1 : p.toInt.toNat = p.toInt.toNat := by omega
                        have e2 : zv436.toInt.toNat = 6 + p.toInt.toNat := by omega
                        have c9 := zc444
                        rw [e1, e2] at c9
                        have k9 : (∀ q, ¬ q = p.toInt.toNat → ¬ q = 6 + p.toInt.toNat → upd (upd T p.toInt.toNat zv413) (6 + p.toInt.toNat) zv442 q = T q) := fun q q1 q2 => by rw [upd_n _ _ q2, upd_n _ _ q1]
                        have d9 := ph_up (R := R) (b := b) (p := p.toInt.toNat) (x := (T p.toInt.toNat).toInt) (y := zv413.toInt) mb.1 (by rw [← plq]; omega) (by omega)
                        have d8 : ph_s R (upd (upd T p.toInt.toNat zv413) (6 + p.toInt.toNat) zv442) b p.toInt.toNat = ph_s R T b p.toInt.toNat := ph_s_ext _ (fun q hq => k9 q (by omega) (by omega))
                        have d7 : (upd (upd T p.toInt.toNat zv413) (6 + p.toInt.toNat) zv442) p.toInt.toNat = zv413 := by rw [upd_n _ _ (by omega), upd_s]
                        refine w_lv [(3, .int zv451), (2, .int zv449), (0, .ref m), (1, .int sl)] (by intro q hq; simp only [List.mem_cons, List.not_mem_nil, or_false] at hq ⊢; rcases hq with e | e | e | e <;> subst e <;> simp) ?_
                        refine ih (j - 1) (by omega) _ _ _ _ (by omega) (by omega) (by omega) ⟨zc446, fL19, fL20, fL22, fL28, fL33, zc447, c9, zc448, pe0, rp0, hbo.upd (by omega)⟩ (hmi.upd (by omega) (by omega)) (fun q q1 q2 => (k9 q (by omega) (by omega)).trans (hT0 q q1 q2)) (fun q q1 q2 => (k9 q (by omega) (by omega)).trans (hge q (by omega) q2)) ?_ (fun h1 T1 v1 q1 q2 q3 q4 q5 q6 => hq h1 T1 v1 q1 q2 q3 q4 q5 (fun q hq => (q6 q hq).trans ((zo445 q hq).trans (zo430 q hq))))
                        rw [z8, ph_s, ph_s, d8, d7, ← hge p.toInt.toNat (by omega) (by omega)]
                        omega
                      · refine w_goto (tgt := 198) (tX11_minute_1_ok (171, .goto 27, 3) (List.mem_of_getElem? (i := 32) rfl)) rfl ?_
                        refine w_iinc (fun zv453 => [(3, .int zv453), (8, .int zv413), (7, .int zv407), (6, .int zv296), (5, .int zv294), (4, .int zv290), (2, .int sp), (0, .ref m), (1, .int sl)]) (fun _ => rfl) (List.Mem.tail _ (List.Mem.tail _ (List.Mem.tail _ (List.Mem.tail _ (List.Mem.tail _ (List.Mem.head _)))))) (Nat.le_of_ble_eq_true rfl) (by decide) (by omega) (by omega) (tX11_minute_1_ok (198, .iinc 3 1, 3) (List.mem_of_getElem? (i := 49) rfl)) (fun zv453 ze454 => ?_)
                        refine w_goto (tgt := 4) (tX11_minute_1_ok (201, .goto (-197), 3) (List.mem_of_getElem? (i := 50) rfl)) rfl ?_
                        have z8 : zv453.toInt.toNat = p.toInt.toNat + 1 := by omega
                        refine w_lv [(3, .int zv453), (2, .int sp), (0, .ref m), (1, .int sl)] (by intro q hq; simp only [List.mem_cons, List.not_mem_nil, or_false] at hq ⊢; rcases hq with e | e | e | e <;> subst e <;> simp) ?_
                        exact ih (j - 1) (by omega) _ _ _ _ (by omega) (by omega) (by omega) H9 hmi hT0 (fun q hq1 hq2 => hge q (by omega) hq2) (by rw [z8, ph_s, ph_s, hge p.toInt.toNat (by omega) (by omega)]; omega) hq
                  · refine w_aload_n (List.Mem.tail _ (List.Mem.tail _ (List.Mem.tail _ (List.Mem.tail _ (List.Mem.tail _ (List.Mem.tail _ (List.Mem.head _))))))) (tX11_minute_1_ok (128, .aload_n 0, 1) (List.mem_of_getElem? (i := 8) rfl)) ?_
                    refine w_get (own := 16) rfl rfl (by decide) c_m fL22 (tX11_minute_1_ok (129, .getfield 45, 3) (List.mem_of_getElem? (i := 9) rfl)) ?_
                    refine w_iload_n (List.Mem.tail _ (List.Mem.tail _ (List.Mem.tail _ (List.Mem.tail _ (List.Mem.head _))))) (tX11_minute_1_ok (132, .iload_n 3, 1) (List.mem_of_getElem? (i := 10) rfl)) ?_
                    refine w_iald hT c_to (by omega) (by omega) (tX11_minute_1_ok (133, .iaload, 1) (List.mem_of_getElem? (i := 11) rfl)) (fun zv455 ze456 => ?_)
                    have zi457 : p.toInt.toNat = p.toInt.toNat := by omega
                    rw [zi457] at ze456
                    refine w_iload (List.Mem.head _) (tX11_minute_1_ok (134, .iload 7, 2) (List.mem_of_getElem? (i := 12) rfl)) ?_
                    refine w_isub (by omega) (by omega) (tX11_minute_1_ok (136, .isub, 1) (List.mem_of_getElem? (i := 13) rfl)) (fun zv458 ze459 => ?_)
                    refine w_goto (tgt := 149) (tX11_minute_1_ok (137, .goto 12, 3) (List.mem_of_getElem? (i := 14) rfl)) rfl ?_
                    refine w_istore [(8, .int zv458), (7, .int zv407), (6, .int zv296), (5, .int zv294), (4, .int zv290), (3, .int p), (2, .int sp), (0, .ref m), (1, .int sl)] rfl (Nat.le_of_ble_eq_true rfl) (tX11_minute_1_ok (149, .istore 8, 2) (List.mem_of_getElem? (i := 21) rfl)) ?_
                    refine w_iload (List.Mem.head _) (tX11_minute_1_ok (151, .iload 8, 2) (List.mem_of_getElem? (i := 22) rfl)) ?_
                    refine w_iconst (by decide) (tX11_minute_1_ok (153, .iconst 0, 1) (List.mem_of_getElem? (i := 23) rfl)) (fun zv460 ze461 => ?_)
                    refine w_aload_n (List.Mem.tail _ (List.Mem.tail _ (List.Mem.tail _ (List.Mem.tail _ (List.Mem.tail _ (List.Mem.tail _ (List.Mem.tail _ (List.Mem.head _)))))))) (tX11_minute_1_ok (154, .aload_n 0, 1) (List.mem_of_getElem? (i := 24) rfl)) ?_
                    refine w_iload_n (List.Mem.tail _ (List.Mem.tail _ (List.Mem.tail _ (List.Mem.tail _ (List.Mem.tail _ (List.Mem.head _)))))) (tX11_minute_1_ok (155, .iload_n 3, 1) (List.mem_of_getElem? (i := 25) rfl)) ?_
                    refine w_iconst (by decide) (tX11_minute_1_ok (156, .iconst 1, 1) (List.mem_of_getElem? (i := 26) rfl)) (fun zv462 ze463 => ?_)
                    refine w_callV (own := 16) (mi := 219) [.int p, .int zv462] [.int zv460, .int zv458] [(0, .ref m), (1, .int p), (2, .int zv462)] rfl (cllw_X11 (255, 0, 219) (List.mem_of_getElem? (i := 34) rfl)) rfl rfl c_m rfl (by omega) (w_lo (n := 22) rfl (by omega)) (Nat.le_of_ble_eq_true rfl) (Nat.le_of_ble_eq_true rfl) rfl (tX11_minute_1_ok (157, .invokevirtual 255, 3) (List.mem_of_getElem? (i := 27) rfl)) (h_of hT (by omega) (by omega) H9 (fun zv464 ze465 => ?_))
                    have zi466 : 9 * p.toInt.toNat + zv462.toInt.toNat = 9 * p.toInt.toNat + 1 := by omega
                    rw [zi466] at ze465
                    show ww l D tys A X fr lo mX11_minute Q 160 [(8, .int zv458), (7, .int zv407), (6, .int zv296), (5, .int zv294), (4, .int zv290), (3, .int p), (2, .int sp), (0, .ref m), (1, .int sl)] [.int zv464, .int zv460, .int zv458] h
                    refine w_callS (own := 16) (mi := 199) [.int zv458, .int zv460, .int zv464] [] [(0, .int zv458), (1, .int zv460), (2, .int zv464)] rfl (cllw_X11 (207, 1, 199) (List.mem_of_getElem? (i := 2) rfl)) rfl rfl (by omega) (w_lo (n := 22) rfl (by omega)) (Nat.le_of_ble_eq_true rfl) (Nat.le_of_ble_eq_true rfl) rfl (tX11_minute_1_ok (160, .invokestatic 207, 3) (List.mem_of_getElem? (i := 28) rfl)) (r_isIn (fun zv467 ze468 => ?_))
                    show ww l D tys A X fr lo mX11_minute Q 163 [(8, .int zv458), (7, .int zv407), (6, .int zv296), (5, .int zv294), (4, .int zv290), (3, .int p), (2, .int sp), (0, .ref m), (1, .int sl)] [.int zv467] h
                    refine w_if_eq (tgt := 198) (tX11_minute_1_ok (163, .ifCond .eq 35, 3) (List.mem_of_getElem? (i := 29) rfl)) rfl (fun zb469 => ?_) (fun zb469 => ?_)
                    · refine w_iinc (fun zv470 => [(3, .int zv470), (8, .int zv458), (7, .int zv407), (6, .int zv296), (5, .int zv294), (4, .int zv290), (2, .int sp), (0, .ref m), (1, .int sl)]) (fun _ => rfl) (List.Mem.tail _ (List.Mem.tail _ (List.Mem.tail _ (List.Mem.tail _ (List.Mem.tail _ (List.Mem.head _)))))) (Nat.le_of_ble_eq_true rfl) (by decide) (by omega) (by omega) (tX11_minute_1_ok (198, .iinc 3 1, 3) (List.mem_of_getElem? (i := 49) rfl)) (fun zv470 ze471 => ?_)
                      refine w_goto (tgt := 4) (tX11_minute_1_ok (201, .goto (-197), 3) (List.mem_of_getElem? (i := 50) rfl)) rfl ?_
                      have z8 : zv470.toInt.toNat = p.toInt.toNat + 1 := by omega
                      refine w_lv [(3, .int zv470), (2, .int sp), (0, .ref m), (1, .int sl)] (by intro q hq; simp only [List.mem_cons, List.not_mem_nil, or_false] at hq ⊢; rcases hq with e | e | e | e <;> subst e <;> simp) ?_
                      exact ih (j - 1) (by omega) _ _ _ _ (by omega) (by omega) (by omega) H9 hmi hT0 (fun q hq1 hq2 => hge q (by omega) hq2) (by rw [z8, ph_s, ph_s, hge p.toInt.toNat (by omega) (by omega)]; omega) hq
                    · refine w_iload (List.Mem.tail _ (List.Mem.tail _ (List.Mem.head _))) (tX11_minute_1_ok (166, .iload 6, 2) (List.mem_of_getElem? (i := 30) rfl)) ?_
                      refine w_if_ne (tgt := 174) (tX11_minute_1_ok (168, .ifCond .ne 6, 3) (List.mem_of_getElem? (i := 31) rfl)) rfl (fun zb472 => ?_) (fun zb472 => ?_)
                      · refine w_aload_n (List.Mem.tail _ (List.Mem.tail _ (List.Mem.tail _ (List.Mem.tail _ (List.Mem.tail _ (List.Mem.tail _ (List.Mem.tail _ (List.Mem.head _)))))))) (tX11_minute_1_ok (174, .aload_n 0, 1) (List.mem_of_getElem? (i := 33) rfl)) ?_
                        refine w_get (own := 16) rfl rfl (by decide) c_m fL22 (tX11_minute_1_ok (175, .getfield 45, 3) (List.mem_of_getElem? (i := 34) rfl)) ?_
                        refine w_iload_n (List.Mem.tail _ (List.Mem.tail _ (List.Mem.tail _ (List.Mem.tail _ (List.Mem.tail _ (List.Mem.head _)))))) (tX11_minute_1_ok (178, .iload_n 3, 1) (List.mem_of_getElem? (i := 35) rfl)) ?_
                        refine w_iload (List.Mem.head _) (tX11_minute_1_ok (179, .iload 8, 2) (List.mem_of_getElem? (i := 36) rfl)) ?_
                        refine w_iast hT c_to (by omega) (by omega) (tX11_minute_1_ok (181, .iastore, 1) (List.mem_of_getElem? (i := 37) rfl)) (fun zh473 zc474 zo475 => ?_)
                        have zc476 := (zo475 m n_m_to).trans c_m
                        have zc477 := (zo475 ro n_ro_to).trans c_ro
                        have zc478 := (zo475 we n_we_to).trans c_we
                        refine w_aload_n (List.Mem.tail _ (List.Mem.tail _ (List.Mem.tail _ (List.Mem.tail _ (List.Mem.tail _ (List.Mem.tail _ (List.Mem.tail _ (List.Mem.head _)))))))) (tX11_minute_1_ok (182, .aload_n 0, 1) (List.mem_of_getElem? (i := 38) rfl)) ?_
                        refine w_get (own := 16) rfl rfl (by decide) zc476 fL22 (tX11_minute_1_ok (183, .getfield 45, 3) (List.mem_of_getElem? (i := 39) rfl)) ?_
                        refine w_bipush (by decide) (tX11_minute_1_ok (186, .bipush 6, 2) (List.mem_of_getElem? (i := 40) rfl)) (fun zv479 ze480 => ?_)
                        refine w_iload_n (List.Mem.tail _ (List.Mem.tail _ (List.Mem.tail _ (List.Mem.tail _ (List.Mem.tail _ (List.Mem.head _)))))) (tX11_minute_1_ok (188, .iload_n 3, 1) (List.mem_of_getElem? (i := 41) rfl)) ?_
                        refine w_iadd (by omega) (by omega) (tX11_minute_1_ok (189, .iadd, 1) (List.mem_of_getElem? (i := 42) rfl)) (fun zv481 ze482 => ?_)
                        refine tt_dup2 rfl rfl (tX11_minute_1_ok (190, .dup2, 1) (List.mem_of_getElem? (i := 43) rfl)) ?_
                        show ww l D tys A X fr lo mX11_minute Q 191 [(8, .int zv458), (7, .int zv407), (6, .int zv296), (5, .int zv294), (4, .int zv290), (3, .int p), (2, .int sp), (0, .ref m), (1, .int sl)] [.int zv481, .ref to, .int zv481, .ref to] zh473
                        refine w_iald hT zc474 (by omega) (by omega) (tX11_minute_1_ok (191, .iaload, 1) (List.mem_of_getElem? (i := 44) rfl)) (fun zv483 ze484 => ?_)
                        refine w_iconst (by decide) (tX11_minute_1_ok (192, .iconst 1, 1) (List.mem_of_getElem? (i := 45) rfl)) (fun zv485 ze486 => ?_)
                        refine w_iaddA (tX11_minute_1_ok (193, .iadd, 1) (List.mem_of_getElem? (i := 46) rfl)) (fun zv487 => ?_)
                        refine w_iast hT zc474 (by omega) (by omega) (tX11_minute_1_ok (194, .iastore, 1) (List.mem_of_getElem? (i := 47) rfl)) (fun zh488 zc489 zo490 => ?_)
                        have zc491 := (zo490 m n_m_to).trans zc476
                        have zc492 := (zo490 ro n_ro_to).trans zc477
                        have zc493 := (zo490 we n_we_to).trans zc478
                        refine w_iinc (fun zv494 => [(2, .int zv494), (8, .int zv458), (7, .int zv407), (6, .int zv296), (5, .int zv294), (4, .int zv290), (3, .int p), (0, .ref m), (1, .int sl)]) (fun _ => rfl) (List.Mem.tail _ (List.Mem.tail _ (List.Mem.tail _ (List.Mem.tail _ (List.Mem.tail _ (List.Mem.tail _ (List.Mem.head _))))))) (Nat.le_of_ble_eq_true rfl) (by decide) (by omega) (by omega) (tX11_minute_1_ok (195, .iinc 2 1, 3) (List.mem_of_getElem? (i := 48) rfl)) (fun zv494 ze495 => ?_)
                        refine w_iinc (fun zv496 => [(3, .int zv496), (2, .int zv494), (8, .int zv458), (7, .int zv407), (6, .int zv296), (5, .int zv294), (4, .int zv290), (0, .ref m), (1, .int sl)]) (fun _ => rfl) (List.Mem.tail _ (List.Mem.tail _ (List.Mem.tail _ (List.Mem.tail _ (List.Mem.tail _ (List.Mem.tail _ (List.Mem.head _))))))) (Nat.le_of_ble_eq_true rfl) (by decide) (by omega) (by omega) (tX11_minute_1_ok (198, .iinc 3 1, 3) (List.mem_of_getElem? (i := 49) rfl)) (fun zv496 ze497 => ?_)
                        refine w_goto (tgt := 4) (tX11_minute_1_ok (201, .goto (-197), 3) (List.mem_of_getElem? (i := 50) rfl)) rfl ?_
                        have z8 : zv496.toInt.toNat = p.toInt.toNat + 1 := by omega
                        have e1 : p.toInt.toNat = p.toInt.toNat := by omega
                        have e2 : zv481.toInt.toNat = 6 + p.toInt.toNat := by omega
                        have c9 := zc489
                        rw [e1, e2] at c9
                        have k9 : (∀ q, ¬ q = p.toInt.toNat → ¬ q = 6 + p.toInt.toNat → upd (upd T p.toInt.toNat zv458) (6 + p.toInt.toNat) zv487 q = T q) := fun q q1 q2 => by rw [upd_n _ _ q2, upd_n _ _ q1]
                        have d9 := ph_dn (R := R) (b := b) (p := p.toInt.toNat) (x := (T p.toInt.toNat).toInt) (y := zv458.toInt) mb.1 (by rw [← plq]; omega) (by omega)
                        have d8 : ph_s R (upd (upd T p.toInt.toNat zv458) (6 + p.toInt.toNat) zv487) b p.toInt.toNat = ph_s R T b p.toInt.toNat := ph_s_ext _ (fun q hq => k9 q (by omega) (by omega))
                        have d7 : (upd (upd T p.toInt.toNat zv458) (6 + p.toInt.toNat) zv487) p.toInt.toNat = zv458 := by rw [upd_n _ _ (by omega), upd_s]
                        refine w_lv [(3, .int zv496), (2, .int zv494), (0, .ref m), (1, .int sl)] (by intro q hq; simp only [List.mem_cons, List.not_mem_nil, or_false] at hq ⊢; rcases hq with e | e | e | e <;> subst e <;> simp) ?_
                        refine ih (j - 1) (by omega) _ _ _ _ (by omega) (by omega) (by omega) ⟨zc491, fL19, fL20, fL22, fL28, fL33, zc492, c9, zc493, pe0, rp0, hbo.upd (by omega)⟩ (hmi.upd (by omega) (by omega)) (fun q q1 q2 => (k9 q (by omega) (by omega)).trans (hT0 q q1 q2)) (fun q q1 q2 => (k9 q (by omega) (by omega)).trans (hge q (by omega) q2)) ?_ (fun h1 T1 v1 q1 q2 q3 q4 q5 q6 => hq h1 T1 v1 q1 q2 q3 q4 q5 (fun q hq => (q6 q hq).trans ((zo490 q hq).trans (zo475 q hq))))
                        rw [z8, ph_s, ph_s, d8, d7, ← hge p.toInt.toNat (by omega) (by omega)]
                        omega
                      · refine w_goto (tgt := 198) (tX11_minute_1_ok (171, .goto 27, 3) (List.mem_of_getElem? (i := 32) rfl)) rfl ?_
                        refine w_iinc (fun zv498 => [(3, .int zv498), (8, .int zv458), (7, .int zv407), (6, .int zv296), (5, .int zv294), (4, .int zv290), (2, .int sp), (0, .ref m), (1, .int sl)]) (fun _ => rfl) (List.Mem.tail _ (List.Mem.tail _ (List.Mem.tail _ (List.Mem.tail _ (List.Mem.tail _ (List.Mem.head _)))))) (Nat.le_of_ble_eq_true rfl) (by decide) (by omega) (by omega) (tX11_minute_1_ok (198, .iinc 3 1, 3) (List.mem_of_getElem? (i := 49) rfl)) (fun zv498 ze499 => ?_)
                        refine w_goto (tgt := 4) (tX11_minute_1_ok (201, .goto (-197), 3) (List.mem_of_getElem? (i := 50) rfl)) rfl ?_
                        have z8 : zv498.toInt.toNat = p.toInt.toNat + 1 := by omega
                        refine w_lv [(3, .int zv498), (2, .int sp), (0, .ref m), (1, .int sl)] (by intro q hq; simp only [List.mem_cons, List.not_mem_nil, or_false] at hq ⊢; rcases hq with e | e | e | e <;> subst e <;> simp) ?_
                        exact ih (j - 1) (by omega) _ _ _ _ (by omega) (by omega) (by omega) H9 hmi hT0 (fun q hq1 hq2 => hge q (by omega) hq2) (by rw [z8, ph_s, ph_s, hge p.toInt.toNat (by omega) (by omega)]; omega) hq
              · refine w_goto (tgt := 198) (tX11_minute_0_ok (103, .goto 95, 3) (List.mem_of_getElem? (i := 55) rfl)) rfl ?_
                refine w_iinc (fun zv500 => [(3, .int zv500), (6, .int zv296), (5, .int zv294), (4, .int zv290), (2, .int sp), (0, .ref m), (1, .int sl)]) (fun _ => rfl) (List.Mem.tail _ (List.Mem.tail _ (List.Mem.tail _ (List.Mem.head _)))) (Nat.le_of_ble_eq_true rfl) (by decide) (by omega) (by omega) (tX11_minute_1_ok (198, .iinc 3 1, 3) (List.mem_of_getElem? (i := 49) rfl)) (fun zv500 ze501 => ?_)
                refine w_goto (tgt := 4) (tX11_minute_1_ok (201, .goto (-197), 3) (List.mem_of_getElem? (i := 50) rfl)) rfl ?_
                have z8 : zv500.toInt.toNat = p.toInt.toNat + 1 := by omega
                refine w_lv [(3, .int zv500), (2, .int sp), (0, .ref m), (1, .int sl)] (by intro q hq; simp only [List.mem_cons, List.not_mem_nil, or_false] at hq ⊢; rcases hq with e | e | e | e <;> subst e <;> simp) ?_
                exact ih (j - 1) (by omega) _ _ _ _ (by omega) (by omega) (by omega) H9 hmi hT0 (fun q hq1 hq2 => hge q (by omega) hq2) (by rw [z8, ph_s, ph_s, hge p.toInt.toNat (by omega) (by omega)]; omega) hq
            · exfalso; omega
          · exfalso; omega
end
