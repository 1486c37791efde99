/-! the reference: until all is at rest -/
theorem ph_s_b {R T : Nat → Int32} {b : Nat → Int} (h : mi9 R T) : ∀ p : Nat, p ≤ 6 → -20 * (p : Int) ≤ ph_s R T b p ∧ ph_s R T b p ≤ 20 * (p : Int)
  | 0, _ => ⟨by show -20 * (0 : Int) ≤ 0; decide, by show (0 : Int) ≤ 20 * 0; decide⟩
  | p + 1, hp => by
    have h1 := ph_s_b (b := b) h p (by omega)
    have h2 := h p (by omega)
    rw [ph_s]
    unfold ph_at
    split
    · omega
    · split <;> omega
section
variable {l : Launch} {D : va_G} {tys : List (ClassId × FieldType)} {A : Nat → Prop} {X : State → Prop} {fr lo : Nat} {Q : Option Value → ch_H → Prop} {h : ch_H} {cA : Nat → ClassId} {m ro to we : Nat} {fs : List Value} {R T T0 Wt : Nat → Int32} {pe rp : Int32}
theorem h_min (hT : k_tys tys cA) {sl : Int32} {b : Nat → Int} (hsl : sl.toInt = 0) (n_m_to : m ≠ to) (n_ro_to : ro ≠ to) (n_we_to : we ≠ to) (hb : ∀ q, q < 12 → b q = sp_br R T0 Wt pe.toInt.toNat rp.toInt.toNat 12 q) (hf : 16 ≤ fr) (hl : 420 ≤ lo) (H : br9 cA h m fs ro to we R T Wt pe rp) (hmi : mi9 R T) (hT0 : ∀ q, 18 ≤ q → q < 38 → T q = T0 q) (hge : ∀ q, q < 6 → T q = T0 q) (hq : ∀ (h1 : ch_H) (T1 : Nat → Int32) (v : Int32), br9 cA h1 m fs ro to we R T1 Wt pe rp → mi9 R T1 → (∀ q, 18 ≤ q → q < 38 → T1 q = T0 q) → 0 ≤ v.toInt → ph_s R T1 b rp.toInt.toNat + v.toInt ≤ ph_s R T0 b rp.toInt.toNat → (∀ q, q ≠ to → h1 q = h q) → Q (some (.int v)) h1) : ww l D tys A X fr lo mX11_minute Q 0 [(0, .ref m), (1, .int sl)] [] h := by
  have rp0 : 0 ≤ rp.toInt := H.2.2.2.2.2.2.2.2.2.2.1
  refine w_iconst (by decide) (tX11_minute_0_ok (0, .iconst 0, 1) (List.mem_of_getElem? (i := 0) rfl)) (fun zv1 ze2 => ?_)
  refine w_istore_n [(2, .int zv1), (0, .ref m), (1, .int sl)] rfl (Nat.le_of_ble_eq_true rfl) (tX11_minute_0_ok (1, .istore_n 2, 1) (List.mem_of_getElem? (i := 1) rfl)) ?_
  refine w_iconst (by decide) (tX11_minute_0_ok (2, .iconst 0, 1) (List.mem_of_getElem? (i := 2) rfl)) (fun zv3 ze4 => ?_)
  refine w_istore_n [(3, .int zv3), (2, .int zv1), (0, .ref m), (1, .int sl)] rfl (Nat.le_of_ble_eq_true rfl) (tX11_minute_0_ok (3, .istore_n 3, 1) (List.mem_of_getElem? (i := 3) rfl)) ?_
  refine w_lv [(3, .int zv3), (2, .int zv1), (0, .ref m), (1, .int sl)] (by intro q hq; simp only [List.mem_cons, List.not_mem_nil, or_false] at hq ⊢; rcases hq with e | e | e | e <;> subst e <;> simp) ?_
  have z7 : zv3.toInt.toNat = 0 := by omega
  exact h_minL hT hsl n_m_to n_ro_to n_we_to hb hf hl rp.toInt.toNat _ _ _ T (by omega) (by omega) (by omega) H hmi hT0 (fun q _ q2 => hge q q2) (by rw [z7]; show (0 : Int) + _ ≤ 0; omega) hq
theorem h_restL (hT : k_tys tys cA) {b : Nat → Int} (n_m_to : m ≠ to) (n_ro_to : ro ≠ to) (n_we_to : we ≠ to) (hb : ∀ q, q < 12 → b q = sp_br R T0 Wt pe.toInt.toNat rp.toInt.toNat 12 q) (hf : 17 ≤ fr) (hl : 460 ≤ lo) : ∀ (k : Nat) (n : Int32) (h : ch_H) (T : Nat → Int32), ph_s R T b rp.toInt.toNat + 130 ≤ k → 0 ≤ n.toInt → n.toInt + k ≤ 1000 → br9 cA h m fs ro to we R T Wt pe rp → mi9 R T → (∀ q, 18 ≤ q → q < 38 → T q = T0 q) → (∀ (h1 : ch_H) (T1 : Nat → Int32) (v : Int32), br9 cA h1 m fs ro to we R T1 Wt pe rp → mi9 R T1 → (∀ q, 18 ≤ q → q < 38 → T1 q = T0 q) → (∀ q, q ≠ to → h1 q = h q) → Q (some (.int v)) h1) → ww l D tys A X fr lo mX11_rests Q 2 [(1, .int n), (0, .ref m)] [] h := by
  intro k
  induction k using Nat.strongRecOn with
  | ind k ih =>
    intro n h T hk hn hnk H hmi hT0 hq
    have H9 := H
    obtain ⟨c_m, fL19, fL20, fL22, fL28, fL33, c_ro, c_to, c_we, pe0, rp0, hbo⟩ := H
    have pe8 := hbo.2.2.2.1
    have rp6 := hbo.2.2.2.2
    have hlow := ph_s_b (b := b) hmi rp.toInt.toNat (by omega)
    have hbT : ∀ q, q < 12 → b q = sp_br R T Wt pe.toInt.toNat rp.toInt.toNat 12 q := fun q hq => by rw [hb q hq]; exact (sp_br_ext pe8 rp6 hT0 12 q hq).symm
    refine w_aload_n (List.Mem.tail _ (List.Mem.head _)) (tX11_rests_0_ok (2, .aload_n 0, 1) (List.mem_of_getElem? (i := 2) rfl)) ?_
    refine w_iconst (by decide) (tX11_rests_0_ok (3, .iconst 0, 1) (List.mem_of_getElem? (i := 3) rfl)) (fun zv1 ze2 => ?_)
    refine w_callV (own := 16) (mi := 215) [.int zv1] [] [(0, .ref m), (1, .int zv1)] rfl (cllw_X11 (307, 0, 215) (List.mem_of_getElem? (i := 42) rfl)) rfl rfl c_m rfl (by omega) (w_lo (n := 28) rfl (by omega)) (Nat.le_of_ble_eq_true rfl) (Nat.le_of_ble_eq_true rfl) rfl (tX11_rests_0_ok (4, .invokevirtual 307, 3) (List.mem_of_getElem? (i := 4) rfl)) (h_min (T0 := T) (b := b) hT (by omega) n_m_to n_ro_to n_we_to hbT (by omega) (w_sub (n := 28) rfl (by omega)) H9 hmi (fun _ _ _ => rfl) (fun _ _ => rfl) (fun zh3 zTa4 zv5 zq6 zq7 zq8 zq9 zq10 zq11 => ?_))
    have zq6H := zq6
    obtain ⟨zc12, -, -, -, -, -, zc13, zc14, zc15, -, -, -⟩ := zq6
    show ww l D tys A X fr lo mX11_rests Q 7 [(1, .int n), (0, .ref m)] [.int zv5] zh3
    refine w_if_le (tgt := 16) (tX11_rests_0_ok (7, .ifCond .le 9, 3) (List.mem_of_getElem? (i := 5) rfl)) rfl (fun zb16 => ?_) (fun zb16 => ?_)
    · refine w_aload_n (List.Mem.tail _ (List.Mem.head _)) (tX11_rests_0_ok (16, .aload_n 0, 1) (List.mem_of_getElem? (i := 8) rfl)) ?_
      refine w_get (own := 16) rfl rfl (by decide) zc12 fL22 (tX11_rests_0_ok (17, .getfield 45, 3) (List.mem_of_getElem? (i := 9) rfl)) ?_
      refine w_bipush (by decide) (tX11_rests_0_ok (20, .bipush 38, 2) (List.mem_of_getElem? (i := 10) rfl)) (fun zv17 ze18 => ?_)
      refine tt_dup2 rfl rfl (tX11_rests_0_ok (22, .dup2, 1) (List.mem_of_getElem? (i := 11) rfl)) ?_
      show ww l D tys A X fr lo mX11_rests Q 23 [(1, .int n), (0, .ref m)] [.int zv17, .ref to, .int zv17, .ref to] zh3
      refine w_iald hT zc14 (by omega) (by omega) (tX11_rests_0_ok (23, .iaload, 1) (List.mem_of_getElem? (i := 12) rfl)) (fun zv19 ze20 => ?_)
      refine w_iconst (by decide) (tX11_rests_0_ok (24, .iconst 1, 1) (List.mem_of_getElem? (i := 13) rfl)) (fun zv21 ze22 => ?_)
      refine w_isubA (tX11_rests_0_ok (25, .isub, 1) (List.mem_of_getElem? (i := 14) rfl)) (fun zv23 => ?_)
      refine w_iast hT zc14 (by omega) (by omega) (tX11_rests_0_ok (26, .iastore, 1) (List.mem_of_getElem? (i := 15) rfl)) (fun zh24 zc25 zo26 => ?_)
      have zc27 := (zo26 m n_m_to).trans zc12
      have zc28 := (zo26 ro n_ro_to).trans zc13
      have zc29 := (zo26 we n_we_to).trans zc15
      refine w_iload_n (List.Mem.head _) (tX11_rests_0_ok (27, .iload_n 1, 1) (List.mem_of_getElem? (i := 16) rfl)) ?_
      refine w_iret rfl (tX11_rests_0_ok (28, .ireturn, 1) (List.mem_of_getElem? (i := 17) rfl)) ?_
      obtain ⟨-, -, -, -, -, -, -, -, -, -, -, hb9⟩ := zq6H
      have e1 : zv17.toInt.toNat = 38 := by omega
      have c9 := zc25
      rw [e1] at c9
      refine hq zh24 (upd zTa4 38 zv23) n ⟨zc27, fL19, fL20, fL22, fL28, fL33, zc28, c9, zc29, pe0, rp0, hb9.1, fun k hk => by rw [upd_n _ _ (by omega)]; exact hb9.2.1 k hk, hb9.2.2⟩ (fun q hq => by rw [upd_n _ _ (by omega)]; exact zq7 q hq) (fun q r1 r2 => by rw [upd_n _ _ (by omega)]; exact (zq8 q r1 r2).trans (hT0 q r1 r2)) (fun q hq => (zo26 q hq).trans (zq11 q hq))
    · refine w_iinc (fun zv30 => [(1, .int zv30), (0, .ref m)]) (fun _ => rfl) (List.Mem.head _) (Nat.le_of_ble_eq_true rfl) (by decide) (by omega) (by omega) (tX11_rests_0_ok (10, .iinc 1 1, 3) (List.mem_of_getElem? (i := 6) rfl)) (fun zv30 ze31 => ?_)
      refine w_goto (tgt := 2) (tX11_rests_0_ok (13, .goto (-11), 3) (List.mem_of_getElem? (i := 7) rfl)) rfl ?_
      refine w_lv [(1, .int zv30), (0, .ref m)] (by intro q hq; simp only [List.mem_cons, List.not_mem_nil, or_false] at hq ⊢; rcases hq with e | e <;> subst e <;> simp) ?_
      exact ih (k - 1) (by omega) _ _ zTa4 (by omega) (by omega) (by omega) zq6H zq7 (fun q r1 r2 => (zq8 q r1 r2).trans (hT0 q r1 r2)) (fun h9 T9 v9 r1 r2 r3 r4 => hq h9 T9 v9 r1 r2 r3 (fun q hq => (r4 q hq).trans (zq11 q hq)))
theorem h_rests (hT : k_tys tys cA) (n_m_to : m ≠ to) (n_ro_to : ro ≠ to) (n_we_to : we ≠ to) (hf : 17 ≤ fr) (hl : 460 ≤ lo) (H : br9 cA h m fs ro to we R T Wt pe rp) (hmi : mi9 R T) (hq : ∀ (h1 : ch_H) (T1 : Nat → Int32) (v : Int32), br9 cA h1 m fs ro to we R T1 Wt pe rp → mi9 R T1 → (∀ q, 18 ≤ q → q < 38 → T1 q = T q) → (∀ q, q ≠ to → h1 q = h q) → Q (some (.int v)) h1) : ww l D tys A X fr lo mX11_rests Q 0 [(0, .ref m)] [] h := by
  have rp6 := H.2.2.2.2.2.2.2.2.2.2.2.2.2.2.2
  have hlow := ph_s_b (b := sp_br R T Wt pe.toInt.toNat rp.toInt.toNat 12) hmi rp.toInt.toNat (by omega)
  refine w_iconst (by decide) (tX11_rests_0_ok (0, .iconst 0, 1) (List.mem_of_getElem? (i := 0) rfl)) (fun zv1 ze2 => ?_)
  refine w_istore_n [(1, .int zv1), (0, .ref m)] rfl (Nat.le_of_ble_eq_true rfl) (tX11_rests_0_ok (1, .istore_n 1, 1) (List.mem_of_getElem? (i := 1) rfl)) ?_
  refine w_lv [(1, .int zv1), (0, .ref m)] (by intro q hq; simp only [List.mem_cons, List.not_mem_nil, or_false] at hq ⊢; rcases hq with e | e <;> subst e <;> simp) ?_
  exact h_restL hT (b := sp_br R T Wt pe.toInt.toNat rp.toInt.toNat 12) n_m_to n_ro_to n_we_to (fun _ _ => rfl) hf hl 300 _ _ T (by omega) (by omega) (by omega) H hmi (fun _ _ _ => rfl) hq
end
