/-! the bytes of a word -/
def sp_byte (w : Int32) (k : Int) : Int := ((w >>> (Int32.ofInt k &&& 31)) &&& 255).toInt
/-- how many bytes that aren't 0 the lowest so many hold -/
def sp_tl (w : Int32) : Nat → Int
  | 0 => 0
  | k + 1 => (if sp_byte w (8 * (k : Int)) = 0 then 0 else 1) + sp_tl w k
theorem sp_byte_of {w y z v1 v2 : Int32} {k : Int} (hy : y.toInt = k) (hz : z.toInt = 255) (e1 : v1 = w >>> (y &&& 31)) (e2 : v2 = v1 &&& z) : v2.toInt = sp_byte w k ∧ 0 ≤ v2.toInt ∧ v2.toInt ≤ 255 := by
  have hz2 : z = 255 := (kn_eq _ _).mpr (by rw [hz]; rfl)
  have hy2 : y = Int32.ofInt k := by rw [← hy, fb_asI]
  subst hz2 hy2 e1 e2
  have h9 := kn_and (w >>> (Int32.ofInt k &&& 31)) (y := 255) (by decide)
  exact ⟨rfl, h9.1, h9.2⟩
theorem sp_tl_b (w : Int32) : ∀ k : Nat, 0 ≤ sp_tl w k ∧ sp_tl w k ≤ k
  | 0 => ⟨Int.le_refl _, Int.le_refl _⟩
  | k + 1 => by
    have h := sp_tl_b w k
    rw [sp_tl]
    split <;> omega
section
variable {l : Launch} {D : va_G} {tys : List (ClassId × FieldType)} {A : Nat → Prop} {X : State → Prop} {fr lo : Nat} {Q : Option Value → ch_H → Prop} {cA : Nat → ClassId} {h : ch_H} {t b r k s : Nat} {f : Nat → Int32} {len at0 fl0 : Int32}
theorem s_toldL {w : Int32} : ∀ (j : Nat) (n sh : Int32), sh.toInt = 8 * (j : Int) - 8 → j ≤ 4 → 0 ≤ n.toInt → n.toInt + j ≤ 4 → (∀ v : Int32, v.toInt = n.toInt + sp_tl w j → Q (some (.int v)) h) → ww l D tys A X fr lo mX7_told Q 5 [(2, .int sh), (1, .int n), (0, .int w)] [] h := by
  intro j
  induction j using Nat.strongRecOn with
  | ind j ih =>
    intro n sh hs hj hn hn4 hq
    refine w_iload_n (List.Mem.head _) (tX7_told_0_ok (5, .iload_n 2, 1) (List.mem_of_getElem? (i := 4) rfl)) ?_
    refine w_if_lt (tgt := 28) (tX7_told_0_ok (6, .ifCond .lt 22, 3) (List.mem_of_getElem? (i := 5) rfl)) rfl (fun b1 => ?_) (fun b1 => ?_)
    · refine w_iload_n (List.Mem.tail _ (List.Mem.head _)) (tX7_told_0_ok (28, .iload_n 1, 1) (List.mem_of_getElem? (i := 15) rfl)) ?_
      refine w_iret rfl (tX7_told_0_ok (29, .ireturn, 1) (List.mem_of_getElem? (i := 16) rfl)) ?_
      refine hq n ?_
      have a9 : j = 0 := by omega
      rw [a9, sp_tl]
      omega
    · refine w_iload_n (List.Mem.tail _ (List.Mem.tail _ (List.Mem.head _))) (tX7_told_0_ok (9, .iload_n 0, 1) (List.mem_of_getElem? (i := 6) rfl)) ?_
      refine w_iload_n (List.Mem.head _) (tX7_told_0_ok (10, .iload_n 2, 1) (List.mem_of_getElem? (i := 7) rfl)) ?_
      refine w_ishr (tX7_told_0_ok (11, .ishr, 1) (List.mem_of_getElem? (i := 8) rfl)) (fun v2 e3 => ?_)
      refine w_sipush (by decide) (tX7_told_0_ok (12, .sipush 255, 3) (List.mem_of_getElem? (i := 9) rfl)) (fun v4 e5 => ?_)
      refine w_iand (tX7_told_0_ok (15, .iand, 1) (List.mem_of_getElem? (i := 10) rfl)) (fun v6 e7 => ?_)
      refine w_if_eq (tgt := 22) (tX7_told_0_ok (16, .ifCond .eq 6, 3) (List.mem_of_getElem? (i := 11) rfl)) rfl (fun b8 => ?_) (fun b8 => ?_)
      · refine w_iinc (fun v9 => [(2, .int v9), (1, .int n), (0, .int w)]) (fun _ => rfl) (List.Mem.head _) (Nat.le_of_ble_eq_true rfl) (by decide) (by omega) (by omega) (tX7_told_0_ok (22, .iinc 2 (-8), 3) (List.mem_of_getElem? (i := 13) rfl)) (fun v9 e10 => ?_)
        refine w_goto (tgt := 5) (tX7_told_0_ok (25, .goto (-20), 3) (List.mem_of_getElem? (i := 14) rfl)) rfl ?_
        have a9 : j = (j - 1) + 1 := by omega
        have b9 := sp_byte_of (k := 8 * ((j - 1 : Nat) : Int)) (by omega) (by omega) e3 e7
        refine w_lv [(2, .int v9), (1, .int n), (0, .int w)] (List.forall_mem_cons.mpr ⟨(List.Mem.head _), List.forall_mem_cons.mpr ⟨(List.Mem.tail _ (List.Mem.head _)), List.forall_mem_cons.mpr ⟨(List.Mem.tail _ (List.Mem.tail _ (List.Mem.head _))), fun _ h => absurd h List.not_mem_nil⟩⟩⟩) ?_
        refine ih (j - 1) (by omega) _ _ (by omega) (by omega) (by omega) (by omega) (fun u9 p9 => hq u9 ?_)
        rw [a9, sp_tl, if_pos (by omega)]
        omega
      · refine w_iinc (fun v11 => [(1, .int v11), (2, .int sh), (0, .int w)]) (fun _ => rfl) (List.Mem.tail _ (List.Mem.head _)) (Nat.le_of_ble_eq_true rfl) (by decide) (by omega) (by omega) (tX7_told_0_ok (19, .iinc 1 1, 3) (List.mem_of_getElem? (i := 12) rfl)) (fun v11 e12 => ?_)
        refine w_iinc (fun v13 => [(2, .int v13), (1, .int v11), (0, .int w)]) (fun _ => rfl) (List.Mem.tail _ (List.Mem.head _)) (Nat.le_of_ble_eq_true rfl) (by decide) (by omega) (by omega) (tX7_told_0_ok (22, .iinc 2 (-8), 3) (List.mem_of_getElem? (i := 13) rfl)) (fun v13 e14 => ?_)
        refine w_goto (tgt := 5) (tX7_told_0_ok (25, .goto (-20), 3) (List.mem_of_getElem? (i := 14) rfl)) rfl ?_
        have a9 : j = (j - 1) + 1 := by omega
        have b9 := sp_byte_of (k := 8 * ((j - 1 : Nat) : Int)) (by omega) (by omega) e3 e7
        refine w_lv [(2, .int v13), (1, .int v11), (0, .int w)] (List.forall_mem_cons.mpr ⟨(List.Mem.head _), List.forall_mem_cons.mpr ⟨(List.Mem.tail _ (List.Mem.head _)), List.forall_mem_cons.mpr ⟨(List.Mem.tail _ (List.Mem.tail _ (List.Mem.head _))), fun _ h => absurd h List.not_mem_nil⟩⟩⟩) ?_
        refine ih (j - 1) (by omega) _ _ (by omega) (by omega) (by omega) (by omega) (fun u9 p9 => hq u9 ?_)
        rw [a9, sp_tl, if_neg (by omega)]
        omega
theorem s_told {w : Int32} (hq : ∀ v : Int32, v.toInt = sp_tl w 4 → Q (some (.int v)) h) : ww l D tys A X fr lo mX7_told Q 0 [(0, .int w)] [] h := by
  refine w_iconst (by decide) (tX7_told_0_ok (0, .iconst 0, 1) (List.mem_of_getElem? (i := 0) rfl)) (fun v1 e2 => ?_)
  refine w_istore_n [(1, .int v1), (0, .int w)] rfl (Nat.le_of_ble_eq_true rfl) (tX7_told_0_ok (1, .istore_n 1, 1) (List.mem_of_getElem? (i := 1) rfl)) ?_
  refine w_bipush (by decide) (tX7_told_0_ok (2, .bipush 24, 2) (List.mem_of_getElem? (i := 2) rfl)) (fun v3 e4 => ?_)
  refine w_istore_n [(2, .int v3), (1, .int v1), (0, .int w)] rfl (Nat.le_of_ble_eq_true rfl) (tX7_told_0_ok (4, .istore_n 2, 1) (List.mem_of_getElem? (i := 3) rfl)) ?_
  exact s_toldL 4 _ _ (by omega) (by omega) (by omega) (by omega) (fun v p => hq v (by omega))
theorem s_bytesInL {w : Int32} : ∀ (j : Nat) (n sh : Int32), sh.toInt = 8 * (j : Int) - 8 → j ≤ 4 → 0 ≤ n.toInt → n.toInt + j ≤ 4 → (∀ v : Int32, v.toInt = n.toInt + sp_tl w j → Q (some (.int v)) h) → ww l D tys A X fr lo mX11_bytesIn Q 5 [(2, .int sh), (1, .int n), (0, .int w)] [] h := by
  intro j
  induction j using Nat.strongRecOn with
  | ind j ih =>
    intro n sh hs hj hn hn4 hq
    refine w_iload_n (List.Mem.head _) (tX11_bytesIn_0_ok (5, .iload_n 2, 1) (List.mem_of_getElem? (i := 4) rfl)) ?_
    refine w_if_lt (tgt := 33) (tX11_bytesIn_0_ok (6, .ifCond .lt 27, 3) (List.mem_of_getElem? (i := 5) rfl)) rfl (fun b1 => ?_) (fun b1 => ?_)
    · refine w_iload_n (List.Mem.tail _ (List.Mem.head _)) (tX11_bytesIn_0_ok (33, .iload_n 1, 1) (List.mem_of_getElem? (i := 20) rfl)) ?_
      refine w_iret rfl (tX11_bytesIn_0_ok (34, .ireturn, 1) (List.mem_of_getElem? (i := 21) rfl)) ?_
      refine hq n ?_
      have a9 : j = 0 := by omega
      rw [a9, sp_tl]
      omega
    · refine w_iload_n (List.Mem.tail _ (List.Mem.head _)) (tX11_bytesIn_0_ok (9, .iload_n 1, 1) (List.mem_of_getElem? (i := 6) rfl)) ?_
      refine w_iload_n (List.Mem.tail _ (List.Mem.tail _ (List.Mem.head _))) (tX11_bytesIn_0_ok (10, .iload_n 0, 1) (List.mem_of_getElem? (i := 7) rfl)) ?_
      refine w_iload_n (List.Mem.head _) (tX11_bytesIn_0_ok (11, .iload_n 2, 1) (List.mem_of_getElem? (i := 8) rfl)) ?_
      refine w_ishr (tX11_bytesIn_0_ok (12, .ishr, 1) (List.mem_of_getElem? (i := 9) rfl)) (fun v2 e3 => ?_)
      refine w_sipush (by decide) (tX11_bytesIn_0_ok (13, .sipush 255, 3) (List.mem_of_getElem? (i := 10) rfl)) (fun v4 e5 => ?_)
      refine w_iand (tX11_bytesIn_0_ok (16, .iand, 1) (List.mem_of_getElem? (i := 11) rfl)) (fun v6 e7 => ?_)
      refine w_if_eq (tgt := 24) (tX11_bytesIn_0_ok (17, .ifCond .eq 7, 3) (List.mem_of_getElem? (i := 12) rfl)) rfl (fun b8 => ?_) (fun b8 => ?_)
      · refine w_iconst (by decide) (tX11_bytesIn_0_ok (24, .iconst 0, 1) (List.mem_of_getElem? (i := 15) rfl)) (fun v9 e10 => ?_)
        refine w_iadd (by omega) (by omega) (tX11_bytesIn_0_ok (25, .iadd, 1) (List.mem_of_getElem? (i := 16) rfl)) (fun v11 e12 => ?_)
        refine w_istore_n [(1, .int v11), (2, .int sh), (0, .int w)] rfl (Nat.le_of_ble_eq_true rfl) (tX11_bytesIn_0_ok (26, .istore_n 1, 1) (List.mem_of_getElem? (i := 17) rfl)) ?_
        refine w_iinc (fun v13 => [(2, .int v13), (1, .int v11), (0, .int w)]) (fun _ => rfl) (List.Mem.tail _ (List.Mem.head _)) (Nat.le_of_ble_eq_true rfl) (by decide) (by omega) (by omega) (tX11_bytesIn_0_ok (27, .iinc 2 (-8), 3) (List.mem_of_getElem? (i := 18) rfl)) (fun v13 e14 => ?_)
        refine w_goto (tgt := 5) (tX11_bytesIn_0_ok (30, .goto (-25), 3) (List.mem_of_getElem? (i := 19) rfl)) rfl ?_
        have a9 : j = (j - 1) + 1 := by omega
        have b9 := sp_byte_of (k := 8 * ((j - 1 : Nat) : Int)) (by omega) (by omega) e3 e7
        refine w_lv [(2, .int v13), (1, .int v11), (0, .int w)] (List.forall_mem_cons.mpr ⟨(List.Mem.head _), List.forall_mem_cons.mpr ⟨(List.Mem.tail _ (List.Mem.head _)), List.forall_mem_cons.mpr ⟨(List.Mem.tail _ (List.Mem.tail _ (List.Mem.head _))), fun _ h => absurd h List.not_mem_nil⟩⟩⟩) ?_
        refine ih (j - 1) (by omega) _ _ (by omega) (by omega) (by omega) (by omega) (fun u9 p9 => hq u9 ?_)
        rw [a9, sp_tl, if_pos (by omega)]
        omega
      · refine w_iconst (by decide) (tX11_bytesIn_0_ok (20, .iconst 1, 1) (List.mem_of_getElem? (i := 13) rfl)) (fun v15 e16 => ?_)
        refine w_goto (tgt := 25) (tX11_bytesIn_0_ok (21, .goto 4, 3) (List.mem_of_getElem? (i := 14) rfl)) rfl ?_
        refine w_iadd (by omega) (by omega) (tX11_bytesIn_0_ok (25, .iadd, 1) (List.mem_of_getElem? (i := 16) rfl)) (fun v17 e18 => ?_)
        refine w_istore_n [(1, .int v17), (2, .int sh), (0, .int w)] rfl (Nat.le_of_ble_eq_true rfl) (tX11_bytesIn_0_ok (26, .istore_n 1, 1) (List.mem_of_getElem? (i := 17) rfl)) ?_
        refine w_iinc (fun v19 => [(2, .int v19), (1, .int v17), (0, .int w)]) (fun _ => rfl) (List.Mem.tail _ (List.Mem.head _)) (Nat.le_of_ble_eq_true rfl) (by decide) (by omega) (by omega) (tX11_bytesIn_0_ok (27, .iinc 2 (-8), 3) (List.mem_of_getElem? (i := 18) rfl)) (fun v19 e20 => ?_)
        refine w_goto (tgt := 5) (tX11_bytesIn_0_ok (30, .goto (-25), 3) (List.mem_of_getElem? (i := 19) rfl)) rfl ?_
        have a9 : j = (j - 1) + 1 := by omega
        have b9 := sp_byte_of (k := 8 * ((j - 1 : Nat) : Int)) (by omega) (by omega) e3 e7
        refine w_lv [(2, .int v19), (1, .int v17), (0, .int w)] (List.forall_mem_cons.mpr ⟨(List.Mem.head _), List.forall_mem_cons.mpr ⟨(List.Mem.tail _ (List.Mem.head _)), List.forall_mem_cons.mpr ⟨(List.Mem.tail _ (List.Mem.tail _ (List.Mem.head _))), fun _ h => absurd h List.not_mem_nil⟩⟩⟩) ?_
        refine ih (j - 1) (by omega) _ _ (by omega) (by omega) (by omega) (by omega) (fun u9 p9 => hq u9 ?_)
        rw [a9, sp_tl, if_neg (by omega)]
        omega
theorem s_bytesIn {w : Int32} (hq : ∀ v : Int32, v.toInt = sp_tl w 4 → Q (some (.int v)) h) : ww l D tys A X fr lo mX11_bytesIn Q 0 [(0, .int w)] [] h := by
  refine w_iconst (by decide) (tX11_bytesIn_0_ok (0, .iconst 0, 1) (List.mem_of_getElem? (i := 0) rfl)) (fun v1 e2 => ?_)
  refine w_istore_n [(1, .int v1), (0, .int w)] rfl (Nat.le_of_ble_eq_true rfl) (tX11_bytesIn_0_ok (1, .istore_n 1, 1) (List.mem_of_getElem? (i := 1) rfl)) ?_
  refine w_bipush (by decide) (tX11_bytesIn_0_ok (2, .bipush 24, 2) (List.mem_of_getElem? (i := 2) rfl)) (fun v3 e4 => ?_)
  refine w_istore_n [(2, .int v3), (1, .int v1), (0, .int w)] rfl (Nat.le_of_ble_eq_true rfl) (tX11_bytesIn_0_ok (4, .istore_n 2, 1) (List.mem_of_getElem? (i := 3) rfl)) ?_
  exact s_bytesInL 4 _ _ (by omega) (by omega) (by omega) (by omega) (fun v p => hq v (by omega))
/-- the bytes of the lowest so many places of a word, put behind a text -/
def sp_add (w : Int32) : Nat → (Nat → Int32) × Nat → (Nat → Int32) × Nat
  | 0, q => q
  | k + 1, q => if sp_byte w (8 * (k : Int)) = 0 then sp_add w k q else sp_add w k (upd q.1 q.2 (Int32.ofInt (sp_byte w (8 * (k : Int)))), q.2 + 1)
theorem s_addL (hT : k_tys tys cA) {w : Int32} : ∀ (j : Nat) (sh len : Int32) (f : Nat → Int32) (h : ch_H), sh.toInt = 8 * (j : Int) - 8 → j ≤ 4 → len.toInt + sp_tl w j ≤ 160 → tp0 cA h t b f len at0 fl0 → (∀ (h1 : ch_H) (f1 : Nat → Int32) (len1 : Int32), tp0 cA h1 t b f1 len1 at0 fl0 → f1 = (sp_add w j (f, len.toInt.toNat)).1 → len1.toInt.toNat = (sp_add w j (f, len.toInt.toNat)).2 → (∀ q, q ≠ t ∧ q ≠ b → h1 q = h q) → Q none h1) → ww l D tys A X fr lo mX7_add Q 3 [(2, .int sh), (0, .ref t), (1, .int w)] [] h := by
  intro j
  induction j using Nat.strongRecOn with
  | ind j ih =>
    intro sh len f h hs hj hn H hq
    obtain ⟨c_t, c_b, n_b_t, l1, l2⟩ := H
    have n_t_b := n_b_t.symm
    refine w_iload_n (List.Mem.head _) (tX7_add_0_ok (3, .iload_n 2, 1) (List.mem_of_getElem? (i := 2) rfl)) ?_
    refine w_if_lt (tgt := 55) (tX7_add_0_ok (4, .ifCond .lt 51, 3) (List.mem_of_getElem? (i := 3) rfl)) rfl (fun b1 => ?_) (fun b1 => ?_)
    · refine w_vret rfl (tX7_add_0_ok (55, .return_, 1) (List.mem_of_getElem? (i := 30) rfl)) ?_
      have a9 : j = 0 := by omega
      refine hq h f len ⟨c_t, c_b, n_b_t, by omega, by omega⟩ ?_ ?_ (fun q hq => rfl)
      · rw [a9]; rfl
      · rw [a9]; rfl
    · refine w_iload_n (List.Mem.tail _ (List.Mem.tail _ (List.Mem.head _))) (tX7_add_0_ok (7, .iload_n 1, 1) (List.mem_of_getElem? (i := 4) rfl)) ?_
      refine w_iload_n (List.Mem.head _) (tX7_add_0_ok (8, .iload_n 2, 1) (List.mem_of_getElem? (i := 5) rfl)) ?_
      refine w_ishr (tX7_add_0_ok (9, .ishr, 1) (List.mem_of_getElem? (i := 6) rfl)) (fun v2 e3 => ?_)
      refine w_sipush (by decide) (tX7_add_0_ok (10, .sipush 255, 3) (List.mem_of_getElem? (i := 7) rfl)) (fun v4 e5 => ?_)
      refine w_iand (tX7_add_0_ok (13, .iand, 1) (List.mem_of_getElem? (i := 8) rfl)) (fun v6 e7 => ?_)
      refine w_istore_n [(3, .int v6), (2, .int sh), (0, .ref t), (1, .int w)] rfl (Nat.le_of_ble_eq_true rfl) (tX7_add_0_ok (14, .istore_n 3, 1) (List.mem_of_getElem? (i := 9) rfl)) ?_
      refine w_iload_n (List.Mem.head _) (tX7_add_0_ok (15, .iload_n 3, 1) (List.mem_of_getElem? (i := 10) rfl)) ?_
      refine w_if_eq (tgt := 49) (tX7_add_0_ok (16, .ifCond .eq 33, 3) (List.mem_of_getElem? (i := 11) rfl)) rfl (fun b8 => ?_) (fun b8 => ?_)
      · refine w_iinc (fun v9 => [(2, .int v9), (3, .int v6), (0, .ref t), (1, .int w)]) (fun _ => rfl) (List.Mem.tail _ (List.Mem.head _)) (Nat.le_of_ble_eq_true rfl) (by decide) (by omega) (by omega) (tX7_add_0_ok (49, .iinc 2 (-8), 3) (List.mem_of_getElem? (i := 28) rfl)) (fun v9 e10 => ?_)
        refine w_goto (tgt := 3) (tX7_add_0_ok (52, .goto (-49), 3) (List.mem_of_getElem? (i := 29) rfl)) rfl ?_
        have a9 : j = (j - 1) + 1 := by omega
        have b9 := sp_byte_of (k := 8 * ((j - 1 : Nat) : Int)) (by omega) (by omega) e3 e7
        have t9 : sp_tl w j = 0 + sp_tl w (j - 1) := by
          rw [a9, sp_tl, if_pos (by omega)]
          rfl
        refine w_lv [(2, .int v9), (0, .ref t), (1, .int w)] (List.forall_mem_cons.mpr ⟨(List.Mem.head _), List.forall_mem_cons.mpr ⟨(List.Mem.tail _ (List.Mem.tail _ (List.Mem.head _))), List.forall_mem_cons.mpr ⟨(List.Mem.tail _ (List.Mem.tail _ (List.Mem.tail _ (List.Mem.head _)))), fun _ h => absurd h List.not_mem_nil⟩⟩⟩) ?_
        refine ih (j - 1) (by omega) _ _ _ _ (by omega) (by omega) (by omega) ⟨c_t, c_b, n_b_t, by omega, by omega⟩ (fun h1 f1 len1 p1 p2 p3 p4 => hq h1 f1 len1 p1 ?_ ?_ (fun q hq => (p4 q hq).trans (rfl)))
        · rw [a9, sp_add, if_pos (by omega)]
          exact p2
        · rw [a9, sp_add, if_pos (by omega)]
          exact p3
      · refine w_aload_n (List.Mem.tail _ (List.Mem.tail _ (List.Mem.head _))) (tX7_add_0_ok (19, .aload_n 0, 1) (List.mem_of_getElem? (i := 12) rfl)) ?_
        refine w_get (own := 12) rfl rfl (by decide) c_t rfl (tX7_add_0_ok (20, .getfield 19, 3) (List.mem_of_getElem? (i := 13) rfl)) ?_
        refine w_sipush (by decide) (tX7_add_0_ok (23, .sipush 160, 3) (List.mem_of_getElem? (i := 14) rfl)) (fun v11 e12 => ?_)
        refine w_icmp_ge (tgt := 49) (tX7_add_0_ok (26, .if_icmp .ge 23, 3) (List.mem_of_getElem? (i := 15) rfl)) rfl (fun b13 => ?_) (fun b13 => ?_)
        · exfalso; have a9 : j = (j - 1) + 1 := (by omega); have b9 := sp_byte_of (k := 8 * ((j - 1 : Nat) : Int)) (by omega) (by omega) e3 e7; have t9 : sp_tl w j = 1 + sp_tl w (j - 1) := (by rw [a9, sp_tl, if_neg (by omega)]; rfl); have u9 := sp_tl_b w (j - 1); omega
        · refine w_aload_n (List.Mem.tail _ (List.Mem.tail _ (List.Mem.head _))) (tX7_add_0_ok (29, .aload_n 0, 1) (List.mem_of_getElem? (i := 16) rfl)) ?_
          refine w_get (own := 12) rfl rfl (by decide) c_t rfl (tX7_add_0_ok (30, .getfield 9, 3) (List.mem_of_getElem? (i := 17) rfl)) ?_
          refine w_aload_n (List.Mem.tail _ (List.Mem.tail _ (List.Mem.head _))) (tX7_add_0_ok (33, .aload_n 0, 1) (List.mem_of_getElem? (i := 18) rfl)) ?_
          refine w_get (own := 12) rfl rfl (by decide) c_t rfl (tX7_add_0_ok (34, .getfield 19, 3) (List.mem_of_getElem? (i := 19) rfl)) ?_
          refine w_iload_n (List.Mem.head _) (tX7_add_0_ok (37, .iload_n 3, 1) (List.mem_of_getElem? (i := 20) rfl)) ?_
          refine w_iast hT c_b (by omega) (by omega) (tX7_add_0_ok (38, .iastore, 1) (List.mem_of_getElem? (i := 21) rfl)) (fun h14 c15 o16 => ?_)
          have c17 := (o16 t n_t_b).trans c_t
          refine w_aload_n (List.Mem.tail _ (List.Mem.tail _ (List.Mem.head _))) (tX7_add_0_ok (39, .aload_n 0, 1) (List.mem_of_getElem? (i := 22) rfl)) ?_
          refine w_dup rfl (tX7_add_0_ok (40, .dup, 1) (List.mem_of_getElem? (i := 23) rfl)) ?_
          refine w_get (own := 12) rfl rfl (by decide) c17 rfl (tX7_add_0_ok (41, .getfield 19, 3) (List.mem_of_getElem? (i := 24) rfl)) ?_
          refine w_iconst (by decide) (tX7_add_0_ok (44, .iconst 1, 1) (List.mem_of_getElem? (i := 25) rfl)) (fun v18 e19 => ?_)
          refine w_iadd (by omega) (by omega) (tX7_add_0_ok (45, .iadd, 1) (List.mem_of_getElem? (i := 26) rfl)) (fun v20 e21 => ?_)
          refine w_put (own := 12) [.ref b, .int v20, .int at0, .int fl0] rfl rfl rfl (by decide) rfl ⟨rfl, rfl⟩ c17 (Nat.le_of_ble_eq_true rfl) (tX7_add_0_ok (46, .putfield 19, 3) (List.mem_of_getElem? (i := 27) rfl)) (fun h22 c23 o24 => ?_)
          have c25 := (o24 b n_b_t).trans c15
          refine w_iinc (fun v26 => [(2, .int v26), (3, .int v6), (0, .ref t), (1, .int w)]) (fun _ => rfl) (List.Mem.tail _ (List.Mem.head _)) (Nat.le_of_ble_eq_true rfl) (by decide) (by omega) (by omega) (tX7_add_0_ok (49, .iinc 2 (-8), 3) (List.mem_of_getElem? (i := 28) rfl)) (fun v26 e27 => ?_)
          refine w_goto (tgt := 3) (tX7_add_0_ok (52, .goto (-49), 3) (List.mem_of_getElem? (i := 29) rfl)) rfl ?_
          have a9 : j = (j - 1) + 1 := by omega
          have b9 := sp_byte_of (k := 8 * ((j - 1 : Nat) : Int)) (by omega) (by omega) e3 e7
          have t9 : sp_tl w j = 1 + sp_tl w (j - 1) := by
            rw [a9, sp_tl, if_neg (by omega)]
            rfl
          refine w_lv [(2, .int v26), (0, .ref t), (1, .int w)] (List.forall_mem_cons.mpr ⟨(List.Mem.head _), List.forall_mem_cons.mpr ⟨(List.Mem.tail _ (List.Mem.tail _ (List.Mem.head _))), List.forall_mem_cons.mpr ⟨(List.Mem.tail _ (List.Mem.tail _ (List.Mem.tail _ (List.Mem.head _)))), fun _ h => absurd h List.not_mem_nil⟩⟩⟩) ?_
          refine ih (j - 1) (by omega) _ _ _ _ (by omega) (by omega) (by omega) ⟨c23, c25, n_b_t, by omega, by omega⟩ (fun h1 f1 len1 p1 p2 p3 p4 => hq h1 f1 len1 p1 ?_ ?_ (fun q hq => (p4 q hq).trans ((o24 q hq.1).trans (o16 q hq.2))))
          · rw [a9, sp_add, if_neg (by omega), ← b9.1, fb_asI]
            have d9 : v20.toInt.toNat = len.toInt.toNat + 1 := by omega
            rw [d9] at p2
            exact p2
          · rw [a9, sp_add, if_neg (by omega), ← b9.1, fb_asI]
            have d9 : v20.toInt.toNat = len.toInt.toNat + 1 := by omega
            rw [d9] at p3
            exact p3
theorem s_add (hT : k_tys tys cA) {w : Int32} (hn : len.toInt + sp_tl w 4 ≤ 160) (H : tp0 cA h t b f len at0 fl0) (hq : ∀ (h1 : ch_H) (f1 : Nat → Int32) (len1 : Int32), tp0 cA h1 t b f1 len1 at0 fl0 → f1 = (sp_add w 4 (f, len.toInt.toNat)).1 → len1.toInt.toNat = (sp_add w 4 (f, len.toInt.toNat)).2 → (∀ q, q ≠ t ∧ q ≠ b → h1 q = h q) → Q none h1) : ww l D tys A X fr lo mX7_add Q 0 [(0, .ref t), (1, .int w)] [] h := by
  refine w_bipush (by decide) (tX7_add_0_ok (0, .bipush 24, 2) (List.mem_of_getElem? (i := 0) rfl)) (fun v1 e2 => ?_)
  refine w_istore_n [(2, .int v1), (0, .ref t), (1, .int w)] rfl (Nat.le_of_ble_eq_true rfl) (tX7_add_0_ok (2, .istore_n 2, 1) (List.mem_of_getElem? (i := 1) rfl)) ?_
  exact s_addL hT 4 _ _ _ _ (by omega) (by omega) hn H hq
end
