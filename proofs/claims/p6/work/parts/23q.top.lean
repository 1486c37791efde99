/-! feed and end, class and reference -/
theorem and255 (x : Int32) : (x &&& 255).toInt = x.toInt % 256 := by
  rw [← Int32.toInt_toBitVec, ← Int32.toInt_toBitVec x, Int32.toBitVec_and]
  have h1 : (x.toBitVec &&& (255 : Int32).toBitVec).toNat = x.toBitVec.toNat % 256 := by
    rw [BitVec.toNat_and]
    exact Nat.and_two_pow_sub_one_eq_mod _ 8
  have h2 := x.toBitVec.isLt
  rw [BitVec.toInt_eq_toNat_cond, BitVec.toInt_eq_toNat_cond, h1]
  split <;> split <;> omega
theorem byte_v (x : Int32) : (vp_nar .byte x.toInt8.toInt32).toInt = (if (x &&& 255).toInt < 128 then (x &&& 255).toInt else (x &&& 255).toInt - 256) := by
  rw [pk_vb, Int8.toInt_toInt32, Int32.toInt_toInt8, and255, Int.bmod_def]
  split <;> split <;> omega
theorem byte_and (x : Int32) : ((vp_nar .byte x.toInt8.toInt32) &&& 255).toInt = (x &&& 255).toInt := by
  rw [and255, byte_v, and255]
  split <;> omega
/-- a TAPE's bytes: those of the reference are those of the class, and none is 0 -/
def sbn (g f : Nat → Int32) (len : Nat) : Prop := sb g f 0 len ∧ (∀ i, i < len → 1 ≤ (f i).toInt) ∧ ∀ i, i < 160 → -128 ≤ (g i).toInt ∧ (g i).toInt ≤ 127
theorem sbn_add {g f : Nat → Int32} {len : Nat} {x : Int32} {B : Int} (h : sbn g f len) (hl : len < 160) (hB : (x &&& 255).toInt = B) (h1 : 1 ≤ B) : sbn (upd g len (vp_nar .byte x.toInt8.toInt32)) (upd f len (Int32.ofInt B)) (len + 1) := by
  have h9 := kn_and x (y := 255) (by decide)
  have hb : B ≤ 255 := by rw [← hB]; exact h9.2
  have e1 : (Int32.ofInt B).toInt = B := fb_ofI (by omega) (by omega)
  have h2 := byte_v x
  have h3 := byte_and x
  rw [hB] at h2 h3
  refine ⟨fun i hi => ?_, fun i hi => ?_, fun i hi => ?_⟩
  · rw [Nat.zero_add]
    by_cases c : i = len
    · subst c
      rw [upd_s, upd_s, e1, h3]
      refine ⟨rfl, by omega, by omega, ?_⟩
      rw [h2]
      split
      · exact Or.inl rfl
      · exact Or.inr ⟨by omega, rfl⟩
    · rw [upd_n g _ c, upd_n f _ c]
      have := h.1 i (by omega)
      rw [Nat.zero_add] at this
      exact this
  · by_cases c : i = len
    · subst c; rw [upd_s, e1]; exact h1
    · rw [upd_n f _ c]; exact h.2.1 i (by omega)
  · by_cases c : i = len
    · subst c
      rw [upd_s, h2]
      split <;> omega
    · rw [upd_n g _ c]; exact h.2.2 i hi
/-- the reference's TAPE -/
def pt (cA : Nat → ClassId) (h : ch_H) (m : Nat) (fs : List Value) (tx : Nat) (g : Nat → Int32) (len : Int32) : Prop := h m = some (.inr (10, fs)) ∧ fs.length = 47 ∧ fs[1]? = some (.ref tx) ∧ fs[6]? = some (.int len) ∧ tx ≠ m ∧ m ≠ tx ∧ h tx = some (.inl (cA 2, 160, .inl g)) ∧ 0 ≤ len.toInt ∧ len.toInt ≤ 160
section
variable {l : Launch} {D : va_G} {tys : List (ClassId × FieldType)} {A : Nat → Prop} {X : State → Prop} {fr lo : Nat} {Q : Option Value → ch_H → Prop} {cA : Nat → ClassId} {h : ch_H} {m tx x t b : Nat} {fs : List Value} {g f : Nat → Int32} {len at0 fl0 : Int32}
theorem r_putL (hT : k_tys tys cA) {w : Int32} : ∀ (j : Nat) (sh len : Int32) (g f : Nat → Int32) (h : ch_H) (fs : List Value), sh.toInt = 8 * (j : Int) - 8 → j ≤ 4 → len.toInt + sp_tl w j ≤ 160 → sbn g f len.toInt.toNat → pt cA h m fs tx g len → (∀ (h1 : ch_H) (fs1 : List Value) (g1 : Nat → Int32) (len1 : Int32), pt cA h1 m fs1 tx g1 len1 → sbn g1 (sp_add w j (f, len.toInt.toNat)).1 len1.toInt.toNat → len1.toInt.toNat = (sp_add w j (f, len.toInt.toNat)).2 → (∀ j, j ≠ 6 → fs1[j]? = fs[j]?) → (∀ q, q ≠ m ∧ q ≠ tx → h1 q = h q) → Q none h1) → ww l D tys A X fr lo mX11_put Q 3 [(2, .int sh), (0, .ref m), (1, .int w)] [] h := by
  intro j
  induction j using Nat.strongRecOn with
  | ind j ih =>
    intro sh len g f h fs hs hj hn hsb H hq
    have u9 := sp_tl_b w j
    obtain ⟨c_m, fl, fL1, fL6, n_tx_m, n_m_tx, c_x, l1, l2⟩ := H
    refine w_iload_n (List.Mem.head _) (tX11_put_0_ok (3, .iload_n 2, 1) (List.mem_of_getElem? (i := 2) rfl)) ?_
    refine w_if_lt (tgt := 49) (tX11_put_0_ok (4, .ifCond .lt 45, 3) (List.mem_of_getElem? (i := 3) rfl)) rfl (fun b1 => ?_) (fun b1 => ?_)
    · refine w_vret rfl (tX11_put_0_ok (49, .return_, 1) (List.mem_of_getElem? (i := 28) rfl)) ?_
      have a9 : j = 0 := by omega
      refine hq h fs g len ⟨c_m, fl, fL1, fL6, n_tx_m, n_m_tx, c_x, by omega, by omega⟩ ?_ ?_ (fun j hj => rfl) (fun q hq => rfl)
      · rw [a9]; exact hsb
      · rw [a9]; rfl
    · refine w_iload_n (List.Mem.tail _ (List.Mem.tail _ (List.Mem.head _))) (tX11_put_0_ok (7, .iload_n 1, 1) (List.mem_of_getElem? (i := 4) rfl)) ?_
      refine w_iload_n (List.Mem.head _) (tX11_put_0_ok (8, .iload_n 2, 1) (List.mem_of_getElem? (i := 5) rfl)) ?_
      refine w_ishr (tX11_put_0_ok (9, .ishr, 1) (List.mem_of_getElem? (i := 6) rfl)) (fun v2 e3 => ?_)
      refine w_sipush (by decide) (tX11_put_0_ok (10, .sipush 255, 3) (List.mem_of_getElem? (i := 7) rfl)) (fun v4 e5 => ?_)
      refine w_iand (tX11_put_0_ok (13, .iand, 1) (List.mem_of_getElem? (i := 8) rfl)) (fun v6 e7 => ?_)
      refine w_if_ne (tgt := 20) (tX11_put_0_ok (14, .ifCond .ne 6, 3) (List.mem_of_getElem? (i := 9) rfl)) rfl (fun b8 => ?_) (fun b8 => ?_)
      · refine w_aload_n (List.Mem.tail _ (List.Mem.head _)) (tX11_put_0_ok (20, .aload_n 0, 1) (List.mem_of_getElem? (i := 11) rfl)) ?_
        refine w_get (own := 16) rfl rfl (by decide) c_m fL1 (tX11_put_0_ok (21, .getfield 9, 3) (List.mem_of_getElem? (i := 12) rfl)) ?_
        refine w_aload_n (List.Mem.tail _ (List.Mem.head _)) (tX11_put_0_ok (24, .aload_n 0, 1) (List.mem_of_getElem? (i := 13) rfl)) ?_
        refine w_get (own := 16) rfl rfl (by decide) c_m fL6 (tX11_put_0_ok (25, .getfield 99, 3) (List.mem_of_getElem? (i := 14) rfl)) ?_
        refine w_iload_n (List.Mem.tail _ (List.Mem.tail _ (List.Mem.head _))) (tX11_put_0_ok (28, .iload_n 1, 1) (List.mem_of_getElem? (i := 15) rfl)) ?_
        refine w_iload_n (List.Mem.head _) (tX11_put_0_ok (29, .iload_n 2, 1) (List.mem_of_getElem? (i := 16) rfl)) ?_
        refine w_ishr (tX11_put_0_ok (30, .ishr, 1) (List.mem_of_getElem? (i := 17) rfl)) (fun v9 e10 => ?_)
        refine w_i2b (tX11_put_0_ok (31, .i2b, 1) (List.mem_of_getElem? (i := 18) rfl)) (fun v11 e12 => ?_)
        have b9 := sp_byte_of (k := 8 * ((j - 1 : Nat) : Int)) (by omega) (by omega) e3 e7
        have hB9 : (v9 &&& 255).toInt = sp_byte w (8 * ((j - 1 : Nat) : Int)) := by
          have z9 : sh = Int32.ofInt (8 * ((j - 1 : Nat) : Int)) := by rw [← fb_asI sh]; congr 1; omega
          rw [e10, z9]; rfl
        have t8 : sp_tl w j = 1 + sp_tl w (j - 1) := by have a9 : j = (j - 1) + 1 := (by omega); rw [a9, sp_tl, if_neg (by omega)]; rfl
        have u8 := sp_tl_b w (j - 1)
        have B1 : 1 ≤ sp_byte w (8 * ((j - 1 : Nat) : Int)) := by omega
        clear b9
        refine w_bast hT c_x (by omega) (by omega) (tX11_put_0_ok (32, .bastore, 1) (List.mem_of_getElem? (i := 19) rfl)) (fun h13 c14 o15 => ?_)
        have c16 := (o15 m n_m_tx).trans c_m
        refine w_aload_n (List.Mem.tail _ (List.Mem.head _)) (tX11_put_0_ok (33, .aload_n 0, 1) (List.mem_of_getElem? (i := 20) rfl)) ?_
        refine w_dup rfl (tX11_put_0_ok (34, .dup, 1) (List.mem_of_getElem? (i := 21) rfl)) ?_
        refine w_get (own := 16) rfl rfl (by decide) c16 fL6 (tX11_put_0_ok (35, .getfield 99, 3) (List.mem_of_getElem? (i := 22) rfl)) ?_
        refine w_iconst (by decide) (tX11_put_0_ok (38, .iconst 1, 1) (List.mem_of_getElem? (i := 23) rfl)) (fun v17 e18 => ?_)
        refine w_iadd (by omega) (by omega) (tX11_put_0_ok (39, .iadd, 1) (List.mem_of_getElem? (i := 24) rfl)) (fun v19 e20 => ?_)
        refine w_putF (own := 16) (ci := 10) (k := 6) rfl rfl (by decide) rfl ⟨rfl, rfl⟩ c16 (by rw [fl]; decide) (tX11_put_0_ok (40, .putfield 99, 3) (List.mem_of_getElem? (i := 25) rfl)) (fun h21 fs24 l25 k26 j27 c22 o23 => ?_)
        rw [fl] at l25
        have f28 := (j27 1 (by decide)).trans fL1
        have c29 := (o23 tx n_tx_m).trans c14
        refine w_iinc (fun v30 => [(2, .int v30), (0, .ref m), (1, .int w)]) (fun _ => rfl) (List.Mem.head _) (Nat.le_of_ble_eq_true rfl) (by decide) (by omega) (by omega) (tX11_put_0_ok (43, .iinc 2 (-8), 3) (List.mem_of_getElem? (i := 26) rfl)) (fun v30 e31 => ?_)
        refine w_goto (tgt := 3) (tX11_put_0_ok (46, .goto (-43), 3) (List.mem_of_getElem? (i := 27) rfl)) rfl ?_
        have a9 : j = (j - 1) + 1 := by omega
        have b9 := sp_byte_of (k := 8 * ((j - 1 : Nat) : Int)) (by omega) (by omega) e3 e7
        have t9 : sp_tl w j = 1 + sp_tl w (j - 1) := by
          rw [a9, sp_tl, if_neg (by omega)]
          rfl
        refine w_lv [(2, .int v30), (0, .ref m), (1, .int w)] (by intro q hq; simp only [List.mem_cons, List.not_mem_nil, or_false] at hq ⊢; rcases hq with e | e | e <;> subst e <;> simp) ?_
        have d9 : v19.toInt.toNat = len.toInt.toNat + 1 := by omega
        have c9 : sbn (upd g len.toInt.toNat (vp_nar .byte v11)) (upd f len.toInt.toNat (Int32.ofInt (sp_byte w (8 * ((j - 1 : Nat) : Int))))) v19.toInt.toNat := by
          rw [d9, e12]
          refine sbn_add hsb (by omega) ?_ (by omega)
          exact hB9
        refine ih (j - 1) (by omega) _ _ _ _ _ _ (by omega) (by omega) (by omega) c9 ⟨c22, l25, f28, k26, n_tx_m, n_m_tx, c29, by omega, by omega⟩ (fun h1 fs1 g1 len1 p1 p2 p3 p4 p5 => hq h1 fs1 g1 len1 p1 ?_ ?_ (fun j hj => (p4 j hj).trans (j27 j hj)) (fun q hq => (p5 q hq).trans ((o23 q hq.1).trans (o15 q hq.2))))
        · rw [a9, sp_add, if_neg (by omega)]; rw [d9] at p2; exact p2
        · rw [a9, sp_add, if_neg (by omega)]; rw [d9] at p3; exact p3
      · refine w_goto (tgt := 43) (tX11_put_0_ok (17, .goto 26, 3) (List.mem_of_getElem? (i := 10) rfl)) rfl ?_
        refine w_iinc (fun v32 => [(2, .int v32), (0, .ref m), (1, .int w)]) (fun _ => rfl) (List.Mem.head _) (Nat.le_of_ble_eq_true rfl) (by decide) (by omega) (by omega) (tX11_put_0_ok (43, .iinc 2 (-8), 3) (List.mem_of_getElem? (i := 26) rfl)) (fun v32 e33 => ?_)
        refine w_goto (tgt := 3) (tX11_put_0_ok (46, .goto (-43), 3) (List.mem_of_getElem? (i := 27) rfl)) rfl ?_
        have a9 : j = (j - 1) + 1 := by omega
        have b9 := sp_byte_of (k := 8 * ((j - 1 : Nat) : Int)) (by omega) (by omega) e3 e7
        have t9 : sp_tl w j = 0 + sp_tl w (j - 1) := by
          rw [a9, sp_tl, if_pos (by omega)]
          rfl
        refine w_lv [(2, .int v32), (0, .ref m), (1, .int w)] (by intro q hq; simp only [List.mem_cons, List.not_mem_nil, or_false] at hq ⊢; rcases hq with e | e | e <;> subst e <;> simp) ?_
        refine ih (j - 1) (by omega) _ _ _ _ _ _ (by omega) (by omega) (by omega) hsb ⟨c_m, fl, fL1, fL6, n_tx_m, n_m_tx, c_x, by omega, by omega⟩ (fun h1 fs1 g1 len1 p1 p2 p3 p4 p5 => hq h1 fs1 g1 len1 p1 ?_ ?_ (fun j hj => (p4 j hj).trans (rfl)) (fun q hq => (p5 q hq).trans (rfl)))
        · rw [a9, sp_add, if_pos (by omega)]; exact p2
        · rw [a9, sp_add, if_pos (by omega)]; exact p3
theorem r_put (hT : k_tys tys cA) {w : Int32} (hn : len.toInt + sp_tl w 4 ≤ 160) (hsb : sbn g f len.toInt.toNat) (H : pt cA h m fs tx g len) (hq : ∀ (h1 : ch_H) (fs1 : List Value) (g1 : Nat → Int32) (len1 : Int32), pt cA h1 m fs1 tx g1 len1 → sbn g1 (sp_add w 4 (f, len.toInt.toNat)).1 len1.toInt.toNat → len1.toInt.toNat = (sp_add w 4 (f, len.toInt.toNat)).2 → (∀ j, j ≠ 6 → fs1[j]? = fs[j]?) → (∀ q, q ≠ m ∧ q ≠ tx → h1 q = h q) → Q none h1) : ww l D tys A X fr lo mX11_put Q 0 [(0, .ref m), (1, .int w)] [] h := by
  obtain ⟨c_m, fl, fL1, fL6, n_tx_m, n_m_tx, c_x, l1, l2⟩ := H
  refine w_bipush (by decide) (tX11_put_0_ok (0, .bipush 24, 2) (List.mem_of_getElem? (i := 0) rfl)) (fun v1 e2 => ?_)
  refine w_istore_n [(2, .int v1), (0, .ref m), (1, .int w)] rfl (Nat.le_of_ble_eq_true rfl) (tX11_put_0_ok (2, .istore_n 2, 1) (List.mem_of_getElem? (i := 1) rfl)) ?_
  exact r_putL hT 4 _ _ _ _ _ _ (by omega) (by omega) hn hsb ⟨c_m, fl, fL1, fL6, n_tx_m, n_m_tx, c_x, l1, l2⟩ hq
theorem sp_add_len (w : Int32) : ∀ (k : Nat) (q : (Nat → Int32) × Nat), ((sp_add w k q).2 : Int) = q.2 + sp_tl w k
  | 0, q => by show (q.2 : Int) = q.2 + 0; omega
  | k + 1, q => by
    rw [sp_add, sp_tl]
    split
    · rw [sp_add_len w k q]; omega
    · rw [sp_add_len w k _]; show ((q.2 + 1 : Nat) : Int) + _ = _; omega
def sp_need (wa wb wc wd we : Int32) : Int := sp_tl wa 4 + sp_tl wb 4 + sp_tl wc 4 + sp_tl wd 4 + sp_tl we 4
def sp_feed (wa wb wc wd we : Int32) (q : (Nat → Int32) × Nat) : (Nat → Int32) × Nat := sp_add we 4 (sp_add wd 4 (sp_add wc 4 (sp_add wb 4 (sp_add wa 4 q))))
theorem r_feed (hT : k_tys tys cA) {wa wb wc wd we : Int32} (hf : 1 ≤ fr) (hl : 30 ≤ lo) (hsb : sbn g f len.toInt.toNat) (H : pt cA h m fs tx g len) (hq : ∀ (h1 : ch_H) (fs1 : List Value) (g1 : Nat → Int32) (len1 v : Int32), pt cA h1 m fs1 tx g1 len1 → (160 < len.toInt + sp_need wa wb wc wd we ∧ v.toInt = -1 ∧ g1 = g ∧ len1 = len ∨ len.toInt + sp_need wa wb wc wd we ≤ 160 ∧ v.toInt = len1.toInt ∧ sbn g1 (sp_feed wa wb wc wd we (f, len.toInt.toNat)).1 len1.toInt.toNat ∧ len1.toInt.toNat = (sp_feed wa wb wc wd we (f, len.toInt.toNat)).2) → (∃ y0 : Int32, fs1[0]? = some (.int y0)) → (∀ j, j ≠ 0 ∧ j ≠ 6 → fs1[j]? = fs[j]?) → (∀ q, q ≠ m ∧ q ≠ tx → h1 q = h q) → Q (some (.int v)) h1) : ww l D tys A X fr lo mX11_feed Q 0 [(0, .ref m), (1, .int wa), (2, .int wb), (3, .int wc), (4, .int wd), (5, .int we)] [] h := by
  obtain ⟨c_m, fl, fL1, fL6, n_tx_m, n_m_tx, c_x, l1, l2⟩ := H
  refine w_aload_n (List.Mem.head _) (tX11_feed_0_ok (0, .aload_n 0, 1) (List.mem_of_getElem? (i := 0) rfl)) ?_
  refine w_iconst (by decide) (tX11_feed_0_ok (1, .iconst 0, 1) (List.mem_of_getElem? (i := 1) rfl)) (fun v1 e2 => ?_)
  refine w_putF (own := 16) (ci := 10) (k := 0) rfl rfl (by decide) rfl ⟨rfl, rfl⟩ c_m (by rw [fl]; decide) (tX11_feed_0_ok (2, .putfield 85, 3) (List.mem_of_getElem? (i := 2) rfl)) (fun h3 fs6 l7 k8 j9 c4 o5 => ?_)
  rw [fl] at l7
  have f10 := (j9 1 (by decide)).trans fL1
  have f11 := (j9 6 (by decide)).trans fL6
  have c12 := (o5 tx n_tx_m).trans c_x
  refine w_aload_n (List.Mem.head _) (tX11_feed_0_ok (5, .aload_n 0, 1) (List.mem_of_getElem? (i := 3) rfl)) ?_
  refine w_get (own := 16) rfl rfl (by decide) c4 f11 (tX11_feed_0_ok (6, .getfield 99, 3) (List.mem_of_getElem? (i := 4) rfl)) ?_
  refine w_iload_n (List.Mem.tail _ (List.Mem.head _)) (tX11_feed_0_ok (9, .iload_n 1, 1) (List.mem_of_getElem? (i := 5) rfl)) ?_
  refine w_callS (own := 16) (mi := 168) [.int wa] [.int len] [(0, .int wa)] rfl (cllw_X11 (101, 1, 168) (List.mem_of_getElem? (i := 0) rfl)) rfl rfl (by omega) (w_lo (n := 22) rfl (by omega)) (Nat.le_of_ble_eq_true rfl) (Nat.le_of_ble_eq_true rfl) rfl (tX11_feed_0_ok (10, .invokestatic 101, 3) (List.mem_of_getElem? (i := 6) rfl)) (s_bytesIn (fun v13 e14 => ?_))
  have u15 := sp_tl_b wa 4
  show ww l D tys A X fr lo mX11_feed Q 13 [(0, .ref m), (1, .int wa), (2, .int wb), (3, .int wc), (4, .int wd), (5, .int we)] [.int v13, .int len] h3
  refine w_iadd (by omega) (by omega) (tX11_feed_0_ok (13, .iadd, 1) (List.mem_of_getElem? (i := 7) rfl)) (fun v16 e17 => ?_)
  refine w_iload_n (List.Mem.tail _ (List.Mem.tail _ (List.Mem.head _))) (tX11_feed_0_ok (14, .iload_n 2, 1) (List.mem_of_getElem? (i := 8) rfl)) ?_
  refine w_callS (own := 16) (mi := 168) [.int wb] [.int v16] [(0, .int wb)] rfl (cllw_X11 (101, 1, 168) (List.mem_of_getElem? (i := 0) rfl)) rfl rfl (by omega) (w_lo (n := 22) rfl (by omega)) (Nat.le_of_ble_eq_true rfl) (Nat.le_of_ble_eq_true rfl) rfl (tX11_feed_0_ok (15, .invokestatic 101, 3) (List.mem_of_getElem? (i := 9) rfl)) (s_bytesIn (fun v18 e19 => ?_))
  have u20 := sp_tl_b wb 4
  show ww l D tys A X fr lo mX11_feed Q 18 [(0, .ref m), (1, .int wa), (2, .int wb), (3, .int wc), (4, .int wd), (5, .int we)] [.int v18, .int v16] h3
  refine w_iadd (by omega) (by omega) (tX11_feed_0_ok (18, .iadd, 1) (List.mem_of_getElem? (i := 10) rfl)) (fun v21 e22 => ?_)
  refine w_iload_n (List.Mem.tail _ (List.Mem.tail _ (List.Mem.tail _ (List.Mem.head _)))) (tX11_feed_0_ok (19, .iload_n 3, 1) (List.mem_of_getElem? (i := 11) rfl)) ?_
  refine w_callS (own := 16) (mi := 168) [.int wc] [.int v21] [(0, .int wc)] rfl (cllw_X11 (101, 1, 168) (List.mem_of_getElem? (i := 0) rfl)) rfl rfl (by omega) (w_lo (n := 22) rfl (by omega)) (Nat.le_of_ble_eq_true rfl) (Nat.le_of_ble_eq_true rfl) rfl (tX11_feed_0_ok (20, .invokestatic 101, 3) (List.mem_of_getElem? (i := 12) rfl)) (s_bytesIn (fun v23 e24 => ?_))
  have u25 := sp_tl_b wc 4
  show ww l D tys A X fr lo mX11_feed Q 23 [(0, .ref m), (1, .int wa), (2, .int wb), (3, .int wc), (4, .int wd), (5, .int we)] [.int v23, .int v21] h3
  refine w_iadd (by omega) (by omega) (tX11_feed_0_ok (23, .iadd, 1) (List.mem_of_getElem? (i := 13) rfl)) (fun v26 e27 => ?_)
  refine w_iload (List.Mem.tail _ (List.Mem.tail _ (List.Mem.tail _ (List.Mem.tail _ (List.Mem.head _))))) (tX11_feed_0_ok (24, .iload 4, 2) (List.mem_of_getElem? (i := 14) rfl)) ?_
  refine w_callS (own := 16) (mi := 168) [.int wd] [.int v26] [(0, .int wd)] rfl (cllw_X11 (101, 1, 168) (List.mem_of_getElem? (i := 0) rfl)) rfl rfl (by omega) (w_lo (n := 22) rfl (by omega)) (Nat.le_of_ble_eq_true rfl) (Nat.le_of_ble_eq_true rfl) rfl (tX11_feed_0_ok (26, .invokestatic 101, 3) (List.mem_of_getElem? (i := 15) rfl)) (s_bytesIn (fun v28 e29 => ?_))
  have u30 := sp_tl_b wd 4
  show ww l D tys A X fr lo mX11_feed Q 29 [(0, .ref m), (1, .int wa), (2, .int wb), (3, .int wc), (4, .int wd), (5, .int we)] [.int v28, .int v26] h3
  refine w_iadd (by omega) (by omega) (tX11_feed_0_ok (29, .iadd, 1) (List.mem_of_getElem? (i := 16) rfl)) (fun v31 e32 => ?_)
  refine w_iload (List.Mem.tail _ (List.Mem.tail _ (List.Mem.tail _ (List.Mem.tail _ (List.Mem.tail _ (List.Mem.head _)))))) (tX11_feed_0_ok (30, .iload 5, 2) (List.mem_of_getElem? (i := 17) rfl)) ?_
  refine w_callS (own := 16) (mi := 168) [.int we] [.int v31] [(0, .int we)] rfl (cllw_X11 (101, 1, 168) (List.mem_of_getElem? (i := 0) rfl)) rfl rfl (by omega) (w_lo (n := 22) rfl (by omega)) (Nat.le_of_ble_eq_true rfl) (Nat.le_of_ble_eq_true rfl) rfl (tX11_feed_0_ok (32, .invokestatic 101, 3) (List.mem_of_getElem? (i := 18) rfl)) (s_bytesIn (fun v33 e34 => ?_))
  have u35 := sp_tl_b we 4
  show ww l D tys A X fr lo mX11_feed Q 35 [(0, .ref m), (1, .int wa), (2, .int wb), (3, .int wc), (4, .int wd), (5, .int we)] [.int v33, .int v31] h3
  refine w_iadd (by omega) (by omega) (tX11_feed_0_ok (35, .iadd, 1) (List.mem_of_getElem? (i := 19) rfl)) (fun v36 e37 => ?_)
  refine w_sipush (by decide) (tX11_feed_0_ok (36, .sipush 160, 3) (List.mem_of_getElem? (i := 20) rfl)) (fun v38 e39 => ?_)
  refine w_icmp_le (tgt := 44) (tX11_feed_0_ok (39, .if_icmp .le 5, 3) (List.mem_of_getElem? (i := 21) rfl)) rfl (fun b40 => ?_) (fun b40 => ?_)
  · refine w_aload_n (List.Mem.head _) (tX11_feed_0_ok (44, .aload_n 0, 1) (List.mem_of_getElem? (i := 24) rfl)) ?_
    refine w_iload_n (List.Mem.tail _ (List.Mem.head _)) (tX11_feed_0_ok (45, .iload_n 1, 1) (List.mem_of_getElem? (i := 25) rfl)) ?_
    refine w_callV (own := 16) (mi := 231) [.int wa] [] [(0, .ref m), (1, .int wa)] rfl (cllw_X11 (105, 0, 231) (List.mem_of_getElem? (i := 1) rfl)) rfl rfl c4 rfl (by omega) (w_lo (n := 22) rfl (by omega)) (Nat.le_of_ble_eq_true rfl) (Nat.le_of_ble_eq_true rfl) rfl (tX11_feed_0_ok (46, .invokevirtual 105, 3) (List.mem_of_getElem? (i := 26) rfl)) (r_put hT (by omega) hsb ⟨c4, l7, f10, f11, n_tx_m, n_m_tx, c12, by omega, by omega⟩ (fun h41 fs42 ga43 ln44 p45 e46 e47 k48 o49 => ?_))
    have z50 := sp_add_len wa 4 (f, len.toInt.toNat)
    obtain ⟨c51, l52, f53, f54, -, -, c55, a56, a57⟩ := p45
    have f58 := (k48 0 (by decide)).trans k8
    show ww l D tys A X fr lo mX11_feed Q 49 [(0, .ref m), (1, .int wa), (2, .int wb), (3, .int wc), (4, .int wd), (5, .int we)] [] h41
    refine w_aload_n (List.Mem.head _) (tX11_feed_0_ok (49, .aload_n 0, 1) (List.mem_of_getElem? (i := 27) rfl)) ?_
    refine w_iload_n (List.Mem.tail _ (List.Mem.tail _ (List.Mem.head _))) (tX11_feed_0_ok (50, .iload_n 2, 1) (List.mem_of_getElem? (i := 28) rfl)) ?_
    refine w_callV (own := 16) (mi := 231) [.int wb] [] [(0, .ref m), (1, .int wb)] rfl (cllw_X11 (105, 0, 231) (List.mem_of_getElem? (i := 1) rfl)) rfl rfl c51 rfl (by omega) (w_lo (n := 22) rfl (by omega)) (Nat.le_of_ble_eq_true rfl) (Nat.le_of_ble_eq_true rfl) rfl (tX11_feed_0_ok (51, .invokevirtual 105, 3) (List.mem_of_getElem? (i := 29) rfl)) (r_put hT (by omega) e46 ⟨c51, l52, f53, f54, n_tx_m, n_m_tx, c55, by omega, by omega⟩ (fun h59 fs60 ga61 ln62 p63 e64 e65 k66 o67 => ?_))
    have z68 := sp_add_len wb 4 (sp_add wa 4 (f, len.toInt.toNat))
    rw [show (((sp_add wa 4 (f, len.toInt.toNat))).1, ln44.toInt.toNat) = (sp_add wa 4 (f, len.toInt.toNat)) from Prod.ext rfl e47] at e64 e65
    obtain ⟨c69, l70, f71, f72, -, -, c73, a74, a75⟩ := p63
    have f76 := (k66 0 (by decide)).trans f58
    show ww l D tys A X fr lo mX11_feed Q 54 [(0, .ref m), (1, .int wa), (2, .int wb), (3, .int wc), (4, .int wd), (5, .int we)] [] h59
    refine w_aload_n (List.Mem.head _) (tX11_feed_0_ok (54, .aload_n 0, 1) (List.mem_of_getElem? (i := 30) rfl)) ?_
    refine w_iload_n (List.Mem.tail _ (List.Mem.tail _ (List.Mem.tail _ (List.Mem.head _)))) (tX11_feed_0_ok (55, .iload_n 3, 1) (List.mem_of_getElem? (i := 31) rfl)) ?_
    refine w_callV (own := 16) (mi := 231) [.int wc] [] [(0, .ref m), (1, .int wc)] rfl (cllw_X11 (105, 0, 231) (List.mem_of_getElem? (i := 1) rfl)) rfl rfl c69 rfl (by omega) (w_lo (n := 22) rfl (by omega)) (Nat.le_of_ble_eq_true rfl) (Nat.le_of_ble_eq_true rfl) rfl (tX11_feed_0_ok (56, .invokevirtual 105, 3) (List.mem_of_getElem? (i := 32) rfl)) (r_put hT (by omega) e64 ⟨c69, l70, f71, f72, n_tx_m, n_m_tx, c73, by omega, by omega⟩ (fun h77 fs78 ga79 ln80 p81 e82 e83 k84 o85 => ?_))
    have z86 := sp_add_len wc 4 (sp_add wb 4 (sp_add wa 4 (f, len.toInt.toNat)))
    rw [show (((sp_add wb 4 (sp_add wa 4 (f, len.toInt.toNat)))).1, ln62.toInt.toNat) = (sp_add wb 4 (sp_add wa 4 (f, len.toInt.toNat))) from Prod.ext rfl e65] at e82 e83
    obtain ⟨c87, l88, f89, f90, -, -, c91, a92, a93⟩ := p81
    have f94 := (k84 0 (by decide)).trans f76
    show ww l D tys A X fr lo mX11_feed Q 59 [(0, .ref m), (1, .int wa), (2, .int wb), (3, .int wc), (4, .int wd), (5, .int we)] [] h77
    refine w_aload_n (List.Mem.head _) (tX11_feed_0_ok (59, .aload_n 0, 1) (List.mem_of_getElem? (i := 33) rfl)) ?_
    refine w_iload (List.Mem.tail _ (List.Mem.tail _ (List.Mem.tail _ (List.Mem.tail _ (List.Mem.head _))))) (tX11_feed_0_ok (60, .iload 4, 2) (List.mem_of_getElem? (i := 34) rfl)) ?_
    refine w_callV (own := 16) (mi := 231) [.int wd] [] [(0, .ref m), (1, .int wd)] rfl (cllw_X11 (105, 0, 231) (List.mem_of_getElem? (i := 1) rfl)) rfl rfl c87 rfl (by omega) (w_lo (n := 22) rfl (by omega)) (Nat.le_of_ble_eq_true rfl) (Nat.le_of_ble_eq_true rfl) rfl (tX11_feed_0_ok (62, .invokevirtual 105, 3) (List.mem_of_getElem? (i := 35) rfl)) (r_put hT (by omega) e82 ⟨c87, l88, f89, f90, n_tx_m, n_m_tx, c91, by omega, by omega⟩ (fun h95 fs96 ga97 ln98 p99 e100 e101 k102 o103 => ?_))
    have z104 := sp_add_len wd 4 (sp_add wc 4 (sp_add wb 4 (sp_add wa 4 (f, len.toInt.toNat))))
    rw [show (((sp_add wc 4 (sp_add wb 4 (sp_add wa 4 (f, len.toInt.toNat))))).1, ln80.toInt.toNat) = (sp_add wc 4 (sp_add wb 4 (sp_add wa 4 (f, len.toInt.toNat)))) from Prod.ext rfl e83] at e100 e101
    obtain ⟨c105, l106, f107, f108, -, -, c109, a110, a111⟩ := p99
    have f112 := (k102 0 (by decide)).trans f94
    show ww l D tys A X fr lo mX11_feed Q 65 [(0, .ref m), (1, .int wa), (2, .int wb), (3, .int wc), (4, .int wd), (5, .int we)] [] h95
    refine w_aload_n (List.Mem.head _) (tX11_feed_0_ok (65, .aload_n 0, 1) (List.mem_of_getElem? (i := 36) rfl)) ?_
    refine w_iload (List.Mem.tail _ (List.Mem.tail _ (List.Mem.tail _ (List.Mem.tail _ (List.Mem.tail _ (List.Mem.head _)))))) (tX11_feed_0_ok (66, .iload 5, 2) (List.mem_of_getElem? (i := 37) rfl)) ?_
    refine w_callV (own := 16) (mi := 231) [.int we] [] [(0, .ref m), (1, .int we)] rfl (cllw_X11 (105, 0, 231) (List.mem_of_getElem? (i := 1) rfl)) rfl rfl c105 rfl (by omega) (w_lo (n := 22) rfl (by omega)) (Nat.le_of_ble_eq_true rfl) (Nat.le_of_ble_eq_true rfl) rfl (tX11_feed_0_ok (68, .invokevirtual 105, 3) (List.mem_of_getElem? (i := 38) rfl)) (r_put hT (by omega) e100 ⟨c105, l106, f107, f108, n_tx_m, n_m_tx, c109, by omega, by omega⟩ (fun h113 fs114 ga115 ln116 p117 e118 e119 k120 o121 => ?_))
    have z122 := sp_add_len we 4 (sp_add wd 4 (sp_add wc 4 (sp_add wb 4 (sp_add wa 4 (f, len.toInt.toNat)))))
    rw [show (((sp_add wd 4 (sp_add wc 4 (sp_add wb 4 (sp_add wa 4 (f, len.toInt.toNat)))))).1, ln98.toInt.toNat) = (sp_add wd 4 (sp_add wc 4 (sp_add wb 4 (sp_add wa 4 (f, len.toInt.toNat))))) from Prod.ext rfl e101] at e118 e119
    obtain ⟨c123, l124, f125, f126, -, -, c127, a128, a129⟩ := p117
    have f130 := (k120 0 (by decide)).trans f112
    show ww l D tys A X fr lo mX11_feed Q 71 [(0, .ref m), (1, .int wa), (2, .int wb), (3, .int wc), (4, .int wd), (5, .int we)] [] h113
    refine w_aload_n (List.Mem.head _) (tX11_feed_0_ok (71, .aload_n 0, 1) (List.mem_of_getElem? (i := 39) rfl)) ?_
    refine w_get (own := 16) rfl rfl (by decide) c123 f126 (tX11_feed_0_ok (72, .getfield 99, 3) (List.mem_of_getElem? (i := 40) rfl)) ?_
    refine w_iret rfl (tX11_feed_0_ok (75, .ireturn, 1) (List.mem_of_getElem? (i := 41) rfl)) ?_
    exact hq h113 fs114 ga115 ln116 ln116 ⟨c123, l124, f125, f126, n_tx_m, n_m_tx, c127, by omega, by omega⟩ (Or.inr ⟨by unfold sp_need; omega, by omega, e118, e119⟩) ⟨_, f130⟩ (fun j hj => (k120 j hj.2).trans ((k102 j hj.2).trans ((k84 j hj.2).trans ((k66 j hj.2).trans ((k48 j hj.2).trans (j9 j hj.1)))))) (fun q hq => (o121 q ⟨hq.1, hq.2⟩).trans ((o103 q ⟨hq.1, hq.2⟩).trans ((o85 q ⟨hq.1, hq.2⟩).trans ((o67 q ⟨hq.1, hq.2⟩).trans ((o49 q ⟨hq.1, hq.2⟩).trans (o5 q hq.1))))))
  · refine w_iconst (by decide) (tX11_feed_0_ok (42, .iconst (-1), 1) (List.mem_of_getElem? (i := 22) rfl)) (fun v131 e132 => ?_)
    refine w_iret rfl (tX11_feed_0_ok (43, .ireturn, 1) (List.mem_of_getElem? (i := 23) rfl)) ?_
    exact hq h3 fs6 g len v131 ⟨c4, l7, f10, f11, n_tx_m, n_m_tx, c12, by omega, by omega⟩ (Or.inl ⟨by unfold sp_need; omega, by omega, rfl, rfl⟩) ⟨_, k8⟩ (fun j hj => j9 j hj.1) (fun q hq => o5 q hq.1)
theorem r_end {n : Int32} (H : pt cA h m fs tx g len) (hq : ∀ (h1 : ch_H) (fs1 : List Value) (len1 v : Int32), pt cA h1 m fs1 tx g len1 → (0 ≤ n.toInt ∧ n.toInt ≤ len.toInt ∧ v.toInt = 1 ∧ len1.toInt = n.toInt ∨ (n.toInt < 0 ∨ len.toInt < n.toInt) ∧ v.toInt = 0 ∧ len1.toInt = len.toInt) → (∃ y0 : Int32, fs1[0]? = some (.int y0)) → (∀ j, j ≠ 0 ∧ j ≠ 6 → fs1[j]? = fs[j]?) → (∀ q, q ≠ m ∧ q ≠ tx → h1 q = h q) → Q (some (.int v)) h1) : ww l D tys A X fr lo mX11_end Q 0 [(0, .ref m), (1, .int n)] [] h := by
  obtain ⟨c_m, fl, fL1, fL6, n_tx_m, n_m_tx, c_x, l1, l2⟩ := H
  refine w_aload_n (List.Mem.head _) (tX11_end_0_ok (0, .aload_n 0, 1) (List.mem_of_getElem? (i := 0) rfl)) ?_
  refine w_iconst (by decide) (tX11_end_0_ok (1, .iconst 0, 1) (List.mem_of_getElem? (i := 1) rfl)) (fun v1 e2 => ?_)
  refine w_putF (own := 16) (ci := 10) (k := 0) rfl rfl (by decide) rfl ⟨rfl, rfl⟩ c_m (by rw [fl]; decide) (tX11_end_0_ok (2, .putfield 85, 3) (List.mem_of_getElem? (i := 2) rfl)) (fun h3 fs6 l7 k8 j9 c4 o5 => ?_)
  rw [fl] at l7
  have f10 := (j9 1 (by decide)).trans fL1
  have f11 := (j9 6 (by decide)).trans fL6
  have c12 := (o5 tx n_tx_m).trans c_x
  refine w_iload_n (List.Mem.tail _ (List.Mem.head _)) (tX11_end_0_ok (5, .iload_n 1, 1) (List.mem_of_getElem? (i := 3) rfl)) ?_
  refine w_if_lt (tgt := 17) (tX11_end_0_ok (6, .ifCond .lt 11, 3) (List.mem_of_getElem? (i := 4) rfl)) rfl (fun b13 => ?_) (fun b13 => ?_)
  · refine w_iconst (by decide) (tX11_end_0_ok (17, .iconst 0, 1) (List.mem_of_getElem? (i := 9) rfl)) (fun v14 e15 => ?_)
    refine w_zret rfl (by omega) (by omega) (tX11_end_0_ok (18, .ireturn, 1) (List.mem_of_getElem? (i := 10) rfl)) ?_
    exact hq h3 fs6 len v14 ⟨c4, l7, f10, f11, n_tx_m, n_m_tx, c12, by omega, by omega⟩ (Or.inr ⟨by omega, by omega, by omega⟩) ⟨_, k8⟩ (fun j hj => j9 j hj.1) (fun q hq => o5 q hq.1)
  · refine w_iload_n (List.Mem.tail _ (List.Mem.head _)) (tX11_end_0_ok (9, .iload_n 1, 1) (List.mem_of_getElem? (i := 5) rfl)) ?_
    refine w_aload_n (List.Mem.head _) (tX11_end_0_ok (10, .aload_n 0, 1) (List.mem_of_getElem? (i := 6) rfl)) ?_
    refine w_get (own := 16) rfl rfl (by decide) c4 f11 (tX11_end_0_ok (11, .getfield 99, 3) (List.mem_of_getElem? (i := 7) rfl)) ?_
    refine w_icmp_le (tgt := 19) (tX11_end_0_ok (14, .if_icmp .le 5, 3) (List.mem_of_getElem? (i := 8) rfl)) rfl (fun b16 => ?_) (fun b16 => ?_)
    · refine w_aload_n (List.Mem.head _) (tX11_end_0_ok (19, .aload_n 0, 1) (List.mem_of_getElem? (i := 11) rfl)) ?_
      refine w_iload_n (List.Mem.tail _ (List.Mem.head _)) (tX11_end_0_ok (20, .iload_n 1, 1) (List.mem_of_getElem? (i := 12) rfl)) ?_
      refine w_putF (own := 16) (ci := 10) (k := 6) rfl rfl (by decide) rfl ⟨rfl, rfl⟩ c4 (by rw [l7]; decide) (tX11_end_0_ok (21, .putfield 99, 3) (List.mem_of_getElem? (i := 13) rfl)) (fun h17 fs20 l21 k22 j23 c18 o19 => ?_)
      rw [l7] at l21
      have f24 := (j23 0 (by decide)).trans k8
      have f25 := (j23 1 (by decide)).trans f10
      have c26 := (o19 tx n_tx_m).trans c12
      refine w_iconst (by decide) (tX11_end_0_ok (24, .iconst 1, 1) (List.mem_of_getElem? (i := 14) rfl)) (fun v27 e28 => ?_)
      refine w_zret rfl (by omega) (by omega) (tX11_end_0_ok (25, .ireturn, 1) (List.mem_of_getElem? (i := 15) rfl)) ?_
      exact hq h17 fs20 n v27 ⟨c18, l21, f25, k22, n_tx_m, n_m_tx, c26, by omega, by omega⟩ (Or.inl ⟨by omega, by omega, by omega, by omega⟩) ⟨_, f24⟩ (fun j hj => (j23 j hj.2).trans (j9 j hj.1)) (fun q hq => (o19 q hq.1).trans (o5 q hq.1))
    · refine w_iconst (by decide) (tX11_end_0_ok (17, .iconst 0, 1) (List.mem_of_getElem? (i := 9) rfl)) (fun v29 e30 => ?_)
      refine w_zret rfl (by omega) (by omega) (tX11_end_0_ok (18, .ireturn, 1) (List.mem_of_getElem? (i := 10) rfl)) ?_
      exact hq h3 fs6 len v29 ⟨c4, l7, f10, f11, n_tx_m, n_m_tx, c12, by omega, by omega⟩ (Or.inr ⟨by omega, by omega, by omega⟩) ⟨_, k8⟩ (fun j hj => j9 j hj.1) (fun q hq => o5 q hq.1)
theorem s_feed (hT : k_tys tys cA) {wa wb wc wd we : Int32} (hf : 1 ≤ fr) (hl : 30 ≤ lo) {xs : List Value} (c_o : h x = some (.inr (9, xs))) (fX0 : xs[0]? = some (.ref t)) (n_x_t : x ≠ t) (n_x_b : x ≠ b) (H : tp0 cA h t b f len at0 fl0) (hq : ∀ (h1 : ch_H) (f1 : Nat → Int32) (len1 v : Int32), tp0 cA h1 t b f1 len1 at0 fl0 → (160 < len.toInt + sp_need wa wb wc wd we ∧ v.toInt = -1 ∧ f1 = f ∧ len1 = len ∨ len.toInt + sp_need wa wb wc wd we ≤ 160 ∧ v.toInt = len1.toInt ∧ f1 = (sp_feed wa wb wc wd we (f, len.toInt.toNat)).1 ∧ len1.toInt.toNat = (sp_feed wa wb wc wd we (f, len.toInt.toNat)).2) → (∀ q, q ≠ t ∧ q ≠ b → h1 q = h q) → Q (some (.int v)) h1) : ww l D tys A X fr lo mX10_feed Q 0 [(0, .ref x), (1, .int wa), (2, .int wb), (3, .int wc), (4, .int wd), (5, .int we)] [] h := by
  obtain ⟨c_t, c_b, n_b_t, l1, l2⟩ := H
  refine w_iload_n (List.Mem.tail _ (List.Mem.head _)) (tX10_feed_0_ok (0, .iload_n 1, 1) (List.mem_of_getElem? (i := 0) rfl)) ?_
  refine w_callS (own := 15) (mi := 79) [.int wa] [] [(0, .int wa)] rfl (cllw_X10 (99, 1, 79) (List.mem_of_getElem? (i := 0) rfl)) rfl rfl (by omega) (w_lo (n := 22) rfl (by omega)) (Nat.le_of_ble_eq_true rfl) (Nat.le_of_ble_eq_true rfl) rfl (tX10_feed_0_ok (1, .invokestatic 99, 3) (List.mem_of_getElem? (i := 1) rfl)) (s_told (fun v1 e2 => ?_))
  have u3 := sp_tl_b wa 4
  show ww l D tys A X fr lo mX10_feed Q 4 [(0, .ref x), (1, .int wa), (2, .int wb), (3, .int wc), (4, .int wd), (5, .int we)] [.int v1] h
  refine w_iload_n (List.Mem.tail _ (List.Mem.tail _ (List.Mem.head _))) (tX10_feed_0_ok (4, .iload_n 2, 1) (List.mem_of_getElem? (i := 2) rfl)) ?_
  refine w_callS (own := 15) (mi := 79) [.int wb] [.int v1] [(0, .int wb)] rfl (cllw_X10 (99, 1, 79) (List.mem_of_getElem? (i := 0) rfl)) rfl rfl (by omega) (w_lo (n := 22) rfl (by omega)) (Nat.le_of_ble_eq_true rfl) (Nat.le_of_ble_eq_true rfl) rfl (tX10_feed_0_ok (5, .invokestatic 99, 3) (List.mem_of_getElem? (i := 3) rfl)) (s_told (fun v4 e5 => ?_))
  have u6 := sp_tl_b wb 4
  show ww l D tys A X fr lo mX10_feed Q 8 [(0, .ref x), (1, .int wa), (2, .int wb), (3, .int wc), (4, .int wd), (5, .int we)] [.int v4, .int v1] h
  refine w_iadd (by omega) (by omega) (tX10_feed_0_ok (8, .iadd, 1) (List.mem_of_getElem? (i := 4) rfl)) (fun v7 e8 => ?_)
  refine w_iload_n (List.Mem.tail _ (List.Mem.tail _ (List.Mem.tail _ (List.Mem.head _)))) (tX10_feed_0_ok (9, .iload_n 3, 1) (List.mem_of_getElem? (i := 5) rfl)) ?_
  refine w_callS (own := 15) (mi := 79) [.int wc] [.int v7] [(0, .int wc)] rfl (cllw_X10 (99, 1, 79) (List.mem_of_getElem? (i := 0) rfl)) rfl rfl (by omega) (w_lo (n := 22) rfl (by omega)) (Nat.le_of_ble_eq_true rfl) (Nat.le_of_ble_eq_true rfl) rfl (tX10_feed_0_ok (10, .invokestatic 99, 3) (List.mem_of_getElem? (i := 6) rfl)) (s_told (fun v9 e10 => ?_))
  have u11 := sp_tl_b wc 4
  show ww l D tys A X fr lo mX10_feed Q 13 [(0, .ref x), (1, .int wa), (2, .int wb), (3, .int wc), (4, .int wd), (5, .int we)] [.int v9, .int v7] h
  refine w_iadd (by omega) (by omega) (tX10_feed_0_ok (13, .iadd, 1) (List.mem_of_getElem? (i := 7) rfl)) (fun v12 e13 => ?_)
  refine w_iload (List.Mem.tail _ (List.Mem.tail _ (List.Mem.tail _ (List.Mem.tail _ (List.Mem.head _))))) (tX10_feed_0_ok (14, .iload 4, 2) (List.mem_of_getElem? (i := 8) rfl)) ?_
  refine w_callS (own := 15) (mi := 79) [.int wd] [.int v12] [(0, .int wd)] rfl (cllw_X10 (99, 1, 79) (List.mem_of_getElem? (i := 0) rfl)) rfl rfl (by omega) (w_lo (n := 22) rfl (by omega)) (Nat.le_of_ble_eq_true rfl) (Nat.le_of_ble_eq_true rfl) rfl (tX10_feed_0_ok (16, .invokestatic 99, 3) (List.mem_of_getElem? (i := 9) rfl)) (s_told (fun v14 e15 => ?_))
  have u16 := sp_tl_b wd 4
  show ww l D tys A X fr lo mX10_feed Q 19 [(0, .ref x), (1, .int wa), (2, .int wb), (3, .int wc), (4, .int wd), (5, .int we)] [.int v14, .int v12] h
  refine w_iadd (by omega) (by omega) (tX10_feed_0_ok (19, .iadd, 1) (List.mem_of_getElem? (i := 10) rfl)) (fun v17 e18 => ?_)
  refine w_iload (List.Mem.tail _ (List.Mem.tail _ (List.Mem.tail _ (List.Mem.tail _ (List.Mem.tail _ (List.Mem.head _)))))) (tX10_feed_0_ok (20, .iload 5, 2) (List.mem_of_getElem? (i := 11) rfl)) ?_
  refine w_callS (own := 15) (mi := 79) [.int we] [.int v17] [(0, .int we)] rfl (cllw_X10 (99, 1, 79) (List.mem_of_getElem? (i := 0) rfl)) rfl rfl (by omega) (w_lo (n := 22) rfl (by omega)) (Nat.le_of_ble_eq_true rfl) (Nat.le_of_ble_eq_true rfl) rfl (tX10_feed_0_ok (22, .invokestatic 99, 3) (List.mem_of_getElem? (i := 12) rfl)) (s_told (fun v19 e20 => ?_))
  have u21 := sp_tl_b we 4
  show ww l D tys A X fr lo mX10_feed Q 25 [(0, .ref x), (1, .int wa), (2, .int wb), (3, .int wc), (4, .int wd), (5, .int we)] [.int v19, .int v17] h
  refine w_iadd (by omega) (by omega) (tX10_feed_0_ok (25, .iadd, 1) (List.mem_of_getElem? (i := 13) rfl)) (fun v22 e23 => ?_)
  refine w_istore [(6, .int v22), (0, .ref x), (1, .int wa), (2, .int wb), (3, .int wc), (4, .int wd), (5, .int we)] rfl (Nat.le_of_ble_eq_true rfl) (tX10_feed_0_ok (26, .istore 6, 2) (List.mem_of_getElem? (i := 14) rfl)) ?_
  refine w_aload_n (List.Mem.tail _ (List.Mem.head _)) (tX10_feed_0_ok (28, .aload_n 0, 1) (List.mem_of_getElem? (i := 15) rfl)) ?_
  refine w_get (own := 15) rfl rfl (by decide) c_o fX0 (tX10_feed_0_ok (29, .getfield 10, 3) (List.mem_of_getElem? (i := 16) rfl)) ?_
  refine w_get (own := 15) rfl rfl (by decide) c_t rfl (tX10_feed_0_ok (32, .getfield 103, 3) (List.mem_of_getElem? (i := 17) rfl)) ?_
  refine w_iload (List.Mem.head _) (tX10_feed_0_ok (35, .iload 6, 2) (List.mem_of_getElem? (i := 18) rfl)) ?_
  refine w_iadd (by omega) (by omega) (tX10_feed_0_ok (37, .iadd, 1) (List.mem_of_getElem? (i := 19) rfl)) (fun v24 e25 => ?_)
  refine w_sipush (by decide) (tX10_feed_0_ok (38, .sipush 160, 3) (List.mem_of_getElem? (i := 20) rfl)) (fun v26 e27 => ?_)
  refine w_icmp_le (tgt := 46) (tX10_feed_0_ok (41, .if_icmp .le 5, 3) (List.mem_of_getElem? (i := 21) rfl)) rfl (fun b28 => ?_) (fun b28 => ?_)
  · refine w_aload_n (List.Mem.tail _ (List.Mem.head _)) (tX10_feed_0_ok (46, .aload_n 0, 1) (List.mem_of_getElem? (i := 24) rfl)) ?_
    refine w_get (own := 15) rfl rfl (by decide) c_o fX0 (tX10_feed_0_ok (47, .getfield 10, 3) (List.mem_of_getElem? (i := 25) rfl)) ?_
    refine w_iload_n (List.Mem.tail _ (List.Mem.tail _ (List.Mem.head _))) (tX10_feed_0_ok (50, .iload_n 1, 1) (List.mem_of_getElem? (i := 26) rfl)) ?_
    refine w_callV (own := 15) (mi := 71) [.int wa] [] [(0, .ref t), (1, .int wa)] rfl (cllw_X10 (106, 0, 71) (List.mem_of_getElem? (i := 1) rfl)) rfl rfl c_t rfl (by omega) (w_lo (n := 23) rfl (by omega)) (Nat.le_of_ble_eq_true rfl) (Nat.le_of_ble_eq_true rfl) rfl (tX10_feed_0_ok (51, .invokevirtual 106, 3) (List.mem_of_getElem? (i := 27) rfl)) (s_add hT (by omega) ⟨c_t, c_b, n_b_t, by omega, by omega⟩ (fun h29 fa30 ln31 p32 e33 e34 o35 => ?_))
    have z36 := sp_add_len wa 4 (f, len.toInt.toNat)
    obtain ⟨c37, c38, -, a39, a40⟩ := p32
    have c41 := (o35 x ⟨n_x_t, n_x_b⟩).trans c_o
    show ww l D tys A X fr lo mX10_feed Q 54 [(6, .int v22), (0, .ref x), (1, .int wa), (2, .int wb), (3, .int wc), (4, .int wd), (5, .int we)] [] h29
    refine w_aload_n (List.Mem.tail _ (List.Mem.head _)) (tX10_feed_0_ok (54, .aload_n 0, 1) (List.mem_of_getElem? (i := 28) rfl)) ?_
    refine w_get (own := 15) rfl rfl (by decide) c41 fX0 (tX10_feed_0_ok (55, .getfield 10, 3) (List.mem_of_getElem? (i := 29) rfl)) ?_
    refine w_iload_n (List.Mem.tail _ (List.Mem.tail _ (List.Mem.tail _ (List.Mem.head _)))) (tX10_feed_0_ok (58, .iload_n 2, 1) (List.mem_of_getElem? (i := 30) rfl)) ?_
    refine w_callV (own := 15) (mi := 71) [.int wb] [] [(0, .ref t), (1, .int wb)] rfl (cllw_X10 (106, 0, 71) (List.mem_of_getElem? (i := 1) rfl)) rfl rfl c37 rfl (by omega) (w_lo (n := 23) rfl (by omega)) (Nat.le_of_ble_eq_true rfl) (Nat.le_of_ble_eq_true rfl) rfl (tX10_feed_0_ok (59, .invokevirtual 106, 3) (List.mem_of_getElem? (i := 31) rfl)) (s_add hT (by omega) ⟨c37, c38, n_b_t, by omega, by omega⟩ (fun h42 fa43 ln44 p45 e46 e47 o48 => ?_))
    have z49 := sp_add_len wb 4 (sp_add wa 4 (f, len.toInt.toNat))
    rw [show (fa30, ln31.toInt.toNat) = (sp_add wa 4 (f, len.toInt.toNat)) from Prod.ext e33 e34] at e46 e47
    obtain ⟨c50, c51, -, a52, a53⟩ := p45
    have c54 := (o48 x ⟨n_x_t, n_x_b⟩).trans c41
    show ww l D tys A X fr lo mX10_feed Q 62 [(6, .int v22), (0, .ref x), (1, .int wa), (2, .int wb), (3, .int wc), (4, .int wd), (5, .int we)] [] h42
    refine w_aload_n (List.Mem.tail _ (List.Mem.head _)) (tX10_feed_0_ok (62, .aload_n 0, 1) (List.mem_of_getElem? (i := 32) rfl)) ?_
    refine w_get (own := 15) rfl rfl (by decide) c54 fX0 (tX10_feed_0_ok (63, .getfield 10, 3) (List.mem_of_getElem? (i := 33) rfl)) ?_
    refine w_iload_n (List.Mem.tail _ (List.Mem.tail _ (List.Mem.tail _ (List.Mem.tail _ (List.Mem.head _))))) (tX10_feed_0_ok (66, .iload_n 3, 1) (List.mem_of_getElem? (i := 34) rfl)) ?_
    refine w_callV (own := 15) (mi := 71) [.int wc] [] [(0, .ref t), (1, .int wc)] rfl (cllw_X10 (106, 0, 71) (List.mem_of_getElem? (i := 1) rfl)) rfl rfl c50 rfl (by omega) (w_lo (n := 23) rfl (by omega)) (Nat.le_of_ble_eq_true rfl) (Nat.le_of_ble_eq_true rfl) rfl (tX10_feed_0_ok (67, .invokevirtual 106, 3) (List.mem_of_getElem? (i := 35) rfl)) (s_add hT (by omega) ⟨c50, c51, n_b_t, by omega, by omega⟩ (fun h55 fa56 ln57 p58 e59 e60 o61 => ?_))
    have z62 := sp_add_len wc 4 (sp_add wb 4 (sp_add wa 4 (f, len.toInt.toNat)))
    rw [show (fa43, ln44.toInt.toNat) = (sp_add wb 4 (sp_add wa 4 (f, len.toInt.toNat))) from Prod.ext e46 e47] at e59 e60
    obtain ⟨c63, c64, -, a65, a66⟩ := p58
    have c67 := (o61 x ⟨n_x_t, n_x_b⟩).trans c54
    show ww l D tys A X fr lo mX10_feed Q 70 [(6, .int v22), (0, .ref x), (1, .int wa), (2, .int wb), (3, .int wc), (4, .int wd), (5, .int we)] [] h55
    refine w_aload_n (List.Mem.tail _ (List.Mem.head _)) (tX10_feed_0_ok (70, .aload_n 0, 1) (List.mem_of_getElem? (i := 36) rfl)) ?_
    refine w_get (own := 15) rfl rfl (by decide) c67 fX0 (tX10_feed_0_ok (71, .getfield 10, 3) (List.mem_of_getElem? (i := 37) rfl)) ?_
    refine w_iload (List.Mem.tail _ (List.Mem.tail _ (List.Mem.tail _ (List.Mem.tail _ (List.Mem.tail _ (List.Mem.head _)))))) (tX10_feed_0_ok (74, .iload 4, 2) (List.mem_of_getElem? (i := 38) rfl)) ?_
    refine w_callV (own := 15) (mi := 71) [.int wd] [] [(0, .ref t), (1, .int wd)] rfl (cllw_X10 (106, 0, 71) (List.mem_of_getElem? (i := 1) rfl)) rfl rfl c63 rfl (by omega) (w_lo (n := 23) rfl (by omega)) (Nat.le_of_ble_eq_true rfl) (Nat.le_of_ble_eq_true rfl) rfl (tX10_feed_0_ok (76, .invokevirtual 106, 3) (List.mem_of_getElem? (i := 39) rfl)) (s_add hT (by omega) ⟨c63, c64, n_b_t, by omega, by omega⟩ (fun h68 fa69 ln70 p71 e72 e73 o74 => ?_))
    have z75 := sp_add_len wd 4 (sp_add wc 4 (sp_add wb 4 (sp_add wa 4 (f, len.toInt.toNat))))
    rw [show (fa56, ln57.toInt.toNat) = (sp_add wc 4 (sp_add wb 4 (sp_add wa 4 (f, len.toInt.toNat)))) from Prod.ext e59 e60] at e72 e73
    obtain ⟨c76, c77, -, a78, a79⟩ := p71
    have c80 := (o74 x ⟨n_x_t, n_x_b⟩).trans c67
    show ww l D tys A X fr lo mX10_feed Q 79 [(6, .int v22), (0, .ref x), (1, .int wa), (2, .int wb), (3, .int wc), (4, .int wd), (5, .int we)] [] h68
    refine w_aload_n (List.Mem.tail _ (List.Mem.head _)) (tX10_feed_0_ok (79, .aload_n 0, 1) (List.mem_of_getElem? (i := 40) rfl)) ?_
    refine w_get (own := 15) rfl rfl (by decide) c80 fX0 (tX10_feed_0_ok (80, .getfield 10, 3) (List.mem_of_getElem? (i := 41) rfl)) ?_
    refine w_iload (List.Mem.tail _ (List.Mem.tail _ (List.Mem.tail _ (List.Mem.tail _ (List.Mem.tail _ (List.Mem.tail _ (List.Mem.head _))))))) (tX10_feed_0_ok (83, .iload 5, 2) (List.mem_of_getElem? (i := 42) rfl)) ?_
    refine w_callV (own := 15) (mi := 71) [.int we] [] [(0, .ref t), (1, .int we)] rfl (cllw_X10 (106, 0, 71) (List.mem_of_getElem? (i := 1) rfl)) rfl rfl c76 rfl (by omega) (w_lo (n := 23) rfl (by omega)) (Nat.le_of_ble_eq_true rfl) (Nat.le_of_ble_eq_true rfl) rfl (tX10_feed_0_ok (85, .invokevirtual 106, 3) (List.mem_of_getElem? (i := 43) rfl)) (s_add hT (by omega) ⟨c76, c77, n_b_t, by omega, by omega⟩ (fun h81 fa82 ln83 p84 e85 e86 o87 => ?_))
    have z88 := sp_add_len we 4 (sp_add wd 4 (sp_add wc 4 (sp_add wb 4 (sp_add wa 4 (f, len.toInt.toNat)))))
    rw [show (fa69, ln70.toInt.toNat) = (sp_add wd 4 (sp_add wc 4 (sp_add wb 4 (sp_add wa 4 (f, len.toInt.toNat))))) from Prod.ext e72 e73] at e85 e86
    obtain ⟨c89, c90, -, a91, a92⟩ := p84
    have c93 := (o87 x ⟨n_x_t, n_x_b⟩).trans c80
    show ww l D tys A X fr lo mX10_feed Q 88 [(6, .int v22), (0, .ref x), (1, .int wa), (2, .int wb), (3, .int wc), (4, .int wd), (5, .int we)] [] h81
    refine w_aload_n (List.Mem.tail _ (List.Mem.head _)) (tX10_feed_0_ok (88, .aload_n 0, 1) (List.mem_of_getElem? (i := 44) rfl)) ?_
    refine w_get (own := 15) rfl rfl (by decide) c93 fX0 (tX10_feed_0_ok (89, .getfield 10, 3) (List.mem_of_getElem? (i := 45) rfl)) ?_
    refine w_get (own := 15) rfl rfl (by decide) c89 rfl (tX10_feed_0_ok (92, .getfield 103, 3) (List.mem_of_getElem? (i := 46) rfl)) ?_
    refine w_iret rfl (tX10_feed_0_ok (95, .ireturn, 1) (List.mem_of_getElem? (i := 47) rfl)) ?_
    exact hq h81 fa82 ln83 ln83 ⟨c89, c90, n_b_t, by omega, by omega⟩ (Or.inr ⟨by unfold sp_need; omega, by omega, e85, e86⟩) (fun q hq => (o87 q ⟨hq.1, hq.2⟩).trans ((o74 q ⟨hq.1, hq.2⟩).trans ((o61 q ⟨hq.1, hq.2⟩).trans ((o48 q ⟨hq.1, hq.2⟩).trans (o35 q ⟨hq.1, hq.2⟩)))))
  · refine w_iconst (by decide) (tX10_feed_0_ok (44, .iconst (-1), 1) (List.mem_of_getElem? (i := 22) rfl)) (fun v94 e95 => ?_)
    refine w_iret rfl (tX10_feed_0_ok (45, .ireturn, 1) (List.mem_of_getElem? (i := 23) rfl)) ?_
    exact hq h f len v94 ⟨c_t, c_b, n_b_t, by omega, by omega⟩ (Or.inl ⟨by unfold sp_need; omega, by omega, rfl, rfl⟩) (fun q hq => rfl)
theorem s_end {n : Int32} {xs : List Value} (c_o : h x = some (.inr (9, xs))) (fX0 : xs[0]? = some (.ref t)) (n_x_t : x ≠ t) (n_x_b : x ≠ b) (H : tp0 cA h t b f len at0 fl0) (hq : ∀ (h1 : ch_H) (len1 v : Int32), tp0 cA h1 t b f len1 at0 fl0 → (0 ≤ n.toInt ∧ n.toInt ≤ len.toInt ∧ v.toInt = 1 ∧ len1.toInt = n.toInt ∨ (n.toInt < 0 ∨ len.toInt < n.toInt) ∧ v.toInt = 0 ∧ len1.toInt = len.toInt) → (∀ q, q ≠ t ∧ q ≠ b → h1 q = h q) → Q (some (.int v)) h1) : ww l D tys A X fr lo mX10_end Q 0 [(0, .ref x), (1, .int n)] [] h := by
  obtain ⟨c_t, c_b, n_b_t, l1, l2⟩ := H
  refine w_iload_n (List.Mem.tail _ (List.Mem.head _)) (tX10_end_0_ok (0, .iload_n 1, 1) (List.mem_of_getElem? (i := 0) rfl)) ?_
  refine w_if_lt (tgt := 15) (tX10_end_0_ok (1, .ifCond .lt 14, 3) (List.mem_of_getElem? (i := 1) rfl)) rfl (fun b1 => ?_) (fun b1 => ?_)
  · refine w_iconst (by decide) (tX10_end_0_ok (15, .iconst 0, 1) (List.mem_of_getElem? (i := 7) rfl)) (fun v2 e3 => ?_)
    refine w_zret rfl (by omega) (by omega) (tX10_end_0_ok (16, .ireturn, 1) (List.mem_of_getElem? (i := 8) rfl)) ?_
    exact hq h len v2 ⟨c_t, c_b, n_b_t, by omega, by omega⟩ (Or.inr ⟨by omega, by omega, by omega⟩) (fun q hq => rfl)
  · refine w_iload_n (List.Mem.tail _ (List.Mem.head _)) (tX10_end_0_ok (4, .iload_n 1, 1) (List.mem_of_getElem? (i := 2) rfl)) ?_
    refine w_aload_n (List.Mem.head _) (tX10_end_0_ok (5, .aload_n 0, 1) (List.mem_of_getElem? (i := 3) rfl)) ?_
    refine w_get (own := 15) rfl rfl (by decide) c_o fX0 (tX10_end_0_ok (6, .getfield 10, 3) (List.mem_of_getElem? (i := 4) rfl)) ?_
    refine w_get (own := 15) rfl rfl (by decide) c_t rfl (tX10_end_0_ok (9, .getfield 103, 3) (List.mem_of_getElem? (i := 5) rfl)) ?_
    refine w_icmp_le (tgt := 17) (tX10_end_0_ok (12, .if_icmp .le 5, 3) (List.mem_of_getElem? (i := 6) rfl)) rfl (fun b4 => ?_) (fun b4 => ?_)
    · refine w_aload_n (List.Mem.head _) (tX10_end_0_ok (17, .aload_n 0, 1) (List.mem_of_getElem? (i := 9) rfl)) ?_
      refine w_get (own := 15) rfl rfl (by decide) c_o fX0 (tX10_end_0_ok (18, .getfield 10, 3) (List.mem_of_getElem? (i := 10) rfl)) ?_
      refine w_iload_n (List.Mem.tail _ (List.Mem.head _)) (tX10_end_0_ok (21, .iload_n 1, 1) (List.mem_of_getElem? (i := 11) rfl)) ?_
      refine w_put (own := 15) [.ref b, .int n, .int at0, .int fl0] rfl rfl rfl (by decide) rfl ⟨rfl, rfl⟩ c_t (Nat.le_of_ble_eq_true rfl) (tX10_end_0_ok (22, .putfield 103, 3) (List.mem_of_getElem? (i := 12) rfl)) (fun h5 c6 o7 => ?_)
      have c8 := (o7 x n_x_t).trans c_o
      have c9 := (o7 b n_b_t).trans c_b
      refine w_iconst (by decide) (tX10_end_0_ok (25, .iconst 1, 1) (List.mem_of_getElem? (i := 13) rfl)) (fun v10 e11 => ?_)
      refine w_zret rfl (by omega) (by omega) (tX10_end_0_ok (26, .ireturn, 1) (List.mem_of_getElem? (i := 14) rfl)) ?_
      exact hq h5 n v10 ⟨c6, c9, n_b_t, by omega, by omega⟩ (Or.inl ⟨by omega, by omega, by omega, by omega⟩) (fun q hq => o7 q hq.1)
    · refine w_iconst (by decide) (tX10_end_0_ok (15, .iconst 0, 1) (List.mem_of_getElem? (i := 7) rfl)) (fun v12 e13 => ?_)
      refine w_zret rfl (by omega) (by omega) (tX10_end_0_ok (16, .ireturn, 1) (List.mem_of_getElem? (i := 8) rfl)) ?_
      exact hq h len v12 ⟨c_t, c_b, n_b_t, by omega, by omega⟩ (Or.inr ⟨by omega, by omega, by omega⟩) (fun q hq => rfl)
end
