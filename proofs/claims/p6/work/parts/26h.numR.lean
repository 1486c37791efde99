/-! the same of the reference -/
section
variable {l : Launch} {D : va_G} {tys : List (ClassId × FieldType)} {A : Nat → Prop} {X : State → Prop} {fr lo : Nat} {Q : Option Value → ch_H → Prop} {cA : Nat → ClassId} {Sg : Nat → Option Nat} {h : ch_H} {x m : Nat} {τ : aN}
theorem q_isRope {fs : List Value} {n k : Int32} (c_m : h m = some (.inr (10, fs))) (f20 : fs[20]? = some (.int n)) (hq : ∀ v : Int32, (v.toInt = 1 ∧ 0 ≤ k.toInt ∧ k.toInt < n.toInt ∨ v.toInt = 0 ∧ (k.toInt < 0 ∨ n.toInt ≤ k.toInt)) → Q (some (.int v)) h) : ww l D tys A X fr lo mX11_isRope Q 0 [(0, .ref m), (1, .int k)] [] h := by
  refine w_iload_n (List.Mem.tail _ (List.Mem.head _)) (tX11_isRope_0_ok (0, .iload_n 1, 1) (List.mem_of_getElem? (i := 0) rfl)) ?_
  refine w_if_lt (tgt := 16) (tX11_isRope_0_ok (1, .ifCond .lt 15, 3) (List.mem_of_getElem? (i := 1) rfl)) rfl (fun b1 => ?_) (fun b1 => ?_)
  · refine w_iconst (by decide) (tX11_isRope_0_ok (16, .iconst 0, 1) (List.mem_of_getElem? (i := 8) rfl)) (fun v2 e3 => ?_)
    refine w_zret rfl (by omega) (by omega) (tX11_isRope_0_ok (17, .ireturn, 1) (List.mem_of_getElem? (i := 9) rfl)) ?_
    exact hq _ (by omega)
  · refine w_iload_n (List.Mem.tail _ (List.Mem.head _)) (tX11_isRope_0_ok (4, .iload_n 1, 1) (List.mem_of_getElem? (i := 2) rfl)) ?_
    refine w_aload_n (List.Mem.head _) (tX11_isRope_0_ok (5, .aload_n 0, 1) (List.mem_of_getElem? (i := 3) rfl)) ?_
    refine w_get (own := 16) rfl rfl (by decide) c_m f20 (tX11_isRope_0_ok (6, .getfield 248, 3) (List.mem_of_getElem? (i := 4) rfl)) ?_
    refine w_icmp_ge (tgt := 16) (tX11_isRope_0_ok (9, .if_icmp .ge 7, 3) (List.mem_of_getElem? (i := 5) rfl)) rfl (fun b4 => ?_) (fun b4 => ?_)
    · refine w_iconst (by decide) (tX11_isRope_0_ok (16, .iconst 0, 1) (List.mem_of_getElem? (i := 8) rfl)) (fun v5 e6 => ?_)
      refine w_zret rfl (by omega) (by omega) (tX11_isRope_0_ok (17, .ireturn, 1) (List.mem_of_getElem? (i := 9) rfl)) ?_
      exact hq _ (by omega)
    · refine w_iconst (by decide) (tX11_isRope_0_ok (12, .iconst 1, 1) (List.mem_of_getElem? (i := 6) rfl)) (fun v7 e8 => ?_)
      refine w_goto (tgt := 17) (tX11_isRope_0_ok (13, .goto 4, 3) (List.mem_of_getElem? (i := 7) rfl)) rfl ?_
      refine w_zret rfl (by omega) (by omega) (tX11_isRope_0_ok (17, .ireturn, 1) (List.mem_of_getElem? (i := 9) rfl)) ?_
      exact hq _ (by omega)
theorem q_isRoom {fs : List Value} {n k : Int32} (c_m : h m = some (.inr (10, fs))) (f20 : fs[20]? = some (.int n)) (bn : 0 ≤ n.toInt ∧ n.toInt ≤ 6) (hq : ∀ v : Int32, (v.toInt = 1 ∧ 0 ≤ k.toInt ∧ k.toInt < 2 * n.toInt ∨ v.toInt = 0 ∧ (k.toInt < 0 ∨ 2 * n.toInt ≤ k.toInt)) → Q (some (.int v)) h) : ww l D tys A X fr lo mX11_isRoom Q 0 [(0, .ref m), (1, .int k)] [] h := by
  refine w_iload_n (List.Mem.tail _ (List.Mem.head _)) (tX11_isRoom_0_ok (0, .iload_n 1, 1) (List.mem_of_getElem? (i := 0) rfl)) ?_
  refine w_if_lt (tgt := 18) (tX11_isRoom_0_ok (1, .ifCond .lt 17, 3) (List.mem_of_getElem? (i := 1) rfl)) rfl (fun b1 => ?_) (fun b1 => ?_)
  · refine w_iconst (by decide) (tX11_isRoom_0_ok (18, .iconst 0, 1) (List.mem_of_getElem? (i := 10) rfl)) (fun v2 e3 => ?_)
    refine w_zret rfl (by omega) (by omega) (tX11_isRoom_0_ok (19, .ireturn, 1) (List.mem_of_getElem? (i := 11) rfl)) ?_
    exact hq _ (by omega)
  · refine w_iload_n (List.Mem.tail _ (List.Mem.head _)) (tX11_isRoom_0_ok (4, .iload_n 1, 1) (List.mem_of_getElem? (i := 2) rfl)) ?_
    refine w_iconst (by decide) (tX11_isRoom_0_ok (5, .iconst 2, 1) (List.mem_of_getElem? (i := 3) rfl)) (fun v4 e5 => ?_)
    refine w_aload_n (List.Mem.head _) (tX11_isRoom_0_ok (6, .aload_n 0, 1) (List.mem_of_getElem? (i := 4) rfl)) ?_
    refine w_get (own := 16) rfl rfl (by decide) c_m f20 (tX11_isRoom_0_ok (7, .getfield 248, 3) (List.mem_of_getElem? (i := 5) rfl)) ?_
    refine w_imul (by assumption) (by omega) (by omega) (tX11_isRoom_0_ok (10, .imul, 1) (List.mem_of_getElem? (i := 6) rfl)) (fun v6 e7 => ?_)
    refine w_icmp_ge (tgt := 18) (tX11_isRoom_0_ok (11, .if_icmp .ge 7, 3) (List.mem_of_getElem? (i := 7) rfl)) rfl (fun b8 => ?_) (fun b8 => ?_)
    · refine w_iconst (by decide) (tX11_isRoom_0_ok (18, .iconst 0, 1) (List.mem_of_getElem? (i := 10) rfl)) (fun v9 e10 => ?_)
      refine w_zret rfl (by omega) (by omega) (tX11_isRoom_0_ok (19, .ireturn, 1) (List.mem_of_getElem? (i := 11) rfl)) ?_
      exact hq _ (by omega)
    · refine w_iconst (by decide) (tX11_isRoom_0_ok (14, .iconst 1, 1) (List.mem_of_getElem? (i := 8) rfl)) (fun v11 e12 => ?_)
      refine w_goto (tgt := 19) (tX11_isRoom_0_ok (15, .goto 4, 3) (List.mem_of_getElem? (i := 9) rfl)) rfl ?_
      refine w_zret rfl (by omega) (by omega) (tX11_isRoom_0_ok (19, .ireturn, 1) (List.mem_of_getElem? (i := 11) rfl)) ?_
      exact hq _ (by omega)
theorem q_isPlace {fs : List Value} {n ga k : Int32} (hf : 1 ≤ fr) (hl : 21 ≤ lo) (c_m : h m = some (.inr (10, fs))) (f20 : fs[20]? = some (.int n)) (bn : 0 ≤ n.toInt ∧ n.toInt ≤ 6) (f32 : fs[32]? = some (.int ga)) (bg : 0 ≤ ga.toInt ∧ ga.toInt ≤ 6) (hq : ∀ v : Int32, (v.toInt = 1 ∧ (0 ≤ k.toInt ∧ k.toInt < 2 * n.toInt ∨ 12 ≤ k.toInt ∧ k.toInt < 12 + ga.toInt) ∨ v.toInt = 0 ∧ (k.toInt < 0 ∨ 2 * n.toInt ≤ k.toInt) ∧ (k.toInt < 12 ∨ 12 + ga.toInt ≤ k.toInt)) → Q (some (.int v)) h) : ww l D tys A X fr lo mX11_isPlace Q 0 [(0, .ref m), (1, .int k)] [] h := by
  refine w_aload_n (List.Mem.head _) (tX11_isPlace_0_ok (0, .aload_n 0, 1) (List.mem_of_getElem? (i := 0) rfl)) ?_
  refine w_iload_n (List.Mem.tail _ (List.Mem.head _)) (tX11_isPlace_0_ok (1, .iload_n 1, 1) (List.mem_of_getElem? (i := 1) rfl)) ?_
  refine w_callV (own := 16) (mi := 203) [.int k] [] [(0, .ref m), (1, .int k)] rfl (cllw_X11 (274, 0, 203) (List.mem_of_getElem? (i := 38) rfl)) rfl rfl c_m rfl (by omega) (w_lo (n := 21) rfl (by omega)) (Nat.le_of_ble_eq_true rfl) (Nat.le_of_ble_eq_true rfl) rfl (tX11_isPlace_0_ok (2, .invokevirtual 274, 3) (List.mem_of_getElem? (i := 2) rfl)) (q_isRoom c_m f20 bn (fun v1 e2 => ?_))
  show ww l D tys A X fr lo mX11_isPlace Q 5 [(0, .ref m), (1, .int k)] [.int v1] h
  refine w_if_ne (tgt := 25) (tX11_isPlace_0_ok (5, .ifCond .ne 20, 3) (List.mem_of_getElem? (i := 3) rfl)) rfl (fun b3 => ?_) (fun b3 => ?_)
  · refine w_iconst (by decide) (tX11_isPlace_0_ok (25, .iconst 1, 1) (List.mem_of_getElem? (i := 13) rfl)) (fun v4 e5 => ?_)
    refine w_goto (tgt := 30) (tX11_isPlace_0_ok (26, .goto 4, 3) (List.mem_of_getElem? (i := 14) rfl)) rfl ?_
    refine w_zret rfl (by omega) (by omega) (tX11_isPlace_0_ok (30, .ireturn, 1) (List.mem_of_getElem? (i := 16) rfl)) ?_
    exact hq _ (by omega)
  · refine w_iload_n (List.Mem.tail _ (List.Mem.head _)) (tX11_isPlace_0_ok (8, .iload_n 1, 1) (List.mem_of_getElem? (i := 4) rfl)) ?_
    refine w_bipush (by decide) (tX11_isPlace_0_ok (9, .bipush 12, 2) (List.mem_of_getElem? (i := 5) rfl)) (fun v6 e7 => ?_)
    refine w_icmp_lt (tgt := 29) (tX11_isPlace_0_ok (11, .if_icmp .lt 18, 3) (List.mem_of_getElem? (i := 6) rfl)) rfl (fun b8 => ?_) (fun b8 => ?_)
    · refine w_iconst (by decide) (tX11_isPlace_0_ok (29, .iconst 0, 1) (List.mem_of_getElem? (i := 15) rfl)) (fun v9 e10 => ?_)
      refine w_zret rfl (by omega) (by omega) (tX11_isPlace_0_ok (30, .ireturn, 1) (List.mem_of_getElem? (i := 16) rfl)) ?_
      exact hq _ (by omega)
    · refine w_iload_n (List.Mem.tail _ (List.Mem.head _)) (tX11_isPlace_0_ok (14, .iload_n 1, 1) (List.mem_of_getElem? (i := 7) rfl)) ?_
      refine w_bipush (by decide) (tX11_isPlace_0_ok (15, .bipush 12, 2) (List.mem_of_getElem? (i := 8) rfl)) (fun v11 e12 => ?_)
      refine w_aload_n (List.Mem.head _) (tX11_isPlace_0_ok (17, .aload_n 0, 1) (List.mem_of_getElem? (i := 9) rfl)) ?_
      refine w_get (own := 16) rfl rfl (by decide) c_m f32 (tX11_isPlace_0_ok (18, .getfield 258, 3) (List.mem_of_getElem? (i := 10) rfl)) ?_
      refine w_iadd (by omega) (by omega) (tX11_isPlace_0_ok (21, .iadd, 1) (List.mem_of_getElem? (i := 11) rfl)) (fun v13 e14 => ?_)
      refine w_icmp_ge (tgt := 29) (tX11_isPlace_0_ok (22, .if_icmp .ge 7, 3) (List.mem_of_getElem? (i := 12) rfl)) rfl (fun b15 => ?_) (fun b15 => ?_)
      · refine w_iconst (by decide) (tX11_isPlace_0_ok (29, .iconst 0, 1) (List.mem_of_getElem? (i := 15) rfl)) (fun v16 e17 => ?_)
        refine w_zret rfl (by omega) (by omega) (tX11_isPlace_0_ok (30, .ireturn, 1) (List.mem_of_getElem? (i := 16) rfl)) ?_
        exact hq _ (by omega)
      · refine w_iconst (by decide) (tX11_isPlace_0_ok (25, .iconst 1, 1) (List.mem_of_getElem? (i := 13) rfl)) (fun v18 e19 => ?_)
        refine w_goto (tgt := 30) (tX11_isPlace_0_ok (26, .goto 4, 3) (List.mem_of_getElem? (i := 14) rfl)) rfl ?_
        refine w_zret rfl (by omega) (by omega) (tX11_isPlace_0_ok (30, .ireturn, 1) (List.mem_of_getElem? (i := 16) rfl)) ?_
        exact hq _ (by omega)
theorem q_isPerson {fs : List Value} {pe k : Int32} (c_m : h m = some (.inr (10, fs))) (f33 : fs[33]? = some (.int pe)) (hq : ∀ v : Int32, (v.toInt = 1 ∧ 0 ≤ k.toInt ∧ k.toInt < pe.toInt ∨ v.toInt = 0 ∧ (k.toInt < 0 ∨ pe.toInt ≤ k.toInt)) → Q (some (.int v)) h) : ww l D tys A X fr lo mX11_isPerson Q 0 [(0, .ref m), (1, .int k)] [] h := by
  refine w_iload_n (List.Mem.tail _ (List.Mem.head _)) (tX11_isPerson_0_ok (0, .iload_n 1, 1) (List.mem_of_getElem? (i := 0) rfl)) ?_
  refine w_if_lt (tgt := 16) (tX11_isPerson_0_ok (1, .ifCond .lt 15, 3) (List.mem_of_getElem? (i := 1) rfl)) rfl (fun b1 => ?_) (fun b1 => ?_)
  · refine w_iconst (by decide) (tX11_isPerson_0_ok (16, .iconst 0, 1) (List.mem_of_getElem? (i := 8) rfl)) (fun v2 e3 => ?_)
    refine w_zret rfl (by omega) (by omega) (tX11_isPerson_0_ok (17, .ireturn, 1) (List.mem_of_getElem? (i := 9) rfl)) ?_
    exact hq _ (by omega)
  · refine w_iload_n (List.Mem.tail _ (List.Mem.head _)) (tX11_isPerson_0_ok (4, .iload_n 1, 1) (List.mem_of_getElem? (i := 2) rfl)) ?_
    refine w_aload_n (List.Mem.head _) (tX11_isPerson_0_ok (5, .aload_n 0, 1) (List.mem_of_getElem? (i := 3) rfl)) ?_
    refine w_get (own := 16) rfl rfl (by decide) c_m f33 (tX11_isPerson_0_ok (6, .getfield 261, 3) (List.mem_of_getElem? (i := 4) rfl)) ?_
    refine w_icmp_ge (tgt := 16) (tX11_isPerson_0_ok (9, .if_icmp .ge 7, 3) (List.mem_of_getElem? (i := 5) rfl)) rfl (fun b4 => ?_) (fun b4 => ?_)
    · refine w_iconst (by decide) (tX11_isPerson_0_ok (16, .iconst 0, 1) (List.mem_of_getElem? (i := 8) rfl)) (fun v5 e6 => ?_)
      refine w_zret rfl (by omega) (by omega) (tX11_isPerson_0_ok (17, .ireturn, 1) (List.mem_of_getElem? (i := 9) rfl)) ?_
      exact hq _ (by omega)
    · refine w_iconst (by decide) (tX11_isPerson_0_ok (12, .iconst 1, 1) (List.mem_of_getElem? (i := 6) rfl)) (fun v7 e8 => ?_)
      refine w_goto (tgt := 17) (tX11_isPerson_0_ok (13, .goto 4, 3) (List.mem_of_getElem? (i := 7) rfl)) rfl ?_
      refine w_zret rfl (by omega) (by omega) (tX11_isPerson_0_ok (17, .ireturn, 1) (List.mem_of_getElem? (i := 9) rfl)) ?_
      exact hq _ (by omega)
theorem q_areTwo {fs : List Value} {n ga p y : Int32} (hf : 2 ≤ fr) (hl : 42 ≤ lo) (c_m : h m = some (.inr (10, fs))) (f20 : fs[20]? = some (.int n)) (bn : 0 ≤ n.toInt ∧ n.toInt ≤ 6) (f32 : fs[32]? = some (.int ga)) (bg : 0 ≤ ga.toInt ∧ ga.toInt ≤ 6) (hq : ∀ v : Int32, (v.toInt = 1 ∧ (0 ≤ p.toInt ∧ p.toInt < 2 * n.toInt ∨ 12 ≤ p.toInt ∧ p.toInt < 12 + ga.toInt) ∧ (0 ≤ y.toInt ∧ y.toInt < 2 * n.toInt ∨ 12 ≤ y.toInt ∧ y.toInt < 12 + ga.toInt) ∧ ¬ p.toInt = y.toInt ∨ v.toInt = 0 ∧ ¬ ((0 ≤ p.toInt ∧ p.toInt < 2 * n.toInt ∨ 12 ≤ p.toInt ∧ p.toInt < 12 + ga.toInt) ∧ (0 ≤ y.toInt ∧ y.toInt < 2 * n.toInt ∨ 12 ≤ y.toInt ∧ y.toInt < 12 + ga.toInt) ∧ ¬ p.toInt = y.toInt)) → Q (some (.int v)) h) : ww l D tys A X fr lo mX11_areTwo Q 0 [(0, .ref m), (1, .int p), (2, .int y)] [] h := by
  refine w_aload_n (List.Mem.head _) (tX11_areTwo_0_ok (0, .aload_n 0, 1) (List.mem_of_getElem? (i := 0) rfl)) ?_
  refine w_iload_n (List.Mem.tail _ (List.Mem.head _)) (tX11_areTwo_0_ok (1, .iload_n 1, 1) (List.mem_of_getElem? (i := 1) rfl)) ?_
  refine w_callV (own := 16) (mi := 202) [.int p] [] [(0, .ref m), (1, .int p)] rfl (cllw_X11 (317, 0, 202) (List.mem_of_getElem? (i := 47) rfl)) rfl rfl c_m rfl (by omega) (w_lo (n := 21) rfl (by omega)) (Nat.le_of_ble_eq_true rfl) (Nat.le_of_ble_eq_true rfl) rfl (tX11_areTwo_0_ok (2, .invokevirtual 317, 3) (List.mem_of_getElem? (i := 2) rfl)) (q_isPlace (by omega) (w_sub (n := 21) rfl (by omega)) c_m f20 bn f32 bg (fun v1 e2 => ?_))
  show ww l D tys A X fr lo mX11_areTwo Q 5 [(0, .ref m), (1, .int p), (2, .int y)] [.int v1] h
  refine w_if_eq (tgt := 25) (tX11_areTwo_0_ok (5, .ifCond .eq 20, 3) (List.mem_of_getElem? (i := 3) rfl)) rfl (fun b3 => ?_) (fun b3 => ?_)
  · refine w_iconst (by decide) (tX11_areTwo_0_ok (25, .iconst 0, 1) (List.mem_of_getElem? (i := 13) rfl)) (fun v4 e5 => ?_)
    refine w_zret rfl (by omega) (by omega) (tX11_areTwo_0_ok (26, .ireturn, 1) (List.mem_of_getElem? (i := 14) rfl)) ?_
    exact hq _ (by omega)
  · refine w_aload_n (List.Mem.head _) (tX11_areTwo_0_ok (8, .aload_n 0, 1) (List.mem_of_getElem? (i := 4) rfl)) ?_
    refine w_iload_n (List.Mem.tail _ (List.Mem.tail _ (List.Mem.head _))) (tX11_areTwo_0_ok (9, .iload_n 2, 1) (List.mem_of_getElem? (i := 5) rfl)) ?_
    refine w_callV (own := 16) (mi := 202) [.int y] [] [(0, .ref m), (1, .int y)] rfl (cllw_X11 (317, 0, 202) (List.mem_of_getElem? (i := 47) rfl)) rfl rfl c_m rfl (by omega) (w_lo (n := 21) rfl (by omega)) (Nat.le_of_ble_eq_true rfl) (Nat.le_of_ble_eq_true rfl) rfl (tX11_areTwo_0_ok (10, .invokevirtual 317, 3) (List.mem_of_getElem? (i := 6) rfl)) (q_isPlace (by omega) (w_sub (n := 21) rfl (by omega)) c_m f20 bn f32 bg (fun v6 e7 => ?_))
    show ww l D tys A X fr lo mX11_areTwo Q 13 [(0, .ref m), (1, .int p), (2, .int y)] [.int v6] h
    refine w_if_eq (tgt := 25) (tX11_areTwo_0_ok (13, .ifCond .eq 12, 3) (List.mem_of_getElem? (i := 7) rfl)) rfl (fun b8 => ?_) (fun b8 => ?_)
    · refine w_iconst (by decide) (tX11_areTwo_0_ok (25, .iconst 0, 1) (List.mem_of_getElem? (i := 13) rfl)) (fun v9 e10 => ?_)
      refine w_zret rfl (by omega) (by omega) (tX11_areTwo_0_ok (26, .ireturn, 1) (List.mem_of_getElem? (i := 14) rfl)) ?_
      exact hq _ (by omega)
    · refine w_iload_n (List.Mem.tail _ (List.Mem.head _)) (tX11_areTwo_0_ok (16, .iload_n 1, 1) (List.mem_of_getElem? (i := 8) rfl)) ?_
      refine w_iload_n (List.Mem.tail _ (List.Mem.tail _ (List.Mem.head _))) (tX11_areTwo_0_ok (17, .iload_n 2, 1) (List.mem_of_getElem? (i := 9) rfl)) ?_
      refine w_icmp_eq (tgt := 25) (tX11_areTwo_0_ok (18, .if_icmp .eq 7, 3) (List.mem_of_getElem? (i := 10) rfl)) rfl (fun b11 => ?_) (fun b11 => ?_)
      · refine w_iconst (by decide) (tX11_areTwo_0_ok (25, .iconst 0, 1) (List.mem_of_getElem? (i := 13) rfl)) (fun v12 e13 => ?_)
        refine w_zret rfl (by omega) (by omega) (tX11_areTwo_0_ok (26, .ireturn, 1) (List.mem_of_getElem? (i := 14) rfl)) ?_
        exact hq _ (by omega)
      · refine w_iconst (by decide) (tX11_areTwo_0_ok (21, .iconst 1, 1) (List.mem_of_getElem? (i := 11) rfl)) (fun v14 e15 => ?_)
        refine w_goto (tgt := 26) (tX11_areTwo_0_ok (22, .goto 4, 3) (List.mem_of_getElem? (i := 12) rfl)) rfl ?_
        refine w_zret rfl (by omega) (by omega) (tX11_areTwo_0_ok (26, .ireturn, 1) (List.mem_of_getElem? (i := 14) rfl)) ?_
        exact hq _ (by omega)
theorem q_brake (hT : k_tys tys cA) {p y : Int32} (bY : 0 ≤ y.toInt ∧ y.toInt ≤ 1) (hf : 3 ≤ fr) (hl : 64 ≤ lo) (hH : k_H Sg cA Lb h) (sm : sgM0 Sg m) (H : bR h m τ) (hq : ∀ (v : Int32) (h1 : ch_H), v.toInt = (if 0 ≤ p.toInt ∧ p.toInt < (τ.1 : Int) then 1 else 0) → Q (some (.int v)) h1) : ww l D tys A X fr lo mX11_brake Q 0 [(0, .ref m), (1, .int p), (2, .int y)] [] h := by
  obtain ⟨fs, n, ga, pe, ta, c_m, f20, f32, f33, f34, t0, t1, t2, t3⟩ := H
  obtain ⟨L, s_m, hL⟩ : ∃ L, Sg m = some L ∧ (L = 50 ∨ L = 70) := sm.elim (fun q => ⟨_, q, Or.inl rfl⟩) (fun q => ⟨_, q, Or.inr rfl⟩)
  have fl : fs.length = 47 ∧ (0 ≤ n.toInt ∧ n.toInt ≤ 6) ∧ (0 ≤ ga.toInt ∧ ga.toInt ≤ 6) ∧ (0 ≤ pe.toInt ∧ pe.toInt ≤ 8) ∧ (0 ≤ ta.toInt ∧ ta.toInt ≤ 6) ∧ (∃ a, fs[22]? = some (.ref a) ∧ Sg a = some 56) := by
    rcases sm with s9 | s9
    · obtain ⟨w9, c9, fl, ty⟩ := hH.obj s9 (L := 50) rfl
      rw [c_m] at c9
      cases c9
      obtain ⟨v20, e20, y20⟩ := ty 20 _ rfl
      rw [f20] at e20
      cases e20
      obtain ⟨x20, z20, r20, u20⟩ := k_v.int y20
      cases z20
      have r20 : (0 : Int) ≤ n.toInt := r20
      have u20 : n.toInt ≤ (6 : Int) := u20
      obtain ⟨v32, e32, y32⟩ := ty 32 _ rfl
      rw [f32] at e32
      cases e32
      obtain ⟨x32, z32, r32, u32⟩ := k_v.int y32
      cases z32
      have r32 : (0 : Int) ≤ ga.toInt := r32
      have u32 : ga.toInt ≤ (6 : Int) := u32
      obtain ⟨v33, e33, y33⟩ := ty 33 _ rfl
      rw [f33] at e33
      cases e33
      obtain ⟨x33, z33, r33, u33⟩ := k_v.int y33
      cases z33
      have r33 : (0 : Int) ≤ pe.toInt := r33
      have u33 : pe.toInt ≤ (8 : Int) := u33
      obtain ⟨v34, e34, y34⟩ := ty 34 _ rfl
      rw [f34] at e34
      cases e34
      obtain ⟨x34, z34, r34, u34⟩ := k_v.int y34
      cases z34
      have r34 : (0 : Int) ≤ ta.toInt := r34
      have u34 : ta.toInt ≤ (6 : Int) := u34
      obtain ⟨v22, e22, y22⟩ := ty 22 _ rfl
      obtain ⟨x22, rfl, z22⟩ := k_v.ref y22
      exact ⟨fl, by omega, by omega, by omega, by omega, ⟨_, e22, z22⟩⟩
    · obtain ⟨w9, c9, fl, ty⟩ := hH.obj s9 (L := 70) rfl
      rw [c_m] at c9
      cases c9
      obtain ⟨v20, e20, y20⟩ := ty 20 _ rfl
      rw [f20] at e20
      cases e20
      obtain ⟨x20, z20, r20, u20⟩ := k_v.int y20
      cases z20
      have r20 : (0 : Int) ≤ n.toInt := r20
      have u20 : n.toInt ≤ (0 : Int) := u20
      obtain ⟨v32, e32, y32⟩ := ty 32 _ rfl
      rw [f32] at e32
      cases e32
      obtain ⟨x32, z32, r32, u32⟩ := k_v.int y32
      cases z32
      have r32 : (0 : Int) ≤ ga.toInt := r32
      have u32 : ga.toInt ≤ (0 : Int) := u32
      obtain ⟨v33, e33, y33⟩ := ty 33 _ rfl
      rw [f33] at e33
      cases e33
      obtain ⟨x33, z33, r33, u33⟩ := k_v.int y33
      cases z33
      have r33 : (0 : Int) ≤ pe.toInt := r33
      have u33 : pe.toInt ≤ (0 : Int) := u33
      obtain ⟨v34, e34, y34⟩ := ty 34 _ rfl
      rw [f34] at e34
      cases e34
      obtain ⟨x34, z34, r34, u34⟩ := k_v.int y34
      cases z34
      have r34 : (0 : Int) ≤ ta.toInt := r34
      have u34 : ta.toInt ≤ (0 : Int) := u34
      obtain ⟨v22, e22, y22⟩ := ty 22 _ rfl
      obtain ⟨x22, rfl, z22⟩ := k_v.ref y22
      exact ⟨fl, by omega, by omega, by omega, by omega, ⟨_, e22, z22⟩⟩
  obtain ⟨fl, bn, bg, bp, bt, to, q_to, s_to⟩ := fl
  obtain ⟨z_to, c_to, -⟩ := hH.arr s_to (L := 56) rfl
  refine w_aload_n (List.Mem.head _) (tX11_brake_0_ok (0, .aload_n 0, 1) (List.mem_of_getElem? (i := 0) rfl)) ?_
  refine w_iconst (by decide) (tX11_brake_0_ok (1, .iconst 0, 1) (List.mem_of_getElem? (i := 1) rfl)) (fun v1 e2 => ?_)
  refine w_putF (own := 16) (ci := 10) (k := 0) rfl rfl (by decide) rfl ⟨rfl, rfl⟩ c_m (by rw [fl]; decide) (tX11_brake_0_ok (2, .putfield 85, 3) (List.mem_of_getElem? (i := 2) rfl)) (fun h3 fs6 l7 k8 j9 c4 o5 => ?_)
  rw [fl] at l7
  have f10 := (j9 20 (by decide)).trans f20
  have f11 := (j9 32 (by decide)).trans f32
  have f12 := (j9 33 (by decide)).trans f33
  have f13 := (j9 34 (by decide)).trans f34
  have f14 := (j9 22 (by decide)).trans q_to
  have c15 := (o5 to (k_sg_ne s_to s_m (by omega))).trans c_to
  refine w_aload_n (List.Mem.head _) (tX11_brake_0_ok (5, .aload_n 0, 1) (List.mem_of_getElem? (i := 3) rfl)) ?_
  refine w_iload_n (List.Mem.tail _ (List.Mem.head _)) (tX11_brake_0_ok (6, .iload_n 1, 1) (List.mem_of_getElem? (i := 4) rfl)) ?_
  refine w_callV (own := 16) (mi := 204) [.int p] [] [(0, .ref m), (1, .int p)] rfl (cllw_X11 (286, 0, 204) (List.mem_of_getElem? (i := 35) rfl)) rfl rfl c4 rfl (by omega) (w_lo (n := 21) rfl (by omega)) (Nat.le_of_ble_eq_true rfl) (Nat.le_of_ble_eq_true rfl) rfl (tX11_brake_0_ok (7, .invokevirtual 286, 3) (List.mem_of_getElem? (i := 5) rfl)) (q_isRope c4 f10 (fun v16 e17 => ?_))
  show ww l D tys A X fr lo mX11_brake Q 10 [(0, .ref m), (1, .int p), (2, .int y)] [.int v16] h3
  refine w_if_ne (tgt := 15) (tX11_brake_0_ok (10, .ifCond .ne 5, 3) (List.mem_of_getElem? (i := 6) rfl)) rfl (fun b18 => ?_) (fun b18 => ?_)
  · refine w_aload_n (List.Mem.head _) (tX11_brake_0_ok (15, .aload_n 0, 1) (List.mem_of_getElem? (i := 9) rfl)) ?_
    refine w_get (own := 16) rfl rfl (by decide) c4 f14 (tX11_brake_0_ok (16, .getfield 45, 3) (List.mem_of_getElem? (i := 10) rfl)) ?_
    refine w_bipush (by decide) (tX11_brake_0_ok (19, .bipush 12, 2) (List.mem_of_getElem? (i := 11) rfl)) (fun v19 e20 => ?_)
    refine w_iload_n (List.Mem.tail _ (List.Mem.head _)) (tX11_brake_0_ok (21, .iload_n 1, 1) (List.mem_of_getElem? (i := 12) rfl)) ?_
    refine w_iadd (by omega) (by omega) (tX11_brake_0_ok (22, .iadd, 1) (List.mem_of_getElem? (i := 13) rfl)) (fun v21 e22 => ?_)
    refine w_iload_n (List.Mem.tail _ (List.Mem.tail _ (List.Mem.head _))) (tX11_brake_0_ok (23, .iload_n 2, 1) (List.mem_of_getElem? (i := 14) rfl)) ?_
    refine w_if_eq (tgt := 31) (tX11_brake_0_ok (24, .ifCond .eq 7, 3) (List.mem_of_getElem? (i := 15) rfl)) rfl (fun b23 => ?_) (fun b23 => ?_)
    · refine w_iconst (by decide) (tX11_brake_0_ok (31, .iconst 0, 1) (List.mem_of_getElem? (i := 18) rfl)) (fun v24 e25 => ?_)
      refine w_iast hT c15 (by omega) (by omega) (tX11_brake_0_ok (32, .iastore, 1) (List.mem_of_getElem? (i := 19) rfl)) (fun h26 c27 o28 => ?_)
      have c29 := (o28 m (k_sg_ne s_m s_to (by omega))).trans c4
      refine w_iconst (by decide) (tX11_brake_0_ok (33, .iconst 1, 1) (List.mem_of_getElem? (i := 20) rfl)) (fun v30 e31 => ?_)
      refine w_zret rfl (by omega) (by omega) (tX11_brake_0_ok (34, .ireturn, 1) (List.mem_of_getElem? (i := 21) rfl)) ?_
      exact hq _ _ (by split <;> omega)
    · refine w_iconst (by decide) (tX11_brake_0_ok (27, .iconst 1, 1) (List.mem_of_getElem? (i := 16) rfl)) (fun v32 e33 => ?_)
      refine w_goto (tgt := 32) (tX11_brake_0_ok (28, .goto 4, 3) (List.mem_of_getElem? (i := 17) rfl)) rfl ?_
      refine w_iast hT c15 (by omega) (by omega) (tX11_brake_0_ok (32, .iastore, 1) (List.mem_of_getElem? (i := 19) rfl)) (fun h34 c35 o36 => ?_)
      have c37 := (o36 m (k_sg_ne s_m s_to (by omega))).trans c4
      refine w_iconst (by decide) (tX11_brake_0_ok (33, .iconst 1, 1) (List.mem_of_getElem? (i := 20) rfl)) (fun v38 e39 => ?_)
      refine w_zret rfl (by omega) (by omega) (tX11_brake_0_ok (34, .ireturn, 1) (List.mem_of_getElem? (i := 21) rfl)) ?_
      exact hq _ _ (by split <;> omega)
  · refine w_iconst (by decide) (tX11_brake_0_ok (13, .iconst 0, 1) (List.mem_of_getElem? (i := 7) rfl)) (fun v40 e41 => ?_)
    refine w_zret rfl (by omega) (by omega) (tX11_brake_0_ok (14, .ireturn, 1) (List.mem_of_getElem? (i := 8) rfl)) ?_
    exact hq _ _ (by split <;> omega)
theorem q_water (hT : k_tys tys cA) {p y : Int32} (hf : 3 ≤ fr) (hl : 64 ≤ lo) (hH : k_H Sg cA Lb h) (sm : sgM0 Sg m) (H : bR h m τ) (hq : ∀ (v : Int32) (h1 : ch_H), v.toInt = (if 0 ≤ p.toInt ∧ p.toInt < 2 * (τ.1 : Int) ∧ 0 ≤ y.toInt ∧ y.toInt ≤ 99 then 1 else 0) → Q (some (.int v)) h1) : ww l D tys A X fr lo mX11_water Q 0 [(0, .ref m), (1, .int p), (2, .int y)] [] h := by
  obtain ⟨fs, n, ga, pe, ta, c_m, f20, f32, f33, f34, t0, t1, t2, t3⟩ := H
  obtain ⟨L, s_m, hL⟩ : ∃ L, Sg m = some L ∧ (L = 50 ∨ L = 70) := sm.elim (fun q => ⟨_, q, Or.inl rfl⟩) (fun q => ⟨_, q, Or.inr rfl⟩)
  have fl : fs.length = 47 ∧ (0 ≤ n.toInt ∧ n.toInt ≤ 6) ∧ (0 ≤ ga.toInt ∧ ga.toInt ≤ 6) ∧ (0 ≤ pe.toInt ∧ pe.toInt ≤ 8) ∧ (0 ≤ ta.toInt ∧ ta.toInt ≤ 6) ∧ (∃ a, fs[22]? = some (.ref a) ∧ Sg a = some 56) := by
    rcases sm with s9 | s9
    · obtain ⟨w9, c9, fl, ty⟩ := hH.obj s9 (L := 50) rfl
      rw [c_m] at c9
      cases c9
      obtain ⟨v20, e20, y20⟩ := ty 20 _ rfl
      rw [f20] at e20
      cases e20
      obtain ⟨x20, z20, r20, u20⟩ := k_v.int y20
      cases z20
      have r20 : (0 : Int) ≤ n.toInt := r20
      have u20 : n.toInt ≤ (6 : Int) := u20
      obtain ⟨v32, e32, y32⟩ := ty 32 _ rfl
      rw [f32] at e32
      cases e32
      obtain ⟨x32, z32, r32, u32⟩ := k_v.int y32
      cases z32
      have r32 : (0 : Int) ≤ ga.toInt := r32
      have u32 : ga.toInt ≤ (6 : Int) := u32
      obtain ⟨v33, e33, y33⟩ := ty 33 _ rfl
      rw [f33] at e33
      cases e33
      obtain ⟨x33, z33, r33, u33⟩ := k_v.int y33
      cases z33
      have r33 : (0 : Int) ≤ pe.toInt := r33
      have u33 : pe.toInt ≤ (8 : Int) := u33
      obtain ⟨v34, e34, y34⟩ := ty 34 _ rfl
      rw [f34] at e34
      cases e34
      obtain ⟨x34, z34, r34, u34⟩ := k_v.int y34
      cases z34
      have r34 : (0 : Int) ≤ ta.toInt := r34
      have u34 : ta.toInt ≤ (6 : Int) := u34
      obtain ⟨v22, e22, y22⟩ := ty 22 _ rfl
      obtain ⟨x22, rfl, z22⟩ := k_v.ref y22
      exact ⟨fl, by omega, by omega, by omega, by omega, ⟨_, e22, z22⟩⟩
    · obtain ⟨w9, c9, fl, ty⟩ := hH.obj s9 (L := 70) rfl
      rw [c_m] at c9
      cases c9
      obtain ⟨v20, e20, y20⟩ := ty 20 _ rfl
      rw [f20] at e20
      cases e20
      obtain ⟨x20, z20, r20, u20⟩ := k_v.int y20
      cases z20
      have r20 : (0 : Int) ≤ n.toInt := r20
      have u20 : n.toInt ≤ (0 : Int) := u20
      obtain ⟨v32, e32, y32⟩ := ty 32 _ rfl
      rw [f32] at e32
      cases e32
      obtain ⟨x32, z32, r32, u32⟩ := k_v.int y32
      cases z32
      have r32 : (0 : Int) ≤ ga.toInt := r32
      have u32 : ga.toInt ≤ (0 : Int) := u32
      obtain ⟨v33, e33, y33⟩ := ty 33 _ rfl
      rw [f33] at e33
      cases e33
      obtain ⟨x33, z33, r33, u33⟩ := k_v.int y33
      cases z33
      have r33 : (0 : Int) ≤ pe.toInt := r33
      have u33 : pe.toInt ≤ (0 : Int) := u33
      obtain ⟨v34, e34, y34⟩ := ty 34 _ rfl
      rw [f34] at e34
      cases e34
      obtain ⟨x34, z34, r34, u34⟩ := k_v.int y34
      cases z34
      have r34 : (0 : Int) ≤ ta.toInt := r34
      have u34 : ta.toInt ≤ (0 : Int) := u34
      obtain ⟨v22, e22, y22⟩ := ty 22 _ rfl
      obtain ⟨x22, rfl, z22⟩ := k_v.ref y22
      exact ⟨fl, by omega, by omega, by omega, by omega, ⟨_, e22, z22⟩⟩
  obtain ⟨fl, bn, bg, bp, bt, to, q_to, s_to⟩ := fl
  obtain ⟨z_to, c_to, -⟩ := hH.arr s_to (L := 56) rfl
  refine w_aload_n (List.Mem.head _) (tX11_water_0_ok (0, .aload_n 0, 1) (List.mem_of_getElem? (i := 0) rfl)) ?_
  refine w_iconst (by decide) (tX11_water_0_ok (1, .iconst 0, 1) (List.mem_of_getElem? (i := 1) rfl)) (fun v1 e2 => ?_)
  refine w_putF (own := 16) (ci := 10) (k := 0) rfl rfl (by decide) rfl ⟨rfl, rfl⟩ c_m (by rw [fl]; decide) (tX11_water_0_ok (2, .putfield 85, 3) (List.mem_of_getElem? (i := 2) rfl)) (fun h3 fs6 l7 k8 j9 c4 o5 => ?_)
  rw [fl] at l7
  have f10 := (j9 20 (by decide)).trans f20
  have f11 := (j9 32 (by decide)).trans f32
  have f12 := (j9 33 (by decide)).trans f33
  have f13 := (j9 34 (by decide)).trans f34
  have f14 := (j9 22 (by decide)).trans q_to
  have c15 := (o5 to (k_sg_ne s_to s_m (by omega))).trans c_to
  refine w_aload_n (List.Mem.head _) (tX11_water_0_ok (5, .aload_n 0, 1) (List.mem_of_getElem? (i := 3) rfl)) ?_
  refine w_iload_n (List.Mem.tail _ (List.Mem.head _)) (tX11_water_0_ok (6, .iload_n 1, 1) (List.mem_of_getElem? (i := 4) rfl)) ?_
  refine w_callV (own := 16) (mi := 203) [.int p] [] [(0, .ref m), (1, .int p)] rfl (cllw_X11 (274, 0, 203) (List.mem_of_getElem? (i := 38) rfl)) rfl rfl c4 rfl (by omega) (w_lo (n := 21) rfl (by omega)) (Nat.le_of_ble_eq_true rfl) (Nat.le_of_ble_eq_true rfl) rfl (tX11_water_0_ok (7, .invokevirtual 274, 3) (List.mem_of_getElem? (i := 5) rfl)) (q_isRoom c4 f10 bn (fun v16 e17 => ?_))
  show ww l D tys A X fr lo mX11_water Q 10 [(0, .ref m), (1, .int p), (2, .int y)] [.int v16] h3
  refine w_if_eq (tgt := 23) (tX11_water_0_ok (10, .ifCond .eq 13, 3) (List.mem_of_getElem? (i := 6) rfl)) rfl (fun b18 => ?_) (fun b18 => ?_)
  · refine w_iconst (by decide) (tX11_water_0_ok (23, .iconst 0, 1) (List.mem_of_getElem? (i := 12) rfl)) (fun v19 e20 => ?_)
    refine w_zret rfl (by omega) (by omega) (tX11_water_0_ok (24, .ireturn, 1) (List.mem_of_getElem? (i := 13) rfl)) ?_
    exact hq _ _ (by split <;> omega)
  · refine w_iload_n (List.Mem.tail _ (List.Mem.tail _ (List.Mem.head _))) (tX11_water_0_ok (13, .iload_n 2, 1) (List.mem_of_getElem? (i := 7) rfl)) ?_
    refine w_iconst (by decide) (tX11_water_0_ok (14, .iconst 0, 1) (List.mem_of_getElem? (i := 8) rfl)) (fun v21 e22 => ?_)
    refine w_bipush (by decide) (tX11_water_0_ok (15, .bipush 99, 2) (List.mem_of_getElem? (i := 9) rfl)) (fun v23 e24 => ?_)
    refine w_callS (own := 16) (mi := 199) [.int y, .int v21, .int v23] [] [(0, .int y), (1, .int v21), (2, .int v23)] rfl (cllw_X11 (207, 1, 199) (List.mem_of_getElem? (i := 2) rfl)) rfl rfl (by omega) (w_lo (n := 22) rfl (by omega)) (Nat.le_of_ble_eq_true rfl) (Nat.le_of_ble_eq_true rfl) rfl (tX11_water_0_ok (17, .invokestatic 207, 3) (List.mem_of_getElem? (i := 10) rfl)) (r_isIn (fun v25 e26 => ?_))
    show ww l D tys A X fr lo mX11_water Q 20 [(0, .ref m), (1, .int p), (2, .int y)] [.int v25] h3
    refine w_if_ne (tgt := 25) (tX11_water_0_ok (20, .ifCond .ne 5, 3) (List.mem_of_getElem? (i := 11) rfl)) rfl (fun b27 => ?_) (fun b27 => ?_)
    · refine w_aload_n (List.Mem.head _) (tX11_water_0_ok (25, .aload_n 0, 1) (List.mem_of_getElem? (i := 14) rfl)) ?_
      refine w_get (own := 16) rfl rfl (by decide) c4 f14 (tX11_water_0_ok (26, .getfield 45, 3) (List.mem_of_getElem? (i := 15) rfl)) ?_
      refine w_bipush (by decide) (tX11_water_0_ok (29, .bipush 18, 2) (List.mem_of_getElem? (i := 16) rfl)) (fun v28 e29 => ?_)
      refine w_iload_n (List.Mem.tail _ (List.Mem.head _)) (tX11_water_0_ok (31, .iload_n 1, 1) (List.mem_of_getElem? (i := 17) rfl)) ?_
      refine w_iadd (by omega) (by omega) (tX11_water_0_ok (32, .iadd, 1) (List.mem_of_getElem? (i := 18) rfl)) (fun v30 e31 => ?_)
      refine w_iload_n (List.Mem.tail _ (List.Mem.tail _ (List.Mem.head _))) (tX11_water_0_ok (33, .iload_n 2, 1) (List.mem_of_getElem? (i := 19) rfl)) ?_
      refine w_iast hT c15 (by omega) (by omega) (tX11_water_0_ok (34, .iastore, 1) (List.mem_of_getElem? (i := 20) rfl)) (fun h32 c33 o34 => ?_)
      have c35 := (o34 m (k_sg_ne s_m s_to (by omega))).trans c4
      refine w_iconst (by decide) (tX11_water_0_ok (35, .iconst 1, 1) (List.mem_of_getElem? (i := 21) rfl)) (fun v36 e37 => ?_)
      refine w_zret rfl (by omega) (by omega) (tX11_water_0_ok (36, .ireturn, 1) (List.mem_of_getElem? (i := 22) rfl)) ?_
      exact hq _ _ (by split <;> omega)
    · refine w_iconst (by decide) (tX11_water_0_ok (23, .iconst 0, 1) (List.mem_of_getElem? (i := 12) rfl)) (fun v38 e39 => ?_)
      refine w_zret rfl (by omega) (by omega) (tX11_water_0_ok (24, .ireturn, 1) (List.mem_of_getElem? (i := 13) rfl)) ?_
      exact hq _ _ (by split <;> omega)
theorem q_gallery (hT : k_tys tys cA) {p : Int32} (hf : 3 ≤ fr) (hl : 64 ≤ lo) (hH : k_H Sg cA Lb h) (sm : sgM0 Sg m) (H : bR h m τ) (hq : ∀ (v : Int32) (h1 : ch_H), bR h1 m (n_gallery p τ) → v.toInt = (if 1 ≤ τ.1 ∧ 0 ≤ p.toInt ∧ p.toInt ≤ 60 ∧ τ.2.1 < 6 then 12 + (τ.2.1 : Int) else -1) → Q (some (.int v)) h1) : ww l D tys A X fr lo mX11_gallery Q 0 [(0, .ref m), (1, .int p)] [] h := by
  obtain ⟨fs, n, ga, pe, ta, c_m, f20, f32, f33, f34, t0, t1, t2, t3⟩ := H
  obtain ⟨L, s_m, hL⟩ : ∃ L, Sg m = some L ∧ (L = 50 ∨ L = 70) := sm.elim (fun q => ⟨_, q, Or.inl rfl⟩) (fun q => ⟨_, q, Or.inr rfl⟩)
  have fl : fs.length = 47 ∧ (0 ≤ n.toInt ∧ n.toInt ≤ 6) ∧ (0 ≤ ga.toInt ∧ ga.toInt ≤ 6) ∧ (0 ≤ pe.toInt ∧ pe.toInt ≤ 8) ∧ (0 ≤ ta.toInt ∧ ta.toInt ≤ 6) ∧ (∃ a, fs[25]? = some (.ref a) ∧ Sg a = some 59) := by
    rcases sm with s9 | s9
    · obtain ⟨w9, c9, fl, ty⟩ := hH.obj s9 (L := 50) rfl
      rw [c_m] at c9
      cases c9
      obtain ⟨v20, e20, y20⟩ := ty 20 _ rfl
      rw [f20] at e20
      cases e20
      obtain ⟨x20, z20, r20, u20⟩ := k_v.int y20
      cases z20
      have r20 : (0 : Int) ≤ n.toInt := r20
      have u20 : n.toInt ≤ (6 : Int) := u20
      obtain ⟨v32, e32, y32⟩ := ty 32 _ rfl
      rw [f32] at e32
      cases e32
      obtain ⟨x32, z32, r32, u32⟩ := k_v.int y32
      cases z32
      have r32 : (0 : Int) ≤ ga.toInt := r32
      have u32 : ga.toInt ≤ (6 : Int) := u32
      obtain ⟨v33, e33, y33⟩ := ty 33 _ rfl
      rw [f33] at e33
      cases e33
      obtain ⟨x33, z33, r33, u33⟩ := k_v.int y33
      cases z33
      have r33 : (0 : Int) ≤ pe.toInt := r33
      have u33 : pe.toInt ≤ (8 : Int) := u33
      obtain ⟨v34, e34, y34⟩ := ty 34 _ rfl
      rw [f34] at e34
      cases e34
      obtain ⟨x34, z34, r34, u34⟩ := k_v.int y34
      cases z34
      have r34 : (0 : Int) ≤ ta.toInt := r34
      have u34 : ta.toInt ≤ (6 : Int) := u34
      obtain ⟨v25, e25, y25⟩ := ty 25 _ rfl
      obtain ⟨x25, rfl, z25⟩ := k_v.ref y25
      exact ⟨fl, by omega, by omega, by omega, by omega, ⟨_, e25, z25⟩⟩
    · obtain ⟨w9, c9, fl, ty⟩ := hH.obj s9 (L := 70) rfl
      rw [c_m] at c9
      cases c9
      obtain ⟨v20, e20, y20⟩ := ty 20 _ rfl
      rw [f20] at e20
      cases e20
      obtain ⟨x20, z20, r20, u20⟩ := k_v.int y20
      cases z20
      have r20 : (0 : Int) ≤ n.toInt := r20
      have u20 : n.toInt ≤ (0 : Int) := u20
      obtain ⟨v32, e32, y32⟩ := ty 32 _ rfl
      rw [f32] at e32
      cases e32
      obtain ⟨x32, z32, r32, u32⟩ := k_v.int y32
      cases z32
      have r32 : (0 : Int) ≤ ga.toInt := r32
      have u32 : ga.toInt ≤ (0 : Int) := u32
      obtain ⟨v33, e33, y33⟩ := ty 33 _ rfl
      rw [f33] at e33
      cases e33
      obtain ⟨x33, z33, r33, u33⟩ := k_v.int y33
      cases z33
      have r33 : (0 : Int) ≤ pe.toInt := r33
      have u33 : pe.toInt ≤ (0 : Int) := u33
      obtain ⟨v34, e34, y34⟩ := ty 34 _ rfl
      rw [f34] at e34
      cases e34
      obtain ⟨x34, z34, r34, u34⟩ := k_v.int y34
      cases z34
      have r34 : (0 : Int) ≤ ta.toInt := r34
      have u34 : ta.toInt ≤ (0 : Int) := u34
      obtain ⟨v25, e25, y25⟩ := ty 25 _ rfl
      obtain ⟨x25, rfl, z25⟩ := k_v.ref y25
      exact ⟨fl, by omega, by omega, by omega, by omega, ⟨_, e25, z25⟩⟩
  obtain ⟨fl, bn, bg, bp, bt, he, q_he, s_he⟩ := fl
  obtain ⟨z_he, c_he, -⟩ := hH.arr s_he (L := 59) rfl
  refine w_aload_n (List.Mem.head _) (tX11_gallery_0_ok (0, .aload_n 0, 1) (List.mem_of_getElem? (i := 0) rfl)) ?_
  refine w_iconst (by decide) (tX11_gallery_0_ok (1, .iconst 0, 1) (List.mem_of_getElem? (i := 1) rfl)) (fun v1 e2 => ?_)
  refine w_putF (own := 16) (ci := 10) (k := 0) rfl rfl (by decide) rfl ⟨rfl, rfl⟩ c_m (by rw [fl]; decide) (tX11_gallery_0_ok (2, .putfield 85, 3) (List.mem_of_getElem? (i := 2) rfl)) (fun h3 fs6 l7 k8 j9 c4 o5 => ?_)
  rw [fl] at l7
  have f10 := (j9 20 (by decide)).trans f20
  have f11 := (j9 32 (by decide)).trans f32
  have f12 := (j9 33 (by decide)).trans f33
  have f13 := (j9 34 (by decide)).trans f34
  have f14 := (j9 25 (by decide)).trans q_he
  have c15 := (o5 he (k_sg_ne s_he s_m (by omega))).trans c_he
  refine w_aload_n (List.Mem.head _) (tX11_gallery_0_ok (5, .aload_n 0, 1) (List.mem_of_getElem? (i := 3) rfl)) ?_
  refine w_get (own := 16) rfl rfl (by decide) c4 f10 (tX11_gallery_0_ok (6, .getfield 248, 3) (List.mem_of_getElem? (i := 4) rfl)) ?_
  refine w_if_eq (tgt := 31) (tX11_gallery_0_ok (9, .ifCond .eq 22, 3) (List.mem_of_getElem? (i := 5) rfl)) rfl (fun b16 => ?_) (fun b16 => ?_)
  · refine w_iconst (by decide) (tX11_gallery_0_ok (31, .iconst (-1), 1) (List.mem_of_getElem? (i := 15) rfl)) (fun v17 e18 => ?_)
    refine w_iret rfl (tX11_gallery_0_ok (32, .ireturn, 1) (List.mem_of_getElem? (i := 16) rfl)) ?_
    refine hq _ _ ?_ (by split <;> omega)
    unfold n_gallery
    rw [if_neg (by omega)]
    exact ⟨_, _, _, _, _, c4, f10, f11, f12, f13, t0, t1, t2, t3⟩
  · refine w_aload_n (List.Mem.head _) (tX11_gallery_0_ok (12, .aload_n 0, 1) (List.mem_of_getElem? (i := 6) rfl)) ?_
    refine w_get (own := 16) rfl rfl (by decide) c4 f11 (tX11_gallery_0_ok (13, .getfield 258, 3) (List.mem_of_getElem? (i := 7) rfl)) ?_
    refine w_bipush (by decide) (tX11_gallery_0_ok (16, .bipush 6, 2) (List.mem_of_getElem? (i := 8) rfl)) (fun v19 e20 => ?_)
    refine w_icmp_eq (tgt := 31) (tX11_gallery_0_ok (18, .if_icmp .eq 13, 3) (List.mem_of_getElem? (i := 9) rfl)) rfl (fun b21 => ?_) (fun b21 => ?_)
    · refine w_iconst (by decide) (tX11_gallery_0_ok (31, .iconst (-1), 1) (List.mem_of_getElem? (i := 15) rfl)) (fun v22 e23 => ?_)
      refine w_iret rfl (tX11_gallery_0_ok (32, .ireturn, 1) (List.mem_of_getElem? (i := 16) rfl)) ?_
      refine hq _ _ ?_ (by split <;> omega)
      unfold n_gallery
      rw [if_neg (by omega)]
      exact ⟨_, _, _, _, _, c4, f10, f11, f12, f13, t0, t1, t2, t3⟩
    · refine w_iload_n (List.Mem.tail _ (List.Mem.head _)) (tX11_gallery_0_ok (21, .iload_n 1, 1) (List.mem_of_getElem? (i := 10) rfl)) ?_
      refine w_iconst (by decide) (tX11_gallery_0_ok (22, .iconst 0, 1) (List.mem_of_getElem? (i := 11) rfl)) (fun v24 e25 => ?_)
      refine w_bipush (by decide) (tX11_gallery_0_ok (23, .bipush 60, 2) (List.mem_of_getElem? (i := 12) rfl)) (fun v26 e27 => ?_)
      refine w_callS (own := 16) (mi := 199) [.int p, .int v24, .int v26] [] [(0, .int p), (1, .int v24), (2, .int v26)] rfl (cllw_X11 (207, 1, 199) (List.mem_of_getElem? (i := 2) rfl)) rfl rfl (by omega) (w_lo (n := 22) rfl (by omega)) (Nat.le_of_ble_eq_true rfl) (Nat.le_of_ble_eq_true rfl) rfl (tX11_gallery_0_ok (25, .invokestatic 207, 3) (List.mem_of_getElem? (i := 13) rfl)) (r_isIn (fun v28 e29 => ?_))
      show ww l D tys A X fr lo mX11_gallery Q 28 [(0, .ref m), (1, .int p)] [.int v28] h3
      refine w_if_ne (tgt := 33) (tX11_gallery_0_ok (28, .ifCond .ne 5, 3) (List.mem_of_getElem? (i := 14) rfl)) rfl (fun b30 => ?_) (fun b30 => ?_)
      · refine w_aload_n (List.Mem.head _) (tX11_gallery_0_ok (33, .aload_n 0, 1) (List.mem_of_getElem? (i := 17) rfl)) ?_
        refine w_get (own := 16) rfl rfl (by decide) c4 f14 (tX11_gallery_0_ok (34, .getfield 54, 3) (List.mem_of_getElem? (i := 18) rfl)) ?_
        refine w_bipush (by decide) (tX11_gallery_0_ok (37, .bipush 12, 2) (List.mem_of_getElem? (i := 19) rfl)) (fun v31 e32 => ?_)
        refine w_aload_n (List.Mem.head _) (tX11_gallery_0_ok (39, .aload_n 0, 1) (List.mem_of_getElem? (i := 20) rfl)) ?_
        refine w_get (own := 16) rfl rfl (by decide) c4 f11 (tX11_gallery_0_ok (40, .getfield 258, 3) (List.mem_of_getElem? (i := 21) rfl)) ?_
        refine w_iadd (by omega) (by omega) (tX11_gallery_0_ok (43, .iadd, 1) (List.mem_of_getElem? (i := 22) rfl)) (fun v33 e34 => ?_)
        refine w_iload_n (List.Mem.tail _ (List.Mem.head _)) (tX11_gallery_0_ok (44, .iload_n 1, 1) (List.mem_of_getElem? (i := 23) rfl)) ?_
        refine w_iast hT c15 (by omega) (by omega) (tX11_gallery_0_ok (45, .iastore, 1) (List.mem_of_getElem? (i := 24) rfl)) (fun h35 c36 o37 => ?_)
        have c38 := (o37 m (k_sg_ne s_m s_he (by omega))).trans c4
        refine w_aload_n (List.Mem.head _) (tX11_gallery_0_ok (46, .aload_n 0, 1) (List.mem_of_getElem? (i := 25) rfl)) ?_
        refine w_dup rfl (tX11_gallery_0_ok (47, .dup, 1) (List.mem_of_getElem? (i := 26) rfl)) ?_
        refine w_get (own := 16) rfl rfl (by decide) c38 f11 (tX11_gallery_0_ok (48, .getfield 258, 3) (List.mem_of_getElem? (i := 27) rfl)) ?_
        refine w_iconst (by decide) (tX11_gallery_0_ok (51, .iconst 1, 1) (List.mem_of_getElem? (i := 28) rfl)) (fun v39 e40 => ?_)
        refine w_iadd (by omega) (by omega) (tX11_gallery_0_ok (52, .iadd, 1) (List.mem_of_getElem? (i := 29) rfl)) (fun v41 e42 => ?_)
        refine w_putF (own := 16) (ci := 10) (k := 32) rfl rfl (by decide) rfl ⟨rfl, rfl⟩ c38 (by rw [l7]; decide) (tX11_gallery_0_ok (53, .putfield 258, 3) (List.mem_of_getElem? (i := 30) rfl)) (fun h43 fs46 l47 k48 j49 c44 o45 => ?_)
        rw [l7] at l47
        have f50 := (j49 0 (by decide)).trans k8
        have f51 := (j49 20 (by decide)).trans f10
        have f52 := (j49 33 (by decide)).trans f12
        have f53 := (j49 34 (by decide)).trans f13
        have f54 := (j49 25 (by decide)).trans f14
        have c55 := (o45 he (k_sg_ne s_he s_m (by omega))).trans c36
        refine w_bipush (by decide) (tX11_gallery_0_ok (56, .bipush 12, 2) (List.mem_of_getElem? (i := 31) rfl)) (fun v56 e57 => ?_)
        refine w_aload_n (List.Mem.head _) (tX11_gallery_0_ok (58, .aload_n 0, 1) (List.mem_of_getElem? (i := 32) rfl)) ?_
        refine w_get (own := 16) rfl rfl (by decide) c44 k48 (tX11_gallery_0_ok (59, .getfield 258, 3) (List.mem_of_getElem? (i := 33) rfl)) ?_
        refine w_iadd (by omega) (by omega) (tX11_gallery_0_ok (62, .iadd, 1) (List.mem_of_getElem? (i := 34) rfl)) (fun v58 e59 => ?_)
        refine w_iconst (by decide) (tX11_gallery_0_ok (63, .iconst 1, 1) (List.mem_of_getElem? (i := 35) rfl)) (fun v60 e61 => ?_)
        refine w_isub (by omega) (by omega) (tX11_gallery_0_ok (64, .isub, 1) (List.mem_of_getElem? (i := 36) rfl)) (fun v62 e63 => ?_)
        refine w_iret rfl (tX11_gallery_0_ok (65, .ireturn, 1) (List.mem_of_getElem? (i := 37) rfl)) ?_
        refine hq _ _ ?_ (by split <;> omega)
        unfold n_gallery
        rw [if_pos (by omega)]
        exact ⟨_, _, _, _, _, c44, f51, k48, f52, f53, t0, by show v41.toInt = ((τ.2.1 + 1 : Nat) : Int); omega, t2, t3⟩
      · refine w_iconst (by decide) (tX11_gallery_0_ok (31, .iconst (-1), 1) (List.mem_of_getElem? (i := 15) rfl)) (fun v64 e65 => ?_)
        refine w_iret rfl (tX11_gallery_0_ok (32, .ireturn, 1) (List.mem_of_getElem? (i := 16) rfl)) ?_
        refine hq _ _ ?_ (by split <;> omega)
        unfold n_gallery
        rw [if_neg (by omega)]
        exact ⟨_, _, _, _, _, c4, f10, f11, f12, f13, t0, t1, t2, t3⟩
theorem q_beside (hT : k_tys tys cA) {p y z : Int32} (bz : 0 ≤ z.toInt ∧ z.toInt ≤ 1) (hf : 3 ≤ fr) (hl : 64 ≤ lo) (hH : k_H Sg cA Lb h) (sm : sgM0 Sg m) (H : bR h m τ) (hq : ∀ (v : Int32) (h1 : ch_H), v.toInt = (if (0 ≤ p.toInt ∧ p.toInt < 2 * (τ.1 : Int) ∨ 12 ≤ p.toInt ∧ p.toInt < 12 + (τ.2.1 : Int)) ∧ (0 ≤ y.toInt ∧ y.toInt < 2 * (τ.1 : Int) ∨ 12 ≤ y.toInt ∧ y.toInt < 12 + (τ.2.1 : Int)) ∧ ¬ p.toInt = y.toInt then 1 else 0) → Q (some (.int v)) h1) : ww l D tys A X fr lo mX11_beside Q 0 [(0, .ref m), (1, .int p), (2, .int y), (3, .int z)] [] h := by
  obtain ⟨fs, n, ga, pe, ta, c_m, f20, f32, f33, f34, t0, t1, t2, t3⟩ := H
  obtain ⟨L, s_m, hL⟩ : ∃ L, Sg m = some L ∧ (L = 50 ∨ L = 70) := sm.elim (fun q => ⟨_, q, Or.inl rfl⟩) (fun q => ⟨_, q, Or.inr rfl⟩)
  have fl : fs.length = 47 ∧ (0 ≤ n.toInt ∧ n.toInt ≤ 6) ∧ (0 ≤ ga.toInt ∧ ga.toInt ≤ 6) ∧ (0 ≤ pe.toInt ∧ pe.toInt ≤ 8) ∧ (0 ≤ ta.toInt ∧ ta.toInt ≤ 6) ∧ (∃ a, fs[31]? = some (.ref a) ∧ Sg a = some 65) := by
    rcases sm with s9 | s9
    · obtain ⟨w9, c9, fl, ty⟩ := hH.obj s9 (L := 50) rfl
      rw [c_m] at c9
      cases c9
      obtain ⟨v20, e20, y20⟩ := ty 20 _ rfl
      rw [f20] at e20
      cases e20
      obtain ⟨x20, z20, r20, u20⟩ := k_v.int y20
      cases z20
      have r20 : (0 : Int) ≤ n.toInt := r20
      have u20 : n.toInt ≤ (6 : Int) := u20
      obtain ⟨v32, e32, y32⟩ := ty 32 _ rfl
      rw [f32] at e32
      cases e32
      obtain ⟨x32, z32, r32, u32⟩ := k_v.int y32
      cases z32
      have r32 : (0 : Int) ≤ ga.toInt := r32
      have u32 : ga.toInt ≤ (6 : Int) := u32
      obtain ⟨v33, e33, y33⟩ := ty 33 _ rfl
      rw [f33] at e33
      cases e33
      obtain ⟨x33, z33, r33, u33⟩ := k_v.int y33
      cases z33
      have r33 : (0 : Int) ≤ pe.toInt := r33
      have u33 : pe.toInt ≤ (8 : Int) := u33
      obtain ⟨v34, e34, y34⟩ := ty 34 _ rfl
      rw [f34] at e34
      cases e34
      obtain ⟨x34, z34, r34, u34⟩ := k_v.int y34
      cases z34
      have r34 : (0 : Int) ≤ ta.toInt := r34
      have u34 : ta.toInt ≤ (6 : Int) := u34
      obtain ⟨v31, e31, y31⟩ := ty 31 _ rfl
      obtain ⟨x31, rfl, z31⟩ := k_v.ref y31
      exact ⟨fl, by omega, by omega, by omega, by omega, ⟨_, e31, z31⟩⟩
    · obtain ⟨w9, c9, fl, ty⟩ := hH.obj s9 (L := 70) rfl
      rw [c_m] at c9
      cases c9
      obtain ⟨v20, e20, y20⟩ := ty 20 _ rfl
      rw [f20] at e20
      cases e20
      obtain ⟨x20, z20, r20, u20⟩ := k_v.int y20
      cases z20
      have r20 : (0 : Int) ≤ n.toInt := r20
      have u20 : n.toInt ≤ (0 : Int) := u20
      obtain ⟨v32, e32, y32⟩ := ty 32 _ rfl
      rw [f32] at e32
      cases e32
      obtain ⟨x32, z32, r32, u32⟩ := k_v.int y32
      cases z32
      have r32 : (0 : Int) ≤ ga.toInt := r32
      have u32 : ga.toInt ≤ (0 : Int) := u32
      obtain ⟨v33, e33, y33⟩ := ty 33 _ rfl
      rw [f33] at e33
      cases e33
      obtain ⟨x33, z33, r33, u33⟩ := k_v.int y33
      cases z33
      have r33 : (0 : Int) ≤ pe.toInt := r33
      have u33 : pe.toInt ≤ (0 : Int) := u33
      obtain ⟨v34, e34, y34⟩ := ty 34 _ rfl
      rw [f34] at e34
      cases e34
      obtain ⟨x34, z34, r34, u34⟩ := k_v.int y34
      cases z34
      have r34 : (0 : Int) ≤ ta.toInt := r34
      have u34 : ta.toInt ≤ (0 : Int) := u34
      obtain ⟨v31, e31, y31⟩ := ty 31 _ rfl
      obtain ⟨x31, rfl, z31⟩ := k_v.ref y31
      exact ⟨fl, by omega, by omega, by omega, by omega, ⟨_, e31, z31⟩⟩
  obtain ⟨fl, bn, bg, bp, bt, be, q_be, s_be⟩ := fl
  obtain ⟨z_be, c_be, -⟩ := hH.arr s_be (L := 65) rfl
  refine w_aload_n (List.Mem.head _) (tX11_beside_0_ok (0, .aload_n 0, 1) (List.mem_of_getElem? (i := 0) rfl)) ?_
  refine w_iconst (by decide) (tX11_beside_0_ok (1, .iconst 0, 1) (List.mem_of_getElem? (i := 1) rfl)) (fun v1 e2 => ?_)
  refine w_putF (own := 16) (ci := 10) (k := 0) rfl rfl (by decide) rfl ⟨rfl, rfl⟩ c_m (by rw [fl]; decide) (tX11_beside_0_ok (2, .putfield 85, 3) (List.mem_of_getElem? (i := 2) rfl)) (fun h3 fs6 l7 k8 j9 c4 o5 => ?_)
  rw [fl] at l7
  have f10 := (j9 20 (by decide)).trans f20
  have f11 := (j9 32 (by decide)).trans f32
  have f12 := (j9 33 (by decide)).trans f33
  have f13 := (j9 34 (by decide)).trans f34
  have f14 := (j9 31 (by decide)).trans q_be
  have c15 := (o5 be (k_sg_ne s_be s_m (by omega))).trans c_be
  refine w_aload_n (List.Mem.head _) (tX11_beside_0_ok (5, .aload_n 0, 1) (List.mem_of_getElem? (i := 3) rfl)) ?_
  refine w_iload_n (List.Mem.tail _ (List.Mem.head _)) (tX11_beside_0_ok (6, .iload_n 1, 1) (List.mem_of_getElem? (i := 4) rfl)) ?_
  refine w_iload_n (List.Mem.tail _ (List.Mem.tail _ (List.Mem.head _))) (tX11_beside_0_ok (7, .iload_n 2, 1) (List.mem_of_getElem? (i := 5) rfl)) ?_
  refine w_callV (own := 16) (mi := 160) [.int p, .int y] [] [(0, .ref m), (1, .int p), (2, .int y)] rfl (cllw_X11 (320, 0, 160) (List.mem_of_getElem? (i := 46) rfl)) rfl rfl c4 rfl (by omega) (w_lo (n := 22) rfl (by omega)) (Nat.le_of_ble_eq_true rfl) (Nat.le_of_ble_eq_true rfl) rfl (tX11_beside_0_ok (8, .invokevirtual 320, 3) (List.mem_of_getElem? (i := 6) rfl)) (q_areTwo (by omega) (w_sub (n := 22) rfl (by omega)) c4 f10 bn f11 bg (fun v16 e17 => ?_))
  show ww l D tys A X fr lo mX11_beside Q 11 [(0, .ref m), (1, .int p), (2, .int y), (3, .int z)] [.int v16] h3
  refine w_if_ne (tgt := 16) (tX11_beside_0_ok (11, .ifCond .ne 5, 3) (List.mem_of_getElem? (i := 7) rfl)) rfl (fun b18 => ?_) (fun b18 => ?_)
  · refine w_aload_n (List.Mem.head _) (tX11_beside_0_ok (16, .aload_n 0, 1) (List.mem_of_getElem? (i := 10) rfl)) ?_
    refine w_get (own := 16) rfl rfl (by decide) c4 f14 (tX11_beside_0_ok (17, .getfield 72, 3) (List.mem_of_getElem? (i := 11) rfl)) ?_
    refine w_bipush (by decide) (tX11_beside_0_ok (20, .bipush 18, 2) (List.mem_of_getElem? (i := 12) rfl)) (fun v19 e20 => ?_)
    refine w_iload_n (List.Mem.tail _ (List.Mem.head _)) (tX11_beside_0_ok (22, .iload_n 1, 1) (List.mem_of_getElem? (i := 13) rfl)) ?_
    refine w_imul (by assumption) (by omega) (by omega) (tX11_beside_0_ok (23, .imul, 1) (List.mem_of_getElem? (i := 14) rfl)) (fun v21 e22 => ?_)
    refine w_iload_n (List.Mem.tail _ (List.Mem.tail _ (List.Mem.head _))) (tX11_beside_0_ok (24, .iload_n 2, 1) (List.mem_of_getElem? (i := 15) rfl)) ?_
    refine w_iadd (by omega) (by omega) (tX11_beside_0_ok (25, .iadd, 1) (List.mem_of_getElem? (i := 16) rfl)) (fun v23 e24 => ?_)
    refine w_iload_n (List.Mem.tail _ (List.Mem.tail _ (List.Mem.tail _ (List.Mem.head _)))) (tX11_beside_0_ok (26, .iload_n 3, 1) (List.mem_of_getElem? (i := 17) rfl)) ?_
    refine w_zast hT c15 (by omega) (by omega) (by omega) (tX11_beside_0_ok (27, .bastore, 1) (List.mem_of_getElem? (i := 18) rfl)) (fun h25 c26 o27 => ?_)
    have c28 := (o27 m (k_sg_ne s_m s_be (by omega))).trans c4
    refine w_aload_n (List.Mem.head _) (tX11_beside_0_ok (28, .aload_n 0, 1) (List.mem_of_getElem? (i := 19) rfl)) ?_
    refine w_get (own := 16) rfl rfl (by decide) c28 f14 (tX11_beside_0_ok (29, .getfield 72, 3) (List.mem_of_getElem? (i := 20) rfl)) ?_
    refine w_bipush (by decide) (tX11_beside_0_ok (32, .bipush 18, 2) (List.mem_of_getElem? (i := 21) rfl)) (fun v29 e30 => ?_)
    refine w_iload_n (List.Mem.tail _ (List.Mem.tail _ (List.Mem.head _))) (tX11_beside_0_ok (34, .iload_n 2, 1) (List.mem_of_getElem? (i := 22) rfl)) ?_
    refine w_imul (by assumption) (by omega) (by omega) (tX11_beside_0_ok (35, .imul, 1) (List.mem_of_getElem? (i := 23) rfl)) (fun v31 e32 => ?_)
    refine w_iload_n (List.Mem.tail _ (List.Mem.head _)) (tX11_beside_0_ok (36, .iload_n 1, 1) (List.mem_of_getElem? (i := 24) rfl)) ?_
    refine w_iadd (by omega) (by omega) (tX11_beside_0_ok (37, .iadd, 1) (List.mem_of_getElem? (i := 25) rfl)) (fun v33 e34 => ?_)
    refine w_iload_n (List.Mem.tail _ (List.Mem.tail _ (List.Mem.tail _ (List.Mem.head _)))) (tX11_beside_0_ok (38, .iload_n 3, 1) (List.mem_of_getElem? (i := 26) rfl)) ?_
    refine w_zast hT c26 (by omega) (by omega) (by omega) (tX11_beside_0_ok (39, .bastore, 1) (List.mem_of_getElem? (i := 27) rfl)) (fun h35 c36 o37 => ?_)
    have c38 := (o37 m (k_sg_ne s_m s_be (by omega))).trans c28
    refine w_iconst (by decide) (tX11_beside_0_ok (40, .iconst 1, 1) (List.mem_of_getElem? (i := 28) rfl)) (fun v39 e40 => ?_)
    refine w_zret rfl (by omega) (by omega) (tX11_beside_0_ok (41, .ireturn, 1) (List.mem_of_getElem? (i := 29) rfl)) ?_
    exact hq _ _ (by split <;> omega)
  · refine w_iconst (by decide) (tX11_beside_0_ok (14, .iconst 0, 1) (List.mem_of_getElem? (i := 8) rfl)) (fun v41 e42 => ?_)
    refine w_zret rfl (by omega) (by omega) (tX11_beside_0_ok (15, .ireturn, 1) (List.mem_of_getElem? (i := 9) rfl)) ?_
    exact hq _ _ (by split <;> omega)
theorem q_person (hT : k_tys tys cA) {p y : Int32} (hf : 3 ≤ fr) (hl : 64 ≤ lo) (hH : k_H Sg cA Lb h) (sm : sgM0 Sg m) (H : bR h m τ) (hq : ∀ (v : Int32) (h1 : ch_H), bR h1 m (n_person p y τ) → v.toInt = (if 1 ≤ p.toInt ∧ p.toInt ≤ 9 ∧ (0 ≤ y.toInt ∧ y.toInt < 2 * (τ.1 : Int) ∨ 12 ≤ y.toInt ∧ y.toInt < 12 + (τ.2.1 : Int)) ∧ τ.2.2.1 < 8 then (τ.2.2.1 : Int) else -1) → Q (some (.int v)) h1) : ww l D tys A X fr lo mX11_person Q 0 [(0, .ref m), (1, .int p), (2, .int y)] [] h := by
  obtain ⟨fs, n, ga, pe, ta, c_m, f20, f32, f33, f34, t0, t1, t2, t3⟩ := H
  obtain ⟨L, s_m, hL⟩ : ∃ L, Sg m = some L ∧ (L = 50 ∨ L = 70) := sm.elim (fun q => ⟨_, q, Or.inl rfl⟩) (fun q => ⟨_, q, Or.inr rfl⟩)
  have fl : fs.length = 47 ∧ (0 ≤ n.toInt ∧ n.toInt ≤ 6) ∧ (0 ≤ ga.toInt ∧ ga.toInt ≤ 6) ∧ (0 ≤ pe.toInt ∧ pe.toInt ≤ 8) ∧ (0 ≤ ta.toInt ∧ ta.toInt ≤ 6) ∧ (∃ a, fs[28]? = some (.ref a) ∧ Sg a = some 62) ∧ (∃ a, fs[22]? = some (.ref a) ∧ Sg a = some 56) := by
    rcases sm with s9 | s9
    · obtain ⟨w9, c9, fl, ty⟩ := hH.obj s9 (L := 50) rfl
      rw [c_m] at c9
      cases c9
      obtain ⟨v20, e20, y20⟩ := ty 20 _ rfl
      rw [f20] at e20
      cases e20
      obtain ⟨x20, z20, r20, u20⟩ := k_v.int y20
      cases z20
      have r20 : (0 : Int) ≤ n.toInt := r20
      have u20 : n.toInt ≤ (6 : Int) := u20
      obtain ⟨v32, e32, y32⟩ := ty 32 _ rfl
      rw [f32] at e32
      cases e32
      obtain ⟨x32, z32, r32, u32⟩ := k_v.int y32
      cases z32
      have r32 : (0 : Int) ≤ ga.toInt := r32
      have u32 : ga.toInt ≤ (6 : Int) := u32
      obtain ⟨v33, e33, y33⟩ := ty 33 _ rfl
      rw [f33] at e33
      cases e33
      obtain ⟨x33, z33, r33, u33⟩ := k_v.int y33
      cases z33
      have r33 : (0 : Int) ≤ pe.toInt := r33
      have u33 : pe.toInt ≤ (8 : Int) := u33
      obtain ⟨v34, e34, y34⟩ := ty 34 _ rfl
      rw [f34] at e34
      cases e34
      obtain ⟨x34, z34, r34, u34⟩ := k_v.int y34
      cases z34
      have r34 : (0 : Int) ≤ ta.toInt := r34
      have u34 : ta.toInt ≤ (6 : Int) := u34
      obtain ⟨v28, e28, y28⟩ := ty 28 _ rfl
      obtain ⟨x28, rfl, z28⟩ := k_v.ref y28
      obtain ⟨v22, e22, y22⟩ := ty 22 _ rfl
      obtain ⟨x22, rfl, z22⟩ := k_v.ref y22
      exact ⟨fl, by omega, by omega, by omega, by omega, ⟨_, e28, z28⟩, ⟨_, e22, z22⟩⟩
    · obtain ⟨w9, c9, fl, ty⟩ := hH.obj s9 (L := 70) rfl
      rw [c_m] at c9
      cases c9
      obtain ⟨v20, e20, y20⟩ := ty 20 _ rfl
      rw [f20] at e20
      cases e20
      obtain ⟨x20, z20, r20, u20⟩ := k_v.int y20
      cases z20
      have r20 : (0 : Int) ≤ n.toInt := r20
      have u20 : n.toInt ≤ (0 : Int) := u20
      obtain ⟨v32, e32, y32⟩ := ty 32 _ rfl
      rw [f32] at e32
      cases e32
      obtain ⟨x32, z32, r32, u32⟩ := k_v.int y32
      cases z32
      have r32 : (0 : Int) ≤ ga.toInt := r32
      have u32 : ga.toInt ≤ (0 : Int) := u32
      obtain ⟨v33, e33, y33⟩ := ty 33 _ rfl
      rw [f33] at e33
      cases e33
      obtain ⟨x33, z33, r33, u33⟩ := k_v.int y33
      cases z33
      have r33 : (0 : Int) ≤ pe.toInt := r33
      have u33 : pe.toInt ≤ (0 : Int) := u33
      obtain ⟨v34, e34, y34⟩ := ty 34 _ rfl
      rw [f34] at e34
      cases e34
      obtain ⟨x34, z34, r34, u34⟩ := k_v.int y34
      cases z34
      have r34 : (0 : Int) ≤ ta.toInt := r34
      have u34 : ta.toInt ≤ (0 : Int) := u34
      obtain ⟨v28, e28, y28⟩ := ty 28 _ rfl
      obtain ⟨x28, rfl, z28⟩ := k_v.ref y28
      obtain ⟨v22, e22, y22⟩ := ty 22 _ rfl
      obtain ⟨x22, rfl, z22⟩ := k_v.ref y22
      exact ⟨fl, by omega, by omega, by omega, by omega, ⟨_, e28, z28⟩, ⟨_, e22, z22⟩⟩
  obtain ⟨fl, bn, bg, bp, bt, ⟨we, q_we, s_we⟩, to, q_to, s_to⟩ := fl
  obtain ⟨z_we, c_we, -⟩ := hH.arr s_we (L := 62) rfl
  obtain ⟨z_to, c_to, -⟩ := hH.arr s_to (L := 56) rfl
  refine w_aload_n (List.Mem.head _) (tX11_person_0_ok (0, .aload_n 0, 1) (List.mem_of_getElem? (i := 0) rfl)) ?_
  refine w_iconst (by decide) (tX11_person_0_ok (1, .iconst 0, 1) (List.mem_of_getElem? (i := 1) rfl)) (fun v1 e2 => ?_)
  refine w_putF (own := 16) (ci := 10) (k := 0) rfl rfl (by decide) rfl ⟨rfl, rfl⟩ c_m (by rw [fl]; decide) (tX11_person_0_ok (2, .putfield 85, 3) (List.mem_of_getElem? (i := 2) rfl)) (fun h3 fs6 l7 k8 j9 c4 o5 => ?_)
  rw [fl] at l7
  have f10 := (j9 20 (by decide)).trans f20
  have f11 := (j9 32 (by decide)).trans f32
  have f12 := (j9 33 (by decide)).trans f33
  have f13 := (j9 34 (by decide)).trans f34
  have f14 := (j9 28 (by decide)).trans q_we
  have f15 := (j9 22 (by decide)).trans q_to
  have c16 := (o5 we (k_sg_ne s_we s_m (by omega))).trans c_we
  have c17 := (o5 to (k_sg_ne s_to s_m (by omega))).trans c_to
  refine w_aload_n (List.Mem.head _) (tX11_person_0_ok (5, .aload_n 0, 1) (List.mem_of_getElem? (i := 3) rfl)) ?_
  refine w_get (own := 16) rfl rfl (by decide) c4 f12 (tX11_person_0_ok (6, .getfield 261, 3) (List.mem_of_getElem? (i := 4) rfl)) ?_
  refine w_bipush (by decide) (tX11_person_0_ok (9, .bipush 8, 2) (List.mem_of_getElem? (i := 5) rfl)) (fun v18 e19 => ?_)
  refine w_icmp_eq (tgt := 32) (tX11_person_0_ok (11, .if_icmp .eq 21, 3) (List.mem_of_getElem? (i := 6) rfl)) rfl (fun b20 => ?_) (fun b20 => ?_)
  · refine w_iconst (by decide) (tX11_person_0_ok (32, .iconst (-1), 1) (List.mem_of_getElem? (i := 16) rfl)) (fun v21 e22 => ?_)
    refine w_iret rfl (tX11_person_0_ok (33, .ireturn, 1) (List.mem_of_getElem? (i := 17) rfl)) ?_
    refine hq _ _ ?_ (by split <;> omega)
    unfold n_person
    rw [if_neg (by omega)]
    exact ⟨_, _, _, _, _, c4, f10, f11, f12, f13, t0, t1, t2, t3⟩
  · refine w_iload_n (List.Mem.tail _ (List.Mem.head _)) (tX11_person_0_ok (14, .iload_n 1, 1) (List.mem_of_getElem? (i := 7) rfl)) ?_
    refine w_iconst (by decide) (tX11_person_0_ok (15, .iconst 1, 1) (List.mem_of_getElem? (i := 8) rfl)) (fun v23 e24 => ?_)
    refine w_bipush (by decide) (tX11_person_0_ok (16, .bipush 9, 2) (List.mem_of_getElem? (i := 9) rfl)) (fun v25 e26 => ?_)
    refine w_callS (own := 16) (mi := 199) [.int p, .int v23, .int v25] [] [(0, .int p), (1, .int v23), (2, .int v25)] rfl (cllw_X11 (207, 1, 199) (List.mem_of_getElem? (i := 2) rfl)) rfl rfl (by omega) (w_lo (n := 22) rfl (by omega)) (Nat.le_of_ble_eq_true rfl) (Nat.le_of_ble_eq_true rfl) rfl (tX11_person_0_ok (18, .invokestatic 207, 3) (List.mem_of_getElem? (i := 10) rfl)) (r_isIn (fun v27 e28 => ?_))
    show ww l D tys A X fr lo mX11_person Q 21 [(0, .ref m), (1, .int p), (2, .int y)] [.int v27] h3
    refine w_if_eq (tgt := 32) (tX11_person_0_ok (21, .ifCond .eq 11, 3) (List.mem_of_getElem? (i := 11) rfl)) rfl (fun b29 => ?_) (fun b29 => ?_)
    · refine w_iconst (by decide) (tX11_person_0_ok (32, .iconst (-1), 1) (List.mem_of_getElem? (i := 16) rfl)) (fun v30 e31 => ?_)
      refine w_iret rfl (tX11_person_0_ok (33, .ireturn, 1) (List.mem_of_getElem? (i := 17) rfl)) ?_
      refine hq _ _ ?_ (by split <;> omega)
      unfold n_person
      rw [if_neg (by omega)]
      exact ⟨_, _, _, _, _, c4, f10, f11, f12, f13, t0, t1, t2, t3⟩
    · refine w_aload_n (List.Mem.head _) (tX11_person_0_ok (24, .aload_n 0, 1) (List.mem_of_getElem? (i := 12) rfl)) ?_
      refine w_iload_n (List.Mem.tail _ (List.Mem.tail _ (List.Mem.head _))) (tX11_person_0_ok (25, .iload_n 2, 1) (List.mem_of_getElem? (i := 13) rfl)) ?_
      refine w_callV (own := 16) (mi := 202) [.int y] [] [(0, .ref m), (1, .int y)] rfl (cllw_X11 (317, 0, 202) (List.mem_of_getElem? (i := 47) rfl)) rfl rfl c4 rfl (by omega) (w_lo (n := 21) rfl (by omega)) (Nat.le_of_ble_eq_true rfl) (Nat.le_of_ble_eq_true rfl) rfl (tX11_person_0_ok (26, .invokevirtual 317, 3) (List.mem_of_getElem? (i := 14) rfl)) (q_isPlace (by omega) (w_sub (n := 21) rfl (by omega)) c4 f10 bn f11 bg (fun v32 e33 => ?_))
      show ww l D tys A X fr lo mX11_person Q 29 [(0, .ref m), (1, .int p), (2, .int y)] [.int v32] h3
      refine w_if_ne (tgt := 34) (tX11_person_0_ok (29, .ifCond .ne 5, 3) (List.mem_of_getElem? (i := 15) rfl)) rfl (fun b34 => ?_) (fun b34 => ?_)
      · refine w_aload_n (List.Mem.head _) (tX11_person_0_ok (34, .aload_n 0, 1) (List.mem_of_getElem? (i := 18) rfl)) ?_
        refine w_get (own := 16) rfl rfl (by decide) c4 f14 (tX11_person_0_ok (35, .getfield 63, 3) (List.mem_of_getElem? (i := 19) rfl)) ?_
        refine w_aload_n (List.Mem.head _) (tX11_person_0_ok (38, .aload_n 0, 1) (List.mem_of_getElem? (i := 20) rfl)) ?_
        refine w_get (own := 16) rfl rfl (by decide) c4 f12 (tX11_person_0_ok (39, .getfield 261, 3) (List.mem_of_getElem? (i := 21) rfl)) ?_
        refine w_iload_n (List.Mem.tail _ (List.Mem.head _)) (tX11_person_0_ok (42, .iload_n 1, 1) (List.mem_of_getElem? (i := 22) rfl)) ?_
        refine w_iast hT c16 (by omega) (by omega) (tX11_person_0_ok (43, .iastore, 1) (List.mem_of_getElem? (i := 23) rfl)) (fun h35 c36 o37 => ?_)
        have c38 := (o37 to (k_sg_ne s_to s_we (by omega))).trans c17
        have c39 := (o37 m (k_sg_ne s_m s_we (by omega))).trans c4
        refine w_aload_n (List.Mem.head _) (tX11_person_0_ok (44, .aload_n 0, 1) (List.mem_of_getElem? (i := 24) rfl)) ?_
        refine w_get (own := 16) rfl rfl (by decide) c39 f15 (tX11_person_0_ok (45, .getfield 45, 3) (List.mem_of_getElem? (i := 25) rfl)) ?_
        refine w_bipush (by decide) (tX11_person_0_ok (48, .bipush 30, 2) (List.mem_of_getElem? (i := 26) rfl)) (fun v40 e41 => ?_)
        refine w_aload_n (List.Mem.head _) (tX11_person_0_ok (50, .aload_n 0, 1) (List.mem_of_getElem? (i := 27) rfl)) ?_
        refine w_get (own := 16) rfl rfl (by decide) c39 f12 (tX11_person_0_ok (51, .getfield 261, 3) (List.mem_of_getElem? (i := 28) rfl)) ?_
        refine w_iadd (by omega) (by omega) (tX11_person_0_ok (54, .iadd, 1) (List.mem_of_getElem? (i := 29) rfl)) (fun v42 e43 => ?_)
        refine w_iload_n (List.Mem.tail _ (List.Mem.tail _ (List.Mem.head _))) (tX11_person_0_ok (55, .iload_n 2, 1) (List.mem_of_getElem? (i := 30) rfl)) ?_
        refine w_iast hT c38 (by omega) (by omega) (tX11_person_0_ok (56, .iastore, 1) (List.mem_of_getElem? (i := 31) rfl)) (fun h44 c45 o46 => ?_)
        have c47 := (o46 we (k_sg_ne s_we s_to (by omega))).trans c36
        have c48 := (o46 m (k_sg_ne s_m s_to (by omega))).trans c39
        refine w_aload_n (List.Mem.head _) (tX11_person_0_ok (57, .aload_n 0, 1) (List.mem_of_getElem? (i := 32) rfl)) ?_
        refine w_dup rfl (tX11_person_0_ok (58, .dup, 1) (List.mem_of_getElem? (i := 33) rfl)) ?_
        refine w_get (own := 16) rfl rfl (by decide) c48 f12 (tX11_person_0_ok (59, .getfield 261, 3) (List.mem_of_getElem? (i := 34) rfl)) ?_
        refine w_iconst (by decide) (tX11_person_0_ok (62, .iconst 1, 1) (List.mem_of_getElem? (i := 35) rfl)) (fun v49 e50 => ?_)
        refine w_iadd (by omega) (by omega) (tX11_person_0_ok (63, .iadd, 1) (List.mem_of_getElem? (i := 36) rfl)) (fun v51 e52 => ?_)
        refine w_putF (own := 16) (ci := 10) (k := 33) rfl rfl (by decide) rfl ⟨rfl, rfl⟩ c48 (by rw [l7]; decide) (tX11_person_0_ok (64, .putfield 261, 3) (List.mem_of_getElem? (i := 37) rfl)) (fun h53 fs56 l57 k58 j59 c54 o55 => ?_)
        rw [l7] at l57
        have f60 := (j59 0 (by decide)).trans k8
        have f61 := (j59 20 (by decide)).trans f10
        have f62 := (j59 32 (by decide)).trans f11
        have f63 := (j59 34 (by decide)).trans f13
        have f64 := (j59 28 (by decide)).trans f14
        have f65 := (j59 22 (by decide)).trans f15
        have c66 := (o55 we (k_sg_ne s_we s_m (by omega))).trans c47
        have c67 := (o55 to (k_sg_ne s_to s_m (by omega))).trans c45
        refine w_aload_n (List.Mem.head _) (tX11_person_0_ok (67, .aload_n 0, 1) (List.mem_of_getElem? (i := 38) rfl)) ?_
        refine w_get (own := 16) rfl rfl (by decide) c54 k58 (tX11_person_0_ok (68, .getfield 261, 3) (List.mem_of_getElem? (i := 39) rfl)) ?_
        refine w_iconst (by decide) (tX11_person_0_ok (71, .iconst 1, 1) (List.mem_of_getElem? (i := 40) rfl)) (fun v68 e69 => ?_)
        refine w_isub (by omega) (by omega) (tX11_person_0_ok (72, .isub, 1) (List.mem_of_getElem? (i := 41) rfl)) (fun v70 e71 => ?_)
        refine w_iret rfl (tX11_person_0_ok (73, .ireturn, 1) (List.mem_of_getElem? (i := 42) rfl)) ?_
        refine hq _ _ ?_ (by split <;> omega)
        unfold n_person
        rw [if_pos (by omega)]
        exact ⟨_, _, _, _, _, c54, f61, f62, k58, f63, t0, t1, by show v51.toInt = ((τ.2.2.1 + 1 : Nat) : Int); omega, t3⟩
      · refine w_iconst (by decide) (tX11_person_0_ok (32, .iconst (-1), 1) (List.mem_of_getElem? (i := 16) rfl)) (fun v72 e73 => ?_)
        refine w_iret rfl (tX11_person_0_ok (33, .ireturn, 1) (List.mem_of_getElem? (i := 17) rfl)) ?_
        refine hq _ _ ?_ (by split <;> omega)
        unfold n_person
        rw [if_neg (by omega)]
        exact ⟨_, _, _, _, _, c4, f10, f11, f12, f13, t0, t1, t2, t3⟩
theorem q_want (hT : k_tys tys cA) {p y : Int32} (hf : 3 ≤ fr) (hl : 64 ≤ lo) (hH : k_H Sg cA Lb h) (sm : sgM0 Sg m) (H : bR h m τ) (hq : ∀ (v : Int32) (h1 : ch_H), v.toInt = (if 0 ≤ p.toInt ∧ p.toInt < 2 * (τ.1 : Int) ∧ -1 ≤ y.toInt ∧ y.toInt ≤ 200 then 1 else 0) → Q (some (.int v)) h1) : ww l D tys A X fr lo mX11_want Q 0 [(0, .ref m), (1, .int p), (2, .int y)] [] h := by
  obtain ⟨fs, n, ga, pe, ta, c_m, f20, f32, f33, f34, t0, t1, t2, t3⟩ := H
  obtain ⟨L, s_m, hL⟩ : ∃ L, Sg m = some L ∧ (L = 50 ∨ L = 70) := sm.elim (fun q => ⟨_, q, Or.inl rfl⟩) (fun q => ⟨_, q, Or.inr rfl⟩)
  have fl : fs.length = 47 ∧ (0 ≤ n.toInt ∧ n.toInt ≤ 6) ∧ (0 ≤ ga.toInt ∧ ga.toInt ≤ 6) ∧ (0 ≤ pe.toInt ∧ pe.toInt ≤ 8) ∧ (0 ≤ ta.toInt ∧ ta.toInt ≤ 6) ∧ (∃ a, fs[26]? = some (.ref a) ∧ Sg a = some 60) := by
    rcases sm with s9 | s9
    · obtain ⟨w9, c9, fl, ty⟩ := hH.obj s9 (L := 50) rfl
      rw [c_m] at c9
      cases c9
      obtain ⟨v20, e20, y20⟩ := ty 20 _ rfl
      rw [f20] at e20
      cases e20
      obtain ⟨x20, z20, r20, u20⟩ := k_v.int y20
      cases z20
      have r20 : (0 : Int) ≤ n.toInt := r20
      have u20 : n.toInt ≤ (6 : Int) := u20
      obtain ⟨v32, e32, y32⟩ := ty 32 _ rfl
      rw [f32] at e32
      cases e32
      obtain ⟨x32, z32, r32, u32⟩ := k_v.int y32
      cases z32
      have r32 : (0 : Int) ≤ ga.toInt := r32
      have u32 : ga.toInt ≤ (6 : Int) := u32
      obtain ⟨v33, e33, y33⟩ := ty 33 _ rfl
      rw [f33] at e33
      cases e33
      obtain ⟨x33, z33, r33, u33⟩ := k_v.int y33
      cases z33
      have r33 : (0 : Int) ≤ pe.toInt := r33
      have u33 : pe.toInt ≤ (8 : Int) := u33
      obtain ⟨v34, e34, y34⟩ := ty 34 _ rfl
      rw [f34] at e34
      cases e34
      obtain ⟨x34, z34, r34, u34⟩ := k_v.int y34
      cases z34
      have r34 : (0 : Int) ≤ ta.toInt := r34
      have u34 : ta.toInt ≤ (6 : Int) := u34
      obtain ⟨v26, e26, y26⟩ := ty 26 _ rfl
      obtain ⟨x26, rfl, z26⟩ := k_v.ref y26
      exact ⟨fl, by omega, by omega, by omega, by omega, ⟨_, e26, z26⟩⟩
    · obtain ⟨w9, c9, fl, ty⟩ := hH.obj s9 (L := 70) rfl
      rw [c_m] at c9
      cases c9
      obtain ⟨v20, e20, y20⟩ := ty 20 _ rfl
      rw [f20] at e20
      cases e20
      obtain ⟨x20, z20, r20, u20⟩ := k_v.int y20
      cases z20
      have r20 : (0 : Int) ≤ n.toInt := r20
      have u20 : n.toInt ≤ (0 : Int) := u20
      obtain ⟨v32, e32, y32⟩ := ty 32 _ rfl
      rw [f32] at e32
      cases e32
      obtain ⟨x32, z32, r32, u32⟩ := k_v.int y32
      cases z32
      have r32 : (0 : Int) ≤ ga.toInt := r32
      have u32 : ga.toInt ≤ (0 : Int) := u32
      obtain ⟨v33, e33, y33⟩ := ty 33 _ rfl
      rw [f33] at e33
      cases e33
      obtain ⟨x33, z33, r33, u33⟩ := k_v.int y33
      cases z33
      have r33 : (0 : Int) ≤ pe.toInt := r33
      have u33 : pe.toInt ≤ (0 : Int) := u33
      obtain ⟨v34, e34, y34⟩ := ty 34 _ rfl
      rw [f34] at e34
      cases e34
      obtain ⟨x34, z34, r34, u34⟩ := k_v.int y34
      cases z34
      have r34 : (0 : Int) ≤ ta.toInt := r34
      have u34 : ta.toInt ≤ (0 : Int) := u34
      obtain ⟨v26, e26, y26⟩ := ty 26 _ rfl
      obtain ⟨x26, rfl, z26⟩ := k_v.ref y26
      exact ⟨fl, by omega, by omega, by omega, by omega, ⟨_, e26, z26⟩⟩
  obtain ⟨fl, bn, bg, bp, bt, wn, q_wn, s_wn⟩ := fl
  obtain ⟨z_wn, c_wn, -⟩ := hH.arr s_wn (L := 60) rfl
  refine w_aload_n (List.Mem.head _) (tX11_want_0_ok (0, .aload_n 0, 1) (List.mem_of_getElem? (i := 0) rfl)) ?_
  refine w_iconst (by decide) (tX11_want_0_ok (1, .iconst 0, 1) (List.mem_of_getElem? (i := 1) rfl)) (fun v1 e2 => ?_)
  refine w_putF (own := 16) (ci := 10) (k := 0) rfl rfl (by decide) rfl ⟨rfl, rfl⟩ c_m (by rw [fl]; decide) (tX11_want_0_ok (2, .putfield 85, 3) (List.mem_of_getElem? (i := 2) rfl)) (fun h3 fs6 l7 k8 j9 c4 o5 => ?_)
  rw [fl] at l7
  have f10 := (j9 20 (by decide)).trans f20
  have f11 := (j9 32 (by decide)).trans f32
  have f12 := (j9 33 (by decide)).trans f33
  have f13 := (j9 34 (by decide)).trans f34
  have f14 := (j9 26 (by decide)).trans q_wn
  have c15 := (o5 wn (k_sg_ne s_wn s_m (by omega))).trans c_wn
  refine w_aload_n (List.Mem.head _) (tX11_want_0_ok (5, .aload_n 0, 1) (List.mem_of_getElem? (i := 3) rfl)) ?_
  refine w_iload_n (List.Mem.tail _ (List.Mem.head _)) (tX11_want_0_ok (6, .iload_n 1, 1) (List.mem_of_getElem? (i := 4) rfl)) ?_
  refine w_callV (own := 16) (mi := 203) [.int p] [] [(0, .ref m), (1, .int p)] rfl (cllw_X11 (274, 0, 203) (List.mem_of_getElem? (i := 38) rfl)) rfl rfl c4 rfl (by omega) (w_lo (n := 21) rfl (by omega)) (Nat.le_of_ble_eq_true rfl) (Nat.le_of_ble_eq_true rfl) rfl (tX11_want_0_ok (7, .invokevirtual 274, 3) (List.mem_of_getElem? (i := 5) rfl)) (q_isRoom c4 f10 bn (fun v16 e17 => ?_))
  show ww l D tys A X fr lo mX11_want Q 10 [(0, .ref m), (1, .int p), (2, .int y)] [.int v16] h3
  refine w_if_eq (tgt := 24) (tX11_want_0_ok (10, .ifCond .eq 14, 3) (List.mem_of_getElem? (i := 6) rfl)) rfl (fun b18 => ?_) (fun b18 => ?_)
  · refine w_iconst (by decide) (tX11_want_0_ok (24, .iconst 0, 1) (List.mem_of_getElem? (i := 12) rfl)) (fun v19 e20 => ?_)
    refine w_zret rfl (by omega) (by omega) (tX11_want_0_ok (25, .ireturn, 1) (List.mem_of_getElem? (i := 13) rfl)) ?_
    exact hq _ _ (by split <;> omega)
  · refine w_iload_n (List.Mem.tail _ (List.Mem.tail _ (List.Mem.head _))) (tX11_want_0_ok (13, .iload_n 2, 1) (List.mem_of_getElem? (i := 7) rfl)) ?_
    refine w_iconst (by decide) (tX11_want_0_ok (14, .iconst (-1), 1) (List.mem_of_getElem? (i := 8) rfl)) (fun v21 e22 => ?_)
    refine w_sipush (by decide) (tX11_want_0_ok (15, .sipush 200, 3) (List.mem_of_getElem? (i := 9) rfl)) (fun v23 e24 => ?_)
    refine w_callS (own := 16) (mi := 199) [.int y, .int v21, .int v23] [] [(0, .int y), (1, .int v21), (2, .int v23)] rfl (cllw_X11 (207, 1, 199) (List.mem_of_getElem? (i := 2) rfl)) rfl rfl (by omega) (w_lo (n := 22) rfl (by omega)) (Nat.le_of_ble_eq_true rfl) (Nat.le_of_ble_eq_true rfl) rfl (tX11_want_0_ok (18, .invokestatic 207, 3) (List.mem_of_getElem? (i := 10) rfl)) (r_isIn (fun v25 e26 => ?_))
    show ww l D tys A X fr lo mX11_want Q 21 [(0, .ref m), (1, .int p), (2, .int y)] [.int v25] h3
    refine w_if_ne (tgt := 26) (tX11_want_0_ok (21, .ifCond .ne 5, 3) (List.mem_of_getElem? (i := 11) rfl)) rfl (fun b27 => ?_) (fun b27 => ?_)
    · refine w_aload_n (List.Mem.head _) (tX11_want_0_ok (26, .aload_n 0, 1) (List.mem_of_getElem? (i := 14) rfl)) ?_
      refine w_get (own := 16) rfl rfl (by decide) c4 f14 (tX11_want_0_ok (27, .getfield 57, 3) (List.mem_of_getElem? (i := 15) rfl)) ?_
      refine w_iload_n (List.Mem.tail _ (List.Mem.head _)) (tX11_want_0_ok (30, .iload_n 1, 1) (List.mem_of_getElem? (i := 16) rfl)) ?_
      refine w_iload_n (List.Mem.tail _ (List.Mem.tail _ (List.Mem.head _))) (tX11_want_0_ok (31, .iload_n 2, 1) (List.mem_of_getElem? (i := 17) rfl)) ?_
      refine w_iast hT c15 (by omega) (by omega) (tX11_want_0_ok (32, .iastore, 1) (List.mem_of_getElem? (i := 18) rfl)) (fun h28 c29 o30 => ?_)
      have c31 := (o30 m (k_sg_ne s_m s_wn (by omega))).trans c4
      refine w_iconst (by decide) (tX11_want_0_ok (33, .iconst 1, 1) (List.mem_of_getElem? (i := 19) rfl)) (fun v32 e33 => ?_)
      refine w_zret rfl (by omega) (by omega) (tX11_want_0_ok (34, .ireturn, 1) (List.mem_of_getElem? (i := 20) rfl)) ?_
      exact hq _ _ (by split <;> omega)
    · refine w_iconst (by decide) (tX11_want_0_ok (24, .iconst 0, 1) (List.mem_of_getElem? (i := 12) rfl)) (fun v34 e35 => ?_)
      refine w_zret rfl (by omega) (by omega) (tX11_want_0_ok (25, .ireturn, 1) (List.mem_of_getElem? (i := 13) rfl)) ?_
      exact hq _ _ (by split <;> omega)
theorem q_task (hT : k_tys tys cA) {p y : Int32} (hf : 3 ≤ fr) (hl : 64 ≤ lo) (hH : k_H Sg cA Lb h) (sm : sgM0 Sg m) (H : bR h m τ) (hq : ∀ (v : Int32) (h1 : ch_H), bR h1 m (n_task p y τ) → v.toInt = (if 0 ≤ p.toInt ∧ p.toInt < (τ.2.2.1 : Int) ∧ (0 ≤ y.toInt ∧ y.toInt < 2 * (τ.1 : Int) ∨ 12 ≤ y.toInt ∧ y.toInt < 12 + (τ.2.1 : Int)) ∧ τ.2.2.2 < 6 then (τ.2.2.2 : Int) + 1 else -1) → Q (some (.int v)) h1) : ww l D tys A X fr lo mX11_task Q 0 [(0, .ref m), (1, .int p), (2, .int y)] [] h := by
  obtain ⟨fs, n, ga, pe, ta, c_m, f20, f32, f33, f34, t0, t1, t2, t3⟩ := H
  obtain ⟨L, s_m, hL⟩ : ∃ L, Sg m = some L ∧ (L = 50 ∨ L = 70) := sm.elim (fun q => ⟨_, q, Or.inl rfl⟩) (fun q => ⟨_, q, Or.inr rfl⟩)
  have fl : fs.length = 47 ∧ (0 ≤ n.toInt ∧ n.toInt ≤ 6) ∧ (0 ≤ ga.toInt ∧ ga.toInt ≤ 6) ∧ (0 ≤ pe.toInt ∧ pe.toInt ≤ 8) ∧ (0 ≤ ta.toInt ∧ ta.toInt ≤ 6) ∧ (∃ a, fs[29]? = some (.ref a) ∧ Sg a = some 63) ∧ (∃ a, fs[30]? = some (.ref a) ∧ Sg a = some 64) := by
    rcases sm with s9 | s9
    · obtain ⟨w9, c9, fl, ty⟩ := hH.obj s9 (L := 50) rfl
      rw [c_m] at c9
      cases c9
      obtain ⟨v20, e20, y20⟩ := ty 20 _ rfl
      rw [f20] at e20
      cases e20
      obtain ⟨x20, z20, r20, u20⟩ := k_v.int y20
      cases z20
      have r20 : (0 : Int) ≤ n.toInt := r20
      have u20 : n.toInt ≤ (6 : Int) := u20
      obtain ⟨v32, e32, y32⟩ := ty 32 _ rfl
      rw [f32] at e32
      cases e32
      obtain ⟨x32, z32, r32, u32⟩ := k_v.int y32
      cases z32
      have r32 : (0 : Int) ≤ ga.toInt := r32
      have u32 : ga.toInt ≤ (6 : Int) := u32
      obtain ⟨v33, e33, y33⟩ := ty 33 _ rfl
      rw [f33] at e33
      cases e33
      obtain ⟨x33, z33, r33, u33⟩ := k_v.int y33
      cases z33
      have r33 : (0 : Int) ≤ pe.toInt := r33
      have u33 : pe.toInt ≤ (8 : Int) := u33
      obtain ⟨v34, e34, y34⟩ := ty 34 _ rfl
      rw [f34] at e34
      cases e34
      obtain ⟨x34, z34, r34, u34⟩ := k_v.int y34
      cases z34
      have r34 : (0 : Int) ≤ ta.toInt := r34
      have u34 : ta.toInt ≤ (6 : Int) := u34
      obtain ⟨v29, e29, y29⟩ := ty 29 _ rfl
      obtain ⟨x29, rfl, z29⟩ := k_v.ref y29
      obtain ⟨v30, e30, y30⟩ := ty 30 _ rfl
      obtain ⟨x30, rfl, z30⟩ := k_v.ref y30
      exact ⟨fl, by omega, by omega, by omega, by omega, ⟨_, e29, z29⟩, ⟨_, e30, z30⟩⟩
    · obtain ⟨w9, c9, fl, ty⟩ := hH.obj s9 (L := 70) rfl
      rw [c_m] at c9
      cases c9
      obtain ⟨v20, e20, y20⟩ := ty 20 _ rfl
      rw [f20] at e20
      cases e20
      obtain ⟨x20, z20, r20, u20⟩ := k_v.int y20
      cases z20
      have r20 : (0 : Int) ≤ n.toInt := r20
      have u20 : n.toInt ≤ (0 : Int) := u20
      obtain ⟨v32, e32, y32⟩ := ty 32 _ rfl
      rw [f32] at e32
      cases e32
      obtain ⟨x32, z32, r32, u32⟩ := k_v.int y32
      cases z32
      have r32 : (0 : Int) ≤ ga.toInt := r32
      have u32 : ga.toInt ≤ (0 : Int) := u32
      obtain ⟨v33, e33, y33⟩ := ty 33 _ rfl
      rw [f33] at e33
      cases e33
      obtain ⟨x33, z33, r33, u33⟩ := k_v.int y33
      cases z33
      have r33 : (0 : Int) ≤ pe.toInt := r33
      have u33 : pe.toInt ≤ (0 : Int) := u33
      obtain ⟨v34, e34, y34⟩ := ty 34 _ rfl
      rw [f34] at e34
      cases e34
      obtain ⟨x34, z34, r34, u34⟩ := k_v.int y34
      cases z34
      have r34 : (0 : Int) ≤ ta.toInt := r34
      have u34 : ta.toInt ≤ (0 : Int) := u34
      obtain ⟨v29, e29, y29⟩ := ty 29 _ rfl
      obtain ⟨x29, rfl, z29⟩ := k_v.ref y29
      obtain ⟨v30, e30, y30⟩ := ty 30 _ rfl
      obtain ⟨x30, rfl, z30⟩ := k_v.ref y30
      exact ⟨fl, by omega, by omega, by omega, by omega, ⟨_, e29, z29⟩, ⟨_, e30, z30⟩⟩
  obtain ⟨fl, bn, bg, bp, bt, ⟨tp, q_tp, s_tp⟩, tl, q_tl, s_tl⟩ := fl
  obtain ⟨z_tp, c_tp, -⟩ := hH.arr s_tp (L := 63) rfl
  obtain ⟨z_tl, c_tl, -⟩ := hH.arr s_tl (L := 64) rfl
  refine w_aload_n (List.Mem.head _) (tX11_task_0_ok (0, .aload_n 0, 1) (List.mem_of_getElem? (i := 0) rfl)) ?_
  refine w_iconst (by decide) (tX11_task_0_ok (1, .iconst 0, 1) (List.mem_of_getElem? (i := 1) rfl)) (fun v1 e2 => ?_)
  refine w_putF (own := 16) (ci := 10) (k := 0) rfl rfl (by decide) rfl ⟨rfl, rfl⟩ c_m (by rw [fl]; decide) (tX11_task_0_ok (2, .putfield 85, 3) (List.mem_of_getElem? (i := 2) rfl)) (fun h3 fs6 l7 k8 j9 c4 o5 => ?_)
  rw [fl] at l7
  have f10 := (j9 20 (by decide)).trans f20
  have f11 := (j9 32 (by decide)).trans f32
  have f12 := (j9 33 (by decide)).trans f33
  have f13 := (j9 34 (by decide)).trans f34
  have f14 := (j9 29 (by decide)).trans q_tp
  have f15 := (j9 30 (by decide)).trans q_tl
  have c16 := (o5 tp (k_sg_ne s_tp s_m (by omega))).trans c_tp
  have c17 := (o5 tl (k_sg_ne s_tl s_m (by omega))).trans c_tl
  refine w_aload_n (List.Mem.head _) (tX11_task_0_ok (5, .aload_n 0, 1) (List.mem_of_getElem? (i := 3) rfl)) ?_
  refine w_get (own := 16) rfl rfl (by decide) c4 f13 (tX11_task_0_ok (6, .getfield 264, 3) (List.mem_of_getElem? (i := 4) rfl)) ?_
  refine w_bipush (by decide) (tX11_task_0_ok (9, .bipush 6, 2) (List.mem_of_getElem? (i := 5) rfl)) (fun v18 e19 => ?_)
  refine w_icmp_eq (tgt := 30) (tX11_task_0_ok (11, .if_icmp .eq 19, 3) (List.mem_of_getElem? (i := 6) rfl)) rfl (fun b20 => ?_) (fun b20 => ?_)
  · refine w_iconst (by decide) (tX11_task_0_ok (30, .iconst (-1), 1) (List.mem_of_getElem? (i := 15) rfl)) (fun v21 e22 => ?_)
    refine w_iret rfl (tX11_task_0_ok (31, .ireturn, 1) (List.mem_of_getElem? (i := 16) rfl)) ?_
    refine hq _ _ ?_ (by split <;> omega)
    unfold n_task
    rw [if_neg (by omega)]
    exact ⟨_, _, _, _, _, c4, f10, f11, f12, f13, t0, t1, t2, t3⟩
  · refine w_aload_n (List.Mem.head _) (tX11_task_0_ok (14, .aload_n 0, 1) (List.mem_of_getElem? (i := 7) rfl)) ?_
    refine w_iload_n (List.Mem.tail _ (List.Mem.head _)) (tX11_task_0_ok (15, .iload_n 1, 1) (List.mem_of_getElem? (i := 8) rfl)) ?_
    refine w_callV (own := 16) (mi := 201) [.int p] [] [(0, .ref m), (1, .int p)] rfl (cllw_X11 (326, 0, 201) (List.mem_of_getElem? (i := 49) rfl)) rfl rfl c4 rfl (by omega) (w_lo (n := 21) rfl (by omega)) (Nat.le_of_ble_eq_true rfl) (Nat.le_of_ble_eq_true rfl) rfl (tX11_task_0_ok (16, .invokevirtual 326, 3) (List.mem_of_getElem? (i := 9) rfl)) (q_isPerson c4 f12 (fun v23 e24 => ?_))
    show ww l D tys A X fr lo mX11_task Q 19 [(0, .ref m), (1, .int p), (2, .int y)] [.int v23] h3
    refine w_if_eq (tgt := 30) (tX11_task_0_ok (19, .ifCond .eq 11, 3) (List.mem_of_getElem? (i := 10) rfl)) rfl (fun b25 => ?_) (fun b25 => ?_)
    · refine w_iconst (by decide) (tX11_task_0_ok (30, .iconst (-1), 1) (List.mem_of_getElem? (i := 15) rfl)) (fun v26 e27 => ?_)
      refine w_iret rfl (tX11_task_0_ok (31, .ireturn, 1) (List.mem_of_getElem? (i := 16) rfl)) ?_
      refine hq _ _ ?_ (by split <;> omega)
      unfold n_task
      rw [if_neg (by omega)]
      exact ⟨_, _, _, _, _, c4, f10, f11, f12, f13, t0, t1, t2, t3⟩
    · refine w_aload_n (List.Mem.head _) (tX11_task_0_ok (22, .aload_n 0, 1) (List.mem_of_getElem? (i := 11) rfl)) ?_
      refine w_iload_n (List.Mem.tail _ (List.Mem.tail _ (List.Mem.head _))) (tX11_task_0_ok (23, .iload_n 2, 1) (List.mem_of_getElem? (i := 12) rfl)) ?_
      refine w_callV (own := 16) (mi := 202) [.int y] [] [(0, .ref m), (1, .int y)] rfl (cllw_X11 (317, 0, 202) (List.mem_of_getElem? (i := 47) rfl)) rfl rfl c4 rfl (by omega) (w_lo (n := 21) rfl (by omega)) (Nat.le_of_ble_eq_true rfl) (Nat.le_of_ble_eq_true rfl) rfl (tX11_task_0_ok (24, .invokevirtual 317, 3) (List.mem_of_getElem? (i := 13) rfl)) (q_isPlace (by omega) (w_sub (n := 21) rfl (by omega)) c4 f10 bn f11 bg (fun v28 e29 => ?_))
      show ww l D tys A X fr lo mX11_task Q 27 [(0, .ref m), (1, .int p), (2, .int y)] [.int v28] h3
      refine w_if_ne (tgt := 32) (tX11_task_0_ok (27, .ifCond .ne 5, 3) (List.mem_of_getElem? (i := 14) rfl)) rfl (fun b30 => ?_) (fun b30 => ?_)
      · refine w_aload_n (List.Mem.head _) (tX11_task_0_ok (32, .aload_n 0, 1) (List.mem_of_getElem? (i := 17) rfl)) ?_
        refine w_get (own := 16) rfl rfl (by decide) c4 f14 (tX11_task_0_ok (33, .getfield 66, 3) (List.mem_of_getElem? (i := 18) rfl)) ?_
        refine w_aload_n (List.Mem.head _) (tX11_task_0_ok (36, .aload_n 0, 1) (List.mem_of_getElem? (i := 19) rfl)) ?_
        refine w_get (own := 16) rfl rfl (by decide) c4 f13 (tX11_task_0_ok (37, .getfield 264, 3) (List.mem_of_getElem? (i := 20) rfl)) ?_
        refine w_iload_n (List.Mem.tail _ (List.Mem.head _)) (tX11_task_0_ok (40, .iload_n 1, 1) (List.mem_of_getElem? (i := 21) rfl)) ?_
        refine w_iast hT c16 (by omega) (by omega) (tX11_task_0_ok (41, .iastore, 1) (List.mem_of_getElem? (i := 22) rfl)) (fun h31 c32 o33 => ?_)
        have c34 := (o33 tl (k_sg_ne s_tl s_tp (by omega))).trans c17
        have c35 := (o33 m (k_sg_ne s_m s_tp (by omega))).trans c4
        refine w_aload_n (List.Mem.head _) (tX11_task_0_ok (42, .aload_n 0, 1) (List.mem_of_getElem? (i := 23) rfl)) ?_
        refine w_get (own := 16) rfl rfl (by decide) c35 f15 (tX11_task_0_ok (43, .getfield 69, 3) (List.mem_of_getElem? (i := 24) rfl)) ?_
        refine w_aload_n (List.Mem.head _) (tX11_task_0_ok (46, .aload_n 0, 1) (List.mem_of_getElem? (i := 25) rfl)) ?_
        refine w_get (own := 16) rfl rfl (by decide) c35 f13 (tX11_task_0_ok (47, .getfield 264, 3) (List.mem_of_getElem? (i := 26) rfl)) ?_
        refine w_iload_n (List.Mem.tail _ (List.Mem.tail _ (List.Mem.head _))) (tX11_task_0_ok (50, .iload_n 2, 1) (List.mem_of_getElem? (i := 27) rfl)) ?_
        refine w_iast hT c34 (by omega) (by omega) (tX11_task_0_ok (51, .iastore, 1) (List.mem_of_getElem? (i := 28) rfl)) (fun h36 c37 o38 => ?_)
        have c39 := (o38 tp (k_sg_ne s_tp s_tl (by omega))).trans c32
        have c40 := (o38 m (k_sg_ne s_m s_tl (by omega))).trans c35
        refine w_aload_n (List.Mem.head _) (tX11_task_0_ok (52, .aload_n 0, 1) (List.mem_of_getElem? (i := 29) rfl)) ?_
        refine w_dup rfl (tX11_task_0_ok (53, .dup, 1) (List.mem_of_getElem? (i := 30) rfl)) ?_
        refine w_get (own := 16) rfl rfl (by decide) c40 f13 (tX11_task_0_ok (54, .getfield 264, 3) (List.mem_of_getElem? (i := 31) rfl)) ?_
        refine w_iconst (by decide) (tX11_task_0_ok (57, .iconst 1, 1) (List.mem_of_getElem? (i := 32) rfl)) (fun v41 e42 => ?_)
        refine w_iadd (by omega) (by omega) (tX11_task_0_ok (58, .iadd, 1) (List.mem_of_getElem? (i := 33) rfl)) (fun v43 e44 => ?_)
        refine w_putF (own := 16) (ci := 10) (k := 34) rfl rfl (by decide) rfl ⟨rfl, rfl⟩ c40 (by rw [l7]; decide) (tX11_task_0_ok (59, .putfield 264, 3) (List.mem_of_getElem? (i := 34) rfl)) (fun h45 fs48 l49 k50 j51 c46 o47 => ?_)
        rw [l7] at l49
        have f52 := (j51 0 (by decide)).trans k8
        have f53 := (j51 20 (by decide)).trans f10
        have f54 := (j51 32 (by decide)).trans f11
        have f55 := (j51 33 (by decide)).trans f12
        have f56 := (j51 29 (by decide)).trans f14
        have f57 := (j51 30 (by decide)).trans f15
        have c58 := (o47 tp (k_sg_ne s_tp s_m (by omega))).trans c39
        have c59 := (o47 tl (k_sg_ne s_tl s_m (by omega))).trans c37
        refine w_aload_n (List.Mem.head _) (tX11_task_0_ok (62, .aload_n 0, 1) (List.mem_of_getElem? (i := 35) rfl)) ?_
        refine w_get (own := 16) rfl rfl (by decide) c46 k50 (tX11_task_0_ok (63, .getfield 264, 3) (List.mem_of_getElem? (i := 36) rfl)) ?_
        refine w_iret rfl (tX11_task_0_ok (66, .ireturn, 1) (List.mem_of_getElem? (i := 37) rfl)) ?_
        refine hq _ _ ?_ (by split <;> omega)
        unfold n_task
        rw [if_pos (by omega)]
        exact ⟨_, _, _, _, _, c46, f53, f54, f55, k50, t0, t1, t2, by show v43.toInt = ((τ.2.2.2 + 1 : Nat) : Int); omega⟩
      · refine w_iconst (by decide) (tX11_task_0_ok (30, .iconst (-1), 1) (List.mem_of_getElem? (i := 15) rfl)) (fun v60 e61 => ?_)
        refine w_iret rfl (tX11_task_0_ok (31, .ireturn, 1) (List.mem_of_getElem? (i := 16) rfl)) ?_
        refine hq _ _ ?_ (by split <;> omega)
        unfold n_task
        rw [if_neg (by omega)]
        exact ⟨_, _, _, _, _, c4, f10, f11, f12, f13, t0, t1, t2, t3⟩
theorem q_woke (hT : k_tys tys cA) {p y : Int32} (hf : 3 ≤ fr) (hl : 64 ≤ lo) (hH : k_H Sg cA Lb h) (sm : sgM0 Sg m) (H : bR h m τ) (hq : ∀ (v : Int32) (h1 : ch_H), v.toInt = (if 0 ≤ p.toInt ∧ p.toInt < 2 * (τ.1 : Int) ∧ -1 ≤ y.toInt ∧ y.toInt ≤ 200 then 1 else 0) → Q (some (.int v)) h1) : ww l D tys A X fr lo mX11_woke Q 0 [(0, .ref m), (1, .int p), (2, .int y)] [] h := by
  obtain ⟨fs, n, ga, pe, ta, c_m, f20, f32, f33, f34, t0, t1, t2, t3⟩ := H
  obtain ⟨L, s_m, hL⟩ : ∃ L, Sg m = some L ∧ (L = 50 ∨ L = 70) := sm.elim (fun q => ⟨_, q, Or.inl rfl⟩) (fun q => ⟨_, q, Or.inr rfl⟩)
  have fl : fs.length = 47 ∧ (0 ≤ n.toInt ∧ n.toInt ≤ 6) ∧ (0 ≤ ga.toInt ∧ ga.toInt ≤ 6) ∧ (0 ≤ pe.toInt ∧ pe.toInt ≤ 8) ∧ (0 ≤ ta.toInt ∧ ta.toInt ≤ 6) ∧ (∃ a, fs[27]? = some (.ref a) ∧ Sg a = some 61) := by
    rcases sm with s9 | s9
    · obtain ⟨w9, c9, fl, ty⟩ := hH.obj s9 (L := 50) rfl
      rw [c_m] at c9
      cases c9
      obtain ⟨v20, e20, y20⟩ := ty 20 _ rfl
      rw [f20] at e20
      cases e20
      obtain ⟨x20, z20, r20, u20⟩ := k_v.int y20
      cases z20
      have r20 : (0 : Int) ≤ n.toInt := r20
      have u20 : n.toInt ≤ (6 : Int) := u20
      obtain ⟨v32, e32, y32⟩ := ty 32 _ rfl
      rw [f32] at e32
      cases e32
      obtain ⟨x32, z32, r32, u32⟩ := k_v.int y32
      cases z32
      have r32 : (0 : Int) ≤ ga.toInt := r32
      have u32 : ga.toInt ≤ (6 : Int) := u32
      obtain ⟨v33, e33, y33⟩ := ty 33 _ rfl
      rw [f33] at e33
      cases e33
      obtain ⟨x33, z33, r33, u33⟩ := k_v.int y33
      cases z33
      have r33 : (0 : Int) ≤ pe.toInt := r33
      have u33 : pe.toInt ≤ (8 : Int) := u33
      obtain ⟨v34, e34, y34⟩ := ty 34 _ rfl
      rw [f34] at e34
      cases e34
      obtain ⟨x34, z34, r34, u34⟩ := k_v.int y34
      cases z34
      have r34 : (0 : Int) ≤ ta.toInt := r34
      have u34 : ta.toInt ≤ (6 : Int) := u34
      obtain ⟨v27, e27, y27⟩ := ty 27 _ rfl
      obtain ⟨x27, rfl, z27⟩ := k_v.ref y27
      exact ⟨fl, by omega, by omega, by omega, by omega, ⟨_, e27, z27⟩⟩
    · obtain ⟨w9, c9, fl, ty⟩ := hH.obj s9 (L := 70) rfl
      rw [c_m] at c9
      cases c9
      obtain ⟨v20, e20, y20⟩ := ty 20 _ rfl
      rw [f20] at e20
      cases e20
      obtain ⟨x20, z20, r20, u20⟩ := k_v.int y20
      cases z20
      have r20 : (0 : Int) ≤ n.toInt := r20
      have u20 : n.toInt ≤ (0 : Int) := u20
      obtain ⟨v32, e32, y32⟩ := ty 32 _ rfl
      rw [f32] at e32
      cases e32
      obtain ⟨x32, z32, r32, u32⟩ := k_v.int y32
      cases z32
      have r32 : (0 : Int) ≤ ga.toInt := r32
      have u32 : ga.toInt ≤ (0 : Int) := u32
      obtain ⟨v33, e33, y33⟩ := ty 33 _ rfl
      rw [f33] at e33
      cases e33
      obtain ⟨x33, z33, r33, u33⟩ := k_v.int y33
      cases z33
      have r33 : (0 : Int) ≤ pe.toInt := r33
      have u33 : pe.toInt ≤ (0 : Int) := u33
      obtain ⟨v34, e34, y34⟩ := ty 34 _ rfl
      rw [f34] at e34
      cases e34
      obtain ⟨x34, z34, r34, u34⟩ := k_v.int y34
      cases z34
      have r34 : (0 : Int) ≤ ta.toInt := r34
      have u34 : ta.toInt ≤ (0 : Int) := u34
      obtain ⟨v27, e27, y27⟩ := ty 27 _ rfl
      obtain ⟨x27, rfl, z27⟩ := k_v.ref y27
      exact ⟨fl, by omega, by omega, by omega, by omega, ⟨_, e27, z27⟩⟩
  obtain ⟨fl, bn, bg, bp, bt, sn, q_sn, s_sn⟩ := fl
  obtain ⟨z_sn, c_sn, -⟩ := hH.arr s_sn (L := 61) rfl
  refine w_aload_n (List.Mem.head _) (tX11_woke_0_ok (0, .aload_n 0, 1) (List.mem_of_getElem? (i := 0) rfl)) ?_
  refine w_iconst (by decide) (tX11_woke_0_ok (1, .iconst 0, 1) (List.mem_of_getElem? (i := 1) rfl)) (fun v1 e2 => ?_)
  refine w_putF (own := 16) (ci := 10) (k := 0) rfl rfl (by decide) rfl ⟨rfl, rfl⟩ c_m (by rw [fl]; decide) (tX11_woke_0_ok (2, .putfield 85, 3) (List.mem_of_getElem? (i := 2) rfl)) (fun h3 fs6 l7 k8 j9 c4 o5 => ?_)
  rw [fl] at l7
  have f10 := (j9 20 (by decide)).trans f20
  have f11 := (j9 32 (by decide)).trans f32
  have f12 := (j9 33 (by decide)).trans f33
  have f13 := (j9 34 (by decide)).trans f34
  have f14 := (j9 27 (by decide)).trans q_sn
  have c15 := (o5 sn (k_sg_ne s_sn s_m (by omega))).trans c_sn
  refine w_aload_n (List.Mem.head _) (tX11_woke_0_ok (5, .aload_n 0, 1) (List.mem_of_getElem? (i := 3) rfl)) ?_
  refine w_iload_n (List.Mem.tail _ (List.Mem.head _)) (tX11_woke_0_ok (6, .iload_n 1, 1) (List.mem_of_getElem? (i := 4) rfl)) ?_
  refine w_callV (own := 16) (mi := 203) [.int p] [] [(0, .ref m), (1, .int p)] rfl (cllw_X11 (274, 0, 203) (List.mem_of_getElem? (i := 38) rfl)) rfl rfl c4 rfl (by omega) (w_lo (n := 21) rfl (by omega)) (Nat.le_of_ble_eq_true rfl) (Nat.le_of_ble_eq_true rfl) rfl (tX11_woke_0_ok (7, .invokevirtual 274, 3) (List.mem_of_getElem? (i := 5) rfl)) (q_isRoom c4 f10 bn (fun v16 e17 => ?_))
  show ww l D tys A X fr lo mX11_woke Q 10 [(0, .ref m), (1, .int p), (2, .int y)] [.int v16] h3
  refine w_if_eq (tgt := 24) (tX11_woke_0_ok (10, .ifCond .eq 14, 3) (List.mem_of_getElem? (i := 6) rfl)) rfl (fun b18 => ?_) (fun b18 => ?_)
  · refine w_iconst (by decide) (tX11_woke_0_ok (24, .iconst 0, 1) (List.mem_of_getElem? (i := 12) rfl)) (fun v19 e20 => ?_)
    refine w_zret rfl (by omega) (by omega) (tX11_woke_0_ok (25, .ireturn, 1) (List.mem_of_getElem? (i := 13) rfl)) ?_
    exact hq _ _ (by split <;> omega)
  · refine w_iload_n (List.Mem.tail _ (List.Mem.tail _ (List.Mem.head _))) (tX11_woke_0_ok (13, .iload_n 2, 1) (List.mem_of_getElem? (i := 7) rfl)) ?_
    refine w_iconst (by decide) (tX11_woke_0_ok (14, .iconst (-1), 1) (List.mem_of_getElem? (i := 8) rfl)) (fun v21 e22 => ?_)
    refine w_sipush (by decide) (tX11_woke_0_ok (15, .sipush 200, 3) (List.mem_of_getElem? (i := 9) rfl)) (fun v23 e24 => ?_)
    refine w_callS (own := 16) (mi := 199) [.int y, .int v21, .int v23] [] [(0, .int y), (1, .int v21), (2, .int v23)] rfl (cllw_X11 (207, 1, 199) (List.mem_of_getElem? (i := 2) rfl)) rfl rfl (by omega) (w_lo (n := 22) rfl (by omega)) (Nat.le_of_ble_eq_true rfl) (Nat.le_of_ble_eq_true rfl) rfl (tX11_woke_0_ok (18, .invokestatic 207, 3) (List.mem_of_getElem? (i := 10) rfl)) (r_isIn (fun v25 e26 => ?_))
    show ww l D tys A X fr lo mX11_woke Q 21 [(0, .ref m), (1, .int p), (2, .int y)] [.int v25] h3
    refine w_if_ne (tgt := 26) (tX11_woke_0_ok (21, .ifCond .ne 5, 3) (List.mem_of_getElem? (i := 11) rfl)) rfl (fun b27 => ?_) (fun b27 => ?_)
    · refine w_aload_n (List.Mem.head _) (tX11_woke_0_ok (26, .aload_n 0, 1) (List.mem_of_getElem? (i := 14) rfl)) ?_
      refine w_get (own := 16) rfl rfl (by decide) c4 f14 (tX11_woke_0_ok (27, .getfield 60, 3) (List.mem_of_getElem? (i := 15) rfl)) ?_
      refine w_iload_n (List.Mem.tail _ (List.Mem.head _)) (tX11_woke_0_ok (30, .iload_n 1, 1) (List.mem_of_getElem? (i := 16) rfl)) ?_
      refine w_iload_n (List.Mem.tail _ (List.Mem.tail _ (List.Mem.head _))) (tX11_woke_0_ok (31, .iload_n 2, 1) (List.mem_of_getElem? (i := 17) rfl)) ?_
      refine w_iast hT c15 (by omega) (by omega) (tX11_woke_0_ok (32, .iastore, 1) (List.mem_of_getElem? (i := 18) rfl)) (fun h28 c29 o30 => ?_)
      have c31 := (o30 m (k_sg_ne s_m s_sn (by omega))).trans c4
      refine w_iconst (by decide) (tX11_woke_0_ok (33, .iconst 1, 1) (List.mem_of_getElem? (i := 19) rfl)) (fun v32 e33 => ?_)
      refine w_zret rfl (by omega) (by omega) (tX11_woke_0_ok (34, .ireturn, 1) (List.mem_of_getElem? (i := 20) rfl)) ?_
      exact hq _ _ (by split <;> omega)
    · refine w_iconst (by decide) (tX11_woke_0_ok (24, .iconst 0, 1) (List.mem_of_getElem? (i := 12) rfl)) (fun v34 e35 => ?_)
      refine w_zret rfl (by omega) (by omega) (tX11_woke_0_ok (25, .ireturn, 1) (List.mem_of_getElem? (i := 13) rfl)) ?_
      exact hq _ _ (by split <;> omega)
end
