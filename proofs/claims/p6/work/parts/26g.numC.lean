/-! the methods whose answers need the four numbers alone: what they answer, what they make of the numbers -/
def b_brake (p : Int32) : bN := fun τ v => ∃ w : Int32, v = some (.int w) ∧ w.toInt = if 0 ≤ p.toInt ∧ p.toInt < (τ.1 : Int) then 1 else 0
def b_water (p y : Int32) : bN := fun τ v => ∃ w : Int32, v = some (.int w) ∧ w.toInt = if 0 ≤ p.toInt ∧ p.toInt < 2 * (τ.1 : Int) ∧ 0 ≤ y.toInt ∧ y.toInt ≤ 99 then 1 else 0
def b_gallery (p : Int32) : bN := fun τ v => ∃ w : Int32, v = some (.int w) ∧ w.toInt = if 1 ≤ τ.1 ∧ 0 ≤ p.toInt ∧ p.toInt ≤ 60 ∧ τ.2.1 < 6 then 12 + (τ.2.1 : Int) else -1
def n_gallery (p : Int32) (τ : aN) : aN := if 1 ≤ τ.1 ∧ 0 ≤ p.toInt ∧ p.toInt ≤ 60 ∧ τ.2.1 < 6 then (τ.1, τ.2.1 + 1, τ.2.2.1, τ.2.2.2) else τ
def b_beside (p y : Int32) : bN := fun τ v => ∃ w : Int32, v = some (.int w) ∧ w.toInt = if (0 ≤ p.toInt ∧ p.toInt < 2 * (τ.1 : Int) ∨ 12 ≤ p.toInt ∧ p.toInt < 12 + (τ.2.1 : Int)) ∧ (0 ≤ y.toInt ∧ y.toInt < 2 * (τ.1 : Int) ∨ 12 ≤ y.toInt ∧ y.toInt < 12 + (τ.2.1 : Int)) ∧ ¬ p.toInt = y.toInt then 1 else 0
def b_person (p y : Int32) : bN := fun τ v => ∃ w : Int32, v = some (.int w) ∧ w.toInt = if 1 ≤ p.toInt ∧ p.toInt ≤ 9 ∧ (0 ≤ y.toInt ∧ y.toInt < 2 * (τ.1 : Int) ∨ 12 ≤ y.toInt ∧ y.toInt < 12 + (τ.2.1 : Int)) ∧ τ.2.2.1 < 8 then (τ.2.2.1 : Int) else -1
def n_person (p y : Int32) (τ : aN) : aN := if 1 ≤ p.toInt ∧ p.toInt ≤ 9 ∧ (0 ≤ y.toInt ∧ y.toInt < 2 * (τ.1 : Int) ∨ 12 ≤ y.toInt ∧ y.toInt < 12 + (τ.2.1 : Int)) ∧ τ.2.2.1 < 8 then (τ.1, τ.2.1, τ.2.2.1 + 1, τ.2.2.2) else τ
def b_want (p y : Int32) : bN := fun τ v => ∃ w : Int32, v = some (.int w) ∧ w.toInt = if 0 ≤ p.toInt ∧ p.toInt < 2 * (τ.1 : Int) ∧ -1 ≤ y.toInt ∧ y.toInt ≤ 200 then 1 else 0
def b_task (p y : Int32) : bN := fun τ v => ∃ w : Int32, v = some (.int w) ∧ w.toInt = if 0 ≤ p.toInt ∧ p.toInt < (τ.2.2.1 : Int) ∧ (0 ≤ y.toInt ∧ y.toInt < 2 * (τ.1 : Int) ∨ 12 ≤ y.toInt ∧ y.toInt < 12 + (τ.2.1 : Int)) ∧ τ.2.2.2 < 6 then (τ.2.2.2 : Int) + 1 else -1
def n_task (p y : Int32) (τ : aN) : aN := if 0 ≤ p.toInt ∧ p.toInt < (τ.2.2.1 : Int) ∧ (0 ≤ y.toInt ∧ y.toInt < 2 * (τ.1 : Int) ∨ 12 ≤ y.toInt ∧ y.toInt < 12 + (τ.2.1 : Int)) ∧ τ.2.2.2 < 6 then (τ.1, τ.2.1, τ.2.2.1, τ.2.2.2 + 1) else τ
def b_woke (p y : Int32) : bN := fun τ v => ∃ w : Int32, v = some (.int w) ∧ w.toInt = if 0 ≤ p.toInt ∧ p.toInt < 2 * (τ.1 : Int) ∧ -1 ≤ y.toInt ∧ y.toInt ≤ 200 then 1 else 0
section
variable {l : Launch} {D : va_G} {tys : List (ClassId × FieldType)} {A : Nat → Prop} {X : State → Prop} {fr lo : Nat} {Q : Option Value → ch_H → Prop} {cA : Nat → ClassId} {Sg : Nat → Option Nat} {h : ch_H} {x m : Nat} {τ : aN}
theorem c_isRope {Pa : Nat} {xs ps : List Value} {n k : Int32} (c_x : h x = some (.inr (9, xs))) (f1 : xs[1]? = some (.ref Pa)) (c_Pa : h Pa = some (.inr (4, ps))) (p0 : ps[0]? = some (.int n)) (hq : ∀ v : Int32, (v.toInt = 1 ∧ 0 ≤ k.toInt ∧ k.toInt < n.toInt ∨ v.toInt = 0 ∧ (k.toInt < 0 ∨ n.toInt ≤ k.toInt)) → Q (some (.int v)) h) : ww l D tys A X fr lo mX10_isRope Q 0 [(0, .ref x), (1, .int k)] [] h := by
  refine w_iload_n (List.Mem.tail _ (List.Mem.head _)) (tX10_isRope_0_ok (0, .iload_n 1, 1) (List.mem_of_getElem? (i := 0) rfl)) ?_
  refine w_if_lt (tgt := 19) (tX10_isRope_0_ok (1, .ifCond .lt 18, 3) (List.mem_of_getElem? (i := 1) rfl)) rfl (fun b1 => ?_) (fun b1 => ?_)
  · refine w_iconst (by decide) (tX10_isRope_0_ok (19, .iconst 0, 1) (List.mem_of_getElem? (i := 9) rfl)) (fun v2 e3 => ?_)
    refine w_zret rfl (by omega) (by omega) (tX10_isRope_0_ok (20, .ireturn, 1) (List.mem_of_getElem? (i := 10) rfl)) ?_
    exact hq _ (by omega)
  · refine w_iload_n (List.Mem.tail _ (List.Mem.head _)) (tX10_isRope_0_ok (4, .iload_n 1, 1) (List.mem_of_getElem? (i := 2) rfl)) ?_
    refine w_aload_n (List.Mem.head _) (tX10_isRope_0_ok (5, .aload_n 0, 1) (List.mem_of_getElem? (i := 3) rfl)) ?_
    refine w_get (own := 15) rfl rfl (by decide) c_x f1 (tX10_isRope_0_ok (6, .getfield 19, 3) (List.mem_of_getElem? (i := 4) rfl)) ?_
    refine w_get (own := 15) rfl rfl (by decide) c_Pa p0 (tX10_isRope_0_ok (9, .getfield 95, 3) (List.mem_of_getElem? (i := 5) rfl)) ?_
    refine w_icmp_ge (tgt := 19) (tX10_isRope_0_ok (12, .if_icmp .ge 7, 3) (List.mem_of_getElem? (i := 6) rfl)) rfl (fun b4 => ?_) (fun b4 => ?_)
    · refine w_iconst (by decide) (tX10_isRope_0_ok (19, .iconst 0, 1) (List.mem_of_getElem? (i := 9) rfl)) (fun v5 e6 => ?_)
      refine w_zret rfl (by omega) (by omega) (tX10_isRope_0_ok (20, .ireturn, 1) (List.mem_of_getElem? (i := 10) rfl)) ?_
      exact hq _ (by omega)
    · refine w_iconst (by decide) (tX10_isRope_0_ok (15, .iconst 1, 1) (List.mem_of_getElem? (i := 7) rfl)) (fun v7 e8 => ?_)
      refine w_goto (tgt := 20) (tX10_isRope_0_ok (16, .goto 4, 3) (List.mem_of_getElem? (i := 8) rfl)) rfl ?_
      refine w_zret rfl (by omega) (by omega) (tX10_isRope_0_ok (20, .ireturn, 1) (List.mem_of_getElem? (i := 10) rfl)) ?_
      exact hq _ (by omega)
theorem c_isRoom {Pa : Nat} {xs ps : List Value} {n k : Int32} (c_x : h x = some (.inr (9, xs))) (f1 : xs[1]? = some (.ref Pa)) (c_Pa : h Pa = some (.inr (4, ps))) (p0 : ps[0]? = some (.int n)) (bn : 0 ≤ n.toInt ∧ n.toInt ≤ 6) (hq : ∀ v : Int32, (v.toInt = 1 ∧ 0 ≤ k.toInt ∧ k.toInt < 2 * n.toInt ∨ v.toInt = 0 ∧ (k.toInt < 0 ∨ 2 * n.toInt ≤ k.toInt)) → Q (some (.int v)) h) : ww l D tys A X fr lo mX10_isRoom Q 0 [(0, .ref x), (1, .int k)] [] h := by
  refine w_iload_n (List.Mem.tail _ (List.Mem.head _)) (tX10_isRoom_0_ok (0, .iload_n 1, 1) (List.mem_of_getElem? (i := 0) rfl)) ?_
  refine w_if_lt (tgt := 21) (tX10_isRoom_0_ok (1, .ifCond .lt 20, 3) (List.mem_of_getElem? (i := 1) rfl)) rfl (fun b1 => ?_) (fun b1 => ?_)
  · refine w_iconst (by decide) (tX10_isRoom_0_ok (21, .iconst 0, 1) (List.mem_of_getElem? (i := 11) rfl)) (fun v2 e3 => ?_)
    refine w_zret rfl (by omega) (by omega) (tX10_isRoom_0_ok (22, .ireturn, 1) (List.mem_of_getElem? (i := 12) rfl)) ?_
    exact hq _ (by omega)
  · refine w_iload_n (List.Mem.tail _ (List.Mem.head _)) (tX10_isRoom_0_ok (4, .iload_n 1, 1) (List.mem_of_getElem? (i := 2) rfl)) ?_
    refine w_iconst (by decide) (tX10_isRoom_0_ok (5, .iconst 2, 1) (List.mem_of_getElem? (i := 3) rfl)) (fun v4 e5 => ?_)
    refine w_aload_n (List.Mem.head _) (tX10_isRoom_0_ok (6, .aload_n 0, 1) (List.mem_of_getElem? (i := 4) rfl)) ?_
    refine w_get (own := 15) rfl rfl (by decide) c_x f1 (tX10_isRoom_0_ok (7, .getfield 19, 3) (List.mem_of_getElem? (i := 5) rfl)) ?_
    refine w_get (own := 15) rfl rfl (by decide) c_Pa p0 (tX10_isRoom_0_ok (10, .getfield 95, 3) (List.mem_of_getElem? (i := 6) rfl)) ?_
    refine w_imul (by assumption) (by omega) (by omega) (tX10_isRoom_0_ok (13, .imul, 1) (List.mem_of_getElem? (i := 7) rfl)) (fun v6 e7 => ?_)
    refine w_icmp_ge (tgt := 21) (tX10_isRoom_0_ok (14, .if_icmp .ge 7, 3) (List.mem_of_getElem? (i := 8) rfl)) rfl (fun b8 => ?_) (fun b8 => ?_)
    · refine w_iconst (by decide) (tX10_isRoom_0_ok (21, .iconst 0, 1) (List.mem_of_getElem? (i := 11) rfl)) (fun v9 e10 => ?_)
      refine w_zret rfl (by omega) (by omega) (tX10_isRoom_0_ok (22, .ireturn, 1) (List.mem_of_getElem? (i := 12) rfl)) ?_
      exact hq _ (by omega)
    · refine w_iconst (by decide) (tX10_isRoom_0_ok (17, .iconst 1, 1) (List.mem_of_getElem? (i := 9) rfl)) (fun v11 e12 => ?_)
      refine w_goto (tgt := 22) (tX10_isRoom_0_ok (18, .goto 4, 3) (List.mem_of_getElem? (i := 10) rfl)) rfl ?_
      refine w_zret rfl (by omega) (by omega) (tX10_isRoom_0_ok (22, .ireturn, 1) (List.mem_of_getElem? (i := 12) rfl)) ?_
      exact hq _ (by omega)
theorem c_isPlace {Pa fo : Nat} {xs ps gs : List Value} {n ga k : Int32} (hf : 1 ≤ fr) (hl : 21 ≤ lo) (c_x : h x = some (.inr (9, xs))) (f1 : xs[1]? = some (.ref Pa)) (c_Pa : h Pa = some (.inr (4, ps))) (p0 : ps[0]? = some (.int n)) (bn : 0 ≤ n.toInt ∧ n.toInt ≤ 6) (f8 : xs[8]? = some (.ref fo)) (c_fo : h fo = some (.inr (1, gs))) (g0 : gs[0]? = some (.int ga)) (bg : 0 ≤ ga.toInt ∧ ga.toInt ≤ 6) (hq : ∀ v : Int32, (v.toInt = 1 ∧ (0 ≤ k.toInt ∧ k.toInt < 2 * n.toInt ∨ 12 ≤ k.toInt ∧ k.toInt < 12 + ga.toInt) ∨ v.toInt = 0 ∧ (k.toInt < 0 ∨ 2 * n.toInt ≤ k.toInt) ∧ (k.toInt < 12 ∨ 12 + ga.toInt ≤ k.toInt)) → Q (some (.int v)) h) : ww l D tys A X fr lo mX10_isPlace Q 0 [(0, .ref x), (1, .int k)] [] h := by
  refine w_aload_n (List.Mem.head _) (tX10_isPlace_0_ok (0, .aload_n 0, 1) (List.mem_of_getElem? (i := 0) rfl)) ?_
  refine w_iload_n (List.Mem.tail _ (List.Mem.head _)) (tX10_isPlace_0_ok (1, .iload_n 1, 1) (List.mem_of_getElem? (i := 1) rfl)) ?_
  refine w_callV (own := 15) (mi := 122) [.int k] [] [(0, .ref x), (1, .int k)] rfl (cllw_X10 (144, 0, 122) (List.mem_of_getElem? (i := 8) rfl)) rfl rfl c_x rfl (by omega) (w_lo (n := 21) rfl (by omega)) (Nat.le_of_ble_eq_true rfl) (Nat.le_of_ble_eq_true rfl) rfl (tX10_isPlace_0_ok (2, .invokevirtual 144, 3) (List.mem_of_getElem? (i := 2) rfl)) (c_isRoom c_x f1 c_Pa p0 bn (fun v1 e2 => ?_))
  show ww l D tys A X fr lo mX10_isPlace Q 5 [(0, .ref x), (1, .int k)] [.int v1] h
  refine w_if_ne (tgt := 28) (tX10_isPlace_0_ok (5, .ifCond .ne 23, 3) (List.mem_of_getElem? (i := 3) rfl)) rfl (fun b3 => ?_) (fun b3 => ?_)
  · refine w_iconst (by decide) (tX10_isPlace_0_ok (28, .iconst 1, 1) (List.mem_of_getElem? (i := 14) rfl)) (fun v4 e5 => ?_)
    refine w_goto (tgt := 33) (tX10_isPlace_0_ok (29, .goto 4, 3) (List.mem_of_getElem? (i := 15) rfl)) rfl ?_
    refine w_zret rfl (by omega) (by omega) (tX10_isPlace_0_ok (33, .ireturn, 1) (List.mem_of_getElem? (i := 17) rfl)) ?_
    exact hq _ (by omega)
  · refine w_iload_n (List.Mem.tail _ (List.Mem.head _)) (tX10_isPlace_0_ok (8, .iload_n 1, 1) (List.mem_of_getElem? (i := 4) rfl)) ?_
    refine w_bipush (by decide) (tX10_isPlace_0_ok (9, .bipush 12, 2) (List.mem_of_getElem? (i := 5) rfl)) (fun v6 e7 => ?_)
    refine w_icmp_lt (tgt := 32) (tX10_isPlace_0_ok (11, .if_icmp .lt 21, 3) (List.mem_of_getElem? (i := 6) rfl)) rfl (fun b8 => ?_) (fun b8 => ?_)
    · refine w_iconst (by decide) (tX10_isPlace_0_ok (32, .iconst 0, 1) (List.mem_of_getElem? (i := 16) rfl)) (fun v9 e10 => ?_)
      refine w_zret rfl (by omega) (by omega) (tX10_isPlace_0_ok (33, .ireturn, 1) (List.mem_of_getElem? (i := 17) rfl)) ?_
      exact hq _ (by omega)
    · refine w_iload_n (List.Mem.tail _ (List.Mem.head _)) (tX10_isPlace_0_ok (14, .iload_n 1, 1) (List.mem_of_getElem? (i := 7) rfl)) ?_
      refine w_bipush (by decide) (tX10_isPlace_0_ok (15, .bipush 12, 2) (List.mem_of_getElem? (i := 8) rfl)) (fun v11 e12 => ?_)
      refine w_aload_n (List.Mem.head _) (tX10_isPlace_0_ok (17, .aload_n 0, 1) (List.mem_of_getElem? (i := 9) rfl)) ?_
      refine w_get (own := 15) rfl rfl (by decide) c_x f8 (tX10_isPlace_0_ok (18, .getfield 42, 3) (List.mem_of_getElem? (i := 10) rfl)) ?_
      refine w_get (own := 15) rfl rfl (by decide) c_fo g0 (tX10_isPlace_0_ok (21, .getfield 148, 3) (List.mem_of_getElem? (i := 11) rfl)) ?_
      refine w_iadd (by omega) (by omega) (tX10_isPlace_0_ok (24, .iadd, 1) (List.mem_of_getElem? (i := 12) rfl)) (fun v13 e14 => ?_)
      refine w_icmp_ge (tgt := 32) (tX10_isPlace_0_ok (25, .if_icmp .ge 7, 3) (List.mem_of_getElem? (i := 13) rfl)) rfl (fun b15 => ?_) (fun b15 => ?_)
      · refine w_iconst (by decide) (tX10_isPlace_0_ok (32, .iconst 0, 1) (List.mem_of_getElem? (i := 16) rfl)) (fun v16 e17 => ?_)
        refine w_zret rfl (by omega) (by omega) (tX10_isPlace_0_ok (33, .ireturn, 1) (List.mem_of_getElem? (i := 17) rfl)) ?_
        exact hq _ (by omega)
      · refine w_iconst (by decide) (tX10_isPlace_0_ok (28, .iconst 1, 1) (List.mem_of_getElem? (i := 14) rfl)) (fun v18 e19 => ?_)
        refine w_goto (tgt := 33) (tX10_isPlace_0_ok (29, .goto 4, 3) (List.mem_of_getElem? (i := 15) rfl)) rfl ?_
        refine w_zret rfl (by omega) (by omega) (tX10_isPlace_0_ok (33, .ireturn, 1) (List.mem_of_getElem? (i := 17) rfl)) ?_
        exact hq _ (by omega)
theorem c_isPerson {fo : Nat} {xs gs : List Value} {pe k : Int32} (c_x : h x = some (.inr (9, xs))) (f8 : xs[8]? = some (.ref fo)) (c_fo : h fo = some (.inr (1, gs))) (g3 : gs[3]? = some (.int pe)) (hq : ∀ v : Int32, (v.toInt = 1 ∧ 0 ≤ k.toInt ∧ k.toInt < pe.toInt ∨ v.toInt = 0 ∧ (k.toInt < 0 ∨ pe.toInt ≤ k.toInt)) → Q (some (.int v)) h) : ww l D tys A X fr lo mX10_isPerson Q 0 [(0, .ref x), (1, .int k)] [] h := by
  refine w_iload_n (List.Mem.tail _ (List.Mem.head _)) (tX10_isPerson_0_ok (0, .iload_n 1, 1) (List.mem_of_getElem? (i := 0) rfl)) ?_
  refine w_if_lt (tgt := 19) (tX10_isPerson_0_ok (1, .ifCond .lt 18, 3) (List.mem_of_getElem? (i := 1) rfl)) rfl (fun b1 => ?_) (fun b1 => ?_)
  · refine w_iconst (by decide) (tX10_isPerson_0_ok (19, .iconst 0, 1) (List.mem_of_getElem? (i := 9) rfl)) (fun v2 e3 => ?_)
    refine w_zret rfl (by omega) (by omega) (tX10_isPerson_0_ok (20, .ireturn, 1) (List.mem_of_getElem? (i := 10) rfl)) ?_
    exact hq _ (by omega)
  · refine w_iload_n (List.Mem.tail _ (List.Mem.head _)) (tX10_isPerson_0_ok (4, .iload_n 1, 1) (List.mem_of_getElem? (i := 2) rfl)) ?_
    refine w_aload_n (List.Mem.head _) (tX10_isPerson_0_ok (5, .aload_n 0, 1) (List.mem_of_getElem? (i := 3) rfl)) ?_
    refine w_get (own := 15) rfl rfl (by decide) c_x f8 (tX10_isPerson_0_ok (6, .getfield 42, 3) (List.mem_of_getElem? (i := 4) rfl)) ?_
    refine w_get (own := 15) rfl rfl (by decide) c_fo g3 (tX10_isPerson_0_ok (9, .getfield 151, 3) (List.mem_of_getElem? (i := 5) rfl)) ?_
    refine w_icmp_ge (tgt := 19) (tX10_isPerson_0_ok (12, .if_icmp .ge 7, 3) (List.mem_of_getElem? (i := 6) rfl)) rfl (fun b4 => ?_) (fun b4 => ?_)
    · refine w_iconst (by decide) (tX10_isPerson_0_ok (19, .iconst 0, 1) (List.mem_of_getElem? (i := 9) rfl)) (fun v5 e6 => ?_)
      refine w_zret rfl (by omega) (by omega) (tX10_isPerson_0_ok (20, .ireturn, 1) (List.mem_of_getElem? (i := 10) rfl)) ?_
      exact hq _ (by omega)
    · refine w_iconst (by decide) (tX10_isPerson_0_ok (15, .iconst 1, 1) (List.mem_of_getElem? (i := 7) rfl)) (fun v7 e8 => ?_)
      refine w_goto (tgt := 20) (tX10_isPerson_0_ok (16, .goto 4, 3) (List.mem_of_getElem? (i := 8) rfl)) rfl ?_
      refine w_zret rfl (by omega) (by omega) (tX10_isPerson_0_ok (20, .ireturn, 1) (List.mem_of_getElem? (i := 10) rfl)) ?_
      exact hq _ (by omega)
theorem c_brake (hT : k_tys tys cA) {p y : Int32} (bY : 0 ≤ y.toInt ∧ y.toInt ≤ 1) (hf : 1 ≤ fr) (hl : 21 ≤ lo) (hH : k_H Sg cA Lb h) (s_x : Sg x = some 0) (H : bC h x τ) (hq : ∀ (v : Int32) (h1 : ch_H), v.toInt = (if 0 ≤ p.toInt ∧ p.toInt < (τ.1 : Int) then 1 else 0) → Q (some (.int v)) h1) : ww l D tys A X fr lo mX10_brake Q 0 [(0, .ref x), (1, .int p), (2, .int y)] [] h := by
  obtain ⟨xs, ps, gs, Pa, P, fo, n, ga, pe, ta, c_x, f1, f2, f8, nPP, c_Pa, p0, c_fo, g0, g3, g5, t0, t1, t2, t3⟩ := H
  obtain ⟨s_Pa, s_fo⟩ := bC.sg hH s_x c_x f1 f8
  obtain ⟨w9, c9, xl, ty_x⟩ := hH.obj s_x (L := 0) rfl
  rw [c_x] at c9
  cases c9
  obtain ⟨w9, c9, pl, ty_Pa⟩ := hH.obj s_Pa (L := 2) rfl
  rw [c_Pa] at c9
  cases c9
  obtain ⟨w9, c9, gl, ty_fo⟩ := hH.obj s_fo (L := 4) rfl
  rw [c_fo] at c9
  cases c9
  have bn : 0 ≤ n.toInt ∧ n.toInt ≤ 6 := by
    obtain ⟨v9, e9, t9⟩ := ty_Pa 0 _ rfl
    rw [p0] at e9
    cases e9
    obtain ⟨y9, z9, r1, r2⟩ := k_v.int t9
    cases z9
    exact ⟨r1, r2⟩
  have bg : 0 ≤ ga.toInt ∧ ga.toInt ≤ 6 := by
    obtain ⟨v9, e9, t9⟩ := ty_fo 0 _ rfl
    rw [g0] at e9
    cases e9
    obtain ⟨y9, z9, r1, r2⟩ := k_v.int t9
    cases z9
    exact ⟨r1, r2⟩
  have bp : 0 ≤ pe.toInt ∧ pe.toInt ≤ 8 := by
    obtain ⟨v9, e9, t9⟩ := ty_fo 3 _ rfl
    rw [g3] at e9
    cases e9
    obtain ⟨y9, z9, r1, r2⟩ := k_v.int t9
    cases z9
    exact ⟨r1, r2⟩
  have bt : 0 ≤ ta.toInt ∧ ta.toInt ≤ 6 := by
    obtain ⟨v9, e9, t9⟩ := ty_fo 5 _ rfl
    rw [g5] at e9
    cases e9
    obtain ⟨y9, z9, r1, r2⟩ := k_v.int t9
    cases z9
    exact ⟨r1, r2⟩
  obtain ⟨v_no, q_no, w_no⟩ := ty_x 3 _ rfl
  obtain ⟨no, rfl, s_no⟩ := k_v.ref w_no
  obtain ⟨ns, c_no, nl, ty_no⟩ := hH.obj s_no (L := 3) rfl
  obtain ⟨v_on, q_on, w_on⟩ := ty_no 2 _ rfl
  obtain ⟨on, rfl, s_on⟩ := k_v.ref w_on
  obtain ⟨z_on, c_on, -⟩ := hH.arr s_on (L := 21) rfl
  refine w_aload_n (List.Mem.head _) (tX10_brake_0_ok (0, .aload_n 0, 1) (List.mem_of_getElem? (i := 0) rfl)) ?_
  refine w_iload_n (List.Mem.tail _ (List.Mem.head _)) (tX10_brake_0_ok (1, .iload_n 1, 1) (List.mem_of_getElem? (i := 1) rfl)) ?_
  refine w_callV (own := 15) (mi := 123) [.int p] [] [(0, .ref x), (1, .int p)] rfl (cllw_X10 (154, 0, 123) (List.mem_of_getElem? (i := 13) rfl)) rfl rfl c_x rfl (by omega) (w_lo (n := 21) rfl (by omega)) (Nat.le_of_ble_eq_true rfl) (Nat.le_of_ble_eq_true rfl) rfl (tX10_brake_0_ok (2, .invokevirtual 154, 3) (List.mem_of_getElem? (i := 2) rfl)) (c_isRope c_x f1 c_Pa p0 (fun v1 e2 => ?_))
  show ww l D tys A X fr lo mX10_brake Q 5 [(0, .ref x), (1, .int p), (2, .int y)] [.int v1] h
  refine w_if_ne (tgt := 10) (tX10_brake_0_ok (5, .ifCond .ne 5, 3) (List.mem_of_getElem? (i := 3) rfl)) rfl (fun b3 => ?_) (fun b3 => ?_)
  · refine w_aload_n (List.Mem.head _) (tX10_brake_0_ok (10, .aload_n 0, 1) (List.mem_of_getElem? (i := 6) rfl)) ?_
    refine w_get (own := 15) rfl rfl (by decide) c_x q_no (tX10_brake_0_ok (11, .getfield 29, 3) (List.mem_of_getElem? (i := 7) rfl)) ?_
    refine w_get (own := 15) rfl rfl (by decide) c_no q_on (tX10_brake_0_ok (14, .getfield 181, 3) (List.mem_of_getElem? (i := 8) rfl)) ?_
    refine w_iload_n (List.Mem.tail _ (List.Mem.head _)) (tX10_brake_0_ok (17, .iload_n 1, 1) (List.mem_of_getElem? (i := 9) rfl)) ?_
    refine w_iload_n (List.Mem.tail _ (List.Mem.tail _ (List.Mem.head _))) (tX10_brake_0_ok (18, .iload_n 2, 1) (List.mem_of_getElem? (i := 10) rfl)) ?_
    refine w_zast hT c_on (by omega) (by omega) (by omega) (tX10_brake_0_ok (19, .bastore, 1) (List.mem_of_getElem? (i := 11) rfl)) (fun h4 c5 o6 => ?_)
    have c7 := (o6 x (k_sg_ne s_x s_on (by omega))).trans c_x
    have c8 := (o6 Pa (k_sg_ne s_Pa s_on (by omega))).trans c_Pa
    have c9 := (o6 fo (k_sg_ne s_fo s_on (by omega))).trans c_fo
    have c10 := (o6 no (k_sg_ne s_no s_on (by omega))).trans c_no
    refine w_iconst (by decide) (tX10_brake_0_ok (20, .iconst 1, 1) (List.mem_of_getElem? (i := 12) rfl)) (fun v11 e12 => ?_)
    refine w_zret rfl (by omega) (by omega) (tX10_brake_0_ok (21, .ireturn, 1) (List.mem_of_getElem? (i := 13) rfl)) ?_
    exact hq _ _ (by split <;> omega)
  · refine w_iconst (by decide) (tX10_brake_0_ok (8, .iconst 0, 1) (List.mem_of_getElem? (i := 4) rfl)) (fun v13 e14 => ?_)
    refine w_zret rfl (by omega) (by omega) (tX10_brake_0_ok (9, .ireturn, 1) (List.mem_of_getElem? (i := 5) rfl)) ?_
    exact hq _ _ (by split <;> omega)
theorem c_water (hT : k_tys tys cA) {p y : Int32} (hf : 1 ≤ fr) (hl : 21 ≤ lo) (hH : k_H Sg cA Lb h) (s_x : Sg x = some 0) (H : bC h x τ) (hq : ∀ (v : Int32) (h1 : ch_H), v.toInt = (if 0 ≤ p.toInt ∧ p.toInt < 2 * (τ.1 : Int) ∧ 0 ≤ y.toInt ∧ y.toInt ≤ 99 then 1 else 0) → Q (some (.int v)) h1) : ww l D tys A X fr lo mX10_water Q 0 [(0, .ref x), (1, .int p), (2, .int y)] [] h := by
  obtain ⟨xs, ps, gs, Pa, P, fo, n, ga, pe, ta, c_x, f1, f2, f8, nPP, c_Pa, p0, c_fo, g0, g3, g5, t0, t1, t2, t3⟩ := H
  obtain ⟨s_Pa, s_fo⟩ := bC.sg hH s_x c_x f1 f8
  obtain ⟨w9, c9, xl, ty_x⟩ := hH.obj s_x (L := 0) rfl
  rw [c_x] at c9
  cases c9
  obtain ⟨w9, c9, pl, ty_Pa⟩ := hH.obj s_Pa (L := 2) rfl
  rw [c_Pa] at c9
  cases c9
  obtain ⟨w9, c9, gl, ty_fo⟩ := hH.obj s_fo (L := 4) rfl
  rw [c_fo] at c9
  cases c9
  have bn : 0 ≤ n.toInt ∧ n.toInt ≤ 6 := by
    obtain ⟨v9, e9, t9⟩ := ty_Pa 0 _ rfl
    rw [p0] at e9
    cases e9
    obtain ⟨y9, z9, r1, r2⟩ := k_v.int t9
    cases z9
    exact ⟨r1, r2⟩
  have bg : 0 ≤ ga.toInt ∧ ga.toInt ≤ 6 := by
    obtain ⟨v9, e9, t9⟩ := ty_fo 0 _ rfl
    rw [g0] at e9
    cases e9
    obtain ⟨y9, z9, r1, r2⟩ := k_v.int t9
    cases z9
    exact ⟨r1, r2⟩
  have bp : 0 ≤ pe.toInt ∧ pe.toInt ≤ 8 := by
    obtain ⟨v9, e9, t9⟩ := ty_fo 3 _ rfl
    rw [g3] at e9
    cases e9
    obtain ⟨y9, z9, r1, r2⟩ := k_v.int t9
    cases z9
    exact ⟨r1, r2⟩
  have bt : 0 ≤ ta.toInt ∧ ta.toInt ≤ 6 := by
    obtain ⟨v9, e9, t9⟩ := ty_fo 5 _ rfl
    rw [g5] at e9
    cases e9
    obtain ⟨y9, z9, r1, r2⟩ := k_v.int t9
    cases z9
    exact ⟨r1, r2⟩
  obtain ⟨v_no, q_no, w_no⟩ := ty_x 3 _ rfl
  obtain ⟨no, rfl, s_no⟩ := k_v.ref w_no
  obtain ⟨ns, c_no, nl, ty_no⟩ := hH.obj s_no (L := 3) rfl
  obtain ⟨v_wa, q_wa, w_wa⟩ := ty_no 3 _ rfl
  obtain ⟨wa, rfl, s_wa⟩ := k_v.ref w_wa
  obtain ⟨z_wa, c_wa, -⟩ := hH.arr s_wa (L := 22) rfl
  refine w_aload_n (List.Mem.head _) (tX10_water_0_ok (0, .aload_n 0, 1) (List.mem_of_getElem? (i := 0) rfl)) ?_
  refine w_iload_n (List.Mem.tail _ (List.Mem.head _)) (tX10_water_0_ok (1, .iload_n 1, 1) (List.mem_of_getElem? (i := 1) rfl)) ?_
  refine w_callV (own := 15) (mi := 122) [.int p] [] [(0, .ref x), (1, .int p)] rfl (cllw_X10 (144, 0, 122) (List.mem_of_getElem? (i := 8) rfl)) rfl rfl c_x rfl (by omega) (w_lo (n := 21) rfl (by omega)) (Nat.le_of_ble_eq_true rfl) (Nat.le_of_ble_eq_true rfl) rfl (tX10_water_0_ok (2, .invokevirtual 144, 3) (List.mem_of_getElem? (i := 2) rfl)) (c_isRoom c_x f1 c_Pa p0 bn (fun v1 e2 => ?_))
  show ww l D tys A X fr lo mX10_water Q 5 [(0, .ref x), (1, .int p), (2, .int y)] [.int v1] h
  refine w_if_eq (tgt := 18) (tX10_water_0_ok (5, .ifCond .eq 13, 3) (List.mem_of_getElem? (i := 3) rfl)) rfl (fun b3 => ?_) (fun b3 => ?_)
  · refine w_iconst (by decide) (tX10_water_0_ok (18, .iconst 0, 1) (List.mem_of_getElem? (i := 9) rfl)) (fun v4 e5 => ?_)
    refine w_zret rfl (by omega) (by omega) (tX10_water_0_ok (19, .ireturn, 1) (List.mem_of_getElem? (i := 10) rfl)) ?_
    exact hq _ _ (by split <;> omega)
  · refine w_iload_n (List.Mem.tail _ (List.Mem.tail _ (List.Mem.head _))) (tX10_water_0_ok (8, .iload_n 2, 1) (List.mem_of_getElem? (i := 4) rfl)) ?_
    refine w_if_lt (tgt := 18) (tX10_water_0_ok (9, .ifCond .lt 9, 3) (List.mem_of_getElem? (i := 5) rfl)) rfl (fun b6 => ?_) (fun b6 => ?_)
    · refine w_iconst (by decide) (tX10_water_0_ok (18, .iconst 0, 1) (List.mem_of_getElem? (i := 9) rfl)) (fun v7 e8 => ?_)
      refine w_zret rfl (by omega) (by omega) (tX10_water_0_ok (19, .ireturn, 1) (List.mem_of_getElem? (i := 10) rfl)) ?_
      exact hq _ _ (by split <;> omega)
    · refine w_iload_n (List.Mem.tail _ (List.Mem.tail _ (List.Mem.head _))) (tX10_water_0_ok (12, .iload_n 2, 1) (List.mem_of_getElem? (i := 6) rfl)) ?_
      refine w_bipush (by decide) (tX10_water_0_ok (13, .bipush 99, 2) (List.mem_of_getElem? (i := 7) rfl)) (fun v9 e10 => ?_)
      refine w_icmp_le (tgt := 20) (tX10_water_0_ok (15, .if_icmp .le 5, 3) (List.mem_of_getElem? (i := 8) rfl)) rfl (fun b11 => ?_) (fun b11 => ?_)
      · refine w_aload_n (List.Mem.head _) (tX10_water_0_ok (20, .aload_n 0, 1) (List.mem_of_getElem? (i := 11) rfl)) ?_
        refine w_get (own := 15) rfl rfl (by decide) c_x q_no (tX10_water_0_ok (21, .getfield 29, 3) (List.mem_of_getElem? (i := 12) rfl)) ?_
        refine w_get (own := 15) rfl rfl (by decide) c_no q_wa (tX10_water_0_ok (24, .getfield 212, 3) (List.mem_of_getElem? (i := 13) rfl)) ?_
        refine w_iload_n (List.Mem.tail _ (List.Mem.head _)) (tX10_water_0_ok (27, .iload_n 1, 1) (List.mem_of_getElem? (i := 14) rfl)) ?_
        refine w_iload_n (List.Mem.tail _ (List.Mem.tail _ (List.Mem.head _))) (tX10_water_0_ok (28, .iload_n 2, 1) (List.mem_of_getElem? (i := 15) rfl)) ?_
        refine w_iast hT c_wa (by omega) (by omega) (tX10_water_0_ok (29, .iastore, 1) (List.mem_of_getElem? (i := 16) rfl)) (fun h12 c13 o14 => ?_)
        have c15 := (o14 x (k_sg_ne s_x s_wa (by omega))).trans c_x
        have c16 := (o14 Pa (k_sg_ne s_Pa s_wa (by omega))).trans c_Pa
        have c17 := (o14 fo (k_sg_ne s_fo s_wa (by omega))).trans c_fo
        have c18 := (o14 no (k_sg_ne s_no s_wa (by omega))).trans c_no
        refine w_iconst (by decide) (tX10_water_0_ok (30, .iconst 1, 1) (List.mem_of_getElem? (i := 17) rfl)) (fun v19 e20 => ?_)
        refine w_zret rfl (by omega) (by omega) (tX10_water_0_ok (31, .ireturn, 1) (List.mem_of_getElem? (i := 18) rfl)) ?_
        exact hq _ _ (by split <;> omega)
      · refine w_iconst (by decide) (tX10_water_0_ok (18, .iconst 0, 1) (List.mem_of_getElem? (i := 9) rfl)) (fun v21 e22 => ?_)
        refine w_zret rfl (by omega) (by omega) (tX10_water_0_ok (19, .ireturn, 1) (List.mem_of_getElem? (i := 10) rfl)) ?_
        exact hq _ _ (by split <;> omega)
theorem c_gallery (hT : k_tys tys cA) {p : Int32} (hH : k_H Sg cA Lb h) (s_x : Sg x = some 0) (H : bC h x τ) (hq : ∀ (v : Int32) (h1 : ch_H), bC h1 x (n_gallery p τ) → v.toInt = (if 1 ≤ τ.1 ∧ 0 ≤ p.toInt ∧ p.toInt ≤ 60 ∧ τ.2.1 < 6 then 12 + (τ.2.1 : Int) else -1) → Q (some (.int v)) h1) : ww l D tys A X fr lo mX10_gallery Q 0 [(0, .ref x), (1, .int p)] [] h := by
  obtain ⟨xs, ps, gs, Pa, P, fo, n, ga, pe, ta, c_x, f1, f2, f8, nPP, c_Pa, p0, c_fo, g0, g3, g5, t0, t1, t2, t3⟩ := H
  obtain ⟨s_Pa, s_fo⟩ := bC.sg hH s_x c_x f1 f8
  obtain ⟨w9, c9, xl, ty_x⟩ := hH.obj s_x (L := 0) rfl
  rw [c_x] at c9
  cases c9
  obtain ⟨w9, c9, pl, ty_Pa⟩ := hH.obj s_Pa (L := 2) rfl
  rw [c_Pa] at c9
  cases c9
  obtain ⟨w9, c9, gl, ty_fo⟩ := hH.obj s_fo (L := 4) rfl
  rw [c_fo] at c9
  cases c9
  have bn : 0 ≤ n.toInt ∧ n.toInt ≤ 6 := by
    obtain ⟨v9, e9, t9⟩ := ty_Pa 0 _ rfl
    rw [p0] at e9
    cases e9
    obtain ⟨y9, z9, r1, r2⟩ := k_v.int t9
    cases z9
    exact ⟨r1, r2⟩
  have bg : 0 ≤ ga.toInt ∧ ga.toInt ≤ 6 := by
    obtain ⟨v9, e9, t9⟩ := ty_fo 0 _ rfl
    rw [g0] at e9
    cases e9
    obtain ⟨y9, z9, r1, r2⟩ := k_v.int t9
    cases z9
    exact ⟨r1, r2⟩
  have bp : 0 ≤ pe.toInt ∧ pe.toInt ≤ 8 := by
    obtain ⟨v9, e9, t9⟩ := ty_fo 3 _ rfl
    rw [g3] at e9
    cases e9
    obtain ⟨y9, z9, r1, r2⟩ := k_v.int t9
    cases z9
    exact ⟨r1, r2⟩
  have bt : 0 ≤ ta.toInt ∧ ta.toInt ≤ 6 := by
    obtain ⟨v9, e9, t9⟩ := ty_fo 5 _ rfl
    rw [g5] at e9
    cases e9
    obtain ⟨y9, z9, r1, r2⟩ := k_v.int t9
    cases z9
    exact ⟨r1, r2⟩
  obtain ⟨v_gh, q_gh, w_gh⟩ := ty_fo 1 _ rfl
  obtain ⟨gh, rfl, s_gh⟩ := k_v.ref w_gh
  obtain ⟨z_gh, c_gh, -⟩ := hH.arr s_gh (L := 24) rfl
  refine w_aload_n (List.Mem.head _) (tX10_gallery_0_ok (0, .aload_n 0, 1) (List.mem_of_getElem? (i := 0) rfl)) ?_
  refine w_get (own := 15) rfl rfl (by decide) c_x f1 (tX10_gallery_0_ok (1, .getfield 19, 3) (List.mem_of_getElem? (i := 1) rfl)) ?_
  refine w_get (own := 15) rfl rfl (by decide) c_Pa p0 (tX10_gallery_0_ok (4, .getfield 95, 3) (List.mem_of_getElem? (i := 2) rfl)) ?_
  refine w_if_eq (tgt := 32) (tX10_gallery_0_ok (7, .ifCond .eq 25, 3) (List.mem_of_getElem? (i := 3) rfl)) rfl (fun b1 => ?_) (fun b1 => ?_)
  · refine w_iconst (by decide) (tX10_gallery_0_ok (32, .iconst (-1), 1) (List.mem_of_getElem? (i := 14) rfl)) (fun v2 e3 => ?_)
    refine w_iret rfl (tX10_gallery_0_ok (33, .ireturn, 1) (List.mem_of_getElem? (i := 15) rfl)) ?_
    refine hq _ _ ?_ (by split <;> omega)
    unfold n_gallery
    rw [if_neg (by omega)]
    exact ⟨_, _, _, _, _, _, _, _, _, _, c_x, f1, f2, f8, nPP, c_Pa, p0, c_fo, g0, g3, g5, t0, t1, t2, t3⟩
  · refine w_iload_n (List.Mem.tail _ (List.Mem.head _)) (tX10_gallery_0_ok (10, .iload_n 1, 1) (List.mem_of_getElem? (i := 4) rfl)) ?_
    refine w_if_lt (tgt := 32) (tX10_gallery_0_ok (11, .ifCond .lt 21, 3) (List.mem_of_getElem? (i := 5) rfl)) rfl (fun b4 => ?_) (fun b4 => ?_)
    · refine w_iconst (by decide) (tX10_gallery_0_ok (32, .iconst (-1), 1) (List.mem_of_getElem? (i := 14) rfl)) (fun v5 e6 => ?_)
      refine w_iret rfl (tX10_gallery_0_ok (33, .ireturn, 1) (List.mem_of_getElem? (i := 15) rfl)) ?_
      refine hq _ _ ?_ (by split <;> omega)
      unfold n_gallery
      rw [if_neg (by omega)]
      exact ⟨_, _, _, _, _, _, _, _, _, _, c_x, f1, f2, f8, nPP, c_Pa, p0, c_fo, g0, g3, g5, t0, t1, t2, t3⟩
    · refine w_iload_n (List.Mem.tail _ (List.Mem.head _)) (tX10_gallery_0_ok (14, .iload_n 1, 1) (List.mem_of_getElem? (i := 6) rfl)) ?_
      refine w_bipush (by decide) (tX10_gallery_0_ok (15, .bipush 60, 2) (List.mem_of_getElem? (i := 7) rfl)) (fun v7 e8 => ?_)
      refine w_icmp_gt (tgt := 32) (tX10_gallery_0_ok (17, .if_icmp .gt 15, 3) (List.mem_of_getElem? (i := 8) rfl)) rfl (fun b9 => ?_) (fun b9 => ?_)
      · refine w_iconst (by decide) (tX10_gallery_0_ok (32, .iconst (-1), 1) (List.mem_of_getElem? (i := 14) rfl)) (fun v10 e11 => ?_)
        refine w_iret rfl (tX10_gallery_0_ok (33, .ireturn, 1) (List.mem_of_getElem? (i := 15) rfl)) ?_
        refine hq _ _ ?_ (by split <;> omega)
        unfold n_gallery
        rw [if_neg (by omega)]
        exact ⟨_, _, _, _, _, _, _, _, _, _, c_x, f1, f2, f8, nPP, c_Pa, p0, c_fo, g0, g3, g5, t0, t1, t2, t3⟩
      · refine w_aload_n (List.Mem.head _) (tX10_gallery_0_ok (20, .aload_n 0, 1) (List.mem_of_getElem? (i := 9) rfl)) ?_
        refine w_get (own := 15) rfl rfl (by decide) c_x f8 (tX10_gallery_0_ok (21, .getfield 42, 3) (List.mem_of_getElem? (i := 10) rfl)) ?_
        refine w_get (own := 15) rfl rfl (by decide) c_fo g0 (tX10_gallery_0_ok (24, .getfield 148, 3) (List.mem_of_getElem? (i := 11) rfl)) ?_
        refine w_bipush (by decide) (tX10_gallery_0_ok (27, .bipush 6, 2) (List.mem_of_getElem? (i := 12) rfl)) (fun v12 e13 => ?_)
        refine w_icmp_lt (tgt := 34) (tX10_gallery_0_ok (29, .if_icmp .lt 5, 3) (List.mem_of_getElem? (i := 13) rfl)) rfl (fun b14 => ?_) (fun b14 => ?_)
        · refine w_aload_n (List.Mem.head _) (tX10_gallery_0_ok (34, .aload_n 0, 1) (List.mem_of_getElem? (i := 16) rfl)) ?_
          refine w_get (own := 15) rfl rfl (by decide) c_x f8 (tX10_gallery_0_ok (35, .getfield 42, 3) (List.mem_of_getElem? (i := 17) rfl)) ?_
          refine w_get (own := 15) rfl rfl (by decide) c_fo q_gh (tX10_gallery_0_ok (38, .getfield 250, 3) (List.mem_of_getElem? (i := 18) rfl)) ?_
          refine w_aload_n (List.Mem.head _) (tX10_gallery_0_ok (41, .aload_n 0, 1) (List.mem_of_getElem? (i := 19) rfl)) ?_
          refine w_get (own := 15) rfl rfl (by decide) c_x f8 (tX10_gallery_0_ok (42, .getfield 42, 3) (List.mem_of_getElem? (i := 20) rfl)) ?_
          refine w_get (own := 15) rfl rfl (by decide) c_fo g0 (tX10_gallery_0_ok (45, .getfield 148, 3) (List.mem_of_getElem? (i := 21) rfl)) ?_
          refine w_iload_n (List.Mem.tail _ (List.Mem.head _)) (tX10_gallery_0_ok (48, .iload_n 1, 1) (List.mem_of_getElem? (i := 22) rfl)) ?_
          refine w_iast hT c_gh (by omega) (by omega) (tX10_gallery_0_ok (49, .iastore, 1) (List.mem_of_getElem? (i := 23) rfl)) (fun h15 c16 o17 => ?_)
          have c18 := (o17 x (k_sg_ne s_x s_gh (by omega))).trans c_x
          have c19 := (o17 Pa (k_sg_ne s_Pa s_gh (by omega))).trans c_Pa
          have c20 := (o17 fo (k_sg_ne s_fo s_gh (by omega))).trans c_fo
          refine w_aload_n (List.Mem.head _) (tX10_gallery_0_ok (50, .aload_n 0, 1) (List.mem_of_getElem? (i := 24) rfl)) ?_
          refine w_get (own := 15) rfl rfl (by decide) c18 f8 (tX10_gallery_0_ok (51, .getfield 42, 3) (List.mem_of_getElem? (i := 25) rfl)) ?_
          refine w_dup rfl (tX10_gallery_0_ok (54, .dup, 1) (List.mem_of_getElem? (i := 26) rfl)) ?_
          refine w_get (own := 15) rfl rfl (by decide) c20 g0 (tX10_gallery_0_ok (55, .getfield 148, 3) (List.mem_of_getElem? (i := 27) rfl)) ?_
          refine w_iconst (by decide) (tX10_gallery_0_ok (58, .iconst 1, 1) (List.mem_of_getElem? (i := 28) rfl)) (fun v21 e22 => ?_)
          refine w_iadd (by omega) (by omega) (tX10_gallery_0_ok (59, .iadd, 1) (List.mem_of_getElem? (i := 29) rfl)) (fun v23 e24 => ?_)
          refine w_putF (own := 15) (ci := 1) (k := 0) rfl rfl (by decide) rfl ⟨rfl, rfl⟩ c20 (by rw [gl]; decide) (tX10_gallery_0_ok (60, .putfield 148, 3) (List.mem_of_getElem? (i := 30) rfl)) (fun h25 fs28 l29 k30 j31 c26 o27 => ?_)
          rw [gl] at l29
          have f32 := (j31 3 (by decide)).trans g3
          have f33 := (j31 5 (by decide)).trans g5
          have f34 := (j31 1 (by decide)).trans q_gh
          have c35 := (o27 gh (k_sg_ne s_gh s_fo (by omega))).trans c16
          have c36 := (o27 x (k_sg_ne s_x s_fo (by omega))).trans c18
          have c37 := (o27 Pa (k_sg_ne s_Pa s_fo (by omega))).trans c19
          refine w_bipush (by decide) (tX10_gallery_0_ok (63, .bipush 12, 2) (List.mem_of_getElem? (i := 31) rfl)) (fun v38 e39 => ?_)
          refine w_aload_n (List.Mem.head _) (tX10_gallery_0_ok (65, .aload_n 0, 1) (List.mem_of_getElem? (i := 32) rfl)) ?_
          refine w_get (own := 15) rfl rfl (by decide) c36 f8 (tX10_gallery_0_ok (66, .getfield 42, 3) (List.mem_of_getElem? (i := 33) rfl)) ?_
          refine w_get (own := 15) rfl rfl (by decide) c26 k30 (tX10_gallery_0_ok (69, .getfield 148, 3) (List.mem_of_getElem? (i := 34) rfl)) ?_
          refine w_iadd (by omega) (by omega) (tX10_gallery_0_ok (72, .iadd, 1) (List.mem_of_getElem? (i := 35) rfl)) (fun v40 e41 => ?_)
          refine w_iconst (by decide) (tX10_gallery_0_ok (73, .iconst 1, 1) (List.mem_of_getElem? (i := 36) rfl)) (fun v42 e43 => ?_)
          refine w_isub (by omega) (by omega) (tX10_gallery_0_ok (74, .isub, 1) (List.mem_of_getElem? (i := 37) rfl)) (fun v44 e45 => ?_)
          refine w_iret rfl (tX10_gallery_0_ok (75, .ireturn, 1) (List.mem_of_getElem? (i := 38) rfl)) ?_
          refine hq _ _ ?_ (by split <;> omega)
          unfold n_gallery
          rw [if_pos (by omega)]
          exact ⟨_, _, _, _, _, _, _, _, _, _, c36, f1, f2, f8, nPP, c37, p0, c26, k30, f32, f33, t0, by show v23.toInt = ((τ.2.1 + 1 : Nat) : Int); omega, t2, t3⟩
        · refine w_iconst (by decide) (tX10_gallery_0_ok (32, .iconst (-1), 1) (List.mem_of_getElem? (i := 14) rfl)) (fun v46 e47 => ?_)
          refine w_iret rfl (tX10_gallery_0_ok (33, .ireturn, 1) (List.mem_of_getElem? (i := 15) rfl)) ?_
          refine hq _ _ ?_ (by split <;> omega)
          unfold n_gallery
          rw [if_neg (by omega)]
          exact ⟨_, _, _, _, _, _, _, _, _, _, c_x, f1, f2, f8, nPP, c_Pa, p0, c_fo, g0, g3, g5, t0, t1, t2, t3⟩
theorem c_beside (hT : k_tys tys cA) (hjn : k_sat l D tys A X Sg cA Lb (24, [(2, 4, 0), (0, 0, 17), (0, 0, 17), (0, 0, 1)], [], none, [(25, 0)], 0, 0)) {p y z : Int32} (bz : 0 ≤ z.toInt ∧ z.toInt ≤ 1) (hf : 2 ≤ fr) (hl : 42 ≤ lo) (hH : k_H Sg cA Lb h) (s_x : Sg x = some 0) (H : bC h x τ) (hq : ∀ (v : Int32) (h1 : ch_H), v.toInt = (if (0 ≤ p.toInt ∧ p.toInt < 2 * (τ.1 : Int) ∨ 12 ≤ p.toInt ∧ p.toInt < 12 + (τ.2.1 : Int)) ∧ (0 ≤ y.toInt ∧ y.toInt < 2 * (τ.1 : Int) ∨ 12 ≤ y.toInt ∧ y.toInt < 12 + (τ.2.1 : Int)) ∧ ¬ p.toInt = y.toInt then 1 else 0) → Q (some (.int v)) h1) : ww l D tys A X fr lo mX10_beside Q 0 [(0, .ref x), (1, .int p), (2, .int y), (3, .int z)] [] h := by
  obtain ⟨xs, ps, gs, Pa, P, fo, n, ga, pe, ta, c_x, f1, f2, f8, nPP, c_Pa, p0, c_fo, g0, g3, g5, t0, t1, t2, t3⟩ := H
  obtain ⟨s_Pa, s_fo⟩ := bC.sg hH s_x c_x f1 f8
  obtain ⟨w9, c9, xl, ty_x⟩ := hH.obj s_x (L := 0) rfl
  rw [c_x] at c9
  cases c9
  obtain ⟨w9, c9, pl, ty_Pa⟩ := hH.obj s_Pa (L := 2) rfl
  rw [c_Pa] at c9
  cases c9
  obtain ⟨w9, c9, gl, ty_fo⟩ := hH.obj s_fo (L := 4) rfl
  rw [c_fo] at c9
  cases c9
  have bn : 0 ≤ n.toInt ∧ n.toInt ≤ 6 := by
    obtain ⟨v9, e9, t9⟩ := ty_Pa 0 _ rfl
    rw [p0] at e9
    cases e9
    obtain ⟨y9, z9, r1, r2⟩ := k_v.int t9
    cases z9
    exact ⟨r1, r2⟩
  have bg : 0 ≤ ga.toInt ∧ ga.toInt ≤ 6 := by
    obtain ⟨v9, e9, t9⟩ := ty_fo 0 _ rfl
    rw [g0] at e9
    cases e9
    obtain ⟨y9, z9, r1, r2⟩ := k_v.int t9
    cases z9
    exact ⟨r1, r2⟩
  have bp : 0 ≤ pe.toInt ∧ pe.toInt ≤ 8 := by
    obtain ⟨v9, e9, t9⟩ := ty_fo 3 _ rfl
    rw [g3] at e9
    cases e9
    obtain ⟨y9, z9, r1, r2⟩ := k_v.int t9
    cases z9
    exact ⟨r1, r2⟩
  have bt : 0 ≤ ta.toInt ∧ ta.toInt ≤ 6 := by
    obtain ⟨v9, e9, t9⟩ := ty_fo 5 _ rfl
    rw [g5] at e9
    cases e9
    obtain ⟨y9, z9, r1, r2⟩ := k_v.int t9
    cases z9
    exact ⟨r1, r2⟩
  refine w_aload_n (List.Mem.head _) (tX10_beside_0_ok (0, .aload_n 0, 1) (List.mem_of_getElem? (i := 0) rfl)) ?_
  refine w_iload_n (List.Mem.tail _ (List.Mem.head _)) (tX10_beside_0_ok (1, .iload_n 1, 1) (List.mem_of_getElem? (i := 1) rfl)) ?_
  refine w_callV (own := 15) (mi := 121) [.int p] [] [(0, .ref x), (1, .int p)] rfl (cllw_X10 (253, 0, 121) (List.mem_of_getElem? (i := 19) rfl)) rfl rfl c_x rfl (by omega) (w_lo (n := 21) rfl (by omega)) (Nat.le_of_ble_eq_true rfl) (Nat.le_of_ble_eq_true rfl) rfl (tX10_beside_0_ok (2, .invokevirtual 253, 3) (List.mem_of_getElem? (i := 2) rfl)) (c_isPlace (by omega) (w_sub (n := 21) rfl (by omega)) c_x f1 c_Pa p0 bn f8 c_fo g0 bg (fun v1 e2 => ?_))
  show ww l D tys A X fr lo mX10_beside Q 5 [(0, .ref x), (1, .int p), (2, .int y), (3, .int z)] [.int v1] h
  refine w_if_eq (tgt := 21) (tX10_beside_0_ok (5, .ifCond .eq 16, 3) (List.mem_of_getElem? (i := 3) rfl)) rfl (fun b3 => ?_) (fun b3 => ?_)
  · refine w_iconst (by decide) (tX10_beside_0_ok (21, .iconst 0, 1) (List.mem_of_getElem? (i := 11) rfl)) (fun v4 e5 => ?_)
    refine w_zret rfl (by omega) (by omega) (tX10_beside_0_ok (22, .ireturn, 1) (List.mem_of_getElem? (i := 12) rfl)) ?_
    exact hq _ _ (by split <;> omega)
  · refine w_aload_n (List.Mem.head _) (tX10_beside_0_ok (8, .aload_n 0, 1) (List.mem_of_getElem? (i := 4) rfl)) ?_
    refine w_iload_n (List.Mem.tail _ (List.Mem.tail _ (List.Mem.head _))) (tX10_beside_0_ok (9, .iload_n 2, 1) (List.mem_of_getElem? (i := 5) rfl)) ?_
    refine w_callV (own := 15) (mi := 121) [.int y] [] [(0, .ref x), (1, .int y)] rfl (cllw_X10 (253, 0, 121) (List.mem_of_getElem? (i := 19) rfl)) rfl rfl c_x rfl (by omega) (w_lo (n := 21) rfl (by omega)) (Nat.le_of_ble_eq_true rfl) (Nat.le_of_ble_eq_true rfl) rfl (tX10_beside_0_ok (10, .invokevirtual 253, 3) (List.mem_of_getElem? (i := 6) rfl)) (c_isPlace (by omega) (w_sub (n := 21) rfl (by omega)) c_x f1 c_Pa p0 bn f8 c_fo g0 bg (fun v6 e7 => ?_))
    show ww l D tys A X fr lo mX10_beside Q 13 [(0, .ref x), (1, .int p), (2, .int y), (3, .int z)] [.int v6] h
    refine w_if_eq (tgt := 21) (tX10_beside_0_ok (13, .ifCond .eq 8, 3) (List.mem_of_getElem? (i := 7) rfl)) rfl (fun b8 => ?_) (fun b8 => ?_)
    · refine w_iconst (by decide) (tX10_beside_0_ok (21, .iconst 0, 1) (List.mem_of_getElem? (i := 11) rfl)) (fun v9 e10 => ?_)
      refine w_zret rfl (by omega) (by omega) (tX10_beside_0_ok (22, .ireturn, 1) (List.mem_of_getElem? (i := 12) rfl)) ?_
      exact hq _ _ (by split <;> omega)
    · refine w_iload_n (List.Mem.tail _ (List.Mem.head _)) (tX10_beside_0_ok (16, .iload_n 1, 1) (List.mem_of_getElem? (i := 8) rfl)) ?_
      refine w_iload_n (List.Mem.tail _ (List.Mem.tail _ (List.Mem.head _))) (tX10_beside_0_ok (17, .iload_n 2, 1) (List.mem_of_getElem? (i := 9) rfl)) ?_
      refine w_icmp_ne (tgt := 23) (tX10_beside_0_ok (18, .if_icmp .ne 5, 3) (List.mem_of_getElem? (i := 10) rfl)) rfl (fun b11 => ?_) (fun b11 => ?_)
      · refine w_aload_n (List.Mem.head _) (tX10_beside_0_ok (23, .aload_n 0, 1) (List.mem_of_getElem? (i := 13) rfl)) ?_
        refine w_get (own := 15) rfl rfl (by decide) c_x f8 (tX10_beside_0_ok (24, .getfield 42, 3) (List.mem_of_getElem? (i := 14) rfl)) ?_
        refine w_iload_n (List.Mem.tail _ (List.Mem.head _)) (tX10_beside_0_ok (27, .iload_n 1, 1) (List.mem_of_getElem? (i := 15) rfl)) ?_
        refine w_iload_n (List.Mem.tail _ (List.Mem.tail _ (List.Mem.head _))) (tX10_beside_0_ok (28, .iload_n 2, 1) (List.mem_of_getElem? (i := 16) rfl)) ?_
        refine w_iload_n (List.Mem.tail _ (List.Mem.tail _ (List.Mem.tail _ (List.Mem.head _)))) (tX10_beside_0_ok (29, .iload_n 3, 1) (List.mem_of_getElem? (i := 17) rfl)) ?_
        refine w_callKV (own := 15) (mi := 24) [.int p, .int y, .int z] [] rfl (cllw_X10 (256, 0, 24) (List.mem_of_getElem? (i := 20) rfl)) rfl rfl rfl c_fo rfl hjn hH rfl (fun i ty hi => ?_) (by omega) (Nat.le_trans (Nat.le_of_ble_eq_true rfl) hl) (Nat.le_of_ble_eq_true rfl) (Nat.le_of_ble_eq_true rfl) (tX10_beside_0_ok (30, .invokevirtual 256, 3) (List.mem_of_getElem? (i := 18) rfl)) (fun r12 g13 q14 q15 q16 => ?_)
        · match i, hi with
          | 0, hi => cases hi; exact ⟨_, rfl, fo, rfl, s_fo⟩
          | 1, hi => cases hi; exact ⟨_, rfl, p, rfl, by show (0 : Int) ≤ _; omega, by show _ ≤ (17 : Int); omega⟩
          | 2, hi => cases hi; exact ⟨_, rfl, y, rfl, by show (0 : Int) ≤ _; omega, by show _ ≤ (17 : Int); omega⟩
          | 3, hi => cases hi; exact ⟨_, rfl, z, rfl, by show (0 : Int) ≤ _; omega, by show _ ≤ (1 : Int); omega⟩
        have e9 : r12 = none := q16
        subst e9
        show ww l D tys A X fr lo mX10_beside Q 33 [(0, .ref x), (1, .int p), (2, .int y), (3, .int z)] [] g13
        refine w_iconst (by decide) (tX10_beside_0_ok (33, .iconst 1, 1) (List.mem_of_getElem? (i := 19) rfl)) (fun v17 e18 => ?_)
        refine w_zret rfl (by omega) (by omega) (tX10_beside_0_ok (34, .ireturn, 1) (List.mem_of_getElem? (i := 20) rfl)) ?_
        exact hq _ _ (by split <;> omega)
      · refine w_iconst (by decide) (tX10_beside_0_ok (21, .iconst 0, 1) (List.mem_of_getElem? (i := 11) rfl)) (fun v19 e20 => ?_)
        refine w_zret rfl (by omega) (by omega) (tX10_beside_0_ok (22, .ireturn, 1) (List.mem_of_getElem? (i := 12) rfl)) ?_
        exact hq _ _ (by split <;> omega)
theorem c_person (hT : k_tys tys cA) {p y : Int32} (hf : 2 ≤ fr) (hl : 42 ≤ lo) (hH : k_H Sg cA Lb h) (s_x : Sg x = some 0) (H : bC h x τ) (hq : ∀ (v : Int32) (h1 : ch_H), bC h1 x (n_person p y τ) → v.toInt = (if 1 ≤ p.toInt ∧ p.toInt ≤ 9 ∧ (0 ≤ y.toInt ∧ y.toInt < 2 * (τ.1 : Int) ∨ 12 ≤ y.toInt ∧ y.toInt < 12 + (τ.2.1 : Int)) ∧ τ.2.2.1 < 8 then (τ.2.2.1 : Int) else -1) → Q (some (.int v)) h1) : ww l D tys A X fr lo mX10_person Q 0 [(0, .ref x), (1, .int p), (2, .int y)] [] h := by
  obtain ⟨xs, ps, gs, Pa, P, fo, n, ga, pe, ta, c_x, f1, f2, f8, nPP, c_Pa, p0, c_fo, g0, g3, g5, t0, t1, t2, t3⟩ := H
  obtain ⟨s_Pa, s_fo⟩ := bC.sg hH s_x c_x f1 f8
  obtain ⟨w9, c9, xl, ty_x⟩ := hH.obj s_x (L := 0) rfl
  rw [c_x] at c9
  cases c9
  obtain ⟨w9, c9, pl, ty_Pa⟩ := hH.obj s_Pa (L := 2) rfl
  rw [c_Pa] at c9
  cases c9
  obtain ⟨w9, c9, gl, ty_fo⟩ := hH.obj s_fo (L := 4) rfl
  rw [c_fo] at c9
  cases c9
  have bn : 0 ≤ n.toInt ∧ n.toInt ≤ 6 := by
    obtain ⟨v9, e9, t9⟩ := ty_Pa 0 _ rfl
    rw [p0] at e9
    cases e9
    obtain ⟨y9, z9, r1, r2⟩ := k_v.int t9
    cases z9
    exact ⟨r1, r2⟩
  have bg : 0 ≤ ga.toInt ∧ ga.toInt ≤ 6 := by
    obtain ⟨v9, e9, t9⟩ := ty_fo 0 _ rfl
    rw [g0] at e9
    cases e9
    obtain ⟨y9, z9, r1, r2⟩ := k_v.int t9
    cases z9
    exact ⟨r1, r2⟩
  have bp : 0 ≤ pe.toInt ∧ pe.toInt ≤ 8 := by
    obtain ⟨v9, e9, t9⟩ := ty_fo 3 _ rfl
    rw [g3] at e9
    cases e9
    obtain ⟨y9, z9, r1, r2⟩ := k_v.int t9
    cases z9
    exact ⟨r1, r2⟩
  have bt : 0 ≤ ta.toInt ∧ ta.toInt ≤ 6 := by
    obtain ⟨v9, e9, t9⟩ := ty_fo 5 _ rfl
    rw [g5] at e9
    cases e9
    obtain ⟨y9, z9, r1, r2⟩ := k_v.int t9
    cases z9
    exact ⟨r1, r2⟩
  obtain ⟨v_no, q_no, w_no⟩ := ty_x 3 _ rfl
  obtain ⟨no, rfl, s_no⟩ := k_v.ref w_no
  obtain ⟨ns, c_no, nl, ty_no⟩ := hH.obj s_no (L := 3) rfl
  obtain ⟨v_we, q_we, w_we⟩ := ty_fo 4 _ rfl
  obtain ⟨we, rfl, s_we⟩ := k_v.ref w_we
  obtain ⟨z_we, c_we, -⟩ := hH.arr s_we (L := 26) rfl
  obtain ⟨v_ar, q_ar, w_ar⟩ := ty_no 4 _ rfl
  obtain ⟨ar, rfl, s_ar⟩ := k_v.ref w_ar
  obtain ⟨z_ar, c_ar, -⟩ := hH.arr s_ar (L := 23) rfl
  refine w_iload_n (List.Mem.tail _ (List.Mem.head _)) (tX10_person_0_ok (0, .iload_n 1, 1) (List.mem_of_getElem? (i := 0) rfl)) ?_
  refine w_iconst (by decide) (tX10_person_0_ok (1, .iconst 1, 1) (List.mem_of_getElem? (i := 1) rfl)) (fun v1 e2 => ?_)
  refine w_icmp_lt (tgt := 31) (tX10_person_0_ok (2, .if_icmp .lt 29, 3) (List.mem_of_getElem? (i := 2) rfl)) rfl (fun b3 => ?_) (fun b3 => ?_)
  · refine w_iconst (by decide) (tX10_person_0_ok (31, .iconst (-1), 1) (List.mem_of_getElem? (i := 15) rfl)) (fun v4 e5 => ?_)
    refine w_iret rfl (tX10_person_0_ok (32, .ireturn, 1) (List.mem_of_getElem? (i := 16) rfl)) ?_
    refine hq _ _ ?_ (by split <;> omega)
    unfold n_person
    rw [if_neg (by omega)]
    exact ⟨_, _, _, _, _, _, _, _, _, _, c_x, f1, f2, f8, nPP, c_Pa, p0, c_fo, g0, g3, g5, t0, t1, t2, t3⟩
  · refine w_iload_n (List.Mem.tail _ (List.Mem.head _)) (tX10_person_0_ok (5, .iload_n 1, 1) (List.mem_of_getElem? (i := 3) rfl)) ?_
    refine w_bipush (by decide) (tX10_person_0_ok (6, .bipush 9, 2) (List.mem_of_getElem? (i := 4) rfl)) (fun v6 e7 => ?_)
    refine w_icmp_gt (tgt := 31) (tX10_person_0_ok (8, .if_icmp .gt 23, 3) (List.mem_of_getElem? (i := 5) rfl)) rfl (fun b8 => ?_) (fun b8 => ?_)
    · refine w_iconst (by decide) (tX10_person_0_ok (31, .iconst (-1), 1) (List.mem_of_getElem? (i := 15) rfl)) (fun v9 e10 => ?_)
      refine w_iret rfl (tX10_person_0_ok (32, .ireturn, 1) (List.mem_of_getElem? (i := 16) rfl)) ?_
      refine hq _ _ ?_ (by split <;> omega)
      unfold n_person
      rw [if_neg (by omega)]
      exact ⟨_, _, _, _, _, _, _, _, _, _, c_x, f1, f2, f8, nPP, c_Pa, p0, c_fo, g0, g3, g5, t0, t1, t2, t3⟩
    · refine w_aload_n (List.Mem.head _) (tX10_person_0_ok (11, .aload_n 0, 1) (List.mem_of_getElem? (i := 6) rfl)) ?_
      refine w_iload_n (List.Mem.tail _ (List.Mem.tail _ (List.Mem.head _))) (tX10_person_0_ok (12, .iload_n 2, 1) (List.mem_of_getElem? (i := 7) rfl)) ?_
      refine w_callV (own := 15) (mi := 121) [.int y] [] [(0, .ref x), (1, .int y)] rfl (cllw_X10 (253, 0, 121) (List.mem_of_getElem? (i := 19) rfl)) rfl rfl c_x rfl (by omega) (w_lo (n := 21) rfl (by omega)) (Nat.le_of_ble_eq_true rfl) (Nat.le_of_ble_eq_true rfl) rfl (tX10_person_0_ok (13, .invokevirtual 253, 3) (List.mem_of_getElem? (i := 8) rfl)) (c_isPlace (by omega) (w_sub (n := 21) rfl (by omega)) c_x f1 c_Pa p0 bn f8 c_fo g0 bg (fun v11 e12 => ?_))
      show ww l D tys A X fr lo mX10_person Q 16 [(0, .ref x), (1, .int p), (2, .int y)] [.int v11] h
      refine w_if_eq (tgt := 31) (tX10_person_0_ok (16, .ifCond .eq 15, 3) (List.mem_of_getElem? (i := 9) rfl)) rfl (fun b13 => ?_) (fun b13 => ?_)
      · refine w_iconst (by decide) (tX10_person_0_ok (31, .iconst (-1), 1) (List.mem_of_getElem? (i := 15) rfl)) (fun v14 e15 => ?_)
        refine w_iret rfl (tX10_person_0_ok (32, .ireturn, 1) (List.mem_of_getElem? (i := 16) rfl)) ?_
        refine hq _ _ ?_ (by split <;> omega)
        unfold n_person
        rw [if_neg (by omega)]
        exact ⟨_, _, _, _, _, _, _, _, _, _, c_x, f1, f2, f8, nPP, c_Pa, p0, c_fo, g0, g3, g5, t0, t1, t2, t3⟩
      · refine w_aload_n (List.Mem.head _) (tX10_person_0_ok (19, .aload_n 0, 1) (List.mem_of_getElem? (i := 10) rfl)) ?_
        refine w_get (own := 15) rfl rfl (by decide) c_x f8 (tX10_person_0_ok (20, .getfield 42, 3) (List.mem_of_getElem? (i := 11) rfl)) ?_
        refine w_get (own := 15) rfl rfl (by decide) c_fo g3 (tX10_person_0_ok (23, .getfield 151, 3) (List.mem_of_getElem? (i := 12) rfl)) ?_
        refine w_bipush (by decide) (tX10_person_0_ok (26, .bipush 8, 2) (List.mem_of_getElem? (i := 13) rfl)) (fun v16 e17 => ?_)
        refine w_icmp_lt (tgt := 33) (tX10_person_0_ok (28, .if_icmp .lt 5, 3) (List.mem_of_getElem? (i := 14) rfl)) rfl (fun b18 => ?_) (fun b18 => ?_)
        · refine w_aload_n (List.Mem.head _) (tX10_person_0_ok (33, .aload_n 0, 1) (List.mem_of_getElem? (i := 17) rfl)) ?_
          refine w_get (own := 15) rfl rfl (by decide) c_x f8 (tX10_person_0_ok (34, .getfield 42, 3) (List.mem_of_getElem? (i := 18) rfl)) ?_
          refine w_get (own := 15) rfl rfl (by decide) c_fo q_we (tX10_person_0_ok (37, .getfield 264, 3) (List.mem_of_getElem? (i := 19) rfl)) ?_
          refine w_aload_n (List.Mem.head _) (tX10_person_0_ok (40, .aload_n 0, 1) (List.mem_of_getElem? (i := 20) rfl)) ?_
          refine w_get (own := 15) rfl rfl (by decide) c_x f8 (tX10_person_0_ok (41, .getfield 42, 3) (List.mem_of_getElem? (i := 21) rfl)) ?_
          refine w_get (own := 15) rfl rfl (by decide) c_fo g3 (tX10_person_0_ok (44, .getfield 151, 3) (List.mem_of_getElem? (i := 22) rfl)) ?_
          refine w_iload_n (List.Mem.tail _ (List.Mem.head _)) (tX10_person_0_ok (47, .iload_n 1, 1) (List.mem_of_getElem? (i := 23) rfl)) ?_
          refine w_iast hT c_we (by omega) (by omega) (tX10_person_0_ok (48, .iastore, 1) (List.mem_of_getElem? (i := 24) rfl)) (fun h19 c20 o21 => ?_)
          have c22 := (o21 ar (k_sg_ne s_ar s_we (by omega))).trans c_ar
          have c23 := (o21 x (k_sg_ne s_x s_we (by omega))).trans c_x
          have c24 := (o21 Pa (k_sg_ne s_Pa s_we (by omega))).trans c_Pa
          have c25 := (o21 fo (k_sg_ne s_fo s_we (by omega))).trans c_fo
          have c26 := (o21 no (k_sg_ne s_no s_we (by omega))).trans c_no
          refine w_aload_n (List.Mem.head _) (tX10_person_0_ok (49, .aload_n 0, 1) (List.mem_of_getElem? (i := 25) rfl)) ?_
          refine w_get (own := 15) rfl rfl (by decide) c23 q_no (tX10_person_0_ok (50, .getfield 29, 3) (List.mem_of_getElem? (i := 26) rfl)) ?_
          refine w_get (own := 15) rfl rfl (by decide) c26 q_ar (tX10_person_0_ok (53, .getfield 265, 3) (List.mem_of_getElem? (i := 27) rfl)) ?_
          refine w_aload_n (List.Mem.head _) (tX10_person_0_ok (56, .aload_n 0, 1) (List.mem_of_getElem? (i := 28) rfl)) ?_
          refine w_get (own := 15) rfl rfl (by decide) c23 f8 (tX10_person_0_ok (57, .getfield 42, 3) (List.mem_of_getElem? (i := 29) rfl)) ?_
          refine w_get (own := 15) rfl rfl (by decide) c25 g3 (tX10_person_0_ok (60, .getfield 151, 3) (List.mem_of_getElem? (i := 30) rfl)) ?_
          refine w_iload_n (List.Mem.tail _ (List.Mem.tail _ (List.Mem.head _))) (tX10_person_0_ok (63, .iload_n 2, 1) (List.mem_of_getElem? (i := 31) rfl)) ?_
          refine w_iast hT c22 (by omega) (by omega) (tX10_person_0_ok (64, .iastore, 1) (List.mem_of_getElem? (i := 32) rfl)) (fun h27 c28 o29 => ?_)
          have c30 := (o29 we (k_sg_ne s_we s_ar (by omega))).trans c20
          have c31 := (o29 x (k_sg_ne s_x s_ar (by omega))).trans c23
          have c32 := (o29 Pa (k_sg_ne s_Pa s_ar (by omega))).trans c24
          have c33 := (o29 fo (k_sg_ne s_fo s_ar (by omega))).trans c25
          have c34 := (o29 no (k_sg_ne s_no s_ar (by omega))).trans c26
          refine w_aload_n (List.Mem.head _) (tX10_person_0_ok (65, .aload_n 0, 1) (List.mem_of_getElem? (i := 33) rfl)) ?_
          refine w_get (own := 15) rfl rfl (by decide) c31 f8 (tX10_person_0_ok (66, .getfield 42, 3) (List.mem_of_getElem? (i := 34) rfl)) ?_
          refine w_dup rfl (tX10_person_0_ok (69, .dup, 1) (List.mem_of_getElem? (i := 35) rfl)) ?_
          refine w_get (own := 15) rfl rfl (by decide) c33 g3 (tX10_person_0_ok (70, .getfield 151, 3) (List.mem_of_getElem? (i := 36) rfl)) ?_
          refine w_iconst (by decide) (tX10_person_0_ok (73, .iconst 1, 1) (List.mem_of_getElem? (i := 37) rfl)) (fun v35 e36 => ?_)
          refine w_iadd (by omega) (by omega) (tX10_person_0_ok (74, .iadd, 1) (List.mem_of_getElem? (i := 38) rfl)) (fun v37 e38 => ?_)
          refine w_putF (own := 15) (ci := 1) (k := 3) rfl rfl (by decide) rfl ⟨rfl, rfl⟩ c33 (by rw [gl]; decide) (tX10_person_0_ok (75, .putfield 151, 3) (List.mem_of_getElem? (i := 39) rfl)) (fun h39 fs42 l43 k44 j45 c40 o41 => ?_)
          rw [gl] at l43
          have f46 := (j45 0 (by decide)).trans g0
          have f47 := (j45 5 (by decide)).trans g5
          have f48 := (j45 4 (by decide)).trans q_we
          have c49 := (o41 we (k_sg_ne s_we s_fo (by omega))).trans c30
          have c50 := (o41 ar (k_sg_ne s_ar s_fo (by omega))).trans c28
          have c51 := (o41 x (k_sg_ne s_x s_fo (by omega))).trans c31
          have c52 := (o41 Pa (k_sg_ne s_Pa s_fo (by omega))).trans c32
          have c53 := (o41 no (k_sg_ne s_no s_fo (by omega))).trans c34
          refine w_aload_n (List.Mem.head _) (tX10_person_0_ok (78, .aload_n 0, 1) (List.mem_of_getElem? (i := 40) rfl)) ?_
          refine w_get (own := 15) rfl rfl (by decide) c51 f8 (tX10_person_0_ok (79, .getfield 42, 3) (List.mem_of_getElem? (i := 41) rfl)) ?_
          refine w_get (own := 15) rfl rfl (by decide) c40 k44 (tX10_person_0_ok (82, .getfield 151, 3) (List.mem_of_getElem? (i := 42) rfl)) ?_
          refine w_iconst (by decide) (tX10_person_0_ok (85, .iconst 1, 1) (List.mem_of_getElem? (i := 43) rfl)) (fun v54 e55 => ?_)
          refine w_isub (by omega) (by omega) (tX10_person_0_ok (86, .isub, 1) (List.mem_of_getElem? (i := 44) rfl)) (fun v56 e57 => ?_)
          refine w_iret rfl (tX10_person_0_ok (87, .ireturn, 1) (List.mem_of_getElem? (i := 45) rfl)) ?_
          refine hq _ _ ?_ (by split <;> omega)
          unfold n_person
          rw [if_pos (by omega)]
          exact ⟨_, _, _, _, _, _, _, _, _, _, c51, f1, f2, f8, nPP, c52, p0, c40, f46, k44, f47, t0, t1, by show v37.toInt = ((τ.2.2.1 + 1 : Nat) : Int); omega, t3⟩
        · refine w_iconst (by decide) (tX10_person_0_ok (31, .iconst (-1), 1) (List.mem_of_getElem? (i := 15) rfl)) (fun v58 e59 => ?_)
          refine w_iret rfl (tX10_person_0_ok (32, .ireturn, 1) (List.mem_of_getElem? (i := 16) rfl)) ?_
          refine hq _ _ ?_ (by split <;> omega)
          unfold n_person
          rw [if_neg (by omega)]
          exact ⟨_, _, _, _, _, _, _, _, _, _, c_x, f1, f2, f8, nPP, c_Pa, p0, c_fo, g0, g3, g5, t0, t1, t2, t3⟩
theorem c_want (hT : k_tys tys cA) {p y : Int32} (hf : 1 ≤ fr) (hl : 21 ≤ lo) (hH : k_H Sg cA Lb h) (s_x : Sg x = some 0) (H : bC h x τ) (hq : ∀ (v : Int32) (h1 : ch_H), v.toInt = (if 0 ≤ p.toInt ∧ p.toInt < 2 * (τ.1 : Int) ∧ -1 ≤ y.toInt ∧ y.toInt ≤ 200 then 1 else 0) → Q (some (.int v)) h1) : ww l D tys A X fr lo mX10_want Q 0 [(0, .ref x), (1, .int p), (2, .int y)] [] h := by
  obtain ⟨xs, ps, gs, Pa, P, fo, n, ga, pe, ta, c_x, f1, f2, f8, nPP, c_Pa, p0, c_fo, g0, g3, g5, t0, t1, t2, t3⟩ := H
  obtain ⟨s_Pa, s_fo⟩ := bC.sg hH s_x c_x f1 f8
  obtain ⟨w9, c9, xl, ty_x⟩ := hH.obj s_x (L := 0) rfl
  rw [c_x] at c9
  cases c9
  obtain ⟨w9, c9, pl, ty_Pa⟩ := hH.obj s_Pa (L := 2) rfl
  rw [c_Pa] at c9
  cases c9
  obtain ⟨w9, c9, gl, ty_fo⟩ := hH.obj s_fo (L := 4) rfl
  rw [c_fo] at c9
  cases c9
  have bn : 0 ≤ n.toInt ∧ n.toInt ≤ 6 := by
    obtain ⟨v9, e9, t9⟩ := ty_Pa 0 _ rfl
    rw [p0] at e9
    cases e9
    obtain ⟨y9, z9, r1, r2⟩ := k_v.int t9
    cases z9
    exact ⟨r1, r2⟩
  have bg : 0 ≤ ga.toInt ∧ ga.toInt ≤ 6 := by
    obtain ⟨v9, e9, t9⟩ := ty_fo 0 _ rfl
    rw [g0] at e9
    cases e9
    obtain ⟨y9, z9, r1, r2⟩ := k_v.int t9
    cases z9
    exact ⟨r1, r2⟩
  have bp : 0 ≤ pe.toInt ∧ pe.toInt ≤ 8 := by
    obtain ⟨v9, e9, t9⟩ := ty_fo 3 _ rfl
    rw [g3] at e9
    cases e9
    obtain ⟨y9, z9, r1, r2⟩ := k_v.int t9
    cases z9
    exact ⟨r1, r2⟩
  have bt : 0 ≤ ta.toInt ∧ ta.toInt ≤ 6 := by
    obtain ⟨v9, e9, t9⟩ := ty_fo 5 _ rfl
    rw [g5] at e9
    cases e9
    obtain ⟨y9, z9, r1, r2⟩ := k_v.int t9
    cases z9
    exact ⟨r1, r2⟩
  obtain ⟨v_wn, q_wn, w_wn⟩ := ty_x 10 _ rfl
  obtain ⟨wn, rfl, s_wn⟩ := k_v.ref w_wn
  obtain ⟨z_wn, c_wn, -⟩ := hH.arr s_wn (L := 32) rfl
  refine w_aload_n (List.Mem.head _) (tX10_want_0_ok (0, .aload_n 0, 1) (List.mem_of_getElem? (i := 0) rfl)) ?_
  refine w_iload_n (List.Mem.tail _ (List.Mem.head _)) (tX10_want_0_ok (1, .iload_n 1, 1) (List.mem_of_getElem? (i := 1) rfl)) ?_
  refine w_callV (own := 15) (mi := 122) [.int p] [] [(0, .ref x), (1, .int p)] rfl (cllw_X10 (144, 0, 122) (List.mem_of_getElem? (i := 8) rfl)) rfl rfl c_x rfl (by omega) (w_lo (n := 21) rfl (by omega)) (Nat.le_of_ble_eq_true rfl) (Nat.le_of_ble_eq_true rfl) rfl (tX10_want_0_ok (2, .invokevirtual 144, 3) (List.mem_of_getElem? (i := 2) rfl)) (c_isRoom c_x f1 c_Pa p0 bn (fun v1 e2 => ?_))
  show ww l D tys A X fr lo mX10_want Q 5 [(0, .ref x), (1, .int p), (2, .int y)] [.int v1] h
  refine w_if_eq (tgt := 20) (tX10_want_0_ok (5, .ifCond .eq 15, 3) (List.mem_of_getElem? (i := 3) rfl)) rfl (fun b3 => ?_) (fun b3 => ?_)
  · refine w_iconst (by decide) (tX10_want_0_ok (20, .iconst 0, 1) (List.mem_of_getElem? (i := 10) rfl)) (fun v4 e5 => ?_)
    refine w_zret rfl (by omega) (by omega) (tX10_want_0_ok (21, .ireturn, 1) (List.mem_of_getElem? (i := 11) rfl)) ?_
    exact hq _ _ (by split <;> omega)
  · refine w_iload_n (List.Mem.tail _ (List.Mem.tail _ (List.Mem.head _))) (tX10_want_0_ok (8, .iload_n 2, 1) (List.mem_of_getElem? (i := 4) rfl)) ?_
    refine w_iconst (by decide) (tX10_want_0_ok (9, .iconst (-1), 1) (List.mem_of_getElem? (i := 5) rfl)) (fun v6 e7 => ?_)
    refine w_icmp_lt (tgt := 20) (tX10_want_0_ok (10, .if_icmp .lt 10, 3) (List.mem_of_getElem? (i := 6) rfl)) rfl (fun b8 => ?_) (fun b8 => ?_)
    · refine w_iconst (by decide) (tX10_want_0_ok (20, .iconst 0, 1) (List.mem_of_getElem? (i := 10) rfl)) (fun v9 e10 => ?_)
      refine w_zret rfl (by omega) (by omega) (tX10_want_0_ok (21, .ireturn, 1) (List.mem_of_getElem? (i := 11) rfl)) ?_
      exact hq _ _ (by split <;> omega)
    · refine w_iload_n (List.Mem.tail _ (List.Mem.tail _ (List.Mem.head _))) (tX10_want_0_ok (13, .iload_n 2, 1) (List.mem_of_getElem? (i := 7) rfl)) ?_
      refine w_sipush (by decide) (tX10_want_0_ok (14, .sipush 200, 3) (List.mem_of_getElem? (i := 8) rfl)) (fun v11 e12 => ?_)
      refine w_icmp_le (tgt := 22) (tX10_want_0_ok (17, .if_icmp .le 5, 3) (List.mem_of_getElem? (i := 9) rfl)) rfl (fun b13 => ?_) (fun b13 => ?_)
      · refine w_aload_n (List.Mem.head _) (tX10_want_0_ok (22, .aload_n 0, 1) (List.mem_of_getElem? (i := 12) rfl)) ?_
        refine w_get (own := 15) rfl rfl (by decide) c_x q_wn (tX10_want_0_ok (23, .getfield 53, 3) (List.mem_of_getElem? (i := 13) rfl)) ?_
        refine w_iload_n (List.Mem.tail _ (List.Mem.head _)) (tX10_want_0_ok (26, .iload_n 1, 1) (List.mem_of_getElem? (i := 14) rfl)) ?_
        refine w_iload_n (List.Mem.tail _ (List.Mem.tail _ (List.Mem.head _))) (tX10_want_0_ok (27, .iload_n 2, 1) (List.mem_of_getElem? (i := 15) rfl)) ?_
        refine w_iast hT c_wn (by omega) (by omega) (tX10_want_0_ok (28, .iastore, 1) (List.mem_of_getElem? (i := 16) rfl)) (fun h14 c15 o16 => ?_)
        have c17 := (o16 x (k_sg_ne s_x s_wn (by omega))).trans c_x
        have c18 := (o16 Pa (k_sg_ne s_Pa s_wn (by omega))).trans c_Pa
        have c19 := (o16 fo (k_sg_ne s_fo s_wn (by omega))).trans c_fo
        refine w_iconst (by decide) (tX10_want_0_ok (29, .iconst 1, 1) (List.mem_of_getElem? (i := 17) rfl)) (fun v20 e21 => ?_)
        refine w_zret rfl (by omega) (by omega) (tX10_want_0_ok (30, .ireturn, 1) (List.mem_of_getElem? (i := 18) rfl)) ?_
        exact hq _ _ (by split <;> omega)
      · refine w_iconst (by decide) (tX10_want_0_ok (20, .iconst 0, 1) (List.mem_of_getElem? (i := 10) rfl)) (fun v22 e23 => ?_)
        refine w_zret rfl (by omega) (by omega) (tX10_want_0_ok (21, .ireturn, 1) (List.mem_of_getElem? (i := 11) rfl)) ?_
        exact hq _ _ (by split <;> omega)
theorem c_task (hT : k_tys tys cA) {p y : Int32} (hf : 2 ≤ fr) (hl : 42 ≤ lo) (hH : k_H Sg cA Lb h) (s_x : Sg x = some 0) (H : bC h x τ) (hq : ∀ (v : Int32) (h1 : ch_H), bC h1 x (n_task p y τ) → v.toInt = (if 0 ≤ p.toInt ∧ p.toInt < (τ.2.2.1 : Int) ∧ (0 ≤ y.toInt ∧ y.toInt < 2 * (τ.1 : Int) ∨ 12 ≤ y.toInt ∧ y.toInt < 12 + (τ.2.1 : Int)) ∧ τ.2.2.2 < 6 then (τ.2.2.2 : Int) + 1 else -1) → Q (some (.int v)) h1) : ww l D tys A X fr lo mX10_task Q 0 [(0, .ref x), (1, .int p), (2, .int y)] [] h := by
  obtain ⟨xs, ps, gs, Pa, P, fo, n, ga, pe, ta, c_x, f1, f2, f8, nPP, c_Pa, p0, c_fo, g0, g3, g5, t0, t1, t2, t3⟩ := H
  obtain ⟨s_Pa, s_fo⟩ := bC.sg hH s_x c_x f1 f8
  obtain ⟨w9, c9, xl, ty_x⟩ := hH.obj s_x (L := 0) rfl
  rw [c_x] at c9
  cases c9
  obtain ⟨w9, c9, pl, ty_Pa⟩ := hH.obj s_Pa (L := 2) rfl
  rw [c_Pa] at c9
  cases c9
  obtain ⟨w9, c9, gl, ty_fo⟩ := hH.obj s_fo (L := 4) rfl
  rw [c_fo] at c9
  cases c9
  have bn : 0 ≤ n.toInt ∧ n.toInt ≤ 6 := by
    obtain ⟨v9, e9, t9⟩ := ty_Pa 0 _ rfl
    rw [p0] at e9
    cases e9
    obtain ⟨y9, z9, r1, r2⟩ := k_v.int t9
    cases z9
    exact ⟨r1, r2⟩
  have bg : 0 ≤ ga.toInt ∧ ga.toInt ≤ 6 := by
    obtain ⟨v9, e9, t9⟩ := ty_fo 0 _ rfl
    rw [g0] at e9
    cases e9
    obtain ⟨y9, z9, r1, r2⟩ := k_v.int t9
    cases z9
    exact ⟨r1, r2⟩
  have bp : 0 ≤ pe.toInt ∧ pe.toInt ≤ 8 := by
    obtain ⟨v9, e9, t9⟩ := ty_fo 3 _ rfl
    rw [g3] at e9
    cases e9
    obtain ⟨y9, z9, r1, r2⟩ := k_v.int t9
    cases z9
    exact ⟨r1, r2⟩
  have bt : 0 ≤ ta.toInt ∧ ta.toInt ≤ 6 := by
    obtain ⟨v9, e9, t9⟩ := ty_fo 5 _ rfl
    rw [g5] at e9
    cases e9
    obtain ⟨y9, z9, r1, r2⟩ := k_v.int t9
    cases z9
    exact ⟨r1, r2⟩
  obtain ⟨v_tp, q_tp, w_tp⟩ := ty_fo 6 _ rfl
  obtain ⟨tp, rfl, s_tp⟩ := k_v.ref w_tp
  obtain ⟨z_tp, c_tp, -⟩ := hH.arr s_tp (L := 27) rfl
  obtain ⟨v_tl, q_tl, w_tl⟩ := ty_fo 7 _ rfl
  obtain ⟨tl, rfl, s_tl⟩ := k_v.ref w_tl
  obtain ⟨z_tl, c_tl, -⟩ := hH.arr s_tl (L := 28) rfl
  refine w_aload_n (List.Mem.head _) (tX10_task_0_ok (0, .aload_n 0, 1) (List.mem_of_getElem? (i := 0) rfl)) ?_
  refine w_iload_n (List.Mem.tail _ (List.Mem.head _)) (tX10_task_0_ok (1, .iload_n 1, 1) (List.mem_of_getElem? (i := 1) rfl)) ?_
  refine w_callV (own := 15) (mi := 120) [.int p] [] [(0, .ref x), (1, .int p)] rfl (cllw_X10 (268, 0, 120) (List.mem_of_getElem? (i := 22) rfl)) rfl rfl c_x rfl (by omega) (w_lo (n := 21) rfl (by omega)) (Nat.le_of_ble_eq_true rfl) (Nat.le_of_ble_eq_true rfl) rfl (tX10_task_0_ok (2, .invokevirtual 268, 3) (List.mem_of_getElem? (i := 2) rfl)) (c_isPerson c_x f8 c_fo g3 (fun v1 e2 => ?_))
  show ww l D tys A X fr lo mX10_task Q 5 [(0, .ref x), (1, .int p), (2, .int y)] [.int v1] h
  refine w_if_eq (tgt := 28) (tX10_task_0_ok (5, .ifCond .eq 23, 3) (List.mem_of_getElem? (i := 3) rfl)) rfl (fun b3 => ?_) (fun b3 => ?_)
  · refine w_iconst (by decide) (tX10_task_0_ok (28, .iconst (-1), 1) (List.mem_of_getElem? (i := 13) rfl)) (fun v4 e5 => ?_)
    refine w_iret rfl (tX10_task_0_ok (29, .ireturn, 1) (List.mem_of_getElem? (i := 14) rfl)) ?_
    refine hq _ _ ?_ (by split <;> omega)
    unfold n_task
    rw [if_neg (by omega)]
    exact ⟨_, _, _, _, _, _, _, _, _, _, c_x, f1, f2, f8, nPP, c_Pa, p0, c_fo, g0, g3, g5, t0, t1, t2, t3⟩
  · refine w_aload_n (List.Mem.head _) (tX10_task_0_ok (8, .aload_n 0, 1) (List.mem_of_getElem? (i := 4) rfl)) ?_
    refine w_iload_n (List.Mem.tail _ (List.Mem.tail _ (List.Mem.head _))) (tX10_task_0_ok (9, .iload_n 2, 1) (List.mem_of_getElem? (i := 5) rfl)) ?_
    refine w_callV (own := 15) (mi := 121) [.int y] [] [(0, .ref x), (1, .int y)] rfl (cllw_X10 (253, 0, 121) (List.mem_of_getElem? (i := 19) rfl)) rfl rfl c_x rfl (by omega) (w_lo (n := 21) rfl (by omega)) (Nat.le_of_ble_eq_true rfl) (Nat.le_of_ble_eq_true rfl) rfl (tX10_task_0_ok (10, .invokevirtual 253, 3) (List.mem_of_getElem? (i := 6) rfl)) (c_isPlace (by omega) (w_sub (n := 21) rfl (by omega)) c_x f1 c_Pa p0 bn f8 c_fo g0 bg (fun v6 e7 => ?_))
    show ww l D tys A X fr lo mX10_task Q 13 [(0, .ref x), (1, .int p), (2, .int y)] [.int v6] h
    refine w_if_eq (tgt := 28) (tX10_task_0_ok (13, .ifCond .eq 15, 3) (List.mem_of_getElem? (i := 7) rfl)) rfl (fun b8 => ?_) (fun b8 => ?_)
    · refine w_iconst (by decide) (tX10_task_0_ok (28, .iconst (-1), 1) (List.mem_of_getElem? (i := 13) rfl)) (fun v9 e10 => ?_)
      refine w_iret rfl (tX10_task_0_ok (29, .ireturn, 1) (List.mem_of_getElem? (i := 14) rfl)) ?_
      refine hq _ _ ?_ (by split <;> omega)
      unfold n_task
      rw [if_neg (by omega)]
      exact ⟨_, _, _, _, _, _, _, _, _, _, c_x, f1, f2, f8, nPP, c_Pa, p0, c_fo, g0, g3, g5, t0, t1, t2, t3⟩
    · refine w_aload_n (List.Mem.head _) (tX10_task_0_ok (16, .aload_n 0, 1) (List.mem_of_getElem? (i := 8) rfl)) ?_
      refine w_get (own := 15) rfl rfl (by decide) c_x f8 (tX10_task_0_ok (17, .getfield 42, 3) (List.mem_of_getElem? (i := 9) rfl)) ?_
      refine w_get (own := 15) rfl rfl (by decide) c_fo g5 (tX10_task_0_ok (20, .getfield 299, 3) (List.mem_of_getElem? (i := 10) rfl)) ?_
      refine w_bipush (by decide) (tX10_task_0_ok (23, .bipush 6, 2) (List.mem_of_getElem? (i := 11) rfl)) (fun v11 e12 => ?_)
      refine w_icmp_lt (tgt := 30) (tX10_task_0_ok (25, .if_icmp .lt 5, 3) (List.mem_of_getElem? (i := 12) rfl)) rfl (fun b13 => ?_) (fun b13 => ?_)
      · refine w_aload_n (List.Mem.head _) (tX10_task_0_ok (30, .aload_n 0, 1) (List.mem_of_getElem? (i := 15) rfl)) ?_
        refine w_get (own := 15) rfl rfl (by decide) c_x f8 (tX10_task_0_ok (31, .getfield 42, 3) (List.mem_of_getElem? (i := 16) rfl)) ?_
        refine w_get (own := 15) rfl rfl (by decide) c_fo q_tp (tX10_task_0_ok (34, .getfield 302, 3) (List.mem_of_getElem? (i := 17) rfl)) ?_
        refine w_aload_n (List.Mem.head _) (tX10_task_0_ok (37, .aload_n 0, 1) (List.mem_of_getElem? (i := 18) rfl)) ?_
        refine w_get (own := 15) rfl rfl (by decide) c_x f8 (tX10_task_0_ok (38, .getfield 42, 3) (List.mem_of_getElem? (i := 19) rfl)) ?_
        refine w_get (own := 15) rfl rfl (by decide) c_fo g5 (tX10_task_0_ok (41, .getfield 299, 3) (List.mem_of_getElem? (i := 20) rfl)) ?_
        refine w_iload_n (List.Mem.tail _ (List.Mem.head _)) (tX10_task_0_ok (44, .iload_n 1, 1) (List.mem_of_getElem? (i := 21) rfl)) ?_
        refine w_iast hT c_tp (by omega) (by omega) (tX10_task_0_ok (45, .iastore, 1) (List.mem_of_getElem? (i := 22) rfl)) (fun h14 c15 o16 => ?_)
        have c17 := (o16 tl (k_sg_ne s_tl s_tp (by omega))).trans c_tl
        have c18 := (o16 x (k_sg_ne s_x s_tp (by omega))).trans c_x
        have c19 := (o16 Pa (k_sg_ne s_Pa s_tp (by omega))).trans c_Pa
        have c20 := (o16 fo (k_sg_ne s_fo s_tp (by omega))).trans c_fo
        refine w_aload_n (List.Mem.head _) (tX10_task_0_ok (46, .aload_n 0, 1) (List.mem_of_getElem? (i := 23) rfl)) ?_
        refine w_get (own := 15) rfl rfl (by decide) c18 f8 (tX10_task_0_ok (47, .getfield 42, 3) (List.mem_of_getElem? (i := 24) rfl)) ?_
        refine w_get (own := 15) rfl rfl (by decide) c20 q_tl (tX10_task_0_ok (50, .getfield 305, 3) (List.mem_of_getElem? (i := 25) rfl)) ?_
        refine w_aload_n (List.Mem.head _) (tX10_task_0_ok (53, .aload_n 0, 1) (List.mem_of_getElem? (i := 26) rfl)) ?_
        refine w_get (own := 15) rfl rfl (by decide) c18 f8 (tX10_task_0_ok (54, .getfield 42, 3) (List.mem_of_getElem? (i := 27) rfl)) ?_
        refine w_get (own := 15) rfl rfl (by decide) c20 g5 (tX10_task_0_ok (57, .getfield 299, 3) (List.mem_of_getElem? (i := 28) rfl)) ?_
        refine w_iload_n (List.Mem.tail _ (List.Mem.tail _ (List.Mem.head _))) (tX10_task_0_ok (60, .iload_n 2, 1) (List.mem_of_getElem? (i := 29) rfl)) ?_
        refine w_iast hT c17 (by omega) (by omega) (tX10_task_0_ok (61, .iastore, 1) (List.mem_of_getElem? (i := 30) rfl)) (fun h21 c22 o23 => ?_)
        have c24 := (o23 tp (k_sg_ne s_tp s_tl (by omega))).trans c15
        have c25 := (o23 x (k_sg_ne s_x s_tl (by omega))).trans c18
        have c26 := (o23 Pa (k_sg_ne s_Pa s_tl (by omega))).trans c19
        have c27 := (o23 fo (k_sg_ne s_fo s_tl (by omega))).trans c20
        refine w_aload_n (List.Mem.head _) (tX10_task_0_ok (62, .aload_n 0, 1) (List.mem_of_getElem? (i := 31) rfl)) ?_
        refine w_get (own := 15) rfl rfl (by decide) c25 f8 (tX10_task_0_ok (63, .getfield 42, 3) (List.mem_of_getElem? (i := 32) rfl)) ?_
        refine w_dup rfl (tX10_task_0_ok (66, .dup, 1) (List.mem_of_getElem? (i := 33) rfl)) ?_
        refine w_get (own := 15) rfl rfl (by decide) c27 g5 (tX10_task_0_ok (67, .getfield 299, 3) (List.mem_of_getElem? (i := 34) rfl)) ?_
        refine w_iconst (by decide) (tX10_task_0_ok (70, .iconst 1, 1) (List.mem_of_getElem? (i := 35) rfl)) (fun v28 e29 => ?_)
        refine w_iadd (by omega) (by omega) (tX10_task_0_ok (71, .iadd, 1) (List.mem_of_getElem? (i := 36) rfl)) (fun v30 e31 => ?_)
        refine w_putF (own := 15) (ci := 1) (k := 5) rfl rfl (by decide) rfl ⟨rfl, rfl⟩ c27 (by rw [gl]; decide) (tX10_task_0_ok (72, .putfield 299, 3) (List.mem_of_getElem? (i := 37) rfl)) (fun h32 fs35 l36 k37 j38 c33 o34 => ?_)
        rw [gl] at l36
        have f39 := (j38 0 (by decide)).trans g0
        have f40 := (j38 3 (by decide)).trans g3
        have f41 := (j38 6 (by decide)).trans q_tp
        have f42 := (j38 7 (by decide)).trans q_tl
        have c43 := (o34 tp (k_sg_ne s_tp s_fo (by omega))).trans c24
        have c44 := (o34 tl (k_sg_ne s_tl s_fo (by omega))).trans c22
        have c45 := (o34 x (k_sg_ne s_x s_fo (by omega))).trans c25
        have c46 := (o34 Pa (k_sg_ne s_Pa s_fo (by omega))).trans c26
        refine w_aload_n (List.Mem.head _) (tX10_task_0_ok (75, .aload_n 0, 1) (List.mem_of_getElem? (i := 38) rfl)) ?_
        refine w_get (own := 15) rfl rfl (by decide) c45 f8 (tX10_task_0_ok (76, .getfield 42, 3) (List.mem_of_getElem? (i := 39) rfl)) ?_
        refine w_get (own := 15) rfl rfl (by decide) c33 k37 (tX10_task_0_ok (79, .getfield 299, 3) (List.mem_of_getElem? (i := 40) rfl)) ?_
        refine w_iret rfl (tX10_task_0_ok (82, .ireturn, 1) (List.mem_of_getElem? (i := 41) rfl)) ?_
        refine hq _ _ ?_ (by split <;> omega)
        unfold n_task
        rw [if_pos (by omega)]
        exact ⟨_, _, _, _, _, _, _, _, _, _, c45, f1, f2, f8, nPP, c46, p0, c33, f39, f40, k37, t0, t1, t2, by show v30.toInt = ((τ.2.2.2 + 1 : Nat) : Int); omega⟩
      · refine w_iconst (by decide) (tX10_task_0_ok (28, .iconst (-1), 1) (List.mem_of_getElem? (i := 13) rfl)) (fun v47 e48 => ?_)
        refine w_iret rfl (tX10_task_0_ok (29, .ireturn, 1) (List.mem_of_getElem? (i := 14) rfl)) ?_
        refine hq _ _ ?_ (by split <;> omega)
        unfold n_task
        rw [if_neg (by omega)]
        exact ⟨_, _, _, _, _, _, _, _, _, _, c_x, f1, f2, f8, nPP, c_Pa, p0, c_fo, g0, g3, g5, t0, t1, t2, t3⟩
theorem c_woke (hT : k_tys tys cA) {p y : Int32} (hf : 1 ≤ fr) (hl : 21 ≤ lo) (hH : k_H Sg cA Lb h) (s_x : Sg x = some 0) (H : bC h x τ) (hq : ∀ (v : Int32) (h1 : ch_H), v.toInt = (if 0 ≤ p.toInt ∧ p.toInt < 2 * (τ.1 : Int) ∧ -1 ≤ y.toInt ∧ y.toInt ≤ 200 then 1 else 0) → Q (some (.int v)) h1) : ww l D tys A X fr lo mX10_woke Q 0 [(0, .ref x), (1, .int p), (2, .int y)] [] h := by
  obtain ⟨xs, ps, gs, Pa, P, fo, n, ga, pe, ta, c_x, f1, f2, f8, nPP, c_Pa, p0, c_fo, g0, g3, g5, t0, t1, t2, t3⟩ := H
  obtain ⟨s_Pa, s_fo⟩ := bC.sg hH s_x c_x f1 f8
  obtain ⟨w9, c9, xl, ty_x⟩ := hH.obj s_x (L := 0) rfl
  rw [c_x] at c9
  cases c9
  obtain ⟨w9, c9, pl, ty_Pa⟩ := hH.obj s_Pa (L := 2) rfl
  rw [c_Pa] at c9
  cases c9
  obtain ⟨w9, c9, gl, ty_fo⟩ := hH.obj s_fo (L := 4) rfl
  rw [c_fo] at c9
  cases c9
  have bn : 0 ≤ n.toInt ∧ n.toInt ≤ 6 := by
    obtain ⟨v9, e9, t9⟩ := ty_Pa 0 _ rfl
    rw [p0] at e9
    cases e9
    obtain ⟨y9, z9, r1, r2⟩ := k_v.int t9
    cases z9
    exact ⟨r1, r2⟩
  have bg : 0 ≤ ga.toInt ∧ ga.toInt ≤ 6 := by
    obtain ⟨v9, e9, t9⟩ := ty_fo 0 _ rfl
    rw [g0] at e9
    cases e9
    obtain ⟨y9, z9, r1, r2⟩ := k_v.int t9
    cases z9
    exact ⟨r1, r2⟩
  have bp : 0 ≤ pe.toInt ∧ pe.toInt ≤ 8 := by
    obtain ⟨v9, e9, t9⟩ := ty_fo 3 _ rfl
    rw [g3] at e9
    cases e9
    obtain ⟨y9, z9, r1, r2⟩ := k_v.int t9
    cases z9
    exact ⟨r1, r2⟩
  have bt : 0 ≤ ta.toInt ∧ ta.toInt ≤ 6 := by
    obtain ⟨v9, e9, t9⟩ := ty_fo 5 _ rfl
    rw [g5] at e9
    cases e9
    obtain ⟨y9, z9, r1, r2⟩ := k_v.int t9
    cases z9
    exact ⟨r1, r2⟩
  obtain ⟨v_sn, q_sn, w_sn⟩ := ty_x 11 _ rfl
  obtain ⟨sn, rfl, s_sn⟩ := k_v.ref w_sn
  obtain ⟨z_sn, c_sn, -⟩ := hH.arr s_sn (L := 32) rfl
  refine w_aload_n (List.Mem.head _) (tX10_woke_0_ok (0, .aload_n 0, 1) (List.mem_of_getElem? (i := 0) rfl)) ?_
  refine w_iload_n (List.Mem.tail _ (List.Mem.head _)) (tX10_woke_0_ok (1, .iload_n 1, 1) (List.mem_of_getElem? (i := 1) rfl)) ?_
  refine w_callV (own := 15) (mi := 122) [.int p] [] [(0, .ref x), (1, .int p)] rfl (cllw_X10 (144, 0, 122) (List.mem_of_getElem? (i := 8) rfl)) rfl rfl c_x rfl (by omega) (w_lo (n := 21) rfl (by omega)) (Nat.le_of_ble_eq_true rfl) (Nat.le_of_ble_eq_true rfl) rfl (tX10_woke_0_ok (2, .invokevirtual 144, 3) (List.mem_of_getElem? (i := 2) rfl)) (c_isRoom c_x f1 c_Pa p0 bn (fun v1 e2 => ?_))
  show ww l D tys A X fr lo mX10_woke Q 5 [(0, .ref x), (1, .int p), (2, .int y)] [.int v1] h
  refine w_if_eq (tgt := 20) (tX10_woke_0_ok (5, .ifCond .eq 15, 3) (List.mem_of_getElem? (i := 3) rfl)) rfl (fun b3 => ?_) (fun b3 => ?_)
  · refine w_iconst (by decide) (tX10_woke_0_ok (20, .iconst 0, 1) (List.mem_of_getElem? (i := 10) rfl)) (fun v4 e5 => ?_)
    refine w_zret rfl (by omega) (by omega) (tX10_woke_0_ok (21, .ireturn, 1) (List.mem_of_getElem? (i := 11) rfl)) ?_
    exact hq _ _ (by split <;> omega)
  · refine w_iload_n (List.Mem.tail _ (List.Mem.tail _ (List.Mem.head _))) (tX10_woke_0_ok (8, .iload_n 2, 1) (List.mem_of_getElem? (i := 4) rfl)) ?_
    refine w_iconst (by decide) (tX10_woke_0_ok (9, .iconst (-1), 1) (List.mem_of_getElem? (i := 5) rfl)) (fun v6 e7 => ?_)
    refine w_icmp_lt (tgt := 20) (tX10_woke_0_ok (10, .if_icmp .lt 10, 3) (List.mem_of_getElem? (i := 6) rfl)) rfl (fun b8 => ?_) (fun b8 => ?_)
    · refine w_iconst (by decide) (tX10_woke_0_ok (20, .iconst 0, 1) (List.mem_of_getElem? (i := 10) rfl)) (fun v9 e10 => ?_)
      refine w_zret rfl (by omega) (by omega) (tX10_woke_0_ok (21, .ireturn, 1) (List.mem_of_getElem? (i := 11) rfl)) ?_
      exact hq _ _ (by split <;> omega)
    · refine w_iload_n (List.Mem.tail _ (List.Mem.tail _ (List.Mem.head _))) (tX10_woke_0_ok (13, .iload_n 2, 1) (List.mem_of_getElem? (i := 7) rfl)) ?_
      refine w_sipush (by decide) (tX10_woke_0_ok (14, .sipush 200, 3) (List.mem_of_getElem? (i := 8) rfl)) (fun v11 e12 => ?_)
      refine w_icmp_le (tgt := 22) (tX10_woke_0_ok (17, .if_icmp .le 5, 3) (List.mem_of_getElem? (i := 9) rfl)) rfl (fun b13 => ?_) (fun b13 => ?_)
      · refine w_aload_n (List.Mem.head _) (tX10_woke_0_ok (22, .aload_n 0, 1) (List.mem_of_getElem? (i := 12) rfl)) ?_
        refine w_get (own := 15) rfl rfl (by decide) c_x q_sn (tX10_woke_0_ok (23, .getfield 57, 3) (List.mem_of_getElem? (i := 13) rfl)) ?_
        refine w_iload_n (List.Mem.tail _ (List.Mem.head _)) (tX10_woke_0_ok (26, .iload_n 1, 1) (List.mem_of_getElem? (i := 14) rfl)) ?_
        refine w_iload_n (List.Mem.tail _ (List.Mem.tail _ (List.Mem.head _))) (tX10_woke_0_ok (27, .iload_n 2, 1) (List.mem_of_getElem? (i := 15) rfl)) ?_
        refine w_iast hT c_sn (by omega) (by omega) (tX10_woke_0_ok (28, .iastore, 1) (List.mem_of_getElem? (i := 16) rfl)) (fun h14 c15 o16 => ?_)
        have c17 := (o16 x (k_sg_ne s_x s_sn (by omega))).trans c_x
        have c18 := (o16 Pa (k_sg_ne s_Pa s_sn (by omega))).trans c_Pa
        have c19 := (o16 fo (k_sg_ne s_fo s_sn (by omega))).trans c_fo
        refine w_iconst (by decide) (tX10_woke_0_ok (29, .iconst 1, 1) (List.mem_of_getElem? (i := 17) rfl)) (fun v20 e21 => ?_)
        refine w_zret rfl (by omega) (by omega) (tX10_woke_0_ok (30, .ireturn, 1) (List.mem_of_getElem? (i := 18) rfl)) ?_
        exact hq _ _ (by split <;> omega)
      · refine w_iconst (by decide) (tX10_woke_0_ok (20, .iconst 0, 1) (List.mem_of_getElem? (i := 10) rfl)) (fun v22 e23 => ?_)
        refine w_zret rfl (by omega) (by omega) (tX10_woke_0_ok (21, .ireturn, 1) (List.mem_of_getElem? (i := 11) rfl)) ?_
        exact hq _ _ (by split <;> omega)
end
