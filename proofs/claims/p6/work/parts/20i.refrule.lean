/-! the reference: reading a RULE -/
section
variable {l : Launch} {D : va_G} {tys : List (ClassId × FieldType)} {A : Nat → Prop} {X : State → Prop} {fr lo : Nat} {M : ch_M} {Q : Option Value → ch_H → Prop} {pc : Nat} {lv : List (Nat × Value)} {st : List Value} {h : ch_H}
theorem w_i2l {x : Int32} (hd : decode M.2.1 pc = .ok (.i2l, 1)) (k : ∀ v : Int64, ww l D tys A X fr lo M Q (pc + 1) lv (.long v :: st) h) : ww l D tys A X fr lo M Q pc lv (.int x :: st) h := tt_i2l hd (k _)
theorem w_lmul {x y : Int64} (hd : decode M.2.1 pc = .ok (.lmul, 1)) (k : ∀ v : Int64, ww l D tys A X fr lo M Q (pc + 1) lv (.long v :: st) h) : ww l D tys A X fr lo M Q pc lv (.long y :: .long x :: st) h := tt_lmul hd (k _)
theorem w_ladd {x y : Int64} (hd : decode M.2.1 pc = .ok (.ladd, 1)) (k : ∀ v : Int64, ww l D tys A X fr lo M Q (pc + 1) lv (.long v :: st) h) : ww l D tys A X fr lo M Q pc lv (.long y :: .long x :: st) h := tt_ladd hd (k _)
theorem w_lsub {x y : Int64} (hd : decode M.2.1 pc = .ok (.lsub, 1)) (k : ∀ v : Int64, ww l D tys A X fr lo M Q (pc + 1) lv (.long v :: st) h) : ww l D tys A X fr lo M Q pc lv (.long y :: .long x :: st) h := tt_lsub hd (k _)
theorem w_ldiv {x y : Int64} (hne : ¬ y = 0) (hd : decode M.2.1 pc = .ok (.ldiv, 1)) (k : ∀ v : Int64, ww l D tys A X fr lo M Q (pc + 1) lv (.long v :: st) h) : ww l D tys A X fr lo M Q pc lv (.long y :: .long x :: st) h := tt_ldiv hne hd (k _)
theorem w_lconst {i : Fin 2} (hd : decode M.2.1 pc = .ok (.lconst i, 1)) (k : ∀ v : Int64, v = Int64.ofNat (i : Nat) → ww l D tys A X fr lo M Q (pc + 1) lv (.long v :: st) h) : ww l D tys A X fr lo M Q pc lv st h := tt_lconst rfl hd (k _ rfl)
theorem w_lcmp {x y : Int64} (hd : decode M.2.1 pc = .ok (.lcmp, 1)) (k : ∀ v : Int32, (¬ v.toInt = 0 → ¬ x = y) → ww l D tys A X fr lo M Q (pc + 1) lv (.int v :: st) h) : ww l D tys A X fr lo M Q pc lv (.long y :: .long x :: st) h := tt_lcmp hd (k _ (fun h1 e => h1 (by subst e; unfold lg_cmp; rw [if_neg (by simp), if_pos rfl]; rfl)))
theorem w_lload_n {k4 : Fin 4} {x : Int64} (hm : ((k4 : Nat), Value.long x) ∈ lv) (hd : decode M.2.1 pc = .ok (.lload_n k4, 1)) (k : ww l D tys A X fr lo M Q (pc + 1) lv (.long x :: st) h) : ww l D tys A X fr lo M Q pc lv st h := tt_lload_n rfl hm hd k
theorem w_lstore_n {k4 : Fin 4} {x : Int64} (lv' : List (Nat × Value)) (e : ch_s2 (k4 : Nat) (.long x) lv = lv') (hn : (k4 : Nat) + 1 < M.2.2.1) (hd : decode M.2.1 pc = .ok (.lstore_n k4, 1)) (k : ww l D tys A X fr lo M Q (pc + 1) lv' st h) : ww l D tys A X fr lo M Q pc lv (.long x :: st) h := tt_lstore_n rfl hd hn (e ▸ k)
end
def sp_letO (c : Int) : Prop := sp_let c
/-! loops without a bound -/
section
variable {f : Nat → Int32} {len : Nat} {ops : Int → Bool} {G : Nat → Nat ⊕ Nat}
def sp_pg (G : Nat → Nat ⊕ Nat) : Prop := ∀ n q, G n = .inr q → n < q
theorem sp_loop_fu (h0 : ops 0 = false) (hG : sp_pg G) : ∀ (j k n : Nat), len < n + 2 * j → len < n + 2 * k → sp_loop f len ops G j n = sp_loop f len ops G k n := by
  intro j
  induction j with
  | zero =>
    intro k n h1 h2
    have hs : sp_sk f len n = n := sp_sk_n (fun q => by omega)
    cases k with
    | zero => rfl
    | succ k =>
      rw [sp_loop, sp_loop, hs]
      have : sp_sg f len n = 0 := by unfold sp_sg; rw [if_neg (by omega)]
      rw [this, h0]
      rfl
  | succ j ih =>
    intro k n h1 h2
    cases k with
    | zero =>
      have hs : sp_sk f len n = n := sp_sk_n (fun q => by omega)
      rw [sp_loop, sp_loop, hs]
      have : sp_sg f len n = 0 := by unfold sp_sg; rw [if_neg (by omega)]
      rw [this, h0]
      rfl
    | succ k =>
      rw [sp_loop, sp_loop]
      split
      · cases e : G (sp_sk f len n + 1) with
        | inl z => rfl
        | inr q =>
          have h3 := hG _ _ e
          have h4 := sp_sk_le f len n
          exact ih k q (by omega) (by omega)
      · rfl
theorem sp_lp (h0 : ops 0 = false) (hl : len ≤ 160) (hG : sp_pg G) (n : Nat) : sp_loop f len ops G 160 n = if ops (sp_sg f len (sp_sk f len n)) = true then sp_bd (G (sp_sk f len n + 1)) (sp_loop f len ops G 160) else .inr (sp_sk f len n) := by
  rw [show (160 : Nat) = 159 + 1 from rfl, sp_loop]
  split
  · cases e : G (sp_sk f len n + 1) with
    | inl z => show (Sum.inl z : Nat ⊕ Nat) = Sum.inl z; rfl
    | inr q =>
      have h3 := hG _ _ e
      have h4 := sp_sk_le f len n
      exact sp_loop_fu h0 hG 159 160 q (by omega) (by omega)
  · rfl
theorem sp_lp_sk (h0 : ops 0 = false) (hl : len ≤ 160) (hG : sp_pg G) {n m : Nat} (hm : m = sp_sk f len n) : sp_loop f len ops G 160 n = sp_loop f len ops G 160 m := by
  subst hm
  rw [sp_lp h0 hl hG n, sp_lp h0 hl hG (sp_sk f len n), sp_sk_sk]
theorem sp_pg_bd {G2 : Nat → Nat ⊕ Nat} (hG : sp_pg G) (h2 : ∀ n q, G2 n = .inr q → n ≤ q) : sp_pg (fun n => sp_bd (G n) G2) := by
  intro n q e
  dsimp only at e
  cases e1 : G n with
  | inl z => rw [e1] at e; cases e
  | inr z =>
    rw [e1] at e
    have h3 := hG _ _ e1
    have h4 := h2 _ _ e
    omega
theorem sp_loop_le (hG : sp_pg G) : ∀ (j n q : Nat), sp_loop f len ops G j n = .inr q → n ≤ q := by
  intro j
  induction j with
  | zero => intro n q e; rw [sp_loop] at e; injection e with e; omega
  | succ j ih =>
    intro n q e
    have h4 := sp_sk_le f len n
    rw [sp_loop] at e
    split at e
    · cases e1 : G (sp_sk f len n + 1) with
      | inl z => rw [e1] at e; cases e
      | inr z =>
        rw [e1] at e
        have h3 := hG _ _ e1
        have h5 := ih _ _ e
        omega
    · injection e with e
      omega
theorem sp_tk_lt {due : Int} : sp_pg (sp_tk f len due) := by
  intro n q e
  have h4 := sp_sk_le f len n
  unfold sp_tk at e
  split at e
  · injection e with e
    omega
  · cases e
theorem sp_atom_pg {N : Nat → Nat ⊕ Nat} (hN : sp_pg N) : sp_pg (sp_atom f len N) := by
  intro n q e
  have h4 := sp_sk_le f len n
  unfold sp_atom at e
  split at e
  · have := hN _ _ e
    omega
  · split at e
    · injection e with e
      omega
    · have := sp_num_lt (d := 3) e
      omega
theorem sp_sum_pg {N : Nat → Nat ⊕ Nat} (hN : sp_pg N) : sp_pg (sp_sum f len N) := sp_pg_bd (sp_atom_pg hN) (fun n q e => sp_loop_le (sp_atom_pg hN) _ n q e)
theorem sp_cm_pg {N : Nat → Nat ⊕ Nat} (hN : sp_pg N) : sp_pg (sp_cm f len N) := by
  intro n q e
  have h4 := sp_sk_le f len n
  unfold sp_cm at e
  split at e
  · have := sp_sum_pg hN _ _ e
    omega
  · cases e
theorem sp_unit_pg {N NB NP : Nat → Nat ⊕ Nat} (hN : sp_pg N) (hB : sp_pg NB) (hP : sp_pg NP) : sp_pg (sp_unit f len N NB NP) := by
  intro n q e
  have h4 := sp_sk_le f len n
  unfold sp_unit at e
  split at e
  · have := hB _ _ e
    omega
  · split at e
    · have := hP _ _ e
      omega
    · have := sp_pg_bd (sp_sum_pg hN) (fun n q e => Nat.le_of_lt (sp_cm_pg (f := f) (len := len) hN n q e)) _ _ e
      omega
theorem sp_cond_pg {N NB NP : Nat → Nat ⊕ Nat} (hN : sp_pg N) (hB : sp_pg NB) (hP : sp_pg NP) : sp_pg (sp_cond f len N NB NP) := sp_pg_bd (sp_unit_pg hN hB hP) (fun n q e => sp_loop_le (sp_unit_pg hN hB hP) _ n q e)
theorem sp_lv_pg : ∀ d : Nat, sp_pg (sp_lv f len d).1 ∧ sp_pg (sp_lv f len d).2.1 ∧ sp_pg (sp_lv f len d).2.2
  | 0 => ⟨fun n q e => (by cases e), fun n q e => (by cases e), fun n q e => (by cases e)⟩
  | d + 1 => by
    obtain ⟨h1, h2, h3⟩ := sp_lv_pg d
    refine ⟨fun n q e => ?_, fun n q e => ?_, fun n q e => ?_⟩
    · have := sp_pg_bd (sp_sum_pg h1) (fun n q e => Nat.le_of_lt (sp_tk_lt (f := f) (len := len) (due := 93) n q e)) _ _ e
      omega
    · have := sp_unit_pg h1 h2 h3 _ _ e
      omega
    · have := sp_pg_bd (sp_cond_pg h1 h2 h3) (fun n q e => Nat.le_of_lt (sp_tk_lt (f := f) (len := len) (due := 41) n q e)) _ _ e
      omega
end
theorem sp_is.bd {r : Nat ⊕ Nat} {g : Nat → Nat ⊕ Nat} {a1 f1 a2 f2 : Int32} (p : sp_is r a1 f1) (q : ¬ f1.toInt = -1 ∧ f2.toInt = f1.toInt ∨ f1.toInt = -1 ∧ sp_is (g a1.toInt.toNat) a2 f2) : sp_is (sp_bd r g) a2 f2 := by
  cases r with
  | inl e =>
    have p : f1.toInt = e := p
    rcases q with ⟨q1, q2⟩ | ⟨q1, q2⟩
    · show f2.toInt = e
      omega
    · omega
  | inr n =>
    have p : f1.toInt = -1 ∧ a1.toInt = n := p
    rcases q with ⟨q1, q2⟩ | ⟨q1, q2⟩
    · omega
    · have : a1.toInt.toNat = n := by omega
      rw [this] at q2
      exact q2
/-- where a run of pieces stands: at a FAULT, or with the loop L ahead -/
def sp_st (X : Nat ⊕ Nat) (L : Nat → Nat ⊕ Nat) (a fl : Int32) : Prop := ¬ fl.toInt = -1 ∧ sp_is X a fl ∨ fl.toInt = -1 ∧ X = L a.toInt.toNat
theorem sp_st.of {r : Nat ⊕ Nat} {L : Nat → Nat ⊕ Nat} {a fl : Int32} (p : sp_is r a fl) : sp_st (sp_bd r L) L a fl := by
  cases r with
  | inl e =>
    have p : fl.toInt = e := p
    exact Or.inl ⟨by omega, p⟩
  | inr n =>
    have p : fl.toInt = -1 ∧ a.toInt = n := p
    refine Or.inr ⟨p.1, ?_⟩
    show L n = L a.toInt.toNat
    congr 1
    omega
theorem sp_st.go {X : Nat ⊕ Nat} {L G : Nat → Nat ⊕ Nat} {n k : Nat} {a fl : Int32} (hX : X = sp_bd (G n) L) (hk : k = n) (p : sp_is (G k) a fl) : sp_st X L a fl := by
  subst hX hk
  exact sp_st.of p
/-- the reference with its letters -/
def rl (cA : Nat → ClassId) (h : ch_H) (m : Nat) (fs : List Value) (tx n le : Nat) (g f : Nat → Int32) (bg en at0 fl0 dp : Int32) : Prop := rm cA h m fs tx n g f bg en at0 fl0 dp ∧ fs[4]? = some (.ref le) ∧ le ≠ m ∧ ∃ gl : Nat → Int32, h le = some (.inl (cA 0, 128, .inl gl))
def PM (l : Launch) (D : va_G) (tys : List (ClassId × FieldType)) (A : Nat → Prop) (X : State → Prop) (cA : Nat → ClassId) (m tx n le : Nat) (g f : Nat → Int32) (bg en : Int32) (M : ch_M) (L : List (Nat × Value)) (dv : Int) (B : Bool) (post : Nat → Int32 → Int32 → Prop) (nf nl : Nat) : Prop :=
  ∀ (fr lo : Nat) (Q : Option Value → ch_H → Prop) (h : ch_H) (fs : List Value) (at0 fl0 dp : Int32), nf ≤ fr → nl ≤ lo → fl0.toInt = -1 → dp.toInt = dv → rl cA h m fs tx n le g f bg en at0 fl0 dp →
    (∀ (h1 : ch_H) (fs1 : List Value) (at1 fl1 dp1 v : Int32), rl cA h1 m fs1 tx n le g f bg en at1 fl1 dp1 → post at0.toInt.toNat at1 fl1 → dv ≤ dp1.toInt ∧ dp1.toInt ≤ 6 ∧ (fl1.toInt = -1 → dp1.toInt = dv) → (B = true → 0 ≤ v.toInt ∧ v.toInt ≤ 1) → (∀ j, j ≠ 10 ∧ j ≠ 11 ∧ j ≠ 12 → fs1[j]? = fs[j]?) → (∀ q, q ≠ m → h1 q = h q) → Q (some (.int v)) h1) → ww l D tys A X fr lo M Q 0 L [] h
section
variable {l : Launch} {D : va_G} {tys : List (ClassId × FieldType)} {A : Nat → Prop} {X : State → Prop} {fr lo : Nat} {Q : Option Value → ch_H → Prop} {cA : Nat → ClassId} {h : ch_H} {m tx n le : Nat} {fs : List Value} {g f : Nat → Int32} {bg en at0 fl0 dp : Int32} {aK aV : Nat → Nat}
theorem rl.bl (H : rl cA h m fs tx n le g f bg en at0 fl0 dp) : 0 ≤ at0.toInt ∧ at0.toInt ≤ en.toInt ∧ en.toInt ≤ 160 := ⟨H.1.2.2.2.2.2.2.1, H.1.2.2.2.2.2.2.2, H.1.2.2.2.2.2.1.2.2.2.1⟩
theorem r_amongL {i : Nat} {c : Int32} (hi : i < 3) (hX : ∀ s, X s → xs A aK aV s) (hr : 4 ≤ fr ∧ 110 ≤ lo) : ∀ (j : Nat) (k : Int32), 0 ≤ k.toInt → k.toInt + j = (js_l.getD i 0 : Nat) → (∀ z, z < k.toInt.toNat → ¬ (js_c i z).toInt = c.toInt) → (∀ v : Int32, (v.toInt = 1 ∧ (∃ z, z < js_l.getD i 0 ∧ (js_c i z).toInt = c.toInt) ∨ v.toInt = 0 ∧ ∀ z, z < js_l.getD i 0 → ¬ (js_c i z).toInt = c.toInt) → Q (some (.int v)) h) → ww l D tys A X fr lo mX11_isAmong Q 2 [(2, .int k), (0, .ref (aK i)), (1, .int c)] [] h := by
  intro j
  induction j using Nat.strongRecOn with
  | ind j ih =>
    intro k hk hj hall hq
    have hl9 : js_l.getD i 0 ≤ 9 := by
      have h3 : i = 0 ∨ i = 1 ∨ i = 2 := by omega
      rcases h3 with rfl | rfl | rfl <;> decide
    refine w_iload_n (List.Mem.head _) (tX11_isAmong_0_ok (2, .iload_n 2, 1) (List.mem_of_getElem? (i := 2) rfl)) ?_
    refine w_aload_n (List.Mem.tail _ (List.Mem.head _)) (tX11_isAmong_0_ok (3, .aload_n 0, 1) (List.mem_of_getElem? (i := 3) rfl)) ?_
    refine w_strlen hi hX (wA6 12 rfl rfl) (by omega) (Nat.le_of_ble_eq_true rfl) (tX11_isAmong_0_ok (4, .invokevirtual 89, 3) (List.mem_of_getElem? (i := 4) rfl)) (fun v1 e2 => ?_)
    refine w_icmp_ge (tgt := 27) (tX11_isAmong_0_ok (7, .if_icmp .ge 20, 3) (List.mem_of_getElem? (i := 5) rfl)) rfl (fun b3 => ?_) (fun b3 => ?_)
    · refine w_iconst (by decide) (tX11_isAmong_0_ok (27, .iconst 0, 1) (List.mem_of_getElem? (i := 15) rfl)) (fun v4 e5 => ?_)
      refine w_zret rfl (by omega) (by omega) (tX11_isAmong_0_ok (28, .ireturn, 1) (List.mem_of_getElem? (i := 16) rfl)) ?_
      refine hq v4 (Or.inr ⟨by omega, fun z hz => hall z (by omega)⟩)
    · refine w_aload_n (List.Mem.tail _ (List.Mem.head _)) (tX11_isAmong_0_ok (10, .aload_n 0, 1) (List.mem_of_getElem? (i := 6) rfl)) ?_
      refine w_iload_n (List.Mem.head _) (tX11_isAmong_0_ok (11, .iload_n 2, 1) (List.mem_of_getElem? (i := 7) rfl)) ?_
      refine w_strch hi hX (wA6 22 rfl rfl) (by omega) (Nat.le_of_ble_eq_true rfl) (by omega) (by omega) (tX11_isAmong_0_ok (12, .invokevirtual 95, 3) (List.mem_of_getElem? (i := 8) rfl)) ?_
      refine w_iload_n (List.Mem.tail _ (List.Mem.tail _ (List.Mem.head _))) (tX11_isAmong_0_ok (15, .iload_n 1, 1) (List.mem_of_getElem? (i := 9) rfl)) ?_
      refine w_icmp_ne (tgt := 21) (tX11_isAmong_0_ok (16, .if_icmp .ne 5, 3) (List.mem_of_getElem? (i := 10) rfl)) rfl (fun b6 => ?_) (fun b6 => ?_)
      · refine w_iinc (fun v7 => [(2, .int v7), (0, .ref (aK i)), (1, .int c)]) (fun _ => rfl) (List.Mem.head _) (Nat.le_of_ble_eq_true rfl) (by decide) (by omega) (by omega) (tX11_isAmong_0_ok (21, .iinc 2 1, 3) (List.mem_of_getElem? (i := 13) rfl)) (fun v7 e8 => ?_)
        refine w_goto (tgt := 2) (tX11_isAmong_0_ok (24, .goto (-22), 3) (List.mem_of_getElem? (i := 14) rfl)) rfl ?_
        refine w_lv [(2, .int v7), (0, .ref (aK i)), (1, .int c)] (by intro q hq; simp only [List.mem_cons, List.not_mem_nil, or_false] at hq ⊢; rcases hq with e | e | e <;> subst e <;> simp) ?_
        refine ih (j - 1) (by omega) _ (by omega) (by omega) (fun z hz => ?_) hq
        by_cases z9 : z = k.toInt.toNat
        · subst z9; exact b6
        · exact hall z (by omega)
      · refine w_iconst (by decide) (tX11_isAmong_0_ok (19, .iconst 1, 1) (List.mem_of_getElem? (i := 11) rfl)) (fun v9 e10 => ?_)
        refine w_zret rfl (by omega) (by omega) (tX11_isAmong_0_ok (20, .ireturn, 1) (List.mem_of_getElem? (i := 12) rfl)) ?_
        refine hq v9 (Or.inl ⟨by omega, k.toInt.toNat, by omega, b6⟩)
theorem r_among {i : Nat} {c : Int32} (hi : i < 3) (hX : ∀ s, X s → xs A aK aV s) (hr : 4 ≤ fr ∧ 110 ≤ lo) (hq : ∀ v : Int32, (v.toInt = 1 ∧ (∃ z, z < js_l.getD i 0 ∧ (js_c i z).toInt = c.toInt) ∨ v.toInt = 0 ∧ ∀ z, z < js_l.getD i 0 → ¬ (js_c i z).toInt = c.toInt) → Q (some (.int v)) h) : ww l D tys A X fr lo mX11_isAmong Q 0 [(0, .ref (aK i)), (1, .int c)] [] h := by
  refine w_iconst (by decide) (tX11_isAmong_0_ok (0, .iconst 0, 1) (List.mem_of_getElem? (i := 0) rfl)) (fun v1 e2 => ?_)
  refine w_istore_n [(2, .int v1), (0, .ref (aK i)), (1, .int c)] rfl (Nat.le_of_ble_eq_true rfl) (tX11_isAmong_0_ok (1, .istore_n 2, 1) (List.mem_of_getElem? (i := 1) rfl)) ?_
  exact r_amongL hi hX hr (js_l.getD i 0) _ (by omega) (by omega) (fun z hz => by omega) hq
theorem r_amongY {c : Int32} (hX : ∀ s, X s → xs A aK aV s) (hr : 4 ≤ fr ∧ 110 ≤ lo) (hq : ∀ v : Int32, (v.toInt = 1 ∧ c.toInt = 121 ∨ v.toInt = 0 ∧ ¬ c.toInt = 121) → Q (some (.int v)) h) : ww l D tys A X fr lo mX11_isAmong Q 0 [(0, .ref (aK 0)), (1, .int c)] [] h := by
  refine r_among (by decide) hX hr (fun v e => hq v ?_)
  rcases e with ⟨e1, z, hz, e2⟩ | ⟨e1, e2⟩
  · have z0 : z = 0 := by have : js_l.getD 0 0 = 1 := rfl; omega
    subst z0
    have : (js_c 0 0).toInt = 121 := by decide
    omega
  · have := e2 0 (by decide)
    have h9 : (js_c 0 0).toInt = 121 := by decide
    omega
theorem sp_let_v {v c : Int} (e : v = c ∨ v = -1 ∧ c = 0) : sp_letO v ↔ sp_letO c := by
  rcases e with e | ⟨e, e2⟩
  · rw [e]
  · subst e e2
    exact ⟨fun q => absurd q (by unfold sp_letO; decide), fun q => absurd q (by unfold sp_letO; decide)⟩
theorem sp_let_b {c : Int} (h : sp_letO c) : 100 ≤ c ∧ c ≤ 120 := by
  unfold sp_letO at h
  omega
theorem r_amongL7 {c : Int32} (hX : ∀ s, X s → xs A aK aV s) (hr : 4 ≤ fr ∧ 110 ≤ lo) (hq : ∀ v : Int32, (v.toInt = 0 ∨ v.toInt = 1) ∧ (¬ v.toInt = 0 ↔ sp_letO c.toInt) → Q (some (.int v)) h) : ww l D tys A X fr lo mX11_isAmong Q 0 [(0, .ref (aK 1)), (1, .int c)] [] h := by
  refine r_among (by decide) hX hr (fun v e => hq v ?_)
  unfold sp_letO
  have k0 : (js_c 1 0).toInt = 112 := by decide
  have k1 : (js_c 1 1).toInt = 120 := by decide
  have k2 : (js_c 1 2).toInt = 108 := by decide
  have k3 : (js_c 1 3).toInt = 104 := by decide
  have k4 : (js_c 1 4).toInt = 100 := by decide
  have k5 : (js_c 1 5).toInt = 116 := by decide
  have k6 : (js_c 1 6).toInt = 105 := by decide
  rcases e with ⟨e1, z, hz, e2⟩ | ⟨e1, e2⟩
  · have hz9 : js_l.getD 1 0 = 7 := rfl
    have z0 : z = 0 ∨ z = 1 ∨ z = 2 ∨ z = 3 ∨ z = 4 ∨ z = 5 ∨ z = 6 := by omega
    rcases z0 with rfl | rfl | rfl | rfl | rfl | rfl | rfl <;> omega
  · have q0 := e2 0 (by decide)
    have q1 := e2 1 (by decide)
    have q2 := e2 2 (by decide)
    have q3 := e2 3 (by decide)
    have q4 := e2 4 (by decide)
    have q5 := e2 5 (by decide)
    have q6 := e2 6 (by decide)
    omega
theorem r_atomD (hT : k_tys tys cA) {c : Int32} (hr : 1 ≤ fr ∧ 30 ≤ lo) : ∀ (k : Nat) (i vv at0 fl0 : Int32) (h : ch_H) (fs : List Value), i.toInt = 4 - (k : Int) → k ≤ 4 → 0 ≤ vv.toInt → ((i.toInt = 0 → vv.toInt = 0) ∧ (i.toInt = 1 → vv.toInt ≤ 9) ∧ (i.toInt = 2 → vv.toInt ≤ 99) ∧ (i.toInt = 3 → vv.toInt ≤ 999) ∧ vv.toInt ≤ 9999) → fl0.toInt = -1 → rl cA h m fs tx n le g f bg en at0 fl0 dp → (∀ (h1 : ch_H) (fs1 : List Value) (at1 fl1 u : Int32), rl cA h1 m fs1 tx n le g f bg en at1 fl1 dp → (sp_isd f en.toInt.toNat (sp_nd f en.toInt.toNat k at0.toInt.toNat vv.toInt).1 ∧ fl1.toInt = ((sp_nd f en.toInt.toNat k at0.toInt.toNat vv.toInt).1 : Nat) ∨ ¬ sp_isd f en.toInt.toNat (sp_nd f en.toInt.toNat k at0.toInt.toNat vv.toInt).1 ∧ fl1.toInt = -1 ∧ at1.toInt = ((sp_nd f en.toInt.toNat k at0.toInt.toNat vv.toInt).1 : Nat)) → (∀ j, j ≠ 10 ∧ j ≠ 11 ∧ j ≠ 12 → fs1[j]? = fs[j]?) → (∀ q, q ≠ m → h1 q = h q) → Q (some (.int u)) h1) → ww l D tys A X fr lo mX11_atom Q 90 [(3, .int i), (2, .int vv), (1, .int c), (0, .ref m)] [] h := by
  intro k
  induction k using Nat.strongRecOn with
  | ind k ih =>
    intro i vv at0 fl0 h fs hi hk hv0 hvb hfl H hq
    have hr1 : 1 ≤ fr := by omega
    have hr2 : 30 ≤ lo := by omega
    obtain ⟨⟨⟨c_m, fl, f5, f8, f9, f10, f11⟩, f12, n_tx_m, c_x, hs, hb, ha⟩, f4, n_le_m, gl, c_le⟩ := H
    refine w_aload_n (List.Mem.tail _ (List.Mem.tail _ (List.Mem.tail _ (List.Mem.head _)))) (tX11_atom_0_ok (90, .aload_n 0, 1) (List.mem_of_getElem? (i := 53) rfl)) ?_
    refine w_callV (own := 16) (mi := 198) [] [] [(0, .ref m)] rfl (cllw_X11 (158, 0, 198) (List.mem_of_getElem? (i := 16) rfl)) rfl rfl c_m rfl (by omega) (w_lo (n := 20) rfl (by omega)) (Nat.le_of_ble_eq_true rfl) (Nat.le_of_ble_eq_true rfl) rfl (tX11_atom_0_ok (91, .invokevirtual 158, 3) (List.mem_of_getElem? (i := 54) rfl)) (r_dig hT ⟨⟨c_m, fl, f5, f8, f9, f10, f11⟩, f12, n_tx_m, c_x, hs, hb, by omega, by omega⟩ (fun v1 e2 => ?_))
    show ww l D tys A X fr lo mX11_atom Q 94 [(3, .int i), (2, .int vv), (1, .int c), (0, .ref m)] [.int v1] h
    refine w_if_eq (tgt := 156) (tX11_atom_0_ok (94, .ifCond .eq 62, 3) (List.mem_of_getElem? (i := 55) rfl)) rfl (fun b3 => ?_) (fun b3 => ?_)
    · refine w_iload_n (List.Mem.tail _ (List.Mem.head _)) (tX11_atom_1_ok (156, .iload_n 2, 1) (List.mem_of_getElem? (i := 31) rfl)) ?_
      refine w_iret rfl (tX11_atom_1_ok (157, .ireturn, 1) (List.mem_of_getElem? (i := 32) rfl)) ?_
      refine hq h fs at0 fl0 vv ⟨⟨⟨c_m, fl, f5, f8, f9, f10, f11⟩, f12, n_tx_m, c_x, hs, hb, by omega, by omega⟩, f4, n_le_m, _, c_le⟩ ?_ (fun j hj => rfl) (fun q hq => rfl)
      have y9 : ¬ sp_isd f en.toInt.toNat at0.toInt.toNat := by omega
      have y8 : sp_nd f en.toInt.toNat k at0.toInt.toNat vv.toInt = (at0.toInt.toNat, vv.toInt) := by
        cases k with
        | zero => rfl
        | succ k => rw [sp_nd, if_neg y9]
      rw [y8]
      exact Or.inr ⟨y9, by omega, by show _ = ((at0.toInt.toNat : Nat) : Int); omega⟩
    · refine w_aload_n (List.Mem.tail _ (List.Mem.tail _ (List.Mem.tail _ (List.Mem.head _)))) (tX11_atom_0_ok (97, .aload_n 0, 1) (List.mem_of_getElem? (i := 56) rfl)) ?_
      refine w_get (own := 16) rfl rfl (by decide) c_m f11 (tX11_atom_0_ok (98, .getfield 118, 3) (List.mem_of_getElem? (i := 57) rfl)) ?_
      refine w_iconst (by decide) (tX11_atom_0_ok (101, .iconst (-1), 1) (List.mem_of_getElem? (i := 58) rfl)) (fun v4 e5 => ?_)
      refine w_icmp_ne (tgt := 156) (tX11_atom_0_ok (102, .if_icmp .ne 54, 3) (List.mem_of_getElem? (i := 59) rfl)) rfl (fun b6 => ?_) (fun b6 => ?_)
      · exfalso; omega
      · refine w_iload_n (List.Mem.head _) (tX11_atom_1_ok (105, .iload_n 3, 1) (List.mem_of_getElem? (i := 0) rfl)) ?_
        refine w_iconst (by decide) (tX11_atom_1_ok (106, .iconst 4, 1) (List.mem_of_getElem? (i := 1) rfl)) (fun v7 e8 => ?_)
        refine w_icmp_ne (tgt := 117) (tX11_atom_1_ok (107, .if_icmp .ne 10, 3) (List.mem_of_getElem? (i := 2) rfl)) rfl (fun b9 => ?_) (fun b9 => ?_)
        · refine w_bipush (by decide) (tX11_atom_1_ok (117, .bipush 10, 2) (List.mem_of_getElem? (i := 8) rfl)) (fun v10 e11 => ?_)
          refine w_iload_n (List.Mem.tail _ (List.Mem.head _)) (tX11_atom_1_ok (119, .iload_n 2, 1) (List.mem_of_getElem? (i := 9) rfl)) ?_
          refine w_imul (by assumption) (by omega) (by omega) (tX11_atom_1_ok (120, .imul, 1) (List.mem_of_getElem? (i := 10) rfl)) (fun v12 e13 => ?_)
          refine w_aload_n (List.Mem.tail _ (List.Mem.tail _ (List.Mem.tail _ (List.Mem.head _)))) (tX11_atom_1_ok (121, .aload_n 0, 1) (List.mem_of_getElem? (i := 11) rfl)) ?_
          refine w_get (own := 16) rfl rfl (by decide) c_m f5 (tX11_atom_1_ok (122, .getfield 23, 3) (List.mem_of_getElem? (i := 12) rfl)) ?_
          refine w_aload_n (List.Mem.tail _ (List.Mem.tail _ (List.Mem.tail _ (List.Mem.head _)))) (tX11_atom_1_ok (125, .aload_n 0, 1) (List.mem_of_getElem? (i := 13) rfl)) ?_
          refine w_get (own := 16) rfl rfl (by decide) c_m f8 (tX11_atom_1_ok (126, .getfield 115, 3) (List.mem_of_getElem? (i := 14) rfl)) ?_
          refine w_aload_n (List.Mem.tail _ (List.Mem.tail _ (List.Mem.tail _ (List.Mem.head _)))) (tX11_atom_1_ok (129, .aload_n 0, 1) (List.mem_of_getElem? (i := 15) rfl)) ?_
          refine w_get (own := 16) rfl rfl (by decide) c_m f10 (tX11_atom_1_ok (130, .getfield 109, 3) (List.mem_of_getElem? (i := 16) rfl)) ?_
          refine w_iadd (by omega) (by omega) (tX11_atom_1_ok (133, .iadd, 1) (List.mem_of_getElem? (i := 17) rfl)) (fun v14 e15 => ?_)
          refine w_bald hT c_x (by omega) (by omega) (tX11_atom_1_ok (134, .baload, 1) (List.mem_of_getElem? (i := 18) rfl)) (fun v16 e17 => ?_)
          have s18 := hs at0.toInt.toNat (by omega)
          have i19 : bg.toInt.toNat + at0.toInt.toNat = v14.toInt.toNat := by omega
          rw [i19] at s18
          refine w_iadd (by omega) (by omega) (tX11_atom_1_ok (135, .iadd, 1) (List.mem_of_getElem? (i := 19) rfl)) (fun v20 e21 => ?_)
          refine w_bipush (by decide) (tX11_atom_1_ok (136, .bipush 48, 2) (List.mem_of_getElem? (i := 20) rfl)) (fun v22 e23 => ?_)
          refine w_isub (by omega) (by omega) (tX11_atom_1_ok (138, .isub, 1) (List.mem_of_getElem? (i := 21) rfl)) (fun v24 e25 => ?_)
          refine w_istore_n [(2, .int v24), (3, .int i), (1, .int c), (0, .ref m)] rfl (Nat.le_of_ble_eq_true rfl) (tX11_atom_1_ok (139, .istore_n 2, 1) (List.mem_of_getElem? (i := 22) rfl)) ?_
          refine w_aload_n (List.Mem.tail _ (List.Mem.tail _ (List.Mem.tail _ (List.Mem.head _)))) (tX11_atom_1_ok (140, .aload_n 0, 1) (List.mem_of_getElem? (i := 23) rfl)) ?_
          refine w_dup rfl (tX11_atom_1_ok (141, .dup, 1) (List.mem_of_getElem? (i := 24) rfl)) ?_
          refine w_get (own := 16) rfl rfl (by decide) c_m f10 (tX11_atom_1_ok (142, .getfield 109, 3) (List.mem_of_getElem? (i := 25) rfl)) ?_
          refine w_iconst (by decide) (tX11_atom_1_ok (145, .iconst 1, 1) (List.mem_of_getElem? (i := 26) rfl)) (fun v26 e27 => ?_)
          refine w_iadd (by omega) (by omega) (tX11_atom_1_ok (146, .iadd, 1) (List.mem_of_getElem? (i := 27) rfl)) (fun v28 e29 => ?_)
          refine w_putF (own := 16) rfl rfl (by decide) rfl ⟨rfl, rfl⟩ c_m (by rw [fl]; decide) (tX11_atom_1_ok (147, .putfield 109, 3) (List.mem_of_getElem? (i := 28) rfl)) (fun h30 fs33 l34 k35 j36 c31 o32 => ?_)
          rw [fl] at l34
          have f37 := (j36 4 (by decide)).trans f4
          have f38 := (j36 5 (by decide)).trans f5
          have f39 := (j36 8 (by decide)).trans f8
          have f40 := (j36 9 (by decide)).trans f9
          have f41 := (j36 11 (by decide)).trans f11
          have f42 := (j36 12 (by decide)).trans f12
          have c43 := (o32 tx n_tx_m).trans c_x
          have c44 := (o32 le n_le_m).trans c_le
          refine w_iinc (fun v45 => [(3, .int v45), (2, .int v24), (1, .int c), (0, .ref m)]) (fun _ => rfl) (List.Mem.tail _ (List.Mem.head _)) (Nat.le_of_ble_eq_true rfl) (by decide) (by omega) (by omega) (tX11_atom_1_ok (150, .iinc 3 1, 3) (List.mem_of_getElem? (i := 29) rfl)) (fun v45 e46 => ?_)
          refine w_goto (tgt := 90) (tX11_atom_1_ok (153, .goto (-63), 3) (List.mem_of_getElem? (i := 30) rfl)) rfl ?_
          have a9 : v28.toInt.toNat = at0.toInt.toNat + 1 := by omega
          have k9 : k = (k - 1) + 1 := by omega
          refine w_lv [(3, .int v45), (2, .int v24), (1, .int c), (0, .ref m)] (by intro q hq; simp only [List.mem_cons, List.not_mem_nil, or_false] at hq ⊢; rcases hq with e | e | e | e <;> subst e <;> simp) ?_
          refine ih (k - 1) (by omega) _ _ _ _ _ _ (by omega) (by omega) (by omega) (by omega) (by omega) ⟨⟨⟨c31, l34, f38, f39, f40, k35, f41⟩, f42, n_tx_m, c43, hs, hb, by omega, by omega⟩, f37, n_le_m, _, c44⟩ (fun h1 fs1 at1 fl1 u p1 p2 p3 p4 => hq h1 fs1 at1 fl1 u p1 ?_ (fun j hj => (p3 j hj).trans (j36 j hj.1)) (fun q hq => (p4 q hq).trans (o32 q hq)))
          rw [a9] at p2
          rw [k9, sp_nd, if_pos (by omega)]
          have z9 : 10 * vv.toInt + ((f at0.toInt.toNat).toInt - 48) = v24.toInt := by omega
          rw [z9]
          exact p2
        · refine w_aload_n (List.Mem.tail _ (List.Mem.tail _ (List.Mem.tail _ (List.Mem.head _)))) (tX11_atom_1_ok (110, .aload_n 0, 1) (List.mem_of_getElem? (i := 3) rfl)) ?_
          refine w_callV (own := 16) (mi := 180) [] [] [(0, .ref m)] rfl (cllw_X11 (124, 0, 180) (List.mem_of_getElem? (i := 11) rfl)) rfl rfl c_m rfl (by omega) (w_lo (n := 20) rfl (by omega)) (Nat.le_of_ble_eq_true rfl) (Nat.le_of_ble_eq_true rfl) rfl (tX11_atom_1_ok (111, .invokevirtual 124, 3) (List.mem_of_getElem? (i := 4) rfl)) (r_fail ⟨⟨c_m, fl, f5, f8, f9, f10, f11⟩, f12, n_tx_m, c_x, hs, hb, by omega, by omega⟩ (fun h47 fs48 fl49 v50 p51 e52 e53 k54 o55 => ?_))
          obtain ⟨⟨c56, l57, f58, f59, f60, f61, f62⟩, f63, -, c64, -, -, a65, a66⟩ := p51
          have f67 := (k54 4 (by decide)).trans f4
          have c68 := (o55 le n_le_m).trans c_le
          show ww l D tys A X fr lo mX11_atom Q 114 [(3, .int i), (2, .int vv), (1, .int c), (0, .ref m)] [.int v50] h47
          refine w_pop rfl (tX11_atom_1_ok (114, .pop, 1) (List.mem_of_getElem? (i := 5) rfl)) ?_
          refine w_iconst (by decide) (tX11_atom_1_ok (115, .iconst 0, 1) (List.mem_of_getElem? (i := 6) rfl)) (fun v69 e70 => ?_)
          refine w_iret rfl (tX11_atom_1_ok (116, .ireturn, 1) (List.mem_of_getElem? (i := 7) rfl)) ?_
          refine hq h47 fs48 at0 fl49 v69 ⟨⟨⟨c56, l57, f58, f59, f60, f61, f62⟩, f63, n_tx_m, c64, hs, hb, a65, a66⟩, f67, n_le_m, _, c68⟩ ?_ (fun j hj => k54 j hj) (fun q hq => o55 q hq)
          have k9 : k = 0 := by omega
          rw [k9, sp_nd]
          dsimp only
          exact Or.inl ⟨by omega, by omega⟩
end
