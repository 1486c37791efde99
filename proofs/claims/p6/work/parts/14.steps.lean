/-! every step is sound -/
section
variable {Sg : Nat → Option Nat} {cA : Nat → ClassId} {Lb : Nat → k_I} {W : List (Nat × Nat)} {h0 h : ch_H} {r : List Value} {S : k_S} {pc : Nat} {L : List (Nat × Nat)} {st : List Nat} {lv : List (Nat × Value)} {vs : List Value} {ss : List k_N} {own mx : Nat}
variable {l : Launch} {D : va_G} {tys : List (ClassId × FieldType)} {A : Nat → Prop} {X : State → Prop} {fr lo : Nat} {M : ch_M} {Q : Option Value → ch_H → Prop} {T : Nat → List (Nat × Value) → List Value → ch_H → Prop}
theorem k_next.app (kn : k_next T Sg cA Lb W h0 r ss) (t0 : List Value) : k_next T Sg cA Lb W h0 (r ++ t0) ss := fun s hs t g lv vs => by
  rw [List.append_assoc]
  exact kn s hs (t0 ++ t) g lv vs
theorem k_brn_k {c : ClassFile.Cond} {a b : Nat} {off : Int} (hs : k_brn c S a b pc off L st = some ss) : (k_ty S a).1 = 0 ∧ (k_ty S b).1 = 0 := by
  unfold k_brn at hs
  split at hs
  · rename_i e
    simp only [Bool.and_eq_true, k_isI, beq_iff_eq] at e
    exact e.1
  · cases hs
theorem k_ty_new {t : k_T} {v : Nat} (hv : v ≠ S.1) : k_ty (k_new S t) v = k_ty S v := by
  unfold k_ty k_new
  simp only [List.find?_cons]
  have : (S.1 == v) = false := by simp [Ne.symm hv]
  rw [this]
theorem k_ty_new_s (t : k_T) : k_ty (k_new S t) S.1 = t := by
  unfold k_ty k_new
  simp [List.find?_cons]
theorem k_vint (g : k_G Sg r h S) {v : Nat} {x : Value} (hk : (k_ty S v).1 = 0) (hx : r[v]? = some x) : ∃ y : Int32, x = .int y := by
  obtain ⟨y, e1, -⟩ := g.int hk
  rw [hx] at e1
  exact ⟨y, Option.some.inj e1⟩
theorem k_vref (g : k_G Sg r h S) {v : Nat} {x : Value} (hk : ((k_ty S v).1 == 2 || (k_ty S v).1 == 3) = true) (hx : r[v]? = some x) : x = .null ∨ ∃ a : Nat, x = .ref a := by
  simp only [Bool.or_eq_true, beq_iff_eq] at hk
  rcases hk with hk | hk
  · obtain ⟨a, e1, -⟩ := g.ref hk
    rw [hx] at e1
    exact Or.inr ⟨a, Option.some.inj e1⟩
  · rcases g.nul hk with e1 | ⟨a, e1, -⟩
    · rw [hx] at e1
      exact Or.inl (Option.some.inj e1)
    · rw [hx] at e1
      exact Or.inr ⟨a, Option.some.inj e1⟩
theorem k_nzero (g : k_G Sg r h S) {b : Nat} {y : Int32} (hb : r[b]? = some (.int y)) (c : k_isI S b = true ∧ ((decide (0 < k_lo S b) || decide (k_hi S b < 0)) || decide (b ∈ S.2.2.2.2.1)) = true) : ¬ y = 0 := by
  intro hy
  have kb : (k_ty S b).1 = 0 := by simpa [k_isI] using c.1
  have iv := g.iv kb hb
  have c := c.2
  simp only [Bool.or_eq_true, decide_eq_true_eq] at c
  have z0 : y.toInt = 0 := by rw [hy]; rfl
  rcases c with (c | c) | c
  · omega
  · omega
  · obtain ⟨y', e1, e2⟩ := g.2.2.2.2.1 b c
    rw [hb] at e1
    cases e1
    exact e2 hy
set_option maxHeartbeats 4000000 in
theorem k_step_ok {i : Instr} {n : Nat} (hT : k_tys tys cA) (hR : pg_R own = M.1.cls) (hmx : mx = M.2.2.1) (hd : decode M.2.1 pc = .ok (i, n)) (hs : k_step Lb W own mx S pc L st i n = some ss) (g : k_G Sg r h S) (ok : k_ok Sg cA Lb W h0 h) (hl : k_lv r L lv) (hst : k_st r st vs) (kn : k_next (k_TT l D tys A X fr lo M Q) Sg cA Lb W h0 r ss) : k_TT l D tys A X fr lo M Q pc lv vs h := by
  cases i
  case iconst v =>
    simp only [k_step] at hs
    split at hs
    · rename_i c
      simp only [Bool.and_eq_true, beq_iff_eq] at c
      obtain ⟨rfl, c⟩ := c
      have c := k_inr_ok c
      have e := fb_ofI (z := v) (by omega) (by omega)
      exact tt_iconst rfl hd (k_push_ok (T := k_TT l D tys A X fr lo M Q) hs g ok hl hst (k_vi (by omega) (by omega)) kn)
    · cases hs
  case bipush v =>
    simp only [k_step] at hs
    split at hs
    · rename_i c
      simp only [Bool.and_eq_true, beq_iff_eq, decide_eq_true_eq] at c
      obtain ⟨⟨rfl, c1⟩, c2⟩ := c
      have e := kn_bi c1 c2
      exact tt_bipush rfl hd (k_push_ok (T := k_TT l D tys A X fr lo M Q) hs g ok hl hst (k_vi (by omega) (by omega)) kn)
    · cases hs
  case sipush v =>
    simp only [k_step] at hs
    split at hs
    · rename_i c
      simp only [Bool.and_eq_true, beq_iff_eq, decide_eq_true_eq] at c
      obtain ⟨⟨rfl, c1⟩, c2⟩ := c
      have e := kn_si c1 c2
      exact tt_sipush rfl hd (k_push_ok (T := k_TT l D tys A X fr lo M Q) hs g ok hl hst (k_vi (by omega) (by omega)) kn)
    · cases hs
  case ldc ix =>
    simp only [k_step] at hs
    split at hs
    · rename_i c
      simp only [beq_iff_eq] at c
      subst c
      split at hs
      · rename_i q hq
        have hm := List.mem_of_find?_eq_some hq
        have h2 := List.find?_some hq
        have h3 : q.1 = ix := by simpa using h2
        have hw := pg_kw own q hm
        rw [hR, h3] at hw
        exact tt_ldc hw hd (k_push_ok (T := k_TT l D tys A X fr lo M Q) hs g ok hl hst (k_vi (Int.le_refl _) (Int.le_refl _)) kn)
      · cases hs
    · cases hs
  case ldc_w ix =>
    simp only [k_step] at hs
    split at hs
    · rename_i c
      simp only [beq_iff_eq] at c
      subst c
      split at hs
      · rename_i q hq
        have hm := List.mem_of_find?_eq_some hq
        have h2 := List.find?_some hq
        have h3 : q.1 = ix := by simpa using h2
        have hw := pg_kw own q hm
        rw [hR, h3] at hw
        exact tt_ldcw hw hd (k_push_ok (T := k_TT l D tys A X fr lo M Q) hs g ok hl hst (k_vi (Int.le_refl _) (Int.le_refl _)) kn)
      · cases hs
    · cases hs
  case ldc2_w ix =>
    simp only [k_step] at hs
    split at hs
    · rename_i c
      simp only [beq_iff_eq] at c
      subst c
      split at hs
      · rename_i q hq
        have hm := List.mem_of_find?_eq_some hq
        have h2 := List.find?_some hq
        have h3 : q.1 = ix := by simpa using h2
        have hw := pg_jw own q hm
        rw [hR, h3] at hw
        refine tt_ldc2 hw hd (k_push_ok (T := k_TT l D tys A X fr lo M Q) hs g ok hl hst ?_ kn)
        by_cases hz : q.2 = 0
        · rw [if_pos hz]
          exact ⟨_, rfl⟩
        · rw [if_neg hz]
          exact ⟨_, rfl, hz⟩
      · cases hs
    · cases hs
  case iload_n k =>
    simp only [k_step] at hs
    split at hs
    · rename_i c
      simp only [beq_iff_eq] at c
      subst c
      refine k_load_ok (T := k_TT l D tys A X fr lo M Q) hs g ok hl hst (fun v x c e1 e2 kk => ?_) kn
      obtain ⟨y, rfl⟩ := k_vint g (by simpa using c) e1
      exact tt_iload_n rfl e2 hd kk
    · cases hs
  case iload k =>
    simp only [k_step] at hs
    split at hs
    · rename_i c
      simp only [beq_iff_eq] at c
      subst c
      refine k_load_ok (T := k_TT l D tys A X fr lo M Q) hs g ok hl hst (fun v x c e1 e2 kk => ?_) kn
      obtain ⟨y, rfl⟩ := k_vint g (by simpa using c) e1
      exact tt_iload e2 hd kk
    · cases hs
  case lload_n k =>
    simp only [k_step] at hs
    split at hs
    · rename_i c
      simp only [beq_iff_eq] at c
      subst c
      refine k_load_ok (T := k_TT l D tys A X fr lo M Q) hs g ok hl hst (fun v x c e1 e2 kk => ?_) kn
      obtain ⟨y, ey⟩ := g.long (v := v) (by simpa using c)
      rw [e1] at ey
      cases ey
      exact tt_lload_n rfl e2 hd kk
    · cases hs
  case aload_n k =>
    simp only [k_step] at hs
    split at hs
    · rename_i c
      simp only [beq_iff_eq] at c
      subst c
      refine k_load_ok (T := k_TT l D tys A X fr lo M Q) hs g ok hl hst (fun v x c e1 e2 kk => ?_) kn
      rcases k_vref g c e1 with rfl | ⟨y, rfl⟩
      · exact tt_aload_nN rfl e2 hd kk
      · exact tt_aload_n rfl e2 hd kk
    · cases hs
  case aload k =>
    simp only [k_step] at hs
    split at hs
    · rename_i c
      simp only [beq_iff_eq] at c
      subst c
      refine k_load_ok (T := k_TT l D tys A X fr lo M Q) hs g ok hl hst (fun v x c e1 e2 kk => ?_) kn
      rcases k_vref g c e1 with rfl | ⟨y, rfl⟩
      · exact tt_aloadN e2 hd kk
      · exact tt_aload e2 hd kk
    · cases hs
  case istore_n k =>
    simp only [k_step] at hs
    split at hs
    · rename_i c
      simp only [beq_iff_eq] at c
      subst c
      refine k_store_ok (T := k_TT l D tys A X fr lo M Q) hs g ok hl hst (fun v x vs' c e1 hi ev kk => ?_) kn
      obtain ⟨y, rfl⟩ := k_vint g (by simpa using c) e1
      rw [ev]
      exact tt_istore_n rfl hd (hmx ▸ hi) kk
    · cases hs
  case istore k =>
    simp only [k_step] at hs
    split at hs
    · rename_i c
      simp only [beq_iff_eq] at c
      subst c
      refine k_store_ok (T := k_TT l D tys A X fr lo M Q) hs g ok hl hst (fun v x vs' c e1 hi ev kk => ?_) kn
      obtain ⟨y, rfl⟩ := k_vint g (by simpa using c) e1
      rw [ev]
      exact tt_istore hd (hmx ▸ hi) kk
    · cases hs
  case astore_n k =>
    simp only [k_step] at hs
    split at hs
    · rename_i c
      simp only [beq_iff_eq] at c
      subst c
      refine k_store_ok (T := k_TT l D tys A X fr lo M Q) hs g ok hl hst (fun v x vs' c e1 hi ev kk => ?_) kn
      rw [ev]
      rcases k_vref g c e1 with rfl | ⟨y, rfl⟩
      · exact tt_astore_nN rfl hd (hmx ▸ hi) kk
      · exact tt_astore_n rfl hd (hmx ▸ hi) kk
    · cases hs
  case astore k =>
    simp only [k_step] at hs
    split at hs
    · rename_i c
      simp only [beq_iff_eq] at c
      subst c
      refine k_store_ok (T := k_TT l D tys A X fr lo M Q) hs g ok hl hst (fun v x vs' c e1 hi ev kk => ?_) kn
      rw [ev]
      rcases k_vref g c e1 with rfl | ⟨y, rfl⟩
      · exact tt_astoreN hd (hmx ▸ hi) kk
      · exact tt_astore hd (hmx ▸ hi) kk
    · cases hs
  case iinc k d =>
    simp only [k_step] at hs
    split at hs
    · rename_i c
      simp only [Bool.and_eq_true, beq_iff_eq, decide_eq_true_eq] at c
      obtain ⟨⟨rfl, c1⟩, c2⟩ := c
      have c1 := k_inr_ok c1
      split at hs
      · rename_i v ev
        split at hs
        · rename_i cv
          cases hs
          have kv : (k_ty S v).1 = 0 := by simpa [k_isI] using cv
          obtain ⟨x', e1, e2⟩ := k_loc_ok ev hl
          obtain ⟨x, rfl⟩ := k_vint g kv e1
          refine tt_iinc hd e2 (hmx ▸ c2) ?_
          have ed := fb_ofI (z := d) (by omega) (by omega)
          have g1 := g.app (.int (Int32.ofInt d)) (0, d, d) (k_vi (by omega) (by omega))
          have hvS : v ≠ S.1 := by
            intro q
            have := (List.getElem?_eq_some_iff.mp e1).1
            rw [q, g.1] at this
            omega
          have g2 := k_add_ok (a := v) (b := S.1) g1 (by rw [k_ty_new hvS]; exact kv) (by rw [k_ty_new_s]) (k_ap _ e1) (g.lst _)
          rw [List.append_assoc] at g2
          refine kn (k_add (k_new S (0, d, d)) v S.1, pc + 3, k_sto S k (S.1 + 1) L, st) (List.mem_singleton.mpr rfl) ([.int (Int32.ofInt d)] ++ [.int (x + Int32.ofInt d)]) h _ _ g2 ok (k_sto_ok g hl ?_) (hst.app _)
          rw [g.1]
          simp
        · cases hs
      · cases hs
    · cases hs
  case iadd =>
    simp only [k_step] at hs
    split at hs
    · rename_i c
      simp only [beq_iff_eq] at c
      subst c
      exact k_bin_ok (T := k_TT l D tys A X fr lo M Q) hs g ok hl hst (fun ka kb ha hb => k_add_ok g ka kb ha hb) (fun x y vs' ev kk => by rw [ev]; exact tt_iadd hd kk) kn
    · cases hs
  case isub =>
    simp only [k_step] at hs
    split at hs
    · rename_i c
      simp only [beq_iff_eq] at c
      subst c
      exact k_bin_ok (T := k_TT l D tys A X fr lo M Q) hs g ok hl hst (fun ka kb ha hb => k_sbt_ok g ka kb ha hb) (fun x y vs' ev kk => by rw [ev]; exact tt_isub hd kk) kn
    · cases hs
  case imul =>
    simp only [k_step] at hs
    split at hs
    · rename_i c
      simp only [beq_iff_eq] at c
      subst c
      exact k_bin_ok (T := k_TT l D tys A X fr lo M Q) hs g ok hl hst (fun ka kb ha hb => k_mul_ok g ka kb ha hb) (fun x y vs' ev kk => by rw [ev]; exact tt_imul hd kk) kn
    · cases hs
  case iand =>
    simp only [k_step] at hs
    split at hs
    · rename_i c
      simp only [beq_iff_eq] at c
      subst c
      exact k_bin_ok (T := k_TT l D tys A X fr lo M Q) hs g ok hl hst (fun ka kb ha hb => k_and_ok g ka kb ha hb) (fun x y vs' ev kk => by rw [ev]; exact tt_iand hd kk) kn
    · cases hs
  case ior =>
    simp only [k_step] at hs
    split at hs
    · rename_i c
      simp only [beq_iff_eq] at c
      subst c
      exact k_bin_ok (T := k_TT l D tys A X fr lo M Q) (op := fun x y => x ||| y) hs g ok hl hst (fun ka kb ha hb => k_fold_ok g ka kb ha hb _) (fun x y vs' ev kk => by rw [ev]; exact tt_ior hd kk) kn
    · cases hs
  case ixor =>
    simp only [k_step] at hs
    split at hs
    · rename_i c
      simp only [beq_iff_eq] at c
      subst c
      exact k_bin_ok (T := k_TT l D tys A X fr lo M Q) (op := fun x y => x ^^^ y) hs g ok hl hst (fun ka kb ha hb => k_fold_ok g ka kb ha hb _) (fun x y vs' ev kk => by rw [ev]; exact tt_ixor hd kk) kn
    · cases hs
  case ishl =>
    simp only [k_step] at hs
    split at hs
    · rename_i c
      simp only [beq_iff_eq] at c
      subst c
      exact k_bin_ok (T := k_TT l D tys A X fr lo M Q) (op := fun x y => x <<< (y &&& 31)) hs g ok hl hst (fun ka kb ha hb => k_fold_ok g ka kb ha hb _) (fun x y vs' ev kk => by rw [ev]; exact tt_ishl hd kk) kn
    · cases hs
  case ishr =>
    simp only [k_step] at hs
    split at hs
    · rename_i c
      simp only [beq_iff_eq] at c
      subst c
      exact k_bin_ok (T := k_TT l D tys A X fr lo M Q) hs g ok hl hst (fun ka kb ha hb => k_shr_ok g ka kb ha hb) (fun x y vs' ev kk => by rw [ev]; exact tt_ishr hd kk) kn
    · cases hs
  case iushr =>
    simp only [k_step] at hs
    split at hs
    · rename_i c
      simp only [beq_iff_eq] at c
      subst c
      exact k_bin_ok (T := k_TT l D tys A X fr lo M Q) (op := fun x y => (x.toUInt32 >>> (y.toUInt32 &&& Int32.toUInt32 31)).toInt32) hs g ok hl hst (fun ka kb ha hb => k_fold_ok g ka kb ha hb _) (fun x y vs' ev kk => by rw [ev]; exact tt_iushr hd kk) kn
    · cases hs
  case idiv =>
    simp only [k_step] at hs
    split at hs
    · rename_i c
      simp only [beq_iff_eq] at c
      subst c
      split at hs
      · rename_i b st'
        split at hs
        · rename_i c
          simp only [Bool.and_eq_true] at c
          refine k_bin_ok (T := k_TT l D tys A X fr lo M Q) hs g ok hl hst (fun ka kb ha hb => k_div_ok g ka kb ha hb) (fun x y vs' ev kk => ?_) kn
          rw [ev] at hst ⊢
          obtain ⟨y', v1, ey, e1, -⟩ := hst
          cases ey
          exact tt_idiv (k_nzero g e1 c) hd kk
        · cases hs
      · cases hs
    · cases hs
  case irem =>
    simp only [k_step] at hs
    split at hs
    · rename_i c
      simp only [beq_iff_eq] at c
      subst c
      split at hs
      · rename_i b st'
        split at hs
        · rename_i c
          simp only [Bool.and_eq_true] at c
          refine k_bin_ok (T := k_TT l D tys A X fr lo M Q) hs g ok hl hst (fun ka kb ha hb => k_rem_ok g ka kb ha hb) (fun x y vs' ev kk => ?_) kn
          rw [ev] at hst ⊢
          obtain ⟨y', v1, ey, e1, -⟩ := hst
          cases ey
          exact tt_irem (k_nzero g e1 c) hd kk
        · cases hs
      · cases hs
    · cases hs
  case ineg =>
    simp only [k_step] at hs
    split at hs
    · rename_i c
      simp only [beq_iff_eq] at c
      subst c
      split at hs
      · rename_i a st'
        split at hs
        · rename_i c
          cases hs
          have ka : (k_ty S a).1 = 0 := by simpa [k_isI] using c
          obtain ⟨x', v1, rfl, e1, e2⟩ := hst
          obtain ⟨x, rfl⟩ := k_vint g ka e1
          refine tt_ineg hd ?_
          exact kn (k_neg S a, pc + 1, L, S.1 :: st') (List.mem_singleton.mpr rfl) [.int (-x)] h lv _ (k_neg_ok g ka e1) ok (hl.app _) ⟨_, _, rfl, g.lst _, e2.app _⟩
        · cases hs
      · cases hs
    · cases hs
  case i2l =>
    simp only [k_step] at hs
    split at hs
    · rename_i c
      simp only [beq_iff_eq] at c
      subst c
      split at hs
      · rename_i a st'
        split at hs
        · rename_i c
          obtain ⟨x', v1, rfl, e1, e2⟩ := hst
          obtain ⟨x, rfl⟩ := k_vint g (by simpa [k_isI] using c) e1
          exact tt_i2l hd (k_push_ok (T := k_TT l D tys A X fr lo M Q) hs g ok hl e2 ⟨_, rfl⟩ kn)
        · cases hs
      · cases hs
    · cases hs
  case l2i =>
    simp only [k_step] at hs
    split at hs
    · rename_i c
      simp only [beq_iff_eq] at c
      subst c
      split at hs
      · rename_i a st'
        split at hs
        · rename_i c
          obtain ⟨x', v1, rfl, e1, e2⟩ := hst
          obtain ⟨x, f1⟩ := k_long g c
          rw [e1] at f1
          cases f1
          exact tt_l2i hd (k_push_ok (T := k_TT l D tys A X fr lo M Q) hs g ok hl e2 (k_vt _) kn)
        · cases hs
      · cases hs
    · cases hs
  case ladd =>
    simp only [k_step] at hs
    split at hs
    · rename_i c
      simp only [beq_iff_eq] at c
      subst c
      exact k_binL_ok (T := k_TT l D tys A X fr lo M Q) hs g ok hl hst (fun x y vs' ev kk => by rw [ev]; exact tt_ladd hd kk) kn
    · cases hs
  case lsub =>
    simp only [k_step] at hs
    split at hs
    · rename_i c
      simp only [beq_iff_eq] at c
      subst c
      exact k_binL_ok (T := k_TT l D tys A X fr lo M Q) hs g ok hl hst (fun x y vs' ev kk => by rw [ev]; exact tt_lsub hd kk) kn
    · cases hs
  case lmul =>
    simp only [k_step] at hs
    split at hs
    · rename_i c
      simp only [beq_iff_eq] at c
      subst c
      exact k_binL_ok (T := k_TT l D tys A X fr lo M Q) hs g ok hl hst (fun x y vs' ev kk => by rw [ev]; exact tt_lmul hd kk) kn
    · cases hs
  case lrem =>
    simp only [k_step] at hs
    split at hs
    · rename_i c
      simp only [beq_iff_eq] at c
      subst c
      split at hs
      · rename_i b st'
        split at hs
        · rename_i c
          refine k_binL_ok (T := k_TT l D tys A X fr lo M Q) (op := fun x y => x - x / y * y) hs g ok hl hst (fun x y vs' ev kk => ?_) kn
          rw [ev] at hst ⊢
          obtain ⟨y', v1, ey, e1, -⟩ := hst
          cases ey
          obtain ⟨y2, f1, f2⟩ := g.long4 (v := b) (by simpa using c)
          rw [e1] at f1
          cases f1
          exact tt_lrem f2 hd kk
        · cases hs
      · cases hs
    · cases hs
  case lushr =>
    simp only [k_step] at hs
    split at hs
    · rename_i c
      simp only [beq_iff_eq] at c
      subst c
      split at hs
      · rename_i b a st'
        split at hs
        · rename_i c
          simp only [Bool.and_eq_true] at c
          obtain ⟨y', v1, rfl, e1, x', v2, rfl, e2, e3⟩ := hst
          obtain ⟨x, f1⟩ := k_long g c.1
          rw [e2] at f1
          cases f1
          obtain ⟨y, rfl⟩ := k_vint g (by simpa [k_isI] using c.2) e1
          exact tt_lushr hd (k_push_ok (T := k_TT l D tys A X fr lo M Q) hs g ok hl e3 ⟨_, rfl⟩ kn)
        · cases hs
      · cases hs
    · cases hs
  case dup =>
    simp only [k_step] at hs
    split at hs
    · rename_i c
      simp only [beq_iff_eq] at c
      subst c
      split at hs
      · rename_i a st'
        split at hs
        · rename_i c
          cases hs
          obtain ⟨x, v1, rfl, e1, e2⟩ := hst
          obtain ⟨x', f1, f2⟩ := g.at_ (v := a) (k_one_9 c)
          rw [e1] at f1
          cases f1
          exact tt_dup (k_cat c f2) hd (kn.here (s := (S, pc + 1, L, a :: a :: st')) (List.mem_singleton.mpr rfl) g ok hl ⟨x, _, rfl, e1, x, _, rfl, e1, e2⟩)
        · cases hs
      · cases hs
    · cases hs
  case pop =>
    simp only [k_step] at hs
    split at hs
    · rename_i c
      simp only [beq_iff_eq] at c
      subst c
      split at hs
      · rename_i a st'
        split at hs
        · rename_i c
          cases hs
          obtain ⟨x, v1, rfl, e1, e2⟩ := hst
          obtain ⟨x', f1, f2⟩ := g.at_ (v := a) (k_one_9 c)
          rw [e1] at f1
          cases f1
          exact tt_pop (k_cat c f2) hd (kn.here (s := (S, pc + 1, L, st')) (List.mem_singleton.mpr rfl) g ok hl e2)
        · cases hs
      · cases hs
    · cases hs
  case dup_x1 =>
    simp only [k_step] at hs
    split at hs
    · rename_i c
      simp only [beq_iff_eq] at c
      subst c
      split at hs
      · rename_i a b st'
        split at hs
        · rename_i c
          simp only [Bool.and_eq_true] at c
          cases hs
          obtain ⟨x, v1, rfl, e1, y, v2, rfl, e2, e3⟩ := hst
          obtain ⟨x', f1, f2⟩ := g.at_ (v := a) (k_one_9 c.1)
          rw [e1] at f1
          cases f1
          obtain ⟨y', f3, f4⟩ := g.at_ (v := b) (k_one_9 c.2)
          rw [e2] at f3
          cases f3
          exact tt_dup_x1 (k_cat c.1 f2) (k_cat c.2 f4) hd (kn.here (s := (S, pc + 1, L, a :: b :: a :: st')) (List.mem_singleton.mpr rfl) g ok hl ⟨x, _, rfl, e1, y, _, rfl, e2, x, _, rfl, e1, e3⟩)
        · cases hs
      · cases hs
    · cases hs
  case dup2 =>
    simp only [k_step] at hs
    split at hs
    · rename_i c
      simp only [beq_iff_eq] at c
      subst c
      split at hs
      · rename_i a b st'
        split at hs
        · rename_i c
          simp only [Bool.and_eq_true] at c
          cases hs
          obtain ⟨x, v1, rfl, e1, y, v2, rfl, e2, e3⟩ := hst
          obtain ⟨x', f1, f2⟩ := g.at_ (v := a) (k_one_9 c.1)
          rw [e1] at f1
          cases f1
          obtain ⟨y', f3, f4⟩ := g.at_ (v := b) (k_one_9 c.2)
          rw [e2] at f3
          cases f3
          exact tt_dup2 (k_cat c.1 f2) (k_cat c.2 f4) hd (kn.here (s := (S, pc + 1, L, a :: b :: a :: b :: st')) (List.mem_singleton.mpr rfl) g ok hl ⟨x, _, rfl, e1, y, _, rfl, e2, x, _, rfl, e1, y, _, rfl, e2, e3⟩)
        · cases hs
      · cases hs
    · cases hs
  case goto off =>
    simp only [k_step] at hs
    split at hs
    · rename_i c
      simp only [Bool.and_eq_true, beq_iff_eq] at c
      obtain ⟨rfl, c⟩ := c
      cases hs
      exact tt_goto hd (k_tgt_ok c) (kn.here (s := (S, k_tgt pc off, L, st)) (List.mem_singleton.mpr rfl) g ok hl hst)
    · cases hs
  case if_icmp c off =>
    simp only [k_step] at hs
    split at hs
    · rename_i c1
      simp only [beq_iff_eq] at c1
      subst c1
      split at hs
      · rename_i b a st'
        obtain ⟨ka, kb⟩ := k_brn_k hs
        obtain ⟨y', v1, rfl, e1, x', v2, rfl, e2, e3⟩ := hst
        obtain ⟨x, rfl⟩ := k_vint g ka e2
        obtain ⟨y, rfl⟩ := k_vint g kb e1
        obtain ⟨q1, q2, q3⟩ := k_brn_ok (T := k_TT l D tys A X fr lo M Q) hs g ok hl e3 e2 e1 kn
        cases c
        · exact tt_icmp_eq hd q1 q2 q3
        · exact tt_icmp_ne hd q1 q2 (fun z => q3 (fun w => w z))
        · exact tt_icmp_lt hd q1 q2 q3
        · exact tt_icmp_ge hd q1 q2 q3
        · exact tt_icmp_gt hd q1 q2 q3
        · exact tt_icmp_le hd q1 q2 q3
      · cases hs
    · cases hs
  case ifCond c off =>
    simp only [k_step] at hs
    split at hs
    · rename_i c1
      simp only [beq_iff_eq] at c1
      subst c1
      split at hs
      · rename_i a st'
        obtain ⟨ka, kb⟩ := k_brn_k hs
        obtain ⟨x', v2, rfl, e2, e3⟩ := hst
        have haS : a ≠ S.1 := by
          intro q
          have := (List.getElem?_eq_some_iff.mp e2).1
          rw [q, g.1] at this
          omega
        rw [k_ty_new haS] at ka
        obtain ⟨x, rfl⟩ := k_vint g ka e2
        obtain ⟨q1, q2, q3⟩ := k_brn_ok (T := k_TT l D tys A X fr lo M Q) (x := x) (y := 0) hs (g.app (.int 0) (0, 0, 0) (k_vi (by decide) (by decide))) ok (hl.app _) (e3.app _) (k_ap _ e2) (g.lst _) (kn.app _)
        cases c
        · exact tt_if_eq hd q1 q2 q3
        · exact tt_if_ne hd q1 q2 (fun z => q3 (fun w => w z))
        · exact tt_if_lt hd q1 q2 q3
        · exact tt_if_ge hd q1 q2 q3
        · exact tt_if_gt hd q1 q2 q3
        · exact tt_if_le hd q1 q2 q3
      · cases hs
    · cases hs
  case ifnull off =>
    simp only [k_step] at hs
    split at hs
    · rename_i c
      simp only [Bool.and_eq_true, beq_iff_eq] at c
      obtain ⟨rfl, c⟩ := c
      split at hs
      · rename_i a st'
        obtain ⟨x', v2, rfl, e2, e3⟩ := hst
        split at hs
        · rename_i ca
          cases hs
          obtain ⟨y, f1, -⟩ := g.ref (v := a) (by simpa using ca)
          rw [e2] at f1
          cases f1
          exact tt_ifnull hd (kn.here (s := (S, pc + 3, L, st')) (List.mem_singleton.mpr rfl) g ok hl e3)
        · split at hs
          · rename_i ca
            cases hs
            rcases g.nul (v := a) (by simpa using ca) with f1 | ⟨y, f1, f2⟩
            · rw [e2] at f1
              cases f1
              exact tt_ifnullN hd (k_tgt_ok c) (kn.here (s := (S, k_tgt pc off, L, st')) List.mem_cons_self g ok hl e3)
            · rw [e2] at f1
              cases f1
              exact tt_ifnull hd (kn.here (s := (k_fact S a (2, (k_ty S a).2.1, 0), pc + 3, L, st')) (List.mem_cons_of_mem _ List.mem_cons_self) (g.fact e2 ⟨y, rfl, f2⟩) ok hl e3)
          · cases hs
      · cases hs
    · cases hs
  case ifnonnull off =>
    simp only [k_step] at hs
    split at hs
    · rename_i c
      simp only [Bool.and_eq_true, beq_iff_eq] at c
      obtain ⟨rfl, c⟩ := c
      split at hs
      · rename_i a st'
        obtain ⟨x', v2, rfl, e2, e3⟩ := hst
        split at hs
        · rename_i ca
          cases hs
          obtain ⟨y, f1, -⟩ := g.ref (v := a) (by simpa using ca)
          rw [e2] at f1
          cases f1
          exact tt_ifnonnull hd (k_tgt_ok c) (kn.here (s := (S, k_tgt pc off, L, st')) (List.mem_singleton.mpr rfl) g ok hl e3)
        · split at hs
          · rename_i ca
            cases hs
            rcases g.nul (v := a) (by simpa using ca) with f1 | ⟨y, f1, f2⟩
            · rw [e2] at f1
              cases f1
              exact tt_ifnonnullN hd (kn.here (s := (S, pc + 3, L, st')) (List.mem_cons_of_mem _ List.mem_cons_self) g ok hl e3)
            · rw [e2] at f1
              cases f1
              exact tt_ifnonnull hd (k_tgt_ok c) (kn.here (s := (k_fact S a (2, (k_ty S a).2.1, 0), k_tgt pc off, L, st')) List.mem_cons_self (g.fact e2 ⟨y, rfl, f2⟩) ok hl e3)
          · cases hs
      · cases hs
    · cases hs
  case aconst_null =>
    simp only [k_step] at hs
    split at hs
    · rename_i c
      simp only [beq_iff_eq] at c
      subst c
      exact tt_null hd (k_push_ok (T := k_TT l D tys A X fr lo M Q) hs g ok hl hst (Or.inl rfl) kn)
    · cases hs
  case getfield ix =>
    simp only [k_step] at hs
    split at hs
    · rename_i c
      simp only [beq_iff_eq] at c
      subst c
      exact k_get_ok hR hd hs g ok hl hst kn
    · cases hs
  case putfield ix =>
    simp only [k_step] at hs
    split at hs
    · rename_i c
      simp only [beq_iff_eq] at c
      subst c
      exact k_put_ok hR hd hs g ok hl hst kn
    · cases hs
  case iaload =>
    simp only [k_step] at hs
    split at hs
    · rename_i c
      simp only [beq_iff_eq] at c
      subst c
      exact k_ald_ok hT (Or.inl ⟨fun t ht => by simpa using ht, hd⟩) hs g ok hl hst kn
    · cases hs
  case baload =>
    simp only [k_step] at hs
    split at hs
    · rename_i c
      simp only [beq_iff_eq] at c
      subst c
      exact k_ald_ok hT (Or.inr ⟨fun t ht => by simpa using ht, hd⟩) hs g ok hl hst kn
    · cases hs
  case aaload =>
    simp only [k_step] at hs
    split at hs
    · rename_i c
      simp only [beq_iff_eq] at c
      subst c
      exact k_aald_ok hT hd hs g ok hl hst kn
    · cases hs
  case iastore =>
    simp only [k_step] at hs
    split at hs
    · rename_i c
      simp only [beq_iff_eq] at c
      subst c
      exact k_ast_ok hT (Or.inl ⟨rfl, hd⟩) hs g ok hl hst kn
    · cases hs
  case bastore =>
    simp only [k_step] at hs
    split at hs
    · rename_i c
      simp only [beq_iff_eq] at c
      subst c
      exact k_ast_ok hT (Or.inr ⟨rfl, rfl, hd⟩) hs g ok hl hst kn
    · cases hs
  case arraylength =>
    simp only [k_step] at hs
    split at hs
    · rename_i c
      simp only [beq_iff_eq] at c
      subst c
      exact k_alen_ok hT hd hs g ok hl hst kn
    · cases hs
  case tableswitch dflt lo9 hi9 offs =>
    simp only [k_step] at hs
    split at hs
    · rename_i c
      have c : hi9 + 1 = lo9 + (offs.size : Int) := by simpa using c
      obtain ⟨x, vs', rfl, q1, q2, q3⟩ := k_sw_ok (T := k_TT l D tys A X fr lo M Q) hs g ok hl hst kn
      by_cases hx : x.toInt < lo9 ∨ hi9 < x.toInt
      · exact tt_tableOut hd hx q1 q2
      · have hj : (x.toInt - lo9).toNat < offs.size := by omega
        have ho : offs[(x.toInt - lo9).toNat]? = some offs[(x.toInt - lo9).toNat] := Array.getElem?_eq_getElem hj
        have hm := k_tab_in lo9 0 offs.toList (x.toInt - lo9).toNat (offs[(x.toInt - lo9).toNat]) (by rw [Array.getElem?_toList]; exact ho)
        rw [show lo9 + ((0 + (x.toInt - lo9).toNat : Nat) : Int) = x.toInt by omega] at hm
        obtain ⟨p1, p2⟩ := q3 _ hm
        exact tt_tableIn hd (by omega) (by omega) ho p1 p2
    · cases hs
  case lookupswitch dflt ps =>
    simp only [k_step] at hs
    split at hs
    · rename_i c
      obtain ⟨x, vs', rfl, q1, q2, q3⟩ := k_sw_ok (T := k_TT l D tys A X fr lo M Q) hs g ok hl hst kn
      rcases k_look_in x.toInt dflt ps.toList with hm | hm
      · obtain ⟨p1, p2⟩ := q3 _ hm
        exact tt_lookup hd c rfl p1 p2
      · exact tt_lookup hd c hm q1 q2
    · cases hs
  all_goals (simp only [k_step] at hs; exact absurd hs (by simp))
end
