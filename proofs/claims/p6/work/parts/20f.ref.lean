/-! the reference: reading. Its object is a list of fields of which some are known -/
section
variable {l : Launch} {D : va_G} {tys : List (ClassId × FieldType)} {A : Nat → Prop} {X : State → Prop} {fr lo : Nat} {M : ch_M} {Q : Option Value → ch_H → Prop} {pc : Nat} {lv : List (Nat × Value)} {st : List Value} {h : ch_H} {cA : Nat → ClassId}
theorem w_putF {own ix ci k a : Nat} {fs : List Value} {v : Value} (hR : pg_R own = M.1.cls) (hx : k_fd (pg_fl own) ix = some (ci, k)) (hc : ci < 11 ∧ k < ch_N ci) (hfin : (ch_T ci k).2.2.2 = false) (hn : narrow (ch_ty ci k) v = v ∧ fits (ch_ty ci k) v = true) (ha : h a = some (.inr (ci, fs))) (hlen : k < fs.length) (hd : decode M.2.1 pc = .ok (.putfield ix, 3)) (kk : ∀ (h1 : ch_H) (fs1 : List Value), fs1.length = fs.length → fs1[k]? = some v → (∀ j, j ≠ k → fs1[j]? = fs[j]?) → h1 a = some (.inr (ci, fs1)) → (∀ q, q ≠ a → h1 q = h q) → ww l D tys A X fr lo M Q (pc + 3) lv st h1) : ww l D tys A X fr lo M Q pc lv (v :: .ref a :: st) h :=
  w_put (fs.set k v) rfl hR hx hc hfin hn ha hlen hd (fun h1 e1 e2 => kk h1 (fs.set k v) (List.length_set ..) (by rw [List.getElem?_set_self hlen]) (fun j hj => List.getElem?_set_ne (Ne.symm hj)) e1 e2)
end
/-- the reference's object as far as reading goes: text, begins, ends, at, fault -/
def md (h : ch_H) (m : Nat) (fs : List Value) (tx : Nat) (bg en at0 fl0 : Int32) : Prop := h m = some (.inr (10, fs)) ∧ fs.length = 47 ∧ fs[5]? = some (.ref tx) ∧ fs[8]? = some (.int bg) ∧ fs[9]? = some (.int en) ∧ fs[10]? = some (.int at0) ∧ fs[11]? = some (.int fl0)
section
variable {l : Launch} {D : va_G} {tys : List (ClassId × FieldType)} {A : Nat → Prop} {X : State → Prop} {fr lo : Nat} {Q : Option Value → ch_H → Prop} {cA : Nat → ClassId} {h : ch_H} {m tx : Nat} {fs : List Value} {g : Nat → Int32} {bg en at0 fl0 : Int32}
/-- the reference's signed bytes are the bytes of a text -/
def sb (g f : Nat → Int32) (bg en : Nat) : Prop := ∀ n, n < en → ((g (bg + n)) &&& 255).toInt = (f n).toInt ∧ 0 ≤ (f n).toInt ∧ (f n).toInt ≤ 255 ∧ ((g (bg + n)).toInt = (f n).toInt ∨ 128 ≤ (f n).toInt ∧ (g (bg + n)).toInt = (f n).toInt - 256)
theorem sb_and {x y z v : Int32} (hx : x.toInt = y.toInt) (hz : z.toInt = 255) (e : v = x &&& z) : v.toInt = (y &&& 255).toInt := by
  have hz2 : z = 255 := (kn_eq _ _).mpr (by rw [hz]; rfl)
  have hx2 : x = y := (kn_eq _ _).mpr hx
  subst hz2 hx2 e
  rfl
theorem r_fails (H : md h m fs tx bg en at0 fl0) (hq : ∀ (h1 : ch_H) (fs1 : List Value) (fl1 v : Int32), md h1 m fs1 tx bg en at0 fl1 → v.toInt = 0 → (fl0.toInt = -1 ∧ fl1.toInt = at0.toInt ∨ ¬ fl0.toInt = -1 ∧ fl1.toInt = fl0.toInt) → (∀ j, j ≠ 11 → fs1[j]? = fs[j]?) → (∀ q, q ≠ m → h1 q = h q) → Q (some (.int v)) h1) : ww l D tys A X fr lo mX11_fails Q 0 [(0, .ref m)] [] h := by
  obtain ⟨c_m, fl, f5, f8, f9, f10, f11⟩ := H
  refine w_aload_n (List.Mem.head _) (tX11_fails_0_ok (0, .aload_n 0, 1) (List.mem_of_getElem? (i := 0) rfl)) ?_
  refine w_get (own := 16) rfl rfl (by decide) c_m f11 (tX11_fails_0_ok (1, .getfield 118, 3) (List.mem_of_getElem? (i := 1) rfl)) ?_
  refine w_iconst (by decide) (tX11_fails_0_ok (4, .iconst (-1), 1) (List.mem_of_getElem? (i := 2) rfl)) (fun v1 e2 => ?_)
  refine w_icmp_ne (tgt := 16) (tX11_fails_0_ok (5, .if_icmp .ne 11, 3) (List.mem_of_getElem? (i := 3) rfl)) rfl (fun b3 => ?_) (fun b3 => ?_)
  · refine w_iconst (by decide) (tX11_fails_0_ok (16, .iconst 0, 1) (List.mem_of_getElem? (i := 8) rfl)) (fun v4 e5 => ?_)
    refine w_zret rfl (by omega) (by omega) (tX11_fails_0_ok (17, .ireturn, 1) (List.mem_of_getElem? (i := 9) rfl)) ?_
    exact hq h fs fl0 v4 ⟨c_m, fl, f5, f8, f9, f10, f11⟩ (by omega) (by omega) (fun j hj => rfl) (fun q hq => rfl)
  · refine w_aload_n (List.Mem.head _) (tX11_fails_0_ok (8, .aload_n 0, 1) (List.mem_of_getElem? (i := 4) rfl)) ?_
    refine w_aload_n (List.Mem.head _) (tX11_fails_0_ok (9, .aload_n 0, 1) (List.mem_of_getElem? (i := 5) rfl)) ?_
    refine w_get (own := 16) rfl rfl (by decide) c_m f10 (tX11_fails_0_ok (10, .getfield 109, 3) (List.mem_of_getElem? (i := 6) rfl)) ?_
    refine w_putF (own := 16) (ci := 10) (k := 11) rfl rfl (by decide) rfl ⟨rfl, rfl⟩ c_m (by rw [fl]; decide) (tX11_fails_0_ok (13, .putfield 118, 3) (List.mem_of_getElem? (i := 7) rfl)) (fun h6 fs9 l10 k11 j12 c7 o8 => ?_)
    rw [fl] at l10
    have f13 := (j12 5 (by decide)).trans f5
    have f14 := (j12 8 (by decide)).trans f8
    have f15 := (j12 9 (by decide)).trans f9
    have f16 := (j12 10 (by decide)).trans f10
    refine w_iconst (by decide) (tX11_fails_0_ok (16, .iconst 0, 1) (List.mem_of_getElem? (i := 8) rfl)) (fun v17 e18 => ?_)
    refine w_zret rfl (by omega) (by omega) (tX11_fails_0_ok (17, .ireturn, 1) (List.mem_of_getElem? (i := 9) rfl)) ?_
    exact hq h6 fs9 at0 v17 ⟨c7, l10, f13, f14, f15, f16, k11⟩ (by omega) (by omega) (fun j hj => j12 j hj) (fun q hq => o8 q hq)
theorem r_isDigit (hT : k_tys tys cA) {f : Nat → Int32} {n : Nat} (n_tx_m : tx ≠ m) (c_x : h tx = some (.inl (cA 2, n, .inl g))) (hs : sb g f bg.toInt.toNat en.toInt.toNat) (hb : 0 ≤ bg.toInt ∧ bg.toInt ≤ 480 ∧ 0 ≤ en.toInt ∧ en.toInt ≤ 160 ∧ bg.toInt + en.toInt ≤ n) (ha : 0 ≤ at0.toInt ∧ at0.toInt ≤ en.toInt) (H : md h m fs tx bg en at0 fl0) (hq : ∀ v : Int32, (sp_isd f en.toInt.toNat at0.toInt.toNat ∧ v.toInt = 1 ∨ ¬ sp_isd f en.toInt.toNat at0.toInt.toNat ∧ v.toInt = 0) → Q (some (.int v)) h) : ww l D tys A X fr lo mX11_isDigit Q 0 [(0, .ref m)] [] h := by
  obtain ⟨c_m, fl, f5, f8, f9, f10, f11⟩ := H
  refine w_aload_n (List.Mem.head _) (tX11_isDigit_0_ok (0, .aload_n 0, 1) (List.mem_of_getElem? (i := 0) rfl)) ?_
  refine w_get (own := 16) rfl rfl (by decide) c_m f10 (tX11_isDigit_0_ok (1, .getfield 109, 3) (List.mem_of_getElem? (i := 1) rfl)) ?_
  refine w_aload_n (List.Mem.head _) (tX11_isDigit_0_ok (4, .aload_n 0, 1) (List.mem_of_getElem? (i := 2) rfl)) ?_
  refine w_get (own := 16) rfl rfl (by decide) c_m f9 (tX11_isDigit_0_ok (5, .getfield 112, 3) (List.mem_of_getElem? (i := 3) rfl)) ?_
  refine w_icmp_ge (tgt := 53) (tX11_isDigit_0_ok (8, .if_icmp .ge 45, 3) (List.mem_of_getElem? (i := 4) rfl)) rfl (fun b1 => ?_) (fun b1 => ?_)
  · refine w_iconst (by decide) (tX11_isDigit_0_ok (53, .iconst 0, 1) (List.mem_of_getElem? (i := 27) rfl)) (fun v2 e3 => ?_)
    refine w_zret rfl (by omega) (by omega) (tX11_isDigit_0_ok (54, .ireturn, 1) (List.mem_of_getElem? (i := 28) rfl)) ?_
    exact hq v2 (by omega)
  · refine w_aload_n (List.Mem.head _) (tX11_isDigit_0_ok (11, .aload_n 0, 1) (List.mem_of_getElem? (i := 5) rfl)) ?_
    refine w_get (own := 16) rfl rfl (by decide) c_m f5 (tX11_isDigit_0_ok (12, .getfield 23, 3) (List.mem_of_getElem? (i := 6) rfl)) ?_
    refine w_aload_n (List.Mem.head _) (tX11_isDigit_0_ok (15, .aload_n 0, 1) (List.mem_of_getElem? (i := 7) rfl)) ?_
    refine w_get (own := 16) rfl rfl (by decide) c_m f8 (tX11_isDigit_0_ok (16, .getfield 115, 3) (List.mem_of_getElem? (i := 8) rfl)) ?_
    refine w_aload_n (List.Mem.head _) (tX11_isDigit_0_ok (19, .aload_n 0, 1) (List.mem_of_getElem? (i := 9) rfl)) ?_
    refine w_get (own := 16) rfl rfl (by decide) c_m f10 (tX11_isDigit_0_ok (20, .getfield 109, 3) (List.mem_of_getElem? (i := 10) rfl)) ?_
    refine w_iadd (by omega) (by omega) (tX11_isDigit_0_ok (23, .iadd, 1) (List.mem_of_getElem? (i := 11) rfl)) (fun v4 e5 => ?_)
    refine w_bald hT c_x (by omega) (by omega) (tX11_isDigit_0_ok (24, .baload, 1) (List.mem_of_getElem? (i := 12) rfl)) (fun v6 e7 => ?_)
    have s8 := hs at0.toInt.toNat (by omega)
    have i9 : bg.toInt.toNat + at0.toInt.toNat = v4.toInt.toNat := by omega
    rw [i9] at s8
    refine w_bipush (by decide) (tX11_isDigit_0_ok (25, .bipush 48, 2) (List.mem_of_getElem? (i := 13) rfl)) (fun v10 e11 => ?_)
    refine w_icmp_lt (tgt := 53) (tX11_isDigit_0_ok (27, .if_icmp .lt 26, 3) (List.mem_of_getElem? (i := 14) rfl)) rfl (fun b12 => ?_) (fun b12 => ?_)
    · refine w_iconst (by decide) (tX11_isDigit_0_ok (53, .iconst 0, 1) (List.mem_of_getElem? (i := 27) rfl)) (fun v13 e14 => ?_)
      refine w_zret rfl (by omega) (by omega) (tX11_isDigit_0_ok (54, .ireturn, 1) (List.mem_of_getElem? (i := 28) rfl)) ?_
      exact hq v13 (by omega)
    · refine w_aload_n (List.Mem.head _) (tX11_isDigit_0_ok (30, .aload_n 0, 1) (List.mem_of_getElem? (i := 15) rfl)) ?_
      refine w_get (own := 16) rfl rfl (by decide) c_m f5 (tX11_isDigit_0_ok (31, .getfield 23, 3) (List.mem_of_getElem? (i := 16) rfl)) ?_
      refine w_aload_n (List.Mem.head _) (tX11_isDigit_0_ok (34, .aload_n 0, 1) (List.mem_of_getElem? (i := 17) rfl)) ?_
      refine w_get (own := 16) rfl rfl (by decide) c_m f8 (tX11_isDigit_0_ok (35, .getfield 115, 3) (List.mem_of_getElem? (i := 18) rfl)) ?_
      refine w_aload_n (List.Mem.head _) (tX11_isDigit_0_ok (38, .aload_n 0, 1) (List.mem_of_getElem? (i := 19) rfl)) ?_
      refine w_get (own := 16) rfl rfl (by decide) c_m f10 (tX11_isDigit_0_ok (39, .getfield 109, 3) (List.mem_of_getElem? (i := 20) rfl)) ?_
      refine w_iadd (by omega) (by omega) (tX11_isDigit_0_ok (42, .iadd, 1) (List.mem_of_getElem? (i := 21) rfl)) (fun v15 e16 => ?_)
      refine w_bald hT c_x (by omega) (by omega) (tX11_isDigit_0_ok (43, .baload, 1) (List.mem_of_getElem? (i := 22) rfl)) (fun v17 e18 => ?_)
      have i20 : v15.toInt.toNat = v4.toInt.toNat := by omega
      rw [i20] at e18
      refine w_bipush (by decide) (tX11_isDigit_0_ok (44, .bipush 57, 2) (List.mem_of_getElem? (i := 23) rfl)) (fun v21 e22 => ?_)
      refine w_icmp_gt (tgt := 53) (tX11_isDigit_0_ok (46, .if_icmp .gt 7, 3) (List.mem_of_getElem? (i := 24) rfl)) rfl (fun b23 => ?_) (fun b23 => ?_)
      · refine w_iconst (by decide) (tX11_isDigit_0_ok (53, .iconst 0, 1) (List.mem_of_getElem? (i := 27) rfl)) (fun v24 e25 => ?_)
        refine w_zret rfl (by omega) (by omega) (tX11_isDigit_0_ok (54, .ireturn, 1) (List.mem_of_getElem? (i := 28) rfl)) ?_
        exact hq v24 (by omega)
      · refine w_iconst (by decide) (tX11_isDigit_0_ok (49, .iconst 1, 1) (List.mem_of_getElem? (i := 25) rfl)) (fun v26 e27 => ?_)
        refine w_goto (tgt := 54) (tX11_isDigit_0_ok (50, .goto 4, 3) (List.mem_of_getElem? (i := 26) rfl)) rfl ?_
        refine w_zret rfl (by omega) (by omega) (tX11_isDigit_0_ok (54, .ireturn, 1) (List.mem_of_getElem? (i := 28) rfl)) ?_
        exact hq v26 (by omega)
theorem r_look0 (hT : k_tys tys cA) {f : Nat → Int32} {n : Nat} (n_tx_m : tx ≠ m) (hs : sb g f bg.toInt.toNat en.toInt.toNat) (hb : 0 ≤ bg.toInt ∧ bg.toInt ≤ 480 ∧ 0 ≤ en.toInt ∧ en.toInt ≤ 160 ∧ bg.toInt + en.toInt ≤ n) : ∀ (k : Nat) (at0 : Int32) (h : ch_H) (fs : List Value), h tx = some (.inl (cA 2, n, .inl g)) → 0 ≤ at0.toInt ∧ at0.toInt ≤ en.toInt → en.toInt - at0.toInt ≤ k → md h m fs tx bg en at0 fl0 →
    (∀ (h1 : ch_H) (fs1 : List Value) (at1 v : Int32), md h1 m fs1 tx bg en at1 fl0 → at1.toInt.toNat = sp_sk f en.toInt.toNat at0.toInt.toNat ∧ 0 ≤ at1.toInt ∧ at1.toInt ≤ en.toInt → (at1.toInt < en.toInt ∧ v.toInt = (f at1.toInt.toNat).toInt ∧ 0 ≤ v.toInt ∧ v.toInt ≤ 255 ∨ at1.toInt = en.toInt ∧ v.toInt = -1) → (∀ j, j ≠ 10 → fs1[j]? = fs[j]?) → (∀ q, q ≠ m → h1 q = h q) → Q (some (.int v)) h1) → ww l D tys A X fr lo mX11_look Q 0 [(0, .ref m)] [] h := by
  intro k
  induction k using Nat.strongRecOn with
  | ind k ih =>
    intro at0 h fs c_x ha hk H hq
    obtain ⟨c_m, fl, f5, f8, f9, f10, f11⟩ := H
    refine w_aload_n (List.Mem.head _) (tX11_look_0_ok (0, .aload_n 0, 1) (List.mem_of_getElem? (i := 0) rfl)) ?_
    refine w_get (own := 16) rfl rfl (by decide) c_m f10 (tX11_look_0_ok (1, .getfield 109, 3) (List.mem_of_getElem? (i := 1) rfl)) ?_
    refine w_aload_n (List.Mem.head _) (tX11_look_0_ok (4, .aload_n 0, 1) (List.mem_of_getElem? (i := 2) rfl)) ?_
    refine w_get (own := 16) rfl rfl (by decide) c_m f9 (tX11_look_0_ok (5, .getfield 112, 3) (List.mem_of_getElem? (i := 3) rfl)) ?_
    refine w_icmp_ge (tgt := 43) (tX11_look_0_ok (8, .if_icmp .ge 35, 3) (List.mem_of_getElem? (i := 4) rfl)) rfl (fun b1 => ?_) (fun b1 => ?_)
    · refine w_aload_n (List.Mem.head _) (tX11_look_0_ok (43, .aload_n 0, 1) (List.mem_of_getElem? (i := 22) rfl)) ?_
      refine w_get (own := 16) rfl rfl (by decide) c_m f10 (tX11_look_0_ok (44, .getfield 109, 3) (List.mem_of_getElem? (i := 23) rfl)) ?_
      refine w_aload_n (List.Mem.head _) (tX11_look_0_ok (47, .aload_n 0, 1) (List.mem_of_getElem? (i := 24) rfl)) ?_
      refine w_get (own := 16) rfl rfl (by decide) c_m f9 (tX11_look_0_ok (48, .getfield 112, 3) (List.mem_of_getElem? (i := 25) rfl)) ?_
      refine w_icmp_ge (tgt := 75) (tX11_look_0_ok (51, .if_icmp .ge 24, 3) (List.mem_of_getElem? (i := 26) rfl)) rfl (fun b2 => ?_) (fun b2 => ?_)
      · refine w_iconst (by decide) (tX11_look_0_ok (75, .iconst (-1), 1) (List.mem_of_getElem? (i := 38) rfl)) (fun v3 e4 => ?_)
        refine w_iret rfl (tX11_look_0_ok (76, .ireturn, 1) (List.mem_of_getElem? (i := 39) rfl)) ?_
        refine hq h fs at0 v3 ⟨c_m, fl, f5, f8, f9, f10, f11⟩ ⟨(sp_sk_n (fun a2 => by omega)).symm, by omega⟩ (by omega) (fun j hj => rfl) (fun q hq => rfl)
      · refine w_aload_n (List.Mem.head _) (tX11_look_0_ok (54, .aload_n 0, 1) (List.mem_of_getElem? (i := 27) rfl)) ?_
        refine w_get (own := 16) rfl rfl (by decide) c_m f5 (tX11_look_0_ok (55, .getfield 23, 3) (List.mem_of_getElem? (i := 28) rfl)) ?_
        refine w_aload_n (List.Mem.head _) (tX11_look_0_ok (58, .aload_n 0, 1) (List.mem_of_getElem? (i := 29) rfl)) ?_
        refine w_get (own := 16) rfl rfl (by decide) c_m f8 (tX11_look_0_ok (59, .getfield 115, 3) (List.mem_of_getElem? (i := 30) rfl)) ?_
        refine w_aload_n (List.Mem.head _) (tX11_look_0_ok (62, .aload_n 0, 1) (List.mem_of_getElem? (i := 31) rfl)) ?_
        refine w_get (own := 16) rfl rfl (by decide) c_m f10 (tX11_look_0_ok (63, .getfield 109, 3) (List.mem_of_getElem? (i := 32) rfl)) ?_
        refine w_iadd (by omega) (by omega) (tX11_look_0_ok (66, .iadd, 1) (List.mem_of_getElem? (i := 33) rfl)) (fun v5 e6 => ?_)
        refine w_bald hT c_x (by omega) (by omega) (tX11_look_0_ok (67, .baload, 1) (List.mem_of_getElem? (i := 34) rfl)) (fun v7 e8 => ?_)
        have s9 := hs at0.toInt.toNat (by omega)
        have i10 : bg.toInt.toNat + at0.toInt.toNat = v5.toInt.toNat := by omega
        rw [i10] at s9
        refine w_sipush (by decide) (tX11_look_0_ok (68, .sipush 255, 3) (List.mem_of_getElem? (i := 35) rfl)) (fun v11 e12 => ?_)
        refine w_iand (tX11_look_0_ok (71, .iand, 1) (List.mem_of_getElem? (i := 36) rfl)) (fun v13 e14 => ?_)
        have d15 := sb_and e8 (by omega) e14
        refine w_goto (tgt := 76) (tX11_look_0_ok (72, .goto 4, 3) (List.mem_of_getElem? (i := 37) rfl)) rfl ?_
        refine w_iret rfl (tX11_look_0_ok (76, .ireturn, 1) (List.mem_of_getElem? (i := 39) rfl)) ?_
        refine hq h fs at0 v13 ⟨c_m, fl, f5, f8, f9, f10, f11⟩ ⟨(sp_sk_n (fun a2 => by omega)).symm, by omega⟩ (by omega) (fun j hj => rfl) (fun q hq => rfl)
    · refine w_aload_n (List.Mem.head _) (tX11_look_0_ok (11, .aload_n 0, 1) (List.mem_of_getElem? (i := 5) rfl)) ?_
      refine w_get (own := 16) rfl rfl (by decide) c_m f5 (tX11_look_0_ok (12, .getfield 23, 3) (List.mem_of_getElem? (i := 6) rfl)) ?_
      refine w_aload_n (List.Mem.head _) (tX11_look_0_ok (15, .aload_n 0, 1) (List.mem_of_getElem? (i := 7) rfl)) ?_
      refine w_get (own := 16) rfl rfl (by decide) c_m f8 (tX11_look_0_ok (16, .getfield 115, 3) (List.mem_of_getElem? (i := 8) rfl)) ?_
      refine w_aload_n (List.Mem.head _) (tX11_look_0_ok (19, .aload_n 0, 1) (List.mem_of_getElem? (i := 9) rfl)) ?_
      refine w_get (own := 16) rfl rfl (by decide) c_m f10 (tX11_look_0_ok (20, .getfield 109, 3) (List.mem_of_getElem? (i := 10) rfl)) ?_
      refine w_iadd (by omega) (by omega) (tX11_look_0_ok (23, .iadd, 1) (List.mem_of_getElem? (i := 11) rfl)) (fun v16 e17 => ?_)
      refine w_bald hT c_x (by omega) (by omega) (tX11_look_0_ok (24, .baload, 1) (List.mem_of_getElem? (i := 12) rfl)) (fun v18 e19 => ?_)
      have s20 := hs at0.toInt.toNat (by omega)
      have i21 : bg.toInt.toNat + at0.toInt.toNat = v16.toInt.toNat := by omega
      rw [i21] at s20
      refine w_bipush (by decide) (tX11_look_0_ok (25, .bipush 32, 2) (List.mem_of_getElem? (i := 13) rfl)) (fun v22 e23 => ?_)
      refine w_icmp_ne (tgt := 43) (tX11_look_0_ok (27, .if_icmp .ne 16, 3) (List.mem_of_getElem? (i := 14) rfl)) rfl (fun b24 => ?_) (fun b24 => ?_)
      · refine w_aload_n (List.Mem.head _) (tX11_look_0_ok (43, .aload_n 0, 1) (List.mem_of_getElem? (i := 22) rfl)) ?_
        refine w_get (own := 16) rfl rfl (by decide) c_m f10 (tX11_look_0_ok (44, .getfield 109, 3) (List.mem_of_getElem? (i := 23) rfl)) ?_
        refine w_aload_n (List.Mem.head _) (tX11_look_0_ok (47, .aload_n 0, 1) (List.mem_of_getElem? (i := 24) rfl)) ?_
        refine w_get (own := 16) rfl rfl (by decide) c_m f9 (tX11_look_0_ok (48, .getfield 112, 3) (List.mem_of_getElem? (i := 25) rfl)) ?_
        refine w_icmp_ge (tgt := 75) (tX11_look_0_ok (51, .if_icmp .ge 24, 3) (List.mem_of_getElem? (i := 26) rfl)) rfl (fun b25 => ?_) (fun b25 => ?_)
        · refine w_iconst (by decide) (tX11_look_0_ok (75, .iconst (-1), 1) (List.mem_of_getElem? (i := 38) rfl)) (fun v26 e27 => ?_)
          refine w_iret rfl (tX11_look_0_ok (76, .ireturn, 1) (List.mem_of_getElem? (i := 39) rfl)) ?_
          refine hq h fs at0 v26 ⟨c_m, fl, f5, f8, f9, f10, f11⟩ ⟨(sp_sk_n (fun a2 => by omega)).symm, by omega⟩ (by omega) (fun j hj => rfl) (fun q hq => rfl)
        · refine w_aload_n (List.Mem.head _) (tX11_look_0_ok (54, .aload_n 0, 1) (List.mem_of_getElem? (i := 27) rfl)) ?_
          refine w_get (own := 16) rfl rfl (by decide) c_m f5 (tX11_look_0_ok (55, .getfield 23, 3) (List.mem_of_getElem? (i := 28) rfl)) ?_
          refine w_aload_n (List.Mem.head _) (tX11_look_0_ok (58, .aload_n 0, 1) (List.mem_of_getElem? (i := 29) rfl)) ?_
          refine w_get (own := 16) rfl rfl (by decide) c_m f8 (tX11_look_0_ok (59, .getfield 115, 3) (List.mem_of_getElem? (i := 30) rfl)) ?_
          refine w_aload_n (List.Mem.head _) (tX11_look_0_ok (62, .aload_n 0, 1) (List.mem_of_getElem? (i := 31) rfl)) ?_
          refine w_get (own := 16) rfl rfl (by decide) c_m f10 (tX11_look_0_ok (63, .getfield 109, 3) (List.mem_of_getElem? (i := 32) rfl)) ?_
          refine w_iadd (by omega) (by omega) (tX11_look_0_ok (66, .iadd, 1) (List.mem_of_getElem? (i := 33) rfl)) (fun v28 e29 => ?_)
          refine w_bald hT c_x (by omega) (by omega) (tX11_look_0_ok (67, .baload, 1) (List.mem_of_getElem? (i := 34) rfl)) (fun v30 e31 => ?_)
          have i33 : v28.toInt.toNat = v16.toInt.toNat := by omega
          rw [i33] at e31
          refine w_sipush (by decide) (tX11_look_0_ok (68, .sipush 255, 3) (List.mem_of_getElem? (i := 35) rfl)) (fun v34 e35 => ?_)
          refine w_iand (tX11_look_0_ok (71, .iand, 1) (List.mem_of_getElem? (i := 36) rfl)) (fun v36 e37 => ?_)
          have d38 := sb_and e31 (by omega) e37
          refine w_goto (tgt := 76) (tX11_look_0_ok (72, .goto 4, 3) (List.mem_of_getElem? (i := 37) rfl)) rfl ?_
          refine w_iret rfl (tX11_look_0_ok (76, .ireturn, 1) (List.mem_of_getElem? (i := 39) rfl)) ?_
          refine hq h fs at0 v36 ⟨c_m, fl, f5, f8, f9, f10, f11⟩ ⟨(sp_sk_n (fun a2 => by omega)).symm, by omega⟩ (by omega) (fun j hj => rfl) (fun q hq => rfl)
      · refine w_aload_n (List.Mem.head _) (tX11_look_0_ok (30, .aload_n 0, 1) (List.mem_of_getElem? (i := 15) rfl)) ?_
        refine w_dup rfl (tX11_look_0_ok (31, .dup, 1) (List.mem_of_getElem? (i := 16) rfl)) ?_
        refine w_get (own := 16) rfl rfl (by decide) c_m f10 (tX11_look_0_ok (32, .getfield 109, 3) (List.mem_of_getElem? (i := 17) rfl)) ?_
        refine w_iconst (by decide) (tX11_look_0_ok (35, .iconst 1, 1) (List.mem_of_getElem? (i := 18) rfl)) (fun v39 e40 => ?_)
        refine w_iadd (by omega) (by omega) (tX11_look_0_ok (36, .iadd, 1) (List.mem_of_getElem? (i := 19) rfl)) (fun v41 e42 => ?_)
        refine w_putF (own := 16) (ci := 10) (k := 10) rfl rfl (by decide) rfl ⟨rfl, rfl⟩ c_m (by rw [fl]; decide) (tX11_look_0_ok (37, .putfield 109, 3) (List.mem_of_getElem? (i := 20) rfl)) (fun h43 fs46 l47 k48 j49 c44 o45 => ?_)
        rw [fl] at l47
        have f50 := (j49 5 (by decide)).trans f5
        have f51 := (j49 8 (by decide)).trans f8
        have f52 := (j49 9 (by decide)).trans f9
        have f53 := (j49 11 (by decide)).trans f11
        have c54 := (o45 tx n_tx_m).trans c_x
        refine w_goto (tgt := 0) (tX11_look_0_ok (40, .goto (-40), 3) (List.mem_of_getElem? (i := 21) rfl)) rfl ?_
        have a1 : v41.toInt.toNat = at0.toInt.toNat + 1 := by omega
        refine ih (k - 1) (by omega) v41 h43 fs46 c54 (by omega) (by omega) ⟨c44, l47, f50, f51, f52, k48, f53⟩ (fun h1 fs1 at1 v p1 p2 p3 p4 p5 => hq h1 fs1 at1 v p1 ?_ p3 (fun j hj => (p4 j hj).trans (j49 j hj)) (fun q hq => (p5 q hq).trans (o45 q hq)))
        rw [p2.1, a1]
        exact ⟨(sp_sk_y (by omega) (by omega)).symm, p2.2⟩
end
/-- the reference as it reads a text f -/
def rm (cA : Nat → ClassId) (h : ch_H) (m : Nat) (fs : List Value) (tx n : Nat) (g f : Nat → Int32) (bg en at0 fl0 dp : Int32) : Prop := md h m fs tx bg en at0 fl0 ∧ fs[12]? = some (.int dp) ∧ tx ≠ m ∧ h tx = some (.inl (cA 2, n, .inl g)) ∧ sb g f bg.toInt.toNat en.toInt.toNat ∧ (0 ≤ bg.toInt ∧ bg.toInt ≤ 480 ∧ 0 ≤ en.toInt ∧ en.toInt ≤ 160 ∧ bg.toInt + en.toInt ≤ n) ∧ 0 ≤ at0.toInt ∧ at0.toInt ≤ en.toInt
section
variable {l : Launch} {D : va_G} {tys : List (ClassId × FieldType)} {A : Nat → Prop} {X : State → Prop} {fr lo : Nat} {Q : Option Value → ch_H → Prop} {cA : Nat → ClassId} {h : ch_H} {m tx n : Nat} {fs : List Value} {g f : Nat → Int32} {bg en at0 fl0 dp : Int32}
theorem r_look (hT : k_tys tys cA) (H : rm cA h m fs tx n g f bg en at0 fl0 dp) (hq : ∀ (h1 : ch_H) (fs1 : List Value) (at1 v : Int32), rm cA h1 m fs1 tx n g f bg en at1 fl0 dp → at1.toInt.toNat = sp_sk f en.toInt.toNat at0.toInt.toNat → (v.toInt = sp_sg f en.toInt.toNat (sp_sk f en.toInt.toNat at0.toInt.toNat) ∧ 0 ≤ v.toInt ∧ v.toInt ≤ 255 ∧ at1.toInt < en.toInt ∨ v.toInt = -1 ∧ sp_sg f en.toInt.toNat (sp_sk f en.toInt.toNat at0.toInt.toNat) = 0 ∧ at1.toInt = en.toInt) → (∀ j, j ≠ 10 ∧ j ≠ 11 ∧ j ≠ 12 → fs1[j]? = fs[j]?) → (∀ q, q ≠ m → h1 q = h q) → Q (some (.int v)) h1) : ww l D tys A X fr lo mX11_look Q 0 [(0, .ref m)] [] h := by
  obtain ⟨H1, H2, H3, H4, H5, H6, H7⟩ := H
  refine r_look0 hT H3 H5 H6 (en.toInt - at0.toInt).toNat at0 h fs H4 H7 (by omega) H1 (fun h1 fs1 at1 v p1 p2 p3 p4 p5 => hq h1 fs1 at1 v ⟨p1, (p4 12 (by decide)).trans H2, H3, (p5 tx H3).trans H4, H5, H6, p2.2⟩ p2.1 ?_ (fun j hj => p4 j hj.1) p5)
  rw [← p2.1]
  unfold sp_sg
  rcases p3 with p3 | p3
  · rw [if_pos (by omega)]
    exact Or.inl ⟨p3.2.1, p3.2.2.1, p3.2.2.2, p3.1⟩
  · rw [if_neg (by omega)]
    exact Or.inr ⟨p3.2, rfl, p3.1⟩
theorem r_fail (H : rm cA h m fs tx n g f bg en at0 fl0 dp) (hq : ∀ (h1 : ch_H) (fs1 : List Value) (fl1 v : Int32), rm cA h1 m fs1 tx n g f bg en at0 fl1 dp → v.toInt = 0 → (fl0.toInt = -1 ∧ fl1.toInt = at0.toInt ∨ ¬ fl0.toInt = -1 ∧ fl1.toInt = fl0.toInt) → (∀ j, j ≠ 10 ∧ j ≠ 11 ∧ j ≠ 12 → fs1[j]? = fs[j]?) → (∀ q, q ≠ m → h1 q = h q) → Q (some (.int v)) h1) : ww l D tys A X fr lo mX11_fails Q 0 [(0, .ref m)] [] h := by
  obtain ⟨H1, H2, H3, H4, H5, H6, H7⟩ := H
  exact r_fails H1 (fun h1 fs1 fl1 v p1 p2 p3 p4 p5 => hq h1 fs1 fl1 v ⟨p1, (p4 12 (by decide)).trans H2, H3, (p5 tx H3).trans H4, H5, H6, H7⟩ p2 p3 (fun j hj => p4 j hj.2.1) p5)
theorem r_takes (hT : k_tys tys cA) {due : Int32} (hd0 : 0 < due.toInt) (hr : 1 ≤ fr ∧ 30 ≤ lo) (H : rm cA h m fs tx n g f bg en at0 fl0 dp) (hq : ∀ (h1 : ch_H) (fs1 : List Value) (at1 fl1 v : Int32), rm cA h1 m fs1 tx n g f bg en at1 fl1 dp → (¬ fl0.toInt = -1 ∧ fl1.toInt = fl0.toInt ∧ v.toInt = 0 ∨ fl0.toInt = -1 ∧ sp_is (sp_tk f en.toInt.toNat due.toInt at0.toInt.toNat) at1 fl1 ∧ (v.toInt = 1 ∧ fl1.toInt = -1 ∨ v.toInt = 0 ∧ ¬ fl1.toInt = -1)) → (∀ j, j ≠ 10 ∧ j ≠ 11 ∧ j ≠ 12 → fs1[j]? = fs[j]?) → (∀ q, q ≠ m → h1 q = h q) → Q (some (.int v)) h1) : ww l D tys A X fr lo mX11_takes Q 0 [(0, .ref m), (1, .int due)] [] h := by
  obtain ⟨⟨c_m, fl, f5, f8, f9, f10, f11⟩, f12, n_tx_m, c_x, hs, hb, ha⟩ := H
  refine w_aload_n (List.Mem.head _) (tX11_takes_0_ok (0, .aload_n 0, 1) (List.mem_of_getElem? (i := 0) rfl)) ?_
  refine w_get (own := 16) rfl rfl (by decide) c_m f11 (tX11_takes_0_ok (1, .getfield 118, 3) (List.mem_of_getElem? (i := 1) rfl)) ?_
  refine w_iconst (by decide) (tX11_takes_0_ok (4, .iconst (-1), 1) (List.mem_of_getElem? (i := 2) rfl)) (fun v1 e2 => ?_)
  refine w_icmp_ne (tgt := 16) (tX11_takes_0_ok (5, .if_icmp .ne 11, 3) (List.mem_of_getElem? (i := 3) rfl)) rfl (fun b3 => ?_) (fun b3 => ?_)
  · refine w_aload_n (List.Mem.head _) (tX11_takes_0_ok (16, .aload_n 0, 1) (List.mem_of_getElem? (i := 8) rfl)) ?_
    refine w_callV (own := 16) (mi := 180) [] [] [(0, .ref m)] rfl (cllw_X11 (124, 0, 180) (List.mem_of_getElem? (i := 11) rfl)) rfl rfl c_m rfl (by omega) (w_lo (n := 20) rfl (by omega)) (Nat.le_of_ble_eq_true rfl) (Nat.le_of_ble_eq_true rfl) rfl (tX11_takes_0_ok (17, .invokevirtual 124, 3) (List.mem_of_getElem? (i := 9) rfl)) (r_fail ⟨⟨c_m, fl, f5, f8, f9, f10, f11⟩, f12, n_tx_m, c_x, hs, hb, by omega, by omega⟩ (fun h4 fs5 fl6 v7 p8 e9 e10 k11 o12 => ?_))
    obtain ⟨⟨c13, l14, f15, f16, f17, f18, f19⟩, f20, -, c21, -, -, a22, a23⟩ := p8
    show ww l D tys A X fr lo mX11_takes Q 20 [(0, .ref m), (1, .int due)] [.int v7] h4
    refine w_zret rfl (by omega) (by omega) (tX11_takes_0_ok (20, .ireturn, 1) (List.mem_of_getElem? (i := 10) rfl)) ?_
    refine hq h4 fs5 at0 fl6 v7 ⟨⟨c13, l14, f15, f16, f17, f18, f19⟩, f20, n_tx_m, c21, hs, hb, by omega, by omega⟩ ?_ (fun j hj => k11 j hj) (fun q hq => o12 q hq)
    first | exact Or.inl ⟨by omega, by omega, by omega⟩ | (refine Or.inr ⟨by omega, ?_, by omega⟩; unfold sp_tk; split <;> (simp only [sp_is]; omega))
  · refine w_aload_n (List.Mem.head _) (tX11_takes_0_ok (8, .aload_n 0, 1) (List.mem_of_getElem? (i := 4) rfl)) ?_
    refine w_callV (own := 16) (mi := 212) [] [] [(0, .ref m)] rfl (cllw_X11 (128, 0, 212) (List.mem_of_getElem? (i := 7) rfl)) rfl rfl c_m rfl (by omega) (w_lo (n := 20) rfl (by omega)) (Nat.le_of_ble_eq_true rfl) (Nat.le_of_ble_eq_true rfl) rfl (tX11_takes_0_ok (9, .invokevirtual 128, 3) (List.mem_of_getElem? (i := 5) rfl)) (r_look hT ⟨⟨c_m, fl, f5, f8, f9, f10, f11⟩, f12, n_tx_m, c_x, hs, hb, by omega, by omega⟩ (fun h24 fs25 at26 v27 p28 e29 e30 k31 o32 => ?_))
    obtain ⟨⟨c33, l34, f35, f36, f37, f38, f39⟩, f40, -, c41, -, -, a42, a43⟩ := p28
    show ww l D tys A X fr lo mX11_takes Q 12 [(0, .ref m), (1, .int due)] [.int v27] h24
    refine w_iload_n (List.Mem.tail _ (List.Mem.head _)) (tX11_takes_0_ok (12, .iload_n 1, 1) (List.mem_of_getElem? (i := 6) rfl)) ?_
    refine w_icmp_eq (tgt := 21) (tX11_takes_0_ok (13, .if_icmp .eq 8, 3) (List.mem_of_getElem? (i := 7) rfl)) rfl (fun b44 => ?_) (fun b44 => ?_)
    · refine w_aload_n (List.Mem.head _) (tX11_takes_0_ok (21, .aload_n 0, 1) (List.mem_of_getElem? (i := 11) rfl)) ?_
      refine w_dup rfl (tX11_takes_0_ok (22, .dup, 1) (List.mem_of_getElem? (i := 12) rfl)) ?_
      refine w_get (own := 16) rfl rfl (by decide) c33 f38 (tX11_takes_0_ok (23, .getfield 109, 3) (List.mem_of_getElem? (i := 13) rfl)) ?_
      refine w_iconst (by decide) (tX11_takes_0_ok (26, .iconst 1, 1) (List.mem_of_getElem? (i := 14) rfl)) (fun v45 e46 => ?_)
      refine w_iadd (by omega) (by omega) (tX11_takes_0_ok (27, .iadd, 1) (List.mem_of_getElem? (i := 15) rfl)) (fun v47 e48 => ?_)
      refine w_putF (own := 16) (ci := 10) (k := 10) rfl rfl (by decide) rfl ⟨rfl, rfl⟩ c33 (by rw [l34]; decide) (tX11_takes_0_ok (28, .putfield 109, 3) (List.mem_of_getElem? (i := 16) rfl)) (fun h49 fs52 l53 k54 j55 c50 o51 => ?_)
      rw [l34] at l53
      have f56 := (j55 5 (by decide)).trans f35
      have f57 := (j55 8 (by decide)).trans f36
      have f58 := (j55 9 (by decide)).trans f37
      have f59 := (j55 11 (by decide)).trans f39
      have f60 := (j55 12 (by decide)).trans f40
      have c61 := (o51 tx n_tx_m).trans c41
      refine w_iconst (by decide) (tX11_takes_0_ok (31, .iconst 1, 1) (List.mem_of_getElem? (i := 17) rfl)) (fun v62 e63 => ?_)
      refine w_zret rfl (by omega) (by omega) (tX11_takes_0_ok (32, .ireturn, 1) (List.mem_of_getElem? (i := 18) rfl)) ?_
      refine hq h49 fs52 v47 fl0 v62 ⟨⟨c50, l53, f56, f57, f58, k54, f59⟩, f60, n_tx_m, c61, hs, hb, by omega, by omega⟩ ?_ (fun j hj => (j55 j hj.1).trans (k31 j hj)) (fun q hq => (o51 q hq).trans (o32 q hq))
      first | exact Or.inl ⟨by omega, by omega, by omega⟩ | (refine Or.inr ⟨by omega, ?_, by omega⟩; unfold sp_tk; split <;> (simp only [sp_is]; omega))
    · refine w_aload_n (List.Mem.head _) (tX11_takes_0_ok (16, .aload_n 0, 1) (List.mem_of_getElem? (i := 8) rfl)) ?_
      refine w_callV (own := 16) (mi := 180) [] [] [(0, .ref m)] rfl (cllw_X11 (124, 0, 180) (List.mem_of_getElem? (i := 11) rfl)) rfl rfl c33 rfl (by omega) (w_lo (n := 20) rfl (by omega)) (Nat.le_of_ble_eq_true rfl) (Nat.le_of_ble_eq_true rfl) rfl (tX11_takes_0_ok (17, .invokevirtual 124, 3) (List.mem_of_getElem? (i := 9) rfl)) (r_fail ⟨⟨c33, l34, f35, f36, f37, f38, f39⟩, f40, n_tx_m, c41, hs, hb, by omega, by omega⟩ (fun h64 fs65 fl66 v67 p68 e69 e70 k71 o72 => ?_))
      obtain ⟨⟨c73, l74, f75, f76, f77, f78, f79⟩, f80, -, c81, -, -, a82, a83⟩ := p68
      show ww l D tys A X fr lo mX11_takes Q 20 [(0, .ref m), (1, .int due)] [.int v67] h64
      refine w_zret rfl (by omega) (by omega) (tX11_takes_0_ok (20, .ireturn, 1) (List.mem_of_getElem? (i := 10) rfl)) ?_
      refine hq h64 fs65 at26 fl66 v67 ⟨⟨c73, l74, f75, f76, f77, f78, f79⟩, f80, n_tx_m, c81, hs, hb, by omega, by omega⟩ ?_ (fun j hj => (k71 j hj).trans (k31 j hj)) (fun q hq => (o72 q hq).trans (o32 q hq))
      first | exact Or.inl ⟨by omega, by omega, by omega⟩ | (refine Or.inr ⟨by omega, ?_, by omega⟩; unfold sp_tk; split <;> (simp only [sp_is]; omega))
theorem r_goesIn (hT : k_tys tys cA) (hr : 1 ≤ fr ∧ 30 ≤ lo) (hd : 0 ≤ dp.toInt ∧ dp.toInt ≤ 6) (hf0 : fl0.toInt = -1) (hat : at0.toInt < en.toInt) (H : rm cA h m fs tx n g f bg en at0 fl0 dp) (hq : ∀ (h1 : ch_H) (fs1 : List Value) (at1 fl1 dp1 v : Int32), rm cA h1 m fs1 tx n g f bg en at1 fl1 dp1 → (dp.toInt = 6 ∧ fl1.toInt = at0.toInt ∧ v.toInt = 0 ∧ dp1.toInt = 6 ∨ dp.toInt < 6 ∧ dp1.toInt = dp.toInt + 1 ∧ at1.toInt = at0.toInt + 1 ∧ fl1.toInt = -1 ∧ v.toInt = 1) → (∀ j, j ≠ 10 ∧ j ≠ 11 ∧ j ≠ 12 → fs1[j]? = fs[j]?) → (∀ q, q ≠ m → h1 q = h q) → Q (some (.int v)) h1) : ww l D tys A X fr lo mX11_goesIn Q 0 [(0, .ref m)] [] h := by
  obtain ⟨⟨c_m, fl, f5, f8, f9, f10, f11⟩, f12, n_tx_m, c_x, hs, hb, ha⟩ := H
  refine w_aload_n (List.Mem.head _) (tX11_goesIn_0_ok (0, .aload_n 0, 1) (List.mem_of_getElem? (i := 0) rfl)) ?_
  refine w_get (own := 16) rfl rfl (by decide) c_m f12 (tX11_goesIn_0_ok (1, .getfield 121, 3) (List.mem_of_getElem? (i := 1) rfl)) ?_
  refine w_bipush (by decide) (tX11_goesIn_0_ok (4, .bipush 6, 2) (List.mem_of_getElem? (i := 2) rfl)) (fun v1 e2 => ?_)
  refine w_icmp_ne (tgt := 14) (tX11_goesIn_0_ok (6, .if_icmp .ne 8, 3) (List.mem_of_getElem? (i := 3) rfl)) rfl (fun b3 => ?_) (fun b3 => ?_)
  · refine w_aload_n (List.Mem.head _) (tX11_goesIn_0_ok (14, .aload_n 0, 1) (List.mem_of_getElem? (i := 7) rfl)) ?_
    refine w_dup rfl (tX11_goesIn_0_ok (15, .dup, 1) (List.mem_of_getElem? (i := 8) rfl)) ?_
    refine w_get (own := 16) rfl rfl (by decide) c_m f12 (tX11_goesIn_0_ok (16, .getfield 121, 3) (List.mem_of_getElem? (i := 9) rfl)) ?_
    refine w_iconst (by decide) (tX11_goesIn_0_ok (19, .iconst 1, 1) (List.mem_of_getElem? (i := 10) rfl)) (fun v4 e5 => ?_)
    refine w_iadd (by omega) (by omega) (tX11_goesIn_0_ok (20, .iadd, 1) (List.mem_of_getElem? (i := 11) rfl)) (fun v6 e7 => ?_)
    refine w_putF (own := 16) (ci := 10) (k := 12) rfl rfl (by decide) rfl ⟨rfl, rfl⟩ c_m (by rw [fl]; decide) (tX11_goesIn_0_ok (21, .putfield 121, 3) (List.mem_of_getElem? (i := 12) rfl)) (fun h8 fs11 l12 k13 j14 c9 o10 => ?_)
    rw [fl] at l12
    have f15 := (j14 5 (by decide)).trans f5
    have f16 := (j14 8 (by decide)).trans f8
    have f17 := (j14 9 (by decide)).trans f9
    have f18 := (j14 10 (by decide)).trans f10
    have f19 := (j14 11 (by decide)).trans f11
    have c20 := (o10 tx n_tx_m).trans c_x
    refine w_aload_n (List.Mem.head _) (tX11_goesIn_0_ok (24, .aload_n 0, 1) (List.mem_of_getElem? (i := 13) rfl)) ?_
    refine w_dup rfl (tX11_goesIn_0_ok (25, .dup, 1) (List.mem_of_getElem? (i := 14) rfl)) ?_
    refine w_get (own := 16) rfl rfl (by decide) c9 f18 (tX11_goesIn_0_ok (26, .getfield 109, 3) (List.mem_of_getElem? (i := 15) rfl)) ?_
    refine w_iconst (by decide) (tX11_goesIn_0_ok (29, .iconst 1, 1) (List.mem_of_getElem? (i := 16) rfl)) (fun v21 e22 => ?_)
    refine w_iadd (by omega) (by omega) (tX11_goesIn_0_ok (30, .iadd, 1) (List.mem_of_getElem? (i := 17) rfl)) (fun v23 e24 => ?_)
    refine w_putF (own := 16) (ci := 10) (k := 10) rfl rfl (by decide) rfl ⟨rfl, rfl⟩ c9 (by rw [l12]; decide) (tX11_goesIn_0_ok (31, .putfield 109, 3) (List.mem_of_getElem? (i := 18) rfl)) (fun h25 fs28 l29 k30 j31 c26 o27 => ?_)
    rw [l12] at l29
    have f32 := (j31 12 (by decide)).trans k13
    have f33 := (j31 5 (by decide)).trans f15
    have f34 := (j31 8 (by decide)).trans f16
    have f35 := (j31 9 (by decide)).trans f17
    have f36 := (j31 11 (by decide)).trans f19
    have c37 := (o27 tx n_tx_m).trans c20
    refine w_iconst (by decide) (tX11_goesIn_0_ok (34, .iconst 1, 1) (List.mem_of_getElem? (i := 19) rfl)) (fun v38 e39 => ?_)
    refine w_zret rfl (by omega) (by omega) (tX11_goesIn_0_ok (35, .ireturn, 1) (List.mem_of_getElem? (i := 20) rfl)) ?_
    refine hq h25 fs28 v23 fl0 v6 v38 ⟨⟨c26, l29, f33, f34, f35, k30, f36⟩, f32, n_tx_m, c37, hs, hb, by omega, by omega⟩ ?_ (fun j hj => (j31 j hj.1).trans (j14 j hj.2.2)) (fun q hq => (o27 q hq).trans (o10 q hq))
    omega
  · refine w_aload_n (List.Mem.head _) (tX11_goesIn_0_ok (9, .aload_n 0, 1) (List.mem_of_getElem? (i := 4) rfl)) ?_
    refine w_callV (own := 16) (mi := 180) [] [] [(0, .ref m)] rfl (cllw_X11 (124, 0, 180) (List.mem_of_getElem? (i := 11) rfl)) rfl rfl c_m rfl (by omega) (w_lo (n := 20) rfl (by omega)) (Nat.le_of_ble_eq_true rfl) (Nat.le_of_ble_eq_true rfl) rfl (tX11_goesIn_0_ok (10, .invokevirtual 124, 3) (List.mem_of_getElem? (i := 5) rfl)) (r_fail ⟨⟨c_m, fl, f5, f8, f9, f10, f11⟩, f12, n_tx_m, c_x, hs, hb, by omega, by omega⟩ (fun h40 fs41 fl42 v43 p44 e45 e46 k47 o48 => ?_))
    obtain ⟨⟨c49, l50, f51, f52, f53, f54, f55⟩, f56, -, c57, -, -, a58, a59⟩ := p44
    show ww l D tys A X fr lo mX11_goesIn Q 13 [(0, .ref m)] [.int v43] h40
    refine w_zret rfl (by omega) (by omega) (tX11_goesIn_0_ok (13, .ireturn, 1) (List.mem_of_getElem? (i := 6) rfl)) ?_
    refine hq h40 fs41 at0 fl42 dp v43 ⟨⟨c49, l50, f51, f52, f53, f54, f55⟩, f56, n_tx_m, c57, hs, hb, by omega, by omega⟩ ?_ (fun j hj => k47 j hj) (fun q hq => o48 q hq)
    omega
theorem r_isSign {c : Int32} (hq : ∀ v : Int32, (sp_cmp c.toInt ∧ v.toInt = 1 ∨ ¬ sp_cmp c.toInt ∧ v.toInt = 0) → Q (some (.int v)) h) : ww l D tys A X fr lo mX11_isSign Q 0 [(0, .int c)] [] h := by
  refine w_iload_n (List.Mem.head _) (tX11_isSign_0_ok (0, .iload_n 0, 1) (List.mem_of_getElem? (i := 0) rfl)) ?_
  refine w_bipush (by decide) (tX11_isSign_0_ok (1, .bipush 61, 2) (List.mem_of_getElem? (i := 1) rfl)) (fun v1 e2 => ?_)
  refine w_icmp_eq (tgt := 18) (tX11_isSign_0_ok (3, .if_icmp .eq 15, 3) (List.mem_of_getElem? (i := 2) rfl)) rfl (fun b3 => ?_) (fun b3 => ?_)
  · refine w_iconst (by decide) (tX11_isSign_0_ok (18, .iconst 1, 1) (List.mem_of_getElem? (i := 9) rfl)) (fun v4 e5 => ?_)
    refine w_goto (tgt := 23) (tX11_isSign_0_ok (19, .goto 4, 3) (List.mem_of_getElem? (i := 10) rfl)) rfl ?_
    refine w_zret rfl (by omega) (by omega) (tX11_isSign_0_ok (23, .ireturn, 1) (List.mem_of_getElem? (i := 12) rfl)) ?_
    exact hq v4 (by omega)
  · refine w_iload_n (List.Mem.head _) (tX11_isSign_0_ok (6, .iload_n 0, 1) (List.mem_of_getElem? (i := 3) rfl)) ?_
    refine w_bipush (by decide) (tX11_isSign_0_ok (7, .bipush 60, 2) (List.mem_of_getElem? (i := 4) rfl)) (fun v6 e7 => ?_)
    refine w_icmp_eq (tgt := 18) (tX11_isSign_0_ok (9, .if_icmp .eq 9, 3) (List.mem_of_getElem? (i := 5) rfl)) rfl (fun b8 => ?_) (fun b8 => ?_)
    · refine w_iconst (by decide) (tX11_isSign_0_ok (18, .iconst 1, 1) (List.mem_of_getElem? (i := 9) rfl)) (fun v9 e10 => ?_)
      refine w_goto (tgt := 23) (tX11_isSign_0_ok (19, .goto 4, 3) (List.mem_of_getElem? (i := 10) rfl)) rfl ?_
      refine w_zret rfl (by omega) (by omega) (tX11_isSign_0_ok (23, .ireturn, 1) (List.mem_of_getElem? (i := 12) rfl)) ?_
      exact hq v9 (by omega)
    · refine w_iload_n (List.Mem.head _) (tX11_isSign_0_ok (12, .iload_n 0, 1) (List.mem_of_getElem? (i := 6) rfl)) ?_
      refine w_bipush (by decide) (tX11_isSign_0_ok (13, .bipush 62, 2) (List.mem_of_getElem? (i := 7) rfl)) (fun v11 e12 => ?_)
      refine w_icmp_ne (tgt := 22) (tX11_isSign_0_ok (15, .if_icmp .ne 7, 3) (List.mem_of_getElem? (i := 8) rfl)) rfl (fun b13 => ?_) (fun b13 => ?_)
      · refine w_iconst (by decide) (tX11_isSign_0_ok (22, .iconst 0, 1) (List.mem_of_getElem? (i := 11) rfl)) (fun v14 e15 => ?_)
        refine w_zret rfl (by omega) (by omega) (tX11_isSign_0_ok (23, .ireturn, 1) (List.mem_of_getElem? (i := 12) rfl)) ?_
        exact hq v14 (by omega)
      · refine w_iconst (by decide) (tX11_isSign_0_ok (18, .iconst 1, 1) (List.mem_of_getElem? (i := 9) rfl)) (fun v16 e17 => ?_)
        refine w_goto (tgt := 23) (tX11_isSign_0_ok (19, .goto 4, 3) (List.mem_of_getElem? (i := 10) rfl)) rfl ?_
        refine w_zret rfl (by omega) (by omega) (tX11_isSign_0_ok (23, .ireturn, 1) (List.mem_of_getElem? (i := 12) rfl)) ?_
        exact hq v16 (by omega)
theorem r_here (hT : k_tys tys cA) (H : rm cA h m fs tx n g f bg en at0 fl0 dp) (hq : ∀ v : Int32, (at0.toInt < en.toInt ∧ v.toInt = (f at0.toInt.toNat).toInt ∧ 0 ≤ v.toInt ∧ v.toInt ≤ 255 ∨ at0.toInt = en.toInt ∧ v.toInt = -1) → Q (some (.int v)) h) : ww l D tys A X fr lo mX11_here Q 0 [(0, .ref m)] [] h := by
  obtain ⟨⟨c_m, fl, f5, f8, f9, f10, f11⟩, f12, n_tx_m, c_x, hs, hb, ha⟩ := H
  refine w_aload_n (List.Mem.head _) (tX11_here_0_ok (0, .aload_n 0, 1) (List.mem_of_getElem? (i := 0) rfl)) ?_
  refine w_get (own := 16) rfl rfl (by decide) c_m f10 (tX11_here_0_ok (1, .getfield 109, 3) (List.mem_of_getElem? (i := 1) rfl)) ?_
  refine w_aload_n (List.Mem.head _) (tX11_here_0_ok (4, .aload_n 0, 1) (List.mem_of_getElem? (i := 2) rfl)) ?_
  refine w_get (own := 16) rfl rfl (by decide) c_m f9 (tX11_here_0_ok (5, .getfield 112, 3) (List.mem_of_getElem? (i := 3) rfl)) ?_
  refine w_icmp_ge (tgt := 32) (tX11_here_0_ok (8, .if_icmp .ge 24, 3) (List.mem_of_getElem? (i := 4) rfl)) rfl (fun b1 => ?_) (fun b1 => ?_)
  · refine w_iconst (by decide) (tX11_here_0_ok (32, .iconst (-1), 1) (List.mem_of_getElem? (i := 16) rfl)) (fun v2 e3 => ?_)
    refine w_iret rfl (tX11_here_0_ok (33, .ireturn, 1) (List.mem_of_getElem? (i := 17) rfl)) ?_
    refine hq v2 ?_
    omega
  · refine w_aload_n (List.Mem.head _) (tX11_here_0_ok (11, .aload_n 0, 1) (List.mem_of_getElem? (i := 5) rfl)) ?_
    refine w_get (own := 16) rfl rfl (by decide) c_m f5 (tX11_here_0_ok (12, .getfield 23, 3) (List.mem_of_getElem? (i := 6) rfl)) ?_
    refine w_aload_n (List.Mem.head _) (tX11_here_0_ok (15, .aload_n 0, 1) (List.mem_of_getElem? (i := 7) rfl)) ?_
    refine w_get (own := 16) rfl rfl (by decide) c_m f8 (tX11_here_0_ok (16, .getfield 115, 3) (List.mem_of_getElem? (i := 8) rfl)) ?_
    refine w_aload_n (List.Mem.head _) (tX11_here_0_ok (19, .aload_n 0, 1) (List.mem_of_getElem? (i := 9) rfl)) ?_
    refine w_get (own := 16) rfl rfl (by decide) c_m f10 (tX11_here_0_ok (20, .getfield 109, 3) (List.mem_of_getElem? (i := 10) rfl)) ?_
    refine w_iadd (by omega) (by omega) (tX11_here_0_ok (23, .iadd, 1) (List.mem_of_getElem? (i := 11) rfl)) (fun v4 e5 => ?_)
    refine w_bald hT c_x (by omega) (by omega) (tX11_here_0_ok (24, .baload, 1) (List.mem_of_getElem? (i := 12) rfl)) (fun v6 e7 => ?_)
    have s8 := hs at0.toInt.toNat (by omega)
    have i9 : bg.toInt.toNat + at0.toInt.toNat = v4.toInt.toNat := by omega
    rw [i9] at s8
    refine w_sipush (by decide) (tX11_here_0_ok (25, .sipush 255, 3) (List.mem_of_getElem? (i := 13) rfl)) (fun v10 e11 => ?_)
    refine w_iand (tX11_here_0_ok (28, .iand, 1) (List.mem_of_getElem? (i := 14) rfl)) (fun v12 e13 => ?_)
    have d14 := sb_and e7 (by omega) e13
    refine w_goto (tgt := 33) (tX11_here_0_ok (29, .goto 4, 3) (List.mem_of_getElem? (i := 15) rfl)) rfl ?_
    refine w_iret rfl (tX11_here_0_ok (33, .ireturn, 1) (List.mem_of_getElem? (i := 17) rfl)) ?_
    refine hq v12 ?_
    omega
theorem r_dig (hT : k_tys tys cA) (H : rm cA h m fs tx n g f bg en at0 fl0 dp) (hq : ∀ v : Int32, (sp_isd f en.toInt.toNat at0.toInt.toNat ∧ v.toInt = 1 ∨ ¬ sp_isd f en.toInt.toNat at0.toInt.toNat ∧ v.toInt = 0) → Q (some (.int v)) h) : ww l D tys A X fr lo mX11_isDigit Q 0 [(0, .ref m)] [] h := by
  obtain ⟨H1, H2, H3, H4, H5, H6, H7⟩ := H
  exact r_isDigit hT H3 H4 H5 H6 H7 H1 hq
end
