/-! constructors -/
def df_0 : List Value := [.null, .null, .int 0]
theorem df_0_ok : ∀ j, j < ch_N 0 → defaultValue (ch_ty 0 j) = vp_V df_0 j := by
  intro j hj
  match j, hj with
  | 0, _ => rfl
  | 1, _ => rfl
  | 2, _ => rfl
  | j + 3, hj => exact absurd (show j + 3 < 3 from hj) (by omega)
def df_1 : List Value := [.int 0, .null, .null, .int 0, .null, .int 0, .null, .null]
theorem df_1_ok : ∀ j, j < ch_N 1 → defaultValue (ch_ty 1 j) = vp_V df_1 j := by
  intro j hj
  match j, hj with
  | 0, _ => rfl
  | 1, _ => rfl
  | 2, _ => rfl
  | 3, _ => rfl
  | 4, _ => rfl
  | 5, _ => rfl
  | 6, _ => rfl
  | 7, _ => rfl
  | j + 8, hj => exact absurd (show j + 8 < 8 from hj) (by omega)
def df_2 : List Value := [.null, .int 0, .int 0]
theorem df_2_ok : ∀ j, j < ch_N 2 → defaultValue (ch_ty 2 j) = vp_V df_2 j := by
  intro j hj
  match j, hj with
  | 0, _ => rfl
  | 1, _ => rfl
  | 2, _ => rfl
  | j + 3, hj => exact absurd (show j + 3 < 3 from hj) (by omega)
def df_3 : List Value := [.null, .null, .int 0, .null, .null]
theorem df_3_ok : ∀ j, j < ch_N 3 → defaultValue (ch_ty 3 j) = vp_V df_3 j := by
  intro j hj
  match j, hj with
  | 0, _ => rfl
  | 1, _ => rfl
  | 2, _ => rfl
  | 3, _ => rfl
  | 4, _ => rfl
  | j + 5, hj => exact absurd (show j + 5 < 5 from hj) (by omega)
def df_4 : List Value := [.int 0, .null, .null, .null, .null, .null, .null, .null, .null]
theorem df_4_ok : ∀ j, j < ch_N 4 → defaultValue (ch_ty 4 j) = vp_V df_4 j := by
  intro j hj
  match j, hj with
  | 0, _ => rfl
  | 1, _ => rfl
  | 2, _ => rfl
  | 3, _ => rfl
  | 4, _ => rfl
  | 5, _ => rfl
  | 6, _ => rfl
  | 7, _ => rfl
  | 8, _ => rfl
  | j + 9, hj => exact absurd (show j + 9 < 9 from hj) (by omega)
def df_5 : List Value := [.null, .int 0, .null]
theorem df_5_ok : ∀ j, j < ch_N 5 → defaultValue (ch_ty 5 j) = vp_V df_5 j := by
  intro j hj
  match j, hj with
  | 0, _ => rfl
  | 1, _ => rfl
  | 2, _ => rfl
  | j + 3, hj => exact absurd (show j + 3 < 3 from hj) (by omega)
def df_6 : List Value := [.null, .null, .null, .null, .null, .int 0, .long 0]
theorem df_6_ok : ∀ j, j < ch_N 6 → defaultValue (ch_ty 6 j) = vp_V df_6 j := by
  intro j hj
  match j, hj with
  | 0, _ => rfl
  | 1, _ => rfl
  | 2, _ => rfl
  | 3, _ => rfl
  | 4, _ => rfl
  | 5, _ => rfl
  | 6, _ => rfl
  | j + 7, hj => exact absurd (show j + 7 < 7 from hj) (by omega)
def df_7 : List Value := [.null, .int 0, .int 0, .int 0]
theorem df_7_ok : ∀ j, j < ch_N 7 → defaultValue (ch_ty 7 j) = vp_V df_7 j := by
  intro j hj
  match j, hj with
  | 0, _ => rfl
  | 1, _ => rfl
  | 2, _ => rfl
  | 3, _ => rfl
  | j + 4, hj => exact absurd (show j + 4 < 4 from hj) (by omega)
def df_8 : List Value := [.null, .null, .null]
theorem df_8_ok : ∀ j, j < ch_N 8 → defaultValue (ch_ty 8 j) = vp_V df_8 j := by
  intro j hj
  match j, hj with
  | 0, _ => rfl
  | 1, _ => rfl
  | 2, _ => rfl
  | j + 3, hj => exact absurd (show j + 3 < 3 from hj) (by omega)
def df_9 : List Value := [.null, .null, .null, .null, .null, .null, .int 0, .int 0, .null, .null, .null, .null, .null, .null, .int 0, .null, .null, .null, .null]
theorem df_9_ok : ∀ j, j < ch_N 9 → defaultValue (ch_ty 9 j) = vp_V df_9 j := by
  intro j hj
  match j, hj with
  | 0, _ => rfl
  | 1, _ => rfl
  | 2, _ => rfl
  | 3, _ => rfl
  | 4, _ => rfl
  | 5, _ => rfl
  | 6, _ => rfl
  | 7, _ => rfl
  | 8, _ => rfl
  | 9, _ => rfl
  | 10, _ => rfl
  | 11, _ => rfl
  | 12, _ => rfl
  | 13, _ => rfl
  | 14, _ => rfl
  | 15, _ => rfl
  | 16, _ => rfl
  | 17, _ => rfl
  | 18, _ => rfl
  | j + 19, hj => exact absurd (show j + 19 < 19 from hj) (by omega)
def df_10 : List Value := [.int 0, .null, .null, .null, .null, .null, .int 0, .int 0, .int 0, .int 0, .int 0, .int 0, .int 0, .int 0, .int 0, .null, .null, .null, .int 0, .null, .int 0, .int 0, .null, .null, .null, .null, .null, .null, .null, .null, .null, .null, .int 0, .int 0, .int 0, .int 0, .long 0, .long 0, .long 0, .int 0, .null, .null, .int 0, .int 0, .int 0, .int 0, .null]
theorem df_10_ok : ∀ j, j < ch_N 10 → defaultValue (ch_ty 10 j) = vp_V df_10 j := by
  intro j hj
  match j, hj with
  | 0, _ => rfl
  | 1, _ => rfl
  | 2, _ => rfl
  | 3, _ => rfl
  | 4, _ => rfl
  | 5, _ => rfl
  | 6, _ => rfl
  | 7, _ => rfl
  | 8, _ => rfl
  | 9, _ => rfl
  | 10, _ => rfl
  | 11, _ => rfl
  | 12, _ => rfl
  | 13, _ => rfl
  | 14, _ => rfl
  | 15, _ => rfl
  | 16, _ => rfl
  | 17, _ => rfl
  | 18, _ => rfl
  | 19, _ => rfl
  | 20, _ => rfl
  | 21, _ => rfl
  | 22, _ => rfl
  | 23, _ => rfl
  | 24, _ => rfl
  | 25, _ => rfl
  | 26, _ => rfl
  | 27, _ => rfl
  | 28, _ => rfl
  | 29, _ => rfl
  | 30, _ => rfl
  | 31, _ => rfl
  | 32, _ => rfl
  | 33, _ => rfl
  | 34, _ => rfl
  | 35, _ => rfl
  | 36, _ => rfl
  | 37, _ => rfl
  | 38, _ => rfl
  | 39, _ => rfl
  | 40, _ => rfl
  | 41, _ => rfl
  | 42, _ => rfl
  | 43, _ => rfl
  | 44, _ => rfl
  | 45, _ => rfl
  | 46, _ => rfl
  | j + 47, hj => exact absurd (show j + 47 < 47 from hj) (by omega)
section
variable {l : Launch} {D : va_G} {tys : List (ClassId × FieldType)} {A : Nat → Prop} {X : State → Prop} {cA : Nat → ClassId} {Lb9 : Nat → k_I}
/-- what constructors are told of the tables -/
def k_NX (X : State → Prop) : Prop := ∀ s, X s → va_Nw (.methodLinkNest RX10 9 yX7_init "RopeRooms") s ∧ va_Nw (.methodLinkNest RX10 18 yX4_init "RopeRooms") s ∧ va_Nw (.methodLinkNest RX10 28 yX6_init "RopeRooms") s ∧ va_Nw (.methodLinkNest RX10 41 yX1_init "RopeRooms") s ∧ va_Nw (.methodLinkNest RX10 48 yX9_init "RopeRooms") s ∧ va_Nw (.methodLinkNest RX10 66 yX5_init "RopeRooms") s ∧ va_Nw (.methodLinkNest RX10 76 yX3_init "RopeRooms") s ∧ va_Nw (.methodLinkNest RX10 83 yX0_init "RopeRooms") s ∧ va_Nw (.methodLinkNest RX2 17 yX6_init "RopeRooms") s ∧ va_AO "RopeRooms$Rule" s ∧ va_AO "RopeRooms$State" s ∧ va_AOA .int s
theorem n_X7_init (hT : k_tys tys cA) (hL : ∀ L, L < 50 → Lb9 L = Lb L) : k_nw l D tys A X cA Lb9 mX7_init 7 df_7 1 1 12 1 160 := by
  intro Sg a h hH ca sa
  have H0 : nS cA Lb9 Sg h a (.inr (7, df_7)) Sg h := ⟨hH, ca, sa, fun _ _ _ => ⟨rfl, rfl⟩⟩
  refine tt_aload_n rfl (List.Mem.head _) (tX7_init_0_ok (0, .aload_n 0, 1) (List.mem_of_getElem? (i := 0) rfl)) ?_
  refine tt_objInit (wA1 37 rfl rfl) (wA1 30 rfl rfl) (wA1 31 rfl rfl) (tX7_init_0_ok (1, .invokespecial 3, 3) (List.mem_of_getElem? (i := 1) rfl)) (by decide) (Nat.le_of_ble_eq_true rfl) ?_
  refine tt_aload_n rfl (List.Mem.head _) (tX7_init_0_ok (4, .aload_n 0, 1) (List.mem_of_getElem? (i := 2) rfl)) ?_
  refine tt_sipush rfl (tX7_init_0_ok (5, .sipush 160, 3) (List.mem_of_getElem? (i := 3) rfl)) ?_
  refine n_arr (L := 10) hT H0 (hL 10 (by decide)) (by decide +kernel) (by decide) rfl (by decide) rfl (by decide) (by decide) (by decide) (tX7_init_0_ok (8, .newarray .int, 2) (List.mem_of_getElem? (i := 4) rfl)) (fun b1 S2 g3 H4 s5 m6 o7 => ?_)
  refine n_put (own := 12) (ci := 7) (k := 0) [.ref b1, .int 0, .int 0, .int 0] rfl H4 rfl rfl (by decide) rfl rfl ⟨rfl, rfl⟩ (Nat.le_of_ble_eq_true rfl) (tX7_init_0_ok (10, .putfield 9, 3) (List.mem_of_getElem? (i := 5) rfl)) (fun g8 H9 f10 => ?_)
  refine tt_aload_n rfl (List.Mem.head _) (tX7_init_0_ok (13, .aload_n 0, 1) (List.mem_of_getElem? (i := 6) rfl)) ?_
  refine tt_iconst rfl (tX7_init_0_ok (14, .iconst (-1), 1) (List.mem_of_getElem? (i := 7) rfl)) ?_
  refine n_put (own := 12) (ci := 7) (k := 3) [.ref b1, .int 0, .int 0, .int (-1)] rfl H9 rfl rfl (by decide) rfl rfl ⟨rfl, rfl⟩ (Nat.le_of_ble_eq_true rfl) (tX7_init_0_ok (15, .putfield 15, 3) (List.mem_of_getElem? (i := 8) rfl)) (fun g11 H12 f13 => ?_)
  refine tt_vret rfl (H12.fin (L := 1) ?_) (by decide) (by decide) (tX7_init_0_ok (18, .return_, 1) (List.mem_of_getElem? (i := 9) rfl))
  rw [(hL 1 (by decide))]
  refine Or.inl ⟨rfl, _, rfl, rfl, fun k t hk => ?_⟩
  match k, hk with
  | 0, hk => cases hk; exact ⟨_, rfl, _, rfl, sg_le.up H12.2.2.1 _ _ s5⟩
  | 1, hk => cases hk; exact ⟨_, rfl, _, rfl, by decide, by decide⟩
  | 2, hk => cases hk; exact ⟨_, rfl, _, rfl, by decide, by decide⟩
  | 3, hk => cases hk; exact ⟨_, rfl, _, rfl, by decide, by decide⟩
  | k + 4, hk => cases hk
theorem n_X4_init (hT : k_tys tys cA) (hL : ∀ L, L < 50 → Lb9 L = Lb L) : k_nw l D tys A X cA Lb9 mX4_init 4 df_4 2 1 12 8 54 := by
  intro Sg a h hH ca sa
  have H0 : nS cA Lb9 Sg h a (.inr (4, df_4)) Sg h := ⟨hH, ca, sa, fun _ _ _ => ⟨rfl, rfl⟩⟩
  refine tt_aload_n rfl (List.Mem.head _) (tX4_init_0_ok (0, .aload_n 0, 1) (List.mem_of_getElem? (i := 0) rfl)) ?_
  refine tt_objInit (wA1 62 rfl rfl) (wA1 30 rfl rfl) (wA1 31 rfl rfl) (tX4_init_0_ok (1, .invokespecial 3, 3) (List.mem_of_getElem? (i := 1) rfl)) (by decide) (Nat.le_of_ble_eq_true rfl) ?_
  refine tt_aload_n rfl (List.Mem.head _) (tX4_init_0_ok (4, .aload_n 0, 1) (List.mem_of_getElem? (i := 2) rfl)) ?_
  refine tt_bipush rfl (tX4_init_0_ok (5, .bipush 6, 2) (List.mem_of_getElem? (i := 3) rfl)) ?_
  refine n_arr (L := 11) hT H0 (hL 11 (by decide)) (by decide +kernel) (by decide) rfl (by decide) rfl (by decide) (by decide) (by decide) (tX4_init_0_ok (7, .newarray .int, 2) (List.mem_of_getElem? (i := 4) rfl)) (fun b1 S2 g3 H4 s5 m6 o7 => ?_)
  refine n_put (own := 9) (ci := 4) (k := 1) [.int 0, .ref b1, .null, .null, .null, .null, .null, .null, .null] rfl H4 rfl rfl (by decide) rfl rfl ⟨rfl, rfl⟩ (Nat.le_of_ble_eq_true rfl) (tX4_init_0_ok (9, .putfield 9, 3) (List.mem_of_getElem? (i := 5) rfl)) (fun g8 H9 f10 => ?_)
  refine tt_aload_n rfl (List.Mem.head _) (tX4_init_0_ok (12, .aload_n 0, 1) (List.mem_of_getElem? (i := 6) rfl)) ?_
  refine tt_bipush rfl (tX4_init_0_ok (13, .bipush 6, 2) (List.mem_of_getElem? (i := 7) rfl)) ?_
  refine n_arr (L := 12) hT H9 (hL 12 (by decide)) (by decide +kernel) (by decide) rfl (by decide) rfl (by decide) (by decide) (by decide) (tX4_init_0_ok (15, .newarray .int, 2) (List.mem_of_getElem? (i := 8) rfl)) (fun b11 S12 g13 H14 s15 m16 o17 => ?_)
  refine n_put (own := 9) (ci := 4) (k := 2) [.int 0, .ref b1, .ref b11, .null, .null, .null, .null, .null, .null] rfl H14 rfl rfl (by decide) rfl rfl ⟨rfl, rfl⟩ (Nat.le_of_ble_eq_true rfl) (tX4_init_0_ok (17, .putfield 15, 3) (List.mem_of_getElem? (i := 9) rfl)) (fun g18 H19 f20 => ?_)
  refine tt_aload_n rfl (List.Mem.head _) (tX4_init_0_ok (20, .aload_n 0, 1) (List.mem_of_getElem? (i := 10) rfl)) ?_
  refine tt_bipush rfl (tX4_init_0_ok (21, .bipush 6, 2) (List.mem_of_getElem? (i := 11) rfl)) ?_
  refine n_arr (L := 13) hT H19 (hL 13 (by decide)) (by decide +kernel) (by decide) rfl (by decide) rfl (by decide) (by decide) (by decide) (tX4_init_0_ok (23, .newarray .int, 2) (List.mem_of_getElem? (i := 12) rfl)) (fun b21 S22 g23 H24 s25 m26 o27 => ?_)
  refine n_put (own := 9) (ci := 4) (k := 3) [.int 0, .ref b1, .ref b11, .ref b21, .null, .null, .null, .null, .null] rfl H24 rfl rfl (by decide) rfl rfl ⟨rfl, rfl⟩ (Nat.le_of_ble_eq_true rfl) (tX4_init_0_ok (25, .putfield 18, 3) (List.mem_of_getElem? (i := 13) rfl)) (fun g28 H29 f30 => ?_)
  refine tt_aload_n rfl (List.Mem.head _) (tX4_init_0_ok (28, .aload_n 0, 1) (List.mem_of_getElem? (i := 14) rfl)) ?_
  refine tt_bipush rfl (tX4_init_0_ok (29, .bipush 12, 2) (List.mem_of_getElem? (i := 15) rfl)) ?_
  refine n_arr (L := 14) hT H29 (hL 14 (by decide)) (by decide +kernel) (by decide) rfl (by decide) rfl (by decide) (by decide) (by decide) (tX4_init_0_ok (31, .newarray .int, 2) (List.mem_of_getElem? (i := 16) rfl)) (fun b31 S32 g33 H34 s35 m36 o37 => ?_)
  refine n_put (own := 9) (ci := 4) (k := 4) [.int 0, .ref b1, .ref b11, .ref b21, .ref b31, .null, .null, .null, .null] rfl H34 rfl rfl (by decide) rfl rfl ⟨rfl, rfl⟩ (Nat.le_of_ble_eq_true rfl) (tX4_init_0_ok (33, .putfield 21, 3) (List.mem_of_getElem? (i := 17) rfl)) (fun g38 H39 f40 => ?_)
  refine tt_aload_n rfl (List.Mem.head _) (tX4_init_0_ok (36, .aload_n 0, 1) (List.mem_of_getElem? (i := 18) rfl)) ?_
  refine tt_bipush rfl (tX4_init_0_ok (37, .bipush 6, 2) (List.mem_of_getElem? (i := 19) rfl)) ?_
  refine n_arr (L := 15) hT H39 (hL 15 (by decide)) (by decide +kernel) (by decide) rfl (by decide) rfl (by decide) (by decide) (by decide) (tX4_init_0_ok (39, .newarray .int, 2) (List.mem_of_getElem? (i := 20) rfl)) (fun b41 S42 g43 H44 s45 m46 o47 => ?_)
  refine n_put (own := 9) (ci := 4) (k := 5) [.int 0, .ref b1, .ref b11, .ref b21, .ref b31, .ref b41, .null, .null, .null] rfl H44 rfl rfl (by decide) rfl rfl ⟨rfl, rfl⟩ (Nat.le_of_ble_eq_true rfl) (tX4_init_0_ok (41, .putfield 24, 3) (List.mem_of_getElem? (i := 21) rfl)) (fun g48 H49 f50 => ?_)
  refine tt_aload_n rfl (List.Mem.head _) (tX4_init_0_ok (44, .aload_n 0, 1) (List.mem_of_getElem? (i := 22) rfl)) ?_
  refine tt_bipush rfl (tX4_init_0_ok (45, .bipush 6, 2) (List.mem_of_getElem? (i := 23) rfl)) ?_
  refine n_arr (L := 16) hT H49 (hL 16 (by decide)) (by decide +kernel) (by decide) rfl (by decide) rfl (by decide) (by decide) (by decide) (tX4_init_0_ok (47, .newarray .int, 2) (List.mem_of_getElem? (i := 24) rfl)) (fun b51 S52 g53 H54 s55 m56 o57 => ?_)
  refine n_put (own := 9) (ci := 4) (k := 6) [.int 0, .ref b1, .ref b11, .ref b21, .ref b31, .ref b41, .ref b51, .null, .null] rfl H54 rfl rfl (by decide) rfl rfl ⟨rfl, rfl⟩ (Nat.le_of_ble_eq_true rfl) (tX4_init_0_ok (49, .putfield 27, 3) (List.mem_of_getElem? (i := 25) rfl)) (fun g58 H59 f60 => ?_)
  refine tt_aload_n rfl (List.Mem.head _) (tX4_init_0_ok (52, .aload_n 0, 1) (List.mem_of_getElem? (i := 26) rfl)) ?_
  refine tt_bipush rfl (tX4_init_0_ok (53, .bipush 6, 2) (List.mem_of_getElem? (i := 27) rfl)) ?_
  refine n_arr (L := 17) hT H59 (hL 17 (by decide)) (by decide +kernel) (by decide) rfl (by decide) rfl (by decide) (by decide) (by decide) (tX4_init_0_ok (55, .newarray .int, 2) (List.mem_of_getElem? (i := 28) rfl)) (fun b61 S62 g63 H64 s65 m66 o67 => ?_)
  refine n_put (own := 9) (ci := 4) (k := 7) [.int 0, .ref b1, .ref b11, .ref b21, .ref b31, .ref b41, .ref b51, .ref b61, .null] rfl H64 rfl rfl (by decide) rfl rfl ⟨rfl, rfl⟩ (Nat.le_of_ble_eq_true rfl) (tX4_init_0_ok (57, .putfield 30, 3) (List.mem_of_getElem? (i := 29) rfl)) (fun g68 H69 f70 => ?_)
  refine tt_aload_n rfl (List.Mem.head _) (tX4_init_0_ok (60, .aload_n 0, 1) (List.mem_of_getElem? (i := 30) rfl)) ?_
  refine tt_bipush rfl (tX4_init_0_ok (61, .bipush 6, 2) (List.mem_of_getElem? (i := 31) rfl)) ?_
  refine n_arr (L := 18) hT H69 (hL 18 (by decide)) (by decide +kernel) (by decide) rfl (by decide) rfl (by decide) (by decide) (by decide) (tX4_init_0_ok (63, .newarray .int, 2) (List.mem_of_getElem? (i := 32) rfl)) (fun b71 S72 g73 H74 s75 m76 o77 => ?_)
  refine n_put (own := 9) (ci := 4) (k := 8) [.int 0, .ref b1, .ref b11, .ref b21, .ref b31, .ref b41, .ref b51, .ref b61, .ref b71] rfl H74 rfl rfl (by decide) rfl rfl ⟨rfl, rfl⟩ (Nat.le_of_ble_eq_true rfl) (tX4_init_0_ok (65, .putfield 33, 3) (List.mem_of_getElem? (i := 33) rfl)) (fun g78 H79 f80 => ?_)
  refine tt_vret rfl (H79.fin (L := 2) ?_) (by decide) (by decide) (tX4_init_0_ok (68, .return_, 1) (List.mem_of_getElem? (i := 34) rfl))
  rw [(hL 2 (by decide))]
  refine Or.inl ⟨rfl, _, rfl, rfl, fun k t hk => ?_⟩
  match k, hk with
  | 0, hk => cases hk; exact ⟨_, rfl, _, rfl, by decide, by decide⟩
  | 1, hk => cases hk; exact ⟨_, rfl, _, rfl, sg_le.up H79.2.2.1 _ _ (m76 _ _ (m66 _ _ (m56 _ _ (m46 _ _ (m36 _ _ (m26 _ _ (m16 _ _ s5)))))))⟩
  | 2, hk => cases hk; exact ⟨_, rfl, _, rfl, sg_le.up H79.2.2.1 _ _ (m76 _ _ (m66 _ _ (m56 _ _ (m46 _ _ (m36 _ _ (m26 _ _ s15))))))⟩
  | 3, hk => cases hk; exact ⟨_, rfl, _, rfl, sg_le.up H79.2.2.1 _ _ (m76 _ _ (m66 _ _ (m56 _ _ (m46 _ _ (m36 _ _ s25)))))⟩
  | 4, hk => cases hk; exact ⟨_, rfl, _, rfl, sg_le.up H79.2.2.1 _ _ (m76 _ _ (m66 _ _ (m56 _ _ (m46 _ _ s35))))⟩
  | 5, hk => cases hk; exact ⟨_, rfl, _, rfl, sg_le.up H79.2.2.1 _ _ (m76 _ _ (m66 _ _ (m56 _ _ s45)))⟩
  | 6, hk => cases hk; exact ⟨_, rfl, _, rfl, sg_le.up H79.2.2.1 _ _ (m76 _ _ (m66 _ _ s55))⟩
  | 7, hk => cases hk; exact ⟨_, rfl, _, rfl, sg_le.up H79.2.2.1 _ _ (m76 _ _ s65)⟩
  | 8, hk => cases hk; exact ⟨_, rfl, _, rfl, sg_le.up H79.2.2.1 _ _ s75⟩
  | k + 9, hk => cases hk
theorem n_X6_init (hT : k_tys tys cA) (hL : ∀ L, L < 50 → Lb9 L = Lb L) : k_nw l D tys A X cA Lb9 mX6_init 6 df_6 3 1 12 5 38 := by
  intro Sg a h hH ca sa
  have H0 : nS cA Lb9 Sg h a (.inr (6, df_6)) Sg h := ⟨hH, ca, sa, fun _ _ _ => ⟨rfl, rfl⟩⟩
  refine tt_aload_n rfl (List.Mem.head _) (tX6_init_0_ok (0, .aload_n 0, 1) (List.mem_of_getElem? (i := 0) rfl)) ?_
  refine tt_objInit (wA1 120 rfl rfl) (wA1 30 rfl rfl) (wA1 31 rfl rfl) (tX6_init_0_ok (1, .invokespecial 3, 3) (List.mem_of_getElem? (i := 1) rfl)) (by decide) (Nat.le_of_ble_eq_true rfl) ?_
  refine tt_aload_n rfl (List.Mem.head _) (tX6_init_0_ok (4, .aload_n 0, 1) (List.mem_of_getElem? (i := 2) rfl)) ?_
  refine tt_bipush rfl (tX6_init_0_ok (5, .bipush 6, 2) (List.mem_of_getElem? (i := 3) rfl)) ?_
  refine n_arr (L := 19) hT H0 (hL 19 (by decide)) (by decide +kernel) (by decide) rfl (by decide) rfl (by decide) (by decide) (by decide) (tX6_init_0_ok (7, .newarray .int, 2) (List.mem_of_getElem? (i := 4) rfl)) (fun b1 S2 g3 H4 s5 m6 o7 => ?_)
  refine n_put (own := 11) (ci := 6) (k := 0) [.ref b1, .null, .null, .null, .null, .int 0, .long 0] rfl H4 rfl rfl (by decide) rfl rfl ⟨rfl, rfl⟩ (Nat.le_of_ble_eq_true rfl) (tX6_init_0_ok (9, .putfield 9, 3) (List.mem_of_getElem? (i := 5) rfl)) (fun g8 H9 f10 => ?_)
  refine tt_aload_n rfl (List.Mem.head _) (tX6_init_0_ok (12, .aload_n 0, 1) (List.mem_of_getElem? (i := 6) rfl)) ?_
  refine tt_bipush rfl (tX6_init_0_ok (13, .bipush 6, 2) (List.mem_of_getElem? (i := 7) rfl)) ?_
  refine n_arr (L := 20) hT H9 (hL 20 (by decide)) (by decide +kernel) (by decide) rfl (by decide) rfl (by decide) (by decide) (by decide) (tX6_init_0_ok (15, .newarray .int, 2) (List.mem_of_getElem? (i := 8) rfl)) (fun b11 S12 g13 H14 s15 m16 o17 => ?_)
  refine n_put (own := 11) (ci := 6) (k := 1) [.ref b1, .ref b11, .null, .null, .null, .int 0, .long 0] rfl H14 rfl rfl (by decide) rfl rfl ⟨rfl, rfl⟩ (Nat.le_of_ble_eq_true rfl) (tX6_init_0_ok (17, .putfield 15, 3) (List.mem_of_getElem? (i := 9) rfl)) (fun g18 H19 f20 => ?_)
  refine tt_aload_n rfl (List.Mem.head _) (tX6_init_0_ok (20, .aload_n 0, 1) (List.mem_of_getElem? (i := 10) rfl)) ?_
  refine tt_bipush rfl (tX6_init_0_ok (21, .bipush 6, 2) (List.mem_of_getElem? (i := 11) rfl)) ?_
  refine n_arr (L := 21) hT H19 (hL 21 (by decide)) (by decide +kernel) (by decide) rfl (by decide) rfl (by decide) (by decide) (by decide) (tX6_init_0_ok (23, .newarray .boolean, 2) (List.mem_of_getElem? (i := 12) rfl)) (fun b21 S22 g23 H24 s25 m26 o27 => ?_)
  refine n_put (own := 11) (ci := 6) (k := 2) [.ref b1, .ref b11, .ref b21, .null, .null, .int 0, .long 0] rfl H24 rfl rfl (by decide) rfl rfl ⟨rfl, rfl⟩ (Nat.le_of_ble_eq_true rfl) (tX6_init_0_ok (25, .putfield 18, 3) (List.mem_of_getElem? (i := 13) rfl)) (fun g28 H29 f30 => ?_)
  refine tt_aload_n rfl (List.Mem.head _) (tX6_init_0_ok (28, .aload_n 0, 1) (List.mem_of_getElem? (i := 14) rfl)) ?_
  refine tt_bipush rfl (tX6_init_0_ok (29, .bipush 12, 2) (List.mem_of_getElem? (i := 15) rfl)) ?_
  refine n_arr (L := 22) hT H29 (hL 22 (by decide)) (by decide +kernel) (by decide) rfl (by decide) rfl (by decide) (by decide) (by decide) (tX6_init_0_ok (31, .newarray .int, 2) (List.mem_of_getElem? (i := 16) rfl)) (fun b31 S32 g33 H34 s35 m36 o37 => ?_)
  refine n_put (own := 11) (ci := 6) (k := 3) [.ref b1, .ref b11, .ref b21, .ref b31, .null, .int 0, .long 0] rfl H34 rfl rfl (by decide) rfl rfl ⟨rfl, rfl⟩ (Nat.le_of_ble_eq_true rfl) (tX6_init_0_ok (33, .putfield 22, 3) (List.mem_of_getElem? (i := 17) rfl)) (fun g38 H39 f40 => ?_)
  refine tt_aload_n rfl (List.Mem.head _) (tX6_init_0_ok (36, .aload_n 0, 1) (List.mem_of_getElem? (i := 18) rfl)) ?_
  refine tt_bipush rfl (tX6_init_0_ok (37, .bipush 8, 2) (List.mem_of_getElem? (i := 19) rfl)) ?_
  refine n_arr (L := 23) hT H39 (hL 23 (by decide)) (by decide +kernel) (by decide) rfl (by decide) rfl (by decide) (by decide) (by decide) (tX6_init_0_ok (39, .newarray .int, 2) (List.mem_of_getElem? (i := 20) rfl)) (fun b41 S42 g43 H44 s45 m46 o47 => ?_)
  refine n_put (own := 11) (ci := 6) (k := 4) [.ref b1, .ref b11, .ref b21, .ref b31, .ref b41, .int 0, .long 0] rfl H44 rfl rfl (by decide) rfl rfl ⟨rfl, rfl⟩ (Nat.le_of_ble_eq_true rfl) (tX6_init_0_ok (41, .putfield 25, 3) (List.mem_of_getElem? (i := 21) rfl)) (fun g48 H49 f50 => ?_)
  refine tt_vret rfl (H49.fin (L := 3) ?_) (by decide) (by decide) (tX6_init_0_ok (44, .return_, 1) (List.mem_of_getElem? (i := 22) rfl))
  rw [(hL 3 (by decide))]
  refine Or.inl ⟨rfl, _, rfl, rfl, fun k t hk => ?_⟩
  match k, hk with
  | 0, hk => cases hk; exact ⟨_, rfl, _, rfl, sg_le.up H49.2.2.1 _ _ (m46 _ _ (m36 _ _ (m26 _ _ (m16 _ _ s5))))⟩
  | 1, hk => cases hk; exact ⟨_, rfl, _, rfl, sg_le.up H49.2.2.1 _ _ (m46 _ _ (m36 _ _ (m26 _ _ s15)))⟩
  | 2, hk => cases hk; exact ⟨_, rfl, _, rfl, sg_le.up H49.2.2.1 _ _ (m46 _ _ (m36 _ _ s25))⟩
  | 3, hk => cases hk; exact ⟨_, rfl, _, rfl, sg_le.up H49.2.2.1 _ _ (m46 _ _ s35)⟩
  | 4, hk => cases hk; exact ⟨_, rfl, _, rfl, sg_le.up H49.2.2.1 _ _ s45⟩
  | 5, hk => cases hk; exact ⟨_, rfl, _, rfl, by decide, by decide⟩
  | 6, hk => cases hk; exact ⟨_, rfl, _, rfl⟩
  | k + 7, hk => cases hk
theorem n_X1_init (hT : k_tys tys cA) (hL : ∀ L, L < 50 → Lb9 L = Lb L) : k_nw l D tys A X cA Lb9 mX1_init 1 df_1 4 1 12 5 44 := by
  intro Sg a h hH ca sa
  have H0 : nS cA Lb9 Sg h a (.inr (1, df_1)) Sg h := ⟨hH, ca, sa, fun _ _ _ => ⟨rfl, rfl⟩⟩
  refine tt_aload_n rfl (List.Mem.head _) (tX1_init_0_ok (0, .aload_n 0, 1) (List.mem_of_getElem? (i := 0) rfl)) ?_
  refine tt_objInit (wA1 164 rfl rfl) (wA1 30 rfl rfl) (wA1 31 rfl rfl) (tX1_init_0_ok (1, .invokespecial 3, 3) (List.mem_of_getElem? (i := 1) rfl)) (by decide) (Nat.le_of_ble_eq_true rfl) ?_
  refine tt_aload_n rfl (List.Mem.head _) (tX1_init_0_ok (4, .aload_n 0, 1) (List.mem_of_getElem? (i := 2) rfl)) ?_
  refine tt_bipush rfl (tX1_init_0_ok (5, .bipush 6, 2) (List.mem_of_getElem? (i := 3) rfl)) ?_
  refine n_arr (L := 24) hT H0 (hL 24 (by decide)) (by decide +kernel) (by decide) rfl (by decide) rfl (by decide) (by decide) (by decide) (tX1_init_0_ok (7, .newarray .int, 2) (List.mem_of_getElem? (i := 4) rfl)) (fun b1 S2 g3 H4 s5 m6 o7 => ?_)
  refine n_put (own := 6) (ci := 1) (k := 1) [.int 0, .ref b1, .null, .int 0, .null, .int 0, .null, .null] rfl H4 rfl rfl (by decide) rfl rfl ⟨rfl, rfl⟩ (Nat.le_of_ble_eq_true rfl) (tX1_init_0_ok (9, .putfield 9, 3) (List.mem_of_getElem? (i := 5) rfl)) (fun g8 H9 f10 => ?_)
  refine tt_aload_n rfl (List.Mem.head _) (tX1_init_0_ok (12, .aload_n 0, 1) (List.mem_of_getElem? (i := 6) rfl)) ?_
  refine tt_bipush rfl (tX1_init_0_ok (13, .bipush 18, 2) (List.mem_of_getElem? (i := 7) rfl)) ?_
  refine n_arr (L := 25) hT H9 (hL 25 (by decide)) (by decide +kernel) (by decide) rfl (by decide) rfl (by decide) (by decide) (by decide) (tX1_init_0_ok (15, .newarray .int, 2) (List.mem_of_getElem? (i := 8) rfl)) (fun b11 S12 g13 H14 s15 m16 o17 => ?_)
  refine n_put (own := 6) (ci := 1) (k := 2) [.int 0, .ref b1, .ref b11, .int 0, .null, .int 0, .null, .null] rfl H14 rfl rfl (by decide) rfl rfl ⟨rfl, rfl⟩ (Nat.le_of_ble_eq_true rfl) (tX1_init_0_ok (17, .putfield 15, 3) (List.mem_of_getElem? (i := 9) rfl)) (fun g18 H19 f20 => ?_)
  refine tt_aload_n rfl (List.Mem.head _) (tX1_init_0_ok (20, .aload_n 0, 1) (List.mem_of_getElem? (i := 10) rfl)) ?_
  refine tt_bipush rfl (tX1_init_0_ok (21, .bipush 8, 2) (List.mem_of_getElem? (i := 11) rfl)) ?_
  refine n_arr (L := 26) hT H19 (hL 26 (by decide)) (by decide +kernel) (by decide) rfl (by decide) rfl (by decide) (by decide) (by decide) (tX1_init_0_ok (23, .newarray .int, 2) (List.mem_of_getElem? (i := 12) rfl)) (fun b21 S22 g23 H24 s25 m26 o27 => ?_)
  refine n_put (own := 6) (ci := 1) (k := 4) [.int 0, .ref b1, .ref b11, .int 0, .ref b21, .int 0, .null, .null] rfl H24 rfl rfl (by decide) rfl rfl ⟨rfl, rfl⟩ (Nat.le_of_ble_eq_true rfl) (tX1_init_0_ok (25, .putfield 18, 3) (List.mem_of_getElem? (i := 13) rfl)) (fun g28 H29 f30 => ?_)
  refine tt_aload_n rfl (List.Mem.head _) (tX1_init_0_ok (28, .aload_n 0, 1) (List.mem_of_getElem? (i := 14) rfl)) ?_
  refine tt_bipush rfl (tX1_init_0_ok (29, .bipush 6, 2) (List.mem_of_getElem? (i := 15) rfl)) ?_
  refine n_arr (L := 27) hT H29 (hL 27 (by decide)) (by decide +kernel) (by decide) rfl (by decide) rfl (by decide) (by decide) (by decide) (tX1_init_0_ok (31, .newarray .int, 2) (List.mem_of_getElem? (i := 16) rfl)) (fun b31 S32 g33 H34 s35 m36 o37 => ?_)
  refine n_put (own := 6) (ci := 1) (k := 6) [.int 0, .ref b1, .ref b11, .int 0, .ref b21, .int 0, .ref b31, .null] rfl H34 rfl rfl (by decide) rfl rfl ⟨rfl, rfl⟩ (Nat.le_of_ble_eq_true rfl) (tX1_init_0_ok (33, .putfield 21, 3) (List.mem_of_getElem? (i := 17) rfl)) (fun g38 H39 f40 => ?_)
  refine tt_aload_n rfl (List.Mem.head _) (tX1_init_0_ok (36, .aload_n 0, 1) (List.mem_of_getElem? (i := 18) rfl)) ?_
  refine tt_bipush rfl (tX1_init_0_ok (37, .bipush 6, 2) (List.mem_of_getElem? (i := 19) rfl)) ?_
  refine n_arr (L := 28) hT H39 (hL 28 (by decide)) (by decide +kernel) (by decide) rfl (by decide) rfl (by decide) (by decide) (by decide) (tX1_init_0_ok (39, .newarray .int, 2) (List.mem_of_getElem? (i := 20) rfl)) (fun b41 S42 g43 H44 s45 m46 o47 => ?_)
  refine n_put (own := 6) (ci := 1) (k := 7) [.int 0, .ref b1, .ref b11, .int 0, .ref b21, .int 0, .ref b31, .ref b41] rfl H44 rfl rfl (by decide) rfl rfl ⟨rfl, rfl⟩ (Nat.le_of_ble_eq_true rfl) (tX1_init_0_ok (41, .putfield 24, 3) (List.mem_of_getElem? (i := 21) rfl)) (fun g48 H49 f50 => ?_)
  refine tt_vret rfl (H49.fin (L := 4) ?_) (by decide) (by decide) (tX1_init_0_ok (44, .return_, 1) (List.mem_of_getElem? (i := 22) rfl))
  rw [(hL 4 (by decide))]
  refine Or.inl ⟨rfl, _, rfl, rfl, fun k t hk => ?_⟩
  match k, hk with
  | 0, hk => cases hk; exact ⟨_, rfl, _, rfl, by decide, by decide⟩
  | 1, hk => cases hk; exact ⟨_, rfl, _, rfl, sg_le.up H49.2.2.1 _ _ (m46 _ _ (m36 _ _ (m26 _ _ (m16 _ _ s5))))⟩
  | 2, hk => cases hk; exact ⟨_, rfl, _, rfl, sg_le.up H49.2.2.1 _ _ (m46 _ _ (m36 _ _ (m26 _ _ s15)))⟩
  | 3, hk => cases hk; exact ⟨_, rfl, _, rfl, by decide, by decide⟩
  | 4, hk => cases hk; exact ⟨_, rfl, _, rfl, sg_le.up H49.2.2.1 _ _ (m46 _ _ (m36 _ _ s25))⟩
  | 5, hk => cases hk; exact ⟨_, rfl, _, rfl, by decide, by decide⟩
  | 6, hk => cases hk; exact ⟨_, rfl, _, rfl, sg_le.up H49.2.2.1 _ _ (m46 _ _ s35)⟩
  | 7, hk => cases hk; exact ⟨_, rfl, _, rfl, sg_le.up H49.2.2.1 _ _ s45⟩
  | k + 8, hk => cases hk
theorem n_X9_init (hT : k_tys tys cA) (hL : ∀ L, L < 50 → Lb9 L = Lb L) : k_nw l D tys A X cA Lb9 mX9_init 8 df_8 5 1 12 3 36 := by
  intro Sg a h hH ca sa
  have H0 : nS cA Lb9 Sg h a (.inr (8, df_8)) Sg h := ⟨hH, ca, sa, fun _ _ _ => ⟨rfl, rfl⟩⟩
  refine tt_aload_n rfl (List.Mem.head _) (tX9_init_0_ok (0, .aload_n 0, 1) (List.mem_of_getElem? (i := 0) rfl)) ?_
  refine tt_objInit (wA1 210 rfl rfl) (wA1 30 rfl rfl) (wA1 31 rfl rfl) (tX9_init_0_ok (1, .invokespecial 3, 3) (List.mem_of_getElem? (i := 1) rfl)) (by decide) (Nat.le_of_ble_eq_true rfl) ?_
  refine tt_aload_n rfl (List.Mem.head _) (tX9_init_0_ok (4, .aload_n 0, 1) (List.mem_of_getElem? (i := 2) rfl)) ?_
  refine tt_bipush rfl (tX9_init_0_ok (5, .bipush 12, 2) (List.mem_of_getElem? (i := 3) rfl)) ?_
  refine n_arr (L := 29) hT H0 (hL 29 (by decide)) (by decide +kernel) (by decide) rfl (by decide) rfl (by decide) (by decide) (by decide) (tX9_init_0_ok (7, .newarray .int, 2) (List.mem_of_getElem? (i := 4) rfl)) (fun b1 S2 g3 H4 s5 m6 o7 => ?_)
  refine n_put (own := 14) (ci := 8) (k := 0) [.ref b1, .null, .null] rfl H4 rfl rfl (by decide) rfl rfl ⟨rfl, rfl⟩ (Nat.le_of_ble_eq_true rfl) (tX9_init_0_ok (9, .putfield 9, 3) (List.mem_of_getElem? (i := 5) rfl)) (fun g8 H9 f10 => ?_)
  refine tt_aload_n rfl (List.Mem.head _) (tX9_init_0_ok (12, .aload_n 0, 1) (List.mem_of_getElem? (i := 6) rfl)) ?_
  refine tt_bipush rfl (tX9_init_0_ok (13, .bipush 6, 2) (List.mem_of_getElem? (i := 7) rfl)) ?_
  refine n_arr (L := 30) hT H9 (hL 30 (by decide)) (by decide +kernel) (by decide) rfl (by decide) rfl (by decide) (by decide) (by decide) (tX9_init_0_ok (15, .newarray .int, 2) (List.mem_of_getElem? (i := 8) rfl)) (fun b11 S12 g13 H14 s15 m16 o17 => ?_)
  refine n_put (own := 14) (ci := 8) (k := 1) [.ref b1, .ref b11, .null] rfl H14 rfl rfl (by decide) rfl rfl ⟨rfl, rfl⟩ (Nat.le_of_ble_eq_true rfl) (tX9_init_0_ok (17, .putfield 15, 3) (List.mem_of_getElem? (i := 9) rfl)) (fun g18 H19 f20 => ?_)
  refine tt_aload_n rfl (List.Mem.head _) (tX9_init_0_ok (20, .aload_n 0, 1) (List.mem_of_getElem? (i := 10) rfl)) ?_
  refine tt_bipush rfl (tX9_init_0_ok (21, .bipush 18, 2) (List.mem_of_getElem? (i := 11) rfl)) ?_
  refine n_arr (L := 31) hT H19 (hL 31 (by decide)) (by decide +kernel) (by decide) rfl (by decide) rfl (by decide) (by decide) (by decide) (tX9_init_0_ok (23, .newarray .int, 2) (List.mem_of_getElem? (i := 12) rfl)) (fun b21 S22 g23 H24 s25 m26 o27 => ?_)
  refine n_put (own := 14) (ci := 8) (k := 2) [.ref b1, .ref b11, .ref b21] rfl H24 rfl rfl (by decide) rfl rfl ⟨rfl, rfl⟩ (Nat.le_of_ble_eq_true rfl) (tX9_init_0_ok (25, .putfield 18, 3) (List.mem_of_getElem? (i := 13) rfl)) (fun g28 H29 f30 => ?_)
  refine tt_vret rfl (H29.fin (L := 5) ?_) (by decide) (by decide) (tX9_init_0_ok (28, .return_, 1) (List.mem_of_getElem? (i := 14) rfl))
  rw [(hL 5 (by decide))]
  refine Or.inl ⟨rfl, _, rfl, rfl, fun k t hk => ?_⟩
  match k, hk with
  | 0, hk => cases hk; exact ⟨_, rfl, _, rfl, sg_le.up H29.2.2.1 _ _ (m26 _ _ (m16 _ _ s5))⟩
  | 1, hk => cases hk; exact ⟨_, rfl, _, rfl, sg_le.up H29.2.2.1 _ _ (m26 _ _ s15)⟩
  | 2, hk => cases hk; exact ⟨_, rfl, _, rfl, sg_le.up H29.2.2.1 _ _ s25⟩
  | k + 3, hk => cases hk
theorem n_X5_init (hT : k_tys tys cA) (hL : ∀ L, L < 50 → Lb9 L = Lb L) : k_nw l D tys A X cA Lb9 mX5_init 5 df_5 6 1 12 2 256 := by
  intro Sg a h hH ca sa
  have H0 : nS cA Lb9 Sg h a (.inr (5, df_5)) Sg h := ⟨hH, ca, sa, fun _ _ _ => ⟨rfl, rfl⟩⟩
  refine tt_aload_n rfl (List.Mem.head _) (tX5_init_0_ok (0, .aload_n 0, 1) (List.mem_of_getElem? (i := 0) rfl)) ?_
  refine tt_objInit (wA1 230 rfl rfl) (wA1 30 rfl rfl) (wA1 31 rfl rfl) (tX5_init_0_ok (1, .invokespecial 3, 3) (List.mem_of_getElem? (i := 1) rfl)) (by decide) (Nat.le_of_ble_eq_true rfl) ?_
  refine tt_aload_n rfl (List.Mem.head _) (tX5_init_0_ok (4, .aload_n 0, 1) (List.mem_of_getElem? (i := 2) rfl)) ?_
  refine tt_sipush rfl (tX5_init_0_ok (5, .sipush 192, 3) (List.mem_of_getElem? (i := 3) rfl)) ?_
  refine n_arr (L := 36) hT H0 (hL 36 (by decide)) (by decide +kernel) (by decide) rfl (by decide) rfl (by decide) (by decide) (by decide) (tX5_init_0_ok (8, .newarray .int, 2) (List.mem_of_getElem? (i := 4) rfl)) (fun b1 S2 g3 H4 s5 m6 o7 => ?_)
  refine n_put (own := 10) (ci := 5) (k := 0) [.ref b1, .int 0, .null] rfl H4 rfl rfl (by decide) rfl rfl ⟨rfl, rfl⟩ (Nat.le_of_ble_eq_true rfl) (tX5_init_0_ok (10, .putfield 11, 3) (List.mem_of_getElem? (i := 5) rfl)) (fun g8 H9 f10 => ?_)
  refine tt_aload_n rfl (List.Mem.head _) (tX5_init_0_ok (13, .aload_n 0, 1) (List.mem_of_getElem? (i := 6) rfl)) ?_
  refine tt_bipush rfl (tX5_init_0_ok (14, .bipush 64, 2) (List.mem_of_getElem? (i := 7) rfl)) ?_
  refine n_arr (L := 37) hT H9 (hL 37 (by decide)) (by decide +kernel) (by decide) rfl (by decide) rfl (by decide) (by decide) (by decide) (tX5_init_0_ok (16, .newarray .int, 2) (List.mem_of_getElem? (i := 8) rfl)) (fun b11 S12 g13 H14 s15 m16 o17 => ?_)
  refine n_put (own := 10) (ci := 5) (k := 2) [.ref b1, .int 0, .ref b11] rfl H14 rfl rfl (by decide) rfl rfl ⟨rfl, rfl⟩ (Nat.le_of_ble_eq_true rfl) (tX5_init_0_ok (18, .putfield 15, 3) (List.mem_of_getElem? (i := 9) rfl)) (fun g18 H19 f20 => ?_)
  refine tt_vret rfl (H19.fin (L := 6) ?_) (by decide) (by decide) (tX5_init_0_ok (21, .return_, 1) (List.mem_of_getElem? (i := 10) rfl))
  rw [(hL 6 (by decide))]
  refine Or.inl ⟨rfl, _, rfl, rfl, fun k t hk => ?_⟩
  match k, hk with
  | 0, hk => cases hk; exact ⟨_, rfl, _, rfl, sg_le.up H19.2.2.1 _ _ (m16 _ _ s5)⟩
  | 1, hk => cases hk; exact ⟨_, rfl, _, rfl, by decide, by decide⟩
  | 2, hk => cases hk; exact ⟨_, rfl, _, rfl, sg_le.up H19.2.2.1 _ _ s15⟩
  | k + 3, hk => cases hk
theorem n_X3_init (hT : k_tys tys cA) (hL : ∀ L, L < 50 → Lb9 L = Lb L) : k_nw l D tys A X cA Lb9 mX3_init 3 df_3 7 1 12 4 42 := by
  intro Sg a h hH ca sa
  have H0 : nS cA Lb9 Sg h a (.inr (3, df_3)) Sg h := ⟨hH, ca, sa, fun _ _ _ => ⟨rfl, rfl⟩⟩
  refine tt_aload_n rfl (List.Mem.head _) (tX3_init_0_ok (0, .aload_n 0, 1) (List.mem_of_getElem? (i := 0) rfl)) ?_
  refine tt_objInit (wA2 6 rfl rfl) (wA1 30 rfl rfl) (wA1 31 rfl rfl) (tX3_init_0_ok (1, .invokespecial 3, 3) (List.mem_of_getElem? (i := 1) rfl)) (by decide) (Nat.le_of_ble_eq_true rfl) ?_
  refine tt_aload_n rfl (List.Mem.head _) (tX3_init_0_ok (4, .aload_n 0, 1) (List.mem_of_getElem? (i := 2) rfl)) ?_
  refine tt_bipush rfl (tX3_init_0_ok (5, .bipush 12, 2) (List.mem_of_getElem? (i := 3) rfl)) ?_
  refine n_arr (L := 38) hT H0 (hL 38 (by decide)) (by decide +kernel) (by decide) rfl (by decide) rfl (by decide) (by decide) (by decide) (tX3_init_0_ok (7, .newarray .int, 2) (List.mem_of_getElem? (i := 4) rfl)) (fun b1 S2 g3 H4 s5 m6 o7 => ?_)
  refine n_put (own := 8) (ci := 3) (k := 0) [.ref b1, .null, .int 0, .null, .null] rfl H4 rfl rfl (by decide) rfl rfl ⟨rfl, rfl⟩ (Nat.le_of_ble_eq_true rfl) (tX3_init_0_ok (9, .putfield 9, 3) (List.mem_of_getElem? (i := 5) rfl)) (fun g8 H9 f10 => ?_)
  refine tt_aload_n rfl (List.Mem.head _) (tX3_init_0_ok (12, .aload_n 0, 1) (List.mem_of_getElem? (i := 6) rfl)) ?_
  refine tt_bipush rfl (tX3_init_0_ok (13, .bipush 12, 2) (List.mem_of_getElem? (i := 7) rfl)) ?_
  refine n_arr (L := 39) hT H9 (hL 39 (by decide)) (by decide +kernel) (by decide) rfl (by decide) rfl (by decide) (by decide) (by decide) (tX3_init_0_ok (15, .newarray .int, 2) (List.mem_of_getElem? (i := 8) rfl)) (fun b11 S12 g13 H14 s15 m16 o17 => ?_)
  refine n_put (own := 8) (ci := 3) (k := 1) [.ref b1, .ref b11, .int 0, .null, .null] rfl H14 rfl rfl (by decide) rfl rfl ⟨rfl, rfl⟩ (Nat.le_of_ble_eq_true rfl) (tX3_init_0_ok (17, .putfield 15, 3) (List.mem_of_getElem? (i := 9) rfl)) (fun g18 H19 f20 => ?_)
  refine tt_aload_n rfl (List.Mem.head _) (tX3_init_0_ok (20, .aload_n 0, 1) (List.mem_of_getElem? (i := 10) rfl)) ?_
  refine tt_bipush rfl (tX3_init_0_ok (21, .bipush 12, 2) (List.mem_of_getElem? (i := 11) rfl)) ?_
  refine n_arr (L := 40) hT H19 (hL 40 (by decide)) (by decide +kernel) (by decide) rfl (by decide) rfl (by decide) (by decide) (by decide) (tX3_init_0_ok (23, .newarray .int, 2) (List.mem_of_getElem? (i := 12) rfl)) (fun b21 S22 g23 H24 s25 m26 o27 => ?_)
  refine n_put (own := 8) (ci := 3) (k := 3) [.ref b1, .ref b11, .int 0, .ref b21, .null] rfl H24 rfl rfl (by decide) rfl rfl ⟨rfl, rfl⟩ (Nat.le_of_ble_eq_true rfl) (tX3_init_0_ok (25, .putfield 18, 3) (List.mem_of_getElem? (i := 13) rfl)) (fun g28 H29 f30 => ?_)
  refine tt_aload_n rfl (List.Mem.head _) (tX3_init_0_ok (28, .aload_n 0, 1) (List.mem_of_getElem? (i := 14) rfl)) ?_
  refine tt_bipush rfl (tX3_init_0_ok (29, .bipush 6, 2) (List.mem_of_getElem? (i := 15) rfl)) ?_
  refine n_arr (L := 41) hT H29 (hL 41 (by decide)) (by decide +kernel) (by decide) rfl (by decide) rfl (by decide) (by decide) (by decide) (tX3_init_0_ok (31, .newarray .int, 2) (List.mem_of_getElem? (i := 16) rfl)) (fun b31 S32 g33 H34 s35 m36 o37 => ?_)
  refine n_put (own := 8) (ci := 3) (k := 4) [.ref b1, .ref b11, .int 0, .ref b21, .ref b31] rfl H34 rfl rfl (by decide) rfl rfl ⟨rfl, rfl⟩ (Nat.le_of_ble_eq_true rfl) (tX3_init_0_ok (33, .putfield 21, 3) (List.mem_of_getElem? (i := 17) rfl)) (fun g38 H39 f40 => ?_)
  refine tt_vret rfl (H39.fin (L := 7) ?_) (by decide) (by decide) (tX3_init_0_ok (36, .return_, 1) (List.mem_of_getElem? (i := 18) rfl))
  rw [(hL 7 (by decide))]
  refine Or.inl ⟨rfl, _, rfl, rfl, fun k t hk => ?_⟩
  match k, hk with
  | 0, hk => cases hk; exact ⟨_, rfl, _, rfl, sg_le.up H39.2.2.1 _ _ (m36 _ _ (m26 _ _ (m16 _ _ s5)))⟩
  | 1, hk => cases hk; exact ⟨_, rfl, _, rfl, sg_le.up H39.2.2.1 _ _ (m36 _ _ (m26 _ _ s15))⟩
  | 2, hk => cases hk; exact ⟨_, rfl, _, rfl, by decide, by decide⟩
  | 3, hk => cases hk; exact ⟨_, rfl, _, rfl, sg_le.up H39.2.2.1 _ _ (m36 _ _ s25)⟩
  | 4, hk => cases hk; exact ⟨_, rfl, _, rfl, sg_le.up H39.2.2.1 _ _ s35⟩
  | k + 5, hk => cases hk
theorem n_tab {h0 h g : ch_H} {Sg0 Sg : Nat → Option Nat} {a q : Nat} {e : va_E} {r : Nat → Nat} (hL : ∀ L, L < 50 → Lb9 L = Lb L) (H : nS cA Lb9 Sg0 h0 a e Sg h) (h1 : h q = none) (h2 : ∀ i, i < 6 → h (r i) = none ∧ r i ≠ q) (h3 : g q = some (.inl (cA 5, 6, .inr (.inr (.inr (.inr (fun i => if i < 6 then some (r i) else none))))))) (h4 : ∀ i, i < 6 → g (r i) = some (.inl (cA 0, 121, .inl (fun _ => 0)))) (h5 : ∀ b, b ≠ q → (∀ i, i < 6 → b ≠ r i) → g b = h b) : ∃ Sg1, nS cA Lb9 Sg0 h0 a e Sg1 g ∧ Sg1 q = some 42 ∧ sg_le Sg Sg1 := by
  have sn : ∀ b M, Sg b = some M → b ≠ q ∧ ∀ i, i < 6 → b ≠ r i := fun b M hb => ⟨fun e => H.1.some_ hb (by rw [e]; exact h1), fun i hi e => H.1.some_ hb (by rw [e]; exact (h2 i hi).1)⟩
  have on : ∀ b, h b ≠ none → b ≠ q ∧ ∀ i, i < 6 → b ≠ r i := fun b hb => ⟨fun e => hb (by rw [e]; exact h1), fun i hi e => hb (by rw [e]; exact (h2 i hi).1)⟩
  have hrow : ∀ i, i < 6 → (fun b => if b = q then some 42 else if b ∈ (List.range 6).map r then some 43 else Sg b) (r i) = some 43 := fun i hi => by
    dsimp only
    rw [if_neg (h2 i hi).2, if_pos (List.mem_map.mpr ⟨i, List.mem_range.mpr hi, rfl⟩)]
  have hold : ∀ b, b ≠ q → (∀ i, i < 6 → b ≠ r i) → (fun b => if b = q then some 42 else if b ∈ (List.range 6).map r then some 43 else Sg b) b = Sg b := fun b b1 b2 => by
    dsimp only
    rw [if_neg b1, if_neg (fun hm => by
      obtain ⟨i, hi, e⟩ := List.mem_map.mp hm
      exact b2 i (List.mem_range.mp hi) e.symm)]
  have hle : sg_le Sg (fun b => if b = q then some 42 else if b ∈ (List.range 6).map r then some 43 else Sg b) := fun b M hb => (hold b (sn b M hb).1 (sn b M hb).2).trans hb
  have ha := on a (by rw [H.2.1]; exact fun q => by cases q)
  refine ⟨_, ⟨fun b M hb => ?_, (h5 a ha.1 ha.2).trans H.2.1, (hold a ha.1 ha.2).trans H.2.2.1, fun b hb hn => ?_⟩, if_pos rfl, hle⟩
  · split at hb
    · next eb =>
      cases hb
      subst eb
      refine ⟨_, h3, ?_⟩
      rw [hL 42 (by decide)]
      refine Or.inr (Or.inr ⟨rfl, _, rfl, fun i hi => ?_⟩)
      have hi : i < 6 := hi
      rw [if_pos hi]
      exact ⟨r i, rfl, hrow i hi⟩
    · split at hb
      · next hm =>
        cases hb
        obtain ⟨i, hi, e⟩ := List.mem_map.mp hm
        subst e
        refine ⟨_, h4 i (List.mem_range.mp hi), ?_⟩
        rw [hL 43 (by decide)]
        exact Or.inr (Or.inl ⟨rfl, _, rfl, fun i hi => ⟨by show (-2147483648 : Int) ≤ 0; decide, by show (0 : Int) ≤ 2147483647; decide⟩⟩)
      · obtain ⟨e9, e1, e2⟩ := H.1 b M hb
        exact ⟨e9, by rw [h5 b (sn b M hb).1 (sn b M hb).2]; exact e1, e2.le hle⟩
  · have w := H.2.2.2 b hb hn
    have wn := on b (by rw [w.1]; exact hn)
    exact ⟨(h5 b wn.1 wn.2).trans w.1, (hold b wn.1 wn.2).trans w.2⟩
theorem n_X0_init (hT : k_tys tys cA) (hN : k_NX X) (hL : ∀ L, L < 50 → Lb9 L = Lb L) : k_nw l D tys A X cA Lb9 mX0_init 0 df_0 8 1 12 8 738 := by
  intro Sg a h hH ca sa
  have H0 : nS cA Lb9 Sg h a (.inr (0, df_0)) Sg h := ⟨hH, ca, sa, fun _ _ _ => ⟨rfl, rfl⟩⟩
  refine tt_aload_n rfl (List.Mem.head _) (tX0_init_0_ok (0, .aload_n 0, 1) (List.mem_of_getElem? (i := 0) rfl)) ?_
  refine tt_objInit (wA2 29 rfl rfl) (wA1 30 rfl rfl) (wA1 31 rfl rfl) (tX0_init_0_ok (1, .invokespecial 3, 3) (List.mem_of_getElem? (i := 1) rfl)) (by decide) (Nat.le_of_ble_eq_true rfl) ?_
  refine tt_aload_n rfl (List.Mem.head _) (tX0_init_0_ok (4, .aload_n 0, 1) (List.mem_of_getElem? (i := 2) rfl)) ?_
  refine tt_bipush rfl (tX0_init_0_ok (5, .bipush 6, 2) (List.mem_of_getElem? (i := 3) rfl)) ?_
  refine tt_bipush rfl (tX0_init_0_ok (7, .bipush 121, 2) (List.mem_of_getElem? (i := 4) rfl)) ?_
  refine tt_mna (N' := 6) (K' := 121) (wA2 30 rfl rfl) wArr_int (fun s x => (hN s x).2.2.2.2.2.2.2.2.2.2.2) (hT 0 (by decide)) (hT 5 (by decide)) (by decide) (by decide) rfl rfl (by decide) (by decide) (by decide) (by decide) (by decide) (tX0_init_0_ok (9, .multianewarray 11 2, 4) (List.mem_of_getElem? (i := 5) rfl)) (fun q r g h1 h2 h3 h4 h5 => ?_)
  obtain ⟨S1, H1, s1, m1⟩ := n_tab hL H0 h1 h2 h3 h4 h5
  refine n_put (own := 5) (ci := 0) (k := 0) [.ref q, .null, .int 0] rfl H1 rfl rfl (by decide) rfl rfl ⟨rfl, rfl⟩ (Nat.le_of_ble_eq_true rfl) (tX0_init_0_ok (13, .putfield 13, 3) (List.mem_of_getElem? (i := 6) rfl)) (fun g2 H2 f2 => ?_)
  refine tt_aload_n rfl (List.Mem.head _) (tX0_init_0_ok (16, .aload_n 0, 1) (List.mem_of_getElem? (i := 7) rfl)) ?_
  refine tt_bipush rfl (tX0_init_0_ok (17, .bipush 6, 2) (List.mem_of_getElem? (i := 8) rfl)) ?_
  refine n_arr (L := 44) hT H2 (hL 44 (by decide)) (by decide +kernel) (by decide) rfl (by decide) rfl (by decide) (by decide) (by decide) (tX0_init_0_ok (19, .newarray .int, 2) (List.mem_of_getElem? (i := 9) rfl)) (fun b3 S3 g3 H3 s3 m3 o3 => ?_)
  refine n_put (own := 5) (ci := 0) (k := 1) [.ref q, .ref b3, .int 0] rfl H3 rfl rfl (by decide) rfl rfl ⟨rfl, rfl⟩ (Nat.le_of_ble_eq_true rfl) (tX0_init_0_ok (21, .putfield 16, 3) (List.mem_of_getElem? (i := 10) rfl)) (fun g4 H4 f4 => ?_)
  refine tt_vret rfl (H4.fin (L := 8) ?_) (by decide) (by decide) (tX0_init_0_ok (24, .return_, 1) (List.mem_of_getElem? (i := 11) rfl))
  rw [(hL 8 (by decide))]
  refine Or.inl ⟨rfl, _, rfl, rfl, fun k t hk => ?_⟩
  match k, hk with
  | 0, hk => cases hk; exact ⟨_, rfl, _, rfl, sg_le.up H4.2.2.1 _ _ (m3 _ _ s1)⟩
  | 1, hk => cases hk; exact ⟨_, rfl, _, rfl, sg_le.up H4.2.2.1 _ _ s3⟩
  | 2, hk => cases hk; exact ⟨_, rfl, _, rfl, by decide, by decide⟩
  | k + 3, hk => cases hk
theorem n_X2_init (hT : k_tys tys cA) (hN : k_NX X) (hL : ∀ L, L < 50 → Lb9 L = Lb L) : k_nw l D tys A X cA Lb9 mX2_init 2 df_2 9 2 32 43 322 := by
  intro Sg a h hH ca sa
  have H0 : nS cA Lb9 Sg h a (.inr (2, df_2)) Sg h := ⟨hH, ca, sa, fun _ _ _ => ⟨rfl, rfl⟩⟩
  refine tt_aload_n rfl (List.Mem.head _) (tX2_init_0_ok (0, .aload_n 0, 1) (List.mem_of_getElem? (i := 0) rfl)) ?_
  refine tt_objInit (wA2 47 rfl rfl) (wA1 30 rfl rfl) (wA1 31 rfl rfl) (tX2_init_0_ok (1, .invokespecial 3, 3) (List.mem_of_getElem? (i := 1) rfl)) (by decide) (Nat.le_of_ble_eq_true rfl) ?_
  refine tt_aload_n rfl (List.Mem.head _) (tX2_init_0_ok (4, .aload_n 0, 1) (List.mem_of_getElem? (i := 2) rfl)) ?_
  refine tt_bipush rfl (tX2_init_0_ok (5, .bipush 7, 2) (List.mem_of_getElem? (i := 3) rfl)) ?_
  refine tt_newq (N' := 7) (wA2 48 rfl rfl) (fun s x => (hN s x).2.2.2.2.2.2.2.2.2.2.1) (hT 3 (by decide)) (by decide) rfl (by decide) (by decide) (by decide) (tX2_init_0_ok (7, .anewarray 9, 3) (List.mem_of_getElem? (i := 4) rfl)) (fun r hr => ?_)
  have n_r_a : r ≠ a := fun q => by rw [q, ca] at hr; cases hr
  have H1 := H0.raw (eb := .inl (cA 3, 7, .inr (.inr (.inr (.inr (fun _ => none)))))) hr
  refine n_put (own := 7) (ci := 2) (k := 0) [.ref r, .int 0, .int 0] rfl H1 rfl rfl (by decide) rfl rfl ⟨rfl, rfl⟩ (Nat.le_of_ble_eq_true rfl) (tX2_init_0_ok (10, .putfield 11, 3) (List.mem_of_getElem? (i := 5) rfl)) (fun g2 H2 f2 => ?_)
  have sr : Sg r = none := H0.1.none_ hr
  have J0 : nS cA Lb9 Sg g2 r (.inl (cA 3, 7, .inr (.inr (.inr (.inr (fun _ => none)))))) Sg g2 := ⟨H2.1, (f2 r n_r_a).trans (ch_up_s _ _ _), sr, fun _ _ _ => ⟨rfl, rfl⟩⟩
  have ga : g2 a = some (.inr (2, [.ref r, .int 0, .int 0])) := H2.2.1
  have gn : g2 a ≠ none := by rw [ga]; exact fun q => by cases q
  refine tt_iconst rfl (tX2_init_0_ok (13, .iconst 0, 1) (List.mem_of_getElem? (i := 6) rfl)) ?_
  refine tt_istore_n rfl (tX2_init_0_ok (14, .istore_n 1, 1) (List.mem_of_getElem? (i := 7) rfl)) (by decide) ?_
  show tt l D tys A X _ _ _ _ mX2_init _ 15 [(1, .int 0), (0, .ref a)] [] g2 _ _
  refine tt_iload_n rfl (List.Mem.head _) (tX2_init_0_ok (15, .iload_n 1, 1) (List.mem_of_getElem? (i := 8) rfl)) ?_
  refine tt_bipush rfl (tX2_init_0_ok (16, .bipush 6, 2) (List.mem_of_getElem? (i := 9) rfl)) ?_
  refine tt_icmp_gt (tgt := 40) (tX2_init_0_ok (18, .if_icmp .gt 22, 3) (List.mem_of_getElem? (i := 10) rfl)) rfl (fun b9 => absurd b9 (by decide)) (fun b9 => ?_)
  refine tt_aload_n rfl (List.Mem.tail _ (List.Mem.head _)) (tX2_init_0_ok (21, .aload_n 0, 1) (List.mem_of_getElem? (i := 11) rfl)) ?_
  refine tt_get (pg_k 2 (by decide)) ((J0.2.2.2 a (Ne.symm n_r_a) gn).1.trans ga) (by decide) (pg_fw 7 _ (k_fd_ok (q := (2, 0)) rfl)) rfl (tX2_init_0_ok (22, .getfield 11, 3) (List.mem_of_getElem? (i := 12) rfl)) ?_
  refine tt_iload_n rfl (List.Mem.head _) (tX2_init_0_ok (25, .iload_n 1, 1) (List.mem_of_getElem? (i := 13) rfl)) ?_
  refine n_obj J0 (n_X6_init hT hL) (wA2 48 rfl rfl) (wA1 116 rfl rfl) (wA1 4 rfl rfl) (by decide) df_6_ok kX6_init rfl rfl (Or.inl ⟨_, (fun s x => (hN s x).2.2.2.2.2.2.2.2.1)⟩) iX6_init (by decide) (by decide) (by decide) (Nat.le_of_ble_eq_true rfl) (fun _ => Nat.le_of_ble_eq_true rfl) (tX2_init_0_ok (26, .new 9, 3) (List.mem_of_getElem? (i := 14) rfl)) (tX2_init_0_ok (29, .dup, 1) (List.mem_of_getElem? (i := 15) rfl)) (tX2_init_0_ok (30, .invokespecial 17, 3) (List.mem_of_getElem? (i := 16) rfl)) (fun b0 S0 x0 K0 s0 m0 o0 => ?_)
  obtain ⟨v0, w0, -, -⟩ := K0.1.obj s0 (hL 3 (by decide))
  refine tt_aast K0.2.1 (hT 3 (by decide)) w0 (r := (RX6, TX6, 7)) rfl (kn_in (by decide) (by decide)) (tX2_init_0_ok (33, .aastore, 1) (List.mem_of_getElem? (i := 17) rfl)) ?_
  have L0 := K0.put (e2 := .inl (cA 3, 7, .inr (.inr (.inr (.inr (va_up (fun _ => none) (Int32.toNatClampNeg 0) (some b0)))))))
  refine tt_iinc (tX2_init_0_ok (34, .iinc 1 1, 3) (List.mem_of_getElem? (i := 18) rfl)) (List.Mem.head _) (by decide) ?_
  refine tt_goto (tgt := 15) (tX2_init_0_ok (37, .goto (-22), 3) (List.mem_of_getElem? (i := 19) rfl)) rfl ?_
  show tt l D tys A X _ _ _ _ mX2_init _ 15 [(1, .int 1), (0, .ref a)] [] _ _ _
  refine tt_iload_n rfl (List.Mem.head _) (tX2_init_0_ok (15, .iload_n 1, 1) (List.mem_of_getElem? (i := 8) rfl)) ?_
  refine tt_bipush rfl (tX2_init_0_ok (16, .bipush 6, 2) (List.mem_of_getElem? (i := 9) rfl)) ?_
  refine tt_icmp_gt (tgt := 40) (tX2_init_0_ok (18, .if_icmp .gt 22, 3) (List.mem_of_getElem? (i := 10) rfl)) rfl (fun b9 => absurd b9 (by decide)) (fun b9 => ?_)
  refine tt_aload_n rfl (List.Mem.tail _ (List.Mem.head _)) (tX2_init_0_ok (21, .aload_n 0, 1) (List.mem_of_getElem? (i := 11) rfl)) ?_
  refine tt_get (pg_k 2 (by decide)) ((L0.2.2.2 a (Ne.symm n_r_a) gn).1.trans ga) (by decide) (pg_fw 7 _ (k_fd_ok (q := (2, 0)) rfl)) rfl (tX2_init_0_ok (22, .getfield 11, 3) (List.mem_of_getElem? (i := 12) rfl)) ?_
  refine tt_iload_n rfl (List.Mem.head _) (tX2_init_0_ok (25, .iload_n 1, 1) (List.mem_of_getElem? (i := 13) rfl)) ?_
  refine n_obj L0 (n_X6_init hT hL) (wA2 48 rfl rfl) (wA1 116 rfl rfl) (wA1 4 rfl rfl) (by decide) df_6_ok kX6_init rfl rfl (Or.inl ⟨_, (fun s x => (hN s x).2.2.2.2.2.2.2.2.1)⟩) iX6_init (by decide) (by decide) (by decide) (Nat.le_of_ble_eq_true rfl) (fun _ => Nat.le_of_ble_eq_true rfl) (tX2_init_0_ok (26, .new 9, 3) (List.mem_of_getElem? (i := 14) rfl)) (tX2_init_0_ok (29, .dup, 1) (List.mem_of_getElem? (i := 15) rfl)) (tX2_init_0_ok (30, .invokespecial 17, 3) (List.mem_of_getElem? (i := 16) rfl)) (fun b1 S1 x1 K1 s1 m1 o1 => ?_)
  obtain ⟨v1, w1, -, -⟩ := K1.1.obj s1 (hL 3 (by decide))
  refine tt_aast K1.2.1 (hT 3 (by decide)) w1 (r := (RX6, TX6, 7)) rfl (kn_in (by decide) (by decide)) (tX2_init_0_ok (33, .aastore, 1) (List.mem_of_getElem? (i := 17) rfl)) ?_
  have L1 := K1.put (e2 := .inl (cA 3, 7, .inr (.inr (.inr (.inr (va_up (va_up (fun _ => none) (Int32.toNatClampNeg 0) (some b0)) (Int32.toNatClampNeg 1) (some b1)))))))
  refine tt_iinc (tX2_init_0_ok (34, .iinc 1 1, 3) (List.mem_of_getElem? (i := 18) rfl)) (List.Mem.head _) (by decide) ?_
  refine tt_goto (tgt := 15) (tX2_init_0_ok (37, .goto (-22), 3) (List.mem_of_getElem? (i := 19) rfl)) rfl ?_
  show tt l D tys A X _ _ _ _ mX2_init _ 15 [(1, .int 2), (0, .ref a)] [] _ _ _
  refine tt_iload_n rfl (List.Mem.head _) (tX2_init_0_ok (15, .iload_n 1, 1) (List.mem_of_getElem? (i := 8) rfl)) ?_
  refine tt_bipush rfl (tX2_init_0_ok (16, .bipush 6, 2) (List.mem_of_getElem? (i := 9) rfl)) ?_
  refine tt_icmp_gt (tgt := 40) (tX2_init_0_ok (18, .if_icmp .gt 22, 3) (List.mem_of_getElem? (i := 10) rfl)) rfl (fun b9 => absurd b9 (by decide)) (fun b9 => ?_)
  refine tt_aload_n rfl (List.Mem.tail _ (List.Mem.head _)) (tX2_init_0_ok (21, .aload_n 0, 1) (List.mem_of_getElem? (i := 11) rfl)) ?_
  refine tt_get (pg_k 2 (by decide)) ((L1.2.2.2 a (Ne.symm n_r_a) gn).1.trans ga) (by decide) (pg_fw 7 _ (k_fd_ok (q := (2, 0)) rfl)) rfl (tX2_init_0_ok (22, .getfield 11, 3) (List.mem_of_getElem? (i := 12) rfl)) ?_
  refine tt_iload_n rfl (List.Mem.head _) (tX2_init_0_ok (25, .iload_n 1, 1) (List.mem_of_getElem? (i := 13) rfl)) ?_
  refine n_obj L1 (n_X6_init hT hL) (wA2 48 rfl rfl) (wA1 116 rfl rfl) (wA1 4 rfl rfl) (by decide) df_6_ok kX6_init rfl rfl (Or.inl ⟨_, (fun s x => (hN s x).2.2.2.2.2.2.2.2.1)⟩) iX6_init (by decide) (by decide) (by decide) (Nat.le_of_ble_eq_true rfl) (fun _ => Nat.le_of_ble_eq_true rfl) (tX2_init_0_ok (26, .new 9, 3) (List.mem_of_getElem? (i := 14) rfl)) (tX2_init_0_ok (29, .dup, 1) (List.mem_of_getElem? (i := 15) rfl)) (tX2_init_0_ok (30, .invokespecial 17, 3) (List.mem_of_getElem? (i := 16) rfl)) (fun b2 S2 x2 K2 s2 m2 o2 => ?_)
  obtain ⟨v2, w2, -, -⟩ := K2.1.obj s2 (hL 3 (by decide))
  refine tt_aast K2.2.1 (hT 3 (by decide)) w2 (r := (RX6, TX6, 7)) rfl (kn_in (by decide) (by decide)) (tX2_init_0_ok (33, .aastore, 1) (List.mem_of_getElem? (i := 17) rfl)) ?_
  have L2 := K2.put (e2 := .inl (cA 3, 7, .inr (.inr (.inr (.inr (va_up (va_up (va_up (fun _ => none) (Int32.toNatClampNeg 0) (some b0)) (Int32.toNatClampNeg 1) (some b1)) (Int32.toNatClampNeg 2) (some b2)))))))
  refine tt_iinc (tX2_init_0_ok (34, .iinc 1 1, 3) (List.mem_of_getElem? (i := 18) rfl)) (List.Mem.head _) (by decide) ?_
  refine tt_goto (tgt := 15) (tX2_init_0_ok (37, .goto (-22), 3) (List.mem_of_getElem? (i := 19) rfl)) rfl ?_
  show tt l D tys A X _ _ _ _ mX2_init _ 15 [(1, .int 3), (0, .ref a)] [] _ _ _
  refine tt_iload_n rfl (List.Mem.head _) (tX2_init_0_ok (15, .iload_n 1, 1) (List.mem_of_getElem? (i := 8) rfl)) ?_
  refine tt_bipush rfl (tX2_init_0_ok (16, .bipush 6, 2) (List.mem_of_getElem? (i := 9) rfl)) ?_
  refine tt_icmp_gt (tgt := 40) (tX2_init_0_ok (18, .if_icmp .gt 22, 3) (List.mem_of_getElem? (i := 10) rfl)) rfl (fun b9 => absurd b9 (by decide)) (fun b9 => ?_)
  refine tt_aload_n rfl (List.Mem.tail _ (List.Mem.head _)) (tX2_init_0_ok (21, .aload_n 0, 1) (List.mem_of_getElem? (i := 11) rfl)) ?_
  refine tt_get (pg_k 2 (by decide)) ((L2.2.2.2 a (Ne.symm n_r_a) gn).1.trans ga) (by decide) (pg_fw 7 _ (k_fd_ok (q := (2, 0)) rfl)) rfl (tX2_init_0_ok (22, .getfield 11, 3) (List.mem_of_getElem? (i := 12) rfl)) ?_
  refine tt_iload_n rfl (List.Mem.head _) (tX2_init_0_ok (25, .iload_n 1, 1) (List.mem_of_getElem? (i := 13) rfl)) ?_
  refine n_obj L2 (n_X6_init hT hL) (wA2 48 rfl rfl) (wA1 116 rfl rfl) (wA1 4 rfl rfl) (by decide) df_6_ok kX6_init rfl rfl (Or.inl ⟨_, (fun s x => (hN s x).2.2.2.2.2.2.2.2.1)⟩) iX6_init (by decide) (by decide) (by decide) (Nat.le_of_ble_eq_true rfl) (fun _ => Nat.le_of_ble_eq_true rfl) (tX2_init_0_ok (26, .new 9, 3) (List.mem_of_getElem? (i := 14) rfl)) (tX2_init_0_ok (29, .dup, 1) (List.mem_of_getElem? (i := 15) rfl)) (tX2_init_0_ok (30, .invokespecial 17, 3) (List.mem_of_getElem? (i := 16) rfl)) (fun b3 S3 x3 K3 s3 m3 o3 => ?_)
  obtain ⟨v3, w3, -, -⟩ := K3.1.obj s3 (hL 3 (by decide))
  refine tt_aast K3.2.1 (hT 3 (by decide)) w3 (r := (RX6, TX6, 7)) rfl (kn_in (by decide) (by decide)) (tX2_init_0_ok (33, .aastore, 1) (List.mem_of_getElem? (i := 17) rfl)) ?_
  have L3 := K3.put (e2 := .inl (cA 3, 7, .inr (.inr (.inr (.inr (va_up (va_up (va_up (va_up (fun _ => none) (Int32.toNatClampNeg 0) (some b0)) (Int32.toNatClampNeg 1) (some b1)) (Int32.toNatClampNeg 2) (some b2)) (Int32.toNatClampNeg 3) (some b3)))))))
  refine tt_iinc (tX2_init_0_ok (34, .iinc 1 1, 3) (List.mem_of_getElem? (i := 18) rfl)) (List.Mem.head _) (by decide) ?_
  refine tt_goto (tgt := 15) (tX2_init_0_ok (37, .goto (-22), 3) (List.mem_of_getElem? (i := 19) rfl)) rfl ?_
  show tt l D tys A X _ _ _ _ mX2_init _ 15 [(1, .int 4), (0, .ref a)] [] _ _ _
  refine tt_iload_n rfl (List.Mem.head _) (tX2_init_0_ok (15, .iload_n 1, 1) (List.mem_of_getElem? (i := 8) rfl)) ?_
  refine tt_bipush rfl (tX2_init_0_ok (16, .bipush 6, 2) (List.mem_of_getElem? (i := 9) rfl)) ?_
  refine tt_icmp_gt (tgt := 40) (tX2_init_0_ok (18, .if_icmp .gt 22, 3) (List.mem_of_getElem? (i := 10) rfl)) rfl (fun b9 => absurd b9 (by decide)) (fun b9 => ?_)
  refine tt_aload_n rfl (List.Mem.tail _ (List.Mem.head _)) (tX2_init_0_ok (21, .aload_n 0, 1) (List.mem_of_getElem? (i := 11) rfl)) ?_
  refine tt_get (pg_k 2 (by decide)) ((L3.2.2.2 a (Ne.symm n_r_a) gn).1.trans ga) (by decide) (pg_fw 7 _ (k_fd_ok (q := (2, 0)) rfl)) rfl (tX2_init_0_ok (22, .getfield 11, 3) (List.mem_of_getElem? (i := 12) rfl)) ?_
  refine tt_iload_n rfl (List.Mem.head _) (tX2_init_0_ok (25, .iload_n 1, 1) (List.mem_of_getElem? (i := 13) rfl)) ?_
  refine n_obj L3 (n_X6_init hT hL) (wA2 48 rfl rfl) (wA1 116 rfl rfl) (wA1 4 rfl rfl) (by decide) df_6_ok kX6_init rfl rfl (Or.inl ⟨_, (fun s x => (hN s x).2.2.2.2.2.2.2.2.1)⟩) iX6_init (by decide) (by decide) (by decide) (Nat.le_of_ble_eq_true rfl) (fun _ => Nat.le_of_ble_eq_true rfl) (tX2_init_0_ok (26, .new 9, 3) (List.mem_of_getElem? (i := 14) rfl)) (tX2_init_0_ok (29, .dup, 1) (List.mem_of_getElem? (i := 15) rfl)) (tX2_init_0_ok (30, .invokespecial 17, 3) (List.mem_of_getElem? (i := 16) rfl)) (fun b4 S4 x4 K4 s4 m4 o4 => ?_)
  obtain ⟨v4, w4, -, -⟩ := K4.1.obj s4 (hL 3 (by decide))
  refine tt_aast K4.2.1 (hT 3 (by decide)) w4 (r := (RX6, TX6, 7)) rfl (kn_in (by decide) (by decide)) (tX2_init_0_ok (33, .aastore, 1) (List.mem_of_getElem? (i := 17) rfl)) ?_
  have L4 := K4.put (e2 := .inl (cA 3, 7, .inr (.inr (.inr (.inr (va_up (va_up (va_up (va_up (va_up (fun _ => none) (Int32.toNatClampNeg 0) (some b0)) (Int32.toNatClampNeg 1) (some b1)) (Int32.toNatClampNeg 2) (some b2)) (Int32.toNatClampNeg 3) (some b3)) (Int32.toNatClampNeg 4) (some b4)))))))
  refine tt_iinc (tX2_init_0_ok (34, .iinc 1 1, 3) (List.mem_of_getElem? (i := 18) rfl)) (List.Mem.head _) (by decide) ?_
  refine tt_goto (tgt := 15) (tX2_init_0_ok (37, .goto (-22), 3) (List.mem_of_getElem? (i := 19) rfl)) rfl ?_
  show tt l D tys A X _ _ _ _ mX2_init _ 15 [(1, .int 5), (0, .ref a)] [] _ _ _
  refine tt_iload_n rfl (List.Mem.head _) (tX2_init_0_ok (15, .iload_n 1, 1) (List.mem_of_getElem? (i := 8) rfl)) ?_
  refine tt_bipush rfl (tX2_init_0_ok (16, .bipush 6, 2) (List.mem_of_getElem? (i := 9) rfl)) ?_
  refine tt_icmp_gt (tgt := 40) (tX2_init_0_ok (18, .if_icmp .gt 22, 3) (List.mem_of_getElem? (i := 10) rfl)) rfl (fun b9 => absurd b9 (by decide)) (fun b9 => ?_)
  refine tt_aload_n rfl (List.Mem.tail _ (List.Mem.head _)) (tX2_init_0_ok (21, .aload_n 0, 1) (List.mem_of_getElem? (i := 11) rfl)) ?_
  refine tt_get (pg_k 2 (by decide)) ((L4.2.2.2 a (Ne.symm n_r_a) gn).1.trans ga) (by decide) (pg_fw 7 _ (k_fd_ok (q := (2, 0)) rfl)) rfl (tX2_init_0_ok (22, .getfield 11, 3) (List.mem_of_getElem? (i := 12) rfl)) ?_
  refine tt_iload_n rfl (List.Mem.head _) (tX2_init_0_ok (25, .iload_n 1, 1) (List.mem_of_getElem? (i := 13) rfl)) ?_
  refine n_obj L4 (n_X6_init hT hL) (wA2 48 rfl rfl) (wA1 116 rfl rfl) (wA1 4 rfl rfl) (by decide) df_6_ok kX6_init rfl rfl (Or.inl ⟨_, (fun s x => (hN s x).2.2.2.2.2.2.2.2.1)⟩) iX6_init (by decide) (by decide) (by decide) (Nat.le_of_ble_eq_true rfl) (fun _ => Nat.le_of_ble_eq_true rfl) (tX2_init_0_ok (26, .new 9, 3) (List.mem_of_getElem? (i := 14) rfl)) (tX2_init_0_ok (29, .dup, 1) (List.mem_of_getElem? (i := 15) rfl)) (tX2_init_0_ok (30, .invokespecial 17, 3) (List.mem_of_getElem? (i := 16) rfl)) (fun b5 S5 x5 K5 s5 m5 o5 => ?_)
  obtain ⟨v5, w5, -, -⟩ := K5.1.obj s5 (hL 3 (by decide))
  refine tt_aast K5.2.1 (hT 3 (by decide)) w5 (r := (RX6, TX6, 7)) rfl (kn_in (by decide) (by decide)) (tX2_init_0_ok (33, .aastore, 1) (List.mem_of_getElem? (i := 17) rfl)) ?_
  have L5 := K5.put (e2 := .inl (cA 3, 7, .inr (.inr (.inr (.inr (va_up (va_up (va_up (va_up (va_up (va_up (fun _ => none) (Int32.toNatClampNeg 0) (some b0)) (Int32.toNatClampNeg 1) (some b1)) (Int32.toNatClampNeg 2) (some b2)) (Int32.toNatClampNeg 3) (some b3)) (Int32.toNatClampNeg 4) (some b4)) (Int32.toNatClampNeg 5) (some b5)))))))
  refine tt_iinc (tX2_init_0_ok (34, .iinc 1 1, 3) (List.mem_of_getElem? (i := 18) rfl)) (List.Mem.head _) (by decide) ?_
  refine tt_goto (tgt := 15) (tX2_init_0_ok (37, .goto (-22), 3) (List.mem_of_getElem? (i := 19) rfl)) rfl ?_
  show tt l D tys A X _ _ _ _ mX2_init _ 15 [(1, .int 6), (0, .ref a)] [] _ _ _
  refine tt_iload_n rfl (List.Mem.head _) (tX2_init_0_ok (15, .iload_n 1, 1) (List.mem_of_getElem? (i := 8) rfl)) ?_
  refine tt_bipush rfl (tX2_init_0_ok (16, .bipush 6, 2) (List.mem_of_getElem? (i := 9) rfl)) ?_
  refine tt_icmp_gt (tgt := 40) (tX2_init_0_ok (18, .if_icmp .gt 22, 3) (List.mem_of_getElem? (i := 10) rfl)) rfl (fun b9 => absurd b9 (by decide)) (fun b9 => ?_)
  refine tt_aload_n rfl (List.Mem.tail _ (List.Mem.head _)) (tX2_init_0_ok (21, .aload_n 0, 1) (List.mem_of_getElem? (i := 11) rfl)) ?_
  refine tt_get (pg_k 2 (by decide)) ((L5.2.2.2 a (Ne.symm n_r_a) gn).1.trans ga) (by decide) (pg_fw 7 _ (k_fd_ok (q := (2, 0)) rfl)) rfl (tX2_init_0_ok (22, .getfield 11, 3) (List.mem_of_getElem? (i := 12) rfl)) ?_
  refine tt_iload_n rfl (List.Mem.head _) (tX2_init_0_ok (25, .iload_n 1, 1) (List.mem_of_getElem? (i := 13) rfl)) ?_
  refine n_obj L5 (n_X6_init hT hL) (wA2 48 rfl rfl) (wA1 116 rfl rfl) (wA1 4 rfl rfl) (by decide) df_6_ok kX6_init rfl rfl (Or.inl ⟨_, (fun s x => (hN s x).2.2.2.2.2.2.2.2.1)⟩) iX6_init (by decide) (by decide) (by decide) (Nat.le_of_ble_eq_true rfl) (fun _ => Nat.le_of_ble_eq_true rfl) (tX2_init_0_ok (26, .new 9, 3) (List.mem_of_getElem? (i := 14) rfl)) (tX2_init_0_ok (29, .dup, 1) (List.mem_of_getElem? (i := 15) rfl)) (tX2_init_0_ok (30, .invokespecial 17, 3) (List.mem_of_getElem? (i := 16) rfl)) (fun b6 S6 x6 K6 s6 m6 o6 => ?_)
  obtain ⟨v6, w6, -, -⟩ := K6.1.obj s6 (hL 3 (by decide))
  refine tt_aast K6.2.1 (hT 3 (by decide)) w6 (r := (RX6, TX6, 7)) rfl (kn_in (by decide) (by decide)) (tX2_init_0_ok (33, .aastore, 1) (List.mem_of_getElem? (i := 17) rfl)) ?_
  have L6 := K6.put (e2 := .inl (cA 3, 7, .inr (.inr (.inr (.inr (va_up (va_up (va_up (va_up (va_up (va_up (va_up (fun _ => none) (Int32.toNatClampNeg 0) (some b0)) (Int32.toNatClampNeg 1) (some b1)) (Int32.toNatClampNeg 2) (some b2)) (Int32.toNatClampNeg 3) (some b3)) (Int32.toNatClampNeg 4) (some b4)) (Int32.toNatClampNeg 5) (some b5)) (Int32.toNatClampNeg 6) (some b6)))))))
  refine tt_iinc (tX2_init_0_ok (34, .iinc 1 1, 3) (List.mem_of_getElem? (i := 18) rfl)) (List.Mem.head _) (by decide) ?_
  refine tt_goto (tgt := 15) (tX2_init_0_ok (37, .goto (-22), 3) (List.mem_of_getElem? (i := 19) rfl)) rfl ?_
  show tt l D tys A X _ _ _ _ mX2_init _ 15 [(1, .int 7), (0, .ref a)] [] _ _ _
  refine tt_iload_n rfl (List.Mem.head _) (tX2_init_0_ok (15, .iload_n 1, 1) (List.mem_of_getElem? (i := 8) rfl)) ?_
  refine tt_bipush rfl (tX2_init_0_ok (16, .bipush 6, 2) (List.mem_of_getElem? (i := 9) rfl)) ?_
  refine tt_icmp_gt (tgt := 40) (tX2_init_0_ok (18, .if_icmp .gt 22, 3) (List.mem_of_getElem? (i := 10) rfl)) rfl (fun b9 => ?_) (fun b9 => absurd (by decide) b9)
  have R9 : ∀ i, i < 7 → ∃ b, (va_up (va_up (va_up (va_up (va_up (va_up (va_up (fun _ => none) (Int32.toNatClampNeg 0) (some b0)) (Int32.toNatClampNeg 1) (some b1)) (Int32.toNatClampNeg 2) (some b2)) (Int32.toNatClampNeg 3) (some b3)) (Int32.toNatClampNeg 4) (some b4)) (Int32.toNatClampNeg 5) (some b5)) (Int32.toNatClampNeg 6) (some b6)) i = some b ∧ S6 b = some 3 := by
    intro i hi
    match i, hi with
    | 0, _ => exact ⟨b0, rfl, (m6 _ _ (m5 _ _ (m4 _ _ (m3 _ _ (m2 _ _ (m1 _ _ s0))))))⟩
    | 1, _ => exact ⟨b1, rfl, (m6 _ _ (m5 _ _ (m4 _ _ (m3 _ _ (m2 _ _ s1)))))⟩
    | 2, _ => exact ⟨b2, rfl, (m6 _ _ (m5 _ _ (m4 _ _ (m3 _ _ s2))))⟩
    | 3, _ => exact ⟨b3, rfl, (m6 _ _ (m5 _ _ (m4 _ _ s3)))⟩
    | 4, _ => exact ⟨b4, rfl, (m6 _ _ (m5 _ _ s4))⟩
    | 5, _ => exact ⟨b5, rfl, (m6 _ _ s5)⟩
    | 6, _ => exact ⟨b6, rfl, s6⟩
    | i + 7, hi => exact absurd hi (by omega)
  refine tt_vret rfl ?_ (by decide) (by decide) (tX2_init_0_ok (40, .return_, 1) (List.mem_of_getElem? (i := 20) rfl))
  have hr6 : k_H (sg_up S6 r 45) cA Lb9 _ := L6.1.lab L6.2.2.1 L6.2.1 (by
    rw [(hL 45 (by decide))]
    refine Or.inr (Or.inr ⟨rfl, _, rfl, fun i hi => ?_⟩)
    obtain ⟨b, e1, e2⟩ := R9 i hi
    rw [e1]
    exact ⟨b, rfl, sg_le.up L6.2.2.1 _ _ e2⟩) (fun _ _ _ => rfl)
  have fa := L6.2.2.2 a (Ne.symm n_r_a) gn
  have na : sg_up S6 r 45 a = none := by rw [sg_up_n _ _ (Ne.symm n_r_a), fa.2]; exact sa
  refine ⟨rfl, sg_up (sg_up S6 r 45) a 9, hr6.lab na (fa.1.trans ga) (by
    rw [(hL 9 (by decide))]
    refine Or.inl ⟨rfl, _, rfl, rfl, fun k t hk => ?_⟩
    match k, hk with
    | 0, hk => cases hk; exact ⟨_, rfl, r, rfl, sg_le.up na _ _ (sg_up_s _ _ _)⟩
    | 1, hk => cases hk; exact ⟨_, rfl, _, rfl, by decide, by decide⟩
    | 2, hk => cases hk; exact ⟨_, rfl, _, rfl, by decide, by decide⟩
    | k + 3, hk => cases hk) (fun _ _ _ => rfl), sg_up_s _ _ _, fun q hq hn => ?_⟩
  have qr : q ≠ r := fun e => hn (by rw [e]; exact hr)
  have w1 := H2.2.2.2 q hq hn
  have w2 := L6.2.2.2 q qr (by rw [w1.1]; exact hn)
  rw [sg_up_n _ _ hq, sg_up_n _ _ qr]
  exact ⟨w2.1.trans w1.1, w2.2⟩
theorem n_X10_init (hT : k_tys tys cA) (hN : k_NX X) (hL : ∀ L, L < 50 → Lb9 L = Lb L) : k_nw l D tys A X cA Lb9 mX10_init 9 df_9 0 3 53 113 1923 := by
  intro Sg a h hH ca sa
  have H0 : nS cA Lb9 Sg h a (.inr (9, df_9)) Sg h := ⟨hH, ca, sa, fun _ _ _ => ⟨rfl, rfl⟩⟩
  refine tt_aload_n rfl (List.Mem.head _) (tX10_init_0_ok (0, .aload_n 0, 1) (List.mem_of_getElem? (i := 0) rfl)) ?_
  refine tt_objInit (wA1 29 rfl rfl) (wA1 30 rfl rfl) (wA1 31 rfl rfl) (tX10_init_0_ok (1, .invokespecial 1, 3) (List.mem_of_getElem? (i := 1) rfl)) (by decide) (Nat.le_of_ble_eq_true rfl) ?_
  refine tt_aload_n rfl (List.Mem.head _) (tX10_init_0_ok (4, .aload_n 0, 1) (List.mem_of_getElem? (i := 2) rfl)) ?_
  refine n_obj H0 (n_X7_init hT hL) (wA1 32 rfl rfl) (wA1 33 rfl rfl) (wA1 2 rfl rfl) (by decide) df_7_ok kX7_init rfl rfl (Or.inl ⟨_, (fun s x => (hN s x).1)⟩) iX7_init (by decide) (by decide) (by decide) (Nat.le_of_ble_eq_true rfl) (fun _ => Nat.le_of_ble_eq_true rfl) (tX10_init_0_ok (5, .new 7, 3) (List.mem_of_getElem? (i := 3) rfl)) (tX10_init_0_ok (8, .dup, 1) (List.mem_of_getElem? (i := 4) rfl)) (tX10_init_0_ok (9, .invokespecial 9, 3) (List.mem_of_getElem? (i := 5) rfl)) (fun b1 S2 g3 H4 s5 m6 o7 => ?_)
  refine n_put (own := 15) (ci := 9) (k := 0) [.ref b1, .null, .null, .null, .null, .null, .int 0, .int 0, .null, .null, .null, .null, .null, .null, .int 0, .null, .null, .null, .null] rfl H4 rfl rfl (by decide) rfl rfl ⟨rfl, rfl⟩ (Nat.le_of_ble_eq_true rfl) (tX10_init_0_ok (12, .putfield 10, 3) (List.mem_of_getElem? (i := 6) rfl)) (fun g8 H9 f10 => ?_)
  refine tt_aload_n rfl (List.Mem.head _) (tX10_init_0_ok (15, .aload_n 0, 1) (List.mem_of_getElem? (i := 7) rfl)) ?_
  refine n_obj H9 (n_X4_init hT hL) (wA1 57 rfl rfl) (wA1 58 rfl rfl) (wA1 3 rfl rfl) (by decide) df_4_ok kX4_init rfl rfl (Or.inl ⟨_, (fun s x => (hN s x).2.1)⟩) iX4_init (by decide) (by decide) (by decide) (Nat.le_of_ble_eq_true rfl) (fun _ => Nat.le_of_ble_eq_true rfl) (tX10_init_0_ok (16, .new 16, 3) (List.mem_of_getElem? (i := 8) rfl)) (tX10_init_0_ok (19, .dup, 1) (List.mem_of_getElem? (i := 9) rfl)) (tX10_init_0_ok (20, .invokespecial 18, 3) (List.mem_of_getElem? (i := 10) rfl)) (fun b11 S12 g13 H14 s15 m16 o17 => ?_)
  refine n_put (own := 15) (ci := 9) (k := 1) [.ref b1, .ref b11, .null, .null, .null, .null, .int 0, .int 0, .null, .null, .null, .null, .null, .null, .int 0, .null, .null, .null, .null] rfl H14 rfl rfl (by decide) rfl rfl ⟨rfl, rfl⟩ (Nat.le_of_ble_eq_true rfl) (tX10_init_0_ok (23, .putfield 19, 3) (List.mem_of_getElem? (i := 11) rfl)) (fun g18 H19 f20 => ?_)
  refine tt_aload_n rfl (List.Mem.head _) (tX10_init_0_ok (26, .aload_n 0, 1) (List.mem_of_getElem? (i := 12) rfl)) ?_
  refine n_obj H19 (n_X4_init hT hL) (wA1 57 rfl rfl) (wA1 58 rfl rfl) (wA1 3 rfl rfl) (by decide) df_4_ok kX4_init rfl rfl (Or.inl ⟨_, (fun s x => (hN s x).2.1)⟩) iX4_init (by decide) (by decide) (by decide) (Nat.le_of_ble_eq_true rfl) (fun _ => Nat.le_of_ble_eq_true rfl) (tX10_init_0_ok (27, .new 16, 3) (List.mem_of_getElem? (i := 13) rfl)) (tX10_init_0_ok (30, .dup, 1) (List.mem_of_getElem? (i := 14) rfl)) (tX10_init_0_ok (31, .invokespecial 18, 3) (List.mem_of_getElem? (i := 15) rfl)) (fun b21 S22 g23 H24 s25 m26 o27 => ?_)
  refine n_put (own := 15) (ci := 9) (k := 2) [.ref b1, .ref b11, .ref b21, .null, .null, .null, .int 0, .int 0, .null, .null, .null, .null, .null, .null, .int 0, .null, .null, .null, .null] rfl H24 rfl rfl (by decide) rfl rfl ⟨rfl, rfl⟩ (Nat.le_of_ble_eq_true rfl) (tX10_init_0_ok (34, .putfield 23, 3) (List.mem_of_getElem? (i := 16) rfl)) (fun g28 H29 f30 => ?_)
  refine tt_aload_n rfl (List.Mem.head _) (tX10_init_0_ok (37, .aload_n 0, 1) (List.mem_of_getElem? (i := 17) rfl)) ?_
  refine n_obj H29 (n_X6_init hT hL) (wA1 115 rfl rfl) (wA1 116 rfl rfl) (wA1 4 rfl rfl) (by decide) df_6_ok kX6_init rfl rfl (Or.inl ⟨_, (fun s x => (hN s x).2.2.1)⟩) iX6_init (by decide) (by decide) (by decide) (Nat.le_of_ble_eq_true rfl) (fun _ => Nat.le_of_ble_eq_true rfl) (tX10_init_0_ok (38, .new 26, 3) (List.mem_of_getElem? (i := 18) rfl)) (tX10_init_0_ok (41, .dup, 1) (List.mem_of_getElem? (i := 19) rfl)) (tX10_init_0_ok (42, .invokespecial 28, 3) (List.mem_of_getElem? (i := 20) rfl)) (fun b31 S32 g33 H34 s35 m36 o37 => ?_)
  refine n_put (own := 15) (ci := 9) (k := 3) [.ref b1, .ref b11, .ref b21, .ref b31, .null, .null, .int 0, .int 0, .null, .null, .null, .null, .null, .null, .int 0, .null, .null, .null, .null] rfl H34 rfl rfl (by decide) rfl rfl ⟨rfl, rfl⟩ (Nat.le_of_ble_eq_true rfl) (tX10_init_0_ok (45, .putfield 29, 3) (List.mem_of_getElem? (i := 21) rfl)) (fun g38 H39 f40 => ?_)
  refine tt_aload_n rfl (List.Mem.head _) (tX10_init_0_ok (48, .aload_n 0, 1) (List.mem_of_getElem? (i := 22) rfl)) ?_
  refine n_obj H39 (n_X6_init hT hL) (wA1 115 rfl rfl) (wA1 116 rfl rfl) (wA1 4 rfl rfl) (by decide) df_6_ok kX6_init rfl rfl (Or.inl ⟨_, (fun s x => (hN s x).2.2.1)⟩) iX6_init (by decide) (by decide) (by decide) (Nat.le_of_ble_eq_true rfl) (fun _ => Nat.le_of_ble_eq_true rfl) (tX10_init_0_ok (49, .new 26, 3) (List.mem_of_getElem? (i := 23) rfl)) (tX10_init_0_ok (52, .dup, 1) (List.mem_of_getElem? (i := 24) rfl)) (tX10_init_0_ok (53, .invokespecial 28, 3) (List.mem_of_getElem? (i := 25) rfl)) (fun b41 S42 g43 H44 s45 m46 o47 => ?_)
  refine n_put (own := 15) (ci := 9) (k := 4) [.ref b1, .ref b11, .ref b21, .ref b31, .ref b41, .null, .int 0, .int 0, .null, .null, .null, .null, .null, .null, .int 0, .null, .null, .null, .null] rfl H44 rfl rfl (by decide) rfl rfl ⟨rfl, rfl⟩ (Nat.le_of_ble_eq_true rfl) (tX10_init_0_ok (56, .putfield 33, 3) (List.mem_of_getElem? (i := 26) rfl)) (fun g48 H49 f50 => ?_)
  refine tt_aload_n rfl (List.Mem.head _) (tX10_init_0_ok (59, .aload_n 0, 1) (List.mem_of_getElem? (i := 27) rfl)) ?_
  refine n_obj H49 (n_X6_init hT hL) (wA1 115 rfl rfl) (wA1 116 rfl rfl) (wA1 4 rfl rfl) (by decide) df_6_ok kX6_init rfl rfl (Or.inl ⟨_, (fun s x => (hN s x).2.2.1)⟩) iX6_init (by decide) (by decide) (by decide) (Nat.le_of_ble_eq_true rfl) (fun _ => Nat.le_of_ble_eq_true rfl) (tX10_init_0_ok (60, .new 26, 3) (List.mem_of_getElem? (i := 28) rfl)) (tX10_init_0_ok (63, .dup, 1) (List.mem_of_getElem? (i := 29) rfl)) (tX10_init_0_ok (64, .invokespecial 28, 3) (List.mem_of_getElem? (i := 30) rfl)) (fun b51 S52 g53 H54 s55 m56 o57 => ?_)
  refine n_put (own := 15) (ci := 9) (k := 5) [.ref b1, .ref b11, .ref b21, .ref b31, .ref b41, .ref b51, .int 0, .int 0, .null, .null, .null, .null, .null, .null, .int 0, .null, .null, .null, .null] rfl H54 rfl rfl (by decide) rfl rfl ⟨rfl, rfl⟩ (Nat.le_of_ble_eq_true rfl) (tX10_init_0_ok (67, .putfield 36, 3) (List.mem_of_getElem? (i := 31) rfl)) (fun g58 H59 f60 => ?_)
  refine tt_aload_n rfl (List.Mem.head _) (tX10_init_0_ok (70, .aload_n 0, 1) (List.mem_of_getElem? (i := 32) rfl)) ?_
  refine n_obj H59 (n_X1_init hT hL) (wA1 159 rfl rfl) (wA1 160 rfl rfl) (wA1 5 rfl rfl) (by decide) df_1_ok kX1_init rfl rfl (Or.inl ⟨_, (fun s x => (hN s x).2.2.2.1)⟩) iX1_init (by decide) (by decide) (by decide) (Nat.le_of_ble_eq_true rfl) (fun _ => Nat.le_of_ble_eq_true rfl) (tX10_init_0_ok (71, .new 39, 3) (List.mem_of_getElem? (i := 33) rfl)) (tX10_init_0_ok (74, .dup, 1) (List.mem_of_getElem? (i := 34) rfl)) (tX10_init_0_ok (75, .invokespecial 41, 3) (List.mem_of_getElem? (i := 35) rfl)) (fun b61 S62 g63 H64 s65 m66 o67 => ?_)
  refine n_put (own := 15) (ci := 9) (k := 8) [.ref b1, .ref b11, .ref b21, .ref b31, .ref b41, .ref b51, .int 0, .int 0, .ref b61, .null, .null, .null, .null, .null, .int 0, .null, .null, .null, .null] rfl H64 rfl rfl (by decide) rfl rfl ⟨rfl, rfl⟩ (Nat.le_of_ble_eq_true rfl) (tX10_init_0_ok (78, .putfield 42, 3) (List.mem_of_getElem? (i := 36) rfl)) (fun g68 H69 f70 => ?_)
  refine tt_aload_n rfl (List.Mem.head _) (tX10_init_0_ok (81, .aload_n 0, 1) (List.mem_of_getElem? (i := 37) rfl)) ?_
  refine n_obj H69 (n_X9_init hT hL) (wA1 205 rfl rfl) (wA1 206 rfl rfl) (wA1 6 rfl rfl) (by decide) df_8_ok kX9_init rfl rfl (Or.inl ⟨_, (fun s x => (hN s x).2.2.2.2.1)⟩) iX9_init (by decide) (by decide) (by decide) (Nat.le_of_ble_eq_true rfl) (fun _ => Nat.le_of_ble_eq_true rfl) (tX10_init_0_ok (82, .new 46, 3) (List.mem_of_getElem? (i := 38) rfl)) (tX10_init_0_ok (85, .dup, 1) (List.mem_of_getElem? (i := 39) rfl)) (tX10_init_0_ok (86, .invokespecial 48, 3) (List.mem_of_getElem? (i := 40) rfl)) (fun b71 S72 g73 H74 s75 m76 o77 => ?_)
  refine n_put (own := 15) (ci := 9) (k := 9) [.ref b1, .ref b11, .ref b21, .ref b31, .ref b41, .ref b51, .int 0, .int 0, .ref b61, .ref b71, .null, .null, .null, .null, .int 0, .null, .null, .null, .null] rfl H74 rfl rfl (by decide) rfl rfl ⟨rfl, rfl⟩ (Nat.le_of_ble_eq_true rfl) (tX10_init_0_ok (89, .putfield 49, 3) (List.mem_of_getElem? (i := 41) rfl)) (fun g78 H79 f80 => ?_)
  refine tt_aload_n rfl (List.Mem.head _) (tX10_init_0_ok (92, .aload_n 0, 1) (List.mem_of_getElem? (i := 42) rfl)) ?_
  refine tt_bipush rfl (tX10_init_0_ok (93, .bipush 12, 2) (List.mem_of_getElem? (i := 43) rfl)) ?_
  refine n_arr (L := 32) hT H79 (hL 32 (by decide)) (by decide +kernel) (by decide) rfl (by decide) rfl (by decide) (by decide) (by decide) (tX10_init_0_ok (95, .newarray .int, 2) (List.mem_of_getElem? (i := 44) rfl)) (fun b81 S82 g83 H84 s85 m86 o87 => ?_)
  refine n_put (own := 15) (ci := 9) (k := 10) [.ref b1, .ref b11, .ref b21, .ref b31, .ref b41, .ref b51, .int 0, .int 0, .ref b61, .ref b71, .ref b81, .null, .null, .null, .int 0, .null, .null, .null, .null] rfl H84 rfl rfl (by decide) rfl rfl ⟨rfl, rfl⟩ (Nat.le_of_ble_eq_true rfl) (tX10_init_0_ok (97, .putfield 53, 3) (List.mem_of_getElem? (i := 45) rfl)) (fun g88 H89 f90 => ?_)
  refine tt_aload_n rfl (List.Mem.head _) (tX10_init_0_ok (100, .aload_n 0, 1) (List.mem_of_getElem? (i := 46) rfl)) ?_
  refine tt_bipush rfl (tX10_init_0_ok (101, .bipush 12, 2) (List.mem_of_getElem? (i := 47) rfl)) ?_
  refine n_arr (L := 32) hT H89 (hL 32 (by decide)) (by decide +kernel) (by decide) rfl (by decide) rfl (by decide) (by decide) (by decide) (tX10_init_0_ok (103, .newarray .int, 2) (List.mem_of_getElem? (i := 48) rfl)) (fun b91 S92 g93 H94 s95 m96 o97 => ?_)
  refine n_put (own := 15) (ci := 9) (k := 11) [.ref b1, .ref b11, .ref b21, .ref b31, .ref b41, .ref b51, .int 0, .int 0, .ref b61, .ref b71, .ref b81, .ref b91, .null, .null, .int 0, .null, .null, .null, .null] rfl H94 rfl rfl (by decide) rfl rfl ⟨rfl, rfl⟩ (Nat.le_of_ble_eq_true rfl) (tX10_init_0_ok (105, .putfield 57, 3) (List.mem_of_getElem? (i := 49) rfl)) (fun g98 H99 f100 => ?_)
  refine tt_aload_n rfl (List.Mem.head _) (tX10_init_0_ok (108, .aload_n 0, 1) (List.mem_of_getElem? (i := 50) rfl)) ?_
  refine tt_iconst rfl (tX10_init_0_ok (109, .iconst 4, 1) (List.mem_of_getElem? (i := 51) rfl)) ?_
  refine n_refs (C9 := "RopeRooms$Rule") (L := 34) hT H99 (hL 34 (by decide)) (by decide +kernel) (by decide) rfl (wA1 224 rfl rfl) (fun s x => (hN s x).2.2.2.2.2.2.2.2.2.1) (by decide) rfl (by decide) (by decide) (by decide) (tX10_init_0_ok (110, .anewarray 60, 3) (List.mem_of_getElem? (i := 52) rfl)) (fun b101 S102 g103 H104 s105 m106 o107 => ?_)
  refine n_put (own := 15) (ci := 9) (k := 12) [.ref b1, .ref b11, .ref b21, .ref b31, .ref b41, .ref b51, .int 0, .int 0, .ref b61, .ref b71, .ref b81, .ref b91, .ref b101, .null, .int 0, .null, .null, .null, .null] rfl H104 rfl rfl (by decide) rfl rfl ⟨rfl, rfl⟩ (Nat.le_of_ble_eq_true rfl) (tX10_init_0_ok (113, .putfield 62, 3) (List.mem_of_getElem? (i := 53) rfl)) (fun g108 H109 f110 => ?_)
  refine tt_aload_n rfl (List.Mem.head _) (tX10_init_0_ok (116, .aload_n 0, 1) (List.mem_of_getElem? (i := 54) rfl)) ?_
  refine n_obj H109 (n_X5_init hT hL) (wA1 224 rfl rfl) (wA1 226 rfl rfl) (wA1 7 rfl rfl) (by decide) df_5_ok kX5_init rfl rfl (Or.inl ⟨_, (fun s x => (hN s x).2.2.2.2.2.1)⟩) iX5_init (by decide) (by decide) (by decide) (Nat.le_of_ble_eq_true rfl) (fun _ => Nat.le_of_ble_eq_true rfl) (tX10_init_0_ok (117, .new 60, 3) (List.mem_of_getElem? (i := 55) rfl)) (tX10_init_0_ok (120, .dup, 1) (List.mem_of_getElem? (i := 56) rfl)) (tX10_init_0_ok (121, .invokespecial 66, 3) (List.mem_of_getElem? (i := 57) rfl)) (fun b111 S112 g113 H114 s115 m116 o117 => ?_)
  refine n_put (own := 15) (ci := 9) (k := 13) [.ref b1, .ref b11, .ref b21, .ref b31, .ref b41, .ref b51, .int 0, .int 0, .ref b61, .ref b71, .ref b81, .ref b91, .ref b101, .ref b111, .int 0, .null, .null, .null, .null] rfl H114 rfl rfl (by decide) rfl rfl ⟨rfl, rfl⟩ (Nat.le_of_ble_eq_true rfl) (tX10_init_0_ok (124, .putfield 67, 3) (List.mem_of_getElem? (i := 58) rfl)) (fun g118 H119 f120 => ?_)
  refine tt_aload_n rfl (List.Mem.head _) (tX10_init_0_ok (127, .aload_n 0, 1) (List.mem_of_getElem? (i := 59) rfl)) ?_
  refine tt_bipush rfl (tX10_init_1_ok (128, .bipush 7, 2) (List.mem_of_getElem? (i := 0) rfl)) ?_
  refine n_arr (L := 35) hT H119 (hL 35 (by decide)) (by decide +kernel) (by decide) rfl (by decide) rfl (by decide) (by decide) (by decide) (tX10_init_1_ok (130, .newarray .int, 2) (List.mem_of_getElem? (i := 1) rfl)) (fun b121 S122 g123 H124 s125 m126 o127 => ?_)
  refine n_put (own := 15) (ci := 9) (k := 15) [.ref b1, .ref b11, .ref b21, .ref b31, .ref b41, .ref b51, .int 0, .int 0, .ref b61, .ref b71, .ref b81, .ref b91, .ref b101, .ref b111, .int 0, .ref b121, .null, .null, .null] rfl H124 rfl rfl (by decide) rfl rfl ⟨rfl, rfl⟩ (Nat.le_of_ble_eq_true rfl) (tX10_init_1_ok (132, .putfield 71, 3) (List.mem_of_getElem? (i := 2) rfl)) (fun g128 H129 f130 => ?_)
  refine tt_aload_n rfl (List.Mem.head _) (tX10_init_1_ok (135, .aload_n 0, 1) (List.mem_of_getElem? (i := 3) rfl)) ?_
  refine n_obj H129 (n_X3_init hT hL) (wA2 1 rfl rfl) (wA2 2 rfl rfl) (wA1 8 rfl rfl) (by decide) df_3_ok kX3_init rfl rfl (Or.inl ⟨_, (fun s x => (hN s x).2.2.2.2.2.2.1)⟩) iX3_init (by decide) (by decide) (by decide) (Nat.le_of_ble_eq_true rfl) (fun _ => Nat.le_of_ble_eq_true rfl) (tX10_init_1_ok (136, .new 74, 3) (List.mem_of_getElem? (i := 4) rfl)) (tX10_init_1_ok (139, .dup, 1) (List.mem_of_getElem? (i := 5) rfl)) (tX10_init_1_ok (140, .invokespecial 76, 3) (List.mem_of_getElem? (i := 6) rfl)) (fun b131 S132 g133 H134 s135 m136 o137 => ?_)
  refine n_put (own := 15) (ci := 9) (k := 16) [.ref b1, .ref b11, .ref b21, .ref b31, .ref b41, .ref b51, .int 0, .int 0, .ref b61, .ref b71, .ref b81, .ref b91, .ref b101, .ref b111, .int 0, .ref b121, .ref b131, .null, .null] rfl H134 rfl rfl (by decide) rfl rfl ⟨rfl, rfl⟩ (Nat.le_of_ble_eq_true rfl) (tX10_init_1_ok (143, .putfield 77, 3) (List.mem_of_getElem? (i := 7) rfl)) (fun g138 H139 f140 => ?_)
  refine tt_aload_n rfl (List.Mem.head _) (tX10_init_1_ok (146, .aload_n 0, 1) (List.mem_of_getElem? (i := 8) rfl)) ?_
  refine n_obj H139 (n_X0_init hT hN hL) (wA2 24 rfl rfl) (wA2 25 rfl rfl) (wA1 9 rfl rfl) (by decide) df_0_ok kX0_init rfl rfl (Or.inl ⟨_, (fun s x => (hN s x).2.2.2.2.2.2.2.1)⟩) iX0_init (by decide) (by decide) (by decide) (Nat.le_of_ble_eq_true rfl) (fun _ => Nat.le_of_ble_eq_true rfl) (tX10_init_1_ok (147, .new 81, 3) (List.mem_of_getElem? (i := 9) rfl)) (tX10_init_1_ok (150, .dup, 1) (List.mem_of_getElem? (i := 10) rfl)) (tX10_init_1_ok (151, .invokespecial 83, 3) (List.mem_of_getElem? (i := 11) rfl)) (fun b141 S142 g143 H144 s145 m146 o147 => ?_)
  refine n_put (own := 15) (ci := 9) (k := 17) [.ref b1, .ref b11, .ref b21, .ref b31, .ref b41, .ref b51, .int 0, .int 0, .ref b61, .ref b71, .ref b81, .ref b91, .ref b101, .ref b111, .int 0, .ref b121, .ref b131, .ref b141, .null] rfl H144 rfl rfl (by decide) rfl rfl ⟨rfl, rfl⟩ (Nat.le_of_ble_eq_true rfl) (tX10_init_1_ok (154, .putfield 84, 3) (List.mem_of_getElem? (i := 12) rfl)) (fun g148 H149 f150 => ?_)
  refine tt_aload_n rfl (List.Mem.head _) (tX10_init_1_ok (157, .aload_n 0, 1) (List.mem_of_getElem? (i := 13) rfl)) ?_
  refine n_obj H149 (n_X2_init hT hN hL) (wA2 42 rfl rfl) (wA2 43 rfl rfl) (wA1 10 rfl rfl) (by decide) df_2_ok kX2_init rfl rfl (Or.inr (wA2 44 rfl rfl)) iX2_init (by decide) (by decide) (by decide) (Nat.le_of_ble_eq_true rfl) (fun _ => Nat.le_of_ble_eq_true rfl) (tX10_init_1_ok (158, .new 88, 3) (List.mem_of_getElem? (i := 14) rfl)) (tX10_init_1_ok (161, .dup, 1) (List.mem_of_getElem? (i := 15) rfl)) (tX10_init_1_ok (162, .invokespecial 90, 3) (List.mem_of_getElem? (i := 16) rfl)) (fun b151 S152 g153 H154 s155 m156 o157 => ?_)
  refine n_put (own := 15) (ci := 9) (k := 18) [.ref b1, .ref b11, .ref b21, .ref b31, .ref b41, .ref b51, .int 0, .int 0, .ref b61, .ref b71, .ref b81, .ref b91, .ref b101, .ref b111, .int 0, .ref b121, .ref b131, .ref b141, .ref b151] rfl H154 rfl rfl (by decide) rfl rfl ⟨rfl, rfl⟩ (Nat.le_of_ble_eq_true rfl) (tX10_init_1_ok (165, .putfield 91, 3) (List.mem_of_getElem? (i := 17) rfl)) (fun g158 H159 f160 => ?_)
  refine tt_aload_n rfl (List.Mem.head _) (tX10_init_1_ok (168, .aload_n 0, 1) (List.mem_of_getElem? (i := 18) rfl)) ?_
  refine tt_get (pg_k 9 (by decide)) H159.2.1 (by decide) (pg_fw 15 _ (k_fd_ok (q := (9, 1)) rfl)) rfl (tX10_init_1_ok (169, .getfield 19, 3) (List.mem_of_getElem? (i := 19) rfl)) ?_
  refine tt_iconst rfl (tX10_init_1_ok (172, .iconst 0, 1) (List.mem_of_getElem? (i := 20) rfl)) ?_
  refine n_putL (own := 15) (ci := 4) (k := 0) H159 (m156 _ _ (m146 _ _ (m136 _ _ (m126 _ _ (m116 _ _ (m106 _ _ (m96 _ _ (m86 _ _ (m76 _ _ (m66 _ _ (m56 _ _ (m46 _ _ (m36 _ _ (m26 _ _ s15)))))))))))))) o17 (hL 2 (by decide)) rfl ⟨_, rfl, by decide, by decide⟩ rfl rfl (by decide) rfl ⟨rfl, rfl⟩ (by decide) (tX10_init_1_ok (173, .putfield 95, 3) (List.mem_of_getElem? (i := 21) rfl)) (fun g161 H162 => ?_)
  refine tt_vret rfl (H162.fin (L := 0) ?_) (by decide) (by decide) (tX10_init_1_ok (176, .return_, 1) (List.mem_of_getElem? (i := 22) rfl))
  rw [(hL 0 (by decide))]
  refine Or.inl ⟨rfl, _, rfl, rfl, fun k t hk => ?_⟩
  match k, hk with
  | 0, hk => cases hk; exact ⟨_, rfl, _, rfl, sg_le.up H162.2.2.1 _ _ (m156 _ _ (m146 _ _ (m136 _ _ (m126 _ _ (m116 _ _ (m106 _ _ (m96 _ _ (m86 _ _ (m76 _ _ (m66 _ _ (m56 _ _ (m46 _ _ (m36 _ _ (m26 _ _ (m16 _ _ s5)))))))))))))))⟩
  | 1, hk => cases hk; exact ⟨_, rfl, _, rfl, sg_le.up H162.2.2.1 _ _ (m156 _ _ (m146 _ _ (m136 _ _ (m126 _ _ (m116 _ _ (m106 _ _ (m96 _ _ (m86 _ _ (m76 _ _ (m66 _ _ (m56 _ _ (m46 _ _ (m36 _ _ (m26 _ _ s15))))))))))))))⟩
  | 2, hk => cases hk; exact ⟨_, rfl, _, rfl, sg_le.up H162.2.2.1 _ _ (m156 _ _ (m146 _ _ (m136 _ _ (m126 _ _ (m116 _ _ (m106 _ _ (m96 _ _ (m86 _ _ (m76 _ _ (m66 _ _ (m56 _ _ (m46 _ _ (m36 _ _ s25)))))))))))))⟩
  | 3, hk => cases hk; exact ⟨_, rfl, _, rfl, sg_le.up H162.2.2.1 _ _ (m156 _ _ (m146 _ _ (m136 _ _ (m126 _ _ (m116 _ _ (m106 _ _ (m96 _ _ (m86 _ _ (m76 _ _ (m66 _ _ (m56 _ _ (m46 _ _ s35))))))))))))⟩
  | 4, hk => cases hk; exact ⟨_, rfl, _, rfl, sg_le.up H162.2.2.1 _ _ (m156 _ _ (m146 _ _ (m136 _ _ (m126 _ _ (m116 _ _ (m106 _ _ (m96 _ _ (m86 _ _ (m76 _ _ (m66 _ _ (m56 _ _ s45)))))))))))⟩
  | 5, hk => cases hk; exact ⟨_, rfl, _, rfl, sg_le.up H162.2.2.1 _ _ (m156 _ _ (m146 _ _ (m136 _ _ (m126 _ _ (m116 _ _ (m106 _ _ (m96 _ _ (m86 _ _ (m76 _ _ (m66 _ _ s55))))))))))⟩
  | 6, hk => cases hk; exact ⟨_, rfl, _, rfl, by decide, by decide⟩
  | 7, hk => cases hk; exact ⟨_, rfl, _, rfl, by decide, by decide⟩
  | 8, hk => cases hk; exact ⟨_, rfl, _, rfl, sg_le.up H162.2.2.1 _ _ (m156 _ _ (m146 _ _ (m136 _ _ (m126 _ _ (m116 _ _ (m106 _ _ (m96 _ _ (m86 _ _ (m76 _ _ s65)))))))))⟩
  | 9, hk => cases hk; exact ⟨_, rfl, _, rfl, sg_le.up H162.2.2.1 _ _ (m156 _ _ (m146 _ _ (m136 _ _ (m126 _ _ (m116 _ _ (m106 _ _ (m96 _ _ (m86 _ _ s75))))))))⟩
  | 10, hk => cases hk; exact ⟨_, rfl, _, rfl, sg_le.up H162.2.2.1 _ _ (m156 _ _ (m146 _ _ (m136 _ _ (m126 _ _ (m116 _ _ (m106 _ _ (m96 _ _ s85)))))))⟩
  | 11, hk => cases hk; exact ⟨_, rfl, _, rfl, sg_le.up H162.2.2.1 _ _ (m156 _ _ (m146 _ _ (m136 _ _ (m126 _ _ (m116 _ _ (m106 _ _ s95))))))⟩
  | 12, hk => cases hk; exact ⟨_, rfl, _, rfl, sg_le.up H162.2.2.1 _ _ (m156 _ _ (m146 _ _ (m136 _ _ (m126 _ _ (m116 _ _ s105)))))⟩
  | 13, hk => cases hk; exact ⟨_, rfl, _, rfl, sg_le.up H162.2.2.1 _ _ (m156 _ _ (m146 _ _ (m136 _ _ (m126 _ _ s115))))⟩
  | 14, hk => cases hk; exact ⟨_, rfl, _, rfl, by decide, by decide⟩
  | 15, hk => cases hk; exact ⟨_, rfl, _, rfl, sg_le.up H162.2.2.1 _ _ (m156 _ _ (m146 _ _ (m136 _ _ s125)))⟩
  | 16, hk => cases hk; exact ⟨_, rfl, _, rfl, sg_le.up H162.2.2.1 _ _ (m156 _ _ (m146 _ _ s135))⟩
  | 17, hk => cases hk; exact ⟨_, rfl, _, rfl, sg_le.up H162.2.2.1 _ _ (m156 _ _ s145)⟩
  | 18, hk => cases hk; exact ⟨_, rfl, _, rfl, sg_le.up H162.2.2.1 _ _ s155⟩
  | k + 19, hk => cases hk
theorem n_X11_init {aK aV : Nat → Nat} (hT : k_tys tys cA) (hX : ∀ s, X s → xs A aK aV s) : k_nw l D tys A X cA Lb mX11_init 10 df_10 70 1 12 18 1573 := by
  intro Sg a h hH ca sa
  have H0 : nS cA Lb Sg h a (.inr (10, df_10)) Sg h := ⟨hH, ca, sa, fun _ _ _ => ⟨rfl, rfl⟩⟩
  refine tt_aload_n rfl (List.Mem.head _) (tX11_init_0_ok (0, .aload_n 0, 1) (List.mem_of_getElem? (i := 0) rfl)) ?_
  refine tt_objInit (wA5 61 rfl rfl) (wA1 30 rfl rfl) (wA1 31 rfl rfl) (tX11_init_0_ok (1, .invokespecial 3, 3) (List.mem_of_getElem? (i := 1) rfl)) (by decide) (Nat.le_of_ble_eq_true rfl) ?_
  refine tt_aload_n rfl (List.Mem.head _) (tX11_init_0_ok (4, .aload_n 0, 1) (List.mem_of_getElem? (i := 2) rfl)) ?_
  refine tt_sipush rfl (tX11_init_0_ok (5, .sipush 160, 3) (List.mem_of_getElem? (i := 3) rfl)) ?_
  refine n_arr (L := 51) hT H0 rfl (by decide +kernel) (by decide) rfl (by decide) rfl (by decide) (by decide) (by decide) (tX11_init_0_ok (8, .newarray .byte, 2) (List.mem_of_getElem? (i := 4) rfl)) (fun b1 S2 g3 H4 s5 m6 o7 => ?_)
  refine n_put (own := 16) (ci := 10) (k := 1) [.int 0, .ref b1, .null, .null, .null, .null, .int 0, .int 0, .int 0, .int 0, .int 0, .int 0, .int 0, .int 0, .int 0, .null, .null, .null, .int 0, .null, .int 0, .int 0, .null, .null, .null, .null, .null, .null, .null, .null, .null, .null, .int 0, .int 0, .int 0, .int 0, .long 0, .long 0, .long 0, .int 0, .null, .null, .int 0, .int 0, .int 0, .int 0, .null] rfl H4 rfl rfl (by decide) rfl rfl ⟨rfl, rfl⟩ (Nat.le_of_ble_eq_true rfl) (tX11_init_0_ok (10, .putfield 9, 3) (List.mem_of_getElem? (i := 5) rfl)) (fun g8 H9 f10 => ?_)
  refine tt_aload_n rfl (List.Mem.head _) (tX11_init_0_ok (13, .aload_n 0, 1) (List.mem_of_getElem? (i := 6) rfl)) ?_
  refine tt_sipush rfl (tX11_init_0_ok (14, .sipush 640, 3) (List.mem_of_getElem? (i := 7) rfl)) ?_
  refine n_arr (L := 52) hT H9 rfl (by decide +kernel) (by decide) rfl (by decide) rfl (by decide) (by decide) (by decide) (tX11_init_0_ok (17, .newarray .byte, 2) (List.mem_of_getElem? (i := 8) rfl)) (fun b11 S12 g13 H14 s15 m16 o17 => ?_)
  refine n_put (own := 16) (ci := 10) (k := 2) [.int 0, .ref b1, .ref b11, .null, .null, .null, .int 0, .int 0, .int 0, .int 0, .int 0, .int 0, .int 0, .int 0, .int 0, .null, .null, .null, .int 0, .null, .int 0, .int 0, .null, .null, .null, .null, .null, .null, .null, .null, .null, .null, .int 0, .int 0, .int 0, .int 0, .long 0, .long 0, .long 0, .int 0, .null, .null, .int 0, .int 0, .int 0, .int 0, .null] rfl H14 rfl rfl (by decide) rfl rfl ⟨rfl, rfl⟩ (Nat.le_of_ble_eq_true rfl) (tX11_init_0_ok (19, .putfield 13, 3) (List.mem_of_getElem? (i := 9) rfl)) (fun g18 H19 f20 => ?_)
  refine tt_aload_n rfl (List.Mem.head _) (tX11_init_0_ok (22, .aload_n 0, 1) (List.mem_of_getElem? (i := 10) rfl)) ?_
  refine tt_iconst rfl (tX11_init_0_ok (23, .iconst 4, 1) (List.mem_of_getElem? (i := 11) rfl)) ?_
  refine n_arr (L := 53) hT H19 rfl (by decide +kernel) (by decide) rfl (by decide) rfl (by decide) (by decide) (by decide) (tX11_init_0_ok (24, .newarray .int, 2) (List.mem_of_getElem? (i := 12) rfl)) (fun b21 S22 g23 H24 s25 m26 o27 => ?_)
  refine n_put (own := 16) (ci := 10) (k := 3) [.int 0, .ref b1, .ref b11, .ref b21, .null, .null, .int 0, .int 0, .int 0, .int 0, .int 0, .int 0, .int 0, .int 0, .int 0, .null, .null, .null, .int 0, .null, .int 0, .int 0, .null, .null, .null, .null, .null, .null, .null, .null, .null, .null, .int 0, .int 0, .int 0, .int 0, .long 0, .long 0, .long 0, .int 0, .null, .null, .int 0, .int 0, .int 0, .int 0, .null] rfl H24 rfl rfl (by decide) rfl rfl ⟨rfl, rfl⟩ (Nat.le_of_ble_eq_true rfl) (tX11_init_0_ok (26, .putfield 16, 3) (List.mem_of_getElem? (i := 13) rfl)) (fun g28 H29 f30 => ?_)
  refine tt_aload_n rfl (List.Mem.head _) (tX11_init_0_ok (29, .aload_n 0, 1) (List.mem_of_getElem? (i := 14) rfl)) ?_
  refine tt_sipush rfl (tX11_init_0_ok (30, .sipush 128, 3) (List.mem_of_getElem? (i := 15) rfl)) ?_
  refine n_arr (L := 54) hT H29 rfl (by decide +kernel) (by decide) rfl (by decide) rfl (by decide) (by decide) (by decide) (tX11_init_0_ok (33, .newarray .int, 2) (List.mem_of_getElem? (i := 16) rfl)) (fun b31 S32 g33 H34 s35 m36 o37 => ?_)
  refine n_put (own := 16) (ci := 10) (k := 4) [.int 0, .ref b1, .ref b11, .ref b21, .ref b31, .null, .int 0, .int 0, .int 0, .int 0, .int 0, .int 0, .int 0, .int 0, .int 0, .null, .null, .null, .int 0, .null, .int 0, .int 0, .null, .null, .null, .null, .null, .null, .null, .null, .null, .null, .int 0, .int 0, .int 0, .int 0, .long 0, .long 0, .long 0, .int 0, .null, .null, .int 0, .int 0, .int 0, .int 0, .null] rfl H34 rfl rfl (by decide) rfl rfl ⟨rfl, rfl⟩ (Nat.le_of_ble_eq_true rfl) (tX11_init_0_ok (35, .putfield 20, 3) (List.mem_of_getElem? (i := 17) rfl)) (fun g38 H39 f40 => ?_)
  refine tt_aload_n rfl (List.Mem.head _) (tX11_init_0_ok (38, .aload_n 0, 1) (List.mem_of_getElem? (i := 18) rfl)) ?_
  refine tt_aload_n rfl (List.Mem.head _) (tX11_init_0_ok (39, .aload_n 0, 1) (List.mem_of_getElem? (i := 19) rfl)) ?_
  refine tt_get (pg_k 10 (by decide)) H39.2.1 (by decide) (pg_fw 16 _ (k_fd_ok (q := (10, 1)) rfl)) rfl (tX11_init_0_ok (40, .getfield 9, 3) (List.mem_of_getElem? (i := 20) rfl)) ?_
  refine n_put (own := 16) (ci := 10) (k := 5) [.int 0, .ref b1, .ref b11, .ref b21, .ref b31, .ref b1, .int 0, .int 0, .int 0, .int 0, .int 0, .int 0, .int 0, .int 0, .int 0, .null, .null, .null, .int 0, .null, .int 0, .int 0, .null, .null, .null, .null, .null, .null, .null, .null, .null, .null, .int 0, .int 0, .int 0, .int 0, .long 0, .long 0, .long 0, .int 0, .null, .null, .int 0, .int 0, .int 0, .int 0, .null] rfl H39 rfl rfl (by decide) rfl rfl ⟨rfl, rfl⟩ (Nat.le_of_ble_eq_true rfl) (tX11_init_0_ok (43, .putfield 23, 3) (List.mem_of_getElem? (i := 21) rfl)) (fun g41 H42 f43 => ?_)
  refine tt_aload_n rfl (List.Mem.head _) (tX11_init_0_ok (46, .aload_n 0, 1) (List.mem_of_getElem? (i := 22) rfl)) ?_
  refine tt_ldcS (fun s x => (hX s x).2.2.2.1) (tX11_init_0_ok (47, .ldc 26, 2) (List.mem_of_getElem? (i := 23) rfl)) ?_
  refine n_put (own := 16) (ci := 10) (k := 15) [.int 0, .ref b1, .ref b11, .ref b21, .ref b31, .ref b1, .int 0, .int 0, .int 0, .int 0, .int 0, .int 0, .int 0, .int 0, .int 0, .ref (aK 0), .null, .null, .int 0, .null, .int 0, .int 0, .null, .null, .null, .null, .null, .null, .null, .null, .null, .null, .int 0, .int 0, .int 0, .int 0, .long 0, .long 0, .long 0, .int 0, .null, .null, .int 0, .int 0, .int 0, .int 0, .null] rfl H42 rfl rfl (by decide) rfl rfl ⟨rfl, rfl⟩ (Nat.le_of_ble_eq_true rfl) (tX11_init_0_ok (49, .putfield 28, 3) (List.mem_of_getElem? (i := 24) rfl)) (fun g44 H45 f46 => ?_)
  refine tt_aload_n rfl (List.Mem.head _) (tX11_init_0_ok (52, .aload_n 0, 1) (List.mem_of_getElem? (i := 25) rfl)) ?_
  refine tt_ldcS (fun s x => (hX s x).2.2.2.2.1) (tX11_init_0_ok (53, .ldc 32, 2) (List.mem_of_getElem? (i := 26) rfl)) ?_
  refine n_put (own := 16) (ci := 10) (k := 16) [.int 0, .ref b1, .ref b11, .ref b21, .ref b31, .ref b1, .int 0, .int 0, .int 0, .int 0, .int 0, .int 0, .int 0, .int 0, .int 0, .ref (aK 0), .ref (aK 1), .null, .int 0, .null, .int 0, .int 0, .null, .null, .null, .null, .null, .null, .null, .null, .null, .null, .int 0, .int 0, .int 0, .int 0, .long 0, .long 0, .long 0, .int 0, .null, .null, .int 0, .int 0, .int 0, .int 0, .null] rfl H45 rfl rfl (by decide) rfl rfl ⟨rfl, rfl⟩ (Nat.le_of_ble_eq_true rfl) (tX11_init_0_ok (55, .putfield 34, 3) (List.mem_of_getElem? (i := 27) rfl)) (fun g47 H48 f49 => ?_)
  refine tt_aload_n rfl (List.Mem.head _) (tX11_init_0_ok (58, .aload_n 0, 1) (List.mem_of_getElem? (i := 28) rfl)) ?_
  refine tt_ldcS (fun s x => (hX s x).2.2.2.2.2) (tX11_init_0_ok (59, .ldc 37, 2) (List.mem_of_getElem? (i := 29) rfl)) ?_
  refine n_put (own := 16) (ci := 10) (k := 17) [.int 0, .ref b1, .ref b11, .ref b21, .ref b31, .ref b1, .int 0, .int 0, .int 0, .int 0, .int 0, .int 0, .int 0, .int 0, .int 0, .ref (aK 0), .ref (aK 1), .ref (aK 2), .int 0, .null, .int 0, .int 0, .null, .null, .null, .null, .null, .null, .null, .null, .null, .null, .int 0, .int 0, .int 0, .int 0, .long 0, .long 0, .long 0, .int 0, .null, .null, .int 0, .int 0, .int 0, .int 0, .null] rfl H48 rfl rfl (by decide) rfl rfl ⟨rfl, rfl⟩ (Nat.le_of_ble_eq_true rfl) (tX11_init_0_ok (61, .putfield 39, 3) (List.mem_of_getElem? (i := 30) rfl)) (fun g50 H51 f52 => ?_)
  refine tt_aload_n rfl (List.Mem.head _) (tX11_init_0_ok (64, .aload_n 0, 1) (List.mem_of_getElem? (i := 31) rfl)) ?_
  refine tt_bipush rfl (tX11_init_0_ok (65, .bipush 108, 2) (List.mem_of_getElem? (i := 32) rfl)) ?_
  refine n_arr (L := 69) hT H51 rfl (by decide +kernel) (by decide) rfl (by decide) rfl (by decide) (by decide) (by decide) (tX11_init_0_ok (67, .newarray .int, 2) (List.mem_of_getElem? (i := 33) rfl)) (fun b53 S54 g55 H56 s57 m58 o59 => ?_)
  refine n_put (own := 16) (ci := 10) (k := 19) [.int 0, .ref b1, .ref b11, .ref b21, .ref b31, .ref b1, .int 0, .int 0, .int 0, .int 0, .int 0, .int 0, .int 0, .int 0, .int 0, .ref (aK 0), .ref (aK 1), .ref (aK 2), .int 0, .ref b53, .int 0, .int 0, .null, .null, .null, .null, .null, .null, .null, .null, .null, .null, .int 0, .int 0, .int 0, .int 0, .long 0, .long 0, .long 0, .int 0, .null, .null, .int 0, .int 0, .int 0, .int 0, .null] rfl H56 rfl rfl (by decide) rfl rfl ⟨rfl, rfl⟩ (Nat.le_of_ble_eq_true rfl) (tX11_init_0_ok (69, .putfield 42, 3) (List.mem_of_getElem? (i := 34) rfl)) (fun g60 H61 f62 => ?_)
  refine tt_aload_n rfl (List.Mem.head _) (tX11_init_0_ok (72, .aload_n 0, 1) (List.mem_of_getElem? (i := 35) rfl)) ?_
  refine tt_bipush rfl (tX11_init_0_ok (73, .bipush 39, 2) (List.mem_of_getElem? (i := 36) rfl)) ?_
  refine n_arr (L := 56) hT H61 rfl (by decide +kernel) (by decide) rfl (by decide) rfl (by decide) (by decide) (by decide) (tX11_init_0_ok (75, .newarray .int, 2) (List.mem_of_getElem? (i := 37) rfl)) (fun b63 S64 g65 H66 s67 m68 o69 => ?_)
  refine n_put (own := 16) (ci := 10) (k := 22) [.int 0, .ref b1, .ref b11, .ref b21, .ref b31, .ref b1, .int 0, .int 0, .int 0, .int 0, .int 0, .int 0, .int 0, .int 0, .int 0, .ref (aK 0), .ref (aK 1), .ref (aK 2), .int 0, .ref b53, .int 0, .int 0, .ref b63, .null, .null, .null, .null, .null, .null, .null, .null, .null, .int 0, .int 0, .int 0, .int 0, .long 0, .long 0, .long 0, .int 0, .null, .null, .int 0, .int 0, .int 0, .int 0, .null] rfl H66 rfl rfl (by decide) rfl rfl ⟨rfl, rfl⟩ (Nat.le_of_ble_eq_true rfl) (tX11_init_0_ok (77, .putfield 45, 3) (List.mem_of_getElem? (i := 38) rfl)) (fun g70 H71 f72 => ?_)
  refine tt_aload_n rfl (List.Mem.head _) (tX11_init_0_ok (80, .aload_n 0, 1) (List.mem_of_getElem? (i := 39) rfl)) ?_
  refine tt_bipush rfl (tX11_init_0_ok (81, .bipush 39, 2) (List.mem_of_getElem? (i := 40) rfl)) ?_
  refine n_arr (L := 57) hT H71 rfl (by decide +kernel) (by decide) rfl (by decide) rfl (by decide) (by decide) (by decide) (tX11_init_0_ok (83, .newarray .int, 2) (List.mem_of_getElem? (i := 41) rfl)) (fun b73 S74 g75 H76 s77 m78 o79 => ?_)
  refine n_put (own := 16) (ci := 10) (k := 23) [.int 0, .ref b1, .ref b11, .ref b21, .ref b31, .ref b1, .int 0, .int 0, .int 0, .int 0, .int 0, .int 0, .int 0, .int 0, .int 0, .ref (aK 0), .ref (aK 1), .ref (aK 2), .int 0, .ref b53, .int 0, .int 0, .ref b63, .ref b73, .null, .null, .null, .null, .null, .null, .null, .null, .int 0, .int 0, .int 0, .int 0, .long 0, .long 0, .long 0, .int 0, .null, .null, .int 0, .int 0, .int 0, .int 0, .null] rfl H76 rfl rfl (by decide) rfl rfl ⟨rfl, rfl⟩ (Nat.le_of_ble_eq_true rfl) (tX11_init_0_ok (85, .putfield 48, 3) (List.mem_of_getElem? (i := 42) rfl)) (fun g80 H81 f82 => ?_)
  refine tt_aload_n rfl (List.Mem.head _) (tX11_init_0_ok (88, .aload_n 0, 1) (List.mem_of_getElem? (i := 43) rfl)) ?_
  refine tt_bipush rfl (tX11_init_0_ok (89, .bipush 39, 2) (List.mem_of_getElem? (i := 44) rfl)) ?_
  refine n_arr (L := 58) hT H81 rfl (by decide +kernel) (by decide) rfl (by decide) rfl (by decide) (by decide) (by decide) (tX11_init_0_ok (91, .newarray .int, 2) (List.mem_of_getElem? (i := 45) rfl)) (fun b83 S84 g85 H86 s87 m88 o89 => ?_)
  refine n_put (own := 16) (ci := 10) (k := 24) [.int 0, .ref b1, .ref b11, .ref b21, .ref b31, .ref b1, .int 0, .int 0, .int 0, .int 0, .int 0, .int 0, .int 0, .int 0, .int 0, .ref (aK 0), .ref (aK 1), .ref (aK 2), .int 0, .ref b53, .int 0, .int 0, .ref b63, .ref b73, .ref b83, .null, .null, .null, .null, .null, .null, .null, .int 0, .int 0, .int 0, .int 0, .long 0, .long 0, .long 0, .int 0, .null, .null, .int 0, .int 0, .int 0, .int 0, .null] rfl H86 rfl rfl (by decide) rfl rfl ⟨rfl, rfl⟩ (Nat.le_of_ble_eq_true rfl) (tX11_init_0_ok (93, .putfield 51, 3) (List.mem_of_getElem? (i := 46) rfl)) (fun g90 H91 f92 => ?_)
  refine tt_aload_n rfl (List.Mem.head _) (tX11_init_0_ok (96, .aload_n 0, 1) (List.mem_of_getElem? (i := 47) rfl)) ?_
  refine tt_bipush rfl (tX11_init_0_ok (97, .bipush 18, 2) (List.mem_of_getElem? (i := 48) rfl)) ?_
  refine n_arr (L := 59) hT H91 rfl (by decide +kernel) (by decide) rfl (by decide) rfl (by decide) (by decide) (by decide) (tX11_init_0_ok (99, .newarray .int, 2) (List.mem_of_getElem? (i := 49) rfl)) (fun b93 S94 g95 H96 s97 m98 o99 => ?_)
  refine n_put (own := 16) (ci := 10) (k := 25) [.int 0, .ref b1, .ref b11, .ref b21, .ref b31, .ref b1, .int 0, .int 0, .int 0, .int 0, .int 0, .int 0, .int 0, .int 0, .int 0, .ref (aK 0), .ref (aK 1), .ref (aK 2), .int 0, .ref b53, .int 0, .int 0, .ref b63, .ref b73, .ref b83, .ref b93, .null, .null, .null, .null, .null, .null, .int 0, .int 0, .int 0, .int 0, .long 0, .long 0, .long 0, .int 0, .null, .null, .int 0, .int 0, .int 0, .int 0, .null] rfl H96 rfl rfl (by decide) rfl rfl ⟨rfl, rfl⟩ (Nat.le_of_ble_eq_true rfl) (tX11_init_0_ok (101, .putfield 54, 3) (List.mem_of_getElem? (i := 50) rfl)) (fun g100 H101 f102 => ?_)
  refine tt_aload_n rfl (List.Mem.head _) (tX11_init_0_ok (104, .aload_n 0, 1) (List.mem_of_getElem? (i := 51) rfl)) ?_
  refine tt_bipush rfl (tX11_init_0_ok (105, .bipush 12, 2) (List.mem_of_getElem? (i := 52) rfl)) ?_
  refine n_arr (L := 60) hT H101 rfl (by decide +kernel) (by decide) rfl (by decide) rfl (by decide) (by decide) (by decide) (tX11_init_0_ok (107, .newarray .int, 2) (List.mem_of_getElem? (i := 53) rfl)) (fun b103 S104 g105 H106 s107 m108 o109 => ?_)
  refine n_put (own := 16) (ci := 10) (k := 26) [.int 0, .ref b1, .ref b11, .ref b21, .ref b31, .ref b1, .int 0, .int 0, .int 0, .int 0, .int 0, .int 0, .int 0, .int 0, .int 0, .ref (aK 0), .ref (aK 1), .ref (aK 2), .int 0, .ref b53, .int 0, .int 0, .ref b63, .ref b73, .ref b83, .ref b93, .ref b103, .null, .null, .null, .null, .null, .int 0, .int 0, .int 0, .int 0, .long 0, .long 0, .long 0, .int 0, .null, .null, .int 0, .int 0, .int 0, .int 0, .null] rfl H106 rfl rfl (by decide) rfl rfl ⟨rfl, rfl⟩ (Nat.le_of_ble_eq_true rfl) (tX11_init_0_ok (109, .putfield 57, 3) (List.mem_of_getElem? (i := 54) rfl)) (fun g110 H111 f112 => ?_)
  refine tt_aload_n rfl (List.Mem.head _) (tX11_init_0_ok (112, .aload_n 0, 1) (List.mem_of_getElem? (i := 55) rfl)) ?_
  refine tt_bipush rfl (tX11_init_0_ok (113, .bipush 12, 2) (List.mem_of_getElem? (i := 56) rfl)) ?_
  refine n_arr (L := 61) hT H111 rfl (by decide +kernel) (by decide) rfl (by decide) rfl (by decide) (by decide) (by decide) (tX11_init_0_ok (115, .newarray .int, 2) (List.mem_of_getElem? (i := 57) rfl)) (fun b113 S114 g115 H116 s117 m118 o119 => ?_)
  refine n_put (own := 16) (ci := 10) (k := 27) [.int 0, .ref b1, .ref b11, .ref b21, .ref b31, .ref b1, .int 0, .int 0, .int 0, .int 0, .int 0, .int 0, .int 0, .int 0, .int 0, .ref (aK 0), .ref (aK 1), .ref (aK 2), .int 0, .ref b53, .int 0, .int 0, .ref b63, .ref b73, .ref b83, .ref b93, .ref b103, .ref b113, .null, .null, .null, .null, .int 0, .int 0, .int 0, .int 0, .long 0, .long 0, .long 0, .int 0, .null, .null, .int 0, .int 0, .int 0, .int 0, .null] rfl H116 rfl rfl (by decide) rfl rfl ⟨rfl, rfl⟩ (Nat.le_of_ble_eq_true rfl) (tX11_init_0_ok (117, .putfield 60, 3) (List.mem_of_getElem? (i := 58) rfl)) (fun g120 H121 f122 => ?_)
  refine tt_aload_n rfl (List.Mem.head _) (tX11_init_0_ok (120, .aload_n 0, 1) (List.mem_of_getElem? (i := 59) rfl)) ?_
  refine tt_bipush rfl (tX11_init_1_ok (121, .bipush 8, 2) (List.mem_of_getElem? (i := 0) rfl)) ?_
  refine n_arr (L := 62) hT H121 rfl (by decide +kernel) (by decide) rfl (by decide) rfl (by decide) (by decide) (by decide) (tX11_init_1_ok (123, .newarray .int, 2) (List.mem_of_getElem? (i := 1) rfl)) (fun b123 S124 g125 H126 s127 m128 o129 => ?_)
  refine n_put (own := 16) (ci := 10) (k := 28) [.int 0, .ref b1, .ref b11, .ref b21, .ref b31, .ref b1, .int 0, .int 0, .int 0, .int 0, .int 0, .int 0, .int 0, .int 0, .int 0, .ref (aK 0), .ref (aK 1), .ref (aK 2), .int 0, .ref b53, .int 0, .int 0, .ref b63, .ref b73, .ref b83, .ref b93, .ref b103, .ref b113, .ref b123, .null, .null, .null, .int 0, .int 0, .int 0, .int 0, .long 0, .long 0, .long 0, .int 0, .null, .null, .int 0, .int 0, .int 0, .int 0, .null] rfl H126 rfl rfl (by decide) rfl rfl ⟨rfl, rfl⟩ (Nat.le_of_ble_eq_true rfl) (tX11_init_1_ok (125, .putfield 63, 3) (List.mem_of_getElem? (i := 2) rfl)) (fun g130 H131 f132 => ?_)
  refine tt_aload_n rfl (List.Mem.head _) (tX11_init_1_ok (128, .aload_n 0, 1) (List.mem_of_getElem? (i := 3) rfl)) ?_
  refine tt_bipush rfl (tX11_init_1_ok (129, .bipush 6, 2) (List.mem_of_getElem? (i := 4) rfl)) ?_
  refine n_arr (L := 63) hT H131 rfl (by decide +kernel) (by decide) rfl (by decide) rfl (by decide) (by decide) (by decide) (tX11_init_1_ok (131, .newarray .int, 2) (List.mem_of_getElem? (i := 5) rfl)) (fun b133 S134 g135 H136 s137 m138 o139 => ?_)
  refine n_put (own := 16) (ci := 10) (k := 29) [.int 0, .ref b1, .ref b11, .ref b21, .ref b31, .ref b1, .int 0, .int 0, .int 0, .int 0, .int 0, .int 0, .int 0, .int 0, .int 0, .ref (aK 0), .ref (aK 1), .ref (aK 2), .int 0, .ref b53, .int 0, .int 0, .ref b63, .ref b73, .ref b83, .ref b93, .ref b103, .ref b113, .ref b123, .ref b133, .null, .null, .int 0, .int 0, .int 0, .int 0, .long 0, .long 0, .long 0, .int 0, .null, .null, .int 0, .int 0, .int 0, .int 0, .null] rfl H136 rfl rfl (by decide) rfl rfl ⟨rfl, rfl⟩ (Nat.le_of_ble_eq_true rfl) (tX11_init_1_ok (133, .putfield 66, 3) (List.mem_of_getElem? (i := 6) rfl)) (fun g140 H141 f142 => ?_)
  refine tt_aload_n rfl (List.Mem.head _) (tX11_init_1_ok (136, .aload_n 0, 1) (List.mem_of_getElem? (i := 7) rfl)) ?_
  refine tt_bipush rfl (tX11_init_1_ok (137, .bipush 6, 2) (List.mem_of_getElem? (i := 8) rfl)) ?_
  refine n_arr (L := 64) hT H141 rfl (by decide +kernel) (by decide) rfl (by decide) rfl (by decide) (by decide) (by decide) (tX11_init_1_ok (139, .newarray .int, 2) (List.mem_of_getElem? (i := 9) rfl)) (fun b143 S144 g145 H146 s147 m148 o149 => ?_)
  refine n_put (own := 16) (ci := 10) (k := 30) [.int 0, .ref b1, .ref b11, .ref b21, .ref b31, .ref b1, .int 0, .int 0, .int 0, .int 0, .int 0, .int 0, .int 0, .int 0, .int 0, .ref (aK 0), .ref (aK 1), .ref (aK 2), .int 0, .ref b53, .int 0, .int 0, .ref b63, .ref b73, .ref b83, .ref b93, .ref b103, .ref b113, .ref b123, .ref b133, .ref b143, .null, .int 0, .int 0, .int 0, .int 0, .long 0, .long 0, .long 0, .int 0, .null, .null, .int 0, .int 0, .int 0, .int 0, .null] rfl H146 rfl rfl (by decide) rfl rfl ⟨rfl, rfl⟩ (Nat.le_of_ble_eq_true rfl) (tX11_init_1_ok (141, .putfield 69, 3) (List.mem_of_getElem? (i := 10) rfl)) (fun g150 H151 f152 => ?_)
  refine tt_aload_n rfl (List.Mem.head _) (tX11_init_1_ok (144, .aload_n 0, 1) (List.mem_of_getElem? (i := 11) rfl)) ?_
  refine tt_sipush rfl (tX11_init_1_ok (145, .sipush 324, 3) (List.mem_of_getElem? (i := 12) rfl)) ?_
  refine n_arr (L := 65) hT H151 rfl (by decide +kernel) (by decide) rfl (by decide) rfl (by decide) (by decide) (by decide) (tX11_init_1_ok (148, .newarray .boolean, 2) (List.mem_of_getElem? (i := 13) rfl)) (fun b153 S154 g155 H156 s157 m158 o159 => ?_)
  refine n_put (own := 16) (ci := 10) (k := 31) [.int 0, .ref b1, .ref b11, .ref b21, .ref b31, .ref b1, .int 0, .int 0, .int 0, .int 0, .int 0, .int 0, .int 0, .int 0, .int 0, .ref (aK 0), .ref (aK 1), .ref (aK 2), .int 0, .ref b53, .int 0, .int 0, .ref b63, .ref b73, .ref b83, .ref b93, .ref b103, .ref b113, .ref b123, .ref b133, .ref b143, .ref b153, .int 0, .int 0, .int 0, .int 0, .long 0, .long 0, .long 0, .int 0, .null, .null, .int 0, .int 0, .int 0, .int 0, .null] rfl H156 rfl rfl (by decide) rfl rfl ⟨rfl, rfl⟩ (Nat.le_of_ble_eq_true rfl) (tX11_init_1_ok (150, .putfield 72, 3) (List.mem_of_getElem? (i := 14) rfl)) (fun g160 H161 f162 => ?_)
  refine tt_aload_n rfl (List.Mem.head _) (tX11_init_1_ok (153, .aload_n 0, 1) (List.mem_of_getElem? (i := 15) rfl)) ?_
  refine tt_bipush rfl (tX11_init_1_ok (154, .bipush 12, 2) (List.mem_of_getElem? (i := 16) rfl)) ?_
  refine n_arr (L := 66) hT H161 rfl (by decide +kernel) (by decide) rfl (by decide) rfl (by decide) (by decide) (by decide) (tX11_init_1_ok (156, .newarray .int, 2) (List.mem_of_getElem? (i := 17) rfl)) (fun b163 S164 g165 H166 s167 m168 o169 => ?_)
  refine n_put (own := 16) (ci := 10) (k := 40) [.int 0, .ref b1, .ref b11, .ref b21, .ref b31, .ref b1, .int 0, .int 0, .int 0, .int 0, .int 0, .int 0, .int 0, .int 0, .int 0, .ref (aK 0), .ref (aK 1), .ref (aK 2), .int 0, .ref b53, .int 0, .int 0, .ref b63, .ref b73, .ref b83, .ref b93, .ref b103, .ref b113, .ref b123, .ref b133, .ref b143, .ref b153, .int 0, .int 0, .int 0, .int 0, .long 0, .long 0, .long 0, .int 0, .ref b163, .null, .int 0, .int 0, .int 0, .int 0, .null] rfl H166 rfl rfl (by decide) rfl rfl ⟨rfl, rfl⟩ (Nat.le_of_ble_eq_true rfl) (tX11_init_1_ok (158, .putfield 76, 3) (List.mem_of_getElem? (i := 18) rfl)) (fun g170 H171 f172 => ?_)
  refine tt_aload_n rfl (List.Mem.head _) (tX11_init_1_ok (161, .aload_n 0, 1) (List.mem_of_getElem? (i := 19) rfl)) ?_
  refine tt_bipush rfl (tX11_init_1_ok (162, .bipush 6, 2) (List.mem_of_getElem? (i := 20) rfl)) ?_
  refine n_arr (L := 67) hT H171 rfl (by decide +kernel) (by decide) rfl (by decide) rfl (by decide) (by decide) (by decide) (tX11_init_1_ok (164, .newarray .int, 2) (List.mem_of_getElem? (i := 21) rfl)) (fun b173 S174 g175 H176 s177 m178 o179 => ?_)
  refine n_put (own := 16) (ci := 10) (k := 41) [.int 0, .ref b1, .ref b11, .ref b21, .ref b31, .ref b1, .int 0, .int 0, .int 0, .int 0, .int 0, .int 0, .int 0, .int 0, .int 0, .ref (aK 0), .ref (aK 1), .ref (aK 2), .int 0, .ref b53, .int 0, .int 0, .ref b63, .ref b73, .ref b83, .ref b93, .ref b103, .ref b113, .ref b123, .ref b133, .ref b143, .ref b153, .int 0, .int 0, .int 0, .int 0, .long 0, .long 0, .long 0, .int 0, .ref b163, .ref b173, .int 0, .int 0, .int 0, .int 0, .null] rfl H176 rfl rfl (by decide) rfl rfl ⟨rfl, rfl⟩ (Nat.le_of_ble_eq_true rfl) (tX11_init_1_ok (166, .putfield 79, 3) (List.mem_of_getElem? (i := 22) rfl)) (fun g180 H181 f182 => ?_)
  refine tt_aload_n rfl (List.Mem.head _) (tX11_init_1_ok (169, .aload_n 0, 1) (List.mem_of_getElem? (i := 23) rfl)) ?_
  refine tt_bipush rfl (tX11_init_1_ok (170, .bipush 12, 2) (List.mem_of_getElem? (i := 24) rfl)) ?_
  refine n_arr (L := 68) hT H181 rfl (by decide +kernel) (by decide) rfl (by decide) rfl (by decide) (by decide) (by decide) (tX11_init_1_ok (172, .newarray .int, 2) (List.mem_of_getElem? (i := 25) rfl)) (fun b183 S184 g185 H186 s187 m188 o189 => ?_)
  refine n_put (own := 16) (ci := 10) (k := 46) [.int 0, .ref b1, .ref b11, .ref b21, .ref b31, .ref b1, .int 0, .int 0, .int 0, .int 0, .int 0, .int 0, .int 0, .int 0, .int 0, .ref (aK 0), .ref (aK 1), .ref (aK 2), .int 0, .ref b53, .int 0, .int 0, .ref b63, .ref b73, .ref b83, .ref b93, .ref b103, .ref b113, .ref b123, .ref b133, .ref b143, .ref b153, .int 0, .int 0, .int 0, .int 0, .long 0, .long 0, .long 0, .int 0, .ref b163, .ref b173, .int 0, .int 0, .int 0, .int 0, .ref b183] rfl H186 rfl rfl (by decide) rfl rfl ⟨rfl, rfl⟩ (Nat.le_of_ble_eq_true rfl) (tX11_init_1_ok (174, .putfield 82, 3) (List.mem_of_getElem? (i := 26) rfl)) (fun g190 H191 f192 => ?_)
  refine tt_vret rfl (H191.fin (L := 70) ?_) (by decide) (by decide) (tX11_init_1_ok (177, .return_, 1) (List.mem_of_getElem? (i := 27) rfl))
  refine Or.inl ⟨rfl, _, rfl, rfl, fun k t hk => ?_⟩
  match k, hk with
  | 0, hk => cases hk; exact ⟨_, rfl, _, rfl, by decide, by decide⟩
  | 1, hk => cases hk; exact ⟨_, rfl, _, rfl, sg_le.up H191.2.2.1 _ _ (m188 _ _ (m178 _ _ (m168 _ _ (m158 _ _ (m148 _ _ (m138 _ _ (m128 _ _ (m118 _ _ (m108 _ _ (m98 _ _ (m88 _ _ (m78 _ _ (m68 _ _ (m58 _ _ (m36 _ _ (m26 _ _ (m16 _ _ s5)))))))))))))))))⟩
  | 2, hk => cases hk; exact ⟨_, rfl, _, rfl, sg_le.up H191.2.2.1 _ _ (m188 _ _ (m178 _ _ (m168 _ _ (m158 _ _ (m148 _ _ (m138 _ _ (m128 _ _ (m118 _ _ (m108 _ _ (m98 _ _ (m88 _ _ (m78 _ _ (m68 _ _ (m58 _ _ (m36 _ _ (m26 _ _ s15))))))))))))))))⟩
  | 3, hk => cases hk; exact ⟨_, rfl, _, rfl, sg_le.up H191.2.2.1 _ _ (m188 _ _ (m178 _ _ (m168 _ _ (m158 _ _ (m148 _ _ (m138 _ _ (m128 _ _ (m118 _ _ (m108 _ _ (m98 _ _ (m88 _ _ (m78 _ _ (m68 _ _ (m58 _ _ (m36 _ _ s25)))))))))))))))⟩
  | 4, hk => cases hk; exact ⟨_, rfl, _, rfl, sg_le.up H191.2.2.1 _ _ (m188 _ _ (m178 _ _ (m168 _ _ (m158 _ _ (m148 _ _ (m138 _ _ (m128 _ _ (m118 _ _ (m108 _ _ (m98 _ _ (m88 _ _ (m78 _ _ (m68 _ _ (m58 _ _ s35))))))))))))))⟩
  | 5, hk => cases hk; exact ⟨_, rfl, trivial⟩
  | 6, hk => cases hk; exact ⟨_, rfl, _, rfl, by decide, by decide⟩
  | 7, hk => cases hk; exact ⟨_, rfl, _, rfl, by decide, by decide⟩
  | 8, hk => cases hk; exact ⟨_, rfl, _, rfl, by decide, by decide⟩
  | 9, hk => cases hk; exact ⟨_, rfl, _, rfl, by decide, by decide⟩
  | 10, hk => cases hk; exact ⟨_, rfl, _, rfl, by decide, by decide⟩
  | 11, hk => cases hk; exact ⟨_, rfl, _, rfl, by decide, by decide⟩
  | 12, hk => cases hk; exact ⟨_, rfl, _, rfl, by decide, by decide⟩
  | 13, hk => cases hk; exact ⟨_, rfl, _, rfl, by decide, by decide⟩
  | 14, hk => cases hk; exact ⟨_, rfl, _, rfl, by decide, by decide⟩
  | 15, hk => cases hk; exact ⟨_, rfl, trivial⟩
  | 16, hk => cases hk; exact ⟨_, rfl, trivial⟩
  | 17, hk => cases hk; exact ⟨_, rfl, trivial⟩
  | 18, hk => cases hk; exact ⟨_, rfl, _, rfl, by decide, by decide⟩
  | 19, hk => cases hk; exact ⟨_, rfl, _, rfl, sg_le.up H191.2.2.1 _ _ (m188 _ _ (m178 _ _ (m168 _ _ (m158 _ _ (m148 _ _ (m138 _ _ (m128 _ _ (m118 _ _ (m108 _ _ (m98 _ _ (m88 _ _ (m78 _ _ (m68 _ _ s57)))))))))))))⟩
  | 20, hk => cases hk; exact ⟨_, rfl, _, rfl, by decide, by decide⟩
  | 21, hk => cases hk; exact ⟨_, rfl, _, rfl, by decide, by decide⟩
  | 22, hk => cases hk; exact ⟨_, rfl, _, rfl, sg_le.up H191.2.2.1 _ _ (m188 _ _ (m178 _ _ (m168 _ _ (m158 _ _ (m148 _ _ (m138 _ _ (m128 _ _ (m118 _ _ (m108 _ _ (m98 _ _ (m88 _ _ (m78 _ _ s67))))))))))))⟩
  | 23, hk => cases hk; exact ⟨_, rfl, _, rfl, sg_le.up H191.2.2.1 _ _ (m188 _ _ (m178 _ _ (m168 _ _ (m158 _ _ (m148 _ _ (m138 _ _ (m128 _ _ (m118 _ _ (m108 _ _ (m98 _ _ (m88 _ _ s77)))))))))))⟩
  | 24, hk => cases hk; exact ⟨_, rfl, _, rfl, sg_le.up H191.2.2.1 _ _ (m188 _ _ (m178 _ _ (m168 _ _ (m158 _ _ (m148 _ _ (m138 _ _ (m128 _ _ (m118 _ _ (m108 _ _ (m98 _ _ s87))))))))))⟩
  | 25, hk => cases hk; exact ⟨_, rfl, _, rfl, sg_le.up H191.2.2.1 _ _ (m188 _ _ (m178 _ _ (m168 _ _ (m158 _ _ (m148 _ _ (m138 _ _ (m128 _ _ (m118 _ _ (m108 _ _ s97)))))))))⟩
  | 26, hk => cases hk; exact ⟨_, rfl, _, rfl, sg_le.up H191.2.2.1 _ _ (m188 _ _ (m178 _ _ (m168 _ _ (m158 _ _ (m148 _ _ (m138 _ _ (m128 _ _ (m118 _ _ s107))))))))⟩
  | 27, hk => cases hk; exact ⟨_, rfl, _, rfl, sg_le.up H191.2.2.1 _ _ (m188 _ _ (m178 _ _ (m168 _ _ (m158 _ _ (m148 _ _ (m138 _ _ (m128 _ _ s117)))))))⟩
  | 28, hk => cases hk; exact ⟨_, rfl, _, rfl, sg_le.up H191.2.2.1 _ _ (m188 _ _ (m178 _ _ (m168 _ _ (m158 _ _ (m148 _ _ (m138 _ _ s127))))))⟩
  | 29, hk => cases hk; exact ⟨_, rfl, _, rfl, sg_le.up H191.2.2.1 _ _ (m188 _ _ (m178 _ _ (m168 _ _ (m158 _ _ (m148 _ _ s137)))))⟩
  | 30, hk => cases hk; exact ⟨_, rfl, _, rfl, sg_le.up H191.2.2.1 _ _ (m188 _ _ (m178 _ _ (m168 _ _ (m158 _ _ s147))))⟩
  | 31, hk => cases hk; exact ⟨_, rfl, _, rfl, sg_le.up H191.2.2.1 _ _ (m188 _ _ (m178 _ _ (m168 _ _ s157)))⟩
  | 32, hk => cases hk; exact ⟨_, rfl, _, rfl, by decide, by decide⟩
  | 33, hk => cases hk; exact ⟨_, rfl, _, rfl, by decide, by decide⟩
  | 34, hk => cases hk; exact ⟨_, rfl, _, rfl, by decide, by decide⟩
  | 35, hk => cases hk; exact ⟨_, rfl, _, rfl, by decide, by decide⟩
  | 36, hk => cases hk; exact ⟨_, rfl, _, rfl⟩
  | 37, hk => cases hk; exact ⟨_, rfl, _, rfl⟩
  | 38, hk => cases hk; exact ⟨_, rfl, _, rfl⟩
  | 39, hk => cases hk; exact ⟨_, rfl, _, rfl, by decide, by decide⟩
  | 40, hk => cases hk; exact ⟨_, rfl, _, rfl, sg_le.up H191.2.2.1 _ _ (m188 _ _ (m178 _ _ s167))⟩
  | 41, hk => cases hk; exact ⟨_, rfl, _, rfl, sg_le.up H191.2.2.1 _ _ (m188 _ _ s177)⟩
  | 42, hk => cases hk; exact ⟨_, rfl, _, rfl, by decide, by decide⟩
  | 43, hk => cases hk; exact ⟨_, rfl, _, rfl, by decide, by decide⟩
  | 44, hk => cases hk; exact ⟨_, rfl, _, rfl, by decide, by decide⟩
  | 45, hk => cases hk; exact ⟨_, rfl, _, rfl, by decide, by decide⟩
  | 46, hk => cases hk; exact ⟨_, rfl, _, rfl, sg_le.up H191.2.2.1 _ _ s187⟩
  | k + 47, hk => cases hk
end
