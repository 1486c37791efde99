/-- all words of the tables that stay over calls -/
def wsA : List Cond := lw_tbl.filter goodWord
theorem wA1 {w : Cond} (i : Nat) (h : tables_1_1[i]? = some w) (hg : goodWord w = true) : w ∈ wsA := List.mem_filter.mpr ⟨List.mem_append_right _ (List.mem_append_left _ (List.mem_of_getElem? h)), hg⟩
theorem wB1 {w : Cond} (i : Nat) (h : tables_1_1[i]? = some w) : w ∈ lw_tbl := List.mem_append_right _ (List.mem_append_left _ (List.mem_of_getElem? h))
theorem wA2 {w : Cond} (i : Nat) (h : tables_1_2[i]? = some w) (hg : goodWord w = true) : w ∈ wsA := List.mem_filter.mpr ⟨List.mem_append_right _ (List.mem_append_right _ (List.mem_append_left _ (List.mem_of_getElem? h))), hg⟩
theorem wB2 {w : Cond} (i : Nat) (h : tables_1_2[i]? = some w) : w ∈ lw_tbl := List.mem_append_right _ (List.mem_append_right _ (List.mem_append_left _ (List.mem_of_getElem? h)))
theorem wA3 {w : Cond} (i : Nat) (h : tables_1_3[i]? = some w) (hg : goodWord w = true) : w ∈ wsA := List.mem_filter.mpr ⟨List.mem_append_right _ (List.mem_append_right _ (List.mem_append_right _ (List.mem_append_left _ (List.mem_of_getElem? h)))), hg⟩
theorem wB3 {w : Cond} (i : Nat) (h : tables_1_3[i]? = some w) : w ∈ lw_tbl := List.mem_append_right _ (List.mem_append_right _ (List.mem_append_right _ (List.mem_append_left _ (List.mem_of_getElem? h))))
theorem wA4 {w : Cond} (i : Nat) (h : tables_1_4[i]? = some w) (hg : goodWord w = true) : w ∈ wsA := List.mem_filter.mpr ⟨List.mem_append_right _ (List.mem_append_right _ (List.mem_append_right _ (List.mem_append_right _ (List.mem_append_left _ (List.mem_of_getElem? h))))), hg⟩
theorem wB4 {w : Cond} (i : Nat) (h : tables_1_4[i]? = some w) : w ∈ lw_tbl := List.mem_append_right _ (List.mem_append_right _ (List.mem_append_right _ (List.mem_append_right _ (List.mem_append_left _ (List.mem_of_getElem? h)))))
theorem wA5 {w : Cond} (i : Nat) (h : tables_1_5[i]? = some w) (hg : goodWord w = true) : w ∈ wsA := List.mem_filter.mpr ⟨List.mem_append_right _ (List.mem_append_right _ (List.mem_append_right _ (List.mem_append_right _ (List.mem_append_right _ (List.mem_append_left _ (List.mem_of_getElem? h)))))), hg⟩
theorem wB5 {w : Cond} (i : Nat) (h : tables_1_5[i]? = some w) : w ∈ lw_tbl := List.mem_append_right _ (List.mem_append_right _ (List.mem_append_right _ (List.mem_append_right _ (List.mem_append_right _ (List.mem_append_left _ (List.mem_of_getElem? h))))))
theorem wA6 {w : Cond} (i : Nat) (h : tables_1_6[i]? = some w) (hg : goodWord w = true) : w ∈ wsA := List.mem_filter.mpr ⟨List.mem_append_right _ (List.mem_append_right _ (List.mem_append_right _ (List.mem_append_right _ (List.mem_append_right _ (List.mem_append_right _ (List.mem_append_left _ (List.mem_of_getElem? h))))))), hg⟩
theorem wB6 {w : Cond} (i : Nat) (h : tables_1_6[i]? = some w) : w ∈ lw_tbl := List.mem_append_right _ (List.mem_append_right _ (List.mem_append_right _ (List.mem_append_right _ (List.mem_append_right _ (List.mem_append_right _ (List.mem_append_left _ (List.mem_of_getElem? h)))))))
theorem wA7 {w : Cond} (i : Nat) (h : tables_1_7[i]? = some w) (hg : goodWord w = true) : w ∈ wsA := List.mem_filter.mpr ⟨List.mem_append_right _ (List.mem_append_right _ (List.mem_append_right _ (List.mem_append_right _ (List.mem_append_right _ (List.mem_append_right _ (List.mem_append_right _ (List.mem_of_getElem? h))))))), hg⟩
theorem wB7 {w : Cond} (i : Nat) (h : tables_1_7[i]? = some w) : w ∈ lw_tbl := List.mem_append_right _ (List.mem_append_right _ (List.mem_append_right _ (List.mem_append_right _ (List.mem_append_right _ (List.mem_append_right _ (List.mem_append_right _ (List.mem_of_getElem? h)))))))
theorem wS1 {q : MethodName × Nat} (i : Nat) (h : lw_privs_1[i]? = some q) : Cond.selects q.1.cls q.1 q.1 ∈ wsA := List.mem_filter.mpr ⟨List.mem_append_left _ (List.mem_map.mpr ⟨q, List.mem_append_left _ (List.mem_of_getElem? h), rfl⟩), rfl⟩
theorem wS2 {q : MethodName × Nat} (i : Nat) (h : lw_privs_2[i]? = some q) : Cond.selects q.1.cls q.1 q.1 ∈ wsA := List.mem_filter.mpr ⟨List.mem_append_left _ (List.mem_map.mpr ⟨q, List.mem_append_right _ (List.mem_append_left _ (List.mem_of_getElem? h)), rfl⟩), rfl⟩
theorem wS3 {q : MethodName × Nat} (i : Nat) (h : lw_privs_3[i]? = some q) : Cond.selects q.1.cls q.1 q.1 ∈ wsA := List.mem_filter.mpr ⟨List.mem_append_left _ (List.mem_map.mpr ⟨q, List.mem_append_right _ (List.mem_append_right _ (List.mem_append_left _ (List.mem_of_getElem? h))), rfl⟩), rfl⟩
theorem wS4 {q : MethodName × Nat} (i : Nat) (h : lw_privs_4[i]? = some q) : Cond.selects q.1.cls q.1 q.1 ∈ wsA := List.mem_filter.mpr ⟨List.mem_append_left _ (List.mem_map.mpr ⟨q, List.mem_append_right _ (List.mem_append_right _ (List.mem_append_right _ (List.mem_append_left _ (List.mem_of_getElem? h)))), rfl⟩), rfl⟩
theorem wS5 {q : MethodName × Nat} (i : Nat) (h : lw_privs_5[i]? = some q) : Cond.selects q.1.cls q.1 q.1 ∈ wsA := List.mem_filter.mpr ⟨List.mem_append_left _ (List.mem_map.mpr ⟨q, List.mem_append_right _ (List.mem_append_right _ (List.mem_append_right _ (List.mem_append_right _ (List.mem_append_left _ (List.mem_of_getElem? h))))), rfl⟩), rfl⟩
theorem wS6 {q : MethodName × Nat} (i : Nat) (h : lw_privs_6[i]? = some q) : Cond.selects q.1.cls q.1 q.1 ∈ wsA := List.mem_filter.mpr ⟨List.mem_append_left _ (List.mem_map.mpr ⟨q, List.mem_append_right _ (List.mem_append_right _ (List.mem_append_right _ (List.mem_append_right _ (List.mem_append_right _ (List.mem_of_getElem? h))))), rfl⟩), rfl⟩
def ch_n : Nat → String
  | 0 => RX0
  | 1 => RX1
  | 2 => RX2
  | 3 => RX3
  | 4 => RX4
  | 5 => RX5
  | 6 => RX6
  | 7 => RX7
  | 8 => RX9
  | 9 => RX10
  | _ => RX11
def ch_T : Nat → u_T
  | 0 => TX0
  | 1 => TX1
  | 2 => TX2
  | 3 => TX3
  | 4 => TX4
  | 5 => TX5
  | 6 => TX6
  | 7 => TX7
  | 8 => TX9
  | 9 => TX10
  | _ => TX11
def ch_N : Nat → Nat
  | 0 => 3
  | 1 => 8
  | 2 => 3
  | 3 => 5
  | 4 => 9
  | 5 => 3
  | 6 => 7
  | 7 => 4
  | 8 => 3
  | 9 => 19
  | _ => 47
def ch_ty : Nat → Nat → FieldType
  | 0 => tyX0
  | 1 => tyX1
  | 2 => tyX2
  | 3 => tyX3
  | 4 => tyX4
  | 5 => tyX5
  | 6 => tyX6
  | 7 => tyX7
  | 8 => tyX9
  | 9 => tyX10
  | _ => tyX11
theorem layX0 : ∀ w ∈ u_ws RX0 TX0 3, w ∈ wsA := by
  intro w hw
  obtain ⟨k, hk, rfl⟩ := List.mem_map.mp hw
  have hk : k < 3 := List.mem_range.mp hk
  match k, hk with
  | 0, _ => exact wA2 35 rfl rfl
  | 1, _ => exact wA2 37 rfl rfl
  | 2, _ => exact wA2 39 rfl rfl
  | k + 3, hk => exact absurd hk (by omega)
theorem layX1 : ∀ w ∈ u_ws RX1 TX1 8, w ∈ wsA := by
  intro w hw
  obtain ⟨k, hk, rfl⟩ := List.mem_map.mp hw
  have hk : k < 8 := List.mem_range.mp hk
  match k, hk with
  | 0, _ => exact wA1 188 rfl rfl
  | 1, _ => exact wA1 190 rfl rfl
  | 2, _ => exact wA1 192 rfl rfl
  | 3, _ => exact wA1 194 rfl rfl
  | 4, _ => exact wA1 196 rfl rfl
  | 5, _ => exact wA1 198 rfl rfl
  | 6, _ => exact wA1 200 rfl rfl
  | 7, _ => exact wA1 202 rfl rfl
  | k + 8, hk => exact absurd hk (by omega)
theorem layX2 : ∀ w ∈ u_ws RX2 TX2 3, w ∈ wsA := by
  intro w hw
  obtain ⟨k, hk, rfl⟩ := List.mem_map.mp hw
  have hk : k < 3 := List.mem_range.mp hk
  match k, hk with
  | 0, _ => exact wA2 56 rfl rfl
  | 1, _ => exact wA2 58 rfl rfl
  | 2, _ => exact wA2 60 rfl rfl
  | k + 3, hk => exact absurd hk (by omega)
theorem layX3 : ∀ w ∈ u_ws RX3 TX3 5, w ∈ wsA := by
  intro w hw
  obtain ⟨k, hk, rfl⟩ := List.mem_map.mp hw
  have hk : k < 5 := List.mem_range.mp hk
  match k, hk with
  | 0, _ => exact wA2 13 rfl rfl
  | 1, _ => exact wA2 15 rfl rfl
  | 2, _ => exact wA2 17 rfl rfl
  | 3, _ => exact wA2 19 rfl rfl
  | 4, _ => exact wA2 21 rfl rfl
  | k + 5, hk => exact absurd hk (by omega)
theorem layX4 : ∀ w ∈ u_ws RX4 TX4 9, w ∈ wsA := by
  intro w hw
  obtain ⟨k, hk, rfl⟩ := List.mem_map.mp hw
  have hk : k < 9 := List.mem_range.mp hk
  match k, hk with
  | 0, _ => exact wA1 96 rfl rfl
  | 1, _ => exact wA1 98 rfl rfl
  | 2, _ => exact wA1 100 rfl rfl
  | 3, _ => exact wA1 102 rfl rfl
  | 4, _ => exact wA1 104 rfl rfl
  | 5, _ => exact wA1 106 rfl rfl
  | 6, _ => exact wA1 108 rfl rfl
  | 7, _ => exact wA1 110 rfl rfl
  | 8, _ => exact wA1 112 rfl rfl
  | k + 9, hk => exact absurd hk (by omega)
theorem layX5 : ∀ w ∈ u_ws RX5 TX5 3, w ∈ wsA := by
  intro w hw
  obtain ⟨k, hk, rfl⟩ := List.mem_map.mp hw
  have hk : k < 3 := List.mem_range.mp hk
  match k, hk with
  | 0, _ => exact wA1 234 rfl rfl
  | 1, _ => exact wA1 236 rfl rfl
  | 2, _ => exact wA1 238 rfl rfl
  | k + 3, hk => exact absurd hk (by omega)
theorem layX6 : ∀ w ∈ u_ws RX6 TX6 7, w ∈ wsA := by
  intro w hw
  obtain ⟨k, hk, rfl⟩ := List.mem_map.mp hw
  have hk : k < 7 := List.mem_range.mp hk
  match k, hk with
  | 0, _ => exact wA1 143 rfl rfl
  | 1, _ => exact wA1 145 rfl rfl
  | 2, _ => exact wA1 147 rfl rfl
  | 3, _ => exact wA1 149 rfl rfl
  | 4, _ => exact wA1 151 rfl rfl
  | 5, _ => exact wA1 153 rfl rfl
  | 6, _ => exact wA1 155 rfl rfl
  | k + 7, hk => exact absurd hk (by omega)
theorem layX7 : ∀ w ∈ u_ws RX7 TX7 4, w ∈ wsA := by
  intro w hw
  obtain ⟨k, hk, rfl⟩ := List.mem_map.mp hw
  have hk : k < 4 := List.mem_range.mp hk
  match k, hk with
  | 0, _ => exact wA1 47 rfl rfl
  | 1, _ => exact wA1 49 rfl rfl
  | 2, _ => exact wA1 51 rfl rfl
  | 3, _ => exact wA1 53 rfl rfl
  | k + 4, hk => exact absurd hk (by omega)
theorem layX9 : ∀ w ∈ u_ws RX9 TX9 3, w ∈ wsA := by
  intro w hw
  obtain ⟨k, hk, rfl⟩ := List.mem_map.mp hw
  have hk : k < 3 := List.mem_range.mp hk
  match k, hk with
  | 0, _ => exact wA1 217 rfl rfl
  | 1, _ => exact wA1 219 rfl rfl
  | 2, _ => exact wA1 221 rfl rfl
  | k + 3, hk => exact absurd hk (by omega)
theorem layX10 : ∀ w ∈ u_ws RX10 TX10 19, w ∈ wsA := by
  intro w hw
  obtain ⟨k, hk, rfl⟩ := List.mem_map.mp hw
  have hk : k < 19 := List.mem_range.mp hk
  match k, hk with
  | 0, _ => exact wA2 82 rfl rfl
  | 1, _ => exact wA2 84 rfl rfl
  | 2, _ => exact wA2 86 rfl rfl
  | 3, _ => exact wA2 88 rfl rfl
  | 4, _ => exact wA2 90 rfl rfl
  | 5, _ => exact wA2 92 rfl rfl
  | 6, _ => exact wA2 94 rfl rfl
  | 7, _ => exact wA2 96 rfl rfl
  | 8, _ => exact wA2 98 rfl rfl
  | 9, _ => exact wA2 100 rfl rfl
  | 10, _ => exact wA2 102 rfl rfl
  | 11, _ => exact wA2 104 rfl rfl
  | 12, _ => exact wA2 106 rfl rfl
  | 13, _ => exact wA2 108 rfl rfl
  | 14, _ => exact wA2 110 rfl rfl
  | 15, _ => exact wA2 112 rfl rfl
  | 16, _ => exact wA2 114 rfl rfl
  | 17, _ => exact wA2 116 rfl rfl
  | 18, _ => exact wA2 118 rfl rfl
  | k + 19, hk => exact absurd hk (by omega)
theorem layX11 : ∀ w ∈ u_ws RX11 TX11 47, w ∈ wsA := by
  intro w hw
  obtain ⟨k, hk, rfl⟩ := List.mem_map.mp hw
  have hk : k < 47 := List.mem_range.mp hk
  match k, hk with
  | 0, _ => exact wA5 112 rfl rfl
  | 1, _ => exact wA5 114 rfl rfl
  | 2, _ => exact wA5 116 rfl rfl
  | 3, _ => exact wA5 118 rfl rfl
  | 4, _ => exact wA5 120 rfl rfl
  | 5, _ => exact wA5 122 rfl rfl
  | 6, _ => exact wA5 124 rfl rfl
  | 7, _ => exact wA5 126 rfl rfl
  | 8, _ => exact wA5 128 rfl rfl
  | 9, _ => exact wA5 130 rfl rfl
  | 10, _ => exact wA5 132 rfl rfl
  | 11, _ => exact wA5 134 rfl rfl
  | 12, _ => exact wA5 136 rfl rfl
  | 13, _ => exact wA5 138 rfl rfl
  | 14, _ => exact wA5 140 rfl rfl
  | 15, _ => exact wA5 142 rfl rfl
  | 16, _ => exact wA5 144 rfl rfl
  | 17, _ => exact wA5 146 rfl rfl
  | 18, _ => exact wA5 148 rfl rfl
  | 19, _ => exact wA5 150 rfl rfl
  | 20, _ => exact wA5 152 rfl rfl
  | 21, _ => exact wA5 154 rfl rfl
  | 22, _ => exact wA5 156 rfl rfl
  | 23, _ => exact wA5 158 rfl rfl
  | 24, _ => exact wA5 160 rfl rfl
  | 25, _ => exact wA5 162 rfl rfl
  | 26, _ => exact wA5 164 rfl rfl
  | 27, _ => exact wA5 166 rfl rfl
  | 28, _ => exact wA5 168 rfl rfl
  | 29, _ => exact wA5 170 rfl rfl
  | 30, _ => exact wA5 172 rfl rfl
  | 31, _ => exact wA5 174 rfl rfl
  | 32, _ => exact wA5 176 rfl rfl
  | 33, _ => exact wA5 178 rfl rfl
  | 34, _ => exact wA5 180 rfl rfl
  | 35, _ => exact wA5 182 rfl rfl
  | 36, _ => exact wA5 184 rfl rfl
  | 37, _ => exact wA5 186 rfl rfl
  | 38, _ => exact wA5 188 rfl rfl
  | 39, _ => exact wA5 190 rfl rfl
  | 40, _ => exact wA5 192 rfl rfl
  | 41, _ => exact wA5 194 rfl rfl
  | 42, _ => exact wA5 196 rfl rfl
  | 43, _ => exact wA5 198 rfl rfl
  | 44, _ => exact wA5 200 rfl rfl
  | 45, _ => exact wA5 202 rfl rfl
  | 46, _ => exact wA5 204 rfl rfl
  | k + 47, hk => exact absurd hk (by omega)
