def fl_J0 : List (Nat × Nat × Nat) := []
theorem fw_J0 : ∀ q ∈ fl_J0, Cond.fieldLink RJ0 q.1 (ch_n q.2.1) (ch_T q.2.1 q.2.2).2.1 (ch_T q.2.1 q.2.2).2.2.1 ∈ wsA := fun _ h => absurd h List.not_mem_nil
def cl_J0 : List (Nat × Nat) := []
theorem cw_J0 : ∀ q ∈ cl_J0, Cond.classLink RJ0 q.1 (ch_n q.2) ∈ wsA := fun _ h => absurd h List.not_mem_nil
def kl_J0 : List (Nat × Int32) := []
theorem kw_J0 : ∀ q ∈ kl_J0, Cond.constant RJ0 q.1 q.2 ∈ wsA := fun _ h => absurd h List.not_mem_nil
def jl_J0 : List (Nat × Int64) := []
theorem jw_J0 : ∀ q ∈ jl_J0, Cond.constantLong RJ0 q.1 q.2 ∈ wsA := fun _ h => absurd h List.not_mem_nil
theorem ml_J0_335 : Cond.methodLink RJ0 335 yJ0_coder_7d493 ∈ wsA := wA6 16 rfl rfl
theorem ml_J0_492 : Cond.methodLink RJ0 492 yJ0_isLatin1_aae02 ∈ wsA := wA6 26 rfl rfl
theorem ml_J0_495 : Cond.methodLink RJ0 495 yJ1_charAt_3b067 ∈ wsA := wA6 30 rfl rfl
theorem ml_J0_1059 : Cond.methodLink RJ0 1059 yJ3_checkIndex_8e157 ∈ wsA := wA6 38 rfl rfl
theorem ml_J0_498 : Cond.methodLink RJ0 498 yJ2_charAt_3b067 ∈ wsA := wA6 41 rfl rfl
def fl_J1 : List (Nat × Nat × Nat) := []
theorem fw_J1 : ∀ q ∈ fl_J1, Cond.fieldLink RJ1 q.1 (ch_n q.2.1) (ch_T q.2.1 q.2.2).2.1 (ch_T q.2.1 q.2.2).2.2.1 ∈ wsA := fun _ h => absurd h List.not_mem_nil
def cl_J1 : List (Nat × Nat) := []
theorem cw_J1 : ∀ q ∈ cl_J1, Cond.classLink RJ1 q.1 (ch_n q.2) ∈ wsA := fun _ h => absurd h List.not_mem_nil
def kl_J1 : List (Nat × Int32) := []
theorem kw_J1 : ∀ q ∈ kl_J1, Cond.constant RJ1 q.1 q.2 ∈ wsA := fun _ h => absurd h List.not_mem_nil
def jl_J1 : List (Nat × Int64) := []
theorem jw_J1 : ∀ q ∈ jl_J1, Cond.constantLong RJ1 q.1 q.2 ∈ wsA := fun _ h => absurd h List.not_mem_nil
theorem ml_J1_9 : Cond.methodLink RJ1 9 yJ0_checkIndex_df160 ∈ wsA := wA6 33 rfl rfl
def fl_J2 : List (Nat × Nat × Nat) := []
theorem fw_J2 : ∀ q ∈ fl_J2, Cond.fieldLink RJ2 q.1 (ch_n q.2.1) (ch_T q.2.1 q.2.2).2.1 (ch_T q.2.1 q.2.2).2.2.1 ∈ wsA := fun _ h => absurd h List.not_mem_nil
def cl_J2 : List (Nat × Nat) := []
theorem cw_J2 : ∀ q ∈ cl_J2, Cond.classLink RJ2 q.1 (ch_n q.2) ∈ wsA := fun _ h => absurd h List.not_mem_nil
def kl_J2 : List (Nat × Int32) := []
theorem kw_J2 : ∀ q ∈ kl_J2, Cond.constant RJ2 q.1 q.2 ∈ wsA := fun _ h => absurd h List.not_mem_nil
def jl_J2 : List (Nat × Int64) := []
theorem jw_J2 : ∀ q ∈ jl_J2, Cond.constantLong RJ2 q.1 q.2 ∈ wsA := fun _ h => absurd h List.not_mem_nil
theorem ml_J2_67 : Cond.methodLink RJ2 67 yJ2_checkIndex_2214a ∈ wsA := wA6 44 rfl rfl
theorem ml_J2_48 : Cond.methodLink RJ2 48 yJ2_length_9d52b ∈ wsA := wA6 47 rfl rfl
theorem ml_J2_414 : Cond.methodLink RJ2 414 yJ0_checkIndex_df160 ∈ wsA := wA6 50 rfl rfl
theorem ml_J2_71 : Cond.methodLink RJ2 71 yJ2_getChar_3b067 ∈ wsA := wA6 51 rfl rfl
def fl_J6 : List (Nat × Nat × Nat) := []
theorem fw_J6 : ∀ q ∈ fl_J6, Cond.fieldLink RJ6 q.1 (ch_n q.2.1) (ch_T q.2.1 q.2.2).2.1 (ch_T q.2.1 q.2.2).2.2.1 ∈ wsA := fun _ h => absurd h List.not_mem_nil
def cl_J6 : List (Nat × Nat) := []
theorem cw_J6 : ∀ q ∈ cl_J6, Cond.classLink RJ6 q.1 (ch_n q.2) ∈ wsA := fun _ h => absurd h List.not_mem_nil
def kl_J6 : List (Nat × Int32) := [(265, 1431655765), (266, 858993459), (267, 252645135)]
theorem kw_J6 : ∀ q ∈ kl_J6, Cond.constant RJ6 q.1 q.2 ∈ wsA := List.forall_mem_cons.mpr ⟨wA7 98 rfl rfl, List.forall_mem_cons.mpr ⟨wA7 99 rfl rfl, List.forall_mem_cons.mpr ⟨wA7 100 rfl rfl, fun _ h => absurd h List.not_mem_nil⟩⟩⟩
def jl_J6 : List (Nat × Int64) := []
theorem jw_J6 : ∀ q ∈ jl_J6, Cond.constantLong RJ6 q.1 q.2 ∈ wsA := fun _ h => absurd h List.not_mem_nil
def fl_L : List (Nat × Nat × Nat) := []
theorem fw_L : ∀ q ∈ fl_L, Cond.fieldLink RL q.1 (ch_n q.2.1) (ch_T q.2.1 q.2.2).2.1 (ch_T q.2.1 q.2.2).2.2.1 ∈ wsA := fun _ h => absurd h List.not_mem_nil
def cl_L : List (Nat × Nat) := [(8, 9), (16, 10)]
theorem cw_L : ∀ q ∈ cl_L, Cond.classLink RL q.1 (ch_n q.2) ∈ wsA := List.forall_mem_cons.mpr ⟨wA1 24 rfl rfl, List.forall_mem_cons.mpr ⟨wA5 56 rfl rfl, fun _ h => absurd h List.not_mem_nil⟩⟩
def kl_L : List (Nat × Int32) := []
theorem kw_L : ∀ q ∈ kl_L, Cond.constant RL q.1 q.2 ∈ wsA := fun _ h => absurd h List.not_mem_nil
def jl_L : List (Nat × Int64) := [(34, 4294967295)]
theorem jw_L : ∀ q ∈ jl_L, Cond.constantLong RL q.1 q.2 ∈ wsA := List.forall_mem_cons.mpr ⟨wA7 217 rfl rfl, fun _ h => absurd h List.not_mem_nil⟩
theorem ml_L_15 : Cond.methodLink RL 15 yX10_init ∈ wsA := wA1 26 rfl rfl
theorem ml_L_19 : Cond.methodLink RL 19 yX10_feed ∈ wsA := wA2 121 rfl rfl
theorem ml_L_24 : Cond.methodLink RL 24 yX10_end ∈ wsA := wA2 132 rfl rfl
theorem ml_L_29 : Cond.methodLink RL 29 yX10_fault ∈ wsA := wA2 136 rfl rfl
theorem ml_L_36 : Cond.methodLink RL 36 yX10_text ∈ wsA := wA3 5 rfl rfl
theorem ml_L_51 : Cond.methodLink RL 51 yX10_room ∈ wsA := wA3 25 rfl rfl
theorem ml_L_55 : Cond.methodLink RL 55 yX10_brake ∈ wsA := wA3 62 rfl rfl
theorem ml_L_60 : Cond.methodLink RL 60 yX10_water ∈ wsA := wA3 70 rfl rfl
theorem ml_L_65 : Cond.methodLink RL 65 yX10_turn ∈ wsA := wA3 74 rfl rfl
theorem ml_L_69 : Cond.methodLink RL 69 yX10_minutes ∈ wsA := wA3 84 rfl rfl
theorem ml_L_73 : Cond.methodLink RL 73 yX10_rest ∈ wsA := wA3 124 rfl rfl
theorem ml_L_77 : Cond.methodLink RL 77 yX10_gallery ∈ wsA := wA3 137 rfl rfl
theorem ml_L_81 : Cond.methodLink RL 81 yX10_beside ∈ wsA := wA3 141 rfl rfl
theorem ml_L_86 : Cond.methodLink RL 86 yX10_meet ∈ wsA := wA3 153 rfl rfl
theorem ml_L_90 : Cond.methodLink RL 90 yX10_person ∈ wsA := wA3 162 rfl rfl
theorem ml_L_94 : Cond.methodLink RL 94 yX10_step ∈ wsA := wA3 166 rfl rfl
theorem ml_L_98 : Cond.methodLink RL 98 yX10_where ∈ wsA := wA3 174 rfl rfl
theorem ml_L_102 : Cond.methodLink RL 102 yX10_way ∈ wsA := wA3 178 rfl rfl
theorem ml_L_106 : Cond.methodLink RL 106 yX10_unseen ∈ wsA := wA3 206 rfl rfl
theorem ml_L_111 : Cond.methodLink RL 111 yX10_want ∈ wsA := wA3 210 rfl rfl
theorem ml_L_115 : Cond.methodLink RL 115 yX10_pails ∈ wsA := wA3 214 rfl rfl
theorem ml_L_119 : Cond.methodLink RL 119 yX10_together ∈ wsA := wA4 26 rfl rfl
theorem ml_L_123 : Cond.methodLink RL 123 yX10_task ∈ wsA := wA4 49 rfl rfl
theorem ml_L_127 : Cond.methodLink RL 127 yX10_orders ∈ wsA := wA4 53 rfl rfl
theorem ml_L_131 : Cond.methodLink RL 131 yX10_woke ∈ wsA := wA4 69 rfl rfl
theorem ml_L_135 : Cond.methodLink RL 135 yX10_slipped ∈ wsA := wA4 73 rfl rfl
theorem ml_L_139 : Cond.methodLink RL 139 yX10_rent ∈ wsA := wA4 86 rfl rfl
theorem ml_L_143 : Cond.methodLink RL 143 yX10_even ∈ wsA := wA4 90 rfl rfl
theorem ml_L_147 : Cond.methodLink RL 147 yX10_keep ∈ wsA := wA4 94 rfl rfl
theorem ml_L_151 : Cond.methodLink RL 151 yX10_tried ∈ wsA := wA4 134 rfl rfl
theorem ml_L_155 : Cond.methodLink RL 155 yX10_best ∈ wsA := wA4 138 rfl rfl
theorem ml_L_159 : Cond.methodLink RL 159 yX10_feast ∈ wsA := wA4 142 rfl rfl
theorem ml_L_163 : Cond.methodLink RL 163 yX10_group ∈ wsA := wA4 166 rfl rfl
theorem ml_L_167 : Cond.methodLink RL 167 yX10_often ∈ wsA := wA4 170 rfl rfl
theorem ml_L_172 : Cond.methodLink RL 172 yX10_cut ∈ wsA := wA4 174 rfl rfl
theorem ml_L_176 : Cond.methodLink RL 176 yX10_load ∈ wsA := wA4 182 rfl rfl
theorem ml_L_180 : Cond.methodLink RL 180 yX10_strain ∈ wsA := wA4 190 rfl rfl
theorem ml_L_184 : Cond.methodLink RL 184 yX10_above ∈ wsA := wA4 198 rfl rfl
theorem ml_L_188 : Cond.methodLink RL 188 yX10_sway ∈ wsA := wA4 202 rfl rfl
theorem ml_L_192 : Cond.methodLink RL 192 yX10_image ∈ wsA := wA4 206 rfl rfl
theorem ml_L_196 : Cond.methodLink RL 196 yX10_back ∈ wsA := wA4 210 rfl rfl
theorem ml_L_200 : Cond.methodLink RL 200 yX10_count ∈ wsA := wA4 214 rfl rfl
theorem ml_L_41 : Cond.methodLink RL 41 yL_rope ∈ wsA := wA4 218 rfl rfl
theorem ml_L_7 : Cond.methodLink RL 7 yX10_rope ∈ wsA := wA4 222 rfl rfl
theorem ml_L_18 : Cond.methodLink RL 18 yX11_init ∈ wsA := wA5 58 rfl rfl
theorem ml_L_47 : Cond.methodLink RL 47 yX11_thrown ∈ wsA := wA5 207 rfl rfl
theorem ml_L_23 : Cond.methodLink RL 23 yX11_feed ∈ wsA := wA5 211 rfl rfl
theorem ml_L_28 : Cond.methodLink RL 28 yX11_end ∈ wsA := wA5 222 rfl rfl
theorem ml_L_33 : Cond.methodLink RL 33 yX11_fault ∈ wsA := wA5 226 rfl rfl
theorem ml_L_40 : Cond.methodLink RL 40 yX11_text ∈ wsA := wA6 145 rfl rfl
theorem ml_L_46 : Cond.methodLink RL 46 yX11_rope ∈ wsA := wA6 158 rfl rfl
theorem ml_L_54 : Cond.methodLink RL 54 yX11_room ∈ wsA := wA6 174 rfl rfl
theorem ml_L_59 : Cond.methodLink RL 59 yX11_brake ∈ wsA := wA6 191 rfl rfl
theorem ml_L_64 : Cond.methodLink RL 64 yX11_water ∈ wsA := wA6 195 rfl rfl
theorem ml_L_68 : Cond.methodLink RL 68 yX11_turn ∈ wsA := wA6 199 rfl rfl
theorem ml_L_72 : Cond.methodLink RL 72 yX11_minutes ∈ wsA := wA6 204 rfl rfl
theorem ml_L_76 : Cond.methodLink RL 76 yX11_rest ∈ wsA := wA6 220 rfl rfl
theorem ml_L_80 : Cond.methodLink RL 80 yX11_gallery ∈ wsA := wA6 228 rfl rfl
theorem ml_L_85 : Cond.methodLink RL 85 yX11_beside ∈ wsA := wA6 232 rfl rfl
theorem ml_L_89 : Cond.methodLink RL 89 yX11_meet ∈ wsA := wA7 4 rfl rfl
theorem ml_L_93 : Cond.methodLink RL 93 yX11_person ∈ wsA := wA7 12 rfl rfl
theorem ml_L_97 : Cond.methodLink RL 97 yX11_step ∈ wsA := wA7 16 rfl rfl
theorem ml_L_101 : Cond.methodLink RL 101 yX11_where ∈ wsA := wA7 28 rfl rfl
theorem ml_L_105 : Cond.methodLink RL 105 yX11_way ∈ wsA := wA7 32 rfl rfl
theorem ml_L_110 : Cond.methodLink RL 110 yX11_unseen ∈ wsA := wA7 48 rfl rfl
theorem ml_L_114 : Cond.methodLink RL 114 yX11_want ∈ wsA := wA7 52 rfl rfl
theorem ml_L_118 : Cond.methodLink RL 118 yX11_pails ∈ wsA := wA7 56 rfl rfl
theorem ml_L_122 : Cond.methodLink RL 122 yX11_together ∈ wsA := wA7 76 rfl rfl
theorem ml_L_126 : Cond.methodLink RL 126 yX11_task ∈ wsA := wA7 101 rfl rfl
theorem ml_L_130 : Cond.methodLink RL 130 yX11_orders ∈ wsA := wA7 105 rfl rfl
theorem ml_L_134 : Cond.methodLink RL 134 yX11_woke ∈ wsA := wA7 117 rfl rfl
theorem ml_L_138 : Cond.methodLink RL 138 yX11_slipped ∈ wsA := wA7 121 rfl rfl
theorem ml_L_142 : Cond.methodLink RL 142 yX11_rent ∈ wsA := wA7 125 rfl rfl
theorem ml_L_146 : Cond.methodLink RL 146 yX11_even ∈ wsA := wA7 129 rfl rfl
theorem ml_L_150 : Cond.methodLink RL 150 yX11_keep ∈ wsA := wA7 133 rfl rfl
theorem ml_L_154 : Cond.methodLink RL 154 yX11_tried ∈ wsA := wA7 149 rfl rfl
theorem ml_L_158 : Cond.methodLink RL 158 yX11_best ∈ wsA := wA7 157 rfl rfl
theorem ml_L_162 : Cond.methodLink RL 162 yX11_feast ∈ wsA := wA7 161 rfl rfl
theorem ml_L_166 : Cond.methodLink RL 166 yX11_group ∈ wsA := wA7 165 rfl rfl
theorem ml_L_171 : Cond.methodLink RL 171 yX11_often ∈ wsA := wA7 169 rfl rfl
theorem ml_L_175 : Cond.methodLink RL 175 yX11_cut ∈ wsA := wA7 173 rfl rfl
theorem ml_L_179 : Cond.methodLink RL 179 yX11_load ∈ wsA := wA7 181 rfl rfl
theorem ml_L_183 : Cond.methodLink RL 183 yX11_strain ∈ wsA := wA7 185 rfl rfl
theorem ml_L_187 : Cond.methodLink RL 187 yX11_above ∈ wsA := wA7 193 rfl rfl
theorem ml_L_191 : Cond.methodLink RL 191 yX11_sway ∈ wsA := wA7 197 rfl rfl
theorem ml_L_195 : Cond.methodLink RL 195 yX11_image ∈ wsA := wA7 205 rfl rfl
theorem ml_L_199 : Cond.methodLink RL 199 yX11_back ∈ wsA := wA7 209 rfl rfl
theorem ml_L_203 : Cond.methodLink RL 203 yX11_count ∈ wsA := wA7 213 rfl rfl
def fl_X0 : List (Nat × Nat × Nat) := [(24, 4, 0), (37, 4, 2), (34, 4, 8), (13, 0, 0), (16, 0, 1), (58, 0, 2)]
theorem fw_X0 : ∀ q ∈ fl_X0, Cond.fieldLink RX0 q.1 (ch_n q.2.1) (ch_T q.2.1 q.2.2).2.1 (ch_T q.2.1 q.2.2).2.2.1 ∈ wsA := List.forall_mem_cons.mpr ⟨wA1 65 rfl rfl, List.forall_mem_cons.mpr ⟨wA1 74 rfl rfl, List.forall_mem_cons.mpr ⟨wA1 92 rfl rfl, List.forall_mem_cons.mpr ⟨wA2 32 rfl rfl, List.forall_mem_cons.mpr ⟨wA2 33 rfl rfl, List.forall_mem_cons.mpr ⟨wA2 34 rfl rfl, fun _ h => absurd h List.not_mem_nil⟩⟩⟩⟩⟩⟩
def cl_X0 : List (Nat × Nat) := []
theorem cw_X0 : ∀ q ∈ cl_X0, Cond.classLink RX0 q.1 (ch_n q.2) ∈ wsA := fun _ h => absurd h List.not_mem_nil
def kl_X0 : List (Nat × Int32) := [(46, 1000000)]
theorem kw_X0 : ∀ q ∈ kl_X0, Cond.constant RX0 q.1 q.2 ∈ wsA := List.forall_mem_cons.mpr ⟨wA4 43 rfl rfl, fun _ h => absurd h List.not_mem_nil⟩
def jl_X0 : List (Nat × Int64) := []
theorem jw_X0 : ∀ q ∈ jl_X0, Cond.constantLong RX0 q.1 q.2 ∈ wsA := fun _ h => absurd h List.not_mem_nil
theorem ml_X0_3 : Cond.methodLink RX0 3 (⟨"java/lang/Object", "<init>", "()V"⟩ : MethodName) ∈ wsA := wA2 29 rfl rfl
theorem ml_X0_20 : Cond.methodLink RX0 20 yX0_findFeet ∈ wsA := wA4 34 rfl rfl
theorem ml_X0_40 : Cond.methodLink RX0 40 yJ9_min_7cf53 ∈ wsA := wA4 38 rfl rfl
theorem ml_X0_30 : Cond.methodLink RX0 30 yX0_leastCost ∈ wsA := wA4 39 rfl rfl
theorem ml_X0_47 : Cond.methodLink RX0 47 yX4_place ∈ wsA := wA4 44 rfl rfl
theorem ml_X0_50 : Cond.methodLink RX0 50 yX0_costOf ∈ wsA := wA4 45 rfl rfl
theorem ml_X0_54 : Cond.methodLink RX0 54 yX4_stride ∈ wsA := wA4 48 rfl rfl
theorem ml_X0_61 : Cond.methodLink RX0 61 yX0_isAsked ∈ wsA := wA4 150 rfl rfl
theorem ml_X0_65 : Cond.methodLink RX0 65 yX0_canAllBe ∈ wsA := wA4 154 rfl rfl
theorem ml_X0_73 : Cond.methodLink RX0 73 yX0_canBe ∈ wsA := wA4 158 rfl rfl
theorem ml_X0_69 : Cond.methodLink RX0 69 yX0_topsCanBe ∈ wsA := wA4 162 rfl rfl
def fl_X1 : List (Nat × Nat × Nat) := [(27, 1, 0), (9, 1, 1), (15, 1, 2), (31, 1, 3), (18, 1, 4), (34, 1, 5), (21, 1, 6), (24, 1, 7)]
theorem fw_X1 : ∀ q ∈ fl_X1, Cond.fieldLink RX1 q.1 (ch_n q.2.1) (ch_T q.2.1 q.2.2).2.1 (ch_T q.2.1 q.2.2).2.2.1 ∈ wsA := List.forall_mem_cons.mpr ⟨wA1 165 rfl rfl, List.forall_mem_cons.mpr ⟨wA1 168 rfl rfl, List.forall_mem_cons.mpr ⟨wA1 171 rfl rfl, List.forall_mem_cons.mpr ⟨wA1 173 rfl rfl, List.forall_mem_cons.mpr ⟨wA1 176 rfl rfl, List.forall_mem_cons.mpr ⟨wA1 179 rfl rfl, List.forall_mem_cons.mpr ⟨wA1 182 rfl rfl, List.forall_mem_cons.mpr ⟨wA1 185 rfl rfl, fun _ h => absurd h List.not_mem_nil⟩⟩⟩⟩⟩⟩⟩⟩
def cl_X1 : List (Nat × Nat) := []
theorem cw_X1 : ∀ q ∈ cl_X1, Cond.classLink RX1 q.1 (ch_n q.2) ∈ wsA := fun _ h => absurd h List.not_mem_nil
def kl_X1 : List (Nat × Int32) := []
theorem kw_X1 : ∀ q ∈ kl_X1, Cond.constant RX1 q.1 q.2 ∈ wsA := fun _ h => absurd h List.not_mem_nil
def jl_X1 : List (Nat × Int64) := []
theorem jw_X1 : ∀ q ∈ jl_X1, Cond.constantLong RX1 q.1 q.2 ∈ wsA := fun _ h => absurd h List.not_mem_nil
theorem ml_X1_3 : Cond.methodLink RX1 3 (⟨"java/lang/Object", "<init>", "()V"⟩ : MethodName) ∈ wsA := wA1 164 rfl rfl
theorem ml_X1_37 : Cond.methodLink RX1 37 yX1_level ∈ wsA := wA3 201 rfl rfl
def fl_X2 : List (Nat × Nat × Nat) := [(55, 6, 4), (33, 1, 5), (48, 1, 6), (52, 1, 7), (11, 2, 0), (18, 2, 1), (22, 2, 2)]
theorem fw_X2 : ∀ q ∈ fl_X2, Cond.fieldLink RX2 q.1 (ch_n q.2.1) (ch_T q.2.1 q.2.2).2.1 (ch_T q.2.1 q.2.2).2.2.1 ∈ wsA := List.forall_mem_cons.mpr ⟨wA1 137 rfl rfl, List.forall_mem_cons.mpr ⟨wA1 180 rfl rfl, List.forall_mem_cons.mpr ⟨wA1 183 rfl rfl, List.forall_mem_cons.mpr ⟨wA1 186 rfl rfl, List.forall_mem_cons.mpr ⟨wA2 51 rfl rfl, List.forall_mem_cons.mpr ⟨wA2 52 rfl rfl, List.forall_mem_cons.mpr ⟨wA2 54 rfl rfl, fun _ h => absurd h List.not_mem_nil⟩⟩⟩⟩⟩⟩⟩
def cl_X2 : List (Nat × Nat) := [(9, 6)]
theorem cw_X2 : ∀ q ∈ cl_X2, Cond.classLink RX2 q.1 (ch_n q.2) ∈ wsA := List.forall_mem_cons.mpr ⟨wA2 48 rfl rfl, fun _ h => absurd h List.not_mem_nil⟩
def kl_X2 : List (Nat × Int32) := []
theorem kw_X2 : ∀ q ∈ kl_X2, Cond.constant RX2 q.1 q.2 ∈ wsA := fun _ h => absurd h List.not_mem_nil
def jl_X2 : List (Nat × Int64) := []
theorem jw_X2 : ∀ q ∈ jl_X2, Cond.constantLong RX2 q.1 q.2 ∈ wsA := fun _ h => absurd h List.not_mem_nil
theorem ml_X2_3 : Cond.methodLink RX2 3 (⟨"java/lang/Object", "<init>", "()V"⟩ : MethodName) ∈ wsA := wA2 47 rfl rfl
theorem ml_X2_25 : Cond.methodLink RX2 25 yX6_take ∈ wsA := wA4 61 rfl rfl
theorem ml_X2_29 : Cond.methodLink RX2 29 yX2_goThrough ∈ wsA := wA4 62 rfl rfl
theorem ml_X2_38 : Cond.methodLink RX2 38 yX9_weigh ∈ wsA := wA4 66 rfl rfl
theorem ml_X2_44 : Cond.methodLink RX2 44 yX9_settle ∈ wsA := wA4 67 rfl rfl
theorem ml_X2_58 : Cond.methodLink RX2 58 yX9_meeting ∈ wsA := wA4 68 rfl rfl
def fl_X3 : List (Nat × Nat × Nat) := [(40, 4, 0), (65, 4, 2), (46, 4, 8), (68, 6, 0), (89, 6, 3), (108, 8, 1), (9, 3, 0), (15, 3, 1), (49, 3, 2), (18, 3, 3), (21, 3, 4)]
theorem fw_X3 : ∀ q ∈ fl_X3, Cond.fieldLink RX3 q.1 (ch_n q.2.1) (ch_T q.2.1 q.2.2).2.1 (ch_T q.2.1 q.2.2).2.2.1 ∈ wsA := List.forall_mem_cons.mpr ⟨wA1 67 rfl rfl, List.forall_mem_cons.mpr ⟨wA1 75 rfl rfl, List.forall_mem_cons.mpr ⟨wA1 94 rfl rfl, List.forall_mem_cons.mpr ⟨wA1 123 rfl rfl, List.forall_mem_cons.mpr ⟨wA1 133 rfl rfl, List.forall_mem_cons.mpr ⟨wA1 214 rfl rfl, List.forall_mem_cons.mpr ⟨wA2 7 rfl rfl, List.forall_mem_cons.mpr ⟨wA2 9 rfl rfl, List.forall_mem_cons.mpr ⟨wA2 10 rfl rfl, List.forall_mem_cons.mpr ⟨wA2 11 rfl rfl, List.forall_mem_cons.mpr ⟨wA2 12 rfl rfl, fun _ h => absurd h List.not_mem_nil⟩⟩⟩⟩⟩⟩⟩⟩⟩⟩⟩
def cl_X3 : List (Nat × Nat) := []
theorem cw_X3 : ∀ q ∈ cl_X3, Cond.classLink RX3 q.1 (ch_n q.2) ∈ wsA := fun _ h => absurd h List.not_mem_nil
def kl_X3 : List (Nat × Int32) := []
theorem kw_X3 : ∀ q ∈ kl_X3, Cond.constant RX3 q.1 q.2 ∈ wsA := fun _ h => absurd h List.not_mem_nil
def jl_X3 : List (Nat × Int64) := []
theorem jw_X3 : ∀ q ∈ jl_X3, Cond.constantLong RX3 q.1 q.2 ∈ wsA := fun _ h => absurd h List.not_mem_nil
theorem ml_X3_3 : Cond.methodLink RX3 3 (⟨"java/lang/Object", "<init>", "()V"⟩ : MethodName) ∈ wsA := wA2 6 rfl rfl
theorem ml_X3_24 : Cond.methodLink RX3 24 yX3_mattering ∈ wsA := wA3 222 rfl rfl
theorem ml_X3_28 : Cond.methodLink RX3 28 yX3_findWays ∈ wsA := wA3 225 rfl rfl
theorem ml_X3_73 : Cond.methodLink RX3 73 yX3_isSo ∈ wsA := wA3 229 rfl rfl
theorem ml_X3_77 : Cond.methodLink RX3 77 yX4_place ∈ wsA := wA3 233 rfl rfl
theorem ml_X3_32 : Cond.methodLink RX3 32 yX3_findUseful ∈ wsA := wA3 234 rfl rfl
theorem ml_X3_52 : Cond.methodLink RX3 52 yX3_moves ∈ wsA := wA3 238 rfl rfl
theorem ml_X3_56 : Cond.methodLink RX3 56 yX4_lever ∈ wsA := wA4 1 rfl rfl
theorem ml_X3_60 : Cond.methodLink RX3 60 yX4_carrier ∈ wsA := wA4 2 rfl rfl
theorem ml_X3_36 : Cond.methodLink RX3 36 yX3_search ∈ wsA := wA4 3 rfl rfl
theorem ml_X3_81 : Cond.methodLink RX3 81 yX3_isHopeless ∈ wsA := wA4 7 rfl rfl
theorem ml_X3_104 : Cond.methodLink RX3 104 yX9_waysWithin ∈ wsA := wA4 11 rfl rfl
theorem ml_X3_85 : Cond.methodLink RX3 85 yX3_fits ∈ wsA := wA4 15 rfl rfl
theorem ml_X3_111 : Cond.methodLink RX3 111 yX9_restingX ∈ wsA := wA4 19 rfl rfl
theorem ml_X3_92 : Cond.methodLink RX3 92 yJ9_min_7cf53 ∈ wsA := wA4 20 rfl rfl
theorem ml_X3_97 : Cond.methodLink RX3 97 yJ9_abs_0f7a4 ∈ wsA := wA4 21 rfl rfl
theorem ml_X3_100 : Cond.methodLink RX3 100 yX3_give ∈ wsA := wA4 22 rfl rfl
def fl_X4 : List (Nat × Nat × Nat) := [(36, 4, 0), (9, 4, 1), (15, 4, 2), (18, 4, 3), (21, 4, 4), (24, 4, 5), (27, 4, 6), (30, 4, 7), (33, 4, 8)]
theorem fw_X4 : ∀ q ∈ fl_X4, Cond.fieldLink RX4 q.1 (ch_n q.2.1) (ch_T q.2.1 q.2.2).2.1 (ch_T q.2.1 q.2.2).2.2.1 ∈ wsA := List.forall_mem_cons.mpr ⟨wA1 68 rfl rfl, List.forall_mem_cons.mpr ⟨wA1 69 rfl rfl, List.forall_mem_cons.mpr ⟨wA1 72 rfl rfl, List.forall_mem_cons.mpr ⟨wA1 77 rfl rfl, List.forall_mem_cons.mpr ⟨wA1 79 rfl rfl, List.forall_mem_cons.mpr ⟨wA1 82 rfl rfl, List.forall_mem_cons.mpr ⟨wA1 85 rfl rfl, List.forall_mem_cons.mpr ⟨wA1 88 rfl rfl, List.forall_mem_cons.mpr ⟨wA1 91 rfl rfl, fun _ h => absurd h List.not_mem_nil⟩⟩⟩⟩⟩⟩⟩⟩⟩
def cl_X4 : List (Nat × Nat) := []
theorem cw_X4 : ∀ q ∈ cl_X4, Cond.classLink RX4 q.1 (ch_n q.2) ∈ wsA := fun _ h => absurd h List.not_mem_nil
def kl_X4 : List (Nat × Int32) := []
theorem kw_X4 : ∀ q ∈ kl_X4, Cond.constant RX4 q.1 q.2 ∈ wsA := fun _ h => absurd h List.not_mem_nil
def jl_X4 : List (Nat × Int64) := []
theorem jw_X4 : ∀ q ∈ jl_X4, Cond.constantLong RX4 q.1 q.2 ∈ wsA := fun _ h => absurd h List.not_mem_nil
theorem ml_X4_3 : Cond.methodLink RX4 3 (⟨"java/lang/Object", "<init>", "()V"⟩ : MethodName) ∈ wsA := wA1 62 rfl rfl
def fl_X5 : List (Nat × Nat × Nat) := [(61, 7, 2), (11, 5, 0), (18, 5, 1), (15, 5, 2)]
theorem fw_X5 : ∀ q ∈ fl_X5, Cond.fieldLink RX5 q.1 (ch_n q.2.1) (ch_T q.2.1 q.2.2).2.1 (ch_T q.2.1 q.2.2).2.2.1 ∈ wsA := List.forall_mem_cons.mpr ⟨wA1 43 rfl rfl, List.forall_mem_cons.mpr ⟨wA1 231 rfl rfl, List.forall_mem_cons.mpr ⟨wA1 232 rfl rfl, List.forall_mem_cons.mpr ⟨wA1 233 rfl rfl, fun _ h => absurd h List.not_mem_nil⟩⟩⟩⟩
def cl_X5 : List (Nat × Nat) := []
theorem cw_X5 : ∀ q ∈ cl_X5, Cond.classLink RX5 q.1 (ch_n q.2) ∈ wsA := fun _ h => absurd h List.not_mem_nil
def kl_X5 : List (Nat × Int32) := []
theorem kw_X5 : ∀ q ∈ kl_X5, Cond.constant RX5 q.1 q.2 ∈ wsA := fun _ h => absurd h List.not_mem_nil
def jl_X5 : List (Nat × Int64) := [(99, -1000000), (101, 1000000)]
theorem jw_X5 : ∀ q ∈ jl_X5, Cond.constantLong RX5 q.1 q.2 ∈ wsA := List.forall_mem_cons.mpr ⟨wA4 126 rfl rfl, List.forall_mem_cons.mpr ⟨wA4 127 rfl rfl, fun _ h => absurd h List.not_mem_nil⟩⟩
theorem ml_X5_3 : Cond.methodLink RX5 3 (⟨"java/lang/Object", "<init>", "()V"⟩ : MethodName) ∈ wsA := wA1 230 rfl rfl
theorem ml_X5_22 : Cond.methodLink RX5 22 yX7_open ∈ wsA := wA2 201 rfl rfl
theorem ml_X5_27 : Cond.methodLink RX5 27 yX5_clause ∈ wsA := wA2 202 rfl rfl
theorem ml_X5_39 : Cond.methodLink RX5 39 yX7_takeSign ∈ wsA := wA2 206 rfl rfl
theorem ml_X5_35 : Cond.methodLink RX5 35 yX7_sign ∈ wsA := wA2 211 rfl rfl
theorem ml_X5_43 : Cond.methodLink RX5 43 yX5_sum ∈ wsA := wA2 212 rfl rfl
theorem ml_X5_71 : Cond.methodLink RX5 71 yX5_atom ∈ wsA := wA2 216 rfl rfl
theorem ml_X5_31 : Cond.methodLink RX5 31 yX7_isWrong ∈ wsA := wA2 220 rfl rfl
theorem ml_X5_74 : Cond.methodLink RX5 74 yX5_letterOf ∈ wsA := wA2 221 rfl rfl
theorem ml_X5_64 : Cond.methodLink RX5 64 yX5_nested ∈ wsA := wA2 224 rfl rfl
theorem ml_X5_68 : Cond.methodLink RX5 68 yX7_wrong ∈ wsA := wA2 228 rfl rfl
theorem ml_X5_58 : Cond.methodLink RX5 58 yX5_unit ∈ wsA := wA2 229 rfl rfl
theorem ml_X5_47 : Cond.methodLink RX5 47 yX5_isCompare ∈ wsA := wA2 233 rfl rfl
theorem ml_X5_55 : Cond.methodLink RX5 55 yX5_emit ∈ wsA := wA2 236 rfl rfl
theorem ml_X5_51 : Cond.methodLink RX5 51 yX5_condition ∈ wsA := wA3 0 rfl rfl
theorem ml_X5_78 : Cond.methodLink RX5 78 yX7_number ∈ wsA := wA3 4 rfl rfl
theorem ml_X5_81 : Cond.methodLink RX5 81 yX5_valueOf ∈ wsA := wA4 116 rfl rfl
theorem ml_X5_85 : Cond.methodLink RX5 85 yJ9_max_7cf53 ∈ wsA := wA4 119 rfl rfl
theorem ml_X5_91 : Cond.methodLink RX5 91 yX5_worked ∈ wsA := wA4 120 rfl rfl
theorem ml_X5_95 : Cond.methodLink RX5 95 yX5_bounded ∈ wsA := wA4 123 rfl rfl
theorem ml_X5_103 : Cond.methodLink RX5 103 yJ9_min_f86c9 ∈ wsA := wA4 128 rfl rfl
theorem ml_X5_107 : Cond.methodLink RX5 107 yJ9_max_f86c9 ∈ wsA := wA4 131 rfl rfl
def fl_X6 : List (Nat × Nat × Nat) := [(28, 4, 3), (9, 6, 0), (15, 6, 1), (18, 6, 2), (22, 6, 3), (25, 6, 4), (33, 6, 5), (37, 6, 6)]
theorem fw_X6 : ∀ q ∈ fl_X6, Cond.fieldLink RX6 q.1 (ch_n q.2.1) (ch_T q.2.1 q.2.2).2.1 (ch_T q.2.1 q.2.2).2.2.1 ∈ wsA := List.forall_mem_cons.mpr ⟨wA1 78 rfl rfl, List.forall_mem_cons.mpr ⟨wA1 121 rfl rfl, List.forall_mem_cons.mpr ⟨wA1 125 rfl rfl, List.forall_mem_cons.mpr ⟨wA1 128 rfl rfl, List.forall_mem_cons.mpr ⟨wA1 131 rfl rfl, List.forall_mem_cons.mpr ⟨wA1 135 rfl rfl, List.forall_mem_cons.mpr ⟨wA1 139 rfl rfl, List.forall_mem_cons.mpr ⟨wA1 141 rfl rfl, fun _ h => absurd h List.not_mem_nil⟩⟩⟩⟩⟩⟩⟩⟩
def cl_X6 : List (Nat × Nat) := []
theorem cw_X6 : ∀ q ∈ cl_X6, Cond.classLink RX6 q.1 (ch_n q.2) ∈ wsA := fun _ h => absurd h List.not_mem_nil
def kl_X6 : List (Nat × Int32) := []
theorem kw_X6 : ∀ q ∈ kl_X6, Cond.constant RX6 q.1 q.2 ∈ wsA := fun _ h => absurd h List.not_mem_nil
def jl_X6 : List (Nat × Int64) := [(47, 6364136223846793005), (49, 1442695040888963407), (51, 100)]
theorem jw_X6 : ∀ q ∈ jl_X6, Cond.constantLong RX6 q.1 q.2 ∈ wsA := List.forall_mem_cons.mpr ⟨wA3 103 rfl rfl, List.forall_mem_cons.mpr ⟨wA3 104 rfl rfl, List.forall_mem_cons.mpr ⟨wA3 105 rfl rfl, fun _ h => absurd h List.not_mem_nil⟩⟩⟩
theorem ml_X6_3 : Cond.methodLink RX6 3 (⟨"java/lang/Object", "<init>", "()V"⟩ : MethodName) ∈ wsA := wA1 120 rfl rfl
theorem ml_X6_41 : Cond.methodLink RX6 41 (⟨"java/lang/System", "arraycopy", "(Ljava/lang/Object;ILjava/lang/Object;II)V"⟩ : MethodName) ∈ wsA := wA3 190 rfl rfl
def fl_X7 : List (Nat × Nat × Nat) := [(9, 7, 0), (19, 7, 1), (22, 7, 2), (15, 7, 3)]
theorem fw_X7 : ∀ q ∈ fl_X7, Cond.fieldLink RX7 q.1 (ch_n q.2.1) (ch_T q.2.1 q.2.2).2.1 (ch_T q.2.1 q.2.2).2.2.1 ∈ wsA := List.forall_mem_cons.mpr ⟨wA1 38 rfl rfl, List.forall_mem_cons.mpr ⟨wA1 40 rfl rfl, List.forall_mem_cons.mpr ⟨wA1 42 rfl rfl, List.forall_mem_cons.mpr ⟨wA1 44 rfl rfl, fun _ h => absurd h List.not_mem_nil⟩⟩⟩⟩
def cl_X7 : List (Nat × Nat) := []
theorem cw_X7 : ∀ q ∈ cl_X7, Cond.classLink RX7 q.1 (ch_n q.2) ∈ wsA := fun _ h => absurd h List.not_mem_nil
def kl_X7 : List (Nat × Int32) := []
theorem kw_X7 : ∀ q ∈ kl_X7, Cond.constant RX7 q.1 q.2 ∈ wsA := fun _ h => absurd h List.not_mem_nil
def jl_X7 : List (Nat × Int64) := []
theorem jw_X7 : ∀ q ∈ jl_X7, Cond.constantLong RX7 q.1 q.2 ∈ wsA := fun _ h => absurd h List.not_mem_nil
theorem ml_X7_3 : Cond.methodLink RX7 3 (⟨"java/lang/Object", "<init>", "()V"⟩ : MethodName) ∈ wsA := wA1 37 rfl rfl
theorem ml_X7_29 : Cond.methodLink RX7 29 yX7_sign ∈ wsA := wA2 172 rfl rfl
theorem ml_X7_36 : Cond.methodLink RX7 36 yX7_digit ∈ wsA := wA2 173 rfl rfl
theorem ml_X7_33 : Cond.methodLink RX7 33 yX7_wrong ∈ wsA := wA2 177 rfl rfl
theorem ml_X7_25 : Cond.methodLink RX7 25 yX7_isWrong ∈ wsA := wA2 210 rfl rfl
def fl_X8 : List (Nat × Nat × Nat) := [(37, 7, 2), (66, 7, 3), (28, 4, 0)]
theorem fw_X8 : ∀ q ∈ fl_X8, Cond.fieldLink RX8 q.1 (ch_n q.2.1) (ch_T q.2.1 q.2.2).2.1 (ch_T q.2.1 q.2.2).2.2.1 ∈ wsA := List.forall_mem_cons.mpr ⟨wA1 41 rfl rfl, List.forall_mem_cons.mpr ⟨wA1 46 rfl rfl, List.forall_mem_cons.mpr ⟨wA1 66 rfl rfl, fun _ h => absurd h List.not_mem_nil⟩⟩⟩
def cl_X8 : List (Nat × Nat) := []
theorem cw_X8 : ∀ q ∈ cl_X8, Cond.classLink RX8 q.1 (ch_n q.2) ∈ wsA := fun _ h => absurd h List.not_mem_nil
def kl_X8 : List (Nat × Int32) := []
theorem kw_X8 : ∀ q ∈ kl_X8, Cond.constant RX8 q.1 q.2 ∈ wsA := fun _ h => absurd h List.not_mem_nil
def jl_X8 : List (Nat × Int64) := []
theorem jw_X8 : ∀ q ∈ jl_X8, Cond.constantLong RX8 q.1 q.2 ∈ wsA := fun _ h => absurd h List.not_mem_nil
theorem ml_X8_9 : Cond.methodLink RX8 9 yX7_open ∈ wsA := wA2 143 rfl rfl
theorem ml_X8_14 : Cond.methodLink RX8 14 yX8_readRope ∈ wsA := wA2 147 rfl rfl
theorem ml_X8_40 : Cond.methodLink RX8 40 yX4_untold ∈ wsA := wA2 150 rfl rfl
theorem ml_X8_24 : Cond.methodLink RX8 24 yX7_sign ∈ wsA := wA2 154 rfl rfl
theorem ml_X8_44 : Cond.methodLink RX8 44 yX8_bitOf ∈ wsA := wA2 158 rfl rfl
theorem ml_X8_34 : Cond.methodLink RX8 34 yX7_wrong ∈ wsA := wA2 161 rfl rfl
theorem ml_X8_48 : Cond.methodLink RX8 48 yX8_readNumber ∈ wsA := wA2 165 rfl rfl
theorem ml_X8_55 : Cond.methodLink RX8 55 yX7_number ∈ wsA := wA2 168 rfl rfl
theorem ml_X8_20 : Cond.methodLink RX8 20 yX7_isWrong ∈ wsA := wA2 178 rfl rfl
theorem ml_X8_58 : Cond.methodLink RX8 58 yX4_allows ∈ wsA := wA2 182 rfl rfl
theorem ml_X8_62 : Cond.methodLink RX8 62 yX4_tell ∈ wsA := wA2 186 rfl rfl
theorem ml_X8_52 : Cond.methodLink RX8 52 yX8_endRope ∈ wsA := wA2 190 rfl rfl
theorem ml_X8_69 : Cond.methodLink RX8 69 yX4_isUneven ∈ wsA := wA2 193 rfl rfl
def fl_X9 : List (Nat × Nat × Nat) := [(21, 4, 0), (51, 4, 1), (57, 4, 2), (27, 4, 4), (69, 4, 5), (81, 4, 6), (54, 4, 7), (48, 4, 8), (88, 6, 0), (98, 6, 1), (77, 6, 2), (30, 6, 3), (40, 6, 4), (122, 1, 0), (113, 1, 1), (125, 1, 2), (35, 1, 3), (43, 1, 4), (9, 8, 0), (15, 8, 1), (18, 8, 2)]
theorem fw_X9 : ∀ q ∈ fl_X9, Cond.fieldLink RX9 q.1 (ch_n q.2.1) (ch_T q.2.1 q.2.2).2.1 (ch_T q.2.1 q.2.2).2.2.1 ∈ wsA := List.forall_mem_cons.mpr ⟨wA1 64 rfl rfl, List.forall_mem_cons.mpr ⟨wA1 70 rfl rfl, List.forall_mem_cons.mpr ⟨wA1 73 rfl rfl, List.forall_mem_cons.mpr ⟨wA1 80 rfl rfl, List.forall_mem_cons.mpr ⟨wA1 83 rfl rfl, List.forall_mem_cons.mpr ⟨wA1 86 rfl rfl, List.forall_mem_cons.mpr ⟨wA1 89 rfl rfl, List.forall_mem_cons.mpr ⟨wA1 93 rfl rfl, List.forall_mem_cons.mpr ⟨wA1 122 rfl rfl, List.forall_mem_cons.mpr ⟨wA1 126 rfl rfl, List.forall_mem_cons.mpr ⟨wA1 129 rfl rfl, List.forall_mem_cons.mpr ⟨wA1 132 rfl rfl, List.forall_mem_cons.mpr ⟨wA1 136 rfl rfl, List.forall_mem_cons.mpr ⟨wA1 167 rfl rfl, List.forall_mem_cons.mpr ⟨wA1 169 rfl rfl, List.forall_mem_cons.mpr ⟨wA1 172 rfl rfl, List.forall_mem_cons.mpr ⟨wA1 174 rfl rfl, List.forall_mem_cons.mpr ⟨wA1 177 rfl rfl, List.forall_mem_cons.mpr ⟨wA1 211 rfl rfl, List.forall_mem_cons.mpr ⟨wA1 213 rfl rfl, List.forall_mem_cons.mpr ⟨wA1 215 rfl rfl, fun _ h => absurd h List.not_mem_nil⟩⟩⟩⟩⟩⟩⟩⟩⟩⟩⟩⟩⟩⟩⟩⟩⟩⟩⟩⟩⟩
def cl_X9 : List (Nat × Nat) := []
theorem cw_X9 : ∀ q ∈ cl_X9, Cond.classLink RX9 q.1 (ch_n q.2) ∈ wsA := fun _ h => absurd h List.not_mem_nil
def kl_X9 : List (Nat × Int32) := []
theorem kw_X9 : ∀ q ∈ kl_X9, Cond.constant RX9 q.1 q.2 ∈ wsA := fun _ h => absurd h List.not_mem_nil
def jl_X9 : List (Nat × Int64) := []
theorem jw_X9 : ∀ q ∈ jl_X9, Cond.constantLong RX9 q.1 q.2 ∈ wsA := fun _ h => absurd h List.not_mem_nil
theorem ml_X9_3 : Cond.methodLink RX9 3 (⟨"java/lang/Object", "<init>", "()V"⟩ : MethodName) ∈ wsA := wA1 210 rfl rfl
theorem ml_X9_116 : Cond.methodLink RX9 116 yX4_place ∈ wsA := wA3 42 rfl rfl
theorem ml_X9_119 : Cond.methodLink RX9 119 yX4_carrier ∈ wsA := wA3 46 rfl rfl
theorem ml_X9_44 : Cond.methodLink RX9 44 yX4_lever ∈ wsA := wA3 58 rfl rfl
theorem ml_X9_101 : Cond.methodLink RX9 101 yX9_minute ∈ wsA := wA3 95 rfl rfl
theorem ml_X9_84 : Cond.methodLink RX9 84 yX6_draw ∈ wsA := wA3 99 rfl rfl
theorem ml_X9_91 : Cond.methodLink RX9 91 yX9_heading ∈ wsA := wA3 106 rfl rfl
theorem ml_X9_60 : Cond.methodLink RX9 60 yX9_pull ∈ wsA := wA3 110 rfl rfl
theorem ml_X9_64 : Cond.methodLink RX9 64 yJ9_abs_0f7a4 ∈ wsA := wA3 114 rfl rfl
theorem ml_X9_72 : Cond.methodLink RX9 72 yJ6_signum_0f7a4 ∈ wsA := wA3 117 rfl rfl
theorem ml_X9_95 : Cond.methodLink RX9 95 yX4_stride ∈ wsA := wA3 120 rfl rfl
theorem ml_X9_105 : Cond.methodLink RX9 105 yX9_restingX ∈ wsA := wA3 132 rfl rfl
theorem ml_X9_109 : Cond.methodLink RX9 109 yJ9_max_7cf53 ∈ wsA := wA3 136 rfl rfl
theorem ml_X9_128 : Cond.methodLink RX9 128 yX9_height ∈ wsA := wA3 161 rfl rfl
theorem ml_X9_132 : Cond.methodLink RX9 132 yX9_level ∈ wsA := wA4 81 rfl rfl
def fl_X10 : List (Nat × Nat × Nat) := [(103, 7, 1), (116, 7, 3), (95, 4, 0), (164, 4, 1), (167, 4, 2), (206, 4, 4), (172, 4, 5), (175, 4, 6), (191, 4, 7), (178, 4, 8), (169, 6, 0), (185, 6, 1), (181, 6, 2), (212, 6, 3), (265, 6, 4), (243, 6, 5), (357, 6, 6), (148, 1, 0), (250, 1, 1), (151, 1, 3), (264, 1, 4), (299, 1, 5), (302, 1, 6), (305, 1, 7), (219, 8, 0), (277, 8, 2), (292, 3, 0), (312, 2, 1), (315, 2, 2), (10, 9, 0), (19, 9, 1), (23, 9, 2), (29, 9, 3), (33, 9, 4), (36, 9, 5), (137, 9, 6), (361, 9, 7), (42, 9, 8), (49, 9, 9), (53, 9, 10), (57, 9, 11), (62, 9, 12), (67, 9, 13), (141, 9, 14), (71, 9, 15), (77, 9, 16), (84, 9, 17), (91, 9, 18)]
theorem fw_X10 : ∀ q ∈ fl_X10, Cond.fieldLink RX10 q.1 (ch_n q.2.1) (ch_T q.2.1 q.2.2).2.1 (ch_T q.2.1 q.2.2).2.2.1 ∈ wsA := List.forall_mem_cons.mpr ⟨wA1 39 rfl rfl, List.forall_mem_cons.mpr ⟨wA1 45 rfl rfl, List.forall_mem_cons.mpr ⟨wA1 63 rfl rfl, List.forall_mem_cons.mpr ⟨wA1 71 rfl rfl, List.forall_mem_cons.mpr ⟨wA1 76 rfl rfl, List.forall_mem_cons.mpr ⟨wA1 81 rfl rfl, List.forall_mem_cons.mpr ⟨wA1 84 rfl rfl, List.forall_mem_cons.mpr ⟨wA1 87 rfl rfl, List.forall_mem_cons.mpr ⟨wA1 90 rfl rfl, List.forall_mem_cons.mpr ⟨wA1 95 rfl rfl, List.forall_mem_cons.mpr ⟨wA1 124 rfl rfl, List.forall_mem_cons.mpr ⟨wA1 127 rfl rfl, List.forall_mem_cons.mpr ⟨wA1 130 rfl rfl, List.forall_mem_cons.mpr ⟨wA1 134 rfl rfl, List.forall_mem_cons.mpr ⟨wA1 138 rfl rfl, List.forall_mem_cons.mpr ⟨wA1 140 rfl rfl, List.forall_mem_cons.mpr ⟨wA1 142 rfl rfl, List.forall_mem_cons.mpr ⟨wA1 166 rfl rfl, List.forall_mem_cons.mpr ⟨wA1 170 rfl rfl, List.forall_mem_cons.mpr ⟨wA1 175 rfl rfl, List.forall_mem_cons.mpr ⟨wA1 178 rfl rfl, List.forall_mem_cons.mpr ⟨wA1 181 rfl rfl, List.forall_mem_cons.mpr ⟨wA1 184 rfl rfl, List.forall_mem_cons.mpr ⟨wA1 187 rfl rfl, List.forall_mem_cons.mpr ⟨wA1 212 rfl rfl, List.forall_mem_cons.mpr ⟨wA1 216 rfl rfl, List.forall_mem_cons.mpr ⟨wA2 8 rfl rfl, List.forall_mem_cons.mpr ⟨wA2 53 rfl rfl, List.forall_mem_cons.mpr ⟨wA2 55 rfl rfl, List.forall_mem_cons.mpr ⟨wA2 63 rfl rfl, List.forall_mem_cons.mpr ⟨wA2 64 rfl rfl, List.forall_mem_cons.mpr ⟨wA2 65 rfl rfl, List.forall_mem_cons.mpr ⟨wA2 66 rfl rfl, List.forall_mem_cons.mpr ⟨wA2 67 rfl rfl, List.forall_mem_cons.mpr ⟨wA2 68 rfl rfl, List.forall_mem_cons.mpr ⟨wA2 69 rfl rfl, List.forall_mem_cons.mpr ⟨wA2 70 rfl rfl, List.forall_mem_cons.mpr ⟨wA2 71 rfl rfl, List.forall_mem_cons.mpr ⟨wA2 72 rfl rfl, List.forall_mem_cons.mpr ⟨wA2 73 rfl rfl, List.forall_mem_cons.mpr ⟨wA2 74 rfl rfl, List.forall_mem_cons.mpr ⟨wA2 75 rfl rfl, List.forall_mem_cons.mpr ⟨wA2 76 rfl rfl, List.forall_mem_cons.mpr ⟨wA2 77 rfl rfl, List.forall_mem_cons.mpr ⟨wA2 78 rfl rfl, List.forall_mem_cons.mpr ⟨wA2 79 rfl rfl, List.forall_mem_cons.mpr ⟨wA2 80 rfl rfl, List.forall_mem_cons.mpr ⟨wA2 81 rfl rfl, fun _ h => absurd h List.not_mem_nil⟩⟩⟩⟩⟩⟩⟩⟩⟩⟩⟩⟩⟩⟩⟩⟩⟩⟩⟩⟩⟩⟩⟩⟩⟩⟩⟩⟩⟩⟩⟩⟩⟩⟩⟩⟩⟩⟩⟩⟩⟩⟩⟩⟩⟩⟩⟩⟩
def cl_X10 : List (Nat × Nat) := [(7, 7), (16, 4), (26, 6), (39, 1), (46, 8), (60, 5), (74, 3), (81, 0), (88, 2)]
theorem cw_X10 : ∀ q ∈ cl_X10, Cond.classLink RX10 q.1 (ch_n q.2) ∈ wsA := List.forall_mem_cons.mpr ⟨wA1 32 rfl rfl, List.forall_mem_cons.mpr ⟨wA1 57 rfl rfl, List.forall_mem_cons.mpr ⟨wA1 115 rfl rfl, List.forall_mem_cons.mpr ⟨wA1 159 rfl rfl, List.forall_mem_cons.mpr ⟨wA1 205 rfl rfl, List.forall_mem_cons.mpr ⟨wA1 224 rfl rfl, List.forall_mem_cons.mpr ⟨wA2 1 rfl rfl, List.forall_mem_cons.mpr ⟨wA2 24 rfl rfl, List.forall_mem_cons.mpr ⟨wA2 42 rfl rfl, fun _ h => absurd h List.not_mem_nil⟩⟩⟩⟩⟩⟩⟩⟩⟩
def kl_X10 : List (Nat × Int32) := [(202, -1000000)]
theorem kw_X10 : ∀ q ∈ kl_X10, Cond.constant RX10 q.1 q.2 ∈ wsA := List.forall_mem_cons.mpr ⟨wA3 33 rfl rfl, fun _ h => absurd h List.not_mem_nil⟩
def jl_X10 : List (Nat × Int64) := []
theorem jw_X10 : ∀ q ∈ jl_X10, Cond.constantLong RX10 q.1 q.2 ∈ wsA := fun _ h => absurd h List.not_mem_nil
theorem ml_X10_1 : Cond.methodLink RX10 1 (⟨"java/lang/Object", "<init>", "()V"⟩ : MethodName) ∈ wsA := wA1 29 rfl rfl
theorem ml_X10_90 : Cond.methodLink RX10 90 yX2_init ∈ wsA := wA2 44 rfl rfl
theorem ml_X10_99 : Cond.methodLink RX10 99 yX7_told ∈ wsA := wA2 125 rfl rfl
theorem ml_X10_106 : Cond.methodLink RX10 106 yX7_add ∈ wsA := wA2 128 rfl rfl
theorem ml_X10_110 : Cond.methodLink RX10 110 yX8_read ∈ wsA := wA2 140 rfl rfl
theorem ml_X10_119 : Cond.methodLink RX10 119 yX5_read ∈ wsA := wA2 197 rfl rfl
theorem ml_X10_122 : Cond.methodLink RX10 122 yX10_newTown ∈ wsA := wA3 9 rfl rfl
theorem ml_X10_130 : Cond.methodLink RX10 130 yX6_begin ∈ wsA := wA3 13 rfl rfl
theorem ml_X10_134 : Cond.methodLink RX10 134 yX1_leave ∈ wsA := wA3 17 rfl rfl
theorem ml_X10_126 : Cond.methodLink RX10 126 yX10_newRule ∈ wsA := wA3 21 rfl rfl
theorem ml_X10_144 : Cond.methodLink RX10 144 yX10_isRoom ∈ wsA := wA3 29 rfl rfl
theorem ml_X10_203 : Cond.methodLink RX10 203 yX10_heightNow ∈ wsA := wA3 34 rfl rfl
theorem ml_X10_215 : Cond.methodLink RX10 215 yX9_height ∈ wsA := wA3 38 rfl rfl
theorem ml_X10_209 : Cond.methodLink RX10 209 yX10_bearsNow ∈ wsA := wA3 50 rfl rfl
theorem ml_X10_194 : Cond.methodLink RX10 194 yX9_weigh ∈ wsA := wA3 54 rfl rfl
theorem ml_X10_154 : Cond.methodLink RX10 154 yX10_isRope ∈ wsA := wA3 66 rfl rfl
theorem ml_X10_222 : Cond.methodLink RX10 222 yJ9_min_7cf53 ∈ wsA := wA3 78 rfl rfl
theorem ml_X10_228 : Cond.methodLink RX10 228 yJ9_max_7cf53 ∈ wsA := wA3 81 rfl rfl
theorem ml_X10_235 : Cond.methodLink RX10 235 yX10_isSpan ∈ wsA := wA3 88 rfl rfl
theorem ml_X10_239 : Cond.methodLink RX10 239 yX9_goOn ∈ wsA := wA3 91 rfl rfl
theorem ml_X10_246 : Cond.methodLink RX10 246 yX9_settle ∈ wsA := wA3 128 rfl rfl
theorem ml_X10_253 : Cond.methodLink RX10 253 yX10_isPlace ∈ wsA := wA3 145 rfl rfl
theorem ml_X10_256 : Cond.methodLink RX10 256 yX1_join ∈ wsA := wA3 149 rfl rfl
theorem ml_X10_260 : Cond.methodLink RX10 260 yX9_meeting ∈ wsA := wA3 157 rfl rfl
theorem ml_X10_268 : Cond.methodLink RX10 268 yX10_isPerson ∈ wsA := wA3 170 rfl rfl
theorem ml_X10_271 : Cond.methodLink RX10 271 yX10_setAside ∈ wsA := wA3 182 rfl rfl
theorem ml_X10_231 : Cond.methodLink RX10 231 yX6_take ∈ wsA := wA3 186 rfl rfl
theorem ml_X10_274 : Cond.methodLink RX10 274 yX9_level ∈ wsA := wA3 193 rfl rfl
theorem ml_X10_280 : Cond.methodLink RX10 280 yX1_spread ∈ wsA := wA3 197 rfl rfl
theorem ml_X10_284 : Cond.methodLink RX10 284 yX9_minute ∈ wsA := wA3 205 rfl rfl
theorem ml_X10_288 : Cond.methodLink RX10 288 yX3_fewest ∈ wsA := wA3 218 rfl rfl
theorem ml_X10_295 : Cond.methodLink RX10 295 yX0_leaveOut ∈ wsA := wA4 30 rfl rfl
theorem ml_X10_308 : Cond.methodLink RX10 308 yX2_find ∈ wsA := wA4 57 rfl rfl
theorem ml_X10_318 : Cond.methodLink RX10 318 yX9_countAt ∈ wsA := wA4 77 rfl rfl
theorem ml_X10_322 : Cond.methodLink RX10 322 yX10_told ∈ wsA := wA4 82 rfl rfl
theorem ml_X10_335 : Cond.methodLink RX10 335 yX10_ruleAt ∈ wsA := wA4 98 rfl rfl
theorem ml_X10_339 : Cond.methodLink RX10 339 yX10_goByRule ∈ wsA := wA4 102 rfl rfl
theorem ml_X10_325 : Cond.methodLink RX10 325 yX10_tellLetters ∈ wsA := wA4 106 rfl rfl
theorem ml_X10_198 : Cond.methodLink RX10 198 yX9_pull ∈ wsA := wA4 110 rfl rfl
theorem ml_X10_332 : Cond.methodLink RX10 332 yX4_place ∈ wsA := wA4 111 rfl rfl
theorem ml_X10_329 : Cond.methodLink RX10 329 yX5_worth ∈ wsA := wA4 112 rfl rfl
theorem ml_X10_343 : Cond.methodLink RX10 343 yX0_lowest ∈ wsA := wA4 146 rfl rfl
theorem ml_X10_347 : Cond.methodLink RX10 347 yX4_falling ∈ wsA := wA4 178 rfl rfl
theorem ml_X10_350 : Cond.methodLink RX10 350 yX9_isStill ∈ wsA := wA4 186 rfl rfl
theorem ml_X10_354 : Cond.methodLink RX10 354 yX9_strainOf ∈ wsA := wA4 194 rfl rfl
theorem ml_X10_161 : Cond.methodLink RX10 161 (⟨"java/util/NoSuchElementException", "<init>", "(Ljava/lang/String;)V"⟩ : MethodName) ∈ wsA := wA5 26 rfl rfl
theorem ml_X10_188 : Cond.methodLink RX10 188 yX10_pullNow ∈ wsA := wA5 52 rfl rfl
def fl_X11 : List (Nat × Nat × Nat) := [(85, 10, 0), (9, 10, 1), (13, 10, 2), (16, 10, 3), (20, 10, 4), (23, 10, 5), (99, 10, 6), (243, 10, 7), (115, 10, 8), (112, 10, 9), (109, 10, 10), (118, 10, 11), (121, 10, 12), (191, 10, 13), (194, 10, 14), (28, 10, 15), (34, 10, 16), (39, 10, 17), (187, 10, 18), (42, 10, 19), (248, 10, 20), (231, 10, 21), (45, 10, 22), (48, 10, 23), (51, 10, 24), (54, 10, 25), (57, 10, 26), (60, 10, 27), (63, 10, 28), (66, 10, 29), (69, 10, 30), (72, 10, 31), (258, 10, 32), (261, 10, 33), (264, 10, 34), (412, 10, 35), (270, 10, 36), (314, 10, 37), (415, 10, 38), (267, 10, 39), (76, 10, 40), (79, 10, 41), (373, 10, 42), (376, 10, 43), (392, 10, 44), (395, 10, 45), (82, 10, 46)]
theorem fw_X11 : ∀ q ∈ fl_X11, Cond.fieldLink RX11 q.1 (ch_n q.2.1) (ch_T q.2.1 q.2.2).2.1 (ch_T q.2.1 q.2.2).2.2.1 ∈ wsA := List.forall_mem_cons.mpr ⟨wA5 65 rfl rfl, List.forall_mem_cons.mpr ⟨wA5 66 rfl rfl, List.forall_mem_cons.mpr ⟨wA5 67 rfl rfl, List.forall_mem_cons.mpr ⟨wA5 68 rfl rfl, List.forall_mem_cons.mpr ⟨wA5 69 rfl rfl, List.forall_mem_cons.mpr ⟨wA5 70 rfl rfl, List.forall_mem_cons.mpr ⟨wA5 71 rfl rfl, List.forall_mem_cons.mpr ⟨wA5 72 rfl rfl, List.forall_mem_cons.mpr ⟨wA5 73 rfl rfl, List.forall_mem_cons.mpr ⟨wA5 74 rfl rfl, List.forall_mem_cons.mpr ⟨wA5 75 rfl rfl, List.forall_mem_cons.mpr ⟨wA5 76 rfl rfl, List.forall_mem_cons.mpr ⟨wA5 77 rfl rfl, List.forall_mem_cons.mpr ⟨wA5 78 rfl rfl, List.forall_mem_cons.mpr ⟨wA5 79 rfl rfl, List.forall_mem_cons.mpr ⟨wA5 80 rfl rfl, List.forall_mem_cons.mpr ⟨wA5 81 rfl rfl, List.forall_mem_cons.mpr ⟨wA5 82 rfl rfl, List.forall_mem_cons.mpr ⟨wA5 83 rfl rfl, List.forall_mem_cons.mpr ⟨wA5 84 rfl rfl, List.forall_mem_cons.mpr ⟨wA5 85 rfl rfl, List.forall_mem_cons.mpr ⟨wA5 86 rfl rfl, List.forall_mem_cons.mpr ⟨wA5 87 rfl rfl, List.forall_mem_cons.mpr ⟨wA5 88 rfl rfl, List.forall_mem_cons.mpr ⟨wA5 89 rfl rfl, List.forall_mem_cons.mpr ⟨wA5 90 rfl rfl, List.forall_mem_cons.mpr ⟨wA5 91 rfl rfl, List.forall_mem_cons.mpr ⟨wA5 92 rfl rfl, List.forall_mem_cons.mpr ⟨wA5 93 rfl rfl, List.forall_mem_cons.mpr ⟨wA5 94 rfl rfl, List.forall_mem_cons.mpr ⟨wA5 95 rfl rfl, List.forall_mem_cons.mpr ⟨wA5 96 rfl rfl, List.forall_mem_cons.mpr ⟨wA5 97 rfl rfl, List.forall_mem_cons.mpr ⟨wA5 98 rfl rfl, List.forall_mem_cons.mpr ⟨wA5 99 rfl rfl, List.forall_mem_cons.mpr ⟨wA5 100 rfl rfl, List.forall_mem_cons.mpr ⟨wA5 101 rfl rfl, List.forall_mem_cons.mpr ⟨wA5 102 rfl rfl, List.forall_mem_cons.mpr ⟨wA5 103 rfl rfl, List.forall_mem_cons.mpr ⟨wA5 104 rfl rfl, List.forall_mem_cons.mpr ⟨wA5 105 rfl rfl, List.forall_mem_cons.mpr ⟨wA5 106 rfl rfl, List.forall_mem_cons.mpr ⟨wA5 107 rfl rfl, List.forall_mem_cons.mpr ⟨wA5 108 rfl rfl, List.forall_mem_cons.mpr ⟨wA5 109 rfl rfl, List.forall_mem_cons.mpr ⟨wA5 110 rfl rfl, List.forall_mem_cons.mpr ⟨wA5 111 rfl rfl, fun _ h => absurd h List.not_mem_nil⟩⟩⟩⟩⟩⟩⟩⟩⟩⟩⟩⟩⟩⟩⟩⟩⟩⟩⟩⟩⟩⟩⟩⟩⟩⟩⟩⟩⟩⟩⟩⟩⟩⟩⟩⟩⟩⟩⟩⟩⟩⟩⟩⟩⟩⟩⟩
def cl_X11 : List (Nat × Nat) := []
theorem cw_X11 : ∀ q ∈ cl_X11, Cond.classLink RX11 q.1 (ch_n q.2) ∈ wsA := fun _ h => absurd h List.not_mem_nil
def kl_X11 : List (Nat × Int32) := [(292, -1000000)]
theorem kw_X11 : ∀ q ∈ kl_X11, Cond.constant RX11 q.1 q.2 ∈ wsA := List.forall_mem_cons.mpr ⟨wA6 182 rfl rfl, fun _ h => absurd h List.not_mem_nil⟩
def jl_X11 : List (Nat × Int64) := [(131, -1000000), (133, 1000000), (295, 6364136223846793005), (297, 1442695040888963407), (299, 100)]
theorem jw_X11 : ∀ q ∈ jl_X11, Cond.constantLong RX11 q.1 q.2 ∈ wsA := List.forall_mem_cons.mpr ⟨wA6 134 rfl rfl, List.forall_mem_cons.mpr ⟨wA6 135 rfl rfl, List.forall_mem_cons.mpr ⟨wA6 216 rfl rfl, List.forall_mem_cons.mpr ⟨wA6 217 rfl rfl, List.forall_mem_cons.mpr ⟨wA6 218 rfl rfl, fun _ h => absurd h List.not_mem_nil⟩⟩⟩⟩⟩
theorem ml_X11_3 : Cond.methodLink RX11 3 (⟨"java/lang/Object", "<init>", "()V"⟩ : MethodName) ∈ wsA := wA5 61 rfl rfl
theorem ml_X11_101 : Cond.methodLink RX11 101 yX11_bytesIn ∈ wsA := wA5 215 rfl rfl
theorem ml_X11_105 : Cond.methodLink RX11 105 yX11_put ∈ wsA := wA5 218 rfl rfl
theorem ml_X11_207 : Cond.methodLink RX11 207 yX11_isIn ∈ wsA := wA5 230 rfl rfl
theorem ml_X11_237 : Cond.methodLink RX11 237 yX11_readTown ∈ wsA := wA5 233 rfl rfl
theorem ml_X11_197 : Cond.methodLink RX11 197 yX11_opens ∈ wsA := wA5 237 rfl rfl
theorem ml_X11_234 : Cond.methodLink RX11 234 yX11_readRope ∈ wsA := wA6 1 rfl rfl
theorem ml_X11_214 : Cond.methodLink RX11 214 yX11_usual ∈ wsA := wA6 5 rfl rfl
theorem ml_X11_128 : Cond.methodLink RX11 128 yX11_look ∈ wsA := wA6 8 rfl rfl
theorem ml_X11_89 : Cond.methodLink RX11 89 yJ0_length_8abf5 ∈ wsA := wA6 12 rfl rfl
theorem ml_X11_95 : Cond.methodLink RX11 95 yJ0_charAt_5068e ∈ wsA := wA6 22 rfl rfl
theorem ml_X11_217 : Cond.methodLink RX11 217 yX11_has ∈ wsA := wA6 60 rfl rfl
theorem ml_X11_124 : Cond.methodLink RX11 124 yX11_fails ∈ wsA := wA6 63 rfl rfl
theorem ml_X11_221 : Cond.methodLink RX11 221 yX11_leastOf ∈ wsA := wA6 67 rfl rfl
theorem ml_X11_211 : Cond.methodLink RX11 211 yJ9_max_7cf53 ∈ wsA := wA6 71 rfl rfl
theorem ml_X11_224 : Cond.methodLink RX11 224 yX11_mostOf ∈ wsA := wA6 72 rfl rfl
theorem ml_X11_228 : Cond.methodLink RX11 228 yX11_number ∈ wsA := wA6 76 rfl rfl
theorem ml_X11_158 : Cond.methodLink RX11 158 yX11_isDigit ∈ wsA := wA6 80 rfl rfl
theorem ml_X11_204 : Cond.methodLink RX11 204 yX11_here ∈ wsA := wA6 84 rfl rfl
theorem ml_X11_240 : Cond.methodLink RX11 240 yX11_goThrough ∈ wsA := wA6 88 rfl rfl
theorem ml_X11_201 : Cond.methodLink RX11 201 yX11_clause ∈ wsA := wA6 92 rfl rfl
theorem ml_X11_144 : Cond.methodLink RX11 144 yX11_isAmong ∈ wsA := wA6 96 rfl rfl
theorem ml_X11_154 : Cond.methodLink RX11 154 yX11_takes ∈ wsA := wA6 99 rfl rfl
theorem ml_X11_177 : Cond.methodLink RX11 177 yX11_condition ∈ wsA := wA6 103 rfl rfl
theorem ml_X11_184 : Cond.methodLink RX11 184 yX11_part ∈ wsA := wA6 107 rfl rfl
theorem ml_X11_181 : Cond.methodLink RX11 181 yX11_compares ∈ wsA := wA6 111 rfl rfl
theorem ml_X11_151 : Cond.methodLink RX11 151 yX11_sum ∈ wsA := wA6 115 rfl rfl
theorem ml_X11_168 : Cond.methodLink RX11 168 yX11_term ∈ wsA := wA6 119 rfl rfl
theorem ml_X11_161 : Cond.methodLink RX11 161 yX11_atom ∈ wsA := wA6 123 rfl rfl
theorem ml_X11_148 : Cond.methodLink RX11 148 yX11_goesIn ∈ wsA := wA6 127 rfl rfl
theorem ml_X11_164 : Cond.methodLink RX11 164 yX11_within ∈ wsA := wA6 131 rfl rfl
theorem ml_X11_135 : Cond.methodLink RX11 135 yJ9_min_f86c9 ∈ wsA := wA6 136 rfl rfl
theorem ml_X11_141 : Cond.methodLink RX11 141 yJ9_max_f86c9 ∈ wsA := wA6 137 rfl rfl
theorem ml_X11_171 : Cond.methodLink RX11 171 yX11_isSign ∈ wsA := wA6 138 rfl rfl
theorem ml_X11_174 : Cond.methodLink RX11 174 yX11_unit ∈ wsA := wA6 141 rfl rfl
theorem ml_X11_246 : Cond.methodLink RX11 246 yX11_fault ∈ wsA := wA6 149 rfl rfl
theorem ml_X11_251 : Cond.methodLink RX11 251 yX11_begin ∈ wsA := wA6 150 rfl rfl
theorem ml_X11_255 : Cond.methodLink RX11 255 yX11_of ∈ wsA := wA6 154 rfl rfl
theorem ml_X11_286 : Cond.methodLink RX11 286 yX11_isRope ∈ wsA := wA6 162 rfl rfl
theorem ml_X11_289 : Cond.methodLink RX11 289 yX11_pull ∈ wsA := wA6 166 rfl rfl
theorem ml_X11_283 : Cond.methodLink RX11 283 yX11_bears ∈ wsA := wA6 170 rfl rfl
theorem ml_X11_274 : Cond.methodLink RX11 274 yX11_isRoom ∈ wsA := wA6 178 rfl rfl
theorem ml_X11_280 : Cond.methodLink RX11 280 yX11_height ∈ wsA := wA6 183 rfl rfl
theorem ml_X11_277 : Cond.methodLink RX11 277 yX11_placeOf ∈ wsA := wA6 187 rfl rfl
theorem ml_X11_293 : Cond.methodLink RX11 293 yJ9_min_7cf53 ∈ wsA := wA6 203 rfl rfl
theorem ml_X11_307 : Cond.methodLink RX11 307 yX11_minute ∈ wsA := wA6 208 rfl rfl
theorem ml_X11_301 : Cond.methodLink RX11 301 yX11_draw ∈ wsA := wA6 212 rfl rfl
theorem ml_X11_304 : Cond.methodLink RX11 304 yJ9_abs_0f7a4 ∈ wsA := wA6 219 rfl rfl
theorem ml_X11_311 : Cond.methodLink RX11 311 yX11_rests ∈ wsA := wA6 224 rfl rfl
theorem ml_X11_320 : Cond.methodLink RX11 320 yX11_areTwo ∈ wsA := wA6 236 rfl rfl
theorem ml_X11_317 : Cond.methodLink RX11 317 yX11_isPlace ∈ wsA := wA7 0 rfl rfl
theorem ml_X11_323 : Cond.methodLink RX11 323 yX11_meets ∈ wsA := wA7 8 rfl rfl
theorem ml_X11_326 : Cond.methodLink RX11 326 yX11_isPerson ∈ wsA := wA7 20 rfl rfl
theorem ml_X11_329 : Cond.methodLink RX11 329 yX11_steps ∈ wsA := wA7 24 rfl rfl
theorem ml_X11_332 : Cond.methodLink RX11 332 yX11_keeps ∈ wsA := wA7 36 rfl rfl
theorem ml_X11_335 : Cond.methodLink RX11 335 yX11_spread ∈ wsA := wA7 40 rfl rfl
theorem ml_X11_338 : Cond.methodLink RX11 338 yX11_putBack ∈ wsA := wA7 44 rfl rfl
theorem ml_X11_350 : Cond.methodLink RX11 350 yX11_goPails ∈ wsA := wA7 60 rfl rfl
theorem ml_X11_347 : Cond.methodLink RX11 347 yX11_doPailsDo ∈ wsA := wA7 64 rfl rfl
theorem ml_X11_341 : Cond.methodLink RX11 341 yX11_wantedSo ∈ wsA := wA7 68 rfl rfl
theorem ml_X11_344 : Cond.methodLink RX11 344 yX11_wantedMany ∈ wsA := wA7 72 rfl rfl
theorem ml_X11_364 : Cond.methodLink RX11 364 yX11_outOn ∈ wsA := wA7 80 rfl rfl
theorem ml_X11_358 : Cond.methodLink RX11 358 yX11_outOf ∈ wsA := wA7 84 rfl rfl
theorem ml_X11_361 : Cond.methodLink RX11 361 yX11_offAt ∈ wsA := wA7 88 rfl rfl
theorem ml_X11_367 : Cond.methodLink RX11 367 yX11_isBefore ∈ wsA := wA7 92 rfl rfl
theorem ml_X11_353 : Cond.methodLink RX11 353 yJ6_bitCount_0f7a4 ∈ wsA := wA7 95 rfl rfl
theorem ml_X11_379 : Cond.methodLink RX11 379 yX11_goOrders ∈ wsA := wA7 109 rfl rfl
theorem ml_X11_370 : Cond.methodLink RX11 370 yX11_doesOrder ∈ wsA := wA7 113 rfl rfl
theorem ml_X11_383 : Cond.methodLink RX11 383 yX11_isRule ∈ wsA := wA7 137 rfl rfl
theorem ml_X11_386 : Cond.methodLink RX11 386 yX11_isKept ∈ wsA := wA7 141 rfl rfl
theorem ml_X11_389 : Cond.methodLink RX11 389 yX11_kept0 ∈ wsA := wA7 145 rfl rfl
theorem ml_X11_398 : Cond.methodLink RX11 398 yX11_tries ∈ wsA := wA7 153 rfl rfl
theorem ml_X11_402 : Cond.methodLink RX11 402 yX11_fallsWith ∈ wsA := wA7 177 rfl rfl
theorem ml_X11_405 : Cond.methodLink RX11 405 yX11_strainOf ∈ wsA := wA7 189 rfl rfl
theorem ml_X11_408 : Cond.methodLink RX11 408 yX11_endsAt ∈ wsA := wA7 201 rfl rfl
