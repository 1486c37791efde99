def pg_R : Nat → String
  | 0 => RJ0
  | 1 => RJ1
  | 2 => RJ2
  | 3 => RJ3
  | 4 => RJ6
  | 5 => RX0
  | 6 => RX1
  | 7 => RX2
  | 8 => RX3
  | 9 => RX4
  | 10 => RX5
  | 11 => RX6
  | 12 => RX7
  | 13 => RX8
  | 14 => RX9
  | 15 => RX10
  | _ => RX11
def pg_0 : List (ch_M × List (Nat × Instr × Nat) × Nat) := [(mJ0_charAt_5068e, tJ0_charAt_5068e, 0), (mJ0_checkIndex_df160, tJ0_checkIndex_df160, 0), (mJ0_coder_7d493, tJ0_coder_7d493, 0), (mJ0_isLatin1_aae02, tJ0_isLatin1_aae02, 0), (mJ0_length_8abf5, tJ0_length_8abf5, 0), (mJ1_charAt_3b067, tJ1_charAt_3b067, 1), (mJ2_charAt_3b067, tJ2_charAt_3b067, 2), (mJ2_checkIndex_2214a, tJ2_checkIndex_2214a, 2), (mJ2_getChar_3b067, tJ2_getChar_3b067, 2), (mJ2_length_9d52b, tJ2_length_9d52b, 2), (mJ3_checkIndex_8e157, tJ3_checkIndex_8e157, 3), (mJ6_bitCount_0f7a4, tJ6_bitCount_0f7a4, 4), (mJ6_signum_0f7a4, tJ6_signum_0f7a4, 4), (mX0_canAllBe, tX0_canAllBe, 5), (mX0_canBe, tX0_canBe, 5), (mX0_costOf, tX0_costOf, 5), (mX0_findFeet, tX0_findFeet, 5), (mX0_init, tX0_init, 5), (mX0_isAsked, tX0_isAsked, 5), (mX0_leastCost, tX0_leastCost, 5), (mX0_leaveOut, tX0_leaveOut, 5), (mX0_lowest, tX0_lowest, 5), (mX0_topsCanBe, tX0_topsCanBe, 5), (mX1_init, tX1_init, 6), (mX1_join, tX1_join, 6), (mX1_leave, tX1_leave, 6), (mX1_level, tX1_level, 6), (mX1_spread, tX1_spread, 6), (mX2_find, tX2_find, 7), (mX2_goThrough, tX2_goThrough, 7)]
theorem pg_0_d : ∀ e ∈ pg_0, (∀ q ∈ e.2.1, decode e.1.2.1 q.1 = .ok q.2) ∧ pg_R e.2.2 = e.1.1.cls := List.forall_mem_cons.mpr ⟨⟨tJ0_charAt_5068e_ok, rfl⟩, List.forall_mem_cons.mpr ⟨⟨tJ0_checkIndex_df160_ok, rfl⟩, List.forall_mem_cons.mpr ⟨⟨tJ0_coder_7d493_ok, rfl⟩, List.forall_mem_cons.mpr ⟨⟨tJ0_isLatin1_aae02_ok, rfl⟩, List.forall_mem_cons.mpr ⟨⟨tJ0_length_8abf5_ok, rfl⟩, List.forall_mem_cons.mpr ⟨⟨tJ1_charAt_3b067_ok, rfl⟩, List.forall_mem_cons.mpr ⟨⟨tJ2_charAt_3b067_ok, rfl⟩, List.forall_mem_cons.mpr ⟨⟨tJ2_checkIndex_2214a_ok, rfl⟩, List.forall_mem_cons.mpr ⟨⟨tJ2_getChar_3b067_ok, rfl⟩, List.forall_mem_cons.mpr ⟨⟨tJ2_length_9d52b_ok, rfl⟩, List.forall_mem_cons.mpr ⟨⟨tJ3_checkIndex_8e157_ok, rfl⟩, List.forall_mem_cons.mpr ⟨⟨tJ6_bitCount_0f7a4_ok, rfl⟩, List.forall_mem_cons.mpr ⟨⟨tJ6_signum_0f7a4_ok, rfl⟩, List.forall_mem_cons.mpr ⟨⟨tX0_canAllBe_ok, rfl⟩, List.forall_mem_cons.mpr ⟨⟨tX0_canBe_ok, rfl⟩, List.forall_mem_cons.mpr ⟨⟨tX0_costOf_ok, rfl⟩, List.forall_mem_cons.mpr ⟨⟨tX0_findFeet_ok, rfl⟩, List.forall_mem_cons.mpr ⟨⟨tX0_init_ok, rfl⟩, List.forall_mem_cons.mpr ⟨⟨tX0_isAsked_ok, rfl⟩, List.forall_mem_cons.mpr ⟨⟨tX0_leastCost_ok, rfl⟩, List.forall_mem_cons.mpr ⟨⟨tX0_leaveOut_ok, rfl⟩, List.forall_mem_cons.mpr ⟨⟨tX0_lowest_ok, rfl⟩, List.forall_mem_cons.mpr ⟨⟨tX0_topsCanBe_ok, rfl⟩, List.forall_mem_cons.mpr ⟨⟨tX1_init_ok, rfl⟩, List.forall_mem_cons.mpr ⟨⟨tX1_join_ok, rfl⟩, List.forall_mem_cons.mpr ⟨⟨tX1_leave_ok, rfl⟩, List.forall_mem_cons.mpr ⟨⟨tX1_level_ok, rfl⟩, List.forall_mem_cons.mpr ⟨⟨tX1_spread_ok, rfl⟩, List.forall_mem_cons.mpr ⟨⟨tX2_find_ok, rfl⟩, List.forall_mem_cons.mpr ⟨⟨tX2_goThrough_ok, rfl⟩, fun _ h => absurd h List.not_mem_nil⟩⟩⟩⟩⟩⟩⟩⟩⟩⟩⟩⟩⟩⟩⟩⟩⟩⟩⟩⟩⟩⟩⟩⟩⟩⟩⟩⟩⟩⟩
def pg_1 : List (ch_M × List (Nat × Instr × Nat) × Nat) := [(mX2_init, tX2_init, 7), (mX3_fewest, tX3_fewest, 8), (mX3_findUseful, tX3_findUseful, 8), (mX3_findWays, tX3_findWays, 8), (mX3_fits, tX3_fits, 8), (mX3_give, tX3_give, 8), (mX3_init, tX3_init, 8), (mX3_isHopeless, tX3_isHopeless, 8), (mX3_isSo, tX3_isSo, 8), (mX3_mattering, tX3_mattering, 8), (mX3_moves, tX3_moves, 8), (mX3_search, tX3_search, 8), (mX4_allows, tX4_allows, 9), (mX4_carrier, tX4_carrier, 9), (mX4_falling, tX4_falling, 9), (mX4_init, tX4_init, 9), (mX4_isUneven, tX4_isUneven, 9), (mX4_lever, tX4_lever, 9), (mX4_place, tX4_place, 9), (mX4_stride, tX4_stride, 9), (mX4_tell, tX4_tell, 9), (mX4_untold, tX4_untold, 9), (mX5_atom, tX5_atom, 10), (mX5_bounded, tX5_bounded, 10), (mX5_clause, tX5_clause, 10), (mX5_condition, tX5_condition, 10), (mX5_emit, tX5_emit, 10), (mX5_init, tX5_init, 10), (mX5_isCompare, tX5_isCompare, 10), (mX5_letterOf, tX5_letterOf, 10)]
theorem pg_1_d : ∀ e ∈ pg_1, (∀ q ∈ e.2.1, decode e.1.2.1 q.1 = .ok q.2) ∧ pg_R e.2.2 = e.1.1.cls := List.forall_mem_cons.mpr ⟨⟨tX2_init_ok, rfl⟩, List.forall_mem_cons.mpr ⟨⟨tX3_fewest_ok, rfl⟩, List.forall_mem_cons.mpr ⟨⟨tX3_findUseful_ok, rfl⟩, List.forall_mem_cons.mpr ⟨⟨tX3_findWays_ok, rfl⟩, List.forall_mem_cons.mpr ⟨⟨tX3_fits_ok, rfl⟩, List.forall_mem_cons.mpr ⟨⟨tX3_give_ok, rfl⟩, List.forall_mem_cons.mpr ⟨⟨tX3_init_ok, rfl⟩, List.forall_mem_cons.mpr ⟨⟨tX3_isHopeless_ok, rfl⟩, List.forall_mem_cons.mpr ⟨⟨tX3_isSo_ok, rfl⟩, List.forall_mem_cons.mpr ⟨⟨tX3_mattering_ok, rfl⟩, List.forall_mem_cons.mpr ⟨⟨tX3_moves_ok, rfl⟩, List.forall_mem_cons.mpr ⟨⟨tX3_search_ok, rfl⟩, List.forall_mem_cons.mpr ⟨⟨tX4_allows_ok, rfl⟩, List.forall_mem_cons.mpr ⟨⟨tX4_carrier_ok, rfl⟩, List.forall_mem_cons.mpr ⟨⟨tX4_falling_ok, rfl⟩, List.forall_mem_cons.mpr ⟨⟨tX4_init_ok, rfl⟩, List.forall_mem_cons.mpr ⟨⟨tX4_isUneven_ok, rfl⟩, List.forall_mem_cons.mpr ⟨⟨tX4_lever_ok, rfl⟩, List.forall_mem_cons.mpr ⟨⟨tX4_place_ok, rfl⟩, List.forall_mem_cons.mpr ⟨⟨tX4_stride_ok, rfl⟩, List.forall_mem_cons.mpr ⟨⟨tX4_tell_ok, rfl⟩, List.forall_mem_cons.mpr ⟨⟨tX4_untold_ok, rfl⟩, List.forall_mem_cons.mpr ⟨⟨tX5_atom_ok, rfl⟩, List.forall_mem_cons.mpr ⟨⟨tX5_bounded_ok, rfl⟩, List.forall_mem_cons.mpr ⟨⟨tX5_clause_ok, rfl⟩, List.forall_mem_cons.mpr ⟨⟨tX5_condition_ok, rfl⟩, List.forall_mem_cons.mpr ⟨⟨tX5_emit_ok, rfl⟩, List.forall_mem_cons.mpr ⟨⟨tX5_init_ok, rfl⟩, List.forall_mem_cons.mpr ⟨⟨tX5_isCompare_ok, rfl⟩, List.forall_mem_cons.mpr ⟨⟨tX5_letterOf_ok, rfl⟩, fun _ h => absurd h List.not_mem_nil⟩⟩⟩⟩⟩⟩⟩⟩⟩⟩⟩⟩⟩⟩⟩⟩⟩⟩⟩⟩⟩⟩⟩⟩⟩⟩⟩⟩⟩⟩
def pg_2 : List (ch_M × List (Nat × Instr × Nat) × Nat) := [(mX5_nested, tX5_nested, 10), (mX5_read, tX5_read, 10), (mX5_sum, tX5_sum, 10), (mX5_unit, tX5_unit, 10), (mX5_valueOf, tX5_valueOf, 10), (mX5_worked, tX5_worked, 10), (mX5_worth, tX5_worth, 10), (mX6_begin, tX6_begin, 11), (mX6_draw, tX6_draw, 11), (mX6_init, tX6_init, 11), (mX6_take, tX6_take, 11), (mX7_add, tX7_add, 12), (mX7_digit, tX7_digit, 12), (mX7_init, tX7_init, 12), (mX7_isWrong, tX7_isWrong, 12), (mX7_number, tX7_number, 12), (mX7_open, tX7_open, 12), (mX7_sign, tX7_sign, 12), (mX7_takeSign, tX7_takeSign, 12), (mX7_told, tX7_told, 12), (mX7_wrong, tX7_wrong, 12), (mX8_bitOf, tX8_bitOf, 13), (mX8_endRope, tX8_endRope, 13), (mX8_read, tX8_read, 13), (mX8_readNumber, tX8_readNumber, 13), (mX8_readRope, tX8_readRope, 13), (mX9_countAt, tX9_countAt, 14), (mX9_goOn, tX9_goOn, 14), (mX9_heading, tX9_heading, 14), (mX9_height, tX9_height, 14)]
theorem pg_2_d : ∀ e ∈ pg_2, (∀ q ∈ e.2.1, decode e.1.2.1 q.1 = .ok q.2) ∧ pg_R e.2.2 = e.1.1.cls := List.forall_mem_cons.mpr ⟨⟨tX5_nested_ok, rfl⟩, List.forall_mem_cons.mpr ⟨⟨tX5_read_ok, rfl⟩, List.forall_mem_cons.mpr ⟨⟨tX5_sum_ok, rfl⟩, List.forall_mem_cons.mpr ⟨⟨tX5_unit_ok, rfl⟩, List.forall_mem_cons.mpr ⟨⟨tX5_valueOf_ok, rfl⟩, List.forall_mem_cons.mpr ⟨⟨tX5_worked_ok, rfl⟩, List.forall_mem_cons.mpr ⟨⟨tX5_worth_ok, rfl⟩, List.forall_mem_cons.mpr ⟨⟨tX6_begin_ok, rfl⟩, List.forall_mem_cons.mpr ⟨⟨tX6_draw_ok, rfl⟩, List.forall_mem_cons.mpr ⟨⟨tX6_init_ok, rfl⟩, List.forall_mem_cons.mpr ⟨⟨tX6_take_ok, rfl⟩, List.forall_mem_cons.mpr ⟨⟨tX7_add_ok, rfl⟩, List.forall_mem_cons.mpr ⟨⟨tX7_digit_ok, rfl⟩, List.forall_mem_cons.mpr ⟨⟨tX7_init_ok, rfl⟩, List.forall_mem_cons.mpr ⟨⟨tX7_isWrong_ok, rfl⟩, List.forall_mem_cons.mpr ⟨⟨tX7_number_ok, rfl⟩, List.forall_mem_cons.mpr ⟨⟨tX7_open_ok, rfl⟩, List.forall_mem_cons.mpr ⟨⟨tX7_sign_ok, rfl⟩, List.forall_mem_cons.mpr ⟨⟨tX7_takeSign_ok, rfl⟩, List.forall_mem_cons.mpr ⟨⟨tX7_told_ok, rfl⟩, List.forall_mem_cons.mpr ⟨⟨tX7_wrong_ok, rfl⟩, List.forall_mem_cons.mpr ⟨⟨tX8_bitOf_ok, rfl⟩, List.forall_mem_cons.mpr ⟨⟨tX8_endRope_ok, rfl⟩, List.forall_mem_cons.mpr ⟨⟨tX8_read_ok, rfl⟩, List.forall_mem_cons.mpr ⟨⟨tX8_readNumber_ok, rfl⟩, List.forall_mem_cons.mpr ⟨⟨tX8_readRope_ok, rfl⟩, List.forall_mem_cons.mpr ⟨⟨tX9_countAt_ok, rfl⟩, List.forall_mem_cons.mpr ⟨⟨tX9_goOn_ok, rfl⟩, List.forall_mem_cons.mpr ⟨⟨tX9_heading_ok, rfl⟩, List.forall_mem_cons.mpr ⟨⟨tX9_height_ok, rfl⟩, fun _ h => absurd h List.not_mem_nil⟩⟩⟩⟩⟩⟩⟩⟩⟩⟩⟩⟩⟩⟩⟩⟩⟩⟩⟩⟩⟩⟩⟩⟩⟩⟩⟩⟩⟩⟩
def pg_3 : List (ch_M × List (Nat × Instr × Nat) × Nat) := [(mX9_init, tX9_init, 14), (mX9_isStill, tX9_isStill, 14), (mX9_level, tX9_level, 14), (mX9_meeting, tX9_meeting, 14), (mX9_minute, tX9_minute, 14), (mX9_pull, tX9_pull, 14), (mX9_restingX, tX9_restingX, 14), (mX9_settle, tX9_settle, 14), (mX9_strainOf, tX9_strainOf, 14), (mX9_waysWithin, tX9_waysWithin, 14), (mX9_weigh, tX9_weigh, 14), (mX10_above, tX10_above, 15), (mX10_back, tX10_back, 15), (mX10_bearsNow, tX10_bearsNow, 15), (mX10_beside, tX10_beside, 15), (mX10_best, tX10_best, 15), (mX10_brake, tX10_brake, 15), (mX10_count, tX10_count, 15), (mX10_cut, tX10_cut, 15), (mX10_end, tX10_end, 15), (mX10_even, tX10_even, 15), (mX10_fault, tX10_fault, 15), (mX10_feast, tX10_feast, 15), (mX10_feed, tX10_feed, 15), (mX10_gallery, tX10_gallery, 15), (mX10_goByRule, tX10_goByRule, 15), (mX10_group, tX10_group, 15), (mX10_heightNow, tX10_heightNow, 15), (mX10_image, tX10_image, 15), (mX10_init, tX10_init, 15)]
theorem pg_3_d : ∀ e ∈ pg_3, (∀ q ∈ e.2.1, decode e.1.2.1 q.1 = .ok q.2) ∧ pg_R e.2.2 = e.1.1.cls := List.forall_mem_cons.mpr ⟨⟨tX9_init_ok, rfl⟩, List.forall_mem_cons.mpr ⟨⟨tX9_isStill_ok, rfl⟩, List.forall_mem_cons.mpr ⟨⟨tX9_level_ok, rfl⟩, List.forall_mem_cons.mpr ⟨⟨tX9_meeting_ok, rfl⟩, List.forall_mem_cons.mpr ⟨⟨tX9_minute_ok, rfl⟩, List.forall_mem_cons.mpr ⟨⟨tX9_pull_ok, rfl⟩, List.forall_mem_cons.mpr ⟨⟨tX9_restingX_ok, rfl⟩, List.forall_mem_cons.mpr ⟨⟨tX9_settle_ok, rfl⟩, List.forall_mem_cons.mpr ⟨⟨tX9_strainOf_ok, rfl⟩, List.forall_mem_cons.mpr ⟨⟨tX9_waysWithin_ok, rfl⟩, List.forall_mem_cons.mpr ⟨⟨tX9_weigh_ok, rfl⟩, List.forall_mem_cons.mpr ⟨⟨tX10_above_ok, rfl⟩, List.forall_mem_cons.mpr ⟨⟨tX10_back_ok, rfl⟩, List.forall_mem_cons.mpr ⟨⟨tX10_bearsNow_ok, rfl⟩, List.forall_mem_cons.mpr ⟨⟨tX10_beside_ok, rfl⟩, List.forall_mem_cons.mpr ⟨⟨tX10_best_ok, rfl⟩, List.forall_mem_cons.mpr ⟨⟨tX10_brake_ok, rfl⟩, List.forall_mem_cons.mpr ⟨⟨tX10_count_ok, rfl⟩, List.forall_mem_cons.mpr ⟨⟨tX10_cut_ok, rfl⟩, List.forall_mem_cons.mpr ⟨⟨tX10_end_ok, rfl⟩, List.forall_mem_cons.mpr ⟨⟨tX10_even_ok, rfl⟩, List.forall_mem_cons.mpr ⟨⟨tX10_fault_ok, rfl⟩, List.forall_mem_cons.mpr ⟨⟨tX10_feast_ok, rfl⟩, List.forall_mem_cons.mpr ⟨⟨tX10_feed_ok, rfl⟩, List.forall_mem_cons.mpr ⟨⟨tX10_gallery_ok, rfl⟩, List.forall_mem_cons.mpr ⟨⟨tX10_goByRule_ok, rfl⟩, List.forall_mem_cons.mpr ⟨⟨tX10_group_ok, rfl⟩, List.forall_mem_cons.mpr ⟨⟨tX10_heightNow_ok, rfl⟩, List.forall_mem_cons.mpr ⟨⟨tX10_image_ok, rfl⟩, List.forall_mem_cons.mpr ⟨⟨tX10_init_ok, rfl⟩, fun _ h => absurd h List.not_mem_nil⟩⟩⟩⟩⟩⟩⟩⟩⟩⟩⟩⟩⟩⟩⟩⟩⟩⟩⟩⟩⟩⟩⟩⟩⟩⟩⟩⟩⟩⟩
def pg_4 : List (ch_M × List (Nat × Instr × Nat) × Nat) := [(mX10_isPerson, tX10_isPerson, 15), (mX10_isPlace, tX10_isPlace, 15), (mX10_isRoom, tX10_isRoom, 15), (mX10_isRope, tX10_isRope, 15), (mX10_isSpan, tX10_isSpan, 15), (mX10_keep, tX10_keep, 15), (mX10_load, tX10_load, 15), (mX10_meet, tX10_meet, 15), (mX10_minutes, tX10_minutes, 15), (mX10_newRule, tX10_newRule, 15), (mX10_newTown, tX10_newTown, 15), (mX10_often, tX10_often, 15), (mX10_orders, tX10_orders, 15), (mX10_pails, tX10_pails, 15), (mX10_person, tX10_person, 15), (mX10_pullNow, tX10_pullNow, 15), (mX10_rent, tX10_rent, 15), (mX10_rest, tX10_rest, 15), (mX10_room, tX10_room, 15), (mX10_rope, tX10_rope, 15), (mX10_ruleAt, tX10_ruleAt, 15), (mX10_setAside, tX10_setAside, 15), (mX10_slipped, tX10_slipped, 15), (mX10_step, tX10_step, 15), (mX10_strain, tX10_strain, 15), (mX10_sway, tX10_sway, 15), (mX10_task, tX10_task, 15), (mX10_tellLetters, tX10_tellLetters, 15), (mX10_text, tX10_text, 15), (mX10_together, tX10_together, 15)]
theorem pg_4_d : ∀ e ∈ pg_4, (∀ q ∈ e.2.1, decode e.1.2.1 q.1 = .ok q.2) ∧ pg_R e.2.2 = e.1.1.cls := List.forall_mem_cons.mpr ⟨⟨tX10_isPerson_ok, rfl⟩, List.forall_mem_cons.mpr ⟨⟨tX10_isPlace_ok, rfl⟩, List.forall_mem_cons.mpr ⟨⟨tX10_isRoom_ok, rfl⟩, List.forall_mem_cons.mpr ⟨⟨tX10_isRope_ok, rfl⟩, List.forall_mem_cons.mpr ⟨⟨tX10_isSpan_ok, rfl⟩, List.forall_mem_cons.mpr ⟨⟨tX10_keep_ok, rfl⟩, List.forall_mem_cons.mpr ⟨⟨tX10_load_ok, rfl⟩, List.forall_mem_cons.mpr ⟨⟨tX10_meet_ok, rfl⟩, List.forall_mem_cons.mpr ⟨⟨tX10_minutes_ok, rfl⟩, List.forall_mem_cons.mpr ⟨⟨tX10_newRule_ok, rfl⟩, List.forall_mem_cons.mpr ⟨⟨tX10_newTown_ok, rfl⟩, List.forall_mem_cons.mpr ⟨⟨tX10_often_ok, rfl⟩, List.forall_mem_cons.mpr ⟨⟨tX10_orders_ok, rfl⟩, List.forall_mem_cons.mpr ⟨⟨tX10_pails_ok, rfl⟩, List.forall_mem_cons.mpr ⟨⟨tX10_person_ok, rfl⟩, List.forall_mem_cons.mpr ⟨⟨tX10_pullNow_ok, rfl⟩, List.forall_mem_cons.mpr ⟨⟨tX10_rent_ok, rfl⟩, List.forall_mem_cons.mpr ⟨⟨tX10_rest_ok, rfl⟩, List.forall_mem_cons.mpr ⟨⟨tX10_room_ok, rfl⟩, List.forall_mem_cons.mpr ⟨⟨tX10_rope_ok, rfl⟩, List.forall_mem_cons.mpr ⟨⟨tX10_ruleAt_ok, rfl⟩, List.forall_mem_cons.mpr ⟨⟨tX10_setAside_ok, rfl⟩, List.forall_mem_cons.mpr ⟨⟨tX10_slipped_ok, rfl⟩, List.forall_mem_cons.mpr ⟨⟨tX10_step_ok, rfl⟩, List.forall_mem_cons.mpr ⟨⟨tX10_strain_ok, rfl⟩, List.forall_mem_cons.mpr ⟨⟨tX10_sway_ok, rfl⟩, List.forall_mem_cons.mpr ⟨⟨tX10_task_ok, rfl⟩, List.forall_mem_cons.mpr ⟨⟨tX10_tellLetters_ok, rfl⟩, List.forall_mem_cons.mpr ⟨⟨tX10_text_ok, rfl⟩, List.forall_mem_cons.mpr ⟨⟨tX10_together_ok, rfl⟩, fun _ h => absurd h List.not_mem_nil⟩⟩⟩⟩⟩⟩⟩⟩⟩⟩⟩⟩⟩⟩⟩⟩⟩⟩⟩⟩⟩⟩⟩⟩⟩⟩⟩⟩⟩⟩
def pg_5 : List (ch_M × List (Nat × Instr × Nat) × Nat) := [(mX10_told, tX10_told, 15), (mX10_tried, tX10_tried, 15), (mX10_turn, tX10_turn, 15), (mX10_unseen, tX10_unseen, 15), (mX10_want, tX10_want, 15), (mX10_water, tX10_water, 15), (mX10_way, tX10_way, 15), (mX10_where, tX10_where, 15), (mX10_woke, tX10_woke, 15), (mX11_above, tX11_above, 16), (mX11_areTwo, tX11_areTwo, 16), (mX11_atom, tX11_atom, 16), (mX11_back, tX11_back, 16), (mX11_bears, tX11_bears, 16), (mX11_begin, tX11_begin, 16), (mX11_beside, tX11_beside, 16), (mX11_best, tX11_best, 16), (mX11_brake, tX11_brake, 16), (mX11_bytesIn, tX11_bytesIn, 16), (mX11_clause, tX11_clause, 16), (mX11_compares, tX11_compares, 16), (mX11_condition, tX11_condition, 16), (mX11_count, tX11_count, 16), (mX11_cut, tX11_cut, 16), (mX11_doPailsDo, tX11_doPailsDo, 16), (mX11_doesOrder, tX11_doesOrder, 16), (mX11_draw, tX11_draw, 16), (mX11_end, tX11_end, 16), (mX11_endsAt, tX11_endsAt, 16), (mX11_even, tX11_even, 16)]
theorem pg_5_d : ∀ e ∈ pg_5, (∀ q ∈ e.2.1, decode e.1.2.1 q.1 = .ok q.2) ∧ pg_R e.2.2 = e.1.1.cls := List.forall_mem_cons.mpr ⟨⟨tX10_told_ok, rfl⟩, List.forall_mem_cons.mpr ⟨⟨tX10_tried_ok, rfl⟩, List.forall_mem_cons.mpr ⟨⟨tX10_turn_ok, rfl⟩, List.forall_mem_cons.mpr ⟨⟨tX10_unseen_ok, rfl⟩, List.forall_mem_cons.mpr ⟨⟨tX10_want_ok, rfl⟩, List.forall_mem_cons.mpr ⟨⟨tX10_water_ok, rfl⟩, List.forall_mem_cons.mpr ⟨⟨tX10_way_ok, rfl⟩, List.forall_mem_cons.mpr ⟨⟨tX10_where_ok, rfl⟩, List.forall_mem_cons.mpr ⟨⟨tX10_woke_ok, rfl⟩, List.forall_mem_cons.mpr ⟨⟨tX11_above_ok, rfl⟩, List.forall_mem_cons.mpr ⟨⟨tX11_areTwo_ok, rfl⟩, List.forall_mem_cons.mpr ⟨⟨tX11_atom_ok, rfl⟩, List.forall_mem_cons.mpr ⟨⟨tX11_back_ok, rfl⟩, List.forall_mem_cons.mpr ⟨⟨tX11_bears_ok, rfl⟩, List.forall_mem_cons.mpr ⟨⟨tX11_begin_ok, rfl⟩, List.forall_mem_cons.mpr ⟨⟨tX11_beside_ok, rfl⟩, List.forall_mem_cons.mpr ⟨⟨tX11_best_ok, rfl⟩, List.forall_mem_cons.mpr ⟨⟨tX11_brake_ok, rfl⟩, List.forall_mem_cons.mpr ⟨⟨tX11_bytesIn_ok, rfl⟩, List.forall_mem_cons.mpr ⟨⟨tX11_clause_ok, rfl⟩, List.forall_mem_cons.mpr ⟨⟨tX11_compares_ok, rfl⟩, List.forall_mem_cons.mpr ⟨⟨tX11_condition_ok, rfl⟩, List.forall_mem_cons.mpr ⟨⟨tX11_count_ok, rfl⟩, List.forall_mem_cons.mpr ⟨⟨tX11_cut_ok, rfl⟩, List.forall_mem_cons.mpr ⟨⟨tX11_doPailsDo_ok, rfl⟩, List.forall_mem_cons.mpr ⟨⟨tX11_doesOrder_ok, rfl⟩, List.forall_mem_cons.mpr ⟨⟨tX11_draw_ok, rfl⟩, List.forall_mem_cons.mpr ⟨⟨tX11_end_ok, rfl⟩, List.forall_mem_cons.mpr ⟨⟨tX11_endsAt_ok, rfl⟩, List.forall_mem_cons.mpr ⟨⟨tX11_even_ok, rfl⟩, fun _ h => absurd h List.not_mem_nil⟩⟩⟩⟩⟩⟩⟩⟩⟩⟩⟩⟩⟩⟩⟩⟩⟩⟩⟩⟩⟩⟩⟩⟩⟩⟩⟩⟩⟩⟩
def pg_6 : List (ch_M × List (Nat × Instr × Nat) × Nat) := [(mX11_fails, tX11_fails, 16), (mX11_fallsWith, tX11_fallsWith, 16), (mX11_fault, tX11_fault, 16), (mX11_feast, tX11_feast, 16), (mX11_feed, tX11_feed, 16), (mX11_gallery, tX11_gallery, 16), (mX11_goOrders, tX11_goOrders, 16), (mX11_goPails, tX11_goPails, 16), (mX11_goThrough, tX11_goThrough, 16), (mX11_goesIn, tX11_goesIn, 16), (mX11_group, tX11_group, 16), (mX11_has, tX11_has, 16), (mX11_height, tX11_height, 16), (mX11_here, tX11_here, 16), (mX11_image, tX11_image, 16), (mX11_init, tX11_init, 16), (mX11_isAmong, tX11_isAmong, 16), (mX11_isBefore, tX11_isBefore, 16), (mX11_isDigit, tX11_isDigit, 16), (mX11_isIn, tX11_isIn, 16), (mX11_isKept, tX11_isKept, 16), (mX11_isPerson, tX11_isPerson, 16), (mX11_isPlace, tX11_isPlace, 16), (mX11_isRoom, tX11_isRoom, 16), (mX11_isRope, tX11_isRope, 16), (mX11_isRule, tX11_isRule, 16), (mX11_isSign, tX11_isSign, 16), (mX11_keep, tX11_keep, 16), (mX11_keeps, tX11_keeps, 16), (mX11_kept0, tX11_kept0, 16)]
theorem pg_6_d : ∀ e ∈ pg_6, (∀ q ∈ e.2.1, decode e.1.2.1 q.1 = .ok q.2) ∧ pg_R e.2.2 = e.1.1.cls := List.forall_mem_cons.mpr ⟨⟨tX11_fails_ok, rfl⟩, List.forall_mem_cons.mpr ⟨⟨tX11_fallsWith_ok, rfl⟩, List.forall_mem_cons.mpr ⟨⟨tX11_fault_ok, rfl⟩, List.forall_mem_cons.mpr ⟨⟨tX11_feast_ok, rfl⟩, List.forall_mem_cons.mpr ⟨⟨tX11_feed_ok, rfl⟩, List.forall_mem_cons.mpr ⟨⟨tX11_gallery_ok, rfl⟩, List.forall_mem_cons.mpr ⟨⟨tX11_goOrders_ok, rfl⟩, List.forall_mem_cons.mpr ⟨⟨tX11_goPails_ok, rfl⟩, List.forall_mem_cons.mpr ⟨⟨tX11_goThrough_ok, rfl⟩, List.forall_mem_cons.mpr ⟨⟨tX11_goesIn_ok, rfl⟩, List.forall_mem_cons.mpr ⟨⟨tX11_group_ok, rfl⟩, List.forall_mem_cons.mpr ⟨⟨tX11_has_ok, rfl⟩, List.forall_mem_cons.mpr ⟨⟨tX11_height_ok, rfl⟩, List.forall_mem_cons.mpr ⟨⟨tX11_here_ok, rfl⟩, List.forall_mem_cons.mpr ⟨⟨tX11_image_ok, rfl⟩, List.forall_mem_cons.mpr ⟨⟨tX11_init_ok, rfl⟩, List.forall_mem_cons.mpr ⟨⟨tX11_isAmong_ok, rfl⟩, List.forall_mem_cons.mpr ⟨⟨tX11_isBefore_ok, rfl⟩, List.forall_mem_cons.mpr ⟨⟨tX11_isDigit_ok, rfl⟩, List.forall_mem_cons.mpr ⟨⟨tX11_isIn_ok, rfl⟩, List.forall_mem_cons.mpr ⟨⟨tX11_isKept_ok, rfl⟩, List.forall_mem_cons.mpr ⟨⟨tX11_isPerson_ok, rfl⟩, List.forall_mem_cons.mpr ⟨⟨tX11_isPlace_ok, rfl⟩, List.forall_mem_cons.mpr ⟨⟨tX11_isRoom_ok, rfl⟩, List.forall_mem_cons.mpr ⟨⟨tX11_isRope_ok, rfl⟩, List.forall_mem_cons.mpr ⟨⟨tX11_isRule_ok, rfl⟩, List.forall_mem_cons.mpr ⟨⟨tX11_isSign_ok, rfl⟩, List.forall_mem_cons.mpr ⟨⟨tX11_keep_ok, rfl⟩, List.forall_mem_cons.mpr ⟨⟨tX11_keeps_ok, rfl⟩, List.forall_mem_cons.mpr ⟨⟨tX11_kept0_ok, rfl⟩, fun _ h => absurd h List.not_mem_nil⟩⟩⟩⟩⟩⟩⟩⟩⟩⟩⟩⟩⟩⟩⟩⟩⟩⟩⟩⟩⟩⟩⟩⟩⟩⟩⟩⟩⟩⟩
def pg_7 : List (ch_M × List (Nat × Instr × Nat) × Nat) := [(mX11_leastOf, tX11_leastOf, 16), (mX11_load, tX11_load, 16), (mX11_look, tX11_look, 16), (mX11_meet, tX11_meet, 16), (mX11_meets, tX11_meets, 16), (mX11_minute, tX11_minute, 16), (mX11_minutes, tX11_minutes, 16), (mX11_mostOf, tX11_mostOf, 16), (mX11_number, tX11_number, 16), (mX11_of, tX11_of, 16), (mX11_offAt, tX11_offAt, 16), (mX11_often, tX11_often, 16), (mX11_opens, tX11_opens, 16), (mX11_orders, tX11_orders, 16), (mX11_outOf, tX11_outOf, 16), (mX11_outOn, tX11_outOn, 16), (mX11_pails, tX11_pails, 16), (mX11_part, tX11_part, 16), (mX11_person, tX11_person, 16), (mX11_placeOf, tX11_placeOf, 16), (mX11_pull, tX11_pull, 16), (mX11_put, tX11_put, 16), (mX11_putBack, tX11_putBack, 16), (mX11_readRope, tX11_readRope, 16), (mX11_readTown, tX11_readTown, 16), (mX11_rent, tX11_rent, 16), (mX11_rest, tX11_rest, 16), (mX11_rests, tX11_rests, 16), (mX11_room, tX11_room, 16), (mX11_rope, tX11_rope, 16)]
theorem pg_7_d : ∀ e ∈ pg_7, (∀ q ∈ e.2.1, decode e.1.2.1 q.1 = .ok q.2) ∧ pg_R e.2.2 = e.1.1.cls := List.forall_mem_cons.mpr ⟨⟨tX11_leastOf_ok, rfl⟩, List.forall_mem_cons.mpr ⟨⟨tX11_load_ok, rfl⟩, List.forall_mem_cons.mpr ⟨⟨tX11_look_ok, rfl⟩, List.forall_mem_cons.mpr ⟨⟨tX11_meet_ok, rfl⟩, List.forall_mem_cons.mpr ⟨⟨tX11_meets_ok, rfl⟩, List.forall_mem_cons.mpr ⟨⟨tX11_minute_ok, rfl⟩, List.forall_mem_cons.mpr ⟨⟨tX11_minutes_ok, rfl⟩, List.forall_mem_cons.mpr ⟨⟨tX11_mostOf_ok, rfl⟩, List.forall_mem_cons.mpr ⟨⟨tX11_number_ok, rfl⟩, List.forall_mem_cons.mpr ⟨⟨tX11_of_ok, rfl⟩, List.forall_mem_cons.mpr ⟨⟨tX11_offAt_ok, rfl⟩, List.forall_mem_cons.mpr ⟨⟨tX11_often_ok, rfl⟩, List.forall_mem_cons.mpr ⟨⟨tX11_opens_ok, rfl⟩, List.forall_mem_cons.mpr ⟨⟨tX11_orders_ok, rfl⟩, List.forall_mem_cons.mpr ⟨⟨tX11_outOf_ok, rfl⟩, List.forall_mem_cons.mpr ⟨⟨tX11_outOn_ok, rfl⟩, List.forall_mem_cons.mpr ⟨⟨tX11_pails_ok, rfl⟩, List.forall_mem_cons.mpr ⟨⟨tX11_part_ok, rfl⟩, List.forall_mem_cons.mpr ⟨⟨tX11_person_ok, rfl⟩, List.forall_mem_cons.mpr ⟨⟨tX11_placeOf_ok, rfl⟩, List.forall_mem_cons.mpr ⟨⟨tX11_pull_ok, rfl⟩, List.forall_mem_cons.mpr ⟨⟨tX11_put_ok, rfl⟩, List.forall_mem_cons.mpr ⟨⟨tX11_putBack_ok, rfl⟩, List.forall_mem_cons.mpr ⟨⟨tX11_readRope_ok, rfl⟩, List.forall_mem_cons.mpr ⟨⟨tX11_readTown_ok, rfl⟩, List.forall_mem_cons.mpr ⟨⟨tX11_rent_ok, rfl⟩, List.forall_mem_cons.mpr ⟨⟨tX11_rest_ok, rfl⟩, List.forall_mem_cons.mpr ⟨⟨tX11_rests_ok, rfl⟩, List.forall_mem_cons.mpr ⟨⟨tX11_room_ok, rfl⟩, List.forall_mem_cons.mpr ⟨⟨tX11_rope_ok, rfl⟩, fun _ h => absurd h List.not_mem_nil⟩⟩⟩⟩⟩⟩⟩⟩⟩⟩⟩⟩⟩⟩⟩⟩⟩⟩⟩⟩⟩⟩⟩⟩⟩⟩⟩⟩⟩⟩
def pg_8 : List (ch_M × List (Nat × Instr × Nat) × Nat) := [(mX11_slipped, tX11_slipped, 16), (mX11_spread, tX11_spread, 16), (mX11_step, tX11_step, 16), (mX11_steps, tX11_steps, 16), (mX11_strain, tX11_strain, 16), (mX11_strainOf, tX11_strainOf, 16), (mX11_sum, tX11_sum, 16), (mX11_sway, tX11_sway, 16), (mX11_takes, tX11_takes, 16), (mX11_task, tX11_task, 16), (mX11_term, tX11_term, 16), (mX11_text, tX11_text, 16), (mX11_together, tX11_together, 16), (mX11_tried, tX11_tried, 16), (mX11_tries, tX11_tries, 16), (mX11_turn, tX11_turn, 16), (mX11_unit, tX11_unit, 16), (mX11_unseen, tX11_unseen, 16), (mX11_usual, tX11_usual, 16), (mX11_want, tX11_want, 16), (mX11_wantedMany, tX11_wantedMany, 16), (mX11_wantedSo, tX11_wantedSo, 16), (mX11_water, tX11_water, 16), (mX11_way, tX11_way, 16), (mX11_where, tX11_where, 16), (mX11_within, tX11_within, 16), (mX11_woke, tX11_woke, 16)]
theorem pg_8_d : ∀ e ∈ pg_8, (∀ q ∈ e.2.1, decode e.1.2.1 q.1 = .ok q.2) ∧ pg_R e.2.2 = e.1.1.cls := List.forall_mem_cons.mpr ⟨⟨tX11_slipped_ok, rfl⟩, List.forall_mem_cons.mpr ⟨⟨tX11_spread_ok, rfl⟩, List.forall_mem_cons.mpr ⟨⟨tX11_step_ok, rfl⟩, List.forall_mem_cons.mpr ⟨⟨tX11_steps_ok, rfl⟩, List.forall_mem_cons.mpr ⟨⟨tX11_strain_ok, rfl⟩, List.forall_mem_cons.mpr ⟨⟨tX11_strainOf_ok, rfl⟩, List.forall_mem_cons.mpr ⟨⟨tX11_sum_ok, rfl⟩, List.forall_mem_cons.mpr ⟨⟨tX11_sway_ok, rfl⟩, List.forall_mem_cons.mpr ⟨⟨tX11_takes_ok, rfl⟩, List.forall_mem_cons.mpr ⟨⟨tX11_task_ok, rfl⟩, List.forall_mem_cons.mpr ⟨⟨tX11_term_ok, rfl⟩, List.forall_mem_cons.mpr ⟨⟨tX11_text_ok, rfl⟩, List.forall_mem_cons.mpr ⟨⟨tX11_together_ok, rfl⟩, List.forall_mem_cons.mpr ⟨⟨tX11_tried_ok, rfl⟩, List.forall_mem_cons.mpr ⟨⟨tX11_tries_ok, rfl⟩, List.forall_mem_cons.mpr ⟨⟨tX11_turn_ok, rfl⟩, List.forall_mem_cons.mpr ⟨⟨tX11_unit_ok, rfl⟩, List.forall_mem_cons.mpr ⟨⟨tX11_unseen_ok, rfl⟩, List.forall_mem_cons.mpr ⟨⟨tX11_usual_ok, rfl⟩, List.forall_mem_cons.mpr ⟨⟨tX11_want_ok, rfl⟩, List.forall_mem_cons.mpr ⟨⟨tX11_wantedMany_ok, rfl⟩, List.forall_mem_cons.mpr ⟨⟨tX11_wantedSo_ok, rfl⟩, List.forall_mem_cons.mpr ⟨⟨tX11_water_ok, rfl⟩, List.forall_mem_cons.mpr ⟨⟨tX11_way_ok, rfl⟩, List.forall_mem_cons.mpr ⟨⟨tX11_where_ok, rfl⟩, List.forall_mem_cons.mpr ⟨⟨tX11_within_ok, rfl⟩, List.forall_mem_cons.mpr ⟨⟨tX11_woke_ok, rfl⟩, fun _ h => absurd h List.not_mem_nil⟩⟩⟩⟩⟩⟩⟩⟩⟩⟩⟩⟩⟩⟩⟩⟩⟩⟩⟩⟩⟩⟩⟩⟩⟩⟩⟩
def pg : List (ch_M × List (Nat × Instr × Nat) × Nat) := pg_0 ++ (pg_1 ++ (pg_2 ++ (pg_3 ++ (pg_4 ++ (pg_5 ++ (pg_6 ++ (pg_7 ++ (pg_8))))))))
theorem pg_d : ∀ e ∈ pg, (∀ q ∈ e.2.1, decode e.1.2.1 q.1 = .ok q.2) ∧ pg_R e.2.2 = e.1.1.cls := fun e h => (List.mem_append.mp h).elim (fun h => pg_0_d e h) (fun h => (List.mem_append.mp h).elim (fun h => pg_1_d e h) (fun h => (List.mem_append.mp h).elim (fun h => pg_2_d e h) (fun h => (List.mem_append.mp h).elim (fun h => pg_3_d e h) (fun h => (List.mem_append.mp h).elim (fun h => pg_4_d e h) (fun h => (List.mem_append.mp h).elim (fun h => pg_5_d e h) (fun h => (List.mem_append.mp h).elim (fun h => pg_6_d e h) (fun h => (List.mem_append.mp h).elim (fun h => pg_7_d e h) (fun h => pg_8_d e h))))))))
theorem pg_k : ∀ ci, ci < 11 → ch_k ci (ch_n ci) (ch_T ci) (ch_N ci) (ch_ty ci) := by
  intro ci h
  match ci, h with
  | 0, _ => exact ⟨rfl, layX0, tyX0_ok, nmX0, by decide +kernel⟩
  | 1, _ => exact ⟨rfl, layX1, tyX1_ok, nmX1, by decide +kernel⟩
  | 2, _ => exact ⟨rfl, layX2, tyX2_ok, nmX2, by decide +kernel⟩
  | 3, _ => exact ⟨rfl, layX3, tyX3_ok, nmX3, by decide +kernel⟩
  | 4, _ => exact ⟨rfl, layX4, tyX4_ok, nmX4, by decide +kernel⟩
  | 5, _ => exact ⟨rfl, layX5, tyX5_ok, nmX5, by decide +kernel⟩
  | 6, _ => exact ⟨rfl, layX6, tyX6_ok, nmX6, by decide +kernel⟩
  | 7, _ => exact ⟨rfl, layX7, tyX7_ok, nmX7, by decide +kernel⟩
  | 8, _ => exact ⟨rfl, layX9, tyX9_ok, nmX9, by decide +kernel⟩
  | 9, _ => exact ⟨rfl, layX10, tyX10_ok, nmX10, by decide +kernel⟩
  | 10, _ => exact ⟨rfl, layX11, tyX11_ok, nmX11, by decide +kernel⟩
  | k + 11, h => exact absurd h (by omega)
def pg_fl : Nat → List (Nat × Nat × Nat)
  | 0 => fl_J0
  | 1 => fl_J1
  | 2 => fl_J2
  | 4 => fl_J6
  | 5 => fl_X0
  | 6 => fl_X1
  | 7 => fl_X2
  | 8 => fl_X3
  | 9 => fl_X4
  | 10 => fl_X5
  | 11 => fl_X6
  | 12 => fl_X7
  | 13 => fl_X8
  | 14 => fl_X9
  | 15 => fl_X10
  | 16 => fl_X11
  | _ => []
def pg_kl : Nat → List (Nat × Int32)
  | 0 => kl_J0
  | 1 => kl_J1
  | 2 => kl_J2
  | 4 => kl_J6
  | 5 => kl_X0
  | 6 => kl_X1
  | 7 => kl_X2
  | 8 => kl_X3
  | 9 => kl_X4
  | 10 => kl_X5
  | 11 => kl_X6
  | 12 => kl_X7
  | 13 => kl_X8
  | 14 => kl_X9
  | 15 => kl_X10
  | 16 => kl_X11
  | _ => []
def pg_jl : Nat → List (Nat × Int64)
  | 0 => jl_J0
  | 1 => jl_J1
  | 2 => jl_J2
  | 4 => jl_J6
  | 5 => jl_X0
  | 6 => jl_X1
  | 7 => jl_X2
  | 8 => jl_X3
  | 9 => jl_X4
  | 10 => jl_X5
  | 11 => jl_X6
  | 12 => jl_X7
  | 13 => jl_X8
  | 14 => jl_X9
  | 15 => jl_X10
  | 16 => jl_X11
  | _ => []
theorem pg_fw : ∀ o : Nat, ∀ q ∈ pg_fl o, Cond.fieldLink (pg_R o) q.1 (ch_n q.2.1) (ch_T q.2.1 q.2.2).2.1 (ch_T q.2.1 q.2.2).2.2.1 ∈ wsA := by
  intro o
  match o with
  | 0 => exact fw_J0
  | 1 => exact fw_J1
  | 2 => exact fw_J2
  | 4 => exact fw_J6
  | 5 => exact fw_X0
  | 6 => exact fw_X1
  | 7 => exact fw_X2
  | 8 => exact fw_X3
  | 9 => exact fw_X4
  | 10 => exact fw_X5
  | 11 => exact fw_X6
  | 12 => exact fw_X7
  | 13 => exact fw_X8
  | 14 => exact fw_X9
  | 15 => exact fw_X10
  | 16 => exact fw_X11
  | 3 => exact fun _ h => absurd h List.not_mem_nil
  | o + 17 => exact fun _ h => absurd h List.not_mem_nil
theorem pg_kw : ∀ o : Nat, ∀ q ∈ pg_kl o, Cond.constant (pg_R o) q.1 q.2 ∈ wsA := by
  intro o
  match o with
  | 0 => exact kw_J0
  | 1 => exact kw_J1
  | 2 => exact kw_J2
  | 4 => exact kw_J6
  | 5 => exact kw_X0
  | 6 => exact kw_X1
  | 7 => exact kw_X2
  | 8 => exact kw_X3
  | 9 => exact kw_X4
  | 10 => exact kw_X5
  | 11 => exact kw_X6
  | 12 => exact kw_X7
  | 13 => exact kw_X8
  | 14 => exact kw_X9
  | 15 => exact kw_X10
  | 16 => exact kw_X11
  | 3 => exact fun _ h => absurd h List.not_mem_nil
  | o + 17 => exact fun _ h => absurd h List.not_mem_nil
theorem pg_jw : ∀ o : Nat, ∀ q ∈ pg_jl o, Cond.constantLong (pg_R o) q.1 q.2 ∈ wsA := by
  intro o
  match o with
  | 0 => exact jw_J0
  | 1 => exact jw_J1
  | 2 => exact jw_J2
  | 4 => exact jw_J6
  | 5 => exact jw_X0
  | 6 => exact jw_X1
  | 7 => exact jw_X2
  | 8 => exact jw_X3
  | 9 => exact jw_X4
  | 10 => exact jw_X5
  | 11 => exact jw_X6
  | 12 => exact jw_X7
  | 13 => exact jw_X8
  | 14 => exact jw_X9
  | 15 => exact jw_X10
  | 16 => exact jw_X11
  | 3 => exact fun _ h => absurd h List.not_mem_nil
  | o + 17 => exact fun _ h => absurd h List.not_mem_nil
def pg_ci : Nat → Nat
  | 5 => 0
  | 6 => 1
  | 7 => 2
  | 8 => 3
  | 9 => 4
  | 10 => 5
  | 11 => 6
  | 12 => 7
  | 14 => 8
  | 15 => 9
  | 16 => 10
  | _ => 99
theorem pg_cn : ∀ o : Nat, pg_ci o < 11 → ch_n (pg_ci o) = pg_R o ∧ vwCl[pg_ci o]? = some (ch_n (pg_ci o), ch_T (pg_ci o), ch_N (pg_ci o)) := by
  intro o
  match o with
  | 0 => exact fun h => absurd h (by decide)
  | 1 => exact fun h => absurd h (by decide)
  | 2 => exact fun h => absurd h (by decide)
  | 3 => exact fun h => absurd h (by decide)
  | 4 => exact fun h => absurd h (by decide)
  | 5 => exact fun _ => ⟨rfl, rfl⟩
  | 6 => exact fun _ => ⟨rfl, rfl⟩
  | 7 => exact fun _ => ⟨rfl, rfl⟩
  | 8 => exact fun _ => ⟨rfl, rfl⟩
  | 9 => exact fun _ => ⟨rfl, rfl⟩
  | 10 => exact fun _ => ⟨rfl, rfl⟩
  | 11 => exact fun _ => ⟨rfl, rfl⟩
  | 12 => exact fun _ => ⟨rfl, rfl⟩
  | 13 => exact fun h => absurd h (by decide)
  | 14 => exact fun _ => ⟨rfl, rfl⟩
  | 15 => exact fun _ => ⟨rfl, rfl⟩
  | 16 => exact fun _ => ⟨rfl, rfl⟩
  | o + 17 => exact fun h => absurd h (by simp [pg_ci])
def pg_na : List Nat := [1, 2, 0, 0, 0, 2, 2, 2, 2, 1, 3, 1, 1, 3, 3, 3, 1, 0, 1, 4, 2, 2, 2, 0, 3, 0, 2, 2, 4, 6, 0, 4, 2, 5, 4, 4, 0, 4, 4, 2, 3, 6, 3, 1, 1, 0, 1, 1, 2, 1, 3, 1, 2, 1, 1, 3, 1, 0, 1, 1, 3, 1, 2, 3, 2, 3, 1, 2, 0, 0, 1, 1, 0, 0, 0, 1, 0, 0, 1, 1, 0, 1, 3, 2, 4, 3, 4, 4, 4, 4, 0, 2, 3, 5, 3, 3, 3, 2, 2, 4, 3, 1, 0, 1, 3, 1, 2, 1, 2, 1, 1, 1, 1, 5, 1, 3, 1, 1, 0, 0, 1, 1, 1, 1, 2, 2, 1, 2, 1, 0, 1, 4, 1, 1, 2, 1, 2, 0, 2, 2, 1, 0, 1, 2, 1, 3, 2, 3, 2, 1, 1, 3, 2, 3, 2, 2, 2, 1, 2, 1, 2, 0, 0, 1, 1, 3, 1, 2, 1, 0, 2, 2, 1, 2, 0, 0, 0, 1, 4, 1, 0, 1, 1, 1, 5, 1, 3, 2, 3, 0, 1, 2, 1, 0, 0, 0, 2, 2, 0, 3, 1, 1, 1, 1, 1, 1, 1, 2, 0, 2, 2, 1, 0, 2, 2, 1, 1, 3, 2, 2, 2, 4, 3, 1, 2, 2, 1, 2, 2, 3, 1, 1, 0, 1, 0, 2, 0, 0, 2, 2, 1, 1, 2, 2, 1, 1, 0, 3, 1, 2, 0, 2, 1, 3, 2, 2, 0, 3, 1, 2, 0, 0, 2, 2, 1, 1, 2]
/-- what a call's pool entry needs: 0 a method of an object, 1 a static one, 10 and on the library's -/
def pg_call (o : Nat) (q : Nat × Nat × Nat) : Prop := match q.2.1 with
  | 0 => ∃ e, pg[q.2.2]? = some e ∧ Cond.methodLink (pg_R o) q.1 e.1.1 ∈ wsA ∧ Cond.instanceMethod e.1.1 ∈ wsA ∧ Cond.selects e.1.1.cls e.1.1 e.1.1 ∈ wsA ∧ ch_m e.1 (pg_na.getD q.2.2 0)
  | 1 => ∃ e, pg[q.2.2]? = some e ∧ Cond.methodLink (pg_R o) q.1 e.1.1 ∈ wsA ∧ Cond.static e.1.1 ∈ wsA ∧ ch_m e.1 (pg_na.getD q.2.2 0)
  | 10 => Cond.methodLink (pg_R o) q.1 Lib.Math.max.name ∈ wsA
  | 11 => Cond.methodLink (pg_R o) q.1 Lib.Math.min.name ∈ wsA
  | 12 => Cond.methodLink (pg_R o) q.1 Lib.Math.abs.name ∈ wsA
  | 13 => Cond.methodLink (pg_R o) q.1 arraycopyName ∈ wsA
  | _ => True
def cll_J0 : List (Nat × Nat × Nat) := [(335, 0, 2), (492, 0, 3), (495, 1, 5), (1059, 1, 10), (498, 1, 6)]
theorem cllw_J0 : ∀ q ∈ cll_J0, pg_call 0 q := List.forall_mem_cons.mpr ⟨⟨_, rfl, wA6 16 rfl rfl, iJ0_coder_7d493, vJ0_coder_7d493, kJ0_coder_7d493⟩, List.forall_mem_cons.mpr ⟨⟨_, rfl, wA6 26 rfl rfl, iJ0_isLatin1_aae02, vJ0_isLatin1_aae02, kJ0_isLatin1_aae02⟩, List.forall_mem_cons.mpr ⟨⟨_, rfl, wA6 30 rfl rfl, sJ1_charAt_3b067, kJ1_charAt_3b067⟩, List.forall_mem_cons.mpr ⟨⟨_, rfl, wA6 38 rfl rfl, sJ3_checkIndex_8e157, kJ3_checkIndex_8e157⟩, List.forall_mem_cons.mpr ⟨⟨_, rfl, wA6 41 rfl rfl, sJ2_charAt_3b067, kJ2_charAt_3b067⟩, fun _ h => absurd h List.not_mem_nil⟩⟩⟩⟩⟩
def cll_J1 : List (Nat × Nat × Nat) := [(9, 1, 1)]
theorem cllw_J1 : ∀ q ∈ cll_J1, pg_call 1 q := List.forall_mem_cons.mpr ⟨⟨_, rfl, wA6 33 rfl rfl, sJ0_checkIndex_df160, kJ0_checkIndex_df160⟩, fun _ h => absurd h List.not_mem_nil⟩
def cll_J2 : List (Nat × Nat × Nat) := [(67, 1, 7), (48, 1, 9), (414, 1, 1), (71, 1, 8)]
theorem cllw_J2 : ∀ q ∈ cll_J2, pg_call 2 q := List.forall_mem_cons.mpr ⟨⟨_, rfl, wA6 44 rfl rfl, sJ2_checkIndex_2214a, kJ2_checkIndex_2214a⟩, List.forall_mem_cons.mpr ⟨⟨_, rfl, wA6 47 rfl rfl, sJ2_length_9d52b, kJ2_length_9d52b⟩, List.forall_mem_cons.mpr ⟨⟨_, rfl, wA6 50 rfl rfl, sJ0_checkIndex_df160, kJ0_checkIndex_df160⟩, List.forall_mem_cons.mpr ⟨⟨_, rfl, wA6 51 rfl rfl, sJ2_getChar_3b067, kJ2_getChar_3b067⟩, fun _ h => absurd h List.not_mem_nil⟩⟩⟩⟩
def cll_J3 : List (Nat × Nat × Nat) := []
theorem cllw_J3 : ∀ q ∈ cll_J3, pg_call 3 q := fun _ h => absurd h List.not_mem_nil
def cll_J6 : List (Nat × Nat × Nat) := []
theorem cllw_J6 : ∀ q ∈ cll_J6, pg_call 4 q := fun _ h => absurd h List.not_mem_nil
def cll_X0 : List (Nat × Nat × Nat) := [(20, 0, 16), (40, 11, 0), (30, 0, 19), (47, 0, 48), (50, 1, 15), (54, 0, 49), (61, 0, 18), (65, 0, 13), (73, 0, 14), (69, 0, 22)]
theorem cllw_X0 : ∀ q ∈ cll_X0, pg_call 5 q := List.forall_mem_cons.mpr ⟨⟨_, rfl, wA4 34 rfl rfl, iX0_findFeet, vX0_findFeet, kX0_findFeet⟩, List.forall_mem_cons.mpr ⟨wA4 38 rfl rfl, List.forall_mem_cons.mpr ⟨⟨_, rfl, wA4 39 rfl rfl, iX0_leastCost, vX0_leastCost, kX0_leastCost⟩, List.forall_mem_cons.mpr ⟨⟨_, rfl, wA4 44 rfl rfl, iX4_place, vX4_place, kX4_place⟩, List.forall_mem_cons.mpr ⟨⟨_, rfl, wA4 45 rfl rfl, sX0_costOf, kX0_costOf⟩, List.forall_mem_cons.mpr ⟨⟨_, rfl, wA4 48 rfl rfl, iX4_stride, vX4_stride, kX4_stride⟩, List.forall_mem_cons.mpr ⟨⟨_, rfl, wA4 150 rfl rfl, iX0_isAsked, vX0_isAsked, kX0_isAsked⟩, List.forall_mem_cons.mpr ⟨⟨_, rfl, wA4 154 rfl rfl, iX0_canAllBe, vX0_canAllBe, kX0_canAllBe⟩, List.forall_mem_cons.mpr ⟨⟨_, rfl, wA4 158 rfl rfl, iX0_canBe, vX0_canBe, kX0_canBe⟩, List.forall_mem_cons.mpr ⟨⟨_, rfl, wA4 162 rfl rfl, iX0_topsCanBe, vX0_topsCanBe, kX0_topsCanBe⟩, fun _ h => absurd h List.not_mem_nil⟩⟩⟩⟩⟩⟩⟩⟩⟩⟩
def cll_X1 : List (Nat × Nat × Nat) := [(37, 0, 26)]
theorem cllw_X1 : ∀ q ∈ cll_X1, pg_call 6 q := List.forall_mem_cons.mpr ⟨⟨_, rfl, wA3 201 rfl rfl, iX1_level, vX1_level, kX1_level⟩, fun _ h => absurd h List.not_mem_nil⟩
def cll_X2 : List (Nat × Nat × Nat) := [(25, 0, 70), (29, 0, 29), (38, 0, 100), (44, 0, 97), (58, 0, 93)]
theorem cllw_X2 : ∀ q ∈ cll_X2, pg_call 7 q := List.forall_mem_cons.mpr ⟨⟨_, rfl, wA4 61 rfl rfl, iX6_take, vX6_take, kX6_take⟩, List.forall_mem_cons.mpr ⟨⟨_, rfl, wA4 62 rfl rfl, iX2_goThrough, vX2_goThrough, kX2_goThrough⟩, List.forall_mem_cons.mpr ⟨⟨_, rfl, wA4 66 rfl rfl, iX9_weigh, vX9_weigh, kX9_weigh⟩, List.forall_mem_cons.mpr ⟨⟨_, rfl, wA4 67 rfl rfl, iX9_settle, vX9_settle, kX9_settle⟩, List.forall_mem_cons.mpr ⟨⟨_, rfl, wA4 68 rfl rfl, iX9_meeting, vX9_meeting, kX9_meeting⟩, fun _ h => absurd h List.not_mem_nil⟩⟩⟩⟩⟩
def cll_X3 : List (Nat × Nat × Nat) := [(24, 1, 39), (28, 0, 33), (73, 0, 38), (77, 0, 48), (32, 0, 32), (52, 1, 40), (56, 0, 47), (60, 0, 43), (36, 0, 41), (81, 0, 37), (104, 0, 99), (85, 0, 34), (111, 0, 96), (92, 11, 0), (97, 12, 0), (100, 0, 35)]
theorem cllw_X3 : ∀ q ∈ cll_X3, pg_call 8 q := List.forall_mem_cons.mpr ⟨⟨_, rfl, wA3 222 rfl rfl, sX3_mattering, kX3_mattering⟩, List.forall_mem_cons.mpr ⟨⟨_, rfl, wA3 225 rfl rfl, iX3_findWays, vX3_findWays, kX3_findWays⟩, List.forall_mem_cons.mpr ⟨⟨_, rfl, wA3 229 rfl rfl, iX3_isSo, vX3_isSo, kX3_isSo⟩, List.forall_mem_cons.mpr ⟨⟨_, rfl, wA3 233 rfl rfl, iX4_place, vX4_place, kX4_place⟩, List.forall_mem_cons.mpr ⟨⟨_, rfl, wA3 234 rfl rfl, iX3_findUseful, vX3_findUseful, kX3_findUseful⟩, List.forall_mem_cons.mpr ⟨⟨_, rfl, wA3 238 rfl rfl, sX3_moves, kX3_moves⟩, List.forall_mem_cons.mpr ⟨⟨_, rfl, wA4 1 rfl rfl, iX4_lever, vX4_lever, kX4_lever⟩, List.forall_mem_cons.mpr ⟨⟨_, rfl, wA4 2 rfl rfl, iX4_carrier, vX4_carrier, kX4_carrier⟩, List.forall_mem_cons.mpr ⟨⟨_, rfl, wA4 3 rfl rfl, iX3_search, vX3_search, kX3_search⟩, List.forall_mem_cons.mpr ⟨⟨_, rfl, wA4 7 rfl rfl, iX3_isHopeless, vX3_isHopeless, kX3_isHopeless⟩, List.forall_mem_cons.mpr ⟨⟨_, rfl, wA4 11 rfl rfl, iX9_waysWithin, vX9_waysWithin, kX9_waysWithin⟩, List.forall_mem_cons.mpr ⟨⟨_, rfl, wA4 15 rfl rfl, iX3_fits, vX3_fits, kX3_fits⟩, List.forall_mem_cons.mpr ⟨⟨_, rfl, wA4 19 rfl rfl, iX9_restingX, vX9_restingX, kX9_restingX⟩, List.forall_mem_cons.mpr ⟨wA4 20 rfl rfl, List.forall_mem_cons.mpr ⟨wA4 21 rfl rfl, List.forall_mem_cons.mpr ⟨⟨_, rfl, wA4 22 rfl rfl, iX3_give, vX3_give, kX3_give⟩, fun _ h => absurd h List.not_mem_nil⟩⟩⟩⟩⟩⟩⟩⟩⟩⟩⟩⟩⟩⟩⟩⟩
def cll_X4 : List (Nat × Nat × Nat) := []
theorem cllw_X4 : ∀ q ∈ cll_X4, pg_call 9 q := fun _ h => absurd h List.not_mem_nil
def cll_X5 : List (Nat × Nat × Nat) := [(22, 0, 76), (27, 0, 54), (39, 0, 78), (35, 0, 77), (43, 0, 62), (71, 0, 52), (31, 0, 74), (74, 1, 59), (64, 0, 60), (68, 0, 80), (58, 0, 63), (47, 1, 58), (55, 0, 56), (51, 0, 55), (78, 0, 75), (81, 1, 64), (85, 10, 0), (91, 1, 65), (95, 1, 53)]
theorem cllw_X5 : ∀ q ∈ cll_X5, pg_call 10 q := List.forall_mem_cons.mpr ⟨⟨_, rfl, wA2 201 rfl rfl, iX7_open, vX7_open, kX7_open⟩, List.forall_mem_cons.mpr ⟨⟨_, rfl, wA2 202 rfl rfl, iX5_clause, vX5_clause, kX5_clause⟩, List.forall_mem_cons.mpr ⟨⟨_, rfl, wA2 206 rfl rfl, iX7_takeSign, vX7_takeSign, kX7_takeSign⟩, List.forall_mem_cons.mpr ⟨⟨_, rfl, wA2 211 rfl rfl, iX7_sign, vX7_sign, kX7_sign⟩, List.forall_mem_cons.mpr ⟨⟨_, rfl, wA2 212 rfl rfl, iX5_sum, vX5_sum, kX5_sum⟩, List.forall_mem_cons.mpr ⟨⟨_, rfl, wA2 216 rfl rfl, iX5_atom, vX5_atom, kX5_atom⟩, List.forall_mem_cons.mpr ⟨⟨_, rfl, wA2 220 rfl rfl, iX7_isWrong, vX7_isWrong, kX7_isWrong⟩, List.forall_mem_cons.mpr ⟨⟨_, rfl, wA2 221 rfl rfl, sX5_letterOf, kX5_letterOf⟩, List.forall_mem_cons.mpr ⟨⟨_, rfl, wA2 224 rfl rfl, iX5_nested, vX5_nested, kX5_nested⟩, List.forall_mem_cons.mpr ⟨⟨_, rfl, wA2 228 rfl rfl, iX7_wrong, vX7_wrong, kX7_wrong⟩, List.forall_mem_cons.mpr ⟨⟨_, rfl, wA2 229 rfl rfl, iX5_unit, vX5_unit, kX5_unit⟩, List.forall_mem_cons.mpr ⟨⟨_, rfl, wA2 233 rfl rfl, sX5_isCompare, kX5_isCompare⟩, List.forall_mem_cons.mpr ⟨⟨_, rfl, wA2 236 rfl rfl, iX5_emit, vX5_emit, kX5_emit⟩, List.forall_mem_cons.mpr ⟨⟨_, rfl, wA3 0 rfl rfl, iX5_condition, vX5_condition, kX5_condition⟩, List.forall_mem_cons.mpr ⟨⟨_, rfl, wA3 4 rfl rfl, iX7_number, vX7_number, kX7_number⟩, List.forall_mem_cons.mpr ⟨⟨_, rfl, wA4 116 rfl rfl, sX5_valueOf, kX5_valueOf⟩, List.forall_mem_cons.mpr ⟨wA4 119 rfl rfl, List.forall_mem_cons.mpr ⟨⟨_, rfl, wA4 120 rfl rfl, sX5_worked, kX5_worked⟩, List.forall_mem_cons.mpr ⟨⟨_, rfl, wA4 123 rfl rfl, sX5_bounded, kX5_bounded⟩, fun _ h => absurd h List.not_mem_nil⟩⟩⟩⟩⟩⟩⟩⟩⟩⟩⟩⟩⟩⟩⟩⟩⟩⟩⟩
def cll_X6 : List (Nat × Nat × Nat) := [(41, 13, 0)]
theorem cllw_X6 : ∀ q ∈ cll_X6, pg_call 11 q := List.forall_mem_cons.mpr ⟨wA3 190 rfl rfl, fun _ h => absurd h List.not_mem_nil⟩
def cll_X7 : List (Nat × Nat × Nat) := [(29, 0, 77), (36, 0, 72), (33, 0, 80), (25, 0, 74)]
theorem cllw_X7 : ∀ q ∈ cll_X7, pg_call 12 q := List.forall_mem_cons.mpr ⟨⟨_, rfl, wA2 172 rfl rfl, iX7_sign, vX7_sign, kX7_sign⟩, List.forall_mem_cons.mpr ⟨⟨_, rfl, wA2 173 rfl rfl, iX7_digit, vX7_digit, kX7_digit⟩, List.forall_mem_cons.mpr ⟨⟨_, rfl, wA2 177 rfl rfl, iX7_wrong, vX7_wrong, kX7_wrong⟩, List.forall_mem_cons.mpr ⟨⟨_, rfl, wA2 210 rfl rfl, iX7_isWrong, vX7_isWrong, kX7_isWrong⟩, fun _ h => absurd h List.not_mem_nil⟩⟩⟩⟩
def cll_X8 : List (Nat × Nat × Nat) := [(9, 0, 76), (14, 1, 85), (40, 0, 51), (24, 0, 77), (44, 1, 81), (34, 0, 80), (48, 1, 84), (55, 0, 75), (20, 0, 74), (58, 0, 42), (62, 0, 50), (52, 1, 82), (69, 0, 46)]
theorem cllw_X8 : ∀ q ∈ cll_X8, pg_call 13 q := List.forall_mem_cons.mpr ⟨⟨_, rfl, wA2 143 rfl rfl, iX7_open, vX7_open, kX7_open⟩, List.forall_mem_cons.mpr ⟨⟨_, rfl, wA2 147 rfl rfl, sX8_readRope, kX8_readRope⟩, List.forall_mem_cons.mpr ⟨⟨_, rfl, wA2 150 rfl rfl, iX4_untold, vX4_untold, kX4_untold⟩, List.forall_mem_cons.mpr ⟨⟨_, rfl, wA2 154 rfl rfl, iX7_sign, vX7_sign, kX7_sign⟩, List.forall_mem_cons.mpr ⟨⟨_, rfl, wA2 158 rfl rfl, sX8_bitOf, kX8_bitOf⟩, List.forall_mem_cons.mpr ⟨⟨_, rfl, wA2 161 rfl rfl, iX7_wrong, vX7_wrong, kX7_wrong⟩, List.forall_mem_cons.mpr ⟨⟨_, rfl, wA2 165 rfl rfl, sX8_readNumber, kX8_readNumber⟩, List.forall_mem_cons.mpr ⟨⟨_, rfl, wA2 168 rfl rfl, iX7_number, vX7_number, kX7_number⟩, List.forall_mem_cons.mpr ⟨⟨_, rfl, wA2 178 rfl rfl, iX7_isWrong, vX7_isWrong, kX7_isWrong⟩, List.forall_mem_cons.mpr ⟨⟨_, rfl, wA2 182 rfl rfl, iX4_allows, vX4_allows, kX4_allows⟩, List.forall_mem_cons.mpr ⟨⟨_, rfl, wA2 186 rfl rfl, iX4_tell, vX4_tell, kX4_tell⟩, List.forall_mem_cons.mpr ⟨⟨_, rfl, wA2 190 rfl rfl, sX8_endRope, kX8_endRope⟩, List.forall_mem_cons.mpr ⟨⟨_, rfl, wA2 193 rfl rfl, iX4_isUneven, vX4_isUneven, kX4_isUneven⟩, fun _ h => absurd h List.not_mem_nil⟩⟩⟩⟩⟩⟩⟩⟩⟩⟩⟩⟩⟩
def cll_X9 : List (Nat × Nat × Nat) := [(116, 0, 48), (119, 0, 43), (44, 0, 47), (101, 0, 94), (84, 0, 68), (91, 0, 88), (60, 0, 95), (64, 12, 0), (72, 1, 12), (95, 0, 49), (105, 0, 96), (109, 10, 0), (128, 0, 89), (132, 0, 92)]
theorem cllw_X9 : ∀ q ∈ cll_X9, pg_call 14 q := List.forall_mem_cons.mpr ⟨⟨_, rfl, wA3 42 rfl rfl, iX4_place, vX4_place, kX4_place⟩, List.forall_mem_cons.mpr ⟨⟨_, rfl, wA3 46 rfl rfl, iX4_carrier, vX4_carrier, kX4_carrier⟩, List.forall_mem_cons.mpr ⟨⟨_, rfl, wA3 58 rfl rfl, iX4_lever, vX4_lever, kX4_lever⟩, List.forall_mem_cons.mpr ⟨⟨_, rfl, wA3 95 rfl rfl, iX9_minute, vX9_minute, kX9_minute⟩, List.forall_mem_cons.mpr ⟨⟨_, rfl, wA3 99 rfl rfl, iX6_draw, vX6_draw, kX6_draw⟩, List.forall_mem_cons.mpr ⟨⟨_, rfl, wA3 106 rfl rfl, iX9_heading, vX9_heading, kX9_heading⟩, List.forall_mem_cons.mpr ⟨⟨_, rfl, wA3 110 rfl rfl, iX9_pull, vX9_pull, kX9_pull⟩, List.forall_mem_cons.mpr ⟨wA3 114 rfl rfl, List.forall_mem_cons.mpr ⟨⟨_, rfl, wA3 117 rfl rfl, sJ6_signum_0f7a4, kJ6_signum_0f7a4⟩, List.forall_mem_cons.mpr ⟨⟨_, rfl, wA3 120 rfl rfl, iX4_stride, vX4_stride, kX4_stride⟩, List.forall_mem_cons.mpr ⟨⟨_, rfl, wA3 132 rfl rfl, iX9_restingX, vX9_restingX, kX9_restingX⟩, List.forall_mem_cons.mpr ⟨wA3 136 rfl rfl, List.forall_mem_cons.mpr ⟨⟨_, rfl, wA3 161 rfl rfl, iX9_height, vX9_height, kX9_height⟩, List.forall_mem_cons.mpr ⟨⟨_, rfl, wA4 81 rfl rfl, iX9_level, vX9_level, kX9_level⟩, fun _ h => absurd h List.not_mem_nil⟩⟩⟩⟩⟩⟩⟩⟩⟩⟩⟩⟩⟩⟩
def cll_X10 : List (Nat × Nat × Nat) := [(99, 1, 79), (106, 0, 71), (110, 1, 83), (119, 0, 61), (122, 0, 130), (130, 0, 67), (134, 0, 25), (126, 0, 129), (144, 0, 122), (203, 0, 117), (215, 0, 89), (209, 0, 103), (194, 0, 100), (154, 0, 123), (222, 11, 0), (228, 10, 0), (235, 1, 124), (239, 0, 87), (246, 0, 97), (253, 0, 121), (256, 0, 24), (260, 0, 93), (268, 0, 120), (271, 0, 141), (231, 0, 70), (274, 0, 92), (280, 0, 27), (284, 0, 94), (288, 0, 31), (295, 0, 20), (308, 0, 28), (318, 0, 86), (322, 0, 150), (335, 0, 140), (339, 0, 115), (325, 0, 147), (198, 0, 95), (332, 0, 48), (329, 0, 66), (343, 0, 21), (347, 0, 44), (350, 0, 91), (354, 0, 98), (188, 0, 135)]
theorem cllw_X10 : ∀ q ∈ cll_X10, pg_call 15 q := List.forall_mem_cons.mpr ⟨⟨_, rfl, wA2 125 rfl rfl, sX7_told, kX7_told⟩, List.forall_mem_cons.mpr ⟨⟨_, rfl, wA2 128 rfl rfl, iX7_add, vX7_add, kX7_add⟩, List.forall_mem_cons.mpr ⟨⟨_, rfl, wA2 140 rfl rfl, sX8_read, kX8_read⟩, List.forall_mem_cons.mpr ⟨⟨_, rfl, wA2 197 rfl rfl, iX5_read, vX5_read, kX5_read⟩, List.forall_mem_cons.mpr ⟨⟨_, rfl, wA3 9 rfl rfl, iX10_newTown, vX10_newTown, kX10_newTown⟩, List.forall_mem_cons.mpr ⟨⟨_, rfl, wA3 13 rfl rfl, iX6_begin, vX6_begin, kX6_begin⟩, List.forall_mem_cons.mpr ⟨⟨_, rfl, wA3 17 rfl rfl, iX1_leave, vX1_leave, kX1_leave⟩, List.forall_mem_cons.mpr ⟨⟨_, rfl, wA3 21 rfl rfl, iX10_newRule, vX10_newRule, kX10_newRule⟩, List.forall_mem_cons.mpr ⟨⟨_, rfl, wA3 29 rfl rfl, iX10_isRoom, vX10_isRoom, kX10_isRoom⟩, List.forall_mem_cons.mpr ⟨⟨_, rfl, wA3 34 rfl rfl, iX10_heightNow, vX10_heightNow, kX10_heightNow⟩, List.forall_mem_cons.mpr ⟨⟨_, rfl, wA3 38 rfl rfl, iX9_height, vX9_height, kX9_height⟩, List.forall_mem_cons.mpr ⟨⟨_, rfl, wA3 50 rfl rfl, iX10_bearsNow, vX10_bearsNow, kX10_bearsNow⟩, List.forall_mem_cons.mpr ⟨⟨_, rfl, wA3 54 rfl rfl, iX9_weigh, vX9_weigh, kX9_weigh⟩, List.forall_mem_cons.mpr ⟨⟨_, rfl, wA3 66 rfl rfl, iX10_isRope, vX10_isRope, kX10_isRope⟩, List.forall_mem_cons.mpr ⟨wA3 78 rfl rfl, List.forall_mem_cons.mpr ⟨wA3 81 rfl rfl, List.forall_mem_cons.mpr ⟨⟨_, rfl, wA3 88 rfl rfl, sX10_isSpan, kX10_isSpan⟩, List.forall_mem_cons.mpr ⟨⟨_, rfl, wA3 91 rfl rfl, iX9_goOn, vX9_goOn, kX9_goOn⟩, List.forall_mem_cons.mpr ⟨⟨_, rfl, wA3 128 rfl rfl, iX9_settle, vX9_settle, kX9_settle⟩, List.forall_mem_cons.mpr ⟨⟨_, rfl, wA3 145 rfl rfl, iX10_isPlace, vX10_isPlace, kX10_isPlace⟩, List.forall_mem_cons.mpr ⟨⟨_, rfl, wA3 149 rfl rfl, iX1_join, vX1_join, kX1_join⟩, List.forall_mem_cons.mpr ⟨⟨_, rfl, wA3 157 rfl rfl, iX9_meeting, vX9_meeting, kX9_meeting⟩, List.forall_mem_cons.mpr ⟨⟨_, rfl, wA3 170 rfl rfl, iX10_isPerson, vX10_isPerson, kX10_isPerson⟩, List.forall_mem_cons.mpr ⟨⟨_, rfl, wA3 182 rfl rfl, iX10_setAside, vX10_setAside, kX10_setAside⟩, List.forall_mem_cons.mpr ⟨⟨_, rfl, wA3 186 rfl rfl, iX6_take, vX6_take, kX6_take⟩, List.forall_mem_cons.mpr ⟨⟨_, rfl, wA3 193 rfl rfl, iX9_level, vX9_level, kX9_level⟩, List.forall_mem_cons.mpr ⟨⟨_, rfl, wA3 197 rfl rfl, iX1_spread, vX1_spread, kX1_spread⟩, List.forall_mem_cons.mpr ⟨⟨_, rfl, wA3 205 rfl rfl, iX9_minute, vX9_minute, kX9_minute⟩, List.forall_mem_cons.mpr ⟨⟨_, rfl, wA3 218 rfl rfl, iX3_fewest, vX3_fewest, kX3_fewest⟩, List.forall_mem_cons.mpr ⟨⟨_, rfl, wA4 30 rfl rfl, iX0_leaveOut, vX0_leaveOut, kX0_leaveOut⟩, List.forall_mem_cons.mpr ⟨⟨_, rfl, wA4 57 rfl rfl, iX2_find, vX2_find, kX2_find⟩, List.forall_mem_cons.mpr ⟨⟨_, rfl, wA4 77 rfl rfl, iX9_countAt, vX9_countAt, kX9_countAt⟩, List.forall_mem_cons.mpr ⟨⟨_, rfl, wA4 82 rfl rfl, iX10_told, vX10_told, kX10_told⟩, List.forall_mem_cons.mpr ⟨⟨_, rfl, wA4 98 rfl rfl, iX10_ruleAt, vX10_ruleAt, kX10_ruleAt⟩, List.forall_mem_cons.mpr ⟨⟨_, rfl, wA4 102 rfl rfl, iX10_goByRule, vX10_goByRule, kX10_goByRule⟩, List.forall_mem_cons.mpr ⟨⟨_, rfl, wA4 106 rfl rfl, iX10_tellLetters, vX10_tellLetters, kX10_tellLetters⟩, List.forall_mem_cons.mpr ⟨⟨_, rfl, wA4 110 rfl rfl, iX9_pull, vX9_pull, kX9_pull⟩, List.forall_mem_cons.mpr ⟨⟨_, rfl, wA4 111 rfl rfl, iX4_place, vX4_place, kX4_place⟩, List.forall_mem_cons.mpr ⟨⟨_, rfl, wA4 112 rfl rfl, iX5_worth, vX5_worth, kX5_worth⟩, List.forall_mem_cons.mpr ⟨⟨_, rfl, wA4 146 rfl rfl, iX0_lowest, vX0_lowest, kX0_lowest⟩, List.forall_mem_cons.mpr ⟨⟨_, rfl, wA4 178 rfl rfl, iX4_falling, vX4_falling, kX4_falling⟩, List.forall_mem_cons.mpr ⟨⟨_, rfl, wA4 186 rfl rfl, iX9_isStill, vX9_isStill, kX9_isStill⟩, List.forall_mem_cons.mpr ⟨⟨_, rfl, wA4 194 rfl rfl, iX9_strainOf, vX9_strainOf, kX9_strainOf⟩, List.forall_mem_cons.mpr ⟨⟨_, rfl, wA5 52 rfl rfl, iX10_pullNow, vX10_pullNow, kX10_pullNow⟩, fun _ h => absurd h List.not_mem_nil⟩⟩⟩⟩⟩⟩⟩⟩⟩⟩⟩⟩⟩⟩⟩⟩⟩⟩⟩⟩⟩⟩⟩⟩⟩⟩⟩⟩⟩⟩⟩⟩⟩⟩⟩⟩⟩⟩⟩⟩⟩⟩⟩⟩
def cll_X11 : List (Nat × Nat × Nat) := [(101, 1, 168), (105, 0, 231), (207, 1, 199), (237, 0, 234), (197, 0, 222), (234, 0, 233), (214, 1, 258), (128, 0, 212), (89, 0, 4), (95, 0, 0), (217, 1, 191), (124, 0, 180), (221, 0, 210), (211, 10, 0), (224, 0, 217), (228, 0, 218), (158, 0, 198), (204, 0, 193), (240, 0, 188), (201, 0, 169), (144, 1, 196), (154, 0, 248), (177, 0, 171), (184, 0, 227), (181, 0, 170), (151, 0, 246), (168, 0, 250), (161, 0, 161), (148, 0, 189), (164, 1, 265), (171, 1, 206), (174, 0, 256), (246, 0, 182), (251, 0, 164), (255, 0, 219), (286, 0, 204), (289, 0, 230), (283, 0, 163), (274, 0, 203), (280, 0, 192), (277, 0, 229), (293, 11, 0), (307, 0, 215), (301, 0, 176), (304, 12, 0), (311, 0, 237), (320, 0, 160), (317, 0, 202), (323, 0, 214), (326, 0, 201), (329, 0, 243), (332, 0, 208), (335, 0, 241), (338, 0, 232), (350, 0, 187), (347, 0, 174), (341, 0, 261), (344, 0, 260), (364, 0, 225), (358, 0, 224), (361, 0, 220), (367, 1, 197), (353, 1, 11), (379, 0, 186), (370, 0, 175), (383, 0, 205), (386, 0, 200), (389, 0, 209), (398, 0, 254), (402, 0, 181), (405, 0, 245), (408, 0, 178)]
theorem cllw_X11 : ∀ q ∈ cll_X11, pg_call 16 q := List.forall_mem_cons.mpr ⟨⟨_, rfl, wA5 215 rfl rfl, sX11_bytesIn, kX11_bytesIn⟩, List.forall_mem_cons.mpr ⟨⟨_, rfl, wA5 218 rfl rfl, iX11_put, vX11_put, kX11_put⟩, List.forall_mem_cons.mpr ⟨⟨_, rfl, wA5 230 rfl rfl, sX11_isIn, kX11_isIn⟩, List.forall_mem_cons.mpr ⟨⟨_, rfl, wA5 233 rfl rfl, iX11_readTown, vX11_readTown, kX11_readTown⟩, List.forall_mem_cons.mpr ⟨⟨_, rfl, wA5 237 rfl rfl, iX11_opens, vX11_opens, kX11_opens⟩, List.forall_mem_cons.mpr ⟨⟨_, rfl, wA6 1 rfl rfl, iX11_readRope, vX11_readRope, kX11_readRope⟩, List.forall_mem_cons.mpr ⟨⟨_, rfl, wA6 5 rfl rfl, sX11_usual, kX11_usual⟩, List.forall_mem_cons.mpr ⟨⟨_, rfl, wA6 8 rfl rfl, iX11_look, vX11_look, kX11_look⟩, List.forall_mem_cons.mpr ⟨⟨_, rfl, wA6 12 rfl rfl, iJ0_length_8abf5, vJ0_length_8abf5, kJ0_length_8abf5⟩, List.forall_mem_cons.mpr ⟨⟨_, rfl, wA6 22 rfl rfl, iJ0_charAt_5068e, vJ0_charAt_5068e, kJ0_charAt_5068e⟩, List.forall_mem_cons.mpr ⟨⟨_, rfl, wA6 60 rfl rfl, sX11_has, kX11_has⟩, List.forall_mem_cons.mpr ⟨⟨_, rfl, wA6 63 rfl rfl, iX11_fails, vX11_fails, kX11_fails⟩, List.forall_mem_cons.mpr ⟨⟨_, rfl, wA6 67 rfl rfl, iX11_leastOf, vX11_leastOf, kX11_leastOf⟩, List.forall_mem_cons.mpr ⟨wA6 71 rfl rfl, List.forall_mem_cons.mpr ⟨⟨_, rfl, wA6 72 rfl rfl, iX11_mostOf, vX11_mostOf, kX11_mostOf⟩, List.forall_mem_cons.mpr ⟨⟨_, rfl, wA6 76 rfl rfl, iX11_number, vX11_number, kX11_number⟩, List.forall_mem_cons.mpr ⟨⟨_, rfl, wA6 80 rfl rfl, iX11_isDigit, vX11_isDigit, kX11_isDigit⟩, List.forall_mem_cons.mpr ⟨⟨_, rfl, wA6 84 rfl rfl, iX11_here, vX11_here, kX11_here⟩, List.forall_mem_cons.mpr ⟨⟨_, rfl, wA6 88 rfl rfl, iX11_goThrough, vX11_goThrough, kX11_goThrough⟩, List.forall_mem_cons.mpr ⟨⟨_, rfl, wA6 92 rfl rfl, iX11_clause, vX11_clause, kX11_clause⟩, List.forall_mem_cons.mpr ⟨⟨_, rfl, wA6 96 rfl rfl, sX11_isAmong, kX11_isAmong⟩, List.forall_mem_cons.mpr ⟨⟨_, rfl, wA6 99 rfl rfl, iX11_takes, vX11_takes, kX11_takes⟩, List.forall_mem_cons.mpr ⟨⟨_, rfl, wA6 103 rfl rfl, iX11_condition, vX11_condition, kX11_condition⟩, List.forall_mem_cons.mpr ⟨⟨_, rfl, wA6 107 rfl rfl, iX11_part, vX11_part, kX11_part⟩, List.forall_mem_cons.mpr ⟨⟨_, rfl, wA6 111 rfl rfl, iX11_compares, vX11_compares, kX11_compares⟩, List.forall_mem_cons.mpr ⟨⟨_, rfl, wA6 115 rfl rfl, iX11_sum, vX11_sum, kX11_sum⟩, List.forall_mem_cons.mpr ⟨⟨_, rfl, wA6 119 rfl rfl, iX11_term, vX11_term, kX11_term⟩, List.forall_mem_cons.mpr ⟨⟨_, rfl, wA6 123 rfl rfl, iX11_atom, vX11_atom, kX11_atom⟩, List.forall_mem_cons.mpr ⟨⟨_, rfl, wA6 127 rfl rfl, iX11_goesIn, vX11_goesIn, kX11_goesIn⟩, List.forall_mem_cons.mpr ⟨⟨_, rfl, wA6 131 rfl rfl, sX11_within, kX11_within⟩, List.forall_mem_cons.mpr ⟨⟨_, rfl, wA6 138 rfl rfl, sX11_isSign, kX11_isSign⟩, List.forall_mem_cons.mpr ⟨⟨_, rfl, wA6 141 rfl rfl, iX11_unit, vX11_unit, kX11_unit⟩, List.forall_mem_cons.mpr ⟨⟨_, rfl, wA6 149 rfl rfl, iX11_fault, vX11_fault, kX11_fault⟩, List.forall_mem_cons.mpr ⟨⟨_, rfl, wA6 150 rfl rfl, iX11_begin, vX11_begin, kX11_begin⟩, List.forall_mem_cons.mpr ⟨⟨_, rfl, wA6 154 rfl rfl, iX11_of, vX11_of, kX11_of⟩, List.forall_mem_cons.mpr ⟨⟨_, rfl, wA6 162 rfl rfl, iX11_isRope, vX11_isRope, kX11_isRope⟩, List.forall_mem_cons.mpr ⟨⟨_, rfl, wA6 166 rfl rfl, iX11_pull, vX11_pull, kX11_pull⟩, List.forall_mem_cons.mpr ⟨⟨_, rfl, wA6 170 rfl rfl, iX11_bears, vX11_bears, kX11_bears⟩, List.forall_mem_cons.mpr ⟨⟨_, rfl, wA6 178 rfl rfl, iX11_isRoom, vX11_isRoom, kX11_isRoom⟩, List.forall_mem_cons.mpr ⟨⟨_, rfl, wA6 183 rfl rfl, iX11_height, vX11_height, kX11_height⟩, List.forall_mem_cons.mpr ⟨⟨_, rfl, wA6 187 rfl rfl, iX11_placeOf, vX11_placeOf, kX11_placeOf⟩, List.forall_mem_cons.mpr ⟨wA6 203 rfl rfl, List.forall_mem_cons.mpr ⟨⟨_, rfl, wA6 208 rfl rfl, iX11_minute, vX11_minute, kX11_minute⟩, List.forall_mem_cons.mpr ⟨⟨_, rfl, wA6 212 rfl rfl, iX11_draw, vX11_draw, kX11_draw⟩, List.forall_mem_cons.mpr ⟨wA6 219 rfl rfl, List.forall_mem_cons.mpr ⟨⟨_, rfl, wA6 224 rfl rfl, iX11_rests, vX11_rests, kX11_rests⟩, List.forall_mem_cons.mpr ⟨⟨_, rfl, wA6 236 rfl rfl, iX11_areTwo, vX11_areTwo, kX11_areTwo⟩, List.forall_mem_cons.mpr ⟨⟨_, rfl, wA7 0 rfl rfl, iX11_isPlace, vX11_isPlace, kX11_isPlace⟩, List.forall_mem_cons.mpr ⟨⟨_, rfl, wA7 8 rfl rfl, iX11_meets, vX11_meets, kX11_meets⟩, List.forall_mem_cons.mpr ⟨⟨_, rfl, wA7 20 rfl rfl, iX11_isPerson, vX11_isPerson, kX11_isPerson⟩, List.forall_mem_cons.mpr ⟨⟨_, rfl, wA7 24 rfl rfl, iX11_steps, vX11_steps, kX11_steps⟩, List.forall_mem_cons.mpr ⟨⟨_, rfl, wA7 36 rfl rfl, iX11_keeps, vX11_keeps, kX11_keeps⟩, List.forall_mem_cons.mpr ⟨⟨_, rfl, wA7 40 rfl rfl, iX11_spread, vX11_spread, kX11_spread⟩, List.forall_mem_cons.mpr ⟨⟨_, rfl, wA7 44 rfl rfl, iX11_putBack, vX11_putBack, kX11_putBack⟩, List.forall_mem_cons.mpr ⟨⟨_, rfl, wA7 60 rfl rfl, iX11_goPails, vX11_goPails, kX11_goPails⟩, List.forall_mem_cons.mpr ⟨⟨_, rfl, wA7 64 rfl rfl, iX11_doPailsDo, vX11_doPailsDo, kX11_doPailsDo⟩, List.forall_mem_cons.mpr ⟨⟨_, rfl, wA7 68 rfl rfl, iX11_wantedSo, vX11_wantedSo, kX11_wantedSo⟩, List.forall_mem_cons.mpr ⟨⟨_, rfl, wA7 72 rfl rfl, iX11_wantedMany, vX11_wantedMany, kX11_wantedMany⟩, List.forall_mem_cons.mpr ⟨⟨_, rfl, wA7 80 rfl rfl, iX11_outOn, vX11_outOn, kX11_outOn⟩, List.forall_mem_cons.mpr ⟨⟨_, rfl, wA7 84 rfl rfl, iX11_outOf, vX11_outOf, kX11_outOf⟩, List.forall_mem_cons.mpr ⟨⟨_, rfl, wA7 88 rfl rfl, iX11_offAt, vX11_offAt, kX11_offAt⟩, List.forall_mem_cons.mpr ⟨⟨_, rfl, wA7 92 rfl rfl, sX11_isBefore, kX11_isBefore⟩, List.forall_mem_cons.mpr ⟨⟨_, rfl, wA7 95 rfl rfl, sJ6_bitCount_0f7a4, kJ6_bitCount_0f7a4⟩, List.forall_mem_cons.mpr ⟨⟨_, rfl, wA7 109 rfl rfl, iX11_goOrders, vX11_goOrders, kX11_goOrders⟩, List.forall_mem_cons.mpr ⟨⟨_, rfl, wA7 113 rfl rfl, iX11_doesOrder, vX11_doesOrder, kX11_doesOrder⟩, List.forall_mem_cons.mpr ⟨⟨_, rfl, wA7 137 rfl rfl, iX11_isRule, vX11_isRule, kX11_isRule⟩, List.forall_mem_cons.mpr ⟨⟨_, rfl, wA7 141 rfl rfl, iX11_isKept, vX11_isKept, kX11_isKept⟩, List.forall_mem_cons.mpr ⟨⟨_, rfl, wA7 145 rfl rfl, iX11_kept0, vX11_kept0, kX11_kept0⟩, List.forall_mem_cons.mpr ⟨⟨_, rfl, wA7 153 rfl rfl, iX11_tries, vX11_tries, kX11_tries⟩, List.forall_mem_cons.mpr ⟨⟨_, rfl, wA7 177 rfl rfl, iX11_fallsWith, vX11_fallsWith, kX11_fallsWith⟩, List.forall_mem_cons.mpr ⟨⟨_, rfl, wA7 189 rfl rfl, iX11_strainOf, vX11_strainOf, kX11_strainOf⟩, List.forall_mem_cons.mpr ⟨⟨_, rfl, wA7 201 rfl rfl, iX11_endsAt, vX11_endsAt, kX11_endsAt⟩, fun _ h => absurd h List.not_mem_nil⟩⟩⟩⟩⟩⟩⟩⟩⟩⟩⟩⟩⟩⟩⟩⟩⟩⟩⟩⟩⟩⟩⟩⟩⟩⟩⟩⟩⟩⟩⟩⟩⟩⟩⟩⟩⟩⟩⟩⟩⟩⟩⟩⟩⟩⟩⟩⟩⟩⟩⟩⟩⟩⟩⟩⟩⟩⟩⟩⟩⟩⟩⟩⟩⟩⟩⟩⟩⟩⟩⟩⟩
def pg_ml : Nat → List (Nat × Nat × Nat)
  | 0 => cll_J0
  | 1 => cll_J1
  | 2 => cll_J2
  | 3 => cll_J3
  | 4 => cll_J6
  | 5 => cll_X0
  | 6 => cll_X1
  | 7 => cll_X2
  | 8 => cll_X3
  | 9 => cll_X4
  | 10 => cll_X5
  | 11 => cll_X6
  | 12 => cll_X7
  | 13 => cll_X8
  | 14 => cll_X9
  | 15 => cll_X10
  | 16 => cll_X11
  | _ => []
theorem pg_mw : ∀ o : Nat, ∀ q ∈ pg_ml o, pg_call o q := by
  intro o
  match o with
  | 0 => exact cllw_J0
  | 1 => exact cllw_J1
  | 2 => exact cllw_J2
  | 3 => exact cllw_J3
  | 4 => exact cllw_J6
  | 5 => exact cllw_X0
  | 6 => exact cllw_X1
  | 7 => exact cllw_X2
  | 8 => exact cllw_X3
  | 9 => exact cllw_X4
  | 10 => exact cllw_X5
  | 11 => exact cllw_X6
  | 12 => exact cllw_X7
  | 13 => exact cllw_X8
  | 14 => exact cllw_X9
  | 15 => exact cllw_X10
  | 16 => exact cllw_X11
  | o + 17 => exact fun _ h => absurd h List.not_mem_nil
theorem pg_max : Cond.static Lib.Math.max.name ∈ wsA ∧ Cond.code Lib.Math.max.name Lib.Math.max.code 2 (some .int) ∈ wsA := ⟨wA3 82 rfl rfl, wA3 83 rfl rfl⟩
theorem pg_min : Cond.static Lib.Math.min.name ∈ wsA ∧ Cond.code Lib.Math.min.name Lib.Math.min.code 2 (some .int) ∈ wsA := ⟨wA3 79 rfl rfl, wA3 80 rfl rfl⟩
theorem pg_abs : Cond.static Lib.Math.abs.name ∈ wsA ∧ Cond.code Lib.Math.abs.name Lib.Math.abs.code 1 (some .int) ∈ wsA := ⟨wA3 115 rfl rfl, wA3 116 rfl rfl⟩
theorem pg_math : Cond.initialized "java/lang/Math" ∈ wsA := wA1 17 rfl rfl
theorem pg_copy : Cond.static arraycopyName ∈ wsA ∧ Cond.native arraycopyName ∈ wsA ∧ Cond.initialized "java/lang/System" ∈ wsA := ⟨wA3 191 rfl rfl, wA3 192 rfl rfl, wA1 23 rfl rfl⟩
