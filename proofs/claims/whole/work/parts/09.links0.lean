theorem in_tb1 {w : Cond} (h : w ∈ tables_1_1) : w ∈ lw_tbl := List.mem_append_right _ (List.mem_append_left _ h)
theorem in_tb2 {w : Cond} (h : w ∈ tables_1_2) : w ∈ lw_tbl := List.mem_append_right _ (List.mem_append_right _ (List.mem_append_left _ h))
theorem in_tb3 {w : Cond} (h : w ∈ tables_1_3) : w ∈ lw_tbl := List.mem_append_right _ (List.mem_append_right _ (List.mem_append_right _ (List.mem_append_left _ h)))
theorem in_tb4 {w : Cond} (h : w ∈ tables_1_4) : w ∈ lw_tbl := List.mem_append_right _ (List.mem_append_right _ (List.mem_append_right _ (List.mem_append_right _ (List.mem_append_left _ h))))
theorem in_tb5 {w : Cond} (h : w ∈ tables_1_5) : w ∈ lw_tbl := List.mem_append_right _ (List.mem_append_right _ (List.mem_append_right _ (List.mem_append_right _ (List.mem_append_right _ (List.mem_append_left _ h)))))
theorem in_tb6 {w : Cond} (h : w ∈ tables_1_6) : w ∈ lw_tbl := List.mem_append_right _ (List.mem_append_right _ (List.mem_append_right _ (List.mem_append_right _ (List.mem_append_right _ (List.mem_append_right _ (List.mem_append_left _ h))))))
theorem in_tb7 {w : Cond} (h : w ∈ tables_1_7) : w ∈ lw_tbl := List.mem_append_right _ (List.mem_append_right _ (List.mem_append_right _ (List.mem_append_right _ (List.mem_append_right _ (List.mem_append_right _ (List.mem_append_right _ (List.mem_append_left _ h)))))))
theorem in_tb8 {w : Cond} (h : w ∈ tables_1_8) : w ∈ lw_tbl := List.mem_append_right _ (List.mem_append_right _ (List.mem_append_right _ (List.mem_append_right _ (List.mem_append_right _ (List.mem_append_right _ (List.mem_append_right _ (List.mem_append_right _ (h))))))))
theorem mem_gt {w : Cond} (h : w ∈ lw_tbl) (hg : goodWord w = true) : w ∈ lw_g := List.mem_filter.mpr ⟨h, hg⟩
abbrev mX11_init : MT := (yX11_init, cX11_init, 1, none)
abbrev mX3_init : MT := (yX3_init, cX3_init, 1, none)
abbrev mJ7_fill_53178 : MT := (yJ7_fill_53178, cJ7_fill_53178, 4, none)
abbrev mX6_init : MT := (yX6_init, cX6_init, 2, none)
abbrev mX9_init : MT := (yX9_init, cX9_init, 2, none)
abbrev mX8_init : MT := (yX8_init, cX8_init, 1, none)
abbrev mX7_init : MT := (yX7_init, cX7_init, 2, none)
abbrev mX10_init : MT := (yX10_init, cX10_init, 1, none)
abbrev mX1_init : MT := (yX1_init, cX1_init, 4, none)
abbrev mX2_init : MT := (yX2_init, cX2_init, 1, none)
abbrev mJx4a65c_init_da8c8 : MT := (yJx4a65c_init_da8c8, cJx4a65c_init_da8c8, 1, none)
abbrev mJxc12de_init_da8c8 : MT := (yJxc12de_init_da8c8, cJxc12de_init_da8c8, 1, none)
abbrev mJxa1e45_init_da8c8 : MT := (yJxa1e45_init_da8c8, cJxa1e45_init_da8c8, 1, none)
abbrev mJx4a65c_add_9ea2d : MT := (yJx4a65c_add_9ea2d, cJx4a65c_add_9ea2d, 2, (some .boolean))
abbrev mJx4a65c_add_72be8 : MT := (yJx4a65c_add_72be8, cJx4a65c_add_72be8, 4, none)
abbrev mJx4a65c_grow_d5877 : MT := (yJx4a65c_grow_d5877, cJx4a65c_grow_d5877, 1, (some (FieldType.array (FieldType.object "java/lang/Object"))))
abbrev mJx4a65c_grow_92f84 : MT := (yJx4a65c_grow_92f84, cJx4a65c_grow_92f84, 4, (some (FieldType.array (FieldType.object "java/lang/Object"))))
abbrev mJ8_newLength_cabcc : MT := (yJ8_newLength_cabcc, cJ8_newLength_cabcc, 4, (some .int))
abbrev mJ9_max_7cf53 : MT := (yJ9_max_7cf53, cJ9_max_7cf53, 2, (some .int))
abbrev mJ8_hugeLength_7cf53 : MT := (yJ8_hugeLength_7cf53, cJ8_hugeLength_7cf53, 3, (some .int))
abbrev mJ7_copyOf_1904c : MT := (yJ7_copyOf_1904c, cJ7_copyOf_1904c, 2, (some (FieldType.array (FieldType.object "java/lang/Object"))))
abbrev mJ7_copyOf_6403c : MT := (yJ7_copyOf_6403c, cJ7_copyOf_6403c, 4, (some (FieldType.array (FieldType.object "java/lang/Object"))))
abbrev mJ9_min_7cf53 : MT := (yJ9_min_7cf53, cJ9_min_7cf53, 2, (some .int))
abbrev mX0_init : MT := (yX0_init, cX0_init, 1, none)
abbrev mX5_init : MT := (yX5_init, cX5_init, 2, none)
abbrev mX11_sorts : MT := (yX11_sorts, cX11_sorts, 3, (some .boolean))
abbrev mX3_isSide : MT := (yX3_isSide, cX3_isSide, 2, (some .boolean))
abbrev mX1_size : MT := (yX1_size, cX1_size, 1, (some .int))
abbrev mJx4a65c_size_8abf5 : MT := (yJx4a65c_size_8abf5, cJx4a65c_size_8abf5, 1, (some .int))
abbrev mX3_resize : MT := (yX3_resize, cX3_resize, 5, none)
abbrev mX11_look : MT := (yX11_look, cX11_look, 5, (some .boolean))
abbrev mX3_isSort : MT := (yX3_isSort, cX3_isSort, 3, (some .boolean))
abbrev mX3_describe : MT := (yX3_describe, cX3_describe, 8, (some .boolean))
abbrev mX11_worth : MT := (yX11_worth, cX11_worth, 5, (some .boolean))
abbrev mX3_tell : MT := (yX3_tell, cX3_tell, 5, none)
abbrev mX11_set : MT := (yX11_set, cX11_set, 3, (some .boolean))
abbrev mX3_change : MT := (yX3_change, cX3_change, 3, (some .boolean))
abbrev mX11_classes : MT := (yX11_classes, cX11_classes, 3, (some .int))
abbrev mX6_refresh : MT := (yX6_refresh, cX6_refresh, 3, none)
abbrev mX3_version : MT := (yX3_version, cX3_version, 1, (some .int))
abbrev mX3_falls : MT := (yX3_falls, cX3_falls, 3, (some .boolean))
abbrev mX3_count : MT := (yX3_count, cX3_count, 2, (some .int))
abbrev mX3_lookOf : MT := (yX3_lookOf, cX3_lookOf, 3, (some .int))
abbrev mX6_addClass : MT := (yX6_addClass, cX6_addClass, 3, (some .boolean))
abbrev mX6_choose : MT := (yX6_choose, cX6_choose, 7, none)
abbrev mX3_setting : MT := (yX3_setting, cX3_setting, 2, (some .int))
abbrev mX3_oftenOf : MT := (yX3_oftenOf, cX3_oftenOf, 3, (some .int))
abbrev mX6_falling : MT := (yX6_falling, cX6_falling, 1, (some .boolean))
abbrev mX6_count : MT := (yX6_count, cX6_count, 1, (some .int))
abbrev mX6_inNone : MT := (yX6_inNone, cX6_inNone, 2, (some .int))
abbrev mX6_detail : MT := (yX6_detail, cX6_detail, 3, (some .int))
abbrev mX11_patience : MT := (yX11_patience, cX11_patience, 4, (some .int))
abbrev mX9_refresh : MT := (yX9_refresh, cX9_refresh, 4, none)
abbrev mX9_gatherWorths : MT := (yX9_gatherWorths, cX9_gatherWorths, 3, none)
abbrev mX3_worthTo : MT := (yX3_worthTo, cX3_worthTo, 5, (some .int))
abbrev mX9_ahead : MT := (yX9_ahead, cX9_ahead, 10, (some .int))
abbrev mX9_behind : MT := (yX9_behind, cX9_behind, 4, (some .int))
abbrev mX11_pairs : MT := (yX11_pairs, cX11_pairs, 7, (some .int))
abbrev mX11_feed : MT := (yX11_feed, cX11_feed, 6, (some .int))
abbrev mX8_hasRoom : MT := (yX8_hasRoom, cX8_hasRoom, 1, (some .boolean))
abbrev mX8_put : MT := (yX8_put, cX8_put, 3, none)
abbrev mX8_size : MT := (yX8_size, cX8_size, 1, (some .int))
abbrev mX11_end : MT := (yX11_end, cX11_end, 2, (some .boolean))
abbrev mX8_cut : MT := (yX8_cut, cX8_cut, 2, (some .boolean))
abbrev mX11_way : MT := (yX11_way, cX11_way, 3, (some .int))
abbrev mX7_forget : MT := (yX7_forget, cX7_forget, 1, none)
abbrev mX1_isWay : MT := (yX1_isWay, cX1_isWay, 2, (some .boolean))
abbrev mX7_read : MT := (yX7_read, cX7_read, 2, (some .boolean))
abbrev mX10_clear : MT := (yX10_clear, cX10_clear, 1, none)
abbrev mX8_makeTokens : MT := (yX8_makeTokens, cX8_makeTokens, 5, none)
abbrev mX8_signAt : MT := (yX8_signAt, cX8_signAt, 2, (some .int))
abbrev mX8_makeOne : MT := (yX8_makeOne, cX8_makeOne, 3, (some .int))
abbrev mX8_isLetter : MT := (yX8_isLetter, cX8_isLetter, 1, (some .boolean))
abbrev mX8_makeWord : MT := (yX8_makeWord, cX8_makeWord, 3, (some .int))
abbrev mX8_keyword : MT := (yX8_keyword, cX8_keyword, 6, (some .int))
abbrev mJ0_length_8abf5 : MT := (yJ0_length_8abf5, cJ0_length_8abf5, 1, (some .int))
abbrev mJ0_coder_7d493 : MT := (yJ0_coder_7d493, cJ0_coder_7d493, 1, (some .byte))
abbrev mJ0_charAt_5068e : MT := (yJ0_charAt_5068e, cJ0_charAt_5068e, 2, (some .char))
abbrev mJ0_isLatin1_aae02 : MT := (yJ0_isLatin1_aae02, cJ0_isLatin1_aae02, 1, (some .boolean))
abbrev mJ1_charAt_3b067 : MT := (yJ1_charAt_3b067, cJ1_charAt_3b067, 2, (some .char))
abbrev mJ0_checkIndex_df160 : MT := (yJ0_checkIndex_df160, cJ0_checkIndex_df160, 2, none)
abbrev mJ3_checkIndex_8e157 : MT := (yJ3_checkIndex_8e157, cJ3_checkIndex_8e157, 3, (some .int))
abbrev mJ2_charAt_3b067 : MT := (yJ2_charAt_3b067, cJ2_charAt_3b067, 2, (some .char))
abbrev mJ2_checkIndex_2214a : MT := (yJ2_checkIndex_2214a, cJ2_checkIndex_2214a, 2, none)
abbrev mJ2_length_9d52b : MT := (yJ2_length_9d52b, cJ2_length_9d52b, 1, (some .int))
abbrev mJ2_getChar_3b067 : MT := (yJ2_getChar_3b067, cJ2_getChar_3b067, 2, (some .char))
abbrev mX8_spells : MT := (yX8_spells, cX8_spells, 5, (some .boolean))
abbrev mX8_keep : MT := (yX8_keep, cX8_keep, 4, none)
abbrev mX8_isDigit : MT := (yX8_isDigit, cX8_isDigit, 1, (some .boolean))
abbrev mX8_makeNumber : MT := (yX8_makeNumber, cX8_makeNumber, 4, (some .int))
abbrev mJ0_indexOf_0f7a4 : MT := (yJ0_indexOf_0f7a4, cJ0_indexOf_0f7a4, 2, (some .int))
abbrev mJ0_indexOf_7cf53 : MT := (yJ0_indexOf_7cf53, cJ0_indexOf_7cf53, 3, (some .int))
abbrev mJ1_indexOf_4cfef : MT := (yJ1_indexOf_4cfef, cJ1_indexOf_4cfef, 4, (some .int))
abbrev mJ1_canEncode_9a6ad : MT := (yJ1_canEncode_9a6ad, cJ1_canEncode_9a6ad, 1, (some .boolean))
abbrev mJ1_indexOfChar_4cfef : MT := (yJ1_indexOfChar_4cfef, cJ1_indexOfChar_4cfef, 6, (some .int))
abbrev mJ2_indexOf_4cfef : MT := (yJ2_indexOf_4cfef, cJ2_indexOf_4cfef, 4, (some .int))
abbrev mJ2_indexOfChar_4cfef : MT := (yJ2_indexOfChar_4cfef, cJ2_indexOfChar_4cfef, 4, (some .int))
abbrev mJ2_checkBoundsBeginEnd_d044e : MT := (yJ2_checkBoundsBeginEnd_d044e, cJ2_checkBoundsBeginEnd_d044e, 3, none)
abbrev mJ0_checkBoundsBeginEnd_23922 : MT := (yJ0_checkBoundsBeginEnd_23922, cJ0_checkBoundsBeginEnd_23922, 3, none)
abbrev mJ3_checkFromToIndex_8c36e : MT := (yJ3_checkFromToIndex_8c36e, cJ3_checkFromToIndex_8c36e, 4, (some .int))
abbrev mJ2_indexOfCharUnsafe_4cfef : MT := (yJ2_indexOfCharUnsafe_4cfef, cJ2_indexOfCharUnsafe_4cfef, 5, (some .int))
abbrev mJ2_indexOfSupplementary_4cfef : MT := (yJ2_indexOfSupplementary_4cfef, cJ2_indexOfSupplementary_4cfef, 7, (some .int))
abbrev mJ11_isValidCodePoint_9a6ad : MT := (yJ11_isValidCodePoint_9a6ad, cJ11_isValidCodePoint_9a6ad, 2, (some .boolean))
abbrev mJ11_highSurrogate_5068e : MT := (yJ11_highSurrogate_5068e, cJ11_highSurrogate_5068e, 1, (some .char))
abbrev mJ11_lowSurrogate_5068e : MT := (yJ11_lowSurrogate_5068e, cJ11_lowSurrogate_5068e, 1, (some .char))
abbrev mX8_kind : MT := (yX8_kind, cX8_kind, 2, (some .int))
abbrev mX7_readLine : MT := (yX7_readLine, cX7_readLine, 1, none)
abbrev mX7_blame : MT := (yX7_blame, cX7_blame, 2, none)
abbrev mX10_lines : MT := (yX10_lines, cX10_lines, 1, (some .int))
abbrev mX10_open : MT := (yX10_open, cX10_open, 2, none)
abbrev mX7_step : MT := (yX7_step, cX7_step, 1, none)
abbrev mX7_readSum : MT := (yX7_readSum, cX7_readSum, 3, none)
abbrev mX7_readUnit : MT := (yX7_readUnit, cX7_readUnit, 1, none)
abbrev mX8_number : MT := (yX8_number, cX8_number, 2, (some .int))
abbrev mX10_put : MT := (yX10_put, cX10_put, 2, none)
abbrev mX7_readDivisor : MT := (yX7_readDivisor, cX7_readDivisor, 2, none)
abbrev mX10_markMiddle : MT := (yX10_markMiddle, cX10_markMiddle, 1, none)
abbrev mX7_readEither : MT := (yX7_readEither, cX7_readEither, 4, none)
abbrev mX7_readClaim : MT := (yX7_readClaim, cX7_readClaim, 4, none)
abbrev mX7_comparison : MT := (yX7_comparison, cX7_comparison, 2, (some .int))
abbrev mX10_close : MT := (yX10_close, cX10_close, 1, none)
abbrev mX7_draft : MT := (yX7_draft, cX7_draft, 1, (some (FieldType.object "NotYet$Way")))
abbrev mX1_teach : MT := (yX1_teach, cX1_teach, 3, (some .int))
abbrev mJx4a65c_get_915e3 : MT := (yJx4a65c_get_915e3, cJx4a65c_get_915e3, 2, (some (FieldType.object "java/lang/Object")))
abbrev mJ15_checkIndex_7cf53 : MT := (yJ15_checkIndex_7cf53, cJ15_checkIndex_7cf53, 2, (some .int))
abbrev mJx4a65c_elementData_915e3 : MT := (yJx4a65c_elementData_915e3, cJx4a65c_elementData_915e3, 2, (some (FieldType.object "java/lang/Object")))
abbrev mX10_copy : MT := (yX10_copy, cX10_copy, 2, none)
abbrev mX11_fault : MT := (yX11_fault, cX11_fault, 2, (some .int))
abbrev mX7_kindOfFault : MT := (yX7_kindOfFault, cX7_kindOfFault, 1, (some .int))
abbrev mX7_placeOfFault : MT := (yX7_placeOfFault, cX7_placeOfFault, 1, (some .int))
abbrev mX11_come : MT := (yX11_come, cX11_come, 4, (some .int))
abbrev mX1_admit : MT := (yX1_admit, cX1_admit, 5, (some .int))
abbrev mX4_init : MT := (yX4_init, cX4_init, 5, none)
abbrev mX11_state : MT := (yX11_state, cX11_state, 2, (some .int))
abbrev mX1_restate : MT := (yX1_restate, cX1_restate, 3, (some .int))
abbrev mX11_weeks : MT := (yX11_weeks, cX11_weeks, 3, (some .int))
abbrev mX1_tally : MT := (yX1_tally, cX1_tally, 2, (some .int))
abbrev mX1_passWeek : MT := (yX1_passWeek, cX1_passWeek, 3, none)
abbrev mX1_lookAgain : MT := (yX1_lookAgain, cX1_lookAgain, 3, none)
abbrev mX1_worthFor : MT := (yX1_worthFor, cX1_worthFor, 3, (some .int))
abbrev mX4_free : MT := (yX4_free, cX4_free, 1, none)
abbrev mX4_isSingle : MT := (yX4_isSingle, cX4_isSingle, 1, (some .boolean))
abbrev mX1_goOut : MT := (yX1_goOut, cX1_goOut, 7, none)
abbrev mX1_isThere : MT := (yX1_isThere, cX1_isThere, 2, (some .boolean))
abbrev mX1_draw : MT := (yX1_draw, cX1_draw, 2, (some .int))
abbrev mX1_meet : MT := (yX1_meet, cX1_meet, 8, none)
abbrev mX1_error : MT := (yX1_error, cX1_error, 2, (some .int))
abbrev mX1_takeOf : MT := (yX1_takeOf, cX1_takeOf, 3, (some .int))
abbrev mX1_learn : MT := (yX1_learn, cX1_learn, 2, none)
abbrev mX2_know : MT := (yX2_know, cX2_know, 3, none)
abbrev mX3_bestLook : MT := (yX3_bestLook, cX3_bestLook, 4, (some .int))
abbrev mX2_line : MT := (yX2_line, cX2_line, 6, (some .int))
abbrev mX10_begins : MT := (yX10_begins, cX10_begins, 3, (some .boolean))
abbrev mX10_middle : MT := (yX10_middle, cX10_middle, 2, (some .int))
abbrev mX10_finish : MT := (yX10_finish, cX10_finish, 2, (some .int))
abbrev mX2_run : MT := (yX2_run, cX2_run, 7, (some .int))
abbrev mX10_step : MT := (yX10_step, cX10_step, 2, (some .int))
abbrev mX2_join : MT := (yX2_join, cX2_join, 3, (some .int))
abbrev mX2_value : MT := (yX2_value, cX2_value, 3, (some .int))
abbrev mX10_start : MT := (yX10_start, cX10_start, 2, (some .int))
abbrev mX1_isTempted : MT := (yX1_isTempted, cX1_isTempted, 5, (some .boolean))
abbrev mX4_bind : MT := (yX4_bind, cX4_bind, 3, none)
abbrev mX1_countPairs : MT := (yX1_countPairs, cX1_countPairs, 4, (some .int))
abbrev mX11_one : MT := (yX11_one, cX11_one, 3, (some .int))
abbrev mX1_about : MT := (yX1_about, cX1_about, 4, (some .int))
abbrev mX1_leaveOf : MT := (yX1_leaveOf, cX1_leaveOf, 3, (some .int))
abbrev mX11_all : MT := (yX11_all, cX11_all, 4, (some .int))
abbrev mX1_together : MT := (yX1_together, cX1_together, 10, (some .int))
abbrev mX11_town : MT := (yX11_town, cX11_town, 2, (some .int))
abbrev mX1_stateNow : MT := (yX1_stateNow, cX1_stateNow, 1, (some .int))
abbrev mX11_feast : MT := (yX11_feast, cX11_feast, 2, (some .boolean))
abbrev mX0_invite : MT := (yX0_invite, cX0_invite, 2, none)
abbrev mX5_clear : MT := (yX5_clear, cX5_clear, 1, none)
abbrev mX11_likes : MT := (yX11_likes, cX11_likes, 5, (some .boolean))
abbrev mX0_isGuest : MT := (yX0_isGuest, cX0_isGuest, 2, (some .boolean))
abbrev mX0_tell : MT := (yX0_tell, cX0_tell, 5, none)
abbrev mX11_holds : MT := (yX11_holds, cX11_holds, 1, (some .int))
abbrev mX0_refresh : MT := (yX0_refresh, cX0_refresh, 1, none)
abbrev mX0_seat : MT := (yX0_seat, cX0_seat, 4, none)
abbrev mX0_keepSeats : MT := (yX0_keepSeats, cX0_keepSeats, 3, none)
abbrev mJ7_copyOf_59c91 : MT := (yJ7_copyOf_59c91, cJ7_copyOf_59c91, 3, (some (FieldType.array .int)))
abbrev mX0_isQuiet : MT := (yX0_isQuiet, cX0_isQuiet, 5, (some .boolean))
abbrev mX0_likesMore : MT := (yX0_likesMore, cX0_likesMore, 7, (some .boolean))
abbrev mX0_liked : MT := (yX0_liked, cX0_liked, 4, (some .int))
abbrev mX0_findBests : MT := (yX0_findBests, cX0_findBests, 6, none)
abbrev mX0_rankSum : MT := (yX0_rankSum, cX0_rankSum, 8, (some .int))
abbrev mX0_womanOf : MT := (yX0_womanOf, cX0_womanOf, 3, (some .int))
abbrev mX0_total : MT := (yX0_total, cX0_total, 4, (some .int))
abbrev mX0_sum : MT := (yX0_sum, cX0_sum, 3, (some .int))
abbrev mX0_findMost : MT := (yX0_findMost, cX0_findMost, 6, none)
abbrev mJ6_bitCount_0f7a4 : MT := (yJ6_bitCount_0f7a4, cJ6_bitCount_0f7a4, 1, (some .int))
abbrev mX0_firstOfMost : MT := (yX0_firstOfMost, cX0_firstOfMost, 4, (some .int))
abbrev mX0_count : MT := (yX0_count, cX0_count, 1, (some .int))
abbrev mX11_pairing : MT := (yX11_pairing, cX11_pairing, 4, (some .int))
abbrev mX0_greatest : MT := (yX0_greatest, cX0_greatest, 1, (some .int))
abbrev mX0_mostOf : MT := (yX0_mostOf, cX0_mostOf, 2, (some .int))
abbrev mX0_bestFor : MT := (yX0_bestFor, cX0_bestFor, 2, (some .int))
abbrev mX11_mended : MT := (yX11_mended, cX11_mended, 1, (some .int))
abbrev mX0_greatestThatHolds : MT := (yX0_greatestThatHolds, cX0_greatestThatHolds, 1, (some .int))
abbrev mX11_price : MT := (yX11_price, cX11_price, 3, (some .boolean))
abbrev mX5_ask : MT := (yX5_ask, cX5_ask, 3, none)
abbrev mX11_sums : MT := (yX11_sums, cX11_sums, 3, (some .int))
abbrev mX5_priceFits : MT := (yX5_priceFits, cX5_priceFits, 2, (some .boolean))
abbrev mX0_guests : MT := (yX0_guests, cX0_guests, 1, (some .int))
abbrev mX5_left : MT := (yX5_left, cX5_left, 3, (some .int))
abbrev mX5_wantedBy : MT := (yX5_wantedBy, cX5_wantedBy, 4, (some .int))
abbrev mX5_leastOf : MT := (yX5_leastOf, cX5_leastOf, 4, (some .int))
abbrev mX5_pushUp : MT := (yX5_pushUp, cX5_pushUp, 5, none)
abbrev mX12_init : MT := (yX12_init, cX12_init, 1, none)
abbrev mX12_sorts : MT := (yX12_sorts, cX12_sorts, 4, (some .boolean))
abbrev mX12_isSide : MT := (yX12_isSide, cX12_isSide, 2, (some .boolean))
abbrev mX12_isIn : MT := (yX12_isIn, cX12_isIn, 4, (some .boolean))
abbrev mX12_look : MT := (yX12_look, cX12_look, 7, (some .boolean))
abbrev mX12_isSort : MT := (yX12_isSort, cX12_isSort, 3, (some .boolean))
abbrev mX12_worth : MT := (yX12_worth, cX12_worth, 5, (some .boolean))
abbrev mX12_set : MT := (yX12_set, cX12_set, 5, (some .boolean))
abbrev mX12_classes : MT := (yX12_classes, cX12_classes, 4, (some .int))
abbrev mX12_areFalling : MT := (yX12_areFalling, cX12_areFalling, 3, (some .boolean))
abbrev mX12_findsClasses : MT := (yX12_findsClasses, cX12_findsClasses, 7, none)
abbrev mX12_barFrom : MT := (yX12_barFrom, cX12_barFrom, 7, (some .int))
abbrev mX12_patience : MT := (yX12_patience, cX12_patience, 4, (some .int))
abbrev mX12_findsWaits : MT := (yX12_findsWaits, cX12_findsWaits, 4, none)
abbrev mX12_waitAhead : MT := (yX12_waitAhead, cX12_waitAhead, 10, (some .int))
abbrev mX12_takes : MT := (yX12_takes, cX12_takes, 5, (some .boolean))
abbrev mX12_worthTo : MT := (yX12_worthTo, cX12_worthTo, 5, (some .int))
abbrev mX12_waitOf : MT := (yX12_waitOf, cX12_waitOf, 4, (some .int))
abbrev mX12_pairs : MT := (yX12_pairs, cX12_pairs, 7, (some .int))
abbrev mX12_feed : MT := (yX12_feed, cX12_feed, 6, (some .int))
abbrev mX12_puts : MT := (yX12_puts, cX12_puts, 3, none)
abbrev mX12_end : MT := (yX12_end, cX12_end, 2, (some .boolean))
abbrev mX12_way : MT := (yX12_way, cX12_way, 5, (some .int))
abbrev mX12_readWay : MT := (yX12_readWay, cX12_readWay, 2, (some .int))
abbrev mX12_reads : MT := (yX12_reads, cX12_reads, 2, none)
abbrev mX12_raw : MT := (yX12_raw, cX12_raw, 2, (some .int))
abbrev mX12_isLetter : MT := (yX12_isLetter, cX12_isLetter, 2, (some .boolean))
abbrev mX12_wordAt : MT := (yX12_wordAt, cX12_wordAt, 6, (some .int))
abbrev mX12_isDigit : MT := (yX12_isDigit, cX12_isDigit, 2, (some .boolean))
abbrev mX12_isMarkSign : MT := (yX12_isMarkSign, cX12_isMarkSign, 2, (some .boolean))
abbrev mX12_isWord : MT := (yX12_isWord, cX12_isWord, 2, (some .boolean))
abbrev mX12_fails : MT := (yX12_fails, cX12_fails, 2, (some .int))
abbrev mX12_readLine : MT := (yX12_readLine, cX12_readLine, 2, (some .int))
abbrev mX12_readSum : MT := (yX12_readSum, cX12_readSum, 2, (some .int))
abbrev mX12_readProduct : MT := (yX12_readProduct, cX12_readProduct, 2, (some .int))
abbrev mX12_readUnit : MT := (yX12_readUnit, cX12_readUnit, 2, (some .int))
abbrev mX12_emits : MT := (yX12_emits, cX12_emits, 3, none)
abbrev mX12_isSign : MT := (yX12_isSign, cX12_isSign, 2, (some .boolean))
abbrev mX12_readAny : MT := (yX12_readAny, cX12_readAny, 4, (some .int))
abbrev mX12_waitsFor : MT := (yX12_waitsFor, cX12_waitsFor, 2, none)
abbrev mX12_readCompared : MT := (yX12_readCompared, cX12_readCompared, 2, (some .int))
abbrev mX12_settles : MT := (yX12_settles, cX12_settles, 2, none)
abbrev mX12_fault : MT := (yX12_fault, cX12_fault, 2, (some .int))
abbrev mX12_come : MT := (yX12_come, cX12_come, 4, (some .int))
abbrev mX12_state : MT := (yX12_state, cX12_state, 3, (some .int))
abbrev mX12_weeks : MT := (yX12_weeks, cX12_weeks, 3, (some .int))
abbrev mX12_goesBy : MT := (yX12_goesBy, cX12_goesBy, 2, none)
abbrev mX12_looksAgain : MT := (yX12_looksAgain, cX12_looksAgain, 3, none)
abbrev mX12_worthFor : MT := (yX12_worthFor, cX12_worthFor, 3, (some .int))
abbrev mX12_frees : MT := (yX12_frees, cX12_frees, 2, none)
abbrev mX12_meeting : MT := (yX12_meeting, cX12_meeting, 9, none)
abbrev mX12_meets : MT := (yX12_meets, cX12_meets, 4, (some .int))
abbrev mX12_canMeet : MT := (yX12_canMeet, cX12_canMeet, 2, (some .boolean))
abbrev mX12_draw : MT := (yX12_draw, cX12_draw, 2, (some .int))
abbrev mX12_seenBy : MT := (yX12_seenBy, cX12_seenBy, 3, (some .int))
abbrev mX12_saysOf : MT := (yX12_saysOf, cX12_saysOf, 5, (some .int))
abbrev mX12_asksOf : MT := (yX12_asksOf, cX12_asksOf, 5, none)
abbrev mX12_comesTo : MT := (yX12_comesTo, cX12_comesTo, 6, (some .int))
abbrev mX12_twoOf : MT := (yX12_twoOf, cX12_twoOf, 4, (some .int))
abbrev mX12_becomePair : MT := (yX12_becomePair, cX12_becomePair, 5, none)
abbrev mX12_pairMany : MT := (yX12_pairMany, cX12_pairMany, 3, (some .int))
abbrev mX12_one : MT := (yX12_one, cX12_one, 4, (some .int))
abbrev mX12_isOne : MT := (yX12_isOne, cX12_isOne, 2, (some .boolean))
abbrev mX12_all : MT := (yX12_all, cX12_all, 6, (some .int))
abbrev mX12_town : MT := (yX12_town, cX12_town, 2, (some .int))
abbrev mX12_feast : MT := (yX12_feast, cX12_feast, 3, (some .boolean))
abbrev mX12_likes : MT := (yX12_likes, cX12_likes, 5, (some .boolean))
abbrev mX12_isGuest : MT := (yX12_isGuest, cX12_isGuest, 2, (some .boolean))
abbrev mX12_holds : MT := (yX12_holds, cX12_holds, 1, (some .int))
abbrev mX12_findsPairings : MT := (yX12_findsPairings, cX12_findsPairings, 2, none)
abbrev mX12_takesRow : MT := (yX12_takesRow, cX12_takesRow, 3, none)
abbrev mX12_sumOfRow : MT := (yX12_sumOfRow, cX12_sumOfRow, 3, (some .int))
abbrev mX12_bothOf : MT := (yX12_bothOf, cX12_bothOf, 3, (some .int))
abbrev mX12_isHeld : MT := (yX12_isHeld, cX12_isHeld, 3, (some .boolean))
abbrev mX12_isMore : MT := (yX12_isMore, cX12_isMore, 7, (some .boolean))
abbrev mX12_nextRow : MT := (yX12_nextRow, cX12_nextRow, 6, (some .boolean))
abbrev mX12_findsPrices : MT := (yX12_findsPrices, cX12_findsPrices, 6, none)
abbrev mX12_pairing : MT := (yX12_pairing, cX12_pairing, 6, (some .int))
abbrev mX12_bestOf : MT := (yX12_bestOf, cX12_bestOf, 4, (some .int))
abbrev mX12_isBestFor : MT := (yX12_isBestFor, cX12_isBestFor, 7, (some .boolean))
abbrev mX12_womanAt : MT := (yX12_womanAt, cX12_womanAt, 3, (some .int))
abbrev mX12_manAt : MT := (yX12_manAt, cX12_manAt, 4, (some .int))
abbrev mX12_mended : MT := (yX12_mended, cX12_mended, 1, (some .int))
abbrev mX12_price : MT := (yX12_price, cX12_price, 3, (some .boolean))
abbrev mX12_sums : MT := (yX12_sums, cX12_sums, 5, (some .int))
abbrev mX12_wanted : MT := (yX12_wanted, cX12_wanted, 4, (some .int))
set_option maxRecDepth 20000 in
theorem mfX11_init : MFi mX11_init 0 := ⟨⟨mem_g 106 (by decide +kernel) rfl, mem_gt (in_tb1 (List.mem_of_getElem? (i := 32) (by rfl))) rfl, ⟨by decide +kernel, by decide +kernel, by decide +kernel⟩, by decide⟩, rfl, mem_g 136 (by decide +kernel) rfl, rfl⟩
set_option maxRecDepth 20000 in
theorem mfX3_init : MFi mX3_init 0 := ⟨⟨mem_g 107 (by decide +kernel) rfl, mem_gt (in_tb1 (List.mem_of_getElem? (i := 40) (by rfl))) rfl, ⟨by decide +kernel, by decide +kernel, by decide +kernel⟩, by decide⟩, rfl, mem_g 144 (by decide +kernel) rfl, rfl⟩
set_option maxRecDepth 20000 in
theorem mfJ7_fill_53178 : MFs mJ7_fill_53178 2 := ⟨⟨mem_g 108 (by decide +kernel) rfl, mem_gt (in_tb1 (List.mem_of_getElem? (i := 44) (by rfl))) rfl, ⟨by decide +kernel, by decide +kernel, by decide +kernel⟩, by decide⟩, mem_g 148 (by decide +kernel) rfl⟩
set_option maxRecDepth 20000 in
theorem mfX6_init : MFi mX6_init 1 := ⟨⟨mem_g 109 (by decide +kernel) rfl, mem_gt (in_tb1 (List.mem_of_getElem? (i := 69) (by rfl))) rfl, ⟨by decide +kernel, by decide +kernel, by decide +kernel⟩, by decide⟩, rfl, mem_g 173 (by decide +kernel) rfl, rfl⟩
set_option maxRecDepth 20000 in
theorem mfX9_init : MFi mX9_init 1 := ⟨⟨mem_g 110 (by decide +kernel) rfl, mem_gt (in_tb1 (List.mem_of_getElem? (i := 103) (by rfl))) rfl, ⟨by decide +kernel, by decide +kernel, by decide +kernel⟩, by decide⟩, rfl, mem_g 207 (by decide +kernel) rfl, rfl⟩
set_option maxRecDepth 20000 in
theorem mfX8_init : MFi mX8_init 0 := ⟨⟨mem_g 111 (by decide +kernel) rfl, mem_gt (in_tb1 (List.mem_of_getElem? (i := 122) (by rfl))) rfl, ⟨by decide +kernel, by decide +kernel, by decide +kernel⟩, by decide⟩, rfl, mem_g 226 (by decide +kernel) rfl, rfl⟩
set_option maxRecDepth 20000 in
theorem mfX7_init : MFi mX7_init 1 := ⟨⟨mem_g 112 (by decide +kernel) rfl, mem_gt (in_tb1 (List.mem_of_getElem? (i := 152) (by rfl))) rfl, ⟨by decide +kernel, by decide +kernel, by decide +kernel⟩, by decide⟩, rfl, mem_g 256 (by decide +kernel) rfl, rfl⟩
set_option maxRecDepth 20000 in
theorem mfX10_init : MFi mX10_init 0 := ⟨⟨mem_g 113 (by decide +kernel) rfl, mem_gt (in_tb1 (List.mem_of_getElem? (i := 158) (by rfl))) rfl, ⟨by decide +kernel, by decide +kernel, by decide +kernel⟩, by decide⟩, rfl, mem_g 262 (by decide +kernel) rfl, rfl⟩
set_option maxRecDepth 20000 in
theorem mfX1_init : MFi mX1_init 2 := ⟨⟨mem_g 114 (by decide +kernel) rfl, mem_gt (in_tb1 (List.mem_of_getElem? (i := 205) (by rfl))) rfl, ⟨by decide +kernel, by decide +kernel, by decide +kernel⟩, by decide⟩, rfl, mem_g 309 (by decide +kernel) rfl, rfl⟩
set_option maxRecDepth 20000 in
theorem mfX2_init : MFi mX2_init 0 := ⟨⟨mem_g 115 (by decide +kernel) rfl, mem_gt (in_tb1 (List.mem_of_getElem? (i := 211) (by rfl))) rfl, ⟨by decide +kernel, by decide +kernel, by decide +kernel⟩, by decide⟩, rfl, mem_g 315 (by decide +kernel) rfl, rfl⟩
set_option maxRecDepth 20000 in
theorem mfJx4a65c_init_da8c8 : MFi mJx4a65c_init_da8c8 0 := ⟨⟨mem_g 118 (by decide +kernel) rfl, mem_gt (in_tb1 (List.mem_of_getElem? (i := 224) (by rfl))) rfl, ⟨by decide +kernel, by decide +kernel, by decide +kernel⟩, by decide⟩, rfl, mem_g 328 (by decide +kernel) rfl, rfl⟩
set_option maxRecDepth 20000 in
theorem mfJxc12de_init_da8c8 : MFi mJxc12de_init_da8c8 0 := ⟨⟨mem_g 117 (by decide +kernel) rfl, mem_gt (in_tb1 (List.mem_of_getElem? (i := 227) (by rfl))) rfl, ⟨by decide +kernel, by decide +kernel, by decide +kernel⟩, by decide⟩, rfl, mem_g 331 (by decide +kernel) rfl, rfl⟩
set_option maxRecDepth 20000 in
theorem mfJxa1e45_init_da8c8 : MFi mJxa1e45_init_da8c8 0 := ⟨⟨mem_g 116 (by decide +kernel) rfl, mem_gt (in_tb1 (List.mem_of_getElem? (i := 230) (by rfl))) rfl, ⟨by decide +kernel, by decide +kernel, by decide +kernel⟩, by decide⟩, rfl, mem_g 334 (by decide +kernel) rfl, rfl⟩
set_option maxRecDepth 20000 in
theorem mfJx4a65c_add_9ea2d : MFv mJx4a65c_add_9ea2d 1 := ⟨⟨mem_g 118 (by decide +kernel) rfl, mem_gt (in_tb2 (List.mem_of_getElem? (i := 11) (by rfl))) rfl, ⟨by decide +kernel, by decide +kernel, by decide +kernel⟩, by decide⟩, mem_g 354 (by decide +kernel) rfl, mem_g 355 (by decide +kernel) rfl⟩
set_option maxRecDepth 20000 in
theorem mfJx4a65c_add_72be8 : MFv mJx4a65c_add_72be8 3 := ⟨⟨mem_g 118 (by decide +kernel) rfl, mem_gt (in_tb2 (List.mem_of_getElem? (i := 15) (by rfl))) rfl, ⟨by decide +kernel, by decide +kernel, by decide +kernel⟩, by decide⟩, mem_g 359 (by decide +kernel) rfl, mem_g 0 (by decide +kernel) rfl⟩
set_option maxRecDepth 20000 in
theorem mfJx4a65c_grow_d5877 : MFv mJx4a65c_grow_d5877 0 := ⟨⟨mem_g 118 (by decide +kernel) rfl, mem_gt (in_tb2 (List.mem_of_getElem? (i := 19) (by rfl))) rfl, ⟨by decide +kernel, by decide +kernel, by decide +kernel⟩, by decide⟩, mem_g 363 (by decide +kernel) rfl, mem_g 1 (by decide +kernel) rfl⟩
set_option maxRecDepth 20000 in
theorem mfJx4a65c_grow_92f84 : MFv mJx4a65c_grow_92f84 1 := ⟨⟨mem_g 118 (by decide +kernel) rfl, mem_gt (in_tb2 (List.mem_of_getElem? (i := 23) (by rfl))) rfl, ⟨by decide +kernel, by decide +kernel, by decide +kernel⟩, by decide⟩, mem_g 367 (by decide +kernel) rfl, mem_g 2 (by decide +kernel) rfl⟩
set_option maxRecDepth 20000 in
theorem mfJ8_newLength_cabcc : MFs mJ8_newLength_cabcc 3 := ⟨⟨mem_g 119 (by decide +kernel) rfl, mem_gt (in_tb2 (List.mem_of_getElem? (i := 26) (by rfl))) rfl, ⟨by decide +kernel, by decide +kernel, by decide +kernel⟩, by decide⟩, mem_g 370 (by decide +kernel) rfl⟩
set_option maxRecDepth 20000 in
theorem mfJ9_max_7cf53 : MFs mJ9_max_7cf53 2 := ⟨⟨mem_g 120 (by decide +kernel) rfl, mem_gt (in_tb2 (List.mem_of_getElem? (i := 29) (by rfl))) rfl, ⟨by decide +kernel, by decide +kernel, by decide +kernel⟩, by decide⟩, mem_g 373 (by decide +kernel) rfl⟩
set_option maxRecDepth 20000 in
theorem mfJ8_hugeLength_7cf53 : MFs mJ8_hugeLength_7cf53 2 := ⟨⟨mem_g 119 (by decide +kernel) rfl, mem_gt (in_tb2 (List.mem_of_getElem? (i := 33) (by rfl))) rfl, ⟨by decide +kernel, by decide +kernel, by decide +kernel⟩, by decide⟩, mem_g 377 (by decide +kernel) rfl⟩
set_option maxRecDepth 20000 in
theorem mfJ7_copyOf_1904c : MFs mJ7_copyOf_1904c 2 := ⟨⟨mem_g 108 (by decide +kernel) rfl, mem_gt (in_tb2 (List.mem_of_getElem? (i := 36) (by rfl))) rfl, ⟨by decide +kernel, by decide +kernel, by decide +kernel⟩, by decide⟩, mem_g 380 (by decide +kernel) rfl⟩
set_option maxRecDepth 20000 in
theorem mfJ7_copyOf_6403c : MFs mJ7_copyOf_6403c 3 := ⟨⟨mem_g 108 (by decide +kernel) rfl, mem_gt (in_tb2 (List.mem_of_getElem? (i := 57) (by rfl))) rfl, ⟨by decide +kernel, by decide +kernel, by decide +kernel⟩, by decide⟩, mem_g 401 (by decide +kernel) rfl⟩
set_option maxRecDepth 20000 in
theorem mfJ9_min_7cf53 : MFs mJ9_min_7cf53 2 := ⟨⟨mem_g 120 (by decide +kernel) rfl, mem_gt (in_tb2 (List.mem_of_getElem? (i := 63) (by rfl))) rfl, ⟨by decide +kernel, by decide +kernel, by decide +kernel⟩, by decide⟩, mem_g 407 (by decide +kernel) rfl⟩
set_option maxRecDepth 20000 in
theorem mfX0_init : MFi mX0_init 0 := ⟨⟨mem_g 122 (by decide +kernel) rfl, mem_gt (in_tb2 (List.mem_of_getElem? (i := 95) (by rfl))) rfl, ⟨by decide +kernel, by decide +kernel, by decide +kernel⟩, by decide⟩, rfl, mem_g 439 (by decide +kernel) rfl, rfl⟩
set_option maxRecDepth 20000 in
theorem mfX5_init : MFi mX5_init 1 := ⟨⟨mem_g 123 (by decide +kernel) rfl, mem_gt (in_tb2 (List.mem_of_getElem? (i := 135) (by rfl))) rfl, ⟨by decide +kernel, by decide +kernel, by decide +kernel⟩, by decide⟩, rfl, mem_g 479 (by decide +kernel) rfl, rfl⟩
set_option maxRecDepth 20000 in
theorem mfX11_sorts : MFv mX11_sorts 2 := ⟨⟨mem_g 106 (by decide +kernel) rfl, mem_gt (in_tb2 (List.mem_of_getElem? (i := 175) (by rfl))) rfl, ⟨by decide +kernel, by decide +kernel, by decide +kernel⟩, by decide⟩, mem_g 518 (by decide +kernel) rfl, mem_g 519 (by decide +kernel) rfl⟩
set_option maxRecDepth 20000 in
theorem mfX3_isSide : MFv mX3_isSide 1 := ⟨⟨mem_g 107 (by decide +kernel) rfl, mem_gt (in_tb2 (List.mem_of_getElem? (i := 179) (by rfl))) rfl, ⟨by decide +kernel, by decide +kernel, by decide +kernel⟩, by decide⟩, mem_g 522 (by decide +kernel) rfl, mem_g 523 (by decide +kernel) rfl⟩
set_option maxRecDepth 20000 in
theorem mfX1_size : MFv mX1_size 0 := ⟨⟨mem_g 114 (by decide +kernel) rfl, mem_gt (in_tb2 (List.mem_of_getElem? (i := 183) (by rfl))) rfl, ⟨by decide +kernel, by decide +kernel, by decide +kernel⟩, by decide⟩, mem_g 526 (by decide +kernel) rfl, mem_g 527 (by decide +kernel) rfl⟩
set_option maxRecDepth 20000 in
theorem mfJx4a65c_size_8abf5 : MFv mJx4a65c_size_8abf5 0 := ⟨⟨mem_g 118 (by decide +kernel) rfl, mem_gt (in_tb2 (List.mem_of_getElem? (i := 187) (by rfl))) rfl, ⟨by decide +kernel, by decide +kernel, by decide +kernel⟩, by decide⟩, mem_g 530 (by decide +kernel) rfl, mem_g 531 (by decide +kernel) rfl⟩
set_option maxRecDepth 20000 in
theorem mfX3_resize : MFv mX3_resize 2 := ⟨⟨mem_g 107 (by decide +kernel) rfl, mem_gt (in_tb2 (List.mem_of_getElem? (i := 191) (by rfl))) rfl, ⟨by decide +kernel, by decide +kernel, by decide +kernel⟩, by decide⟩, mem_g 534 (by decide +kernel) rfl, mem_g 535 (by decide +kernel) rfl⟩
set_option maxRecDepth 20000 in
theorem mfX11_look : MFv mX11_look 4 := ⟨⟨mem_g 106 (by decide +kernel) rfl, mem_gt (in_tb2 (List.mem_of_getElem? (i := 196) (by rfl))) rfl, ⟨by decide +kernel, by decide +kernel, by decide +kernel⟩, by decide⟩, mem_g 539 (by decide +kernel) rfl, mem_g 540 (by decide +kernel) rfl⟩
set_option maxRecDepth 20000 in
theorem mfX3_isSort : MFv mX3_isSort 2 := ⟨⟨mem_g 107 (by decide +kernel) rfl, mem_gt (in_tb2 (List.mem_of_getElem? (i := 200) (by rfl))) rfl, ⟨by decide +kernel, by decide +kernel, by decide +kernel⟩, by decide⟩, mem_g 543 (by decide +kernel) rfl, mem_g 544 (by decide +kernel) rfl⟩
set_option maxRecDepth 20000 in
theorem mfX3_describe : MFv mX3_describe 4 := ⟨⟨mem_g 107 (by decide +kernel) rfl, mem_gt (in_tb2 (List.mem_of_getElem? (i := 204) (by rfl))) rfl, ⟨by decide +kernel, by decide +kernel, by decide +kernel⟩, by decide⟩, mem_g 547 (by decide +kernel) rfl, mem_g 548 (by decide +kernel) rfl⟩
set_option maxRecDepth 20000 in
theorem mfX11_worth : MFv mX11_worth 4 := ⟨⟨mem_g 106 (by decide +kernel) rfl, mem_gt (in_tb2 (List.mem_of_getElem? (i := 209) (by rfl))) rfl, ⟨by decide +kernel, by decide +kernel, by decide +kernel⟩, by decide⟩, mem_g 552 (by decide +kernel) rfl, mem_g 553 (by decide +kernel) rfl⟩
set_option maxRecDepth 20000 in
theorem mfX3_tell : MFv mX3_tell 4 := ⟨⟨mem_g 107 (by decide +kernel) rfl, mem_gt (in_tb2 (List.mem_of_getElem? (i := 213) (by rfl))) rfl, ⟨by decide +kernel, by decide +kernel, by decide +kernel⟩, by decide⟩, mem_g 556 (by decide +kernel) rfl, mem_g 557 (by decide +kernel) rfl⟩
set_option maxRecDepth 20000 in
theorem mfX11_set : MFv mX11_set 2 := ⟨⟨mem_g 106 (by decide +kernel) rfl, mem_gt (in_tb2 (List.mem_of_getElem? (i := 217) (by rfl))) rfl, ⟨by decide +kernel, by decide +kernel, by decide +kernel⟩, by decide⟩, mem_g 560 (by decide +kernel) rfl, mem_g 561 (by decide +kernel) rfl⟩
set_option maxRecDepth 20000 in
theorem mfX3_change : MFv mX3_change 2 := ⟨⟨mem_g 107 (by decide +kernel) rfl, mem_gt (in_tb2 (List.mem_of_getElem? (i := 221) (by rfl))) rfl, ⟨by decide +kernel, by decide +kernel, by decide +kernel⟩, by decide⟩, mem_g 564 (by decide +kernel) rfl, mem_g 565 (by decide +kernel) rfl⟩
set_option maxRecDepth 20000 in
theorem mfX11_classes : MFv mX11_classes 2 := ⟨⟨mem_g 106 (by decide +kernel) rfl, mem_gt (in_tb2 (List.mem_of_getElem? (i := 229) (by rfl))) rfl, ⟨by decide +kernel, by decide +kernel, by decide +kernel⟩, by decide⟩, mem_g 572 (by decide +kernel) rfl, mem_g 573 (by decide +kernel) rfl⟩
set_option maxRecDepth 20000 in
theorem mfX6_refresh : MFv mX6_refresh 0 := ⟨⟨mem_g 109 (by decide +kernel) rfl, mem_gt (in_tb2 (List.mem_of_getElem? (i := 234) (by rfl))) rfl, ⟨by decide +kernel, by decide +kernel, by decide +kernel⟩, by decide⟩, mem_g 577 (by decide +kernel) rfl, mem_g 578 (by decide +kernel) rfl⟩
set_option maxRecDepth 20000 in
theorem mfX3_version : MFv mX3_version 0 := ⟨⟨mem_g 107 (by decide +kernel) rfl, mem_gt (in_tb2 (List.mem_of_getElem? (i := 238) (by rfl))) rfl, ⟨by decide +kernel, by decide +kernel, by decide +kernel⟩, by decide⟩, mem_g 581 (by decide +kernel) rfl, mem_g 582 (by decide +kernel) rfl⟩
set_option maxRecDepth 20000 in
theorem mfX3_falls : MFv mX3_falls 1 := ⟨⟨mem_g 107 (by decide +kernel) rfl, mem_gt (in_tb3 (List.mem_of_getElem? (i := 2) (by rfl))) rfl, ⟨by decide +kernel, by decide +kernel, by decide +kernel⟩, by decide⟩, mem_g 585 (by decide +kernel) rfl, mem_g 586 (by decide +kernel) rfl⟩
set_option maxRecDepth 20000 in
theorem mfX3_count : MFv mX3_count 1 := ⟨⟨mem_g 107 (by decide +kernel) rfl, mem_gt (in_tb3 (List.mem_of_getElem? (i := 6) (by rfl))) rfl, ⟨by decide +kernel, by decide +kernel, by decide +kernel⟩, by decide⟩, mem_g 589 (by decide +kernel) rfl, mem_g 590 (by decide +kernel) rfl⟩
set_option maxRecDepth 20000 in
theorem mfX3_lookOf : MFv mX3_lookOf 2 := ⟨⟨mem_g 107 (by decide +kernel) rfl, mem_gt (in_tb3 (List.mem_of_getElem? (i := 10) (by rfl))) rfl, ⟨by decide +kernel, by decide +kernel, by decide +kernel⟩, by decide⟩, mem_g 593 (by decide +kernel) rfl, mem_g 594 (by decide +kernel) rfl⟩
set_option maxRecDepth 20000 in
theorem mfX6_addClass : MFv mX6_addClass 0 := ⟨⟨mem_g 109 (by decide +kernel) rfl, mem_gt (in_tb3 (List.mem_of_getElem? (i := 14) (by rfl))) rfl, ⟨by decide +kernel, by decide +kernel, by decide +kernel⟩, by decide⟩, mem_g 598 (by decide +kernel) rfl, mem_g 3 (by decide +kernel) rfl⟩
set_option maxRecDepth 20000 in
theorem mfX6_choose : MFv mX6_choose 2 := ⟨⟨mem_g 109 (by decide +kernel) rfl, mem_gt (in_tb3 (List.mem_of_getElem? (i := 19) (by rfl))) rfl, ⟨by decide +kernel, by decide +kernel, by decide +kernel⟩, by decide⟩, mem_g 603 (by decide +kernel) rfl, mem_g 4 (by decide +kernel) rfl⟩
set_option maxRecDepth 20000 in
theorem mfX3_setting : MFv mX3_setting 1 := ⟨⟨mem_g 107 (by decide +kernel) rfl, mem_gt (in_tb3 (List.mem_of_getElem? (i := 23) (by rfl))) rfl, ⟨by decide +kernel, by decide +kernel, by decide +kernel⟩, by decide⟩, mem_g 606 (by decide +kernel) rfl, mem_g 607 (by decide +kernel) rfl⟩
set_option maxRecDepth 20000 in
theorem mfX3_oftenOf : MFv mX3_oftenOf 2 := ⟨⟨mem_g 107 (by decide +kernel) rfl, mem_gt (in_tb3 (List.mem_of_getElem? (i := 27) (by rfl))) rfl, ⟨by decide +kernel, by decide +kernel, by decide +kernel⟩, by decide⟩, mem_g 610 (by decide +kernel) rfl, mem_g 611 (by decide +kernel) rfl⟩
set_option maxRecDepth 20000 in
theorem mfX6_falling : MFv mX6_falling 0 := ⟨⟨mem_g 109 (by decide +kernel) rfl, mem_gt (in_tb3 (List.mem_of_getElem? (i := 32) (by rfl))) rfl, ⟨by decide +kernel, by decide +kernel, by decide +kernel⟩, by decide⟩, mem_g 615 (by decide +kernel) rfl, mem_g 616 (by decide +kernel) rfl⟩
set_option maxRecDepth 20000 in
theorem mfX6_count : MFv mX6_count 0 := ⟨⟨mem_g 109 (by decide +kernel) rfl, mem_gt (in_tb3 (List.mem_of_getElem? (i := 36) (by rfl))) rfl, ⟨by decide +kernel, by decide +kernel, by decide +kernel⟩, by decide⟩, mem_g 619 (by decide +kernel) rfl, mem_g 620 (by decide +kernel) rfl⟩
set_option maxRecDepth 20000 in
theorem mfX6_inNone : MFv mX6_inNone 1 := ⟨⟨mem_g 109 (by decide +kernel) rfl, mem_gt (in_tb3 (List.mem_of_getElem? (i := 40) (by rfl))) rfl, ⟨by decide +kernel, by decide +kernel, by decide +kernel⟩, by decide⟩, mem_g 623 (by decide +kernel) rfl, mem_g 624 (by decide +kernel) rfl⟩
set_option maxRecDepth 20000 in
theorem mfX6_detail : MFv mX6_detail 2 := ⟨⟨mem_g 109 (by decide +kernel) rfl, mem_gt (in_tb3 (List.mem_of_getElem? (i := 45) (by rfl))) rfl, ⟨by decide +kernel, by decide +kernel, by decide +kernel⟩, by decide⟩, mem_g 628 (by decide +kernel) rfl, mem_g 629 (by decide +kernel) rfl⟩
set_option maxRecDepth 20000 in
theorem mfX11_patience : MFv mX11_patience 3 := ⟨⟨mem_g 106 (by decide +kernel) rfl, mem_gt (in_tb3 (List.mem_of_getElem? (i := 50) (by rfl))) rfl, ⟨by decide +kernel, by decide +kernel, by decide +kernel⟩, by decide⟩, mem_g 633 (by decide +kernel) rfl, mem_g 634 (by decide +kernel) rfl⟩
set_option maxRecDepth 20000 in
theorem mfX9_refresh : MFv mX9_refresh 0 := ⟨⟨mem_g 110 (by decide +kernel) rfl, mem_gt (in_tb3 (List.mem_of_getElem? (i := 55) (by rfl))) rfl, ⟨by decide +kernel, by decide +kernel, by decide +kernel⟩, by decide⟩, mem_g 638 (by decide +kernel) rfl, mem_g 639 (by decide +kernel) rfl⟩
set_option maxRecDepth 20000 in
theorem mfX9_gatherWorths : MFv mX9_gatherWorths 0 := ⟨⟨mem_g 110 (by decide +kernel) rfl, mem_gt (in_tb3 (List.mem_of_getElem? (i := 60) (by rfl))) rfl, ⟨by decide +kernel, by decide +kernel, by decide +kernel⟩, by decide⟩, mem_g 644 (by decide +kernel) rfl, mem_g 5 (by decide +kernel) rfl⟩
set_option maxRecDepth 20000 in
theorem mfX3_worthTo : MFv mX3_worthTo 3 := ⟨⟨mem_g 107 (by decide +kernel) rfl, mem_gt (in_tb3 (List.mem_of_getElem? (i := 64) (by rfl))) rfl, ⟨by decide +kernel, by decide +kernel, by decide +kernel⟩, by decide⟩, mem_g 647 (by decide +kernel) rfl, mem_g 648 (by decide +kernel) rfl⟩
set_option maxRecDepth 20000 in
theorem mfX9_ahead : MFv mX9_ahead 3 := ⟨⟨mem_g 110 (by decide +kernel) rfl, mem_gt (in_tb3 (List.mem_of_getElem? (i := 70) (by rfl))) rfl, ⟨by decide +kernel, by decide +kernel, by decide +kernel⟩, by decide⟩, mem_g 654 (by decide +kernel) rfl, mem_g 6 (by decide +kernel) rfl⟩
set_option maxRecDepth 20000 in
theorem mfX9_behind : MFv mX9_behind 3 := ⟨⟨mem_g 110 (by decide +kernel) rfl, mem_gt (in_tb3 (List.mem_of_getElem? (i := 78) (by rfl))) rfl, ⟨by decide +kernel, by decide +kernel, by decide +kernel⟩, by decide⟩, mem_g 661 (by decide +kernel) rfl, mem_g 662 (by decide +kernel) rfl⟩
set_option maxRecDepth 20000 in
theorem mfX11_pairs : MFv mX11_pairs 4 := ⟨⟨mem_g 106 (by decide +kernel) rfl, mem_gt (in_tb3 (List.mem_of_getElem? (i := 82) (by rfl))) rfl, ⟨by decide +kernel, by decide +kernel, by decide +kernel⟩, by decide⟩, mem_g 665 (by decide +kernel) rfl, mem_g 666 (by decide +kernel) rfl⟩
set_option maxRecDepth 20000 in
theorem mfX11_feed : MFv mX11_feed 5 := ⟨⟨mem_g 106 (by decide +kernel) rfl, mem_gt (in_tb3 (List.mem_of_getElem? (i := 87) (by rfl))) rfl, ⟨by decide +kernel, by decide +kernel, by decide +kernel⟩, by decide⟩, mem_g 670 (by decide +kernel) rfl, mem_g 671 (by decide +kernel) rfl⟩
set_option maxRecDepth 20000 in
theorem mfX8_hasRoom : MFv mX8_hasRoom 0 := ⟨⟨mem_g 111 (by decide +kernel) rfl, mem_gt (in_tb3 (List.mem_of_getElem? (i := 91) (by rfl))) rfl, ⟨by decide +kernel, by decide +kernel, by decide +kernel⟩, by decide⟩, mem_g 674 (by decide +kernel) rfl, mem_g 675 (by decide +kernel) rfl⟩
set_option maxRecDepth 20000 in
theorem mfX8_put : MFv mX8_put 1 := ⟨⟨mem_g 111 (by decide +kernel) rfl, mem_gt (in_tb3 (List.mem_of_getElem? (i := 95) (by rfl))) rfl, ⟨by decide +kernel, by decide +kernel, by decide +kernel⟩, by decide⟩, mem_g 678 (by decide +kernel) rfl, mem_g 679 (by decide +kernel) rfl⟩
set_option maxRecDepth 20000 in
theorem mfX8_size : MFv mX8_size 0 := ⟨⟨mem_g 111 (by decide +kernel) rfl, mem_gt (in_tb3 (List.mem_of_getElem? (i := 99) (by rfl))) rfl, ⟨by decide +kernel, by decide +kernel, by decide +kernel⟩, by decide⟩, mem_g 682 (by decide +kernel) rfl, mem_g 683 (by decide +kernel) rfl⟩
set_option maxRecDepth 20000 in
theorem mfX11_end : MFv mX11_end 1 := ⟨⟨mem_g 106 (by decide +kernel) rfl, mem_gt (in_tb3 (List.mem_of_getElem? (i := 103) (by rfl))) rfl, ⟨by decide +kernel, by decide +kernel, by decide +kernel⟩, by decide⟩, mem_g 686 (by decide +kernel) rfl, mem_g 687 (by decide +kernel) rfl⟩
set_option maxRecDepth 20000 in
theorem mfX8_cut : MFv mX8_cut 1 := ⟨⟨mem_g 111 (by decide +kernel) rfl, mem_gt (in_tb3 (List.mem_of_getElem? (i := 107) (by rfl))) rfl, ⟨by decide +kernel, by decide +kernel, by decide +kernel⟩, by decide⟩, mem_g 690 (by decide +kernel) rfl, mem_g 691 (by decide +kernel) rfl⟩
set_option maxRecDepth 20000 in
theorem mfX11_way : MFv mX11_way 1 := ⟨⟨mem_g 106 (by decide +kernel) rfl, mem_gt (in_tb3 (List.mem_of_getElem? (i := 111) (by rfl))) rfl, ⟨by decide +kernel, by decide +kernel, by decide +kernel⟩, by decide⟩, mem_g 694 (by decide +kernel) rfl, mem_g 695 (by decide +kernel) rfl⟩
set_option maxRecDepth 20000 in
theorem mfX7_forget : MFv mX7_forget 0 := ⟨⟨mem_g 112 (by decide +kernel) rfl, mem_gt (in_tb3 (List.mem_of_getElem? (i := 115) (by rfl))) rfl, ⟨by decide +kernel, by decide +kernel, by decide +kernel⟩, by decide⟩, mem_g 698 (by decide +kernel) rfl, mem_g 699 (by decide +kernel) rfl⟩
set_option maxRecDepth 20000 in
theorem mfX1_isWay : MFv mX1_isWay 1 := ⟨⟨mem_g 114 (by decide +kernel) rfl, mem_gt (in_tb3 (List.mem_of_getElem? (i := 119) (by rfl))) rfl, ⟨by decide +kernel, by decide +kernel, by decide +kernel⟩, by decide⟩, mem_g 702 (by decide +kernel) rfl, mem_g 703 (by decide +kernel) rfl⟩
set_option maxRecDepth 20000 in
theorem mfX7_read : MFv mX7_read 0 := ⟨⟨mem_g 112 (by decide +kernel) rfl, mem_gt (in_tb3 (List.mem_of_getElem? (i := 123) (by rfl))) rfl, ⟨by decide +kernel, by decide +kernel, by decide +kernel⟩, by decide⟩, mem_g 706 (by decide +kernel) rfl, mem_g 707 (by decide +kernel) rfl⟩
set_option maxRecDepth 20000 in
theorem mfX10_clear : MFv mX10_clear 0 := ⟨⟨mem_g 113 (by decide +kernel) rfl, mem_gt (in_tb3 (List.mem_of_getElem? (i := 128) (by rfl))) rfl, ⟨by decide +kernel, by decide +kernel, by decide +kernel⟩, by decide⟩, mem_g 711 (by decide +kernel) rfl, mem_g 712 (by decide +kernel) rfl⟩
set_option maxRecDepth 20000 in
theorem mfX8_makeTokens : MFv mX8_makeTokens 0 := ⟨⟨mem_g 111 (by decide +kernel) rfl, mem_gt (in_tb3 (List.mem_of_getElem? (i := 132) (by rfl))) rfl, ⟨by decide +kernel, by decide +kernel, by decide +kernel⟩, by decide⟩, mem_g 715 (by decide +kernel) rfl, mem_g 716 (by decide +kernel) rfl⟩
set_option maxRecDepth 20000 in
theorem mfX8_signAt : MFv mX8_signAt 1 := ⟨⟨mem_g 111 (by decide +kernel) rfl, mem_gt (in_tb3 (List.mem_of_getElem? (i := 136) (by rfl))) rfl, ⟨by decide +kernel, by decide +kernel, by decide +kernel⟩, by decide⟩, mem_g 720 (by decide +kernel) rfl, mem_g 7 (by decide +kernel) rfl⟩
set_option maxRecDepth 20000 in
theorem mfX8_makeOne : MFv mX8_makeOne 2 := ⟨⟨mem_g 111 (by decide +kernel) rfl, mem_gt (in_tb3 (List.mem_of_getElem? (i := 140) (by rfl))) rfl, ⟨by decide +kernel, by decide +kernel, by decide +kernel⟩, by decide⟩, mem_g 724 (by decide +kernel) rfl, mem_g 8 (by decide +kernel) rfl⟩
set_option maxRecDepth 20000 in
theorem mfX8_isLetter : MFs mX8_isLetter 1 := ⟨⟨mem_g 111 (by decide +kernel) rfl, mem_gt (in_tb3 (List.mem_of_getElem? (i := 143) (by rfl))) rfl, ⟨by decide +kernel, by decide +kernel, by decide +kernel⟩, by decide⟩, mem_g 727 (by decide +kernel) rfl⟩
set_option maxRecDepth 20000 in
theorem mfX8_makeWord : MFv mX8_makeWord 1 := ⟨⟨mem_g 111 (by decide +kernel) rfl, mem_gt (in_tb3 (List.mem_of_getElem? (i := 147) (by rfl))) rfl, ⟨by decide +kernel, by decide +kernel, by decide +kernel⟩, by decide⟩, mem_g 731 (by decide +kernel) rfl, mem_g 9 (by decide +kernel) rfl⟩
set_option maxRecDepth 20000 in
theorem mfX8_keyword : MFv mX8_keyword 2 := ⟨⟨mem_g 111 (by decide +kernel) rfl, mem_gt (in_tb3 (List.mem_of_getElem? (i := 151) (by rfl))) rfl, ⟨by decide +kernel, by decide +kernel, by decide +kernel⟩, by decide⟩, mem_g 735 (by decide +kernel) rfl, mem_g 10 (by decide +kernel) rfl⟩
set_option maxRecDepth 20000 in
theorem mfJ0_length_8abf5 : MFv mJ0_length_8abf5 0 := ⟨⟨mem_g 125 (by decide +kernel) rfl, mem_gt (in_tb3 (List.mem_of_getElem? (i := 156) (by rfl))) rfl, ⟨by decide +kernel, by decide +kernel, by decide +kernel⟩, by decide⟩, mem_g 739 (by decide +kernel) rfl, mem_g 740 (by decide +kernel) rfl⟩
set_option maxRecDepth 20000 in
theorem mfJ0_coder_7d493 : MFv mJ0_coder_7d493 0 := ⟨⟨mem_g 125 (by decide +kernel) rfl, mem_gt (in_tb3 (List.mem_of_getElem? (i := 160) (by rfl))) rfl, ⟨by decide +kernel, by decide +kernel, by decide +kernel⟩, by decide⟩, mem_g 743 (by decide +kernel) rfl, mem_g 744 (by decide +kernel) rfl⟩
set_option maxRecDepth 20000 in
theorem mfJ0_charAt_5068e : MFv mJ0_charAt_5068e 1 := ⟨⟨mem_g 125 (by decide +kernel) rfl, mem_gt (in_tb3 (List.mem_of_getElem? (i := 166) (by rfl))) rfl, ⟨by decide +kernel, by decide +kernel, by decide +kernel⟩, by decide⟩, mem_g 749 (by decide +kernel) rfl, mem_g 750 (by decide +kernel) rfl⟩
set_option maxRecDepth 20000 in
theorem mfJ0_isLatin1_aae02 : MFv mJ0_isLatin1_aae02 0 := ⟨⟨mem_g 125 (by decide +kernel) rfl, mem_gt (in_tb3 (List.mem_of_getElem? (i := 170) (by rfl))) rfl, ⟨by decide +kernel, by decide +kernel, by decide +kernel⟩, by decide⟩, mem_g 753 (by decide +kernel) rfl, mem_g 754 (by decide +kernel) rfl⟩
set_option maxRecDepth 20000 in
theorem mfJ1_charAt_3b067 : MFs mJ1_charAt_3b067 2 := ⟨⟨mem_g 126 (by decide +kernel) rfl, mem_gt (in_tb3 (List.mem_of_getElem? (i := 173) (by rfl))) rfl, ⟨by decide +kernel, by decide +kernel, by decide +kernel⟩, by decide⟩, mem_g 757 (by decide +kernel) rfl⟩
set_option maxRecDepth 20000 in
theorem mfJ0_checkIndex_df160 : MFs mJ0_checkIndex_df160 2 := ⟨⟨mem_g 125 (by decide +kernel) rfl, mem_gt (in_tb3 (List.mem_of_getElem? (i := 176) (by rfl))) rfl, ⟨by decide +kernel, by decide +kernel, by decide +kernel⟩, by decide⟩, mem_g 760 (by decide +kernel) rfl⟩
set_option maxRecDepth 20000 in
theorem mfJ3_checkIndex_8e157 : MFs mJ3_checkIndex_8e157 3 := ⟨⟨mem_g 127 (by decide +kernel) rfl, mem_gt (in_tb3 (List.mem_of_getElem? (i := 181) (by rfl))) rfl, ⟨by decide +kernel, by decide +kernel, by decide +kernel⟩, by decide⟩, mem_g 765 (by decide +kernel) rfl⟩
set_option maxRecDepth 20000 in
theorem mfJ2_charAt_3b067 : MFs mJ2_charAt_3b067 2 := ⟨⟨mem_g 128 (by decide +kernel) rfl, mem_gt (in_tb3 (List.mem_of_getElem? (i := 184) (by rfl))) rfl, ⟨by decide +kernel, by decide +kernel, by decide +kernel⟩, by decide⟩, mem_g 768 (by decide +kernel) rfl⟩
set_option maxRecDepth 20000 in
theorem mfJ2_checkIndex_2214a : MFs mJ2_checkIndex_2214a 2 := ⟨⟨mem_g 128 (by decide +kernel) rfl, mem_gt (in_tb3 (List.mem_of_getElem? (i := 187) (by rfl))) rfl, ⟨by decide +kernel, by decide +kernel, by decide +kernel⟩, by decide⟩, mem_g 771 (by decide +kernel) rfl⟩
set_option maxRecDepth 20000 in
theorem mfJ2_length_9d52b : MFs mJ2_length_9d52b 1 := ⟨⟨mem_g 128 (by decide +kernel) rfl, mem_gt (in_tb3 (List.mem_of_getElem? (i := 190) (by rfl))) rfl, ⟨by decide +kernel, by decide +kernel, by decide +kernel⟩, by decide⟩, mem_g 774 (by decide +kernel) rfl⟩
set_option maxRecDepth 20000 in
theorem mfJ2_getChar_3b067 : MFs mJ2_getChar_3b067 2 := ⟨⟨mem_g 128 (by decide +kernel) rfl, mem_gt (in_tb3 (List.mem_of_getElem? (i := 194) (by rfl))) rfl, ⟨by decide +kernel, by decide +kernel, by decide +kernel⟩, by decide⟩, mem_g 778 (by decide +kernel) rfl⟩
set_option maxRecDepth 20000 in
theorem mfX8_spells : MFv mX8_spells 3 := ⟨⟨mem_g 111 (by decide +kernel) rfl, mem_gt (in_tb3 (List.mem_of_getElem? (i := 204) (by rfl))) rfl, ⟨by decide +kernel, by decide +kernel, by decide +kernel⟩, by decide⟩, mem_g 788 (by decide +kernel) rfl, mem_g 11 (by decide +kernel) rfl⟩
set_option maxRecDepth 20000 in
theorem mfX8_keep : MFv mX8_keep 3 := ⟨⟨mem_g 111 (by decide +kernel) rfl, mem_gt (in_tb3 (List.mem_of_getElem? (i := 208) (by rfl))) rfl, ⟨by decide +kernel, by decide +kernel, by decide +kernel⟩, by decide⟩, mem_g 792 (by decide +kernel) rfl, mem_g 12 (by decide +kernel) rfl⟩
set_option maxRecDepth 20000 in
theorem mfX8_isDigit : MFs mX8_isDigit 1 := ⟨⟨mem_g 111 (by decide +kernel) rfl, mem_gt (in_tb3 (List.mem_of_getElem? (i := 211) (by rfl))) rfl, ⟨by decide +kernel, by decide +kernel, by decide +kernel⟩, by decide⟩, mem_g 795 (by decide +kernel) rfl⟩
set_option maxRecDepth 20000 in
theorem mfX8_makeNumber : MFv mX8_makeNumber 1 := ⟨⟨mem_g 111 (by decide +kernel) rfl, mem_gt (in_tb3 (List.mem_of_getElem? (i := 215) (by rfl))) rfl, ⟨by decide +kernel, by decide +kernel, by decide +kernel⟩, by decide⟩, mem_g 799 (by decide +kernel) rfl, mem_g 13 (by decide +kernel) rfl⟩
set_option maxRecDepth 20000 in
theorem mfJ0_indexOf_0f7a4 : MFv mJ0_indexOf_0f7a4 1 := ⟨⟨mem_g 125 (by decide +kernel) rfl, mem_gt (in_tb3 (List.mem_of_getElem? (i := 220) (by rfl))) rfl, ⟨by decide +kernel, by decide +kernel, by decide +kernel⟩, by decide⟩, mem_g 803 (by decide +kernel) rfl, mem_g 804 (by decide +kernel) rfl⟩
set_option maxRecDepth 20000 in
theorem mfJ0_indexOf_7cf53 : MFv mJ0_indexOf_7cf53 2 := ⟨⟨mem_g 125 (by decide +kernel) rfl, mem_gt (in_tb3 (List.mem_of_getElem? (i := 224) (by rfl))) rfl, ⟨by decide +kernel, by decide +kernel, by decide +kernel⟩, by decide⟩, mem_g 807 (by decide +kernel) rfl, mem_g 808 (by decide +kernel) rfl⟩
set_option maxRecDepth 20000 in
theorem mfJ1_indexOf_4cfef : MFs mJ1_indexOf_4cfef 4 := ⟨⟨mem_g 126 (by decide +kernel) rfl, mem_gt (in_tb3 (List.mem_of_getElem? (i := 228) (by rfl))) rfl, ⟨by decide +kernel, by decide +kernel, by decide +kernel⟩, by decide⟩, mem_g 812 (by decide +kernel) rfl⟩
set_option maxRecDepth 20000 in
theorem mfJ1_canEncode_9a6ad : MFs mJ1_canEncode_9a6ad 1 := ⟨⟨mem_g 126 (by decide +kernel) rfl, mem_gt (in_tb3 (List.mem_of_getElem? (i := 231) (by rfl))) rfl, ⟨by decide +kernel, by decide +kernel, by decide +kernel⟩, by decide⟩, mem_g 815 (by decide +kernel) rfl⟩
set_option maxRecDepth 20000 in
theorem mfJ1_indexOfChar_4cfef : MFs mJ1_indexOfChar_4cfef 4 := ⟨⟨mem_g 126 (by decide +kernel) rfl, mem_gt (in_tb3 (List.mem_of_getElem? (i := 236) (by rfl))) rfl, ⟨by decide +kernel, by decide +kernel, by decide +kernel⟩, by decide⟩, mem_g 820 (by decide +kernel) rfl⟩
set_option maxRecDepth 20000 in
theorem mfJ2_indexOf_4cfef : MFs mJ2_indexOf_4cfef 4 := ⟨⟨mem_g 128 (by decide +kernel) rfl, mem_gt (in_tb3 (List.mem_of_getElem? (i := 239) (by rfl))) rfl, ⟨by decide +kernel, by decide +kernel, by decide +kernel⟩, by decide⟩, mem_g 823 (by decide +kernel) rfl⟩
set_option maxRecDepth 20000 in
theorem mfJ2_indexOfChar_4cfef : MFs mJ2_indexOfChar_4cfef 4 := ⟨⟨mem_g 128 (by decide +kernel) rfl, mem_gt (in_tb4 (List.mem_of_getElem? (i := 5) (by rfl))) rfl, ⟨by decide +kernel, by decide +kernel, by decide +kernel⟩, by decide⟩, mem_g 829 (by decide +kernel) rfl⟩
set_option maxRecDepth 20000 in
theorem mfJ2_checkBoundsBeginEnd_d044e : MFs mJ2_checkBoundsBeginEnd_d044e 3 := ⟨⟨mem_g 128 (by decide +kernel) rfl, mem_gt (in_tb4 (List.mem_of_getElem? (i := 8) (by rfl))) rfl, ⟨by decide +kernel, by decide +kernel, by decide +kernel⟩, by decide⟩, mem_g 832 (by decide +kernel) rfl⟩
set_option maxRecDepth 20000 in
theorem mfJ0_checkBoundsBeginEnd_23922 : MFs mJ0_checkBoundsBeginEnd_23922 3 := ⟨⟨mem_g 125 (by decide +kernel) rfl, mem_gt (in_tb4 (List.mem_of_getElem? (i := 11) (by rfl))) rfl, ⟨by decide +kernel, by decide +kernel, by decide +kernel⟩, by decide⟩, mem_g 835 (by decide +kernel) rfl⟩
set_option maxRecDepth 20000 in
theorem mfJ3_checkFromToIndex_8c36e : MFs mJ3_checkFromToIndex_8c36e 4 := ⟨⟨mem_g 127 (by decide +kernel) rfl, mem_gt (in_tb4 (List.mem_of_getElem? (i := 14) (by rfl))) rfl, ⟨by decide +kernel, by decide +kernel, by decide +kernel⟩, by decide⟩, mem_g 838 (by decide +kernel) rfl⟩
set_option maxRecDepth 20000 in
theorem mfJ2_indexOfCharUnsafe_4cfef : MFs mJ2_indexOfCharUnsafe_4cfef 4 := ⟨⟨mem_g 128 (by decide +kernel) rfl, mem_gt (in_tb4 (List.mem_of_getElem? (i := 17) (by rfl))) rfl, ⟨by decide +kernel, by decide +kernel, by decide +kernel⟩, by decide⟩, mem_g 841 (by decide +kernel) rfl⟩
set_option maxRecDepth 20000 in
theorem mfJ2_indexOfSupplementary_4cfef : MFs mJ2_indexOfSupplementary_4cfef 4 := ⟨⟨mem_g 128 (by decide +kernel) rfl, mem_gt (in_tb4 (List.mem_of_getElem? (i := 20) (by rfl))) rfl, ⟨by decide +kernel, by decide +kernel, by decide +kernel⟩, by decide⟩, mem_g 844 (by decide +kernel) rfl⟩
set_option maxRecDepth 20000 in
theorem mfJ11_isValidCodePoint_9a6ad : MFs mJ11_isValidCodePoint_9a6ad 1 := ⟨⟨mem_g 129 (by decide +kernel) rfl, mem_gt (in_tb4 (List.mem_of_getElem? (i := 23) (by rfl))) rfl, ⟨by decide +kernel, by decide +kernel, by decide +kernel⟩, by decide⟩, mem_g 847 (by decide +kernel) rfl⟩
set_option maxRecDepth 20000 in
theorem mfJ11_highSurrogate_5068e : MFs mJ11_highSurrogate_5068e 1 := ⟨⟨mem_g 129 (by decide +kernel) rfl, mem_gt (in_tb4 (List.mem_of_getElem? (i := 26) (by rfl))) rfl, ⟨by decide +kernel, by decide +kernel, by decide +kernel⟩, by decide⟩, mem_g 850 (by decide +kernel) rfl⟩
set_option maxRecDepth 20000 in
theorem mfJ11_lowSurrogate_5068e : MFs mJ11_lowSurrogate_5068e 1 := ⟨⟨mem_g 129 (by decide +kernel) rfl, mem_gt (in_tb4 (List.mem_of_getElem? (i := 30) (by rfl))) rfl, ⟨by decide +kernel, by decide +kernel, by decide +kernel⟩, by decide⟩, mem_g 854 (by decide +kernel) rfl⟩
set_option maxRecDepth 20000 in
theorem mfX8_kind : MFv mX8_kind 1 := ⟨⟨mem_g 111 (by decide +kernel) rfl, mem_gt (in_tb4 (List.mem_of_getElem? (i := 35) (by rfl))) rfl, ⟨by decide +kernel, by decide +kernel, by decide +kernel⟩, by decide⟩, mem_g 858 (by decide +kernel) rfl, mem_g 859 (by decide +kernel) rfl⟩
set_option maxRecDepth 20000 in
theorem mfX7_readLine : MFv mX7_readLine 0 := ⟨⟨mem_g 112 (by decide +kernel) rfl, mem_gt (in_tb4 (List.mem_of_getElem? (i := 40) (by rfl))) rfl, ⟨by decide +kernel, by decide +kernel, by decide +kernel⟩, by decide⟩, mem_g 864 (by decide +kernel) rfl, mem_g 14 (by decide +kernel) rfl⟩
set_option maxRecDepth 20000 in
theorem mfX7_blame : MFv mX7_blame 1 := ⟨⟨mem_g 112 (by decide +kernel) rfl, mem_gt (in_tb4 (List.mem_of_getElem? (i := 44) (by rfl))) rfl, ⟨by decide +kernel, by decide +kernel, by decide +kernel⟩, by decide⟩, mem_g 868 (by decide +kernel) rfl, mem_g 15 (by decide +kernel) rfl⟩
set_option maxRecDepth 20000 in
theorem mfX10_lines : MFv mX10_lines 0 := ⟨⟨mem_g 113 (by decide +kernel) rfl, mem_gt (in_tb4 (List.mem_of_getElem? (i := 48) (by rfl))) rfl, ⟨by decide +kernel, by decide +kernel, by decide +kernel⟩, by decide⟩, mem_g 871 (by decide +kernel) rfl, mem_g 872 (by decide +kernel) rfl⟩
set_option maxRecDepth 20000 in
theorem mfX10_open : MFv mX10_open 1 := ⟨⟨mem_g 113 (by decide +kernel) rfl, mem_gt (in_tb4 (List.mem_of_getElem? (i := 52) (by rfl))) rfl, ⟨by decide +kernel, by decide +kernel, by decide +kernel⟩, by decide⟩, mem_g 875 (by decide +kernel) rfl, mem_g 876 (by decide +kernel) rfl⟩
set_option maxRecDepth 20000 in
theorem mfX7_step : MFv mX7_step 0 := ⟨⟨mem_g 112 (by decide +kernel) rfl, mem_gt (in_tb4 (List.mem_of_getElem? (i := 56) (by rfl))) rfl, ⟨by decide +kernel, by decide +kernel, by decide +kernel⟩, by decide⟩, mem_g 880 (by decide +kernel) rfl, mem_g 16 (by decide +kernel) rfl⟩
set_option maxRecDepth 20000 in
theorem mfX7_readSum : MFv mX7_readSum 0 := ⟨⟨mem_g 112 (by decide +kernel) rfl, mem_gt (in_tb4 (List.mem_of_getElem? (i := 60) (by rfl))) rfl, ⟨by decide +kernel, by decide +kernel, by decide +kernel⟩, by decide⟩, mem_g 884 (by decide +kernel) rfl, mem_g 17 (by decide +kernel) rfl⟩
set_option maxRecDepth 20000 in
theorem mfX7_readUnit : MFv mX7_readUnit 0 := ⟨⟨mem_g 112 (by decide +kernel) rfl, mem_gt (in_tb4 (List.mem_of_getElem? (i := 64) (by rfl))) rfl, ⟨by decide +kernel, by decide +kernel, by decide +kernel⟩, by decide⟩, mem_g 888 (by decide +kernel) rfl, mem_g 18 (by decide +kernel) rfl⟩
set_option maxRecDepth 20000 in
theorem mfX8_number : MFv mX8_number 1 := ⟨⟨mem_g 111 (by decide +kernel) rfl, mem_gt (in_tb4 (List.mem_of_getElem? (i := 68) (by rfl))) rfl, ⟨by decide +kernel, by decide +kernel, by decide +kernel⟩, by decide⟩, mem_g 891 (by decide +kernel) rfl, mem_g 892 (by decide +kernel) rfl⟩
set_option maxRecDepth 20000 in
theorem mfX10_put : MFv mX10_put 1 := ⟨⟨mem_g 113 (by decide +kernel) rfl, mem_gt (in_tb4 (List.mem_of_getElem? (i := 72) (by rfl))) rfl, ⟨by decide +kernel, by decide +kernel, by decide +kernel⟩, by decide⟩, mem_g 895 (by decide +kernel) rfl, mem_g 896 (by decide +kernel) rfl⟩
set_option maxRecDepth 20000 in
theorem mfX7_readDivisor : MFv mX7_readDivisor 0 := ⟨⟨mem_g 112 (by decide +kernel) rfl, mem_gt (in_tb4 (List.mem_of_getElem? (i := 76) (by rfl))) rfl, ⟨by decide +kernel, by decide +kernel, by decide +kernel⟩, by decide⟩, mem_g 900 (by decide +kernel) rfl, mem_g 19 (by decide +kernel) rfl⟩
set_option maxRecDepth 20000 in
theorem mfX10_markMiddle : MFv mX10_markMiddle 0 := ⟨⟨mem_g 113 (by decide +kernel) rfl, mem_gt (in_tb4 (List.mem_of_getElem? (i := 80) (by rfl))) rfl, ⟨by decide +kernel, by decide +kernel, by decide +kernel⟩, by decide⟩, mem_g 903 (by decide +kernel) rfl, mem_g 904 (by decide +kernel) rfl⟩
set_option maxRecDepth 20000 in
theorem mfX7_readEither : MFv mX7_readEither 1 := ⟨⟨mem_g 112 (by decide +kernel) rfl, mem_gt (in_tb4 (List.mem_of_getElem? (i := 84) (by rfl))) rfl, ⟨by decide +kernel, by decide +kernel, by decide +kernel⟩, by decide⟩, mem_g 908 (by decide +kernel) rfl, mem_g 20 (by decide +kernel) rfl⟩
set_option maxRecDepth 20000 in
theorem mfX7_readClaim : MFv mX7_readClaim 1 := ⟨⟨mem_g 112 (by decide +kernel) rfl, mem_gt (in_tb4 (List.mem_of_getElem? (i := 88) (by rfl))) rfl, ⟨by decide +kernel, by decide +kernel, by decide +kernel⟩, by decide⟩, mem_g 912 (by decide +kernel) rfl, mem_g 21 (by decide +kernel) rfl⟩
set_option maxRecDepth 20000 in
theorem mfX7_comparison : MFv mX7_comparison 0 := ⟨⟨mem_g 112 (by decide +kernel) rfl, mem_gt (in_tb4 (List.mem_of_getElem? (i := 92) (by rfl))) rfl, ⟨by decide +kernel, by decide +kernel, by decide +kernel⟩, by decide⟩, mem_g 916 (by decide +kernel) rfl, mem_g 22 (by decide +kernel) rfl⟩
set_option maxRecDepth 20000 in
theorem mfX10_close : MFv mX10_close 0 := ⟨⟨mem_g 113 (by decide +kernel) rfl, mem_gt (in_tb4 (List.mem_of_getElem? (i := 96) (by rfl))) rfl, ⟨by decide +kernel, by decide +kernel, by decide +kernel⟩, by decide⟩, mem_g 919 (by decide +kernel) rfl, mem_g 920 (by decide +kernel) rfl⟩
set_option maxRecDepth 20000 in
theorem mfX7_draft : MFv mX7_draft 0 := ⟨⟨mem_g 112 (by decide +kernel) rfl, mem_gt (in_tb4 (List.mem_of_getElem? (i := 100) (by rfl))) rfl, ⟨by decide +kernel, by decide +kernel, by decide +kernel⟩, by decide⟩, mem_g 923 (by decide +kernel) rfl, mem_g 924 (by decide +kernel) rfl⟩
set_option maxRecDepth 20000 in
theorem mfX1_teach : MFv mX1_teach 2 := ⟨⟨mem_g 114 (by decide +kernel) rfl, mem_gt (in_tb4 (List.mem_of_getElem? (i := 104) (by rfl))) rfl, ⟨by decide +kernel, by decide +kernel, by decide +kernel⟩, by decide⟩, mem_g 927 (by decide +kernel) rfl, mem_g 928 (by decide +kernel) rfl⟩
set_option maxRecDepth 20000 in
theorem mfJx4a65c_get_915e3 : MFv mJx4a65c_get_915e3 1 := ⟨⟨mem_g 118 (by decide +kernel) rfl, mem_gt (in_tb4 (List.mem_of_getElem? (i := 109) (by rfl))) rfl, ⟨by decide +kernel, by decide +kernel, by decide +kernel⟩, by decide⟩, mem_g 932 (by decide +kernel) rfl, mem_g 933 (by decide +kernel) rfl⟩
set_option maxRecDepth 20000 in
theorem mfJ15_checkIndex_7cf53 : MFs mJ15_checkIndex_7cf53 2 := ⟨⟨mem_g 130 (by decide +kernel) rfl, mem_gt (in_tb4 (List.mem_of_getElem? (i := 112) (by rfl))) rfl, ⟨by decide +kernel, by decide +kernel, by decide +kernel⟩, by decide⟩, mem_g 936 (by decide +kernel) rfl⟩
set_option maxRecDepth 20000 in
theorem mfJx4a65c_elementData_915e3 : MFv mJx4a65c_elementData_915e3 1 := ⟨⟨mem_g 118 (by decide +kernel) rfl, mem_gt (in_tb4 (List.mem_of_getElem? (i := 117) (by rfl))) rfl, ⟨by decide +kernel, by decide +kernel, by decide +kernel⟩, by decide⟩, mem_g 940 (by decide +kernel) rfl, mem_g 941 (by decide +kernel) rfl⟩
set_option maxRecDepth 20000 in
theorem mfX10_copy : MFv mX10_copy 1 := ⟨⟨mem_g 113 (by decide +kernel) rfl, mem_gt (in_tb4 (List.mem_of_getElem? (i := 121) (by rfl))) rfl, ⟨by decide +kernel, by decide +kernel, by decide +kernel⟩, by decide⟩, mem_g 944 (by decide +kernel) rfl, mem_g 945 (by decide +kernel) rfl⟩
set_option maxRecDepth 20000 in
theorem mfX11_fault : MFv mX11_fault 1 := ⟨⟨mem_g 106 (by decide +kernel) rfl, mem_gt (in_tb4 (List.mem_of_getElem? (i := 127) (by rfl))) rfl, ⟨by decide +kernel, by decide +kernel, by decide +kernel⟩, by decide⟩, mem_g 950 (by decide +kernel) rfl, mem_g 951 (by decide +kernel) rfl⟩
set_option maxRecDepth 20000 in
theorem mfX7_kindOfFault : MFv mX7_kindOfFault 0 := ⟨⟨mem_g 112 (by decide +kernel) rfl, mem_gt (in_tb4 (List.mem_of_getElem? (i := 131) (by rfl))) rfl, ⟨by decide +kernel, by decide +kernel, by decide +kernel⟩, by decide⟩, mem_g 954 (by decide +kernel) rfl, mem_g 955 (by decide +kernel) rfl⟩
set_option maxRecDepth 20000 in
theorem mfX7_placeOfFault : MFv mX7_placeOfFault 0 := ⟨⟨mem_g 112 (by decide +kernel) rfl, mem_gt (in_tb4 (List.mem_of_getElem? (i := 135) (by rfl))) rfl, ⟨by decide +kernel, by decide +kernel, by decide +kernel⟩, by decide⟩, mem_g 958 (by decide +kernel) rfl, mem_g 959 (by decide +kernel) rfl⟩
set_option maxRecDepth 20000 in
theorem mfX11_come : MFv mX11_come 3 := ⟨⟨mem_g 106 (by decide +kernel) rfl, mem_gt (in_tb4 (List.mem_of_getElem? (i := 139) (by rfl))) rfl, ⟨by decide +kernel, by decide +kernel, by decide +kernel⟩, by decide⟩, mem_g 962 (by decide +kernel) rfl, mem_g 963 (by decide +kernel) rfl⟩
set_option maxRecDepth 20000 in
theorem mfX1_admit : MFv mX1_admit 3 := ⟨⟨mem_g 114 (by decide +kernel) rfl, mem_gt (in_tb4 (List.mem_of_getElem? (i := 143) (by rfl))) rfl, ⟨by decide +kernel, by decide +kernel, by decide +kernel⟩, by decide⟩, mem_g 966 (by decide +kernel) rfl, mem_g 967 (by decide +kernel) rfl⟩
set_option maxRecDepth 20000 in
theorem mfX4_init : MFi mX4_init 4 := ⟨⟨mem_g 131 (by decide +kernel) rfl, mem_gt (in_tb4 (List.mem_of_getElem? (i := 148) (by rfl))) rfl, ⟨by decide +kernel, by decide +kernel, by decide +kernel⟩, by decide⟩, rfl, mem_g 972 (by decide +kernel) rfl, rfl⟩
set_option maxRecDepth 20000 in
theorem mfX11_state : MFv mX11_state 1 := ⟨⟨mem_g 106 (by decide +kernel) rfl, mem_gt (in_tb4 (List.mem_of_getElem? (i := 195) (by rfl))) rfl, ⟨by decide +kernel, by decide +kernel, by decide +kernel⟩, by decide⟩, mem_g 1018 (by decide +kernel) rfl, mem_g 1019 (by decide +kernel) rfl⟩
set_option maxRecDepth 20000 in
theorem mfX1_restate : MFv mX1_restate 1 := ⟨⟨mem_g 114 (by decide +kernel) rfl, mem_gt (in_tb4 (List.mem_of_getElem? (i := 199) (by rfl))) rfl, ⟨by decide +kernel, by decide +kernel, by decide +kernel⟩, by decide⟩, mem_g 1022 (by decide +kernel) rfl, mem_g 1023 (by decide +kernel) rfl⟩
set_option maxRecDepth 20000 in
theorem mfX11_weeks : MFv mX11_weeks 1 := ⟨⟨mem_g 106 (by decide +kernel) rfl, mem_gt (in_tb4 (List.mem_of_getElem? (i := 203) (by rfl))) rfl, ⟨by decide +kernel, by decide +kernel, by decide +kernel⟩, by decide⟩, mem_g 1026 (by decide +kernel) rfl, mem_g 1027 (by decide +kernel) rfl⟩
set_option maxRecDepth 20000 in
theorem mfX1_tally : MFv mX1_tally 1 := ⟨⟨mem_g 114 (by decide +kernel) rfl, mem_gt (in_tb4 (List.mem_of_getElem? (i := 207) (by rfl))) rfl, ⟨by decide +kernel, by decide +kernel, by decide +kernel⟩, by decide⟩, mem_g 1030 (by decide +kernel) rfl, mem_g 1031 (by decide +kernel) rfl⟩
set_option maxRecDepth 20000 in
theorem mfX1_passWeek : MFv mX1_passWeek 0 := ⟨⟨mem_g 114 (by decide +kernel) rfl, mem_gt (in_tb4 (List.mem_of_getElem? (i := 211) (by rfl))) rfl, ⟨by decide +kernel, by decide +kernel, by decide +kernel⟩, by decide⟩, mem_g 1034 (by decide +kernel) rfl, mem_g 1035 (by decide +kernel) rfl⟩
set_option maxRecDepth 20000 in
theorem mfX1_lookAgain : MFv mX1_lookAgain 2 := ⟨⟨mem_g 114 (by decide +kernel) rfl, mem_gt (in_tb4 (List.mem_of_getElem? (i := 215) (by rfl))) rfl, ⟨by decide +kernel, by decide +kernel, by decide +kernel⟩, by decide⟩, mem_g 1039 (by decide +kernel) rfl, mem_g 23 (by decide +kernel) rfl⟩
set_option maxRecDepth 20000 in
theorem mfX1_worthFor : MFv mX1_worthFor 2 := ⟨⟨mem_g 114 (by decide +kernel) rfl, mem_gt (in_tb4 (List.mem_of_getElem? (i := 220) (by rfl))) rfl, ⟨by decide +kernel, by decide +kernel, by decide +kernel⟩, by decide⟩, mem_g 1044 (by decide +kernel) rfl, mem_g 24 (by decide +kernel) rfl⟩
set_option maxRecDepth 20000 in
theorem mfX4_free : MFv mX4_free 0 := ⟨⟨mem_g 131 (by decide +kernel) rfl, mem_gt (in_tb4 (List.mem_of_getElem? (i := 225) (by rfl))) rfl, ⟨by decide +kernel, by decide +kernel, by decide +kernel⟩, by decide⟩, mem_g 1048 (by decide +kernel) rfl, mem_g 1049 (by decide +kernel) rfl⟩
set_option maxRecDepth 20000 in
theorem mfX4_isSingle : MFv mX4_isSingle 0 := ⟨⟨mem_g 131 (by decide +kernel) rfl, mem_gt (in_tb4 (List.mem_of_getElem? (i := 229) (by rfl))) rfl, ⟨by decide +kernel, by decide +kernel, by decide +kernel⟩, by decide⟩, mem_g 1052 (by decide +kernel) rfl, mem_g 1053 (by decide +kernel) rfl⟩
set_option maxRecDepth 20000 in
theorem mfX1_goOut : MFv mX1_goOut 1 := ⟨⟨mem_g 114 (by decide +kernel) rfl, mem_gt (in_tb4 (List.mem_of_getElem? (i := 233) (by rfl))) rfl, ⟨by decide +kernel, by decide +kernel, by decide +kernel⟩, by decide⟩, mem_g 1057 (by decide +kernel) rfl, mem_g 25 (by decide +kernel) rfl⟩
set_option maxRecDepth 20000 in
theorem mfX1_isThere : MFs mX1_isThere 2 := ⟨⟨mem_g 114 (by decide +kernel) rfl, mem_gt (in_tb4 (List.mem_of_getElem? (i := 236) (by rfl))) rfl, ⟨by decide +kernel, by decide +kernel, by decide +kernel⟩, by decide⟩, mem_g 1060 (by decide +kernel) rfl⟩
set_option maxRecDepth 20000 in
theorem mfX1_draw : MFv mX1_draw 1 := ⟨⟨mem_g 114 (by decide +kernel) rfl, mem_gt (in_tb5 (List.mem_of_getElem? (i := 0) (by rfl))) rfl, ⟨by decide +kernel, by decide +kernel, by decide +kernel⟩, by decide⟩, mem_g 1064 (by decide +kernel) rfl, mem_g 26 (by decide +kernel) rfl⟩
set_option maxRecDepth 20000 in
theorem mfX1_meet : MFv mX1_meet 2 := ⟨⟨mem_g 114 (by decide +kernel) rfl, mem_gt (in_tb5 (List.mem_of_getElem? (i := 6) (by rfl))) rfl, ⟨by decide +kernel, by decide +kernel, by decide +kernel⟩, by decide⟩, mem_g 1070 (by decide +kernel) rfl, mem_g 27 (by decide +kernel) rfl⟩
set_option maxRecDepth 20000 in
theorem mfX1_error : MFv mX1_error 0 := ⟨⟨mem_g 114 (by decide +kernel) rfl, mem_gt (in_tb5 (List.mem_of_getElem? (i := 10) (by rfl))) rfl, ⟨by decide +kernel, by decide +kernel, by decide +kernel⟩, by decide⟩, mem_g 1074 (by decide +kernel) rfl, mem_g 28 (by decide +kernel) rfl⟩
