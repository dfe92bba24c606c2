abbrev Y_B_init : kx_Y := (c_B_init, 1, R_B, none, y_B_init, 5, 562, 2, [])
abbrev Y_R_init : kx_Y := (c_R_init, 1, R_R, none, y_R_init, 1, 24, 1, [])
abbrev Y_B_settled : kx_Y := (c_B_settled, 4, R_B, some .int, y_B_settled, 0, 0, 8, [])
abbrev Y_C_state : kx_Y := (c_C_state, 1, R_C, some .int, y_C_state, 0, 0, 3, [])
abbrev Y_C_agreesAt : kx_Y := (c_C_agreesAt, 2, R_C, some .boolean, y_C_agreesAt, 0, 0, 2, [])
abbrev Y_R_isSameAs : kx_Y := (c_R_isSameAs, 3, R_R, some .boolean, y_R_isSameAs, 0, 0, 1, [])
abbrev Y_B_trueRun : kx_Y := (c_B_trueRun, 6, R_B, some (.object "ConsistBus$Row"), y_B_trueRun, 0, 0, 3, [])
abbrev Y_N_outermost : kx_Y := (c_N_outermost, 3, R_N, some (.object "ConsistBus$End"), y_N_outermost, 0, 0, 1, [])
abbrev Y_R_clear : kx_Y := (c_R_clear, 1, R_R, none, y_R_clear, 0, 0, 1, [])
abbrev Y_R_append : kx_Y := (c_R_append, 2, R_R, none, y_R_append, 0, 0, 1, [])
abbrev Y_L_add : kx_Y := (c_L_add, 5, R_L, some .int, y_L_add, 40, 500, 9, [(0, 10, 13, 13), (0, 10, 17, 15)])
abbrev Y_B_add : kx_Y := (c_B_add, 4, R_B, some .int, y_B_add, 40, 500, 8, [])
abbrev Y_C_init : kx_Y := (c_C_init, 3, R_C, none, y_C_init, 31, 436, 4, [])
abbrev Y_N_init : kx_Y := (c_N_init, 2, R_N, none, y_N_init, 11, 158, 3, [])
abbrev Y_F_init : kx_Y := (c_F_init, 1, R_F, none, y_F_init, 6, 100, 2, [])
abbrev Y_A_fill : kx_Y := (c_A_fill, 4, R_A, none, y_A_fill, 0, 0, 1, [])
abbrev Y_L_couple : kx_Y := (c_L_couple, 7, R_L, some .int, y_L_couple, 10, 60, 9, [(0, 14, 17, 21), (0, 14, 21, 15)])
abbrev Y_B_couple : kx_Y := (c_B_couple, 8, R_B, some .int, y_B_couple, 10, 60, 8, [])
abbrev Y_B_endOf : kx_Y := (c_B_endOf, 4, R_B, some (.object "ConsistBus$End"), y_B_endOf, 2, 12, 7, [])
abbrev Y_B_carOf : kx_Y := (c_B_carOf, 3, R_B, some (.object "ConsistBus$Car"), y_B_carOf, 1, 6, 6, [])
abbrev Y_B_carWithId : kx_Y := (c_B_carWithId, 2, R_B, some (.object "ConsistBus$Car"), y_B_carWithId, 0, 0, 1, [])
abbrev Y_R_numberOf : kx_Y := (c_R_numberOf, 3, R_R, some .int, y_R_numberOf, 0, 0, 1, [])
abbrev Y_B_freeNumber : kx_Y := (c_B_freeNumber, 2, R_B, some .int, y_B_freeNumber, 0, 0, 1, [])
abbrev Y_N_join : kx_Y := (c_N_join, 3, R_N, none, y_N_join, 0, 0, 1, [])
abbrev Y_L_uncouple : kx_Y := (c_L_uncouple, 5, R_L, some .int, y_L_uncouple, 10, 60, 9, [(0, 10, 13, 21), (0, 10, 17, 15)])
abbrev Y_B_uncouple : kx_Y := (c_B_uncouple, 6, R_B, some .int, y_B_uncouple, 10, 60, 8, [])
abbrev Y_N_part : kx_Y := (c_N_part, 1, R_N, none, y_N_part, 0, 0, 1, [])
abbrev Y_L_reset : kx_Y := (c_L_reset, 3, R_L, some .int, y_L_reset, 10, 60, 9, [(0, 5, 8, 21)])
abbrev Y_B_reset : kx_Y := (c_B_reset, 2, R_B, none, y_B_reset, 10, 60, 8, [])
abbrev Y_C_forget : kx_Y := (c_C_forget, 1, R_C, none, y_C_forget, 0, 0, 3, [])
abbrev Y_N_forget : kx_Y := (c_N_forget, 1, R_N, none, y_N_forget, 0, 0, 2, [])
abbrev Y_L_rounds : kx_Y := (c_L_rounds, 5, R_L, some .int, y_L_rounds, 10, 60, 9, [(0, 10, 13, 13)])
abbrev Y_B_rounds : kx_Y := (c_B_rounds, 5, R_B, some .int, y_B_rounds, 10, 60, 8, [])
abbrev Y_B_playRound : kx_Y := (c_B_playRound, 4, R_B, some .int, y_B_playRound, 0, 0, 6, [])
abbrev Y_C_makeFrames : kx_Y := (c_C_makeFrames, 2, R_C, none, y_C_makeFrames, 0, 0, 3, [])
abbrev Y_C_fillFrame : kx_Y := (c_C_fillFrame, 3, R_C, none, y_C_fillFrame, 0, 0, 2, [])
abbrev Y_R_copyFrom : kx_Y := (c_R_copyFrom, 2, R_R, none, y_R_copyFrom, 0, 0, 1, [])
abbrev Y_C_listen : kx_Y := (c_C_listen, 5, R_C, some .int, y_C_listen, 0, 0, 4, [])
abbrev Y_N_incoming : kx_Y := (c_N_incoming, 2, R_N, some (.object "ConsistBus$Frame"), y_N_incoming, 0, 0, 1, [])
abbrev Y_N_lookInto : kx_Y := (c_N_lookInto, 2, R_N, none, y_N_lookInto, 0, 0, 3, [])
abbrev Y_N_fallSilent : kx_Y := (c_N_fallSilent, 1, R_N, none, y_N_fallSilent, 0, 0, 2, [])
abbrev Y_J_min : kx_Y := (c_J_min, 2, R_J, some .int, y_J_min, 0, 0, 1, [])
abbrev Y_R_appendAll : kx_Y := (c_R_appendAll, 3, R_R, none, y_R_appendAll, 0, 0, 1, [])
abbrev Y_C_renewDirectory : kx_Y := (c_C_renewDirectory, 2, R_C, none, y_C_renewDirectory, 0, 0, 3, [])
abbrev Y_C_draftDirectory : kx_Y := (c_C_draftDirectory, 5, R_C, none, y_C_draftDirectory, 0, 0, 2, [])
abbrev Y_R_turnRound : kx_Y := (c_R_turnRound, 4, R_R, none, y_R_turnRound, 0, 0, 1, [])
abbrev Y_R_hasCarTwice : kx_Y := (c_R_hasCarTwice, 5, R_R, some .boolean, y_R_hasCarTwice, 0, 0, 1, [])
abbrev Y_R_idAt : kx_Y := (c_R_idAt, 2, R_R, some .int, y_R_idAt, 0, 0, 1, [])
abbrev Y_C_growOlder : kx_Y := (c_C_growOlder, 2, R_C, none, y_C_growOlder, 0, 0, 1, [])
abbrev Y_C_heed : kx_Y := (c_C_heed, 2, R_C, some .int, y_C_heed, 0, 0, 2, [])
abbrev Y_C_takeNews : kx_Y := (c_C_takeNews, 5, R_C, none, y_C_takeNews, 0, 0, 1, [])
abbrev Y_L_coupling : kx_Y := (c_L_coupling, 5, R_L, some .int, y_L_coupling, 10, 60, 9, [(0, 10, 13, 21)])
abbrev Y_B_coupling : kx_Y := (c_B_coupling, 3, R_B, some .int, y_B_coupling, 10, 60, 8, [])
abbrev Y_L_about : kx_Y := (c_L_about, 5, R_L, some .int, y_L_about, 10, 60, 9, [(0, 10, 13, 21), (0, 10, 17, 13)])
abbrev Y_B_about : kx_Y := (c_B_about, 4, R_B, some .int, y_B_about, 10, 60, 8, [])
abbrev Y_C_fact : kx_Y := (c_C_fact, 2, R_C, some .int, y_C_fact, 0, 0, 4, [])
abbrev Y_R_endAt : kx_Y := (c_R_endAt, 2, R_R, some .int, y_R_endAt, 0, 0, 1, [])
abbrev Y_L_directory : kx_Y := (c_L_directory, 5, R_L, some .int, y_L_directory, 10, 60, 9, [(0, 10, 13, 21)])
abbrev Y_B_directory : kx_Y := (c_B_directory, 3, R_B, some .int, y_B_directory, 10, 60, 8, [])
abbrev Y_L_view : kx_Y := (c_L_view, 6, R_L, some .int, y_L_view, 10, 60, 9, [(0, 12, 15, 21)])
abbrev Y_B_view : kx_Y := (c_B_view, 4, R_B, some .int, y_B_view, 10, 60, 8, [])
abbrev Y_R_itemAt : kx_Y := (c_R_itemAt, 2, R_R, some .int, y_R_itemAt, 0, 0, 1, [])
abbrev Y_L_put : kx_Y := (c_L_put, 6, R_L, some .int, y_L_put, 10, 60, 9, [(0, 12, 15, 21), (0, 12, 19, 13)])
abbrev Y_B_put : kx_Y := (c_B_put, 5, R_B, some .int, y_B_put, 10, 60, 8, [])
abbrev Y_C_replaceByte : kx_Y := (c_C_replaceByte, 4, R_C, some .int, y_C_replaceByte, 0, 0, 2, [])
abbrev Y_C_byteOf : kx_Y := (c_C_byteOf, 2, R_C, some .int, y_C_byteOf, 0, 0, 1, [])
abbrev Y_L_get : kx_Y := (c_L_get, 6, R_L, some .int, y_L_get, 10, 60, 9, [(0, 12, 15, 21), (0, 12, 19, 13)])
abbrev Y_B_get : kx_Y := (c_B_get, 5, R_B, some .int, y_B_get, 10, 60, 8, [])
abbrev Y_C_known : kx_Y := (c_C_known, 4, R_C, some .int, y_C_known, 0, 0, 2, [])
abbrev Y_L_side : kx_Y := (c_L_side, 6, R_L, some .int, y_L_side, 10, 60, 9, [(0, 12, 15, 21), (0, 12, 19, 13)])
abbrev Y_B_side : kx_Y := (c_B_side, 8, R_B, some .int, y_B_side, 10, 60, 8, [])
abbrev Y_C_hasFunction : kx_Y := (c_C_hasFunction, 2, R_C, some .boolean, y_C_hasFunction, 0, 0, 1, [])
abbrev Y_L_order : kx_Y := (c_L_order, 5, R_L, some .int, y_L_order, 10, 60, 9, [(0, 10, 13, 21)])
abbrev Y_B_order : kx_Y := (c_B_order, 3, R_B, some .int, y_B_order, 10, 60, 8, [])
abbrev Y_L_count : kx_Y := (c_L_count, 4, R_L, some .int, y_L_count, 10, 60, 9, [(0, 9, 12, 13)])
abbrev Y_B_count : kx_Y := (c_B_count, 2, R_B, some .int, y_B_count, 10, 60, 8, [])
abbrev Y_M_init : kx_Y := (c_M_init, 1, R_M, none, y_M_init, 26, 11016, 1, [])
abbrev Y_M_thrown : kx_Y := (c_M_thrown, 1, R_M, some .int, y_M_thrown, 0, 0, 1, [])
abbrev Y_M_add : kx_Y := (c_M_add, 5, R_M, some .int, y_M_add, 0, 0, 2, [])
abbrev Y_M_find : kx_Y := (c_M_find, 3, R_M, some .int, y_M_find, 0, 0, 1, [])
abbrev Y_M_goes : kx_Y := (c_M_goes, 4, R_M, some .boolean, y_M_goes, 0, 0, 1, [])
abbrev Y_M_forget : kx_Y := (c_M_forget, 3, R_M, none, y_M_forget, 0, 0, 1, [])
abbrev Y_M_couple : kx_Y := (c_M_couple, 11, R_M, some .int, y_M_couple, 0, 0, 4, [])
abbrev Y_M_isEnd : kx_Y := (c_M_isEnd, 1, R_M, some .boolean, y_M_isEnd, 0, 0, 1, [])
abbrev Y_M_together : kx_Y := (c_M_together, 5, R_M, some .boolean, y_M_together, 0, 0, 3, [])
abbrev Y_M_run : kx_Y := (c_M_run, 5, R_M, some .int, y_M_run, 0, 0, 2, [])
abbrev Y_M_turn : kx_Y := (c_M_turn, 3, R_M, none, y_M_turn, 0, 0, 1, [])
abbrev Y_M_uncouple : kx_Y := (c_M_uncouple, 6, R_M, some .int, y_M_uncouple, 0, 0, 2, [])
abbrev Y_M_reset : kx_Y := (c_M_reset, 3, R_M, none, y_M_reset, 0, 0, 2, [])
abbrev Y_M_rounds : kx_Y := (c_M_rounds, 5, R_M, some .int, y_M_rounds, 0, 0, 5, [])
abbrev Y_M_round : kx_Y := (c_M_round, 4, R_M, some .int, y_M_round, 0, 0, 4, [])
abbrev Y_M_copy : kx_Y := (c_M_copy, 2, R_M, none, y_M_copy, 0, 0, 1, [])
abbrev Y_M_hears : kx_Y := (c_M_hears, 3, R_M, some .boolean, y_M_hears, 0, 0, 1, [])
abbrev Y_M_look : kx_Y := (c_M_look, 5, R_M, none, y_M_look, 0, 0, 2, [])
abbrev Y_M_settle : kx_Y := (c_M_settle, 6, R_M, none, y_M_settle, 0, 0, 3, [])
abbrev Y_M_seen : kx_Y := (c_M_seen, 6, R_M, some .int, y_M_seen, 0, 0, 2, [])
abbrev Y_M_learn : kx_Y := (c_M_learn, 9, R_M, none, y_M_learn, 0, 0, 2, [])
abbrev Y_M_agrees : kx_Y := (c_M_agrees, 5, R_M, some .boolean, y_M_agrees, 0, 0, 1, [])
abbrev Y_M_place : kx_Y := (c_M_place, 4, R_M, some .int, y_M_place, 0, 0, 1, [])
abbrev Y_M_coupling : kx_Y := (c_M_coupling, 4, R_M, some .int, y_M_coupling, 0, 0, 2, [])
abbrev Y_M_about : kx_Y := (c_M_about, 5, R_M, some .int, y_M_about, 0, 0, 3, [])
abbrev Y_M_stateOf : kx_Y := (c_M_stateOf, 4, R_M, some .int, y_M_stateOf, 0, 0, 2, [])
abbrev Y_M_directory : kx_Y := (c_M_directory, 4, R_M, some .int, y_M_directory, 0, 0, 2, [])
abbrev Y_M_view : kx_Y := (c_M_view, 6, R_M, some .int, y_M_view, 0, 0, 2, [])
abbrev Y_M_put : kx_Y := (c_M_put, 6, R_M, some .int, y_M_put, 0, 0, 2, [])
abbrev Y_M_get : kx_Y := (c_M_get, 6, R_M, some .int, y_M_get, 0, 0, 2, [])
abbrev Y_M_side : kx_Y := (c_M_side, 7, R_M, some .int, y_M_side, 0, 0, 2, [])
abbrev Y_M_order : kx_Y := (c_M_order, 5, R_M, some .int, y_M_order, 0, 0, 3, [])
abbrev Y_M_settled : kx_Y := (c_M_settled, 6, R_M, some .int, y_M_settled, 0, 0, 3, [])
abbrev Y_M_count : kx_Y := (c_M_count, 2, R_M, some .int, y_M_count, 0, 0, 2, [])
theorem f_B_11 : kx_F R_B 11 4 0 := ⟨_, _, _, rfl, by decide, u_B, kx_in 42 (by decide +kernel) rfl⟩
theorem f_B_15 : kx_F R_B 15 4 1 := ⟨_, _, _, rfl, by decide, u_B, kx_in 43 (by decide +kernel) rfl⟩
theorem f_B_18 : kx_F R_B 18 4 2 := ⟨_, _, _, rfl, by decide, u_B, kx_in 44 (by decide +kernel) rfl⟩
theorem f_B_25 : kx_F R_B 25 4 3 := ⟨_, _, _, rfl, by decide, u_B, kx_in 45 (by decide +kernel) rfl⟩
theorem f_B_37 : kx_F R_B 37 4 4 := ⟨_, _, _, rfl, by decide, u_B, kx_in 46 (by decide +kernel) rfl⟩
theorem f_B_53 : kx_F R_B 53 1 5 := ⟨_, _, _, rfl, by decide, u_N, kx_in 260 (by decide +kernel) rfl⟩
theorem f_B_77 : kx_F R_B 77 4 6 := ⟨_, _, _, rfl, by decide, u_B, kx_in 48 (by decide +kernel) rfl⟩
theorem f_B_80 : kx_F R_B 80 4 5 := ⟨_, _, _, rfl, by decide, u_B, kx_in 47 (by decide +kernel) rfl⟩
theorem f_B_89 : kx_F R_B 89 1 6 := ⟨_, _, _, rfl, by decide, u_N, kx_in 263 (by decide +kernel) rfl⟩
theorem f_B_103 : kx_F R_B 103 4 7 := ⟨_, _, _, rfl, by decide, u_B, kx_in 49 (by decide +kernel) rfl⟩
theorem f_B_106 : kx_F R_B 106 4 8 := ⟨_, _, _, rfl, by decide, u_B, kx_in 50 (by decide +kernel) rfl⟩
theorem f_B_114 : kx_F R_B 114 0 3 := ⟨_, _, _, rfl, by decide, u_C, kx_in 297 (by decide +kernel) rfl⟩
theorem f_B_120 : kx_F R_B 120 1 1 := ⟨_, _, _, rfl, by decide, u_N, kx_in 251 (by decide +kernel) rfl⟩
theorem f_B_165 : kx_F R_B 165 0 2 := ⟨_, _, _, rfl, by decide, u_C, kx_in 295 (by decide +kernel) rfl⟩
theorem f_B_173 : kx_F R_B 173 1 0 := ⟨_, _, _, rfl, by decide, u_N, kx_in 248 (by decide +kernel) rfl⟩
theorem f_B_183 : kx_F R_B 183 1 4 := ⟨_, _, _, rfl, by decide, u_N, kx_in 258 (by decide +kernel) rfl⟩
theorem f_C_9 : kx_F R_C 9 0 0 := ⟨_, _, _, rfl, by decide, u_C, kx_in 292 (by decide +kernel) rfl⟩
theorem f_C_15 : kx_F R_C 15 0 1 := ⟨_, _, _, rfl, by decide, u_C, kx_in 293 (by decide +kernel) rfl⟩
theorem f_C_20 : kx_F R_C 20 0 2 := ⟨_, _, _, rfl, by decide, u_C, kx_in 294 (by decide +kernel) rfl⟩
theorem f_C_27 : kx_F R_C 27 1 4 := ⟨_, _, _, rfl, by decide, u_N, kx_in 256 (by decide +kernel) rfl⟩
theorem f_C_34 : kx_F R_C 34 0 3 := ⟨_, _, _, rfl, by decide, u_C, kx_in 296 (by decide +kernel) rfl⟩
theorem f_C_38 : kx_F R_C 38 0 4 := ⟨_, _, _, rfl, by decide, u_C, kx_in 298 (by decide +kernel) rfl⟩
theorem f_C_41 : kx_F R_C 41 0 5 := ⟨_, _, _, rfl, by decide, u_C, kx_in 299 (by decide +kernel) rfl⟩
theorem f_C_45 : kx_F R_C 45 0 6 := ⟨_, _, _, rfl, by decide, u_C, kx_in 300 (by decide +kernel) rfl⟩
theorem f_C_60 : kx_F R_C 60 0 7 := ⟨_, _, _, rfl, by decide, u_C, kx_in 301 (by decide +kernel) rfl⟩
theorem f_C_63 : kx_F R_C 63 0 9 := ⟨_, _, _, rfl, by decide, u_C, kx_in 303 (by decide +kernel) rfl⟩
theorem f_C_66 : kx_F R_C 66 0 10 := ⟨_, _, _, rfl, by decide, u_C, kx_in 304 (by decide +kernel) rfl⟩
theorem f_C_69 : kx_F R_C 69 0 8 := ⟨_, _, _, rfl, by decide, u_C, kx_in 302 (by decide +kernel) rfl⟩
theorem f_C_76 : kx_F R_C 76 3 1 := ⟨_, _, _, rfl, by decide, u_R, kx_in 34 (by decide +kernel) rfl⟩
theorem f_C_87 : kx_F R_C 87 1 8 := ⟨_, _, _, rfl, by decide, u_N, kx_in 267 (by decide +kernel) rfl⟩
theorem f_C_90 : kx_F R_C 90 1 1 := ⟨_, _, _, rfl, by decide, u_N, kx_in 250 (by decide +kernel) rfl⟩
theorem f_C_93 : kx_F R_C 93 1 7 := ⟨_, _, _, rfl, by decide, u_N, kx_in 265 (by decide +kernel) rfl⟩
theorem f_C_101 : kx_F R_C 101 1 2 := ⟨_, _, _, rfl, by decide, u_N, kx_in 253 (by decide +kernel) rfl⟩
theorem f_C_108 : kx_F R_C 108 1 5 := ⟨_, _, _, rfl, by decide, u_N, kx_in 261 (by decide +kernel) rfl⟩
theorem f_C_115 : kx_F R_C 115 1 3 := ⟨_, _, _, rfl, by decide, u_N, kx_in 255 (by decide +kernel) rfl⟩
theorem f_C_119 : kx_F R_C 119 1 0 := ⟨_, _, _, rfl, by decide, u_N, kx_in 247 (by decide +kernel) rfl⟩
theorem f_C_122 : kx_F R_C 122 2 4 := ⟨_, _, _, rfl, by decide, u_F, kx_in 230 (by decide +kernel) rfl⟩
theorem f_C_127 : kx_F R_C 127 2 0 := ⟨_, _, _, rfl, by decide, u_F, kx_in 221 (by decide +kernel) rfl⟩
theorem f_C_132 : kx_F R_C 132 2 5 := ⟨_, _, _, rfl, by decide, u_F, kx_in 232 (by decide +kernel) rfl⟩
theorem f_C_133 : kx_F R_C 133 2 1 := ⟨_, _, _, rfl, by decide, u_F, kx_in 224 (by decide +kernel) rfl⟩
theorem f_C_134 : kx_F R_C 134 2 2 := ⟨_, _, _, rfl, by decide, u_F, kx_in 226 (by decide +kernel) rfl⟩
theorem f_C_141 : kx_F R_C 141 2 3 := ⟨_, _, _, rfl, by decide, u_F, kx_in 228 (by decide +kernel) rfl⟩
theorem f_N_9 : kx_F R_N 9 1 0 := ⟨_, _, _, rfl, by decide, u_N, kx_in 246 (by decide +kernel) rfl⟩
theorem f_N_18 : kx_F R_N 18 1 1 := ⟨_, _, _, rfl, by decide, u_N, kx_in 249 (by decide +kernel) rfl⟩
theorem f_N_22 : kx_F R_N 22 1 2 := ⟨_, _, _, rfl, by decide, u_N, kx_in 252 (by decide +kernel) rfl⟩
theorem f_N_28 : kx_F R_N 28 1 3 := ⟨_, _, _, rfl, by decide, u_N, kx_in 254 (by decide +kernel) rfl⟩
theorem f_N_32 : kx_F R_N 32 1 6 := ⟨_, _, _, rfl, by decide, u_N, kx_in 262 (by decide +kernel) rfl⟩
theorem f_N_35 : kx_F R_N 35 1 5 := ⟨_, _, _, rfl, by decide, u_N, kx_in 259 (by decide +kernel) rfl⟩
theorem f_N_42 : kx_F R_N 42 1 7 := ⟨_, _, _, rfl, by decide, u_N, kx_in 264 (by decide +kernel) rfl⟩
theorem f_N_46 : kx_F R_N 46 1 8 := ⟨_, _, _, rfl, by decide, u_N, kx_in 266 (by decide +kernel) rfl⟩
theorem f_N_49 : kx_F R_N 49 1 4 := ⟨_, _, _, rfl, by decide, u_N, kx_in 257 (by decide +kernel) rfl⟩
theorem f_N_55 : kx_F R_N 55 2 4 := ⟨_, _, _, rfl, by decide, u_F, kx_in 229 (by decide +kernel) rfl⟩
theorem f_N_62 : kx_F R_N 62 2 0 := ⟨_, _, _, rfl, by decide, u_F, kx_in 220 (by decide +kernel) rfl⟩
theorem f_N_67 : kx_F R_N 67 2 5 := ⟨_, _, _, rfl, by decide, u_F, kx_in 231 (by decide +kernel) rfl⟩
theorem f_N_68 : kx_F R_N 68 2 1 := ⟨_, _, _, rfl, by decide, u_F, kx_in 223 (by decide +kernel) rfl⟩
theorem f_F_12 : kx_F R_F 12 2 0 := ⟨_, _, _, rfl, by decide, u_F, kx_in 219 (by decide +kernel) rfl⟩
theorem f_F_18 : kx_F R_F 18 2 1 := ⟨_, _, _, rfl, by decide, u_F, kx_in 222 (by decide +kernel) rfl⟩
theorem f_F_21 : kx_F R_F 21 2 2 := ⟨_, _, _, rfl, by decide, u_F, kx_in 225 (by decide +kernel) rfl⟩
theorem f_F_25 : kx_F R_F 25 2 3 := ⟨_, _, _, rfl, by decide, u_F, kx_in 227 (by decide +kernel) rfl⟩
theorem f_R_9 : kx_F R_R 9 3 0 := ⟨_, _, _, rfl, by decide, u_R, kx_in 32 (by decide +kernel) rfl⟩
theorem f_R_15 : kx_F R_R 15 3 1 := ⟨_, _, _, rfl, by decide, u_R, kx_in 33 (by decide +kernel) rfl⟩
theorem f_M_7 : kx_F R_M 7 5 2 := ⟨_, _, _, rfl, by decide, u_M, kx_in 602 (by decide +kernel) rfl⟩
theorem f_M_13 : kx_F R_M 13 5 3 := ⟨_, _, _, rfl, by decide, u_M, kx_in 603 (by decide +kernel) rfl⟩
theorem f_M_16 : kx_F R_M 16 5 4 := ⟨_, _, _, rfl, by decide, u_M, kx_in 604 (by decide +kernel) rfl⟩
theorem f_M_19 : kx_F R_M 19 5 5 := ⟨_, _, _, rfl, by decide, u_M, kx_in 605 (by decide +kernel) rfl⟩
theorem f_M_22 : kx_F R_M 22 5 6 := ⟨_, _, _, rfl, by decide, u_M, kx_in 606 (by decide +kernel) rfl⟩
theorem f_M_26 : kx_F R_M 26 5 10 := ⟨_, _, _, rfl, by decide, u_M, kx_in 610 (by decide +kernel) rfl⟩
theorem f_M_29 : kx_F R_M 29 5 11 := ⟨_, _, _, rfl, by decide, u_M, kx_in 611 (by decide +kernel) rfl⟩
theorem f_M_32 : kx_F R_M 32 5 12 := ⟨_, _, _, rfl, by decide, u_M, kx_in 612 (by decide +kernel) rfl⟩
theorem f_M_35 : kx_F R_M 35 5 13 := ⟨_, _, _, rfl, by decide, u_M, kx_in 613 (by decide +kernel) rfl⟩
theorem f_M_38 : kx_F R_M 38 5 14 := ⟨_, _, _, rfl, by decide, u_M, kx_in 614 (by decide +kernel) rfl⟩
theorem f_M_41 : kx_F R_M 41 5 15 := ⟨_, _, _, rfl, by decide, u_M, kx_in 615 (by decide +kernel) rfl⟩
theorem f_M_44 : kx_F R_M 44 5 16 := ⟨_, _, _, rfl, by decide, u_M, kx_in 616 (by decide +kernel) rfl⟩
theorem f_M_47 : kx_F R_M 47 5 17 := ⟨_, _, _, rfl, by decide, u_M, kx_in 617 (by decide +kernel) rfl⟩
theorem f_M_50 : kx_F R_M 50 5 18 := ⟨_, _, _, rfl, by decide, u_M, kx_in 618 (by decide +kernel) rfl⟩
theorem f_M_53 : kx_F R_M 53 5 19 := ⟨_, _, _, rfl, by decide, u_M, kx_in 619 (by decide +kernel) rfl⟩
theorem f_M_56 : kx_F R_M 56 5 20 := ⟨_, _, _, rfl, by decide, u_M, kx_in 620 (by decide +kernel) rfl⟩
theorem f_M_59 : kx_F R_M 59 5 21 := ⟨_, _, _, rfl, by decide, u_M, kx_in 621 (by decide +kernel) rfl⟩
theorem f_M_62 : kx_F R_M 62 5 22 := ⟨_, _, _, rfl, by decide, u_M, kx_in 622 (by decide +kernel) rfl⟩
theorem f_M_65 : kx_F R_M 65 5 23 := ⟨_, _, _, rfl, by decide, u_M, kx_in 623 (by decide +kernel) rfl⟩
theorem f_M_68 : kx_F R_M 68 5 24 := ⟨_, _, _, rfl, by decide, u_M, kx_in 624 (by decide +kernel) rfl⟩
theorem f_M_71 : kx_F R_M 71 5 25 := ⟨_, _, _, rfl, by decide, u_M, kx_in 625 (by decide +kernel) rfl⟩
theorem f_M_74 : kx_F R_M 74 5 26 := ⟨_, _, _, rfl, by decide, u_M, kx_in 626 (by decide +kernel) rfl⟩
theorem f_M_77 : kx_F R_M 77 5 27 := ⟨_, _, _, rfl, by decide, u_M, kx_in 627 (by decide +kernel) rfl⟩
theorem f_M_80 : kx_F R_M 80 5 28 := ⟨_, _, _, rfl, by decide, u_M, kx_in 628 (by decide +kernel) rfl⟩
theorem f_M_83 : kx_F R_M 83 5 29 := ⟨_, _, _, rfl, by decide, u_M, kx_in 629 (by decide +kernel) rfl⟩
theorem f_M_86 : kx_F R_M 86 5 30 := ⟨_, _, _, rfl, by decide, u_M, kx_in 630 (by decide +kernel) rfl⟩
theorem f_M_89 : kx_F R_M 89 5 0 := ⟨_, _, _, rfl, by decide, u_M, kx_in 600 (by decide +kernel) rfl⟩
theorem f_M_93 : kx_F R_M 93 5 1 := ⟨_, _, _, rfl, by decide, u_M, kx_in 601 (by decide +kernel) rfl⟩
theorem f_M_123 : kx_F R_M 123 5 7 := ⟨_, _, _, rfl, by decide, u_M, kx_in 607 (by decide +kernel) rfl⟩
theorem f_M_152 : kx_F R_M 152 5 8 := ⟨_, _, _, rfl, by decide, u_M, kx_in 608 (by decide +kernel) rfl⟩
theorem f_M_155 : kx_F R_M 155 5 9 := ⟨_, _, _, rfl, by decide, u_M, kx_in 609 (by decide +kernel) rfl⟩
theorem p_C_0 (v : Int32) : kx_P 0 0 true (.int v) := ⟨_, _, _, _, _, rfl, ty_C_ok, nm_C, rfl, fun _ => rfl, ty_C_ok 0 (by decide), rfl, rfl⟩
theorem p_C_1 (v : Int32) : kx_P 0 1 true (.int v) := ⟨_, _, _, _, _, rfl, ty_C_ok, nm_C, rfl, fun _ => rfl, ty_C_ok 1 (by decide), rfl, rfl⟩
theorem p_C_2 (a : Nat) : kx_P 0 2 true (.ref a) := ⟨_, _, _, _, _, rfl, ty_C_ok, nm_C, rfl, fun _ => rfl, ty_C_ok 2 (by decide), rfl, rfl⟩
theorem p_C_3 (a : Nat) : kx_P 0 3 true (.ref a) := ⟨_, _, _, _, _, rfl, ty_C_ok, nm_C, rfl, fun _ => rfl, ty_C_ok 3 (by decide), rfl, rfl⟩
theorem p_C_4 (a : Nat) : kx_P 0 4 true (.ref a) := ⟨_, _, _, _, _, rfl, ty_C_ok, nm_C, rfl, fun _ => rfl, ty_C_ok 4 (by decide), rfl, rfl⟩
theorem p_C_5 (a : Nat) : kx_P 0 5 true (.ref a) := ⟨_, _, _, _, _, rfl, ty_C_ok, nm_C, rfl, fun _ => rfl, ty_C_ok 5 (by decide), rfl, rfl⟩
theorem p_C_6 (a : Nat) : kx_P 0 6 true (.ref a) := ⟨_, _, _, _, _, rfl, ty_C_ok, nm_C, rfl, fun _ => rfl, ty_C_ok 6 (by decide), rfl, rfl⟩
theorem p_C_7 (v : Int32) : kx_P 0 7 false (.int v) := ⟨_, _, _, _, _, rfl, ty_C_ok, nm_C, rfl, fun _ => rfl, ty_C_ok 7 (by decide), rfl, rfl⟩
theorem p_C_8 (v : Int32) : kx_P 0 8 false (.int v) := ⟨_, _, _, _, _, rfl, ty_C_ok, nm_C, rfl, fun _ => rfl, ty_C_ok 8 (by decide), rfl, rfl⟩
theorem p_C_9 (v : Int32) : kx_P 0 9 false (.int v) := ⟨_, _, _, _, _, rfl, ty_C_ok, nm_C, rfl, fun _ => rfl, ty_C_ok 9 (by decide), rfl, rfl⟩
theorem p_C_10 (v : Int32) : kx_P 0 10 false (.int v) := ⟨_, _, _, _, _, rfl, ty_C_ok, nm_C, rfl, fun _ => rfl, ty_C_ok 10 (by decide), rfl, rfl⟩
theorem p_N_0 (v : Int32) : kx_P 1 0 true (.int v) := ⟨_, _, _, _, _, rfl, ty_N_ok, nm_N, rfl, fun _ => rfl, ty_N_ok 0 (by decide), rfl, rfl⟩
theorem p_N_1 (a : Nat) : kx_P 1 1 true (.ref a) := ⟨_, _, _, _, _, rfl, ty_N_ok, nm_N, rfl, fun _ => rfl, ty_N_ok 1 (by decide), rfl, rfl⟩
theorem p_N_2 (a : Nat) : kx_P 1 2 true (.ref a) := ⟨_, _, _, _, _, rfl, ty_N_ok, nm_N, rfl, fun _ => rfl, ty_N_ok 2 (by decide), rfl, rfl⟩
theorem p_N_3 (a : Nat) : kx_P 1 3 true (.ref a) := ⟨_, _, _, _, _, rfl, ty_N_ok, nm_N, rfl, fun _ => rfl, ty_N_ok 3 (by decide), rfl, rfl⟩
theorem p_N_4 (a : Nat) : kx_P 1 4 false (.ref a) := ⟨_, _, _, _, _, rfl, ty_N_ok, nm_N, rfl, fun _ => rfl, ty_N_ok 4 (by decide), rfl, rfl⟩
theorem p_N_4_n : kx_P 1 4 false .null := ⟨_, _, _, _, _, rfl, ty_N_ok, nm_N, rfl, fun _ => rfl, ty_N_ok 4 (by decide), rfl, rfl⟩
theorem p_N_5 (a : Nat) : kx_P 1 5 false (.ref a) := ⟨_, _, _, _, _, rfl, ty_N_ok, nm_N, rfl, fun _ => rfl, ty_N_ok 5 (by decide), rfl, rfl⟩
theorem p_N_5_n : kx_P 1 5 false .null := ⟨_, _, _, _, _, rfl, ty_N_ok, nm_N, rfl, fun _ => rfl, ty_N_ok 5 (by decide), rfl, rfl⟩
theorem p_N_6 (v : Int32) : kx_P 1 6 false (.int v) := ⟨_, _, _, _, _, rfl, ty_N_ok, nm_N, rfl, fun _ => rfl, ty_N_ok 6 (by decide), rfl, rfl⟩
theorem p_N_7_0 : kx_P 1 7 false (.int (nI 0)) := ⟨_, _, _, _, _, rfl, ty_N_ok, nm_N, rfl, fun _ => rfl, ty_N_ok 7 (by decide), by decide +kernel, by decide +kernel⟩
theorem p_N_7_1 : kx_P 1 7 false (.int (nI 1)) := ⟨_, _, _, _, _, rfl, ty_N_ok, nm_N, rfl, fun _ => rfl, ty_N_ok 7 (by decide), by decide +kernel, by decide +kernel⟩
theorem p_N_8 (v : Int32) : kx_P 1 8 false (.int v) := ⟨_, _, _, _, _, rfl, ty_N_ok, nm_N, rfl, fun _ => rfl, ty_N_ok 8 (by decide), rfl, rfl⟩
theorem p_F_0 (a : Nat) : kx_P 2 0 true (.ref a) := ⟨_, _, _, _, _, rfl, ty_F_ok, nm_F, rfl, fun _ => rfl, ty_F_ok 0 (by decide), rfl, rfl⟩
theorem p_F_1 (a : Nat) : kx_P 2 1 true (.ref a) := ⟨_, _, _, _, _, rfl, ty_F_ok, nm_F, rfl, fun _ => rfl, ty_F_ok 1 (by decide), rfl, rfl⟩
theorem p_F_2 (a : Nat) : kx_P 2 2 true (.ref a) := ⟨_, _, _, _, _, rfl, ty_F_ok, nm_F, rfl, fun _ => rfl, ty_F_ok 2 (by decide), rfl, rfl⟩
theorem p_F_3 (a : Nat) : kx_P 2 3 true (.ref a) := ⟨_, _, _, _, _, rfl, ty_F_ok, nm_F, rfl, fun _ => rfl, ty_F_ok 3 (by decide), rfl, rfl⟩
theorem p_F_4 (v : Int32) : kx_P 2 4 false (.int v) := ⟨_, _, _, _, _, rfl, ty_F_ok, nm_F, rfl, fun _ => rfl, ty_F_ok 4 (by decide), rfl, rfl⟩
theorem p_F_5_0 : kx_P 2 5 false (.int (nI 0)) := ⟨_, _, _, _, _, rfl, ty_F_ok, nm_F, rfl, fun _ => rfl, ty_F_ok 5 (by decide), by decide +kernel, by decide +kernel⟩
theorem p_F_5_1 : kx_P 2 5 false (.int (nI 1)) := ⟨_, _, _, _, _, rfl, ty_F_ok, nm_F, rfl, fun _ => rfl, ty_F_ok 5 (by decide), by decide +kernel, by decide +kernel⟩
theorem p_R_0 (a : Nat) : kx_P 3 0 true (.ref a) := ⟨_, _, _, _, _, rfl, ty_R_ok, nm_R, rfl, fun _ => rfl, ty_R_ok 0 (by decide), rfl, rfl⟩
theorem p_R_1 (v : Int32) : kx_P 3 1 false (.int v) := ⟨_, _, _, _, _, rfl, ty_R_ok, nm_R, rfl, fun _ => rfl, ty_R_ok 1 (by decide), rfl, rfl⟩
theorem p_B_0 (a : Nat) : kx_P 4 0 true (.ref a) := ⟨_, _, _, _, _, rfl, ty_B_ok, nm_B, rfl, fun _ => rfl, ty_B_ok 0 (by decide), rfl, rfl⟩
theorem p_B_1 (a : Nat) : kx_P 4 1 true (.ref a) := ⟨_, _, _, _, _, rfl, ty_B_ok, nm_B, rfl, fun _ => rfl, ty_B_ok 1 (by decide), rfl, rfl⟩
theorem p_B_2 (a : Nat) : kx_P 4 2 true (.ref a) := ⟨_, _, _, _, _, rfl, ty_B_ok, nm_B, rfl, fun _ => rfl, ty_B_ok 2 (by decide), rfl, rfl⟩
theorem p_B_3 (a : Nat) : kx_P 4 3 true (.ref a) := ⟨_, _, _, _, _, rfl, ty_B_ok, nm_B, rfl, fun _ => rfl, ty_B_ok 3 (by decide), rfl, rfl⟩
theorem p_B_4 (v : Int32) : kx_P 4 4 false (.int v) := ⟨_, _, _, _, _, rfl, ty_B_ok, nm_B, rfl, fun _ => rfl, ty_B_ok 4 (by decide), rfl, rfl⟩
theorem p_B_5 (v : Int32) : kx_P 4 5 false (.int v) := ⟨_, _, _, _, _, rfl, ty_B_ok, nm_B, rfl, fun _ => rfl, ty_B_ok 5 (by decide), rfl, rfl⟩
theorem p_B_6 (v : Int32) : kx_P 4 6 false (.int v) := ⟨_, _, _, _, _, rfl, ty_B_ok, nm_B, rfl, fun _ => rfl, ty_B_ok 6 (by decide), rfl, rfl⟩
theorem p_B_7 (v : Int32) : kx_P 4 7 false (.int v) := ⟨_, _, _, _, _, rfl, ty_B_ok, nm_B, rfl, fun _ => rfl, ty_B_ok 7 (by decide), rfl, rfl⟩
theorem p_B_8 (v : Int32) : kx_P 4 8 false (.int v) := ⟨_, _, _, _, _, rfl, ty_B_ok, nm_B, rfl, fun _ => rfl, ty_B_ok 8 (by decide), rfl, rfl⟩
theorem p_M_0 (v : Int32) : kx_P 5 0 false (.int v) := ⟨_, _, _, _, _, rfl, ty_M_ok, nm_M, rfl, fun _ => rfl, ty_M_ok 0 (by decide), rfl, rfl⟩
theorem p_M_1 (v : Int32) : kx_P 5 1 false (.int v) := ⟨_, _, _, _, _, rfl, ty_M_ok, nm_M, rfl, fun _ => rfl, ty_M_ok 1 (by decide), rfl, rfl⟩
theorem p_M_2 (a : Nat) : kx_P 5 2 true (.ref a) := ⟨_, _, _, _, _, rfl, ty_M_ok, nm_M, rfl, fun _ => rfl, ty_M_ok 2 (by decide), rfl, rfl⟩
theorem p_M_3 (a : Nat) : kx_P 5 3 true (.ref a) := ⟨_, _, _, _, _, rfl, ty_M_ok, nm_M, rfl, fun _ => rfl, ty_M_ok 3 (by decide), rfl, rfl⟩
theorem p_M_4 (a : Nat) : kx_P 5 4 true (.ref a) := ⟨_, _, _, _, _, rfl, ty_M_ok, nm_M, rfl, fun _ => rfl, ty_M_ok 4 (by decide), rfl, rfl⟩
theorem p_M_5 (a : Nat) : kx_P 5 5 true (.ref a) := ⟨_, _, _, _, _, rfl, ty_M_ok, nm_M, rfl, fun _ => rfl, ty_M_ok 5 (by decide), rfl, rfl⟩
theorem p_M_6 (a : Nat) : kx_P 5 6 true (.ref a) := ⟨_, _, _, _, _, rfl, ty_M_ok, nm_M, rfl, fun _ => rfl, ty_M_ok 6 (by decide), rfl, rfl⟩
theorem p_M_7 (v : Int32) : kx_P 5 7 false (.int v) := ⟨_, _, _, _, _, rfl, ty_M_ok, nm_M, rfl, fun _ => rfl, ty_M_ok 7 (by decide), rfl, rfl⟩
theorem p_M_8 (v : Int32) : kx_P 5 8 false (.int v) := ⟨_, _, _, _, _, rfl, ty_M_ok, nm_M, rfl, fun _ => rfl, ty_M_ok 8 (by decide), rfl, rfl⟩
theorem p_M_9 (v : Int32) : kx_P 5 9 false (.int v) := ⟨_, _, _, _, _, rfl, ty_M_ok, nm_M, rfl, fun _ => rfl, ty_M_ok 9 (by decide), rfl, rfl⟩
theorem p_M_10 (a : Nat) : kx_P 5 10 true (.ref a) := ⟨_, _, _, _, _, rfl, ty_M_ok, nm_M, rfl, fun _ => rfl, ty_M_ok 10 (by decide), rfl, rfl⟩
theorem p_M_11 (a : Nat) : kx_P 5 11 true (.ref a) := ⟨_, _, _, _, _, rfl, ty_M_ok, nm_M, rfl, fun _ => rfl, ty_M_ok 11 (by decide), rfl, rfl⟩
theorem p_M_12 (a : Nat) : kx_P 5 12 true (.ref a) := ⟨_, _, _, _, _, rfl, ty_M_ok, nm_M, rfl, fun _ => rfl, ty_M_ok 12 (by decide), rfl, rfl⟩
theorem p_M_13 (a : Nat) : kx_P 5 13 true (.ref a) := ⟨_, _, _, _, _, rfl, ty_M_ok, nm_M, rfl, fun _ => rfl, ty_M_ok 13 (by decide), rfl, rfl⟩
theorem p_M_14 (a : Nat) : kx_P 5 14 true (.ref a) := ⟨_, _, _, _, _, rfl, ty_M_ok, nm_M, rfl, fun _ => rfl, ty_M_ok 14 (by decide), rfl, rfl⟩
theorem p_M_15 (a : Nat) : kx_P 5 15 true (.ref a) := ⟨_, _, _, _, _, rfl, ty_M_ok, nm_M, rfl, fun _ => rfl, ty_M_ok 15 (by decide), rfl, rfl⟩
theorem p_M_16 (a : Nat) : kx_P 5 16 true (.ref a) := ⟨_, _, _, _, _, rfl, ty_M_ok, nm_M, rfl, fun _ => rfl, ty_M_ok 16 (by decide), rfl, rfl⟩
theorem p_M_17 (a : Nat) : kx_P 5 17 true (.ref a) := ⟨_, _, _, _, _, rfl, ty_M_ok, nm_M, rfl, fun _ => rfl, ty_M_ok 17 (by decide), rfl, rfl⟩
theorem p_M_18 (a : Nat) : kx_P 5 18 true (.ref a) := ⟨_, _, _, _, _, rfl, ty_M_ok, nm_M, rfl, fun _ => rfl, ty_M_ok 18 (by decide), rfl, rfl⟩
theorem p_M_19 (a : Nat) : kx_P 5 19 true (.ref a) := ⟨_, _, _, _, _, rfl, ty_M_ok, nm_M, rfl, fun _ => rfl, ty_M_ok 19 (by decide), rfl, rfl⟩
theorem p_M_20 (a : Nat) : kx_P 5 20 true (.ref a) := ⟨_, _, _, _, _, rfl, ty_M_ok, nm_M, rfl, fun _ => rfl, ty_M_ok 20 (by decide), rfl, rfl⟩
theorem p_M_21 (a : Nat) : kx_P 5 21 true (.ref a) := ⟨_, _, _, _, _, rfl, ty_M_ok, nm_M, rfl, fun _ => rfl, ty_M_ok 21 (by decide), rfl, rfl⟩
theorem p_M_22 (a : Nat) : kx_P 5 22 true (.ref a) := ⟨_, _, _, _, _, rfl, ty_M_ok, nm_M, rfl, fun _ => rfl, ty_M_ok 22 (by decide), rfl, rfl⟩
theorem p_M_23 (a : Nat) : kx_P 5 23 true (.ref a) := ⟨_, _, _, _, _, rfl, ty_M_ok, nm_M, rfl, fun _ => rfl, ty_M_ok 23 (by decide), rfl, rfl⟩
theorem p_M_24 (a : Nat) : kx_P 5 24 true (.ref a) := ⟨_, _, _, _, _, rfl, ty_M_ok, nm_M, rfl, fun _ => rfl, ty_M_ok 24 (by decide), rfl, rfl⟩
theorem p_M_25 (a : Nat) : kx_P 5 25 true (.ref a) := ⟨_, _, _, _, _, rfl, ty_M_ok, nm_M, rfl, fun _ => rfl, ty_M_ok 25 (by decide), rfl, rfl⟩
theorem p_M_26 (a : Nat) : kx_P 5 26 true (.ref a) := ⟨_, _, _, _, _, rfl, ty_M_ok, nm_M, rfl, fun _ => rfl, ty_M_ok 26 (by decide), rfl, rfl⟩
theorem p_M_27 (a : Nat) : kx_P 5 27 true (.ref a) := ⟨_, _, _, _, _, rfl, ty_M_ok, nm_M, rfl, fun _ => rfl, ty_M_ok 27 (by decide), rfl, rfl⟩
theorem p_M_28 (a : Nat) : kx_P 5 28 true (.ref a) := ⟨_, _, _, _, _, rfl, ty_M_ok, nm_M, rfl, fun _ => rfl, ty_M_ok 28 (by decide), rfl, rfl⟩
theorem p_M_29 (a : Nat) : kx_P 5 29 true (.ref a) := ⟨_, _, _, _, _, rfl, ty_M_ok, nm_M, rfl, fun _ => rfl, ty_M_ok 29 (by decide), rfl, rfl⟩
theorem p_M_30 (a : Nat) : kx_P 5 30 true (.ref a) := ⟨_, _, _, _, _, rfl, ty_M_ok, nm_M, rfl, fun _ => rfl, ty_M_ok 30 (by decide), rfl, rfl⟩
theorem o_B_1 : Cond.methodLink R_B 1 Lib.objectInit ∈ kx_WS := kx_in 21 (by decide +kernel) rfl
theorem i_B_24 : kx_LI R_B 24 0 Y_R_init := ⟨rfl, rfl, rfl, k_R_init, kx_in 28 (by decide +kernel) rfl, kx_in 29 (by decide +kernel) rfl, kx_in 2 (by decide +kernel) rfl, by decide, by decide, by decide +kernel⟩
theorem i_B_46 : kx_LI R_B 46 2 Y_C_init := ⟨rfl, rfl, rfl, k_C_init, kx_in 198 (by decide +kernel) rfl, kx_in 199 (by decide +kernel) rfl, kx_in 9 (by decide +kernel) rfl, by decide, by decide, by decide +kernel⟩
theorem v_B_49 : kx_LV R_B 49 2 Y_B_endOf := ⟨rfl, k_B_endOf, kx_in 336 (by decide +kernel) rfl, kx_in 338 (by decide +kernel) rfl, kx_inS (y_B_endOf, 9) (by decide +kernel), kx_in 1 (by decide +kernel) rfl, rfl, by decide, by decide, by decide +kernel⟩
theorem v_B_59 : kx_LV R_B 59 1 Y_B_carOf := ⟨rfl, k_B_carOf, kx_in 340 (by decide +kernel) rfl, kx_in 342 (by decide +kernel) rfl, kx_inS (y_B_carOf, 9) (by decide +kernel), kx_in 1 (by decide +kernel) rfl, rfl, by decide, by decide, by decide +kernel⟩
theorem v_B_63 : kx_LV R_B 63 1 Y_B_trueRun := ⟨rfl, k_B_trueRun, kx_in 87 (by decide +kernel) rfl, kx_in 89 (by decide +kernel) rfl, kx_inS (y_B_trueRun, 9) (by decide +kernel), kx_in 1 (by decide +kernel) rfl, rfl, by decide, by decide, by decide +kernel⟩
theorem v_B_67 : kx_LV R_B 67 1 Y_R_numberOf := ⟨rfl, k_R_numberOf, kx_in 365 (by decide +kernel) rfl, kx_in 366 (by decide +kernel) rfl, kx_in 367 (by decide +kernel) rfl, kx_in 2 (by decide +kernel) rfl, rfl, by decide, by decide, by decide +kernel⟩
theorem v_B_73 : kx_LV R_B 73 0 Y_B_freeNumber := ⟨rfl, k_B_freeNumber, kx_in 370 (by decide +kernel) rfl, kx_in 372 (by decide +kernel) rfl, kx_inS (y_B_freeNumber, 9) (by decide +kernel), kx_in 1 (by decide +kernel) rfl, rfl, by decide, by decide, by decide +kernel⟩
theorem v_B_83 : kx_LV R_B 83 2 Y_N_join := ⟨rfl, k_N_join, kx_in 374 (by decide +kernel) rfl, kx_in 375 (by decide +kernel) rfl, kx_in 376 (by decide +kernel) rfl, kx_in 10 (by decide +kernel) rfl, rfl, by decide, by decide, by decide +kernel⟩
theorem v_B_92 : kx_LV R_B 92 0 Y_N_part := ⟨rfl, k_N_part, kx_in 386 (by decide +kernel) rfl, kx_in 387 (by decide +kernel) rfl, kx_in 388 (by decide +kernel) rfl, kx_in 10 (by decide +kernel) rfl, rfl, by decide, by decide, by decide +kernel⟩
theorem v_B_95 : kx_LV R_B 95 0 Y_C_forget := ⟨rfl, k_C_forget, kx_in 397 (by decide +kernel) rfl, kx_in 398 (by decide +kernel) rfl, kx_in 399 (by decide +kernel) rfl, kx_in 9 (by decide +kernel) rfl, rfl, by decide, by decide, by decide +kernel⟩
theorem v_B_100 : kx_LV R_B 100 1 Y_B_playRound := ⟨rfl, k_B_playRound, kx_in 415 (by decide +kernel) rfl, kx_in 417 (by decide +kernel) rfl, kx_inS (y_B_playRound, 9) (by decide +kernel), kx_in 1 (by decide +kernel) rfl, rfl, by decide, by decide, by decide +kernel⟩
theorem v_B_111 : kx_LV R_B 111 1 Y_C_fact := ⟨rfl, k_C_fact, kx_in 511 (by decide +kernel) rfl, kx_in 512 (by decide +kernel) rfl, kx_in 513 (by decide +kernel) rfl, kx_in 9 (by decide +kernel) rfl, rfl, by decide, by decide, by decide +kernel⟩
theorem v_B_117 : kx_LV R_B 117 1 Y_R_idAt := ⟨rfl, k_R_idAt, kx_in 527 (by decide +kernel) rfl, kx_in 480 (by decide +kernel) rfl, kx_in 481 (by decide +kernel) rfl, kx_in 2 (by decide +kernel) rfl, rfl, by decide, by decide, by decide +kernel⟩
theorem v_B_123 : kx_LV R_B 123 1 Y_R_itemAt := ⟨rfl, k_R_itemAt, kx_in 535 (by decide +kernel) rfl, kx_in 536 (by decide +kernel) rfl, kx_in 537 (by decide +kernel) rfl, kx_in 2 (by decide +kernel) rfl, rfl, by decide, by decide, by decide +kernel⟩
theorem v_B_128 : kx_LV R_B 128 2 Y_C_replaceByte := ⟨rfl, k_C_replaceByte, kx_in 547 (by decide +kernel) rfl, kx_in 548 (by decide +kernel) rfl, kx_in 549 (by decide +kernel) rfl, kx_in 9 (by decide +kernel) rfl, rfl, by decide, by decide, by decide +kernel⟩
theorem v_B_134 : kx_LV R_B 134 2 Y_C_known := ⟨rfl, k_C_known, kx_in 562 (by decide +kernel) rfl, kx_in 563 (by decide +kernel) rfl, kx_in 564 (by decide +kernel) rfl, kx_in 9 (by decide +kernel) rfl, rfl, by decide, by decide, by decide +kernel⟩
theorem v_B_139 : kx_LV R_B 139 1 Y_B_carWithId := ⟨rfl, k_B_carWithId, kx_in 344 (by decide +kernel) rfl, kx_in 346 (by decide +kernel) rfl, kx_inS (y_B_carWithId, 9) (by decide +kernel), kx_in 1 (by decide +kernel) rfl, rfl, by decide, by decide, by decide +kernel⟩
theorem v_B_142 : kx_LV R_B 142 1 Y_R_endAt := ⟨rfl, k_R_endAt, kx_in 574 (by decide +kernel) rfl, kx_in 517 (by decide +kernel) rfl, kx_in 518 (by decide +kernel) rfl, kx_in 2 (by decide +kernel) rfl, rfl, by decide, by decide, by decide +kernel⟩
theorem v_B_145 : kx_LV R_B 145 1 Y_C_hasFunction := ⟨rfl, k_C_hasFunction, kx_in 575 (by decide +kernel) rfl, kx_in 576 (by decide +kernel) rfl, kx_in 577 (by decide +kernel) rfl, kx_in 9 (by decide +kernel) rfl, rfl, by decide, by decide, by decide +kernel⟩
theorem v_B_149 : kx_LV R_B 149 0 Y_C_state := ⟨rfl, k_C_state, kx_in 74 (by decide +kernel) rfl, kx_in 75 (by decide +kernel) rfl, kx_in 76 (by decide +kernel) rfl, kx_in 9 (by decide +kernel) rfl, rfl, by decide, by decide, by decide +kernel⟩
theorem v_B_152 : kx_LV R_B 152 1 Y_R_isSameAs := ⟨rfl, k_R_isSameAs, kx_in 103 (by decide +kernel) rfl, kx_in 84 (by decide +kernel) rfl, kx_in 85 (by decide +kernel) rfl, kx_in 2 (by decide +kernel) rfl, rfl, by decide, by decide, by decide +kernel⟩
theorem v_B_169 : kx_LV R_B 169 0 Y_N_outermost := ⟨rfl, k_N_outermost, kx_in 91 (by decide +kernel) rfl, kx_in 92 (by decide +kernel) rfl, kx_in 93 (by decide +kernel) rfl, kx_in 10 (by decide +kernel) rfl, rfl, by decide, by decide, by decide +kernel⟩
theorem v_B_176 : kx_LV R_B 176 0 Y_R_clear := ⟨rfl, k_R_clear, kx_in 95 (by decide +kernel) rfl, kx_in 96 (by decide +kernel) rfl, kx_in 97 (by decide +kernel) rfl, kx_in 2 (by decide +kernel) rfl, rfl, by decide, by decide, by decide +kernel⟩
theorem v_B_179 : kx_LV R_B 179 1 Y_R_append := ⟨rfl, k_R_append, kx_in 99 (by decide +kernel) rfl, kx_in 100 (by decide +kernel) rfl, kx_in 101 (by decide +kernel) rfl, kx_in 2 (by decide +kernel) rfl, rfl, by decide, by decide, by decide +kernel⟩
theorem v_B_186 : kx_LV R_B 186 0 Y_C_makeFrames := ⟨rfl, k_C_makeFrames, kx_in 419 (by decide +kernel) rfl, kx_in 420 (by decide +kernel) rfl, kx_in 421 (by decide +kernel) rfl, kx_in 9 (by decide +kernel) rfl, rfl, by decide, by decide, by decide +kernel⟩
theorem v_B_189 : kx_LV R_B 189 2 Y_C_listen := ⟨rfl, k_C_listen, kx_in 435 (by decide +kernel) rfl, kx_in 436 (by decide +kernel) rfl, kx_in 437 (by decide +kernel) rfl, kx_in 9 (by decide +kernel) rfl, rfl, by decide, by decide, by decide +kernel⟩
theorem o_C_3 : Cond.methodLink R_C 3 Lib.objectInit ∈ kx_WS := kx_in 201 (by decide +kernel) rfl
theorem i_C_24 : kx_LI R_C 24 1 Y_N_init := ⟨rfl, rfl, rfl, k_N_init, kx_in 205 (by decide +kernel) rfl, kx_in 206 (by decide +kernel) rfl, kx_in 10 (by decide +kernel) rfl, by decide, by decide, by decide +kernel⟩
theorem i_C_33 : kx_LI R_C 33 0 Y_R_init := ⟨rfl, rfl, rfl, k_R_init, kx_in 288 (by decide +kernel) rfl, kx_in 29 (by decide +kernel) rfl, kx_in 2 (by decide +kernel) rfl, by decide, by decide, by decide +kernel⟩
theorem s_C_48 : kx_LS R_C 48 2 Y_A_fill := ⟨rfl, k_A_fill, kx_in 289 (by decide +kernel) rfl, kx_in 290 (by decide +kernel) rfl, kx_in 12 (by decide +kernel) rfl, by decide, by decide, by decide +kernel⟩
theorem v_C_54 : kx_LV R_C 54 0 Y_N_forget := ⟨rfl, k_N_forget, kx_in 401 (by decide +kernel) rfl, kx_in 402 (by decide +kernel) rfl, kx_in 403 (by decide +kernel) rfl, kx_in 10 (by decide +kernel) rfl, rfl, by decide, by decide, by decide +kernel⟩
theorem v_C_57 : kx_LV R_C 57 0 Y_R_clear := ⟨rfl, k_R_clear, kx_in 406 (by decide +kernel) rfl, kx_in 96 (by decide +kernel) rfl, kx_in 97 (by decide +kernel) rfl, kx_in 2 (by decide +kernel) rfl, rfl, by decide, by decide, by decide +kernel⟩
theorem s_C_72 : kx_LS R_C 72 2 Y_C_byteOf := ⟨rfl, k_C_byteOf, kx_in 551 (by decide +kernel) rfl, kx_in 552 (by decide +kernel) rfl, kx_in 9 (by decide +kernel) rfl, by decide, by decide, by decide +kernel⟩
theorem v_C_79 : kx_LV R_C 79 0 Y_C_state := ⟨rfl, k_C_state, kx_in 515 (by decide +kernel) rfl, kx_in 75 (by decide +kernel) rfl, kx_in 76 (by decide +kernel) rfl, kx_in 9 (by decide +kernel) rfl, rfl, by decide, by decide, by decide +kernel⟩
theorem v_C_83 : kx_LV R_C 83 1 Y_R_endAt := ⟨rfl, k_R_endAt, kx_in 516 (by decide +kernel) rfl, kx_in 517 (by decide +kernel) rfl, kx_in 518 (by decide +kernel) rfl, kx_in 2 (by decide +kernel) rfl, rfl, by decide, by decide, by decide +kernel⟩
theorem v_C_97 : kx_LV R_C 97 1 Y_C_agreesAt := ⟨rfl, k_C_agreesAt, kx_in 78 (by decide +kernel) rfl, kx_in 80 (by decide +kernel) rfl, kx_inS (y_C_agreesAt, 11) (by decide +kernel), kx_in 9 (by decide +kernel) rfl, rfl, by decide, by decide, by decide +kernel⟩
theorem v_C_104 : kx_LV R_C 104 1 Y_R_isSameAs := ⟨rfl, k_R_isSameAs, kx_in 83 (by decide +kernel) rfl, kx_in 84 (by decide +kernel) rfl, kx_in 85 (by decide +kernel) rfl, kx_in 2 (by decide +kernel) rfl, rfl, by decide, by decide, by decide +kernel⟩
theorem v_C_111 : kx_LV R_C 111 1 Y_C_fillFrame := ⟨rfl, k_C_fillFrame, kx_in 423 (by decide +kernel) rfl, kx_in 425 (by decide +kernel) rfl, kx_inS (y_C_fillFrame, 11) (by decide +kernel), kx_in 9 (by decide +kernel) rfl, rfl, by decide, by decide, by decide +kernel⟩
theorem v_C_128 : kx_LV R_C 128 1 Y_R_copyFrom := ⟨rfl, k_R_copyFrom, kx_in 427 (by decide +kernel) rfl, kx_in 428 (by decide +kernel) rfl, kx_in 429 (by decide +kernel) rfl, kx_in 2 (by decide +kernel) rfl, rfl, by decide, by decide, by decide +kernel⟩
theorem cp_C_135 : kx_CP R_C 135 := ⟨kx_in 434 (by decide +kernel) rfl, kx_in 433 (by decide +kernel) rfl, kx_in 432 (by decide +kernel) rfl, kx_in 14 (by decide +kernel) rfl⟩
theorem v_C_142 : kx_LV R_C 142 1 Y_N_incoming := ⟨rfl, k_N_incoming, kx_in 439 (by decide +kernel) rfl, kx_in 440 (by decide +kernel) rfl, kx_in 441 (by decide +kernel) rfl, kx_in 10 (by decide +kernel) rfl, rfl, by decide, by decide, by decide +kernel⟩
theorem v_C_146 : kx_LV R_C 146 1 Y_N_lookInto := ⟨rfl, k_N_lookInto, kx_in 443 (by decide +kernel) rfl, kx_in 444 (by decide +kernel) rfl, kx_in 445 (by decide +kernel) rfl, kx_in 10 (by decide +kernel) rfl, rfl, by decide, by decide, by decide +kernel⟩
theorem v_C_150 : kx_LV R_C 150 1 Y_C_renewDirectory := ⟨rfl, k_C_renewDirectory, kx_in 461 (by decide +kernel) rfl, kx_in 463 (by decide +kernel) rfl, kx_inS (y_C_renewDirectory, 11) (by decide +kernel), kx_in 9 (by decide +kernel) rfl, rfl, by decide, by decide, by decide +kernel⟩
theorem v_C_154 : kx_LV R_C 154 0 Y_C_growOlder := ⟨rfl, k_C_growOlder, kx_in 484 (by decide +kernel) rfl, kx_in 486 (by decide +kernel) rfl, kx_inS (y_C_growOlder, 11) (by decide +kernel), kx_in 9 (by decide +kernel) rfl, rfl, by decide, by decide, by decide +kernel⟩
theorem v_C_157 : kx_LV R_C 157 1 Y_C_heed := ⟨rfl, k_C_heed, kx_in 488 (by decide +kernel) rfl, kx_in 490 (by decide +kernel) rfl, kx_inS (y_C_heed, 11) (by decide +kernel), kx_in 9 (by decide +kernel) rfl, rfl, by decide, by decide, by decide +kernel⟩
theorem v_C_161 : kx_LV R_C 161 1 Y_C_draftDirectory := ⟨rfl, k_C_draftDirectory, kx_in 465 (by decide +kernel) rfl, kx_in 467 (by decide +kernel) rfl, kx_inS (y_C_draftDirectory, 11) (by decide +kernel), kx_in 9 (by decide +kernel) rfl, rfl, by decide, by decide, by decide +kernel⟩
theorem v_C_164 : kx_LV R_C 164 1 Y_R_numberOf := ⟨rfl, k_R_numberOf, kx_in 483 (by decide +kernel) rfl, kx_in 366 (by decide +kernel) rfl, kx_in 367 (by decide +kernel) rfl, kx_in 2 (by decide +kernel) rfl, rfl, by decide, by decide, by decide +kernel⟩
theorem v_C_167 : kx_LV R_C 167 0 Y_R_turnRound := ⟨rfl, k_R_turnRound, kx_in 469 (by decide +kernel) rfl, kx_in 470 (by decide +kernel) rfl, kx_in 471 (by decide +kernel) rfl, kx_in 2 (by decide +kernel) rfl, rfl, by decide, by decide, by decide +kernel⟩
theorem v_C_170 : kx_LV R_C 170 1 Y_R_append := ⟨rfl, k_R_append, kx_in 473 (by decide +kernel) rfl, kx_in 100 (by decide +kernel) rfl, kx_in 101 (by decide +kernel) rfl, kx_in 2 (by decide +kernel) rfl, rfl, by decide, by decide, by decide +kernel⟩
theorem v_C_173 : kx_LV R_C 173 1 Y_R_appendAll := ⟨rfl, k_R_appendAll, kx_in 474 (by decide +kernel) rfl, kx_in 456 (by decide +kernel) rfl, kx_in 457 (by decide +kernel) rfl, kx_in 2 (by decide +kernel) rfl, rfl, by decide, by decide, by decide +kernel⟩
theorem v_C_176 : kx_LV R_C 176 1 Y_R_hasCarTwice := ⟨rfl, k_R_hasCarTwice, kx_in 475 (by decide +kernel) rfl, kx_in 476 (by decide +kernel) rfl, kx_in 477 (by decide +kernel) rfl, kx_in 2 (by decide +kernel) rfl, rfl, by decide, by decide, by decide +kernel⟩
theorem v_C_180 : kx_LV R_C 180 1 Y_R_idAt := ⟨rfl, k_R_idAt, kx_in 479 (by decide +kernel) rfl, kx_in 480 (by decide +kernel) rfl, kx_in 481 (by decide +kernel) rfl, kx_in 2 (by decide +kernel) rfl, rfl, by decide, by decide, by decide +kernel⟩
theorem v_C_183 : kx_LV R_C 183 1 Y_C_takeNews := ⟨rfl, k_C_takeNews, kx_in 492 (by decide +kernel) rfl, kx_in 494 (by decide +kernel) rfl, kx_inS (y_C_takeNews, 11) (by decide +kernel), kx_in 9 (by decide +kernel) rfl, rfl, by decide, by decide, by decide +kernel⟩
theorem o_N_3 : Cond.methodLink R_N 3 Lib.objectInit ∈ kx_WS := kx_in 208 (by decide +kernel) rfl
theorem i_N_17 : kx_LI R_N 17 0 Y_R_init := ⟨rfl, rfl, rfl, k_R_init, kx_in 210 (by decide +kernel) rfl, kx_in 29 (by decide +kernel) rfl, kx_in 2 (by decide +kernel) rfl, by decide, by decide, by decide +kernel⟩
theorem i_N_27 : kx_LI R_N 27 0 Y_F_init := ⟨rfl, rfl, rfl, k_F_init, kx_in 213 (by decide +kernel) rfl, kx_in 214 (by decide +kernel) rfl, kx_in 11 (by decide +kernel) rfl, by decide, by decide, by decide +kernel⟩
theorem v_N_39 : kx_LV R_N 39 0 Y_R_clear := ⟨rfl, k_R_clear, kx_in 405 (by decide +kernel) rfl, kx_in 96 (by decide +kernel) rfl, kx_in 97 (by decide +kernel) rfl, kx_in 2 (by decide +kernel) rfl, rfl, by decide, by decide, by decide +kernel⟩
theorem v_N_52 : kx_LV R_N 52 0 Y_N_fallSilent := ⟨rfl, k_N_fallSilent, kx_in 447 (by decide +kernel) rfl, kx_in 449 (by decide +kernel) rfl, kx_inS (y_N_fallSilent, 9) (by decide +kernel), kx_in 10 (by decide +kernel) rfl, rfl, by decide, by decide, by decide +kernel⟩
theorem v_N_58 : kx_LV R_N 58 1 Y_R_append := ⟨rfl, k_R_append, kx_in 454 (by decide +kernel) rfl, kx_in 100 (by decide +kernel) rfl, kx_in 101 (by decide +kernel) rfl, kx_in 2 (by decide +kernel) rfl, rfl, by decide, by decide, by decide +kernel⟩
theorem v_N_63 : kx_LV R_N 63 1 Y_R_appendAll := ⟨rfl, k_R_appendAll, kx_in 455 (by decide +kernel) rfl, kx_in 456 (by decide +kernel) rfl, kx_in 457 (by decide +kernel) rfl, kx_in 2 (by decide +kernel) rfl, rfl, by decide, by decide, by decide +kernel⟩
theorem v_N_71 : kx_LV R_N 71 1 Y_R_copyFrom := ⟨rfl, k_R_copyFrom, kx_in 460 (by decide +kernel) rfl, kx_in 428 (by decide +kernel) rfl, kx_in 429 (by decide +kernel) rfl, kx_in 2 (by decide +kernel) rfl, rfl, by decide, by decide, by decide +kernel⟩
theorem mn_N_74 : kx_MN R_N 74 := ⟨kx_in 451 (by decide +kernel) rfl, kx_in 452 (by decide +kernel) rfl, kx_in 15 (by decide +kernel) rfl, kx_in 453 (by decide +kernel) rfl⟩
theorem o_F_3 : Cond.methodLink R_F 3 Lib.objectInit ∈ kx_WS := kx_in 216 (by decide +kernel) rfl
theorem i_F_11 : kx_LI R_F 11 0 Y_R_init := ⟨rfl, rfl, rfl, k_R_init, kx_in 218 (by decide +kernel) rfl, kx_in 29 (by decide +kernel) rfl, kx_in 2 (by decide +kernel) rfl, by decide, by decide, by decide +kernel⟩
theorem o_R_3 : Cond.methodLink R_R 3 Lib.objectInit ∈ kx_WS := kx_in 31 (by decide +kernel) rfl
theorem mn_R_19 : kx_MN R_R 19 := ⟨kx_in 459 (by decide +kernel) rfl, kx_in 452 (by decide +kernel) rfl, kx_in 15 (by decide +kernel) rfl, kx_in 453 (by decide +kernel) rfl⟩
theorem cp_R_25 : kx_CP R_R 25 := ⟨kx_in 431 (by decide +kernel) rfl, kx_in 433 (by decide +kernel) rfl, kx_in 432 (by decide +kernel) rfl, kx_in 14 (by decide +kernel) rfl⟩
theorem v_L_7 : kx_LV R_L 7 2 Y_B_add := ⟨rfl, k_B_add, kx_in 109 (by decide +kernel) rfl, kx_in 110 (by decide +kernel) rfl, kx_in 111 (by decide +kernel) rfl, kx_in 1 (by decide +kernel) rfl, rfl, by decide, by decide, by decide +kernel⟩
theorem v_L_17 : kx_LV R_L 17 4 Y_B_couple := ⟨rfl, k_B_couple, kx_in 332 (by decide +kernel) rfl, kx_in 333 (by decide +kernel) rfl, kx_in 334 (by decide +kernel) rfl, kx_in 1 (by decide +kernel) rfl, rfl, by decide, by decide, by decide +kernel⟩
theorem v_L_23 : kx_LV R_L 23 2 Y_B_uncouple := ⟨rfl, k_B_uncouple, kx_in 381 (by decide +kernel) rfl, kx_in 382 (by decide +kernel) rfl, kx_in 383 (by decide +kernel) rfl, kx_in 1 (by decide +kernel) rfl, rfl, by decide, by decide, by decide +kernel⟩
theorem v_L_26 : kx_LV R_L 26 1 Y_B_reset := ⟨rfl, k_B_reset, kx_in 393 (by decide +kernel) rfl, kx_in 394 (by decide +kernel) rfl, kx_in 395 (by decide +kernel) rfl, kx_in 1 (by decide +kernel) rfl, rfl, by decide, by decide, by decide +kernel⟩
theorem v_L_30 : kx_LV R_L 30 2 Y_B_rounds := ⟨rfl, k_B_rounds, kx_in 410 (by decide +kernel) rfl, kx_in 411 (by decide +kernel) rfl, kx_in 412 (by decide +kernel) rfl, kx_in 1 (by decide +kernel) rfl, rfl, by decide, by decide, by decide +kernel⟩
theorem v_L_33 : kx_LV R_L 33 2 Y_B_coupling := ⟨rfl, k_B_coupling, kx_in 499 (by decide +kernel) rfl, kx_in 500 (by decide +kernel) rfl, kx_in 501 (by decide +kernel) rfl, kx_in 1 (by decide +kernel) rfl, rfl, by decide, by decide, by decide +kernel⟩
theorem v_L_36 : kx_LV R_L 36 2 Y_B_about := ⟨rfl, k_B_about, kx_in 506 (by decide +kernel) rfl, kx_in 507 (by decide +kernel) rfl, kx_in 508 (by decide +kernel) rfl, kx_in 1 (by decide +kernel) rfl, rfl, by decide, by decide, by decide +kernel⟩
theorem v_L_39 : kx_LV R_L 39 2 Y_B_directory := ⟨rfl, k_B_directory, kx_in 523 (by decide +kernel) rfl, kx_in 524 (by decide +kernel) rfl, kx_in 525 (by decide +kernel) rfl, kx_in 1 (by decide +kernel) rfl, rfl, by decide, by decide, by decide +kernel⟩
theorem v_L_42 : kx_LV R_L 42 3 Y_B_view := ⟨rfl, k_B_view, kx_in 531 (by decide +kernel) rfl, kx_in 532 (by decide +kernel) rfl, kx_in 533 (by decide +kernel) rfl, kx_in 1 (by decide +kernel) rfl, rfl, by decide, by decide, by decide +kernel⟩
theorem v_L_46 : kx_LV R_L 46 3 Y_B_put := ⟨rfl, k_B_put, kx_in 542 (by decide +kernel) rfl, kx_in 543 (by decide +kernel) rfl, kx_in 544 (by decide +kernel) rfl, kx_in 1 (by decide +kernel) rfl, rfl, by decide, by decide, by decide +kernel⟩
theorem v_L_49 : kx_LV R_L 49 3 Y_B_get := ⟨rfl, k_B_get, kx_in 557 (by decide +kernel) rfl, kx_in 558 (by decide +kernel) rfl, kx_in 559 (by decide +kernel) rfl, kx_in 1 (by decide +kernel) rfl, rfl, by decide, by decide, by decide +kernel⟩
theorem v_L_52 : kx_LV R_L 52 3 Y_B_side := ⟨rfl, k_B_side, kx_in 569 (by decide +kernel) rfl, kx_in 570 (by decide +kernel) rfl, kx_in 571 (by decide +kernel) rfl, kx_in 1 (by decide +kernel) rfl, rfl, by decide, by decide, by decide +kernel⟩
theorem v_L_55 : kx_LV R_L 55 2 Y_B_order := ⟨rfl, k_B_order, kx_in 582 (by decide +kernel) rfl, kx_in 583 (by decide +kernel) rfl, kx_in 584 (by decide +kernel) rfl, kx_in 1 (by decide +kernel) rfl, rfl, by decide, by decide, by decide +kernel⟩
theorem v_L_58 : kx_LV R_L 58 1 Y_B_count := ⟨rfl, k_B_count, kx_in 589 (by decide +kernel) rfl, kx_in 590 (by decide +kernel) rfl, kx_in 591 (by decide +kernel) rfl, kx_in 1 (by decide +kernel) rfl, rfl, by decide, by decide, by decide +kernel⟩
theorem o_M_1 : Cond.methodLink R_M 1 Lib.objectInit ∈ kx_WS := kx_in 599 (by decide +kernel) rfl
theorem v_M_97 : kx_LV R_M 97 1 Y_M_find := ⟨rfl, k_M_find, kx_in 703 (by decide +kernel) rfl, kx_in 705 (by decide +kernel) rfl, kx_inS (y_M_find, 31) (by decide +kernel), kx_in 3 (by decide +kernel) rfl, rfl, by decide, by decide, by decide +kernel⟩
theorem v_M_101 : kx_LV R_M 101 3 Y_M_goes := ⟨rfl, k_M_goes, kx_in 707 (by decide +kernel) rfl, kx_in 709 (by decide +kernel) rfl, kx_inS (y_M_goes, 31) (by decide +kernel), kx_in 3 (by decide +kernel) rfl, rfl, by decide, by decide, by decide +kernel⟩
theorem v_M_105 : kx_LV R_M 105 1 Y_M_forget := ⟨rfl, k_M_forget, kx_in 711 (by decide +kernel) rfl, kx_in 713 (by decide +kernel) rfl, kx_inS (y_M_forget, 31) (by decide +kernel), kx_in 3 (by decide +kernel) rfl, rfl, by decide, by decide, by decide +kernel⟩
theorem v_M_109 : kx_LV R_M 109 1 Y_M_turn := ⟨rfl, k_M_turn, kx_in 730 (by decide +kernel) rfl, kx_in 732 (by decide +kernel) rfl, kx_inS (y_M_turn, 31) (by decide +kernel), kx_in 3 (by decide +kernel) rfl, rfl, by decide, by decide, by decide +kernel⟩
theorem v_M_112 : kx_LV R_M 112 1 Y_M_run := ⟨rfl, k_M_run, kx_in 726 (by decide +kernel) rfl, kx_in 728 (by decide +kernel) rfl, kx_inS (y_M_run, 31) (by decide +kernel), kx_in 3 (by decide +kernel) rfl, rfl, by decide, by decide, by decide +kernel⟩
theorem s_M_115 : kx_LS R_M 115 1 Y_M_isEnd := ⟨rfl, k_M_isEnd, kx_in 719 (by decide +kernel) rfl, kx_in 720 (by decide +kernel) rfl, kx_in 3 (by decide +kernel) rfl, by decide, by decide, by decide +kernel⟩
theorem v_M_119 : kx_LV R_M 119 2 Y_M_together := ⟨rfl, k_M_together, kx_in 722 (by decide +kernel) rfl, kx_in 724 (by decide +kernel) rfl, kx_inS (y_M_together, 31) (by decide +kernel), kx_in 3 (by decide +kernel) rfl, rfl, by decide, by decide, by decide +kernel⟩
theorem v_M_126 : kx_LV R_M 126 2 Y_M_hears := ⟨rfl, k_M_hears, kx_in 754 (by decide +kernel) rfl, kx_in 756 (by decide +kernel) rfl, kx_inS (y_M_hears, 31) (by decide +kernel), kx_in 3 (by decide +kernel) rfl, rfl, by decide, by decide, by decide +kernel⟩
theorem v_M_129 : kx_LV R_M 129 1 Y_M_seen := ⟨rfl, k_M_seen, kx_in 766 (by decide +kernel) rfl, kx_in 768 (by decide +kernel) rfl, kx_inS (y_M_seen, 31) (by decide +kernel), kx_in 3 (by decide +kernel) rfl, rfl, by decide, by decide, by decide +kernel⟩
theorem v_M_132 : kx_LV R_M 132 1 Y_M_agrees := ⟨rfl, k_M_agrees, kx_in 774 (by decide +kernel) rfl, kx_in 776 (by decide +kernel) rfl, kx_inS (y_M_agrees, 31) (by decide +kernel), kx_in 3 (by decide +kernel) rfl, rfl, by decide, by decide, by decide +kernel⟩
theorem v_M_135 : kx_LV R_M 135 2 Y_M_place := ⟨rfl, k_M_place, kx_in 778 (by decide +kernel) rfl, kx_in 780 (by decide +kernel) rfl, kx_inS (y_M_place, 31) (by decide +kernel), kx_in 3 (by decide +kernel) rfl, rfl, by decide, by decide, by decide +kernel⟩
theorem v_M_139 : kx_LV R_M 139 0 Y_M_copy := ⟨rfl, k_M_copy, kx_in 750 (by decide +kernel) rfl, kx_in 752 (by decide +kernel) rfl, kx_inS (y_M_copy, 31) (by decide +kernel), kx_in 3 (by decide +kernel) rfl, rfl, by decide, by decide, by decide +kernel⟩
theorem v_M_142 : kx_LV R_M 142 2 Y_M_look := ⟨rfl, k_M_look, kx_in 758 (by decide +kernel) rfl, kx_in 760 (by decide +kernel) rfl, kx_inS (y_M_look, 31) (by decide +kernel), kx_in 3 (by decide +kernel) rfl, rfl, by decide, by decide, by decide +kernel⟩
theorem v_M_146 : kx_LV R_M 146 1 Y_M_settle := ⟨rfl, k_M_settle, kx_in 762 (by decide +kernel) rfl, kx_in 764 (by decide +kernel) rfl, kx_inS (y_M_settle, 31) (by decide +kernel), kx_in 3 (by decide +kernel) rfl, rfl, by decide, by decide, by decide +kernel⟩
theorem v_M_149 : kx_LV R_M 149 2 Y_M_learn := ⟨rfl, k_M_learn, kx_in 770 (by decide +kernel) rfl, kx_in 772 (by decide +kernel) rfl, kx_inS (y_M_learn, 31) (by decide +kernel), kx_in 3 (by decide +kernel) rfl, rfl, by decide, by decide, by decide +kernel⟩
theorem v_M_158 : kx_LV R_M 158 1 Y_M_round := ⟨rfl, k_M_round, kx_in 746 (by decide +kernel) rfl, kx_in 748 (by decide +kernel) rfl, kx_inS (y_M_round, 31) (by decide +kernel), kx_in 3 (by decide +kernel) rfl, rfl, by decide, by decide, by decide +kernel⟩
theorem v_M_161 : kx_LV R_M 161 1 Y_M_stateOf := ⟨rfl, k_M_stateOf, kx_in 790 (by decide +kernel) rfl, kx_in 792 (by decide +kernel) rfl, kx_inS (y_M_stateOf, 31) (by decide +kernel), kx_in 3 (by decide +kernel) rfl, rfl, by decide, by decide, by decide +kernel⟩
theorem o_im : Cond.instanceMethod Lib.objectInit ∈ kx_WS := kx_in 22 (by decide +kernel) rfl
theorem o_cd : Cond.code Lib.objectInit ⟨#[0xb1]⟩ 1 none ∈ kx_WS := kx_in 23 (by decide +kernel) rfl
theorem n_B_9 : kx_N R_B 9 0 [.int 0, .int 0, .null, .null, .null, .null, .null, .int 0, .int 0, .int 0, .int 0] := ⟨_, _, _, ty_C, rfl, ty_C_ok, u_C, kx_in 24 (by decide +kernel) rfl, kx_in 81 (by decide +kernel) rfl, kx_in 9 (by decide +kernel) rfl, rfl, by decide +kernel⟩
theorem q_B_9 : Cond.classLink R_B 9 "ConsistBus$Car" ∈ kx_WS := kx_in 24 (by decide +kernel) rfl
theorem n_B_22 : kx_N R_B 22 3 [.null, .int 0] := ⟨_, _, _, ty_R, rfl, ty_R_ok, u_R, kx_in 26 (by decide +kernel) rfl, kx_in 27 (by decide +kernel) rfl, kx_in 2 (by decide +kernel) rfl, rfl, by decide +kernel⟩
theorem n_C_18 : kx_N R_C 18 1 [.int 0, .null, .null, .null, .null, .null, .int 0, .int 0, .int 0] := ⟨_, _, _, ty_N, rfl, ty_N_ok, u_N, kx_in 202 (by decide +kernel) rfl, kx_in 204 (by decide +kernel) rfl, kx_in 10 (by decide +kernel) rfl, rfl, by decide +kernel⟩
theorem q_C_18 : Cond.classLink R_C 18 "ConsistBus$End" ∈ kx_WS := kx_in 202 (by decide +kernel) rfl
theorem n_C_31 : kx_N R_C 31 3 [.null, .int 0] := ⟨_, _, _, ty_R, rfl, ty_R_ok, u_R, kx_in 287 (by decide +kernel) rfl, kx_in 27 (by decide +kernel) rfl, kx_in 2 (by decide +kernel) rfl, rfl, by decide +kernel⟩
theorem n_N_15 : kx_N R_N 15 3 [.null, .int 0] := ⟨_, _, _, ty_R, rfl, ty_R_ok, u_R, kx_in 209 (by decide +kernel) rfl, kx_in 27 (by decide +kernel) rfl, kx_in 2 (by decide +kernel) rfl, rfl, by decide +kernel⟩
theorem n_N_25 : kx_N R_N 25 2 [.null, .null, .null, .null, .int 0, .int 0] := ⟨_, _, _, ty_F, rfl, ty_F_ok, u_F, kx_in 211 (by decide +kernel) rfl, kx_in 212 (by decide +kernel) rfl, kx_in 11 (by decide +kernel) rfl, rfl, by decide +kernel⟩
theorem n_F_9 : kx_N R_F 9 3 [.null, .int 0] := ⟨_, _, _, ty_R, rfl, ty_R_ok, u_R, kx_in 217 (by decide +kernel) rfl, kx_in 27 (by decide +kernel) rfl, kx_in 2 (by decide +kernel) rfl, rfl, by decide +kernel⟩
theorem ac_boolean : Cond.arrayClass .boolean ∈ kx_WS := kx_in 40 (by decide +kernel) rfl
theorem ac_int : Cond.arrayClass .int ∈ kx_WS := kx_in 41 (by decide +kernel) rfl
theorem ac_long : Cond.arrayClass .long ∈ kx_WS := kx_in 826 (by decide +kernel) rfl
theorem ic_B_29 : Cond.constant R_B 29 (nI 65535) ∈ kx_WS := kx_in 113 (by decide +kernel) rfl
theorem ic_M_96 : Cond.constant R_M 96 (nI 65536) ∈ kx_WS := kx_in 702 (by decide +kernel) rfl
set_option maxRecDepth 20000 in
theorem t_B_32 : kx_TH R_B 30 32 34 "java/lang/IllegalArgumentException" "id or mask out of range" := ⟨by decide +kernel, kx_in 114 (by decide +kernel) rfl, kx_in 7 (by decide +kernel) rfl, by decide +kernel, by decide +kernel, by decide +kernel, by decide +kernel⟩
set_option maxRecDepth 20000 in
theorem t_B_43 : kx_TH R_B 41 43 45 "java/lang/IllegalStateException" "the id is taken, or the train is full" := ⟨by decide +kernel, kx_in 182 (by decide +kernel) rfl, kx_in 8 (by decide +kernel) rfl, by decide +kernel, by decide +kernel, by decide +kernel, by decide +kernel⟩
set_option maxRecDepth 20000 in
theorem t_B_71 : kx_TH R_B 41 71 45 "java/lang/IllegalStateException" "an end is coupled, or both cars are of one run" := ⟨by decide +kernel, kx_in 182 (by decide +kernel) rfl, kx_in 8 (by decide +kernel) rfl, by decide +kernel, by decide +kernel, by decide +kernel, by decide +kernel⟩
set_option maxRecDepth 20000 in
theorem t_B_163 : kx_TN R_B 158 163 162 "there is no such end" := ⟨kx_in 348 (by decide +kernel) rfl, kx_in 13 (by decide +kernel) rfl, by decide +kernel, by decide +kernel, by decide +kernel, by decide +kernel⟩
set_option maxRecDepth 20000 in
theorem t_B_160 : kx_TN R_B 158 160 162 "there is no such car" := ⟨kx_in 348 (by decide +kernel) rfl, kx_in 13 (by decide +kernel) rfl, by decide +kernel, by decide +kernel, by decide +kernel, by decide +kernel⟩
set_option maxRecDepth 20000 in
theorem t_B_87 : kx_TH R_B 41 87 45 "java/lang/IllegalStateException" "the end is not coupled" := ⟨by decide +kernel, kx_in 182 (by decide +kernel) rfl, kx_in 8 (by decide +kernel) rfl, by decide +kernel, by decide +kernel, by decide +kernel, by decide +kernel⟩
set_option maxRecDepth 20000 in
theorem t_B_98 : kx_TH R_B 30 98 34 "java/lang/IllegalArgumentException" "rounds out of range" := ⟨by decide +kernel, kx_in 114 (by decide +kernel) rfl, kx_in 7 (by decide +kernel) rfl, by decide +kernel, by decide +kernel, by decide +kernel, by decide +kernel⟩
set_option maxRecDepth 20000 in
theorem t_B_109 : kx_TH R_B 30 109 34 "java/lang/IllegalArgumentException" "there is no such fact" := ⟨by decide +kernel, kx_in 114 (by decide +kernel) rfl, kx_in 7 (by decide +kernel) rfl, by decide +kernel, by decide +kernel, by decide +kernel, by decide +kernel⟩
set_option maxRecDepth 20000 in
theorem t_B_126 : kx_TH R_B 30 126 34 "java/lang/IllegalArgumentException" "byte or value out of range" := ⟨by decide +kernel, kx_in 114 (by decide +kernel) rfl, kx_in 7 (by decide +kernel) rfl, by decide +kernel, by decide +kernel, by decide +kernel, by decide +kernel⟩
set_option maxRecDepth 20000 in
theorem t_B_132 : kx_TH R_B 30 132 34 "java/lang/IllegalArgumentException" "byte out of range" := ⟨by decide +kernel, kx_in 114 (by decide +kernel) rfl, kx_in 7 (by decide +kernel) rfl, by decide +kernel, by decide +kernel, by decide +kernel, by decide +kernel⟩
set_option maxRecDepth 20000 in
theorem t_B_137 : kx_TH R_B 30 137 34 "java/lang/IllegalArgumentException" "there is no such function" := ⟨by decide +kernel, kx_in 114 (by decide +kernel) rfl, kx_in 7 (by decide +kernel) rfl, by decide +kernel, by decide +kernel, by decide +kernel, by decide +kernel⟩
set_option maxRecDepth 20000 in
theorem t_B_156 : kx_TH R_B 30 156 34 "java/lang/IllegalArgumentException" "there is no such count" := ⟨by decide +kernel, kx_in 114 (by decide +kernel) rfl, kx_in 7 (by decide +kernel) rfl, by decide +kernel, by decide +kernel, by decide +kernel, by decide +kernel⟩
