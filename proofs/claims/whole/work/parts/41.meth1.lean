theorem ck_m118 : ckM 10 (yX10_watched, cX10_watched, 2, (some .int)) 28 kd_X10_watched = true := by decide +kernel
theorem ok_m118 : kOk ((yX10_watched, cX10_watched, 2, (some .int)), kd_X10_watched) := ckk_ok (o := 10) (by decide +kernel) rfl ck_m118 (fun pc h => by unfold kd_X10_watched; rw [h]; rfl)
theorem ck_m119 : ckM 10 (yX10_never, cX10_never, 3, (some .int)) 62 kd_X10_never = true := by decide +kernel
theorem ok_m119 : kOk ((yX10_never, cX10_never, 3, (some .int)), kd_X10_never) := ckk_ok (o := 10) (by decide +kernel) rfl ck_m119 (fun pc h => by unfold kd_X10_never; rw [h]; rfl)
theorem ck_m120 : ckM 10 (yX10_where, cX10_where, 4, (some .int)) 56 kd_X10_where = true := by decide +kernel
theorem ok_m120 : kOk ((yX10_where, cX10_where, 4, (some .int)), kd_X10_where) := ckk_ok (o := 10) (by decide +kernel) rfl ck_m120 (fun pc h => by unfold kd_X10_where; rw [h]; rfl)
theorem ck_m121 : ckM 10 (yX10_had, cX10_had, 2, (some .int)) 25 kd_X10_had = true := by decide +kernel
theorem ok_m121 : kOk ((yX10_had, cX10_had, 2, (some .int)), kd_X10_had) := ckk_ok (o := 10) (by decide +kernel) rfl ck_m121 (fun pc h => by unfold kd_X10_had; rw [h]; rfl)
theorem ck_m122 : ckM 10 (yX10_by, cX10_by, 2, (some .int)) 25 kd_X10_by = true := by decide +kernel
theorem ok_m122 : kOk ((yX10_by, cX10_by, 2, (some .int)), kd_X10_by) := ckk_ok (o := 10) (by decide +kernel) rfl ck_m122 (fun pc h => by unfold kd_X10_by; rw [h]; rfl)
theorem ck_m123 : ckM 10 (yX10_fined, cX10_fined, 3, (some .int)) 70 kd_X10_fined = true := by decide +kernel
theorem ok_m123 : kOk ((yX10_fined, cX10_fined, 3, (some .int)), kd_X10_fined) := ckk_ok (o := 10) (by decide +kernel) rfl ck_m123 (fun pc h => by unfold kd_X10_fined; rw [h]; rfl)
theorem ck_m124 : ckM 10 (yX10_brings, cX10_brings, 3, (some .int)) 87 kd_X10_brings = true := by decide +kernel
theorem ok_m124 : kOk ((yX10_brings, cX10_brings, 3, (some .int)), kd_X10_brings) := ckk_ok (o := 10) (by decide +kernel) rfl ck_m124 (fun pc h => by unfold kd_X10_brings; rw [h]; rfl)
theorem ck_m125 : ckM 10 (yX10_walks, cX10_walks, 6, (some .int)) 86 kd_X10_walks = true := by decide +kernel
theorem ok_m125 : kOk ((yX10_walks, cX10_walks, 6, (some .int)), kd_X10_walks) := ckk_ok (o := 10) (by decide +kernel) rfl ck_m125 (fun pc h => by unfold kd_X10_walks; rw [h]; rfl)
theorem ck_m126 : ckM 10 (yX10_can, cX10_can, 4, (some .int)) 96 kd_X10_can = true := by decide +kernel
theorem ok_m126 : kOk ((yX10_can, cX10_can, 4, (some .int)), kd_X10_can) := ckk_ok (o := 10) (by decide +kernel) rfl ck_m126 (fun pc h => by unfold kd_X10_can; rw [h]; rfl)
theorem ck_m127 : ckM 10 (yX10_safe, cX10_safe, 1, (some .int)) 25 kd_X10_safe = true := by decide +kernel
theorem ok_m127 : kOk ((yX10_safe, cX10_safe, 1, (some .int)), kd_X10_safe) := ckk_ok (o := 10) (by decide +kernel) rfl ck_m127 (fun pc h => by unfold kd_X10_safe; rw [h]; rfl)
theorem ck_m128 : ckM 10 (yX10_path, cX10_path, 6, (some .int)) 105 kd_X10_path = true := by decide +kernel
theorem ok_m128 : kOk ((yX10_path, cX10_path, 6, (some .int)), kd_X10_path) := ckk_ok (o := 10) (by decide +kernel) rfl ck_m128 (fun pc h => by unfold kd_X10_path; rw [h]; rfl)
theorem ck_m129 : ckM 10 (yX10_effort, cX10_effort, 2, (some .int)) 35 kd_X10_effort = true := by decide +kernel
theorem ok_m129 : kOk ((yX10_effort, cX10_effort, 2, (some .int)), kd_X10_effort) := ckk_ok (o := 10) (by decide +kernel) rfl ck_m129 (fun pc h => by unfold kd_X10_effort; rw [h]; rfl)
theorem ck_m130 : ckM 10 (yX10_lasts, cX10_lasts, 4, (some .int)) 72 kd_X10_lasts = true := by decide +kernel
theorem ok_m130 : kOk ((yX10_lasts, cX10_lasts, 4, (some .int)), kd_X10_lasts) := ckk_ok (o := 10) (by decide +kernel) rfl ck_m130 (fun pc h => by unfold kd_X10_lasts; rw [h]; rfl)
theorem ck_m131 : ckM 10 (yX10_room, cX10_room, 4, (some .int)) 61 kd_X10_room = true := by decide +kernel
theorem ok_m131 : kOk ((yX10_room, cX10_room, 4, (some .int)), kd_X10_room) := ckk_ok (o := 10) (by decide +kernel) rfl ck_m131 (fun pc h => by unfold kd_X10_room; rw [h]; rfl)
theorem ck_m132 : ckM 10 (yX10_fewest, cX10_fewest, 1, (some .int)) 26 kd_X10_fewest = true := by decide +kernel
theorem ok_m132 : kOk ((yX10_fewest, cX10_fewest, 1, (some .int)), kd_X10_fewest) := ckk_ok (o := 10) (by decide +kernel) rfl ck_m132 (fun pc h => by unfold kd_X10_fewest; rw [h]; rfl)
theorem ck_m133 : ckM 10 (yX10_begins, cX10_begins, 2, (some .int)) 47 kd_X10_begins = true := by decide +kernel
theorem ok_m133 : kOk ((yX10_begins, cX10_begins, 2, (some .int)), kd_X10_begins) := ckk_ok (o := 10) (by decide +kernel) rfl ck_m133 (fun pc h => by unfold kd_X10_begins; rw [h]; rfl)
theorem ck_m134 : ckM 10 (yX10_leaves, cX10_leaves, 2, (some .int)) 31 kd_X10_leaves = true := by decide +kernel
theorem ok_m134 : kOk ((yX10_leaves, cX10_leaves, 2, (some .int)), kd_X10_leaves) := ckk_ok (o := 10) (by decide +kernel) rfl ck_m134 (fun pc h => by unfold kd_X10_leaves; rw [h]; rfl)
theorem ck_m135 : ckM 10 (yX10_begin, cX10_begin, 5, (some .int)) 61 kd_X10_begin = true := by decide +kernel
theorem ok_m135 : kOk ((yX10_begin, cX10_begin, 5, (some .int)), kd_X10_begin) := ckk_ok (o := 10) (by decide +kernel) rfl ck_m135 (fun pc h => by unfold kd_X10_begin; rw [h]; rfl)
theorem ck_m136 : ckM 10 (yX10_table, cX10_table, 4, (some .int)) 52 kd_X10_table = true := by decide +kernel
theorem ok_m136 : kOk ((yX10_table, cX10_table, 4, (some .int)), kd_X10_table) := ckk_ok (o := 10) (by decide +kernel) rfl ck_m136 (fun pc h => by unfold kd_X10_table; rw [h]; rfl)
theorem ck_m137 : ckM 10 (yX10_reply, cX10_reply, 5, (some .int)) 65 kd_X10_reply = true := by decide +kernel
theorem ok_m137 : kOk ((yX10_reply, cX10_reply, 5, (some .int)), kd_X10_reply) := ckk_ok (o := 10) (by decide +kernel) rfl ck_m137 (fun pc h => by unfold kd_X10_reply; rw [h]; rfl)
theorem ck_m138 : ckM 10 (yX10_answer, cX10_answer, 5, (some .int)) 67 kd_X10_answer = true := by decide +kernel
theorem ok_m138 : kOk ((yX10_answer, cX10_answer, 5, (some .int)), kd_X10_answer) := ckk_ok (o := 10) (by decide +kernel) rfl ck_m138 (fun pc h => by unfold kd_X10_answer; rw [h]; rfl)
theorem ck_m139 : ckM 10 (yX10_rests, cX10_rests, 5, (some .int)) 67 kd_X10_rests = true := by decide +kernel
theorem ok_m139 : kOk ((yX10_rests, cX10_rests, 5, (some .int)), kd_X10_rests) := ckk_ok (o := 10) (by decide +kernel) rfl ck_m139 (fun pc h => by unfold kd_X10_rests; rw [h]; rfl)
theorem ck_m140 : ckM 10 (yX10_rest, cX10_rest, 4, (some .int)) 66 kd_X10_rest = true := by decide +kernel
theorem ok_m140 : kOk ((yX10_rest, cX10_rest, 4, (some .int)), kd_X10_rest) := ckk_ok (o := 10) (by decide +kernel) rfl ck_m140 (fun pc h => by unfold kd_X10_rest; rw [h]; rfl)
theorem ck_m141 : ckM 10 (yX10_sure, cX10_sure, 4, (some .int)) 43 kd_X10_sure = true := by decide +kernel
theorem ok_m141 : kOk ((yX10_sure, cX10_sure, 4, (some .int)), kd_X10_sure) := ckk_ok (o := 10) (by decide +kernel) rfl ck_m141 (fun pc h => by unfold kd_X10_sure; rw [h]; rfl)
theorem ck_m142 : ckM 10 (yX10_ask, cX10_ask, 2, (some .int)) 19 kd_X10_ask = true := by decide +kernel
theorem ok_m142 : kOk ((yX10_ask, cX10_ask, 2, (some .int)), kd_X10_ask) := ckk_ok (o := 10) (by decide +kernel) rfl ck_m142 (fun pc h => by unfold kd_X10_ask; rw [h]; rfl)
theorem ck_m143 : ckM 10 (yX10_found, cX10_found, 2, (some .int)) 27 kd_X10_found = true := by decide +kernel
theorem ok_m143 : kOk ((yX10_found, cX10_found, 2, (some .int)), kd_X10_found) := ckk_ok (o := 10) (by decide +kernel) rfl ck_m143 (fun pc h => by unfold kd_X10_found; rw [h]; rfl)
theorem ck_m144 : ckM 10 (yX10_asks, cX10_asks, 3, (some .int)) 59 kd_X10_asks = true := by decide +kernel
theorem ok_m144 : kOk ((yX10_asks, cX10_asks, 3, (some .int)), kd_X10_asks) := ckk_ok (o := 10) (by decide +kernel) rfl ck_m144 (fun pc h => by unfold kd_X10_asks; rw [h]; rfl)
theorem ck_m145 : ckM 10 (yX10_dodges, cX10_dodges, 3, (some .int)) 59 kd_X10_dodges = true := by decide +kernel
theorem ok_m145 : kOk ((yX10_dodges, cX10_dodges, 3, (some .int)), kd_X10_dodges) := ckk_ok (o := 10) (by decide +kernel) rfl ck_m145 (fun pc h => by unfold kd_X10_dodges; rw [h]; rfl)
theorem ck_m146 : ckM 10 (yX10_week, cX10_week, 6, (some .int)) 86 kd_X10_week = true := by decide +kernel
theorem ok_m146 : kOk ((yX10_week, cX10_week, 6, (some .int)), kd_X10_week) := ckk_ok (o := 10) (by decide +kernel) rfl ck_m146 (fun pc h => by unfold kd_X10_week; rw [h]; rfl)
theorem ck_m147 : ckM 10 (yX10_fine, cX10_fine, 3, (some .int)) 54 kd_X10_fine = true := by decide +kernel
theorem ok_m147 : kOk ((yX10_fine, cX10_fine, 3, (some .int)), kd_X10_fine) := ckk_ok (o := 10) (by decide +kernel) rfl ck_m147 (fun pc h => by unfold kd_X10_fine; rw [h]; rfl)
theorem ck_m148 : ckM 10 (yX10_often, cX10_often, 2, (some .int)) 40 kd_X10_often = true := by decide +kernel
theorem ok_m148 : kOk ((yX10_often, cX10_often, 2, (some .int)), kd_X10_often) := ckk_ok (o := 10) (by decide +kernel) rfl ck_m148 (fun pc h => by unfold kd_X10_often; rw [h]; rfl)
theorem ck_m149 : ckM 10 (yX10_mean, cX10_mean, 6, (some .int)) 109 kd_X10_mean = true := by decide +kernel
theorem ok_m149 : kOk ((yX10_mean, cX10_mean, 6, (some .int)), kd_X10_mean) := ckk_ok (o := 10) (by decide +kernel) rfl ck_m149 (fun pc h => by unfold kd_X10_mean; rw [h]; rfl)
theorem ck_m150 : ckM 10 (yX10_learns, cX10_learns, 6, (some .int)) 86 kd_X10_learns = true := by decide +kernel
theorem ok_m150 : kOk ((yX10_learns, cX10_learns, 6, (some .int)), kd_X10_learns) := ckk_ok (o := 10) (by decide +kernel) rfl ck_m150 (fun pc h => by unfold kd_X10_learns; rw [h]; rfl)
theorem ck_m151 : ckM 10 (yX10_sighted, cX10_sighted, 3, (some .int)) 25 kd_X10_sighted = true := by decide +kernel
theorem ok_m151 : kOk ((yX10_sighted, cX10_sighted, 3, (some .int)), kd_X10_sighted) := ckk_ok (o := 10) (by decide +kernel) rfl ck_m151 (fun pc h => by unfold kd_X10_sighted; rw [h]; rfl)
theorem ck_m152 : ckM 10 (yX10_told, cX10_told, 4, (some .int)) 55 kd_X10_told = true := by decide +kernel
theorem ok_m152 : kOk ((yX10_told, cX10_told, 4, (some .int)), kd_X10_told) := ckk_ok (o := 10) (by decide +kernel) rfl ck_m152 (fun pc h => by unfold kd_X10_told; rw [h]; rfl)
theorem ck_m153 : ckM 10 (yX10_may, cX10_may, 7, (some .int)) 103 kd_X10_may = true := by decide +kernel
theorem ok_m153 : kOk ((yX10_may, cX10_may, 7, (some .int)), kd_X10_may) := ckk_ok (o := 10) (by decide +kernel) rfl ck_m153 (fun pc h => by unfold kd_X10_may; rw [h]; rfl)
theorem ck_m154 : ckM 10 (yX10_look, cX10_look, 7, (some .int)) 71 kd_X10_look = true := by decide +kernel
theorem ok_m154 : kOk ((yX10_look, cX10_look, 7, (some .int)), kd_X10_look) := ckk_ok (o := 10) (by decide +kernel) rfl ck_m154 (fun pc h => by unfold kd_X10_look; rw [h]; rfl)
theorem ck_m155 : ckM 10 (yX10_matters, cX10_matters, 5, (some .int)) 154 kd_X10_matters = true := by decide +kernel
theorem ok_m155 : kOk ((yX10_matters, cX10_matters, 5, (some .int)), kd_X10_matters) := ckk_ok (o := 10) (by decide +kernel) rfl ck_m155 (fun pc h => by unfold kd_X10_matters; rw [h]; rfl)
theorem ck_m156 : ckM 10 (yX10_doors, cX10_doors, 2, (some .int)) 51 kd_X10_doors = true := by decide +kernel
theorem ok_m156 : kOk ((yX10_doors, cX10_doors, 2, (some .int)), kd_X10_doors) := ckk_ok (o := 10) (by decide +kernel) rfl ck_m156 (fun pc h => by unfold kd_X10_doors; rw [h]; rfl)
theorem ck_m157 : ckM 10 (yX10_loo, cX10_loo, 5, (some .int)) 92 kd_X10_loo = true := by decide +kernel
theorem ok_m157 : kOk ((yX10_loo, cX10_loo, 5, (some .int)), kd_X10_loo) := ckk_ok (o := 10) (by decide +kernel) rfl ck_m157 (fun pc h => by unfold kd_X10_loo; rw [h]; rfl)
theorem ck_m158 : ckM 10 (yX10_set, cX10_set, 6, (some .int)) 102 kd_X10_set = true := by decide +kernel
theorem ok_m158 : kOk ((yX10_set, cX10_set, 6, (some .int)), kd_X10_set) := ckk_ok (o := 10) (by decide +kernel) rfl ck_m158 (fun pc h => by unfold kd_X10_set; rw [h]; rfl)
theorem ck_m159 : ckM 10 (yX10_send, cX10_send, 4, (some .int)) 77 kd_X10_send = true := by decide +kernel
theorem ok_m159 : kOk ((yX10_send, cX10_send, 4, (some .int)), kd_X10_send) := ckk_ok (o := 10) (by decide +kernel) rfl ck_m159 (fun pc h => by unfold kd_X10_send; rw [h]; rfl)
theorem ck_m160 : ckM 10 (yX10_undo, cX10_undo, 1, (some .int)) 48 kd_X10_undo = true := by decide +kernel
theorem ok_m160 : kOk ((yX10_undo, cX10_undo, 1, (some .int)), kd_X10_undo) := ckk_ok (o := 10) (by decide +kernel) rfl ck_m160 (fun pc h => by unfold kd_X10_undo; rw [h]; rfl)
theorem ck_m161 : ckM 10 (yX10_drawn, cX10_drawn, 3, (some .int)) 32 kd_X10_drawn = true := by decide +kernel
theorem ok_m161 : kOk ((yX10_drawn, cX10_drawn, 3, (some .int)), kd_X10_drawn) := ckk_ok (o := 10) (by decide +kernel) rfl ck_m161 (fun pc h => by unfold kd_X10_drawn; rw [h]; rfl)
theorem ck_m162 : ckM 10 (yX10_trips, cX10_trips, 6, (some .int)) 73 kd_X10_trips = true := by decide +kernel
theorem ok_m162 : kOk ((yX10_trips, cX10_trips, 6, (some .int)), kd_X10_trips) := ckk_ok (o := 10) (by decide +kernel) rfl ck_m162 (fun pc h => by unfold kd_X10_trips; rw [h]; rfl)
theorem ck_m163 : ckM 10 (yX10_count, cX10_count, 2, (some .int)) 71 kd_X10_count = true := by decide +kernel
theorem ok_m163 : kOk ((yX10_count, cX10_count, 2, (some .int)), kd_X10_count) := ckk_ok (o := 10) (by decide +kernel) rfl ck_m163 (fun pc h => by unfold kd_X10_count; rw [h]; rfl)
theorem ck_m164 : ckM 10 (yX10_image, cX10_image, 2, (some .int)) 37 kd_X10_image = true := by decide +kernel
theorem ok_m164 : kOk ((yX10_image, cX10_image, 2, (some .int)), kd_X10_image) := ckk_ok (o := 10) (by decide +kernel) rfl ck_m164 (fun pc h => by unfold kd_X10_image; rw [h]; rfl)
theorem ck_m165 : ckM 10 (yX10_back, cX10_back, 2, (some .int)) 49 kd_X10_back = true := by decide +kernel
theorem ok_m165 : kOk ((yX10_back, cX10_back, 2, (some .int)), kd_X10_back) := ckk_ok (o := 10) (by decide +kernel) rfl ck_m165 (fun pc h => by unfold kd_X10_back; rw [h]; rfl)
theorem ck_m166 : ckM 10 (yX10_row, cX10_row, 4, (some .int)) 45 kd_X10_row = true := by decide +kernel
theorem ok_m166 : kOk ((yX10_row, cX10_row, 4, (some .int)), kd_X10_row) := ckk_ok (o := 10) (by decide +kernel) rfl ck_m166 (fun pc h => by unfold kd_X10_row; rw [h]; rfl)
theorem ck_m167 : ckM 10 (yX10_write, cX10_write, 5, (some .int)) 54 kd_X10_write = true := by decide +kernel
theorem ok_m167 : kOk ((yX10_write, cX10_write, 5, (some .int)), kd_X10_write) := ckk_ok (o := 10) (by decide +kernel) rfl ck_m167 (fun pc h => by unfold kd_X10_write; rw [h]; rfl)
theorem ck_m168 : ckM 10 (yX10_paste, cX10_paste, 8, (some .int)) 114 kd_X10_paste = true := by decide +kernel
theorem ok_m168 : kOk ((yX10_paste, cX10_paste, 8, (some .int)), kd_X10_paste) := ckk_ok (o := 10) (by decide +kernel) rfl ck_m168 (fun pc h => by unfold kd_X10_paste; rw [h]; rfl)
theorem ck_m169 : ckM 10 (yX10_followAll, cX10_followAll, 2, none) 42 kd_X10_followAll = true := by decide +kernel
theorem ok_m169 : kOk ((yX10_followAll, cX10_followAll, 2, none), kd_X10_followAll) := ckk_ok (o := 10) (by decide +kernel) rfl ck_m169 (fun pc h => by unfold kd_X10_followAll; rw [h]; rfl)
theorem ck_m170 : ckM 10 (yX10_openChase, cX10_openChase, 2, none) 61 kd_X10_openChase = true := by decide +kernel
theorem ok_m170 : kOk ((yX10_openChase, cX10_openChase, 2, none), kd_X10_openChase) := ckk_ok (o := 10) (by decide +kernel) rfl ck_m170 (fun pc h => by unfold kd_X10_openChase; rw [h]; rfl)
theorem ck_m171 : ckM 10 (yX10_tripOf, cX10_tripOf, 2, (some (.object "CoachAhead$Ride"))) 10 kd_X10_tripOf = true := by decide +kernel
theorem ok_m171 : kOk ((yX10_tripOf, cX10_tripOf, 2, (some (.object "CoachAhead$Ride"))), kd_X10_tripOf) := ckk_ok (o := 10) (by decide +kernel) rfl ck_m171 (fun pc h => by unfold kd_X10_tripOf; rw [h]; rfl)
theorem ck_m172 : ckM 10 (yX10_rideAll, cX10_rideAll, 2, none) 30 kd_X10_rideAll = true := by decide +kernel
theorem ok_m172 : kOk ((yX10_rideAll, cX10_rideAll, 2, none), kd_X10_rideAll) := ckk_ok (o := 10) (by decide +kernel) rfl ck_m172 (fun pc h => by unfold kd_X10_rideAll; rw [h]; rfl)
theorem ck_m173 : ckM 10 (yX10_rideOf, cX10_rideOf, 2, (some (.object "CoachAhead$Ride"))) 33 kd_X10_rideOf = true := by decide +kernel
theorem ok_m173 : kOk ((yX10_rideOf, cX10_rideOf, 2, (some (.object "CoachAhead$Ride"))), kd_X10_rideOf) := ckk_ok (o := 10) (by decide +kernel) rfl ck_m173 (fun pc h => by unfold kd_X10_rideOf; rw [h]; rfl)
theorem ck_m174 : ckM 10 (yX10_isHad, cX10_isHad, 2, (some .boolean)) 22 kd_X10_isHad = true := by decide +kernel
theorem ok_m174 : kOk ((yX10_isHad, cX10_isHad, 2, (some .boolean)), kd_X10_isHad) := ckk_ok (o := 10) (by decide +kernel) rfl ck_m174 (fun pc h => by unfold kd_X10_isHad; rw [h]; rfl)
theorem ck_m175 : ckM 10 (yX10_seekFewest, cX10_seekFewest, 1, none) 27 kd_X10_seekFewest = true := by decide +kernel
theorem ok_m175 : kOk ((yX10_seekFewest, cX10_seekFewest, 1, none), kd_X10_seekFewest) := ckk_ok (o := 10) (by decide +kernel) rfl ck_m175 (fun pc h => by unfold kd_X10_seekFewest; rw [h]; rfl)
theorem ck_m176 : ckM 10 (yX10_followBegins, cX10_followBegins, 2, none) 35 kd_X10_followBegins = true := by decide +kernel
theorem ok_m176 : kOk ((yX10_followBegins, cX10_followBegins, 2, none), kd_X10_followBegins) := ckk_ok (o := 10) (by decide +kernel) rfl ck_m176 (fun pc h => by unfold kd_X10_followBegins; rw [h]; rfl)
theorem ck_m177 : ckM 10 (yX10_openBy, cX10_openBy, 2, (some .int)) 63 kd_X10_openBy = true := by decide +kernel
theorem ok_m177 : kOk ((yX10_openBy, cX10_openBy, 2, (some .int)), kd_X10_openBy) := ckk_ok (o := 10) (by decide +kernel) rfl ck_m177 (fun pc h => by unfold kd_X10_openBy; rw [h]; rfl)
theorem ck_m178 : ckM 10 (yX10_hasTable, cX10_hasTable, 2, (some .boolean)) 28 kd_X10_hasTable = true := by decide +kernel
theorem ok_m178 : kOk ((yX10_hasTable, cX10_hasTable, 2, (some .boolean)), kd_X10_hasTable) := ckk_ok (o := 10) (by decide +kernel) rfl ck_m178 (fun pc h => by unfold kd_X10_hasTable; rw [h]; rfl)
theorem ck_m179 : ckM 10 (yX10_isRule, cX10_isRule, 1, (some .boolean)) 15 kd_X10_isRule = true := by decide +kernel
theorem ok_m179 : kOk ((yX10_isRule, cX10_isRule, 1, (some .boolean)), kd_X10_isRule) := ckk_ok (o := 10) (by decide +kernel) rfl ck_m179 (fun pc h => by unfold kd_X10_isRule; rw [h]; rfl)
theorem ck_m180 : ckM 10 (yX10_tableMark, cX10_tableMark, 4, (some .int)) 60 kd_X10_tableMark = true := by decide +kernel
theorem ok_m180 : kOk ((yX10_tableMark, cX10_tableMark, 4, (some .int)), kd_X10_tableMark) := ckk_ok (o := 10) (by decide +kernel) rfl ck_m180 (fun pc h => by unfold kd_X10_tableMark; rw [h]; rfl)
theorem ck_m181 : ckM 10 (yX10_fillTable, cX10_fillTable, 4, none) 55 kd_X10_fillTable = true := by decide +kernel
theorem ok_m181 : kOk ((yX10_fillTable, cX10_fillTable, 4, none), kd_X10_fillTable) := ckk_ok (o := 10) (by decide +kernel) rfl ck_m181 (fun pc h => by unfold kd_X10_fillTable; rw [h]; rfl)
theorem ck_m182 : ckM 10 (yX10_mark, cX10_mark, 3, (some .int)) 12 kd_X10_mark = true := by decide +kernel
theorem ok_m182 : kOk ((yX10_mark, cX10_mark, 3, (some .int)), kd_X10_mark) := ckk_ok (o := 10) (by decide +kernel) rfl ck_m182 (fun pc h => by unfold kd_X10_mark; rw [h]; rfl)
theorem ck_m183 : ckM 10 (yX10_earliest, cX10_earliest, 4, (some .int)) 39 kd_X10_earliest = true := by decide +kernel
theorem ok_m183 : kOk ((yX10_earliest, cX10_earliest, 4, (some .int)), kd_X10_earliest) := ckk_ok (o := 10) (by decide +kernel) rfl ck_m183 (fun pc h => by unfold kd_X10_earliest; rw [h]; rfl)
theorem ck_m184 : ckM 10 (yX10_isRest, cX10_isRest, 5, (some .boolean)) 50 kd_X10_isRest = true := by decide +kernel
theorem ok_m184 : kOk ((yX10_isRest, cX10_isRest, 5, (some .boolean)), kd_X10_isRest) := ckk_ok (o := 10) (by decide +kernel) rfl ck_m184 (fun pc h => by unfold kd_X10_isRest; rw [h]; rfl)
theorem ck_m185 : ckM 10 (yX10_canAsk, cX10_canAsk, 2, (some .boolean)) 26 kd_X10_canAsk = true := by decide +kernel
theorem ok_m185 : kOk ((yX10_canAsk, cX10_canAsk, 2, (some .boolean)), kd_X10_canAsk) := ckk_ok (o := 10) (by decide +kernel) rfl ck_m185 (fun pc h => by unfold kd_X10_canAsk; rw [h]; rfl)
theorem ck_m186 : ckM 10 (yX10_askedBits, cX10_askedBits, 7, (some .int)) 119 kd_X10_askedBits = true := by decide +kernel
theorem ok_m186 : kOk ((yX10_askedBits, cX10_askedBits, 7, (some .int)), kd_X10_askedBits) := ckk_ok (o := 10) (by decide +kernel) rfl ck_m186 (fun pc h => by unfold kd_X10_askedBits; rw [h]; rfl)
theorem ck_m187 : ckM 10 (yX10_dodgerBits, cX10_dodgerBits, 3, (some .int)) 40 kd_X10_dodgerBits = true := by decide +kernel
theorem ok_m187 : kOk ((yX10_dodgerBits, cX10_dodgerBits, 3, (some .int)), kd_X10_dodgerBits) := ckk_ok (o := 10) (by decide +kernel) rfl ck_m187 (fun pc h => by unfold kd_X10_dodgerBits; rw [h]; rfl)
theorem ck_m188 : ckM 10 (yX10_pays, cX10_pays, 5, (some .boolean)) 34 kd_X10_pays = true := by decide +kernel
theorem ok_m188 : kOk ((yX10_pays, cX10_pays, 5, (some .boolean)), kd_X10_pays) := ckk_ok (o := 10) (by decide +kernel) rfl ck_m188 (fun pc h => by unfold kd_X10_pays; rw [h]; rfl)
theorem ck_m189 : ckM 10 (yX10_leastToPay, cX10_leastToPay, 5, (some .int)) 46 kd_X10_leastToPay = true := by decide +kernel
theorem ok_m189 : kOk ((yX10_leastToPay, cX10_leastToPay, 5, (some .int)), kd_X10_leastToPay) := ckk_ok (o := 10) (by decide +kernel) rfl ck_m189 (fun pc h => by unfold kd_X10_leastToPay; rw [h]; rfl)
theorem ck_m190 : ckM 10 (yX10_commonDivisor, cX10_commonDivisor, 6, (some .int)) 36 kd_X10_commonDivisor = true := by decide +kernel
theorem ok_m190 : kOk ((yX10_commonDivisor, cX10_commonDivisor, 6, (some .int)), kd_X10_commonDivisor) := ckk_ok (o := 10) (by decide +kernel) rfl ck_m190 (fun pc h => by unfold kd_X10_commonDivisor; rw [h]; rfl)
theorem ck_m191 : ckM 10 (yX10_sightingState, cX10_sightingState, 8, (some .int)) 133 kd_X10_sightingState = true := by decide +kernel
theorem ok_m191 : kOk ((yX10_sightingState, cX10_sightingState, 8, (some .int)), kd_X10_sightingState) := ckk_ok (o := 10) (by decide +kernel) rfl ck_m191 (fun pc h => by unfold kd_X10_sightingState; rw [h]; rfl)
theorem ck_m192 : ckM 10 (yX10_fitBegins, cX10_fitBegins, 5, (some .int)) 105 kd_X10_fitBegins = true := by decide +kernel
theorem ok_m192 : kOk ((yX10_fitBegins, cX10_fitBegins, 5, (some .int)), kd_X10_fitBegins) := ckk_ok (o := 10) (by decide +kernel) rfl ck_m192 (fun pc h => by unfold kd_X10_fitBegins; rw [h]; rfl)
theorem ck_m193 : ckM 10 (yX10_worstLeft, cX10_worstLeft, 6, (some .int)) 83 kd_X10_worstLeft = true := by decide +kernel
theorem ok_m193 : kOk ((yX10_worstLeft, cX10_worstLeft, 6, (some .int)), kd_X10_worstLeft) := ckk_ok (o := 10) (by decide +kernel) rfl ck_m193 (fun pc h => by unfold kd_X10_worstLeft; rw [h]; rfl)
theorem ck_m194 : ckM 10 (yX10_isSeed, cX10_isSeed, 1, (some .boolean)) 17 kd_X10_isSeed = true := by decide +kernel
theorem ok_m194 : kOk ((yX10_isSeed, cX10_isSeed, 1, (some .boolean)), kd_X10_isSeed) := ckk_ok (o := 10) (by decide +kernel) rfl ck_m194 (fun pc h => by unfold kd_X10_isSeed; rw [h]; rfl)
theorem ck_m195 : ckM 10 (yX10_drawnMinute, cX10_drawnMinute, 5, (some .int)) 68 kd_X10_drawnMinute = true := by decide +kernel
theorem ok_m195 : kOk ((yX10_drawnMinute, cX10_drawnMinute, 5, (some .int)), kd_X10_drawnMinute) := ckk_ok (o := 10) (by decide +kernel) rfl ck_m195 (fun pc h => by unfold kd_X10_drawnMinute; rw [h]; rfl)
theorem ck_m196 : ckM 10 (yX10_isDrawnHad, cX10_isDrawnHad, 8, (some .boolean)) 119 kd_X10_isDrawnHad = true := by decide +kernel
theorem ok_m196 : kOk ((yX10_isDrawnHad, cX10_isDrawnHad, 8, (some .boolean)), kd_X10_isDrawnHad) := ckk_ok (o := 10) (by decide +kernel) rfl ck_m196 (fun pc h => by unfold kd_X10_isDrawnHad; rw [h]; rfl)
theorem ck_m197 : ckM 10 (yX10_isSlot, cX10_isSlot, 1, (some .boolean)) 15 kd_X10_isSlot = true := by decide +kernel
theorem ok_m197 : kOk ((yX10_isSlot, cX10_isSlot, 1, (some .boolean)), kd_X10_isSlot) := ckk_ok (o := 10) (by decide +kernel) rfl ck_m197 (fun pc h => by unfold kd_X10_isSlot; rw [h]; rfl)
theorem ck_m198 : ckM 10 (yX10_filledSlots, cX10_filledSlots, 3, (some .int)) 32 kd_X10_filledSlots = true := by decide +kernel
theorem ok_m198 : kOk ((yX10_filledSlots, cX10_filledSlots, 3, (some .int)), kd_X10_filledSlots) := ckk_ok (o := 10) (by decide +kernel) rfl ck_m198 (fun pc h => by unfold kd_X10_filledSlots; rw [h]; rfl)
theorem ck_m199 : ckM 11 (yX11_init, cX11_init, 1, none) 205 kd_X11_init = true := by decide +kernel
theorem ok_m199 : kOk ((yX11_init, cX11_init, 1, none), kd_X11_init) := ckk_ok (o := 11) (by decide +kernel) rfl ck_m199 (fun pc h => by unfold kd_X11_init; rw [h]; rfl)
theorem ck_m200 : ckM 11 (yX11_in, cX11_in, 6, (some .boolean)) 19 kd_X11_in = true := by decide +kernel
theorem ok_m200 : kOk ((yX11_in, cX11_in, 6, (some .boolean)), kd_X11_in) := ckk_ok (o := 11) (by decide +kernel) rfl ck_m200 (fun pc h => by unfold kd_X11_in; rw [h]; rfl)
theorem ck_m201 : ckM 11 (yX11_bits, cX11_bits, 3, (some .int)) 26 kd_X11_bits = true := by decide +kernel
theorem ok_m201 : kOk ((yX11_bits, cX11_bits, 3, (some .int)), kd_X11_bits) := ckk_ok (o := 11) (by decide +kernel) rfl ck_m201 (fun pc h => by unfold kd_X11_bits; rw [h]; rfl)
theorem ck_m202 : ckM 11 (yX11_bit, cX11_bit, 2, (some .int)) 6 kd_X11_bit = true := by decide +kernel
theorem ok_m202 : kOk ((yX11_bit, cX11_bit, 2, (some .int)), kd_X11_bit) := ckk_ok (o := 11) (by decide +kernel) rfl ck_m202 (fun pc h => by unfold kd_X11_bit; rw [h]; rfl)
theorem ck_m203 : ckM 11 (yX11_image, cX11_image, 3, (some .int)) 57 kd_X11_image = true := by decide +kernel
theorem ok_m203 : kOk ((yX11_image, cX11_image, 3, (some .int)), kd_X11_image) := ckk_ok (o := 11) (by decide +kernel) rfl ck_m203 (fun pc h => by unfold kd_X11_image; rw [h]; rfl)
theorem ck_m204 : ckM 11 (yX11_back, cX11_back, 3, (some .int)) 62 kd_X11_back = true := by decide +kernel
theorem ok_m204 : kOk ((yX11_back, cX11_back, 3, (some .int)), kd_X11_back) := ckk_ok (o := 11) (by decide +kernel) rfl ck_m204 (fun pc h => by unfold kd_X11_back; rw [h]; rfl)
theorem ck_m205 : ckM 11 (yX11_isTrain, cX11_isTrain, 1, (some .boolean)) 16 kd_X11_isTrain = true := by decide +kernel
theorem ok_m205 : kOk ((yX11_isTrain, cX11_isTrain, 1, (some .boolean)), kd_X11_isTrain) := ckk_ok (o := 11) (by decide +kernel) rfl ck_m205 (fun pc h => by unfold kd_X11_isTrain; rw [h]; rfl)
theorem ck_m206 : ckM 11 (yX11_isCoach, cX11_isCoach, 3, (some .boolean)) 15 kd_X11_isCoach = true := by decide +kernel
theorem ok_m206 : kOk ((yX11_isCoach, cX11_isCoach, 3, (some .boolean)), kd_X11_isCoach) := ckk_ok (o := 11) (by decide +kernel) rfl ck_m206 (fun pc h => by unfold kd_X11_isCoach; rw [h]; rfl)
theorem ck_m207 : ckM 11 (yX11_isMinute, cX11_isMinute, 3, (some .boolean)) 15 kd_X11_isMinute = true := by decide +kernel
theorem ok_m207 : kOk ((yX11_isMinute, cX11_isMinute, 3, (some .boolean)), kd_X11_isMinute) := ckk_ok (o := 11) (by decide +kernel) rfl ck_m207 (fun pc h => by unfold kd_X11_isMinute; rw [h]; rfl)
theorem ck_m208 : ckM 11 (yX11_isInspector, cX11_isInspector, 2, (some .boolean)) 16 kd_X11_isInspector = true := by decide +kernel
theorem ok_m208 : kOk ((yX11_isInspector, cX11_isInspector, 2, (some .boolean)), kd_X11_isInspector) := ckk_ok (o := 11) (by decide +kernel) rfl ck_m208 (fun pc h => by unfold kd_X11_isInspector; rw [h]; rfl)
theorem ck_m209 : ckM 11 (yX11_isRider, cX11_isRider, 2, (some .boolean)) 17 kd_X11_isRider = true := by decide +kernel
theorem ok_m209 : kOk ((yX11_isRider, cX11_isRider, 2, (some .boolean)), kd_X11_isRider) := ckk_ok (o := 11) (by decide +kernel) rfl ck_m209 (fun pc h => by unfold kd_X11_isRider; rw [h]; rfl)
theorem ck_m210 : ckM 11 (yX11_isDay, cX11_isDay, 2, (some .boolean)) 25 kd_X11_isDay = true := by decide +kernel
theorem ok_m210 : kOk ((yX11_isDay, cX11_isDay, 2, (some .boolean)), kd_X11_isDay) := ckk_ok (o := 11) (by decide +kernel) rfl ck_m210 (fun pc h => by unfold kd_X11_isDay; rw [h]; rfl)
theorem ck_m211 : ckM 11 (yX11_isBegin, cX11_isBegin, 2, (some .boolean)) 18 kd_X11_isBegin = true := by decide +kernel
theorem ok_m211 : kOk ((yX11_isBegin, cX11_isBegin, 2, (some .boolean)), kd_X11_isBegin) := ckk_ok (o := 11) (by decide +kernel) rfl ck_m211 (fun pc h => by unfold kd_X11_isBegin; rw [h]; rfl)
theorem ck_m212 : ckM 11 (yX11_isRule, cX11_isRule, 1, (some .boolean)) 10 kd_X11_isRule = true := by decide +kernel
theorem ok_m212 : kOk ((yX11_isRule, cX11_isRule, 1, (some .boolean)), kd_X11_isRule) := ckk_ok (o := 11) (by decide +kernel) rfl ck_m212 (fun pc h => by unfold kd_X11_isRule; rw [h]; rfl)
theorem ck_m213 : ckM 11 (yX11_ofCoach, cX11_ofCoach, 3, (some .int)) 14 kd_X11_ofCoach = true := by decide +kernel
theorem ok_m213 : kOk ((yX11_ofCoach, cX11_ofCoach, 3, (some .int)), kd_X11_ofCoach) := ckk_ok (o := 11) (by decide +kernel) rfl ck_m213 (fun pc h => by unfold kd_X11_ofCoach; rw [h]; rfl)
theorem ck_m214 : ckM 11 (yX11_ofInspector, cX11_ofInspector, 3, (some .int)) 14 kd_X11_ofInspector = true := by decide +kernel
theorem ok_m214 : kOk ((yX11_ofInspector, cX11_ofInspector, 3, (some .int)), kd_X11_ofInspector) := ckk_ok (o := 11) (by decide +kernel) rfl ck_m214 (fun pc h => by unfold kd_X11_ofInspector; rw [h]; rfl)
theorem ck_m215 : ckM 11 (yX11_ofRider, cX11_ofRider, 3, (some .int)) 14 kd_X11_ofRider = true := by decide +kernel
theorem ok_m215 : kOk ((yX11_ofRider, cX11_ofRider, 3, (some .int)), kd_X11_ofRider) := ckk_ok (o := 11) (by decide +kernel) rfl ck_m215 (fun pc h => by unfold kd_X11_ofRider; rw [h]; rfl)
theorem ck_m216 : ckM 11 (yX11_minutes, cX11_minutes, 1, (some .int)) 7 kd_X11_minutes = true := by decide +kernel
theorem ok_m216 : kOk ((yX11_minutes, cX11_minutes, 1, (some .int)), kd_X11_minutes) := ckk_ok (o := 11) (by decide +kernel) rfl ck_m216 (fun pc h => by unfold kd_X11_minutes; rw [h]; rfl)
theorem ck_m217 : ckM 11 (yX11_feed, cX11_feed, 7, (some .int)) 117 kd_X11_feed = true := by decide +kernel
theorem ok_m217 : kOk ((yX11_feed, cX11_feed, 7, (some .int)), kd_X11_feed) := ckk_ok (o := 11) (by decide +kernel) rfl ck_m217 (fun pc h => by unfold kd_X11_feed; rw [h]; rfl)
theorem ck_m218 : ckM 11 (yX11_end, cX11_end, 2, (some .int)) 23 kd_X11_end = true := by decide +kernel
theorem ok_m218 : kOk ((yX11_end, cX11_end, 2, (some .int)), kd_X11_end) := ckk_ok (o := 11) (by decide +kernel) rfl ck_m218 (fun pc h => by unfold kd_X11_end; rw [h]; rfl)
theorem ck_m219 : ckM 11 (yX11_see, cX11_see, 2, (some .int)) 23 kd_X11_see = true := by decide +kernel
theorem ok_m219 : kOk ((yX11_see, cX11_see, 2, (some .int)), kd_X11_see) := ckk_ok (o := 11) (by decide +kernel) rfl ck_m219 (fun pc h => by unfold kd_X11_see; rw [h]; rfl)
theorem ck_m220 : ckM 11 (yX11_advance, cX11_advance, 2, none) 240 kd_X11_advance = true := by decide +kernel
theorem ok_m220 : kOk ((yX11_advance, cX11_advance, 2, none), kd_X11_advance) := ckk_ok (o := 11) (by decide +kernel) rfl ck_m220 (fun pc h => by unfold kd_X11_advance; rw [h]; rfl)
theorem ck_m221 : ckM 11 (yX11_good, cX11_good, 1, (some .boolean)) 13 kd_X11_good = true := by decide +kernel
theorem ok_m221 : kOk ((yX11_good, cX11_good, 1, (some .boolean)), kd_X11_good) := ckk_ok (o := 11) (by decide +kernel) rfl ck_m221 (fun pc h => by unfold kd_X11_good; rw [h]; rfl)
theorem ck_m222 : ckM 11 (yX11_errs, cX11_errs, 2, none) 22 kd_X11_errs = true := by decide +kernel
theorem ok_m222 : kOk ((yX11_errs, cX11_errs, 2, none), kd_X11_errs) := ckk_ok (o := 11) (by decide +kernel) rfl ck_m222 (fun pc h => by unfold kd_X11_errs; rw [h]; rfl)
theorem ck_m223 : ckM 11 (yX11_is, cX11_is, 4, (some .boolean)) 84 kd_X11_is = true := by decide +kernel
theorem ok_m223 : kOk ((yX11_is, cX11_is, 4, (some .boolean)), kd_X11_is) := ckk_ok (o := 11) (by decide +kernel) rfl ck_m223 (fun pc h => by unfold kd_X11_is; rw [h]; rfl)
theorem ck_m224 : ckM 11 (yX11_takes, cX11_takes, 3, (some .boolean)) 16 kd_X11_takes = true := by decide +kernel
theorem ok_m224 : kOk ((yX11_takes, cX11_takes, 3, (some .boolean)), kd_X11_takes) := ckk_ok (o := 11) (by decide +kernel) rfl ck_m224 (fun pc h => by unfold kd_X11_takes; rw [h]; rfl)
theorem ck_m225 : ckM 11 (yX11_needs, cX11_needs, 2, none) 14 kd_X11_needs = true := by decide +kernel
theorem ok_m225 : kOk ((yX11_needs, cX11_needs, 2, none), kd_X11_needs) := ckk_ok (o := 11) (by decide +kernel) rfl ck_m225 (fun pc h => by unfold kd_X11_needs; rw [h]; rfl)
theorem ck_m226 : ckM 11 (yX11_number, cX11_number, 4, (some .int)) 67 kd_X11_number = true := by decide +kernel
theorem ok_m226 : kOk ((yX11_number, cX11_number, 4, (some .int)), kd_X11_number) := ckk_ok (o := 11) (by decide +kernel) rfl ck_m226 (fun pc h => by unfold kd_X11_number; rw [h]; rfl)
theorem ck_m227 : ckM 11 (yX11_told, cX11_told, 4, (some .int)) 12 kd_X11_told = true := by decide +kernel
theorem ok_m227 : kOk ((yX11_told, cX11_told, 4, (some .int)), kd_X11_told) := ckk_ok (o := 11) (by decide +kernel) rfl ck_m227 (fun pc h => by unfold kd_X11_told; rw [h]; rfl)
theorem ck_m228 : ckM 11 (yX11_fault, cX11_fault, 2, (some .int)) 25 kd_X11_fault = true := by decide +kernel
theorem ok_m228 : kOk ((yX11_fault, cX11_fault, 2, (some .int)), kd_X11_fault) := ckk_ok (o := 11) (by decide +kernel) rfl ck_m228 (fun pc h => by unfold kd_X11_fault; rw [h]; rfl)
theorem ck_m229 : ckM 11 (yX11_freshCoach, cX11_freshCoach, 1, (some .int)) 14 kd_X11_freshCoach = true := by decide +kernel
theorem ok_m229 : kOk ((yX11_freshCoach, cX11_freshCoach, 1, (some .int)), kd_X11_freshCoach) := ckk_ok (o := 11) (by decide +kernel) rfl ck_m229 (fun pc h => by unfold kd_X11_freshCoach; rw [h]; rfl)
theorem ck_m230 : ckM 11 (yX11_moreMarks, cX11_moreMarks, 1, (some .boolean)) 21 kd_X11_moreMarks = true := by decide +kernel
theorem ok_m230 : kOk ((yX11_moreMarks, cX11_moreMarks, 1, (some .boolean)), kd_X11_moreMarks) := ckk_ok (o := 11) (by decide +kernel) rfl ck_m230 (fun pc h => by unfold kd_X11_moreMarks; rw [h]; rfl)
theorem ck_m231 : ckM 11 (yX11_readCoach, cX11_readCoach, 5, none) 125 kd_X11_readCoach = true := by decide +kernel
theorem ok_m231 : kOk ((yX11_readCoach, cX11_readCoach, 5, none), kd_X11_readCoach) := ckk_ok (o := 11) (by decide +kernel) rfl ck_m231 (fun pc h => by unfold kd_X11_readCoach; rw [h]; rfl)
theorem ck_m232 : ckM 11 (yX11_readInspector, cX11_readInspector, 4, none) 192 kd_X11_readInspector = true := by decide +kernel
theorem ok_m232 : kOk ((yX11_readInspector, cX11_readInspector, 4, none), kd_X11_readInspector) := ckk_ok (o := 11) (by decide +kernel) rfl ck_m232 (fun pc h => by unfold kd_X11_readInspector; rw [h]; rfl)
