theorem ck_m233 : ckM 11 (yX11_freshRule, cX11_freshRule, 1, (some .int)) 41 kd_X11_freshRule = true := by decide +kernel
theorem ok_m233 : kOk ((yX11_freshRule, cX11_freshRule, 1, (some .int)), kd_X11_freshRule) := ckk_ok (o := 11) (by decide +kernel) rfl ck_m233 (fun pc h => by unfold kd_X11_freshRule; rw [h]; rfl)
theorem ck_m234 : ckM 11 (yX11_readRider, cX11_readRider, 2, none) 111 kd_X11_readRider = true := by decide +kernel
theorem ok_m234 : kOk ((yX11_readRider, cX11_readRider, 2, none), kd_X11_readRider) := ckk_ok (o := 11) (by decide +kernel) rfl ck_m234 (fun pc h => by unfold kd_X11_readRider; rw [h]; rfl)
theorem ck_m235 : ckM 11 (yX11_readNext, cX11_readNext, 4, none) 192 kd_X11_readNext = true := by decide +kernel
theorem ok_m235 : kOk ((yX11_readNext, cX11_readNext, 4, none), kd_X11_readNext) := ckk_ok (o := 11) (by decide +kernel) rfl ck_m235 (fun pc h => by unfold kd_X11_readNext; rw [h]; rfl)
theorem ck_m236 : ckM 11 (yX11_readLine, cX11_readLine, 1, none) 142 kd_X11_readLine = true := by decide +kernel
theorem ok_m236 : kOk ((yX11_readLine, cX11_readLine, 1, none), kd_X11_readLine) := ckk_ok (o := 11) (by decide +kernel) rfl ck_m236 (fun pc h => by unfold kd_X11_readLine; rw [h]; rfl)
theorem ck_m237 : ckM 11 (yX11_train, cX11_train, 2, (some .int)) 120 kd_X11_train = true := by decide +kernel
theorem ok_m237 : kOk ((yX11_train, cX11_train, 2, (some .int)), kd_X11_train) := ckk_ok (o := 11) (by decide +kernel) rfl ck_m237 (fun pc h => by unfold kd_X11_train; rw [h]; rfl)
theorem ck_m238 : ckM 11 (yX11_staysOf, cX11_staysOf, 3, (some .int)) 16 kd_X11_staysOf = true := by decide +kernel
theorem ok_m238 : kOk ((yX11_staysOf, cX11_staysOf, 3, (some .int)), kd_X11_staysOf) := ckk_ok (o := 11) (by decide +kernel) rfl ck_m238 (fun pc h => by unfold kd_X11_staysOf; rw [h]; rfl)
theorem ck_m239 : ckM 11 (yX11_lay, cX11_lay, 9, none) 168 kd_X11_lay = true := by decide +kernel
theorem ok_m239 : kOk ((yX11_lay, cX11_lay, 9, none), kd_X11_lay) := ckk_ok (o := 11) (by decide +kernel) rfl ck_m239 (fun pc h => by unfold kd_X11_lay; rw [h]; rfl)
theorem ck_m240 : ckM 11 (yX11_beginOf, cX11_beginOf, 2, (some .int)) 16 kd_X11_beginOf = true := by decide +kernel
theorem ok_m240 : kOk ((yX11_beginOf, cX11_beginOf, 2, (some .int)), kd_X11_beginOf) := ckk_ok (o := 11) (by decide +kernel) rfl ck_m240 (fun pc h => by unfold kd_X11_beginOf; rw [h]; rfl)
theorem ck_m241 : ckM 11 (yX11_asItIs, cX11_asItIs, 2, none) 38 kd_X11_asItIs = true := by decide +kernel
theorem ok_m241 : kOk ((yX11_asItIs, cX11_asItIs, 2, none), kd_X11_asItIs) := ckk_ok (o := 11) (by decide +kernel) rfl ck_m241 (fun pc h => by unfold kd_X11_asItIs; rw [h]; rfl)
theorem ck_m242 : ckM 11 (yX11_posOf, cX11_posOf, 3, (some .int)) 12 kd_X11_posOf = true := by decide +kernel
theorem ok_m242 : kOk ((yX11_posOf, cX11_posOf, 3, (some .int)), kd_X11_posOf) := ckk_ok (o := 11) (by decide +kernel) rfl ck_m242 (fun pc h => by unfold kd_X11_posOf; rw [h]; rfl)
theorem ck_m243 : ckM 11 (yX11_isStop, cX11_isStop, 2, (some .boolean)) 21 kd_X11_isStop = true := by decide +kernel
theorem ok_m243 : kOk ((yX11_isStop, cX11_isStop, 2, (some .boolean)), kd_X11_isStop) := ckk_ok (o := 11) (by decide +kernel) rfl ck_m243 (fun pc h => by unfold kd_X11_isStop; rw [h]; rfl)
theorem ck_m244 : ckM 11 (yX11_coach, cX11_coach, 3, (some .int)) 33 kd_X11_coach = true := by decide +kernel
theorem ok_m244 : kOk ((yX11_coach, cX11_coach, 3, (some .int)), kd_X11_coach) := ckk_ok (o := 11) (by decide +kernel) rfl ck_m244 (fun pc h => by unfold kd_X11_coach; rw [h]; rfl)
theorem ck_m245 : ckM 11 (yX11_inspector, cX11_inspector, 3, (some .int)) 32 kd_X11_inspector = true := by decide +kernel
theorem ok_m245 : kOk ((yX11_inspector, cX11_inspector, 3, (some .int)), kd_X11_inspector) := ckk_ok (o := 11) (by decide +kernel) rfl ck_m245 (fun pc h => by unfold kd_X11_inspector; rw [h]; rfl)
theorem ck_m246 : ckM 11 (yX11_rider, cX11_rider, 3, (some .int)) 32 kd_X11_rider = true := by decide +kernel
theorem ok_m246 : kOk ((yX11_rider, cX11_rider, 3, (some .int)), kd_X11_rider) := ckk_ok (o := 11) (by decide +kernel) rfl ck_m246 (fun pc h => by unfold kd_X11_rider; rw [h]; rfl)
theorem ck_m247 : ckM 11 (yX11_day, cX11_day, 2, (some .int)) 23 kd_X11_day = true := by decide +kernel
theorem ok_m247 : kOk ((yX11_day, cX11_day, 2, (some .int)), kd_X11_day) := ckk_ok (o := 11) (by decide +kernel) rfl ck_m247 (fun pc h => by unfold kd_X11_day; rw [h]; rfl)
theorem ck_m248 : ckM 11 (yX11_stop, cX11_stop, 2, (some .int)) 28 kd_X11_stop = true := by decide +kernel
theorem ok_m248 : kOk ((yX11_stop, cX11_stop, 2, (some .int)), kd_X11_stop) := ckk_ok (o := 11) (by decide +kernel) rfl ck_m248 (fun pc h => by unfold kd_X11_stop; rw [h]; rfl)
theorem ck_m249 : ckM 11 (yX11_at, cX11_at, 3, (some .int)) 31 kd_X11_at = true := by decide +kernel
theorem ok_m249 : kOk ((yX11_at, cX11_at, 3, (some .int)), kd_X11_at) := ckk_ok (o := 11) (by decide +kernel) rfl ck_m249 (fun pc h => by unfold kd_X11_at; rw [h]; rfl)
theorem ck_m250 : ckM 11 (yX11_stays, cX11_stays, 3, (some .int)) 29 kd_X11_stays = true := by decide +kernel
theorem ok_m250 : kOk ((yX11_stays, cX11_stays, 3, (some .int)), kd_X11_stays) := ckk_ok (o := 11) (by decide +kernel) rfl ck_m250 (fun pc h => by unfold kd_X11_stays; rw [h]; rfl)
theorem ck_m251 : ckM 11 (yX11_comes, cX11_comes, 4, (some .int)) 54 kd_X11_comes = true := by decide +kernel
theorem ok_m251 : kOk ((yX11_comes, cX11_comes, 4, (some .int)), kd_X11_comes) := ckk_ok (o := 11) (by decide +kernel) rfl ck_m251 (fun pc h => by unfold kd_X11_comes; rw [h]; rfl)
theorem ck_m252 : ckM 11 (yX11_watchedIn, cX11_watchedIn, 4, (some .int)) 45 kd_X11_watchedIn = true := by decide +kernel
theorem ok_m252 : kOk ((yX11_watchedIn, cX11_watchedIn, 4, (some .int)), kd_X11_watchedIn) := ckk_ok (o := 11) (by decide +kernel) rfl ck_m252 (fun pc h => by unfold kd_X11_watchedIn; rw [h]; rfl)
theorem ck_m253 : ckM 11 (yX11_watched, cX11_watched, 2, (some .int)) 22 kd_X11_watched = true := by decide +kernel
theorem ok_m253 : kOk ((yX11_watched, cX11_watched, 2, (some .int)), kd_X11_watched) := ckk_ok (o := 11) (by decide +kernel) rfl ck_m253 (fun pc h => by unfold kd_X11_watched; rw [h]; rfl)
theorem ck_m254 : ckM 11 (yX11_never, cX11_never, 3, (some .int)) 53 kd_X11_never = true := by decide +kernel
theorem ok_m254 : kOk ((yX11_never, cX11_never, 3, (some .int)), kd_X11_never) := ckk_ok (o := 11) (by decide +kernel) rfl ck_m254 (fun pc h => by unfold kd_X11_never; rw [h]; rfl)
theorem ck_m255 : ckM 11 (yX11_hasIn, cX11_hasIn, 4, (some .int)) 47 kd_X11_hasIn = true := by decide +kernel
theorem ok_m255 : kOk ((yX11_hasIn, cX11_hasIn, 4, (some .int)), kd_X11_hasIn) := ckk_ok (o := 11) (by decide +kernel) rfl ck_m255 (fun pc h => by unfold kd_X11_hasIn; rw [h]; rfl)
theorem ck_m256 : ckM 11 (yX11_meets, cX11_meets, 5, (some .int)) 47 kd_X11_meets = true := by decide +kernel
theorem ok_m256 : kOk ((yX11_meets, cX11_meets, 5, (some .int)), kd_X11_meets) := ckk_ok (o := 11) (by decide +kernel) rfl ck_m256 (fun pc h => by unfold kd_X11_meets; rw [h]; rfl)
theorem ck_m257 : ckM 11 (yX11_placesAsTheyAre, cX11_placesAsTheyAre, 2, none) 63 kd_X11_placesAsTheyAre = true := by decide +kernel
theorem ok_m257 : kOk ((yX11_placesAsTheyAre, cX11_placesAsTheyAre, 2, none), kd_X11_placesAsTheyAre) := ckk_ok (o := 11) (by decide +kernel) rfl ck_m257 (fun pc h => by unfold kd_X11_placesAsTheyAre; rw [h]; rfl)
theorem ck_m258 : ckM 11 (yX11_stepped, cX11_stepped, 6, (some .int)) 170 kd_X11_stepped = true := by decide +kernel
theorem ok_m258 : kOk ((yX11_stepped, cX11_stepped, 6, (some .int)), kd_X11_stepped) := ckk_ok (o := 11) (by decide +kernel) rfl ck_m258 (fun pc h => by unfold kd_X11_stepped; rw [h]; rfl)
theorem ck_m259 : ckM 11 (yX11_isFreeStep, cX11_isFreeStep, 5, (some .boolean)) 62 kd_X11_isFreeStep = true := by decide +kernel
theorem ok_m259 : kOk ((yX11_isFreeStep, cX11_isFreeStep, 5, (some .boolean)), kd_X11_isFreeStep) := ckk_ok (o := 11) (by decide +kernel) rfl ck_m259 (fun pc h => by unfold kd_X11_isFreeStep; rw [h]; rfl)
theorem ck_m260 : ckM 11 (yX11_isPlace, cX11_isPlace, 2, (some .boolean)) 37 kd_X11_isPlace = true := by decide +kernel
theorem ok_m260 : kOk ((yX11_isPlace, cX11_isPlace, 2, (some .boolean)), kd_X11_isPlace) := ckk_ok (o := 11) (by decide +kernel) rfl ck_m260 (fun pc h => by unfold kd_X11_isPlace; rw [h]; rfl)
theorem ck_m261 : ckM 11 (yX11_fillPlaces, cX11_fillPlaces, 8, none) 302 kd_X11_fillPlaces = true := by decide +kernel
theorem ok_m261 : kOk ((yX11_fillPlaces, cX11_fillPlaces, 8, none), kd_X11_fillPlaces) := ckk_ok (o := 11) (by decide +kernel) rfl ck_m261 (fun pc h => by unfold kd_X11_fillPlaces; rw [h]; rfl)
theorem ck_m262 : ckM 11 (yX11_fillAsItIs, cX11_fillAsItIs, 1, none) 13 kd_X11_fillAsItIs = true := by decide +kernel
theorem ok_m262 : kOk ((yX11_fillAsItIs, cX11_fillAsItIs, 1, none), kd_X11_fillAsItIs) := ckk_ok (o := 11) (by decide +kernel) rfl ck_m262 (fun pc h => by unfold kd_X11_fillAsItIs; rw [h]; rfl)
theorem ck_m263 : ckM 11 (yX11_safeNow, cX11_safeNow, 3, (some .int)) 43 kd_X11_safeNow = true := by decide +kernel
theorem ok_m263 : kOk ((yX11_safeNow, cX11_safeNow, 3, (some .int)), kd_X11_safeNow) := ckk_ok (o := 11) (by decide +kernel) rfl ck_m263 (fun pc h => by unfold kd_X11_safeNow; rw [h]; rfl)
theorem ck_m264 : ckM 11 (yX11_can, cX11_can, 4, (some .int)) 73 kd_X11_can = true := by decide +kernel
theorem ok_m264 : kOk ((yX11_can, cX11_can, 4, (some .int)), kd_X11_can) := ckk_ok (o := 11) (by decide +kernel) rfl ck_m264 (fun pc h => by unfold kd_X11_can; rw [h]; rfl)
theorem ck_m265 : ckM 11 (yX11_safe, cX11_safe, 1, (some .int)) 19 kd_X11_safe = true := by decide +kernel
theorem ok_m265 : kOk ((yX11_safe, cX11_safe, 1, (some .int)), kd_X11_safe) := ckk_ok (o := 11) (by decide +kernel) rfl ck_m265 (fun pc h => by unfold kd_X11_safe; rw [h]; rfl)
theorem ck_m266 : ckM 11 (yX11_path, cX11_path, 6, (some .int)) 126 kd_X11_path = true := by decide +kernel
theorem ok_m266 : kOk ((yX11_path, cX11_path, 6, (some .int)), kd_X11_path) := ckk_ok (o := 11) (by decide +kernel) rfl ck_m266 (fun pc h => by unfold kd_X11_path; rw [h]; rfl)
theorem ck_m267 : ckM 11 (yX11_effort, cX11_effort, 2, (some .int)) 43 kd_X11_effort = true := by decide +kernel
theorem ok_m267 : kOk ((yX11_effort, cX11_effort, 2, (some .int)), kd_X11_effort) := ckk_ok (o := 11) (by decide +kernel) rfl ck_m267 (fun pc h => by unfold kd_X11_effort; rw [h]; rfl)
theorem ck_m268 : ckM 11 (yX11_lasts, cX11_lasts, 2, (some .int)) 25 kd_X11_lasts = true := by decide +kernel
theorem ok_m268 : kOk ((yX11_lasts, cX11_lasts, 2, (some .int)), kd_X11_lasts) := ckk_ok (o := 11) (by decide +kernel) rfl ck_m268 (fun pc h => by unfold kd_X11_lasts; rw [h]; rfl)
theorem ck_m269 : ckM 11 (yX11_room, cX11_room, 5, (some .int)) 231 kd_X11_room = true := by decide +kernel
theorem ok_m269 : kOk ((yX11_room, cX11_room, 5, (some .int)), kd_X11_room) := ckk_ok (o := 11) (by decide +kernel) rfl ck_m269 (fun pc h => by unfold kd_X11_room; rw [h]; rfl)
theorem ck_m270 : ckM 11 (yX11_catchesAll, cX11_catchesAll, 2, (some .boolean)) 53 kd_X11_catchesAll = true := by decide +kernel
theorem ok_m270 : kOk ((yX11_catchesAll, cX11_catchesAll, 2, (some .boolean)), kd_X11_catchesAll) := ckk_ok (o := 11) (by decide +kernel) rfl ck_m270 (fun pc h => by unfold kd_X11_catchesAll; rw [h]; rfl)
theorem ck_m271 : ckM 11 (yX11_nextRow, cX11_nextRow, 3, (some .boolean)) 74 kd_X11_nextRow = true := by decide +kernel
theorem ok_m271 : kOk ((yX11_nextRow, cX11_nextRow, 3, (some .boolean)), kd_X11_nextRow) := ckk_ok (o := 11) (by decide +kernel) rfl ck_m271 (fun pc h => by unfold kd_X11_nextRow; rw [h]; rfl)
theorem ck_m272 : ckM 11 (yX11_findRow, cX11_findRow, 2, (some .boolean)) 71 kd_X11_findRow = true := by decide +kernel
theorem ok_m272 : kOk ((yX11_findRow, cX11_findRow, 2, (some .boolean)), kd_X11_findRow) := ckk_ok (o := 11) (by decide +kernel) rfl ck_m272 (fun pc h => by unfold kd_X11_findRow; rw [h]; rfl)
theorem ck_m273 : ckM 11 (yX11_fewest, cX11_fewest, 1, (some .int)) 28 kd_X11_fewest = true := by decide +kernel
theorem ok_m273 : kOk ((yX11_fewest, cX11_fewest, 1, (some .int)), kd_X11_fewest) := ckk_ok (o := 11) (by decide +kernel) rfl ck_m273 (fun pc h => by unfold kd_X11_fewest; rw [h]; rfl)
theorem ck_m274 : ckM 11 (yX11_begins, cX11_begins, 2, (some .int)) 46 kd_X11_begins = true := by decide +kernel
theorem ok_m274 : kOk ((yX11_begins, cX11_begins, 2, (some .int)), kd_X11_begins) := ckk_ok (o := 11) (by decide +kernel) rfl ck_m274 (fun pc h => by unfold kd_X11_begins; rw [h]; rfl)
theorem ck_m275 : ckM 11 (yX11_leavesOf, cX11_leavesOf, 2, (some .int)) 28 kd_X11_leavesOf = true := by decide +kernel
theorem ok_m275 : kOk ((yX11_leavesOf, cX11_leavesOf, 2, (some .int)), kd_X11_leavesOf) := ckk_ok (o := 11) (by decide +kernel) rfl ck_m275 (fun pc h => by unfold kd_X11_leavesOf; rw [h]; rfl)
theorem ck_m276 : ckM 11 (yX11_leaves, cX11_leaves, 2, (some .int)) 28 kd_X11_leaves = true := by decide +kernel
theorem ok_m276 : kOk ((yX11_leaves, cX11_leaves, 2, (some .int)), kd_X11_leaves) := ckk_ok (o := 11) (by decide +kernel) rfl ck_m276 (fun pc h => by unfold kd_X11_leaves; rw [h]; rfl)
theorem ck_m277 : ckM 11 (yX11_begin, cX11_begin, 3, (some .int)) 55 kd_X11_begin = true := by decide +kernel
theorem ok_m277 : kOk ((yX11_begin, cX11_begin, 3, (some .int)), kd_X11_begin) := ckk_ok (o := 11) (by decide +kernel) rfl ck_m277 (fun pc h => by unfold kd_X11_begin; rw [h]; rfl)
theorem ck_m278 : ckM 11 (yX11_nearest, cX11_nearest, 5, (some .int)) 62 kd_X11_nearest = true := by decide +kernel
theorem ok_m278 : kOk ((yX11_nearest, cX11_nearest, 5, (some .int)), kd_X11_nearest) := ckk_ok (o := 11) (by decide +kernel) rfl ck_m278 (fun pc h => by unfold kd_X11_nearest; rw [h]; rfl)
theorem ck_m279 : ckM 11 (yX11_farFrom, cX11_farFrom, 3, (some .int)) 12 kd_X11_farFrom = true := by decide +kernel
theorem ok_m279 : kOk ((yX11_farFrom, cX11_farFrom, 3, (some .int)), kd_X11_farFrom) := ckk_ok (o := 11) (by decide +kernel) rfl ck_m279 (fun pc h => by unfold kd_X11_farFrom; rw [h]; rfl)
theorem ck_m280 : ckM 11 (yX11_platform, cX11_platform, 5, (some .int)) 83 kd_X11_platform = true := by decide +kernel
theorem ok_m280 : kOk ((yX11_platform, cX11_platform, 5, (some .int)), kd_X11_platform) := ckk_ok (o := 11) (by decide +kernel) rfl ck_m280 (fun pc h => by unfold kd_X11_platform; rw [h]; rfl)
theorem ck_m281 : ckM 11 (yX11_goes, cX11_goes, 9, (some .int)) 160 kd_X11_goes = true := by decide +kernel
theorem ok_m281 : kOk ((yX11_goes, cX11_goes, 9, (some .int)), kd_X11_goes) := ckk_ok (o := 11) (by decide +kernel) rfl ck_m281 (fun pc h => by unfold kd_X11_goes; rw [h]; rfl)
theorem ck_m282 : ckM 11 (yX11_goTrip, cX11_goTrip, 5, none) 51 kd_X11_goTrip = true := by decide +kernel
theorem ok_m282 : kOk ((yX11_goTrip, cX11_goTrip, 5, none), kd_X11_goTrip) := ckk_ok (o := 11) (by decide +kernel) rfl ck_m282 (fun pc h => by unfold kd_X11_goTrip; rw [h]; rfl)
theorem ck_m283 : ckM 11 (yX11_hasTrip, cX11_hasTrip, 5, (some .int)) 98 kd_X11_hasTrip = true := by decide +kernel
theorem ok_m283 : kOk ((yX11_hasTrip, cX11_hasTrip, 5, (some .int)), kd_X11_hasTrip) := ckk_ok (o := 11) (by decide +kernel) rfl ck_m283 (fun pc h => by unfold kd_X11_hasTrip; rw [h]; rfl)
theorem ck_m284 : ckM 11 (yX11_hadBy, cX11_hadBy, 3, (some .int)) 30 kd_X11_hadBy = true := by decide +kernel
theorem ok_m284 : kOk ((yX11_hadBy, cX11_hadBy, 3, (some .int)), kd_X11_hadBy) := ckk_ok (o := 11) (by decide +kernel) rfl ck_m284 (fun pc h => by unfold kd_X11_hadBy; rw [h]; rfl)
theorem ck_m285 : ckM 11 (yX11_hadOf, cX11_hadOf, 2, (some .int)) 26 kd_X11_hadOf = true := by decide +kernel
theorem ok_m285 : kOk ((yX11_hadOf, cX11_hadOf, 2, (some .int)), kd_X11_hadOf) := ckk_ok (o := 11) (by decide +kernel) rfl ck_m285 (fun pc h => by unfold kd_X11_hadOf; rw [h]; rfl)
theorem ck_m286 : ckM 11 (yX11_where, cX11_where, 3, (some .int)) 47 kd_X11_where = true := by decide +kernel
theorem ok_m286 : kOk ((yX11_where, cX11_where, 3, (some .int)), kd_X11_where) := ckk_ok (o := 11) (by decide +kernel) rfl ck_m286 (fun pc h => by unfold kd_X11_where; rw [h]; rfl)
theorem ck_m287 : ckM 11 (yX11_had, cX11_had, 2, (some .int)) 19 kd_X11_had = true := by decide +kernel
theorem ok_m287 : kOk ((yX11_had, cX11_had, 2, (some .int)), kd_X11_had) := ckk_ok (o := 11) (by decide +kernel) rfl ck_m287 (fun pc h => by unfold kd_X11_had; rw [h]; rfl)
theorem ck_m288 : ckM 11 (yX11_by, cX11_by, 3, (some .int)) 38 kd_X11_by = true := by decide +kernel
theorem ok_m288 : kOk ((yX11_by, cX11_by, 3, (some .int)), kd_X11_by) := ckk_ok (o := 11) (by decide +kernel) rfl ck_m288 (fun pc h => by unfold kd_X11_by; rw [h]; rfl)
theorem ck_m289 : ckM 11 (yX11_finedNow, cX11_finedNow, 3, (some .int)) 51 kd_X11_finedNow = true := by decide +kernel
theorem ok_m289 : kOk ((yX11_finedNow, cX11_finedNow, 3, (some .int)), kd_X11_finedNow) := ckk_ok (o := 11) (by decide +kernel) rfl ck_m289 (fun pc h => by unfold kd_X11_finedNow; rw [h]; rfl)
theorem ck_m290 : ckM 11 (yX11_fined, cX11_fined, 1, (some .int)) 17 kd_X11_fined = true := by decide +kernel
theorem ok_m290 : kOk ((yX11_fined, cX11_fined, 1, (some .int)), kd_X11_fined) := ckk_ok (o := 11) (by decide +kernel) rfl ck_m290 (fun pc h => by unfold kd_X11_fined; rw [h]; rfl)
theorem ck_m291 : ckM 11 (yX11_brings, cX11_brings, 3, (some .int)) 62 kd_X11_brings = true := by decide +kernel
theorem ok_m291 : kOk ((yX11_brings, cX11_brings, 3, (some .int)), kd_X11_brings) := ckk_ok (o := 11) (by decide +kernel) rfl ck_m291 (fun pc h => by unfold kd_X11_brings; rw [h]; rfl)
theorem ck_m292 : ckM 11 (yX11_walks, cX11_walks, 5, (some .int)) 81 kd_X11_walks = true := by decide +kernel
theorem ok_m292 : kOk ((yX11_walks, cX11_walks, 5, (some .int)), kd_X11_walks) := ckk_ok (o := 11) (by decide +kernel) rfl ck_m292 (fun pc h => by unfold kd_X11_walks; rw [h]; rfl)
theorem ck_m293 : ckM 11 (yX11_tableOf, cX11_tableOf, 5, (some .int)) 41 kd_X11_tableOf = true := by decide +kernel
theorem ok_m293 : kOk ((yX11_tableOf, cX11_tableOf, 5, (some .int)), kd_X11_tableOf) := ckk_ok (o := 11) (by decide +kernel) rfl ck_m293 (fun pc h => by unfold kd_X11_tableOf; rw [h]; rfl)
theorem ck_m294 : ckM 11 (yX11_isGame, cX11_isGame, 2, (some .boolean)) 23 kd_X11_isGame = true := by decide +kernel
theorem ok_m294 : kOk ((yX11_isGame, cX11_isGame, 2, (some .boolean)), kd_X11_isGame) := ckk_ok (o := 11) (by decide +kernel) rfl ck_m294 (fun pc h => by unfold kd_X11_isGame; rw [h]; rfl)
theorem ck_m295 : ckM 11 (yX11_table, cX11_table, 4, (some .int)) 36 kd_X11_table = true := by decide +kernel
theorem ok_m295 : kOk ((yX11_table, cX11_table, 4, (some .int)), kd_X11_table) := ckk_ok (o := 11) (by decide +kernel) rfl ck_m295 (fun pc h => by unfold kd_X11_table; rw [h]; rfl)
theorem ck_m296 : ckM 11 (yX11_replyOf, cX11_replyOf, 5, (some .int)) 44 kd_X11_replyOf = true := by decide +kernel
theorem ok_m296 : kOk ((yX11_replyOf, cX11_replyOf, 5, (some .int)), kd_X11_replyOf) := ckk_ok (o := 11) (by decide +kernel) rfl ck_m296 (fun pc h => by unfold kd_X11_replyOf; rw [h]; rfl)
theorem ck_m297 : ckM 11 (yX11_answerOf, cX11_answerOf, 5, (some .int)) 51 kd_X11_answerOf = true := by decide +kernel
theorem ok_m297 : kOk ((yX11_answerOf, cX11_answerOf, 5, (some .int)), kd_X11_answerOf) := ckk_ok (o := 11) (by decide +kernel) rfl ck_m297 (fun pc h => by unfold kd_X11_answerOf; rw [h]; rfl)
theorem ck_m298 : ckM 11 (yX11_reply, cX11_reply, 3, (some .int)) 28 kd_X11_reply = true := by decide +kernel
theorem ok_m298 : kOk ((yX11_reply, cX11_reply, 3, (some .int)), kd_X11_reply) := ckk_ok (o := 11) (by decide +kernel) rfl ck_m298 (fun pc h => by unfold kd_X11_reply; rw [h]; rfl)
theorem ck_m299 : ckM 11 (yX11_answer, cX11_answer, 3, (some .int)) 27 kd_X11_answer = true := by decide +kernel
theorem ok_m299 : kOk ((yX11_answer, cX11_answer, 3, (some .int)), kd_X11_answer) := ckk_ok (o := 11) (by decide +kernel) rfl ck_m299 (fun pc h => by unfold kd_X11_answer; rw [h]; rfl)
theorem ck_m300 : ckM 11 (yX11_isRest, cX11_isRest, 5, (some .boolean)) 49 kd_X11_isRest = true := by decide +kernel
theorem ok_m300 : kOk ((yX11_isRest, cX11_isRest, 5, (some .boolean)), kd_X11_isRest) := ckk_ok (o := 11) (by decide +kernel) rfl ck_m300 (fun pc h => by unfold kd_X11_isRest; rw [h]; rfl)
theorem ck_m301 : ckM 11 (yX11_rests, cX11_rests, 5, (some .int)) 69 kd_X11_rests = true := by decide +kernel
theorem ok_m301 : kOk ((yX11_rests, cX11_rests, 5, (some .int)), kd_X11_rests) := ckk_ok (o := 11) (by decide +kernel) rfl ck_m301 (fun pc h => by unfold kd_X11_rests; rw [h]; rfl)
theorem ck_m302 : ckM 11 (yX11_rest, cX11_rest, 4, (some .int)) 63 kd_X11_rest = true := by decide +kernel
theorem ok_m302 : kOk ((yX11_rest, cX11_rest, 4, (some .int)), kd_X11_rest) := ckk_ok (o := 11) (by decide +kernel) rfl ck_m302 (fun pc h => by unfold kd_X11_rest; rw [h]; rfl)
theorem ck_m303 : ckM 11 (yX11_sure, cX11_sure, 4, (some .int)) 45 kd_X11_sure = true := by decide +kernel
theorem ok_m303 : kOk ((yX11_sure, cX11_sure, 4, (some .int)), kd_X11_sure) := ckk_ok (o := 11) (by decide +kernel) rfl ck_m303 (fun pc h => by unfold kd_X11_sure; rw [h]; rfl)
theorem ck_m304 : ckM 11 (yX11_askedOf, cX11_askedOf, 6, (some .int)) 95 kd_X11_askedOf = true := by decide +kernel
theorem ok_m304 : kOk ((yX11_askedOf, cX11_askedOf, 6, (some .int)), kd_X11_askedOf) := ckk_ok (o := 11) (by decide +kernel) rfl ck_m304 (fun pc h => by unfold kd_X11_askedOf; rw [h]; rfl)
theorem ck_m305 : ckM 11 (yX11_foundIn, cX11_foundIn, 4, (some .int)) 49 kd_X11_foundIn = true := by decide +kernel
theorem ok_m305 : kOk ((yX11_foundIn, cX11_foundIn, 4, (some .int)), kd_X11_foundIn) := ckk_ok (o := 11) (by decide +kernel) rfl ck_m305 (fun pc h => by unfold kd_X11_foundIn; rw [h]; rfl)
theorem ck_m306 : ckM 11 (yX11_ask, cX11_ask, 2, (some .int)) 30 kd_X11_ask = true := by decide +kernel
theorem ok_m306 : kOk ((yX11_ask, cX11_ask, 2, (some .int)), kd_X11_ask) := ckk_ok (o := 11) (by decide +kernel) rfl ck_m306 (fun pc h => by unfold kd_X11_ask; rw [h]; rfl)
theorem ck_m307 : ckM 11 (yX11_found, cX11_found, 2, (some .int)) 34 kd_X11_found = true := by decide +kernel
theorem ok_m307 : kOk ((yX11_found, cX11_found, 2, (some .int)), kd_X11_found) := ckk_ok (o := 11) (by decide +kernel) rfl ck_m307 (fun pc h => by unfold kd_X11_found; rw [h]; rfl)
theorem ck_m308 : ckM 11 (yX11_asks, cX11_asks, 2, (some .int)) 38 kd_X11_asks = true := by decide +kernel
theorem ok_m308 : kOk ((yX11_asks, cX11_asks, 2, (some .int)), kd_X11_asks) := ckk_ok (o := 11) (by decide +kernel) rfl ck_m308 (fun pc h => by unfold kd_X11_asks; rw [h]; rfl)
theorem ck_m309 : ckM 11 (yX11_pays, cX11_pays, 4, (some .boolean)) 34 kd_X11_pays = true := by decide +kernel
theorem ok_m309 : kOk ((yX11_pays, cX11_pays, 4, (some .boolean)), kd_X11_pays) := ckk_ok (o := 11) (by decide +kernel) rfl ck_m309 (fun pc h => by unfold kd_X11_pays; rw [h]; rfl)
theorem ck_m310 : ckM 11 (yX11_dodges, cX11_dodges, 3, (some .int)) 50 kd_X11_dodges = true := by decide +kernel
theorem ok_m310 : kOk ((yX11_dodges, cX11_dodges, 3, (some .int)), kd_X11_dodges) := ckk_ok (o := 11) (by decide +kernel) rfl ck_m310 (fun pc h => by unfold kd_X11_dodges; rw [h]; rfl)
theorem ck_m311 : ckM 11 (yX11_week, cX11_week, 4, (some .int)) 73 kd_X11_week = true := by decide +kernel
theorem ok_m311 : kOk ((yX11_week, cX11_week, 4, (some .int)), kd_X11_week) := ckk_ok (o := 11) (by decide +kernel) rfl ck_m311 (fun pc h => by unfold kd_X11_week; rw [h]; rfl)
theorem ck_m312 : ckM 11 (yX11_fine, cX11_fine, 4, (some .int)) 77 kd_X11_fine = true := by decide +kernel
theorem ok_m312 : kOk ((yX11_fine, cX11_fine, 4, (some .int)), kd_X11_fine) := ckk_ok (o := 11) (by decide +kernel) rfl ck_m312 (fun pc h => by unfold kd_X11_fine; rw [h]; rfl)
theorem ck_m313 : ckM 11 (yX11_often, cX11_often, 3, (some .int)) 44 kd_X11_often = true := by decide +kernel
theorem ok_m313 : kOk ((yX11_often, cX11_often, 3, (some .int)), kd_X11_often) := ckk_ok (o := 11) (by decide +kernel) rfl ck_m313 (fun pc h => by unfold kd_X11_often; rw [h]; rfl)
theorem ck_m314 : ckM 11 (yX11_divisor, cX11_divisor, 5, (some .int)) 23 kd_X11_divisor = true := by decide +kernel
theorem ok_m314 : kOk ((yX11_divisor, cX11_divisor, 5, (some .int)), kd_X11_divisor) := ckk_ok (o := 11) (by decide +kernel) rfl ck_m314 (fun pc h => by unfold kd_X11_divisor; rw [h]; rfl)
theorem ck_m315 : ckM 11 (yX11_mean, cX11_mean, 5, (some .int)) 95 kd_X11_mean = true := by decide +kernel
theorem ok_m315 : kOk ((yX11_mean, cX11_mean, 5, (some .int)), kd_X11_mean) := ckk_ok (o := 11) (by decide +kernel) rfl ck_m315 (fun pc h => by unfold kd_X11_mean; rw [h]; rfl)
theorem ck_m316 : ckM 11 (yX11_learns, cX11_learns, 3, (some .int)) 69 kd_X11_learns = true := by decide +kernel
theorem ok_m316 : kOk ((yX11_learns, cX11_learns, 3, (some .int)), kd_X11_learns) := ckk_ok (o := 11) (by decide +kernel) rfl ck_m316 (fun pc h => by unfold kd_X11_learns; rw [h]; rfl)
theorem ck_m317 : ckM 11 (yX11_numberAt, cX11_numberAt, 3, (some .long)) 12 kd_X11_numberAt = true := by decide +kernel
theorem ok_m317 : kOk ((yX11_numberAt, cX11_numberAt, 3, (some .long)), kd_X11_numberAt) := ckk_ok (o := 11) (by decide +kernel) rfl ck_m317 (fun pc h => by unfold kd_X11_numberAt; rw [h]; rfl)
theorem ck_m318 : ckM 11 (yX11_asksSighted, cX11_asksSighted, 4, (some .int)) 101 kd_X11_asksSighted = true := by decide +kernel
theorem ok_m318 : kOk ((yX11_asksSighted, cX11_asksSighted, 4, (some .int)), kd_X11_asksSighted) := ckk_ok (o := 11) (by decide +kernel) rfl ck_m318 (fun pc h => by unfold kd_X11_asksSighted; rw [h]; rfl)
theorem ck_m319 : ckM 11 (yX11_isSighted, cX11_isSighted, 4, (some .boolean)) 54 kd_X11_isSighted = true := by decide +kernel
theorem ok_m319 : kOk ((yX11_isSighted, cX11_isSighted, 4, (some .boolean)), kd_X11_isSighted) := ckk_ok (o := 11) (by decide +kernel) rfl ck_m319 (fun pc h => by unfold kd_X11_isSighted; rw [h]; rfl)
theorem ck_m320 : ckM 11 (yX11_sightedOf, cX11_sightedOf, 4, (some .int)) 41 kd_X11_sightedOf = true := by decide +kernel
theorem ok_m320 : kOk ((yX11_sightedOf, cX11_sightedOf, 4, (some .int)), kd_X11_sightedOf) := ckk_ok (o := 11) (by decide +kernel) rfl ck_m320 (fun pc h => by unfold kd_X11_sightedOf; rw [h]; rfl)
theorem ck_m321 : ckM 11 (yX11_sighted, cX11_sighted, 3, (some .int)) 21 kd_X11_sighted = true := by decide +kernel
theorem ok_m321 : kOk ((yX11_sighted, cX11_sighted, 3, (some .int)), kd_X11_sighted) := ckk_ok (o := 11) (by decide +kernel) rfl ck_m321 (fun pc h => by unfold kd_X11_sighted; rw [h]; rfl)
theorem ck_m322 : ckM 11 (yX11_told_, cX11_told_, 4, (some .int)) 46 kd_X11_told_ = true := by decide +kernel
theorem ok_m322 : kOk ((yX11_told_, cX11_told_, 4, (some .int)), kd_X11_told_) := ckk_ok (o := 11) (by decide +kernel) rfl ck_m322 (fun pc h => by unfold kd_X11_told_; rw [h]; rfl)
theorem ck_m323 : ckM 11 (yX11_may, cX11_may, 6, (some .int)) 83 kd_X11_may = true := by decide +kernel
theorem ok_m323 : kOk ((yX11_may, cX11_may, 6, (some .int)), kd_X11_may) := ckk_ok (o := 11) (by decide +kernel) rfl ck_m323 (fun pc h => by unfold kd_X11_may; rw [h]; rfl)
theorem ck_m324 : ckM 11 (yX11_worstIn, cX11_worstIn, 5, (some .int)) 99 kd_X11_worstIn = true := by decide +kernel
theorem ok_m324 : kOk ((yX11_worstIn, cX11_worstIn, 5, (some .int)), kd_X11_worstIn) := ckk_ok (o := 11) (by decide +kernel) rfl ck_m324 (fun pc h => by unfold kd_X11_worstIn; rw [h]; rfl)
theorem ck_m325 : ckM 11 (yX11_look, cX11_look, 7, (some .int)) 68 kd_X11_look = true := by decide +kernel
theorem ok_m325 : kOk ((yX11_look, cX11_look, 7, (some .int)), kd_X11_look) := ckk_ok (o := 11) (by decide +kernel) rfl ck_m325 (fun pc h => by unfold kd_X11_look; rw [h]; rfl)
theorem ck_m326 : ckM 11 (yX11_safeMany, cX11_safeMany, 1, (some .int)) 12 kd_X11_safeMany = true := by decide +kernel
theorem ok_m326 : kOk ((yX11_safeMany, cX11_safeMany, 1, (some .int)), kd_X11_safeMany) := ckk_ok (o := 11) (by decide +kernel) rfl ck_m326 (fun pc h => by unfold kd_X11_safeMany; rw [h]; rfl)
theorem ck_m327 : ckM 11 (yX11_matters, cX11_matters, 5, (some .int)) 143 kd_X11_matters = true := by decide +kernel
theorem ok_m327 : kOk ((yX11_matters, cX11_matters, 5, (some .int)), kd_X11_matters) := ckk_ok (o := 11) (by decide +kernel) rfl ck_m327 (fun pc h => by unfold kd_X11_matters; rw [h]; rfl)
theorem ck_m328 : ckM 11 (yX11_doors, cX11_doors, 2, (some .int)) 48 kd_X11_doors = true := by decide +kernel
theorem ok_m328 : kOk ((yX11_doors, cX11_doors, 2, (some .int)), kd_X11_doors) := ckk_ok (o := 11) (by decide +kernel) rfl ck_m328 (fun pc h => by unfold kd_X11_doors; rw [h]; rfl)
theorem ck_m329 : ckM 11 (yX11_loo, cX11_loo, 5, (some .int)) 81 kd_X11_loo = true := by decide +kernel
theorem ok_m329 : kOk ((yX11_loo, cX11_loo, 5, (some .int)), kd_X11_loo) := ckk_ok (o := 11) (by decide +kernel) rfl ck_m329 (fun pc h => by unfold kd_X11_loo; rw [h]; rfl)
theorem ck_m330 : ckM 11 (yX11_keepChange, cX11_keepChange, 4, none) 78 kd_X11_keepChange = true := by decide +kernel
theorem ok_m330 : kOk ((yX11_keepChange, cX11_keepChange, 4, none), kd_X11_keepChange) := ckk_ok (o := 11) (by decide +kernel) rfl ck_m330 (fun pc h => by unfold kd_X11_keepChange; rw [h]; rfl)
theorem ck_m331 : ckM 11 (yX11_set, cX11_set, 5, (some .int)) 97 kd_X11_set = true := by decide +kernel
theorem ok_m331 : kOk ((yX11_set, cX11_set, 5, (some .int)), kd_X11_set) := ckk_ok (o := 11) (by decide +kernel) rfl ck_m331 (fun pc h => by unfold kd_X11_set; rw [h]; rfl)
theorem ck_m332 : ckM 11 (yX11_send, cX11_send, 4, (some .int)) 94 kd_X11_send = true := by decide +kernel
theorem ok_m332 : kOk ((yX11_send, cX11_send, 4, (some .int)), kd_X11_send) := ckk_ok (o := 11) (by decide +kernel) rfl ck_m332 (fun pc h => by unfold kd_X11_send; rw [h]; rfl)
