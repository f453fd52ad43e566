theorem ck_m0 : ckM 0 (yX0_init, cX0_init, 2, none) 66 kd_X0_init = true := by decide +kernel
theorem ok_m0 : kOk ((yX0_init, cX0_init, 2, none), kd_X0_init) := ckk_ok (o := 0) (by decide +kernel) rfl ck_m0 (fun pc h => by unfold kd_X0_init; rw [h]; rfl)
theorem ck_m1 : ckM 0 (yX0_restart, cX0_restart, 1, none) 77 kd_X0_restart = true := by decide +kernel
theorem ok_m1 : kOk ((yX0_restart, cX0_restart, 1, none), kd_X0_restart) := ckk_ok (o := 0) (by decide +kernel) rfl ck_m1 (fun pc h => by unfold kd_X0_restart; rw [h]; rfl)
theorem ck_m2 : ckM 0 (yX0_add, cX0_add, 6, none) 142 kd_X0_add = true := by decide +kernel
theorem ok_m2 : kOk ((yX0_add, cX0_add, 6, none), kd_X0_add) := ckk_ok (o := 0) (by decide +kernel) rfl ck_m2 (fun pc h => by unfold kd_X0_add; rw [h]; rfl)
theorem ck_m3 : ckM 0 (yX0_join, cX0_join, 4, none) 125 kd_X0_join = true := by decide +kernel
theorem ok_m3 : kOk ((yX0_join, cX0_join, 4, none), kd_X0_join) := ckk_ok (o := 0) (by decide +kernel) rfl ck_m3 (fun pc h => by unfold kd_X0_join; rw [h]; rfl)
theorem ck_m4 : ckM 0 (yX0_solve, cX0_solve, 7, (some .int)) 168 kd_X0_solve = true := by decide +kernel
theorem ok_m4 : kOk ((yX0_solve, cX0_solve, 7, (some .int)), kd_X0_solve) := ckk_ok (o := 0) (by decide +kernel) rfl ck_m4 (fun pc h => by unfold kd_X0_solve; rw [h]; rfl)
theorem ck_m5 : ckM 0 (yX0_isOpen, cX0_isOpen, 3, (some .boolean)) 20 kd_X0_isOpen = true := by decide +kernel
theorem ok_m5 : kOk ((yX0_isOpen, cX0_isOpen, 3, (some .boolean)), kd_X0_isOpen) := ckk_ok (o := 0) (by decide +kernel) rfl ck_m5 (fun pc h => by unfold kd_X0_isOpen; rw [h]; rfl)
theorem ck_m6 : ckM 0 (yX0_outset, cX0_outset, 2, (some .int)) 11 kd_X0_outset = true := by decide +kernel
theorem ok_m6 : kOk ((yX0_outset, cX0_outset, 2, (some .int)), kd_X0_outset) := ckk_ok (o := 0) (by decide +kernel) rfl ck_m6 (fun pc h => by unfold kd_X0_outset; rw [h]; rfl)
theorem ck_m7 : ckM 0 (yX0_onward, cX0_onward, 8, (some .int)) 145 kd_X0_onward = true := by decide +kernel
theorem ok_m7 : kOk ((yX0_onward, cX0_onward, 8, (some .int)), kd_X0_onward) := ckk_ok (o := 0) (by decide +kernel) rfl ck_m7 (fun pc h => by unfold kd_X0_onward; rw [h]; rfl)
theorem ck_m8 : ckM 0 (yX0_goal, cX0_goal, 6, (some .int)) 56 kd_X0_goal = true := by decide +kernel
theorem ok_m8 : kOk ((yX0_goal, cX0_goal, 6, (some .int)), kd_X0_goal) := ckk_ok (o := 0) (by decide +kernel) rfl ck_m8 (fun pc h => by unfold kd_X0_goal; rw [h]; rfl)
theorem ck_m9 : ckM 0 (yX0_target, cX0_target, 6, (some .int)) 164 kd_X0_target = true := by decide +kernel
theorem ok_m9 : kOk ((yX0_target, cX0_target, 6, (some .int)), kd_X0_target) := ckk_ok (o := 0) (by decide +kernel) rfl ck_m9 (fun pc h => by unfold kd_X0_target; rw [h]; rfl)
theorem ck_m10 : ckM 0 (yX0_byPlatform, cX0_byPlatform, 5, (some .int)) 69 kd_X0_byPlatform = true := by decide +kernel
theorem ok_m10 : kOk ((yX0_byPlatform, cX0_byPlatform, 5, (some .int)), kd_X0_byPlatform) := ckk_ok (o := 0) (by decide +kernel) rfl ck_m10 (fun pc h => by unfold kd_X0_byPlatform; rw [h]; rfl)
theorem ck_m11 : ckM 0 (yX0_leastStep, cX0_leastStep, 4, (some .int)) 29 kd_X0_leastStep = true := by decide +kernel
theorem ok_m11 : kOk ((yX0_leastStep, cX0_leastStep, 4, (some .int)), kd_X0_leastStep) := ckk_ok (o := 0) (by decide +kernel) rfl ck_m11 (fun pc h => by unfold kd_X0_leastStep; rw [h]; rfl)
theorem ck_m12 : ckM 0 (yX0_fewestSteps, cX0_fewestSteps, 4, (some .int)) 101 kd_X0_fewestSteps = true := by decide +kernel
theorem ok_m12 : kOk ((yX0_fewestSteps, cX0_fewestSteps, 4, (some .int)), kd_X0_fewestSteps) := ckk_ok (o := 0) (by decide +kernel) rfl ck_m12 (fun pc h => by unfold kd_X0_fewestSteps; rw [h]; rfl)
theorem ck_m13 : ckM 0 (yX0_cheapest, cX0_cheapest, 6, (some .int)) 61 kd_X0_cheapest = true := by decide +kernel
theorem ok_m13 : kOk ((yX0_cheapest, cX0_cheapest, 6, (some .int)), kd_X0_cheapest) := ckk_ok (o := 0) (by decide +kernel) rfl ck_m13 (fun pc h => by unfold kd_X0_cheapest; rw [h]; rfl)
theorem ck_m14 : ckM 1 (yX1_init, cX1_init, 1, none) 13 kd_X1_init = true := by decide +kernel
theorem ok_m14 : kOk ((yX1_init, cX1_init, 1, none), kd_X1_init) := ckk_ok (o := 1) (by decide +kernel) rfl ck_m14 (fun pc h => by unfold kd_X1_init; rw [h]; rfl)
theorem ck_m15 : ckM 1 (yX1_follow, cX1_follow, 10, none) 160 kd_X1_follow = true := by decide +kernel
theorem ok_m15 : kOk ((yX1_follow, cX1_follow, 10, none), kd_X1_follow) := ckk_ok (o := 1) (by decide +kernel) rfl ck_m15 (fun pc h => by unfold kd_X1_follow; rw [h]; rfl)
theorem ck_m16 : ckM 1 (yX1_takeFrom, cX1_takeFrom, 2, none) 19 kd_X1_takeFrom = true := by decide +kernel
theorem ok_m16 : kOk ((yX1_takeFrom, cX1_takeFrom, 2, none), kd_X1_takeFrom) := ckk_ok (o := 1) (by decide +kernel) rfl ck_m16 (fun pc h => by unfold kd_X1_takeFrom; rw [h]; rfl)
theorem ck_m17 : ckM 1 (yX1_arrives, cX1_arrives, 3, (some .boolean)) 32 kd_X1_arrives = true := by decide +kernel
theorem ok_m17 : kOk ((yX1_arrives, cX1_arrives, 3, (some .boolean)), kd_X1_arrives) := ckk_ok (o := 1) (by decide +kernel) rfl ck_m17 (fun pc h => by unfold kd_X1_arrives; rw [h]; rfl)
theorem ck_m18 : ckM 1 (yX1_swaps, cX1_swaps, 4, (some .boolean)) 32 kd_X1_swaps = true := by decide +kernel
theorem ok_m18 : kOk ((yX1_swaps, cX1_swaps, 4, (some .boolean)), kd_X1_swaps) := ckk_ok (o := 1) (by decide +kernel) rfl ck_m18 (fun pc h => by unfold kd_X1_swaps; rw [h]; rfl)
theorem ck_m19 : ckM 2 (yX2_init, cX2_init, 1, none) 5 kd_X2_init = true := by decide +kernel
theorem ok_m19 : kOk ((yX2_init, cX2_init, 1, none), kd_X2_init) := ckk_ok (o := 2) (by decide +kernel) rfl ck_m19 (fun pc h => by unfold kd_X2_init; rw [h]; rfl)
theorem ck_m20 : ckM 2 (yX2_start, cX2_start, 2, none) 7 kd_X2_start = true := by decide +kernel
theorem ok_m20 : kOk ((yX2_start, cX2_start, 2, none), kd_X2_start) := ckk_ok (o := 2) (by decide +kernel) rfl ck_m20 (fun pc h => by unfold kd_X2_start; rw [h]; rfl)
theorem ck_m21 : ckM 2 (yX2_draw, cX2_draw, 1, (some .int)) 34 kd_X2_draw = true := by decide +kernel
theorem ok_m21 : kOk ((yX2_draw, cX2_draw, 1, (some .int)), kd_X2_draw) := ckk_ok (o := 2) (by decide +kernel) rfl ck_m21 (fun pc h => by unfold kd_X2_draw; rw [h]; rfl)
theorem ck_m22 : ckM 3 (yX3_init, cX3_init, 3, none) 78 kd_X3_init = true := by decide +kernel
theorem ok_m22 : kOk ((yX3_init, cX3_init, 3, none), kd_X3_init) := ckk_ok (o := 3) (by decide +kernel) rfl ck_m22 (fun pc h => by unfold kd_X3_init; rw [h]; rfl)
theorem ck_m23 : ckM 3 (yX3_forget, cX3_forget, 1, none) 6 kd_X3_forget = true := by decide +kernel
theorem ok_m23 : kOk ((yX3_forget, cX3_forget, 1, none), kd_X3_forget) := ckk_ok (o := 3) (by decide +kernel) rfl ck_m23 (fun pc h => by unfold kd_X3_forget; rw [h]; rfl)
theorem ck_m24 : ckM 3 (yX3_seek, cX3_seek, 4, none) 123 kd_X3_seek = true := by decide +kernel
theorem ok_m24 : kOk ((yX3_seek, cX3_seek, 4, none), kd_X3_seek) := ckk_ok (o := 3) (by decide +kernel) rfl ck_m24 (fun pc h => by unfold kd_X3_seek; rw [h]; rfl)
theorem ck_m25 : ckM 3 (yX3_seekOne, cX3_seekOne, 2, (some .boolean)) 39 kd_X3_seekOne = true := by decide +kernel
theorem ok_m25 : kOk ((yX3_seekOne, cX3_seekOne, 2, (some .boolean)), kd_X3_seekOne) := ckk_ok (o := 3) (by decide +kernel) rfl ck_m25 (fun pc h => by unfold kd_X3_seekOne; rw [h]; rfl)
theorem ck_m26 : ckM 3 (yX3_seekTwo, cX3_seekTwo, 2, (some .boolean)) 46 kd_X3_seekTwo = true := by decide +kernel
theorem ok_m26 : kOk ((yX3_seekTwo, cX3_seekTwo, 2, (some .boolean)), kd_X3_seekTwo) := ckk_ok (o := 3) (by decide +kernel) rfl ck_m26 (fun pc h => by unfold kd_X3_seekTwo; rw [h]; rfl)
theorem ck_m27 : ckM 3 (yX3_seekThree, cX3_seekThree, 3, (some .boolean)) 86 kd_X3_seekThree = true := by decide +kernel
theorem ok_m27 : kOk ((yX3_seekThree, cX3_seekThree, 3, (some .boolean)), kd_X3_seekThree) := ckk_ok (o := 3) (by decide +kernel) rfl ck_m27 (fun pc h => by unfold kd_X3_seekThree; rw [h]; rfl)
theorem ck_m28 : ckM 3 (yX3_seekLast, cX3_seekLast, 6, (some .boolean)) 50 kd_X3_seekLast = true := by decide +kernel
theorem ok_m28 : kOk ((yX3_seekLast, cX3_seekLast, 6, (some .boolean)), kd_X3_seekLast) := ckk_ok (o := 3) (by decide +kernel) rfl ck_m28 (fun pc h => by unfold kd_X3_seekLast; rw [h]; rfl)
theorem ck_m29 : ckM 4 (yX4_init, cX4_init, 2, none) 22 kd_X4_init = true := by decide +kernel
theorem ok_m29 : kOk ((yX4_init, cX4_init, 2, none), kd_X4_init) := ckk_ok (o := 4) (by decide +kernel) rfl ck_m29 (fun pc h => by unfold kd_X4_init; rw [h]; rfl)
theorem ck_m30 : ckM 4 (yX4_readInto, cX4_readInto, 4, (some .boolean)) 83 kd_X4_readInto = true := by decide +kernel
theorem ok_m30 : kOk ((yX4_readInto, cX4_readInto, 4, (some .boolean)), kd_X4_readInto) := ckk_ok (o := 4) (by decide +kernel) rfl ck_m30 (fun pc h => by unfold kd_X4_readInto; rw [h]; rfl)
theorem ck_m31 : ckM 4 (yX4_readLine, cX4_readLine, 2, (some .boolean)) 78 kd_X4_readLine = true := by decide +kernel
theorem ok_m31 : kOk ((yX4_readLine, cX4_readLine, 2, (some .boolean)), kd_X4_readLine) := ckk_ok (o := 4) (by decide +kernel) rfl ck_m31 (fun pc h => by unfold kd_X4_readLine; rw [h]; rfl)
theorem ck_m32 : ckM 4 (yX4_readHead, cX4_readHead, 4, (some .boolean)) 73 kd_X4_readHead = true := by decide +kernel
theorem ok_m32 : kOk ((yX4_readHead, cX4_readHead, 4, (some .boolean)), kd_X4_readHead) := ckk_ok (o := 4) (by decide +kernel) rfl ck_m32 (fun pc h => by unfold kd_X4_readHead; rw [h]; rfl)
theorem ck_m33 : ckM 4 (yX4_headWord, cX4_headWord, 1, (some (.object "java/lang/String"))) 47 kd_X4_headWord = true := by decide +kernel
theorem ok_m33 : kOk ((yX4_headWord, cX4_headWord, 1, (some (.object "java/lang/String"))), kd_X4_headWord) := ckk_ok (o := 4) (by decide +kernel) rfl ck_m33 (fun pc h => by unfold kd_X4_headWord; rw [h]; rfl)
theorem ck_m34 : ckM 4 (yX4_readCoach, cX4_readCoach, 7, (some .boolean)) 162 kd_X4_readCoach = true := by decide +kernel
theorem ok_m34 : kOk ((yX4_readCoach, cX4_readCoach, 7, (some .boolean)), kd_X4_readCoach) := ckk_ok (o := 4) (by decide +kernel) rfl ck_m34 (fun pc h => by unfold kd_X4_readCoach; rw [h]; rfl)
theorem ck_m35 : ckM 4 (yX4_readInspector, cX4_readInspector, 9, (some .boolean)) 228 kd_X4_readInspector = true := by decide +kernel
theorem ok_m35 : kOk ((yX4_readInspector, cX4_readInspector, 9, (some .boolean)), kd_X4_readInspector) := ckk_ok (o := 4) (by decide +kernel) rfl ck_m35 (fun pc h => by unfold kd_X4_readInspector; rw [h]; rfl)
theorem ck_m36 : ckM 4 (yX4_readRider, cX4_readRider, 8, (some .boolean)) 189 kd_X4_readRider = true := by decide +kernel
theorem ok_m36 : kOk ((yX4_readRider, cX4_readRider, 8, (some .boolean)), kd_X4_readRider) := ckk_ok (o := 4) (by decide +kernel) rfl ck_m36 (fun pc h => by unfold kd_X4_readRider; rw [h]; rfl)
theorem ck_m37 : ckM 4 (yX4_readDay, cX4_readDay, 4, (some .boolean)) 48 kd_X4_readDay = true := by decide +kernel
theorem ok_m37 : kOk ((yX4_readDay, cX4_readDay, 4, (some .boolean)), kd_X4_readDay) := ckk_ok (o := 4) (by decide +kernel) rfl ck_m37 (fun pc h => by unfold kd_X4_readDay; rw [h]; rfl)
theorem ck_m38 : ckM 4 (yX4_readWay, cX4_readWay, 2, (some .int)) 40 kd_X4_readWay = true := by decide +kernel
theorem ok_m38 : kOk ((yX4_readWay, cX4_readWay, 2, (some .int)), kd_X4_readWay) := ckk_ok (o := 4) (by decide +kernel) rfl ck_m38 (fun pc h => by unfold kd_X4_readWay; rw [h]; rfl)
theorem ck_m39 : ckM 4 (yX4_readRule, cX4_readRule, 2, (some .int)) 73 kd_X4_readRule = true := by decide +kernel
theorem ok_m39 : kOk ((yX4_readRule, cX4_readRule, 2, (some .int)), kd_X4_readRule) := ckk_ok (o := 4) (by decide +kernel) rfl ck_m39 (fun pc h => by unfold kd_X4_readRule; rw [h]; rfl)
theorem ck_m40 : ckM 4 (yX4_readChoice, cX4_readChoice, 2, (some .int)) 23 kd_X4_readChoice = true := by decide +kernel
theorem ok_m40 : kOk ((yX4_readChoice, cX4_readChoice, 2, (some .int)), kd_X4_readChoice) := ckk_ok (o := 4) (by decide +kernel) rfl ck_m40 (fun pc h => by unfold kd_X4_readChoice; rw [h]; rfl)
theorem ck_m41 : ckM 4 (yX4_readAfter, cX4_readAfter, 5, (some .int)) 68 kd_X4_readAfter = true := by decide +kernel
theorem ok_m41 : kOk ((yX4_readAfter, cX4_readAfter, 5, (some .int)), kd_X4_readAfter) := ckk_ok (o := 4) (by decide +kernel) rfl ck_m41 (fun pc h => by unfold kd_X4_readAfter; rw [h]; rfl)
theorem ck_m42 : ckM 4 (yX4_readWord, cX4_readWord, 2, (some .boolean)) 26 kd_X4_readWord = true := by decide +kernel
theorem ok_m42 : kOk ((yX4_readWord, cX4_readWord, 2, (some .boolean)), kd_X4_readWord) := ckk_ok (o := 4) (by decide +kernel) rfl ck_m42 (fun pc h => by unfold kd_X4_readWord; rw [h]; rfl)
theorem ck_m43 : ckM 4 (yX4_readSign, cX4_readSign, 1, (some .boolean)) 26 kd_X4_readSign = true := by decide +kernel
theorem ok_m43 : kOk ((yX4_readSign, cX4_readSign, 1, (some .boolean)), kd_X4_readSign) := ckk_ok (o := 4) (by decide +kernel) rfl ck_m43 (fun pc h => by unfold kd_X4_readSign; rw [h]; rfl)
theorem ck_m44 : ckM 4 (yX4_refuse, cX4_refuse, 2, (some .boolean)) 18 kd_X4_refuse = true := by decide +kernel
theorem ok_m44 : kOk ((yX4_refuse, cX4_refuse, 2, (some .boolean)), kd_X4_refuse) := ckk_ok (o := 4) (by decide +kernel) rfl ck_m44 (fun pc h => by unfold kd_X4_refuse; rw [h]; rfl)
theorem ck_m45 : ckM 5 (yX5_init, cX5_init, 3, none) 23 kd_X5_init = true := by decide +kernel
theorem ok_m45 : kOk ((yX5_init, cX5_init, 3, none), kd_X5_init) := ckk_ok (o := 5) (by decide +kernel) rfl ck_m45 (fun pc h => by unfold kd_X5_init; rw [h]; rfl)
theorem ck_m46 : ckM 5 (yX5_travel, cX5_travel, 6, none) 87 kd_X5_travel = true := by decide +kernel
theorem ok_m46 : kOk ((yX5_travel, cX5_travel, 6, none), kd_X5_travel) := ckk_ok (o := 5) (by decide +kernel) rfl ck_m46 (fun pc h => by unfold kd_X5_travel; rw [h]; rfl)
theorem ck_m47 : ckM 5 (yX5_coachIn, cX5_coachIn, 2, (some .int)) 10 kd_X5_coachIn = true := by decide +kernel
theorem ok_m47 : kOk ((yX5_coachIn, cX5_coachIn, 2, (some .int)), kd_X5_coachIn) := ckk_ok (o := 5) (by decide +kernel) rfl ck_m47 (fun pc h => by unfold kd_X5_coachIn; rw [h]; rfl)
theorem ck_m48 : ckM 5 (yX5_inLoo, cX5_inLoo, 2, (some .boolean)) 17 kd_X5_inLoo = true := by decide +kernel
theorem ok_m48 : kOk ((yX5_inLoo, cX5_inLoo, 2, (some .boolean)), kd_X5_inLoo) := ckk_ok (o := 5) (by decide +kernel) rfl ck_m48 (fun pc h => by unfold kd_X5_inLoo; rw [h]; rfl)
theorem ck_m49 : ckM 5 (yX5_meets, cX5_meets, 5, (some .boolean)) 75 kd_X5_meets = true := by decide +kernel
theorem ok_m49 : kOk ((yX5_meets, cX5_meets, 5, (some .boolean)), kd_X5_meets) := ckk_ok (o := 5) (by decide +kernel) rfl ck_m49 (fun pc h => by unfold kd_X5_meets; rw [h]; rfl)
theorem ck_m50 : ckM 5 (yX5_lookForCatch, cX5_lookForCatch, 5, none) 106 kd_X5_lookForCatch = true := by decide +kernel
theorem ok_m50 : kOk ((yX5_lookForCatch, cX5_lookForCatch, 5, none), kd_X5_lookForCatch) := ckk_ok (o := 5) (by decide +kernel) rfl ck_m50 (fun pc h => by unfold kd_X5_lookForCatch; rw [h]; rfl)
theorem ck_m51 : ckM 5 (yX5_placeAfter, cX5_placeAfter, 4, (some .int)) 51 kd_X5_placeAfter = true := by decide +kernel
theorem ok_m51 : kOk ((yX5_placeAfter, cX5_placeAfter, 4, (some .int)), kd_X5_placeAfter) := ckk_ok (o := 5) (by decide +kernel) rfl ck_m51 (fun pc h => by unfold kd_X5_placeAfter; rw [h]; rfl)
theorem ck_m52 : ckM 5 (yX5_forwardFrom, cX5_forwardFrom, 5, (some .int)) 49 kd_X5_forwardFrom = true := by decide +kernel
theorem ok_m52 : kOk ((yX5_forwardFrom, cX5_forwardFrom, 5, (some .int)), kd_X5_forwardFrom) := ckk_ok (o := 5) (by decide +kernel) rfl ck_m52 (fun pc h => by unfold kd_X5_forwardFrom; rw [h]; rfl)
theorem ck_m53 : ckM 5 (yX5_hideFrom, cX5_hideFrom, 5, (some .int)) 49 kd_X5_hideFrom = true := by decide +kernel
theorem ok_m53 : kOk ((yX5_hideFrom, cX5_hideFrom, 5, (some .int)), kd_X5_hideFrom) := ckk_ok (o := 5) (by decide +kernel) rfl ck_m53 (fun pc h => by unfold kd_X5_hideFrom; rw [h]; rfl)
theorem ck_m54 : ckM 5 (yX5_roundFrom, cX5_roundFrom, 6, (some .int)) 96 kd_X5_roundFrom = true := by decide +kernel
theorem ok_m54 : kOk ((yX5_roundFrom, cX5_roundFrom, 6, (some .int)), kd_X5_roundFrom) := ckk_ok (o := 5) (by decide +kernel) rfl ck_m54 (fun pc h => by unfold kd_X5_roundFrom; rw [h]; rfl)
theorem ck_m55 : ckM 5 (yX5_nearestSeen, cX5_nearestSeen, 8, (some .int)) 86 kd_X5_nearestSeen = true := by decide +kernel
theorem ok_m55 : kOk ((yX5_nearestSeen, cX5_nearestSeen, 8, (some .int)), kd_X5_nearestSeen) := ckk_ok (o := 5) (by decide +kernel) rfl ck_m55 (fun pc h => by unfold kd_X5_nearestSeen; rw [h]; rfl)
theorem ck_m56 : ckM 5 (yX5_farness, cX5_farness, 7, (some .int)) 65 kd_X5_farness = true := by decide +kernel
theorem ok_m56 : kOk ((yX5_farness, cX5_farness, 7, (some .int)), kd_X5_farness) := ckk_ok (o := 5) (by decide +kernel) rfl ck_m56 (fun pc h => by unfold kd_X5_farness; rw [h]; rfl)
theorem ck_m57 : ckM 6 (yX6_init, cX6_init, 1, none) 13 kd_X6_init = true := by decide +kernel
theorem ok_m57 : kOk ((yX6_init, cX6_init, 1, none), kd_X6_init) := ckk_ok (o := 6) (by decide +kernel) rfl ck_m57 (fun pc h => by unfold kd_X6_init; rw [h]; rfl)
theorem ck_m58 : ckM 6 (yX6_lay, cX6_lay, 3, none) 24 kd_X6_lay = true := by decide +kernel
theorem ok_m58 : kOk ((yX6_lay, cX6_lay, 3, none), kd_X6_lay) := ckk_ok (o := 6) (by decide +kernel) rfl ck_m58 (fun pc h => by unfold kd_X6_lay; rw [h]; rfl)
theorem ck_m59 : ckM 6 (yX6_hasNumber, cX6_hasNumber, 2, (some .boolean)) 18 kd_X6_hasNumber = true := by decide +kernel
theorem ok_m59 : kOk ((yX6_hasNumber, cX6_hasNumber, 2, (some .boolean)), kd_X6_hasNumber) := ckk_ok (o := 6) (by decide +kernel) rfl ck_m59 (fun pc h => by unfold kd_X6_hasNumber; rw [h]; rfl)
theorem ck_m60 : ckM 6 (yX6_hasRun, cX6_hasRun, 3, (some .boolean)) 32 kd_X6_hasRun = true := by decide +kernel
theorem ok_m60 : kOk ((yX6_hasRun, cX6_hasRun, 3, (some .boolean)), kd_X6_hasRun) := ckk_ok (o := 6) (by decide +kernel) rfl ck_m60 (fun pc h => by unfold kd_X6_hasRun; rw [h]; rfl)
theorem ck_m61 : ckM 6 (yX6_put, cX6_put, 4, none) 78 kd_X6_put = true := by decide +kernel
theorem ok_m61 : kOk ((yX6_put, cX6_put, 4, none), kd_X6_put) := ckk_ok (o := 6) (by decide +kernel) rfl ck_m61 (fun pc h => by unfold kd_X6_put; rw [h]; rfl)
theorem ck_m62 : ckM 7 (yX7_init, cX7_init, 1, none) 14 kd_X7_init = true := by decide +kernel
theorem ok_m62 : kOk ((yX7_init, cX7_init, 1, none), kd_X7_init) := ckk_ok (o := 7) (by decide +kernel) rfl ck_m62 (fun pc h => by unfold kd_X7_init; rw [h]; rfl)
theorem ck_m63 : ckM 7 (yX7_hasRoom, cX7_hasRoom, 1, (some .boolean)) 19 kd_X7_hasRoom = true := by decide +kernel
theorem ok_m63 : kOk ((yX7_hasRoom, cX7_hasRoom, 1, (some .boolean)), kd_X7_hasRoom) := ckk_ok (o := 7) (by decide +kernel) rfl ck_m63 (fun pc h => by unfold kd_X7_hasRoom; rw [h]; rfl)
theorem ck_m64 : ckM 7 (yX7_put, cX7_put, 3, none) 47 kd_X7_put = true := by decide +kernel
theorem ok_m64 : kOk ((yX7_put, cX7_put, 3, none), kd_X7_put) := ckk_ok (o := 7) (by decide +kernel) rfl ck_m64 (fun pc h => by unfold kd_X7_put; rw [h]; rfl)
theorem ck_m65 : ckM 8 (yX8_init, cX8_init, 2, none) 10 kd_X8_init = true := by decide +kernel
theorem ok_m65 : kOk ((yX8_init, cX8_init, 2, none), kd_X8_init) := ckk_ok (o := 8) (by decide +kernel) rfl ck_m65 (fun pc h => by unfold kd_X8_init; rw [h]; rfl)
theorem ck_m66 : ckM 8 (yX8_restart, cX8_restart, 1, none) 10 kd_X8_restart = true := by decide +kernel
theorem ok_m66 : kOk ((yX8_restart, cX8_restart, 1, none), kd_X8_restart) := ckk_ok (o := 8) (by decide +kernel) rfl ck_m66 (fun pc h => by unfold kd_X8_restart; rw [h]; rfl)
theorem ck_m67 : ckM 8 (yX8_advance, cX8_advance, 2, none) 257 kd_X8_advance = true := by decide +kernel
theorem ok_m67 : kOk ((yX8_advance, cX8_advance, 2, none), kd_X8_advance) := ckk_ok (o := 8) (by decide +kernel) rfl ck_m67 (fun pc h => by unfold kd_X8_advance; rw [h]; rfl)
theorem ck_m68 : ckM 8 (yX8_is, cX8_is, 3, (some .boolean)) 68 kd_X8_is = true := by decide +kernel
theorem ok_m68 : kOk ((yX8_is, cX8_is, 3, (some .boolean)), kd_X8_is) := ckk_ok (o := 8) (by decide +kernel) rfl ck_m68 (fun pc h => by unfold kd_X8_is; rw [h]; rfl)
theorem ck_m69 : ckM 8 (yX8_kindOf, cX8_kindOf, 1, (some .int)) 40 kd_X8_kindOf = true := by decide +kernel
theorem ok_m69 : kOk ((yX8_kindOf, cX8_kindOf, 1, (some .int)), kd_X8_kindOf) := ckk_ok (o := 8) (by decide +kernel) rfl ck_m69 (fun pc h => by unfold kd_X8_kindOf; rw [h]; rfl)
theorem ck_m70 : ckM 9 (yX9_init, cX9_init, 1, none) 54 kd_X9_init = true := by decide +kernel
theorem ok_m70 : kOk ((yX9_init, cX9_init, 1, none), kd_X9_init) := ckk_ok (o := 9) (by decide +kernel) rfl ck_m70 (fun pc h => by unfold kd_X9_init; rw [h]; rfl)
theorem ck_m71 : ckM 9 (yX9_clear, cX9_clear, 1, none) 46 kd_X9_clear = true := by decide +kernel
theorem ok_m71 : kOk ((yX9_clear, cX9_clear, 1, none), kd_X9_clear) := ckk_ok (o := 9) (by decide +kernel) rfl ck_m71 (fun pc h => by unfold kd_X9_clear; rw [h]; rfl)
theorem ck_m72 : ckM 9 (yX9_takeFrom, cX9_takeFrom, 2, none) 117 kd_X9_takeFrom = true := by decide +kernel
theorem ok_m72 : kOk ((yX9_takeFrom, cX9_takeFrom, 2, none), kd_X9_takeFrom) := ckk_ok (o := 9) (by decide +kernel) rfl ck_m72 (fun pc h => by unfold kd_X9_takeFrom; rw [h]; rfl)
theorem ck_m73 : ckM 9 (yX9_lines, cX9_lines, 1, (some .int)) 8 kd_X9_lines = true := by decide +kernel
theorem ok_m73 : kOk ((yX9_lines, cX9_lines, 1, (some .int)), kd_X9_lines) := ckk_ok (o := 9) (by decide +kernel) rfl ck_m73 (fun pc h => by unfold kd_X9_lines; rw [h]; rfl)
theorem ck_m74 : ckM 9 (yX9_stands, cX9_stands, 1, (some .boolean)) 16 kd_X9_stands = true := by decide +kernel
theorem ok_m74 : kOk ((yX9_stands, cX9_stands, 1, (some .boolean)), kd_X9_stands) := ckk_ok (o := 9) (by decide +kernel) rfl ck_m74 (fun pc h => by unfold kd_X9_stands; rw [h]; rfl)
theorem ck_m75 : ckM 9 (yX9_coaches, cX9_coaches, 1, (some .int)) 7 kd_X9_coaches = true := by decide +kernel
theorem ok_m75 : kOk ((yX9_coaches, cX9_coaches, 1, (some .int)), kd_X9_coaches) := ckk_ok (o := 9) (by decide +kernel) rfl ck_m75 (fun pc h => by unfold kd_X9_coaches; rw [h]; rfl)
theorem ck_m76 : ckM 9 (yX9_minutes, cX9_minutes, 1, (some .int)) 7 kd_X9_minutes = true := by decide +kernel
theorem ok_m76 : kOk ((yX9_minutes, cX9_minutes, 1, (some .int)), kd_X9_minutes) := ckk_ok (o := 9) (by decide +kernel) rfl ck_m76 (fun pc h => by unfold kd_X9_minutes; rw [h]; rfl)
theorem ck_m77 : ckM 9 (yX9_inspectors, cX9_inspectors, 1, (some .int)) 7 kd_X9_inspectors = true := by decide +kernel
theorem ok_m77 : kOk ((yX9_inspectors, cX9_inspectors, 1, (some .int)), kd_X9_inspectors) := ckk_ok (o := 9) (by decide +kernel) rfl ck_m77 (fun pc h => by unfold kd_X9_inspectors; rw [h]; rfl)
theorem ck_m78 : ckM 9 (yX9_riders, cX9_riders, 1, (some .int)) 8 kd_X9_riders = true := by decide +kernel
theorem ok_m78 : kOk ((yX9_riders, cX9_riders, 1, (some .int)), kd_X9_riders) := ckk_ok (o := 9) (by decide +kernel) rfl ck_m78 (fun pc h => by unfold kd_X9_riders; rw [h]; rfl)
theorem ck_m79 : ckM 9 (yX9_beginCount, cX9_beginCount, 1, (some .int)) 9 kd_X9_beginCount = true := by decide +kernel
theorem ok_m79 : kOk ((yX9_beginCount, cX9_beginCount, 1, (some .int)), kd_X9_beginCount) := ckk_ok (o := 9) (by decide +kernel) rfl ck_m79 (fun pc h => by unfold kd_X9_beginCount; rw [h]; rfl)
theorem ck_m80 : ckM 9 (yX9_fare, cX9_fare, 1, (some .int)) 7 kd_X9_fare = true := by decide +kernel
theorem ok_m80 : kOk ((yX9_fare, cX9_fare, 1, (some .int)), kd_X9_fare) := ckk_ok (o := 9) (by decide +kernel) rfl ck_m80 (fun pc h => by unfold kd_X9_fare; rw [h]; rfl)
theorem ck_m81 : ckM 9 (yX9_fineSum, cX9_fineSum, 1, (some .int)) 7 kd_X9_fineSum = true := by decide +kernel
theorem ok_m81 : kOk ((yX9_fineSum, cX9_fineSum, 1, (some .int)), kd_X9_fineSum) := ckk_ok (o := 9) (by decide +kernel) rfl ck_m81 (fun pc h => by unfold kd_X9_fineSum; rw [h]; rfl)
theorem ck_m82 : ckM 9 (yX9_hasCoach, cX9_hasCoach, 2, (some .boolean)) 20 kd_X9_hasCoach = true := by decide +kernel
theorem ok_m82 : kOk ((yX9_hasCoach, cX9_hasCoach, 2, (some .boolean)), kd_X9_hasCoach) := ckk_ok (o := 9) (by decide +kernel) rfl ck_m82 (fun pc h => by unfold kd_X9_hasCoach; rw [h]; rfl)
theorem ck_m83 : ckM 9 (yX9_hasMinute, cX9_hasMinute, 2, (some .boolean)) 20 kd_X9_hasMinute = true := by decide +kernel
theorem ok_m83 : kOk ((yX9_hasMinute, cX9_hasMinute, 2, (some .boolean)), kd_X9_hasMinute) := ckk_ok (o := 9) (by decide +kernel) rfl ck_m83 (fun pc h => by unfold kd_X9_hasMinute; rw [h]; rfl)
theorem ck_m84 : ckM 9 (yX9_hasInspector, cX9_hasInspector, 2, (some .boolean)) 20 kd_X9_hasInspector = true := by decide +kernel
theorem ok_m84 : kOk ((yX9_hasInspector, cX9_hasInspector, 2, (some .boolean)), kd_X9_hasInspector) := ckk_ok (o := 9) (by decide +kernel) rfl ck_m84 (fun pc h => by unfold kd_X9_hasInspector; rw [h]; rfl)
theorem ck_m85 : ckM 9 (yX9_hasRider, cX9_hasRider, 2, (some .boolean)) 21 kd_X9_hasRider = true := by decide +kernel
theorem ok_m85 : kOk ((yX9_hasRider, cX9_hasRider, 2, (some .boolean)), kd_X9_hasRider) := ckk_ok (o := 9) (by decide +kernel) rfl ck_m85 (fun pc h => by unfold kd_X9_hasRider; rw [h]; rfl)
theorem ck_m86 : ckM 9 (yX9_hasBegin, cX9_hasBegin, 2, (some .boolean)) 18 kd_X9_hasBegin = true := by decide +kernel
theorem ok_m86 : kOk ((yX9_hasBegin, cX9_hasBegin, 2, (some .boolean)), kd_X9_hasBegin) := ckk_ok (o := 9) (by decide +kernel) rfl ck_m86 (fun pc h => by unfold kd_X9_hasBegin; rw [h]; rfl)
theorem ck_m87 : ckM 9 (yX9_hasDay, cX9_hasDay, 2, (some .boolean)) 23 kd_X9_hasDay = true := by decide +kernel
theorem ok_m87 : kOk ((yX9_hasDay, cX9_hasDay, 2, (some .boolean)), kd_X9_hasDay) := ckk_ok (o := 9) (by decide +kernel) rfl ck_m87 (fun pc h => by unfold kd_X9_hasDay; rw [h]; rfl)
theorem ck_m88 : ckM 9 (yX9_hasTicket, cX9_hasTicket, 2, (some .boolean)) 16 kd_X9_hasTicket = true := by decide +kernel
theorem ok_m88 : kOk ((yX9_hasTicket, cX9_hasTicket, 2, (some .boolean)), kd_X9_hasTicket) := ckk_ok (o := 9) (by decide +kernel) rfl ck_m88 (fun pc h => by unfold kd_X9_hasTicket; rw [h]; rfl)
theorem ck_m89 : ckM 9 (yX9_allCoaches, cX9_allCoaches, 1, (some .int)) 11 kd_X9_allCoaches = true := by decide +kernel
theorem ok_m89 : kOk ((yX9_allCoaches, cX9_allCoaches, 1, (some .int)), kd_X9_allCoaches) := ckk_ok (o := 9) (by decide +kernel) rfl ck_m89 (fun pc h => by unfold kd_X9_allCoaches; rw [h]; rfl)
theorem ck_m90 : ckM 9 (yX9_looBits, cX9_looBits, 1, (some .int)) 6 kd_X9_looBits = true := by decide +kernel
theorem ok_m90 : kOk ((yX9_looBits, cX9_looBits, 1, (some .int)), kd_X9_looBits) := ckk_ok (o := 9) (by decide +kernel) rfl ck_m90 (fun pc h => by unfold kd_X9_looBits; rw [h]; rfl)
theorem ck_m91 : ckM 9 (yX9_doorBits, cX9_doorBits, 1, (some .int)) 6 kd_X9_doorBits = true := by decide +kernel
theorem ok_m91 : kOk ((yX9_doorBits, cX9_doorBits, 1, (some .int)), kd_X9_doorBits) := ckk_ok (o := 9) (by decide +kernel) rfl ck_m91 (fun pc h => by unfold kd_X9_doorBits; rw [h]; rfl)
theorem ck_m92 : ckM 9 (yX9_markBits, cX9_markBits, 4, (some .int)) 38 kd_X9_markBits = true := by decide +kernel
theorem ok_m92 : kOk ((yX9_markBits, cX9_markBits, 4, (some .int)), kd_X9_markBits) := ckk_ok (o := 9) (by decide +kernel) rfl ck_m92 (fun pc h => by unfold kd_X9_markBits; rw [h]; rfl)
theorem ck_m93 : ckM 9 (yX9_isStop, cX9_isStop, 2, (some .boolean)) 30 kd_X9_isStop = true := by decide +kernel
theorem ok_m93 : kOk ((yX9_isStop, cX9_isStop, 2, (some .boolean)), kd_X9_isStop) := ckk_ok (o := 9) (by decide +kernel) rfl ck_m93 (fun pc h => by unfold kd_X9_isStop; rw [h]; rfl)
theorem ck_m94 : ckM 9 (yX9_stayIn, cX9_stayIn, 3, (some .int)) 19 kd_X9_stayIn = true := by decide +kernel
theorem ok_m94 : kOk ((yX9_stayIn, cX9_stayIn, 3, (some .int)), kd_X9_stayIn) := ckk_ok (o := 9) (by decide +kernel) rfl ck_m94 (fun pc h => by unfold kd_X9_stayIn; rw [h]; rfl)
theorem ck_m95 : ckM 9 (yX9_ofCoach, cX9_ofCoach, 3, (some .int)) 11 kd_X9_ofCoach = true := by decide +kernel
theorem ok_m95 : kOk ((yX9_ofCoach, cX9_ofCoach, 3, (some .int)), kd_X9_ofCoach) := ckk_ok (o := 9) (by decide +kernel) rfl ck_m95 (fun pc h => by unfold kd_X9_ofCoach; rw [h]; rfl)
theorem ck_m96 : ckM 9 (yX9_ofInspector, cX9_ofInspector, 3, (some .int)) 11 kd_X9_ofInspector = true := by decide +kernel
theorem ok_m96 : kOk ((yX9_ofInspector, cX9_ofInspector, 3, (some .int)), kd_X9_ofInspector) := ckk_ok (o := 9) (by decide +kernel) rfl ck_m96 (fun pc h => by unfold kd_X9_ofInspector; rw [h]; rfl)
theorem ck_m97 : ckM 9 (yX9_ofRider, cX9_ofRider, 3, (some .int)) 11 kd_X9_ofRider = true := by decide +kernel
theorem ok_m97 : kOk ((yX9_ofRider, cX9_ofRider, 3, (some .int)), kd_X9_ofRider) := ckk_ok (o := 9) (by decide +kernel) rfl ck_m97 (fun pc h => by unfold kd_X9_ofRider; rw [h]; rfl)
theorem ck_m98 : ckM 9 (yX9_beginOf, cX9_beginOf, 2, (some .int)) 16 kd_X9_beginOf = true := by decide +kernel
theorem ok_m98 : kOk ((yX9_beginOf, cX9_beginOf, 2, (some .int)), kd_X9_beginOf) := ckk_ok (o := 9) (by decide +kernel) rfl ck_m98 (fun pc h => by unfold kd_X9_beginOf; rw [h]; rfl)
theorem ck_m99 : ckM 9 (yX9_putCoach, cX9_putCoach, 4, none) 12 kd_X9_putCoach = true := by decide +kernel
theorem ok_m99 : kOk ((yX9_putCoach, cX9_putCoach, 4, none), kd_X9_putCoach) := ckk_ok (o := 9) (by decide +kernel) rfl ck_m99 (fun pc h => by unfold kd_X9_putCoach; rw [h]; rfl)
theorem ck_m100 : ckM 9 (yX9_putInspector, cX9_putInspector, 4, none) 12 kd_X9_putInspector = true := by decide +kernel
theorem ok_m100 : kOk ((yX9_putInspector, cX9_putInspector, 4, none), kd_X9_putInspector) := ckk_ok (o := 9) (by decide +kernel) rfl ck_m100 (fun pc h => by unfold kd_X9_putInspector; rw [h]; rfl)
theorem ck_m101 : ckM 9 (yX9_putRider, cX9_putRider, 4, none) 12 kd_X9_putRider = true := by decide +kernel
theorem ok_m101 : kOk ((yX9_putRider, cX9_putRider, 4, none), kd_X9_putRider) := ckk_ok (o := 9) (by decide +kernel) rfl ck_m101 (fun pc h => by unfold kd_X9_putRider; rw [h]; rfl)
theorem ck_m102 : ckM 9 (yX9_putBegin, cX9_putBegin, 3, none) 19 kd_X9_putBegin = true := by decide +kernel
theorem ok_m102 : kOk ((yX9_putBegin, cX9_putBegin, 3, none), kd_X9_putBegin) := ckk_ok (o := 9) (by decide +kernel) rfl ck_m102 (fun pc h => by unfold kd_X9_putBegin; rw [h]; rfl)
theorem ck_m103 : ckM 9 (yX9_remember, cX9_remember, 5, none) 47 kd_X9_remember = true := by decide +kernel
theorem ok_m103 : kOk ((yX9_remember, cX9_remember, 5, none), kd_X9_remember) := ckk_ok (o := 9) (by decide +kernel) rfl ck_m103 (fun pc h => by unfold kd_X9_remember; rw [h]; rfl)
theorem ck_m104 : ckM 9 (yX9_takeBack, cX9_takeBack, 2, none) 77 kd_X9_takeBack = true := by decide +kernel
theorem ok_m104 : kOk ((yX9_takeBack, cX9_takeBack, 2, none), kd_X9_takeBack) := ckk_ok (o := 9) (by decide +kernel) rfl ck_m104 (fun pc h => by unfold kd_X9_takeBack; rw [h]; rfl)
theorem ck_m105 : ckM 10 (yX10_init, cX10_init, 2, none) 292 kd_X10_init = true := by decide +kernel
theorem ok_m105 : kOk ((yX10_init, cX10_init, 2, none), kd_X10_init) := ckk_ok (o := 10) (by decide +kernel) rfl ck_m105 (fun pc h => by unfold kd_X10_init; rw [h]; rfl)
theorem ck_m106 : ckM 10 (yX10_feed, cX10_feed, 6, (some .int)) 62 kd_X10_feed = true := by decide +kernel
theorem ok_m106 : kOk ((yX10_feed, cX10_feed, 6, (some .int)), kd_X10_feed) := ckk_ok (o := 10) (by decide +kernel) rfl ck_m106 (fun pc h => by unfold kd_X10_feed; rw [h]; rfl)
theorem ck_m107 : ckM 10 (yX10_end, cX10_end, 2, (some .int)) 27 kd_X10_end = true := by decide +kernel
theorem ok_m107 : kOk ((yX10_end, cX10_end, 2, (some .int)), kd_X10_end) := ckk_ok (o := 10) (by decide +kernel) rfl ck_m107 (fun pc h => by unfold kd_X10_end; rw [h]; rfl)
theorem ck_m108 : ckM 10 (yX10_train, cX10_train, 2, (some .int)) 53 kd_X10_train = true := by decide +kernel
theorem ok_m108 : kOk ((yX10_train, cX10_train, 2, (some .int)), kd_X10_train) := ckk_ok (o := 10) (by decide +kernel) rfl ck_m108 (fun pc h => by unfold kd_X10_train; rw [h]; rfl)
theorem ck_m109 : ckM 10 (yX10_fault, cX10_fault, 2, (some .int)) 29 kd_X10_fault = true := by decide +kernel
theorem ok_m109 : kOk ((yX10_fault, cX10_fault, 2, (some .int)), kd_X10_fault) := ckk_ok (o := 10) (by decide +kernel) rfl ck_m109 (fun pc h => by unfold kd_X10_fault; rw [h]; rfl)
theorem ck_m110 : ckM 10 (yX10_coach, cX10_coach, 3, (some .int)) 35 kd_X10_coach = true := by decide +kernel
theorem ok_m110 : kOk ((yX10_coach, cX10_coach, 3, (some .int)), kd_X10_coach) := ckk_ok (o := 10) (by decide +kernel) rfl ck_m110 (fun pc h => by unfold kd_X10_coach; rw [h]; rfl)
theorem ck_m111 : ckM 10 (yX10_inspector, cX10_inspector, 4, (some .int)) 45 kd_X10_inspector = true := by decide +kernel
theorem ok_m111 : kOk ((yX10_inspector, cX10_inspector, 4, (some .int)), kd_X10_inspector) := ckk_ok (o := 10) (by decide +kernel) rfl ck_m111 (fun pc h => by unfold kd_X10_inspector; rw [h]; rfl)
theorem ck_m112 : ckM 10 (yX10_rider, cX10_rider, 3, (some .int)) 35 kd_X10_rider = true := by decide +kernel
theorem ok_m112 : kOk ((yX10_rider, cX10_rider, 3, (some .int)), kd_X10_rider) := ckk_ok (o := 10) (by decide +kernel) rfl ck_m112 (fun pc h => by unfold kd_X10_rider; rw [h]; rfl)
theorem ck_m113 : ckM 10 (yX10_day, cX10_day, 2, (some .int)) 26 kd_X10_day = true := by decide +kernel
theorem ok_m113 : kOk ((yX10_day, cX10_day, 2, (some .int)), kd_X10_day) := ckk_ok (o := 10) (by decide +kernel) rfl ck_m113 (fun pc h => by unfold kd_X10_day; rw [h]; rfl)
theorem ck_m114 : ckM 10 (yX10_stop, cX10_stop, 2, (some .int)) 31 kd_X10_stop = true := by decide +kernel
theorem ok_m114 : kOk ((yX10_stop, cX10_stop, 2, (some .int)), kd_X10_stop) := ckk_ok (o := 10) (by decide +kernel) rfl ck_m114 (fun pc h => by unfold kd_X10_stop; rw [h]; rfl)
theorem ck_m115 : ckM 10 (yX10_at, cX10_at, 3, (some .int)) 41 kd_X10_at = true := by decide +kernel
theorem ok_m115 : kOk ((yX10_at, cX10_at, 3, (some .int)), kd_X10_at) := ckk_ok (o := 10) (by decide +kernel) rfl ck_m115 (fun pc h => by unfold kd_X10_at; rw [h]; rfl)
theorem ck_m116 : ckM 10 (yX10_stays, cX10_stays, 3, (some .int)) 43 kd_X10_stays = true := by decide +kernel
theorem ok_m116 : kOk ((yX10_stays, cX10_stays, 3, (some .int)), kd_X10_stays) := ckk_ok (o := 10) (by decide +kernel) rfl ck_m116 (fun pc h => by unfold kd_X10_stays; rw [h]; rfl)
theorem ck_m117 : ckM 10 (yX10_comes, cX10_comes, 4, (some .int)) 67 kd_X10_comes = true := by decide +kernel
theorem ok_m117 : kOk ((yX10_comes, cX10_comes, 4, (some .int)), kd_X10_comes) := ckk_ok (o := 10) (by decide +kernel) rfl ck_m117 (fun pc h => by unfold kd_X10_comes; rw [h]; rfl)
