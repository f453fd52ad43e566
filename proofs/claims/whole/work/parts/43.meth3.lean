theorem ck_m333 : ckM 11 (yX11_undo, cX11_undo, 2, (some .int)) 107 kd_X11_undo = true := by decide +kernel
theorem ok_m333 : kOk ((yX11_undo, cX11_undo, 2, (some .int)), kd_X11_undo) := ckk_ok (o := 11) (by decide +kernel) rfl ck_m333 (fun pc h => by unfold kd_X11_undo; rw [h]; rfl)
theorem ck_m334 : ckM 11 (yX11_isHadDrawn, cX11_isHadDrawn, 7, (some .boolean)) 118 kd_X11_isHadDrawn = true := by decide +kernel
theorem ok_m334 : kOk ((yX11_isHadDrawn, cX11_isHadDrawn, 7, (some .boolean)), kd_X11_isHadDrawn) := ckk_ok (o := 11) (by decide +kernel) rfl ck_m334 (fun pc h => by unfold kd_X11_isHadDrawn; rw [h]; rfl)
theorem ck_m335 : ckM 11 (yX11_goDrawn, cX11_goDrawn, 10, none) 294 kd_X11_goDrawn = true := by decide +kernel
theorem ok_m335 : kOk ((yX11_goDrawn, cX11_goDrawn, 10, none), kd_X11_goDrawn) := ckk_ok (o := 11) (by decide +kernel) rfl ck_m335 (fun pc h => by unfold kd_X11_goDrawn; rw [h]; rfl)
theorem ck_m336 : ckM 11 (yX11_isSeed, cX11_isSeed, 1, (some .boolean)) 10 kd_X11_isSeed = true := by decide +kernel
theorem ok_m336 : kOk ((yX11_isSeed, cX11_isSeed, 1, (some .boolean)), kd_X11_isSeed) := ckk_ok (o := 11) (by decide +kernel) rfl ck_m336 (fun pc h => by unfold kd_X11_isSeed; rw [h]; rfl)
theorem ck_m337 : ckM 11 (yX11_drawn, cX11_drawn, 3, (some .int)) 31 kd_X11_drawn = true := by decide +kernel
theorem ok_m337 : kOk ((yX11_drawn, cX11_drawn, 3, (some .int)), kd_X11_drawn) := ckk_ok (o := 11) (by decide +kernel) rfl ck_m337 (fun pc h => by unfold kd_X11_drawn; rw [h]; rfl)
theorem ck_m338 : ckM 11 (yX11_trips, cX11_trips, 6, (some .int)) 81 kd_X11_trips = true := by decide +kernel
theorem ok_m338 : kOk ((yX11_trips, cX11_trips, 6, (some .int)), kd_X11_trips) := ckk_ok (o := 11) (by decide +kernel) rfl ck_m338 (fun pc h => by unfold kd_X11_trips; rw [h]; rfl)
theorem ck_m339 : ckM 11 (yX11_count, cX11_count, 4, (some .int)) 97 kd_X11_count = true := by decide +kernel
theorem ok_m339 : kOk ((yX11_count, cX11_count, 4, (some .int)), kd_X11_count) := ckk_ok (o := 11) (by decide +kernel) rfl ck_m339 (fun pc h => by unfold kd_X11_count; rw [h]; rfl)
theorem ck_m340 : ckM 11 (yX11_isSlot, cX11_isSlot, 1, (some .boolean)) 10 kd_X11_isSlot = true := by decide +kernel
theorem ok_m340 : kOk ((yX11_isSlot, cX11_isSlot, 1, (some .boolean)), kd_X11_isSlot) := ckk_ok (o := 11) (by decide +kernel) rfl ck_m340 (fun pc h => by unfold kd_X11_isSlot; rw [h]; rfl)
theorem ck_m341 : ckM 11 (yX11_cut, cX11_cut, 4, (some .long)) 14 kd_X11_cut = true := by decide +kernel
theorem ok_m341 : kOk ((yX11_cut, cX11_cut, 4, (some .long)), kd_X11_cut) := ckk_ok (o := 11) (by decide +kernel) rfl ck_m341 (fun pc h => by unfold kd_X11_cut; rw [h]; rfl)
theorem ck_m342 : ckM 11 (yX11_row, cX11_row, 5, (some .int)) 80 kd_X11_row = true := by decide +kernel
theorem ok_m342 : kOk ((yX11_row, cX11_row, 5, (some .int)), kd_X11_row) := ckk_ok (o := 11) (by decide +kernel) rfl ck_m342 (fun pc h => by unfold kd_X11_row; rw [h]; rfl)
theorem ck_m343 : ckM 11 (yX11_write, cX11_write, 5, (some .int)) 67 kd_X11_write = true := by decide +kernel
theorem ok_m343 : kOk ((yX11_write, cX11_write, 5, (some .int)), kd_X11_write) := ckk_ok (o := 11) (by decide +kernel) rfl ck_m343 (fun pc h => by unfold kd_X11_write; rw [h]; rfl)
theorem ck_m344 : ckM 11 (yX11_paste, cX11_paste, 7, (some .int)) 187 kd_X11_paste = true := by decide +kernel
theorem ok_m344 : kOk ((yX11_paste, cX11_paste, 7, (some .int)), kd_X11_paste) := ckk_ok (o := 11) (by decide +kernel) rfl ck_m344 (fun pc h => by unfold kd_X11_paste; rw [h]; rfl)
theorem ck_m345 : ckM 16 (yJ6_bitCount_0f7a4, cJ6_bitCount_0f7a4, 1, (some .int)) 53 kd_J6_bitCount_0f7a4 = true := by decide +kernel
theorem ok_m345 : kOk ((yJ6_bitCount_0f7a4, cJ6_bitCount_0f7a4, 1, (some .int)), kd_J6_bitCount_0f7a4) := ckk_ok (o := 16) (by decide +kernel) rfl ck_m345 (fun pc h => by unfold kd_J6_bitCount_0f7a4; rw [h]; rfl)
theorem ck_m346 : ckM 18 (yJ9_abs_0f7a4, cJ9_abs_0f7a4, 1, (some .int)) 11 kd_J9_abs_0f7a4 = true := by decide +kernel
theorem ok_m346 : kOk ((yJ9_abs_0f7a4, cJ9_abs_0f7a4, 1, (some .int)), kd_J9_abs_0f7a4) := ckk_ok (o := 18) (by decide +kernel) rfl ck_m346 (fun pc h => by unfold kd_J9_abs_0f7a4; rw [h]; rfl)
theorem ck_m347 : ckM 18 (yJ9_max_7cf53, cJ9_max_7cf53, 2, (some .int)) 11 kd_J9_max_7cf53 = true := by decide +kernel
theorem ok_m347 : kOk ((yJ9_max_7cf53, cJ9_max_7cf53, 2, (some .int)), kd_J9_max_7cf53) := ckk_ok (o := 18) (by decide +kernel) rfl ck_m347 (fun pc h => by unfold kd_J9_max_7cf53; rw [h]; rfl)
theorem ck_m348 : ckM 18 (yJ9_min_7cf53, cJ9_min_7cf53, 2, (some .int)) 11 kd_J9_min_7cf53 = true := by decide +kernel
theorem ok_m348 : kOk ((yJ9_min_7cf53, cJ9_min_7cf53, 2, (some .int)), kd_J9_min_7cf53) := ckk_ok (o := 18) (by decide +kernel) rfl ck_m348 (fun pc h => by unfold kd_J9_min_7cf53; rw [h]; rfl)
theorem ck_m349 : ckM 13 (yJ0_length_8abf5, cJ0_length_8abf5, 1, (some .int)) 11 kd_J0_length_8abf5 = true := by decide +kernel
theorem ok_m349 : kOk ((yJ0_length_8abf5, cJ0_length_8abf5, 1, (some .int)), kd_J0_length_8abf5) := ckk_ok (o := 13) (by decide +kernel) rfl ck_m349 (fun pc h => by unfold kd_J0_length_8abf5; rw [h]; rfl)
theorem ck_m350 : ckM 13 (yJ0_charAt_5068e, cJ0_charAt_5068e, 2, (some .char)) 25 kd_J0_charAt_5068e = true := by decide +kernel
theorem ok_m350 : kOk ((yJ0_charAt_5068e, cJ0_charAt_5068e, 2, (some .char)), kd_J0_charAt_5068e) := ckk_ok (o := 13) (by decide +kernel) rfl ck_m350 (fun pc h => by unfold kd_J0_charAt_5068e; rw [h]; rfl)
theorem ck_m351 : ckM 13 (yJ0_coder_7d493, cJ0_coder_7d493, 1, (some .byte)) 15 kd_J0_coder_7d493 = true := by decide +kernel
theorem ok_m351 : kOk ((yJ0_coder_7d493, cJ0_coder_7d493, 1, (some .byte)), kd_J0_coder_7d493) := ckk_ok (o := 13) (by decide +kernel) rfl ck_m351 (fun pc h => by unfold kd_J0_coder_7d493; rw [h]; rfl)
theorem ck_m352 : ckM 13 (yJ0_isLatin1_aae02, cJ0_isLatin1_aae02, 1, (some .boolean)) 19 kd_J0_isLatin1_aae02 = true := by decide +kernel
theorem ok_m352 : kOk ((yJ0_isLatin1_aae02, cJ0_isLatin1_aae02, 1, (some .boolean)), kd_J0_isLatin1_aae02) := ckk_ok (o := 13) (by decide +kernel) rfl ck_m352 (fun pc h => by unfold kd_J0_isLatin1_aae02; rw [h]; rfl)
theorem ck_m353 : ckM 13 (yJ0_checkIndex_df160, cJ0_checkIndex_df160, 2, none) 10 kd_J0_checkIndex_df160 = true := by decide +kernel
theorem ok_m353 : kOk ((yJ0_checkIndex_df160, cJ0_checkIndex_df160, 2, none), kd_J0_checkIndex_df160) := ckk_ok (o := 13) (by decide +kernel) rfl ck_m353 (fun pc h => by unfold kd_J0_checkIndex_df160; rw [h]; rfl)
theorem ck_m354 : ckM 14 (yJ1_charAt_3b067, cJ1_charAt_3b067, 2, (some .char)) 15 kd_J1_charAt_3b067 = true := by decide +kernel
theorem ok_m354 : kOk ((yJ1_charAt_3b067, cJ1_charAt_3b067, 2, (some .char)), kd_J1_charAt_3b067) := ckk_ok (o := 14) (by decide +kernel) rfl ck_m354 (fun pc h => by unfold kd_J1_charAt_3b067; rw [h]; rfl)
theorem ck_m355 : ckM 17 (yJ7_fill_d0a16, cJ7_fill_d0a16, 5, none) 23 kd_J7_fill_d0a16 = true := by decide +kernel
theorem ok_m355 : kOk ((yJ7_fill_d0a16, cJ7_fill_d0a16, 5, none), kd_J7_fill_d0a16) := ckk_ok (o := 17) (by decide +kernel) rfl ck_m355 (fun pc h => by unfold kd_J7_fill_d0a16; rw [h]; rfl)
theorem ck_m356 : ckM 17 (yJ7_fill_53178, cJ7_fill_53178, 4, none) 21 kd_J7_fill_53178 = true := by decide +kernel
theorem ok_m356 : kOk ((yJ7_fill_53178, cJ7_fill_53178, 4, none), kd_J7_fill_53178) := ckk_ok (o := 17) (by decide +kernel) rfl ck_m356 (fun pc h => by unfold kd_J7_fill_53178; rw [h]; rfl)
theorem ck_m357 : ckM 15 (yJ3_checkIndex_8e157, cJ3_checkIndex_8e157, 3, (some .int)) 18 kd_J3_checkIndex_8e157 = true := by decide +kernel
theorem ok_m357 : kOk ((yJ3_checkIndex_8e157, cJ3_checkIndex_8e157, 3, (some .int)), kd_J3_checkIndex_8e157) := ckk_ok (o := 15) (by decide +kernel) rfl ck_m357 (fun pc h => by unfold kd_J3_checkIndex_8e157; rw [h]; rfl)
