theorem ck_l0 : ckR 12 (yL_law, cL_law, 4, (some .boolean)) 0 128 kd_L_law = true := by decide +kernel
theorem ck_l1 : ckR 12 (yL_law, cL_law, 4, (some .boolean)) 128 128 kd_L_law = true := by decide +kernel
theorem ck_l2 : ckR 12 (yL_law, cL_law, 4, (some .boolean)) 256 128 kd_L_law = true := by decide +kernel
theorem ck_l3 : ckR 12 (yL_law, cL_law, 4, (some .boolean)) 384 128 kd_L_law = true := by decide +kernel
theorem ck_l4 : ckR 12 (yL_law, cL_law, 4, (some .boolean)) 512 128 kd_L_law = true := by decide +kernel
theorem ck_l5 : ckR 12 (yL_law, cL_law, 4, (some .boolean)) 640 128 kd_L_law = true := by decide +kernel
theorem ck_l6 : ckR 12 (yL_law, cL_law, 4, (some .boolean)) 768 128 kd_L_law = true := by decide +kernel
theorem ck_l7 : ckR 12 (yL_law, cL_law, 4, (some .boolean)) 896 128 kd_L_law = true := by decide +kernel
theorem ck_l8 : ckR 12 (yL_law, cL_law, 4, (some .boolean)) 1024 128 kd_L_law = true := by decide +kernel
theorem ck_l9 : ckR 12 (yL_law, cL_law, 4, (some .boolean)) 1152 128 kd_L_law = true := by decide +kernel
theorem ck_l10 : ckR 12 (yL_law, cL_law, 4, (some .boolean)) 1280 128 kd_L_law = true := by decide +kernel
theorem ck_l11 : ckR 12 (yL_law, cL_law, 4, (some .boolean)) 1408 128 kd_L_law = true := by decide +kernel
theorem ck_l12 : ckR 12 (yL_law, cL_law, 4, (some .boolean)) 1536 128 kd_L_law = true := by decide +kernel
theorem ck_l13 : ckR 12 (yL_law, cL_law, 4, (some .boolean)) 1664 128 kd_L_law = true := by decide +kernel
theorem ck_l14 : ckR 12 (yL_law, cL_law, 4, (some .boolean)) 1792 128 kd_L_law = true := by decide +kernel
theorem ck_l15 : ckR 12 (yL_law, cL_law, 4, (some .boolean)) 1920 128 kd_L_law = true := by decide +kernel
theorem ck_l16 : ckR 12 (yL_law, cL_law, 4, (some .boolean)) 2048 128 kd_L_law = true := by decide +kernel
theorem ok_m358 : kOk ((yL_law, cL_law, 4, (some .boolean)), kd_L_law) := by
  refine ⟨by decide +kernel, fun pc ins aux kill he => ?_⟩
  have he : kd_L_law pc = some (ins, aux, kill) := he
  have hb : pc < 2057 := by
    cases hb : Nat.blt pc 2057 with
    | false => exact absurd he (by unfold kd_L_law; rw [hb]; intro q; cases q)
    | true => exact Nat.le_of_ble_eq_true hb
  by_cases h0 : pc < 128
  · exact ckR_ok (o := 12) (M := (yL_law, cL_law, 4, (some .boolean))) rfl ck_l0 (by omega) (by omega) he
  by_cases h1 : pc < 256
  · exact ckR_ok (o := 12) (M := (yL_law, cL_law, 4, (some .boolean))) rfl ck_l1 (by omega) (by omega) he
  by_cases h2 : pc < 384
  · exact ckR_ok (o := 12) (M := (yL_law, cL_law, 4, (some .boolean))) rfl ck_l2 (by omega) (by omega) he
  by_cases h3 : pc < 512
  · exact ckR_ok (o := 12) (M := (yL_law, cL_law, 4, (some .boolean))) rfl ck_l3 (by omega) (by omega) he
  by_cases h4 : pc < 640
  · exact ckR_ok (o := 12) (M := (yL_law, cL_law, 4, (some .boolean))) rfl ck_l4 (by omega) (by omega) he
  by_cases h5 : pc < 768
  · exact ckR_ok (o := 12) (M := (yL_law, cL_law, 4, (some .boolean))) rfl ck_l5 (by omega) (by omega) he
  by_cases h6 : pc < 896
  · exact ckR_ok (o := 12) (M := (yL_law, cL_law, 4, (some .boolean))) rfl ck_l6 (by omega) (by omega) he
  by_cases h7 : pc < 1024
  · exact ckR_ok (o := 12) (M := (yL_law, cL_law, 4, (some .boolean))) rfl ck_l7 (by omega) (by omega) he
  by_cases h8 : pc < 1152
  · exact ckR_ok (o := 12) (M := (yL_law, cL_law, 4, (some .boolean))) rfl ck_l8 (by omega) (by omega) he
  by_cases h9 : pc < 1280
  · exact ckR_ok (o := 12) (M := (yL_law, cL_law, 4, (some .boolean))) rfl ck_l9 (by omega) (by omega) he
  by_cases h10 : pc < 1408
  · exact ckR_ok (o := 12) (M := (yL_law, cL_law, 4, (some .boolean))) rfl ck_l10 (by omega) (by omega) he
  by_cases h11 : pc < 1536
  · exact ckR_ok (o := 12) (M := (yL_law, cL_law, 4, (some .boolean))) rfl ck_l11 (by omega) (by omega) he
  by_cases h12 : pc < 1664
  · exact ckR_ok (o := 12) (M := (yL_law, cL_law, 4, (some .boolean))) rfl ck_l12 (by omega) (by omega) he
  by_cases h13 : pc < 1792
  · exact ckR_ok (o := 12) (M := (yL_law, cL_law, 4, (some .boolean))) rfl ck_l13 (by omega) (by omega) he
  by_cases h14 : pc < 1920
  · exact ckR_ok (o := 12) (M := (yL_law, cL_law, 4, (some .boolean))) rfl ck_l14 (by omega) (by omega) he
  by_cases h15 : pc < 2048
  · exact ckR_ok (o := 12) (M := (yL_law, cL_law, 4, (some .boolean))) rfl ck_l15 (by omega) (by omega) he
  by_cases h16 : pc < 2176
  · exact ckR_ok (o := 12) (M := (yL_law, cL_law, 4, (some .boolean))) rfl ck_l16 (by omega) (by omega) he
  omega
