theorem GT_list (ws : List Cond) (is : List Nat) (h : ws = is.filterMap (fun i => tables_1[i]?)) (hg : ws.all goodWord = true) : ∀ w ∈ ws, w ∈ GT := by
  intro w hw
  have h1 := List.all_eq_true.mp hg w hw
  rw [h] at hw
  obtain ⟨i, -, hi⟩ := List.mem_filterMap.mp hw
  exact GT_at i hi h1
theorem u_ok0 : ∀ w ∈ u_ws RX0 TX0 12, w ∈ GT := GT_list _ [193, 195, 197, 199, 201, 203, 205, 207, 209, 211, 213, 215] (by decide +kernel) (by decide +kernel)
theorem u_ok1 : ∀ w ∈ u_ws RX1 TX1 1, w ∈ GT := GT_list _ [138] (by decide +kernel) (by decide +kernel)
theorem u_ok2 : ∀ w ∈ u_ws RX2 TX2 1, w ∈ GT := GT_list _ [262] (by decide +kernel) (by decide +kernel)
theorem u_ok3 : ∀ w ∈ u_ws RX3 TX3 8, w ∈ GT := GT_list _ [238, 240, 242, 244, 246, 248, 250, 252] (by decide +kernel) (by decide +kernel)
theorem u_ok4 : ∀ w ∈ u_ws RX4 TX4 3, w ∈ GT := GT_list _ [82, 84, 86] (by decide +kernel) (by decide +kernel)
theorem u_ok5 : ∀ w ∈ u_ws RX5 TX5 7, w ∈ GT := GT_list _ [157, 159, 161, 163, 165, 167, 169] (by decide +kernel) (by decide +kernel)
theorem u_ok6 : ∀ w ∈ u_ws RX6 TX6 4, w ∈ GT := GT_list _ [280, 282, 284, 286] (by decide +kernel) (by decide +kernel)
theorem u_ok7 : ∀ w ∈ u_ws RX7 TX7 2, w ∈ GT := GT_list _ [40, 42] (by decide +kernel) (by decide +kernel)
theorem u_ok8 : ∀ w ∈ u_ws RX8 TX8 5, w ∈ GT := GT_list _ [66, 68, 70, 72, 74] (by decide +kernel) (by decide +kernel)
theorem u_ok9 : ∀ w ∈ u_ws RX9 TX9 8, w ∈ GT := GT_list _ [108, 110, 112, 114, 116, 118, 120, 122] (by decide +kernel) (by decide +kernel)
theorem u_ok10 : ∀ w ∈ u_ws RX10 TX10 14, w ∈ GT := GT_list _ [304, 306, 308, 310, 312, 314, 316, 318, 320, 322, 324, 326, 328, 330] (by decide +kernel) (by decide +kernel)
theorem u_ok11 : ∀ w ∈ u_ws RX11 TX11 35, w ∈ GT := GT_list _ [1278, 1280, 1282, 1284, 1286, 1288, 1290, 1292, 1294, 1296, 1298, 1300, 1302, 1304, 1306, 1308, 1310, 1312, 1314, 1316, 1318, 1320, 1322, 1324, 1326, 1328, 1330, 1332, 1334, 1336, 1338, 1340, 1342, 1344, 1346] (by decide +kernel) (by decide +kernel)
theorem u_ok : uOk := vw_cases (P := fun _ q => ∀ w ∈ u_ws q.1 q.2.1 q.2.2, w ∈ GT) u_ok0 u_ok1 u_ok2 u_ok3 u_ok4 u_ok5 u_ok6 u_ok7 u_ok8 u_ok9 u_ok10 u_ok11
