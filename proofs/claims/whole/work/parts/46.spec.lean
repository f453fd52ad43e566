/-! the special objects at the start -/
def k4L : List Nat := [79, 102, 104, 106, 108, 110, 51, 115, 117, 122, 60, 131, 176, 178, 136, 138, 140, 65, 158, 184, 188, 190, 163, 165, 167, 70, 172]
def k11L : List Nat := [235, 237, 239, 241, 243, 245, 216, 177, 186, 188, 218, 190, 191, 193, 195, 197, 198, 220, 206, 200, 202, 204, 210, 212, 214, 222, 233]
def fAt : List Cond := flatC (Jvm.Cond.and given_1 narrow_1)
def s4 (i : Nat) : Term := .string "CoachAhead$Reader" (k4L.getD i 0)
def s11 (i : Nat) : Term := .string "CoachAheadModel" (k11L.getD i 0)
def lenL : List Nat := txL.map List.length
def iexL : List Nat := [85, 94, 105, 116, 125, 133, 141, 150, 160, 167, 176, 189, 195, 201, 209, 217, 227, 236, 245, 251, 259, 270, 279, 287, 296, 306, 313]
def icoL : List Nat := [86, 95, 106, 117, 126, 134, 142, 151, 161, 168, 177, 190, 196, 202, 210, 218, 228, 237, 246, 252, 260, 271, 280, 288, 297, 307, 314]
def iarL : List Nat := [87, 96, 107, 118, 127, 135, 143, 152, 162, 169, 178, 191, 197, 203, 211, 219, 229, 238, 247, 253, 261, 272, 281, 289, 298, 308, 315]
def ileL : List Nat := [88, 97, 108, 119, 128, 136, 144, 153, 163, 170, 179, 192, 198, 204, 212, 220, 230, 239, 248, 254, 262, 273, 282, 290, 299, 309, 316]
def ielL : List (List Nat) := [[89, 90, 91, 92, 93], [98, 99, 100, 101, 102, 103, 104], [109, 110, 111, 112, 113, 114, 115], [120, 121, 122, 123, 124], [129, 130, 131, 132], [137, 138, 139, 140], [145, 146, 147, 148, 149], [154, 155, 156, 157, 158, 159], [164, 165, 166], [171, 172, 173, 174, 175], [180, 181, 182, 183, 184, 185, 186, 187, 188], [193, 194], [199, 200], [205, 206, 207, 208], [213, 214, 215, 216], [221, 222, 223, 224, 225, 226], [231, 232, 233, 234, 235], [240, 241, 242, 243, 244], [249, 250], [255, 256, 257, 258], [263, 264, 265, 266, 267, 268, 269], [274, 275, 276, 277, 278], [283, 284, 285, 286], [291, 292, 293, 294, 295], [300, 301, 302, 303, 304, 305], [310, 311, 312], [317, 318, 319, 320]]
def ieqL : List Nat := [330, 342, 354, 364, 373, 382, 392, 435, 443, 453, 406, 460, 467, 476, 485, 496, 506, 416, 513, 522, 534, 544, 553, 563, 574, 424, 583]
def ix2L : List Nat := [321, 331, 343, 355, 365, 374, 383, 425, 436, 444, 393, 454, 461, 468, 477, 486, 497, 407, 507, 514, 523, 535, 545, 554, 564, 417, 575]
theorem f_ex : ∀ i, i < 27 → fAt[iexL.getD i 0]? = some (Cond.exactly (s4 i) "java/lang/String") := by decide +kernel
theorem f_co : ∀ i, i < 27 → fAt[icoL.getD i 0]? = some (Cond.eq (.field (s4 i) "java/lang/String" "coder" "B") (.int 0)) := by decide +kernel
theorem f_ar : ∀ i, i < 27 → fAt[iarL.getD i 0]? = some (Cond.arrayOf (.field (s4 i) "java/lang/String" "value" "[B") .byte) := by decide +kernel
theorem f_le : ∀ i, i < 27 → fAt[ileL.getD i 0]? = some (Cond.eq (.length (.field (s4 i) "java/lang/String" "value" "[B")) (.int (Int32.ofNat (lenL.getD i 0)))) := by decide +kernel
theorem f_el : ∀ i, i < 27 → ∀ j, j < lenL.getD i 0 → fAt[(ielL.getD i []).getD j 0]? = some (Cond.eq (.elem (.field (s4 i) "java/lang/String" "value" "[B") (.int (Int32.ofNat j))) (.int ((txL.getD i []).getD j 0))) := by decide +kernel
theorem f_eq : ∀ i, i < 27 → fAt[ieqL.getD i 0]? = some (Cond.eq (s4 i) (s11 i)) := by decide +kernel
theorem f_x2 : ∀ i, i < 27 → fAt[ix2L.getD i 0]? = some (Cond.exactly (s11 i) "java/lang/String") := by decide +kernel
def hlT : Term := .static "CoachAhead$Reader" "HEAD_LEAST" "[I"
def hmT : Term := .static "CoachAhead$Reader" "HEAD_MOST" "[I"
theorem f_l1 : fAt[10]? = some (Cond.arrayOf hlT .int) := by decide +kernel
theorem f_l2 : fAt[11]? = some (Cond.eq (.length hlT) (.int (Int32.ofNat 5))) := by decide +kernel
def il3 : List Nat := [12, 13, 14, 15, 16]
theorem f_l3 : ∀ j, j < 5 → fAt[il3.getD j 0]? = some (Cond.eq (.elem hlT (.int (Int32.ofNat j))) (.int (([2, 1, 1, 0, 0] : List Int32).getD j 0))) := by decide +kernel
theorem f_m1 : fAt[18]? = some (Cond.arrayOf hmT .int) := by decide +kernel
theorem f_m2 : fAt[19]? = some (Cond.eq (.length hmT) (.int (Int32.ofNat 5))) := by decide +kernel
def im3 : List Nat := [20, 21, 22, 23, 24]
theorem f_m3 : ∀ j, j < 5 → fAt[im3.getD j 0]? = some (Cond.eq (.elem hmT (.int (Int32.ofNat j))) (.int (([8, 40, 20, 99, 999] : List Int32).getD j 0))) := by decide +kernel
theorem f_cs : fAt[4]? = some (Cond.eq (.static "java/lang/String" "COMPACT_STRINGS" "Z") (.int 1)) := by decide +kernel
theorem f_si : fAt[5]? = some (Cond.isRef (.static "jdk/internal/util/Preconditions" "SIOOBE_FORMATTER" "Ljava/util/function/BiFunction;")) := by decide +kernel
theorem t_at (i : Nat) {w : Cond} (h : tables_1[i]? = some w) : w ∈ lw_tbl := List.mem_append_right _ (List.mem_of_getElem? h)
theorem t_list (ws : List Cond) (is : List Nat) (h : ws = is.filterMap (fun i => tables_1[i]?)) : ∀ w ∈ ws, w ∈ lw_tbl := by
  intro w hw
  rw [h] at hw
  obtain ⟨i, -, hi⟩ := List.mem_filterMap.mp hw
  exact t_at i hi
theorem t_sr : ∀ w ∈ srL.map (fun q => Cond.stringRef q.1 q.2.1 (txS.getD q.2.2 "")), w ∈ lw_tbl := t_list _ [1447, 1452, 1453, 1458, 1459, 1460, 1461, 1462, 1463, 1473, 1474, 1475, 1468, 1476, 1477, 1478, 1435, 1436, 1437, 1438, 1479, 1399, 1418, 1427, 1428, 1429, 1430, 467, 483, 518, 542, 381, 450, 451, 452, 453, 454, 476, 477, 478, 492, 503, 504, 505, 527, 535, 536, 537, 547, 497, 498, 532, 533, 534] (by decide +kernel)
theorem t_nes : ∀ w ∈ nestL.map (fun q => Cond.methodLinkNest RX10 q.1 q.2 RX10), w ∈ lw_tbl := t_list _ [31, 91, 130, 257, 268] (by decide +kernel)
theorem t_ao : ∀ w ∈ aoL.map (fun q => Cond.arrayOver (.object q)), w ∈ lw_tbl := t_list _ [126, 128, 142, 225, 266] (by decide +kernel)
theorem t_z1 : Cond.laysStatic "CoachAhead$Reader" "HEAD_LEAST" "[I" ∈ lw_tbl := t_at 444 (by decide +kernel)
theorem t_z2 : Cond.laysStatic "CoachAhead$Reader" "HEAD_MOST" "[I" ∈ lw_tbl := t_at 446 (by decide +kernel)
theorem t_z3 : Cond.laysStatic "java/lang/String" "COMPACT_STRINGS" "Z" ∈ lw_tbl := t_at 399 (by decide +kernel)
theorem t_z4 : Cond.laysStatic "jdk/internal/util/Preconditions" "SIOOBE_FORMATTER" "Ljava/util/function/BiFunction;" ∈ lw_tbl := t_at 415 (by decide +kernel)
theorem t_i1 : Cond.initialized "CoachAhead$Reader" ∈ lw_tbl := t_at 3 (by decide +kernel)
theorem t_i2 : Cond.initialized "java/lang/String" ∈ lw_tbl := t_at 14 (by decide +kernel)
theorem t_i3 : Cond.initialized "jdk/internal/util/Preconditions" ∈ lw_tbl := t_at 16 (by decide +kernel)
theorem sr_ix : ∀ q ∈ srL, q.2.2 < 27 ∧ ((q.1 = "CoachAhead$Reader" ∧ q.2.1 = k4L.getD q.2.2 0) ∨ (q.1 = "CoachAheadModel" ∧ q.2.1 = k11L.getD q.2.2 0)) := by decide +kernel
theorem tx_apart : ∀ i, i < 27 → ∀ j, j < 27 → txL.getD i [] = txL.getD j [] → i = j := by decide +kernel
theorem tx_small : ∀ i, i < 27 → lenL.getD i 0 < 100 := by decide +kernel
section Sp
variable {args : Array Value} {s : State}
theorem fat (h : (Jvm.Cond.and given_1 narrow_1).before args s = true) {i : Nat} {w : Cond} (hi : fAt[i]? = some w) : w.before args s = true := flat_of_before _ h _ (List.mem_of_getElem? hi)
theorem eq_refs {t1 t2 : Term} {a a' : Nat} (h1 : t1.eval args s none [] s = some (.ref a)) (h2 : t2.eval args s none [] s = some (.ref a')) (h : (Cond.eq t1 t2).before args s = true) : a = a' := by
  simpa [Cond.before, Cond.holds, Cond.value, h1, h2] using h
theorem lists_eq {l1 l2 : List Int32} {N : Nat} (h1 : l1.length = N) (h2 : l2.length = N) (h : ∀ j, j < N → l1.getD j 0 = l2.getD j 0) : l1 = l2 := by
  apply List.ext_getElem (by rw [h1, h2])
  intro j q1 q2
  have := h j (by omega)
  rwa [List.getD_eq_getElem?_getD, List.getD_eq_getElem?_getD, List.getElem?_eq_getElem q1, List.getElem?_eq_getElem q2] at this
theorem len_tx (i : Nat) : lenL.getD i 0 = (txL.getD i []).length := tx_len i
def spA (ad : Nat → Nat × Nat) (t0 t1 b : Nat) (k : Nat) : Nat := if k < 27 then (ad k).1 else if k < 200 then (ad (k - 100)).2 else if k = 200 then t0 else if k = 201 then t1 else b
theorem sp_start (hg : (Jvm.Cond.and given_1 narrow_1).before args s = true) (ht : ∀ w ∈ lw_tbl, w.before args s = true) {b L : Nat} {xs : Nat → Int32} (hx : va_X b L xs s s.heap) (hb : b < s.heap.size) : ∃ (spa : Nat → Nat) (v4 : Value), isRV v4 ∧ spa 300 = b ∧ SPf s.heap.size (L, xs) spa v4 s s.heap := by
  have hA : ∀ a : Nat, a < s.heap.size → ¬ s.heap.size ≤ a := fun a h => by omega
  have h0 : ∀ i : Nat, ∃ q : Nat × Nat, i < 27 → (s4 i).eval args s none [] s = some (.ref q.1) ∧ va_O "java/lang/String" q.1 (fun q => s.heap.size ≤ q) s s.heap ∧ va_OF "java/lang/String" "coder" "B" (.int 0) q.1 (fun q => s.heap.size ≤ q) s s.heap ∧ va_OF "java/lang/String" "value" "[B" (.ref q.2) q.1 (fun q => s.heap.size ≤ q) s s.heap ∧ va_T .byte q.2 (lenL.getD i 0) (fun j => .int ((txL.getD i []).getD j 0)) (fun q => s.heap.size ≤ q) s s.heap := by
    intro i
    by_cases hi : i < 27
    · obtain ⟨a, c, cA, kA, q1, q2, q3, q4, q5, q6, -⟩ := Cond.exactly_spec (args := args) (first := s) (o := none) (s := s) (idx := []) (t := s4 i) (cls := "java/lang/String") (fat hg (f_ex i hi))
      obtain ⟨t, ht, hT⟩ := va_Tof (f := fun j => .int ((txL.getD i []).getD j 0)) (A := fun q => s.heap.size ≤ q) (Nat.lt_of_lt_of_le (tx_small i hi) (by decide)) (fat hg (f_ar i hi)) (va_eqt (fat hg (f_le i hi))) (fun j hj => va_eqt (fat hg (f_el i hi j hj))) hA
      exact ⟨(a, t), fun _ => ⟨q1, ⟨cA, q3, q5, by rw [q6]; exact q2, hA a (Array.getElem?_eq_some_iff.mp q3).1⟩, vk_OFof q1 (va_eqt (fat hg (f_co i hi))) hA, vk_OFof q1 ht hA, hT⟩⟩
    · exact ⟨(0, 0), fun h => absurd h hi⟩
  obtain ⟨ad, had⟩ := Classical.axiomOfChoice h0
  have hinj : ∀ i j : Nat, i < 27 → j < 27 → (ad i).1 = (ad j).1 → i = j := by
    intro i j hi hj e
    obtain ⟨-, -, -, v1, T1⟩ := had i hi
    obtain ⟨-, -, -, v2, T2⟩ := had j hj
    rw [← e] at v2
    obtain ⟨cf, k, n, f, cell, a1, a2, a3, a4, a5, a6⟩ := v1
    obtain ⟨cf', k', n', f', cell', b1, b2, b3, b4, b5, b6⟩ := v2
    cases a1.symm.trans b1
    cases a3.symm.trans b3
    have e2 : (ad i).2 = (ad j).2 := by
      have := a5.symm.trans b5
      injection this with this
      injection this
    rw [← e2] at T2
    obtain ⟨c1, d1, d2, d3, d4, d5, d6, d7⟩ := T1
    obtain ⟨c2, e1, e3, e4, e5, e6, e7, e8⟩ := T2
    cases d1.symm.trans e1
    have hN : lenL.getD i 0 = lenL.getD j 0 := by
      have h1 := d5.symm.trans e6
      have z1 := tx_small i hi
      have z2 := tx_small j hj
      have := congrArg Int32.toNatClampNeg h1
      rwa [Int32.toNatClampNeg_ofNat_of_lt (by omega), Int32.toNatClampNeg_ofNat_of_lt (by omega)] at this
    refine tx_apart i hi j hj (lists_eq (N := lenL.getD i 0) (len_tx i).symm (by rw [hN]; exact (len_tx j).symm) (fun q hq => ?_))
    have h1 := (d6 q hq).symm.trans (e7 q (by rw [← hN]; exact hq))
    injection h1 with h1
    injection h1
  obtain ⟨t0, z0, T0⟩ := va_Tof (args := args) (s := s) (tm := hlT) (ty := .int) (N := 5) (f := fun j => .int (([2, 1, 1, 0, 0] : List Int32).getD j 0)) (A := fun q => s.heap.size ≤ q) (by decide) (fat hg f_l1) (va_eqt (fat hg f_l2)) (fun j hj => va_eqt (fat hg (f_l3 j hj))) hA
  obtain ⟨t1, z1, T1⟩ := va_Tof (args := args) (s := s) (tm := hmT) (ty := .int) (N := 5) (f := fun j => .int (([8, 40, 20, 99, 999] : List Int32).getD j 0)) (A := fun q => s.heap.size ≤ q) (by decide) (fat hg f_m1) (va_eqt (fat hg f_m2)) (fun j hj => va_eqt (fat hg (f_m3 j hj))) hA
  have hz4 := va_Zqof (A := fun q => s.heap.size ≤ q) (ht _ t_z4) (ht _ t_i3) (fat hg f_si) hA
  have hv4 : ∃ v4, isRV v4 ∧ va_Z "jdk/internal/util/Preconditions" "SIOOBE_FORMATTER" "Ljava/util/function/BiFunction;" v4 (fun q => s.heap.size ≤ q) s s.heap := by
    rcases hz4 with h | ⟨t, h⟩
    · exact ⟨.null, Or.inl rfl, h⟩
    · exact ⟨.ref t, Or.inr ⟨t, rfl⟩, h⟩
  obtain ⟨v4, hr4, hz4⟩ := hv4
  have e1 : ∀ i, i < 27 → spA ad t0 t1 b i = (ad i).1 := fun i hi => by unfold spA; rw [if_pos hi]
  have e2 : ∀ i, i < 27 → spA ad t0 t1 b (100 + i) = (ad i).2 := fun i hi => by unfold spA; rw [if_neg (by omega), if_pos (by omega), show 100 + i - 100 = i by omega]
  refine ⟨spA ad t0 t1 b, v4, hr4, rfl, ⟨fun i hi => ?_, fun i j hi hj e => ?_⟩, T0, T1, ?_, va_Zof (ht _ t_z1) (ht _ t_i1) z0 hA, va_Zof (ht _ t_z2) (ht _ t_i1) z1 hA, va_Zof (ht _ t_z3) (ht _ t_i2) (va_eqt (fat hg f_cs)) hA, hz4, fun q hq => ?_, fun q hq => ?_, fun q hq => ?_⟩
  · obtain ⟨-, o1, o2, o3, o4⟩ := had i hi
    show va_O "java/lang/String" (spA ad t0 t1 b i) _ _ _ ∧ va_OF _ _ _ _ (spA ad t0 t1 b i) _ _ _ ∧ va_OF _ _ _ (.ref (spA ad t0 t1 b (100 + i))) (spA ad t0 t1 b i) _ _ _ ∧ va_T _ (spA ad t0 t1 b (100 + i)) _ _ _ _ _
    rw [e1 i hi, e2 i hi]
    exact ⟨o1, o2, o3, o4⟩
  · rw [e1 i hi, e1 j hj] at e
    exact hinj i j hi hj e
  · obtain ⟨scr, x1, x2, x3, x4, x5⟩ := hx
    exact ⟨scr, x1, x2, x3, Nat.le_of_eq x4.symm, congrArg Nat.toInt32 x4, x5, hA b hb⟩
  · obtain ⟨q1, q2⟩ := sr_ix q hq
    have w := ht _ (t_sr _ (List.mem_map_of_mem (f := fun q => Cond.stringRef q.1 q.2.1 (txS.getD q.2.2 "")) hq))
    refine vk_R.of w ?_
    rw [e1 _ q1]
    obtain ⟨v1, -⟩ := had _ q1
    rcases q2 with ⟨g1, g2⟩ | ⟨g1, g2⟩
    · rw [g1, g2]; exact v1
    · obtain ⟨a, c, cA, kA, y1, -⟩ := Cond.exactly_spec (args := args) (first := s) (o := none) (s := s) (idx := []) (t := s11 q.2.2) (cls := "java/lang/String") (fat hg (f_x2 _ q1))
      have y2 := eq_refs v1 y1 (fat hg (f_eq _ q1))
      rw [g1, g2, y2]
      exact y1
  · exact ht _ (t_nes _ (List.mem_map_of_mem (f := fun q : Nat × MethodName => Cond.methodLinkNest RX10 q.1 q.2 RX10) hq))
  · exact ht _ (t_ao _ (List.mem_map_of_mem (f := fun q : String => Cond.arrayOver (.object q)) hq))
/-- classes and array classes -/
def tyL (t : Nat) : FieldType := if t = 1 then .int else if t = 2 then .byte else if t = 3 then .boolean else if t = 4 then .long else if t = 5 then .object RX0 else if t = 6 then .object RX1 else if t = 10 then .object RX5 else if t = 11 then .object RX6 else .object RX9
theorem arr_prim {ty : FieldType} (h : (Cond.arrayClass ty).before args s = true) (hp : ∀ C, ty ≠ .object C) : ∃ cA, ArrOfT s cA ty ∧ va_RA s cA ty := by
  obtain ⟨c, k, comp, h1, h2, h3⟩ := Cond.arrayClass_spec (args := args) (first := s) (o := none) (s := s) (idx := []) h
  refine ⟨c, fun n z => ⟨fun k h => (by cases h), k, h2, comp, h3⟩, ?_⟩
  cases ty <;> first | exact h1 | exact absurd rfl (hp _)
theorem arr_obj {C : String} (h : (Cond.arrayOver (.object C)).before args s = true) : ∃ cA, ArrOfT s cA (.object C) ∧ va_RA s cA (.object C) := by
  obtain ⟨comp, c, k, g1, g2, g3, g4, g5⟩ := Cond.arrayOver_spec (args := args) (first := s) (o := none) (s := s) (idx := []) h
  exact ⟨c, fun n z => ⟨fun k h => (by cases h), k, g3, comp, g4⟩, k, comp, g3, g4, g1, g5⟩
theorem gt_lw {w : Cond} (h : w ∈ GT) : w ∈ lw_tbl := (List.mem_filter.mp h).1
theorem k_start (ht : ∀ w ∈ lw_tbl, w.before args s = true) : ∃ (D : va_G) (cA : Nat → ClassId), va_K D vwCl (tysL cA) s := by
  have hc : ∀ c : Nat, ∃ q : ClassId × (Nat → Nat), ∀ r, vwCl[c]? = some r → u_Kn s r.1 r.2.1 r.2.2 q.1 q.2 := by
    intro c
    cases hv : vwCl[c]? with
    | none => exact ⟨(0, fun _ => 0), fun r hr => by cases hr⟩
    | some r =>
      have hc : c < 12 := (List.getElem?_eq_some_iff.mp hv).1
      obtain ⟨g2, g3⟩ := cls_w c hc r hv
      obtain ⟨cC, iS, hk⟩ := u_known (ws := GT) (fun w hw => ht w (gt_lw hw)) (u_ok c r hv) (ht _ (gt_lw g2))
      exact ⟨(cC, iS), fun r' hr' => by cases hr'; exact hk⟩
  obtain ⟨D, hD⟩ := Classical.axiomOfChoice hc
  have aov : ∀ q ∈ aoL, (Cond.arrayOver (.object q)).before args s = true := fun q hq => ht _ (t_ao _ (List.mem_map_of_mem (f := fun q : String => Cond.arrayOver (.object q)) hq))
  obtain ⟨c1, p1⟩ := arr_prim (ht _ (gt_lw ck_ai)) (fun C e => by cases e)
  obtain ⟨c2, p2⟩ := arr_prim (ht _ (gt_lw ck_ab)) (fun C e => by cases e)
  obtain ⟨c3, p3⟩ := arr_prim (ht _ (gt_lw ck_az)) (fun C e => by cases e)
  obtain ⟨c4, p4⟩ := arr_prim (ht _ (gt_lw ck_al)) (fun C e => by cases e)
  obtain ⟨c14, p14⟩ := arr_obj (aov RX9 (List.mem_of_getElem? (i := 0) rfl))
  obtain ⟨c6, p6⟩ := arr_obj (aov RX1 (List.mem_of_getElem? (i := 1) rfl))
  obtain ⟨c10, p10⟩ := arr_obj (aov RX5 (List.mem_of_getElem? (i := 2) rfl))
  obtain ⟨c5, p5⟩ := arr_obj (aov RX0 (List.mem_of_getElem? (i := 3) rfl))
  obtain ⟨c11, p11⟩ := arr_obj (aov RX6 (List.mem_of_getElem? (i := 4) rfl))
  refine ⟨(fun c => (D c).1, fun c => (D c).2), fun t => if t = 1 then c1 else if t = 2 then c2 else if t = 3 then c3 else if t = 4 then c4 else if t = 5 then c5 else if t = 6 then c6 else if t = 10 then c10 else if t = 11 then c11 else c14, fun c q hq => hD c q hq, fun k q hk => ?_⟩
  have hk14 : k < 14 := (List.getElem?_eq_some_iff.mp hk).1
  match k, hk14 with
  | 0, _ => cases hk; exact p1
  | 1, _ => cases hk; exact p2
  | 2, _ => cases hk; exact p3
  | 3, _ => cases hk; exact p4
  | 4, _ => cases hk; exact p5
  | 5, _ => cases hk; exact p6
  | 6, _ => cases hk; exact p1
  | 7, _ => cases hk; exact p1
  | 8, _ => cases hk; exact p1
  | 9, _ => cases hk; exact p10
  | 10, _ => cases hk; exact p11
  | 11, _ => cases hk; exact p1
  | 12, _ => cases hk; exact p1
  | 13, _ => cases hk; exact p14
end Sp
