/-! fault, end, count -/
section
variable {X : AX} {d : Nat} {I J : A3 Int32} {L L' : A3 Int64} {w : TW} {e : CE} {im : TI} {n : Nat} {b : Nat → Int8} {t : TS}
theorem RB.tape {n' : Nat} {b' : Nat → Int8} (h : RB I L w e im n b t) (hf : ∀ f, f ∈ KPL → f ≠ 1 → f ≠ 2 → f ≠ 44 → J f = I f) (h40 : ∀ j, (j = 12 ∨ j = 13) → J 40 0 j = I 40 0 j) (hT : TT J n' b') : RB J L w e im n' b' t := by
  obtain ⟨a1, a2, a3, a4, a5, a6, a7, a8, a9, a10⟩ := h
  have hk : ∀ f, 5 ≤ f → f ≤ 11 → J f = I f := fun f h1 h2 => hf f (by
    rcases (show f = 5 ∨ f = 6 ∨ f = 7 ∨ f = 8 ∨ f = 9 ∨ f = 10 ∨ f = 11 by omega) with rfl | rfl | rfl | rfl | rfl | rfl | rfl <;> decide) (by omega) (by omega) (by omega)
  refine ⟨a1.fams (fun f h1 h2 => by rw [hk f h1 h2]), by rw [hf 41 (by decide) (by decide) (by decide) (by decide)]; exact a2, a3, a4, a5.fams (fun f q h1 h2 _ => by rw [hk f h1 h2]) (hf 42 (by decide) (by decide) (by decide) (by decide)) (hf 43 (by decide) (by decide) (by decide) (by decide)), hT, ?_, ?_, ?_, a10⟩
  · unfold FL
    rw [h40 12 (by decide), h40 13 (by decide), hf 3 (by decide) (by decide) (by decide) (by decide)]; exact a7
  · unfold SC
    rw [hf 32 (by decide) (by decide) (by decide) (by decide)]; exact a8
  · unfold SM
    rw [hf 59 (by decide) (by decide) (by decide) (by decide), hf 60 (by decide) (by decide) (by decide) (by decide)]; exact a9
theorem g_fault (hR : Rel I L) (a : Int32) : Good (K_X10_fault X 15 a) (K_X11_fault X 15 a) I L := by
  obtain ⟨w, e, im, n, b, t, h, hh⟩ := id hR
  have f1 := h.2.2.2.2.2.2.1.1
  have f2 := h.2.2.2.2.2.2.1.2
  by_cases c0 : a = 0
  · refine good_pure hR (I 3 0 1) (K_X10_fault.e X 14 a I L _ ?_) (K_X11_fault.e X 14 a I L _ ?_)
    · rw [if_pos c0]
    · rw [if_pos c0, f1]
  · by_cases c1 : a = 1
    · refine good_pure hR (I 3 0 2) (K_X10_fault.e X 14 a I L _ ?_) (K_X11_fault.e X 14 a I L _ ?_)
      · rw [if_neg c0, if_pos c1]
      · rw [if_neg c0, if_pos c1, f2]
    · refine good_pure hR (-1) (K_X10_fault.e X 14 a I L _ ?_) (K_X11_fault.e X 14 a I L _ ?_)
      · rw [if_neg c0, if_neg c1]
      · rw [if_neg c0, if_neg c1]
theorem m_inn {a : Int32} {k : Nat} (hk : k < 2147483647) (hd : 1 ≤ d) : K_X11_in X d a.toInt64 (0 : Int64) (nI k).toInt64 (I, L, ()) = some (some (aI (bI (inr a (k + 1)))), (I, L, ())) := by
  rw [m_in hd, inL_k (n := k + 1) (by omega) (by rw [Int32.toInt_toInt64, n_toInt (by omega)]; omega)]
theorem g_end (hR : Rel I L) (a : Int32) : Good (K_X10_end X 15 a) (K_X11_end X 15 a) I L := by
  obtain ⟨w, e, im, n, b, t, h, hh⟩ := id hR
  obtain ⟨t1, t2, t3, t4⟩ := h.2.2.2.2.2.1
  cases ha : inr a (n + 1) with
  | false =>
    refine good_pure hR nN (K_X10_end.e X 14 a I L _ ?_) (K_X11_end.e X 14 a I L _ ?_)
    · rw [t2]
      by_cases c0 : a < nI 0
      · simp only [l_0, l_1, l_N, c0, if_true]
      · obtain ⟨k, hk, rfl⟩ := n_ex c0
        rw [inr_n hk (by omega)] at ha
        have : n < k := by have := of_decide_eq_false ha; omega
        simp (disch := omega) only [a_bi_i, a_bv_n, a_bl_l, a_bq_q, l_0, l_1, l_2, l_3, l_4, l_5, l_6, l_7, l_8, l_9, l_10, l_12, l_16, l_20, l_24, l_25, l_31, l_32, l_33, l_40, l_48, l_57, l_60, l_63, l_64, l_78, l_85, l_97, l_99, l_100, l_122, l_255, l_325, l_700, l_999, l_1000, l_1200, l_99999, l_100000, l_1000000, l_2000000000, l_N, n_add, n_mul, n_lt, n_out, n_div, n_dm, n_eq, n_toN, n_inN, n_ltN, n_nltN, n_neN, Nat.not_lt_zero, false_or, or_false, ite_y, ite_n, if_true, if_false, ite_tt, ite_ff, b_0, b_1, eq_self_iff_true, Bool.true_eq_false, Bool.false_eq_true]
    · rw [t3, m_inn (by omega) (by omega), ha]
      simp only [a_bi_i, a_bv_n, a_bl_l, a_bq_q, l_0, l_1, l_2, l_3, l_4, l_5, l_6, l_7, l_8, l_9, l_10, l_12, l_16, l_20, l_24, l_25, l_31, l_32, l_33, l_40, l_48, l_57, l_60, l_63, l_64, l_78, l_85, l_97, l_99, l_100, l_122, l_255, l_325, l_700, l_999, l_1000, l_1200, l_99999, l_100000, l_1000000, l_2000000000, l_N, n_add, n_mul, n_lt, n_out, n_div, n_dm, n_eq, n_toN, n_inN, n_ltN, n_nltN, n_neN, Nat.not_lt_zero, false_or, or_false, ite_y, ite_n, if_true, if_false, ite_tt, ite_ff, b_0, b_1, eq_self_iff_true, Bool.true_eq_false, Bool.false_eq_true]
  | true =>
    obtain ⟨k, hk, rfl⟩ := inr_ex (by omega) ha
    refine ⟨nI k, up3 I 1 0 1 (nI k), L, up3 (up3 I 1 0 1 (nI k)) 40 0 5 (nI k), L, K_X10_end.e X 14 _ I L _ ?_, K_X11_end.e X 14 _ _ L _ ?_, w, e, im, k, b, t, ?_, ?_⟩
    · rw [t2]
      have : ¬ n < k := by omega
      simp (disch := omega) only [a_bi_i, a_bv_n, a_bl_l, a_bq_q, l_0, l_1, l_2, l_3, l_4, l_5, l_6, l_7, l_8, l_9, l_10, l_12, l_16, l_20, l_24, l_25, l_31, l_32, l_33, l_40, l_48, l_57, l_60, l_63, l_64, l_78, l_85, l_97, l_99, l_100, l_122, l_255, l_325, l_700, l_999, l_1000, l_1200, l_99999, l_100000, l_1000000, l_2000000000, l_N, n_add, n_mul, n_lt, n_out, n_div, n_dm, n_eq, n_toN, n_inN, n_ltN, n_nltN, n_neN, Nat.not_lt_zero, false_or, or_false, ite_y, ite_n, if_true, if_false, ite_tt, ite_ff, b_0, b_1, eq_self_iff_true, Bool.true_eq_false, Bool.false_eq_true, this]
    · rw [show (up3 I 1 0 1 (nI k)) 40 = I 40 from u3_f _ _ (by decide), t3, m_inn (by omega) (by omega), ha]
      simp only [a_bi_i, a_bv_n, a_bl_l, a_bq_q, l_0, l_1, l_2, l_3, l_4, l_5, l_6, l_7, l_8, l_9, l_10, l_12, l_16, l_20, l_24, l_25, l_31, l_32, l_33, l_40, l_48, l_57, l_60, l_63, l_64, l_78, l_85, l_97, l_99, l_100, l_122, l_255, l_325, l_700, l_999, l_1000, l_1200, l_99999, l_100000, l_1000000, l_2000000000, l_N, n_add, n_mul, n_lt, n_out, n_div, n_dm, n_eq, n_toN, n_inN, n_ltN, n_nltN, n_neN, Nat.not_lt_zero, false_or, or_false, ite_y, ite_n, if_true, if_false, ite_tt, ite_ff, b_0, b_1, eq_self_iff_true, Bool.true_eq_false, Bool.false_eq_true]
    · refine h.tape (fun f hf h1 h2 h3 => ?_) (fun j hj => ?_) ⟨by omega, ?_, u3_eq _ _ _ _ _, fun j hj => ?_⟩
      · rw [u3_f _ _ (fun z => by subst z; revert hf; decide), u3_f _ _ h1]
      · rw [u3_j _ _ (by omega), u3_f _ _ (by decide)]
      · rw [u3_f _ _ (by decide)]; exact u3_eq _ _ _ _ _
      · rw [u3_f _ _ (by decide), u3_f _ _ (by decide), u3_f _ _ (by decide), u3_f _ _ (by decide)]; exact t4 j (by omega)
    · exact hh.fams (by rw [u3_f _ _ (by decide), u3_f _ _ (by decide)]) (by rw [u3_f _ _ (by decide), u3_f _ _ (by decide)])
theorem c_filled (hS : SC I L t) (hd : 1 ≤ d) : K_X10_filledSlots X d (I, L, ()) = some (some (aI (nI (cnt 4 (fun s => (t s).isSome)))), (I, L, ())) := by
  obtain ⟨g, rfl⟩ : ∃ g, d = g + 1 := ⟨d - 1, by omega⟩
  obtain ⟨-, -, c2⟩ := loop_z (S := Unit) (F := fun k _ => v_X10_filledSlots_4 X g (nI (cnt k (fun s => (t s).isSome))) (nI k) (I, L, ())) (P := fun _ _ => True) 4 () trivial (fun k _ hk _ => ⟨(), trivial, fun s hs => v_X10_filledSlots_4.e X g _ _ I L s (by
    have hs : v_X10_filledSlots_4 X g (nI (cnt (k + 1) (fun s => (t s).isSome))) (nI (k + 1)) (I, L, ()) = some s := hs
    rw [cnt] at hs
    cases ht : t k with
    | none =>
      rw [ht] at hs
      simp (disch := omega) only [a_bi_i, a_bv_n, a_bl_l, a_bq_q, l_0, l_1, l_2, l_3, l_4, l_5, l_6, l_7, l_8, l_9, l_10, l_12, l_16, l_20, l_24, l_25, l_31, l_32, l_33, l_40, l_48, l_57, l_60, l_63, l_64, l_78, l_85, l_97, l_99, l_100, l_122, l_255, l_325, l_700, l_999, l_1000, l_1200, l_99999, l_100000, l_1000000, l_2000000000, l_N, n_add, n_mul, n_lt, n_out, n_div, n_dm, n_eq, n_toN, n_inN, n_ltN, n_nltN, n_neN, Nat.not_lt_zero, false_or, or_false, ite_y, ite_n, if_true, if_false, ite_tt, ite_ff, b_0, b_1, eq_self_iff_true, Bool.true_eq_false, Bool.false_eq_true, hS.no hk ht]
      exact hs
    | some p =>
      obtain ⟨wd, m, g⟩ := p
      rw [ht] at hs
      have n10 : ¬ (1 = 0) := by decide
      simp (disch := omega) only [a_bi_i, a_bv_n, a_bl_l, a_bq_q, l_0, l_1, l_2, l_3, l_4, l_5, l_6, l_7, l_8, l_9, l_10, l_12, l_16, l_20, l_24, l_25, l_31, l_32, l_33, l_40, l_48, l_57, l_60, l_63, l_64, l_78, l_85, l_97, l_99, l_100, l_122, l_255, l_325, l_700, l_999, l_1000, l_1200, l_99999, l_100000, l_1000000, l_2000000000, l_N, n_add, n_mul, n_lt, n_out, n_div, n_dm, n_eq, n_toN, n_inN, n_ltN, n_nltN, n_neN, Nat.not_lt_zero, false_or, or_false, ite_y, ite_n, if_true, if_false, ite_tt, ite_ff, b_0, b_1, eq_self_iff_true, Bool.true_eq_false, Bool.false_eq_true, (hS.yes hk ht).1, n10]
      exact hs)⟩)
  refine K_X10_filledSlots.e X g I L _ (c2 _ (v_X10_filledSlots_4.e X g _ _ I L _ ?_))
  simp (disch := omega) only [a_bi_i, a_bv_n, a_bl_l, a_bq_q, l_0, l_1, l_2, l_3, l_4, l_5, l_6, l_7, l_8, l_9, l_10, l_12, l_16, l_20, l_24, l_25, l_31, l_32, l_33, l_40, l_48, l_57, l_60, l_63, l_64, l_78, l_85, l_97, l_99, l_100, l_122, l_255, l_325, l_700, l_999, l_1000, l_1200, l_99999, l_100000, l_1000000, l_2000000000, l_N, n_add, n_mul, n_lt, n_out, n_div, n_dm, n_eq, n_toN, n_inN, n_ltN, n_nltN, n_neN, Nat.not_lt_zero, false_or, or_false, ite_y, ite_n, if_true, if_false, ite_tt, ite_ff, b_0, b_1, eq_self_iff_true, Bool.true_eq_false, Bool.false_eq_true, Nat.lt_irrefl]
theorem m_filled (hS : SM I L t) (hV : Vt t) : v_X11_count_43 X d (nI 0) (nI 0) (I, L, ()) = some (some (aI (nI (cnt 4 (fun s => (t s).isSome)))), (I, L, ())) := by
  obtain ⟨-, -, c2⟩ := loop_z (S := Unit) (F := fun k _ => v_X11_count_43 X d (nI (cnt k (fun s => (t s).isSome))) (nI k) (I, L, ())) (P := fun _ _ => True) 4 () trivial (fun k _ hk _ => ⟨(), trivial, fun s hs => v_X11_count_43.e X d _ _ I L s (by
    have hs : v_X11_count_43 X d (nI (cnt (k + 1) (fun s => (t s).isSome))) (nI (k + 1)) (I, L, ()) = some s := hs
    rw [cnt] at hs
    cases ht : t k with
    | none =>
      rw [ht] at hs
      simp (disch := omega) only [a_bi_i, a_bv_n, a_bl_l, a_bq_q, l_0, l_1, l_2, l_3, l_4, l_5, l_6, l_7, l_8, l_9, l_10, l_12, l_16, l_20, l_24, l_25, l_31, l_32, l_33, l_40, l_48, l_57, l_60, l_63, l_64, l_78, l_85, l_97, l_99, l_100, l_122, l_255, l_325, l_700, l_999, l_1000, l_1200, l_99999, l_100000, l_1000000, l_2000000000, l_N, n_add, n_mul, n_lt, n_out, n_div, n_dm, n_eq, n_toN, n_inN, n_ltN, n_nltN, n_neN, Nat.not_lt_zero, false_or, or_false, ite_y, ite_n, if_true, if_false, ite_tt, ite_ff, b_0, b_1, eq_self_iff_true, Bool.true_eq_false, Bool.false_eq_true, hS.no hk ht]
      exact hs
    | some p =>
      obtain ⟨wd, m, g⟩ := p
      rw [ht] at hs
      have := (hV k wd m g ht).2
      simp (disch := omega) only [a_bi_i, a_bv_n, a_bl_l, a_bq_q, l_0, l_1, l_2, l_3, l_4, l_5, l_6, l_7, l_8, l_9, l_10, l_12, l_16, l_20, l_24, l_25, l_31, l_32, l_33, l_40, l_48, l_57, l_60, l_63, l_64, l_78, l_85, l_97, l_99, l_100, l_122, l_255, l_325, l_700, l_999, l_1000, l_1200, l_99999, l_100000, l_1000000, l_2000000000, l_N, n_add, n_mul, n_lt, n_out, n_div, n_dm, n_eq, n_toN, n_inN, n_ltN, n_nltN, n_neN, Nat.not_lt_zero, false_or, or_false, ite_y, ite_n, if_true, if_false, ite_tt, ite_ff, b_0, b_1, eq_self_iff_true, Bool.true_eq_false, Bool.false_eq_true, (hS.yes hk ht).1]
      exact hs)⟩)
  refine c2 _ (v_X11_count_43.e X d _ _ I L _ ?_)
  simp (disch := omega) only [a_bi_i, a_bv_n, a_bl_l, a_bq_q, l_0, l_1, l_2, l_3, l_4, l_5, l_6, l_7, l_8, l_9, l_10, l_12, l_16, l_20, l_24, l_25, l_31, l_32, l_33, l_40, l_48, l_57, l_60, l_63, l_64, l_78, l_85, l_97, l_99, l_100, l_122, l_255, l_325, l_700, l_999, l_1000, l_1200, l_99999, l_100000, l_1000000, l_2000000000, l_N, n_add, n_mul, n_lt, n_out, n_div, n_dm, n_eq, n_toN, n_inN, n_ltN, n_nltN, n_neN, Nat.not_lt_zero, false_or, or_false, ite_y, ite_n, if_true, if_false, ite_tt, ite_ff, b_0, b_1, eq_self_iff_true, Bool.true_eq_false, Bool.false_eq_true, Nat.lt_irrefl]
theorem g_count (hR : Rel I L) (a : Int32) : Good (K_X10_count X 15 a) (K_X11_count X 15 a) I L := by
  obtain ⟨w, e, im, n, b, t, h, hh⟩ := id hR
  obtain ⟨t1, t2, t3, t4⟩ := h.2.2.2.2.2.1
  have hC := h.tc
  have hM := h.tm
  have h56 : I 5 0 6 = nI (w 8) := h.1.2.1
  have hS1 := h.2.2.2.2.2.2.2.1
  have hS2 := h.2.2.2.2.2.2.2.2.1
  have hV := h.2.2.2.2.2.2.2.2.2
  have m7 : K_X11_in X 14 a.toInt64 (0 : Int64) (7 : Int64) (I, L, ()) = some (some (aI (bI (inr a 8))), (I, L, ())) := by
    rw [m_in (by omega), inL_k (n := 8) (by decide) rfl]
  by_cases c0 : a < nI 0
  · have ne : ∀ k, k < 100 → ¬ a = nI k := fun k hk z => by subst z; exact absurd ((n_lt (by omega) (by decide)).mp c0) (by omega)
    have hi : inr a 8 = false := by unfold inr; simp [c0]
    refine good_pure hR nN (K_X10_count.e X 14 a I L _ ?_) (K_X11_count.e X 14 a I L _ ?_)
    · simp (disch := omega) only [l_0, l_1, l_2, l_3, l_4, l_5, l_6, l_7, l_8, l_9, l_10, l_12, l_16, l_20, l_24, l_25, l_31, l_32, l_33, l_40, l_48, l_57, l_60, l_63, l_64, l_78, l_85, l_97, l_99, l_100, l_122, l_255, l_325, l_700, l_999, l_1000, l_1200, l_99999, l_100000, l_1000000, l_2000000000, l_N, c0, if_true, ne 8 (by decide), ne 9 (by decide), ne 10 (by decide), if_false]
    · simp (disch := omega) only [l_0, l_1, l_2, l_3, l_4, l_5, l_6, l_7, l_8, l_9, l_10, l_12, l_16, l_20, l_24, l_25, l_31, l_32, l_33, l_40, l_48, l_57, l_60, l_63, l_64, l_78, l_85, l_97, l_99, l_100, l_122, l_255, l_325, l_700, l_999, l_1000, l_1200, l_99999, l_100000, l_1000000, l_2000000000, l_N, ne 8 (by decide), ne 9 (by decide), ne 10 (by decide), if_false, m7, hi, a_bi_i, a_bv_n, a_bl_l, a_bq_q, l_0, l_1, l_2, l_3, l_4, l_5, l_6, l_7, l_8, l_9, l_10, l_12, l_16, l_20, l_24, l_25, l_31, l_32, l_33, l_40, l_48, l_57, l_60, l_63, l_64, l_78, l_85, l_97, l_99, l_100, l_122, l_255, l_325, l_700, l_999, l_1000, l_1200, l_99999, l_100000, l_1000000, l_2000000000, l_N, n_add, n_mul, n_lt, n_out, n_div, n_dm, n_eq, n_toN, n_inN, n_ltN, n_nltN, n_neN, Nat.not_lt_zero, false_or, or_false, ite_y, ite_n, if_true, if_false, ite_tt, ite_ff, b_0, b_1, eq_self_iff_true, Bool.true_eq_false, Bool.false_eq_true]
  · obtain ⟨k, hk, rfl⟩ := n_ex c0
    by_cases c8 : k < 8
    · have n8 : ¬ k = 8 := by omega
      have n9 : ¬ k = 9 := by omega
      have n10 : ¬ k = 10 := by omega
      have hi : inr (nI k) 8 = true := by rw [inr_n hk (by omega)]; simp [c8]
      refine good_pure hR (nI (w k)) (K_X10_count.e X 14 _ I L _ ?_) (K_X11_count.e X 14 _ I L _ ?_)
      · simp (disch := omega) only [a_bi_i, a_bv_n, a_bl_l, a_bq_q, l_0, l_1, l_2, l_3, l_4, l_5, l_6, l_7, l_8, l_9, l_10, l_12, l_16, l_20, l_24, l_25, l_31, l_32, l_33, l_40, l_48, l_57, l_60, l_63, l_64, l_78, l_85, l_97, l_99, l_100, l_122, l_255, l_325, l_700, l_999, l_1000, l_1200, l_99999, l_100000, l_1000000, l_2000000000, l_N, n_add, n_mul, n_lt, n_out, n_div, n_dm, n_eq, n_toN, n_inN, n_ltN, n_nltN, n_neN, Nat.not_lt_zero, false_or, or_false, ite_y, ite_n, if_true, if_false, ite_tt, ite_ff, b_0, b_1, eq_self_iff_true, Bool.true_eq_false, Bool.false_eq_true, hC.1 k c8]
      · simp (disch := omega) only [n8, n9, n10, m7, hi, hM k (show k < 85 by omega), a_bi_i, a_bv_n, a_bl_l, a_bq_q, l_0, l_1, l_2, l_3, l_4, l_5, l_6, l_7, l_8, l_9, l_10, l_12, l_16, l_20, l_24, l_25, l_31, l_32, l_33, l_40, l_48, l_57, l_60, l_63, l_64, l_78, l_85, l_97, l_99, l_100, l_122, l_255, l_325, l_700, l_999, l_1000, l_1200, l_99999, l_100000, l_1000000, l_2000000000, l_N, n_add, n_mul, n_lt, n_out, n_div, n_dm, n_eq, n_toN, n_inN, n_ltN, n_nltN, n_neN, Nat.not_lt_zero, false_or, or_false, ite_y, ite_n, if_true, if_false, ite_tt, ite_ff, b_0, b_1, eq_self_iff_true, Bool.true_eq_false, Bool.false_eq_true]
    · by_cases e8 : k = 8
      · subst e8
        refine good_pure hR (nI n) (K_X10_count.e X 14 _ I L _ ?_) (K_X11_count.e X 14 _ I L _ ?_)
        · simp (disch := omega) only [a_bi_i, a_bv_n, a_bl_l, a_bq_q, l_0, l_1, l_2, l_3, l_4, l_5, l_6, l_7, l_8, l_9, l_10, l_12, l_16, l_20, l_24, l_25, l_31, l_32, l_33, l_40, l_48, l_57, l_60, l_63, l_64, l_78, l_85, l_97, l_99, l_100, l_122, l_255, l_325, l_700, l_999, l_1000, l_1200, l_99999, l_100000, l_1000000, l_2000000000, l_N, n_add, n_mul, n_lt, n_out, n_div, n_dm, n_eq, n_toN, n_inN, n_ltN, n_nltN, n_neN, Nat.not_lt_zero, false_or, or_false, ite_y, ite_n, if_true, if_false, ite_tt, ite_ff, b_0, b_1, eq_self_iff_true, Bool.true_eq_false, Bool.false_eq_true, t2, Nat.lt_irrefl]
        · simp (disch := omega) only [a_bi_i, a_bv_n, a_bl_l, a_bq_q, l_0, l_1, l_2, l_3, l_4, l_5, l_6, l_7, l_8, l_9, l_10, l_12, l_16, l_20, l_24, l_25, l_31, l_32, l_33, l_40, l_48, l_57, l_60, l_63, l_64, l_78, l_85, l_97, l_99, l_100, l_122, l_255, l_325, l_700, l_999, l_1000, l_1200, l_99999, l_100000, l_1000000, l_2000000000, l_N, n_add, n_mul, n_lt, n_out, n_div, n_dm, n_eq, n_toN, n_inN, n_ltN, n_nltN, n_neN, Nat.not_lt_zero, false_or, or_false, ite_y, ite_n, if_true, if_false, ite_tt, ite_ff, b_0, b_1, eq_self_iff_true, Bool.true_eq_false, Bool.false_eq_true, t3]
      · by_cases e9 : k = 9
        · subst e9
          have h89 : ¬ (9 = 8) := by decide
          refine good_pure hR (nI (w 8)) (K_X10_count.e X 14 _ I L _ ?_) (K_X11_count.e X 14 _ I L _ ?_)
          · simp (disch := omega) only [a_bi_i, a_bv_n, a_bl_l, a_bq_q, l_0, l_1, l_2, l_3, l_4, l_5, l_6, l_7, l_8, l_9, l_10, l_12, l_16, l_20, l_24, l_25, l_31, l_32, l_33, l_40, l_48, l_57, l_60, l_63, l_64, l_78, l_85, l_97, l_99, l_100, l_122, l_255, l_325, l_700, l_999, l_1000, l_1200, l_99999, l_100000, l_1000000, l_2000000000, l_N, n_add, n_mul, n_lt, n_out, n_div, n_dm, n_eq, n_toN, n_inN, n_ltN, n_nltN, n_neN, Nat.not_lt_zero, false_or, or_false, ite_y, ite_n, if_true, if_false, ite_tt, ite_ff, b_0, b_1, eq_self_iff_true, Bool.true_eq_false, Bool.false_eq_true, h56, h89]
          · simp (disch := omega) only [a_bi_i, a_bv_n, a_bl_l, a_bq_q, l_0, l_1, l_2, l_3, l_4, l_5, l_6, l_7, l_8, l_9, l_10, l_12, l_16, l_20, l_24, l_25, l_31, l_32, l_33, l_40, l_48, l_57, l_60, l_63, l_64, l_78, l_85, l_97, l_99, l_100, l_122, l_255, l_325, l_700, l_999, l_1000, l_1200, l_99999, l_100000, l_1000000, l_2000000000, l_N, n_add, n_mul, n_lt, n_out, n_div, n_dm, n_eq, n_toN, n_inN, n_ltN, n_nltN, n_neN, Nat.not_lt_zero, false_or, or_false, ite_y, ite_n, if_true, if_false, ite_tt, ite_ff, b_0, b_1, eq_self_iff_true, Bool.true_eq_false, Bool.false_eq_true, hM 8 (by decide), h89]
        · by_cases e10 : k = 10
          · subst e10
            refine good_pure hR (nI (cnt 4 (fun s => (t s).isSome))) (K_X10_count.e X 14 _ I L _ ?_) (K_X11_count.e X 14 _ I L _ ?_)
            · simp (disch := omega) only [a_bi_i, a_bv_n, a_bl_l, a_bq_q, l_0, l_1, l_2, l_3, l_4, l_5, l_6, l_7, l_8, l_9, l_10, l_12, l_16, l_20, l_24, l_25, l_31, l_32, l_33, l_40, l_48, l_57, l_60, l_63, l_64, l_78, l_85, l_97, l_99, l_100, l_122, l_255, l_325, l_700, l_999, l_1000, l_1200, l_99999, l_100000, l_1000000, l_2000000000, l_N, n_add, n_mul, n_lt, n_out, n_div, n_dm, n_eq, n_toN, n_inN, n_ltN, n_nltN, n_neN, Nat.not_lt_zero, false_or, or_false, ite_y, ite_n, if_true, if_false, ite_tt, ite_ff, b_0, b_1, eq_self_iff_true, Bool.true_eq_false, Bool.false_eq_true, e8, e9, c_filled hS1]
            · simp (disch := omega) only [a_bi_i, a_bv_n, a_bl_l, a_bq_q, l_0, l_1, l_2, l_3, l_4, l_5, l_6, l_7, l_8, l_9, l_10, l_12, l_16, l_20, l_24, l_25, l_31, l_32, l_33, l_40, l_48, l_57, l_60, l_63, l_64, l_78, l_85, l_97, l_99, l_100, l_122, l_255, l_325, l_700, l_999, l_1000, l_1200, l_99999, l_100000, l_1000000, l_2000000000, l_N, n_add, n_mul, n_lt, n_out, n_div, n_dm, n_eq, n_toN, n_inN, n_ltN, n_nltN, n_neN, Nat.not_lt_zero, false_or, or_false, ite_y, ite_n, if_true, if_false, ite_tt, ite_ff, b_0, b_1, eq_self_iff_true, Bool.true_eq_false, Bool.false_eq_true, e8, e9, m_filled hS2 hV]
          · have hi : inr (nI k) 8 = false := by rw [inr_n hk (by omega)]; simp; omega
            refine good_pure hR nN (K_X10_count.e X 14 _ I L _ ?_) (K_X11_count.e X 14 _ I L _ ?_)
            · simp (disch := omega) only [a_bi_i, a_bv_n, a_bl_l, a_bq_q, l_0, l_1, l_2, l_3, l_4, l_5, l_6, l_7, l_8, l_9, l_10, l_12, l_16, l_20, l_24, l_25, l_31, l_32, l_33, l_40, l_48, l_57, l_60, l_63, l_64, l_78, l_85, l_97, l_99, l_100, l_122, l_255, l_325, l_700, l_999, l_1000, l_1200, l_99999, l_100000, l_1000000, l_2000000000, l_N, n_add, n_mul, n_lt, n_out, n_div, n_dm, n_eq, n_toN, n_inN, n_ltN, n_nltN, n_neN, Nat.not_lt_zero, false_or, or_false, ite_y, ite_n, if_true, if_false, ite_tt, ite_ff, b_0, b_1, eq_self_iff_true, Bool.true_eq_false, Bool.false_eq_true, e8, e9, e10]
            · simp (disch := omega) only [e8, e9, e10, m7, hi, a_bi_i, a_bv_n, a_bl_l, a_bq_q, l_0, l_1, l_2, l_3, l_4, l_5, l_6, l_7, l_8, l_9, l_10, l_12, l_16, l_20, l_24, l_25, l_31, l_32, l_33, l_40, l_48, l_57, l_60, l_63, l_64, l_78, l_85, l_97, l_99, l_100, l_122, l_255, l_325, l_700, l_999, l_1000, l_1200, l_99999, l_100000, l_1000000, l_2000000000, l_N, n_add, n_mul, n_lt, n_out, n_div, n_dm, n_eq, n_toN, n_inN, n_ltN, n_nltN, n_neN, Nat.not_lt_zero, false_or, or_false, ite_y, ite_n, if_true, if_false, ite_tt, ite_ff, b_0, b_1, eq_self_iff_true, Bool.true_eq_false, Bool.false_eq_true]
end
