/-! set, send, undo: both sides -/
section
variable {X : AX} {d : Nat} {I J : A3 Int32} {L L' : A3 Int64} {w : TW} {e : CE} {im : TI} {n : Nat} {b : Nat → Int8} {t : TS}
theorem c_putCoach {c k q : Nat} {x : Int32} (hk : c * 3 + k < 24) (hd : 1 ≤ d) : K_X9_putCoach X d q (nI c) (nI k) x (I, L, ()) = some (none, (up3 I 7 q (c * 3 + k) x, L, ())) := by
  obtain ⟨g, rfl⟩ : ∃ g, d = g + 1 := ⟨d - 1, by omega⟩
  refine K_X9_putCoach.e X g q _ _ x I L _ ?_
  simp (disch := omega) only [a_bi_i, a_bv_n, a_bl_l, a_bq_q, l_0, l_1, l_2, l_3, l_4, l_5, l_6, l_7, l_8, l_9, l_10, l_12, l_16, l_20, l_24, l_25, l_31, l_32, l_33, l_40, l_48, l_57, l_60, l_63, l_64, l_78, l_85, l_97, l_99, l_100, l_122, l_255, l_325, l_700, l_999, l_1000, l_1200, l_99999, l_100000, l_1000000, l_2000000000, l_N, n_add, n_mul, n_lt, n_out, n_div, n_dm, n_eq, n_toN, n_inN, n_ltN, n_nltN, n_neN, Nat.not_lt_zero, false_or, or_false, ite_y, ite_n, if_true, if_false, ite_tt, ite_ff, b_0, b_1, eq_self_iff_true, Bool.true_eq_false, Bool.false_eq_true]
theorem c_putInspector {c k q : Nat} {x : Int32} (hk : c * 5 + k < 15) (hd : 1 ≤ d) : K_X9_putInspector X d q (nI c) (nI k) x (I, L, ()) = some (none, (up3 I 8 q (c * 5 + k) x, L, ())) := by
  obtain ⟨g, rfl⟩ : ∃ g, d = g + 1 := ⟨d - 1, by omega⟩
  refine K_X9_putInspector.e X g q _ _ x I L _ ?_
  simp (disch := omega) only [a_bi_i, a_bv_n, a_bl_l, a_bq_q, l_0, l_1, l_2, l_3, l_4, l_5, l_6, l_7, l_8, l_9, l_10, l_12, l_16, l_20, l_24, l_25, l_31, l_32, l_33, l_40, l_48, l_57, l_60, l_63, l_64, l_78, l_85, l_97, l_99, l_100, l_122, l_255, l_325, l_700, l_999, l_1000, l_1200, l_99999, l_100000, l_1000000, l_2000000000, l_N, n_add, n_mul, n_lt, n_out, n_div, n_dm, n_eq, n_toN, n_inN, n_ltN, n_nltN, n_neN, Nat.not_lt_zero, false_or, or_false, ite_y, ite_n, if_true, if_false, ite_tt, ite_ff, b_0, b_1, eq_self_iff_true, Bool.true_eq_false, Bool.false_eq_true]
theorem c_putBegin {c x q : Nat} (hc : c < 3) (hx : x < 1000) (hd : 2 ≤ d) : K_X9_putBegin X d q (nI c) (nI x) (I, L, ()) = some (none, (up3 (up3 I 8 q (c * 5) (nI (x / 2))) 8 q (c * 5 + 1) (nI (x % 2)), L, ())) := by
  obtain ⟨g, rfl⟩ : ∃ g, d = g + 1 := ⟨d - 1, by omega⟩
  refine K_X9_putBegin.e X g q _ _ I L _ ?_
  simp (disch := omega) only [a_bi_i, a_bv_n, a_bl_l, a_bq_q, l_0, l_1, l_2, l_3, l_4, l_5, l_6, l_7, l_8, l_9, l_10, l_12, l_16, l_20, l_24, l_25, l_31, l_32, l_33, l_40, l_48, l_57, l_60, l_63, l_64, l_78, l_85, l_97, l_99, l_100, l_122, l_255, l_325, l_700, l_999, l_1000, l_1200, l_99999, l_100000, l_1000000, l_2000000000, l_N, n_add, n_mul, n_lt, n_out, n_div, n_dm, n_eq, n_toN, n_inN, n_ltN, n_nltN, n_neN, Nat.not_lt_zero, false_or, or_false, ite_y, ite_n, if_true, if_false, ite_tt, ite_ff, b_0, b_1, eq_self_iff_true, Bool.true_eq_false, Bool.false_eq_true, c_putInspector, Nat.add_zero]
def mst (k : Nat) : Nat := if k = 0 then 99 else 1
theorem m_inM {k : Nat} {z : Int64} {a : Int32} (hk : k < 1000) (hz : z.toInt = k) (hd : 1 ≤ d) : K_X11_in X d a.toInt64 (0 : Int64) z (I, L, ()) = some (some (aI (bI (inr a (k + 1)))), (I, L, ())) := by
  rw [m_in hd, inL_k (n := k + 1) (by omega) (by rw [hz]; omega)]
theorem inr_le {a : Int32} {k : Nat} (hk : k < 1000) (h : inr a (k + 1) = false) : a < nI 0 ∨ nI k < a := by
  by_cases c : a < nI 0
  · exact Or.inl c
  · obtain ⟨x, hx, rfl⟩ := n_ex c
    rw [inr_n hx (by omega)] at h
    exact Or.inr ((n_lt (by omega) hx).mpr (by have := of_decide_eq_false h; omega))
theorem g_set (hR : Rel I L) (a b' c : Int32) : Good (K_X10_set X 15 a b' c) (K_X11_set X 15 a b' c) I L := by
  obtain ⟨w, e, im, n, b, t, h, hh⟩ := id hR
  have hC := h.tc
  have hM := h.tm
  have v := h.vw
  obtain ⟨⟨w0, w1, -, -, -, w5, w6, -, w8⟩, -, vc, -⟩ := id v
  have h56 : I 5 0 6 = nI (w 8) := h.1.2.1
  cases ha : inr a (w 0) with
  | false =>
    refine good_pure hR (-2) (K_X10_set.e X 14 a b' c I L _ ?_) (K_X11_set.e X 14 a b' c I L _ ?_)
    · simp (disch := omega) only [c_hasCoach hC v, ha, a_bi_i, a_bv_n, a_bl_l, a_bq_q, l_0, l_1, l_2, l_3, l_4, l_5, l_6, l_7, l_8, l_9, l_10, l_12, l_16, l_20, l_24, l_25, l_31, l_32, l_33, l_40, l_48, l_57, l_60, l_63, l_64, l_78, l_85, l_97, l_99, l_100, l_122, l_255, l_325, l_700, l_999, l_1000, l_1200, l_99999, l_100000, l_1000000, l_2000000000, l_N, n_add, n_mul, n_lt, n_out, n_div, n_dm, n_eq, n_toN, n_inN, n_ltN, n_nltN, n_neN, Nat.not_lt_zero, false_or, or_false, ite_y, ite_n, if_true, if_false, ite_tt, ite_ff, b_0, b_1, eq_self_iff_true, Bool.true_eq_false, Bool.false_eq_true]
      split <;> rfl
    · simp (disch := omega) only [m_isCoach hM v, ha, a_bi_i, a_bv_n, a_bl_l, a_bq_q, l_0, l_1, l_2, l_3, l_4, l_5, l_6, l_7, l_8, l_9, l_10, l_12, l_16, l_20, l_24, l_25, l_31, l_32, l_33, l_40, l_48, l_57, l_60, l_63, l_64, l_78, l_85, l_97, l_99, l_100, l_122, l_255, l_325, l_700, l_999, l_1000, l_1200, l_99999, l_100000, l_1000000, l_2000000000, l_N, n_add, n_mul, n_lt, n_out, n_div, n_dm, n_eq, n_toN, n_inN, n_ltN, n_nltN, n_neN, Nat.not_lt_zero, false_or, or_false, ite_y, ite_n, if_true, if_false, ite_tt, ite_ff, b_0, b_1, eq_self_iff_true, Bool.true_eq_false, Bool.false_eq_true]
  | true =>
    obtain ⟨p, hp, rfl⟩ := inr_ex (by omega) ha
    cases hb : inr b' 3 with
    | false =>
      have nb : ¬ b' = nI 0 := fun z => by subst z; exact absurd hb (by decide)
      refine good_pure hR (-2) (K_X10_set.e X 14 _ b' c I L _ ?_) (K_X11_set.e X 14 _ b' c I L _ ?_)
      · simp (disch := omega) only [c_hasCoach hC v, ha, nb, a_bi_i, a_bv_n, a_bl_l, a_bq_q, l_0, l_1, l_2, l_3, l_4, l_5, l_6, l_7, l_8, l_9, l_10, l_12, l_16, l_20, l_24, l_25, l_31, l_32, l_33, l_40, l_48, l_57, l_60, l_63, l_64, l_78, l_85, l_97, l_99, l_100, l_122, l_255, l_325, l_700, l_999, l_1000, l_1200, l_99999, l_100000, l_1000000, l_2000000000, l_N, n_add, n_mul, n_lt, n_out, n_div, n_dm, n_eq, n_toN, n_inN, n_ltN, n_nltN, n_neN, Nat.not_lt_zero, false_or, or_false, ite_y, ite_n, if_true, if_false, ite_tt, ite_ff, b_0, b_1, eq_self_iff_true, Bool.true_eq_false, Bool.false_eq_true]
        rcases inr_no hb with q | q
        · simp only [q, if_true]
        · simp only [q, if_false]; split <;> rfl
      · simp (disch := omega) only [m_isCoach hM v, ha, m_in3, hb, a_bi_i, a_bv_n, a_bl_l, a_bq_q, l_0, l_1, l_2, l_3, l_4, l_5, l_6, l_7, l_8, l_9, l_10, l_12, l_16, l_20, l_24, l_25, l_31, l_32, l_33, l_40, l_48, l_57, l_60, l_63, l_64, l_78, l_85, l_97, l_99, l_100, l_122, l_255, l_325, l_700, l_999, l_1000, l_1200, l_99999, l_100000, l_1000000, l_2000000000, l_N, n_add, n_mul, n_lt, n_out, n_div, n_dm, n_eq, n_toN, n_inN, n_ltN, n_nltN, n_neN, Nat.not_lt_zero, false_or, or_false, ite_y, ite_n, if_true, if_false, ite_tt, ite_ff, b_0, b_1, eq_self_iff_true, Bool.true_eq_false, Bool.false_eq_true]
    | true =>
      obtain ⟨k, hk, rfl⟩ := inr_ex (by omega) hb
      have mk : mst k < 1000 := by unfold mst; split <;> decide
      cases hc : inr c (mst k + 1) with
      | false =>
        refine good_pure hR (-2) (K_X10_set.e X 14 _ _ c I L _ ?_) (K_X11_set.e X 14 _ _ c I L _ ?_)
        · have hcc := inr_le mk hc
          unfold mst at hcc
          simp (disch := omega) only [c_hasCoach hC v, ha, a_bi_i, a_bv_n, a_bl_l, a_bq_q, l_0, l_1, l_2, l_3, l_4, l_5, l_6, l_7, l_8, l_9, l_10, l_12, l_16, l_20, l_24, l_25, l_31, l_32, l_33, l_40, l_48, l_57, l_60, l_63, l_64, l_78, l_85, l_97, l_99, l_100, l_122, l_255, l_325, l_700, l_999, l_1000, l_1200, l_99999, l_100000, l_1000000, l_2000000000, l_N, n_add, n_mul, n_lt, n_out, n_div, n_dm, n_eq, n_toN, n_inN, n_ltN, n_nltN, n_neN, Nat.not_lt_zero, false_or, or_false, ite_y, ite_n, if_true, if_false, ite_tt, ite_ff, b_0, b_1, eq_self_iff_true, Bool.true_eq_false, Bool.false_eq_true]
          by_cases k0 : k = 0
          · rw [if_pos k0] at hcc
            rw [if_pos k0]
            rcases hcc with q | q <;> simp only [q, if_true]
            split <;> rfl
          · rw [if_neg k0] at hcc
            rw [if_neg k0]
            rcases hcc with q | q <;> simp only [q, if_true]
            split <;> rfl
        · unfold mst at hc
          simp (disch := omega) only [m_isCoach hM v, ha, m_in3, hb, a_bi_i, a_bv_n, a_bl_l, a_bq_q, l_0, l_1, l_2, l_3, l_4, l_5, l_6, l_7, l_8, l_9, l_10, l_12, l_16, l_20, l_24, l_25, l_31, l_32, l_33, l_40, l_48, l_57, l_60, l_63, l_64, l_78, l_85, l_97, l_99, l_100, l_122, l_255, l_325, l_700, l_999, l_1000, l_1200, l_99999, l_100000, l_1000000, l_2000000000, l_N, n_add, n_mul, n_lt, n_out, n_div, n_dm, n_eq, n_toN, n_inN, n_ltN, n_nltN, n_neN, Nat.not_lt_zero, false_or, or_false, ite_y, ite_n, if_true, if_false, ite_tt, ite_ff, b_0, b_1, eq_self_iff_true, Bool.true_eq_false, Bool.false_eq_true]
          by_cases k0 : k = 0
          · rw [if_pos k0] at hc
            rw [if_pos k0, m_inM (k := 99) (by decide) rfl (by omega), hc]
            simp only [a_bi_i, a_bv_n, a_bl_l, a_bq_q, l_0, l_1, l_2, l_3, l_4, l_5, l_6, l_7, l_8, l_9, l_10, l_12, l_16, l_20, l_24, l_25, l_31, l_32, l_33, l_40, l_48, l_57, l_60, l_63, l_64, l_78, l_85, l_97, l_99, l_100, l_122, l_255, l_325, l_700, l_999, l_1000, l_1200, l_99999, l_100000, l_1000000, l_2000000000, l_N, n_add, n_mul, n_lt, n_out, n_div, n_dm, n_eq, n_toN, n_inN, n_ltN, n_nltN, n_neN, Nat.not_lt_zero, false_or, or_false, ite_y, ite_n, if_true, if_false, ite_tt, ite_ff, b_0, b_1, eq_self_iff_true, Bool.true_eq_false, Bool.false_eq_true]
          · rw [if_neg k0] at hc
            rw [if_neg k0, m_inM (k := 1) (by decide) rfl (by omega), hc]
            simp only [a_bi_i, a_bv_n, a_bl_l, a_bq_q, l_0, l_1, l_2, l_3, l_4, l_5, l_6, l_7, l_8, l_9, l_10, l_12, l_16, l_20, l_24, l_25, l_31, l_32, l_33, l_40, l_48, l_57, l_60, l_63, l_64, l_78, l_85, l_97, l_99, l_100, l_122, l_255, l_325, l_700, l_999, l_1000, l_1200, l_99999, l_100000, l_1000000, l_2000000000, l_N, n_add, n_mul, n_lt, n_out, n_div, n_dm, n_eq, n_toN, n_inN, n_ltN, n_nltN, n_neN, Nat.not_lt_zero, false_or, or_false, ite_y, ite_n, if_true, if_false, ite_tt, ite_ff, b_0, b_1, eq_self_iff_true, Bool.true_eq_false, Bool.false_eq_true]
      | true =>
        obtain ⟨z, hz, rfl⟩ := inr_ex (by omega) hc
        have m99 : ∀ (M : A3 Int32) (L2 : A3 Int64), k = 0 → K_X11_in X 14 (nI z).toInt64 (0 : Int64) (99 : Int64) (M, L2, ()) = some (some (aI (bI true)), (M, L2, ())) := fun M L2 k0 => by
          unfold mst at hc; rw [if_pos k0] at hc
          rw [m_inM (k := 99) (by decide) rfl (by omega), hc]
        have m1 : ∀ (M : A3 Int32) (L2 : A3 Int64), ¬ k = 0 → K_X11_in X 14 (nI z).toInt64 (0 : Int64) (1 : Int64) (M, L2, ()) = some (some (aI (bI true)), (M, L2, ())) := fun M L2 k0 => by
          unfold mst at hc; rw [if_neg k0] at hc
          rw [m_inM (k := 1) (by decide) rfl (by omega), hc]
        by_cases h60 : w 8 = 60
        · refine good_pure hR (-5) (K_X10_set.e X 14 _ _ _ I L _ ?_) (K_X11_set.e X 14 _ _ _ I L _ ?_)
          · have n60 : ¬ 60 < 60 := by decide
            by_cases k0 : k = 0
            · have z1 : ¬ 99 < z := by unfold mst at hz; rw [if_pos k0] at hz; omega
              simp (disch := omega) only [c_hasCoach hC v, ha, h56, h60, n60, z1, a_bi_i, a_bv_n, a_bl_l, a_bq_q, l_0, l_1, l_2, l_3, l_4, l_5, l_6, l_7, l_8, l_9, l_10, l_12, l_16, l_20, l_24, l_25, l_31, l_32, l_33, l_40, l_48, l_57, l_60, l_63, l_64, l_78, l_85, l_97, l_99, l_100, l_122, l_255, l_325, l_700, l_999, l_1000, l_1200, l_99999, l_100000, l_1000000, l_2000000000, l_N, n_add, n_mul, n_lt, n_out, n_div, n_dm, n_eq, n_toN, n_inN, n_ltN, n_nltN, n_neN, Nat.not_lt_zero, false_or, or_false, ite_y, ite_n, if_true, if_false, ite_tt, ite_ff, b_0, b_1, eq_self_iff_true, Bool.true_eq_false, Bool.false_eq_true]
            · have z1 : ¬ 1 < z := by unfold mst at hz; rw [if_neg k0] at hz; omega
              simp (disch := omega) only [c_hasCoach hC v, ha, h56, h60, n60, k0, z1, a_bi_i, a_bv_n, a_bl_l, a_bq_q, l_0, l_1, l_2, l_3, l_4, l_5, l_6, l_7, l_8, l_9, l_10, l_12, l_16, l_20, l_24, l_25, l_31, l_32, l_33, l_40, l_48, l_57, l_60, l_63, l_64, l_78, l_85, l_97, l_99, l_100, l_122, l_255, l_325, l_700, l_999, l_1000, l_1200, l_99999, l_100000, l_1000000, l_2000000000, l_N, n_add, n_mul, n_lt, n_out, n_div, n_dm, n_eq, n_toN, n_inN, n_ltN, n_nltN, n_neN, Nat.not_lt_zero, false_or, or_false, ite_y, ite_n, if_true, if_false, ite_tt, ite_ff, b_0, b_1, eq_self_iff_true, Bool.true_eq_false, Bool.false_eq_true]
          · have e8 := hM 8 (by decide)
            by_cases k0 : k = 0
            · simp (disch := omega) only [m_isCoach hM v, ha, m_in3, hb, m99 _ _ k0, e8, h60, a_bi_i, a_bv_n, a_bl_l, a_bq_q, l_0, l_1, l_2, l_3, l_4, l_5, l_6, l_7, l_8, l_9, l_10, l_12, l_16, l_20, l_24, l_25, l_31, l_32, l_33, l_40, l_48, l_57, l_60, l_63, l_64, l_78, l_85, l_97, l_99, l_100, l_122, l_255, l_325, l_700, l_999, l_1000, l_1200, l_99999, l_100000, l_1000000, l_2000000000, l_N, n_add, n_mul, n_lt, n_out, n_div, n_dm, n_eq, n_toN, n_inN, n_ltN, n_nltN, n_neN, Nat.not_lt_zero, false_or, or_false, ite_y, ite_n, if_true, if_false, ite_tt, ite_ff, b_0, b_1, eq_self_iff_true, Bool.true_eq_false, Bool.false_eq_true]
            · simp (disch := omega) only [m_isCoach hM v, ha, m_in3, hb, k0, m1 _ _ k0, e8, h60, a_bi_i, a_bv_n, a_bl_l, a_bq_q, l_0, l_1, l_2, l_3, l_4, l_5, l_6, l_7, l_8, l_9, l_10, l_12, l_16, l_20, l_24, l_25, l_31, l_32, l_33, l_40, l_48, l_57, l_60, l_63, l_64, l_78, l_85, l_97, l_99, l_100, l_122, l_255, l_325, l_700, l_999, l_1000, l_1200, l_99999, l_100000, l_1000000, l_2000000000, l_N, n_add, n_mul, n_lt, n_out, n_div, n_dm, n_eq, n_toN, n_inN, n_ltN, n_nltN, n_neN, Nat.not_lt_zero, false_or, or_false, ite_y, ite_n, if_true, if_false, ite_tt, ite_ff, b_0, b_1, eq_self_iff_true, Bool.true_eq_false, Bool.false_eq_true]
        · -- the change is made
          have l60 : w 8 < 60 := by omega
          generalize hx : (k, p, w (9 + (p * 3 + k))) = x
          have hx1 : x.1 = k := by rw [← hx]
          have hx2 : x.2.1 = p := by rw [← hx]
          have hx3 : x.2.2 = w (9 + (p * 3 + k)) := by rw [← hx]
          have hold : w (9 + (p * 3 + k)) ≤ (if k = 0 then 99 else 1) := by
            have hv := vc p (by omega)
            rcases (show k = 0 ∨ k = 1 ∨ k = 2 by omega) with rfl | rfl | rfl
            · rw [if_pos rfl, show 9 + (p * 3 + 0) = 9 + 3 * p by omega]; exact hv.1
            · rw [if_neg (by decide), show 9 + (p * 3 + 1) = 10 + 3 * p by omega]; exact hv.2.1
            · rw [if_neg (by decide), show 9 + (p * 3 + 2) = 11 + 3 * p by omega]; exact hv.2.2
          have hE : Ve (wup w 8 (w 8 + 1)) (epush e (w 8) x) := h.2.2.2.1.push (Or.inr (by rw [hx1, hx2, hx3]; exact ⟨by omega, hp, hold⟩))
          have hT : TQ (rmS I (w 8) (nI k) (nI p) (nI (w (9 + (p * 3 + k))))) 0 (wup w 8 (w 8 + 1)) (epush e (w 8) x) := by
            have := rmS_q (x := x) h.1
            rw [hx1, hx2, hx3] at this
            exact this
          have hT2 := hT.upC (j := p * 3 + k) (z := z) (by omega)
          generalize hI1 : up3 (up3 (rmS I (w 8) (nI k) (nI p) (nI (w (9 + (p * 3 + k))))) 7 0 (p * 3 + k) (nI z)) 28 0 7 (nI 0) = I1
          have f1 : FrW I I1 := by rw [← hI1]; exact ((FrW.refl.rm).up (Or.inl (by decide))).up (Or.inr (Or.inl rfl))
          have e41 : I1 41 = I 41 := by rw [← hI1, u3_f _ _ (by decide), u3_f _ _ (by decide)]; unfold rmS; rw [u3_f _ _ (by decide), u3_f _ _ (by decide), u3_f _ _ (by decide), u3_f _ _ (by decide)]
          have tM1 : TM I1 w := hM.fam (by rw [e41])
          have hM1 : MRo (I1 41 0) w e := by rw [e41]; exact h.2.1
          have hM2 : MRo ((kcS I1 (w 8) (nI (9 + 3 * p + k)) (I1 41 0 (9 + 3 * p + k)) nN (nI 0)) 41 0) (wup w 8 (w 8 + 1)) (epush e (w 8) x) := kcS_q hM1 (by
            rw [hx1, hx2, hx3, if_neg (by omega)]
            refine ⟨rfl, ?_, rfl⟩
            rw [tM1 _ (by omega), show 9 + 3 * p + k = 9 + (p * 3 + k) by omega])
          have hM3 := hM2.up (c := 9 + 3 * p + k) (z := z) (by omega) (by omega)
          rw [show (9 + 3 * p + k) = 9 + (p * 3 + k) by omega] at hM3
          refine ⟨nI (w (9 + (p * 3 + k))), I1, L, up3 (kcS I1 (w 8) (nI (9 + (p * 3 + k))) (I1 41 0 (9 + (p * 3 + k))) nN (nI 0)) 41 0 (9 + (p * 3 + k)) (nI z), L, K_X10_set.e X 14 _ _ _ I L _ ?_, K_X11_set.e X 14 _ _ _ I1 L _ ?_, wup (wup w 8 (w 8 + 1)) (9 + (p * 3 + k)) z, epush e (w 8) x, im, n, b, t, h.frw ((f1.kc).up (Or.inr (Or.inr rfl))) ?_ hM3 ?_ (hE.up (by omega)), Or.inl ?_⟩
          · by_cases k0 : k = 0
            · have z1 : ¬ 99 < z := by unfold mst at hz; rw [if_pos k0] at hz; omega
              simp (disch := omega) only [c_hasCoach hC v, ha, h56, z1, c_ofCoach hC v, c_remember h56, c_putCoach, c_forget, hI1, a_bi_i, a_bv_n, a_bl_l, a_bq_q, l_0, l_1, l_2, l_3, l_4, l_5, l_6, l_7, l_8, l_9, l_10, l_12, l_16, l_20, l_24, l_25, l_31, l_32, l_33, l_40, l_48, l_57, l_60, l_63, l_64, l_78, l_85, l_97, l_99, l_100, l_122, l_255, l_325, l_700, l_999, l_1000, l_1200, l_99999, l_100000, l_1000000, l_2000000000, l_N, n_add, n_mul, n_lt, n_out, n_div, n_dm, n_eq, n_toN, n_inN, n_ltN, n_nltN, n_neN, Nat.not_lt_zero, false_or, or_false, ite_y, ite_n, if_true, if_false, ite_tt, ite_ff, b_0, b_1, eq_self_iff_true, Bool.true_eq_false, Bool.false_eq_true]
            · have z1 : ¬ 1 < z := by unfold mst at hz; rw [if_neg k0] at hz; omega
              simp (disch := omega) only [c_hasCoach hC v, ha, h56, k0, z1, c_ofCoach hC v, c_remember h56, c_putCoach, c_forget, hI1, a_bi_i, a_bv_n, a_bl_l, a_bq_q, l_0, l_1, l_2, l_3, l_4, l_5, l_6, l_7, l_8, l_9, l_10, l_12, l_16, l_20, l_24, l_25, l_31, l_32, l_33, l_40, l_48, l_57, l_60, l_63, l_64, l_78, l_85, l_97, l_99, l_100, l_122, l_255, l_325, l_700, l_999, l_1000, l_1200, l_99999, l_100000, l_1000000, l_2000000000, l_N, n_add, n_mul, n_lt, n_out, n_div, n_dm, n_eq, n_toN, n_inN, n_ltN, n_nltN, n_neN, Nat.not_lt_zero, false_or, or_false, ite_y, ite_n, if_true, if_false, ite_tt, ite_ff, b_0, b_1, eq_self_iff_true, Bool.true_eq_false, Bool.false_eq_true]
          · have e8 : I1 41 0 8 = nI (w 8) := tM1 8 (by decide)
            have kk : ∀ L2 : A3 Int64, K_X11_keepChange X 14 (nI (9 + 3 * p + k)) nN (I1, L2, ()) = some (none, (kcS I1 (w 8) (nI (9 + (p * 3 + k))) (I1 41 0 (9 + (p * 3 + k))) nN (nI 0), L2, ())) := fun L2 => by
              rw [m_keep1 e8 l60 (by omega) (by omega), show (9 + 3 * p + k) = 9 + (p * 3 + k) by omega]
            by_cases k0 : k = 0
            · simp (disch := omega) only [m_isCoach tM1 v, ha, m_in3, hb, m99 _ _ k0, e8, h60, m_ofCoach tM1 v, kk, a_bi_i, a_bv_n, a_bl_l, a_bq_q, l_0, l_1, l_2, l_3, l_4, l_5, l_6, l_7, l_8, l_9, l_10, l_12, l_16, l_20, l_24, l_25, l_31, l_32, l_33, l_40, l_48, l_57, l_60, l_63, l_64, l_78, l_85, l_97, l_99, l_100, l_122, l_255, l_325, l_700, l_999, l_1000, l_1200, l_99999, l_100000, l_1000000, l_2000000000, l_N, n_add, n_mul, n_lt, n_out, n_div, n_dm, n_eq, n_toN, n_inN, n_ltN, n_nltN, n_neN, Nat.not_lt_zero, false_or, or_false, ite_y, ite_n, if_true, if_false, ite_tt, ite_ff, b_0, b_1, eq_self_iff_true, Bool.true_eq_false, Bool.false_eq_true]
              rw [show (9 + 3 * p + k) = 9 + (p * 3 + k) by omega]
            · simp (disch := omega) only [m_isCoach tM1 v, ha, m_in3, hb, k0, m1 _ _ k0, e8, h60, m_ofCoach tM1 v, kk, a_bi_i, a_bv_n, a_bl_l, a_bq_q, l_0, l_1, l_2, l_3, l_4, l_5, l_6, l_7, l_8, l_9, l_10, l_12, l_16, l_20, l_24, l_25, l_31, l_32, l_33, l_40, l_48, l_57, l_60, l_63, l_64, l_78, l_85, l_97, l_99, l_100, l_122, l_255, l_325, l_700, l_999, l_1000, l_1200, l_99999, l_100000, l_1000000, l_2000000000, l_N, n_add, n_mul, n_lt, n_out, n_div, n_dm, n_eq, n_toN, n_inN, n_ltN, n_nltN, n_neN, Nat.not_lt_zero, false_or, or_false, ite_y, ite_n, if_true, if_false, ite_tt, ite_ff, b_0, b_1, eq_self_iff_true, Bool.true_eq_false, Bool.false_eq_true]
              rw [show (9 + 3 * p + k) = 9 + (p * 3 + k) by omega]
          · refine hT2.fams (fun f q1 q2 => ?_)
            unfold kcS
            rw [u3_f _ _ (by omega), u3_f _ _ (by omega), u3_f _ _ (by omega), u3_f _ _ (by omega), u3_f _ _ (by omega), u3_f _ _ (by omega), ← hI1, u3_f _ _ (by omega)]
          · refine (v.up8 (by omega)).upC (by omega) ?_
            have : (p * 3 + k) % 3 = k := by omega
            rw [this]
            unfold mst at hz
            split at hz <;> split <;> omega
          · unfold kcS
            rw [u3_f _ _ (by decide), u3_f _ _ (by decide), u3_f _ _ (by decide), u3_f _ _ (by decide), u3_f _ _ (by decide), u3_f _ _ (by decide), ← hI1, u3_eq]
theorem g_send (hR : Rel I L) (a b' : Int32) : Good (K_X10_send X 15 a b') (K_X11_send X 15 a b') I L := by
  obtain ⟨w, e, im, n, b, t, h, hh⟩ := id hR
  have hC := h.tc
  have hM := h.tm
  have v := h.vw
  obtain ⟨⟨w0, w1, -, -, -, w5, w6, -, w8⟩, -, vc, vi, -⟩ := id v
  have h56 : I 5 0 6 = nI (w 8) := h.1.2.1
  cases ha : inr a (w 5) with
  | false =>
    refine good_pure hR (-2) (K_X10_send.e X 14 a b' I L _ ?_) (K_X11_send.e X 14 a b' I L _ ?_)
    · simp (disch := omega) only [c_hasInspector hC v, ha, a_bi_i, a_bv_n, a_bl_l, a_bq_q, l_0, l_1, l_2, l_3, l_4, l_5, l_6, l_7, l_8, l_9, l_10, l_12, l_16, l_20, l_24, l_25, l_31, l_32, l_33, l_40, l_48, l_57, l_60, l_63, l_64, l_78, l_85, l_97, l_99, l_100, l_122, l_255, l_325, l_700, l_999, l_1000, l_1200, l_99999, l_100000, l_1000000, l_2000000000, l_N, n_add, n_mul, n_lt, n_out, n_div, n_dm, n_eq, n_toN, n_inN, n_ltN, n_nltN, n_neN, Nat.not_lt_zero, false_or, or_false, ite_y, ite_n, if_true, if_false, ite_tt, ite_ff, b_0, b_1, eq_self_iff_true, Bool.true_eq_false, Bool.false_eq_true]
    · simp (disch := omega) only [m_isInspector hM v, ha, a_bi_i, a_bv_n, a_bl_l, a_bq_q, l_0, l_1, l_2, l_3, l_4, l_5, l_6, l_7, l_8, l_9, l_10, l_12, l_16, l_20, l_24, l_25, l_31, l_32, l_33, l_40, l_48, l_57, l_60, l_63, l_64, l_78, l_85, l_97, l_99, l_100, l_122, l_255, l_325, l_700, l_999, l_1000, l_1200, l_99999, l_100000, l_1000000, l_2000000000, l_N, n_add, n_mul, n_lt, n_out, n_div, n_dm, n_eq, n_toN, n_inN, n_ltN, n_nltN, n_neN, Nat.not_lt_zero, false_or, or_false, ite_y, ite_n, if_true, if_false, ite_tt, ite_ff, b_0, b_1, eq_self_iff_true, Bool.true_eq_false, Bool.false_eq_true]
  | true =>
    obtain ⟨p, hp, rfl⟩ := inr_ex (by omega) ha
    cases hb : inr b' (2 * w 0) with
    | false =>
      refine good_pure hR (-2) (K_X10_send.e X 14 _ b' I L _ ?_) (K_X11_send.e X 14 _ b' I L _ ?_)
      · simp (disch := omega) only [c_hasInspector hC v, ha, c_hasBegin hC v, hb, a_bi_i, a_bv_n, a_bl_l, a_bq_q, l_0, l_1, l_2, l_3, l_4, l_5, l_6, l_7, l_8, l_9, l_10, l_12, l_16, l_20, l_24, l_25, l_31, l_32, l_33, l_40, l_48, l_57, l_60, l_63, l_64, l_78, l_85, l_97, l_99, l_100, l_122, l_255, l_325, l_700, l_999, l_1000, l_1200, l_99999, l_100000, l_1000000, l_2000000000, l_N, n_add, n_mul, n_lt, n_out, n_div, n_dm, n_eq, n_toN, n_inN, n_ltN, n_nltN, n_neN, Nat.not_lt_zero, false_or, or_false, ite_y, ite_n, if_true, if_false, ite_tt, ite_ff, b_0, b_1, eq_self_iff_true, Bool.true_eq_false, Bool.false_eq_true]
      · simp (disch := omega) only [m_isInspector hM v, ha, m_isBegin hM v, hb, a_bi_i, a_bv_n, a_bl_l, a_bq_q, l_0, l_1, l_2, l_3, l_4, l_5, l_6, l_7, l_8, l_9, l_10, l_12, l_16, l_20, l_24, l_25, l_31, l_32, l_33, l_40, l_48, l_57, l_60, l_63, l_64, l_78, l_85, l_97, l_99, l_100, l_122, l_255, l_325, l_700, l_999, l_1000, l_1200, l_99999, l_100000, l_1000000, l_2000000000, l_N, n_add, n_mul, n_lt, n_out, n_div, n_dm, n_eq, n_toN, n_inN, n_ltN, n_nltN, n_neN, Nat.not_lt_zero, false_or, or_false, ite_y, ite_n, if_true, if_false, ite_tt, ite_ff, b_0, b_1, eq_self_iff_true, Bool.true_eq_false, Bool.false_eq_true]
    | true =>
      obtain ⟨z, hz, rfl⟩ := inr_ex (by omega) hb
      by_cases h60 : w 8 = 60
      · have n60 : ¬ 60 < 60 := by decide
        have e8 := hM 8 (by decide)
        refine good_pure hR (-5) (K_X10_send.e X 14 _ _ I L _ ?_) (K_X11_send.e X 14 _ _ I L _ ?_)
        · simp (disch := omega) only [c_hasInspector hC v, ha, c_hasBegin hC v, hb, h56, h60, n60, a_bi_i, a_bv_n, a_bl_l, a_bq_q, l_0, l_1, l_2, l_3, l_4, l_5, l_6, l_7, l_8, l_9, l_10, l_12, l_16, l_20, l_24, l_25, l_31, l_32, l_33, l_40, l_48, l_57, l_60, l_63, l_64, l_78, l_85, l_97, l_99, l_100, l_122, l_255, l_325, l_700, l_999, l_1000, l_1200, l_99999, l_100000, l_1000000, l_2000000000, l_N, n_add, n_mul, n_lt, n_out, n_div, n_dm, n_eq, n_toN, n_inN, n_ltN, n_nltN, n_neN, Nat.not_lt_zero, false_or, or_false, ite_y, ite_n, if_true, if_false, ite_tt, ite_ff, b_0, b_1, eq_self_iff_true, Bool.true_eq_false, Bool.false_eq_true]
        · simp (disch := omega) only [m_isInspector hM v, ha, m_isBegin hM v, hb, e8, h60, a_bi_i, a_bv_n, a_bl_l, a_bq_q, l_0, l_1, l_2, l_3, l_4, l_5, l_6, l_7, l_8, l_9, l_10, l_12, l_16, l_20, l_24, l_25, l_31, l_32, l_33, l_40, l_48, l_57, l_60, l_63, l_64, l_78, l_85, l_97, l_99, l_100, l_122, l_255, l_325, l_700, l_999, l_1000, l_1200, l_99999, l_100000, l_1000000, l_2000000000, l_N, n_add, n_mul, n_lt, n_out, n_div, n_dm, n_eq, n_toN, n_inN, n_ltN, n_nltN, n_neN, Nat.not_lt_zero, false_or, or_false, ite_y, ite_n, if_true, if_false, ite_tt, ite_ff, b_0, b_1, eq_self_iff_true, Bool.true_eq_false, Bool.false_eq_true]
      · have l60 : w 8 < 60 := by omega
        have hvi := vi p hp
        have hbg : 2 * w (33 + 5 * p) + w (34 + 5 * p) < 2 * w 0 := by omega
        generalize hx : (3, p, 2 * w (33 + 5 * p) + w (34 + 5 * p)) = x
        have hx1 : x.1 = 3 := by rw [← hx]
        have hx2 : x.2.1 = p := by rw [← hx]
        have hx3 : x.2.2 = 2 * w (33 + 5 * p) + w (34 + 5 * p) := by rw [← hx]
        have hE : Ve (wup w 8 (w 8 + 1)) (epush e (w 8) x) := h.2.2.2.1.push (Or.inl (by rw [hx1, hx2, hx3]; exact ⟨rfl, hp, hbg⟩))
        have hT : TQ (rmS I (w 8) (nI 3) (nI p) (nI (2 * w (33 + 5 * p) + w (34 + 5 * p)))) 0 (wup w 8 (w 8 + 1)) (epush e (w 8) x) := by
          have := rmS_q (x := x) h.1
          rw [hx1, hx2, hx3] at this
          exact this
        have hT2 := (hT.upI (j := p * 5) (z := z / 2) (by omega)).upI (j := p * 5 + 1) (z := z % 2) (by omega)
        generalize hI1 : up3 (up3 (up3 (rmS I (w 8) (nI 3) (nI p) (nI (2 * w (33 + 5 * p) + w (34 + 5 * p)))) 8 0 (p * 5) (nI (z / 2))) 8 0 (p * 5 + 1) (nI (z % 2))) 28 0 7 (nI 0) = I1
        have f1 : FrW I I1 := by rw [← hI1]; exact (((FrW.refl.rm).up (Or.inl (by decide))).up (Or.inl (by decide))).up (Or.inr (Or.inl rfl))
        have e41 : I1 41 = I 41 := by rw [← hI1, u3_f _ _ (by decide), u3_f _ _ (by decide), u3_f _ _ (by decide)]; unfold rmS; rw [u3_f _ _ (by decide), u3_f _ _ (by decide), u3_f _ _ (by decide), u3_f _ _ (by decide)]
        have tM1 : TM I1 w := hM.fam (by rw [e41])
        have hM1 : MRo (I1 41 0) w e := by rw [e41]; exact h.2.1
        have hM2 : MRo ((kcS I1 (w 8) (nI (33 + 5 * p)) (I1 41 0 (33 + 5 * p)) (nI (34 + 5 * p)) (I1 41 0 (34 + 5 * p))) 41 0) (wup w 8 (w 8 + 1)) (epush e (w 8) x) := kcS_q hM1 (by
          rw [hx1, hx2, hx3, if_pos rfl]
          refine ⟨rfl, ?_, rfl, ?_⟩
          · rw [tM1 _ (by omega)]; congr 1; omega
          · rw [tM1 _ (by omega)]; congr 1; omega)
        have hM3 := (hM2.up (c := 33 + p * 5) (z := z / 2) (by omega) (by omega)).up (c := 33 + (p * 5 + 1)) (z := z % 2) (by omega) (by omega)
        refine ⟨nI (2 * w (33 + 5 * p) + w (34 + 5 * p)), I1, L, up3 (up3 (kcS I1 (w 8) (nI (33 + 5 * p)) (I1 41 0 (33 + 5 * p)) (nI (34 + 5 * p)) (I1 41 0 (34 + 5 * p))) 41 0 (33 + p * 5) (nI (z / 2))) 41 0 (33 + (p * 5 + 1)) (nI (z % 2)), L, K_X10_send.e X 14 _ _ I L _ ?_, K_X11_send.e X 14 _ _ I1 L _ ?_, wup (wup (wup w 8 (w 8 + 1)) (33 + p * 5) (z / 2)) (33 + (p * 5 + 1)) (z % 2), epush e (w 8) x, im, n, b, t, h.frw (((f1.kc).up (Or.inr (Or.inr rfl))).up (Or.inr (Or.inr rfl))) ?_ hM3 ?_ ((hE.up (by omega)).up (by omega)), Or.inl ?_⟩
        · simp (disch := omega) only [c_hasInspector hC v, ha, c_hasBegin hC v, hb, h56, c_beginOf hC v, c_remember h56, c_putBegin, c_forget, hI1, a_bi_i, a_bv_n, a_bl_l, a_bq_q, l_0, l_1, l_2, l_3, l_4, l_5, l_6, l_7, l_8, l_9, l_10, l_12, l_16, l_20, l_24, l_25, l_31, l_32, l_33, l_40, l_48, l_57, l_60, l_63, l_64, l_78, l_85, l_97, l_99, l_100, l_122, l_255, l_325, l_700, l_999, l_1000, l_1200, l_99999, l_100000, l_1000000, l_2000000000, l_N, n_add, n_mul, n_lt, n_out, n_div, n_dm, n_eq, n_toN, n_inN, n_ltN, n_nltN, n_neN, Nat.not_lt_zero, false_or, or_false, ite_y, ite_n, if_true, if_false, ite_tt, ite_ff, b_0, b_1, eq_self_iff_true, Bool.true_eq_false, Bool.false_eq_true]
        · have e8 : I1 41 0 8 = nI (w 8) := tM1 8 (by decide)
          have kk : ∀ L2 : A3 Int64, K_X11_keepChange X 14 (nI (33 + 5 * p)) (nI (34 + 5 * p)) (I1, L2, ()) = some (none, (kcS I1 (w 8) (nI (33 + 5 * p)) (I1 41 0 (33 + 5 * p)) (nI (34 + 5 * p)) (I1 41 0 (34 + 5 * p)), L2, ())) := fun L2 => m_keep2 e8 l60 (by omega) (by omega) (by omega)
          have a0 : 33 + 5 * p + 0 = 33 + 5 * p := rfl
          have a1 : 33 + 5 * p + 1 = 34 + 5 * p := by omega
          simp (disch := omega) only [m_isInspector tM1 v, ha, m_isBegin tM1 v, hb, e8, h60, m_beginOf tM1 v, a0, a1, kk, a_bi_i, a_bv_n, a_bl_l, a_bq_q, l_0, l_1, l_2, l_3, l_4, l_5, l_6, l_7, l_8, l_9, l_10, l_12, l_16, l_20, l_24, l_25, l_31, l_32, l_33, l_40, l_48, l_57, l_60, l_63, l_64, l_78, l_85, l_97, l_99, l_100, l_122, l_255, l_325, l_700, l_999, l_1000, l_1200, l_99999, l_100000, l_1000000, l_2000000000, l_N, n_add, n_mul, n_lt, n_out, n_div, n_dm, n_eq, n_toN, n_inN, n_ltN, n_nltN, n_neN, Nat.not_lt_zero, false_or, or_false, ite_y, ite_n, if_true, if_false, ite_tt, ite_ff, b_0, b_1, eq_self_iff_true, Bool.true_eq_false, Bool.false_eq_true]
          rw [show 33 + 5 * p = 33 + p * 5 by omega, show 34 + 5 * p = 33 + (p * 5 + 1) by omega]
        · refine hT2.fams (fun f q1 q2 => ?_)
          unfold kcS
          rw [u3_f _ _ (by omega), u3_f _ _ (by omega), u3_f _ _ (by omega), u3_f _ _ (by omega), u3_f _ _ (by omega), u3_f _ _ (by omega), u3_f _ _ (by omega), ← hI1, u3_f _ _ (by omega)]
        · have v1 := (v.up8 (m := w 8 + 1) (by omega)).upI (i := p) (k := 0) (z := z / 2) hp (Or.inl ⟨rfl, by rw [wup_ne _ _ (by decide)]; omega⟩)
          exact v1.upI (i := p) (k := 1) (z := z % 2) (by rw [wup_ne _ _ (by omega), wup_ne _ _ (by decide)]; exact hp) (Or.inr ⟨rfl, by omega⟩)
        · unfold kcS
          rw [u3_f _ _ (by decide), u3_f _ _ (by decide), u3_f _ _ (by decide), u3_f _ _ (by decide), u3_f _ _ (by decide), u3_f _ _ (by decide), u3_f _ _ (by decide), ← hI1, u3_eq]
theorem g_undo (hR : Rel I L) : Good (K_X10_undo X 15) (K_X11_undo X 15) I L := by
  obtain ⟨w, e, im, n, b, t, h, hh⟩ := id hR
  have hC := h.tc
  have hM := h.tm
  have v := h.vw
  obtain ⟨⟨w0, w1, -, -, -, w5, w6, -, w8⟩, -, vc, vi, -⟩ := id v
  have h56 : I 5 0 6 = nI (w 8) := h.1.2.1
  have e8 := hM 8 (by decide)
  by_cases h7 : 0 < w 7
  · by_cases h0 : 0 < w 8
    · have n0 : ¬ w 8 = 0 := by omega
      obtain ⟨m, hm⟩ : ∃ m, w 8 = m + 1 := ⟨w 8 - 1, by omega⟩
      have hs : nI (w 8) - nI 1 = nI m := by rw [n_sub (by omega)]; congr 1; omega
      have cc := h.1.2.2 m (by omega)
      have ve := h.2.2.2.1 m (by omega)
      have mm := h.2.1.2 m (by omega)
      generalize hI0 : up3 I 5 0 6 (nI m) = I0
      have hT : TQ I0 0 (wup w 8 m) e := by rw [← hI0]; exact h.1.dec (by omega)
      have e56 : I0 5 0 6 = nI m := by rw [← hI0]; exact u3_eq _ _ _ _ _
      have e11 : I0 11 = I 11 := by rw [← hI0]; exact u3_f _ _ (by decide)
      have f0 : FrW I I0 := by rw [← hI0]; exact FrW.refl.up (Or.inl (by decide))
      have hE : Ve (wup w 8 m) e := h.2.2.2.1.dec (by omega)
      have v8 : Vw (wup w 8 m) := v.up8 (by omega)
      -- what is left to the class, to the reference
      have fin : ∀ (I1 : A3 Int32) (w' : TW), K_X9_takeBack X 14 0 (I, L, ()) = some (none, (I1, L, ())) → FrW I I1 → TQ I1 0 w' e → I1 41 = I 41 → Vw w' → Ve w' e → w' 8 = m → (∀ (K : A3 Int32), K 41 = I 41 → ∃ K', K_X11_undo X 15 (K, L, ()) = some (some (aI (nI m)), (K', L, ())) ∧ (∀ f, f ≠ 41 → K' f = K f) ∧ (∀ q, 0 < q → K' 41 q = K 41 q) ∧ MRo (K' 41 0) w' e) → Good (K_X10_undo X 15) (K_X11_undo X 15) I L := by
        intro I1 w' k1 k2 k3 k41 k4 k5 k6 k7
        obtain ⟨K', p1, p2, p3, p4⟩ := k7 (up3 I1 28 0 7 (nI 0)) (by rw [u3_f _ _ (by decide)]; exact k41)
        have e6 : I1 5 0 6 = nI m := by rw [k3.2.1, k6]
        refine ⟨nI m, up3 I1 28 0 7 (nI 0), L, K', L, K_X10_undo.e X 14 I L _ ?_, p1, w', e, im, n, b, t, h.frw (fun f q q1 q2 q3 => ?_) ?_ p4 k4 k5, Or.inl ?_⟩
        · have e6' : up3 I1 28 0 7 (nI 0) 5 0 6 = nI m := by rw [u3_f _ _ (by decide)]; exact e6
          simp (disch := omega) only [c_stands hC v, decide_eq_true h7, h56, k1, c_forget, e6', a_bi_i, a_bv_n, a_bl_l, a_bq_q, l_0, l_1, l_2, l_3, l_4, l_5, l_6, l_7, l_8, l_9, l_10, l_12, l_16, l_20, l_24, l_25, l_31, l_32, l_33, l_40, l_48, l_57, l_60, l_63, l_64, l_78, l_85, l_97, l_99, l_100, l_122, l_255, l_325, l_700, l_999, l_1000, l_1200, l_99999, l_100000, l_1000000, l_2000000000, l_N, n_add, n_mul, n_lt, n_out, n_div, n_dm, n_eq, n_toN, n_inN, n_ltN, n_nltN, n_neN, Nat.not_lt_zero, false_or, or_false, ite_y, ite_n, if_true, if_false, ite_tt, ite_ff, b_0, b_1, eq_self_iff_true, Bool.true_eq_false, Bool.false_eq_true]
        · rw [p2 f q3, u3_f _ _ q2]; exact k2 f q q1 q2 q3
        · refine k3.fams (fun f q1 q2 => ?_)
          rw [p2 f (by omega), u3_f _ _ (by omega)]
        · rw [p2 28 (by decide)]; exact u3_eq _ _ _ _ _
      have m3 : ∀ {x}, m * 3 + x = m * 3 + x := rfl
      rcases ve with ⟨v1, v2, v3⟩ | ⟨v1, v2, v3⟩
      · -- an inspector sent
        rw [v1] at cc
        rw [if_pos v1] at mm
        obtain ⟨c1, c2, c3⟩ := cc
        obtain ⟨m1, m2, m3', m4⟩ := mm
        have hT2 := (hT.upI (j := (e m).2.1 * 5) (z := (e m).2.2 / 2) (by omega)).upI (j := (e m).2.1 * 5 + 1) (z := (e m).2.2 % 2) (by omega)
        refine fin (up3 (up3 I0 8 0 ((e m).2.1 * 5) (nI ((e m).2.2 / 2))) 8 0 ((e m).2.1 * 5 + 1) (nI ((e m).2.2 % 2))) (wup (wup (wup w 8 m) (33 + (e m).2.1 * 5) ((e m).2.2 / 2)) (33 + ((e m).2.1 * 5 + 1)) ((e m).2.2 % 2)) (K_X9_takeBack.e X 13 0 I L _ ?_) ((f0.up (Or.inl (by decide))).up (Or.inl (by decide))) hT2 ?_ ?_ ((hE.up (by omega)).up (by omega)) ?_ (fun K hK => ?_)
        · rw [h56, l_1, hs, hI0, e56, e11]
          simp (disch := omega) only [c1, c2, c3, c_putBegin, a_bi_i, a_bv_n, a_bl_l, a_bq_q, l_0, l_1, l_2, l_3, l_4, l_5, l_6, l_7, l_8, l_9, l_10, l_12, l_16, l_20, l_24, l_25, l_31, l_32, l_33, l_40, l_48, l_57, l_60, l_63, l_64, l_78, l_85, l_97, l_99, l_100, l_122, l_255, l_325, l_700, l_999, l_1000, l_1200, l_99999, l_100000, l_1000000, l_2000000000, l_N, n_add, n_mul, n_lt, n_out, n_div, n_dm, n_eq, n_toN, n_inN, n_ltN, n_nltN, n_neN, Nat.not_lt_zero, false_or, or_false, ite_y, ite_n, if_true, if_false, ite_tt, ite_ff, b_0, b_1, eq_self_iff_true, Bool.true_eq_false, Bool.false_eq_true]
        · rw [u3_f _ _ (by decide), u3_f _ _ (by decide), ← hI0, u3_f _ _ (by decide)]
        · have v1 := v8.upI (i := (e m).2.1) (k := 0) (z := (e m).2.2 / 2) v2 (Or.inl ⟨rfl, by rw [wup_ne _ _ (by decide)]; omega⟩)
          exact v1.upI (i := (e m).2.1) (k := 1) (z := (e m).2.2 % 2) (by rw [wup_ne _ _ (by omega), wup_ne _ _ (by decide)]; exact v2) (Or.inr ⟨rfl, by omega⟩)
        · rw [wup_ne _ _ (by omega), wup_ne _ _ (by omega), wup_eq]
        · have kM : MRo (K 41 0) w e := by rw [hK]; exact h.2.1
          have tK : TM K w := kM.1
          generalize hK0 : up3 K 41 0 8 (nI m) = K0
          have kM0 : MRo (K0 41 0) (wup w 8 m) e := by rw [← hK0]; exact kM.dec (by omega)
          have r8 : K0 41 0 8 = nI m := by rw [← hK0]; exact u3_eq _ _ _ _ _
          have rr : ∀ j, 9 ≤ j → K0 41 0 j = I 41 0 j := fun j hj => by rw [← hK0, u3_j _ _ (by omega), hK]
          generalize hK1 : up3 K0 41 0 (33 + (e m).2.1 * 5) (nI ((e m).2.2 / 2)) = K1
          have kM1 : MRo (K1 41 0) (wup (wup w 8 m) (33 + (e m).2.1 * 5) ((e m).2.2 / 2)) e := by rw [← hK1]; exact kM0.up (by omega) (by omega)
          have r1 : ∀ j, 85 ≤ j → K1 41 0 j = I 41 0 j := fun j hj => by rw [← hK1, u3_j _ _ (by omega)]; exact rr j (by omega)
          have kM2 := kM1.up (c := 33 + ((e m).2.1 * 5 + 1)) (z := (e m).2.2 % 2) (by omega) (by omega)
          refine ⟨up3 K1 41 0 (33 + ((e m).2.1 * 5 + 1)) (nI ((e m).2.2 % 2)), K_X11_undo.e X 14 K L _ ?_, fun f hf => ?_, fun q hq => ?_, kM2⟩
          · have k8 : K 41 0 8 = nI (w 8) := tK 8 (by decide)
            simp (disch := omega) only [m_isTrain tK v, decide_eq_true h7, k8, n0, hs, hK0, a_bi_i, a_bv_n, a_bl_l, a_bq_q, l_0, l_1, l_2, l_3, l_4, l_5, l_6, l_7, l_8, l_9, l_10, l_12, l_16, l_20, l_24, l_25, l_31, l_32, l_33, l_40, l_48, l_57, l_60, l_63, l_64, l_78, l_85, l_97, l_99, l_100, l_122, l_255, l_325, l_700, l_999, l_1000, l_1200, l_99999, l_100000, l_1000000, l_2000000000, l_N, n_add, n_mul, n_lt, n_out, n_div, n_dm, n_eq, n_toN, n_inN, n_ltN, n_nltN, n_neN, Nat.not_lt_zero, false_or, or_false, ite_y, ite_n, if_true, if_false, ite_tt, ite_ff, b_0, b_1, eq_self_iff_true, Bool.true_eq_false, Bool.false_eq_true]
            refine v_X11_undo_34.e X 14 K0 L _ ?_
            rw [r8]
            have s1 : K0 41 0 (85 + 4 * m) = nI (33 + (e m).2.1 * 5) := by rw [rr _ (by omega), m1]; congr 1; omega
            have s2 : K0 41 0 (85 + 4 * m + 1) = nI ((e m).2.2 / 2) := by rw [rr _ (by omega), m2]
            simp (disch := omega) only [s1, s2, hK1, a_bi_i, a_bv_n, a_bl_l, a_bq_q, l_0, l_1, l_2, l_3, l_4, l_5, l_6, l_7, l_8, l_9, l_10, l_12, l_16, l_20, l_24, l_25, l_31, l_32, l_33, l_40, l_48, l_57, l_60, l_63, l_64, l_78, l_85, l_97, l_99, l_100, l_122, l_255, l_325, l_700, l_999, l_1000, l_1200, l_99999, l_100000, l_1000000, l_2000000000, l_N, n_add, n_mul, n_lt, n_out, n_div, n_dm, n_eq, n_toN, n_inN, n_ltN, n_nltN, n_neN, Nat.not_lt_zero, false_or, or_false, ite_y, ite_n, if_true, if_false, ite_tt, ite_ff, b_0, b_1, eq_self_iff_true, Bool.true_eq_false, Bool.false_eq_true]
            refine v_X11_undo_66.e X 14 _ K1 L _ ?_
            have s3 : K1 41 0 (85 + 4 * m + 2) = nI (33 + ((e m).2.1 * 5 + 1)) := by rw [r1 _ (by omega), m3']; congr 1; omega
            have s4 : K1 41 0 (85 + 4 * m + 3) = nI ((e m).2.2 % 2) := by rw [r1 _ (by omega), m4]
            simp (disch := omega) only [s3, s4, a_bi_i, a_bv_n, a_bl_l, a_bq_q, l_0, l_1, l_2, l_3, l_4, l_5, l_6, l_7, l_8, l_9, l_10, l_12, l_16, l_20, l_24, l_25, l_31, l_32, l_33, l_40, l_48, l_57, l_60, l_63, l_64, l_78, l_85, l_97, l_99, l_100, l_122, l_255, l_325, l_700, l_999, l_1000, l_1200, l_99999, l_100000, l_1000000, l_2000000000, l_N, n_add, n_mul, n_lt, n_out, n_div, n_dm, n_eq, n_toN, n_inN, n_ltN, n_nltN, n_neN, Nat.not_lt_zero, false_or, or_false, ite_y, ite_n, if_true, if_false, ite_tt, ite_ff, b_0, b_1, eq_self_iff_true, Bool.true_eq_false, Bool.false_eq_true]
            refine v_X11_undo_99.e X 14 _ L _ ?_
            rw [u3_j _ _ (by omega), ← hK1, u3_j _ _ (by omega), r8]
          · rw [u3_f _ _ hf, ← hK1, u3_f _ _ hf, ← hK0, u3_f _ _ hf]
          · rw [u3_i _ _ (by omega), ← hK1, u3_i _ _ (by omega), ← hK0, u3_i _ _ (by omega)]
      · -- a coach set
        rw [if_neg (by omega)] at mm
        obtain ⟨c1, c2, c3⟩ := cc
        obtain ⟨m1, m2, m3'⟩ := mm
        have o99 : (e m).2.2 ≤ 99 := by split at v3 <;> omega
        have hT2 := hT.upC (j := (e m).2.1 * 3 + (e m).1) (z := (e m).2.2) (by omega)
        refine fin (up3 I0 7 0 ((e m).2.1 * 3 + (e m).1) (nI (e m).2.2)) (wup (wup w 8 m) (9 + ((e m).2.1 * 3 + (e m).1)) (e m).2.2) (K_X9_takeBack.e X 13 0 I L _ ?_) (f0.up (Or.inl (by decide))) hT2 ?_ ?_ (hE.up (by omega)) ?_ (fun K hK => ?_)
        · rw [h56, l_1, hs, hI0, e56, e11]
          have k3 : ¬ (e m).1 = 3 := by omega
          simp (disch := omega) only [c1, c2, c3, k3, c_putCoach, a_bi_i, a_bv_n, a_bl_l, a_bq_q, l_0, l_1, l_2, l_3, l_4, l_5, l_6, l_7, l_8, l_9, l_10, l_12, l_16, l_20, l_24, l_25, l_31, l_32, l_33, l_40, l_48, l_57, l_60, l_63, l_64, l_78, l_85, l_97, l_99, l_100, l_122, l_255, l_325, l_700, l_999, l_1000, l_1200, l_99999, l_100000, l_1000000, l_2000000000, l_N, n_add, n_mul, n_lt, n_out, n_div, n_dm, n_eq, n_toN, n_inN, n_ltN, n_nltN, n_neN, Nat.not_lt_zero, false_or, or_false, ite_y, ite_n, if_true, if_false, ite_tt, ite_ff, b_0, b_1, eq_self_iff_true, Bool.true_eq_false, Bool.false_eq_true]
        · rw [u3_f _ _ (by decide), ← hI0, u3_f _ _ (by decide)]
        · refine v8.upC (by omega) ?_
          rw [show ((e m).2.1 * 3 + (e m).1) % 3 = (e m).1 by omega]
          exact v3
        · rw [wup_ne _ _ (by omega), wup_eq]
        · have kM : MRo (K 41 0) w e := by rw [hK]; exact h.2.1
          have tK : TM K w := kM.1
          generalize hK0 : up3 K 41 0 8 (nI m) = K0
          have kM0 : MRo (K0 41 0) (wup w 8 m) e := by rw [← hK0]; exact kM.dec (by omega)
          have r8 : K0 41 0 8 = nI m := by rw [← hK0]; exact u3_eq _ _ _ _ _
          have rr : ∀ j, 9 ≤ j → K0 41 0 j = I 41 0 j := fun j hj => by rw [← hK0, u3_j _ _ (by omega), hK]
          generalize hK1 : up3 K0 41 0 (9 + ((e m).2.1 * 3 + (e m).1)) (nI (e m).2.2) = K1
          have kM1 : MRo (K1 41 0) (wup (wup w 8 m) (9 + ((e m).2.1 * 3 + (e m).1)) (e m).2.2) e := by rw [← hK1]; exact kM0.up (by omega) (by omega)
          have r1 : ∀ j, 85 ≤ j → K1 41 0 j = I 41 0 j := fun j hj => by rw [← hK1, u3_j _ _ (by omega)]; exact rr j (by omega)
          refine ⟨K1, K_X11_undo.e X 14 K L _ ?_, fun f hf => ?_, fun q hq => ?_, kM1⟩
          · have k8 : K 41 0 8 = nI (w 8) := tK 8 (by decide)
            simp (disch := omega) only [m_isTrain tK v, decide_eq_true h7, k8, n0, hs, hK0, a_bi_i, a_bv_n, a_bl_l, a_bq_q, l_0, l_1, l_2, l_3, l_4, l_5, l_6, l_7, l_8, l_9, l_10, l_12, l_16, l_20, l_24, l_25, l_31, l_32, l_33, l_40, l_48, l_57, l_60, l_63, l_64, l_78, l_85, l_97, l_99, l_100, l_122, l_255, l_325, l_700, l_999, l_1000, l_1200, l_99999, l_100000, l_1000000, l_2000000000, l_N, n_add, n_mul, n_lt, n_out, n_div, n_dm, n_eq, n_toN, n_inN, n_ltN, n_nltN, n_neN, Nat.not_lt_zero, false_or, or_false, ite_y, ite_n, if_true, if_false, ite_tt, ite_ff, b_0, b_1, eq_self_iff_true, Bool.true_eq_false, Bool.false_eq_true]
            refine v_X11_undo_34.e X 14 K0 L _ ?_
            rw [r8]
            have s1 : K0 41 0 (85 + 4 * m) = nI (9 + ((e m).2.1 * 3 + (e m).1)) := by rw [rr _ (by omega), m1]; congr 1; omega
            have s2 : K0 41 0 (85 + 4 * m + 1) = nI (e m).2.2 := by rw [rr _ (by omega), m2]
            simp (disch := omega) only [s1, s2, hK1, a_bi_i, a_bv_n, a_bl_l, a_bq_q, l_0, l_1, l_2, l_3, l_4, l_5, l_6, l_7, l_8, l_9, l_10, l_12, l_16, l_20, l_24, l_25, l_31, l_32, l_33, l_40, l_48, l_57, l_60, l_63, l_64, l_78, l_85, l_97, l_99, l_100, l_122, l_255, l_325, l_700, l_999, l_1000, l_1200, l_99999, l_100000, l_1000000, l_2000000000, l_N, n_add, n_mul, n_lt, n_out, n_div, n_dm, n_eq, n_toN, n_inN, n_ltN, n_nltN, n_neN, Nat.not_lt_zero, false_or, or_false, ite_y, ite_n, if_true, if_false, ite_tt, ite_ff, b_0, b_1, eq_self_iff_true, Bool.true_eq_false, Bool.false_eq_true]
            refine v_X11_undo_66.e X 14 _ K1 L _ ?_
            have s3 : K1 41 0 (85 + 4 * m + 2) = nN := by rw [r1 _ (by omega), m3']
            simp (disch := omega) only [s3, a_bi_i, a_bv_n, a_bl_l, a_bq_q, l_0, l_1, l_2, l_3, l_4, l_5, l_6, l_7, l_8, l_9, l_10, l_12, l_16, l_20, l_24, l_25, l_31, l_32, l_33, l_40, l_48, l_57, l_60, l_63, l_64, l_78, l_85, l_97, l_99, l_100, l_122, l_255, l_325, l_700, l_999, l_1000, l_1200, l_99999, l_100000, l_1000000, l_2000000000, l_N, n_add, n_mul, n_lt, n_out, n_div, n_dm, n_eq, n_toN, n_inN, n_ltN, n_nltN, n_neN, Nat.not_lt_zero, false_or, or_false, ite_y, ite_n, if_true, if_false, ite_tt, ite_ff, b_0, b_1, eq_self_iff_true, Bool.true_eq_false, Bool.false_eq_true]
            refine v_X11_undo_99.e X 14 _ L _ ?_
            rw [← hK1, u3_j _ _ (by omega), r8]
          · rw [← hK1, u3_f _ _ hf, ← hK0, u3_f _ _ hf]
          · rw [← hK1, u3_i _ _ (by omega), ← hK0, u3_i _ _ (by omega)]
    · have z0 : w 8 = 0 := by omega
      refine good_pure hR (-5) (K_X10_undo.e X 14 I L _ ?_) (K_X11_undo.e X 14 I L _ ?_)
      · simp (disch := omega) only [c_stands hC v, decide_eq_true h7, h56, h0, a_bi_i, a_bv_n, a_bl_l, a_bq_q, l_0, l_1, l_2, l_3, l_4, l_5, l_6, l_7, l_8, l_9, l_10, l_12, l_16, l_20, l_24, l_25, l_31, l_32, l_33, l_40, l_48, l_57, l_60, l_63, l_64, l_78, l_85, l_97, l_99, l_100, l_122, l_255, l_325, l_700, l_999, l_1000, l_1200, l_99999, l_100000, l_1000000, l_2000000000, l_N, n_add, n_mul, n_lt, n_out, n_div, n_dm, n_eq, n_toN, n_inN, n_ltN, n_nltN, n_neN, Nat.not_lt_zero, false_or, or_false, ite_y, ite_n, if_true, if_false, ite_tt, ite_ff, b_0, b_1, eq_self_iff_true, Bool.true_eq_false, Bool.false_eq_true]
      · simp (disch := omega) only [m_isTrain hM v, decide_eq_true h7, e8, z0, a_bi_i, a_bv_n, a_bl_l, a_bq_q, l_0, l_1, l_2, l_3, l_4, l_5, l_6, l_7, l_8, l_9, l_10, l_12, l_16, l_20, l_24, l_25, l_31, l_32, l_33, l_40, l_48, l_57, l_60, l_63, l_64, l_78, l_85, l_97, l_99, l_100, l_122, l_255, l_325, l_700, l_999, l_1000, l_1200, l_99999, l_100000, l_1000000, l_2000000000, l_N, n_add, n_mul, n_lt, n_out, n_div, n_dm, n_eq, n_toN, n_inN, n_ltN, n_nltN, n_neN, Nat.not_lt_zero, false_or, or_false, ite_y, ite_n, if_true, if_false, ite_tt, ite_ff, b_0, b_1, eq_self_iff_true, Bool.true_eq_false, Bool.false_eq_true]
  · refine good_pure hR (-2) (K_X10_undo.e X 14 I L _ ?_) (K_X11_undo.e X 14 I L _ ?_)
    · simp (disch := omega) only [c_stands hC v, decide_eq_false h7, a_bi_i, a_bv_n, a_bl_l, a_bq_q, l_0, l_1, l_2, l_3, l_4, l_5, l_6, l_7, l_8, l_9, l_10, l_12, l_16, l_20, l_24, l_25, l_31, l_32, l_33, l_40, l_48, l_57, l_60, l_63, l_64, l_78, l_85, l_97, l_99, l_100, l_122, l_255, l_325, l_700, l_999, l_1000, l_1200, l_99999, l_100000, l_1000000, l_2000000000, l_N, n_add, n_mul, n_lt, n_out, n_div, n_dm, n_eq, n_toN, n_inN, n_ltN, n_nltN, n_neN, Nat.not_lt_zero, false_or, or_false, ite_y, ite_n, if_true, if_false, ite_tt, ite_ff, b_0, b_1, eq_self_iff_true, Bool.true_eq_false, Bool.false_eq_true]
    · simp (disch := omega) only [m_isTrain hM v, decide_eq_false h7, a_bi_i, a_bv_n, a_bl_l, a_bq_q, l_0, l_1, l_2, l_3, l_4, l_5, l_6, l_7, l_8, l_9, l_10, l_12, l_16, l_20, l_24, l_25, l_31, l_32, l_33, l_40, l_48, l_57, l_60, l_63, l_64, l_78, l_85, l_97, l_99, l_100, l_122, l_255, l_325, l_700, l_999, l_1000, l_1200, l_99999, l_100000, l_1000000, l_2000000000, l_N, n_add, n_mul, n_lt, n_out, n_div, n_dm, n_eq, n_toN, n_inN, n_ltN, n_nltN, n_neN, Nat.not_lt_zero, false_or, or_false, ite_y, ite_n, if_true, if_false, ite_tt, ite_ff, b_0, b_1, eq_self_iff_true, Bool.true_eq_false, Bool.false_eq_true]
end
