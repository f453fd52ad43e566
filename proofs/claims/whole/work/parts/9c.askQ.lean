/-! ask, found, asks: both sides -/
section
variable {X : AX} {d : Nat} {I J : A3 Int32} {L : A3 Int64} {w : TW}
def dgB (w : TW) (r : Nat) : Bool := decide (w (52 + 5 * r) = 0)
theorem c_dodger (h : TC I w) (v : Vw w) (hd : 3 ≤ d) : ∃ x, K_X10_dodgerBits X d (I, L, ()) = some (some (aI x), (I, L, ())) ∧ ∀ c, bt x c = (decide (c < w 6) && dgB w c) := by
  obtain ⟨e, rfl⟩ : ∃ e, d = e + 1 := ⟨d - 1, by omega⟩
  obtain ⟨⟨-, -, -, -, -, -, w6, -⟩, -, -, -, vr, -⟩ := id v
  obtain ⟨x, c1, c2⟩ := loop_z (S := Int32) (F := fun k x => v_X10_dodgerBits_4 X e x (nI k) (I, L, ())) (P := fun k x => ∀ c, bt x c = (decide (c < k) && dgB w c)) (w 6) (nI 0) (fun c => by rw [bt_0]; simp) (fun k x hk hP => by
    have q1 := (vr k hk).2.2.2.2
    by_cases ht : w (52 + 5 * k) = 1
    · refine ⟨x, fun c => ?_, fun s hs => v_X10_dodgerBits_4.e X e _ _ I L s ?_⟩
      · rw [hP c]
        by_cases e : c = k
        · subst e; unfold dgB; simp [ht]
        · congr 1; rw [decide_eq_decide]; omega
      · simp (disch := omega) only [a_bi_i, a_bv_n, a_bl_l, a_bq_q, l_0, l_1, l_2, l_3, l_4, l_5, l_6, l_7, l_8, l_9, l_10, l_12, l_16, l_20, l_24, l_25, l_31, l_32, l_33, l_40, l_48, l_57, l_60, l_63, l_64, l_78, l_85, l_97, l_99, l_100, l_122, l_255, l_325, l_700, l_999, l_1000, l_1200, l_99999, l_100000, l_1000000, l_2000000000, l_N, n_add, n_mul, n_lt, n_out, n_div, n_dm, n_eq, n_toN, n_inN, n_ltN, n_nltN, n_neN, Nat.not_lt_zero, false_or, or_false, ite_y, ite_n, if_true, if_false, ite_tt, ite_ff, b_0, b_1, eq_self_iff_true, Bool.true_eq_false, Bool.false_eq_true, c_riders h v, c_hasTicket h v, decide_eq_true ht]
        exact hs
    · refine ⟨x ||| (nI 1 <<< (nI k &&& nI 31)), fun c => ?_, fun s hs => v_X10_dodgerBits_4.e X e _ _ I L s ?_⟩
      · rw [bt_or, bt_one (by omega), hP c]
        by_cases e : c = k
        · subst e; unfold dgB; rw [decide_eq_true (show w (52 + 5 * c) = 0 by omega)]; simp
        · rw [decide_eq_false e, Bool.or_false]; congr 1; rw [decide_eq_decide]; omega
      · simp (disch := omega) only [a_bi_i, a_bv_n, a_bl_l, a_bq_q, l_0, l_1, l_2, l_3, l_4, l_5, l_6, l_7, l_8, l_9, l_10, l_12, l_16, l_20, l_24, l_25, l_31, l_32, l_33, l_40, l_48, l_57, l_60, l_63, l_64, l_78, l_85, l_97, l_99, l_100, l_122, l_255, l_325, l_700, l_999, l_1000, l_1200, l_99999, l_100000, l_1000000, l_2000000000, l_N, n_add, n_mul, n_lt, n_out, n_div, n_dm, n_eq, n_toN, n_inN, n_ltN, n_nltN, n_neN, Nat.not_lt_zero, false_or, or_false, ite_y, ite_n, if_true, if_false, ite_tt, ite_ff, b_0, b_1, eq_self_iff_true, Bool.true_eq_false, Bool.false_eq_true, c_riders h v, c_hasTicket h v, decide_eq_false ht]
        exact hs)
  refine ⟨x, K_X10_dodgerBits.e X e I L _ (c2 _ (v_X10_dodgerBits_4.e X e _ _ I L _ ?_)), c1⟩
  simp (disch := omega) only [a_bi_i, a_bv_n, a_bl_l, a_bq_q, l_0, l_1, l_2, l_3, l_4, l_5, l_6, l_7, l_8, l_9, l_10, l_12, l_16, l_20, l_24, l_25, l_31, l_32, l_33, l_40, l_48, l_57, l_60, l_63, l_64, l_78, l_85, l_97, l_99, l_100, l_122, l_255, l_325, l_700, l_999, l_1000, l_1200, l_99999, l_100000, l_1000000, l_2000000000, l_N, n_add, n_mul, n_lt, n_out, n_div, n_dm, n_eq, n_toN, n_inN, n_ltN, n_nltN, n_neN, Nat.not_lt_zero, false_or, or_false, ite_y, ite_n, if_true, if_false, ite_tt, ite_ff, b_0, b_1, eq_self_iff_true, Bool.true_eq_false, Bool.false_eq_true, c_riders h v, Nat.lt_irrefl]
theorem m_foundIn (h : TM I w) (v : Vw w) {x : Int32} (hd : 2 ≤ d) : K_X11_foundIn X d x (I, L, ()) = some (some (aI (nI (cnt (w 6) (fun r => bt x r && dgB w r)))), (I, L, ())) := by
  obtain ⟨e, rfl⟩ : ∃ e, d = e + 1 := ⟨d - 1, by omega⟩
  obtain ⟨⟨-, -, -, -, -, -, w6, -⟩, -, -, -, vr, -⟩ := id v
  obtain ⟨-, -, c2⟩ := loop_z (S := Unit) (F := fun k _ => v_X11_foundIn_4 X e x (nI (cnt k (fun r => bt x r && dgB w r))) (nI k) (I, L, ())) (P := fun _ _ => True) (w 6) () trivial (fun k _ hk _ => ⟨(), trivial, fun s hs => v_X11_foundIn_4.e X e _ _ _ I L s (by
    have q1 := (vr k hk).2.2.2.2
    have hs : v_X11_foundIn_4 X e x (nI (cnt (k + 1) (fun r => bt x r && dgB w r))) (nI (k + 1)) (I, L, ()) = some s := hs
    rw [cnt] at hs
    rw [h 6 (by decide)]
    simp (disch := omega) only [a_bi_i, a_bv_n, a_bl_l, a_bq_q, l_0, l_1, l_2, l_3, l_4, l_5, l_6, l_7, l_8, l_9, l_10, l_12, l_16, l_20, l_24, l_25, l_31, l_32, l_33, l_40, l_48, l_57, l_60, l_63, l_64, l_78, l_85, l_97, l_99, l_100, l_122, l_255, l_325, l_700, l_999, l_1000, l_1200, l_99999, l_100000, l_1000000, l_2000000000, l_N, n_add, n_mul, n_lt, n_out, n_div, n_dm, n_eq, n_toN, n_inN, n_ltN, n_nltN, n_neN, Nat.not_lt_zero, false_or, or_false, ite_y, ite_n, if_true, if_false, ite_tt, ite_ff, b_0, b_1, eq_self_iff_true, Bool.true_eq_false, Bool.false_eq_true, m_bit]
    cases hx : bt x k with
    | false => rw [hx] at hs; simp only [Bool.false_and, Bool.false_eq_true, if_false] at hs ⊢; exact hs
    | true =>
      rw [hx] at hs
      simp only [Bool.true_and, if_true] at hs ⊢
      simp (disch := omega) only [a_bi_i, a_bv_n, a_bl_l, a_bq_q, l_0, l_1, l_2, l_3, l_4, l_5, l_6, l_7, l_8, l_9, l_10, l_12, l_16, l_20, l_24, l_25, l_31, l_32, l_33, l_40, l_48, l_57, l_60, l_63, l_64, l_78, l_85, l_97, l_99, l_100, l_122, l_255, l_325, l_700, l_999, l_1000, l_1200, l_99999, l_100000, l_1000000, l_2000000000, l_N, n_add, n_mul, n_lt, n_out, n_div, n_dm, n_eq, n_toN, n_inN, n_ltN, n_nltN, n_neN, Nat.not_lt_zero, false_or, or_false, ite_y, ite_n, if_true, if_false, ite_tt, ite_ff, b_0, b_1, eq_self_iff_true, Bool.true_eq_false, Bool.false_eq_true, m_or4 h v]
      unfold dgB at hs
      by_cases ht : w (52 + 5 * k) = 0
      · simp only [ht, decide_true, if_true] at hs ⊢; exact hs
      · simp only [ht, decide_false, Bool.false_eq_true, if_false] at hs ⊢; exact hs)⟩)
  refine K_X11_foundIn.e X e _ I L _ (c2 _ (v_X11_foundIn_4.e X e _ _ _ I L _ ?_))
  rw [h 6 (by decide)]
  simp (disch := omega) only [a_bi_i, a_bv_n, a_bl_l, a_bq_q, l_0, l_1, l_2, l_3, l_4, l_5, l_6, l_7, l_8, l_9, l_10, l_12, l_16, l_20, l_24, l_25, l_31, l_32, l_33, l_40, l_48, l_57, l_60, l_63, l_64, l_78, l_85, l_97, l_99, l_100, l_122, l_255, l_325, l_700, l_999, l_1000, l_1200, l_99999, l_100000, l_1000000, l_2000000000, l_N, n_add, n_mul, n_lt, n_out, n_div, n_dm, n_eq, n_toN, n_inN, n_ltN, n_nltN, n_neN, Nat.not_lt_zero, false_or, or_false, ite_y, ite_n, if_true, if_false, ite_tt, ite_ff, b_0, b_1, eq_self_iff_true, Bool.true_eq_false, Bool.false_eq_true, Nat.lt_irrefl]
theorem c_canAsk (h : TC I w) (v : Vw w) {a : Int32} (hd : 2 ≤ d) : K_X10_canAsk X d a (I, L, ()) = some (some (aI (bI (decide (0 < w 7) && inr a 7))), (I, L, ())) := by
  obtain ⟨e, rfl⟩ : ∃ e, d = e + 1 := ⟨d - 1, by omega⟩
  refine K_X10_canAsk.e X e a I L _ ?_
  simp (disch := omega) only [a_bi_i, a_bv_n, a_bl_l, a_bq_q, l_0, l_1, l_2, l_3, l_4, l_5, l_6, l_7, l_8, l_9, l_10, l_12, l_16, l_20, l_24, l_25, l_31, l_32, l_33, l_40, l_48, l_57, l_60, l_63, l_64, l_78, l_85, l_97, l_99, l_100, l_122, l_255, l_325, l_700, l_999, l_1000, l_1200, l_99999, l_100000, l_1000000, l_2000000000, l_N, n_add, n_mul, n_lt, n_out, n_div, n_dm, n_eq, n_toN, n_inN, n_ltN, n_nltN, n_neN, Nat.not_lt_zero, false_or, or_false, ite_y, ite_n, if_true, if_false, ite_tt, ite_ff, b_0, b_1, eq_self_iff_true, Bool.true_eq_false, Bool.false_eq_true, c_stands h v]
  by_cases h7 : 0 < w 7
  · simp only [h7, decide_true, Bool.true_eq_false, if_false, Bool.true_and]
    by_cases ha : a < nI 0
    · have : inr a 7 = false := by unfold inr; simp [ha]
      simp only [ha, if_true, this]; rfl
    · obtain ⟨n, hn, rfl⟩ := n_ex ha
      rw [inr_n hn (by decide)]
      simp (disch := omega) only [a_bi_i, a_bv_n, a_bl_l, a_bq_q, l_0, l_1, l_2, l_3, l_4, l_5, l_6, l_7, l_8, l_9, l_10, l_12, l_16, l_20, l_24, l_25, l_31, l_32, l_33, l_40, l_48, l_57, l_60, l_63, l_64, l_78, l_85, l_97, l_99, l_100, l_122, l_255, l_325, l_700, l_999, l_1000, l_1200, l_99999, l_100000, l_1000000, l_2000000000, l_N, n_add, n_mul, n_lt, n_out, n_div, n_dm, n_eq, n_toN, n_inN, n_ltN, n_nltN, n_neN, Nat.not_lt_zero, false_or, or_false, ite_y, ite_n, if_true, if_false, ite_tt, ite_ff, b_0, b_1, eq_self_iff_true, Bool.true_eq_false, Bool.false_eq_true]
      by_cases h6 : 6 < n
      · have : ¬ n < 7 := by omega
        simp only [h6, if_true, this, decide_false]; rfl
      · have : n < 7 := by omega
        simp only [h6, if_false, this, decide_true]; rfl
  · simp only [h7, decide_false, if_true, Bool.false_and]; rfl
theorem an7 {a : Int32} (hg : (decide (0 < w 7) && inr a 7) = true) : ∃ n, n ≤ 6 ∧ a = nI n ∧ 0 < w 7 := by
  rw [Bool.and_eq_true] at hg
  obtain ⟨n, h1, h2⟩ := inr_ex (by omega) hg.2
  exact ⟨n, by omega, h2, of_decide_eq_true hg.1⟩
theorem m_in7 {a : Int32} (hd : 1 ≤ d) : K_X11_in X d a.toInt64 (0 : Int64) (6 : Int64) (I, L, ()) = some (some (aI (bI (inr a 7))), (I, L, ())) := by
  rw [m_in hd, inL_k (n := 7) (by decide) rfl]
theorem q_ask (h : TC I w) (v : Vw w) (a : Int32) : Both w (K_X10_ask X 15 a) (K_X11_ask X 15 a) I L := by
  cases hg : (decide (0 < w 7) && inr a 7) with
  | false =>
    refine Both.pure (-2) (K_X10_ask.e X 14 a I L _ ?_) (fun J L2 h => K_X11_ask.e X 14 a J L2 _ ?_)
    · simp (disch := omega) only [c_canAsk h v, hg, a_bi_i, a_bv_n, a_bl_l, a_bq_q, l_0, l_1, l_2, l_3, l_4, l_5, l_6, l_7, l_8, l_9, l_10, l_12, l_16, l_20, l_24, l_25, l_31, l_32, l_33, l_40, l_48, l_57, l_60, l_63, l_64, l_78, l_85, l_97, l_99, l_100, l_122, l_255, l_325, l_700, l_999, l_1000, l_1200, l_99999, l_100000, l_1000000, l_2000000000, l_N, n_add, n_mul, n_lt, n_out, n_div, n_dm, n_eq, n_toN, n_inN, n_ltN, n_nltN, n_neN, Nat.not_lt_zero, false_or, or_false, ite_y, ite_n, if_true, if_false, ite_tt, ite_ff, b_0, b_1, eq_self_iff_true, Bool.true_eq_false, Bool.false_eq_true]
    · simp (disch := omega) only [m_isTrain h v, m_in7, a_bi_i, a_bv_n, a_bl_l, a_bq_q, l_0, l_1, l_2, l_3, l_4, l_5, l_6, l_7, l_8, l_9, l_10, l_12, l_16, l_20, l_24, l_25, l_31, l_32, l_33, l_40, l_48, l_57, l_60, l_63, l_64, l_78, l_85, l_97, l_99, l_100, l_122, l_255, l_325, l_700, l_999, l_1000, l_1200, l_99999, l_100000, l_1000000, l_2000000000, l_N, n_add, n_mul, n_lt, n_out, n_div, n_dm, n_eq, n_toN, n_inN, n_ltN, n_nltN, n_neN, Nat.not_lt_zero, false_or, or_false, ite_y, ite_n, if_true, if_false, ite_tt, ite_ff, b_0, b_1, eq_self_iff_true, Bool.true_eq_false, Bool.false_eq_true]
      cases h7 : decide (0 < w 7) with
      | false => simp only [if_true]
      | true => rw [h7, Bool.true_and] at hg; simp only [hg, Bool.true_eq_false, if_true, if_false]
  | true =>
    obtain ⟨n, hn, rfl, h7⟩ := an7 hg
    have hi : inr (nI n) 7 = true := by rw [inr_n (by omega) (by decide)]; simp; omega
    refine Both.pure (askX w (min n (w 6))) (K_X10_ask.e X 14 _ I L _ ?_) (fun J L2 h => K_X11_ask.e X 14 _ J L2 _ ?_)
    · simp (disch := omega) only [c_canAsk h v, hg, c_asked h v, a_bi_i, a_bv_n, a_bl_l, a_bq_q, l_0, l_1, l_2, l_3, l_4, l_5, l_6, l_7, l_8, l_9, l_10, l_12, l_16, l_20, l_24, l_25, l_31, l_32, l_33, l_40, l_48, l_57, l_60, l_63, l_64, l_78, l_85, l_97, l_99, l_100, l_122, l_255, l_325, l_700, l_999, l_1000, l_1200, l_99999, l_100000, l_1000000, l_2000000000, l_N, n_add, n_mul, n_lt, n_out, n_div, n_dm, n_eq, n_toN, n_inN, n_ltN, n_nltN, n_neN, Nat.not_lt_zero, false_or, or_false, ite_y, ite_n, if_true, if_false, ite_tt, ite_ff, b_0, b_1, eq_self_iff_true, Bool.true_eq_false, Bool.false_eq_true]
    · simp (disch := omega) only [m_isTrain h v, m_in7, decide_eq_true h7, hi, m_asked h v, a_bi_i, a_bv_n, a_bl_l, a_bq_q, l_0, l_1, l_2, l_3, l_4, l_5, l_6, l_7, l_8, l_9, l_10, l_12, l_16, l_20, l_24, l_25, l_31, l_32, l_33, l_40, l_48, l_57, l_60, l_63, l_64, l_78, l_85, l_97, l_99, l_100, l_122, l_255, l_325, l_700, l_999, l_1000, l_1200, l_99999, l_100000, l_1000000, l_2000000000, l_N, n_add, n_mul, n_lt, n_out, n_div, n_dm, n_eq, n_toN, n_inN, n_ltN, n_nltN, n_neN, Nat.not_lt_zero, false_or, or_false, ite_y, ite_n, if_true, if_false, ite_tt, ite_ff, b_0, b_1, eq_self_iff_true, Bool.true_eq_false, Bool.false_eq_true]
theorem q_found (h : TC I w) (v : Vw w) (a : Int32) : Both w (K_X10_found X 15 a) (K_X11_found X 15 a) I L := by
  obtain ⟨⟨-, -, -, -, -, -, w6, -⟩, -⟩ := id v
  cases hg : (decide (0 < w 7) && inr a 7) with
  | false =>
    refine Both.pure (-2) (K_X10_found.e X 14 a I L _ ?_) (fun J L2 h => K_X11_found.e X 14 a J L2 _ ?_)
    · simp (disch := omega) only [c_canAsk h v, hg, a_bi_i, a_bv_n, a_bl_l, a_bq_q, l_0, l_1, l_2, l_3, l_4, l_5, l_6, l_7, l_8, l_9, l_10, l_12, l_16, l_20, l_24, l_25, l_31, l_32, l_33, l_40, l_48, l_57, l_60, l_63, l_64, l_78, l_85, l_97, l_99, l_100, l_122, l_255, l_325, l_700, l_999, l_1000, l_1200, l_99999, l_100000, l_1000000, l_2000000000, l_N, n_add, n_mul, n_lt, n_out, n_div, n_dm, n_eq, n_toN, n_inN, n_ltN, n_nltN, n_neN, Nat.not_lt_zero, false_or, or_false, ite_y, ite_n, if_true, if_false, ite_tt, ite_ff, b_0, b_1, eq_self_iff_true, Bool.true_eq_false, Bool.false_eq_true]
    · simp (disch := omega) only [m_isTrain h v, m_in7, a_bi_i, a_bv_n, a_bl_l, a_bq_q, l_0, l_1, l_2, l_3, l_4, l_5, l_6, l_7, l_8, l_9, l_10, l_12, l_16, l_20, l_24, l_25, l_31, l_32, l_33, l_40, l_48, l_57, l_60, l_63, l_64, l_78, l_85, l_97, l_99, l_100, l_122, l_255, l_325, l_700, l_999, l_1000, l_1200, l_99999, l_100000, l_1000000, l_2000000000, l_N, n_add, n_mul, n_lt, n_out, n_div, n_dm, n_eq, n_toN, n_inN, n_ltN, n_nltN, n_neN, Nat.not_lt_zero, false_or, or_false, ite_y, ite_n, if_true, if_false, ite_tt, ite_ff, b_0, b_1, eq_self_iff_true, Bool.true_eq_false, Bool.false_eq_true]
      cases h7 : decide (0 < w 7) with
      | false => simp only [if_true]
      | true => rw [h7, Bool.true_and] at hg; simp only [hg, Bool.true_eq_false, if_true, if_false]
  | true =>
    obtain ⟨n, hn, rfl, h7⟩ := an7 hg
    have hi : inr (nI n) 7 = true := by rw [inr_n (by omega) (by decide)]; simp; omega
    obtain ⟨x, x1, x2⟩ := c_dodger (X := X) (d := 14) (L := L) h v (by omega)
    have e : ∀ k, bt (askX w (min n (w 6)) &&& x) k = (bt (askX w (min n (w 6))) k && (decide (k < w 6) && dgB w k)) := fun k => by rw [bt_and, x2]
    have e0 : ∀ k, w 6 ≤ k → bt (askX w (min n (w 6)) &&& x) k = false := fun k hk => by rw [e, decide_eq_false (by omega)]; simp
    have e1 : cnt 16 (bt (askX w (min n (w 6)) &&& x)) = cnt (w 6) (fun r => bt (askX w (min n (w 6))) r && dgB w r) := by
      rw [cnt_ext (n := w 6) (by omega) e0]
      exact cnt_eq fun k hk => by rw [e, decide_eq_true hk, Bool.true_and]
    refine Both.pure (nI (cnt (w 6) (fun r => bt (askX w (min n (w 6))) r && dgB w r))) (K_X10_found.e X 14 _ I L _ ?_) (fun J L2 h => K_X11_found.e X 14 _ J L2 _ ?_)
    · simp (disch := omega) only [c_canAsk h v, hg, c_asked h v, x1, a_bi_i, a_bv_n, a_bl_l, a_bq_q, l_0, l_1, l_2, l_3, l_4, l_5, l_6, l_7, l_8, l_9, l_10, l_12, l_16, l_20, l_24, l_25, l_31, l_32, l_33, l_40, l_48, l_57, l_60, l_63, l_64, l_78, l_85, l_97, l_99, l_100, l_122, l_255, l_325, l_700, l_999, l_1000, l_1200, l_99999, l_100000, l_1000000, l_2000000000, l_N, n_add, n_mul, n_lt, n_out, n_div, n_dm, n_eq, n_toN, n_inN, n_ltN, n_nltN, n_neN, Nat.not_lt_zero, false_or, or_false, ite_y, ite_n, if_true, if_false, ite_tt, ite_ff, b_0, b_1, eq_self_iff_true, Bool.true_eq_false, Bool.false_eq_true]
      rw [c_bitCount (fun k hk => e0 k (by omega)) (by omega), e1]
      rfl
    · simp (disch := omega) only [m_isTrain h v, m_in7, decide_eq_true h7, hi, m_asked h v, m_foundIn h v, a_bi_i, a_bv_n, a_bl_l, a_bq_q, l_0, l_1, l_2, l_3, l_4, l_5, l_6, l_7, l_8, l_9, l_10, l_12, l_16, l_20, l_24, l_25, l_31, l_32, l_33, l_40, l_48, l_57, l_60, l_63, l_64, l_78, l_85, l_97, l_99, l_100, l_122, l_255, l_325, l_700, l_999, l_1000, l_1200, l_99999, l_100000, l_1000000, l_2000000000, l_N, n_add, n_mul, n_lt, n_out, n_div, n_dm, n_eq, n_toN, n_inN, n_ltN, n_nltN, n_neN, Nat.not_lt_zero, false_or, or_false, ite_y, ite_n, if_true, if_false, ite_tt, ite_ff, b_0, b_1, eq_self_iff_true, Bool.true_eq_false, Bool.false_eq_true]
/-- all without a ticket are among the first n asked -/
def coB (w : TW) (n : Nat) : Bool := !(exb (w 6) (fun r => dgB w r && !(bt (askX w n) r)))
theorem coB_all (v : Vw w) : coB w (w 6) = true := by
  unfold coB
  rw [Bool.not_eq_true', exb_no]
  intro i hi
  rw [cnt_full (askX_ok v (w 6) (Nat.le_refl _)).1 i hi]; simp
theorem bt63 : ∀ k, k < 6 → bt (63 : Int32) k = true := by decide
theorem coB_lt (v : Vw w) {n : Nat} : (cnt (w 6) (fun r => bt (askX w n) r && dgB w r) < cnt (w 6) (fun r => bt (63 : Int32) r && dgB w r)) ↔ coB w n = false := by
  obtain ⟨⟨-, -, -, -, -, -, w6, -⟩, -⟩ := id v
  have e : cnt (w 6) (fun r => bt (63 : Int32) r && dgB w r) = cnt (w 6) (dgB w) := cnt_eq fun k hk => by rw [bt63 k (by omega), Bool.true_and]
  rw [e, cnt_sub (fun k _ hp => by rw [Bool.and_eq_true] at hp; exact hp.2)]
  unfold coB
  rw [Bool.not_eq_false', exb_iff]
  constructor
  · intro ⟨k, k1, k2, k3⟩
    refine ⟨k, k1, ?_⟩
    rw [k2, Bool.and_true] at k3
    rw [k2, k3]; rfl
  · intro ⟨k, k1, k2⟩
    rw [Bool.and_eq_true] at k2
    refine ⟨k, k1, k2.1, ?_⟩
    have : bt (askX w n) k = false := by simpa using k2.2
    rw [this]; rfl
theorem coB_0 {x : Int32} {n : Nat} (v : Vw w) (hx : ∀ c, bt x c = (decide (c < w 6) && dgB w c)) : (x &&& (askX w n ^^^ nN) = nI 0) ↔ coB w n = true := by
  obtain ⟨⟨-, -, -, -, -, -, w6, -⟩, -⟩ := id v
  rw [bt_eq0]
  unfold coB
  rw [Bool.not_eq_true', exb_no]
  constructor
  · intro h i hi
    have := h i (by omega)
    rw [bt_and, bt_not _ (by omega), hx, decide_eq_true hi, Bool.true_and] at this
    exact this
  · intro h k hk
    rw [bt_and, bt_not _ hk, hx]
    by_cases e : k < w 6
    · rw [decide_eq_true e, Bool.true_and]; exact h k e
    · rw [decide_eq_false e]; simp
theorem q_asks (h : TC I w) (v : Vw w) : Both w (K_X10_asks X 15) (K_X11_asks X 15) I L := by
  obtain ⟨⟨-, -, -, -, -, -, w6, -⟩, -⟩ := id v
  by_cases h7 : 0 < w 7
  · obtain ⟨x, x1, x2⟩ := c_dodger (X := X) (d := 14) (L := L) h v (by omega)
    have kc : ∀ k n, n + k = w 6 → v_X10_asks_20 X 14 x (nI n) (I, L, ()) = some (some (aI (nI ((fndF (coB w) k n).getD (w 6)))), (I, L, ())) := by
      intro k
      induction k with
      | zero =>
        intro n hn
        have : n = w 6 := by omega
        subst this
        refine v_X10_asks_20.e X 14 _ _ I L _ ?_
        simp (disch := omega) only [a_bi_i, a_bv_n, a_bl_l, a_bq_q, l_0, l_1, l_2, l_3, l_4, l_5, l_6, l_7, l_8, l_9, l_10, l_12, l_16, l_20, l_24, l_25, l_31, l_32, l_33, l_40, l_48, l_57, l_60, l_63, l_64, l_78, l_85, l_97, l_99, l_100, l_122, l_255, l_325, l_700, l_999, l_1000, l_1200, l_99999, l_100000, l_1000000, l_2000000000, l_N, n_add, n_mul, n_lt, n_out, n_div, n_dm, n_eq, n_toN, n_inN, n_ltN, n_nltN, n_neN, Nat.not_lt_zero, false_or, or_false, ite_y, ite_n, if_true, if_false, ite_tt, ite_ff, b_0, b_1, eq_self_iff_true, Bool.true_eq_false, Bool.false_eq_true, c_riders h v, Nat.lt_irrefl]
        rfl
      | succ k ih =>
        intro n hn
        refine v_X10_asks_20.e X 14 _ _ I L _ ?_
        have hm : min n (w 6) = n := Nat.min_eq_left (by omega)
        simp (disch := omega) only [a_bi_i, a_bv_n, a_bl_l, a_bq_q, l_0, l_1, l_2, l_3, l_4, l_5, l_6, l_7, l_8, l_9, l_10, l_12, l_16, l_20, l_24, l_25, l_31, l_32, l_33, l_40, l_48, l_57, l_60, l_63, l_64, l_78, l_85, l_97, l_99, l_100, l_122, l_255, l_325, l_700, l_999, l_1000, l_1200, l_99999, l_100000, l_1000000, l_2000000000, l_N, n_add, n_mul, n_lt, n_out, n_div, n_dm, n_eq, n_toN, n_inN, n_ltN, n_nltN, n_neN, Nat.not_lt_zero, false_or, or_false, ite_y, ite_n, if_true, if_false, ite_tt, ite_ff, b_0, b_1, eq_self_iff_true, Bool.true_eq_false, Bool.false_eq_true, c_riders h v, c_asked h v, hm]
        have q := coB_0 (n := n) v x2
        rw [fndF]
        cases hc : coB w n with
        | true => rw [if_pos (q.mpr hc), if_pos rfl]; rfl
        | false => rw [if_neg (fun z => by rw [q.mp z] at hc; cases hc), if_neg (by decide)]; exact ih (n + 1) (by omega)
    refine Both.pure (nI ((fndF (coB w) (w 6) 0).getD (w 6))) (K_X10_asks.e X 14 I L _ ?_) (fun J L2 h => K_X11_asks.e X 14 J L2 _ ?_)
    · simp (disch := omega) only [c_stands h v, decide_eq_true h7, x1, a_bi_i, a_bv_n, a_bl_l, a_bq_q, l_0, l_1, l_2, l_3, l_4, l_5, l_6, l_7, l_8, l_9, l_10, l_12, l_16, l_20, l_24, l_25, l_31, l_32, l_33, l_40, l_48, l_57, l_60, l_63, l_64, l_78, l_85, l_97, l_99, l_100, l_122, l_255, l_325, l_700, l_999, l_1000, l_1200, l_99999, l_100000, l_1000000, l_2000000000, l_N, n_add, n_mul, n_lt, n_out, n_div, n_dm, n_eq, n_toN, n_inN, n_ltN, n_nltN, n_neN, Nat.not_lt_zero, false_or, or_false, ite_y, ite_n, if_true, if_false, ite_tt, ite_ff, b_0, b_1, eq_self_iff_true, Bool.true_eq_false, Bool.false_eq_true]
      exact kc (w 6) 0 (by omega)
    · have km : ∀ k n, n + k = w 6 → v_X11_asks_12 X 14 (nI n) (J, L2, ()) = some (some (aI (nI ((fndF (coB w) k n).getD (w 6)))), (J, L2, ())) := by
        intro k
        induction k with
        | zero =>
          intro n hn
          have : n = w 6 := by omega
          subst this
          refine v_X11_asks_12.e X 14 _ J L2 _ ?_
          have hm : min (w 6) (w 6) = w 6 := Nat.min_self _
          have b1 := cnt_le (fun r => bt (askX w (w 6)) r && dgB w r) (w 6)
          have b2 := cnt_le (fun r => bt (63 : Int32) r && dgB w r) (w 6)
          simp (disch := omega) only [a_bi_i, a_bv_n, a_bl_l, a_bq_q, m_asked h v, m_foundIn h v, hm, n_lt]
          rw [if_neg (fun z => by have q1 := (coB_lt v).mp z; rw [coB_all v] at q1; cases q1)]
          rfl
        | succ k ih =>
          intro n hn
          refine v_X11_asks_12.e X 14 _ J L2 _ ?_
          have hm : min n (w 6) = n := Nat.min_eq_left (by omega)
          have b1 := cnt_le (fun r => bt (askX w n) r && dgB w r) (w 6)
          have b2 := cnt_le (fun r => bt (63 : Int32) r && dgB w r) (w 6)
          simp (disch := omega) only [a_bi_i, a_bv_n, a_bl_l, a_bq_q, m_asked h v, m_foundIn h v, hm, n_lt, l_1, n_add]
          have q := coB_lt (n := n) v
          rw [fndF]
          cases hc : coB w n with
          | true => rw [if_neg (fun z => by rw [q.mp z] at hc; cases hc), if_pos rfl]; rfl
          | false => rw [if_pos (q.mpr hc), if_neg (by decide)]; exact ih (n + 1) (by omega)
      simp (disch := omega) only [m_isTrain h v, decide_eq_true h7, a_bi_i, a_bv_n, a_bl_l, a_bq_q, l_0, l_1, l_2, l_3, l_4, l_5, l_6, l_7, l_8, l_9, l_10, l_12, l_16, l_20, l_24, l_25, l_31, l_32, l_33, l_40, l_48, l_57, l_60, l_63, l_64, l_78, l_85, l_97, l_99, l_100, l_122, l_255, l_325, l_700, l_999, l_1000, l_1200, l_99999, l_100000, l_1000000, l_2000000000, l_N, n_add, n_mul, n_lt, n_out, n_div, n_dm, n_eq, n_toN, n_inN, n_ltN, n_nltN, n_neN, Nat.not_lt_zero, false_or, or_false, ite_y, ite_n, if_true, if_false, ite_tt, ite_ff, b_0, b_1, eq_self_iff_true, Bool.true_eq_false, Bool.false_eq_true]
      exact km (w 6) 0 (by omega)
  · refine Both.pure (-2) (K_X10_asks.e X 14 I L _ ?_) (fun J L2 h => K_X11_asks.e X 14 J L2 _ ?_)
    · simp (disch := omega) only [c_stands h v, decide_eq_false h7, a_bi_i, a_bv_n, a_bl_l, a_bq_q, l_0, l_1, l_2, l_3, l_4, l_5, l_6, l_7, l_8, l_9, l_10, l_12, l_16, l_20, l_24, l_25, l_31, l_32, l_33, l_40, l_48, l_57, l_60, l_63, l_64, l_78, l_85, l_97, l_99, l_100, l_122, l_255, l_325, l_700, l_999, l_1000, l_1200, l_99999, l_100000, l_1000000, l_2000000000, l_N, n_add, n_mul, n_lt, n_out, n_div, n_dm, n_eq, n_toN, n_inN, n_ltN, n_nltN, n_neN, Nat.not_lt_zero, false_or, or_false, ite_y, ite_n, if_true, if_false, ite_tt, ite_ff, b_0, b_1, eq_self_iff_true, Bool.true_eq_false, Bool.false_eq_true]
    · simp (disch := omega) only [m_isTrain h v, decide_eq_false h7, a_bi_i, a_bv_n, a_bl_l, a_bq_q, l_0, l_1, l_2, l_3, l_4, l_5, l_6, l_7, l_8, l_9, l_10, l_12, l_16, l_20, l_24, l_25, l_31, l_32, l_33, l_40, l_48, l_57, l_60, l_63, l_64, l_78, l_85, l_97, l_99, l_100, l_122, l_255, l_325, l_700, l_999, l_1000, l_1200, l_99999, l_100000, l_1000000, l_2000000000, l_N, n_add, n_mul, n_lt, n_out, n_div, n_dm, n_eq, n_toN, n_inN, n_ltN, n_nltN, n_neN, Nat.not_lt_zero, false_or, or_false, ite_y, ite_n, if_true, if_false, ite_tt, ite_ff, b_0, b_1, eq_self_iff_true, Bool.true_eq_false, Bool.false_eq_true]
end
