/-! reply, answer, rests, rest, sure: both sides -/
section
variable {X : AX} {d : Nat} {I J : A3 Int32} {L : A3 Int64} {w : TW}
theorem q_reply (h : TC I w) (v : Vw w) (a b : Int32) : Both w (K_X10_reply X 15 a b) (K_X11_reply X 15 a b) I L := by
  obtain ⟨⟨h0, h1, h2, h3, h4, h5, h6, -⟩, -, vc, -⟩ := id v
  cases hg : (inr a (w 6) && decide (0 < w 5)) with
  | false =>
    refine Both.pure (-2) (K_X10_reply.e X 14 a b I L _ ?_) (fun J L2 h => K_X11_reply.e X 14 a b J L2 _ ?_)
    · simp (disch := omega) only [c_hasTable h v, hg, a_bi_i, a_bv_n, a_bl_l, a_bq_q, l_0, l_1, l_2, l_3, l_4, l_5, l_6, l_7, l_8, l_9, l_10, l_12, l_16, l_20, l_24, l_25, l_31, l_32, l_33, l_40, l_48, l_57, l_60, l_63, l_64, l_78, l_85, l_97, l_99, l_100, l_122, l_255, l_325, l_700, l_999, l_1000, l_1200, l_99999, l_100000, l_1000000, l_2000000000, l_N, n_add, n_mul, n_lt, n_out, n_div, n_dm, n_eq, n_toN, n_inN, n_ltN, n_nltN, n_neN, Nat.not_lt_zero, false_or, or_false, ite_y, ite_n, if_true, if_false, ite_tt, ite_ff, b_0, b_1, eq_self_iff_true, Bool.true_eq_false, Bool.false_eq_true]
    · simp (disch := omega) only [m_isGame h v, hg, a_bi_i, a_bv_n, a_bl_l, a_bq_q, l_0, l_1, l_2, l_3, l_4, l_5, l_6, l_7, l_8, l_9, l_10, l_12, l_16, l_20, l_24, l_25, l_31, l_32, l_33, l_40, l_48, l_57, l_60, l_63, l_64, l_78, l_85, l_97, l_99, l_100, l_122, l_255, l_325, l_700, l_999, l_1000, l_1200, l_99999, l_100000, l_1000000, l_2000000000, l_N, n_add, n_mul, n_lt, n_out, n_div, n_dm, n_eq, n_toN, n_inN, n_ltN, n_nltN, n_neN, Nat.not_lt_zero, false_or, or_false, ite_y, ite_n, if_true, if_false, ite_tt, ite_ff, b_0, b_1, eq_self_iff_true, Bool.true_eq_false, Bool.false_eq_true]
  | true =>
    obtain ⟨r, hr, rfl, h5'⟩ := gm v hg
    cases hb : inr b (2 * w 0) with
    | false =>
      refine Both.pure (-2) (K_X10_reply.e X 14 _ b I L _ ?_) (fun J L2 h => K_X11_reply.e X 14 _ b J L2 _ ?_)
      · simp (disch := omega) only [c_hasTable h v, hg, c_hasBegin h v, hb, a_bi_i, a_bv_n, a_bl_l, a_bq_q, l_0, l_1, l_2, l_3, l_4, l_5, l_6, l_7, l_8, l_9, l_10, l_12, l_16, l_20, l_24, l_25, l_31, l_32, l_33, l_40, l_48, l_57, l_60, l_63, l_64, l_78, l_85, l_97, l_99, l_100, l_122, l_255, l_325, l_700, l_999, l_1000, l_1200, l_99999, l_100000, l_1000000, l_2000000000, l_N, n_add, n_mul, n_lt, n_out, n_div, n_dm, n_eq, n_toN, n_inN, n_ltN, n_nltN, n_neN, Nat.not_lt_zero, false_or, or_false, ite_y, ite_n, if_true, if_false, ite_tt, ite_ff, b_0, b_1, eq_self_iff_true, Bool.true_eq_false, Bool.false_eq_true]
      · simp (disch := omega) only [m_isGame h v, hg, m_isBegin h v, hb, a_bi_i, a_bv_n, a_bl_l, a_bq_q, l_0, l_1, l_2, l_3, l_4, l_5, l_6, l_7, l_8, l_9, l_10, l_12, l_16, l_20, l_24, l_25, l_31, l_32, l_33, l_40, l_48, l_57, l_60, l_63, l_64, l_78, l_85, l_97, l_99, l_100, l_122, l_255, l_325, l_700, l_999, l_1000, l_1200, l_99999, l_100000, l_1000000, l_2000000000, l_N, n_add, n_mul, n_lt, n_out, n_div, n_dm, n_eq, n_toN, n_inN, n_ltN, n_nltN, n_neN, Nat.not_lt_zero, false_or, or_false, ite_y, ite_n, if_true, if_false, ite_tt, ite_ff, b_0, b_1, eq_self_iff_true, Bool.true_eq_false, Bool.false_eq_true]
    | true =>
      obtain ⟨z, hz, rfl⟩ := inr_ex (by omega) hb
      obtain ⟨J1, f1, s1, t1, k1⟩ := c_fillTable (X := X) (d := 14) (L := L) (r := r) h v h5' hr (by omega)
      obtain ⟨-, -, c2⟩ := loop_up (S := Unit) (F := fun k _ => v_X10_reply_32 X 14 (nI z) (nI (amx (fun rule => tbN w r rule z) k)) (nI k) (J1, L, ())) (P := fun k _ => 1 ≤ k) (n := 4) (fun k _ hk hP => by
        refine ⟨(), (by omega : 1 ≤ k + 1), fun s hs => v_X10_reply_32.e X 14 _ _ _ J1 L s ?_⟩
        have ha : amx (fun rule => tbN w r rule z) k < 4 := by
          obtain ⟨j, rfl⟩ : ∃ j, k = j + 1 := ⟨k - 1, by omega⟩
          have := amx_lt (fun rule => tbN w r rule z) j
          omega
        have b1 : tbN w r k z ≤ w 1 := tbN_le
        have b2 : tbN w r (amx (fun rule => tbN w r rule z) k) z ≤ w 1 := tbN_le
        have hs : v_X10_reply_32 X 14 (nI z) (nI (amx (fun rule => tbN w r rule z) (k + 1))) (nI (k + 1)) (J1, L, ()) = some s := hs
        rw [amx] at hs
        simp (disch := omega) only [a_bi_i, a_bv_n, a_bl_l, a_bq_q, l_0, l_1, l_2, l_3, l_4, l_5, l_6, l_7, l_8, l_9, l_10, l_12, l_16, l_20, l_24, l_25, l_31, l_32, l_33, l_40, l_48, l_57, l_60, l_63, l_64, l_78, l_85, l_97, l_99, l_100, l_122, l_255, l_325, l_700, l_999, l_1000, l_1200, l_99999, l_100000, l_1000000, l_2000000000, l_N, n_add, n_mul, n_lt, n_out, n_div, n_dm, n_eq, n_toN, n_inN, n_ltN, n_nltN, n_neN, Nat.not_lt_zero, false_or, or_false, ite_y, ite_n, if_true, if_false, ite_tt, ite_ff, b_0, b_1, eq_self_iff_true, Bool.true_eq_false, Bool.false_eq_true, c_mark k1 v]
        by_cases hlt : tbN w r (amx (fun rule => tbN w r rule z) k) z < tbN w r k z
        · rw [if_pos hlt] at hs ⊢
          exact hs
        · rw [if_neg hlt] at hs ⊢
          exact hs) 3 1 () (by omega) (by omega)
      have c2' : OLe (v_X10_reply_32 X 14 (nI z) (nI (amx (fun rule => tbN w r rule z) 4)) (nI 4) (J1, L, ())) (v_X10_reply_32 X 14 (nI z) (nI (amx (fun rule => tbN w r rule z) 1)) (nI 1) (J1, L, ())) := c2
      rw [amx_1] at c2'
      refine Both.mk (nI (amx (fun rule => tbN w r rule z) 4)) J1 (K_X10_reply.e X 14 _ _ I L _ ?_) s1 (fun M L2 hM => ?_)
      · simp (disch := omega) only [c_hasTable h v, hg, c_hasBegin h v, hb, f1, a_bi_i, a_bv_n, a_bl_l, a_bq_q, l_0, l_1, l_2, l_3, l_4, l_5, l_6, l_7, l_8, l_9, l_10, l_12, l_16, l_20, l_24, l_25, l_31, l_32, l_33, l_40, l_48, l_57, l_60, l_63, l_64, l_78, l_85, l_97, l_99, l_100, l_122, l_255, l_325, l_700, l_999, l_1000, l_1200, l_99999, l_100000, l_1000000, l_2000000000, l_N, n_add, n_mul, n_lt, n_out, n_div, n_dm, n_eq, n_toN, n_inN, n_ltN, n_nltN, n_neN, Nat.not_lt_zero, false_or, or_false, ite_y, ite_n, if_true, if_false, ite_tt, ite_ff, b_0, b_1, eq_self_iff_true, Bool.true_eq_false, Bool.false_eq_true]
        refine c2' _ (v_X10_reply_32.e X 14 _ _ _ J1 L _ ?_)
        simp (disch := omega) only [a_bi_i, a_bv_n, a_bl_l, a_bq_q, l_0, l_1, l_2, l_3, l_4, l_5, l_6, l_7, l_8, l_9, l_10, l_12, l_16, l_20, l_24, l_25, l_31, l_32, l_33, l_40, l_48, l_57, l_60, l_63, l_64, l_78, l_85, l_97, l_99, l_100, l_122, l_255, l_325, l_700, l_999, l_1000, l_1200, l_99999, l_100000, l_1000000, l_2000000000, l_N, n_add, n_mul, n_lt, n_out, n_div, n_dm, n_eq, n_toN, n_inN, n_ltN, n_nltN, n_neN, Nat.not_lt_zero, false_or, or_false, ite_y, ite_n, if_true, if_false, ite_tt, ite_ff, b_0, b_1, eq_self_iff_true, Bool.true_eq_false, Bool.false_eq_true, Nat.lt_irrefl]
      · obtain ⟨M', m1, m2, -⟩ := m_replyOf (X := X) (d := 14) (L := L2) (r := r) (b := z) hM v h5' hr hz (by omega)
        refine ⟨M', K_X11_reply.e X 14 _ _ M L2 _ ?_, m2⟩
        simp (disch := omega) only [m_isGame hM v, hg, m_isBegin hM v, hb, m1, a_bi_i, a_bv_n, a_bl_l, a_bq_q, l_0, l_1, l_2, l_3, l_4, l_5, l_6, l_7, l_8, l_9, l_10, l_12, l_16, l_20, l_24, l_25, l_31, l_32, l_33, l_40, l_48, l_57, l_60, l_63, l_64, l_78, l_85, l_97, l_99, l_100, l_122, l_255, l_325, l_700, l_999, l_1000, l_1200, l_99999, l_100000, l_1000000, l_2000000000, l_N, n_add, n_mul, n_lt, n_out, n_div, n_dm, n_eq, n_toN, n_inN, n_ltN, n_nltN, n_neN, Nat.not_lt_zero, false_or, or_false, ite_y, ite_n, if_true, if_false, ite_tt, ite_ff, b_0, b_1, eq_self_iff_true, Bool.true_eq_false, Bool.false_eq_true]
theorem q_answer (h : TC I w) (v : Vw w) (a b : Int32) : Both w (K_X10_answer X 15 a b) (K_X11_answer X 15 a b) I L := by
  obtain ⟨⟨h0, h1, h2, h3, h4, h5, h6, -⟩, -, vc, -⟩ := id v
  cases hg : (inr a (w 6) && decide (0 < w 5)) with
  | false =>
    refine Both.pure (-2) (K_X10_answer.e X 14 a b I L _ ?_) (fun J L2 h => K_X11_answer.e X 14 a b J L2 _ ?_)
    · simp (disch := omega) only [c_hasTable h v, hg, a_bi_i, a_bv_n, a_bl_l, a_bq_q, l_0, l_1, l_2, l_3, l_4, l_5, l_6, l_7, l_8, l_9, l_10, l_12, l_16, l_20, l_24, l_25, l_31, l_32, l_33, l_40, l_48, l_57, l_60, l_63, l_64, l_78, l_85, l_97, l_99, l_100, l_122, l_255, l_325, l_700, l_999, l_1000, l_1200, l_99999, l_100000, l_1000000, l_2000000000, l_N, n_add, n_mul, n_lt, n_out, n_div, n_dm, n_eq, n_toN, n_inN, n_ltN, n_nltN, n_neN, Nat.not_lt_zero, false_or, or_false, ite_y, ite_n, if_true, if_false, ite_tt, ite_ff, b_0, b_1, eq_self_iff_true, Bool.true_eq_false, Bool.false_eq_true]
    · simp (disch := omega) only [m_isGame h v, hg, a_bi_i, a_bv_n, a_bl_l, a_bq_q, l_0, l_1, l_2, l_3, l_4, l_5, l_6, l_7, l_8, l_9, l_10, l_12, l_16, l_20, l_24, l_25, l_31, l_32, l_33, l_40, l_48, l_57, l_60, l_63, l_64, l_78, l_85, l_97, l_99, l_100, l_122, l_255, l_325, l_700, l_999, l_1000, l_1200, l_99999, l_100000, l_1000000, l_2000000000, l_N, n_add, n_mul, n_lt, n_out, n_div, n_dm, n_eq, n_toN, n_inN, n_ltN, n_nltN, n_neN, Nat.not_lt_zero, false_or, or_false, ite_y, ite_n, if_true, if_false, ite_tt, ite_ff, b_0, b_1, eq_self_iff_true, Bool.true_eq_false, Bool.false_eq_true]
  | true =>
    obtain ⟨r, hr, rfl, h5'⟩ := gm v hg
    have hw0 : 2 ≤ w 0 := (v.live (Or.inr (Or.inr (Or.inl h5')))).2.1
    cases hb : inr b 4 with
    | false =>
      refine Both.pure (-2) (K_X10_answer.e X 14 _ b I L _ ?_) (fun J L2 h => K_X11_answer.e X 14 _ b J L2 _ ?_)
      · simp (disch := omega) only [c_hasTable h v, hg, c_isRule, hb, a_bi_i, a_bv_n, a_bl_l, a_bq_q, l_0, l_1, l_2, l_3, l_4, l_5, l_6, l_7, l_8, l_9, l_10, l_12, l_16, l_20, l_24, l_25, l_31, l_32, l_33, l_40, l_48, l_57, l_60, l_63, l_64, l_78, l_85, l_97, l_99, l_100, l_122, l_255, l_325, l_700, l_999, l_1000, l_1200, l_99999, l_100000, l_1000000, l_2000000000, l_N, n_add, n_mul, n_lt, n_out, n_div, n_dm, n_eq, n_toN, n_inN, n_ltN, n_nltN, n_neN, Nat.not_lt_zero, false_or, or_false, ite_y, ite_n, if_true, if_false, ite_tt, ite_ff, b_0, b_1, eq_self_iff_true, Bool.true_eq_false, Bool.false_eq_true]
      · simp (disch := omega) only [m_isGame h v, hg, m_isRule, hb, a_bi_i, a_bv_n, a_bl_l, a_bq_q, l_0, l_1, l_2, l_3, l_4, l_5, l_6, l_7, l_8, l_9, l_10, l_12, l_16, l_20, l_24, l_25, l_31, l_32, l_33, l_40, l_48, l_57, l_60, l_63, l_64, l_78, l_85, l_97, l_99, l_100, l_122, l_255, l_325, l_700, l_999, l_1000, l_1200, l_99999, l_100000, l_1000000, l_2000000000, l_N, n_add, n_mul, n_lt, n_out, n_div, n_dm, n_eq, n_toN, n_inN, n_ltN, n_nltN, n_neN, Nat.not_lt_zero, false_or, or_false, ite_y, ite_n, if_true, if_false, ite_tt, ite_ff, b_0, b_1, eq_self_iff_true, Bool.true_eq_false, Bool.false_eq_true]
    | true =>
      obtain ⟨rule, hru, rfl⟩ := inr_ex (by omega) hb
      obtain ⟨J1, f1, s1, t1, k1⟩ := c_fillTable (X := X) (d := 14) (L := L) (r := r) h v h5' hr (by omega)
      obtain ⟨-, -, c2⟩ := loop_up (S := Unit) (F := fun k _ => v_X10_answer_28 X 14 (nI rule) (nI (amn (fun b => tbN w r rule b) k)) (nI k) (J1, L, ())) (P := fun k _ => 1 ≤ k) (n := 2 * w 0) (fun k _ hk hP => by
        refine ⟨(), (by omega : 1 ≤ k + 1), fun s hs => v_X10_answer_28.e X 14 _ _ _ J1 L s ?_⟩
        have ha : amn (fun b => tbN w r rule b) k < 2 * w 0 := by
          obtain ⟨j, rfl⟩ : ∃ j, k = j + 1 := ⟨k - 1, by omega⟩
          have := amn_lt (fun b => tbN w r rule b) j
          omega
        have b1 : tbN w r rule k ≤ w 1 := tbN_le
        have b2 : tbN w r rule (amn (fun b => tbN w r rule b) k) ≤ w 1 := tbN_le
        have hs : v_X10_answer_28 X 14 (nI rule) (nI (amn (fun b => tbN w r rule b) (k + 1))) (nI (k + 1)) (J1, L, ()) = some s := hs
        rw [amn] at hs
        simp (disch := omega) only [a_bi_i, a_bv_n, a_bl_l, a_bq_q, l_0, l_1, l_2, l_3, l_4, l_5, l_6, l_7, l_8, l_9, l_10, l_12, l_16, l_20, l_24, l_25, l_31, l_32, l_33, l_40, l_48, l_57, l_60, l_63, l_64, l_78, l_85, l_97, l_99, l_100, l_122, l_255, l_325, l_700, l_999, l_1000, l_1200, l_99999, l_100000, l_1000000, l_2000000000, l_N, n_add, n_mul, n_lt, n_out, n_div, n_dm, n_eq, n_toN, n_inN, n_ltN, n_nltN, n_neN, Nat.not_lt_zero, false_or, or_false, ite_y, ite_n, if_true, if_false, ite_tt, ite_ff, b_0, b_1, eq_self_iff_true, Bool.true_eq_false, Bool.false_eq_true, c_beginCount t1 v, c_mark k1 v]
        by_cases hlt : tbN w r rule k < tbN w r rule (amn (fun b => tbN w r rule b) k)
        · rw [if_pos hlt] at hs ⊢
          exact hs
        · rw [if_neg hlt] at hs ⊢
          exact hs) (2 * w 0 - 1) 1 () (by omega) (by omega)
      have c2' : OLe (v_X10_answer_28 X 14 (nI rule) (nI (amn (fun b => tbN w r rule b) (2 * w 0))) (nI (2 * w 0)) (J1, L, ())) (v_X10_answer_28 X 14 (nI rule) (nI (amn (fun b => tbN w r rule b) 1)) (nI 1) (J1, L, ())) := c2
      rw [amn_1] at c2'
      refine Both.mk (nI (amn (fun b => tbN w r rule b) (2 * w 0))) J1 (K_X10_answer.e X 14 _ _ I L _ ?_) s1 (fun M L2 hM => ?_)
      · simp (disch := omega) only [c_hasTable h v, hg, c_isRule, hb, f1, a_bi_i, a_bv_n, a_bl_l, a_bq_q, l_0, l_1, l_2, l_3, l_4, l_5, l_6, l_7, l_8, l_9, l_10, l_12, l_16, l_20, l_24, l_25, l_31, l_32, l_33, l_40, l_48, l_57, l_60, l_63, l_64, l_78, l_85, l_97, l_99, l_100, l_122, l_255, l_325, l_700, l_999, l_1000, l_1200, l_99999, l_100000, l_1000000, l_2000000000, l_N, n_add, n_mul, n_lt, n_out, n_div, n_dm, n_eq, n_toN, n_inN, n_ltN, n_nltN, n_neN, Nat.not_lt_zero, false_or, or_false, ite_y, ite_n, if_true, if_false, ite_tt, ite_ff, b_0, b_1, eq_self_iff_true, Bool.true_eq_false, Bool.false_eq_true]
        refine c2' _ (v_X10_answer_28.e X 14 _ _ _ J1 L _ ?_)
        simp (disch := omega) only [a_bi_i, a_bv_n, a_bl_l, a_bq_q, l_0, l_1, l_2, l_3, l_4, l_5, l_6, l_7, l_8, l_9, l_10, l_12, l_16, l_20, l_24, l_25, l_31, l_32, l_33, l_40, l_48, l_57, l_60, l_63, l_64, l_78, l_85, l_97, l_99, l_100, l_122, l_255, l_325, l_700, l_999, l_1000, l_1200, l_99999, l_100000, l_1000000, l_2000000000, l_N, n_add, n_mul, n_lt, n_out, n_div, n_dm, n_eq, n_toN, n_inN, n_ltN, n_nltN, n_neN, Nat.not_lt_zero, false_or, or_false, ite_y, ite_n, if_true, if_false, ite_tt, ite_ff, b_0, b_1, eq_self_iff_true, Bool.true_eq_false, Bool.false_eq_true, c_beginCount t1 v, Nat.lt_irrefl]
      · obtain ⟨M', m1, m2, -⟩ := m_answerOf (X := X) (d := 14) (L := L2) (r := r) (rule := rule) hM v h5' hr (by omega) (by omega)
        refine ⟨M', K_X11_answer.e X 14 _ _ M L2 _ ?_, m2⟩
        simp (disch := omega) only [m_isGame hM v, hg, m_isRule, hb, m1, a_bi_i, a_bv_n, a_bl_l, a_bq_q, l_0, l_1, l_2, l_3, l_4, l_5, l_6, l_7, l_8, l_9, l_10, l_12, l_16, l_20, l_24, l_25, l_31, l_32, l_33, l_40, l_48, l_57, l_60, l_63, l_64, l_78, l_85, l_97, l_99, l_100, l_122, l_255, l_325, l_700, l_999, l_1000, l_1200, l_99999, l_100000, l_1000000, l_2000000000, l_N, n_add, n_mul, n_lt, n_out, n_div, n_dm, n_eq, n_toN, n_inN, n_ltN, n_nltN, n_neN, Nat.not_lt_zero, false_or, or_false, ite_y, ite_n, if_true, if_false, ite_tt, ite_ff, b_0, b_1, eq_self_iff_true, Bool.true_eq_false, Bool.false_eq_true]
theorem q_rests (h : TC I w) (v : Vw w) (a : Int32) : Both w (K_X10_rests X 15 a) (K_X11_rests X 15 a) I L := by
  obtain ⟨⟨h0, h1, h2, h3, h4, h5, h6, -⟩, -, vc, -⟩ := id v
  cases hg : (inr a (w 6) && decide (0 < w 5)) with
  | false =>
    refine Both.pure (-2) (K_X10_rests.e X 14 a I L _ ?_) (fun J L2 h => K_X11_rests.e X 14 a J L2 _ ?_)
    · simp (disch := omega) only [c_hasTable h v, hg, a_bi_i, a_bv_n, a_bl_l, a_bq_q, l_0, l_1, l_2, l_3, l_4, l_5, l_6, l_7, l_8, l_9, l_10, l_12, l_16, l_20, l_24, l_25, l_31, l_32, l_33, l_40, l_48, l_57, l_60, l_63, l_64, l_78, l_85, l_97, l_99, l_100, l_122, l_255, l_325, l_700, l_999, l_1000, l_1200, l_99999, l_100000, l_1000000, l_2000000000, l_N, n_add, n_mul, n_lt, n_out, n_div, n_dm, n_eq, n_toN, n_inN, n_ltN, n_nltN, n_neN, Nat.not_lt_zero, false_or, or_false, ite_y, ite_n, if_true, if_false, ite_tt, ite_ff, b_0, b_1, eq_self_iff_true, Bool.true_eq_false, Bool.false_eq_true]
    · simp (disch := omega) only [m_isGame h v, hg, a_bi_i, a_bv_n, a_bl_l, a_bq_q, l_0, l_1, l_2, l_3, l_4, l_5, l_6, l_7, l_8, l_9, l_10, l_12, l_16, l_20, l_24, l_25, l_31, l_32, l_33, l_40, l_48, l_57, l_60, l_63, l_64, l_78, l_85, l_97, l_99, l_100, l_122, l_255, l_325, l_700, l_999, l_1000, l_1200, l_99999, l_100000, l_1000000, l_2000000000, l_N, n_add, n_mul, n_lt, n_out, n_div, n_dm, n_eq, n_toN, n_inN, n_ltN, n_nltN, n_neN, Nat.not_lt_zero, false_or, or_false, ite_y, ite_n, if_true, if_false, ite_tt, ite_ff, b_0, b_1, eq_self_iff_true, Bool.true_eq_false, Bool.false_eq_true]
  | true =>
    obtain ⟨r, hr, rfl, h5'⟩ := gm v hg
    obtain ⟨J1, f1, s1, t1, k1⟩ := c_fillTable (X := X) (d := 14) (L := L) (r := r) h v h5' hr (by omega)
    have hle : smF (isR w r) (2 * w 0) 4 ≤ 4 * (2 * w 0) := smF_le _ _ 4
    refine Both.mk (nI (smF (isR w r) (2 * w 0) 4)) J1 (K_X10_rests.e X 14 _ I L _ ?_) s1 (fun M L2 hM => ?_)
    · simp (disch := omega) only [c_hasTable h v, hg, f1, a_bi_i, a_bv_n, a_bl_l, a_bq_q, l_0, l_1, l_2, l_3, l_4, l_5, l_6, l_7, l_8, l_9, l_10, l_12, l_16, l_20, l_24, l_25, l_31, l_32, l_33, l_40, l_48, l_57, l_60, l_63, l_64, l_78, l_85, l_97, l_99, l_100, l_122, l_255, l_325, l_700, l_999, l_1000, l_1200, l_99999, l_100000, l_1000000, l_2000000000, l_N, n_add, n_mul, n_lt, n_out, n_div, n_dm, n_eq, n_toN, n_inN, n_ltN, n_nltN, n_neN, Nat.not_lt_zero, false_or, or_false, ite_y, ite_n, if_true, if_false, ite_tt, ite_ff, b_0, b_1, eq_self_iff_true, Bool.true_eq_false, Bool.false_eq_true]
      obtain ⟨-, -, c2⟩ := sum_loop (S := Unit) (F := fun n i _ => v_X10_rests_20 X 14 (nI n) (nI i) (J1, L, ())) (G := fun n i b _ => v_X10_rests_28 X 14 (nI n) (nI i) (nI b) (J1, L, ())) (P := fun _ => True) (p := isR w r) (B := 2 * w 0) (N := 4)
        (fun n i _ hi _ s hs => v_X10_rests_20.e X 14 _ _ J1 L s (by
          simp (disch := omega) only [a_bi_i, a_bv_n, a_bl_l, a_bq_q, l_0, l_1, l_2, l_3, l_4, l_5, l_6, l_7, l_8, l_9, l_10, l_12, l_16, l_20, l_24, l_25, l_31, l_32, l_33, l_40, l_48, l_57, l_60, l_63, l_64, l_78, l_85, l_97, l_99, l_100, l_122, l_255, l_325, l_700, l_999, l_1000, l_1200, l_99999, l_100000, l_1000000, l_2000000000, l_N, n_add, n_mul, n_lt, n_out, n_div, n_dm, n_eq, n_toN, n_inN, n_ltN, n_nltN, n_neN, Nat.not_lt_zero, false_or, or_false, ite_y, ite_n, if_true, if_false, ite_tt, ite_ff, b_0, b_1, eq_self_iff_true, Bool.true_eq_false, Bool.false_eq_true]
          exact hs))
        (fun n i b _ hn hi hb _ => ⟨(), trivial, fun s hs => v_X10_rests_28.e X 14 _ _ _ J1 L s (by
          simp (disch := omega) only [a_bi_i, a_bv_n, a_bl_l, a_bq_q, l_0, l_1, l_2, l_3, l_4, l_5, l_6, l_7, l_8, l_9, l_10, l_12, l_16, l_20, l_24, l_25, l_31, l_32, l_33, l_40, l_48, l_57, l_60, l_63, l_64, l_78, l_85, l_97, l_99, l_100, l_122, l_255, l_325, l_700, l_999, l_1000, l_1200, l_99999, l_100000, l_1000000, l_2000000000, l_N, n_add, n_mul, n_lt, n_out, n_div, n_dm, n_eq, n_toN, n_inN, n_ltN, n_nltN, n_neN, Nat.not_lt_zero, false_or, or_false, ite_y, ite_n, if_true, if_false, ite_tt, ite_ff, b_0, b_1, eq_self_iff_true, Bool.true_eq_false, Bool.false_eq_true, c_beginCount t1 v, c_isRest t1 v k1 h5' hi hb]
          cases hp : isR w r i b with
          | true => rw [hp] at hs; simp only [Bool.true_eq_false, if_false]; exact hs
          | false => rw [hp] at hs; simp only [if_true]; exact hs)⟩)
        (fun n i _ hi _ s hs => v_X10_rests_28.e X 14 _ _ _ J1 L s (by
          simp (disch := omega) only [a_bi_i, a_bv_n, a_bl_l, a_bq_q, l_0, l_1, l_2, l_3, l_4, l_5, l_6, l_7, l_8, l_9, l_10, l_12, l_16, l_20, l_24, l_25, l_31, l_32, l_33, l_40, l_48, l_57, l_60, l_63, l_64, l_78, l_85, l_97, l_99, l_100, l_122, l_255, l_325, l_700, l_999, l_1000, l_1200, l_99999, l_100000, l_1000000, l_2000000000, l_N, n_add, n_mul, n_lt, n_out, n_div, n_dm, n_eq, n_toN, n_inN, n_ltN, n_nltN, n_neN, Nat.not_lt_zero, false_or, or_false, ite_y, ite_n, if_true, if_false, ite_tt, ite_ff, b_0, b_1, eq_self_iff_true, Bool.true_eq_false, Bool.false_eq_true, c_beginCount t1 v, Nat.lt_irrefl]
          exact hs)) (s := ()) trivial
      refine c2 _ (v_X10_rests_20.e X 14 _ _ J1 L _ ?_)
      simp (disch := omega) only [a_bi_i, a_bv_n, a_bl_l, a_bq_q, l_0, l_1, l_2, l_3, l_4, l_5, l_6, l_7, l_8, l_9, l_10, l_12, l_16, l_20, l_24, l_25, l_31, l_32, l_33, l_40, l_48, l_57, l_60, l_63, l_64, l_78, l_85, l_97, l_99, l_100, l_122, l_255, l_325, l_700, l_999, l_1000, l_1200, l_99999, l_100000, l_1000000, l_2000000000, l_N, n_add, n_mul, n_lt, n_out, n_div, n_dm, n_eq, n_toN, n_inN, n_ltN, n_nltN, n_neN, Nat.not_lt_zero, false_or, or_false, ite_y, ite_n, if_true, if_false, ite_tt, ite_ff, b_0, b_1, eq_self_iff_true, Bool.true_eq_false, Bool.false_eq_true, Nat.lt_irrefl]
    · obtain ⟨M', m2, c2⟩ := sum_loop (S := A3 Int32) (F := fun n i K => v_X11_rests_15 X 14 (nI r) (nI n) (nI i) (K, L2, ())) (G := fun n i b K => v_X11_rests_23 X 14 (nI r) (nI n) (nI i) (nI b) (K, L2, ())) (P := fun K => Sm M K) (p := isR w r) (B := 2 * w 0) (N := 4)
        (fun n i K hi _ s hs => v_X11_rests_15.e X 14 _ _ _ K L2 s (by
          simp (disch := omega) only [a_bi_i, a_bv_n, a_bl_l, a_bq_q, l_0, l_1, l_2, l_3, l_4, l_5, l_6, l_7, l_8, l_9, l_10, l_12, l_16, l_20, l_24, l_25, l_31, l_32, l_33, l_40, l_48, l_57, l_60, l_63, l_64, l_78, l_85, l_97, l_99, l_100, l_122, l_255, l_325, l_700, l_999, l_1000, l_1200, l_99999, l_100000, l_1000000, l_2000000000, l_N, n_add, n_mul, n_lt, n_out, n_div, n_dm, n_eq, n_toN, n_inN, n_ltN, n_nltN, n_neN, Nat.not_lt_zero, false_or, or_false, ite_y, ite_n, if_true, if_false, ite_tt, ite_ff, b_0, b_1, eq_self_iff_true, Bool.true_eq_false, Bool.false_eq_true]
          exact hs))
        (fun n i b K hn hi hb hK => by
          have tK : TM K w := hM.sm hK
          obtain ⟨K2, g1, g2, -⟩ := m_isRest (X := X) (d := 14) (L := L2) (r := r) (rule := i) (b := b) tK v h5' hr hi hb (by omega)
          refine ⟨K2, hK.trans g2, fun s hs => v_X11_rests_23.e X 14 _ _ _ _ K L2 s ?_⟩
          rw [tK 0 (by decide)]
          simp (disch := omega) only [a_bi_i, a_bv_n, a_bl_l, a_bq_q, l_0, l_1, l_2, l_3, l_4, l_5, l_6, l_7, l_8, l_9, l_10, l_12, l_16, l_20, l_24, l_25, l_31, l_32, l_33, l_40, l_48, l_57, l_60, l_63, l_64, l_78, l_85, l_97, l_99, l_100, l_122, l_255, l_325, l_700, l_999, l_1000, l_1200, l_99999, l_100000, l_1000000, l_2000000000, l_N, n_add, n_mul, n_lt, n_out, n_div, n_dm, n_eq, n_toN, n_inN, n_ltN, n_nltN, n_neN, Nat.not_lt_zero, false_or, or_false, ite_y, ite_n, if_true, if_false, ite_tt, ite_ff, b_0, b_1, eq_self_iff_true, Bool.true_eq_false, Bool.false_eq_true, g1]
          cases hp : isR w r i b with
          | true => rw [hp] at hs; simp only [Bool.true_eq_false, if_false]; exact hs
          | false => rw [hp] at hs; simp only [if_true]; exact hs)
        (fun n i K hi hK s hs => v_X11_rests_23.e X 14 _ _ _ _ K L2 s (by
          rw [(hM.sm hK) 0 (by decide)]
          simp (disch := omega) only [a_bi_i, a_bv_n, a_bl_l, a_bq_q, l_0, l_1, l_2, l_3, l_4, l_5, l_6, l_7, l_8, l_9, l_10, l_12, l_16, l_20, l_24, l_25, l_31, l_32, l_33, l_40, l_48, l_57, l_60, l_63, l_64, l_78, l_85, l_97, l_99, l_100, l_122, l_255, l_325, l_700, l_999, l_1000, l_1200, l_99999, l_100000, l_1000000, l_2000000000, l_N, n_add, n_mul, n_lt, n_out, n_div, n_dm, n_eq, n_toN, n_inN, n_ltN, n_nltN, n_neN, Nat.not_lt_zero, false_or, or_false, ite_y, ite_n, if_true, if_false, ite_tt, ite_ff, b_0, b_1, eq_self_iff_true, Bool.true_eq_false, Bool.false_eq_true, Nat.lt_irrefl]
          exact hs)) (s := M) Sm.refl
      refine ⟨M', K_X11_rests.e X 14 _ M L2 _ ?_, m2⟩
      simp (disch := omega) only [m_isGame hM v, hg, a_bi_i, a_bv_n, a_bl_l, a_bq_q, l_0, l_1, l_2, l_3, l_4, l_5, l_6, l_7, l_8, l_9, l_10, l_12, l_16, l_20, l_24, l_25, l_31, l_32, l_33, l_40, l_48, l_57, l_60, l_63, l_64, l_78, l_85, l_97, l_99, l_100, l_122, l_255, l_325, l_700, l_999, l_1000, l_1200, l_99999, l_100000, l_1000000, l_2000000000, l_N, n_add, n_mul, n_lt, n_out, n_div, n_dm, n_eq, n_toN, n_inN, n_ltN, n_nltN, n_neN, Nat.not_lt_zero, false_or, or_false, ite_y, ite_n, if_true, if_false, ite_tt, ite_ff, b_0, b_1, eq_self_iff_true, Bool.true_eq_false, Bool.false_eq_true]
      refine c2 _ (v_X11_rests_15.e X 14 _ _ _ M' L2 _ ?_)
      simp (disch := omega) only [a_bi_i, a_bv_n, a_bl_l, a_bq_q, l_0, l_1, l_2, l_3, l_4, l_5, l_6, l_7, l_8, l_9, l_10, l_12, l_16, l_20, l_24, l_25, l_31, l_32, l_33, l_40, l_48, l_57, l_60, l_63, l_64, l_78, l_85, l_97, l_99, l_100, l_122, l_255, l_325, l_700, l_999, l_1000, l_1200, l_99999, l_100000, l_1000000, l_2000000000, l_N, n_add, n_mul, n_lt, n_out, n_div, n_dm, n_eq, n_toN, n_inN, n_ltN, n_nltN, n_neN, Nat.not_lt_zero, false_or, or_false, ite_y, ite_n, if_true, if_false, ite_tt, ite_ff, b_0, b_1, eq_self_iff_true, Bool.true_eq_false, Bool.false_eq_true, Nat.lt_irrefl]
theorem q_rest (h : TC I w) (v : Vw w) (a : Int32) : Both w (K_X10_rest X 15 a) (K_X11_rest X 15 a) I L := by
  obtain ⟨⟨h0, h1, h2, h3, h4, h5, h6, -⟩, -, vc, -⟩ := id v
  cases hg : (inr a (w 6) && decide (0 < w 5)) with
  | false =>
    refine Both.pure (-2) (K_X10_rest.e X 14 a I L _ ?_) (fun J L2 h => K_X11_rest.e X 14 a J L2 _ ?_)
    · simp (disch := omega) only [c_hasTable h v, hg, a_bi_i, a_bv_n, a_bl_l, a_bq_q, l_0, l_1, l_2, l_3, l_4, l_5, l_6, l_7, l_8, l_9, l_10, l_12, l_16, l_20, l_24, l_25, l_31, l_32, l_33, l_40, l_48, l_57, l_60, l_63, l_64, l_78, l_85, l_97, l_99, l_100, l_122, l_255, l_325, l_700, l_999, l_1000, l_1200, l_99999, l_100000, l_1000000, l_2000000000, l_N, n_add, n_mul, n_lt, n_out, n_div, n_dm, n_eq, n_toN, n_inN, n_ltN, n_nltN, n_neN, Nat.not_lt_zero, false_or, or_false, ite_y, ite_n, if_true, if_false, ite_tt, ite_ff, b_0, b_1, eq_self_iff_true, Bool.true_eq_false, Bool.false_eq_true]
    · simp (disch := omega) only [m_isGame h v, hg, a_bi_i, a_bv_n, a_bl_l, a_bq_q, l_0, l_1, l_2, l_3, l_4, l_5, l_6, l_7, l_8, l_9, l_10, l_12, l_16, l_20, l_24, l_25, l_31, l_32, l_33, l_40, l_48, l_57, l_60, l_63, l_64, l_78, l_85, l_97, l_99, l_100, l_122, l_255, l_325, l_700, l_999, l_1000, l_1200, l_99999, l_100000, l_1000000, l_2000000000, l_N, n_add, n_mul, n_lt, n_out, n_div, n_dm, n_eq, n_toN, n_inN, n_ltN, n_nltN, n_neN, Nat.not_lt_zero, false_or, or_false, ite_y, ite_n, if_true, if_false, ite_tt, ite_ff, b_0, b_1, eq_self_iff_true, Bool.true_eq_false, Bool.false_eq_true]
  | true =>
    obtain ⟨r, hr, rfl, h5'⟩ := gm v hg
    obtain ⟨J1, f1, s1, t1, k1⟩ := c_fillTable (X := X) (d := 14) (L := L) (r := r) h v h5' hr (by omega)
    refine Both.mk (nsV (nst (isR w r) (2 * w 0) 4 0)) J1 (K_X10_rest.e X 14 _ I L _ ?_) s1 (fun M L2 hM => ?_)
    · simp (disch := omega) only [c_hasTable h v, hg, f1, a_bi_i, a_bv_n, a_bl_l, a_bq_q, l_0, l_1, l_2, l_3, l_4, l_5, l_6, l_7, l_8, l_9, l_10, l_12, l_16, l_20, l_24, l_25, l_31, l_32, l_33, l_40, l_48, l_57, l_60, l_63, l_64, l_78, l_85, l_97, l_99, l_100, l_122, l_255, l_325, l_700, l_999, l_1000, l_1200, l_99999, l_100000, l_1000000, l_2000000000, l_N, n_add, n_mul, n_lt, n_out, n_div, n_dm, n_eq, n_toN, n_inN, n_ltN, n_nltN, n_neN, Nat.not_lt_zero, false_or, or_false, ite_y, ite_n, if_true, if_false, ite_tt, ite_ff, b_0, b_1, eq_self_iff_true, Bool.true_eq_false, Bool.false_eq_true]
      obtain ⟨-, -, c2⟩ := nst_loop (S := Unit) (F := fun i _ => v_X10_rest_18 X 14 (nI i) (J1, L, ())) (G := fun i b _ => v_X10_rest_25 X 14 (nI i) (nI b) (J1, L, ())) (P := fun _ => True) (out := fun _ => (J1, L, ())) (p := isR w r) (B := 2 * w 0) (N := 4)
        (fun i _ hi _ s hs => v_X10_rest_18.e X 14 _ J1 L s (by
          simp (disch := omega) only [a_bi_i, a_bv_n, a_bl_l, a_bq_q, l_0, l_1, l_2, l_3, l_4, l_5, l_6, l_7, l_8, l_9, l_10, l_12, l_16, l_20, l_24, l_25, l_31, l_32, l_33, l_40, l_48, l_57, l_60, l_63, l_64, l_78, l_85, l_97, l_99, l_100, l_122, l_255, l_325, l_700, l_999, l_1000, l_1200, l_99999, l_100000, l_1000000, l_2000000000, l_N, n_add, n_mul, n_lt, n_out, n_div, n_dm, n_eq, n_toN, n_inN, n_ltN, n_nltN, n_neN, Nat.not_lt_zero, false_or, or_false, ite_y, ite_n, if_true, if_false, ite_tt, ite_ff, b_0, b_1, eq_self_iff_true, Bool.true_eq_false, Bool.false_eq_true]
          exact hs))
        (fun i b _ hi hb _ hp => ⟨(), trivial, v_X10_rest_25.e X 14 _ _ J1 L _ (by
          simp (disch := omega) only [a_bi_i, a_bv_n, a_bl_l, a_bq_q, l_0, l_1, l_2, l_3, l_4, l_5, l_6, l_7, l_8, l_9, l_10, l_12, l_16, l_20, l_24, l_25, l_31, l_32, l_33, l_40, l_48, l_57, l_60, l_63, l_64, l_78, l_85, l_97, l_99, l_100, l_122, l_255, l_325, l_700, l_999, l_1000, l_1200, l_99999, l_100000, l_1000000, l_2000000000, l_N, n_add, n_mul, n_lt, n_out, n_div, n_dm, n_eq, n_toN, n_inN, n_ltN, n_nltN, n_neN, Nat.not_lt_zero, false_or, or_false, ite_y, ite_n, if_true, if_false, ite_tt, ite_ff, b_0, b_1, eq_self_iff_true, Bool.true_eq_false, Bool.false_eq_true, c_beginCount t1 v, c_isRest t1 v k1 h5' hi hb, hp])⟩)
        (fun i b _ hi hb _ hp => ⟨(), trivial, fun s hs => v_X10_rest_25.e X 14 _ _ J1 L s (by
          simp (disch := omega) only [a_bi_i, a_bv_n, a_bl_l, a_bq_q, l_0, l_1, l_2, l_3, l_4, l_5, l_6, l_7, l_8, l_9, l_10, l_12, l_16, l_20, l_24, l_25, l_31, l_32, l_33, l_40, l_48, l_57, l_60, l_63, l_64, l_78, l_85, l_97, l_99, l_100, l_122, l_255, l_325, l_700, l_999, l_1000, l_1200, l_99999, l_100000, l_1000000, l_2000000000, l_N, n_add, n_mul, n_lt, n_out, n_div, n_dm, n_eq, n_toN, n_inN, n_ltN, n_nltN, n_neN, Nat.not_lt_zero, false_or, or_false, ite_y, ite_n, if_true, if_false, ite_tt, ite_ff, b_0, b_1, eq_self_iff_true, Bool.true_eq_false, Bool.false_eq_true, c_beginCount t1 v, c_isRest t1 v k1 h5' hi hb, hp]
          exact hs)⟩)
        (fun i _ hi _ s hs => v_X10_rest_25.e X 14 _ _ J1 L s (by
          simp (disch := omega) only [a_bi_i, a_bv_n, a_bl_l, a_bq_q, l_0, l_1, l_2, l_3, l_4, l_5, l_6, l_7, l_8, l_9, l_10, l_12, l_16, l_20, l_24, l_25, l_31, l_32, l_33, l_40, l_48, l_57, l_60, l_63, l_64, l_78, l_85, l_97, l_99, l_100, l_122, l_255, l_325, l_700, l_999, l_1000, l_1200, l_99999, l_100000, l_1000000, l_2000000000, l_N, n_add, n_mul, n_lt, n_out, n_div, n_dm, n_eq, n_toN, n_inN, n_ltN, n_nltN, n_neN, Nat.not_lt_zero, false_or, or_false, ite_y, ite_n, if_true, if_false, ite_tt, ite_ff, b_0, b_1, eq_self_iff_true, Bool.true_eq_false, Bool.false_eq_true, c_beginCount t1 v, Nat.lt_irrefl]
          exact hs))
        (fun _ _ => v_X10_rest_18.e X 14 _ J1 L _ (by
          simp (disch := omega) only [a_bi_i, a_bv_n, a_bl_l, a_bq_q, l_0, l_1, l_2, l_3, l_4, l_5, l_6, l_7, l_8, l_9, l_10, l_12, l_16, l_20, l_24, l_25, l_31, l_32, l_33, l_40, l_48, l_57, l_60, l_63, l_64, l_78, l_85, l_97, l_99, l_100, l_122, l_255, l_325, l_700, l_999, l_1000, l_1200, l_99999, l_100000, l_1000000, l_2000000000, l_N, n_add, n_mul, n_lt, n_out, n_div, n_dm, n_eq, n_toN, n_inN, n_ltN, n_nltN, n_neN, Nat.not_lt_zero, false_or, or_false, ite_y, ite_n, if_true, if_false, ite_tt, ite_ff, b_0, b_1, eq_self_iff_true, Bool.true_eq_false, Bool.false_eq_true, Nat.lt_irrefl])) 4 0 () (by omega) trivial
      exact c2
    · obtain ⟨M', m2, c2⟩ := nst_loop (S := A3 Int32) (F := fun i K => v_X11_rest_13 X 14 (nI r) (nI i) (K, L2, ())) (G := fun i b K => v_X11_rest_20 X 14 (nI r) (nI i) (nI b) (K, L2, ())) (P := fun K => Sm M K) (out := fun K => (K, L2, ())) (p := isR w r) (B := 2 * w 0) (N := 4)
        (fun i K hi _ s hs => v_X11_rest_13.e X 14 _ _ K L2 s (by
          simp (disch := omega) only [a_bi_i, a_bv_n, a_bl_l, a_bq_q, l_0, l_1, l_2, l_3, l_4, l_5, l_6, l_7, l_8, l_9, l_10, l_12, l_16, l_20, l_24, l_25, l_31, l_32, l_33, l_40, l_48, l_57, l_60, l_63, l_64, l_78, l_85, l_97, l_99, l_100, l_122, l_255, l_325, l_700, l_999, l_1000, l_1200, l_99999, l_100000, l_1000000, l_2000000000, l_N, n_add, n_mul, n_lt, n_out, n_div, n_dm, n_eq, n_toN, n_inN, n_ltN, n_nltN, n_neN, Nat.not_lt_zero, false_or, or_false, ite_y, ite_n, if_true, if_false, ite_tt, ite_ff, b_0, b_1, eq_self_iff_true, Bool.true_eq_false, Bool.false_eq_true]
          exact hs))
        (fun i b K hi hb hK hp => by
          have tK : TM K w := hM.sm hK
          obtain ⟨K2, g1, g2, -⟩ := m_isRest (X := X) (d := 14) (L := L2) (r := r) (rule := i) (b := b) tK v h5' hr hi hb (by omega)
          refine ⟨K2, hK.trans g2, v_X11_rest_20.e X 14 _ _ _ K L2 _ ?_⟩
          rw [tK 0 (by decide)]
          simp (disch := omega) only [a_bi_i, a_bv_n, a_bl_l, a_bq_q, l_0, l_1, l_2, l_3, l_4, l_5, l_6, l_7, l_8, l_9, l_10, l_12, l_16, l_20, l_24, l_25, l_31, l_32, l_33, l_40, l_48, l_57, l_60, l_63, l_64, l_78, l_85, l_97, l_99, l_100, l_122, l_255, l_325, l_700, l_999, l_1000, l_1200, l_99999, l_100000, l_1000000, l_2000000000, l_N, n_add, n_mul, n_lt, n_out, n_div, n_dm, n_eq, n_toN, n_inN, n_ltN, n_nltN, n_neN, Nat.not_lt_zero, false_or, or_false, ite_y, ite_n, if_true, if_false, ite_tt, ite_ff, b_0, b_1, eq_self_iff_true, Bool.true_eq_false, Bool.false_eq_true, g1, hp])
        (fun i b K hi hb hK hp => by
          have tK : TM K w := hM.sm hK
          obtain ⟨K2, g1, g2, -⟩ := m_isRest (X := X) (d := 14) (L := L2) (r := r) (rule := i) (b := b) tK v h5' hr hi hb (by omega)
          refine ⟨K2, hK.trans g2, fun s hs => v_X11_rest_20.e X 14 _ _ _ K L2 s ?_⟩
          rw [tK 0 (by decide)]
          simp (disch := omega) only [a_bi_i, a_bv_n, a_bl_l, a_bq_q, l_0, l_1, l_2, l_3, l_4, l_5, l_6, l_7, l_8, l_9, l_10, l_12, l_16, l_20, l_24, l_25, l_31, l_32, l_33, l_40, l_48, l_57, l_60, l_63, l_64, l_78, l_85, l_97, l_99, l_100, l_122, l_255, l_325, l_700, l_999, l_1000, l_1200, l_99999, l_100000, l_1000000, l_2000000000, l_N, n_add, n_mul, n_lt, n_out, n_div, n_dm, n_eq, n_toN, n_inN, n_ltN, n_nltN, n_neN, Nat.not_lt_zero, false_or, or_false, ite_y, ite_n, if_true, if_false, ite_tt, ite_ff, b_0, b_1, eq_self_iff_true, Bool.true_eq_false, Bool.false_eq_true, g1, hp]
          exact hs)
        (fun i K hi hK s hs => v_X11_rest_20.e X 14 _ _ _ K L2 s (by
          rw [(hM.sm hK) 0 (by decide)]
          simp (disch := omega) only [a_bi_i, a_bv_n, a_bl_l, a_bq_q, l_0, l_1, l_2, l_3, l_4, l_5, l_6, l_7, l_8, l_9, l_10, l_12, l_16, l_20, l_24, l_25, l_31, l_32, l_33, l_40, l_48, l_57, l_60, l_63, l_64, l_78, l_85, l_97, l_99, l_100, l_122, l_255, l_325, l_700, l_999, l_1000, l_1200, l_99999, l_100000, l_1000000, l_2000000000, l_N, n_add, n_mul, n_lt, n_out, n_div, n_dm, n_eq, n_toN, n_inN, n_ltN, n_nltN, n_neN, Nat.not_lt_zero, false_or, or_false, ite_y, ite_n, if_true, if_false, ite_tt, ite_ff, b_0, b_1, eq_self_iff_true, Bool.true_eq_false, Bool.false_eq_true, Nat.lt_irrefl]
          exact hs))
        (fun K _ => v_X11_rest_13.e X 14 _ _ K L2 _ (by
          simp (disch := omega) only [a_bi_i, a_bv_n, a_bl_l, a_bq_q, l_0, l_1, l_2, l_3, l_4, l_5, l_6, l_7, l_8, l_9, l_10, l_12, l_16, l_20, l_24, l_25, l_31, l_32, l_33, l_40, l_48, l_57, l_60, l_63, l_64, l_78, l_85, l_97, l_99, l_100, l_122, l_255, l_325, l_700, l_999, l_1000, l_1200, l_99999, l_100000, l_1000000, l_2000000000, l_N, n_add, n_mul, n_lt, n_out, n_div, n_dm, n_eq, n_toN, n_inN, n_ltN, n_nltN, n_neN, Nat.not_lt_zero, false_or, or_false, ite_y, ite_n, if_true, if_false, ite_tt, ite_ff, b_0, b_1, eq_self_iff_true, Bool.true_eq_false, Bool.false_eq_true, Nat.lt_irrefl])) 4 0 M (by omega) Sm.refl
      refine ⟨M', K_X11_rest.e X 14 _ M L2 _ ?_, m2⟩
      simp (disch := omega) only [m_isGame hM v, hg, a_bi_i, a_bv_n, a_bl_l, a_bq_q, l_0, l_1, l_2, l_3, l_4, l_5, l_6, l_7, l_8, l_9, l_10, l_12, l_16, l_20, l_24, l_25, l_31, l_32, l_33, l_40, l_48, l_57, l_60, l_63, l_64, l_78, l_85, l_97, l_99, l_100, l_122, l_255, l_325, l_700, l_999, l_1000, l_1200, l_99999, l_100000, l_1000000, l_2000000000, l_N, n_add, n_mul, n_lt, n_out, n_div, n_dm, n_eq, n_toN, n_inN, n_ltN, n_nltN, n_neN, Nat.not_lt_zero, false_or, or_false, ite_y, ite_n, if_true, if_false, ite_tt, ite_ff, b_0, b_1, eq_self_iff_true, Bool.true_eq_false, Bool.false_eq_true]
      exact c2
def suF (w : TW) (r : Nat) : Nat → Nat
  | 0 => 0
  | k + 1 => if suF w r k < ear (fun b => tbN w r k b) (2 * w 0) then ear (fun b => tbN w r k b) (2 * w 0) else suF w r k
theorem suF_le {r : Nat} : ∀ k, suF w r k ≤ w 1 := by
  intro k
  induction k with
  | zero => exact Nat.zero_le _
  | succ k ih =>
    rw [suF]
    split
    · exact ear_le _ (fun _ => tbN_le) _
    · exact ih
theorem q_sure (h : TC I w) (v : Vw w) (a : Int32) : Both w (K_X10_sure X 15 a) (K_X11_sure X 15 a) I L := by
  obtain ⟨⟨h0, h1, h2, h3, h4, h5, h6, -⟩, -, vc, -⟩ := id v
  cases hg : (inr a (w 6) && decide (0 < w 5)) with
  | false =>
    refine Both.pure (-2) (K_X10_sure.e X 14 a I L _ ?_) (fun J L2 h => K_X11_sure.e X 14 a J L2 _ ?_)
    · simp (disch := omega) only [c_hasTable h v, hg, a_bi_i, a_bv_n, a_bl_l, a_bq_q, l_0, l_1, l_2, l_3, l_4, l_5, l_6, l_7, l_8, l_9, l_10, l_12, l_16, l_20, l_24, l_25, l_31, l_32, l_33, l_40, l_48, l_57, l_60, l_63, l_64, l_78, l_85, l_97, l_99, l_100, l_122, l_255, l_325, l_700, l_999, l_1000, l_1200, l_99999, l_100000, l_1000000, l_2000000000, l_N, n_add, n_mul, n_lt, n_out, n_div, n_dm, n_eq, n_toN, n_inN, n_ltN, n_nltN, n_neN, Nat.not_lt_zero, false_or, or_false, ite_y, ite_n, if_true, if_false, ite_tt, ite_ff, b_0, b_1, eq_self_iff_true, Bool.true_eq_false, Bool.false_eq_true]
    · simp (disch := omega) only [m_isGame h v, hg, a_bi_i, a_bv_n, a_bl_l, a_bq_q, l_0, l_1, l_2, l_3, l_4, l_5, l_6, l_7, l_8, l_9, l_10, l_12, l_16, l_20, l_24, l_25, l_31, l_32, l_33, l_40, l_48, l_57, l_60, l_63, l_64, l_78, l_85, l_97, l_99, l_100, l_122, l_255, l_325, l_700, l_999, l_1000, l_1200, l_99999, l_100000, l_1000000, l_2000000000, l_N, n_add, n_mul, n_lt, n_out, n_div, n_dm, n_eq, n_toN, n_inN, n_ltN, n_nltN, n_neN, Nat.not_lt_zero, false_or, or_false, ite_y, ite_n, if_true, if_false, ite_tt, ite_ff, b_0, b_1, eq_self_iff_true, Bool.true_eq_false, Bool.false_eq_true]
  | true =>
    obtain ⟨r, hr, rfl, h5'⟩ := gm v hg
    have hw0 : 2 ≤ w 0 := (v.live (Or.inr (Or.inr (Or.inl h5')))).2.1
    obtain ⟨J1, f1, s1, t1, k1⟩ := c_fillTable (X := X) (d := 14) (L := L) (r := r) h v h5' hr (by omega)
    refine Both.mk (nI (suF w r 4)) J1 (K_X10_sure.e X 14 _ I L _ ?_) s1 (fun M L2 hM => ?_)
    · simp (disch := omega) only [c_hasTable h v, hg, f1, a_bi_i, a_bv_n, a_bl_l, a_bq_q, l_0, l_1, l_2, l_3, l_4, l_5, l_6, l_7, l_8, l_9, l_10, l_12, l_16, l_20, l_24, l_25, l_31, l_32, l_33, l_40, l_48, l_57, l_60, l_63, l_64, l_78, l_85, l_97, l_99, l_100, l_122, l_255, l_325, l_700, l_999, l_1000, l_1200, l_99999, l_100000, l_1000000, l_2000000000, l_N, n_add, n_mul, n_lt, n_out, n_div, n_dm, n_eq, n_toN, n_inN, n_ltN, n_nltN, n_neN, Nat.not_lt_zero, false_or, or_false, ite_y, ite_n, if_true, if_false, ite_tt, ite_ff, b_0, b_1, eq_self_iff_true, Bool.true_eq_false, Bool.false_eq_true]
      obtain ⟨-, -, c2⟩ := loop_z (S := Unit) (F := fun k _ => v_X10_sure_20 X 14 (nI (suF w r k)) (nI k) (J1, L, ())) (P := fun _ _ => True) 4 () trivial (fun k _ hk _ => ⟨(), trivial, fun s hs => v_X10_sure_20.e X 14 _ _ J1 L s (by
        have b1 : suF w r k ≤ w 1 := suF_le k
        have b2 : ear (fun b => tbN w r k b) (2 * w 0) ≤ w 1 := ear_le _ (fun _ => tbN_le) _
        have hs : v_X10_sure_20 X 14 (nI (suF w r (k + 1))) (nI (k + 1)) (J1, L, ()) = some s := hs
        rw [suF] at hs
        simp (disch := omega) only [a_bi_i, a_bv_n, a_bl_l, a_bq_q, l_0, l_1, l_2, l_3, l_4, l_5, l_6, l_7, l_8, l_9, l_10, l_12, l_16, l_20, l_24, l_25, l_31, l_32, l_33, l_40, l_48, l_57, l_60, l_63, l_64, l_78, l_85, l_97, l_99, l_100, l_122, l_255, l_325, l_700, l_999, l_1000, l_1200, l_99999, l_100000, l_1000000, l_2000000000, l_N, n_add, n_mul, n_lt, n_out, n_div, n_dm, n_eq, n_toN, n_inN, n_ltN, n_nltN, n_neN, Nat.not_lt_zero, false_or, or_false, ite_y, ite_n, if_true, if_false, ite_tt, ite_ff, b_0, b_1, eq_self_iff_true, Bool.true_eq_false, Bool.false_eq_true, c_earliest t1 v k1 h5' hk, c_max]
        by_cases hlt : suF w r k < ear (fun b => tbN w r k b) (2 * w 0)
        · rw [if_pos hlt] at hs ⊢
          exact hs
        · rw [if_neg hlt] at hs ⊢
          exact hs)⟩)
      refine c2 _ (v_X10_sure_20.e X 14 _ _ J1 L _ ?_)
      simp (disch := omega) only [a_bi_i, a_bv_n, a_bl_l, a_bq_q, l_0, l_1, l_2, l_3, l_4, l_5, l_6, l_7, l_8, l_9, l_10, l_12, l_16, l_20, l_24, l_25, l_31, l_32, l_33, l_40, l_48, l_57, l_60, l_63, l_64, l_78, l_85, l_97, l_99, l_100, l_122, l_255, l_325, l_700, l_999, l_1000, l_1200, l_99999, l_100000, l_1000000, l_2000000000, l_N, n_add, n_mul, n_lt, n_out, n_div, n_dm, n_eq, n_toN, n_inN, n_ltN, n_nltN, n_neN, Nat.not_lt_zero, false_or, or_false, ite_y, ite_n, if_true, if_false, ite_tt, ite_ff, b_0, b_1, eq_self_iff_true, Bool.true_eq_false, Bool.false_eq_true, Nat.lt_irrefl]
    · obtain ⟨M', m2, c2⟩ := loop_z (S := A3 Int32) (F := fun k K => v_X11_sure_15 X 14 (nI r) (nI (suF w r k)) (nI k) (K, L2, ())) (P := fun _ K => Sm M K) 4 M Sm.refl (fun k K hk hK => by
        have tK : TM K w := hM.sm hK
        have ha : amn (fun b => tbN w r k b) (2 * w 0) < 2 * w 0 := by
          obtain ⟨j, hj⟩ : ∃ j, 2 * w 0 = j + 1 := ⟨2 * w 0 - 1, by omega⟩
          have := amn_lt (fun b => tbN w r k b) j
          rw [hj]
          omega
        obtain ⟨K2, g1, g2, t2⟩ := m_answerOf (X := X) (d := 14) (L := L2) (r := r) (rule := k) tK v h5' hr (by omega) (by omega)
        obtain ⟨K3, g3, g4, t3⟩ := m_tableOf (X := X) (d := 14) (L := L2) (r := r) (rule := k) t2 v h5' hr (by omega) ha (by omega)
        refine ⟨K3, (hK.trans g2).trans g4, fun s hs => v_X11_sure_15.e X 14 _ _ _ K L2 s ?_⟩
        have b1 : suF w r k ≤ w 1 := suF_le k
        have b2 : ear (fun b => tbN w r k b) (2 * w 0) ≤ w 1 := ear_le _ (fun _ => tbN_le) _
        rw [show tbN w r k (amn (fun b => tbN w r k b) (2 * w 0)) = ear (fun b => tbN w r k b) (2 * w 0) from amn_ear (fun b => tbN w r k b) _] at g3
        have hs : v_X11_sure_15 X 14 (nI r) (nI (suF w r (k + 1))) (nI (k + 1)) (K3, L2, ()) = some s := hs
        rw [suF] at hs
        simp (disch := omega) only [a_bi_i, a_bv_n, a_bl_l, a_bq_q, l_0, l_1, l_2, l_3, l_4, l_5, l_6, l_7, l_8, l_9, l_10, l_12, l_16, l_20, l_24, l_25, l_31, l_32, l_33, l_40, l_48, l_57, l_60, l_63, l_64, l_78, l_85, l_97, l_99, l_100, l_122, l_255, l_325, l_700, l_999, l_1000, l_1200, l_99999, l_100000, l_1000000, l_2000000000, l_N, n_add, n_mul, n_lt, n_out, n_div, n_dm, n_eq, n_toN, n_inN, n_ltN, n_nltN, n_neN, Nat.not_lt_zero, false_or, or_false, ite_y, ite_n, if_true, if_false, ite_tt, ite_ff, b_0, b_1, eq_self_iff_true, Bool.true_eq_false, Bool.false_eq_true, g1, g3, c_max]
        by_cases hlt : suF w r k < ear (fun b => tbN w r k b) (2 * w 0)
        · rw [if_pos hlt] at hs ⊢
          exact hs
        · rw [if_neg hlt] at hs ⊢
          exact hs)
      refine ⟨M', K_X11_sure.e X 14 _ M L2 _ ?_, m2⟩
      simp (disch := omega) only [m_isGame hM v, hg, a_bi_i, a_bv_n, a_bl_l, a_bq_q, l_0, l_1, l_2, l_3, l_4, l_5, l_6, l_7, l_8, l_9, l_10, l_12, l_16, l_20, l_24, l_25, l_31, l_32, l_33, l_40, l_48, l_57, l_60, l_63, l_64, l_78, l_85, l_97, l_99, l_100, l_122, l_255, l_325, l_700, l_999, l_1000, l_1200, l_99999, l_100000, l_1000000, l_2000000000, l_N, n_add, n_mul, n_lt, n_out, n_div, n_dm, n_eq, n_toN, n_inN, n_ltN, n_nltN, n_neN, Nat.not_lt_zero, false_or, or_false, ite_y, ite_n, if_true, if_false, ite_tt, ite_ff, b_0, b_1, eq_self_iff_true, Bool.true_eq_false, Bool.false_eq_true]
      refine c2 _ (v_X11_sure_15.e X 14 _ _ _ M' L2 _ ?_)
      simp (disch := omega) only [a_bi_i, a_bv_n, a_bl_l, a_bq_q, l_0, l_1, l_2, l_3, l_4, l_5, l_6, l_7, l_8, l_9, l_10, l_12, l_16, l_20, l_24, l_25, l_31, l_32, l_33, l_40, l_48, l_57, l_60, l_63, l_64, l_78, l_85, l_97, l_99, l_100, l_122, l_255, l_325, l_700, l_999, l_1000, l_1200, l_99999, l_100000, l_1000000, l_2000000000, l_N, n_add, n_mul, n_lt, n_out, n_div, n_dm, n_eq, n_toN, n_inN, n_ltN, n_nltN, n_neN, Nat.not_lt_zero, false_or, or_false, ite_y, ite_n, if_true, if_false, ite_tt, ite_ff, b_0, b_1, eq_self_iff_true, Bool.true_eq_false, Bool.false_eq_true, Nat.lt_irrefl]
end
