/-! table, reply, answer, rests, rest, sure -/
section
variable {X : AX} {d : Nat} {I J : A3 Int32} {L : A3 Int64} {w : TW}
theorem c_hasTable (h : TC I w) (v : Vw w) {a : Int32} (hd : 2 ≤ d) : K_X10_hasTable X d a (I, L, ()) = some (some (aI (bI (inr a (w 6) && decide (0 < w 5)))), (I, L, ())) := by
  obtain ⟨e, rfl⟩ : ∃ e, d = e + 1 := ⟨d - 1, by omega⟩
  obtain ⟨⟨-, -, -, -, -, w5, -⟩, -⟩ := id v
  refine K_X10_hasTable.e X e a I L _ ?_
  have h0 : inr (nI 0) (w 5) = decide (0 < w 5) := inr_n (by omega) (by omega)
  simp (disch := omega) only [a_bi_i, a_bv_n, a_bl_l, a_bq_q, l_0, l_1, l_2, l_3, l_4, l_5, l_6, l_7, l_8, l_9, l_10, l_12, l_16, l_20, l_24, l_25, l_31, l_32, l_33, l_40, l_48, l_57, l_60, l_63, l_64, l_78, l_85, l_97, l_99, l_100, l_122, l_255, l_325, l_700, l_999, l_1000, l_1200, l_99999, l_100000, l_1000000, l_2000000000, l_N, n_add, n_mul, n_lt, n_out, n_div, n_dm, n_eq, n_toN, n_inN, n_ltN, n_nltN, n_neN, Nat.not_lt_zero, false_or, or_false, ite_y, ite_n, if_true, if_false, ite_tt, ite_ff, b_0, b_1, eq_self_iff_true, Bool.true_eq_false, Bool.false_eq_true, c_hasRider h v, c_hasInspector h v, h0]
  cases inr a (w 6) <;> cases decide (0 < w 5) <;> rfl
theorem m_isGame (h : TM I w) (v : Vw w) {a : Int32} (hd : 3 ≤ d) : K_X11_isGame X d a (I, L, ()) = some (some (aI (bI (inr a (w 6) && decide (0 < w 5)))), (I, L, ())) := by
  obtain ⟨e, rfl⟩ : ∃ e, d = e + 1 := ⟨d - 1, by omega⟩
  obtain ⟨⟨-, -, -, -, -, w5, -⟩, -⟩ := id v
  refine K_X11_isGame.e X e a I L _ ?_
  simp (disch := omega) only [a_bi_i, a_bv_n, a_bl_l, a_bq_q, m_isRider h v]
  rw [h 5 (by decide)]
  simp (disch := omega) only [a_bi_i, a_bv_n, a_bl_l, a_bq_q, l_0, l_1, l_2, l_3, l_4, l_5, l_6, l_7, l_8, l_9, l_10, l_12, l_16, l_20, l_24, l_25, l_31, l_32, l_33, l_40, l_48, l_57, l_60, l_63, l_64, l_78, l_85, l_97, l_99, l_100, l_122, l_255, l_325, l_700, l_999, l_1000, l_1200, l_99999, l_100000, l_1000000, l_2000000000, l_N, n_add, n_mul, n_lt, n_out, n_div, n_dm, n_eq, n_toN, n_inN, n_ltN, n_nltN, n_neN, Nat.not_lt_zero, false_or, or_false, ite_y, ite_n, if_true, if_false, ite_tt, ite_ff, b_0, b_1, eq_self_iff_true, Bool.true_eq_false, Bool.false_eq_true]
  cases inr a (w 6) <;> by_cases h5 : 0 < w 5 <;> simp [h5, bI]
theorem c_isRule {a : Int32} (hd : 1 ≤ d) : K_X10_isRule X d a (I, L, ()) = some (some (aI (bI (inr a 4))), (I, L, ())) := by
  obtain ⟨e, rfl⟩ : ∃ e, d = e + 1 := ⟨d - 1, by omega⟩
  exact K_X10_isRule.e X e a I L _ has_val
theorem gm {a : Int32} (v : Vw w) (hg : (inr a (w 6) && decide (0 < w 5)) = true) : ∃ r, r < w 6 ∧ a = nI r ∧ 0 < w 5 := by
  rw [Bool.and_eq_true] at hg
  obtain ⟨⟨-, -, -, -, -, -, w6, -⟩, -⟩ := id v
  obtain ⟨r, h1, h2⟩ := inr_ex (by omega) hg.1
  exact ⟨r, h1, h2, of_decide_eq_true hg.2⟩
theorem q_table (h : TC I w) (v : Vw w) (a b c : Int32) : Both w (K_X10_table X 15 a b c) (K_X11_table X 15 a b c) I L := by
  obtain ⟨⟨h0, h1, h2, h3, h4, h5, h6, -⟩, -, vc, -⟩ := id v
  cases hg : (inr a (w 6) && decide (0 < w 5)) with
  | false =>
    refine Both.pure (-2) (K_X10_table.e X 14 a b c I L _ ?_) (fun J L2 h => K_X11_table.e X 14 a b c J L2 _ ?_)
    · simp (disch := omega) only [c_hasTable h v, hg, a_bi_i, a_bv_n, a_bl_l, a_bq_q, l_0, l_1, l_2, l_3, l_4, l_5, l_6, l_7, l_8, l_9, l_10, l_12, l_16, l_20, l_24, l_25, l_31, l_32, l_33, l_40, l_48, l_57, l_60, l_63, l_64, l_78, l_85, l_97, l_99, l_100, l_122, l_255, l_325, l_700, l_999, l_1000, l_1200, l_99999, l_100000, l_1000000, l_2000000000, l_N, n_add, n_mul, n_lt, n_out, n_div, n_dm, n_eq, n_toN, n_inN, n_ltN, n_nltN, n_neN, Nat.not_lt_zero, false_or, or_false, ite_y, ite_n, if_true, if_false, ite_tt, ite_ff, b_0, b_1, eq_self_iff_true, Bool.true_eq_false, Bool.false_eq_true]
    · simp (disch := omega) only [m_isGame h v, hg, a_bi_i, a_bv_n, a_bl_l, a_bq_q, l_0, l_1, l_2, l_3, l_4, l_5, l_6, l_7, l_8, l_9, l_10, l_12, l_16, l_20, l_24, l_25, l_31, l_32, l_33, l_40, l_48, l_57, l_60, l_63, l_64, l_78, l_85, l_97, l_99, l_100, l_122, l_255, l_325, l_700, l_999, l_1000, l_1200, l_99999, l_100000, l_1000000, l_2000000000, l_N, n_add, n_mul, n_lt, n_out, n_div, n_dm, n_eq, n_toN, n_inN, n_ltN, n_nltN, n_neN, Nat.not_lt_zero, false_or, or_false, ite_y, ite_n, if_true, if_false, ite_tt, ite_ff, b_0, b_1, eq_self_iff_true, Bool.true_eq_false, Bool.false_eq_true]
  | true =>
    obtain ⟨r, hr, rfl, h5'⟩ := gm v hg
    cases hb : inr b 4 with
    | false =>
      refine Both.pure (-2) (K_X10_table.e X 14 _ b c I L _ ?_) (fun J L2 h => K_X11_table.e X 14 _ b c J L2 _ ?_)
      · simp (disch := omega) only [c_hasTable h v, hg, c_isRule, hb, a_bi_i, a_bv_n, a_bl_l, a_bq_q, l_0, l_1, l_2, l_3, l_4, l_5, l_6, l_7, l_8, l_9, l_10, l_12, l_16, l_20, l_24, l_25, l_31, l_32, l_33, l_40, l_48, l_57, l_60, l_63, l_64, l_78, l_85, l_97, l_99, l_100, l_122, l_255, l_325, l_700, l_999, l_1000, l_1200, l_99999, l_100000, l_1000000, l_2000000000, l_N, n_add, n_mul, n_lt, n_out, n_div, n_dm, n_eq, n_toN, n_inN, n_ltN, n_nltN, n_neN, Nat.not_lt_zero, false_or, or_false, ite_y, ite_n, if_true, if_false, ite_tt, ite_ff, b_0, b_1, eq_self_iff_true, Bool.true_eq_false, Bool.false_eq_true]
      · simp (disch := omega) only [m_isGame h v, hg, m_isRule, hb, a_bi_i, a_bv_n, a_bl_l, a_bq_q, l_0, l_1, l_2, l_3, l_4, l_5, l_6, l_7, l_8, l_9, l_10, l_12, l_16, l_20, l_24, l_25, l_31, l_32, l_33, l_40, l_48, l_57, l_60, l_63, l_64, l_78, l_85, l_97, l_99, l_100, l_122, l_255, l_325, l_700, l_999, l_1000, l_1200, l_99999, l_100000, l_1000000, l_2000000000, l_N, n_add, n_mul, n_lt, n_out, n_div, n_dm, n_eq, n_toN, n_inN, n_ltN, n_nltN, n_neN, Nat.not_lt_zero, false_or, or_false, ite_y, ite_n, if_true, if_false, ite_tt, ite_ff, b_0, b_1, eq_self_iff_true, Bool.true_eq_false, Bool.false_eq_true]
    | true =>
      obtain ⟨rule, hru, rfl⟩ := inr_ex (by omega) hb
      cases hc : inr c (2 * w 0) with
      | false =>
        refine Both.pure (-2) (K_X10_table.e X 14 _ _ c I L _ ?_) (fun J L2 h => K_X11_table.e X 14 _ _ c J L2 _ ?_)
        · simp (disch := omega) only [c_hasTable h v, hg, c_isRule, hb, c_hasBegin h v, hc, a_bi_i, a_bv_n, a_bl_l, a_bq_q, l_0, l_1, l_2, l_3, l_4, l_5, l_6, l_7, l_8, l_9, l_10, l_12, l_16, l_20, l_24, l_25, l_31, l_32, l_33, l_40, l_48, l_57, l_60, l_63, l_64, l_78, l_85, l_97, l_99, l_100, l_122, l_255, l_325, l_700, l_999, l_1000, l_1200, l_99999, l_100000, l_1000000, l_2000000000, l_N, n_add, n_mul, n_lt, n_out, n_div, n_dm, n_eq, n_toN, n_inN, n_ltN, n_nltN, n_neN, Nat.not_lt_zero, false_or, or_false, ite_y, ite_n, if_true, if_false, ite_tt, ite_ff, b_0, b_1, eq_self_iff_true, Bool.true_eq_false, Bool.false_eq_true]
        · simp (disch := omega) only [m_isGame h v, hg, m_isRule, hb, m_isBegin h v, hc, a_bi_i, a_bv_n, a_bl_l, a_bq_q, l_0, l_1, l_2, l_3, l_4, l_5, l_6, l_7, l_8, l_9, l_10, l_12, l_16, l_20, l_24, l_25, l_31, l_32, l_33, l_40, l_48, l_57, l_60, l_63, l_64, l_78, l_85, l_97, l_99, l_100, l_122, l_255, l_325, l_700, l_999, l_1000, l_1200, l_99999, l_100000, l_1000000, l_2000000000, l_N, n_add, n_mul, n_lt, n_out, n_div, n_dm, n_eq, n_toN, n_inN, n_ltN, n_nltN, n_neN, Nat.not_lt_zero, false_or, or_false, ite_y, ite_n, if_true, if_false, ite_tt, ite_ff, b_0, b_1, eq_self_iff_true, Bool.true_eq_false, Bool.false_eq_true]
      | true =>
        obtain ⟨z, hz, rfl⟩ := inr_ex (by omega) hc
        obtain ⟨J1, f1, f2, f3⟩ := c_follow (X := X) (d := 14) (L := L) (q := z + 3) h v h5' hz (by omega)
        have s1 : Sc I J1 := Sc.of (Rq.rw (l := [14]) f2 (by decide)).fm (by decide)
        have f1' : K_X1_follow X 14 (z + 3) 0 (nI 0) (nI z) (I, L, ()) = some (none, (J1, L, ())) := f1
        obtain ⟨J2, g1, g2, -⟩ := c_tableMark (X := X) (d := 14) (L := L) (r := r) (rule := rule) (b := z) (h.sc s1) v h5' hr (by omega) hz f3 (by omega)
        refine Both.mk (nI (tbN w r rule z)) J2 (K_X10_table.e X 14 _ _ _ I L _ ?_) (s1.trans g2.sc) (fun M L2 hM => ?_)
        · simp (disch := omega) only [c_hasTable h v, hg, c_isRule, hb, c_hasBegin h v, hc, f1', g1, a_bi_i, a_bv_n, a_bl_l, a_bq_q, l_0, l_1, l_2, l_3, l_4, l_5, l_6, l_7, l_8, l_9, l_10, l_12, l_16, l_20, l_24, l_25, l_31, l_32, l_33, l_40, l_48, l_57, l_60, l_63, l_64, l_78, l_85, l_97, l_99, l_100, l_122, l_255, l_325, l_700, l_999, l_1000, l_1200, l_99999, l_100000, l_1000000, l_2000000000, l_N, n_add, n_mul, n_lt, n_out, n_div, n_dm, n_eq, n_toN, n_inN, n_ltN, n_nltN, n_neN, Nat.not_lt_zero, false_or, or_false, ite_y, ite_n, if_true, if_false, ite_tt, ite_ff, b_0, b_1, eq_self_iff_true, Bool.true_eq_false, Bool.false_eq_true]
        · obtain ⟨M', m1, m2, -⟩ := m_tableOf (X := X) (d := 14) (L := L2) (r := r) (rule := rule) (b := z) hM v h5' hr (by omega) hz (by omega)
          refine ⟨M', K_X11_table.e X 14 _ _ _ M L2 _ ?_, m2⟩
          simp (disch := omega) only [m_isGame hM v, hg, m_isRule, hb, m_isBegin hM v, hc, m1, a_bi_i, a_bv_n, a_bl_l, a_bq_q, l_0, l_1, l_2, l_3, l_4, l_5, l_6, l_7, l_8, l_9, l_10, l_12, l_16, l_20, l_24, l_25, l_31, l_32, l_33, l_40, l_48, l_57, l_60, l_63, l_64, l_78, l_85, l_97, l_99, l_100, l_122, l_255, l_325, l_700, l_999, l_1000, l_1200, l_99999, l_100000, l_1000000, l_2000000000, l_N, n_add, n_mul, n_lt, n_out, n_div, n_dm, n_eq, n_toN, n_inN, n_ltN, n_nltN, n_neN, Nat.not_lt_zero, false_or, or_false, ite_y, ite_n, if_true, if_false, ite_tt, ite_ff, b_0, b_1, eq_self_iff_true, Bool.true_eq_false, Bool.false_eq_true]
/-- whether a pair is a rest -/
def grF (w : TW) (r rule b o : Nat) : Bool := decide (tbN w r rule b < tbN w r o b)
def isR (w : TW) (r rule b : Nat) : Bool := (fnd 4 (grF w r rule b)).isNone && decide (tbN w r rule b = ear (fun b => tbN w r rule b) (2 * w 0))
theorem m_replyOf {r b : Nat} (h : TM I w) (v : Vw w) (h5 : 0 < w 5) (hr : r < w 6) (hb : b < 2 * w 0) (hd : 9 ≤ d) : ∃ J, K_X11_replyOf X d (nI r) (nI b) (I, L, ()) = some (some (aI (nI (amx (fun rule => tbN w r rule b) 4))), (J, L, ())) ∧ Sm I J ∧ TM J w := by
  obtain ⟨e, rfl⟩ : ∃ e, d = e + 1 := ⟨d - 1, by omega⟩
  obtain ⟨⟨w0, w1, -⟩, -⟩ := id v
  obtain ⟨M, c1, c2⟩ := loop_up (F := fun k (K : A3 Int32) => v_X11_replyOf_5 X e (nI r) (nI b) (nI (amx (fun rule => tbN w r rule b) k)) (nI k) (K, L, ())) (P := fun k K => Sm I K ∧ 1 ≤ k) (n := 4) (fun k K hk hP => by
    obtain ⟨s1, hk1⟩ := hP
    have tK : TM K w := h.sm s1
    obtain ⟨K2, g1, g2, t2⟩ := m_tableOf (X := X) (d := e) (L := L) (r := r) (rule := k) (b := b) tK v h5 hr (by omega) hb (by omega)
    have ha : amx (fun rule => tbN w r rule b) k ≤ 3 := by
      obtain ⟨j, rfl⟩ : ∃ j, k = j + 1 := ⟨k - 1, by omega⟩
      have := amx_lt (fun rule => tbN w r rule b) j
      omega
    obtain ⟨K3, g3, g4, t3⟩ := m_tableOf (X := X) (d := e) (L := L) (r := r) (b := b) t2 v h5 hr ha hb (by omega)
    refine ⟨K3, ⟨(s1.trans g2).trans g4, by omega⟩, fun s hs => v_X11_replyOf_5.e X e _ _ _ _ K L s ?_⟩
    have b1 : tbN w r k b ≤ w 1 := tbN_le
    have b2 : tbN w r (amx (fun rule => tbN w r rule b) k) b ≤ w 1 := tbN_le
    rw [amx] at hs
    by_cases hlt : tbN w r (amx (fun rule => tbN w r rule b) k) b < tbN w r k b
    · rw [if_pos hlt] at hs
      simp (disch := omega) only [a_bi_i, a_bv_n, a_bl_l, a_bq_q, l_0, l_1, l_2, l_3, l_4, l_5, l_6, l_7, l_8, l_9, l_10, l_12, l_16, l_20, l_24, l_25, l_31, l_32, l_33, l_40, l_48, l_57, l_60, l_63, l_64, l_78, l_85, l_97, l_99, l_100, l_122, l_255, l_325, l_700, l_999, l_1000, l_1200, l_99999, l_100000, l_1000000, l_2000000000, l_N, n_add, n_mul, n_lt, n_out, n_div, n_dm, n_eq, n_toN, n_inN, n_ltN, n_nltN, n_neN, Nat.not_lt_zero, false_or, or_false, ite_y, ite_n, if_true, if_false, ite_tt, ite_ff, b_0, b_1, eq_self_iff_true, Bool.true_eq_false, Bool.false_eq_true, g1, g3]
      exact hs
    · rw [if_neg hlt] at hs
      simp (disch := omega) only [a_bi_i, a_bv_n, a_bl_l, a_bq_q, l_0, l_1, l_2, l_3, l_4, l_5, l_6, l_7, l_8, l_9, l_10, l_12, l_16, l_20, l_24, l_25, l_31, l_32, l_33, l_40, l_48, l_57, l_60, l_63, l_64, l_78, l_85, l_97, l_99, l_100, l_122, l_255, l_325, l_700, l_999, l_1000, l_1200, l_99999, l_100000, l_1000000, l_2000000000, l_N, n_add, n_mul, n_lt, n_out, n_div, n_dm, n_eq, n_toN, n_inN, n_ltN, n_nltN, n_neN, Nat.not_lt_zero, false_or, or_false, ite_y, ite_n, if_true, if_false, ite_tt, ite_ff, b_0, b_1, eq_self_iff_true, Bool.true_eq_false, Bool.false_eq_true, g1, g3, hlt]
      exact hs) 3 1 I (by omega) ⟨Sm.refl, by omega⟩
  refine ⟨M, K_X11_replyOf.e X e _ _ I L _ ?_, c1.1, h.sm c1.1⟩
  rw [amx_1] at c2
  refine c2 _ (v_X11_replyOf_5.e X e _ _ _ _ M L _ ?_)
  simp (disch := omega) only [a_bi_i, a_bv_n, a_bl_l, a_bq_q, l_0, l_1, l_2, l_3, l_4, l_5, l_6, l_7, l_8, l_9, l_10, l_12, l_16, l_20, l_24, l_25, l_31, l_32, l_33, l_40, l_48, l_57, l_60, l_63, l_64, l_78, l_85, l_97, l_99, l_100, l_122, l_255, l_325, l_700, l_999, l_1000, l_1200, l_99999, l_100000, l_1000000, l_2000000000, l_N, n_add, n_mul, n_lt, n_out, n_div, n_dm, n_eq, n_toN, n_inN, n_ltN, n_nltN, n_neN, Nat.not_lt_zero, false_or, or_false, ite_y, ite_n, if_true, if_false, ite_tt, ite_ff, b_0, b_1, eq_self_iff_true, Bool.true_eq_false, Bool.false_eq_true, Nat.lt_irrefl]
theorem m_answerOf {r rule : Nat} (h : TM I w) (v : Vw w) (h5 : 0 < w 5) (hr : r < w 6) (hru : rule ≤ 3) (hd : 9 ≤ d) : ∃ J, K_X11_answerOf X d (nI r) (nI rule) (I, L, ()) = some (some (aI (nI (amn (fun b => tbN w r rule b) (2 * w 0)))), (J, L, ())) ∧ Sm I J ∧ TM J w := by
  obtain ⟨e, rfl⟩ : ∃ e, d = e + 1 := ⟨d - 1, by omega⟩
  obtain ⟨⟨w0, w1, -⟩, -⟩ := id v
  have hw0 : 2 ≤ w 0 := (v.live (Or.inr (Or.inr (Or.inl h5)))).2.1
  obtain ⟨M, c1, c2⟩ := loop_up (F := fun k (K : A3 Int32) => v_X11_answerOf_5 X e (nI r) (nI rule) (nI (amn (fun b => tbN w r rule b) k)) (nI k) (K, L, ())) (P := fun k K => Sm I K ∧ 1 ≤ k) (n := 2 * w 0) (fun k K hk hP => by
    obtain ⟨s1, hk1⟩ := hP
    have tK : TM K w := h.sm s1
    obtain ⟨K2, g1, g2, t2⟩ := m_tableOf (X := X) (d := e) (L := L) (r := r) (rule := rule) (b := k) tK v h5 hr (by omega) hk (by omega)
    have ha : amn (fun b => tbN w r rule b) k < 2 * w 0 := by
      obtain ⟨j, rfl⟩ : ∃ j, k = j + 1 := ⟨k - 1, by omega⟩
      have := amn_lt (fun b => tbN w r rule b) j
      omega
    obtain ⟨K3, g3, g4, t3⟩ := m_tableOf (X := X) (d := e) (L := L) (r := r) (rule := rule) t2 v h5 hr hru ha (by omega)
    refine ⟨K3, ⟨(s1.trans g2).trans g4, by omega⟩, fun s hs => v_X11_answerOf_5.e X e _ _ _ _ K L s ?_⟩
    have b1 : tbN w r rule k ≤ w 1 := tbN_le
    have b2 : tbN w r rule (amn (fun b => tbN w r rule b) k) ≤ w 1 := tbN_le
    rw [amn] at hs
    rw [tK 0 (by decide)]
    by_cases hlt : tbN w r rule k < tbN w r rule (amn (fun b => tbN w r rule b) k)
    · rw [if_pos hlt] at hs
      simp (disch := omega) only [a_bi_i, a_bv_n, a_bl_l, a_bq_q, l_0, l_1, l_2, l_3, l_4, l_5, l_6, l_7, l_8, l_9, l_10, l_12, l_16, l_20, l_24, l_25, l_31, l_32, l_33, l_40, l_48, l_57, l_60, l_63, l_64, l_78, l_85, l_97, l_99, l_100, l_122, l_255, l_325, l_700, l_999, l_1000, l_1200, l_99999, l_100000, l_1000000, l_2000000000, l_N, n_add, n_mul, n_lt, n_out, n_div, n_dm, n_eq, n_toN, n_inN, n_ltN, n_nltN, n_neN, Nat.not_lt_zero, false_or, or_false, ite_y, ite_n, if_true, if_false, ite_tt, ite_ff, b_0, b_1, eq_self_iff_true, Bool.true_eq_false, Bool.false_eq_true, g1, g3]
      exact hs
    · rw [if_neg hlt] at hs
      simp (disch := omega) only [a_bi_i, a_bv_n, a_bl_l, a_bq_q, l_0, l_1, l_2, l_3, l_4, l_5, l_6, l_7, l_8, l_9, l_10, l_12, l_16, l_20, l_24, l_25, l_31, l_32, l_33, l_40, l_48, l_57, l_60, l_63, l_64, l_78, l_85, l_97, l_99, l_100, l_122, l_255, l_325, l_700, l_999, l_1000, l_1200, l_99999, l_100000, l_1000000, l_2000000000, l_N, n_add, n_mul, n_lt, n_out, n_div, n_dm, n_eq, n_toN, n_inN, n_ltN, n_nltN, n_neN, Nat.not_lt_zero, false_or, or_false, ite_y, ite_n, if_true, if_false, ite_tt, ite_ff, b_0, b_1, eq_self_iff_true, Bool.true_eq_false, Bool.false_eq_true, g1, g3, hlt]
      exact hs) (2 * w 0 - 1) 1 I (by omega) ⟨Sm.refl, by omega⟩
  refine ⟨M, K_X11_answerOf.e X e _ _ I L _ ?_, c1.1, h.sm c1.1⟩
  rw [amn_1] at c2
  refine c2 _ (v_X11_answerOf_5.e X e _ _ _ _ M L _ ?_)
  rw [(h.sm c1.1) 0 (by decide)]
  simp (disch := omega) only [a_bi_i, a_bv_n, a_bl_l, a_bq_q, l_0, l_1, l_2, l_3, l_4, l_5, l_6, l_7, l_8, l_9, l_10, l_12, l_16, l_20, l_24, l_25, l_31, l_32, l_33, l_40, l_48, l_57, l_60, l_63, l_64, l_78, l_85, l_97, l_99, l_100, l_122, l_255, l_325, l_700, l_999, l_1000, l_1200, l_99999, l_100000, l_1000000, l_2000000000, l_N, n_add, n_mul, n_lt, n_out, n_div, n_dm, n_eq, n_toN, n_inN, n_ltN, n_nltN, n_neN, Nat.not_lt_zero, false_or, or_false, ite_y, ite_n, if_true, if_false, ite_tt, ite_ff, b_0, b_1, eq_self_iff_true, Bool.true_eq_false, Bool.false_eq_true, Nat.lt_irrefl]
theorem isR_eq {r rule b : Nat} (hru : rule < 4) : isR w r rule b = (decide (tbN w r rule b = tbN w r (amx (fun rule => tbN w r rule b) 4) b) && decide (tbN w r rule b = tbN w r rule (amn (fun b => tbN w r rule b) (2 * w 0)))) := by
  unfold isR
  rw [show tbN w r rule (amn (fun b => tbN w r rule b) (2 * w 0)) = ear (fun b => tbN w r rule b) (2 * w 0) from amn_ear (fun b => tbN w r rule b) _]
  congr 1
  have hx := amx_le (fun rule => tbN w r rule b) 4
  have hl : amx (fun rule => tbN w r rule b) 4 ≤ 3 := amx_lt (fun rule => tbN w r rule b) 3
  cases hf : fnd 4 (grF w r rule b) with
  | none =>
    have hA := fnd_none hf
    have a1 := hx rule hru
    have a2 := of_decide_eq_false (hA _ (show amx (fun rule => tbN w r rule b) 4 < 4 by omega))
    rw [decide_eq_true (show tbN w r rule b = tbN w r (amx (fun rule => tbN w r rule b) 4) b by omega)]
    rfl
  | some o =>
    obtain ⟨o1, o2, -⟩ := fnd_some hf
    have a1 := hx o o1
    have a2 := of_decide_eq_true o2
    rw [decide_eq_false (show ¬ tbN w r rule b = tbN w r (amx (fun rule => tbN w r rule b) 4) b by omega)]
    rfl
theorem m_isRest {r rule b : Nat} (h : TM I w) (v : Vw w) (h5 : 0 < w 5) (hr : r < w 6) (hru : rule < 4) (hb : b < 2 * w 0) (hd : 10 ≤ d) : ∃ J, K_X11_isRest X d (nI r) (nI rule) (nI b) (I, L, ()) = some (some (aI (bI (isR w r rule b))), (J, L, ())) ∧ Sm I J ∧ TM J w := by
  obtain ⟨e, rfl⟩ : ∃ e, d = e + 1 := ⟨d - 1, by omega⟩
  obtain ⟨⟨w0, w1, -⟩, -⟩ := id v
  have hw0 : 2 ≤ w 0 := (v.live (Or.inr (Or.inr (Or.inl h5)))).2.1
  have ha1 : amx (fun rule => tbN w r rule b) 4 ≤ 3 := amx_lt _ 3
  have ha2 : amn (fun b => tbN w r rule b) (2 * w 0) < 2 * w 0 := by
    obtain ⟨j, hj⟩ : ∃ j, 2 * w 0 = j + 1 := ⟨2 * w 0 - 1, by omega⟩
    have := amn_lt (fun b => tbN w r rule b) j
    rw [hj]
    omega
  obtain ⟨J1, a1, s1, t1⟩ := m_tableOf (X := X) (d := e) (L := L) (r := r) (rule := rule) (b := b) h v h5 hr (by omega) hb (by omega)
  obtain ⟨J2, a2, s2, t2⟩ := m_replyOf (X := X) (d := e) (L := L) (r := r) (b := b) t1 v h5 hr hb (by omega)
  obtain ⟨J3, a3, s3, t3⟩ := m_tableOf (X := X) (d := e) (L := L) (r := r) (b := b) t2 v h5 hr ha1 hb (by omega)
  obtain ⟨J4, a4, s4, t4⟩ := m_answerOf (X := X) (d := e) (L := L) (r := r) (rule := rule) t3 v h5 hr (by omega) (by omega)
  obtain ⟨J5, a5, s5, t5⟩ := m_tableOf (X := X) (d := e) (L := L) (r := r) (rule := rule) t4 v h5 hr (by omega) ha2 (by omega)
  rw [isR_eq hru]
  have b1 : tbN w r rule b ≤ w 1 := tbN_le
  have b2 : tbN w r (amx (fun rule => tbN w r rule b) 4) b ≤ w 1 := tbN_le
  have b3 : tbN w r rule (amn (fun b => tbN w r rule b) (2 * w 0)) ≤ w 1 := tbN_le
  by_cases c1 : tbN w r rule b = tbN w r (amx (fun rule => tbN w r rule b) 4) b
  · rw [decide_eq_true c1, Bool.true_and]
    refine ⟨J5, K_X11_isRest.e X e _ _ _ I L _ ?_, (((s1.trans s2).trans s3).trans s4).trans s5, t5⟩
    simp (disch := omega) only [a_bi_i, a_bv_n, a_bl_l, a_bq_q, a1, a2, a3, a4, a5, n_eq]
    rw [if_pos c1]
    by_cases c2 : tbN w r rule b = tbN w r rule (amn (fun b => tbN w r rule b) (2 * w 0))
    · rw [if_pos c2, decide_eq_true c2]; rfl
    · rw [if_neg c2, decide_eq_false c2]; rfl
  · rw [decide_eq_false c1, Bool.false_and]
    refine ⟨J3, K_X11_isRest.e X e _ _ _ I L _ ?_, (s1.trans s2).trans s3, t3⟩
    simp (disch := omega) only [a_bi_i, a_bv_n, a_bl_l, a_bq_q, a1, a2, a3, n_eq]
    rw [if_neg c1]
    rfl
/-! the class's side, out of the marks -/
theorem c_earliest {r rule : Nat} (h : TC I w) (v : Vw w) (hK : MK I w r) (h5 : 0 < w 5) (hru : rule < 4) (hd : 2 ≤ d) : K_X10_earliest X d (nI rule) (I, L, ()) = some (some (aI (nI (ear (fun b => tbN w r rule b) (2 * w 0)))), (I, L, ())) := by
  obtain ⟨e, rfl⟩ : ∃ e, d = e + 1 := ⟨d - 1, by omega⟩
  obtain ⟨⟨w0, w1, -⟩, -⟩ := id v
  have hw0 : 2 ≤ w 0 := (v.live (Or.inr (Or.inr (Or.inl h5)))).2.1
  obtain ⟨-, -, c2⟩ := loop_up (S := Unit) (F := fun k _ => v_X10_earliest_9 X e (nI rule) (nI (ear (fun b => tbN w r rule b) k)) (nI k) (I, L, ())) (P := fun k _ => 1 ≤ k) (n := 2 * w 0) (fun k _ hk hP => by
    refine ⟨(), (by omega : 1 ≤ k + 1), fun s hs => v_X10_earliest_9.e X e _ _ _ I L s ?_⟩
    have b1 : tbN w r rule k ≤ w 1 := tbN_le
    have b2 : ear (fun b => tbN w r rule b) k ≤ w 1 := ear_le _ (fun _ => tbN_le) k
    have hs : v_X10_earliest_9 X e (nI rule) (nI (ear (fun b => tbN w r rule b) (k + 1))) (nI (k + 1)) (I, L, ()) = some s := hs
    rw [ear] at hs
    simp (disch := omega) only [a_bi_i, a_bv_n, a_bl_l, a_bq_q, l_0, l_1, l_2, l_3, l_4, l_5, l_6, l_7, l_8, l_9, l_10, l_12, l_16, l_20, l_24, l_25, l_31, l_32, l_33, l_40, l_48, l_57, l_60, l_63, l_64, l_78, l_85, l_97, l_99, l_100, l_122, l_255, l_325, l_700, l_999, l_1000, l_1200, l_99999, l_100000, l_1000000, l_2000000000, l_N, n_add, n_mul, n_lt, n_out, n_div, n_dm, n_eq, n_toN, n_inN, n_ltN, n_nltN, n_neN, Nat.not_lt_zero, false_or, or_false, ite_y, ite_n, if_true, if_false, ite_tt, ite_ff, b_0, b_1, eq_self_iff_true, Bool.true_eq_false, Bool.false_eq_true, c_beginCount h v, c_mark hK v, c_min]
    by_cases hlt : tbN w r rule k < ear (fun b => tbN w r rule b) k
    · rw [if_pos hlt] at hs ⊢
      exact hs
    · rw [if_neg hlt] at hs ⊢
      exact hs) (2 * w 0 - 1) 1 () (by omega) (by omega)
  refine K_X10_earliest.e X e _ I L _ ?_
  have m0 : K_X10_mark X e (nI rule) (nI 0) (I, L, ()) = some (some (aI (nI (tbN w r rule 0))), (I, L, ())) := c_mark hK v hru (by omega) (by omega)
  simp only [a_bi_i, a_bv_n, a_bl_l, a_bq_q, l_0, l_1, m0]
  have c2' : OLe (v_X10_earliest_9 X e (nI rule) (nI (ear (fun b => tbN w r rule b) (2 * w 0))) (nI (2 * w 0)) (I, L, ())) (v_X10_earliest_9 X e (nI rule) (nI (ear (fun b => tbN w r rule b) 1)) (nI 1) (I, L, ())) := c2
  rw [ear_1] at c2'
  refine c2' _ (v_X10_earliest_9.e X e _ _ _ I L _ ?_)
  simp (disch := omega) only [a_bi_i, a_bv_n, a_bl_l, a_bq_q, l_0, l_1, l_2, l_3, l_4, l_5, l_6, l_7, l_8, l_9, l_10, l_12, l_16, l_20, l_24, l_25, l_31, l_32, l_33, l_40, l_48, l_57, l_60, l_63, l_64, l_78, l_85, l_97, l_99, l_100, l_122, l_255, l_325, l_700, l_999, l_1000, l_1200, l_99999, l_100000, l_1000000, l_2000000000, l_N, n_add, n_mul, n_lt, n_out, n_div, n_dm, n_eq, n_toN, n_inN, n_ltN, n_nltN, n_neN, Nat.not_lt_zero, false_or, or_false, ite_y, ite_n, if_true, if_false, ite_tt, ite_ff, b_0, b_1, eq_self_iff_true, Bool.true_eq_false, Bool.false_eq_true, c_beginCount h v, Nat.lt_irrefl]
theorem c_isRest {r rule b : Nat} (h : TC I w) (v : Vw w) (hK : MK I w r) (h5 : 0 < w 5) (hru : rule < 4) (hb : b < 2 * w 0) (hd : 3 ≤ d) : K_X10_isRest X d (nI rule) (nI b) (I, L, ()) = some (some (aI (bI (isR w r rule b))), (I, L, ())) := by
  obtain ⟨e, rfl⟩ : ∃ e, d = e + 1 := ⟨d - 1, by omega⟩
  obtain ⟨⟨w0, w1, -⟩, -⟩ := id v
  have b1 : tbN w r rule b ≤ w 1 := tbN_le
  have b2 : ear (fun b => tbN w r rule b) (2 * w 0) ≤ w 1 := ear_le _ (fun _ => tbN_le) _
  have key : ∀ k o, o + k = 4 → v_X10_isRest_10 X e (nI rule) (nI b) (nI (tbN w r rule b)) (nI o) (I, L, ()) = some (some (aI (bI ((fndF (grF w r rule b) k o).isNone && decide (tbN w r rule b = ear (fun b => tbN w r rule b) (2 * w 0))))), (I, L, ())) := by
    intro k
    induction k with
    | zero =>
      intro o ho
      have : o = 4 := by omega
      subst this
      refine v_X10_isRest_10.e X e _ _ _ _ I L _ ?_
      rw [show (fndF (grF w r rule b) 0 4).isNone = true from rfl, Bool.true_and]
      simp (disch := omega) only [a_bi_i, a_bv_n, a_bl_l, a_bq_q, l_0, l_1, l_2, l_3, l_4, l_5, l_6, l_7, l_8, l_9, l_10, l_12, l_16, l_20, l_24, l_25, l_31, l_32, l_33, l_40, l_48, l_57, l_60, l_63, l_64, l_78, l_85, l_97, l_99, l_100, l_122, l_255, l_325, l_700, l_999, l_1000, l_1200, l_99999, l_100000, l_1000000, l_2000000000, l_N, n_add, n_mul, n_lt, n_out, n_div, n_dm, n_eq, n_toN, n_inN, n_ltN, n_nltN, n_neN, Nat.not_lt_zero, false_or, or_false, ite_y, ite_n, if_true, if_false, ite_tt, ite_ff, b_0, b_1, eq_self_iff_true, Bool.true_eq_false, Bool.false_eq_true, c_earliest h v hK h5, Nat.lt_irrefl]
      by_cases c2 : tbN w r rule b = ear (fun b => tbN w r rule b) (2 * w 0)
      · rw [if_pos c2, decide_eq_true c2]; rfl
      · rw [if_neg c2, decide_eq_false c2]; rfl
    | succ k ih =>
      intro o ho
      refine v_X10_isRest_10.e X e _ _ _ _ I L _ ?_
      have b3 : tbN w r o b ≤ w 1 := tbN_le
      simp (disch := omega) only [a_bi_i, a_bv_n, a_bl_l, a_bq_q, l_0, l_1, l_2, l_3, l_4, l_5, l_6, l_7, l_8, l_9, l_10, l_12, l_16, l_20, l_24, l_25, l_31, l_32, l_33, l_40, l_48, l_57, l_60, l_63, l_64, l_78, l_85, l_97, l_99, l_100, l_122, l_255, l_325, l_700, l_999, l_1000, l_1200, l_99999, l_100000, l_1000000, l_2000000000, l_N, n_add, n_mul, n_lt, n_out, n_div, n_dm, n_eq, n_toN, n_inN, n_ltN, n_nltN, n_neN, Nat.not_lt_zero, false_or, or_false, ite_y, ite_n, if_true, if_false, ite_tt, ite_ff, b_0, b_1, eq_self_iff_true, Bool.true_eq_false, Bool.false_eq_true, c_mark hK v]
      by_cases c2 : tbN w r rule b < tbN w r o b
      · rw [if_pos c2, fndF, if_pos (show grF w r rule b o = true from decide_eq_true c2)]
        rfl
      · rw [if_neg c2, ih (o + 1) (by omega), fndF, if_neg (show ¬ grF w r rule b o = true from fun z => c2 (of_decide_eq_true z))]
  refine K_X10_isRest.e X e _ _ I L _ ?_
  simp (disch := omega) only [a_bi_i, a_bv_n, a_bl_l, a_bq_q, c_mark hK v]
  rw [show ((0 : Int32)) = nI 0 from rfl, key 4 0 (by omega)]
  rfl
end
