/-! can, safe -/
section
variable {X : AX} {d : Nat} {I J : A3 Int32} {L : A3 Int64} {w : TW} {N : Nat} {ps : Nat → Nat → Option Nat} {kn : Nat → Nat} {lo dr : Nat → Bool}
theorem loB_lt {c : Nat} (h : loB w c = true) : c < w 0 := by unfold loB at h; simp at h; exact h.1
theorem doB_lt {c : Nat} (h : doB w c = true) : c < w 0 := by unfold doB at h; simp at h; exact h.1
theorem Sc.rq {l : List Nat} {q : Nat} (h : Rq l q I J) (hl : ∀ f, f ∈ l → f ∈ SCL) : Sc I J := Sc.of h.fm hl
theorem c_openSolve (h : TC I w) (v : Vw w) (hT : 0 < w 1) (hd : 6 ≤ d) : ∃ J1 J x, K_X10_openChase X d (I, L, ()) = some (none, (J1, L, ())) ∧ K_X0_solve X d 0 (J1, L, ()) = some (some (aI x), (J, L, ())) ∧ Sc I J ∧ TC J w ∧ CF J 0 (w 1) (w 0) (loB w) (doB w) ∧ CA J 0 (w 1) (w 5) (psA w) (knA w) ∧ SO J 0 w (w 5) (psA w) (knA w) (loB w) (doB w) ∧ ∀ c, bt x c = canF w (w 5) (psA w) (knA w) (loB w) (doB w) 0 (c, false) := by
  obtain ⟨J1, f1, f2, f3, f4, f5, f6⟩ := c_openChase (X := X) (d := d) (L := L) h v hd
  obtain ⟨J, x, g1, g2, g3, g4⟩ := c_solve (X := X) (d := d) (L := L) (q := 0) f3 v f5 (fun c hc => loB_lt hc) (fun c hc => doB_lt hc) f6 hT (by omega)
  have r : Rq [25] 0 J1 J := Rq.rw g2 (by decide)
  have s : Sc J1 J := Sc.of r.fm (by decide)
  refine ⟨J1, J, x, f1, g1, f2.trans s, f3.sc s, ?_, ?_, g3, g4⟩
  · unfold CF; rw [r 20 0 (Or.inl (by decide))]; exact f5
  · unfold CA CG; rw [r 21 0 (Or.inl (by decide)), r 22 0 (Or.inl (by decide)), r 23 0 (Or.inl (by decide)), r 24 0 (Or.inl (by decide))]; exact f6
theorem c_isOpen {q a m : Nat} (v : Vw w) (hS : SO I q w N ps kn lo dr) (ha : a < 16) (hm : m < w 1) (hd : 1 ≤ d) : K_X0_isOpen X d q (nI a) (nI m) (I, L, ()) = some (some (aI (bI (opF w N ps kn lo dr (w 1 - 1 - m) a))), (I, L, ())) := by
  obtain ⟨e, rfl⟩ : ∃ e, d = e + 1 := ⟨d - 1, by omega⟩
  obtain ⟨⟨w0, w1, -⟩, -⟩ := id v
  refine K_X0_isOpen.e X e _ _ _ I L _ ?_
  simp (disch := omega) only [a_bi_i, a_bv_n, a_bl_l, a_bq_q, l_0, l_1, l_2, l_3, l_4, l_5, l_6, l_7, l_8, l_9, l_10, l_12, l_16, l_20, l_24, l_25, l_31, l_32, l_33, l_40, l_48, l_57, l_60, l_63, l_64, l_78, l_85, l_97, l_99, l_100, l_122, l_255, l_325, l_700, l_999, l_1000, l_1200, l_99999, l_100000, l_1000000, l_2000000000, l_N, n_add, n_mul, n_lt, n_out, n_div, n_dm, n_eq, n_toN, n_inN, n_ltN, n_nltN, n_neN, Nat.not_lt_zero, false_or, or_false, ite_y, ite_n, if_true, if_false, ite_tt, ite_ff, b_0, b_1, eq_self_iff_true, Bool.true_eq_false, Bool.false_eq_true, bt_test, hS m hm a]
  cases opF w N ps kn lo dr (w 1 - 1 - m) a <;> rfl
theorem m_fillAsItIs (h : TM I w) (v : Vw w) (hT : 0 < w 1) (hd : 6 ≤ d) : ∃ J, K_X11_fillAsItIs X d (I, L, ()) = some (none, (J, L, ())) ∧ Sm I J ∧ TM J w ∧ PM J (w 1) (w 5) (psA w) (knA w) ∧ QM J (loB w) (doB w) ∧ ∀ i, i < w 1 → FPm J w (w 5) (psA w) (knA w) (loB w) (doB w) i := by
  obtain ⟨e, rfl⟩ : ∃ e, d = e + 1 := ⟨d - 1, by omega⟩
  obtain ⟨⟨h0, h1, h2, h3, h4, h5, -⟩, -⟩ := id v
  obtain ⟨J1, g1, g2, g3, g4⟩ := sm_asItIs (X := X) (d := e) (L := L) h v (by omega)
  obtain ⟨J2, k1, k2, k3⟩ := m_places (X := X) (d := e) (L := L) g3 v (by omega)
  have t2 : TM J2 w := g3.sm k2.sm
  have p2 := g4.r9 k2
  obtain ⟨J3, f1, f2, f3⟩ := m_fillPlaces (X := X) (d := e) (L := L) t2 v k3 p2 h5 (fun k hk => psA_lt v hk) (kn100 v) hT (by omega)
  have s3 : Sm J2 J3 := Sm.of f2 (by decide)
  refine ⟨J3, K_X11_fillAsItIs.e X e I L _ ?_, (g2.trans k2.sm).trans s3, t2.sm s3, ?_, ?_, f3⟩
  · simp only [g1, k1, f1, a_bv_n]
  · unfold PM; rw [f2 40 (by decide), f2 47 (by decide), f2 48 (by decide)]; exact p2
  · unfold QM; rw [f2 40 (by decide)]; exact k3
theorem m_safeNow (h : TM I w) (v : Vw w) (hF : ∀ i, i < w 1 → FPm I w N ps kn lo dr i) (hT : 0 < w 1) (hd : 1 ≤ d) : ∃ x, K_X11_safeNow X d (I, L, ()) = some (some (aI x), (I, L, ())) ∧ ∀ c, bt x c = canF w N ps kn lo dr 0 (c, false) := by
  obtain ⟨e, rfl⟩ : ∃ e, d = e + 1 := ⟨d - 1, by omega⟩
  obtain ⟨⟨w0, w1, -⟩, -⟩ := id v
  have hF0 := hF (w 1 - 1) (by omega)
  obtain ⟨x, g1, g2⟩ := loop_z (F := fun m (x : Int32) => v_X11_safeNow_4 X e x (nI m) (I, L, ())) (P := fun m x => ∀ c, bt x c = (decide (c < m) && canF w N ps kn lo dr 0 (c, false))) (w 0) (nI 0) (fun c => by rw [bt_0]; simp) (fun m x hm hP => by
    have hc := (hF0 (m, false) hm).1
    have hk : 16 * (w 1 - 1 - (w 1 - 1)) + rmP (m, false) = 2 * m := by simp [rmP]
    rw [hk] at hc
    cases hb : (fil w N ps kn lo dr (w 1 - 1) (m, false)).1 with
    | true =>
      refine ⟨x ||| (nI 1 <<< (nI m &&& nI 31)), fun c => ?_, fun r hr => ?_⟩
      · rw [bt_or, hP c, bt_one (by omega)]
        by_cases e : c = m
        · subst e; unfold canF; simp [hb]
        · rw [dlt e]; simp [e]
      · refine v_X11_safeNow_4.e X e _ _ I L r ?_
        rw [h 0 (by decide)]
        simp (disch := omega) only [a_bi_i, a_bv_n, a_bl_l, a_bq_q, l_0, l_1, l_2, l_3, l_4, l_5, l_6, l_7, l_8, l_9, l_10, l_12, l_16, l_20, l_24, l_25, l_31, l_32, l_33, l_40, l_48, l_57, l_60, l_63, l_64, l_78, l_85, l_97, l_99, l_100, l_122, l_255, l_325, l_700, l_999, l_1000, l_1200, l_99999, l_100000, l_1000000, l_2000000000, l_N, n_add, n_mul, n_lt, n_out, n_div, n_dm, n_eq, n_toN, n_inN, n_ltN, n_nltN, n_neN, Nat.not_lt_zero, false_or, or_false, ite_y, ite_n, if_true, if_false, ite_tt, ite_ff, b_0, b_1, eq_self_iff_true, Bool.true_eq_false, Bool.false_eq_true, hc, hb]
        exact hr
    | false =>
      refine ⟨x ||| nI 0, fun c => ?_, fun r hr => ?_⟩
      · rw [bt_or, hP c, bt_0]
        by_cases e : c = m
        · subst e; unfold canF; simp [hb]
        · rw [dlt e]; simp
      · refine v_X11_safeNow_4.e X e _ _ I L r ?_
        rw [h 0 (by decide)]
        simp (disch := omega) only [a_bi_i, a_bv_n, a_bl_l, a_bq_q, l_0, l_1, l_2, l_3, l_4, l_5, l_6, l_7, l_8, l_9, l_10, l_12, l_16, l_20, l_24, l_25, l_31, l_32, l_33, l_40, l_48, l_57, l_60, l_63, l_64, l_78, l_85, l_97, l_99, l_100, l_122, l_255, l_325, l_700, l_999, l_1000, l_1200, l_99999, l_100000, l_1000000, l_2000000000, l_N, n_add, n_mul, n_lt, n_out, n_div, n_dm, n_eq, n_toN, n_inN, n_ltN, n_nltN, n_neN, Nat.not_lt_zero, false_or, or_false, ite_y, ite_n, if_true, if_false, ite_tt, ite_ff, b_0, b_1, eq_self_iff_true, Bool.true_eq_false, Bool.false_eq_true, hc, hb]
        exact hr)
  refine ⟨x, K_X11_safeNow.e X e I L _ (g2 _ (v_X11_safeNow_4.e X e _ _ I L _ ?_)), fun c => ?_⟩
  · rw [h 0 (by decide)]
    simp (disch := omega) only [a_bi_i, a_bv_n, a_bl_l, a_bq_q, l_0, l_1, l_2, l_3, l_4, l_5, l_6, l_7, l_8, l_9, l_10, l_12, l_16, l_20, l_24, l_25, l_31, l_32, l_33, l_40, l_48, l_57, l_60, l_63, l_64, l_78, l_85, l_97, l_99, l_100, l_122, l_255, l_325, l_700, l_999, l_1000, l_1200, l_99999, l_100000, l_1000000, l_2000000000, l_N, n_add, n_mul, n_lt, n_out, n_div, n_dm, n_eq, n_toN, n_inN, n_ltN, n_nltN, n_neN, Nat.not_lt_zero, false_or, or_false, ite_y, ite_n, if_true, if_false, ite_tt, ite_ff, b_0, b_1, eq_self_iff_true, Bool.true_eq_false, Bool.false_eq_true]
  · rw [g1 c]
    by_cases hc : c < w 0
    · simp [hc]
    · rw [canF, can_out hc]; simp
theorem q_safe (h : TC I w) (v : Vw w) : Both w (K_X10_safe X 15) (K_X11_safe X 15) I L := by
  by_cases ha : 0 < w 7
  · have hT : 0 < w 1 := (v.2.1.2 ha).2.1
    obtain ⟨J1, J, x, f1, f2, f3, f4, f5, f6, f7, f8⟩ := c_openSolve (X := X) (d := 14) (L := L) h v hT (by omega)
    refine Both.mk x J (K_X10_safe.e X 14 I L _ ?_) f3 (fun M L2 hM => ?_)
    · simp (disch := omega) only [c_stands h v, ha, decide_true, f1, f2, a_bi_i, a_bv_n, a_bl_l, a_bq_q, l_0, l_1, l_2, l_3, l_4, l_5, l_6, l_7, l_8, l_9, l_10, l_12, l_16, l_20, l_24, l_25, l_31, l_32, l_33, l_40, l_48, l_57, l_60, l_63, l_64, l_78, l_85, l_97, l_99, l_100, l_122, l_255, l_325, l_700, l_999, l_1000, l_1200, l_99999, l_100000, l_1000000, l_2000000000, l_N, n_add, n_mul, n_lt, n_out, n_div, n_dm, n_eq, n_toN, n_inN, n_ltN, n_nltN, n_neN, Nat.not_lt_zero, false_or, or_false, ite_y, ite_n, if_true, if_false, ite_tt, ite_ff, b_0, b_1, eq_self_iff_true, Bool.true_eq_false, Bool.false_eq_true]
    · obtain ⟨M', g1, g2, g3, g4, g5, g6⟩ := m_fillAsItIs (X := X) (d := 14) (L := L2) hM v hT (by omega)
      obtain ⟨y, y1, y2⟩ := m_safeNow (X := X) (d := 14) (L := L2) g3 v g6 hT (by omega)
      refine ⟨M', K_X11_safe.e X 14 M L2 _ ?_, g2⟩
      simp (disch := omega) only [m_isTrain hM v, ha, decide_true, g1, y1, a_bi_i, a_bv_n, a_bl_l, a_bq_q, l_0, l_1, l_2, l_3, l_4, l_5, l_6, l_7, l_8, l_9, l_10, l_12, l_16, l_20, l_24, l_25, l_31, l_32, l_33, l_40, l_48, l_57, l_60, l_63, l_64, l_78, l_85, l_97, l_99, l_100, l_122, l_255, l_325, l_700, l_999, l_1000, l_1200, l_99999, l_100000, l_1000000, l_2000000000, l_N, n_add, n_mul, n_lt, n_out, n_div, n_dm, n_eq, n_toN, n_inN, n_ltN, n_nltN, n_neN, Nat.not_lt_zero, false_or, or_false, ite_y, ite_n, if_true, if_false, ite_tt, ite_ff, b_0, b_1, eq_self_iff_true, Bool.true_eq_false, Bool.false_eq_true]
      rw [bt_ext (fun k _ => (y2 k).trans (f8 k).symm)]
  · refine Both.pure (-2) (K_X10_safe.e X 14 I L _ ?_) (fun J L2 h => K_X11_safe.e X 14 J L2 _ ?_)
    · simp (disch := omega) only [c_stands h v, ha, decide_false, a_bi_i, a_bv_n, a_bl_l, a_bq_q, l_0, l_1, l_2, l_3, l_4, l_5, l_6, l_7, l_8, l_9, l_10, l_12, l_16, l_20, l_24, l_25, l_31, l_32, l_33, l_40, l_48, l_57, l_60, l_63, l_64, l_78, l_85, l_97, l_99, l_100, l_122, l_255, l_325, l_700, l_999, l_1000, l_1200, l_99999, l_100000, l_1000000, l_2000000000, l_N, n_add, n_mul, n_lt, n_out, n_div, n_dm, n_eq, n_toN, n_inN, n_ltN, n_nltN, n_neN, Nat.not_lt_zero, false_or, or_false, ite_y, ite_n, if_true, if_false, ite_tt, ite_ff, b_0, b_1, eq_self_iff_true, Bool.true_eq_false, Bool.false_eq_true]
    · simp (disch := omega) only [m_isTrain h v, ha, decide_false, a_bi_i, a_bv_n, a_bl_l, a_bq_q, l_0, l_1, l_2, l_3, l_4, l_5, l_6, l_7, l_8, l_9, l_10, l_12, l_16, l_20, l_24, l_25, l_31, l_32, l_33, l_40, l_48, l_57, l_60, l_63, l_64, l_78, l_85, l_97, l_99, l_100, l_122, l_255, l_325, l_700, l_999, l_1000, l_1200, l_99999, l_100000, l_1000000, l_2000000000, l_N, n_add, n_mul, n_lt, n_out, n_div, n_dm, n_eq, n_toN, n_inN, n_ltN, n_nltN, n_neN, Nat.not_lt_zero, false_or, or_false, ite_y, ite_n, if_true, if_false, ite_tt, ite_ff, b_0, b_1, eq_self_iff_true, Bool.true_eq_false, Bool.false_eq_true]
theorem q_can (h : TC I w) (v : Vw w) (a b c : Int32) : Both w (K_X10_can X 15 a b c) (K_X11_can X 15 a b c) I L := by
  obtain ⟨⟨h0, h1, h2, h3, h4, h5, h6, -⟩, -, vc, -⟩ := id v
  have hM : ∀ J : A3 Int32, ∀ L2 : A3 Int64, K_X11_in X 14 b.toInt64 (0 : Int64) (1 : Int64) (J, L2, ()) = some (some (aI (bI (inr b 2))), (J, L2, ())) := fun J L2 => by
    rw [m_in (by omega), inL_k (n := 2) (by decide) rfl]
  cases ha : inr a (w 0) with
  | false =>
    refine Both.pure (-2) (K_X10_can.e X 14 a b c I L _ ?_) (fun J L2 h => K_X11_can.e X 14 a b c J L2 _ ?_)
    · simp (disch := omega) only [c_hasCoach h v, ha, a_bi_i, a_bv_n, a_bl_l, a_bq_q, l_0, l_1, l_2, l_3, l_4, l_5, l_6, l_7, l_8, l_9, l_10, l_12, l_16, l_20, l_24, l_25, l_31, l_32, l_33, l_40, l_48, l_57, l_60, l_63, l_64, l_78, l_85, l_97, l_99, l_100, l_122, l_255, l_325, l_700, l_999, l_1000, l_1200, l_99999, l_100000, l_1000000, l_2000000000, l_N, n_add, n_mul, n_lt, n_out, n_div, n_dm, n_eq, n_toN, n_inN, n_ltN, n_nltN, n_neN, Nat.not_lt_zero, false_or, or_false, ite_y, ite_n, if_true, if_false, ite_tt, ite_ff, b_0, b_1, eq_self_iff_true, Bool.true_eq_false, Bool.false_eq_true]
    · simp (disch := omega) only [m_isCoach h v, ha, a_bi_i, a_bv_n, a_bl_l, a_bq_q, l_0, l_1, l_2, l_3, l_4, l_5, l_6, l_7, l_8, l_9, l_10, l_12, l_16, l_20, l_24, l_25, l_31, l_32, l_33, l_40, l_48, l_57, l_60, l_63, l_64, l_78, l_85, l_97, l_99, l_100, l_122, l_255, l_325, l_700, l_999, l_1000, l_1200, l_99999, l_100000, l_1000000, l_2000000000, l_N, n_add, n_mul, n_lt, n_out, n_div, n_dm, n_eq, n_toN, n_inN, n_ltN, n_nltN, n_neN, Nat.not_lt_zero, false_or, or_false, ite_y, ite_n, if_true, if_false, ite_tt, ite_ff, b_0, b_1, eq_self_iff_true, Bool.true_eq_false, Bool.false_eq_true]
  | true =>
    obtain ⟨k, hk, rfl⟩ := inr_ex (by omega) ha
    have hT : 0 < w 1 := (v.live (Or.inl (by omega))).2.2.1
    cases hc : inr c (w 1) with
    | false =>
      refine Both.pure (-2) (K_X10_can.e X 14 _ b c I L _ ?_) (fun J L2 h => K_X11_can.e X 14 _ b c J L2 _ ?_)
      · simp (disch := omega) only [c_hasCoach h v, c_hasMinute h v, ha, hc, a_bi_i, a_bv_n, a_bl_l, a_bq_q, l_0, l_1, l_2, l_3, l_4, l_5, l_6, l_7, l_8, l_9, l_10, l_12, l_16, l_20, l_24, l_25, l_31, l_32, l_33, l_40, l_48, l_57, l_60, l_63, l_64, l_78, l_85, l_97, l_99, l_100, l_122, l_255, l_325, l_700, l_999, l_1000, l_1200, l_99999, l_100000, l_1000000, l_2000000000, l_N, n_add, n_mul, n_lt, n_out, n_div, n_dm, n_eq, n_toN, n_inN, n_ltN, n_nltN, n_neN, Nat.not_lt_zero, false_or, or_false, ite_y, ite_n, if_true, if_false, ite_tt, ite_ff, b_0, b_1, eq_self_iff_true, Bool.true_eq_false, Bool.false_eq_true]
      · simp (disch := omega) only [m_isCoach h v, m_isMinute h v, hM, ha, hc, a_bi_i, a_bv_n, a_bl_l, a_bq_q, l_0, l_1, l_2, l_3, l_4, l_5, l_6, l_7, l_8, l_9, l_10, l_12, l_16, l_20, l_24, l_25, l_31, l_32, l_33, l_40, l_48, l_57, l_60, l_63, l_64, l_78, l_85, l_97, l_99, l_100, l_122, l_255, l_325, l_700, l_999, l_1000, l_1200, l_99999, l_100000, l_1000000, l_2000000000, l_N, n_add, n_mul, n_lt, n_out, n_div, n_dm, n_eq, n_toN, n_inN, n_ltN, n_nltN, n_neN, Nat.not_lt_zero, false_or, or_false, ite_y, ite_n, if_true, if_false, ite_tt, ite_ff, b_0, b_1, eq_self_iff_true, Bool.true_eq_false, Bool.false_eq_true]
        cases inr b 2 <;> rfl
    | true =>
      obtain ⟨m, hm, rfl⟩ := inr_ex (by omega) hc
      cases hb : inr b 2 with
      | false =>
        refine Both.pure (-2) (K_X10_can.e X 14 _ b _ I L _ ?_) (fun J L2 h => K_X11_can.e X 14 _ b _ J L2 _ ?_)
        · simp (disch := omega) only [c_hasCoach h v, c_hasMinute h v, ha, hc, a_bi_i, a_bv_n, a_bl_l, a_bq_q, l_0, l_1, l_2, l_3, l_4, l_5, l_6, l_7, l_8, l_9, l_10, l_12, l_16, l_20, l_24, l_25, l_31, l_32, l_33, l_40, l_48, l_57, l_60, l_63, l_64, l_78, l_85, l_97, l_99, l_100, l_122, l_255, l_325, l_700, l_999, l_1000, l_1200, l_99999, l_100000, l_1000000, l_2000000000, l_N, n_add, n_mul, n_lt, n_out, n_div, n_dm, n_eq, n_toN, n_inN, n_ltN, n_nltN, n_neN, Nat.not_lt_zero, false_or, or_false, ite_y, ite_n, if_true, if_false, ite_tt, ite_ff, b_0, b_1, eq_self_iff_true, Bool.true_eq_false, Bool.false_eq_true]
          rcases inr_no hb with q | q
          · simp only [q, if_true]
          · have : nI 1 < b := by
              rw [Int32.lt_iff_toInt_lt] at q ⊢
              rw [n_toInt (by omega)] at q ⊢
              omega
            simp only [this, if_true, ite_self]
        · simp (disch := omega) only [m_isCoach h v, m_isMinute h v, hM, ha, hb, a_bi_i, a_bv_n, a_bl_l, a_bq_q, l_0, l_1, l_2, l_3, l_4, l_5, l_6, l_7, l_8, l_9, l_10, l_12, l_16, l_20, l_24, l_25, l_31, l_32, l_33, l_40, l_48, l_57, l_60, l_63, l_64, l_78, l_85, l_97, l_99, l_100, l_122, l_255, l_325, l_700, l_999, l_1000, l_1200, l_99999, l_100000, l_1000000, l_2000000000, l_N, n_add, n_mul, n_lt, n_out, n_div, n_dm, n_eq, n_toN, n_inN, n_ltN, n_nltN, n_neN, Nat.not_lt_zero, false_or, or_false, ite_y, ite_n, if_true, if_false, ite_tt, ite_ff, b_0, b_1, eq_self_iff_true, Bool.true_eq_false, Bool.false_eq_true]
      | true =>
        obtain ⟨l, hl, rfl⟩ := inr_ex (by omega) hb
        have hvc := vc k (by omega)
        by_cases hlo : l = 1 ∧ w (10 + 3 * k) = 0
        · obtain ⟨rfl, hz⟩ := hlo
          refine Both.pure (-2) (K_X10_can.e X 14 _ _ _ I L _ ?_) (fun J L2 h => K_X11_can.e X 14 _ _ _ J L2 _ ?_)
          · simp (disch := omega) only [c_hasCoach h v, c_hasMinute h v, ha, hc, c_oc1 h v, hz, a_bi_i, a_bv_n, a_bl_l, a_bq_q, l_0, l_1, l_2, l_3, l_4, l_5, l_6, l_7, l_8, l_9, l_10, l_12, l_16, l_20, l_24, l_25, l_31, l_32, l_33, l_40, l_48, l_57, l_60, l_63, l_64, l_78, l_85, l_97, l_99, l_100, l_122, l_255, l_325, l_700, l_999, l_1000, l_1200, l_99999, l_100000, l_1000000, l_2000000000, l_N, n_add, n_mul, n_lt, n_out, n_div, n_dm, n_eq, n_toN, n_inN, n_ltN, n_nltN, n_neN, Nat.not_lt_zero, false_or, or_false, ite_y, ite_n, if_true, if_false, ite_tt, ite_ff, b_0, b_1, eq_self_iff_true, Bool.true_eq_false, Bool.false_eq_true]
          · simp (disch := omega) only [m_isCoach h v, m_isMinute h v, hM, ha, hb, hc, m_oc1 h v, hz, a_bi_i, a_bv_n, a_bl_l, a_bq_q, l_0, l_1, l_2, l_3, l_4, l_5, l_6, l_7, l_8, l_9, l_10, l_12, l_16, l_20, l_24, l_25, l_31, l_32, l_33, l_40, l_48, l_57, l_60, l_63, l_64, l_78, l_85, l_97, l_99, l_100, l_122, l_255, l_325, l_700, l_999, l_1000, l_1200, l_99999, l_100000, l_1000000, l_2000000000, l_N, n_add, n_mul, n_lt, n_out, n_div, n_dm, n_eq, n_toN, n_inN, n_ltN, n_nltN, n_neN, Nat.not_lt_zero, false_or, or_false, ite_y, ite_n, if_true, if_false, ite_tt, ite_ff, b_0, b_1, eq_self_iff_true, Bool.true_eq_false, Bool.false_eq_true]
        · obtain ⟨J1, J, x, f1, f2, f3, f4, f5, f6, f7, f8⟩ := c_openSolve (X := X) (d := 14) (L := L) h v hT (by omega)
          generalize hB : canF w (w 5) (psA w) (knA w) (loB w) (doB w) m (k, decide (l = 1)) = B
          refine Both.mk (bI B) J (K_X10_can.e X 14 _ _ _ I L _ ?_) f3 (fun M L2 hM' => ?_)
          · rcases (show l = 0 ∨ l = 1 by omega) with rfl | rfl
            · have e : opF w (w 5) (psA w) (knA w) (loB w) (doB w) (w 1 - 1 - m) k = B := by rw [← hB]; unfold opF canF; rw [if_pos (by omega)]; rfl
              simp (disch := omega) only [c_hasCoach h v, c_hasMinute h v, ha, hc, f1, f2, c_isOpen v f7, e, a_bi_i, a_bv_n, a_bl_l, a_bq_q, l_0, l_1, l_2, l_3, l_4, l_5, l_6, l_7, l_8, l_9, l_10, l_12, l_16, l_20, l_24, l_25, l_31, l_32, l_33, l_40, l_48, l_57, l_60, l_63, l_64, l_78, l_85, l_97, l_99, l_100, l_122, l_255, l_325, l_700, l_999, l_1000, l_1200, l_99999, l_100000, l_1000000, l_2000000000, l_N, n_add, n_mul, n_lt, n_out, n_div, n_dm, n_eq, n_toN, n_inN, n_ltN, n_nltN, n_neN, Nat.not_lt_zero, false_or, or_false, ite_y, ite_n, if_true, if_false, ite_tt, ite_ff, b_0, b_1, eq_self_iff_true, Bool.true_eq_false, Bool.false_eq_true]
              cases B <;> rfl
            · have e : opF w (w 5) (psA w) (knA w) (loB w) (doB w) (w 1 - 1 - m) (k + 8) = B := by rw [← hB]; unfold opF canF; rw [if_neg (by omega), Nat.add_sub_cancel]; rfl
              have hz : ¬ w (10 + 3 * k) = 0 := fun q => hlo ⟨rfl, q⟩
              simp (disch := omega) only [c_hasCoach h v, c_hasMinute h v, ha, hc, c_oc1 h v, hz, f1, f2, c_isOpen v f7, e, a_bi_i, a_bv_n, a_bl_l, a_bq_q, l_0, l_1, l_2, l_3, l_4, l_5, l_6, l_7, l_8, l_9, l_10, l_12, l_16, l_20, l_24, l_25, l_31, l_32, l_33, l_40, l_48, l_57, l_60, l_63, l_64, l_78, l_85, l_97, l_99, l_100, l_122, l_255, l_325, l_700, l_999, l_1000, l_1200, l_99999, l_100000, l_1000000, l_2000000000, l_N, n_add, n_mul, n_lt, n_out, n_div, n_dm, n_eq, n_toN, n_inN, n_ltN, n_nltN, n_neN, Nat.not_lt_zero, false_or, or_false, ite_y, ite_n, if_true, if_false, ite_tt, ite_ff, b_0, b_1, eq_self_iff_true, Bool.true_eq_false, Bool.false_eq_true]
              cases B <;> rfl
          · obtain ⟨M', g1, g2, g3, g4, g5, g6⟩ := m_fillAsItIs (X := X) (d := 14) (L := L2) hM' v hT (by omega)
            have hc49 := (g6 (w 1 - 1 - m) (by omega) (k, decide (l = 1)) hk).1
            have hB' : (fil w (w 5) (psA w) (knA w) (loB w) (doB w) (w 1 - 1 - m) (k, decide (l = 1))).1 = B := hB
            have hi : 16 * (w 1 - 1 - (w 1 - 1 - m)) + rmP (k, decide (l = 1)) = 16 * m + 2 * k + l := by
              rcases (show l = 0 ∨ l = 1 by omega) with rfl | rfl
              · simp [rmP]; omega
              · simp [rmP]; omega
            rw [hB', hi] at hc49
            refine ⟨M', K_X11_can.e X 14 _ _ _ M L2 _ ?_, g2⟩
            rcases (show l = 0 ∨ l = 1 by omega) with rfl | rfl
            · simp (disch := omega) only [m_isCoach hM' v, m_isMinute hM' v, hM, ha, hb, hc, g1, hc49, a_bi_i, a_bv_n, a_bl_l, a_bq_q, l_0, l_1, l_2, l_3, l_4, l_5, l_6, l_7, l_8, l_9, l_10, l_12, l_16, l_20, l_24, l_25, l_31, l_32, l_33, l_40, l_48, l_57, l_60, l_63, l_64, l_78, l_85, l_97, l_99, l_100, l_122, l_255, l_325, l_700, l_999, l_1000, l_1200, l_99999, l_100000, l_1000000, l_2000000000, l_N, n_add, n_mul, n_lt, n_out, n_div, n_dm, n_eq, n_toN, n_inN, n_ltN, n_nltN, n_neN, Nat.not_lt_zero, false_or, or_false, ite_y, ite_n, if_true, if_false, ite_tt, ite_ff, b_0, b_1, eq_self_iff_true, Bool.true_eq_false, Bool.false_eq_true]
              cases B <;> rfl
            · have hz : ¬ w (10 + 3 * k) = 0 := fun q => hlo ⟨rfl, q⟩
              simp (disch := omega) only [m_isCoach hM' v, m_isMinute hM' v, hM, ha, hb, hc, m_oc1 hM' v, hz, g1, hc49, a_bi_i, a_bv_n, a_bl_l, a_bq_q, l_0, l_1, l_2, l_3, l_4, l_5, l_6, l_7, l_8, l_9, l_10, l_12, l_16, l_20, l_24, l_25, l_31, l_32, l_33, l_40, l_48, l_57, l_60, l_63, l_64, l_78, l_85, l_97, l_99, l_100, l_122, l_255, l_325, l_700, l_999, l_1000, l_1200, l_99999, l_100000, l_1000000, l_2000000000, l_N, n_add, n_mul, n_lt, n_out, n_div, n_dm, n_eq, n_toN, n_inN, n_ltN, n_nltN, n_neN, Nat.not_lt_zero, false_or, or_false, ite_y, ite_n, if_true, if_false, ite_tt, ite_ff, b_0, b_1, eq_self_iff_true, Bool.true_eq_false, Bool.false_eq_true]
              cases B <;> rfl
end
