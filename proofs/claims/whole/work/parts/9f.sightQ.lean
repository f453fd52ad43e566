/-! sighted, told, may, look -/
section
variable {X : AX} {d : Nat} {I J : A3 Int32} {L : A3 Int64} {w : TW} {t : TS}
theorem sight_cases (h : TC I w) (v : Vw w) (hS : SC I L t) (ht : Vt t) (a : Int32) : (∃ x, ¬ x = nI 0 ∧ x < nI 0 ∧ K_X10_sightingState X 14 a (I, L, ()) = some (some (aI x), (I, L, ())) ∧ ∀ J L2, TM J w → SM J L2 t → K_X11_asksSighted X 14 a (nI 1) (J, L2, ()) = some (some (aI x), (J, L2, ()))) ∨ ∃ s wd n g, a = nI s ∧ s < 4 ∧ 0 < w 5 ∧ t s = some (wd, n, g) ∧ siO w n g = true := by
  obtain ⟨⟨w0, w1, -, -, -, w5, -⟩, -⟩ := id v
  cases ha : inr a 4 with
  | false =>
    refine Or.inl ⟨-2, by decide, by decide, K_X10_sightingState.e X 13 a I L _ ?_, fun J L2 hM hN => K_X11_asksSighted.e X 13 a _ J L2 _ ?_⟩
    · simp (disch := omega) only [c_isSlot, ha, a_bi_i, a_bv_n, a_bl_l, a_bq_q, l_0, l_1, l_2, l_3, l_4, l_5, l_6, l_7, l_8, l_9, l_10, l_12, l_16, l_20, l_24, l_25, l_31, l_32, l_33, l_40, l_48, l_57, l_60, l_63, l_64, l_78, l_85, l_97, l_99, l_100, l_122, l_255, l_325, l_700, l_999, l_1000, l_1200, l_99999, l_100000, l_1000000, l_2000000000, l_N, n_add, n_mul, n_lt, n_out, n_div, n_dm, n_eq, n_toN, n_inN, n_ltN, n_nltN, n_neN, Nat.not_lt_zero, false_or, or_false, ite_y, ite_n, if_true, if_false, ite_tt, ite_ff, b_0, b_1, eq_self_iff_true, Bool.true_eq_false, Bool.false_eq_true]
    · simp (disch := omega) only [m_isSlot, ha, a_bi_i, a_bv_n, a_bl_l, a_bq_q, l_0, l_1, l_2, l_3, l_4, l_5, l_6, l_7, l_8, l_9, l_10, l_12, l_16, l_20, l_24, l_25, l_31, l_32, l_33, l_40, l_48, l_57, l_60, l_63, l_64, l_78, l_85, l_97, l_99, l_100, l_122, l_255, l_325, l_700, l_999, l_1000, l_1200, l_99999, l_100000, l_1000000, l_2000000000, l_N, n_add, n_mul, n_lt, n_out, n_div, n_dm, n_eq, n_toN, n_inN, n_ltN, n_nltN, n_neN, Nat.not_lt_zero, false_or, or_false, ite_y, ite_n, if_true, if_false, ite_tt, ite_ff, b_0, b_1, eq_self_iff_true, Bool.true_eq_false, Bool.false_eq_true]
  | true =>
    obtain ⟨s, hs, rfl⟩ := inr_ex (by omega) ha
    by_cases h5 : 0 < w 5
    · have hi : inr (nI 0) (w 5) = true := by rw [inr_n (by omega) (by omega)]; simp [h5]
      have n5 : ¬ (w 5 = 0) := by omega
      cases hg : t s with
      | none =>
        refine Or.inl ⟨-6, by decide, by decide, K_X10_sightingState.e X 13 _ I L _ ?_, fun J L2 hM hN => K_X11_asksSighted.e X 13 _ _ J L2 _ ?_⟩
        · simp (disch := omega) only [c_isSlot, ha, c_hasInspector h v, hi, hS.no hs hg, a_bi_i, a_bv_n, a_bl_l, a_bq_q, l_0, l_1, l_2, l_3, l_4, l_5, l_6, l_7, l_8, l_9, l_10, l_12, l_16, l_20, l_24, l_25, l_31, l_32, l_33, l_40, l_48, l_57, l_60, l_63, l_64, l_78, l_85, l_97, l_99, l_100, l_122, l_255, l_325, l_700, l_999, l_1000, l_1200, l_99999, l_100000, l_1000000, l_2000000000, l_N, n_add, n_mul, n_lt, n_out, n_div, n_dm, n_eq, n_toN, n_inN, n_ltN, n_nltN, n_neN, Nat.not_lt_zero, false_or, or_false, ite_y, ite_n, if_true, if_false, ite_tt, ite_ff, b_0, b_1, eq_self_iff_true, Bool.true_eq_false, Bool.false_eq_true]
        · have n10 : ¬ (1 = 0) := by decide
          have e5 := hM 5 (by decide)
          simp (disch := omega) only [m_isSlot, ha, e5, n5, n10, hN.no hs hg, a_bi_i, a_bv_n, a_bl_l, a_bq_q, l_0, l_1, l_2, l_3, l_4, l_5, l_6, l_7, l_8, l_9, l_10, l_12, l_16, l_20, l_24, l_25, l_31, l_32, l_33, l_40, l_48, l_57, l_60, l_63, l_64, l_78, l_85, l_97, l_99, l_100, l_122, l_255, l_325, l_700, l_999, l_1000, l_1200, l_99999, l_100000, l_1000000, l_2000000000, l_N, n_add, n_mul, n_lt, n_out, n_div, n_dm, n_eq, n_toN, n_inN, n_ltN, n_nltN, n_neN, Nat.not_lt_zero, false_or, or_false, ite_y, ite_n, if_true, if_false, ite_tt, ite_ff, b_0, b_1, eq_self_iff_true, Bool.true_eq_false, Bool.false_eq_true]
      | some p =>
        obtain ⟨wd, n, g⟩ := p
        cases ho : siO w n g with
        | true => exact Or.inr ⟨s, wd, n, g, rfl, hs, h5, hg, ho⟩
        | false =>
          refine Or.inl ⟨-2, by decide, by decide, ?_, fun J L2 hM hN => ?_⟩
          · rw [c_sighting h v hS ht hs h5 hg (by omega), ho]; rfl
          · rw [m_sighting hM v hN ht hs h5 hg (by omega), ho]; rfl
    · have hi : inr (nI 0) (w 5) = false := by rw [inr_n (by omega) (by omega)]; simp [h5]
      have n5 : w 5 = 0 := by omega
      refine Or.inl ⟨-2, by decide, by decide, K_X10_sightingState.e X 13 _ I L _ ?_, fun J L2 hM hN => K_X11_asksSighted.e X 13 _ _ J L2 _ ?_⟩
      · simp (disch := omega) only [c_isSlot, ha, c_hasInspector h v, hi, a_bi_i, a_bv_n, a_bl_l, a_bq_q, l_0, l_1, l_2, l_3, l_4, l_5, l_6, l_7, l_8, l_9, l_10, l_12, l_16, l_20, l_24, l_25, l_31, l_32, l_33, l_40, l_48, l_57, l_60, l_63, l_64, l_78, l_85, l_97, l_99, l_100, l_122, l_255, l_325, l_700, l_999, l_1000, l_1200, l_99999, l_100000, l_1000000, l_2000000000, l_N, n_add, n_mul, n_lt, n_out, n_div, n_dm, n_eq, n_toN, n_inN, n_ltN, n_nltN, n_neN, Nat.not_lt_zero, false_or, or_false, ite_y, ite_n, if_true, if_false, ite_tt, ite_ff, b_0, b_1, eq_self_iff_true, Bool.true_eq_false, Bool.false_eq_true]
      · have e5 := hM 5 (by decide)
        simp (disch := omega) only [m_isSlot, ha, e5, n5, a_bi_i, a_bv_n, a_bl_l, a_bq_q, l_0, l_1, l_2, l_3, l_4, l_5, l_6, l_7, l_8, l_9, l_10, l_12, l_16, l_20, l_24, l_25, l_31, l_32, l_33, l_40, l_48, l_57, l_60, l_63, l_64, l_78, l_85, l_97, l_99, l_100, l_122, l_255, l_325, l_700, l_999, l_1000, l_1200, l_99999, l_100000, l_1000000, l_2000000000, l_N, n_add, n_mul, n_lt, n_out, n_div, n_dm, n_eq, n_toN, n_inN, n_ltN, n_nltN, n_neN, Nat.not_lt_zero, false_or, or_false, ite_y, ite_n, if_true, if_false, ite_tt, ite_ff, b_0, b_1, eq_self_iff_true, Bool.true_eq_false, Bool.false_eq_true]
theorem q_sighted (h : TC I w) (v : Vw w) (hS : SC I L t) (ht : Vt t) (a : Int32) : BothS w t (K_X10_sighted X 15 a) (K_X11_sighted X 15 a) I L := by
  rcases sight_cases (X := X) h v hS ht a with ⟨x, x1, x2, x3, x4⟩ | ⟨s, wd, n, g, rfl, hs, h5, hg, ho⟩
  · refine BothS.pure x (K_X10_sighted.e X 14 a I L _ ?_) (fun J L2 hM hN => K_X11_sighted.e X 14 a J L2 _ ?_)
    · simp only [a_bi_i, a_bv_n, a_bl_l, a_bq_q, x3, l_0, x1, if_false]
    · simp only [a_bi_i, a_bv_n, a_bl_l, a_bq_q, l_0, l_1, x4 J L2 hM hN, x2, if_true]
  · obtain ⟨J, f1, f2, f3, f4⟩ := c_fit (X := X) (d := 14) h v hS ht hs h5 hg ho (by omega)
    refine ⟨nI (cnt (2 * w 0) (fitB w n g)), J, K_X10_sighted.e X 14 _ I L _ ?_, f2, fun M L2 hM hN => ?_⟩
    · have c1 := c_sighting (X := X) (d := 14) h v hS ht hs h5 hg (by omega)
      rw [ho] at c1
      have c1' : K_X10_sightingState X 14 (nI s) (I, L, ()) = some (some (aI (nI 0)), (I, L, ())) := c1
      simp (disch := omega) only [c1', f1, a_bi_i, a_bv_n, a_bl_l, a_bq_q, l_0, l_1, l_2, l_3, l_4, l_5, l_6, l_7, l_8, l_9, l_10, l_12, l_16, l_20, l_24, l_25, l_31, l_32, l_33, l_40, l_48, l_57, l_60, l_63, l_64, l_78, l_85, l_97, l_99, l_100, l_122, l_255, l_325, l_700, l_999, l_1000, l_1200, l_99999, l_100000, l_1000000, l_2000000000, l_N, n_add, n_mul, n_lt, n_out, n_div, n_dm, n_eq, n_toN, n_inN, n_ltN, n_nltN, n_neN, Nat.not_lt_zero, false_or, or_false, ite_y, ite_n, if_true, if_false, ite_tt, ite_ff, b_0, b_1, eq_self_iff_true, Bool.true_eq_false, Bool.false_eq_true]
    · obtain ⟨M', m1, m2⟩ := m_sightedOf (X := X) (d := 14) hM v hN ht hs h5 hg ho (by omega)
      have c1 := m_sighting (X := X) (d := 14) hM v hN ht hs h5 hg (by omega)
      rw [ho] at c1
      have c1' : K_X11_asksSighted X 14 (nI s) (nI 1) (M, L2, ()) = some (some (aI (nI 0)), (M, L2, ())) := c1
      refine ⟨M', K_X11_sighted.e X 14 _ M L2 _ ?_, Sm.of m2 (by decide)⟩
      simp (disch := omega) only [c1', m1, Nat.lt_irrefl, a_bi_i, a_bv_n, a_bl_l, a_bq_q, l_0, l_1, l_2, l_3, l_4, l_5, l_6, l_7, l_8, l_9, l_10, l_12, l_16, l_20, l_24, l_25, l_31, l_32, l_33, l_40, l_48, l_57, l_60, l_63, l_64, l_78, l_85, l_97, l_99, l_100, l_122, l_255, l_325, l_700, l_999, l_1000, l_1200, l_99999, l_100000, l_1000000, l_2000000000, l_N, n_add, n_mul, n_lt, n_out, n_div, n_dm, n_eq, n_toN, n_inN, n_ltN, n_nltN, n_neN, Nat.not_lt_zero, false_or, or_false, ite_y, ite_n, if_true, if_false, ite_tt, ite_ff, b_0, b_1, eq_self_iff_true, Bool.true_eq_false, Bool.false_eq_true]
theorem q_told (h : TC I w) (v : Vw w) (hS : SC I L t) (ht : Vt t) (a : Int32) : BothS w t (K_X10_told X 15 a) (K_X11_told_ X 15 a) I L := by
  obtain ⟨⟨w0, w1, -⟩, -⟩ := id v
  rcases sight_cases (X := X) h v hS ht a with ⟨x, x1, x2, x3, x4⟩ | ⟨s, wd, n, g, rfl, hs, h5, hg, ho⟩
  · refine BothS.pure x (K_X10_told.e X 14 a I L _ ?_) (fun J L2 hM hN => K_X11_told_.e X 14 a J L2 _ ?_)
    · simp only [a_bi_i, a_bv_n, a_bl_l, a_bq_q, x3, l_0, x1, if_false]
    · simp only [a_bi_i, a_bv_n, a_bl_l, a_bq_q, l_0, l_1, x4 J L2 hM hN, x2, if_true]
  · obtain ⟨J, f1, f2, f3, f4⟩ := c_fit (X := X) (d := 14) h v hS ht hs h5 hg ho (by omega)
    refine ⟨oI (fnd (2 * w 0) (fitB w n g)), J, K_X10_told.e X 14 _ I L _ ?_, f2, fun M L2 hM hN => ?_⟩
    · have c1 := c_sighting (X := X) (d := 14) h v hS ht hs h5 hg (by omega)
      rw [ho] at c1
      have c1' : K_X10_sightingState X 14 (nI s) (I, L, ()) = some (some (aI (nI 0)), (I, L, ())) := c1
      simp (disch := omega) only [c1', f1, a_bi_i, a_bv_n, a_bl_l, a_bq_q, l_0, l_1, l_2, l_3, l_4, l_5, l_6, l_7, l_8, l_9, l_10, l_12, l_16, l_20, l_24, l_25, l_31, l_32, l_33, l_40, l_48, l_57, l_60, l_63, l_64, l_78, l_85, l_97, l_99, l_100, l_122, l_255, l_325, l_700, l_999, l_1000, l_1200, l_99999, l_100000, l_1000000, l_2000000000, l_N, n_add, n_mul, n_lt, n_out, n_div, n_dm, n_eq, n_toN, n_inN, n_ltN, n_nltN, n_neN, Nat.not_lt_zero, false_or, or_false, ite_y, ite_n, if_true, if_false, ite_tt, ite_ff, b_0, b_1, eq_self_iff_true, Bool.true_eq_false, Bool.false_eq_true]
      refine find_loop (F := fun b => v_X10_told_25 X 14 (nI b) (J, L, ())) (fun b hb => ⟨fun hp => ?_, fun hp r hr => ?_⟩) ?_
      · refine v_X10_told_25.e X 14 _ J L _ ?_
        simp (disch := omega) only [c_beginCount f3 v, f4.1, hp, a_bi_i, a_bv_n, a_bl_l, a_bq_q, l_0, l_1, l_2, l_3, l_4, l_5, l_6, l_7, l_8, l_9, l_10, l_12, l_16, l_20, l_24, l_25, l_31, l_32, l_33, l_40, l_48, l_57, l_60, l_63, l_64, l_78, l_85, l_97, l_99, l_100, l_122, l_255, l_325, l_700, l_999, l_1000, l_1200, l_99999, l_100000, l_1000000, l_2000000000, l_N, n_add, n_mul, n_lt, n_out, n_div, n_dm, n_eq, n_toN, n_inN, n_ltN, n_nltN, n_neN, Nat.not_lt_zero, false_or, or_false, ite_y, ite_n, if_true, if_false, ite_tt, ite_ff, b_0, b_1, eq_self_iff_true, Bool.true_eq_false, Bool.false_eq_true]
      · refine v_X10_told_25.e X 14 _ J L _ ?_
        simp (disch := omega) only [c_beginCount f3 v, f4.1, hp, a_bi_i, a_bv_n, a_bl_l, a_bq_q, l_0, l_1, l_2, l_3, l_4, l_5, l_6, l_7, l_8, l_9, l_10, l_12, l_16, l_20, l_24, l_25, l_31, l_32, l_33, l_40, l_48, l_57, l_60, l_63, l_64, l_78, l_85, l_97, l_99, l_100, l_122, l_255, l_325, l_700, l_999, l_1000, l_1200, l_99999, l_100000, l_1000000, l_2000000000, l_N, n_add, n_mul, n_lt, n_out, n_div, n_dm, n_eq, n_toN, n_inN, n_ltN, n_nltN, n_neN, Nat.not_lt_zero, false_or, or_false, ite_y, ite_n, if_true, if_false, ite_tt, ite_ff, b_0, b_1, eq_self_iff_true, Bool.true_eq_false, Bool.false_eq_true]
        exact hr
      · refine v_X10_told_25.e X 14 _ J L _ ?_
        simp (disch := omega) only [c_beginCount f3 v, Nat.lt_irrefl, a_bi_i, a_bv_n, a_bl_l, a_bq_q, l_0, l_1, l_2, l_3, l_4, l_5, l_6, l_7, l_8, l_9, l_10, l_12, l_16, l_20, l_24, l_25, l_31, l_32, l_33, l_40, l_48, l_57, l_60, l_63, l_64, l_78, l_85, l_97, l_99, l_100, l_122, l_255, l_325, l_700, l_999, l_1000, l_1200, l_99999, l_100000, l_1000000, l_2000000000, l_N, n_add, n_mul, n_lt, n_out, n_div, n_dm, n_eq, n_toN, n_inN, n_ltN, n_nltN, n_neN, Nat.not_lt_zero, false_or, or_false, ite_y, ite_n, if_true, if_false, ite_tt, ite_ff, b_0, b_1, eq_self_iff_true, Bool.true_eq_false, Bool.false_eq_true]
    · have c1 := m_sighting (X := X) (d := 14) hM v hN ht hs h5 hg (by omega)
      rw [ho] at c1
      have c1' : K_X11_asksSighted X 14 (nI s) (nI 1) (M, L2, ()) = some (some (aI (nI 0)), (M, L2, ())) := c1
      have key : ∀ k b (K : A3 Int32), b + k = 2 * w 0 → Fm [47, 48] M K → ∃ M', v_X11_told__15 X 14 (nI s) (nI b) (K, L2, ()) = some (some (aI (oI (fndF (fitB w n g) k b))), (M', L2, ())) ∧ Fm [47, 48] M M' := by
        intro k
        induction k with
        | zero =>
          intro b K hb hK
          refine ⟨K, v_X11_told__15.e X 14 _ _ K L2 _ ?_, hK⟩
          rw [(hM.fm hK (by decide)) 0 (by decide)]
          simp (disch := omega) only [a_bi_i, a_bv_n, a_bl_l, a_bq_q, l_0, l_1, l_2, l_3, l_4, l_5, l_6, l_7, l_8, l_9, l_10, l_12, l_16, l_20, l_24, l_25, l_31, l_32, l_33, l_40, l_48, l_57, l_60, l_63, l_64, l_78, l_85, l_97, l_99, l_100, l_122, l_255, l_325, l_700, l_999, l_1000, l_1200, l_99999, l_100000, l_1000000, l_2000000000, l_N, n_add, n_mul, n_lt, n_out, n_div, n_dm, n_eq, n_toN, n_inN, n_ltN, n_nltN, n_neN, Nat.not_lt_zero, false_or, or_false, ite_y, ite_n, if_true, if_false, ite_tt, ite_ff, b_0, b_1, eq_self_iff_true, Bool.true_eq_false, Bool.false_eq_true]
          rfl
        | succ k ih =>
          intro b K hb hK
          have tK : TM K w := hM.fm hK (by decide)
          obtain ⟨K2, a1, a2, a3⟩ := m_isSighted (X := X) (d := 14) (b := b) tK v (hN.fm hK (by decide) (by decide)) ht hs h5 hg ho (by omega) (by omega)
          rw [fndF]
          cases hf : fitB w n g b with
          | true =>
            rw [hf] at a1
            refine ⟨K2, v_X11_told__15.e X 14 _ _ K L2 _ ?_, hK.trans a2⟩
            rw [tK 0 (by decide)]
            simp (disch := omega) only [a1, a_bi_i, a_bv_n, a_bl_l, a_bq_q, l_0, l_1, l_2, l_3, l_4, l_5, l_6, l_7, l_8, l_9, l_10, l_12, l_16, l_20, l_24, l_25, l_31, l_32, l_33, l_40, l_48, l_57, l_60, l_63, l_64, l_78, l_85, l_97, l_99, l_100, l_122, l_255, l_325, l_700, l_999, l_1000, l_1200, l_99999, l_100000, l_1000000, l_2000000000, l_N, n_add, n_mul, n_lt, n_out, n_div, n_dm, n_eq, n_toN, n_inN, n_ltN, n_nltN, n_neN, Nat.not_lt_zero, false_or, or_false, ite_y, ite_n, if_true, if_false, ite_tt, ite_ff, b_0, b_1, eq_self_iff_true, Bool.true_eq_false, Bool.false_eq_true]
            rfl
          | false =>
            rw [hf] at a1
            obtain ⟨M', b1, b2⟩ := ih (b + 1) K2 (by omega) (hK.trans a2)
            refine ⟨M', v_X11_told__15.e X 14 _ _ K L2 _ ?_, b2⟩
            rw [tK 0 (by decide)]
            simp (disch := omega) only [a1, a_bi_i, a_bv_n, a_bl_l, a_bq_q, l_0, l_1, l_2, l_3, l_4, l_5, l_6, l_7, l_8, l_9, l_10, l_12, l_16, l_20, l_24, l_25, l_31, l_32, l_33, l_40, l_48, l_57, l_60, l_63, l_64, l_78, l_85, l_97, l_99, l_100, l_122, l_255, l_325, l_700, l_999, l_1000, l_1200, l_99999, l_100000, l_1000000, l_2000000000, l_N, n_add, n_mul, n_lt, n_out, n_div, n_dm, n_eq, n_toN, n_inN, n_ltN, n_nltN, n_neN, Nat.not_lt_zero, false_or, or_false, ite_y, ite_n, if_true, if_false, ite_tt, ite_ff, b_0, b_1, eq_self_iff_true, Bool.true_eq_false, Bool.false_eq_true]
            exact b1
      obtain ⟨M', b1, b2⟩ := key (2 * w 0) 0 M (by omega) Fm.refl
      refine ⟨M', K_X11_told_.e X 14 _ M L2 _ ?_, Sm.of b2 (by decide)⟩
      simp (disch := omega) only [c1', Nat.lt_irrefl, a_bi_i, a_bv_n, a_bl_l, a_bq_q, l_0, l_1, l_2, l_3, l_4, l_5, l_6, l_7, l_8, l_9, l_10, l_12, l_16, l_20, l_24, l_25, l_31, l_32, l_33, l_40, l_48, l_57, l_60, l_63, l_64, l_78, l_85, l_97, l_99, l_100, l_122, l_255, l_325, l_700, l_999, l_1000, l_1200, l_99999, l_100000, l_1000000, l_2000000000, l_N, n_add, n_mul, n_lt, n_out, n_div, n_dm, n_eq, n_toN, n_inN, n_ltN, n_nltN, n_neN, Nat.not_lt_zero, false_or, or_false, ite_y, ite_n, if_true, if_false, ite_tt, ite_ff, b_0, b_1, eq_self_iff_true, Bool.true_eq_false, Bool.false_eq_true]
      exact b1
def mayX (w : TW) (n : Nat) (g : Nat → Int64) (m : Nat) : Nat → Int32
  | 0 => nI 0
  | b + 1 => if fitB w n g b = true then (match crs w 0 b m with
    | none => mayX w n g m b
    | some c => mayX w n g m b ||| (nI 1 <<< (nI c &&& nI 31))) else mayX w n g m b
theorem or_z (x : Int32) : x ||| nI 0 = x := bt_ext fun k _ => by rw [bt_or, bt_0, Bool.or_false]
theorem m_posO {b m : Nat} (v : Vw w) (hJ : ∀ m, m < w 1 → J 47 0 m = oI (crs w 0 b m)) (hm : m < w 1) (hd : 1 ≤ d) : K_X11_posOf X d (nI 0) (nI m) (J, L, ()) = some (some (aI (oI (crs w 0 b m))), (J, L, ())) := by
  obtain ⟨e', rfl⟩ : ∃ e', d = e' + 1 := ⟨d - 1, by omega⟩
  obtain ⟨⟨w0, w1, -⟩, -⟩ := id v
  refine K_X11_posOf.e X e' _ _ J L _ ?_
  simp (disch := omega) only [a_bi_i, a_bv_n, a_bl_l, a_bq_q, l_0, l_1, l_2, l_3, l_4, l_5, l_6, l_7, l_8, l_9, l_10, l_12, l_16, l_20, l_24, l_25, l_31, l_32, l_33, l_40, l_48, l_57, l_60, l_63, l_64, l_78, l_85, l_97, l_99, l_100, l_122, l_255, l_325, l_700, l_999, l_1000, l_1200, l_99999, l_100000, l_1000000, l_2000000000, l_N, n_add, n_mul, n_lt, n_out, n_div, n_dm, n_eq, n_toN, n_inN, n_ltN, n_nltN, n_neN, Nat.not_lt_zero, false_or, or_false, ite_y, ite_n, if_true, if_false, ite_tt, ite_ff, b_0, b_1, eq_self_iff_true, Bool.true_eq_false, Bool.false_eq_true]
  rw [show 40 * 0 + m = m by omega, hJ m hm]
theorem q_may (h : TC I w) (v : Vw w) (hS : SC I L t) (ht : Vt t) (a b : Int32) : BothS w t (K_X10_may X 15 a b) (K_X11_may X 15 a b) I L := by
  obtain ⟨⟨w0, w1, -⟩, -⟩ := id v
  cases hb : inr b (w 1) with
  | false =>
    refine BothS.pure (-2) (K_X10_may.e X 14 a b I L _ ?_) (fun J L2 hM hN => K_X11_may.e X 14 a b J L2 _ ?_)
    · simp (disch := omega) only [c_hasMinute h v, hb, a_bi_i, a_bv_n, a_bl_l, a_bq_q, l_0, l_1, l_2, l_3, l_4, l_5, l_6, l_7, l_8, l_9, l_10, l_12, l_16, l_20, l_24, l_25, l_31, l_32, l_33, l_40, l_48, l_57, l_60, l_63, l_64, l_78, l_85, l_97, l_99, l_100, l_122, l_255, l_325, l_700, l_999, l_1000, l_1200, l_99999, l_100000, l_1000000, l_2000000000, l_N, n_add, n_mul, n_lt, n_out, n_div, n_dm, n_eq, n_toN, n_inN, n_ltN, n_nltN, n_neN, Nat.not_lt_zero, false_or, or_false, ite_y, ite_n, if_true, if_false, ite_tt, ite_ff, b_0, b_1, eq_self_iff_true, Bool.true_eq_false, Bool.false_eq_true]
    · have : K_X11_asksSighted X 14 a (nI 0) (J, L2, ()) = some (some (aI (-2)), (J, L2, ())) := by
        refine K_X11_asksSighted.e X 13 a _ J L2 _ ?_
        simp (disch := omega) only [m_isSlot, a_bi_i, a_bv_n, a_bl_l, a_bq_q, l_0, l_1, l_2, l_3, l_4, l_5, l_6, l_7, l_8, l_9, l_10, l_12, l_16, l_20, l_24, l_25, l_31, l_32, l_33, l_40, l_48, l_57, l_60, l_63, l_64, l_78, l_85, l_97, l_99, l_100, l_122, l_255, l_325, l_700, l_999, l_1000, l_1200, l_99999, l_100000, l_1000000, l_2000000000, l_N, n_add, n_mul, n_lt, n_out, n_div, n_dm, n_eq, n_toN, n_inN, n_ltN, n_nltN, n_neN, Nat.not_lt_zero, false_or, or_false, ite_y, ite_n, if_true, if_false, ite_tt, ite_ff, b_0, b_1, eq_self_iff_true, Bool.true_eq_false, Bool.false_eq_true]
        cases inr a 4 with
        | false => rfl
        | true =>
          simp only [Bool.true_eq_false, if_false]
          split <;> rfl
      have hx : bI false = nI 0 := rfl
      simp (disch := omega) only [m_isMinute hM v, hb, hx, this, a_bi_i, a_bv_n, a_bl_l, a_bq_q, l_0, l_1, l_2, l_3, l_4, l_5, l_6, l_7, l_8, l_9, l_10, l_12, l_16, l_20, l_24, l_25, l_31, l_32, l_33, l_40, l_48, l_57, l_60, l_63, l_64, l_78, l_85, l_97, l_99, l_100, l_122, l_255, l_325, l_700, l_999, l_1000, l_1200, l_99999, l_100000, l_1000000, l_2000000000, l_N, n_add, n_mul, n_lt, n_out, n_div, n_dm, n_eq, n_toN, n_inN, n_ltN, n_nltN, n_neN, Nat.not_lt_zero, false_or, or_false, ite_y, ite_n, if_true, if_false, ite_tt, ite_ff, b_0, b_1, eq_self_iff_true, Bool.true_eq_false, Bool.false_eq_true]
      rfl
  | true =>
    obtain ⟨m, hm, rfl⟩ := inr_ex (by omega) hb
    have hx : bI true = nI 1 := rfl
    rcases sight_cases (X := X) h v hS ht a with ⟨x, x1, x2, x3, x4⟩ | ⟨s, wd, n, g, rfl, hs, h5, hg, ho⟩
    · refine BothS.pure x (K_X10_may.e X 14 a _ I L _ ?_) (fun J L2 hM hN => K_X11_may.e X 14 a _ J L2 _ ?_)
      · simp (disch := omega) only [c_hasMinute h v, hb, a_bi_i, a_bv_n, a_bl_l, a_bq_q, l_0, l_1, l_2, l_3, l_4, l_5, l_6, l_7, l_8, l_9, l_10, l_12, l_16, l_20, l_24, l_25, l_31, l_32, l_33, l_40, l_48, l_57, l_60, l_63, l_64, l_78, l_85, l_97, l_99, l_100, l_122, l_255, l_325, l_700, l_999, l_1000, l_1200, l_99999, l_100000, l_1000000, l_2000000000, l_N, n_add, n_mul, n_lt, n_out, n_div, n_dm, n_eq, n_toN, n_inN, n_ltN, n_nltN, n_neN, Nat.not_lt_zero, false_or, or_false, ite_y, ite_n, if_true, if_false, ite_tt, ite_ff, b_0, b_1, eq_self_iff_true, Bool.true_eq_false, Bool.false_eq_true, x3, x1]
      · simp (disch := omega) only [m_isMinute hM v, hb, hx, a_bi_i, a_bv_n, a_bl_l, a_bq_q, l_0, l_1, x4 J L2 hM hN, x2, if_true]
    · obtain ⟨J, f1, f2, f3, f4⟩ := c_fit (X := X) (d := 14) h v hS ht hs h5 hg ho (by omega)
      refine ⟨mayX w n g m (2 * w 0), J, K_X10_may.e X 14 _ _ I L _ ?_, f2, fun M L2 hM hN => ?_⟩
      · have c1 := c_sighting (X := X) (d := 14) h v hS ht hs h5 hg (by omega)
        rw [ho] at c1
        have c1' : K_X10_sightingState X 14 (nI s) (I, L, ()) = some (some (aI (nI 0)), (I, L, ())) := c1
        simp (disch := omega) only [c_hasMinute h v, hb, c1', f1, a_bi_i, a_bv_n, a_bl_l, a_bq_q, l_0, l_1, l_2, l_3, l_4, l_5, l_6, l_7, l_8, l_9, l_10, l_12, l_16, l_20, l_24, l_25, l_31, l_32, l_33, l_40, l_48, l_57, l_60, l_63, l_64, l_78, l_85, l_97, l_99, l_100, l_122, l_255, l_325, l_700, l_999, l_1000, l_1200, l_99999, l_100000, l_1000000, l_2000000000, l_N, n_add, n_mul, n_lt, n_out, n_div, n_dm, n_eq, n_toN, n_inN, n_ltN, n_nltN, n_neN, Nat.not_lt_zero, false_or, or_false, ite_y, ite_n, if_true, if_false, ite_tt, ite_ff, b_0, b_1, eq_self_iff_true, Bool.true_eq_false, Bool.false_eq_true]
        obtain ⟨-, -, c2⟩ := loop_z (S := Unit) (F := fun k _ => v_X10_may_43 X 14 (nI m) (mayX w n g m k) (nI k) (J, L, ())) (P := fun _ _ => True) (2 * w 0) () trivial (fun k _ hk _ => ⟨(), trivial, fun r hr => v_X10_may_43.e X 14 _ _ _ J L r (by
          have hr : v_X10_may_43 X 14 (nI m) (mayX w n g m (k + 1)) (nI (k + 1)) (J, L, ()) = some r := hr
          rw [mayX] at hr
          have e14 := f4.2 k hk m hm
          simp (disch := omega) only [c_beginCount f3 v, f4.1, e14, a_bi_i, a_bv_n, a_bl_l, a_bq_q, l_0, l_1, l_2, l_3, l_4, l_5, l_6, l_7, l_8, l_9, l_10, l_12, l_16, l_20, l_24, l_25, l_31, l_32, l_33, l_40, l_48, l_57, l_60, l_63, l_64, l_78, l_85, l_97, l_99, l_100, l_122, l_255, l_325, l_700, l_999, l_1000, l_1200, l_99999, l_100000, l_1000000, l_2000000000, l_N, n_add, n_mul, n_lt, n_out, n_div, n_dm, n_eq, n_toN, n_inN, n_ltN, n_nltN, n_neN, Nat.not_lt_zero, false_or, or_false, ite_y, ite_n, if_true, if_false, ite_tt, ite_ff, b_0, b_1, eq_self_iff_true, Bool.true_eq_false, Bool.false_eq_true]
          cases hf : fitB w n g k with
          | false => rw [hf] at hr; simp only [Bool.false_eq_true, if_false, if_true] at hr ⊢; exact hr
          | true =>
            rw [hf] at hr
            simp only [Bool.true_eq_false, if_false, if_true] at hr ⊢
            cases hc : crs w 0 k m with
            | none => rw [hc] at hr; simp only [oI, if_true] at hr ⊢; exact hr
            | some c =>
              have := crs_lt v h5 hk hc
              rw [hc] at hr
              simp only [oI] at hr ⊢
              simp (disch := omega) only [n_neN, if_false]
              exact hr)⟩)
        refine c2 _ (v_X10_may_43.e X 14 _ _ _ J L _ ?_)
        simp (disch := omega) only [c_beginCount f3 v, Nat.lt_irrefl, a_bi_i, a_bv_n, a_bl_l, a_bq_q, l_0, l_1, l_2, l_3, l_4, l_5, l_6, l_7, l_8, l_9, l_10, l_12, l_16, l_20, l_24, l_25, l_31, l_32, l_33, l_40, l_48, l_57, l_60, l_63, l_64, l_78, l_85, l_97, l_99, l_100, l_122, l_255, l_325, l_700, l_999, l_1000, l_1200, l_99999, l_100000, l_1000000, l_2000000000, l_N, n_add, n_mul, n_lt, n_out, n_div, n_dm, n_eq, n_toN, n_inN, n_ltN, n_nltN, n_neN, Nat.not_lt_zero, false_or, or_false, ite_y, ite_n, if_true, if_false, ite_tt, ite_ff, b_0, b_1, eq_self_iff_true, Bool.true_eq_false, Bool.false_eq_true]
      · have c1 := m_sighting (X := X) (d := 14) hM v hN ht hs h5 hg (by omega)
        rw [ho] at c1
        have c1' : K_X11_asksSighted X 14 (nI s) (nI 1) (M, L2, ()) = some (some (aI (nI 0)), (M, L2, ())) := c1
        obtain ⟨M', d1, d2⟩ := loop_z (S := A3 Int32) (F := fun k K => v_X11_may_24 X 14 (nI s) (nI m) (mayX w n g m k) (nI k) (K, L2, ())) (P := fun _ K => Fm [47, 48] M K) (2 * w 0) M Fm.refl (fun k K hk hK => by
          have tK : TM K w := hM.fm hK (by decide)
          obtain ⟨K2, a1, a2, a3⟩ := m_isSighted (X := X) (d := 14) (b := k) tK v (hN.fm hK (by decide) (by decide)) ht hs h5 hg ho hk (by omega)
          refine ⟨K2, hK.trans a2, fun r hr => v_X11_may_24.e X 14 _ _ _ _ K L2 r ?_⟩
          have hr : v_X11_may_24 X 14 (nI s) (nI m) (mayX w n g m (k + 1)) (nI (k + 1)) (K2, L2, ()) = some r := hr
          rw [mayX] at hr
          rw [tK 0 (by decide)]
          simp (disch := omega) only [a1, m_posO v a3 hm, or_z, a_bi_i, a_bv_n, a_bl_l, a_bq_q, l_0, l_1, l_2, l_3, l_4, l_5, l_6, l_7, l_8, l_9, l_10, l_12, l_16, l_20, l_24, l_25, l_31, l_32, l_33, l_40, l_48, l_57, l_60, l_63, l_64, l_78, l_85, l_97, l_99, l_100, l_122, l_255, l_325, l_700, l_999, l_1000, l_1200, l_99999, l_100000, l_1000000, l_2000000000, l_N, n_add, n_mul, n_lt, n_out, n_div, n_dm, n_eq, n_toN, n_inN, n_ltN, n_nltN, n_neN, Nat.not_lt_zero, false_or, or_false, ite_y, ite_n, if_true, if_false, ite_tt, ite_ff, b_0, b_1, eq_self_iff_true, Bool.true_eq_false, Bool.false_eq_true]
          cases hf : fitB w n g k with
          | false => rw [hf] at hr; simp only [Bool.false_eq_true, if_false, if_true] at hr ⊢; exact hr
          | true =>
            rw [hf] at hr
            simp only [Bool.true_eq_false, if_false, if_true] at hr ⊢
            cases hc : crs w 0 k m with
            | none => rw [hc] at hr; simp only [oI, if_true] at hr ⊢; exact hr
            | some c =>
              have := crs_lt v h5 hk hc
              rw [hc] at hr
              simp only [oI] at hr ⊢
              simp (disch := omega) only [n_neN, if_false]
              exact hr)
        refine ⟨M', K_X11_may.e X 14 _ _ M L2 _ ?_, Sm.of d1 (by decide)⟩
        simp (disch := omega) only [m_isMinute hM v, hb, hx, c1', Nat.lt_irrefl, a_bi_i, a_bv_n, a_bl_l, a_bq_q, l_0, l_1, l_2, l_3, l_4, l_5, l_6, l_7, l_8, l_9, l_10, l_12, l_16, l_20, l_24, l_25, l_31, l_32, l_33, l_40, l_48, l_57, l_60, l_63, l_64, l_78, l_85, l_97, l_99, l_100, l_122, l_255, l_325, l_700, l_999, l_1000, l_1200, l_99999, l_100000, l_1000000, l_2000000000, l_N, n_add, n_mul, n_lt, n_out, n_div, n_dm, n_eq, n_toN, n_inN, n_ltN, n_nltN, n_neN, Nat.not_lt_zero, false_or, or_false, ite_y, ite_n, if_true, if_false, ite_tt, ite_ff, b_0, b_1, eq_self_iff_true, Bool.true_eq_false, Bool.false_eq_true]
        refine d2 _ (v_X11_may_24.e X 14 _ _ _ _ M' L2 _ ?_)
        rw [(hM.fm d1 (by decide)) 0 (by decide)]
        simp (disch := omega) only [Nat.lt_irrefl, a_bi_i, a_bv_n, a_bl_l, a_bq_q, l_0, l_1, l_2, l_3, l_4, l_5, l_6, l_7, l_8, l_9, l_10, l_12, l_16, l_20, l_24, l_25, l_31, l_32, l_33, l_40, l_48, l_57, l_60, l_63, l_64, l_78, l_85, l_97, l_99, l_100, l_122, l_255, l_325, l_700, l_999, l_1000, l_1200, l_99999, l_100000, l_1000000, l_2000000000, l_N, n_add, n_mul, n_lt, n_out, n_div, n_dm, n_eq, n_toN, n_inN, n_ltN, n_nltN, n_neN, Nat.not_lt_zero, false_or, or_false, ite_y, ite_n, if_true, if_false, ite_tt, ite_ff, b_0, b_1, eq_self_iff_true, Bool.true_eq_false, Bool.false_eq_true]
end
