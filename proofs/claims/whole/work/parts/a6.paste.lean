/-! paste -/
section
variable {X : AX} {d : Nat} {I J : A3 Int32} {L L' : A3 Int64} {w : TW} {e : CE} {im : TI} {n : Nat} {b : Nat → Int8} {t : TS}
theorem c_hasRun {s m i k : Nat} (h3 : I 32 s 3 = nI m) (hm : m ≤ 60) (hi : i < 2147483648) (hk : k < 2147483648) (hd : 1 ≤ d) : K_X6_hasRun X d s (nI i) (nI k) (I, L, ()) = some (some (aI (bI (decide (i + k ≤ m)))), (I, L, ())) := by
  obtain ⟨g, rfl⟩ : ∃ g, d = g + 1 := ⟨d - 1, by omega⟩
  refine K_X6_hasRun.e X g _ _ _ I L _ ?_
  rw [h3]
  by_cases c1 : m < i
  · rw [decide_eq_false (by omega)]
    simp (disch := omega) only [a_bi_i, a_bv_n, a_bl_l, a_bq_q, l_0, l_1, l_2, l_3, l_4, l_5, l_6, l_7, l_8, l_9, l_10, l_12, l_16, l_20, l_24, l_25, l_31, l_32, l_33, l_40, l_48, l_57, l_60, l_63, l_64, l_78, l_85, l_97, l_99, l_100, l_122, l_255, l_325, l_700, l_999, l_1000, l_1200, l_99999, l_100000, l_1000000, l_2000000000, l_N, n_add, n_mul, n_lt, n_out, n_div, n_dm, n_eq, n_toN, n_inN, n_ltN, n_nltN, n_neN, Nat.not_lt_zero, false_or, or_false, ite_y, ite_n, if_true, if_false, ite_tt, ite_ff, b_0, b_1, eq_self_iff_true, Bool.true_eq_false, Bool.false_eq_true]
    rfl
  · by_cases c2 : m - i < k
    · rw [decide_eq_false (by omega)]
      simp (disch := omega) only [n_sub, a_bi_i, a_bv_n, a_bl_l, a_bq_q, l_0, l_1, l_2, l_3, l_4, l_5, l_6, l_7, l_8, l_9, l_10, l_12, l_16, l_20, l_24, l_25, l_31, l_32, l_33, l_40, l_48, l_57, l_60, l_63, l_64, l_78, l_85, l_97, l_99, l_100, l_122, l_255, l_325, l_700, l_999, l_1000, l_1200, l_99999, l_100000, l_1000000, l_2000000000, l_N, n_add, n_mul, n_lt, n_out, n_div, n_dm, n_eq, n_toN, n_inN, n_ltN, n_nltN, n_neN, Nat.not_lt_zero, false_or, or_false, ite_y, ite_n, if_true, if_false, ite_tt, ite_ff, b_0, b_1, eq_self_iff_true, Bool.true_eq_false, Bool.false_eq_true]
      rfl
    · rw [decide_eq_true (by omega)]
      simp (disch := omega) only [n_sub, a_bi_i, a_bv_n, a_bl_l, a_bq_q, l_0, l_1, l_2, l_3, l_4, l_5, l_6, l_7, l_8, l_9, l_10, l_12, l_16, l_20, l_24, l_25, l_31, l_32, l_33, l_40, l_48, l_57, l_60, l_63, l_64, l_78, l_85, l_97, l_99, l_100, l_122, l_255, l_325, l_700, l_999, l_1000, l_1200, l_99999, l_100000, l_1000000, l_2000000000, l_N, n_add, n_mul, n_lt, n_out, n_div, n_dm, n_eq, n_toN, n_inN, n_ltN, n_nltN, n_neN, Nat.not_lt_zero, false_or, or_false, ite_y, ite_n, if_true, if_false, ite_tt, ite_ff, b_0, b_1, eq_self_iff_true, Bool.true_eq_false, Bool.false_eq_true]
      rfl
theorem lg_add {i k m : Nat} (hi : i < 2147483648) (hk : k < 2147483648) (hm : m ≤ 60) : (nI 0 < lg_cmp ((nI i).toInt64 + (nI k).toInt64) (nI m).toInt64) ↔ ¬ i + k ≤ m := by
  rw [q_nI hi, q_nI hk, q_nI (by omega), q_add, show nI 0 = (0 : Int32) from rfl, lg_cmp_gt]
  exact Iff.trans (Int64.ofNat_lt_iff_lt (by omega) (by omega)) (by omega)
theorem bne1 : ¬ (bI true = (0 : Int32)) := by decide
theorem beq0 : bI false = (0 : Int32) := rfl
/-- the reference's paste, ahead of what it looks at -/
theorem m_paste0 {a b' c e' g' : Int32} (h : inr a 4 = false) : K_X11_paste X 15 a b' c e' g' (I, L, ()) = some (some (aI (-2)), (I, L, ())) := by
  refine K_X11_paste.e X 14 a b' c e' g' I L _ ?_
  rw [m_isSlot (by omega), h, a_bi_i, if_pos beq0]
theorem m_paste1 {s : Nat} {b' c e' g' : Int32} (hs : s < 4) (h : inr c 4 = false) : K_X11_paste X 15 (nI s) b' c e' g' (I, L, ()) = some (some (aI (-2)), (I, L, ())) := by
  refine K_X11_paste.e X 14 _ b' c e' g' I L _ ?_
  have ha : inr (nI s) 4 = true := by rw [inr_n (by omega) (by omega)]; simp [hs]
  rw [m_isSlot (by omega), ha, a_bi_i, if_neg bne1]
  dsimp only
  rw [m_isSlot (by omega), h, a_bi_i, if_pos beq0]
theorem m_paste2 {s s2 : Nat} {b' e' g' : Int32} {r : Option AV × AS Unit} (hs : s < 4) (hs2 : s2 < 4) (hr : (if I 59 0 s = -1 then some (some (aI (-6)), (I, L, ())) else if I 59 0 s2 = -1 then some (some (aI (-6)), (I, L, ())) else if I 60 0 s = I 60 0 s2 then (if b' < 0 then some (some (aI (-7)), (I, L, ())) else if e' < 0 then some (some (aI (-7)), (I, L, ())) else if g' < 0 then some (some (aI (-7)), (I, L, ())) else if 0 < lg_cmp (b'.toInt64 + g'.toInt64) (I 59 0 s).toInt64 then some (some (aI (-7)), (I, L, ())) else if 0 < lg_cmp (e'.toInt64 + g'.toInt64) (I 59 0 s2).toInt64 then some (some (aI (-7)), (I, L, ())) else v_X11_paste_113 X 14 (nI s) b' (nI s2) e' g' 0 (I, L, ())) else some (some (aI (-8)), (I, L, ()))) = some r) : K_X11_paste X 15 (nI s) b' (nI s2) e' g' (I, L, ()) = some r := by
  refine K_X11_paste.e X 14 _ b' _ e' g' I L _ ?_
  have ha : inr (nI s) 4 = true := by rw [inr_n (by omega) (by omega)]; simp [hs]
  have hc : inr (nI s2) 4 = true := by rw [inr_n (by omega) (by omega)]; simp [hs2]
  have oa : ¬ aout (nI s) 4 := by rw [n_out (by omega)]; omega
  have oc : ¬ aout (nI s2) 4 := by rw [n_out (by omega)]; omega
  rw [m_isSlot (by omega), ha, a_bi_i, if_neg bne1]
  dsimp only
  rw [m_isSlot (by omega), hc, a_bi_i, if_neg bne1]
  dsimp only
  rw [if_neg oa, if_neg oc, if_neg oa, if_neg oc, if_neg oa, if_neg oc, n_toN (show s < 2147483648 by omega), n_toN (show s2 < 2147483648 by omega)]
  exact hr
theorem c_paste0 {a b' c e' g' : Int32} (h : inr a 4 = false) : K_X10_paste X 15 a b' c e' g' (I, L, ()) = some (some (aI (-2)), (I, L, ())) := by
  refine K_X10_paste.e X 13 a b' c e' g' I L _ ?_
  rw [c_isSlot (by omega), h, a_bi_i, if_pos beq0]
theorem c_paste1 {s : Nat} {b' c e' g' : Int32} (hs : s < 4) (h : inr c 4 = false) : K_X10_paste X 15 (nI s) b' c e' g' (I, L, ()) = some (some (aI (-2)), (I, L, ())) := by
  refine K_X10_paste.e X 13 _ b' c e' g' I L _ ?_
  have ha : inr (nI s) 4 = true := by rw [inr_n (by omega) (by omega)]; simp [hs]
  rw [c_isSlot (by omega), ha, a_bi_i, if_neg bne1]
  dsimp only
  rw [c_isSlot (by omega), h, a_bi_i, if_pos beq0]
theorem c_paste2 {s s2 : Nat} {b' e' g' : Int32} {r : Option AV × AS Unit} (hs : s < 4) (hs2 : s2 < 4) (hr : (if I 32 s 1 = 0 then some (some (aI (-6)), (I, L, ())) else if I 32 s2 1 = 0 then some (some (aI (-6)), (I, L, ())) else if I 32 s 2 = I 32 s2 2 then (a_bi (K_X6_hasRun X 14 s b' g' (I, L, ())) fun x3 s3 => (if x3 = (0) then some (some (aI (-7)), (s3.1, s3.2.1, ())) else (a_bi (K_X6_hasRun X 14 s2 e' g' (s3.1, s3.2.1, ())) fun x4 s4 => (if x4 = (0) then some (some (aI (-7)), (s4.1, s4.2.1, ())) else if b' < 0 ∨ e' < 0 ∨ g' < 0 ∨ 60 < b'.toNatClampNeg + g'.toNatClampNeg ∨ 60 < e'.toNatClampNeg + g'.toNatClampNeg then none else (some (some (aI (0)), (s4.1, (upR s4.2.1 33 s2 (va_cpy (s4.2.1 33 s) (s4.2.1 33 s2) b'.toNatClampNeg e'.toNatClampNeg g'.toNatClampNeg)), ()))))))) else some (some (aI (-8)), (I, L, ()))) = some r) : K_X10_paste X 15 (nI s) b' (nI s2) e' g' (I, L, ()) = some r := by
  refine K_X10_paste.e X 13 _ b' _ e' g' I L _ ?_
  have ha : inr (nI s) 4 = true := by rw [inr_n (by omega) (by omega)]; simp [hs]
  have hc : inr (nI s2) 4 = true := by rw [inr_n (by omega) (by omega)]; simp [hs2]
  have oa : ¬ aout (nI s) 4 := by rw [n_out (by omega)]; omega
  have oc : ¬ aout (nI s2) 4 := by rw [n_out (by omega)]; omega
  rw [c_isSlot (by omega), ha, a_bi_i, if_neg bne1]
  dsimp only
  rw [c_isSlot (by omega), hc, a_bi_i, if_neg bne1]
  dsimp only
  rw [if_neg oa, if_neg oc, n_toN (show s < 2147483648 by omega), n_toN (show s2 < 2147483648 by omega)]
  exact hr
theorem g_paste (hR : Rel I L) (a b' c e' g' : Int32) : Good (K_X10_paste X 15 a b' c e' g') (K_X11_paste X 15 a b' c e' g') I L := by
  obtain ⟨w, e, im, n, b, t, h, hh⟩ := id hR
  have hS1 := h.2.2.2.2.2.2.2.1
  have hS2 := h.2.2.2.2.2.2.2.2.1
  have hV := h.2.2.2.2.2.2.2.2.2
  have n10 : ¬ (1 = 0) := by decide
  cases ha : inr a 4 with
  | false =>
    exact good_pure hR (-2) (c_paste0 ha) (m_paste0 ha)
  | true =>
    obtain ⟨s, hs, rfl⟩ := inr_ex (by omega) ha
    cases hc : inr c 4 with
    | false =>
      exact good_pure hR (-2) (c_paste1 hs hc) (m_paste1 hs hc)
    | true =>
      obtain ⟨s2, hs2, rfl⟩ := inr_ex (by omega) hc
      cases hg : t s with
      | none =>
        refine good_pure hR (-6) (c_paste2 hs hs2 ?_) (m_paste2 hs hs2 ?_)
        · simp (disch := omega) only [hS1.no hs hg, a_bi_i, a_bv_n, a_bl_l, a_bq_q, l_0, l_1, l_2, l_3, l_4, l_5, l_6, l_7, l_8, l_9, l_10, l_12, l_16, l_20, l_24, l_25, l_31, l_32, l_33, l_40, l_48, l_57, l_60, l_63, l_64, l_78, l_85, l_97, l_99, l_100, l_122, l_255, l_325, l_700, l_999, l_1000, l_1200, l_99999, l_100000, l_1000000, l_2000000000, l_N, n_add, n_mul, n_lt, n_out, n_div, n_dm, n_eq, n_toN, n_inN, n_ltN, n_nltN, n_neN, Nat.not_lt_zero, false_or, or_false, ite_y, ite_n, if_true, if_false, ite_tt, ite_ff, b_0, b_1, eq_self_iff_true, Bool.true_eq_false, Bool.false_eq_true]
        · simp (disch := omega) only [hS2.no hs hg, a_bi_i, a_bv_n, a_bl_l, a_bq_q, l_0, l_1, l_2, l_3, l_4, l_5, l_6, l_7, l_8, l_9, l_10, l_12, l_16, l_20, l_24, l_25, l_31, l_32, l_33, l_40, l_48, l_57, l_60, l_63, l_64, l_78, l_85, l_97, l_99, l_100, l_122, l_255, l_325, l_700, l_999, l_1000, l_1200, l_99999, l_100000, l_1000000, l_2000000000, l_N, n_add, n_mul, n_lt, n_out, n_div, n_dm, n_eq, n_toN, n_inN, n_ltN, n_nltN, n_neN, Nat.not_lt_zero, false_or, or_false, ite_y, ite_n, if_true, if_false, ite_tt, ite_ff, b_0, b_1, eq_self_iff_true, Bool.true_eq_false, Bool.false_eq_true]
      | some p =>
        obtain ⟨wd, m, g⟩ := p
        obtain ⟨v1, v2⟩ := hV s wd m g hg
        obtain ⟨c1, c2, c3, c4⟩ := hS1.yes hs hg
        obtain ⟨d1, d2, d3⟩ := hS2.yes hs hg
        cases hg2 : t s2 with
        | none =>
          refine good_pure hR (-6) (c_paste2 hs hs2 ?_) (m_paste2 hs hs2 ?_)
          · simp (disch := omega) only [c1, n10, hS1.no hs2 hg2, a_bi_i, a_bv_n, a_bl_l, a_bq_q, l_0, l_1, l_2, l_3, l_4, l_5, l_6, l_7, l_8, l_9, l_10, l_12, l_16, l_20, l_24, l_25, l_31, l_32, l_33, l_40, l_48, l_57, l_60, l_63, l_64, l_78, l_85, l_97, l_99, l_100, l_122, l_255, l_325, l_700, l_999, l_1000, l_1200, l_99999, l_100000, l_1000000, l_2000000000, l_N, n_add, n_mul, n_lt, n_out, n_div, n_dm, n_eq, n_toN, n_inN, n_ltN, n_nltN, n_neN, Nat.not_lt_zero, false_or, or_false, ite_y, ite_n, if_true, if_false, ite_tt, ite_ff, b_0, b_1, eq_self_iff_true, Bool.true_eq_false, Bool.false_eq_true]
          · simp (disch := omega) only [d1, hS2.no hs2 hg2, a_bi_i, a_bv_n, a_bl_l, a_bq_q, l_0, l_1, l_2, l_3, l_4, l_5, l_6, l_7, l_8, l_9, l_10, l_12, l_16, l_20, l_24, l_25, l_31, l_32, l_33, l_40, l_48, l_57, l_60, l_63, l_64, l_78, l_85, l_97, l_99, l_100, l_122, l_255, l_325, l_700, l_999, l_1000, l_1200, l_99999, l_100000, l_1000000, l_2000000000, l_N, n_add, n_mul, n_lt, n_out, n_div, n_dm, n_eq, n_toN, n_inN, n_ltN, n_nltN, n_neN, Nat.not_lt_zero, false_or, or_false, ite_y, ite_n, if_true, if_false, ite_tt, ite_ff, b_0, b_1, eq_self_iff_true, Bool.true_eq_false, Bool.false_eq_true]
        | some p2 =>
          obtain ⟨wd2, m2, g2⟩ := p2
          obtain ⟨v1', v2'⟩ := hV s2 wd2 m2 g2 hg2
          obtain ⟨c1', c2', c3', c4'⟩ := hS1.yes hs2 hg2
          obtain ⟨d1', d2', d3'⟩ := hS2.yes hs2 hg2
          by_cases hw : wd = wd2
          · have no7 : (∀ x, x = (-7 : Int32) → K_X10_paste X 15 (nI s) b' (nI s2) e' g' (I, L, ()) = some (some (aI x), (I, L, ())) ∧ K_X11_paste X 15 (nI s) b' (nI s2) e' g' (I, L, ()) = some (some (aI x), (I, L, ()))) → Good (K_X10_paste X 15 (nI s) b' (nI s2) e' g') (K_X11_paste X 15 (nI s) b' (nI s2) e' g') I L := fun q => good_pure hR (-7) (q _ rfl).1 (q _ rfl).2
            have hrA : ∀ L2 : A3 Int64, b' < nI 0 ∨ g' < nI 0 → K_X6_hasRun X 14 s b' g' (I, L2, ()) = some (some (aI (nI 0)), (I, L2, ())) := fun L2 q => by
              refine K_X6_hasRun.e X 13 _ _ _ I L2 _ ?_
              rcases q with q | q
              · simp only [l_0, l_1, l_2, l_3, l_4, l_5, l_6, l_7, l_8, l_9, l_10, l_12, l_16, l_20, l_24, l_25, l_31, l_32, l_33, l_40, l_48, l_57, l_60, l_63, l_64, l_78, l_85, l_97, l_99, l_100, l_122, l_255, l_325, l_700, l_999, l_1000, l_1200, l_99999, l_100000, l_1000000, l_2000000000, l_N, q, if_true]
              · simp only [l_0, l_1, l_2, l_3, l_4, l_5, l_6, l_7, l_8, l_9, l_10, l_12, l_16, l_20, l_24, l_25, l_31, l_32, l_33, l_40, l_48, l_57, l_60, l_63, l_64, l_78, l_85, l_97, l_99, l_100, l_122, l_255, l_325, l_700, l_999, l_1000, l_1200, l_99999, l_100000, l_1000000, l_2000000000, l_N, q, if_true]; split <;> rfl
            have hrC : ∀ L2 : A3 Int64, e' < nI 0 → K_X6_hasRun X 14 s2 e' g' (I, L2, ()) = some (some (aI (nI 0)), (I, L2, ())) := fun L2 q => by
              refine K_X6_hasRun.e X 13 _ _ _ I L2 _ ?_
              simp only [l_0, l_1, l_2, l_3, l_4, l_5, l_6, l_7, l_8, l_9, l_10, l_12, l_16, l_20, l_24, l_25, l_31, l_32, l_33, l_40, l_48, l_57, l_60, l_63, l_64, l_78, l_85, l_97, l_99, l_100, l_122, l_255, l_325, l_700, l_999, l_1000, l_1200, l_99999, l_100000, l_1000000, l_2000000000, l_N, q, if_true]
            by_cases nb : b' < nI 0
            · refine no7 (fun x hx => ⟨c_paste2 hs hs2 ?_, m_paste2 hs hs2 ?_⟩)
              · rw [hx]; simp (disch := omega) only [c1, c1', n10, c2, c2', hw, hrA _ (Or.inl nb), a_bi_i, a_bv_n, a_bl_l, a_bq_q, l_0, l_1, l_2, l_3, l_4, l_5, l_6, l_7, l_8, l_9, l_10, l_12, l_16, l_20, l_24, l_25, l_31, l_32, l_33, l_40, l_48, l_57, l_60, l_63, l_64, l_78, l_85, l_97, l_99, l_100, l_122, l_255, l_325, l_700, l_999, l_1000, l_1200, l_99999, l_100000, l_1000000, l_2000000000, l_N, n_add, n_mul, n_lt, n_out, n_div, n_dm, n_eq, n_toN, n_inN, n_ltN, n_nltN, n_neN, Nat.not_lt_zero, false_or, or_false, ite_y, ite_n, if_true, if_false, ite_tt, ite_ff, b_0, b_1, eq_self_iff_true, Bool.true_eq_false, Bool.false_eq_true]
              · rw [hx]; simp (disch := omega) only [d1, d1', d2, d2', hw, nb, a_bi_i, a_bv_n, a_bl_l, a_bq_q, l_0, l_1, l_2, l_3, l_4, l_5, l_6, l_7, l_8, l_9, l_10, l_12, l_16, l_20, l_24, l_25, l_31, l_32, l_33, l_40, l_48, l_57, l_60, l_63, l_64, l_78, l_85, l_97, l_99, l_100, l_122, l_255, l_325, l_700, l_999, l_1000, l_1200, l_99999, l_100000, l_1000000, l_2000000000, l_N, n_add, n_mul, n_lt, n_out, n_div, n_dm, n_eq, n_toN, n_inN, n_ltN, n_nltN, n_neN, Nat.not_lt_zero, false_or, or_false, ite_y, ite_n, if_true, if_false, ite_tt, ite_ff, b_0, b_1, eq_self_iff_true, Bool.true_eq_false, Bool.false_eq_true]
            · by_cases ng : g' < nI 0
              · refine no7 (fun x hx => ⟨c_paste2 hs hs2 ?_, m_paste2 hs hs2 ?_⟩)
                · rw [hx]; simp (disch := omega) only [c1, c1', n10, c2, c2', hw, hrA _ (Or.inr ng), a_bi_i, a_bv_n, a_bl_l, a_bq_q, l_0, l_1, l_2, l_3, l_4, l_5, l_6, l_7, l_8, l_9, l_10, l_12, l_16, l_20, l_24, l_25, l_31, l_32, l_33, l_40, l_48, l_57, l_60, l_63, l_64, l_78, l_85, l_97, l_99, l_100, l_122, l_255, l_325, l_700, l_999, l_1000, l_1200, l_99999, l_100000, l_1000000, l_2000000000, l_N, n_add, n_mul, n_lt, n_out, n_div, n_dm, n_eq, n_toN, n_inN, n_ltN, n_nltN, n_neN, Nat.not_lt_zero, false_or, or_false, ite_y, ite_n, if_true, if_false, ite_tt, ite_ff, b_0, b_1, eq_self_iff_true, Bool.true_eq_false, Bool.false_eq_true]
                · rw [hx]; simp (disch := omega) only [d1, d1', d2, d2', hw, nb, ng, a_bi_i, a_bv_n, a_bl_l, a_bq_q, l_0, l_1, l_2, l_3, l_4, l_5, l_6, l_7, l_8, l_9, l_10, l_12, l_16, l_20, l_24, l_25, l_31, l_32, l_33, l_40, l_48, l_57, l_60, l_63, l_64, l_78, l_85, l_97, l_99, l_100, l_122, l_255, l_325, l_700, l_999, l_1000, l_1200, l_99999, l_100000, l_1000000, l_2000000000, l_N, n_add, n_mul, n_lt, n_out, n_div, n_dm, n_eq, n_toN, n_inN, n_ltN, n_nltN, n_neN, Nat.not_lt_zero, false_or, or_false, ite_y, ite_n, if_true, if_false, ite_tt, ite_ff, b_0, b_1, eq_self_iff_true, Bool.true_eq_false, Bool.false_eq_true]
                  split <;> rfl
              · obtain ⟨i, hi, rfl⟩ := n_ex nb
                obtain ⟨k, hk, rfl⟩ := n_ex ng
                by_cases ne : e' < nI 0
                · refine no7 (fun x hx => ⟨c_paste2 hs hs2 ?_, m_paste2 hs hs2 ?_⟩)
                  · rw [hx]; simp (disch := omega) only [c1, c1', n10, c2, c2', hw, c_hasRun c3 v2 hi hk, hrC _ ne, a_bi_i, a_bv_n, a_bl_l, a_bq_q, l_0, l_1, l_2, l_3, l_4, l_5, l_6, l_7, l_8, l_9, l_10, l_12, l_16, l_20, l_24, l_25, l_31, l_32, l_33, l_40, l_48, l_57, l_60, l_63, l_64, l_78, l_85, l_97, l_99, l_100, l_122, l_255, l_325, l_700, l_999, l_1000, l_1200, l_99999, l_100000, l_1000000, l_2000000000, l_N, n_add, n_mul, n_lt, n_out, n_div, n_dm, n_eq, n_toN, n_inN, n_ltN, n_nltN, n_neN, Nat.not_lt_zero, false_or, or_false, ite_y, ite_n, if_true, if_false, ite_tt, ite_ff, b_0, b_1, eq_self_iff_true, Bool.true_eq_false, Bool.false_eq_true]
                    split <;> rfl
                  · rw [hx]; simp (disch := omega) only [d1, d1', d2, d2', hw, ne, a_bi_i, a_bv_n, a_bl_l, a_bq_q, l_0, l_1, l_2, l_3, l_4, l_5, l_6, l_7, l_8, l_9, l_10, l_12, l_16, l_20, l_24, l_25, l_31, l_32, l_33, l_40, l_48, l_57, l_60, l_63, l_64, l_78, l_85, l_97, l_99, l_100, l_122, l_255, l_325, l_700, l_999, l_1000, l_1200, l_99999, l_100000, l_1000000, l_2000000000, l_N, n_add, n_mul, n_lt, n_out, n_div, n_dm, n_eq, n_toN, n_inN, n_ltN, n_nltN, n_neN, Nat.not_lt_zero, false_or, or_false, ite_y, ite_n, if_true, if_false, ite_tt, ite_ff, b_0, b_1, eq_self_iff_true, Bool.true_eq_false, Bool.false_eq_true]
                · obtain ⟨j, hj, rfl⟩ := n_ex ne
                  by_cases r1 : i + k ≤ m
                  · by_cases r2 : j + k ≤ m2
                    · -- it is done
                      subst hw
                      generalize hG : va_cpy g g2 i j k = G
                      have hGj : ∀ x, G x = if j ≤ x ∧ x < j + k then g (i + (x - j)) else g2 x := fun x => by rw [← hG]; rfl
                      generalize hL1 : upR L 33 s2 (va_cpy (L 33 s) (L 33 s2) i j k) = L1
                      have o33 : ∀ f, f ≠ 33 → L1 f = L f := fun f hf => by rw [← hL1]; exact uR_f _ _ hf
                      obtain ⟨L2, ⟨p1, p2⟩, p3⟩ := loop_z (F := fun x (K : A3 Int64) => v_X11_paste_113 X 14 (nI s) (nI i) (nI s2) (nI j) (nI k) (nI x) (I, K, ())) (P := fun x K => (∀ f, f ≠ 62 → K f = L1 f) ∧ ∀ y, y < x → K 62 0 y = g (i + y)) k L1 ⟨fun _ _ => rfl, fun y hy => by omega⟩ (fun x K hx hP => by
                        obtain ⟨q1, q2⟩ := hP
                        refine ⟨up3 K 62 0 x (g (i + x)), ⟨fun f hf => by rw [u3_f _ _ hf]; exact q1 f hf, fun y hy => ?_⟩, fun r hr => v_X11_paste_113.e X 14 _ _ _ _ _ _ I K r ?_⟩
                        · by_cases ee : y = x
                          · subst ee; exact u3_eq _ _ _ _ _
                          · rw [u3_j _ _ ee]; exact q2 y (by omega)
                        · have e61 : K 61 0 (60 * s + i + x) = g (i + x) := by rw [q1 61 (by decide), o33 61 (by decide), show 60 * s + i + x = 60 * s + (i + x) by omega]; exact d3 _ (by omega)
                          simp (disch := omega) only [e61, a_bi_i, a_bv_n, a_bl_l, a_bq_q, l_0, l_1, l_2, l_3, l_4, l_5, l_6, l_7, l_8, l_9, l_10, l_12, l_16, l_20, l_24, l_25, l_31, l_32, l_33, l_40, l_48, l_57, l_60, l_63, l_64, l_78, l_85, l_97, l_99, l_100, l_122, l_255, l_325, l_700, l_999, l_1000, l_1200, l_99999, l_100000, l_1000000, l_2000000000, l_N, n_add, n_mul, n_lt, n_out, n_div, n_dm, n_eq, n_toN, n_inN, n_ltN, n_nltN, n_neN, Nat.not_lt_zero, false_or, or_false, ite_y, ite_n, if_true, if_false, ite_tt, ite_ff, b_0, b_1, eq_self_iff_true, Bool.true_eq_false, Bool.false_eq_true]
                          exact hr)
                      obtain ⟨L3, ⟨s1, s3, s4, s5⟩, s6⟩ := loop_z (F := fun x (K : A3 Int64) => v_X11_paste_150 X 14 (nI s2) (nI j) (nI k) (nI x) (I, K, ())) (P := fun x K => (∀ f, f ≠ 61 → K f = L2 f) ∧ (∀ y, (y < 60 * s2 ∨ 60 * s2 + 60 ≤ y) → K 61 0 y = L 61 0 y) ∧ (∀ y, y < 60 → (y < j ∨ j + x ≤ y) → K 61 0 (60 * s2 + y) = g2 y) ∧ ∀ y, y < x → K 61 0 (60 * s2 + (j + y)) = g (i + y)) k L2 ⟨fun _ _ => rfl, fun y _ => by rw [p1 61 (by decide), o33 61 (by decide)], fun y hy _ => by rw [p1 61 (by decide), o33 61 (by decide)]; exact d3' y hy, fun y hy => by omega⟩ (fun x K hx hP => by
                        obtain ⟨q1, q2, q3, q4⟩ := hP
                        have e62 : K 62 0 x = g (i + x) := by rw [q1 62 (by decide)]; exact p2 x hx
                        refine ⟨up3 K 61 0 (60 * s2 + j + x) (g (i + x)), ⟨fun f hf => by rw [u3_f _ _ hf]; exact q1 f hf, fun y hy => by rw [u3_j _ _ (by omega)]; exact q2 y hy, fun y hy hy2 => by rw [u3_j _ _ (by omega)]; exact q3 y hy (by omega), fun y hy => ?_⟩, fun r hr => v_X11_paste_150.e X 14 _ _ _ _ I K r ?_⟩
                        · by_cases ee : y = x
                          · subst ee; rw [show 60 * s2 + (j + y) = 60 * s2 + j + y by omega]; exact u3_eq _ _ _ _ _
                          · rw [u3_j _ _ (by omega)]; exact q4 y (by omega)
                        · simp (disch := omega) only [e62, a_bi_i, a_bv_n, a_bl_l, a_bq_q, l_0, l_1, l_2, l_3, l_4, l_5, l_6, l_7, l_8, l_9, l_10, l_12, l_16, l_20, l_24, l_25, l_31, l_32, l_33, l_40, l_48, l_57, l_60, l_63, l_64, l_78, l_85, l_97, l_99, l_100, l_122, l_255, l_325, l_700, l_999, l_1000, l_1200, l_99999, l_100000, l_1000000, l_2000000000, l_N, n_add, n_mul, n_lt, n_out, n_div, n_dm, n_eq, n_toN, n_inN, n_ltN, n_nltN, n_neN, Nat.not_lt_zero, false_or, or_false, ite_y, ite_n, if_true, if_false, ite_tt, ite_ff, b_0, b_1, eq_self_iff_true, Bool.true_eq_false, Bool.false_eq_true]
                          exact hr)
                      refine ⟨nI 0, I, L1, I, L3, c_paste2 hs hs2 ?_, m_paste2 hs hs2 ?_, w, e, im, n, b, tput t s2 (wd, m2, G), h.slot (fun _ _ _ _ _ => rfl) rfl ?_ ?_ (hV.put v1 v2'), hh⟩
                      · have q0 : ¬ (nI i < (0 : Int32) ∨ nI j < (0 : Int32) ∨ nI k < (0 : Int32) ∨ 60 < (nI i).toNatClampNeg + (nI k).toNatClampNeg ∨ 60 < (nI j).toNatClampNeg + (nI k).toNatClampNeg) := by
                          rw [show (0 : Int32) = nI 0 from rfl, n_lt hi (by decide), n_lt hj (by decide), n_lt hk (by decide), n_toN hi, n_toN hj, n_toN hk]; omega
                        simp (disch := omega) only [c1, c1', n10, c2, c2', c_hasRun c3 v2 hi hk, c_hasRun c3' v2' hj hk, decide_eq_true r1, decide_eq_true r2, a_bi_i, a_bv_n, a_bl_l, a_bq_q, l_0, l_1, b_0, Bool.true_eq_false, if_false, if_true, n_out, n_toN, ite_n, n_eq, ite_y, eq_self_iff_true]
                        rw [if_neg (by rw [n_lt hi (by decide), n_lt hj (by decide), n_lt hk (by decide)]; omega), hL1]
                      · have a1 := lg_add (i := i) (k := k) (m := m) hi hk v2
                        have a2 := lg_add (i := j) (k := k) (m := m2) hj hk v2'
                        have a1' : ¬ nI 0 < lg_cmp ((nI i).toInt64 + (nI k).toInt64) (nI m).toInt64 := fun q => a1.mp q r1
                        have a2' : ¬ nI 0 < lg_cmp ((nI j).toInt64 + (nI k).toInt64) (nI m2).toInt64 := fun q => a2.mp q r2
                        simp (disch := omega) only [d1, d1', d2, d2', a1', a2', a_bi_i, a_bv_n, a_bl_l, a_bq_q, l_0, l_1, l_2, l_3, l_4, l_5, l_6, l_7, l_8, l_9, l_10, l_12, l_16, l_20, l_24, l_25, l_31, l_32, l_33, l_40, l_48, l_57, l_60, l_63, l_64, l_78, l_85, l_97, l_99, l_100, l_122, l_255, l_325, l_700, l_999, l_1000, l_1200, l_99999, l_100000, l_1000000, l_2000000000, l_N, n_add, n_mul, n_lt, n_out, n_div, n_dm, n_eq, n_toN, n_inN, n_ltN, n_nltN, n_neN, Nat.not_lt_zero, false_or, or_false, ite_y, ite_n, if_true, if_false, ite_tt, ite_ff, b_0, b_1, eq_self_iff_true, Bool.true_eq_false, Bool.false_eq_true]
                        refine p3 _ (v_X11_paste_113.e X 14 _ _ _ _ _ _ I L2 _ ?_)
                        simp (disch := omega) only [Nat.lt_irrefl, a_bi_i, a_bv_n, a_bl_l, a_bq_q, l_0, l_1, l_2, l_3, l_4, l_5, l_6, l_7, l_8, l_9, l_10, l_12, l_16, l_20, l_24, l_25, l_31, l_32, l_33, l_40, l_48, l_57, l_60, l_63, l_64, l_78, l_85, l_97, l_99, l_100, l_122, l_255, l_325, l_700, l_999, l_1000, l_1200, l_99999, l_100000, l_1000000, l_2000000000, l_N, n_add, n_mul, n_lt, n_out, n_div, n_dm, n_eq, n_toN, n_inN, n_ltN, n_nltN, n_neN, Nat.not_lt_zero, false_or, or_false, ite_y, ite_n, if_true, if_false, ite_tt, ite_ff, b_0, b_1, eq_self_iff_true, Bool.true_eq_false, Bool.false_eq_true]
                        refine s6 _ (v_X11_paste_150.e X 14 _ _ _ _ I L3 _ ?_)
                        simp (disch := omega) only [Nat.lt_irrefl, a_bi_i, a_bv_n, a_bl_l, a_bq_q, l_0, l_1, l_2, l_3, l_4, l_5, l_6, l_7, l_8, l_9, l_10, l_12, l_16, l_20, l_24, l_25, l_31, l_32, l_33, l_40, l_48, l_57, l_60, l_63, l_64, l_78, l_85, l_97, l_99, l_100, l_122, l_255, l_325, l_700, l_999, l_1000, l_1200, l_99999, l_100000, l_1000000, l_2000000000, l_N, n_add, n_mul, n_lt, n_out, n_div, n_dm, n_eq, n_toN, n_inN, n_ltN, n_nltN, n_neN, Nat.not_lt_zero, false_or, or_false, ite_y, ite_n, if_true, if_false, ite_tt, ite_ff, b_0, b_1, eq_self_iff_true, Bool.true_eq_false, Bool.false_eq_true]
                      · refine hS1.put (fun _ _ => rfl) (fun q hq => ?_) c1' c2' c3' (fun x hx => ?_)
                        · rw [s1 33 (by decide), p1 33 (by decide), ← hL1]; exact uR_i _ _ hq
                        · rw [s1 33 (by decide), p1 33 (by decide), ← hL1, uR_eq, hGj]
                          unfold va_cpy
                          by_cases z : j ≤ x ∧ x < j + k
                          · rw [if_pos z, if_pos z]; exact c4 _ (by omega)
                          · rw [if_neg z, if_neg z]; exact c4' x hx
                      · refine hS2.put hs2 (fun _ _ => ⟨rfl, rfl⟩) (fun x hx => s3 x hx) d1' d2' (fun x hx => ?_)
                        rw [hGj]
                        by_cases z : j ≤ x ∧ x < j + k
                        · rw [if_pos z]
                          have := s5 (x - j) (by omega)
                          rwa [show j + (x - j) = x by omega] at this
                        · rw [if_neg z]; exact s4 x hx (by omega)
                    · refine no7 (fun x hx => ⟨c_paste2 hs hs2 ?_, m_paste2 hs hs2 ?_⟩)
                      · rw [hx]; simp (disch := omega) only [c1, c1', n10, c2, c2', hw, c_hasRun c3 v2 hi hk, c_hasRun c3' v2' hj hk, decide_eq_true r1, decide_eq_false r2, a_bi_i, a_bv_n, a_bl_l, a_bq_q, l_0, l_1, l_2, l_3, l_4, l_5, l_6, l_7, l_8, l_9, l_10, l_12, l_16, l_20, l_24, l_25, l_31, l_32, l_33, l_40, l_48, l_57, l_60, l_63, l_64, l_78, l_85, l_97, l_99, l_100, l_122, l_255, l_325, l_700, l_999, l_1000, l_1200, l_99999, l_100000, l_1000000, l_2000000000, l_N, n_add, n_mul, n_lt, n_out, n_div, n_dm, n_eq, n_toN, n_inN, n_ltN, n_nltN, n_neN, Nat.not_lt_zero, false_or, or_false, ite_y, ite_n, if_true, if_false, ite_tt, ite_ff, b_0, b_1, eq_self_iff_true, Bool.true_eq_false, Bool.false_eq_true]
                      · have a2 := (lg_add (i := j) (k := k) (m := m2) hj hk v2').mpr r2
                        rw [hx]; simp (disch := omega) only [d1, d1', d2, d2', hw, a2, a_bi_i, a_bv_n, a_bl_l, a_bq_q, l_0, l_1, l_2, l_3, l_4, l_5, l_6, l_7, l_8, l_9, l_10, l_12, l_16, l_20, l_24, l_25, l_31, l_32, l_33, l_40, l_48, l_57, l_60, l_63, l_64, l_78, l_85, l_97, l_99, l_100, l_122, l_255, l_325, l_700, l_999, l_1000, l_1200, l_99999, l_100000, l_1000000, l_2000000000, l_N, n_add, n_mul, n_lt, n_out, n_div, n_dm, n_eq, n_toN, n_inN, n_ltN, n_nltN, n_neN, Nat.not_lt_zero, false_or, or_false, ite_y, ite_n, if_true, if_false, ite_tt, ite_ff, b_0, b_1, eq_self_iff_true, Bool.true_eq_false, Bool.false_eq_true]
                        split <;> rfl
                  · refine no7 (fun x hx => ⟨c_paste2 hs hs2 ?_, m_paste2 hs hs2 ?_⟩)
                    · rw [hx]; simp (disch := omega) only [c1, c1', n10, c2, c2', hw, c_hasRun c3 v2 hi hk, decide_eq_false r1, a_bi_i, a_bv_n, a_bl_l, a_bq_q, l_0, l_1, l_2, l_3, l_4, l_5, l_6, l_7, l_8, l_9, l_10, l_12, l_16, l_20, l_24, l_25, l_31, l_32, l_33, l_40, l_48, l_57, l_60, l_63, l_64, l_78, l_85, l_97, l_99, l_100, l_122, l_255, l_325, l_700, l_999, l_1000, l_1200, l_99999, l_100000, l_1000000, l_2000000000, l_N, n_add, n_mul, n_lt, n_out, n_div, n_dm, n_eq, n_toN, n_inN, n_ltN, n_nltN, n_neN, Nat.not_lt_zero, false_or, or_false, ite_y, ite_n, if_true, if_false, ite_tt, ite_ff, b_0, b_1, eq_self_iff_true, Bool.true_eq_false, Bool.false_eq_true]
                    · have a1 := (lg_add (i := i) (k := k) (m := m) hi hk v2).mpr r1
                      rw [hx]; simp (disch := omega) only [d1, d1', d2, d2', hw, a1, a_bi_i, a_bv_n, a_bl_l, a_bq_q, l_0, l_1, l_2, l_3, l_4, l_5, l_6, l_7, l_8, l_9, l_10, l_12, l_16, l_20, l_24, l_25, l_31, l_32, l_33, l_40, l_48, l_57, l_60, l_63, l_64, l_78, l_85, l_97, l_99, l_100, l_122, l_255, l_325, l_700, l_999, l_1000, l_1200, l_99999, l_100000, l_1000000, l_2000000000, l_N, n_add, n_mul, n_lt, n_out, n_div, n_dm, n_eq, n_toN, n_inN, n_ltN, n_nltN, n_neN, Nat.not_lt_zero, false_or, or_false, ite_y, ite_n, if_true, if_false, ite_tt, ite_ff, b_0, b_1, eq_self_iff_true, Bool.true_eq_false, Bool.false_eq_true]
          · refine good_pure hR (-8) (c_paste2 hs hs2 ?_) (m_paste2 hs hs2 ?_)
            · simp (disch := omega) only [c1, c1', n10, c2, c2', hw, a_bi_i, a_bv_n, a_bl_l, a_bq_q, l_0, l_1, l_2, l_3, l_4, l_5, l_6, l_7, l_8, l_9, l_10, l_12, l_16, l_20, l_24, l_25, l_31, l_32, l_33, l_40, l_48, l_57, l_60, l_63, l_64, l_78, l_85, l_97, l_99, l_100, l_122, l_255, l_325, l_700, l_999, l_1000, l_1200, l_99999, l_100000, l_1000000, l_2000000000, l_N, n_add, n_mul, n_lt, n_out, n_div, n_dm, n_eq, n_toN, n_inN, n_ltN, n_nltN, n_neN, Nat.not_lt_zero, false_or, or_false, ite_y, ite_n, if_true, if_false, ite_tt, ite_ff, b_0, b_1, eq_self_iff_true, Bool.true_eq_false, Bool.false_eq_true]
            · simp (disch := omega) only [d1, d1', d2, d2', hw, a_bi_i, a_bv_n, a_bl_l, a_bq_q, l_0, l_1, l_2, l_3, l_4, l_5, l_6, l_7, l_8, l_9, l_10, l_12, l_16, l_20, l_24, l_25, l_31, l_32, l_33, l_40, l_48, l_57, l_60, l_63, l_64, l_78, l_85, l_97, l_99, l_100, l_122, l_255, l_325, l_700, l_999, l_1000, l_1200, l_99999, l_100000, l_1000000, l_2000000000, l_N, n_add, n_mul, n_lt, n_out, n_div, n_dm, n_eq, n_toN, n_inN, n_ltN, n_nltN, n_neN, Nat.not_lt_zero, false_or, or_false, ite_y, ite_n, if_true, if_false, ite_tt, ite_ff, b_0, b_1, eq_self_iff_true, Bool.true_eq_false, Bool.false_eq_true]
end
