/-! the reference's trips -/
section
variable {X : AX} {d : Nat} {I : A3 Int32} {L : A3 Int64} {w : TW}
theorem rmP_f (x : Nat) : rmP (x, false) = 2 * x := rfl
theorem rmP_t (x : Nat) : rmP (x, true) = 2 * x + 1 := rfl
theorem rmd (p : Nat × Bool) : nI (rmP p) - nI (p.1 * 2) = nI (if p.2 = true then 1 else 0) := by
  unfold rmP
  rw [n_sub (by omega)]
  congr 1
  omega
theorem m_goes {n m se rule : Nat} {p : Nat × Bool} {ps : Nat → Nat → Option Nat} {kn : Nat → Nat} (h : TM I w) (v : Vw w) (hP : PM I (w 1) n ps kn) (hm : m < w 1) (hn : n ≤ 3) (hp : ∀ k, k < n → ∀ m x, ps k m = some x → x < 8) (hpl : plOk w rule p) (hse : se ≤ 7) (hru : rule ≤ 3) (hd : 6 ≤ d) : K_X11_goes X d (nI (rmP p)) (nI rule) (nI se) (nI m) (I, L, ()) = some (some (aI (nI (rmP (goF w (gA n ps m) rule se m p)))), (I, L, ())) := by
  obtain ⟨e, rfl⟩ : ∃ e, d = e + 1 := ⟨d - 1, by omega⟩
  obtain ⟨⟨h0, h1, -⟩, -, vc, -⟩ := id v
  obtain ⟨hc, hl⟩ := hpl
  obtain ⟨c, l⟩ := p
  simp only at hc hl
  have hcl := vc c (by omega)
  have h16 := rmP_lt (p := (c, l)) (show c < 8 by omega)
  have hnr := m_nearest (X := X) (d := e) (L := L) (c := c) h v hP hm hn h1 hp (by omega) (by omega)
  have hpf := m_platform (X := X) (d := e) (L := L) (c := c) h v hP hm rfl hn hp hc (by omega)
  refine K_X11_goes.e X e _ _ _ _ I L _ ?_
  have hdv : rmP (c, l) / 2 = c := rmP_div _
  rcases (show rule = 0 ∨ rule = 1 ∨ rule = 2 ∨ rule = 3 by omega) with rfl | rfl | rfl | rfl
  · have hg : goF w (gA n ps m) 0 se m (c, l) = (c, l) := rfl
    rw [hg]
    simp (disch := omega) only [a_bi_i, a_bv_n, a_bl_l, a_bq_q, l_0, l_1, l_2, l_3, l_4, l_5, l_6, l_7, l_8, l_9, l_10, l_12, l_16, l_20, l_24, l_25, l_31, l_32, l_33, l_40, l_48, l_57, l_60, l_63, l_64, l_78, l_85, l_97, l_99, l_100, l_122, l_255, l_325, l_700, l_999, l_1000, l_1200, l_99999, l_100000, l_1000000, l_2000000000, l_N, n_add, n_mul, n_lt, n_out, n_div, n_dm, n_eq, n_toN, n_inN, n_ltN, n_nltN, n_neN, Nat.not_lt_zero, false_or, or_false, ite_y, ite_n, if_true, if_false, ite_tt, ite_ff, b_0, b_1, eq_self_iff_true, Bool.true_eq_false, Bool.false_eq_true, hdv, hnr]
    cases hx : nr (gA n ps m) c (w 0) with
    | none => simp only [oI, if_true]
    | some x =>
      have := (nr_some hx).1
      simp (disch := omega) only [oI, a_bi_i, a_bv_n, a_bl_l, a_bq_q, l_0, l_1, l_2, l_3, l_4, l_5, l_6, l_7, l_8, l_9, l_10, l_12, l_16, l_20, l_24, l_25, l_31, l_32, l_33, l_40, l_48, l_57, l_60, l_63, l_64, l_78, l_85, l_97, l_99, l_100, l_122, l_255, l_325, l_700, l_999, l_1000, l_1200, l_99999, l_100000, l_1000000, l_2000000000, l_N, n_add, n_mul, n_lt, n_out, n_div, n_dm, n_eq, n_toN, n_inN, n_ltN, n_nltN, n_neN, Nat.not_lt_zero, false_or, or_false, ite_y, ite_n, if_true, if_false, ite_tt, ite_ff, b_0, b_1, eq_self_iff_true, Bool.true_eq_false, Bool.false_eq_true, abs_m, ite_self]
  · have hlf : l = false := by
      cases l with
      | false => rfl
      | true => exact absurd (hl rfl).1 (by decide)
    subst hlf
    have hg : goF w (gA n ps m) 1 se m (c, false) = (match seenF (gA n ps m) c (w 0) se with
      | some x => if x ≤ c then (if c + 1 < w 0 then (c + 1, false) else (c, false)) else (if 0 < c then (c - 1, false) else (c, false))
      | none => (c, false)) := rfl
    rw [hg]
    unfold seenF
    simp (disch := omega) only [a_bi_i, a_bv_n, a_bl_l, a_bq_q, l_0, l_1, l_2, l_3, l_4, l_5, l_6, l_7, l_8, l_9, l_10, l_12, l_16, l_20, l_24, l_25, l_31, l_32, l_33, l_40, l_48, l_57, l_60, l_63, l_64, l_78, l_85, l_97, l_99, l_100, l_122, l_255, l_325, l_700, l_999, l_1000, l_1200, l_99999, l_100000, l_1000000, l_2000000000, l_N, n_add, n_mul, n_lt, n_out, n_div, n_dm, n_eq, n_toN, n_inN, n_ltN, n_nltN, n_neN, Nat.not_lt_zero, false_or, or_false, ite_y, ite_n, if_true, if_false, ite_tt, ite_ff, b_0, b_1, eq_self_iff_true, Bool.true_eq_false, Bool.false_eq_true, hdv, hnr]
    cases hx : nr (gA n ps m) c (w 0) with
    | none => simp only [oI, if_true]
    | some x =>
      have hx8 := (nr_some hx).1
      have hdx := dist_le (show x < 16 by omega) (show c < 16 by omega)
      simp (disch := omega) only [oI, a_bi_i, a_bv_n, a_bl_l, a_bq_q, l_0, l_1, l_2, l_3, l_4, l_5, l_6, l_7, l_8, l_9, l_10, l_12, l_16, l_20, l_24, l_25, l_31, l_32, l_33, l_40, l_48, l_57, l_60, l_63, l_64, l_78, l_85, l_97, l_99, l_100, l_122, l_255, l_325, l_700, l_999, l_1000, l_1200, l_99999, l_100000, l_1000000, l_2000000000, l_N, n_add, n_mul, n_lt, n_out, n_div, n_dm, n_eq, n_toN, n_inN, n_ltN, n_nltN, n_neN, Nat.not_lt_zero, false_or, or_false, ite_y, ite_n, if_true, if_false, ite_tt, ite_ff, b_0, b_1, eq_self_iff_true, Bool.true_eq_false, Bool.false_eq_true, abs_m]
      by_cases hs : dist x c ≤ se
      · have hs' : ¬ se < dist x c := by omega
        simp only [hs, hs', if_true, if_false]
        by_cases hxc : x ≤ c
        · have hxc' : ¬ c < x := by omega
          simp only [hxc, hxc', if_true, if_false]
          rw [m_isCoach h v (by omega), inr_n (by omega) (by omega)]
          by_cases h5 : c + 1 < w 0
          · simp (disch := omega) only [a_bi_i, a_bv_n, a_bl_l, a_bq_q, l_0, l_1, l_2, l_3, l_4, l_5, l_6, l_7, l_8, l_9, l_10, l_12, l_16, l_20, l_24, l_25, l_31, l_32, l_33, l_40, l_48, l_57, l_60, l_63, l_64, l_78, l_85, l_97, l_99, l_100, l_122, l_255, l_325, l_700, l_999, l_1000, l_1200, l_99999, l_100000, l_1000000, l_2000000000, l_N, n_add, n_mul, n_lt, n_out, n_div, n_dm, n_eq, n_toN, n_inN, n_ltN, n_nltN, n_neN, Nat.not_lt_zero, false_or, or_false, ite_y, ite_n, if_true, if_false, ite_tt, ite_ff, b_0, b_1, eq_self_iff_true, Bool.true_eq_false, Bool.false_eq_true, h5, decide_true]; rfl
          · simp (disch := omega) only [a_bi_i, a_bv_n, a_bl_l, a_bq_q, l_0, l_1, l_2, l_3, l_4, l_5, l_6, l_7, l_8, l_9, l_10, l_12, l_16, l_20, l_24, l_25, l_31, l_32, l_33, l_40, l_48, l_57, l_60, l_63, l_64, l_78, l_85, l_97, l_99, l_100, l_122, l_255, l_325, l_700, l_999, l_1000, l_1200, l_99999, l_100000, l_1000000, l_2000000000, l_N, n_add, n_mul, n_lt, n_out, n_div, n_dm, n_eq, n_toN, n_inN, n_ltN, n_nltN, n_neN, Nat.not_lt_zero, false_or, or_false, ite_y, ite_n, if_true, if_false, ite_tt, ite_ff, b_0, b_1, eq_self_iff_true, Bool.true_eq_false, Bool.false_eq_true, h5, decide_false]
        · have hxc' : c < x := by omega
          simp only [hxc, hxc', if_true, if_false]
          by_cases h5 : 0 < c
          · rw [n_sub (by omega), m_isCoach h v (by omega), inr_n (by omega) (by omega)]
            have h6 : c - 1 < w 0 := by omega
            simp (disch := omega) only [a_bi_i, a_bv_n, a_bl_l, a_bq_q, l_0, l_1, l_2, l_3, l_4, l_5, l_6, l_7, l_8, l_9, l_10, l_12, l_16, l_20, l_24, l_25, l_31, l_32, l_33, l_40, l_48, l_57, l_60, l_63, l_64, l_78, l_85, l_97, l_99, l_100, l_122, l_255, l_325, l_700, l_999, l_1000, l_1200, l_99999, l_100000, l_1000000, l_2000000000, l_N, n_add, n_mul, n_lt, n_out, n_div, n_dm, n_eq, n_toN, n_inN, n_ltN, n_nltN, n_neN, Nat.not_lt_zero, false_or, or_false, ite_y, ite_n, if_true, if_false, ite_tt, ite_ff, b_0, b_1, eq_self_iff_true, Bool.true_eq_false, Bool.false_eq_true, h5, h6, decide_true]; rfl
          · have : c = 0 := by omega
            subst this
            rw [show nI 0 - nI 1 = nN from rfl, m_isCoach h v (by omega), show inr nN (w 0) = false from rfl]
            simp (disch := omega) only [a_bi_i, a_bv_n, a_bl_l, a_bq_q, l_0, l_1, l_2, l_3, l_4, l_5, l_6, l_7, l_8, l_9, l_10, l_12, l_16, l_20, l_24, l_25, l_31, l_32, l_33, l_40, l_48, l_57, l_60, l_63, l_64, l_78, l_85, l_97, l_99, l_100, l_122, l_255, l_325, l_700, l_999, l_1000, l_1200, l_99999, l_100000, l_1000000, l_2000000000, l_N, n_add, n_mul, n_lt, n_out, n_div, n_dm, n_eq, n_toN, n_inN, n_ltN, n_nltN, n_neN, Nat.not_lt_zero, false_or, or_false, ite_y, ite_n, if_true, if_false, ite_tt, ite_ff, b_0, b_1, eq_self_iff_true, Bool.true_eq_false, Bool.false_eq_true]
      · have hs' : se < dist x c := by omega
        simp only [hs, hs', if_true, if_false]
  · rw [goF_2]
    unfold seenF
    simp (disch := omega) only [a_bi_i, a_bv_n, a_bl_l, a_bq_q, l_0, l_1, l_2, l_3, l_4, l_5, l_6, l_7, l_8, l_9, l_10, l_12, l_16, l_20, l_24, l_25, l_31, l_32, l_33, l_40, l_48, l_57, l_60, l_63, l_64, l_78, l_85, l_97, l_99, l_100, l_122, l_255, l_325, l_700, l_999, l_1000, l_1200, l_99999, l_100000, l_1000000, l_2000000000, l_N, n_add, n_mul, n_lt, n_out, n_div, n_dm, n_eq, n_toN, n_inN, n_ltN, n_nltN, n_neN, Nat.not_lt_zero, false_or, or_false, ite_y, ite_n, if_true, if_false, ite_tt, ite_ff, b_0, b_1, eq_self_iff_true, Bool.true_eq_false, Bool.false_eq_true, hdv, hnr]
    cases l with
    | false =>
      have hmd : nI (rmP (c, false)) - nI (c * 2) = nI 0 := rmd (c, false)
      cases hx : nr (gA n ps m) c (w 0) with
      | none => simp (disch := omega) only [oI, a_bi_i, a_bv_n, a_bl_l, a_bq_q, l_0, l_1, l_2, l_3, l_4, l_5, l_6, l_7, l_8, l_9, l_10, l_12, l_16, l_20, l_24, l_25, l_31, l_32, l_33, l_40, l_48, l_57, l_60, l_63, l_64, l_78, l_85, l_97, l_99, l_100, l_122, l_255, l_325, l_700, l_999, l_1000, l_1200, l_99999, l_100000, l_1000000, l_2000000000, l_N, n_add, n_mul, n_lt, n_out, n_div, n_dm, n_eq, n_toN, n_inN, n_ltN, n_nltN, n_neN, Nat.not_lt_zero, false_or, or_false, ite_y, ite_n, if_true, if_false, ite_tt, ite_ff, b_0, b_1, eq_self_iff_true, Bool.true_eq_false, Bool.false_eq_true, hmd, Option.isSome_none, Bool.and_false]
      | some x =>
        have hx8 := (nr_some hx).1
        have hdx := dist_le (show x < 16 by omega) (show c < 16 by omega)
        simp (disch := omega) only [oI, a_bi_i, a_bv_n, a_bl_l, a_bq_q, l_0, l_1, l_2, l_3, l_4, l_5, l_6, l_7, l_8, l_9, l_10, l_12, l_16, l_20, l_24, l_25, l_31, l_32, l_33, l_40, l_48, l_57, l_60, l_63, l_64, l_78, l_85, l_97, l_99, l_100, l_122, l_255, l_325, l_700, l_999, l_1000, l_1200, l_99999, l_100000, l_1000000, l_2000000000, l_N, n_add, n_mul, n_lt, n_out, n_div, n_dm, n_eq, n_toN, n_inN, n_ltN, n_nltN, n_neN, Nat.not_lt_zero, false_or, or_false, ite_y, ite_n, if_true, if_false, ite_tt, ite_ff, b_0, b_1, eq_self_iff_true, Bool.true_eq_false, Bool.false_eq_true, abs_m, hmd, m_oc1 h v]
        by_cases hs : dist x c ≤ se
        · have hs' : ¬ se < dist x c := by omega
          simp only [hs, hs', if_true, if_false, Option.isSome_some, Bool.and_true]
          by_cases h5 : w (10 + 3 * c) = 1
          · simp only [h5, if_true, decide_true]; rfl
          · simp only [h5, if_false, decide_false]
        · have hs' : se < dist x c := by omega
          simp only [hs, hs', if_true, if_false, Option.isSome_none, Bool.and_false]
    | true =>
      have hmd : nI (rmP (c, true)) - nI (c * 2) = nI 1 := rmd (c, true)
      have hlo := (hl rfl).2
      have hsub : nI (rmP (c, true)) - nI 1 = nI (rmP (c, false)) := by rw [rmP_t, n_sub (by omega)]; rfl
      cases hx : nr (gA n ps m) c (w 0) with
      | none => simp (disch := omega) only [oI, a_bi_i, a_bv_n, a_bl_l, a_bq_q, l_0, l_1, l_2, l_3, l_4, l_5, l_6, l_7, l_8, l_9, l_10, l_12, l_16, l_20, l_24, l_25, l_31, l_32, l_33, l_40, l_48, l_57, l_60, l_63, l_64, l_78, l_85, l_97, l_99, l_100, l_122, l_255, l_325, l_700, l_999, l_1000, l_1200, l_99999, l_100000, l_1000000, l_2000000000, l_N, n_add, n_mul, n_lt, n_out, n_div, n_dm, n_eq, n_toN, n_inN, n_ltN, n_nltN, n_neN, Nat.not_lt_zero, false_or, or_false, ite_y, ite_n, if_true, if_false, ite_tt, ite_ff, b_0, b_1, eq_self_iff_true, Bool.true_eq_false, Bool.false_eq_true, hmd, hsub, Option.isSome_none, Bool.and_false]
      | some x =>
        have hx8 := (nr_some hx).1
        have hdx := dist_le (show x < 16 by omega) (show c < 16 by omega)
        simp (disch := omega) only [oI, a_bi_i, a_bv_n, a_bl_l, a_bq_q, l_0, l_1, l_2, l_3, l_4, l_5, l_6, l_7, l_8, l_9, l_10, l_12, l_16, l_20, l_24, l_25, l_31, l_32, l_33, l_40, l_48, l_57, l_60, l_63, l_64, l_78, l_85, l_97, l_99, l_100, l_122, l_255, l_325, l_700, l_999, l_1000, l_1200, l_99999, l_100000, l_1000000, l_2000000000, l_N, n_add, n_mul, n_lt, n_out, n_div, n_dm, n_eq, n_toN, n_inN, n_ltN, n_nltN, n_neN, Nat.not_lt_zero, false_or, or_false, ite_y, ite_n, if_true, if_false, ite_tt, ite_ff, b_0, b_1, eq_self_iff_true, Bool.true_eq_false, Bool.false_eq_true, abs_m, hmd, hsub]
        by_cases hs : dist x c ≤ se
        · have hs' : ¬ se < dist x c := by omega
          simp only [hs, hs', if_true, if_false, Option.isSome_some, Bool.and_true, hlo, decide_true]
        · have hs' : se < dist x c := by omega
          simp only [hs, hs', if_true, if_false, Option.isSome_none, Bool.and_false]
  · have hlf : l = false := by
      cases l with
      | false => rfl
      | true => exact absurd (hl rfl).1 (by decide)
    subst hlf
    rw [goF_3]
    have hfin : rmP (if (0 < m ∧ m % w 2 = 0) ∧ w (11 + 3 * c) ≠ 0 then (plF w (gA n ps m) c (w 0), false) else (c, false)) = 2 * (if (0 < m ∧ m % w 2 = 0) ∧ w (11 + 3 * c) ≠ 0 then plF w (gA n ps m) c (w 0) else c) := by
      split <;> rfl
    simp only at hfin ⊢
    rw [hfin]
    simp (disch := omega) only [a_bi_i, a_bv_n, a_bl_l, a_bq_q, l_0, l_1, l_2, l_3, l_4, l_5, l_6, l_7, l_8, l_9, l_10, l_12, l_16, l_20, l_24, l_25, l_31, l_32, l_33, l_40, l_48, l_57, l_60, l_63, l_64, l_78, l_85, l_97, l_99, l_100, l_122, l_255, l_325, l_700, l_999, l_1000, l_1200, l_99999, l_100000, l_1000000, l_2000000000, l_N, n_add, n_mul, n_lt, n_out, n_div, n_dm, n_eq, n_toN, n_inN, n_ltN, n_nltN, n_neN, Nat.not_lt_zero, false_or, or_false, ite_y, ite_n, if_true, if_false, ite_tt, ite_ff, b_0, b_1, eq_self_iff_true, Bool.true_eq_false, Bool.false_eq_true, hdv, hnr, hpf]
    cases hx : nr (gA n ps m) c (w 0) with
    | none => simp only [oI, if_true]
    | some x =>
      have := (nr_some hx).1
      simp (disch := omega) only [oI, a_bi_i, a_bv_n, a_bl_l, a_bq_q, l_0, l_1, l_2, l_3, l_4, l_5, l_6, l_7, l_8, l_9, l_10, l_12, l_16, l_20, l_24, l_25, l_31, l_32, l_33, l_40, l_48, l_57, l_60, l_63, l_64, l_78, l_85, l_97, l_99, l_100, l_122, l_255, l_325, l_700, l_999, l_1000, l_1200, l_99999, l_100000, l_1000000, l_2000000000, l_N, n_add, n_mul, n_lt, n_out, n_div, n_dm, n_eq, n_toN, n_inN, n_ltN, n_nltN, n_neN, Nat.not_lt_zero, false_or, or_false, ite_y, ite_n, if_true, if_false, ite_tt, ite_ff, b_0, b_1, eq_self_iff_true, Bool.true_eq_false, Bool.false_eq_true, abs_m, hpf, ite_self]
theorem m_goTrip {n r rule : Nat} {ps : Nat → Nat → Option Nat} {kn : Nat → Nat} (h : TM I w) (v : Vw w) (hP : PM I (w 1) n ps kn) (hr : r < w 6) (hru : rule ≤ 3) (hn : n ≤ 3) (hp : ∀ k, k < n → ∀ m x, ps k m = some x → x < 8) (hd : 7 ≤ d) : ∃ J, K_X11_goTrip X d (nI r) (nI rule) (I, L, ()) = some (none, (J, L, ())) ∧ Fm [55] I J ∧ ∀ m, m < w 1 → J 55 0 m = nI (rmP (plc w n ps r rule m)) := by
  obtain ⟨e, rfl⟩ : ∃ e, d = e + 1 := ⟨d - 1, by omega⟩
  obtain ⟨⟨h0, h1, -, -, -, h5, h6, -⟩, -, -, vi, vr, -⟩ := id v
  have hvr := vr r hr
  have hok : ∀ m, plOk w rule (plc w n ps r rule m) := plc_ok v hr
  obtain ⟨⟨l3, J⟩, ⟨k1, k2, k3⟩, k4⟩ := loop_z (F := fun m (s : Int32 × A3 Int32) => v_X11_goTrip_12 X e (nI r) (nI rule) s.1 (nI m) (s.2, L, ())) (P := fun m s => Fm [55] I s.2 ∧ (∀ j, j < m → s.2 55 0 j = nI (rmP (plc w n ps r rule j))) ∧ s.1 = nI (rmP (plc w n ps r rule m))) (w 1) (nI (2 * w (48 + 5 * r)), I) ⟨Fm.refl, fun j hj => by omega, rfl⟩ (fun m s hm hs => by
    obtain ⟨l3, J⟩ := s
    obtain ⟨s1, s2, s3⟩ := hs
    simp only at s1 s2 s3
    subst s3
    have q1 : Fm [55] I (up3 J 55 0 m (nI (rmP (plc w n ps r rule m)))) := s1.up (by decide)
    have tJ : TM (up3 J 55 0 m (nI (rmP (plc w n ps r rule m)))) w := h.fm q1 (by decide)
    have pJ : PM (up3 J 55 0 m (nI (rmP (plc w n ps r rule m)))) (w 1) n ps kn := by
      unfold PM
      rw [q1 40 (by decide), q1 47 (by decide), q1 48 (by decide)]
      exact hP
    have hg := m_goes (X := X) (d := e) (L := L) tJ v pJ hm hn hp (hok m) hvr.2.2.1 hru (by omega)
    refine ⟨(nI (rmP (plc w n ps r rule (m + 1))), _), ⟨q1, fun j hj => ?_, rfl⟩, fun z hz => ?_⟩
    · by_cases ej : j = m
      · subst ej; exact u3_eq _ _ _ _ _
      · show up3 J 55 0 m _ 55 0 j = _
        rw [u3_j _ _ ej]; exact s2 j (by omega)
    · refine v_X11_goTrip_12.e X e _ _ _ _ J L z ?_
      have tJ0 : TM J w := h.fm s1 (by decide)
      simp (disch := omega) only [a_bi_i, a_bv_n, a_bl_l, a_bq_q, l_0, l_1, l_2, l_3, l_4, l_5, l_6, l_7, l_8, l_9, l_10, l_12, l_16, l_20, l_24, l_25, l_31, l_32, l_33, l_40, l_48, l_57, l_60, l_63, l_64, l_78, l_85, l_97, l_99, l_100, l_122, l_255, l_325, l_700, l_999, l_1000, l_1200, l_99999, l_100000, l_1000000, l_2000000000, l_N, n_add, n_mul, n_lt, n_out, n_div, n_dm, n_eq, n_toN, n_inN, n_ltN, n_nltN, n_neN, Nat.not_lt_zero, false_or, or_false, ite_y, ite_n, if_true, if_false, ite_tt, ite_ff, b_0, b_1, eq_self_iff_true, Bool.true_eq_false, Bool.false_eq_true, m_minutes tJ0 v, m_or2 tJ v, hg]
      exact hz)
  simp only at k1 k2 k3 k4
  have tJ : TM J w := h.fm k1 (by decide)
  refine ⟨J, K_X11_goTrip.e X e _ _ I L _ ?_, k1, k2⟩
  simp (disch := omega) only [a_bi_i, a_bv_n, a_bl_l, a_bq_q, l_0, l_1, l_2, l_3, l_4, l_5, l_6, l_7, l_8, l_9, l_10, l_12, l_16, l_20, l_24, l_25, l_31, l_32, l_33, l_40, l_48, l_57, l_60, l_63, l_64, l_78, l_85, l_97, l_99, l_100, l_122, l_255, l_325, l_700, l_999, l_1000, l_1200, l_99999, l_100000, l_1000000, l_2000000000, l_N, n_add, n_mul, n_lt, n_out, n_div, n_dm, n_eq, n_toN, n_inN, n_ltN, n_nltN, n_neN, Nat.not_lt_zero, false_or, or_false, ite_y, ite_n, if_true, if_false, ite_tt, ite_ff, b_0, b_1, eq_self_iff_true, Bool.true_eq_false, Bool.false_eq_true, m_or0 h v]
  refine k4 _ (v_X11_goTrip_12.e X e _ _ _ _ J L _ ?_)
  simp (disch := omega) only [a_bi_i, a_bv_n, a_bl_l, a_bq_q, l_0, l_1, l_2, l_3, l_4, l_5, l_6, l_7, l_8, l_9, l_10, l_12, l_16, l_20, l_24, l_25, l_31, l_32, l_33, l_40, l_48, l_57, l_60, l_63, l_64, l_78, l_85, l_97, l_99, l_100, l_122, l_255, l_325, l_700, l_999, l_1000, l_1200, l_99999, l_100000, l_1000000, l_2000000000, l_N, n_add, n_mul, n_lt, n_out, n_div, n_dm, n_eq, n_toN, n_inN, n_ltN, n_nltN, n_neN, Nat.not_lt_zero, false_or, or_false, ite_y, ite_n, if_true, if_false, ite_tt, ite_ff, b_0, b_1, eq_self_iff_true, Bool.true_eq_false, Bool.false_eq_true, m_minutes tJ v]
theorem m_hasIn {T n m : Nat} {ps : Nat → Nat → Option Nat} {kn : Nat → Nat} {p : Nat × Bool} (hP : PM I T n ps kn) (hm : m < T) (hn : n ≤ 3) (hT : T ≤ 40) (hp : ∀ k, k < n → ∀ m x, ps k m = some x → x < 8) (hkn : ∀ k, k < n → kn k ≤ 100) (hc : p.1 < 8) (hd : 2 ≤ d) : K_X11_hasIn X d (nI (rmP p)) (nI m) (I, L, ()) = some (some (aI (oI (fnd n (fun k => decide (ps k m = some p.1) && (!p.2 || decide (0 < kn k)))))), (I, L, ())) := by
  obtain ⟨e, rfl⟩ : ∃ e, d = e + 1 := ⟨d - 1, by omega⟩
  have h16 := rmP_lt hc
  refine K_X11_hasIn.e X e _ _ I L _ ?_
  refine find_loop (F := fun k => v_X11_hasIn_2 X e (nI (rmP p)) (nI m) (nI k) (I, L, ())) (fun k hk => ?_) (v_X11_hasIn_2.e X e _ _ _ I L _ ?_)
  · have hk100 := hkn k hk
    have q8 : ∀ z, ps k m = some z → z < 1000 := fun z hz => by have := hp k hk m z hz; omega
    have hmd := rmd p
    refine ⟨fun hq => v_X11_hasIn_2.e X e _ _ _ I L _ ?_, fun hq z hz => v_X11_hasIn_2.e X e _ _ _ I L _ ?_⟩
    · obtain ⟨q1, q2⟩ := Bool.and_eq_true_iff.mp hq
      have q1 := of_decide_eq_true q1
      rw [hP.1]
      simp (disch := omega) only [a_bi_i, a_bv_n, a_bl_l, a_bq_q, l_0, l_1, l_2, l_3, l_4, l_5, l_6, l_7, l_8, l_9, l_10, l_12, l_16, l_20, l_24, l_25, l_31, l_32, l_33, l_40, l_48, l_57, l_60, l_63, l_64, l_78, l_85, l_97, l_99, l_100, l_122, l_255, l_325, l_700, l_999, l_1000, l_1200, l_99999, l_100000, l_1000000, l_2000000000, l_N, n_add, n_mul, n_lt, n_out, n_div, n_dm, n_eq, n_toN, n_inN, n_ltN, n_nltN, n_neN, Nat.not_lt_zero, false_or, or_false, ite_y, ite_n, if_true, if_false, ite_tt, ite_ff, b_0, b_1, eq_self_iff_true, Bool.true_eq_false, Bool.false_eq_true, m_posOf hP, rmP_div, q1, oI, hP.2.2 k hk]
      cases hl : p.2 with
      | false =>
        rw [hl] at hmd
        simp (disch := omega) only [a_bi_i, a_bv_n, a_bl_l, a_bq_q, l_0, l_1, l_2, l_3, l_4, l_5, l_6, l_7, l_8, l_9, l_10, l_12, l_16, l_20, l_24, l_25, l_31, l_32, l_33, l_40, l_48, l_57, l_60, l_63, l_64, l_78, l_85, l_97, l_99, l_100, l_122, l_255, l_325, l_700, l_999, l_1000, l_1200, l_99999, l_100000, l_1000000, l_2000000000, l_N, n_add, n_mul, n_lt, n_out, n_div, n_dm, n_eq, n_toN, n_inN, n_ltN, n_nltN, n_neN, Nat.not_lt_zero, false_or, or_false, ite_y, ite_n, if_true, if_false, ite_tt, ite_ff, b_0, b_1, eq_self_iff_true, Bool.true_eq_false, Bool.false_eq_true, hmd]
      | true =>
        rw [hl] at hmd q2
        have q3 : 0 < kn k := by simpa using q2
        simp (disch := omega) only [a_bi_i, a_bv_n, a_bl_l, a_bq_q, l_0, l_1, l_2, l_3, l_4, l_5, l_6, l_7, l_8, l_9, l_10, l_12, l_16, l_20, l_24, l_25, l_31, l_32, l_33, l_40, l_48, l_57, l_60, l_63, l_64, l_78, l_85, l_97, l_99, l_100, l_122, l_255, l_325, l_700, l_999, l_1000, l_1200, l_99999, l_100000, l_1000000, l_2000000000, l_N, n_add, n_mul, n_lt, n_out, n_div, n_dm, n_eq, n_toN, n_inN, n_ltN, n_nltN, n_neN, Nat.not_lt_zero, false_or, or_false, ite_y, ite_n, if_true, if_false, ite_tt, ite_ff, b_0, b_1, eq_self_iff_true, Bool.true_eq_false, Bool.false_eq_true, hmd, q3]
    · rw [hP.1]
      simp (disch := omega) only [a_bi_i, a_bv_n, a_bl_l, a_bq_q, l_0, l_1, l_2, l_3, l_4, l_5, l_6, l_7, l_8, l_9, l_10, l_12, l_16, l_20, l_24, l_25, l_31, l_32, l_33, l_40, l_48, l_57, l_60, l_63, l_64, l_78, l_85, l_97, l_99, l_100, l_122, l_255, l_325, l_700, l_999, l_1000, l_1200, l_99999, l_100000, l_1000000, l_2000000000, l_N, n_add, n_mul, n_lt, n_out, n_div, n_dm, n_eq, n_toN, n_inN, n_ltN, n_nltN, n_neN, Nat.not_lt_zero, false_or, or_false, ite_y, ite_n, if_true, if_false, ite_tt, ite_ff, b_0, b_1, eq_self_iff_true, Bool.true_eq_false, Bool.false_eq_true, m_posOf hP, rmP_div, oI_eq q8 (show p.1 < 1000 by omega), hP.2.2 k hk]
      by_cases q1 : ps k m = some p.1
      · rw [decide_eq_true q1, Bool.true_and] at hq
        cases hl : p.2 with
        | false => rw [hl] at hq; cases hq
        | true =>
          rw [hl] at hmd hq
          have q3 : ¬ 0 < kn k := by simpa using hq
          simp (disch := omega) only [a_bi_i, a_bv_n, a_bl_l, a_bq_q, l_0, l_1, l_2, l_3, l_4, l_5, l_6, l_7, l_8, l_9, l_10, l_12, l_16, l_20, l_24, l_25, l_31, l_32, l_33, l_40, l_48, l_57, l_60, l_63, l_64, l_78, l_85, l_97, l_99, l_100, l_122, l_255, l_325, l_700, l_999, l_1000, l_1200, l_99999, l_100000, l_1000000, l_2000000000, l_N, n_add, n_mul, n_lt, n_out, n_div, n_dm, n_eq, n_toN, n_inN, n_ltN, n_nltN, n_neN, Nat.not_lt_zero, false_or, or_false, ite_y, ite_n, if_true, if_false, ite_tt, ite_ff, b_0, b_1, eq_self_iff_true, Bool.true_eq_false, Bool.false_eq_true, q1, hmd, q3]
          exact hz
      · simp only [q1, if_false]; exact hz
  · rw [hP.1]
    simp (disch := omega) only [a_bi_i, a_bv_n, a_bl_l, a_bq_q, l_0, l_1, l_2, l_3, l_4, l_5, l_6, l_7, l_8, l_9, l_10, l_12, l_16, l_20, l_24, l_25, l_31, l_32, l_33, l_40, l_48, l_57, l_60, l_63, l_64, l_78, l_85, l_97, l_99, l_100, l_122, l_255, l_325, l_700, l_999, l_1000, l_1200, l_99999, l_100000, l_1000000, l_2000000000, l_N, n_add, n_mul, n_lt, n_out, n_div, n_dm, n_eq, n_toN, n_inN, n_ltN, n_nltN, n_neN, Nat.not_lt_zero, false_or, or_false, ite_y, ite_n, if_true, if_false, ite_tt, ite_ff, b_0, b_1, eq_self_iff_true, Bool.true_eq_false, Bool.false_eq_true]
theorem m_meets {T n m a b : Nat} {ps : Nat → Nat → Option Nat} {kn : Nat → Nat} (hP : PM I T n ps kn) (hm : m + 1 < T) (hn : n ≤ 3) (hT : T ≤ 40) (hp : ∀ k, k < n → ∀ m x, ps k m = some x → x < 8) (ha : a < 8) (hb : b < 8) (hd : 2 ≤ d) : K_X11_meets X d (nI a) (nI b) (nI m) (I, L, ()) = some (some (aI (oI (fnd n (fun k => decide (ps k m = some b) && decide (ps k (m + 1) = some a))))), (I, L, ())) := by
  obtain ⟨e, rfl⟩ : ∃ e, d = e + 1 := ⟨d - 1, by omega⟩
  refine K_X11_meets.e X e _ _ _ I L _ ?_
  refine find_loop (F := fun k => v_X11_meets_3 X e (nI a) (nI b) (nI m) (nI k) (I, L, ())) (fun k hk => ?_) (v_X11_meets_3.e X e _ _ _ _ I L _ ?_)
  · have q8 : ∀ m z, ps k m = some z → z < 1000 := fun m z hz => by have := hp k hk m z hz; omega
    refine ⟨fun hq => v_X11_meets_3.e X e _ _ _ _ I L _ ?_, fun hq z hz => v_X11_meets_3.e X e _ _ _ _ I L _ ?_⟩
    · obtain ⟨q1, q2⟩ := Bool.and_eq_true_iff.mp hq
      have q1 := of_decide_eq_true q1
      have q2 := of_decide_eq_true q2
      rw [hP.1]
      simp (disch := omega) only [a_bi_i, a_bv_n, a_bl_l, a_bq_q, l_0, l_1, l_2, l_3, l_4, l_5, l_6, l_7, l_8, l_9, l_10, l_12, l_16, l_20, l_24, l_25, l_31, l_32, l_33, l_40, l_48, l_57, l_60, l_63, l_64, l_78, l_85, l_97, l_99, l_100, l_122, l_255, l_325, l_700, l_999, l_1000, l_1200, l_99999, l_100000, l_1000000, l_2000000000, l_N, n_add, n_mul, n_lt, n_out, n_div, n_dm, n_eq, n_toN, n_inN, n_ltN, n_nltN, n_neN, Nat.not_lt_zero, false_or, or_false, ite_y, ite_n, if_true, if_false, ite_tt, ite_ff, b_0, b_1, eq_self_iff_true, Bool.true_eq_false, Bool.false_eq_true, m_posOf hP, q1, q2, oI]
    · rw [hP.1]
      simp (disch := omega) only [a_bi_i, a_bv_n, a_bl_l, a_bq_q, l_0, l_1, l_2, l_3, l_4, l_5, l_6, l_7, l_8, l_9, l_10, l_12, l_16, l_20, l_24, l_25, l_31, l_32, l_33, l_40, l_48, l_57, l_60, l_63, l_64, l_78, l_85, l_97, l_99, l_100, l_122, l_255, l_325, l_700, l_999, l_1000, l_1200, l_99999, l_100000, l_1000000, l_2000000000, l_N, n_add, n_mul, n_lt, n_out, n_div, n_dm, n_eq, n_toN, n_inN, n_ltN, n_nltN, n_neN, Nat.not_lt_zero, false_or, or_false, ite_y, ite_n, if_true, if_false, ite_tt, ite_ff, b_0, b_1, eq_self_iff_true, Bool.true_eq_false, Bool.false_eq_true, m_posOf hP, oI_eq (q8 m) (show b < 1000 by omega), oI_eq (q8 (m + 1)) (show a < 1000 by omega)]
      by_cases q1 : ps k m = some b
      · have q2 : ¬ ps k (m + 1) = some a := fun q => by simp [q1, q] at hq
        simp only [q1, q2, if_true, if_false]; exact hz
      · simp only [q1, if_false]; exact hz
  · rw [hP.1]
    simp (disch := omega) only [a_bi_i, a_bv_n, a_bl_l, a_bq_q, l_0, l_1, l_2, l_3, l_4, l_5, l_6, l_7, l_8, l_9, l_10, l_12, l_16, l_20, l_24, l_25, l_31, l_32, l_33, l_40, l_48, l_57, l_60, l_63, l_64, l_78, l_85, l_97, l_99, l_100, l_122, l_255, l_325, l_700, l_999, l_1000, l_1200, l_99999, l_100000, l_1000000, l_2000000000, l_N, n_add, n_mul, n_lt, n_out, n_div, n_dm, n_eq, n_toN, n_inN, n_ltN, n_nltN, n_neN, Nat.not_lt_zero, false_or, or_false, ite_y, ite_n, if_true, if_false, ite_tt, ite_ff, b_0, b_1, eq_self_iff_true, Bool.true_eq_false, Bool.false_eq_true]
/-- the reference's catch -/
def metM (ps : Nat → Nat → Option Nat) (kn : Nat → Nat) (rule : Nat) (p : Nat → Nat × Bool) (k m : Nat) : Bool :=
  (decide (ps k m = some (p m).1) && (!(p m).2 || decide (0 < kn k))) || (decide (0 < m ∧ rule = 1 ∧ (p (m - 1)).1 ≠ (p m).1) && (decide (ps k (m - 1) = some (p m).1) && decide (ps k m = some (p (m - 1)).1)))
theorem fnd_or {n : Nat} {p q : Nat → Bool} : fnd n (fun k => p k || q k) = match fnd n p, fnd n q with
  | none, o => o
  | some x, none => some x
  | some x, some y => some (if y < x then y else x) := by
  cases hp : fnd n p with
  | none =>
    have := fnd_none hp
    exact fnd_eq fun y hy => by simp [this y hy]
  | some x =>
    obtain ⟨x1, x2, x3⟩ := fnd_some hp
    cases hq : fnd n q with
    | none =>
      have hno := fnd_none hq
      simp only
      rw [← hp]
      exact fnd_eq fun y hy => by simp [hno y hy]
    | some y =>
      obtain ⟨y1, y2, y3⟩ := fnd_some hq
      simp only
      cases h : fnd n (fun k => p k || q k) with
      | none => have := fnd_none h x x1; simp [x2] at this
      | some z =>
        obtain ⟨z1, z2, z3⟩ := fnd_some h
        congr 1
        have i1 : ¬ x < z := fun hlt => by have := z3 x hlt; simp [x2] at this
        have i2 : ¬ y < z := fun hlt => by have := z3 y hlt; simp [y2] at this
        rcases Bool.or_eq_true_iff.mp z2 with g | g
        · have i3 : ¬ z < x := fun hlt => by rw [x3 z hlt] at g; cases g
          split <;> omega
        · have i3 : ¬ z < y := fun hlt => by rw [y3 z hlt] at g; cases g
          split <;> omega
theorem m_hasTrip {n m rule : Nat} {ps : Nat → Nat → Option Nat} {kn : Nat → Nat} {p : Nat → Nat × Bool} (v : Vw w) (hP : PM I (w 1) n ps kn) (h55 : ∀ m, m < w 1 → I 55 0 m = nI (rmP (p m))) (hm : m < w 1) (hn : n ≤ 3) (hp : ∀ k, k < n → ∀ m x, ps k m = some x → x < 8) (hkn : ∀ k, k < n → kn k ≤ 100) (hp8 : ∀ m, (p m).1 < 8) (hru : rule ≤ 3) (hd : 3 ≤ d) : K_X11_hasTrip X d (nI m) (nI rule) (I, L, ()) = some (some (aI (oI (fnd n (fun k => metM ps kn rule p k m)))), (I, L, ())) := by
  obtain ⟨e, rfl⟩ : ∃ e, d = e + 1 := ⟨d - 1, by omega⟩
  obtain ⟨⟨h0, h1, -⟩, -⟩ := id v
  have h16 := rmP_lt (hp8 m)
  have h16' := rmP_lt (hp8 (m - 1))
  refine K_X11_hasTrip.e X e _ _ I L _ ?_
  have hin := m_hasIn (X := X) (d := e) (L := L) (p := p m) hP hm hn h1 hp hkn (hp8 m) (by omega)
  unfold metM
  by_cases hm0 : m = 0
  · subst hm0
    simp (disch := omega) only [a_bi_i, a_bv_n, a_bl_l, a_bq_q, l_0, l_1, l_2, l_3, l_4, l_5, l_6, l_7, l_8, l_9, l_10, l_12, l_16, l_20, l_24, l_25, l_31, l_32, l_33, l_40, l_48, l_57, l_60, l_63, l_64, l_78, l_85, l_97, l_99, l_100, l_122, l_255, l_325, l_700, l_999, l_1000, l_1200, l_99999, l_100000, l_1000000, l_2000000000, l_N, n_add, n_mul, n_lt, n_out, n_div, n_dm, n_eq, n_toN, n_inN, n_ltN, n_nltN, n_neN, Nat.not_lt_zero, false_or, or_false, ite_y, ite_n, if_true, if_false, ite_tt, ite_ff, b_0, b_1, eq_self_iff_true, Bool.true_eq_false, Bool.false_eq_true, h55 0 hm, hin, Nat.lt_irrefl, false_and, decide_false, Bool.false_and, Bool.or_false]
  · have hm0' : 0 < m := by omega
    rw [l_1, n_sub (show 1 ≤ m by omega)]
    by_cases hr1 : rule = 1
    · subst hr1
      simp (disch := omega) only [a_bi_i, a_bv_n, a_bl_l, a_bq_q, l_0, l_1, l_2, l_3, l_4, l_5, l_6, l_7, l_8, l_9, l_10, l_12, l_16, l_20, l_24, l_25, l_31, l_32, l_33, l_40, l_48, l_57, l_60, l_63, l_64, l_78, l_85, l_97, l_99, l_100, l_122, l_255, l_325, l_700, l_999, l_1000, l_1200, l_99999, l_100000, l_1000000, l_2000000000, l_N, n_add, n_mul, n_lt, n_out, n_div, n_dm, n_eq, n_toN, n_inN, n_ltN, n_nltN, n_neN, Nat.not_lt_zero, false_or, or_false, ite_y, ite_n, if_true, if_false, ite_tt, ite_ff, b_0, b_1, eq_self_iff_true, Bool.true_eq_false, Bool.false_eq_true, h55 m hm, h55 (m - 1) (by omega), hin, rmP_div, hm0', true_and]
      have hpm := hp8 m
      have hpm1 := hp8 (m - 1)
      by_cases hsame : (p (m - 1)).1 = (p m).1
      · simp (disch := omega) only [a_bi_i, a_bv_n, a_bl_l, a_bq_q, l_0, l_1, l_2, l_3, l_4, l_5, l_6, l_7, l_8, l_9, l_10, l_12, l_16, l_20, l_24, l_25, l_31, l_32, l_33, l_40, l_48, l_57, l_60, l_63, l_64, l_78, l_85, l_97, l_99, l_100, l_122, l_255, l_325, l_700, l_999, l_1000, l_1200, l_99999, l_100000, l_1000000, l_2000000000, l_N, n_add, n_mul, n_lt, n_out, n_div, n_dm, n_eq, n_toN, n_inN, n_ltN, n_nltN, n_neN, Nat.not_lt_zero, false_or, or_false, ite_y, ite_n, if_true, if_false, ite_tt, ite_ff, b_0, b_1, eq_self_iff_true, Bool.true_eq_false, Bool.false_eq_true, hsame, ne_eq, not_true_eq_false, decide_false, Bool.false_and, Bool.or_false]
      · have hmt := m_meets (X := X) (d := e) (L := L) (m := m - 1) (a := (p (m - 1)).1) (b := (p m).1) hP (by omega) hn h1 hp hpm1 hpm (by omega)
        rw [show m - 1 + 1 = m by omega] at hmt
        simp (disch := omega) only [a_bi_i, a_bv_n, a_bl_l, a_bq_q, l_0, l_1, l_2, l_3, l_4, l_5, l_6, l_7, l_8, l_9, l_10, l_12, l_16, l_20, l_24, l_25, l_31, l_32, l_33, l_40, l_48, l_57, l_60, l_63, l_64, l_78, l_85, l_97, l_99, l_100, l_122, l_255, l_325, l_700, l_999, l_1000, l_1200, l_99999, l_100000, l_1000000, l_2000000000, l_N, n_add, n_mul, n_lt, n_out, n_div, n_dm, n_eq, n_toN, n_inN, n_ltN, n_nltN, n_neN, Nat.not_lt_zero, false_or, or_false, ite_y, ite_n, if_true, if_false, ite_tt, ite_ff, b_0, b_1, eq_self_iff_true, Bool.true_eq_false, Bool.false_eq_true, hsame, hmt, ne_eq, not_false_eq_true, decide_true, Bool.true_and]
        rw [fnd_or]
        cases ha : fnd n (fun k => decide (ps k m = some (p m).1) && (!(p m).2 || decide (0 < kn k))) with
        | none => simp only [oI, if_true]
        | some a =>
          have ha3 := (fnd_some ha).1
          cases hb : fnd n (fun k => decide (ps k (m - 1) = some (p m).1) && decide (ps k m = some (p (m - 1)).1)) with
          | none => simp (disch := omega) only [oI, a_bi_i, a_bv_n, a_bl_l, a_bq_q, l_0, l_1, l_2, l_3, l_4, l_5, l_6, l_7, l_8, l_9, l_10, l_12, l_16, l_20, l_24, l_25, l_31, l_32, l_33, l_40, l_48, l_57, l_60, l_63, l_64, l_78, l_85, l_97, l_99, l_100, l_122, l_255, l_325, l_700, l_999, l_1000, l_1200, l_99999, l_100000, l_1000000, l_2000000000, l_N, n_add, n_mul, n_lt, n_out, n_div, n_dm, n_eq, n_toN, n_inN, n_ltN, n_nltN, n_neN, Nat.not_lt_zero, false_or, or_false, ite_y, ite_n, if_true, if_false, ite_tt, ite_ff, b_0, b_1, eq_self_iff_true, Bool.true_eq_false, Bool.false_eq_true]
          | some b =>
            have hb3 := (fnd_some hb).1
            simp (disch := omega) only [oI, a_bi_i, a_bv_n, a_bl_l, a_bq_q, l_0, l_1, l_2, l_3, l_4, l_5, l_6, l_7, l_8, l_9, l_10, l_12, l_16, l_20, l_24, l_25, l_31, l_32, l_33, l_40, l_48, l_57, l_60, l_63, l_64, l_78, l_85, l_97, l_99, l_100, l_122, l_255, l_325, l_700, l_999, l_1000, l_1200, l_99999, l_100000, l_1000000, l_2000000000, l_N, n_add, n_mul, n_lt, n_out, n_div, n_dm, n_eq, n_toN, n_inN, n_ltN, n_nltN, n_neN, Nat.not_lt_zero, false_or, or_false, ite_y, ite_n, if_true, if_false, ite_tt, ite_ff, b_0, b_1, eq_self_iff_true, Bool.true_eq_false, Bool.false_eq_true, c_min]
            by_cases hlt : b < a
            · simp only [hlt, if_true]
            · simp only [hlt, if_false]
    · simp (disch := omega) only [a_bi_i, a_bv_n, a_bl_l, a_bq_q, l_0, l_1, l_2, l_3, l_4, l_5, l_6, l_7, l_8, l_9, l_10, l_12, l_16, l_20, l_24, l_25, l_31, l_32, l_33, l_40, l_48, l_57, l_60, l_63, l_64, l_78, l_85, l_97, l_99, l_100, l_122, l_255, l_325, l_700, l_999, l_1000, l_1200, l_99999, l_100000, l_1000000, l_2000000000, l_N, n_add, n_mul, n_lt, n_out, n_div, n_dm, n_eq, n_toN, n_inN, n_ltN, n_nltN, n_neN, Nat.not_lt_zero, false_or, or_false, ite_y, ite_n, if_true, if_false, ite_tt, ite_ff, b_0, b_1, eq_self_iff_true, Bool.true_eq_false, Bool.false_eq_true, h55 m hm, hin, hr1, false_and, and_false, decide_false, Bool.false_and, Bool.or_false]
theorem m_hadBy {n rule : Nat} {ps : Nat → Nat → Option Nat} {kn : Nat → Nat} {p : Nat → Nat × Bool} (h : TM I w) (v : Vw w) (hP : PM I (w 1) n ps kn) (h55 : ∀ m, m < w 1 → I 55 0 m = nI (rmP (p m))) (hn : n ≤ 3) (hp : ∀ k, k < n → ∀ m x, ps k m = some x → x < 8) (hkn : ∀ k, k < n → kn k ≤ 100) (hp8 : ∀ m, (p m).1 < 8) (hru : rule ≤ 3) (hd : 4 ≤ d) : K_X11_hadBy X d (nI rule) (I, L, ()) = some (some (aI (oI (hadF (w 1) n (metM ps kn rule p)))), (I, L, ())) := by
  obtain ⟨e, rfl⟩ : ∃ e, d = e + 1 := ⟨d - 1, by omega⟩
  obtain ⟨⟨h0, h1, -⟩, -⟩ := id v
  refine K_X11_hadBy.e X e _ I L _ ?_
  refine find_loop (F := fun m => v_X11_hadBy_2 X e (nI rule) (nI m) (I, L, ())) (fun m hm => ?_) (v_X11_hadBy_2.e X e _ _ I L _ ?_)
  · have ht := m_hasTrip (X := X) (d := e) (L := L) v hP h55 hm hn hp hkn hp8 hru (by omega)
    refine ⟨fun hq => v_X11_hadBy_2.e X e _ _ I L _ ?_, fun hq z hz => v_X11_hadBy_2.e X e _ _ I L _ ?_⟩
    · cases hf : fnd n (fun k => metM ps kn rule p k m) with
      | none => rw [hf] at hq; cases hq
      | some k =>
        have hk := (fnd_some hf).1
        rw [hf] at ht
        simp (disch := omega) only [a_bi_i, a_bv_n, a_bl_l, a_bq_q, l_0, l_1, l_2, l_3, l_4, l_5, l_6, l_7, l_8, l_9, l_10, l_12, l_16, l_20, l_24, l_25, l_31, l_32, l_33, l_40, l_48, l_57, l_60, l_63, l_64, l_78, l_85, l_97, l_99, l_100, l_122, l_255, l_325, l_700, l_999, l_1000, l_1200, l_99999, l_100000, l_1000000, l_2000000000, l_N, n_add, n_mul, n_lt, n_out, n_div, n_dm, n_eq, n_toN, n_inN, n_ltN, n_nltN, n_neN, Nat.not_lt_zero, false_or, or_false, ite_y, ite_n, if_true, if_false, ite_tt, ite_ff, b_0, b_1, eq_self_iff_true, Bool.true_eq_false, Bool.false_eq_true, m_minutes h v, ht, oI]
    · cases hf : fnd n (fun k => metM ps kn rule p k m) with
      | some k => rw [hf] at hq; cases hq
      | none =>
        rw [hf] at ht
        simp (disch := omega) only [a_bi_i, a_bv_n, a_bl_l, a_bq_q, l_0, l_1, l_2, l_3, l_4, l_5, l_6, l_7, l_8, l_9, l_10, l_12, l_16, l_20, l_24, l_25, l_31, l_32, l_33, l_40, l_48, l_57, l_60, l_63, l_64, l_78, l_85, l_97, l_99, l_100, l_122, l_255, l_325, l_700, l_999, l_1000, l_1200, l_99999, l_100000, l_1000000, l_2000000000, l_N, n_add, n_mul, n_lt, n_out, n_div, n_dm, n_eq, n_toN, n_inN, n_ltN, n_nltN, n_neN, Nat.not_lt_zero, false_or, or_false, ite_y, ite_n, if_true, if_false, ite_tt, ite_ff, b_0, b_1, eq_self_iff_true, Bool.true_eq_false, Bool.false_eq_true, m_minutes h v, ht, oI]
        exact hz
  · simp (disch := omega) only [a_bi_i, a_bv_n, a_bl_l, a_bq_q, l_0, l_1, l_2, l_3, l_4, l_5, l_6, l_7, l_8, l_9, l_10, l_12, l_16, l_20, l_24, l_25, l_31, l_32, l_33, l_40, l_48, l_57, l_60, l_63, l_64, l_78, l_85, l_97, l_99, l_100, l_122, l_255, l_325, l_700, l_999, l_1000, l_1200, l_99999, l_100000, l_1000000, l_2000000000, l_N, n_add, n_mul, n_lt, n_out, n_div, n_dm, n_eq, n_toN, n_inN, n_ltN, n_nltN, n_neN, Nat.not_lt_zero, false_or, or_false, ite_y, ite_n, if_true, if_false, ite_tt, ite_ff, b_0, b_1, eq_self_iff_true, Bool.true_eq_false, Bool.false_eq_true, m_minutes h v]
end
