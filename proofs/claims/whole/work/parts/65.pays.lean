/-! brings; dodges, week, fine, often, mean, learns -/
section
variable {X : AX} {d : Nat} {I J : A3 Int32} {L : A3 Int64} {w : TW}
/-- what r riders bring -/
def brF (w : TW) : Nat → Nat
  | 0 => 0
  | r + 1 => brF w r + (if w (52 + 5 * r) = 1 then w 3 else if (had0 w r).isSome = true then w 4 else 0)
def tkF (w : TW) : Nat → Nat
  | 0 => 0
  | r + 1 => tkF w r + w (52 + 5 * r) * w 3
theorem brF_le (v : Vw w) : ∀ r, brF w r ≤ 999 * r := by
  obtain ⟨⟨h0, h1, h2, h3, h4, h5, h6, -⟩, -⟩ := id v
  intro r
  induction r with
  | zero => exact Nat.le_refl _
  | succ r ih => unfold brF; split <;> (try split) <;> omega
theorem brF_eq (v : Vw w) : ∀ r, r ≤ w 6 → brF w r = w 4 * cnt r (fnF w) + tkF w r := by
  obtain ⟨⟨h0, h1, h2, h3, h4, h5, h6, -⟩, -, vc, vi, vr, -⟩ := id v
  intro r
  induction r with
  | zero => intro _; rfl
  | succ r ih =>
    intro hr
    have hvr := vr r (by omega)
    unfold brF cnt tkF
    rw [ih (by omega)]
    by_cases h1 : w (52 + 5 * r) = 1
    · have : fnF w r = false := by unfold fnF; rw [h1]; rfl
      rw [this, h1]
      simp only [if_true, Bool.false_eq_true, if_false, Nat.add_zero, Nat.one_mul]
      omega
    · have h0 : w (52 + 5 * r) = 0 := by omega
      have : fnF w r = (had0 w r).isSome := by unfold fnF; rw [h0]; rfl
      rw [this, h0, if_neg (show ¬ (0 : Nat) = 1 by decide)]
      cases (had0 w r).isSome
      · simp
      · simp only [if_true, Nat.zero_mul, Nat.add_zero, Nat.mul_add, Nat.mul_one]
        omega
theorem q_brings (h : TC I w) (v : Vw w) : Both w (K_X10_brings X 15) (K_X11_brings X 15) I L := by
  obtain ⟨⟨h0, h1, h2, h3, h4, h5, h6, -⟩, -, vc, vi, vr, -⟩ := id v
  by_cases ha : 0 < w 7
  · obtain ⟨I', f1, f2, f3, f4, f5⟩ := c_rideAll (X := X) (d := 14) (L := L) h v (by omega)
    obtain ⟨x, x1, x2⟩ := loop_z (F := fun r (x : Int32) => v_X10_brings_21 X 14 x (nI r) (I', L, ())) (P := fun r x => x = nI (brF w r)) (w 6) (nI 0) rfl (fun r x hr hP => by
      subst hP
      have hvr := vr r hr
      have hh := (f5 r hr).2
      refine ⟨_, rfl, fun z hz => ?_⟩
      refine v_X10_brings_21.e X 14 _ _ I' L z ?_
      simp (disch := omega) only [c_riders f3 v, c_hasTicket f3 v, c_fare f3 v, c_fineSum f3 v, hh, oI_none (had_1000 v r), a_bi_i, a_bv_n, a_bl_l, a_bq_q, l_0, l_1, l_2, l_3, l_4, l_5, l_6, l_7, l_8, l_9, l_10, l_12, l_16, l_20, l_24, l_25, l_31, l_32, l_33, l_40, l_48, l_57, l_60, l_63, l_64, l_78, l_85, l_97, l_99, l_100, l_122, l_255, l_325, l_700, l_999, l_1000, l_1200, l_99999, l_100000, l_1000000, l_2000000000, l_N, n_add, n_mul, n_lt, n_out, n_div, n_dm, n_eq, n_toN, n_inN, n_ltN, n_nltN, n_neN, Nat.not_lt_zero, false_or, or_false, ite_y, ite_n, if_true, if_false, ite_tt, ite_ff, b_0, b_1, eq_self_iff_true, Bool.true_eq_false, Bool.false_eq_true]
      unfold brF at hz
      by_cases q4 : w (52 + 5 * r) = 1
      · simp only [q4, decide_true, Bool.true_eq_false, if_false, if_true] at hz ⊢; exact hz
      · cases hq : had0 w r with
        | none => rw [hq] at hz; simp only [q4, decide_false, if_false, if_true, Option.isSome_none, Bool.false_eq_true, Nat.add_zero] at hz ⊢; exact hz
        | some m => rw [hq] at hz; simp only [q4, decide_false, if_false, if_true, Option.isSome_some, reduceCtorEq] at hz ⊢; exact hz)
    refine Both.mk (nI (brF w (w 6))) I' (K_X10_brings.e X 14 I L _ ?_) f2 (fun J L2 hJ => ?_)
    · simp (disch := omega) only [c_stands h v, ha, decide_true, f1, a_bi_i, a_bv_n, a_bl_l, a_bq_q, l_0, l_1, l_2, l_3, l_4, l_5, l_6, l_7, l_8, l_9, l_10, l_12, l_16, l_20, l_24, l_25, l_31, l_32, l_33, l_40, l_48, l_57, l_60, l_63, l_64, l_78, l_85, l_97, l_99, l_100, l_122, l_255, l_325, l_700, l_999, l_1000, l_1200, l_99999, l_100000, l_1000000, l_2000000000, l_N, n_add, n_mul, n_lt, n_out, n_div, n_dm, n_eq, n_toN, n_inN, n_ltN, n_nltN, n_neN, Nat.not_lt_zero, false_or, or_false, ite_y, ite_n, if_true, if_false, ite_tt, ite_ff, b_0, b_1, eq_self_iff_true, Bool.true_eq_false, Bool.false_eq_true]
      refine x2 _ (v_X10_brings_21.e X 14 _ _ I' L _ ?_)
      simp (disch := omega) only [c_riders f3 v, a_bi_i, a_bv_n, a_bl_l, a_bq_q, l_0, l_1, l_2, l_3, l_4, l_5, l_6, l_7, l_8, l_9, l_10, l_12, l_16, l_20, l_24, l_25, l_31, l_32, l_33, l_40, l_48, l_57, l_60, l_63, l_64, l_78, l_85, l_97, l_99, l_100, l_122, l_255, l_325, l_700, l_999, l_1000, l_1200, l_99999, l_100000, l_1000000, l_2000000000, l_N, n_add, n_mul, n_lt, n_out, n_div, n_dm, n_eq, n_toN, n_inN, n_ltN, n_nltN, n_neN, Nat.not_lt_zero, false_or, or_false, ite_y, ite_n, if_true, if_false, ite_tt, ite_ff, b_0, b_1, eq_self_iff_true, Bool.true_eq_false, Bool.false_eq_true, x1]
    · obtain ⟨y, J', g1, g2, g3, g4⟩ := m_finedNow (X := X) (d := 14) (L2 := L2) hJ v (by omega)
      have hc : cnt 9 (bt y) = cnt (w 6) (fnF w) := by
        rw [cnt_eq (q := fun k => decide (k < w 6) && fnF w k) (fun k _ => g4 k), cnt_ext (n := w 6) (by omega) (fun k hk => by
          have : ¬ k < w 6 := by omega
          simp [this])]
        exact cnt_eq fun k hk => by simp [hk]
      obtain ⟨x', y1, y2⟩ := loop_z (F := fun r (x : Int32) => v_X11_brings_27 X 14 x (nI r) (J', L2, ())) (P := fun r x => x = nI (w 4 * cnt (w 6) (fnF w) + tkF w r)) (w 6) (nI (w 4 * cnt (w 6) (fnF w))) rfl (fun r x hr hP => by
        subst hP
        refine ⟨_, rfl, fun z hz => ?_⟩
        refine v_X11_brings_27.e X 14 _ _ J' L2 z ?_
        rw [g3 6 (by decide)]
        simp (disch := omega) only [m_or4 g3 v, a_bi_i, a_bv_n, a_bl_l, a_bq_q, l_0, l_1, l_2, l_3, l_4, l_5, l_6, l_7, l_8, l_9, l_10, l_12, l_16, l_20, l_24, l_25, l_31, l_32, l_33, l_40, l_48, l_57, l_60, l_63, l_64, l_78, l_85, l_97, l_99, l_100, l_122, l_255, l_325, l_700, l_999, l_1000, l_1200, l_99999, l_100000, l_1000000, l_2000000000, l_N, n_add, n_mul, n_lt, n_out, n_div, n_dm, n_eq, n_toN, n_inN, n_ltN, n_nltN, n_neN, Nat.not_lt_zero, false_or, or_false, ite_y, ite_n, if_true, if_false, ite_tt, ite_ff, b_0, b_1, eq_self_iff_true, Bool.true_eq_false, Bool.false_eq_true, g3 3 (by decide)]
        unfold tkF at hz
        rw [← Nat.add_assoc] at hz
        exact hz)
      refine ⟨J', K_X11_brings.e X 14 J L2 _ ?_, g2⟩
      simp (disch := omega) only [m_isTrain hJ v, ha, decide_true, g1, m_bits, hc, hJ 4 (by decide), a_bi_i, a_bv_n, a_bl_l, a_bq_q, l_0, l_1, l_2, l_3, l_4, l_5, l_6, l_7, l_8, l_9, l_10, l_12, l_16, l_20, l_24, l_25, l_31, l_32, l_33, l_40, l_48, l_57, l_60, l_63, l_64, l_78, l_85, l_97, l_99, l_100, l_122, l_255, l_325, l_700, l_999, l_1000, l_1200, l_99999, l_100000, l_1000000, l_2000000000, l_N, n_add, n_mul, n_lt, n_out, n_div, n_dm, n_eq, n_toN, n_inN, n_ltN, n_nltN, n_neN, Nat.not_lt_zero, false_or, or_false, ite_y, ite_n, if_true, if_false, ite_tt, ite_ff, b_0, b_1, eq_self_iff_true, Bool.true_eq_false, Bool.false_eq_true]
      rw [brF_eq v _ (Nat.le_refl _)]
      refine y2 _ (v_X11_brings_27.e X 14 _ _ J' L2 _ ?_)
      rw [g3 6 (by decide), y1]
      simp (disch := omega) only [a_bi_i, a_bv_n, a_bl_l, a_bq_q, l_0, l_1, l_2, l_3, l_4, l_5, l_6, l_7, l_8, l_9, l_10, l_12, l_16, l_20, l_24, l_25, l_31, l_32, l_33, l_40, l_48, l_57, l_60, l_63, l_64, l_78, l_85, l_97, l_99, l_100, l_122, l_255, l_325, l_700, l_999, l_1000, l_1200, l_99999, l_100000, l_1000000, l_2000000000, l_N, n_add, n_mul, n_lt, n_out, n_div, n_dm, n_eq, n_toN, n_inN, n_ltN, n_nltN, n_neN, Nat.not_lt_zero, false_or, or_false, ite_y, ite_n, if_true, if_false, ite_tt, ite_ff, b_0, b_1, eq_self_iff_true, Bool.true_eq_false, Bool.false_eq_true]
  · refine Both.pure (-2) (K_X10_brings.e X 14 I L _ ?_) (fun J L2 h => K_X11_brings.e X 14 J L2 _ ?_)
    · simp (disch := omega) only [c_stands h v, ha, decide_false, a_bi_i, a_bv_n, a_bl_l, a_bq_q, l_0, l_1, l_2, l_3, l_4, l_5, l_6, l_7, l_8, l_9, l_10, l_12, l_16, l_20, l_24, l_25, l_31, l_32, l_33, l_40, l_48, l_57, l_60, l_63, l_64, l_78, l_85, l_97, l_99, l_100, l_122, l_255, l_325, l_700, l_999, l_1000, l_1200, l_99999, l_100000, l_1000000, l_2000000000, l_N, n_add, n_mul, n_lt, n_out, n_div, n_dm, n_eq, n_toN, n_inN, n_ltN, n_nltN, n_neN, Nat.not_lt_zero, false_or, or_false, ite_y, ite_n, if_true, if_false, ite_tt, ite_ff, b_0, b_1, eq_self_iff_true, Bool.true_eq_false, Bool.false_eq_true]
    · simp (disch := omega) only [m_isTrain h v, ha, decide_false, a_bi_i, a_bv_n, a_bl_l, a_bq_q, l_0, l_1, l_2, l_3, l_4, l_5, l_6, l_7, l_8, l_9, l_10, l_12, l_16, l_20, l_24, l_25, l_31, l_32, l_33, l_40, l_48, l_57, l_60, l_63, l_64, l_78, l_85, l_97, l_99, l_100, l_122, l_255, l_325, l_700, l_999, l_1000, l_1200, l_99999, l_100000, l_1000000, l_2000000000, l_N, n_add, n_mul, n_lt, n_out, n_div, n_dm, n_eq, n_toN, n_inN, n_ltN, n_nltN, n_neN, Nat.not_lt_zero, false_or, or_false, ite_y, ite_n, if_true, if_false, ite_tt, ite_ff, b_0, b_1, eq_self_iff_true, Bool.true_eq_false, Bool.false_eq_true]
/-- whether he pays -/
def pyF (w : TW) (r f o : Nat) : Bool := decide (100 * w 3 ≤ if (had0 w r).isSome = true then f * o else 0)
theorem mul_small {a b : Nat} (ha : a ≤ 999) (hb : b ≤ 100) : a * b ≤ 99900 := Nat.le_trans (Nat.mul_le_mul ha hb) (by decide)
theorem c_pays {r f o : Nat} (h : TC I w) (v : Vw w) (hf : f ≤ 999) (ho : o ≤ 100) (hd : 2 ≤ d) : K_X10_pays X d (bI (had0 w r).isSome) (nI f) (nI o) (I, L, ()) = some (some (aI (bI (pyF w r f o))), (I, L, ())) := by
  obtain ⟨e, rfl⟩ : ∃ e, d = e + 1 := ⟨d - 1, by omega⟩
  obtain ⟨⟨h0, h1, h2, h3, h4, -⟩, -⟩ := id v
  have hfo := mul_small hf ho
  refine K_X10_pays.e X e _ _ _ I L _ ?_
  unfold pyF
  cases (had0 w r).isSome with
  | false =>
    simp (disch := omega) only [a_bi_i, a_bv_n, a_bl_l, a_bq_q, l_0, l_1, l_2, l_3, l_4, l_5, l_6, l_7, l_8, l_9, l_10, l_12, l_16, l_20, l_24, l_25, l_31, l_32, l_33, l_40, l_48, l_57, l_60, l_63, l_64, l_78, l_85, l_97, l_99, l_100, l_122, l_255, l_325, l_700, l_999, l_1000, l_1200, l_99999, l_100000, l_1000000, l_2000000000, l_N, n_add, n_mul, n_lt, n_out, n_div, n_dm, n_eq, n_toN, n_inN, n_ltN, n_nltN, n_neN, Nat.not_lt_zero, false_or, or_false, ite_y, ite_n, if_true, if_false, ite_tt, ite_ff, b_0, b_1, eq_self_iff_true, Bool.true_eq_false, Bool.false_eq_true, c_fare h v]
    by_cases q : 100 * w 3 ≤ 0
    · have : ¬ 0 < 100 * w 3 := by omega
      simp only [q, this, if_false, decide_true]; rfl
    · have : 0 < 100 * w 3 := by omega
      simp only [q, this, if_true, decide_false]; rfl
  | true =>
    simp (disch := omega) only [a_bi_i, a_bv_n, a_bl_l, a_bq_q, l_0, l_1, l_2, l_3, l_4, l_5, l_6, l_7, l_8, l_9, l_10, l_12, l_16, l_20, l_24, l_25, l_31, l_32, l_33, l_40, l_48, l_57, l_60, l_63, l_64, l_78, l_85, l_97, l_99, l_100, l_122, l_255, l_325, l_700, l_999, l_1000, l_1200, l_99999, l_100000, l_1000000, l_2000000000, l_N, n_add, n_mul, n_lt, n_out, n_div, n_dm, n_eq, n_toN, n_inN, n_ltN, n_nltN, n_neN, Nat.not_lt_zero, false_or, or_false, ite_y, ite_n, if_true, if_false, ite_tt, ite_ff, b_0, b_1, eq_self_iff_true, Bool.true_eq_false, Bool.false_eq_true, c_fare h v]
    by_cases q : 100 * w 3 ≤ f * o
    · have : ¬ f * o < 100 * w 3 := by omega
      simp only [q, this, if_false, decide_true]; rfl
    · have : f * o < 100 * w 3 := by omega
      simp only [q, this, if_true, decide_false]; rfl
theorem m_pays {r f o : Nat} (h : TM I w) (v : Vw w) (hr : r < w 6) (hf : f ≤ 999) (ho : o ≤ 100) (hd : 9 ≤ d) : ∃ J, K_X11_pays X d (nI r) (nI f) (nI o) (I, L, ()) = some (some (aI (bI (pyF w r f o))), (J, L, ())) ∧ Sm I J ∧ TM J w := by
  obtain ⟨e, rfl⟩ : ∃ e, d = e + 1 := ⟨d - 1, by omega⟩
  obtain ⟨⟨h0, h1, h2, h3, h4, -⟩, -⟩ := id v
  have hfo := mul_small hf ho
  obtain ⟨J, g1, g2, g3, -⟩ := m_hadOf (X := X) (d := e) (L := L) h v hr (by omega)
  refine ⟨J, K_X11_pays.e X e _ _ _ I L _ ?_, g2, g3⟩
  simp (disch := omega) only [a_bi_i, a_bv_n, a_bl_l, a_bq_q, l_0, l_1, l_2, l_3, l_4, l_5, l_6, l_7, l_8, l_9, l_10, l_12, l_16, l_20, l_24, l_25, l_31, l_32, l_33, l_40, l_48, l_57, l_60, l_63, l_64, l_78, l_85, l_97, l_99, l_100, l_122, l_255, l_325, l_700, l_999, l_1000, l_1200, l_99999, l_100000, l_1000000, l_2000000000, l_N, n_add, n_mul, n_lt, n_out, n_div, n_dm, n_eq, n_toN, n_inN, n_ltN, n_nltN, n_neN, Nat.not_lt_zero, false_or, or_false, ite_y, ite_n, if_true, if_false, ite_tt, ite_ff, b_0, b_1, eq_self_iff_true, Bool.true_eq_false, Bool.false_eq_true, g1, oI_none (had_1000 v r), g3 3 (by decide), Nat.mul_zero]
  unfold pyF
  cases hq : had0 w r with
  | none =>
    simp only [if_true, Option.isSome_none, Bool.false_eq_true, if_false]
    by_cases q : 100 * w 3 ≤ 0
    · have : ¬ 0 < 100 * w 3 := by omega
      simp only [q, this, if_false, decide_true]; rfl
    · have : 0 < 100 * w 3 := by omega
      simp only [q, this, if_true, decide_false]; rfl
  | some m =>
    simp only [reduceCtorEq, if_false, Option.isSome_some, if_true]
    by_cases q : 100 * w 3 ≤ f * o
    · have : ¬ f * o < 100 * w 3 := by omega
      simp only [q, this, if_false, decide_true]; rfl
    · have : f * o < 100 * w 3 := by omega
      simp only [q, this, if_true, decide_false]; rfl
theorem q_dodges (h : TC I w) (v : Vw w) (a b : Int32) : Both w (K_X10_dodges X 15 a b) (K_X11_dodges X 15 a b) I L := by
  obtain ⟨⟨h0, h1, h2, h3, h4, h5, h6, -⟩, -, vc, vi, vr, vd⟩ := id v
  cases ha : inr a (w 6) with
  | false =>
    refine Both.pure (-2) (K_X10_dodges.e X 14 a b I L _ ?_) (fun J L2 h => K_X11_dodges.e X 14 a b J L2 _ ?_)
    · simp (disch := omega) only [c_hasRider h v, ha, a_bi_i, a_bv_n, a_bl_l, a_bq_q, l_0, l_1, l_2, l_3, l_4, l_5, l_6, l_7, l_8, l_9, l_10, l_12, l_16, l_20, l_24, l_25, l_31, l_32, l_33, l_40, l_48, l_57, l_60, l_63, l_64, l_78, l_85, l_97, l_99, l_100, l_122, l_255, l_325, l_700, l_999, l_1000, l_1200, l_99999, l_100000, l_1000000, l_2000000000, l_N, n_add, n_mul, n_lt, n_out, n_div, n_dm, n_eq, n_toN, n_inN, n_ltN, n_nltN, n_neN, Nat.not_lt_zero, false_or, or_false, ite_y, ite_n, if_true, if_false, ite_tt, ite_ff, b_0, b_1, eq_self_iff_true, Bool.true_eq_false, Bool.false_eq_true]
    · simp (disch := omega) only [m_isRider h v, ha, a_bi_i, a_bv_n, a_bl_l, a_bq_q, l_0, l_1, l_2, l_3, l_4, l_5, l_6, l_7, l_8, l_9, l_10, l_12, l_16, l_20, l_24, l_25, l_31, l_32, l_33, l_40, l_48, l_57, l_60, l_63, l_64, l_78, l_85, l_97, l_99, l_100, l_122, l_255, l_325, l_700, l_999, l_1000, l_1200, l_99999, l_100000, l_1000000, l_2000000000, l_N, n_add, n_mul, n_lt, n_out, n_div, n_dm, n_eq, n_toN, n_inN, n_ltN, n_nltN, n_neN, Nat.not_lt_zero, false_or, or_false, ite_y, ite_n, if_true, if_false, ite_tt, ite_ff, b_0, b_1, eq_self_iff_true, Bool.true_eq_false, Bool.false_eq_true]
  | true =>
    obtain ⟨r, hr, rfl⟩ := inr_ex (by omega) ha
    cases hb : decide (0 < w 7) && inr b 7 with
    | false =>
      refine Both.pure (-2) (K_X10_dodges.e X 14 _ b I L _ ?_) (fun J L2 h => K_X11_dodges.e X 14 _ b J L2 _ ?_)
      · simp (disch := omega) only [c_hasRider h v, c_hasDay h v, ha, hb, a_bi_i, a_bv_n, a_bl_l, a_bq_q, l_0, l_1, l_2, l_3, l_4, l_5, l_6, l_7, l_8, l_9, l_10, l_12, l_16, l_20, l_24, l_25, l_31, l_32, l_33, l_40, l_48, l_57, l_60, l_63, l_64, l_78, l_85, l_97, l_99, l_100, l_122, l_255, l_325, l_700, l_999, l_1000, l_1200, l_99999, l_100000, l_1000000, l_2000000000, l_N, n_add, n_mul, n_lt, n_out, n_div, n_dm, n_eq, n_toN, n_inN, n_ltN, n_nltN, n_neN, Nat.not_lt_zero, false_or, or_false, ite_y, ite_n, if_true, if_false, ite_tt, ite_ff, b_0, b_1, eq_self_iff_true, Bool.true_eq_false, Bool.false_eq_true]
      · simp (disch := omega) only [m_isRider h v, m_isDay h v, ha, hb, a_bi_i, a_bv_n, a_bl_l, a_bq_q, l_0, l_1, l_2, l_3, l_4, l_5, l_6, l_7, l_8, l_9, l_10, l_12, l_16, l_20, l_24, l_25, l_31, l_32, l_33, l_40, l_48, l_57, l_60, l_63, l_64, l_78, l_85, l_97, l_99, l_100, l_122, l_255, l_325, l_700, l_999, l_1000, l_1200, l_99999, l_100000, l_1000000, l_2000000000, l_N, n_add, n_mul, n_lt, n_out, n_div, n_dm, n_eq, n_toN, n_inN, n_ltN, n_nltN, n_neN, Nat.not_lt_zero, false_or, or_false, ite_y, ite_n, if_true, if_false, ite_tt, ite_ff, b_0, b_1, eq_self_iff_true, Bool.true_eq_false, Bool.false_eq_true]
    | true =>
      obtain ⟨k, hk, rfl⟩ := inr_ex (by omega) (Bool.and_eq_true_iff.mp hb).2
      have hdk := vd k hk
      obtain ⟨I', f1, f2, f3⟩ := c_isHad (X := X) (d := 14) (L := L) h v hr (by omega)
      refine Both.mk (bI (!(pyF w r (w 4) (w (78 + k))))) I' (K_X10_dodges.e X 14 _ _ I L _ ?_) f2 (fun J L2 hJ => ?_)
      · simp (disch := omega) only [c_hasRider h v, c_hasDay h v, ha, hb, f1, c_fineSum f3 v, f3.2.2.2.2 k hk, c_pays f3 v, a_bi_i, a_bv_n, a_bl_l, a_bq_q, l_0, l_1, l_2, l_3, l_4, l_5, l_6, l_7, l_8, l_9, l_10, l_12, l_16, l_20, l_24, l_25, l_31, l_32, l_33, l_40, l_48, l_57, l_60, l_63, l_64, l_78, l_85, l_97, l_99, l_100, l_122, l_255, l_325, l_700, l_999, l_1000, l_1200, l_99999, l_100000, l_1000000, l_2000000000, l_N, n_add, n_mul, n_lt, n_out, n_div, n_dm, n_eq, n_toN, n_inN, n_ltN, n_nltN, n_neN, Nat.not_lt_zero, false_or, or_false, ite_y, ite_n, if_true, if_false, ite_tt, ite_ff, b_0, b_1, eq_self_iff_true, Bool.true_eq_false, Bool.false_eq_true]
        cases pyF w r (w 4) (w (78 + k)) <;> rfl
      · obtain ⟨J', g1, g2, g3⟩ := m_pays (X := X) (d := 14) (L := L2) (o := w (78 + k)) hJ v hr h4 hdk (by omega)
        refine ⟨J', K_X11_dodges.e X 14 _ _ J L2 _ ?_, g2⟩
        simp (disch := omega) only [m_isRider hJ v, m_isDay hJ v, ha, hb, hJ 4 (by decide), hJ (78 + k) (by omega), g1, a_bi_i, a_bv_n, a_bl_l, a_bq_q, l_0, l_1, l_2, l_3, l_4, l_5, l_6, l_7, l_8, l_9, l_10, l_12, l_16, l_20, l_24, l_25, l_31, l_32, l_33, l_40, l_48, l_57, l_60, l_63, l_64, l_78, l_85, l_97, l_99, l_100, l_122, l_255, l_325, l_700, l_999, l_1000, l_1200, l_99999, l_100000, l_1000000, l_2000000000, l_N, n_add, n_mul, n_lt, n_out, n_div, n_dm, n_eq, n_toN, n_inN, n_ltN, n_nltN, n_neN, Nat.not_lt_zero, false_or, or_false, ite_y, ite_n, if_true, if_false, ite_tt, ite_ff, b_0, b_1, eq_self_iff_true, Bool.true_eq_false, Bool.false_eq_true]
        cases pyF w r (w 4) (w (78 + k)) <;> rfl
def wkF (w : TW) (r : Nat) : Nat → Nat
  | 0 => 0
  | k + 1 => wkF w r k + min (100 * w 3) (if (had0 w r).isSome = true then w 4 * w (78 + k) else 0)
theorem q_week (h : TC I w) (v : Vw w) (a : Int32) : Both w (K_X10_week X 15 a) (K_X11_week X 15 a) I L := by
  obtain ⟨⟨h0, h1, h2, h3, h4, h5, h6, -⟩, -, vc, vi, vr, vd⟩ := id v
  cases ha : inr a (w 6) with
  | false =>
    refine Both.pure (-2) (K_X10_week.e X 14 a I L _ ?_) (fun J L2 h => K_X11_week.e X 14 a J L2 _ ?_)
    · simp (disch := omega) only [c_hasRider h v, ha, a_bi_i, a_bv_n, a_bl_l, a_bq_q, l_0, l_1, l_2, l_3, l_4, l_5, l_6, l_7, l_8, l_9, l_10, l_12, l_16, l_20, l_24, l_25, l_31, l_32, l_33, l_40, l_48, l_57, l_60, l_63, l_64, l_78, l_85, l_97, l_99, l_100, l_122, l_255, l_325, l_700, l_999, l_1000, l_1200, l_99999, l_100000, l_1000000, l_2000000000, l_N, n_add, n_mul, n_lt, n_out, n_div, n_dm, n_eq, n_toN, n_inN, n_ltN, n_nltN, n_neN, Nat.not_lt_zero, false_or, or_false, ite_y, ite_n, if_true, if_false, ite_tt, ite_ff, b_0, b_1, eq_self_iff_true, Bool.true_eq_false, Bool.false_eq_true]
    · simp (disch := omega) only [m_isRider h v, ha, a_bi_i, a_bv_n, a_bl_l, a_bq_q, l_0, l_1, l_2, l_3, l_4, l_5, l_6, l_7, l_8, l_9, l_10, l_12, l_16, l_20, l_24, l_25, l_31, l_32, l_33, l_40, l_48, l_57, l_60, l_63, l_64, l_78, l_85, l_97, l_99, l_100, l_122, l_255, l_325, l_700, l_999, l_1000, l_1200, l_99999, l_100000, l_1000000, l_2000000000, l_N, n_add, n_mul, n_lt, n_out, n_div, n_dm, n_eq, n_toN, n_inN, n_ltN, n_nltN, n_neN, Nat.not_lt_zero, false_or, or_false, ite_y, ite_n, if_true, if_false, ite_tt, ite_ff, b_0, b_1, eq_self_iff_true, Bool.true_eq_false, Bool.false_eq_true]
  | true =>
    obtain ⟨r, hr, rfl⟩ := inr_ex (by omega) ha
    have mn : ∀ (x y : Nat), (if y < x then nI y else nI x) = nI (min x y) := fun x y => by
      by_cases q : y < x
      · rw [if_pos q, Nat.min_eq_right (by omega)]
      · rw [if_neg q, Nat.min_eq_left (by omega)]
    obtain ⟨I', f1, f2, f3⟩ := c_isHad (X := X) (d := 14) (L := L) h v hr (by omega)
    obtain ⟨x, x1, x2⟩ := loop_z (F := fun k (x : Int32) => v_X10_week_25 X 14 (bI (had0 w r).isSome) x (nI k) (I', L, ())) (P := fun k x => x = nI (wkF w r k)) 7 (nI 0) rfl (fun k x hk hP => by
      subst hP
      have hdk := vd k hk
      have hmm := mul_small h4 hdk
      refine ⟨_, rfl, fun z hz => ?_⟩
      refine v_X10_week_25.e X 14 _ _ _ I' L z ?_
      unfold wkF at hz
      cases hq : (had0 w r).isSome with
      | false =>
        rw [hq] at hz
        simp (disch := omega) only [c_fare f3 v, c_min, mn, a_bi_i, a_bv_n, a_bl_l, a_bq_q, l_0, l_1, l_2, l_3, l_4, l_5, l_6, l_7, l_8, l_9, l_10, l_12, l_16, l_20, l_24, l_25, l_31, l_32, l_33, l_40, l_48, l_57, l_60, l_63, l_64, l_78, l_85, l_97, l_99, l_100, l_122, l_255, l_325, l_700, l_999, l_1000, l_1200, l_99999, l_100000, l_1000000, l_2000000000, l_N, n_add, n_mul, n_lt, n_out, n_div, n_dm, n_eq, n_toN, n_inN, n_ltN, n_nltN, n_neN, Nat.not_lt_zero, false_or, or_false, ite_y, ite_n, if_true, if_false, ite_tt, ite_ff, b_0, b_1, eq_self_iff_true, Bool.true_eq_false, Bool.false_eq_true] at hz ⊢
        exact hz
      | true =>
        rw [hq] at hz
        simp (disch := omega) only [c_fare f3 v, c_fineSum f3 v, f3.2.2.2.2 k hk, c_min, mn, a_bi_i, a_bv_n, a_bl_l, a_bq_q, l_0, l_1, l_2, l_3, l_4, l_5, l_6, l_7, l_8, l_9, l_10, l_12, l_16, l_20, l_24, l_25, l_31, l_32, l_33, l_40, l_48, l_57, l_60, l_63, l_64, l_78, l_85, l_97, l_99, l_100, l_122, l_255, l_325, l_700, l_999, l_1000, l_1200, l_99999, l_100000, l_1000000, l_2000000000, l_N, n_add, n_mul, n_lt, n_out, n_div, n_dm, n_eq, n_toN, n_inN, n_ltN, n_nltN, n_neN, Nat.not_lt_zero, false_or, or_false, ite_y, ite_n, if_true, if_false, ite_tt, ite_ff, b_0, b_1, eq_self_iff_true, Bool.true_eq_false, Bool.false_eq_true] at hz ⊢
        exact hz)
    refine Both.mk (nI (wkF w r 7)) I' (K_X10_week.e X 14 _ I L _ ?_) f2 (fun J L2 hJ => ?_)
    · simp (disch := omega) only [c_hasRider h v, ha, f1, a_bi_i, a_bv_n, a_bl_l, a_bq_q, l_0, l_1, l_2, l_3, l_4, l_5, l_6, l_7, l_8, l_9, l_10, l_12, l_16, l_20, l_24, l_25, l_31, l_32, l_33, l_40, l_48, l_57, l_60, l_63, l_64, l_78, l_85, l_97, l_99, l_100, l_122, l_255, l_325, l_700, l_999, l_1000, l_1200, l_99999, l_100000, l_1000000, l_2000000000, l_N, n_add, n_mul, n_lt, n_out, n_div, n_dm, n_eq, n_toN, n_inN, n_ltN, n_nltN, n_neN, Nat.not_lt_zero, false_or, or_false, ite_y, ite_n, if_true, if_false, ite_tt, ite_ff, b_0, b_1, eq_self_iff_true, Bool.true_eq_false, Bool.false_eq_true]
      refine x2 _ (v_X10_week_25.e X 14 _ _ _ I' L _ ?_)
      simp (disch := omega) only [a_bi_i, a_bv_n, a_bl_l, a_bq_q, l_0, l_1, l_2, l_3, l_4, l_5, l_6, l_7, l_8, l_9, l_10, l_12, l_16, l_20, l_24, l_25, l_31, l_32, l_33, l_40, l_48, l_57, l_60, l_63, l_64, l_78, l_85, l_97, l_99, l_100, l_122, l_255, l_325, l_700, l_999, l_1000, l_1200, l_99999, l_100000, l_1000000, l_2000000000, l_N, n_add, n_mul, n_lt, n_out, n_div, n_dm, n_eq, n_toN, n_inN, n_ltN, n_nltN, n_neN, Nat.not_lt_zero, false_or, or_false, ite_y, ite_n, if_true, if_false, ite_tt, ite_ff, b_0, b_1, eq_self_iff_true, Bool.true_eq_false, Bool.false_eq_true, x1]
    · obtain ⟨⟨x', K⟩, ⟨y1, y2, y3⟩, y4⟩ := loop_z (F := fun k (s : Int32 × A3 Int32) => v_X11_week_15 X 14 (nI r) s.1 (nI k) (s.2, L2, ())) (P := fun k s => s.1 = nI (wkF w r k) ∧ Sm J s.2 ∧ TM s.2 w) 7 (nI 0, J) ⟨rfl, Sm.refl, hJ⟩ (fun k s hk hP => by
        obtain ⟨x, K⟩ := s
        obtain ⟨p1, p2, p3⟩ := hP
        simp only at p1 p2 p3
        subst p1
        have hdk := vd k hk
        have hmm := mul_small h4 hdk
        obtain ⟨K', k1, k2, k3, -⟩ := m_hadOf (X := X) (d := 14) (L := L2) p3 v hr (by omega)
        refine ⟨(nI (wkF w r (k + 1)), K'), ⟨rfl, p2.trans k2, k3⟩, fun z hz => ?_⟩
        refine v_X11_week_15.e X 14 _ _ _ K L2 z ?_
        unfold wkF at hz
        cases hq : had0 w r with
        | none =>
          rw [hq] at hz k1
          simp (disch := omega) only [k1, oI, p3 3 (by decide), c_min, mn, Option.isSome_none, a_bi_i, a_bv_n, a_bl_l, a_bq_q, l_0, l_1, l_2, l_3, l_4, l_5, l_6, l_7, l_8, l_9, l_10, l_12, l_16, l_20, l_24, l_25, l_31, l_32, l_33, l_40, l_48, l_57, l_60, l_63, l_64, l_78, l_85, l_97, l_99, l_100, l_122, l_255, l_325, l_700, l_999, l_1000, l_1200, l_99999, l_100000, l_1000000, l_2000000000, l_N, n_add, n_mul, n_lt, n_out, n_div, n_dm, n_eq, n_toN, n_inN, n_ltN, n_nltN, n_neN, Nat.not_lt_zero, false_or, or_false, ite_y, ite_n, if_true, if_false, ite_tt, ite_ff, b_0, b_1, eq_self_iff_true, Bool.true_eq_false, Bool.false_eq_true] at hz ⊢
          exact hz
        | some m =>
          have := had_1000 v r m hq
          rw [hq] at hz k1
          simp (disch := omega) only [k1, oI, p3 3 (by decide), k3 4 (by decide), k3 (78 + k) (by omega), c_min, mn, Option.isSome_some, a_bi_i, a_bv_n, a_bl_l, a_bq_q, l_0, l_1, l_2, l_3, l_4, l_5, l_6, l_7, l_8, l_9, l_10, l_12, l_16, l_20, l_24, l_25, l_31, l_32, l_33, l_40, l_48, l_57, l_60, l_63, l_64, l_78, l_85, l_97, l_99, l_100, l_122, l_255, l_325, l_700, l_999, l_1000, l_1200, l_99999, l_100000, l_1000000, l_2000000000, l_N, n_add, n_mul, n_lt, n_out, n_div, n_dm, n_eq, n_toN, n_inN, n_ltN, n_nltN, n_neN, Nat.not_lt_zero, false_or, or_false, ite_y, ite_n, if_true, if_false, ite_tt, ite_ff, b_0, b_1, eq_self_iff_true, Bool.true_eq_false, Bool.false_eq_true] at hz ⊢
          exact hz)
      simp only at y1 y2 y3 y4
      refine ⟨K, K_X11_week.e X 14 _ J L2 _ ?_, y2⟩
      simp (disch := omega) only [m_isRider hJ v, ha, a_bi_i, a_bv_n, a_bl_l, a_bq_q, l_0, l_1, l_2, l_3, l_4, l_5, l_6, l_7, l_8, l_9, l_10, l_12, l_16, l_20, l_24, l_25, l_31, l_32, l_33, l_40, l_48, l_57, l_60, l_63, l_64, l_78, l_85, l_97, l_99, l_100, l_122, l_255, l_325, l_700, l_999, l_1000, l_1200, l_99999, l_100000, l_1000000, l_2000000000, l_N, n_add, n_mul, n_lt, n_out, n_div, n_dm, n_eq, n_toN, n_inN, n_ltN, n_nltN, n_neN, Nat.not_lt_zero, false_or, or_false, ite_y, ite_n, if_true, if_false, ite_tt, ite_ff, b_0, b_1, eq_self_iff_true, Bool.true_eq_false, Bool.false_eq_true]
      refine y4 _ (v_X11_week_15.e X 14 _ _ _ K L2 _ ?_)
      simp (disch := omega) only [a_bi_i, a_bv_n, a_bl_l, a_bq_q, l_0, l_1, l_2, l_3, l_4, l_5, l_6, l_7, l_8, l_9, l_10, l_12, l_16, l_20, l_24, l_25, l_31, l_32, l_33, l_40, l_48, l_57, l_60, l_63, l_64, l_78, l_85, l_97, l_99, l_100, l_122, l_255, l_325, l_700, l_999, l_1000, l_1200, l_99999, l_100000, l_1000000, l_2000000000, l_N, n_add, n_mul, n_lt, n_out, n_div, n_dm, n_eq, n_toN, n_inN, n_ltN, n_nltN, n_neN, Nat.not_lt_zero, false_or, or_false, ite_y, ite_n, if_true, if_false, ite_tt, ite_ff, b_0, b_1, eq_self_iff_true, Bool.true_eq_false, Bool.false_eq_true, y1]
end
