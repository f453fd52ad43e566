/-! drawn, trips -/
section
variable {X : AX} {d : Nat} {I J : A3 Int32} {L : A3 Int64} {w : TW}
theorem fnd_1000 (v : Vw w) {n r : Nat} : ∀ x, fnd (w 1) (hdB w n r) = some x → x < 1000 := fun x hx => by
  have := (fnd_some hx).1
  have := v.1.2.1
  omega
theorem q_drawn (h : TC I w) (v : Vw w) (a b : Int32) : Both w (K_X10_drawn X 15 a b) (K_X11_drawn X 15 a b) I L := by
  obtain ⟨⟨h0, h1, h2, h3, h4, h5, h6, -⟩, -⟩ := id v
  cases ha : inr a 2000000001 with
  | false =>
    refine Both.pure (-2) (K_X10_drawn.e X 14 a b I L _ ?_) (fun J L2 h => K_X11_drawn.e X 14 a b J L2 _ ?_)
    · simp (disch := omega) only [c_isSeed, ha, a_bi_i, a_bv_n, a_bl_l, a_bq_q, l_0, l_1, l_2, l_3, l_4, l_5, l_6, l_7, l_8, l_9, l_10, l_12, l_16, l_20, l_24, l_25, l_31, l_32, l_33, l_40, l_48, l_57, l_60, l_63, l_64, l_78, l_85, l_97, l_99, l_100, l_122, l_255, l_325, l_700, l_999, l_1000, l_1200, l_99999, l_100000, l_1000000, l_2000000000, l_N, n_add, n_mul, n_lt, n_out, n_div, n_dm, n_eq, n_toN, n_inN, n_ltN, n_nltN, n_neN, Nat.not_lt_zero, false_or, or_false, ite_y, ite_n, if_true, if_false, ite_tt, ite_ff, b_0, b_1, eq_self_iff_true, Bool.true_eq_false, Bool.false_eq_true]
    · simp (disch := omega) only [m_isSeed, ha, a_bi_i, a_bv_n, a_bl_l, a_bq_q, l_0, l_1, l_2, l_3, l_4, l_5, l_6, l_7, l_8, l_9, l_10, l_12, l_16, l_20, l_24, l_25, l_31, l_32, l_33, l_40, l_48, l_57, l_60, l_63, l_64, l_78, l_85, l_97, l_99, l_100, l_122, l_255, l_325, l_700, l_999, l_1000, l_1200, l_99999, l_100000, l_1000000, l_2000000000, l_N, n_add, n_mul, n_lt, n_out, n_div, n_dm, n_eq, n_toN, n_inN, n_ltN, n_nltN, n_neN, Nat.not_lt_zero, false_or, or_false, ite_y, ite_n, if_true, if_false, ite_tt, ite_ff, b_0, b_1, eq_self_iff_true, Bool.true_eq_false, Bool.false_eq_true]
  | true =>
    obtain ⟨n, hn, rfl⟩ := inr_ex (by omega) ha
    cases hb : inr b (w 6) with
    | false =>
      refine Both.pure (-2) (K_X10_drawn.e X 14 _ b I L _ ?_) (fun J L2 h => K_X11_drawn.e X 14 _ b J L2 _ ?_)
      · simp (disch := omega) only [c_isSeed, ha, c_hasRider h v, hb, a_bi_i, a_bv_n, a_bl_l, a_bq_q, l_0, l_1, l_2, l_3, l_4, l_5, l_6, l_7, l_8, l_9, l_10, l_12, l_16, l_20, l_24, l_25, l_31, l_32, l_33, l_40, l_48, l_57, l_60, l_63, l_64, l_78, l_85, l_97, l_99, l_100, l_122, l_255, l_325, l_700, l_999, l_1000, l_1200, l_99999, l_100000, l_1000000, l_2000000000, l_N, n_add, n_mul, n_lt, n_out, n_div, n_dm, n_eq, n_toN, n_inN, n_ltN, n_nltN, n_neN, Nat.not_lt_zero, false_or, or_false, ite_y, ite_n, if_true, if_false, ite_tt, ite_ff, b_0, b_1, eq_self_iff_true, Bool.true_eq_false, Bool.false_eq_true]
      · simp (disch := omega) only [m_isSeed, ha, m_isRider h v, hb, a_bi_i, a_bv_n, a_bl_l, a_bq_q, l_0, l_1, l_2, l_3, l_4, l_5, l_6, l_7, l_8, l_9, l_10, l_12, l_16, l_20, l_24, l_25, l_31, l_32, l_33, l_40, l_48, l_57, l_60, l_63, l_64, l_78, l_85, l_97, l_99, l_100, l_122, l_255, l_325, l_700, l_999, l_1000, l_1200, l_99999, l_100000, l_1000000, l_2000000000, l_N, n_add, n_mul, n_lt, n_out, n_div, n_dm, n_eq, n_toN, n_inN, n_ltN, n_nltN, n_neN, Nat.not_lt_zero, false_or, or_false, ite_y, ite_n, if_true, if_false, ite_tt, ite_ff, b_0, b_1, eq_self_iff_true, Bool.true_eq_false, Bool.false_eq_true]
    | true =>
      obtain ⟨r, hr, rfl⟩ := inr_ex (by omega) hb
      obtain ⟨J, f1, f2, f3, f4, f5⟩ := c_rideAll (X := X) (d := 14) (L := L) h v (by omega)
      obtain ⟨L', g1, g2⟩ := c_drawnMinute (X := X) (d := 14) (L := L) (n := n) (r := r) f3 v ⟨f4, fun r hr => (f5 r hr).1⟩ (by omega) hr (by omega)
      refine ⟨oI (fnd (w 1) (hdB w n r)), J, L', K_X10_drawn.e X 14 _ _ I L _ ?_, f2, g2, fun M L2 hM => ?_⟩
      · simp (disch := omega) only [c_isSeed, ha, c_hasRider h v, hb, f1, g1, a_bi_i, a_bv_n, a_bl_l, a_bq_q, l_0, l_1, l_2, l_3, l_4, l_5, l_6, l_7, l_8, l_9, l_10, l_12, l_16, l_20, l_24, l_25, l_31, l_32, l_33, l_40, l_48, l_57, l_60, l_63, l_64, l_78, l_85, l_97, l_99, l_100, l_122, l_255, l_325, l_700, l_999, l_1000, l_1200, l_99999, l_100000, l_1000000, l_2000000000, l_N, n_add, n_mul, n_lt, n_out, n_div, n_dm, n_eq, n_toN, n_inN, n_ltN, n_nltN, n_neN, Nat.not_lt_zero, false_or, or_false, ite_y, ite_n, if_true, if_false, ite_tt, ite_ff, b_0, b_1, eq_self_iff_true, Bool.true_eq_false, Bool.false_eq_true]
      · obtain ⟨M', m1, m2, m3, m4⟩ := m_goDrawn (X := X) (d := 14) (L := L2) (n := n) hM v (by omega) (by omega)
        refine ⟨M', K_X11_drawn.e X 14 _ _ M L2 _ ?_, m2⟩
        rw [q_nI (by omega)]
        simp (disch := omega) only [m_isSeed, ha, m_isRider hM v, hb, m1, m4, a_bi_i, a_bv_n, a_bl_l, a_bq_q, l_0, l_1, l_2, l_3, l_4, l_5, l_6, l_7, l_8, l_9, l_10, l_12, l_16, l_20, l_24, l_25, l_31, l_32, l_33, l_40, l_48, l_57, l_60, l_63, l_64, l_78, l_85, l_97, l_99, l_100, l_122, l_255, l_325, l_700, l_999, l_1000, l_1200, l_99999, l_100000, l_1000000, l_2000000000, l_N, n_add, n_mul, n_lt, n_out, n_div, n_dm, n_eq, n_toN, n_inN, n_ltN, n_nltN, n_neN, Nat.not_lt_zero, false_or, or_false, ite_y, ite_n, if_true, if_false, ite_tt, ite_ff, b_0, b_1, eq_self_iff_true, Bool.true_eq_false, Bool.false_eq_true]
theorem m_in20 {a : Int32} (hd : 1 ≤ d) : K_X11_in X d a.toInt64 (1 : Int64) (20 : Int64) (I, L, ()) = some (some (aI (bI (decide (¬ a < nI 1 ∧ ¬ nI 20 < a)))), (I, L, ())) := by
  rw [m_in hd]
  unfold inL
  congr 4
  refine congrArg bI ?_
  rw [decide_eq_decide, Int32.toInt_toInt64, Int32.lt_iff_toInt_lt, Int32.lt_iff_toInt_lt, n_toInt (by decide), n_toInt (by decide)]
  show ((1 : Int) ≤ a.toInt ∧ a.toInt ≤ 20) ↔ _
  omega
def trC (w : TW) (n r i : Nat) : Bool := (fnd (w 1) (hdB w (n + i) r)).isSome
theorem q_trips (h : TC I w) (v : Vw w) (a b c : Int32) : Both w (K_X10_trips X 15 a b c) (K_X11_trips X 15 a b c) I L := by
  obtain ⟨⟨h0, h1, h2, h3, h4, h5, h6, -⟩, -⟩ := id v
  cases ha : inr a 2000000001 with
  | false =>
    refine Both.pure (-2) (K_X10_trips.e X 14 a b c I L _ ?_) (fun J L2 h => K_X11_trips.e X 14 a b c J L2 _ ?_)
    · simp (disch := omega) only [c_isSeed, ha, a_bi_i, a_bv_n, a_bl_l, a_bq_q, l_0, l_1, l_2, l_3, l_4, l_5, l_6, l_7, l_8, l_9, l_10, l_12, l_16, l_20, l_24, l_25, l_31, l_32, l_33, l_40, l_48, l_57, l_60, l_63, l_64, l_78, l_85, l_97, l_99, l_100, l_122, l_255, l_325, l_700, l_999, l_1000, l_1200, l_99999, l_100000, l_1000000, l_2000000000, l_N, n_add, n_mul, n_lt, n_out, n_div, n_dm, n_eq, n_toN, n_inN, n_ltN, n_nltN, n_neN, Nat.not_lt_zero, false_or, or_false, ite_y, ite_n, if_true, if_false, ite_tt, ite_ff, b_0, b_1, eq_self_iff_true, Bool.true_eq_false, Bool.false_eq_true]
    · simp (disch := omega) only [m_isSeed, ha, a_bi_i, a_bv_n, a_bl_l, a_bq_q, l_0, l_1, l_2, l_3, l_4, l_5, l_6, l_7, l_8, l_9, l_10, l_12, l_16, l_20, l_24, l_25, l_31, l_32, l_33, l_40, l_48, l_57, l_60, l_63, l_64, l_78, l_85, l_97, l_99, l_100, l_122, l_255, l_325, l_700, l_999, l_1000, l_1200, l_99999, l_100000, l_1000000, l_2000000000, l_N, n_add, n_mul, n_lt, n_out, n_div, n_dm, n_eq, n_toN, n_inN, n_ltN, n_nltN, n_neN, Nat.not_lt_zero, false_or, or_false, ite_y, ite_n, if_true, if_false, ite_tt, ite_ff, b_0, b_1, eq_self_iff_true, Bool.true_eq_false, Bool.false_eq_true]
  | true =>
    obtain ⟨n, hn, rfl⟩ := inr_ex (by omega) ha
    cases hc : inr c (w 6) with
    | false =>
      refine Both.pure (-2) (K_X10_trips.e X 14 _ b c I L _ ?_) (fun J L2 h => K_X11_trips.e X 14 _ b c J L2 _ ?_)
      · simp (disch := omega) only [c_isSeed, ha, c_hasRider h v, hc, a_bi_i, a_bv_n, a_bl_l, a_bq_q, l_0, l_1, l_2, l_3, l_4, l_5, l_6, l_7, l_8, l_9, l_10, l_12, l_16, l_20, l_24, l_25, l_31, l_32, l_33, l_40, l_48, l_57, l_60, l_63, l_64, l_78, l_85, l_97, l_99, l_100, l_122, l_255, l_325, l_700, l_999, l_1000, l_1200, l_99999, l_100000, l_1000000, l_2000000000, l_N, n_add, n_mul, n_lt, n_out, n_div, n_dm, n_eq, n_toN, n_inN, n_ltN, n_nltN, n_neN, Nat.not_lt_zero, false_or, or_false, ite_y, ite_n, if_true, if_false, ite_tt, ite_ff, b_0, b_1, eq_self_iff_true, Bool.true_eq_false, Bool.false_eq_true]
      · simp (disch := omega) only [m_isSeed, ha, m_in20, m_isRider h v, hc, a_bi_i, a_bv_n, a_bl_l, a_bq_q, l_0, l_1, l_2, l_3, l_4, l_5, l_6, l_7, l_8, l_9, l_10, l_12, l_16, l_20, l_24, l_25, l_31, l_32, l_33, l_40, l_48, l_57, l_60, l_63, l_64, l_78, l_85, l_97, l_99, l_100, l_122, l_255, l_325, l_700, l_999, l_1000, l_1200, l_99999, l_100000, l_1000000, l_2000000000, l_N, n_add, n_mul, n_lt, n_out, n_div, n_dm, n_eq, n_toN, n_inN, n_ltN, n_nltN, n_neN, Nat.not_lt_zero, false_or, or_false, ite_y, ite_n, if_true, if_false, ite_tt, ite_ff, b_0, b_1, eq_self_iff_true, Bool.true_eq_false, Bool.false_eq_true]
        split <;> rfl
    | true =>
      obtain ⟨r, hr, rfl⟩ := inr_ex (by omega) hc
      by_cases hb : ¬ b < nI 1 ∧ ¬ nI 20 < b
      · obtain ⟨i, hi, rfl⟩ : ∃ i, (1 ≤ i ∧ i ≤ 20) ∧ b = nI i := by
          obtain ⟨k, hk, rfl⟩ := n_ex (x := b) (fun z => hb.1 (by
            rw [Int32.lt_iff_toInt_lt, n_toInt (by decide)]
            rw [show (0 : Int32) = nI 0 from rfl, Int32.lt_iff_toInt_lt, n_toInt (by decide)] at z
            omega))
          rw [n_lt hk (by decide), n_lt (by decide) hk] at hb
          exact ⟨k, by omega, rfl⟩
        have i1 : ¬ i < 1 := by omega
        have i2 : ¬ 20 < i := by omega
        obtain ⟨J, f1, f2, f3, f4, f5⟩ := c_rideAll (X := X) (d := 14) (L := L) h v (by omega)
        obtain ⟨L', g1, g2⟩ := loop_z (F := fun k (K : A3 Int64) => v_X10_trips_42 X 14 (nI n) (nI i) (nI r) (nI (cnt k (trC w n r))) (nI k) (J, K, ())) (P := fun _ K => LF L K) i L LF.refl (fun k K hk hK => by
          obtain ⟨K', a1, a2⟩ := c_drawnMinute (X := X) (d := 14) (L := K) (n := n + k) (r := r) f3 v ⟨f4, fun r hr => (f5 r hr).1⟩ (by omega) hr (by omega)
          refine ⟨K', hK.trans a2, fun s hs => v_X10_trips_42.e X 14 _ _ _ _ _ J K s ?_⟩
          rw [cnt] at hs
          have nn := oI_none (o := fnd (w 1) (hdB w (n + k) r)) (fnd_1000 v)
          simp (disch := omega) only [a1, a_bi_i, a_bv_n, a_bl_l, a_bq_q, l_0, l_1, l_2, l_3, l_4, l_5, l_6, l_7, l_8, l_9, l_10, l_12, l_16, l_20, l_24, l_25, l_31, l_32, l_33, l_40, l_48, l_57, l_60, l_63, l_64, l_78, l_85, l_97, l_99, l_100, l_122, l_255, l_325, l_700, l_999, l_1000, l_1200, l_99999, l_100000, l_1000000, l_2000000000, l_N, n_add, n_mul, n_lt, n_out, n_div, n_dm, n_eq, n_toN, n_inN, n_ltN, n_nltN, n_neN, Nat.not_lt_zero, false_or, or_false, ite_y, ite_n, if_true, if_false, ite_tt, ite_ff, b_0, b_1, eq_self_iff_true, Bool.true_eq_false, Bool.false_eq_true]
          unfold trC at hs
          cases ho : fnd (w 1) (hdB w (n + k) r) with
          | none => rw [ho] at hs; simp only [oI, if_true, Option.isSome, Bool.false_eq_true, if_false] at hs ⊢; exact hs
          | some y =>
            rw [ho] at hs nn
            rw [if_neg (fun z => by cases nn.mp z)]
            exact hs)
        refine ⟨nI (cnt i (trC w n r)), J, L', K_X10_trips.e X 14 _ _ _ I L _ ?_, f2, g1, fun M L2 hM => ?_⟩
        · simp (disch := omega) only [c_isSeed, ha, c_hasRider h v, hc, f1, i1, i2, a_bi_i, a_bv_n, a_bl_l, a_bq_q, l_0, l_1, l_2, l_3, l_4, l_5, l_6, l_7, l_8, l_9, l_10, l_12, l_16, l_20, l_24, l_25, l_31, l_32, l_33, l_40, l_48, l_57, l_60, l_63, l_64, l_78, l_85, l_97, l_99, l_100, l_122, l_255, l_325, l_700, l_999, l_1000, l_1200, l_99999, l_100000, l_1000000, l_2000000000, l_N, n_add, n_mul, n_lt, n_out, n_div, n_dm, n_eq, n_toN, n_inN, n_ltN, n_nltN, n_neN, Nat.not_lt_zero, false_or, or_false, ite_y, ite_n, if_true, if_false, ite_tt, ite_ff, b_0, b_1, eq_self_iff_true, Bool.true_eq_false, Bool.false_eq_true]
          refine g2 _ (v_X10_trips_42.e X 14 _ _ _ _ _ J L' _ ?_)
          simp (disch := omega) only [Nat.lt_irrefl, a_bi_i, a_bv_n, a_bl_l, a_bq_q, l_0, l_1, l_2, l_3, l_4, l_5, l_6, l_7, l_8, l_9, l_10, l_12, l_16, l_20, l_24, l_25, l_31, l_32, l_33, l_40, l_48, l_57, l_60, l_63, l_64, l_78, l_85, l_97, l_99, l_100, l_122, l_255, l_325, l_700, l_999, l_1000, l_1200, l_99999, l_100000, l_1000000, l_2000000000, l_N, n_add, n_mul, n_lt, n_out, n_div, n_dm, n_eq, n_toN, n_inN, n_ltN, n_nltN, n_neN, Nat.not_lt_zero, false_or, or_false, ite_y, ite_n, if_true, if_false, ite_tt, ite_ff, b_0, b_1, eq_self_iff_true, Bool.true_eq_false, Bool.false_eq_true]
        · obtain ⟨M', d1, d2⟩ := loop_z (F := fun k (K : A3 Int32) => v_X11_trips_36 X 14 (nI n) (nI i) (nI r) (nI (cnt k (trC w n r))) (nI k) (K, L2, ())) (P := fun _ K => Sm M K) i M Sm.refl (fun k K hk hK => by
            obtain ⟨K', a1, a2, a3, a4⟩ := m_goDrawn (X := X) (d := 14) (L := L2) (n := n + k) (hM.sm hK) v (by omega) (by omega)
            refine ⟨K', hK.trans a2, fun s hs => v_X11_trips_36.e X 14 _ _ _ _ _ K L2 s ?_⟩
            rw [cnt] at hs
            have nn := oI_none (o := fnd (w 1) (hdB w (n + k) r)) (fnd_1000 v)
            rw [q_nI (by omega), q_nI (by omega), q_add]
            simp (disch := omega) only [a1, a4, a_bi_i, a_bv_n, a_bl_l, a_bq_q, l_0, l_1, l_2, l_3, l_4, l_5, l_6, l_7, l_8, l_9, l_10, l_12, l_16, l_20, l_24, l_25, l_31, l_32, l_33, l_40, l_48, l_57, l_60, l_63, l_64, l_78, l_85, l_97, l_99, l_100, l_122, l_255, l_325, l_700, l_999, l_1000, l_1200, l_99999, l_100000, l_1000000, l_2000000000, l_N, n_add, n_mul, n_lt, n_out, n_div, n_dm, n_eq, n_toN, n_inN, n_ltN, n_nltN, n_neN, Nat.not_lt_zero, false_or, or_false, ite_y, ite_n, if_true, if_false, ite_tt, ite_ff, b_0, b_1, eq_self_iff_true, Bool.true_eq_false, Bool.false_eq_true]
            unfold trC at hs
            cases ho : fnd (w 1) (hdB w (n + k) r) with
            | none => rw [ho] at hs; simp only [oI, if_true, Option.isSome, Bool.false_eq_true, if_false] at hs ⊢; exact hs
            | some y =>
              rw [ho] at hs nn
              rw [if_neg (fun z => by cases nn.mp z)]
              exact hs)
          refine ⟨M', K_X11_trips.e X 14 _ _ _ M L2 _ ?_, d1⟩
          have e20 : decide (¬ nI i < nI 1 ∧ ¬ nI 20 < nI i) = true := decide_eq_true hb
          simp (disch := omega) only [m_isSeed, ha, m_in20, e20, m_isRider hM v, hc, a_bi_i, a_bv_n, a_bl_l, a_bq_q, l_0, l_1, l_2, l_3, l_4, l_5, l_6, l_7, l_8, l_9, l_10, l_12, l_16, l_20, l_24, l_25, l_31, l_32, l_33, l_40, l_48, l_57, l_60, l_63, l_64, l_78, l_85, l_97, l_99, l_100, l_122, l_255, l_325, l_700, l_999, l_1000, l_1200, l_99999, l_100000, l_1000000, l_2000000000, l_N, b_0, Bool.true_eq_false, if_false]
          refine d2 _ (v_X11_trips_36.e X 14 _ _ _ _ _ M' L2 _ ?_)
          simp (disch := omega) only [Nat.lt_irrefl, a_bi_i, a_bv_n, a_bl_l, a_bq_q, l_0, l_1, l_2, l_3, l_4, l_5, l_6, l_7, l_8, l_9, l_10, l_12, l_16, l_20, l_24, l_25, l_31, l_32, l_33, l_40, l_48, l_57, l_60, l_63, l_64, l_78, l_85, l_97, l_99, l_100, l_122, l_255, l_325, l_700, l_999, l_1000, l_1200, l_99999, l_100000, l_1000000, l_2000000000, l_N, n_add, n_mul, n_lt, n_out, n_div, n_dm, n_eq, n_toN, n_inN, n_ltN, n_nltN, n_neN, Nat.not_lt_zero, false_or, or_false, ite_y, ite_n, if_true, if_false, ite_tt, ite_ff, b_0, b_1, eq_self_iff_true, Bool.true_eq_false, Bool.false_eq_true]
      · refine Both.pure (-2) (K_X10_trips.e X 14 _ b _ I L _ ?_) (fun J L2 h => K_X11_trips.e X 14 _ b _ J L2 _ ?_)
        · by_cases c1 : b < nI 1
          · simp (disch := omega) only [c_isSeed, ha, c_hasRider h v, hc, c1, a_bi_i, a_bv_n, a_bl_l, a_bq_q, l_0, l_1, l_2, l_3, l_4, l_5, l_6, l_7, l_8, l_9, l_10, l_12, l_16, l_20, l_24, l_25, l_31, l_32, l_33, l_40, l_48, l_57, l_60, l_63, l_64, l_78, l_85, l_97, l_99, l_100, l_122, l_255, l_325, l_700, l_999, l_1000, l_1200, l_99999, l_100000, l_1000000, l_2000000000, l_N, n_add, n_mul, n_lt, n_out, n_div, n_dm, n_eq, n_toN, n_inN, n_ltN, n_nltN, n_neN, Nat.not_lt_zero, false_or, or_false, ite_y, ite_n, if_true, if_false, ite_tt, ite_ff, b_0, b_1, eq_self_iff_true, Bool.true_eq_false, Bool.false_eq_true]
          · have c2 : nI 20 < b := by
              by_cases z : nI 20 < b
              · exact z
              · exact absurd ⟨c1, z⟩ hb
            simp (disch := omega) only [c_isSeed, ha, c_hasRider h v, hc, c1, c2, a_bi_i, a_bv_n, a_bl_l, a_bq_q, l_0, l_1, l_2, l_3, l_4, l_5, l_6, l_7, l_8, l_9, l_10, l_12, l_16, l_20, l_24, l_25, l_31, l_32, l_33, l_40, l_48, l_57, l_60, l_63, l_64, l_78, l_85, l_97, l_99, l_100, l_122, l_255, l_325, l_700, l_999, l_1000, l_1200, l_99999, l_100000, l_1000000, l_2000000000, l_N, n_add, n_mul, n_lt, n_out, n_div, n_dm, n_eq, n_toN, n_inN, n_ltN, n_nltN, n_neN, Nat.not_lt_zero, false_or, or_false, ite_y, ite_n, if_true, if_false, ite_tt, ite_ff, b_0, b_1, eq_self_iff_true, Bool.true_eq_false, Bool.false_eq_true]
        · simp (disch := omega) only [m_isSeed, ha, m_in20, decide_eq_false hb, a_bi_i, a_bv_n, a_bl_l, a_bq_q, l_0, l_1, l_2, l_3, l_4, l_5, l_6, l_7, l_8, l_9, l_10, l_12, l_16, l_20, l_24, l_25, l_31, l_32, l_33, l_40, l_48, l_57, l_60, l_63, l_64, l_78, l_85, l_97, l_99, l_100, l_122, l_255, l_325, l_700, l_999, l_1000, l_1200, l_99999, l_100000, l_1000000, l_2000000000, l_N, b_0, Bool.true_eq_false, if_false, if_true]
end
