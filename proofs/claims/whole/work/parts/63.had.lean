/-! both catch alike; where, had, by, walks -/
theorem farF_0 {S : Nat → Bool} {N c : Nat} (hc : c < N) (hS : S c = true) : farF S N c = 0 := by
  unfold farF
  cases h : nr S c N with
  | none => rfl
  | some x =>
    obtain ⟨h1, h2, h3⟩ := nr_some h
    have := h3 c hc hS
    rw [dist_self] at this
    show dist x c = 0
    omega
theorem plF_far {w : TW} {S : Nat → Bool} {c : Nat} : ∀ k, plF w S c k = c ∨ farF S (w 0) c < farF S (w 0) (plF w S c k) := by
  intro k
  induction k with
  | zero => exact Or.inl rfl
  | succ k ih =>
    rw [plF]
    split
    · rename_i h
      rcases ih with q | q
      · rw [q] at h; exact Or.inr h.2
      · exact Or.inr (by omega)
    · exact ih
theorem goF_dist {w : TW} {S : Nat → Bool} {se m : Nat} {p : Nat × Bool} : (goF w S 1 se m p).1 = p.1 ∨ dist p.1 (goF w S 1 se m p).1 = 1 := by
  unfold goF
  rw [if_pos rfl]
  split
  · split
    · split
      · right; show dist p.1 (p.1 + 1) = 1; unfold dist; omega
      · exact Or.inl rfl
    · split
      · right; show dist p.1 (p.1 - 1) = 1; unfold dist; omega
      · exact Or.inl rfl
  · exact Or.inl rfl
theorem met_eq {w : TW} (v : Vw w) {n r rule : Nat} {ps : Nat → Nat → Option Nat} {kn : Nat → Nat} (hr : r < w 6) (hru : rule ≤ 3) {i m : Nat} (hi : i < n) : metC ps kn (plc w n ps r rule) i m = metM ps kn rule (plc w n ps r rule) i m := by
  have hok := plc_ok v hr (n := n) (ps := ps) (rule := rule)
  unfold metC metM
  cases hl : (plc w n ps r rule m).2 with
  | true =>
    have h2 := ((hok m).2 hl).1
    have h1 : ¬ rule = 1 := by omega
    simp only [if_true, Bool.not_true, Bool.false_or, h1, false_and, and_false, decide_false, Bool.false_and, Bool.or_false]
    exact Bool.and_comm _ _
  | false =>
    simp only [Bool.false_eq_true, if_false, Bool.not_false, Bool.true_or, Bool.and_true]
    congr 1
    cases m with
    | zero => simp
    | succ m =>
      have hst : plc w n ps r rule (m + 1) = goF w (gA n ps m) rule (w (50 + 5 * r)) m (plc w n ps r rule m) := rfl
      rw [show m + 1 - 1 = m by omega]
      by_cases hr1 : rule = 1
      · subst hr1
        congr 1
        rw [decide_eq_decide]
        have hd := goF_dist (w := w) (S := gA n ps m) (se := w (50 + 5 * r)) (m := m) (p := plc w n ps r 1 m)
        rw [← hst] at hd
        constructor
        · rintro ⟨q1, q2⟩
          refine ⟨q1, rfl, fun q => ?_⟩
          rw [q, dist_self] at q2
          omega
        · rintro ⟨q1, -, q2⟩
          rcases hd with q | q
          · exact absurd q.symm q2
          · exact ⟨q1, q⟩
      · simp only [hr1, false_and, and_false, decide_false, Bool.false_and]
        cases hq : (decide (0 < m + 1 ∧ dist (plc w n ps r rule m).1 (plc w n ps r rule (m + 1)).1 = 1) && (decide (ps i m = some (plc w n ps r rule (m + 1)).1) && decide (ps i (m + 1) = some (plc w n ps r rule m).1))) with
        | false => rfl
        | true =>
          exfalso
          obtain ⟨q1, q2⟩ := Bool.and_eq_true_iff.mp hq
          obtain ⟨q2, -⟩ := Bool.and_eq_true_iff.mp q2
          have q1 := (of_decide_eq_true q1).2
          have q2 := of_decide_eq_true q2
          have same : (plc w n ps r rule (m + 1)).1 = (plc w n ps r rule m).1 → False := fun q => by rw [q, dist_self] at q1; omega
          rcases (show rule = 0 ∨ rule = 2 ∨ rule = 3 by omega) with rfl | rfl | rfl
          · exact same (by rw [hst]; rfl)
          · exact same (by rw [hst]; rfl)
          · rw [goF_3] at hst
            split at hst
            · have h1 := (hok (m + 1)).1
              rw [hst] at h1 q2 same
              have h2 := farF_0 h1 (gA_iff.mpr ⟨i, hi, q2⟩)
              rcases plF_far (w := w) (S := gA n ps m) (c := (plc w n ps r 3 m).1) (w 0) with q | q
              · exact same q
              · simp only at h2; omega
            · exact same (by rw [hst])
theorem hadF_congr {T n : Nat} {f g : Nat → Nat → Bool} (h : ∀ k, k < n → ∀ m, f k m = g k m) : hadF T n f = hadF T n g := fnd_eq fun m _ => by rw [fnd_eq fun k hk => h k hk m]
theorem byF_congr {T n : Nat} {f g : Nat → Nat → Bool} (h : ∀ k, k < n → ∀ m, f k m = g k m) : byF T n f = byF T n g := by
  unfold byF
  rw [hadF_congr h]
  split
  · exact fnd_eq fun k hk => h k hk _
  · rfl
/-- a rider's trip, when he is had, by which -/
def trp (w : TW) (r : Nat) : Nat → Nat × Bool := plc w (w 5) (psA w) r (w (49 + 5 * r))
def had0 (w : TW) (r : Nat) : Option Nat := hadF (w 1) (w 5) (metM (psA w) (knA w) (w (49 + 5 * r)) (trp w r))
def by0 (w : TW) (r : Nat) : Option Nat := byF (w 1) (w 5) (metM (psA w) (knA w) (w (49 + 5 * r)) (trp w r))
theorem had0_lt {w : TW} {r m : Nat} (h : had0 w r = some m) : m < w 1 := hadF_lt h
section
variable {X : AX} {d : Nat} {I : A3 Int32} {L : A3 Int64} {w : TW}
theorem trp_lt (v : Vw w) {r : Nat} (hr : r < w 6) (m : Nat) : (trp w r m).1 < w 0 := (plc_ok v hr m).1
theorem trp8 (v : Vw w) {r : Nat} (hr : r < w 6) (m : Nat) : (trp w r m).1 < 8 := by
  obtain ⟨⟨h0, -⟩, -⟩ := id v
  have := trp_lt v hr m
  omega
theorem kn100 (v : Vw w) : ∀ k, k < w 5 → knA w k ≤ 100 := fun k hk => by
  obtain ⟨-, -, -, vi, -⟩ := v
  exact (vi k hk).2.2.2.1
theorem c_rideOf {r : Nat} (h : TC I w) (v : Vw w) (hP : PC I (w 1) (w 5) (psA w)) (hr : r < w 6) (hd : 7 ≤ d) : ∃ J, K_X10_rideOf X d (nI r) (I, L, ()) = some (some (aR 17 r), (J, L, ())) ∧ Rq [17, 18] r I J ∧ RP J r (w 1) (trp w r) ∧ J 17 r 5 = oI (had0 w r) ∧ J 17 r 6 = oI (by0 w r) := by
  obtain ⟨e, rfl⟩ : ∃ e, d = e + 1 := ⟨d - 1, by omega⟩
  obtain ⟨⟨h0, h1, -, -, -, h5, h6, -⟩, -, -, vi, vr, -⟩ := id v
  have hvr := vr r hr
  obtain ⟨J, g1, g2, g3, g4, g5⟩ := c_travel (X := X) (d := e) (L := L) (r := r) (rule := w (49 + 5 * r)) h v hr hvr.2.1 hP h5 (Nat.le_refl _) (fun i hi m z hz => ps_lt v hi hz) (by omega)
  have hm : ∀ k, k < w 5 → ∀ m, metC (psA w) (knA w) (trp w r) k m = metM (psA w) (knA w) (w (49 + 5 * r)) (trp w r) k m := fun k hk m => met_eq v hr hvr.2.1 hk
  refine ⟨J, K_X10_rideOf.e X e _ I L _ ?_, g2, g3, ?_, ?_⟩
  · simp (disch := omega) only [a_bi_i, a_bv_n, a_bl_l, a_bq_q, l_0, l_1, l_2, l_3, l_4, l_5, l_6, l_7, l_8, l_9, l_10, l_12, l_16, l_20, l_24, l_25, l_31, l_32, l_33, l_40, l_48, l_57, l_60, l_63, l_64, l_78, l_85, l_97, l_99, l_100, l_122, l_255, l_325, l_700, l_999, l_1000, l_1200, l_99999, l_100000, l_1000000, l_2000000000, l_N, n_add, n_mul, n_lt, n_out, n_div, n_dm, n_eq, n_toN, n_inN, n_ltN, n_nltN, n_neN, Nat.not_lt_zero, false_or, or_false, ite_y, ite_n, if_true, if_false, ite_tt, ite_ff, b_0, b_1, eq_self_iff_true, Bool.true_eq_false, Bool.false_eq_true, c_or1 h v, c_inspectors h v, g1]
  · rw [g4]; exact congrArg oI (hadF_congr hm)
  · rw [g5]; exact congrArg oI (byF_congr hm)
theorem c_tripOf {r : Nat} (h : TC I w) (v : Vw w) (hr : r < w 6) (hd : 8 ≤ d) : ∃ J, K_X10_tripOf X d (nI r) (I, L, ()) = some (some (aR 17 r), (J, L, ())) ∧ Sc I J ∧ TC J w ∧ RP J r (w 1) (trp w r) ∧ J 17 r 5 = oI (had0 w r) ∧ J 17 r 6 = oI (by0 w r) := by
  obtain ⟨e, rfl⟩ : ∃ e, d = e + 1 := ⟨d - 1, by omega⟩
  obtain ⟨I', f1, f2, f3, f4⟩ := sc_followAll (X := X) (d := e) (L := L) h v (by omega)
  obtain ⟨J, g1, g2, g3, g4, g5⟩ := c_rideOf (X := X) (d := e) (L := L) f3 v f4 hr (by omega)
  have s2 : Sc I' J := Sc.of g2.fm (by decide)
  refine ⟨J, K_X10_tripOf.e X e _ I L _ ?_, f2.trans s2, f3.sc s2, g3, g4, g5⟩
  simp only [f1, g1, a_bv_n, a_bq_q]
  exact v_X10_tripOf_9.e X e _ _ J L _ rfl
theorem c_isHad {r : Nat} (h : TC I w) (v : Vw w) (hr : r < w 6) (hd : 8 ≤ d) : ∃ J, K_X10_isHad X d (nI r) (I, L, ()) = some (some (aI (bI (had0 w r).isSome)), (J, L, ())) ∧ Sc I J ∧ TC J w := by
  obtain ⟨e, rfl⟩ : ∃ e, d = e + 1 := ⟨d - 1, by omega⟩
  obtain ⟨⟨h0, h1, -⟩, -⟩ := id v
  obtain ⟨I', f1, f2, f3, f4⟩ := sc_followAll (X := X) (d := e) (L := L) h v (by omega)
  obtain ⟨J, g1, g2, g3, g4, g5⟩ := c_rideOf (X := X) (d := e) (L := L) f3 v f4 hr (by omega)
  have s2 : Sc I' J := Sc.of g2.fm (by decide)
  refine ⟨J, K_X10_isHad.e X e _ I L _ ?_, f2.trans s2, f3.sc s2⟩
  simp only [f1, g1, a_bv_n, a_bq_q]
  refine v_X10_isHad_9.e X e _ _ J L _ ?_
  rw [g4]
  cases hh : had0 w r with
  | none => rfl
  | some m =>
    have := had0_lt hh
    simp (disch := omega) only [oI, a_bi_i, a_bv_n, a_bl_l, a_bq_q, l_0, l_1, l_2, l_3, l_4, l_5, l_6, l_7, l_8, l_9, l_10, l_12, l_16, l_20, l_24, l_25, l_31, l_32, l_33, l_40, l_48, l_57, l_60, l_63, l_64, l_78, l_85, l_97, l_99, l_100, l_122, l_255, l_325, l_700, l_999, l_1000, l_1200, l_99999, l_100000, l_1000000, l_2000000000, l_N, n_add, n_mul, n_lt, n_out, n_div, n_dm, n_eq, n_toN, n_inN, n_ltN, n_nltN, n_neN, Nat.not_lt_zero, false_or, or_false, ite_y, ite_n, if_true, if_false, ite_tt, ite_ff, b_0, b_1, eq_self_iff_true, Bool.true_eq_false, Bool.false_eq_true]
    rfl
theorem m_hadOf {r : Nat} (h : TM I w) (v : Vw w) (hr : r < w 6) (hd : 8 ≤ d) : ∃ J, K_X11_hadOf X d (nI r) (I, L, ()) = some (some (aI (oI (had0 w r))), (J, L, ())) ∧ Sm I J ∧ TM J w ∧ PM J (w 1) (w 5) (psA w) (knA w) ∧ ∀ m, m < w 1 → J 55 0 m = nI (rmP (trp w r m)) := by
  obtain ⟨e, rfl⟩ : ∃ e, d = e + 1 := ⟨d - 1, by omega⟩
  obtain ⟨⟨h0, h1, -, -, -, h5, h6, -⟩, -, -, vi, vr, -⟩ := id v
  have hvr := vr r hr
  obtain ⟨J1, f1, f2, f3, f4⟩ := sm_asItIs (X := X) (d := e) (L := L) h v (by omega)
  obtain ⟨J, g1, g2, g3⟩ := m_goTrip (X := X) (d := e) (L := L) (rule := w (49 + 5 * r)) f3 v f4 hr hvr.2.1 h5 (fun k hk => psA_lt v hk) (by omega)
  have s2 : Sm J1 J := Sm.of g2 (by decide)
  have pJ : PM J (w 1) (w 5) (psA w) (knA w) := by
    unfold PM
    rw [g2 40 (by decide), g2 47 (by decide), g2 48 (by decide)]
    exact f4
  have tJ := f3.sm s2
  have hb := m_hadBy (X := X) (d := e) (L := L) (p := trp w r) tJ v pJ g3 h5 (fun k hk => psA_lt v hk) (kn100 v) (trp8 v hr) hvr.2.1 (by omega)
  refine ⟨J, K_X11_hadOf.e X e _ I L _ ?_, f2.trans s2, tJ, pJ, g3⟩
  simp (disch := omega) only [a_bi_i, a_bv_n, a_bl_l, a_bq_q, l_0, l_1, l_2, l_3, l_4, l_5, l_6, l_7, l_8, l_9, l_10, l_12, l_16, l_20, l_24, l_25, l_31, l_32, l_33, l_40, l_48, l_57, l_60, l_63, l_64, l_78, l_85, l_97, l_99, l_100, l_122, l_255, l_325, l_700, l_999, l_1000, l_1200, l_99999, l_100000, l_1000000, l_2000000000, l_N, n_add, n_mul, n_lt, n_out, n_div, n_dm, n_eq, n_toN, n_inN, n_ltN, n_nltN, n_neN, Nat.not_lt_zero, false_or, or_false, ite_y, ite_n, if_true, if_false, ite_tt, ite_ff, b_0, b_1, eq_self_iff_true, Bool.true_eq_false, Bool.false_eq_true, f1, m_or1 f3 v, g1, m_or1 tJ v, hb]
  rfl
theorem q_where (h : TC I w) (v : Vw w) (a b : Int32) : Both w (K_X10_where X 15 a b) (K_X11_where X 15 a b) I L := by
  obtain ⟨⟨h0, h1, h2, h3, h4, h5, h6, -⟩, -, vc, vi, -⟩ := id v
  cases ha : inr a (w 6) with
  | false =>
    refine Both.pure (-2) (K_X10_where.e X 14 a b I L _ ?_) (fun J L2 h => K_X11_where.e X 14 a b J L2 _ ?_)
    · simp (disch := omega) only [c_hasRider h v, ha, a_bi_i, a_bv_n, a_bl_l, a_bq_q, l_0, l_1, l_2, l_3, l_4, l_5, l_6, l_7, l_8, l_9, l_10, l_12, l_16, l_20, l_24, l_25, l_31, l_32, l_33, l_40, l_48, l_57, l_60, l_63, l_64, l_78, l_85, l_97, l_99, l_100, l_122, l_255, l_325, l_700, l_999, l_1000, l_1200, l_99999, l_100000, l_1000000, l_2000000000, l_N, n_add, n_mul, n_lt, n_out, n_div, n_dm, n_eq, n_toN, n_inN, n_ltN, n_nltN, n_neN, Nat.not_lt_zero, false_or, or_false, ite_y, ite_n, if_true, if_false, ite_tt, ite_ff, b_0, b_1, eq_self_iff_true, Bool.true_eq_false, Bool.false_eq_true]
    · simp (disch := omega) only [m_isRider h v, ha, a_bi_i, a_bv_n, a_bl_l, a_bq_q, l_0, l_1, l_2, l_3, l_4, l_5, l_6, l_7, l_8, l_9, l_10, l_12, l_16, l_20, l_24, l_25, l_31, l_32, l_33, l_40, l_48, l_57, l_60, l_63, l_64, l_78, l_85, l_97, l_99, l_100, l_122, l_255, l_325, l_700, l_999, l_1000, l_1200, l_99999, l_100000, l_1000000, l_2000000000, l_N, n_add, n_mul, n_lt, n_out, n_div, n_dm, n_eq, n_toN, n_inN, n_ltN, n_nltN, n_neN, Nat.not_lt_zero, false_or, or_false, ite_y, ite_n, if_true, if_false, ite_tt, ite_ff, b_0, b_1, eq_self_iff_true, Bool.true_eq_false, Bool.false_eq_true]
  | true =>
    obtain ⟨r, hr, rfl⟩ := inr_ex (by omega) ha
    cases hb : inr b (w 1) with
    | false =>
      refine Both.pure (-2) (K_X10_where.e X 14 _ b I L _ ?_) (fun J L2 h => K_X11_where.e X 14 _ b J L2 _ ?_)
      · simp (disch := omega) only [c_hasRider h v, c_hasMinute h v, ha, hb, a_bi_i, a_bv_n, a_bl_l, a_bq_q, l_0, l_1, l_2, l_3, l_4, l_5, l_6, l_7, l_8, l_9, l_10, l_12, l_16, l_20, l_24, l_25, l_31, l_32, l_33, l_40, l_48, l_57, l_60, l_63, l_64, l_78, l_85, l_97, l_99, l_100, l_122, l_255, l_325, l_700, l_999, l_1000, l_1200, l_99999, l_100000, l_1000000, l_2000000000, l_N, n_add, n_mul, n_lt, n_out, n_div, n_dm, n_eq, n_toN, n_inN, n_ltN, n_nltN, n_neN, Nat.not_lt_zero, false_or, or_false, ite_y, ite_n, if_true, if_false, ite_tt, ite_ff, b_0, b_1, eq_self_iff_true, Bool.true_eq_false, Bool.false_eq_true]
      · simp (disch := omega) only [m_isRider h v, m_isMinute h v, ha, hb, a_bi_i, a_bv_n, a_bl_l, a_bq_q, l_0, l_1, l_2, l_3, l_4, l_5, l_6, l_7, l_8, l_9, l_10, l_12, l_16, l_20, l_24, l_25, l_31, l_32, l_33, l_40, l_48, l_57, l_60, l_63, l_64, l_78, l_85, l_97, l_99, l_100, l_122, l_255, l_325, l_700, l_999, l_1000, l_1200, l_99999, l_100000, l_1000000, l_2000000000, l_N, n_add, n_mul, n_lt, n_out, n_div, n_dm, n_eq, n_toN, n_inN, n_ltN, n_nltN, n_neN, Nat.not_lt_zero, false_or, or_false, ite_y, ite_n, if_true, if_false, ite_tt, ite_ff, b_0, b_1, eq_self_iff_true, Bool.true_eq_false, Bool.false_eq_true]
    | true =>
      obtain ⟨m, hm, rfl⟩ := inr_ex (by omega) hb
      have ht := trp8 v hr m
      obtain ⟨I', f1, f2, f3, f4, f5, f6⟩ := c_tripOf (X := X) (d := 14) (L := L) h v hr (by omega)
      refine Both.mk (nI ((trp w r m).1 + (if (trp w r m).2 = true then 10 else 0))) I' (K_X10_where.e X 14 _ _ I L _ ?_) f2 (fun J L2 hJ => ?_)
      · simp (disch := omega) only [c_hasRider h v, c_hasMinute h v, ha, hb, f1, a_bi_i, a_bv_n, a_bl_l, a_bq_q, l_0, l_1, l_2, l_3, l_4, l_5, l_6, l_7, l_8, l_9, l_10, l_12, l_16, l_20, l_24, l_25, l_31, l_32, l_33, l_40, l_48, l_57, l_60, l_63, l_64, l_78, l_85, l_97, l_99, l_100, l_122, l_255, l_325, l_700, l_999, l_1000, l_1200, l_99999, l_100000, l_1000000, l_2000000000, l_N, n_add, n_mul, n_lt, n_out, n_div, n_dm, n_eq, n_toN, n_inN, n_ltN, n_nltN, n_neN, Nat.not_lt_zero, false_or, or_false, ite_y, ite_n, if_true, if_false, ite_tt, ite_ff, b_0, b_1, eq_self_iff_true, Bool.true_eq_false, Bool.false_eq_true]
        refine v_X10_where_30.e X 14 _ _ _ I' L _ ?_
        simp (disch := omega) only [c_inLoo f4 hm (show m < 40 by omega) ht, c_coachIn f4 hm (show m < 40 by omega) ht, a_bi_i, a_bv_n, a_bl_l, a_bq_q, l_0, l_1, l_2, l_3, l_4, l_5, l_6, l_7, l_8, l_9, l_10, l_12, l_16, l_20, l_24, l_25, l_31, l_32, l_33, l_40, l_48, l_57, l_60, l_63, l_64, l_78, l_85, l_97, l_99, l_100, l_122, l_255, l_325, l_700, l_999, l_1000, l_1200, l_99999, l_100000, l_1000000, l_2000000000, l_N, n_add, n_mul, n_lt, n_out, n_div, n_dm, n_eq, n_toN, n_inN, n_ltN, n_nltN, n_neN, Nat.not_lt_zero, false_or, or_false, ite_y, ite_n, if_true, if_false, ite_tt, ite_ff, b_0, b_1, eq_self_iff_true, Bool.true_eq_false, Bool.false_eq_true]
        cases (trp w r m).2 <;> rfl
      · obtain ⟨J', g1, g2, g3, g4, g5⟩ := m_hadOf (X := X) (d := 14) (L := L2) hJ v hr (by omega)
        refine ⟨J', K_X11_where.e X 14 _ _ J L2 _ ?_, g2⟩
        have h16 := rmP_lt ht
        simp (disch := omega) only [m_isRider hJ v, m_isMinute hJ v, ha, hb, g1, g5 m hm, a_bi_i, a_bv_n, a_bl_l, a_bq_q, l_0, l_1, l_2, l_3, l_4, l_5, l_6, l_7, l_8, l_9, l_10, l_12, l_16, l_20, l_24, l_25, l_31, l_32, l_33, l_40, l_48, l_57, l_60, l_63, l_64, l_78, l_85, l_97, l_99, l_100, l_122, l_255, l_325, l_700, l_999, l_1000, l_1200, l_99999, l_100000, l_1000000, l_2000000000, l_N, n_add, n_mul, n_lt, n_out, n_div, n_dm, n_eq, n_toN, n_inN, n_ltN, n_nltN, n_neN, Nat.not_lt_zero, false_or, or_false, ite_y, ite_n, if_true, if_false, ite_tt, ite_ff, b_0, b_1, eq_self_iff_true, Bool.true_eq_false, Bool.false_eq_true, rmP_div, rmd]
        cases (trp w r m).2 <;> rfl
theorem q_had (h : TC I w) (v : Vw w) (a : Int32) : Both w (K_X10_had X 15 a) (K_X11_had X 15 a) I L := by
  obtain ⟨⟨h0, h1, h2, h3, h4, h5, h6, -⟩, -, vc, vi, -⟩ := id v
  cases ha : inr a (w 6) with
  | false =>
    refine Both.pure (-2) (K_X10_had.e X 14 a I L _ ?_) (fun J L2 h => K_X11_had.e X 14 a J L2 _ ?_)
    · simp (disch := omega) only [c_hasRider h v, ha, a_bi_i, a_bv_n, a_bl_l, a_bq_q, l_0, l_1, l_2, l_3, l_4, l_5, l_6, l_7, l_8, l_9, l_10, l_12, l_16, l_20, l_24, l_25, l_31, l_32, l_33, l_40, l_48, l_57, l_60, l_63, l_64, l_78, l_85, l_97, l_99, l_100, l_122, l_255, l_325, l_700, l_999, l_1000, l_1200, l_99999, l_100000, l_1000000, l_2000000000, l_N, n_add, n_mul, n_lt, n_out, n_div, n_dm, n_eq, n_toN, n_inN, n_ltN, n_nltN, n_neN, Nat.not_lt_zero, false_or, or_false, ite_y, ite_n, if_true, if_false, ite_tt, ite_ff, b_0, b_1, eq_self_iff_true, Bool.true_eq_false, Bool.false_eq_true]
    · simp (disch := omega) only [m_isRider h v, ha, a_bi_i, a_bv_n, a_bl_l, a_bq_q, l_0, l_1, l_2, l_3, l_4, l_5, l_6, l_7, l_8, l_9, l_10, l_12, l_16, l_20, l_24, l_25, l_31, l_32, l_33, l_40, l_48, l_57, l_60, l_63, l_64, l_78, l_85, l_97, l_99, l_100, l_122, l_255, l_325, l_700, l_999, l_1000, l_1200, l_99999, l_100000, l_1000000, l_2000000000, l_N, n_add, n_mul, n_lt, n_out, n_div, n_dm, n_eq, n_toN, n_inN, n_ltN, n_nltN, n_neN, Nat.not_lt_zero, false_or, or_false, ite_y, ite_n, if_true, if_false, ite_tt, ite_ff, b_0, b_1, eq_self_iff_true, Bool.true_eq_false, Bool.false_eq_true]
  | true =>
    obtain ⟨r, hr, rfl⟩ := inr_ex (by omega) ha
    obtain ⟨I', f1, f2, f3, f4, f5, f6⟩ := c_tripOf (X := X) (d := 14) (L := L) h v hr (by omega)
    refine Both.mk (oI (had0 w r)) I' (K_X10_had.e X 14 _ I L _ ?_) f2 (fun J L2 hJ => ?_)
    · simp (disch := omega) only [c_hasRider h v, ha, f1, a_bi_i, a_bv_n, a_bl_l, a_bq_q, l_0, l_1, l_2, l_3, l_4, l_5, l_6, l_7, l_8, l_9, l_10, l_12, l_16, l_20, l_24, l_25, l_31, l_32, l_33, l_40, l_48, l_57, l_60, l_63, l_64, l_78, l_85, l_97, l_99, l_100, l_122, l_255, l_325, l_700, l_999, l_1000, l_1200, l_99999, l_100000, l_1000000, l_2000000000, l_N, n_add, n_mul, n_lt, n_out, n_div, n_dm, n_eq, n_toN, n_inN, n_ltN, n_nltN, n_neN, Nat.not_lt_zero, false_or, or_false, ite_y, ite_n, if_true, if_false, ite_tt, ite_ff, b_0, b_1, eq_self_iff_true, Bool.true_eq_false, Bool.false_eq_true]
      refine v_X10_had_16.e X 14 _ _ I' L _ ?_
      rw [f5]
    · obtain ⟨J', g1, g2, g3, g4, g5⟩ := m_hadOf (X := X) (d := 14) (L := L2) hJ v hr (by omega)
      refine ⟨J', K_X11_had.e X 14 _ J L2 _ ?_, g2⟩
      simp (disch := omega) only [m_isRider hJ v, ha, g1, a_bi_i, a_bv_n, a_bl_l, a_bq_q, l_0, l_1, l_2, l_3, l_4, l_5, l_6, l_7, l_8, l_9, l_10, l_12, l_16, l_20, l_24, l_25, l_31, l_32, l_33, l_40, l_48, l_57, l_60, l_63, l_64, l_78, l_85, l_97, l_99, l_100, l_122, l_255, l_325, l_700, l_999, l_1000, l_1200, l_99999, l_100000, l_1000000, l_2000000000, l_N, n_add, n_mul, n_lt, n_out, n_div, n_dm, n_eq, n_toN, n_inN, n_ltN, n_nltN, n_neN, Nat.not_lt_zero, false_or, or_false, ite_y, ite_n, if_true, if_false, ite_tt, ite_ff, b_0, b_1, eq_self_iff_true, Bool.true_eq_false, Bool.false_eq_true]
theorem q_by (h : TC I w) (v : Vw w) (a : Int32) : Both w (K_X10_by X 15 a) (K_X11_by X 15 a) I L := by
  obtain ⟨⟨h0, h1, h2, h3, h4, h5, h6, -⟩, -, vc, vi, vr, -⟩ := id v
  cases ha : inr a (w 6) with
  | false =>
    refine Both.pure (-2) (K_X10_by.e X 14 a I L _ ?_) (fun J L2 h => K_X11_by.e X 14 a J L2 _ ?_)
    · simp (disch := omega) only [c_hasRider h v, ha, a_bi_i, a_bv_n, a_bl_l, a_bq_q, l_0, l_1, l_2, l_3, l_4, l_5, l_6, l_7, l_8, l_9, l_10, l_12, l_16, l_20, l_24, l_25, l_31, l_32, l_33, l_40, l_48, l_57, l_60, l_63, l_64, l_78, l_85, l_97, l_99, l_100, l_122, l_255, l_325, l_700, l_999, l_1000, l_1200, l_99999, l_100000, l_1000000, l_2000000000, l_N, n_add, n_mul, n_lt, n_out, n_div, n_dm, n_eq, n_toN, n_inN, n_ltN, n_nltN, n_neN, Nat.not_lt_zero, false_or, or_false, ite_y, ite_n, if_true, if_false, ite_tt, ite_ff, b_0, b_1, eq_self_iff_true, Bool.true_eq_false, Bool.false_eq_true]
    · simp (disch := omega) only [m_isRider h v, ha, a_bi_i, a_bv_n, a_bl_l, a_bq_q, l_0, l_1, l_2, l_3, l_4, l_5, l_6, l_7, l_8, l_9, l_10, l_12, l_16, l_20, l_24, l_25, l_31, l_32, l_33, l_40, l_48, l_57, l_60, l_63, l_64, l_78, l_85, l_97, l_99, l_100, l_122, l_255, l_325, l_700, l_999, l_1000, l_1200, l_99999, l_100000, l_1000000, l_2000000000, l_N, n_add, n_mul, n_lt, n_out, n_div, n_dm, n_eq, n_toN, n_inN, n_ltN, n_nltN, n_neN, Nat.not_lt_zero, false_or, or_false, ite_y, ite_n, if_true, if_false, ite_tt, ite_ff, b_0, b_1, eq_self_iff_true, Bool.true_eq_false, Bool.false_eq_true]
  | true =>
    obtain ⟨r, hr, rfl⟩ := inr_ex (by omega) ha
    have hvr := vr r hr
    obtain ⟨I', f1, f2, f3, f4, f5, f6⟩ := c_tripOf (X := X) (d := 14) (L := L) h v hr (by omega)
    refine Both.mk (oI (by0 w r)) I' (K_X10_by.e X 14 _ I L _ ?_) f2 (fun J L2 hJ => ?_)
    · simp (disch := omega) only [c_hasRider h v, ha, f1, a_bi_i, a_bv_n, a_bl_l, a_bq_q, l_0, l_1, l_2, l_3, l_4, l_5, l_6, l_7, l_8, l_9, l_10, l_12, l_16, l_20, l_24, l_25, l_31, l_32, l_33, l_40, l_48, l_57, l_60, l_63, l_64, l_78, l_85, l_97, l_99, l_100, l_122, l_255, l_325, l_700, l_999, l_1000, l_1200, l_99999, l_100000, l_1000000, l_2000000000, l_N, n_add, n_mul, n_lt, n_out, n_div, n_dm, n_eq, n_toN, n_inN, n_ltN, n_nltN, n_neN, Nat.not_lt_zero, false_or, or_false, ite_y, ite_n, if_true, if_false, ite_tt, ite_ff, b_0, b_1, eq_self_iff_true, Bool.true_eq_false, Bool.false_eq_true]
      refine v_X10_by_16.e X 14 _ _ I' L _ ?_
      rw [f6]
    · obtain ⟨J', g1, g2, g3, g4, g5⟩ := m_hadOf (X := X) (d := 14) (L := L2) hJ v hr (by omega)
      refine ⟨J', K_X11_by.e X 14 _ J L2 _ ?_, g2⟩
      simp (disch := omega) only [m_isRider hJ v, ha, g1, a_bi_i, a_bv_n, a_bl_l, a_bq_q, l_0, l_1, l_2, l_3, l_4, l_5, l_6, l_7, l_8, l_9, l_10, l_12, l_16, l_20, l_24, l_25, l_31, l_32, l_33, l_40, l_48, l_57, l_60, l_63, l_64, l_78, l_85, l_97, l_99, l_100, l_122, l_255, l_325, l_700, l_999, l_1000, l_1200, l_99999, l_100000, l_1000000, l_2000000000, l_N, n_add, n_mul, n_lt, n_out, n_div, n_dm, n_eq, n_toN, n_inN, n_ltN, n_nltN, n_neN, Nat.not_lt_zero, false_or, or_false, ite_y, ite_n, if_true, if_false, ite_tt, ite_ff, b_0, b_1, eq_self_iff_true, Bool.true_eq_false, Bool.false_eq_true]
      unfold by0 byF
      cases hh : hadF (w 1) (w 5) (metM (psA w) (knA w) (w (49 + 5 * r)) (trp w r)) with
      | none =>
        have hh' : had0 w r = none := hh
        rw [hh']
        simp only [oI, if_true]
      | some m =>
        have hh' : had0 w r = some m := hh
        have hm := had0_lt hh'
        have ht := m_hasTrip (X := X) (d := 14) (L := L2) (p := trp w r) v g4 g5 hm h5 (fun k hk => psA_lt v hk) (kn100 v) (trp8 v hr) hvr.2.1 (by omega)
        rw [hh']
        simp (disch := omega) only [oI, a_bi_i, a_bv_n, a_bl_l, a_bq_q, l_0, l_1, l_2, l_3, l_4, l_5, l_6, l_7, l_8, l_9, l_10, l_12, l_16, l_20, l_24, l_25, l_31, l_32, l_33, l_40, l_48, l_57, l_60, l_63, l_64, l_78, l_85, l_97, l_99, l_100, l_122, l_255, l_325, l_700, l_999, l_1000, l_1200, l_99999, l_100000, l_1000000, l_2000000000, l_N, n_add, n_mul, n_lt, n_out, n_div, n_dm, n_eq, n_toN, n_inN, n_ltN, n_nltN, n_neN, Nat.not_lt_zero, false_or, or_false, ite_y, ite_n, if_true, if_false, ite_tt, ite_ff, b_0, b_1, eq_self_iff_true, Bool.true_eq_false, Bool.false_eq_true, m_or1 g3 v, ht]
/-- changes of coach up to minute M -/
def wlk (p : Nat → Nat × Bool) : Nat → Nat
  | 0 => 0
  | m + 1 => wlk p m + (if (p (m + 1)).1 = (p m).1 then 0 else 1)
theorem wlk_le (p : Nat → Nat × Bool) : ∀ m, wlk p m ≤ m := by
  intro m
  induction m with
  | zero => exact Nat.le_refl _
  | succ m ih => unfold wlk; split <;> omega
theorem q_walks (h : TC I w) (v : Vw w) (a : Int32) : Both w (K_X10_walks X 15 a) (K_X11_walks X 15 a) I L := by
  obtain ⟨⟨h0, h1, h2, h3, h4, h5, h6, -⟩, -, vc, vi, vr, -⟩ := id v
  cases ha : inr a (w 6) with
  | false =>
    refine Both.pure (-2) (K_X10_walks.e X 14 a I L _ ?_) (fun J L2 h => K_X11_walks.e X 14 a J L2 _ ?_)
    · simp (disch := omega) only [c_hasRider h v, ha, a_bi_i, a_bv_n, a_bl_l, a_bq_q, l_0, l_1, l_2, l_3, l_4, l_5, l_6, l_7, l_8, l_9, l_10, l_12, l_16, l_20, l_24, l_25, l_31, l_32, l_33, l_40, l_48, l_57, l_60, l_63, l_64, l_78, l_85, l_97, l_99, l_100, l_122, l_255, l_325, l_700, l_999, l_1000, l_1200, l_99999, l_100000, l_1000000, l_2000000000, l_N, n_add, n_mul, n_lt, n_out, n_div, n_dm, n_eq, n_toN, n_inN, n_ltN, n_nltN, n_neN, Nat.not_lt_zero, false_or, or_false, ite_y, ite_n, if_true, if_false, ite_tt, ite_ff, b_0, b_1, eq_self_iff_true, Bool.true_eq_false, Bool.false_eq_true]
    · simp (disch := omega) only [m_isRider h v, ha, a_bi_i, a_bv_n, a_bl_l, a_bq_q, l_0, l_1, l_2, l_3, l_4, l_5, l_6, l_7, l_8, l_9, l_10, l_12, l_16, l_20, l_24, l_25, l_31, l_32, l_33, l_40, l_48, l_57, l_60, l_63, l_64, l_78, l_85, l_97, l_99, l_100, l_122, l_255, l_325, l_700, l_999, l_1000, l_1200, l_99999, l_100000, l_1000000, l_2000000000, l_N, n_add, n_mul, n_lt, n_out, n_div, n_dm, n_eq, n_toN, n_inN, n_ltN, n_nltN, n_neN, Nat.not_lt_zero, false_or, or_false, ite_y, ite_n, if_true, if_false, ite_tt, ite_ff, b_0, b_1, eq_self_iff_true, Bool.true_eq_false, Bool.false_eq_true]
  | true =>
    obtain ⟨r, hr, rfl⟩ := inr_ex (by omega) ha
    obtain ⟨l7, l0, l1, l2⟩ := v.live (Or.inr (Or.inr (Or.inr (by omega))))
    obtain ⟨M, hM, hMd⟩ : ∃ M, M < w 1 ∧ M = (match had0 w r with | some m => m | none => w 1 - 1) := by
      cases hh : had0 w r with
      | none => exact ⟨w 1 - 1, by omega, rfl⟩
      | some m => exact ⟨m, had0_lt hh, rfl⟩
    obtain ⟨I', f1, f2, f3, f4, f5, f6⟩ := c_tripOf (X := X) (d := 14) (L := L) h v hr (by omega)
    refine Both.mk (nI (wlk (trp w r) M)) I' (K_X10_walks.e X 14 _ I L _ ?_) f2 (fun J L2 hJ => ?_)
    · simp (disch := omega) only [c_hasRider h v, ha, f1, a_bi_i, a_bv_n, a_bl_l, a_bq_q, l_0, l_1, l_2, l_3, l_4, l_5, l_6, l_7, l_8, l_9, l_10, l_12, l_16, l_20, l_24, l_25, l_31, l_32, l_33, l_40, l_48, l_57, l_60, l_63, l_64, l_78, l_85, l_97, l_99, l_100, l_122, l_255, l_325, l_700, l_999, l_1000, l_1200, l_99999, l_100000, l_1000000, l_2000000000, l_N, n_add, n_mul, n_lt, n_out, n_div, n_dm, n_eq, n_toN, n_inN, n_ltN, n_nltN, n_neN, Nat.not_lt_zero, false_or, or_false, ite_y, ite_n, if_true, if_false, ite_tt, ite_ff, b_0, b_1, eq_self_iff_true, Bool.true_eq_false, Bool.false_eq_true]
      obtain ⟨x, x1, x2⟩ := loop_z (F := fun m (x : Int32) => v_X10_walks_51 X 14 r (nI M) x (nI (m + 1)) (I', L, ())) (P := fun m x => x = nI (wlk (trp w r) m)) M (nI 0) rfl (fun m x hm hx => by
        subst hx
        have t1 := trp8 v hr m
        have t2 := trp8 v hr (m + 1)
        refine ⟨_, rfl, fun z hz => ?_⟩
        refine v_X10_walks_51.e X 14 _ _ _ _ I' L z ?_
        rw [l_1, n_sub (show 1 ≤ m + 1 by omega), show m + 1 - 1 = m by omega]
        simp (disch := omega) only [c_coachIn f4 (show m + 1 < w 1 by omega) (show m + 1 < 40 by omega) t2, c_coachIn f4 (show m < w 1 by omega) (show m < 40 by omega) t1, a_bi_i, a_bv_n, a_bl_l, a_bq_q, l_0, l_1, l_2, l_3, l_4, l_5, l_6, l_7, l_8, l_9, l_10, l_12, l_16, l_20, l_24, l_25, l_31, l_32, l_33, l_40, l_48, l_57, l_60, l_63, l_64, l_78, l_85, l_97, l_99, l_100, l_122, l_255, l_325, l_700, l_999, l_1000, l_1200, l_99999, l_100000, l_1000000, l_2000000000, l_N, n_add, n_mul, n_lt, n_out, n_div, n_dm, n_eq, n_toN, n_inN, n_ltN, n_nltN, n_neN, Nat.not_lt_zero, false_or, or_false, ite_y, ite_n, if_true, if_false, ite_tt, ite_ff, b_0, b_1, eq_self_iff_true, Bool.true_eq_false, Bool.false_eq_true]
        unfold wlk at hz
        by_cases hs : (trp w r (m + 1)).1 = (trp w r m).1
        · simp only [hs, if_true] at hz ⊢; exact hz
        · simp only [hs, if_false] at hz ⊢; exact hz)
      have fin : v_X10_walks_51 X 14 r (nI M) (nI 0) (nI 1) (I', L, ()) = some (some (aI (nI (wlk (trp w r) M))), (I', L, ())) := by
        refine x2 _ (v_X10_walks_51.e X 14 _ _ _ _ I' L _ ?_)
        simp (disch := omega) only [a_bi_i, a_bv_n, a_bl_l, a_bq_q, l_0, l_1, l_2, l_3, l_4, l_5, l_6, l_7, l_8, l_9, l_10, l_12, l_16, l_20, l_24, l_25, l_31, l_32, l_33, l_40, l_48, l_57, l_60, l_63, l_64, l_78, l_85, l_97, l_99, l_100, l_122, l_255, l_325, l_700, l_999, l_1000, l_1200, l_99999, l_100000, l_1000000, l_2000000000, l_N, n_add, n_mul, n_lt, n_out, n_div, n_dm, n_eq, n_toN, n_inN, n_ltN, n_nltN, n_neN, Nat.not_lt_zero, false_or, or_false, ite_y, ite_n, if_true, if_false, ite_tt, ite_ff, b_0, b_1, eq_self_iff_true, Bool.true_eq_false, Bool.false_eq_true, x1]
      refine v_X10_walks_19.e X 14 _ _ I' L _ ?_
      rw [f5]
      cases hh : had0 w r with
      | none =>
        rw [hh] at hMd
        simp only at hMd
        simp (disch := omega) only [oI, c_minutes f3 v, a_bi_i, a_bv_n, a_bl_l, a_bq_q, l_0, l_1, l_2, l_3, l_4, l_5, l_6, l_7, l_8, l_9, l_10, l_12, l_16, l_20, l_24, l_25, l_31, l_32, l_33, l_40, l_48, l_57, l_60, l_63, l_64, l_78, l_85, l_97, l_99, l_100, l_122, l_255, l_325, l_700, l_999, l_1000, l_1200, l_99999, l_100000, l_1000000, l_2000000000, l_N, n_add, n_mul, n_lt, n_out, n_div, n_dm, n_eq, n_toN, n_inN, n_ltN, n_nltN, n_neN, Nat.not_lt_zero, false_or, or_false, ite_y, ite_n, if_true, if_false, ite_tt, ite_ff, b_0, b_1, eq_self_iff_true, Bool.true_eq_false, Bool.false_eq_true]
        rw [n_sub (show 1 ≤ w 1 by omega), ← hMd]
        exact fin
      | some m =>
        rw [hh] at hMd
        simp only at hMd
        simp (disch := omega) only [oI, a_bi_i, a_bv_n, a_bl_l, a_bq_q, l_0, l_1, l_2, l_3, l_4, l_5, l_6, l_7, l_8, l_9, l_10, l_12, l_16, l_20, l_24, l_25, l_31, l_32, l_33, l_40, l_48, l_57, l_60, l_63, l_64, l_78, l_85, l_97, l_99, l_100, l_122, l_255, l_325, l_700, l_999, l_1000, l_1200, l_99999, l_100000, l_1000000, l_2000000000, l_N, n_add, n_mul, n_lt, n_out, n_div, n_dm, n_eq, n_toN, n_inN, n_ltN, n_nltN, n_neN, Nat.not_lt_zero, false_or, or_false, ite_y, ite_n, if_true, if_false, ite_tt, ite_ff, b_0, b_1, eq_self_iff_true, Bool.true_eq_false, Bool.false_eq_true]
        rw [← hMd]
        exact fin
    · obtain ⟨J', g1, g2, g3, g4, g5⟩ := m_hadOf (X := X) (d := 14) (L := L2) hJ v hr (by omega)
      refine ⟨J', K_X11_walks.e X 14 _ J L2 _ ?_, g2⟩
      simp (disch := omega) only [m_isRider hJ v, ha, g1, a_bi_i, a_bv_n, a_bl_l, a_bq_q, l_0, l_1, l_2, l_3, l_4, l_5, l_6, l_7, l_8, l_9, l_10, l_12, l_16, l_20, l_24, l_25, l_31, l_32, l_33, l_40, l_48, l_57, l_60, l_63, l_64, l_78, l_85, l_97, l_99, l_100, l_122, l_255, l_325, l_700, l_999, l_1000, l_1200, l_99999, l_100000, l_1000000, l_2000000000, l_N, n_add, n_mul, n_lt, n_out, n_div, n_dm, n_eq, n_toN, n_inN, n_ltN, n_nltN, n_neN, Nat.not_lt_zero, false_or, or_false, ite_y, ite_n, if_true, if_false, ite_tt, ite_ff, b_0, b_1, eq_self_iff_true, Bool.true_eq_false, Bool.false_eq_true]
      have le : ∀ m, had0 w r = some m → M = m := fun m hm => by rw [hm] at hMd; exact hMd
      obtain ⟨x, x1, x2⟩ := loop_z (F := fun m (x : Int32) => v_X11_walks_22 X 14 (oI (had0 w r)) x (nI (m + 1)) (J', L2, ())) (P := fun m x => x = nI (wlk (trp w r) m)) M (nI 0) rfl (fun m x hm hx => by
        subst hx
        have t1 := trp8 v hr m
        have t2 := trp8 v hr (m + 1)
        have r1 := rmP_lt t1
        have r2 := rmP_lt t2
        refine ⟨_, rfl, fun z hz => ?_⟩
        refine v_X11_walks_22.e X 14 _ _ _ J' L2 z ?_
        rw [l_1, n_sub (show 1 ≤ m + 1 by omega), show m + 1 - 1 = m by omega]
        unfold wlk at hz
        simp (disch := omega) only [m_minutes g3 v, g5 m (by omega), g5 (m + 1) (by omega), rmP_div, a_bi_i, a_bv_n, a_bl_l, a_bq_q, l_0, l_1, l_2, l_3, l_4, l_5, l_6, l_7, l_8, l_9, l_10, l_12, l_16, l_20, l_24, l_25, l_31, l_32, l_33, l_40, l_48, l_57, l_60, l_63, l_64, l_78, l_85, l_97, l_99, l_100, l_122, l_255, l_325, l_700, l_999, l_1000, l_1200, l_99999, l_100000, l_1000000, l_2000000000, l_N, n_add, n_mul, n_lt, n_out, n_div, n_dm, n_eq, n_toN, n_inN, n_ltN, n_nltN, n_neN, Nat.not_lt_zero, false_or, or_false, ite_y, ite_n, if_true, if_false, ite_tt, ite_ff, b_0, b_1, eq_self_iff_true, Bool.true_eq_false, Bool.false_eq_true]
        cases hh : had0 w r with
        | none =>
          rw [hh] at hz
          simp only [oI, if_true] at hz ⊢
          by_cases hs : (trp w r (m + 1)).1 = (trp w r m).1
          · simp only [hs, if_true, Nat.add_zero] at hz ⊢; exact hz
          · simp only [hs, if_false] at hz ⊢; exact hz
        | some mm =>
          rw [hh] at hz
          have := le mm hh
          have hmm := had0_lt hh
          simp (disch := omega) only [oI, a_bi_i, a_bv_n, a_bl_l, a_bq_q, l_0, l_1, l_2, l_3, l_4, l_5, l_6, l_7, l_8, l_9, l_10, l_12, l_16, l_20, l_24, l_25, l_31, l_32, l_33, l_40, l_48, l_57, l_60, l_63, l_64, l_78, l_85, l_97, l_99, l_100, l_122, l_255, l_325, l_700, l_999, l_1000, l_1200, l_99999, l_100000, l_1000000, l_2000000000, l_N, n_add, n_mul, n_lt, n_out, n_div, n_dm, n_eq, n_toN, n_inN, n_ltN, n_nltN, n_neN, Nat.not_lt_zero, false_or, or_false, ite_y, ite_n, if_true, if_false, ite_tt, ite_ff, b_0, b_1, eq_self_iff_true, Bool.true_eq_false, Bool.false_eq_true] at hz ⊢
          by_cases hs : (trp w r (m + 1)).1 = (trp w r m).1
          · simp only [hs, if_true, Nat.add_zero] at hz ⊢; exact hz
          · simp only [hs, if_false] at hz ⊢; exact hz)
      refine x2 _ (v_X11_walks_22.e X 14 _ _ _ J' L2 _ ?_)
      simp (disch := omega) only [m_minutes g3 v, a_bi_i, a_bv_n, a_bl_l, a_bq_q, l_0, l_1, l_2, l_3, l_4, l_5, l_6, l_7, l_8, l_9, l_10, l_12, l_16, l_20, l_24, l_25, l_31, l_32, l_33, l_40, l_48, l_57, l_60, l_63, l_64, l_78, l_85, l_97, l_99, l_100, l_122, l_255, l_325, l_700, l_999, l_1000, l_1200, l_99999, l_100000, l_1000000, l_2000000000, l_N, n_add, n_mul, n_lt, n_out, n_div, n_dm, n_eq, n_toN, n_inN, n_ltN, n_nltN, n_neN, Nat.not_lt_zero, false_or, or_false, ite_y, ite_n, if_true, if_false, ite_tt, ite_ff, b_0, b_1, eq_self_iff_true, Bool.true_eq_false, Bool.false_eq_true, x1]
      cases hh : had0 w r with
      | none =>
        rw [hh] at hMd
        simp only at hMd
        have : ¬ M + 1 < w 1 := by omega
        simp only [this, if_false]
      | some mm =>
        have := le mm hh
        by_cases hlt : M + 1 < w 1
        · simp (disch := omega) only [oI, a_bi_i, a_bv_n, a_bl_l, a_bq_q, l_0, l_1, l_2, l_3, l_4, l_5, l_6, l_7, l_8, l_9, l_10, l_12, l_16, l_20, l_24, l_25, l_31, l_32, l_33, l_40, l_48, l_57, l_60, l_63, l_64, l_78, l_85, l_97, l_99, l_100, l_122, l_255, l_325, l_700, l_999, l_1000, l_1200, l_99999, l_100000, l_1000000, l_2000000000, l_N, n_add, n_mul, n_lt, n_out, n_div, n_dm, n_eq, n_toN, n_inN, n_ltN, n_nltN, n_neN, Nat.not_lt_zero, false_or, or_false, ite_y, ite_n, if_true, if_false, ite_tt, ite_ff, b_0, b_1, eq_self_iff_true, Bool.true_eq_false, Bool.false_eq_true, hlt]
        · simp only [hlt, if_false]
end
