/-! openChase; watched, never -/
section
variable {X : AX} {d : Nat} {I J : A3 Int32} {L : A3 Int64} {w : TW}
/-- the chase in row q holds n inspectors at ps, with knocks kn -/
def CA (I : A3 Int32) (q T n : Nat) (ps : Nat → Nat → Option Nat) (kn : Nat → Nat) : Prop := CG I q T (gA n ps) (kA n ps kn) (uA T n ps) (dA T n ps)
theorem CA.zero {q T : Nat} {ps : Nat → Nat → Option Nat} {kn : Nat → Nat} (h : ∀ j, j < 40 → I 21 q j = nI 0 ∧ I 22 q j = nI 0 ∧ I 23 q j = nI 0 ∧ I 24 q j = nI 0) (hT : T ≤ 40) : CA I q T 0 ps kn := by
  intro m hm c
  obtain ⟨a1, a2, a3, a4⟩ := h m (by omega)
  rw [a1, a2, a3, a4, bt_0]
  exact ⟨rfl, rfl, rfl, rfl⟩
theorem CA.succ {q T n : Nat} {ps : Nat → Nat → Option Nat} {kn : Nat → Nat} (h : CA I q T n ps kn) {J : A3 Int32} {kb : Bool} (hkb : kb = decide (0 < kn n)) (hA : AP I q T kb (ps n) T T T J) : CA J q T (n + 1) ps kn := by
  intro m hm c
  obtain ⟨a1, a2, a3, a4⟩ := hA.2 m hm c
  obtain ⟨b1, b2, b3, b4⟩ := h m hm c
  subst hkb
  rw [a1, a2, a3, a4, b1, b2, b3, b4]
  simp only [hm, decide_true, Bool.true_and]
  exact ⟨rfl, rfl, rfl, rfl⟩
theorem psA_lt (v : Vw w) {k : Nat} (hk : k < w 5) : ∀ m x, psA w k m = some x → x < 8 := fun m x hx => by
  obtain ⟨⟨h0, -⟩, -⟩ := id v
  have := ps_lt v hk hx
  omega
theorem c_openChase (h : TC I w) (v : Vw w) (hd : 6 ≤ d) : ∃ J, K_X10_openChase X d (I, L, ()) = some (none, (J, L, ())) ∧ Sc I J ∧ TC J w ∧ PC J (w 1) (w 5) (psA w) ∧ CF J 0 (w 1) (w 0) (loB w) (doB w) ∧ CA J 0 (w 1) (w 5) (psA w) (knA w) := by
  obtain ⟨e, rfl⟩ : ∃ e, d = e + 1 := ⟨d - 1, by omega⟩
  obtain ⟨⟨h0, h1, h2, h3, h4, h5, -⟩, -, vc, vi, -⟩ := id v
  obtain ⟨J1, f1, f2, f3, f4⟩ := sc_followAll (X := X) (d := e) (L := L) h v (by omega)
  obtain ⟨J2, g1, g2, g3, g4⟩ := c_restart (X := X) (d := e) (L := L) (q := 0) f3 v (by omega)
  have s2 : Sc J1 J2 := Sc.of g2.fm (by decide)
  have t2 : TC J2 w := f3.sc s2
  have p2 : PC J2 (w 1) (w 5) (psA w) := fun k hk m hm => by rw [g2 14 k (Or.inl (by decide))]; exact f4 k hk m hm
  obtain ⟨J, ⟨k1, k2⟩, k3⟩ := loop_z (F := fun i (J : A3 Int32) => v_X10_openChase_13 X e (nI i) (J, L, ())) (P := fun i J => Rq [21, 22, 23, 24] 0 J2 J ∧ CA J 0 (w 1) i (psA w) (knA w)) (w 5) J2 ⟨Rq.refl, CA.zero g4 h1⟩ (fun i J hi hP => by
    obtain ⟨hR, hC⟩ := hP
    have hJ : TC J w := t2.sc (Sc.of hR.fm (by decide))
    have hp := vi i hi
    have h20 : J 20 0 8 = nI (w 1) := by rw [hR 20 0 (Or.inl (by decide))]; exact g3.1
    have hrow : ∀ m, m < w 1 → J 14 i m = oI (psA w i m) := fun m hm => by rw [hR 14 i (Or.inl (by decide))]; exact p2 i hi m hm
    obtain ⟨J', q1, q2⟩ := c_add (X := X) (d := e) (L := L) (kb := decide (0 < knA w i)) h1 h20 (psA_lt v hi) hrow (by omega)
    refine ⟨J', ⟨hR.trans q2.1, hC.succ rfl q2⟩, fun r hr => ?_⟩
    refine v_X10_openChase_13.e X e _ J L r ?_
    simp (disch := omega) only [c_inspectors hJ v, c_oi3 hJ v, a_bi_i, a_bv_n, a_bl_l, a_bq_q, l_0, l_1, l_2, l_3, l_4, l_5, l_6, l_7, l_8, l_9, l_10, l_12, l_16, l_20, l_24, l_25, l_31, l_32, l_33, l_40, l_48, l_57, l_60, l_63, l_64, l_78, l_85, l_97, l_99, l_100, l_122, l_255, l_325, l_700, l_999, l_1000, l_1200, l_99999, l_100000, l_1000000, l_2000000000, l_N, n_add, n_mul, n_lt, n_out, n_div, n_dm, n_eq, n_toN, n_inN, n_ltN, n_nltN, n_neN, Nat.not_lt_zero, false_or, or_false, ite_y, ite_n, if_true, if_false, ite_tt, ite_ff, b_0, b_1, eq_self_iff_true, Bool.true_eq_false, Bool.false_eq_true]
    by_cases hk : 0 < w (36 + 5 * i)
    · have q1 : K_X0_add X e 0 i (nI 1) (J, L, ()) = some (none, (J', L, ())) := by
        rw [← q1]; unfold knA; rw [decide_eq_true hk]; rfl
      simp (disch := omega) only [hk, q1, a_bi_i, a_bv_n, a_bl_l, a_bq_q, l_0, l_1, l_2, l_3, l_4, l_5, l_6, l_7, l_8, l_9, l_10, l_12, l_16, l_20, l_24, l_25, l_31, l_32, l_33, l_40, l_48, l_57, l_60, l_63, l_64, l_78, l_85, l_97, l_99, l_100, l_122, l_255, l_325, l_700, l_999, l_1000, l_1200, l_99999, l_100000, l_1000000, l_2000000000, l_N, n_add, n_mul, n_lt, n_out, n_div, n_dm, n_eq, n_toN, n_inN, n_ltN, n_nltN, n_neN, Nat.not_lt_zero, false_or, or_false, ite_y, ite_n, if_true, if_false, ite_tt, ite_ff, b_0, b_1, eq_self_iff_true, Bool.true_eq_false, Bool.false_eq_true]
      exact hr
    · have q1 : K_X0_add X e 0 i (nI 0) (J, L, ()) = some (none, (J', L, ())) := by
        rw [← q1]; unfold knA; rw [decide_eq_false hk]; rfl
      simp (disch := omega) only [hk, q1, a_bi_i, a_bv_n, a_bl_l, a_bq_q, l_0, l_1, l_2, l_3, l_4, l_5, l_6, l_7, l_8, l_9, l_10, l_12, l_16, l_20, l_24, l_25, l_31, l_32, l_33, l_40, l_48, l_57, l_60, l_63, l_64, l_78, l_85, l_97, l_99, l_100, l_122, l_255, l_325, l_700, l_999, l_1000, l_1200, l_99999, l_100000, l_1000000, l_2000000000, l_N, n_add, n_mul, n_lt, n_out, n_div, n_dm, n_eq, n_toN, n_inN, n_ltN, n_nltN, n_neN, Nat.not_lt_zero, false_or, or_false, ite_y, ite_n, if_true, if_false, ite_tt, ite_ff, b_0, b_1, eq_self_iff_true, Bool.true_eq_false, Bool.false_eq_true]
      exact hr)
  have s3 : Sc J2 J := Sc.of k1.fm (by decide)
  have t3 : TC J w := t2.sc s3
  refine ⟨J, K_X10_openChase.e X e I L _ ?_, (f2.trans s2).trans s3, t3, fun k hk m hm => ?_, ?_, k2⟩
  · simp only [f1, g1, a_bv_n]
    refine k3 _ (v_X10_openChase_13.e X e _ J L _ ?_)
    simp (disch := omega) only [c_inspectors t3 v, a_bi_i, a_bv_n, a_bl_l, a_bq_q, l_0, l_1, l_2, l_3, l_4, l_5, l_6, l_7, l_8, l_9, l_10, l_12, l_16, l_20, l_24, l_25, l_31, l_32, l_33, l_40, l_48, l_57, l_60, l_63, l_64, l_78, l_85, l_97, l_99, l_100, l_122, l_255, l_325, l_700, l_999, l_1000, l_1200, l_99999, l_100000, l_1000000, l_2000000000, l_N, n_add, n_mul, n_lt, n_out, n_div, n_dm, n_eq, n_toN, n_inN, n_ltN, n_nltN, n_neN, Nat.not_lt_zero, false_or, or_false, ite_y, ite_n, if_true, if_false, ite_tt, ite_ff, b_0, b_1, eq_self_iff_true, Bool.true_eq_false, Bool.false_eq_true]
  · rw [k1 14 k (Or.inl (by decide))]; exact p2 k hk m hm
  · unfold CF
    rw [k1 20 0 (Or.inl (by decide))]
    exact g3
theorem m_watchedIn {T n : Nat} {ps : Nat → Nat → Option Nat} {kn : Nat → Nat} (h : PM I T n ps kn) {m : Nat} (hm : m < T) (hn : n ≤ 3) (hT : T ≤ 40) (hp : ∀ k, k < n → ∀ m x, ps k m = some x → x < 8) (hd : 2 ≤ d) : ∃ x, K_X11_watchedIn X d (nI m) (I, L, ()) = some (some (aI x), (I, L, ())) ∧ ∀ c, bt x c = gA n ps m c := by
  obtain ⟨e, rfl⟩ : ∃ e, d = e + 1 := ⟨d - 1, by omega⟩
  obtain ⟨x, g1, g2⟩ := loop_z (F := fun i (x : Int32) => v_X11_watchedIn_4 X e (nI m) x (nI i) (I, L, ())) (P := fun i x => ∀ c, bt x c = gA i ps m c) n (nI 0) (fun c => bt_0 c) (fun i x hi hP => by
    cases hc : ps i m with
    | none =>
      refine ⟨x, fun c => ?_, fun r hr => ?_⟩
      · rw [hP c]
        show _ = (gA i ps m c || decide (ps i m = some c))
        rw [hc]; simp
      · refine v_X11_watchedIn_4.e X e _ _ _ I L r ?_
        rw [h.1]
        simp (disch := omega) only [m_posOf h, hc, oI, a_bi_i, a_bv_n, a_bl_l, a_bq_q, l_0, l_1, l_2, l_3, l_4, l_5, l_6, l_7, l_8, l_9, l_10, l_12, l_16, l_20, l_24, l_25, l_31, l_32, l_33, l_40, l_48, l_57, l_60, l_63, l_64, l_78, l_85, l_97, l_99, l_100, l_122, l_255, l_325, l_700, l_999, l_1000, l_1200, l_99999, l_100000, l_1000000, l_2000000000, l_N, n_add, n_mul, n_lt, n_out, n_div, n_dm, n_eq, n_toN, n_inN, n_ltN, n_nltN, n_neN, Nat.not_lt_zero, false_or, or_false, ite_y, ite_n, if_true, if_false, ite_tt, ite_ff, b_0, b_1, eq_self_iff_true, Bool.true_eq_false, Bool.false_eq_true]
        have : x ||| nI 0 = x := bt_ext fun k _ => by rw [bt_or, bt_0]; simp
        rw [this]
        exact hr
    | some c0 =>
      have hc8 := hp i hi m c0 hc
      refine ⟨x ||| (nI 1 <<< (nI c0 &&& nI 31)), fun c => ?_, fun r hr => ?_⟩
      · rw [bt_or, hP c, bt_one (by omega)]
        show _ = (gA i ps m c || decide (ps i m = some c))
        rw [hc]
        by_cases ec : c = c0
        · subst ec; simp
        · have : ¬ (c0 = c) := fun q => ec q.symm
          simp [ec, this]
      · refine v_X11_watchedIn_4.e X e _ _ _ I L r ?_
        rw [h.1]
        simp (disch := omega) only [m_posOf h, hc, oI, a_bi_i, a_bv_n, a_bl_l, a_bq_q, l_0, l_1, l_2, l_3, l_4, l_5, l_6, l_7, l_8, l_9, l_10, l_12, l_16, l_20, l_24, l_25, l_31, l_32, l_33, l_40, l_48, l_57, l_60, l_63, l_64, l_78, l_85, l_97, l_99, l_100, l_122, l_255, l_325, l_700, l_999, l_1000, l_1200, l_99999, l_100000, l_1000000, l_2000000000, l_N, n_add, n_mul, n_lt, n_out, n_div, n_dm, n_eq, n_toN, n_inN, n_ltN, n_nltN, n_neN, Nat.not_lt_zero, false_or, or_false, ite_y, ite_n, if_true, if_false, ite_tt, ite_ff, b_0, b_1, eq_self_iff_true, Bool.true_eq_false, Bool.false_eq_true]
        exact hr)
  refine ⟨x, K_X11_watchedIn.e X e _ I L _ (g2 _ (v_X11_watchedIn_4.e X e _ _ _ I L _ ?_)), g1⟩
  rw [h.1]
  simp (disch := omega) only [a_bi_i, a_bv_n, a_bl_l, a_bq_q, l_0, l_1, l_2, l_3, l_4, l_5, l_6, l_7, l_8, l_9, l_10, l_12, l_16, l_20, l_24, l_25, l_31, l_32, l_33, l_40, l_48, l_57, l_60, l_63, l_64, l_78, l_85, l_97, l_99, l_100, l_122, l_255, l_325, l_700, l_999, l_1000, l_1200, l_99999, l_100000, l_1000000, l_2000000000, l_N, n_add, n_mul, n_lt, n_out, n_div, n_dm, n_eq, n_toN, n_inN, n_ltN, n_nltN, n_neN, Nat.not_lt_zero, false_or, or_false, ite_y, ite_n, if_true, if_false, ite_tt, ite_ff, b_0, b_1, eq_self_iff_true, Bool.true_eq_false, Bool.false_eq_true]
theorem q_watched (h : TC I w) (v : Vw w) (a : Int32) : Both w (K_X10_watched X 15 a) (K_X11_watched X 15 a) I L := by
  obtain ⟨⟨h0, h1, h2, h3, h4, h5, h6, -⟩, -, vc, vi, -⟩ := id v
  cases ha : inr a (w 1) with
  | false =>
    refine Both.pure (-2) (K_X10_watched.e X 14 a I L _ ?_) (fun J L2 h => K_X11_watched.e X 14 a J L2 _ ?_)
    · simp (disch := omega) only [c_hasMinute h v, ha, a_bi_i, a_bv_n, a_bl_l, a_bq_q, l_0, l_1, l_2, l_3, l_4, l_5, l_6, l_7, l_8, l_9, l_10, l_12, l_16, l_20, l_24, l_25, l_31, l_32, l_33, l_40, l_48, l_57, l_60, l_63, l_64, l_78, l_85, l_97, l_99, l_100, l_122, l_255, l_325, l_700, l_999, l_1000, l_1200, l_99999, l_100000, l_1000000, l_2000000000, l_N, n_add, n_mul, n_lt, n_out, n_div, n_dm, n_eq, n_toN, n_inN, n_ltN, n_nltN, n_neN, Nat.not_lt_zero, false_or, or_false, ite_y, ite_n, if_true, if_false, ite_tt, ite_ff, b_0, b_1, eq_self_iff_true, Bool.true_eq_false, Bool.false_eq_true]
    · simp (disch := omega) only [m_isMinute h v, ha, a_bi_i, a_bv_n, a_bl_l, a_bq_q, l_0, l_1, l_2, l_3, l_4, l_5, l_6, l_7, l_8, l_9, l_10, l_12, l_16, l_20, l_24, l_25, l_31, l_32, l_33, l_40, l_48, l_57, l_60, l_63, l_64, l_78, l_85, l_97, l_99, l_100, l_122, l_255, l_325, l_700, l_999, l_1000, l_1200, l_99999, l_100000, l_1000000, l_2000000000, l_N, n_add, n_mul, n_lt, n_out, n_div, n_dm, n_eq, n_toN, n_inN, n_ltN, n_nltN, n_neN, Nat.not_lt_zero, false_or, or_false, ite_y, ite_n, if_true, if_false, ite_tt, ite_ff, b_0, b_1, eq_self_iff_true, Bool.true_eq_false, Bool.false_eq_true]
  | true =>
    obtain ⟨m, hm, rfl⟩ := inr_ex (by omega) ha
    obtain ⟨I', f1, f2, f3, f4, f5, f6⟩ := c_openChase (X := X) (d := 14) (L := L) h v (by omega)
    refine Both.mk (I' 21 0 m) I' (K_X10_watched.e X 14 _ I L _ ?_) f2 (fun J L2 hJ => ?_)
    · simp (disch := omega) only [c_hasMinute h v, ha, f1, a_bi_i, a_bv_n, a_bl_l, a_bq_q, l_0, l_1, l_2, l_3, l_4, l_5, l_6, l_7, l_8, l_9, l_10, l_12, l_16, l_20, l_24, l_25, l_31, l_32, l_33, l_40, l_48, l_57, l_60, l_63, l_64, l_78, l_85, l_97, l_99, l_100, l_122, l_255, l_325, l_700, l_999, l_1000, l_1200, l_99999, l_100000, l_1000000, l_2000000000, l_N, n_add, n_mul, n_lt, n_out, n_div, n_dm, n_eq, n_toN, n_inN, n_ltN, n_nltN, n_neN, Nat.not_lt_zero, false_or, or_false, ite_y, ite_n, if_true, if_false, ite_tt, ite_ff, b_0, b_1, eq_self_iff_true, Bool.true_eq_false, Bool.false_eq_true]
    · obtain ⟨J', g1, g2, g3, g4⟩ := sm_asItIs (X := X) (d := 14) (L := L2) hJ v (by omega)
      obtain ⟨x, k1, k2⟩ := m_watchedIn (X := X) (d := 14) (L := L2) g4 hm h5 h1 (fun k hk => psA_lt v hk) (by omega)
      refine ⟨J', K_X11_watched.e X 14 _ J L2 _ ?_, g2⟩
      simp (disch := omega) only [m_isMinute hJ v, ha, g1, k1, a_bi_i, a_bv_n, a_bl_l, a_bq_q, l_0, l_1, l_2, l_3, l_4, l_5, l_6, l_7, l_8, l_9, l_10, l_12, l_16, l_20, l_24, l_25, l_31, l_32, l_33, l_40, l_48, l_57, l_60, l_63, l_64, l_78, l_85, l_97, l_99, l_100, l_122, l_255, l_325, l_700, l_999, l_1000, l_1200, l_99999, l_100000, l_1000000, l_2000000000, l_N, n_add, n_mul, n_lt, n_out, n_div, n_dm, n_eq, n_toN, n_inN, n_ltN, n_nltN, n_neN, Nat.not_lt_zero, false_or, or_false, ite_y, ite_n, if_true, if_false, ite_tt, ite_ff, b_0, b_1, eq_self_iff_true, Bool.true_eq_false, Bool.false_eq_true]
      rw [bt_ext (fun k _ => (k2 k).trans (f6 m hm k).1.symm)]
theorem q_never (h : TC I w) (v : Vw w) : Both w (K_X10_never X 15) (K_X11_never X 15) I L := by
  obtain ⟨⟨h0, h1, h2, h3, h4, h5, h6, -⟩, -, vc, vi, -⟩ := id v
  by_cases ha : 0 < w 7
  · obtain ⟨I', f1, f2, f3, f4, f5, f6⟩ := c_openChase (X := X) (d := 14) (L := L) h v (by omega)
    obtain ⟨x, x1, x2⟩ := loop_z (F := fun m (x : Int32) => v_X10_never_21 X 14 x (nI m) (I', L, ())) (P := fun m x => ∀ c, bt x c = exb m (fun m' => gA (w 5) (psA w) m' c)) (w 1) (nI 0) (fun c => bt_0 c) (fun m x hm hP => by
      refine ⟨x ||| I' 21 0 m, fun c => ?_, fun r hr => ?_⟩
      · rw [bt_or, hP c, (f6 m hm c).1]; rfl
      · refine v_X10_never_21.e X 14 _ _ I' L r ?_
        simp (disch := omega) only [c_minutes f3 v, a_bi_i, a_bv_n, a_bl_l, a_bq_q, l_0, l_1, l_2, l_3, l_4, l_5, l_6, l_7, l_8, l_9, l_10, l_12, l_16, l_20, l_24, l_25, l_31, l_32, l_33, l_40, l_48, l_57, l_60, l_63, l_64, l_78, l_85, l_97, l_99, l_100, l_122, l_255, l_325, l_700, l_999, l_1000, l_1200, l_99999, l_100000, l_1000000, l_2000000000, l_N, n_add, n_mul, n_lt, n_out, n_div, n_dm, n_eq, n_toN, n_inN, n_ltN, n_nltN, n_neN, Nat.not_lt_zero, false_or, or_false, ite_y, ite_n, if_true, if_false, ite_tt, ite_ff, b_0, b_1, eq_self_iff_true, Bool.true_eq_false, Bool.false_eq_true]
        exact hr)
    refine Both.mk (((nI 1 <<< (nI (w 0) &&& nI 31)) - nI 1) &&& (x ^^^ nN)) I' (K_X10_never.e X 14 I L _ ?_) f2 (fun J L2 hJ => ?_)
    · simp (disch := omega) only [c_stands h v, ha, decide_true, f1, a_bi_i, a_bv_n, a_bl_l, a_bq_q, l_0, l_1, l_2, l_3, l_4, l_5, l_6, l_7, l_8, l_9, l_10, l_12, l_16, l_20, l_24, l_25, l_31, l_32, l_33, l_40, l_48, l_57, l_60, l_63, l_64, l_78, l_85, l_97, l_99, l_100, l_122, l_255, l_325, l_700, l_999, l_1000, l_1200, l_99999, l_100000, l_1000000, l_2000000000, l_N, n_add, n_mul, n_lt, n_out, n_div, n_dm, n_eq, n_toN, n_inN, n_ltN, n_nltN, n_neN, Nat.not_lt_zero, false_or, or_false, ite_y, ite_n, if_true, if_false, ite_tt, ite_ff, b_0, b_1, eq_self_iff_true, Bool.true_eq_false, Bool.false_eq_true]
      refine x2 _ (v_X10_never_21.e X 14 _ _ I' L _ ?_)
      simp (disch := omega) only [c_minutes f3 v, c_allCoaches f3, a_bi_i, a_bv_n, a_bl_l, a_bq_q, l_0, l_1, l_2, l_3, l_4, l_5, l_6, l_7, l_8, l_9, l_10, l_12, l_16, l_20, l_24, l_25, l_31, l_32, l_33, l_40, l_48, l_57, l_60, l_63, l_64, l_78, l_85, l_97, l_99, l_100, l_122, l_255, l_325, l_700, l_999, l_1000, l_1200, l_99999, l_100000, l_1000000, l_2000000000, l_N, n_add, n_mul, n_lt, n_out, n_div, n_dm, n_eq, n_toN, n_inN, n_ltN, n_nltN, n_neN, Nat.not_lt_zero, false_or, or_false, ite_y, ite_n, if_true, if_false, ite_tt, ite_ff, b_0, b_1, eq_self_iff_true, Bool.true_eq_false, Bool.false_eq_true]
    · obtain ⟨J', g1, g2, g3, g4⟩ := sm_asItIs (X := X) (d := 14) (L := L2) hJ v (by omega)
      obtain ⟨y, y1, y2⟩ := loop_z (F := fun m (x : Int32) => v_X11_never_27 X 14 x (nI m) (J', L2, ())) (P := fun m x => ∀ c, c < 32 → bt x c = (decide (c < w 0) && !(exb m (fun m' => gA (w 5) (psA w) m' c)))) (w 1) ((nI 1 <<< (nI (w 0) &&& nI 31)) - nI 1) (fun c _ => by rw [bt_all (by omega)]; simp [exb]) (fun m x hm hP => by
        obtain ⟨z, k1, k2⟩ := m_watchedIn (X := X) (d := 14) (L := L2) g4 hm h5 h1 (fun k hk => psA_lt v hk) (by omega)
        refine ⟨x &&& (z ^^^ nN), fun c hc => ?_, fun r hr => ?_⟩
        · rw [bt_and, hP c hc, bt_not _ hc, k2 c]
          show _ = (decide (c < w 0) && !(exb m (fun m' => gA (w 5) (psA w) m' c) || gA (w 5) (psA w) m c))
          cases decide (c < w 0) <;> cases exb m (fun m' => gA (w 5) (psA w) m' c) <;> cases gA (w 5) (psA w) m c <;> rfl
        · refine v_X11_never_27.e X 14 _ _ J' L2 r ?_
          simp (disch := omega) only [m_minutes g3 v, k1, a_bi_i, a_bv_n, a_bl_l, a_bq_q, l_0, l_1, l_2, l_3, l_4, l_5, l_6, l_7, l_8, l_9, l_10, l_12, l_16, l_20, l_24, l_25, l_31, l_32, l_33, l_40, l_48, l_57, l_60, l_63, l_64, l_78, l_85, l_97, l_99, l_100, l_122, l_255, l_325, l_700, l_999, l_1000, l_1200, l_99999, l_100000, l_1000000, l_2000000000, l_N, n_add, n_mul, n_lt, n_out, n_div, n_dm, n_eq, n_toN, n_inN, n_ltN, n_nltN, n_neN, Nat.not_lt_zero, false_or, or_false, ite_y, ite_n, if_true, if_false, ite_tt, ite_ff, b_0, b_1, eq_self_iff_true, Bool.true_eq_false, Bool.false_eq_true]
          exact hr)
      refine ⟨J', K_X11_never.e X 14 J L2 _ ?_, g2⟩
      simp (disch := omega) only [m_isTrain hJ v, ha, decide_true, g1, a_bi_i, a_bv_n, a_bl_l, a_bq_q, l_0, l_1, l_2, l_3, l_4, l_5, l_6, l_7, l_8, l_9, l_10, l_12, l_16, l_20, l_24, l_25, l_31, l_32, l_33, l_40, l_48, l_57, l_60, l_63, l_64, l_78, l_85, l_97, l_99, l_100, l_122, l_255, l_325, l_700, l_999, l_1000, l_1200, l_99999, l_100000, l_1000000, l_2000000000, l_N, n_add, n_mul, n_lt, n_out, n_div, n_dm, n_eq, n_toN, n_inN, n_ltN, n_nltN, n_neN, Nat.not_lt_zero, false_or, or_false, ite_y, ite_n, if_true, if_false, ite_tt, ite_ff, b_0, b_1, eq_self_iff_true, Bool.true_eq_false, Bool.false_eq_true, g3 0 (by decide)]
      have e : ((nI 1 <<< (nI (w 0) &&& nI 31)) - nI 1) &&& (x ^^^ nN) = y := bt_ext fun k hk => by
        rw [bt_and, bt_all (by omega), bt_not _ hk, x1 k, y1 k hk]
      rw [e]
      refine y2 _ (v_X11_never_27.e X 14 _ _ J' L2 _ ?_)
      simp (disch := omega) only [m_minutes g3 v, a_bi_i, a_bv_n, a_bl_l, a_bq_q, l_0, l_1, l_2, l_3, l_4, l_5, l_6, l_7, l_8, l_9, l_10, l_12, l_16, l_20, l_24, l_25, l_31, l_32, l_33, l_40, l_48, l_57, l_60, l_63, l_64, l_78, l_85, l_97, l_99, l_100, l_122, l_255, l_325, l_700, l_999, l_1000, l_1200, l_99999, l_100000, l_1000000, l_2000000000, l_N, n_add, n_mul, n_lt, n_out, n_div, n_dm, n_eq, n_toN, n_inN, n_ltN, n_nltN, n_neN, Nat.not_lt_zero, false_or, or_false, ite_y, ite_n, if_true, if_false, ite_tt, ite_ff, b_0, b_1, eq_self_iff_true, Bool.true_eq_false, Bool.false_eq_true]
  · refine Both.pure (-2) (K_X10_never.e X 14 I L _ ?_) (fun J L2 h => K_X11_never.e X 14 J L2 _ ?_)
    · simp (disch := omega) only [c_stands h v, ha, decide_false, a_bi_i, a_bv_n, a_bl_l, a_bq_q, l_0, l_1, l_2, l_3, l_4, l_5, l_6, l_7, l_8, l_9, l_10, l_12, l_16, l_20, l_24, l_25, l_31, l_32, l_33, l_40, l_48, l_57, l_60, l_63, l_64, l_78, l_85, l_97, l_99, l_100, l_122, l_255, l_325, l_700, l_999, l_1000, l_1200, l_99999, l_100000, l_1000000, l_2000000000, l_N, n_add, n_mul, n_lt, n_out, n_div, n_dm, n_eq, n_toN, n_inN, n_ltN, n_nltN, n_neN, Nat.not_lt_zero, false_or, or_false, ite_y, ite_n, if_true, if_false, ite_tt, ite_ff, b_0, b_1, eq_self_iff_true, Bool.true_eq_false, Bool.false_eq_true]
    · simp (disch := omega) only [m_isTrain h v, ha, decide_false, a_bi_i, a_bv_n, a_bl_l, a_bq_q, l_0, l_1, l_2, l_3, l_4, l_5, l_6, l_7, l_8, l_9, l_10, l_12, l_16, l_20, l_24, l_25, l_31, l_32, l_33, l_40, l_48, l_57, l_60, l_63, l_64, l_78, l_85, l_97, l_99, l_100, l_122, l_255, l_325, l_700, l_999, l_1000, l_1200, l_99999, l_100000, l_1000000, l_2000000000, l_N, n_add, n_mul, n_lt, n_out, n_div, n_dm, n_eq, n_toN, n_inN, n_ltN, n_nltN, n_neN, Nat.not_lt_zero, false_or, or_false, ite_y, ite_n, if_true, if_false, ite_tt, ite_ff, b_0, b_1, eq_self_iff_true, Bool.true_eq_false, Bool.false_eq_true]
end
