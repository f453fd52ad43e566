/-! leaves, begin -/
section
variable {X : AX} {d : Nat} {I J : A3 Int32} {L : A3 Int64} {w : TW}
def psB (w : TW) (b : Nat) (_ m : Nat) : Option Nat := crs w 0 b m
def knB (w : TW) (_ : Nat) : Nat := w 36
def lvN (w : TW) (b : Nat) : Nat := sfN w 1 (psB w b) (knB w) (loB w) (doB w)
theorem lvN_le {b : Nat} : lvN w b ≤ 9 := sfN_le
theorem psB_lt (v : Vw w) (h5 : 0 < w 5) {b : Nat} (hb : b < 2 * w 0) : ∀ k, k < 1 → ∀ m x, psB w b k m = some x → x < 8 := fun k _ m x hx => by
  have := crs_lt v h5 hb hx
  have := v.1.1
  omega
theorem c_openBy {b : Nat} (h : TC I w) (v : Vw w) (h5 : 0 < w 5) (hb : b < 2 * w 0) (hd : 6 ≤ d) : ∃ J, K_X10_openBy X d (nI b) (I, L, ()) = some (some (aI (nI (lvN w b))), (J, L, ())) ∧ Sc I J := by
  obtain ⟨e, rfl⟩ : ∃ e, d = e + 1 := ⟨d - 1, by omega⟩
  obtain ⟨⟨w0, w1, -⟩, -, vc, vi, -⟩ := id v
  have hT : 0 < w 1 := (v.live (Or.inr (Or.inr (Or.inl h5)))).2.2.1
  obtain ⟨J1, f1, f2, f3⟩ := c_follow (X := X) (d := e) (L := L) (q := b + 3) h v h5 hb (by omega)
  have s1 : Sc I J1 := Sc.of (Rq.rw (l := [14]) f2 (by decide)).fm (by decide)
  have t1 : TC J1 w := h.sc s1
  obtain ⟨J2, g1, g2, g3, g4⟩ := c_restart (X := X) (d := e) (L := L) (q := 0) t1 v (by omega)
  have s2 : Sc J1 J2 := Sc.of g2.fm (by decide)
  have t2 : TC J2 w := t1.sc s2
  have hrow : ∀ m, m < w 1 → J2 14 (b + 3) m = oI (psB w b 0 m) := fun m hm => by rw [g2 14 (b + 3) (Or.inl (by decide))]; exact f3 m hm
  obtain ⟨J3, k1, k2⟩ := c_add (X := X) (d := e) (L := L) (q := 0) (a := b + 3) (kb := decide (0 < w 36)) (p := psB w b 0) w1 g3.1 (fun m x hx => psB_lt v h5 hb 0 (by decide) m x hx) hrow (by omega)
  have c3 : CA J3 0 (w 1) 1 (psB w b) (knB w) := (CA.zero (ps := psB w b) (kn := knB w) g4 w1).succ rfl k2
  have s3 : Sc J2 J3 := Sc.of k2.1.fm (by decide)
  have f3' : CF J3 0 (w 1) (w 0) (loB w) (doB w) := by unfold CF; rw [k2.1 20 0 (Or.inl (by decide))]; exact g3
  obtain ⟨J4, z, o1, o2, o3⟩ := c_count (X := X) (d := e) (L := L) (t2.sc s3) v hT ⟨_, _, f3'⟩ c3 f3'.2.2.1 f3'.2.2.2 (fun c hc => loB_lt hc) (fun c hc => doB_lt hc) rfl rfl (by omega)
  have o3' : K_J6_bitCount_0f7a4 X e z (J4, L, ()) = some (some (aI (nI (lvN w b))), (J4, L, ())) := o3 J4
  refine ⟨J4, K_X10_openBy.e X e _ I L _ ?_, ((s1.trans s2).trans s3).trans (Sc.of o2.fm (by decide))⟩
  have h36 := (vi 0 h5).2.2.2.1
  have f1' : K_X1_follow X e (b + 3) 0 (nI 0) (nI b) (I, L, ()) = some (none, (J1, L, ())) := f1
  by_cases hk : 0 < w 36
  · rw [decide_eq_true hk] at k1
    have k1' : K_X0_add X e 0 (b + 3) (nI 1) (J2, L, ()) = some (none, (J3, L, ())) := k1
    simp (disch := omega) only [a_bi_i, a_bv_n, a_bl_l, a_bq_q, l_0, l_1, l_2, l_3, l_4, l_5, l_6, l_7, l_8, l_9, l_10, l_12, l_16, l_20, l_24, l_25, l_31, l_32, l_33, l_40, l_48, l_57, l_60, l_63, l_64, l_78, l_85, l_97, l_99, l_100, l_122, l_255, l_325, l_700, l_999, l_1000, l_1200, l_99999, l_100000, l_1000000, l_2000000000, l_N, n_add, n_mul, n_lt, n_out, n_div, n_dm, n_eq, n_toN, n_inN, n_ltN, n_nltN, n_neN, Nat.not_lt_zero, false_or, or_false, ite_y, ite_n, if_true, if_false, ite_tt, ite_ff, b_0, b_1, eq_self_iff_true, Bool.true_eq_false, Bool.false_eq_true, f1', g1, c_oi3 t2 v, hk, k1', o1, o3']
  · rw [decide_eq_false hk] at k1
    have k1' : K_X0_add X e 0 (b + 3) (nI 0) (J2, L, ()) = some (none, (J3, L, ())) := k1
    simp (disch := omega) only [a_bi_i, a_bv_n, a_bl_l, a_bq_q, l_0, l_1, l_2, l_3, l_4, l_5, l_6, l_7, l_8, l_9, l_10, l_12, l_16, l_20, l_24, l_25, l_31, l_32, l_33, l_40, l_48, l_57, l_60, l_63, l_64, l_78, l_85, l_97, l_99, l_100, l_122, l_255, l_325, l_700, l_999, l_1000, l_1200, l_99999, l_100000, l_1000000, l_2000000000, l_N, n_add, n_mul, n_lt, n_out, n_div, n_dm, n_eq, n_toN, n_inN, n_ltN, n_nltN, n_neN, Nat.not_lt_zero, false_or, or_false, ite_y, ite_n, if_true, if_false, ite_tt, ite_ff, b_0, b_1, eq_self_iff_true, Bool.true_eq_false, Bool.false_eq_true, f1', g1, c_oi3 t2 v, hk, k1', o1, o3']
theorem m_leavesOf {b : Nat} (h : TM I w) (v : Vw w) (h5 : 0 < w 5) (hb : b < 2 * w 0) (hd : 7 ≤ d) : ∃ J, K_X11_leavesOf X d (nI b) (I, L, ()) = some (some (aI (nI (lvN w b))), (J, L, ())) ∧ Sm I J := by
  obtain ⟨e, rfl⟩ : ∃ e, d = e + 1 := ⟨d - 1, by omega⟩
  obtain ⟨⟨w0, w1, -⟩, -, vc, vi, -⟩ := id v
  have hT : 0 < w 1 := (v.live (Or.inr (Or.inr (Or.inl h5)))).2.2.1
  obtain ⟨J1, f1, f2, f3⟩ := m_places (X := X) (d := e) (L := L) h v (by omega)
  have s2 : Sm I (up3 J1 40 0 17 (nI 1)) := ⟨fun f hf => by rw [u3_f _ _ (fun z => hf (by rw [z]; decide))]; exact f2.sm.1 f hf, fun j hj => by rw [u3_j _ _ (by omega)]; exact f2.sm.2 j hj⟩
  have t2 : TM (up3 J1 40 0 17 (nI 1)) w := h.sm s2
  obtain ⟨J3, g1, g2, g3, g4, g5, g6⟩ := m_lay (X := X) (d := e) (L := L) (i := 0) (b := b) (k := 0) t2 v h5 hb (by decide) (by omega)
  have s3 : Sm (up3 J1 40 0 17 (nI 1)) J3 := Sm.of g2 (by decide)
  have q3 : QM J3 (loB w) (doB w) := by
    unfold QM
    rw [g2 40 (by decide), u3_j _ _ (by decide), u3_j _ _ (by decide)]
    exact f3
  have p3 : PM J3 (w 1) 1 (psB w b) (knB w) := by
    refine ⟨?_, fun k hk m hm => ?_, fun k hk => ?_⟩
    · rw [g2 40 (by decide), u3_eq]
    · have : k = 0 := by omega
      subst this
      exact g3 m hm
    · have : k = 0 := by omega
      subst this
      exact g5
  have h36 := (vi 0 h5).2.2.2.1
  obtain ⟨J4, o1, o2, o3⟩ := m_fillPlaces (X := X) (d := e) (L := L) (t2.sm s3) v q3 p3 (by decide) (psB_lt v h5 hb) (fun k _ => h36) hT (by omega)
  have s4 : Sm J3 J4 := Sm.of o2 (by decide)
  obtain ⟨x, x1, x2⟩ := m_safeNow (X := X) (d := e) (L := L) ((t2.sm s3).sm s4) v o3 hT (by omega)
  refine ⟨J4, K_X11_leavesOf.e X e _ I L _ ?_, (s2.trans s3).trans s4⟩
  have g1' : K_X11_lay X e (nI 0) (nI 0) (nI b) (up3 J1 40 0 17 (nI 1), L, ()) = some (none, (J3, L, ())) := g1
  simp (disch := omega) only [a_bi_i, a_bv_n, a_bl_l, a_bq_q, l_0, l_1, f1, g1', o1, x1, m_bits]
  rw [show bt x = fun c => canF w 1 (psB w b) (knB w) (loB w) (doB w) 0 (c, false) from funext x2]
  rfl
theorem q_leaves (h : TC I w) (v : Vw w) (a : Int32) : Both w (K_X10_leaves X 15 a) (K_X11_leaves X 15 a) I L := by
  obtain ⟨⟨h0, h1, h2, h3, h4, h5, h6, -⟩, -, vc, -⟩ := id v
  by_cases h5' : 0 < w 5
  · have hi : inr (nI 0) (w 5) = true := by rw [inr_n (by omega) (by omega)]; simp [h5']
    cases ha : inr a (2 * w 0) with
    | false =>
      refine Both.pure (-2) (K_X10_leaves.e X 14 a I L _ ?_) (fun J L2 h => K_X11_leaves.e X 14 a J L2 _ ?_)
      · simp (disch := omega) only [c_hasInspector h v, hi, c_hasBegin h v, ha, a_bi_i, a_bv_n, a_bl_l, a_bq_q, l_0, l_1, l_2, l_3, l_4, l_5, l_6, l_7, l_8, l_9, l_10, l_12, l_16, l_20, l_24, l_25, l_31, l_32, l_33, l_40, l_48, l_57, l_60, l_63, l_64, l_78, l_85, l_97, l_99, l_100, l_122, l_255, l_325, l_700, l_999, l_1000, l_1200, l_99999, l_100000, l_1000000, l_2000000000, l_N, n_add, n_mul, n_lt, n_out, n_div, n_dm, n_eq, n_toN, n_inN, n_ltN, n_nltN, n_neN, Nat.not_lt_zero, false_or, or_false, ite_y, ite_n, if_true, if_false, ite_tt, ite_ff, b_0, b_1, eq_self_iff_true, Bool.true_eq_false, Bool.false_eq_true]
      · rw [h 5 (by decide)]
        simp (disch := omega) only [m_isBegin h v, ha, h5', a_bi_i, a_bv_n, a_bl_l, a_bq_q, l_0, l_1, l_2, l_3, l_4, l_5, l_6, l_7, l_8, l_9, l_10, l_12, l_16, l_20, l_24, l_25, l_31, l_32, l_33, l_40, l_48, l_57, l_60, l_63, l_64, l_78, l_85, l_97, l_99, l_100, l_122, l_255, l_325, l_700, l_999, l_1000, l_1200, l_99999, l_100000, l_1000000, l_2000000000, l_N, n_add, n_mul, n_lt, n_out, n_div, n_dm, n_eq, n_toN, n_inN, n_ltN, n_nltN, n_neN, Nat.not_lt_zero, false_or, or_false, ite_y, ite_n, if_true, if_false, ite_tt, ite_ff, b_0, b_1, eq_self_iff_true, Bool.true_eq_false, Bool.false_eq_true]
    | true =>
      obtain ⟨b, hb, rfl⟩ := inr_ex (by omega) ha
      obtain ⟨J, f1, f2⟩ := c_openBy (X := X) (d := 14) (L := L) h v h5' hb (by omega)
      refine Both.mk (nI (lvN w b)) J (K_X10_leaves.e X 14 _ I L _ ?_) f2 (fun M L2 hM' => ?_)
      · simp (disch := omega) only [c_hasInspector h v, hi, c_hasBegin h v, ha, f1, a_bi_i, a_bv_n, a_bl_l, a_bq_q, l_0, l_1, l_2, l_3, l_4, l_5, l_6, l_7, l_8, l_9, l_10, l_12, l_16, l_20, l_24, l_25, l_31, l_32, l_33, l_40, l_48, l_57, l_60, l_63, l_64, l_78, l_85, l_97, l_99, l_100, l_122, l_255, l_325, l_700, l_999, l_1000, l_1200, l_99999, l_100000, l_1000000, l_2000000000, l_N, n_add, n_mul, n_lt, n_out, n_div, n_dm, n_eq, n_toN, n_inN, n_ltN, n_nltN, n_neN, Nat.not_lt_zero, false_or, or_false, ite_y, ite_n, if_true, if_false, ite_tt, ite_ff, b_0, b_1, eq_self_iff_true, Bool.true_eq_false, Bool.false_eq_true]
      · obtain ⟨M', g1, g2⟩ := m_leavesOf (X := X) (d := 14) (L := L2) hM' v h5' hb (by omega)
        refine ⟨M', K_X11_leaves.e X 14 _ M L2 _ ?_, g2⟩
        rw [hM' 5 (by decide)]
        simp (disch := omega) only [m_isBegin hM' v, ha, h5', g1, a_bi_i, a_bv_n, a_bl_l, a_bq_q, l_0, l_1, l_2, l_3, l_4, l_5, l_6, l_7, l_8, l_9, l_10, l_12, l_16, l_20, l_24, l_25, l_31, l_32, l_33, l_40, l_48, l_57, l_60, l_63, l_64, l_78, l_85, l_97, l_99, l_100, l_122, l_255, l_325, l_700, l_999, l_1000, l_1200, l_99999, l_100000, l_1000000, l_2000000000, l_N, n_add, n_mul, n_lt, n_out, n_div, n_dm, n_eq, n_toN, n_inN, n_ltN, n_nltN, n_neN, Nat.not_lt_zero, false_or, or_false, ite_y, ite_n, if_true, if_false, ite_tt, ite_ff, b_0, b_1, eq_self_iff_true, Bool.true_eq_false, Bool.false_eq_true]
  · have hz : w 5 = 0 := by omega
    have hi : inr (nI 0) (w 5) = false := by rw [inr_n (by omega) (by omega)]; simp [hz]
    refine Both.pure (-2) (K_X10_leaves.e X 14 a I L _ ?_) (fun J L2 h => K_X11_leaves.e X 14 a J L2 _ ?_)
    · simp (disch := omega) only [c_hasInspector h v, hi, a_bi_i, a_bv_n, a_bl_l, a_bq_q, l_0, l_1, l_2, l_3, l_4, l_5, l_6, l_7, l_8, l_9, l_10, l_12, l_16, l_20, l_24, l_25, l_31, l_32, l_33, l_40, l_48, l_57, l_60, l_63, l_64, l_78, l_85, l_97, l_99, l_100, l_122, l_255, l_325, l_700, l_999, l_1000, l_1200, l_99999, l_100000, l_1000000, l_2000000000, l_N, n_add, n_mul, n_lt, n_out, n_div, n_dm, n_eq, n_toN, n_inN, n_ltN, n_nltN, n_neN, Nat.not_lt_zero, false_or, or_false, ite_y, ite_n, if_true, if_false, ite_tt, ite_ff, b_0, b_1, eq_self_iff_true, Bool.true_eq_false, Bool.false_eq_true]
    · rw [h 5 (by decide)]
      simp (disch := omega) only [h5', a_bi_i, a_bv_n, a_bl_l, a_bq_q, l_0, l_1, l_2, l_3, l_4, l_5, l_6, l_7, l_8, l_9, l_10, l_12, l_16, l_20, l_24, l_25, l_31, l_32, l_33, l_40, l_48, l_57, l_60, l_63, l_64, l_78, l_85, l_97, l_99, l_100, l_122, l_255, l_325, l_700, l_999, l_1000, l_1200, l_99999, l_100000, l_1000000, l_2000000000, l_N, n_add, n_mul, n_lt, n_out, n_div, n_dm, n_eq, n_toN, n_inN, n_ltN, n_nltN, n_neN, Nat.not_lt_zero, false_or, or_false, ite_y, ite_n, if_true, if_false, ite_tt, ite_ff, b_0, b_1, eq_self_iff_true, Bool.true_eq_false, Bool.false_eq_true]
def bgB (w : TW) : Nat → Nat
  | 0 => 0
  | k + 1 => if lvN w k < lvN w (bgB w k) then k else bgB w k
theorem bgB_lt : ∀ k, bgB w (k + 1) ≤ k := by
  intro k
  induction k with
  | zero => unfold bgB; split <;> simp [bgB]
  | succ k ih =>
    rw [bgB]
    split
    · omega
    · omega
theorem bgB_1 : bgB w 1 = 0 := Nat.le_zero.mp (bgB_lt (w := w) 0)
theorem q_begin (h : TC I w) (v : Vw w) : Both w (K_X10_begin X 15) (K_X11_begin X 15) I L := by
  obtain ⟨⟨h0, h1, h2, h3, h4, h5, h6, -⟩, -, vc, -⟩ := id v
  by_cases h5' : 0 < w 5
  · have hi : inr (nI 0) (w 5) = true := by rw [inr_n (by omega) (by omega)]; simp [h5']
    have hw0 : 2 ≤ w 0 := (v.live (Or.inr (Or.inr (Or.inl h5')))).2.1
    obtain ⟨J, f1, f2⟩ := c_openBy (X := X) (d := 14) (L := L) (b := 0) h v h5' (by omega) (by omega)
    obtain ⟨Jn, a1, a2⟩ := loop_up (F := fun k (K : A3 Int32) => v_X10_begin_24 X 14 (nI (bgB w k)) (nI (lvN w (bgB w k))) (nI k) (K, L, ())) (P := fun k K => Sc I K ∧ 1 ≤ k) (n := 2 * w 0) (fun k K hk hP => by
      obtain ⟨s1, hk1⟩ := hP
      have tK : TC K w := h.sc s1
      obtain ⟨K2, g1, g2⟩ := c_openBy (X := X) (d := 14) (L := L) tK v h5' hk (by omega)
      refine ⟨K2, ⟨s1.trans g2, by omega⟩, fun r hr => ?_⟩
      refine v_X10_begin_24.e X 14 _ _ _ K L r ?_
      have b1 : lvN w k ≤ 9 := lvN_le
      have b2 : lvN w (bgB w k) ≤ 9 := lvN_le
      rw [bgB] at hr
      by_cases hlt : lvN w k < lvN w (bgB w k)
      · rw [if_pos hlt] at hr
        simp (disch := omega) only [a_bi_i, a_bv_n, a_bl_l, a_bq_q, l_0, l_1, l_2, l_3, l_4, l_5, l_6, l_7, l_8, l_9, l_10, l_12, l_16, l_20, l_24, l_25, l_31, l_32, l_33, l_40, l_48, l_57, l_60, l_63, l_64, l_78, l_85, l_97, l_99, l_100, l_122, l_255, l_325, l_700, l_999, l_1000, l_1200, l_99999, l_100000, l_1000000, l_2000000000, l_N, n_add, n_mul, n_lt, n_out, n_div, n_dm, n_eq, n_toN, n_inN, n_ltN, n_nltN, n_neN, Nat.not_lt_zero, false_or, or_false, ite_y, ite_n, if_true, if_false, ite_tt, ite_ff, b_0, b_1, eq_self_iff_true, Bool.true_eq_false, Bool.false_eq_true, c_beginCount tK v, g1]
        exact hr
      · rw [if_neg hlt] at hr
        simp (disch := omega) only [a_bi_i, a_bv_n, a_bl_l, a_bq_q, l_0, l_1, l_2, l_3, l_4, l_5, l_6, l_7, l_8, l_9, l_10, l_12, l_16, l_20, l_24, l_25, l_31, l_32, l_33, l_40, l_48, l_57, l_60, l_63, l_64, l_78, l_85, l_97, l_99, l_100, l_122, l_255, l_325, l_700, l_999, l_1000, l_1200, l_99999, l_100000, l_1000000, l_2000000000, l_N, n_add, n_mul, n_lt, n_out, n_div, n_dm, n_eq, n_toN, n_inN, n_ltN, n_nltN, n_neN, Nat.not_lt_zero, false_or, or_false, ite_y, ite_n, if_true, if_false, ite_tt, ite_ff, b_0, b_1, eq_self_iff_true, Bool.true_eq_false, Bool.false_eq_true, c_beginCount tK v, g1, hlt]
        exact hr) (2 * w 0 - 1) 1 J (by omega) ⟨f2, by omega⟩
    have tn : TC Jn w := h.sc a1.1
    refine Both.mk (nI (bgB w (2 * w 0))) Jn (K_X10_begin.e X 14 I L _ ?_) a1.1 (fun M L2 hM' => ?_)
    · have f1' : K_X10_openBy X 14 (nI 0) (I, L, ()) = some (some (aI (nI (lvN w 0))), (J, L, ())) := f1
      simp (disch := omega) only [c_hasInspector h v, hi, f1', a_bi_i, a_bv_n, a_bl_l, a_bq_q, l_0, l_1, l_2, l_3, l_4, l_5, l_6, l_7, l_8, l_9, l_10, l_12, l_16, l_20, l_24, l_25, l_31, l_32, l_33, l_40, l_48, l_57, l_60, l_63, l_64, l_78, l_85, l_97, l_99, l_100, l_122, l_255, l_325, l_700, l_999, l_1000, l_1200, l_99999, l_100000, l_1000000, l_2000000000, l_N, n_add, n_mul, n_lt, n_out, n_div, n_dm, n_eq, n_toN, n_inN, n_ltN, n_nltN, n_neN, Nat.not_lt_zero, false_or, or_false, ite_y, ite_n, if_true, if_false, ite_tt, ite_ff, b_0, b_1, eq_self_iff_true, Bool.true_eq_false, Bool.false_eq_true]
      rw [bgB_1] at a2
      refine a2 _ (v_X10_begin_24.e X 14 _ _ _ Jn L _ ?_)
      simp (disch := omega) only [a_bi_i, a_bv_n, a_bl_l, a_bq_q, l_0, l_1, l_2, l_3, l_4, l_5, l_6, l_7, l_8, l_9, l_10, l_12, l_16, l_20, l_24, l_25, l_31, l_32, l_33, l_40, l_48, l_57, l_60, l_63, l_64, l_78, l_85, l_97, l_99, l_100, l_122, l_255, l_325, l_700, l_999, l_1000, l_1200, l_99999, l_100000, l_1000000, l_2000000000, l_N, n_add, n_mul, n_lt, n_out, n_div, n_dm, n_eq, n_toN, n_inN, n_ltN, n_nltN, n_neN, Nat.not_lt_zero, false_or, or_false, ite_y, ite_n, if_true, if_false, ite_tt, ite_ff, b_0, b_1, eq_self_iff_true, Bool.true_eq_false, Bool.false_eq_true, c_beginCount tn v, Nat.lt_irrefl]
    · obtain ⟨Mn, c1, c2⟩ := loop_up (F := fun k (K : A3 Int32) => v_X11_begin_16 X 14 (nI (bgB w k)) (nI k) (K, L2, ())) (P := fun k K => Sm M K ∧ 1 ≤ k) (n := 2 * w 0) (fun k K hk hP => by
        obtain ⟨s1, hk1⟩ := hP
        have tK : TM K w := hM'.sm s1
        obtain ⟨K2, g1, g2⟩ := m_leavesOf (X := X) (d := 14) (L := L2) tK v h5' hk (by omega)
        have hbk : bgB w k < 2 * w 0 := by
          obtain ⟨j, rfl⟩ : ∃ j, k = j + 1 := ⟨k - 1, by omega⟩
          have := bgB_lt (w := w) j
          omega
        obtain ⟨K3, g3, g4⟩ := m_leavesOf (X := X) (d := 14) (L := L2) (tK.sm g2) v h5' hbk (by omega)
        refine ⟨K3, ⟨(s1.trans g2).trans g4, by omega⟩, fun r hr => ?_⟩
        refine v_X11_begin_16.e X 14 _ _ K L2 r ?_
        rw [tK 0 (by decide)]
        have b1 : lvN w k ≤ 9 := lvN_le
        have b2 : lvN w (bgB w k) ≤ 9 := lvN_le
        rw [bgB] at hr
        by_cases hlt : lvN w k < lvN w (bgB w k)
        · rw [if_pos hlt] at hr
          simp (disch := omega) only [a_bi_i, a_bv_n, a_bl_l, a_bq_q, l_0, l_1, l_2, l_3, l_4, l_5, l_6, l_7, l_8, l_9, l_10, l_12, l_16, l_20, l_24, l_25, l_31, l_32, l_33, l_40, l_48, l_57, l_60, l_63, l_64, l_78, l_85, l_97, l_99, l_100, l_122, l_255, l_325, l_700, l_999, l_1000, l_1200, l_99999, l_100000, l_1000000, l_2000000000, l_N, n_add, n_mul, n_lt, n_out, n_div, n_dm, n_eq, n_toN, n_inN, n_ltN, n_nltN, n_neN, Nat.not_lt_zero, false_or, or_false, ite_y, ite_n, if_true, if_false, ite_tt, ite_ff, b_0, b_1, eq_self_iff_true, Bool.true_eq_false, Bool.false_eq_true, g1, g3]
          exact hr
        · rw [if_neg hlt] at hr
          simp (disch := omega) only [a_bi_i, a_bv_n, a_bl_l, a_bq_q, l_0, l_1, l_2, l_3, l_4, l_5, l_6, l_7, l_8, l_9, l_10, l_12, l_16, l_20, l_24, l_25, l_31, l_32, l_33, l_40, l_48, l_57, l_60, l_63, l_64, l_78, l_85, l_97, l_99, l_100, l_122, l_255, l_325, l_700, l_999, l_1000, l_1200, l_99999, l_100000, l_1000000, l_2000000000, l_N, n_add, n_mul, n_lt, n_out, n_div, n_dm, n_eq, n_toN, n_inN, n_ltN, n_nltN, n_neN, Nat.not_lt_zero, false_or, or_false, ite_y, ite_n, if_true, if_false, ite_tt, ite_ff, b_0, b_1, eq_self_iff_true, Bool.true_eq_false, Bool.false_eq_true, g1, g3, hlt]
          exact hr) (2 * w 0 - 1) 1 M (by omega) ⟨Sm.refl, by omega⟩
      refine ⟨Mn, K_X11_begin.e X 14 M L2 _ ?_, c1.1⟩
      rw [hM' 5 (by decide)]
      have hne : ¬ w 5 = 0 := by omega
      rw [bgB_1] at c2
      simp (disch := omega) only [hne, a_bi_i, a_bv_n, a_bl_l, a_bq_q, l_0, l_1, l_2, l_3, l_4, l_5, l_6, l_7, l_8, l_9, l_10, l_12, l_16, l_20, l_24, l_25, l_31, l_32, l_33, l_40, l_48, l_57, l_60, l_63, l_64, l_78, l_85, l_97, l_99, l_100, l_122, l_255, l_325, l_700, l_999, l_1000, l_1200, l_99999, l_100000, l_1000000, l_2000000000, l_N, n_add, n_mul, n_lt, n_out, n_div, n_dm, n_eq, n_toN, n_inN, n_ltN, n_nltN, n_neN, Nat.not_lt_zero, false_or, or_false, ite_y, ite_n, if_true, if_false, ite_tt, ite_ff, b_0, b_1, eq_self_iff_true, Bool.true_eq_false, Bool.false_eq_true]
      refine c2 _ (v_X11_begin_16.e X 14 _ _ Mn L2 _ ?_)
      rw [(hM'.sm c1.1) 0 (by decide)]
      simp (disch := omega) only [a_bi_i, a_bv_n, a_bl_l, a_bq_q, l_0, l_1, l_2, l_3, l_4, l_5, l_6, l_7, l_8, l_9, l_10, l_12, l_16, l_20, l_24, l_25, l_31, l_32, l_33, l_40, l_48, l_57, l_60, l_63, l_64, l_78, l_85, l_97, l_99, l_100, l_122, l_255, l_325, l_700, l_999, l_1000, l_1200, l_99999, l_100000, l_1000000, l_2000000000, l_N, n_add, n_mul, n_lt, n_out, n_div, n_dm, n_eq, n_toN, n_inN, n_ltN, n_nltN, n_neN, Nat.not_lt_zero, false_or, or_false, ite_y, ite_n, if_true, if_false, ite_tt, ite_ff, b_0, b_1, eq_self_iff_true, Bool.true_eq_false, Bool.false_eq_true, Nat.lt_irrefl]
  · have hz : w 5 = 0 := by omega
    have hi : inr (nI 0) (w 5) = false := by rw [inr_n (by omega) (by omega)]; simp [hz]
    refine Both.pure (-2) (K_X10_begin.e X 14 I L _ ?_) (fun J L2 h => K_X11_begin.e X 14 J L2 _ ?_)
    · simp (disch := omega) only [c_hasInspector h v, hi, a_bi_i, a_bv_n, a_bl_l, a_bq_q, l_0, l_1, l_2, l_3, l_4, l_5, l_6, l_7, l_8, l_9, l_10, l_12, l_16, l_20, l_24, l_25, l_31, l_32, l_33, l_40, l_48, l_57, l_60, l_63, l_64, l_78, l_85, l_97, l_99, l_100, l_122, l_255, l_325, l_700, l_999, l_1000, l_1200, l_99999, l_100000, l_1000000, l_2000000000, l_N, n_add, n_mul, n_lt, n_out, n_div, n_dm, n_eq, n_toN, n_inN, n_ltN, n_nltN, n_neN, Nat.not_lt_zero, false_or, or_false, ite_y, ite_n, if_true, if_false, ite_tt, ite_ff, b_0, b_1, eq_self_iff_true, Bool.true_eq_false, Bool.false_eq_true]
    · rw [h 5 (by decide)]
      simp (disch := omega) only [hz, a_bi_i, a_bv_n, a_bl_l, a_bq_q, l_0, l_1, l_2, l_3, l_4, l_5, l_6, l_7, l_8, l_9, l_10, l_12, l_16, l_20, l_24, l_25, l_31, l_32, l_33, l_40, l_48, l_57, l_60, l_63, l_64, l_78, l_85, l_97, l_99, l_100, l_122, l_255, l_325, l_700, l_999, l_1000, l_1200, l_99999, l_100000, l_1000000, l_2000000000, l_N, n_add, n_mul, n_lt, n_out, n_div, n_dm, n_eq, n_toN, n_inN, n_ltN, n_nltN, n_neN, Nat.not_lt_zero, false_or, or_false, ite_y, ite_n, if_true, if_false, ite_tt, ite_ff, b_0, b_1, eq_self_iff_true, Bool.true_eq_false, Bool.false_eq_true]
end
