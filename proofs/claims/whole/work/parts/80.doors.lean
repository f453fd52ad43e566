/-! doors, loo -/
section
variable {X : AX} {d : Nat} {I J : A3 Int32} {L : A3 Int64} {w : TW} {N : Nat} {ps : Nat → Nat → Option Nat} {kn : Nat → Nat} {lo dr : Nat → Bool}
theorem all_n : ∀ n, n ≤ 8 → (nI 1 <<< (nI n &&& nI 31)) - nI 1 = nI (2 ^ n - 1) := by decide
theorem pow_256 {n : Nat} (h : n ≤ 8) : 1 ≤ 2 ^ n ∧ 2 ^ n ≤ 256 := ⟨Nat.one_le_two_pow, Nat.le_trans (Nat.pow_le_pow_right (by decide) h) (by decide)⟩
theorem CA.sh {q T : Nat} (h : CA I q T N ps kn) (hR : ∀ f, f = 21 ∨ f = 22 ∨ f = 23 ∨ f = 24 → J f q = I f q) : CA J q T N ps kn := by
  unfold CA CG
  rw [hR 21 (Or.inl rfl), hR 22 (Or.inr (Or.inl rfl)), hR 23 (Or.inr (Or.inr (Or.inl rfl))), hR 24 (Or.inr (Or.inr (Or.inr rfl)))]
  exact h
/-- the class counts with these loos and doors -/
theorem c_count {x y : Int32} (h : TC I w) (v : Vw w) (hT : 0 < w 1) (hf : ∃ l e, CF I 0 (w 1) (w 0) l e) (hC : CA I 0 (w 1) N ps kn) (hx : ∀ c, bt x c = lo c) (hy : ∀ c, bt y c = dr c) (hl : ∀ c, lo c = true → c < w 0) (hr : ∀ c, dr c = true → c < w 0) (hI1 : I 20 0 10 = x) (hI2 : I 20 0 11 = y) (hd : 2 ≤ d) : ∃ J z, K_X0_solve X d 0 (I, L, ()) = some (some (aI z), (J, L, ())) ∧ Rq [25] 0 I J ∧ ∀ K, K_J6_bitCount_0f7a4 X d z (K, L, ()) = some (some (aI (nI (sfN w N ps kn lo dr))), (K, L, ())) := by
  obtain ⟨l, e, h1, h2, -⟩ := hf
  have hf' : CF I 0 (w 1) (w 0) lo dr := ⟨h1, h2, by rw [hI1]; exact hx, by rw [hI2]; exact hy⟩
  obtain ⟨J, z, g1, g2, g3, g4⟩ := c_solve (X := X) (d := d) (L := L) (q := 0) h v hf' hl hr hC hT hd
  exact ⟨J, z, g1, Rq.rw g2 (by decide), fun K => c_safeN v g4 (by omega)⟩
theorem Sc.up {f i j : Nat} {x : Int32} (h : Sc I J) (hf : f ∈ SCL) : Sc I (up3 J f i j x) := fun g hg => by
  rw [u3_f _ _ (fun e => hg (by rw [e]; exact hf))]; exact h g hg
theorem q_doors (h : TC I w) (v : Vw w) (a : Int32) : Both w (K_X10_doors X 15 a) (K_X11_doors X 15 a) I L := by
  obtain ⟨⟨h0, h1, h2, h3, h4, h5, h6, -⟩, -, vc, -⟩ := id v
  obtain ⟨p1, p2⟩ := pow_256 h0
  by_cases ha : 0 < w 7
  · have hT : 0 < w 1 := (v.2.1.2 ha).2.1
    have hin : ∀ M : A3 Int32, ∀ L2 : A3 Int64, K_X11_in X 14 a.toInt64 (0 : Int64) ((nI (2 ^ w 0 - 1)).toInt64) (M, L2, ()) = some (some (aI (bI (inr a (2 ^ w 0)))), (M, L2, ())) := fun M L2 => by
      rw [m_in (by omega), inL_k (n := 2 ^ w 0) (by omega)]
      rw [Int32.toInt_toInt64, n_toInt (by omega)]; omega
    cases hb : inr a (2 ^ w 0) with
    | false =>
      refine Both.pure (-2) (K_X10_doors.e X 14 a I L _ ?_) (fun J L2 h => K_X11_doors.e X 14 a J L2 _ ?_)
      · simp (disch := omega) only [c_stands h v, ha, decide_true, c_allCoaches h, all_n, a_bi_i, a_bv_n, a_bl_l, a_bq_q, l_0, l_1, l_2, l_3, l_4, l_5, l_6, l_7, l_8, l_9, l_10, l_12, l_16, l_20, l_24, l_25, l_31, l_32, l_33, l_40, l_48, l_57, l_60, l_63, l_64, l_78, l_85, l_97, l_99, l_100, l_122, l_255, l_325, l_700, l_999, l_1000, l_1200, l_99999, l_100000, l_1000000, l_2000000000, l_N, n_add, n_mul, n_lt, n_out, n_div, n_dm, n_eq, n_toN, n_inN, n_ltN, n_nltN, n_neN, Nat.not_lt_zero, false_or, or_false, ite_y, ite_n, if_true, if_false, ite_tt, ite_ff, b_0, b_1, eq_self_iff_true, Bool.true_eq_false, Bool.false_eq_true]
        rcases inr_no hb with q | q
        · simp only [q, if_true]
        · have : nI (2 ^ w 0 - 1) < a := by
            rw [Int32.lt_iff_toInt_lt] at q ⊢
            rw [n_toInt (by omega)] at q ⊢
            omega
          simp only [this, if_true, ite_self]
      · simp (disch := omega) only [m_isTrain h v, ha, decide_true, a_bi_i, a_bv_n, a_bl_l, a_bq_q, l_0, l_1, l_2, l_3, l_4, l_5, l_6, l_7, l_8, l_9, l_10, l_12, l_16, l_20, l_24, l_25, l_31, l_32, l_33, l_40, l_48, l_57, l_60, l_63, l_64, l_78, l_85, l_97, l_99, l_100, l_122, l_255, l_325, l_700, l_999, l_1000, l_1200, l_99999, l_100000, l_1000000, l_2000000000, l_N, n_add, n_mul, n_lt, n_out, n_div, n_dm, n_eq, n_toN, n_inN, n_ltN, n_nltN, n_neN, Nat.not_lt_zero, false_or, or_false, ite_y, ite_n, if_true, if_false, ite_tt, ite_ff, b_0, b_1, eq_self_iff_true, Bool.true_eq_false, Bool.false_eq_true, h 0 (by decide), all_n, hin, hb]
    | true =>
      obtain ⟨k, hk, rfl⟩ := inr_ex (by omega) hb
      have hdr : ∀ c, bt (nI k) c = true → c < w 0 := fun c hc => by
        rw [bt_nI] at hc
        by_cases z : c < w 0
        · exact z
        · have : k.testBit c = false := Nat.testBit_lt_two_pow (Nat.lt_of_lt_of_le hk (Nat.pow_le_pow_right (by decide) (by omega)))
          rw [this] at hc; simp at hc
      obtain ⟨J, f1, f2, f3, f4, f5, f6⟩ := c_openChase (X := X) (d := 14) (L := L) h v (by omega)
      have u1 : Sc I (up3 J 20 0 11 (nI k)) := f2.up (by decide)
      obtain ⟨J2, z, g1, g2, g3⟩ := c_count (X := X) (d := 14) (L := L) (I := up3 J 20 0 11 (nI k)) (lo := loB w) (dr := bt (nI k)) (x := J 20 0 10) (y := nI k) (N := w 5) (ps := psA w) (kn := knA w) (h.sc u1) v hT ⟨loB w, bt (nI k), by rw [u3_j _ _ (by decide)]; exact f5.1, by rw [u3_j _ _ (by decide)]; exact f5.2.1, by rw [u3_j _ _ (by decide)]; exact f5.2.2.1, by rw [u3_eq]; exact fun _ => rfl⟩ (f6.sh (fun f hf => by rw [u3_f _ _ (by omega)])) f5.2.2.1 (fun _ => rfl) (fun c hc => loB_lt hc) hdr (by rw [u3_j _ _ (by decide)]) (u3_eq _ _ _ _ _) (by omega)
      refine Both.mk (nI (sfN w (w 5) (psA w) (knA w) (loB w) (bt (nI k)))) J2 (K_X10_doors.e X 14 _ I L _ ?_) (u1.trans (Sc.of g2.fm (by decide))) (fun M L2 hM' => ?_)
      · have : ¬ (2 ^ w 0 - 1 < k) := by omega
        simp (disch := omega) only [c_stands h v, ha, decide_true, c_allCoaches h, all_n, this, f1, g1, g3, a_bi_i, a_bv_n, a_bl_l, a_bq_q, l_0, l_1, l_2, l_3, l_4, l_5, l_6, l_7, l_8, l_9, l_10, l_12, l_16, l_20, l_24, l_25, l_31, l_32, l_33, l_40, l_48, l_57, l_60, l_63, l_64, l_78, l_85, l_97, l_99, l_100, l_122, l_255, l_325, l_700, l_999, l_1000, l_1200, l_99999, l_100000, l_1000000, l_2000000000, l_N, n_add, n_mul, n_lt, n_out, n_div, n_dm, n_eq, n_toN, n_inN, n_ltN, n_nltN, n_neN, Nat.not_lt_zero, false_or, or_false, ite_y, ite_n, if_true, if_false, ite_tt, ite_ff, b_0, b_1, eq_self_iff_true, Bool.true_eq_false, Bool.false_eq_true]
      · obtain ⟨M1, m1, m2, m3, m4⟩ := sm_asItIs (X := X) (d := 14) (L := L2) hM' v (by omega)
        obtain ⟨M2, n1, n2, n3⟩ := m_places (X := X) (d := 14) (L := L2) m3 v (by omega)
        have r3 : R9 M1 (up3 M2 40 0 19 (nI k)) := n2.up (Or.inr rfl)
        obtain ⟨M4, o1, o2⟩ := m_safeMany (X := X) (d := 14) (L := L2) (I := up3 M2 40 0 19 (nI k)) (lo := loB w) (dr := bt (nI k)) (m3.sm r3.sm) v ⟨by rw [u3_j _ _ (by decide)]; exact n3.1, by rw [u3_eq]; exact fun _ => rfl⟩ (m4.r9 r3) h5 (fun k hk => psA_lt v hk) (kn100 v) hT (by omega)
        refine ⟨M4, K_X11_doors.e X 14 _ M L2 _ ?_, (m2.trans r3.sm).trans (Sm.of o2 (by decide))⟩
        simp (disch := omega) only [m_isTrain hM' v, ha, decide_true, a_bi_i, a_bv_n, a_bl_l, a_bq_q, l_0, l_1, l_2, l_3, l_4, l_5, l_6, l_7, l_8, l_9, l_10, l_12, l_16, l_20, l_24, l_25, l_31, l_32, l_33, l_40, l_48, l_57, l_60, l_63, l_64, l_78, l_85, l_97, l_99, l_100, l_122, l_255, l_325, l_700, l_999, l_1000, l_1200, l_99999, l_100000, l_1000000, l_2000000000, l_N, n_add, n_mul, n_lt, n_out, n_div, n_dm, n_eq, n_toN, n_inN, n_ltN, n_nltN, n_neN, Nat.not_lt_zero, false_or, or_false, ite_y, ite_n, if_true, if_false, ite_tt, ite_ff, b_0, b_1, eq_self_iff_true, Bool.true_eq_false, Bool.false_eq_true, hM' 0 (by decide), all_n, hin, hb, m1, n1, o1]
  · refine Both.pure (-2) (K_X10_doors.e X 14 a I L _ ?_) (fun J L2 h => K_X11_doors.e X 14 a J L2 _ ?_)
    · simp (disch := omega) only [c_stands h v, ha, decide_false, a_bi_i, a_bv_n, a_bl_l, a_bq_q, l_0, l_1, l_2, l_3, l_4, l_5, l_6, l_7, l_8, l_9, l_10, l_12, l_16, l_20, l_24, l_25, l_31, l_32, l_33, l_40, l_48, l_57, l_60, l_63, l_64, l_78, l_85, l_97, l_99, l_100, l_122, l_255, l_325, l_700, l_999, l_1000, l_1200, l_99999, l_100000, l_1000000, l_2000000000, l_N, n_add, n_mul, n_lt, n_out, n_div, n_dm, n_eq, n_toN, n_inN, n_ltN, n_nltN, n_neN, Nat.not_lt_zero, false_or, or_false, ite_y, ite_n, if_true, if_false, ite_tt, ite_ff, b_0, b_1, eq_self_iff_true, Bool.true_eq_false, Bool.false_eq_true]
    · simp (disch := omega) only [m_isTrain h v, ha, decide_false, a_bi_i, a_bv_n, a_bl_l, a_bq_q, l_0, l_1, l_2, l_3, l_4, l_5, l_6, l_7, l_8, l_9, l_10, l_12, l_16, l_20, l_24, l_25, l_31, l_32, l_33, l_40, l_48, l_57, l_60, l_63, l_64, l_78, l_85, l_97, l_99, l_100, l_122, l_255, l_325, l_700, l_999, l_1000, l_1200, l_99999, l_100000, l_1000000, l_2000000000, l_N, n_add, n_mul, n_lt, n_out, n_div, n_dm, n_eq, n_toN, n_inN, n_ltN, n_nltN, n_neN, Nat.not_lt_zero, false_or, or_false, ite_y, ite_n, if_true, if_false, ite_tt, ite_ff, b_0, b_1, eq_self_iff_true, Bool.true_eq_false, Bool.false_eq_true]
/-- one loo more -/
def loU (w : TW) (k c : Nat) : Bool := loB w c || decide (c = k)
def bstL (w : TW) : Nat → Nat × Option Nat
  | 0 => (sfN w (w 5) (psA w) (knA w) (loB w) (doB w), none)
  | k + 1 => if (bstL w k).1 < sfN w (w 5) (psA w) (knA w) (loU w k) (doB w) then (sfN w (w 5) (psA w) (knA w) (loU w k) (doB w), some k) else bstL w k
theorem bstL_le : ∀ k, (bstL w k).1 ≤ 9 := by
  intro k
  induction k with
  | zero => exact sfN_le
  | succ k ih =>
    unfold bstL
    split
    · exact sfN_le
    · exact ih
theorem q_loo (h : TC I w) (v : Vw w) : Both w (K_X10_loo X 15) (K_X11_loo X 15) I L := by
  obtain ⟨⟨h0, h1, h2, h3, h4, h5, h6, -⟩, -, vc, -⟩ := id v
  by_cases ha : 0 < w 7
  · have hT : 0 < w 1 := (v.2.1.2 ha).2.1
    obtain ⟨J1, J, x, f1, f2, f3, f4, f5, f6, f7, f8⟩ := c_openSolve (X := X) (d := 14) (L := L) h v hT (by omega)
    have hb0 := fun K => c_safeN (X := X) (d := 14) (I := K) (L := L) v f8 (by omega)
    obtain ⟨Jn, ⟨a1, a2⟩, a3⟩ := loop_z (F := fun k (K : A3 Int32) => v_X10_loo_32 X 14 (nI (bstL w k).1) (oI (bstL w k).2) (nI k) (K, L, ())) (P := fun k K => Rq [20, 25] 0 J K ∧ ∃ l, CF K 0 (w 1) (w 0) l (doB w)) (w 0) J ⟨Rq.refl, _, f5⟩ (fun k K hk hP => by
      obtain ⟨r1, l, c1, c2, c3, c4⟩ := hP
      have tK : TC K w := f4.sc (Sc.of r1.fm (by decide))
      obtain ⟨xl, l1, l2⟩ := c_looBits (X := X) (d := 14) (L := L) tK v (by omega)
      generalize hxx : xl ||| (nI 1 <<< (nI k &&& nI 31)) = xx
      have bx : ∀ c, bt xx c = loU w k c := fun c => by rw [← hxx, bt_or, l2, bt_one (by omega)]; rfl
      have r2 : Rq [20, 25] 0 J (up3 K 20 0 10 xx) := r1.up (by decide)
      obtain ⟨K2, z, g1, g2, g3⟩ := c_count (X := X) (d := 14) (L := L) (I := up3 K 20 0 10 xx) (lo := loU w k) (dr := doB w) (x := xx) (y := K 20 0 11) (N := w 5) (ps := psA w) (kn := knA w) (f4.sc (Sc.of r2.fm (by decide))) v hT ⟨loU w k, doB w, by rw [u3_j _ _ (by decide)]; exact c1, by rw [u3_j _ _ (by decide)]; exact c2, by rw [u3_eq]; exact bx, by rw [u3_j _ _ (by decide)]; exact c4⟩ (f6.sh (fun f hf => r2 f 0 (Or.inl (by rcases hf with rfl | rfl | rfl | rfl <;> decide)))) bx c4 (fun c hc => by unfold loU at hc; simp at hc; rcases hc with z | z; exact loB_lt z; omega) (fun c hc => doB_lt hc) (u3_eq _ _ _ _ _) (by rw [u3_j _ _ (by decide)]) (by omega)
      have r3 : Rq [20, 25] 0 J K2 := r2.trans (g2.mono (by decide))
      refine ⟨K2, ⟨r3, loU w k, ?_⟩, fun r hr => ?_⟩
      · unfold CF
        rw [g2 20 0 (Or.inl (by decide)), u3_j _ _ (by decide), u3_j _ _ (by decide), u3_eq, u3_j _ _ (by decide)]
        exact ⟨c1, c2, bx, c4⟩
      · refine v_X10_loo_32.e X 14 _ _ _ K L r ?_
        have b1 := bstL_le (w := w) k
        have b2 : sfN w (w 5) (psA w) (knA w) (loU w k) (doB w) ≤ 9 := sfN_le
        rw [bstL] at hr
        by_cases hlt : (bstL w k).1 < sfN w (w 5) (psA w) (knA w) (loU w k) (doB w)
        · rw [if_pos hlt] at hr
          simp (disch := omega) only [a_bi_i, a_bv_n, a_bl_l, a_bq_q, l_0, l_1, l_2, l_3, l_4, l_5, l_6, l_7, l_8, l_9, l_10, l_12, l_16, l_20, l_24, l_25, l_31, l_32, l_33, l_40, l_48, l_57, l_60, l_63, l_64, l_78, l_85, l_97, l_99, l_100, l_122, l_255, l_325, l_700, l_999, l_1000, l_1200, l_99999, l_100000, l_1000000, l_2000000000, l_N, n_add, n_mul, n_lt, n_out, n_div, n_dm, n_eq, n_toN, n_inN, n_ltN, n_nltN, n_neN, Nat.not_lt_zero, false_or, or_false, ite_y, ite_n, if_true, if_false, ite_tt, ite_ff, b_0, b_1, eq_self_iff_true, Bool.true_eq_false, Bool.false_eq_true, c_coaches tK v, l1, hxx, g1, g3]
          exact hr
        · rw [if_neg hlt] at hr
          simp (disch := omega) only [a_bi_i, a_bv_n, a_bl_l, a_bq_q, l_0, l_1, l_2, l_3, l_4, l_5, l_6, l_7, l_8, l_9, l_10, l_12, l_16, l_20, l_24, l_25, l_31, l_32, l_33, l_40, l_48, l_57, l_60, l_63, l_64, l_78, l_85, l_97, l_99, l_100, l_122, l_255, l_325, l_700, l_999, l_1000, l_1200, l_99999, l_100000, l_1000000, l_2000000000, l_N, n_add, n_mul, n_lt, n_out, n_div, n_dm, n_eq, n_toN, n_inN, n_ltN, n_nltN, n_neN, Nat.not_lt_zero, false_or, or_false, ite_y, ite_n, if_true, if_false, ite_tt, ite_ff, b_0, b_1, eq_self_iff_true, Bool.true_eq_false, Bool.false_eq_true, c_coaches tK v, l1, hxx, g1, g3, hlt]
          exact hr)
    have tn : TC Jn w := f4.sc (Sc.of a1.fm (by decide))
    refine Both.mk (oI (bstL w (w 0)).2) Jn (K_X10_loo.e X 14 I L _ ?_) (f3.trans (Sc.of a1.fm (by decide))) (fun M L2 hM' => ?_)
    · simp (disch := omega) only [c_stands h v, ha, decide_true, f1, f2, hb0, a_bi_i, a_bv_n, a_bl_l, a_bq_q, l_0, l_1, l_2, l_3, l_4, l_5, l_6, l_7, l_8, l_9, l_10, l_12, l_16, l_20, l_24, l_25, l_31, l_32, l_33, l_40, l_48, l_57, l_60, l_63, l_64, l_78, l_85, l_97, l_99, l_100, l_122, l_255, l_325, l_700, l_999, l_1000, l_1200, l_99999, l_100000, l_1000000, l_2000000000, l_N, n_add, n_mul, n_lt, n_out, n_div, n_dm, n_eq, n_toN, n_inN, n_ltN, n_nltN, n_neN, Nat.not_lt_zero, false_or, or_false, ite_y, ite_n, if_true, if_false, ite_tt, ite_ff, b_0, b_1, eq_self_iff_true, Bool.true_eq_false, Bool.false_eq_true]
      refine a3 _ (v_X10_loo_32.e X 14 _ _ _ Jn L _ ?_)
      simp (disch := omega) only [a_bi_i, a_bv_n, a_bl_l, a_bq_q, l_0, l_1, l_2, l_3, l_4, l_5, l_6, l_7, l_8, l_9, l_10, l_12, l_16, l_20, l_24, l_25, l_31, l_32, l_33, l_40, l_48, l_57, l_60, l_63, l_64, l_78, l_85, l_97, l_99, l_100, l_122, l_255, l_325, l_700, l_999, l_1000, l_1200, l_99999, l_100000, l_1000000, l_2000000000, l_N, n_add, n_mul, n_lt, n_out, n_div, n_dm, n_eq, n_toN, n_inN, n_ltN, n_nltN, n_neN, Nat.not_lt_zero, false_or, or_false, ite_y, ite_n, if_true, if_false, ite_tt, ite_ff, b_0, b_1, eq_self_iff_true, Bool.true_eq_false, Bool.false_eq_true, c_coaches tn v, Nat.lt_irrefl]
    · obtain ⟨M1, m1, m2, m3, m4⟩ := sm_asItIs (X := X) (d := 14) (L := L2) hM' v (by omega)
      obtain ⟨M2, n1, n2, n3⟩ := m_places (X := X) (d := 14) (L := L2) m3 v (by omega)
      obtain ⟨M3, o1, o2⟩ := m_safeMany (X := X) (d := 14) (L := L2) (m3.sm n2.sm) v n3 (m4.r9 n2) h5 (fun k hk => psA_lt v hk) (kn100 v) hT (by omega)
      have s3 : Sm M1 M3 := n2.sm.trans (Sm.of o2 (by decide))
      have p3 : PM M3 (w 1) (w 5) (psA w) (knA w) := by unfold PM; rw [o2 40 (by decide), o2 47 (by decide), o2 48 (by decide)]; exact m4.r9 n2
      obtain ⟨Mn, ⟨c1, c2⟩, c3⟩ := loop_z (F := fun k (K : A3 Int32) => v_X11_loo_27 X 14 (nI (bstL w k).1) (oI (bstL w k).2) (nI k) (K, L2, ())) (P := fun _ K => Sm M1 K ∧ PM K (w 1) (w 5) (psA w) (knA w)) (w 0) M3 ⟨s3, p3⟩ (fun k K hk hP => by
        obtain ⟨s4, p4⟩ := hP
        have tK : TM K w := m3.sm s4
        obtain ⟨K2, t1, t2, t3⟩ := m_places (X := X) (d := 14) (L := L2) tK v (by omega)
        generalize hxx : K2 40 0 18 ||| (nI 1 <<< (nI k &&& nI 31)) = xx
        have bx : ∀ c, bt xx c = loU w k c := fun c => by rw [← hxx, bt_or, t3.1, bt_one (by omega)]; rfl
        have r3 : R9 K (up3 K2 40 0 18 xx) := t2.up (Or.inl rfl)
        obtain ⟨K4, u1, u2⟩ := m_safeMany (X := X) (d := 14) (L := L2) (I := up3 K2 40 0 18 xx) (lo := loU w k) (dr := doB w) (tK.sm r3.sm) v ⟨by rw [u3_eq]; exact bx, by rw [u3_j _ _ (by decide)]; exact t3.2⟩ (p4.r9 r3) h5 (fun k hk => psA_lt v hk) (kn100 v) hT (by omega)
        refine ⟨K4, ⟨(s4.trans r3.sm).trans (Sm.of u2 (by decide)), by unfold PM; rw [u2 40 (by decide), u2 47 (by decide), u2 48 (by decide)]; exact p4.r9 r3⟩, fun r hr => ?_⟩
        refine v_X11_loo_27.e X 14 _ _ _ K L2 r ?_
        rw [tK 0 (by decide)]
        have b1 := bstL_le (w := w) k
        have b2 : sfN w (w 5) (psA w) (knA w) (loU w k) (doB w) ≤ 9 := sfN_le
        rw [bstL] at hr
        by_cases hlt : (bstL w k).1 < sfN w (w 5) (psA w) (knA w) (loU w k) (doB w)
        · rw [if_pos hlt] at hr
          simp (disch := omega) only [a_bi_i, a_bv_n, a_bl_l, a_bq_q, l_0, l_1, l_2, l_3, l_4, l_5, l_6, l_7, l_8, l_9, l_10, l_12, l_16, l_20, l_24, l_25, l_31, l_32, l_33, l_40, l_48, l_57, l_60, l_63, l_64, l_78, l_85, l_97, l_99, l_100, l_122, l_255, l_325, l_700, l_999, l_1000, l_1200, l_99999, l_100000, l_1000000, l_2000000000, l_N, n_add, n_mul, n_lt, n_out, n_div, n_dm, n_eq, n_toN, n_inN, n_ltN, n_nltN, n_neN, Nat.not_lt_zero, false_or, or_false, ite_y, ite_n, if_true, if_false, ite_tt, ite_ff, b_0, b_1, eq_self_iff_true, Bool.true_eq_false, Bool.false_eq_true, t1, hxx, u1]
          exact hr
        · rw [if_neg hlt] at hr
          simp (disch := omega) only [a_bi_i, a_bv_n, a_bl_l, a_bq_q, l_0, l_1, l_2, l_3, l_4, l_5, l_6, l_7, l_8, l_9, l_10, l_12, l_16, l_20, l_24, l_25, l_31, l_32, l_33, l_40, l_48, l_57, l_60, l_63, l_64, l_78, l_85, l_97, l_99, l_100, l_122, l_255, l_325, l_700, l_999, l_1000, l_1200, l_99999, l_100000, l_1000000, l_2000000000, l_N, n_add, n_mul, n_lt, n_out, n_div, n_dm, n_eq, n_toN, n_inN, n_ltN, n_nltN, n_neN, Nat.not_lt_zero, false_or, or_false, ite_y, ite_n, if_true, if_false, ite_tt, ite_ff, b_0, b_1, eq_self_iff_true, Bool.true_eq_false, Bool.false_eq_true, t1, hxx, u1, hlt]
          exact hr)
      refine ⟨Mn, K_X11_loo.e X 14 M L2 _ ?_, m2.trans c1⟩
      simp (disch := omega) only [m_isTrain hM' v, ha, decide_true, a_bi_i, a_bv_n, a_bl_l, a_bq_q, l_0, l_1, l_2, l_3, l_4, l_5, l_6, l_7, l_8, l_9, l_10, l_12, l_16, l_20, l_24, l_25, l_31, l_32, l_33, l_40, l_48, l_57, l_60, l_63, l_64, l_78, l_85, l_97, l_99, l_100, l_122, l_255, l_325, l_700, l_999, l_1000, l_1200, l_99999, l_100000, l_1000000, l_2000000000, l_N, n_add, n_mul, n_lt, n_out, n_div, n_dm, n_eq, n_toN, n_inN, n_ltN, n_nltN, n_neN, Nat.not_lt_zero, false_or, or_false, ite_y, ite_n, if_true, if_false, ite_tt, ite_ff, b_0, b_1, eq_self_iff_true, Bool.true_eq_false, Bool.false_eq_true, m1, n1, o1]
      refine c3 _ (v_X11_loo_27.e X 14 _ _ _ Mn L2 _ ?_)
      rw [(m3.sm c1) 0 (by decide)]
      simp (disch := omega) only [a_bi_i, a_bv_n, a_bl_l, a_bq_q, l_0, l_1, l_2, l_3, l_4, l_5, l_6, l_7, l_8, l_9, l_10, l_12, l_16, l_20, l_24, l_25, l_31, l_32, l_33, l_40, l_48, l_57, l_60, l_63, l_64, l_78, l_85, l_97, l_99, l_100, l_122, l_255, l_325, l_700, l_999, l_1000, l_1200, l_99999, l_100000, l_1000000, l_2000000000, l_N, n_add, n_mul, n_lt, n_out, n_div, n_dm, n_eq, n_toN, n_inN, n_ltN, n_nltN, n_neN, Nat.not_lt_zero, false_or, or_false, ite_y, ite_n, if_true, if_false, ite_tt, ite_ff, b_0, b_1, eq_self_iff_true, Bool.true_eq_false, Bool.false_eq_true, Nat.lt_irrefl]
  · refine Both.pure (-2) (K_X10_loo.e X 14 I L _ ?_) (fun J L2 h => K_X11_loo.e X 14 J L2 _ ?_)
    · simp (disch := omega) only [c_stands h v, ha, decide_false, a_bi_i, a_bv_n, a_bl_l, a_bq_q, l_0, l_1, l_2, l_3, l_4, l_5, l_6, l_7, l_8, l_9, l_10, l_12, l_16, l_20, l_24, l_25, l_31, l_32, l_33, l_40, l_48, l_57, l_60, l_63, l_64, l_78, l_85, l_97, l_99, l_100, l_122, l_255, l_325, l_700, l_999, l_1000, l_1200, l_99999, l_100000, l_1000000, l_2000000000, l_N, n_add, n_mul, n_lt, n_out, n_div, n_dm, n_eq, n_toN, n_inN, n_ltN, n_nltN, n_neN, Nat.not_lt_zero, false_or, or_false, ite_y, ite_n, if_true, if_false, ite_tt, ite_ff, b_0, b_1, eq_self_iff_true, Bool.true_eq_false, Bool.false_eq_true]
    · simp (disch := omega) only [m_isTrain h v, ha, decide_false, a_bi_i, a_bv_n, a_bl_l, a_bq_q, l_0, l_1, l_2, l_3, l_4, l_5, l_6, l_7, l_8, l_9, l_10, l_12, l_16, l_20, l_24, l_25, l_31, l_32, l_33, l_40, l_48, l_57, l_60, l_63, l_64, l_78, l_85, l_97, l_99, l_100, l_122, l_255, l_325, l_700, l_999, l_1000, l_1200, l_99999, l_100000, l_1000000, l_2000000000, l_N, n_add, n_mul, n_lt, n_out, n_div, n_dm, n_eq, n_toN, n_inN, n_ltN, n_nltN, n_neN, Nat.not_lt_zero, false_or, or_false, ite_y, ite_n, if_true, if_false, ite_tt, ite_ff, b_0, b_1, eq_self_iff_true, Bool.true_eq_false, Bool.false_eq_true]
end
