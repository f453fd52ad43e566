/-! matters -/
section
variable {X : AX} {d : Nat} {I J : A3 Int32} {L : A3 Int64} {w : TW}
def loM (w : TW) (a k c : Nat) : Bool := loB w c && !(decide (a = 1) && decide (c = k))
def doM (w : TW) (a k c : Nat) : Bool := doB w c && !(decide (a = 0) && decide (c = k))
def sfM (w : TW) (a k : Nat) : Nat := sfN w (w 5) (psA w) (knA w) (loM w a k) (doM w a k)
def sf0 (w : TW) : Nat := sfN w (w 5) (psA w) (knA w) (loB w) (doB w)
theorem bt_off {x : Int32} {k : Nat} (hk : k < 32) (c : Nat) : bt (x &&& ((nI 1 <<< (nI k &&& nI 31)) ^^^ nN)) c = (bt x c && !(decide (c = k))) := by
  by_cases h : c < 32
  · rw [bt_set h, bt_one hk]
  · rw [bt_and, bt_ge (x := x) (by omega), Bool.false_and, Bool.false_and]
theorem mat_no {a k : Nat} (h : (a = 0 ∧ doB w k = false) ∨ (a = 1 ∧ loB w k = false)) : sfM w a k = sf0 w := by
  unfold sfM sf0
  congr 1
  · funext c
    unfold loM
    rcases h with ⟨rfl, h⟩ | ⟨rfl, h⟩
    · simp
    · by_cases e : c = k
      · subst e; simp [h]
      · simp [e]
  · funext c
    unfold doM
    rcases h with ⟨rfl, h⟩ | ⟨rfl, h⟩
    · by_cases e : c = k
      · subst e; simp [h]
      · simp [e]
    · simp
theorem q_matters (h : TC I w) (v : Vw w) (a : Int32) : Both w (K_X10_matters X 15 a) (K_X11_matters X 15 a) I L := by
  obtain ⟨⟨h0, h1, h2, h3, h4, h5, h6, -⟩, -, vc, -⟩ := id v
  have hin : ∀ M : A3 Int32, ∀ L2 : A3 Int64, K_X11_in X 14 a.toInt64 (0 : Int64) (1 : Int64) (M, L2, ()) = some (some (aI (bI (inr a 2))), (M, L2, ())) := fun M L2 => by
    rw [m_in (by omega), inL_k (n := 2) (by decide) rfl]
  have no : ∀ M : A3 Int32, ∀ L2 : A3 Int64, v_X11_matters_17 X 14 (M, L2, ()) = some (some (aI (-2)), (M, L2, ())) := fun M L2 => v_X11_matters_17.e X 14 M L2 _ rfl
  by_cases ha : 0 < w 7
  · have hT : 0 < w 1 := (v.2.1.2 ha).2.1
    cases hb : inr a 2 with
    | false =>
      refine Both.pure (-2) (K_X10_matters.e X 14 a I L _ ?_) (fun J L2 h => K_X11_matters.e X 14 a J L2 _ ?_)
      · simp (disch := omega) only [c_stands h v, ha, decide_true, a_bi_i, a_bv_n, a_bl_l, a_bq_q, l_0, l_1, l_2, l_3, l_4, l_5, l_6, l_7, l_8, l_9, l_10, l_12, l_16, l_20, l_24, l_25, l_31, l_32, l_33, l_40, l_48, l_57, l_60, l_63, l_64, l_78, l_85, l_97, l_99, l_100, l_122, l_255, l_325, l_700, l_999, l_1000, l_1200, l_99999, l_100000, l_1000000, l_2000000000, l_N, n_add, n_mul, n_lt, n_out, n_div, n_dm, n_eq, n_toN, n_inN, n_ltN, n_nltN, n_neN, Nat.not_lt_zero, false_or, or_false, ite_y, ite_n, if_true, if_false, ite_tt, ite_ff, b_0, b_1, eq_self_iff_true, Bool.true_eq_false, Bool.false_eq_true]
        rcases inr_no hb with q | q
        · simp only [q, if_true]
        · have : nI 1 < a := by
            rw [Int32.lt_iff_toInt_lt] at q ⊢
            rw [n_toInt (by omega)] at q ⊢
            omega
          simp only [this, if_true, ite_self]
      · simp (disch := omega) only [m_isTrain h v, ha, decide_true, a_bi_i, a_bv_n, a_bl_l, a_bq_q, l_0, l_1, l_2, l_3, l_4, l_5, l_6, l_7, l_8, l_9, l_10, l_12, l_16, l_20, l_24, l_25, l_31, l_32, l_33, l_40, l_48, l_57, l_60, l_63, l_64, l_78, l_85, l_97, l_99, l_100, l_122, l_255, l_325, l_700, l_999, l_1000, l_1200, l_99999, l_100000, l_1000000, l_2000000000, l_N, n_add, n_mul, n_lt, n_out, n_div, n_dm, n_eq, n_toN, n_inN, n_ltN, n_nltN, n_neN, Nat.not_lt_zero, false_or, or_false, ite_y, ite_n, if_true, if_false, ite_tt, ite_ff, b_0, b_1, eq_self_iff_true, Bool.true_eq_false, Bool.false_eq_true, hin, hb, no]
    | true =>
      obtain ⟨b, hb2, rfl⟩ := inr_ex (by omega) hb
      obtain ⟨J1, J, x, f1, f2, f3, f4, f5, f6, f7, f8⟩ := c_openSolve (X := X) (d := 14) (L := L) h v hT (by omega)
      have hb0 := fun K => c_safeN (X := X) (d := 14) (I := K) (L := L) v f8 (by omega)
      have bs0 : sf0 w ≤ 9 := sfN_le
      obtain ⟨⟨xb, Jn⟩, ⟨a1, a2⟩, a3⟩ := loop_z (F := fun k (s : Int32 × A3 Int32) => v_X10_matters_42 X 14 (nI b) (nI (sf0 w)) s.1 (nI k) (s.2, L, ())) (P := fun k s => (Rq [20, 25] 0 J s.2 ∧ s.2 20 0 8 = nI (w 1) ∧ ∀ c, bt (s.2 20 0 9) c = decide (c < w 0)) ∧ ∀ c, bt s.1 c = (decide (c < k) && decide (sfM w b c < sf0 w))) (w 0) (nI 0, J) ⟨⟨Rq.refl, f5.1, f5.2.1⟩, fun c => by rw [bt_0]; simp⟩ (fun k s hk hP => by
        obtain ⟨xk, K⟩ := s
        obtain ⟨⟨r1, c1, c2⟩, c3⟩ := hP
        simp only at r1 c1 c2 c3
        have tK : TC K w := f4.sc (Sc.of r1.fm (by decide))
        obtain ⟨xd, d1, d2⟩ := c_doorBits (X := X) (d := 14) (L := L) tK v (by omega)
        have main : ∀ xd' xl' : Int32, (∀ c, bt xd' c = doM w b k c) → (∀ c, bt xl' c = loM w b k c) → ∃ K2 z, K_X0_solve X 14 0 (up3 (up3 K 20 0 11 xd') 20 0 10 xl', L, ()) = some (some (aI z), (K2, L, ())) ∧ (Rq [20, 25] 0 J K2 ∧ K2 20 0 8 = nI (w 1) ∧ ∀ c, bt (K2 20 0 9) c = decide (c < w 0)) ∧ K_J6_bitCount_0f7a4 X 14 z (K2, L, ()) = some (some (aI (nI (sfM w b k))), (K2, L, ())) := fun xd' xl' hd' hl' => by
          have r2 : Rq [20, 25] 0 J (up3 (up3 K 20 0 11 xd') 20 0 10 xl') := (r1.up (by decide)).up (by decide)
          have e8 : up3 (up3 K 20 0 11 xd') 20 0 10 xl' 20 0 8 = K 20 0 8 := by rw [u3_j _ _ (by decide), u3_j _ _ (by decide)]
          have e9 : up3 (up3 K 20 0 11 xd') 20 0 10 xl' 20 0 9 = K 20 0 9 := by rw [u3_j _ _ (by decide), u3_j _ _ (by decide)]
          have e10 : up3 (up3 K 20 0 11 xd') 20 0 10 xl' 20 0 10 = xl' := u3_eq _ _ _ _ _
          have e11 : up3 (up3 K 20 0 11 xd') 20 0 10 xl' 20 0 11 = xd' := by rw [u3_j _ _ (by decide), u3_eq]
          obtain ⟨K2, z, g1, g2, g3⟩ := c_count (X := X) (d := 14) (L := L) (I := up3 (up3 K 20 0 11 xd') 20 0 10 xl') (lo := loM w b k) (dr := doM w b k) (x := xl') (y := xd') (N := w 5) (ps := psA w) (kn := knA w) (f4.sc (Sc.of r2.fm (by decide))) v hT ⟨loM w b k, doM w b k, by rw [e8]; exact c1, by rw [e9]; exact c2, by rw [e10]; exact hl', by rw [e11]; exact hd'⟩ (f6.sh (fun f hf => r2 f 0 (Or.inl (by rcases hf with rfl | rfl | rfl | rfl <;> decide)))) hl' hd' (fun c hc => by unfold loM at hc; exact loB_lt (Bool.and_eq_true_iff.mp hc).1) (fun c hc => by unfold doM at hc; exact doB_lt (Bool.and_eq_true_iff.mp hc).1) e10 e11 (by omega)
          refine ⟨K2, z, g1, ⟨r2.trans (g2.mono (by decide)), ?_, ?_⟩, g3 K2⟩
          · rw [g2 20 0 (Or.inl (by decide)), e8]; exact c1
          · rw [g2 20 0 (Or.inl (by decide)), e9]; exact c2
        have bsk : sfM w b k ≤ 9 := sfN_le
        have bits : ∀ y : Int32, y = (if sfM w b k < sf0 w then xk ||| (nI 1 <<< (nI k &&& nI 31)) else xk) → ∀ c, bt y c = (decide (c < k + 1) && decide (sfM w b c < sf0 w)) := fun y hy c => by
          rw [hy]
          split
          · rename_i hlt
            rw [bt_or, c3, bt_one (by omega)]
            by_cases e : c = k
            · subst e; simp [hlt]
            · rw [dlt e]; simp [e]
          · rename_i hlt
            rw [c3]
            by_cases e : c = k
            · subst e; simp [hlt]
            · rw [dlt e]
        rcases (show b = 0 ∨ b = 1 by omega) with rfl | rfl
        · generalize hxx : xd &&& ((nI 1 <<< (nI k &&& nI 31)) ^^^ nN) = xx
          have hJd : TC (up3 K 20 0 11 xx) w := f4.sc (Sc.of (r1.up (j := 11) (x := xx) (by decide)).fm (by decide))
          obtain ⟨xl, l1, l2⟩ := c_looBits (X := X) (d := 14) (L := L) hJd v (by omega)
          obtain ⟨K2, z, g1, g2, g3⟩ := main xx xl (fun c => by rw [← hxx, bt_off (by omega), d2]; unfold doM doB; simp) (fun c => by rw [l2]; unfold loM loB; simp)
          refine ⟨(if sfM w 0 k < sf0 w then xk ||| (nI 1 <<< (nI k &&& nI 31)) else xk, K2), ⟨g2, bits _ rfl⟩, fun r hr => ?_⟩
          refine v_X10_matters_42.e X 14 _ _ _ _ K L r ?_
          by_cases hlt : sfM w 0 k < sf0 w
          · rw [if_pos hlt] at hr
            simp (disch := omega) only [a_bi_i, a_bv_n, a_bl_l, a_bq_q, l_0, l_1, l_2, l_3, l_4, l_5, l_6, l_7, l_8, l_9, l_10, l_12, l_16, l_20, l_24, l_25, l_31, l_32, l_33, l_40, l_48, l_57, l_60, l_63, l_64, l_78, l_85, l_97, l_99, l_100, l_122, l_255, l_325, l_700, l_999, l_1000, l_1200, l_99999, l_100000, l_1000000, l_2000000000, l_N, n_add, n_mul, n_lt, n_out, n_div, n_dm, n_eq, n_toN, n_inN, n_ltN, n_nltN, n_neN, Nat.not_lt_zero, false_or, or_false, ite_y, ite_n, if_true, if_false, ite_tt, ite_ff, b_0, b_1, eq_self_iff_true, Bool.true_eq_false, Bool.false_eq_true, c_coaches tK v, d1, hxx, l1, g1, g3]
            exact hr
          · rw [if_neg hlt] at hr
            simp (disch := omega) only [a_bi_i, a_bv_n, a_bl_l, a_bq_q, l_0, l_1, l_2, l_3, l_4, l_5, l_6, l_7, l_8, l_9, l_10, l_12, l_16, l_20, l_24, l_25, l_31, l_32, l_33, l_40, l_48, l_57, l_60, l_63, l_64, l_78, l_85, l_97, l_99, l_100, l_122, l_255, l_325, l_700, l_999, l_1000, l_1200, l_99999, l_100000, l_1000000, l_2000000000, l_N, n_add, n_mul, n_lt, n_out, n_div, n_dm, n_eq, n_toN, n_inN, n_ltN, n_nltN, n_neN, Nat.not_lt_zero, false_or, or_false, ite_y, ite_n, if_true, if_false, ite_tt, ite_ff, b_0, b_1, eq_self_iff_true, Bool.true_eq_false, Bool.false_eq_true, c_coaches tK v, d1, hxx, l1, g1, g3, hlt]
            exact hr
        · have hJd : TC (up3 K 20 0 11 xd) w := f4.sc (Sc.of (r1.up (j := 11) (x := xd) (by decide)).fm (by decide))
          obtain ⟨xl, l1, l2⟩ := c_looBits (X := X) (d := 14) (L := L) hJd v (by omega)
          generalize hxx : xl &&& ((nI 1 <<< (nI k &&& nI 31)) ^^^ nN) = xx
          obtain ⟨K2, z, g1, g2, g3⟩ := main xd xx (fun c => by rw [d2]; unfold doM doB; simp) (fun c => by rw [← hxx, bt_off (by omega), l2]; unfold loM loB; simp)
          refine ⟨(if sfM w 1 k < sf0 w then xk ||| (nI 1 <<< (nI k &&& nI 31)) else xk, K2), ⟨g2, bits _ rfl⟩, fun r hr => ?_⟩
          refine v_X10_matters_42.e X 14 _ _ _ _ K L r ?_
          by_cases hlt : sfM w 1 k < sf0 w
          · rw [if_pos hlt] at hr
            simp (disch := omega) only [a_bi_i, a_bv_n, a_bl_l, a_bq_q, l_0, l_1, l_2, l_3, l_4, l_5, l_6, l_7, l_8, l_9, l_10, l_12, l_16, l_20, l_24, l_25, l_31, l_32, l_33, l_40, l_48, l_57, l_60, l_63, l_64, l_78, l_85, l_97, l_99, l_100, l_122, l_255, l_325, l_700, l_999, l_1000, l_1200, l_99999, l_100000, l_1000000, l_2000000000, l_N, n_add, n_mul, n_lt, n_out, n_div, n_dm, n_eq, n_toN, n_inN, n_ltN, n_nltN, n_neN, Nat.not_lt_zero, false_or, or_false, ite_y, ite_n, if_true, if_false, ite_tt, ite_ff, b_0, b_1, eq_self_iff_true, Bool.true_eq_false, Bool.false_eq_true, c_coaches tK v, d1, hxx, l1, g1, g3]
            exact hr
          · rw [if_neg hlt] at hr
            simp (disch := omega) only [a_bi_i, a_bv_n, a_bl_l, a_bq_q, l_0, l_1, l_2, l_3, l_4, l_5, l_6, l_7, l_8, l_9, l_10, l_12, l_16, l_20, l_24, l_25, l_31, l_32, l_33, l_40, l_48, l_57, l_60, l_63, l_64, l_78, l_85, l_97, l_99, l_100, l_122, l_255, l_325, l_700, l_999, l_1000, l_1200, l_99999, l_100000, l_1000000, l_2000000000, l_N, n_add, n_mul, n_lt, n_out, n_div, n_dm, n_eq, n_toN, n_inN, n_ltN, n_nltN, n_neN, Nat.not_lt_zero, false_or, or_false, ite_y, ite_n, if_true, if_false, ite_tt, ite_ff, b_0, b_1, eq_self_iff_true, Bool.true_eq_false, Bool.false_eq_true, c_coaches tK v, d1, hxx, l1, g1, g3, hlt]
            exact hr)
      simp only at a1 a2 a3
      have tn : TC Jn w := f4.sc (Sc.of a1.1.fm (by decide))
      refine Both.mk xb Jn (K_X10_matters.e X 14 _ I L _ ?_) (f3.trans (Sc.of a1.1.fm (by decide))) (fun M L2 hM' => ?_)
      · have b1 : ¬ (1 < b) := by omega
        simp (disch := omega) only [c_stands h v, ha, decide_true, b1, f1, f2, hb0, a_bi_i, a_bv_n, a_bl_l, a_bq_q, l_0, l_1, l_2, l_3, l_4, l_5, l_6, l_7, l_8, l_9, l_10, l_12, l_16, l_20, l_24, l_25, l_31, l_32, l_33, l_40, l_48, l_57, l_60, l_63, l_64, l_78, l_85, l_97, l_99, l_100, l_122, l_255, l_325, l_700, l_999, l_1000, l_1200, l_99999, l_100000, l_1000000, l_2000000000, l_N, n_add, n_mul, n_lt, n_out, n_div, n_dm, n_eq, n_toN, n_inN, n_ltN, n_nltN, n_neN, Nat.not_lt_zero, false_or, or_false, ite_y, ite_n, if_true, if_false, ite_tt, ite_ff, b_0, b_1, eq_self_iff_true, Bool.true_eq_false, Bool.false_eq_true]
        refine a3 _ (v_X10_matters_42.e X 14 _ _ _ _ Jn L _ ?_)
        simp (disch := omega) only [a_bi_i, a_bv_n, a_bl_l, a_bq_q, l_0, l_1, l_2, l_3, l_4, l_5, l_6, l_7, l_8, l_9, l_10, l_12, l_16, l_20, l_24, l_25, l_31, l_32, l_33, l_40, l_48, l_57, l_60, l_63, l_64, l_78, l_85, l_97, l_99, l_100, l_122, l_255, l_325, l_700, l_999, l_1000, l_1200, l_99999, l_100000, l_1000000, l_2000000000, l_N, n_add, n_mul, n_lt, n_out, n_div, n_dm, n_eq, n_toN, n_inN, n_ltN, n_nltN, n_neN, Nat.not_lt_zero, false_or, or_false, ite_y, ite_n, if_true, if_false, ite_tt, ite_ff, b_0, b_1, eq_self_iff_true, Bool.true_eq_false, Bool.false_eq_true, c_coaches tn v, Nat.lt_irrefl]
      · obtain ⟨M1, m1, m2, m3, m4⟩ := sm_asItIs (X := X) (d := 14) (L := L2) hM' v (by omega)
        obtain ⟨M2, n1, n2, n3⟩ := m_places (X := X) (d := 14) (L := L2) m3 v (by omega)
        obtain ⟨M3, o1, o2⟩ := m_safeMany (X := X) (d := 14) (L := L2) (m3.sm n2.sm) v n3 (m4.r9 n2) h5 (fun k hk => psA_lt v hk) (kn100 v) hT (by omega)
        have s3 : Sm M1 M3 := n2.sm.trans (Sm.of o2 (by decide))
        have p3 : PM M3 (w 1) (w 5) (psA w) (knA w) := by unfold PM; rw [o2 40 (by decide), o2 47 (by decide), o2 48 (by decide)]; exact m4.r9 n2
        obtain ⟨⟨yb, Mn⟩, ⟨⟨c1, c2⟩, c3⟩, c4⟩ := loop_z (F := fun k (s : Int32 × A3 Int32) => v_X11_matters_38 X 14 (nI b) (nI (sf0 w)) s.1 (nI k) (s.2, L2, ())) (P := fun k s => (Sm M1 s.2 ∧ PM s.2 (w 1) (w 5) (psA w) (knA w)) ∧ ∀ c, bt s.1 c = (decide (c < k) && decide (sfM w b c < sf0 w))) (w 0) (nI 0, M3) ⟨⟨s3, p3⟩, fun c => by rw [bt_0]; simp⟩ (fun k s hk hP => by
          obtain ⟨xk, K⟩ := s
          obtain ⟨⟨s4, p4⟩, hx⟩ := hP
          simp only at s4 p4 hx
          have tK : TM K w := m3.sm s4
          obtain ⟨K2, t1, t2, t3⟩ := m_places (X := X) (d := 14) (L := L2) tK v (by omega)
          have bsk : sfM w b k ≤ 9 := sfN_le
          have nx : ∀ {y : Int32} {K' : A3 Int32} {r}, v_X11_matters_38 X 14 (nI b) (nI (sf0 w)) y (nI (k + 1)) (K', L2, ()) = some r → v_X11_matters_135 X 14 (nI b) (nI (sf0 w)) y (nI k) (K', L2, ()) = some r := fun {y K' r} hr => by
            refine v_X11_matters_135.e X 14 _ _ _ _ K' L2 r ?_
            simp (disch := omega) only [a_bi_i, a_bv_n, a_bl_l, a_bq_q, l_0, l_1, l_2, l_3, l_4, l_5, l_6, l_7, l_8, l_9, l_10, l_12, l_16, l_20, l_24, l_25, l_31, l_32, l_33, l_40, l_48, l_57, l_60, l_63, l_64, l_78, l_85, l_97, l_99, l_100, l_122, l_255, l_325, l_700, l_999, l_1000, l_1200, l_99999, l_100000, l_1000000, l_2000000000, l_N, n_add, n_mul, n_lt, n_out, n_div, n_dm, n_eq, n_toN, n_inN, n_ltN, n_nltN, n_neN, Nat.not_lt_zero, false_or, or_false, ite_y, ite_n, if_true, if_false, ite_tt, ite_ff, b_0, b_1, eq_self_iff_true, Bool.true_eq_false, Bool.false_eq_true]
            exact hr
          have same : sfM w b k = sf0 w → ∀ c, bt xk c = (decide (c < k + 1) && decide (sfM w b c < sf0 w)) := fun hs c => by
            rw [hx]
            by_cases e : c = k
            · subst e; simp [hs]
            · rw [dlt e]
          have main : ∀ K' : A3 Int32, R9 K K' → QM K' (loM w b k) (doM w b k) → ∃ s' : Int32 × A3 Int32, ((Sm M1 s'.2 ∧ PM s'.2 (w 1) (w 5) (psA w) (knA w)) ∧ ∀ c, bt s'.1 c = (decide (c < k + 1) && decide (sfM w b c < sf0 w))) ∧ OLe (v_X11_matters_38 X 14 (nI b) (nI (sf0 w)) s'.1 (nI (k + 1)) (s'.2, L2, ())) (v_X11_matters_116 X 14 (nI b) (nI (sf0 w)) xk (nI k) (K', L2, ())) := fun K' r3 hq => by
            obtain ⟨K4, u1, u2⟩ := m_safeMany (X := X) (d := 14) (L := L2) (I := K') (tK.sm r3.sm) v hq (p4.r9 r3) h5 (fun k hk => psA_lt v hk) (kn100 v) hT (by omega)
            have fr : Sm M1 K4 ∧ PM K4 (w 1) (w 5) (psA w) (knA w) := ⟨(s4.trans r3.sm).trans (Sm.of u2 (by decide)), by unfold PM; rw [u2 40 (by decide), u2 47 (by decide), u2 48 (by decide)]; exact p4.r9 r3⟩
            by_cases hlt : sfM w b k < sf0 w
            · refine ⟨(xk ||| (nI 1 <<< (nI k &&& nI 31)), K4), ⟨fr, fun c => ?_⟩, fun r hr => ?_⟩
              · rw [bt_or, hx, bt_one (by omega)]
                by_cases e : c = k
                · subst e; simp [hlt]
                · rw [dlt e]; simp [e]
              · refine v_X11_matters_116.e X 14 _ _ _ _ K' L2 r ?_
                have u1' : K_X11_safeMany X 14 (K', L2, ()) = some (some (aI (nI (sfM w b k))), (K4, L2, ())) := u1
                simp (disch := omega) only [a_bi_i, a_bv_n, a_bl_l, a_bq_q, l_0, l_1, l_2, l_3, l_4, l_5, l_6, l_7, l_8, l_9, l_10, l_12, l_16, l_20, l_24, l_25, l_31, l_32, l_33, l_40, l_48, l_57, l_60, l_63, l_64, l_78, l_85, l_97, l_99, l_100, l_122, l_255, l_325, l_700, l_999, l_1000, l_1200, l_99999, l_100000, l_1000000, l_2000000000, l_N, n_add, n_mul, n_lt, n_out, n_div, n_dm, n_eq, n_toN, n_inN, n_ltN, n_nltN, n_neN, Nat.not_lt_zero, false_or, or_false, ite_y, ite_n, if_true, if_false, ite_tt, ite_ff, b_0, b_1, eq_self_iff_true, Bool.true_eq_false, Bool.false_eq_true, u1']
                exact nx hr
            · refine ⟨(xk ||| nI 0, K4), ⟨fr, fun c => ?_⟩, fun r hr => ?_⟩
              · rw [bt_or, hx, bt_0]
                by_cases e : c = k
                · subst e; simp [hlt]
                · rw [dlt e]; simp
              · refine v_X11_matters_116.e X 14 _ _ _ _ K' L2 r ?_
                have u1' : K_X11_safeMany X 14 (K', L2, ()) = some (some (aI (nI (sfM w b k))), (K4, L2, ())) := u1
                simp (disch := omega) only [a_bi_i, a_bv_n, a_bl_l, a_bq_q, l_0, l_1, l_2, l_3, l_4, l_5, l_6, l_7, l_8, l_9, l_10, l_12, l_16, l_20, l_24, l_25, l_31, l_32, l_33, l_40, l_48, l_57, l_60, l_63, l_64, l_78, l_85, l_97, l_99, l_100, l_122, l_255, l_325, l_700, l_999, l_1000, l_1200, l_99999, l_100000, l_1000000, l_2000000000, l_N, n_add, n_mul, n_lt, n_out, n_div, n_dm, n_eq, n_toN, n_inN, n_ltN, n_nltN, n_neN, Nat.not_lt_zero, false_or, or_false, ite_y, ite_n, if_true, if_false, ite_tt, ite_ff, b_0, b_1, eq_self_iff_true, Bool.true_eq_false, Bool.false_eq_true, u1', hlt]
                exact nx hr
          rcases (show b = 0 ∨ b = 1 by omega) with rfl | rfl
          · cases hd : doB w k with
            | false =>
              refine ⟨(xk, K2), ⟨⟨s4.trans t2.sm, p4.r9 t2⟩, same (mat_no (Or.inl ⟨rfl, hd⟩))⟩, fun r hr => ?_⟩
              refine v_X11_matters_38.e X 14 _ _ _ _ K L2 r ?_
              rw [tK 0 (by decide)]
              simp (disch := omega) only [a_bi_i, a_bv_n, a_bl_l, a_bq_q, l_0, l_1, l_2, l_3, l_4, l_5, l_6, l_7, l_8, l_9, l_10, l_12, l_16, l_20, l_24, l_25, l_31, l_32, l_33, l_40, l_48, l_57, l_60, l_63, l_64, l_78, l_85, l_97, l_99, l_100, l_122, l_255, l_325, l_700, l_999, l_1000, l_1200, l_99999, l_100000, l_1000000, l_2000000000, l_N, n_add, n_mul, n_lt, n_out, n_div, n_dm, n_eq, n_toN, n_inN, n_ltN, n_nltN, n_neN, Nat.not_lt_zero, false_or, or_false, ite_y, ite_n, if_true, if_false, ite_tt, ite_ff, b_0, b_1, eq_self_iff_true, Bool.true_eq_false, Bool.false_eq_true, t1, m_bit, t3.2, hd]
              exact nx hr
            | true =>
              obtain ⟨s', q1, q2⟩ := main (up3 K2 40 0 19 (K2 40 0 19 &&& ((nI 1 <<< (nI k &&& nI 31)) ^^^ nN))) (t2.up (Or.inr rfl)) ⟨fun c => by rw [u3_j _ _ (by decide), t3.1]; unfold loM; simp, fun c => by rw [u3_eq, bt_off (by omega), t3.2]; unfold doM; simp⟩
              refine ⟨s', q1, fun r hr => ?_⟩
              refine v_X11_matters_38.e X 14 _ _ _ _ K L2 r ?_
              rw [tK 0 (by decide)]
              simp (disch := omega) only [a_bi_i, a_bv_n, a_bl_l, a_bq_q, l_0, l_1, l_2, l_3, l_4, l_5, l_6, l_7, l_8, l_9, l_10, l_12, l_16, l_20, l_24, l_25, l_31, l_32, l_33, l_40, l_48, l_57, l_60, l_63, l_64, l_78, l_85, l_97, l_99, l_100, l_122, l_255, l_325, l_700, l_999, l_1000, l_1200, l_99999, l_100000, l_1000000, l_2000000000, l_N, n_add, n_mul, n_lt, n_out, n_div, n_dm, n_eq, n_toN, n_inN, n_ltN, n_nltN, n_neN, Nat.not_lt_zero, false_or, or_false, ite_y, ite_n, if_true, if_false, ite_tt, ite_ff, b_0, b_1, eq_self_iff_true, Bool.true_eq_false, Bool.false_eq_true, t1, m_bit, t3.2, hd]
              exact q2 r hr
          · cases hd : loB w k with
            | false =>
              refine ⟨(xk, K2), ⟨⟨s4.trans t2.sm, p4.r9 t2⟩, same (mat_no (Or.inr ⟨rfl, hd⟩))⟩, fun r hr => ?_⟩
              refine v_X11_matters_38.e X 14 _ _ _ _ K L2 r ?_
              rw [tK 0 (by decide)]
              simp (disch := omega) only [a_bi_i, a_bv_n, a_bl_l, a_bq_q, l_0, l_1, l_2, l_3, l_4, l_5, l_6, l_7, l_8, l_9, l_10, l_12, l_16, l_20, l_24, l_25, l_31, l_32, l_33, l_40, l_48, l_57, l_60, l_63, l_64, l_78, l_85, l_97, l_99, l_100, l_122, l_255, l_325, l_700, l_999, l_1000, l_1200, l_99999, l_100000, l_1000000, l_2000000000, l_N, n_add, n_mul, n_lt, n_out, n_div, n_dm, n_eq, n_toN, n_inN, n_ltN, n_nltN, n_neN, Nat.not_lt_zero, false_or, or_false, ite_y, ite_n, if_true, if_false, ite_tt, ite_ff, b_0, b_1, eq_self_iff_true, Bool.true_eq_false, Bool.false_eq_true, t1, m_bit, t3.1, hd]
              exact nx hr
            | true =>
              obtain ⟨s', q1, q2⟩ := main (up3 K2 40 0 18 (K2 40 0 18 &&& ((nI 1 <<< (nI k &&& nI 31)) ^^^ nN))) (t2.up (Or.inl rfl)) ⟨fun c => by rw [u3_eq, bt_off (by omega), t3.1]; unfold loM; simp, fun c => by rw [u3_j _ _ (by decide), t3.2]; unfold doM; simp⟩
              refine ⟨s', q1, fun r hr => ?_⟩
              refine v_X11_matters_38.e X 14 _ _ _ _ K L2 r ?_
              rw [tK 0 (by decide)]
              simp (disch := omega) only [a_bi_i, a_bv_n, a_bl_l, a_bq_q, l_0, l_1, l_2, l_3, l_4, l_5, l_6, l_7, l_8, l_9, l_10, l_12, l_16, l_20, l_24, l_25, l_31, l_32, l_33, l_40, l_48, l_57, l_60, l_63, l_64, l_78, l_85, l_97, l_99, l_100, l_122, l_255, l_325, l_700, l_999, l_1000, l_1200, l_99999, l_100000, l_1000000, l_2000000000, l_N, n_add, n_mul, n_lt, n_out, n_div, n_dm, n_eq, n_toN, n_inN, n_ltN, n_nltN, n_neN, Nat.not_lt_zero, false_or, or_false, ite_y, ite_n, if_true, if_false, ite_tt, ite_ff, b_0, b_1, eq_self_iff_true, Bool.true_eq_false, Bool.false_eq_true, t1, m_bit, t3.1, hd]
              exact q2 r hr)
        simp only at c1 c2 c3 c4
        refine ⟨Mn, K_X11_matters.e X 14 _ M L2 _ ?_, m2.trans c1⟩
        have o1' : K_X11_safeMany X 14 (M2, L2, ()) = some (some (aI (nI (sf0 w))), (M3, L2, ())) := o1
        rw [show xb = yb from bt_ext fun k _ => (a2 k).trans (c3 k).symm]
        simp (disch := omega) only [m_isTrain hM' v, ha, decide_true, a_bi_i, a_bv_n, a_bl_l, a_bq_q, l_0, l_1, l_2, l_3, l_4, l_5, l_6, l_7, l_8, l_9, l_10, l_12, l_16, l_20, l_24, l_25, l_31, l_32, l_33, l_40, l_48, l_57, l_60, l_63, l_64, l_78, l_85, l_97, l_99, l_100, l_122, l_255, l_325, l_700, l_999, l_1000, l_1200, l_99999, l_100000, l_1000000, l_2000000000, l_N, n_add, n_mul, n_lt, n_out, n_div, n_dm, n_eq, n_toN, n_inN, n_ltN, n_nltN, n_neN, Nat.not_lt_zero, false_or, or_false, ite_y, ite_n, if_true, if_false, ite_tt, ite_ff, b_0, b_1, eq_self_iff_true, Bool.true_eq_false, Bool.false_eq_true, hin, hb, m1, n1, o1']
        refine c4 _ (v_X11_matters_38.e X 14 _ _ _ _ Mn L2 _ ?_)
        rw [(m3.sm c1) 0 (by decide)]
        simp (disch := omega) only [a_bi_i, a_bv_n, a_bl_l, a_bq_q, l_0, l_1, l_2, l_3, l_4, l_5, l_6, l_7, l_8, l_9, l_10, l_12, l_16, l_20, l_24, l_25, l_31, l_32, l_33, l_40, l_48, l_57, l_60, l_63, l_64, l_78, l_85, l_97, l_99, l_100, l_122, l_255, l_325, l_700, l_999, l_1000, l_1200, l_99999, l_100000, l_1000000, l_2000000000, l_N, n_add, n_mul, n_lt, n_out, n_div, n_dm, n_eq, n_toN, n_inN, n_ltN, n_nltN, n_neN, Nat.not_lt_zero, false_or, or_false, ite_y, ite_n, if_true, if_false, ite_tt, ite_ff, b_0, b_1, eq_self_iff_true, Bool.true_eq_false, Bool.false_eq_true, Nat.lt_irrefl]
  · refine Both.pure (-2) (K_X10_matters.e X 14 a I L _ ?_) (fun J L2 h => K_X11_matters.e X 14 a J L2 _ ?_)
    · simp (disch := omega) only [c_stands h v, ha, decide_false, a_bi_i, a_bv_n, a_bl_l, a_bq_q, l_0, l_1, l_2, l_3, l_4, l_5, l_6, l_7, l_8, l_9, l_10, l_12, l_16, l_20, l_24, l_25, l_31, l_32, l_33, l_40, l_48, l_57, l_60, l_63, l_64, l_78, l_85, l_97, l_99, l_100, l_122, l_255, l_325, l_700, l_999, l_1000, l_1200, l_99999, l_100000, l_1000000, l_2000000000, l_N, n_add, n_mul, n_lt, n_out, n_div, n_dm, n_eq, n_toN, n_inN, n_ltN, n_nltN, n_neN, Nat.not_lt_zero, false_or, or_false, ite_y, ite_n, if_true, if_false, ite_tt, ite_ff, b_0, b_1, eq_self_iff_true, Bool.true_eq_false, Bool.false_eq_true]
    · simp (disch := omega) only [m_isTrain h v, ha, decide_false, a_bi_i, a_bv_n, a_bl_l, a_bq_q, l_0, l_1, l_2, l_3, l_4, l_5, l_6, l_7, l_8, l_9, l_10, l_12, l_16, l_20, l_24, l_25, l_31, l_32, l_33, l_40, l_48, l_57, l_60, l_63, l_64, l_78, l_85, l_97, l_99, l_100, l_122, l_255, l_325, l_700, l_999, l_1000, l_1200, l_99999, l_100000, l_1000000, l_2000000000, l_N, n_add, n_mul, n_lt, n_out, n_div, n_dm, n_eq, n_toN, n_inN, n_ltN, n_nltN, n_neN, Nat.not_lt_zero, false_or, or_false, ite_y, ite_n, if_true, if_false, ite_tt, ite_ff, b_0, b_1, eq_self_iff_true, Bool.true_eq_false, Bool.false_eq_true, no]
end
