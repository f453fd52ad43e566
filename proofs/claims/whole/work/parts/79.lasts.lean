/-! lasts; doors, loo -/
section
variable {X : AX} {d : Nat} {I J : A3 Int32} {L : A3 Int64} {w : TW} {N : Nat} {ps : Nat → Nat → Option Nat} {kn : Nat → Nat} {lo dr : Nat → Bool}
theorem c_outset {q : Nat} {x : Int32} {T : Pl → Prop} (v : Vw w) (hC : CA I q (w 1) N ps kn) (hT : 0 < w 1) (hx : ∀ c, bt x c = true ↔ (c < w 0 ∧ T (c, false))) (hT2 : ∀ c, ¬ T (c, true)) (hd : 1 ≤ d) : ∃ y, K_X0_outset X d q x (I, L, ()) = some (some (aI y), (I, L, ())) ∧ BS y (fwS w N ps kn lo dr T 0) := by
  obtain ⟨e, rfl⟩ : ∃ e, d = e + 1 := ⟨d - 1, by omega⟩
  obtain ⟨⟨w0, w1, -⟩, -⟩ := id v
  have hno : ∀ k, ¬ k < w 0 → bt x k = false := fun k hk => by
    cases hb : bt x k with
    | false => rfl
    | true => exact absurd ((hx k).mp hb).1 hk
  refine ⟨x &&& (I 21 q 0 ^^^ nN), K_X0_outset.e X e _ _ I L _ rfl, fun p hp => ?_, fun k hk => ?_⟩
  · obtain ⟨c, l⟩ := p
    simp only at hp
    cases l with
    | false =>
      rw [show cP (c, false) = c from rfl, bt_set (by omega), (hC 0 hT c).1, Bool.and_eq_true_iff, hx c]
      show _ ↔ (T (c, false) ∧ isPl w lo (c, false) = true ∧ gA N ps 0 c = false)
      unfold isPl
      simp only [Bool.not_false, Bool.true_or, Bool.and_true, decide_eq_true_iff, Bool.not_eq_true']
      exact ⟨fun z => ⟨z.1.2, z.1.1, z.2⟩, fun z => ⟨⟨z.2.1, z.1⟩, z.2.2⟩⟩
    | true =>
      rw [show cP (c, true) = c + 8 from rfl, bt_and, hno _ (by omega)]
      simp only [Bool.false_and, Bool.false_eq_true, false_iff]
      exact fun z => hT2 c z.1
  · rw [bt_and, hno k (by omega), Bool.false_and]
theorem q_lasts (h : TC I w) (v : Vw w) (a : Int32) : Both w (K_X10_lasts X 15 a) (K_X11_lasts X 15 a) I L := by
  obtain ⟨⟨h0, h1, h2, h3, h4, h5, h6, -⟩, -, vc, -⟩ := id v
  cases ha : inr a (w 0) with
  | false =>
    refine Both.pure (-2) (K_X10_lasts.e X 14 a I L _ ?_) (fun J L2 h => K_X11_lasts.e X 14 a J L2 _ ?_)
    · simp (disch := omega) only [c_hasCoach h v, ha, a_bi_i, a_bv_n, a_bl_l, a_bq_q, l_0, l_1, l_2, l_3, l_4, l_5, l_6, l_7, l_8, l_9, l_10, l_12, l_16, l_20, l_24, l_25, l_31, l_32, l_33, l_40, l_48, l_57, l_60, l_63, l_64, l_78, l_85, l_97, l_99, l_100, l_122, l_255, l_325, l_700, l_999, l_1000, l_1200, l_99999, l_100000, l_1000000, l_2000000000, l_N, n_add, n_mul, n_lt, n_out, n_div, n_dm, n_eq, n_toN, n_inN, n_ltN, n_nltN, n_neN, Nat.not_lt_zero, false_or, or_false, ite_y, ite_n, if_true, if_false, ite_tt, ite_ff, b_0, b_1, eq_self_iff_true, Bool.true_eq_false, Bool.false_eq_true]
    · simp (disch := omega) only [m_isCoach h v, ha, a_bi_i, a_bv_n, a_bl_l, a_bq_q, l_0, l_1, l_2, l_3, l_4, l_5, l_6, l_7, l_8, l_9, l_10, l_12, l_16, l_20, l_24, l_25, l_31, l_32, l_33, l_40, l_48, l_57, l_60, l_63, l_64, l_78, l_85, l_97, l_99, l_100, l_122, l_255, l_325, l_700, l_999, l_1000, l_1200, l_99999, l_100000, l_1000000, l_2000000000, l_N, n_add, n_mul, n_lt, n_out, n_div, n_dm, n_eq, n_toN, n_inN, n_ltN, n_nltN, n_neN, Nat.not_lt_zero, false_or, or_false, ite_y, ite_n, if_true, if_false, ite_tt, ite_ff, b_0, b_1, eq_self_iff_true, Bool.true_eq_false, Bool.false_eq_true]
  | true =>
    obtain ⟨c, hc, rfl⟩ := inr_ex (by omega) ha
    have hT : 0 < w 1 := (v.live (Or.inl (by omega))).2.2.1
    obtain ⟨J, f1, f2, f3, f4, f5, f6⟩ := c_openChase (X := X) (d := 14) (L := L) h v (by omega)
    obtain ⟨y, y1, y2⟩ := c_outset (X := X) (d := 14) (L := L) (lo := loB w) (dr := doB w) (x := nI 1 <<< (nI c &&& nI 31)) (T := fun p => p = (c, false)) v f6 hT (fun k => by
      rw [bt_one (by omega)]
      constructor
      · intro z; have : k = c := by simpa using z
        subst this; exact ⟨hc, rfl⟩
      · rintro ⟨-, z⟩; have : k = c := congrArg Prod.fst z
        simp [this]) (fun k z => by have := congrArg Prod.snd z; cases this) (by omega)
    generalize hV : (fil w (w 5) (psA w) (knA w) (loB w) (doB w) (w 1 - 1) (c, false)).2.2 = V
    have hVb : V ≤ w 1 := by rw [← hV]; exact (fil_bd (w 1 - 1) (by omega) _).2
    have hla : ∀ m, m < w 1 → (m + 1 ≤ V ↔ ∃ q, fwS w (w 5) (psA w) (knA w) (loB w) (doB w) (fun p => p = (c, false)) m q) := fun m hm => by rw [← hV]; exact la_fw hm
    obtain ⟨r, g1, g2⟩ := loop_ex (F := fun m (x : Int32) => v_X10_lasts_31 X 14 x (nI m) (J, L, ())) (P := fun m x => (m < w 1 → BS x (fwS w (w 5) (psA w) (knA w) (loB w) (doB w) (fun p => p = (c, false)) m)) ∧ m ≤ V) (Q := fun r => r = (some (aI (nI V)), (J, L, ()))) (n := w 1) (fun m x hm hP => by
      obtain ⟨p1, p2⟩ := hP
      have hB := p1 hm
      have hz := hB.zero (fun q hq => by have := fw_in m q hq; omega)
      by_cases hx : x = nI 0
      · right
        have hV' : V = m := by
          have := hz.mp hx
          rw [← hla m hm] at this
          omega
        refine ⟨_, v_X10_lasts_31.e X 14 _ _ J L _ ?_, rfl⟩
        simp (disch := omega) only [a_bi_i, a_bv_n, a_bl_l, a_bq_q, l_0, l_1, l_2, l_3, l_4, l_5, l_6, l_7, l_8, l_9, l_10, l_12, l_16, l_20, l_24, l_25, l_31, l_32, l_33, l_40, l_48, l_57, l_60, l_63, l_64, l_78, l_85, l_97, l_99, l_100, l_122, l_255, l_325, l_700, l_999, l_1000, l_1200, l_99999, l_100000, l_1000000, l_2000000000, l_N, n_add, n_mul, n_lt, n_out, n_div, n_dm, n_eq, n_toN, n_inN, n_ltN, n_nltN, n_neN, Nat.not_lt_zero, false_or, or_false, ite_y, ite_n, if_true, if_false, ite_tt, ite_ff, b_0, b_1, eq_self_iff_true, Bool.true_eq_false, Bool.false_eq_true, c_minutes f3 v, hx, hV']
      · left
        have hge : m + 1 ≤ V := (hla m hm).mpr (by
          by_cases z : ∃ q, fwS w (w 5) (psA w) (knA w) (loB w) (doB w) (fun p => p = (c, false)) m q
          · exact z
          · exact absurd (hz.mpr z) hx)
        by_cases hm1 : m + 1 < w 1
        · obtain ⟨x', k1, k2⟩ := c_onward (X := X) (d := 14) (L := L) (q := 0) f3 v f5 (fun c hc => loB_lt hc) (fun c hc => doB_lt hc) f6 hm1 (fun q hq => fw_in m q hq) hB (by omega)
          refine ⟨x', ⟨fun _ => k2, hge⟩, fun r hr => ?_⟩
          refine v_X10_lasts_31.e X 14 _ _ J L _ ?_
          simp (disch := omega) only [a_bi_i, a_bv_n, a_bl_l, a_bq_q, l_0, l_1, l_2, l_3, l_4, l_5, l_6, l_7, l_8, l_9, l_10, l_12, l_16, l_20, l_24, l_25, l_31, l_32, l_33, l_40, l_48, l_57, l_60, l_63, l_64, l_78, l_85, l_97, l_99, l_100, l_122, l_255, l_325, l_700, l_999, l_1000, l_1200, l_99999, l_100000, l_1000000, l_2000000000, l_N, n_add, n_mul, n_lt, n_out, n_div, n_dm, n_eq, n_toN, n_inN, n_ltN, n_nltN, n_neN, Nat.not_lt_zero, false_or, or_false, ite_y, ite_n, if_true, if_false, ite_tt, ite_ff, b_0, b_1, eq_self_iff_true, Bool.true_eq_false, Bool.false_eq_true, c_minutes f3 v, hx, k1]
          exact hr
        · refine ⟨x, ⟨fun z => absurd z hm1, hge⟩, fun r hr => ?_⟩
          have k1 : K_X0_onward X 14 0 x (nI m) (J, L, ()) = some (some (aI x), (J, L, ())) := by
            refine K_X0_onward.e X 13 _ _ _ J L _ ?_
            rw [f5.1]
            simp (disch := omega) only [a_bi_i, a_bv_n, a_bl_l, a_bq_q, l_0, l_1, l_2, l_3, l_4, l_5, l_6, l_7, l_8, l_9, l_10, l_12, l_16, l_20, l_24, l_25, l_31, l_32, l_33, l_40, l_48, l_57, l_60, l_63, l_64, l_78, l_85, l_97, l_99, l_100, l_122, l_255, l_325, l_700, l_999, l_1000, l_1200, l_99999, l_100000, l_1000000, l_2000000000, l_N, n_add, n_mul, n_lt, n_out, n_div, n_dm, n_eq, n_toN, n_inN, n_ltN, n_nltN, n_neN, Nat.not_lt_zero, false_or, or_false, ite_y, ite_n, if_true, if_false, ite_tt, ite_ff, b_0, b_1, eq_self_iff_true, Bool.true_eq_false, Bool.false_eq_true]
          refine v_X10_lasts_31.e X 14 _ _ J L _ ?_
          simp (disch := omega) only [a_bi_i, a_bv_n, a_bl_l, a_bq_q, l_0, l_1, l_2, l_3, l_4, l_5, l_6, l_7, l_8, l_9, l_10, l_12, l_16, l_20, l_24, l_25, l_31, l_32, l_33, l_40, l_48, l_57, l_60, l_63, l_64, l_78, l_85, l_97, l_99, l_100, l_122, l_255, l_325, l_700, l_999, l_1000, l_1200, l_99999, l_100000, l_1000000, l_2000000000, l_N, n_add, n_mul, n_lt, n_out, n_div, n_dm, n_eq, n_toN, n_inN, n_ltN, n_nltN, n_neN, Nat.not_lt_zero, false_or, or_false, ite_y, ite_n, if_true, if_false, ite_tt, ite_ff, b_0, b_1, eq_self_iff_true, Bool.true_eq_false, Bool.false_eq_true, c_minutes f3 v, hx, k1]
          exact hr) (fun x hP => by
      refine ⟨_, v_X10_lasts_31.e X 14 _ _ J L _ ?_, rfl⟩
      have : V = w 1 := by have := hP.2; omega
      simp (disch := omega) only [a_bi_i, a_bv_n, a_bl_l, a_bq_q, l_0, l_1, l_2, l_3, l_4, l_5, l_6, l_7, l_8, l_9, l_10, l_12, l_16, l_20, l_24, l_25, l_31, l_32, l_33, l_40, l_48, l_57, l_60, l_63, l_64, l_78, l_85, l_97, l_99, l_100, l_122, l_255, l_325, l_700, l_999, l_1000, l_1200, l_99999, l_100000, l_1000000, l_2000000000, l_N, n_add, n_mul, n_lt, n_out, n_div, n_dm, n_eq, n_toN, n_inN, n_ltN, n_nltN, n_neN, Nat.not_lt_zero, false_or, or_false, ite_y, ite_n, if_true, if_false, ite_tt, ite_ff, b_0, b_1, eq_self_iff_true, Bool.true_eq_false, Bool.false_eq_true, c_minutes f3 v, this, Nat.lt_irrefl]) (w 1) 0 y (by omega) ⟨fun _ => y2, by omega⟩
    subst g2
    refine Both.mk (nI V) J (K_X10_lasts.e X 14 _ I L _ ?_) f2 (fun M L2 hM' => ?_)
    · simp (disch := omega) only [c_hasCoach h v, ha, f1, y1, a_bi_i, a_bv_n, a_bl_l, a_bq_q, l_0, l_1, l_2, l_3, l_4, l_5, l_6, l_7, l_8, l_9, l_10, l_12, l_16, l_20, l_24, l_25, l_31, l_32, l_33, l_40, l_48, l_57, l_60, l_63, l_64, l_78, l_85, l_97, l_99, l_100, l_122, l_255, l_325, l_700, l_999, l_1000, l_1200, l_99999, l_100000, l_1000000, l_2000000000, l_N, n_add, n_mul, n_lt, n_out, n_div, n_dm, n_eq, n_toN, n_inN, n_ltN, n_nltN, n_neN, Nat.not_lt_zero, false_or, or_false, ite_y, ite_n, if_true, if_false, ite_tt, ite_ff, b_0, b_1, eq_self_iff_true, Bool.true_eq_false, Bool.false_eq_true]
      exact g1
    · obtain ⟨M', g1, g2, g3, g4, g5, g6⟩ := m_fillAsItIs (X := X) (d := 14) (L := L2) hM' v hT (by omega)
      have hc51 := (g6 (w 1 - 1) (by omega) (c, false) hc).2.2
      rw [show 16 * (w 1 - 1 - (w 1 - 1)) + rmP (c, false) = 2 * c by simp [rmP], hV] at hc51
      refine ⟨M', K_X11_lasts.e X 14 _ M L2 _ ?_, g2⟩
      simp (disch := omega) only [m_isCoach hM' v, ha, g1, hc51, a_bi_i, a_bv_n, a_bl_l, a_bq_q, l_0, l_1, l_2, l_3, l_4, l_5, l_6, l_7, l_8, l_9, l_10, l_12, l_16, l_20, l_24, l_25, l_31, l_32, l_33, l_40, l_48, l_57, l_60, l_63, l_64, l_78, l_85, l_97, l_99, l_100, l_122, l_255, l_325, l_700, l_999, l_1000, l_1200, l_99999, l_100000, l_1000000, l_2000000000, l_N, n_add, n_mul, n_lt, n_out, n_div, n_dm, n_eq, n_toN, n_inN, n_ltN, n_nltN, n_neN, Nat.not_lt_zero, false_or, or_false, ite_y, ite_n, if_true, if_false, ite_tt, ite_ff, b_0, b_1, eq_self_iff_true, Bool.true_eq_false, Bool.false_eq_true]
/-- how many seats are safe, with these loos and doors -/
def sfN (w : TW) (N : Nat) (ps : Nat → Nat → Option Nat) (kn : Nat → Nat) (lo dr : Nat → Bool) : Nat := cnt 9 (fun c => canF w N ps kn lo dr 0 (c, false))
theorem can_8 {j c : Nat} (h8 : w 0 ≤ 8) (hc : 8 ≤ c) : canF w N ps kn lo dr j (c, false) = false := can_out (by omega)
theorem c_safeN {x : Int32} (v : Vw w) (hx : ∀ c, bt x c = canF w N ps kn lo dr 0 (c, false)) (hd : 1 ≤ d) : K_J6_bitCount_0f7a4 X d x (I, L, ()) = some (some (aI (nI (sfN w N ps kn lo dr))), (I, L, ())) := by
  have h8 : ∀ k, 8 ≤ k → bt x k = false := fun k hk => by rw [hx, can_8 v.1.1 hk]
  rw [c_bitCount (fun k hk => h8 k (by omega)) hd, cnt_98 h8, show bt x = fun c => canF w N ps kn lo dr 0 (c, false) from funext hx]
  rfl
theorem m_safeMany (h : TM I w) (v : Vw w) (hQ : QM I lo dr) (hP : PM I (w 1) N ps kn) (hn : N ≤ 3) (hps : ∀ k, k < N → ∀ m x, ps k m = some x → x < 8) (hkn : ∀ k, k < N → kn k ≤ 100) (hT : 0 < w 1) (hd : 6 ≤ d) : ∃ J, K_X11_safeMany X d (I, L, ()) = some (some (aI (nI (sfN w N ps kn lo dr))), (J, L, ())) ∧ Fm [49, 50, 51] I J := by
  obtain ⟨e, rfl⟩ : ∃ e, d = e + 1 := ⟨d - 1, by omega⟩
  obtain ⟨J, f1, f2, f3⟩ := m_fillPlaces (X := X) (d := e) (L := L) h v hQ hP hn hps hkn hT (by omega)
  obtain ⟨x, x1, x2⟩ := m_safeNow (X := X) (d := e) (L := L) (h.fm f2 (by decide)) v f3 hT (by omega)
  refine ⟨J, K_X11_safeMany.e X e I L _ ?_, f2⟩
  simp (disch := omega) only [a_bi_i, a_bv_n, a_bl_l, a_bq_q, f1, x1, m_bits]
  unfold sfN
  rw [show bt x = fun c => canF w N ps kn lo dr 0 (c, false) from funext x2]
theorem sfN_le : sfN w N ps kn lo dr ≤ 9 := cnt_le _ 9
end
