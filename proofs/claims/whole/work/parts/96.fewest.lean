/-! fewest, begins -/
section
variable {X : AX} {d : Nat} {I J : A3 Int32} {L : A3 Int64} {w : TW}
def PKg (g : Nat → Int32) (w : TW) : Prop := (∀ i, a1F w = some i → g 0 = nI i) ∧ ((a1F w) = none → ∀ i, a2F w = some i → ∀ j, c2F w i = some j → g 0 = nI i ∧ g 1 = nI j) ∧ (a1F w = none → a2F w = none → ∀ i, a3F w = some i → ∀ j, b3F w i = some j → ∀ t, c3F w i j = some t → g 0 = nI i ∧ g 1 = nI j ∧ g 2 = nI t)
theorem a2_in {i : Nat} (h : a2F w = some i) : ∃ j, c2F w i = some j := Option.isSome_iff_exists.mp (fnd_some h).2.1
theorem a3_in {i : Nat} (h : a3F w = some i) : ∃ j t, b3F w i = some j ∧ c3F w i j = some t := by
  obtain ⟨j, hj⟩ := Option.isSome_iff_exists.mp (fnd_some h).2.1
  obtain ⟨t, ht⟩ := Option.isSome_iff_exists.mp (fndF_lt _ _ _ hj).2.2.1
  exact ⟨j, t, hj, ht⟩
theorem PKg.uniq {g g' : Nat → Int32} {n t : Nat} (h : PKg g w) (h' : PKg g' w) (hn : szF w = some n) (ht : t < n) : g t = g' t := by
  unfold szF at hn
  cases h1 : a1F w with
  | some i =>
    rw [h1, if_pos (by rfl)] at hn
    cases hn
    obtain rfl : t = 0 := by omega
    rw [h.1 i h1, h'.1 i h1]
  | none =>
    rw [h1, if_neg (by decide)] at hn
    cases h2 : a2F w with
    | some i =>
      rw [h2, if_pos (by rfl)] at hn
      cases hn
      obtain ⟨j, hj⟩ := a2_in h2
      obtain ⟨x1, x2⟩ := h.2.1 h1 i h2 j hj
      obtain ⟨y1, y2⟩ := h'.2.1 h1 i h2 j hj
      rcases (show t = 0 ∨ t = 1 by omega) with rfl | rfl
      · rw [x1, y1]
      · rw [x2, y2]
    | none =>
      rw [h2, if_neg (by decide)] at hn
      cases h3 : a3F w with
      | some i =>
        rw [h3, if_pos (by rfl)] at hn
        cases hn
        obtain ⟨j, z, hj, hz⟩ := a3_in h3
        obtain ⟨x1, x2, x3⟩ := h.2.2 h1 h2 i h3 j hj z hz
        obtain ⟨y1, y2, y3⟩ := h'.2.2 h1 h2 i h3 j hj z hz
        rcases (show t = 0 ∨ t = 1 ∨ t = 2 by omega) with rfl | rfl | rfl
        · rw [x1, y1]
        · rw [x2, y2]
        · rw [x3, y3]
      | none => rw [h3, if_neg (by decide)] at hn; cases hn
theorem szF_le {n : Nat} (hn : szF w = some n) : 1 ≤ n ∧ n ≤ 3 := by
  unfold szF at hn
  split at hn
  · cases hn; decide
  · split at hn
    · cases hn; decide
    · split at hn
      · cases hn; decide
      · cases hn
theorem m_findRow (h : TM I w) (v : Vw w) (h5 : 0 < w 5) (hd : 8 ≤ d) : ∃ J, K_X11_findRow X d (I, L, ()) = some (some (aI (bI (szF w).isSome)), (J, L, ())) ∧ Sm I J ∧ ∀ n, szF w = some n → J 40 0 26 = nI n ∧ PKg (J 54 0) w := by
  obtain ⟨e, rfl⟩ : ∃ e, d = e + 1 := ⟨d - 1, by omega⟩
  obtain ⟨J1, f1, f2, f3⟩ := m_places (X := X) (d := e) (L := L) h v (by omega)
  generalize hI1 : up3 J1 40 0 26 (nI 1) = I1
  have s1 : Sm I I1 := by
    rw [← hI1]
    exact ⟨fun f hf => by rw [u3_f _ _ (fun z => hf (by rw [z]; decide))]; exact f2.sm.1 f hf, fun j hj => by rw [u3_j _ _ (by omega)]; exact f2.sm.2 j hj⟩
  have t1 : TM I1 w := h.sm s1
  have q1 : QM I1 (loB w) (doB w) := by
    unfold QM
    rw [← hI1, u3_j _ _ (by decide), u3_j _ _ (by decide)]
    exact f3
  have r1 : RT I1 I1 1 := ⟨Fm.refl, fun _ _ _ => rfl, by rw [← hI1]; exact u3_eq _ _ _ _ _⟩
  have toS : ∀ {K : A3 Int32} {n : Nat}, RT I1 K n → Sm I K := fun hK => s1.trans ⟨hK.1.mono (by decide), fun j hj => hK.2.1 j (by omega) (by omega)⟩
  have st : ∀ r, v_X11_findRow_9 X e (I1, L, ()) = some r → K_X11_findRow X (e + 1) (I, L, ()) = some r := fun r hr => by
    refine K_X11_findRow.e X e I L r ?_
    simp (disch := omega) only [a_bi_i, a_bv_n, a_bl_l, a_bq_q, l_0, l_1, l_2, l_3, l_4, l_5, l_6, l_7, l_8, l_9, l_10, l_12, l_16, l_20, l_24, l_25, l_31, l_32, l_33, l_40, l_48, l_57, l_60, l_63, l_64, l_78, l_85, l_97, l_99, l_100, l_122, l_255, l_325, l_700, l_999, l_1000, l_1200, l_99999, l_100000, l_1000000, l_2000000000, l_N, n_add, n_mul, n_lt, n_out, n_div, n_dm, n_eq, n_toN, n_inN, n_ltN, n_nltN, n_neN, Nat.not_lt_zero, false_or, or_false, ite_y, ite_n, if_true, if_false, ite_tt, ite_ff, b_0, b_1, eq_self_iff_true, Bool.true_eq_false, Bool.false_eq_true, f1, hI1]
    exact hr
  obtain ⟨A, A1, A2⟩ := f_start (X := X) (d := e) (L := L) (by decide) r1
  obtain ⟨B1, B2⟩ := f_one (X := X) (d := e) (L := L) t1 v h5 q1 (by omega) A1
  unfold szF
  cases h1 : a1F w with
  | some i =>
    obtain ⟨J, j1, j2⟩ := B1 i h1
    refine ⟨J, st _ (A2 _ j1), toS j2.1, fun n hn => ?_⟩
    simp only [Option.isSome, if_true, Option.some.injEq] at hn
    subst hn
    exact ⟨j2.1.2.2, fun i' hi' => by rw [h1] at hi'; cases hi'; exact j2.2 0 (by decide), fun z => (by rw [h1] at z; cases z), fun z => (by rw [h1] at z; cases z)⟩
  | none =>
    obtain ⟨A', A3, A4⟩ := B2 h1
    obtain ⟨C, C1, C2⟩ := f_start (X := X) (d := e) (L := L) (by decide) A3
    obtain ⟨D1, D2⟩ := f_two (X := X) (d := e) (L := L) t1 v h5 q1 (by omega) C1
    cases h2 : a2F w with
    | some i =>
      obtain ⟨j, hj⟩ := a2_in h2
      obtain ⟨J, j1, j2⟩ := D1 i h2 j hj
      refine ⟨J, st _ (A2 _ (A4 _ (C2 _ j1))), toS j2.1, fun n hn => ?_⟩
      simp only [Option.isSome, if_true, if_false, Bool.false_eq_true, Option.some.injEq] at hn
      subst hn
      exact ⟨j2.1.2.2, fun i' hi' => (by rw [h1] at hi'; cases hi'), fun _ i' hi' j' hj' => (by rw [h2] at hi'; cases hi'; rw [hj] at hj'; cases hj'; exact ⟨j2.2 0 (by decide), j2.2 1 (by decide)⟩), fun _ z => (by rw [h2] at z; cases z)⟩
    | none =>
      obtain ⟨C', C3, C4⟩ := D2 h2
      obtain ⟨G, G1, G2⟩ := f_start (X := X) (d := e) (L := L) (by decide) C3
      obtain ⟨E1, E2⟩ := f_three (X := X) (d := e) (L := L) t1 v h5 q1 (by omega) G1
      cases h3 : a3F w with
      | some i =>
        obtain ⟨j, t, hj, ht⟩ := a3_in h3
        obtain ⟨J, j1, j2⟩ := E1 i h3 j hj t ht
        refine ⟨J, st _ (A2 _ (A4 _ (C2 _ (C4 _ (G2 _ j1))))), toS j2.1, fun n hn => ?_⟩
        simp only [Option.isSome, if_true, if_false, Bool.false_eq_true, Option.some.injEq] at hn
        subst hn
        exact ⟨j2.1.2.2, fun i' hi' => (by rw [h1] at hi'; cases hi'), fun _ i' hi' => (by rw [h2] at hi'; cases hi'), fun _ _ i' hi' j' hj' t' ht' => (by rw [h3] at hi'; cases hi'; rw [hj] at hj'; cases hj'; rw [ht] at ht'; cases ht'; exact ⟨j2.2 0 (by decide), j2.2 1 (by decide), j2.2 2 (by decide)⟩)⟩
      | none =>
        obtain ⟨G', G3, G4⟩ := E2 h3
        exact ⟨G', st _ (A2 _ (A4 _ (C2 _ (C4 _ (G2 _ (G4 _ (f_over G3))))))), toS G3, fun n hn => by simp at hn⟩
/-- both calls answer alike, the hunt's cache being kept -/
def BothH (w : TW) (KC KM : AU → ARes Unit) (I : A3 Int32) (L : A3 Int64) : Prop := ∃ x I', KC (I, L, ()) = some (some (aI x), (I', L, ())) ∧ Fm SHL I I' ∧ HI I' w ∧ ∀ J L2, TM J w → ∃ J', KM (J, L2, ()) = some (some (aI x), (J', L2, ())) ∧ Sm J J'
theorem q_fewest (h : TC I w) (v : Vw w) (hh : HI I w) : BothH w (K_X10_fewest X 15) (K_X11_fewest X 15) I L := by
  obtain ⟨⟨h0, h1, h2, h3, h4, h5, h6, -⟩, -⟩ := id v
  by_cases h5' : 0 < w 5
  · have hi : inr (nI 0) (w 5) = true := by rw [inr_n (by omega) (by omega)]; simp [h5']
    obtain ⟨J, f1, f2, f3, f4, f5⟩ := c_seekFewest (X := X) (d := 14) (L := L) h v h5' hh (by omega)
    refine ⟨oI (szF w), J, K_X10_fewest.e X 14 I L _ ?_, f2, f3, fun M L2 hM => ?_⟩
    · simp (disch := omega) only [c_hasInspector h v, hi, f1, f4, a_bi_i, a_bv_n, a_bl_l, a_bq_q, l_0, l_1, l_2, l_3, l_4, l_5, l_6, l_7, l_8, l_9, l_10, l_12, l_16, l_20, l_24, l_25, l_31, l_32, l_33, l_40, l_48, l_57, l_60, l_63, l_64, l_78, l_85, l_97, l_99, l_100, l_122, l_255, l_325, l_700, l_999, l_1000, l_1200, l_99999, l_100000, l_1000000, l_2000000000, l_N, n_add, n_mul, n_lt, n_out, n_div, n_dm, n_eq, n_toN, n_inN, n_ltN, n_nltN, n_neN, Nat.not_lt_zero, false_or, or_false, ite_y, ite_n, if_true, if_false, ite_tt, ite_ff, b_0, b_1, eq_self_iff_true, Bool.true_eq_false, Bool.false_eq_true]
    · obtain ⟨M', g1, g2, g3⟩ := m_findRow (X := X) (d := 14) (L := L2) hM v h5' (by omega)
      refine ⟨M', K_X11_fewest.e X 14 M L2 _ ?_, g2⟩
      rw [hM 5 (by decide)]
      have hne : ¬ w 5 = 0 := by omega
      simp (disch := omega) only [g1, hne, a_bi_i, a_bv_n, a_bl_l, a_bq_q, l_0, l_1, l_2, l_3, l_4, l_5, l_6, l_7, l_8, l_9, l_10, l_12, l_16, l_20, l_24, l_25, l_31, l_32, l_33, l_40, l_48, l_57, l_60, l_63, l_64, l_78, l_85, l_97, l_99, l_100, l_122, l_255, l_325, l_700, l_999, l_1000, l_1200, l_99999, l_100000, l_1000000, l_2000000000, l_N, n_add, n_mul, n_lt, n_out, n_div, n_dm, n_eq, n_toN, n_inN, n_ltN, n_nltN, n_neN, Nat.not_lt_zero, false_or, or_false, ite_y, ite_n, if_true, if_false, ite_tt, ite_ff, b_0, b_1, eq_self_iff_true, Bool.true_eq_false, Bool.false_eq_true]
      cases hs : szF w with
      | none => rfl
      | some n => simp only [Option.isSome, Bool.true_eq_false, if_false, (g3 n hs).1]; rfl
  · have hz : w 5 = 0 := by omega
    have hi : inr (nI 0) (w 5) = false := by rw [inr_n (by omega) (by omega)]; simp [hz]
    refine ⟨-2, I, K_X10_fewest.e X 14 I L _ ?_, Fm.refl, hh, fun M L2 hM => ⟨M, K_X11_fewest.e X 14 M L2 _ ?_, Sm.refl⟩⟩
    · simp (disch := omega) only [c_hasInspector h v, hi, a_bi_i, a_bv_n, a_bl_l, a_bq_q, l_0, l_1, l_2, l_3, l_4, l_5, l_6, l_7, l_8, l_9, l_10, l_12, l_16, l_20, l_24, l_25, l_31, l_32, l_33, l_40, l_48, l_57, l_60, l_63, l_64, l_78, l_85, l_97, l_99, l_100, l_122, l_255, l_325, l_700, l_999, l_1000, l_1200, l_99999, l_100000, l_1000000, l_2000000000, l_N, n_add, n_mul, n_lt, n_out, n_div, n_dm, n_eq, n_toN, n_inN, n_ltN, n_nltN, n_neN, Nat.not_lt_zero, false_or, or_false, ite_y, ite_n, if_true, if_false, ite_tt, ite_ff, b_0, b_1, eq_self_iff_true, Bool.true_eq_false, Bool.false_eq_true]
    · rw [hM 5 (by decide)]
      simp (disch := omega) only [hz, a_bi_i, a_bv_n, a_bl_l, a_bq_q, l_0, l_1, l_2, l_3, l_4, l_5, l_6, l_7, l_8, l_9, l_10, l_12, l_16, l_20, l_24, l_25, l_31, l_32, l_33, l_40, l_48, l_57, l_60, l_63, l_64, l_78, l_85, l_97, l_99, l_100, l_122, l_255, l_325, l_700, l_999, l_1000, l_1200, l_99999, l_100000, l_1000000, l_2000000000, l_N, n_add, n_mul, n_lt, n_out, n_div, n_dm, n_eq, n_toN, n_inN, n_ltN, n_nltN, n_neN, Nat.not_lt_zero, false_or, or_false, ite_y, ite_n, if_true, if_false, ite_tt, ite_ff, b_0, b_1, eq_self_iff_true, Bool.true_eq_false, Bool.false_eq_true]
theorem q_begins (h : TC I w) (v : Vw w) (hh : HI I w) (a : Int32) : BothH w (K_X10_begins X 15 a) (K_X11_begins X 15 a) I L := by
  obtain ⟨⟨h0, h1, h2, h3, h4, h5, h6, -⟩, -⟩ := id v
  by_cases h5' : 0 < w 5
  · have hi : inr (nI 0) (w 5) = true := by rw [inr_n (by omega) (by omega)]; simp [h5']
    have hne : ¬ w 5 = 0 := by omega
    obtain ⟨J, f1, f2, f3, f4, f5⟩ := c_seekFewest (X := X) (d := 14) (L := L) h v h5' hh (by omega)
    cases hs : szF w with
    | none =>
      rw [hs] at f4
      refine ⟨nN, J, K_X10_begins.e X 14 a I L _ ?_, f2, f3, fun M L2 hM => ?_⟩
      · simp (disch := omega) only [c_hasInspector h v, hi, f1, f4, a_bi_i, a_bv_n, a_bl_l, a_bq_q, l_0, l_1, l_2, l_3, l_4, l_5, l_6, l_7, l_8, l_9, l_10, l_12, l_16, l_20, l_24, l_25, l_31, l_32, l_33, l_40, l_48, l_57, l_60, l_63, l_64, l_78, l_85, l_97, l_99, l_100, l_122, l_255, l_325, l_700, l_999, l_1000, l_1200, l_99999, l_100000, l_1000000, l_2000000000, l_N, n_add, n_mul, n_lt, n_out, n_div, n_dm, n_eq, n_toN, n_inN, n_ltN, n_nltN, n_neN, Nat.not_lt_zero, false_or, or_false, ite_y, ite_n, if_true, if_false, ite_tt, ite_ff, b_0, b_1, eq_self_iff_true, Bool.true_eq_false, Bool.false_eq_true]
        by_cases ha : a < nI 0
        · simp only [ha, if_true]
        · obtain ⟨n, hn, rfl⟩ := n_ex ha
          simp (disch := omega) only [oI, a_bi_i, a_bv_n, a_bl_l, a_bq_q, l_0, l_1, l_2, l_3, l_4, l_5, l_6, l_7, l_8, l_9, l_10, l_12, l_16, l_20, l_24, l_25, l_31, l_32, l_33, l_40, l_48, l_57, l_60, l_63, l_64, l_78, l_85, l_97, l_99, l_100, l_122, l_255, l_325, l_700, l_999, l_1000, l_1200, l_99999, l_100000, l_1000000, l_2000000000, l_N, n_add, n_mul, n_lt, n_out, n_div, n_dm, n_eq, n_toN, n_inN, n_ltN, n_nltN, n_neN, Nat.not_lt_zero, false_or, or_false, ite_y, ite_n, if_true, if_false, ite_tt, ite_ff, b_0, b_1, eq_self_iff_true, Bool.true_eq_false, Bool.false_eq_true]
      · obtain ⟨M', g1, g2, g3⟩ := m_findRow (X := X) (d := 14) (L := L2) hM v h5' (by omega)
        rw [hs] at g1
        refine ⟨M', K_X11_begins.e X 14 a M L2 _ ?_, g2⟩
        rw [hM 5 (by decide)]
        simp (disch := omega) only [g1, hne, Option.isSome, a_bi_i, a_bv_n, a_bl_l, a_bq_q, l_0, l_1, l_2, l_3, l_4, l_5, l_6, l_7, l_8, l_9, l_10, l_12, l_16, l_20, l_24, l_25, l_31, l_32, l_33, l_40, l_48, l_57, l_60, l_63, l_64, l_78, l_85, l_97, l_99, l_100, l_122, l_255, l_325, l_700, l_999, l_1000, l_1200, l_99999, l_100000, l_1000000, l_2000000000, l_N, n_add, n_mul, n_lt, n_out, n_div, n_dm, n_eq, n_toN, n_inN, n_ltN, n_nltN, n_neN, Nat.not_lt_zero, false_or, or_false, ite_y, ite_n, if_true, if_false, ite_tt, ite_ff, b_0, b_1, eq_self_iff_true, Bool.true_eq_false, Bool.false_eq_true]
    | some n =>
      obtain ⟨n1, n2⟩ := szF_le hs
      rw [hs] at f4
      have f4' : J 28 0 6 = nI n := f4
      have hM : ∀ (M : A3 Int32) (L2 : A3 Int64), K_X11_in X 14 a.toInt64 (0 : Int64) (nI (n - 1)).toInt64 (M, L2, ()) = some (some (aI (bI (inr a n))), (M, L2, ())) := fun M L2 => by
        rw [m_in (by omega), ← inL_n (a := a) (n := n) (by omega), n_sub n1]
      cases ha : inr a n with
      | false =>
        refine ⟨nN, J, K_X10_begins.e X 14 a I L _ ?_, f2, f3, fun M L2 hM' => ?_⟩
        · simp (disch := omega) only [c_hasInspector h v, hi, f1, f4', a_bi_i, a_bv_n, a_bl_l, a_bq_q, l_0, l_1, l_2, l_3, l_4, l_5, l_6, l_7, l_8, l_9, l_10, l_12, l_16, l_20, l_24, l_25, l_31, l_32, l_33, l_40, l_48, l_57, l_60, l_63, l_64, l_78, l_85, l_97, l_99, l_100, l_122, l_255, l_325, l_700, l_999, l_1000, l_1200, l_99999, l_100000, l_1000000, l_2000000000, l_N, n_add, n_mul, n_lt, n_out, n_div, n_dm, n_eq, n_toN, n_inN, n_ltN, n_nltN, n_neN, Nat.not_lt_zero, false_or, or_false, ite_y, ite_n, if_true, if_false, ite_tt, ite_ff, b_0, b_1, eq_self_iff_true, Bool.true_eq_false, Bool.false_eq_true]
          unfold inr at ha
          by_cases h7 : a < nI 0
          · simp only [h7, if_true]
          · have : ¬ a < nI n := fun q => by simp [h7, q] at ha
            simp only [h7, this, if_false]
        · obtain ⟨M', g1, g2, g3⟩ := m_findRow (X := X) (d := 14) (L := L2) hM' v h5' (by omega)
          rw [hs] at g1
          refine ⟨M', K_X11_begins.e X 14 a M L2 _ ?_, g2⟩
          rw [hM' 5 (by decide)]
          simp (disch := omega) only [g1, hne, Option.isSome, (g3 n hs).1, l_1, n_sub, hM, ha, a_bi_i, a_bv_n, a_bl_l, a_bq_q, l_0, l_1, l_2, l_3, l_4, l_5, l_6, l_7, l_8, l_9, l_10, l_12, l_16, l_20, l_24, l_25, l_31, l_32, l_33, l_40, l_48, l_57, l_60, l_63, l_64, l_78, l_85, l_97, l_99, l_100, l_122, l_255, l_325, l_700, l_999, l_1000, l_1200, l_99999, l_100000, l_1000000, l_2000000000, l_N, n_add, n_mul, n_lt, n_out, n_div, n_dm, n_eq, n_toN, n_inN, n_ltN, n_nltN, n_neN, Nat.not_lt_zero, false_or, or_false, ite_y, ite_n, if_true, if_false, ite_tt, ite_ff, b_0, b_1, eq_self_iff_true, Bool.true_eq_false, Bool.false_eq_true]
      | true =>
        obtain ⟨t, ht, rfl⟩ := inr_ex (by omega) ha
        refine ⟨J 30 0 t, J, K_X10_begins.e X 14 _ I L _ ?_, f2, f3, fun M L2 hM' => ?_⟩
        · simp (disch := omega) only [c_hasInspector h v, hi, f1, f4', a_bi_i, a_bv_n, a_bl_l, a_bq_q, l_0, l_1, l_2, l_3, l_4, l_5, l_6, l_7, l_8, l_9, l_10, l_12, l_16, l_20, l_24, l_25, l_31, l_32, l_33, l_40, l_48, l_57, l_60, l_63, l_64, l_78, l_85, l_97, l_99, l_100, l_122, l_255, l_325, l_700, l_999, l_1000, l_1200, l_99999, l_100000, l_1000000, l_2000000000, l_N, n_add, n_mul, n_lt, n_out, n_div, n_dm, n_eq, n_toN, n_inN, n_ltN, n_nltN, n_neN, Nat.not_lt_zero, false_or, or_false, ite_y, ite_n, if_true, if_false, ite_tt, ite_ff, b_0, b_1, eq_self_iff_true, Bool.true_eq_false, Bool.false_eq_true]
        · obtain ⟨M', g1, g2, g3⟩ := m_findRow (X := X) (d := 14) (L := L2) hM' v h5' (by omega)
          rw [hs] at g1
          have e : M' 54 0 t = J 30 0 t := PKg.uniq (g := M' 54 0) (g' := J 30 0) (g3 n hs).2 f5 hs ht
          refine ⟨M', K_X11_begins.e X 14 _ M L2 _ ?_, g2⟩
          rw [hM' 5 (by decide)]
          simp (disch := omega) only [g1, hne, Option.isSome, (g3 n hs).1, l_1, n_sub, hM, ha, e, a_bi_i, a_bv_n, a_bl_l, a_bq_q, l_0, l_1, l_2, l_3, l_4, l_5, l_6, l_7, l_8, l_9, l_10, l_12, l_16, l_20, l_24, l_25, l_31, l_32, l_33, l_40, l_48, l_57, l_60, l_63, l_64, l_78, l_85, l_97, l_99, l_100, l_122, l_255, l_325, l_700, l_999, l_1000, l_1200, l_99999, l_100000, l_1000000, l_2000000000, l_N, n_add, n_mul, n_lt, n_out, n_div, n_dm, n_eq, n_toN, n_inN, n_ltN, n_nltN, n_neN, Nat.not_lt_zero, false_or, or_false, ite_y, ite_n, if_true, if_false, ite_tt, ite_ff, b_0, b_1, eq_self_iff_true, Bool.true_eq_false, Bool.false_eq_true]
  · have hz : w 5 = 0 := by omega
    have hi : inr (nI 0) (w 5) = false := by rw [inr_n (by omega) (by omega)]; simp [hz]
    refine ⟨-2, I, K_X10_begins.e X 14 a I L _ ?_, Fm.refl, hh, fun M L2 hM => ⟨M, K_X11_begins.e X 14 a M L2 _ ?_, Sm.refl⟩⟩
    · simp (disch := omega) only [c_hasInspector h v, hi, a_bi_i, a_bv_n, a_bl_l, a_bq_q, l_0, l_1, l_2, l_3, l_4, l_5, l_6, l_7, l_8, l_9, l_10, l_12, l_16, l_20, l_24, l_25, l_31, l_32, l_33, l_40, l_48, l_57, l_60, l_63, l_64, l_78, l_85, l_97, l_99, l_100, l_122, l_255, l_325, l_700, l_999, l_1000, l_1200, l_99999, l_100000, l_1000000, l_2000000000, l_N, n_add, n_mul, n_lt, n_out, n_div, n_dm, n_eq, n_toN, n_inN, n_ltN, n_nltN, n_neN, Nat.not_lt_zero, false_or, or_false, ite_y, ite_n, if_true, if_false, ite_tt, ite_ff, b_0, b_1, eq_self_iff_true, Bool.true_eq_false, Bool.false_eq_true]
    · rw [hM 5 (by decide)]
      simp (disch := omega) only [hz, a_bi_i, a_bv_n, a_bl_l, a_bq_q, l_0, l_1, l_2, l_3, l_4, l_5, l_6, l_7, l_8, l_9, l_10, l_12, l_16, l_20, l_24, l_25, l_31, l_32, l_33, l_40, l_48, l_57, l_60, l_63, l_64, l_78, l_85, l_97, l_99, l_100, l_122, l_255, l_325, l_700, l_999, l_1000, l_1200, l_99999, l_100000, l_1000000, l_2000000000, l_N, n_add, n_mul, n_lt, n_out, n_div, n_dm, n_eq, n_toN, n_inN, n_ltN, n_nltN, n_neN, Nat.not_lt_zero, false_or, or_false, ite_y, ite_n, if_true, if_false, ite_tt, ite_ff, b_0, b_1, eq_self_iff_true, Bool.true_eq_false, Bool.false_eq_true]
end
