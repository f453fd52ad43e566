/-! a trip drawn: the class -/
section
variable {X : AX} {d : Nat} {I J : A3 Int32} {L : A3 Int64} {w : TW}
def LF (L L' : A3 Int64) : Prop := ∀ f, f ≠ 31 → L' f = L f
theorem LF.refl : LF L L := fun _ _ => rfl
theorem LF.up {L' : A3 Int64} {x : Int64} (h : LF L L') : LF L (up3 L' 31 0 0 x) := fun f hf => by rw [u3_f _ _ hf]; exact h f hf
theorem LF.trans {L1 L2 : A3 Int64} (h1 : LF L L1) (h2 : LF L1 L2) : LF L L2 := fun f hf => (h2 f hf).trans (h1 f hf)
/-- the rides stand -/
def RA (I : A3 Int32) (w : TW) : Prop := PC I (w 1) (w 5) (psA w) ∧ ∀ r, r < w 6 → RP I r (w 1) (trp w r)
theorem c_dmA {n r m g : Nat} (h : TC I w) (v : Vw w) (hA : RA I w) (hn : n < 2147483648) (hr : r < w 6) (hm : m < w 1) (hh : hdB w n r m = true) (hd : 4 ≤ g) : ∀ k j L, j + k = r → L 31 0 0 = qL (drX w m (dmX w n m) j) → ∃ L', v_X10_drawnMinute_24 X g (nI r) (nI m) (nI j) (I, L, ()) = some (some (aI (nI m)), (I, L', ())) ∧ LF L L' := by
  obtain ⟨⟨w0, w1, -, -, -, w5, w6, -⟩, -⟩ := id v
  have b0 := fun j => drX_lt (w := w) (m := m) (dmX_lt (w := w) hn m) j
  intro k
  induction k with
  | zero =>
    intro j L hj hL
    obtain rfl : j = r := by omega
    have c1 := c_isDrawnHad (X := X) (d := g) h v hA.1 (hA.2 j hr) hr hm hL (b0 j) hd
    have hh' : (dkF w j m (drX w m (dmX w n m) j) (w 5)).1 = true := hh
    rw [hh'] at c1
    refine ⟨_, v_X10_drawnMinute_24.e X g _ _ _ I L _ ?_, LF.refl.up (x := qL (dkF w j m (drX w m (dmX w n m) j) (w 5)).2)⟩
    simp (disch := omega) only [a_bi_i, a_bv_n, a_bl_l, a_bq_q, l_0, l_1, l_2, l_3, l_4, l_5, l_6, l_7, l_8, l_9, l_10, l_12, l_16, l_20, l_24, l_25, l_31, l_32, l_33, l_40, l_48, l_57, l_60, l_63, l_64, l_78, l_85, l_97, l_99, l_100, l_122, l_255, l_325, l_700, l_999, l_1000, l_1200, l_99999, l_100000, l_1000000, l_2000000000, l_N, n_add, n_mul, n_lt, n_out, n_div, n_dm, n_eq, n_toN, n_inN, n_ltN, n_nltN, n_neN, Nat.not_lt_zero, false_or, or_false, ite_y, ite_n, if_true, if_false, ite_tt, ite_ff, b_0, b_1, eq_self_iff_true, Bool.true_eq_false, Bool.false_eq_true, c_riders h v, c1]
  | succ k ih =>
    intro j L hj hL
    have c1 := c_isDrawnHad (X := X) (d := g) h v hA.1 (hA.2 j (by omega)) (by omega) hm hL (b0 j) hd
    obtain ⟨L', a1, a2⟩ := ih (j + 1) (up3 L 31 0 0 (qL (drX w m (dmX w n m) (j + 1)))) (by omega) (u3_eq _ _ _ _ _)
    refine ⟨L', v_X10_drawnMinute_24.e X g _ _ _ I L _ ?_, (LF.refl.up).trans a2⟩
    have ne : ¬ j = r := by omega
    simp (disch := omega) only [a_bi_i, a_bv_n, a_bl_l, a_bq_q, l_0, l_1, l_2, l_3, l_4, l_5, l_6, l_7, l_8, l_9, l_10, l_12, l_16, l_20, l_24, l_25, l_31, l_32, l_33, l_40, l_48, l_57, l_60, l_63, l_64, l_78, l_85, l_97, l_99, l_100, l_122, l_255, l_325, l_700, l_999, l_1000, l_1200, l_99999, l_100000, l_1000000, l_2000000000, l_N, n_add, n_mul, n_lt, n_out, n_div, n_dm, n_eq, n_toN, n_inN, n_ltN, n_nltN, n_neN, Nat.not_lt_zero, false_or, or_false, ite_y, ite_n, if_true, if_false, ite_tt, ite_ff, b_0, b_1, eq_self_iff_true, Bool.true_eq_false, Bool.false_eq_true, c_riders h v, c1, ne]
    split <;> exact a1
theorem c_dmB {n r m g : Nat} (h : TC I w) (v : Vw w) (hA : RA I w) (hn : n < 2147483648) (hr : r < w 6) (hm : m < w 1) (hh : hdB w n r m = false) (hd : 4 ≤ g) : ∀ k j L, j + k = w 6 → L 31 0 0 = qL (drX w m (dmX w n m) j) → ∃ L', LF L L' ∧ L' 31 0 0 = qL (dmX w n (m + 1)) ∧ OLe (v_X10_drawnMinute_10 X g (nI r) (nI (m + 1)) (I, L', ())) (v_X10_drawnMinute_24 X g (nI r) (nI m) (nI j) (I, L, ())) := by
  obtain ⟨⟨w0, w1, -, -, -, w5, w6, -⟩, -⟩ := id v
  have b0 := fun j => drX_lt (w := w) (m := m) (dmX_lt (w := w) hn m) j
  intro k
  induction k with
  | zero =>
    intro j L hj hL
    obtain rfl : j = w 6 := by omega
    refine ⟨L, LF.refl, hL, fun s hs => v_X10_drawnMinute_24.e X g _ _ _ I L _ ?_⟩
    simp (disch := omega) only [a_bi_i, a_bv_n, a_bl_l, a_bq_q, l_0, l_1, l_2, l_3, l_4, l_5, l_6, l_7, l_8, l_9, l_10, l_12, l_16, l_20, l_24, l_25, l_31, l_32, l_33, l_40, l_48, l_57, l_60, l_63, l_64, l_78, l_85, l_97, l_99, l_100, l_122, l_255, l_325, l_700, l_999, l_1000, l_1200, l_99999, l_100000, l_1000000, l_2000000000, l_N, n_add, n_mul, n_lt, n_out, n_div, n_dm, n_eq, n_toN, n_inN, n_ltN, n_nltN, n_neN, Nat.not_lt_zero, false_or, or_false, ite_y, ite_n, if_true, if_false, ite_tt, ite_ff, b_0, b_1, eq_self_iff_true, Bool.true_eq_false, Bool.false_eq_true, c_riders h v, Nat.lt_irrefl]
    exact hs
  | succ k ih =>
    intro j L hj hL
    have c1 := c_isDrawnHad (X := X) (d := g) h v hA.1 (hA.2 j (by omega)) (by omega) hm hL (b0 j) hd
    obtain ⟨L', a1, a2, a3⟩ := ih (j + 1) (up3 L 31 0 0 (qL (drX w m (dmX w n m) (j + 1)))) (by omega) (u3_eq _ _ _ _ _)
    refine ⟨L', (LF.refl.up).trans a1, a2, fun s hs => v_X10_drawnMinute_24.e X g _ _ _ I L _ ?_⟩
    simp (disch := omega) only [a_bi_i, a_bv_n, a_bl_l, a_bq_q, l_0, l_1, l_2, l_3, l_4, l_5, l_6, l_7, l_8, l_9, l_10, l_12, l_16, l_20, l_24, l_25, l_31, l_32, l_33, l_40, l_48, l_57, l_60, l_63, l_64, l_78, l_85, l_97, l_99, l_100, l_122, l_255, l_325, l_700, l_999, l_1000, l_1200, l_99999, l_100000, l_1000000, l_2000000000, l_N, n_add, n_mul, n_lt, n_out, n_div, n_dm, n_eq, n_toN, n_inN, n_ltN, n_nltN, n_neN, Nat.not_lt_zero, false_or, or_false, ite_y, ite_n, if_true, if_false, ite_tt, ite_ff, b_0, b_1, eq_self_iff_true, Bool.true_eq_false, Bool.false_eq_true, c_riders h v, c1]
    by_cases e : j = r
    · subst e
      have hh' : (dkF w j m (drX w m (dmX w n m) j) (w 5)).1 = false := hh
      rw [hh', if_pos rfl]
      exact a3 s hs
    · rw [if_neg e]
      split <;> exact a3 s hs
theorem c_drawnMinute {n r : Nat} (h : TC I w) (v : Vw w) (hA : RA I w) (hn : n < 2147483648) (hr : r < w 6) (hd : 5 ≤ d) : ∃ L', K_X10_drawnMinute X d (nI n) (nI r) (I, L, ()) = some (some (aI (oI (fnd (w 1) (hdB w n r)))), (I, L', ())) ∧ LF L L' := by
  obtain ⟨e, rfl⟩ : ∃ e, d = e + 1 := ⟨d - 1, by omega⟩
  obtain ⟨⟨w0, w1, -, -, -, w5, w6, -⟩, -⟩ := id v
  have key : ∀ k m L, m + k = w 1 → L 31 0 0 = qL (dmX w n m) → ∃ L', v_X10_drawnMinute_10 X e (nI r) (nI m) (I, L, ()) = some (some (aI (oI (fndF (hdB w n r) k m))), (I, L', ())) ∧ LF L L' := by
    intro k
    induction k with
    | zero =>
      intro m L hm hL
      refine ⟨L, v_X10_drawnMinute_10.e X e _ _ I L _ ?_, LF.refl⟩
      simp (disch := omega) only [a_bi_i, a_bv_n, a_bl_l, a_bq_q, l_0, l_1, l_2, l_3, l_4, l_5, l_6, l_7, l_8, l_9, l_10, l_12, l_16, l_20, l_24, l_25, l_31, l_32, l_33, l_40, l_48, l_57, l_60, l_63, l_64, l_78, l_85, l_97, l_99, l_100, l_122, l_255, l_325, l_700, l_999, l_1000, l_1200, l_99999, l_100000, l_1000000, l_2000000000, l_N, n_add, n_mul, n_lt, n_out, n_div, n_dm, n_eq, n_toN, n_inN, n_ltN, n_nltN, n_neN, Nat.not_lt_zero, false_or, or_false, ite_y, ite_n, if_true, if_false, ite_tt, ite_ff, b_0, b_1, eq_self_iff_true, Bool.true_eq_false, Bool.false_eq_true, c_minutes h v]
      rfl
    | succ k ih =>
      intro m L hm hL
      have go : ∀ s, v_X10_drawnMinute_24 X e (nI r) (nI m) (nI 0) (I, L, ()) = some s → v_X10_drawnMinute_10 X e (nI r) (nI m) (I, L, ()) = some s := fun s hs => by
        refine v_X10_drawnMinute_10.e X e _ _ I L _ ?_
        simp (disch := omega) only [a_bi_i, a_bv_n, a_bl_l, a_bq_q, l_0, l_1, l_2, l_3, l_4, l_5, l_6, l_7, l_8, l_9, l_10, l_12, l_16, l_20, l_24, l_25, l_31, l_32, l_33, l_40, l_48, l_57, l_60, l_63, l_64, l_78, l_85, l_97, l_99, l_100, l_122, l_255, l_325, l_700, l_999, l_1000, l_1200, l_99999, l_100000, l_1000000, l_2000000000, l_N, n_add, n_mul, n_lt, n_out, n_div, n_dm, n_eq, n_toN, n_inN, n_ltN, n_nltN, n_neN, Nat.not_lt_zero, false_or, or_false, ite_y, ite_n, if_true, if_false, ite_tt, ite_ff, b_0, b_1, eq_self_iff_true, Bool.true_eq_false, Bool.false_eq_true, c_minutes h v]
        exact hs
      rw [fndF]
      cases hh : hdB w n r m with
      | true =>
        obtain ⟨L', a1, a2⟩ := c_dmA (X := X) (g := e) h v hA hn hr (by omega) hh (by omega) r 0 L (by omega) hL
        exact ⟨L', go _ a1, a2⟩
      | false =>
        obtain ⟨L', a1, a2, a3⟩ := c_dmB (X := X) (g := e) h v hA hn hr (by omega) hh (by omega) (w 6) 0 L (by omega) hL
        obtain ⟨L2, b1, b2⟩ := ih (m + 1) L' (by omega) a2
        exact ⟨L2, go _ (a3 _ b1), a1.trans b2⟩
  obtain ⟨L', a1, a2⟩ := key (w 1) 0 (up3 L 31 0 0 (qL n)) (by omega) (u3_eq _ _ _ _ _)
  refine ⟨L', K_X10_drawnMinute.e X e _ _ I L _ ?_, (LF.refl.up).trans a2⟩
  simp (disch := omega) only [a_bi_i, a_bv_n, a_bl_l, a_bq_q, l_0, l_1, l_2, l_3, l_4, l_5, l_6, l_7, l_8, l_9, l_10, l_12, l_16, l_20, l_24, l_25, l_31, l_32, l_33, l_40, l_48, l_57, l_60, l_63, l_64, l_78, l_85, l_97, l_99, l_100, l_122, l_255, l_325, l_700, l_999, l_1000, l_1200, l_99999, l_100000, l_1000000, l_2000000000, l_N, n_add, n_mul, n_lt, n_out, n_div, n_dm, n_eq, n_toN, n_inN, n_ltN, n_nltN, n_neN, Nat.not_lt_zero, false_or, or_false, ite_y, ite_n, if_true, if_false, ite_tt, ite_ff, b_0, b_1, eq_self_iff_true, Bool.true_eq_false, Bool.false_eq_true, c_start hn]
  exact a1
theorem c_isSeed {a : Int32} (hd : 1 ≤ d) : K_X10_isSeed X d a (I, L, ()) = some (some (aI (bI (inr a 2000000001))), (I, L, ())) := by
  obtain ⟨e, rfl⟩ : ∃ e, d = e + 1 := ⟨d - 1, by omega⟩
  refine K_X10_isSeed.e X e a I L _ ?_
  by_cases ha : a < nI 0
  · have : inr a 2000000001 = false := by unfold inr; simp [ha]
    simp only [l_0, l_1, ha, if_true, this]; rfl
  · obtain ⟨n, hn, rfl⟩ := n_ex ha
    rw [inr_n hn (by decide)]
    simp (disch := omega) only [a_bi_i, a_bv_n, a_bl_l, a_bq_q, l_0, l_1, l_2, l_3, l_4, l_5, l_6, l_7, l_8, l_9, l_10, l_12, l_16, l_20, l_24, l_25, l_31, l_32, l_33, l_40, l_48, l_57, l_60, l_63, l_64, l_78, l_85, l_97, l_99, l_100, l_122, l_255, l_325, l_700, l_999, l_1000, l_1200, l_99999, l_100000, l_1000000, l_2000000000, l_N, n_add, n_mul, n_lt, n_out, n_div, n_dm, n_eq, n_toN, n_inN, n_ltN, n_nltN, n_neN, Nat.not_lt_zero, false_or, or_false, ite_y, ite_n, if_true, if_false, ite_tt, ite_ff, b_0, b_1, eq_self_iff_true, Bool.true_eq_false, Bool.false_eq_true]
    by_cases h6 : 2000000000 < n
    · have : ¬ n < 2000000001 := by omega
      simp only [h6, if_true, this, decide_false]; rfl
    · have : n < 2000000001 := by omega
      simp only [h6, if_false, this, decide_true]; rfl
end
