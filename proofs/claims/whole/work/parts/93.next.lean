/-! the reference's next row -/
section
variable {X : AX} {d : Nat} {I J : A3 Int32} {L : A3 Int64} {w : TW}
theorem m_next51 {n k x : Nat} (hn : n ≤ 3) (h26 : I 40 0 26 = nI n) : ∀ q k K, k + q = n → Fm [54] I K → ∃ J, v_X11_nextRow_51 X d (nI k) (nI x) (K, L, ()) = some (some (aI (nI 1)), (J, L, ())) ∧ Fm [54] I J ∧ (∀ t, t < k → J 54 0 t = K 54 0 t) ∧ ∀ t, k ≤ t → t < n → J 54 0 t = nI x := by
  intro q
  induction q with
  | zero =>
    intro k K hk hF
    refine ⟨K, v_X11_nextRow_51.e X d _ _ K L _ ?_, hF, fun t _ => rfl, fun t h1 h2 => by omega⟩
    rw [hF 40 (by decide), h26]
    simp (disch := omega) only [a_bi_i, a_bv_n, a_bl_l, a_bq_q, l_0, l_1, l_2, l_3, l_4, l_5, l_6, l_7, l_8, l_9, l_10, l_12, l_16, l_20, l_24, l_25, l_31, l_32, l_33, l_40, l_48, l_57, l_60, l_63, l_64, l_78, l_85, l_97, l_99, l_100, l_122, l_255, l_325, l_700, l_999, l_1000, l_1200, l_99999, l_100000, l_1000000, l_2000000000, l_N, n_add, n_mul, n_lt, n_out, n_div, n_dm, n_eq, n_toN, n_inN, n_ltN, n_nltN, n_neN, Nat.not_lt_zero, false_or, or_false, ite_y, ite_n, if_true, if_false, ite_tt, ite_ff, b_0, b_1, eq_self_iff_true, Bool.true_eq_false, Bool.false_eq_true]
  | succ q ih =>
    intro k K hk hF
    obtain ⟨J, a1, a2, a3, a4⟩ := ih (k + 1) (up3 K 54 0 k (nI x)) (by omega) (hF.up (by decide))
    refine ⟨J, v_X11_nextRow_51.e X d _ _ K L _ ?_, a2, fun t ht => by rw [a3 t (by omega), u3_j _ _ (by omega)], fun t h1 h2 => ?_⟩
    · rw [hF 40 (by decide), h26]
      simp (disch := omega) only [a_bi_i, a_bv_n, a_bl_l, a_bq_q, l_0, l_1, l_2, l_3, l_4, l_5, l_6, l_7, l_8, l_9, l_10, l_12, l_16, l_20, l_24, l_25, l_31, l_32, l_33, l_40, l_48, l_57, l_60, l_63, l_64, l_78, l_85, l_97, l_99, l_100, l_122, l_255, l_325, l_700, l_999, l_1000, l_1200, l_99999, l_100000, l_1000000, l_2000000000, l_N, n_add, n_mul, n_lt, n_out, n_div, n_dm, n_eq, n_toN, n_inN, n_ltN, n_nltN, n_neN, Nat.not_lt_zero, false_or, or_false, ite_y, ite_n, if_true, if_false, ite_tt, ite_ff, b_0, b_1, eq_self_iff_true, Bool.true_eq_false, Bool.false_eq_true]
      exact a1
    · by_cases e : t = k
      · subst e; rw [a3 t (by omega), u3_eq]
      · exact a4 t (by omega) h2
theorem m_next7 {n : Nat} {r : Nat → Nat} (h : TM I w) (v : Vw w) (hw : 2 ≤ w 0) (hn : n ≤ 3) (hr : ∀ t, t < n → r t < 2 * w 0) (h54 : ∀ t, t < n → I 54 0 t = nI (r t)) {a : Nat} (ha : a < n) (he : r a = 2 * w 0 - 1) : OLe (v_X11_nextRow_7 X d (if a = 0 then nN else nI (a - 1)) (I, L, ())) (v_X11_nextRow_7 X d (nI a) (I, L, ())) := by
  intro s hs
  obtain ⟨⟨w0, -⟩, -⟩ := id v
  refine v_X11_nextRow_7.e X d _ I L s ?_
  rw [h 0 (by decide)]
  have e1 : nI (2 * w 0) - nI 1 = nI (2 * w 0 - 1) := n_sub (by omega)
  have e2 : nI a + cI (-1) = if a = 0 then nN else nI (a - 1) := by
    rw [l_cN]
    split
    · rename_i z; subst z; exact n_0N
    · exact n_Nadd (by omega)
  simp (disch := omega) only [a_bi_i, a_bv_n, a_bl_l, a_bq_q, l_0, l_1, l_2, l_3, l_4, l_5, l_6, l_7, l_8, l_9, l_10, l_12, l_16, l_20, l_24, l_25, l_31, l_32, l_33, l_40, l_48, l_57, l_60, l_63, l_64, l_78, l_85, l_97, l_99, l_100, l_122, l_255, l_325, l_700, l_999, l_1000, l_1200, l_99999, l_100000, l_1000000, l_2000000000, l_N, n_add, n_mul, n_lt, n_out, n_div, n_dm, n_eq, n_toN, n_inN, n_ltN, n_nltN, n_neN, Nat.not_lt_zero, false_or, or_false, ite_y, ite_n, if_true, if_false, ite_tt, ite_ff, b_0, b_1, eq_self_iff_true, Bool.true_eq_false, Bool.false_eq_true, h54 a ha, he, e1]
  rw [e2]
  exact hs
theorem m_next_no {n : Nat} {r : Nat → Nat} (h : TM I w) (v : Vw w) (hw : 2 ≤ w 0) (hn1 : 1 ≤ n) (hn : n ≤ 3) (h26 : I 40 0 26 = nI n) (hr : ∀ t, t < n → r t < 2 * w 0) (h54 : ∀ t, t < n → I 54 0 t = nI (r t)) (he : ∀ t, t < n → r t = 2 * w 0 - 1) (hd : 1 ≤ d) : K_X11_nextRow X d (I, L, ()) = some (some (aI (nI 0)), (I, L, ())) := by
  obtain ⟨e, rfl⟩ : ∃ e, d = e + 1 := ⟨d - 1, by omega⟩
  have key : ∀ a, a < n → v_X11_nextRow_7 X e (nI a) (I, L, ()) = some (some (aI (nI 0)), (I, L, ())) := by
    intro a
    induction a with
    | zero =>
      intro ha
      refine m_next7 h v hw hn hr h54 ha (he 0 ha) _ ?_
      rw [if_pos rfl]
      refine v_X11_nextRow_7.e X e _ I L _ ?_
      rw [if_pos (by decide), if_pos (by decide)]
      rfl
    | succ a ih =>
      intro ha
      refine m_next7 h v hw hn hr h54 ha (he _ ha) _ ?_
      rw [if_neg (by omega)]
      exact ih (by omega)
  refine K_X11_nextRow.e X e I L _ ?_
  rw [h26, l_1, n_sub hn1]
  exact key (n - 1) (by omega)
theorem m_next_yes {n k : Nat} {r : Nat → Nat} (h : TM I w) (v : Vw w) (hw : 2 ≤ w 0) (hn : n ≤ 3) (h26 : I 40 0 26 = nI n) (hr : ∀ t, t < n → r t < 2 * w 0) (h54 : ∀ t, t < n → I 54 0 t = nI (r t)) (hk : k < n) (hkr : r k ≠ 2 * w 0 - 1) (he : ∀ t, k < t → t < n → r t = 2 * w 0 - 1) (hd : 1 ≤ d) : ∃ J, K_X11_nextRow X d (I, L, ()) = some (some (aI (nI 1)), (J, L, ())) ∧ Fm [54] I J ∧ (∀ t, t < k → J 54 0 t = nI (r t)) ∧ ∀ t, k ≤ t → t < n → J 54 0 t = nI (r k + 1) := by
  obtain ⟨e, rfl⟩ : ∃ e, d = e + 1 := ⟨d - 1, by omega⟩
  obtain ⟨⟨w0, -⟩, -⟩ := id v
  obtain ⟨J, a1, a2, a3, a4⟩ := m_next51 (X := X) (d := e) (L := L) (x := r k + 1) (k := k) hn h26 (n - k) k I (by omega) Fm.refl
  have key : ∀ q a, a = k + q → a < n → v_X11_nextRow_7 X e (nI a) (I, L, ()) = some (some (aI (nI 1)), (J, L, ())) := by
    intro q
    induction q with
    | zero =>
      intro a hq ha
      have : a = k := by omega
      subst this
      refine v_X11_nextRow_7.e X e _ I L _ ?_
      rw [h 0 (by decide)]
      have e1 : nI (2 * w 0) - nI 1 = nI (2 * w 0 - 1) := n_sub (by omega)
      have hr1 := hr a ha
      simp (disch := omega) only [a_bi_i, a_bv_n, a_bl_l, a_bq_q, l_0, l_1, l_2, l_3, l_4, l_5, l_6, l_7, l_8, l_9, l_10, l_12, l_16, l_20, l_24, l_25, l_31, l_32, l_33, l_40, l_48, l_57, l_60, l_63, l_64, l_78, l_85, l_97, l_99, l_100, l_122, l_255, l_325, l_700, l_999, l_1000, l_1200, l_99999, l_100000, l_1000000, l_2000000000, l_N, n_add, n_mul, n_lt, n_out, n_div, n_dm, n_eq, n_toN, n_inN, n_ltN, n_nltN, n_neN, Nat.not_lt_zero, false_or, or_false, ite_y, ite_n, if_true, if_false, ite_tt, ite_ff, b_0, b_1, eq_self_iff_true, Bool.true_eq_false, Bool.false_eq_true, h54 a ha, e1, hkr]
      exact a1
    | succ q ih =>
      intro a hq ha
      refine m_next7 h v hw hn hr h54 ha (he a (by omega) ha) _ ?_
      rw [if_neg (by omega)]
      exact ih (a - 1) (by omega) (by omega)
  refine ⟨J, K_X11_nextRow.e X e I L _ ?_, a2, fun t ht => by rw [a3 t ht]; exact h54 t (by omega), a4⟩
  rw [h26, l_1, n_sub (by omega)]
  exact key (n - 1 - k) (n - 1) (by omega) (by omega)
end
