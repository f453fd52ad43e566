/-! the class's hunt: kept until the train changes -/
section
variable {X : AX} {d : Nat} {I J : A3 Int32} {L : A3 Int64} {w : TW}
/-- the hunt's cache -/
def HI (I : A3 Int32) (w : TW) : Prop := I 28 0 7 = nI 0 ∨ (I 28 0 7 = nI 1 ∧ I 28 0 6 = oI (szF w) ∧ PK I w)
theorem PK.eq30 (h : PK I w) (e : J 30 = I 30) : PK J w := by unfold PK; rw [e]; exact h
def SHL : List Nat := 28 :: 30 :: SCL
theorem c_seek (h : TC I w) (v : Vw w) (h5 : 0 < w 5) (h14 : ∀ b, b < 2 * w 0 → ∀ m, m < w 1 → I 14 (b + 3) m = oI (crs w 0 b m)) (hd : 7 ≤ d) : ∃ J, K_X3_seek X d (I, L, ()) = some (none, (J, L, ())) ∧ Fm SHL I J ∧ J 28 0 7 = nI 1 ∧ J 28 0 6 = oI (szF w) ∧ PK J w := by
  obtain ⟨e, rfl⟩ : ∃ e, d = e + 1 := ⟨d - 1, by omega⟩
  obtain ⟨⟨w0, w1, -⟩, -, vc, vi, -⟩ := id v
  have hT : 0 < w 1 := (v.live (Or.inr (Or.inr (Or.inl h5)))).2.2.1
  have h36 := (vi 0 h5).2.2.2.1
  generalize hI1 : up3 I 28 0 7 (nI 1) = I1
  have f1 : Fm [28] I I1 := by rw [← hI1]; exact Fm.refl.up (by decide)
  have t1 : TC I1 w := h.fm f1 (by decide) (by decide) (by decide) (by decide) (by decide)
  generalize hI2 : up3 I1 28 0 5 (nI (2 * w 0)) = I2
  have f2 : Fm [28] I1 I2 := by rw [← hI2]; exact Fm.refl.up (by decide)
  have t2 : TC I2 w := t1.fm f2 (by decide) (by decide) (by decide) (by decide) (by decide)
  have e5 : I2 28 0 5 = nI (2 * w 0) := by rw [← hI2]; exact u3_eq _ _ _ _ _
  have e7 : I2 28 0 7 = nI 1 := by rw [← hI2, u3_j _ _ (by decide), ← hI1]; exact u3_eq _ _ _ _ _
  have e14 : ∀ b, b < 2 * w 0 → ∀ m, m < w 1 → I2 14 (b + 3) m = oI (crs w 0 b m) := fun b hb m hm => by rw [f2 14 (by decide), f1 14 (by decide)]; exact h14 b hb m hm
  obtain ⟨J, hH, g1, g2⟩ := c_rows (X := X) (d := e) (L := L) t2 v h5 e5 e14 (by omega)
  have tJ : TC J w := t2.sc (Sc.of g1 (by decide))
  obtain ⟨J2, k1, k2, k3⟩ := c_sought (X := X) (d := e) (L := L) tJ v hT hH (bI (decide (0 < w 36))) (by omega)
  have e28 : J2 28 = I2 28 := by
    funext q
    rw [k2 28 q (by decide) (by decide) (Or.inl (by decide)), g1 28 (by decide)]
  refine ⟨up3 J2 28 0 6 (oI (szF w)), K_X3_seek.e X e I L _ ?_, ?_, ?_, u3_eq _ _ _ _ _, k3.eq30 (u3_f _ _ (by decide))⟩
  · have k1' := g2 _ k1
    by_cases hk : 0 < w 36
    · rw [decide_eq_true hk] at k1'
      have k1'' : v_X3_seek_36 X e (nI 1) (nI 0) (I2, L, ()) = some (none, (up3 J2 28 0 6 (oI (szF w)), L, ())) := k1'
      simp (disch := omega) only [a_bi_i, a_bv_n, a_bl_l, a_bq_q, l_0, l_1, l_2, l_3, l_4, l_5, l_6, l_7, l_8, l_9, l_10, l_12, l_16, l_20, l_24, l_25, l_31, l_32, l_33, l_40, l_48, l_57, l_60, l_63, l_64, l_78, l_85, l_97, l_99, l_100, l_122, l_255, l_325, l_700, l_999, l_1000, l_1200, l_99999, l_100000, l_1000000, l_2000000000, l_N, n_add, n_mul, n_lt, n_out, n_div, n_dm, n_eq, n_toN, n_inN, n_ltN, n_nltN, n_neN, Nat.not_lt_zero, false_or, or_false, ite_y, ite_n, if_true, if_false, ite_tt, ite_ff, b_0, b_1, eq_self_iff_true, Bool.true_eq_false, Bool.false_eq_true, hI1, c_beginCount t1 v, hI2, c_oi3 t2 v, hk]
      exact k1''
    · rw [decide_eq_false hk] at k1'
      have k1'' : v_X3_seek_36 X e (nI 0) (nI 0) (I2, L, ()) = some (none, (up3 J2 28 0 6 (oI (szF w)), L, ())) := k1'
      simp (disch := omega) only [a_bi_i, a_bv_n, a_bl_l, a_bq_q, l_0, l_1, l_2, l_3, l_4, l_5, l_6, l_7, l_8, l_9, l_10, l_12, l_16, l_20, l_24, l_25, l_31, l_32, l_33, l_40, l_48, l_57, l_60, l_63, l_64, l_78, l_85, l_97, l_99, l_100, l_122, l_255, l_325, l_700, l_999, l_1000, l_1200, l_99999, l_100000, l_1000000, l_2000000000, l_N, n_add, n_mul, n_lt, n_out, n_div, n_dm, n_eq, n_toN, n_inN, n_ltN, n_nltN, n_neN, Nat.not_lt_zero, false_or, or_false, ite_y, ite_n, if_true, if_false, ite_tt, ite_ff, b_0, b_1, eq_self_iff_true, Bool.true_eq_false, Bool.false_eq_true, hI1, c_beginCount t1 v, hI2, c_oi3 t2 v, hk]
      exact k1''
  · have a1 : Fm SHL I I2 := (f1.mono (by decide)).trans (f2.mono (by decide))
    have a2 : Fm SHL I J := a1.trans (g1.mono (by decide))
    have a3 : Fm SHL J J2 := fun f hf => funext fun q => k2 f q (fun z => hf (by rw [z]; decide)) (fun z => hf (by rw [z]; decide)) (Or.inl (fun z => hf (by revert z; simp [SHL, SCL]; omega)))
    exact (a2.trans a3).up (by decide)
  · rw [u3_j _ _ (by decide), e28]; exact e7
theorem c_seekFewest (h : TC I w) (v : Vw w) (h5 : 0 < w 5) (hh : HI I w) (hd : 8 ≤ d) : ∃ J, K_X10_seekFewest X d (I, L, ()) = some (none, (J, L, ())) ∧ Fm SHL I J ∧ HI J w ∧ J 28 0 6 = oI (szF w) ∧ PK J w := by
  obtain ⟨e, rfl⟩ : ∃ e, d = e + 1 := ⟨d - 1, by omega⟩
  rcases hh with h7 | ⟨h7, h6, hp⟩
  · obtain ⟨J1, f1, f2, f3⟩ := c_followBegins (X := X) (d := e) (L := L) h v h5 (by omega)
    have s1 : Fm [14] I J1 := fun f hf => funext fun i => f2 f i (Or.inl (fun z => hf (by rw [z]; decide)))
    have t1 : TC J1 w := h.fm s1 (by decide) (by decide) (by decide) (by decide) (by decide)
    obtain ⟨J2, g1, g2, g3, g4, g5⟩ := c_seek (X := X) (d := e) (L := L) t1 v h5 f3 (by omega)
    refine ⟨J2, K_X10_seekFewest.e X e I L _ ?_, (s1.mono (by decide)).trans g2, Or.inr ⟨g3, g4, g5⟩, g4, g5⟩
    simp (disch := omega) only [a_bi_i, a_bv_n, a_bl_l, a_bq_q, l_0, l_1, l_2, l_3, l_4, l_5, l_6, l_7, l_8, l_9, l_10, l_12, l_16, l_20, l_24, l_25, l_31, l_32, l_33, l_40, l_48, l_57, l_60, l_63, l_64, l_78, l_85, l_97, l_99, l_100, l_122, l_255, l_325, l_700, l_999, l_1000, l_1200, l_99999, l_100000, l_1000000, l_2000000000, l_N, n_add, n_mul, n_lt, n_out, n_div, n_dm, n_eq, n_toN, n_inN, n_ltN, n_nltN, n_neN, Nat.not_lt_zero, false_or, or_false, ite_y, ite_n, if_true, if_false, ite_tt, ite_ff, b_0, b_1, eq_self_iff_true, Bool.true_eq_false, Bool.false_eq_true, h7, f1, g1]
  · refine ⟨I, K_X10_seekFewest.e X e I L _ ?_, Fm.refl, Or.inr ⟨h7, h6, hp⟩, h6, hp⟩
    have : ¬ (1 = 0) := by decide
    simp (disch := omega) only [a_bi_i, a_bv_n, a_bl_l, a_bq_q, l_0, l_1, l_2, l_3, l_4, l_5, l_6, l_7, l_8, l_9, l_10, l_12, l_16, l_20, l_24, l_25, l_31, l_32, l_33, l_40, l_48, l_57, l_60, l_63, l_64, l_78, l_85, l_97, l_99, l_100, l_122, l_255, l_325, l_700, l_999, l_1000, l_1200, l_99999, l_100000, l_1000000, l_2000000000, l_N, n_add, n_mul, n_lt, n_out, n_div, n_dm, n_eq, n_toN, n_inN, n_ltN, n_nltN, n_neN, Nat.not_lt_zero, false_or, or_false, ite_y, ite_n, if_true, if_false, ite_tt, ite_ff, b_0, b_1, eq_self_iff_true, Bool.true_eq_false, Bool.false_eq_true, h7, this]
end
