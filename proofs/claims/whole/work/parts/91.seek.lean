/-! the class's whole search -/
section
variable {X : AX} {d : Nat} {I J : A3 Int32} {L : A3 Int64} {w : TW}
def szF (w : TW) : Option Nat := if (a1F w).isSome = true then some 1 else if (a2F w).isSome = true then some 2 else if (a3F w).isSome = true then some 3 else none
/-- the picks are the search's -/
def PK (J : A3 Int32) (w : TW) : Prop := (∀ i, a1F w = some i → J 30 0 0 = nI i) ∧ ((a1F w) = none → ∀ i, a2F w = some i → ∀ j, c2F w i = some j → J 30 0 0 = nI i ∧ J 30 0 1 = nI j) ∧ (a1F w = none → a2F w = none → ∀ i, a3F w = some i → ∀ j, b3F w i = some j → ∀ t, c3F w i j = some t → J 30 0 0 = nI i ∧ J 30 0 1 = nI j ∧ J 30 0 2 = nI t)
theorem c_sought (h : TC I w) (v : Vw w) (hT : 0 < w 1) (hH : HR I w) (kb : Int32) (hd : 6 ≤ d) : ∃ J, v_X3_seek_36 X d kb (nI (2 * w 0)) (I, L, ()) = some (none, (up3 J 28 0 6 (oI (szF w)), L, ())) ∧ RH I J ∧ PK J w := by
  obtain ⟨⟨w0, w1, -⟩, -⟩ := id v
  obtain ⟨J1, a1, a2, a3⟩ := c_seekOne (X := X) (d := d) (L := L) h v hT hH (by omega)
  obtain ⟨J2, b1, b2, b3⟩ := c_seekTwo (X := X) (d := d) (L := L) (a2.tc h) v hT (a2.hr hH) (by omega)
  obtain ⟨J3, c1, c2, c3⟩ := c_seekThree (X := X) (d := d) (L := L) ((a2.trans b2).tc h) v hT ((a2.trans b2).hr hH) hd
  unfold szF PK
  cases h1 : a1F w with
  | some i =>
    rw [h1] at a1 a3
    refine ⟨J1, v_X3_seek_36.e X d _ _ I L _ ?_, a2, fun i' hi' => a3 i' hi', fun z => (by cases z), fun z => (by cases z)⟩
    rw [hH.1]
    simp (disch := omega) only [a_bi_i, a_bv_n, a_bl_l, a_bq_q, l_0, l_1, l_2, l_3, l_4, l_5, l_6, l_7, l_8, l_9, l_10, l_12, l_16, l_20, l_24, l_25, l_31, l_32, l_33, l_40, l_48, l_57, l_60, l_63, l_64, l_78, l_85, l_97, l_99, l_100, l_122, l_255, l_325, l_700, l_999, l_1000, l_1200, l_99999, l_100000, l_1000000, l_2000000000, l_N, n_add, n_mul, n_lt, n_out, n_div, n_dm, n_eq, n_toN, n_inN, n_ltN, n_nltN, n_neN, Nat.not_lt_zero, false_or, or_false, ite_y, ite_n, if_true, if_false, ite_tt, ite_ff, b_0, b_1, eq_self_iff_true, Bool.true_eq_false, Bool.false_eq_true, a1, Option.isSome, Nat.lt_irrefl]
    rfl
  | none =>
    rw [h1] at a1
    cases h2 : a2F w with
    | some i =>
      rw [h2] at b1 b3
      refine ⟨J2, v_X3_seek_36.e X d _ _ I L _ ?_, a2.trans b2, fun i' hi' => (by cases hi'), fun _ i' hi' j hj => b3 i' hi' j hj, fun _ z => (by cases z)⟩
      rw [hH.1]
      simp (disch := omega) only [a_bi_i, a_bv_n, a_bl_l, a_bq_q, l_0, l_1, l_2, l_3, l_4, l_5, l_6, l_7, l_8, l_9, l_10, l_12, l_16, l_20, l_24, l_25, l_31, l_32, l_33, l_40, l_48, l_57, l_60, l_63, l_64, l_78, l_85, l_97, l_99, l_100, l_122, l_255, l_325, l_700, l_999, l_1000, l_1200, l_99999, l_100000, l_1000000, l_2000000000, l_N, n_add, n_mul, n_lt, n_out, n_div, n_dm, n_eq, n_toN, n_inN, n_ltN, n_nltN, n_neN, Nat.not_lt_zero, false_or, or_false, ite_y, ite_n, if_true, if_false, ite_tt, ite_ff, b_0, b_1, eq_self_iff_true, Bool.true_eq_false, Bool.false_eq_true, a1, b1, Option.isSome, Nat.lt_irrefl]
      rfl
    | none =>
      rw [h2] at b1
      cases h3 : a3F w with
      | some i =>
        rw [h3] at c1 c3
        refine ⟨J3, v_X3_seek_36.e X d _ _ I L _ ?_, (a2.trans b2).trans c2, fun i' hi' => (by cases hi'), fun _ i' hi' => (by cases hi'), fun _ _ i' hi' j hj t ht => c3 i' hi' j hj t ht⟩
        rw [hH.1]
        simp (disch := omega) only [a_bi_i, a_bv_n, a_bl_l, a_bq_q, l_0, l_1, l_2, l_3, l_4, l_5, l_6, l_7, l_8, l_9, l_10, l_12, l_16, l_20, l_24, l_25, l_31, l_32, l_33, l_40, l_48, l_57, l_60, l_63, l_64, l_78, l_85, l_97, l_99, l_100, l_122, l_255, l_325, l_700, l_999, l_1000, l_1200, l_99999, l_100000, l_1000000, l_2000000000, l_N, n_add, n_mul, n_lt, n_out, n_div, n_dm, n_eq, n_toN, n_inN, n_ltN, n_nltN, n_neN, Nat.not_lt_zero, false_or, or_false, ite_y, ite_n, if_true, if_false, ite_tt, ite_ff, b_0, b_1, eq_self_iff_true, Bool.true_eq_false, Bool.false_eq_true, a1, b1, c1, Option.isSome, Nat.lt_irrefl]
        rfl
      | none =>
        rw [h3] at c1
        refine ⟨J3, v_X3_seek_36.e X d _ _ I L _ ?_, (a2.trans b2).trans c2, fun i' hi' => (by cases hi'), fun _ i' hi' => (by cases hi'), fun _ _ i' hi' => (by cases hi')⟩
        rw [hH.1]
        simp (disch := omega) only [a_bi_i, a_bv_n, a_bl_l, a_bq_q, l_0, l_1, l_2, l_3, l_4, l_5, l_6, l_7, l_8, l_9, l_10, l_12, l_16, l_20, l_24, l_25, l_31, l_32, l_33, l_40, l_48, l_57, l_60, l_63, l_64, l_78, l_85, l_97, l_99, l_100, l_122, l_255, l_325, l_700, l_999, l_1000, l_1200, l_99999, l_100000, l_1000000, l_2000000000, l_N, n_add, n_mul, n_lt, n_out, n_div, n_dm, n_eq, n_toN, n_inN, n_ltN, n_nltN, n_neN, Nat.not_lt_zero, false_or, or_false, ite_y, ite_n, if_true, if_false, ite_tt, ite_ff, b_0, b_1, eq_self_iff_true, Bool.true_eq_false, Bool.false_eq_true, a1, b1, c1, Option.isSome, Nat.lt_irrefl]
        rfl
end
