/-! the class seeks rows of three: from the first -/
section
variable {X : AX} {d : Nat} {I J : A3 Int32} {L : A3 Int64} {w : TW}
theorem c_seekThree (h : TC I w) (v : Vw w) (hT : 0 < w 1) (hH : HR I w) (hd : 6 ≤ d) : ∃ J, K_X3_seekThree X d (I, L, ()) = some (some (aI (bI (a3F w).isSome)), (J, L, ())) ∧ RH I J ∧ ∀ i, a3F w = some i → ∀ j, b3F w i = some j → ∀ t, c3F w i j = some t → J 30 0 0 = nI i ∧ J 30 0 1 = nI j ∧ J 30 0 2 = nI t := by
  obtain ⟨g, rfl⟩ : ∃ g, d = g + 1 := ⟨d - 1, by omega⟩
  obtain ⟨⟨w0, w1, -⟩, -⟩ := id v
  have key : ∀ k c K, c + k = 2 * w 0 → RH I K → ∃ J, v_X3_seekThree_2 X g (nI c) (K, L, ()) = some (some (aI (bI (fndF (fun i => (b3F w i).isSome) k c).isSome)), (J, L, ())) ∧ RH I J ∧ ∀ i, fndF (fun i => (b3F w i).isSome) k c = some i → ∀ j, b3F w i = some j → ∀ t, c3F w i j = some t → J 30 0 0 = nI i ∧ J 30 0 1 = nI j ∧ J 30 0 2 = nI t := by
    intro k
    induction k with
    | zero =>
      intro c K hc hR
      refine ⟨K, v_X3_seekThree_2.e X g _ K L _ ?_, hR, fun x hx => by cases hx⟩
      rw [(hR.hr hH).1]
      simp (disch := omega) only [a_bi_i, a_bv_n, a_bl_l, a_bq_q, l_0, l_1, l_2, l_3, l_4, l_5, l_6, l_7, l_8, l_9, l_10, l_12, l_16, l_20, l_24, l_25, l_31, l_32, l_33, l_40, l_48, l_57, l_60, l_63, l_64, l_78, l_85, l_97, l_99, l_100, l_122, l_255, l_325, l_700, l_999, l_1000, l_1200, l_99999, l_100000, l_1000000, l_2000000000, l_N, n_add, n_mul, n_lt, n_out, n_div, n_dm, n_eq, n_toN, n_inN, n_ltN, n_nltN, n_neN, Nat.not_lt_zero, false_or, or_false, ite_y, ite_n, if_true, if_false, ite_tt, ite_ff, b_0, b_1, eq_self_iff_true, Bool.true_eq_false, Bool.false_eq_true]
      rfl
    | succ k ih =>
      intro c K hc hR
      have hcB : c < 2 * w 0 := by omega
      have R1 : RH I (up3 K 30 0 0 (nI c)) := hR.trans RH.up
      obtain ⟨u1, u2⟩ := c_three (X := X) (L := L) (g := g) (i := c) h v hT hH hcB (by omega) (2 * w 0 - c) c (up3 K 30 0 0 (nI c)) (by omega) R1 (u3_eq _ _ _ _ _)
      have go : ∀ r, v_X3_seekThree_19 X g (nI c) (nI c) (up3 K 30 0 0 (nI c), L, ()) = some r → v_X3_seekThree_2 X g (nI c) (K, L, ()) = some r := fun r hr => by
        refine v_X3_seekThree_2.e X g _ K L r ?_
        rw [(hR.hr hH).1]
        simp (disch := omega) only [a_bi_i, a_bv_n, a_bl_l, a_bq_q, l_0, l_1, l_2, l_3, l_4, l_5, l_6, l_7, l_8, l_9, l_10, l_12, l_16, l_20, l_24, l_25, l_31, l_32, l_33, l_40, l_48, l_57, l_60, l_63, l_64, l_78, l_85, l_97, l_99, l_100, l_122, l_255, l_325, l_700, l_999, l_1000, l_1200, l_99999, l_100000, l_1000000, l_2000000000, l_N, n_add, n_mul, n_lt, n_out, n_div, n_dm, n_eq, n_toN, n_inN, n_ltN, n_nltN, n_neN, Nat.not_lt_zero, false_or, or_false, ite_y, ite_n, if_true, if_false, ite_tt, ite_ff, b_0, b_1, eq_self_iff_true, Bool.true_eq_false, Bool.false_eq_true]
        exact hr
      cases hq : b3F w c with
      | some j =>
        have hs : (b3F w c).isSome = true := by rw [hq]; rfl
        have hfn : fndF (fun i => (b3F w i).isSome) (k + 1) c = some c := by
          show (if (b3F w c).isSome = true then some c else _) = some c
          rw [if_pos hs]
        rw [hfn]
        obtain ⟨J, y1, y2, y3⟩ := u1 j hq
        refine ⟨J, go _ y1, y2, fun i' hi' j' hj' t ht => ?_⟩
        cases hi'
        rw [hq] at hj'
        cases hj'
        exact y3 t ht
      | none =>
        have hs : ¬ (b3F w c).isSome = true := by rw [hq]; decide
        have hfn : fndF (fun i => (b3F w i).isSome) (k + 1) c = fndF (fun i => (b3F w i).isSome) k (c + 1) := by
          show (if (b3F w c).isSome = true then some c else _) = _
          rw [if_neg hs]
        rw [hfn]
        obtain ⟨K', y1, y2⟩ := u2 hq
        obtain ⟨J, z1, z2, z3⟩ := ih (c + 1) K' (by omega) y1
        exact ⟨J, go _ (y2 _ z1), z2, z3⟩
  obtain ⟨J, u1, u2, u3⟩ := key (2 * w 0) 0 I (by omega) RH.refl
  exact ⟨J, K_X3_seekThree.e X g I L _ u1, u2, u3⟩
end
