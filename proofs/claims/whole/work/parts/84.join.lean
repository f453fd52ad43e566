/-! join: two chases in one -/
section
variable {X : AX} {d : Nat} {I J : A3 Int32} {L : A3 Int64} {w : TW}
theorem c_join {a b c T : Nat} (hab : b ≠ a) (hac : c ≠ a) (hT : T ≤ 40) (h8 : I 20 b 8 = nI T) (hd : 1 ≤ d) : ∃ J, K_X0_join X d a b c (I, L, ()) = some (none, (J, L, ())) ∧ Rq [20, 21, 22, 23, 24] a I J ∧ (J 20 a 8 = I 20 b 8 ∧ J 20 a 9 = I 20 b 9 ∧ J 20 a 10 = I 20 b 10 ∧ J 20 a 11 = I 20 b 11) ∧ ∀ m, m < T → J 21 a m = I 21 b m ||| I 21 c m ∧ J 22 a m = I 22 b m ||| I 22 c m ∧ J 23 a m = I 23 b m ||| I 23 c m ∧ J 24 a m = I 24 b m ||| I 24 c m := by
  obtain ⟨e, rfl⟩ : ∃ e, d = e + 1 := ⟨d - 1, by omega⟩
  generalize hI1 : up3 (up3 (up3 (up3 I 20 a 8 (I 20 b 8)) 20 a 9 (I 20 b 9)) 20 a 10 (I 20 b 10)) 20 a 11 (I 20 b 11) = I1
  have r1 : Rq [20, 21, 22, 23, 24] a I I1 := by
    rw [← hI1]
    exact (((Rq.refl.up (by decide)).up (by decide)).up (by decide)).up (by decide)
  have v1 : I1 20 a 8 = I 20 b 8 ∧ I1 20 a 9 = I 20 b 9 ∧ I1 20 a 10 = I 20 b 10 ∧ I1 20 a 11 = I 20 b 11 := by
    rw [← hI1]
    refine ⟨?_, ?_, ?_, u3_eq _ _ _ _ _⟩
    · rw [u3_j _ _ (by decide), u3_j _ _ (by decide), u3_j _ _ (by decide), u3_eq]
    · rw [u3_j _ _ (by decide), u3_j _ _ (by decide), u3_eq]
    · rw [u3_j _ _ (by decide), u3_eq]
  obtain ⟨J, ⟨g1, g2, g3⟩, g4⟩ := loop_z (F := fun m (K : A3 Int32) => v_X0_join_34 X e a b c (nI m) (K, L, ())) (P := fun m K => Rq [20, 21, 22, 23, 24] a I K ∧ K 20 = I1 20 ∧ ∀ j, j < m → K 21 a j = I 21 b j ||| I 21 c j ∧ K 22 a j = I 22 b j ||| I 22 c j ∧ K 23 a j = I 23 b j ||| I 23 c j ∧ K 24 a j = I 24 b j ||| I 24 c j) T I1 ⟨r1, rfl, fun j hj => absurd hj (by omega)⟩ (fun m K hm hP => by
    obtain ⟨p1, p2, p3⟩ := hP
    have kb : ∀ f, K f b = I f b := fun f => p1 f b (Or.inr hab)
    have kc : ∀ f, K f c = I f c := fun f => p1 f c (Or.inr hac)
    refine ⟨up3 (up3 (up3 (up3 K 21 a m (I 21 b m ||| I 21 c m)) 22 a m (I 22 b m ||| I 22 c m)) 23 a m (I 23 b m ||| I 23 c m)) 24 a m (I 24 b m ||| I 24 c m), ⟨(((p1.up (by decide)).up (by decide)).up (by decide)).up (by decide), ?_, fun j hj => ?_⟩, fun r hr => ?_⟩
    · rw [u3_f _ _ (by decide), u3_f _ _ (by decide), u3_f _ _ (by decide), u3_f _ _ (by decide)]; exact p2
    · by_cases ej : j = m
      · subst ej
        refine ⟨?_, ?_, ?_, u3_eq _ _ _ _ _⟩
        · rw [u3_f _ _ (by decide), u3_f _ _ (by decide), u3_f _ _ (by decide), u3_eq]
        · rw [u3_f _ _ (by decide), u3_f _ _ (by decide), u3_eq]
        · rw [u3_f _ _ (by decide), u3_eq]
      · rw [u3_ne ej, u3_ne ej, u3_ne ej, u3_ne ej, u3_ne ej, u3_ne ej, u3_ne ej, u3_ne ej, u3_ne ej, u3_ne ej, u3_ne ej, u3_ne ej, u3_ne ej, u3_ne ej, u3_ne ej, u3_ne ej]
        exact p3 j (by omega)
    · refine v_X0_join_34.e X e _ _ _ _ K L r ?_
      rw [show K 20 a 8 = nI T by rw [p2, v1.1]; exact h8]
      have e22 : ∀ x, up3 K 21 a m x 22 = K 22 := fun x => u3_f _ _ (by decide)
      have e23 : ∀ x y, up3 (up3 K 21 a m x) 22 a m y 23 = K 23 := fun x y => by rw [u3_f _ _ (by decide), u3_f _ _ (by decide)]
      have e24 : ∀ x y z, up3 (up3 (up3 K 21 a m x) 22 a m y) 23 a m z 24 = K 24 := fun x y z => by rw [u3_f _ _ (by decide), u3_f _ _ (by decide), u3_f _ _ (by decide)]
      simp (disch := omega) only [a_bi_i, a_bv_n, a_bl_l, a_bq_q, l_0, l_1, l_2, l_3, l_4, l_5, l_6, l_7, l_8, l_9, l_10, l_12, l_16, l_20, l_24, l_25, l_31, l_32, l_33, l_40, l_48, l_57, l_60, l_63, l_64, l_78, l_85, l_97, l_99, l_100, l_122, l_255, l_325, l_700, l_999, l_1000, l_1200, l_99999, l_100000, l_1000000, l_2000000000, l_N, n_add, n_mul, n_lt, n_out, n_div, n_dm, n_eq, n_toN, n_inN, n_ltN, n_nltN, n_neN, Nat.not_lt_zero, false_or, or_false, ite_y, ite_n, if_true, if_false, ite_tt, ite_ff, b_0, b_1, eq_self_iff_true, Bool.true_eq_false, Bool.false_eq_true, e22, e23, e24, kb, kc]
      exact hr)
  refine ⟨J, K_X0_join.e X e a b c I L _ ?_, g1, by rw [g2]; exact v1, fun m hm => g3 m hm⟩
  have i9 : ∀ x, up3 I 20 a 8 x 20 b = I 20 b := fun x => u3_i _ _ hab
  have i10 : ∀ x y, up3 (up3 I 20 a 8 x) 20 a 9 y 20 b = I 20 b := fun x y => by rw [u3_i _ _ hab, u3_i _ _ hab]
  have i11 : ∀ x y z, up3 (up3 (up3 I 20 a 8 x) 20 a 9 y) 20 a 10 z 20 b = I 20 b := fun x y z => by rw [u3_i _ _ hab, u3_i _ _ hab, u3_i _ _ hab]
  simp only [i9, i10, i11, hI1]
  refine g4 _ (v_X0_join_34.e X e _ _ _ _ J L _ ?_)
  rw [show J 20 a 8 = nI T by rw [g2, v1.1]; exact h8]
  simp (disch := omega) only [a_bi_i, a_bv_n, a_bl_l, a_bq_q, l_0, l_1, l_2, l_3, l_4, l_5, l_6, l_7, l_8, l_9, l_10, l_12, l_16, l_20, l_24, l_25, l_31, l_32, l_33, l_40, l_48, l_57, l_60, l_63, l_64, l_78, l_85, l_97, l_99, l_100, l_122, l_255, l_325, l_700, l_999, l_1000, l_1200, l_99999, l_100000, l_1000000, l_2000000000, l_N, n_add, n_mul, n_lt, n_out, n_div, n_dm, n_eq, n_toN, n_inN, n_ltN, n_nltN, n_neN, Nat.not_lt_zero, false_or, or_false, ite_y, ite_n, if_true, if_false, ite_tt, ite_ff, b_0, b_1, eq_self_iff_true, Bool.true_eq_false, Bool.false_eq_true, Nat.lt_irrefl]
/-- a row of begins -/
def psR (w : TW) (r : Nat → Nat) (k m : Nat) : Option Nat := crs w 0 (r k) m
theorem CA.join {a b c T n : Nat} {r : Nat → Nat} (hb : CA I b T n (psR w r) (knB w)) (hc : CA I c T 1 (psB w (r n)) (knB w)) (hJ : ∀ m, m < T → J 21 a m = I 21 b m ||| I 21 c m ∧ J 22 a m = I 22 b m ||| I 22 c m ∧ J 23 a m = I 23 b m ||| I 23 c m ∧ J 24 a m = I 24 b m ||| I 24 c m) : CA J a T (n + 1) (psR w r) (knB w) := by
  intro m hm x
  obtain ⟨j1, j2, j3, j4⟩ := hJ m hm
  obtain ⟨b1, b2, b3, b4⟩ := hb m hm x
  obtain ⟨c1, c2, c3, c4⟩ := hc m hm x
  rw [j1, j2, j3, j4, bt_or, bt_or, bt_or, bt_or, b1, b2, b3, b4, c1, c2, c3, c4]
  simp only [gA, kA, uA, dA, exb, Bool.false_or]
  exact ⟨rfl, rfl, rfl, rfl⟩
end
