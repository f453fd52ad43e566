/-! the class seeks rows of three -/
section
variable {X : AX} {d : Nat} {I J : A3 Int32} {L : A3 Int64} {w : TW}
def c3F (w : TW) (i j : Nat) : Option Nat := fndF (fun t => cAl w 3 (ext (ext (fun _ => i) 1 j) 2 t)) (2 * w 0 - j) j
def b3F (w : TW) (i : Nat) : Option Nat := fndF (fun j => (c3F w i j).isSome) (2 * w 0 - i) i
def a3F (w : TW) : Option Nat := fnd (2 * w 0) (fun i => (b3F w i).isSome)
theorem c_three {i g : Nat} (h : TC I w) (v : Vw w) (hT : 0 < w 1) (hH : HR I w) (hi : i < 2 * w 0) (hd : 5 ≤ g) : ∀ k j K, j + k = 2 * w 0 → RH I K → K 30 0 0 = nI i → (∀ j', fndF (fun j => (c3F w i j).isSome) k j = some j' → ∃ J, v_X3_seekThree_19 X g (nI i) (nI j) (K, L, ()) = some (some (aI (nI 1)), (J, L, ())) ∧ RH I J ∧ ∀ t, c3F w i j' = some t → J 30 0 0 = nI i ∧ J 30 0 1 = nI j' ∧ J 30 0 2 = nI t) ∧ (fndF (fun j => (c3F w i j).isSome) k j = none → ∃ K', RH I K' ∧ OLe (v_X3_seekThree_2 X g (nI (i + 1)) (K', L, ())) (v_X3_seekThree_19 X g (nI i) (nI j) (K, L, ()))) := by
  obtain ⟨⟨w0, w1, -⟩, -⟩ := id v
  intro k
  induction k with
  | zero =>
    intro j K hj hR h30
    refine ⟨fun j' hj' => (by cases hj'), fun _ => ⟨K, hR, fun r hr => ?_⟩⟩
    refine v_X3_seekThree_19.e X g _ _ K L r ?_
    rw [(hR.hr hH).1]
    simp (disch := omega) only [a_bi_i, a_bv_n, a_bl_l, a_bq_q, l_0, l_1, l_2, l_3, l_4, l_5, l_6, l_7, l_8, l_9, l_10, l_12, l_16, l_20, l_24, l_25, l_31, l_32, l_33, l_40, l_48, l_57, l_60, l_63, l_64, l_78, l_85, l_97, l_99, l_100, l_122, l_255, l_325, l_700, l_999, l_1000, l_1200, l_99999, l_100000, l_1000000, l_2000000000, l_N, n_add, n_mul, n_lt, n_out, n_div, n_dm, n_eq, n_toN, n_inN, n_ltN, n_nltN, n_neN, Nat.not_lt_zero, false_or, or_false, ite_y, ite_n, if_true, if_false, ite_tt, ite_ff, b_0, b_1, eq_self_iff_true, Bool.true_eq_false, Bool.false_eq_true]
    exact hr
  | succ k ih =>
    intro j K hj hR h30
    have hjB : j < 2 * w 0 := by omega
    have R1 : RH I (up3 K 30 0 1 (nI j)) := hR.trans RH.up
    have H1 := R1.hr hH
    obtain ⟨K1, j1, j2, j3, j4⟩ := c_join (X := X) (d := g) (L := L) (I := up3 K 30 0 1 (nI j)) (a := 1) (b := i + 3) (c := j + 3) (by omega) (by omega) w1 (H1.2 i hi).1.1 (by omega)
    have R2 : RH I K1 := R1.trans (fun f q a b z => j2 f q (z.imp id (fun z => by omega)))
    have H2 := R2.hr hH
    have ci : CA (up3 K 30 0 1 (nI j)) (i + 3) (w 1) 1 (psR w (ext (fun _ => i) 1 j)) (knB w) := ((H1.2 i hi).2).cg (fun k hk => by
      obtain rfl : k = 0 := by omega
      rfl)
    have c1 : CA K1 1 (w 1) 2 (psR w (ext (fun _ => i) 1 j)) (knB w) := CA.join ci (H1.2 j hjB).2 j4
    have f1 : CF K1 1 (w 1) (w 0) (loB w) (doB w) := by
      unfold CF
      rw [j3.1, j3.2.1, j3.2.2.1, j3.2.2.2]
      exact (H1.2 i hi).1
    obtain ⟨K2, s1, s2, s3, s4⟩ := c_seekLast (X := X) (d := g) (L := L) (I := K1) (a := 1) (b := 2) (n := 2) (c := j) (e := 2) (r := ext (fun _ => i) 1 j) (R2.tc h) v hT H2 (by decide) (by decide) (by decide) f1 c1 (by omega) (by omega)
    have R3 : RH I K2 := R2.trans (fun f q a b z => s2 f q a (z.elim (fun z => Or.inl (by revert z; simp; omega)) (fun z => Or.inr (by omega))))
    have k30 : K1 30 = up3 K 30 0 1 (nI j) 30 := funext fun q => j2 30 q (Or.inl (by decide))
    have e0 : K2 30 0 0 = nI i := by rw [s3 0 (by decide), k30, u3_j _ _ (by decide)]; exact h30
    have e1 : K2 30 0 1 = nI j := by rw [s3 1 (by decide), k30, u3_eq]
    have s1' : K_X3_seekLast X g 1 2 (nI j) (nI 2) (K1, L, ()) = some (some (aI (bI (c3F w i j).isSome)), (K2, L, ())) := s1
    cases hq : (c3F w i j).isSome with
    | true =>
      rw [hq] at s1'
      have hfn : fndF (fun j => (c3F w i j).isSome) (k + 1) j = some j := by
        show (if (c3F w i j).isSome = true then some j else _) = some j
        rw [if_pos hq]
      rw [hfn]
      refine ⟨fun j' hj' => ?_, fun z => by cases z⟩
      cases hj'
      refine ⟨K2, v_X3_seekThree_19.e X g _ _ K L _ ?_, R3, fun t ht => ⟨e0, e1, s4 t ht⟩⟩
      rw [(hR.hr hH).1]
      simp (disch := omega) only [a_bi_i, a_bv_n, a_bl_l, a_bq_q, l_0, l_1, l_2, l_3, l_4, l_5, l_6, l_7, l_8, l_9, l_10, l_12, l_16, l_20, l_24, l_25, l_31, l_32, l_33, l_40, l_48, l_57, l_60, l_63, l_64, l_78, l_85, l_97, l_99, l_100, l_122, l_255, l_325, l_700, l_999, l_1000, l_1200, l_99999, l_100000, l_1000000, l_2000000000, l_N, n_add, n_mul, n_lt, n_out, n_div, n_dm, n_eq, n_toN, n_inN, n_ltN, n_nltN, n_neN, Nat.not_lt_zero, false_or, or_false, ite_y, ite_n, if_true, if_false, ite_tt, ite_ff, b_0, b_1, eq_self_iff_true, Bool.true_eq_false, Bool.false_eq_true, j1, s1']
    | false =>
      rw [hq] at s1'
      have hfn : fndF (fun j => (c3F w i j).isSome) (k + 1) j = fndF (fun j => (c3F w i j).isSome) k (j + 1) := by
        show (if (c3F w i j).isSome = true then some j else _) = _
        rw [hq, if_neg (by decide)]
      rw [hfn]
      have go : ∀ r, v_X3_seekThree_19 X g (nI i) (nI (j + 1)) (K2, L, ()) = some r → v_X3_seekThree_19 X g (nI i) (nI j) (K, L, ()) = some r := fun r hr => by
        refine v_X3_seekThree_19.e X g _ _ K L r ?_
        rw [(hR.hr hH).1]
        simp (disch := omega) only [a_bi_i, a_bv_n, a_bl_l, a_bq_q, l_0, l_1, l_2, l_3, l_4, l_5, l_6, l_7, l_8, l_9, l_10, l_12, l_16, l_20, l_24, l_25, l_31, l_32, l_33, l_40, l_48, l_57, l_60, l_63, l_64, l_78, l_85, l_97, l_99, l_100, l_122, l_255, l_325, l_700, l_999, l_1000, l_1200, l_99999, l_100000, l_1000000, l_2000000000, l_N, n_add, n_mul, n_lt, n_out, n_div, n_dm, n_eq, n_toN, n_inN, n_ltN, n_nltN, n_neN, Nat.not_lt_zero, false_or, or_false, ite_y, ite_n, if_true, if_false, ite_tt, ite_ff, b_0, b_1, eq_self_iff_true, Bool.true_eq_false, Bool.false_eq_true, j1, s1']
        exact hr
      obtain ⟨u1, u2⟩ := ih (j + 1) K2 (by omega) R3 e0
      refine ⟨fun j' hj' => ?_, fun hz => ?_⟩
      · obtain ⟨J, y1, y2, y3⟩ := u1 j' hj'
        exact ⟨J, go _ y1, y2, y3⟩
      · obtain ⟨K', y1, y2⟩ := u2 hz
        exact ⟨K', y1, fun r hr => go r (y2 r hr)⟩
end
