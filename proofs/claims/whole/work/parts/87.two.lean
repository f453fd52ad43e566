/-! the class seeks rows of one and of two -/
section
variable {X : AX} {d : Nat} {I J : A3 Int32} {L : A3 Int64} {w : TW}
/-- only the chases of rows below 3, family 25 and the picks change -/
def RH (I J : A3 Int32) : Prop := ∀ f q, f ≠ 30 → f ≠ 25 → (f ∉ [20, 21, 22, 23, 24] ∨ 3 ≤ q) → J f q = I f q
theorem RH.refl : RH I I := fun _ _ _ _ _ => rfl
theorem RH.trans {K : A3 Int32} (h1 : RH I J) (h2 : RH J K) : RH I K := fun f q a b c => (h2 f q a b c).trans (h1 f q a b c)
theorem RH.hr (h : RH I J) (hH : HR I w) : HR J w := by
  have e : ∀ f b, f ≠ 30 → f ≠ 25 → J f (b + 3) = I f (b + 3) := fun f b a c => h f (b + 3) a c (Or.inr (by omega))
  refine ⟨by rw [h 28 0 (by decide) (by decide) (Or.inl (by decide))]; exact hH.1, fun b hb => ?_⟩
  unfold CF CA CG
  rw [e 20 b (by decide) (by decide), e 21 b (by decide) (by decide), e 22 b (by decide) (by decide), e 23 b (by decide) (by decide), e 24 b (by decide) (by decide)]
  exact hH.2 b hb
theorem RH.tc (h : RH I J) (hI : TC I w) : TC J w := hI.fm (l := [20, 21, 22, 23, 24, 25, 30]) (fun f hf => funext fun q => h f q (fun e => hf (by rw [e]; decide)) (fun e => hf (by rw [e]; decide)) (Or.inl (fun z => hf (by revert z; simp; omega)))) (by decide) (by decide) (by decide) (by decide) (by decide)
theorem RH.up {t : Nat} {x : Int32} : RH I (up3 I 30 0 t x) := fun f q a _ _ => by rw [u3_f _ _ a]
def c2F (w : TW) (i : Nat) : Option Nat := fndF (fun t => cAl w 2 (ext (fun _ => i) 1 t)) (2 * w 0 - i) i
def a2F (w : TW) : Option Nat := fnd (2 * w 0) (fun i => (c2F w i).isSome)
def a1F (w : TW) : Option Nat := fnd (2 * w 0) (fun i => cAl w 1 (fun _ => i))
theorem c_seekOne (h : TC I w) (v : Vw w) (hT : 0 < w 1) (hH : HR I w) (hd : 4 ≤ d) : ∃ J, K_X3_seekOne X d (I, L, ()) = some (some (aI (bI (a1F w).isSome)), (J, L, ())) ∧ RH I J ∧ ∀ i, a1F w = some i → J 30 0 0 = nI i := by
  obtain ⟨g, rfl⟩ : ∃ g, d = g + 1 := ⟨d - 1, by omega⟩
  obtain ⟨⟨w0, w1, -⟩, -⟩ := id v
  have key : ∀ k c K, c + k = 2 * w 0 → RH I K → ∃ J, v_X3_seekOne_2 X g (nI c) (K, L, ()) = some (some (aI (bI (fndF (fun i => cAl w 1 (fun _ => i)) k c).isSome)), (J, L, ())) ∧ RH I J ∧ ∀ i, fndF (fun i => cAl w 1 (fun _ => i)) k c = some i → J 30 0 0 = nI i := by
    intro k
    induction k with
    | zero =>
      intro c K hc hR
      refine ⟨K, v_X3_seekOne_2.e X g _ K L _ ?_, hR, fun x hx => by cases hx⟩
      rw [(hR.hr hH).1]
      simp (disch := omega) only [a_bi_i, a_bv_n, a_bl_l, a_bq_q, l_0, l_1, l_2, l_3, l_4, l_5, l_6, l_7, l_8, l_9, l_10, l_12, l_16, l_20, l_24, l_25, l_31, l_32, l_33, l_40, l_48, l_57, l_60, l_63, l_64, l_78, l_85, l_97, l_99, l_100, l_122, l_255, l_325, l_700, l_999, l_1000, l_1200, l_99999, l_100000, l_1000000, l_2000000000, l_N, n_add, n_mul, n_lt, n_out, n_div, n_dm, n_eq, n_toN, n_inN, n_ltN, n_nltN, n_neN, Nat.not_lt_zero, false_or, or_false, ite_y, ite_n, if_true, if_false, ite_tt, ite_ff, b_0, b_1, eq_self_iff_true, Bool.true_eq_false, Bool.false_eq_true]
      rfl
    | succ k ih =>
      intro c K hc hR
      have hcB : c < 2 * w 0 := by omega
      have R1 : RH I (up3 K 30 0 0 (nI c)) := hR.trans RH.up
      have H1 := R1.hr hH
      obtain ⟨K2, x, s1, s2, s3⟩ := c_try (X := X) (d := g) (L := L) (q := c + 3) (n := 1) (r := fun _ => c) (R1.tc h) v hT (H1.2 c hcB).1 (H1.2 c hcB).2 (by omega)
      have R2 : RH I K2 := R1.trans (fun f q _ b _ => s2 f q (Or.inl b))
      have e30 : K2 30 0 0 = nI c := by rw [s2 30 0 (Or.inl (by decide)), u3_eq]
      cases hq : cAl w 1 (fun _ => c) with
      | true =>
        have hx := s3.mpr hq
        have hfn : fndF (fun i => cAl w 1 (fun _ => i)) (k + 1) c = some c := by
          show (if cAl w 1 (fun _ => c) = true then some c else _) = some c
          rw [if_pos hq]
        rw [hfn]
        refine ⟨K2, v_X3_seekOne_2.e X g _ K L _ ?_, R2, fun y hy => by cases hy; exact e30⟩
        rw [(hR.hr hH).1]
        simp (disch := omega) only [a_bi_i, a_bv_n, a_bl_l, a_bq_q, l_0, l_1, l_2, l_3, l_4, l_5, l_6, l_7, l_8, l_9, l_10, l_12, l_16, l_20, l_24, l_25, l_31, l_32, l_33, l_40, l_48, l_57, l_60, l_63, l_64, l_78, l_85, l_97, l_99, l_100, l_122, l_255, l_325, l_700, l_999, l_1000, l_1200, l_99999, l_100000, l_1000000, l_2000000000, l_N, n_add, n_mul, n_lt, n_out, n_div, n_dm, n_eq, n_toN, n_inN, n_ltN, n_nltN, n_neN, Nat.not_lt_zero, false_or, or_false, ite_y, ite_n, if_true, if_false, ite_tt, ite_ff, b_0, b_1, eq_self_iff_true, Bool.true_eq_false, Bool.false_eq_true, s1, hx]
        rfl
      | false =>
        have hx : ¬ x = nI 0 := fun z => by rw [s3.mp z] at hq; cases hq
        have hfn : fndF (fun i => cAl w 1 (fun _ => i)) (k + 1) c = fndF (fun i => cAl w 1 (fun _ => i)) k (c + 1) := by
          show (if cAl w 1 (fun _ => c) = true then some c else _) = _
          rw [hq, if_neg (by decide)]
        rw [hfn]
        obtain ⟨J, u1, u2, u3⟩ := ih (c + 1) K2 (by omega) R2
        refine ⟨J, v_X3_seekOne_2.e X g _ K L _ ?_, u2, u3⟩
        rw [(hR.hr hH).1]
        simp (disch := omega) only [a_bi_i, a_bv_n, a_bl_l, a_bq_q, l_0, l_1, l_2, l_3, l_4, l_5, l_6, l_7, l_8, l_9, l_10, l_12, l_16, l_20, l_24, l_25, l_31, l_32, l_33, l_40, l_48, l_57, l_60, l_63, l_64, l_78, l_85, l_97, l_99, l_100, l_122, l_255, l_325, l_700, l_999, l_1000, l_1200, l_99999, l_100000, l_1000000, l_2000000000, l_N, n_add, n_mul, n_lt, n_out, n_div, n_dm, n_eq, n_toN, n_inN, n_ltN, n_nltN, n_neN, Nat.not_lt_zero, false_or, or_false, ite_y, ite_n, if_true, if_false, ite_tt, ite_ff, b_0, b_1, eq_self_iff_true, Bool.true_eq_false, Bool.false_eq_true, s1, hx]
        exact u1
  obtain ⟨J, u1, u2, u3⟩ := key (2 * w 0) 0 I (by omega) RH.refl
  exact ⟨J, K_X3_seekOne.e X g I L _ u1, u2, u3⟩
theorem c_seekTwo (h : TC I w) (v : Vw w) (hT : 0 < w 1) (hH : HR I w) (hd : 5 ≤ d) : ∃ J, K_X3_seekTwo X d (I, L, ()) = some (some (aI (bI (a2F w).isSome)), (J, L, ())) ∧ RH I J ∧ ∀ i, a2F w = some i → ∀ j, c2F w i = some j → J 30 0 0 = nI i ∧ J 30 0 1 = nI j := by
  obtain ⟨g, rfl⟩ : ∃ g, d = g + 1 := ⟨d - 1, by omega⟩
  obtain ⟨⟨w0, w1, -⟩, -⟩ := id v
  have key : ∀ k c K, c + k = 2 * w 0 → RH I K → ∃ J, v_X3_seekTwo_2 X g (nI c) (K, L, ()) = some (some (aI (bI (fndF (fun i => (c2F w i).isSome) k c).isSome)), (J, L, ())) ∧ RH I J ∧ ∀ i, fndF (fun i => (c2F w i).isSome) k c = some i → ∀ j, c2F w i = some j → J 30 0 0 = nI i ∧ J 30 0 1 = nI j := by
    intro k
    induction k with
    | zero =>
      intro c K hc hR
      refine ⟨K, v_X3_seekTwo_2.e X g _ K L _ ?_, hR, fun x hx => by cases hx⟩
      rw [(hR.hr hH).1]
      simp (disch := omega) only [a_bi_i, a_bv_n, a_bl_l, a_bq_q, l_0, l_1, l_2, l_3, l_4, l_5, l_6, l_7, l_8, l_9, l_10, l_12, l_16, l_20, l_24, l_25, l_31, l_32, l_33, l_40, l_48, l_57, l_60, l_63, l_64, l_78, l_85, l_97, l_99, l_100, l_122, l_255, l_325, l_700, l_999, l_1000, l_1200, l_99999, l_100000, l_1000000, l_2000000000, l_N, n_add, n_mul, n_lt, n_out, n_div, n_dm, n_eq, n_toN, n_inN, n_ltN, n_nltN, n_neN, Nat.not_lt_zero, false_or, or_false, ite_y, ite_n, if_true, if_false, ite_tt, ite_ff, b_0, b_1, eq_self_iff_true, Bool.true_eq_false, Bool.false_eq_true]
      rfl
    | succ k ih =>
      intro c K hc hR
      have hcB : c < 2 * w 0 := by omega
      have R1 : RH I (up3 K 30 0 0 (nI c)) := hR.trans RH.up
      have H1 := R1.hr hH
      obtain ⟨K2, s1, s2, s3, s4⟩ := c_seekLast (X := X) (d := g) (L := L) (a := c + 3) (b := 1) (n := 1) (c := c) (e := 1) (r := fun _ => c) (R1.tc h) v hT H1 (by omega) (by decide) (by decide) (H1.2 c hcB).1 (H1.2 c hcB).2 (by omega) (by omega)
      have R2 : RH I K2 := R1.trans (fun f q a b z => s2 f q a (z.elim (fun z => Or.inl (by revert z; simp; omega)) (fun z => Or.inr (by omega))))
      have e30 : K2 30 0 0 = nI c := by rw [s3 0 (by decide), u3_eq]
      have s1' : K_X3_seekLast X g (c + 3) 1 (nI c) (nI 1) (up3 K 30 0 0 (nI c), L, ()) = some (some (aI (bI (c2F w c).isSome)), (K2, L, ())) := s1
      cases hq : (c2F w c).isSome with
      | true =>
        rw [hq] at s1'
        have hfn : fndF (fun i => (c2F w i).isSome) (k + 1) c = some c := by
          show (if (c2F w c).isSome = true then some c else _) = some c
          rw [if_pos hq]
        rw [hfn]
        refine ⟨K2, v_X3_seekTwo_2.e X g _ K L _ ?_, R2, fun y hy j hj => by cases hy; exact ⟨e30, s4 j hj⟩⟩
        rw [(hR.hr hH).1]
        simp (disch := omega) only [a_bi_i, a_bv_n, a_bl_l, a_bq_q, l_0, l_1, l_2, l_3, l_4, l_5, l_6, l_7, l_8, l_9, l_10, l_12, l_16, l_20, l_24, l_25, l_31, l_32, l_33, l_40, l_48, l_57, l_60, l_63, l_64, l_78, l_85, l_97, l_99, l_100, l_122, l_255, l_325, l_700, l_999, l_1000, l_1200, l_99999, l_100000, l_1000000, l_2000000000, l_N, n_add, n_mul, n_lt, n_out, n_div, n_dm, n_eq, n_toN, n_inN, n_ltN, n_nltN, n_neN, Nat.not_lt_zero, false_or, or_false, ite_y, ite_n, if_true, if_false, ite_tt, ite_ff, b_0, b_1, eq_self_iff_true, Bool.true_eq_false, Bool.false_eq_true, s1']
        rfl
      | false =>
        rw [hq] at s1'
        have hfn : fndF (fun i => (c2F w i).isSome) (k + 1) c = fndF (fun i => (c2F w i).isSome) k (c + 1) := by
          show (if (c2F w c).isSome = true then some c else _) = _
          rw [hq, if_neg (by decide)]
        rw [hfn]
        obtain ⟨J, u1, u2, u3⟩ := ih (c + 1) K2 (by omega) R2
        refine ⟨J, v_X3_seekTwo_2.e X g _ K L _ ?_, u2, u3⟩
        rw [(hR.hr hH).1]
        simp (disch := omega) only [a_bi_i, a_bv_n, a_bl_l, a_bq_q, l_0, l_1, l_2, l_3, l_4, l_5, l_6, l_7, l_8, l_9, l_10, l_12, l_16, l_20, l_24, l_25, l_31, l_32, l_33, l_40, l_48, l_57, l_60, l_63, l_64, l_78, l_85, l_97, l_99, l_100, l_122, l_255, l_325, l_700, l_999, l_1000, l_1200, l_99999, l_100000, l_1000000, l_2000000000, l_N, n_add, n_mul, n_lt, n_out, n_div, n_dm, n_eq, n_toN, n_inN, n_ltN, n_nltN, n_neN, Nat.not_lt_zero, false_or, or_false, ite_y, ite_n, if_true, if_false, ite_tt, ite_ff, b_0, b_1, eq_self_iff_true, Bool.true_eq_false, Bool.false_eq_true, s1']
        exact u1
  obtain ⟨J, u1, u2, u3⟩ := key (2 * w 0) 0 I (by omega) RH.refl
  exact ⟨J, K_X3_seekTwo.e X g I L _ u1, u2, u3⟩
end
