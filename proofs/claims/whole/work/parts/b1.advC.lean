/-! the class goes to the next token -/
section
variable {X : AX} {d : Nat} {I J : A3 Int32} {L : A3 Int64} {b : Nat → Int8} {n : Nat}
theorem rn_nv {f k : Nat} (hf : kdB (b f) = 2) : ∀ i, i < rn b 2 k (f + 1) - f → kdB (b (f + i)) = 2 := fun i hi => by
  by_cases e : i = 0
  · subst e; exact hf
  · exact rn_kd k (f + 1) (f + i) (by omega) (by omega)
/-- the run of a word, of a number -/
theorem c_run {f kd : Nat} (hT : TB I n b) (hkd : kd = 1 ∨ kd = 2) (hf : f < n) (hbf : kdB (b f) = kd) (hd : 1 ≤ d) : ∀ k p K, p + k = n → f < p → (p - f) + k = n - f → rn b kd k p = rn b kd (n - (f + 1)) (f + 1) → Fm [4] I K → K 4 0 1 = nI kd → K 4 0 2 = nI f → K 4 0 3 = nI p → K 4 0 4 = nI 0 → ∃ J, v_X8_advance_147 X d (K, L, ()) = some (none, (J, L, ())) ∧ Fm [4] I J ∧ CT J (tokF b n f) := by
  obtain ⟨hn, h1, h2⟩ := id hT
  have fin : ∀ p K, p ≤ n → f < p → p = rn b kd (n - (f + 1)) (f + 1) → Fm [4] I K → K 4 0 1 = nI kd → K 4 0 2 = nI f → K 4 0 3 = nI p → K 4 0 4 = nI 0 → ∃ J, v_X8_advance_201 X d (nI f) (K, L, ()) = some (none, (J, L, ())) ∧ Fm [4] I J ∧ CT J (tokF b n f) := by
    intro p K hp hfp hr hF k1 k2 k3 k4
    rcases hkd with rfl | rfl
    · refine ⟨K, v_X8_advance_201.e X d _ K L _ ?_, hF, ?_⟩
      · rw [k1, k3]
        have : ¬ (1 = 2) := by decide
        simp (disch := omega) only [a_bi_i, a_bv_n, a_bl_l, a_bq_q, l_0, l_1, l_2, l_3, l_4, l_5, l_6, l_7, l_8, l_9, l_10, l_12, l_16, l_20, l_24, l_25, l_31, l_32, l_33, l_40, l_48, l_57, l_60, l_63, l_64, l_78, l_85, l_97, l_99, l_100, l_122, l_255, l_325, l_700, l_999, l_1000, l_1200, l_99999, l_100000, l_1000000, l_2000000000, l_N, n_add, n_mul, n_lt, n_out, n_div, n_dm, n_eq, n_toN, n_inN, n_ltN, n_nltN, n_neN, Nat.not_lt_zero, false_or, or_false, ite_y, ite_n, if_true, if_false, ite_tt, ite_ff, b_0, b_1, eq_self_iff_true, Bool.true_eq_false, Bool.false_eq_true, this]
      · unfold tokF
        rw [if_neg (by omega), if_pos hbf]
        exact ⟨k1, k2, by rw [k3, hr], 0, k4, by decide, Or.inl ⟨rfl, Nat.zero_le _⟩⟩
    · obtain ⟨J, c', a1, a2, a3, a4, a5⟩ := c_num (X := X) (d := d) (L := L) (b := b) (n := p - f) (f := f) (kd := 2) (p - f) 0 0 K (by omega) (by omega) k1 (by rw [k3]; congr 1; omega) (by omega) (fun i hi => by
        refine ⟨by rw [hF 2 (by decide)]; exact h2 _ (by omega), ?_⟩
        rw [hr] at hi
        exact rn_nv hbf i hi) k4 ⟨by decide, Or.inl ⟨rfl, Nat.zero_le _⟩⟩
      refine ⟨J, a1, hF.trans a2, ?_⟩
      unfold tokF
      rw [if_neg (by omega), if_neg (by rw [hbf]; decide), if_pos hbf]
      refine ⟨by rw [a3 1 (by decide)]; exact k1, by rw [a3 2 (by decide)]; exact k2, by rw [a3 3 (by decide), k3, hr], c', a4, ?_⟩
      rw [← hr]; exact a5
  intro k
  induction k with
  | zero =>
    intro p K hp hfp hpk hr hF k1 k2 k3 k4
    obtain ⟨J, a1, a2, a3⟩ := fin p K (by omega) hfp (by rw [← hr]; rfl) hF k1 k2 k3 k4
    refine ⟨J, v_X8_advance_147.e X d K L _ ?_, a2, a3⟩
    rw [k3, k2, hF 1 (by decide), h1]
    simp (disch := omega) only [a_bi_i, a_bv_n, a_bl_l, a_bq_q, l_0, l_1, l_2, l_3, l_4, l_5, l_6, l_7, l_8, l_9, l_10, l_12, l_16, l_20, l_24, l_25, l_31, l_32, l_33, l_40, l_48, l_57, l_60, l_63, l_64, l_78, l_85, l_97, l_99, l_100, l_122, l_255, l_325, l_700, l_999, l_1000, l_1200, l_99999, l_100000, l_1000000, l_2000000000, l_N, n_add, n_mul, n_lt, n_out, n_div, n_dm, n_eq, n_toN, n_inN, n_ltN, n_nltN, n_neN, Nat.not_lt_zero, false_or, or_false, ite_y, ite_n, if_true, if_false, ite_tt, ite_ff, b_0, b_1, eq_self_iff_true, Bool.true_eq_false, Bool.false_eq_true]
    exact a1
  | succ k ih =>
    intro p K hp hfp hpk hr hF k1 k2 k3 k4
    have e2 : K 2 0 p = (b p).toInt32 := by rw [hF 2 (by decide)]; exact h2 p (by omega)
    have kl := (by_f (b p)).2.2.2.2.2.2
    rw [rn] at hr
    by_cases hk : kdB (b p) = kd
    · rw [if_pos hk] at hr
      obtain ⟨J, a1, a2, a3⟩ := ih (p + 1) (up3 K 4 0 3 (nI (p + 1))) (by omega) (by omega) (by omega) hr (hF.up (by decide)) (by rw [u3_j _ _ (by decide)]; exact k1) (by rw [u3_j _ _ (by decide)]; exact k2) (u3_eq _ _ _ _ _) (by rw [u3_j _ _ (by decide)]; exact k4)
      refine ⟨J, v_X8_advance_147.e X d K L _ ?_, a2, a3⟩
      rw [k3, hF 1 (by decide), h1]
      simp (disch := omega) only [a_bi_i, a_bv_n, a_bl_l, a_bq_q, l_0, l_1, l_2, l_3, l_4, l_5, l_6, l_7, l_8, l_9, l_10, l_12, l_16, l_20, l_24, l_25, l_31, l_32, l_33, l_40, l_48, l_57, l_60, l_63, l_64, l_78, l_85, l_97, l_99, l_100, l_122, l_255, l_325, l_700, l_999, l_1000, l_1200, l_99999, l_100000, l_1000000, l_2000000000, l_N, n_add, n_mul, n_lt, n_out, n_div, n_dm, n_eq, n_toN, n_inN, n_ltN, n_nltN, n_neN, Nat.not_lt_zero, false_or, or_false, ite_y, ite_n, if_true, if_false, ite_tt, ite_ff, b_0, b_1, eq_self_iff_true, Bool.true_eq_false, Bool.false_eq_true, e2, c_kindOf, k1, k3, hk]
      exact a1
    · rw [if_neg hk] at hr
      obtain ⟨J, a1, a2, a3⟩ := fin p K (by omega) hfp hr hF k1 k2 k3 k4
      refine ⟨J, v_X8_advance_147.e X d K L _ ?_, a2, a3⟩
      rw [k3, hF 1 (by decide), h1]
      simp (disch := omega) only [a_bi_i, a_bv_n, a_bl_l, a_bq_q, l_0, l_1, l_2, l_3, l_4, l_5, l_6, l_7, l_8, l_9, l_10, l_12, l_16, l_20, l_24, l_25, l_31, l_32, l_33, l_40, l_48, l_57, l_60, l_63, l_64, l_78, l_85, l_97, l_99, l_100, l_122, l_255, l_325, l_700, l_999, l_1000, l_1200, l_99999, l_100000, l_1000000, l_2000000000, l_N, n_add, n_mul, n_lt, n_out, n_div, n_dm, n_eq, n_toN, n_inN, n_ltN, n_nltN, n_neN, Nat.not_lt_zero, false_or, or_false, ite_y, ite_n, if_true, if_false, ite_tt, ite_ff, b_0, b_1, eq_self_iff_true, Bool.true_eq_false, Bool.false_eq_true, e2, c_kindOf, k1, k2, hk]
      exact a1
/-- from a sign that is no blank -/
theorem c_core {f : Nat} (hT : TB I n b) (hf : f ≤ n) (h2' : I 4 0 2 = nI f) (hd : 1 ≤ d) {r : Option AV × AS Unit} : ∃ J, Fm [4] I J ∧ CT J (tokF b n f) ∧ (if (up3 (up3 I 4 0 3 (I 4 0 2)) 4 0 4 (0)) 4 0 2 < (up3 (up3 I 4 0 3 (I 4 0 2)) 4 0 4 (0)) 1 0 1 then if aout ((up3 (up3 I 4 0 3 (I 4 0 2)) 4 0 4 (0)) 4 0 2) 1200 then none else (a_bi (K_X8_kindOf X d ((up3 (up3 I 4 0 3 (I 4 0 2)) 4 0 4 (0)) 2 0 ((up3 (up3 I 4 0 3 (I 4 0 2)) 4 0 4 (0)) 4 0 2).toNatClampNeg) ((up3 (up3 I 4 0 3 (I 4 0 2)) 4 0 4 (0)), L, ())) fun x1 s1 => (if (up3 (up3 s1.1 4 0 1 x1) 4 0 3 (((up3 s1.1 4 0 1 x1) 4 0 3) + (1))) 4 0 1 = (1) then v_X8_advance_147 X d ((up3 (up3 s1.1 4 0 1 x1) 4 0 3 (((up3 s1.1 4 0 1 x1) 4 0 3) + (1))), s1.2.1, ()) else (if (up3 (up3 s1.1 4 0 1 x1) 4 0 3 (((up3 s1.1 4 0 1 x1) 4 0 3) + (1))) 4 0 1 = (2) then v_X8_advance_147 X d ((up3 (up3 s1.1 4 0 1 x1) 4 0 3 (((up3 s1.1 4 0 1 x1) 4 0 3) + (1))), s1.2.1, ()) else v_X8_advance_201 X d ((up3 (up3 s1.1 4 0 1 x1) 4 0 3 (((up3 s1.1 4 0 1 x1) 4 0 3) + (1))) 4 0 2) ((up3 (up3 s1.1 4 0 1 x1) 4 0 3 (((up3 s1.1 4 0 1 x1) 4 0 3) + (1))), s1.2.1, ())))) else some (none, ((up3 (up3 (up3 I 4 0 3 (I 4 0 2)) 4 0 4 (0)) 4 0 1 (0)), L, ()))) = some (none, (J, L, ())) := by
  obtain ⟨hn, h1, h2⟩ := id hT
  generalize hI1 : up3 (up3 I 4 0 3 (I 4 0 2)) 4 0 4 (0) = I1
  have F1 : Fm [4] I I1 := by rw [← hI1]; exact (Fm.refl.up (by decide)).up (by decide)
  have a2 : I1 4 0 2 = nI f := by rw [← hI1, u3_j _ _ (by decide), u3_j _ _ (by decide)]; exact h2'
  have a3 : I1 4 0 3 = nI f := by rw [← hI1, u3_j _ _ (by decide), u3_eq]; exact h2'
  have a4 : I1 4 0 4 = nI 0 := by rw [← hI1, u3_eq]; rfl
  have a1 : I1 1 0 1 = nI n := by rw [F1 1 (by decide)]; exact h1
  by_cases hfn : f < n
  · have e2 : I1 2 0 f = (b f).toInt32 := by rw [F1 2 (by decide)]; exact h2 f hfn
    have kl := (by_f (b f)).2.2.2.2.2.2
    generalize hI2 : up3 (up3 I1 4 0 1 (nI (kdB (b f)))) 4 0 3 (nI (f + 1)) = I2
    have F2 : Fm [4] I I2 := by rw [← hI2]; exact (F1.up (by decide)).up (by decide)
    have b1 : I2 4 0 1 = nI (kdB (b f)) := by rw [← hI2, u3_j _ _ (by decide), u3_eq]
    have b2 : I2 4 0 2 = nI f := by rw [← hI2, u3_j _ _ (by decide), u3_j _ _ (by decide)]; exact a2
    have b3 : I2 4 0 3 = nI (f + 1) := by rw [← hI2, u3_eq]
    have b4 : I2 4 0 4 = nI 0 := by rw [← hI2, u3_j _ _ (by decide), u3_j _ _ (by decide)]; exact a4
    have b33 : up3 I1 4 0 1 (nI (kdB (b f))) 4 0 3 = nI f := by rw [u3_j _ _ (by decide)]; exact a3
    have red : ∀ J, (if I2 4 0 1 = 1 then v_X8_advance_147 X d (I2, L, ()) else if I2 4 0 1 = 2 then v_X8_advance_147 X d (I2, L, ()) else v_X8_advance_201 X d (I2 4 0 2) (I2, L, ())) = some (none, (J, L, ())) → (if I1 4 0 2 < I1 1 0 1 then if aout (I1 4 0 2) 1200 then none else (a_bi (K_X8_kindOf X d (I1 2 0 (I1 4 0 2).toNatClampNeg) (I1, L, ())) fun x1 s1 => (if (up3 (up3 s1.1 4 0 1 x1) 4 0 3 (((up3 s1.1 4 0 1 x1) 4 0 3) + (1))) 4 0 1 = (1) then v_X8_advance_147 X d ((up3 (up3 s1.1 4 0 1 x1) 4 0 3 (((up3 s1.1 4 0 1 x1) 4 0 3) + (1))), s1.2.1, ()) else (if (up3 (up3 s1.1 4 0 1 x1) 4 0 3 (((up3 s1.1 4 0 1 x1) 4 0 3) + (1))) 4 0 1 = (2) then v_X8_advance_147 X d ((up3 (up3 s1.1 4 0 1 x1) 4 0 3 (((up3 s1.1 4 0 1 x1) 4 0 3) + (1))), s1.2.1, ()) else v_X8_advance_201 X d ((up3 (up3 s1.1 4 0 1 x1) 4 0 3 (((up3 s1.1 4 0 1 x1) 4 0 3) + (1))) 4 0 2) ((up3 (up3 s1.1 4 0 1 x1) 4 0 3 (((up3 s1.1 4 0 1 x1) 4 0 3) + (1))), s1.2.1, ())))) else some (none, ((up3 I1 4 0 1 (0)), L, ()))) = some (none, (J, L, ())) := fun J hJ => by
      have q1 : nI f < nI n := (n_lt (by omega) (by omega)).mpr hfn
      have q3 : ¬ aout (nI f) 1200 := by rw [n_out (by omega)]; omega
      rw [a2, a1, if_pos q1, if_neg q3, n_toN (show f < 2147483648 by omega), e2, c_kindOf _ hd, a_bi_i]
      dsimp only
      rw [b33, l_1, n_add, hI2]
      exact hJ
    rcases (show kdB (b f) = 1 ∨ kdB (b f) = 2 ∨ (¬ kdB (b f) = 1 ∧ ¬ kdB (b f) = 2) by omega) with hk | hk | hk
    · rw [hk] at b1
      obtain ⟨J, j1, j2, j3⟩ := c_run (X := X) (d := d) (L := L) (f := f) (kd := 1) hT (Or.inl rfl) hfn hk hd (n - (f + 1)) (f + 1) I2 (by omega) (by omega) (by omega) rfl F2 b1 b2 b3 b4
      refine ⟨J, j2, j3, red J ?_⟩
      rw [b1, if_pos (show nI 1 = 1 from rfl)]; exact j1
    · rw [hk] at b1
      obtain ⟨J, j1, j2, j3⟩ := c_run (X := X) (d := d) (L := L) (f := f) (kd := 2) hT (Or.inr rfl) hfn hk hd (n - (f + 1)) (f + 1) I2 (by omega) (by omega) (by omega) rfl F2 b1 b2 b3 b4
      refine ⟨J, j2, j3, red J ?_⟩
      rw [b1, if_neg (by decide), if_pos (show nI 2 = 2 from rfl)]; exact j1
    · refine ⟨I2, F2, ?_, red I2 ?_⟩
      · unfold tokF
        rw [if_neg (by omega), if_neg hk.1, if_neg hk.2]
        exact ⟨b1, b2, b3, 0, b4, by decide, Or.inl ⟨rfl, Nat.zero_le _⟩⟩
      · have n1 : ¬ nI (kdB (b f)) = 1 := fun z => hk.1 ((n_eq (b := 1) (by omega) (by decide)).mp z)
        have n2 : ¬ nI (kdB (b f)) = 2 := fun z => hk.2 ((n_eq (b := 2) (by omega) (by decide)).mp z)
        rw [b1, if_neg n1, if_neg n2, b2]
        refine v_X8_advance_201.e X d _ I2 L _ ?_
        rw [b3, b1, if_neg n2]
        split <;> rfl
  · have : f = n := by omega
    subst this
    refine ⟨up3 I1 4 0 1 0, F1.up (by decide), ?_, ?_⟩
    · unfold tokF
      rw [if_pos (Nat.le_refl _)]
      exact ⟨u3_eq _ _ _ _ _, by rw [u3_j _ _ (by decide)]; exact a2, by rw [u3_j _ _ (by decide)]; exact a3, 0, by rw [u3_j _ _ (by decide)]; exact a4, by decide, Or.inl ⟨rfl, Nat.zero_le _⟩⟩
    · rw [a2, a1, if_neg (fun z => Nat.lt_irrefl f ((n_lt (by omega) (by omega)).mp z))]
theorem c_advance {p : Nat} (hT : TB I n b) (hp : p ≤ n) (h3 : I 4 0 3 = nI p) (hd : 2 ≤ d) : ∃ J, K_X8_advance X d (I, L, ()) = some (none, (J, L, ())) ∧ Fm [4] I J ∧ CT J (tk b n p) := by
  obtain ⟨g, rfl⟩ : ∃ g, d = g + 1 := ⟨d - 1, by omega⟩
  obtain ⟨hn, h1, h2⟩ := id hT
  have key : ∀ k p K, p + k = n → Fm [4] I K → K 4 0 2 = nI p → ∃ J, v_X8_advance_8 X g (K, L, ()) = some (none, (J, L, ())) ∧ Fm [4] I J ∧ CT J (tokF b n (skp b k p)) := by
    intro k
    induction k with
    | zero =>
      intro p K hp hF k2
      obtain ⟨J, j1, j2, j3⟩ := c_core (X := X) (d := g) (L := L) (r := (none, (I, L, ()))) (hT.fm hF (by decide) (by decide)) (show p ≤ n by omega) k2 (by omega)
      refine ⟨J, v_X8_advance_8.e X g K L _ ?_, hF.trans j1, j2⟩
      have q1 : ¬ K 4 0 2 < K 1 0 1 := by rw [k2, hF 1 (by decide), h1, n_lt (by omega) (by omega)]; omega
      rw [if_neg q1]
      exact j3
    | succ k ih =>
      intro p K hp hF k2
      have e2 : K 2 0 p = (b p).toInt32 := by rw [hF 2 (by decide)]; exact h2 p (by omega)
      have q1 : K 4 0 2 < K 1 0 1 := by rw [k2, hF 1 (by decide), h1, n_lt (by omega) (by omega)]; omega
      have q3 : ¬ aout (K 4 0 2) 1200 := by rw [k2, n_out (by omega)]; omega
      have et : K 2 0 (K 4 0 2).toNatClampNeg = (b p).toInt32 := by rw [k2, n_toN (show p < 2147483648 by omega)]; exact e2
      rw [skp]
      cases hb : blB (b p) with
      | true =>
        obtain ⟨J, j1, j2, j3⟩ := ih (p + 1) (up3 K 4 0 2 (nI (p + 1))) (by omega) (hF.up (by decide)) (u3_eq _ _ _ _ _)
        rw [if_pos rfl]
        refine ⟨J, v_X8_advance_8.e X g K L _ ?_, j2, j3⟩
        have en : K 4 0 2 + 1 = nI (p + 1) := by rw [k2, l_1, n_add]
        unfold blB at hb
        rw [if_pos q1, if_neg q3, et, en]
        by_cases c1 : (b p).toInt32 = 32
        · rw [if_pos c1]; exact j1
        · have c2 : (b p).toInt32 = 10 := by
            rw [decide_eq_false c1, Bool.false_or] at hb
            exact of_decide_eq_true hb
          rw [if_neg c1, if_neg q3, if_pos c2]; exact j1
      | false =>
        rw [if_neg (by decide)]
        obtain ⟨J, j1, j2, j3⟩ := c_core (X := X) (d := g) (L := L) (r := (none, (I, L, ()))) (hT.fm hF (by decide) (by decide)) (show p ≤ n by omega) k2 (by omega)
        refine ⟨J, v_X8_advance_8.e X g K L _ ?_, hF.trans j1, j2⟩
        unfold blB at hb
        rw [Bool.or_eq_false_iff] at hb
        rw [if_pos q1, if_neg q3, et, if_neg (of_decide_eq_false hb.1), if_neg q3, if_neg (of_decide_eq_false hb.2)]
        exact j3
  obtain ⟨J, j1, j2, j3⟩ := key (n - p) p (up3 I 4 0 2 (nI p)) (by omega) (Fm.refl.up (by decide)) (u3_eq _ _ _ _ _)
  refine ⟨J, K_X8_advance.e X g I L _ ?_, j2, j3⟩
  rw [h3]
  exact j1
end
