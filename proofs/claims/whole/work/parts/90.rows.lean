/-! the class lays the rows of one begin each -/
section
variable {X : AX} {d : Nat} {I J : A3 Int32} {L : A3 Int64} {w : TW}
theorem c_rows (h : TC I w) (v : Vw w) (h5 : 0 < w 5) (h28 : I 28 0 5 = nI (2 * w 0)) (h14 : ∀ b, b < 2 * w 0 → ∀ m, m < w 1 → I 14 (b + 3) m = oI (crs w 0 b m)) (hd : 4 ≤ d) : ∃ J, HR J w ∧ Fm [20, 21, 22, 23, 24] I J ∧ OLe (v_X3_seek_36 X d (bI (decide (0 < w 36))) (nI (2 * w 0)) (J, L, ())) (v_X3_seek_36 X d (bI (decide (0 < w 36))) (nI 0) (I, L, ())) := by
  obtain ⟨⟨w0, w1, -⟩, -⟩ := id v
  obtain ⟨J, ⟨g1, g2⟩, g3⟩ := loop_z (F := fun b (K : A3 Int32) => v_X3_seek_36 X d (bI (decide (0 < w 36))) (nI b) (K, L, ())) (P := fun b K => Fm [20, 21, 22, 23, 24] I K ∧ ∀ b', b' < b → CF K (b' + 3) (w 1) (w 0) (loB w) (doB w) ∧ CA K (b' + 3) (w 1) 1 (psB w b') (knB w)) (2 * w 0) I ⟨Fm.refl, fun b hb => absurd hb (by omega)⟩ (fun b K hb hP => by
    obtain ⟨p1, p2⟩ := hP
    have tK : TC K w := h.sc (Sc.of p1 (by decide))
    obtain ⟨K1, r1, r2, r3, r4⟩ := c_restart (X := X) (d := d) (L := L) (q := b + 3) tK v hd
    have hrow : ∀ m, m < w 1 → K1 14 (b + 3) m = oI (psB w b 0 m) := fun m hm => by rw [r2 14 (b + 3) (Or.inl (by decide)), p1 14 (by decide)]; exact h14 b hb m hm
    obtain ⟨K2, k1, k2⟩ := c_add (X := X) (d := d) (L := L) (q := b + 3) (a := b + 3) (kb := decide (0 < w 36)) (p := psB w b 0) w1 r3.1 (fun m x hx => psB_lt v h5 hb 0 (by decide) m x hx) hrow (by omega)
    have c3 : CA K2 (b + 3) (w 1) 1 (psB w b) (knB w) := (CA.zero (ps := psB w b) (kn := knB w) r4 w1).succ rfl k2
    have R : Rq [20, 21, 22, 23, 24] (b + 3) K K2 := r2.trans (k2.1.mono (by decide))
    refine ⟨K2, ⟨p1.trans R.fm, fun b' hb' => ?_⟩, fun r hr => ?_⟩
    · by_cases e : b' = b
      · subst e
        refine ⟨?_, c3⟩
        unfold CF; rw [k2.1 20 (b' + 3) (Or.inl (by decide))]; exact r3
      · have e2 : ∀ f, K2 f (b' + 3) = K f (b' + 3) := fun f => R f (b' + 3) (Or.inr (by omega))
        unfold CF CA CG
        rw [e2 20, e2 21, e2 22, e2 23, e2 24]
        exact p2 b' (by omega)
    · refine v_X3_seek_36.e X d _ _ K L r ?_
      rw [show K 28 0 5 = nI (2 * w 0) by rw [p1 28 (by decide)]; exact h28]
      simp (disch := omega) only [a_bi_i, a_bv_n, a_bl_l, a_bq_q, l_0, l_1, l_2, l_3, l_4, l_5, l_6, l_7, l_8, l_9, l_10, l_12, l_16, l_20, l_24, l_25, l_31, l_32, l_33, l_40, l_48, l_57, l_60, l_63, l_64, l_78, l_85, l_97, l_99, l_100, l_122, l_255, l_325, l_700, l_999, l_1000, l_1200, l_99999, l_100000, l_1000000, l_2000000000, l_N, n_add, n_mul, n_lt, n_out, n_div, n_dm, n_eq, n_toN, n_inN, n_ltN, n_nltN, n_neN, Nat.not_lt_zero, false_or, or_false, ite_y, ite_n, if_true, if_false, ite_tt, ite_ff, b_0, b_1, eq_self_iff_true, Bool.true_eq_false, Bool.false_eq_true, r1, k1]
      exact hr)
  exact ⟨J, ⟨by rw [g1 28 (by decide)]; exact h28, g2⟩, g1, g3⟩
end
