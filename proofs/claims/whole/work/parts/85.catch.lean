/-! one row of begins: does it leave nobody -/
section
variable {X : AX} {d : Nat} {I J : A3 Int32} {L : A3 Int64} {w : TW}
def cAl (w : TW) (n : Nat) (r : Nat → Nat) : Bool := !(exb 8 (fun c => canF w n (psR w r) (knB w) (loB w) (doB w) 0 (c, false)))
theorem x_cAl {n : Nat} {r : Nat → Nat} {x : Int32} (h8 : w 0 ≤ 8) (hx : ∀ c, bt x c = canF w n (psR w r) (knB w) (loB w) (doB w) 0 (c, false)) : x = nI 0 ↔ cAl w n r = true := by
  unfold cAl
  rw [bt_eq0, Bool.not_eq_true', exb_no]
  constructor
  · intro h i hi; rw [← hx]; exact h i (by omega)
  · intro h k hk
    rw [hx]
    by_cases e : k < 8
    · exact h k e
    · exact can_8 h8 (by omega)
theorem c_try {q n : Nat} {r : Nat → Nat} (h : TC I w) (v : Vw w) (hT : 0 < w 1) (hf : CF I q (w 1) (w 0) (loB w) (doB w)) (hC : CA I q (w 1) n (psR w r) (knB w)) (hd : 2 ≤ d) : ∃ J x, K_X0_solve X d q (I, L, ()) = some (some (aI x), (J, L, ())) ∧ Rw 25 q I J ∧ (x = nI 0 ↔ cAl w n r = true) := by
  obtain ⟨J, x, g1, g2, g3, g4⟩ := c_solve (X := X) (d := d) (L := L) (q := q) h v hf (fun c hc => loB_lt hc) (fun c hc => doB_lt hc) hC hT hd
  exact ⟨J, x, g1, g2, x_cAl v.1.1 g4⟩
theorem psR_lt (v : Vw w) (h5 : 0 < w 5) {n : Nat} {r : Nat → Nat} (hr : ∀ k, k < n → r k < 2 * w 0) : ∀ k, k < n → ∀ m x, psR w r k m = some x → x < 8 := fun k hk m x hx => by
  have := crs_lt v h5 (hr k hk) hx
  have := v.1.1
  omega
theorem m_catchesAll {n : Nat} {r : Nat → Nat} (h : TM I w) (v : Vw w) (h5 : 0 < w 5) (hn : n ≤ 3) (hr : ∀ k, k < n → r k < 2 * w 0) (hQ : QM I (loB w) (doB w)) (h26 : I 40 0 26 = nI n) (h54 : ∀ k, k < n → I 54 0 k = nI (r k)) (hd : 7 ≤ d) : ∃ J, K_X11_catchesAll X d (I, L, ()) = some (some (aI (bI (cAl w n r))), (J, L, ())) ∧ Fm [40, 47, 48, 49, 50, 51] I J ∧ ∀ j, j ≠ 17 → J 40 0 j = I 40 0 j := by
  obtain ⟨e, rfl⟩ : ∃ e, d = e + 1 := ⟨d - 1, by omega⟩
  obtain ⟨⟨w0, w1, -⟩, -, vc, vi, -⟩ := id v
  have hT : 0 < w 1 := (v.live (Or.inr (Or.inr (Or.inl h5)))).2.2.1
  generalize hI1 : up3 I 40 0 17 (nI n) = I1
  have f1 : Fm [40] I I1 := by rw [← hI1]; exact Fm.refl.up (by decide)
  have e40 : ∀ j, j ≠ 17 → I1 40 0 j = I 40 0 j := fun j hj => by rw [← hI1, u3_j _ _ hj]
  obtain ⟨J, ⟨g1, g2, g3⟩, g4⟩ := loop_z (F := fun k (K : A3 Int32) => v_X11_catchesAll_10 X e (nI k) (K, L, ())) (P := fun k K => Fm [47, 48] I1 K ∧ (∀ j, j < k → ∀ m, m < w 1 → K 47 0 (40 * j + m) = oI (psR w r j m)) ∧ ∀ j, j < k → K 48 0 j = nI (knB w j)) n I1 ⟨Fm.refl, fun j hj => absurd hj (by omega), fun j hj => absurd hj (by omega)⟩ (fun k K hk hP => by
    obtain ⟨p1, p2, p3⟩ := hP
    have tK : TM K w := (h.fm f1 (by decide)).fm p1 (by decide)
    have c26 : K 40 0 26 = nI n := by rw [p1 40 (by decide), e40 26 (by decide)]; exact h26
    have c54 : K 54 0 k = nI (r k) := by rw [p1 54 (by decide), f1 54 (by decide)]; exact h54 k hk
    obtain ⟨K2, q1, q2, q3, q4, q5, q6⟩ := m_lay (X := X) (d := e) (L := L) (i := 0) (b := r k) (k := k) tK v h5 (hr k hk) (by omega) (by omega)
    refine ⟨K2, ⟨p1.trans q2, fun j hj m hm => ?_, fun j hj => ?_⟩, fun s hs => ?_⟩
    · by_cases ej : j = k
      · subst ej; exact q3 m hm
      · rw [q4 _ (by omega)]; exact p2 j (by omega) m hm
    · by_cases ej : j = k
      · subst ej; exact q5
      · rw [q6 j ej]; exact p3 j (by omega)
    · refine v_X11_catchesAll_10.e X e _ K L s ?_
      have hrk := hr k hk
      simp (disch := omega) only [a_bi_i, a_bv_n, a_bl_l, a_bq_q, l_0, l_1, l_2, l_3, l_4, l_5, l_6, l_7, l_8, l_9, l_10, l_12, l_16, l_20, l_24, l_25, l_31, l_32, l_33, l_40, l_48, l_57, l_60, l_63, l_64, l_78, l_85, l_97, l_99, l_100, l_122, l_255, l_325, l_700, l_999, l_1000, l_1200, l_99999, l_100000, l_1000000, l_2000000000, l_N, n_add, n_mul, n_lt, n_out, n_div, n_dm, n_eq, n_toN, n_inN, n_ltN, n_nltN, n_neN, Nat.not_lt_zero, false_or, or_false, ite_y, ite_n, if_true, if_false, ite_tt, ite_ff, b_0, b_1, eq_self_iff_true, Bool.true_eq_false, Bool.false_eq_true, c26, c54, q1]
      exact hs)
  have tJ : TM J w := (h.fm f1 (by decide)).fm g1 (by decide)
  have c26 : J 40 0 26 = nI n := by rw [g1 40 (by decide), e40 26 (by decide)]; exact h26
  have qJ : QM J (loB w) (doB w) := by unfold QM; rw [g1 40 (by decide), e40 18 (by decide), e40 19 (by decide)]; exact hQ
  have pJ : PM J (w 1) n (psR w r) (knB w) := ⟨by rw [g1 40 (by decide), ← hI1, u3_eq], g2, g3⟩
  have h36 := (vi 0 h5).2.2.2.1
  obtain ⟨J4, o1, o2, o3⟩ := m_fillPlaces (X := X) (d := e) (L := L) tJ v qJ pJ hn (psR_lt v h5 hr) (fun k _ => h36) hT (by omega)
  obtain ⟨x, x1, x2⟩ := m_safeNow (X := X) (d := e) (L := L) (tJ.fm o2 (by decide)) v o3 hT (by omega)
  have hx := x_cAl w0 x2
  refine ⟨J4, K_X11_catchesAll.e X e I L _ ?_, ((f1.mono (by decide)).trans (g1.mono (by decide))).trans (o2.mono (by decide)), fun j hj => by rw [o2 40 (by decide), g1 40 (by decide)]; exact e40 j hj⟩
  rw [h26, hI1]
  refine g4 _ (v_X11_catchesAll_10.e X e _ J L _ ?_)
  simp (disch := omega) only [a_bi_i, a_bv_n, a_bl_l, a_bq_q, l_0, l_1, l_2, l_3, l_4, l_5, l_6, l_7, l_8, l_9, l_10, l_12, l_16, l_20, l_24, l_25, l_31, l_32, l_33, l_40, l_48, l_57, l_60, l_63, l_64, l_78, l_85, l_97, l_99, l_100, l_122, l_255, l_325, l_700, l_999, l_1000, l_1200, l_99999, l_100000, l_1000000, l_2000000000, l_N, n_add, n_mul, n_lt, n_out, n_div, n_dm, n_eq, n_toN, n_inN, n_ltN, n_nltN, n_neN, Nat.not_lt_zero, false_or, or_false, ite_y, ite_n, if_true, if_false, ite_tt, ite_ff, b_0, b_1, eq_self_iff_true, Bool.true_eq_false, Bool.false_eq_true, c26, Nat.lt_irrefl, o1, x1]
  cases hc : cAl w n r with
  | true => exact (if_pos (hx.mpr hc)).trans rfl
  | false => exact (if_neg (fun q => by rw [hx.mp q] at hc; cases hc)).trans rfl
end
