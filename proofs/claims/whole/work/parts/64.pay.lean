/-! fined, brings; what it pays -/
def cnt : Nat → (Nat → Bool) → Nat
  | 0, _ => 0
  | n + 1, p => cnt n p + (if p n = true then 1 else 0)
theorem cnt_le (p : Nat → Bool) : ∀ n, cnt n p ≤ n := by
  intro n
  induction n with
  | zero => exact Nat.le_refl _
  | succ n ih => unfold cnt; split <;> omega
theorem cnt_eq {p q : Nat → Bool} : ∀ {n : Nat}, (∀ k, k < n → p k = q k) → cnt n p = cnt n q := by
  intro n
  induction n with
  | zero => intro _; rfl
  | succ n ih => intro h; unfold cnt; rw [ih (fun k hk => h k (by omega)), h n (by omega)]
theorem cnt_ext {p : Nat → Bool} {n : Nat} : ∀ {N : Nat}, n ≤ N → (∀ k, n ≤ k → p k = false) → cnt N p = cnt n p := by
  intro N
  induction N with
  | zero => intro h _; have : n = 0 := by omega
            subst this; rfl
  | succ N ih =>
    intro h hp
    by_cases e : n = N + 1
    · subst e; rfl
    · show cnt N p + (if p N = true then 1 else 0) = cnt n p
      rw [hp N (by omega), ih (by omega) hp]
      simp only [Bool.false_eq_true, if_false, Nat.add_zero]
section
variable {X : AX} {d : Nat} {I J : A3 Int32} {L : A3 Int64} {w : TW}
theorem m_bits {x : Int32} (hd : 1 ≤ d) : K_X11_bits X d x (I, L, ()) = some (some (aI (nI (cnt 9 (bt x)))), (I, L, ())) := by
  obtain ⟨e, rfl⟩ : ∃ e, d = e + 1 := ⟨d - 1, by omega⟩
  obtain ⟨y, y1, y2⟩ := loop_z (F := fun k (y : Int32) => v_X11_bits_4 X e x y (nI k) (I, L, ())) (P := fun k y => y = nI (cnt k (bt x))) 9 (nI 0) rfl (fun k y hk hy => by
    subst hy
    refine ⟨_, rfl, fun z hz => ?_⟩
    refine v_X11_bits_4.e X e _ _ _ I L z ?_
    simp (disch := omega) only [a_bi_i, a_bv_n, a_bl_l, a_bq_q, l_0, l_1, l_2, l_3, l_4, l_5, l_6, l_7, l_8, l_9, l_10, l_12, l_16, l_20, l_24, l_25, l_31, l_32, l_33, l_40, l_48, l_57, l_60, l_63, l_64, l_78, l_85, l_97, l_99, l_100, l_122, l_255, l_325, l_700, l_999, l_1000, l_1200, l_99999, l_100000, l_1000000, l_2000000000, l_N, n_add, n_mul, n_lt, n_out, n_div, n_dm, n_eq, n_toN, n_inN, n_ltN, n_nltN, n_neN, Nat.not_lt_zero, false_or, or_false, ite_y, ite_n, if_true, if_false, ite_tt, ite_ff, b_0, b_1, eq_self_iff_true, Bool.true_eq_false, Bool.false_eq_true, bt_test]
    unfold cnt at hz
    cases hb : bt x k with
    | true => rw [hb] at hz; simp only [if_true] at hz; rw [b_t, n_add]; exact hz
    | false => rw [hb] at hz; simp only [Bool.false_eq_true, if_false] at hz; rw [b_f, n_add]; exact hz)
  refine K_X11_bits.e X e _ I L _ ?_
  refine y2 _ (v_X11_bits_4.e X e _ _ _ I L _ ?_)
  simp (disch := omega) only [a_bi_i, a_bv_n, a_bl_l, a_bq_q, l_0, l_1, l_2, l_3, l_4, l_5, l_6, l_7, l_8, l_9, l_10, l_12, l_16, l_20, l_24, l_25, l_31, l_32, l_33, l_40, l_48, l_57, l_60, l_63, l_64, l_78, l_85, l_97, l_99, l_100, l_122, l_255, l_325, l_700, l_999, l_1000, l_1200, l_99999, l_100000, l_1000000, l_2000000000, l_N, n_add, n_mul, n_lt, n_out, n_div, n_dm, n_eq, n_toN, n_inN, n_ltN, n_nltN, n_neN, Nat.not_lt_zero, false_or, or_false, ite_y, ite_n, if_true, if_false, ite_tt, ite_ff, b_0, b_1, eq_self_iff_true, Bool.true_eq_false, Bool.false_eq_true, y1]
theorem c_rideAll (h : TC I w) (v : Vw w) (hd : 8 ≤ d) : ∃ J, K_X10_rideAll X d (I, L, ()) = some (none, (J, L, ())) ∧ Sc I J ∧ TC J w ∧ PC J (w 1) (w 5) (psA w) ∧ ∀ r, r < w 6 → RP J r (w 1) (trp w r) ∧ J 17 r 5 = oI (had0 w r) := by
  obtain ⟨e, rfl⟩ : ∃ e, d = e + 1 := ⟨d - 1, by omega⟩
  obtain ⟨⟨h0, h1, h2, h3, h4, h5, h6, -⟩, -⟩ := id v
  obtain ⟨I', f1, f2, f3, f4⟩ := sc_followAll (X := X) (d := e) (L := L) h v (by omega)
  obtain ⟨J, ⟨k1, k2⟩, k3⟩ := loop_z (F := fun r (J : A3 Int32) => v_X10_rideAll_6 X e (nI r) (J, L, ())) (P := fun r J => Fm [17, 18] I' J ∧ ∀ r', r' < r → RP J r' (w 1) (trp w r') ∧ J 17 r' 5 = oI (had0 w r')) (w 6) I' ⟨Fm.refl, fun r hr => by omega⟩ (fun r J hr hP => by
    obtain ⟨p1, p2⟩ := hP
    have tJ : TC J w := f3.fm p1 (by decide) (by decide) (by decide) (by decide) (by decide)
    have pJ : PC J (w 1) (w 5) (psA w) := fun k hk m hm => by rw [p1 14 (by decide)]; exact f4 k hk m hm
    obtain ⟨J', g1, g2, g3, g4, g5⟩ := c_rideOf (X := X) (d := e) (L := L) tJ v pJ hr (by omega)
    refine ⟨J', ⟨p1.trans g2.fm, fun r' hr' => ?_⟩, fun z hz => ?_⟩
    · by_cases er : r' = r
      · subst er; exact ⟨g3, g4⟩
      · obtain ⟨a1, a2⟩ := p2 r' (by omega)
        exact ⟨fun j hj => by rw [g2 18 r' (Or.inr er)]; exact a1 j hj, by rw [g2 17 r' (Or.inr er)]; exact a2⟩
    · refine v_X10_rideAll_6.e X e _ J L z ?_
      simp (disch := omega) only [c_riders tJ v, g1, a_bi_i, a_bv_n, a_bl_l, a_bq_q, l_0, l_1, l_2, l_3, l_4, l_5, l_6, l_7, l_8, l_9, l_10, l_12, l_16, l_20, l_24, l_25, l_31, l_32, l_33, l_40, l_48, l_57, l_60, l_63, l_64, l_78, l_85, l_97, l_99, l_100, l_122, l_255, l_325, l_700, l_999, l_1000, l_1200, l_99999, l_100000, l_1000000, l_2000000000, l_N, n_add, n_mul, n_lt, n_out, n_div, n_dm, n_eq, n_toN, n_inN, n_ltN, n_nltN, n_neN, Nat.not_lt_zero, false_or, or_false, ite_y, ite_n, if_true, if_false, ite_tt, ite_ff, b_0, b_1, eq_self_iff_true, Bool.true_eq_false, Bool.false_eq_true]
      refine v_X10_rideAll_22.e X e _ _ J' L z ?_
      simp (disch := omega) only [a_bi_i, a_bv_n, a_bl_l, a_bq_q, l_0, l_1, l_2, l_3, l_4, l_5, l_6, l_7, l_8, l_9, l_10, l_12, l_16, l_20, l_24, l_25, l_31, l_32, l_33, l_40, l_48, l_57, l_60, l_63, l_64, l_78, l_85, l_97, l_99, l_100, l_122, l_255, l_325, l_700, l_999, l_1000, l_1200, l_99999, l_100000, l_1000000, l_2000000000, l_N, n_add, n_mul, n_lt, n_out, n_div, n_dm, n_eq, n_toN, n_inN, n_ltN, n_nltN, n_neN, Nat.not_lt_zero, false_or, or_false, ite_y, ite_n, if_true, if_false, ite_tt, ite_ff, b_0, b_1, eq_self_iff_true, Bool.true_eq_false, Bool.false_eq_true]
      exact hz)
  have s2 : Sc I' J := Sc.of k1 (by decide)
  have tJ := f3.sc s2
  refine ⟨J, K_X10_rideAll.e X e I L _ ?_, f2.trans s2, tJ, fun k hk m hm => by rw [k1 14 (by decide)]; exact f4 k hk m hm, k2⟩
  simp only [f1, a_bv_n, l_0, l_1, l_2, l_3, l_4, l_5, l_6, l_7, l_8, l_9, l_10, l_12, l_16, l_20, l_24, l_25, l_31, l_32, l_33, l_40, l_48, l_57, l_60, l_63, l_64, l_78, l_85, l_97, l_99, l_100, l_122, l_255, l_325, l_700, l_999, l_1000, l_1200, l_99999, l_100000, l_1000000, l_2000000000, l_N]
  refine k3 _ (v_X10_rideAll_6.e X e _ J L _ ?_)
  simp (disch := omega) only [c_riders tJ v, a_bi_i, a_bv_n, a_bl_l, a_bq_q, l_0, l_1, l_2, l_3, l_4, l_5, l_6, l_7, l_8, l_9, l_10, l_12, l_16, l_20, l_24, l_25, l_31, l_32, l_33, l_40, l_48, l_57, l_60, l_63, l_64, l_78, l_85, l_97, l_99, l_100, l_122, l_255, l_325, l_700, l_999, l_1000, l_1200, l_99999, l_100000, l_1000000, l_2000000000, l_N, n_add, n_mul, n_lt, n_out, n_div, n_dm, n_eq, n_toN, n_inN, n_ltN, n_nltN, n_neN, Nat.not_lt_zero, false_or, or_false, ite_y, ite_n, if_true, if_false, ite_tt, ite_ff, b_0, b_1, eq_self_iff_true, Bool.true_eq_false, Bool.false_eq_true]
/-- fined -/
def fnF (w : TW) (r : Nat) : Bool := decide (w (52 + 5 * r) = 0) && (had0 w r).isSome
theorem oI_none {o : Option Nat} (h : ∀ x, o = some x → x < 1000) : (oI o = nN) ↔ o = none := by
  cases o with
  | none => exact ⟨fun _ => rfl, fun _ => rfl⟩
  | some x =>
    have := h x rfl
    simp only [oI, n_neN (show x < 2147483648 by omega)]
    exact ⟨fun h => h.elim, fun h => by cases h⟩
theorem had_1000 (v : Vw w) (r : Nat) : ∀ x, had0 w r = some x → x < 1000 := fun x hx => by
  obtain ⟨⟨h0, h1, -⟩, -⟩ := id v
  have := had0_lt hx
  omega
theorem m_finedNow {J : A3 Int32} {L2 : A3 Int64} (hJ : TM J w) (v : Vw w) (hd : 9 ≤ d) : ∃ y J', K_X11_finedNow X d (J, L2, ()) = some (some (aI y), (J', L2, ())) ∧ Sm J J' ∧ TM J' w ∧ ∀ c, bt y c = (decide (c < w 6) && fnF w c) := by
  obtain ⟨e, rfl⟩ : ∃ e, d = e + 1 := ⟨d - 1, by omega⟩
  obtain ⟨⟨h0, h1, h2, h3, h4, h5, h6, -⟩, -, vc, vi, vr, -⟩ := id v
  obtain ⟨⟨y, J'⟩, ⟨y1, y2, y3⟩, y4⟩ := loop_z (F := fun r (s : Int32 × A3 Int32) => v_X11_finedNow_4 X e s.1 (nI r) (s.2, L2, ())) (P := fun r s => (∀ c, bt s.1 c = (decide (c < r) && fnF w c)) ∧ Sm J s.2 ∧ TM s.2 w) (w 6) (nI 0, J) ⟨fun c => by rw [bt_0]; simp, Sm.refl, hJ⟩ (fun r s hr hP => by
    obtain ⟨x, K⟩ := s
    obtain ⟨p1, p2, p3⟩ := hP
    simp only at p1 p2 p3
    have hvr := vr r hr
    have hor0 : x ||| nI 0 = x := bt_ext fun k _ => by rw [bt_or, bt_0]; simp
    by_cases q5 : w (52 + 5 * r) = 0
    · obtain ⟨K', k1, k2, k3, -⟩ := m_hadOf (X := X) (d := e) (L := L2) p3 v hr (by omega)
      by_cases q6 : had0 w r = none
      · refine ⟨(x, K'), ⟨fun c => ?_, p2.trans k2, k3⟩, fun z hz => ?_⟩
        · simp only
          rw [p1 c]
          by_cases e : c = r
          · subst e; simp [fnF, q6]
          · have e1 : (c < r + 1) ↔ c < r := by omega
            simp [e1]
        · refine v_X11_finedNow_4.e X e _ _ K L2 z ?_
          rw [p3 6 (by decide)]
          simp (disch := omega) only [m_or4 p3 v, q5, k1, q6, oI, a_bi_i, a_bv_n, a_bl_l, a_bq_q, l_0, l_1, l_2, l_3, l_4, l_5, l_6, l_7, l_8, l_9, l_10, l_12, l_16, l_20, l_24, l_25, l_31, l_32, l_33, l_40, l_48, l_57, l_60, l_63, l_64, l_78, l_85, l_97, l_99, l_100, l_122, l_255, l_325, l_700, l_999, l_1000, l_1200, l_99999, l_100000, l_1000000, l_2000000000, l_N, n_add, n_mul, n_lt, n_out, n_div, n_dm, n_eq, n_toN, n_inN, n_ltN, n_nltN, n_neN, Nat.not_lt_zero, false_or, or_false, ite_y, ite_n, if_true, if_false, ite_tt, ite_ff, b_0, b_1, eq_self_iff_true, Bool.true_eq_false, Bool.false_eq_true, hor0]
          exact hz
      · refine ⟨(x ||| (nI 1 <<< (nI r &&& nI 31)), K'), ⟨fun c => ?_, p2.trans k2, k3⟩, fun z hz => ?_⟩
        · simp only
          rw [bt_or, p1 c, bt_one (by omega)]
          by_cases e : c = r
          · subst e
            have : (had0 w c).isSome = true := by cases hq : had0 w c with
              | none => exact absurd hq q6
              | some m => rfl
            simp [fnF, q5, this]
          · have e1 : (c < r + 1) ↔ c < r := by omega
            simp [e, e1]
        · refine v_X11_finedNow_4.e X e _ _ K L2 z ?_
          rw [p3 6 (by decide)]
          simp (disch := omega) only [m_or4 p3 v, q5, k1, oI_none (had_1000 v r), q6, a_bi_i, a_bv_n, a_bl_l, a_bq_q, l_0, l_1, l_2, l_3, l_4, l_5, l_6, l_7, l_8, l_9, l_10, l_12, l_16, l_20, l_24, l_25, l_31, l_32, l_33, l_40, l_48, l_57, l_60, l_63, l_64, l_78, l_85, l_97, l_99, l_100, l_122, l_255, l_325, l_700, l_999, l_1000, l_1200, l_99999, l_100000, l_1000000, l_2000000000, l_N, n_add, n_mul, n_lt, n_out, n_div, n_dm, n_eq, n_toN, n_inN, n_ltN, n_nltN, n_neN, Nat.not_lt_zero, false_or, or_false, ite_y, ite_n, if_true, if_false, ite_tt, ite_ff, b_0, b_1, eq_self_iff_true, Bool.true_eq_false, Bool.false_eq_true]
          exact hz
    · refine ⟨(x, K), ⟨fun c => ?_, p2, p3⟩, fun z hz => ?_⟩
      · simp only
        rw [p1 c]
        by_cases e : c = r
        · subst e; simp [fnF, q5]
        · have e1 : (c < r + 1) ↔ c < r := by omega
          simp [e1]
      · refine v_X11_finedNow_4.e X e _ _ K L2 z ?_
        rw [p3 6 (by decide)]
        simp (disch := omega) only [m_or4 p3 v, q5, a_bi_i, a_bv_n, a_bl_l, a_bq_q, l_0, l_1, l_2, l_3, l_4, l_5, l_6, l_7, l_8, l_9, l_10, l_12, l_16, l_20, l_24, l_25, l_31, l_32, l_33, l_40, l_48, l_57, l_60, l_63, l_64, l_78, l_85, l_97, l_99, l_100, l_122, l_255, l_325, l_700, l_999, l_1000, l_1200, l_99999, l_100000, l_1000000, l_2000000000, l_N, n_add, n_mul, n_lt, n_out, n_div, n_dm, n_eq, n_toN, n_inN, n_ltN, n_nltN, n_neN, Nat.not_lt_zero, false_or, or_false, ite_y, ite_n, if_true, if_false, ite_tt, ite_ff, b_0, b_1, eq_self_iff_true, Bool.true_eq_false, Bool.false_eq_true, hor0]
        exact hz)
  simp only at y1 y2 y3 y4
  refine ⟨y, J', K_X11_finedNow.e X e J L2 _ ?_, y2, y3, y1⟩
  refine y4 _ (v_X11_finedNow_4.e X e _ _ J' L2 _ ?_)
  rw [y3 6 (by decide)]
  simp (disch := omega) only [a_bi_i, a_bv_n, a_bl_l, a_bq_q, l_0, l_1, l_2, l_3, l_4, l_5, l_6, l_7, l_8, l_9, l_10, l_12, l_16, l_20, l_24, l_25, l_31, l_32, l_33, l_40, l_48, l_57, l_60, l_63, l_64, l_78, l_85, l_97, l_99, l_100, l_122, l_255, l_325, l_700, l_999, l_1000, l_1200, l_99999, l_100000, l_1000000, l_2000000000, l_N, n_add, n_mul, n_lt, n_out, n_div, n_dm, n_eq, n_toN, n_inN, n_ltN, n_nltN, n_neN, Nat.not_lt_zero, false_or, or_false, ite_y, ite_n, if_true, if_false, ite_tt, ite_ff, b_0, b_1, eq_self_iff_true, Bool.true_eq_false, Bool.false_eq_true]
theorem q_fined (h : TC I w) (v : Vw w) : Both w (K_X10_fined X 15) (K_X11_fined X 15) I L := by
  obtain ⟨⟨h0, h1, h2, h3, h4, h5, h6, -⟩, -, vc, vi, vr, -⟩ := id v
  by_cases ha : 0 < w 7
  · obtain ⟨I', f1, f2, f3, f4, f5⟩ := c_rideAll (X := X) (d := 14) (L := L) h v (by omega)
    obtain ⟨x, x1, x2⟩ := loop_z (F := fun r (x : Int32) => v_X10_fined_21 X 14 x (nI r) (I', L, ())) (P := fun r x => ∀ c, bt x c = (decide (c < r) && fnF w c)) (w 6) (nI 0) (fun c => by rw [bt_0]; simp) (fun r x hr hP => by
      have hvr := vr r hr
      have hh := (f5 r hr).2
      cases hf : fnF w r with
      | true =>
        refine ⟨x ||| (nI 1 <<< (nI r &&& nI 31)), fun c => ?_, fun z hz => ?_⟩
        · rw [bt_or, hP c, bt_one (by omega)]
          by_cases e : c = r
          · subst e; simp [hf]
          · have e1 : (c < r + 1) ↔ c < r := by omega
            simp [e, e1]
        · refine v_X10_fined_21.e X 14 _ _ I' L z ?_
          obtain ⟨q1, q2⟩ := Bool.and_eq_true_iff.mp hf
          have q1 := of_decide_eq_true q1
          have q3 : ¬ had0 w r = none := fun q => by rw [q] at q2; cases q2
          have q4 : ¬ w (52 + 5 * r) = 1 := by omega
          simp (disch := omega) only [c_riders f3 v, c_hasTicket f3 v, q4, decide_false, hh, oI_none (had_1000 v r), q3, a_bi_i, a_bv_n, a_bl_l, a_bq_q, l_0, l_1, l_2, l_3, l_4, l_5, l_6, l_7, l_8, l_9, l_10, l_12, l_16, l_20, l_24, l_25, l_31, l_32, l_33, l_40, l_48, l_57, l_60, l_63, l_64, l_78, l_85, l_97, l_99, l_100, l_122, l_255, l_325, l_700, l_999, l_1000, l_1200, l_99999, l_100000, l_1000000, l_2000000000, l_N, n_add, n_mul, n_lt, n_out, n_div, n_dm, n_eq, n_toN, n_inN, n_ltN, n_nltN, n_neN, Nat.not_lt_zero, false_or, or_false, ite_y, ite_n, if_true, if_false, ite_tt, ite_ff, b_0, b_1, eq_self_iff_true, Bool.true_eq_false, Bool.false_eq_true]
          exact hz
      | false =>
        refine ⟨x, fun c => ?_, fun z hz => ?_⟩
        · rw [hP c]
          by_cases e : c = r
          · subst e; simp [hf]
          · have e1 : (c < r + 1) ↔ c < r := by omega
            simp [e1]
        · refine v_X10_fined_21.e X 14 _ _ I' L z ?_
          simp (disch := omega) only [c_riders f3 v, c_hasTicket f3 v, hh, oI_none (had_1000 v r), a_bi_i, a_bv_n, a_bl_l, a_bq_q, l_0, l_1, l_2, l_3, l_4, l_5, l_6, l_7, l_8, l_9, l_10, l_12, l_16, l_20, l_24, l_25, l_31, l_32, l_33, l_40, l_48, l_57, l_60, l_63, l_64, l_78, l_85, l_97, l_99, l_100, l_122, l_255, l_325, l_700, l_999, l_1000, l_1200, l_99999, l_100000, l_1000000, l_2000000000, l_N, n_add, n_mul, n_lt, n_out, n_div, n_dm, n_eq, n_toN, n_inN, n_ltN, n_nltN, n_neN, Nat.not_lt_zero, false_or, or_false, ite_y, ite_n, if_true, if_false, ite_tt, ite_ff, b_0, b_1, eq_self_iff_true, Bool.true_eq_false, Bool.false_eq_true]
          by_cases q4 : w (52 + 5 * r) = 1
          · simp only [q4, decide_true, Bool.true_eq_false, if_false]; exact hz
          · have q5 : w (52 + 5 * r) = 0 := by omega
            have q6 : had0 w r = none := by
              unfold fnF at hf
              rw [decide_eq_true q5, Bool.true_and] at hf
              cases hq : had0 w r with
              | none => rfl
              | some m => rw [hq] at hf; cases hf
            simp only [q4, decide_false, if_true, q6]; exact hz)
    refine Both.mk x I' (K_X10_fined.e X 14 I L _ ?_) f2 (fun J L2 hJ => ?_)
    · simp (disch := omega) only [c_stands h v, ha, decide_true, f1, a_bi_i, a_bv_n, a_bl_l, a_bq_q, l_0, l_1, l_2, l_3, l_4, l_5, l_6, l_7, l_8, l_9, l_10, l_12, l_16, l_20, l_24, l_25, l_31, l_32, l_33, l_40, l_48, l_57, l_60, l_63, l_64, l_78, l_85, l_97, l_99, l_100, l_122, l_255, l_325, l_700, l_999, l_1000, l_1200, l_99999, l_100000, l_1000000, l_2000000000, l_N, n_add, n_mul, n_lt, n_out, n_div, n_dm, n_eq, n_toN, n_inN, n_ltN, n_nltN, n_neN, Nat.not_lt_zero, false_or, or_false, ite_y, ite_n, if_true, if_false, ite_tt, ite_ff, b_0, b_1, eq_self_iff_true, Bool.true_eq_false, Bool.false_eq_true]
      refine x2 _ (v_X10_fined_21.e X 14 _ _ I' L _ ?_)
      simp (disch := omega) only [c_riders f3 v, a_bi_i, a_bv_n, a_bl_l, a_bq_q, l_0, l_1, l_2, l_3, l_4, l_5, l_6, l_7, l_8, l_9, l_10, l_12, l_16, l_20, l_24, l_25, l_31, l_32, l_33, l_40, l_48, l_57, l_60, l_63, l_64, l_78, l_85, l_97, l_99, l_100, l_122, l_255, l_325, l_700, l_999, l_1000, l_1200, l_99999, l_100000, l_1000000, l_2000000000, l_N, n_add, n_mul, n_lt, n_out, n_div, n_dm, n_eq, n_toN, n_inN, n_ltN, n_nltN, n_neN, Nat.not_lt_zero, false_or, or_false, ite_y, ite_n, if_true, if_false, ite_tt, ite_ff, b_0, b_1, eq_self_iff_true, Bool.true_eq_false, Bool.false_eq_true]
    · obtain ⟨y, J', g1, g2, -, g3⟩ := m_finedNow (X := X) (d := 14) (L2 := L2) hJ v (by omega)
      refine ⟨J', K_X11_fined.e X 14 J L2 _ ?_, g2⟩
      simp (disch := omega) only [m_isTrain hJ v, ha, decide_true, g1, a_bi_i, a_bv_n, a_bl_l, a_bq_q, l_0, l_1, l_2, l_3, l_4, l_5, l_6, l_7, l_8, l_9, l_10, l_12, l_16, l_20, l_24, l_25, l_31, l_32, l_33, l_40, l_48, l_57, l_60, l_63, l_64, l_78, l_85, l_97, l_99, l_100, l_122, l_255, l_325, l_700, l_999, l_1000, l_1200, l_99999, l_100000, l_1000000, l_2000000000, l_N, n_add, n_mul, n_lt, n_out, n_div, n_dm, n_eq, n_toN, n_inN, n_ltN, n_nltN, n_neN, Nat.not_lt_zero, false_or, or_false, ite_y, ite_n, if_true, if_false, ite_tt, ite_ff, b_0, b_1, eq_self_iff_true, Bool.true_eq_false, Bool.false_eq_true]
      rw [bt_ext (fun k _ => (g3 k).trans (x1 k).symm)]
  · refine Both.pure (-2) (K_X10_fined.e X 14 I L _ ?_) (fun J L2 h => K_X11_fined.e X 14 J L2 _ ?_)
    · simp (disch := omega) only [c_stands h v, ha, decide_false, a_bi_i, a_bv_n, a_bl_l, a_bq_q, l_0, l_1, l_2, l_3, l_4, l_5, l_6, l_7, l_8, l_9, l_10, l_12, l_16, l_20, l_24, l_25, l_31, l_32, l_33, l_40, l_48, l_57, l_60, l_63, l_64, l_78, l_85, l_97, l_99, l_100, l_122, l_255, l_325, l_700, l_999, l_1000, l_1200, l_99999, l_100000, l_1000000, l_2000000000, l_N, n_add, n_mul, n_lt, n_out, n_div, n_dm, n_eq, n_toN, n_inN, n_ltN, n_nltN, n_neN, Nat.not_lt_zero, false_or, or_false, ite_y, ite_n, if_true, if_false, ite_tt, ite_ff, b_0, b_1, eq_self_iff_true, Bool.true_eq_false, Bool.false_eq_true]
    · simp (disch := omega) only [m_isTrain h v, ha, decide_false, a_bi_i, a_bv_n, a_bl_l, a_bq_q, l_0, l_1, l_2, l_3, l_4, l_5, l_6, l_7, l_8, l_9, l_10, l_12, l_16, l_20, l_24, l_25, l_31, l_32, l_33, l_40, l_48, l_57, l_60, l_63, l_64, l_78, l_85, l_97, l_99, l_100, l_122, l_255, l_325, l_700, l_999, l_1000, l_1200, l_99999, l_100000, l_1000000, l_2000000000, l_N, n_add, n_mul, n_lt, n_out, n_div, n_dm, n_eq, n_toN, n_inN, n_ltN, n_nltN, n_neN, Nat.not_lt_zero, false_or, or_false, ite_y, ite_n, if_true, if_false, ite_tt, ite_ff, b_0, b_1, eq_self_iff_true, Bool.true_eq_false, Bool.false_eq_true]
end
