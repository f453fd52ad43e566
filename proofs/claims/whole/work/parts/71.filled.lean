/-! the reference: all minutes filled -/
section
variable {X : AX} {d : Nat} {I J : A3 Int32} {L : A3 Int64} {w : TW} {N : Nat} {ps : Nat → Nat → Option Nat} {kn : Nat → Nat} {lo dr : Nat → Bool}
def plN (t : Nat) : Pl := (t / 2, decide (t % 2 = 1))
theorem rm_pl (t : Nat) : rmP (plN t) = t := by
  unfold rmP plN
  by_cases h : t % 2 = 1
  · simp only [h, decide_true, if_true]; omega
  · simp only [h, decide_false, Bool.false_eq_true, if_false]; omega
theorem Ck.fm {k : Nat} (h : Ck k I J) : Fm [49, 50, 51] I J := h.1
theorem fp_end {m p k : Nat} {l4 l5 : Nat} (h4 : l4 ≤ 1) (h5 : l5 ≤ 1) (hx : l4 = 1 ∨ l5 = 1) {r : Option AV × AS Unit} (hr : v_X11_fillPlaces_289 X d (nI m) (nI p) (J, L, ()) = some r) : v_X11_fillPlaces_150 X d (nI m) (nI p) (nI k) (nI l4) (nI l5) (nI 0) (J, L, ()) = some r := by
  refine v_X11_fillPlaces_150.e X d _ _ _ _ _ _ J L r ?_
  rcases (show l5 = 1 ∨ (l5 = 0 ∧ l4 = 1) by omega) with rfl | ⟨rfl, rfl⟩
  · simp (disch := omega) only [a_bi_i, a_bv_n, a_bl_l, a_bq_q, l_0, l_1, l_2, l_3, l_4, l_5, l_6, l_7, l_8, l_9, l_10, l_12, l_16, l_20, l_24, l_25, l_31, l_32, l_33, l_40, l_48, l_57, l_60, l_63, l_64, l_78, l_85, l_97, l_99, l_100, l_122, l_255, l_325, l_700, l_999, l_1000, l_1200, l_99999, l_100000, l_1000000, l_2000000000, l_N, n_add, n_mul, n_lt, n_out, n_div, n_dm, n_eq, n_toN, n_inN, n_ltN, n_nltN, n_neN, Nat.not_lt_zero, false_or, or_false, ite_y, ite_n, if_true, if_false, ite_tt, ite_ff, b_0, b_1, eq_self_iff_true, Bool.true_eq_false, Bool.false_eq_true]
    exact hr
  · simp (disch := omega) only [a_bi_i, a_bv_n, a_bl_l, a_bq_q, l_0, l_1, l_2, l_3, l_4, l_5, l_6, l_7, l_8, l_9, l_10, l_12, l_16, l_20, l_24, l_25, l_31, l_32, l_33, l_40, l_48, l_57, l_60, l_63, l_64, l_78, l_85, l_97, l_99, l_100, l_122, l_255, l_325, l_700, l_999, l_1000, l_1200, l_99999, l_100000, l_1000000, l_2000000000, l_N, n_add, n_mul, n_lt, n_out, n_div, n_dm, n_eq, n_toN, n_inN, n_ltN, n_nltN, n_neN, Nat.not_lt_zero, false_or, or_false, ite_y, ite_n, if_true, if_false, ite_tt, ite_ff, b_0, b_1, eq_self_iff_true, Bool.true_eq_false, Bool.false_eq_true]
    exact hr
theorem fp_no {m p k l4 : Nat} (hk : k < 640) (h4 : l4 ≤ 1) {r : Option AV × AS Unit} (hr : v_X11_fillPlaces_289 X d (nI m) (nI p) (set3 J k (false, 1000000, m), L, ()) = some r) : v_X11_fillPlaces_67 X d (nI m) (nI p) (nI k) (nI l4) (J, L, ()) = some r := by
  refine v_X11_fillPlaces_67.e X d _ _ _ _ J L r ?_
  simp (disch := omega) only [a_bi_i, a_bv_n, a_bl_l, a_bq_q, l_0, l_1, l_2, l_3, l_4, l_5, l_6, l_7, l_8, l_9, l_10, l_12, l_16, l_20, l_24, l_25, l_31, l_32, l_33, l_40, l_48, l_57, l_60, l_63, l_64, l_78, l_85, l_97, l_99, l_100, l_122, l_255, l_325, l_700, l_999, l_1000, l_1200, l_99999, l_100000, l_1000000, l_2000000000, l_N, n_add, n_mul, n_lt, n_out, n_div, n_dm, n_eq, n_toN, n_inN, n_ltN, n_nltN, n_neN, Nat.not_lt_zero, false_or, or_false, ite_y, ite_n, if_true, if_false, ite_tt, ite_ff, b_0, b_1, eq_self_iff_true, Bool.true_eq_false, Bool.false_eq_true, u3_eq]
  exact fp_end h4 (Nat.le_refl 1) (Or.inr rfl) hr
/-- one place of one minute -/
theorem fp_place {j m t k : Nat} (h : TM J w) (v : Vw w) (hQ : QM J lo dr) (hP : PM J (w 1) N ps kn) (hn : N ≤ 3) (hps : ∀ k, k < N → ∀ m x, ps k m = some x → x < 8) (hkn : ∀ k, k < N → kn k ≤ 100) (ht : t < 2 * w 0) (hm : m = w 1 - 1 - j) (hj : j < w 1) (hk : k = 16 * m + t) (hF : 0 < j → FPm J w N ps kn lo dr (j - 1)) (hd : 4 ≤ d) : ∃ J', Ck k J J' ∧ is3 J' k (fil w N ps kn lo dr j (plN t)) ∧ OLe (v_X11_fillPlaces_13 X d (nI m) (nI (t + 1)) (J', L, ())) (v_X11_fillPlaces_13 X d (nI m) (nI t) (J, L, ())) := by
  obtain ⟨⟨w0, w1, -⟩, -⟩ := id v
  have hp : (plN t).1 < w 0 := by show t / 2 < w 0; omega
  have hk6 : k < 640 := by omega
  have hpl := m_isPlace (X := X) (d := d) (L := L) (p := plN t) h v hQ (by omega) (by omega)
  have hin := m_hasIn (X := X) (d := d) (L := L) (p := plN t) hP (show m < w 1 by omega) hn w1 hps hkn (by omega) (by omega)
  rw [rm_pl] at hpl hin
  have nx : ∀ {J' : A3 Int32} {r}, v_X11_fillPlaces_13 X d (nI m) (nI (t + 1)) (J', L, ()) = some r → v_X11_fillPlaces_289 X d (nI m) (nI t) (J', L, ()) = some r := fun {J' r} hr => by
    refine v_X11_fillPlaces_289.e X d _ _ J' L r ?_
    simp (disch := omega) only [a_bi_i, a_bv_n, a_bl_l, a_bq_q, l_0, l_1, l_2, l_3, l_4, l_5, l_6, l_7, l_8, l_9, l_10, l_12, l_16, l_20, l_24, l_25, l_31, l_32, l_33, l_40, l_48, l_57, l_60, l_63, l_64, l_78, l_85, l_97, l_99, l_100, l_122, l_255, l_325, l_700, l_999, l_1000, l_1200, l_99999, l_100000, l_1000000, l_2000000000, l_N, n_add, n_mul, n_lt, n_out, n_div, n_dm, n_eq, n_toN, n_inN, n_ltN, n_nltN, n_neN, Nat.not_lt_zero, false_or, or_false, ite_y, ite_n, if_true, if_false, ite_tt, ite_ff, b_0, b_1, eq_self_iff_true, Bool.true_eq_false, Bool.false_eq_true]
    exact hr
  have k1 : nI 16 * nI m + nI t = nI k := by rw [n_mul, n_add, ← hk]
  by_cases hok : isPl w lo (plN t) = true ∧ hdF N ps kn m (plN t) = false
  · have hex : exb N (fun k => decide (ps k m = some (plN t).1) && (!(plN t).2 || decide (0 < kn k))) = false := by rw [← hdF_ex]; exact hok.2
    rw [hok.1] at hpl
    cases j with
    | zero =>
      have hf : fil w N ps kn lo dr 0 (plN t) = (true, 0, w 1) := by
        unfold fil
        rw [if_pos ⟨hok.1, by rw [← hok.2, hm]; rfl⟩]
      rw [hf]
      refine ⟨set3 J k (true, 0, w 1), Ck.refl.set, set3_is _ _ _, fun r hr => ?_⟩
      refine v_X11_fillPlaces_13.e X d _ _ J L r ?_
      rw [h 0 (by decide)]
      have hmm : m = w 1 - 1 := by omega
      have t2 : ∀ x y, TM (up3 (up3 J 49 0 (16 * m + t) x) 50 0 (16 * m + t) y) w := fun x y => h.fm (l := [49, 50]) ((Fm.refl.up (by decide)).up (by decide)) (by decide)
      have s1 : nI (w 1) - nI 1 = nI (w 1 - 1) := n_sub (by omega)
      simp (disch := omega) only [a_bi_i, a_bv_n, a_bl_l, a_bq_q, l_0, l_1, l_2, l_3, l_4, l_5, l_6, l_7, l_8, l_9, l_10, l_12, l_16, l_20, l_24, l_25, l_31, l_32, l_33, l_40, l_48, l_57, l_60, l_63, l_64, l_78, l_85, l_97, l_99, l_100, l_122, l_255, l_325, l_700, l_999, l_1000, l_1200, l_99999, l_100000, l_1000000, l_2000000000, l_N, n_add, n_mul, n_lt, n_out, n_div, n_dm, n_eq, n_toN, n_inN, n_ltN, n_nltN, n_neN, Nat.not_lt_zero, false_or, or_false, ite_y, ite_n, if_true, if_false, ite_tt, ite_ff, b_0, b_1, eq_self_iff_true, Bool.true_eq_false, Bool.false_eq_true, m_minutes h v, s1, hpl, hin, oI_fnd hn, hex, k1, u3_eq, m_minutes (t2 _ _) v]
      rw [hk] at hr
      exact fp_end (Nat.le_refl 1) (Nat.zero_le 1) (Or.inl rfl) (nx hr)
    | succ i =>
      have hf : fil w N ps kn lo dr (i + 1) (plN t) = filS w N ps kn lo dr (fil w N ps kn lo dr i) m (plN t) 12 := by
        rw [fil, show w 1 - 2 - i = m by omega, if_pos hok]
      rw [hf]
      have hFi := hF (by omega)
      rw [show i + 1 - 1 = i by omega] at hFi
      have c3 : Ck k J (set3 J k (false, 1000000, m + 1)) := Ck.refl.set
      obtain ⟨J', s1, s2, s3⟩ := fp_steps (X := X) (d := d) (L := L) (J := set3 J k (false, 1000000, m + 1)) (m := m) (k := k) (j := i) (p := plN t) (h.fm c3.fm (by decide)) v (by unfold QM; rw [c3.1 40 (by decide)]; exact hQ) (by unfold PM; rw [c3.1 40 (by decide), c3.1 47 (by decide), c3.1 48 (by decide)]; exact hP) hn hps hkn hp (by omega) (by omega) (by rw [rm_pl]; exact hk) (fun p hp' => (hFi p hp').ck c3 (by omega)) (set3_is _ _ _) hd
      refine ⟨J', ⟨fun f hf => (s1.1 f hf).trans (c3.1 f hf), fun f l hl => (s1.2 f l hl).trans (c3.2 f l hl)⟩, s2, fun r hr => ?_⟩
      rw [rm_pl] at s3
      have s4 := s3 r (nx hr)
      refine v_X11_fillPlaces_13.e X d _ _ J L r ?_
      rw [h 0 (by decide)]
      have hmm : ¬ m = w 1 - 1 := by omega
      have e1 : nI (w 1) - nI 1 = nI (w 1 - 1) := n_sub (by omega)
      simp (disch := omega) only [a_bi_i, a_bv_n, a_bl_l, a_bq_q, l_0, l_1, l_2, l_3, l_4, l_5, l_6, l_7, l_8, l_9, l_10, l_12, l_16, l_20, l_24, l_25, l_31, l_32, l_33, l_40, l_48, l_57, l_60, l_63, l_64, l_78, l_85, l_97, l_99, l_100, l_122, l_255, l_325, l_700, l_999, l_1000, l_1200, l_99999, l_100000, l_1000000, l_2000000000, l_N, n_add, n_mul, n_lt, n_out, n_div, n_dm, n_eq, n_toN, n_inN, n_ltN, n_nltN, n_neN, Nat.not_lt_zero, false_or, or_false, ite_y, ite_n, if_true, if_false, ite_tt, ite_ff, b_0, b_1, eq_self_iff_true, Bool.true_eq_false, Bool.false_eq_true, m_minutes h v, e1, hpl, hin, oI_fnd hn, hex, k1, u3_eq]
      rw [hk] at s4
      exact s4
  · have hf : fil w N ps kn lo dr j (plN t) = (false, 1000000, m) := by
      cases j with
      | zero =>
        unfold fil
        rw [if_neg (by rw [show w 1 - 1 = m by omega]; exact hok), hm]
        rfl
      | succ i =>
        rw [fil, show w 1 - 2 - i = m by omega, if_neg hok]
    rw [hf]
    refine ⟨set3 J k (false, 1000000, m), Ck.refl.set, set3_is _ _ _, fun r hr => ?_⟩
    have fin : ∀ l4, l4 ≤ 1 → v_X11_fillPlaces_67 X d (nI m) (nI t) (nI k) (nI l4) (J, L, ()) = some r := fun l4 h4 => fp_no hk6 h4 (nx hr)
    have fin0 := fin 0 (by decide)
    have fin1 := fin 1 (by decide)
    rw [hk] at fin0 fin1
    refine v_X11_fillPlaces_13.e X d _ _ J L r ?_
    rw [h 0 (by decide)]
    have e1 : nI (w 1) - nI 1 = nI (w 1 - 1) := n_sub (by omega)
    cases hpb : isPl w lo (plN t) with
    | false =>
      rw [hpb] at hpl
      by_cases hmm : m = w 1 - 1
      · simp (disch := omega) only [a_bi_i, a_bv_n, a_bl_l, a_bq_q, l_0, l_1, l_2, l_3, l_4, l_5, l_6, l_7, l_8, l_9, l_10, l_12, l_16, l_20, l_24, l_25, l_31, l_32, l_33, l_40, l_48, l_57, l_60, l_63, l_64, l_78, l_85, l_97, l_99, l_100, l_122, l_255, l_325, l_700, l_999, l_1000, l_1200, l_99999, l_100000, l_1000000, l_2000000000, l_N, n_add, n_mul, n_lt, n_out, n_div, n_dm, n_eq, n_toN, n_inN, n_ltN, n_nltN, n_neN, Nat.not_lt_zero, false_or, or_false, ite_y, ite_n, if_true, if_false, ite_tt, ite_ff, b_0, b_1, eq_self_iff_true, Bool.true_eq_false, Bool.false_eq_true, m_minutes h v, e1, hpl, fin1]
      · simp (disch := omega) only [a_bi_i, a_bv_n, a_bl_l, a_bq_q, l_0, l_1, l_2, l_3, l_4, l_5, l_6, l_7, l_8, l_9, l_10, l_12, l_16, l_20, l_24, l_25, l_31, l_32, l_33, l_40, l_48, l_57, l_60, l_63, l_64, l_78, l_85, l_97, l_99, l_100, l_122, l_255, l_325, l_700, l_999, l_1000, l_1200, l_99999, l_100000, l_1000000, l_2000000000, l_N, n_add, n_mul, n_lt, n_out, n_div, n_dm, n_eq, n_toN, n_inN, n_ltN, n_nltN, n_neN, Nat.not_lt_zero, false_or, or_false, ite_y, ite_n, if_true, if_false, ite_tt, ite_ff, b_0, b_1, eq_self_iff_true, Bool.true_eq_false, Bool.false_eq_true, m_minutes h v, e1, hpl, fin0, hmm]
    | true =>
      rw [hpb] at hpl
      have hex : exb N (fun k => decide (ps k m = some (plN t).1) && (!(plN t).2 || decide (0 < kn k))) = true := by
        cases hq : exb N (fun k => decide (ps k m = some (plN t).1) && (!(plN t).2 || decide (0 < kn k))) with
        | true => rfl
        | false => exact absurd ⟨hpb, by rw [hdF_ex]; exact hq⟩ hok
      by_cases hmm : m = w 1 - 1
      · simp (disch := omega) only [a_bi_i, a_bv_n, a_bl_l, a_bq_q, l_0, l_1, l_2, l_3, l_4, l_5, l_6, l_7, l_8, l_9, l_10, l_12, l_16, l_20, l_24, l_25, l_31, l_32, l_33, l_40, l_48, l_57, l_60, l_63, l_64, l_78, l_85, l_97, l_99, l_100, l_122, l_255, l_325, l_700, l_999, l_1000, l_1200, l_99999, l_100000, l_1000000, l_2000000000, l_N, n_add, n_mul, n_lt, n_out, n_div, n_dm, n_eq, n_toN, n_inN, n_ltN, n_nltN, n_neN, Nat.not_lt_zero, false_or, or_false, ite_y, ite_n, if_true, if_false, ite_tt, ite_ff, b_0, b_1, eq_self_iff_true, Bool.true_eq_false, Bool.false_eq_true, m_minutes h v, e1, hpl, hin, oI_fnd hn, hex, fin1]
      · simp (disch := omega) only [a_bi_i, a_bv_n, a_bl_l, a_bq_q, l_0, l_1, l_2, l_3, l_4, l_5, l_6, l_7, l_8, l_9, l_10, l_12, l_16, l_20, l_24, l_25, l_31, l_32, l_33, l_40, l_48, l_57, l_60, l_63, l_64, l_78, l_85, l_97, l_99, l_100, l_122, l_255, l_325, l_700, l_999, l_1000, l_1200, l_99999, l_100000, l_1000000, l_2000000000, l_N, n_add, n_mul, n_lt, n_out, n_div, n_dm, n_eq, n_toN, n_inN, n_ltN, n_nltN, n_neN, Nat.not_lt_zero, false_or, or_false, ite_y, ite_n, if_true, if_false, ite_tt, ite_ff, b_0, b_1, eq_self_iff_true, Bool.true_eq_false, Bool.false_eq_true, m_minutes h v, e1, hpl, hin, oI_fnd hn, hex, fin0, hmm]
theorem m_fillPlaces (h : TM I w) (v : Vw w) (hQ : QM I lo dr) (hP : PM I (w 1) N ps kn) (hn : N ≤ 3) (hps : ∀ k, k < N → ∀ m x, ps k m = some x → x < 8) (hkn : ∀ k, k < N → kn k ≤ 100) (hT : 0 < w 1) (hd : 5 ≤ d) : ∃ J, K_X11_fillPlaces X d (I, L, ()) = some (none, (J, L, ())) ∧ Fm [49, 50, 51] I J ∧ ∀ i, i < w 1 → FPm J w N ps kn lo dr i := by
  obtain ⟨e, rfl⟩ : ∃ e, d = e + 1 := ⟨d - 1, by omega⟩
  obtain ⟨⟨w0, w1, -⟩, -⟩ := id v
  obtain ⟨J, ⟨g1, g2⟩, g3⟩ := loop_z (F := fun j (J : A3 Int32) => v_X11_fillPlaces_7 X e (dI (w 1) j) (J, L, ())) (P := fun j J => Fm [49, 50, 51] I J ∧ ∀ i, i < j → FPm J w N ps kn lo dr i) (w 1) I ⟨Fm.refl, fun i hi => absurd hi (by omega)⟩ (fun j J hj hI => by
    obtain ⟨i1, i2⟩ := hI
    generalize hm : w 1 - 1 - j = m
    obtain ⟨J', ⟨a1, a2, a3⟩, a4⟩ := loop_z (F := fun t (J' : A3 Int32) => v_X11_fillPlaces_13 X e (nI m) (nI t) (J', L, ())) (P := fun t J' => Fm [49, 50, 51] I J' ∧ (∀ i, i < j → FPm J' w N ps kn lo dr i) ∧ ∀ t', t' < t → is3 J' (16 * m + t') (fil w N ps kn lo dr j (plN t'))) (2 * w 0) J ⟨i1, i2, fun t ht => absurd ht (by omega)⟩ (fun t J1 ht hI1 => by
      obtain ⟨b1, b2, b3⟩ := hI1
      obtain ⟨J2, c1, c2, c3⟩ := fp_place (X := X) (d := e) (L := L) (J := J1) (j := j) (m := m) (t := t) (k := 16 * m + t) (lo := lo) (dr := dr) (h.fm b1 (by decide)) v (by unfold QM; rw [b1 40 (by decide)]; exact hQ) (by unfold PM; rw [b1 40 (by decide), b1 47 (by decide), b1 48 (by decide)]; exact hP) hn hps hkn ht hm.symm hj rfl (fun hj0 => b2 (j - 1) (by omega)) (by omega)
      refine ⟨J2, ⟨b1.trans c1.fm, fun i hi p hp => (b2 i hi p hp).ck c1 ?_, fun t' ht' => ?_⟩, c3⟩
      · have hb : rmP p < 16 := rmP_lt (by omega)
        omega
      · by_cases et : t' = t
        · subst et; exact c2
        · exact (b3 t' (by omega)).ck c1 (by omega))
    refine ⟨J', ⟨a1, fun i hi => ?_⟩, fun r hr => ?_⟩
    · by_cases ei : i = j
      · subst ei
        intro p hp
        have hb : rmP p < 2 * w 0 := by unfold rmP; split <;> omega
        have := a3 (rmP p) hb
        rw [show plN (rmP p) = p from rm_inj (rm_pl (rmP p))] at this
        rwa [hm]
      · exact a2 i (by omega)
    · have hdI : dI (w 1) j = nI m := by rw [← hm]; exact if_pos hj
      have tJ : TM J' w := h.fm a1 (by decide)
      rw [hdI]
      rw [← dI_s hj, hdI] at hr
      refine v_X11_fillPlaces_7.e X e _ J L r ?_
      simp (disch := omega) only [a_bi_i, a_bv_n, a_bl_l, a_bq_q, l_0, l_1, l_2, l_3, l_4, l_5, l_6, l_7, l_8, l_9, l_10, l_12, l_16, l_20, l_24, l_25, l_31, l_32, l_33, l_40, l_48, l_57, l_60, l_63, l_64, l_78, l_85, l_97, l_99, l_100, l_122, l_255, l_325, l_700, l_999, l_1000, l_1200, l_99999, l_100000, l_1000000, l_2000000000, l_N, n_add, n_mul, n_lt, n_out, n_div, n_dm, n_eq, n_toN, n_inN, n_ltN, n_nltN, n_neN, Nat.not_lt_zero, false_or, or_false, ite_y, ite_n, if_true, if_false, ite_tt, ite_ff, b_0, b_1, eq_self_iff_true, Bool.true_eq_false, Bool.false_eq_true]
      refine a4 r (v_X11_fillPlaces_13.e X e _ _ J' L r ?_)
      rw [tJ 0 (by decide)]
      simp (disch := omega) only [a_bi_i, a_bv_n, a_bl_l, a_bq_q, l_0, l_1, l_2, l_3, l_4, l_5, l_6, l_7, l_8, l_9, l_10, l_12, l_16, l_20, l_24, l_25, l_31, l_32, l_33, l_40, l_48, l_57, l_60, l_63, l_64, l_78, l_85, l_97, l_99, l_100, l_122, l_255, l_325, l_700, l_999, l_1000, l_1200, l_99999, l_100000, l_1000000, l_2000000000, l_N, n_add, n_mul, n_lt, n_out, n_div, n_dm, n_eq, n_toN, n_inN, n_ltN, n_nltN, n_neN, Nat.not_lt_zero, false_or, or_false, ite_y, ite_n, if_true, if_false, ite_tt, ite_ff, b_0, b_1, eq_self_iff_true, Bool.true_eq_false, Bool.false_eq_true, l_cN, Nat.lt_irrefl]
      exact hr)
  refine ⟨J, K_X11_fillPlaces.e X e I L _ ?_, g1, g2⟩
  have s1 : nI (w 1) - nI 1 = dI (w 1) 0 := by rw [n_sub (by omega)]; exact (if_pos hT).symm
  simp (disch := omega) only [a_bi_i, a_bv_n, a_bl_l, a_bq_q, l_1, m_minutes h v, s1]
  refine g3 _ (v_X11_fillPlaces_7.e X e _ J L _ ?_)
  rw [show dI (w 1) (w 1) = nN from if_neg (by omega)]
  simp (disch := omega) only [a_bi_i, a_bv_n, a_bl_l, a_bq_q, l_0, l_1, l_2, l_3, l_4, l_5, l_6, l_7, l_8, l_9, l_10, l_12, l_16, l_20, l_24, l_25, l_31, l_32, l_33, l_40, l_48, l_57, l_60, l_63, l_64, l_78, l_85, l_97, l_99, l_100, l_122, l_255, l_325, l_700, l_999, l_1000, l_1200, l_99999, l_100000, l_1000000, l_2000000000, l_N, n_add, n_mul, n_lt, n_out, n_div, n_dm, n_eq, n_toN, n_inN, n_ltN, n_nltN, n_neN, Nat.not_lt_zero, false_or, or_false, ite_y, ite_n, if_true, if_false, ite_tt, ite_ff, b_0, b_1, eq_self_iff_true, Bool.true_eq_false, Bool.false_eq_true]
end
