/-! the reference: places, steps -/
section
variable {X : AX} {d : Nat} {I : A3 Int32} {L : A3 Int64} {w : TW} {N : Nat} {ps : Nat → Nat → Option Nat} {kn : Nat → Nat} {lo dr : Nat → Bool}
theorem oI_S (n : Nat) : oI (some n) = nI n := rfl
theorem oI_Z : oI none = nN := rfl
def QM (I : A3 Int32) (lo dr : Nat → Bool) : Prop := (∀ c, bt (I 40 0 18) c = lo c) ∧ ∀ c, bt (I 40 0 19) c = dr c
/-- only loos and doors of the reference change -/
def R9 (I J : A3 Int32) : Prop := (∀ f, f ≠ 40 → J f = I f) ∧ ∀ j, j ≠ 18 → j ≠ 19 → J 40 0 j = I 40 0 j
theorem R9.refl : R9 I I := ⟨fun _ _ => rfl, fun _ _ _ => rfl⟩
theorem R9.trans {J K : A3 Int32} (h1 : R9 I J) (h2 : R9 J K) : R9 I K := ⟨fun f hf => (h2.1 f hf).trans (h1.1 f hf), fun j a b => (h2.2 j a b).trans (h1.2 j a b)⟩
theorem R9.up {J : A3 Int32} (h : R9 I J) {j : Nat} {x : Int32} (hj : j = 18 ∨ j = 19) : R9 I (up3 J 40 0 j x) := ⟨fun f hf => by rw [u3_f _ _ hf]; exact h.1 f hf, fun k a b => by rw [u3_j _ _ (by omega)]; exact h.2 k a b⟩
theorem R9.sm {J : A3 Int32} (h : R9 I J) : Sm I J := ⟨fun f hf => h.1 f (fun e => hf (by rw [e]; decide)), fun j hj => h.2 j (by omega) (by omega)⟩
theorem PM.r9 {J : A3 Int32} {T n : Nat} (hP : PM I T n ps kn) (h : R9 I J) : PM J T n ps kn := by
  unfold PM
  rw [h.1 47 (by decide), h.1 48 (by decide), h.2 17 (by decide) (by decide)]
  exact hP
theorem bt_w {x m : Nat} (hx : x ≤ 1) (hm : m < 32) (k : Nat) : bt (nI x <<< (nI m &&& nI 31)) k = (decide (k = m) && decide (x = 1)) := by
  rcases (show x = 0 ∨ x = 1 by omega) with rfl | rfl
  · rw [bt_shl hm, bt_0]; simp
  · rw [bt_one hm]; simp
theorem m_places (h : TM I w) (v : Vw w) (hd : 2 ≤ d) : ∃ J, K_X11_placesAsTheyAre X d (I, L, ()) = some (none, (J, L, ())) ∧ R9 I J ∧ QM J (loB w) (doB w) := by
  obtain ⟨e, rfl⟩ : ∃ e, d = e + 1 := ⟨d - 1, by omega⟩
  obtain ⟨⟨h0, h1, -⟩, -, vc, -⟩ := id v
  obtain ⟨J, ⟨g1, g2, g3⟩, g4⟩ := loop_z (F := fun m (J : A3 Int32) => v_X11_placesAsTheyAre_12 X e (nI m) (J, L, ())) (P := fun m J => R9 I J ∧ (∀ c, bt (J 40 0 18) c = (decide (c < m) && decide (w (10 + 3 * c) = 1))) ∧ ∀ c, bt (J 40 0 19) c = (decide (c < m) && decide (w (11 + 3 * c) = 1))) (w 0) (up3 (up3 I 40 0 18 (nI 0)) 40 0 19 (nI 0)) ⟨(R9.refl.up (Or.inl rfl)).up (Or.inr rfl), fun c => by rw [u3_j _ _ (by decide), u3_eq, bt_0]; simp, fun c => by rw [u3_eq, bt_0]; simp⟩ (fun m J hm hP => by
    obtain ⟨p1, p2, p3⟩ := hP
    have hJ : TM J w := h.sm p1.sm
    have hc := vc m (by omega)
    generalize hA : J 40 0 18 ||| (nI (w (10 + 3 * m)) <<< (nI m &&& nI 31)) = A
    have hJ2 : TM (up3 J 40 0 18 A) w := h.sm (p1.up (Or.inl rfl)).sm
    refine ⟨up3 (up3 J 40 0 18 A) 40 0 19 (J 40 0 19 ||| (nI (w (11 + 3 * m)) <<< (nI m &&& nI 31))), ⟨(p1.up (Or.inl rfl)).up (Or.inr rfl), fun c => ?_, fun c => ?_⟩, fun r hr => ?_⟩
    · rw [u3_j _ _ (by decide), u3_eq, ← hA, bt_or, p2, bt_w hc.2.1 (by omega)]
      by_cases e : c = m
      · subst e; simp
      · rw [dlt e]; simp [e]
    · rw [u3_eq, bt_or, p3, bt_w hc.2.2 (by omega)]
      by_cases e : c = m
      · subst e; simp
      · rw [dlt e]; simp [e]
    · refine v_X11_placesAsTheyAre_12.e X e _ J L r ?_
      rw [hJ 0 (by decide)]
      simp (disch := omega) only [m_oc1 hJ v, hA, m_oc2 hJ2 v, u3_j, a_bi_i, a_bv_n, a_bl_l, a_bq_q, l_0, l_1, l_2, l_3, l_4, l_5, l_6, l_7, l_8, l_9, l_10, l_12, l_16, l_20, l_24, l_25, l_31, l_32, l_33, l_40, l_48, l_57, l_60, l_63, l_64, l_78, l_85, l_97, l_99, l_100, l_122, l_255, l_325, l_700, l_999, l_1000, l_1200, l_99999, l_100000, l_1000000, l_2000000000, l_N, n_add, n_mul, n_lt, n_out, n_div, n_dm, n_eq, n_toN, n_inN, n_ltN, n_nltN, n_neN, Nat.not_lt_zero, false_or, or_false, ite_y, ite_n, if_true, if_false, ite_tt, ite_ff, b_0, b_1, eq_self_iff_true, Bool.true_eq_false, Bool.false_eq_true]
      exact hr)
  have hJ : TM J w := h.sm g1.sm
  refine ⟨J, K_X11_placesAsTheyAre.e X e I L _ (g4 _ (v_X11_placesAsTheyAre_12.e X e _ J L _ ?_)), g1, g2, g3⟩
  rw [hJ 0 (by decide)]
  simp (disch := omega) only [a_bi_i, a_bv_n, a_bl_l, a_bq_q, l_0, l_1, l_2, l_3, l_4, l_5, l_6, l_7, l_8, l_9, l_10, l_12, l_16, l_20, l_24, l_25, l_31, l_32, l_33, l_40, l_48, l_57, l_60, l_63, l_64, l_78, l_85, l_97, l_99, l_100, l_122, l_255, l_325, l_700, l_999, l_1000, l_1200, l_99999, l_100000, l_1000000, l_2000000000, l_N, n_add, n_mul, n_lt, n_out, n_div, n_dm, n_eq, n_toN, n_inN, n_ltN, n_nltN, n_neN, Nat.not_lt_zero, false_or, or_false, ite_y, ite_n, if_true, if_false, ite_tt, ite_ff, b_0, b_1, eq_self_iff_true, Bool.true_eq_false, Bool.false_eq_true]
theorem stp_in {m s : Nat} {p q : Pl} (hp : p.1 < w 0) (h : stp w lo dr m p s = some q) : q.1 < w 0 := by
  unfold stp at h
  split at h
  · cases h; exact hp
  · split at h
    · split at h
      · rename_i z; cases h; exact z
      · cases h
    · split at h
      · split at h
        · cases h; show p.1 - 1 < w 0; omega
        · cases h
      · split at h
        · split at h
          · cases h; exact hp
          · split at h
            · cases h; exact hp
            · cases h
        · split at h
          · rename_i z; cases h; exact z.1
          · cases h
theorem rm_d (p : Pl) : rmP p / 2 = p.1 := by unfold rmP; split <;> omega
theorem rm_m (p : Pl) : rmP p % 2 = if p.2 = true then 1 else 0 := by unfold rmP; split <;> omega
theorem rm_dm (p : Pl) : nI (rmP p) - nI (p.1 * 2) = nI (if p.2 = true then 1 else 0) := by
  rw [n_sub (by unfold rmP; omega)]
  congr 1
  unfold rmP
  omega
theorem m_stepped {m s : Nat} {p : Pl} (h : TM I w) (v : Vw w) (hQ : QM I lo dr) (hp : p.1 < w 0) (hm : m < w 1) (hs : s < 12) (hd : 3 ≤ d) : K_X11_stepped X d (nI (rmP p)) (nI s) (nI m) (I, L, ()) = some (some (aI (oI ((stp w lo dr m p s).map rmP))), (I, L, ())) := by
  obtain ⟨e, rfl⟩ : ∃ e, d = e + 1 := ⟨d - 1, by omega⟩
  obtain ⟨⟨h0, h1, -⟩, -⟩ := id v
  refine K_X11_stepped.e X e _ _ _ I L _ ?_
  have hb : rmP p < 16 := rmP_lt (by omega)
  have hdv := rm_d p
  have hmd := rm_dm p
  obtain ⟨c, l⟩ := p
  simp only at hp hdv hmd
  rcases (show s = 0 ∨ s = 1 ∨ s = 2 ∨ s = 3 ∨ 4 ≤ s by omega) with rfl | rfl | rfl | rfl | hs4
  · simp (disch := omega) only [a_bi_i, a_bv_n, a_bl_l, a_bq_q, l_0, l_1, l_2, l_3, l_4, l_5, l_6, l_7, l_8, l_9, l_10, l_12, l_16, l_20, l_24, l_25, l_31, l_32, l_33, l_40, l_48, l_57, l_60, l_63, l_64, l_78, l_85, l_97, l_99, l_100, l_122, l_255, l_325, l_700, l_999, l_1000, l_1200, l_99999, l_100000, l_1000000, l_2000000000, l_N, n_add, n_mul, n_lt, n_out, n_div, n_dm, n_eq, n_toN, n_inN, n_ltN, n_nltN, n_neN, Nat.not_lt_zero, false_or, or_false, ite_y, ite_n, if_true, if_false, ite_tt, ite_ff, b_0, b_1, eq_self_iff_true, Bool.true_eq_false, Bool.false_eq_true]
    rfl
  · simp (disch := omega) only [a_bi_i, a_bv_n, a_bl_l, a_bq_q, l_0, l_1, l_2, l_3, l_4, l_5, l_6, l_7, l_8, l_9, l_10, l_12, l_16, l_20, l_24, l_25, l_31, l_32, l_33, l_40, l_48, l_57, l_60, l_63, l_64, l_78, l_85, l_97, l_99, l_100, l_122, l_255, l_325, l_700, l_999, l_1000, l_1200, l_99999, l_100000, l_1000000, l_2000000000, l_N, n_add, n_mul, n_lt, n_out, n_div, n_dm, n_eq, n_toN, n_inN, n_ltN, n_nltN, n_neN, Nat.not_lt_zero, false_or, or_false, ite_y, ite_n, if_true, if_false, ite_tt, ite_ff, b_0, b_1, eq_self_iff_true, Bool.true_eq_false, Bool.false_eq_true, hdv, m_isCoach h v, inr_n]
    by_cases h1 : c + 1 < w 0
    · simp [stp, h1, oI, rmP]
    · simp [stp, h1, oI, l_N]
  · simp (disch := omega) only [a_bi_i, a_bv_n, a_bl_l, a_bq_q, l_0, l_1, l_2, l_3, l_4, l_5, l_6, l_7, l_8, l_9, l_10, l_12, l_16, l_20, l_24, l_25, l_31, l_32, l_33, l_40, l_48, l_57, l_60, l_63, l_64, l_78, l_85, l_97, l_99, l_100, l_122, l_255, l_325, l_700, l_999, l_1000, l_1200, l_99999, l_100000, l_1000000, l_2000000000, l_N, n_add, n_mul, n_lt, n_out, n_div, n_dm, n_eq, n_toN, n_inN, n_ltN, n_nltN, n_neN, Nat.not_lt_zero, false_or, or_false, ite_y, ite_n, if_true, if_false, ite_tt, ite_ff, b_0, b_1, eq_self_iff_true, Bool.true_eq_false, Bool.false_eq_true, hdv]
    by_cases h1 : 0 < c
    · rw [n_sub (by omega)]
      simp (disch := omega) only [a_bi_i, a_bv_n, a_bl_l, a_bq_q, l_0, l_1, l_2, l_3, l_4, l_5, l_6, l_7, l_8, l_9, l_10, l_12, l_16, l_20, l_24, l_25, l_31, l_32, l_33, l_40, l_48, l_57, l_60, l_63, l_64, l_78, l_85, l_97, l_99, l_100, l_122, l_255, l_325, l_700, l_999, l_1000, l_1200, l_99999, l_100000, l_1000000, l_2000000000, l_N, n_add, n_mul, n_lt, n_out, n_div, n_dm, n_eq, n_toN, n_inN, n_ltN, n_nltN, n_neN, Nat.not_lt_zero, false_or, or_false, ite_y, ite_n, if_true, if_false, ite_tt, ite_ff, b_0, b_1, eq_self_iff_true, Bool.true_eq_false, Bool.false_eq_true, h1]
      simp [stp, h1, oI, rmP]
    · simp [stp, h1, oI]
  · simp (disch := omega) only [a_bi_i, a_bv_n, a_bl_l, a_bq_q, l_0, l_1, l_2, l_3, l_4, l_5, l_6, l_7, l_8, l_9, l_10, l_12, l_16, l_20, l_24, l_25, l_31, l_32, l_33, l_40, l_48, l_57, l_60, l_63, l_64, l_78, l_85, l_97, l_99, l_100, l_122, l_255, l_325, l_700, l_999, l_1000, l_1200, l_99999, l_100000, l_1000000, l_2000000000, l_N, n_add, n_mul, n_lt, n_out, n_div, n_dm, n_eq, n_toN, n_inN, n_ltN, n_nltN, n_neN, Nat.not_lt_zero, false_or, or_false, ite_y, ite_n, if_true, if_false, ite_tt, ite_ff, b_0, b_1, eq_self_iff_true, Bool.true_eq_false, Bool.false_eq_true, hdv, hmd, m_bit, hQ.1]
    cases l with
    | true =>
      rw [if_pos rfl, if_pos rfl, n_sub (by unfold rmP; simp)]
      simp [stp, oI, rmP]
    | false =>
      cases hl : lo c with
      | true => simp [stp, hl, oI, rmP, n_eq]
      | false => simp [stp, hl, oI, n_eq]
  · obtain ⟨t, rfl⟩ : ∃ t, s = t + 4 := ⟨s - 4, by omega⟩
    have e4 : nI (t + 4) - nI 4 = nI t := by rw [n_sub (by omega), Nat.add_sub_cancel]
    have f0 : ¬ (t + 4 = 0) := by omega
    have f1 : ¬ (t + 4 = 1) := by omega
    have f2 : ¬ (t + 4 = 2) := by omega
    have f3 : ¬ (t + 4 = 3) := by omega
    have hst : stp w lo dr m (c, l) (t + 4) = if t < w 0 ∧ t ≠ c ∧ l = false ∧ stF w m = true ∧ dr c = true ∧ dr t = true then some (t, false) else none := by
      unfold stp
      rw [if_neg f0, if_neg f1, if_neg f2, if_neg f3, Nat.add_sub_cancel]
    rw [hst]
    simp (disch := omega) only [a_bi_i, a_bv_n, a_bl_l, a_bq_q, l_0, l_1, l_2, l_3, l_4, l_5, l_6, l_7, l_8, l_9, l_10, l_12, l_16, l_20, l_24, l_25, l_31, l_32, l_33, l_40, l_48, l_57, l_60, l_63, l_64, l_78, l_85, l_97, l_99, l_100, l_122, l_255, l_325, l_700, l_999, l_1000, l_1200, l_99999, l_100000, l_1000000, l_2000000000, l_N, n_add, n_mul, n_lt, n_out, n_div, n_dm, n_eq, n_toN, n_inN, n_ltN, n_nltN, n_neN, Nat.not_lt_zero, false_or, or_false, ite_y, ite_n, if_true, if_false, ite_tt, ite_ff, b_0, b_1, eq_self_iff_true, Bool.true_eq_false, Bool.false_eq_true, e4, f0, f1, f2, f3, hdv, hmd, m_isCoach h v, inr_n, m_isStop h v hm, m_bit, hQ.2]
    show _ = some (some (aI (oI (Option.map rmP (if t < w 0 ∧ t ≠ c ∧ l = false ∧ decide (0 < m ∧ m % w 2 = 0) = true ∧ dr c = true ∧ dr t = true then some (t, false) else none)))), (I, L, ()))
    by_cases a1 : t < w 0
    · by_cases a2 : t = c
      · simp [a1, a2, oI]
      · cases l with
        | true => simp [a1, a2, oI, n_eq]
        | false =>
          cases a3 : decide (0 < m ∧ m % w 2 = 0) with
          | false => simp [a1, a2, oI]
          | true =>
            cases a4 : dr c with
            | false => simp [a1, a2, oI]
            | true =>
              cases a5 : dr t with
              | false => simp [a1, a2, oI]
              | true => simp [a1, a2, oI, rmP]
    · simp [a1, oI]
theorem oI_fnd {n : Nat} {p : Nat → Bool} (hn : n ≤ 3) : (oI (fnd n p) = nN) ↔ exb n p = false := by
  rw [oI_none (fun x hx => by have := (fnd_some hx).1; omega), exb_no]
  constructor
  · intro h; exact fnd_none h
  · intro h; exact fnd_no h
theorem hdF_ex {m : Nat} {p : Pl} : hdF N ps kn m p = exb N (fun k => decide (ps k m = some p.1) && (!p.2 || decide (0 < kn k))) := by
  unfold hdF
  cases p.2 with
  | true =>
    rw [if_pos rfl]
    exact exb_eq fun k _ => by simp [Bool.and_comm]
  | false =>
    rw [if_neg (by decide)]
    exact exb_eq fun k _ => by simp
theorem m_isFreeStep {m s : Nat} {p : Pl} (h : TM I w) (v : Vw w) (hQ : QM I lo dr) (hP : PM I (w 1) N ps kn) (hn : N ≤ 3) (hps : ∀ k, k < N → ∀ m x, ps k m = some x → x < 8) (hkn : ∀ k, k < N → kn k ≤ 100) (hp : p.1 < w 0) (hm : m + 1 < w 1) (hs : s < 12) (hd : 4 ≤ d) : K_X11_isFreeStep X d (nI (rmP p)) (nI s) (nI m) (I, L, ()) = some (some (aI (bI (fre w N ps kn lo dr m p s))), (I, L, ())) := by
  obtain ⟨e, rfl⟩ : ∃ e, d = e + 1 := ⟨d - 1, by omega⟩
  obtain ⟨⟨h0, h1, -⟩, -⟩ := id v
  refine K_X11_isFreeStep.e X e _ _ _ I L _ ?_
  have hb : rmP p < 16 := rmP_lt (by omega)
  have hmt : m < w 1 := by omega
  unfold fre
  cases hq : stp w lo dr m p s with
  | none =>
    simp (disch := omega) only [m_stepped h v hQ hp hmt hs, hq, Option.map, oI, a_bi_i, a_bv_n, a_bl_l, a_bq_q, l_0, l_1, l_2, l_3, l_4, l_5, l_6, l_7, l_8, l_9, l_10, l_12, l_16, l_20, l_24, l_25, l_31, l_32, l_33, l_40, l_48, l_57, l_60, l_63, l_64, l_78, l_85, l_97, l_99, l_100, l_122, l_255, l_325, l_700, l_999, l_1000, l_1200, l_99999, l_100000, l_1000000, l_2000000000, l_N, n_add, n_mul, n_lt, n_out, n_div, n_dm, n_eq, n_toN, n_inN, n_ltN, n_nltN, n_neN, Nat.not_lt_zero, false_or, or_false, ite_y, ite_n, if_true, if_false, ite_tt, ite_ff, b_0, b_1, eq_self_iff_true, Bool.true_eq_false, Bool.false_eq_true]
    rfl
  | some q =>
    have hq0 := stp_in hp hq
    have hb2 : rmP q < 16 := rmP_lt (by omega)
    simp (disch := omega) only [m_stepped h v hQ hp hmt hs, hq, Option.map, oI_S, oI_Z, a_bi_i, a_bv_n, a_bl_l, a_bq_q, l_0, l_1, l_2, l_3, l_4, l_5, l_6, l_7, l_8, l_9, l_10, l_12, l_16, l_20, l_24, l_25, l_31, l_32, l_33, l_40, l_48, l_57, l_60, l_63, l_64, l_78, l_85, l_97, l_99, l_100, l_122, l_255, l_325, l_700, l_999, l_1000, l_1200, l_99999, l_100000, l_1000000, l_2000000000, l_N, n_add, n_mul, n_lt, n_out, n_div, n_dm, n_eq, n_toN, n_inN, n_ltN, n_nltN, n_neN, Nat.not_lt_zero, false_or, or_false, ite_y, ite_n, if_true, if_false, ite_tt, ite_ff, b_0, b_1, eq_self_iff_true, Bool.true_eq_false, Bool.false_eq_true, m_hasIn hP (show m + 1 < w 1 by omega) hn h1 hps hkn (show q.1 < 8 by omega), oI_fnd, rm_d, m_meets hP hm hn h1 hps (show p.1 < 8 by omega) (show q.1 < 8 by omega)]
    rw [hdF_ex, mtF]
    cases exb N (fun k => decide (ps k (m + 1) = some q.1) && (!q.2 || decide (0 < kn k))) with
    | true => simp [b_f]
    | false =>
      by_cases s1 : s = 1
      · cases exb N (fun k => decide (ps k m = some q.1) && decide (ps k (m + 1) = some p.1)) <;> simp [s1, b_t, b_f]
      · by_cases s2 : s = 2
        · cases exb N (fun k => decide (ps k m = some q.1) && decide (ps k (m + 1) = some p.1)) <;> simp [s2, b_t, b_f]
        · simp [s1, s2, b_t]
theorem m_isPlace {p : Pl} (h : TM I w) (v : Vw w) (hQ : QM I lo dr) (hp : p.1 < 8) (hd : 3 ≤ d) : K_X11_isPlace X d (nI (rmP p)) (I, L, ()) = some (some (aI (bI (isPl w lo p))), (I, L, ())) := by
  obtain ⟨e, rfl⟩ : ∃ e, d = e + 1 := ⟨d - 1, by omega⟩
  obtain ⟨⟨h0, h1, -⟩, -⟩ := id v
  refine K_X11_isPlace.e X e _ I L _ ?_
  have hb : rmP p < 16 := rmP_lt (by omega)
  simp (disch := omega) only [a_bi_i, a_bv_n, a_bl_l, a_bq_q, l_0, l_1, l_2, l_3, l_4, l_5, l_6, l_7, l_8, l_9, l_10, l_12, l_16, l_20, l_24, l_25, l_31, l_32, l_33, l_40, l_48, l_57, l_60, l_63, l_64, l_78, l_85, l_97, l_99, l_100, l_122, l_255, l_325, l_700, l_999, l_1000, l_1200, l_99999, l_100000, l_1000000, l_2000000000, l_N, n_add, n_mul, n_lt, n_out, n_div, n_dm, n_eq, n_toN, n_inN, n_ltN, n_nltN, n_neN, Nat.not_lt_zero, false_or, or_false, ite_y, ite_n, if_true, if_false, ite_tt, ite_ff, b_0, b_1, eq_self_iff_true, Bool.true_eq_false, Bool.false_eq_true, rm_d, rm_dm, m_isCoach h v, inr_n, m_bit, hQ.1]
  unfold isPl
  obtain ⟨c, l⟩ := p
  by_cases h1 : c < w 0
  · cases l <;> cases hl : lo c <;> simp [h1, hl, b_t, b_f]
  · simp [h1, b_f]
end
