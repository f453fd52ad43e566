/-! fine, often, learns, mean -/
def ltp (due wt most : Nat) : Option Nat := if due = 0 then some 0 else if wt = 0 then none else if (due + wt - 1) / wt ≤ most then some ((due + wt - 1) / wt) else none
theorem fnd_uni {T x : Nat} {p : Nat → Bool} (hx : x < T) (hp : p x = true) (hn : ∀ y, y < x → p y = false) : fnd T p = some x := by
  cases h : fnd T p with
  | none => have := fnd_none h x hx; rw [hp] at this; cases this
  | some y =>
    obtain ⟨h1, h2, h3⟩ := fnd_some h
    rcases Nat.lt_trichotomy x y with q | q | q
    · rw [h3 x q] at hp; cases hp
    · rw [q]
    · rw [hn y q] at h2; cases h2
theorem fnd_no {T : Nat} {p : Nat → Bool} (hn : ∀ y, y < T → p y = false) : fnd T p = none := by
  cases h : fnd T p with
  | none => rfl
  | some y => obtain ⟨h1, h2, -⟩ := fnd_some h; rw [hn y h1] at h2; cases h2
theorem ltp_fnd (due wt most : Nat) : fnd (most + 1) (fun o => decide (due ≤ wt * o)) = ltp due wt most := by
  unfold ltp
  by_cases h0 : due = 0
  · rw [if_pos h0]
    exact fnd_uni (by omega) (by simp [h0]) (fun y hy => by omega)
  · rw [if_neg h0]
    by_cases h1 : wt = 0
    · rw [if_pos h1]
      exact fnd_no fun y _ => by simp [h1, h0]
    · rw [if_neg h1]
      have key : ∀ o, (due + wt - 1) / wt ≤ o ↔ due ≤ wt * o := fun o => by
        rw [Nat.div_le_iff_le_mul_add_pred (by omega)]
        omega
      by_cases h2 : (due + wt - 1) / wt ≤ most
      · rw [if_pos h2]
        refine fnd_uni (by omega) (decide_eq_true ((key _).mp (Nat.le_refl _))) (fun y hy => decide_eq_false (fun q => ?_))
        have := (key y).mpr q
        omega
      · rw [if_neg h2]
        refine fnd_no fun y hy => decide_eq_false (fun q => ?_)
        have := (key y).mpr q
        omega
section
variable {X : AX} {d : Nat} {I J : A3 Int32} {L : A3 Int64} {w : TW}
theorem c_leastToPay {wt most : Nat} (h : TC I w) (v : Vw w) (hwt : wt ≤ 999) (hm : most ≤ 100000) (hd : 2 ≤ d) : K_X10_leastToPay X d (nI wt) (nI most) (I, L, ()) = some (some (aI (oI (ltp (100 * w 3) wt most))), (I, L, ())) := by
  obtain ⟨e, rfl⟩ : ∃ e, d = e + 1 := ⟨d - 1, by omega⟩
  obtain ⟨⟨h0, h1, h2, h3, h4, -⟩, -⟩ := id v
  refine K_X10_leastToPay.e X e _ _ I L _ ?_
  simp (disch := omega) only [c_fare h v, a_bi_i, a_bv_n, a_bl_l, a_bq_q, l_0, l_1, l_2, l_3, l_4, l_5, l_6, l_7, l_8, l_9, l_10, l_12, l_16, l_20, l_24, l_25, l_31, l_32, l_33, l_40, l_48, l_57, l_60, l_63, l_64, l_78, l_85, l_97, l_99, l_100, l_122, l_255, l_325, l_700, l_999, l_1000, l_1200, l_99999, l_100000, l_1000000, l_2000000000, l_N, n_add, n_mul, n_lt, n_out, n_div, n_dm, n_eq, n_toN, n_inN, n_ltN, n_nltN, n_neN, Nat.not_lt_zero, false_or, or_false, ite_y, ite_n, if_true, if_false, ite_tt, ite_ff, b_0, b_1, eq_self_iff_true, Bool.true_eq_false, Bool.false_eq_true]
  unfold ltp
  by_cases h5 : 100 * w 3 = 0
  · simp only [h5, if_true]; rfl
  · simp only [h5, if_false]
    by_cases h6 : wt = 0
    · subst h6
      simp (disch := omega) only [a_bi_i, a_bv_n, a_bl_l, a_bq_q, l_0, l_1, l_2, l_3, l_4, l_5, l_6, l_7, l_8, l_9, l_10, l_12, l_16, l_20, l_24, l_25, l_31, l_32, l_33, l_40, l_48, l_57, l_60, l_63, l_64, l_78, l_85, l_97, l_99, l_100, l_122, l_255, l_325, l_700, l_999, l_1000, l_1200, l_99999, l_100000, l_1000000, l_2000000000, l_N, n_add, n_mul, n_lt, n_out, n_div, n_dm, n_eq, n_toN, n_inN, n_ltN, n_nltN, n_neN, Nat.not_lt_zero, false_or, or_false, ite_y, ite_n, if_true, if_false, ite_tt, ite_ff, b_0, b_1, eq_self_iff_true, Bool.true_eq_false, Bool.false_eq_true]; rfl
    · rw [n_sub (by omega)]
      have hq : (100 * w 3 + wt - 1) / wt ≤ 100 * w 3 + wt - 1 := Nat.div_le_self _ _
      simp (disch := omega) only [a_bi_i, a_bv_n, a_bl_l, a_bq_q, l_0, l_1, l_2, l_3, l_4, l_5, l_6, l_7, l_8, l_9, l_10, l_12, l_16, l_20, l_24, l_25, l_31, l_32, l_33, l_40, l_48, l_57, l_60, l_63, l_64, l_78, l_85, l_97, l_99, l_100, l_122, l_255, l_325, l_700, l_999, l_1000, l_1200, l_99999, l_100000, l_1000000, l_2000000000, l_N, n_add, n_mul, n_lt, n_out, n_div, n_dm, n_eq, n_toN, n_inN, n_ltN, n_nltN, n_neN, Nat.not_lt_zero, false_or, or_false, ite_y, ite_n, if_true, if_false, ite_tt, ite_ff, b_0, b_1, eq_self_iff_true, Bool.true_eq_false, Bool.false_eq_true]
      by_cases h7 : (100 * w 3 + wt - 1) / wt ≤ most
      · have h8 : ¬ most < (100 * w 3 + wt - 1) / wt := by omega
        simp only [h6, h7, h8, if_true, if_false]; rfl
      · have h8 : most < (100 * w 3 + wt - 1) / wt := by omega
        simp only [h6, h7, h8, if_true, if_false]; rfl
theorem q_fine (h : TC I w) (v : Vw w) (a b : Int32) : Both w (K_X10_fine X 15 a b) (K_X11_fine X 15 a b) I L := by
  obtain ⟨⟨h0, h1, h2, h3, h4, h5, h6, -⟩, -, vc, vi, vr, vd⟩ := id v
  cases ha : inr a (w 6) with
  | false =>
    refine Both.pure (-2) (K_X10_fine.e X 14 a b I L _ ?_) (fun J L2 h => K_X11_fine.e X 14 a b J L2 _ ?_)
    · simp (disch := omega) only [c_hasRider h v, ha, a_bi_i, a_bv_n, a_bl_l, a_bq_q, l_0, l_1, l_2, l_3, l_4, l_5, l_6, l_7, l_8, l_9, l_10, l_12, l_16, l_20, l_24, l_25, l_31, l_32, l_33, l_40, l_48, l_57, l_60, l_63, l_64, l_78, l_85, l_97, l_99, l_100, l_122, l_255, l_325, l_700, l_999, l_1000, l_1200, l_99999, l_100000, l_1000000, l_2000000000, l_N, n_add, n_mul, n_lt, n_out, n_div, n_dm, n_eq, n_toN, n_inN, n_ltN, n_nltN, n_neN, Nat.not_lt_zero, false_or, or_false, ite_y, ite_n, if_true, if_false, ite_tt, ite_ff, b_0, b_1, eq_self_iff_true, Bool.true_eq_false, Bool.false_eq_true]
    · simp (disch := omega) only [m_isRider h v, ha, a_bi_i, a_bv_n, a_bl_l, a_bq_q, l_0, l_1, l_2, l_3, l_4, l_5, l_6, l_7, l_8, l_9, l_10, l_12, l_16, l_20, l_24, l_25, l_31, l_32, l_33, l_40, l_48, l_57, l_60, l_63, l_64, l_78, l_85, l_97, l_99, l_100, l_122, l_255, l_325, l_700, l_999, l_1000, l_1200, l_99999, l_100000, l_1000000, l_2000000000, l_N, n_add, n_mul, n_lt, n_out, n_div, n_dm, n_eq, n_toN, n_inN, n_ltN, n_nltN, n_neN, Nat.not_lt_zero, false_or, or_false, ite_y, ite_n, if_true, if_false, ite_tt, ite_ff, b_0, b_1, eq_self_iff_true, Bool.true_eq_false, Bool.false_eq_true]
  | true =>
    obtain ⟨r, hr, rfl⟩ := inr_ex (by omega) ha
    cases hb : decide (0 < w 7) && inr b 7 with
    | false =>
      refine Both.pure (-2) (K_X10_fine.e X 14 _ b I L _ ?_) (fun J L2 h => K_X11_fine.e X 14 _ b J L2 _ ?_)
      · simp (disch := omega) only [c_hasRider h v, c_hasDay h v, ha, hb, a_bi_i, a_bv_n, a_bl_l, a_bq_q, l_0, l_1, l_2, l_3, l_4, l_5, l_6, l_7, l_8, l_9, l_10, l_12, l_16, l_20, l_24, l_25, l_31, l_32, l_33, l_40, l_48, l_57, l_60, l_63, l_64, l_78, l_85, l_97, l_99, l_100, l_122, l_255, l_325, l_700, l_999, l_1000, l_1200, l_99999, l_100000, l_1000000, l_2000000000, l_N, n_add, n_mul, n_lt, n_out, n_div, n_dm, n_eq, n_toN, n_inN, n_ltN, n_nltN, n_neN, Nat.not_lt_zero, false_or, or_false, ite_y, ite_n, if_true, if_false, ite_tt, ite_ff, b_0, b_1, eq_self_iff_true, Bool.true_eq_false, Bool.false_eq_true]
      · simp (disch := omega) only [m_isRider h v, m_isDay h v, ha, hb, a_bi_i, a_bv_n, a_bl_l, a_bq_q, l_0, l_1, l_2, l_3, l_4, l_5, l_6, l_7, l_8, l_9, l_10, l_12, l_16, l_20, l_24, l_25, l_31, l_32, l_33, l_40, l_48, l_57, l_60, l_63, l_64, l_78, l_85, l_97, l_99, l_100, l_122, l_255, l_325, l_700, l_999, l_1000, l_1200, l_99999, l_100000, l_1000000, l_2000000000, l_N, n_add, n_mul, n_lt, n_out, n_div, n_dm, n_eq, n_toN, n_inN, n_ltN, n_nltN, n_neN, Nat.not_lt_zero, false_or, or_false, ite_y, ite_n, if_true, if_false, ite_tt, ite_ff, b_0, b_1, eq_self_iff_true, Bool.true_eq_false, Bool.false_eq_true]
    | true =>
      obtain ⟨k, hk, rfl⟩ := inr_ex (by omega) (Bool.and_eq_true_iff.mp hb).2
      have hdk := vd k hk
      obtain ⟨I', f1, f2, f3⟩ := c_isHad (X := X) (d := 14) (L := L) h v hr (by omega)
      refine Both.mk (oI (ltp (100 * w 3) (if (had0 w r).isSome = true then w (78 + k) else 0) 100000)) I' (K_X10_fine.e X 14 _ _ I L _ ?_) f2 (fun J L2 hJ => ?_)
      · cases hq : (had0 w r).isSome with
        | false =>
          rw [hq] at f1
          simp (disch := omega) only [c_hasRider h v, c_hasDay h v, ha, hb, f1, c_leastToPay f3 v, a_bi_i, a_bv_n, a_bl_l, a_bq_q, l_0, l_1, l_2, l_3, l_4, l_5, l_6, l_7, l_8, l_9, l_10, l_12, l_16, l_20, l_24, l_25, l_31, l_32, l_33, l_40, l_48, l_57, l_60, l_63, l_64, l_78, l_85, l_97, l_99, l_100, l_122, l_255, l_325, l_700, l_999, l_1000, l_1200, l_99999, l_100000, l_1000000, l_2000000000, l_N, n_add, n_mul, n_lt, n_out, n_div, n_dm, n_eq, n_toN, n_inN, n_ltN, n_nltN, n_neN, Nat.not_lt_zero, false_or, or_false, ite_y, ite_n, if_true, if_false, ite_tt, ite_ff, b_0, b_1, eq_self_iff_true, Bool.true_eq_false, Bool.false_eq_true]
        | true =>
          rw [hq] at f1
          simp (disch := omega) only [c_hasRider h v, c_hasDay h v, ha, hb, f1, f3.2.2.2.2 k hk, c_leastToPay f3 v, a_bi_i, a_bv_n, a_bl_l, a_bq_q, l_0, l_1, l_2, l_3, l_4, l_5, l_6, l_7, l_8, l_9, l_10, l_12, l_16, l_20, l_24, l_25, l_31, l_32, l_33, l_40, l_48, l_57, l_60, l_63, l_64, l_78, l_85, l_97, l_99, l_100, l_122, l_255, l_325, l_700, l_999, l_1000, l_1200, l_99999, l_100000, l_1000000, l_2000000000, l_N, n_add, n_mul, n_lt, n_out, n_div, n_dm, n_eq, n_toN, n_inN, n_ltN, n_nltN, n_neN, Nat.not_lt_zero, false_or, or_false, ite_y, ite_n, if_true, if_false, ite_tt, ite_ff, b_0, b_1, eq_self_iff_true, Bool.true_eq_false, Bool.false_eq_true]
      · by_cases hf : w 3 = 0
        · refine ⟨J, K_X11_fine.e X 14 _ _ J L2 _ ?_, Sm.refl⟩
          simp (disch := omega) only [m_isRider hJ v, m_isDay hJ v, ha, hb, hJ 3 (by decide), hf, a_bi_i, a_bv_n, a_bl_l, a_bq_q, l_0, l_1, l_2, l_3, l_4, l_5, l_6, l_7, l_8, l_9, l_10, l_12, l_16, l_20, l_24, l_25, l_31, l_32, l_33, l_40, l_48, l_57, l_60, l_63, l_64, l_78, l_85, l_97, l_99, l_100, l_122, l_255, l_325, l_700, l_999, l_1000, l_1200, l_99999, l_100000, l_1000000, l_2000000000, l_N, n_add, n_mul, n_lt, n_out, n_div, n_dm, n_eq, n_toN, n_inN, n_ltN, n_nltN, n_neN, Nat.not_lt_zero, false_or, or_false, ite_y, ite_n, if_true, if_false, ite_tt, ite_ff, b_0, b_1, eq_self_iff_true, Bool.true_eq_false, Bool.false_eq_true]
          rfl
        · obtain ⟨J', g1, g2, g3, -⟩ := m_hadOf (X := X) (d := 14) (L := L2) hJ v hr (by omega)
          refine ⟨J', K_X11_fine.e X 14 _ _ J L2 _ ?_, g2⟩
          unfold ltp
          cases hq : had0 w r with
          | none =>
            rw [hq] at g1
            simp (disch := omega) only [m_isRider hJ v, m_isDay hJ v, ha, hb, hJ 3 (by decide), hf, g1, oI, Option.isSome_none, a_bi_i, a_bv_n, a_bl_l, a_bq_q, l_0, l_1, l_2, l_3, l_4, l_5, l_6, l_7, l_8, l_9, l_10, l_12, l_16, l_20, l_24, l_25, l_31, l_32, l_33, l_40, l_48, l_57, l_60, l_63, l_64, l_78, l_85, l_97, l_99, l_100, l_122, l_255, l_325, l_700, l_999, l_1000, l_1200, l_99999, l_100000, l_1000000, l_2000000000, l_N, n_add, n_mul, n_lt, n_out, n_div, n_dm, n_eq, n_toN, n_inN, n_ltN, n_nltN, n_neN, Nat.not_lt_zero, false_or, or_false, ite_y, ite_n, if_true, if_false, ite_tt, ite_ff, b_0, b_1, eq_self_iff_true, Bool.true_eq_false, Bool.false_eq_true]
          | some m =>
            have := had_1000 v r m hq
            rw [hq] at g1
            by_cases h9 : w (78 + k) = 0
            · simp (disch := omega) only [m_isRider hJ v, m_isDay hJ v, ha, hb, hJ 3 (by decide), hf, g1, oI, Option.isSome_some, g3 (78 + k) (by omega), h9, a_bi_i, a_bv_n, a_bl_l, a_bq_q, l_0, l_1, l_2, l_3, l_4, l_5, l_6, l_7, l_8, l_9, l_10, l_12, l_16, l_20, l_24, l_25, l_31, l_32, l_33, l_40, l_48, l_57, l_60, l_63, l_64, l_78, l_85, l_97, l_99, l_100, l_122, l_255, l_325, l_700, l_999, l_1000, l_1200, l_99999, l_100000, l_1000000, l_2000000000, l_N, n_add, n_mul, n_lt, n_out, n_div, n_dm, n_eq, n_toN, n_inN, n_ltN, n_nltN, n_neN, Nat.not_lt_zero, false_or, or_false, ite_y, ite_n, if_true, if_false, ite_tt, ite_ff, b_0, b_1, eq_self_iff_true, Bool.true_eq_false, Bool.false_eq_true]
            · have hle : (100 * w 3 + w (78 + k) - 1) / w (78 + k) ≤ 100 * w 3 + w (78 + k) - 1 := Nat.div_le_self _ _
              have hle2 : (100 * w 3 + w (78 + k) - 1) / w (78 + k) ≤ 100000 := by omega
              simp (disch := omega) only [m_isRider hJ v, m_isDay hJ v, ha, hb, hJ 3 (by decide), hf, g1, oI, Option.isSome_some, g3 3 (by decide), g3 (78 + k) (by omega), h9, a_bi_i, a_bv_n, a_bl_l, a_bq_q, l_0, l_1, l_2, l_3, l_4, l_5, l_6, l_7, l_8, l_9, l_10, l_12, l_16, l_20, l_24, l_25, l_31, l_32, l_33, l_40, l_48, l_57, l_60, l_63, l_64, l_78, l_85, l_97, l_99, l_100, l_122, l_255, l_325, l_700, l_999, l_1000, l_1200, l_99999, l_100000, l_1000000, l_2000000000, l_N, n_add, n_mul, n_lt, n_out, n_div, n_dm, n_eq, n_toN, n_inN, n_ltN, n_nltN, n_neN, Nat.not_lt_zero, false_or, or_false, ite_y, ite_n, if_true, if_false, ite_tt, ite_ff, b_0, b_1, eq_self_iff_true, Bool.true_eq_false, Bool.false_eq_true, n_sub, hle2]
theorem find_loopS {S : Type} {F : Nat → S → ARes Unit} {P : S → Prop} {st : S → AU} {T : Nat} {p : Nat → Bool} (hs : ∀ m s, m < T → P s → (p m = true → ∃ s', P s' ∧ F m s = some (some (aI (nI m)), st s')) ∧ (p m = false → ∃ s', P s' ∧ OLe (F (m + 1) s') (F m s))) (he : ∀ s, P s → ∃ s', P s' ∧ F T s = some (some (aI nN), st s')) : ∀ s, P s → ∃ s', P s' ∧ F 0 s = some (some (aI (oI (fnd T p))), st s') := by
  have : ∀ k m s, m + k = T → P s → ∃ s', P s' ∧ F m s = some (some (aI (oI (fndF p k m))), st s') := by
    intro k
    induction k with
    | zero => intro m s hm hP; subst hm; exact he s hP
    | succ k ih =>
      intro m s hm hP
      unfold fndF
      obtain ⟨h1, h2⟩ := hs m s (by omega) hP
      cases hp : p m with
      | true => simp only [if_true]; exact h1 hp
      | false =>
        simp only [Bool.false_eq_true, if_false]
        obtain ⟨s1, a1, a2⟩ := h2 hp
        obtain ⟨s2, b1, b2⟩ := ih (m + 1) s1 (by omega) a1
        exact ⟨s2, b1, a2 _ b2⟩
  exact fun s hP => this T 0 s (by omega) hP
theorem q_often (h : TC I w) (v : Vw w) (a : Int32) : Both w (K_X10_often X 15 a) (K_X11_often X 15 a) I L := by
  obtain ⟨⟨h0, h1, h2, h3, h4, h5, h6, -⟩, -, vc, vi, vr, vd⟩ := id v
  cases ha : inr a (w 6) with
  | false =>
    refine Both.pure (-2) (K_X10_often.e X 14 a I L _ ?_) (fun J L2 h => K_X11_often.e X 14 a J L2 _ ?_)
    · simp (disch := omega) only [c_hasRider h v, ha, a_bi_i, a_bv_n, a_bl_l, a_bq_q, l_0, l_1, l_2, l_3, l_4, l_5, l_6, l_7, l_8, l_9, l_10, l_12, l_16, l_20, l_24, l_25, l_31, l_32, l_33, l_40, l_48, l_57, l_60, l_63, l_64, l_78, l_85, l_97, l_99, l_100, l_122, l_255, l_325, l_700, l_999, l_1000, l_1200, l_99999, l_100000, l_1000000, l_2000000000, l_N, n_add, n_mul, n_lt, n_out, n_div, n_dm, n_eq, n_toN, n_inN, n_ltN, n_nltN, n_neN, Nat.not_lt_zero, false_or, or_false, ite_y, ite_n, if_true, if_false, ite_tt, ite_ff, b_0, b_1, eq_self_iff_true, Bool.true_eq_false, Bool.false_eq_true]
    · simp (disch := omega) only [m_isRider h v, ha, a_bi_i, a_bv_n, a_bl_l, a_bq_q, l_0, l_1, l_2, l_3, l_4, l_5, l_6, l_7, l_8, l_9, l_10, l_12, l_16, l_20, l_24, l_25, l_31, l_32, l_33, l_40, l_48, l_57, l_60, l_63, l_64, l_78, l_85, l_97, l_99, l_100, l_122, l_255, l_325, l_700, l_999, l_1000, l_1200, l_99999, l_100000, l_1000000, l_2000000000, l_N, n_add, n_mul, n_lt, n_out, n_div, n_dm, n_eq, n_toN, n_inN, n_ltN, n_nltN, n_neN, Nat.not_lt_zero, false_or, or_false, ite_y, ite_n, if_true, if_false, ite_tt, ite_ff, b_0, b_1, eq_self_iff_true, Bool.true_eq_false, Bool.false_eq_true]
  | true =>
    obtain ⟨r, hr, rfl⟩ := inr_ex (by omega) ha
    obtain ⟨I', f1, f2, f3⟩ := c_isHad (X := X) (d := 14) (L := L) h v hr (by omega)
    refine Both.mk (oI (ltp (100 * w 3) (if (had0 w r).isSome = true then w 4 else 0) 100)) I' (K_X10_often.e X 14 _ I L _ ?_) f2 (fun J L2 hJ => ?_)
    · cases hq : (had0 w r).isSome with
      | false =>
        rw [hq] at f1
        simp (disch := omega) only [c_hasRider h v, ha, f1, c_leastToPay f3 v, a_bi_i, a_bv_n, a_bl_l, a_bq_q, l_0, l_1, l_2, l_3, l_4, l_5, l_6, l_7, l_8, l_9, l_10, l_12, l_16, l_20, l_24, l_25, l_31, l_32, l_33, l_40, l_48, l_57, l_60, l_63, l_64, l_78, l_85, l_97, l_99, l_100, l_122, l_255, l_325, l_700, l_999, l_1000, l_1200, l_99999, l_100000, l_1000000, l_2000000000, l_N, n_add, n_mul, n_lt, n_out, n_div, n_dm, n_eq, n_toN, n_inN, n_ltN, n_nltN, n_neN, Nat.not_lt_zero, false_or, or_false, ite_y, ite_n, if_true, if_false, ite_tt, ite_ff, b_0, b_1, eq_self_iff_true, Bool.true_eq_false, Bool.false_eq_true]
      | true =>
        rw [hq] at f1
        simp (disch := omega) only [c_hasRider h v, ha, f1, c_fineSum f3 v, c_leastToPay f3 v, a_bi_i, a_bv_n, a_bl_l, a_bq_q, l_0, l_1, l_2, l_3, l_4, l_5, l_6, l_7, l_8, l_9, l_10, l_12, l_16, l_20, l_24, l_25, l_31, l_32, l_33, l_40, l_48, l_57, l_60, l_63, l_64, l_78, l_85, l_97, l_99, l_100, l_122, l_255, l_325, l_700, l_999, l_1000, l_1200, l_99999, l_100000, l_1000000, l_2000000000, l_N, n_add, n_mul, n_lt, n_out, n_div, n_dm, n_eq, n_toN, n_inN, n_ltN, n_nltN, n_neN, Nat.not_lt_zero, false_or, or_false, ite_y, ite_n, if_true, if_false, ite_tt, ite_ff, b_0, b_1, eq_self_iff_true, Bool.true_eq_false, Bool.false_eq_true]
    · have hp : fnd 101 (fun o => pyF w r (w 4) o) = ltp (100 * w 3) (if (had0 w r).isSome = true then w 4 else 0) 100 := by
        rw [← ltp_fnd]
        refine fnd_eq fun o _ => ?_
        unfold pyF
        cases (had0 w r).isSome <;> simp
      obtain ⟨K, ⟨k1, k2⟩, k3⟩ := find_loopS (F := fun o (K : A3 Int32) => v_X11_often_13 X 14 (nI r) (nI o) (K, L2, ())) (P := fun K => Sm J K ∧ TM K w) (st := fun K => (K, L2, ())) (T := 101) (p := fun o => pyF w r (w 4) o) (fun o K ho hP => by
        obtain ⟨K', g1, g2, g3⟩ := m_pays (X := X) (d := 14) (L := L2) (o := o) hP.2 v hr h4 (by omega) (by omega)
        refine ⟨fun hq => ⟨K', ⟨hP.1.trans g2, g3⟩, v_X11_often_13.e X 14 _ _ K L2 _ ?_⟩, fun hq => ⟨K', ⟨hP.1.trans g2, g3⟩, fun z hz => v_X11_often_13.e X 14 _ _ K L2 _ ?_⟩⟩
        · simp (disch := omega) only [hP.2 4 (by decide), g1, hq, a_bi_i, a_bv_n, a_bl_l, a_bq_q, l_0, l_1, l_2, l_3, l_4, l_5, l_6, l_7, l_8, l_9, l_10, l_12, l_16, l_20, l_24, l_25, l_31, l_32, l_33, l_40, l_48, l_57, l_60, l_63, l_64, l_78, l_85, l_97, l_99, l_100, l_122, l_255, l_325, l_700, l_999, l_1000, l_1200, l_99999, l_100000, l_1000000, l_2000000000, l_N, n_add, n_mul, n_lt, n_out, n_div, n_dm, n_eq, n_toN, n_inN, n_ltN, n_nltN, n_neN, Nat.not_lt_zero, false_or, or_false, ite_y, ite_n, if_true, if_false, ite_tt, ite_ff, b_0, b_1, eq_self_iff_true, Bool.true_eq_false, Bool.false_eq_true]
        · simp (disch := omega) only [hP.2 4 (by decide), g1, hq, a_bi_i, a_bv_n, a_bl_l, a_bq_q, l_0, l_1, l_2, l_3, l_4, l_5, l_6, l_7, l_8, l_9, l_10, l_12, l_16, l_20, l_24, l_25, l_31, l_32, l_33, l_40, l_48, l_57, l_60, l_63, l_64, l_78, l_85, l_97, l_99, l_100, l_122, l_255, l_325, l_700, l_999, l_1000, l_1200, l_99999, l_100000, l_1000000, l_2000000000, l_N, n_add, n_mul, n_lt, n_out, n_div, n_dm, n_eq, n_toN, n_inN, n_ltN, n_nltN, n_neN, Nat.not_lt_zero, false_or, or_false, ite_y, ite_n, if_true, if_false, ite_tt, ite_ff, b_0, b_1, eq_self_iff_true, Bool.true_eq_false, Bool.false_eq_true]
          exact hz) (fun K hP => ⟨K, hP, v_X11_often_13.e X 14 _ _ K L2 _ (by simp (disch := omega) only [a_bi_i, a_bv_n, a_bl_l, a_bq_q, l_0, l_1, l_2, l_3, l_4, l_5, l_6, l_7, l_8, l_9, l_10, l_12, l_16, l_20, l_24, l_25, l_31, l_32, l_33, l_40, l_48, l_57, l_60, l_63, l_64, l_78, l_85, l_97, l_99, l_100, l_122, l_255, l_325, l_700, l_999, l_1000, l_1200, l_99999, l_100000, l_1000000, l_2000000000, l_N, n_add, n_mul, n_lt, n_out, n_div, n_dm, n_eq, n_toN, n_inN, n_ltN, n_nltN, n_neN, Nat.not_lt_zero, false_or, or_false, ite_y, ite_n, if_true, if_false, ite_tt, ite_ff, b_0, b_1, eq_self_iff_true, Bool.true_eq_false, Bool.false_eq_true])⟩) J ⟨Sm.refl, hJ⟩
      refine ⟨K, K_X11_often.e X 14 _ J L2 _ ?_, k1⟩
      simp (disch := omega) only [m_isRider hJ v, ha, a_bi_i, a_bv_n, a_bl_l, a_bq_q, l_0, l_1, l_2, l_3, l_4, l_5, l_6, l_7, l_8, l_9, l_10, l_12, l_16, l_20, l_24, l_25, l_31, l_32, l_33, l_40, l_48, l_57, l_60, l_63, l_64, l_78, l_85, l_97, l_99, l_100, l_122, l_255, l_325, l_700, l_999, l_1000, l_1200, l_99999, l_100000, l_1000000, l_2000000000, l_N, n_add, n_mul, n_lt, n_out, n_div, n_dm, n_eq, n_toN, n_inN, n_ltN, n_nltN, n_neN, Nat.not_lt_zero, false_or, or_false, ite_y, ite_n, if_true, if_false, ite_tt, ite_ff, b_0, b_1, eq_self_iff_true, Bool.true_eq_false, Bool.false_eq_true]
      rw [← hp]
      exact k3
theorem inr_1 {b : Int32} {n : Nat} (hn : n < 2147483647) (h : inr b (n + 1) = false) : b < nI 0 ∨ nI n < b := by
  rcases inr_no h with q | q
  · exact Or.inl q
  · right
    rw [Int32.lt_iff_toInt_lt] at q ⊢
    rw [n_toInt (by omega)] at q ⊢
    omega
theorem q_learns (h : TC I w) (v : Vw w) (a b : Int32) : Both w (K_X10_learns X 15 a b) (K_X11_learns X 15 a b) I L := by
  obtain ⟨⟨h0, h1, h2, h3, h4, h5, h6, -⟩, -, vc, vi, vr, vd⟩ := id v
  have hM : ∀ J : A3 Int32, ∀ L2 : A3 Int64, K_X11_in X 14 b.toInt64 (0 : Int64) (7 : Int64) (J, L2, ()) = some (some (aI (bI (inr b 8))), (J, L2, ())) := fun J L2 => by
    rw [m_in (by omega), inL_k (n := 8) (by decide) rfl]
  cases ha : inr a (w 6) with
  | false =>
    refine Both.pure (-2) (K_X10_learns.e X 14 a b I L _ ?_) (fun J L2 h => K_X11_learns.e X 14 a b J L2 _ ?_)
    · simp (disch := omega) only [c_hasRider h v, ha, a_bi_i, a_bv_n, a_bl_l, a_bq_q, l_0, l_1, l_2, l_3, l_4, l_5, l_6, l_7, l_8, l_9, l_10, l_12, l_16, l_20, l_24, l_25, l_31, l_32, l_33, l_40, l_48, l_57, l_60, l_63, l_64, l_78, l_85, l_97, l_99, l_100, l_122, l_255, l_325, l_700, l_999, l_1000, l_1200, l_99999, l_100000, l_1000000, l_2000000000, l_N, n_add, n_mul, n_lt, n_out, n_div, n_dm, n_eq, n_toN, n_inN, n_ltN, n_nltN, n_neN, Nat.not_lt_zero, false_or, or_false, ite_y, ite_n, if_true, if_false, ite_tt, ite_ff, b_0, b_1, eq_self_iff_true, Bool.true_eq_false, Bool.false_eq_true]
    · simp (disch := omega) only [m_isRider h v, ha, a_bi_i, a_bv_n, a_bl_l, a_bq_q, l_0, l_1, l_2, l_3, l_4, l_5, l_6, l_7, l_8, l_9, l_10, l_12, l_16, l_20, l_24, l_25, l_31, l_32, l_33, l_40, l_48, l_57, l_60, l_63, l_64, l_78, l_85, l_97, l_99, l_100, l_122, l_255, l_325, l_700, l_999, l_1000, l_1200, l_99999, l_100000, l_1000000, l_2000000000, l_N, n_add, n_mul, n_lt, n_out, n_div, n_dm, n_eq, n_toN, n_inN, n_ltN, n_nltN, n_neN, Nat.not_lt_zero, false_or, or_false, ite_y, ite_n, if_true, if_false, ite_tt, ite_ff, b_0, b_1, eq_self_iff_true, Bool.true_eq_false, Bool.false_eq_true]
  | true =>
    obtain ⟨r, hr, rfl⟩ := inr_ex (by omega) ha
    cases hb : inr b 8 with
    | false =>
      refine Both.pure (-2) (K_X10_learns.e X 14 _ b I L _ ?_) (fun J L2 h => K_X11_learns.e X 14 _ b J L2 _ ?_)
      · simp (disch := omega) only [c_hasRider h v, ha, a_bi_i, a_bv_n, a_bl_l, a_bq_q, l_0, l_1, l_2, l_3, l_4, l_5, l_6, l_7, l_8, l_9, l_10, l_12, l_16, l_20, l_24, l_25, l_31, l_32, l_33, l_40, l_48, l_57, l_60, l_63, l_64, l_78, l_85, l_97, l_99, l_100, l_122, l_255, l_325, l_700, l_999, l_1000, l_1200, l_99999, l_100000, l_1000000, l_2000000000, l_N, n_add, n_mul, n_lt, n_out, n_div, n_dm, n_eq, n_toN, n_inN, n_ltN, n_nltN, n_neN, Nat.not_lt_zero, false_or, or_false, ite_y, ite_n, if_true, if_false, ite_tt, ite_ff, b_0, b_1, eq_self_iff_true, Bool.true_eq_false, Bool.false_eq_true]
        rcases inr_1 (n := 7) (by decide) hb with h7 | h7 <;> simp only [h7, if_true, ite_self]
      · simp (disch := omega) only [m_isRider h v, hM, ha, hb, a_bi_i, a_bv_n, a_bl_l, a_bq_q, l_0, l_1, l_2, l_3, l_4, l_5, l_6, l_7, l_8, l_9, l_10, l_12, l_16, l_20, l_24, l_25, l_31, l_32, l_33, l_40, l_48, l_57, l_60, l_63, l_64, l_78, l_85, l_97, l_99, l_100, l_122, l_255, l_325, l_700, l_999, l_1000, l_1200, l_99999, l_100000, l_1000000, l_2000000000, l_N, n_add, n_mul, n_lt, n_out, n_div, n_dm, n_eq, n_toN, n_inN, n_ltN, n_nltN, n_neN, Nat.not_lt_zero, false_or, or_false, ite_y, ite_n, if_true, if_false, ite_tt, ite_ff, b_0, b_1, eq_self_iff_true, Bool.true_eq_false, Bool.false_eq_true]
    | true =>
      obtain ⟨k, hk, rfl⟩ := inr_ex (by omega) hb
      obtain ⟨I', f1, f2, f3⟩ := c_isHad (X := X) (d := 14) (L := L) h v hr (by omega)
      refine Both.mk (nI ((if pyF w r (w 4) 100 = true then k else 0) + (if pyF w r (w 4) 0 = true then 7 - k else 0))) I' (K_X10_learns.e X 14 _ _ I L _ ?_) f2 (fun J L2 hJ => ?_)
      · simp (disch := omega) only [c_hasRider h v, ha, f1, c_fineSum f3 v, c_pays f3 v, n_sub, a_bi_i, a_bv_n, a_bl_l, a_bq_q, l_0, l_1, l_2, l_3, l_4, l_5, l_6, l_7, l_8, l_9, l_10, l_12, l_16, l_20, l_24, l_25, l_31, l_32, l_33, l_40, l_48, l_57, l_60, l_63, l_64, l_78, l_85, l_97, l_99, l_100, l_122, l_255, l_325, l_700, l_999, l_1000, l_1200, l_99999, l_100000, l_1000000, l_2000000000, l_N, n_add, n_mul, n_lt, n_out, n_div, n_dm, n_eq, n_toN, n_inN, n_ltN, n_nltN, n_neN, Nat.not_lt_zero, false_or, or_false, ite_y, ite_n, if_true, if_false, ite_tt, ite_ff, b_0, b_1, eq_self_iff_true, Bool.true_eq_false, Bool.false_eq_true]
        cases pyF w r (w 4) 100 <;> cases pyF w r (w 4) 0 <;> simp
      · obtain ⟨J1, g1, g2, g3⟩ := m_pays (X := X) (d := 14) (L := L2) (o := 100) hJ v hr h4 (by omega) (by omega)
        obtain ⟨J2, k1, k2, k3⟩ := m_pays (X := X) (d := 14) (L := L2) (o := 0) g3 v hr h4 (by omega) (by omega)
        refine ⟨J2, K_X11_learns.e X 14 _ _ J L2 _ ?_, g2.trans k2⟩
        simp (disch := omega) only [m_isRider hJ v, hM, ha, hb, hJ 4 (by decide), g3 4 (by decide), g1, k1, n_sub, a_bi_i, a_bv_n, a_bl_l, a_bq_q, l_0, l_1, l_2, l_3, l_4, l_5, l_6, l_7, l_8, l_9, l_10, l_12, l_16, l_20, l_24, l_25, l_31, l_32, l_33, l_40, l_48, l_57, l_60, l_63, l_64, l_78, l_85, l_97, l_99, l_100, l_122, l_255, l_325, l_700, l_999, l_1000, l_1200, l_99999, l_100000, l_1000000, l_2000000000, l_N, n_add, n_mul, n_lt, n_out, n_div, n_dm, n_eq, n_toN, n_inN, n_ltN, n_nltN, n_neN, Nat.not_lt_zero, false_or, or_false, ite_y, ite_n, if_true, if_false, ite_tt, ite_ff, b_0, b_1, eq_self_iff_true, Bool.true_eq_false, Bool.false_eq_true]
        cases pyF w r (w 4) 100 <;> cases pyF w r (w 4) 0 <;> simp
/-! Euclid -/
theorem mod_half {x y : Nat} (hy : 0 < y) (hz : 0 < x % y) : 2 * (y % (x % y)) < y := by
  have h1 := Nat.mod_lt x hy
  have h2 := Nat.mod_lt y hz
  have h3 := Nat.div_add_mod y (x % y)
  have h4 : 1 ≤ y / (x % y) := Nat.div_pos (by omega) hz
  have h5 : x % y * 1 ≤ x % y * (y / (x % y)) := Nat.mul_le_mul_left _ h4
  omega
theorem c_gcd_loop : ∀ (k x y i : Nat), x < 2147483648 → y < 2 ^ k → k ≤ 20 → i + 2 * k + 1 ≤ 64 → v_X10_commonDivisor_7 X d (nI x) (nI y) (nI i) (I, L, ()) = some (some (aI (nI (Nat.gcd x y))), (I, L, ())) := by
  intro k
  induction k with
  | zero =>
    intro x y i hx hy _ hi
    have : y = 0 := by simpa using hy
    subst this
    refine v_X10_commonDivisor_7.e X d _ _ _ I L _ ?_
    simp (disch := omega) only [a_bi_i, a_bv_n, a_bl_l, a_bq_q, l_0, l_1, l_2, l_3, l_4, l_5, l_6, l_7, l_8, l_9, l_10, l_12, l_16, l_20, l_24, l_25, l_31, l_32, l_33, l_40, l_48, l_57, l_60, l_63, l_64, l_78, l_85, l_97, l_99, l_100, l_122, l_255, l_325, l_700, l_999, l_1000, l_1200, l_99999, l_100000, l_1000000, l_2000000000, l_N, n_add, n_mul, n_lt, n_out, n_div, n_dm, n_eq, n_toN, n_inN, n_ltN, n_nltN, n_neN, Nat.not_lt_zero, false_or, or_false, ite_y, ite_n, if_true, if_false, ite_tt, ite_ff, b_0, b_1, eq_self_iff_true, Bool.true_eq_false, Bool.false_eq_true, Nat.gcd_zero_right]
  | succ k ih =>
    intro x y i hx hy hk hi
    have hp : 2 ^ (k + 1) ≤ 2 ^ 20 := Nat.pow_le_pow_right (by decide) hk
    have hp' : (2 : Nat) ^ 20 = 1048576 := by decide
    have hpk : 2 ^ (k + 1) = 2 * 2 ^ k := by rw [Nat.pow_succ, Nat.mul_comm]
    by_cases h0 : y = 0
    · subst h0
      refine v_X10_commonDivisor_7.e X d _ _ _ I L _ ?_
      simp (disch := omega) only [a_bi_i, a_bv_n, a_bl_l, a_bq_q, l_0, l_1, l_2, l_3, l_4, l_5, l_6, l_7, l_8, l_9, l_10, l_12, l_16, l_20, l_24, l_25, l_31, l_32, l_33, l_40, l_48, l_57, l_60, l_63, l_64, l_78, l_85, l_97, l_99, l_100, l_122, l_255, l_325, l_700, l_999, l_1000, l_1200, l_99999, l_100000, l_1000000, l_2000000000, l_N, n_add, n_mul, n_lt, n_out, n_div, n_dm, n_eq, n_toN, n_inN, n_ltN, n_nltN, n_neN, Nat.not_lt_zero, false_or, or_false, ite_y, ite_n, if_true, if_false, ite_tt, ite_ff, b_0, b_1, eq_self_iff_true, Bool.true_eq_false, Bool.false_eq_true, Nat.gcd_zero_right]
    · have hm := Nat.mod_lt x (show 0 < y by omega)
      have e1 : Nat.gcd x y = Nat.gcd y (x % y) := by rw [Nat.gcd_comm, Nat.gcd_rec, Nat.gcd_comm]
      refine v_X10_commonDivisor_7.e X d _ _ _ I L _ ?_
      simp (disch := omega) only [a_bi_i, a_bv_n, a_bl_l, a_bq_q, l_0, l_1, l_2, l_3, l_4, l_5, l_6, l_7, l_8, l_9, l_10, l_12, l_16, l_20, l_24, l_25, l_31, l_32, l_33, l_40, l_48, l_57, l_60, l_63, l_64, l_78, l_85, l_97, l_99, l_100, l_122, l_255, l_325, l_700, l_999, l_1000, l_1200, l_99999, l_100000, l_1000000, l_2000000000, l_N, n_add, n_mul, n_lt, n_out, n_div, n_dm, n_eq, n_toN, n_inN, n_ltN, n_nltN, n_neN, Nat.not_lt_zero, false_or, or_false, ite_y, ite_n, if_true, if_false, ite_tt, ite_ff, b_0, b_1, eq_self_iff_true, Bool.true_eq_false, Bool.false_eq_true, h0]
      rw [e1]
      by_cases h1 : x % y = 0
      · rw [h1]
        refine v_X10_commonDivisor_7.e X d _ _ _ I L _ ?_
        simp (disch := omega) only [a_bi_i, a_bv_n, a_bl_l, a_bq_q, l_0, l_1, l_2, l_3, l_4, l_5, l_6, l_7, l_8, l_9, l_10, l_12, l_16, l_20, l_24, l_25, l_31, l_32, l_33, l_40, l_48, l_57, l_60, l_63, l_64, l_78, l_85, l_97, l_99, l_100, l_122, l_255, l_325, l_700, l_999, l_1000, l_1200, l_99999, l_100000, l_1000000, l_2000000000, l_N, n_add, n_mul, n_lt, n_out, n_div, n_dm, n_eq, n_toN, n_inN, n_ltN, n_nltN, n_neN, Nat.not_lt_zero, false_or, or_false, ite_y, ite_n, if_true, if_false, ite_tt, ite_ff, b_0, b_1, eq_self_iff_true, Bool.true_eq_false, Bool.false_eq_true, Nat.gcd_zero_right]
      · have hh := mod_half (show 0 < y by omega) (show 0 < x % y by omega)
        have e2 : Nat.gcd y (x % y) = Nat.gcd (x % y) (y % (x % y)) := by rw [Nat.gcd_comm, Nat.gcd_rec, Nat.gcd_comm]
        refine v_X10_commonDivisor_7.e X d _ _ _ I L _ ?_
        simp (disch := omega) only [a_bi_i, a_bv_n, a_bl_l, a_bq_q, l_0, l_1, l_2, l_3, l_4, l_5, l_6, l_7, l_8, l_9, l_10, l_12, l_16, l_20, l_24, l_25, l_31, l_32, l_33, l_40, l_48, l_57, l_60, l_63, l_64, l_78, l_85, l_97, l_99, l_100, l_122, l_255, l_325, l_700, l_999, l_1000, l_1200, l_99999, l_100000, l_1000000, l_2000000000, l_N, n_add, n_mul, n_lt, n_out, n_div, n_dm, n_eq, n_toN, n_inN, n_ltN, n_nltN, n_neN, Nat.not_lt_zero, false_or, or_false, ite_y, ite_n, if_true, if_false, ite_tt, ite_ff, b_0, b_1, eq_self_iff_true, Bool.true_eq_false, Bool.false_eq_true, h1]
        rw [e2]
        exact ih _ _ _ (by omega) (by omega) (by omega) (by omega)
theorem m_gcd_loop : ∀ (k x y : Nat), x < 2147483648 → y < 2 ^ k → k ≤ 20 → v_X11_divisor_4 X d (nI x) (nI y) (I, L, ()) = some (some (aI (nI (Nat.gcd x y))), (I, L, ())) := by
  intro k
  induction k with
  | zero =>
    intro x y hx hy _
    have : y = 0 := by simpa using hy
    subst this
    refine v_X11_divisor_4.e X d _ _ I L _ ?_
    simp (disch := omega) only [a_bi_i, a_bv_n, a_bl_l, a_bq_q, l_0, l_1, l_2, l_3, l_4, l_5, l_6, l_7, l_8, l_9, l_10, l_12, l_16, l_20, l_24, l_25, l_31, l_32, l_33, l_40, l_48, l_57, l_60, l_63, l_64, l_78, l_85, l_97, l_99, l_100, l_122, l_255, l_325, l_700, l_999, l_1000, l_1200, l_99999, l_100000, l_1000000, l_2000000000, l_N, n_add, n_mul, n_lt, n_out, n_div, n_dm, n_eq, n_toN, n_inN, n_ltN, n_nltN, n_neN, Nat.not_lt_zero, false_or, or_false, ite_y, ite_n, if_true, if_false, ite_tt, ite_ff, b_0, b_1, eq_self_iff_true, Bool.true_eq_false, Bool.false_eq_true, Nat.gcd_zero_right]
  | succ k ih =>
    intro x y hx hy hk
    have hp : 2 ^ (k + 1) ≤ 2 ^ 20 := Nat.pow_le_pow_right (by decide) hk
    have hp' : (2 : Nat) ^ 20 = 1048576 := by decide
    have hpk : 2 ^ (k + 1) = 2 * 2 ^ k := by rw [Nat.pow_succ, Nat.mul_comm]
    by_cases h0 : y = 0
    · subst h0
      refine v_X11_divisor_4.e X d _ _ I L _ ?_
      simp (disch := omega) only [a_bi_i, a_bv_n, a_bl_l, a_bq_q, l_0, l_1, l_2, l_3, l_4, l_5, l_6, l_7, l_8, l_9, l_10, l_12, l_16, l_20, l_24, l_25, l_31, l_32, l_33, l_40, l_48, l_57, l_60, l_63, l_64, l_78, l_85, l_97, l_99, l_100, l_122, l_255, l_325, l_700, l_999, l_1000, l_1200, l_99999, l_100000, l_1000000, l_2000000000, l_N, n_add, n_mul, n_lt, n_out, n_div, n_dm, n_eq, n_toN, n_inN, n_ltN, n_nltN, n_neN, Nat.not_lt_zero, false_or, or_false, ite_y, ite_n, if_true, if_false, ite_tt, ite_ff, b_0, b_1, eq_self_iff_true, Bool.true_eq_false, Bool.false_eq_true, Nat.gcd_zero_right]
    · have hm := Nat.mod_lt x (show 0 < y by omega)
      have e1 : Nat.gcd x y = Nat.gcd y (x % y) := by rw [Nat.gcd_comm, Nat.gcd_rec, Nat.gcd_comm]
      refine v_X11_divisor_4.e X d _ _ I L _ ?_
      simp (disch := omega) only [a_bi_i, a_bv_n, a_bl_l, a_bq_q, l_0, l_1, l_2, l_3, l_4, l_5, l_6, l_7, l_8, l_9, l_10, l_12, l_16, l_20, l_24, l_25, l_31, l_32, l_33, l_40, l_48, l_57, l_60, l_63, l_64, l_78, l_85, l_97, l_99, l_100, l_122, l_255, l_325, l_700, l_999, l_1000, l_1200, l_99999, l_100000, l_1000000, l_2000000000, l_N, n_add, n_mul, n_lt, n_out, n_div, n_dm, n_eq, n_toN, n_inN, n_ltN, n_nltN, n_neN, Nat.not_lt_zero, false_or, or_false, ite_y, ite_n, if_true, if_false, ite_tt, ite_ff, b_0, b_1, eq_self_iff_true, Bool.true_eq_false, Bool.false_eq_true, h0]
      rw [e1]
      by_cases h1 : x % y = 0
      · rw [h1]
        refine v_X11_divisor_4.e X d _ _ I L _ ?_
        simp (disch := omega) only [a_bi_i, a_bv_n, a_bl_l, a_bq_q, l_0, l_1, l_2, l_3, l_4, l_5, l_6, l_7, l_8, l_9, l_10, l_12, l_16, l_20, l_24, l_25, l_31, l_32, l_33, l_40, l_48, l_57, l_60, l_63, l_64, l_78, l_85, l_97, l_99, l_100, l_122, l_255, l_325, l_700, l_999, l_1000, l_1200, l_99999, l_100000, l_1000000, l_2000000000, l_N, n_add, n_mul, n_lt, n_out, n_div, n_dm, n_eq, n_toN, n_inN, n_ltN, n_nltN, n_neN, Nat.not_lt_zero, false_or, or_false, ite_y, ite_n, if_true, if_false, ite_tt, ite_ff, b_0, b_1, eq_self_iff_true, Bool.true_eq_false, Bool.false_eq_true, Nat.gcd_zero_right]
      · have hh := mod_half (show 0 < y by omega) (show 0 < x % y by omega)
        have e2 : Nat.gcd y (x % y) = Nat.gcd (x % y) (y % (x % y)) := by rw [Nat.gcd_comm, Nat.gcd_rec, Nat.gcd_comm]
        refine v_X11_divisor_4.e X d _ _ I L _ ?_
        simp (disch := omega) only [a_bi_i, a_bv_n, a_bl_l, a_bq_q, l_0, l_1, l_2, l_3, l_4, l_5, l_6, l_7, l_8, l_9, l_10, l_12, l_16, l_20, l_24, l_25, l_31, l_32, l_33, l_40, l_48, l_57, l_60, l_63, l_64, l_78, l_85, l_97, l_99, l_100, l_122, l_255, l_325, l_700, l_999, l_1000, l_1200, l_99999, l_100000, l_1000000, l_2000000000, l_N, n_add, n_mul, n_lt, n_out, n_div, n_dm, n_eq, n_toN, n_inN, n_ltN, n_nltN, n_neN, Nat.not_lt_zero, false_or, or_false, ite_y, ite_n, if_true, if_false, ite_tt, ite_ff, b_0, b_1, eq_self_iff_true, Bool.true_eq_false, Bool.false_eq_true, h1]
        rw [e2]
        exact ih _ _ (by omega) (by omega) (by omega)
theorem c_gcd {x : Nat} (hx : x < 2147483648) (hd : 1 ≤ d) : K_X10_commonDivisor X d (nI x) (nI 700) (I, L, ()) = some (some (aI (nI (Nat.gcd x 700))), (I, L, ())) := by
  obtain ⟨e, rfl⟩ : ∃ e, d = e + 1 := ⟨d - 1, by omega⟩
  exact K_X10_commonDivisor.e X e _ _ I L _ (c_gcd_loop 10 x 700 0 hx (by decide) (by decide) (by decide))
theorem m_gcd {x : Nat} (hx : x < 2147483648) (hd : 1 ≤ d) : K_X11_divisor X d (nI x) (nI 700) (I, L, ()) = some (some (aI (nI (Nat.gcd x 700))), (I, L, ())) := by
  obtain ⟨e, rfl⟩ : ∃ e, d = e + 1 := ⟨d - 1, by omega⟩
  exact K_X11_divisor.e X e _ _ I L _ (m_gcd_loop 10 x 700 hx (by decide) (by decide))
def abF (w : TW) (r : Nat) : Nat → Nat
  | 0 => 0
  | k + 1 => abF w r k + (if (had0 w r).isSome = true then w 4 * w (78 + k) else 0)
theorem abF_le (v : Vw w) (r : Nat) : ∀ k, k ≤ 7 → abF w r k ≤ 99900 * k := by
  obtain ⟨⟨h0, h1, h2, h3, h4, h5, h6, -⟩, -, vc, vi, vr, vd⟩ := id v
  intro k
  induction k with
  | zero => intro _; exact Nat.le_refl _
  | succ k ih =>
    intro hk
    have := mul_small h4 (vd k (by omega))
    have := ih (by omega)
    unfold abF
    split <;> omega
theorem q_mean (h : TC I w) (v : Vw w) (a b : Int32) : Both w (K_X10_mean X 15 a b) (K_X11_mean X 15 a b) I L := by
  obtain ⟨⟨h0, h1, h2, h3, h4, h5, h6, -⟩, -, vc, vi, vr, vd⟩ := id v
  have hM : ∀ J : A3 Int32, ∀ L2 : A3 Int64, K_X11_in X 14 b.toInt64 (0 : Int64) (1 : Int64) (J, L2, ()) = some (some (aI (bI (inr b 2))), (J, L2, ())) := fun J L2 => by
    rw [m_in (by omega), inL_k (n := 2) (by decide) rfl]
  cases ha : inr a (w 6) with
  | false =>
    refine Both.pure (-2) (K_X10_mean.e X 14 a b I L _ ?_) (fun J L2 h => K_X11_mean.e X 14 a b J L2 _ ?_)
    · simp (disch := omega) only [c_hasRider h v, ha, a_bi_i, a_bv_n, a_bl_l, a_bq_q, l_0, l_1, l_2, l_3, l_4, l_5, l_6, l_7, l_8, l_9, l_10, l_12, l_16, l_20, l_24, l_25, l_31, l_32, l_33, l_40, l_48, l_57, l_60, l_63, l_64, l_78, l_85, l_97, l_99, l_100, l_122, l_255, l_325, l_700, l_999, l_1000, l_1200, l_99999, l_100000, l_1000000, l_2000000000, l_N, n_add, n_mul, n_lt, n_out, n_div, n_dm, n_eq, n_toN, n_inN, n_ltN, n_nltN, n_neN, Nat.not_lt_zero, false_or, or_false, ite_y, ite_n, if_true, if_false, ite_tt, ite_ff, b_0, b_1, eq_self_iff_true, Bool.true_eq_false, Bool.false_eq_true]
    · simp (disch := omega) only [m_isRider h v, ha, a_bi_i, a_bv_n, a_bl_l, a_bq_q, l_0, l_1, l_2, l_3, l_4, l_5, l_6, l_7, l_8, l_9, l_10, l_12, l_16, l_20, l_24, l_25, l_31, l_32, l_33, l_40, l_48, l_57, l_60, l_63, l_64, l_78, l_85, l_97, l_99, l_100, l_122, l_255, l_325, l_700, l_999, l_1000, l_1200, l_99999, l_100000, l_1000000, l_2000000000, l_N, n_add, n_mul, n_lt, n_out, n_div, n_dm, n_eq, n_toN, n_inN, n_ltN, n_nltN, n_neN, Nat.not_lt_zero, false_or, or_false, ite_y, ite_n, if_true, if_false, ite_tt, ite_ff, b_0, b_1, eq_self_iff_true, Bool.true_eq_false, Bool.false_eq_true]
  | true =>
    obtain ⟨r, hr, rfl⟩ := inr_ex (by omega) ha
    cases hb : inr b 2 with
    | false =>
      refine Both.pure (-2) (K_X10_mean.e X 14 _ b I L _ ?_) (fun J L2 h => K_X11_mean.e X 14 _ b J L2 _ ?_)
      · simp (disch := omega) only [c_hasRider h v, ha, a_bi_i, a_bv_n, a_bl_l, a_bq_q, l_0, l_1, l_2, l_3, l_4, l_5, l_6, l_7, l_8, l_9, l_10, l_12, l_16, l_20, l_24, l_25, l_31, l_32, l_33, l_40, l_48, l_57, l_60, l_63, l_64, l_78, l_85, l_97, l_99, l_100, l_122, l_255, l_325, l_700, l_999, l_1000, l_1200, l_99999, l_100000, l_1000000, l_2000000000, l_N, n_add, n_mul, n_lt, n_out, n_div, n_dm, n_eq, n_toN, n_inN, n_ltN, n_nltN, n_neN, Nat.not_lt_zero, false_or, or_false, ite_y, ite_n, if_true, if_false, ite_tt, ite_ff, b_0, b_1, eq_self_iff_true, Bool.true_eq_false, Bool.false_eq_true]
        rcases inr_1 (n := 1) (by decide) hb with h7 | h7 <;> simp only [h7, if_true, ite_self]
      · simp (disch := omega) only [m_isRider h v, hM, ha, hb, a_bi_i, a_bv_n, a_bl_l, a_bq_q, l_0, l_1, l_2, l_3, l_4, l_5, l_6, l_7, l_8, l_9, l_10, l_12, l_16, l_20, l_24, l_25, l_31, l_32, l_33, l_40, l_48, l_57, l_60, l_63, l_64, l_78, l_85, l_97, l_99, l_100, l_122, l_255, l_325, l_700, l_999, l_1000, l_1200, l_99999, l_100000, l_1000000, l_2000000000, l_N, n_add, n_mul, n_lt, n_out, n_div, n_dm, n_eq, n_toN, n_inN, n_ltN, n_nltN, n_neN, Nat.not_lt_zero, false_or, or_false, ite_y, ite_n, if_true, if_false, ite_tt, ite_ff, b_0, b_1, eq_self_iff_true, Bool.true_eq_false, Bool.false_eq_true]
    | true =>
      obtain ⟨k, hk, rfl⟩ := inr_ex (by omega) hb
      have hab := abF_le v r 7 (Nat.le_refl _)
      have hg0 : 0 < Nat.gcd (abF w r 7) 700 := Nat.gcd_pos_of_pos_right _ (by decide)
      have hg1 : Nat.gcd (abF w r 7) 700 ≤ 700 := Nat.gcd_le_right _ (by decide)
      obtain ⟨I', f1, f2, f3⟩ := c_isHad (X := X) (d := 14) (L := L) h v hr (by omega)
      refine Both.mk (nI (if k = 0 then abF w r 7 / Nat.gcd (abF w r 7) 700 else 700 / Nat.gcd (abF w r 7) 700)) I' (K_X10_mean.e X 14 _ _ I L _ ?_) f2 (fun J L2 hJ => ?_)
      · simp (disch := omega) only [c_hasRider h v, ha, f1, a_bi_i, a_bv_n, a_bl_l, a_bq_q, l_0, l_1, l_2, l_3, l_4, l_5, l_6, l_7, l_8, l_9, l_10, l_12, l_16, l_20, l_24, l_25, l_31, l_32, l_33, l_40, l_48, l_57, l_60, l_63, l_64, l_78, l_85, l_97, l_99, l_100, l_122, l_255, l_325, l_700, l_999, l_1000, l_1200, l_99999, l_100000, l_1000000, l_2000000000, l_N, n_add, n_mul, n_lt, n_out, n_div, n_dm, n_eq, n_toN, n_inN, n_ltN, n_nltN, n_neN, Nat.not_lt_zero, false_or, or_false, ite_y, ite_n, if_true, if_false, ite_tt, ite_ff, b_0, b_1, eq_self_iff_true, Bool.true_eq_false, Bool.false_eq_true]
        cases hq : (had0 w r).isSome with
        | false =>
          have h0 : abF w r 7 = 0 := by
            have : ∀ k, abF w r k = 0 := fun k => by
              induction k with
              | zero => rfl
              | succ k ih => unfold abF; rw [ih, hq]; rfl
            exact this 7
          rw [h0] at hg0 hg1 ⊢
          simp (disch := omega) only [c_gcd, a_bi_i, a_bv_n, a_bl_l, a_bq_q, l_0, l_1, l_2, l_3, l_4, l_5, l_6, l_7, l_8, l_9, l_10, l_12, l_16, l_20, l_24, l_25, l_31, l_32, l_33, l_40, l_48, l_57, l_60, l_63, l_64, l_78, l_85, l_97, l_99, l_100, l_122, l_255, l_325, l_700, l_999, l_1000, l_1200, l_99999, l_100000, l_1000000, l_2000000000, l_N, n_add, n_mul, n_lt, n_out, n_div, n_dm, n_eq, n_toN, n_inN, n_ltN, n_nltN, n_neN, Nat.not_lt_zero, false_or, or_false, ite_y, ite_n, if_true, if_false, ite_tt, ite_ff, b_0, b_1, eq_self_iff_true, Bool.true_eq_false, Bool.false_eq_true]
          by_cases h9 : k = 0
          · simp only [h9, if_true]
          · simp only [h9, if_false]
        | true =>
          simp only [Bool.true_eq_false, if_false]
          obtain ⟨x, x1, x2⟩ := loop_z (F := fun j (x : Int32) => v_X10_mean_36 X 14 (nI k) x (nI j) (I', L, ())) (P := fun j x => x = nI (abF w r j)) 7 (nI 0) rfl (fun j x hj hP => by
            subst hP
            refine ⟨_, rfl, fun z hz => ?_⟩
            refine v_X10_mean_36.e X 14 _ _ _ I' L z ?_
            unfold abF at hz
            rw [hq] at hz
            simp (disch := omega) only [c_fineSum f3 v, f3.2.2.2.2 j hj, a_bi_i, a_bv_n, a_bl_l, a_bq_q, l_0, l_1, l_2, l_3, l_4, l_5, l_6, l_7, l_8, l_9, l_10, l_12, l_16, l_20, l_24, l_25, l_31, l_32, l_33, l_40, l_48, l_57, l_60, l_63, l_64, l_78, l_85, l_97, l_99, l_100, l_122, l_255, l_325, l_700, l_999, l_1000, l_1200, l_99999, l_100000, l_1000000, l_2000000000, l_N, n_add, n_mul, n_lt, n_out, n_div, n_dm, n_eq, n_toN, n_inN, n_ltN, n_nltN, n_neN, Nat.not_lt_zero, false_or, or_false, ite_y, ite_n, if_true, if_false, ite_tt, ite_ff, b_0, b_1, eq_self_iff_true, Bool.true_eq_false, Bool.false_eq_true] at hz ⊢
            exact hz)
          refine x2 _ (v_X10_mean_36.e X 14 _ _ _ I' L _ ?_)
          rw [x1]
          simp (disch := omega) only [c_gcd, a_bi_i, a_bv_n, a_bl_l, a_bq_q, l_0, l_1, l_2, l_3, l_4, l_5, l_6, l_7, l_8, l_9, l_10, l_12, l_16, l_20, l_24, l_25, l_31, l_32, l_33, l_40, l_48, l_57, l_60, l_63, l_64, l_78, l_85, l_97, l_99, l_100, l_122, l_255, l_325, l_700, l_999, l_1000, l_1200, l_99999, l_100000, l_1000000, l_2000000000, l_N, n_add, n_mul, n_lt, n_out, n_div, n_dm, n_eq, n_toN, n_inN, n_ltN, n_nltN, n_neN, Nat.not_lt_zero, false_or, or_false, ite_y, ite_n, if_true, if_false, ite_tt, ite_ff, b_0, b_1, eq_self_iff_true, Bool.true_eq_false, Bool.false_eq_true]
          by_cases h9 : k = 0
          · simp only [h9, if_true]
          · simp only [h9, if_false]
      · obtain ⟨⟨x', K⟩, ⟨y1, y2, y3⟩, y4⟩ := loop_z (F := fun j (s : Int32 × A3 Int32) => v_X11_mean_26 X 14 (nI r) (nI k) s.1 (nI j) (s.2, L2, ())) (P := fun j s => s.1 = nI (abF w r j) ∧ Sm J s.2 ∧ TM s.2 w) 7 (nI 0, J) ⟨rfl, Sm.refl, hJ⟩ (fun j s hj hP => by
          obtain ⟨x, K⟩ := s
          obtain ⟨p1, p2, p3⟩ := hP
          simp only at p1 p2 p3
          subst p1
          obtain ⟨K', k1, k2, k3, -⟩ := m_hadOf (X := X) (d := 14) (L := L2) p3 v hr (by omega)
          refine ⟨(nI (abF w r (j + 1)), K'), ⟨rfl, p2.trans k2, k3⟩, fun z hz => ?_⟩
          refine v_X11_mean_26.e X 14 _ _ _ _ K L2 z ?_
          unfold abF at hz
          cases hq : had0 w r with
          | none =>
            rw [hq] at hz k1
            simp (disch := omega) only [k1, oI, Option.isSome_none, a_bi_i, a_bv_n, a_bl_l, a_bq_q, l_0, l_1, l_2, l_3, l_4, l_5, l_6, l_7, l_8, l_9, l_10, l_12, l_16, l_20, l_24, l_25, l_31, l_32, l_33, l_40, l_48, l_57, l_60, l_63, l_64, l_78, l_85, l_97, l_99, l_100, l_122, l_255, l_325, l_700, l_999, l_1000, l_1200, l_99999, l_100000, l_1000000, l_2000000000, l_N, n_add, n_mul, n_lt, n_out, n_div, n_dm, n_eq, n_toN, n_inN, n_ltN, n_nltN, n_neN, Nat.not_lt_zero, false_or, or_false, ite_y, ite_n, if_true, if_false, ite_tt, ite_ff, b_0, b_1, eq_self_iff_true, Bool.true_eq_false, Bool.false_eq_true] at hz ⊢
            exact hz
          | some m =>
            have := had_1000 v r m hq
            rw [hq] at hz k1
            simp (disch := omega) only [k1, oI, k3 4 (by decide), k3 (78 + j) (by omega), Option.isSome_some, a_bi_i, a_bv_n, a_bl_l, a_bq_q, l_0, l_1, l_2, l_3, l_4, l_5, l_6, l_7, l_8, l_9, l_10, l_12, l_16, l_20, l_24, l_25, l_31, l_32, l_33, l_40, l_48, l_57, l_60, l_63, l_64, l_78, l_85, l_97, l_99, l_100, l_122, l_255, l_325, l_700, l_999, l_1000, l_1200, l_99999, l_100000, l_1000000, l_2000000000, l_N, n_add, n_mul, n_lt, n_out, n_div, n_dm, n_eq, n_toN, n_inN, n_ltN, n_nltN, n_neN, Nat.not_lt_zero, false_or, or_false, ite_y, ite_n, if_true, if_false, ite_tt, ite_ff, b_0, b_1, eq_self_iff_true, Bool.true_eq_false, Bool.false_eq_true] at hz ⊢
            exact hz)
        simp only at y1 y2 y3 y4
        refine ⟨K, K_X11_mean.e X 14 _ _ J L2 _ ?_, y2⟩
        simp (disch := omega) only [m_isRider hJ v, hM, ha, hb, a_bi_i, a_bv_n, a_bl_l, a_bq_q, l_0, l_1, l_2, l_3, l_4, l_5, l_6, l_7, l_8, l_9, l_10, l_12, l_16, l_20, l_24, l_25, l_31, l_32, l_33, l_40, l_48, l_57, l_60, l_63, l_64, l_78, l_85, l_97, l_99, l_100, l_122, l_255, l_325, l_700, l_999, l_1000, l_1200, l_99999, l_100000, l_1000000, l_2000000000, l_N, n_add, n_mul, n_lt, n_out, n_div, n_dm, n_eq, n_toN, n_inN, n_ltN, n_nltN, n_neN, Nat.not_lt_zero, false_or, or_false, ite_y, ite_n, if_true, if_false, ite_tt, ite_ff, b_0, b_1, eq_self_iff_true, Bool.true_eq_false, Bool.false_eq_true]
        refine y4 _ (v_X11_mean_26.e X 14 _ _ _ _ K L2 _ ?_)
        rw [y1]
        simp (disch := omega) only [m_gcd, a_bi_i, a_bv_n, a_bl_l, a_bq_q, l_0, l_1, l_2, l_3, l_4, l_5, l_6, l_7, l_8, l_9, l_10, l_12, l_16, l_20, l_24, l_25, l_31, l_32, l_33, l_40, l_48, l_57, l_60, l_63, l_64, l_78, l_85, l_97, l_99, l_100, l_122, l_255, l_325, l_700, l_999, l_1000, l_1200, l_99999, l_100000, l_1000000, l_2000000000, l_N, n_add, n_mul, n_lt, n_out, n_div, n_dm, n_eq, n_toN, n_inN, n_ltN, n_nltN, n_neN, Nat.not_lt_zero, false_or, or_false, ite_y, ite_n, if_true, if_false, ite_tt, ite_ff, b_0, b_1, eq_self_iff_true, Bool.true_eq_false, Bool.false_eq_true]
        by_cases h9 : k = 0
        · simp only [h9, if_true]
        · simp only [h9, if_false]
end
