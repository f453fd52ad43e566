/-! the class: target, goal, least step -/
section
variable {X : AX} {d : Nat} {I J : A3 Int32} {L : A3 Int64} {w : TW} {N : Nat} {ps : Nat → Nat → Option Nat} {kn : Nat → Nat} {lo dr : Nat → Bool}
def cP (p : Pl) : Nat := p.1 + (if p.2 = true then 8 else 0)
theorem cP_lt {p : Pl} (h : p.1 < 8) : cP p < 16 := by unfold cP; split <;> omega
def tgF (w : TW) (N : Nat) (ps : Nat → Nat → Option Nat) (dr : Nat → Bool) (m : Nat) (p : Pl) (s : Nat) : Option Pl :=
  if s = 0 then some p
  else if s = 1 then (if p.1 + 1 < w 0 ∧ uA (w 1) N ps m p.1 = false then some (p.1 + 1, false) else none)
  else if s = 2 then (if 0 < p.1 ∧ dA (w 1) N ps m p.1 = false then some (p.1 - 1, false) else none)
  else if s = 3 then some (p.1, !p.2)
  else if p.2 = false ∧ stF w m = true ∧ p.1 ≠ s - 4 ∧ s - 4 < w 0 ∧ dr p.1 = true ∧ dr (s - 4) = true then some (s - 4, false) else none
theorem inr_N (n : Nat) : inr nN n = false := by
  unfold inr
  have : nN < nI 0 := by decide
  simp [this]
theorem c_byPlatform {q a b m : Nat} (h : TC I w) (v : Vw w) (hf : CF I q (w 1) (w 0) lo dr) (ha : a < 8) (hb : b < 8) (hm : m < w 1) (hd : 2 ≤ d) : K_X0_byPlatform X d q (nI a) (nI b) (nI m) (I, L, ()) = some (some (aI (if stF w m = true ∧ a ≠ b ∧ b < w 0 ∧ dr a = true ∧ dr b = true then nI b else nN)), (I, L, ())) := by
  obtain ⟨e, rfl⟩ : ∃ e, d = e + 1 := ⟨d - 1, by omega⟩
  obtain ⟨⟨w0, w1, -⟩, -⟩ := id v
  refine K_X0_byPlatform.e X e _ _ _ _ I L _ ?_
  simp (disch := omega) only [a_bi_i, a_bv_n, a_bl_l, a_bq_q, l_0, l_1, l_2, l_3, l_4, l_5, l_6, l_7, l_8, l_9, l_10, l_12, l_16, l_20, l_24, l_25, l_31, l_32, l_33, l_40, l_48, l_57, l_60, l_63, l_64, l_78, l_85, l_97, l_99, l_100, l_122, l_255, l_325, l_700, l_999, l_1000, l_1200, l_99999, l_100000, l_1000000, l_2000000000, l_N, n_add, n_mul, n_lt, n_out, n_div, n_dm, n_eq, n_toN, n_inN, n_ltN, n_nltN, n_neN, Nat.not_lt_zero, false_or, or_false, ite_y, ite_n, if_true, if_false, ite_tt, ite_ff, b_0, b_1, eq_self_iff_true, Bool.true_eq_false, Bool.false_eq_true, c_isStop h v hm, c_hasCoach h v, inr_n, bt_test, hf.2.2.2]
  unfold stF
  cases a1 : decide (0 < m ∧ m % w 2 = 0) with
  | false => simp
  | true =>
    by_cases a2 : a = b
    · simp [a2]
    · by_cases a3 : b < w 0
      · cases a4 : dr a <;> cases a5 : dr b <;> simp [a2, a3]
      · simp [a2, a3]
theorem c_target {q m s : Nat} {p : Pl} (h : TC I w) (v : Vw w) (hf : CF I q (w 1) (w 0) lo dr) (hC : CA I q (w 1) N ps kn) (hp : p.1 < w 0) (hm : m < w 1) (hs : s < 12) (hd : 3 ≤ d) : K_X0_target X d q (nI (cP p)) (nI s) (nI m) (I, L, ()) = some (some (aI (oI ((tgF w N ps dr m p s).map cP))), (I, L, ())) := by
  obtain ⟨e, rfl⟩ : ∃ e, d = e + 1 := ⟨d - 1, by omega⟩
  obtain ⟨⟨w0, w1, -⟩, -⟩ := id v
  refine K_X0_target.e X e _ _ _ _ I L _ ?_
  obtain ⟨c, l⟩ := p
  simp only at hp
  have hc8 : c % 8 = c := by omega
  have hc88 : (c + 8) % 8 = c := by omega
  obtain ⟨a1, a2, a3, a4⟩ := hC m hm c
  have hcP : cP (c, l) = c + (if l = true then 8 else 0) := rfl
  rcases (show s = 0 ∨ s = 1 ∨ s = 2 ∨ s = 3 ∨ 4 ≤ s by omega) with rfl | rfl | rfl | rfl | hs4
  · cases l with
    | false =>
      simp only [hcP, Bool.false_eq_true, if_false, Nat.add_zero]
      simp (disch := omega) only [a_bi_i, a_bv_n, a_bl_l, a_bq_q, l_0, l_1, l_2, l_3, l_4, l_5, l_6, l_7, l_8, l_9, l_10, l_12, l_16, l_20, l_24, l_25, l_31, l_32, l_33, l_40, l_48, l_57, l_60, l_63, l_64, l_78, l_85, l_97, l_99, l_100, l_122, l_255, l_325, l_700, l_999, l_1000, l_1200, l_99999, l_100000, l_1000000, l_2000000000, l_N, n_add, n_mul, n_lt, n_out, n_div, n_dm, n_eq, n_toN, n_inN, n_ltN, n_nltN, n_neN, Nat.not_lt_zero, false_or, or_false, ite_y, ite_n, if_true, if_false, ite_tt, ite_ff, b_0, b_1, eq_self_iff_true, Bool.true_eq_false, Bool.false_eq_true]
      rfl
    | true =>
      simp only [hcP, if_true]
      simp (disch := omega) only [a_bi_i, a_bv_n, a_bl_l, a_bq_q, l_0, l_1, l_2, l_3, l_4, l_5, l_6, l_7, l_8, l_9, l_10, l_12, l_16, l_20, l_24, l_25, l_31, l_32, l_33, l_40, l_48, l_57, l_60, l_63, l_64, l_78, l_85, l_97, l_99, l_100, l_122, l_255, l_325, l_700, l_999, l_1000, l_1200, l_99999, l_100000, l_1000000, l_2000000000, l_N, n_add, n_mul, n_lt, n_out, n_div, n_dm, n_eq, n_toN, n_inN, n_ltN, n_nltN, n_neN, Nat.not_lt_zero, false_or, or_false, ite_y, ite_n, if_true, if_false, ite_tt, ite_ff, b_0, b_1, eq_self_iff_true, Bool.true_eq_false, Bool.false_eq_true]
      rfl
  · have fin : (if decide (c + 1 < w 0) = false then some (some (aI nN), (I, L, ())) else if uA (w 1) N ps m c = false then some (some (aI (nI (c + 1))), (I, L, ())) else some (some (aI nN), (I, L, ()))) = some (some (aI (oI ((tgF w N ps dr m (c, l) 1).map cP))), (I, L, ())) := by
      unfold tgF
      by_cases z1 : c + 1 < w 0
      · cases z2 : uA (w 1) N ps m c <;> simp [z1, z2, oI, cP]
      · simp [z1, oI]
    cases l with
    | false =>
      simp only [hcP, Bool.false_eq_true, if_false, Nat.add_zero]
      simp (disch := omega) only [a_bi_i, a_bv_n, a_bl_l, a_bq_q, l_0, l_1, l_2, l_3, l_4, l_5, l_6, l_7, l_8, l_9, l_10, l_12, l_16, l_20, l_24, l_25, l_31, l_32, l_33, l_40, l_48, l_57, l_60, l_63, l_64, l_78, l_85, l_97, l_99, l_100, l_122, l_255, l_325, l_700, l_999, l_1000, l_1200, l_99999, l_100000, l_1000000, l_2000000000, l_N, n_add, n_mul, n_lt, n_out, n_div, n_dm, n_eq, n_toN, n_inN, n_ltN, n_nltN, n_neN, Nat.not_lt_zero, false_or, or_false, ite_y, ite_n, if_true, if_false, ite_tt, ite_ff, b_0, b_1, eq_self_iff_true, Bool.true_eq_false, Bool.false_eq_true, hc8, c_hasCoach h v, inr_n, bt_test, a3]
      exact fin
    | true =>
      simp only [hcP, if_true]
      simp (disch := omega) only [a_bi_i, a_bv_n, a_bl_l, a_bq_q, l_0, l_1, l_2, l_3, l_4, l_5, l_6, l_7, l_8, l_9, l_10, l_12, l_16, l_20, l_24, l_25, l_31, l_32, l_33, l_40, l_48, l_57, l_60, l_63, l_64, l_78, l_85, l_97, l_99, l_100, l_122, l_255, l_325, l_700, l_999, l_1000, l_1200, l_99999, l_100000, l_1000000, l_2000000000, l_N, n_add, n_mul, n_lt, n_out, n_div, n_dm, n_eq, n_toN, n_inN, n_ltN, n_nltN, n_neN, Nat.not_lt_zero, false_or, or_false, ite_y, ite_n, if_true, if_false, ite_tt, ite_ff, b_0, b_1, eq_self_iff_true, Bool.true_eq_false, Bool.false_eq_true, hc88, c_hasCoach h v, inr_n, bt_test, a3]
      exact fin
  · have fin : (if decide (0 < c) = false then some (some (aI nN), (I, L, ())) else if dA (w 1) N ps m c = false then some (some (aI (nI (c - 1))), (I, L, ())) else some (some (aI nN), (I, L, ()))) = some (some (aI (oI ((tgF w N ps dr m (c, l) 2).map cP))), (I, L, ())) := by
      unfold tgF
      by_cases z1 : 0 < c
      · cases z2 : dA (w 1) N ps m c <;> simp [z1, z2, oI, cP]
      · simp [z1, oI]
    have hz : inr (nI c - nI 1) (w 0) = decide (0 < c) := by
      by_cases z : 0 < c
      · rw [n_sub (by omega), inr_n (by omega) (by omega)]
        have : c - 1 < w 0 := by omega
        simp [z, this]
      · rw [show c = 0 by omega, show nI 0 - nI 1 = nN from rfl, inr_N]; rfl
    have hy : 0 < c → nI c - nI 1 = nI (c - 1) := fun z => n_sub (by omega)
    by_cases z : 0 < c
    · rw [hy z] at hz
      cases l with
      | false =>
        simp only [hcP, Bool.false_eq_true, if_false, Nat.add_zero]
        simp (disch := omega) only [a_bi_i, a_bv_n, a_bl_l, a_bq_q, l_0, l_1, l_2, l_3, l_4, l_5, l_6, l_7, l_8, l_9, l_10, l_12, l_16, l_20, l_24, l_25, l_31, l_32, l_33, l_40, l_48, l_57, l_60, l_63, l_64, l_78, l_85, l_97, l_99, l_100, l_122, l_255, l_325, l_700, l_999, l_1000, l_1200, l_99999, l_100000, l_1000000, l_2000000000, l_N, n_add, n_mul, n_lt, n_out, n_div, n_dm, n_eq, n_toN, n_inN, n_ltN, n_nltN, n_neN, Nat.not_lt_zero, false_or, or_false, ite_y, ite_n, if_true, if_false, ite_tt, ite_ff, b_0, b_1, eq_self_iff_true, Bool.true_eq_false, Bool.false_eq_true, hc8, hy z, c_hasCoach h v, hz, bt_test, a4]
        exact fin
      | true =>
        simp only [hcP, if_true]
        simp (disch := omega) only [a_bi_i, a_bv_n, a_bl_l, a_bq_q, l_0, l_1, l_2, l_3, l_4, l_5, l_6, l_7, l_8, l_9, l_10, l_12, l_16, l_20, l_24, l_25, l_31, l_32, l_33, l_40, l_48, l_57, l_60, l_63, l_64, l_78, l_85, l_97, l_99, l_100, l_122, l_255, l_325, l_700, l_999, l_1000, l_1200, l_99999, l_100000, l_1000000, l_2000000000, l_N, n_add, n_mul, n_lt, n_out, n_div, n_dm, n_eq, n_toN, n_inN, n_ltN, n_nltN, n_neN, Nat.not_lt_zero, false_or, or_false, ite_y, ite_n, if_true, if_false, ite_tt, ite_ff, b_0, b_1, eq_self_iff_true, Bool.true_eq_false, Bool.false_eq_true, hc88, hy z, c_hasCoach h v, hz, bt_test, a4]
        exact fin
    · rw [decide_eq_false z] at hz fin
      rw [if_pos rfl] at fin
      cases l with
      | false =>
        simp only [hcP, Bool.false_eq_true, if_false, Nat.add_zero]
        simp (disch := omega) only [a_bi_i, a_bv_n, a_bl_l, a_bq_q, l_0, l_1, l_2, l_3, l_4, l_5, l_6, l_7, l_8, l_9, l_10, l_12, l_16, l_20, l_24, l_25, l_31, l_32, l_33, l_40, l_48, l_57, l_60, l_63, l_64, l_78, l_85, l_97, l_99, l_100, l_122, l_255, l_325, l_700, l_999, l_1000, l_1200, l_99999, l_100000, l_1000000, l_2000000000, l_N, n_add, n_mul, n_lt, n_out, n_div, n_dm, n_eq, n_toN, n_inN, n_ltN, n_nltN, n_neN, Nat.not_lt_zero, false_or, or_false, ite_y, ite_n, if_true, if_false, ite_tt, ite_ff, b_0, b_1, eq_self_iff_true, Bool.true_eq_false, Bool.false_eq_true, hc8, c_hasCoach h v, hz, bt_test]
        exact fin
      | true =>
        simp only [hcP, if_true]
        simp (disch := omega) only [a_bi_i, a_bv_n, a_bl_l, a_bq_q, l_0, l_1, l_2, l_3, l_4, l_5, l_6, l_7, l_8, l_9, l_10, l_12, l_16, l_20, l_24, l_25, l_31, l_32, l_33, l_40, l_48, l_57, l_60, l_63, l_64, l_78, l_85, l_97, l_99, l_100, l_122, l_255, l_325, l_700, l_999, l_1000, l_1200, l_99999, l_100000, l_1000000, l_2000000000, l_N, n_add, n_mul, n_lt, n_out, n_div, n_dm, n_eq, n_toN, n_inN, n_ltN, n_nltN, n_neN, Nat.not_lt_zero, false_or, or_false, ite_y, ite_n, if_true, if_false, ite_tt, ite_ff, b_0, b_1, eq_self_iff_true, Bool.true_eq_false, Bool.false_eq_true, hc88, c_hasCoach h v, hz, bt_test]
        exact fin
  · cases l with
    | false =>
      simp only [hcP, Bool.false_eq_true, if_false, Nat.add_zero]
      simp (disch := omega) only [a_bi_i, a_bv_n, a_bl_l, a_bq_q, l_0, l_1, l_2, l_3, l_4, l_5, l_6, l_7, l_8, l_9, l_10, l_12, l_16, l_20, l_24, l_25, l_31, l_32, l_33, l_40, l_48, l_57, l_60, l_63, l_64, l_78, l_85, l_97, l_99, l_100, l_122, l_255, l_325, l_700, l_999, l_1000, l_1200, l_99999, l_100000, l_1000000, l_2000000000, l_N, n_add, n_mul, n_lt, n_out, n_div, n_dm, n_eq, n_toN, n_inN, n_ltN, n_nltN, n_neN, Nat.not_lt_zero, false_or, or_false, ite_y, ite_n, if_true, if_false, ite_tt, ite_ff, b_0, b_1, eq_self_iff_true, Bool.true_eq_false, Bool.false_eq_true, hc8]
      rfl
    | true =>
      simp only [hcP, if_true]
      simp (disch := omega) only [a_bi_i, a_bv_n, a_bl_l, a_bq_q, l_0, l_1, l_2, l_3, l_4, l_5, l_6, l_7, l_8, l_9, l_10, l_12, l_16, l_20, l_24, l_25, l_31, l_32, l_33, l_40, l_48, l_57, l_60, l_63, l_64, l_78, l_85, l_97, l_99, l_100, l_122, l_255, l_325, l_700, l_999, l_1000, l_1200, l_99999, l_100000, l_1000000, l_2000000000, l_N, n_add, n_mul, n_lt, n_out, n_div, n_dm, n_eq, n_toN, n_inN, n_ltN, n_nltN, n_neN, Nat.not_lt_zero, false_or, or_false, ite_y, ite_n, if_true, if_false, ite_tt, ite_ff, b_0, b_1, eq_self_iff_true, Bool.true_eq_false, Bool.false_eq_true, hc88]
      rfl
  · obtain ⟨t, rfl⟩ : ∃ t, s = t + 4 := ⟨s - 4, by omega⟩
    have e4 : nI (t + 4) - nI 4 = nI t := by rw [n_sub (by omega), Nat.add_sub_cancel]
    have f0 : ¬ (t + 4 = 0) := by omega
    have f1 : ¬ (t + 4 = 1) := by omega
    have f2 : ¬ (t + 4 = 2) := by omega
    have f3 : ¬ (t + 4 = 3) := by omega
    have hst : tgF w N ps dr m (c, l) (t + 4) = if l = false ∧ stF w m = true ∧ c ≠ t ∧ t < w 0 ∧ dr c = true ∧ dr t = true then some (t, false) else none := by
      unfold tgF
      rw [if_neg f0, if_neg f1, if_neg f2, if_neg f3, Nat.add_sub_cancel]
    rw [hst]
    cases l with
    | false =>
      simp only [hcP, Bool.false_eq_true, if_false, Nat.add_zero]
      simp (disch := omega) only [a_bi_i, a_bv_n, a_bl_l, a_bq_q, l_0, l_1, l_2, l_3, l_4, l_5, l_6, l_7, l_8, l_9, l_10, l_12, l_16, l_20, l_24, l_25, l_31, l_32, l_33, l_40, l_48, l_57, l_60, l_63, l_64, l_78, l_85, l_97, l_99, l_100, l_122, l_255, l_325, l_700, l_999, l_1000, l_1200, l_99999, l_100000, l_1000000, l_2000000000, l_N, n_add, n_mul, n_lt, n_out, n_div, n_dm, n_eq, n_toN, n_inN, n_ltN, n_nltN, n_neN, Nat.not_lt_zero, false_or, or_false, ite_y, ite_n, if_true, if_false, ite_tt, ite_ff, b_0, b_1, eq_self_iff_true, Bool.true_eq_false, Bool.false_eq_true, e4, f0, f1, f2, f3, hc8, c_byPlatform h v hf (show c < 8 by omega) (show t < 8 by omega) hm]
      by_cases z : stF w m = true ∧ c ≠ t ∧ t < w 0 ∧ dr c = true ∧ dr t = true
      · rw [if_pos z, if_pos ⟨trivial, z⟩]; rfl
      · rw [if_neg z, if_neg (fun q => z q.2)]; rfl
    | true =>
      simp only [hcP, if_true]
      simp (disch := omega) only [a_bi_i, a_bv_n, a_bl_l, a_bq_q, l_0, l_1, l_2, l_3, l_4, l_5, l_6, l_7, l_8, l_9, l_10, l_12, l_16, l_20, l_24, l_25, l_31, l_32, l_33, l_40, l_48, l_57, l_60, l_63, l_64, l_78, l_85, l_97, l_99, l_100, l_122, l_255, l_325, l_700, l_999, l_1000, l_1200, l_99999, l_100000, l_1000000, l_2000000000, l_N, n_add, n_mul, n_lt, n_out, n_div, n_dm, n_eq, n_toN, n_inN, n_ltN, n_nltN, n_neN, Nat.not_lt_zero, false_or, or_false, ite_y, ite_n, if_true, if_false, ite_tt, ite_ff, b_0, b_1, eq_self_iff_true, Bool.true_eq_false, Bool.false_eq_true, f0, f1, f2, f3, hc88]
      rw [if_neg (fun q => by cases q.1)]
      rfl
def gol (w : TW) (N : Nat) (ps : Nat → Nat → Option Nat) (kn : Nat → Nat) (lo dr : Nat → Bool) (m : Nat) (p : Pl) (s : Nat) : Option Pl := if goS w N ps kn lo dr (w 1 - 2 - m) m p s = true then stp w lo dr m p s else none
theorem opF_cP {j : Nat} {p : Pl} (hp : p.1 < 8) : opF w N ps kn lo dr j (cP p) = (fil w N ps kn lo dr j p).1 := by
  obtain ⟨c, l⟩ := p
  simp only at hp
  unfold opF cP
  cases l with
  | false =>
    show (if c + 0 < 8 then _ else _) = _
    rw [if_pos (by omega)]; rfl
  | true =>
    show (if c + 8 < 8 then _ else (fil w N ps kn lo dr j (c + 8 - 8, true)).1) = _
    rw [if_neg (by omega), Nat.add_sub_cancel]
theorem tg_in {m s : Nat} {p r : Pl} (hp : p.1 < w 0) (h : tgF w N ps dr m p s = some r) : r.1 < w 0 := by
  unfold tgF at h
  split at h
  · cases h; exact hp
  · split at h
    · split at h
      · rename_i z; cases h; exact z.1
      · cases h
    · split at h
      · split at h
        · cases h; show p.1 - 1 < w 0; omega
        · cases h
      · split at h
        · cases h; exact hp
        · split at h
          · rename_i z; cases h; exact z.2.2.2.1
          · cases h
theorem tg_gol {m s : Nat} {p : Pl} (hp : p.1 < w 0) (hm : m + 1 < w 1) : (match tgF w N ps dr m p s with | none => none | some r => if (fil w N ps kn lo dr (w 1 - 2 - m) r).1 = true then some r else none) = gol w N ps kn lo dr m p s := by
  obtain ⟨c, l⟩ := p
  simp only at hp
  unfold gol
  generalize hj : w 1 - 2 - m = j
  have hm' : m = w 1 - 2 - j := by omega
  have hj1 : j + 1 < w 1 := by omega
  have none' : stp w lo dr m (c, l) s = none → (none : Option Pl) = if goS w N ps kn lo dr j m (c, l) s = true then stp w lo dr m (c, l) s else none := fun hq => by rw [hq]; simp
  have some' : ∀ r, stp w lo dr m (c, l) s = some r → mtF N ps m (c, l) r s = true → (if (fil w N ps kn lo dr j r).1 = true then some r else none) = if goS w N ps kn lo dr j m (c, l) s = true then stp w lo dr m (c, l) s else none := fun r hq ht => by
    rw [goS_eq hm' hj1 hq, ht, hq]; simp
  have bad : ∀ r, stp w lo dr m (c, l) s = some r → mtF N ps m (c, l) r s = false → (none : Option Pl) = if goS w N ps kn lo dr j m (c, l) s = true then stp w lo dr m (c, l) s else none := fun r hq ht => by
    rw [goS_eq hm' hj1 hq, ht]; simp
  rcases (show s = 0 ∨ s = 1 ∨ s = 2 ∨ s = 3 ∨ 4 ≤ s by omega) with rfl | rfl | rfl | rfl | hs4
  · exact some' (c, l) rfl (by simp [mtF])
  · have ht : tgF w N ps dr m (c, l) 1 = if c + 1 < w 0 ∧ uA (w 1) N ps m c = false then some (c + 1, false) else none := rfl
    rw [ht]
    by_cases z1 : c + 1 < w 0
    · have hq : stp w lo dr m (c, l) 1 = some (c + 1, false) := by simp [stp, z1]
      cases z2 : uA (w 1) N ps m c with
      | false => rw [if_pos ⟨z1, rfl⟩]; exact some' _ hq (by rw [mt_up (T := w 1) hm, z2]; rfl)
      | true => rw [if_neg (fun q => by cases q.2)]; exact bad _ hq (by rw [mt_up (T := w 1) hm, z2]; rfl)
    · rw [if_neg (fun q => z1 q.1)]
      exact none' (by simp [stp, z1])
  · have ht : tgF w N ps dr m (c, l) 2 = if 0 < c ∧ dA (w 1) N ps m c = false then some (c - 1, false) else none := rfl
    rw [ht]
    by_cases z1 : 0 < c
    · have hq : stp w lo dr m (c, l) 2 = some (c - 1, false) := by simp [stp, z1]
      cases z2 : dA (w 1) N ps m c with
      | false => rw [if_pos ⟨z1, rfl⟩]; exact some' _ hq (by rw [mt_dn (T := w 1) hm z1, z2]; rfl)
      | true => rw [if_neg (fun q => by cases q.2)]; exact bad _ hq (by rw [mt_dn (T := w 1) hm z1, z2]; rfl)
    · rw [if_neg (fun q => z1 q.1)]
      exact none' (by simp [stp, z1])
  · have ht : tgF w N ps dr m (c, l) 3 = some (c, !l) := rfl
    rw [ht]
    cases l with
    | true => exact some' (c, false) (by simp [stp]) (by simp [mtF])
    | false =>
      cases hl : lo c with
      | true => exact some' (c, true) (by simp [stp, hl]) (by simp [mtF])
      | false =>
        have : (fil w N ps kn lo dr j (c, true)).1 = false := by
          cases hq : (fil w N ps kn lo dr j (c, true)).1 with
          | false => rfl
          | true => have := (can_hd hq).1; unfold isPl at this; simp [hl] at this
        show (if (fil w N ps kn lo dr j (c, true)).1 = true then _ else _) = _
        rw [this, if_neg (by decide)]
        exact none' (by simp [stp, hl])
  · have f0 : ¬ (s = 0) := by omega
    have f1 : ¬ (s = 1) := by omega
    have f2 : ¬ (s = 2) := by omega
    have f3 : ¬ (s = 3) := by omega
    have ht : tgF w N ps dr m (c, l) s = if l = false ∧ stF w m = true ∧ c ≠ s - 4 ∧ s - 4 < w 0 ∧ dr c = true ∧ dr (s - 4) = true then some (s - 4, false) else none := by
      unfold tgF; rw [if_neg f0, if_neg f1, if_neg f2, if_neg f3]
    have hq : stp w lo dr m (c, l) s = if s - 4 < w 0 ∧ s - 4 ≠ c ∧ l = false ∧ stF w m = true ∧ dr c = true ∧ dr (s - 4) = true then some (s - 4, false) else none := by
      unfold stp; rw [if_neg f0, if_neg f1, if_neg f2, if_neg f3]
    rw [ht]
    by_cases z : l = false ∧ stF w m = true ∧ c ≠ s - 4 ∧ s - 4 < w 0 ∧ dr c = true ∧ dr (s - 4) = true
    · rw [if_pos z]
      exact some' _ (by rw [hq, if_pos ⟨z.2.2.2.1, fun q => z.2.2.1 q.symm, z.1, z.2.1, z.2.2.2.2.1, z.2.2.2.2.2⟩]) (by unfold mtF; rw [if_neg (by omega)])
    · rw [if_neg z]
      exact none' (by rw [hq, if_neg (fun q => z ⟨q.2.2.1, q.2.2.2.1, fun e => q.2.1 e.symm, q.1, q.2.2.2.2.1, q.2.2.2.2.2⟩)])
theorem c_goal {q m s : Nat} {p : Pl} (h : TC I w) (v : Vw w) (hf : CF I q (w 1) (w 0) lo dr) (hC : CA I q (w 1) N ps kn) (hS : SO I q w N ps kn lo dr) (hp : p.1 < w 0) (hm : m + 1 < w 1) (hs : s < 12) (hd : 4 ≤ d) : K_X0_goal X d q (nI (cP p)) (nI s) (nI m) (I, L, ()) = some (some (aI (oI ((gol w N ps kn lo dr m p s).map cP))), (I, L, ())) := by
  obtain ⟨e, rfl⟩ : ∃ e, d = e + 1 := ⟨d - 1, by omega⟩
  obtain ⟨⟨w0, w1, -⟩, -⟩ := id v
  refine K_X0_goal.e X e _ _ _ _ I L _ ?_
  rw [← tg_gol hp hm]
  have ht := c_target (X := X) (d := e) (L := L) (s := s) h v hf hC hp (show m < w 1 by omega) hs (by omega)
  cases hr : tgF w N ps dr m p s with
  | none =>
    rw [hr] at ht
    simp (disch := omega) only [ht, Option.map, oI_Z, a_bi_i, a_bv_n, a_bl_l, a_bq_q, l_0, l_1, l_2, l_3, l_4, l_5, l_6, l_7, l_8, l_9, l_10, l_12, l_16, l_20, l_24, l_25, l_31, l_32, l_33, l_40, l_48, l_57, l_60, l_63, l_64, l_78, l_85, l_97, l_99, l_100, l_122, l_255, l_325, l_700, l_999, l_1000, l_1200, l_99999, l_100000, l_1000000, l_2000000000, l_N, n_add, n_mul, n_lt, n_out, n_div, n_dm, n_eq, n_toN, n_inN, n_ltN, n_nltN, n_neN, Nat.not_lt_zero, false_or, or_false, ite_y, ite_n, if_true, if_false, ite_tt, ite_ff, b_0, b_1, eq_self_iff_true, Bool.true_eq_false, Bool.false_eq_true]
  | some r =>
    rw [hr] at ht
    have hr0 := tg_in hp hr
    have hb : cP r < 16 := cP_lt (by omega)
    simp (disch := omega) only [ht, Option.map, oI_S, hf.1, a_bi_i, a_bv_n, a_bl_l, a_bq_q, l_0, l_1, l_2, l_3, l_4, l_5, l_6, l_7, l_8, l_9, l_10, l_12, l_16, l_20, l_24, l_25, l_31, l_32, l_33, l_40, l_48, l_57, l_60, l_63, l_64, l_78, l_85, l_97, l_99, l_100, l_122, l_255, l_325, l_700, l_999, l_1000, l_1200, l_99999, l_100000, l_1000000, l_2000000000, l_N, n_add, n_mul, n_lt, n_out, n_div, n_dm, n_eq, n_toN, n_inN, n_ltN, n_nltN, n_neN, Nat.not_lt_zero, false_or, or_false, ite_y, ite_n, if_true, if_false, ite_tt, ite_ff, b_0, b_1, eq_self_iff_true, Bool.true_eq_false, Bool.false_eq_true, c_isOpen v hS, opF_cP]
    rw [show w 1 - 1 - (m + 1) = w 1 - 2 - m by omega]
    cases (fil w N ps kn lo dr (w 1 - 2 - m) r).1 <;> simp [oI]
end
