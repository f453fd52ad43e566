/-! the class's rides -/
def clP (p : Nat × Bool) : Nat := p.1 + (if p.2 = true then 8 else 0)
theorem clP_mod {p : Nat × Bool} (h : p.1 < 8) : clP p % 8 = p.1 := by
  unfold clP
  split <;> omega
theorem clP_lt {p : Nat × Bool} (h : p.1 < 8) : clP p < 16 := by
  unfold clP
  split <;> omega
theorem clP_8 {p : Nat × Bool} (h : p.1 < 8) : clP p < 8 ↔ p.2 = false := by
  unfold clP
  cases p.2 <;> simp <;> omega
theorem nr_none_iff {S : Nat → Bool} {c N : Nat} : nr S c N = none ↔ ∀ y, y < N → S y = false := by
  constructor
  · exact fun h => nr_none h
  · intro h
    cases hq : nr S c N with
    | none => rfl
    | some x => obtain ⟨h1, h2, -⟩ := nr_some hq; rw [h x h1] at h2; cases h2
theorem far_lt {S : Nat → Bool} {N a b : Nat} (hN : N ≤ 8) (ha : a < 8) (hb : b < 8) : (oI ((nr S a N).map (fun x => dist x a)) < oI ((nr S b N).map (fun x => dist x b))) ↔ farF S N a < farF S N b := by
  unfold farF
  cases h1 : nr S a N with
  | none =>
    have h2 : nr S b N = none := nr_none_iff.mpr (nr_none_iff.mp h1)
    rw [h2]
    show nN < nN ↔ _
    constructor
    · intro h; exact absurd h (by decide)
    · intro h; exact absurd h (Nat.lt_irrefl 0)
  | some x =>
    cases h2 : nr S b N with
    | none => rw [nr_none_iff.mpr (nr_none_iff.mp h2)] at h1; cases h1
    | some y =>
      have q1 := (nr_some h1).1
      have q2 := (nr_some h2).1
      exact n_lt (Nat.lt_of_lt_of_le (dist_le (show x < 16 by omega) (show a < 16 by omega)) (by decide)) (Nat.lt_of_lt_of_le (dist_le (show y < 16 by omega) (show b < 16 by omega)) (by decide))
theorem goF_2 {w : TW} {S : Nat → Bool} {se m : Nat} {p : Nat × Bool} : goF w S 2 se m p = (p.1, decide (w (10 + 3 * p.1) = 1) && (seenF S p.1 (w 0) se).isSome) := rfl
theorem goF_3 {w : TW} {S : Nat → Bool} {se m : Nat} {p : Nat × Bool} : goF w S 3 se m p = (if (0 < m ∧ m % w 2 = 0) ∧ w (11 + 3 * p.1) ≠ 0 then (plF w S p.1 (w 0), false) else (p.1, false)) := rfl
def metC (ps : Nat → Nat → Option Nat) (kn : Nat → Nat) (p : Nat → Nat × Bool) (i m : Nat) : Bool :=
  if (p m).2 = true then decide (0 < kn i) && decide (ps i m = some (p m).1) else (decide (ps i m = some (p m).1) || (decide (0 < m ∧ dist (p (m - 1)).1 (p m).1 = 1) && (decide (ps i (m - 1) = some (p m).1) && decide (ps i m = some (p (m - 1)).1))))
theorem fnd_succ {p : Nat → Bool} : ∀ (m : Nat), fnd (m + 1) p = match fnd m p with
  | some x => some x
  | none => if p m = true then some m else none := by
  intro m
  cases h : fnd m p with
  | some x =>
    obtain ⟨h1, h2, h3⟩ := fnd_some h
    cases h4 : fnd (m + 1) p with
    | none => have := fnd_none h4 x (by omega); rw [h2] at this; cases this
    | some y =>
      obtain ⟨g1, g2, g3⟩ := fnd_some h4
      rcases Nat.lt_trichotomy x y with q | q | q
      · rw [g3 x q] at h2; cases h2
      · rw [q]
      · rw [h3 y q] at g2; cases g2
  | none =>
    have hn := fnd_none h
    simp only
    split
    · rename_i hp
      cases h4 : fnd (m + 1) p with
      | none => have := fnd_none h4 m (by omega); rw [hp] at this; cases this
      | some y =>
        obtain ⟨g1, g2, g3⟩ := fnd_some h4
        by_cases e : y = m
        · rw [e]
        · rw [hn y (by omega)] at g2; cases g2
    · rename_i hp
      cases h4 : fnd (m + 1) p with
      | none => rfl
      | some y =>
        obtain ⟨g1, g2, g3⟩ := fnd_some h4
        by_cases e : y = m
        · subst e; exact absurd g2 hp
        · rw [hn y (by omega)] at g2; cases g2
/-- the minute in which he is had, by which -/
def hadF (T n : Nat) (met : Nat → Nat → Bool) : Option Nat := fnd T (fun m => (fnd n (fun k => met k m)).isSome)
def byF (T n : Nat) (met : Nat → Nat → Bool) : Option Nat := match hadF T n met with
  | some m => fnd n (fun k => met k m)
  | none => none
section
variable {X : AX} {d : Nat} {I : A3 Int32} {L : A3 Int64} {w : TW}
/-- what a ride's row says ahead of a step: so many inspectors, so far he sees -/
def RI (I : A3 Int32) (r n se : Nat) : Prop := I 17 r 3 = nI n ∧ I 17 r 4 = nI se
theorem c_forward {r c m n se : Nat} {ps : Nat → Nat → Option Nat} (h : TC I w) (v : Vw w) (hR : RI I r n se) (hP : PC I (w 1) n ps) (hn : n ≤ 3) (hm : m < w 1) (hc : c < w 0) (hse : se ≤ 7) (hp : ∀ k, k < n → ∀ x, ps k m = some x → x < w 0) (hd : 3 ≤ d) : K_X5_forwardFrom X d r (nI c) (nI m) (I, L, ()) = some (some (aI (nI (clP (goF w (gA n ps m) 1 se m (c, false))))), (I, L, ())) := by
  obtain ⟨e, rfl⟩ : ∃ e, d = e + 1 := ⟨d - 1, by omega⟩
  obtain ⟨⟨h0, h1, -⟩, -⟩ := id v
  refine K_X5_forwardFrom.e X e r _ _ I L _ ?_
  rw [c_nearestSeen hR.1 hR.2 hP hn h1 hm (by omega) h0 hse hp (by omega), a_bi_i]
  unfold goF
  simp only [if_true]
  cases hs : seenF (gA n ps m) c (w 0) se with
  | none => simp only [oI, l_0, l_1, l_2, l_3, l_4, l_5, l_6, l_7, l_8, l_9, l_10, l_12, l_16, l_20, l_24, l_25, l_31, l_32, l_33, l_40, l_48, l_57, l_60, l_63, l_64, l_78, l_85, l_97, l_99, l_100, l_122, l_255, l_325, l_700, l_999, l_1000, l_1200, l_99999, l_100000, l_1000000, l_2000000000, l_N, if_true]; rfl
  | some x =>
    have hx : x < 8 := by
      unfold seenF at hs
      split at hs
      · rename_i y hy
        split at hs
        · cases hs; have := (nr_some hy).1; omega
        · cases hs
      · cases hs
    simp only [oI]
    by_cases hle : x ≤ c
    · simp (disch := omega) only [a_bi_i, a_bv_n, a_bl_l, a_bq_q, l_0, l_1, l_2, l_3, l_4, l_5, l_6, l_7, l_8, l_9, l_10, l_12, l_16, l_20, l_24, l_25, l_31, l_32, l_33, l_40, l_48, l_57, l_60, l_63, l_64, l_78, l_85, l_97, l_99, l_100, l_122, l_255, l_325, l_700, l_999, l_1000, l_1200, l_99999, l_100000, l_1000000, l_2000000000, l_N, n_add, n_mul, n_lt, n_out, n_div, n_dm, n_eq, n_toN, n_inN, n_ltN, n_nltN, n_neN, Nat.not_lt_zero, false_or, or_false, ite_y, ite_n, if_true, if_false, ite_tt, ite_ff, b_0, b_1, eq_self_iff_true, Bool.true_eq_false, Bool.false_eq_true, hle]
      rw [c_hasCoach h v (by omega), inr_n (by omega) (by omega)]
      by_cases h5 : c + 1 < w 0
      · simp (disch := omega) only [a_bi_i, a_bv_n, a_bl_l, a_bq_q, l_0, l_1, l_2, l_3, l_4, l_5, l_6, l_7, l_8, l_9, l_10, l_12, l_16, l_20, l_24, l_25, l_31, l_32, l_33, l_40, l_48, l_57, l_60, l_63, l_64, l_78, l_85, l_97, l_99, l_100, l_122, l_255, l_325, l_700, l_999, l_1000, l_1200, l_99999, l_100000, l_1000000, l_2000000000, l_N, n_add, n_mul, n_lt, n_out, n_div, n_dm, n_eq, n_toN, n_inN, n_ltN, n_nltN, n_neN, Nat.not_lt_zero, false_or, or_false, ite_y, ite_n, if_true, if_false, ite_tt, ite_ff, b_0, b_1, eq_self_iff_true, Bool.true_eq_false, Bool.false_eq_true, h5, decide_true]; rfl
      · simp (disch := omega) only [a_bi_i, a_bv_n, a_bl_l, a_bq_q, l_0, l_1, l_2, l_3, l_4, l_5, l_6, l_7, l_8, l_9, l_10, l_12, l_16, l_20, l_24, l_25, l_31, l_32, l_33, l_40, l_48, l_57, l_60, l_63, l_64, l_78, l_85, l_97, l_99, l_100, l_122, l_255, l_325, l_700, l_999, l_1000, l_1200, l_99999, l_100000, l_1000000, l_2000000000, l_N, n_add, n_mul, n_lt, n_out, n_div, n_dm, n_eq, n_toN, n_inN, n_ltN, n_nltN, n_neN, Nat.not_lt_zero, false_or, or_false, ite_y, ite_n, if_true, if_false, ite_tt, ite_ff, b_0, b_1, eq_self_iff_true, Bool.true_eq_false, Bool.false_eq_true, h5, decide_false]; rfl
    · simp (disch := omega) only [a_bi_i, a_bv_n, a_bl_l, a_bq_q, l_0, l_1, l_2, l_3, l_4, l_5, l_6, l_7, l_8, l_9, l_10, l_12, l_16, l_20, l_24, l_25, l_31, l_32, l_33, l_40, l_48, l_57, l_60, l_63, l_64, l_78, l_85, l_97, l_99, l_100, l_122, l_255, l_325, l_700, l_999, l_1000, l_1200, l_99999, l_100000, l_1000000, l_2000000000, l_N, n_add, n_mul, n_lt, n_out, n_div, n_dm, n_eq, n_toN, n_inN, n_ltN, n_nltN, n_neN, Nat.not_lt_zero, false_or, or_false, ite_y, ite_n, if_true, if_false, ite_tt, ite_ff, b_0, b_1, eq_self_iff_true, Bool.true_eq_false, Bool.false_eq_true, hle]
      by_cases h5 : 0 < c
      · rw [n_sub (by omega), c_hasCoach h v (by omega), inr_n (by omega) (by omega)]
        have h6 : c - 1 < w 0 := by omega
        simp (disch := omega) only [a_bi_i, a_bv_n, a_bl_l, a_bq_q, l_0, l_1, l_2, l_3, l_4, l_5, l_6, l_7, l_8, l_9, l_10, l_12, l_16, l_20, l_24, l_25, l_31, l_32, l_33, l_40, l_48, l_57, l_60, l_63, l_64, l_78, l_85, l_97, l_99, l_100, l_122, l_255, l_325, l_700, l_999, l_1000, l_1200, l_99999, l_100000, l_1000000, l_2000000000, l_N, n_add, n_mul, n_lt, n_out, n_div, n_dm, n_eq, n_toN, n_inN, n_ltN, n_nltN, n_neN, Nat.not_lt_zero, false_or, or_false, ite_y, ite_n, if_true, if_false, ite_tt, ite_ff, b_0, b_1, eq_self_iff_true, Bool.true_eq_false, Bool.false_eq_true, h5, h6, decide_true]; rfl
      · have : c = 0 := by omega
        subst this
        rw [show nI 0 - nI 1 = nN from rfl, c_hasCoach h v (by omega), show inr nN (w 0) = false from rfl]
        simp (disch := omega) only [a_bi_i, a_bv_n, a_bl_l, a_bq_q, l_0, l_1, l_2, l_3, l_4, l_5, l_6, l_7, l_8, l_9, l_10, l_12, l_16, l_20, l_24, l_25, l_31, l_32, l_33, l_40, l_48, l_57, l_60, l_63, l_64, l_78, l_85, l_97, l_99, l_100, l_122, l_255, l_325, l_700, l_999, l_1000, l_1200, l_99999, l_100000, l_1000000, l_2000000000, l_N, n_add, n_mul, n_lt, n_out, n_div, n_dm, n_eq, n_toN, n_inN, n_ltN, n_nltN, n_neN, Nat.not_lt_zero, false_or, or_false, ite_y, ite_n, if_true, if_false, ite_tt, ite_ff, b_0, b_1, eq_self_iff_true, Bool.true_eq_false, Bool.false_eq_true]; rfl
theorem c_hide {r m n se : Nat} {p : Nat × Bool} {ps : Nat → Nat → Option Nat} (h : TC I w) (v : Vw w) (hR : RI I r n se) (hP : PC I (w 1) n ps) (hn : n ≤ 3) (hm : m < w 1) (hc : p.1 < w 0) (hse : se ≤ 7) (hp : ∀ k, k < n → ∀ x, ps k m = some x → x < w 0) (hd : 3 ≤ d) : K_X5_hideFrom X d r (nI (clP p)) (nI m) (I, L, ()) = some (some (aI (nI (clP (goF w (gA n ps m) 2 se m p)))), (I, L, ())) := by
  obtain ⟨e, rfl⟩ : ∃ e, d = e + 1 := ⟨d - 1, by omega⟩
  obtain ⟨⟨h0, h1, -⟩, -, vc, -⟩ := id v
  have hcl := vc p.1 (by omega)
  have h16 := clP_lt (p := p) (by omega)
  refine K_X5_hideFrom.e X e r _ _ I L _ ?_
  simp (disch := omega) only [l_0, l_1, l_2, l_3, l_4, l_5, l_6, l_7, l_8, l_9, l_10, l_12, l_16, l_20, l_24, l_25, l_31, l_32, l_33, l_40, l_48, l_57, l_60, l_63, l_64, l_78, l_85, l_97, l_99, l_100, l_122, l_255, l_325, l_700, l_999, l_1000, l_1200, l_99999, l_100000, l_1000000, l_2000000000, l_N, n_div, n_mul, n_dm, clP_mod (show p.1 < 8 by omega), c_oc1 h v, a_bi_i, n_eq, c_nearestSeen hR.1 hR.2 hP hn h1 hm (show p.1 < 8 by omega) h0 hse hp, n_add]
  rw [goF_2]
  by_cases hl : w (10 + 3 * p.1) = 1
  · simp only [hl, if_true, decide_true, Bool.true_and]
    cases hs : seenF (gA n ps m) p.1 (w 0) se with
    | none => simp only [oI, if_true]; rfl
    | some x =>
      have hx : x < 8 := by
        unfold seenF at hs
        split at hs
        · rename_i y hy
          split at hs
          · cases hs; have := (nr_some hy).1; omega
          · cases hs
        · cases hs
      simp (disch := omega) only [oI, a_bi_i, a_bv_n, a_bl_l, a_bq_q, l_0, l_1, l_2, l_3, l_4, l_5, l_6, l_7, l_8, l_9, l_10, l_12, l_16, l_20, l_24, l_25, l_31, l_32, l_33, l_40, l_48, l_57, l_60, l_63, l_64, l_78, l_85, l_97, l_99, l_100, l_122, l_255, l_325, l_700, l_999, l_1000, l_1200, l_99999, l_100000, l_1000000, l_2000000000, l_N, n_add, n_mul, n_lt, n_out, n_div, n_dm, n_eq, n_toN, n_inN, n_ltN, n_nltN, n_neN, Nat.not_lt_zero, false_or, or_false, ite_y, ite_n, if_true, if_false, ite_tt, ite_ff, b_0, b_1, eq_self_iff_true, Bool.true_eq_false, Bool.false_eq_true]; rfl
  · simp only [hl, if_false, decide_false, Bool.false_and]; rfl
theorem c_round {r c m n se : Nat} {ps : Nat → Nat → Option Nat} (h : TC I w) (v : Vw w) (hR : RI I r n se) (hP : PC I (w 1) n ps) (hn : n ≤ 3) (hm : m < w 1) (hc : c < w 0) (hp : ∀ k, k < n → ∀ x, ps k m = some x → x < w 0) (hd : 4 ≤ d) : K_X5_roundFrom X d r (nI c) (nI m) (I, L, ()) = some (some (aI (nI (clP (goF w (gA n ps m) 3 se m (c, false))))), (I, L, ())) := by
  obtain ⟨e, rfl⟩ : ∃ e, d = e + 1 := ⟨d - 1, by omega⟩
  obtain ⟨⟨h0, h1, -⟩, -, vc, -⟩ := id v
  have hcl := vc c (by omega)
  refine K_X5_roundFrom.e X e r _ _ I L _ ?_
  simp (disch := omega) only [a_bi_i, a_bv_n, a_bl_l, a_bq_q, l_0, l_1, l_2, l_3, l_4, l_5, l_6, l_7, l_8, l_9, l_10, l_12, l_16, l_20, l_24, l_25, l_31, l_32, l_33, l_40, l_48, l_57, l_60, l_63, l_64, l_78, l_85, l_97, l_99, l_100, l_122, l_255, l_325, l_700, l_999, l_1000, l_1200, l_99999, l_100000, l_1000000, l_2000000000, l_N, n_add, n_mul, n_lt, n_out, n_div, n_dm, n_eq, n_toN, n_inN, n_ltN, n_nltN, n_neN, Nat.not_lt_zero, false_or, or_false, ite_y, ite_n, if_true, if_false, ite_tt, ite_ff, b_0, b_1, eq_self_iff_true, Bool.true_eq_false, Bool.false_eq_true, c_isStop h v, c_oc2 h v]
  rw [goF_3]
  by_cases hs : 0 < m ∧ m % w 2 = 0
  · rw [decide_eq_true hs]
    by_cases hdr : w (11 + 3 * c) = 0
    · simp (disch := omega) only [a_bi_i, a_bv_n, a_bl_l, a_bq_q, l_0, l_1, l_2, l_3, l_4, l_5, l_6, l_7, l_8, l_9, l_10, l_12, l_16, l_20, l_24, l_25, l_31, l_32, l_33, l_40, l_48, l_57, l_60, l_63, l_64, l_78, l_85, l_97, l_99, l_100, l_122, l_255, l_325, l_700, l_999, l_1000, l_1200, l_99999, l_100000, l_1000000, l_2000000000, l_N, n_add, n_mul, n_lt, n_out, n_div, n_dm, n_eq, n_toN, n_inN, n_ltN, n_nltN, n_neN, Nat.not_lt_zero, false_or, or_false, ite_y, ite_n, if_true, if_false, ite_tt, ite_ff, b_0, b_1, eq_self_iff_true, Bool.true_eq_false, Bool.false_eq_true, hdr, hs, ne_eq, not_true_eq_false, and_false]; rfl
    · simp (disch := omega) only [a_bi_i, a_bv_n, a_bl_l, a_bq_q, l_0, l_1, l_2, l_3, l_4, l_5, l_6, l_7, l_8, l_9, l_10, l_12, l_16, l_20, l_24, l_25, l_31, l_32, l_33, l_40, l_48, l_57, l_60, l_63, l_64, l_78, l_85, l_97, l_99, l_100, l_122, l_255, l_325, l_700, l_999, l_1000, l_1200, l_99999, l_100000, l_1000000, l_2000000000, l_N, n_add, n_mul, n_lt, n_out, n_div, n_dm, n_eq, n_toN, n_inN, n_ltN, n_nltN, n_neN, Nat.not_lt_zero, false_or, or_false, ite_y, ite_n, if_true, if_false, ite_tt, ite_ff, b_0, b_1, eq_self_iff_true, Bool.true_eq_false, Bool.false_eq_true, hdr, hs, ne_eq, not_false_eq_true, and_self, true_and]
      rw [c_farness hR.1 hP hn h1 hm (by omega) h0 hp (by omega), a_bi_i]
      obtain ⟨⟨l3, l4⟩, ⟨g1, g2⟩, g3⟩ := loop_z (F := fun k (s : Int32 × Int32) => v_X5_roundFrom_38 X e r (nI m) s.1 s.2 (nI k) (I, L, ())) (P := fun k s => s.1 = nI (plF w (gA n ps m) c k) ∧ s.2 = oI ((nr (gA n ps m) (plF w (gA n ps m) c k) (w 0)).map (fun x => dist x (plF w (gA n ps m) c k)))) (w 0) (nI c, oI ((nr (gA n ps m) c (w 0)).map (fun x => dist x c))) ⟨rfl, rfl⟩ (fun k s hk hs => by
        obtain ⟨l3, l4⟩ := s
        obtain ⟨s1, s2⟩ := hs
        simp only at s1 s2
        subst s1
        subst s2
        have hpl := plF_lt (S := gA n ps m) hc k (by omega)
        have hck := vc k (by omega)
        by_cases hq : w (11 + 3 * k) = 1 ∧ farF (gA n ps m) (w 0) (plF w (gA n ps m) c k) < farF (gA n ps m) (w 0) k
        · have hn' : plF w (gA n ps m) c (k + 1) = k := by unfold plF; rw [if_pos hq]
          refine ⟨(nI k, oI ((nr (gA n ps m) k (w 0)).map (fun x => dist x k))), ⟨by rw [hn'], by rw [hn']⟩, fun z hz => ?_⟩
          refine v_X5_roundFrom_38.e X e _ _ _ _ _ I L z ?_
          simp (disch := omega) only [a_bi_i, a_bv_n, a_bl_l, a_bq_q, l_0, l_1, l_2, l_3, l_4, l_5, l_6, l_7, l_8, l_9, l_10, l_12, l_16, l_20, l_24, l_25, l_31, l_32, l_33, l_40, l_48, l_57, l_60, l_63, l_64, l_78, l_85, l_97, l_99, l_100, l_122, l_255, l_325, l_700, l_999, l_1000, l_1200, l_99999, l_100000, l_1000000, l_2000000000, l_N, n_add, n_mul, n_lt, n_out, n_div, n_dm, n_eq, n_toN, n_inN, n_ltN, n_nltN, n_neN, Nat.not_lt_zero, false_or, or_false, ite_y, ite_n, if_true, if_false, ite_tt, ite_ff, b_0, b_1, eq_self_iff_true, Bool.true_eq_false, Bool.false_eq_true, c_coaches h v, c_oc2 h v, hq.1, c_farness hR.1 hP hn h1 hm (show k < 8 by omega) h0 hp, far_lt h0 (show plF w (gA n ps m) c k < 8 by omega) (show k < 8 by omega), hq.2]
          exact hz
        · have hn' : plF w (gA n ps m) c (k + 1) = plF w (gA n ps m) c k := by rw [plF, if_neg hq]
          refine ⟨(nI (plF w (gA n ps m) c k), oI ((nr (gA n ps m) (plF w (gA n ps m) c k) (w 0)).map (fun x => dist x (plF w (gA n ps m) c k)))), ⟨by rw [hn'], by rw [hn']⟩, fun z hz => ?_⟩
          refine v_X5_roundFrom_38.e X e _ _ _ _ _ I L z ?_
          simp (disch := omega) only [a_bi_i, a_bv_n, a_bl_l, a_bq_q, l_0, l_1, l_2, l_3, l_4, l_5, l_6, l_7, l_8, l_9, l_10, l_12, l_16, l_20, l_24, l_25, l_31, l_32, l_33, l_40, l_48, l_57, l_60, l_63, l_64, l_78, l_85, l_97, l_99, l_100, l_122, l_255, l_325, l_700, l_999, l_1000, l_1200, l_99999, l_100000, l_1000000, l_2000000000, l_N, n_add, n_mul, n_lt, n_out, n_div, n_dm, n_eq, n_toN, n_inN, n_ltN, n_nltN, n_neN, Nat.not_lt_zero, false_or, or_false, ite_y, ite_n, if_true, if_false, ite_tt, ite_ff, b_0, b_1, eq_self_iff_true, Bool.true_eq_false, Bool.false_eq_true, c_coaches h v, c_oc2 h v, c_farness hR.1 hP hn h1 hm (show k < 8 by omega) h0 hp, far_lt h0 (show plF w (gA n ps m) c k < 8 by omega) (show k < 8 by omega)]
          by_cases hq1 : w (11 + 3 * k) = 1
          · have hq2 : ¬ farF (gA n ps m) (w 0) (plF w (gA n ps m) c k) < farF (gA n ps m) (w 0) k := fun q => hq ⟨hq1, q⟩
            simp only [hq1, hq2, if_true, if_false]
            exact hz
          · simp only [hq1, if_false]
            exact hz)
      simp only at g1 g2 g3
      subst g1
      refine g3 _ (v_X5_roundFrom_38.e X e _ _ _ _ _ I L _ ?_)
      simp (disch := omega) only [a_bi_i, a_bv_n, a_bl_l, a_bq_q, l_0, l_1, l_2, l_3, l_4, l_5, l_6, l_7, l_8, l_9, l_10, l_12, l_16, l_20, l_24, l_25, l_31, l_32, l_33, l_40, l_48, l_57, l_60, l_63, l_64, l_78, l_85, l_97, l_99, l_100, l_122, l_255, l_325, l_700, l_999, l_1000, l_1200, l_99999, l_100000, l_1000000, l_2000000000, l_N, n_add, n_mul, n_lt, n_out, n_div, n_dm, n_eq, n_toN, n_inN, n_ltN, n_nltN, n_neN, Nat.not_lt_zero, false_or, or_false, ite_y, ite_n, if_true, if_false, ite_tt, ite_ff, b_0, b_1, eq_self_iff_true, Bool.true_eq_false, Bool.false_eq_true, c_coaches h v]
      rfl
  · rw [decide_eq_false hs]
    simp (disch := omega) only [a_bi_i, a_bv_n, a_bl_l, a_bq_q, l_0, l_1, l_2, l_3, l_4, l_5, l_6, l_7, l_8, l_9, l_10, l_12, l_16, l_20, l_24, l_25, l_31, l_32, l_33, l_40, l_48, l_57, l_60, l_63, l_64, l_78, l_85, l_97, l_99, l_100, l_122, l_255, l_325, l_700, l_999, l_1000, l_1200, l_99999, l_100000, l_1000000, l_2000000000, l_N, n_add, n_mul, n_lt, n_out, n_div, n_dm, n_eq, n_toN, n_inN, n_ltN, n_nltN, n_neN, Nat.not_lt_zero, false_or, or_false, ite_y, ite_n, if_true, if_false, ite_tt, ite_ff, b_0, b_1, eq_self_iff_true, Bool.true_eq_false, Bool.false_eq_true, hs, false_and]; rfl
theorem c_placeAfter {r m n se rule : Nat} {p : Nat × Bool} {ps : Nat → Nat → Option Nat} (h : TC I w) (v : Vw w) (hR : RI I r n se) (hP : PC I (w 1) n ps) (hn : n ≤ 3) (hm : m < w 1) (hpl : plOk w rule p) (hse : se ≤ 7) (hru : rule ≤ 3) (hp : ∀ k, k < n → ∀ x, ps k m = some x → x < w 0) (hd : 5 ≤ d) : K_X5_placeAfter X d r (nI (clP p)) (nI rule) (nI m) (I, L, ()) = some (some (aI (nI (clP (goF w (gA n ps m) rule se m p)))), (I, L, ())) := by
  obtain ⟨e, rfl⟩ : ∃ e, d = e + 1 := ⟨d - 1, by omega⟩
  obtain ⟨⟨h0, h1, -⟩, -, vc, -⟩ := id v
  obtain ⟨hc, hl⟩ := hpl
  refine K_X5_placeAfter.e X e r _ _ _ I L _ ?_
  have hf : rule ≠ 2 → p = (p.1, false) := fun hr => by
    obtain ⟨p1, p2⟩ := p
    cases p2 with
    | false => rfl
    | true => exact absurd (hl rfl).1 hr
  rcases (show rule = 0 ∨ rule = 1 ∨ rule = 2 ∨ rule = 3 by omega) with rfl | rfl | rfl | rfl
  · simp (disch := omega) only [a_bi_i, a_bv_n, a_bl_l, a_bq_q, l_0, l_1, l_2, l_3, l_4, l_5, l_6, l_7, l_8, l_9, l_10, l_12, l_16, l_20, l_24, l_25, l_31, l_32, l_33, l_40, l_48, l_57, l_60, l_63, l_64, l_78, l_85, l_97, l_99, l_100, l_122, l_255, l_325, l_700, l_999, l_1000, l_1200, l_99999, l_100000, l_1000000, l_2000000000, l_N, n_add, n_mul, n_lt, n_out, n_div, n_dm, n_eq, n_toN, n_inN, n_ltN, n_nltN, n_neN, Nat.not_lt_zero, false_or, or_false, ite_y, ite_n, if_true, if_false, ite_tt, ite_ff, b_0, b_1, eq_self_iff_true, Bool.true_eq_false, Bool.false_eq_true]; rfl
  · rw [hf (by decide)]
    have := c_forward (X := X) (d := e) (L := L) (c := p.1) h v hR hP hn hm hc hse hp (by omega)
    have e1 : clP (p.1, false) = p.1 := rfl
    simp (disch := omega) only [a_bi_i, a_bv_n, a_bl_l, a_bq_q, l_0, l_1, l_2, l_3, l_4, l_5, l_6, l_7, l_8, l_9, l_10, l_12, l_16, l_20, l_24, l_25, l_31, l_32, l_33, l_40, l_48, l_57, l_60, l_63, l_64, l_78, l_85, l_97, l_99, l_100, l_122, l_255, l_325, l_700, l_999, l_1000, l_1200, l_99999, l_100000, l_1000000, l_2000000000, l_N, n_add, n_mul, n_lt, n_out, n_div, n_dm, n_eq, n_toN, n_inN, n_ltN, n_nltN, n_neN, Nat.not_lt_zero, false_or, or_false, ite_y, ite_n, if_true, if_false, ite_tt, ite_ff, b_0, b_1, eq_self_iff_true, Bool.true_eq_false, Bool.false_eq_true, e1, this]
  · have := c_hide (X := X) (d := e) (L := L) (p := p) h v hR hP hn hm hc hse hp (by omega)
    simp (disch := omega) only [a_bi_i, a_bv_n, a_bl_l, a_bq_q, l_0, l_1, l_2, l_3, l_4, l_5, l_6, l_7, l_8, l_9, l_10, l_12, l_16, l_20, l_24, l_25, l_31, l_32, l_33, l_40, l_48, l_57, l_60, l_63, l_64, l_78, l_85, l_97, l_99, l_100, l_122, l_255, l_325, l_700, l_999, l_1000, l_1200, l_99999, l_100000, l_1000000, l_2000000000, l_N, n_add, n_mul, n_lt, n_out, n_div, n_dm, n_eq, n_toN, n_inN, n_ltN, n_nltN, n_neN, Nat.not_lt_zero, false_or, or_false, ite_y, ite_n, if_true, if_false, ite_tt, ite_ff, b_0, b_1, eq_self_iff_true, Bool.true_eq_false, Bool.false_eq_true, this]
  · rw [hf (by decide)]
    have := c_round (X := X) (d := e) (L := L) (c := p.1) (se := se) h v hR hP hn hm hc hp (by omega)
    have e1 : clP (p.1, false) = p.1 := rfl
    simp (disch := omega) only [a_bi_i, a_bv_n, a_bl_l, a_bq_q, l_0, l_1, l_2, l_3, l_4, l_5, l_6, l_7, l_8, l_9, l_10, l_12, l_16, l_20, l_24, l_25, l_31, l_32, l_33, l_40, l_48, l_57, l_60, l_63, l_64, l_78, l_85, l_97, l_99, l_100, l_122, l_255, l_325, l_700, l_999, l_1000, l_1200, l_99999, l_100000, l_1000000, l_2000000000, l_N, n_add, n_mul, n_lt, n_out, n_div, n_dm, n_eq, n_toN, n_inN, n_ltN, n_nltN, n_neN, Nat.not_lt_zero, false_or, or_false, ite_y, ite_n, if_true, if_false, ite_tt, ite_ff, b_0, b_1, eq_self_iff_true, Bool.true_eq_false, Bool.false_eq_true, e1, this]
/-- the places up to minute m stand in the ride's row -/
def RP (I : A3 Int32) (r M : Nat) (p : Nat → Nat × Bool) : Prop := ∀ j, j < M → I 18 r j = nI (clP (p j))
theorem c_coachIn {r m M : Nat} {p : Nat → Nat × Bool} (hR : RP I r M p) (hm : m < M) (hm40 : m < 40) (hp : (p m).1 < 8) (hd : 1 ≤ d) : K_X5_coachIn X d r (nI m) (I, L, ()) = some (some (aI (nI (p m).1)), (I, L, ())) := by
  obtain ⟨e, rfl⟩ : ∃ e, d = e + 1 := ⟨d - 1, by omega⟩
  have h16 := clP_lt hp
  refine K_X5_coachIn.e X e r _ I L _ ?_
  simp (disch := omega) only [a_bi_i, a_bv_n, a_bl_l, a_bq_q, l_0, l_1, l_2, l_3, l_4, l_5, l_6, l_7, l_8, l_9, l_10, l_12, l_16, l_20, l_24, l_25, l_31, l_32, l_33, l_40, l_48, l_57, l_60, l_63, l_64, l_78, l_85, l_97, l_99, l_100, l_122, l_255, l_325, l_700, l_999, l_1000, l_1200, l_99999, l_100000, l_1000000, l_2000000000, l_N, n_add, n_mul, n_lt, n_out, n_div, n_dm, n_eq, n_toN, n_inN, n_ltN, n_nltN, n_neN, Nat.not_lt_zero, false_or, or_false, ite_y, ite_n, if_true, if_false, ite_tt, ite_ff, b_0, b_1, eq_self_iff_true, Bool.true_eq_false, Bool.false_eq_true, hR m hm, clP_mod hp]
theorem c_inLoo {r m M : Nat} {p : Nat → Nat × Bool} (hR : RP I r M p) (hm : m < M) (hm40 : m < 40) (hp : (p m).1 < 8) (hd : 1 ≤ d) : K_X5_inLoo X d r (nI m) (I, L, ()) = some (some (aI (bI (p m).2)), (I, L, ())) := by
  obtain ⟨e, rfl⟩ : ∃ e, d = e + 1 := ⟨d - 1, by omega⟩
  have h16 := clP_lt hp
  refine K_X5_inLoo.e X e r _ I L _ ?_
  simp (disch := omega) only [a_bi_i, a_bv_n, a_bl_l, a_bq_q, l_0, l_1, l_2, l_3, l_4, l_5, l_6, l_7, l_8, l_9, l_10, l_12, l_16, l_20, l_24, l_25, l_31, l_32, l_33, l_40, l_48, l_57, l_60, l_63, l_64, l_78, l_85, l_97, l_99, l_100, l_122, l_255, l_325, l_700, l_999, l_1000, l_1200, l_99999, l_100000, l_1000000, l_2000000000, l_N, n_add, n_mul, n_lt, n_out, n_div, n_dm, n_eq, n_toN, n_inN, n_ltN, n_nltN, n_neN, Nat.not_lt_zero, false_or, or_false, ite_y, ite_n, if_true, if_false, ite_tt, ite_ff, b_0, b_1, eq_self_iff_true, Bool.true_eq_false, Bool.false_eq_true, hR m hm, clP_8 hp]
  cases (p m).2 <;> rfl
theorem c_swaps {a x y m T : Nat} {q : Nat → Option Nat} (hrow : ∀ m, m < T → I 14 a m = oI (q m)) (hT : T ≤ 40) (hm : m < T) (hq : ∀ m z, q m = some z → z < 8) (hx : x < 8) (hy : y < 8) (hd : 1 ≤ d) : K_X1_swaps X d a (nI x) (nI y) (nI m) (I, L, ()) = some (some (aI (bI (decide (0 < m) && (decide (q (m - 1) = some y) && decide (q m = some x))))), (I, L, ())) := by
  obtain ⟨e, rfl⟩ : ∃ e, d = e + 1 := ⟨d - 1, by omega⟩
  have q8 : ∀ m z, q m = some z → z < 1000 := fun m z hz => by have := hq m z hz; omega
  refine K_X1_swaps.e X e a _ _ _ I L _ ?_
  by_cases h0 : 0 < m
  · rw [l_1, n_sub (show 1 ≤ m by omega)]
    simp (disch := omega) only [a_bi_i, a_bv_n, a_bl_l, a_bq_q, l_0, l_1, l_2, l_3, l_4, l_5, l_6, l_7, l_8, l_9, l_10, l_12, l_16, l_20, l_24, l_25, l_31, l_32, l_33, l_40, l_48, l_57, l_60, l_63, l_64, l_78, l_85, l_97, l_99, l_100, l_122, l_255, l_325, l_700, l_999, l_1000, l_1200, l_99999, l_100000, l_1000000, l_2000000000, l_N, n_add, n_mul, n_lt, n_out, n_div, n_dm, n_eq, n_toN, n_inN, n_ltN, n_nltN, n_neN, Nat.not_lt_zero, false_or, or_false, ite_y, ite_n, if_true, if_false, ite_tt, ite_ff, b_0, b_1, eq_self_iff_true, Bool.true_eq_false, Bool.false_eq_true, h0, hrow (m - 1) (by omega), hrow m hm, oI_eq (q8 (m - 1)) (show y < 1000 by omega), oI_eq (q8 m) (show x < 1000 by omega), decide_true, Bool.true_and]
    by_cases h1 : q (m - 1) = some y <;> by_cases h2 : q m = some x <;> simp only [h1, h2, if_true, if_false, decide_true, decide_false, Bool.and_self, Bool.and_false, Bool.false_and] <;> rfl
  · simp (disch := omega) only [a_bi_i, a_bv_n, a_bl_l, a_bq_q, l_0, l_1, l_2, l_3, l_4, l_5, l_6, l_7, l_8, l_9, l_10, l_12, l_16, l_20, l_24, l_25, l_31, l_32, l_33, l_40, l_48, l_57, l_60, l_63, l_64, l_78, l_85, l_97, l_99, l_100, l_122, l_255, l_325, l_700, l_999, l_1000, l_1200, l_99999, l_100000, l_1000000, l_2000000000, l_N, n_add, n_mul, n_lt, n_out, n_div, n_dm, n_eq, n_toN, n_inN, n_ltN, n_nltN, n_neN, Nat.not_lt_zero, false_or, or_false, ite_y, ite_n, if_true, if_false, ite_tt, ite_ff, b_0, b_1, eq_self_iff_true, Bool.true_eq_false, Bool.false_eq_true, h0, decide_false, Bool.false_and]; rfl
theorem c_meets {r i m n T M : Nat} {ps : Nat → Nat → Option Nat} {kn : Nat → Nat} {p : Nat → Nat × Bool} (hP : PC I T n ps) (hR : RP I r M p) (hi : i < n) (hn : n ≤ 3) (hT : T ≤ 40) (hm : m < T) (hmM : m < M) (hps : ∀ m z, ps i m = some z → z < 8) (hp : ∀ m, (p m).1 < 8) (hl : (p m).2 = false) (hd : 2 ≤ d) : K_X5_meets X d r (nI i) (nI m) (I, L, ()) = some (some (aI (bI (metC ps kn p i m))), (I, L, ())) := by
  obtain ⟨e, rfl⟩ : ∃ e, d = e + 1 := ⟨d - 1, by omega⟩
  have q8 : ∀ m z, ps i m = some z → z < 1000 := fun m z hz => by have := hps m z hz; omega
  have hpm := hp m
  have hpm1 := hp (m - 1)
  refine K_X5_meets.e X e r _ _ I L _ ?_
  unfold metC
  rw [hl]
  simp (disch := omega) only [a_bi_i, a_bv_n, a_bl_l, a_bq_q, l_0, l_1, l_2, l_3, l_4, l_5, l_6, l_7, l_8, l_9, l_10, l_12, l_16, l_20, l_24, l_25, l_31, l_32, l_33, l_40, l_48, l_57, l_60, l_63, l_64, l_78, l_85, l_97, l_99, l_100, l_122, l_255, l_325, l_700, l_999, l_1000, l_1200, l_99999, l_100000, l_1000000, l_2000000000, l_N, n_add, n_mul, n_lt, n_out, n_div, n_dm, n_eq, n_toN, n_inN, n_ltN, n_nltN, n_neN, Nat.not_lt_zero, false_or, or_false, ite_y, ite_n, if_true, if_false, ite_tt, ite_ff, b_0, b_1, eq_self_iff_true, Bool.true_eq_false, Bool.false_eq_true, c_coachIn hR hmM (show m < 40 by omega) hpm, hP i hi m hm, oI_eq (q8 m) (show (p m).1 < 1000 by omega)]
  by_cases h1 : ps i m = some (p m).1
  · simp only [h1, if_true, decide_true, Bool.true_or]; rfl
  · simp only [h1, if_false, decide_false, Bool.false_or]
    by_cases h0 : m = 0
    · subst h0
      simp only [if_true, Nat.lt_irrefl, false_and, decide_false, Bool.false_and]; rfl
    · have h0' : 0 < m := by omega
      have hd16 := dist_le (show (p (m - 1)).1 < 16 by omega) (show (p m).1 < 16 by omega)
      rw [if_neg h0, n_sub (show 1 ≤ m by omega)]
      simp (disch := omega) only [a_bi_i, a_bv_n, a_bl_l, a_bq_q, l_0, l_1, l_2, l_3, l_4, l_5, l_6, l_7, l_8, l_9, l_10, l_12, l_16, l_20, l_24, l_25, l_31, l_32, l_33, l_40, l_48, l_57, l_60, l_63, l_64, l_78, l_85, l_97, l_99, l_100, l_122, l_255, l_325, l_700, l_999, l_1000, l_1200, l_99999, l_100000, l_1000000, l_2000000000, l_N, n_add, n_mul, n_lt, n_out, n_div, n_dm, n_eq, n_toN, n_inN, n_ltN, n_nltN, n_neN, Nat.not_lt_zero, false_or, or_false, ite_y, ite_n, if_true, if_false, ite_tt, ite_ff, b_0, b_1, eq_self_iff_true, Bool.true_eq_false, Bool.false_eq_true, c_coachIn hR (show m - 1 < M by omega) (show m - 1 < 40 by omega) hpm1, c_coachIn hR hmM (show m < 40 by omega) hpm, abs_m, c_swaps (fun m hm => hP i hi m hm) hT hm hps hpm1 hpm, h0', true_and, decide_true, Bool.true_and]
      by_cases h2 : dist (p (m - 1)).1 (p m).1 = 1
      · simp only [h2, if_true, decide_true, Bool.true_and]
        cases (decide (ps i (m - 1) = some (p m).1) && decide (ps i m = some (p (m - 1)).1)) <;> rfl
      · simp only [h2, if_false, decide_false, Bool.false_and]; rfl
/-- the catch of a minute -/
def catchP (I J : A3 Int32) (r m : Nat) (o : Option Nat) : Prop := Rw 17 r I J ∧ (∀ j, j ≠ 5 → j ≠ 6 → J 17 r j = I 17 r j) ∧ (match o with
  | some k => J 17 r 5 = nI m ∧ J 17 r 6 = nI k
  | none => J 17 r 5 = I 17 r 5 ∧ J 17 r 6 = I 17 r 6)
theorem c_look {r m n T M se : Nat} {ps : Nat → Nat → Option Nat} {p : Nat → Nat × Bool} (h : TC I w) (v : Vw w) (hRI : RI I r n se) (hP : PC I T n ps) (hR : RP I r M p) (hn : n ≤ 3) (hnw : n ≤ w 5) (hT : T ≤ 40) (hm : m < T) (hmM : m < M) (hps : ∀ i, i < n → ∀ m z, ps i m = some z → z < 8) (hp : ∀ m, (p m).1 < 8) (hd : 4 ≤ d) : ∃ J, K_X5_lookForCatch X d r (nI m) (I, L, ()) = some (none, (J, L, ())) ∧ catchP I J r m (if I 17 r 5 = nN then fnd n (fun k => metC ps (knA w) p k m) else none) := by
  obtain ⟨e, rfl⟩ : ∃ e, d = e + 1 := ⟨d - 1, by omega⟩
  obtain ⟨⟨h0, h1, -, -, -, h5, -⟩, -, -, vi, -⟩ := id v
  by_cases h17 : I 17 r 5 = nN
  · rw [if_pos h17]
    -- not had so far
    have key : ∀ k i, i + k = n → ∃ J, v_X5_lookForCatch_2 X e r (nI m) (nI i) (I, L, ()) = some (none, (J, L, ())) ∧ catchP I J r m (fndF (fun k => metC ps (knA w) p k m) k i) := by
      intro k
      induction k with
      | zero =>
        intro i hi
        refine ⟨I, v_X5_lookForCatch_2.e X e _ _ _ I L _ ?_, Rw.refl, fun _ _ _ => rfl, rfl, rfl⟩
        rw [hRI.1]
        simp (disch := omega) only [a_bi_i, a_bv_n, a_bl_l, a_bq_q, l_0, l_1, l_2, l_3, l_4, l_5, l_6, l_7, l_8, l_9, l_10, l_12, l_16, l_20, l_24, l_25, l_31, l_32, l_33, l_40, l_48, l_57, l_60, l_63, l_64, l_78, l_85, l_97, l_99, l_100, l_122, l_255, l_325, l_700, l_999, l_1000, l_1200, l_99999, l_100000, l_1000000, l_2000000000, l_N, n_add, n_mul, n_lt, n_out, n_div, n_dm, n_eq, n_toN, n_inN, n_ltN, n_nltN, n_neN, Nat.not_lt_zero, false_or, or_false, ite_y, ite_n, if_true, if_false, ite_tt, ite_ff, b_0, b_1, eq_self_iff_true, Bool.true_eq_false, Bool.false_eq_true]
      | succ k ih =>
        intro i hi
        have hpm := hp m
        have hkn := vi i (by omega)
        have q8 : ∀ m z, ps i m = some z → z < 1000 := fun m z hz => by have := hps i (by omega) m z hz; omega
        have hit : metC ps (knA w) p i m = true → ∃ J, OLe (v_X5_lookForCatch_2 X e r (nI m) (nI (i + 1)) (up3 (up3 I 17 r 5 (nI m)) 17 r 6 (nI i), L, ())) (v_X5_lookForCatch_2 X e r (nI m) (nI i) (I, L, ())) → v_X5_lookForCatch_2 X e r (nI m) (nI i) (I, L, ()) = some (none, (J, L, ())) ∧ catchP I J r m (some i) := by
          intro _
          refine ⟨up3 (up3 I 17 r 5 (nI m)) 17 r 6 (nI i), fun hO => ⟨hO _ (v_X5_lookForCatch_2.e X e _ _ _ _ L _ ?_), (Rw.refl.up).up, fun j j5 j6 => ?_, ?_, u3_eq _ _ _ _ _⟩⟩
          · rw [u3_j _ _ (show 3 ≠ 6 by decide), u3_j _ _ (show 3 ≠ 5 by decide), u3_j _ _ (show 5 ≠ 6 by decide), u3_eq, hRI.1]
            by_cases hlt : i + 1 < n
            · simp (disch := omega) only [a_bi_i, a_bv_n, a_bl_l, a_bq_q, l_0, l_1, l_2, l_3, l_4, l_5, l_6, l_7, l_8, l_9, l_10, l_12, l_16, l_20, l_24, l_25, l_31, l_32, l_33, l_40, l_48, l_57, l_60, l_63, l_64, l_78, l_85, l_97, l_99, l_100, l_122, l_255, l_325, l_700, l_999, l_1000, l_1200, l_99999, l_100000, l_1000000, l_2000000000, l_N, n_add, n_mul, n_lt, n_out, n_div, n_dm, n_eq, n_toN, n_inN, n_ltN, n_nltN, n_neN, Nat.not_lt_zero, false_or, or_false, ite_y, ite_n, if_true, if_false, ite_tt, ite_ff, b_0, b_1, eq_self_iff_true, Bool.true_eq_false, Bool.false_eq_true]
            · simp (disch := omega) only [a_bi_i, a_bv_n, a_bl_l, a_bq_q, l_0, l_1, l_2, l_3, l_4, l_5, l_6, l_7, l_8, l_9, l_10, l_12, l_16, l_20, l_24, l_25, l_31, l_32, l_33, l_40, l_48, l_57, l_60, l_63, l_64, l_78, l_85, l_97, l_99, l_100, l_122, l_255, l_325, l_700, l_999, l_1000, l_1200, l_99999, l_100000, l_1000000, l_2000000000, l_N, n_add, n_mul, n_lt, n_out, n_div, n_dm, n_eq, n_toN, n_inN, n_ltN, n_nltN, n_neN, Nat.not_lt_zero, false_or, or_false, ite_y, ite_n, if_true, if_false, ite_tt, ite_ff, b_0, b_1, eq_self_iff_true, Bool.true_eq_false, Bool.false_eq_true]
          · rw [u3_j _ _ j6, u3_j _ _ j5]
          · rw [u3_j _ _ (show 5 ≠ 6 by decide), u3_eq]
        unfold fndF
        cases hl : (p m).2 with
        | false =>
          have hmt := c_meets (X := X) (d := e) (L := L) (kn := knA w) hP hR (show i < n by omega) hn hT hm hmM (hps i (by omega)) hp hl (by omega)
          cases hc : metC ps (knA w) p i m with
          | true =>
            obtain ⟨J, hJ⟩ := hit hc
            obtain ⟨j1, j2⟩ := hJ (fun z hz => by
              refine v_X5_lookForCatch_2.e X e _ _ _ I L z ?_
              rw [hRI.1, h17]
              simp (disch := omega) only [a_bi_i, a_bv_n, a_bl_l, a_bq_q, l_0, l_1, l_2, l_3, l_4, l_5, l_6, l_7, l_8, l_9, l_10, l_12, l_16, l_20, l_24, l_25, l_31, l_32, l_33, l_40, l_48, l_57, l_60, l_63, l_64, l_78, l_85, l_97, l_99, l_100, l_122, l_255, l_325, l_700, l_999, l_1000, l_1200, l_99999, l_100000, l_1000000, l_2000000000, l_N, n_add, n_mul, n_lt, n_out, n_div, n_dm, n_eq, n_toN, n_inN, n_ltN, n_nltN, n_neN, Nat.not_lt_zero, false_or, or_false, ite_y, ite_n, if_true, if_false, ite_tt, ite_ff, b_0, b_1, eq_self_iff_true, Bool.true_eq_false, Bool.false_eq_true, c_inLoo hR hmM (show m < 40 by omega) hpm, hl, hmt, hc]
              exact hz)
            exact ⟨J, j1, j2⟩
          | false =>
            obtain ⟨J, j1, j2⟩ := ih (i + 1) (by omega)
            refine ⟨J, v_X5_lookForCatch_2.e X e _ _ _ I L _ ?_, j2⟩
            rw [hRI.1, h17]
            simp (disch := omega) only [a_bi_i, a_bv_n, a_bl_l, a_bq_q, l_0, l_1, l_2, l_3, l_4, l_5, l_6, l_7, l_8, l_9, l_10, l_12, l_16, l_20, l_24, l_25, l_31, l_32, l_33, l_40, l_48, l_57, l_60, l_63, l_64, l_78, l_85, l_97, l_99, l_100, l_122, l_255, l_325, l_700, l_999, l_1000, l_1200, l_99999, l_100000, l_1000000, l_2000000000, l_N, n_add, n_mul, n_lt, n_out, n_div, n_dm, n_eq, n_toN, n_inN, n_ltN, n_nltN, n_neN, Nat.not_lt_zero, false_or, or_false, ite_y, ite_n, if_true, if_false, ite_tt, ite_ff, b_0, b_1, eq_self_iff_true, Bool.true_eq_false, Bool.false_eq_true, c_inLoo hR hmM (show m < 40 by omega) hpm, hl, hmt, hc]
            exact j1
        | true =>
          have hmc : metC ps (knA w) p i m = (decide (0 < w (36 + 5 * i)) && decide (ps i m = some (p m).1)) := by
            unfold metC; rw [if_pos hl]; rfl
          cases hc : metC ps (knA w) p i m with
          | true =>
            obtain ⟨J, hJ⟩ := hit hc
            rw [hmc] at hc
            obtain ⟨c1, c2⟩ := Bool.and_eq_true_iff.mp hc
            have c1 := of_decide_eq_true c1
            have c2 := of_decide_eq_true c2
            obtain ⟨j1, j2⟩ := hJ (fun z hz => by
              refine v_X5_lookForCatch_2.e X e _ _ _ I L z ?_
              rw [hRI.1, h17]
              simp (disch := omega) only [a_bi_i, a_bv_n, a_bl_l, a_bq_q, l_0, l_1, l_2, l_3, l_4, l_5, l_6, l_7, l_8, l_9, l_10, l_12, l_16, l_20, l_24, l_25, l_31, l_32, l_33, l_40, l_48, l_57, l_60, l_63, l_64, l_78, l_85, l_97, l_99, l_100, l_122, l_255, l_325, l_700, l_999, l_1000, l_1200, l_99999, l_100000, l_1000000, l_2000000000, l_N, n_add, n_mul, n_lt, n_out, n_div, n_dm, n_eq, n_toN, n_inN, n_ltN, n_nltN, n_neN, Nat.not_lt_zero, false_or, or_false, ite_y, ite_n, if_true, if_false, ite_tt, ite_ff, b_0, b_1, eq_self_iff_true, Bool.true_eq_false, Bool.false_eq_true, c_inLoo hR hmM (show m < 40 by omega) hpm, hl, c_oi3 h v, c1, c_coachIn hR hmM (show m < 40 by omega) hpm, hP i (show i < n by omega) m hm, c2, oI]
              exact hz)
            exact ⟨J, j1, j2⟩
          | false =>
            obtain ⟨J, j1, j2⟩ := ih (i + 1) (by omega)
            refine ⟨J, v_X5_lookForCatch_2.e X e _ _ _ I L _ ?_, j2⟩
            rw [hRI.1, h17]
            simp (disch := omega) only [a_bi_i, a_bv_n, a_bl_l, a_bq_q, l_0, l_1, l_2, l_3, l_4, l_5, l_6, l_7, l_8, l_9, l_10, l_12, l_16, l_20, l_24, l_25, l_31, l_32, l_33, l_40, l_48, l_57, l_60, l_63, l_64, l_78, l_85, l_97, l_99, l_100, l_122, l_255, l_325, l_700, l_999, l_1000, l_1200, l_99999, l_100000, l_1000000, l_2000000000, l_N, n_add, n_mul, n_lt, n_out, n_div, n_dm, n_eq, n_toN, n_inN, n_ltN, n_nltN, n_neN, Nat.not_lt_zero, false_or, or_false, ite_y, ite_n, if_true, if_false, ite_tt, ite_ff, b_0, b_1, eq_self_iff_true, Bool.true_eq_false, Bool.false_eq_true, c_inLoo hR hmM (show m < 40 by omega) hpm, hl, c_oi3 h v, c_coachIn hR hmM (show m < 40 by omega) hpm, hP i (show i < n by omega) m hm, oI_eq (q8 m) (show (p m).1 < 1000 by omega)]
            rw [hmc] at hc
            by_cases c1 : 0 < w (36 + 5 * i)
            · have c2 : ¬ ps i m = some (p m).1 := fun q => by simp [c1, q] at hc
              simp only [c1, c2, if_true, if_false]; exact j1
            · simp only [c1, if_false]; exact j1
    obtain ⟨J, j1, j2⟩ := key n 0 (by omega)
    exact ⟨J, K_X5_lookForCatch.e X e r _ I L _ j1, j2⟩
  · rw [if_neg h17]
    refine ⟨I, K_X5_lookForCatch.e X e r _ I L _ (v_X5_lookForCatch_2.e X e _ _ _ I L _ ?_), Rw.refl, fun _ _ _ => rfl, rfl, rfl⟩
    rw [hRI.1, l_1, l_N]
    simp only [h17, if_false, ite_self]
end
