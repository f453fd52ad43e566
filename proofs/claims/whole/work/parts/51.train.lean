/-! the train: what the class's cells and the reference's say of it -/
abbrev TW : Type := Nat → Nat
def TC (I : A3 Int32) (w : TW) : Prop := (∀ j, j < 8 → I 6 0 j = nI (w j)) ∧ (∀ j, j < 24 → I 7 0 j = nI (w (9 + j))) ∧ (∀ j, j < 15 → I 8 0 j = nI (w (33 + j))) ∧ (∀ j, j < 30 → I 9 0 j = nI (w (48 + j))) ∧ (∀ j, j < 7 → I 10 0 j = nI (w (78 + j)))
def TM (I : A3 Int32) (w : TW) : Prop := ∀ j, j < 85 → I 41 0 j = nI (w j)
def Vw (w : TW) : Prop :=
  (w 0 ≤ 8 ∧ w 1 ≤ 40 ∧ w 2 ≤ 20 ∧ w 3 ≤ 99 ∧ w 4 ≤ 999 ∧ w 5 ≤ 3 ∧ w 6 ≤ 6 ∧ w 7 ≤ 2000 ∧ w 8 ≤ 60) ∧
  ((w 7 = 0 → w 0 = 0 ∧ w 1 = 0 ∧ w 5 = 0 ∧ w 6 = 0) ∧ (0 < w 7 → 2 ≤ w 0 ∧ 1 ≤ w 1 ∧ 1 ≤ w 2)) ∧
  (∀ c, c < 8 → w (9 + 3 * c) ≤ 99 ∧ w (10 + 3 * c) ≤ 1 ∧ w (11 + 3 * c) ≤ 1) ∧
  (∀ i, i < w 5 → w (33 + 5 * i) < w 0 ∧ w (34 + 5 * i) ≤ 1 ∧ (1 ≤ w (35 + 5 * i) ∧ w (35 + 5 * i) ≤ 20) ∧ w (36 + 5 * i) ≤ 100 ∧ w (37 + 5 * i) ≤ 1) ∧
  (∀ r, r < w 6 → w (48 + 5 * r) < w 0 ∧ w (49 + 5 * r) ≤ 3 ∧ w (50 + 5 * r) ≤ 7 ∧ w (51 + 5 * r) ≤ 100 ∧ w (52 + 5 * r) ≤ 1) ∧
  (∀ d, d < 7 → w (78 + d) ≤ 100)
/-- what is in the train: coach, inspector, rider, day -/
def pe (w : TW) (c : Nat) : Nat := w (9 + 3 * c)
def lo (w : TW) (c : Nat) : Nat := w (10 + 3 * c)
def dr (w : TW) (c : Nat) : Nat := w (11 + 3 * c)
theorem Vw.live {w : TW} (v : Vw w) (h : 0 < w 0 ∨ 0 < w 1 ∨ 0 < w 5 ∨ 0 < w 6) : 0 < w 7 ∧ 2 ≤ w 0 ∧ 1 ≤ w 1 ∧ 1 ≤ w 2 := by
  obtain ⟨-, ⟨b1, b2⟩, -⟩ := v
  have h7 : 0 < w 7 := by
    apply Nat.pos_of_ne_zero
    intro h0
    have := b1 h0
    omega
  exact ⟨h7, b2 h7⟩
theorem has_val {a : Int32} {n : Nat} {σ : AU} : (if a < nI 0 then some (some (aI (nI 0)), σ) else (if a < nI n then some (some (aI (nI 1)), σ) else some (some (aI (nI 0)), σ))) = some (some (aI (bI (inr a n))), σ) := by
  unfold inr
  by_cases h1 : a < nI 0 <;> by_cases h2 : a < nI n <;> simp [h1, h2, bI]
def inL (a : Int64) (lo hi : Int) : Bool := decide (lo ≤ a.toInt ∧ a.toInt ≤ hi)
theorem in_val {a b c : Int64} {σ : AU} : (if lg_cmp a b < nI 0 then some (some (aI (nI 0)), σ) else (if nI 0 < lg_cmp a c then some (some (aI (nI 0)), σ) else some (some (aI (nI 1)), σ))) = some (some (aI (bI (inL a b.toInt c.toInt))), σ) := by
  have e1 : (lg_cmp a b < nI 0) ↔ a.toInt < b.toInt := by
    rw [← Int32.not_le]
    show ¬ (0 ≤ lg_cmp a b) ↔ _
    rw [lg_cmp_ge, Int64.le_iff_toInt_le]
    omega
  have e2 : (nI 0 < lg_cmp a c) ↔ c.toInt < a.toInt := by
    unfold lg_cmp
    by_cases h1 : a > c
    · rw [if_pos h1]
      have : c.toInt < a.toInt := Int64.lt_iff_toInt_lt.mp h1
      exact ⟨fun _ => this, fun _ => by decide⟩
    · have h2 : ¬ c.toInt < a.toInt := fun q => h1 (Int64.lt_iff_toInt_lt.mpr q)
      rw [if_neg h1]
      by_cases h3 : a = c
      · rw [if_pos h3]; exact ⟨fun q => absurd q (by decide), fun q => absurd q h2⟩
      · rw [if_neg h3]; exact ⟨fun q => absurd q (by decide), fun q => absurd q h2⟩
  unfold inL
  by_cases h1 : a.toInt < b.toInt
  · rw [if_pos (e1.mpr h1)]
    have : ¬ (b.toInt ≤ a.toInt ∧ a.toInt ≤ c.toInt) := by omega
    simp [this, bI]
  · rw [if_neg (fun q => h1 (e1.mp q))]
    by_cases h2 : c.toInt < a.toInt
    · rw [if_pos (e2.mpr h2)]
      have : ¬ (b.toInt ≤ a.toInt ∧ a.toInt ≤ c.toInt) := by omega
      simp [this, bI]
    · rw [if_neg (fun q => h2 (e2.mp q))]
      have : b.toInt ≤ a.toInt ∧ a.toInt ≤ c.toInt := by omega
      simp [this, bI]
theorem n_pred {n : Nat} (hn : n < 2147483648) : (nI n - nI 1).toInt = (n : Int) - 1 := by
  cases n with
  | zero => rfl
  | succ n => rw [n_sub (by omega), n_toInt (by omega)]; omega
theorem inr_toInt {a : Int32} {n : Nat} (hn : n < 2147483648) : inr a n = decide (0 ≤ a.toInt ∧ a.toInt ≤ (n : Int) - 1) := by
  unfold inr
  rw [decide_eq_decide, Int32.lt_iff_toInt_lt, Int32.lt_iff_toInt_lt, n_toInt hn, n_toInt (by decide)]
  omega
theorem inL_n {a : Int32} {n : Nat} (hn : n < 2147483648) : inL a.toInt64 (0 : Int64).toInt (nI n - nI 1).toInt64.toInt = inr a n := by
  rw [inr_toInt hn]
  unfold inL
  rw [Int32.toInt_toInt64, Int32.toInt_toInt64, n_pred hn]
  rfl
theorem bool_val {b : Bool} {σ : AU} : (if bI b = nI 0 ∨ bI b = nI 1 then some (some (aI (bI b)), σ) else none) = some (some (aI (bI b)), σ) := by
  cases b <;> rfl
section
variable {X : AX} {d : Nat} {I : A3 Int32} {L : A3 Int64} {w : TW}
theorem c_lines (h : TC I w) (v : Vw w) (hd : 1 ≤ d) : K_X9_lines X d 0 (I, L, ()) = some (some (aI (nI (w 7))), (I, L, ())) := by
  obtain ⟨e, rfl⟩ : ∃ e, d = e + 1 := ⟨d - 1, by omega⟩
  refine K_X9_lines.e X e 0 I L _ ?_
  rw [h.1 7 (by decide)]
theorem c_coaches (h : TC I w) (v : Vw w) (hd : 1 ≤ d) : K_X9_coaches X d 0 (I, L, ()) = some (some (aI (nI (w 0))), (I, L, ())) := by
  obtain ⟨e, rfl⟩ : ∃ e, d = e + 1 := ⟨d - 1, by omega⟩
  refine K_X9_coaches.e X e 0 I L _ ?_
  rw [h.1 0 (by decide)]
theorem c_minutes (h : TC I w) (v : Vw w) (hd : 1 ≤ d) : K_X9_minutes X d 0 (I, L, ()) = some (some (aI (nI (w 1))), (I, L, ())) := by
  obtain ⟨e, rfl⟩ : ∃ e, d = e + 1 := ⟨d - 1, by omega⟩
  refine K_X9_minutes.e X e 0 I L _ ?_
  rw [h.1 1 (by decide)]
theorem c_inspectors (h : TC I w) (v : Vw w) (hd : 1 ≤ d) : K_X9_inspectors X d 0 (I, L, ()) = some (some (aI (nI (w 5))), (I, L, ())) := by
  obtain ⟨e, rfl⟩ : ∃ e, d = e + 1 := ⟨d - 1, by omega⟩
  refine K_X9_inspectors.e X e 0 I L _ ?_
  rw [h.1 5 (by decide)]
theorem c_riders (h : TC I w) (v : Vw w) (hd : 1 ≤ d) : K_X9_riders X d 0 (I, L, ()) = some (some (aI (nI (w 6))), (I, L, ())) := by
  obtain ⟨e, rfl⟩ : ∃ e, d = e + 1 := ⟨d - 1, by omega⟩
  refine K_X9_riders.e X e 0 I L _ ?_
  rw [h.1 6 (by decide)]
theorem c_fare (h : TC I w) (v : Vw w) (hd : 1 ≤ d) : K_X9_fare X d 0 (I, L, ()) = some (some (aI (nI (w 3))), (I, L, ())) := by
  obtain ⟨e, rfl⟩ : ∃ e, d = e + 1 := ⟨d - 1, by omega⟩
  refine K_X9_fare.e X e 0 I L _ ?_
  rw [h.1 3 (by decide)]
theorem c_fineSum (h : TC I w) (v : Vw w) (hd : 1 ≤ d) : K_X9_fineSum X d 0 (I, L, ()) = some (some (aI (nI (w 4))), (I, L, ())) := by
  obtain ⟨e, rfl⟩ : ∃ e, d = e + 1 := ⟨d - 1, by omega⟩
  refine K_X9_fineSum.e X e 0 I L _ ?_
  rw [h.1 4 (by decide)]
theorem c_beginCount (h : TC I w) (v : Vw w) (hd : 1 ≤ d) : K_X9_beginCount X d 0 (I, L, ()) = some (some (aI (nI (2 * w 0))), (I, L, ())) := by
  obtain ⟨e, rfl⟩ : ∃ e, d = e + 1 := ⟨d - 1, by omega⟩
  refine K_X9_beginCount.e X e 0 I L _ ?_
  rw [h.1 0 (by decide), l_2, n_mul]
theorem c_stands (h : TC I w) (v : Vw w) (hd : 1 ≤ d) : K_X9_stands X d 0 (I, L, ()) = some (some (aI (bI (decide (0 < w 7)))), (I, L, ())) := by
  obtain ⟨e, rfl⟩ : ∃ e, d = e + 1 := ⟨d - 1, by omega⟩
  refine K_X9_stands.e X e 0 I L _ ?_
  obtain ⟨⟨-, -, -, -, -, -, -, h7, -⟩, -⟩ := v
  rw [h.1 7 (by decide)]
  simp (disch := omega) only [l_0, l_1, l_2, l_3, l_4, l_5, l_6, l_7, l_8, l_9, l_10, l_12, l_16, l_20, l_24, l_25, l_31, l_32, l_33, l_40, l_48, l_57, l_60, l_63, l_64, l_78, l_85, l_97, l_99, l_100, l_122, l_255, l_325, l_700, l_999, l_1000, l_1200, l_99999, l_100000, l_1000000, l_2000000000, l_N, n_lt]
  by_cases h0 : 0 < w 7 <;> simp [h0, bI]
theorem c_hasCoach (h : TC I w) (v : Vw w) {a : Int32} (hd : 1 ≤ d) : K_X9_hasCoach X d 0 a (I, L, ()) = some (some (aI (bI (inr a (w 0)))), (I, L, ())) := by
  obtain ⟨e, rfl⟩ : ∃ e, d = e + 1 := ⟨d - 1, by omega⟩
  refine K_X9_hasCoach.e X e 0 a I L _ ?_
  rw [h.1 0 (by decide)]
  exact has_val
theorem c_hasMinute (h : TC I w) (v : Vw w) {a : Int32} (hd : 1 ≤ d) : K_X9_hasMinute X d 0 a (I, L, ()) = some (some (aI (bI (inr a (w 1)))), (I, L, ())) := by
  obtain ⟨e, rfl⟩ : ∃ e, d = e + 1 := ⟨d - 1, by omega⟩
  refine K_X9_hasMinute.e X e 0 a I L _ ?_
  rw [h.1 1 (by decide)]
  exact has_val
theorem c_hasInspector (h : TC I w) (v : Vw w) {a : Int32} (hd : 1 ≤ d) : K_X9_hasInspector X d 0 a (I, L, ()) = some (some (aI (bI (inr a (w 5)))), (I, L, ())) := by
  obtain ⟨e, rfl⟩ : ∃ e, d = e + 1 := ⟨d - 1, by omega⟩
  refine K_X9_hasInspector.e X e 0 a I L _ ?_
  rw [h.1 5 (by decide)]
  exact has_val
theorem c_hasRider (h : TC I w) (v : Vw w) {a : Int32} (hd : 1 ≤ d) : K_X9_hasRider X d 0 a (I, L, ()) = some (some (aI (bI (inr a (w 6)))), (I, L, ())) := by
  obtain ⟨e, rfl⟩ : ∃ e, d = e + 1 := ⟨d - 1, by omega⟩
  refine K_X9_hasRider.e X e 0 a I L _ ?_
  rw [h.1 6 (by decide)]
  exact has_val
theorem c_hasBegin (h : TC I w) (v : Vw w) {a : Int32} (hd : 2 ≤ d) : K_X9_hasBegin X d 0 a (I, L, ()) = some (some (aI (bI (inr a (2 * w 0)))), (I, L, ())) := by
  obtain ⟨e, rfl⟩ : ∃ e, d = e + 1 := ⟨d - 1, by omega⟩
  refine K_X9_hasBegin.e X e 0 a I L _ ?_
  simp (disch := omega) only [a_bi_i, c_beginCount h v]
  exact has_val
theorem c_hasDay (h : TC I w) (v : Vw w) {a : Int32} (hd : 2 ≤ d) : K_X9_hasDay X d 0 a (I, L, ()) = some (some (aI (bI (decide (0 < w 7) && inr a 7))), (I, L, ())) := by
  obtain ⟨e, rfl⟩ : ∃ e, d = e + 1 := ⟨d - 1, by omega⟩
  refine K_X9_hasDay.e X e 0 a I L _ ?_
  simp (disch := omega) only [a_bi_i, c_stands h v, l_0, l_1, l_2, l_3, l_4, l_5, l_6, l_7, l_8, l_9, l_10, l_12, l_16, l_20, l_24, l_25, l_31, l_32, l_33, l_40, l_48, l_57, l_60, l_63, l_64, l_78, l_85, l_97, l_99, l_100, l_122, l_255, l_325, l_700, l_999, l_1000, l_1200, l_99999, l_100000, l_1000000, l_2000000000, l_N, b_0]
  by_cases h0 : 0 < w 7
  · simp only [h0, decide_true, Bool.true_eq_false, if_false, Bool.true_and]
    exact has_val
  · simp [h0, bI]
theorem c_ofCoach (h : TC I w) (v : Vw w) {c k : Nat} (hk : c * 3 + k < 24) (hd : 1 ≤ d) : K_X9_ofCoach X d 0 (nI c) (nI k) (I, L, ()) = some (some (aI (nI (w (9 + (c * 3 + k))))), (I, L, ())) := by
  obtain ⟨e, rfl⟩ : ∃ e, d = e + 1 := ⟨d - 1, by omega⟩
  refine K_X9_ofCoach.e X e 0 (nI c) (nI k) I L _ ?_
  simp (disch := omega) only [a_bi_i, a_bv_n, a_bl_l, a_bq_q, l_0, l_1, l_2, l_3, l_4, l_5, l_6, l_7, l_8, l_9, l_10, l_12, l_16, l_20, l_24, l_25, l_31, l_32, l_33, l_40, l_48, l_57, l_60, l_63, l_64, l_78, l_85, l_97, l_99, l_100, l_122, l_255, l_325, l_700, l_999, l_1000, l_1200, l_99999, l_100000, l_1000000, l_2000000000, l_N, n_add, n_mul, n_lt, n_out, n_div, n_dm, n_eq, n_toN, n_inN, n_ltN, n_nltN, n_neN, Nat.not_lt_zero, false_or, or_false, ite_y, ite_n, if_true, if_false, ite_tt, ite_ff, b_0, b_1, eq_self_iff_true, Bool.true_eq_false, Bool.false_eq_true, n_toN]
  rw [h.2.1 _ hk]
theorem c_oc0 (h : TC I w) (v : Vw w) {c : Nat} (hc : c < 8) (hd : 1 ≤ d) : K_X9_ofCoach X d 0 (nI c) (nI 0) (I, L, ()) = some (some (aI (nI (w (9 + 3 * c)))), (I, L, ())) := by
  obtain ⟨e, rfl⟩ : ∃ e, d = e + 1 := ⟨d - 1, by omega⟩
  refine K_X9_ofCoach.e X e 0 (nI c) (nI 0) I L _ ?_
  simp (disch := omega) only [a_bi_i, a_bv_n, a_bl_l, a_bq_q, l_0, l_1, l_2, l_3, l_4, l_5, l_6, l_7, l_8, l_9, l_10, l_12, l_16, l_20, l_24, l_25, l_31, l_32, l_33, l_40, l_48, l_57, l_60, l_63, l_64, l_78, l_85, l_97, l_99, l_100, l_122, l_255, l_325, l_700, l_999, l_1000, l_1200, l_99999, l_100000, l_1000000, l_2000000000, l_N, n_add, n_mul, n_lt, n_out, n_div, n_dm, n_eq, n_toN, n_inN, n_ltN, n_nltN, n_neN, Nat.not_lt_zero, false_or, or_false, ite_y, ite_n, if_true, if_false, ite_tt, ite_ff, b_0, b_1, eq_self_iff_true, Bool.true_eq_false, Bool.false_eq_true, n_toN]
  rw [h.2.1 _ (by omega), show 9 + (c * 3 + 0) = 9 + 3 * c by omega]
theorem c_oc1 (h : TC I w) (v : Vw w) {c : Nat} (hc : c < 8) (hd : 1 ≤ d) : K_X9_ofCoach X d 0 (nI c) (nI 1) (I, L, ()) = some (some (aI (nI (w (10 + 3 * c)))), (I, L, ())) := by
  obtain ⟨e, rfl⟩ : ∃ e, d = e + 1 := ⟨d - 1, by omega⟩
  refine K_X9_ofCoach.e X e 0 (nI c) (nI 1) I L _ ?_
  simp (disch := omega) only [a_bi_i, a_bv_n, a_bl_l, a_bq_q, l_0, l_1, l_2, l_3, l_4, l_5, l_6, l_7, l_8, l_9, l_10, l_12, l_16, l_20, l_24, l_25, l_31, l_32, l_33, l_40, l_48, l_57, l_60, l_63, l_64, l_78, l_85, l_97, l_99, l_100, l_122, l_255, l_325, l_700, l_999, l_1000, l_1200, l_99999, l_100000, l_1000000, l_2000000000, l_N, n_add, n_mul, n_lt, n_out, n_div, n_dm, n_eq, n_toN, n_inN, n_ltN, n_nltN, n_neN, Nat.not_lt_zero, false_or, or_false, ite_y, ite_n, if_true, if_false, ite_tt, ite_ff, b_0, b_1, eq_self_iff_true, Bool.true_eq_false, Bool.false_eq_true, n_toN]
  rw [h.2.1 _ (by omega), show 9 + (c * 3 + 1) = 10 + 3 * c by omega]
theorem c_oc2 (h : TC I w) (v : Vw w) {c : Nat} (hc : c < 8) (hd : 1 ≤ d) : K_X9_ofCoach X d 0 (nI c) (nI 2) (I, L, ()) = some (some (aI (nI (w (11 + 3 * c)))), (I, L, ())) := by
  obtain ⟨e, rfl⟩ : ∃ e, d = e + 1 := ⟨d - 1, by omega⟩
  refine K_X9_ofCoach.e X e 0 (nI c) (nI 2) I L _ ?_
  simp (disch := omega) only [a_bi_i, a_bv_n, a_bl_l, a_bq_q, l_0, l_1, l_2, l_3, l_4, l_5, l_6, l_7, l_8, l_9, l_10, l_12, l_16, l_20, l_24, l_25, l_31, l_32, l_33, l_40, l_48, l_57, l_60, l_63, l_64, l_78, l_85, l_97, l_99, l_100, l_122, l_255, l_325, l_700, l_999, l_1000, l_1200, l_99999, l_100000, l_1000000, l_2000000000, l_N, n_add, n_mul, n_lt, n_out, n_div, n_dm, n_eq, n_toN, n_inN, n_ltN, n_nltN, n_neN, Nat.not_lt_zero, false_or, or_false, ite_y, ite_n, if_true, if_false, ite_tt, ite_ff, b_0, b_1, eq_self_iff_true, Bool.true_eq_false, Bool.false_eq_true, n_toN]
  rw [h.2.1 _ (by omega), show 9 + (c * 3 + 2) = 11 + 3 * c by omega]
theorem c_ofInspector (h : TC I w) (v : Vw w) {c k : Nat} (hk : c * 5 + k < 15) (hd : 1 ≤ d) : K_X9_ofInspector X d 0 (nI c) (nI k) (I, L, ()) = some (some (aI (nI (w (33 + (c * 5 + k))))), (I, L, ())) := by
  obtain ⟨e, rfl⟩ : ∃ e, d = e + 1 := ⟨d - 1, by omega⟩
  refine K_X9_ofInspector.e X e 0 (nI c) (nI k) I L _ ?_
  simp (disch := omega) only [a_bi_i, a_bv_n, a_bl_l, a_bq_q, l_0, l_1, l_2, l_3, l_4, l_5, l_6, l_7, l_8, l_9, l_10, l_12, l_16, l_20, l_24, l_25, l_31, l_32, l_33, l_40, l_48, l_57, l_60, l_63, l_64, l_78, l_85, l_97, l_99, l_100, l_122, l_255, l_325, l_700, l_999, l_1000, l_1200, l_99999, l_100000, l_1000000, l_2000000000, l_N, n_add, n_mul, n_lt, n_out, n_div, n_dm, n_eq, n_toN, n_inN, n_ltN, n_nltN, n_neN, Nat.not_lt_zero, false_or, or_false, ite_y, ite_n, if_true, if_false, ite_tt, ite_ff, b_0, b_1, eq_self_iff_true, Bool.true_eq_false, Bool.false_eq_true, n_toN]
  rw [h.2.2.1 _ hk]
theorem c_oi0 (h : TC I w) (v : Vw w) {c : Nat} (hc : c < 3) (hd : 1 ≤ d) : K_X9_ofInspector X d 0 (nI c) (nI 0) (I, L, ()) = some (some (aI (nI (w (33 + 5 * c)))), (I, L, ())) := by
  obtain ⟨e, rfl⟩ : ∃ e, d = e + 1 := ⟨d - 1, by omega⟩
  refine K_X9_ofInspector.e X e 0 (nI c) (nI 0) I L _ ?_
  simp (disch := omega) only [a_bi_i, a_bv_n, a_bl_l, a_bq_q, l_0, l_1, l_2, l_3, l_4, l_5, l_6, l_7, l_8, l_9, l_10, l_12, l_16, l_20, l_24, l_25, l_31, l_32, l_33, l_40, l_48, l_57, l_60, l_63, l_64, l_78, l_85, l_97, l_99, l_100, l_122, l_255, l_325, l_700, l_999, l_1000, l_1200, l_99999, l_100000, l_1000000, l_2000000000, l_N, n_add, n_mul, n_lt, n_out, n_div, n_dm, n_eq, n_toN, n_inN, n_ltN, n_nltN, n_neN, Nat.not_lt_zero, false_or, or_false, ite_y, ite_n, if_true, if_false, ite_tt, ite_ff, b_0, b_1, eq_self_iff_true, Bool.true_eq_false, Bool.false_eq_true, n_toN]
  rw [h.2.2.1 _ (by omega), show 33 + (c * 5 + 0) = 33 + 5 * c by omega]
theorem c_oi1 (h : TC I w) (v : Vw w) {c : Nat} (hc : c < 3) (hd : 1 ≤ d) : K_X9_ofInspector X d 0 (nI c) (nI 1) (I, L, ()) = some (some (aI (nI (w (34 + 5 * c)))), (I, L, ())) := by
  obtain ⟨e, rfl⟩ : ∃ e, d = e + 1 := ⟨d - 1, by omega⟩
  refine K_X9_ofInspector.e X e 0 (nI c) (nI 1) I L _ ?_
  simp (disch := omega) only [a_bi_i, a_bv_n, a_bl_l, a_bq_q, l_0, l_1, l_2, l_3, l_4, l_5, l_6, l_7, l_8, l_9, l_10, l_12, l_16, l_20, l_24, l_25, l_31, l_32, l_33, l_40, l_48, l_57, l_60, l_63, l_64, l_78, l_85, l_97, l_99, l_100, l_122, l_255, l_325, l_700, l_999, l_1000, l_1200, l_99999, l_100000, l_1000000, l_2000000000, l_N, n_add, n_mul, n_lt, n_out, n_div, n_dm, n_eq, n_toN, n_inN, n_ltN, n_nltN, n_neN, Nat.not_lt_zero, false_or, or_false, ite_y, ite_n, if_true, if_false, ite_tt, ite_ff, b_0, b_1, eq_self_iff_true, Bool.true_eq_false, Bool.false_eq_true, n_toN]
  rw [h.2.2.1 _ (by omega), show 33 + (c * 5 + 1) = 34 + 5 * c by omega]
theorem c_oi2 (h : TC I w) (v : Vw w) {c : Nat} (hc : c < 3) (hd : 1 ≤ d) : K_X9_ofInspector X d 0 (nI c) (nI 2) (I, L, ()) = some (some (aI (nI (w (35 + 5 * c)))), (I, L, ())) := by
  obtain ⟨e, rfl⟩ : ∃ e, d = e + 1 := ⟨d - 1, by omega⟩
  refine K_X9_ofInspector.e X e 0 (nI c) (nI 2) I L _ ?_
  simp (disch := omega) only [a_bi_i, a_bv_n, a_bl_l, a_bq_q, l_0, l_1, l_2, l_3, l_4, l_5, l_6, l_7, l_8, l_9, l_10, l_12, l_16, l_20, l_24, l_25, l_31, l_32, l_33, l_40, l_48, l_57, l_60, l_63, l_64, l_78, l_85, l_97, l_99, l_100, l_122, l_255, l_325, l_700, l_999, l_1000, l_1200, l_99999, l_100000, l_1000000, l_2000000000, l_N, n_add, n_mul, n_lt, n_out, n_div, n_dm, n_eq, n_toN, n_inN, n_ltN, n_nltN, n_neN, Nat.not_lt_zero, false_or, or_false, ite_y, ite_n, if_true, if_false, ite_tt, ite_ff, b_0, b_1, eq_self_iff_true, Bool.true_eq_false, Bool.false_eq_true, n_toN]
  rw [h.2.2.1 _ (by omega), show 33 + (c * 5 + 2) = 35 + 5 * c by omega]
theorem c_oi3 (h : TC I w) (v : Vw w) {c : Nat} (hc : c < 3) (hd : 1 ≤ d) : K_X9_ofInspector X d 0 (nI c) (nI 3) (I, L, ()) = some (some (aI (nI (w (36 + 5 * c)))), (I, L, ())) := by
  obtain ⟨e, rfl⟩ : ∃ e, d = e + 1 := ⟨d - 1, by omega⟩
  refine K_X9_ofInspector.e X e 0 (nI c) (nI 3) I L _ ?_
  simp (disch := omega) only [a_bi_i, a_bv_n, a_bl_l, a_bq_q, l_0, l_1, l_2, l_3, l_4, l_5, l_6, l_7, l_8, l_9, l_10, l_12, l_16, l_20, l_24, l_25, l_31, l_32, l_33, l_40, l_48, l_57, l_60, l_63, l_64, l_78, l_85, l_97, l_99, l_100, l_122, l_255, l_325, l_700, l_999, l_1000, l_1200, l_99999, l_100000, l_1000000, l_2000000000, l_N, n_add, n_mul, n_lt, n_out, n_div, n_dm, n_eq, n_toN, n_inN, n_ltN, n_nltN, n_neN, Nat.not_lt_zero, false_or, or_false, ite_y, ite_n, if_true, if_false, ite_tt, ite_ff, b_0, b_1, eq_self_iff_true, Bool.true_eq_false, Bool.false_eq_true, n_toN]
  rw [h.2.2.1 _ (by omega), show 33 + (c * 5 + 3) = 36 + 5 * c by omega]
theorem c_oi4 (h : TC I w) (v : Vw w) {c : Nat} (hc : c < 3) (hd : 1 ≤ d) : K_X9_ofInspector X d 0 (nI c) (nI 4) (I, L, ()) = some (some (aI (nI (w (37 + 5 * c)))), (I, L, ())) := by
  obtain ⟨e, rfl⟩ : ∃ e, d = e + 1 := ⟨d - 1, by omega⟩
  refine K_X9_ofInspector.e X e 0 (nI c) (nI 4) I L _ ?_
  simp (disch := omega) only [a_bi_i, a_bv_n, a_bl_l, a_bq_q, l_0, l_1, l_2, l_3, l_4, l_5, l_6, l_7, l_8, l_9, l_10, l_12, l_16, l_20, l_24, l_25, l_31, l_32, l_33, l_40, l_48, l_57, l_60, l_63, l_64, l_78, l_85, l_97, l_99, l_100, l_122, l_255, l_325, l_700, l_999, l_1000, l_1200, l_99999, l_100000, l_1000000, l_2000000000, l_N, n_add, n_mul, n_lt, n_out, n_div, n_dm, n_eq, n_toN, n_inN, n_ltN, n_nltN, n_neN, Nat.not_lt_zero, false_or, or_false, ite_y, ite_n, if_true, if_false, ite_tt, ite_ff, b_0, b_1, eq_self_iff_true, Bool.true_eq_false, Bool.false_eq_true, n_toN]
  rw [h.2.2.1 _ (by omega), show 33 + (c * 5 + 4) = 37 + 5 * c by omega]
theorem c_ofRider (h : TC I w) (v : Vw w) {c k : Nat} (hk : c * 5 + k < 30) (hd : 1 ≤ d) : K_X9_ofRider X d 0 (nI c) (nI k) (I, L, ()) = some (some (aI (nI (w (48 + (c * 5 + k))))), (I, L, ())) := by
  obtain ⟨e, rfl⟩ : ∃ e, d = e + 1 := ⟨d - 1, by omega⟩
  refine K_X9_ofRider.e X e 0 (nI c) (nI k) I L _ ?_
  simp (disch := omega) only [a_bi_i, a_bv_n, a_bl_l, a_bq_q, l_0, l_1, l_2, l_3, l_4, l_5, l_6, l_7, l_8, l_9, l_10, l_12, l_16, l_20, l_24, l_25, l_31, l_32, l_33, l_40, l_48, l_57, l_60, l_63, l_64, l_78, l_85, l_97, l_99, l_100, l_122, l_255, l_325, l_700, l_999, l_1000, l_1200, l_99999, l_100000, l_1000000, l_2000000000, l_N, n_add, n_mul, n_lt, n_out, n_div, n_dm, n_eq, n_toN, n_inN, n_ltN, n_nltN, n_neN, Nat.not_lt_zero, false_or, or_false, ite_y, ite_n, if_true, if_false, ite_tt, ite_ff, b_0, b_1, eq_self_iff_true, Bool.true_eq_false, Bool.false_eq_true, n_toN]
  rw [h.2.2.2.1 _ hk]
theorem c_or0 (h : TC I w) (v : Vw w) {c : Nat} (hc : c < 6) (hd : 1 ≤ d) : K_X9_ofRider X d 0 (nI c) (nI 0) (I, L, ()) = some (some (aI (nI (w (48 + 5 * c)))), (I, L, ())) := by
  obtain ⟨e, rfl⟩ : ∃ e, d = e + 1 := ⟨d - 1, by omega⟩
  refine K_X9_ofRider.e X e 0 (nI c) (nI 0) I L _ ?_
  simp (disch := omega) only [a_bi_i, a_bv_n, a_bl_l, a_bq_q, l_0, l_1, l_2, l_3, l_4, l_5, l_6, l_7, l_8, l_9, l_10, l_12, l_16, l_20, l_24, l_25, l_31, l_32, l_33, l_40, l_48, l_57, l_60, l_63, l_64, l_78, l_85, l_97, l_99, l_100, l_122, l_255, l_325, l_700, l_999, l_1000, l_1200, l_99999, l_100000, l_1000000, l_2000000000, l_N, n_add, n_mul, n_lt, n_out, n_div, n_dm, n_eq, n_toN, n_inN, n_ltN, n_nltN, n_neN, Nat.not_lt_zero, false_or, or_false, ite_y, ite_n, if_true, if_false, ite_tt, ite_ff, b_0, b_1, eq_self_iff_true, Bool.true_eq_false, Bool.false_eq_true, n_toN]
  rw [h.2.2.2.1 _ (by omega), show 48 + (c * 5 + 0) = 48 + 5 * c by omega]
theorem c_or1 (h : TC I w) (v : Vw w) {c : Nat} (hc : c < 6) (hd : 1 ≤ d) : K_X9_ofRider X d 0 (nI c) (nI 1) (I, L, ()) = some (some (aI (nI (w (49 + 5 * c)))), (I, L, ())) := by
  obtain ⟨e, rfl⟩ : ∃ e, d = e + 1 := ⟨d - 1, by omega⟩
  refine K_X9_ofRider.e X e 0 (nI c) (nI 1) I L _ ?_
  simp (disch := omega) only [a_bi_i, a_bv_n, a_bl_l, a_bq_q, l_0, l_1, l_2, l_3, l_4, l_5, l_6, l_7, l_8, l_9, l_10, l_12, l_16, l_20, l_24, l_25, l_31, l_32, l_33, l_40, l_48, l_57, l_60, l_63, l_64, l_78, l_85, l_97, l_99, l_100, l_122, l_255, l_325, l_700, l_999, l_1000, l_1200, l_99999, l_100000, l_1000000, l_2000000000, l_N, n_add, n_mul, n_lt, n_out, n_div, n_dm, n_eq, n_toN, n_inN, n_ltN, n_nltN, n_neN, Nat.not_lt_zero, false_or, or_false, ite_y, ite_n, if_true, if_false, ite_tt, ite_ff, b_0, b_1, eq_self_iff_true, Bool.true_eq_false, Bool.false_eq_true, n_toN]
  rw [h.2.2.2.1 _ (by omega), show 48 + (c * 5 + 1) = 49 + 5 * c by omega]
theorem c_or2 (h : TC I w) (v : Vw w) {c : Nat} (hc : c < 6) (hd : 1 ≤ d) : K_X9_ofRider X d 0 (nI c) (nI 2) (I, L, ()) = some (some (aI (nI (w (50 + 5 * c)))), (I, L, ())) := by
  obtain ⟨e, rfl⟩ : ∃ e, d = e + 1 := ⟨d - 1, by omega⟩
  refine K_X9_ofRider.e X e 0 (nI c) (nI 2) I L _ ?_
  simp (disch := omega) only [a_bi_i, a_bv_n, a_bl_l, a_bq_q, l_0, l_1, l_2, l_3, l_4, l_5, l_6, l_7, l_8, l_9, l_10, l_12, l_16, l_20, l_24, l_25, l_31, l_32, l_33, l_40, l_48, l_57, l_60, l_63, l_64, l_78, l_85, l_97, l_99, l_100, l_122, l_255, l_325, l_700, l_999, l_1000, l_1200, l_99999, l_100000, l_1000000, l_2000000000, l_N, n_add, n_mul, n_lt, n_out, n_div, n_dm, n_eq, n_toN, n_inN, n_ltN, n_nltN, n_neN, Nat.not_lt_zero, false_or, or_false, ite_y, ite_n, if_true, if_false, ite_tt, ite_ff, b_0, b_1, eq_self_iff_true, Bool.true_eq_false, Bool.false_eq_true, n_toN]
  rw [h.2.2.2.1 _ (by omega), show 48 + (c * 5 + 2) = 50 + 5 * c by omega]
theorem c_or3 (h : TC I w) (v : Vw w) {c : Nat} (hc : c < 6) (hd : 1 ≤ d) : K_X9_ofRider X d 0 (nI c) (nI 3) (I, L, ()) = some (some (aI (nI (w (51 + 5 * c)))), (I, L, ())) := by
  obtain ⟨e, rfl⟩ : ∃ e, d = e + 1 := ⟨d - 1, by omega⟩
  refine K_X9_ofRider.e X e 0 (nI c) (nI 3) I L _ ?_
  simp (disch := omega) only [a_bi_i, a_bv_n, a_bl_l, a_bq_q, l_0, l_1, l_2, l_3, l_4, l_5, l_6, l_7, l_8, l_9, l_10, l_12, l_16, l_20, l_24, l_25, l_31, l_32, l_33, l_40, l_48, l_57, l_60, l_63, l_64, l_78, l_85, l_97, l_99, l_100, l_122, l_255, l_325, l_700, l_999, l_1000, l_1200, l_99999, l_100000, l_1000000, l_2000000000, l_N, n_add, n_mul, n_lt, n_out, n_div, n_dm, n_eq, n_toN, n_inN, n_ltN, n_nltN, n_neN, Nat.not_lt_zero, false_or, or_false, ite_y, ite_n, if_true, if_false, ite_tt, ite_ff, b_0, b_1, eq_self_iff_true, Bool.true_eq_false, Bool.false_eq_true, n_toN]
  rw [h.2.2.2.1 _ (by omega), show 48 + (c * 5 + 3) = 51 + 5 * c by omega]
theorem c_or4 (h : TC I w) (v : Vw w) {c : Nat} (hc : c < 6) (hd : 1 ≤ d) : K_X9_ofRider X d 0 (nI c) (nI 4) (I, L, ()) = some (some (aI (nI (w (52 + 5 * c)))), (I, L, ())) := by
  obtain ⟨e, rfl⟩ : ∃ e, d = e + 1 := ⟨d - 1, by omega⟩
  refine K_X9_ofRider.e X e 0 (nI c) (nI 4) I L _ ?_
  simp (disch := omega) only [a_bi_i, a_bv_n, a_bl_l, a_bq_q, l_0, l_1, l_2, l_3, l_4, l_5, l_6, l_7, l_8, l_9, l_10, l_12, l_16, l_20, l_24, l_25, l_31, l_32, l_33, l_40, l_48, l_57, l_60, l_63, l_64, l_78, l_85, l_97, l_99, l_100, l_122, l_255, l_325, l_700, l_999, l_1000, l_1200, l_99999, l_100000, l_1000000, l_2000000000, l_N, n_add, n_mul, n_lt, n_out, n_div, n_dm, n_eq, n_toN, n_inN, n_ltN, n_nltN, n_neN, Nat.not_lt_zero, false_or, or_false, ite_y, ite_n, if_true, if_false, ite_tt, ite_ff, b_0, b_1, eq_self_iff_true, Bool.true_eq_false, Bool.false_eq_true, n_toN]
  rw [h.2.2.2.1 _ (by omega), show 48 + (c * 5 + 4) = 52 + 5 * c by omega]
theorem c_hasTicket (h : TC I w) (v : Vw w) {r : Nat} (hr : r < w 6) (hd : 2 ≤ d) : K_X9_hasTicket X d 0 (nI r) (I, L, ()) = some (some (aI (bI (decide (w (52 + 5 * r) = 1)))), (I, L, ())) := by
  obtain ⟨e, rfl⟩ : ∃ e, d = e + 1 := ⟨d - 1, by omega⟩
  refine K_X9_hasTicket.e X e 0 (nI r) I L _ ?_
  have v0 := v
  obtain ⟨⟨-, -, -, -, -, -, h6, -⟩, -, -, -, vr, -⟩ := v
  have h1 := vr r hr
  simp (disch := omega) only [a_bi_i, l_0, l_1, l_2, l_3, l_4, l_5, l_6, l_7, l_8, l_9, l_10, l_12, l_16, l_20, l_24, l_25, l_31, l_32, l_33, l_40, l_48, l_57, l_60, l_63, l_64, l_78, l_85, l_97, l_99, l_100, l_122, l_255, l_325, l_700, l_999, l_1000, l_1200, l_99999, l_100000, l_1000000, l_2000000000, l_N, c_or4 h v0, n_eq]
  by_cases h0 : w (52 + 5 * r) = 1 <;> simp [h0, bI]
theorem c_isStop (h : TC I w) (v : Vw w) {m : Nat} (hm : m < w 1) (hd : 1 ≤ d) : K_X9_isStop X d 0 (nI m) (I, L, ()) = some (some (aI (bI (decide (0 < m ∧ m % w 2 = 0)))), (I, L, ())) := by
  obtain ⟨e, rfl⟩ : ∃ e, d = e + 1 := ⟨d - 1, by omega⟩
  refine K_X9_isStop.e X e 0 (nI m) I L _ ?_
  obtain ⟨h7, h0, h1, h2⟩ := v.live (Or.inr (Or.inl (by omega)))
  obtain ⟨⟨-, b1, b2, -⟩, -⟩ := v
  have hmod := Nat.mod_lt m h2
  rw [h.1 2 (by decide)]
  simp (disch := omega) only [l_0, l_1, l_2, l_3, l_4, l_5, l_6, l_7, l_8, l_9, l_10, l_12, l_16, l_20, l_24, l_25, l_31, l_32, l_33, l_40, l_48, l_57, l_60, l_63, l_64, l_78, l_85, l_97, l_99, l_100, l_122, l_255, l_325, l_700, l_999, l_1000, l_1200, l_99999, l_100000, l_1000000, l_2000000000, l_N, n_lt, n_div, n_mul, n_dm, n_eq, ite_n]
  by_cases h3 : 0 < m <;> by_cases h4 : m % w 2 = 0 <;> by_cases h5 : 0 < w 2 <;> simp_all [bI]
theorem c_stayIn (h : TC I w) (v : Vw w) {c p : Nat} (hc : c < 8) (hp : 1 ≤ p) (hp2 : p ≤ 20) (hd : 2 ≤ d) : K_X9_stayIn X d 0 (nI c) (nI p) (I, L, ()) = some (some (aI (nI (1 + w (9 + 3 * c) / p))), (I, L, ())) := by
  obtain ⟨e, rfl⟩ : ∃ e, d = e + 1 := ⟨d - 1, by omega⟩
  refine K_X9_stayIn.e X e 0 (nI c) (nI p) I L _ ?_
  obtain ⟨-, -, vc, -⟩ := id v
  have h1 := vc c hc
  simp (disch := omega) only [a_bi_i, a_bv_n, a_bl_l, a_bq_q, l_0, l_1, l_2, l_3, l_4, l_5, l_6, l_7, l_8, l_9, l_10, l_12, l_16, l_20, l_24, l_25, l_31, l_32, l_33, l_40, l_48, l_57, l_60, l_63, l_64, l_78, l_85, l_97, l_99, l_100, l_122, l_255, l_325, l_700, l_999, l_1000, l_1200, l_99999, l_100000, l_1000000, l_2000000000, l_N, n_add, n_mul, n_lt, n_out, n_div, n_dm, n_eq, n_toN, n_inN, n_ltN, n_nltN, n_neN, Nat.not_lt_zero, false_or, or_false, ite_y, ite_n, if_true, if_false, ite_tt, ite_ff, b_0, b_1, eq_self_iff_true, Bool.true_eq_false, Bool.false_eq_true, c_oc0 h v, n_div]
theorem c_beginOf (h : TC I w) (v : Vw w) {i : Nat} (hi : i < 3) (hd : 2 ≤ d) : K_X9_beginOf X d 0 (nI i) (I, L, ()) = some (some (aI (nI (2 * w (33 + 5 * i) + w (34 + 5 * i)))), (I, L, ())) := by
  obtain ⟨e, rfl⟩ : ∃ e, d = e + 1 := ⟨d - 1, by omega⟩
  refine K_X9_beginOf.e X e 0 (nI i) I L _ ?_
  simp (disch := omega) only [a_bi_i, a_bv_n, a_bl_l, a_bq_q, l_0, l_1, l_2, l_3, l_4, l_5, l_6, l_7, l_8, l_9, l_10, l_12, l_16, l_20, l_24, l_25, l_31, l_32, l_33, l_40, l_48, l_57, l_60, l_63, l_64, l_78, l_85, l_97, l_99, l_100, l_122, l_255, l_325, l_700, l_999, l_1000, l_1200, l_99999, l_100000, l_1000000, l_2000000000, l_N, n_add, n_mul, n_lt, n_out, n_div, n_dm, n_eq, n_toN, n_inN, n_ltN, n_nltN, n_neN, Nat.not_lt_zero, false_or, or_false, ite_y, ite_n, if_true, if_false, ite_tt, ite_ff, b_0, b_1, eq_self_iff_true, Bool.true_eq_false, Bool.false_eq_true, c_oi0 h v, c_oi1 h v]
theorem m_in {a b c : Int64} (hd : 1 ≤ d) : K_X11_in X d a b c (I, L, ()) = some (some (aI (bI (inL a b.toInt c.toInt))), (I, L, ())) := by
  obtain ⟨e, rfl⟩ : ∃ e, d = e + 1 := ⟨d - 1, by omega⟩
  refine K_X11_in.e X e a b c I L _ ?_
  exact in_val
theorem m_minutes (h : TM I w) (v : Vw w) (hd : 1 ≤ d) : K_X11_minutes X d (I, L, ()) = some (some (aI (nI (w 1))), (I, L, ())) := by
  obtain ⟨e, rfl⟩ : ∃ e, d = e + 1 := ⟨d - 1, by omega⟩
  refine K_X11_minutes.e X e I L _ ?_
  rw [h 1 (by decide)]
theorem m_isTrain (h : TM I w) (v : Vw w) (hd : 1 ≤ d) : K_X11_isTrain X d (I, L, ()) = some (some (aI (bI (decide (0 < w 7)))), (I, L, ())) := by
  obtain ⟨e, rfl⟩ : ∃ e, d = e + 1 := ⟨d - 1, by omega⟩
  refine K_X11_isTrain.e X e I L _ ?_
  obtain ⟨⟨-, -, -, -, -, -, -, h7, -⟩, -⟩ := v
  rw [h 7 (by decide)]
  simp (disch := omega) only [l_0, l_1, l_2, l_3, l_4, l_5, l_6, l_7, l_8, l_9, l_10, l_12, l_16, l_20, l_24, l_25, l_31, l_32, l_33, l_40, l_48, l_57, l_60, l_63, l_64, l_78, l_85, l_97, l_99, l_100, l_122, l_255, l_325, l_700, l_999, l_1000, l_1200, l_99999, l_100000, l_1000000, l_2000000000, l_N, n_lt]
  by_cases h0 : 0 < w 7 <;> simp [h0, bI]
theorem m_isCoach (h : TM I w) (v : Vw w) {a : Int32} (hd : 2 ≤ d) : K_X11_isCoach X d a.toInt64 (I, L, ()) = some (some (aI (bI (inr a (w 0)))), (I, L, ())) := by
  obtain ⟨e, rfl⟩ : ∃ e, d = e + 1 := ⟨d - 1, by omega⟩
  refine K_X11_isCoach.e X e a.toInt64 I L _ ?_
  obtain ⟨⟨h0, h1, h2, h3, h4, h5, h6, -⟩, -⟩ := v
  rw [h 0 (by decide)]
  simp (disch := omega) only [l_0, l_1, l_2, l_3, l_4, l_5, l_6, l_7, l_8, l_9, l_10, l_12, l_16, l_20, l_24, l_25, l_31, l_32, l_33, l_40, l_48, l_57, l_60, l_63, l_64, l_78, l_85, l_97, l_99, l_100, l_122, l_255, l_325, l_700, l_999, l_1000, l_1200, l_99999, l_100000, l_1000000, l_2000000000, l_N, m_in, a_bi_i, inL_n]
  exact bool_val
theorem m_isCoachL (h : TM I w) (v : Vw w) {a : Int64} (hd : 2 ≤ d) : K_X11_isCoach X d a (I, L, ()) = some (some (aI (bI (inL a 0 ((w 0 : Int) - 1)))), (I, L, ())) := by
  obtain ⟨e, rfl⟩ : ∃ e, d = e + 1 := ⟨d - 1, by omega⟩
  refine K_X11_isCoach.e X e a I L _ ?_
  obtain ⟨⟨h0, h1, h2, h3, h4, h5, h6, -⟩, -⟩ := v
  rw [h 0 (by decide)]
  simp (disch := omega) only [l_0, l_1, l_2, l_3, l_4, l_5, l_6, l_7, l_8, l_9, l_10, l_12, l_16, l_20, l_24, l_25, l_31, l_32, l_33, l_40, l_48, l_57, l_60, l_63, l_64, l_78, l_85, l_97, l_99, l_100, l_122, l_255, l_325, l_700, l_999, l_1000, l_1200, l_99999, l_100000, l_1000000, l_2000000000, l_N, m_in, a_bi_i, Int32.toInt_toInt64, n_pred]
  exact bool_val
theorem m_isMinute (h : TM I w) (v : Vw w) {a : Int32} (hd : 2 ≤ d) : K_X11_isMinute X d a.toInt64 (I, L, ()) = some (some (aI (bI (inr a (w 1)))), (I, L, ())) := by
  obtain ⟨e, rfl⟩ : ∃ e, d = e + 1 := ⟨d - 1, by omega⟩
  refine K_X11_isMinute.e X e a.toInt64 I L _ ?_
  obtain ⟨⟨h0, h1, h2, h3, h4, h5, h6, -⟩, -⟩ := v
  rw [h 1 (by decide)]
  simp (disch := omega) only [l_0, l_1, l_2, l_3, l_4, l_5, l_6, l_7, l_8, l_9, l_10, l_12, l_16, l_20, l_24, l_25, l_31, l_32, l_33, l_40, l_48, l_57, l_60, l_63, l_64, l_78, l_85, l_97, l_99, l_100, l_122, l_255, l_325, l_700, l_999, l_1000, l_1200, l_99999, l_100000, l_1000000, l_2000000000, l_N, m_in, a_bi_i, inL_n]
  exact bool_val
theorem m_isMinuteL (h : TM I w) (v : Vw w) {a : Int64} (hd : 2 ≤ d) : K_X11_isMinute X d a (I, L, ()) = some (some (aI (bI (inL a 0 ((w 1 : Int) - 1)))), (I, L, ())) := by
  obtain ⟨e, rfl⟩ : ∃ e, d = e + 1 := ⟨d - 1, by omega⟩
  refine K_X11_isMinute.e X e a I L _ ?_
  obtain ⟨⟨h0, h1, h2, h3, h4, h5, h6, -⟩, -⟩ := v
  rw [h 1 (by decide)]
  simp (disch := omega) only [l_0, l_1, l_2, l_3, l_4, l_5, l_6, l_7, l_8, l_9, l_10, l_12, l_16, l_20, l_24, l_25, l_31, l_32, l_33, l_40, l_48, l_57, l_60, l_63, l_64, l_78, l_85, l_97, l_99, l_100, l_122, l_255, l_325, l_700, l_999, l_1000, l_1200, l_99999, l_100000, l_1000000, l_2000000000, l_N, m_in, a_bi_i, Int32.toInt_toInt64, n_pred]
  exact bool_val
theorem m_isInspector (h : TM I w) (v : Vw w) {a : Int32} (hd : 2 ≤ d) : K_X11_isInspector X d a (I, L, ()) = some (some (aI (bI (inr a (w 5)))), (I, L, ())) := by
  obtain ⟨e, rfl⟩ : ∃ e, d = e + 1 := ⟨d - 1, by omega⟩
  refine K_X11_isInspector.e X e a I L _ ?_
  obtain ⟨⟨h0, h1, h2, h3, h4, h5, h6, -⟩, -⟩ := v
  rw [h 5 (by decide)]
  simp (disch := omega) only [l_0, l_1, l_2, l_3, l_4, l_5, l_6, l_7, l_8, l_9, l_10, l_12, l_16, l_20, l_24, l_25, l_31, l_32, l_33, l_40, l_48, l_57, l_60, l_63, l_64, l_78, l_85, l_97, l_99, l_100, l_122, l_255, l_325, l_700, l_999, l_1000, l_1200, l_99999, l_100000, l_1000000, l_2000000000, l_N, m_in, a_bi_i, inL_n]
  exact bool_val
theorem m_isRider (h : TM I w) (v : Vw w) {a : Int32} (hd : 2 ≤ d) : K_X11_isRider X d a (I, L, ()) = some (some (aI (bI (inr a (w 6)))), (I, L, ())) := by
  obtain ⟨e, rfl⟩ : ∃ e, d = e + 1 := ⟨d - 1, by omega⟩
  refine K_X11_isRider.e X e a I L _ ?_
  obtain ⟨⟨h0, h1, h2, h3, h4, h5, h6, -⟩, -⟩ := v
  rw [h 6 (by decide)]
  simp (disch := omega) only [l_0, l_1, l_2, l_3, l_4, l_5, l_6, l_7, l_8, l_9, l_10, l_12, l_16, l_20, l_24, l_25, l_31, l_32, l_33, l_40, l_48, l_57, l_60, l_63, l_64, l_78, l_85, l_97, l_99, l_100, l_122, l_255, l_325, l_700, l_999, l_1000, l_1200, l_99999, l_100000, l_1000000, l_2000000000, l_N, m_in, a_bi_i, inL_n]
  exact bool_val
theorem m_isBegin (h : TM I w) (v : Vw w) {a : Int32} (hd : 2 ≤ d) : K_X11_isBegin X d a (I, L, ()) = some (some (aI (bI (inr a (2 * w 0)))), (I, L, ())) := by
  obtain ⟨e, rfl⟩ : ∃ e, d = e + 1 := ⟨d - 1, by omega⟩
  refine K_X11_isBegin.e X e a I L _ ?_
  obtain ⟨⟨h0, h1, h2, h3, h4, h5, h6, -⟩, -⟩ := v
  rw [h 0 (by decide)]
  simp (disch := omega) only [l_0, l_1, l_2, l_3, l_4, l_5, l_6, l_7, l_8, l_9, l_10, l_12, l_16, l_20, l_24, l_25, l_31, l_32, l_33, l_40, l_48, l_57, l_60, l_63, l_64, l_78, l_85, l_97, l_99, l_100, l_122, l_255, l_325, l_700, l_999, l_1000, l_1200, l_99999, l_100000, l_1000000, l_2000000000, l_N, n_mul, m_in, a_bi_i, inL_n]
  exact bool_val
theorem inL_k {a : Int32} {n : Nat} (hn : n < 2147483648) {z : Int64} (hz : z.toInt = (n : Int) - 1) : inL a.toInt64 (0 : Int64).toInt z.toInt = inr a n := by
  rw [inr_toInt hn]
  unfold inL
  rw [Int32.toInt_toInt64, hz]
  rfl
theorem m_isDay (h : TM I w) (v : Vw w) {a : Int32} (hd : 2 ≤ d) : K_X11_isDay X d a (I, L, ()) = some (some (aI (bI (decide (0 < w 7) && inr a 7))), (I, L, ())) := by
  obtain ⟨e, rfl⟩ : ∃ e, d = e + 1 := ⟨d - 1, by omega⟩
  refine K_X11_isDay.e X e a I L _ ?_
  simp (disch := omega) only [a_bi_i, m_isTrain h v, m_in, l_0, l_1, l_2, l_3, l_4, l_5, l_6, l_7, l_8, l_9, l_10, l_12, l_16, l_20, l_24, l_25, l_31, l_32, l_33, l_40, l_48, l_57, l_60, l_63, l_64, l_78, l_85, l_97, l_99, l_100, l_122, l_255, l_325, l_700, l_999, l_1000, l_1200, l_99999, l_100000, l_1000000, l_2000000000, l_N, b_0]
  rw [inL_k (n := 7) (by decide) rfl]
  cases h0 : decide (0 < w 7) <;> cases h1 : inr a 7 <;> rfl
theorem m_isRule {a : Int32} (hd : 2 ≤ d) : K_X11_isRule X d a (I, L, ()) = some (some (aI (bI (inr a 4))), (I, L, ())) := by
  obtain ⟨e, rfl⟩ : ∃ e, d = e + 1 := ⟨d - 1, by omega⟩
  refine K_X11_isRule.e X e a I L _ ?_
  simp (disch := omega) only [m_in, a_bi_i, l_0, l_1, l_2, l_3, l_4, l_5, l_6, l_7, l_8, l_9, l_10, l_12, l_16, l_20, l_24, l_25, l_31, l_32, l_33, l_40, l_48, l_57, l_60, l_63, l_64, l_78, l_85, l_97, l_99, l_100, l_122, l_255, l_325, l_700, l_999, l_1000, l_1200, l_99999, l_100000, l_1000000, l_2000000000, l_N]
  rw [inL_k (n := 4) (by decide) rfl]
  exact bool_val
theorem m_isSlot {a : Int32} (hd : 2 ≤ d) : K_X11_isSlot X d a (I, L, ()) = some (some (aI (bI (inr a 4))), (I, L, ())) := by
  obtain ⟨e, rfl⟩ : ∃ e, d = e + 1 := ⟨d - 1, by omega⟩
  refine K_X11_isSlot.e X e a I L _ ?_
  simp (disch := omega) only [m_in, a_bi_i, l_0, l_1, l_2, l_3, l_4, l_5, l_6, l_7, l_8, l_9, l_10, l_12, l_16, l_20, l_24, l_25, l_31, l_32, l_33, l_40, l_48, l_57, l_60, l_63, l_64, l_78, l_85, l_97, l_99, l_100, l_122, l_255, l_325, l_700, l_999, l_1000, l_1200, l_99999, l_100000, l_1000000, l_2000000000, l_N]
  rw [inL_k (n := 4) (by decide) rfl]
  exact bool_val
theorem m_isSeed {a : Int32} (hd : 2 ≤ d) : K_X11_isSeed X d a (I, L, ()) = some (some (aI (bI (inr a 2000000001))), (I, L, ())) := by
  obtain ⟨e, rfl⟩ : ∃ e, d = e + 1 := ⟨d - 1, by omega⟩
  refine K_X11_isSeed.e X e a I L _ ?_
  simp (disch := omega) only [m_in, a_bi_i, l_0, l_1, l_2, l_3, l_4, l_5, l_6, l_7, l_8, l_9, l_10, l_12, l_16, l_20, l_24, l_25, l_31, l_32, l_33, l_40, l_48, l_57, l_60, l_63, l_64, l_78, l_85, l_97, l_99, l_100, l_122, l_255, l_325, l_700, l_999, l_1000, l_1200, l_99999, l_100000, l_1000000, l_2000000000, l_N]
  rw [inL_k (n := 2000000001) (by decide) rfl]
  exact bool_val
theorem m_ofCoach (h : TM I w) (v : Vw w) {c k : Nat} (hk : c * 3 + k < 24) (hd : 1 ≤ d) : K_X11_ofCoach X d (nI c) (nI k) (I, L, ()) = some (some (aI (nI (w (9 + (c * 3 + k))))), (I, L, ())) := by
  obtain ⟨e, rfl⟩ : ∃ e, d = e + 1 := ⟨d - 1, by omega⟩
  refine K_X11_ofCoach.e X e (nI c) (nI k) I L _ ?_
  simp (disch := omega) only [a_bi_i, a_bv_n, a_bl_l, a_bq_q, l_0, l_1, l_2, l_3, l_4, l_5, l_6, l_7, l_8, l_9, l_10, l_12, l_16, l_20, l_24, l_25, l_31, l_32, l_33, l_40, l_48, l_57, l_60, l_63, l_64, l_78, l_85, l_97, l_99, l_100, l_122, l_255, l_325, l_700, l_999, l_1000, l_1200, l_99999, l_100000, l_1000000, l_2000000000, l_N, n_add, n_mul, n_lt, n_out, n_div, n_dm, n_eq, n_toN, n_inN, n_ltN, n_nltN, n_neN, Nat.not_lt_zero, false_or, or_false, ite_y, ite_n, if_true, if_false, ite_tt, ite_ff, b_0, b_1, eq_self_iff_true, Bool.true_eq_false, Bool.false_eq_true, n_toN]
  rw [show 9 + 3 * c + k = 9 + (c * 3 + k) by omega, h _ (by omega)]
theorem m_oc0 (h : TM I w) (v : Vw w) {c : Nat} (hc : c < 8) (hd : 1 ≤ d) : K_X11_ofCoach X d (nI c) (nI 0) (I, L, ()) = some (some (aI (nI (w (9 + 3 * c)))), (I, L, ())) := by
  obtain ⟨e, rfl⟩ : ∃ e, d = e + 1 := ⟨d - 1, by omega⟩
  refine K_X11_ofCoach.e X e (nI c) (nI 0) I L _ ?_
  simp (disch := omega) only [a_bi_i, a_bv_n, a_bl_l, a_bq_q, l_0, l_1, l_2, l_3, l_4, l_5, l_6, l_7, l_8, l_9, l_10, l_12, l_16, l_20, l_24, l_25, l_31, l_32, l_33, l_40, l_48, l_57, l_60, l_63, l_64, l_78, l_85, l_97, l_99, l_100, l_122, l_255, l_325, l_700, l_999, l_1000, l_1200, l_99999, l_100000, l_1000000, l_2000000000, l_N, n_add, n_mul, n_lt, n_out, n_div, n_dm, n_eq, n_toN, n_inN, n_ltN, n_nltN, n_neN, Nat.not_lt_zero, false_or, or_false, ite_y, ite_n, if_true, if_false, ite_tt, ite_ff, b_0, b_1, eq_self_iff_true, Bool.true_eq_false, Bool.false_eq_true, n_toN]
  rw [h _ (by omega), show 9 + 3 * c + 0 = 9 + 3 * c by omega]
theorem m_oc1 (h : TM I w) (v : Vw w) {c : Nat} (hc : c < 8) (hd : 1 ≤ d) : K_X11_ofCoach X d (nI c) (nI 1) (I, L, ()) = some (some (aI (nI (w (10 + 3 * c)))), (I, L, ())) := by
  obtain ⟨e, rfl⟩ : ∃ e, d = e + 1 := ⟨d - 1, by omega⟩
  refine K_X11_ofCoach.e X e (nI c) (nI 1) I L _ ?_
  simp (disch := omega) only [a_bi_i, a_bv_n, a_bl_l, a_bq_q, l_0, l_1, l_2, l_3, l_4, l_5, l_6, l_7, l_8, l_9, l_10, l_12, l_16, l_20, l_24, l_25, l_31, l_32, l_33, l_40, l_48, l_57, l_60, l_63, l_64, l_78, l_85, l_97, l_99, l_100, l_122, l_255, l_325, l_700, l_999, l_1000, l_1200, l_99999, l_100000, l_1000000, l_2000000000, l_N, n_add, n_mul, n_lt, n_out, n_div, n_dm, n_eq, n_toN, n_inN, n_ltN, n_nltN, n_neN, Nat.not_lt_zero, false_or, or_false, ite_y, ite_n, if_true, if_false, ite_tt, ite_ff, b_0, b_1, eq_self_iff_true, Bool.true_eq_false, Bool.false_eq_true, n_toN]
  rw [h _ (by omega), show 9 + 3 * c + 1 = 10 + 3 * c by omega]
theorem m_oc2 (h : TM I w) (v : Vw w) {c : Nat} (hc : c < 8) (hd : 1 ≤ d) : K_X11_ofCoach X d (nI c) (nI 2) (I, L, ()) = some (some (aI (nI (w (11 + 3 * c)))), (I, L, ())) := by
  obtain ⟨e, rfl⟩ : ∃ e, d = e + 1 := ⟨d - 1, by omega⟩
  refine K_X11_ofCoach.e X e (nI c) (nI 2) I L _ ?_
  simp (disch := omega) only [a_bi_i, a_bv_n, a_bl_l, a_bq_q, l_0, l_1, l_2, l_3, l_4, l_5, l_6, l_7, l_8, l_9, l_10, l_12, l_16, l_20, l_24, l_25, l_31, l_32, l_33, l_40, l_48, l_57, l_60, l_63, l_64, l_78, l_85, l_97, l_99, l_100, l_122, l_255, l_325, l_700, l_999, l_1000, l_1200, l_99999, l_100000, l_1000000, l_2000000000, l_N, n_add, n_mul, n_lt, n_out, n_div, n_dm, n_eq, n_toN, n_inN, n_ltN, n_nltN, n_neN, Nat.not_lt_zero, false_or, or_false, ite_y, ite_n, if_true, if_false, ite_tt, ite_ff, b_0, b_1, eq_self_iff_true, Bool.true_eq_false, Bool.false_eq_true, n_toN]
  rw [h _ (by omega), show 9 + 3 * c + 2 = 11 + 3 * c by omega]
theorem m_ofInspector (h : TM I w) (v : Vw w) {c k : Nat} (hk : c * 5 + k < 15) (hd : 1 ≤ d) : K_X11_ofInspector X d (nI c) (nI k) (I, L, ()) = some (some (aI (nI (w (33 + (c * 5 + k))))), (I, L, ())) := by
  obtain ⟨e, rfl⟩ : ∃ e, d = e + 1 := ⟨d - 1, by omega⟩
  refine K_X11_ofInspector.e X e (nI c) (nI k) I L _ ?_
  simp (disch := omega) only [a_bi_i, a_bv_n, a_bl_l, a_bq_q, l_0, l_1, l_2, l_3, l_4, l_5, l_6, l_7, l_8, l_9, l_10, l_12, l_16, l_20, l_24, l_25, l_31, l_32, l_33, l_40, l_48, l_57, l_60, l_63, l_64, l_78, l_85, l_97, l_99, l_100, l_122, l_255, l_325, l_700, l_999, l_1000, l_1200, l_99999, l_100000, l_1000000, l_2000000000, l_N, n_add, n_mul, n_lt, n_out, n_div, n_dm, n_eq, n_toN, n_inN, n_ltN, n_nltN, n_neN, Nat.not_lt_zero, false_or, or_false, ite_y, ite_n, if_true, if_false, ite_tt, ite_ff, b_0, b_1, eq_self_iff_true, Bool.true_eq_false, Bool.false_eq_true, n_toN]
  rw [show 33 + 5 * c + k = 33 + (c * 5 + k) by omega, h _ (by omega)]
theorem m_oi0 (h : TM I w) (v : Vw w) {c : Nat} (hc : c < 3) (hd : 1 ≤ d) : K_X11_ofInspector X d (nI c) (nI 0) (I, L, ()) = some (some (aI (nI (w (33 + 5 * c)))), (I, L, ())) := by
  obtain ⟨e, rfl⟩ : ∃ e, d = e + 1 := ⟨d - 1, by omega⟩
  refine K_X11_ofInspector.e X e (nI c) (nI 0) I L _ ?_
  simp (disch := omega) only [a_bi_i, a_bv_n, a_bl_l, a_bq_q, l_0, l_1, l_2, l_3, l_4, l_5, l_6, l_7, l_8, l_9, l_10, l_12, l_16, l_20, l_24, l_25, l_31, l_32, l_33, l_40, l_48, l_57, l_60, l_63, l_64, l_78, l_85, l_97, l_99, l_100, l_122, l_255, l_325, l_700, l_999, l_1000, l_1200, l_99999, l_100000, l_1000000, l_2000000000, l_N, n_add, n_mul, n_lt, n_out, n_div, n_dm, n_eq, n_toN, n_inN, n_ltN, n_nltN, n_neN, Nat.not_lt_zero, false_or, or_false, ite_y, ite_n, if_true, if_false, ite_tt, ite_ff, b_0, b_1, eq_self_iff_true, Bool.true_eq_false, Bool.false_eq_true, n_toN]
  rw [h _ (by omega), show 33 + 5 * c + 0 = 33 + 5 * c by omega]
theorem m_oi1 (h : TM I w) (v : Vw w) {c : Nat} (hc : c < 3) (hd : 1 ≤ d) : K_X11_ofInspector X d (nI c) (nI 1) (I, L, ()) = some (some (aI (nI (w (34 + 5 * c)))), (I, L, ())) := by
  obtain ⟨e, rfl⟩ : ∃ e, d = e + 1 := ⟨d - 1, by omega⟩
  refine K_X11_ofInspector.e X e (nI c) (nI 1) I L _ ?_
  simp (disch := omega) only [a_bi_i, a_bv_n, a_bl_l, a_bq_q, l_0, l_1, l_2, l_3, l_4, l_5, l_6, l_7, l_8, l_9, l_10, l_12, l_16, l_20, l_24, l_25, l_31, l_32, l_33, l_40, l_48, l_57, l_60, l_63, l_64, l_78, l_85, l_97, l_99, l_100, l_122, l_255, l_325, l_700, l_999, l_1000, l_1200, l_99999, l_100000, l_1000000, l_2000000000, l_N, n_add, n_mul, n_lt, n_out, n_div, n_dm, n_eq, n_toN, n_inN, n_ltN, n_nltN, n_neN, Nat.not_lt_zero, false_or, or_false, ite_y, ite_n, if_true, if_false, ite_tt, ite_ff, b_0, b_1, eq_self_iff_true, Bool.true_eq_false, Bool.false_eq_true, n_toN]
  rw [h _ (by omega), show 33 + 5 * c + 1 = 34 + 5 * c by omega]
theorem m_oi2 (h : TM I w) (v : Vw w) {c : Nat} (hc : c < 3) (hd : 1 ≤ d) : K_X11_ofInspector X d (nI c) (nI 2) (I, L, ()) = some (some (aI (nI (w (35 + 5 * c)))), (I, L, ())) := by
  obtain ⟨e, rfl⟩ : ∃ e, d = e + 1 := ⟨d - 1, by omega⟩
  refine K_X11_ofInspector.e X e (nI c) (nI 2) I L _ ?_
  simp (disch := omega) only [a_bi_i, a_bv_n, a_bl_l, a_bq_q, l_0, l_1, l_2, l_3, l_4, l_5, l_6, l_7, l_8, l_9, l_10, l_12, l_16, l_20, l_24, l_25, l_31, l_32, l_33, l_40, l_48, l_57, l_60, l_63, l_64, l_78, l_85, l_97, l_99, l_100, l_122, l_255, l_325, l_700, l_999, l_1000, l_1200, l_99999, l_100000, l_1000000, l_2000000000, l_N, n_add, n_mul, n_lt, n_out, n_div, n_dm, n_eq, n_toN, n_inN, n_ltN, n_nltN, n_neN, Nat.not_lt_zero, false_or, or_false, ite_y, ite_n, if_true, if_false, ite_tt, ite_ff, b_0, b_1, eq_self_iff_true, Bool.true_eq_false, Bool.false_eq_true, n_toN]
  rw [h _ (by omega), show 33 + 5 * c + 2 = 35 + 5 * c by omega]
theorem m_oi3 (h : TM I w) (v : Vw w) {c : Nat} (hc : c < 3) (hd : 1 ≤ d) : K_X11_ofInspector X d (nI c) (nI 3) (I, L, ()) = some (some (aI (nI (w (36 + 5 * c)))), (I, L, ())) := by
  obtain ⟨e, rfl⟩ : ∃ e, d = e + 1 := ⟨d - 1, by omega⟩
  refine K_X11_ofInspector.e X e (nI c) (nI 3) I L _ ?_
  simp (disch := omega) only [a_bi_i, a_bv_n, a_bl_l, a_bq_q, l_0, l_1, l_2, l_3, l_4, l_5, l_6, l_7, l_8, l_9, l_10, l_12, l_16, l_20, l_24, l_25, l_31, l_32, l_33, l_40, l_48, l_57, l_60, l_63, l_64, l_78, l_85, l_97, l_99, l_100, l_122, l_255, l_325, l_700, l_999, l_1000, l_1200, l_99999, l_100000, l_1000000, l_2000000000, l_N, n_add, n_mul, n_lt, n_out, n_div, n_dm, n_eq, n_toN, n_inN, n_ltN, n_nltN, n_neN, Nat.not_lt_zero, false_or, or_false, ite_y, ite_n, if_true, if_false, ite_tt, ite_ff, b_0, b_1, eq_self_iff_true, Bool.true_eq_false, Bool.false_eq_true, n_toN]
  rw [h _ (by omega), show 33 + 5 * c + 3 = 36 + 5 * c by omega]
theorem m_oi4 (h : TM I w) (v : Vw w) {c : Nat} (hc : c < 3) (hd : 1 ≤ d) : K_X11_ofInspector X d (nI c) (nI 4) (I, L, ()) = some (some (aI (nI (w (37 + 5 * c)))), (I, L, ())) := by
  obtain ⟨e, rfl⟩ : ∃ e, d = e + 1 := ⟨d - 1, by omega⟩
  refine K_X11_ofInspector.e X e (nI c) (nI 4) I L _ ?_
  simp (disch := omega) only [a_bi_i, a_bv_n, a_bl_l, a_bq_q, l_0, l_1, l_2, l_3, l_4, l_5, l_6, l_7, l_8, l_9, l_10, l_12, l_16, l_20, l_24, l_25, l_31, l_32, l_33, l_40, l_48, l_57, l_60, l_63, l_64, l_78, l_85, l_97, l_99, l_100, l_122, l_255, l_325, l_700, l_999, l_1000, l_1200, l_99999, l_100000, l_1000000, l_2000000000, l_N, n_add, n_mul, n_lt, n_out, n_div, n_dm, n_eq, n_toN, n_inN, n_ltN, n_nltN, n_neN, Nat.not_lt_zero, false_or, or_false, ite_y, ite_n, if_true, if_false, ite_tt, ite_ff, b_0, b_1, eq_self_iff_true, Bool.true_eq_false, Bool.false_eq_true, n_toN]
  rw [h _ (by omega), show 33 + 5 * c + 4 = 37 + 5 * c by omega]
theorem m_ofRider (h : TM I w) (v : Vw w) {c k : Nat} (hk : c * 5 + k < 30) (hd : 1 ≤ d) : K_X11_ofRider X d (nI c) (nI k) (I, L, ()) = some (some (aI (nI (w (48 + (c * 5 + k))))), (I, L, ())) := by
  obtain ⟨e, rfl⟩ : ∃ e, d = e + 1 := ⟨d - 1, by omega⟩
  refine K_X11_ofRider.e X e (nI c) (nI k) I L _ ?_
  simp (disch := omega) only [a_bi_i, a_bv_n, a_bl_l, a_bq_q, l_0, l_1, l_2, l_3, l_4, l_5, l_6, l_7, l_8, l_9, l_10, l_12, l_16, l_20, l_24, l_25, l_31, l_32, l_33, l_40, l_48, l_57, l_60, l_63, l_64, l_78, l_85, l_97, l_99, l_100, l_122, l_255, l_325, l_700, l_999, l_1000, l_1200, l_99999, l_100000, l_1000000, l_2000000000, l_N, n_add, n_mul, n_lt, n_out, n_div, n_dm, n_eq, n_toN, n_inN, n_ltN, n_nltN, n_neN, Nat.not_lt_zero, false_or, or_false, ite_y, ite_n, if_true, if_false, ite_tt, ite_ff, b_0, b_1, eq_self_iff_true, Bool.true_eq_false, Bool.false_eq_true, n_toN]
  rw [show 48 + 5 * c + k = 48 + (c * 5 + k) by omega, h _ (by omega)]
theorem m_or0 (h : TM I w) (v : Vw w) {c : Nat} (hc : c < 6) (hd : 1 ≤ d) : K_X11_ofRider X d (nI c) (nI 0) (I, L, ()) = some (some (aI (nI (w (48 + 5 * c)))), (I, L, ())) := by
  obtain ⟨e, rfl⟩ : ∃ e, d = e + 1 := ⟨d - 1, by omega⟩
  refine K_X11_ofRider.e X e (nI c) (nI 0) I L _ ?_
  simp (disch := omega) only [a_bi_i, a_bv_n, a_bl_l, a_bq_q, l_0, l_1, l_2, l_3, l_4, l_5, l_6, l_7, l_8, l_9, l_10, l_12, l_16, l_20, l_24, l_25, l_31, l_32, l_33, l_40, l_48, l_57, l_60, l_63, l_64, l_78, l_85, l_97, l_99, l_100, l_122, l_255, l_325, l_700, l_999, l_1000, l_1200, l_99999, l_100000, l_1000000, l_2000000000, l_N, n_add, n_mul, n_lt, n_out, n_div, n_dm, n_eq, n_toN, n_inN, n_ltN, n_nltN, n_neN, Nat.not_lt_zero, false_or, or_false, ite_y, ite_n, if_true, if_false, ite_tt, ite_ff, b_0, b_1, eq_self_iff_true, Bool.true_eq_false, Bool.false_eq_true, n_toN]
  rw [h _ (by omega), show 48 + 5 * c + 0 = 48 + 5 * c by omega]
theorem m_or1 (h : TM I w) (v : Vw w) {c : Nat} (hc : c < 6) (hd : 1 ≤ d) : K_X11_ofRider X d (nI c) (nI 1) (I, L, ()) = some (some (aI (nI (w (49 + 5 * c)))), (I, L, ())) := by
  obtain ⟨e, rfl⟩ : ∃ e, d = e + 1 := ⟨d - 1, by omega⟩
  refine K_X11_ofRider.e X e (nI c) (nI 1) I L _ ?_
  simp (disch := omega) only [a_bi_i, a_bv_n, a_bl_l, a_bq_q, l_0, l_1, l_2, l_3, l_4, l_5, l_6, l_7, l_8, l_9, l_10, l_12, l_16, l_20, l_24, l_25, l_31, l_32, l_33, l_40, l_48, l_57, l_60, l_63, l_64, l_78, l_85, l_97, l_99, l_100, l_122, l_255, l_325, l_700, l_999, l_1000, l_1200, l_99999, l_100000, l_1000000, l_2000000000, l_N, n_add, n_mul, n_lt, n_out, n_div, n_dm, n_eq, n_toN, n_inN, n_ltN, n_nltN, n_neN, Nat.not_lt_zero, false_or, or_false, ite_y, ite_n, if_true, if_false, ite_tt, ite_ff, b_0, b_1, eq_self_iff_true, Bool.true_eq_false, Bool.false_eq_true, n_toN]
  rw [h _ (by omega), show 48 + 5 * c + 1 = 49 + 5 * c by omega]
theorem m_or2 (h : TM I w) (v : Vw w) {c : Nat} (hc : c < 6) (hd : 1 ≤ d) : K_X11_ofRider X d (nI c) (nI 2) (I, L, ()) = some (some (aI (nI (w (50 + 5 * c)))), (I, L, ())) := by
  obtain ⟨e, rfl⟩ : ∃ e, d = e + 1 := ⟨d - 1, by omega⟩
  refine K_X11_ofRider.e X e (nI c) (nI 2) I L _ ?_
  simp (disch := omega) only [a_bi_i, a_bv_n, a_bl_l, a_bq_q, l_0, l_1, l_2, l_3, l_4, l_5, l_6, l_7, l_8, l_9, l_10, l_12, l_16, l_20, l_24, l_25, l_31, l_32, l_33, l_40, l_48, l_57, l_60, l_63, l_64, l_78, l_85, l_97, l_99, l_100, l_122, l_255, l_325, l_700, l_999, l_1000, l_1200, l_99999, l_100000, l_1000000, l_2000000000, l_N, n_add, n_mul, n_lt, n_out, n_div, n_dm, n_eq, n_toN, n_inN, n_ltN, n_nltN, n_neN, Nat.not_lt_zero, false_or, or_false, ite_y, ite_n, if_true, if_false, ite_tt, ite_ff, b_0, b_1, eq_self_iff_true, Bool.true_eq_false, Bool.false_eq_true, n_toN]
  rw [h _ (by omega), show 48 + 5 * c + 2 = 50 + 5 * c by omega]
theorem m_or3 (h : TM I w) (v : Vw w) {c : Nat} (hc : c < 6) (hd : 1 ≤ d) : K_X11_ofRider X d (nI c) (nI 3) (I, L, ()) = some (some (aI (nI (w (51 + 5 * c)))), (I, L, ())) := by
  obtain ⟨e, rfl⟩ : ∃ e, d = e + 1 := ⟨d - 1, by omega⟩
  refine K_X11_ofRider.e X e (nI c) (nI 3) I L _ ?_
  simp (disch := omega) only [a_bi_i, a_bv_n, a_bl_l, a_bq_q, l_0, l_1, l_2, l_3, l_4, l_5, l_6, l_7, l_8, l_9, l_10, l_12, l_16, l_20, l_24, l_25, l_31, l_32, l_33, l_40, l_48, l_57, l_60, l_63, l_64, l_78, l_85, l_97, l_99, l_100, l_122, l_255, l_325, l_700, l_999, l_1000, l_1200, l_99999, l_100000, l_1000000, l_2000000000, l_N, n_add, n_mul, n_lt, n_out, n_div, n_dm, n_eq, n_toN, n_inN, n_ltN, n_nltN, n_neN, Nat.not_lt_zero, false_or, or_false, ite_y, ite_n, if_true, if_false, ite_tt, ite_ff, b_0, b_1, eq_self_iff_true, Bool.true_eq_false, Bool.false_eq_true, n_toN]
  rw [h _ (by omega), show 48 + 5 * c + 3 = 51 + 5 * c by omega]
theorem m_or4 (h : TM I w) (v : Vw w) {c : Nat} (hc : c < 6) (hd : 1 ≤ d) : K_X11_ofRider X d (nI c) (nI 4) (I, L, ()) = some (some (aI (nI (w (52 + 5 * c)))), (I, L, ())) := by
  obtain ⟨e, rfl⟩ : ∃ e, d = e + 1 := ⟨d - 1, by omega⟩
  refine K_X11_ofRider.e X e (nI c) (nI 4) I L _ ?_
  simp (disch := omega) only [a_bi_i, a_bv_n, a_bl_l, a_bq_q, l_0, l_1, l_2, l_3, l_4, l_5, l_6, l_7, l_8, l_9, l_10, l_12, l_16, l_20, l_24, l_25, l_31, l_32, l_33, l_40, l_48, l_57, l_60, l_63, l_64, l_78, l_85, l_97, l_99, l_100, l_122, l_255, l_325, l_700, l_999, l_1000, l_1200, l_99999, l_100000, l_1000000, l_2000000000, l_N, n_add, n_mul, n_lt, n_out, n_div, n_dm, n_eq, n_toN, n_inN, n_ltN, n_nltN, n_neN, Nat.not_lt_zero, false_or, or_false, ite_y, ite_n, if_true, if_false, ite_tt, ite_ff, b_0, b_1, eq_self_iff_true, Bool.true_eq_false, Bool.false_eq_true, n_toN]
  rw [h _ (by omega), show 48 + 5 * c + 4 = 52 + 5 * c by omega]
theorem m_staysOf (h : TM I w) (v : Vw w) {i c : Nat} (hi : i < w 5) (hc : c < 8) (hd : 2 ≤ d) : K_X11_staysOf X d (nI i) (nI c) (I, L, ()) = some (some (aI (nI (1 + w (9 + 3 * c) / w (35 + 5 * i)))), (I, L, ())) := by
  obtain ⟨e, rfl⟩ : ∃ e, d = e + 1 := ⟨d - 1, by omega⟩
  refine K_X11_staysOf.e X e (nI i) (nI c) I L _ ?_
  obtain ⟨⟨-, -, -, -, -, h5, -⟩, -, vc, vi, -⟩ := id v
  have h1 := vc c hc
  have h2 := vi i hi
  simp (disch := omega) only [a_bi_i, a_bv_n, a_bl_l, a_bq_q, l_0, l_1, l_2, l_3, l_4, l_5, l_6, l_7, l_8, l_9, l_10, l_12, l_16, l_20, l_24, l_25, l_31, l_32, l_33, l_40, l_48, l_57, l_60, l_63, l_64, l_78, l_85, l_97, l_99, l_100, l_122, l_255, l_325, l_700, l_999, l_1000, l_1200, l_99999, l_100000, l_1000000, l_2000000000, l_N, n_add, n_mul, n_lt, n_out, n_div, n_dm, n_eq, n_toN, n_inN, n_ltN, n_nltN, n_neN, Nat.not_lt_zero, false_or, or_false, ite_y, ite_n, if_true, if_false, ite_tt, ite_ff, b_0, b_1, eq_self_iff_true, Bool.true_eq_false, Bool.false_eq_true, m_oc0 h v, m_oi2 h v, n_div]
theorem m_beginOf (h : TM I w) (v : Vw w) {i : Nat} (hi : i < 3) (hd : 2 ≤ d) : K_X11_beginOf X d (nI i) (I, L, ()) = some (some (aI (nI (2 * w (33 + 5 * i) + w (34 + 5 * i)))), (I, L, ())) := by
  obtain ⟨e, rfl⟩ : ∃ e, d = e + 1 := ⟨d - 1, by omega⟩
  refine K_X11_beginOf.e X e (nI i) I L _ ?_
  simp (disch := omega) only [a_bi_i, a_bv_n, a_bl_l, a_bq_q, l_0, l_1, l_2, l_3, l_4, l_5, l_6, l_7, l_8, l_9, l_10, l_12, l_16, l_20, l_24, l_25, l_31, l_32, l_33, l_40, l_48, l_57, l_60, l_63, l_64, l_78, l_85, l_97, l_99, l_100, l_122, l_255, l_325, l_700, l_999, l_1000, l_1200, l_99999, l_100000, l_1000000, l_2000000000, l_N, n_add, n_mul, n_lt, n_out, n_div, n_dm, n_eq, n_toN, n_inN, n_ltN, n_nltN, n_neN, Nat.not_lt_zero, false_or, or_false, ite_y, ite_n, if_true, if_false, ite_tt, ite_ff, b_0, b_1, eq_self_iff_true, Bool.true_eq_false, Bool.false_eq_true, m_oi0 h v, m_oi1 h v]
theorem m_isStop (h : TM I w) (v : Vw w) {m : Nat} (hm : m < w 1) (hd : 1 ≤ d) : K_X11_isStop X d (nI m) (I, L, ()) = some (some (aI (bI (decide (0 < m ∧ m % w 2 = 0)))), (I, L, ())) := by
  obtain ⟨e, rfl⟩ : ∃ e, d = e + 1 := ⟨d - 1, by omega⟩
  refine K_X11_isStop.e X e (nI m) I L _ ?_
  obtain ⟨h7, h0, h1, h2⟩ := v.live (Or.inr (Or.inl (by omega)))
  obtain ⟨⟨-, b1, b2, -⟩, -⟩ := v
  have hmod := Nat.mod_lt m h2
  rw [h 2 (by decide)]
  simp (disch := omega) only [l_0, l_1, l_2, l_3, l_4, l_5, l_6, l_7, l_8, l_9, l_10, l_12, l_16, l_20, l_24, l_25, l_31, l_32, l_33, l_40, l_48, l_57, l_60, l_63, l_64, l_78, l_85, l_97, l_99, l_100, l_122, l_255, l_325, l_700, l_999, l_1000, l_1200, l_99999, l_100000, l_1000000, l_2000000000, l_N, n_lt, n_div, n_mul, n_dm, n_eq, ite_n]
  by_cases h3 : 0 < m <;> by_cases h4 : m % w 2 = 0 <;> simp_all [bI]
end
