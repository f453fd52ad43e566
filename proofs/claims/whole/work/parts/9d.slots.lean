/-! slots: rows of numbers -/
abbrev TS : Type := Nat → Option (Nat × Nat × (Nat → Int64))
def SC (I : A3 Int32) (L : A3 Int64) (t : TS) : Prop := ∀ s, s < 4 → match t s with
  | none => I 32 s 1 = nI 0
  | some (wd, n, g) => I 32 s 1 = nI 1 ∧ I 32 s 2 = nI wd ∧ I 32 s 3 = nI n ∧ ∀ j, j < 60 → L 33 s j = g j
def SM (I : A3 Int32) (L : A3 Int64) (t : TS) : Prop := ∀ s, s < 4 → match t s with
  | none => I 59 0 s = nN
  | some (wd, n, g) => I 59 0 s = nI n ∧ I 60 0 s = nI wd ∧ ∀ j, j < 60 → L 61 0 (60 * s + j) = g j
def Vt (t : TS) : Prop := ∀ s wd n g, t s = some (wd, n, g) → wd ≤ 3 ∧ n ≤ 60
section
variable {X : AX} {d : Nat} {I J : A3 Int32} {L : A3 Int64} {w : TW} {t : TS}
theorem SC.no (h : SC I L t) {s : Nat} (hs : s < 4) (ht : t s = none) : I 32 s 1 = nI 0 := by
  have := h s hs; rw [ht] at this; exact this
theorem SC.yes (h : SC I L t) {s wd n : Nat} {g : Nat → Int64} (hs : s < 4) (ht : t s = some (wd, n, g)) : I 32 s 1 = nI 1 ∧ I 32 s 2 = nI wd ∧ I 32 s 3 = nI n ∧ ∀ j, j < 60 → L 33 s j = g j := by
  have := h s hs; rw [ht] at this; exact this
theorem SM.no (h : SM I L t) {s : Nat} (hs : s < 4) (ht : t s = none) : I 59 0 s = nN := by
  have := h s hs; rw [ht] at this; exact this
theorem SM.yes (h : SM I L t) {s wd n : Nat} {g : Nat → Int64} (hs : s < 4) (ht : t s = some (wd, n, g)) : I 59 0 s = nI n ∧ I 60 0 s = nI wd ∧ ∀ j, j < 60 → L 61 0 (60 * s + j) = g j := by
  have := h s hs; rw [ht] at this; exact this
theorem SC.fm (h : SC I L t) {l : List Nat} (hF : Fm l I J) (hl : 32 ∉ l) : SC J L t := by
  unfold SC; rw [hF 32 hl]; exact h
theorem SM.fm (h : SM I L t) {l : List Nat} (hF : Fm l I J) (h1 : 59 ∉ l) (h2 : 60 ∉ l) : SM J L t := by
  unfold SM; rw [hF 59 h1, hF 60 h2]; exact h
theorem SC.sc (h : SC I L t) (hF : Sc I J) : SC J L t := h.fm hF (by decide)
theorem SM.sm (h : SM I L t) (hF : Sm I J) : SM J L t := h.fm hF.1 (by decide) (by decide)
theorem c_isSlot {a : Int32} (hd : 1 ≤ d) : K_X10_isSlot X d a (I, L, ()) = some (some (aI (bI (inr a 4))), (I, L, ())) := by
  obtain ⟨e, rfl⟩ : ∃ e, d = e + 1 := ⟨d - 1, by omega⟩
  exact K_X10_isSlot.e X e a I L _ has_val
theorem m_numberAt {s i : Nat} (h : 60 * s + i < 240) (hd : 1 ≤ d) : K_X11_numberAt X d (nI s) (nI i) (I, L, ()) = some (some (aL (L 61 0 (60 * s + i))), (I, L, ())) := by
  obtain ⟨e, rfl⟩ : ∃ e, d = e + 1 := ⟨d - 1, by omega⟩
  refine K_X11_numberAt.e X e _ _ I L _ ?_
  simp (disch := omega) only [a_bi_i, a_bv_n, a_bl_l, a_bq_q, l_0, l_1, l_2, l_3, l_4, l_5, l_6, l_7, l_8, l_9, l_10, l_12, l_16, l_20, l_24, l_25, l_31, l_32, l_33, l_40, l_48, l_57, l_60, l_63, l_64, l_78, l_85, l_97, l_99, l_100, l_122, l_255, l_325, l_700, l_999, l_1000, l_1200, l_99999, l_100000, l_1000000, l_2000000000, l_N, n_add, n_mul, n_lt, n_out, n_div, n_dm, n_eq, n_toN, n_inN, n_ltN, n_nltN, n_neN, Nat.not_lt_zero, false_or, or_false, ite_y, ite_n, if_true, if_false, ite_tt, ite_ff, b_0, b_1, eq_self_iff_true, Bool.true_eq_false, Bool.false_eq_true]
/-- both calls answer alike, over the slots too -/
def BothS (w : TW) (t : TS) (KC KM : AU → ARes Unit) (I : A3 Int32) (L : A3 Int64) : Prop := ∃ x I', KC (I, L, ()) = some (some (aI x), (I', L, ())) ∧ Sc I I' ∧ ∀ J L2, TM J w → SM J L2 t → ∃ J', KM (J, L2, ()) = some (some (aI x), (J', L2, ())) ∧ Sm J J'
theorem BothS.pure {KC KM : AU → ARes Unit} (x : Int32) (hC : KC (I, L, ()) = some (some (aI x), (I, L, ()))) (hM : ∀ J L2, TM J w → SM J L2 t → KM (J, L2, ()) = some (some (aI x), (J, L2, ()))) : BothS w t KC KM I L :=
  ⟨x, I, hC, Sc.refl, fun J L2 hJ hS => ⟨J, hM J L2 hJ hS, Sm.refl⟩⟩
/-! sightings -/
def lgN (x : Int64) : Nat := x.toInt.toNat
theorem inL_ex {x : Int64} {n : Nat} (hn : n ≤ 1000) (h : inL x 0 ((n : Int) - 1) = true) : lgN x < n ∧ x = (nI (lgN x)).toInt64 := by
  have h' := of_decide_eq_true h
  have h1 : lgN x < n := by unfold lgN; omega
  refine ⟨h1, Int64.toInt_inj.mp ?_⟩
  rw [Int32.toInt_toInt64, n_toInt (by omega)]
  unfold lgN
  omega
theorem n_32 (k : Nat) : (nI k).toInt64.toInt32 = nI k := Int32.toInt32_toInt64 _
theorem lg_0 {x : Int64} : (lg_cmp x (0 : Int64) < nI 0) ↔ ¬ 0 ≤ x.toInt := by
  rw [show nI 0 = (0 : Int32) from rfl, lg_cmp_lt, Int64.lt_iff_toInt_lt]
  show x.toInt < 0 ↔ _
  omega
theorem lg_n {x : Int64} {n : Nat} (hn : n < 2147483648) : (lg_cmp x (nI n).toInt64 < nI 0) ↔ x.toInt ≤ (n : Int) - 1 := by
  rw [show nI 0 = (0 : Int32) from rfl, lg_cmp_lt, Int64.lt_iff_toInt_lt, Int32.toInt_toInt64, n_toInt hn]
  omega
/-- pair j of the row is a minute and a coach -/
def okPr (w : TW) (g : Nat → Int64) (j : Nat) : Bool := inL (g (2 * j)) 0 ((w 1 : Int) - 1) && inL (g (2 * j + 1)) 0 ((w 0 : Int) - 1)
def siO (w : TW) (n : Nat) (g : Nat → Int64) : Bool := decide (n % 2 = 0) && (fnd (n / 2) (fun j => !okPr w g j)).isNone
def siV (b : Bool) : Int32 := if b = true then nI 0 else -2
theorem siO_ok {n : Nat} {g : Nat → Int64} (h : siO w n g = true) : n % 2 = 0 ∧ ∀ j, j < n / 2 → okPr w g j = true := by
  unfold siO at h
  rw [Bool.and_eq_true, Option.isNone_iff_eq_none] at h
  refine ⟨of_decide_eq_true h.1, fun j hj => ?_⟩
  have := fnd_none h.2 j hj
  simpa using this
theorem c_sighting {s wd n : Nat} {g : Nat → Int64} (h : TC I w) (v : Vw w) (hS : SC I L t) (ht : Vt t) (hs : s < 4) (h5 : 0 < w 5) (hg : t s = some (wd, n, g)) (hd : 3 ≤ d) : K_X10_sightingState X d (nI s) (I, L, ()) = some (some (aI (siV (siO w n g))), (I, L, ())) := by
  obtain ⟨e, rfl⟩ : ∃ e, d = e + 1 := ⟨d - 1, by omega⟩
  obtain ⟨⟨w0, w1, -, -, -, w5, -⟩, -⟩ := id v
  obtain ⟨s1, s2, s3, s4⟩ := hS.yes hs hg
  obtain ⟨v1, v2⟩ := ht s wd n g hg
  have hi : inr (nI 0) (w 5) = true := by rw [inr_n (by omega) (by omega)]; simp [h5]
  have hi4 : inr (nI s) 4 = true := by rw [inr_n (by omega) (by omega)]; simp [hs]
  have n10 : ¬ (1 = 0) := by decide
  refine K_X10_sightingState.e X e _ I L _ ?_
  by_cases h2 : n % 2 = 0
  · have key : ∀ k j, j + k = n / 2 → v_X10_sightingState_52 X e s (nI (2 * j)) (I, L, ()) = some (some (aI (siV (fndF (fun j => !okPr w g j) k j).isNone)), (I, L, ())) := by
      intro k
      induction k with
      | zero =>
        intro j hj
        refine v_X10_sightingState_52.e X e _ _ I L _ ?_
        rw [s3]
        have : ¬ 2 * j + 1 < n := by omega
        simp (disch := omega) only [a_bi_i, a_bv_n, a_bl_l, a_bq_q, l_0, l_1, l_2, l_3, l_4, l_5, l_6, l_7, l_8, l_9, l_10, l_12, l_16, l_20, l_24, l_25, l_31, l_32, l_33, l_40, l_48, l_57, l_60, l_63, l_64, l_78, l_85, l_97, l_99, l_100, l_122, l_255, l_325, l_700, l_999, l_1000, l_1200, l_99999, l_100000, l_1000000, l_2000000000, l_N, n_add, n_mul, n_lt, n_out, n_div, n_dm, n_eq, n_toN, n_inN, n_ltN, n_nltN, n_neN, Nat.not_lt_zero, false_or, or_false, ite_y, ite_n, if_true, if_false, ite_tt, ite_ff, b_0, b_1, eq_self_iff_true, Bool.true_eq_false, Bool.false_eq_true, this]
        rfl
      | succ k ih =>
        intro j hj
        refine v_X10_sightingState_52.e X e _ _ I L _ ?_
        rw [s3]
        simp (disch := omega) only [a_bi_i, a_bv_n, a_bl_l, a_bq_q, l_0, l_1, l_2, l_3, l_4, l_5, l_6, l_7, l_8, l_9, l_10, l_12, l_16, l_20, l_24, l_25, l_31, l_32, l_33, l_40, l_48, l_57, l_60, l_63, l_64, l_78, l_85, l_97, l_99, l_100, l_122, l_255, l_325, l_700, l_999, l_1000, l_1200, l_99999, l_100000, l_1000000, l_2000000000, l_N, n_add, n_mul, n_lt, n_out, n_div, n_dm, n_eq, n_toN, n_inN, n_ltN, n_nltN, n_neN, Nat.not_lt_zero, false_or, or_false, ite_y, ite_n, if_true, if_false, ite_tt, ite_ff, b_0, b_1, eq_self_iff_true, Bool.true_eq_false, Bool.false_eq_true, s4, c_minutes h v, c_coaches h v, lg_0, lg_n]
        rw [fndF]
        unfold okPr inL
        by_cases c1 : 0 ≤ (g (2 * j)).toInt
        · by_cases c2 : (g (2 * j)).toInt ≤ (w 1 : Int) - 1
          · by_cases c3 : 0 ≤ (g (2 * j + 1)).toInt
            · by_cases c4 : (g (2 * j + 1)).toInt ≤ (w 0 : Int) - 1
              · simp only [c1, c2, c3, c4, not_true_eq_false, if_true, if_false, and_self, decide_true, Bool.and_self, Bool.not_true, Bool.false_eq_true]
                exact ih (j + 1) (by omega)
              · simp only [c1, c2, c3, c4, not_true_eq_false, if_true, if_false, and_self, and_false, decide_true, decide_false, Bool.and_false, Bool.not_false]
                rfl
            · simp only [c1, c2, c3, not_true_eq_false, not_false_eq_true, if_true, if_false, and_self, false_and, decide_true, decide_false, Bool.and_false, Bool.not_false]
              rfl
          · simp only [c1, c2, not_true_eq_false, not_false_eq_true, if_true, if_false, and_false, decide_false, Bool.false_and, Bool.not_false]
            rfl
        · simp only [c1, not_true_eq_false, not_false_eq_true, if_true, if_false, false_and, decide_false, Bool.false_and, Bool.not_false]
          rfl
    simp (disch := omega) only [a_bi_i, a_bv_n, a_bl_l, a_bq_q, l_0, l_1, l_2, l_3, l_4, l_5, l_6, l_7, l_8, l_9, l_10, l_12, l_16, l_20, l_24, l_25, l_31, l_32, l_33, l_40, l_48, l_57, l_60, l_63, l_64, l_78, l_85, l_97, l_99, l_100, l_122, l_255, l_325, l_700, l_999, l_1000, l_1200, l_99999, l_100000, l_1000000, l_2000000000, l_N, n_add, n_mul, n_lt, n_out, n_div, n_dm, n_eq, n_toN, n_inN, n_ltN, n_nltN, n_neN, Nat.not_lt_zero, false_or, or_false, ite_y, ite_n, if_true, if_false, ite_tt, ite_ff, b_0, b_1, eq_self_iff_true, Bool.true_eq_false, Bool.false_eq_true, c_isSlot, hi4, c_hasInspector h v, hi, s1, s3, n10, h2]
    have := key (n / 2) 0 (by omega)
    unfold siO
    rw [decide_eq_true h2, Bool.true_and]
    exact this
  · simp (disch := omega) only [a_bi_i, a_bv_n, a_bl_l, a_bq_q, l_0, l_1, l_2, l_3, l_4, l_5, l_6, l_7, l_8, l_9, l_10, l_12, l_16, l_20, l_24, l_25, l_31, l_32, l_33, l_40, l_48, l_57, l_60, l_63, l_64, l_78, l_85, l_97, l_99, l_100, l_122, l_255, l_325, l_700, l_999, l_1000, l_1200, l_99999, l_100000, l_1000000, l_2000000000, l_N, n_add, n_mul, n_lt, n_out, n_div, n_dm, n_eq, n_toN, n_inN, n_ltN, n_nltN, n_neN, Nat.not_lt_zero, false_or, or_false, ite_y, ite_n, if_true, if_false, ite_tt, ite_ff, b_0, b_1, eq_self_iff_true, Bool.true_eq_false, Bool.false_eq_true, c_isSlot, hi4, c_hasInspector h v, hi, s1, s3, n10, h2]
    unfold siO
    rw [decide_eq_false h2, Bool.false_and]
    rfl
theorem m_sighting {s wd n : Nat} {g : Nat → Int64} (h : TM I w) (v : Vw w) (hS : SM I L t) (ht : Vt t) (hs : s < 4) (h5 : 0 < w 5) (hg : t s = some (wd, n, g)) (hd : 3 ≤ d) : K_X11_asksSighted X d (nI s) (nI 1) (I, L, ()) = some (some (aI (siV (siO w n g))), (I, L, ())) := by
  obtain ⟨e, rfl⟩ : ∃ e, d = e + 1 := ⟨d - 1, by omega⟩
  obtain ⟨⟨w0, w1, -, -, -, w5, -⟩, -⟩ := id v
  obtain ⟨s1, s2, s4⟩ := hS.yes hs hg
  obtain ⟨v1, v2⟩ := ht s wd n g hg
  have hi4 : inr (nI s) 4 = true := by rw [inr_n (by omega) (by omega)]; simp [hs]
  have n10 : ¬ (1 = 0) := by decide
  have n5 : ¬ (w 5 = 0) := by omega
  refine K_X11_asksSighted.e X e _ _ I L _ ?_
  by_cases h2 : n % 2 = 0
  · have key : ∀ k j, j + k = n / 2 → v_X11_asksSighted_52 X e (nI s) (nI (2 * j)) (I, L, ()) = some (some (aI (siV (fndF (fun j => !okPr w g j) k j).isNone)), (I, L, ())) := by
      intro k
      induction k with
      | zero =>
        intro j hj
        refine v_X11_asksSighted_52.e X e _ _ I L _ ?_
        have : ¬ 2 * j < n := by omega
        simp (disch := omega) only [a_bi_i, a_bv_n, a_bl_l, a_bq_q, l_0, l_1, l_2, l_3, l_4, l_5, l_6, l_7, l_8, l_9, l_10, l_12, l_16, l_20, l_24, l_25, l_31, l_32, l_33, l_40, l_48, l_57, l_60, l_63, l_64, l_78, l_85, l_97, l_99, l_100, l_122, l_255, l_325, l_700, l_999, l_1000, l_1200, l_99999, l_100000, l_1000000, l_2000000000, l_N, n_add, n_mul, n_lt, n_out, n_div, n_dm, n_eq, n_toN, n_inN, n_ltN, n_nltN, n_neN, Nat.not_lt_zero, false_or, or_false, ite_y, ite_n, if_true, if_false, ite_tt, ite_ff, b_0, b_1, eq_self_iff_true, Bool.true_eq_false, Bool.false_eq_true, s1, this]
        rfl
      | succ k ih =>
        intro j hj
        refine v_X11_asksSighted_52.e X e _ _ I L _ ?_
        simp (disch := omega) only [a_bi_i, a_bv_n, a_bl_l, a_bq_q, l_0, l_1, l_2, l_3, l_4, l_5, l_6, l_7, l_8, l_9, l_10, l_12, l_16, l_20, l_24, l_25, l_31, l_32, l_33, l_40, l_48, l_57, l_60, l_63, l_64, l_78, l_85, l_97, l_99, l_100, l_122, l_255, l_325, l_700, l_999, l_1000, l_1200, l_99999, l_100000, l_1000000, l_2000000000, l_N, n_add, n_mul, n_lt, n_out, n_div, n_dm, n_eq, n_toN, n_inN, n_ltN, n_nltN, n_neN, Nat.not_lt_zero, false_or, or_false, ite_y, ite_n, if_true, if_false, ite_tt, ite_ff, b_0, b_1, eq_self_iff_true, Bool.true_eq_false, Bool.false_eq_true, s1, m_numberAt, s4, m_isMinuteL h v, m_isCoachL h v]
        rw [fndF]
        unfold okPr
        cases c1 : inL (g (2 * j)) 0 ((w 1 : Int) - 1) with
        | false => simp only [if_true, Bool.false_and, Bool.not_false]; rfl
        | true =>
          cases c2 : inL (g (2 * j + 1)) 0 ((w 0 : Int) - 1) with
          | false => simp only [if_true, Bool.true_eq_false, if_false, Bool.and_false, Bool.not_false]; rfl
          | true =>
            simp only [if_true, Bool.true_eq_false, Bool.false_eq_true, if_false, Bool.and_self, Bool.not_true]
            exact ih (j + 1) (by omega)
    have e5 := h 5 (by decide)
    simp (disch := omega) only [a_bi_i, a_bv_n, a_bl_l, a_bq_q, l_0, l_1, l_2, l_3, l_4, l_5, l_6, l_7, l_8, l_9, l_10, l_12, l_16, l_20, l_24, l_25, l_31, l_32, l_33, l_40, l_48, l_57, l_60, l_63, l_64, l_78, l_85, l_97, l_99, l_100, l_122, l_255, l_325, l_700, l_999, l_1000, l_1200, l_99999, l_100000, l_1000000, l_2000000000, l_N, n_add, n_mul, n_lt, n_out, n_div, n_dm, n_eq, n_toN, n_inN, n_ltN, n_nltN, n_neN, Nat.not_lt_zero, false_or, or_false, ite_y, ite_n, if_true, if_false, ite_tt, ite_ff, b_0, b_1, eq_self_iff_true, Bool.true_eq_false, Bool.false_eq_true, m_isSlot, hi4, e5, n5, s1, n10, h2]
    have := key (n / 2) 0 (by omega)
    unfold siO
    rw [decide_eq_true h2, Bool.true_and]
    exact this
  · have e5 := h 5 (by decide)
    simp (disch := omega) only [a_bi_i, a_bv_n, a_bl_l, a_bq_q, l_0, l_1, l_2, l_3, l_4, l_5, l_6, l_7, l_8, l_9, l_10, l_12, l_16, l_20, l_24, l_25, l_31, l_32, l_33, l_40, l_48, l_57, l_60, l_63, l_64, l_78, l_85, l_97, l_99, l_100, l_122, l_255, l_325, l_700, l_999, l_1000, l_1200, l_99999, l_100000, l_1000000, l_2000000000, l_N, n_add, n_mul, n_lt, n_out, n_div, n_dm, n_eq, n_toN, n_inN, n_ltN, n_nltN, n_neN, Nat.not_lt_zero, false_or, or_false, ite_y, ite_n, if_true, if_false, ite_tt, ite_ff, b_0, b_1, eq_self_iff_true, Bool.true_eq_false, Bool.false_eq_true, m_isSlot, hi4, e5, n5, s1, n10, h2]
    unfold siO
    rw [decide_eq_false h2, Bool.false_and]
    rfl
end
