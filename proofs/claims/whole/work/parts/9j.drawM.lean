/-! a trip drawn: the reference -/
section
variable {X : AX} {d : Nat} {I J : A3 Int32} {L : A3 Int64} {w : TW}
theorem rm2 (v : Vw w) {r : Nat} (hr : r < w 6) (m : Nat) : rmP (trp w r m) < 16 := rmP_lt (trp8 v hr m)
/-- all rides, laid out -/
def PA (I : A3 Int32) (w : TW) : Prop := ∀ r, r < w 6 → ∀ m, m < w 1 → I 57 0 (40 * r + m) = nI (rmP (trp w r m))
theorem m_isHadDrawn {r k m : Nat} {b : Bool} (h : TM I w) (v : Vw w) (hP : PM I (w 1) (w 5) (psA w) (knA w)) (hA : PA I w) (hr : r < w 6) (hk : k < w 5) (hm : m < w 1) (hd : 2 ≤ d) : K_X11_isHadDrawn X d (nI r) (nI k) (nI m) (bI b) (I, L, ()) = some (some (aI (bI (if (trp w r m).2 = true then decide (psA w k m = some (trp w r m).1) && b else metM (psA w) (knA w) (w (49 + 5 * r)) (trp w r) k m))), (I, L, ())) := by
  obtain ⟨e, rfl⟩ : ∃ e, d = e + 1 := ⟨d - 1, by omega⟩
  obtain ⟨⟨w0, w1, -, -, -, w5, w6, -⟩, -, vc, vi, vr, -⟩ := id v
  have q8 : ∀ m z, psA w k m = some z → z < 1000 := fun m z hz => by have := psA_8 v hk m z hz; omega
  have t8 := trp8 v hr
  have t8m := t8 m
  have t8n := t8 (m - 1)
  have e57 := hA r hr m hm
  have hrm := rm2 v hr m
  have hrm1 := rm2 v hr (m - 1)
  have vru := (vr r hr).2.1
  refine K_X11_isHadDrawn.e X e _ _ _ _ I L _ ?_
  simp (disch := omega) only [a_bi_i, a_bv_n, a_bl_l, a_bq_q, l_0, l_1, l_2, l_3, l_4, l_5, l_6, l_7, l_8, l_9, l_10, l_12, l_16, l_20, l_24, l_25, l_31, l_32, l_33, l_40, l_48, l_57, l_60, l_63, l_64, l_78, l_85, l_97, l_99, l_100, l_122, l_255, l_325, l_700, l_999, l_1000, l_1200, l_99999, l_100000, l_1000000, l_2000000000, l_N, n_add, n_mul, n_lt, n_out, n_div, n_dm, n_eq, n_toN, n_inN, n_ltN, n_nltN, n_neN, Nat.not_lt_zero, false_or, or_false, ite_y, ite_n, if_true, if_false, ite_tt, ite_ff, b_0, b_1, eq_self_iff_true, Bool.true_eq_false, Bool.false_eq_true, e57, m_posOf hP hk hm w5 w1, rmP_div, rmd, oI_eq (q8 m) (show (trp w r m).1 < 1000 by omega)]
  by_cases h1 : psA w k m = some (trp w r m).1
  · rw [if_pos h1]
    cases hl : (trp w r m).2 with
    | true =>
      simp (disch := omega) only [if_true, n_eq, Nat.succ_ne_zero, if_false, h1, decide_true, Bool.true_and]
      cases b <;> rfl
    | false =>
      simp only [Bool.false_eq_true, if_false, if_true]
      unfold metM
      rw [hl, h1]
      simp only [decide_true, Bool.not_false, Bool.true_or, Bool.true_and]
      rfl
  · rw [if_neg h1]
    have target : ∀ c, (metM (psA w) (knA w) (w (49 + 5 * r)) (trp w r) k m = c) → ((trp w r m).2 = true → c = false) → (if (trp w r m).2 = true then decide (psA w k m = some (trp w r m).1) && b else metM (psA w) (knA w) (w (49 + 5 * r)) (trp w r) k m) = c := fun c hc hl => by
      split
      · rw [decide_eq_false h1, Bool.false_and]
        exact (hl (by assumption)).symm
      · exact hc
    have hmet : metM (psA w) (knA w) (w (49 + 5 * r)) (trp w r) k m = (decide (0 < m ∧ w (49 + 5 * r) = 1 ∧ (trp w r (m - 1)).1 ≠ (trp w r m).1) && (decide (psA w k (m - 1) = some (trp w r m).1) && decide (psA w k m = some (trp w r (m - 1)).1))) := by
      unfold metM
      rw [decide_eq_false h1, Bool.false_and, Bool.false_or]
    have hl1 : (trp w r m).2 = true → w (49 + 5 * r) = 2 := fun hl => ((plc_ok v hr m).2 hl).1
    by_cases h0 : m = 0
    · rw [target false (by rw [hmet]; simp [h0]) (fun _ => rfl)]
      simp only [h0, if_true]
      rfl
    · rw [if_neg h0]
      simp (disch := omega) only [a_bi_i, a_bv_n, a_bl_l, a_bq_q, l_0, l_1, l_2, l_3, l_4, l_5, l_6, l_7, l_8, l_9, l_10, l_12, l_16, l_20, l_24, l_25, l_31, l_32, l_33, l_40, l_48, l_57, l_60, l_63, l_64, l_78, l_85, l_97, l_99, l_100, l_122, l_255, l_325, l_700, l_999, l_1000, l_1200, l_99999, l_100000, l_1000000, l_2000000000, l_N, n_add, n_mul, n_lt, n_out, n_div, n_dm, n_eq, n_toN, n_inN, n_ltN, n_nltN, n_neN, Nat.not_lt_zero, false_or, or_false, ite_y, ite_n, if_true, if_false, ite_tt, ite_ff, b_0, b_1, eq_self_iff_true, Bool.true_eq_false, Bool.false_eq_true, m_or1 h v]
      by_cases hru : w (49 + 5 * r) = 1
      · have e57' := hA r hr (m - 1) (by omega)
        have e40 : 40 * r + m - 1 = 40 * r + (m - 1) := by omega
        rw [if_pos hru]
        simp (disch := omega) only [n_sub, e40, a_bi_i, a_bv_n, a_bl_l, a_bq_q, l_0, l_1, l_2, l_3, l_4, l_5, l_6, l_7, l_8, l_9, l_10, l_12, l_16, l_20, l_24, l_25, l_31, l_32, l_33, l_40, l_48, l_57, l_60, l_63, l_64, l_78, l_85, l_97, l_99, l_100, l_122, l_255, l_325, l_700, l_999, l_1000, l_1200, l_99999, l_100000, l_1000000, l_2000000000, l_N, n_add, n_mul, n_lt, n_out, n_div, n_dm, n_eq, n_toN, n_inN, n_ltN, n_nltN, n_neN, Nat.not_lt_zero, false_or, or_false, ite_y, ite_n, if_true, if_false, ite_tt, ite_ff, b_0, b_1, eq_self_iff_true, Bool.true_eq_false, Bool.false_eq_true, e57', rmP_div, m_posOf hP hk (show m - 1 < w 1 by omega) w5 w1, m_posOf hP hk hm w5 w1, oI_eq (q8 (m - 1)) (show (trp w r m).1 < 1000 by omega), oI_eq (q8 m) (show (trp w r (m - 1)).1 < 1000 by omega)]
        have hl2 : (trp w r m).2 = false := by
          cases hl : (trp w r m).2 with
          | false => rfl
          | true => have := hl1 hl; omega
        rw [target _ hmet (fun z => by rw [hl2] at z; cases z)]
        by_cases c1 : (trp w r (m - 1)).1 = (trp w r m).1
        · rw [if_pos c1]; simp [c1]; rfl
        · rw [if_neg c1]
          have : decide (0 < m ∧ w (49 + 5 * r) = 1 ∧ (trp w r (m - 1)).1 ≠ (trp w r m).1) = true := decide_eq_true ⟨by omega, hru, c1⟩
          rw [this, Bool.true_and]
          by_cases c2 : psA w k (m - 1) = some (trp w r m).1
          · rw [if_pos c2, decide_eq_true c2, Bool.true_and]
            by_cases c3 : psA w k m = some (trp w r (m - 1)).1
            · rw [if_pos c3, decide_eq_true c3]; rfl
            · rw [if_neg c3, decide_eq_false c3]; rfl
          · rw [if_neg c2, decide_eq_false c2]; rfl
      · rw [if_neg hru, target false (by rw [hmet]; simp [hru]) (fun _ => rfl)]
        rfl
/-- what the minute told so far makes of the first minute -/
def orE (o : Option Nat) (b : Bool) (m : Nat) : Option Nat := match o with
  | some x => some x
  | none => if b = true then some m else none
/-- the reference's state over the minutes -/
def DS (I0 I : A3 Int32) (w : TW) (f : Nat → Option Nat) : Prop := Fm [58] I0 I ∧ ∀ r, r < w 6 → I 58 0 r = oI (f r)
theorem DS.put {I0 : A3 Int32} {f : Nat → Option Nat} {r : Nat} {o : Option Nat} (h : DS I0 I w f) : DS I0 (up3 I 58 0 r (oI o)) w (fun j => if j = r then o else f j) := ⟨h.1.up (by decide), fun j hj => by
  by_cases e : j = r
  · subst e; show _ = oI (if j = j then o else f j); rw [u3_eq, if_pos rfl]
  · show _ = oI (if j = r then o else f j); rw [u3_j _ _ e, if_neg e]; exact h.2 j hj⟩
theorem DS.cg {I0 : A3 Int32} {f f' : Nat → Option Nat} (h : DS I0 I w f) (e : ∀ r, r < w 6 → f' r = f r) : DS I0 I w f' := ⟨h.1, fun r hr => by rw [e r hr]; exact h.2 r hr⟩
theorem m_240 {I0 : A3 Int32} {f : Nat → Option Nat} {r k m x : Nat} {b : Bool} (h : TM I0 w) (v : Vw w) (hP : PM I0 (w 1) (w 5) (psA w) (knA w)) (hA : PA I0 w) (hr : r < w 6) (hk : k < w 5) (hm : m < w 1) (hd : 2 ≤ d) (hf : ∀ r y, f r = some y → y < 1000) (hS : DS I0 I w f) : ∃ J, DS I0 J w (fun j => if j = r then orE (f r) (if (trp w r m).2 = true then decide (psA w k m = some (trp w r m).1) && b else metM (psA w) (knA w) (w (49 + 5 * r)) (trp w r) k m) m else f j) ∧ OLe (v_X11_goDrawn_116 X d (qL x) (nI m) (nI r) (nI (k + 1)) (J, L, ())) (v_X11_goDrawn_240 X d (qL x) (nI m) (nI r) (nI k) (bI b) (I, L, ())) := by
  obtain ⟨⟨w0, w1, -, -, -, w5, w6, -⟩, -⟩ := id v
  have t1 : TM I w := h.fm hS.1 (by decide)
  have p1 : PM I (w 1) (w 5) (psA w) (knA w) := by
    unfold PM; rw [hS.1 40 (by decide), hS.1 47 (by decide), hS.1 48 (by decide)]; exact hP
  have a1 : PA I w := by unfold PA; rw [hS.1 57 (by decide)]; exact hA
  have c1 := m_isHadDrawn (X := X) (d := d) (L := L) (b := b) t1 v p1 a1 hr hk hm hd
  generalize (if (trp w r m).2 = true then decide (psA w k m = some (trp w r m).1) && b else metM (psA w) (knA w) (w (49 + 5 * r)) (trp w r) k m) = hit at c1 ⊢
  have st : ∀ (K : A3 Int32) s, v_X11_goDrawn_116 X d (qL x) (nI m) (nI r) (nI (k + 1)) (K, L, ()) = some s → v_X11_goDrawn_275 X d (qL x) (nI m) (nI r) (nI k) (K, L, ()) = some s := fun K s hs => by
    refine v_X11_goDrawn_275.e X d _ _ _ _ K L s ?_
    rw [l_1, n_add]; exact hs
  have e58 := hS.2 r hr
  have nn := oI_none (o := f r) (hf r)
  cases hit with
  | false =>
    refine ⟨I, hS.cg (fun j hj => ?_), fun s hs => v_X11_goDrawn_240.e X d _ _ _ _ _ I L s ?_⟩
    · by_cases e : j = r
      · subst e; rw [if_pos rfl]; unfold orE; cases f j <;> rfl
      · rw [if_neg e]
    · simp (disch := omega) only [a_bi_i, a_bv_n, a_bl_l, a_bq_q, l_0, l_1, l_2, l_3, l_4, l_5, l_6, l_7, l_8, l_9, l_10, l_12, l_16, l_20, l_24, l_25, l_31, l_32, l_33, l_40, l_48, l_57, l_60, l_63, l_64, l_78, l_85, l_97, l_99, l_100, l_122, l_255, l_325, l_700, l_999, l_1000, l_1200, l_99999, l_100000, l_1000000, l_2000000000, l_N, n_add, n_mul, n_lt, n_out, n_div, n_dm, n_eq, n_toN, n_inN, n_ltN, n_nltN, n_neN, Nat.not_lt_zero, false_or, or_false, ite_y, ite_n, if_true, if_false, ite_tt, ite_ff, b_0, b_1, eq_self_iff_true, Bool.true_eq_false, Bool.false_eq_true, c1]
      exact st I s hs
  | true =>
    cases hfr : f r with
    | some y =>
      refine ⟨I, hS.cg (fun j hj => ?_), fun s hs => v_X11_goDrawn_240.e X d _ _ _ _ _ I L s ?_⟩
      · by_cases e : j = r
        · subst e; rw [if_pos rfl, hfr]; rfl
        · rw [if_neg e]
      · rw [hfr] at nn e58
        have : ¬ (oI (some y) = nN) := fun z => by cases nn.mp z
        simp (disch := omega) only [a_bi_i, a_bv_n, a_bl_l, a_bq_q, l_0, l_1, l_2, l_3, l_4, l_5, l_6, l_7, l_8, l_9, l_10, l_12, l_16, l_20, l_24, l_25, l_31, l_32, l_33, l_40, l_48, l_57, l_60, l_63, l_64, l_78, l_85, l_97, l_99, l_100, l_122, l_255, l_325, l_700, l_999, l_1000, l_1200, l_99999, l_100000, l_1000000, l_2000000000, l_N, n_add, n_mul, n_lt, n_out, n_div, n_dm, n_eq, n_toN, n_inN, n_ltN, n_nltN, n_neN, Nat.not_lt_zero, false_or, or_false, ite_y, ite_n, if_true, if_false, ite_tt, ite_ff, b_0, b_1, eq_self_iff_true, Bool.true_eq_false, Bool.false_eq_true, c1, e58, this]
        exact st I s hs
    | none =>
      refine ⟨up3 I 58 0 r (oI (some m)), hS.put.cg (fun j hj => ?_), fun s hs => v_X11_goDrawn_240.e X d _ _ _ _ _ I L s ?_⟩
      · by_cases e : j = r
        · subst e; rw [if_pos rfl, if_pos rfl]; rfl
        · rw [if_neg e, if_neg e]
      · rw [hfr] at e58
        have e58' : I 58 0 r = nN := e58
        simp (disch := omega) only [a_bi_i, a_bv_n, a_bl_l, a_bq_q, l_0, l_1, l_2, l_3, l_4, l_5, l_6, l_7, l_8, l_9, l_10, l_12, l_16, l_20, l_24, l_25, l_31, l_32, l_33, l_40, l_48, l_57, l_60, l_63, l_64, l_78, l_85, l_97, l_99, l_100, l_122, l_255, l_325, l_700, l_999, l_1000, l_1200, l_99999, l_100000, l_1000000, l_2000000000, l_N, n_add, n_mul, n_lt, n_out, n_div, n_dm, n_eq, n_toN, n_inN, n_ltN, n_nltN, n_neN, Nat.not_lt_zero, false_or, or_false, ite_y, ite_n, if_true, if_false, ite_tt, ite_ff, b_0, b_1, eq_self_iff_true, Bool.true_eq_false, Bool.false_eq_true, c1, e58']
        exact st _ s hs
end
