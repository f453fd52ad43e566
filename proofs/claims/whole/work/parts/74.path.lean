/-! path -/
section
variable {X : AX} {d : Nat} {I J : A3 Int32} {L : A3 Int64} {w : TW} {N : Nat} {ps : Nat → Nat → Option Nat} {kn : Nat → Nat} {lo dr : Nat → Bool}
def lst (w : TW) (N : Nat) (ps : Nat → Nat → Option Nat) (kn : Nat → Nat) (lo dr : Nat → Bool) (m : Nat) (p : Pl) : Nat := (fnd 12 (goS w N ps kn lo dr (w 1 - 2 - m) m p)).getD 0
def pthP (w : TW) (N : Nat) (ps : Nat → Nat → Option Nat) (kn : Nat → Nat) (lo dr : Nat → Bool) (a : Nat) : Nat → Pl
  | 0 => (a, false)
  | m + 1 => (stp w lo dr m (pthP w N ps kn lo dr a m) (lst w N ps kn lo dr m (pthP w N ps kn lo dr a m))).getD (0, false)
def pthS (w : TW) (N : Nat) (ps : Nat → Nat → Option Nat) (kn : Nat → Nat) (lo dr : Nat → Bool) (a : Nat) : Nat → Nat
  | 0 => 0
  | m + 1 => lst w N ps kn lo dr m (pthP w N ps kn lo dr a m)
theorem go_ex {m : Nat} {p : Pl} (hm : m + 1 < w 1) (hc : (fil w N ps kn lo dr (w 1 - 1 - m) p).1 = true) : ∃ s q, s < 12 ∧ fnd 12 (goS w N ps kn lo dr (w 1 - 2 - m) m p) = some s ∧ lst w N ps kn lo dr m p = s ∧ goS w N ps kn lo dr (w 1 - 2 - m) m p s = true ∧ (∀ y, y < s → goS w N ps kn lo dr (w 1 - 2 - m) m p y = false) ∧ stp w lo dr m p s = some q ∧ fre w N ps kn lo dr m p s = true ∧ (fil w N ps kn lo dr (w 1 - 1 - (m + 1)) q).1 = true := by
  rw [show w 1 - 1 - m = (w 1 - 2 - m) + 1 by omega, fil_succ (by omega), show w 1 - 2 - (w 1 - 2 - m) = m by omega] at hc
  have he := (Bool.and_eq_true_iff.mp hc).2
  cases hf : fnd 12 (goS w N ps kn lo dr (w 1 - 2 - m) m p) with
  | none =>
    exfalso
    have h1 := exb_no.mpr (fnd_none hf)
    rw [h1] at he; cases he
  | some s =>
    obtain ⟨h1, h2, h3⟩ := fnd_some hf
    have h4 := h2
    unfold goS at h4
    cases hq : stp w lo dr m p s with
    | none => rw [hq] at h4; cases h4
    | some q =>
      rw [hq] at h4
      obtain ⟨h5, h6⟩ := Bool.and_eq_true_iff.mp h4
      rw [show w 1 - 2 - m = w 1 - 1 - (m + 1) by omega] at h6
      exact ⟨s, q, h1, rfl, by unfold lst; rw [hf]; rfl, h2, h3, hq, h5, h6⟩
theorem pth_can {a : Nat} (ha : a < w 0) (hc : (fil w N ps kn lo dr (w 1 - 1) (a, false)).1 = true) : ∀ m, m < w 1 → (pthP w N ps kn lo dr a m).1 < w 0 ∧ (fil w N ps kn lo dr (w 1 - 1 - m) (pthP w N ps kn lo dr a m)).1 = true := by
  intro m
  induction m with
  | zero => intro _; exact ⟨ha, hc⟩
  | succ m ih =>
    intro hm
    obtain ⟨i1, i2⟩ := ih (by omega)
    obtain ⟨s, q, z1, z2, z3, z4, z5, z6, z7, z8⟩ := go_ex hm i2
    have : pthP w N ps kn lo dr a (m + 1) = q := by
      show (stp w lo dr m _ (lst w N ps kn lo dr m _)).getD (0, false) = q
      rw [z3, z6]; rfl
    rw [this]
    exact ⟨stp_in i1 z6, z8⟩
theorem c_leastStep {q m : Nat} {p : Pl} (h : TC I w) (v : Vw w) (hf : CF I q (w 1) (w 0) lo dr) (hC : CA I q (w 1) N ps kn) (hS : SO I q w N ps kn lo dr) (hp : p.1 < w 0) (hm : m + 1 < w 1) (hc : (fil w N ps kn lo dr (w 1 - 1 - m) p).1 = true) (hd : 5 ≤ d) : K_X0_leastStep X d q (nI (cP p)) (nI m) (I, L, ()) = some (some (aI (nI (lst w N ps kn lo dr m p))), (I, L, ())) := by
  obtain ⟨e, rfl⟩ : ∃ e, d = e + 1 := ⟨d - 1, by omega⟩
  obtain ⟨⟨w0, w1, -⟩, -⟩ := id v
  obtain ⟨s, r, z1, z2, z3, z4, z5, z6, z7, z8⟩ := go_ex hm hc
  rw [z3]
  refine K_X0_leastStep.e X e _ _ _ I L _ ?_
  have hr0 := stp_in hp z6
  have hb : cP r < 16 := cP_lt (by omega)
  obtain ⟨u, -, g2⟩ := loop_z (F := fun k (_ : Unit) => v_X0_leastStep_2 X e q (nI (cP p)) (nI m) (nI k) (I, L, ())) (P := fun _ _ => True) s () trivial (fun k _ hk _ => by
    refine ⟨(), trivial, fun r hr => ?_⟩
    refine v_X0_leastStep_2.e X e _ _ _ _ I L r ?_
    have hg : gol w N ps kn lo dr m p k = none := by unfold gol; rw [z5 k hk, if_neg (by decide)]
    simp (disch := omega) only [a_bi_i, a_bv_n, a_bl_l, a_bq_q, l_0, l_1, l_2, l_3, l_4, l_5, l_6, l_7, l_8, l_9, l_10, l_12, l_16, l_20, l_24, l_25, l_31, l_32, l_33, l_40, l_48, l_57, l_60, l_63, l_64, l_78, l_85, l_97, l_99, l_100, l_122, l_255, l_325, l_700, l_999, l_1000, l_1200, l_99999, l_100000, l_1000000, l_2000000000, l_N, n_add, n_mul, n_lt, n_out, n_div, n_dm, n_eq, n_toN, n_inN, n_ltN, n_nltN, n_neN, Nat.not_lt_zero, false_or, or_false, ite_y, ite_n, if_true, if_false, ite_tt, ite_ff, b_0, b_1, eq_self_iff_true, Bool.true_eq_false, Bool.false_eq_true, c_goal h v hf hC hS hp hm (show k < 12 by omega), hg, Option.map, oI_Z]
    exact hr)
  refine g2 _ (v_X0_leastStep_2.e X e _ _ _ _ I L _ ?_)
  have hg : gol w N ps kn lo dr m p s = some r := by unfold gol; rw [z4, if_pos rfl, z6]
  simp (disch := omega) only [a_bi_i, a_bv_n, a_bl_l, a_bq_q, l_0, l_1, l_2, l_3, l_4, l_5, l_6, l_7, l_8, l_9, l_10, l_12, l_16, l_20, l_24, l_25, l_31, l_32, l_33, l_40, l_48, l_57, l_60, l_63, l_64, l_78, l_85, l_97, l_99, l_100, l_122, l_255, l_325, l_700, l_999, l_1000, l_1200, l_99999, l_100000, l_1000000, l_2000000000, l_N, n_add, n_mul, n_lt, n_out, n_div, n_dm, n_eq, n_toN, n_inN, n_ltN, n_nltN, n_neN, Nat.not_lt_zero, false_or, or_false, ite_y, ite_n, if_true, if_false, ite_tt, ite_ff, b_0, b_1, eq_self_iff_true, Bool.true_eq_false, Bool.false_eq_true, c_goal h v hf hC hS hp hm z1, hg, Option.map, oI_S]
theorem c_path {a k : Nat} (h : TC I w) (v : Vw w) (hf : CF I 0 (w 1) (w 0) lo dr) (hC : CA I 0 (w 1) N ps kn) (hS : SO I 0 w N ps kn lo dr) (ha : a < w 0) (hc : (fil w N ps kn lo dr (w 1 - 1) (a, false)).1 = true) (hk : k + 1 < w 1) (hd : 5 ≤ d) : v_X10_path_65 X d (nI k) (nI a) (nI 0) (nI 0) (I, L, ()) = some (some (aI (nI (pthS w N ps kn lo dr a (k + 1)))), (I, L, ())) := by
  obtain ⟨⟨w0, w1, -⟩, -⟩ := id v
  obtain ⟨u, -, g2⟩ := loop_z (F := fun m (_ : Unit) => v_X10_path_65 X d (nI k) (nI (cP (pthP w N ps kn lo dr a m))) (nI (pthS w N ps kn lo dr a m)) (nI m) (I, L, ())) (P := fun _ _ => True) (k + 1) () trivial (fun m _ hm _ => by
    refine ⟨(), trivial, fun r hr => ?_⟩
    refine v_X10_path_65.e X d _ _ _ _ I L r ?_
    obtain ⟨i1, i2⟩ := pth_can ha hc m (by omega)
    have hm1 : m + 1 < w 1 := by omega
    obtain ⟨s, q, z1, z2, z3, z4, z5, z6, z7, z8⟩ := go_ex hm1 i2
    have hg : gol w N ps kn lo dr m (pthP w N ps kn lo dr a m) s = some q := by unfold gol; rw [z4, if_pos rfl, z6]
    have e1 : pthP w N ps kn lo dr a (m + 1) = q := by
      show (stp w lo dr m _ (lst w N ps kn lo dr m _)).getD (0, false) = q
      rw [z3, z6]; rfl
    have e2 : pthS w N ps kn lo dr a (m + 1) = s := z3
    rw [e1, e2] at hr
    have hl := c_leastStep (X := X) (d := d) (L := L) h v hf hC hS i1 hm1 i2 hd
    rw [z3] at hl
    simp (disch := omega) only [a_bi_i, a_bv_n, a_bl_l, a_bq_q, l_0, l_1, l_2, l_3, l_4, l_5, l_6, l_7, l_8, l_9, l_10, l_12, l_16, l_20, l_24, l_25, l_31, l_32, l_33, l_40, l_48, l_57, l_60, l_63, l_64, l_78, l_85, l_97, l_99, l_100, l_122, l_255, l_325, l_700, l_999, l_1000, l_1200, l_99999, l_100000, l_1000000, l_2000000000, l_N, n_add, n_mul, n_lt, n_out, n_div, n_dm, n_eq, n_toN, n_inN, n_ltN, n_nltN, n_neN, Nat.not_lt_zero, false_or, or_false, ite_y, ite_n, if_true, if_false, ite_tt, ite_ff, b_0, b_1, eq_self_iff_true, Bool.true_eq_false, Bool.false_eq_true, hl, c_goal h v hf hC hS i1 hm1 z1, hg, Option.map, oI_S]
    exact hr)
  refine g2 _ (v_X10_path_65.e X d _ _ _ _ I L _ ?_)
  simp (disch := omega) only [a_bi_i, a_bv_n, a_bl_l, a_bq_q, l_0, l_1, l_2, l_3, l_4, l_5, l_6, l_7, l_8, l_9, l_10, l_12, l_16, l_20, l_24, l_25, l_31, l_32, l_33, l_40, l_48, l_57, l_60, l_63, l_64, l_78, l_85, l_97, l_99, l_100, l_122, l_255, l_325, l_700, l_999, l_1000, l_1200, l_99999, l_100000, l_1000000, l_2000000000, l_N, n_add, n_mul, n_lt, n_out, n_div, n_dm, n_eq, n_toN, n_inN, n_ltN, n_nltN, n_neN, Nat.not_lt_zero, false_or, or_false, ite_y, ite_n, if_true, if_false, ite_tt, ite_ff, b_0, b_1, eq_self_iff_true, Bool.true_eq_false, Bool.false_eq_true]
theorem m_path {a k : Nat} (h : TM I w) (v : Vw w) (hQ : QM I lo dr) (hP : PM I (w 1) N ps kn) (hn : N ≤ 3) (hps : ∀ k, k < N → ∀ m x, ps k m = some x → x < 8) (hkn : ∀ k, k < N → kn k ≤ 100) (hF : ∀ i, i < w 1 → FPm I w N ps kn lo dr i) (ha : a < w 0) (hc : (fil w N ps kn lo dr (w 1 - 1) (a, false)).1 = true) (hk : k + 1 < w 1) (hd : 4 ≤ d) : v_X11_path_55 X d (nI k) (nI (2 * a)) (nI 0) (nI 0) (I, L, ()) = some (some (aI (nI (pthS w N ps kn lo dr a (k + 1)))), (I, L, ())) := by
  obtain ⟨⟨w0, w1, -⟩, -⟩ := id v
  obtain ⟨u, -, g2⟩ := loop_z (F := fun m (_ : Unit) => v_X11_path_55 X d (nI k) (nI (rmP (pthP w N ps kn lo dr a m))) (nI (pthS w N ps kn lo dr a m)) (nI m) (I, L, ())) (P := fun _ _ => True) (k + 1) () trivial (fun m _ hm _ => by
    refine ⟨(), trivial, fun r hr => ?_⟩
    refine v_X11_path_55.e X d _ _ _ _ I L r ?_
    obtain ⟨i1, i2⟩ := pth_can ha hc m (by omega)
    have hm1 : m + 1 < w 1 := by omega
    obtain ⟨s, q, z1, z2, z3, z4, z5, z6, z7, z8⟩ := go_ex hm1 i2
    have e1 : pthP w N ps kn lo dr a (m + 1) = q := by
      show (stp w lo dr m _ (lst w N ps kn lo dr m _)).getD (0, false) = q
      rw [z3, z6]; rfl
    have e2 : pthS w N ps kn lo dr a (m + 1) = s := z3
    rw [e1, e2] at hr
    simp (disch := omega) only [a_bi_i, a_bv_n, a_bl_l, a_bq_q, l_0, l_1, l_2, l_3, l_4, l_5, l_6, l_7, l_8, l_9, l_10, l_12, l_16, l_20, l_24, l_25, l_31, l_32, l_33, l_40, l_48, l_57, l_60, l_63, l_64, l_78, l_85, l_97, l_99, l_100, l_122, l_255, l_325, l_700, l_999, l_1000, l_1200, l_99999, l_100000, l_1000000, l_2000000000, l_N, n_add, n_mul, n_lt, n_out, n_div, n_dm, n_eq, n_toN, n_inN, n_ltN, n_nltN, n_neN, Nat.not_lt_zero, false_or, or_false, ite_y, ite_n, if_true, if_false, ite_tt, ite_ff, b_0, b_1, eq_self_iff_true, Bool.true_eq_false, Bool.false_eq_true]
    generalize pthP w N ps kn lo dr a m = p at *
    have cell : ∀ q' : Pl, q'.1 < w 0 → I 49 0 (16 * (m + 1) + rmP q') = bI (fil w N ps kn lo dr (w 1 - 2 - m) q').1 := fun q' hq' => by
      have := (hF (w 1 - 2 - m) (by omega) q' hq').1
      rwa [show w 1 - 1 - (w 1 - 2 - m) = m + 1 by omega] at this
    have hb0 : rmP p < 16 := rmP_lt (by omega)
    obtain ⟨u2, -, g3⟩ := loop_z (F := fun t (_ : Unit) => v_X11_path_64 X d (nI k) (nI (rmP p)) (nI t) (nI m) (I, L, ())) (P := fun _ _ => True) s () trivial (fun t _ ht _ => by
      refine ⟨(), trivial, fun r hr => ?_⟩
      refine v_X11_path_64.e X d _ _ _ _ I L r ?_
      have ht12 : t < 12 := by omega
      have hg := z5 t ht
      cases hfr : fre w N ps kn lo dr m p t with
      | false =>
        simp (disch := omega) only [a_bi_i, a_bv_n, a_bl_l, a_bq_q, l_0, l_1, l_2, l_3, l_4, l_5, l_6, l_7, l_8, l_9, l_10, l_12, l_16, l_20, l_24, l_25, l_31, l_32, l_33, l_40, l_48, l_57, l_60, l_63, l_64, l_78, l_85, l_97, l_99, l_100, l_122, l_255, l_325, l_700, l_999, l_1000, l_1200, l_99999, l_100000, l_1000000, l_2000000000, l_N, n_add, n_mul, n_lt, n_out, n_div, n_dm, n_eq, n_toN, n_inN, n_ltN, n_nltN, n_neN, Nat.not_lt_zero, false_or, or_false, ite_y, ite_n, if_true, if_false, ite_tt, ite_ff, b_0, b_1, eq_self_iff_true, Bool.true_eq_false, Bool.false_eq_true, m_isFreeStep h v hQ hP hn hps hkn i1 hm1 ht12, hfr]
        exact hr
      | true =>
        unfold goS at hg
        cases hq : stp w lo dr m p t with
        | none => unfold fre at hfr; rw [hq] at hfr; cases hfr
        | some q' =>
          rw [hq, hfr] at hg
          have hg' : (fil w N ps kn lo dr (w 1 - 2 - m) q').1 = false := by simpa using hg
          have hq0 := stp_in i1 hq
          have hb : rmP q' < 16 := rmP_lt (by omega)
          simp (disch := omega) only [a_bi_i, a_bv_n, a_bl_l, a_bq_q, l_0, l_1, l_2, l_3, l_4, l_5, l_6, l_7, l_8, l_9, l_10, l_12, l_16, l_20, l_24, l_25, l_31, l_32, l_33, l_40, l_48, l_57, l_60, l_63, l_64, l_78, l_85, l_97, l_99, l_100, l_122, l_255, l_325, l_700, l_999, l_1000, l_1200, l_99999, l_100000, l_1000000, l_2000000000, l_N, n_add, n_mul, n_lt, n_out, n_div, n_dm, n_eq, n_toN, n_inN, n_ltN, n_nltN, n_neN, Nat.not_lt_zero, false_or, or_false, ite_y, ite_n, if_true, if_false, ite_tt, ite_ff, b_0, b_1, eq_self_iff_true, Bool.true_eq_false, Bool.false_eq_true, m_isFreeStep h v hQ hP hn hps hkn i1 hm1 ht12, hfr, m_stepped h v hQ i1 (show m < w 1 by omega) ht12, hq, Option.map, oI_S, cell q' hq0, hg']
          exact hr)
    refine g3 _ (v_X11_path_64.e X d _ _ _ _ I L _ ?_)
    have hq0 := stp_in i1 z6
    have hb : rmP q < 16 := rmP_lt (by omega)
    rw [show w 1 - 1 - (m + 1) = w 1 - 2 - m by omega] at z8
    simp (disch := omega) only [a_bi_i, a_bv_n, a_bl_l, a_bq_q, l_0, l_1, l_2, l_3, l_4, l_5, l_6, l_7, l_8, l_9, l_10, l_12, l_16, l_20, l_24, l_25, l_31, l_32, l_33, l_40, l_48, l_57, l_60, l_63, l_64, l_78, l_85, l_97, l_99, l_100, l_122, l_255, l_325, l_700, l_999, l_1000, l_1200, l_99999, l_100000, l_1000000, l_2000000000, l_N, n_add, n_mul, n_lt, n_out, n_div, n_dm, n_eq, n_toN, n_inN, n_ltN, n_nltN, n_neN, Nat.not_lt_zero, false_or, or_false, ite_y, ite_n, if_true, if_false, ite_tt, ite_ff, b_0, b_1, eq_self_iff_true, Bool.true_eq_false, Bool.false_eq_true, m_isFreeStep h v hQ hP hn hps hkn i1 hm1 z1, z7, m_stepped h v hQ i1 (show m < w 1 by omega) z1, z6, Option.map, oI_S, cell q hq0, z8]
    exact hr)
  have g3 := g2 (some (aI (nI (pthS w N ps kn lo dr a (k + 1)))), (I, L, ())) (v_X11_path_55.e X d _ _ _ _ I L _ (by simp (disch := omega) only [a_bi_i, a_bv_n, a_bl_l, a_bq_q, l_0, l_1, l_2, l_3, l_4, l_5, l_6, l_7, l_8, l_9, l_10, l_12, l_16, l_20, l_24, l_25, l_31, l_32, l_33, l_40, l_48, l_57, l_60, l_63, l_64, l_78, l_85, l_97, l_99, l_100, l_122, l_255, l_325, l_700, l_999, l_1000, l_1200, l_99999, l_100000, l_1000000, l_2000000000, l_N, n_add, n_mul, n_lt, n_out, n_div, n_dm, n_eq, n_toN, n_inN, n_ltN, n_nltN, n_neN, Nat.not_lt_zero, false_or, or_false, ite_y, ite_n, if_true, if_false, ite_tt, ite_ff, b_0, b_1, eq_self_iff_true, Bool.true_eq_false, Bool.false_eq_true]))
  exact g3
theorem q_path (h : TC I w) (v : Vw w) (a b : Int32) : Both w (K_X10_path X 15 a b) (K_X11_path X 15 a b) I L := by
  obtain ⟨⟨h0, h1, h2, h3, h4, h5, h6, -⟩, -, vc, -⟩ := id v
  cases ha : inr a (w 0) with
  | false =>
    refine Both.pure (-2) (K_X10_path.e X 14 a b I L _ ?_) (fun J L2 h => K_X11_path.e X 14 a b J L2 _ ?_)
    · simp (disch := omega) only [c_hasCoach h v, ha, a_bi_i, a_bv_n, a_bl_l, a_bq_q, l_0, l_1, l_2, l_3, l_4, l_5, l_6, l_7, l_8, l_9, l_10, l_12, l_16, l_20, l_24, l_25, l_31, l_32, l_33, l_40, l_48, l_57, l_60, l_63, l_64, l_78, l_85, l_97, l_99, l_100, l_122, l_255, l_325, l_700, l_999, l_1000, l_1200, l_99999, l_100000, l_1000000, l_2000000000, l_N, n_add, n_mul, n_lt, n_out, n_div, n_dm, n_eq, n_toN, n_inN, n_ltN, n_nltN, n_neN, Nat.not_lt_zero, false_or, or_false, ite_y, ite_n, if_true, if_false, ite_tt, ite_ff, b_0, b_1, eq_self_iff_true, Bool.true_eq_false, Bool.false_eq_true]
    · simp (disch := omega) only [m_isCoach h v, ha, a_bi_i, a_bv_n, a_bl_l, a_bq_q, l_0, l_1, l_2, l_3, l_4, l_5, l_6, l_7, l_8, l_9, l_10, l_12, l_16, l_20, l_24, l_25, l_31, l_32, l_33, l_40, l_48, l_57, l_60, l_63, l_64, l_78, l_85, l_97, l_99, l_100, l_122, l_255, l_325, l_700, l_999, l_1000, l_1200, l_99999, l_100000, l_1000000, l_2000000000, l_N, n_add, n_mul, n_lt, n_out, n_div, n_dm, n_eq, n_toN, n_inN, n_ltN, n_nltN, n_neN, Nat.not_lt_zero, false_or, or_false, ite_y, ite_n, if_true, if_false, ite_tt, ite_ff, b_0, b_1, eq_self_iff_true, Bool.true_eq_false, Bool.false_eq_true]
  | true =>
    obtain ⟨c, hc, rfl⟩ := inr_ex (by omega) ha
    have hT : 0 < w 1 := (v.live (Or.inl (by omega))).2.2.1
    obtain ⟨J1, J, x, f1, f2, f3, f4, f5, f6, f7, f8⟩ := c_openSolve (X := X) (d := 14) (L := L) h v hT (by omega)
    have s1 : nI (w 1) - nI 1 = nI (w 1 - 1) := n_sub (by omega)
    have hM : ∀ M : A3 Int32, ∀ L2 : A3 Int64, K_X11_in X 14 b.toInt64 (0 : Int64) ((nI (w 1) - nI 2).toInt64) (M, L2, ()) = some (some (aI (bI (inr b (w 1 - 1)))), (M, L2, ())) := fun M L2 => by
      rw [m_in (by omega), inL_k (n := w 1 - 1) (by omega)]
      rw [Int32.toInt_toInt64]
      by_cases e : w 1 = 1
      · rw [e]; rfl
      · rw [n_sub (by omega), n_toInt (by omega)]; omega
    have hop : opF w (w 5) (psA w) (knA w) (loB w) (doB w) (w 1 - 1 - 0) c = (fil w (w 5) (psA w) (knA w) (loB w) (doB w) (w 1 - 1) (c, false)).1 := by unfold opF; rw [if_pos (by omega)]; rfl
    have hC2 : ∀ r, (if b < nI 0 then some (some (aI nN), (J, L, ())) else if b < nI (w 1 - 1) then (if (fil w (w 5) (psA w) (knA w) (loB w) (doB w) (w 1 - 1) (c, false)).1 = false then some (some (aI nN), (J, L, ())) else v_X10_path_65 X 14 b (nI c) (nI 0) (nI 0) (J, L, ())) else some (some (aI nN), (J, L, ()))) = some r → K_X10_path X 15 (nI c) b (I, L, ()) = some r := fun r hr => by
      refine K_X10_path.e X 14 _ b I L _ ?_
      simp (disch := omega) only [c_hasCoach h v, ha, f1, f2, c_minutes f4 v, s1, c_isOpen v f7 (show c < 16 by omega) hT, hop, a_bi_i, a_bv_n, a_bl_l, a_bq_q, l_0, l_1, l_2, l_3, l_4, l_5, l_6, l_7, l_8, l_9, l_10, l_12, l_16, l_20, l_24, l_25, l_31, l_32, l_33, l_40, l_48, l_57, l_60, l_63, l_64, l_78, l_85, l_97, l_99, l_100, l_122, l_255, l_325, l_700, l_999, l_1000, l_1200, l_99999, l_100000, l_1000000, l_2000000000, l_N, n_add, n_mul, n_lt, n_out, n_div, n_dm, n_eq, n_toN, n_inN, n_ltN, n_nltN, n_neN, Nat.not_lt_zero, false_or, or_false, ite_y, ite_n, if_true, if_false, ite_tt, ite_ff, b_0, b_1, eq_self_iff_true, Bool.true_eq_false, Bool.false_eq_true]
      exact hr
    have hM2 : ∀ M L2, TM M w → ∃ M', Sm M M' ∧ TM M' w ∧ PM M' (w 1) (w 5) (psA w) (knA w) ∧ QM M' (loB w) (doB w) ∧ (∀ i, i < w 1 → FPm M' w (w 5) (psA w) (knA w) (loB w) (doB w) i) ∧ ∀ r, (if (fil w (w 5) (psA w) (knA w) (loB w) (doB w) (w 1 - 1) (c, false)).1 = false then some (some (aI nN), (M', L2, ())) else if inr b (w 1 - 1) = false then some (some (aI nN), (M', L2, ())) else v_X11_path_55 X 14 b (nI (2 * c)) (nI 0) (nI 0) (M', L2, ())) = some r → K_X11_path X 15 (nI c) b (M, L2, ()) = some r := fun M L2 hM' => by
      obtain ⟨M', g1, g2, g3, g4, g5, g6⟩ := m_fillAsItIs (X := X) (d := 14) (L := L2) hM' v hT (by omega)
      refine ⟨M', g2, g3, g4, g5, g6, fun r hr => ?_⟩
      have hc49 := (g6 (w 1 - 1) (by omega) (c, false) hc).1
      rw [show 16 * (w 1 - 1 - (w 1 - 1)) + rmP (c, false) = 2 * c by simp [rmP]] at hc49
      refine K_X11_path.e X 14 _ b M L2 _ ?_
      simp (disch := omega) only [m_isCoach hM' v, ha, g1, hc49, m_minutes g3 v, hM, a_bi_i, a_bv_n, a_bl_l, a_bq_q, l_0, l_1, l_2, l_3, l_4, l_5, l_6, l_7, l_8, l_9, l_10, l_12, l_16, l_20, l_24, l_25, l_31, l_32, l_33, l_40, l_48, l_57, l_60, l_63, l_64, l_78, l_85, l_97, l_99, l_100, l_122, l_255, l_325, l_700, l_999, l_1000, l_1200, l_99999, l_100000, l_1000000, l_2000000000, l_N, n_add, n_mul, n_lt, n_out, n_div, n_dm, n_eq, n_toN, n_inN, n_ltN, n_nltN, n_neN, Nat.not_lt_zero, false_or, or_false, ite_y, ite_n, if_true, if_false, ite_tt, ite_ff, b_0, b_1, eq_self_iff_true, Bool.true_eq_false, Bool.false_eq_true]
      exact hr
    cases hcan : (fil w (w 5) (psA w) (knA w) (loB w) (doB w) (w 1 - 1) (c, false)).1 with
    | false =>
      refine Both.mk nN J (hC2 _ ?_) f3 (fun M L2 hM' => ?_)
      · simp only [hcan, if_true, ite_self]
      · obtain ⟨M', m1, m2, m3, m4, m5, m6⟩ := hM2 M L2 hM'
        exact ⟨M', m6 _ (by simp only [hcan, if_true]), m1⟩
    | true =>
      cases hb : inr b (w 1 - 1) with
      | false =>
        refine Both.mk nN J (hC2 _ ?_) f3 (fun M L2 hM' => ?_)
        · rcases inr_no hb with q | q
          · rw [if_pos q]
          · rw [if_neg q]; simp only [ite_self]
        · obtain ⟨M', m1, m2, m3, m4, m5, m6⟩ := hM2 M L2 hM'
          exact ⟨M', m6 _ (by simp only [hcan, hb, if_true, Bool.true_eq_false, if_false]), m1⟩
      | true =>
        obtain ⟨k, hk, rfl⟩ := inr_ex (by omega) hb
        have hk1 : k + 1 < w 1 := by omega
        refine Both.mk (nI (pthS w (w 5) (psA w) (knA w) (loB w) (doB w) c (k + 1))) J (hC2 _ ?_) f3 (fun M L2 hM' => ?_)
        · simp (disch := omega) only [hcan, n_add, n_mul, n_lt, n_out, n_div, n_dm, n_eq, n_toN, n_inN, n_ltN, n_nltN, n_neN, Nat.not_lt_zero, false_or, or_false, ite_y, ite_n, if_true, if_false, ite_tt, ite_ff, b_0, b_1, eq_self_iff_true, Bool.true_eq_false, Bool.false_eq_true]
          exact c_path f4 v f5 f6 f7 hc hcan hk1 (by omega)
        · obtain ⟨M', m1, m2, m3, m4, m5, m6⟩ := hM2 M L2 hM'
          refine ⟨M', m6 _ ?_, m1⟩
          simp (disch := omega) only [hcan, hb, n_add, n_mul, n_lt, n_out, n_div, n_dm, n_eq, n_toN, n_inN, n_ltN, n_nltN, n_neN, Nat.not_lt_zero, false_or, or_false, ite_y, ite_n, if_true, if_false, ite_tt, ite_ff, b_0, b_1, eq_self_iff_true, Bool.true_eq_false, Bool.false_eq_true]
          exact m_path m2 v m4 m3 h5 (fun k hk => psA_lt v hk) (kn100 v) m5 hc hcan hk1 (by omega)
end
