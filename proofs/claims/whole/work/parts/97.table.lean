/-! the table: the class's marks -/
section
variable {X : AX} {d : Nat} {I J : A3 Int32} {L : A3 Int64} {w : TW}
def tbO (w : TW) (r rule b : Nat) : Option Nat := hadF (w 1) 1 (metM (psB w b) (knA w) rule (plc w 1 (psB w b) r rule))
def tbN (w : TW) (r rule b : Nat) : Nat := match tbO w r rule b with
  | some m => m
  | none => w 1
theorem tbO_lt {r rule b m : Nat} (h : tbO w r rule b = some m) : m < w 1 := hadF_lt h
theorem tbN_le {r rule b : Nat} : tbN w r rule b ≤ w 1 := by
  unfold tbN
  cases h : tbO w r rule b with
  | none => exact Nat.le_refl _
  | some m => exact Nat.le_of_lt (tbO_lt h)
theorem psB_w (v : Vw w) (h5 : 0 < w 5) {b : Nat} (hb : b < 2 * w 0) : ∀ i, i < 1 → ∀ m z, psB w b i m = some z → z < w 0 := fun i _ m z hz => crs_lt v h5 hb hz
theorem c_takeC {i a : Nat} (hd : 2 ≤ d) : K_X1_takeFrom X d i a (I, L, ()) = some (none, (upR I 14 i (va_cpy (I 14 a) (I 14 i) 0 0 40), L, ())) := by
  obtain ⟨e, rfl⟩ : ∃ e, d = e + 2 := ⟨d - 2, by omega⟩
  exact K_X1_takeFrom.e X e i a I L _ rfl
/-- only the rides, course 0 and the marks change -/
def FT (I J : A3 Int32) : Prop := ∀ f q, f ≠ 17 → f ≠ 18 → f ≠ 36 → (f ≠ 14 ∨ 0 < q) → J f q = I f q
theorem FT.refl : FT I I := fun _ _ _ _ _ _ => rfl
theorem FT.trans {K : A3 Int32} (h1 : FT I J) (h2 : FT J K) : FT I K := fun f q a b c e => (h2 f q a b c e).trans (h1 f q a b c e)
theorem FT.sc (h : FT I J) : Sc I J := fun f hf => funext fun q => h f q (fun z => hf (by rw [z]; decide)) (fun z => hf (by rw [z]; decide)) (fun z => hf (by rw [z]; decide)) (Or.inl (fun z => hf (by rw [z]; decide)))
theorem FT.up {t : Nat} {x : Int32} (h : FT I J) : FT I (up3 J 36 0 t x) := fun f q a b c e => by rw [u3_f _ _ c]; exact h f q a b c e
theorem c_tableMark {r rule b : Nat} (h : TC I w) (v : Vw w) (h5 : 0 < w 5) (hr : r < w 6) (hru : rule ≤ 3) (hb : b < 2 * w 0) (h14 : ∀ m, m < w 1 → I 14 (b + 3) m = oI (crs w 0 b m)) (hd : 7 ≤ d) : ∃ J, K_X10_tableMark X d (nI r) (nI rule) (nI b) (I, L, ()) = some (some (aI (nI (tbN w r rule b))), (J, L, ())) ∧ FT I J ∧ J 36 = I 36 := by
  obtain ⟨e, rfl⟩ : ∃ e, d = e + 1 := ⟨d - 1, by omega⟩
  obtain ⟨⟨w0, w1, -, -, -, -, w6, -⟩, -⟩ := id v
  generalize hJ1 : upR I 14 0 (va_cpy (I 14 (b + 3)) (I 14 0) 0 0 40) = J1
  have f1 : Fm [14] I J1 := by rw [← hJ1]; exact Fm.refl.upr (by decide)
  have t1 : TC J1 w := h.sc (Sc.of f1 (by decide))
  have g1 : ∀ f q, (f ≠ 14 ∨ 0 < q) → J1 f q = I f q := fun f q hq => by
    by_cases e : f = 14
    · subst e; rw [← hJ1]; exact uR_i _ _ (by omega)
    · rw [f1 f (by simpa using e)]
  have p1 : PC J1 (w 1) 1 (psB w b) := fun k hk m hm => by
    obtain rfl : k = 0 := by omega
    rw [← hJ1, uR_eq]
    unfold va_cpy
    rw [if_pos (by omega), show 0 + (m - 0) = m by omega]
    exact h14 m hm
  obtain ⟨J, j1, j2, j3, j4, j5⟩ := c_travel (X := X) (d := e) (L := L) (r := r) (rule := rule) t1 v hr hru p1 (by decide) h5 (psB_w v h5 hb) (by omega)
  have j4' : J 17 r 5 = oI (tbO w r rule b) := by
    rw [j4]
    exact congrArg oI (hadF_congr fun k hk m => met_eq v hr hru hk)
  have tJ : TC J w := t1.sc (Sc.of j2.fm (by decide))
  refine ⟨J, K_X10_tableMark.e X e _ _ _ I L _ ?_, fun f q a b c z => ?_, ?_⟩
  · have j1' : K_X5_travel X e r (nI r) (nI rule) (nI 1) (J1, L, ()) = some (none, (J, L, ())) := j1
    simp (disch := omega) only [a_bi_i, a_bv_n, a_bl_l, a_bq_q, l_0, l_1, l_2, l_3, l_4, l_5, l_6, l_7, l_8, l_9, l_10, l_12, l_16, l_20, l_24, l_25, l_31, l_32, l_33, l_40, l_48, l_57, l_60, l_63, l_64, l_78, l_85, l_97, l_99, l_100, l_122, l_255, l_325, l_700, l_999, l_1000, l_1200, l_99999, l_100000, l_1000000, l_2000000000, l_N, n_add, n_mul, n_lt, n_out, n_div, n_dm, n_eq, n_toN, n_inN, n_ltN, n_nltN, n_neN, Nat.not_lt_zero, false_or, or_false, ite_y, ite_n, if_true, if_false, ite_tt, ite_ff, b_0, b_1, eq_self_iff_true, Bool.true_eq_false, Bool.false_eq_true, c_takeC, hJ1, j1', j4']
    unfold tbN
    cases ho : tbO w r rule b with
    | none => simp (disch := omega) only [oI, a_bi_i, a_bv_n, a_bl_l, a_bq_q, l_0, l_1, l_2, l_3, l_4, l_5, l_6, l_7, l_8, l_9, l_10, l_12, l_16, l_20, l_24, l_25, l_31, l_32, l_33, l_40, l_48, l_57, l_60, l_63, l_64, l_78, l_85, l_97, l_99, l_100, l_122, l_255, l_325, l_700, l_999, l_1000, l_1200, l_99999, l_100000, l_1000000, l_2000000000, l_N, n_add, n_mul, n_lt, n_out, n_div, n_dm, n_eq, n_toN, n_inN, n_ltN, n_nltN, n_neN, Nat.not_lt_zero, false_or, or_false, ite_y, ite_n, if_true, if_false, ite_tt, ite_ff, b_0, b_1, eq_self_iff_true, Bool.true_eq_false, Bool.false_eq_true, c_minutes tJ v]
    | some m =>
      have := tbO_lt ho
      simp (disch := omega) only [oI, a_bi_i, a_bv_n, a_bl_l, a_bq_q, l_0, l_1, l_2, l_3, l_4, l_5, l_6, l_7, l_8, l_9, l_10, l_12, l_16, l_20, l_24, l_25, l_31, l_32, l_33, l_40, l_48, l_57, l_60, l_63, l_64, l_78, l_85, l_97, l_99, l_100, l_122, l_255, l_325, l_700, l_999, l_1000, l_1200, l_99999, l_100000, l_1000000, l_2000000000, l_N, n_add, n_mul, n_lt, n_out, n_div, n_dm, n_eq, n_toN, n_inN, n_ltN, n_nltN, n_neN, Nat.not_lt_zero, false_or, or_false, ite_y, ite_n, if_true, if_false, ite_tt, ite_ff, b_0, b_1, eq_self_iff_true, Bool.true_eq_false, Bool.false_eq_true]
  · rw [j2 f q (Or.inl (by simp; omega))]; exact g1 f q z
  · rw [j2.fm 36 (by decide)]; exact f1 36 (by decide)
def MK (I : A3 Int32) (w : TW) (r : Nat) : Prop := ∀ rule, rule < 4 → ∀ b, b < 2 * w 0 → I 36 0 (rule * 16 + b) = nI (tbN w r rule b)
theorem c_fillTable {r : Nat} (h : TC I w) (v : Vw w) (h5 : 0 < w 5) (hr : r < w 6) (hd : 8 ≤ d) : ∃ J, K_X10_fillTable X d (nI r) (I, L, ()) = some (none, (J, L, ())) ∧ Sc I J ∧ TC J w ∧ MK J w r := by
  obtain ⟨e, rfl⟩ : ∃ e, d = e + 1 := ⟨d - 1, by omega⟩
  obtain ⟨⟨w0, w1, -, -, -, -, w6, -⟩, -⟩ := id v
  obtain ⟨I1, f1, f2, f3⟩ := c_followBegins (X := X) (d := e) (L := L) h v h5 (by omega)
  have s1 : Sc I I1 := Sc.of (l := [14]) (fun f hf => funext fun i => f2 f i (Or.inl (fun z => hf (by rw [z]; decide)))) (by decide)
  have t1 : TC I1 w := h.sc s1
  obtain ⟨J, ⟨g1, g2⟩, g3⟩ := loop_z (F := fun k (K : A3 Int32) => v_X10_fillTable_6 X e (nI r) (nI k) (K, L, ())) (P := fun k K => FT I1 K ∧ ∀ rule, rule < k → ∀ b, b < 2 * w 0 → K 36 0 (rule * 16 + b) = nI (tbN w r rule b)) 4 I1 ⟨FT.refl, fun k hk => by omega⟩ (fun k K hk hP => by
    obtain ⟨p1, p2⟩ := hP
    obtain ⟨K2, ⟨q1, q2, q3⟩, q4⟩ := loop_z (F := fun b (K : A3 Int32) => v_X10_fillTable_13 X e (nI r) (nI k) (nI b) (K, L, ())) (P := fun b K' => FT I1 K' ∧ (∀ rule, rule < k → ∀ b, b < 2 * w 0 → K' 36 0 (rule * 16 + b) = nI (tbN w r rule b)) ∧ ∀ b', b' < b → K' 36 0 (k * 16 + b') = nI (tbN w r k b')) (2 * w 0) K ⟨p1, p2, fun b hb => by omega⟩ (fun b K' hb hP => by
      obtain ⟨p1, p2, p3⟩ := hP
      have tK : TC K' w := t1.sc p1.sc
      obtain ⟨K3, a1, a2, a3⟩ := c_tableMark (X := X) (d := e) (L := L) (r := r) (rule := k) (b := b) tK v h5 hr (by omega) hb (fun m hm => by rw [p1 14 (b + 3) (by decide) (by decide) (by decide) (Or.inr (by omega))]; exact f3 b hb m hm) (by omega)
      refine ⟨up3 K3 36 0 (k * 16 + b) (nI (tbN w r k b)), ⟨(p1.trans a2).up, fun rule hr' b' hb' => ?_, fun b' hb' => ?_⟩, fun s hs => v_X10_fillTable_13.e X e _ _ _ K' L s ?_⟩
      · rw [u3_j _ _ (by omega), a3]; exact p2 rule hr' b' hb'
      · by_cases ee : b' = b
        · subst ee; exact u3_eq _ _ _ _ _
        · rw [u3_j _ _ (by omega), a3]; exact p3 b' (by omega)
      · simp (disch := omega) only [a_bi_i, a_bv_n, a_bl_l, a_bq_q, l_0, l_1, l_2, l_3, l_4, l_5, l_6, l_7, l_8, l_9, l_10, l_12, l_16, l_20, l_24, l_25, l_31, l_32, l_33, l_40, l_48, l_57, l_60, l_63, l_64, l_78, l_85, l_97, l_99, l_100, l_122, l_255, l_325, l_700, l_999, l_1000, l_1200, l_99999, l_100000, l_1000000, l_2000000000, l_N, n_add, n_mul, n_lt, n_out, n_div, n_dm, n_eq, n_toN, n_inN, n_ltN, n_nltN, n_neN, Nat.not_lt_zero, false_or, or_false, ite_y, ite_n, if_true, if_false, ite_tt, ite_ff, b_0, b_1, eq_self_iff_true, Bool.true_eq_false, Bool.false_eq_true, c_beginCount tK v, a1]
        exact hs)
    have tK2 : TC K2 w := t1.sc q1.sc
    refine ⟨K2, ⟨q1, fun rule hr' b hb => ?_⟩, fun s hs => v_X10_fillTable_6.e X e _ _ K L s ?_⟩
    · by_cases ee : rule = k
      · subst ee; exact q3 b hb
      · exact q2 rule (by omega) b hb
    · simp (disch := omega) only [a_bi_i, a_bv_n, a_bl_l, a_bq_q, l_0, l_1, l_2, l_3, l_4, l_5, l_6, l_7, l_8, l_9, l_10, l_12, l_16, l_20, l_24, l_25, l_31, l_32, l_33, l_40, l_48, l_57, l_60, l_63, l_64, l_78, l_85, l_97, l_99, l_100, l_122, l_255, l_325, l_700, l_999, l_1000, l_1200, l_99999, l_100000, l_1000000, l_2000000000, l_N, n_add, n_mul, n_lt, n_out, n_div, n_dm, n_eq, n_toN, n_inN, n_ltN, n_nltN, n_neN, Nat.not_lt_zero, false_or, or_false, ite_y, ite_n, if_true, if_false, ite_tt, ite_ff, b_0, b_1, eq_self_iff_true, Bool.true_eq_false, Bool.false_eq_true]
      refine q4 _ (v_X10_fillTable_13.e X e _ _ _ K2 L s ?_)
      simp (disch := omega) only [a_bi_i, a_bv_n, a_bl_l, a_bq_q, l_0, l_1, l_2, l_3, l_4, l_5, l_6, l_7, l_8, l_9, l_10, l_12, l_16, l_20, l_24, l_25, l_31, l_32, l_33, l_40, l_48, l_57, l_60, l_63, l_64, l_78, l_85, l_97, l_99, l_100, l_122, l_255, l_325, l_700, l_999, l_1000, l_1200, l_99999, l_100000, l_1000000, l_2000000000, l_N, n_add, n_mul, n_lt, n_out, n_div, n_dm, n_eq, n_toN, n_inN, n_ltN, n_nltN, n_neN, Nat.not_lt_zero, false_or, or_false, ite_y, ite_n, if_true, if_false, ite_tt, ite_ff, b_0, b_1, eq_self_iff_true, Bool.true_eq_false, Bool.false_eq_true, c_beginCount tK2 v, Nat.lt_irrefl]
      exact hs)
  refine ⟨J, K_X10_fillTable.e X e _ I L _ ?_, s1.trans g1.sc, t1.sc g1.sc, g2⟩
  simp (disch := omega) only [a_bi_i, a_bv_n, a_bl_l, a_bq_q, l_0, l_1, l_2, l_3, l_4, l_5, l_6, l_7, l_8, l_9, l_10, l_12, l_16, l_20, l_24, l_25, l_31, l_32, l_33, l_40, l_48, l_57, l_60, l_63, l_64, l_78, l_85, l_97, l_99, l_100, l_122, l_255, l_325, l_700, l_999, l_1000, l_1200, l_99999, l_100000, l_1000000, l_2000000000, l_N, n_add, n_mul, n_lt, n_out, n_div, n_dm, n_eq, n_toN, n_inN, n_ltN, n_nltN, n_neN, Nat.not_lt_zero, false_or, or_false, ite_y, ite_n, if_true, if_false, ite_tt, ite_ff, b_0, b_1, eq_self_iff_true, Bool.true_eq_false, Bool.false_eq_true, f1]
  refine g3 _ (v_X10_fillTable_6.e X e _ _ J L _ ?_)
  simp (disch := omega) only [a_bi_i, a_bv_n, a_bl_l, a_bq_q, l_0, l_1, l_2, l_3, l_4, l_5, l_6, l_7, l_8, l_9, l_10, l_12, l_16, l_20, l_24, l_25, l_31, l_32, l_33, l_40, l_48, l_57, l_60, l_63, l_64, l_78, l_85, l_97, l_99, l_100, l_122, l_255, l_325, l_700, l_999, l_1000, l_1200, l_99999, l_100000, l_1000000, l_2000000000, l_N, n_add, n_mul, n_lt, n_out, n_div, n_dm, n_eq, n_toN, n_inN, n_ltN, n_nltN, n_neN, Nat.not_lt_zero, false_or, or_false, ite_y, ite_n, if_true, if_false, ite_tt, ite_ff, b_0, b_1, eq_self_iff_true, Bool.true_eq_false, Bool.false_eq_true, Nat.lt_irrefl]
theorem c_mark {r rule b : Nat} (hK : MK I w r) (v : Vw w) (hru : rule < 4) (hb : b < 2 * w 0) (hd : 1 ≤ d) : K_X10_mark X d (nI rule) (nI b) (I, L, ()) = some (some (aI (nI (tbN w r rule b))), (I, L, ())) := by
  obtain ⟨e, rfl⟩ : ∃ e, d = e + 1 := ⟨d - 1, by omega⟩
  obtain ⟨⟨w0, -⟩, -⟩ := id v
  refine K_X10_mark.e X e _ _ I L _ ?_
  simp (disch := omega) only [a_bi_i, a_bv_n, a_bl_l, a_bq_q, l_0, l_1, l_2, l_3, l_4, l_5, l_6, l_7, l_8, l_9, l_10, l_12, l_16, l_20, l_24, l_25, l_31, l_32, l_33, l_40, l_48, l_57, l_60, l_63, l_64, l_78, l_85, l_97, l_99, l_100, l_122, l_255, l_325, l_700, l_999, l_1000, l_1200, l_99999, l_100000, l_1000000, l_2000000000, l_N, n_add, n_mul, n_lt, n_out, n_div, n_dm, n_eq, n_toN, n_inN, n_ltN, n_nltN, n_neN, Nat.not_lt_zero, false_or, or_false, ite_y, ite_n, if_true, if_false, ite_tt, ite_ff, b_0, b_1, eq_self_iff_true, Bool.true_eq_false, Bool.false_eq_true]
  rw [hK rule hru b hb]
/-! the reference's table -/
theorem m_tableOf {r rule b : Nat} (h : TM I w) (v : Vw w) (h5 : 0 < w 5) (hr : r < w 6) (hru : rule ≤ 3) (hb : b < 2 * w 0) (hd : 8 ≤ d) : ∃ J, K_X11_tableOf X d (nI r) (nI rule) (nI b) (I, L, ()) = some (some (aI (nI (tbN w r rule b))), (J, L, ())) ∧ Sm I J ∧ TM J w := by
  obtain ⟨e, rfl⟩ : ∃ e, d = e + 1 := ⟨d - 1, by omega⟩
  obtain ⟨⟨w0, w1, -, -, -, -, w6, -⟩, -, vc, vi, -⟩ := id v
  generalize hI1 : up3 I 40 0 17 (nI 1) = I1
  have s1 : Sm I I1 := by
    rw [← hI1]
    exact ⟨Fm.refl.up (by decide), fun j hj => by rw [u3_j _ _ (by omega)]⟩
  obtain ⟨J3, g1, g2, g3, g4, g5, g6⟩ := m_lay (X := X) (d := e) (L := L) (i := 0) (b := b) (k := 0) (h.sm s1) v h5 hb (by decide) (by omega)
  have s3 : Sm I1 J3 := Sm.of g2 (by decide)
  have t3 : TM J3 w := (h.sm s1).sm s3
  have p3 : PM J3 (w 1) 1 (psB w b) (knA w) := by
    refine ⟨?_, fun k hk m hm => ?_, fun k hk => ?_⟩
    · rw [g2 40 (by decide), ← hI1, u3_eq]
    · obtain rfl : k = 0 := by omega
      exact g3 m hm
    · obtain rfl : k = 0 := by omega
      exact g5
  obtain ⟨J4, o1, o2, o3⟩ := m_goTrip (X := X) (d := e) (L := L) (r := r) (rule := rule) t3 v p3 hr hru (by decide) (psB_lt v h5 hb) (by omega)
  have s4 : Sm J3 J4 := Sm.of o2 (by decide)
  have t4 : TM J4 w := t3.sm s4
  have p4 : PM J4 (w 1) 1 (psB w b) (knA w) := by
    unfold PM
    rw [o2 40 (by decide), o2 47 (by decide), o2 48 (by decide)]
    exact p3
  have kn : ∀ k, k < 1 → knA w k ≤ 100 := fun k hk => by
    obtain rfl : k = 0 := by omega
    exact (vi 0 h5).2.2.2.1
  have k1 := m_hadBy (X := X) (d := e) (L := L) (rule := rule) t4 v p4 o3 (by decide) (psB_lt v h5 hb) kn (fun m => by have := (plc_ok (n := 1) (rule := rule) (ps := psB w b) v hr m).1; omega) hru (by omega)
  have k1' : K_X11_hadBy X e (nI rule) (J4, L, ()) = some (some (aI (oI (tbO w r rule b))), (J4, L, ())) := k1
  refine ⟨J4, K_X11_tableOf.e X e _ _ _ I L _ ?_, (s1.trans s3).trans s4, t4⟩
  have g1' : K_X11_lay X e (nI 0) (nI 0) (nI b) (I1, L, ()) = some (none, (J3, L, ())) := g1
  simp only [a_bi_i, a_bv_n, a_bl_l, a_bq_q, l_0, l_1, hI1, g1', o1, k1']
  unfold tbN
  cases ho : tbO w r rule b with
  | none => simp (disch := omega) only [oI, a_bi_i, a_bv_n, a_bl_l, a_bq_q, l_0, l_1, l_2, l_3, l_4, l_5, l_6, l_7, l_8, l_9, l_10, l_12, l_16, l_20, l_24, l_25, l_31, l_32, l_33, l_40, l_48, l_57, l_60, l_63, l_64, l_78, l_85, l_97, l_99, l_100, l_122, l_255, l_325, l_700, l_999, l_1000, l_1200, l_99999, l_100000, l_1000000, l_2000000000, l_N, n_add, n_mul, n_lt, n_out, n_div, n_dm, n_eq, n_toN, n_inN, n_ltN, n_nltN, n_neN, Nat.not_lt_zero, false_or, or_false, ite_y, ite_n, if_true, if_false, ite_tt, ite_ff, b_0, b_1, eq_self_iff_true, Bool.true_eq_false, Bool.false_eq_true, m_minutes t4 v]
  | some m =>
    have := tbO_lt ho
    simp (disch := omega) only [oI, a_bi_i, a_bv_n, a_bl_l, a_bq_q, l_0, l_1, l_2, l_3, l_4, l_5, l_6, l_7, l_8, l_9, l_10, l_12, l_16, l_20, l_24, l_25, l_31, l_32, l_33, l_40, l_48, l_57, l_60, l_63, l_64, l_78, l_85, l_97, l_99, l_100, l_122, l_255, l_325, l_700, l_999, l_1000, l_1200, l_99999, l_100000, l_1000000, l_2000000000, l_N, n_add, n_mul, n_lt, n_out, n_div, n_dm, n_eq, n_toN, n_inN, n_ltN, n_nltN, n_neN, Nat.not_lt_zero, false_or, or_false, ite_y, ite_n, if_true, if_false, ite_tt, ite_ff, b_0, b_1, eq_self_iff_true, Bool.true_eq_false, Bool.false_eq_true]
end
