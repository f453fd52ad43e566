/-! the chase: restart, add, openChase -/
section
variable {X : AX} {d : Nat} {I : A3 Int32} {L : A3 Int64} {w : TW}
def Rq (l : List Nat) (q : Nat) (I J : A3 Int32) : Prop := ∀ f i, (f ∉ l ∨ i ≠ q) → J f i = I f i
theorem Rq.refl {l : List Nat} {q : Nat} {I : A3 Int32} : Rq l q I I := fun _ _ _ => rfl
theorem Rq.trans {l : List Nat} {q : Nat} {I J K : A3 Int32} (h1 : Rq l q I J) (h2 : Rq l q J K) : Rq l q I K := fun f i h => (h2 f i h).trans (h1 f i h)
theorem Rq.mono {l l' : List Nat} {q : Nat} {I J : A3 Int32} (h : Rq l q I J) (hl : ∀ f, f ∈ l → f ∈ l') : Rq l' q I J := fun f i hf => h f i (hf.elim (fun q => Or.inl (fun z => q (hl f z))) Or.inr)
theorem Rq.fm {l : List Nat} {q : Nat} {I J : A3 Int32} (h : Rq l q I J) : Fm l I J := fun f hf => funext fun i => h f i (Or.inl hf)
theorem Rq.rw {f q : Nat} {l : List Nat} {I J : A3 Int32} (h : Rw f q I J) (hf : f ∈ l) : Rq l q I J := fun g i hg => h g i (hg.elim (fun z => Or.inl (fun e => z (by rw [e]; exact hf))) Or.inr)
theorem Rq.up {l : List Nat} {q f j : Nat} {x : Int32} {I J : A3 Int32} (h : Rq l q I J) (hf : f ∈ l) : Rq l q I (up3 J f q j x) := fun g i hg => by
  rw [← h g i hg]
  funext z
  unfold up3
  rw [if_neg]
  intro e
  rcases hg with hg | hg
  · exact hg (by rw [e.1]; exact hf)
  · exact hg e.2.1
def loB (w : TW) (c : Nat) : Bool := decide (c < w 0) && decide (w (10 + 3 * c) = 1)
def doB (w : TW) (c : Nat) : Bool := decide (c < w 0) && decide (w (11 + 3 * c) = 1)
def CF (I : A3 Int32) (q T n : Nat) (lo do' : Nat → Bool) : Prop := I 20 q 8 = nI T ∧ (∀ c, bt (I 20 q 9) c = decide (c < n)) ∧ (∀ c, bt (I 20 q 10) c = lo c) ∧ ∀ c, bt (I 20 q 11) c = do' c
def CG (I : A3 Int32) (q T : Nat) (g k u dn : Nat → Nat → Bool) : Prop := ∀ m, m < T → ∀ c, bt (I 21 q m) c = g m c ∧ bt (I 22 q m) c = k m c ∧ bt (I 23 q m) c = u m c ∧ bt (I 24 q m) c = dn m c
def gA (n : Nat) (ps : Nat → Nat → Option Nat) (m c : Nat) : Bool := exb n (fun i => decide (ps i m = some c))
def kA (n : Nat) (ps : Nat → Nat → Option Nat) (kn : Nat → Nat) (m c : Nat) : Bool := exb n (fun i => decide (0 < kn i) && decide (ps i m = some c))
def uA (T n : Nat) (ps : Nat → Nat → Option Nat) (m c : Nat) : Bool := exb n (fun i => decide (m + 1 < T) && (decide (ps i m = some (c + 1)) && decide (ps i (m + 1) = some c)))
def dA (T n : Nat) (ps : Nat → Nat → Option Nat) (m c : Nat) : Bool := exb n (fun i => decide (m + 1 < T) && (decide (0 < c ∧ ps i m = some (c - 1)) && decide (ps i (m + 1) = some c)))
theorem c_restart {q : Nat} (h : TC I w) (v : Vw w) (hd : 4 ≤ d) : ∃ J, K_X0_restart X d q (I, L, ()) = some (none, (J, L, ())) ∧ Rq [20, 21, 22, 23, 24] q I J ∧ CF J q (w 1) (w 0) (loB w) (doB w) ∧ ∀ j, j < 40 → J 21 q j = nI 0 ∧ J 22 q j = nI 0 ∧ J 23 q j = nI 0 ∧ J 24 q j = nI 0 := by
  obtain ⟨e, rfl⟩ : ∃ e, d = e + 1 := ⟨d - 1, by omega⟩
  obtain ⟨⟨h0, h1, -⟩, -⟩ := id v
  have up : ∀ {J : A3 Int32} {j : Nat} {x : Int32}, TC J w → TC (up3 J 20 q j x) w := fun hJ => hJ.fm (l := [20]) (Fm.refl.up (by decide)) (by decide) (by decide) (by decide) (by decide) (by decide)
  have hI1 : TC (up3 I 20 q 8 (nI (w 1))) w := up h
  generalize hA : (nI 1 <<< (nI (w 0) &&& nI 31)) - nI 1 = xa at *
  have hI2 : TC (up3 (up3 I 20 q 8 (nI (w 1))) 20 q 9 xa) w := up hI1
  obtain ⟨xl, l1, l2⟩ := c_looBits (X := X) (d := e) (L := L) hI2 v (by omega)
  have hI3 : TC (up3 (up3 (up3 I 20 q 8 (nI (w 1))) 20 q 9 xa) 20 q 10 xl) w := up hI2
  obtain ⟨xd, d1, d2⟩ := c_doorBits (X := X) (d := e) (L := L) hI3 v (by omega)
  generalize hJ0 : up3 (up3 (up3 (up3 I 20 q 8 (nI (w 1))) 20 q 9 xa) 20 q 10 xl) 20 q 11 xd = J0
  have r0 : Rq [20, 21, 22, 23, 24] q I J0 := by
    rw [← hJ0]
    exact (((Rq.refl.up (by decide)).up (by decide)).up (by decide)).up (by decide)
  have c0 : J0 20 q 8 = nI (w 1) ∧ J0 20 q 9 = xa ∧ J0 20 q 10 = xl ∧ J0 20 q 11 = xd := by
    rw [← hJ0]
    refine ⟨?_, ?_, ?_, u3_eq _ _ _ _ _⟩
    · rw [u3_j _ _ (by decide), u3_j _ _ (by decide), u3_j _ _ (by decide), u3_eq]
    · rw [u3_j _ _ (by decide), u3_j _ _ (by decide), u3_eq]
    · rw [u3_j _ _ (by decide), u3_eq]
  obtain ⟨J1, f1, f2, f3⟩ := c_fill (X := X) (d := e) (L := L) (I := J0) (f := 21) (i := q) (n := 40) (x := nI 0) rfl rfl (by decide) (by omega)
  obtain ⟨J2, g1, g2, g3⟩ := c_fill (X := X) (d := e) (L := L) (I := J1) (f := 22) (i := q) (n := 40) (x := nI 0) rfl rfl (by decide) (by omega)
  obtain ⟨J3, k1, k2, k3⟩ := c_fill (X := X) (d := e) (L := L) (I := J2) (f := 23) (i := q) (n := 40) (x := nI 0) rfl rfl (by decide) (by omega)
  obtain ⟨J4, m1, m2, m3⟩ := c_fill (X := X) (d := e) (L := L) (I := J3) (f := 24) (i := q) (n := 40) (x := nI 0) rfl rfl (by decide) (by omega)
  have e20 : J4 20 q = J0 20 q := by rw [m2 20 q (Or.inl (by decide)), k2 20 q (Or.inl (by decide)), g2 20 q (Or.inl (by decide)), f2 20 q (Or.inl (by decide))]
  refine ⟨J4, K_X0_restart.e X e q I L _ ?_, ?_, ?_, fun j hj => ⟨?_, ?_, ?_, m3 j hj⟩⟩
  · simp (disch := omega) only [l_0, l_1, l_2, l_3, l_4, l_5, l_6, l_7, l_8, l_9, l_10, l_12, l_16, l_20, l_24, l_25, l_31, l_32, l_33, l_40, l_48, l_57, l_60, l_63, l_64, l_78, l_85, l_97, l_99, l_100, l_122, l_255, l_325, l_700, l_999, l_1000, l_1200, l_99999, l_100000, l_1000000, l_2000000000, l_N, c_minutes h v, c_allCoaches hI1, hA, a_bi_i, a_bv_n, l1, d1, hJ0, f1, g1, k1, m1]
  · exact (((r0.trans (Rq.rw f2 (by decide))).trans (Rq.rw g2 (by decide))).trans (Rq.rw k2 (by decide))).trans (Rq.rw m2 (by decide))
  · unfold CF
    rw [e20, c0.1, c0.2.1, c0.2.2.1, c0.2.2.2]
    refine ⟨rfl, fun c => ?_, l2, d2⟩
    rw [← hA]
    exact bt_all (by omega) c
  · rw [m2 21 q (Or.inl (by decide)), k2 21 q (Or.inl (by decide)), g2 21 q (Or.inl (by decide))]; exact f3 j hj
  · rw [m2 22 q (Or.inl (by decide)), k2 22 q (Or.inl (by decide))]; exact g3 j hj
  · rw [m2 23 q (Or.inl (by decide))]; exact k3 j hj
/-- what is added up to the minutes m1 (guarded, knocked), m2 (up), m3 (down) -/
def AP (I : A3 Int32) (q T : Nat) (kb : Bool) (p : Nat → Option Nat) (m1 m2 m3 : Nat) (J : A3 Int32) : Prop :=
  Rq [21, 22, 23, 24] q I J ∧ ∀ m, m < T → ∀ c,
    bt (J 21 q m) c = (bt (I 21 q m) c || (decide (m < m1) && decide (p m = some c))) ∧
    bt (J 22 q m) c = (bt (I 22 q m) c || (decide (m < m1) && (kb && decide (p m = some c)))) ∧
    bt (J 23 q m) c = (bt (I 23 q m) c || (decide (m + 1 < m2) && (decide (p m = some (c + 1)) && decide (p (m + 1) = some c)))) ∧
    bt (J 24 q m) c = (bt (I 24 q m) c || (decide (m + 1 < m3) && (decide (0 < c ∧ p m = some (c - 1)) && decide (p (m + 1) = some c))))
theorem dlt {m M : Nat} (h : m ≠ M) : decide (m < M + 1) = decide (m < M) := by
  rw [decide_eq_decide]; omega
theorem add_105 {q a T : Nat} {kb : Bool} {p : Nat → Option Nat} {m c0 : Nat} {J : A3 Int32} (hT : T ≤ 40) (hm : m < T) (hc : p m = some c0) (hc8 : c0 < 8) (hp : ∀ m x, p m = some x → x < 8) (hA : AP I q T kb p (m + 1) (m + 1) m J) : ∃ J', AP I q T kb p (m + 1) (m + 1) (m + 1) J' ∧ OLe (v_X0_add_2 X d q a (bI kb) (nI (m + 1)) (J', L, ())) (v_X0_add_105 X d q a (bI kb) (nI m) (nI c0) (oI (if m = 0 then none else p (m - 1))) (J, L, ())) := by
  have nochange : (∀ c, ¬ ((m ≠ 0) ∧ (0 < c ∧ p (m - 1) = some (c - 1)) ∧ p m = some c)) → AP I q T kb p (m + 1) (m + 1) (m + 1) J := by
    intro hn
    refine ⟨hA.1, fun m' hm' c => ?_⟩
    obtain ⟨a1, a2, a3, a4⟩ := hA.2 m' hm' c
    refine ⟨a1, a2, a3, ?_⟩
    rw [a4]
    by_cases e : m' + 1 = m
    · subst e
      have h9 : (decide (0 < c ∧ p m' = some (c - 1)) && decide (p (m' + 1) = some c)) = false := by
        cases hq : (decide (0 < c ∧ p m' = some (c - 1)) && decide (p (m' + 1) = some c)) with
        | false => rfl
        | true =>
          obtain ⟨z1, z2⟩ := Bool.and_eq_true_iff.mp hq
          exact absurd ⟨by omega, of_decide_eq_true z1, of_decide_eq_true z2⟩ (hn c)
      rw [h9]; simp
    · rw [dlt e]
  by_cases hm0 : m = 0
  · rw [if_pos hm0]
    refine ⟨J, nochange (fun c hc => hc.1 hm0), fun r hr => ?_⟩
    refine v_X0_add_105.e X d _ _ _ _ _ _ J L r ?_
    simp (disch := omega) only [oI, a_bi_i, a_bv_n, a_bl_l, a_bq_q, l_0, l_1, l_2, l_3, l_4, l_5, l_6, l_7, l_8, l_9, l_10, l_12, l_16, l_20, l_24, l_25, l_31, l_32, l_33, l_40, l_48, l_57, l_60, l_63, l_64, l_78, l_85, l_97, l_99, l_100, l_122, l_255, l_325, l_700, l_999, l_1000, l_1200, l_99999, l_100000, l_1000000, l_2000000000, l_N, n_add, n_mul, n_lt, n_out, n_div, n_dm, n_eq, n_toN, n_inN, n_ltN, n_nltN, n_neN, Nat.not_lt_zero, false_or, or_false, ite_y, ite_n, if_true, if_false, ite_tt, ite_ff, b_0, b_1, eq_self_iff_true, Bool.true_eq_false, Bool.false_eq_true]
    refine v_X0_add_135.e X d _ _ _ _ J L r ?_
    simp (disch := omega) only [a_bi_i, a_bv_n, a_bl_l, a_bq_q, l_0, l_1, l_2, l_3, l_4, l_5, l_6, l_7, l_8, l_9, l_10, l_12, l_16, l_20, l_24, l_25, l_31, l_32, l_33, l_40, l_48, l_57, l_60, l_63, l_64, l_78, l_85, l_97, l_99, l_100, l_122, l_255, l_325, l_700, l_999, l_1000, l_1200, l_99999, l_100000, l_1000000, l_2000000000, l_N, n_add, n_mul, n_lt, n_out, n_div, n_dm, n_eq, n_toN, n_inN, n_ltN, n_nltN, n_neN, Nat.not_lt_zero, false_or, or_false, ite_y, ite_n, if_true, if_false, ite_tt, ite_ff, b_0, b_1, eq_self_iff_true, Bool.true_eq_false, Bool.false_eq_true]
    exact hr
  · rw [if_neg hm0]
    cases hb : p (m - 1) with
    | none =>
      refine ⟨J, nochange (fun c hc => by rw [hb] at hc; cases hc.2.1.2), fun r hr => ?_⟩
      refine v_X0_add_105.e X d _ _ _ _ _ _ J L r ?_
      simp (disch := omega) only [oI, a_bi_i, a_bv_n, a_bl_l, a_bq_q, l_0, l_1, l_2, l_3, l_4, l_5, l_6, l_7, l_8, l_9, l_10, l_12, l_16, l_20, l_24, l_25, l_31, l_32, l_33, l_40, l_48, l_57, l_60, l_63, l_64, l_78, l_85, l_97, l_99, l_100, l_122, l_255, l_325, l_700, l_999, l_1000, l_1200, l_99999, l_100000, l_1000000, l_2000000000, l_N, n_add, n_mul, n_lt, n_out, n_div, n_dm, n_eq, n_toN, n_inN, n_ltN, n_nltN, n_neN, Nat.not_lt_zero, false_or, or_false, ite_y, ite_n, if_true, if_false, ite_tt, ite_ff, b_0, b_1, eq_self_iff_true, Bool.true_eq_false, Bool.false_eq_true]
      refine v_X0_add_135.e X d _ _ _ _ J L r ?_
      simp (disch := omega) only [a_bi_i, a_bv_n, a_bl_l, a_bq_q, l_0, l_1, l_2, l_3, l_4, l_5, l_6, l_7, l_8, l_9, l_10, l_12, l_16, l_20, l_24, l_25, l_31, l_32, l_33, l_40, l_48, l_57, l_60, l_63, l_64, l_78, l_85, l_97, l_99, l_100, l_122, l_255, l_325, l_700, l_999, l_1000, l_1200, l_99999, l_100000, l_1000000, l_2000000000, l_N, n_add, n_mul, n_lt, n_out, n_div, n_dm, n_eq, n_toN, n_inN, n_ltN, n_nltN, n_neN, Nat.not_lt_zero, false_or, or_false, ite_y, ite_n, if_true, if_false, ite_tt, ite_ff, b_0, b_1, eq_self_iff_true, Bool.true_eq_false, Bool.false_eq_true]
      exact hr
    | some x =>
      have hx := hp _ x hb
      by_cases hz : x + 1 = c0
      · subst hz
        refine ⟨up3 J 24 q (m - 1) (J 24 q (m - 1) ||| (nI 1 <<< (nI (x + 1) &&& nI 31))), ⟨hA.1.up (by decide), fun m' hm' c => ?_⟩, fun r hr => ?_⟩
        · obtain ⟨a1, a2, a3, a4⟩ := hA.2 m' hm' c
          rw [u3_f _ _ (show 21 ≠ 24 by decide), u3_f _ _ (show 22 ≠ 24 by decide), u3_f _ _ (show 23 ≠ 24 by decide)]
          refine ⟨a1, a2, a3, ?_⟩
          by_cases e : m' = m - 1
          · subst e
            rw [u3_eq, bt_or, a4, bt_one (by omega), show m - 1 + 1 = m by omega, hb, hc]
            by_cases ec : c = x + 1
            · subst ec; simp
            · have : ¬ (x + 1 = c) := fun q => ec q.symm
              simp [ec, this]
          · rw [u3_j _ _ e, a4, dlt (by omega)]
        · refine v_X0_add_105.e X d _ _ _ _ _ _ J L r ?_
          rw [l_1, n_sub (show 1 ≤ x + 1 by omega), n_sub (show 1 ≤ m by omega), show x + 1 - 1 = x by omega]
          simp (disch := omega) only [oI, a_bi_i, a_bv_n, a_bl_l, a_bq_q, l_0, l_1, l_2, l_3, l_4, l_5, l_6, l_7, l_8, l_9, l_10, l_12, l_16, l_20, l_24, l_25, l_31, l_32, l_33, l_40, l_48, l_57, l_60, l_63, l_64, l_78, l_85, l_97, l_99, l_100, l_122, l_255, l_325, l_700, l_999, l_1000, l_1200, l_99999, l_100000, l_1000000, l_2000000000, l_N, n_add, n_mul, n_lt, n_out, n_div, n_dm, n_eq, n_toN, n_inN, n_ltN, n_nltN, n_neN, Nat.not_lt_zero, false_or, or_false, ite_y, ite_n, if_true, if_false, ite_tt, ite_ff, b_0, b_1, eq_self_iff_true, Bool.true_eq_false, Bool.false_eq_true]
          refine v_X0_add_135.e X d _ _ _ _ _ L r ?_
          simp (disch := omega) only [a_bi_i, a_bv_n, a_bl_l, a_bq_q, l_0, l_1, l_2, l_3, l_4, l_5, l_6, l_7, l_8, l_9, l_10, l_12, l_16, l_20, l_24, l_25, l_31, l_32, l_33, l_40, l_48, l_57, l_60, l_63, l_64, l_78, l_85, l_97, l_99, l_100, l_122, l_255, l_325, l_700, l_999, l_1000, l_1200, l_99999, l_100000, l_1000000, l_2000000000, l_N, n_add, n_mul, n_lt, n_out, n_div, n_dm, n_eq, n_toN, n_inN, n_ltN, n_nltN, n_neN, Nat.not_lt_zero, false_or, or_false, ite_y, ite_n, if_true, if_false, ite_tt, ite_ff, b_0, b_1, eq_self_iff_true, Bool.true_eq_false, Bool.false_eq_true]
          exact hr
      · refine ⟨J, nochange (fun c hq => by
          rw [hb, hc] at hq
          have z1 := Option.some.inj hq.2.1.2
          have z2 := Option.some.inj hq.2.2
          omega), fun r hr => ?_⟩
        refine v_X0_add_105.e X d _ _ _ _ _ _ J L r ?_
        have hne : ¬ (nI x = nI c0 - nI 1) := by
          by_cases h0 : c0 = 0
          · subst h0
            show ¬ (nI x = nN)
            rw [n_neN (by omega)]
            exact fun q => q
          · rw [n_sub (by omega), n_eq (by omega) (by omega)]; omega
        simp (disch := omega) only [oI, a_bi_i, a_bv_n, a_bl_l, a_bq_q, l_0, l_1, l_2, l_3, l_4, l_5, l_6, l_7, l_8, l_9, l_10, l_12, l_16, l_20, l_24, l_25, l_31, l_32, l_33, l_40, l_48, l_57, l_60, l_63, l_64, l_78, l_85, l_97, l_99, l_100, l_122, l_255, l_325, l_700, l_999, l_1000, l_1200, l_99999, l_100000, l_1000000, l_2000000000, l_N, n_add, n_mul, n_lt, n_out, n_div, n_dm, n_eq, n_toN, n_inN, n_ltN, n_nltN, n_neN, Nat.not_lt_zero, false_or, or_false, ite_y, ite_n, if_true, if_false, ite_tt, ite_ff, b_0, b_1, eq_self_iff_true, Bool.true_eq_false, Bool.false_eq_true, hne]
        refine v_X0_add_135.e X d _ _ _ _ _ L r ?_
        simp (disch := omega) only [a_bi_i, a_bv_n, a_bl_l, a_bq_q, l_0, l_1, l_2, l_3, l_4, l_5, l_6, l_7, l_8, l_9, l_10, l_12, l_16, l_20, l_24, l_25, l_31, l_32, l_33, l_40, l_48, l_57, l_60, l_63, l_64, l_78, l_85, l_97, l_99, l_100, l_122, l_255, l_325, l_700, l_999, l_1000, l_1200, l_99999, l_100000, l_1000000, l_2000000000, l_N, n_add, n_mul, n_lt, n_out, n_div, n_dm, n_eq, n_toN, n_inN, n_ltN, n_nltN, n_neN, Nat.not_lt_zero, false_or, or_false, ite_y, ite_n, if_true, if_false, ite_tt, ite_ff, b_0, b_1, eq_self_iff_true, Bool.true_eq_false, Bool.false_eq_true]
        exact hr
theorem add_57 {q a T : Nat} {kb : Bool} {p : Nat → Option Nat} {m c0 : Nat} {J : A3 Int32} (hT : T ≤ 40) (hm : m < T) (hc : p m = some c0) (hc8 : c0 < 8) (hp : ∀ m x, p m = some x → x < 8) (hrow : ∀ m, m < T → J 14 a m = oI (p m)) (hA : AP I q T kb p (m + 1) m m J) : ∃ J', AP I q T kb p (m + 1) (m + 1) (m + 1) J' ∧ OLe (v_X0_add_2 X d q a (bI kb) (nI (m + 1)) (J', L, ())) (v_X0_add_57 X d q a (bI kb) (nI m) (nI c0) (J, L, ())) := by
  have nochange : (∀ c, ¬ ((m ≠ 0) ∧ p (m - 1) = some (c + 1) ∧ p m = some c)) → AP I q T kb p (m + 1) (m + 1) m J := by
    intro hn
    refine ⟨hA.1, fun m' hm' c => ?_⟩
    obtain ⟨a1, a2, a3, a4⟩ := hA.2 m' hm' c
    refine ⟨a1, a2, ?_, a4⟩
    rw [a3]
    by_cases e : m' + 1 = m
    · subst e
      have h9 : (decide (p m' = some (c + 1)) && decide (p (m' + 1) = some c)) = false := by
        cases hq : (decide (p m' = some (c + 1)) && decide (p (m' + 1) = some c)) with
        | false => rfl
        | true =>
          obtain ⟨z1, z2⟩ := Bool.and_eq_true_iff.mp hq
          exact absurd ⟨by omega, of_decide_eq_true z1, of_decide_eq_true z2⟩ (hn c)
      rw [h9]; simp
    · rw [dlt e]
  by_cases hm0 : m = 0
  · obtain ⟨J', j1, j2⟩ := add_105 (X := X) (d := d) (L := L) (a := a) hT hm hc hc8 hp (nochange (fun c hc => hc.1 hm0))
    rw [if_pos hm0] at j2
    refine ⟨J', j1, fun r hr => ?_⟩
    refine v_X0_add_57.e X d _ _ _ _ _ J L r ?_
    have j3 := j2 r hr
    subst hm0
    simp (disch := omega) only [oI, a_bi_i, a_bv_n, a_bl_l, a_bq_q, l_0, l_1, l_2, l_3, l_4, l_5, l_6, l_7, l_8, l_9, l_10, l_12, l_16, l_20, l_24, l_25, l_31, l_32, l_33, l_40, l_48, l_57, l_60, l_63, l_64, l_78, l_85, l_97, l_99, l_100, l_122, l_255, l_325, l_700, l_999, l_1000, l_1200, l_99999, l_100000, l_1000000, l_2000000000, l_N, n_add, n_mul, n_lt, n_out, n_div, n_dm, n_eq, n_toN, n_inN, n_ltN, n_nltN, n_neN, Nat.not_lt_zero, false_or, or_false, ite_y, ite_n, if_true, if_false, ite_tt, ite_ff, b_0, b_1, eq_self_iff_true, Bool.true_eq_false, Bool.false_eq_true] at j3 ⊢
    exact j3
  · cases hb : p (m - 1) with
    | none =>
      obtain ⟨J', j1, j2⟩ := add_105 (X := X) (d := d) (L := L) (a := a) hT hm hc hc8 hp (nochange (fun c hc => by rw [hb] at hc; cases hc.2.1))
      rw [if_neg hm0, hb] at j2
      refine ⟨J', j1, fun r hr => ?_⟩
      refine v_X0_add_57.e X d _ _ _ _ _ J L r ?_
      rw [l_1, n_sub (show 1 ≤ m by omega)]
      simp (disch := omega) only [a_bi_i, a_bv_n, a_bl_l, a_bq_q, l_0, l_1, l_2, l_3, l_4, l_5, l_6, l_7, l_8, l_9, l_10, l_12, l_16, l_20, l_24, l_25, l_31, l_32, l_33, l_40, l_48, l_57, l_60, l_63, l_64, l_78, l_85, l_97, l_99, l_100, l_122, l_255, l_325, l_700, l_999, l_1000, l_1200, l_99999, l_100000, l_1000000, l_2000000000, l_N, n_add, n_mul, n_lt, n_out, n_div, n_dm, n_eq, n_toN, n_inN, n_ltN, n_nltN, n_neN, Nat.not_lt_zero, false_or, or_false, ite_y, ite_n, if_true, if_false, ite_tt, ite_ff, b_0, b_1, eq_self_iff_true, Bool.true_eq_false, Bool.false_eq_true, hrow (m - 1) (by omega), hb, oI]
      exact j2 r hr
    | some x =>
      have hx := hp _ x hb
      by_cases hz : x = c0 + 1
      · obtain ⟨J', j1, j2⟩ := add_105 (X := X) (d := d) (L := L) (a := a) (J := up3 J 23 q (m - 1) (J 23 q (m - 1) ||| (nI 1 <<< (nI c0 &&& nI 31)))) hT hm hc hc8 hp ⟨hA.1.up (by decide), fun m' hm' c => by
          obtain ⟨a1, a2, a3, a4⟩ := hA.2 m' hm' c
          rw [u3_f _ _ (show 21 ≠ 23 by decide), u3_f _ _ (show 22 ≠ 23 by decide), u3_f _ _ (show 24 ≠ 23 by decide)]
          refine ⟨a1, a2, ?_, a4⟩
          by_cases e : m' = m - 1
          · subst e
            rw [u3_eq, bt_or, a3, bt_one (by omega), show m - 1 + 1 = m by omega, hb, hc, hz]
            by_cases ec : c = c0
            · subst ec; simp
            · have : ¬ (c0 = c) := fun q => ec q.symm
              simp [ec, this]
          · rw [u3_j _ _ e, a3, dlt (by omega)]⟩
        rw [if_neg hm0, hb] at j2
        refine ⟨J', j1, fun r hr => ?_⟩
        refine v_X0_add_57.e X d _ _ _ _ _ J L r ?_
        rw [l_1, n_sub (show 1 ≤ m by omega)]
        simp (disch := omega) only [a_bi_i, a_bv_n, a_bl_l, a_bq_q, l_0, l_1, l_2, l_3, l_4, l_5, l_6, l_7, l_8, l_9, l_10, l_12, l_16, l_20, l_24, l_25, l_31, l_32, l_33, l_40, l_48, l_57, l_60, l_63, l_64, l_78, l_85, l_97, l_99, l_100, l_122, l_255, l_325, l_700, l_999, l_1000, l_1200, l_99999, l_100000, l_1000000, l_2000000000, l_N, n_add, n_mul, n_lt, n_out, n_div, n_dm, n_eq, n_toN, n_inN, n_ltN, n_nltN, n_neN, Nat.not_lt_zero, false_or, or_false, ite_y, ite_n, if_true, if_false, ite_tt, ite_ff, b_0, b_1, eq_self_iff_true, Bool.true_eq_false, Bool.false_eq_true, hrow (m - 1) (by omega), hb, oI]
        exact j2 r hr
      · obtain ⟨J', j1, j2⟩ := add_105 (X := X) (d := d) (L := L) (a := a) hT hm hc hc8 hp (nochange (fun c hq => by
          rw [hb, hc] at hq
          have z1 := Option.some.inj hq.2.1
          have z2 := Option.some.inj hq.2.2
          omega))
        rw [if_neg hm0, hb] at j2
        refine ⟨J', j1, fun r hr => ?_⟩
        refine v_X0_add_57.e X d _ _ _ _ _ J L r ?_
        rw [l_1, n_sub (show 1 ≤ m by omega)]
        simp (disch := omega) only [a_bi_i, a_bv_n, a_bl_l, a_bq_q, l_0, l_1, l_2, l_3, l_4, l_5, l_6, l_7, l_8, l_9, l_10, l_12, l_16, l_20, l_24, l_25, l_31, l_32, l_33, l_40, l_48, l_57, l_60, l_63, l_64, l_78, l_85, l_97, l_99, l_100, l_122, l_255, l_325, l_700, l_999, l_1000, l_1200, l_99999, l_100000, l_1000000, l_2000000000, l_N, n_add, n_mul, n_lt, n_out, n_div, n_dm, n_eq, n_toN, n_inN, n_ltN, n_nltN, n_neN, Nat.not_lt_zero, false_or, or_false, ite_y, ite_n, if_true, if_false, ite_tt, ite_ff, b_0, b_1, eq_self_iff_true, Bool.true_eq_false, Bool.false_eq_true, hrow (m - 1) (by omega), hb, oI]
        exact j2 r hr
theorem c_add {q a T : Nat} {kb : Bool} {p : Nat → Option Nat} (hT : T ≤ 40) (h20 : I 20 q 8 = nI T) (hp : ∀ m x, p m = some x → x < 8) (hrow : ∀ m, m < T → I 14 a m = oI (p m)) (hd : 1 ≤ d) : ∃ J, K_X0_add X d q a (bI kb) (I, L, ()) = some (none, (J, L, ())) ∧ AP I q T kb p T T T J := by
  obtain ⟨e, rfl⟩ : ∃ e, d = e + 1 := ⟨d - 1, by omega⟩
  obtain ⟨J, g1, g2⟩ := loop_z (F := fun m (J : A3 Int32) => v_X0_add_2 X e q a (bI kb) (nI m) (J, L, ())) (P := fun m J => AP I q T kb p m m m J) T I ⟨Rq.refl, fun m hm c => by simp⟩ (fun m J hm hA => by
    have hr14 : ∀ m, m < T → J 14 a m = oI (p m) := fun m' hm' => by rw [hA.1 14 a (Or.inl (by decide))]; exact hrow m' hm'
    have hJ20 : J 20 q 8 = nI T := by rw [hA.1 20 q (Or.inl (by decide))]; exact h20
    cases hc : p m with
    | none =>
      refine ⟨J, ⟨hA.1, fun m' hm' c => ?_⟩, fun r hr => ?_⟩
      · obtain ⟨a1, a2, a3, a4⟩ := hA.2 m' hm' c
        refine ⟨?_, ?_, ?_, ?_⟩
        · rw [a1]; by_cases em : m' = m
          · subst em; rw [hc]; simp
          · rw [dlt em]
        · rw [a2]; by_cases em : m' = m
          · subst em; rw [hc]; simp
          · rw [dlt em]
        · rw [a3]; by_cases em : m' + 1 = m
          · subst em; rw [hc]; simp
          · rw [dlt em]
        · rw [a4]; by_cases em : m' + 1 = m
          · subst em; rw [hc]; simp
          · rw [dlt em]
      · refine v_X0_add_2.e X e _ _ _ _ J L r ?_
        rw [hJ20]
        simp (disch := omega) only [a_bi_i, a_bv_n, a_bl_l, a_bq_q, l_0, l_1, l_2, l_3, l_4, l_5, l_6, l_7, l_8, l_9, l_10, l_12, l_16, l_20, l_24, l_25, l_31, l_32, l_33, l_40, l_48, l_57, l_60, l_63, l_64, l_78, l_85, l_97, l_99, l_100, l_122, l_255, l_325, l_700, l_999, l_1000, l_1200, l_99999, l_100000, l_1000000, l_2000000000, l_N, n_add, n_mul, n_lt, n_out, n_div, n_dm, n_eq, n_toN, n_inN, n_ltN, n_nltN, n_neN, Nat.not_lt_zero, false_or, or_false, ite_y, ite_n, if_true, if_false, ite_tt, ite_ff, b_0, b_1, eq_self_iff_true, Bool.true_eq_false, Bool.false_eq_true, hr14 m hm, hc, oI]
        refine v_X0_add_135.e X e _ _ _ _ J L r ?_
        simp (disch := omega) only [a_bi_i, a_bv_n, a_bl_l, a_bq_q, l_0, l_1, l_2, l_3, l_4, l_5, l_6, l_7, l_8, l_9, l_10, l_12, l_16, l_20, l_24, l_25, l_31, l_32, l_33, l_40, l_48, l_57, l_60, l_63, l_64, l_78, l_85, l_97, l_99, l_100, l_122, l_255, l_325, l_700, l_999, l_1000, l_1200, l_99999, l_100000, l_1000000, l_2000000000, l_N, n_add, n_mul, n_lt, n_out, n_div, n_dm, n_eq, n_toN, n_inN, n_ltN, n_nltN, n_neN, Nat.not_lt_zero, false_or, or_false, ite_y, ite_n, if_true, if_false, ite_tt, ite_ff, b_0, b_1, eq_self_iff_true, Bool.true_eq_false, Bool.false_eq_true]
        exact hr
    | some c0 =>
      have hc8 := hp m c0 hc
      cases kb with
      | false =>
        obtain ⟨J', j1, j2⟩ := add_57 (X := X) (d := e) (L := L) (a := a) (kb := false) (I := I) (J := up3 J 21 q m (J 21 q m ||| (nI 1 <<< (nI c0 &&& nI 31)))) hT hm hc hc8 hp (fun m' hm' => by rw [u3_f _ _ (show 14 ≠ 21 by decide)]; exact hr14 m' hm') ⟨hA.1.up (by decide), fun m' hm' c => by
          obtain ⟨a1, a2, a3, a4⟩ := hA.2 m' hm' c
          rw [u3_f _ _ (show 22 ≠ 21 by decide), u3_f _ _ (show 23 ≠ 21 by decide), u3_f _ _ (show 24 ≠ 21 by decide)]
          refine ⟨?_, by rw [a2]; simp, a3, a4⟩
          by_cases em : m' = m
          · subst em
            rw [u3_eq, bt_or, a1, bt_one (by omega), hc]
            by_cases ec : c = c0
            · subst ec; simp
            · have : ¬ (c0 = c) := fun q => ec q.symm
              simp [ec, this]
          · rw [u3_j _ _ em, a1, dlt em]⟩
        refine ⟨J', j1, fun r hr => ?_⟩
        refine v_X0_add_2.e X e _ _ _ _ J L r ?_
        rw [hJ20]
        simp (disch := omega) only [a_bi_i, a_bv_n, a_bl_l, a_bq_q, l_0, l_1, l_2, l_3, l_4, l_5, l_6, l_7, l_8, l_9, l_10, l_12, l_16, l_20, l_24, l_25, l_31, l_32, l_33, l_40, l_48, l_57, l_60, l_63, l_64, l_78, l_85, l_97, l_99, l_100, l_122, l_255, l_325, l_700, l_999, l_1000, l_1200, l_99999, l_100000, l_1000000, l_2000000000, l_N, n_add, n_mul, n_lt, n_out, n_div, n_dm, n_eq, n_toN, n_inN, n_ltN, n_nltN, n_neN, Nat.not_lt_zero, false_or, or_false, ite_y, ite_n, if_true, if_false, ite_tt, ite_ff, b_0, b_1, eq_self_iff_true, Bool.true_eq_false, Bool.false_eq_true, hr14 m hm, hc, oI]
        exact j2 r hr
      | true =>
        obtain ⟨J', j1, j2⟩ := add_57 (X := X) (d := e) (L := L) (a := a) (kb := true) (I := I) (J := up3 (up3 J 21 q m (J 21 q m ||| (nI 1 <<< (nI c0 &&& nI 31)))) 22 q m (J 22 q m ||| (nI 1 <<< (nI c0 &&& nI 31)))) hT hm hc hc8 hp (fun m' hm' => by rw [u3_f _ _ (show 14 ≠ 22 by decide), u3_f _ _ (show 14 ≠ 21 by decide)]; exact hr14 m' hm') ⟨(hA.1.up (by decide)).up (by decide), fun m' hm' c => by
          obtain ⟨a1, a2, a3, a4⟩ := hA.2 m' hm' c
          rw [u3_f _ _ (show 21 ≠ 22 by decide), u3_f _ _ (show 23 ≠ 22 by decide), u3_f _ _ (show 24 ≠ 22 by decide), u3_f _ _ (show 23 ≠ 21 by decide), u3_f _ _ (show 24 ≠ 21 by decide)]
          refine ⟨?_, ?_, a3, a4⟩
          · by_cases em : m' = m
            · subst em
              rw [u3_eq, bt_or, a1, bt_one (by omega), hc]
              by_cases ec : c = c0
              · subst ec; simp
              · have : ¬ (c0 = c) := fun q => ec q.symm
                simp [ec, this]
            · rw [u3_j _ _ em, a1, dlt em]
          · by_cases em : m' = m
            · subst em
              rw [u3_eq, bt_or, a2, bt_one (by omega), hc]
              by_cases ec : c = c0
              · subst ec; simp
              · have : ¬ (c0 = c) := fun q => ec q.symm
                simp [ec, this]
            · rw [u3_j _ _ em, u3_f _ _ (show 22 ≠ 21 by decide), a2, dlt em]⟩
        refine ⟨J', j1, fun r hr => ?_⟩
        refine v_X0_add_2.e X e _ _ _ _ J L r ?_
        rw [hJ20]
        have e22 : ∀ x, up3 J 21 q m x 22 = J 22 := fun x => u3_f _ _ (show 22 ≠ 21 by decide)
        simp (disch := omega) only [a_bi_i, a_bv_n, a_bl_l, a_bq_q, l_0, l_1, l_2, l_3, l_4, l_5, l_6, l_7, l_8, l_9, l_10, l_12, l_16, l_20, l_24, l_25, l_31, l_32, l_33, l_40, l_48, l_57, l_60, l_63, l_64, l_78, l_85, l_97, l_99, l_100, l_122, l_255, l_325, l_700, l_999, l_1000, l_1200, l_99999, l_100000, l_1000000, l_2000000000, l_N, n_add, n_mul, n_lt, n_out, n_div, n_dm, n_eq, n_toN, n_inN, n_ltN, n_nltN, n_neN, Nat.not_lt_zero, false_or, or_false, ite_y, ite_n, if_true, if_false, ite_tt, ite_ff, b_0, b_1, eq_self_iff_true, Bool.true_eq_false, Bool.false_eq_true, hr14 m hm, hc, oI, e22]
        exact j2 r hr)
  refine ⟨J, K_X0_add.e X e q a _ I L _ (g2 _ ?_), g1⟩
  refine v_X0_add_2.e X e _ _ _ _ J L _ ?_
  rw [g1.1 20 q (Or.inl (by decide)), h20]
  simp (disch := omega) only [a_bi_i, a_bv_n, a_bl_l, a_bq_q, l_0, l_1, l_2, l_3, l_4, l_5, l_6, l_7, l_8, l_9, l_10, l_12, l_16, l_20, l_24, l_25, l_31, l_32, l_33, l_40, l_48, l_57, l_60, l_63, l_64, l_78, l_85, l_97, l_99, l_100, l_122, l_255, l_325, l_700, l_999, l_1000, l_1200, l_99999, l_100000, l_1000000, l_2000000000, l_N, n_add, n_mul, n_lt, n_out, n_div, n_dm, n_eq, n_toN, n_inN, n_ltN, n_nltN, n_neN, Nat.not_lt_zero, false_or, or_false, ite_y, ite_n, if_true, if_false, ite_tt, ite_ff, b_0, b_1, eq_self_iff_true, Bool.true_eq_false, Bool.false_eq_true]
end
