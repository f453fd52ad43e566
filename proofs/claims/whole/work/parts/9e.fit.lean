/-! which begins fit -/
section
variable {X : AX} {d : Nat} {I J : A3 Int32} {L : A3 Int64} {w : TW} {t : TS}
def misF (w : TW) (g : Nat → Int64) (b j : Nat) : Bool := decide (crs w 0 b (lgN (g (2 * j))) ≠ some (lgN (g (2 * j + 1))))
def fitB (w : TW) (n : Nat) (g : Nat → Int64) (b : Nat) : Bool := (fnd (n / 2) (misF w g b)).isNone
theorem lg_o {o : Option Nat} {c : Nat} (ho : ∀ x, o = some x → x < 1000) (hc : c < 1000) : (lg_cmp (oI o).toInt64 (nI c).toInt64 = nI 0) ↔ o = some c := by
  rw [show nI 0 = (0 : Int32) from rfl, lg_cmp_eq]
  have inj : ∀ a b : Int32, a.toInt64 = b.toInt64 → a = b := fun a b h => Int32.toInt_inj.mp (by
    have := congrArg Int64.toInt h
    rwa [Int32.toInt_toInt64, Int32.toInt_toInt64] at this)
  constructor
  · intro h
    have h := inj _ _ h
    cases o with
    | none => exact absurd h (fun z => (n_inN (a := c) (by omega)).mp z)
    | some x =>
      have := ho x rfl
      rw [(n_eq (a := x) (b := c) (by omega) (by omega)).mp h]
  · intro h; rw [h]; rfl
/-- the class's marks of the begins that fit, and their courses -/
def FB (I : A3 Int32) (w : TW) (n : Nat) (g : Nat → Int64) : Prop := (∀ b, b < 2 * w 0 → I 35 0 b = bI (fitB w n g b)) ∧ ∀ b, b < 2 * w 0 → ∀ m, m < w 1 → I 14 (b + 3) m = oI (crs w 0 b m)
theorem crs_1000 (v : Vw w) (h5 : 0 < w 5) {b m : Nat} (hb : b < 2 * w 0) : ∀ x, crs w 0 b m = some x → x < 1000 := fun x hx => by
  have := crs_lt v h5 hb hx
  have := v.1.1
  omega
theorem c_fit {s wd n : Nat} {g : Nat → Int64} (h : TC I w) (v : Vw w) (hS : SC I L t) (ht : Vt t) (hs : s < 4) (h5 : 0 < w 5) (hg : t s = some (wd, n, g)) (ho : siO w n g = true) (hd : 6 ≤ d) : ∃ J, K_X10_fitBegins X d s (I, L, ()) = some (some (aI (nI (cnt (2 * w 0) (fitB w n g)))), (J, L, ())) ∧ Sc I J ∧ TC J w ∧ FB J w n g := by
  obtain ⟨e, rfl⟩ : ∃ e, d = e + 1 := ⟨d - 1, by omega⟩
  obtain ⟨⟨w0, w1, -⟩, -⟩ := id v
  obtain ⟨s1, s2, s3, s4⟩ := hS.yes hs hg
  obtain ⟨v1, v2⟩ := ht s wd n g hg
  obtain ⟨o1, o2⟩ := siO_ok ho
  obtain ⟨I1, f1, f2, f3⟩ := c_followBegins (X := X) (d := e) (L := L) h v h5 (by omega)
  have fm1 : Fm [14] I I1 := fun f hf => funext fun i => f2 f i (Or.inl (fun z => hf (by rw [z]; decide)))
  have sc1 : Sc I I1 := Sc.of fm1 (by decide)
  have t1 : TC I1 w := h.sc sc1
  obtain ⟨J, ⟨g1, g2⟩, g3⟩ := loop_z (F := fun b (K : A3 Int32) => v_X10_fitBegins_8 X e s (nI (cnt b (fitB w n g))) (nI b) (K, L, ())) (P := fun b K => Fm [35] I1 K ∧ ∀ b', b' < b → K 35 0 b' = bI (fitB w n g b')) (2 * w 0) I1 ⟨Fm.refl, fun b hb => by omega⟩ (fun b K hb hP => by
    obtain ⟨p1, p2⟩ := hP
    have tK : TC K w := t1.sc (Sc.of p1 (by decide))
    obtain ⟨K2, ⟨q1, q2, q3⟩, q4⟩ := loop_z (F := fun j (K' : A3 Int32) => v_X10_fitBegins_29 X e s (nI (cnt b (fitB w n g))) (nI b) (nI (2 * j)) (K', L, ())) (P := fun j K' => Fm [35] I1 K' ∧ (∀ b', b' < b → K' 35 0 b' = bI (fitB w n g b')) ∧ K' 35 0 b = bI (fnd j (misF w g b)).isNone) (n / 2) (up3 K 35 0 b (nI 1)) ⟨p1.up (by decide), fun b' hb' => by rw [u3_j _ _ (by omega)]; exact p2 b' hb', u3_eq _ _ _ _ _⟩ (fun j K' hj hP => by
      obtain ⟨p1, p2, p3⟩ := hP
      have hok := o2 j hj
      unfold okPr at hok
      rw [Bool.and_eq_true] at hok
      obtain ⟨m1, m2⟩ := inL_ex (by omega) hok.1
      obtain ⟨c1, c2⟩ := inL_ex (by omega) hok.2
      have e32 : K' 32 = I 32 := by rw [p1 32 (by decide), fm1 32 (by decide)]
      have hlg := lg_o (o := crs w 0 b (lgN (g (2 * j)))) (c := lgN (g (2 * j + 1))) (crs_1000 v h5 hb) (by omega)
      have e14 : K' 14 (b + 3) (lgN (g (2 * j))) = oI (crs w 0 b (lgN (g (2 * j)))) := by rw [p1 14 (by decide)]; exact f3 b hb _ m1
      have a1 : L 33 s (2 * j) = (nI (lgN (g (2 * j)))).toInt64 := by rw [s4 _ (by omega)]; exact m2
      have a2 : L 33 s (2 * j + 1) = (nI (lgN (g (2 * j + 1)))).toInt64 := by rw [s4 _ (by omega)]; exact c2
      by_cases hc : crs w 0 b (lgN (g (2 * j))) = some (lgN (g (2 * j + 1)))
      · refine ⟨K', ⟨p1, p2, ?_⟩, fun r hr => v_X10_fitBegins_29.e X e _ _ _ _ K' L r ?_⟩
        · rw [p3, fnd_succ]
          have : misF w g b j = false := by unfold misF; rw [hc]; simp
          rw [this]
          cases fnd j (misF w g b) <;> rfl
        · rw [e32, s3]
          simp (disch := omega) only [a_bi_i, a_bv_n, a_bl_l, a_bq_q, l_0, l_1, l_2, l_3, l_4, l_5, l_6, l_7, l_8, l_9, l_10, l_12, l_16, l_20, l_24, l_25, l_31, l_32, l_33, l_40, l_48, l_57, l_60, l_63, l_64, l_78, l_85, l_97, l_99, l_100, l_122, l_255, l_325, l_700, l_999, l_1000, l_1200, l_99999, l_100000, l_1000000, l_2000000000, l_N, n_add, n_mul, n_lt, n_out, n_div, n_dm, n_eq, n_toN, n_inN, n_ltN, n_nltN, n_neN, Nat.not_lt_zero, false_or, or_false, ite_y, ite_n, if_true, if_false, ite_tt, ite_ff, b_0, b_1, eq_self_iff_true, Bool.true_eq_false, Bool.false_eq_true, a1, a2, n_32, e14, hlg]
          exact hr
      · refine ⟨up3 K' 35 0 b (nI 0), ⟨p1.up (by decide), fun b' hb' => by rw [u3_j _ _ (by omega)]; exact p2 b' hb', ?_⟩, fun r hr => v_X10_fitBegins_29.e X e _ _ _ _ K' L r ?_⟩
        · rw [u3_eq, fnd_succ]
          have : misF w g b j = true := by unfold misF; simp [hc]
          rw [this]
          cases fnd j (misF w g b) <;> rfl
        · rw [e32, s3]
          simp (disch := omega) only [a_bi_i, a_bv_n, a_bl_l, a_bq_q, l_0, l_1, l_2, l_3, l_4, l_5, l_6, l_7, l_8, l_9, l_10, l_12, l_16, l_20, l_24, l_25, l_31, l_32, l_33, l_40, l_48, l_57, l_60, l_63, l_64, l_78, l_85, l_97, l_99, l_100, l_122, l_255, l_325, l_700, l_999, l_1000, l_1200, l_99999, l_100000, l_1000000, l_2000000000, l_N, n_add, n_mul, n_lt, n_out, n_div, n_dm, n_eq, n_toN, n_inN, n_ltN, n_nltN, n_neN, Nat.not_lt_zero, false_or, or_false, ite_y, ite_n, if_true, if_false, ite_tt, ite_ff, b_0, b_1, eq_self_iff_true, Bool.true_eq_false, Bool.false_eq_true, a1, a2, n_32, e14, hlg, hc]
          exact hr)
    have e32 : K2 32 = I 32 := by rw [q1 32 (by decide), fm1 32 (by decide)]
    have q3' : K2 35 0 b = bI (fitB w n g b) := q3
    refine ⟨K2, ⟨q1, fun b' hb' => ?_⟩, fun r hr => v_X10_fitBegins_8.e X e _ _ _ K L r ?_⟩
    · by_cases ee : b' = b
      · subst ee; exact q3'
      · exact q2 b' (by omega)
    · simp (disch := omega) only [a_bi_i, a_bv_n, a_bl_l, a_bq_q, l_0, l_1, l_2, l_3, l_4, l_5, l_6, l_7, l_8, l_9, l_10, l_12, l_16, l_20, l_24, l_25, l_31, l_32, l_33, l_40, l_48, l_57, l_60, l_63, l_64, l_78, l_85, l_97, l_99, l_100, l_122, l_255, l_325, l_700, l_999, l_1000, l_1200, l_99999, l_100000, l_1000000, l_2000000000, l_N, n_add, n_mul, n_lt, n_out, n_div, n_dm, n_eq, n_toN, n_inN, n_ltN, n_nltN, n_neN, Nat.not_lt_zero, false_or, or_false, ite_y, ite_n, if_true, if_false, ite_tt, ite_ff, b_0, b_1, eq_self_iff_true, Bool.true_eq_false, Bool.false_eq_true, c_beginCount tK v]
      have q4' : OLe (v_X10_fitBegins_29 X e s (nI (cnt b (fitB w n g))) (nI b) (nI (2 * (n / 2))) (K2, L, ())) (v_X10_fitBegins_29 X e s (nI (cnt b (fitB w n g))) (nI b) (nI 0) (up3 K 35 0 b (nI 1), L, ())) := q4
      refine q4' _ (v_X10_fitBegins_29.e X e _ _ _ _ K2 L r ?_)
      rw [e32, s3]
      have : ¬ 2 * (n / 2) + 1 < n := by omega
      simp (disch := omega) only [a_bi_i, a_bv_n, a_bl_l, a_bq_q, l_0, l_1, l_2, l_3, l_4, l_5, l_6, l_7, l_8, l_9, l_10, l_12, l_16, l_20, l_24, l_25, l_31, l_32, l_33, l_40, l_48, l_57, l_60, l_63, l_64, l_78, l_85, l_97, l_99, l_100, l_122, l_255, l_325, l_700, l_999, l_1000, l_1200, l_99999, l_100000, l_1000000, l_2000000000, l_N, n_add, n_mul, n_lt, n_out, n_div, n_dm, n_eq, n_toN, n_inN, n_ltN, n_nltN, n_neN, Nat.not_lt_zero, false_or, or_false, ite_y, ite_n, if_true, if_false, ite_tt, ite_ff, b_0, b_1, eq_self_iff_true, Bool.true_eq_false, Bool.false_eq_true, this, q3']
      rw [cnt] at hr
      cases hf : fitB w n g b with
      | true => rw [hf] at hr; simp only [if_true, Bool.true_eq_false, if_false] at hr ⊢; exact hr
      | false => rw [hf] at hr; simp only [if_true, Bool.false_eq_true, if_false] at hr ⊢; exact hr)
  have sJ : Sc I1 J := Sc.of g1 (by decide)
  refine ⟨J, K_X10_fitBegins.e X e _ I L _ ?_, sc1.trans sJ, t1.sc sJ, g2, fun b hb m hm => by rw [g1 14 (by decide)]; exact f3 b hb m hm⟩
  simp (disch := omega) only [a_bi_i, a_bv_n, a_bl_l, a_bq_q, l_0, l_1, l_2, l_3, l_4, l_5, l_6, l_7, l_8, l_9, l_10, l_12, l_16, l_20, l_24, l_25, l_31, l_32, l_33, l_40, l_48, l_57, l_60, l_63, l_64, l_78, l_85, l_97, l_99, l_100, l_122, l_255, l_325, l_700, l_999, l_1000, l_1200, l_99999, l_100000, l_1000000, l_2000000000, l_N, n_add, n_mul, n_lt, n_out, n_div, n_dm, n_eq, n_toN, n_inN, n_ltN, n_nltN, n_neN, Nat.not_lt_zero, false_or, or_false, ite_y, ite_n, if_true, if_false, ite_tt, ite_ff, b_0, b_1, eq_self_iff_true, Bool.true_eq_false, Bool.false_eq_true, f1]
  refine g3 _ (v_X10_fitBegins_8.e X e _ _ _ J L _ ?_)
  simp (disch := omega) only [a_bi_i, a_bv_n, a_bl_l, a_bq_q, l_0, l_1, l_2, l_3, l_4, l_5, l_6, l_7, l_8, l_9, l_10, l_12, l_16, l_20, l_24, l_25, l_31, l_32, l_33, l_40, l_48, l_57, l_60, l_63, l_64, l_78, l_85, l_97, l_99, l_100, l_122, l_255, l_325, l_700, l_999, l_1000, l_1200, l_99999, l_100000, l_1000000, l_2000000000, l_N, n_add, n_mul, n_lt, n_out, n_div, n_dm, n_eq, n_toN, n_inN, n_ltN, n_nltN, n_neN, Nat.not_lt_zero, false_or, or_false, ite_y, ite_n, if_true, if_false, ite_tt, ite_ff, b_0, b_1, eq_self_iff_true, Bool.true_eq_false, Bool.false_eq_true, c_beginCount (t1.sc sJ) v, Nat.lt_irrefl]
theorem m_isSighted {s wd n b : Nat} {g : Nat → Int64} (h : TM I w) (v : Vw w) (hS : SM I L t) (ht : Vt t) (hs : s < 4) (h5 : 0 < w 5) (hg : t s = some (wd, n, g)) (ho : siO w n g = true) (hb : b < 2 * w 0) (hd : 5 ≤ d) : ∃ J, K_X11_isSighted X d (nI s) (nI b) (I, L, ()) = some (some (aI (bI (fitB w n g b))), (J, L, ())) ∧ Fm [47, 48] I J ∧ ∀ m, m < w 1 → J 47 0 m = oI (crs w 0 b m) := by
  obtain ⟨e, rfl⟩ : ∃ e, d = e + 1 := ⟨d - 1, by omega⟩
  obtain ⟨⟨w0, w1, -⟩, -⟩ := id v
  obtain ⟨s1, s2, s4⟩ := hS.yes hs hg
  obtain ⟨v1, v2⟩ := ht s wd n g hg
  obtain ⟨o1, o2⟩ := siO_ok ho
  obtain ⟨J, g1, g2, g3, g4, g5, g6⟩ := m_lay (X := X) (d := e) (L := L) (i := 0) (b := b) (k := 0) h v h5 hb (by decide) (by omega)
  have g3' : ∀ m, m < w 1 → J 47 0 m = oI (crs w 0 b m) := fun m hm => by have := g3 m hm; rwa [show 40 * 0 + m = m by omega] at this
  have e59 : J 59 0 s = nI n := by rw [g2 59 (by decide)]; exact s1
  have pos : ∀ m, m < w 1 → K_X11_posOf X e (nI 0) (nI m) (J, L, ()) = some (some (aI (oI (crs w 0 b m))), (J, L, ())) := fun m hm => by
    obtain ⟨e', rfl⟩ : ∃ e', e = e' + 1 := ⟨e - 1, by omega⟩
    refine K_X11_posOf.e X e' _ _ J L _ ?_
    simp (disch := omega) only [a_bi_i, a_bv_n, a_bl_l, a_bq_q, l_0, l_1, l_2, l_3, l_4, l_5, l_6, l_7, l_8, l_9, l_10, l_12, l_16, l_20, l_24, l_25, l_31, l_32, l_33, l_40, l_48, l_57, l_60, l_63, l_64, l_78, l_85, l_97, l_99, l_100, l_122, l_255, l_325, l_700, l_999, l_1000, l_1200, l_99999, l_100000, l_1000000, l_2000000000, l_N, n_add, n_mul, n_lt, n_out, n_div, n_dm, n_eq, n_toN, n_inN, n_ltN, n_nltN, n_neN, Nat.not_lt_zero, false_or, or_false, ite_y, ite_n, if_true, if_false, ite_tt, ite_ff, b_0, b_1, eq_self_iff_true, Bool.true_eq_false, Bool.false_eq_true]
    rw [show 40 * 0 + m = m by omega, g3' m hm]
  have key : ∀ k j, j + k = n / 2 → v_X11_isSighted_9 X e (nI s) (nI (2 * j)) (J, L, ()) = some (some (aI (bI (fndF (misF w g b) k j).isNone)), (J, L, ())) := by
    intro k
    induction k with
    | zero =>
      intro j hj
      refine v_X11_isSighted_9.e X e _ _ J L _ ?_
      have : ¬ 2 * j < n := by omega
      simp (disch := omega) only [a_bi_i, a_bv_n, a_bl_l, a_bq_q, l_0, l_1, l_2, l_3, l_4, l_5, l_6, l_7, l_8, l_9, l_10, l_12, l_16, l_20, l_24, l_25, l_31, l_32, l_33, l_40, l_48, l_57, l_60, l_63, l_64, l_78, l_85, l_97, l_99, l_100, l_122, l_255, l_325, l_700, l_999, l_1000, l_1200, l_99999, l_100000, l_1000000, l_2000000000, l_N, n_add, n_mul, n_lt, n_out, n_div, n_dm, n_eq, n_toN, n_inN, n_ltN, n_nltN, n_neN, Nat.not_lt_zero, false_or, or_false, ite_y, ite_n, if_true, if_false, ite_tt, ite_ff, b_0, b_1, eq_self_iff_true, Bool.true_eq_false, Bool.false_eq_true, e59, this]
      rfl
    | succ k ih =>
      intro j hj
      have hok := o2 j (by omega)
      unfold okPr at hok
      rw [Bool.and_eq_true] at hok
      obtain ⟨m1, m2⟩ := inL_ex (by omega) hok.1
      obtain ⟨c1, c2⟩ := inL_ex (by omega) hok.2
      have hlg := lg_o (o := crs w 0 b (lgN (g (2 * j)))) (c := lgN (g (2 * j + 1))) (crs_1000 v h5 hb) (by omega)
      have a1 : L 61 0 (60 * s + 2 * j) = (nI (lgN (g (2 * j)))).toInt64 := by rw [s4 _ (by omega)]; exact m2
      have a2 : L 61 0 (60 * s + (2 * j + 1)) = (nI (lgN (g (2 * j + 1)))).toInt64 := by rw [s4 _ (by omega)]; exact c2
      refine v_X11_isSighted_9.e X e _ _ J L _ ?_
      simp (disch := omega) only [a_bi_i, a_bv_n, a_bl_l, a_bq_q, l_0, l_1, l_2, l_3, l_4, l_5, l_6, l_7, l_8, l_9, l_10, l_12, l_16, l_20, l_24, l_25, l_31, l_32, l_33, l_40, l_48, l_57, l_60, l_63, l_64, l_78, l_85, l_97, l_99, l_100, l_122, l_255, l_325, l_700, l_999, l_1000, l_1200, l_99999, l_100000, l_1000000, l_2000000000, l_N, n_add, n_mul, n_lt, n_out, n_div, n_dm, n_eq, n_toN, n_inN, n_ltN, n_nltN, n_neN, Nat.not_lt_zero, false_or, or_false, ite_y, ite_n, if_true, if_false, ite_tt, ite_ff, b_0, b_1, eq_self_iff_true, Bool.true_eq_false, Bool.false_eq_true, e59, m_numberAt, a1, a2, n_32, pos _ m1, hlg]
      rw [fndF]
      by_cases hc : crs w 0 b (lgN (g (2 * j))) = some (lgN (g (2 * j + 1)))
      · have : misF w g b j = false := by unfold misF; rw [hc]; simp
        rw [if_pos hc, this, if_neg (by decide)]
        exact ih (j + 1) (by omega)
      · have : misF w g b j = true := by unfold misF; simp [hc]
        rw [if_neg hc, this, if_pos rfl]
        rfl
  refine ⟨J, K_X11_isSighted.e X e _ _ I L _ ?_, g2, g3'⟩
  have g1' : K_X11_lay X e (nI 0) (nI 0) (nI b) (I, L, ()) = some (none, (J, L, ())) := g1
  simp only [a_bi_i, a_bv_n, a_bl_l, a_bq_q, l_0, g1']
  exact key (n / 2) 0 (by omega)
theorem m_sightedOf {s wd n : Nat} {g : Nat → Int64} (h : TM I w) (v : Vw w) (hS : SM I L t) (ht : Vt t) (hs : s < 4) (h5 : 0 < w 5) (hg : t s = some (wd, n, g)) (ho : siO w n g = true) (hd : 6 ≤ d) : ∃ J, K_X11_sightedOf X d (nI s) (I, L, ()) = some (some (aI (nI (cnt (2 * w 0) (fitB w n g)))), (J, L, ())) ∧ Fm [47, 48] I J := by
  obtain ⟨e, rfl⟩ : ∃ e, d = e + 1 := ⟨d - 1, by omega⟩
  obtain ⟨⟨w0, w1, -⟩, -⟩ := id v
  obtain ⟨J, g1, g2⟩ := loop_z (F := fun b (K : A3 Int32) => v_X11_sightedOf_4 X e (nI s) (nI (cnt b (fitB w n g))) (nI b) (K, L, ())) (P := fun b K => Fm [47, 48] I K) (2 * w 0) I Fm.refl (fun b K hb hP => by
    have tK : TM K w := h.fm hP (by decide)
    obtain ⟨K2, a1, a2, a3⟩ := m_isSighted (X := X) (d := e) (L := L) (b := b) tK v (hS.fm hP (by decide) (by decide)) ht hs h5 hg ho hb (by omega)
    refine ⟨K2, hP.trans a2, fun r hr => v_X11_sightedOf_4.e X e _ _ _ K L r ?_⟩
    rw [tK 0 (by decide)]
    rw [cnt] at hr
    simp (disch := omega) only [a_bi_i, a_bv_n, a_bl_l, a_bq_q, l_0, l_1, l_2, l_3, l_4, l_5, l_6, l_7, l_8, l_9, l_10, l_12, l_16, l_20, l_24, l_25, l_31, l_32, l_33, l_40, l_48, l_57, l_60, l_63, l_64, l_78, l_85, l_97, l_99, l_100, l_122, l_255, l_325, l_700, l_999, l_1000, l_1200, l_99999, l_100000, l_1000000, l_2000000000, l_N, n_add, n_mul, n_lt, n_out, n_div, n_dm, n_eq, n_toN, n_inN, n_ltN, n_nltN, n_neN, Nat.not_lt_zero, false_or, or_false, ite_y, ite_n, if_true, if_false, ite_tt, ite_ff, b_0, b_1, eq_self_iff_true, Bool.true_eq_false, Bool.false_eq_true, a1]
    cases hf : fitB w n g b with
    | true => rw [hf] at hr; simp only [if_true, Bool.true_eq_false, if_false] at hr ⊢; exact hr
    | false => rw [hf] at hr; simp only [if_true, Bool.false_eq_true, if_false] at hr ⊢; exact hr)
  refine ⟨J, K_X11_sightedOf.e X e _ I L _ (g2 _ (v_X11_sightedOf_4.e X e _ _ _ J L _ ?_)), g1⟩
  rw [(h.fm g1 (by decide)) 0 (by decide)]
  simp (disch := omega) only [a_bi_i, a_bv_n, a_bl_l, a_bq_q, l_0, l_1, l_2, l_3, l_4, l_5, l_6, l_7, l_8, l_9, l_10, l_12, l_16, l_20, l_24, l_25, l_31, l_32, l_33, l_40, l_48, l_57, l_60, l_63, l_64, l_78, l_85, l_97, l_99, l_100, l_122, l_255, l_325, l_700, l_999, l_1000, l_1200, l_99999, l_100000, l_1000000, l_2000000000, l_N, n_add, n_mul, n_lt, n_out, n_div, n_dm, n_eq, n_toN, n_inN, n_ltN, n_nltN, n_neN, Nat.not_lt_zero, false_or, or_false, ite_y, ite_n, if_true, if_false, ite_tt, ite_ff, b_0, b_1, eq_self_iff_true, Bool.true_eq_false, Bool.false_eq_true, Nat.lt_irrefl]
end
