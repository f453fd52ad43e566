/-! a whole ride; the reference's -/
section
variable {X : AX} {d : Nat} {I : A3 Int32} {L : A3 Int64} {w : TW}
theorem hadF_succ {n m : Nat} {met : Nat → Nat → Bool} : hadF (m + 1) n met = match hadF m n met with
  | some x => some x
  | none => if (fnd n (fun k => met k m)).isSome = true then some m else none := fnd_succ m
theorem hadF_lt {n m x : Nat} {met : Nat → Nat → Bool} (h : hadF m n met = some x) : x < m := (fnd_some h).1
theorem c_travel {r rule n : Nat} {ps : Nat → Nat → Option Nat} (h : TC I w) (v : Vw w) (hr : r < w 6) (hru : rule ≤ 3) (hP : PC I (w 1) n ps) (hn : n ≤ 3) (hnw : n ≤ w 5) (hps : ∀ i, i < n → ∀ m z, ps i m = some z → z < w 0) (hd : 6 ≤ d) : ∃ J, K_X5_travel X d r (nI r) (nI rule) (nI n) (I, L, ()) = some (none, (J, L, ())) ∧ Rq [17, 18] r I J ∧ RP J r (w 1) (plc w n ps r rule) ∧ J 17 r 5 = oI (hadF (w 1) n (metC ps (knA w) (plc w n ps r rule))) ∧ J 17 r 6 = oI (byF (w 1) n (metC ps (knA w) (plc w n ps r rule))) := by
  obtain ⟨e, rfl⟩ : ∃ e, d = e + 1 := ⟨d - 1, by omega⟩
  obtain ⟨⟨h0, h1, -, -, -, h5, h6, -⟩, -, -, vi, vr, -⟩ := id v
  have hvr := vr r hr
  have hps8 : ∀ i, i < n → ∀ m z, ps i m = some z → z < 8 := fun i hi m z hz => by have := hps i hi m z hz; omega
  have hok : ∀ m, plOk w rule (plc w n ps r rule m) := plc_ok v hr
  have hp8 : ∀ m, (plc w n ps r rule m).1 < 8 := fun m => by have := (hok m).1; omega
  generalize hpp : plc w n ps r rule = p at *
  have pstep : ∀ m, p (m + 1) = goF w (gA n ps m) rule (w (50 + 5 * r)) m (p m) := fun m => by rw [← hpp]; rfl
  have p0 : p 0 = (w (48 + 5 * r), false) := by rw [← hpp]; rfl
  have up : ∀ {J : A3 Int32} {j : Nat} {x : Int32}, TC J w → TC (up3 J 17 r j x) w := fun hJ => hJ.fm (l := [17]) (Fm.refl.up (by decide)) (by decide) (by decide) (by decide) (by decide) (by decide)
  generalize hJ0 : up3 (up3 (up3 (up3 I 17 r 3 (nI n)) 17 r 4 (nI (w (50 + 5 * r)))) 17 r 5 nN) 17 r 6 nN = J0
  have t0 : TC J0 w := by rw [← hJ0]; exact up (up (up (up h)))
  have r0 : Rq [17, 18] r I J0 := by
    rw [← hJ0]
    exact (((Rq.refl.up (by decide)).up (by decide)).up (by decide)).up (by decide)
  have c0 : J0 17 r 3 = nI n ∧ J0 17 r 4 = nI (w (50 + 5 * r)) ∧ J0 17 r 5 = nN ∧ J0 17 r 6 = nN := by
    rw [← hJ0]
    refine ⟨?_, ?_, ?_, u3_eq _ _ _ _ _⟩
    · rw [u3_j _ _ (by decide), u3_j _ _ (by decide), u3_j _ _ (by decide), u3_eq]
    · rw [u3_j _ _ (by decide), u3_j _ _ (by decide), u3_eq]
    · rw [u3_j _ _ (by decide), u3_eq]
  obtain ⟨⟨l4, J⟩, ⟨k1, k2, k3, k4, k5, k6⟩, k7⟩ := loop_z (F := fun m (s : Int32 × A3 Int32) => v_X5_travel_42 X e r (nI rule) s.1 (nI m) (s.2, L, ())) (P := fun m s => Rq [17, 18] r I s.2 ∧ RI s.2 r n (w (50 + 5 * r)) ∧ RP s.2 r m p ∧ s.1 = nI (clP (p m)) ∧ s.2 17 r 5 = oI (hadF m n (metC ps (knA w) p)) ∧ s.2 17 r 6 = oI (byF m n (metC ps (knA w) p))) (w 1) (nI (w (48 + 5 * r)), J0) ⟨r0, ⟨c0.1, c0.2.1⟩, fun j hj => by omega, by rw [p0]; rfl, c0.2.2.1, c0.2.2.2⟩ (fun m s hm hs => by
    obtain ⟨l4, J⟩ := s
    obtain ⟨s1, s2, s3, s4, s5, s6⟩ := hs
    simp only at s1 s2 s3 s4 s5 s6
    subst s4
    have hc16 := clP_lt (hp8 m)
    have q1 : Rq [17, 18] r I (up3 J 18 r m (nI (clP (p m)))) := s1.up (by decide)
    have q17 : (up3 J 18 r m (nI (clP (p m)))) 17 = J 17 := u3_f _ _ (by decide)
    have q2 : RI (up3 J 18 r m (nI (clP (p m)))) r n (w (50 + 5 * r)) := by unfold RI; rw [q17]; exact s2
    have q3 : RP (up3 J 18 r m (nI (clP (p m)))) r (m + 1) p := fun j hj => by
      by_cases ej : j = m
      · subst ej; exact u3_eq _ _ _ _ _
      · rw [u3_j _ _ ej]; exact s3 j (by omega)
    have tc : ∀ {K : A3 Int32}, Rq [17, 18] r I K → TC K w := fun hK => h.fm hK.fm (by decide) (by decide) (by decide) (by decide) (by decide)
    have pc : ∀ {K : A3 Int32}, Rq [17, 18] r I K → PC K (w 1) n ps := fun hK k hk m hm => by rw [hK 14 k (Or.inl (by decide))]; exact hP k hk m hm
    obtain ⟨J2, g1, g2, g3, g4⟩ := c_look (X := X) (d := e) (L := L) (M := m + 1) (tc q1) v q2 (pc q1) q3 hn hnw h1 hm (by omega) hps8 hp8 (by omega)
    have q4 : Rq [17, 18] r I J2 := q1.trans (Rq.rw g2 (by decide))
    have q5 : RI J2 r n (w (50 + 5 * r)) := ⟨by rw [g3 3 (by decide) (by decide)]; exact q2.1, by rw [g3 4 (by decide) (by decide)]; exact q2.2⟩
    have q6 : RP J2 r (m + 1) p := fun j hj => by rw [g2 18 r (Or.inl (by decide))]; exact q3 j hj
    have hpa := c_placeAfter (X := X) (d := e) (L := L) (p := p m) (tc q4) v q5 (pc q4) hn hm (hok m) hvr.2.2.1 hru (fun k hk x hx => hps k hk m x hx) (by omega)
    rw [← pstep m] at hpa
    refine ⟨(nI (clP (p (m + 1))), J2), ⟨q4, q5, q6, rfl, ?_⟩, fun z hz => ?_⟩
    · rw [q17] at g4
      simp only
      rw [hadF_succ]
      unfold byF
      rw [hadF_succ]
      unfold byF at s6
      cases hh : hadF m n (metC ps (knA w) p) with
      | some x =>
        have hx := hadF_lt hh
        rw [hh] at s5 s6
        simp only at s6
        rw [if_neg (by rw [s5]; exact fun q => (n_neN (show x < 2147483648 by omega)).mp q)] at g4
        simp only at g4 ⊢
        exact ⟨g4.1.trans s5, g4.2.trans s6⟩
      | none =>
        rw [hh] at s5 s6
        simp only at s6
        have s5' : J 17 r 5 = nN := s5
        rw [if_pos s5'] at g4
        cases hf : fnd n (fun k => metC ps (knA w) p k m) with
        | none =>
          rw [hf] at g4
          simp only [Option.isSome_none, Bool.false_eq_true, if_false] at g4 ⊢
          exact ⟨g4.1.trans s5, g4.2.trans s6⟩
        | some k =>
          rw [hf] at g4
          simp only [Option.isSome_some, if_true] at g4 ⊢
          rw [hf]
          exact g4
    · refine v_X5_travel_42.e X e _ _ _ _ J L z ?_
      simp (disch := omega) only [a_bi_i, a_bv_n, a_bl_l, a_bq_q, l_0, l_1, l_2, l_3, l_4, l_5, l_6, l_7, l_8, l_9, l_10, l_12, l_16, l_20, l_24, l_25, l_31, l_32, l_33, l_40, l_48, l_57, l_60, l_63, l_64, l_78, l_85, l_97, l_99, l_100, l_122, l_255, l_325, l_700, l_999, l_1000, l_1200, l_99999, l_100000, l_1000000, l_2000000000, l_N, n_add, n_mul, n_lt, n_out, n_div, n_dm, n_eq, n_toN, n_inN, n_ltN, n_nltN, n_neN, Nat.not_lt_zero, false_or, or_false, ite_y, ite_n, if_true, if_false, ite_tt, ite_ff, b_0, b_1, eq_self_iff_true, Bool.true_eq_false, Bool.false_eq_true, c_minutes (tc s1) v, g1, hpa]
      exact hz)
  simp only at k1 k2 k3 k4 k5 k6 k7
  refine ⟨J, K_X5_travel.e X e r _ _ _ I L _ ?_, k1, k3, k5, k6⟩
  have tJ : TC J w := h.fm k1.fm (by decide) (by decide) (by decide) (by decide) (by decide)
  have ta : TC (up3 I 17 r 3 (nI n)) w := up h
  have tb : TC (up3 (up3 (up3 (up3 I 17 r 3 (nI n)) 17 r 4 (nI (w (50 + 5 * r)))) 17 r 5 nN) 17 r 6 nN) w := by rw [hJ0]; exact t0
  simp (disch := omega) only [a_bi_i, a_bv_n, a_bl_l, a_bq_q, l_0, l_1, l_2, l_3, l_4, l_5, l_6, l_7, l_8, l_9, l_10, l_12, l_16, l_20, l_24, l_25, l_31, l_32, l_33, l_40, l_48, l_57, l_60, l_63, l_64, l_78, l_85, l_97, l_99, l_100, l_122, l_255, l_325, l_700, l_999, l_1000, l_1200, l_99999, l_100000, l_1000000, l_2000000000, l_N, n_add, n_mul, n_lt, n_out, n_div, n_dm, n_eq, n_toN, n_inN, n_ltN, n_nltN, n_neN, Nat.not_lt_zero, false_or, or_false, ite_y, ite_n, if_true, if_false, ite_tt, ite_ff, b_0, b_1, eq_self_iff_true, Bool.true_eq_false, Bool.false_eq_true, c_or2 ta v, hJ0, c_or0 t0 v]
  refine k7 _ (v_X5_travel_42.e X e _ _ _ _ J L _ ?_)
  simp (disch := omega) only [a_bi_i, a_bv_n, a_bl_l, a_bq_q, l_0, l_1, l_2, l_3, l_4, l_5, l_6, l_7, l_8, l_9, l_10, l_12, l_16, l_20, l_24, l_25, l_31, l_32, l_33, l_40, l_48, l_57, l_60, l_63, l_64, l_78, l_85, l_97, l_99, l_100, l_122, l_255, l_325, l_700, l_999, l_1000, l_1200, l_99999, l_100000, l_1000000, l_2000000000, l_N, n_add, n_mul, n_lt, n_out, n_div, n_dm, n_eq, n_toN, n_inN, n_ltN, n_nltN, n_neN, Nat.not_lt_zero, false_or, or_false, ite_y, ite_n, if_true, if_false, ite_tt, ite_ff, b_0, b_1, eq_self_iff_true, Bool.true_eq_false, Bool.false_eq_true, c_minutes tJ v]
/-! the reference -/
def rmP (p : Nat × Bool) : Nat := 2 * p.1 + (if p.2 = true then 1 else 0)
theorem rmP_div (p : Nat × Bool) : rmP p / 2 = p.1 := by unfold rmP; split <;> omega
theorem rmP_mod (p : Nat × Bool) : rmP p % 2 = (if p.2 = true then 1 else 0) := by unfold rmP; split <;> omega
theorem rmP_lt {p : Nat × Bool} (h : p.1 < 8) : rmP p < 16 := by unfold rmP; split <;> omega
theorem m_bit {x : Int32} {k : Nat} (hk : k < 32) (hd : 1 ≤ d) : K_X11_bit X d x (nI k) (I, L, ()) = some (some (aI (bI (bt x k))), (I, L, ())) := by
  obtain ⟨e, rfl⟩ : ∃ e, d = e + 1 := ⟨d - 1, by omega⟩
  refine K_X11_bit.e X e _ _ I L _ ?_
  rw [l_31, l_1, bt_test hk]
theorem m_nearest {T n c m : Nat} {ps : Nat → Nat → Option Nat} {kn : Nat → Nat} (h : TM I w) (v : Vw w) (hP : PM I T n ps kn) (hm : m < T) (hn : n ≤ 3) (hT : T ≤ 40) (hp : ∀ k, k < n → ∀ m x, ps k m = some x → x < 8) (hc : c < 8) (hd : 3 ≤ d) : K_X11_nearest X d (nI c) (nI m) (I, L, ()) = some (some (aI (oI (nr (gA n ps m) c (w 0)))), (I, L, ())) := by
  obtain ⟨e, rfl⟩ : ∃ e, d = e + 1 := ⟨d - 1, by omega⟩
  obtain ⟨⟨h0, h1, -⟩, -⟩ := id v
  obtain ⟨x, x1, x2⟩ := m_watchedIn (X := X) (d := e) (L := L) hP hm hn hT hp (by omega)
  obtain ⟨l3, g1, g2⟩ := loop_z (F := fun k (s : Int32) => v_X11_nearest_5 X e (nI c) (nI m) s (nI k) (I, L, ())) (P := fun k s => s = oI (nr (gA n ps m) c k)) (w 0) nN rfl (fun k s hk hs => by
    subst hs
    refine ⟨_, rfl, fun z hz => ?_⟩
    refine v_X11_nearest_5.e X e _ _ _ _ I L z ?_
    rw [h 0 (by decide)]
    simp (disch := omega) only [a_bi_i, a_bv_n, a_bl_l, a_bq_q, l_0, l_1, l_2, l_3, l_4, l_5, l_6, l_7, l_8, l_9, l_10, l_12, l_16, l_20, l_24, l_25, l_31, l_32, l_33, l_40, l_48, l_57, l_60, l_63, l_64, l_78, l_85, l_97, l_99, l_100, l_122, l_255, l_325, l_700, l_999, l_1000, l_1200, l_99999, l_100000, l_1000000, l_2000000000, l_N, n_add, n_mul, n_lt, n_out, n_div, n_dm, n_eq, n_toN, n_inN, n_ltN, n_nltN, n_neN, Nat.not_lt_zero, false_or, or_false, ite_y, ite_n, if_true, if_false, ite_tt, ite_ff, b_0, b_1, eq_self_iff_true, Bool.true_eq_false, Bool.false_eq_true, x1, m_bit, x2]
    unfold nr at hz
    cases hS : gA n ps m k with
    | false => simp only [hS, Bool.false_eq_true, if_false] at hz ⊢; exact hz
    | true =>
      simp only [hS, if_true] at hz ⊢
      cases hb : nr (gA n ps m) c k with
      | none => rw [hb] at hz; simp only [oI, if_true] at hz ⊢; exact hz
      | some b =>
        rw [hb] at hz
        have hb8 := (nr_some hb).1
        have d1 := dist_le (show k < 16 by omega) (show c < 16 by omega)
        have d2 := dist_le (show b < 16 by omega) (show c < 16 by omega)
        simp (disch := omega) only [oI, a_bi_i, a_bv_n, a_bl_l, a_bq_q, l_0, l_1, l_2, l_3, l_4, l_5, l_6, l_7, l_8, l_9, l_10, l_12, l_16, l_20, l_24, l_25, l_31, l_32, l_33, l_40, l_48, l_57, l_60, l_63, l_64, l_78, l_85, l_97, l_99, l_100, l_122, l_255, l_325, l_700, l_999, l_1000, l_1200, l_99999, l_100000, l_1000000, l_2000000000, l_N, n_add, n_mul, n_lt, n_out, n_div, n_dm, n_eq, n_toN, n_inN, n_ltN, n_nltN, n_neN, Nat.not_lt_zero, false_or, or_false, ite_y, ite_n, if_true, if_false, ite_tt, ite_ff, b_0, b_1, eq_self_iff_true, Bool.true_eq_false, Bool.false_eq_true, abs_m] at hz ⊢
        by_cases hlt : dist k c < dist b c
        · simp only [hlt, if_true] at hz ⊢; exact hz
        · simp only [hlt, if_false] at hz ⊢; exact hz)
  refine K_X11_nearest.e X e _ _ I L _ ?_
  simp only [l_0, l_1, l_2, l_3, l_4, l_5, l_6, l_7, l_8, l_9, l_10, l_12, l_16, l_20, l_24, l_25, l_31, l_32, l_33, l_40, l_48, l_57, l_60, l_63, l_64, l_78, l_85, l_97, l_99, l_100, l_122, l_255, l_325, l_700, l_999, l_1000, l_1200, l_99999, l_100000, l_1000000, l_2000000000, l_N]
  refine g2 _ (v_X11_nearest_5.e X e _ _ _ _ I L _ ?_)
  rw [h 0 (by decide), g1]
  simp (disch := omega) only [a_bi_i, a_bv_n, a_bl_l, a_bq_q, l_0, l_1, l_2, l_3, l_4, l_5, l_6, l_7, l_8, l_9, l_10, l_12, l_16, l_20, l_24, l_25, l_31, l_32, l_33, l_40, l_48, l_57, l_60, l_63, l_64, l_78, l_85, l_97, l_99, l_100, l_122, l_255, l_325, l_700, l_999, l_1000, l_1200, l_99999, l_100000, l_1000000, l_2000000000, l_N, n_add, n_mul, n_lt, n_out, n_div, n_dm, n_eq, n_toN, n_inN, n_ltN, n_nltN, n_neN, Nat.not_lt_zero, false_or, or_false, ite_y, ite_n, if_true, if_false, ite_tt, ite_ff, b_0, b_1, eq_self_iff_true, Bool.true_eq_false, Bool.false_eq_true]
theorem plF_none {S : Nat → Bool} {c : Nat} (hS : ∀ y, y < w 0 → S y = false) : ∀ k, plF w S c k = c := by
  have hf : ∀ a, farF S (w 0) a = 0 := fun a => by unfold farF; rw [nr_none_iff.mpr hS]
  intro k
  induction k with
  | zero => rfl
  | succ k ih => rw [plF, if_neg (by rw [hf, hf]; omega), ih]
theorem m_platform {T n c m : Nat} {ps : Nat → Nat → Option Nat} {kn : Nat → Nat} (h : TM I w) (v : Vw w) (hP : PM I T n ps kn) (hm : m < w 1) (hTw : T = w 1) (hn : n ≤ 3) (hp : ∀ k, k < n → ∀ m x, ps k m = some x → x < 8) (hc : c < w 0) (hd : 5 ≤ d) : K_X11_platform X d (nI c) (nI m) (I, L, ()) = some (some (aI (nI (if (0 < m ∧ m % w 2 = 0) ∧ w (11 + 3 * c) ≠ 0 then plF w (gA n ps m) c (w 0) else c))), (I, L, ())) := by
  subst hTw
  obtain ⟨e, rfl⟩ : ∃ e, d = e + 1 := ⟨d - 1, by omega⟩
  obtain ⟨⟨h0, h1, -⟩, -, vc, -⟩ := id v
  have hcl := vc c (by omega)
  have near : ∀ {d' a : Nat}, a < 8 → 3 ≤ d' → K_X11_nearest X d' (nI a) (nI m) (I, L, ()) = some (some (aI (oI (nr (gA n ps m) a (w 0)))), (I, L, ())) := fun ha hd' => m_nearest h v hP hm hn h1 hp ha hd'
  refine K_X11_platform.e X e _ _ I L _ ?_
  simp (disch := omega) only [a_bi_i, a_bv_n, a_bl_l, a_bq_q, l_0, l_1, l_2, l_3, l_4, l_5, l_6, l_7, l_8, l_9, l_10, l_12, l_16, l_20, l_24, l_25, l_31, l_32, l_33, l_40, l_48, l_57, l_60, l_63, l_64, l_78, l_85, l_97, l_99, l_100, l_122, l_255, l_325, l_700, l_999, l_1000, l_1200, l_99999, l_100000, l_1000000, l_2000000000, l_N, n_add, n_mul, n_lt, n_out, n_div, n_dm, n_eq, n_toN, n_inN, n_ltN, n_nltN, n_neN, Nat.not_lt_zero, false_or, or_false, ite_y, ite_n, if_true, if_false, ite_tt, ite_ff, b_0, b_1, eq_self_iff_true, Bool.true_eq_false, Bool.false_eq_true, m_isStop h v, m_oc2 h v, near]
  by_cases hs : 0 < m ∧ m % w 2 = 0
  · rw [decide_eq_true hs]
    by_cases hdr : w (11 + 3 * c) = 0
    · simp (disch := omega) only [a_bi_i, a_bv_n, a_bl_l, a_bq_q, l_0, l_1, l_2, l_3, l_4, l_5, l_6, l_7, l_8, l_9, l_10, l_12, l_16, l_20, l_24, l_25, l_31, l_32, l_33, l_40, l_48, l_57, l_60, l_63, l_64, l_78, l_85, l_97, l_99, l_100, l_122, l_255, l_325, l_700, l_999, l_1000, l_1200, l_99999, l_100000, l_1000000, l_2000000000, l_N, n_add, n_mul, n_lt, n_out, n_div, n_dm, n_eq, n_toN, n_inN, n_ltN, n_nltN, n_neN, Nat.not_lt_zero, false_or, or_false, ite_y, ite_n, if_true, if_false, ite_tt, ite_ff, b_0, b_1, eq_self_iff_true, Bool.true_eq_false, Bool.false_eq_true, hdr, hs, ne_eq, not_true_eq_false, and_false]
    · simp (disch := omega) only [a_bi_i, a_bv_n, a_bl_l, a_bq_q, l_0, l_1, l_2, l_3, l_4, l_5, l_6, l_7, l_8, l_9, l_10, l_12, l_16, l_20, l_24, l_25, l_31, l_32, l_33, l_40, l_48, l_57, l_60, l_63, l_64, l_78, l_85, l_97, l_99, l_100, l_122, l_255, l_325, l_700, l_999, l_1000, l_1200, l_99999, l_100000, l_1000000, l_2000000000, l_N, n_add, n_mul, n_lt, n_out, n_div, n_dm, n_eq, n_toN, n_inN, n_ltN, n_nltN, n_neN, Nat.not_lt_zero, false_or, or_false, ite_y, ite_n, if_true, if_false, ite_tt, ite_ff, b_0, b_1, eq_self_iff_true, Bool.true_eq_false, Bool.false_eq_true, hdr, hs, ne_eq, not_false_eq_true, and_self, true_and]
      cases hnr : nr (gA n ps m) c (w 0) with
      | none =>
        rw [plF_none (nr_none_iff.mp hnr)]
        simp only [oI, if_true]
      | some x0 =>
        have hx8 := (nr_some hnr).1
        have ex : ∀ a, ∃ x, nr (gA n ps m) a (w 0) = some x ∧ x < w 0 := fun a => by
          cases hq : nr (gA n ps m) a (w 0) with
          | none => rw [nr_none_iff.mpr (nr_none_iff.mp hq)] at hnr; cases hnr
          | some x => exact ⟨x, rfl, (nr_some hq).1⟩
        have far : ∀ {a : Nat}, a < 8 → K_X11_farFrom X e (nI a) (nI m) (I, L, ()) = some (some (aI (nI (farF (gA n ps m) (w 0) a))), (I, L, ())) := fun {a} ha => by
          obtain ⟨e', rfl⟩ : ∃ e', e = e' + 1 := ⟨e - 1, by omega⟩
          obtain ⟨x, hx, hx2⟩ := ex a
          refine K_X11_farFrom.e X e' _ _ I L _ ?_
          simp (disch := omega) only [near, a_bi_i, hx, oI, abs_m]
          unfold farF
          rw [hx]
        have far16 : ∀ {a : Nat}, a < 8 → farF (gA n ps m) (w 0) a < 16 := fun {a} ha => by
          obtain ⟨x, hx, hx2⟩ := ex a
          unfold farF
          rw [hx]
          exact dist_le (by omega) (by omega)
        simp (disch := omega) only [oI, a_bi_i, a_bv_n, a_bl_l, a_bq_q, l_0, l_1, l_2, l_3, l_4, l_5, l_6, l_7, l_8, l_9, l_10, l_12, l_16, l_20, l_24, l_25, l_31, l_32, l_33, l_40, l_48, l_57, l_60, l_63, l_64, l_78, l_85, l_97, l_99, l_100, l_122, l_255, l_325, l_700, l_999, l_1000, l_1200, l_99999, l_100000, l_1000000, l_2000000000, l_N, n_add, n_mul, n_lt, n_out, n_div, n_dm, n_eq, n_toN, n_inN, n_ltN, n_nltN, n_neN, Nat.not_lt_zero, false_or, or_false, ite_y, ite_n, if_true, if_false, ite_tt, ite_ff, b_0, b_1, eq_self_iff_true, Bool.true_eq_false, Bool.false_eq_true]
        obtain ⟨l3, g1, g2⟩ := loop_z (F := fun k (s : Int32) => v_X11_platform_34 X e (nI m) s (nI k) (I, L, ())) (P := fun k s => s = nI (plF w (gA n ps m) c k)) (w 0) (nI c) rfl (fun k s hk hs => by
          subst hs
          have hpl := plF_lt (S := gA n ps m) hc k (by omega)
          have hck := vc k (by omega)
          have f1 := far16 (a := k) (by omega)
          have f2 := far16 (a := plF w (gA n ps m) c k) (by omega)
          refine ⟨_, rfl, fun z hz => ?_⟩
          refine v_X11_platform_34.e X e _ _ _ I L z ?_
          rw [h 0 (by decide)]
          simp (disch := omega) only [a_bi_i, a_bv_n, a_bl_l, a_bq_q, l_0, l_1, l_2, l_3, l_4, l_5, l_6, l_7, l_8, l_9, l_10, l_12, l_16, l_20, l_24, l_25, l_31, l_32, l_33, l_40, l_48, l_57, l_60, l_63, l_64, l_78, l_85, l_97, l_99, l_100, l_122, l_255, l_325, l_700, l_999, l_1000, l_1200, l_99999, l_100000, l_1000000, l_2000000000, l_N, n_add, n_mul, n_lt, n_out, n_div, n_dm, n_eq, n_toN, n_inN, n_ltN, n_nltN, n_neN, Nat.not_lt_zero, false_or, or_false, ite_y, ite_n, if_true, if_false, ite_tt, ite_ff, b_0, b_1, eq_self_iff_true, Bool.true_eq_false, Bool.false_eq_true, m_oc2 h v, far]
          rw [plF] at hz
          by_cases q1 : w (11 + 3 * k) = 1
          · by_cases q2 : farF (gA n ps m) (w 0) (plF w (gA n ps m) c k) < farF (gA n ps m) (w 0) k
            · simp only [q1, q2, and_self, if_true] at hz ⊢; exact hz
            · simp only [q1, q2, and_false, if_true, if_false] at hz ⊢; exact hz
          · simp only [q1, false_and, if_false] at hz ⊢; exact hz)
        refine g2 _ (v_X11_platform_34.e X e _ _ _ I L _ ?_)
        rw [h 0 (by decide), g1]
        simp (disch := omega) only [a_bi_i, a_bv_n, a_bl_l, a_bq_q, l_0, l_1, l_2, l_3, l_4, l_5, l_6, l_7, l_8, l_9, l_10, l_12, l_16, l_20, l_24, l_25, l_31, l_32, l_33, l_40, l_48, l_57, l_60, l_63, l_64, l_78, l_85, l_97, l_99, l_100, l_122, l_255, l_325, l_700, l_999, l_1000, l_1200, l_99999, l_100000, l_1000000, l_2000000000, l_N, n_add, n_mul, n_lt, n_out, n_div, n_dm, n_eq, n_toN, n_inN, n_ltN, n_nltN, n_neN, Nat.not_lt_zero, false_or, or_false, ite_y, ite_n, if_true, if_false, ite_tt, ite_ff, b_0, b_1, eq_self_iff_true, Bool.true_eq_false, Bool.false_eq_true]
  · rw [decide_eq_false hs]
    simp (disch := omega) only [a_bi_i, a_bv_n, a_bl_l, a_bq_q, l_0, l_1, l_2, l_3, l_4, l_5, l_6, l_7, l_8, l_9, l_10, l_12, l_16, l_20, l_24, l_25, l_31, l_32, l_33, l_40, l_48, l_57, l_60, l_63, l_64, l_78, l_85, l_97, l_99, l_100, l_122, l_255, l_325, l_700, l_999, l_1000, l_1200, l_99999, l_100000, l_1000000, l_2000000000, l_N, n_add, n_mul, n_lt, n_out, n_div, n_dm, n_eq, n_toN, n_inN, n_ltN, n_nltN, n_neN, Nat.not_lt_zero, false_or, or_false, ite_y, ite_n, if_true, if_false, ite_tt, ite_ff, b_0, b_1, eq_self_iff_true, Bool.true_eq_false, Bool.false_eq_true, hs, false_and]
end
