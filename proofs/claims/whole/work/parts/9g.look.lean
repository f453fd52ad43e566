/-! look -/
def wsF (f : Nat → Nat) : Nat → Nat
  | 0 => 0
  | k + 1 => if wsF f k < f k then f k else wsF f k
theorem wsF_le {f : Nat → Nat} {M : Nat} (h : ∀ k, f k ≤ M) : ∀ k, wsF f k ≤ M := by
  intro k
  induction k with
  | zero => exact Nat.zero_le _
  | succ k ih => rw [wsF]; split
                 · exact h k
                 · exact ih
theorem wsF_ext {f : Nat → Nat} {n : Nat} (h : ∀ k, n ≤ k → f k = 0) : ∀ {N : Nat}, n ≤ N → wsF f N = wsF f n := by
  intro N
  induction N with
  | zero => intro hN; obtain rfl : n = 0 := by omega
            rfl
  | succ N ih =>
    intro hN
    by_cases e : n = N + 1
    · subst e; rfl
    · rw [wsF, h N (by omega), if_neg (by omega)]; exact ih (by omega)
def pI (k : Nat) : Int32 := match k with
  | 0 => nN
  | k + 1 => nI k
theorem pI_1 : ∀ k, pI k + nI 1 = nI k := by
  intro k
  cases k with
  | zero => rfl
  | succ k => exact n_add k 1
theorem pI_s (k : Nat) : pI k + nI 1 = pI (k + 1) := pI_1 k
theorem pI_eq {a b : Nat} (ha : a < 1000) (hb : b < 1000) : (pI a = pI b) ↔ a = b := by
  constructor
  · intro h
    have := congrArg (· + nI 1) h
    simp only [pI_1] at this
    exact (n_eq (by omega) (by omega)).mp this
  · intro h; rw [h]
theorem pI_lt {k n : Nat} (hk : k < 1000) (hn : n < 1000) : (pI k < nI n) ↔ k < n + 1 := by
  cases k with
  | zero => rw [show pI 0 = nN from rfl, n_nltN (by omega)]; exact ⟨fun _ => by omega, fun _ => trivial⟩
  | succ k => rw [show pI (k + 1) = nI k from rfl, n_lt (by omega) (by omega)]; omega
section
variable {X : AX} {d : Nat} {I J : A3 Int32} {L : A3 Int64} {w : TW} {t : TS}
def poK (w : TW) (b m : Nat) : Nat := match crs w 0 b m with
  | none => 0
  | some c => c + 1
theorem po_I {b m : Nat} : oI (crs w 0 b m) = pI (poK w b m) := by
  unfold poK
  cases crs w 0 b m <;> rfl
theorem po_le (v : Vw w) (h5 : 0 < w 5) {b m : Nat} (hb : b < 2 * w 0) : poK w b m ≤ w 0 := by
  unfold poK
  cases hc : crs w 0 b m with
  | none => exact Nat.zero_le _
  | some c => exact crs_lt v h5 hb hc
def gpP (w : TW) (n : Nat) (g : Nat → Int64) (m k b : Nat) : Bool := fitB w n g b && decide (poK w b m = k)
def gpF (w : TW) (n : Nat) (g : Nat → Int64) (m k : Nat) : Nat := cnt (2 * w 0) (gpP w n g m k)
theorem gpF_0 (v : Vw w) (h5 : 0 < w 5) {n m : Nat} {g : Nat → Int64} : ∀ k, w 0 + 1 ≤ k → gpF w n g m k = 0 := fun k hk => by
  unfold gpF
  rw [cnt_eq (q := fun _ => false) (fun b hb => by
    have := po_le (m := m) v h5 hb
    unfold gpP
    rw [decide_eq_false (by omega), Bool.and_false])]
  have : ∀ n, cnt n (fun _ => false) = 0 := fun n => by
    induction n with
    | zero => rfl
    | succ n ih => rw [cnt, ih]; rfl
  exact this _
theorem gpF_le {n m : Nat} {g : Nat → Int64} (k : Nat) : gpF w n g m k ≤ 2 * w 0 := cnt_le _ _
theorem c_worst {n m : Nat} {g : Nat → Int64} (h : TC I w) (v : Vw w) (h5 : 0 < w 5) (hF : FB I w n g) (hm : m < w 1) (hd : 2 ≤ d) : K_X10_worstLeft X d (nI m) (I, L, ()) = some (some (aI (nI (wsF (gpF w n g m) (w 0 + 1)))), (I, L, ())) := by
  obtain ⟨e, rfl⟩ : ∃ e, d = e + 1 := ⟨d - 1, by omega⟩
  obtain ⟨⟨w0, w1, -⟩, -⟩ := id v
  obtain ⟨-, -, c2⟩ := loop_z (S := Unit) (F := fun k _ => v_X10_worstLeft_4 X e (nI m) (nI (wsF (gpF w n g m) k)) (pI k) (I, L, ())) (P := fun _ _ => True) (w 0 + 1) () trivial (fun k _ hk _ => ⟨(), trivial, fun r hr => by
    have hr : v_X10_worstLeft_4 X e (nI m) (nI (wsF (gpF w n g m) (k + 1))) (pI (k + 1)) (I, L, ()) = some r := hr
    obtain ⟨-, -, g2⟩ := loop_z (S := Unit) (F := fun b _ => v_X10_worstLeft_21 X e (nI m) (nI (wsF (gpF w n g m) k)) (pI k) (nI (cnt b (gpP w n g m k))) (nI b) (I, L, ())) (P := fun _ _ => True) (2 * w 0) () trivial (fun b _ hb _ => ⟨(), trivial, fun r hr => v_X10_worstLeft_21.e X e _ _ _ _ _ I L r (by
      have hr : v_X10_worstLeft_21 X e (nI m) (nI (wsF (gpF w n g m) k)) (pI k) (nI (cnt (b + 1) (gpP w n g m k))) (nI (b + 1)) (I, L, ()) = some r := hr
      rw [cnt] at hr
      have e14 := hF.2 b hb m hm
      have hpo := po_le (m := m) v h5 hb
      simp (disch := omega) only [c_beginCount h v, hF.1, e14, po_I, pI_eq, a_bi_i, a_bv_n, a_bl_l, a_bq_q, l_0, l_1, l_2, l_3, l_4, l_5, l_6, l_7, l_8, l_9, l_10, l_12, l_16, l_20, l_24, l_25, l_31, l_32, l_33, l_40, l_48, l_57, l_60, l_63, l_64, l_78, l_85, l_97, l_99, l_100, l_122, l_255, l_325, l_700, l_999, l_1000, l_1200, l_99999, l_100000, l_1000000, l_2000000000, l_N, n_add, n_mul, n_lt, n_out, n_div, n_dm, n_eq, n_toN, n_inN, n_ltN, n_nltN, n_neN, Nat.not_lt_zero, false_or, or_false, ite_y, ite_n, if_true, if_false, ite_tt, ite_ff, b_0, b_1, eq_self_iff_true, Bool.true_eq_false, Bool.false_eq_true]
      unfold gpP at hr
      cases hf : fitB w n g b with
      | false => rw [hf] at hr; simp only [Bool.false_and, Bool.false_eq_true, if_false, if_true] at hr ⊢; exact hr
      | true =>
        rw [hf] at hr
        simp only [Bool.true_and, Bool.true_eq_false, if_false] at hr ⊢
        by_cases hp : poK w b m = k
        · simp only [hp, decide_true, if_true] at hr ⊢; exact hr
        · simp only [hp, decide_false, Bool.false_eq_true, if_false] at hr ⊢; exact hr)⟩)
    refine v_X10_worstLeft_4.e X e _ _ _ I L r ?_
    simp (disch := omega) only [c_coaches h v, pI_lt, a_bi_i, a_bv_n, a_bl_l, a_bq_q, l_0, l_1, l_2, l_3, l_4, l_5, l_6, l_7, l_8, l_9, l_10, l_12, l_16, l_20, l_24, l_25, l_31, l_32, l_33, l_40, l_48, l_57, l_60, l_63, l_64, l_78, l_85, l_97, l_99, l_100, l_122, l_255, l_325, l_700, l_999, l_1000, l_1200, l_99999, l_100000, l_1000000, l_2000000000, l_N, n_add, n_mul, n_lt, n_out, n_div, n_dm, n_eq, n_toN, n_inN, n_ltN, n_nltN, n_neN, Nat.not_lt_zero, false_or, or_false, ite_y, ite_n, if_true, if_false, ite_tt, ite_ff, b_0, b_1, eq_self_iff_true, Bool.true_eq_false, Bool.false_eq_true]
    refine g2 _ (v_X10_worstLeft_21.e X e _ _ _ _ _ I L r ?_)
    have b1 := cnt_le (gpP w n g m k) (2 * w 0)
    have b2 : wsF (gpF w n g m) k ≤ 2 * w 0 := wsF_le gpF_le k
    simp (disch := omega) only [c_beginCount h v, c_max, pI_s, Nat.lt_irrefl, a_bi_i, a_bv_n, a_bl_l, a_bq_q, l_0, l_1, l_2, l_3, l_4, l_5, l_6, l_7, l_8, l_9, l_10, l_12, l_16, l_20, l_24, l_25, l_31, l_32, l_33, l_40, l_48, l_57, l_60, l_63, l_64, l_78, l_85, l_97, l_99, l_100, l_122, l_255, l_325, l_700, l_999, l_1000, l_1200, l_99999, l_100000, l_1000000, l_2000000000, l_N, n_add, n_mul, n_lt, n_out, n_div, n_dm, n_eq, n_toN, n_inN, n_ltN, n_nltN, n_neN, Nat.not_lt_zero, false_or, or_false, ite_y, ite_n, if_true, if_false, ite_tt, ite_ff, b_0, b_1, eq_self_iff_true, Bool.true_eq_false, Bool.false_eq_true]
    rw [wsF] at hr
    show v_X10_worstLeft_4 X e (nI m) (if wsF (gpF w n g m) k < gpF w n g m k then nI (gpF w n g m k) else nI (wsF (gpF w n g m) k)) (pI (k + 1)) (I, L, ()) = some r
    by_cases hlt : wsF (gpF w n g m) k < gpF w n g m k
    · rw [if_pos hlt] at hr ⊢; exact hr
    · rw [if_neg hlt] at hr ⊢; exact hr⟩)
  refine K_X10_worstLeft.e X e _ I L _ (c2 _ (v_X10_worstLeft_4.e X e _ _ _ I L _ ?_))
  simp (disch := omega) only [c_coaches h v, pI_lt, Nat.lt_irrefl, a_bi_i, a_bv_n, a_bl_l, a_bq_q, l_0, l_1, l_2, l_3, l_4, l_5, l_6, l_7, l_8, l_9, l_10, l_12, l_16, l_20, l_24, l_25, l_31, l_32, l_33, l_40, l_48, l_57, l_60, l_63, l_64, l_78, l_85, l_97, l_99, l_100, l_122, l_255, l_325, l_700, l_999, l_1000, l_1200, l_99999, l_100000, l_1000000, l_2000000000, l_N, n_add, n_mul, n_lt, n_out, n_div, n_dm, n_eq, n_toN, n_inN, n_ltN, n_nltN, n_neN, Nat.not_lt_zero, false_or, or_false, ite_y, ite_n, if_true, if_false, ite_tt, ite_ff, b_0, b_1, eq_self_iff_true, Bool.true_eq_false, Bool.false_eq_true]
theorem m_worst {s wd n m : Nat} {g : Nat → Int64} (h : TM I w) (v : Vw w) (hS : SM I L t) (ht : Vt t) (hs : s < 4) (h5 : 0 < w 5) (hg : t s = some (wd, n, g)) (ho : siO w n g = true) (hm : m < w 1) (hd : 6 ≤ d) : ∃ J, K_X11_worstIn X d (nI s) (nI m) (I, L, ()) = some (some (aI (nI (wsF (gpF w n g m) (w 0 + 1)))), (J, L, ())) ∧ Fm [47, 48, 56] I J := by
  obtain ⟨e, rfl⟩ : ∃ e, d = e + 1 := ⟨d - 1, by omega⟩
  obtain ⟨⟨w0, w1, -⟩, -⟩ := id v
  obtain ⟨J1, ⟨a1, a2⟩, a3⟩ := loop_z (F := fun k (K : A3 Int32) => v_X11_worstIn_2 X e (nI s) (nI m) (nI k) (K, L, ())) (P := fun k K => Fm [47, 48, 56] I K ∧ ∀ k', k' < k → K 56 0 k' = nI 0) 9 I ⟨Fm.refl, fun k hk => by omega⟩ (fun k K hk hP => by
    obtain ⟨p1, p2⟩ := hP
    refine ⟨up3 K 56 0 k (nI 0), ⟨p1.up (by decide), fun k' hk' => ?_⟩, fun r hr => v_X11_worstIn_2.e X e _ _ _ K L r ?_⟩
    · by_cases ee : k' = k
      · subst ee; exact u3_eq _ _ _ _ _
      · rw [u3_j _ _ ee]; exact p2 k' (by omega)
    · have : ¬ 8 < k := by omega
      simp (disch := omega) only [this, a_bi_i, a_bv_n, a_bl_l, a_bq_q, l_0, l_1, l_2, l_3, l_4, l_5, l_6, l_7, l_8, l_9, l_10, l_12, l_16, l_20, l_24, l_25, l_31, l_32, l_33, l_40, l_48, l_57, l_60, l_63, l_64, l_78, l_85, l_97, l_99, l_100, l_122, l_255, l_325, l_700, l_999, l_1000, l_1200, l_99999, l_100000, l_1000000, l_2000000000, l_N, n_add, n_mul, n_lt, n_out, n_div, n_dm, n_eq, n_toN, n_inN, n_ltN, n_nltN, n_neN, Nat.not_lt_zero, false_or, or_false, ite_y, ite_n, if_true, if_false, ite_tt, ite_ff, b_0, b_1, eq_self_iff_true, Bool.true_eq_false, Bool.false_eq_true]
      exact hr)
  obtain ⟨J2, ⟨b1, b2⟩, b3⟩ := loop_z (F := fun b (K : A3 Int32) => v_X11_worstIn_23 X e (nI s) (nI m) (nI b) (K, L, ())) (P := fun b K => Fm [47, 48, 56] I K ∧ ∀ k, k < 9 → K 56 0 k = nI (cnt b (gpP w n g m k))) (2 * w 0) J1 ⟨a1, a2⟩ (fun b K hb hP => by
    obtain ⟨p1, p2⟩ := hP
    have tK : TM K w := h.fm p1 (by decide)
    obtain ⟨K2, q1, q2, q3⟩ := m_isSighted (X := X) (d := e) (b := b) tK v (hS.fm p1 (by decide) (by decide)) ht hs h5 hg ho hb (by omega)
    have hpo := po_le (m := m) v h5 hb
    have e56 : K2 56 = K 56 := q2 56 (by decide)
    cases hf : fitB w n g b with
    | false =>
      rw [hf] at q1
      refine ⟨K2, ⟨p1.trans (q2.mono (by decide)), fun k hk => ?_⟩, fun r hr => v_X11_worstIn_23.e X e _ _ _ K L r ?_⟩
      · rw [e56, p2 k hk, cnt]
        unfold gpP
        rw [hf]; rfl
      · rw [tK 0 (by decide)]
        simp (disch := omega) only [q1, a_bi_i, a_bv_n, a_bl_l, a_bq_q, l_0, l_1, l_2, l_3, l_4, l_5, l_6, l_7, l_8, l_9, l_10, l_12, l_16, l_20, l_24, l_25, l_31, l_32, l_33, l_40, l_48, l_57, l_60, l_63, l_64, l_78, l_85, l_97, l_99, l_100, l_122, l_255, l_325, l_700, l_999, l_1000, l_1200, l_99999, l_100000, l_1000000, l_2000000000, l_N, n_add, n_mul, n_lt, n_out, n_div, n_dm, n_eq, n_toN, n_inN, n_ltN, n_nltN, n_neN, Nat.not_lt_zero, false_or, or_false, ite_y, ite_n, if_true, if_false, ite_tt, ite_ff, b_0, b_1, eq_self_iff_true, Bool.true_eq_false, Bool.false_eq_true]
        exact hr
    | true =>
      rw [hf] at q1
      have hle := cnt_le (gpP w n g m (poK w b m)) b
      refine ⟨up3 K2 56 0 (poK w b m) (nI (cnt b (gpP w n g m (poK w b m)) + 1)), ⟨(p1.trans (q2.mono (by decide))).up (by decide), fun k hk => ?_⟩, fun r hr => v_X11_worstIn_23.e X e _ _ _ K L r ?_⟩
      · rw [cnt]
        by_cases ee : k = poK w b m
        · subst ee
          rw [u3_eq]
          have : gpP w n g m (poK w b m) b = true := by unfold gpP; rw [hf]; simp
          rw [this, if_pos rfl]
        · rw [u3_j _ _ ee, e56, p2 k hk]
          have : gpP w n g m k b = false := by unfold gpP; rw [decide_eq_false (fun z => ee z.symm), Bool.and_false]
          rw [this]; rfl
      · rw [tK 0 (by decide)]
        simp (disch := omega) only [q1, m_posO v q3 hm, po_I, pI_1, e56, p2, a_bi_i, a_bv_n, a_bl_l, a_bq_q, l_0, l_1, l_2, l_3, l_4, l_5, l_6, l_7, l_8, l_9, l_10, l_12, l_16, l_20, l_24, l_25, l_31, l_32, l_33, l_40, l_48, l_57, l_60, l_63, l_64, l_78, l_85, l_97, l_99, l_100, l_122, l_255, l_325, l_700, l_999, l_1000, l_1200, l_99999, l_100000, l_1000000, l_2000000000, l_N, n_add, n_mul, n_lt, n_out, n_div, n_dm, n_eq, n_toN, n_inN, n_ltN, n_nltN, n_neN, Nat.not_lt_zero, false_or, or_false, ite_y, ite_n, if_true, if_false, ite_tt, ite_ff, b_0, b_1, eq_self_iff_true, Bool.true_eq_false, Bool.false_eq_true]
        exact hr)
  have key := loop_z (S := Unit) (F := fun k _ => v_X11_worstIn_72 X e (nI (wsF (gpF w n g m) k)) (nI k) (J2, L, ())) (P := fun _ _ => True) 9 () trivial (fun k _ hk _ => ⟨(), trivial, fun r hr => v_X11_worstIn_72.e X e _ _ J2 L r (by
    have hr : v_X11_worstIn_72 X e (nI (wsF (gpF w n g m) (k + 1))) (nI (k + 1)) (J2, L, ()) = some r := hr
    have q1 : ¬ 8 < k := by omega
    have b1 : gpF w n g m k ≤ 2 * w 0 := gpF_le k
    have b2' : wsF (gpF w n g m) k ≤ 2 * w 0 := wsF_le gpF_le k
    have e56 : J2 56 0 k = nI (gpF w n g m k) := b2 k hk
    simp (disch := omega) only [q1, e56, c_max, a_bi_i, a_bv_n, a_bl_l, a_bq_q, l_0, l_1, l_2, l_3, l_4, l_5, l_6, l_7, l_8, l_9, l_10, l_12, l_16, l_20, l_24, l_25, l_31, l_32, l_33, l_40, l_48, l_57, l_60, l_63, l_64, l_78, l_85, l_97, l_99, l_100, l_122, l_255, l_325, l_700, l_999, l_1000, l_1200, l_99999, l_100000, l_1000000, l_2000000000, l_N, n_add, n_mul, n_lt, n_out, n_div, n_dm, n_eq, n_toN, n_inN, n_ltN, n_nltN, n_neN, Nat.not_lt_zero, false_or, or_false, ite_y, ite_n, if_true, if_false, ite_tt, ite_ff, b_0, b_1, eq_self_iff_true, Bool.true_eq_false, Bool.false_eq_true]
    rw [wsF] at hr
    by_cases hlt : wsF (gpF w n g m) k < gpF w n g m k
    · rw [if_pos hlt] at hr ⊢; exact hr
    · rw [if_neg hlt] at hr ⊢; exact hr)⟩)
  obtain ⟨-, -, c2⟩ := key
  refine ⟨J2, K_X11_worstIn.e X e _ _ I L _ (a3 _ (v_X11_worstIn_2.e X e _ _ _ J1 L _ ?_)), b1⟩
  have q8 : 8 < 9 := by decide
  simp (disch := omega) only [a_bi_i, a_bv_n, a_bl_l, a_bq_q, l_0, l_1, l_2, l_3, l_4, l_5, l_6, l_7, l_8, l_9, l_10, l_12, l_16, l_20, l_24, l_25, l_31, l_32, l_33, l_40, l_48, l_57, l_60, l_63, l_64, l_78, l_85, l_97, l_99, l_100, l_122, l_255, l_325, l_700, l_999, l_1000, l_1200, l_99999, l_100000, l_1000000, l_2000000000, l_N, n_add, n_mul, n_lt, n_out, n_div, n_dm, n_eq, n_toN, n_inN, n_ltN, n_nltN, n_neN, Nat.not_lt_zero, false_or, or_false, ite_y, ite_n, if_true, if_false, ite_tt, ite_ff, b_0, b_1, eq_self_iff_true, Bool.true_eq_false, Bool.false_eq_true]
  refine b3 _ (v_X11_worstIn_23.e X e _ _ _ J2 L _ ?_)
  rw [(h.fm b1 (by decide)) 0 (by decide)]
  simp (disch := omega) only [Nat.lt_irrefl, a_bi_i, a_bv_n, a_bl_l, a_bq_q, l_0, l_1, l_2, l_3, l_4, l_5, l_6, l_7, l_8, l_9, l_10, l_12, l_16, l_20, l_24, l_25, l_31, l_32, l_33, l_40, l_48, l_57, l_60, l_63, l_64, l_78, l_85, l_97, l_99, l_100, l_122, l_255, l_325, l_700, l_999, l_1000, l_1200, l_99999, l_100000, l_1000000, l_2000000000, l_N, n_add, n_mul, n_lt, n_out, n_div, n_dm, n_eq, n_toN, n_inN, n_ltN, n_nltN, n_neN, Nat.not_lt_zero, false_or, or_false, ite_y, ite_n, if_true, if_false, ite_tt, ite_ff, b_0, b_1, eq_self_iff_true, Bool.true_eq_false, Bool.false_eq_true]
  refine c2 _ (v_X11_worstIn_72.e X e _ _ J2 L _ ?_)
  simp (disch := omega) only [a_bi_i, a_bv_n, a_bl_l, a_bq_q, l_0, l_1, l_2, l_3, l_4, l_5, l_6, l_7, l_8, l_9, l_10, l_12, l_16, l_20, l_24, l_25, l_31, l_32, l_33, l_40, l_48, l_57, l_60, l_63, l_64, l_78, l_85, l_97, l_99, l_100, l_122, l_255, l_325, l_700, l_999, l_1000, l_1200, l_99999, l_100000, l_1000000, l_2000000000, l_N, n_add, n_mul, n_lt, n_out, n_div, n_dm, n_eq, n_toN, n_inN, n_ltN, n_nltN, n_neN, Nat.not_lt_zero, false_or, or_false, ite_y, ite_n, if_true, if_false, ite_tt, ite_ff, b_0, b_1, eq_self_iff_true, Bool.true_eq_false, Bool.false_eq_true]
  rw [wsF_ext (n := w 0 + 1) (N := 9) (gpF_0 v h5) (by omega)]
def lkP (c0 : Nat) (W : Nat → Nat) : Nat → Nat × Option Nat
  | 0 => (c0, none)
  | m + 1 => if W m < (lkP c0 W m).1 then (W m, some m) else lkP c0 W m
theorem lkP_le {c0 M : Nat} {W : Nat → Nat} (h0 : c0 ≤ M) (h : ∀ m, W m ≤ M) : ∀ m, (lkP c0 W m).1 ≤ M := by
  intro m
  induction m with
  | zero => exact h0
  | succ m ih => rw [lkP]; split
                 · exact h m
                 · exact ih
theorem q_look (h : TC I w) (v : Vw w) (hS : SC I L t) (ht : Vt t) (a : Int32) : BothS w t (K_X10_look X 15 a) (K_X11_look X 15 a) I L := by
  obtain ⟨⟨w0, w1, -⟩, -⟩ := id v
  rcases sight_cases (X := X) h v hS ht a with ⟨x, x1, x2, x3, x4⟩ | ⟨s, wd, n, g, rfl, hs, h5, hg, ho⟩
  · refine BothS.pure x (K_X10_look.e X 14 a I L _ ?_) (fun J L2 hM hN => K_X11_look.e X 14 a J L2 _ ?_)
    · simp only [a_bi_i, a_bv_n, a_bl_l, a_bq_q, x3, l_0, x1, if_false]
    · simp only [a_bi_i, a_bv_n, a_bl_l, a_bq_q, l_0, l_1, x4 J L2 hM hN, x2, if_true]
  · obtain ⟨J, f1, f2, f3, f4⟩ := c_fit (X := X) (d := 14) h v hS ht hs h5 hg ho (by omega)
    have W1 : ∀ m, wsF (gpF w n g m) (w 0 + 1) ≤ 2 * w 0 := fun m => wsF_le gpF_le _
    have W2 : ∀ m, (lkP (cnt (2 * w 0) (fitB w n g)) (fun m => wsF (gpF w n g m) (w 0 + 1)) m).1 ≤ 2 * w 0 := lkP_le (cnt_le _ _) W1
    generalize hlk : lkP (cnt (2 * w 0) (fitB w n g)) (fun m => wsF (gpF w n g m) (w 0 + 1)) = lk at W2
    have lk0 : lk 0 = (cnt (2 * w 0) (fitB w n g), none) := by rw [← hlk]; rfl
    have lkS : ∀ m, lk (m + 1) = if wsF (gpF w n g m) (w 0 + 1) < (lk m).1 then (wsF (gpF w n g m) (w 0 + 1), some m) else lk m := fun m => by rw [← hlk]; rfl
    refine ⟨oI (lk (w 1)).2, J, K_X10_look.e X 14 _ I L _ ?_, f2, fun M L2 hM hN => ?_⟩
    · have c1 := c_sighting (X := X) (d := 14) h v hS ht hs h5 hg (by omega)
      rw [ho] at c1
      have c1' : K_X10_sightingState X 14 (nI s) (I, L, ()) = some (some (aI (nI 0)), (I, L, ())) := c1
      simp (disch := omega) only [c1', f1, a_bi_i, a_bv_n, a_bl_l, a_bq_q, l_0, l_1, l_2, l_3, l_4, l_5, l_6, l_7, l_8, l_9, l_10, l_12, l_16, l_20, l_24, l_25, l_31, l_32, l_33, l_40, l_48, l_57, l_60, l_63, l_64, l_78, l_85, l_97, l_99, l_100, l_122, l_255, l_325, l_700, l_999, l_1000, l_1200, l_99999, l_100000, l_1000000, l_2000000000, l_N, n_add, n_mul, n_lt, n_out, n_div, n_dm, n_eq, n_toN, n_inN, n_ltN, n_nltN, n_neN, Nat.not_lt_zero, false_or, or_false, ite_y, ite_n, if_true, if_false, ite_tt, ite_ff, b_0, b_1, eq_self_iff_true, Bool.true_eq_false, Bool.false_eq_true]
      obtain ⟨-, -, c2⟩ := loop_z (S := Unit) (F := fun m _ => v_X10_look_29 X 14 (nI (lk m).1) (oI (lk m).2) (nI m) (J, L, ())) (P := fun _ _ => True) (w 1) () trivial (fun m _ hm _ => ⟨(), trivial, fun r hr => v_X10_look_29.e X 14 _ _ _ J L r (by
        have hr : v_X10_look_29 X 14 (nI (lk (m + 1)).1) (oI (lk (m + 1)).2) (nI (m + 1)) (J, L, ()) = some r := hr
        rw [lkS] at hr
        have b1 := W1 m
        have b2 := W2 m
        simp (disch := omega) only [c_minutes f3 v, c_worst f3 v h5 f4 hm, a_bi_i, a_bv_n, a_bl_l, a_bq_q, l_0, l_1, l_2, l_3, l_4, l_5, l_6, l_7, l_8, l_9, l_10, l_12, l_16, l_20, l_24, l_25, l_31, l_32, l_33, l_40, l_48, l_57, l_60, l_63, l_64, l_78, l_85, l_97, l_99, l_100, l_122, l_255, l_325, l_700, l_999, l_1000, l_1200, l_99999, l_100000, l_1000000, l_2000000000, l_N, n_add, n_mul, n_lt, n_out, n_div, n_dm, n_eq, n_toN, n_inN, n_ltN, n_nltN, n_neN, Nat.not_lt_zero, false_or, or_false, ite_y, ite_n, if_true, if_false, ite_tt, ite_ff, b_0, b_1, eq_self_iff_true, Bool.true_eq_false, Bool.false_eq_true]
        by_cases hlt : wsF (gpF w n g m) (w 0 + 1) < (lk m).1
        · rw [if_pos hlt] at hr ⊢; exact hr
        · rw [if_neg hlt] at hr ⊢; exact hr)⟩)
      have c2' : OLe (v_X10_look_29 X 14 (nI (lk (w 1)).1) (oI (lk (w 1)).2) (nI (w 1)) (J, L, ())) (v_X10_look_29 X 14 (nI (lk 0).1) (oI (lk 0).2) (nI 0) (J, L, ())) := c2
      rw [lk0] at c2'
      refine c2' _ (v_X10_look_29.e X 14 _ _ _ J L _ ?_)
      simp (disch := omega) only [c_minutes f3 v, Nat.lt_irrefl, a_bi_i, a_bv_n, a_bl_l, a_bq_q, l_0, l_1, l_2, l_3, l_4, l_5, l_6, l_7, l_8, l_9, l_10, l_12, l_16, l_20, l_24, l_25, l_31, l_32, l_33, l_40, l_48, l_57, l_60, l_63, l_64, l_78, l_85, l_97, l_99, l_100, l_122, l_255, l_325, l_700, l_999, l_1000, l_1200, l_99999, l_100000, l_1000000, l_2000000000, l_N, n_add, n_mul, n_lt, n_out, n_div, n_dm, n_eq, n_toN, n_inN, n_ltN, n_nltN, n_neN, Nat.not_lt_zero, false_or, or_false, ite_y, ite_n, if_true, if_false, ite_tt, ite_ff, b_0, b_1, eq_self_iff_true, Bool.true_eq_false, Bool.false_eq_true]
    · obtain ⟨M1, m1, m2⟩ := m_sightedOf (X := X) (d := 14) hM v hN ht hs h5 hg ho (by omega)
      have c1 := m_sighting (X := X) (d := 14) hM v hN ht hs h5 hg (by omega)
      rw [ho] at c1
      have c1' : K_X11_asksSighted X 14 (nI s) (nI 1) (M, L2, ()) = some (some (aI (nI 0)), (M, L2, ())) := c1
      obtain ⟨M', d1, d2⟩ := loop_z (S := A3 Int32) (F := fun m K => v_X11_look_25 X 14 (nI s) (nI (lk m).1) (oI (lk m).2) (nI m) (K, L2, ())) (P := fun _ K => Fm [47, 48, 56] M K) (w 1) M1 (m2.mono (by decide)) (fun m K hm hK => by
        have tK : TM K w := hM.fm hK (by decide)
        obtain ⟨K2, a1, a2⟩ := m_worst (X := X) (d := 14) (m := m) tK v (hN.fm hK (by decide) (by decide)) ht hs h5 hg ho hm (by omega)
        refine ⟨K2, hK.trans a2, fun r hr => v_X11_look_25.e X 14 _ _ _ _ K L2 r ?_⟩
        have hr : v_X11_look_25 X 14 (nI s) (nI (lk (m + 1)).1) (oI (lk (m + 1)).2) (nI (m + 1)) (K2, L2, ()) = some r := hr
        rw [lkS] at hr
        have b1 := W1 m
        have b2 := W2 m
        simp (disch := omega) only [m_minutes tK v, a1, a_bi_i, a_bv_n, a_bl_l, a_bq_q, l_0, l_1, l_2, l_3, l_4, l_5, l_6, l_7, l_8, l_9, l_10, l_12, l_16, l_20, l_24, l_25, l_31, l_32, l_33, l_40, l_48, l_57, l_60, l_63, l_64, l_78, l_85, l_97, l_99, l_100, l_122, l_255, l_325, l_700, l_999, l_1000, l_1200, l_99999, l_100000, l_1000000, l_2000000000, l_N, n_add, n_mul, n_lt, n_out, n_div, n_dm, n_eq, n_toN, n_inN, n_ltN, n_nltN, n_neN, Nat.not_lt_zero, false_or, or_false, ite_y, ite_n, if_true, if_false, ite_tt, ite_ff, b_0, b_1, eq_self_iff_true, Bool.true_eq_false, Bool.false_eq_true]
        by_cases hlt : wsF (gpF w n g m) (w 0 + 1) < (lk m).1
        · rw [if_pos hlt] at hr ⊢; exact hr
        · rw [if_neg hlt] at hr ⊢; exact hr)
      refine ⟨M', K_X11_look.e X 14 _ M L2 _ ?_, Sm.of d1 (by decide)⟩
      simp (disch := omega) only [c1', m1, Nat.lt_irrefl, a_bi_i, a_bv_n, a_bl_l, a_bq_q, l_0, l_1, l_2, l_3, l_4, l_5, l_6, l_7, l_8, l_9, l_10, l_12, l_16, l_20, l_24, l_25, l_31, l_32, l_33, l_40, l_48, l_57, l_60, l_63, l_64, l_78, l_85, l_97, l_99, l_100, l_122, l_255, l_325, l_700, l_999, l_1000, l_1200, l_99999, l_100000, l_1000000, l_2000000000, l_N, n_add, n_mul, n_lt, n_out, n_div, n_dm, n_eq, n_toN, n_inN, n_ltN, n_nltN, n_neN, Nat.not_lt_zero, false_or, or_false, ite_y, ite_n, if_true, if_false, ite_tt, ite_ff, b_0, b_1, eq_self_iff_true, Bool.true_eq_false, Bool.false_eq_true]
      have d2' : OLe (v_X11_look_25 X 14 (nI s) (nI (lk (w 1)).1) (oI (lk (w 1)).2) (nI (w 1)) (M', L2, ())) (v_X11_look_25 X 14 (nI s) (nI (lk 0).1) (oI (lk 0).2) (nI 0) (M1, L2, ())) := d2
      rw [lk0] at d2'
      refine d2' _ (v_X11_look_25.e X 14 _ _ _ _ M' L2 _ ?_)
      simp (disch := omega) only [m_minutes (hM.fm d1 (by decide)) v, Nat.lt_irrefl, a_bi_i, a_bv_n, a_bl_l, a_bq_q, l_0, l_1, l_2, l_3, l_4, l_5, l_6, l_7, l_8, l_9, l_10, l_12, l_16, l_20, l_24, l_25, l_31, l_32, l_33, l_40, l_48, l_57, l_60, l_63, l_64, l_78, l_85, l_97, l_99, l_100, l_122, l_255, l_325, l_700, l_999, l_1000, l_1200, l_99999, l_100000, l_1000000, l_2000000000, l_N, n_add, n_mul, n_lt, n_out, n_div, n_dm, n_eq, n_toN, n_inN, n_ltN, n_nltN, n_neN, Nat.not_lt_zero, false_or, or_false, ite_y, ite_n, if_true, if_false, ite_tt, ite_ff, b_0, b_1, eq_self_iff_true, Bool.true_eq_false, Bool.false_eq_true]
end
