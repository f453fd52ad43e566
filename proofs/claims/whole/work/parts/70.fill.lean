/-! the reference fills its places -/
section
variable {X : AX} {d : Nat} {I J : A3 Int32} {L : A3 Int64} {w : TW} {N : Nat} {ps : Nat → Nat → Option Nat} {kn : Nat → Nat} {lo dr : Nat → Bool}
theorem c_minN {a b : Nat} (ha : a < 2147483648) (hb : b < 2147483648) (hd : 1 ≤ d) : K_J9_min_7cf53 X d (nI a) (nI b) (I, L, ()) = some (some (aI (nI (min a b))), (I, L, ())) := by
  rw [c_min hd]
  by_cases h : b < a
  · rw [if_pos ((n_lt hb ha).mpr h), Nat.min_eq_right (by omega)]
  · rw [if_neg (fun q => h ((n_lt hb ha).mp q)), Nat.min_eq_left (by omega)]
theorem c_maxN {a b : Nat} (ha : a < 2147483648) (hb : b < 2147483648) (hd : 1 ≤ d) : K_J9_max_7cf53 X d (nI a) (nI b) (I, L, ()) = some (some (aI (nI (max a b))), (I, L, ())) := by
  rw [c_max hd]
  by_cases h : a < b
  · rw [if_pos ((n_lt ha hb).mpr h), Nat.max_eq_right (by omega)]
  · rw [if_neg (fun q => h ((n_lt ha hb).mp q)), Nat.max_eq_left (by omega)]
/-- only the cell k of the three tables changes -/
def Ck (k : Nat) (I J : A3 Int32) : Prop := (∀ f, f ∉ [49, 50, 51] → J f = I f) ∧ ∀ f j, j ≠ k → J f 0 j = I f 0 j
def set3 (J : A3 Int32) (k : Nat) (r : R3) : A3 Int32 := up3 (up3 (up3 J 49 0 k (bI r.1)) 50 0 k (nI r.2.1)) 51 0 k (nI r.2.2)
def is3 (J : A3 Int32) (k : Nat) (r : R3) : Prop := J 49 0 k = bI r.1 ∧ J 50 0 k = nI r.2.1 ∧ J 51 0 k = nI r.2.2
theorem set3_is (J : A3 Int32) (k : Nat) (r : R3) : is3 (set3 J k r) k r := by
  unfold is3 set3
  refine ⟨?_, ?_, u3_eq _ _ _ _ _⟩
  · rw [u3_f _ _ (by decide), u3_f _ _ (by decide), u3_eq]
  · rw [u3_f _ _ (by decide), u3_eq]
theorem Ck.refl {k : Nat} : Ck k I I := ⟨fun _ _ => rfl, fun _ _ _ => rfl⟩
theorem u3_ne {F : A3 Int32} {g i k f j : Nat} {x : Int32} (h : j ≠ k) : up3 F g i k x f i j = F f i j := by simp [up3, h]
theorem Ck.set {k : Nat} {r : R3} (h : Ck k I J) : Ck k I (set3 J k r) := by
  refine ⟨fun f hf => ?_, fun f j hj => ?_⟩
  · unfold set3
    rw [u3_f _ _ (fun e => hf (by rw [e]; decide)), u3_f _ _ (fun e => hf (by rw [e]; decide)), u3_f _ _ (fun e => hf (by rw [e]; decide))]
    exact h.1 f hf
  · unfold set3
    rw [u3_ne hj, u3_ne hj, u3_ne hj]
    exact h.2 f j hj
theorem is3.ck {k l : Nat} {r : R3} (h : is3 I l r) (hC : Ck k I J) (hl : l ≠ k) : is3 J l r := by
  unfold is3
  rw [hC.2 49 l hl, hC.2 50 l hl, hC.2 51 l hl]
  exact h
theorem filS_bd {f : Pl → R3} {m T : Nat} {p : Pl} (hf : ∀ q, (f q).2.1 ≤ 1000000 ∧ (f q).2.2 ≤ T) (hm : m + 1 ≤ T) : ∀ s, (filS w N ps kn lo dr f m p s).2.1 ≤ 1000000 ∧ (filS w N ps kn lo dr f m p s).2.2 ≤ T := by
  intro s
  induction s with
  | zero => exact ⟨Nat.le_refl _, hm⟩
  | succ s ih =>
    unfold filS
    split
    · rename_i q _
      split
      · have := hf q
        refine ⟨?_, ?_⟩
        · show min _ _ ≤ _; omega
        · show max _ _ ≤ _; omega
      · exact ih
    · exact ih
theorem fil_bd : ∀ j, j < w 1 → ∀ p, (fil w N ps kn lo dr j p).2.1 ≤ 1000000 ∧ (fil w N ps kn lo dr j p).2.2 ≤ w 1 := by
  intro j
  induction j with
  | zero =>
    intro hj p
    unfold fil
    split
    · exact ⟨Nat.zero_le _, Nat.le_refl _⟩
    · refine ⟨Nat.le_refl _, ?_⟩
      show w 1 - 1 ≤ w 1
      omega
  | succ j ih =>
    intro hj p
    unfold fil
    split
    · exact filS_bd (ih (by omega)) (by omega) 12
    · refine ⟨Nat.le_refl _, ?_⟩
      show w 1 - 2 - j ≤ w 1
      omega
/-- minute index i is filled -/
def FPm (J : A3 Int32) (w : TW) (N : Nat) (ps : Nat → Nat → Option Nat) (kn : Nat → Nat) (lo dr : Nat → Bool) (i : Nat) : Prop := ∀ p : Pl, p.1 < w 0 → is3 J (16 * (w 1 - 1 - i) + rmP p) (fil w N ps kn lo dr i p)
theorem rm_inj {p q : Pl} (h : rmP p = rmP q) : p = q := by
  have h1 := rm_d p
  have h2 := rm_d q
  have h3 := rm_m p
  have h4 := rm_m q
  rw [h] at h1 h3
  obtain ⟨a, b⟩ := p
  obtain ⟨c, e⟩ := q
  simp only at *
  have : a = c := by omega
  subst this
  cases b <;> cases e <;> simp_all
theorem fp_steps {j m k : Nat} {p : Pl} (h : TM J w) (v : Vw w) (hQ : QM J lo dr) (hP : PM J (w 1) N ps kn) (hn : N ≤ 3) (hps : ∀ k, k < N → ∀ m x, ps k m = some x → x < 8) (hkn : ∀ k, k < N → kn k ≤ 100) (hp : p.1 < w 0) (hm : m = w 1 - 2 - j) (hj : j + 1 < w 1) (hk : k = 16 * m + rmP p) (hF : FPm J w N ps kn lo dr j) (h0 : is3 J k (false, 1000000, m + 1)) (hd : 4 ≤ d) : ∃ J', Ck k J J' ∧ is3 J' k (filS w N ps kn lo dr (fil w N ps kn lo dr j) m p 12) ∧ OLe (v_X11_fillPlaces_289 X d (nI m) (nI (rmP p)) (J', L, ())) (v_X11_fillPlaces_150 X d (nI m) (nI (rmP p)) (nI k) (nI 0) (nI 0) (nI 0) (J, L, ())) := by
  obtain ⟨⟨w0, w1, -⟩, -⟩ := id v
  have hb : rmP p < 16 := rmP_lt (by omega)
  obtain ⟨J', ⟨g1, g2⟩, g3⟩ := loop_z (F := fun s (J' : A3 Int32) => v_X11_fillPlaces_150 X d (nI m) (nI (rmP p)) (nI k) (nI 0) (nI 0) (nI s) (J', L, ())) (P := fun s J' => Ck k J J' ∧ is3 J' k (filS w N ps kn lo dr (fil w N ps kn lo dr j) m p s)) 12 J ⟨Ck.refl, h0⟩ (fun s J' hs hI => by
    obtain ⟨i1, i2⟩ := hI
    have t' : TM J' w := h.fm (l := [49, 50, 51]) i1.1 (by decide)
    have q' : QM J' lo dr := by unfold QM; rw [i1.1 40 (by decide)]; exact hQ
    have p' : PM J' (w 1) N ps kn := by unfold PM; rw [i1.1 40 (by decide), i1.1 47 (by decide), i1.1 48 (by decide)]; exact hP
    have hfree := m_isFreeStep (X := X) (d := d) (L := L) t' v q' p' hn hps hkn hp (show m + 1 < w 1 by omega) hs hd
    have hstep := m_stepped (X := X) (d := d) (L := L) t' v q' hp (show m < w 1 by omega) hs (by omega)
    unfold filS
    cases hq : stp w lo dr m p s with
    | none =>
      refine ⟨J', ⟨i1, i2⟩, fun r hr => ?_⟩
      refine v_X11_fillPlaces_150.e X d _ _ _ _ _ _ J' L r ?_
      have hfr : fre w N ps kn lo dr m p s = false := by unfold fre; rw [hq]
      rw [hfr] at hfree
      simp (disch := omega) only [a_bi_i, a_bv_n, a_bl_l, a_bq_q, l_0, l_1, l_2, l_3, l_4, l_5, l_6, l_7, l_8, l_9, l_10, l_12, l_16, l_20, l_24, l_25, l_31, l_32, l_33, l_40, l_48, l_57, l_60, l_63, l_64, l_78, l_85, l_97, l_99, l_100, l_122, l_255, l_325, l_700, l_999, l_1000, l_1200, l_99999, l_100000, l_1000000, l_2000000000, l_N, n_add, n_mul, n_lt, n_out, n_div, n_dm, n_eq, n_toN, n_inN, n_ltN, n_nltN, n_neN, Nat.not_lt_zero, false_or, or_false, ite_y, ite_n, if_true, if_false, ite_tt, ite_ff, b_0, b_1, eq_self_iff_true, Bool.true_eq_false, Bool.false_eq_true, hfree]
      refine v_X11_fillPlaces_283.e X d _ _ _ _ _ _ J' L r ?_
      simp (disch := omega) only [a_bi_i, a_bv_n, a_bl_l, a_bq_q, l_0, l_1, l_2, l_3, l_4, l_5, l_6, l_7, l_8, l_9, l_10, l_12, l_16, l_20, l_24, l_25, l_31, l_32, l_33, l_40, l_48, l_57, l_60, l_63, l_64, l_78, l_85, l_97, l_99, l_100, l_122, l_255, l_325, l_700, l_999, l_1000, l_1200, l_99999, l_100000, l_1000000, l_2000000000, l_N, n_add, n_mul, n_lt, n_out, n_div, n_dm, n_eq, n_toN, n_inN, n_ltN, n_nltN, n_neN, Nat.not_lt_zero, false_or, or_false, ite_y, ite_n, if_true, if_false, ite_tt, ite_ff, b_0, b_1, eq_self_iff_true, Bool.true_eq_false, Bool.false_eq_true]
      exact hr
    | some q =>
      simp only
      cases hfr : fre w N ps kn lo dr m p s with
      | false =>
        rw [if_neg (by decide)]
        refine ⟨J', ⟨i1, i2⟩, fun r hr => ?_⟩
        refine v_X11_fillPlaces_150.e X d _ _ _ _ _ _ J' L r ?_
        rw [hfr] at hfree
        simp (disch := omega) only [a_bi_i, a_bv_n, a_bl_l, a_bq_q, l_0, l_1, l_2, l_3, l_4, l_5, l_6, l_7, l_8, l_9, l_10, l_12, l_16, l_20, l_24, l_25, l_31, l_32, l_33, l_40, l_48, l_57, l_60, l_63, l_64, l_78, l_85, l_97, l_99, l_100, l_122, l_255, l_325, l_700, l_999, l_1000, l_1200, l_99999, l_100000, l_1000000, l_2000000000, l_N, n_add, n_mul, n_lt, n_out, n_div, n_dm, n_eq, n_toN, n_inN, n_ltN, n_nltN, n_neN, Nat.not_lt_zero, false_or, or_false, ite_y, ite_n, if_true, if_false, ite_tt, ite_ff, b_0, b_1, eq_self_iff_true, Bool.true_eq_false, Bool.false_eq_true, hfree]
        refine v_X11_fillPlaces_283.e X d _ _ _ _ _ _ J' L r ?_
        simp (disch := omega) only [a_bi_i, a_bv_n, a_bl_l, a_bq_q, l_0, l_1, l_2, l_3, l_4, l_5, l_6, l_7, l_8, l_9, l_10, l_12, l_16, l_20, l_24, l_25, l_31, l_32, l_33, l_40, l_48, l_57, l_60, l_63, l_64, l_78, l_85, l_97, l_99, l_100, l_122, l_255, l_325, l_700, l_999, l_1000, l_1200, l_99999, l_100000, l_1000000, l_2000000000, l_N, n_add, n_mul, n_lt, n_out, n_div, n_dm, n_eq, n_toN, n_inN, n_ltN, n_nltN, n_neN, Nat.not_lt_zero, false_or, or_false, ite_y, ite_n, if_true, if_false, ite_tt, ite_ff, b_0, b_1, eq_self_iff_true, Bool.true_eq_false, Bool.false_eq_true]
        exact hr
      | true =>
        rw [if_pos rfl]
        have hq0 := stp_in hp hq
        have hb2 : rmP q < 16 := rmP_lt (by omega)
        have hl : 16 * (m + 1) + rmP q ≠ k := by omega
        have b2 : is3 J' (16 * (m + 1) + rmP q) (fil w N ps kn lo dr j q) := by
          have := (hF q hq0).ck i1 (by omega)
          rwa [show w 1 - 1 - j = m + 1 by omega] at this
        have bd1 := filS_bd (w := w) (N := N) (ps := ps) (kn := kn) (lo := lo) (dr := dr) (p := p) (fil_bd (w := w) (N := N) (ps := ps) (kn := kn) (lo := lo) (dr := dr) j (by omega)) (show m + 1 ≤ w 1 by omega) s
        have bd2 := fil_bd (w := w) (N := N) (ps := ps) (kn := kn) (lo := lo) (dr := dr) j (by omega) q
        refine ⟨set3 J' k (cmb (filS w N ps kn lo dr (fil w N ps kn lo dr j) m p s) (fil w N ps kn lo dr j q) s), ⟨i1.set, set3_is _ _ _⟩, fun r hr => ?_⟩
        refine v_X11_fillPlaces_150.e X d _ _ _ _ _ _ J' L r ?_
        rw [hq] at hstep
        rw [hfr] at hfree
        generalize filS w N ps kn lo dr (fil w N ps kn lo dr j) m p s = a at *
        generalize fil w N ps kn lo dr j q = b at *
        obtain ⟨a1, a2, a3⟩ := a
        obtain ⟨b1, b2', b3⟩ := b
        obtain ⟨x1, x2, x3⟩ := i2
        obtain ⟨y1, y2, y3⟩ := b2
        simp only at x1 x2 x3 y1 y2 y3 bd1 bd2
        have e50 : ∀ x, up3 J' 49 0 k x 50 = J' 50 := fun x => u3_f _ _ (by decide)
        have e51 : ∀ x y, up3 (up3 J' 49 0 k x) 50 0 k y 51 = J' 51 := fun x y => by rw [u3_f _ _ (by decide), u3_f _ _ (by decide)]
        have fin : ∀ a1' : Bool, ∀ a2' : Nat, a1' = (a1 || b1) → a2' = min a2 (b2' + (if s = 0 then 0 else 1)) → v_X11_fillPlaces_283 X d (nI m) (nI (rmP p)) (nI k) (nI 0) (nI 0) (nI s) (up3 (up3 (up3 J' 49 0 k (bI a1')) 50 0 k (nI a2')) 51 0 k (nI (max a3 b3)), L, ()) = some r := fun a1' a2' u1 u2 => by
          subst u1 u2
          refine v_X11_fillPlaces_283.e X d _ _ _ _ _ _ _ L r ?_
          simp (disch := omega) only [a_bi_i, a_bv_n, a_bl_l, a_bq_q, l_0, l_1, l_2, l_3, l_4, l_5, l_6, l_7, l_8, l_9, l_10, l_12, l_16, l_20, l_24, l_25, l_31, l_32, l_33, l_40, l_48, l_57, l_60, l_63, l_64, l_78, l_85, l_97, l_99, l_100, l_122, l_255, l_325, l_700, l_999, l_1000, l_1200, l_99999, l_100000, l_1000000, l_2000000000, l_N, n_add, n_mul, n_lt, n_out, n_div, n_dm, n_eq, n_toN, n_inN, n_ltN, n_nltN, n_neN, Nat.not_lt_zero, false_or, or_false, ite_y, ite_n, if_true, if_false, ite_tt, ite_ff, b_0, b_1, eq_self_iff_true, Bool.true_eq_false, Bool.false_eq_true]
          exact hr
        by_cases hs0 : s = 0
        · subst hs0
          cases a1 <;> cases b1 <;> simp (disch := omega) only [a_bi_i, a_bv_n, a_bl_l, a_bq_q, l_0, l_1, l_2, l_3, l_4, l_5, l_6, l_7, l_8, l_9, l_10, l_12, l_16, l_20, l_24, l_25, l_31, l_32, l_33, l_40, l_48, l_57, l_60, l_63, l_64, l_78, l_85, l_97, l_99, l_100, l_122, l_255, l_325, l_700, l_999, l_1000, l_1200, l_99999, l_100000, l_1000000, l_2000000000, l_N, n_add, n_mul, n_lt, n_out, n_div, n_dm, n_eq, n_toN, n_inN, n_ltN, n_nltN, n_neN, Nat.not_lt_zero, false_or, or_false, ite_y, ite_n, if_true, if_false, ite_tt, ite_ff, b_0, b_1, eq_self_iff_true, Bool.true_eq_false, Bool.false_eq_true, hfree, hstep, Option.map, oI_S, x1, y1, e50, e51, x2, x3, y2, y3, c_minN, c_maxN]
          · exact fin false _ rfl rfl
          · exact fin true _ rfl rfl
          · exact fin true _ rfl rfl
          · exact fin true _ rfl rfl
        · have hs1 : (if s = 0 then 0 else 1) = 1 := if_neg hs0
          rw [hs1] at fin
          cases a1 <;> cases b1 <;> simp (disch := omega) only [a_bi_i, a_bv_n, a_bl_l, a_bq_q, l_0, l_1, l_2, l_3, l_4, l_5, l_6, l_7, l_8, l_9, l_10, l_12, l_16, l_20, l_24, l_25, l_31, l_32, l_33, l_40, l_48, l_57, l_60, l_63, l_64, l_78, l_85, l_97, l_99, l_100, l_122, l_255, l_325, l_700, l_999, l_1000, l_1200, l_99999, l_100000, l_1000000, l_2000000000, l_N, n_add, n_mul, n_lt, n_out, n_div, n_dm, n_eq, n_toN, n_inN, n_ltN, n_nltN, n_neN, Nat.not_lt_zero, false_or, or_false, ite_y, ite_n, if_true, if_false, ite_tt, ite_ff, b_0, b_1, eq_self_iff_true, Bool.true_eq_false, Bool.false_eq_true, hfree, hstep, Option.map, oI_S, x1, y1, e50, e51, x2, x3, y2, y3, c_minN, c_maxN, hs0]
          · exact fin false _ rfl rfl
          · exact fin true _ rfl rfl
          · exact fin true _ rfl rfl
          · exact fin true _ rfl rfl)
  refine ⟨J', g1, g2, fun r hr => g3 r (v_X11_fillPlaces_150.e X d _ _ _ _ _ _ J' L r ?_)⟩
  simp (disch := omega) only [a_bi_i, a_bv_n, a_bl_l, a_bq_q, l_0, l_1, l_2, l_3, l_4, l_5, l_6, l_7, l_8, l_9, l_10, l_12, l_16, l_20, l_24, l_25, l_31, l_32, l_33, l_40, l_48, l_57, l_60, l_63, l_64, l_78, l_85, l_97, l_99, l_100, l_122, l_255, l_325, l_700, l_999, l_1000, l_1200, l_99999, l_100000, l_1000000, l_2000000000, l_N, n_add, n_mul, n_lt, n_out, n_div, n_dm, n_eq, n_toN, n_inN, n_ltN, n_nltN, n_neN, Nat.not_lt_zero, false_or, or_false, ite_y, ite_n, if_true, if_false, ite_tt, ite_ff, b_0, b_1, eq_self_iff_true, Bool.true_eq_false, Bool.false_eq_true, Nat.lt_irrefl]
  exact hr
end
