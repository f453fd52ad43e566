/-! room -/
section
variable {X : AX} {d : Nat} {I J : A3 Int32} {L : A3 Int64} {w : TW} {N : Nat} {ps : Nat → Nat → Option Nat} {kn : Nat → Nat} {lo dr : Nat → Bool}
/-- the row f of the reference holds the set S -/
def BR (J : A3 Int32) (f : Nat) (n : Nat) (S : Pl → Prop) : Prop := ∀ t, t < n → (J f 0 t = nI 1 ∧ S (plN t)) ∨ (J f 0 t = nI 0 ∧ ¬ S (plN t))
theorem BR.iff {f n : Nat} {S T : Pl → Prop} (h : BR J f n S) (hT : ∀ t, t < n → (S (plN t) ↔ T (plN t))) : BR J f n T := fun t ht => by
  rcases h t ht with ⟨a, b⟩ | ⟨a, b⟩
  · exact Or.inl ⟨a, (hT t ht).mp b⟩
  · exact Or.inr ⟨a, fun z => b ((hT t ht).mpr z)⟩
def Rch (w : TW) (N : Nat) (ps : Nat → Nat → Option Nat) (kn : Nat → Nat) (lo dr : Nat → Bool) (m : Nat) (S : Pl → Prop) (t s : Nat) (q : Pl) : Prop := ∃ t' s', (t' < t ∨ (t' = t ∧ s' < s)) ∧ S (plN t') ∧ s' < 12 ∧ stp w lo dr m (plN t') s' = some q ∧ fre w N ps kn lo dr m (plN t') s' = true
/-- what stays while rows 52 and 53 change -/
def R5 (w : TW) (N : Nat) (ps : Nat → Nat → Option Nat) (kn : Nat → Nat) (lo dr : Nat → Bool) (I J : A3 Int32) : Prop := Fm [52, 53] I J ∧ TM J w ∧ QM J lo dr ∧ PM J (w 1) N ps kn
theorem R5.up {f j : Nat} {x : Int32} (h : R5 w N ps kn lo dr I J) (hf : f = 52 ∨ f = 53) : R5 w N ps kn lo dr I (up3 J f 0 j x) := by
  have hF : Fm [52, 53] J (up3 J f 0 j x) := fun g hg => u3_f _ _ (fun e => hg (by rw [e]; rcases hf with rfl | rfl <;> decide))
  obtain ⟨h1, h2, h3, h4⟩ := h
  refine ⟨h1.trans hF, h2.fm hF (by decide), ?_, ?_⟩
  · unfold QM; rw [hF 40 (by decide)]; exact h3
  · unfold PM; rw [hF 40 (by decide), hF 47 (by decide), hF 48 (by decide)]; exact h4
theorem rm_steps {k m t : Nat} {S : Pl → Prop} (v : Vw w) (hR : R5 w N ps kn lo dr I J) (hn : N ≤ 3) (hps : ∀ k, k < N → ∀ m x, ps k m = some x → x < 8) (hkn : ∀ k, k < N → kn k ≤ 100) (hS : ∀ q, S q → q.1 < w 0) (hm : m + 1 < w 1) (ht : t < 16) (h52 : BR J 52 16 S) (h53 : BR J 53 16 (Rch w N ps kn lo dr m S t 0)) (hd : 5 ≤ d) : ∃ J', R5 w N ps kn lo dr I J' ∧ J' 52 = J 52 ∧ BR J' 53 16 (Rch w N ps kn lo dr m S (t + 1) 0) ∧ OLe (v_X11_room_102 X d (nI k) (nI m) (nI (t + 1)) (J', L, ())) (v_X11_room_102 X d (nI k) (nI m) (nI t) (J, L, ())) := by
  obtain ⟨⟨w0, w1, -⟩, -⟩ := id v
  rcases h52 t ht with ⟨e52, hSt⟩ | ⟨e52, hSt⟩
  · have hp := hS _ hSt
    obtain ⟨J', ⟨g1, g2, g3⟩, g4⟩ := loop_z (F := fun s (K : A3 Int32) => v_X11_room_111 X d (nI k) (nI m) (nI t) (nI s) (K, L, ())) (P := fun s K => R5 w N ps kn lo dr I K ∧ K 52 = J 52 ∧ BR K 53 16 (Rch w N ps kn lo dr m S t s)) 12 J ⟨hR, rfl, h53⟩ (fun s K hs hP => by
      obtain ⟨p1, p2, p3⟩ := hP
      obtain ⟨q1, q2, q3, q4⟩ := id p1
      have hfree := m_isFreeStep (X := X) (d := d) (L := L) (p := plN t) q2 v q3 q4 hn hps hkn hp hm hs (by omega)
      have hstep := m_stepped (X := X) (d := d) (L := L) (p := plN t) q2 v q3 hp (show m < w 1 by omega) hs (by omega)
      rw [rm_pl] at hfree hstep
      have hcell : K 52 0 t = nI 1 := by rw [p2]; exact e52
      have old : ∀ q, Rch w N ps kn lo dr m S t s q → Rch w N ps kn lo dr m S t (s + 1) q := fun q ⟨t', s', z1, z2⟩ => ⟨t', s', by omega, z2⟩
      cases hfr : fre w N ps kn lo dr m (plN t) s with
      | false =>
        refine ⟨K, ⟨p1, p2, p3.iff (fun t1 _ => ⟨old _, fun ⟨t', s', z1, z2, z3, z4, z5⟩ => ?_⟩)⟩, fun r hr => ?_⟩
        · by_cases e : t' = t ∧ s' = s
          · obtain ⟨rfl, rfl⟩ := e; rw [hfr] at z5; cases z5
          · exact ⟨t', s', by omega, z2, z3, z4, z5⟩
        · rw [hfr] at hfree
          refine v_X11_room_111.e X d _ _ _ _ K L r ?_
          simp (disch := omega) only [a_bi_i, a_bv_n, a_bl_l, a_bq_q, l_0, l_1, l_2, l_3, l_4, l_5, l_6, l_7, l_8, l_9, l_10, l_12, l_16, l_20, l_24, l_25, l_31, l_32, l_33, l_40, l_48, l_57, l_60, l_63, l_64, l_78, l_85, l_97, l_99, l_100, l_122, l_255, l_325, l_700, l_999, l_1000, l_1200, l_99999, l_100000, l_1000000, l_2000000000, l_N, n_add, n_mul, n_lt, n_out, n_div, n_dm, n_eq, n_toN, n_inN, n_ltN, n_nltN, n_neN, Nat.not_lt_zero, false_or, or_false, ite_y, ite_n, if_true, if_false, ite_tt, ite_ff, b_0, b_1, eq_self_iff_true, Bool.true_eq_false, Bool.false_eq_true, hcell, hfree]
          exact hr
      | true =>
        cases hq : stp w lo dr m (plN t) s with
        | none => unfold fre at hfr; rw [hq] at hfr; cases hfr
        | some q =>
          have hq0 := stp_in hp hq
          have hb : rmP q < 16 := rmP_lt (by omega)
          refine ⟨up3 K 53 0 (rmP q) (nI 1), ⟨p1.up (Or.inr rfl), by rw [u3_f _ _ (by decide)]; exact p2, fun t1 ht1 => ?_⟩, fun r hr => ?_⟩
          · by_cases e : t1 = rmP q
            · left
              refine ⟨by rw [e, u3_eq], ?_⟩
              rw [e, show plN (rmP q) = q from rm_inj (rm_pl (rmP q))]
              exact ⟨t, s, Or.inr ⟨rfl, by omega⟩, hSt, hs, hq, hfr⟩
            · rw [u3_j _ _ e]
              rcases p3 t1 ht1 with ⟨z1, z2⟩ | ⟨z1, z2⟩
              · exact Or.inl ⟨z1, old _ z2⟩
              · refine Or.inr ⟨z1, fun ⟨t', s', y1, y2, y3, y4, y5⟩ => ?_⟩
                by_cases e2 : t' = t ∧ s' = s
                · obtain ⟨rfl, rfl⟩ := e2
                  rw [hq] at y4
                  have := Option.some.inj y4
                  rw [this, rm_pl] at e
                  exact e rfl
                · exact z2 ⟨t', s', by omega, y2, y3, y4, y5⟩
          · rw [hfr] at hfree
            rw [hq] at hstep
            refine v_X11_room_111.e X d _ _ _ _ K L r ?_
            simp (disch := omega) only [a_bi_i, a_bv_n, a_bl_l, a_bq_q, l_0, l_1, l_2, l_3, l_4, l_5, l_6, l_7, l_8, l_9, l_10, l_12, l_16, l_20, l_24, l_25, l_31, l_32, l_33, l_40, l_48, l_57, l_60, l_63, l_64, l_78, l_85, l_97, l_99, l_100, l_122, l_255, l_325, l_700, l_999, l_1000, l_1200, l_99999, l_100000, l_1000000, l_2000000000, l_N, n_add, n_mul, n_lt, n_out, n_div, n_dm, n_eq, n_toN, n_inN, n_ltN, n_nltN, n_neN, Nat.not_lt_zero, false_or, or_false, ite_y, ite_n, if_true, if_false, ite_tt, ite_ff, b_0, b_1, eq_self_iff_true, Bool.true_eq_false, Bool.false_eq_true, hcell, hfree, hstep, Option.map, oI_S]
            exact hr)
    refine ⟨J', g1, g2, g3.iff (fun t1 _ => ⟨fun ⟨t', s', z1, z2⟩ => ⟨t', s', by omega, z2⟩, fun ⟨t', s', z1, z2, z3, z4⟩ => ⟨t', s', by omega, z2, z3, z4⟩⟩), fun r hr => ?_⟩
    refine v_X11_room_102.e X d _ _ _ J L r ?_
    simp (disch := omega) only [a_bi_i, a_bv_n, a_bl_l, a_bq_q, l_0, l_1, l_2, l_3, l_4, l_5, l_6, l_7, l_8, l_9, l_10, l_12, l_16, l_20, l_24, l_25, l_31, l_32, l_33, l_40, l_48, l_57, l_60, l_63, l_64, l_78, l_85, l_97, l_99, l_100, l_122, l_255, l_325, l_700, l_999, l_1000, l_1200, l_99999, l_100000, l_1000000, l_2000000000, l_N, n_add, n_mul, n_lt, n_out, n_div, n_dm, n_eq, n_toN, n_inN, n_ltN, n_nltN, n_neN, Nat.not_lt_zero, false_or, or_false, ite_y, ite_n, if_true, if_false, ite_tt, ite_ff, b_0, b_1, eq_self_iff_true, Bool.true_eq_false, Bool.false_eq_true]
    refine g4 r (v_X11_room_111.e X d _ _ _ _ J' L r ?_)
    simp (disch := omega) only [a_bi_i, a_bv_n, a_bl_l, a_bq_q, l_0, l_1, l_2, l_3, l_4, l_5, l_6, l_7, l_8, l_9, l_10, l_12, l_16, l_20, l_24, l_25, l_31, l_32, l_33, l_40, l_48, l_57, l_60, l_63, l_64, l_78, l_85, l_97, l_99, l_100, l_122, l_255, l_325, l_700, l_999, l_1000, l_1200, l_99999, l_100000, l_1000000, l_2000000000, l_N, n_add, n_mul, n_lt, n_out, n_div, n_dm, n_eq, n_toN, n_inN, n_ltN, n_nltN, n_neN, Nat.not_lt_zero, false_or, or_false, ite_y, ite_n, if_true, if_false, ite_tt, ite_ff, b_0, b_1, eq_self_iff_true, Bool.true_eq_false, Bool.false_eq_true, Nat.lt_irrefl]
    exact hr
  · refine ⟨J, hR, rfl, h53.iff (fun t1 _ => ⟨fun ⟨t', s', z1, z2⟩ => ⟨t', s', by omega, z2⟩, fun ⟨t', s', z1, z2, z3⟩ => ?_⟩), fun r hr => ?_⟩
    · by_cases e : t' = t
      · subst e; exact absurd z2 hSt
      · exact ⟨t', s', by omega, z2, z3⟩
    · refine v_X11_room_102.e X d _ _ _ J L r ?_
      simp (disch := omega) only [a_bi_i, a_bv_n, a_bl_l, a_bq_q, l_0, l_1, l_2, l_3, l_4, l_5, l_6, l_7, l_8, l_9, l_10, l_12, l_16, l_20, l_24, l_25, l_31, l_32, l_33, l_40, l_48, l_57, l_60, l_63, l_64, l_78, l_85, l_97, l_99, l_100, l_122, l_255, l_325, l_700, l_999, l_1000, l_1200, l_99999, l_100000, l_1000000, l_2000000000, l_N, n_add, n_mul, n_lt, n_out, n_div, n_dm, n_eq, n_toN, n_inN, n_ltN, n_nltN, n_neN, Nat.not_lt_zero, false_or, or_false, ite_y, ite_n, if_true, if_false, ite_tt, ite_ff, b_0, b_1, eq_self_iff_true, Bool.true_eq_false, Bool.false_eq_true]
      refine v_X11_room_111.e X d _ _ _ _ J L r ?_
      simp (disch := omega) only [a_bi_i, a_bv_n, a_bl_l, a_bq_q, l_0, l_1, l_2, l_3, l_4, l_5, l_6, l_7, l_8, l_9, l_10, l_12, l_16, l_20, l_24, l_25, l_31, l_32, l_33, l_40, l_48, l_57, l_60, l_63, l_64, l_78, l_85, l_97, l_99, l_100, l_122, l_255, l_325, l_700, l_999, l_1000, l_1200, l_99999, l_100000, l_1000000, l_2000000000, l_N, n_add, n_mul, n_lt, n_out, n_div, n_dm, n_eq, n_toN, n_inN, n_ltN, n_nltN, n_neN, Nat.not_lt_zero, false_or, or_false, ite_y, ite_n, if_true, if_false, ite_tt, ite_ff, b_0, b_1, eq_self_iff_true, Bool.true_eq_false, Bool.false_eq_true, e52]
      exact hr
theorem rm_minute {k m : Nat} {S : Pl → Prop} (v : Vw w) (hR : R5 w N ps kn lo dr I J) (hn : N ≤ 3) (hps : ∀ k, k < N → ∀ m x, ps k m = some x → x < 8) (hkn : ∀ k, k < N → kn k ≤ 100) (hS : ∀ q, S q → q.1 < w 0) (hmk : m < k) (hk : k < w 1) (h52 : BR J 52 16 S) (hd : 5 ≤ d) : ∃ J', R5 w N ps kn lo dr I J' ∧ BR J' 52 16 (nxS w N ps kn lo dr m S) ∧ OLe (v_X11_room_74 X d (nI k) (nI (m + 1)) (J', L, ())) (v_X11_room_74 X d (nI k) (nI m) (J, L, ())) := by
  obtain ⟨⟨w0, w1, -⟩, -⟩ := id v
  obtain ⟨J1, ⟨a1, a2, a3⟩, a4⟩ := loop_z (F := fun t (K : A3 Int32) => v_X11_room_81 X d (nI k) (nI m) (nI t) (K, L, ())) (P := fun t K => R5 w N ps kn lo dr I K ∧ K 52 = J 52 ∧ ∀ j, j < t → K 53 0 j = nI 0) 16 J ⟨hR, rfl, fun j hj => absurd hj (by omega)⟩ (fun t K ht hP => by
    obtain ⟨p1, p2, p3⟩ := hP
    refine ⟨up3 K 53 0 t (nI 0), ⟨p1.up (Or.inr rfl), by rw [u3_f _ _ (by decide)]; exact p2, fun j hj => ?_⟩, fun r hr => ?_⟩
    · by_cases e : j = t
      · subst e; exact u3_eq _ _ _ _ _
      · rw [u3_j _ _ e]; exact p3 j (by omega)
    · refine v_X11_room_81.e X d _ _ _ K L r ?_
      simp (disch := omega) only [a_bi_i, a_bv_n, a_bl_l, a_bq_q, l_0, l_1, l_2, l_3, l_4, l_5, l_6, l_7, l_8, l_9, l_10, l_12, l_16, l_20, l_24, l_25, l_31, l_32, l_33, l_40, l_48, l_57, l_60, l_63, l_64, l_78, l_85, l_97, l_99, l_100, l_122, l_255, l_325, l_700, l_999, l_1000, l_1200, l_99999, l_100000, l_1000000, l_2000000000, l_N, n_add, n_mul, n_lt, n_out, n_div, n_dm, n_eq, n_toN, n_inN, n_ltN, n_nltN, n_neN, Nat.not_lt_zero, false_or, or_false, ite_y, ite_n, if_true, if_false, ite_tt, ite_ff, b_0, b_1, eq_self_iff_true, Bool.true_eq_false, Bool.false_eq_true]
      exact hr)
  obtain ⟨J2, ⟨b1, b2, b3⟩, b4⟩ := loop_z (F := fun t (K : A3 Int32) => v_X11_room_102 X d (nI k) (nI m) (nI t) (K, L, ())) (P := fun t K => R5 w N ps kn lo dr I K ∧ K 52 = J 52 ∧ BR K 53 16 (Rch w N ps kn lo dr m S t 0)) 16 J1 ⟨a1, a2, fun t ht => Or.inr ⟨a3 t ht, fun ⟨t', s', z, _⟩ => by omega⟩⟩ (fun t K ht hP => by
    obtain ⟨p1, p2, p3⟩ := hP
    obtain ⟨K', q1, q2, q3, q4⟩ := rm_steps (X := X) (d := d) (L := L) (k := k) v p1 hn hps hkn hS (show m + 1 < w 1 by omega) ht (fun t ht => by rw [p2]; exact h52 t ht) p3 hd
    exact ⟨K', ⟨q1, q2.trans p2, q3⟩, q4⟩)
  have b3' : BR J2 53 16 (nxS w N ps kn lo dr m S) := b3.iff (fun t _ => ⟨fun ⟨t', s', z1, z2, z3⟩ => ⟨plN t', s', z2, z3⟩, fun ⟨p, s, z1, z2, z3⟩ => ⟨rmP p, s, Or.inl (rmP_lt (by have := hS p z1; omega)), by rw [show plN (rmP p) = p from rm_inj (rm_pl (rmP p))]; exact ⟨z1, z2, z3⟩⟩⟩)
  obtain ⟨J3, ⟨c1, c2, c3⟩, c4⟩ := loop_z (F := fun t (K : A3 Int32) => v_X11_room_166 X d (nI k) (nI m) (nI t) (K, L, ())) (P := fun t K => R5 w N ps kn lo dr I K ∧ K 53 = J2 53 ∧ BR K 52 t (nxS w N ps kn lo dr m S)) 16 J2 ⟨b1, rfl, fun t ht => absurd ht (by omega)⟩ (fun t K ht hP => by
    obtain ⟨p1, p2, p3⟩ := hP
    have hc := b3' t ht
    rw [← p2] at hc
    refine ⟨up3 K 52 0 t (K 53 0 t), ⟨p1.up (Or.inl rfl), by rw [u3_f _ _ (by decide)]; exact p2, fun j hj => ?_⟩, fun r hr => ?_⟩
    · by_cases e : j = t
      · subst e; rw [u3_eq]; exact hc
      · rw [u3_j _ _ e]; exact p3 j (by omega)
    · refine v_X11_room_166.e X d _ _ _ K L r ?_
      have hor : K 53 0 t = nI 0 ∨ K 53 0 t = nI 1 := hc.elim (fun z => Or.inr z.1) (fun z => Or.inl z.1)
      have hor' : K 53 0 t = (0 : Int32) ∨ K 53 0 t = (1 : Int32) := hor
      simp (disch := omega) only [a_bi_i, a_bv_n, a_bl_l, a_bq_q, l_0, l_1, l_2, l_3, l_4, l_5, l_6, l_7, l_8, l_9, l_10, l_12, l_16, l_20, l_24, l_25, l_31, l_32, l_33, l_40, l_48, l_57, l_60, l_63, l_64, l_78, l_85, l_97, l_99, l_100, l_122, l_255, l_325, l_700, l_999, l_1000, l_1200, l_99999, l_100000, l_1000000, l_2000000000, l_N, n_add, n_mul, n_lt, n_out, n_div, n_dm, n_eq, n_toN, n_inN, n_ltN, n_nltN, n_neN, Nat.not_lt_zero, false_or, or_false, ite_y, ite_n, if_true, if_false, ite_tt, ite_ff, b_0, b_1, eq_self_iff_true, Bool.true_eq_false, Bool.false_eq_true] at hor' ⊢
      exact hr)
  refine ⟨J3, c1, c3, fun r hr => ?_⟩
  refine v_X11_room_74.e X d _ _ J L r ?_
  simp (disch := omega) only [a_bi_i, a_bv_n, a_bl_l, a_bq_q, l_0, l_1, l_2, l_3, l_4, l_5, l_6, l_7, l_8, l_9, l_10, l_12, l_16, l_20, l_24, l_25, l_31, l_32, l_33, l_40, l_48, l_57, l_60, l_63, l_64, l_78, l_85, l_97, l_99, l_100, l_122, l_255, l_325, l_700, l_999, l_1000, l_1200, l_99999, l_100000, l_1000000, l_2000000000, l_N, n_add, n_mul, n_lt, n_out, n_div, n_dm, n_eq, n_toN, n_inN, n_ltN, n_nltN, n_neN, Nat.not_lt_zero, false_or, or_false, ite_y, ite_n, if_true, if_false, ite_tt, ite_ff, b_0, b_1, eq_self_iff_true, Bool.true_eq_false, Bool.false_eq_true]
  refine a4 r (v_X11_room_81.e X d _ _ _ J1 L r ?_)
  simp (disch := omega) only [a_bi_i, a_bv_n, a_bl_l, a_bq_q, l_0, l_1, l_2, l_3, l_4, l_5, l_6, l_7, l_8, l_9, l_10, l_12, l_16, l_20, l_24, l_25, l_31, l_32, l_33, l_40, l_48, l_57, l_60, l_63, l_64, l_78, l_85, l_97, l_99, l_100, l_122, l_255, l_325, l_700, l_999, l_1000, l_1200, l_99999, l_100000, l_1000000, l_2000000000, l_N, n_add, n_mul, n_lt, n_out, n_div, n_dm, n_eq, n_toN, n_inN, n_ltN, n_nltN, n_neN, Nat.not_lt_zero, false_or, or_false, ite_y, ite_n, if_true, if_false, ite_tt, ite_ff, b_0, b_1, eq_self_iff_true, Bool.true_eq_false, Bool.false_eq_true, Nat.lt_irrefl]
  refine b4 r (v_X11_room_102.e X d _ _ _ J2 L r ?_)
  simp (disch := omega) only [a_bi_i, a_bv_n, a_bl_l, a_bq_q, l_0, l_1, l_2, l_3, l_4, l_5, l_6, l_7, l_8, l_9, l_10, l_12, l_16, l_20, l_24, l_25, l_31, l_32, l_33, l_40, l_48, l_57, l_60, l_63, l_64, l_78, l_85, l_97, l_99, l_100, l_122, l_255, l_325, l_700, l_999, l_1000, l_1200, l_99999, l_100000, l_1000000, l_2000000000, l_N, n_add, n_mul, n_lt, n_out, n_div, n_dm, n_eq, n_toN, n_inN, n_ltN, n_nltN, n_neN, Nat.not_lt_zero, false_or, or_false, ite_y, ite_n, if_true, if_false, ite_tt, ite_ff, b_0, b_1, eq_self_iff_true, Bool.true_eq_false, Bool.false_eq_true, Nat.lt_irrefl]
  refine c4 r (v_X11_room_166.e X d _ _ _ J3 L r ?_)
  simp (disch := omega) only [a_bi_i, a_bv_n, a_bl_l, a_bq_q, l_0, l_1, l_2, l_3, l_4, l_5, l_6, l_7, l_8, l_9, l_10, l_12, l_16, l_20, l_24, l_25, l_31, l_32, l_33, l_40, l_48, l_57, l_60, l_63, l_64, l_78, l_85, l_97, l_99, l_100, l_122, l_255, l_325, l_700, l_999, l_1000, l_1200, l_99999, l_100000, l_1000000, l_2000000000, l_N, n_add, n_mul, n_lt, n_out, n_div, n_dm, n_eq, n_toN, n_inN, n_ltN, n_nltN, n_neN, Nat.not_lt_zero, false_or, or_false, ite_y, ite_n, if_true, if_false, ite_tt, ite_ff, b_0, b_1, eq_self_iff_true, Bool.true_eq_false, Bool.false_eq_true, Nat.lt_irrefl]
  exact hr
theorem cnt_pl (f : Nat → Bool) : cnt 16 (fun t => f (cP (plN t))) = cnt 16 f := by
  simp only [cnt, show cP (plN 0) = 0 from rfl, show cP (plN 1) = 8 from rfl, show cP (plN 2) = 1 from rfl, show cP (plN 3) = 9 from rfl, show cP (plN 4) = 2 from rfl, show cP (plN 5) = 10 from rfl, show cP (plN 6) = 3 from rfl, show cP (plN 7) = 11 from rfl, show cP (plN 8) = 4 from rfl, show cP (plN 9) = 12 from rfl, show cP (plN 10) = 5 from rfl, show cP (plN 11) = 13 from rfl, show cP (plN 12) = 6 from rfl, show cP (plN 13) = 14 from rfl, show cP (plN 14) = 7 from rfl, show cP (plN 15) = 15 from rfl]
  generalize (if f 0 = true then 1 else 0) = g0
  generalize (if f 1 = true then 1 else 0) = g1
  generalize (if f 2 = true then 1 else 0) = g2
  generalize (if f 3 = true then 1 else 0) = g3
  generalize (if f 4 = true then 1 else 0) = g4
  generalize (if f 5 = true then 1 else 0) = g5
  generalize (if f 6 = true then 1 else 0) = g6
  generalize (if f 7 = true then 1 else 0) = g7
  generalize (if f 8 = true then 1 else 0) = g8
  generalize (if f 9 = true then 1 else 0) = g9
  generalize (if f 10 = true then 1 else 0) = g10
  generalize (if f 11 = true then 1 else 0) = g11
  generalize (if f 12 = true then 1 else 0) = g12
  generalize (if f 13 = true then 1 else 0) = g13
  generalize (if f 14 = true then 1 else 0) = g14
  generalize (if f 15 = true then 1 else 0) = g15
  omega
theorem q_room (h : TC I w) (v : Vw w) (a : Int32) : Both w (K_X10_room X 15 a) (K_X11_room X 15 a) I L := by
  obtain ⟨⟨h0, h1, h2, h3, h4, h5, h6, -⟩, -, vc, -⟩ := id v
  cases ha : inr a (w 1) with
  | false =>
    refine Both.pure (-2) (K_X10_room.e X 14 a I L _ ?_) (fun J L2 h => K_X11_room.e X 14 a J L2 _ ?_)
    · simp (disch := omega) only [c_hasMinute h v, ha, a_bi_i, a_bv_n, a_bl_l, a_bq_q, l_0, l_1, l_2, l_3, l_4, l_5, l_6, l_7, l_8, l_9, l_10, l_12, l_16, l_20, l_24, l_25, l_31, l_32, l_33, l_40, l_48, l_57, l_60, l_63, l_64, l_78, l_85, l_97, l_99, l_100, l_122, l_255, l_325, l_700, l_999, l_1000, l_1200, l_99999, l_100000, l_1000000, l_2000000000, l_N, n_add, n_mul, n_lt, n_out, n_div, n_dm, n_eq, n_toN, n_inN, n_ltN, n_nltN, n_neN, Nat.not_lt_zero, false_or, or_false, ite_y, ite_n, if_true, if_false, ite_tt, ite_ff, b_0, b_1, eq_self_iff_true, Bool.true_eq_false, Bool.false_eq_true]
    · simp (disch := omega) only [m_isMinute h v, ha, a_bi_i, a_bv_n, a_bl_l, a_bq_q, l_0, l_1, l_2, l_3, l_4, l_5, l_6, l_7, l_8, l_9, l_10, l_12, l_16, l_20, l_24, l_25, l_31, l_32, l_33, l_40, l_48, l_57, l_60, l_63, l_64, l_78, l_85, l_97, l_99, l_100, l_122, l_255, l_325, l_700, l_999, l_1000, l_1200, l_99999, l_100000, l_1000000, l_2000000000, l_N, n_add, n_mul, n_lt, n_out, n_div, n_dm, n_eq, n_toN, n_inN, n_ltN, n_nltN, n_neN, Nat.not_lt_zero, false_or, or_false, ite_y, ite_n, if_true, if_false, ite_tt, ite_ff, b_0, b_1, eq_self_iff_true, Bool.true_eq_false, Bool.false_eq_true]
  | true =>
    obtain ⟨k, hk, rfl⟩ := inr_ex (by omega) ha
    have hT : 0 < w 1 := by omega
    obtain ⟨J, f1, f2, f3, f4, f5, f6⟩ := c_openChase (X := X) (d := 14) (L := L) h v (by omega)
    obtain ⟨y, y1, y2⟩ := c_outset (X := X) (d := 14) (L := L) (lo := loB w) (dr := doB w) (x := (nI 1 <<< (nI (w 0) &&& nI 31)) - nI 1) (T := fun p => p.2 = false) v f6 hT (fun c => by
      rw [bt_all (by omega)]; simp) (fun c z => by cases z) (by omega)
    obtain ⟨x, x1, x2⟩ := loop_z (F := fun m (x : Int32) => v_X10_room_35 X 14 (nI k) x (nI m) (J, L, ())) (P := fun m x => BS x (fwS w (w 5) (psA w) (knA w) (loB w) (doB w) (fun p => p.2 = false) m)) k y y2 (fun m x hm hP => by
      obtain ⟨x', k1, k2⟩ := c_onward (X := X) (d := 14) (L := L) (q := 0) f3 v f5 (fun c hc => loB_lt hc) (fun c hc => doB_lt hc) f6 (show m + 1 < w 1 by omega) (fun q hq => fw_in m q hq) hP (by omega)
      refine ⟨x', k2, fun r hr => ?_⟩
      refine v_X10_room_35.e X 14 _ _ _ J L _ ?_
      simp (disch := omega) only [a_bi_i, a_bv_n, a_bl_l, a_bq_q, l_0, l_1, l_2, l_3, l_4, l_5, l_6, l_7, l_8, l_9, l_10, l_12, l_16, l_20, l_24, l_25, l_31, l_32, l_33, l_40, l_48, l_57, l_60, l_63, l_64, l_78, l_85, l_97, l_99, l_100, l_122, l_255, l_325, l_700, l_999, l_1000, l_1200, l_99999, l_100000, l_1000000, l_2000000000, l_N, n_add, n_mul, n_lt, n_out, n_div, n_dm, n_eq, n_toN, n_inN, n_ltN, n_nltN, n_neN, Nat.not_lt_zero, false_or, or_false, ite_y, ite_n, if_true, if_false, ite_tt, ite_ff, b_0, b_1, eq_self_iff_true, Bool.true_eq_false, Bool.false_eq_true, k1]
      exact hr)
    refine Both.mk (nI (cnt 16 (bt x))) J (K_X10_room.e X 14 _ I L _ ?_) f2 (fun M L2 hM' => ?_)
    · simp (disch := omega) only [c_hasMinute h v, ha, f1, c_allCoaches f3, y1, a_bi_i, a_bv_n, a_bl_l, a_bq_q, l_0, l_1, l_2, l_3, l_4, l_5, l_6, l_7, l_8, l_9, l_10, l_12, l_16, l_20, l_24, l_25, l_31, l_32, l_33, l_40, l_48, l_57, l_60, l_63, l_64, l_78, l_85, l_97, l_99, l_100, l_122, l_255, l_325, l_700, l_999, l_1000, l_1200, l_99999, l_100000, l_1000000, l_2000000000, l_N, n_add, n_mul, n_lt, n_out, n_div, n_dm, n_eq, n_toN, n_inN, n_ltN, n_nltN, n_neN, Nat.not_lt_zero, false_or, or_false, ite_y, ite_n, if_true, if_false, ite_tt, ite_ff, b_0, b_1, eq_self_iff_true, Bool.true_eq_false, Bool.false_eq_true]
      refine x2 _ (v_X10_room_35.e X 14 _ _ _ J L _ ?_)
      simp (disch := omega) only [a_bi_i, a_bv_n, a_bl_l, a_bq_q, l_0, l_1, l_2, l_3, l_4, l_5, l_6, l_7, l_8, l_9, l_10, l_12, l_16, l_20, l_24, l_25, l_31, l_32, l_33, l_40, l_48, l_57, l_60, l_63, l_64, l_78, l_85, l_97, l_99, l_100, l_122, l_255, l_325, l_700, l_999, l_1000, l_1200, l_99999, l_100000, l_1000000, l_2000000000, l_N, n_add, n_mul, n_lt, n_out, n_div, n_dm, n_eq, n_toN, n_inN, n_ltN, n_nltN, n_neN, Nat.not_lt_zero, false_or, or_false, ite_y, ite_n, if_true, if_false, ite_tt, ite_ff, b_0, b_1, eq_self_iff_true, Bool.true_eq_false, Bool.false_eq_true, c_bitCount x1.2, Nat.lt_irrefl]
    · obtain ⟨M1, m1, m2, m3, m4⟩ := sm_asItIs (X := X) (d := 14) (L := L2) hM' v (by omega)
      obtain ⟨M2, n1, n2, n3⟩ := m_places (X := X) (d := 14) (L := L2) m3 v (by omega)
      have r2 : R5 w (w 5) (psA w) (knA w) (loB w) (doB w) M2 M2 := ⟨Fm.refl, m3.sm n2.sm, n3, m4.r9 n2⟩
      obtain ⟨M3, ⟨a1, a2⟩, a3⟩ := loop_z (F := fun t (K : A3 Int32) => v_X11_room_22 X 14 (nI k) (nI t) (K, L2, ())) (P := fun t K => R5 w (w 5) (psA w) (knA w) (loB w) (doB w) M2 K ∧ BR K 52 t (fwS w (w 5) (psA w) (knA w) (loB w) (doB w) (fun p => p.2 = false) 0)) 16 M2 ⟨r2, fun t ht => absurd ht (by omega)⟩ (fun t K ht hP => by
        obtain ⟨p1, p2⟩ := hP
        obtain ⟨q1, q2, q3, q4⟩ := id p1
        have put : ∀ x : Int32, ((x = nI 1 ∧ fwS w (w 5) (psA w) (knA w) (loB w) (doB w) (fun p => p.2 = false) 0 (plN t)) ∨ (x = nI 0 ∧ ¬ fwS w (w 5) (psA w) (knA w) (loB w) (doB w) (fun p => p.2 = false) 0 (plN t))) → R5 w (w 5) (psA w) (knA w) (loB w) (doB w) M2 (up3 K 52 0 t x) ∧ BR (up3 K 52 0 t x) 52 (t + 1) (fwS w (w 5) (psA w) (knA w) (loB w) (doB w) (fun p => p.2 = false) 0) := fun x hx => ⟨p1.up (Or.inl rfl), fun j hj => by
          by_cases e : j = t
          · subst e; rw [u3_eq]; exact hx
          · rw [u3_j _ _ e]; exact p2 j (by omega)⟩
        by_cases he : t % 2 = 0
        · have hpl : plN t = (t / 2, false) := by unfold plN; simp [he]
          by_cases hc : t / 2 < w 0
          · have hin := m_hasIn (X := X) (d := 14) (L := L2) (p := plN t) q4 hT h5 h1 (fun k hk => psA_lt v hk) (kn100 v) (by rw [hpl]; show t / 2 < 8; omega) (by omega)
            rw [rm_pl] at hin
            have hpl' : isPl w (loB w) (plN t) = true := by rw [hpl]; unfold isPl; simp [hc]
            have hex := hdF_ex (N := w 5) (ps := psA w) (kn := knA w) (m := 0) (p := plN t)
            cases hh : hdF (w 5) (psA w) (knA w) 0 (plN t) with
            | false =>
              rw [hh] at hex
              refine ⟨_, put (nI 1) (Or.inl ⟨rfl, by rw [hpl], hpl', hh⟩), fun r hr => ?_⟩
              refine v_X11_room_22.e X 14 _ _ K L2 r ?_
              simp (disch := omega) only [a_bi_i, a_bv_n, a_bl_l, a_bq_q, l_0, l_1, l_2, l_3, l_4, l_5, l_6, l_7, l_8, l_9, l_10, l_12, l_16, l_20, l_24, l_25, l_31, l_32, l_33, l_40, l_48, l_57, l_60, l_63, l_64, l_78, l_85, l_97, l_99, l_100, l_122, l_255, l_325, l_700, l_999, l_1000, l_1200, l_99999, l_100000, l_1000000, l_2000000000, l_N, n_add, n_mul, n_lt, n_out, n_div, n_dm, n_eq, n_toN, n_inN, n_ltN, n_nltN, n_neN, Nat.not_lt_zero, false_or, or_false, ite_y, ite_n, if_true, if_false, ite_tt, ite_ff, b_0, b_1, eq_self_iff_true, Bool.true_eq_false, Bool.false_eq_true, m_isCoach q2 v, inr_n, hc, decide_true, hin, oI_fnd h5, ← hex]
              exact hr
            | true =>
              rw [hh] at hex
              refine ⟨_, put (nI 0) (Or.inr ⟨rfl, fun z => by have z2 := z.2.2; rw [hh] at z2; cases z2⟩), fun r hr => ?_⟩
              refine v_X11_room_22.e X 14 _ _ K L2 r ?_
              simp (disch := omega) only [a_bi_i, a_bv_n, a_bl_l, a_bq_q, l_0, l_1, l_2, l_3, l_4, l_5, l_6, l_7, l_8, l_9, l_10, l_12, l_16, l_20, l_24, l_25, l_31, l_32, l_33, l_40, l_48, l_57, l_60, l_63, l_64, l_78, l_85, l_97, l_99, l_100, l_122, l_255, l_325, l_700, l_999, l_1000, l_1200, l_99999, l_100000, l_1000000, l_2000000000, l_N, n_add, n_mul, n_lt, n_out, n_div, n_dm, n_eq, n_toN, n_inN, n_ltN, n_nltN, n_neN, Nat.not_lt_zero, false_or, or_false, ite_y, ite_n, if_true, if_false, ite_tt, ite_ff, b_0, b_1, eq_self_iff_true, Bool.true_eq_false, Bool.false_eq_true, m_isCoach q2 v, inr_n, hc, decide_true, hin, oI_fnd h5, ← hex]
              exact hr
          · refine ⟨_, put (nI 0) (Or.inr ⟨rfl, fun z => by have := fw_in 0 _ z; rw [hpl] at this; exact hc this⟩), fun r hr => ?_⟩
            refine v_X11_room_22.e X 14 _ _ K L2 r ?_
            simp (disch := omega) only [a_bi_i, a_bv_n, a_bl_l, a_bq_q, l_0, l_1, l_2, l_3, l_4, l_5, l_6, l_7, l_8, l_9, l_10, l_12, l_16, l_20, l_24, l_25, l_31, l_32, l_33, l_40, l_48, l_57, l_60, l_63, l_64, l_78, l_85, l_97, l_99, l_100, l_122, l_255, l_325, l_700, l_999, l_1000, l_1200, l_99999, l_100000, l_1000000, l_2000000000, l_N, n_add, n_mul, n_lt, n_out, n_div, n_dm, n_eq, n_toN, n_inN, n_ltN, n_nltN, n_neN, Nat.not_lt_zero, false_or, or_false, ite_y, ite_n, if_true, if_false, ite_tt, ite_ff, b_0, b_1, eq_self_iff_true, Bool.true_eq_false, Bool.false_eq_true, m_isCoach q2 v, inr_n, hc, decide_false]
            exact hr
        · refine ⟨_, put (nI 0) (Or.inr ⟨rfl, fun z => by have := z.1; unfold plN at this; simp at this; omega⟩), fun r hr => ?_⟩
          refine v_X11_room_22.e X 14 _ _ K L2 r ?_
          simp (disch := omega) only [a_bi_i, a_bv_n, a_bl_l, a_bq_q, l_0, l_1, l_2, l_3, l_4, l_5, l_6, l_7, l_8, l_9, l_10, l_12, l_16, l_20, l_24, l_25, l_31, l_32, l_33, l_40, l_48, l_57, l_60, l_63, l_64, l_78, l_85, l_97, l_99, l_100, l_122, l_255, l_325, l_700, l_999, l_1000, l_1200, l_99999, l_100000, l_1000000, l_2000000000, l_N, n_add, n_mul, n_lt, n_out, n_div, n_dm, n_eq, n_toN, n_inN, n_ltN, n_nltN, n_neN, Nat.not_lt_zero, false_or, or_false, ite_y, ite_n, if_true, if_false, ite_tt, ite_ff, b_0, b_1, eq_self_iff_true, Bool.true_eq_false, Bool.false_eq_true]
          exact hr)
      obtain ⟨M4, ⟨b1, b2⟩, b3⟩ := loop_z (F := fun m (K : A3 Int32) => v_X11_room_74 X 14 (nI k) (nI m) (K, L2, ())) (P := fun m K => R5 w (w 5) (psA w) (knA w) (loB w) (doB w) M2 K ∧ BR K 52 16 (fwS w (w 5) (psA w) (knA w) (loB w) (doB w) (fun p => p.2 = false) m)) k M3 ⟨a1, a2⟩ (fun m K hm hP => by
        obtain ⟨K', q1, q2, q3⟩ := rm_minute (X := X) (d := 14) (L := L2) (k := k) v hP.1 h5 (fun k hk => psA_lt v hk) (kn100 v) (fun q hq => fw_in m q hq) hm hk hP.2 (by omega)
        exact ⟨K', ⟨q1, q2⟩, q3⟩)
      have cell : ∀ t, t < 16 → M4 52 0 t = bI (bt x (cP (plN t))) := fun t ht => by
        have hi := x1.1 (plN t) (by show t / 2 < 8; omega)
        rcases b2 t ht with ⟨z1, z2⟩ | ⟨z1, z2⟩
        · rw [z1, hi.mpr z2]; rfl
        · rw [z1]
          cases hb : bt x (cP (plN t)) with
          | false => rfl
          | true => exact absurd (hi.mp hb) z2
      obtain ⟨c, rfl, c2⟩ := loop_z (F := fun t (c : Nat) => v_X11_room_200 X 14 (nI c) (nI t) (M4, L2, ())) (P := fun t c => c = cnt t (fun t => bt x (cP (plN t)))) 16 0 rfl (fun t c ht hc => by
        refine ⟨cnt (t + 1) (fun t => bt x (cP (plN t))), rfl, fun r hr => ?_⟩
        refine v_X11_room_200.e X 14 _ _ M4 L2 r ?_
        subst hc
        cases hb : bt x (cP (plN t)) with
        | false =>
          rw [cnt, hb, if_neg (by decide)] at hr
          simp (disch := omega) only [a_bi_i, a_bv_n, a_bl_l, a_bq_q, l_0, l_1, l_2, l_3, l_4, l_5, l_6, l_7, l_8, l_9, l_10, l_12, l_16, l_20, l_24, l_25, l_31, l_32, l_33, l_40, l_48, l_57, l_60, l_63, l_64, l_78, l_85, l_97, l_99, l_100, l_122, l_255, l_325, l_700, l_999, l_1000, l_1200, l_99999, l_100000, l_1000000, l_2000000000, l_N, n_add, n_mul, n_lt, n_out, n_div, n_dm, n_eq, n_toN, n_inN, n_ltN, n_nltN, n_neN, Nat.not_lt_zero, false_or, or_false, ite_y, ite_n, if_true, if_false, ite_tt, ite_ff, b_0, b_1, eq_self_iff_true, Bool.true_eq_false, Bool.false_eq_true, cell t ht, hb]
          exact hr
        | true =>
          rw [cnt, hb, if_pos rfl] at hr
          simp (disch := omega) only [a_bi_i, a_bv_n, a_bl_l, a_bq_q, l_0, l_1, l_2, l_3, l_4, l_5, l_6, l_7, l_8, l_9, l_10, l_12, l_16, l_20, l_24, l_25, l_31, l_32, l_33, l_40, l_48, l_57, l_60, l_63, l_64, l_78, l_85, l_97, l_99, l_100, l_122, l_255, l_325, l_700, l_999, l_1000, l_1200, l_99999, l_100000, l_1000000, l_2000000000, l_N, n_add, n_mul, n_lt, n_out, n_div, n_dm, n_eq, n_toN, n_inN, n_ltN, n_nltN, n_neN, Nat.not_lt_zero, false_or, or_false, ite_y, ite_n, if_true, if_false, ite_tt, ite_ff, b_0, b_1, eq_self_iff_true, Bool.true_eq_false, Bool.false_eq_true, cell t ht, hb]
          exact hr)
      refine ⟨M4, K_X11_room.e X 14 _ M L2 _ ?_, (m2.trans n2.sm).trans (Sm.of b1.1 (by decide))⟩
      simp (disch := omega) only [m_isMinute hM' v, ha, m1, n1, a_bi_i, a_bv_n, a_bl_l, a_bq_q, l_0, l_1, l_2, l_3, l_4, l_5, l_6, l_7, l_8, l_9, l_10, l_12, l_16, l_20, l_24, l_25, l_31, l_32, l_33, l_40, l_48, l_57, l_60, l_63, l_64, l_78, l_85, l_97, l_99, l_100, l_122, l_255, l_325, l_700, l_999, l_1000, l_1200, l_99999, l_100000, l_1000000, l_2000000000, l_N, n_add, n_mul, n_lt, n_out, n_div, n_dm, n_eq, n_toN, n_inN, n_ltN, n_nltN, n_neN, Nat.not_lt_zero, false_or, or_false, ite_y, ite_n, if_true, if_false, ite_tt, ite_ff, b_0, b_1, eq_self_iff_true, Bool.true_eq_false, Bool.false_eq_true]
      refine a3 _ (v_X11_room_22.e X 14 _ _ M3 L2 _ ?_)
      simp (disch := omega) only [a_bi_i, a_bv_n, a_bl_l, a_bq_q, l_0, l_1, l_2, l_3, l_4, l_5, l_6, l_7, l_8, l_9, l_10, l_12, l_16, l_20, l_24, l_25, l_31, l_32, l_33, l_40, l_48, l_57, l_60, l_63, l_64, l_78, l_85, l_97, l_99, l_100, l_122, l_255, l_325, l_700, l_999, l_1000, l_1200, l_99999, l_100000, l_1000000, l_2000000000, l_N, n_add, n_mul, n_lt, n_out, n_div, n_dm, n_eq, n_toN, n_inN, n_ltN, n_nltN, n_neN, Nat.not_lt_zero, false_or, or_false, ite_y, ite_n, if_true, if_false, ite_tt, ite_ff, b_0, b_1, eq_self_iff_true, Bool.true_eq_false, Bool.false_eq_true, Nat.lt_irrefl]
      refine b3 _ (v_X11_room_74.e X 14 _ _ M4 L2 _ ?_)
      simp (disch := omega) only [a_bi_i, a_bv_n, a_bl_l, a_bq_q, l_0, l_1, l_2, l_3, l_4, l_5, l_6, l_7, l_8, l_9, l_10, l_12, l_16, l_20, l_24, l_25, l_31, l_32, l_33, l_40, l_48, l_57, l_60, l_63, l_64, l_78, l_85, l_97, l_99, l_100, l_122, l_255, l_325, l_700, l_999, l_1000, l_1200, l_99999, l_100000, l_1000000, l_2000000000, l_N, n_add, n_mul, n_lt, n_out, n_div, n_dm, n_eq, n_toN, n_inN, n_ltN, n_nltN, n_neN, Nat.not_lt_zero, false_or, or_false, ite_y, ite_n, if_true, if_false, ite_tt, ite_ff, b_0, b_1, eq_self_iff_true, Bool.true_eq_false, Bool.false_eq_true, Nat.lt_irrefl]
      refine c2 _ (v_X11_room_200.e X 14 _ _ M4 L2 _ ?_)
      simp (disch := omega) only [a_bi_i, a_bv_n, a_bl_l, a_bq_q, l_0, l_1, l_2, l_3, l_4, l_5, l_6, l_7, l_8, l_9, l_10, l_12, l_16, l_20, l_24, l_25, l_31, l_32, l_33, l_40, l_48, l_57, l_60, l_63, l_64, l_78, l_85, l_97, l_99, l_100, l_122, l_255, l_325, l_700, l_999, l_1000, l_1200, l_99999, l_100000, l_1000000, l_2000000000, l_N, n_add, n_mul, n_lt, n_out, n_div, n_dm, n_eq, n_toN, n_inN, n_ltN, n_nltN, n_neN, Nat.not_lt_zero, false_or, or_false, ite_y, ite_n, if_true, if_false, ite_tt, ite_ff, b_0, b_1, eq_self_iff_true, Bool.true_eq_false, Bool.false_eq_true, Nat.lt_irrefl]
      rw [cnt_pl]
end
