/-! a trip drawn: the reference's loops -/
section
variable {X : AX} {d : Nat} {I J : A3 Int32} {L : A3 Int64} {w : TW}
theorem orE_orE {o : Option Nat} {a b : Bool} {m : Nat} : orE (orE o a m) b m = orE o (a || b) m := by
  cases o with
  | some x => rfl
  | none => cases a <;> cases b <;> rfl
theorem orE_f {o : Option Nat} {m : Nat} : orE o false m = o := by cases o <;> rfl
theorem orE_lt {o : Option Nat} {b : Bool} {m y : Nat} (ho : ∀ y, o = some y → y < 1000) (hm : m < 1000) (h : orE o b m = some y) : y < 1000 := by
  cases o with
  | some x => exact ho y h
  | none => cases b with
    | true => cases h; exact hm
    | false => cases h
theorem m_116 {I0 : A3 Int32} {f : Nat → Option Nat} {r k m x : Nat} (h : TM I0 w) (v : Vw w) (hP : PM I0 (w 1) (w 5) (psA w) (knA w)) (hA : PA I0 w) (hr : r < w 6) (hk : k < w 5) (hm : m < w 1) (hx : x < 2147483648) (hd : 2 ≤ d) (hf : ∀ r y, f r = some y → y < 1000) (hS : DS I0 I w (fun j => if j = r then orE (f r) (dkF w r m x k).1 m else f j)) : ∃ J, DS I0 J w (fun j => if j = r then orE (f r) (dkF w r m x (k + 1)).1 m else f j) ∧ OLe (v_X11_goDrawn_116 X d (qL (dkF w r m x (k + 1)).2) (nI m) (nI r) (nI (k + 1)) (J, L, ())) (v_X11_goDrawn_116 X d (qL (dkF w r m x k).2) (nI m) (nI r) (nI k) (I, L, ())) := by
  obtain ⟨⟨w0, w1, -, -, -, w5, w6, -⟩, -, vc, vi, -⟩ := id v
  have kn := (vi k hk).2.2.2.1
  have q8 : ∀ m z, psA w k m = some z → z < 1000 := fun m z hz => by have := psA_8 v hk m z hz; omega
  have t8m := trp8 v hr m
  have hrm := rm2 v hr m
  have hlt : (dkF w r m x k).2 < 2147483648 := dkF_lt hx k
  have p1 : PM I (w 1) (w 5) (psA w) (knA w) := by
    unfold PM; rw [hS.1 40 (by decide), hS.1 47 (by decide), hS.1 48 (by decide)]; exact hP
  have e57 : I 57 0 (40 * r + m) = nI (rmP (trp w r m)) := by rw [hS.1 57 (by decide)]; exact hA r hr m hm
  have e17 : I 40 0 17 = nI (w 5) := p1.1
  have e48 : I 48 0 k = nI (w (36 + 5 * k)) := p1.2.2 k hk
  have hf' : ∀ j y, (if j = r then orE (f r) (dkF w r m x k).1 m else f j) = some y → y < 1000 := fun j y hy => by
    split at hy
    · exact orE_lt (hf r) (by omega) hy
    · exact hf j y hy
  -- the step by what was drawn
  have go : ∀ (y : Nat) (b : Bool), (dkF w r m x (k + 1)) = ((dkF w r m x k).1 || (if (trp w r m).2 = true then decide (psA w k m = some (trp w r m).1) && b else metM (psA w) (knA w) (w (49 + 5 * r)) (trp w r) k m), y) → (∀ s, v_X11_goDrawn_240 X d (qL y) (nI m) (nI r) (nI k) (bI b) (I, L, ()) = some s → v_X11_goDrawn_116 X d (qL (dkF w r m x k).2) (nI m) (nI r) (nI k) (I, L, ()) = some s) → ∃ J, DS I0 J w (fun j => if j = r then orE (f r) (dkF w r m x (k + 1)).1 m else f j) ∧ OLe (v_X11_goDrawn_116 X d (qL (dkF w r m x (k + 1)).2) (nI m) (nI r) (nI (k + 1)) (J, L, ())) (v_X11_goDrawn_116 X d (qL (dkF w r m x k).2) (nI m) (nI r) (nI k) (I, L, ())) := fun y b hy hgo => by
    obtain ⟨J, a1, a2⟩ := m_240 (X := X) (d := d) (L := L) (x := y) (b := b) h v hP hA hr hk hm hd hf' hS
    refine ⟨J, a1.cg (fun j hj => ?_), fun s hs => hgo s (a2 s ?_)⟩
    · by_cases e : j = r
      · subst e
        rw [if_pos rfl, if_pos rfl, if_pos rfl, orE_orE, hy]
      · rw [if_neg e, if_neg e, if_neg e]
    · rw [hy] at hs; exact hs
  cases hl : (trp w r m).2 with
  | false =>
    refine go (dkF w r m x k).2 false ?_ (fun s hs => v_X11_goDrawn_116.e X d _ _ _ _ I L s ?_)
    · rw [dkF, dkS, hl]; simp only [Bool.false_eq_true, if_false]
    · simp (disch := omega) only [a_bi_i, a_bv_n, a_bl_l, a_bq_q, l_0, l_1, l_2, l_3, l_4, l_5, l_6, l_7, l_8, l_9, l_10, l_12, l_16, l_20, l_24, l_25, l_31, l_32, l_33, l_40, l_48, l_57, l_60, l_63, l_64, l_78, l_85, l_97, l_99, l_100, l_122, l_255, l_325, l_700, l_999, l_1000, l_1200, l_99999, l_100000, l_1000000, l_2000000000, l_N, n_add, n_mul, n_lt, n_out, n_div, n_dm, n_eq, n_toN, n_inN, n_ltN, n_nltN, n_neN, Nat.not_lt_zero, false_or, or_false, ite_y, ite_n, if_true, if_false, ite_tt, ite_ff, b_0, b_1, eq_self_iff_true, Bool.true_eq_false, Bool.false_eq_true, e17, e57, rmP_mod, hl]
      exact hs
  | true =>
    by_cases hk0 : 0 < w (36 + 5 * k)
    · by_cases h1 : psA w k m = some (trp w r m).1
      · by_cases har : arB w r k m = true
        · -- a draw
          have hdr : dkF w r m x (k + 1) = ((dkF w r m x k).1 || decide (dv (dx (dkF w r m x k).2) < knA w k), dx (dkF w r m x k).2) := by rw [dkF, dkS, hl, if_pos rfl, if_pos har]
          refine go (dx (dkF w r m x k).2) (decide (dv (dx (dkF w r m x k).2) < knA w k)) ?_ (fun s hs => v_X11_goDrawn_116.e X d _ _ _ _ I L s ?_)
          · rw [hdr, hl, if_pos rfl, decide_eq_true h1, Bool.true_and]
          · have dl := dv_lt (dx (dkF w r m x k).2)
            have h98 : v_X11_goDrawn_198 X d (qL (dkF w r m x k).2) (nI m) (nI r) (nI k) (I, L, ()) = some s := by
              refine v_X11_goDrawn_198.e X d _ _ _ _ I L s ?_
              rw [if_neg (by decide), q_lit1, q_lit2, q_lit6, q_mul, q_add, q_div (by omega) (by decide), q_mul, q_dm]
              have hs : v_X11_goDrawn_240 X d (qL (dx (dkF w r m x k).2)) (nI m) (nI r) (nI k) (bI (decide (dv (dx (dkF w r m x k).2) < knA w k))) (I, L, ()) = some s := hs
              show v_X11_goDrawn_212 X d (qL (dx (dkF w r m x k).2)) (nI m) (nI r) (nI k) (I, L, ()) = some s
              refine v_X11_goDrawn_212.e X d _ _ _ _ I L s ?_
              have hl2 := dx_lt (dkF w r m x k).2
              rw [q_lit4, q_lit5, q_div (by omega) (by decide), q_div (by omega) (by decide), q_mul, q_dm]
              simp (disch := omega) only [a_bi_i, a_bv_n, a_bl_l, a_bq_q, l_0, l_1, l_2, l_3, l_4, l_5, l_6, l_7, l_8, l_9, l_10, l_12, l_16, l_20, l_24, l_25, l_31, l_32, l_33, l_40, l_48, l_57, l_60, l_63, l_64, l_78, l_85, l_97, l_99, l_100, l_122, l_255, l_325, l_700, l_999, l_1000, l_1200, l_99999, l_100000, l_1000000, l_2000000000, l_N, n_add, n_mul, n_lt, n_out, n_div, n_dm, n_eq, n_toN, n_inN, n_ltN, n_nltN, n_neN, Nat.not_lt_zero, false_or, or_false, ite_y, ite_n, if_true, if_false, ite_tt, ite_ff, b_0, b_1, eq_self_iff_true, Bool.true_eq_false, Bool.false_eq_true, e48]
              have e9 : (lg_cmp (qL (dx (dkF w r m x k).2 / 65536 % 100)) (nI (w (36 + 5 * k))).toInt64 < nI 0) ↔ dv (dx (dkF w r m x k).2) < knA w k := by
                rw [q_nI (by omega), show nI 0 = (0 : Int32) from rfl, lg_cmp_lt]
                exact Int64.ofNat_lt_iff_lt (by have : dv (dx (dkF w r m x k).2) < 100 := dl; unfold dv at this; omega) (by omega)
              by_cases hh : dv (dx (dkF w r m x k).2) < knA w k
              · rw [decide_eq_true hh] at hs
                rw [if_pos (e9.mpr hh)]; exact hs
              · rw [decide_eq_false hh] at hs
                rw [if_neg (fun z => hh (e9.mp z))]; exact hs
            have n11 : (1 = 1) := rfl
            simp (disch := omega) only [a_bi_i, a_bv_n, a_bl_l, a_bq_q, l_0, l_1, l_2, l_3, l_4, l_5, l_6, l_7, l_8, l_9, l_10, l_12, l_16, l_20, l_24, l_25, l_31, l_32, l_33, l_40, l_48, l_57, l_60, l_63, l_64, l_78, l_85, l_97, l_99, l_100, l_122, l_255, l_325, l_700, l_999, l_1000, l_1200, l_99999, l_100000, l_1000000, l_2000000000, l_N, n_add, n_mul, n_lt, n_out, n_div, n_dm, n_eq, n_toN, n_inN, n_ltN, n_nltN, n_neN, Nat.not_lt_zero, false_or, or_false, ite_y, ite_n, if_true, if_false, ite_tt, ite_ff, b_0, b_1, eq_self_iff_true, Bool.true_eq_false, Bool.false_eq_true, e17, e57, rmd, rmP_div, hl, e48, hk0, m_posOf p1 hk hm w5 w1, oI_eq (q8 m) (show (trp w r m).1 < 1000 by omega)]
            by_cases h0 : m = 0
            · rw [if_pos h0]; exact h98
            · rw [if_neg h0]
              have h2 : ¬ psA w k (m - 1) = some (trp w r m).1 := by
                unfold arB at har
                simp [h0] at har
                exact har.2.2
              simp (disch := omega) only [n_sub, a_bi_i, a_bv_n, a_bl_l, a_bq_q, l_0, l_1, l_2, l_3, l_4, l_5, l_6, l_7, l_8, l_9, l_10, l_12, l_16, l_20, l_24, l_25, l_31, l_32, l_33, l_40, l_48, l_57, l_60, l_63, l_64, l_78, l_85, l_97, l_99, l_100, l_122, l_255, l_325, l_700, l_999, l_1000, l_1200, l_99999, l_100000, l_1000000, l_2000000000, l_N, n_add, n_mul, n_lt, n_out, n_div, n_dm, n_eq, n_toN, n_inN, n_ltN, n_nltN, n_neN, Nat.not_lt_zero, false_or, or_false, ite_y, ite_n, if_true, if_false, ite_tt, ite_ff, b_0, b_1, eq_self_iff_true, Bool.true_eq_false, Bool.false_eq_true, m_posOf p1 hk (show m - 1 < w 1 by omega) w5 w1, oI_eq (q8 (m - 1)) (show (trp w r m).1 < 1000 by omega), h2]
              exact h98
        · -- it was there before
          have h0 : ¬ m = 0 := fun z => har (by unfold arB; rw [decide_eq_true (show 0 < knA w k from hk0), decide_eq_true h1, decide_eq_true z]; rfl)
          have h2 : psA w k (m - 1) = some (trp w r m).1 := by
            by_cases z : psA w k (m - 1) = some (trp w r m).1
            · exact z
            · exact absurd (by unfold arB; rw [decide_eq_true (show 0 < knA w k from hk0), decide_eq_true h1, decide_eq_false z]; simp) har
          refine go (dkF w r m x k).2 false ?_ (fun s hs => v_X11_goDrawn_116.e X d _ _ _ _ I L s ?_)
          · rw [dkF, dkS, hl, if_pos rfl, if_neg har, if_pos rfl, Bool.and_false, Bool.or_false]
          · simp (disch := omega) only [n_sub, a_bi_i, a_bv_n, a_bl_l, a_bq_q, l_0, l_1, l_2, l_3, l_4, l_5, l_6, l_7, l_8, l_9, l_10, l_12, l_16, l_20, l_24, l_25, l_31, l_32, l_33, l_40, l_48, l_57, l_60, l_63, l_64, l_78, l_85, l_97, l_99, l_100, l_122, l_255, l_325, l_700, l_999, l_1000, l_1200, l_99999, l_100000, l_1000000, l_2000000000, l_N, n_add, n_mul, n_lt, n_out, n_div, n_dm, n_eq, n_toN, n_inN, n_ltN, n_nltN, n_neN, Nat.not_lt_zero, false_or, or_false, ite_y, ite_n, if_true, if_false, ite_tt, ite_ff, b_0, b_1, eq_self_iff_true, Bool.true_eq_false, Bool.false_eq_true, e17, e57, rmd, rmP_div, hl, e48, hk0, m_posOf p1 hk hm w5 w1, oI_eq (q8 m) (show (trp w r m).1 < 1000 by omega), m_posOf p1 hk (show m - 1 < w 1 by omega) w5 w1, oI_eq (q8 (m - 1)) (show (trp w r m).1 < 1000 by omega)]
            exact hs
      · have har : ¬ arB w r k m = true := fun z => by
          unfold arB at z
          rw [decide_eq_false h1] at z
          simp at z
        refine go (dkF w r m x k).2 false ?_ (fun s hs => v_X11_goDrawn_116.e X d _ _ _ _ I L s ?_)
        · rw [dkF, dkS, hl, if_pos rfl, if_neg har, if_pos rfl, Bool.and_false, Bool.or_false]
        · simp (disch := omega) only [a_bi_i, a_bv_n, a_bl_l, a_bq_q, l_0, l_1, l_2, l_3, l_4, l_5, l_6, l_7, l_8, l_9, l_10, l_12, l_16, l_20, l_24, l_25, l_31, l_32, l_33, l_40, l_48, l_57, l_60, l_63, l_64, l_78, l_85, l_97, l_99, l_100, l_122, l_255, l_325, l_700, l_999, l_1000, l_1200, l_99999, l_100000, l_1000000, l_2000000000, l_N, n_add, n_mul, n_lt, n_out, n_div, n_dm, n_eq, n_toN, n_inN, n_ltN, n_nltN, n_neN, Nat.not_lt_zero, false_or, or_false, ite_y, ite_n, if_true, if_false, ite_tt, ite_ff, b_0, b_1, eq_self_iff_true, Bool.true_eq_false, Bool.false_eq_true, e17, e57, rmd, rmP_div, hl, e48, hk0, m_posOf p1 hk hm w5 w1, oI_eq (q8 m) (show (trp w r m).1 < 1000 by omega), h1]
          exact hs
    · have har : ¬ arB w r k m = true := fun z => by
        unfold arB at z
        rw [decide_eq_false (show ¬ 0 < knA w k from hk0)] at z
        simp at z
      refine go (dkF w r m x k).2 false ?_ (fun s hs => v_X11_goDrawn_116.e X d _ _ _ _ I L s ?_)
      · rw [dkF, dkS, hl, if_pos rfl, if_neg har, if_pos rfl, Bool.and_false, Bool.or_false]
      · simp (disch := omega) only [a_bi_i, a_bv_n, a_bl_l, a_bq_q, l_0, l_1, l_2, l_3, l_4, l_5, l_6, l_7, l_8, l_9, l_10, l_12, l_16, l_20, l_24, l_25, l_31, l_32, l_33, l_40, l_48, l_57, l_60, l_63, l_64, l_78, l_85, l_97, l_99, l_100, l_122, l_255, l_325, l_700, l_999, l_1000, l_1200, l_99999, l_100000, l_1000000, l_2000000000, l_N, n_add, n_mul, n_lt, n_out, n_div, n_dm, n_eq, n_toN, n_inN, n_ltN, n_nltN, n_neN, Nat.not_lt_zero, false_or, or_false, ite_y, ite_n, if_true, if_false, ite_tt, ite_ff, b_0, b_1, eq_self_iff_true, Bool.true_eq_false, Bool.false_eq_true, e17, e57, rmd, rmP_div, hl, e48, hk0]
        exact hs
theorem m_101 {I0 : A3 Int32} {m n : Nat} (h : TM I0 w) (v : Vw w) (hP : PM I0 (w 1) (w 5) (psA w) (knA w)) (hA : PA I0 w) (hm : m < w 1) (hn : n < 2147483648) (hd : 2 ≤ d) (hS : DS I0 I w (fun j => fnd m (hdB w n j))) : ∃ J, DS I0 J w (fun j => fnd (m + 1) (hdB w n j)) ∧ OLe (v_X11_goDrawn_89 X d (qL (dmX w n (m + 1))) (nI (m + 1)) (J, L, ())) (v_X11_goDrawn_101 X d (qL (dmX w n m)) (nI m) (nI 0) (I, L, ())) := by
  obtain ⟨⟨w0, w1, -, -, -, w5, w6, -⟩, -⟩ := id v
  have fl : ∀ M, M ≤ w 1 → ∀ r y, fnd M (hdB w n r) = some y → y < 1000 := fun M hM r y hy => by have := (fnd_some hy).1; omega
  obtain ⟨J, g1, g2⟩ := loop_z (F := fun r (K : A3 Int32) => v_X11_goDrawn_101 X d (qL (drX w m (dmX w n m) r)) (nI m) (nI r) (K, L, ())) (P := fun r K => DS I0 K w (fun j => if j < r then fnd (m + 1) (hdB w n j) else fnd m (hdB w n j))) (w 6) I (hS.cg (fun j hj => rfl)) (fun r K hr hP' => by
    have x0 : drX w m (dmX w n m) r < 2147483648 := drX_lt (dmX_lt hn m) r
    have bf : ∀ j y, (if j < r then fnd (m + 1) (hdB w n j) else fnd m (hdB w n j)) = some y → y < 1000 := fun j y hy => by
      split at hy
      · exact fl (m + 1) (by omega) j y hy
      · exact fl m (by omega) j y hy
    obtain ⟨K2, q1, q2⟩ := loop_z (F := fun k (K : A3 Int32) => v_X11_goDrawn_116 X d (qL (dkF w r m (drX w m (dmX w n m) r) k).2) (nI m) (nI r) (nI k) (K, L, ())) (P := fun k K => DS I0 K w (fun j => if j = r then orE (if r < r then fnd (m + 1) (hdB w n r) else fnd m (hdB w n r)) (dkF w r m (drX w m (dmX w n m) r) k).1 m else (if j < r then fnd (m + 1) (hdB w n j) else fnd m (hdB w n j)))) (w 5) K (hP'.cg (fun j hj => by
        by_cases e : j = r
        · subst e; rw [if_pos rfl]; exact orE_f
        · rw [if_neg e])) (fun k K hk hS => m_116 (f := fun j => if j < r then fnd (m + 1) (hdB w n j) else fnd m (hdB w n j)) h v hP hA hr hk hm x0 hd bf hS)
    refine ⟨K2, q1.cg (fun j hj => ?_), fun s hs => ?_⟩
    · by_cases e : j = r
      · subst e
        rw [if_pos (by omega), if_pos rfl, if_neg (by omega), fnd_succ]
        rfl
      · rw [if_neg e]
        by_cases e2 : j < r
        · rw [if_pos (by omega), if_pos e2]
        · rw [if_neg (by omega), if_neg e2]
    · have t1 : TM K w := h.fm hP'.1 (by decide)
      have t2 : TM K2 w := h.fm q1.1 (by decide)
      refine v_X11_goDrawn_101.e X d _ _ _ K L s ?_
      rw [t1 6 (by decide)]
      simp (disch := omega) only [a_bi_i, a_bv_n, a_bl_l, a_bq_q, l_0, l_1, l_2, l_3, l_4, l_5, l_6, l_7, l_8, l_9, l_10, l_12, l_16, l_20, l_24, l_25, l_31, l_32, l_33, l_40, l_48, l_57, l_60, l_63, l_64, l_78, l_85, l_97, l_99, l_100, l_122, l_255, l_325, l_700, l_999, l_1000, l_1200, l_99999, l_100000, l_1000000, l_2000000000, l_N, n_add, n_mul, n_lt, n_out, n_div, n_dm, n_eq, n_toN, n_inN, n_ltN, n_nltN, n_neN, Nat.not_lt_zero, false_or, or_false, ite_y, ite_n, if_true, if_false, ite_tt, ite_ff, b_0, b_1, eq_self_iff_true, Bool.true_eq_false, Bool.false_eq_true]
      refine q2 _ (v_X11_goDrawn_116.e X d _ _ _ _ K2 L s ?_)
      have e17 : K2 40 0 17 = nI (w 5) := by rw [q1.1 40 (by decide)]; exact hP.1
      rw [e17]
      simp (disch := omega) only [a_bi_i, a_bv_n, a_bl_l, a_bq_q, l_0, l_1, l_2, l_3, l_4, l_5, l_6, l_7, l_8, l_9, l_10, l_12, l_16, l_20, l_24, l_25, l_31, l_32, l_33, l_40, l_48, l_57, l_60, l_63, l_64, l_78, l_85, l_97, l_99, l_100, l_122, l_255, l_325, l_700, l_999, l_1000, l_1200, l_99999, l_100000, l_1000000, l_2000000000, l_N, n_add, n_mul, n_lt, n_out, n_div, n_dm, n_eq, n_toN, n_inN, n_ltN, n_nltN, n_neN, Nat.not_lt_zero, false_or, or_false, ite_y, ite_n, if_true, if_false, ite_tt, ite_ff, b_0, b_1, eq_self_iff_true, Bool.true_eq_false, Bool.false_eq_true, Nat.lt_irrefl]
      exact hs)
  refine ⟨J, g1.cg (fun j hj => by rw [if_pos hj]), fun s hs => g2 s (v_X11_goDrawn_101.e X d _ _ _ J L s ?_)⟩
  rw [(h.fm g1.1 (by decide)) 6 (by decide)]
  simp (disch := omega) only [a_bi_i, a_bv_n, a_bl_l, a_bq_q, l_0, l_1, l_2, l_3, l_4, l_5, l_6, l_7, l_8, l_9, l_10, l_12, l_16, l_20, l_24, l_25, l_31, l_32, l_33, l_40, l_48, l_57, l_60, l_63, l_64, l_78, l_85, l_97, l_99, l_100, l_122, l_255, l_325, l_700, l_999, l_1000, l_1200, l_99999, l_100000, l_1000000, l_2000000000, l_N, n_add, n_mul, n_lt, n_out, n_div, n_dm, n_eq, n_toN, n_inN, n_ltN, n_nltN, n_neN, Nat.not_lt_zero, false_or, or_false, ite_y, ite_n, if_true, if_false, ite_tt, ite_ff, b_0, b_1, eq_self_iff_true, Bool.true_eq_false, Bool.false_eq_true, Nat.lt_irrefl]
  exact hs
theorem m_89 {I0 : A3 Int32} {n : Nat} (h : TM I0 w) (v : Vw w) (hP : PM I0 (w 1) (w 5) (psA w) (knA w)) (hA : PA I0 w) (hn : n < 2147483648) (hd : 2 ≤ d) (hS : DS I0 I w (fun _ => none)) : ∃ J, DS I0 J w (fun j => fnd (w 1) (hdB w n j)) ∧ v_X11_goDrawn_89 X d (qL n) (nI 0) (I, L, ()) = some (none, (J, L, ())) := by
  obtain ⟨⟨w0, w1, -, -, -, w5, w6, -⟩, -⟩ := id v
  obtain ⟨J, g1, g2⟩ := loop_z (F := fun m (K : A3 Int32) => v_X11_goDrawn_89 X d (qL (dmX w n m)) (nI m) (K, L, ())) (P := fun m K => DS I0 K w (fun j => fnd m (hdB w n j))) (w 1) I (hS.cg (fun j hj => rfl)) (fun m K hm hS => by
    obtain ⟨K2, a1, a2⟩ := m_101 (X := X) (d := d) (L := L) h v hP hA hm hn hd hS
    refine ⟨K2, a1, fun s hs => v_X11_goDrawn_89.e X d _ _ K L s ?_⟩
    simp (disch := omega) only [a_bi_i, a_bv_n, a_bl_l, a_bq_q, l_0, l_1, l_2, l_3, l_4, l_5, l_6, l_7, l_8, l_9, l_10, l_12, l_16, l_20, l_24, l_25, l_31, l_32, l_33, l_40, l_48, l_57, l_60, l_63, l_64, l_78, l_85, l_97, l_99, l_100, l_122, l_255, l_325, l_700, l_999, l_1000, l_1200, l_99999, l_100000, l_1000000, l_2000000000, l_N, n_add, n_mul, n_lt, n_out, n_div, n_dm, n_eq, n_toN, n_inN, n_ltN, n_nltN, n_neN, Nat.not_lt_zero, false_or, or_false, ite_y, ite_n, if_true, if_false, ite_tt, ite_ff, b_0, b_1, eq_self_iff_true, Bool.true_eq_false, Bool.false_eq_true, m_minutes (h.fm hS.1 (by decide)) v]
    exact a2 s hs)
  refine ⟨J, g1, g2 _ (v_X11_goDrawn_89.e X d _ _ J L _ ?_)⟩
  simp (disch := omega) only [a_bi_i, a_bv_n, a_bl_l, a_bq_q, l_0, l_1, l_2, l_3, l_4, l_5, l_6, l_7, l_8, l_9, l_10, l_12, l_16, l_20, l_24, l_25, l_31, l_32, l_33, l_40, l_48, l_57, l_60, l_63, l_64, l_78, l_85, l_97, l_99, l_100, l_122, l_255, l_325, l_700, l_999, l_1000, l_1200, l_99999, l_100000, l_1000000, l_2000000000, l_N, n_add, n_mul, n_lt, n_out, n_div, n_dm, n_eq, n_toN, n_inN, n_ltN, n_nltN, n_neN, Nat.not_lt_zero, false_or, or_false, ite_y, ite_n, if_true, if_false, ite_tt, ite_ff, b_0, b_1, eq_self_iff_true, Bool.true_eq_false, Bool.false_eq_true, m_minutes (h.fm g1.1 (by decide)) v, Nat.lt_irrefl]
theorem m_goDrawn {n : Nat} (h : TM I w) (v : Vw w) (hn : n < 2147483648) (hd : 8 ≤ d) : ∃ J, K_X11_goDrawn X d (qL n) (I, L, ()) = some (none, (J, L, ())) ∧ Sm I J ∧ TM J w ∧ ∀ r, r < w 6 → J 58 0 r = oI (fnd (w 1) (hdB w n r)) := by
  obtain ⟨e, rfl⟩ : ∃ e, d = e + 1 := ⟨d - 1, by omega⟩
  obtain ⟨⟨w0, w1, -, -, -, w5, w6, -⟩, -, vc, vi, vr, -⟩ := id v
  obtain ⟨I1, f1, f2, f3, f4⟩ := sm_asItIs (X := X) (d := e) (L := L) h v (by omega)
  obtain ⟨J, ⟨g1, g2, g3⟩, g4⟩ := loop_z (F := fun r (K : A3 Int32) => v_X11_goDrawn_9 X e (qL n) (nI r) (K, L, ())) (P := fun r K => Fm [55, 57, 58] I1 K ∧ (∀ j, j < r → ∀ m, m < w 1 → K 57 0 (40 * j + m) = nI (rmP (trp w j m))) ∧ ∀ j, j < r → K 58 0 j = nN) (w 6) I1 ⟨Fm.refl, fun j hj => by omega, fun j hj => by omega⟩ (fun r K hr hP => by
    obtain ⟨p1, p2, p3⟩ := hP
    have tK : TM K w := f3.fm p1 (by decide)
    have pK : PM K (w 1) (w 5) (psA w) (knA w) := by
      unfold PM; rw [p1 40 (by decide), p1 47 (by decide), p1 48 (by decide)]; exact f4
    have vru := (vr r hr).2.1
    obtain ⟨K1, a1, a2, a3⟩ := m_goTrip (X := X) (d := e) (L := L) (r := r) (rule := w (49 + 5 * r)) tK v pK hr vru w5 (fun k hk m x hx => psA_8 v hk m x hx) (by omega)
    have tK1 : TM K1 w := tK.fm a2 (by decide)
    obtain ⟨K2, ⟨b1, b2, b3⟩, b4⟩ := loop_z (F := fun m (K' : A3 Int32) => v_X11_goDrawn_45 X e (qL n) (nI r) (nI m) (K', L, ())) (P := fun m K' => Fm [57] (up3 K1 58 0 r nN) K' ∧ (∀ j, (j < 40 * r ∨ 40 * r + 40 ≤ j) → K' 57 0 j = K1 57 0 j) ∧ ∀ m', m' < m → K' 57 0 (40 * r + m') = nI (rmP (trp w r m'))) (w 1) (up3 K1 58 0 r nN) ⟨Fm.refl, fun j _ => by rw [u3_f _ _ (by decide)], fun m hm => by omega⟩ (fun m K' hm hP => by
      obtain ⟨p1, p2, p3⟩ := hP
      have e55 : K' 55 0 m = nI (rmP (trp w r m)) := by rw [p1 55 (by decide), u3_f _ _ (by decide)]; exact a3 m hm
      have t' : TM K' w := (tK1.fm (l := [58]) (Fm.refl.up (by decide)) (by decide)).fm p1 (by decide)
      refine ⟨up3 K' 57 0 (40 * r + m) (nI (rmP (trp w r m))), ⟨p1.up (by decide), fun j hj => by rw [u3_j _ _ (by omega)]; exact p2 j hj, fun m' hm' => ?_⟩, fun s hs => v_X11_goDrawn_45.e X e _ _ _ K' L s ?_⟩
      · by_cases ee : m' = m
        · subst ee; exact u3_eq _ _ _ _ _
        · rw [u3_j _ _ (by omega)]; exact p3 m' (by omega)
      · simp (disch := omega) only [a_bi_i, a_bv_n, a_bl_l, a_bq_q, l_0, l_1, l_2, l_3, l_4, l_5, l_6, l_7, l_8, l_9, l_10, l_12, l_16, l_20, l_24, l_25, l_31, l_32, l_33, l_40, l_48, l_57, l_60, l_63, l_64, l_78, l_85, l_97, l_99, l_100, l_122, l_255, l_325, l_700, l_999, l_1000, l_1200, l_99999, l_100000, l_1000000, l_2000000000, l_N, n_add, n_mul, n_lt, n_out, n_div, n_dm, n_eq, n_toN, n_inN, n_ltN, n_nltN, n_neN, Nat.not_lt_zero, false_or, or_false, ite_y, ite_n, if_true, if_false, ite_tt, ite_ff, b_0, b_1, eq_self_iff_true, Bool.true_eq_false, Bool.false_eq_true, m_minutes t' v, e55]
        exact hs)
    have t2 : TM K2 w := (tK1.fm (l := [58]) (Fm.refl.up (by decide)) (by decide)).fm b1 (by decide)
    refine ⟨K2, ⟨?_, fun j hj m hm => ?_, fun j hj => ?_⟩, fun s hs => v_X11_goDrawn_9.e X e _ _ K L s ?_⟩
    · have s1 : Fm [55, 57, 58] K1 (up3 K1 58 0 r nN) := Fm.refl.up (by decide)
      exact ((p1.trans (a2.mono (by decide))).trans s1).trans (b1.mono (by decide))
    · by_cases ee : j = r
      · subst ee; exact b3 m hm
      · rw [b2 _ (by omega), a2 57 (by decide)]; exact p2 j (by omega) m hm
    · rw [b1 58 (by decide)]
      by_cases ee : j = r
      · subst ee; exact u3_eq _ _ _ _ _
      · rw [u3_j _ _ ee, a2 58 (by decide)]; exact p3 j (by omega)
    · rw [tK 6 (by decide)]
      simp (disch := omega) only [a_bi_i, a_bv_n, a_bl_l, a_bq_q, l_0, l_1, l_2, l_3, l_4, l_5, l_6, l_7, l_8, l_9, l_10, l_12, l_16, l_20, l_24, l_25, l_31, l_32, l_33, l_40, l_48, l_57, l_60, l_63, l_64, l_78, l_85, l_97, l_99, l_100, l_122, l_255, l_325, l_700, l_999, l_1000, l_1200, l_99999, l_100000, l_1000000, l_2000000000, l_N, n_add, n_mul, n_lt, n_out, n_div, n_dm, n_eq, n_toN, n_inN, n_ltN, n_nltN, n_neN, Nat.not_lt_zero, false_or, or_false, ite_y, ite_n, if_true, if_false, ite_tt, ite_ff, b_0, b_1, eq_self_iff_true, Bool.true_eq_false, Bool.false_eq_true, m_or1 tK v, a1]
      refine b4 _ (v_X11_goDrawn_45.e X e _ _ _ K2 L s ?_)
      simp (disch := omega) only [a_bi_i, a_bv_n, a_bl_l, a_bq_q, l_0, l_1, l_2, l_3, l_4, l_5, l_6, l_7, l_8, l_9, l_10, l_12, l_16, l_20, l_24, l_25, l_31, l_32, l_33, l_40, l_48, l_57, l_60, l_63, l_64, l_78, l_85, l_97, l_99, l_100, l_122, l_255, l_325, l_700, l_999, l_1000, l_1200, l_99999, l_100000, l_1000000, l_2000000000, l_N, n_add, n_mul, n_lt, n_out, n_div, n_dm, n_eq, n_toN, n_inN, n_ltN, n_nltN, n_neN, Nat.not_lt_zero, false_or, or_false, ite_y, ite_n, if_true, if_false, ite_tt, ite_ff, b_0, b_1, eq_self_iff_true, Bool.true_eq_false, Bool.false_eq_true, m_minutes t2 v, Nat.lt_irrefl]
      exact hs)
  have tJ : TM J w := f3.fm g1 (by decide)
  have pJ : PM J (w 1) (w 5) (psA w) (knA w) := by
    unfold PM; rw [g1 40 (by decide), g1 47 (by decide), g1 48 (by decide)]; exact f4
  obtain ⟨J2, k1, k2⟩ := m_89 (X := X) (d := e) (L := L) (I0 := J) (I := J) tJ v pJ g2 hn (by omega) ⟨Fm.refl, g3⟩
  have s2 : Sm I1 J := Sm.of g1 (by decide)
  have s3 : Sm J J2 := Sm.of k1.1 (by decide)
  refine ⟨J2, K_X11_goDrawn.e X e _ I L _ ?_, (f2.trans s2).trans s3, tJ.sm s3, k1.2⟩
  simp only [a_bi_i, a_bv_n, a_bl_l, a_bq_q, f1, l_0]
  refine g4 _ (v_X11_goDrawn_9.e X e _ _ J L _ ?_)
  rw [tJ 6 (by decide)]
  simp (disch := omega) only [a_bi_i, a_bv_n, a_bl_l, a_bq_q, l_0, l_1, l_2, l_3, l_4, l_5, l_6, l_7, l_8, l_9, l_10, l_12, l_16, l_20, l_24, l_25, l_31, l_32, l_33, l_40, l_48, l_57, l_60, l_63, l_64, l_78, l_85, l_97, l_99, l_100, l_122, l_255, l_325, l_700, l_999, l_1000, l_1200, l_99999, l_100000, l_1000000, l_2000000000, l_N, n_add, n_mul, n_lt, n_out, n_div, n_dm, n_eq, n_toN, n_inN, n_ltN, n_nltN, n_neN, Nat.not_lt_zero, false_or, or_false, ite_y, ite_n, if_true, if_false, ite_tt, ite_ff, b_0, b_1, eq_self_iff_true, Bool.true_eq_false, Bool.false_eq_true, Nat.lt_irrefl]
  exact k2
end
