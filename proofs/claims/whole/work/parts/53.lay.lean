/-! the reference's walk of a course; all courses -/
section
variable {X : AX} {d : Nat} {I : A3 Int32} {L : A3 Int64} {w : TW}
def Fm (l : List Nat) (I I' : A3 Int32) : Prop := ∀ f, f ∉ l → I' f = I f
theorem Fm.refl {l : List Nat} {I : A3 Int32} : Fm l I I := fun _ _ => rfl
theorem Fm.trans {l : List Nat} {I J K : A3 Int32} (h1 : Fm l I J) (h2 : Fm l J K) : Fm l I K := fun f hf => (h2 f hf).trans (h1 f hf)
theorem Fm.mono {l l' : List Nat} {I J : A3 Int32} (h : Fm l I J) (hl : ∀ f, f ∈ l → f ∈ l') : Fm l' I J := fun f hf => h f (fun q => hf (hl f q))
theorem Fm.up {l : List Nat} {I J : A3 Int32} (h : Fm l I J) {f i j : Nat} {x : Int32} (hf : f ∈ l) : Fm l I (up3 J f i j x) := fun g hg => by
  rw [u3_f J x (fun e => hg (by rw [e]; exact hf))]
  exact h g hg
theorem Fm.upr {l : List Nat} {I J : A3 Int32} (h : Fm l I J) {f i : Nat} {x : Nat → Int32} (hf : f ∈ l) : Fm l I (upR J f i x) := fun g hg => by
  rw [uR_f J x (fun e => hg (by rw [e]; exact hf))]
  exact h g hg
theorem Rw.fm {f i : Nat} {I J : A3 Int32} (h : Rw f i I J) : Fm [f] I J := fun g hg => h.fam (fun e => hg (by rw [e]; exact List.mem_singleton.mpr rfl))
theorem TM.fm {l : List Nat} {I J : A3 Int32} (h : TM I w) (hf : Fm l I J) (hl : 41 ∉ l) : TM J w := h.fam (by rw [hf 41 hl])
theorem TC.fm {l : List Nat} {I J : A3 Int32} (h : TC I w) (hf : Fm l I J) (h6 : 6 ∉ l) (h7 : 7 ∉ l) (h8 : 8 ∉ l) (h9 : 9 ∉ l) (h10 : 10 ∉ l) : TC J w := h.fam (by rw [hf 6 h6]) (by rw [hf 7 h7]) (by rw [hf 8 h8]) (by rw [hf 9 h9]) (by rw [hf 10 h10])
def lP (w : TW) (i b k : Nat) (I0 : A3 Int32) (m : Nat) (s : Int32 × Int32 × Int32 × A3 Int32) : Prop :=
  Fm [47] I0 s.2.2.2 ∧ (∀ j, j < m → s.2.2.2 47 0 (40 * k + j) = oI (crs w i b j)) ∧ (∀ j, (j < 40 * k ∨ 40 * k + 40 ≤ j) → s.2.2.2 47 0 j = I0 47 0 j) ∧
  s.1 = oI (cst w i b m).1 ∧ s.2.1 = wI (cst w i b m).2.1 ∧ (∀ c, (cst w i b m).1 = some c → s.2.2.1 = nI (cst w i b m).2.2)
def lft (w : TW) (i : Nat) (o : Option Nat) : Nat := match o with
  | some c => stay w i c
  | none => 0
theorem lay_124 {i b k c : Nat} {u : Bool} {J : A3 Int32} (h : TM J w) (v : Vw w) (hi : i < w 5) (hd : 3 ≤ d) {m : Nat} (hc : c < w 0) {r : Option AV × AS Unit}
    (hr : v_X11_lay_42 X d (nI k) (nI i) (oI (nxt (w 0) c u)) (wI u) (nI (lft w i (nxt (w 0) c u))) (nI (m + 1)) (J, L, ()) = some r) : v_X11_lay_124 X d (nI k) (nI i) (wI u) (nI m) (nI c + wI u) (J, L, ()) = some r := by
  obtain ⟨⟨h0, h1, -⟩, -, vc, vi, -⟩ := id v
  refine v_X11_lay_124.e X d _ _ _ _ _ J L r ?_
  simp (disch := omega) only [m_isCoach h v, a_bi_i, nxt_inr (show w 0 < 1000 by omega) hc, l_0, l_1, l_2, l_3, l_4, l_5, l_6, l_7, l_8, l_9, l_10, l_12, l_16, l_20, l_24, l_25, l_31, l_32, l_33, l_40, l_48, l_57, l_60, l_63, l_64, l_78, l_85, l_97, l_99, l_100, l_122, l_255, l_325, l_700, l_999, l_1000, l_1200, l_99999, l_100000, l_1000000, l_2000000000, l_N, b_0]
  cases hn : nxt (w 0) c u with
  | none =>
    rw [hn] at hr
    simp only [Option.isSome_none, if_true]
    refine v_X11_lay_161.e X d _ _ _ _ _ _ J L r ?_
    simp (disch := omega) only [l_0, l_1, l_2, l_3, l_4, l_5, l_6, l_7, l_8, l_9, l_10, l_12, l_16, l_20, l_24, l_25, l_31, l_32, l_33, l_40, l_48, l_57, l_60, l_63, l_64, l_78, l_85, l_97, l_99, l_100, l_122, l_255, l_325, l_700, l_999, l_1000, l_1200, l_99999, l_100000, l_1000000, l_2000000000, l_N, n_add]
    exact hr
  | some c' =>
    rw [hn] at hr
    obtain ⟨e1, e2⟩ := nxt_some hc hn
    rw [e1]
    simp (disch := omega) only [Option.isSome_some, Bool.true_eq_false, a_bi_i, a_bv_n, a_bl_l, a_bq_q, l_0, l_1, l_2, l_3, l_4, l_5, l_6, l_7, l_8, l_9, l_10, l_12, l_16, l_20, l_24, l_25, l_31, l_32, l_33, l_40, l_48, l_57, l_60, l_63, l_64, l_78, l_85, l_97, l_99, l_100, l_122, l_255, l_325, l_700, l_999, l_1000, l_1200, l_99999, l_100000, l_1000000, l_2000000000, l_N, n_add, n_mul, n_lt, n_out, n_div, n_dm, n_eq, n_toN, n_inN, n_ltN, n_nltN, n_neN, Nat.not_lt_zero, false_or, or_false, ite_y, ite_n, if_true, if_false, ite_tt, ite_ff, b_0, b_1, eq_self_iff_true, Bool.true_eq_false, Bool.false_eq_true, m_staysOf h v]
    refine v_X11_lay_161.e X d _ _ _ _ _ _ J L r ?_
    simp (disch := omega) only [l_0, l_1, l_2, l_3, l_4, l_5, l_6, l_7, l_8, l_9, l_10, l_12, l_16, l_20, l_24, l_25, l_31, l_32, l_33, l_40, l_48, l_57, l_60, l_63, l_64, l_78, l_85, l_97, l_99, l_100, l_122, l_255, l_325, l_700, l_999, l_1000, l_1200, l_99999, l_100000, l_1000000, l_2000000000, l_N, n_add]
    exact hr
theorem lay_85 {i b k c : Nat} {u : Bool} {J : A3 Int32} (h : TM J w) (v : Vw w) (hi : i < w 5) (hd : 3 ≤ d) {m : Nat} (hc : c < w 0) {r : Option AV × AS Unit}
    (hr : v_X11_lay_42 X d (nI k) (nI i) (oI (mv w i c u).1) (wI (mv w i c u).2.1) (nI (mv w i c u).2.2) (nI (m + 1)) (J, L, ()) = some r) : v_X11_lay_85 X d (nI k) (nI i) (nI c) (wI u) (nI m) (J, L, ()) = some r := by
  obtain ⟨⟨h0, h1, -, -, -, h5, -⟩, -, vc, vi, -⟩ := id v
  have hp := vi i hi
  refine v_X11_lay_85.e X d _ _ _ _ _ J L r ?_
  simp (disch := omega) only [m_isCoach h v, a_bi_i, nxt_inr (show w 0 < 1000 by omega) hc, l_0, l_1, l_2, l_3, l_4, l_5, l_6, l_7, l_8, l_9, l_10, l_12, l_16, l_20, l_24, l_25, l_31, l_32, l_33, l_40, l_48, l_57, l_60, l_63, l_64, l_78, l_85, l_97, l_99, l_100, l_122, l_255, l_325, l_700, l_999, l_1000, l_1200, l_99999, l_100000, l_1000000, l_2000000000, l_N, b_0, m_oi4 h v, n_eq]
  unfold mv at hr
  cases hn : nxt (w 0) c u with
  | some c' =>
    rw [hn] at hr
    simp only [Option.isSome_some, Bool.true_eq_false, if_false]
    refine lay_124 (b := b) h v hi hd hc ?_
    rw [hn]
    exact hr
  | none =>
    rw [hn] at hr
    simp only [Option.isSome_none, if_true]
    by_cases ht : w (37 + 5 * i) = 1
    · simp only [ht, if_true] at hr ⊢
      rw [wI_neg]
      refine lay_124 (b := b) h v hi hd hc ?_
      cases hn2 : nxt (w 0) c (!u) with
      | some c2 => rw [hn2] at hr; exact hr
      | none => rw [hn2] at hr; exact hr
    · simp only [ht, if_false] at hr ⊢
      refine lay_124 (b := b) h v hi hd hc ?_
      rw [hn]
      exact hr
theorem m_lay {i b k : Nat} (h : TM I w) (v : Vw w) (hi : i < w 5) (hb : b < 2 * w 0) (hk : k < 3) (hd : 4 ≤ d) : ∃ I', K_X11_lay X d (nI k) (nI i) (nI b) (I, L, ()) = some (none, (I', L, ())) ∧ Fm [47, 48] I I' ∧ (∀ m, m < w 1 → I' 47 0 (40 * k + m) = oI (crs w i b m)) ∧ (∀ j, (j < 40 * k ∨ 40 * k + 40 ≤ j) → I' 47 0 j = I 47 0 j) ∧ I' 48 0 k = nI (w (36 + 5 * i)) ∧ (∀ j, j ≠ k → I' 48 0 j = I 48 0 j) := by
  obtain ⟨e, rfl⟩ : ∃ e, d = e + 1 := ⟨d - 1, by omega⟩
  obtain ⟨⟨h0, h1, h2, h3, h4, h5, -⟩, -, vc, vi, -⟩ := id v
  have hp := vi i hi
  have hK : Fm [47, 48] I (up3 I 48 0 k (nI (w (36 + 5 * i)))) := Fm.refl.up (by decide)
  have hl := loop_z (F := fun m (s : Int32 × Int32 × Int32 × A3 Int32) => v_X11_lay_42 X e (nI k) (nI i) s.1 s.2.1 s.2.2.1 (nI m) (s.2.2.2, L, ())) (P := lP w i b k (up3 I 48 0 k (nI (w (36 + 5 * i))))) (w 1) (nI (b / 2), wI (decide (b % 2 = 0)), nI (stay w i (b / 2)), up3 I 48 0 k (nI (w (36 + 5 * i)))) ⟨Fm.refl, fun j hj => by omega, fun j hj => rfl, rfl, rfl, fun c hc => rfl⟩ (fun m s hm hP => by
    obtain ⟨l4, l5, l6, J⟩ := s
    obtain ⟨hF, hj, hj2, e1, e2, e3⟩ := hP
    simp only at hF hj hj2 e1 e2 e3
    subst e1
    subst e2
    have hJ : TM J w := (h.fm hK (by decide)).fm hF (by decide)
    have hJ' : TM (up3 J 47 0 (40 * k + m) (oI (cst w i b m).1)) w := hJ.fm (l := [47]) (Fm.refl.up (by decide)) (by decide)
    have hok := cst_ok v hi hb m
    have hst : cst w i b (m + 1) = cstep w i (cst w i b m) := rfl
    have mk : ∀ l6', (∀ c, (cst w i b (m + 1)).1 = some c → l6' = nI (cst w i b (m + 1)).2.2) → lP w i b k (up3 I 48 0 k (nI (w (36 + 5 * i)))) (m + 1) (oI (cst w i b (m + 1)).1, wI (cst w i b (m + 1)).2.1, l6', up3 J 47 0 (40 * k + m) (oI (cst w i b m).1)) := by
      intro l6' h6
      refine ⟨hF.up (by decide), fun j hj' => ?_, fun j hj' => ?_, rfl, rfl, h6⟩
      · by_cases ej : j = m
        · subst ej; exact u3_eq _ _ _ _ _
        · show up3 J 47 0 (40 * k + m) _ 47 0 (40 * k + j) = _
          rw [u3_j _ _ (by omega)]; exact hj j (by omega)
      · show up3 J 47 0 (40 * k + m) _ 47 0 j = _
        rw [u3_j _ _ (by omega)]; exact hj2 j hj'
    -- what l6 is ahead
    cases hs : (cst w i b m).1 with
    | none =>
      have hn : cst w i b (m + 1) = cst w i b m := by
        rw [hst]
        generalize cst w i b m = s at hs ⊢
        obtain ⟨s1, s2, s3⟩ := s
        cases hs
        rfl
      refine ⟨_, mk l6 (fun c hc => by rw [hn, hs] at hc; cases hc), fun r hr => ?_⟩
      have hr : v_X11_lay_42 X e (nI k) (nI i) (oI (cst w i b (m + 1)).1) (wI (cst w i b (m + 1)).2.1) l6 (nI (m + 1)) (up3 J 47 0 (40 * k + m) (oI (cst w i b m).1), L, ()) = some r := hr
      rw [hn, hs] at hr
      refine v_X11_lay_42.e X e _ _ _ _ _ _ J L r ?_
      simp (disch := omega) only [oI, m_minutes hJ v, a_bi_i, a_bv_n, a_bl_l, a_bq_q, l_0, l_1, l_2, l_3, l_4, l_5, l_6, l_7, l_8, l_9, l_10, l_12, l_16, l_20, l_24, l_25, l_31, l_32, l_33, l_40, l_48, l_57, l_60, l_63, l_64, l_78, l_85, l_97, l_99, l_100, l_122, l_255, l_325, l_700, l_999, l_1000, l_1200, l_99999, l_100000, l_1000000, l_2000000000, l_N, n_add, n_mul, n_lt, n_out, n_div, n_dm, n_eq, n_toN, n_inN, n_ltN, n_nltN, n_neN, Nat.not_lt_zero, false_or, or_false, ite_y, ite_n, if_true, if_false, ite_tt, ite_ff, b_0, b_1, eq_self_iff_true, Bool.true_eq_false, Bool.false_eq_true]
      refine v_X11_lay_161.e X e _ _ _ _ _ _ _ L r ?_
      simp (disch := omega) only [l_0, l_1, l_2, l_3, l_4, l_5, l_6, l_7, l_8, l_9, l_10, l_12, l_16, l_20, l_24, l_25, l_31, l_32, l_33, l_40, l_48, l_57, l_60, l_63, l_64, l_78, l_85, l_97, l_99, l_100, l_122, l_255, l_325, l_700, l_999, l_1000, l_1200, l_99999, l_100000, l_1000000, l_2000000000, l_N, n_add]
      exact hr
    | some c =>
      obtain ⟨k1, k2, k3⟩ := hok c hs
      have e4 := e3 c hs
      by_cases hl : 1 < (cst w i b m).2.2
      · have hn : cst w i b (m + 1) = (some c, (cst w i b m).2.1, (cst w i b m).2.2 - 1) := by
          rw [hst]
          generalize cst w i b m = s at hs hl ⊢
          obtain ⟨s1, s2, s3⟩ := s
          cases hs
          simp only [cstep, hl, if_true]
        refine ⟨_, mk (nI ((cst w i b m).2.2 - 1)) (fun c hc => by rw [hn]), fun r hr => ?_⟩
        rw [hn, hs] at hr
        refine v_X11_lay_42.e X e _ _ _ _ _ _ J L r ?_
        simp (disch := omega) only [oI, m_minutes hJ v, a_bi_i, a_bv_n, a_bl_l, a_bq_q, l_0, l_1, l_2, l_3, l_4, l_5, l_6, l_7, l_8, l_9, l_10, l_12, l_16, l_20, l_24, l_25, l_31, l_32, l_33, l_40, l_48, l_57, l_60, l_63, l_64, l_78, l_85, l_97, l_99, l_100, l_122, l_255, l_325, l_700, l_999, l_1000, l_1200, l_99999, l_100000, l_1000000, l_2000000000, l_N, n_add, n_mul, n_lt, n_out, n_div, n_dm, n_eq, n_toN, n_inN, n_ltN, n_nltN, n_neN, Nat.not_lt_zero, false_or, or_false, ite_y, ite_n, if_true, if_false, ite_tt, ite_ff, b_0, b_1, eq_self_iff_true, Bool.true_eq_false, Bool.false_eq_true]
        refine v_X11_lay_74.e X e _ _ _ _ _ _ _ L r ?_
        rw [e4, l_cN, n_Nadd (by omega)]
        refine v_X11_lay_77.e X e _ _ _ _ _ _ _ L r ?_
        simp (disch := omega) only [a_bi_i, a_bv_n, a_bl_l, a_bq_q, l_0, l_1, l_2, l_3, l_4, l_5, l_6, l_7, l_8, l_9, l_10, l_12, l_16, l_20, l_24, l_25, l_31, l_32, l_33, l_40, l_48, l_57, l_60, l_63, l_64, l_78, l_85, l_97, l_99, l_100, l_122, l_255, l_325, l_700, l_999, l_1000, l_1200, l_99999, l_100000, l_1000000, l_2000000000, l_N, n_add, n_mul, n_lt, n_out, n_div, n_dm, n_eq, n_toN, n_inN, n_ltN, n_nltN, n_neN, Nat.not_lt_zero, false_or, or_false, ite_y, ite_n, if_true, if_false, ite_tt, ite_ff, b_0, b_1, eq_self_iff_true, Bool.true_eq_false, Bool.false_eq_true]
        refine v_X11_lay_161.e X e _ _ _ _ _ _ _ L r ?_
        simp (disch := omega) only [l_0, l_1, l_2, l_3, l_4, l_5, l_6, l_7, l_8, l_9, l_10, l_12, l_16, l_20, l_24, l_25, l_31, l_32, l_33, l_40, l_48, l_57, l_60, l_63, l_64, l_78, l_85, l_97, l_99, l_100, l_122, l_255, l_325, l_700, l_999, l_1000, l_1200, l_99999, l_100000, l_1000000, l_2000000000, l_N, n_add]
        exact hr
      · have hn : cst w i b (m + 1) = mv w i c (cst w i b m).2.1 := by
          rw [hst]
          generalize cst w i b m = s at hs hl ⊢
          obtain ⟨s1, s2, s3⟩ := s
          cases hs
          simp only [cstep, hl, if_false]
        refine ⟨_, mk (nI (cst w i b (m + 1)).2.2) (fun c hc => rfl), fun r hr => ?_⟩
        rw [hs] at hr
        refine v_X11_lay_42.e X e _ _ _ _ _ _ J L r ?_
        simp (disch := omega) only [oI, m_minutes hJ v, a_bi_i, a_bv_n, a_bl_l, a_bq_q, l_0, l_1, l_2, l_3, l_4, l_5, l_6, l_7, l_8, l_9, l_10, l_12, l_16, l_20, l_24, l_25, l_31, l_32, l_33, l_40, l_48, l_57, l_60, l_63, l_64, l_78, l_85, l_97, l_99, l_100, l_122, l_255, l_325, l_700, l_999, l_1000, l_1200, l_99999, l_100000, l_1000000, l_2000000000, l_N, n_add, n_mul, n_lt, n_out, n_div, n_dm, n_eq, n_toN, n_inN, n_ltN, n_nltN, n_neN, Nat.not_lt_zero, false_or, or_false, ite_y, ite_n, if_true, if_false, ite_tt, ite_ff, b_0, b_1, eq_self_iff_true, Bool.true_eq_false, Bool.false_eq_true]
        refine v_X11_lay_74.e X e _ _ _ _ _ _ _ L r ?_
        rw [e4, l_cN, n_Nadd (by omega)]
        refine v_X11_lay_77.e X e _ _ _ _ _ _ _ L r ?_
        simp (disch := omega) only [a_bi_i, a_bv_n, a_bl_l, a_bq_q, l_0, l_1, l_2, l_3, l_4, l_5, l_6, l_7, l_8, l_9, l_10, l_12, l_16, l_20, l_24, l_25, l_31, l_32, l_33, l_40, l_48, l_57, l_60, l_63, l_64, l_78, l_85, l_97, l_99, l_100, l_122, l_255, l_325, l_700, l_999, l_1000, l_1200, l_99999, l_100000, l_1000000, l_2000000000, l_N, n_add, n_mul, n_lt, n_out, n_div, n_dm, n_eq, n_toN, n_inN, n_ltN, n_nltN, n_neN, Nat.not_lt_zero, false_or, or_false, ite_y, ite_n, if_true, if_false, ite_tt, ite_ff, b_0, b_1, eq_self_iff_true, Bool.true_eq_false, Bool.false_eq_true]
        rw [hs] at hJ'
        refine lay_85 (b := b) hJ' v hi (by omega) k1 ?_
        rw [hn] at hr
        exact hr)
  obtain ⟨⟨l4, l5, l6, J⟩, ⟨hF, hj, hj2, -⟩, hO⟩ := hl
  simp only at hF hj hj2 hO
  have hJ : TM J w := (h.fm hK (by decide)).fm hF (by decide)
  have hF2 : Fm [47, 48] I J := hK.trans (hF.mono (by decide))
  have e48 : J 48 = (up3 I 48 0 k (nI (w (36 + 5 * i)))) 48 := hF 48 (by decide)
  refine ⟨J, ?_, hF2, hj, fun j hj' => ?_, ?_, fun j hj' => ?_⟩
  · refine K_X11_lay.e X e _ _ _ I L _ ?_
    have hend : v_X11_lay_42 X e (nI k) (nI i) (nI (b / 2)) (wI (decide (b % 2 = 0))) (nI (stay w i (b / 2))) (nI 0) (up3 I 48 0 k (nI (w (36 + 5 * i))), L, ()) = some (none, (J, L, ())) := by
      refine hO _ ?_
      refine v_X11_lay_42.e X e _ _ _ _ _ _ J L _ ?_
      simp (disch := omega) only [m_minutes hJ v, a_bi_i, a_bv_n, a_bl_l, a_bq_q, l_0, l_1, l_2, l_3, l_4, l_5, l_6, l_7, l_8, l_9, l_10, l_12, l_16, l_20, l_24, l_25, l_31, l_32, l_33, l_40, l_48, l_57, l_60, l_63, l_64, l_78, l_85, l_97, l_99, l_100, l_122, l_255, l_325, l_700, l_999, l_1000, l_1200, l_99999, l_100000, l_1000000, l_2000000000, l_N, n_add, n_mul, n_lt, n_out, n_div, n_dm, n_eq, n_toN, n_inN, n_ltN, n_nltN, n_neN, Nat.not_lt_zero, false_or, or_false, ite_y, ite_n, if_true, if_false, ite_tt, ite_ff, b_0, b_1, eq_self_iff_true, Bool.true_eq_false, Bool.false_eq_true]
    simp (disch := omega) only [a_bi_i, a_bv_n, a_bl_l, a_bq_q, l_0, l_1, l_2, l_3, l_4, l_5, l_6, l_7, l_8, l_9, l_10, l_12, l_16, l_20, l_24, l_25, l_31, l_32, l_33, l_40, l_48, l_57, l_60, l_63, l_64, l_78, l_85, l_97, l_99, l_100, l_122, l_255, l_325, l_700, l_999, l_1000, l_1200, l_99999, l_100000, l_1000000, l_2000000000, l_N, n_add, n_mul, n_lt, n_out, n_div, n_dm, n_eq, n_toN, n_inN, n_ltN, n_nltN, n_neN, Nat.not_lt_zero, false_or, or_false, ite_y, ite_n, if_true, if_false, ite_tt, ite_ff, b_0, b_1, eq_self_iff_true, Bool.true_eq_false, Bool.false_eq_true, m_staysOf h v, m_oi3 h v]
    unfold stay at hend
    by_cases hb2 : b % 2 = 0 <;> simp only [hb2, decide_true, decide_false, if_true, if_false, wI, Bool.false_eq_true] at hend ⊢ <;> exact hend
  · rw [hj2 j hj', u3_f I _ (show 47 ≠ 48 by decide)]
  · rw [e48]; exact u3_eq _ _ _ _ _
  · rw [e48]; exact u3_j _ _ hj'
/-- all inspectors as they are: where the k-th is, whether it knocks -/
def bg (w : TW) (i : Nat) : Nat := 2 * w (33 + 5 * i) + w (34 + 5 * i)
theorem bg_lt {i : Nat} (v : Vw w) (hi : i < w 5) : bg w i < 2 * w 0 := by
  obtain ⟨-, -, -, vi, -⟩ := v
  have := vi i hi
  unfold bg
  omega
/-- the reference's cells hold the places of n inspectors -/
def PM (I : A3 Int32) (T n : Nat) (ps : Nat → Nat → Option Nat) (kn : Nat → Nat) : Prop := I 40 0 17 = nI n ∧ (∀ k, k < n → ∀ m, m < T → I 47 0 (40 * k + m) = oI (ps k m)) ∧ ∀ k, k < n → I 48 0 k = nI (kn k)
/-- the class's courses hold them -/
def PC (I : A3 Int32) (T n : Nat) (ps : Nat → Nat → Option Nat) : Prop := ∀ k, k < n → ∀ m, m < T → I 14 k m = oI (ps k m)
def psA (w : TW) (k m : Nat) : Option Nat := crs w k (bg w k) m
def knA (w : TW) (k : Nat) : Nat := w (36 + 5 * k)
theorem c_followAll (h : TC I w) (v : Vw w) (hd : 5 ≤ d) : ∃ I', K_X10_followAll X d (I, L, ()) = some (none, (I', L, ())) ∧ (∀ f i, (f ≠ 14 ∨ 3 ≤ i) → I' f i = I f i) ∧ PC I' (w 1) (w 5) (psA w) := by
  obtain ⟨e, rfl⟩ : ∃ e, d = e + 1 := ⟨d - 1, by omega⟩
  obtain ⟨⟨h0, h1, h2, h3, h4, h5, -⟩, -, vc, vi, -⟩ := id v
  obtain ⟨J, ⟨g1, g2⟩, g3⟩ := loop_z (F := fun k (J : A3 Int32) => v_X10_followAll_2 X e (nI k) (J, L, ())) (P := fun k J => (∀ f i, (f ≠ 14 ∨ 3 ≤ i) → J f i = I f i) ∧ PC J (w 1) k (psA w)) (w 5) I ⟨fun _ _ _ => rfl, fun k hk => by omega⟩ (fun k J hk hP => by
    obtain ⟨hF, hp⟩ := hP
    have hJ : TC J w := h.fam (hF 6 0 (by decide)) (hF 7 0 (by decide)) (hF 8 0 (by decide)) (hF 9 0 (by decide)) (hF 10 0 (by decide))
    obtain ⟨J', q1, q2, q3⟩ := c_follow (X := X) (d := e) (L := L) (q := k) hJ v hk (bg_lt v hk) (by omega)
    refine ⟨J', ⟨fun f i hf => ?_, fun k' hk' m hm => ?_⟩, fun r hr => ?_⟩
    · rw [q2 f i (by omega)]; exact hF f i hf
    · by_cases ek : k' = k
      · subst ek; exact q3 m hm
      · rw [q2 14 k' (Or.inr ek)]; exact hp k' (by omega) m hm
    · refine v_X10_followAll_2.e X e _ J L r ?_
      have q1 : K_X1_follow X e k 0 (nI k) (nI (2 * w (33 + 5 * k) + w (34 + 5 * k))) (J, L, ()) = some (none, (J', L, ())) := q1
      simp (disch := omega) only [c_inspectors hJ v, a_bi_i, a_bv_n, a_bl_l, a_bq_q, l_0, l_1, l_2, l_3, l_4, l_5, l_6, l_7, l_8, l_9, l_10, l_12, l_16, l_20, l_24, l_25, l_31, l_32, l_33, l_40, l_48, l_57, l_60, l_63, l_64, l_78, l_85, l_97, l_99, l_100, l_122, l_255, l_325, l_700, l_999, l_1000, l_1200, l_99999, l_100000, l_1000000, l_2000000000, l_N, n_add, n_mul, n_lt, n_out, n_div, n_dm, n_eq, n_toN, n_inN, n_ltN, n_nltN, n_neN, Nat.not_lt_zero, false_or, or_false, ite_y, ite_n, if_true, if_false, ite_tt, ite_ff, b_0, b_1, eq_self_iff_true, Bool.true_eq_false, Bool.false_eq_true, c_beginOf hJ v, q1]
      exact hr)
  refine ⟨J, ?_, g1, g2⟩
  refine K_X10_followAll.e X e I L _ (g3 _ ?_)
  have hJ : TC J w := h.fam (g1 6 0 (by decide)) (g1 7 0 (by decide)) (g1 8 0 (by decide)) (g1 9 0 (by decide)) (g1 10 0 (by decide))
  refine v_X10_followAll_2.e X e _ J L _ ?_
  simp (disch := omega) only [c_inspectors hJ v, a_bi_i, a_bv_n, a_bl_l, a_bq_q, l_0, l_1, l_2, l_3, l_4, l_5, l_6, l_7, l_8, l_9, l_10, l_12, l_16, l_20, l_24, l_25, l_31, l_32, l_33, l_40, l_48, l_57, l_60, l_63, l_64, l_78, l_85, l_97, l_99, l_100, l_122, l_255, l_325, l_700, l_999, l_1000, l_1200, l_99999, l_100000, l_1000000, l_2000000000, l_N, n_add, n_mul, n_lt, n_out, n_div, n_dm, n_eq, n_toN, n_inN, n_ltN, n_nltN, n_neN, Nat.not_lt_zero, false_or, or_false, ite_y, ite_n, if_true, if_false, ite_tt, ite_ff, b_0, b_1, eq_self_iff_true, Bool.true_eq_false, Bool.false_eq_true]
theorem c_followBegins (h : TC I w) (v : Vw w) (hn : 0 < w 5) (hd : 5 ≤ d) : ∃ I', K_X10_followBegins X d (I, L, ()) = some (none, (I', L, ())) ∧ (∀ f i, (f ≠ 14 ∨ i < 3) → I' f i = I f i) ∧ ∀ b, b < 2 * w 0 → ∀ m, m < w 1 → I' 14 (b + 3) m = oI (crs w 0 b m) := by
  obtain ⟨e, rfl⟩ : ∃ e, d = e + 1 := ⟨d - 1, by omega⟩
  obtain ⟨⟨h0, h1, h2, h3, h4, h5, -⟩, -, vc, vi, -⟩ := id v
  obtain ⟨J, ⟨g1, g2⟩, g3⟩ := loop_z (F := fun k (J : A3 Int32) => v_X10_followBegins_2 X e (nI k) (J, L, ())) (P := fun k J => (∀ f i, (f ≠ 14 ∨ i < 3) → J f i = I f i) ∧ ∀ b, b < k → ∀ m, m < w 1 → J 14 (b + 3) m = oI (crs w 0 b m)) (2 * w 0) I ⟨fun _ _ _ => rfl, fun k hk => by omega⟩ (fun k J hk hP => by
    obtain ⟨hF, hp⟩ := hP
    have hJ : TC J w := h.fam (hF 6 0 (by decide)) (hF 7 0 (by decide)) (hF 8 0 (by decide)) (hF 9 0 (by decide)) (hF 10 0 (by decide))
    obtain ⟨J', q1, q2, q3⟩ := c_follow (X := X) (d := e) (L := L) (q := k + 3) hJ v hn hk (by omega)
    refine ⟨J', ⟨fun f i hf => ?_, fun k' hk' m hm => ?_⟩, fun r hr => ?_⟩
    · rw [q2 f i (by omega)]; exact hF f i hf
    · by_cases ek : k' = k
      · subst ek; exact q3 m hm
      · rw [q2 14 (k' + 3) (Or.inr (by omega))]; exact hp k' (by omega) m hm
    · refine v_X10_followBegins_2.e X e _ J L r ?_
      simp (disch := omega) only [c_beginCount hJ v, a_bi_i, a_bv_n, a_bl_l, a_bq_q, l_0, l_1, l_2, l_3, l_4, l_5, l_6, l_7, l_8, l_9, l_10, l_12, l_16, l_20, l_24, l_25, l_31, l_32, l_33, l_40, l_48, l_57, l_60, l_63, l_64, l_78, l_85, l_97, l_99, l_100, l_122, l_255, l_325, l_700, l_999, l_1000, l_1200, l_99999, l_100000, l_1000000, l_2000000000, l_N, n_add, n_mul, n_lt, n_out, n_div, n_dm, n_eq, n_toN, n_inN, n_ltN, n_nltN, n_neN, Nat.not_lt_zero, false_or, or_false, ite_y, ite_n, if_true, if_false, ite_tt, ite_ff, b_0, b_1, eq_self_iff_true, Bool.true_eq_false, Bool.false_eq_true, q1]
      exact hr)
  refine ⟨J, ?_, g1, g2⟩
  refine K_X10_followBegins.e X e I L _ (g3 _ ?_)
  have hJ : TC J w := h.fam (g1 6 0 (by decide)) (g1 7 0 (by decide)) (g1 8 0 (by decide)) (g1 9 0 (by decide)) (g1 10 0 (by decide))
  refine v_X10_followBegins_2.e X e _ J L _ ?_
  simp (disch := omega) only [c_beginCount hJ v, a_bi_i, a_bv_n, a_bl_l, a_bq_q, l_0, l_1, l_2, l_3, l_4, l_5, l_6, l_7, l_8, l_9, l_10, l_12, l_16, l_20, l_24, l_25, l_31, l_32, l_33, l_40, l_48, l_57, l_60, l_63, l_64, l_78, l_85, l_97, l_99, l_100, l_122, l_255, l_325, l_700, l_999, l_1000, l_1200, l_99999, l_100000, l_1000000, l_2000000000, l_N, n_add, n_mul, n_lt, n_out, n_div, n_dm, n_eq, n_toN, n_inN, n_ltN, n_nltN, n_neN, Nat.not_lt_zero, false_or, or_false, ite_y, ite_n, if_true, if_false, ite_tt, ite_ff, b_0, b_1, eq_self_iff_true, Bool.true_eq_false, Bool.false_eq_true]
/-- the reference's own cells beside the train: those of family 40 that last -/
def E40 (I I' : A3 Int32) : Prop := ∀ j, (j ≠ 17 ∧ j ≠ 18 ∧ j ≠ 19 ∧ j ≠ 26) → I' 40 0 j = I 40 0 j
theorem m_asItIs (h : TM I w) (v : Vw w) (hd : 5 ≤ d) : ∃ I', K_X11_asItIs X d (I, L, ()) = some (none, (I', L, ())) ∧ Fm [40, 47, 48] I I' ∧ (∀ j, j ≠ 17 → I' 40 0 j = I 40 0 j) ∧ PM I' (w 1) (w 5) (psA w) (knA w) := by
  obtain ⟨e, rfl⟩ : ∃ e, d = e + 1 := ⟨d - 1, by omega⟩
  obtain ⟨⟨h0, h1, h2, h3, h4, h5, -⟩, -, vc, vi, -⟩ := id v
  obtain ⟨J, ⟨g1, g2⟩, g3⟩ := loop_z (F := fun k (J : A3 Int32) => v_X11_asItIs_12 X e (nI k) (J, L, ())) (P := fun k J => Fm [47, 48] (up3 I 40 0 17 (nI (w 5))) J ∧ ∀ k', k' < k → (∀ m, m < w 1 → J 47 0 (40 * k' + m) = oI (psA w k' m)) ∧ J 48 0 k' = nI (knA w k')) (w 5) (up3 I 40 0 17 (nI (w 5))) ⟨Fm.refl, fun k hk => by omega⟩ (fun k J hk hP => by
    obtain ⟨hF, hp⟩ := hP
    have hJ : TM J w := (h.fm (l := [40]) (Fm.refl.up (by decide)) (by decide)).fm hF (by decide)
    have h40 : J 40 0 17 = nI (w 5) := by rw [hF 40 (by decide)]; exact u3_eq _ _ _ _ _
    obtain ⟨J', q1, q2, q3, q4, q5, q6⟩ := m_lay (X := X) (d := e) (L := L) (k := k) hJ v hk (bg_lt v hk) (by omega) (by omega)
    refine ⟨J', ⟨hF.trans q2, fun k' hk' => ?_⟩, fun r hr => ?_⟩
    · by_cases ek : k' = k
      · subst ek; exact ⟨fun m hm => q3 m hm, q5⟩
      · obtain ⟨a1, a2⟩ := hp k' (by omega)
        exact ⟨fun m hm => by rw [q4 _ (by omega)]; exact a1 m hm, by rw [q6 k' ek]; exact a2⟩
    · refine v_X11_asItIs_12.e X e _ J L r ?_
      rw [h40]
      have q1 : K_X11_lay X e (nI k) (nI k) (nI (2 * w (33 + 5 * k) + w (34 + 5 * k))) (J, L, ()) = some (none, (J', L, ())) := q1
      simp (disch := omega) only [a_bi_i, a_bv_n, a_bl_l, a_bq_q, l_0, l_1, l_2, l_3, l_4, l_5, l_6, l_7, l_8, l_9, l_10, l_12, l_16, l_20, l_24, l_25, l_31, l_32, l_33, l_40, l_48, l_57, l_60, l_63, l_64, l_78, l_85, l_97, l_99, l_100, l_122, l_255, l_325, l_700, l_999, l_1000, l_1200, l_99999, l_100000, l_1000000, l_2000000000, l_N, n_add, n_mul, n_lt, n_out, n_div, n_dm, n_eq, n_toN, n_inN, n_ltN, n_nltN, n_neN, Nat.not_lt_zero, false_or, or_false, ite_y, ite_n, if_true, if_false, ite_tt, ite_ff, b_0, b_1, eq_self_iff_true, Bool.true_eq_false, Bool.false_eq_true, m_beginOf hJ v, q1]
      exact hr)
  have h40 : ∀ j, J 40 0 j = (up3 I 40 0 17 (nI (w 5))) 40 0 j := fun j => by rw [g1 40 (by decide)]
  refine ⟨J, ?_, ?_, fun j hj => ?_, ?_, fun k hk => (g2 k hk).1, fun k hk => (g2 k hk).2⟩
  · refine K_X11_asItIs.e X e I L _ ?_
    rw [h 5 (by decide)]
    refine g3 _ ?_
    refine v_X11_asItIs_12.e X e _ J L _ ?_
    rw [h40, u3_eq]
    simp (disch := omega) only [a_bi_i, a_bv_n, a_bl_l, a_bq_q, l_0, l_1, l_2, l_3, l_4, l_5, l_6, l_7, l_8, l_9, l_10, l_12, l_16, l_20, l_24, l_25, l_31, l_32, l_33, l_40, l_48, l_57, l_60, l_63, l_64, l_78, l_85, l_97, l_99, l_100, l_122, l_255, l_325, l_700, l_999, l_1000, l_1200, l_99999, l_100000, l_1000000, l_2000000000, l_N, n_add, n_mul, n_lt, n_out, n_div, n_dm, n_eq, n_toN, n_inN, n_ltN, n_nltN, n_neN, Nat.not_lt_zero, false_or, or_false, ite_y, ite_n, if_true, if_false, ite_tt, ite_ff, b_0, b_1, eq_self_iff_true, Bool.true_eq_false, Bool.false_eq_true]
  · exact Fm.trans (Fm.refl.up (by decide)) (g1.mono (by decide))
  · rw [h40, u3_j _ _ hj]
  · rw [h40, u3_eq]
end
