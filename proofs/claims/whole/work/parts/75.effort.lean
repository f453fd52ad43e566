/-! effort -/
section
variable {X : AX} {d : Nat} {I J : A3 Int32} {L : A3 Int64} {w : TW} {N : Nat} {ps : Nat → Nat → Option Nat} {kn : Nat → Nat} {lo dr : Nat → Bool}
def ef1 (j : Nat) (r : R3) : Prop := (r.1 = true → r.2.1 ≤ j) ∧ (r.1 = false → r.2.1 = 1000000)
theorem ef_filS {f : Pl → R3} {j m : Nat} {p : Pl} (hj : j < 40) (hf : ∀ q, ef1 j (f q)) : ∀ s, ef1 (j + 1) (filS w N ps kn lo dr f m p s) := by
  intro s
  induction s with
  | zero => exact ⟨(fun q => by cases q), fun _ => rfl⟩
  | succ s ih =>
    unfold filS
    split
    · rename_i q _
      split
      · have h1 := hf q
        unfold cmb
        generalize f q = b at *
        generalize filS w N ps kn lo dr f m p s = a at *
        obtain ⟨a1, a2, a3⟩ := a
        obtain ⟨b1, b2, b3⟩ := b
        unfold ef1 at *
        simp only at *
        have hx : (if s = 0 then 0 else 1) ≤ 1 := by split <;> omega
        generalize (if s = 0 then 0 else 1) = x at *
        cases a1 <;> cases b1
        · have u1 := ih.2 rfl; have u2 := h1.2 rfl
          exact ⟨(fun q => by cases q), fun _ => by omega⟩
        · have u1 := ih.2 rfl; have u2 := h1.1 rfl
          exact ⟨fun _ => by omega, (fun q => by cases q)⟩
        · have u1 := ih.1 rfl; have u2 := h1.2 rfl
          exact ⟨fun _ => by omega, (fun q => by cases q)⟩
        · have u1 := ih.1 rfl; have u2 := h1.1 rfl
          exact ⟨fun _ => by omega, (fun q => by cases q)⟩
      · exact ih
    · exact ih
theorem ef_fil (h1 : w 1 ≤ 40) : ∀ j, j < w 1 → ∀ p, ef1 j (fil w N ps kn lo dr j p) := by
  intro j
  induction j with
  | zero =>
    intro _ p
    unfold fil
    split
    · exact ⟨fun _ => Nat.le_refl _, (fun q => by cases q)⟩
    · exact ⟨(fun q => by cases q), fun _ => rfl⟩
  | succ j ih =>
    intro hj p
    unfold fil
    split
    · exact ef_filS (by omega) (ih (by omega)) 12
    · exact ⟨(fun q => by cases q), fun _ => rfl⟩
/-- what the class has found among the first s steps -/
def acc (r : R3) : Nat := if r.1 = true then r.2.1 else 1000
theorem acc_s {j m s : Nat} {p q : Pl} (h1 : w 1 ≤ 40) (hm : m = w 1 - 2 - j) (hj : j + 1 < w 1) (hq : gol w N ps kn lo dr m p s = some q) : acc (filS w N ps kn lo dr (fil w N ps kn lo dr j) m p (s + 1)) = min (acc (filS w N ps kn lo dr (fil w N ps kn lo dr j) m p s)) ((fil w N ps kn lo dr j q).2.1 + (if s = 0 then 0 else 1)) := by
  have hA : ef1 (j + 1) (filS w N ps kn lo dr (fil w N ps kn lo dr j) m p s) := ef_filS (by omega) (ef_fil h1 j (by omega)) s
  have hB := ef_fil (N := N) (ps := ps) (kn := kn) (lo := lo) (dr := dr) h1 j (by omega) q
  unfold gol at hq
  rw [show w 1 - 2 - m = j by omega] at hq
  split at hq
  · rename_i hg
    unfold goS at hg
    rw [hq] at hg
    obtain ⟨g1, g2⟩ := Bool.and_eq_true_iff.mp hg
    rw [filS, hq]
    simp only [g1, if_true]
    unfold acc cmb
    generalize fil w N ps kn lo dr j q = b at *
    generalize filS w N ps kn lo dr (fil w N ps kn lo dr j) m p s = a at *
    obtain ⟨a1, a2, a3⟩ := a
    obtain ⟨b1, b2, b3⟩ := b
    unfold ef1 at *
    simp only at *
    subst g2
    have hx : (if s = 0 then 0 else 1) ≤ 1 := by split <;> omega
    generalize (if s = 0 then 0 else 1) = x at *
    have u2 := hB.1 rfl
    cases a1
    · have u1 := hA.2 rfl
      simp only [Bool.or_true, if_true, Bool.false_eq_true, if_false]
      omega
    · simp
  · cases hq
theorem acc_n {j m s : Nat} {p : Pl} (h1 : w 1 ≤ 40) (hm : m = w 1 - 2 - j) (hj : j + 1 < w 1) (hq : gol w N ps kn lo dr m p s = none) : acc (filS w N ps kn lo dr (fil w N ps kn lo dr j) m p (s + 1)) = acc (filS w N ps kn lo dr (fil w N ps kn lo dr j) m p s) := by
  have hA : ef1 (j + 1) (filS w N ps kn lo dr (fil w N ps kn lo dr j) m p s) := ef_filS (by omega) (ef_fil h1 j (by omega)) s
  unfold gol at hq
  rw [show w 1 - 2 - m = j by omega] at hq
  rw [filS]
  cases hs : stp w lo dr m p s with
  | none => rfl
  | some q =>
    have hB := ef_fil (N := N) (ps := ps) (kn := kn) (lo := lo) (dr := dr) h1 j (by omega) q
    rw [hs] at hq
    simp only
    split
    · rename_i hfr
      have hg : (fil w N ps kn lo dr j q).1 = false := by
        cases hz : (fil w N ps kn lo dr j q).1 with
        | false => rfl
        | true =>
          have : goS w N ps kn lo dr j m p s = true := by unfold goS; rw [hs, hfr]; simp [hz]
          rw [this, if_pos rfl] at hq; cases hq
      unfold acc cmb
      generalize fil w N ps kn lo dr j q = b at *
      generalize filS w N ps kn lo dr (fil w N ps kn lo dr j) m p s = a at *
      obtain ⟨a1, a2, a3⟩ := a
      obtain ⟨b1, b2, b3⟩ := b
      unfold ef1 at *
      simp only at *
      subst hg
      have u2 := hB.2 rfl
      cases a1
      · rfl
      · have u1 := hA.1 rfl
        simp only [Bool.true_or, if_true]
        omega
    · rfl
theorem gol_in {m s : Nat} {p q : Pl} (hp : p.1 < w 0) (hm : m + 1 < w 1) (hq : gol w N ps kn lo dr m p s = some q) : q.1 < w 0 ∧ (fil w N ps kn lo dr (w 1 - 2 - m) q).1 = true := by
  unfold gol at hq
  split at hq
  · rename_i hg
    unfold goS at hg
    rw [hq] at hg
    exact ⟨stp_in hp hq, (Bool.and_eq_true_iff.mp hg).2⟩
  · cases hq
/-- the costs of minute index j, for those that can go on -/
def KI (f : Nat → Int32) (w : TW) (N : Nat) (ps : Nat → Nat → Option Nat) (kn : Nat → Nat) (lo dr : Nat → Bool) (j : Nat) : Prop := ∀ p : Pl, p.1 < w 0 → (fil w N ps kn lo dr j p).1 = true → f (cP p) = nI (fil w N ps kn lo dr j p).2.1
theorem c_cheapest {q j m : Nat} {p : Pl} (h : TC I w) (v : Vw w) (hf : CF I q (w 1) (w 0) lo dr) (hC : CA I q (w 1) N ps kn) (hS : SO I q w N ps kn lo dr) (hp : p.1 < w 0) (hm : m = w 1 - 2 - j) (hj : j + 1 < w 1) (hc : (fil w N ps kn lo dr (j + 1) p).1 = true) (hK : KI (I 27 q) w N ps kn lo dr j) (hd : 5 ≤ d) : K_X0_cheapest X d q (nI (cP p)) (nI m) (I, L, ()) = some (some (aI (nI (fil w N ps kn lo dr (j + 1) p).2.1)), (I, L, ())) := by
  obtain ⟨e, rfl⟩ : ∃ e, d = e + 1 := ⟨d - 1, by omega⟩
  obtain ⟨⟨w0, w1, -⟩, -⟩ := id v
  have hm1 : m + 1 < w 1 := by omega
  have hj' : w 1 - 2 - m = j := by omega
  refine K_X0_cheapest.e X e _ _ _ I L _ ?_
  obtain ⟨u, -, g2⟩ := loop_z (F := fun s (_ : Unit) => v_X0_cheapest_7 X e q (nI (cP p)) (nI m) (nI (acc (filS w N ps kn lo dr (fil w N ps kn lo dr j) m p s))) (nI s) (I, L, ())) (P := fun _ _ => True) 12 () trivial (fun s _ hs _ => by
    refine ⟨(), trivial, fun r hr => ?_⟩
    have hA : ef1 (j + 1) (filS w N ps kn lo dr (fil w N ps kn lo dr j) m p s) := ef_filS (by omega) (ef_fil w1 j (by omega)) s
    have hacc : acc (filS w N ps kn lo dr (fil w N ps kn lo dr j) m p s) ≤ 1000 := by
      unfold acc
      split
      · rename_i z; have := hA.1 z; omega
      · omega
    have hg := c_goal (X := X) (d := e) (L := L) (s := s) h v hf hC hS hp hm1 hs (by omega)
    refine v_X0_cheapest_7.e X e _ _ _ _ _ I L r ?_
    cases hq : gol w N ps kn lo dr m p s with
    | none =>
      rw [hq] at hg
      rw [acc_n w1 hm hj hq] at hr
      simp (disch := omega) only [a_bi_i, a_bv_n, a_bl_l, a_bq_q, l_0, l_1, l_2, l_3, l_4, l_5, l_6, l_7, l_8, l_9, l_10, l_12, l_16, l_20, l_24, l_25, l_31, l_32, l_33, l_40, l_48, l_57, l_60, l_63, l_64, l_78, l_85, l_97, l_99, l_100, l_122, l_255, l_325, l_700, l_999, l_1000, l_1200, l_99999, l_100000, l_1000000, l_2000000000, l_N, n_add, n_mul, n_lt, n_out, n_div, n_dm, n_eq, n_toN, n_inN, n_ltN, n_nltN, n_neN, Nat.not_lt_zero, false_or, or_false, ite_y, ite_n, if_true, if_false, ite_tt, ite_ff, b_0, b_1, eq_self_iff_true, Bool.true_eq_false, Bool.false_eq_true, hg, Option.map, oI_Z]
      exact hr
    | some r' =>
      rw [hq] at hg
      rw [acc_s w1 hm hj hq] at hr
      obtain ⟨r1, r2⟩ := gol_in hp hm1 hq
      rw [hj'] at r2
      have hb : cP r' < 16 := cP_lt (by omega)
      have hk := hK r' r1 r2
      have hbd := (ef_fil (N := N) (ps := ps) (kn := kn) (lo := lo) (dr := dr) w1 j (by omega) r').1 r2
      by_cases hs0 : s = 0
      · subst hs0
        simp (disch := omega) only [a_bi_i, a_bv_n, a_bl_l, a_bq_q, l_0, l_1, l_2, l_3, l_4, l_5, l_6, l_7, l_8, l_9, l_10, l_12, l_16, l_20, l_24, l_25, l_31, l_32, l_33, l_40, l_48, l_57, l_60, l_63, l_64, l_78, l_85, l_97, l_99, l_100, l_122, l_255, l_325, l_700, l_999, l_1000, l_1200, l_99999, l_100000, l_1000000, l_2000000000, l_N, n_add, n_mul, n_lt, n_out, n_div, n_dm, n_eq, n_toN, n_inN, n_ltN, n_nltN, n_neN, Nat.not_lt_zero, false_or, or_false, ite_y, ite_n, if_true, if_false, ite_tt, ite_ff, b_0, b_1, eq_self_iff_true, Bool.true_eq_false, Bool.false_eq_true, hg, Option.map, oI_S, hk, c_minN]
        exact hr
      · rw [if_neg hs0] at hr
        simp (disch := omega) only [a_bi_i, a_bv_n, a_bl_l, a_bq_q, l_0, l_1, l_2, l_3, l_4, l_5, l_6, l_7, l_8, l_9, l_10, l_12, l_16, l_20, l_24, l_25, l_31, l_32, l_33, l_40, l_48, l_57, l_60, l_63, l_64, l_78, l_85, l_97, l_99, l_100, l_122, l_255, l_325, l_700, l_999, l_1000, l_1200, l_99999, l_100000, l_1000000, l_2000000000, l_N, n_add, n_mul, n_lt, n_out, n_div, n_dm, n_eq, n_toN, n_inN, n_ltN, n_nltN, n_neN, Nat.not_lt_zero, false_or, or_false, ite_y, ite_n, if_true, if_false, ite_tt, ite_ff, b_0, b_1, eq_self_iff_true, Bool.true_eq_false, Bool.false_eq_true, hg, Option.map, oI_S, hk, c_minN, hs0]
        exact hr)
  refine g2 _ (v_X0_cheapest_7.e X e _ _ _ _ _ I L _ ?_)
  simp (disch := omega) only [a_bi_i, a_bv_n, a_bl_l, a_bq_q, l_0, l_1, l_2, l_3, l_4, l_5, l_6, l_7, l_8, l_9, l_10, l_12, l_16, l_20, l_24, l_25, l_31, l_32, l_33, l_40, l_48, l_57, l_60, l_63, l_64, l_78, l_85, l_97, l_99, l_100, l_122, l_255, l_325, l_700, l_999, l_1000, l_1200, l_99999, l_100000, l_1000000, l_2000000000, l_N, n_add, n_mul, n_lt, n_out, n_div, n_dm, n_eq, n_toN, n_inN, n_ltN, n_nltN, n_neN, Nat.not_lt_zero, false_or, or_false, ite_y, ite_n, if_true, if_false, ite_tt, ite_ff, b_0, b_1, eq_self_iff_true, Bool.true_eq_false, Bool.false_eq_true, Nat.lt_irrefl]
  have he : fil w N ps kn lo dr (j + 1) p = filS w N ps kn lo dr (fil w N ps kn lo dr j) m p 12 := by
    have hh := can_hd hc
    rw [show w 1 - 1 - (j + 1) = w 1 - 2 - j by omega] at hh
    rw [fil, if_pos hh, hm]
  rw [he] at hc ⊢
  unfold acc
  rw [if_pos hc]
theorem cP_ex {t : Nat} (ht : t < 16) : ∃ p : Pl, p.1 < 8 ∧ cP p = t := by
  by_cases h : t < 8
  · exact ⟨(t, false), h, rfl⟩
  · refine ⟨(t - 8, true), ?_, ?_⟩
    · show t - 8 < 8; omega
    · show t - 8 + 8 = t; omega
theorem cP_inj {p q : Pl} (hp : p.1 < 8) (hq : q.1 < 8) (h : cP p = cP q) : p = q := by
  obtain ⟨a, b⟩ := p
  obtain ⟨c, e⟩ := q
  unfold cP at h
  simp only at *
  cases b <;> cases e <;> simp at h
  · rw [h]
  · omega
  · omega
  · rw [h]
theorem c_fewestSteps {a q : Nat} (h : TC I w) (v : Vw w) (hf : CF I q (w 1) (w 0) lo dr) (hC : CA I q (w 1) N ps kn) (hS : SO I q w N ps kn lo dr) (ha : a < w 0) (hT : 0 < w 1) (hd : 6 ≤ d) : ∃ J, K_X0_fewestSteps X d q (nI a) (I, L, ()) = some (some (aI (if (fil w N ps kn lo dr (w 1 - 1) (a, false)).1 = true then nI (fil w N ps kn lo dr (w 1 - 1) (a, false)).2.1 else nN)), (J, L, ())) ∧ Rq [26, 27] q I J := by
  obtain ⟨e, rfl⟩ : ∃ e, d = e + 2 := ⟨d - 2, by omega⟩
  obtain ⟨⟨w0, w1, -⟩, -⟩ := id v
  have keep : ∀ {K : A3 Int32}, Rq [26, 27] q I K → TC K w ∧ CF K q (w 1) (w 0) lo dr ∧ CA K q (w 1) N ps kn ∧ SO K q w N ps kn lo dr := fun {K} hK => by
    refine ⟨h.sc (Sc.of hK.fm (by decide)), ?_, ?_, ?_⟩
    · unfold CF; rw [hK 20 q (Or.inl (by decide))]; exact hf
    · unfold CA CG; rw [hK 21 q (Or.inl (by decide)), hK 22 q (Or.inl (by decide)), hK 23 q (Or.inl (by decide)), hK 24 q (Or.inl (by decide))]; exact hC
    · unfold SO; rw [hK 25 q (Or.inl (by decide))]; exact hS
  obtain ⟨J0, f1, f2, f3⟩ := c_fill (X := X) (d := e + 1) (L := L) (I := I) (f := 26) (i := q) (n := 16) (x := nI 0) rfl rfl (by decide) (by omega)
  have r0 : Rq [26, 27] q I J0 := Rq.rw f2 (by decide)
  obtain ⟨J, ⟨g1, g2⟩, g3⟩ := loop_z (F := fun j (J : A3 Int32) => v_X0_fewestSteps_15 X (e + 1) q (nI a) (dI (w 1 - 1) j) (J, L, ())) (P := fun j J => Rq [26, 27] q I J ∧ KI (J 26 q) w N ps kn lo dr j) (w 1 - 1) J0 ⟨r0, fun p hp hc => by
    have hb : cP p < 16 := cP_lt (by omega)
    have := (ef_fil (N := N) (ps := ps) (kn := kn) (lo := lo) (dr := dr) w1 0 hT p).1 hc
    rw [f3 _ hb, show (fil w N ps kn lo dr 0 p).2.1 = 0 by omega]⟩ (fun j J hj hP => by
    obtain ⟨p1, p2⟩ := hP
    generalize hm : w 1 - 2 - j = m
    have hdI : dI (w 1 - 1) j = nI m := by rw [← hm, show w 1 - 2 - j = w 1 - 1 - 1 - j by omega]; exact if_pos hj
    generalize hJ1 : upR J 27 q (va_cpy (J 26 q) (J 27 q) 0 0 16) = J1
    have r1 : Rq [26, 27] q I J1 := fun f i hfi => by
      rw [← p1 f i hfi, ← hJ1]
      rcases hfi with z | z
      · rw [uR_f _ _ (fun e => z (by rw [e]; decide))]
      · by_cases e : f = 27
        · subst e; exact uR_i _ _ z
        · rw [uR_f _ _ e]
    have k1 : KI (J1 27 q) w N ps kn lo dr j := fun p hp hc => by
      have hb : cP p < 16 := cP_lt (by omega)
      rw [← hJ1, uR_eq]
      unfold va_cpy
      rw [if_pos ⟨by omega, by omega⟩, show 0 + (cP p - 0) = cP p by omega]
      exact p2 p hp hc
    obtain ⟨J2, ⟨a1, a2, a3⟩, a4⟩ := loop_z (F := fun t (K : A3 Int32) => v_X0_fewestSteps_36 X (e + 1) q (nI a) (nI m) (nI t) (K, L, ())) (P := fun t K => Rq [26, 27] q I K ∧ K 27 q = J1 27 q ∧ ∀ p : Pl, p.1 < w 0 → cP p < t → (fil w N ps kn lo dr (j + 1) p).1 = true → K 26 q (cP p) = nI (fil w N ps kn lo dr (j + 1) p).2.1) 16 J1 ⟨r1, rfl, fun p _ hp => absurd hp (by omega)⟩ (fun t K ht hK => by
      obtain ⟨b1, b2, b3⟩ := hK
      obtain ⟨t1, t2, t3, t4⟩ := keep b1
      obtain ⟨p, hp8, rfl⟩ := cP_ex ht
      have ho := c_isOpen (X := X) (d := e + 1) (L := L) v t4 ht (show m < w 1 by omega) (by omega)
      rw [opF_cP hp8, show w 1 - 1 - m = j + 1 by omega] at ho
      have up : ∀ x, Rq [26, 27] q I (up3 K 26 q (cP p) x) ∧ up3 K 26 q (cP p) x 27 q = J1 27 q := fun x => ⟨b1.up (by decide), by rw [u3_f _ _ (by decide)]; exact b2⟩
      have old : ∀ x (p' : Pl), p'.1 < w 0 → cP p' < cP p → (fil w N ps kn lo dr (j + 1) p').1 = true → up3 K 26 q (cP p) x 26 q (cP p') = nI (fil w N ps kn lo dr (j + 1) p').2.1 := fun x p' z1 z2 z3 => by rw [u3_j _ _ (by omega)]; exact b3 p' z1 z2 z3
      cases hc : (fil w N ps kn lo dr (j + 1) p).1 with
      | false =>
        rw [hc] at ho
        refine ⟨up3 K 26 q (cP p) (nI 1000), ⟨(up _).1, (up _).2, fun p' z1 z2 z3 => ?_⟩, fun r hr => ?_⟩
        · by_cases ep : cP p' = cP p
          · have := cP_inj (by omega) hp8 ep
            rw [this, hc] at z3; cases z3
          · exact old _ p' z1 (by omega) z3
        · refine v_X0_fewestSteps_36.e X e _ _ _ _ K L r ?_
          simp (disch := omega) only [a_bi_i, a_bv_n, a_bl_l, a_bq_q, l_0, l_1, l_2, l_3, l_4, l_5, l_6, l_7, l_8, l_9, l_10, l_12, l_16, l_20, l_24, l_25, l_31, l_32, l_33, l_40, l_48, l_57, l_60, l_63, l_64, l_78, l_85, l_97, l_99, l_100, l_122, l_255, l_325, l_700, l_999, l_1000, l_1200, l_99999, l_100000, l_1000000, l_2000000000, l_N, n_add, n_mul, n_lt, n_out, n_div, n_dm, n_eq, n_toN, n_inN, n_ltN, n_nltN, n_neN, Nat.not_lt_zero, false_or, or_false, ite_y, ite_n, if_true, if_false, ite_tt, ite_ff, b_0, b_1, eq_self_iff_true, Bool.true_eq_false, Bool.false_eq_true, ho]
          exact hr
      | true =>
        rw [hc] at ho
        have hp0 : p.1 < w 0 := by
          by_cases z : p.1 < w 0
          · exact z
          · have := can_out (N := N) (ps := ps) (kn := kn) (lo := lo) (dr := dr) (j := j + 1) (l := p.2) z
            rw [show (p.1, p.2) = p from rfl, hc] at this; cases this
        have hch := c_cheapest (X := X) (d := e + 1) (L := L) t1 v t2 t3 t4 hp0 hm.symm (by omega) hc (by rw [b2]; exact k1) (by omega)
        refine ⟨up3 K 26 q (cP p) (nI (fil w N ps kn lo dr (j + 1) p).2.1), ⟨(up _).1, (up _).2, fun p' z1 z2 z3 => ?_⟩, fun r hr => ?_⟩
        · by_cases ep : cP p' = cP p
          · have := cP_inj (by omega) hp8 ep
            rw [this, u3_eq]
          · exact old _ p' z1 (by omega) z3
        · refine v_X0_fewestSteps_36.e X e _ _ _ _ K L r ?_
          simp (disch := omega) only [a_bi_i, a_bv_n, a_bl_l, a_bq_q, l_0, l_1, l_2, l_3, l_4, l_5, l_6, l_7, l_8, l_9, l_10, l_12, l_16, l_20, l_24, l_25, l_31, l_32, l_33, l_40, l_48, l_57, l_60, l_63, l_64, l_78, l_85, l_97, l_99, l_100, l_122, l_255, l_325, l_700, l_999, l_1000, l_1200, l_99999, l_100000, l_1000000, l_2000000000, l_N, n_add, n_mul, n_lt, n_out, n_div, n_dm, n_eq, n_toN, n_inN, n_ltN, n_nltN, n_neN, Nat.not_lt_zero, false_or, or_false, ite_y, ite_n, if_true, if_false, ite_tt, ite_ff, b_0, b_1, eq_self_iff_true, Bool.true_eq_false, Bool.false_eq_true, ho, hch]
          exact hr)
    refine ⟨J2, ⟨a1, fun p hp hc => a3 p hp (cP_lt (by omega)) hc⟩, fun r hr => ?_⟩
    rw [hdI]
    rw [← dI_s hj, hdI] at hr
    refine v_X0_fewestSteps_15.e X e _ _ _ J L r ?_
    simp (disch := omega) only [a_bi_i, a_bv_n, a_bl_l, a_bq_q, l_0, l_1, l_2, l_3, l_4, l_5, l_6, l_7, l_8, l_9, l_10, l_12, l_16, l_20, l_24, l_25, l_31, l_32, l_33, l_40, l_48, l_57, l_60, l_63, l_64, l_78, l_85, l_97, l_99, l_100, l_122, l_255, l_325, l_700, l_999, l_1000, l_1200, l_99999, l_100000, l_1000000, l_2000000000, l_N, n_add, n_mul, n_lt, n_out, n_div, n_dm, n_eq, n_toN, n_inN, n_ltN, n_nltN, n_neN, Nat.not_lt_zero, false_or, or_false, ite_y, ite_n, if_true, if_false, ite_tt, ite_ff, b_0, b_1, eq_self_iff_true, Bool.true_eq_false, Bool.false_eq_true, hJ1]
    refine a4 r (v_X0_fewestSteps_36.e X e _ _ _ _ J2 L r ?_)
    simp (disch := omega) only [a_bi_i, a_bv_n, a_bl_l, a_bq_q, l_0, l_1, l_2, l_3, l_4, l_5, l_6, l_7, l_8, l_9, l_10, l_12, l_16, l_20, l_24, l_25, l_31, l_32, l_33, l_40, l_48, l_57, l_60, l_63, l_64, l_78, l_85, l_97, l_99, l_100, l_122, l_255, l_325, l_700, l_999, l_1000, l_1200, l_99999, l_100000, l_1000000, l_2000000000, l_N, n_add, n_mul, n_lt, n_out, n_div, n_dm, n_eq, n_toN, n_inN, n_ltN, n_nltN, n_neN, Nat.not_lt_zero, false_or, or_false, ite_y, ite_n, if_true, if_false, ite_tt, ite_ff, b_0, b_1, eq_self_iff_true, Bool.true_eq_false, Bool.false_eq_true, l_cN, Nat.lt_irrefl]
    exact hr)
  obtain ⟨t1, t2, t3, t4⟩ := keep g1
  refine ⟨J, K_X0_fewestSteps.e X e _ _ I L _ ?_, g1⟩
  have h20 : J0 20 q 8 = nI (w 1) := by rw [r0 20 q (Or.inl (by decide))]; exact hf.1
  have s1 : nI (w 1) - nI 2 = dI (w 1 - 1) 0 := by
    unfold dI
    by_cases z : 0 < w 1 - 1
    · rw [if_pos z, n_sub (by omega), show w 1 - 1 - 1 - 0 = w 1 - 2 by omega]
    · rw [if_neg z, show w 1 = 1 by omega]; rfl
  simp (disch := omega) only [a_bi_i, a_bv_n, a_bl_l, a_bq_q, l_0, l_2, f1, h20, s1]
  refine g3 _ (v_X0_fewestSteps_15.e X e _ _ _ J L _ ?_)
  have hop := c_isOpen (X := X) (d := e + 1) (L := L) v t4 (show a < 16 by omega) hT (by omega)
  rw [show opF w N ps kn lo dr (w 1 - 1 - 0) a = (fil w N ps kn lo dr (w 1 - 1) (a, false)).1 from opF_cP (p := (a, false)) (by show a < 8; omega)] at hop
  rw [show dI (w 1 - 1) (w 1 - 1) = nN from if_neg (by omega)]
  simp (disch := omega) only [a_bi_i, a_bv_n, a_bl_l, a_bq_q, l_0, l_1, l_2, l_3, l_4, l_5, l_6, l_7, l_8, l_9, l_10, l_12, l_16, l_20, l_24, l_25, l_31, l_32, l_33, l_40, l_48, l_57, l_60, l_63, l_64, l_78, l_85, l_97, l_99, l_100, l_122, l_255, l_325, l_700, l_999, l_1000, l_1200, l_99999, l_100000, l_1000000, l_2000000000, l_N, n_add, n_mul, n_lt, n_out, n_div, n_dm, n_eq, n_toN, n_inN, n_ltN, n_nltN, n_neN, Nat.not_lt_zero, false_or, or_false, ite_y, ite_n, if_true, if_false, ite_tt, ite_ff, b_0, b_1, eq_self_iff_true, Bool.true_eq_false, Bool.false_eq_true, hop]
  cases hc : (fil w N ps kn lo dr (w 1 - 1) (a, false)).1 with
  | false => simp
  | true =>
    have := g2 (a, false) ha hc
    rw [show cP (a, false) = a from rfl] at this
    rw [this]; simp
theorem q_effort (h : TC I w) (v : Vw w) (a : Int32) : Both w (K_X10_effort X 15 a) (K_X11_effort X 15 a) I L := by
  obtain ⟨⟨h0, h1, h2, h3, h4, h5, h6, -⟩, -, vc, -⟩ := id v
  cases ha : inr a (w 0) with
  | false =>
    refine Both.pure (-2) (K_X10_effort.e X 14 a I L _ ?_) (fun J L2 h => K_X11_effort.e X 14 a J L2 _ ?_)
    · simp (disch := omega) only [c_hasCoach h v, ha, a_bi_i, a_bv_n, a_bl_l, a_bq_q, l_0, l_1, l_2, l_3, l_4, l_5, l_6, l_7, l_8, l_9, l_10, l_12, l_16, l_20, l_24, l_25, l_31, l_32, l_33, l_40, l_48, l_57, l_60, l_63, l_64, l_78, l_85, l_97, l_99, l_100, l_122, l_255, l_325, l_700, l_999, l_1000, l_1200, l_99999, l_100000, l_1000000, l_2000000000, l_N, n_add, n_mul, n_lt, n_out, n_div, n_dm, n_eq, n_toN, n_inN, n_ltN, n_nltN, n_neN, Nat.not_lt_zero, false_or, or_false, ite_y, ite_n, if_true, if_false, ite_tt, ite_ff, b_0, b_1, eq_self_iff_true, Bool.true_eq_false, Bool.false_eq_true]
    · simp (disch := omega) only [m_isCoach h v, ha, a_bi_i, a_bv_n, a_bl_l, a_bq_q, l_0, l_1, l_2, l_3, l_4, l_5, l_6, l_7, l_8, l_9, l_10, l_12, l_16, l_20, l_24, l_25, l_31, l_32, l_33, l_40, l_48, l_57, l_60, l_63, l_64, l_78, l_85, l_97, l_99, l_100, l_122, l_255, l_325, l_700, l_999, l_1000, l_1200, l_99999, l_100000, l_1000000, l_2000000000, l_N, n_add, n_mul, n_lt, n_out, n_div, n_dm, n_eq, n_toN, n_inN, n_ltN, n_nltN, n_neN, Nat.not_lt_zero, false_or, or_false, ite_y, ite_n, if_true, if_false, ite_tt, ite_ff, b_0, b_1, eq_self_iff_true, Bool.true_eq_false, Bool.false_eq_true]
  | true =>
    obtain ⟨c, hc, rfl⟩ := inr_ex (by omega) ha
    have hT : 0 < w 1 := (v.live (Or.inl (by omega))).2.2.1
    obtain ⟨J1, J, x, f1, f2, f3, f4, f5, f6, f7, f8⟩ := c_openSolve (X := X) (d := 14) (L := L) h v hT (by omega)
    obtain ⟨J', k1, k2⟩ := c_fewestSteps (X := X) (d := 14) (L := L) f4 v f5 f6 f7 hc hT (by omega)
    have hE := ef_fil (N := w 5) (ps := psA w) (kn := knA w) (lo := loB w) (dr := doB w) h1 (w 1 - 1) (by omega) (c, false)
    refine Both.mk (if (fil w (w 5) (psA w) (knA w) (loB w) (doB w) (w 1 - 1) (c, false)).1 = true then nI (fil w (w 5) (psA w) (knA w) (loB w) (doB w) (w 1 - 1) (c, false)).2.1 else nN) J' (K_X10_effort.e X 14 _ I L _ ?_) (f3.trans (Sc.of k2.fm (by decide))) (fun M L2 hM' => ?_)
    · simp (disch := omega) only [c_hasCoach h v, ha, f1, f2, k1, a_bi_i, a_bv_n, a_bl_l, a_bq_q, l_0, l_1, l_2, l_3, l_4, l_5, l_6, l_7, l_8, l_9, l_10, l_12, l_16, l_20, l_24, l_25, l_31, l_32, l_33, l_40, l_48, l_57, l_60, l_63, l_64, l_78, l_85, l_97, l_99, l_100, l_122, l_255, l_325, l_700, l_999, l_1000, l_1200, l_99999, l_100000, l_1000000, l_2000000000, l_N, n_add, n_mul, n_lt, n_out, n_div, n_dm, n_eq, n_toN, n_inN, n_ltN, n_nltN, n_neN, Nat.not_lt_zero, false_or, or_false, ite_y, ite_n, if_true, if_false, ite_tt, ite_ff, b_0, b_1, eq_self_iff_true, Bool.true_eq_false, Bool.false_eq_true]
    · obtain ⟨M', g1, g2, g3, g4, g5, g6⟩ := m_fillAsItIs (X := X) (d := 14) (L := L2) hM' v hT (by omega)
      have hc50 := (g6 (w 1 - 1) (by omega) (c, false) hc).2.1
      rw [show 16 * (w 1 - 1 - (w 1 - 1)) + rmP (c, false) = 2 * c by simp [rmP]] at hc50
      refine ⟨M', K_X11_effort.e X 14 _ M L2 _ ?_, g2⟩
      cases hcan : (fil w (w 5) (psA w) (knA w) (loB w) (doB w) (w 1 - 1) (c, false)).1 with
      | true =>
        have := hE.1 hcan
        simp (disch := omega) only [m_isCoach hM' v, ha, g1, hc50, a_bi_i, a_bv_n, a_bl_l, a_bq_q, l_0, l_1, l_2, l_3, l_4, l_5, l_6, l_7, l_8, l_9, l_10, l_12, l_16, l_20, l_24, l_25, l_31, l_32, l_33, l_40, l_48, l_57, l_60, l_63, l_64, l_78, l_85, l_97, l_99, l_100, l_122, l_255, l_325, l_700, l_999, l_1000, l_1200, l_99999, l_100000, l_1000000, l_2000000000, l_N, n_add, n_mul, n_lt, n_out, n_div, n_dm, n_eq, n_toN, n_inN, n_ltN, n_nltN, n_neN, Nat.not_lt_zero, false_or, or_false, ite_y, ite_n, if_true, if_false, ite_tt, ite_ff, b_0, b_1, eq_self_iff_true, Bool.true_eq_false, Bool.false_eq_true]
      | false =>
        have := hE.2 hcan
        simp (disch := omega) only [m_isCoach hM' v, ha, g1, hc50, a_bi_i, a_bv_n, a_bl_l, a_bq_q, l_0, l_1, l_2, l_3, l_4, l_5, l_6, l_7, l_8, l_9, l_10, l_12, l_16, l_20, l_24, l_25, l_31, l_32, l_33, l_40, l_48, l_57, l_60, l_63, l_64, l_78, l_85, l_97, l_99, l_100, l_122, l_255, l_325, l_700, l_999, l_1000, l_1200, l_99999, l_100000, l_1000000, l_2000000000, l_N, n_add, n_mul, n_lt, n_out, n_div, n_dm, n_eq, n_toN, n_inN, n_ltN, n_nltN, n_neN, Nat.not_lt_zero, false_or, or_false, ite_y, ite_n, if_true, if_false, ite_tt, ite_ff, b_0, b_1, eq_self_iff_true, Bool.true_eq_false, Bool.false_eq_true, this, Nat.lt_irrefl]
end
