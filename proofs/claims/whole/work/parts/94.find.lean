/-! the reference's search of rows -/
section
variable {X : AX} {d : Nat} {I0 I J : A3 Int32} {L : A3 Int64} {w : TW}
def RT (I0 I : A3 Int32) (n : Nat) : Prop := Fm [40, 47, 48, 49, 50, 51, 54] I0 I ∧ (∀ j, j ≠ 17 → j ≠ 26 → I 40 0 j = I0 40 0 j) ∧ I 40 0 26 = nI n
def RS (I0 I : A3 Int32) (n : Nat) (r : Nat → Nat) : Prop := RT I0 I n ∧ ∀ t, t < n → I 54 0 t = nI (r t)
def FD (X : AX) (d : Nat) (L : A3 Int64) (I0 : A3 Int32) (n : Nat) (r : Nat → Nat) (I : A3 Int32) : Prop := ∃ J, v_X11_findRow_40 X d (I, L, ()) = some (some (aI (nI 1)), (J, L, ())) ∧ RS I0 J n r
def GO (X : AX) (d : Nat) (L : A3 Int64) (I0 : A3 Int32) (n : Nat) (r : Nat → Nat) (I : A3 Int32) : Prop := ∃ J, RS I0 J n r ∧ OLe (v_X11_findRow_40 X d (J, L, ())) (v_X11_findRow_40 X d (I, L, ()))
def EN (X : AX) (d : Nat) (L : A3 Int64) (I0 : A3 Int32) (n : Nat) (I : A3 Int32) : Prop := ∃ J, RT I0 J n ∧ OLe (v_X11_findRow_9 X d (J, L, ())) (v_X11_findRow_40 X d (I, L, ()))
theorem FD.le {n : Nat} {r : Nat → Nat} (h : FD X d L I0 n r J) (ho : OLe (v_X11_findRow_40 X d (J, L, ())) (v_X11_findRow_40 X d (I, L, ()))) : FD X d L I0 n r I := by
  obtain ⟨K, a, b⟩ := h
  exact ⟨K, ho _ a, b⟩
theorem GO.le {n : Nat} {r : Nat → Nat} (h : GO X d L I0 n r J) (ho : OLe (v_X11_findRow_40 X d (J, L, ())) (v_X11_findRow_40 X d (I, L, ()))) : GO X d L I0 n r I := by
  obtain ⟨K, a, b⟩ := h
  exact ⟨K, a, fun s hs => ho s (b s hs)⟩
theorem EN.le {n : Nat} (h : EN X d L I0 n J) (ho : OLe (v_X11_findRow_40 X d (J, L, ())) (v_X11_findRow_40 X d (I, L, ()))) : EN X d L I0 n I := by
  obtain ⟨K, a, b⟩ := h
  exact ⟨K, a, fun s hs => ho s (b s hs)⟩
theorem RT.tm {n : Nat} (h : RT I0 I n) (t : TM I0 w) : TM I w := t.fm h.1 (by decide)
theorem RT.qm {n : Nat} (h : RT I0 I n) (q : QM I0 (loB w) (doB w)) : QM I (loB w) (doB w) := by
  unfold QM
  rw [h.2.1 18 (by decide) (by decide), h.2.1 19 (by decide) (by decide)]
  exact q
theorem RT.step {n : Nat} (h : RT I0 I n) (hF : Fm [40, 47, 48, 49, 50, 51] I J) (h4 : ∀ j, j ≠ 17 → J 40 0 j = I 40 0 j) : RT I0 J n :=
  ⟨h.1.trans (hF.mono (by decide)), fun j a b => by rw [h4 j a]; exact h.2.1 j a b, by rw [h4 26 (by decide)]; exact h.2.2⟩
/-- a row that leaves nobody ends the search -/
theorem f_yes {n : Nat} {r : Nat → Nat} (h : TM I0 w) (v : Vw w) (h5 : 0 < w 5) (hQ : QM I0 (loB w) (doB w)) (hd : 7 ≤ d) (hn : n ≤ 3) (hr : ∀ t, t < n → r t < 2 * w 0) (hS : RS I0 I n r) (hc : cAl w n r = true) : FD X d L I0 n r I := by
  obtain ⟨J, a1, a2, a3⟩ := m_catchesAll (X := X) (d := d) (L := L) (hS.1.tm h) v h5 hn hr (hS.1.qm hQ) hS.1.2.2 hS.2 hd
  rw [hc] at a1
  have a1' : K_X11_catchesAll X d (I, L, ()) = some (some (aI (nI 1)), (J, L, ())) := a1
  refine ⟨J, v_X11_findRow_40.e X d I L _ ?_, hS.1.step a2 a3, fun t ht => by rw [a2 54 (by decide)]; exact hS.2 t ht⟩
  have : ¬ (1 = 0) := by decide
  simp (disch := omega) only [a_bi_i, a_bv_n, a_bl_l, a_bq_q, l_0, l_1, l_2, l_3, l_4, l_5, l_6, l_7, l_8, l_9, l_10, l_12, l_16, l_20, l_24, l_25, l_31, l_32, l_33, l_40, l_48, l_57, l_60, l_63, l_64, l_78, l_85, l_97, l_99, l_100, l_122, l_255, l_325, l_700, l_999, l_1000, l_1200, l_99999, l_100000, l_1000000, l_2000000000, l_N, n_add, n_mul, n_lt, n_out, n_div, n_dm, n_eq, n_toN, n_inN, n_ltN, n_nltN, n_neN, Nat.not_lt_zero, false_or, or_false, ite_y, ite_n, if_true, if_false, ite_tt, ite_ff, b_0, b_1, eq_self_iff_true, Bool.true_eq_false, Bool.false_eq_true, a1', this]
theorem f_next {n k : Nat} {r r' : Nat → Nat} (h : TM I0 w) (v : Vw w) (h5 : 0 < w 5) (hQ : QM I0 (loB w) (doB w)) (hd : 7 ≤ d) (hn : n ≤ 3) (hr : ∀ t, t < n → r t < 2 * w 0) (hS : RS I0 I n r) (hc : cAl w n r = false) (hk : k < n) (hkr : r k + 1 < 2 * w 0) (he : ∀ t, k < t → t < n → r t + 1 = 2 * w 0) (h' : ∀ t, t < n → r' t = if t < k then r t else r k + 1) : GO X d L I0 n r' I := by
  have hw0 : 2 ≤ w 0 := (v.live (Or.inr (Or.inr (Or.inl h5)))).2.1
  obtain ⟨J, a1, a2, a3⟩ := m_catchesAll (X := X) (d := d) (L := L) (hS.1.tm h) v h5 hn hr (hS.1.qm hQ) hS.1.2.2 hS.2 hd
  rw [hc] at a1
  have a1' : K_X11_catchesAll X d (I, L, ()) = some (some (aI (nI 0)), (J, L, ())) := a1
  have rJ := hS.1.step a2 a3
  obtain ⟨K, b1, b2, b3, b4⟩ := m_next_yes (X := X) (d := d) (L := L) (I := J) (n := n) (k := k) (r := r) (rJ.tm h) v hw0 hn rJ.2.2 hr (fun t ht => by rw [a2 54 (by decide)]; exact hS.2 t ht) hk (by omega) (fun t q1 q2 => by have := he t q1 q2; omega) (by omega)
  refine ⟨K, ⟨⟨rJ.1.trans (b2.mono (by decide)), fun j q1 q2 => by rw [b2 40 (by decide)]; exact rJ.2.1 j q1 q2, by rw [b2 40 (by decide)]; exact rJ.2.2⟩, fun t ht => ?_⟩, fun s hs => v_X11_findRow_40.e X d I L _ ?_⟩
  · rw [h' t ht]
    split
    · exact b3 t (by assumption)
    · exact b4 t (by omega) ht
  · have : ¬ (1 = 0) := by decide
    simp (disch := omega) only [a_bi_i, a_bv_n, a_bl_l, a_bq_q, l_0, l_1, l_2, l_3, l_4, l_5, l_6, l_7, l_8, l_9, l_10, l_12, l_16, l_20, l_24, l_25, l_31, l_32, l_33, l_40, l_48, l_57, l_60, l_63, l_64, l_78, l_85, l_97, l_99, l_100, l_122, l_255, l_325, l_700, l_999, l_1000, l_1200, l_99999, l_100000, l_1000000, l_2000000000, l_N, n_add, n_mul, n_lt, n_out, n_div, n_dm, n_eq, n_toN, n_inN, n_ltN, n_nltN, n_neN, Nat.not_lt_zero, false_or, or_false, ite_y, ite_n, if_true, if_false, ite_tt, ite_ff, b_0, b_1, eq_self_iff_true, Bool.true_eq_false, Bool.false_eq_true, a1', b1, this]
    exact hs
theorem f_end {n : Nat} {r : Nat → Nat} (h : TM I0 w) (v : Vw w) (h5 : 0 < w 5) (hQ : QM I0 (loB w) (doB w)) (hd : 7 ≤ d) (hn1 : 1 ≤ n) (hn : n ≤ 3) (hr : ∀ t, t < n → r t < 2 * w 0) (hS : RS I0 I n r) (hc : cAl w n r = false) (he : ∀ t, t < n → r t + 1 = 2 * w 0) : EN X d L I0 (n + 1) I := by
  have hw0 : 2 ≤ w 0 := (v.live (Or.inr (Or.inr (Or.inl h5)))).2.1
  obtain ⟨J, a1, a2, a3⟩ := m_catchesAll (X := X) (d := d) (L := L) (hS.1.tm h) v h5 hn hr (hS.1.qm hQ) hS.1.2.2 hS.2 hd
  rw [hc] at a1
  have a1' : K_X11_catchesAll X d (I, L, ()) = some (some (aI (nI 0)), (J, L, ())) := a1
  have rJ := hS.1.step a2 a3
  have b1 := m_next_no (X := X) (d := d) (L := L) (I := J) (n := n) (r := r) (rJ.tm h) v hw0 hn1 hn rJ.2.2 hr (fun t ht => by rw [a2 54 (by decide)]; exact hS.2 t ht) (fun t ht => by have := he t ht; omega) (by omega)
  refine ⟨up3 J 40 0 26 (nI (n + 1)), ⟨rJ.1.up (by decide), fun j q1 q2 => by rw [u3_j _ _ q2]; exact rJ.2.1 j q1 q2, u3_eq _ _ _ _ _⟩, fun s hs => v_X11_findRow_40.e X d I L _ ?_⟩
  simp (disch := omega) only [a_bi_i, a_bv_n, a_bl_l, a_bq_q, l_0, l_1, l_2, l_3, l_4, l_5, l_6, l_7, l_8, l_9, l_10, l_12, l_16, l_20, l_24, l_25, l_31, l_32, l_33, l_40, l_48, l_57, l_60, l_63, l_64, l_78, l_85, l_97, l_99, l_100, l_122, l_255, l_325, l_700, l_999, l_1000, l_1200, l_99999, l_100000, l_1000000, l_2000000000, l_N, n_add, n_mul, n_lt, n_out, n_div, n_dm, n_eq, n_toN, n_inN, n_ltN, n_nltN, n_neN, Nat.not_lt_zero, false_or, or_false, ite_y, ite_n, if_true, if_false, ite_tt, ite_ff, b_0, b_1, eq_self_iff_true, Bool.true_eq_false, Bool.false_eq_true, a1', b1, rJ.2.2]
  exact hs
theorem f_start {n : Nat} (hn : n ≤ 3) (hS : RT I0 I n) : ∃ J, RS I0 J n (fun _ => 0) ∧ OLe (v_X11_findRow_40 X d (J, L, ())) (v_X11_findRow_9 X d (I, L, ())) := by
  obtain ⟨J, ⟨g1, g2, g3⟩, g4⟩ := loop_z (F := fun k (K : A3 Int32) => v_X11_findRow_19 X d (nI k) (K, L, ())) (P := fun k K => Fm [54] I K ∧ K 40 = I 40 ∧ ∀ t, t < k → K 54 0 t = nI 0) n I ⟨Fm.refl, rfl, fun t ht => by omega⟩ (fun k K hk hP => by
    obtain ⟨p1, p2, p3⟩ := hP
    refine ⟨up3 K 54 0 k (nI 0), ⟨p1.up (by decide), by rw [u3_f _ _ (by decide)]; exact p2, fun t ht => ?_⟩, fun s hs => v_X11_findRow_19.e X d _ K L _ ?_⟩
    · by_cases e : t = k
      · subst e; exact u3_eq _ _ _ _ _
      · rw [u3_j _ _ e]; exact p3 t (by omega)
    · rw [p2, hS.2.2]
      simp (disch := omega) only [a_bi_i, a_bv_n, a_bl_l, a_bq_q, l_0, l_1, l_2, l_3, l_4, l_5, l_6, l_7, l_8, l_9, l_10, l_12, l_16, l_20, l_24, l_25, l_31, l_32, l_33, l_40, l_48, l_57, l_60, l_63, l_64, l_78, l_85, l_97, l_99, l_100, l_122, l_255, l_325, l_700, l_999, l_1000, l_1200, l_99999, l_100000, l_1000000, l_2000000000, l_N, n_add, n_mul, n_lt, n_out, n_div, n_dm, n_eq, n_toN, n_inN, n_ltN, n_nltN, n_neN, Nat.not_lt_zero, false_or, or_false, ite_y, ite_n, if_true, if_false, ite_tt, ite_ff, b_0, b_1, eq_self_iff_true, Bool.true_eq_false, Bool.false_eq_true]
      exact hs)
  refine ⟨J, ⟨⟨hS.1.trans (g1.mono (by decide)), fun j a b => by rw [g2]; exact hS.2.1 j a b, by rw [g2]; exact hS.2.2⟩, g3⟩, fun s hs => v_X11_findRow_9.e X d I L _ ?_⟩
  rw [hS.2.2]
  have : ¬ 3 < n := by omega
  simp (disch := omega) only [a_bi_i, a_bv_n, a_bl_l, a_bq_q, l_0, l_1, l_2, l_3, l_4, l_5, l_6, l_7, l_8, l_9, l_10, l_12, l_16, l_20, l_24, l_25, l_31, l_32, l_33, l_40, l_48, l_57, l_60, l_63, l_64, l_78, l_85, l_97, l_99, l_100, l_122, l_255, l_325, l_700, l_999, l_1000, l_1200, l_99999, l_100000, l_1000000, l_2000000000, l_N, n_add, n_mul, n_lt, n_out, n_div, n_dm, n_eq, n_toN, n_inN, n_ltN, n_nltN, n_neN, Nat.not_lt_zero, false_or, or_false, ite_y, ite_n, if_true, if_false, ite_tt, ite_ff, b_0, b_1, eq_self_iff_true, Bool.true_eq_false, Bool.false_eq_true, this]
  refine g4 _ (v_X11_findRow_19.e X d _ J L _ ?_)
  rw [g2, hS.2.2]
  simp (disch := omega) only [a_bi_i, a_bv_n, a_bl_l, a_bq_q, l_0, l_1, l_2, l_3, l_4, l_5, l_6, l_7, l_8, l_9, l_10, l_12, l_16, l_20, l_24, l_25, l_31, l_32, l_33, l_40, l_48, l_57, l_60, l_63, l_64, l_78, l_85, l_97, l_99, l_100, l_122, l_255, l_325, l_700, l_999, l_1000, l_1200, l_99999, l_100000, l_1000000, l_2000000000, l_N, n_add, n_mul, n_lt, n_out, n_div, n_dm, n_eq, n_toN, n_inN, n_ltN, n_nltN, n_neN, Nat.not_lt_zero, false_or, or_false, ite_y, ite_n, if_true, if_false, ite_tt, ite_ff, b_0, b_1, eq_self_iff_true, Bool.true_eq_false, Bool.false_eq_true, Nat.lt_irrefl]
  exact hs
theorem f_over (hS : RT I0 I 4) : v_X11_findRow_9 X d (I, L, ()) = some (some (aI (nI 0)), (I, L, ())) := by
  refine v_X11_findRow_9.e X d I L _ ?_
  rw [hS.2.2]
  have : 3 < 4 := by decide
  simp (disch := omega) only [a_bi_i, a_bv_n, a_bl_l, a_bq_q, l_0, l_1, l_2, l_3, l_4, l_5, l_6, l_7, l_8, l_9, l_10, l_12, l_16, l_20, l_24, l_25, l_31, l_32, l_33, l_40, l_48, l_57, l_60, l_63, l_64, l_78, l_85, l_97, l_99, l_100, l_122, l_255, l_325, l_700, l_999, l_1000, l_1200, l_99999, l_100000, l_1000000, l_2000000000, l_N, n_add, n_mul, n_lt, n_out, n_div, n_dm, n_eq, n_toN, n_inN, n_ltN, n_nltN, n_neN, Nat.not_lt_zero, false_or, or_false, ite_y, ite_n, if_true, if_false, ite_tt, ite_ff, b_0, b_1, eq_self_iff_true, Bool.true_eq_false, Bool.false_eq_true]
/-- one level of a nested search -/
theorem lev {B : Nat} {S : Nat → A3 Int32 → Prop} {p : Nat → Bool} {Fd : Nat → A3 Int32 → Prop} {Nx : A3 Int32 → Prop} (hy : ∀ i I, i < B → S i I → p i = true → Fd i I) (hn : ∀ i I, i + 1 < B → S i I → p i = false → ∃ J, S (i + 1) J ∧ (∀ x, Fd x J → Fd x I) ∧ (Nx J → Nx I)) (he : ∀ i I, i + 1 = B → S i I → p i = false → Nx I) : ∀ k i I, i + k + 1 = B → S i I → (∀ x, fndF p (k + 1) i = some x → Fd x I) ∧ (fndF p (k + 1) i = none → Nx I) := by
  intro k
  induction k with
  | zero =>
    intro i I hi hS
    cases hp : p i with
    | true =>
      have e : fndF p (0 + 1) i = some i := by unfold fndF; rw [if_pos hp]
      rw [e]
      exact ⟨fun x hx => by cases hx; exact hy i I (by omega) hS hp, fun z => by cases z⟩
    | false =>
      have e : fndF p (0 + 1) i = none := by unfold fndF; rw [if_neg (by rw [hp]; decide)]; rfl
      rw [e]
      exact ⟨(fun x hx => (by cases hx)), fun _ => he i I (by omega) hS hp⟩
  | succ k ih =>
    intro i I hi hS
    cases hp : p i with
    | true =>
      have e : fndF p (k + 1 + 1) i = some i := by unfold fndF; rw [if_pos hp]
      rw [e]
      exact ⟨fun x hx => by cases hx; exact hy i I (by omega) hS hp, fun z => by cases z⟩
    | false =>
      have e : fndF p (k + 1 + 1) i = fndF p (k + 1) (i + 1) := by rw [fndF, if_neg (by rw [hp]; decide)]
      rw [e]
      obtain ⟨J, j1, j2, j3⟩ := hn i I (by omega) hS hp
      obtain ⟨a1, a2⟩ := ih (i + 1) J (by omega) j1
      exact ⟨fun x hx => j2 x (a1 x hx), fun z => j3 (a2 z)⟩
theorem all1 {P : Nat → Prop} (h0 : P 0) : ∀ t, t < 1 → P t := fun t ht => by
  obtain rfl : t = 0 := by omega
  exact h0
theorem all2 {P : Nat → Prop} (h0 : P 0) (h1 : P 1) : ∀ t, t < 2 → P t := fun t ht => by
  rcases (show t = 0 ∨ t = 1 by omega) with rfl | rfl
  · exact h0
  · exact h1
theorem all3 {P : Nat → Prop} (h0 : P 0) (h1 : P 1) (h2 : P 2) : ∀ t, t < 3 → P t := fun t ht => by
  rcases (show t = 0 ∨ t = 1 ∨ t = 2 by omega) with rfl | rfl | rfl
  · exact h0
  · exact h1
  · exact h2
theorem RS.cg {n : Nat} {r r' : Nat → Nat} (h : RS I0 I n r) (e : ∀ t, t < n → r' t = r t) : RS I0 I n r' := ⟨h.1, fun t ht => by rw [e t ht]; exact h.2 t ht⟩
end
