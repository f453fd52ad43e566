/-! image, back -/
def tf1 (I : A3 Int32) (i a : Nat) : A3 Int32 := upR I 6 i (va_cpy (I 6 a) (I 6 i) 0 0 8)
def tf2 (I : A3 Int32) (i a : Nat) : A3 Int32 := upR (tf1 I i a) 7 i (va_cpy (tf1 I i a 7 a) (tf1 I i a 7 i) 0 0 24)
def tf3 (I : A3 Int32) (i a : Nat) : A3 Int32 := upR (tf2 I i a) 8 i (va_cpy (tf2 I i a 8 a) (tf2 I i a 8 i) 0 0 15)
def tf4 (I : A3 Int32) (i a : Nat) : A3 Int32 := upR (tf3 I i a) 9 i (va_cpy (tf3 I i a 9 a) (tf3 I i a 9 i) 0 0 30)
def tf5 (I : A3 Int32) (i a : Nat) : A3 Int32 := upR (tf4 I i a) 10 i (va_cpy (tf4 I i a 10 a) (tf4 I i a 10 i) 0 0 7)
def tf6 (I : A3 Int32) (i a : Nat) : A3 Int32 := upR (tf5 I i a) 11 i (va_cpy (tf5 I i a 11 a) (tf5 I i a 11 i) 0 0 180)
def tf7 (I : A3 Int32) (i a : Nat) : A3 Int32 := up3 (tf6 I i a) 5 i 6 (tf6 I i a 5 a 6)
theorem cpy0 {α : Type} {f g : Nat → α} {n j : Nat} (h : j < n) : va_cpy f g 0 0 n j = f j := by
  unfold va_cpy
  rw [if_pos (by omega), show 0 + (j - 0) = j by omega]
section
variable {X : AX} {d : Nat} {I J : A3 Int32} {L L' : A3 Int64} {w : TW} {e : CE} {im : TI} {n : Nat} {b : Nat → Int8} {t : TS}
theorem c_takeF {i a : Nat} (hd : 2 ≤ d) : K_X9_takeFrom X d i a (I, L, ()) = some (none, (tf7 I i a, L, ())) := by
  obtain ⟨g, rfl⟩ : ∃ g, d = g + 2 := ⟨d - 2, by omega⟩
  exact K_X9_takeFrom.e X g i a I L _ rfl
theorem tf7_off {i a f q : Nat} (h : (f < 5 ∨ 11 < f) ∨ q ≠ i) : tf7 I i a f q = I f q := by
  have r : ∀ (K : A3 Int32) (f0 : Nat) (g : Nat → Int32), 5 ≤ f0 → f0 ≤ 11 → upR K f0 i g f q = K f q := fun K f0 g h1 h2 => by
    by_cases z : f = f0
    · subst z; exact uR_i _ _ (by omega)
    · rw [uR_f _ _ z]
  have r3 : ∀ (K : A3 Int32) (x : Int32), up3 K 5 i 6 x f q = K f q := fun K x => by
    by_cases z : f = 5
    · subst z; exact u3_i _ _ (by omega)
    · rw [u3_f _ _ z]
  unfold tf7 tf6 tf5 tf4 tf3 tf2 tf1
  rw [r3, r _ 11 _ (by decide) (by decide), r _ 10 _ (by decide) (by decide), r _ 9 _ (by decide) (by decide), r _ 8 _ (by decide) (by decide), r _ 7 _ (by decide) (by decide), r _ 6 _ (by decide) (by decide)]
theorem tf1_f {i a f : Nat} (h : f ≠ 6) : tf1 I i a f = I f := uR_f _ _ h
theorem tf2_f {i a f : Nat} (h : f ≠ 6) (h7 : f ≠ 7) : tf2 I i a f = I f := by unfold tf2; rw [uR_f _ _ h7]; exact tf1_f h
theorem tf3_f {i a f : Nat} (h : f ≠ 6) (h7 : f ≠ 7) (h8 : f ≠ 8) : tf3 I i a f = I f := by unfold tf3; rw [uR_f _ _ h8]; exact tf2_f h h7
theorem tf4_f {i a f : Nat} (h : f ≠ 6) (h7 : f ≠ 7) (h8 : f ≠ 8) (h9 : f ≠ 9) : tf4 I i a f = I f := by unfold tf4; rw [uR_f _ _ h9]; exact tf3_f h h7 h8
theorem tf5_f {i a f : Nat} (h : f ≠ 6) (h7 : f ≠ 7) (h8 : f ≠ 8) (h9 : f ≠ 9) (h10 : f ≠ 10) : tf5 I i a f = I f := by unfold tf5; rw [uR_f _ _ h10]; exact tf4_f h h7 h8 h9
theorem tf6_f {i a f : Nat} (h : f ≠ 6) (h7 : f ≠ 7) (h8 : f ≠ 8) (h9 : f ≠ 9) (h10 : f ≠ 10) (h11 : f ≠ 11) : tf6 I i a f = I f := by unfold tf6; rw [uR_f _ _ h11]; exact tf5_f h h7 h8 h9 h10
theorem tf7_5 {i a j : Nat} (hj : j ≠ 6) : tf7 I i a 5 i j = I 5 i j := by
  unfold tf7
  rw [u3_j _ _ hj, tf6_f (by decide) (by decide) (by decide) (by decide) (by decide) (by decide)]
theorem tf7_q {i a : Nat} (h8 : w 8 ≤ 60) (h : TQ I a w e) : TQ (tf7 I i a) i w e := by
  obtain ⟨⟨a1, a2, a3, a4, a5⟩, a6, a7⟩ := h
  have e6 : ∀ f, f ≠ 5 → tf7 I i a f = tf6 I i a f := fun f hf => u3_f _ _ hf
  refine ⟨⟨fun j hj => ?_, fun j hj => ?_, fun j hj => ?_, fun j hj => ?_, fun j hj => ?_⟩, ?_, fun k hk => ?_⟩
  · rw [e6 6 (by decide)]
    unfold tf6 tf5 tf4 tf3 tf2 tf1
    rw [uR_f _ _ (by decide), uR_f _ _ (by decide), uR_f _ _ (by decide), uR_f _ _ (by decide), uR_f _ _ (by decide), uR_eq, cpy0 hj]; exact a1 j hj
  · rw [e6 7 (by decide)]
    unfold tf6 tf5 tf4 tf3 tf2
    rw [uR_f _ _ (by decide), uR_f _ _ (by decide), uR_f _ _ (by decide), uR_f _ _ (by decide), uR_eq, cpy0 hj, tf1_f (by decide)]; exact a2 j hj
  · rw [e6 8 (by decide)]
    unfold tf6 tf5 tf4 tf3
    rw [uR_f _ _ (by decide), uR_f _ _ (by decide), uR_f _ _ (by decide), uR_eq, cpy0 hj, tf2_f (by decide) (by decide)]; exact a3 j hj
  · rw [e6 9 (by decide)]
    unfold tf6 tf5 tf4
    rw [uR_f _ _ (by decide), uR_f _ _ (by decide), uR_eq, cpy0 hj, tf3_f (by decide) (by decide) (by decide)]; exact a4 j hj
  · rw [e6 10 (by decide)]
    unfold tf6 tf5
    rw [uR_f _ _ (by decide), uR_eq, cpy0 hj, tf4_f (by decide) (by decide) (by decide) (by decide)]; exact a5 j hj
  · unfold tf7
    rw [u3_eq, tf6_f (by decide) (by decide) (by decide) (by decide) (by decide) (by decide)]; exact a6
  · rw [e6 11 (by decide)]
    unfold tf6
    rw [uR_eq, cpy0 (by omega), cpy0 (by omega), cpy0 (by omega), tf5_f (by decide) (by decide) (by decide) (by decide) (by decide)]
    exact a7 k hk
theorem MRo.eq {g g' : Nat → Int32} (h : MRo g w e) (h8 : w 8 ≤ 60) (hg : ∀ j, j < 325 → g' j = g j) : MRo g' w e := by
  refine ⟨fun j hj => by rw [hg j (by omega)]; exact h.1 j hj, fun k hk => ?_⟩
  have := h.2 k hk
  rw [hg _ (by omega), hg _ (by omega), hg _ (by omega), hg _ (by omega)]
  exact this
theorem c_forget (hd : 1 ≤ d) : K_X3_forget X d (I, L, ()) = some (none, (up3 I 28 0 7 (nI 0), L, ())) := by
  obtain ⟨g, rfl⟩ : ∃ g, d = g + 1 := ⟨d - 1, by omega⟩
  exact K_X3_forget.e X g I L _ rfl
theorem m_in3 {a : Int32} (hd : 1 ≤ d) : K_X11_in X d a.toInt64 (0 : Int64) (2 : Int64) (I, L, ()) = some (some (aI (bI (inr a 3))), (I, L, ())) := by
  rw [m_in hd, inL_k (n := 3) (by decide) rfl]
/-- everything but the trains of the class and the reference's rows -/
theorem RB.img {w' : TW} {e' : CE} {im' : TI} (h : RB I L w e im n b t) (hf : ∀ f, f ∈ KPL → (f < 5 ∨ 11 < f) → f ≠ 41 → f ≠ 42 → f ≠ 43 → J f = I f) (h40 : J 40 = I 40) (hT : TQ J 0 w' e') (hM : MRo (J 41 0) w' e') (hV : Vw w') (hE : Ve w' e') (hI : IM J im') : RB J L w' e' im' n b t := by
  obtain ⟨a1, a2, a3, a4, a5, a6, a7, a8, a9, a10⟩ := h
  refine ⟨hT, hM, hV, hE, hI, a6.fams (hf 1 (by decide) (by decide) (by decide) (by decide) (by decide)) (hf 2 (by decide) (by decide) (by decide) (by decide) (by decide)) (hf 44 (by decide) (by decide) (by decide) (by decide) (by decide)) (by rw [h40]), ?_, ?_, ?_, a10⟩
  · unfold FL
    rw [h40, hf 3 (by decide) (by decide) (by decide) (by decide) (by decide)]; exact a7
  · unfold SC
    rw [hf 32 (by decide) (by decide) (by decide) (by decide) (by decide)]; exact a8
  · unfold SM
    rw [hf 59 (by decide) (by decide) (by decide) (by decide) (by decide), hf 60 (by decide) (by decide) (by decide) (by decide) (by decide)]; exact a9
theorem g_image (hR : Rel I L) (a : Int32) : Good (K_X10_image X 15 a) (K_X11_image X 15 a) I L := by
  obtain ⟨w, e, im, n, b, t, h, hh⟩ := id hR
  cases ha : inr a 3 with
  | false =>
    refine good_pure hR (-2) (K_X10_image.e X 14 a I L _ ?_) (K_X11_image.e X 14 a I L _ ?_)
    · rcases inr_no ha with c | c
      · simp only [l_0, l_1, l_2, l_3, l_4, l_5, l_6, l_7, l_8, l_9, l_10, l_12, l_16, l_20, l_24, l_25, l_31, l_32, l_33, l_40, l_48, l_57, l_60, l_63, l_64, l_78, l_85, l_97, l_99, l_100, l_122, l_255, l_325, l_700, l_999, l_1000, l_1200, l_99999, l_100000, l_1000000, l_2000000000, l_N, c, if_true]
      · simp only [l_0, l_1, l_2, l_3, l_4, l_5, l_6, l_7, l_8, l_9, l_10, l_12, l_16, l_20, l_24, l_25, l_31, l_32, l_33, l_40, l_48, l_57, l_60, l_63, l_64, l_78, l_85, l_97, l_99, l_100, l_122, l_255, l_325, l_700, l_999, l_1000, l_1200, l_99999, l_100000, l_1000000, l_2000000000, l_N, c, if_false]
        split <;> rfl
    · simp (disch := omega) only [m_in3, ha, a_bi_i, a_bv_n, a_bl_l, a_bq_q, l_0, l_1, l_2, l_3, l_4, l_5, l_6, l_7, l_8, l_9, l_10, l_12, l_16, l_20, l_24, l_25, l_31, l_32, l_33, l_40, l_48, l_57, l_60, l_63, l_64, l_78, l_85, l_97, l_99, l_100, l_122, l_255, l_325, l_700, l_999, l_1000, l_1200, l_99999, l_100000, l_1000000, l_2000000000, l_N, n_add, n_mul, n_lt, n_out, n_div, n_dm, n_eq, n_toN, n_inN, n_ltN, n_nltN, n_neN, Nat.not_lt_zero, false_or, or_false, ite_y, ite_n, if_true, if_false, ite_tt, ite_ff, b_0, b_1, eq_self_iff_true, Bool.true_eq_false, Bool.false_eq_true]
  | true =>
    obtain ⟨k, hk, rfl⟩ := inr_ex (by omega) ha
    obtain ⟨a1, a2, a3, a4, a5, a6, a7, a8, a9, a10⟩ := id h
    have w8 : w 8 ≤ 60 := a3.1.2.2.2.2.2.2.2.2
    generalize hI1 : up3 (tf7 I (k + 2) 0) 5 (k + 2) 7 (nI 1) = I1
    have off : ∀ f q, ((f < 5 ∨ 11 < f) ∨ q ≠ k + 2) → I1 f q = I f q := fun f q hq => by
      rw [← hI1]
      by_cases z : f = 5
      · subst z; rw [u3_i _ _ (by omega)]; exact tf7_off hq
      · rw [u3_f _ _ z]; exact tf7_off hq
    have offF : ∀ f, (f < 5 ∨ 11 < f) → I1 f = I f := fun f hf => funext fun q => off f q (Or.inl hf)
    obtain ⟨J, ⟨g1, g2, g3⟩, g4⟩ := loop_z (F := fun j (K : A3 Int32) => v_X11_image_17 X 14 (nI k) (nI j) (K, L, ())) (P := fun j K => Fm [42] I1 K ∧ (∀ z, (z < 325 * k ∨ 325 * k + 325 ≤ z) → K 42 0 z = I1 42 0 z) ∧ ∀ z, z < j → K 42 0 (325 * k + z) = I 41 0 z) 325 I1 ⟨Fm.refl, fun _ _ => rfl, fun z hz => by omega⟩ (fun j K hj hP => by
      obtain ⟨p1, p2, p3⟩ := hP
      refine ⟨up3 K 42 0 (325 * k + j) (I 41 0 j), ⟨p1.up (by decide), fun z hz => by rw [u3_j _ _ (by omega)]; exact p2 z hz, fun z hz => ?_⟩, fun s hs => v_X11_image_17.e X 14 _ _ K L s ?_⟩
      · by_cases ee : z = j
        · subst ee; exact u3_eq _ _ _ _ _
        · rw [u3_j _ _ (by omega)]; exact p3 z (by omega)
      · rw [show K 41 = I 41 by rw [p1 41 (by decide), offF 41 (by decide)]]
        simp (disch := omega) only [a_bi_i, a_bv_n, a_bl_l, a_bq_q, l_0, l_1, l_2, l_3, l_4, l_5, l_6, l_7, l_8, l_9, l_10, l_12, l_16, l_20, l_24, l_25, l_31, l_32, l_33, l_40, l_48, l_57, l_60, l_63, l_64, l_78, l_85, l_97, l_99, l_100, l_122, l_255, l_325, l_700, l_999, l_1000, l_1200, l_99999, l_100000, l_1000000, l_2000000000, l_N, n_add, n_mul, n_lt, n_out, n_div, n_dm, n_eq, n_toN, n_inN, n_ltN, n_nltN, n_neN, Nat.not_lt_zero, false_or, or_false, ite_y, ite_n, if_true, if_false, ite_tt, ite_ff, b_0, b_1, eq_self_iff_true, Bool.true_eq_false, Bool.false_eq_true]
        exact hs)
    refine ⟨nI 0, I1, L, up3 J 43 0 k (nI 1), L, K_X10_image.e X 14 _ I L _ ?_, K_X11_image.e X 14 _ _ L _ ?_, w, e, fun z => if z = k then some (w, e) else im z, n, b, t, ?_, ?_⟩
    · simp (disch := omega) only [a_bi_i, a_bv_n, a_bl_l, a_bq_q, l_0, l_1, l_2, l_3, l_4, l_5, l_6, l_7, l_8, l_9, l_10, l_12, l_16, l_20, l_24, l_25, l_31, l_32, l_33, l_40, l_48, l_57, l_60, l_63, l_64, l_78, l_85, l_97, l_99, l_100, l_122, l_255, l_325, l_700, l_999, l_1000, l_1200, l_99999, l_100000, l_1000000, l_2000000000, l_N, n_add, n_mul, n_lt, n_out, n_div, n_dm, n_eq, n_toN, n_inN, n_ltN, n_nltN, n_neN, Nat.not_lt_zero, false_or, or_false, ite_y, ite_n, if_true, if_false, ite_tt, ite_ff, b_0, b_1, eq_self_iff_true, Bool.true_eq_false, Bool.false_eq_true, c_takeF, hI1]
    · simp (disch := omega) only [m_in3, ha, a_bi_i, a_bv_n, a_bl_l, a_bq_q, l_0, l_1, l_2, l_3, l_4, l_5, l_6, l_7, l_8, l_9, l_10, l_12, l_16, l_20, l_24, l_25, l_31, l_32, l_33, l_40, l_48, l_57, l_60, l_63, l_64, l_78, l_85, l_97, l_99, l_100, l_122, l_255, l_325, l_700, l_999, l_1000, l_1200, l_99999, l_100000, l_1000000, l_2000000000, l_N, n_add, n_mul, n_lt, n_out, n_div, n_dm, n_eq, n_toN, n_inN, n_ltN, n_nltN, n_neN, Nat.not_lt_zero, false_or, or_false, ite_y, ite_n, if_true, if_false, ite_tt, ite_ff, b_0, b_1, eq_self_iff_true, Bool.true_eq_false, Bool.false_eq_true]
      refine g4 _ (v_X11_image_17.e X 14 _ _ J L _ ?_)
      simp (disch := omega) only [a_bi_i, a_bv_n, a_bl_l, a_bq_q, l_0, l_1, l_2, l_3, l_4, l_5, l_6, l_7, l_8, l_9, l_10, l_12, l_16, l_20, l_24, l_25, l_31, l_32, l_33, l_40, l_48, l_57, l_60, l_63, l_64, l_78, l_85, l_97, l_99, l_100, l_122, l_255, l_325, l_700, l_999, l_1000, l_1200, l_99999, l_100000, l_1000000, l_2000000000, l_N, n_add, n_mul, n_lt, n_out, n_div, n_dm, n_eq, n_toN, n_inN, n_ltN, n_nltN, n_neN, Nat.not_lt_zero, false_or, or_false, ite_y, ite_n, if_true, if_false, ite_tt, ite_ff, b_0, b_1, eq_self_iff_true, Bool.true_eq_false, Bool.false_eq_true, Nat.lt_irrefl]
    · have jF : ∀ f, f ≠ 42 → f ≠ 43 → up3 J 43 0 k (nI 1) f = I1 f := fun f h1 h2 => by rw [u3_f _ _ h2]; exact g1 f (by simpa using h1)
      have jT : ∀ q, q ≠ k + 2 → ∀ f, 5 ≤ f → f ≤ 11 → up3 J 43 0 k (nI 1) f q = I f q := fun q hq f h1 h2 => by rw [jF f (by omega) (by omega)]; exact off f q (Or.inr hq)
      refine h.img (fun f hf h1 h2 h3 h4 => by rw [jF f h3 h4, offF f h1]) (by rw [jF 40 (by decide) (by decide), offF 40 (by decide)]) (a1.fams (jT 0 (by omega))) (by rw [jF 41 (by decide) (by decide), offF 41 (by decide)]; exact a2) a3 a4 (fun z hz => ?_)
      by_cases ez : z = k
      · subst ez
        simp only [if_true]
        refine ⟨?_, u3_eq _ _ _ _ _, ?_, ?_, a3, a4⟩
        · rw [jF 5 (by decide) (by decide), ← hI1]; exact u3_eq _ _ _ _ _
        · have q1 : TQ (tf7 I (z + 2) 0) (z + 2) w e := tf7_q w8 a1
          unfold TQ
          rw [jF 5 (by decide) (by decide), jF 6 (by decide) (by decide), jF 7 (by decide) (by decide), jF 8 (by decide) (by decide), jF 9 (by decide) (by decide), jF 10 (by decide) (by decide), jF 11 (by decide) (by decide), ← hI1, u3_j _ _ (by decide), u3_f _ _ (by decide), u3_f _ _ (by decide), u3_f _ _ (by decide), u3_f _ _ (by decide), u3_f _ _ (by decide), u3_f _ _ (by decide)]
          exact q1
        · rw [u3_f _ _ (by decide)]
          exact a2.eq w8 (fun j hj => g3 j hj)
      · simp only [ez, if_false]
        have hz2 := a5 z hz
        cases hi : im z with
        | none =>
          rw [hi] at hz2
          show up3 J 43 0 k (nI 1) 5 (z + 2) 7 = nI 0 ∧ up3 J 43 0 k (nI 1) 43 0 z = nI 0
          rw [jT (z + 2) (by omega) 5 (by decide) (by decide), u3_j _ _ ez, g1 43 (by decide), offF 43 (by decide)]
          exact hz2
        | some p =>
          obtain ⟨w2, e2⟩ := p
          rw [hi] at hz2
          obtain ⟨c1, c2, c3, c4, c5⟩ := hz2
          show up3 J 43 0 k (nI 1) 5 (z + 2) 7 = nI 1 ∧ up3 J 43 0 k (nI 1) 43 0 z = nI 1 ∧ TQ _ (z + 2) w2 e2 ∧ MRo _ w2 e2 ∧ Vw w2 ∧ Ve w2 e2
          refine ⟨by rw [jT (z + 2) (by omega) 5 (by decide) (by decide)]; exact c1, by rw [u3_j _ _ ez, g1 43 (by decide), offF 43 (by decide)]; exact c2, c3.fams (jT (z + 2) (by omega)), ?_, c5⟩
          rw [u3_f _ _ (by decide)]
          exact c4.eq c5.1.1.2.2.2.2.2.2.2.2 (fun j hj => by rw [g2 _ (by omega), offF 42 (by decide)])
    · exact hh.fams (by rw [u3_f _ _ (by decide), g1 28 (by decide), offF 28 (by decide)]) (by rw [u3_f _ _ (by decide), g1 30 (by decide), offF 30 (by decide)])
theorem g_back (hR : Rel I L) (a : Int32) : Good (K_X10_back X 15 a) (K_X11_back X 15 a) I L := by
  obtain ⟨w, e, im, n, b, t, h, hh⟩ := id hR
  cases ha : inr a 3 with
  | false =>
    refine good_pure hR (-2) (K_X10_back.e X 14 a I L _ ?_) (K_X11_back.e X 14 a I L _ ?_)
    · rcases inr_no ha with c | c
      · simp only [l_0, l_1, l_2, l_3, l_4, l_5, l_6, l_7, l_8, l_9, l_10, l_12, l_16, l_20, l_24, l_25, l_31, l_32, l_33, l_40, l_48, l_57, l_60, l_63, l_64, l_78, l_85, l_97, l_99, l_100, l_122, l_255, l_325, l_700, l_999, l_1000, l_1200, l_99999, l_100000, l_1000000, l_2000000000, l_N, c, if_true]
      · simp only [l_0, l_1, l_2, l_3, l_4, l_5, l_6, l_7, l_8, l_9, l_10, l_12, l_16, l_20, l_24, l_25, l_31, l_32, l_33, l_40, l_48, l_57, l_60, l_63, l_64, l_78, l_85, l_97, l_99, l_100, l_122, l_255, l_325, l_700, l_999, l_1000, l_1200, l_99999, l_100000, l_1000000, l_2000000000, l_N, c, if_false]
        split <;> rfl
    · simp (disch := omega) only [m_in3, ha, a_bi_i, a_bv_n, a_bl_l, a_bq_q, l_0, l_1, l_2, l_3, l_4, l_5, l_6, l_7, l_8, l_9, l_10, l_12, l_16, l_20, l_24, l_25, l_31, l_32, l_33, l_40, l_48, l_57, l_60, l_63, l_64, l_78, l_85, l_97, l_99, l_100, l_122, l_255, l_325, l_700, l_999, l_1000, l_1200, l_99999, l_100000, l_1000000, l_2000000000, l_N, n_add, n_mul, n_lt, n_out, n_div, n_dm, n_eq, n_toN, n_inN, n_ltN, n_nltN, n_neN, Nat.not_lt_zero, false_or, or_false, ite_y, ite_n, if_true, if_false, ite_tt, ite_ff, b_0, b_1, eq_self_iff_true, Bool.true_eq_false, Bool.false_eq_true]
  | true =>
    obtain ⟨k, hk, rfl⟩ := inr_ex (by omega) ha
    obtain ⟨a1, a2, a3, a4, a5, a6, a7, a8, a9, a10⟩ := id h
    have hz2 := a5 k hk
    cases hi : im k with
    | none =>
      rw [hi] at hz2
      have z1 : I 5 (k + 2) 7 = nI 0 := hz2.1
      have z2 : I 43 0 k = nI 0 := hz2.2
      refine good_pure hR (-6) (K_X10_back.e X 14 _ I L _ ?_) (K_X11_back.e X 14 _ I L _ ?_)
      · simp (disch := omega) only [a_bi_i, a_bv_n, a_bl_l, a_bq_q, l_0, l_1, l_2, l_3, l_4, l_5, l_6, l_7, l_8, l_9, l_10, l_12, l_16, l_20, l_24, l_25, l_31, l_32, l_33, l_40, l_48, l_57, l_60, l_63, l_64, l_78, l_85, l_97, l_99, l_100, l_122, l_255, l_325, l_700, l_999, l_1000, l_1200, l_99999, l_100000, l_1000000, l_2000000000, l_N, n_add, n_mul, n_lt, n_out, n_div, n_dm, n_eq, n_toN, n_inN, n_ltN, n_nltN, n_neN, Nat.not_lt_zero, false_or, or_false, ite_y, ite_n, if_true, if_false, ite_tt, ite_ff, b_0, b_1, eq_self_iff_true, Bool.true_eq_false, Bool.false_eq_true, z1]
      · simp (disch := omega) only [m_in3, ha, z2, a_bi_i, a_bv_n, a_bl_l, a_bq_q, l_0, l_1, l_2, l_3, l_4, l_5, l_6, l_7, l_8, l_9, l_10, l_12, l_16, l_20, l_24, l_25, l_31, l_32, l_33, l_40, l_48, l_57, l_60, l_63, l_64, l_78, l_85, l_97, l_99, l_100, l_122, l_255, l_325, l_700, l_999, l_1000, l_1200, l_99999, l_100000, l_1000000, l_2000000000, l_N, n_add, n_mul, n_lt, n_out, n_div, n_dm, n_eq, n_toN, n_inN, n_ltN, n_nltN, n_neN, Nat.not_lt_zero, false_or, or_false, ite_y, ite_n, if_true, if_false, ite_tt, ite_ff, b_0, b_1, eq_self_iff_true, Bool.true_eq_false, Bool.false_eq_true]
    | some p =>
      obtain ⟨w2, e2⟩ := p
      rw [hi] at hz2
      obtain ⟨c1, c2, c3, c4, c5, c6⟩ := hz2
      have n10 : ¬ (1 = 0) := by decide
      have w8 : w2 8 ≤ 60 := c5.1.2.2.2.2.2.2.2.2
      generalize hI1 : up3 (tf7 I 0 (k + 2)) 28 0 7 (nI 0) = I1
      have off : ∀ f q, f ≠ 28 → ((f < 5 ∨ 11 < f) ∨ q ≠ 0) → I1 f q = I f q := fun f q h28 hq => by
        rw [← hI1, u3_f _ _ h28]; exact tf7_off hq
      have offF : ∀ f, f ≠ 28 → (f < 5 ∨ 11 < f) → I1 f = I f := fun f h28 hf => funext fun q => off f q h28 (Or.inl hf)
      obtain ⟨J, ⟨g1, g3⟩, g4⟩ := loop_z (F := fun j (K : A3 Int32) => v_X11_back_29 X 14 (nI k) (nI j) (K, L, ())) (P := fun j K => Fm [41] I1 K ∧ ∀ z, z < j → K 41 0 z = I 42 0 (325 * k + z)) 325 I1 ⟨Fm.refl, fun z hz => by omega⟩ (fun j K hj hP => by
        obtain ⟨p1, p3⟩ := hP
        refine ⟨up3 K 41 0 j (I 42 0 (325 * k + j)), ⟨p1.up (by decide), fun z hz => ?_⟩, fun s hs => v_X11_back_29.e X 14 _ _ K L s ?_⟩
        · by_cases ee : z = j
          · subst ee; exact u3_eq _ _ _ _ _
          · rw [u3_j _ _ (by omega)]; exact p3 z (by omega)
        · rw [show K 42 = I 42 by rw [p1 42 (by decide), offF 42 (by decide) (by decide)]]
          simp (disch := omega) only [a_bi_i, a_bv_n, a_bl_l, a_bq_q, l_0, l_1, l_2, l_3, l_4, l_5, l_6, l_7, l_8, l_9, l_10, l_12, l_16, l_20, l_24, l_25, l_31, l_32, l_33, l_40, l_48, l_57, l_60, l_63, l_64, l_78, l_85, l_97, l_99, l_100, l_122, l_255, l_325, l_700, l_999, l_1000, l_1200, l_99999, l_100000, l_1000000, l_2000000000, l_N, n_add, n_mul, n_lt, n_out, n_div, n_dm, n_eq, n_toN, n_inN, n_ltN, n_nltN, n_neN, Nat.not_lt_zero, false_or, or_false, ite_y, ite_n, if_true, if_false, ite_tt, ite_ff, b_0, b_1, eq_self_iff_true, Bool.true_eq_false, Bool.false_eq_true]
          exact hs)
      have jF : ∀ f, f ≠ 41 → J f = I1 f := fun f h1 => g1 f (by simpa using h1)
      refine ⟨nI 0, I1, L, J, L, K_X10_back.e X 14 _ I L _ ?_, K_X11_back.e X 14 _ _ L _ ?_, w2, e2, im, n, b, t, ?_, Or.inl ?_⟩
      · simp (disch := omega) only [a_bi_i, a_bv_n, a_bl_l, a_bq_q, l_0, l_1, l_2, l_3, l_4, l_5, l_6, l_7, l_8, l_9, l_10, l_12, l_16, l_20, l_24, l_25, l_31, l_32, l_33, l_40, l_48, l_57, l_60, l_63, l_64, l_78, l_85, l_97, l_99, l_100, l_122, l_255, l_325, l_700, l_999, l_1000, l_1200, l_99999, l_100000, l_1000000, l_2000000000, l_N, n_add, n_mul, n_lt, n_out, n_div, n_dm, n_eq, n_toN, n_inN, n_ltN, n_nltN, n_neN, Nat.not_lt_zero, false_or, or_false, ite_y, ite_n, if_true, if_false, ite_tt, ite_ff, b_0, b_1, eq_self_iff_true, Bool.true_eq_false, Bool.false_eq_true, c1, n10, c_takeF, c_forget, hI1]
      · have e43 : I1 43 0 k = nI 1 := by rw [offF 43 (by decide) (by decide)]; exact c2
        simp (disch := omega) only [m_in3, ha, e43, n10, a_bi_i, a_bv_n, a_bl_l, a_bq_q, l_0, l_1, l_2, l_3, l_4, l_5, l_6, l_7, l_8, l_9, l_10, l_12, l_16, l_20, l_24, l_25, l_31, l_32, l_33, l_40, l_48, l_57, l_60, l_63, l_64, l_78, l_85, l_97, l_99, l_100, l_122, l_255, l_325, l_700, l_999, l_1000, l_1200, l_99999, l_100000, l_1000000, l_2000000000, l_N, n_add, n_mul, n_lt, n_out, n_div, n_dm, n_eq, n_toN, n_inN, n_ltN, n_nltN, n_neN, Nat.not_lt_zero, false_or, or_false, ite_y, ite_n, if_true, if_false, ite_tt, ite_ff, b_0, b_1, eq_self_iff_true, Bool.true_eq_false, Bool.false_eq_true]
        refine g4 _ (v_X11_back_29.e X 14 _ _ J L _ ?_)
        simp (disch := omega) only [a_bi_i, a_bv_n, a_bl_l, a_bq_q, l_0, l_1, l_2, l_3, l_4, l_5, l_6, l_7, l_8, l_9, l_10, l_12, l_16, l_20, l_24, l_25, l_31, l_32, l_33, l_40, l_48, l_57, l_60, l_63, l_64, l_78, l_85, l_97, l_99, l_100, l_122, l_255, l_325, l_700, l_999, l_1000, l_1200, l_99999, l_100000, l_1000000, l_2000000000, l_N, n_add, n_mul, n_lt, n_out, n_div, n_dm, n_eq, n_toN, n_inN, n_ltN, n_nltN, n_neN, Nat.not_lt_zero, false_or, or_false, ite_y, ite_n, if_true, if_false, ite_tt, ite_ff, b_0, b_1, eq_self_iff_true, Bool.true_eq_false, Bool.false_eq_true, Nat.lt_irrefl]
      · refine h.img (fun f hf h1 h2 h3 h4 => ?_) (by rw [jF 40 (by decide), offF 40 (by decide) (by decide)]) ?_ (c4.eq w8 (fun j hj => g3 j hj)) c5 c6 (a5.fams (fun f q h1 h2 hq => by rw [jF f (by omega)]; exact off f q (by omega) (Or.inr (by omega))) (by rw [jF 42 (by decide), offF 42 (by decide) (by decide)]) (by rw [jF 43 (by decide), offF 43 (by decide) (by decide)]))
        · rw [jF f h2, offF f (fun z => by subst z; revert hf; decide) h1]
        · have q1 : TQ (tf7 I 0 (k + 2)) 0 w2 e2 := tf7_q w8 c3
          refine q1.fams (fun f h1 h2 => ?_)
          rw [jF f (by omega), ← hI1, u3_f _ _ (by omega)]
      · rw [jF 28 (by decide), ← hI1]; exact u3_eq _ _ _ _ _
end
