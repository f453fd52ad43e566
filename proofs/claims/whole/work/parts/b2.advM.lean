/-! the reference goes to the next token -/
section
variable {X : AX} {d : Nat} {I J : A3 Int32} {L : A3 Int64} {b : Nat → Int8} {n : Nat}
def MB (I : A3 Int32) (n : Nat) (b : Nat → Int8) : Prop := n ≤ 1200 ∧ I 40 0 7 = nI n ∧ ∀ j, j < n → I 44 0 j = (b j).toInt32
def RK (I : A3 Int32) (T : TK) : Prop := I 40 0 10 = nI T.1 ∧ I 40 0 9 = nI T.2.1 ∧ I 40 0 8 = nI T.2.2.1 ∧ (T.1 = 2 → I 40 0 11 = nI T.2.2.2)
/-- only the token's cells change -/
def R4 (I J : A3 Int32) : Prop := Fm [40] I J ∧ ∀ j, (j < 8 ∨ 11 < j) → J 40 0 j = I 40 0 j
theorem R4.refl : R4 I I := ⟨Fm.refl, fun _ _ => rfl⟩
theorem R4.trans {K : A3 Int32} (h1 : R4 I J) (h2 : R4 J K) : R4 I K := ⟨h1.1.trans h2.1, fun j hj => (h2.2 j hj).trans (h1.2 j hj)⟩
theorem R4.up {j : Nat} {x : Int32} (h : R4 I J) (h1 : 8 ≤ j) (h2 : j ≤ 11) : R4 I (up3 J 40 0 j x) := ⟨h.1.up (by decide), fun k hk => by rw [u3_j _ _ (by omega)]; exact h.2 k hk⟩
theorem MB.r4 (h : MB I n b) (hR : R4 I J) : MB J n b := ⟨h.1, by rw [hR.2 7 (by decide)]; exact h.2.1, fun j hj => by rw [hR.1 44 (by decide)]; exact h.2.2 j hj⟩
theorem m_see {p : Nat} (h : MB I n b) (hp : p ≤ 1200) (hd : 1 ≤ d) : K_X11_see X d (nI p) (I, L, ()) = some (some (aI (if p < n then (b p).toInt32 &&& 255 else nN)), (I, L, ())) := by
  obtain ⟨g, rfl⟩ : ∃ g, d = g + 1 := ⟨d - 1, by omega⟩
  obtain ⟨hn, h7, h44⟩ := h
  refine K_X11_see.e X g _ I L _ ?_
  rw [h7]
  by_cases c : p < n
  · rw [if_pos ((n_lt (by omega) (by omega)).mpr c), if_neg (by rw [n_out (by omega)]; omega), n_toN (show p < 2147483648 by omega), h44 p c, if_pos c]
  · rw [if_neg (fun z => c ((n_lt (by omega) (by omega)).mp z)), if_neg c]; rfl
theorem m_inA {x : Int32} (hd : 1 ≤ d) : K_X11_in X d x.toInt64 (97 : Int64) (122 : Int64) (I, L, ()) = some (some (aI (bI (inL x.toInt64 97 122))), (I, L, ())) := m_in hd
theorem m_in0 {x : Int32} (hd : 1 ≤ d) : K_X11_in X d x.toInt64 (48 : Int64) (57 : Int64) (I, L, ()) = some (some (aI (bI (inL x.toInt64 48 57))), (I, L, ())) := m_in hd
theorem nN_A : inL nN.toInt64 97 122 = false := by decide
theorem nN_0 : inL nN.toInt64 48 57 = false := by decide
theorem m_run1 (h : MB I n b) (hd : 2 ≤ d) : ∀ k p K, p + k = n → R4 I K → K 40 0 8 = nI p → ∃ J, v_X11_advance_83 X d (K, L, ()) = some (none, (J, L, ())) ∧ R4 I J ∧ J 40 0 9 = K 40 0 9 ∧ J 40 0 8 = nI (rn b 1 k p) ∧ J 40 0 10 = nI 1 := by
  have hn := h.1
  intro k
  induction k with
  | zero =>
    intro p K hp hR k8
    refine ⟨up3 K 40 0 10 (nI 1), v_X11_advance_83.e X d K L _ ?_, hR.up (by decide) (by decide), by rw [u3_j _ _ (by decide)], by rw [u3_j _ _ (by decide)]; exact k8, u3_eq _ _ _ _ _⟩
    rw [k8, m_see (h.r4 hR) (by omega) (by omega), if_neg (by omega), a_bi_i, m_inA (by omega), a_bi_i, nN_A, if_pos beq0]
    rfl
  | succ k ih =>
    intro p K hp hR k8
    have e5 : inL ((b p).toInt32 &&& 255).toInt64 97 122 = decide (kdB (b p) = 1) := (by_f (b p)).1.1
    rw [rn]
    by_cases hk : kdB (b p) = 1
    · obtain ⟨J, a1, a2, a3, a4, a5⟩ := ih (p + 1) (up3 K 40 0 8 (nI (p + 1))) (by omega) (hR.up (by decide) (by decide)) (u3_eq _ _ _ _ _)
      rw [if_pos hk]
      refine ⟨J, v_X11_advance_83.e X d K L _ ?_, a2, by rw [a3, u3_j _ _ (by decide)], a4, a5⟩
      rw [k8, m_see (h.r4 hR) (by omega) (by omega), if_pos (by omega), a_bi_i, m_inA (by omega), a_bi_i, e5, decide_eq_true hk, if_neg bne1]
      dsimp only
      rw [k8, l_1, n_add]
      exact a1
    · rw [if_neg hk]
      refine ⟨up3 K 40 0 10 (nI 1), v_X11_advance_83.e X d K L _ ?_, hR.up (by decide) (by decide), by rw [u3_j _ _ (by decide)], by rw [u3_j _ _ (by decide)]; exact k8, u3_eq _ _ _ _ _⟩
      rw [k8, m_see (h.r4 hR) (by omega) (by omega), if_pos (by omega), a_bi_i, m_inA (by omega), a_bi_i, e5, decide_eq_false hk, if_pos beq0]
      rfl
theorem m_run2 {f : Nat} (h : MB I n b) (hd : 2 ≤ d) : ∀ k p K, p + k = n → f ≤ p → R4 I K → K 40 0 8 = nI p → K 40 0 11 = nI (nv b f (p - f)) → ∃ J, v_X11_advance_144 X d (K, L, ()) = some (none, (J, L, ())) ∧ R4 I J ∧ J 40 0 9 = K 40 0 9 ∧ J 40 0 8 = nI (rn b 2 k p) ∧ J 40 0 10 = nI 2 ∧ J 40 0 11 = nI (nv b f (rn b 2 k p - f)) := by
  have hn := h.1
  intro k
  induction k with
  | zero =>
    intro p K hp hf hR k8 k11
    refine ⟨up3 K 40 0 10 (nI 2), v_X11_advance_144.e X d K L _ ?_, hR.up (by decide) (by decide), by rw [u3_j _ _ (by decide)], by rw [u3_j _ _ (by decide)]; exact k8, u3_eq _ _ _ _ _, by rw [u3_j _ _ (by decide)]; exact k11⟩
    rw [k8, m_see (h.r4 hR) (by omega) (by omega), if_neg (by omega), a_bi_i, m_in0 (by omega), a_bi_i, nN_0, if_pos beq0]
    rfl
  | succ k ih =>
    intro p K hp hf hR k8 k11
    have e6 : inL ((b p).toInt32 &&& 255).toInt64 48 57 = decide (kdB (b p) = 2) := (by_f (b p)).1.2
    rw [rn]
    by_cases hk : kdB (b p) = 2
    · have hdg := (by_f (b p)).2.2.2.2.2.1 hk
      have hnl := nv_le (b := b) (f := f) (p - f)
      have env : nv b f (p + 1 - f) = min 99999 (10 * nv b f (p - f) + dg (b p)) := by
        rw [show p + 1 - f = (p - f) + 1 by omega, nv, show f + (p - f) = p by omega]
      obtain ⟨J, a1, a2, a3, a4, a5, a6⟩ := ih (p + 1) (up3 (up3 K 40 0 11 (nI (nv b f (p + 1 - f)))) 40 0 8 (nI (p + 1))) (by omega) (by omega) ((hR.up (by decide) (by decide)).up (by decide) (by decide)) (u3_eq _ _ _ _ _) (by rw [u3_j _ _ (by decide), u3_eq])
      rw [if_pos hk]
      refine ⟨J, v_X11_advance_144.e X d K L _ ?_, a2, by rw [a3, u3_j _ _ (by decide), u3_j _ _ (by decide)], a4, a5, a6⟩
      have emin : K_J9_min_7cf53 X d (99999 : Int32) (((10 : Int32) * nI (nv b f (p - f)) + nI (48 + dg (b p))) - 48) (K, L, ()) = some (some (aI (nI (nv b f (p + 1 - f)))), (K, L, ())) := by
        rw [c_min (by omega), show (10 : Int32) = nI 10 from rfl, n_mul, n_add, show (48 : Int32) = nI 48 from rfl, n_sub (show 48 ≤ 10 * nv b f (p - f) + (48 + dg (b p)) by omega), show (99999 : Int32) = nI 99999 from rfl]
        have e1 : 10 * nv b f (p - f) + (48 + dg (b p)) - 48 = 10 * nv b f (p - f) + dg (b p) := by omega
        rw [e1, env]
        have := hdg.2.2
        by_cases c : 10 * nv b f (p - f) + dg (b p) < 99999
        · rw [if_pos ((n_lt (by omega) (by decide)).mpr c), Nat.min_eq_right (by omega)]
        · rw [if_neg (fun z => c ((n_lt (by omega) (by decide)).mp z)), Nat.min_eq_left (by omega)]
      rw [k8, m_see (h.r4 hR) (by omega) (by omega), if_pos (by omega), a_bi_i, m_in0 (by omega), a_bi_i, e6, decide_eq_true hk, if_neg bne1]
      dsimp only
      rw [k8, m_see (h.r4 hR) (by omega) (by omega), if_pos (by omega), a_bi_i, k11, hdg.1, emin, a_bi_i]
      dsimp only
      rw [u3_j _ _ (show 8 ≠ 11 by decide), k8, l_1, n_add]
      exact a1
    · rw [if_neg hk]
      refine ⟨up3 K 40 0 10 (nI 2), v_X11_advance_144.e X d K L _ ?_, hR.up (by decide) (by decide), by rw [u3_j _ _ (by decide)], by rw [u3_j _ _ (by decide)]; exact k8, u3_eq _ _ _ _ _, by rw [u3_j _ _ (by decide)]; exact k11⟩
      rw [k8, m_see (h.r4 hR) (by omega) (by omega), if_pos (by omega), a_bi_i, m_in0 (by omega), a_bi_i, e6, decide_eq_false hk, if_pos beq0]
      rfl
/-- from a sign that is no blank -/
theorem m_core {f : Nat} (h : MB I n b) (hf : f ≤ n) (h8 : I 40 0 8 = nI f) (hd : 2 ≤ d) : ∃ J, R4 I J ∧ RK J (tokF b n f) ∧ (a_bi (K_X11_see X d ((up3 I 40 0 9 (I 40 0 8)) 40 0 8) ((up3 I 40 0 9 (I 40 0 8)), L, ())) fun x3 s3 => (if x3 = (-1) then some (none, ((up3 s3.1 40 0 10 (0)), s3.2.1, ())) else (a_bi (K_X11_in X d x3.toInt64 (97 : Int64) (122 : Int64) (s3.1, s3.2.1, ())) fun x4 s4 => (if x4 = (0) then (a_bi (K_X11_in X d x3.toInt64 (48 : Int64) (57 : Int64) (s4.1, s4.2.1, ())) fun x5 s5 => (if x5 = (0) then (if x3 = (59) then some (none, ((up3 (up3 s5.1 40 0 10 (3)) 40 0 8 (((up3 s5.1 40 0 10 (3)) 40 0 8) + (1))), s5.2.1, ())) else some (none, ((up3 (up3 s5.1 40 0 10 (4)) 40 0 8 (((up3 s5.1 40 0 10 (4)) 40 0 8) + (1))), s5.2.1, ()))) else v_X11_advance_144 X d ((up3 s5.1 40 0 11 (0)), s5.2.1, ()))) else v_X11_advance_83 X d (s4.1, s4.2.1, ()))))) = some (none, (J, L, ())) := by
  have hn := h.1
  generalize hI1 : up3 I 40 0 9 (I 40 0 8) = I1
  have R1 : R4 I I1 := by rw [← hI1]; exact R4.refl.up (by decide) (by decide)
  have a8 : I1 40 0 8 = nI f := by rw [← hI1, u3_j _ _ (by decide)]; exact h8
  have a9 : I1 40 0 9 = nI f := by rw [← hI1, u3_eq]; exact h8
  rw [a8, m_see (h.r4 R1) (by omega) (by omega), a_bi_i]
  unfold tokF
  by_cases hfn : f < n
  · have bf := by_f (b f)
    have e5 : inL ((b f).toInt32 &&& 255).toInt64 97 122 = decide (kdB (b f) = 1) := bf.1.1
    have e6 : inL ((b f).toInt32 &&& 255).toInt64 48 57 = decide (kdB (b f) = 2) := bf.1.2
    rw [if_pos hfn, if_neg (show ¬ n ≤ f by omega), if_neg (show ¬ ((b f).toInt32 &&& 255) = -1 from bf.2.2.2.1)]
    dsimp only
    rw [m_inA (by omega), a_bi_i, e5]
    by_cases k1 : kdB (b f) = 1
    · obtain ⟨J, j1, j2, j3, j4, j5⟩ := m_run1 (X := X) (d := d) (L := L) h hd (n - f) f I1 (by omega) R1 a8
      rw [if_pos k1, decide_eq_true k1, if_neg bne1]
      refine ⟨J, j2, ⟨j5, by rw [j3]; exact a9, ?_, fun z => by cases z⟩, j1⟩
      rw [j4, show n - f = (n - (f + 1)) + 1 by omega, rn, if_pos k1]
    · rw [if_neg k1, decide_eq_false k1, if_pos beq0]
      dsimp only
      rw [m_in0 (by omega), a_bi_i, e6]
      by_cases k2 : kdB (b f) = 2
      · obtain ⟨J, j1, j2, j3, j4, j5, j6⟩ := m_run2 (X := X) (d := d) (L := L) (f := f) h hd (n - f) f (up3 I1 40 0 11 (nI 0)) (by omega) (Nat.le_refl _) (R1.up (by decide) (by decide)) (by rw [u3_j _ _ (by decide)]; exact a8) (by rw [u3_eq, Nat.sub_self]; rfl)
        have er : rn b 2 (n - f) f = rn b 2 (n - (f + 1)) (f + 1) := by rw [show n - f = (n - (f + 1)) + 1 by omega, rn, if_pos k2]
        rw [if_pos k2, decide_eq_true k2, if_neg bne1]
        refine ⟨J, j2, ⟨j5, by rw [j3, u3_j _ _ (by decide)]; exact a9, by rw [j4, er], fun _ => by rw [j6, er]⟩, j1⟩
      · rw [if_neg k2, decide_eq_false k2, if_pos beq0]
        have kl := bf.2.2.2.2.2.2
        by_cases k3 : kdB (b f) = 3
        · refine ⟨up3 (up3 I1 40 0 10 (nI 3)) 40 0 8 (nI (f + 1)), (R1.up (by decide) (by decide)).up (by decide) (by decide), ⟨by rw [u3_j _ _ (by decide), u3_eq, k3], by rw [u3_j _ _ (by decide), u3_j _ _ (by decide)]; exact a9, u3_eq _ _ _ _ _, fun z => absurd z k2⟩, ?_⟩
          rw [if_pos (bf.2.2.2.2.1.mpr k3), u3_j _ _ (show 8 ≠ 10 by decide)]
          dsimp only
          rw [a8, l_1, n_add]
          rfl
        · have k4 : kdB (b f) = 4 := by omega
          refine ⟨up3 (up3 I1 40 0 10 (nI 4)) 40 0 8 (nI (f + 1)), (R1.up (by decide) (by decide)).up (by decide) (by decide), ⟨by rw [u3_j _ _ (by decide), u3_eq, k4], by rw [u3_j _ _ (by decide), u3_j _ _ (by decide)]; exact a9, u3_eq _ _ _ _ _, fun z => absurd z k2⟩, ?_⟩
          rw [if_neg (fun z => k3 (bf.2.2.2.2.1.mp z)), u3_j _ _ (show 8 ≠ 10 by decide)]
          dsimp only
          rw [a8, l_1, n_add]
          rfl
  · have : f = n := by omega
    subst this
    rw [if_neg hfn, if_pos (Nat.le_refl _)]
    refine ⟨up3 I1 40 0 10 (nI 0), R1.up (by decide) (by decide), ⟨u3_eq _ _ _ _ _, by rw [u3_j _ _ (by decide)]; exact a9, by rw [u3_j _ _ (by decide)]; exact a8, fun z => by cases z⟩, rfl⟩
theorem m_advance {p : Nat} (h : MB I n b) (hp : p ≤ n) (h8 : I 40 0 8 = nI p) (hd : 3 ≤ d) : ∃ J, K_X11_advance X d (I, L, ()) = some (none, (J, L, ())) ∧ R4 I J ∧ RK J (tk b n p) := by
  obtain ⟨g, rfl⟩ : ∃ g, d = g + 1 := ⟨d - 1, by omega⟩
  have hn := h.1
  have key : ∀ k p K, p + k = n → R4 I K → K 40 0 8 = nI p → ∃ J, (v_X11_advance_0 X g (K, L, ()) = some (none, (J, L, ())) ∧ K_X11_advance X (g + 1) (K, L, ()) = some (none, (J, L, ()))) ∧ R4 I J ∧ RK J (tokF b n (skp b k p)) := by
    intro k
    induction k with
    | zero =>
      intro p K hp hR k8
      obtain ⟨J, j1, j2, j3⟩ := m_core (X := X) (d := g) (L := L) (h.r4 hR) (show p ≤ n by omega) k8 (by omega)
      refine ⟨J, ⟨v_X11_advance_0.e X g K L _ ?_, K_X11_advance.e X g K L _ ?_⟩, hR.trans j1, j2⟩
      · rw [k8, m_see (h.r4 hR) (by omega) (by omega), if_neg (by omega), a_bi_i, if_neg (by decide)]
        dsimp only
        rw [k8, m_see (h.r4 hR) (by omega) (by omega), if_neg (by omega), a_bi_i, if_neg (by decide)]
        rw [k8] at j3
        dsimp only
        rw [k8]
        exact j3
      · rw [k8, m_see (h.r4 hR) (by omega) (by omega), if_neg (by omega), a_bi_i, if_neg (by decide)]
        dsimp only
        rw [k8, m_see (h.r4 hR) (by omega) (by omega), if_neg (by omega), a_bi_i, if_neg (by decide)]
        rw [k8] at j3
        dsimp only
        rw [k8]
        exact j3
    | succ k ih =>
      intro p K hp hR k8
      have e3 := by_f (b p)
      rw [skp]
      cases hb : blB (b p) with
      | true =>
        obtain ⟨J, ⟨j1, -⟩, j2, j3⟩ := ih (p + 1) (up3 K 40 0 8 (nI (p + 1))) (by omega) (hR.up (by decide) (by decide)) (u3_eq _ _ _ _ _)
        rw [if_pos rfl]
        unfold blB at hb
        refine ⟨J, ⟨v_X11_advance_0.e X g K L _ ?_, K_X11_advance.e X g K L _ ?_⟩, j2, j3⟩
        · rw [k8, m_see (h.r4 hR) (by omega) (by omega), if_pos (by omega), a_bi_i]
          by_cases c1 : (b p).toInt32 = 32
          · rw [if_pos (e3.2.1.mpr c1)]
            dsimp only
            rw [k8, l_1, n_add]
            exact j1
          · have c2 : (b p).toInt32 = 10 := by
              rw [decide_eq_false c1, Bool.false_or] at hb
              exact of_decide_eq_true hb
            rw [if_neg (fun z => c1 (e3.2.1.mp z))]
            dsimp only
            rw [k8, m_see (h.r4 hR) (by omega) (by omega), if_pos (by omega), a_bi_i, if_pos (e3.2.2.1.mpr c2)]
            dsimp only
            rw [k8, l_1, n_add]
            exact j1
        · rw [k8, m_see (h.r4 hR) (by omega) (by omega), if_pos (by omega), a_bi_i]
          by_cases c1 : (b p).toInt32 = 32
          · rw [if_pos (e3.2.1.mpr c1)]
            dsimp only
            rw [k8, l_1, n_add]
            exact j1
          · have c2 : (b p).toInt32 = 10 := by
              rw [decide_eq_false c1, Bool.false_or] at hb
              exact of_decide_eq_true hb
            rw [if_neg (fun z => c1 (e3.2.1.mp z))]
            dsimp only
            rw [k8, m_see (h.r4 hR) (by omega) (by omega), if_pos (by omega), a_bi_i, if_pos (e3.2.2.1.mpr c2)]
            dsimp only
            rw [k8, l_1, n_add]
            exact j1
      | false =>
        rw [if_neg (by decide)]
        obtain ⟨J, j1, j2, j3⟩ := m_core (X := X) (d := g) (L := L) (h.r4 hR) (show p ≤ n by omega) k8 (by omega)
        unfold blB at hb
        rw [Bool.or_eq_false_iff] at hb
        rw [k8] at j3
        refine ⟨J, ⟨v_X11_advance_0.e X g K L _ ?_, K_X11_advance.e X g K L _ ?_⟩, hR.trans j1, j2⟩
        · rw [k8, m_see (h.r4 hR) (by omega) (by omega), if_pos (by omega), a_bi_i, if_neg (fun z => of_decide_eq_false hb.1 (e3.2.1.mp z))]
          dsimp only
          rw [k8, m_see (h.r4 hR) (by omega) (by omega), if_pos (by omega), a_bi_i, if_neg (fun z => of_decide_eq_false hb.2 (e3.2.2.1.mp z))]
          dsimp only
          rw [k8]
          exact j3
        · rw [k8, m_see (h.r4 hR) (by omega) (by omega), if_pos (by omega), a_bi_i, if_neg (fun z => of_decide_eq_false hb.1 (e3.2.1.mp z))]
          dsimp only
          rw [k8, m_see (h.r4 hR) (by omega) (by omega), if_pos (by omega), a_bi_i, if_neg (fun z => of_decide_eq_false hb.2 (e3.2.2.1.mp z))]
          dsimp only
          rw [k8]
          exact j3
  obtain ⟨J, ⟨-, j1⟩, j2, j3⟩ := key (n - p) p I (by omega) R4.refl h8
  exact ⟨J, j1, j2, j3⟩
end
