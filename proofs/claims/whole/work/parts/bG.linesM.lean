/-! the reference's inspector and rider, whole -/
section
variable {X : AX} {d : Nat} {I J : A3 Int32} {L : A3 Int64} {b : Nat → Int8} {n : Nat} {w : TW} {s : PS}
theorem k_idx {c r k : Nat} : nI c + 5 * nI r + nI k = nI (c + 5 * r + k) := by
  rw [show (5 : Int32) = nI 5 from rfl, n_mul, n_add, n_add]
theorem wIn_eq {c y p : Nat} {kn : Option Nat} {t : Bool} : wup (iW (wup (wup (wup w (33 + 5 * w 5 + 0) c) (33 + 5 * w 5 + 1) y) (33 + 5 * w 5 + 2) p) (33 + 5 * w 5) kn t) 5 (w 5 + 1) = wIn w c y p (kn.getD 0) t := by
  unfold iW wIn
  rw [wup_comm _ _ _ (show 33 + 5 * w 5 + 4 ≠ 5 by omega), wup_comm _ _ _ (show 33 + 5 * w 5 + 3 ≠ 5 by omega), wup_comm _ _ _ (show 33 + 5 * w 5 + 2 ≠ 5 by omega), wup_comm _ _ _ (show 33 + 5 * w 5 + 1 ≠ 5 by omega), wup_comm _ _ _ (show 33 + 5 * w 5 + 0 ≠ 5 by omega)]
  rw [show 33 + w 5 * 5 = 33 + 5 * w 5 + 0 by omega, show 33 + (w 5 * 5 + 1) = 33 + 5 * w 5 + 1 by omega, show 33 + (w 5 * 5 + 2) = 33 + 5 * w 5 + 2 by omega, show 33 + (w 5 * 5 + 3) = 33 + 5 * w 5 + 3 by omega, show 33 + (w 5 * 5 + 4) = 33 + 5 * w 5 + 4 by omega]
theorem m_inspT {c y : Nat} {s3 : PS} {w1 : TW} (hM : MB I n b) (h : RSt b n I s3) (hQ : FQ I w1) (ew : w1 = wup (wup w (33 + 5 * w 5 + 0) c) (33 + 5 * w 5 + 1) y) (w5 : w 5 < 3) (hd : 9 ≤ d) : ∃ p s4 J K, toS b n 14 1 20 s3 = (p, s4) ∧ K_X11_told X d 14 (1 : Int32) (20 : Int32) (I, L, ()) = some (some (aI (nI p)), (J, L, ())) ∧ v_X11_readInspector_101 X d (nI (33 + 5 * w 5)) (0 : Int32) ((up3 (up3 (up3 J 46 0 (33 + 5 * w 5 + 2) (nI p)) 46 0 (33 + 5 * w 5 + 3) (0 : Int32)) 46 0 (33 + 5 * w 5 + 4) (0 : Int32)), L, ()) = some (none, (K, L, ())) ∧ R46 I K ∧ RSt b n K (fnP (im1 b n (im1 b n (none, false, s4))).2.2) ∧ (gd (fnP (im1 b n (im1 b n (none, false, s4))).2.2) = true → FQ K (wIn w c y p ((im1 b n (im1 b n (none, false, s4))).1.getD 0) (im1 b n (im1 b n (none, false, s4))).2.1)) := by
  obtain ⟨J, j1, j2, j3⟩ := m_told (X := X) (d := d) (L := L) (q := 14) (lo := 1) (hi := 20) hM h (by decide) (by decide) (by decide) (by omega)
  generalize toS b n 14 1 20 s3 = r at j1 j3 ⊢
  obtain ⟨p, s4⟩ := r
  have j1' : K_X11_told X d 14 (1 : Int32) (20 : Int32) (I, L, ()) = some (some (aI (nI p)), (J, L, ())) := j1
  have R : R46 I (up3 (up3 (up3 J 46 0 (33 + 5 * w 5 + 2) (nI p)) 46 0 (33 + 5 * w 5 + 3) (nI 0)) 46 0 (33 + 5 * w 5 + 4) (nI 0)) := ((j2.r46.up).up).up
  have Q : FQ (up3 (up3 (up3 J 46 0 (33 + 5 * w 5 + 2) (nI p)) 46 0 (33 + 5 * w 5 + 3) (nI 0)) 46 0 (33 + 5 * w 5 + 4) (nI 0)) (iW (wup w1 (33 + 5 * w 5 + 2) p) (33 + 5 * w 5) none false) := (((hQ.r6 j2).up).up).up
  obtain ⟨K, k1, k2, k3, k4⟩ := m_imarks (X := X) (d := d) (L := L) (k := 33 + 5 * w 5) (hM.r46 R) (((j3.up46).up46).up46) Q (by omega) (by omega)
  refine ⟨p, s4, J, _, rfl, j1', k3, (R.trans k1).up, k2.up46, fun hg => ?_⟩
  have q := k4 hg
  have e5 : K 46 0 5 = nI (w 5) := by
    rw [q 5 (by decide), ew]
    unfold iW
    rw [wup_ne _ _ (by omega), wup_ne _ _ (by omega), wup_ne _ _ (by omega), wup_ne _ _ (by omega), wup_ne _ _ (by omega)]
  rw [ew] at q
  rw [e5, show nI (w 5) + 1 = nI (w 5 + 1) from n_add _ 1, ← wIn_eq]
  exact q.up
theorem m_inspL (hM : MB I n b) (h : RSt b n I s) (hQ : FQ I w) (w0 : 2 ≤ w 0 ∧ w 0 ≤ 8) (w5 : w 5 < 3) (hd : 10 ≤ d) : ∃ J, K_X11_readInspector X d (I, L, ()) = some (none, (J, L, ())) ∧ R46 I J ∧ RSt b n J (fnP (inM b n w s).2.2) ∧ (gd (fnP (inM b n w s).2.2) = true → FQ J (pIn b n w s).2) := by
  obtain ⟨g, rfl⟩ : ∃ g, d = g + 1 := ⟨d - 1, by omega⟩
  have hk : (33 : Int32) + 5 * I 46 0 5 = nI (33 + 5 * w 5) := by
    rw [hQ 5 (by decide), show (33 : Int32) = nI 33 from rfl, show (5 : Int32) = nI 5 from rfl, n_mul, n_add]
  have xi : ∀ m, nI (33 + 5 * w 5) + nI m = nI (33 + 5 * w 5 + m) := fun m => n_add _ _
  have o : ∀ m, m < 5 → ¬ aout (nI (33 + 5 * w 5 + m)) 325 := fun m hm => by rw [n_out (by omega)]; omega
  have t : ∀ m, m < 5 → (nI (33 + 5 * w 5 + m)).toNatClampNeg = 33 + 5 * w 5 + m := fun m hm => n_toN (by omega)
  have x0 : nI (33 + 5 * w 5) + 0 = nI (33 + 5 * w 5 + 0) := xi 0
  have x1 : nI (33 + 5 * w 5) + 1 = nI (33 + 5 * w 5 + 1) := xi 1
  have x2 : nI (33 + 5 * w 5) + 2 = nI (33 + 5 * w 5 + 2) := xi 2
  have x3 : nI (33 + 5 * w 5) + 3 = nI (33 + 5 * w 5 + 3) := xi 3
  have x4 : nI (33 + 5 * w 5) + 4 = nI (33 + 5 * w 5 + 4) := xi 4
  obtain ⟨J1, a1, a2, a3⟩ := m_needs (X := X) (d := g) (L := L) (q := 11) hM h (by decide) (by omega)
  obtain ⟨J2, b1, b2, b3⟩ := m_freshCoach (X := X) (d := g) (L := L) (hM.r6 a2) a3 ((hQ.r6 a2) 0 (by decide)) w0 (by omega)
  unfold pIn inM
  rw [show nmS b n 0 (w 0 - 1) (ndS b n 11 s) = toS b n 11 0 (w 0 - 1) s from rfl] at b1 b3
  generalize toS b n 11 0 (w 0 - 1) s = r1 at b1 b3 ⊢
  obtain ⟨c, s1⟩ := r1
  have R2 : R46 I (up3 J2 46 0 (33 + 5 * w 5 + 0) (nI c)) := ((a2.trans b2).r46).up
  have Q2 : FQ (up3 J2 46 0 (33 + 5 * w 5 + 0) (nI c)) (wup w (33 + 5 * w 5 + 0) c) := (hQ.r6 (a2.trans b2)).up
  obtain ⟨J3, c1, c2, c3⟩ := m_takes (X := X) (d := g) (L := L) (q := 12) (hM.r46 R2) (b3.up46 (j := 33 + 5 * w 5 + 0) (x := nI c)) (by decide) (by omega)
  have b1' : K_X11_freshCoach X g (J1, L, ()) = some (some (aI (nI c)), (J2, L, ())) := b1
  cases hb : isS b 12 s1 with
  | true =>
    rw [hb] at c1
    have ey : wyS b n s1 = (0, tkS b n 12 s1) := by
      cases s1 with
      | inl f => cases hb
      | inr T =>
        have hb' : isB b T 12 = true := hb
        unfold wyS tkS
        simp only [hb', if_true]
    obtain ⟨p, s4, J4, K, d0, d1, d2, d3, d4, d5⟩ := m_inspT (X := X) (d := g) (L := L) (w := w) (c := c) (y := 0) (I := up3 J3 46 0 (33 + 5 * w 5 + 1) (nI 0)) (s3 := tkS b n 12 s1) ((hM.r46 R2).r6 c2 |>.r46 (R46.refl.up)) (c3.up46) ((Q2.r6 c2).up) rfl w5 (by omega)
    simp only [ey, d0]
    refine ⟨K, K_X11_readInspector.e X g I L _ ?_, ((R2.trans c2.r46).up).trans d3, d4, d5⟩
    rw [hk, x0, x1, x2, x3, x4, a1, a_bv_n]
    dsimp +instances only
    rw [b1', a_bi_i, if_neg (o 0 (by decide)), t 0 (by decide)]
    dsimp +instances only
    rw [c1, a_bi_i, if_neg bne1, if_neg bne1, if_neg (o 1 (by decide)), t 1 (by decide)]
    dsimp +instances only
    have d1' : K_X11_told X g 14 (1 : Int32) (20 : Int32) (up3 J3 46 0 (33 + 5 * w 5 + 1) (0 : Int32), L, ()) = some (some (aI (nI p)), (J4, L, ())) := d1
    rw [d1', a_bi_i, if_neg (o 2 (by decide)), if_neg (o 3 (by decide)), if_neg (o 4 (by decide)), t 2 (by decide), t 3 (by decide), t 4 (by decide)]
    exact d2
  | false =>
    rw [hb] at c1
    have ey : wyS b n s1 = (1, ndS b n 13 (tkS b n 12 s1)) := by
      cases s1 with
      | inl f => rfl
      | inr T =>
        have hb' : isB b T 12 = false := hb
        unfold wyS tkS
        simp only [hb', Bool.false_eq_true, if_false]
    obtain ⟨J5, e1, e2, e3⟩ := m_needs (X := X) (d := g) (L := L) (q := 13) ((hM.r46 R2).r6 c2) c3 (by decide) (by omega)
    obtain ⟨p, s4, J4, K, d0, d1, d2, d3, d4, d5⟩ := m_inspT (X := X) (d := g) (L := L) (w := w) (c := c) (y := 1) (I := up3 J5 46 0 (33 + 5 * w 5 + 1) (nI 1)) (s3 := ndS b n 13 (tkS b n 12 s1)) (((hM.r46 R2).r6 c2).r6 e2 |>.r46 (R46.refl.up)) (e3.up46) (((Q2.r6 c2).r6 e2).up) rfl w5 (by omega)
    simp only [ey, d0]
    refine ⟨K, K_X11_readInspector.e X g I L _ ?_, ((R2.trans (c2.trans e2).r46).up).trans d3, d4, d5⟩
    rw [hk, x0, x1, x2, x3, x4, a1, a_bv_n]
    dsimp +instances only
    rw [b1', a_bi_i, if_neg (o 0 (by decide)), t 0 (by decide)]
    dsimp +instances only
    rw [c1, a_bi_i, if_pos beq0]
    dsimp +instances only
    rw [e1, a_bv_n, if_pos beq0, if_neg (o 1 (by decide)), t 1 (by decide)]
    dsimp +instances only
    have d1' : K_X11_told X g 14 (1 : Int32) (20 : Int32) (up3 J5 46 0 (33 + 5 * w 5 + 1) (1 : Int32), L, ()) = some (some (aI (nI p)), (J4, L, ())) := d1
    rw [d1', a_bi_i, if_neg (o 2 (by decide)), if_neg (o 3 (by decide)), if_neg (o 4 (by decide)), t 2 (by decide), t 3 (by decide), t 4 (by decide)]
    exact d2
theorem m_tk {q : Nat} {f : Bool} (hM : MB I n b) (h : RSt b n I s) (hb : isS b q s = f) (hq : q < 27) (hd : 7 ≤ d) : ∃ J, K_X11_takes X d q (I, L, ()) = some (some (aI (bI f)), (J, L, ())) ∧ R6 I J ∧ RSt b n J (tkS b n q s) := by
  subst hb; exact m_takes hM h hq hd
theorem tk_no {q : Nat} (hb : isS b q s = false) : tkS b n q s = s := by
  cases s with
  | inl f => rfl
  | inr T =>
    have hb' : isB b T q = false := hb
    unfold tkS
    simp only [hb', Bool.false_eq_true, if_false]
theorem tk_yes {q : Nat} {T : TK} (hb : isB b T q = true) : tkS b n q (.inr T) = .inr (nx b n T) := by
  unfold tkS
  simp only [hb, if_true]
theorem m_freshRule (hM : MB I n b) (h : RSt b n I s) (hd : 9 ≤ d) : ∃ J, K_X11_freshRule X d (I, L, ()) = some (some (aI (nI (ruS b n s).1)), (J, L, ())) ∧ R6 I J ∧ RSt b n J (ruS b n s).2 := by
  obtain ⟨g, rfl⟩ : ∃ g, d = g + 1 := ⟨d - 1, by omega⟩
  cases h1 : isS b 19 s with
  | true =>
    obtain ⟨J1, a1, a2, a3⟩ := m_tk (X := X) (d := g) (L := L) hM h h1 (by decide) (by omega)
    have er : ruS b n s = (0, tkS b n 19 s) := by
      cases s with
      | inl f => cases h1
      | inr T =>
        have h1' : isB b T 19 = true := h1
        rw [tk_yes h1']; unfold ruS; simp only [h1', if_true]
    rw [er]
    refine ⟨J1, K_X11_freshRule.e X g I L _ ?_, a2, a3⟩
    rw [a1, a_bi_i, if_neg bne1]
    rfl
  | false =>
    obtain ⟨J1, a1, a2, a3⟩ := m_tk (X := X) (d := g) (L := L) hM h h1 (by decide) (by omega)
    rw [tk_no h1] at a3
    cases h2 : isS b 20 s with
    | true =>
      obtain ⟨J2, b1, b2, b3⟩ := m_tk (X := X) (d := g) (L := L) (hM.r6 a2) a3 h2 (by decide) (by omega)
      have er : ruS b n s = (1, tkS b n 20 s) := by
        cases s with
        | inl f => cases h2
        | inr T =>
          have h1' : isB b T 19 = false := h1
          have h2' : isB b T 20 = true := h2
          rw [tk_yes h2']; unfold ruS; simp only [h1', h2', Bool.false_eq_true, if_false, if_true]
      rw [er]
      refine ⟨J2, K_X11_freshRule.e X g I L _ ?_, a2.trans b2, b3⟩
      rw [a1, a_bi_i, if_pos beq0]
      dsimp +instances only
      rw [b1, a_bi_i, if_neg bne1]
      rfl
    | false =>
      obtain ⟨J2, b1, b2, b3⟩ := m_tk (X := X) (d := g) (L := L) (hM.r6 a2) a3 h2 (by decide) (by omega)
      rw [tk_no h2] at b3
      cases h3 : isS b 8 s with
      | true =>
        obtain ⟨J3, c1, c2, c3⟩ := m_tk (X := X) (d := g) (L := L) ((hM.r6 a2).r6 b2) b3 h3 (by decide) (by omega)
        have er : ruS b n s = (2, tkS b n 8 s) := by
          cases s with
          | inl f => cases h3
          | inr T =>
            have h1' : isB b T 19 = false := h1
            have h2' : isB b T 20 = false := h2
            have h3' : isB b T 8 = true := h3
            rw [tk_yes h3']; unfold ruS; simp only [h1', h2', h3', Bool.false_eq_true, if_false, if_true]
        rw [er]
        refine ⟨J3, K_X11_freshRule.e X g I L _ ?_, (a2.trans b2).trans c2, c3⟩
        rw [a1, a_bi_i, if_pos beq0]
        dsimp +instances only
        rw [b1, a_bi_i, if_pos beq0]
        dsimp +instances only
        rw [c1, a_bi_i, if_neg bne1]
        rfl
      | false =>
        obtain ⟨J3, c1, c2, c3⟩ := m_tk (X := X) (d := g) (L := L) ((hM.r6 a2).r6 b2) b3 h3 (by decide) (by omega)
        rw [tk_no h3] at c3
        obtain ⟨J4, d1, d2, d3⟩ := m_needs (X := X) (d := g) (L := L) (q := 21) (((hM.r6 a2).r6 b2).r6 c2) c3 (by decide) (by omega)
        have er : ruS b n s = (3, ndS b n 21 s) := by
          cases s with
          | inl f => rfl
          | inr T =>
            have h1' : isB b T 19 = false := h1
            have h2' : isB b T 20 = false := h2
            have h3' : isB b T 8 = false := h3
            unfold ruS; simp only [h1', h2', h3', Bool.false_eq_true, if_false]
        rw [er]
        refine ⟨J4, K_X11_freshRule.e X g I L _ ?_, ((a2.trans b2).trans c2).trans d2, d3⟩
        rw [a1, a_bi_i, if_pos beq0]
        dsimp +instances only
        rw [b1, a_bi_i, if_pos beq0]
        dsimp +instances only
        rw [c1, a_bi_i, if_pos beq0]
        dsimp +instances only
        rw [d1, a_bv_n]
        rfl
theorem wRi_eq {c y p l : Nat} {t : Bool} : wup (wup (wup (wup (wup (wup w (48 + 5 * w 6 + 0) c) (48 + 5 * w 6 + 1) y) (48 + 5 * w 6 + 2) p) (48 + 5 * w 6 + 3) l) (48 + 5 * w 6 + 4) t.toNat) 6 (w 6 + 1) = wRi w c y p l t := by
  unfold wRi
  rw [wup_comm _ _ _ (show 48 + 5 * w 6 + 4 ≠ 6 by omega), wup_comm _ _ _ (show 48 + 5 * w 6 + 3 ≠ 6 by omega), wup_comm _ _ _ (show 48 + 5 * w 6 + 2 ≠ 6 by omega), wup_comm _ _ _ (show 48 + 5 * w 6 + 1 ≠ 6 by omega), wup_comm _ _ _ (show 48 + 5 * w 6 + 0 ≠ 6 by omega)]
  rw [show 48 + (w 6 * 5 + 0) = 48 + 5 * w 6 + 0 by omega, show 48 + (w 6 * 5 + 1) = 48 + 5 * w 6 + 1 by omega, show 48 + (w 6 * 5 + 2) = 48 + 5 * w 6 + 2 by omega, show 48 + (w 6 * 5 + 3) = 48 + 5 * w 6 + 3 by omega, show 48 + (w 6 * 5 + 4) = 48 + 5 * w 6 + 4 by omega]
theorem m_riderL (hM : MB I n b) (h : RSt b n I s) (hQ : FQ I w) (w0 : 2 ≤ w 0 ∧ w 0 ≤ 8) (w6 : w 6 < 6) (hd : 10 ≤ d) : ∃ J, K_X11_readRider X d (I, L, ()) = some (none, (J, L, ())) ∧ R46 I J ∧ RSt b n J (tkS b n 24 (ri4 b n w s).2) ∧ FQ J (pRi b n w s).2 := by
  obtain ⟨g, rfl⟩ : ∃ g, d = g + 1 := ⟨d - 1, by omega⟩
  have hk : (48 : Int32) + 5 * I 46 0 6 = nI (48 + 5 * w 6) := by
    rw [hQ 6 (by decide), show (48 : Int32) = nI 48 from rfl, show (5 : Int32) = nI 5 from rfl, n_mul, n_add]
  have xi : ∀ m, nI (48 + 5 * w 6) + nI m = nI (48 + 5 * w 6 + m) := fun m => n_add _ _
  have o : ∀ m, m < 5 → ¬ aout (nI (48 + 5 * w 6 + m)) 325 := fun m hm => by rw [n_out (by omega)]; omega
  have t : ∀ m, m < 5 → (nI (48 + 5 * w 6 + m)).toNatClampNeg = 48 + 5 * w 6 + m := fun m hm => n_toN (by omega)
  have x0 : nI (48 + 5 * w 6) + 0 = nI (48 + 5 * w 6 + 0) := xi 0
  have x1 : nI (48 + 5 * w 6) + 1 = nI (48 + 5 * w 6 + 1) := xi 1
  have x2 : nI (48 + 5 * w 6) + 2 = nI (48 + 5 * w 6 + 2) := xi 2
  have x3 : nI (48 + 5 * w 6) + 3 = nI (48 + 5 * w 6 + 3) := xi 3
  have x4 : nI (48 + 5 * w 6) + 4 = nI (48 + 5 * w 6 + 4) := xi 4
  obtain ⟨J1, a1, a2, a3⟩ := m_needs (X := X) (d := g) (L := L) (q := 18) hM h (by decide) (by omega)
  obtain ⟨J2, b1, b2, b3⟩ := m_freshCoach (X := X) (d := g) (L := L) (hM.r6 a2) a3 ((hQ.r6 a2) 0 (by decide)) w0 (by omega)
  unfold pRi ri4 ri3 ri2 ri1
  rw [show nmS b n 0 (w 0 - 1) (ndS b n 18 s) = toS b n 18 0 (w 0 - 1) s from rfl] at b1 b3
  generalize toS b n 18 0 (w 0 - 1) s = r1 at b1 b3 ⊢
  obtain ⟨c, s1⟩ := r1
  have R2 : R46 I (up3 J2 46 0 (48 + 5 * w 6 + 0) (nI c)) := ((a2.trans b2).r46).up
  have Q2 : FQ (up3 J2 46 0 (48 + 5 * w 6 + 0) (nI c)) (wup w (48 + 5 * w 6 + 0) c) := (hQ.r6 (a2.trans b2)).up
  obtain ⟨J3, c1, c2, c3⟩ := m_freshRule (X := X) (d := g) (L := L) (hM.r46 R2) (b3.up46 (j := 48 + 5 * w 6 + 0) (x := nI c)) (by omega)
  simp only at c1 c3 ⊢
  generalize ruS b n s1 = r2 at c1 c3 ⊢
  obtain ⟨y, s2⟩ := r2
  have R3 : R46 I (up3 J3 46 0 (48 + 5 * w 6 + 1) (nI y)) := (R2.trans c2.r46).up
  have Q3 := ((Q2.r6 c2).up (c := 48 + 5 * w 6 + 1) (z := y))
  obtain ⟨J4, d1, d2, d3⟩ := m_told (X := X) (d := g) (L := L) (q := 22) (lo := 0) (hi := 7) (hM.r46 R3) (c3.up46 (j := 48 + 5 * w 6 + 1) (x := nI y)) (by decide) (by decide) (by decide) (by omega)
  simp only at d1 d3 ⊢
  generalize toS b n 22 0 7 s2 = r3 at d1 d3 ⊢
  obtain ⟨p, s3⟩ := r3
  have d1' : K_X11_told X g 22 (0 : Int32) (7 : Int32) (up3 J3 46 0 (48 + 5 * w 6 + 1) (nI y), L, ()) = some (some (aI (nI p)), (J4, L, ())) := d1
  have R4' : R46 I (up3 J4 46 0 (48 + 5 * w 6 + 2) (nI p)) := (R3.trans d2.r46).up
  have Q4 := ((Q3.r6 d2).up (c := 48 + 5 * w 6 + 2) (z := p))
  obtain ⟨J5, e1, e2, e3⟩ := m_told (X := X) (d := g) (L := L) (q := 23) (lo := 0) (hi := 100) (hM.r46 R4') (d3.up46 (j := 48 + 5 * w 6 + 2) (x := nI p)) (by decide) (by decide) (by decide) (by omega)
  simp only at e1 e3 ⊢
  generalize toS b n 23 0 100 s3 = r4 at e1 e3 ⊢
  obtain ⟨l, s4⟩ := r4
  have e1' : K_X11_told X g 23 (0 : Int32) (100 : Int32) (up3 J4 46 0 (48 + 5 * w 6 + 2) (nI p), L, ()) = some (some (aI (nI l)), (J5, L, ())) := e1
  have R5 : R46 I (up3 J5 46 0 (48 + 5 * w 6 + 3) (nI l)) := (R4'.trans e2.r46).up
  have Q5 := ((Q4.r6 e2).up (c := 48 + 5 * w 6 + 3) (z := l))
  obtain ⟨J6, f1, f2, f3⟩ := m_takes (X := X) (d := g) (L := L) (q := 24) (hM.r46 R5) (e3.up46 (j := 48 + 5 * w 6 + 3) (x := nI l)) (by decide) (by omega)
  simp only at f1 f3 ⊢
  generalize isS b 24 s4 = tb at f1 ⊢
  have Q6 : FQ (up3 J6 46 0 (48 + 5 * w 6 + 4) (bI tb)) _ := ((Q5.r6 f2).up (c := 48 + 5 * w 6 + 4) (z := tb.toNat))
  have c6 : (up3 J6 46 0 (48 + 5 * w 6 + 4) (bI tb)) 46 0 6 = nI (w 6) := by
    rw [Q6 6 (by decide), wup_ne _ _ (by omega), wup_ne _ _ (by omega), wup_ne _ _ (by omega), wup_ne _ _ (by omega), wup_ne _ _ (by omega)]
  refine ⟨up3 (up3 J6 46 0 (48 + 5 * w 6 + 4) (bI tb)) 46 0 6 (nI (w 6 + 1)), K_X11_readRider.e X g I L _ ?_, (((R5.trans f2.r46).up).up), (f3.up46).up46, by rw [← wRi_eq]; exact Q6.up⟩
  rw [hk, x0, x1, x2, x3, x4, a1, a_bv_n]
  dsimp +instances only
  rw [b1, a_bi_i, if_neg (o 0 (by decide)), t 0 (by decide)]
  dsimp +instances only
  rw [c1, a_bi_i, if_neg (o 1 (by decide)), t 1 (by decide)]
  dsimp +instances only
  rw [d1', a_bi_i, if_neg (o 2 (by decide)), t 2 (by decide)]
  dsimp +instances only
  rw [e1', a_bi_i, if_neg (o 3 (by decide)), t 3 (by decide)]
  dsimp +instances only
  rw [f1, a_bi_i, show nI (w 6 + 1) = nI (w 6) + 1 from (n_add _ 1).symm, ← c6]
  cases tb with
  | true =>
    rw [if_neg bne1, if_neg (o 4 (by decide)), t 4 (by decide)]
    rfl
  | false =>
    rw [if_pos beq0, if_neg (o 4 (by decide)), t 4 (by decide)]
    rfl
end
