/-! train, for both -/
section
variable {X : AX} {d : Nat} {I J : A3 Int32} {L L' : A3 Int64} {w : TW} {e : CE} {im : TI} {n : Nat} {b : Nat → Int8} {t : TS} {s : PS}
theorem FrC.rw {f : Nat} (h : FrC I J) {K : A3 Int32} (hR : Rw f 1 J K) (h1 : 5 ≤ f) (h2 : f ≤ 11) : FrC I K := fun g q h3 h4 hz => by
  rw [hR g q (by omega)]; exact h g q h3 h4 hz
theorem TB.of (h : TT I n b) : TB I n b := ⟨h.1, h.2.1, fun j hj => (h.2.2.2 j hj).1⟩
theorem fl_of {K : A3 Int32} (h : CPt b n I s) (h2 : RSt b n K s) : K 40 0 12 = I 3 0 1 ∧ K 40 0 13 = I 3 0 2 := by
  cases s with
  | inl f =>
    obtain ⟨k, p⟩ := f
    exact ⟨h2.1.trans h.1.symm, h2.2.2.trans h.2.2.symm⟩
  | inr T => exact ⟨h2.1.trans h.1.symm, h2.2.1.trans h.2.1.symm⟩
/-- the class begins -/
theorem c_startT (hT : TB I n b) : ∃ K, FrC I K ∧ CPt b n K (.inr (tk b n 0)) ∧ TQ K 1 zw e ∧ ∀ r, v_X4_readInto_23 X 13 1 (nI 0) (K, L, ()) = some r → K_X4_readInto X 14 1 (I, L, ()) = some r := by
  obtain ⟨J0, f0, g0, k0⟩ := c_fill (X := X) (d := 12) (L := L) (I := up3 (up3 I 3 0 1 (0 : Int32)) 3 0 2 (-1 : Int32)) (f := 6) (i := 1) (n := 8) (x := (0 : Int32)) rfl rfl (by decide) (by omega)
  obtain ⟨J1, f1, g1, k1⟩ := c_fill (X := X) (d := 12) (L := L) (I := J0) (f := 7) (i := 1) (n := 24) (x := (0 : Int32)) rfl rfl (by decide) (by omega)
  obtain ⟨J2, f2, g2, k2⟩ := c_fill (X := X) (d := 12) (L := L) (I := J1) (f := 8) (i := 1) (n := 15) (x := (0 : Int32)) rfl rfl (by decide) (by omega)
  obtain ⟨J3, f3, g3, k3⟩ := c_fill (X := X) (d := 12) (L := L) (I := J2) (f := 9) (i := 1) (n := 30) (x := (0 : Int32)) rfl rfl (by decide) (by omega)
  obtain ⟨J4, f4, g4, k4⟩ := c_fill (X := X) (d := 12) (L := L) (I := J3) (f := 10) (i := 1) (n := 7) (x := (0 : Int32)) rfl rfl (by decide) (by omega)
  have F0 : FrC I (up3 (up3 I 3 0 1 (0 : Int32)) 3 0 2 (-1 : Int32)) := fun f q h3 _ _ => by rw [u3_f _ _ h3, u3_f _ _ h3]
  have F4 : FrC I J4 := ((((F0.rw g0 (by decide) (by decide)).rw g1 (by decide) (by decide)).rw g2 (by decide) (by decide)).rw g3 (by decide) (by decide)).rw g4 (by decide) (by decide)
  have F5 : FrC I (up3 J4 5 1 6 (0 : Int32)) := F4.up (by decide) (by decide)
  have F6 : FrC I (up3 (up3 J4 5 1 6 (0 : Int32)) 4 0 3 (0 : Int32)) := fun f q h3 h4 hz => by rw [u3_f _ _ h4]; exact F5 f q h3 h4 hz
  obtain ⟨K, a1, a2, a3⟩ := c_advance (X := X) (d := 12) (L := L) (p := 0) (hT.frc F6) (Nat.zero_le _) (u3_eq _ _ _ _ _) (by omega)
  have e3 : ∀ j, K 3 0 j = (up3 (up3 I 3 0 1 (0 : Int32)) 3 0 2 (-1 : Int32)) 3 0 j := fun j => by
    rw [a2 3 (by decide), u3_f _ _ (by decide), u3_f _ _ (by decide), g4.fam (by decide), g3.fam (by decide), g2.fam (by decide), g1.fam (by decide), g0.fam (by decide)]
  have kf : ∀ f, 5 ≤ f → K f 1 = (up3 J4 5 1 6 (0 : Int32)) f 1 := fun f hf => by
    rw [a2 f (by simp; omega), u3_f _ _ (by omega)]
  refine ⟨K, fun f q h3 h4 hz => by rw [a2 f (by simp; omega)]; exact F6 f q h3 h4 hz, ⟨by rw [e3, u3_j _ _ (by decide), u3_eq]; rfl, by rw [e3, u3_eq]; rfl, a3, 0, Nat.zero_le _, rfl⟩, ?_, fun r hr => K_X4_readInto.e X 13 1 I L r ?_⟩
  · refine ⟨⟨fun j hj => ?_, fun j hj => ?_, fun j hj => ?_, fun j hj => ?_, fun j hj => ?_⟩, ?_, fun k hk => absurd hk (Nat.not_lt_zero _)⟩
    · rw [kf 6 (by decide), u3_f _ _ (by decide), g4.fam (by decide), g3.fam (by decide), g2.fam (by decide), g1.fam (by decide)]; exact k0 j hj
    · rw [kf 7 (by decide), u3_f _ _ (by decide), g4.fam (by decide), g3.fam (by decide), g2.fam (by decide)]; exact k1 j hj
    · rw [kf 8 (by decide), u3_f _ _ (by decide), g4.fam (by decide), g3.fam (by decide)]; exact k2 j hj
    · rw [kf 9 (by decide), u3_f _ _ (by decide), g4.fam (by decide)]; exact k3 j hj
    · rw [kf 10 (by decide), u3_f _ _ (by decide)]; exact k4 j hj
    · rw [kf 5 (by decide), u3_eq]; rfl
  · have e1 : K_X9_clear X 13 1 (up3 (up3 I 3 0 1 (0 : Int32)) 3 0 2 (-1 : Int32), L, ()) = some (none, (up3 J4 5 1 6 (0 : Int32), L, ())) := by
      refine K_X9_clear.e X 12 1 _ L _ ?_
      rw [f0, a_bv_n]
      dsimp +instances only
      rw [f1, a_bv_n]
      dsimp +instances only
      rw [f2, a_bv_n]
      dsimp +instances only
      rw [f3, a_bv_n]
      dsimp +instances only
      rw [f4, a_bv_n]
    have e2 : K_X8_restart X 13 (up3 J4 5 1 6 (0 : Int32), L, ()) = some (none, (K, L, ())) := by
      refine K_X8_restart.e X 12 _ L _ ?_
      rw [a1, a_bv_n]
    rw [e1, a_bv_n]
    dsimp +instances only
    rw [e2, a_bv_n]
    exact hr
/-- the reference begins -/
theorem m_startT (hn : n ≤ 1200) (h5 : I 40 0 5 = nI n) (h44 : ∀ j, j < n → I 44 0 j = (b j).toInt32) : ∃ K, MB K n b ∧ RSt b n K (.inr (tk b n 0)) ∧ FQ K zw ∧ Fm [40, 46] I K ∧ K 40 0 5 = nI 0 ∧ ∀ r, v_X11_train_54 X 14 (K, L, ()) = some r → K_X11_train X 15 (I, L, ()) = some r := by
  obtain ⟨J, ⟨g1, g2⟩, g3⟩ := loop_z (F := fun m (J : A3 Int32) => v_X11_train_30 X 14 (nI m) (J, L, ())) (P := fun m J => Fm [46] (up3 (up3 (up3 (up3 (up3 I 40 0 7 (I 40 0 5)) 40 0 5 (0 : Int32)) 40 0 8 (0 : Int32)) 40 0 12 (0 : Int32)) 40 0 13 (-1 : Int32)) J ∧ ∀ j, j < m → J 46 0 j = nI 0) 325 (up3 (up3 (up3 (up3 (up3 I 40 0 7 (I 40 0 5)) 40 0 5 (0 : Int32)) 40 0 8 (0 : Int32)) 40 0 12 (0 : Int32)) 40 0 13 (-1 : Int32)) ⟨Fm.refl, fun j hj => by omega⟩ (fun m J hm hP => by
    refine ⟨up3 J 46 0 m (nI 0), ⟨hP.1.up (by decide), fun j hj => ?_⟩, fun r hr => ?_⟩
    · by_cases ej : j = m
      · subst ej; exact u3_eq _ _ _ _ _
      · rw [u3_j _ _ ej]; exact hP.2 j (by omega)
    · refine v_X11_train_30.e X 14 _ J L r ?_
      rw [if_pos (show nI m < 325 from (n_lt (b := 325) (by omega) (by decide)).mpr hm), if_neg (show ¬ aout (nI m) 325 by rw [n_out (by omega)]; omega), n_toN (show m < 2147483648 by omega), show nI m + 1 = nI (m + 1) from n_add m 1]
      exact hr)
  have c : ∀ j, J 40 0 j = (up3 (up3 (up3 (up3 (up3 I 40 0 7 (I 40 0 5)) 40 0 5 (0 : Int32)) 40 0 8 (0 : Int32)) 40 0 12 (0 : Int32)) 40 0 13 (-1 : Int32)) 40 0 j := fun j => by rw [g1 40 (by decide)]
  have c7 : J 40 0 7 = nI n := by rw [c, u3_j _ _ (by decide), u3_j _ _ (by decide), u3_j _ _ (by decide), u3_j _ _ (by decide), u3_eq]; exact h5
  have c5 : J 40 0 5 = nI 0 := by rw [c, u3_j _ _ (by decide), u3_j _ _ (by decide), u3_j _ _ (by decide), u3_eq]; rfl
  have c8 : J 40 0 8 = nI 0 := by rw [c, u3_j _ _ (by decide), u3_j _ _ (by decide), u3_eq]; rfl
  have c12 : J 40 0 12 = nI 0 := by rw [c, u3_j _ _ (by decide), u3_eq]; rfl
  have c13 : J 40 0 13 = nN := by rw [c, u3_eq]; rfl
  have c0 : ∀ f, f ≠ 40 → f ≠ 46 → J f = I f := fun f h1 h2 => by rw [g1 f (by simp; omega), u3_f _ _ h1, u3_f _ _ h1, u3_f _ _ h1, u3_f _ _ h1, u3_f _ _ h1]
  have M : MB J n b := ⟨hn, c7, fun j hj => by rw [c0 44 (by decide) (by decide)]; exact h44 j hj⟩
  obtain ⟨K, a1, a2, a3⟩ := m_advance (X := X) (d := 14) (L := L) (p := 0) M (Nat.zero_le _) c8 (by omega)
  refine ⟨K, M.r4 a2, ⟨by rw [a2.2 12 (by decide)]; exact c12, by rw [a2.2 13 (by decide)]; exact c13, a3, 0, Nat.zero_le _, rfl⟩, fun j hj => by rw [a2.1 46 (by decide)]; exact g2 j (by omega), fun f hf => ?_, by rw [a2.2 5 (by decide)]; exact c5, fun r hr => K_X11_train.e X 14 I L r (g3 r (v_X11_train_30.e X 14 _ J L r ?_))⟩
  · simp at hf
    rw [a2.1 f (by simp; omega)]; exact c0 f hf.1 hf.2
  · rw [if_neg (show ¬ nI 325 < 325 by decide), a1, a_bv_n]
    exact hr
/-- the reference ends -/
theorem m_copyT : ∃ J, v_X11_train_87 X d (0 : Int32) (I, L, ()) = some (some (aI (J 41 0 7)), (J, L, ())) ∧ Fm [41] I J ∧ ∀ j, j < 325 → J 41 0 j = I 46 0 j := by
  obtain ⟨J, ⟨g1, g2⟩, g3⟩ := loop_z (F := fun m (J : A3 Int32) => v_X11_train_87 X d (nI m) (J, L, ())) (P := fun m J => Fm [41] I J ∧ ∀ j, j < m → J 41 0 j = I 46 0 j) 325 I ⟨Fm.refl, fun j hj => by omega⟩ (fun m J hm hP => by
    refine ⟨up3 J 41 0 m (J 46 0 m), ⟨hP.1.up (by decide), fun j hj => ?_⟩, fun r hr => ?_⟩
    · by_cases ej : j = m
      · subst ej; rw [u3_eq, hP.1 46 (by decide)]
      · rw [u3_j _ _ ej]; exact hP.2 j (by omega)
    · refine v_X11_train_87.e X d _ J L r ?_
      have o : ¬ aout (nI m) 325 := by rw [n_out (by omega)]; omega
      rw [if_pos (show nI m < 325 from (n_lt (b := 325) (by omega) (by decide)).mpr hm), if_neg o, if_neg o, n_toN (show m < 2147483648 by omega), show nI m + 1 = nI (m + 1) from n_add m 1]
      exact hr)
  refine ⟨J, g3 _ (v_X11_train_87.e X d _ J L _ ?_), g1, g2⟩
  rw [if_neg (show ¬ nI 325 < 325 by decide)]
theorem g_train (hR : Rel I L) : Good (K_X10_train X 15) (K_X11_train X 15) I L := by
  obtain ⟨w, e, im, n, b, t, h, hh⟩ := id hR
  obtain ⟨b1, b2, b3, b4, b5, b6, b7, b8, b9, b10⟩ := id h
  have hT : TB I n b := TB.of b6
  obtain ⟨S, s1, s2, s3, s4⟩ := c_startT (X := X) (L := L) (e := fun _ => (0, 0, 0)) hT
  obtain ⟨K0, p1, p2, p3, p4, p5, p6⟩ := m_startT (X := X) (L := L) b6.1 b6.2.2.1 (fun j hj => (b6.2.2.2 j hj).2)
  obtain ⟨ok, I1, -, -, q1, q2, -⟩ := loops (X := X) (L := L) (L' := L) (d := 13) (d' := 14) (by decide) (by decide) (n - (tk b n 0).2.1) (tk b n 0) zw S K0 (Nat.le_refl _) (hT.frc s1) s2 s3 p1 p2 p3 (fun _ => rfl) Vw.zero rfl (Nat.zero_le _)
  have F1 : FrC I I1 := s1.trans q2
  have r1 : K_X4_readInto X 14 1 (I, L, ()) = some (some (aI (bI ok)), (I1, L, ())) := s4 _ q1
  -- the reference, wherever the class ends
  have ref : ∀ I', I' 40 = I 40 → I' 44 = I 44 → ∃ K' s, Fm [40, 46] I' K' ∧ K' 40 0 5 = nI 0 ∧ CPt b n I1 s ∧ RSt b n K' s ∧ gd s = ok ∧ (ok = true → ∃ w', TQ I1 1 w' (fun _ => (0, 0, 0)) ∧ FQ K' w' ∧ Vw w' ∧ w' 8 = 0) ∧ ∀ r, (if ok = true then v_X11_train_87 X 14 (0 : Int32) (K', L, ()) else some (some (aI (-4 : Int32)), (K', L, ()))) = some r → K_X11_train X 15 (I', L, ()) = some r := fun I' e40 e44 => by
    obtain ⟨K0, p1, p2, p3, p4, p5, p6⟩ := m_startT (X := X) (L := L) (I := I') (b := b) b6.1 (by rw [e40]; exact b6.2.2.1) (fun j hj => by rw [e44]; exact (b6.2.2.2 j hj).2)
    obtain ⟨ok2, I2, K', s, c1, c2, c3, c4, c5, c6, c7, c8⟩ := loops (X := X) (L := L) (L' := L) (d := 13) (d' := 14) (by decide) (by decide) (n - (tk b n 0).2.1) (tk b n 0) zw S K0 (Nat.le_refl _) (hT.frc s1) s2 s3 p1 p2 p3 (fun _ => rfl) Vw.zero rfl (Nat.zero_le _)
    have ee := c1.symm.trans q1
    simp only [Option.some.injEq, Prod.mk.injEq, Sum.inl.injEq] at ee
    have e1 : I2 = I1 := ee.2.1
    have e2 : ok2 = ok := by
      have e3 : bI ok2 = bI ok := ee.1
      cases ok2 <;> cases ok <;> first | rfl | exact absurd e3 (by decide)
    subst e1 e2
    exact ⟨K', s, p4.trans c3.1, by rw [c3.2 5 (by decide)]; exact p5, c4, c5, c6, c7, fun r hr => p6 r (c8 r hr)⟩
  cases ok with
  | false =>
    have i40 : ∀ f, (12 ≤ f) → (up3 I1 1 0 1 (0 : Int32)) f = I f := fun f hf => by rw [u3_f _ _ (by omega)]; exact funext fun q => F1 f q (by omega) (by omega) (Or.inl (by omega))
    obtain ⟨K', s, k1, k2, k3, k4, k5, -, k7⟩ := ref (up3 I1 1 0 1 (0 : Int32)) (i40 40 (by decide)) (i40 44 (by decide))
    have jF : ∀ f q, f ≠ 1 → f ≠ 3 → f ≠ 4 → f ≠ 40 → f ≠ 46 → ((f < 5 ∨ 11 < f) ∨ q ≠ 1) → K' f q = I f q := fun f q h1 h3 h4 h40 h46 hz => by
      rw [k1 f (by simp; omega), u3_f _ _ h1]; exact F1 f q h3 h4 hz
    have jG : ∀ f, f ≠ 1 → f ≠ 3 → f ≠ 4 → f ≠ 40 → f ≠ 46 → (f < 5 ∨ 11 < f) → K' f = I f := fun f h1 h3 h4 h40 h46 hz => funext fun q => jF f q h1 h3 h4 h40 h46 (Or.inl hz)
    refine ⟨-4, up3 I1 1 0 1 (0 : Int32), L, K', L, K_X10_train.e X 14 I L _ ?_, k7 _ (if_neg (by decide)), w, e, im, 0, b, t, ⟨?_, ?_, b3, b4, ?_, ?_, ?_, ?_, ?_, b10⟩, ?_⟩
    · rw [r1, a_bi_i, if_pos beq0]
    · exact b1.fams (fun f h1 h2 => jF f 0 (by omega) (by omega) (by omega) (by omega) (by omega) (Or.inr (by decide)))
    · rw [jG 41 (by decide) (by decide) (by decide) (by decide) (by decide) (by decide)]; exact b2
    · exact b5.fams (fun f q h1 h2 hq => jF f q (by omega) (by omega) (by omega) (by omega) (by omega) (Or.inr (by omega))) (jG 42 (by decide) (by decide) (by decide) (by decide) (by decide) (by decide)) (jG 43 (by decide) (by decide) (by decide) (by decide) (by decide) (by decide))
    · exact ⟨Nat.zero_le _, by rw [k1 1 (by decide), u3_eq]; rfl, k2, fun j hj => absurd hj (Nat.not_lt_zero _)⟩
    · have := fl_of k3 k4
      unfold FL
      rw [k1 3 (by decide), u3_f _ _ (by decide)]; exact this
    · unfold SC
      rw [jG 32 (by decide) (by decide) (by decide) (by decide) (by decide) (by decide)]; exact b8
    · unfold SM
      rw [jG 59 (by decide) (by decide) (by decide) (by decide) (by decide) (by decide), jG 60 (by decide) (by decide) (by decide) (by decide) (by decide) (by decide)]; exact b9
    · exact hh.fams (jG 28 (by decide) (by decide) (by decide) (by decide) (by decide) (by decide)) (jG 30 (by decide) (by decide) (by decide) (by decide) (by decide) (by decide))
  | true =>
    have tO : ∀ f q, ((f < 5 ∨ 11 < f) ∨ q ≠ 0) → tf7 (up3 I1 1 0 1 (0 : Int32)) 0 1 f q = (up3 I1 1 0 1 (0 : Int32)) f q := fun f q hz => tf7_off hz
    have i40 : ∀ f, (12 ≤ f) → f ≠ 28 → (up3 (tf7 (up3 I1 1 0 1 (0 : Int32)) 0 1) 28 0 7 (nI 0)) f = I f := fun f hf h28 => by
      rw [u3_f _ _ h28]
      refine funext fun q => ?_
      rw [tO f q (Or.inl (by omega)), u3_f _ _ (by omega)]; exact F1 f q (by omega) (by omega) (Or.inl (by omega))
    obtain ⟨K', s, k1, k2, k3, k4, k5, k6, k7⟩ := ref (up3 (tf7 (up3 I1 1 0 1 (0 : Int32)) 0 1) 28 0 7 (nI 0)) (i40 40 (by decide) (by decide)) (i40 44 (by decide) (by decide))
    obtain ⟨w', d1, d2, d3, d4⟩ := k6 rfl
    obtain ⟨J, m1, m2, m3⟩ := m_copyT (X := X) (d := 14) (L := L) (I := K')
    have d1' : TQ (up3 I1 1 0 1 (0 : Int32)) 1 w' (fun _ => (0, 0, 0)) := d1.fams (fun f h1 h2 => by rw [u3_f _ _ (by omega)])
    have Q : TQ (up3 (tf7 (up3 I1 1 0 1 (0 : Int32)) 0 1) 28 0 7 (nI 0)) 0 w' (fun _ => (0, 0, 0)) := (tf7_q (i := 0) (by omega) d1').fams (fun f h1 h2 => by rw [u3_f _ _ (by omega)])
    have e7 : J 41 0 7 = nI (w' 7) := by rw [m3 7 (by decide)]; exact d2 7 (by decide)
    rw [e7] at m1
    have jA : ∀ f, f ≠ 40 → f ≠ 41 → f ≠ 46 → J f = (up3 (tf7 (up3 I1 1 0 1 (0 : Int32)) 0 1) 28 0 7 (nI 0)) f := fun f h1 h2 h3 => by rw [m2 f (by simp; omega), k1 f (by simp; omega)]
    have jG : ∀ f, 12 ≤ f → f ≠ 28 → f ≠ 40 → f ≠ 41 → f ≠ 46 → J f = I f := fun f h0 h28 h1 h2 h3 => by rw [jA f h1 h2 h3]; exact i40 f h0 h28
    have jI : ∀ f q, 5 ≤ f → f ≤ 11 → 2 ≤ q → J f q = I f q := fun f q h1 h2 hq => by
      rw [jA f (by omega) (by omega) (by omega), u3_f _ _ (by omega), tO f q (Or.inr (by omega)), u3_f _ _ (by omega)]; exact F1 f q (by omega) (by omega) (Or.inr (by omega))
    have j5 : ∀ f q, f < 5 → J f q = (up3 I1 1 0 1 (0 : Int32)) f q := fun f q hf => by
      rw [jA f (by omega) (by omega) (by omega), u3_f _ _ (by omega), tO f q (Or.inl (by omega))]
    refine ⟨nI (w' 7), up3 (tf7 (up3 I1 1 0 1 (0 : Int32)) 0 1) 28 0 7 (nI 0), L, J, L, K_X10_train.e X 14 I L _ ?_, k7 _ (by rw [if_pos rfl]; exact m1), w', fun _ => (0, 0, 0), im, 0, b, t, ⟨?_, ?_, d3, ?_, ?_, ?_, ?_, ?_, ?_, b10⟩, ?_⟩
    · rw [r1, a_bi_i, if_neg bne1]
      dsimp +instances only
      rw [c_takeF (by omega), a_bv_n]
      dsimp +instances only
      rw [c_forget (by omega), a_bv_n]
      dsimp +instances only
      rw [c_lines Q.1 d3 (by omega), a_bi_i]
    · exact Q.fams (fun f h1 h2 => by rw [jA f (by omega) (by omega) (by omega)])
    · exact ⟨fun j hj => by rw [m3 j (by omega)]; exact d2 j hj, fun k hk => absurd hk (by omega)⟩
    · exact fun k hk => absurd hk (by omega)
    · exact b5.fams jI (jG 42 (by decide) (by decide) (by decide) (by decide) (by decide)) (jG 43 (by decide) (by decide) (by decide) (by decide) (by decide))
    · exact ⟨Nat.zero_le _, by rw [j5 1 0 (by decide), u3_eq]; rfl, by rw [m2 40 (by decide)]; exact k2, fun j hj => absurd hj (Nat.not_lt_zero _)⟩
    · have := fl_of k3 k4
      unfold FL
      rw [m2 40 (by decide), j5 3 0 (by decide), u3_f _ _ (by decide)]; exact this
    · unfold SC
      rw [jG 32 (by decide) (by decide) (by decide) (by decide) (by decide)]; exact b8
    · unfold SM
      rw [jG 59 (by decide) (by decide) (by decide) (by decide) (by decide), jG 60 (by decide) (by decide) (by decide) (by decide) (by decide)]; exact b9
    · exact Or.inl (by rw [jA 28 (by decide) (by decide) (by decide), u3_eq])
end
