/-! the reference's line, whole -/
section
variable {X : AX} {d : Nat} {I J : A3 Int32} {L : A3 Int64} {b : Nat → Int8} {n : Nat} {w : TW} {s : PS}
theorem m_tail (hM : MB I n b) (h : RSt b n I s) (hd : 3 ≤ d) : ∃ K, (a_bi (K_X11_good X d (I, L, ())) fun x2 s2 => (if x2 = (0) then (a_bi (K_X11_good X d (s2.1, s2.2.1, ())) fun x3 s3 => (if x3 = (0) then some (none, ((up3 s3.1 46 0 7 ((s3.1 46 0 7) + (1))), s3.2.1, ())) else (a_bv (K_X11_advance X d (s3.1, s3.2.1, ())) fun s4 => some (none, ((up3 s4.1 46 0 7 ((s4.1 46 0 7) + (1))), s4.2.1, ()))))) else (if s2.1 40 0 10 = (3) then (a_bi (K_X11_good X d (s2.1, s2.2.1, ())) fun x5 s5 => (if x5 = (0) then some (none, ((up3 s5.1 46 0 7 ((s5.1 46 0 7) + (1))), s5.2.1, ())) else (a_bv (K_X11_advance X d (s5.1, s5.2.1, ())) fun s6 => some (none, ((up3 s6.1 46 0 7 ((s6.1 46 0 7) + (1))), s6.2.1, ()))))) else (a_bv (K_X11_errs X d (1) (s2.1, s2.2.1, ())) fun s7 => (a_bi (K_X11_good X d (s7.1, s7.2.1, ())) fun x8 s8 => (if x8 = (0) then some (none, ((up3 s8.1 46 0 7 ((s8.1 46 0 7) + (1))), s8.2.1, ())) else (a_bv (K_X11_advance X d (s8.1, s8.2.1, ())) fun s9 => some (none, ((up3 s9.1 46 0 7 ((s9.1 46 0 7) + (1))), s9.2.1, ()))))))))) = some (none, (up3 K 46 0 7 (K 46 0 7 + 1), L, ())) ∧ R6 I K ∧ RSt b n K (sgS b n s) := by
  cases s with
  | inl f =>
    have g0 := m_goodL (X := X) (d := d) (L := L) h (by omega)
    refine ⟨I, ?_, R6.refl, h⟩
    rw [g0, a_bi_i, if_pos beq0]
    dsimp +instances only
    rw [g0, a_bi_i, if_pos beq0]
  | inr T =>
    have g0 := m_goodR (X := X) (d := d) (L := L) h (by omega)
    obtain ⟨-, -, ⟨k10, -, -, -⟩, hO⟩ := id h
    obtain ⟨-, -, -, o4, -⟩ := hO.ok
    by_cases t3 : T.1 = 3
    · obtain ⟨K, k1, k2, k3⟩ := m_advS (X := X) (d := d) (L := L) hM h (by omega)
      refine ⟨K, ?_, k2, ?_⟩
      · rw [g0, a_bi_i, if_neg bne1]
        dsimp +instances only
        rw [if_pos (show I 40 0 10 = 3 by rw [k10, t3]; rfl), g0, a_bi_i, if_neg bne1]
        dsimp +instances only
        rw [k1, a_bv_n]
      · show RSt b n K (if T.1 = 3 then .inr (nx b n T) else .inl (1, T.2.1))
        rw [if_pos t3]; exact k3
    · obtain ⟨K, k1, k2, k3⟩ := m_errs (X := X) (d := d) (L := L) (k := 1) h (by decide) (by omega)
      have k1' : K_X11_errs X d (1 : Int32) (I, L, ()) = some (none, (K, L, ())) := k1
      refine ⟨K, ?_, k2, ?_⟩
      · rw [g0, a_bi_i, if_neg bne1]
        dsimp +instances only
        rw [if_neg (show ¬ I 40 0 10 = 3 by rw [k10]; exact fun z => t3 ((n_eq (b := 3) (by omega) (by decide)).mp z)), k1', a_bv_n]
        dsimp +instances only
        rw [m_goodL k3 (by omega), a_bi_i, if_pos beq0]
      · show RSt b n K (if T.1 = 3 then .inr (nx b n T) else .inl (1, T.2.1))
        rw [if_neg t3]; exact k3
theorem sg_gd (h : gd (sgS b n s) = true) : gd s = true := by
  cases s with
  | inl f => cases h
  | inr T => rfl
theorem pLn_7 {T : TK} : (pLn b n w T).2 7 = w 7 := by
  unfold pLn
  split
  · unfold pCo
    split
    · rfl
    · split
      · rfl
      · simp only; unfold wC
        rw [wup_ne _ _ (by omega), wup_ne _ _ (by omega), wup_ne _ _ (by omega)]
  · split
    · split
      · unfold pIn wIn
        simp only
        rw [wup_ne _ _ (by omega), wup_ne _ _ (by omega), wup_ne _ _ (by omega), wup_ne _ _ (by omega), wup_ne _ _ (by omega), wup_ne _ _ (by omega)]
      · rfl
    · split
      · split
        · unfold pRi wRi
          simp only
          rw [wup_ne _ _ (by omega), wup_ne _ _ (by omega), wup_ne _ _ (by omega), wup_ne _ _ (by omega), wup_ne _ _ (by omega), wup_ne _ _ (by omega)]
        · rfl
      · split
        · unfold pDa
          simp only
          rw [wup_ne _ _ (by omega)]
        · rfl
theorem m_lineM {T : TK} (hM : MB I n b) (h : RSt b n I (.inr T)) (hQ : FQ I w) (w0 : 2 ≤ w 0 ∧ w 0 ≤ 8) (w5 : w 5 ≤ 3) (w6 : w 6 ≤ 6) (w7 : 1 ≤ w 7 ∧ w 7 ≤ 2000) (hd : 12 ≤ d) : ∃ J, K_X11_readLine X d (I, L, ()) = some (none, (J, L, ())) ∧ R46 I J ∧ RSt b n J (pLn b n w T).1 ∧ (gd (pLn b n w T).1 = true → FQ J (wup (pLn b n w T).2 7 (w 7 + 1))) := by
  obtain ⟨g, rfl⟩ : ∃ g, d = g + 1 := ⟨d - 1, by omega⟩
  obtain ⟨J1, a1, a2, a3, a4⟩ := m_next (X := X) (d := g) (L := L) hM h hQ w0 w5 w6 (by omega)
  obtain ⟨K, k1, k2, k3⟩ := m_tail (X := X) (d := g) (L := L) (hM.r46 a2) a3 (by omega)
  rw [pLn_eq]
  refine ⟨up3 K 46 0 7 (K 46 0 7 + 1), K_X11_readLine.e X g I L _ ?_, (a2.trans k2.r46).up, k3.up46, fun hg => ?_⟩
  · rw [if_neg (show ¬ I 46 0 7 = 0 by rw [hQ 7 (by decide)]; exact fun z => by have := (n_eq (b := 0) (by omega) (by decide)).mp z; omega), a1, a_bv_n]
    exact k1
  · have q := (a4 (sg_gd hg)).r6 k2
    have e7 : K 46 0 7 = nI (w 7) := by rw [q 7 (by decide), pLn_7]
    rw [e7, show nI (w 7) + 1 = nI (w 7 + 1) from n_add _ 1]
    exact q.up
theorem m_head1 {i : Nat} (hi : i < 5) (hM : MB I n b) (h : RSt b n I s) (hQ : FQ I w) (hd : 9 ≤ d) : ∃ J, K_X11_told X d (i + 1) (nI (hlo i)) (nI (hhi i)) (I, L, ()) = some (some (aI (nI (he1 b n i s).1)), (J, L, ())) ∧ R46 I (up3 J 46 0 i (nI (he1 b n i s).1)) ∧ RSt b n (up3 J 46 0 i (nI (he1 b n i s).1)) (he1 b n i s).2 ∧ FQ (up3 J 46 0 i (nI (he1 b n i s).1)) (wup w i (he1 b n i s).1) := by
  obtain ⟨l1, l2⟩ := hb_le i
  obtain ⟨J, j1, j2, j3⟩ := m_told (X := X) (d := d) (L := L) (q := i + 1) (lo := hlo i) (hi := hhi i) hM h (by omega) l1 l2 (by omega)
  exact ⟨J, j1, j2.r46.up, j3.up46, (hQ.r6 j2).up⟩
theorem heF_7 {x : PS × TW} : ∀ k, k ≤ 7 → (heF b n k x).2 7 = x.2 7 := by
  intro k
  induction k with
  | zero => intro _; rfl
  | succ k ih =>
    intro hk
    show wup (heF b n k x).2 k _ 7 = _
    rw [wup_ne _ _ (by omega)]; exact ih (by omega)
theorem m_lineH {T : TK} (hM : MB I n b) (h : RSt b n I (.inr T)) (hQ : FQ I w) (w7 : w 7 = 0) (hd : 10 ≤ d) : ∃ J, K_X11_readLine X d (I, L, ()) = some (none, (J, L, ())) ∧ R46 I J ∧ RSt b n J (pHe b n w T).1 ∧ FQ J (wup (pHe b n w T).2 7 (w 7 + 1)) := by
  obtain ⟨g, rfl⟩ : ∃ g, d = g + 1 := ⟨d - 1, by omega⟩
  obtain ⟨J0, z1, z2, z3⟩ := m_needs (X := X) (d := g) (L := L) (q := 0) hM h (by decide) (by omega)
  obtain ⟨J1, a1, a2, a3, a4⟩ := m_head1 (X := X) (d := g) (L := L) (i := 0) (by decide) (hM.r6 z2) z3 (hQ.r6 z2) (by omega)
  have R1 := z2.r46.trans a2
  obtain ⟨J2, b1, b2, b3, b4⟩ := m_head1 (X := X) (d := g) (L := L) (i := 1) (by decide) (hM.r46 R1) a3 a4 (by omega)
  have R2 := R1.trans b2
  obtain ⟨J3, c1, c2, c3, c4⟩ := m_head1 (X := X) (d := g) (L := L) (i := 2) (by decide) (hM.r46 R2) b3 b4 (by omega)
  have R3 := R2.trans c2
  obtain ⟨J4, d1, d2, d3, d4⟩ := m_head1 (X := X) (d := g) (L := L) (i := 3) (by decide) (hM.r46 R3) c3 c4 (by omega)
  have R4' := R3.trans d2
  obtain ⟨J5, e1, e2, e3, e4⟩ := m_head1 (X := X) (d := g) (L := L) (i := 4) (by decide) (hM.r46 R4') d3 d4 (by omega)
  have R5 := R4'.trans e2
  obtain ⟨K, k1, k2, k3⟩ := m_tail (X := X) (d := g) (L := L) (hM.r46 R5) e3 (by omega)
  have q := e4.r6 k2
  have e7 : K 46 0 7 = nI (w 7) := by
    rw [q 7 (by decide), wup_ne _ _ (by decide), wup_ne _ _ (by decide), wup_ne _ _ (by decide), wup_ne _ _ (by decide), wup_ne _ _ (by decide)]
  refine ⟨up3 K 46 0 7 (nI (w 7 + 1)), K_X11_readLine.e X g I L _ ?_, (R5.trans k2.r46).up, k3.up46, q.up⟩
  rw [show nI (w 7 + 1) = K 46 0 7 + 1 by rw [e7]; exact (n_add _ 1).symm]
  rw [if_pos (show I 46 0 7 = 0 by rw [hQ 7 (by decide), w7]; rfl), z1, a_bv_n]
  dsimp +instances only
  rw [show K_X11_told X g 1 (2 : Int32) (8 : Int32) (J0, L, ()) = _ from a1, a_bi_i]
  dsimp +instances only
  rw [show K_X11_told X g 2 (1 : Int32) (40 : Int32) _ = _ from b1, a_bi_i]
  dsimp +instances only
  rw [show K_X11_told X g 3 (1 : Int32) (20 : Int32) _ = _ from c1, a_bi_i]
  dsimp +instances only
  rw [show K_X11_told X g 4 (0 : Int32) (99 : Int32) _ = _ from d1, a_bi_i]
  dsimp +instances only
  rw [show K_X11_told X g 5 (0 : Int32) (999 : Int32) _ = _ from e1, a_bi_i]
  exact k1
end
