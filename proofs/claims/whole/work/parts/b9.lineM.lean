/-! the reference reads a coach -/
section
variable {X : AX} {d : Nat} {I J : A3 Int32} {L : A3 Int64} {b : Nat → Int8} {n : Nat} {w : TW} {s : PS}
/-- the reference's fresh row -/
def FQ (I : A3 Int32) (w : TW) : Prop := ∀ j, j < 85 → I 46 0 j = nI (w j)
theorem FQ.up {c z : Nat} (h : FQ I w) : FQ (up3 I 46 0 c (nI z)) (wup w c z) := fun j hj => by
  by_cases q : j = c
  · subst q; rw [u3_eq, wup_eq]
  · rw [u3_j _ _ q, wup_ne _ _ q]; exact h j hj
theorem FQ.r6 (h : FQ I w) (hR : R6 I J) : FQ J w := fun j hj => by rw [hR.1 46 (by decide)]; exact h j hj
/-- the reader's cells and the fresh row change, no more -/
def R46 (I J : A3 Int32) : Prop := Fm [40, 46] I J ∧ ∀ j, (j < 8 ∨ 13 < j) → J 40 0 j = I 40 0 j
theorem R46.refl : R46 I I := ⟨Fm.refl, fun _ _ => rfl⟩
theorem R46.trans {K : A3 Int32} (h1 : R46 I J) (h2 : R46 J K) : R46 I K := ⟨h1.1.trans h2.1, fun j hj => (h2.2 j hj).trans (h1.2 j hj)⟩
theorem R6.r46 (h : R6 I J) : R46 I J := ⟨h.1.mono (by decide), h.2⟩
theorem R46.up {j : Nat} {x : Int32} (h : R46 I J) : R46 I (up3 J 46 0 j x) := ⟨h.1.up (by decide), fun k hk => by rw [u3_f _ _ (by decide)]; exact h.2 k hk⟩
theorem MB.r46 (h : MB I n b) (hR : R46 I J) : MB J n b := ⟨h.1, by rw [hR.2 7 (by decide)]; exact h.2.1, fun j hj => by rw [hR.1 44 (by decide)]; exact h.2.2 j hj⟩
theorem RSt.up46 {j : Nat} {x : Int32} (h : RSt b n I s) : RSt b n (up3 I 46 0 j x) s := h.fm (fun k _ _ => by rw [u3_f _ _ (by decide)])
theorem m_freshCoach (hM : MB I n b) (h : RSt b n I s) (h0 : I 46 0 0 = nI (w 0)) (w0 : 2 ≤ w 0 ∧ w 0 ≤ 8) (hd : 5 ≤ d) : ∃ J, K_X11_freshCoach X d (I, L, ()) = some (some (aI (nI (nmS b n 0 (w 0 - 1) s).1)), (J, L, ())) ∧ R6 I J ∧ RSt b n J (nmS b n 0 (w 0 - 1) s).2 := by
  obtain ⟨g, rfl⟩ : ∃ g, d = g + 1 := ⟨d - 1, by omega⟩
  obtain ⟨J, j1, j2, j3⟩ := m_number (X := X) (d := g) (L := L) (lo := 0) (hi := w 0 - 1) hM h (by decide) (by omega) (by omega)
  have j1' : K_X11_number X g (0 : Int32) (nI (w 0 - 1)) (I, L, ()) = some (some (aI (nI (nmS b n 0 (w 0 - 1) s).1)), (J, L, ())) := j1
  refine ⟨J, K_X11_freshCoach.e X g I L _ ?_, j2, j3⟩
  rw [h0, show nI (w 0) - 1 = nI (w 0 - 1) from n_sub (b := 1) (by omega), j1', a_bi_i]
def wr3 (J : A3 Int32) (c p : Nat) (l k : Bool) : A3 Int32 := up3 (up3 (up3 J 46 0 (9 + 3 * c + 0) (nI p)) 46 0 (9 + 3 * c + 1) (bI l)) 46 0 (9 + 3 * c + 2) (bI k)
theorem m_cend {c p : Nat} {l k : Bool} {T : TK} (h : RSt b n I (.inr T)) (t3 : T.1 = 3) (hc : c < 8) (hd : 2 ≤ d) : v_X11_readCoach_20 X d (nI c) (nI p) (bI l) (bI k) (I, L, ()) = some (none, (wr3 I c p l k, L, ())) := by
  refine v_X11_readCoach_20.e X d _ _ _ _ I L _ ?_
  have e1 : K_X11_moreMarks X d (I, L, ()) = some (some (aI (bI false)), (I, L, ())) := by
    have := m_more (X := X) (d := d) (L := L) h hd
    rw [show moS (.inr T) = false by show decide (¬ T.1 = 3) = false; rw [t3]; rfl] at this
    exact this
  have e2 : K_X11_good X d (I, L, ()) = some (some (aI (bI true)), (I, L, ())) := m_good h (by omega)
  have x0 : ∀ k, k < 3 → (9 : Int32) + 3 * nI c + nI k = nI (9 + 3 * c + k) := fun k _ => by
    rw [show (9 : Int32) = nI 9 from rfl, show (3 : Int32) = nI 3 from rfl, n_mul, n_add, n_add]
  have o0 : ∀ k, k < 3 → ¬ aout (nI (9 + 3 * c + k)) 325 := fun k hk => by rw [n_out (by omega)]; omega
  rw [e1, a_bi_i, if_pos beq0]
  dsimp +instances only
  rw [e2, a_bi_i, if_neg bne1]
  dsimp +instances only
  rw [show (9 : Int32) + 3 * nI c + 0 = nI (9 + 3 * c + 0) from x0 0 (by decide), show (9 : Int32) + 3 * nI c + 1 = nI (9 + 3 * c + 1) from x0 1 (by decide), show (9 : Int32) + 3 * nI c + 2 = nI (9 + 3 * c + 2) from x0 2 (by decide), if_neg (o0 0 (by decide)), if_neg (o0 1 (by decide)), if_neg (o0 2 (by decide)), n_toN (show 9 + 3 * c + 0 < 2147483648 by omega), n_toN (show 9 + 3 * c + 1 < 2147483648 by omega), n_toN (show 9 + 3 * c + 2 < 2147483648 by omega)]
  rfl
theorem m_cbad {c p : Int32} {l k : Int32} {f : Nat × Nat} (h : RSt b n I (.inl f)) (hd : 2 ≤ d) : v_X11_readCoach_20 X d c p l k (I, L, ()) = some (none, (I, L, ())) := by
  refine v_X11_readCoach_20.e X d _ _ _ _ I L _ ?_
  have e1 : K_X11_moreMarks X d (I, L, ()) = some (some (aI (bI false)), (I, L, ())) := m_more h hd
  have e2 : K_X11_good X d (I, L, ()) = some (some (aI (bI false)), (I, L, ())) := m_good h (by omega)
  rw [e1, a_bi_i, if_pos beq0]
  dsimp +instances only
  rw [e2, a_bi_i, if_pos beq0]
/-- what a coach's marks come to -/
def CEnd (X : AX) (d : Nat) (L : A3 Int64) (b : Nat → Int8) (n : Nat) (I0 I : A3 Int32) (c p : Nat) (l k l' k' : Bool) (T' : TK) : Prop := ∃ J, R6 I0 J ∧ RSt b n J (fnS T') ∧ v_X11_readCoach_20 X d (nI c) (nI p) (bI l) (bI k) (I, L, ()) = some (none, ((if T'.1 = 3 then wr3 J c p l' k' else J), L, ()))
/-- one turn: nothing fits -/
theorem m_cno {c p : Nat} {l k : Bool} {T : TK} (hM : MB I n b) (h : RSt b n I (.inr T)) (hc : c < 8) (h8 : l = false → isB b T 8 = false) (h9 : k = false → isB b T 9 = false) (hd : 8 ≤ d) : CEnd X d L b n I I c p l k l k T := by
  by_cases t3 : T.1 = 3
  · refine ⟨I, R6.refl, by unfold fnS; rw [if_pos t3]; exact h, ?_⟩
    rw [if_pos t3]; exact m_cend h t3 hc (by omega)
  · have e1 : K_X11_moreMarks X d (I, L, ()) = some (some (aI (bI true)), (I, L, ())) := by
      have := m_more (X := X) (d := d) (L := L) h (by omega)
      rw [show moS (.inr T) = true from decide_eq_true t3] at this
      exact this
    have no : ∀ q, q < 27 → isB b T q = false → ∃ J, K_X11_takes X d q (I, L, ()) = some (some (aI (bI false)), (J, L, ())) ∧ R6 I J ∧ RSt b n J (.inr T) := fun q hq hb => by
      obtain ⟨J, j1, j2, j3⟩ := m_takes (X := X) (d := d) (L := L) hM h hq (by omega)
      have j1' : K_X11_takes X d q (I, L, ()) = some (some (aI (bI (isB b T q))), (J, L, ())) := j1
      have j3' : RSt b n J (if isB b T q = true then .inr (nx b n T) else .inr T) := j3
      rw [hb] at j1' j3'
      exact ⟨J, j1', j2, j3'⟩
    have fin : ∀ J, R6 I J → RSt b n J (.inr T) → ∃ K, K_X11_errs X d (1 : Int32) (J, L, ()) = some (none, (K, L, ())) ∧ R6 I K ∧ RSt b n K (fnS T) ∧ v_X11_readCoach_20 X d (nI c) (nI p) (bI l) (bI k) (K, L, ()) = some (none, (K, L, ())) := fun J hJ hJ2 => by
      obtain ⟨K, k1, k2, k3⟩ := m_errs (X := X) (d := d) (L := L) (k := 1) hJ2 (by decide) (by omega)
      refine ⟨K, k1, hJ.trans k2, by unfold fnS; rw [if_neg t3]; exact k3, m_cbad k3 (by omega)⟩
    unfold CEnd
    simp only [t3, if_false]
    cases l with
    | false =>
      obtain ⟨J1, a1, a2, a3⟩ := no 8 (by decide) (h8 rfl)
      cases k with
      | false =>
        obtain ⟨J2, b1, b2, b3⟩ : ∃ J2, K_X11_takes X d 9 (J1, L, ()) = some (some (aI (bI false)), (J2, L, ())) ∧ R6 J1 J2 ∧ RSt b n J2 (.inr T) := by
          obtain ⟨J, j1, j2, j3⟩ := m_takes (X := X) (d := d) (L := L) (q := 9) (hM.r6 a2) a3 (by decide) (by omega)
          have j1' : K_X11_takes X d 9 (J1, L, ()) = some (some (aI (bI (isB b T 9))), (J, L, ())) := j1
          have j3' : RSt b n J (if isB b T 9 = true then .inr (nx b n T) else .inr T) := j3
          rw [h9 rfl] at j1' j3'
          exact ⟨J, j1', j2, j3'⟩
        obtain ⟨K, k1, k2, k3, k4⟩ := fin J2 (a2.trans b2) b3
        refine ⟨K, k2, k3, v_X11_readCoach_20.e X d _ _ _ _ I L _ ?_⟩
        rw [e1, a_bi_i, if_neg bne1, if_pos beq0]
        dsimp +instances only
        rw [a1, a_bi_i, if_pos beq0, if_pos beq0]
        dsimp +instances only
        rw [b1, a_bi_i, if_pos beq0]
        dsimp +instances only
        rw [k1, a_bv_n]
        exact k4
      | true =>
        obtain ⟨K, k1, k2, k3, k4⟩ := fin J1 a2 a3
        refine ⟨K, k2, k3, v_X11_readCoach_20.e X d _ _ _ _ I L _ ?_⟩
        rw [e1, a_bi_i, if_neg bne1, if_pos beq0]
        dsimp +instances only
        rw [a1, a_bi_i, if_pos beq0, if_neg bne1]
        dsimp +instances only
        rw [k1, a_bv_n]
        exact k4
    | true =>
      cases k with
      | false =>
        obtain ⟨J1, a1, a2, a3⟩ := no 9 (by decide) (h9 rfl)
        obtain ⟨K, k1, k2, k3, k4⟩ := fin J1 a2 a3
        refine ⟨K, k2, k3, v_X11_readCoach_20.e X d _ _ _ _ I L _ ?_⟩
        rw [e1, a_bi_i, if_neg bne1, if_neg bne1, if_pos beq0]
        dsimp +instances only
        rw [a1, a_bi_i, if_pos beq0]
        dsimp +instances only
        rw [k1, a_bv_n]
        exact k4
      | true =>
        obtain ⟨K, k1, k2, k3, k4⟩ := fin I R6.refl h
        refine ⟨K, k2, k3, v_X11_readCoach_20.e X d _ _ _ _ I L _ ?_⟩
        rw [e1, a_bi_i, if_neg bne1, if_neg bne1, if_neg bne1]
        dsimp +instances only
        rw [k1, a_bv_n]
        exact k4
theorem m_cyes {c p : Nat} {l k l1 k1 l' k' : Bool} {T T' : TK} {q : Nat} (hM : MB I n b) (h : RSt b n I (.inr T)) (hq : (l = false ∧ q = 8 ∧ l1 = true ∧ k1 = k) ∨ (q = 9 ∧ k = false ∧ l1 = l ∧ k1 = true ∧ (l = false → isB b T 8 = false))) (hb : isB b T q = true) (hd : 8 ≤ d) (hn : ∀ J, MB J n b → RSt b n J (.inr (nx b n T)) → CEnd X d L b n J J c p l1 k1 l' k' T') : CEnd X d L b n I I c p l k l' k' T' := by
  have t3 : ¬ T.1 = 3 := fun z => by
    unfold isB at hb
    rw [z] at hb
    simp at hb
  have e1 : K_X11_moreMarks X d (I, L, ()) = some (some (aI (bI true)), (I, L, ())) := by
    have := m_more (X := X) (d := d) (L := L) h (by omega)
    rw [show moS (.inr T) = true from decide_eq_true t3] at this
    exact this
  have yes : ∀ J0, MB J0 n b → RSt b n J0 (.inr T) → ∀ q, q < 27 → isB b T q = true → ∃ J, K_X11_takes X d q (J0, L, ()) = some (some (aI (bI true)), (J, L, ())) ∧ R6 J0 J ∧ RSt b n J (.inr (nx b n T)) := fun J0 hM0 h0 q hq hb => by
    obtain ⟨J, j1, j2, j3⟩ := m_takes (X := X) (d := d) (L := L) hM0 h0 hq (by omega)
    have j1' : K_X11_takes X d q (J0, L, ()) = some (some (aI (bI (isB b T q))), (J, L, ())) := j1
    have j3' : RSt b n J (if isB b T q = true then .inr (nx b n T) else .inr T) := j3
    rw [hb] at j1'
    rw [if_pos hb] at j3'
    exact ⟨J, j1', j2, j3'⟩
  rcases hq with ⟨rfl, rfl, rfl, rfl⟩ | ⟨rfl, rfl, rfl, rfl, h8⟩
  · obtain ⟨J1, a1, a2, a3⟩ := yes I hM h 8 (by decide) hb
    obtain ⟨K, k1, k2, k3⟩ := hn J1 (hM.r6 a2) a3
    refine ⟨K, a2.trans k1, k2, v_X11_readCoach_20.e X d _ _ _ _ I L _ ?_⟩
    rw [e1, a_bi_i, if_neg bne1, if_pos beq0]
    dsimp +instances only
    rw [a1, a_bi_i, if_neg bne1]
    exact k3
  · cases l1 with
    | false =>
      obtain ⟨J1, a1, a2, a3⟩ : ∃ J1, K_X11_takes X d 8 (I, L, ()) = some (some (aI (bI false)), (J1, L, ())) ∧ R6 I J1 ∧ RSt b n J1 (.inr T) := by
        obtain ⟨J, j1, j2, j3⟩ := m_takes (X := X) (d := d) (L := L) (q := 8) hM h (by decide) (by omega)
        have j1' : K_X11_takes X d 8 (I, L, ()) = some (some (aI (bI (isB b T 8))), (J, L, ())) := j1
        have j3' : RSt b n J (if isB b T 8 = true then .inr (nx b n T) else .inr T) := j3
        rw [h8 rfl] at j1' j3'
        exact ⟨J, j1', j2, j3'⟩
      obtain ⟨J2, b1, b2, b3⟩ := yes J1 (hM.r6 a2) a3 9 (by decide) hb
      obtain ⟨K, k1, k2, k3⟩ := hn J2 ((hM.r6 a2).r6 b2) b3
      refine ⟨K, (a2.trans b2).trans k1, k2, v_X11_readCoach_20.e X d _ _ _ _ I L _ ?_⟩
      rw [e1, a_bi_i, if_neg bne1, if_pos beq0]
      dsimp +instances only
      rw [a1, a_bi_i, if_pos beq0, if_pos beq0]
      dsimp +instances only
      rw [b1, a_bi_i, if_neg bne1]
      exact k3
    | true =>
      obtain ⟨J1, a1, a2, a3⟩ := yes I hM h 9 (by decide) hb
      obtain ⟨K, k1, k2, k3⟩ := hn J1 (hM.r6 a2) a3
      refine ⟨K, a2.trans k1, k2, v_X11_readCoach_20.e X d _ _ _ _ I L _ ?_⟩
      rw [e1, a_bi_i, if_neg bne1, if_neg bne1, if_pos beq0]
      dsimp +instances only
      rw [a1, a_bi_i, if_neg bne1]
      exact k3
theorem m_cmarks {c p : Nat} {T : TK} (hM : MB I n b) (h : RSt b n I (.inr T)) (hc : c < 8) (hd : 8 ≤ d) : CEnd X d L b n I I c p false false (cm1 b n (cm1 b n (false, false, T))).1 (cm1 b n (cm1 b n (false, false, T))).2.1 (cm1 b n (cm1 b n (false, false, T))).2.2 := by
  have tt : ∀ T J, MB J n b → RSt b n J (.inr T) → CEnd X d L b n J J c p true true true true T := fun T J hJ hS => m_cno hJ hS hc (fun z => by cases z) (fun z => by cases z) hd
  have tf : ∀ T J, MB J n b → RSt b n J (.inr T) → CEnd X d L b n J J c p true false (cm1 b n (true, false, T)).1 (cm1 b n (true, false, T)).2.1 (cm1 b n (true, false, T)).2.2 := fun T J hJ hS => by
    unfold cm1
    cases h9 : isB b T 9 with
    | true =>
      simp only [Bool.true_eq_false, false_and, and_self, if_true, if_false]
      exact m_cyes (q := 9) hJ hS (Or.inr ⟨rfl, rfl, rfl, rfl, fun z => by cases z⟩) h9 hd (tt _)
    | false =>
      simp only [Bool.true_eq_false, Bool.false_eq_true, and_false, false_and, if_false]
      exact m_cno hJ hS hc (fun z => by cases z) (fun _ => h9) hd
  have ft : ∀ T J, MB J n b → RSt b n J (.inr T) → CEnd X d L b n J J c p false true (cm1 b n (false, true, T)).1 (cm1 b n (false, true, T)).2.1 (cm1 b n (false, true, T)).2.2 := fun T J hJ hS => by
    unfold cm1
    cases h8 : isB b T 8 with
    | true =>
      simp only [and_self, if_true]
      exact m_cyes (q := 8) hJ hS (Or.inl ⟨rfl, rfl, rfl, rfl⟩) h8 hd (tt _)
    | false =>
      simp only [Bool.true_eq_false, Bool.false_eq_true, and_false, false_and, if_false]
      exact m_cno hJ hS hc (fun _ => h8) (fun z => by cases z) hd
  cases h8 : isB b T 8 with
  | true =>
    have e1 : cm1 b n (false, false, T) = (true, false, nx b n T) := by unfold cm1; simp [h8]
    rw [e1]
    exact m_cyes (q := 8) hM h (Or.inl ⟨rfl, rfl, rfl, rfl⟩) h8 hd (tf _)
  | false =>
    cases h9 : isB b T 9 with
    | true =>
      have e1 : cm1 b n (false, false, T) = (false, true, nx b n T) := by unfold cm1; simp [h8, h9]
      rw [e1]
      exact m_cyes (q := 9) hM h (Or.inr ⟨rfl, rfl, rfl, rfl, fun _ => h8⟩) h9 hd (ft _)
    | false =>
      have e1 : cm1 b n (false, false, T) = (false, false, T) := by unfold cm1; simp [h8, h9]
      rw [e1, e1]
      exact m_cno hM h hc (fun _ => h8) (fun _ => h9) hd
end
