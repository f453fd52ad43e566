/-! the reference's reader, word by word -/
section
variable {X : AX} {d : Nat} {I J : A3 Int32} {L : A3 Int64} {b : Nat → Int8} {n : Nat} {s : PS}
theorem m_advS {T : TK} (hM : MB I n b) (h : RSt b n I (.inr T)) (hd : 3 ≤ d) : ∃ J, K_X11_advance X d (I, L, ()) = some (none, (J, L, ())) ∧ R6 I J ∧ RSt b n J (.inr (nx b n T)) := by
  obtain ⟨h1, h2, ⟨k10, k9, k8, k11⟩, hO⟩ := h
  obtain ⟨J, j1, j2, j3⟩ := m_advance (X := X) (d := d) (L := L) hM hO.ok.2.1 k8 hd
  exact ⟨J, j1, j2.r6, by rw [j2.2 12 (by decide)]; exact h1, by rw [j2.2 13 (by decide)]; exact h2, j3, hO.nx⟩
theorem m_takes {q : Nat} (hM : MB I n b) (h : RSt b n I s) (hq : q < 27) (hd : 7 ≤ d) : ∃ J, K_X11_takes X d q (I, L, ()) = some (some (aI (bI (isS b q s))), (J, L, ())) ∧ R6 I J ∧ RSt b n J (tkS b n q s) := by
  obtain ⟨g, rfl⟩ : ∃ g, d = g + 1 := ⟨d - 1, by omega⟩
  have e1 := m_is (X := X) (d := g) (L := L) hM h hq (by omega)
  cases hs : s with
  | inl f =>
    rw [hs] at h e1
    have e1' : K_X11_is X g q (I, L, ()) = some (some (aI (bI false)), (I, L, ())) := e1
    refine ⟨I, K_X11_takes.e X g q I L _ ?_, R6.refl, h⟩
    rw [e1', a_bi_i, if_pos beq0, if_pos (show bI false = 0 ∨ bI false = 1 from Or.inl rfl)]
    rfl
  | inr T =>
    rw [hs] at h e1
    have e1' : K_X11_is X g q (I, L, ()) = some (some (aI (bI (isB b T q))), (I, L, ())) := e1
    show ∃ J, K_X11_takes X (g + 1) q (I, L, ()) = some (some (aI (bI (isB b T q))), (J, L, ())) ∧ R6 I J ∧ RSt b n J (if isB b T q = true then .inr (nx b n T) else .inr T)
    cases hb : isB b T q with
    | false =>
      rw [hb] at e1'
      refine ⟨I, K_X11_takes.e X g q I L _ ?_, R6.refl, h⟩
      rw [e1', a_bi_i, if_pos beq0, if_pos (show bI false = 0 ∨ bI false = 1 from Or.inl rfl)]
    | true =>
      rw [hb] at e1'
      obtain ⟨J, j1, j2, j3⟩ := m_advS (X := X) (d := g) (L := L) hM h (by omega)
      refine ⟨J, K_X11_takes.e X g q I L _ ?_, j2, j3⟩
      rw [e1', a_bi_i, if_neg bne1]
      dsimp +instances only
      rw [j1, a_bv_n, if_pos (show bI true = 0 ∨ bI true = 1 from Or.inr rfl)]
theorem m_needs {q : Nat} (hM : MB I n b) (h : RSt b n I s) (hq : q < 27) (hd : 8 ≤ d) : ∃ J, K_X11_needs X d q (I, L, ()) = some (none, (J, L, ())) ∧ R6 I J ∧ RSt b n J (ndS b n q s) := by
  obtain ⟨g, rfl⟩ : ∃ g, d = g + 1 := ⟨d - 1, by omega⟩
  obtain ⟨J, j1, j2, j3⟩ := m_takes (X := X) (d := g) (L := L) hM h hq (by omega)
  cases hb : isS b q s with
  | true =>
    rw [hb] at j1
    refine ⟨J, K_X11_needs.e X g q I L _ ?_, j2, ?_⟩
    · rw [j1, a_bi_i, if_neg bne1]
    · cases s with
      | inl f => cases hb
      | inr T =>
        have hb' : isB b T q = true := hb
        have j3' : RSt b n J (if isB b T q = true then .inr (nx b n T) else .inr T) := j3
        show RSt b n J (if isB b T q = true then .inr (nx b n T) else .inl (1, T.2.1))
        rw [if_pos hb'] at j3' ⊢
        exact j3'
  | false =>
    rw [hb] at j1
    obtain ⟨K, k1, k2, k3⟩ := m_errs (X := X) (d := g) (L := L) (k := 1) j3 (by decide) (by omega)
    have k1' : K_X11_errs X g (1 : Int32) (J, L, ()) = some (none, (K, L, ())) := k1
    refine ⟨K, K_X11_needs.e X g q I L _ ?_, j2.trans k2, ?_⟩
    · rw [j1, a_bi_i, if_pos beq0]
      dsimp +instances only
      rw [k1', a_bv_n]
    · cases s with
      | inl f => exact k3
      | inr T =>
        have hb' : ¬ isB b T q = true := fun z => by have hb : isB b T q = false := hb; rw [z] at hb; cases hb
        have k3' : RSt b n K (erS 1 (if isB b T q = true then .inr (nx b n T) else .inr T)) := k3
        show RSt b n K (if isB b T q = true then .inr (nx b n T) else .inl (1, T.2.1))
        rw [if_neg hb'] at k3' ⊢
        exact k3'
theorem m_inV {lo hi v : Nat} (h1 : lo < 2147483648) (h2 : hi < 2147483648) (h3 : v < 2147483648) (hd : 1 ≤ d) : K_X11_in X d (nI v).toInt64 (nI lo).toInt64 (nI hi).toInt64 (I, L, ()) = some (some (aI (bI (decide (lo ≤ v ∧ v ≤ hi)))), (I, L, ())) := by
  rw [m_in hd]
  unfold inL
  rw [Int32.toInt_toInt64, Int32.toInt_toInt64, Int32.toInt_toInt64, n_toInt h1, n_toInt h2, n_toInt h3]
  have : decide ((lo : Int) ≤ v ∧ (v : Int) ≤ hi) = decide (lo ≤ v ∧ v ≤ hi) := by
    rw [decide_eq_decide]; omega
  rw [this]
theorem m_number {lo hi : Nat} (hM : MB I n b) (h : RSt b n I s) (h1 : lo < 1000) (h2 : hi < 1000) (hd : 4 ≤ d) : ∃ J, K_X11_number X d (nI lo) (nI hi) (I, L, ()) = some (some (aI (nI (nmS b n lo hi s).1)), (J, L, ())) ∧ R6 I J ∧ RSt b n J (nmS b n lo hi s).2 := by
  obtain ⟨g, rfl⟩ : ∃ g, d = g + 1 := ⟨d - 1, by omega⟩
  cases s with
  | inl f =>
    refine ⟨I, K_X11_number.e X g _ _ I L _ ?_, R6.refl, h⟩
    have e1 : K_X11_good X g (I, L, ()) = some (some (aI (bI false)), (I, L, ())) := m_good h (by omega)
    rw [e1, a_bi_i, if_pos beq0]
    dsimp +instances only
    rw [e1, a_bi_i, if_pos beq0]
    dsimp +instances only
    rw [e1, a_bi_i, if_pos beq0]
    rfl
  | inr T =>
    have e1 : K_X11_good X g (I, L, ()) = some (some (aI (bI true)), (I, L, ())) := m_good h (by omega)
    obtain ⟨-, -, ⟨k10, k9, k8, k11⟩, hO⟩ := id h
    obtain ⟨o1, o2, o3, o4, o5⟩ := hO.ok
    unfold nmS
    by_cases t2 : T.1 = 2
    · have k11' := k11 t2
      simp only [t2, if_true]
      by_cases hr : lo ≤ T.2.2.2 ∧ T.2.2.2 ≤ hi
      · obtain ⟨J, j1, j2, j3⟩ := m_advS (X := X) (d := g) (L := L) hM h (by omega)
        simp only [hr, and_self, if_true]
        refine ⟨J, K_X11_number.e X g _ _ I L _ ?_, j2, j3⟩
        rw [e1, a_bi_i, if_neg bne1]
        dsimp +instances only
        rw [k10, t2, if_pos (show nI 2 = 2 from rfl), e1, a_bi_i, if_neg bne1]
        dsimp +instances only
        rw [k11', m_inV (by omega) (by omega) (by omega) (by omega), decide_eq_true hr, a_bi_i, if_neg bne1]
        dsimp +instances only
        rw [e1, a_bi_i, if_neg bne1]
        dsimp +instances only
        rw [j1, a_bv_n, k11']
      · obtain ⟨J, j1, j2, j3⟩ := m_errs (X := X) (d := g) (L := L) (k := 2) h (by decide) (by omega)
        have j1' : K_X11_errs X g (2 : Int32) (I, L, ()) = some (none, (J, L, ())) := j1
        have e2 : K_X11_good X g (J, L, ()) = some (some (aI (bI false)), (J, L, ())) := m_good j3 (by omega)
        rw [if_neg hr]
        refine ⟨J, K_X11_number.e X g _ _ I L _ ?_, j2, j3⟩
        rw [e1, a_bi_i, if_neg bne1]
        dsimp +instances only
        rw [k10, t2, if_pos (show nI 2 = 2 from rfl), e1, a_bi_i, if_neg bne1]
        dsimp +instances only
        rw [k11', m_inV (by omega) (by omega) (by omega) (by omega), decide_eq_false hr, a_bi_i, if_pos beq0]
        dsimp +instances only
        rw [j1', a_bv_n]
        dsimp +instances only
        rw [e2, a_bi_i, if_pos beq0]
        rfl
    · obtain ⟨J, j1, j2, j3⟩ := m_errs (X := X) (d := g) (L := L) (k := 1) h (by decide) (by omega)
      have j1' : K_X11_errs X g (1 : Int32) (I, L, ()) = some (none, (J, L, ())) := j1
      have e2 : K_X11_good X g (J, L, ()) = some (some (aI (bI false)), (J, L, ())) := m_good j3 (by omega)
      simp only [t2, if_false]
      refine ⟨J, K_X11_number.e X g _ _ I L _ ?_, j2, j3⟩
      rw [e1, a_bi_i, if_neg bne1]
      dsimp +instances only
      rw [k10, if_neg (show ¬ nI T.1 = 2 from fun z => t2 ((n_eq (b := 2) (by omega) (by decide)).mp z)), j1', a_bv_n]
      dsimp +instances only
      rw [e2, a_bi_i, if_pos beq0]
      dsimp +instances only
      rw [e2, a_bi_i, if_pos beq0]
      rfl
theorem m_told {q lo hi : Nat} (hM : MB I n b) (h : RSt b n I s) (hq : q < 27) (h1 : lo < 1000) (h2 : hi < 1000) (hd : 9 ≤ d) : ∃ J, K_X11_told X d q (nI lo) (nI hi) (I, L, ()) = some (some (aI (nI (toS b n q lo hi s).1)), (J, L, ())) ∧ R6 I J ∧ RSt b n J (toS b n q lo hi s).2 := by
  obtain ⟨g, rfl⟩ : ∃ g, d = g + 1 := ⟨d - 1, by omega⟩
  obtain ⟨J, j1, j2, j3⟩ := m_needs (X := X) (d := g) (L := L) hM h hq (by omega)
  obtain ⟨K, k1, k2, k3⟩ := m_number (X := X) (d := g) (L := L) (lo := lo) (hi := hi) (hM.r6 j2) j3 h1 h2 (by omega)
  refine ⟨K, K_X11_told.e X g q _ _ I L _ ?_, j2.trans k2, k3⟩
  rw [j1, a_bv_n]
  dsimp +instances only
  rw [k1, a_bi_i]
  rfl
theorem m_more (h : RSt b n I s) (hd : 2 ≤ d) : K_X11_moreMarks X d (I, L, ()) = some (some (aI (bI (moS s))), (I, L, ())) := by
  obtain ⟨g, rfl⟩ : ∃ g, d = g + 1 := ⟨d - 1, by omega⟩
  refine K_X11_moreMarks.e X g I L _ ?_
  cases s with
  | inl f =>
    have e1 : K_X11_good X g (I, L, ()) = some (some (aI (bI false)), (I, L, ())) := m_good h (by omega)
    rw [e1, a_bi_i, if_pos beq0]
    rfl
  | inr T =>
    have e1 : K_X11_good X g (I, L, ()) = some (some (aI (bI true)), (I, L, ())) := m_good h (by omega)
    obtain ⟨-, -, ⟨k10, k9, k8, k11⟩, hO⟩ := id h
    obtain ⟨o1, o2, o3, o4, o5⟩ := hO.ok
    rw [e1, a_bi_i, if_neg bne1]
    dsimp +instances only
    rw [k10]
    show _ = some (some (aI (bI (decide (¬ T.1 = 3)))), (I, L, ()))
    by_cases t3 : T.1 = 3
    · rw [t3, if_pos (show nI 3 = 3 from rfl)]; rfl
    · rw [if_neg (show ¬ nI T.1 = 3 from fun z => t3 ((n_eq (b := 3) (by omega) (by decide)).mp z)), decide_eq_true t3]; rfl
end
