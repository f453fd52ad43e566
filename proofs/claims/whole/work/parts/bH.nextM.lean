/-! the reference reads a line that is not the head -/
section
variable {X : AX} {d : Nat} {I J : A3 Int32} {L : A3 Int64} {b : Nat → Int8} {n : Nat} {w : TW} {s : PS}
theorem if_ff {α : Type} {x y : α} : (if false = true then x else y) = y := rfl
theorem if_tt {α : Type} {x y : α} : (if true = true then x else y) = x := rfl
theorem isB_len {T : TK} {q : Nat} (h : isB b T q = true) : T.2.2.1 - T.2.1 = txN q := by
  unfold isB at h
  rw [Bool.and_eq_true, Bool.and_eq_true] at h
  exact of_decide_eq_true h.2.1
theorem isB_0 {T : TK} {q : Nat} (h : isB b T q = true) (hq : 0 < txN q) : (b (T.2.1 + 0)).toInt32 = txC q 0 := by
  unfold isB at h
  rw [Bool.and_eq_true, Bool.and_eq_true] at h
  obtain ⟨k, hk⟩ : ∃ k, txN q = k + 1 := ⟨txN q - 1, by omega⟩
  have h3 := h.2.2
  rw [hk] at h3
  unfold fnd at h3
  rw [fndF] at h3
  cases hn : neB b T.2.1 q 0 with
  | true => rw [hn, if_pos rfl] at h3; cases h3
  | false =>
    unfold neB at hn
    exact Decidable.not_not.mp (of_decide_eq_false hn)
theorem ex_len {T : TK} {p q : Nat} (h : isB b T p = true) (hn : txN p ≠ txN q) : isB b T q = false := by
  cases hq : isB b T q with
  | false => rfl
  | true => exact absurd ((isB_len h).symm.trans (isB_len hq)) hn
theorem ex_6 {T : TK} (h : isB b T 6 = true) : isB b T 10 = false ∧ isB b T 17 = false := by
  refine ⟨ex_len h (by decide), ?_⟩
  cases hq : isB b T 17 with
  | false => rfl
  | true => exact absurd ((isB_0 h (by decide)).symm.trans (isB_0 hq (by decide))) (by decide)
theorem ex_10 {T : TK} (h : isB b T 10 = true) : isB b T 17 = false := ex_len h (by decide)
/-- where the reference stands after a line's words -/
def rN (b : Nat → Int8) (n : Nat) (w : TW) (T : TK) : PS := if isB b T 6 = true then (pCoM b n w (.inr (nx b n T))).1 else if isB b T 10 = true then (if w 5 < 3 then fnP (inM b n w (.inr (nx b n T))).2.2 else .inl (3, T.2.1)) else if isB b T 17 = true then (if w 6 < 6 then tkS b n 24 (ri4 b n w (.inr (nx b n T))).2 else .inl (3, T.2.1)) else if isB b T 25 = true then (toS b n 26 0 100 (nmS b n 0 6 (.inr (nx b n T))).2).2 else .inl (1, T.2.1)
theorem pLn_eq {T : TK} : (pLn b n w T).1 = sgS b n (rN b n w T) := by
  unfold pLn rN
  cases h6 : isB b T 6 with
  | true => rw [if_tt, if_tt, pCo_eq, nd_yes h6]
  | false =>
    rw [if_ff, if_ff]
    cases h10 : isB b T 10 with
    | true =>
      rw [if_tt, if_tt]
      by_cases c : w 5 < 3
      · rw [if_pos c, if_pos c, sg_fnP]; rfl
      · rw [if_neg c, if_neg c]; rfl
    | false =>
      rw [if_ff, if_ff]
      cases h17 : isB b T 17 with
      | true =>
        rw [if_tt, if_tt]
        by_cases c : w 6 < 6
        · rw [if_pos c, if_pos c]; rfl
        · rw [if_neg c, if_neg c]; rfl
      | false =>
        rw [if_ff, if_ff]
        cases h25 : isB b T 25 with
        | true => rw [if_tt, if_tt, nd_yes h25]; rfl
        | false => rw [if_ff, if_ff]; rfl
theorem m_isE {q : Nat} {f : Bool} (hM : MB I n b) (h : RSt b n I s) (hb : isS b q s = f) (hq : q < 27) (hd : 6 ≤ d) : K_X11_is X d q (I, L, ()) = some (some (aI (bI f)), (I, L, ())) := by
  subst hb; exact m_is hM h hq hd
theorem m_next {T : TK} (hM : MB I n b) (h : RSt b n I (.inr T)) (hQ : FQ I w) (w0 : 2 ≤ w 0 ∧ w 0 ≤ 8) (w5 : w 5 ≤ 3) (w6 : w 6 ≤ 6) (hd : 11 ≤ d) : ∃ J, K_X11_readNext X d (I, L, ()) = some (none, (J, L, ())) ∧ R46 I J ∧ RSt b n J (rN b n w T) ∧ (gd (rN b n w T) = true → FQ J (pLn b n w T).2) := by
  obtain ⟨g, rfl⟩ : ∃ g, d = g + 1 := ⟨d - 1, by omega⟩
  have is1 : ∀ q f, q < 27 → isB b T q = f → K_X11_is X g q (I, L, ()) = some (some (aI (bI f)), (I, L, ())) := fun q f hq hb => m_isE hM h hb hq (by omega)
  have gd1 : K_X11_good X g (I, L, ()) = some (some (aI (bI true)), (I, L, ())) := m_goodR h (by omega)
  have no1 : ∀ K, R6 I K → RSt b n K (.inr T) → ∀ q, q < 27 → isB b T q = false → ∃ J, K_X11_takes X g q (K, L, ()) = some (some (aI (bI false)), (J, L, ())) ∧ R6 I J ∧ RSt b n J (.inr T) := fun K hK hK2 q hq hb => by
    obtain ⟨J, j1, j2, j3⟩ := t_no (X := X) (d := g) (L := L) (hM.r6 hK) hK2 hq hb (by omega)
    exact ⟨J, j1, hK.trans j2, j3⟩
  unfold rN pLn
  cases h6 : isB b T 6 with
  | true =>
    rw [if_tt, if_tt]
    obtain ⟨h10, h17⟩ := ex_6 h6
    obtain ⟨J1, a1, a2, a3⟩ := t_yes (X := X) (d := g) (L := L) hM h (by decide) h6 (by omega)
    obtain ⟨K, k1, k2, k3, k4⟩ := m_coachL (X := X) (d := g) (L := L) (hM.r6 a2) a3 (hQ.r6 a2) w0 (by omega)
    refine ⟨K, K_X11_readNext.e X g I L _ ?_, a2.r46.trans k2, k3, fun hg => ?_⟩
    · rw [is1 6 true (by decide) h6, a_bi_i, if_neg bne1]
      dsimp +instances only
      rw [is1 10 false (by decide) h10, a_bi_i, if_pos beq0]
      dsimp +instances only
      rw [is1 17 false (by decide) h17, a_bi_i, if_pos beq0]
      dsimp +instances only
      rw [gd1, a_bi_i, if_neg bne1]
      dsimp +instances only
      rw [a1, a_bi_i, if_neg bne1]
      dsimp +instances only
      rw [k1, a_bv_n]
    · rw [pCo_eq, nd_yes h6]; exact k4 hg
  | false =>
    rw [if_ff, if_ff]
    cases h10 : isB b T 10 with
    | true =>
      rw [if_tt, if_tt]
      by_cases c : w 5 < 3
      · rw [if_pos c, if_pos c]
        obtain ⟨J0, z1, z2, z3⟩ := no1 I R6.refl h 6 (by decide) h6
        obtain ⟨J1, a1, a2, a3⟩ := t_yes (X := X) (d := g) (L := L) (hM.r6 z2) z3 (by decide) h10 (by omega)
        obtain ⟨K, k1, k2, k3, k4⟩ := m_inspL (X := X) (d := g) (L := L) ((hM.r6 z2).r6 a2) a3 ((hQ.r6 z2).r6 a2) w0 c (by omega)
        refine ⟨K, K_X11_readNext.e X g I L _ ?_, (z2.trans a2).r46.trans k2, k3, k4⟩
        rw [is1 6 false (by decide) h6, a_bi_i, if_pos beq0]
        dsimp +instances only
        rw [is1 10 true (by decide) h10, a_bi_i, if_neg bne1]
        dsimp +instances only
        rw [is1 10 true (by decide) h10, a_bi_i, if_neg bne1]
        dsimp +instances only
        rw [if_neg (show ¬ I 46 0 5 = 3 by rw [hQ 5 (by decide)]; exact fun z => by have := (n_eq (b := 3) (by omega) (by decide)).mp z; omega)]
        rw [is1 17 false (by decide) (ex_10 h10), a_bi_i, if_pos beq0]
        dsimp +instances only
        rw [gd1, a_bi_i, if_neg bne1]
        dsimp +instances only
        rw [z1, a_bi_i, if_pos beq0]
        dsimp +instances only
        rw [a1, a_bi_i, if_neg bne1]
        dsimp +instances only
        rw [k1, a_bv_n]
      · rw [if_neg c, if_neg c]
        obtain ⟨K, k1, k2, k3⟩ := m_errs (X := X) (d := g) (L := L) (k := 3) h (by decide) (by omega)
        have k1' : K_X11_errs X g (3 : Int32) (I, L, ()) = some (none, (K, L, ())) := k1
        refine ⟨K, K_X11_readNext.e X g I L _ ?_, k2.r46, k3, fun z => by cases z⟩
        rw [is1 6 false (by decide) h6, a_bi_i, if_pos beq0]
        dsimp +instances only
        rw [is1 10 true (by decide) h10, a_bi_i, if_neg bne1]
        dsimp +instances only
        rw [is1 10 true (by decide) h10, a_bi_i, if_neg bne1]
        dsimp +instances only
        rw [if_pos (show I 46 0 5 = 3 by rw [hQ 5 (by decide), show w 5 = 3 by omega]; rfl), k1', a_bv_n]
        dsimp +instances only
        rw [m_goodL k3 (by omega), a_bi_i, if_pos beq0]
    | false =>
      rw [if_ff, if_ff]
      obtain ⟨Y0, y1, y2, y3⟩ := no1 I R6.refl h 6 (by decide) h6
      obtain ⟨Y1, x1, x2, x3⟩ := no1 Y0 y2 y3 10 (by decide) h10
      cases h17 : isB b T 17 with
      | true =>
        rw [if_tt, if_tt]
        by_cases c : w 6 < 6
        · rw [if_pos c, if_pos c]
          obtain ⟨J1, a1, a2, a3⟩ := t_yes (X := X) (d := g) (L := L) (hM.r6 x2) x3 (by decide) h17 (by omega)
          obtain ⟨K, k1, k2, k3, k4⟩ := m_riderL (X := X) (d := g) (L := L) ((hM.r6 x2).r6 a2) a3 ((hQ.r6 x2).r6 a2) w0 c (by omega)
          refine ⟨K, K_X11_readNext.e X g I L _ ?_, (x2.trans a2).r46.trans k2, k3, fun _ => k4⟩
          rw [is1 6 false (by decide) h6, a_bi_i, if_pos beq0]
          dsimp +instances only
          rw [is1 10 false (by decide) h10, a_bi_i, if_pos beq0]
          dsimp +instances only
          rw [is1 17 true (by decide) h17, a_bi_i, if_neg bne1]
          dsimp +instances only
          rw [is1 10 false (by decide) h10, a_bi_i, if_pos beq0]
          dsimp +instances only
          rw [is1 17 true (by decide) h17, a_bi_i, if_neg bne1]
          dsimp +instances only
          rw [if_neg (show ¬ I 46 0 6 = 6 by rw [hQ 6 (by decide)]; exact fun z => by have := (n_eq (b := 6) (by omega) (by decide)).mp z; omega)]
          rw [gd1, a_bi_i, if_neg bne1]
          dsimp +instances only
          rw [y1, a_bi_i, if_pos beq0]
          dsimp +instances only
          rw [x1, a_bi_i, if_pos beq0]
          dsimp +instances only
          rw [a1, a_bi_i, if_neg bne1]
          dsimp +instances only
          rw [k1, a_bv_n]
        · rw [if_neg c, if_neg c]
          obtain ⟨K, k1, k2, k3⟩ := m_errs (X := X) (d := g) (L := L) (k := 3) h (by decide) (by omega)
          have k1' : K_X11_errs X g (3 : Int32) (I, L, ()) = some (none, (K, L, ())) := k1
          refine ⟨K, K_X11_readNext.e X g I L _ ?_, k2.r46, k3, fun z => by cases z⟩
          rw [is1 6 false (by decide) h6, a_bi_i, if_pos beq0]
          dsimp +instances only
          rw [is1 10 false (by decide) h10, a_bi_i, if_pos beq0]
          dsimp +instances only
          rw [is1 17 true (by decide) h17, a_bi_i, if_neg bne1]
          dsimp +instances only
          rw [is1 10 false (by decide) h10, a_bi_i, if_pos beq0]
          dsimp +instances only
          rw [is1 17 true (by decide) h17, a_bi_i, if_neg bne1]
          dsimp +instances only
          rw [if_pos (show I 46 0 6 = 6 by rw [hQ 6 (by decide), show w 6 = 6 by omega]; rfl), k1', a_bv_n]
          dsimp +instances only
          rw [m_goodL k3 (by omega), a_bi_i, if_pos beq0]
      | false =>
        rw [if_ff, if_ff]
        cases h25 : isB b T 25 with
        | true =>
          rw [if_tt, if_tt, nd_yes h25]
          obtain ⟨Y2, v1, v2, v3⟩ := no1 Y1 x2 x3 17 (by decide) h17
          obtain ⟨J1, a1, a2, a3⟩ := m_advS (X := X) (d := g) (L := L) (hM.r6 v2) v3 (by omega)
          obtain ⟨J2, b1, b2, b3⟩ := m_number (X := X) (d := g) (L := L) (lo := 0) (hi := 6) ((hM.r6 v2).r6 a2) a3 (by decide) (by decide) (by omega)
          have b1' : K_X11_number X g (0 : Int32) (6 : Int32) (J1, L, ()) = some (some (aI (nI (nmS b n 0 6 (.inr (nx b n T))).1)), (J2, L, ())) := b1
          obtain ⟨J3, c1, c2, c3⟩ := m_told (X := X) (d := g) (L := L) (q := 26) (lo := 0) (hi := 100) (((hM.r6 v2).r6 a2).r6 b2) b3 (by decide) (by decide) (by decide) (by omega)
          have c1' : K_X11_told X g 26 (0 : Int32) (100 : Int32) (J2, L, ()) = some (some (aI (nI (toS b n 26 0 100 (nmS b n 0 6 (.inr (nx b n T))).2).1)), (J3, L, ())) := c1
          have hle := nmS_le (b := b) (n := n) (lo := 0) (hi := 6) (s := .inr (nx b n T))
          have R3 : R6 I J3 := ((v2.trans a2).trans b2).trans c2
          have go := m_good (X := X) (d := g) (L := L) c3 (by omega)
          have st : ∀ r, (if bI (gd (toS b n 26 0 100 (nmS b n 0 6 (.inr (nx b n T))).2).2) = 0 then some (none, (J3, L, ())) else if aout (78 + nI (nmS b n 0 6 (.inr (nx b n T))).1) 325 then none else some (none, ((up3 J3 46 0 (78 + nI (nmS b n 0 6 (.inr (nx b n T))).1).toNatClampNeg (nI (toS b n 26 0 100 (nmS b n 0 6 (.inr (nx b n T))).2).1)), L, ()))) = some r → K_X11_readNext X (g + 1) (I, L, ()) = some r := fun r hr => by
            refine K_X11_readNext.e X g I L _ ?_
            rw [is1 6 false (by decide) h6, a_bi_i, if_pos beq0]
            dsimp +instances only
            rw [is1 10 false (by decide) h10, a_bi_i, if_pos beq0]
            dsimp +instances only
            rw [is1 17 false (by decide) h17, a_bi_i, if_pos beq0]
            dsimp +instances only
            rw [is1 25 true (by decide) h25, a_bi_i, if_neg bne1]
            dsimp +instances only
            rw [is1 10 false (by decide) h10, a_bi_i, if_pos beq0]
            dsimp +instances only
            rw [is1 17 false (by decide) h17, a_bi_i, if_pos beq0]
            dsimp +instances only
            rw [gd1, a_bi_i, if_neg bne1]
            dsimp +instances only
            rw [y1, a_bi_i, if_pos beq0]
            dsimp +instances only
            rw [x1, a_bi_i, if_pos beq0]
            dsimp +instances only
            rw [v1, a_bi_i, if_pos beq0]
            dsimp +instances only
            rw [a1, a_bv_n]
            dsimp +instances only
            rw [b1', a_bi_i]
            dsimp +instances only
            rw [c1', a_bi_i]
            dsimp +instances only
            rw [go, a_bi_i]
            exact hr
          unfold pDa
          generalize nmS b n 0 6 (.inr (nx b n T)) = r1 at b1 b1' b3 c1 c1' c3 hle go st ⊢
          obtain ⟨dd, s1⟩ := r1
          simp only at c3 st hle ⊢
          cases hg : gd (toS b n 26 0 100 s1).2 with
          | false =>
            rw [hg, if_pos beq0] at st
            exact ⟨J3, st _ rfl, R3.r46, c3, fun z => by cases z⟩
          | true =>
            rw [hg, if_neg bne1] at st
            have hs1 : gd s1 = true := by
              cases s1 with
              | inl f => cases hg
              | inr T1 => rfl
            have hdd : dd ≤ 6 := (hle hs1).2
            have ed : (78 : Int32) + nI dd = nI (78 + dd) := n_add 78 dd
            rw [ed, if_neg (show ¬ aout (nI (78 + dd)) 325 by rw [n_out (by omega)]; omega), n_toN (show 78 + dd < 2147483648 by omega)] at st
            exact ⟨_, st _ rfl, R3.r46.up, c3.up46, fun _ => (hQ.r6 R3).up⟩
        | false =>
          rw [if_ff, if_ff]
          obtain ⟨K, k1, k2, k3⟩ := m_errs (X := X) (d := g) (L := L) (k := 1) h (by decide) (by omega)
          have k1' : K_X11_errs X g (1 : Int32) (I, L, ()) = some (none, (K, L, ())) := k1
          have is2 : ∀ q, q < 27 → K_X11_is X g q (K, L, ()) = some (some (aI (bI false)), (K, L, ())) := fun q hq => m_isE (hM.r6 k2) k3 rfl hq (by omega)
          refine ⟨K, K_X11_readNext.e X g I L _ ?_, k2.r46, k3, fun z => by cases z⟩
          rw [is1 6 false (by decide) h6, a_bi_i, if_pos beq0]
          dsimp +instances only
          rw [is1 10 false (by decide) h10, a_bi_i, if_pos beq0]
          dsimp +instances only
          rw [is1 17 false (by decide) h17, a_bi_i, if_pos beq0]
          dsimp +instances only
          rw [is1 25 false (by decide) h25, a_bi_i, if_pos beq0]
          dsimp +instances only
          rw [k1', a_bv_n]
          dsimp +instances only
          rw [is2 10 (by decide), a_bi_i, if_pos beq0]
          dsimp +instances only
          rw [is2 17 (by decide), a_bi_i, if_pos beq0]
          dsimp +instances only
          rw [m_goodL k3 (by omega), a_bi_i, if_pos beq0]
end
