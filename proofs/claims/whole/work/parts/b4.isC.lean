/-! a token's word -/
section
variable {X : AX} {d : Nat} {I J : A3 Int32} {L : A3 Int64} {b : Nat → Int8} {n : Nat}
/-- a token of the tape -/
def TO (b : Nat → Int8) (n : Nat) (T : TK) : Prop := ∃ p, p ≤ n ∧ T = tk b n p
theorem TO.ok {T : TK} (h : TO b n T) : T.2.1 ≤ T.2.2.1 ∧ T.2.2.1 ≤ n ∧ (T.1 = 0 ∨ T.2.1 < T.2.2.1) ∧ T.1 ≤ 4 ∧ T.2.2.2 ≤ 99999 := by
  obtain ⟨p, hp, rfl⟩ := h
  exact (tk_ok hp).2
def nx (b : Nat → Int8) (n : Nat) (T : TK) : TK := tk b n T.2.2.1
theorem TO.nx {T : TK} (h : TO b n T) : TO b n (nx b n T) := ⟨T.2.2.1, h.ok.2.1, rfl⟩
theorem nx_from {T : TK} (h : TO b n T) : T.2.2.1 ≤ (nx b n T).2.1 := (tk_ok h.ok.2.1).1
def neB (b : Nat → Int8) (f q i : Nat) : Bool := decide (¬ (b (f + i)).toInt32 = txC q i)
def isB (b : Nat → Int8) (T : TK) (q : Nat) : Bool := decide (T.1 = 1) && (decide (T.2.2.1 - T.2.1 = txN q) && (fnd (txN q) (neB b T.2.1 q)).isNone)
theorem c_is {T : TK} {q : Nat} (hT : TB I n b) (hC : CT I T) (hO : TO b n T) (hq : q < 27) (hd : 6 ≤ d) : K_X8_is X d q (I, L, ()) = some (some (aI (bI (isB b T q))), (I, L, ())) := by
  obtain ⟨g, rfl⟩ : ∃ g, d = g + 1 := ⟨d - 1, by omega⟩
  obtain ⟨hn, h1, h2⟩ := hT
  obtain ⟨c1, c2, c3, -⟩ := hC
  obtain ⟨o1, o2, o3, o4, o5⟩ := hO.ok
  have l9 := (tx_ck q hq).1
  refine K_X8_is.e X g q I L _ ?_
  rw [c1]
  unfold isB
  by_cases k1 : T.1 = 1
  · rw [k1, if_pos (show nI 1 = 1 from rfl), if_pos (decide_eq_true (show q < 100 by omega)), x_len hq (by omega), a_bi_i, c3, c2, n_sub o1, decide_eq_true rfl, Bool.true_and]
    by_cases k2 : T.2.2.1 - T.2.1 = txN q
    · rw [if_pos (by rw [k2]), decide_eq_true k2, Bool.true_and]
      have key : ∀ k i, i + k = txN q → v_X8_is_28 X g q (nI i) (I, L, ()) = some (some (aI (bI (fndF (neB b T.2.1 q) k i).isNone)), (I, L, ())) := by
        intro k
        induction k with
        | zero =>
          intro i hi
          refine v_X8_is_28.e X g q _ I L _ ?_
          rw [if_pos (decide_eq_true (show q < 100 by omega)), x_len hq (by omega), a_bi_i, if_neg (fun z => by have := (n_lt (by omega) (by omega)).mp z; omega)]
          rfl
        | succ k ih =>
          intro i hi
          refine v_X8_is_28.e X g q _ I L _ ?_
          rw [if_pos (decide_eq_true (show q < 100 by omega)), x_len hq (by omega), a_bi_i, if_pos ((n_lt (by omega) (by omega)).mpr (by omega))]
          have hI2 : I 2 0 (I 4 0 2 + nI i).toNatClampNeg = (b (T.2.1 + i)).toInt32 := by rw [c2, n_add, n_toN (show T.2.1 + i < 2147483648 by omega), h2 _ (by omega)]
          rw [if_neg (show ¬ aout (I 4 0 2 + nI i) 1200 by rw [c2, n_add, n_out (by omega)]; omega), if_pos (decide_eq_true (show q < 100 by omega)), x_chr hq (by omega) (by omega), a_bi_i, fndF]
          by_cases hc : (b (T.2.1 + i)).toInt32 = txC q i
          · have : neB b T.2.1 q i = false := by unfold neB; rw [decide_eq_false (fun z => z hc)]
            rw [if_pos (show I 2 0 (I 4 0 2 + nI i).toNatClampNeg = txC q i by rw [hI2]; exact hc), this, if_neg (by decide), l_1, n_add]
            exact ih (i + 1) (by omega)
          · have : neB b T.2.1 q i = true := by unfold neB; rw [decide_eq_true hc]
            rw [if_neg (show ¬ I 2 0 (I 4 0 2 + nI i).toNatClampNeg = txC q i by rw [hI2]; exact hc), this, if_pos rfl]
            rfl
      exact key (txN q) 0 (by omega)
    · rw [if_neg (fun z => k2 ((n_eq (by omega) (by omega)).mp z)), decide_eq_false k2, Bool.false_and]
      rfl
  · rw [if_neg (show ¬ nI T.1 = 1 from fun z => k1 ((n_eq (b := 1) (by omega) (by decide)).mp z)), decide_eq_false k1, Bool.false_and]
    rfl
end
