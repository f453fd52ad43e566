section
variable {X : AX} {d : Nat} {I J : A3 Int32} {L : A3 Int64} {b : Nat → Int8} {n : Nat}
/-! the reference's state: a fault, or a token -/
abbrev PS : Type := Sum (Nat × Nat) TK
def RSt (b : Nat → Int8) (n : Nat) (I : A3 Int32) (s : PS) : Prop := match s with
  | .inl (k, p) => I 40 0 12 = nI k ∧ (1 ≤ k ∧ k ≤ 3) ∧ I 40 0 13 = nI p
  | .inr T => I 40 0 12 = nI 0 ∧ I 40 0 13 = nN ∧ RK I T ∧ TO b n T
def gd (s : PS) : Bool := s.isRight
def isS (b : Nat → Int8) (q : Nat) (s : PS) : Bool := match s with
  | .inl _ => false
  | .inr T => isB b T q
def erS (k : Nat) (s : PS) : PS := match s with
  | .inl f => .inl f
  | .inr T => .inl (k, T.2.1)
def ndS (b : Nat → Int8) (n q : Nat) (s : PS) : PS := match s with
  | .inl f => .inl f
  | .inr T => if isB b T q = true then .inr (nx b n T) else .inl (1, T.2.1)
def tkS (b : Nat → Int8) (n q : Nat) (s : PS) : PS := match s with
  | .inl f => .inl f
  | .inr T => if isB b T q = true then .inr (nx b n T) else .inr T
def nmS (b : Nat → Int8) (n lo hi : Nat) (s : PS) : Nat × PS := match s with
  | .inl f => (0, .inl f)
  | .inr T => if T.1 = 2 then (if lo ≤ T.2.2.2 ∧ T.2.2.2 ≤ hi then (T.2.2.2, .inr (nx b n T)) else (0, .inl (2, T.2.1))) else (0, .inl (1, T.2.1))
def toS (b : Nat → Int8) (n q lo hi : Nat) (s : PS) : Nat × PS := nmS b n lo hi (ndS b n q s)
def sgS (b : Nat → Int8) (n : Nat) (s : PS) : PS := match s with
  | .inl f => .inl f
  | .inr T => if T.1 = 3 then .inr (nx b n T) else .inl (1, T.2.1)
def moS (s : PS) : Bool := match s with
  | .inl _ => false
  | .inr T => decide (¬ T.1 = 3)
theorem RSt.fm {s : PS} (h : RSt b n I s) (hF : ∀ j, 8 ≤ j → j ≤ 13 → J 40 0 j = I 40 0 j) : RSt b n J s := by
  cases s with
  | inl f =>
    obtain ⟨k, p⟩ := f
    obtain ⟨h1, h2, h3⟩ := h
    exact ⟨by rw [hF 12 (by decide) (by decide)]; exact h1, h2, by rw [hF 13 (by decide) (by decide)]; exact h3⟩
  | inr T =>
    obtain ⟨h1, h2, ⟨h3, h4, h5, h6⟩, h7⟩ := h
    exact ⟨by rw [hF 12 (by decide) (by decide)]; exact h1, by rw [hF 13 (by decide) (by decide)]; exact h2, ⟨by rw [hF 10 (by decide) (by decide)]; exact h3, by rw [hF 9 (by decide) (by decide)]; exact h4, by rw [hF 8 (by decide) (by decide)]; exact h5, fun z => by rw [hF 11 (by decide) (by decide)]; exact h6 z⟩, h7⟩
/-- only the reader's cells of the reference change -/
def R6 (I J : A3 Int32) : Prop := Fm [40] I J ∧ ∀ j, (j < 8 ∨ 13 < j) → J 40 0 j = I 40 0 j
theorem R6.refl : R6 I I := ⟨Fm.refl, fun _ _ => rfl⟩
theorem R6.trans {K : A3 Int32} (h1 : R6 I J) (h2 : R6 J K) : R6 I K := ⟨h1.1.trans h2.1, fun j hj => (h2.2 j hj).trans (h1.2 j hj)⟩
theorem R4.r6 (h : R4 I J) : R6 I J := ⟨h.1, fun j hj => h.2 j (by omega)⟩
theorem MB.r6 (h : MB I n b) (hR : R6 I J) : MB J n b := ⟨h.1, by rw [hR.2 7 (by decide)]; exact h.2.1, fun j hj => by rw [hR.1 44 (by decide)]; exact h.2.2 j hj⟩
theorem m_good {s : PS} (h : RSt b n I s) (hd : 1 ≤ d) : K_X11_good X d (I, L, ()) = some (some (aI (bI (gd s))), (I, L, ())) := by
  obtain ⟨g, rfl⟩ : ∃ g, d = g + 1 := ⟨d - 1, by omega⟩
  refine K_X11_good.e X g I L _ ?_
  cases s with
  | inl f =>
    obtain ⟨k, p⟩ := f
    rw [h.1, if_neg (show ¬ nI k = 0 from fun z => by have := (n_eq (b := 0) (by have := h.2.1; omega) (by decide)).mp z; have := h.2.1; omega)]; rfl
  | inr T => rw [h.1, if_pos (show nI 0 = 0 from rfl)]; rfl
theorem m_goodR {T : TK} (h : RSt b n I (.inr T)) (hd : 1 ≤ d) : K_X11_good X d (I, L, ()) = some (some (aI (bI true)), (I, L, ())) := m_good h hd
theorem m_goodL {f : Nat × Nat} (h : RSt b n I (.inl f)) (hd : 1 ≤ d) : K_X11_good X d (I, L, ()) = some (some (aI (bI false)), (I, L, ())) := m_good h hd
theorem m_errs {s : PS} {k : Nat} (h : RSt b n I s) (hk : 1 ≤ k ∧ k ≤ 3) (hd : 2 ≤ d) : ∃ J, K_X11_errs X d (nI k) (I, L, ()) = some (none, (J, L, ())) ∧ R6 I J ∧ RSt b n J (erS k s) := by
  obtain ⟨g, rfl⟩ : ∃ g, d = g + 1 := ⟨d - 1, by omega⟩
  cases hs : s with
  | inl f =>
    rw [hs] at h
    refine ⟨I, K_X11_errs.e X g _ I L _ ?_, R6.refl, h⟩
    rw [m_goodL h (by omega), a_bi_i, if_pos beq0]
  | inr T =>
    rw [hs] at h
    refine ⟨up3 (up3 I 40 0 12 (nI k)) 40 0 13 (nI T.2.1), K_X11_errs.e X g _ I L _ ?_, ⟨(Fm.refl.up (by decide)).up (by decide), fun j hj => by rw [u3_j _ _ (by omega), u3_j _ _ (by omega)]⟩, ⟨by rw [u3_j _ _ (by decide), u3_eq], hk, u3_eq _ _ _ _ _⟩⟩
    rw [m_goodR h (by omega), a_bi_i, if_neg bne1]
    dsimp +instances only
    rw [u3_j _ _ (show 9 ≠ 12 by decide), h.2.2.1.2.1]
theorem m_is {s : PS} {q : Nat} (hM : MB I n b) (h : RSt b n I s) (hq : q < 27) (hd : 6 ≤ d) : K_X11_is X d q (I, L, ()) = some (some (aI (bI (isS b q s))), (I, L, ())) := by
  obtain ⟨g, rfl⟩ : ∃ g, d = g + 1 := ⟨d - 1, by omega⟩
  obtain ⟨hn, h7, h44⟩ := hM
  have l9 := (tx_ck q hq).1
  have zero : v_X11_is_39 X g q (0 : Int32) (0 : Int32) (I, L, ()) = some (some (aI (bI false)), (I, L, ())) := by
    refine v_X11_is_39.e X g q _ _ I L _ ?_
    rw [if_pos (decide_eq_true (show q < 100 by omega)), x_len hq (by omega), a_bi_i]
    by_cases c : (0 : Int32) < nI (txN q)
    · rw [if_pos c, if_pos rfl, if_pos (Or.inl rfl)]; rfl
    · rw [if_neg c, if_pos (Or.inl rfl)]; rfl
  refine K_X11_is.e X g q I L _ ?_
  cases hs : s with
  | inl f =>
    rw [hs] at h
    rw [m_goodL h (by omega), a_bi_i, if_pos beq0]
    exact zero
  | inr T =>
    rw [hs] at h
    obtain ⟨-, -, ⟨k10, k9, k8, -⟩, hO⟩ := id h
    obtain ⟨o1, o2, o3, o4, o5⟩ := hO.ok
    rw [m_goodR h (by omega), a_bi_i, if_neg bne1]
    dsimp +instances only
    rw [k10]
    show _ = some (some (aI (bI (isB b T q))), (I, L, ()))
    unfold isB
    by_cases k1 : T.1 = 1
    · rw [k1, if_pos (show nI 1 = 1 from rfl), if_pos (decide_eq_true (show q < 100 by omega)), x_len hq (by omega), a_bi_i, k8, k9, n_sub o1, decide_eq_true rfl, Bool.true_and]
      by_cases k2 : T.2.2.1 - T.2.1 = txN q
      · rw [if_pos (by rw [k2]), decide_eq_true k2, Bool.true_and]
        have key : ∀ k i, i + k = txN q → v_X11_is_39 X g q (1 : Int32) (nI i) (I, L, ()) = some (some (aI (bI (fndF (neB b T.2.1 q) k i).isNone)), (I, L, ())) := by
          intro k
          induction k with
          | zero =>
            intro i hi
            refine v_X11_is_39.e X g q _ _ I L _ ?_
            rw [if_pos (decide_eq_true (show q < 100 by omega)), x_len hq (by omega), a_bi_i, if_neg (fun z => by have := (n_lt (by omega) (by omega)).mp z; omega), if_pos (Or.inr rfl)]
            rfl
          | succ k ih =>
            intro i hi
            refine v_X11_is_39.e X g q _ _ I L _ ?_
            rw [if_pos (decide_eq_true (show q < 100 by omega)), x_len hq (by omega), a_bi_i, if_pos ((n_lt (by omega) (by omega)).mpr (by omega)), if_neg (by decide)]
            have hI2 : I 44 0 (I 40 0 9 + nI i).toNatClampNeg = (b (T.2.1 + i)).toInt32 := by rw [k9, n_add, n_toN (show T.2.1 + i < 2147483648 by omega), h44 _ (by omega)]
            rw [if_neg (show ¬ aout (I 40 0 9 + nI i) 1200 by rw [k9, n_add, n_out (by omega)]; omega), if_pos (decide_eq_true (show q < 100 by omega)), x_chr hq (by omega) (by omega), a_bi_i, fndF]
            by_cases hc : (b (T.2.1 + i)).toInt32 = txC q i
            · have : neB b T.2.1 q i = false := by unfold neB; rw [decide_eq_false (fun z => z hc)]
              rw [if_pos (show I 44 0 (I 40 0 9 + nI i).toNatClampNeg = txC q i by rw [hI2]; exact hc), this, if_neg (by decide), show nI i + 1 = nI (i + 1) from n_add i 1]
              exact ih (i + 1) (by omega)
            · have : neB b T.2.1 q i = true := by unfold neB; rw [decide_eq_true hc]
              rw [if_neg (show ¬ I 44 0 (I 40 0 9 + nI i).toNatClampNeg = txC q i by rw [hI2]; exact hc), this, if_pos rfl]
              refine v_X11_is_39.e X g q _ _ I L _ ?_
              rw [if_pos (decide_eq_true (show q < 100 by omega)), x_len hq (by omega), a_bi_i]
              by_cases c : nI i + 1 < nI (txN q)
              · rw [if_pos c, if_pos rfl, if_pos (Or.inl rfl)]; rfl
              · rw [if_neg c, if_pos (Or.inl rfl)]; rfl
        exact key (txN q) 0 (by omega)
      · rw [if_neg (fun z => k2 ((n_eq (by omega) (by omega)).mp z)), decide_eq_false k2, Bool.false_and]
        exact zero
    · rw [if_neg (show ¬ nI T.1 = 1 from fun z => k1 ((n_eq (b := 1) (by omega) (by decide)).mp z)), decide_eq_false k1, Bool.false_and]
      exact zero
end
