/-! the class reads an inspector, a way, a rule -/
def im1 (b : Nat → Int8) (n : Nat) (x : Option Nat × Bool × PS) : Option Nat × Bool × PS := match x.2.2 with
  | .inl _ => x
  | .inr T => if x.1 = none ∧ isB b T 15 = true then (some (toS b n 15 0 100 (.inr T)).1, x.2.1, (toS b n 15 0 100 (.inr T)).2) else if x.2.1 = false ∧ isB b T 16 = true then (x.1, true, .inr (nx b n T)) else x
def wIn (w : TW) (c y p k : Nat) (t : Bool) : TW := wup (wup (wup (wup (wup (wup w 5 (w 5 + 1)) (33 + (w 5 * 5)) c) (33 + (w 5 * 5 + 1)) y) (33 + (w 5 * 5 + 2)) p) (33 + (w 5 * 5 + 3)) k) (33 + (w 5 * 5 + 4)) t.toNat
def inM (b : Nat → Int8) (n : Nat) (w : TW) (s0 : PS) : Option Nat × Bool × PS := im1 b n (im1 b n (none, false, (toS b n 14 1 20 (wyS b n (toS b n 11 0 (w 0 - 1) s0).2).2).2))
def pIn (b : Nat → Int8) (n : Nat) (w : TW) (s0 : PS) : PS × TW := (sgS b n (inM b n w s0).2.2, wIn w (toS b n 11 0 (w 0 - 1) s0).1 (wyS b n (toS b n 11 0 (w 0 - 1) s0).2).1 (toS b n 14 1 20 (wyS b n (toS b n 11 0 (w 0 - 1) s0).2).2).1 ((inM b n w s0).1.getD 0) (inM b n w s0).2.1)
theorem toS_inl {b : Nat → Int8} {n q lo hi : Nat} {f : Nat × Nat} : toS b n q lo hi (.inl f) = (0, .inl f) := rfl
theorem wyS_inl {b : Nat → Int8} {n : Nat} {f : Nat × Nat} : wyS b n (.inl f) = (1, .inl f) := rfl
theorem ruS_inl {b : Nat → Int8} {n : Nat} {f : Nat × Nat} : ruS b n (.inl f) = (3, .inl f) := rfl
theorem sgS_inl {b : Nat → Int8} {n : Nat} {f : Nat × Nat} : sgS b n (.inl f) = .inl f := rfl
theorem im1_inl {b : Nat → Int8} {n : Nat} {f : Nat × Nat} {k : Option Nat} {t : Bool} : im1 b n (k, t, .inl f) = (k, t, .inl f) := rfl
theorem toS_le {b : Nat → Int8} {n q lo hi : Nat} {s : PS} (h : gd (toS b n q lo hi s).2 = true) : lo ≤ (toS b n q lo hi s).1 ∧ (toS b n q lo hi s).1 ≤ hi := nmS_le h
theorem wy_le {b : Nat → Int8} {n : Nat} {s : PS} : (wyS b n s).1 ≤ 1 := by
  unfold wyS
  cases s with
  | inl f => exact Nat.le_refl _
  | inr T => simp only; split <;> simp
theorem ru_le {b : Nat → Int8} {n : Nat} {s : PS} : (ruS b n s).1 ≤ 3 := by
  unfold ruS
  cases s with
  | inl f => exact Nat.le_refl _
  | inr T => simp only; split
             · simp
             · split
               · simp
               · split <;> simp
section
variable {X : AX} {d : Nat} {I J : A3 Int32} {L : A3 Int64} {b : Nat → Int8} {n : Nat} {w : TW} {e : CE}
theorem c_readWay {T : TK} (hT : TB I n b) (h : CPt b n I (.inr T)) (hd : 7 ≤ d) : ∃ J, K_X4_readWay X d (I, L, ()) = some (some (aI (vN (wyS b n (.inr T)))), (J, L, ())) ∧ Fm [3, 4] I J ∧ CPt b n J (wyS b n (.inr T)).2 := by
  obtain ⟨g, rfl⟩ : ∃ g, d = g + 1 := ⟨d - 1, by omega⟩
  have e1 := c_isS (X := X) (d := g) (L := L) (q := 12) hT h (by decide) (by omega)
  have e2 := c_isS (X := X) (d := g) (L := L) (q := 13) hT h (by decide) (by omega)
  unfold wyS ndS
  simp only
  cases h1 : isB b T 12 with
  | true =>
    rw [h1] at e1
    obtain ⟨J, j1, j2, j3⟩ := c_readChoice (X := X) (d := g) (L := L) (k := 0) hT h (by decide) (by omega)
    have j1' : K_X4_readChoice X g (0 : Int32) (I, L, ()) = some (some (aI (nI 0)), (J, L, ())) := j1
    refine ⟨J, K_X4_readWay.e X g I L _ ?_, j2, j3⟩
    rw [e1, a_bi_i, if_neg bne1]
    dsimp +instances only
    rw [j1', a_bi_i]
    rfl
  | false =>
    rw [h1] at e1
    cases h2 : isB b T 13 with
    | true =>
      rw [h2] at e2
      obtain ⟨J, j1, j2, j3⟩ := c_readChoice (X := X) (d := g) (L := L) (k := 1) hT h (by decide) (by omega)
      have j1' : K_X4_readChoice X g (1 : Int32) (I, L, ()) = some (some (aI (nI 1)), (J, L, ())) := j1
      refine ⟨J, K_X4_readWay.e X g I L _ ?_, j2, j3⟩
      rw [e1, a_bi_i, if_pos beq0]
      dsimp +instances only
      rw [e2, a_bi_i, if_neg bne1]
      dsimp +instances only
      rw [j1', a_bi_i]
      rfl
    | false =>
      rw [h2] at e2
      obtain ⟨J, j1, j2, j3⟩ := c_noChoice (X := X) (d := g) (L := L) h (by omega)
      have j1' : K_X4_readChoice X g (-1 : Int32) (I, L, ()) = some (some (aI nN), (J, L, ())) := j1
      refine ⟨J, K_X4_readWay.e X g I L _ ?_, j2, j3⟩
      rw [e1, a_bi_i, if_pos beq0]
      dsimp +instances only
      rw [e2, a_bi_i, if_pos beq0]
      dsimp +instances only
      rw [j1', a_bi_i]
      rfl
theorem c_readRule {T : TK} (hT : TB I n b) (h : CPt b n I (.inr T)) (hd : 7 ≤ d) : ∃ J, K_X4_readRule X d (I, L, ()) = some (some (aI (vN (ruS b n (.inr T)))), (J, L, ())) ∧ Fm [3, 4] I J ∧ CPt b n J (ruS b n (.inr T)).2 := by
  obtain ⟨g, rfl⟩ : ∃ g, d = g + 1 := ⟨d - 1, by omega⟩
  have e1 := c_isS (X := X) (d := g) (L := L) (q := 19) hT h (by decide) (by omega)
  have e2 := c_isS (X := X) (d := g) (L := L) (q := 20) hT h (by decide) (by omega)
  have e3 := c_isS (X := X) (d := g) (L := L) (q := 8) hT h (by decide) (by omega)
  have e4 := c_isS (X := X) (d := g) (L := L) (q := 21) hT h (by decide) (by omega)
  have ch : ∀ k, k < 1000 → ∃ J, K_X4_readChoice X g (nI k) (I, L, ()) = some (some (aI (nI k)), (J, L, ())) ∧ Fm [3, 4] I J ∧ CPt b n J (.inr (nx b n T)) := fun k hk => c_readChoice hT h hk (by omega)
  unfold ruS ndS
  simp only
  cases h1 : isB b T 19 with
  | true =>
    rw [h1] at e1
    obtain ⟨J, j1, j2, j3⟩ := ch 0 (by decide)
    have j1' : K_X4_readChoice X g (0 : Int32) (I, L, ()) = some (some (aI (nI 0)), (J, L, ())) := j1
    refine ⟨J, K_X4_readRule.e X g I L _ ?_, j2, j3⟩
    rw [e1, a_bi_i, if_neg bne1]
    dsimp +instances only
    rw [j1', a_bi_i]
    rfl
  | false =>
    rw [h1] at e1
    cases h2 : isB b T 20 with
    | true =>
      rw [h2] at e2
      obtain ⟨J, j1, j2, j3⟩ := ch 1 (by decide)
      have j1' : K_X4_readChoice X g (1 : Int32) (I, L, ()) = some (some (aI (nI 1)), (J, L, ())) := j1
      refine ⟨J, K_X4_readRule.e X g I L _ ?_, j2, j3⟩
      rw [e1, a_bi_i, if_pos beq0]
      dsimp +instances only
      rw [e2, a_bi_i, if_neg bne1]
      dsimp +instances only
      rw [j1', a_bi_i]
      rfl
    | false =>
      rw [h2] at e2
      cases h3 : isB b T 8 with
      | true =>
        rw [h3] at e3
        obtain ⟨J, j1, j2, j3⟩ := ch 2 (by decide)
        have j1' : K_X4_readChoice X g (2 : Int32) (I, L, ()) = some (some (aI (nI 2)), (J, L, ())) := j1
        refine ⟨J, K_X4_readRule.e X g I L _ ?_, j2, j3⟩
        rw [e1, a_bi_i, if_pos beq0]
        dsimp +instances only
        rw [e2, a_bi_i, if_pos beq0]
        dsimp +instances only
        rw [e3, a_bi_i, if_neg bne1]
        dsimp +instances only
        rw [j1', a_bi_i]
        rfl
      | false =>
        rw [h3] at e3
        cases h4 : isB b T 21 with
        | true =>
          rw [h4] at e4
          obtain ⟨J, j1, j2, j3⟩ := ch 3 (by decide)
          have j1' : K_X4_readChoice X g (3 : Int32) (I, L, ()) = some (some (aI (nI 3)), (J, L, ())) := j1
          refine ⟨J, K_X4_readRule.e X g I L _ ?_, j2, j3⟩
          rw [e1, a_bi_i, if_pos beq0]
          dsimp +instances only
          rw [e2, a_bi_i, if_pos beq0]
          dsimp +instances only
          rw [e3, a_bi_i, if_pos beq0]
          dsimp +instances only
          rw [e4, a_bi_i, if_neg bne1]
          dsimp +instances only
          rw [j1', a_bi_i]
          rfl
        | false =>
          rw [h4] at e4
          obtain ⟨J, j1, j2, j3⟩ := c_noChoice (X := X) (d := g) (L := L) h (by omega)
          have j1' : K_X4_readChoice X g (-1 : Int32) (I, L, ()) = some (some (aI nN), (J, L, ())) := j1
          refine ⟨J, K_X4_readRule.e X g I L _ ?_, j2, j3⟩
          rw [e1, a_bi_i, if_pos beq0]
          dsimp +instances only
          rw [e2, a_bi_i, if_pos beq0]
          dsimp +instances only
          rw [e3, a_bi_i, if_pos beq0]
          dsimp +instances only
          rw [e4, a_bi_i, if_pos beq0]
          dsimp +instances only
          rw [j1', a_bi_i]
          rfl
/-- one turn of the class's loop over an inspector's marks -/
theorem c_imark {i0 c y p : Int32} {k : Option Nat} {t : Bool} {i : Nat} {T : TK} (hT : TB I n b) (h : CPt b n I (.inr T)) (hk : ∀ v, k = some v → v < 1000) (hi : i < 2) (hd : 8 ≤ d) : ∃ J, Fm [3, 4] I J ∧ CPt b n J (im1 b n (k, t, .inr T)).2.2 ∧ (∀ f, (im1 b n (k, t, .inr T)).2.2 = .inl f → v_X4_readInspector_90 X d 1 i0 c y p (oI k) (bI t) (nI i) (I, L, ()) = some (some (aI (0 : Int32)), (J, L, ()))) ∧ (∀ T', (im1 b n (k, t, .inr T)).2.2 = .inr T' → OLe (v_X4_readInspector_90 X d 1 i0 c y p (oI (im1 b n (k, t, .inr T)).1) (bI (im1 b n (k, t, .inr T)).2.1) (nI (i + 1)) (J, L, ())) (v_X4_readInspector_90 X d 1 i0 c y p (oI k) (bI t) (nI i) (I, L, ()))) := by
  have e1 := c_isS (X := X) (d := d) (L := L) (q := 15) hT h (by decide) (by omega)
  have e2 := c_isS (X := X) (d := d) (L := L) (q := 16) hT h (by decide) (by omega)
  have q0 : nI i < 2 := (n_lt (b := 2) (by omega) (by decide)).mpr hi
  have en : nI i + 1 = nI (i + 1) := n_add i 1
  have oN : ∀ v, k = some v → ¬ oI (some v) = -1 := fun v hv z => (n_neN (a := v) (by have := hk v hv; omega)).mp z
  unfold im1
  simp only
  cases k with
  | none =>
    cases h1 : isB b T 15 with
    | true =>
      rw [h1] at e1
      obtain ⟨J, j1, j2, j3⟩ := c_readAfter (X := X) (d := d) (L := L) (q := 15) (lo := 0) (hi := 100) hT h (by decide) (by decide) (by decide) (by omega)
      have j1' : K_X4_readAfter X d 15 (0 : Int32) (100 : Int32) (I, L, ()) = some (some (aI (vN (toS b n 15 0 100 (.inr T)))), (J, L, ())) := j1
      simp only [and_self, if_true]
      have st : ∀ r, (if vN (toS b n 15 0 100 (.inr T)) = -1 then some (some (aI (0 : Int32)), (J, L, ())) else v_X4_readInspector_90 X d 1 i0 c y p (vN (toS b n 15 0 100 (.inr T))) (bI t) (nI (i + 1)) (J, L, ())) = some r → v_X4_readInspector_90 X d 1 i0 c y p (oI none) (bI t) (nI i) (I, L, ()) = some r := fun r hr => by
        refine v_X4_readInspector_90.e X d _ _ _ _ _ _ _ _ I L r ?_
        rw [if_pos q0, if_pos (show oI none = -1 from rfl), e1, a_bi_i, if_neg bne1]
        dsimp +instances only
        rw [j1', a_bi_i, en]
        exact hr
      have hle := toS_le (b := b) (n := n) (q := 15) (lo := 0) (hi := 100) (s := .inr T)
      generalize toS b n 15 0 100 (.inr T) = r1 at j1 j1' j3 st hle ⊢
      obtain ⟨v, s1⟩ := r1
      refine ⟨J, j2, j3, fun f hf => ?_, fun T' hT' => ?_⟩
      · simp only at hf
        subst hf
        exact st _ (if_pos rfl)
      · simp only at hT'
        subst hT'
        have hv : v ≤ 100 := (hle rfl).2
        exact fun r hr => st r (by rw [if_neg (show ¬ vN (v, .inr T') = -1 from fun z => (n_neN (a := v) (by omega)).mp z)]; exact hr)
    | false =>
      rw [h1] at e1
      cases t with
      | false =>
        cases h2 : isB b T 16 with
        | true =>
          rw [h2] at e2
          obtain ⟨J, j1, j2, j3⟩ := c_advS (X := X) (d := d) (L := L) hT h (by omega)
          simp only [Bool.false_eq_true, and_false, if_false, and_self, if_true]
          refine ⟨J, j2, j3, fun f hf => (by cases hf), fun T' _ r hr => v_X4_readInspector_90.e X d _ _ _ _ _ _ _ _ I L r ?_⟩
          rw [if_pos q0, if_pos (show oI none = -1 from rfl), e1, a_bi_i, if_pos beq0, if_pos beq0]
          dsimp +instances only
          rw [e2, a_bi_i, if_neg bne1]
          dsimp +instances only
          rw [j1, a_bv_n, en]
          exact hr
        | false =>
          rw [h2] at e2
          simp only [Bool.false_eq_true, and_false, if_false]
          refine ⟨I, Fm.refl, h, fun f hf => (by cases hf), fun T' _ r hr => v_X4_readInspector_90.e X d _ _ _ _ _ _ _ _ I L r ?_⟩
          rw [if_pos q0, if_pos (show oI none = -1 from rfl), e1, a_bi_i, if_pos beq0, if_pos beq0]
          dsimp +instances only
          rw [e2, a_bi_i, if_pos beq0, en]
          exact hr
      | true =>
        simp only [Bool.false_eq_true, Bool.true_eq_false, and_false, false_and, if_false]
        refine ⟨I, Fm.refl, h, fun f hf => (by cases hf), fun T' _ r hr => v_X4_readInspector_90.e X d _ _ _ _ _ _ _ _ I L r ?_⟩
        rw [if_pos q0, if_pos (show oI none = -1 from rfl), e1, a_bi_i, if_pos beq0, if_neg bne1, en]
        exact hr
  | some v =>
    have ov := oN v rfl
    cases t with
    | false =>
      cases h2 : isB b T 16 with
      | true =>
        rw [h2] at e2
        obtain ⟨J, j1, j2, j3⟩ := c_advS (X := X) (d := d) (L := L) hT h (by omega)
        simp only [reduceCtorEq, false_and, if_false, and_self, if_true]
        refine ⟨J, j2, j3, fun f hf => (by cases hf), fun T' _ r hr => v_X4_readInspector_90.e X d _ _ _ _ _ _ _ _ I L r ?_⟩
        rw [if_pos q0, if_neg ov, if_pos beq0, e2, a_bi_i, if_neg bne1]
        dsimp +instances only
        rw [j1, a_bv_n, en]
        exact hr
      | false =>
        rw [h2] at e2
        simp only [reduceCtorEq, false_and, Bool.false_eq_true, and_false, if_false]
        refine ⟨I, Fm.refl, h, fun f hf => (by cases hf), fun T' _ r hr => v_X4_readInspector_90.e X d _ _ _ _ _ _ _ _ I L r ?_⟩
        rw [if_pos q0, if_neg ov, if_pos beq0, e2, a_bi_i, if_pos beq0, en]
        exact hr
    | true =>
      simp only [reduceCtorEq, Bool.true_eq_false, false_and, if_false]
      refine ⟨I, Fm.refl, h, fun f hf => (by cases hf), fun T' _ r hr => v_X4_readInspector_90.e X d _ _ _ _ _ _ _ _ I L r ?_⟩
      rw [if_pos q0, if_neg ov, if_neg bne1, en]
      exact hr
end
