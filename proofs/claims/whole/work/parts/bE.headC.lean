/-! the class reads the head; its line; the whole -/
def hlo (i : Nat) : Nat := if i = 0 then 2 else if i = 1 then 1 else if i = 2 then 1 else 0
def hhi (i : Nat) : Nat := if i = 0 then 8 else if i = 1 then 40 else if i = 2 then 20 else if i = 3 then 99 else 999
def he1 (b : Nat → Int8) (n : Nat) (i : Nat) (s : PS) : Nat × PS := toS b n (i + 1) (hlo i) (hhi i) s
def heF (b : Nat → Int8) (n : Nat) : Nat → PS × TW → PS × TW
  | 0, x => x
  | k + 1, x => ((he1 b n k (heF b n k x).1).2, wup (heF b n k x).2 k (he1 b n k (heF b n k x).1).1)
def pHe (b : Nat → Int8) (n : Nat) (w : TW) (T : TK) : PS × TW := (sgS b n (heF b n 5 (ndS b n 0 (.inr T), w)).1, (heF b n 5 (ndS b n 0 (.inr T), w)).2)
section
variable {X : AX} {d : Nat} {I J : A3 Int32} {L : A3 Int64} {b : Nat → Int8} {n : Nat} {w : TW} {e : CE}
theorem hd_v : ∀ i, i < 5 → sp_v X 200 i = nI (hlo i) ∧ sp_v X 201 i = nI (hhi i) := by
  intro i hi
  rcases (show i = 0 ∨ i = 1 ∨ i = 2 ∨ i = 3 ∨ i = 4 by omega) with rfl | rfl | rfl | rfl | rfl <;> exact ⟨rfl, rfl⟩
theorem hd_w {i : Nat} (hi : i < 5) (hd : 1 ≤ d) : K_X4_headWord X d (nI i) (I, L, ()) = some (some (aK (i + 1)), (I, L, ())) := by
  obtain ⟨g, rfl⟩ : ∃ g, d = g + 1 := ⟨d - 1, by omega⟩
  refine K_X4_headWord.e X g _ I L _ ?_
  rcases (show i = 0 ∨ i = 1 ∨ i = 2 ∨ i = 3 ∨ i = 4 by omega) with rfl | rfl | rfl | rfl | rfl <;> rfl
theorem hb_le (i : Nat) : hlo i < 1000 ∧ hhi i < 1000 := by
  unfold hlo hhi
  constructor
  · split
    · decide
    · split
      · decide
      · split <;> decide
  · split
    · decide
    · split
      · decide
      · split
        · decide
        · split <;> decide
theorem c_head1 {i : Nat} {T : TK} (hT : TB I n b) (h : CPt b n I (.inr T)) (hi : i < 5) (hd : 8 ≤ d) : ∃ J, Fm [3, 4] I J ∧ CPt b n J (he1 b n i (.inr T)).2 ∧ (∀ f, (he1 b n i (.inr T)).2 = .inl f → v_X4_readHead_13 X d 1 (nI i) (I, L, ()) = some (some (aI (0 : Int32)), (J, L, ()))) ∧ ∀ T', (he1 b n i (.inr T)).2 = .inr T' → OLe (v_X4_readHead_13 X d 1 (nI (i + 1)) (up3 J 6 1 i (nI (he1 b n i (.inr T)).1), L, ())) (v_X4_readHead_13 X d 1 (nI i) (I, L, ())) := by
  obtain ⟨l1, l2⟩ := hb_le i
  obtain ⟨J, j1, j2, j3⟩ := c_readAfter (X := X) (d := d) (L := L) (q := i + 1) (lo := hlo i) (hi := hhi i) hT h (by omega) l1 l2 (by omega)
  have hle := toS_le (b := b) (n := n) (q := i + 1) (lo := hlo i) (hi := hhi i) (s := .inr T)
  have st : ∀ r, (if vN (toS b n (i + 1) (hlo i) (hhi i) (.inr T)) = -1 then some (some (aI (0 : Int32)), (J, L, ())) else v_X4_readHead_13 X d 1 (nI (i + 1)) (up3 J 6 1 i (vN (toS b n (i + 1) (hlo i) (hhi i) (.inr T))), L, ())) = some r → v_X4_readHead_13 X d 1 (nI i) (I, L, ()) = some r := fun r hr => by
    refine v_X4_readHead_13.e X d _ _ I L r ?_
    have q5 : nI i < Int32.ofNat (sp_n X 200) := (n_lt (b := 5) (by omega) (by decide)).mpr hi
    have q6 : nI i < Int32.ofNat (sp_n X 201) := (n_lt (b := 5) (by omega) (by decide)).mpr hi
    rw [if_pos q5, if_pos q6, hd_w hi (by omega)]
    refine v_X4_readHead_34.e X d _ _ _ I L r ?_
    have o1 : ¬ aout (nI i) (sp_n X 200) := by rw [n_out (by omega)]; show ¬ 5 ≤ i; omega
    have o2 : ¬ aout (nI i) (sp_n X 201) := by rw [n_out (by omega)]; show ¬ 5 ≤ i; omega
    have e200 : sp_v X 200 (nI i).toNatClampNeg = nI (hlo i) := by rw [n_toN (show i < 2147483648 by omega)]; exact (hd_v (X := X) i hi).1
    have e201 : sp_v X 201 (nI i).toNatClampNeg = nI (hhi i) := by rw [n_toN (show i < 2147483648 by omega)]; exact (hd_v (X := X) i hi).2
    rw [if_neg o1, if_neg o2, e200, e201, j1, a_bi_i]
    by_cases z : vN (toS b n (i + 1) (hlo i) (hhi i) (.inr T)) = -1
    · rw [if_pos z] at hr ⊢; exact hr
    · rw [if_neg z] at hr ⊢
      rw [if_neg (show ¬ aout (nI i) 8 by rw [n_out (by omega)]; omega), n_toN (show i < 2147483648 by omega), show nI i + 1 = nI (i + 1) from n_add i 1]
      exact hr
  unfold he1
  generalize toS b n (i + 1) (hlo i) (hhi i) (.inr T) = r1 at j1 j3 st hle ⊢
  obtain ⟨v, s1⟩ := r1
  refine ⟨J, j2, j3, fun f hf => ?_, fun T' hT' => ?_⟩
  · simp only at hf
    subst hf
    exact st _ (if_pos rfl)
  · simp only at hT'
    subst hT'
    have hv : v ≤ hhi i := (hle rfl).2
    exact fun r hr => st r (by rw [if_neg (show ¬ vN (v, .inr T') = -1 from fun z => (n_neN (a := v) (by omega)).mp z)]; exact hr)
theorem heF_inl {f : Nat × Nat} {k : Nat} : ∀ m x, k ≤ m → (heF b n k x).1 = .inl f → (heF b n m x).1 = .inl f := by
  intro m
  induction m with
  | zero => intro x hk h; obtain rfl : k = 0 := by omega
            exact h
  | succ m ih =>
    intro x hk h
    by_cases e : k = m + 1
    · subst e; exact h
    · have := ih x (by omega) h
      show (he1 b n m (heF b n m x).1).2 = .inl f
      rw [this]; rfl
theorem c_headL {T : TK} (hT : TB I n b) (h : CPt b n I (.inr T)) (hQ : TQ I 1 w e) (hd : 10 ≤ d) : ∃ J, K_X4_readHead X d 1 (I, L, ()) = some (some (aI (bI (gd (pHe b n w T).1))), (J, L, ())) ∧ FrC I J ∧ CPt b n J (pHe b n w T).1 ∧ (gd (pHe b n w T).1 = true → TQ J 1 (pHe b n w T).2 e) := by
  obtain ⟨g, rfl⟩ : ∃ g, d = g + 1 := ⟨d - 1, by omega⟩
  obtain ⟨J1, a1, a2, a3⟩ := c_readWord (X := X) (d := g) (L := L) (q := 0) hT h (by decide) (by omega)
  unfold pHe
  cases hs : ndS b n 0 (.inr T) with
  | inl f =>
    rw [hs] at a1 a3
    have e5 : (heF b n 5 (.inl f, w)).1 = .inl f := heF_inl (k := 0) 5 _ (by decide) rfl
    rw [e5]
    refine ⟨J1, K_X4_readHead.e X g 1 I L _ ?_, FrC.of a2, a3, fun z => by cases z⟩
    rw [a1, a_bi_i, if_pos (show bI (gd (.inl f)) = 0 from rfl)]
    rfl
  | inr T0 =>
    rw [hs] at a1 a3
    -- the five numbers
    have key : ∀ k, k ≤ 5 → ∃ K, FrC I K ∧ CPt b n K (heF b n k (.inr T0, w)).1 ∧ (∀ f, (heF b n k (.inr T0, w)).1 = .inl f → v_X4_readHead_13 X g 1 (nI 0) (J1, L, ()) = some (some (aI (0 : Int32)), (K, L, ()))) ∧ ∀ T', (heF b n k (.inr T0, w)).1 = .inr T' → TQ K 1 (heF b n k (.inr T0, w)).2 e ∧ OLe (v_X4_readHead_13 X g 1 (nI k) (K, L, ())) (v_X4_readHead_13 X g 1 (nI 0) (J1, L, ())) := by
      intro k
      induction k with
      | zero => intro _; exact ⟨J1, FrC.of a2, a3, fun f hf => (by cases hf), fun T' _ => ⟨hQ.f34 a2, OLe.refl⟩⟩
      | succ k ih =>
        intro hk
        obtain ⟨K, k1, k2, k3, k4⟩ := ih (by omega)
        cases hk' : (heF b n k (.inr T0, w)).1 with
        | inl f =>
          have e5 : (heF b n (k + 1) (.inr T0, w)).1 = .inl f := heF_inl (k := k) (k + 1) _ (by omega) hk'
          rw [e5]
          rw [hk'] at k2
          exact ⟨K, k1, k2, fun f' hf' => (by cases hf'; exact k3 f hk'), fun T' hT' => (by cases hT')⟩
        | inr Tk =>
          rw [hk'] at k2
          obtain ⟨q4, o4⟩ := k4 Tk hk'
          obtain ⟨K2, m1, m2, m3, m4⟩ := c_head1 (X := X) (d := g) (L := L) (i := k) (hT.frc k1) k2 (by omega) (by omega)
          have e5 : heF b n (k + 1) (.inr T0, w) = ((he1 b n k (.inr Tk)).2, wup (heF b n k (.inr T0, w)).2 k (he1 b n k (.inr Tk)).1) := by
            show ((he1 b n k (heF b n k (.inr T0, w)).1).2, wup (heF b n k (.inr T0, w)).2 k (he1 b n k (heF b n k (.inr T0, w)).1).1) = _
            rw [hk']
          rw [e5]
          cases hr : (he1 b n k (.inr Tk)).2 with
          | inl f =>
            rw [hr] at m2
            refine ⟨K2, k1.trans (FrC.of m1), m2, fun f' hf' => o4 _ (m3 f hr), fun T' hT' => (by cases hT')⟩
          | inr Tk2 =>
            rw [hr] at m2
            refine ⟨up3 K2 6 1 k (nI (he1 b n k (.inr Tk)).1), (k1.trans (FrC.of m1)).up (by decide) (by decide), m2.up1 (by decide), fun f' hf' => (by cases hf'), fun T' _ => ⟨(q4.f34 m1).upH (by omega), fun r hr' => o4 r (m4 Tk2 hr r hr')⟩⟩
    obtain ⟨K, k1, k2, k3, k4⟩ := key 5 (Nat.le_refl _)
    have st : ∀ r, v_X4_readHead_13 X g 1 (nI 0) (J1, L, ()) = some r → K_X4_readHead X (g + 1) 1 (I, L, ()) = some r := fun r hr => by
      refine K_X4_readHead.e X g 1 I L r ?_
      rw [a1, a_bi_i, if_neg (show ¬ bI (gd (.inr T0)) = 0 from bne1)]
      exact hr
    generalize heF b n 5 (.inr T0, w) = r5 at k2 k3 k4 ⊢
    obtain ⟨s5, w5⟩ := r5
    cases s5 with
    | inl f => exact ⟨K, st _ (k3 f rfl), k1, k2, fun z => by cases z⟩
    | inr T5 =>
      obtain ⟨q5, o5⟩ := k4 T5 rfl
      obtain ⟨M, m1, m2, m3⟩ := c_readSign (X := X) (d := g) (L := L) (hT.frc k1) k2 (by omega)
      refine ⟨M, st _ (o5 _ (v_X4_readHead_13.e X g _ _ K L _ ?_)), k1.trans (FrC.of m2), m3, fun _ => q5.f34 m2⟩
      rw [if_neg (show ¬ nI 5 < Int32.ofNat (sp_n X 200) from fun z => absurd ((n_lt (a := 5) (b := 5) (by decide) (by decide)).mp z) (by decide)), m1, a_bi_i]
      exact bool_val
/-- any other line -/
def pLn (b : Nat → Int8) (n : Nat) (w : TW) (T : TK) : PS × TW := if isB b T 6 = true then pCo b n w T else if isB b T 10 = true then (if w 5 < 3 then pIn b n w (.inr (nx b n T)) else (.inl (3, T.2.1), w)) else if isB b T 17 = true then (if w 6 < 6 then pRi b n w (.inr (nx b n T)) else (.inl (3, T.2.1), w)) else if isB b T 25 = true then pDa b n w (ndS b n 25 (.inr T)) else (.inl (1, T.2.1), w)
theorem c_line {T : TK} (hT : TB I n b) (h : CPt b n I (.inr T)) (hQ : TQ I 1 w e) (w0 : 2 ≤ w 0 ∧ w 0 ≤ 8) (w56 : w 5 ≤ 3 ∧ w 6 ≤ 6) (hd : 11 ≤ d) : ∃ J, K_X4_readLine X d 1 (I, L, ()) = some (some (aI (bI (gd (pLn b n w T).1))), (J, L, ())) ∧ FrC I J ∧ CPt b n J (pLn b n w T).1 ∧ (gd (pLn b n w T).1 = true → TQ J 1 (pLn b n w T).2 e) := by
  obtain ⟨g, rfl⟩ : ∃ g, d = g + 1 := ⟨d - 1, by omega⟩
  have e1 := c_isS (X := X) (d := g) (L := L) (q := 6) hT h (by decide) (by omega)
  have e2 := c_isS (X := X) (d := g) (L := L) (q := 10) hT h (by decide) (by omega)
  have e3 := c_isS (X := X) (d := g) (L := L) (q := 17) hT h (by decide) (by omega)
  have e4 := c_isS (X := X) (d := g) (L := L) (q := 25) hT h (by decide) (by omega)
  unfold pLn
  cases h1 : isB b T 6 with
  | true =>
    rw [h1] at e1
    obtain ⟨J, j1, j2, j3, j4⟩ := c_coachL (X := X) (d := g) (L := L) hT h hQ w0 (by omega)
    rw [if_pos rfl]
    refine ⟨J, K_X4_readLine.e X g 1 I L _ ?_, j2, j3, j4⟩
    rw [e1, a_bi_i, if_neg bne1]
    dsimp +instances only
    rw [j1, a_bi_i]
    exact bool_val
  | false =>
    rw [h1] at e1
    rw [if_neg (by decide)]
    cases h2 : isB b T 10 with
    | true =>
      rw [h2] at e2
      rw [if_pos rfl]
      have st : ∀ r, (a_bi (K_X4_readInspector X g 1 (I, L, ())) fun x8 s8 => (if x8 = 0 ∨ x8 = 1 then some (some (aI x8), (s8.1, s8.2.1, ())) else none)) = some r → K_X4_readLine X (g + 1) 1 (I, L, ()) = some r := fun r hr => by
        refine K_X4_readLine.e X g 1 I L r ?_
        rw [e1, a_bi_i, if_pos beq0]
        dsimp +instances only
        rw [e2, a_bi_i, if_neg bne1]
        exact hr
      by_cases w5 : w 5 < 3
      · obtain ⟨J, j1, j2, j3, j4⟩ := c_inspL (X := X) (d := g) (L := L) hT h hQ w0 w5 (by omega)
        rw [if_pos w5]
        refine ⟨J, st _ ?_, j2, j3, j4⟩
        rw [j1, a_bi_i]
        exact bool_val
      · rw [if_neg w5]
        obtain ⟨g', rfl⟩ : ∃ g', g = g' + 1 := ⟨g - 1, by omega⟩
        obtain ⟨J, j1, j2, j3⟩ := c_refuse (X := X) (d := g') (L := L) (k := 3) h (by decide) (by omega)
        have j1' : K_X4_refuse X g' (3 : Int32) (I, L, ()) = some (some (aI (bI false)), (J, L, ())) := j1
        have e0 : K_X9_inspectors X g' 1 (I, L, ()) = some (some (aI (nI (w 5))), (I, L, ())) := by
          obtain ⟨g2, rfl⟩ : ∃ g2, g' = g2 + 1 := ⟨g' - 1, by omega⟩
          refine K_X9_inspectors.e X g2 1 I L _ ?_
          rw [hQ.1.1 5 (by decide)]
        have k1 : K_X4_readInspector X (g' + 1) 1 (I, L, ()) = some (some (aI (bI false)), (J, L, ())) := by
          refine K_X4_readInspector.e X g' 1 I L _ ?_
          rw [e0, a_bi_i, if_neg (show ¬ nI (w 5) < 3 from fun z => w5 ((n_lt (b := 3) (by omega) (by decide)).mp z))]
          dsimp +instances only
          rw [j1', a_bi_i]
          exact bool_val
        refine ⟨J, st _ ?_, FrC.of j2, j3, fun z => by cases z⟩
        rw [k1, a_bi_i]
        exact bool_val
    | false =>
      rw [h2] at e2
      rw [if_neg (by decide)]
      cases h3 : isB b T 17 with
      | true =>
        rw [h3] at e3
        rw [if_pos rfl]
        have st : ∀ r, (a_bi (K_X4_readRider X g 1 (I, L, ())) fun x8 s8 => (if x8 = 0 ∨ x8 = 1 then some (some (aI x8), (s8.1, s8.2.1, ())) else none)) = some r → K_X4_readLine X (g + 1) 1 (I, L, ()) = some r := fun r hr => by
          refine K_X4_readLine.e X g 1 I L r ?_
          rw [e1, a_bi_i, if_pos beq0]
          dsimp +instances only
          rw [e2, a_bi_i, if_pos beq0]
          dsimp +instances only
          rw [e3, a_bi_i, if_neg bne1]
          exact hr
        by_cases w6 : w 6 < 6
        · obtain ⟨J, j1, j2, j3, j4⟩ := c_riderL (X := X) (d := g) (L := L) hT h hQ w0 w6 (by omega)
          rw [if_pos w6]
          refine ⟨J, st _ ?_, j2, j3, j4⟩
          rw [j1, a_bi_i]
          exact bool_val
        · rw [if_neg w6]
          obtain ⟨g', rfl⟩ : ∃ g', g = g' + 1 := ⟨g - 1, by omega⟩
          obtain ⟨J, j1, j2, j3⟩ := c_refuse (X := X) (d := g') (L := L) (k := 3) h (by decide) (by omega)
          have j1' : K_X4_refuse X g' (3 : Int32) (I, L, ()) = some (some (aI (bI false)), (J, L, ())) := j1
          have e0 : K_X9_riders X g' 1 (I, L, ()) = some (some (aI (nI (w 6))), (I, L, ())) := by
            obtain ⟨g2, rfl⟩ : ∃ g2, g' = g2 + 1 := ⟨g' - 1, by omega⟩
            refine K_X9_riders.e X g2 1 I L _ ?_
            rw [hQ.1.1 6 (by decide)]
          have k1 : K_X4_readRider X (g' + 1) 1 (I, L, ()) = some (some (aI (bI false)), (J, L, ())) := by
            refine K_X4_readRider.e X g' 1 I L _ ?_
            rw [e0, a_bi_i, if_neg (show ¬ nI (w 6) < 6 from fun z => w6 ((n_lt (b := 6) (by omega) (by decide)).mp z))]
            dsimp +instances only
            rw [j1', a_bi_i]
            exact bool_val
          refine ⟨J, st _ ?_, FrC.of j2, j3, fun z => by cases z⟩
          rw [k1, a_bi_i]
          exact bool_val
      | false =>
        rw [h3] at e3
        rw [if_neg (by decide)]
        cases h4 : isB b T 25 with
        | true =>
          rw [h4] at e4
          obtain ⟨J, j1, j2, j3, j4⟩ := c_dayL (X := X) (d := g) (L := L) hT h hQ (by omega)
          rw [if_pos rfl]
          refine ⟨J, K_X4_readLine.e X g 1 I L _ ?_, j2, j3, j4⟩
          rw [e1, a_bi_i, if_pos beq0]
          dsimp +instances only
          rw [e2, a_bi_i, if_pos beq0]
          dsimp +instances only
          rw [e3, a_bi_i, if_pos beq0]
          dsimp +instances only
          rw [e4, a_bi_i, if_neg bne1]
          dsimp +instances only
          rw [j1, a_bi_i]
          exact bool_val
        | false =>
          rw [h4] at e4
          obtain ⟨J, j1, j2, j3⟩ := c_refuse (X := X) (d := g) (L := L) (k := 1) h (by decide) (by omega)
          have j1' : K_X4_refuse X g (1 : Int32) (I, L, ()) = some (some (aI (bI false)), (J, L, ())) := j1
          rw [if_neg (by decide)]
          refine ⟨J, K_X4_readLine.e X g 1 I L _ ?_, FrC.of j2, j3, fun z => by cases z⟩
          rw [e1, a_bi_i, if_pos beq0]
          dsimp +instances only
          rw [e2, a_bi_i, if_pos beq0]
          dsimp +instances only
          rw [e3, a_bi_i, if_pos beq0]
          dsimp +instances only
          rw [e4, a_bi_i, if_pos beq0]
          dsimp +instances only
          rw [j1', a_bi_i]
          exact bool_val
end
