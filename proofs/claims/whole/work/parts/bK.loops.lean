/-! a line goes on; both read a train line by line -/
def Mo (b : Nat → Int8) (n p : Nat) (s : PS) : Prop := ∀ T, s = .inr T → TO b n T ∧ p ≤ T.2.1
section
variable {X : AX} {d d' : Nat} {I J : A3 Int32} {L L' : A3 Int64} {b : Nat → Int8} {n p : Nat} {w : TW} {e : CE} {s : PS}
theorem Mo.inl {f : Nat × Nat} : Mo b n p (.inl f) := fun T h => by cases h
theorem Mo.inr {T : TK} (h : TO b n T) (hp : p ≤ T.2.1) : Mo b n p (.inr T) := fun T' z => by cases z; exact ⟨h, hp⟩
theorem Mo.nxt {T : TK} (h : Mo b n p (.inr T)) : Mo b n p (.inr (nx b n T)) := by
  obtain ⟨o, l⟩ := h T rfl
  exact Mo.inr o.nx (by have := nx_from o; have := o.ok.1; omega)
theorem Mo.nd {q : Nat} (h : Mo b n p s) : Mo b n p (ndS b n q s) := by
  cases s with
  | inl f => exact h
  | inr T =>
    show Mo b n p (if isB b T q = true then .inr (nx b n T) else .inl (1, T.2.1))
    split
    · exact h.nxt
    · exact Mo.inl
theorem Mo.tk {q : Nat} (h : Mo b n p s) : Mo b n p (tkS b n q s) := by
  cases s with
  | inl f => exact h
  | inr T =>
    show Mo b n p (if isB b T q = true then .inr (nx b n T) else .inr T)
    split
    · exact h.nxt
    · exact h
theorem Mo.nm {lo hi : Nat} (h : Mo b n p s) : Mo b n p (nmS b n lo hi s).2 := by
  cases s with
  | inl f => exact h
  | inr T =>
    unfold nmS
    simp only
    split
    · split
      · exact h.nxt
      · exact Mo.inl
    · exact Mo.inl
theorem Mo.to {q lo hi : Nat} (h : Mo b n p s) : Mo b n p (toS b n q lo hi s).2 := (h.nd).nm
theorem Mo.wy (h : Mo b n p s) : Mo b n p (wyS b n s).2 := by
  cases s with
  | inl f => exact h
  | inr T =>
    unfold wyS
    simp only
    split
    · exact h.nxt
    · exact h.nd
theorem Mo.ru (h : Mo b n p s) : Mo b n p (ruS b n s).2 := by
  cases s with
  | inl f => exact h
  | inr T =>
    unfold ruS
    simp only
    split
    · exact h.nxt
    · split
      · exact h.nxt
      · split
        · exact h.nxt
        · exact h.nd
theorem Mo.im {k : Option Nat} {t : Bool} (h : Mo b n p s) : Mo b n p (im1 b n (k, t, s)).2.2 := by
  cases s with
  | inl f => exact h
  | inr T =>
    unfold im1
    simp only
    split
    · exact h.to
    · split
      · exact h.nxt
      · exact h
theorem Mo.fn {T : TK} (h : Mo b n p (.inr T)) : Mo b n p (fnS T) := by
  unfold fnS
  split
  · exact h
  · exact Mo.inl
theorem Mo.fP (h : Mo b n p s) : Mo b n p (fnP s) := by
  cases s with
  | inl f => exact h
  | inr T => exact h.fn
theorem Mo.cm {l k : Bool} {T : TK} (h : Mo b n p (.inr T)) : Mo b n p (.inr (cm1 b n (l, k, T)).2.2) := by
  unfold cm1
  simp only
  split
  · exact h.nxt
  · split
    · exact h.nxt
    · exact h
theorem Mo.sg (h : Mo b n p s) : Mo b n (p + 1) (sgS b n s) := by
  cases s with
  | inl f => exact Mo.inl
  | inr T =>
    show Mo b n (p + 1) (if T.1 = 3 then .inr (nx b n T) else .inl (1, T.2.1))
    split
    · rename_i t3
      obtain ⟨o, l⟩ := h T rfl
      have := nx_from o
      have := o.ok.2.2.1
      exact Mo.inr o.nx (by omega)
    · exact Mo.inl
theorem Mo.line {T : TK} (h : Mo b n p (.inr T)) : Mo b n (p + 1) (pLn b n w T).1 := by
  rw [pLn_eq]
  refine Mo.sg ?_
  unfold rN
  split
  · unfold pCoM
    have h1 := (h.nxt).nm (lo := 0) (hi := w 0 - 1)
    generalize nmS b n 0 (w 0 - 1) (.inr (nx b n T)) = r1 at h1 ⊢
    obtain ⟨c, s1⟩ := r1
    cases s1 with
    | inl f => exact Mo.inl
    | inr T1 =>
      simp only at h1 ⊢
      have h2 := h1.to (q := 7) (lo := 0) (hi := 99)
      generalize toS b n 7 0 99 (.inr T1) = r2 at h2 ⊢
      obtain ⟨c2, s2⟩ := r2
      cases s2 with
      | inl f => exact Mo.inl
      | inr T2 => exact ((h2.cm).cm).fn
  · split
    · split
      · unfold inM
        exact ((((((h.nxt).to).wy).to).im).im).fP
      · exact Mo.inl
    · split
      · split
        · exact ((((((h.nxt).to).ru).to).to)).tk
        · exact Mo.inl
      · split
        · exact ((h.nxt).nm).to
        · exact Mo.inl
theorem Mo.hF (h : Mo b n p s) : ∀ k, Mo b n p (heF b n k (s, w)).1 := by
  intro k
  induction k with
  | zero => exact h
  | succ k ih => exact ih.to
theorem Mo.head {T : TK} (h : Mo b n p (.inr T)) : Mo b n (p + 1) (pHe b n w T).1 := ((h.nd).hF 5).sg
theorem heF_j {x : PS × TW} {j : Nat} : ∀ k, k ≤ j → (heF b n k x).2 j = x.2 j := by
  intro k
  induction k with
  | zero => intro _; rfl
  | succ k ih =>
    intro hk
    show wup (heF b n k x).2 k _ j = _
    rw [wup_ne _ _ (by omega)]; exact ih (by omega)
theorem pHe_78 {T : TK} : (pHe b n w T).2 7 = w 7 ∧ (pHe b n w T).2 8 = w 8 := by
  unfold pHe
  exact ⟨heF_j (b := b) (n := n) (x := (ndS b n 0 (.inr T), w)) (j := 7) 5 (by decide), heF_j (b := b) (n := n) (x := (ndS b n 0 (.inr T), w)) (j := 8) 5 (by decide)⟩
/-- the end of a train, told to both -/
def LEnd (X : AX) (d d' : Nat) (L L' : A3 Int64) (b : Nat → Int8) (n : Nat) (e : CE) (I K : A3 Int32) (l : Nat) : Prop := ∃ ok I' K' s, v_X4_readInto_23 X d 1 (nI l) (I, L, ()) = some (some (aI (bI ok)), (I', L, ())) ∧ FrC I I' ∧ R46 K K' ∧ CPt b n I' s ∧ RSt b n K' s ∧ gd s = ok ∧ (ok = true → ∃ w', TQ I' 1 w' e ∧ FQ K' w' ∧ Vw w' ∧ w' 8 = 0) ∧ (∀ r, (if ok = true then v_X11_train_87 X d' (0 : Int32) (K', L', ()) else some (some (aI (-4 : Int32)), (K', L', ()))) = some r → v_X11_train_54 X d' (K, L', ()) = some r)
theorem loop_bad {K : A3 Int32} {f : Nat × Nat} (h : RSt b n K (.inl f)) (hd : 1 ≤ d') : v_X11_train_54 X d' (K, L', ()) = some (some (aI (-4 : Int32)), (K, L', ())) := by
  have g0 := m_goodL (X := X) (d := d') (L := L') h hd
  refine v_X11_train_54.e X d' K L' _ ?_
  rw [g0, a_bi_i, if_pos beq0]
  dsimp +instances only
  rw [g0, a_bi_i, if_pos beq0]
theorem loops (hd : 11 ≤ d) (hd' : 12 ≤ d') : ∀ m (T : TK) (w : TW) (I K : A3 Int32), n - T.2.1 ≤ m → TB I n b → CPt b n I (.inr T) → TQ I 1 w e → MB K n b → RSt b n K (.inr T) → FQ K w → (w 7 = 0 → w = zw) → Vw w → w 8 = 0 → w 7 ≤ T.2.1 → LEnd X d d' L L' b n e I K (w 7) := by
  have stop : ∀ (T : TK) (w : TW) (I K : A3 Int32), T.1 = 0 → TB I n b → CPt b n I (.inr T) → TQ I 1 w e → RSt b n K (.inr T) → FQ K w → Vw w → w 8 = 0 → w 7 ≤ T.2.1 → LEnd X d d' L L' b n e I K (w 7) := fun T w I K t0 hT hC hQ hS hF v w8 hl => by
    obtain ⟨-, -, ⟨k10, -⟩, hO⟩ := id hS
    obtain ⟨o1, o2, -⟩ := hO.ok
    refine ⟨true, I, K, .inr T, v_X4_readInto_23.e X d 1 _ I L _ ?_, FrC.refl, R46.refl, hC, hS, rfl, fun _ => ⟨w, hQ, hF, v, w8⟩, fun r hr => v_X11_train_54.e X d' K L' r ?_⟩
    · have := hT.1
      rw [if_neg (show ¬ (1200 : Int32) < nI (w 7) from fun z => by have := (n_lt (a := 1200) (by decide) (by omega)).mp z; omega), if_pos (show I 4 0 1 = 0 by rw [hC.2.2.1.1, t0]; rfl)]
      rfl
    · have g0 := m_goodR (X := X) (d := d') (L := L') hS (by omega)
      rw [g0, a_bi_i, if_neg bne1]
      dsimp +instances only
      rw [if_pos (show K 40 0 10 = 0 by rw [k10, t0]; rfl), g0, a_bi_i, if_neg bne1]
      exact hr
  intro m
  induction m with
  | zero =>
    intro T w I K hm hT hC hQ hM hS hF hz v w8 hl
    refine stop T w I K ?_ hT hC hQ hS hF v w8 hl
    obtain ⟨o1, o2, o3, -⟩ := hC.2.2.2.ok
    omega
  | succ m ih =>
    intro T w I K hm hT hC hQ hM hS hF hz v w8 hl
    by_cases t0 : T.1 = 0
    · exact stop T w I K t0 hT hC hQ hS hF v w8 hl
    · obtain ⟨o1, o2, o3, o4, -⟩ := hC.2.2.2.ok
      have n1 := hT.1
      have hl' : w 7 < 1200 := by omega
      have m0 : Mo b n T.2.1 (.inr T) := Mo.inr hC.2.2.2 (Nat.le_refl _)
      have step : ∃ s2 w2 I1 K1, (∀ r, (if bI (gd s2) = 0 then some (some (aI (0 : Int32)), (I1, L, ())) else v_X4_readInto_23 X d 1 (nI (w 7 + 1)) (up3 I1 6 1 7 (I1 6 1 7 + 1), L, ())) = some r → v_X4_readInto_23 X d 1 (nI (w 7)) (I, L, ()) = some r) ∧ FrC I I1 ∧ CPt b n I1 s2 ∧ (gd s2 = true → TQ I1 1 w2 e) ∧ w2 7 = w 7 ∧ w2 8 = 0 ∧ K_X11_readLine X d' (K, L', ()) = some (none, (K1, L', ())) ∧ R46 K K1 ∧ RSt b n K1 s2 ∧ (gd s2 = true → FQ K1 (wup w2 7 (w 7 + 1))) ∧ Mo b n (T.2.1 + 1) s2 ∧ (gd s2 = true → Vw (wup w2 7 (w 7 + 1))) := by
        have q0 : ¬ (1200 : Int32) < nI (w 7) := fun z => by have := (n_lt (a := 1200) (by decide) (by omega)).mp z; omega
        have q1 : ¬ I 4 0 1 = 0 := by rw [hC.2.2.1.1]; exact fun z => t0 ((n_eq (b := 0) (by omega) (by decide)).mp z)
        have en : nI (w 7) + 1 = nI (w 7 + 1) := n_add _ 1
        by_cases w7 : w 7 = 0
        · obtain rfl := hz w7
          obtain ⟨I1, a1, a2, a3, a4⟩ := c_headL (X := X) (d := d) (L := L) hT hC hQ (by omega)
          obtain ⟨K1, b1, b2, b3, b4⟩ := m_lineH (X := X) (d := d') (L := L') hM hS hF w7 (by omega)
          refine ⟨(pHe b n zw T).1, (pHe b n zw T).2, I1, K1, fun r hr => v_X4_readInto_23.e X d 1 _ I L r ?_, a2, a3, a4, pHe_78.1, pHe_78.2, b1, b2, b3, fun _ => b4, m0.head, fun hg => (Vw.head hg).1⟩
          rw [if_neg q0, if_neg q1, if_pos (show nI (zw 7) = 0 from rfl), a1, a_bi_i, en]
          exact hr
        · have B := v.2.1.2 (by omega)
          obtain ⟨⟨v0, v1, v2, v3, v4, v5, v6, v7, v8⟩, -⟩ := id v
          obtain ⟨I1, a1, a2, a3, a4⟩ := c_line (X := X) (d := d) (L := L) hT hC hQ ⟨B.1, v0⟩ ⟨v5, v6⟩ (by omega)
          obtain ⟨K1, b1, b2, b3, b4⟩ := m_lineM (X := X) (d := d') (L := L') hM hS hF ⟨B.1, v0⟩ v5 v6 ⟨by omega, v7⟩ (by omega)
          refine ⟨(pLn b n w T).1, (pLn b n w T).2, I1, K1, fun r hr => v_X4_readInto_23.e X d 1 _ I L r ?_, a2, a3, a4, pLn_7, by rw [pLn_8]; exact w8, b1, b2, b3, b4, m0.line, fun hg => Vw.line v (by omega) (by omega) hg⟩
          rw [if_neg q0, if_neg q1, if_neg (show ¬ nI (w 7) = 0 from fun z => w7 ((n_eq (b := 0) (by omega) (by decide)).mp z)), a1, a_bi_i, en]
          exact hr
      obtain ⟨s2, w2, I1, K1, c1, c2, c3, c4, c5, c6, c7, c8, c9, c10, c11, c12⟩ := step
      have g0 := m_goodR (X := X) (d := d') (L := L') hS (by omega)
      have st : ∀ r, v_X11_train_54 X d' (K1, L', ()) = some r → v_X11_train_54 X d' (K, L', ()) = some r := fun r hr => by
        refine v_X11_train_54.e X d' K L' r ?_
        obtain ⟨-, -, ⟨k10, -⟩, -⟩ := id hS
        rw [g0, a_bi_i, if_neg bne1]
        dsimp +instances only
        rw [if_neg (show ¬ K 40 0 10 = 0 by rw [k10]; exact fun z => t0 ((n_eq (b := 0) (by omega) (by decide)).mp z)), c7, a_bv_n]
        exact hr
      cases s2 with
      | inl f =>
        refine ⟨false, I1, K1, .inl f, c1 _ (if_pos rfl), c2, c8, c3, c9, rfl, fun z => (by cases z), fun r hr => st r ?_⟩
        rw [loop_bad c9 (by omega)]
        exact hr
      | inr T2 =>
        obtain ⟨mo, ml⟩ := c11 T2 rfl
        have e7 : I1 6 1 7 + 1 = nI (w 7 + 1) := by rw [(c4 rfl).1.1 7 (by decide), c5]; exact n_add _ 1
        have Q2 : TQ (up3 I1 6 1 7 (nI (w 7 + 1))) 1 (wup w2 7 (w 7 + 1)) e := (c4 rfl).upH (by decide)
        have F2 : FrC I (up3 I1 6 1 7 (nI (w 7 + 1))) := c2.up (by decide) (by decide)
        obtain ⟨ok, I', K', s', d1, d2, d3, d4, d5, d6, d7, d8⟩ := ih T2 (wup w2 7 (w 7 + 1)) (up3 I1 6 1 7 (nI (w 7 + 1))) K1 (by omega) (hT.frc F2) (c3.up1 (by decide)) Q2 (hM.r46 c8) c9 (c10 rfl) (fun z => by rw [wup_eq] at z; omega) (c12 rfl) (by rw [wup_ne _ _ (by decide)]; exact c6) (by rw [wup_eq]; omega)
        rw [wup_eq] at d1
        refine ⟨ok, I', K', s', c1 _ ?_, F2.trans d2, c8.trans d3, d4, d5, d6, d7, fun r hr => st r (d8 r hr)⟩
        rw [if_neg (show ¬ bI (gd (.inr T2)) = 0 from bne1), e7]
        exact d1
end
