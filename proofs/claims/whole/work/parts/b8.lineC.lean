/-! lines: what they make of a train; the class reads a coach -/
def wyS (b : Nat → Int8) (n : Nat) (s : PS) : Nat × PS := match s with
  | .inl f => (1, .inl f)
  | .inr T => if isB b T 12 = true then (0, .inr (nx b n T)) else (1, ndS b n 13 (.inr T))
def ruS (b : Nat → Int8) (n : Nat) (s : PS) : Nat × PS := match s with
  | .inl f => (3, .inl f)
  | .inr T => if isB b T 19 = true then (0, .inr (nx b n T)) else if isB b T 20 = true then (1, .inr (nx b n T)) else if isB b T 8 = true then (2, .inr (nx b n T)) else (3, ndS b n 21 (.inr T))
def cm1 (b : Nat → Int8) (n : Nat) (x : Bool × Bool × TK) : Bool × Bool × TK := if x.1 = false ∧ isB b x.2.2 8 = true then (true, x.2.1, nx b n x.2.2) else if x.2.1 = false ∧ isB b x.2.2 9 = true then (x.1, true, nx b n x.2.2) else x
def fnS (T : TK) : PS := if T.1 = 3 then .inr T else .inl (1, T.2.1)
def wC (w : TW) (c p : Nat) (l k : Bool) : TW := wup (wup (wup w (9 + (c * 3 + 0)) p) (9 + (c * 3 + 1)) l.toNat) (9 + (c * 3 + 2)) k.toNat
def pCo (b : Nat → Int8) (n : Nat) (w : TW) (T : TK) : PS × TW := match toS b n 6 0 (w 0 - 1) (.inr T) with
  | (_, .inl f) => (.inl f, w)
  | (c, .inr T1) => match toS b n 7 0 99 (.inr T1) with
    | (_, .inl f) => (.inl f, w)
    | (p, .inr T2) => (sgS b n (.inr (cm1 b n (cm1 b n (false, false, T2))).2.2), wC w c p (cm1 b n (cm1 b n (false, false, T2))).1 (cm1 b n (cm1 b n (false, false, T2))).2.1)
theorem nmS_le {b : Nat → Int8} {n lo hi : Nat} {s : PS} (h : gd (nmS b n lo hi s).2 = true) : lo ≤ (nmS b n lo hi s).1 ∧ (nmS b n lo hi s).1 ≤ hi := by
  unfold nmS at h ⊢
  cases s with
  | inl f => cases h
  | inr T =>
    simp only at h ⊢
    split at h
    · split at h
      · rename_i t2 hr; simp only [t2, if_true, hr, and_self]
      · cases h
    · cases h
theorem nmS_0 {b : Nat → Int8} {n lo hi : Nat} {s : PS} (h : gd (nmS b n lo hi s).2 = false) : (nmS b n lo hi s).1 = 0 := by
  unfold nmS at h ⊢
  cases s with
  | inl f => rfl
  | inr T =>
    simp only at h ⊢
    split at h
    · split at h
      · cases h
      · rename_i t2 hr; simp only [t2, if_true, hr, if_false]
    · rename_i t2; simp only [t2, if_false]
section
variable {X : AX} {d : Nat} {I J : A3 Int32} {L : A3 Int64} {b : Nat → Int8} {n : Nat} {w : TW} {e : CE}
/-- the class's draft and its reader change, no more -/
def FrC (I J : A3 Int32) : Prop := ∀ f q, f ≠ 3 → f ≠ 4 → ((f < 5 ∨ 11 < f) ∨ q ≠ 1) → J f q = I f q
theorem FrC.refl : FrC I I := fun _ _ _ _ _ => rfl
theorem FrC.trans {K : A3 Int32} (h1 : FrC I J) (h2 : FrC J K) : FrC I K := fun f q a c z => (h2 f q a c z).trans (h1 f q a c z)
theorem FrC.of (h : Fm [3, 4] I J) : FrC I J := fun f q h3 h4 _ => by rw [h f (by simp; omega)]
theorem FrC.up {K : A3 Int32} {f j : Nat} {x : Int32} (h : FrC I K) (h1 : 5 ≤ f) (h2 : f ≤ 11) : FrC I (up3 K f 1 j x) := fun g q h3 h4 hz => by
  by_cases z : g = f
  · subst z; rw [u3_i _ _ (by omega)]; exact h g q h3 h4 hz
  · rw [u3_f _ _ z]; exact h g q h3 h4 hz
theorem TB.frc (h : TB I n b) (hF : FrC I J) : TB J n b := by
  have e1 : J 1 = I 1 := funext fun q => hF 1 q (by decide) (by decide) (Or.inl (by decide))
  have e2 : J 2 = I 2 := funext fun q => hF 2 q (by decide) (by decide) (Or.inl (by decide))
  unfold TB; rw [e1, e2]; exact h
theorem CPt.up1 {s : PS} {f q j : Nat} {x : Int32} (h : CPt b n I s) (hf : 5 ≤ f) : CPt b n (up3 I f q j x) s := h.fm (l := [f]) (Fm.refl.up (List.mem_singleton.mpr rfl)) (by simp; omega) (by simp; omega)
theorem TQ.f34 (h : TQ I 1 w e) (hF : Fm [3, 4] I J) : TQ J 1 w e := h.fams (fun f h1 h2 => by rw [hF f (by simp; omega)])
theorem c_coachesQ (h : TQ I 1 w e) (hd : 1 ≤ d) : K_X9_coaches X d 1 (I, L, ()) = some (some (aI (nI (w 0))), (I, L, ())) := by
  obtain ⟨g, rfl⟩ : ∃ g, d = g + 1 := ⟨d - 1, by omega⟩
  refine K_X9_coaches.e X g 1 I L _ ?_
  rw [h.1.1 0 (by decide)]
theorem vN_inl {v : Nat} {f : Nat × Nat} : vN (v, .inl f) = nN := rfl
theorem vN_inr {v : Nat} {T : TK} : vN (v, .inr T) = nI v := rfl
/-- one turn of the class's loop over a coach's marks -/
theorem c_cmark {c p : Int32} {l k : Bool} {i : Nat} {T : TK} (hT : TB I n b) (h : CPt b n I (.inr T)) (hi : i < 2) (hd : 6 ≤ d) : ∃ J, Fm [3, 4] I J ∧ CPt b n J (.inr (cm1 b n (l, k, T)).2.2) ∧ OLe (v_X4_readCoach_49 X d 1 c p (bI (cm1 b n (l, k, T)).1) (bI (cm1 b n (l, k, T)).2.1) (nI (i + 1)) (J, L, ())) (v_X4_readCoach_49 X d 1 c p (bI l) (bI k) (nI i) (I, L, ())) := by
  have e8 := c_isS (X := X) (d := d) (L := L) (q := 8) hT h (by decide) hd
  have e9 := c_isS (X := X) (d := d) (L := L) (q := 9) hT h (by decide) hd
  have q0 : nI i < 2 := (n_lt (b := 2) (by omega) (by decide)).mpr hi
  have en : nI i + 1 = nI (i + 1) := n_add i 1
  unfold cm1
  cases l with
  | false =>
    cases h8 : isB b T 8 with
    | true =>
      rw [h8] at e8
      obtain ⟨J, j1, j2, j3⟩ := c_advS (X := X) (d := d) (L := L) hT h (by omega)
      simp only [and_self, if_true]
      refine ⟨J, j2, j3, fun r hr => v_X4_readCoach_49.e X d _ _ _ _ _ _ I L r ?_⟩
      rw [if_pos q0, if_pos beq0, e8, a_bi_i, if_neg bne1]
      dsimp +instances only
      rw [j1, a_bv_n, en]
      exact hr
    | false =>
      rw [h8] at e8
      cases k with
      | false =>
        cases h9 : isB b T 9 with
        | true =>
          rw [h9] at e9
          obtain ⟨J, j1, j2, j3⟩ := c_advS (X := X) (d := d) (L := L) hT h (by omega)
          simp only [and_self, if_true, Bool.false_eq_true, and_false, if_false]
          refine ⟨J, j2, j3, fun r hr => v_X4_readCoach_49.e X d _ _ _ _ _ _ I L r ?_⟩
          rw [if_pos q0, if_pos beq0, e8, a_bi_i, if_pos beq0, if_pos beq0]
          dsimp +instances only
          rw [e9, a_bi_i, if_neg bne1]
          dsimp +instances only
          rw [j1, a_bv_n, en]
          exact hr
        | false =>
          rw [h9] at e9
          simp only [Bool.false_eq_true, and_false, if_false]
          refine ⟨I, Fm.refl, h, fun r hr => v_X4_readCoach_49.e X d _ _ _ _ _ _ I L r ?_⟩
          rw [if_pos q0, if_pos beq0, e8, a_bi_i, if_pos beq0, if_pos beq0]
          dsimp +instances only
          rw [e9, a_bi_i, if_pos beq0, en]
          exact hr
      | true =>
        simp only [Bool.false_eq_true, and_false, if_false, Bool.true_eq_false, false_and]
        refine ⟨I, Fm.refl, h, fun r hr => v_X4_readCoach_49.e X d _ _ _ _ _ _ I L r ?_⟩
        rw [if_pos q0, if_pos beq0, e8, a_bi_i, if_pos beq0, if_neg bne1, en]
        exact hr
  | true =>
    cases k with
    | false =>
      cases h9 : isB b T 9 with
      | true =>
        rw [h9] at e9
        obtain ⟨J, j1, j2, j3⟩ := c_advS (X := X) (d := d) (L := L) hT h (by omega)
        simp only [Bool.true_eq_false, false_and, and_self, if_true, if_false]
        refine ⟨J, j2, j3, fun r hr => v_X4_readCoach_49.e X d _ _ _ _ _ _ I L r ?_⟩
        rw [if_pos q0, if_neg bne1, if_pos beq0, e9, a_bi_i, if_neg bne1]
        dsimp +instances only
        rw [j1, a_bv_n, en]
        exact hr
      | false =>
        rw [h9] at e9
        simp only [Bool.true_eq_false, Bool.false_eq_true, and_false, false_and, if_false]
        refine ⟨I, Fm.refl, h, fun r hr => v_X4_readCoach_49.e X d _ _ _ _ _ _ I L r ?_⟩
        rw [if_pos q0, if_neg bne1, if_pos beq0, e9, a_bi_i, if_pos beq0, en]
        exact hr
    | true =>
      simp only [Bool.true_eq_false, false_and, if_false]
      refine ⟨I, Fm.refl, h, fun r hr => v_X4_readCoach_49.e X d _ _ _ _ _ _ I L r ?_⟩
      rw [if_pos q0, if_neg bne1, if_neg bne1, en]
      exact hr
theorem c_coachL {T : TK} (hT : TB I n b) (h : CPt b n I (.inr T)) (hQ : TQ I 1 w e) (w0 : 2 ≤ w 0 ∧ w 0 ≤ 8) (hd : 9 ≤ d) : ∃ J, K_X4_readCoach X d 1 (I, L, ()) = some (some (aI (bI (gd (pCo b n w T).1))), (J, L, ())) ∧ FrC I J ∧ CPt b n J (pCo b n w T).1 ∧ (gd (pCo b n w T).1 = true → TQ J 1 (pCo b n w T).2 e) := by
  obtain ⟨g, rfl⟩ : ∃ g, d = g + 1 := ⟨d - 1, by omega⟩
  obtain ⟨J1, a1, a2, a3⟩ := c_readAfter (X := X) (d := g) (L := L) (q := 6) (lo := 0) (hi := w 0 - 1) hT h (by decide) (by decide) (by omega) (by omega)
  have e0 := c_coachesQ (X := X) (d := g) (L := L) hQ (by omega)
  have es : nI (w 0) - 1 = nI (w 0 - 1) := n_sub (b := 1) (by omega)
  have st : ∀ r, (if vN (toS b n 6 0 (w 0 - 1) (.inr T)) = -1 then some (some (aI (0 : Int32)), (J1, L, ())) else (a_bi (K_X4_readAfter X g 7 (0) (99) (J1, L, ())) fun x3 s3 => (if x3 = (-1) then some (some (aI (0)), (s3.1, s3.2.1, ())) else v_X4_readCoach_49 X g 1 (vN (toS b n 6 0 (w 0 - 1) (.inr T))) x3 (0) (0) (0) (s3.1, s3.2.1, ())))) = some r → K_X4_readCoach X (g + 1) 1 (I, L, ()) = some r := fun r hr => by
    refine K_X4_readCoach.e X g 1 I L r ?_
    rw [e0, a_bi_i]
    dsimp +instances only
    rw [es]
    have a1' : K_X4_readAfter X g 6 (0 : Int32) (nI (w 0 - 1)) (I, L, ()) = some (some (aI (vN (toS b n 6 0 (w 0 - 1) (.inr T)))), (J1, L, ())) := a1
    rw [a1', a_bi_i]
    exact hr
  unfold pCo
  have hle := nmS_le (b := b) (n := n) (lo := 0) (hi := w 0 - 1) (s := ndS b n 6 (.inr T))
  have hto : toS b n 6 0 (w 0 - 1) (.inr T) = nmS b n 0 (w 0 - 1) (ndS b n 6 (.inr T)) := rfl
  rw [← hto] at hle
  generalize toS b n 6 0 (w 0 - 1) (.inr T) = r1 at a1 a3 st hle ⊢
  obtain ⟨c, s1⟩ := r1
  cases s1 with
  | inl f =>
    refine ⟨J1, st _ ?_, FrC.of a2, a3, fun z => by cases z⟩
    rw [if_pos (show vN (c, .inl f) = -1 from rfl)]; rfl
  | inr T1 =>
    have hc := (hle rfl).2
    have hc : c ≤ w 0 - 1 := hc
    have t1 : TB J1 n b := hT.fm a2 (by decide) (by decide)
    obtain ⟨J2, b1, b2, b3⟩ := c_readAfter (X := X) (d := g) (L := L) (q := 7) (lo := 0) (hi := 99) t1 a3 (by decide) (by decide) (by decide) (by omega)
    have b1' : K_X4_readAfter X g 7 (0 : Int32) (99 : Int32) (J1, L, ()) = some (some (aI (vN (toS b n 7 0 99 (.inr T1)))), (J2, L, ())) := b1
    have hcn : ¬ vN (c, .inr T1) = -1 := fun z => (n_neN (a := c) (by omega)).mp z
    rw [if_neg hcn, b1', a_bi_i] at st
    simp only
    have hle2 := nmS_le (b := b) (n := n) (lo := 0) (hi := 99) (s := ndS b n 7 (.inr T1))
    have hto2 : toS b n 7 0 99 (.inr T1) = nmS b n 0 99 (ndS b n 7 (.inr T1)) := rfl
    rw [← hto2] at hle2
    generalize toS b n 7 0 99 (.inr T1) = r2 at b1 b1' b3 st hle2 ⊢
    obtain ⟨p, s2⟩ := r2
    cases s2 with
    | inl f =>
      refine ⟨J2, st _ ?_, FrC.of (a2.trans b2), b3, fun z => by cases z⟩
      rw [if_pos (show vN (p, .inl f) = -1 from rfl)]; rfl
    | inr T2 =>
      dsimp only
      have hp : p ≤ 99 := (hle2 rfl).2
      have t2 : TB J2 n b := t1.fm b2 (by decide) (by decide)
      have hpn : ¬ vN (p, .inr T2) = -1 := fun z => (n_neN (a := p) (by omega)).mp z
      rw [if_neg hpn] at st
      obtain ⟨J3, c1, c2, c3⟩ := c_cmark (X := X) (d := g) (L := L) (c := nI c) (p := nI p) (l := false) (k := false) (i := 0) t2 b3 (by decide) (by omega)
      have t3 : TB J3 n b := t2.fm c1 (by decide) (by decide)
      generalize hm1 : cm1 b n (false, false, T2) = m1 at c2 c3 ⊢
      obtain ⟨l1, k1, T3⟩ := m1
      obtain ⟨J4, d1, d2, d3⟩ := c_cmark (X := X) (d := g) (L := L) (c := nI c) (p := nI p) (l := l1) (k := k1) (i := 1) t3 c2 (by decide) (by omega)
      generalize hm2 : cm1 b n (l1, k1, T3) = m2 at d2 d3 ⊢
      obtain ⟨l2, k2, T4⟩ := m2
      simp only at c2 c3 d2 d3 ⊢
      have t4 : TB J4 n b := t3.fm d1 (by decide) (by decide)
      have F4 : Fm [3, 4] I J4 := ((a2.trans b2).trans c1).trans d1
      have Q4 : TQ J4 1 w e := hQ.f34 F4
      generalize hK : up3 (up3 (up3 J4 7 1 (c * 3 + 0) (nI p)) 7 1 (c * 3 + 1) (nI l2.toNat)) 7 1 (c * 3 + 2) (nI k2.toNat) = K
      have QK : TQ K 1 (wC w c p l2 k2) e := by
        rw [← hK]
        exact ((Q4.upC (by omega)).upC (by omega)).upC (by omega)
      have FK : FrC I K := by rw [← hK]; exact (((FrC.of F4).up (by decide) (by decide)).up (by decide) (by decide)).up (by decide) (by decide)
      have CK : CPt b n K (.inr T4) := by rw [← hK]; exact ((d2.up1 (by decide)).up1 (by decide)).up1 (by decide)
      obtain ⟨M, m1, m2, m3⟩ := c_readSign (X := X) (d := g) (L := L) (hT.frc FK) CK (by omega)
      refine ⟨M, st _ ?_, FK.trans (FrC.of m2), m3, fun _ => QK.f34 m2⟩
      refine c3 _ (d3 _ (v_X4_readCoach_49.e X g _ _ _ _ _ _ J4 L _ ?_))
      have p0 : ∀ x, K_X9_putCoach X g 1 (nI c) (0 : Int32) x (J4, L, ()) = some (none, (up3 J4 7 1 (c * 3 + 0) x, L, ())) := fun x => c_putCoach (k := 0) (by omega) (by omega)
      have p1 : ∀ x y, K_X9_putCoach X g 1 (nI c) (1 : Int32) y (up3 J4 7 1 (c * 3 + 0) x, L, ()) = some (none, (up3 (up3 J4 7 1 (c * 3 + 0) x) 7 1 (c * 3 + 1) y, L, ())) := fun x y => c_putCoach (k := 1) (by omega) (by omega)
      have p2 : ∀ x y z, K_X9_putCoach X g 1 (nI c) (2 : Int32) z (up3 (up3 J4 7 1 (c * 3 + 0) x) 7 1 (c * 3 + 1) y, L, ()) = some (none, (up3 (up3 (up3 J4 7 1 (c * 3 + 0) x) 7 1 (c * 3 + 1) y) 7 1 (c * 3 + 2) z, L, ())) := fun x y z => c_putCoach (k := 2) (by omega) (by omega)
      rw [if_neg (show ¬ nI (1 + 1) < 2 by decide), p0, a_bv_n]
      dsimp +instances only
      have sign : (a_bi (K_X4_readSign X g (K, L, ())) fun x4 s4 => (if x4 = 0 ∨ x4 = 1 then some (some (aI x4), (s4.1, s4.2.1, ())) else none)) = some (some (aI (bI (gd (sgS b n (.inr T4))))), (M, L, ())) := by
        rw [m1, a_bi_i]; exact bool_val
      cases l2 with
      | false =>
        rw [if_pos beq0, p1, a_bv_n]
        dsimp +instances only
        cases k2 with
        | false =>
          rw [if_pos beq0, p2, a_bv_n]
          dsimp +instances only
          have hK' : up3 (up3 (up3 J4 7 1 (c * 3 + 0) (nI p)) 7 1 (c * 3 + 1) 0) 7 1 (c * 3 + 2) 0 = K := hK
          rw [hK']
          exact sign
        | true =>
          rw [if_neg bne1, p2, a_bv_n]
          dsimp +instances only
          have hK' : up3 (up3 (up3 J4 7 1 (c * 3 + 0) (nI p)) 7 1 (c * 3 + 1) 0) 7 1 (c * 3 + 2) 1 = K := hK
          first | rw [hK'] | (have hK2 : up3 (up3 (up3 J4 7 1 (c * 3 + 0) (vN (p, .inr T2))) 7 1 (c * 3 + 1) 0) 7 1 (c * 3 + 2) 1 = K := hK'; rw [hK2])
          exact sign
      | true =>
        rw [if_neg bne1, p1, a_bv_n]
        dsimp +instances only
        cases k2 with
        | false =>
          rw [if_pos beq0, p2, a_bv_n]
          dsimp +instances only
          have hK' : up3 (up3 (up3 J4 7 1 (c * 3 + 0) (nI p)) 7 1 (c * 3 + 1) 1) 7 1 (c * 3 + 2) 0 = K := hK
          first | rw [hK'] | (have hK2 : up3 (up3 (up3 J4 7 1 (c * 3 + 0) (vN (p, .inr T2))) 7 1 (c * 3 + 1) 1) 7 1 (c * 3 + 2) 0 = K := hK'; rw [hK2])
          exact sign
        | true =>
          rw [if_neg bne1, p2, a_bv_n]
          dsimp +instances only
          have hK' : up3 (up3 (up3 J4 7 1 (c * 3 + 0) (nI p)) 7 1 (c * 3 + 1) 1) 7 1 (c * 3 + 2) 1 = K := hK
          first | rw [hK'] | (have hK2 : up3 (up3 (up3 J4 7 1 (c * 3 + 0) (vN (p, .inr T2))) 7 1 (c * 3 + 1) 1) 7 1 (c * 3 + 2) 1 = K := hK'; rw [hK2])
          exact sign
end
