/-! the class's lines: inspector, rider, day, head -/
theorem TQ.upH {I : A3 Int32} {q j z : Nat} {w : TW} {e : CE} (h : TQ I q w e) (hj : j < 8) : TQ (up3 I 6 q j (nI z)) q (wup w j z) e := by
  obtain ⟨⟨a1, a2, a3, a4, a5⟩, a6, a7⟩ := h
  refine ⟨⟨fun x hx => ?_, fun x hx => ?_, fun x hx => ?_, fun x hx => ?_, fun x hx => ?_⟩, ?_, ?_⟩
  · by_cases ee : x = j
    · subst ee; rw [u3_eq, wup_eq]
    · rw [u3_j _ _ ee, wup_ne _ _ ee]; exact a1 x hx
  · rw [u3_f _ _ (by decide), wup_ne _ _ (by omega)]; exact a2 x hx
  · rw [u3_f _ _ (by decide), wup_ne _ _ (by omega)]; exact a3 x hx
  · rw [u3_f _ _ (by decide), wup_ne _ _ (by omega)]; exact a4 x hx
  · rw [u3_f _ _ (by decide), wup_ne _ _ (by omega)]; exact a5 x hx
  · rw [u3_f _ _ (by decide), wup_ne _ _ (by omega)]; exact a6
  · rw [u3_f _ _ (by decide), wup_ne _ _ (by omega)]; exact a7
theorem TQ.upR {I : A3 Int32} {q j z : Nat} {w : TW} {e : CE} (h : TQ I q w e) (hj : j < 30) : TQ (up3 I 9 q j (nI z)) q (wup w (48 + j) z) e := by
  obtain ⟨⟨a1, a2, a3, a4, a5⟩, a6, a7⟩ := h
  refine ⟨⟨fun x hx => ?_, fun x hx => ?_, fun x hx => ?_, fun x hx => ?_, fun x hx => ?_⟩, ?_, ?_⟩
  · rw [u3_f _ _ (by decide), wup_ne _ _ (by omega)]; exact a1 x hx
  · rw [u3_f _ _ (by decide), wup_ne _ _ (by omega)]; exact a2 x hx
  · rw [u3_f _ _ (by decide), wup_ne _ _ (by omega)]; exact a3 x hx
  · by_cases ee : x = j
    · subst ee; rw [u3_eq, wup_eq]
    · rw [u3_j _ _ ee, wup_ne _ _ (by omega)]; exact a4 x hx
  · rw [u3_f _ _ (by decide), wup_ne _ _ (by omega)]; exact a5 x hx
  · rw [u3_f _ _ (by decide), wup_ne _ _ (by omega)]; exact a6
  · rw [u3_f _ _ (by decide), wup_ne _ _ (by omega)]; exact a7
theorem TQ.upD {I : A3 Int32} {q j z : Nat} {w : TW} {e : CE} (h : TQ I q w e) (hj : j < 7) : TQ (up3 I 10 q j (nI z)) q (wup w (78 + j) z) e := by
  obtain ⟨⟨a1, a2, a3, a4, a5⟩, a6, a7⟩ := h
  refine ⟨⟨fun x hx => ?_, fun x hx => ?_, fun x hx => ?_, fun x hx => ?_, fun x hx => ?_⟩, ?_, ?_⟩
  · rw [u3_f _ _ (by decide), wup_ne _ _ (by omega)]; exact a1 x hx
  · rw [u3_f _ _ (by decide), wup_ne _ _ (by omega)]; exact a2 x hx
  · rw [u3_f _ _ (by decide), wup_ne _ _ (by omega)]; exact a3 x hx
  · rw [u3_f _ _ (by decide), wup_ne _ _ (by omega)]; exact a4 x hx
  · by_cases ee : x = j
    · subst ee; rw [u3_eq, wup_eq]
    · rw [u3_j _ _ ee, wup_ne _ _ (by omega)]; exact a5 x hx
  · rw [u3_f _ _ (by decide), wup_ne _ _ (by omega)]; exact a6
  · rw [u3_f _ _ (by decide), wup_ne _ _ (by omega)]; exact a7
section
variable {X : AX} {d : Nat} {I J : A3 Int32} {L : A3 Int64} {b : Nat → Int8} {n : Nat} {w : TW} {e : CE}
theorem im1_v {k : Option Nat} {t : Bool} {s : PS} (hk : ∀ v, k = some v → v ≤ 100) (T' : TK) (h : (im1 b n (k, t, s)).2.2 = .inr T') : ∀ v, (im1 b n (k, t, s)).1 = some v → v ≤ 100 := by
  unfold im1 at h ⊢
  cases s with
  | inl f => cases h
  | inr T =>
    simp only at h ⊢
    split at h
    · rename_i hc
      simp only [hc, and_self, if_true]
      intro v hv
      cases hv
      exact (toS_le (by rw [h]; rfl)).2
    · split at h
      · rename_i hc1 hc2
        simp only [hc1, hc2, if_false, and_self, if_true]
        exact hk
      · rename_i hc1 hc2
        simp only [hc1, hc2, if_false]
        exact hk
theorem c_inspL {T : TK} (hT : TB I n b) (h : CPt b n I (.inr T)) (hQ : TQ I 1 w e) (w0 : 2 ≤ w 0 ∧ w 0 ≤ 8) (w5 : w 5 < 3) (hd : 10 ≤ d) : ∃ J, K_X4_readInspector X d 1 (I, L, ()) = some (some (aI (bI (gd (pIn b n w (.inr (nx b n T))).1))), (J, L, ())) ∧ FrC I J ∧ CPt b n J (pIn b n w (.inr (nx b n T))).1 ∧ (gd (pIn b n w (.inr (nx b n T))).1 = true → TQ J 1 (pIn b n w (.inr (nx b n T))).2 e) := by
  obtain ⟨g, rfl⟩ : ∃ g, d = g + 1 := ⟨d - 1, by omega⟩
  have e0 : K_X9_inspectors X g 1 (I, L, ()) = some (some (aI (nI (w 5))), (I, L, ())) := by
    obtain ⟨g', rfl⟩ : ∃ g', g = g' + 1 := ⟨g - 1, by omega⟩
    refine K_X9_inspectors.e X g' 1 I L _ ?_
    rw [hQ.1.1 5 (by decide)]
  obtain ⟨J0, z1, z2, z3⟩ := c_advS (X := X) (d := g) (L := L) hT h (by omega)
  have t0 : TB J0 n b := hT.fm z2 (by decide) (by decide)
  have Q0 := hQ.f34 z2
  have e1 := c_coachesQ (X := X) (d := g) (L := L) Q0 (by omega)
  have es : nI (w 0) - 1 = nI (w 0 - 1) := n_sub (b := 1) (by omega)
  obtain ⟨J1, a1, a2, a3⟩ := c_readAfter (X := X) (d := g) (L := L) (q := 11) (lo := 0) (hi := w 0 - 1) t0 z3 (by decide) (by decide) (by omega) (by omega)
  have a1' : K_X4_readAfter X g 11 (0 : Int32) (nI (w 0 - 1)) (J0, L, ()) = some (some (aI (vN (toS b n 11 0 (w 0 - 1) (.inr (nx b n T))))), (J1, L, ())) := a1
  generalize hs0 : (Sum.inr (nx b n T) : PS) = s0 at a1 a1' a3 ⊢
  have hle1 := toS_le (b := b) (n := n) (q := 11) (lo := 0) (hi := w 0 - 1) (s := s0)
  have st1 : ∀ r, (if vN (toS b n 11 0 (w 0 - 1) s0) = -1 then some (some (aI (0 : Int32)), (J1, L, ())) else (a_bi (K_X4_readWay X g (J1, L, ())) fun x5 s5 => (if x5 = (-1) then some (some (aI (0)), (s5.1, s5.2.1, ())) else (a_bi (K_X4_readAfter X g 14 (1) (20) (s5.1, s5.2.1, ())) fun x6 s6 => (if x6 = (-1) then some (some (aI (0)), (s6.1, s6.2.1, ())) else v_X4_readInspector_90 X g 1 (nI (w 5)) (vN (toS b n 11 0 (w 0 - 1) s0)) x5 x6 (-1) (0) (0) (s6.1, s6.2.1, ())))))) = some r → K_X4_readInspector X (g + 1) 1 (I, L, ()) = some r := fun r hr => by
    refine K_X4_readInspector.e X g 1 I L r ?_
    rw [e0, a_bi_i, if_pos (show nI (w 5) < 3 from (n_lt (b := 3) (by omega) (by decide)).mpr w5)]
    dsimp +instances only
    rw [z1, a_bv_n]
    dsimp +instances only
    rw [e1, a_bi_i]
    dsimp +instances only
    rw [es, a1', a_bi_i]
    exact hr
  unfold pIn inM
  generalize toS b n 11 0 (w 0 - 1) s0 = r1 at a1 a1' a3 st1 hle1 ⊢
  obtain ⟨c, s1⟩ := r1
  cases s1 with
  | inl f =>
    refine ⟨J1, st1 _ ?_, FrC.of (z2.trans a2), a3, fun z => by cases z⟩
    rw [if_pos (show vN (c, .inl f) = -1 from rfl)]; rfl
  | inr T1 =>
    have hc : c ≤ w 0 - 1 := (hle1 rfl).2
    have t1 : TB J1 n b := t0.fm a2 (by decide) (by decide)
    rw [if_neg (show ¬ vN (c, .inr T1) = -1 from fun z => (n_neN (a := c) (by omega)).mp z)] at st1
    simp only at st1 ⊢
    obtain ⟨J2, b1, b2, b3⟩ := c_readWay (X := X) (d := g) (L := L) t1 a3 (by omega)
    rw [b1, a_bi_i] at st1
    have hy := wy_le (b := b) (n := n) (s := .inr T1)
    generalize wyS b n (.inr T1) = r2 at b1 b3 st1 hy ⊢
    obtain ⟨y, s2⟩ := r2
    cases s2 with
    | inl f =>
      refine ⟨J2, st1 _ ?_, FrC.of ((z2.trans a2).trans b2), b3, fun z => by cases z⟩
      rw [if_pos (show vN (y, .inl f) = -1 from rfl)]; rfl
    | inr T2 =>
      have hy : y ≤ 1 := hy
      have t2 : TB J2 n b := t1.fm b2 (by decide) (by decide)
      rw [if_neg (show ¬ vN (y, .inr T2) = -1 from fun z => (n_neN (a := y) (by omega)).mp z)] at st1
      simp only at st1 ⊢
      obtain ⟨J3, c1, c2, c3⟩ := c_readAfter (X := X) (d := g) (L := L) (q := 14) (lo := 1) (hi := 20) t2 b3 (by decide) (by decide) (by decide) (by omega)
      have c1' : K_X4_readAfter X g 14 (1 : Int32) (20 : Int32) (J2, L, ()) = some (some (aI (vN (toS b n 14 1 20 (.inr T2)))), (J3, L, ())) := c1
      rw [c1', a_bi_i] at st1
      have hle3 := toS_le (b := b) (n := n) (q := 14) (lo := 1) (hi := 20) (s := .inr T2)
      generalize toS b n 14 1 20 (.inr T2) = r3 at c1 c1' c3 st1 hle3 ⊢
      obtain ⟨p, s3⟩ := r3
      cases s3 with
      | inl f =>
        refine ⟨J3, st1 _ ?_, FrC.of (((z2.trans a2).trans b2).trans c2), c3, fun z => by cases z⟩
        rw [if_pos (show vN (p, .inl f) = -1 from rfl)]; rfl
      | inr T3 =>
        have hp : p ≤ 20 := (hle3 rfl).2
        have t3 : TB J3 n b := t2.fm c2 (by decide) (by decide)
        have F3 : Fm [3, 4] I J3 := ((z2.trans a2).trans b2).trans c2
        rw [if_neg (show ¬ vN (p, .inr T3) = -1 from fun z => (n_neN (a := p) (by omega)).mp z)] at st1
        simp only at st1 ⊢
        obtain ⟨J4, d1, d2, d3, d4⟩ := c_imark (X := X) (d := g) (L := L) (i0 := nI (w 5)) (c := nI c) (y := nI y) (p := nI p) (k := none) (t := false) (i := 0) t3 c3 (fun v hv => by cases hv) (by decide) (by omega)
        have hv1 := im1_v (b := b) (n := n) (k := none) (t := false) (s := .inr T3) (fun v hv => by cases hv)
        generalize im1 b n (none, false, .inr T3) = m1 at d2 d3 d4 hv1 ⊢
        obtain ⟨k1, u1, s4⟩ := m1
        cases s4 with
        | inl f => exact ⟨J4, st1 _ (d3 f rfl), FrC.of (F3.trans d1), d2, fun z => by cases z⟩
        | inr T4 =>
          have hv1' := hv1 T4 rfl
          have t4 : TB J4 n b := t3.fm d1 (by decide) (by decide)
          have d4' := d4 T4 rfl
          obtain ⟨J5, f1, f2, f3, f4⟩ := c_imark (X := X) (d := g) (L := L) (i0 := nI (w 5)) (c := nI c) (y := nI y) (p := nI p) (k := k1) (t := u1) (i := 1) t4 d2 (fun v hv => by have := hv1' v hv; omega) (by decide) (by omega)
          have hv2 := im1_v (b := b) (n := n) (k := k1) (t := u1) (s := .inr T4) hv1'
          generalize im1 b n (k1, u1, .inr T4) = m2 at f2 f3 f4 hv2 ⊢
          obtain ⟨k2, u2, s5⟩ := m2
          cases s5 with
          | inl f => exact ⟨J5, st1 _ (d4' _ (f3 f rfl)), FrC.of ((F3.trans d1).trans f1), f2, fun z => by cases z⟩
          | inr T5 =>
            have hk2 : k2.getD 0 ≤ 100 := by
              cases hk : k2 with
              | none => decide
              | some v => exact hv2 T5 rfl v hk
            have f4' := f4 T5 rfl
            have F5 : Fm [3, 4] I J5 := (F3.trans d1).trans f1
            have Q5 : TQ J5 1 w e := hQ.f34 F5
            have h65 : J5 6 1 5 = nI (w 5) := Q5.1.1 5 (by decide)
            generalize hK1 : up3 J5 6 1 5 (nI (w 5 + 1)) = K1
            generalize hK2 : up3 (up3 K1 8 1 (w 5 * 5) (nI c)) 8 1 (w 5 * 5 + 1) (nI y) = K2
            generalize hK3 : up3 (up3 (up3 K2 8 1 (w 5 * 5 + 2) (nI p)) 8 1 (w 5 * 5 + 3) (nI (k2.getD 0))) 8 1 (w 5 * 5 + 4) (nI u2.toNat) = K3
            have QK : TQ K3 1 (wIn w c y p (k2.getD 0) u2) e := by
              rw [← hK3, ← hK2, ← hK1]
              exact (((((Q5.upH (by decide)).upI (by omega)).upI (by omega)).upI (by omega)).upI (by omega)).upI (by omega)
            have FK : FrC I K3 := by
              rw [← hK3, ← hK2, ← hK1]
              exact ((((((FrC.of F5).up (by decide) (by decide)).up (by decide) (by decide)).up (by decide) (by decide)).up (by decide) (by decide)).up (by decide) (by decide)).up (by decide) (by decide)
            have CK : CPt b n K3 (.inr T5) := by
              rw [← hK3, ← hK2, ← hK1]
              exact (((((f2.up1 (by decide)).up1 (by decide)).up1 (by decide)).up1 (by decide)).up1 (by decide)).up1 (by decide)
            obtain ⟨M, m1, m2, m3⟩ := c_readSign (X := X) (d := g) (L := L) (hT.frc FK) CK (by omega)
            refine ⟨M, st1 _ ?_, FK.trans (FrC.of m2), m3, fun _ => QK.f34 m2⟩
            refine d4' _ (f4' _ (v_X4_readInspector_90.e X g _ _ _ _ _ _ _ _ J5 L _ ?_))
            have pb : K_X9_putBegin X g 1 (nI (w 5)) (2 * nI c + nI y) (K1, L, ()) = some (none, (K2, L, ())) := by
              rw [show (2 : Int32) = nI 2 from rfl, n_mul, n_add, c_putBegin (by omega) (by omega) (by omega), show (2 * c + y) / 2 = c by omega, show (2 * c + y) % 2 = y by omega, hK2]
            have p2 : ∀ x, K_X9_putInspector X g 1 (nI (w 5)) (2 : Int32) x (K2, L, ()) = some (none, (up3 K2 8 1 (w 5 * 5 + 2) x, L, ())) := fun x => c_putInspector (k := 2) (by omega) (by omega)
            have p3 : ∀ K x, K_X9_putInspector X g 1 (nI (w 5)) (3 : Int32) x (K, L, ()) = some (none, (up3 K 8 1 (w 5 * 5 + 3) x, L, ())) := fun K x => c_putInspector (k := 3) (by omega) (by omega)
            have p4 : ∀ K x, K_X9_putInspector X g 1 (nI (w 5)) (4 : Int32) x (K, L, ()) = some (none, (up3 K 8 1 (w 5 * 5 + 4) x, L, ())) := fun K x => c_putInspector (k := 4) (by omega) (by omega)
            have mx : ∀ K : A3 Int32, K_J9_max_7cf53 X g (0 : Int32) (oI k2) (K, L, ()) = some (some (aI (nI (k2.getD 0))), (K, L, ())) := fun K => by
              rw [c_max (by omega)]
              cases hk : k2 with
              | none => rfl
              | some v =>
                rw [hk] at hk2
                have hk2 : v ≤ 100 := hk2
                show some (some (aI (if (0 : Int32) < nI v then nI v else 0)), _) = some (some (aI (nI v)), _)
                by_cases q : 0 < v
                · rw [if_pos (show (0 : Int32) < nI v from (n_lt (a := 0) (by decide) (by omega)).mpr q)]
                · have : v = 0 := by omega
                  subst this
                  rfl
            have sign : (a_bi (K_X4_readSign X g (K3, L, ())) fun x4 s4 => (if x4 = 0 ∨ x4 = 1 then some (some (aI x4), (s4.1, s4.2.1, ())) else none)) = some (some (aI (bI (gd (sgS b n (.inr T5))))), (M, L, ())) := by
              rw [m1, a_bi_i]; exact bool_val
            rw [if_neg (show ¬ nI (1 + 1) < 2 by decide), h65, show nI (w 5) + 1 = nI (w 5 + 1) from n_add _ 1, hK1, pb, a_bv_n]
            dsimp +instances only
            rw [p2, a_bv_n]
            dsimp +instances only
            rw [mx, a_bi_i]
            dsimp +instances only
            rw [p3, a_bv_n]
            dsimp +instances only
            cases u2 with
            | false =>
              rw [if_pos beq0, p4, a_bv_n]
              dsimp +instances only
              have hK3' : up3 (up3 (up3 K2 8 1 (w 5 * 5 + 2) (nI p)) 8 1 (w 5 * 5 + 3) (nI (k2.getD 0))) 8 1 (w 5 * 5 + 4) 0 = K3 := hK3
              rw [hK3']
              exact sign
            | true =>
              rw [if_neg bne1, p4, a_bv_n]
              dsimp +instances only
              have hK3' : up3 (up3 (up3 K2 8 1 (w 5 * 5 + 2) (nI p)) 8 1 (w 5 * 5 + 3) (nI (k2.getD 0))) 8 1 (w 5 * 5 + 4) 1 = K3 := hK3
              rw [hK3']
              exact sign
end
