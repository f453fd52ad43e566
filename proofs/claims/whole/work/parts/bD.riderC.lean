/-! the class's lines: rider, day, head -/
def wRi (w : TW) (c y s l : Nat) (t : Bool) : TW := wup (wup (wup (wup (wup (wup w 6 (w 6 + 1)) (48 + (w 6 * 5 + 0)) c) (48 + (w 6 * 5 + 1)) y) (48 + (w 6 * 5 + 2)) s) (48 + (w 6 * 5 + 3)) l) (48 + (w 6 * 5 + 4)) t.toNat
def ri1 (b : Nat → Int8) (n : Nat) (w : TW) (s0 : PS) : Nat × PS := toS b n 18 0 (w 0 - 1) s0
def ri2 (b : Nat → Int8) (n : Nat) (w : TW) (s0 : PS) : Nat × PS := ruS b n (ri1 b n w s0).2
def ri3 (b : Nat → Int8) (n : Nat) (w : TW) (s0 : PS) : Nat × PS := toS b n 22 0 7 (ri2 b n w s0).2
def ri4 (b : Nat → Int8) (n : Nat) (w : TW) (s0 : PS) : Nat × PS := toS b n 23 0 100 (ri3 b n w s0).2
def pRi (b : Nat → Int8) (n : Nat) (w : TW) (s0 : PS) : PS × TW := (sgS b n (tkS b n 24 (ri4 b n w s0).2), wRi w (ri1 b n w s0).1 (ri2 b n w s0).1 (ri3 b n w s0).1 (ri4 b n w s0).1 (isS b 24 (ri4 b n w s0).2))
def pDa (b : Nat → Int8) (n : Nat) (w : TW) (s0 : PS) : PS × TW := (sgS b n (toS b n 26 0 100 (nmS b n 0 6 s0).2).2, wup w (78 + (nmS b n 0 6 s0).1) (toS b n 26 0 100 (nmS b n 0 6 s0).2).1)
section
variable {X : AX} {d : Nat} {I J : A3 Int32} {L : A3 Int64} {b : Nat → Int8} {n : Nat} {w : TW} {e : CE}
theorem c_putRider {c k q : Nat} {x : Int32} (hk : c * 5 + k < 30) (hd : 1 ≤ d) : K_X9_putRider X d q (nI c) (nI k) x (I, L, ()) = some (none, (up3 I 9 q (c * 5 + k) x, L, ())) := by
  obtain ⟨g, rfl⟩ : ∃ g, d = g + 1 := ⟨d - 1, by omega⟩
  refine K_X9_putRider.e X g q _ _ x I L _ ?_
  simp (disch := omega) only [a_bi_i, a_bv_n, a_bl_l, a_bq_q, l_0, l_1, l_2, l_3, l_4, l_5, l_6, l_7, l_8, l_9, l_10, l_12, l_16, l_20, l_24, l_25, l_31, l_32, l_33, l_40, l_48, l_57, l_60, l_63, l_64, l_78, l_85, l_97, l_99, l_100, l_122, l_255, l_325, l_700, l_999, l_1000, l_1200, l_99999, l_100000, l_1000000, l_2000000000, l_N, n_add, n_mul, n_lt, n_out, n_div, n_dm, n_eq, n_toN, n_inN, n_ltN, n_nltN, n_neN, Nat.not_lt_zero, false_or, or_false, ite_y, ite_n, if_true, if_false, ite_tt, ite_ff, b_0, b_1, eq_self_iff_true, Bool.true_eq_false, Bool.false_eq_true]
theorem c_riderL {T : TK} (hT : TB I n b) (h : CPt b n I (.inr T)) (hQ : TQ I 1 w e) (w0 : 2 ≤ w 0 ∧ w 0 ≤ 8) (w6 : w 6 < 6) (hd : 10 ≤ d) : ∃ J, K_X4_readRider X d 1 (I, L, ()) = some (some (aI (bI (gd (pRi b n w (.inr (nx b n T))).1))), (J, L, ())) ∧ FrC I J ∧ CPt b n J (pRi b n w (.inr (nx b n T))).1 ∧ (gd (pRi b n w (.inr (nx b n T))).1 = true → TQ J 1 (pRi b n w (.inr (nx b n T))).2 e) := by
  obtain ⟨g, rfl⟩ : ∃ g, d = g + 1 := ⟨d - 1, by omega⟩
  have e0 : K_X9_riders X g 1 (I, L, ()) = some (some (aI (nI (w 6))), (I, L, ())) := by
    obtain ⟨g', rfl⟩ : ∃ g', g = g' + 1 := ⟨g - 1, by omega⟩
    refine K_X9_riders.e X g' 1 I L _ ?_
    rw [hQ.1.1 6 (by decide)]
  obtain ⟨J0, z1, z2, z3⟩ := c_advS (X := X) (d := g) (L := L) hT h (by omega)
  have t0 : TB J0 n b := hT.fm z2 (by decide) (by decide)
  have Q0 := hQ.f34 z2
  have e1 := c_coachesQ (X := X) (d := g) (L := L) Q0 (by omega)
  have es : nI (w 0) - 1 = nI (w 0 - 1) := n_sub (b := 1) (by omega)
  obtain ⟨J1, a1, a2, a3⟩ := c_readAfter (X := X) (d := g) (L := L) (q := 18) (lo := 0) (hi := w 0 - 1) t0 z3 (by decide) (by decide) (by omega) (by omega)
  have a1' : K_X4_readAfter X g 18 (0 : Int32) (nI (w 0 - 1)) (J0, L, ()) = some (some (aI (vN (toS b n 18 0 (w 0 - 1) (.inr (nx b n T))))), (J1, L, ())) := a1
  generalize hs0 : (Sum.inr (nx b n T) : PS) = s0 at a1 a1' a3 ⊢
  have hle1 := toS_le (b := b) (n := n) (q := 18) (lo := 0) (hi := w 0 - 1) (s := s0)
  have st1 : ∀ r, (if vN (toS b n 18 0 (w 0 - 1) s0) = -1 then some (some (aI (0 : Int32)), (J1, L, ())) else (a_bi (K_X4_readRule X g (J1, L, ())) fun x5 s5 => (if x5 = (-1) then some (some (aI (0)), (s5.1, s5.2.1, ())) else (a_bi (K_X4_readAfter X g 22 (0) (7) (s5.1, s5.2.1, ())) fun x6 s6 => (if x6 = (-1) then some (some (aI (0)), (s6.1, s6.2.1, ())) else (a_bi (K_X4_readAfter X g 23 (0) (100) (s6.1, s6.2.1, ())) fun x7 s7 => (if x7 = (-1) then some (some (aI (0)), (s7.1, s7.2.1, ())) else (a_bi (K_X8_is X g 24 (s7.1, s7.2.1, ())) fun x8 s8 => (if x8 = (0) then (a_bv (K_X9_putRider X g 1 (nI (w 6)) (0) (vN (toS b n 18 0 (w 0 - 1) s0)) ((up3 s8.1 6 1 6 ((s8.1 6 1 6) + (1))), s8.2.1, ())) fun s9 => (a_bv (K_X9_putRider X g 1 (nI (w 6)) (1) x5 (s9.1, s9.2.1, ())) fun s10 => (a_bv (K_X9_putRider X g 1 (nI (w 6)) (2) x6 (s10.1, s10.2.1, ())) fun s11 => (a_bv (K_X9_putRider X g 1 (nI (w 6)) (3) x7 (s11.1, s11.2.1, ())) fun s12 => (if x8 = (0) then (a_bv (K_X9_putRider X g 1 (nI (w 6)) (4) (0) (s12.1, s12.2.1, ())) fun s13 => (a_bi (K_X4_readSign X g (s13.1, s13.2.1, ())) fun x14 s14 => (if x14 = 0 ∨ x14 = 1 then some (some (aI x14), (s14.1, s14.2.1, ())) else none))) else (a_bv (K_X9_putRider X g 1 (nI (w 6)) (4) (1) (s12.1, s12.2.1, ())) fun s15 => (a_bi (K_X4_readSign X g (s15.1, s15.2.1, ())) fun x16 s16 => (if x16 = 0 ∨ x16 = 1 then some (some (aI x16), (s16.1, s16.2.1, ())) else none)))))))) else (a_bv (K_X8_advance X g (s8.1, s8.2.1, ())) fun s17 => (a_bv (K_X9_putRider X g 1 (nI (w 6)) (0) (vN (toS b n 18 0 (w 0 - 1) s0)) ((up3 s17.1 6 1 6 ((s17.1 6 1 6) + (1))), s17.2.1, ())) fun s18 => (a_bv (K_X9_putRider X g 1 (nI (w 6)) (1) x5 (s18.1, s18.2.1, ())) fun s19 => (a_bv (K_X9_putRider X g 1 (nI (w 6)) (2) x6 (s19.1, s19.2.1, ())) fun s20 => (a_bv (K_X9_putRider X g 1 (nI (w 6)) (3) x7 (s20.1, s20.2.1, ())) fun s21 => (if x8 = (0) then (a_bv (K_X9_putRider X g 1 (nI (w 6)) (4) (0) (s21.1, s21.2.1, ())) fun s22 => (a_bi (K_X4_readSign X g (s22.1, s22.2.1, ())) fun x23 s23 => (if x23 = 0 ∨ x23 = 1 then some (some (aI x23), (s23.1, s23.2.1, ())) else none))) else (a_bv (K_X9_putRider X g 1 (nI (w 6)) (4) (1) (s21.1, s21.2.1, ())) fun s24 => (a_bi (K_X4_readSign X g (s24.1, s24.2.1, ())) fun x25 s25 => (if x25 = 0 ∨ x25 = 1 then some (some (aI x25), (s25.1, s25.2.1, ())) else none)))))))))))))))))) = some r → K_X4_readRider X (g + 1) 1 (I, L, ()) = some r := fun r hr => by
    refine K_X4_readRider.e X g 1 I L r ?_
    rw [e0, a_bi_i, if_pos (show nI (w 6) < 6 from (n_lt (b := 6) (by omega) (by decide)).mpr w6)]
    dsimp +instances only
    rw [z1, a_bv_n]
    dsimp +instances only
    rw [e1, a_bi_i]
    dsimp +instances only
    rw [es, a1', a_bi_i]
    exact hr
  unfold pRi ri4 ri3 ri2 ri1
  generalize toS b n 18 0 (w 0 - 1) s0 = r1 at a1 a1' a3 st1 hle1 ⊢
  obtain ⟨c, s1⟩ := r1
  cases s1 with
  | inl f =>
    refine ⟨J1, st1 _ ?_, FrC.of (z2.trans a2), a3, fun z => by cases z⟩
    rw [if_pos (show vN (c, .inl f) = -1 from rfl)]; rfl
  | inr T1 =>
    have hc : c ≤ w 0 - 1 := (hle1 rfl).2
    have t1 : TB J1 n b := t0.fm a2 (by decide) (by decide)
    rw [if_neg (show ¬ vN (c, .inr T1) = -1 from fun z => (n_neN (a := c) (by omega)).mp z)] at st1
    simp only at st1 ⊢
    obtain ⟨J2, b1, b2, b3⟩ := c_readRule (X := X) (d := g) (L := L) t1 a3 (by omega)
    rw [b1, a_bi_i] at st1
    have hy := ru_le (b := b) (n := n) (s := .inr T1)
    generalize ruS b n (.inr T1) = r2 at b1 b3 st1 hy ⊢
    obtain ⟨y, s2⟩ := r2
    cases s2 with
    | inl f =>
      refine ⟨J2, st1 _ ?_, FrC.of ((z2.trans a2).trans b2), b3, fun z => by cases z⟩
      rw [if_pos (show vN (y, .inl f) = -1 from rfl)]; rfl
    | inr T2 =>
      have hy : y ≤ 3 := hy
      have t2 : TB J2 n b := t1.fm b2 (by decide) (by decide)
      rw [if_neg (show ¬ vN (y, .inr T2) = -1 from fun z => (n_neN (a := y) (by omega)).mp z)] at st1
      simp only at st1 ⊢
      obtain ⟨J3, c1, c2, c3⟩ := c_readAfter (X := X) (d := g) (L := L) (q := 22) (lo := 0) (hi := 7) t2 b3 (by decide) (by decide) (by decide) (by omega)
      have c1' : K_X4_readAfter X g 22 (0 : Int32) (7 : Int32) (J2, L, ()) = some (some (aI (vN (toS b n 22 0 7 (.inr T2)))), (J3, L, ())) := c1
      rw [c1', a_bi_i] at st1
      have hle3 := toS_le (b := b) (n := n) (q := 22) (lo := 0) (hi := 7) (s := .inr T2)
      generalize toS b n 22 0 7 (.inr T2) = r3 at c1 c1' c3 st1 hle3 ⊢
      obtain ⟨p, s3⟩ := r3
      cases s3 with
      | inl f =>
        refine ⟨J3, st1 _ ?_, FrC.of (((z2.trans a2).trans b2).trans c2), c3, fun z => by cases z⟩
        rw [if_pos (show vN (p, .inl f) = -1 from rfl)]; rfl
      | inr T3 =>
        have hp : p ≤ 7 := (hle3 rfl).2
        have t3 : TB J3 n b := t2.fm c2 (by decide) (by decide)
        rw [if_neg (show ¬ vN (p, .inr T3) = -1 from fun z => (n_neN (a := p) (by omega)).mp z)] at st1
        simp only at st1 ⊢
        obtain ⟨J4, d1, d2, d3⟩ := c_readAfter (X := X) (d := g) (L := L) (q := 23) (lo := 0) (hi := 100) t3 c3 (by decide) (by decide) (by decide) (by omega)
        have d1' : K_X4_readAfter X g 23 (0 : Int32) (100 : Int32) (J3, L, ()) = some (some (aI (vN (toS b n 23 0 100 (.inr T3)))), (J4, L, ())) := d1
        rw [d1', a_bi_i] at st1
        have hle4 := toS_le (b := b) (n := n) (q := 23) (lo := 0) (hi := 100) (s := .inr T3)
        generalize toS b n 23 0 100 (.inr T3) = r4 at d1 d1' d3 st1 hle4 ⊢
        obtain ⟨l, s4⟩ := r4
        have F4 : Fm [3, 4] I J4 := (((z2.trans a2).trans b2).trans c2).trans d2
        cases s4 with
        | inl f =>
          refine ⟨J4, st1 _ ?_, FrC.of F4, d3, fun z => by cases z⟩
          rw [if_pos (show vN (l, .inl f) = -1 from rfl)]; rfl
        | inr T4 =>
          have hl : l ≤ 100 := (hle4 rfl).2
          have t4 : TB J4 n b := t3.fm d2 (by decide) (by decide)
          rw [if_neg (show ¬ vN (l, .inr T4) = -1 from fun z => (n_neN (a := l) (by omega)).mp z)] at st1
          simp only at st1 ⊢
          have e24 := c_isS (X := X) (d := g) (L := L) (q := 24) t4 d3 (by decide) (by omega)
          rw [e24, a_bi_i] at st1
          -- the rest, from a state that has the token behind
          have fin : ∀ (J5 : A3 Int32) (T5 : TK) (u : Bool), Fm [3, 4] I J5 → CPt b n J5 (.inr T5) → ∃ M K3, FrC I M ∧ CPt b n M (sgS b n (.inr T5)) ∧ TQ M 1 (wRi w c y p l u) e ∧ J5 6 1 6 = nI (w 6) ∧ up3 (up3 (up3 (up3 (up3 (up3 J5 6 1 6 (nI (w 6 + 1))) 9 1 (w 6 * 5 + 0) (nI c)) 9 1 (w 6 * 5 + 1) (nI y)) 9 1 (w 6 * 5 + 2) (nI p)) 9 1 (w 6 * 5 + 3) (nI l)) 9 1 (w 6 * 5 + 4) (nI u.toNat) = K3 ∧ (a_bi (K_X4_readSign X g (K3, L, ())) fun x4 s4 => (if x4 = 0 ∨ x4 = 1 then some (some (aI x4), (s4.1, s4.2.1, ())) else none)) = some (some (aI (bI (gd (sgS b n (.inr T5))))), (M, L, ())) := fun J5 T5 u F5 C5 => by
            have Q5 : TQ J5 1 w e := hQ.f34 F5
            generalize hK3 : up3 (up3 (up3 (up3 (up3 (up3 J5 6 1 6 (nI (w 6 + 1))) 9 1 (w 6 * 5 + 0) (nI c)) 9 1 (w 6 * 5 + 1) (nI y)) 9 1 (w 6 * 5 + 2) (nI p)) 9 1 (w 6 * 5 + 3) (nI l)) 9 1 (w 6 * 5 + 4) (nI u.toNat) = K3
            have QK : TQ K3 1 (wRi w c y p l u) e := by
              rw [← hK3]
              exact (((((Q5.upH (by decide)).upR (by omega)).upR (by omega)).upR (by omega)).upR (by omega)).upR (by omega)
            have FK : FrC I K3 := by
              rw [← hK3]
              exact ((((((FrC.of F5).up (by decide) (by decide)).up (by decide) (by decide)).up (by decide) (by decide)).up (by decide) (by decide)).up (by decide) (by decide)).up (by decide) (by decide)
            have CK : CPt b n K3 (.inr T5) := by
              rw [← hK3]
              exact (((((C5.up1 (by decide)).up1 (by decide)).up1 (by decide)).up1 (by decide)).up1 (by decide)).up1 (by decide)
            obtain ⟨M, m1, m2, m3⟩ := c_readSign (X := X) (d := g) (L := L) (hT.frc FK) CK (by omega)
            refine ⟨M, K3, FK.trans (FrC.of m2), m3, QK.f34 m2, Q5.1.1 6 (by decide), rfl, ?_⟩
            rw [m1, a_bi_i]; exact bool_val
          have p0 : ∀ K x, K_X9_putRider X g 1 (nI (w 6)) (0 : Int32) x (K, L, ()) = some (none, (up3 K 9 1 (w 6 * 5 + 0) x, L, ())) := fun K x => c_putRider (k := 0) (by omega) (by omega)
          have p1 : ∀ K x, K_X9_putRider X g 1 (nI (w 6)) (1 : Int32) x (K, L, ()) = some (none, (up3 K 9 1 (w 6 * 5 + 1) x, L, ())) := fun K x => c_putRider (k := 1) (by omega) (by omega)
          have p2 : ∀ K x, K_X9_putRider X g 1 (nI (w 6)) (2 : Int32) x (K, L, ()) = some (none, (up3 K 9 1 (w 6 * 5 + 2) x, L, ())) := fun K x => c_putRider (k := 2) (by omega) (by omega)
          have p3 : ∀ K x, K_X9_putRider X g 1 (nI (w 6)) (3 : Int32) x (K, L, ()) = some (none, (up3 K 9 1 (w 6 * 5 + 3) x, L, ())) := fun K x => c_putRider (k := 3) (by omega) (by omega)
          have p4 : ∀ K x, K_X9_putRider X g 1 (nI (w 6)) (4 : Int32) x (K, L, ()) = some (none, (up3 K 9 1 (w 6 * 5 + 4) x, L, ())) := fun K x => c_putRider (k := 4) (by omega) (by omega)
          show ∃ J, K_X4_readRider X (g + 1) 1 (I, L, ()) = some (some (aI (bI (gd (sgS b n (if isB b T4 24 = true then .inr (nx b n T4) else .inr T4))))), (J, L, ())) ∧ FrC I J ∧ CPt b n J (sgS b n (if isB b T4 24 = true then .inr (nx b n T4) else .inr T4)) ∧ (gd (sgS b n (if isB b T4 24 = true then .inr (nx b n T4) else .inr T4)) = true → TQ J 1 (wRi w c y p l (isB b T4 24)) e)
          cases hb : isB b T4 24 with
          | false =>
            rw [hb] at st1
            obtain ⟨M, K3, m1, m2, m3, m4, m5, m6⟩ := fin J4 T4 false F4 d3
            refine ⟨M, st1 _ ?_, m1, m2, fun _ => m3⟩
            rw [if_pos beq0]
            dsimp +instances only
            rw [m4, show nI (w 6) + 1 = nI (w 6 + 1) from n_add _ 1, p0, a_bv_n]
            dsimp +instances only
            rw [p1, a_bv_n]
            dsimp +instances only
            rw [p2, a_bv_n]
            dsimp +instances only
            rw [p3, a_bv_n, if_pos beq0]
            dsimp +instances only
            rw [p4, a_bv_n]
            dsimp +instances only
            have m5' : up3 (up3 (up3 (up3 (up3 (up3 J4 6 1 6 (nI (w 6 + 1))) 9 1 (w 6 * 5 + 0) (vN (c, .inr T1))) 9 1 (w 6 * 5 + 1) (vN (y, .inr T2))) 9 1 (w 6 * 5 + 2) (vN (p, .inr T3))) 9 1 (w 6 * 5 + 3) (vN (l, .inr T4))) 9 1 (w 6 * 5 + 4) 0 = K3 := m5
            rw [m5']
            exact m6
          | true =>
            rw [hb] at st1
            obtain ⟨J5, g1, g2, g3⟩ := c_advS (X := X) (d := g) (L := L) t4 d3 (by omega)
            obtain ⟨M, K3, m1, m2, m3, m4, m5, m6⟩ := fin J5 (nx b n T4) true (F4.trans g2) g3
            refine ⟨M, st1 _ ?_, m1, m2, fun _ => m3⟩
            rw [if_neg bne1]
            dsimp +instances only
            rw [g1, a_bv_n]
            dsimp +instances only
            rw [m4, show nI (w 6) + 1 = nI (w 6 + 1) from n_add _ 1, p0, a_bv_n]
            dsimp +instances only
            rw [p1, a_bv_n]
            dsimp +instances only
            rw [p2, a_bv_n]
            dsimp +instances only
            rw [p3, a_bv_n, if_neg bne1]
            dsimp +instances only
            rw [p4, a_bv_n]
            dsimp +instances only
            have m5' : up3 (up3 (up3 (up3 (up3 (up3 J5 6 1 6 (nI (w 6 + 1))) 9 1 (w 6 * 5 + 0) (vN (c, .inr T1))) 9 1 (w 6 * 5 + 1) (vN (y, .inr T2))) 9 1 (w 6 * 5 + 2) (vN (p, .inr T3))) 9 1 (w 6 * 5 + 3) (vN (l, .inr T4))) 9 1 (w 6 * 5 + 4) 1 = K3 := m5
            rw [m5']
            exact m6
theorem c_dayL {T : TK} (hT : TB I n b) (h : CPt b n I (.inr T)) (hQ : TQ I 1 w e) (hd : 10 ≤ d) : ∃ J, K_X4_readDay X d 1 (I, L, ()) = some (some (aI (bI (gd (pDa b n w (ndS b n 25 (.inr T))).1))), (J, L, ())) ∧ FrC I J ∧ CPt b n J (pDa b n w (ndS b n 25 (.inr T))).1 ∧ (gd (pDa b n w (ndS b n 25 (.inr T))).1 = true → TQ J 1 (pDa b n w (ndS b n 25 (.inr T))).2 e) := by
  obtain ⟨g, rfl⟩ : ∃ g, d = g + 1 := ⟨d - 1, by omega⟩
  obtain ⟨J1, a1, a2, a3⟩ := c_readAfter (X := X) (d := g) (L := L) (q := 25) (lo := 0) (hi := 6) hT h (by decide) (by decide) (by omega) (by omega)
  have a1' : K_X4_readAfter X g 25 (0 : Int32) (6 : Int32) (I, L, ()) = some (some (aI (vN (nmS b n 0 6 (ndS b n 25 (.inr T))))), (J1, L, ())) := a1
  have a3' : CPt b n J1 (nmS b n 0 6 (ndS b n 25 (.inr T))).2 := a3
  have hle1 := nmS_le (b := b) (n := n) (lo := 0) (hi := 6) (s := ndS b n 25 (.inr T))
  have st1 : ∀ r, (if vN (nmS b n 0 6 (ndS b n 25 (.inr T))) = -1 then some (some (aI (0 : Int32)), (J1, L, ())) else (a_bi (K_X4_readAfter X g 26 (0) (100) (J1, L, ())) fun x2 s2 => (if x2 = (-1) then some (some (aI (0)), (s2.1, s2.2.1, ())) else if aout (vN (nmS b n 0 6 (ndS b n 25 (.inr T)))) 7 then none else (a_bi (K_X4_readSign X g ((up3 s2.1 10 1 (vN (nmS b n 0 6 (ndS b n 25 (.inr T)))).toNatClampNeg x2), s2.2.1, ())) fun x3 s3 => (if x3 = 0 ∨ x3 = 1 then some (some (aI x3), (s3.1, s3.2.1, ())) else none))))) = some r → K_X4_readDay X (g + 1) 1 (I, L, ()) = some r := fun r hr => by
    refine K_X4_readDay.e X g 1 I L r ?_
    rw [a1', a_bi_i]
    exact hr
  unfold pDa
  generalize nmS b n 0 6 (ndS b n 25 (.inr T)) = r1 at a1' a3' st1 hle1 ⊢
  obtain ⟨c, s1⟩ := r1
  cases s1 with
  | inl f =>
    refine ⟨J1, st1 _ ?_, FrC.of a2, a3', fun z => by cases z⟩
    rw [if_pos (show vN (c, .inl f) = -1 from rfl)]; rfl
  | inr T1 =>
    have hc : c ≤ 6 := (hle1 rfl).2
    have t1 : TB J1 n b := hT.fm a2 (by decide) (by decide)
    rw [if_neg (show ¬ vN (c, .inr T1) = -1 from fun z => (n_neN (a := c) (by omega)).mp z)] at st1
    simp only at st1 ⊢
    obtain ⟨J2, b1, b2, b3⟩ := c_readAfter (X := X) (d := g) (L := L) (q := 26) (lo := 0) (hi := 100) t1 a3' (by decide) (by decide) (by decide) (by omega)
    have b1' : K_X4_readAfter X g 26 (0 : Int32) (100 : Int32) (J1, L, ()) = some (some (aI (vN (toS b n 26 0 100 (.inr T1)))), (J2, L, ())) := b1
    rw [b1', a_bi_i] at st1
    have hle2 := toS_le (b := b) (n := n) (q := 26) (lo := 0) (hi := 100) (s := .inr T1)
    generalize toS b n 26 0 100 (.inr T1) = r2 at b1 b1' b3 st1 hle2 ⊢
    obtain ⟨p, s2⟩ := r2
    have F2 : Fm [3, 4] I J2 := a2.trans b2
    cases s2 with
    | inl f =>
      refine ⟨J2, st1 _ ?_, FrC.of F2, b3, fun z => by cases z⟩
      rw [if_pos (show vN (p, .inl f) = -1 from rfl)]; rfl
    | inr T2 =>
      have hp : p ≤ 100 := (hle2 rfl).2
      rw [if_neg (show ¬ vN (p, .inr T2) = -1 from fun z => (n_neN (a := p) (by omega)).mp z), if_neg (show ¬ aout (vN (c, .inr T1)) 7 by show ¬ aout (nI c) 7; rw [n_out (by omega)]; omega)] at st1
      have FK : FrC I (up3 J2 10 1 c (nI p)) := (FrC.of F2).up (by decide) (by decide)
      obtain ⟨M, m1, m2, m3⟩ := c_readSign (X := X) (d := g) (L := L) (hT.frc FK) (b3.up1 (by decide)) (by omega)
      refine ⟨M, st1 _ ?_, FK.trans (FrC.of m2), m3, fun _ => ((hQ.f34 F2).upD (by omega)).f34 m2⟩
      dsimp +instances only
      rw [show (vN (c, .inr T1)).toNatClampNeg = c from n_toN (by omega), show vN (p, .inr T2) = nI p from rfl, m1, a_bi_i]
      exact bool_val
end
