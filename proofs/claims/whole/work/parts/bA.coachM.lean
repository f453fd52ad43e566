/-! the reference's coach, whole -/
section
variable {X : AX} {d : Nat} {I J : A3 Int32} {L : A3 Int64} {b : Nat → Int8} {n : Nat} {w : TW} {s : PS}
def pCoM (b : Nat → Int8) (n : Nat) (w : TW) (s : PS) : PS × TW := match nmS b n 0 (w 0 - 1) s with
  | (_, .inl f) => (.inl f, w)
  | (c, .inr T1) => match toS b n 7 0 99 (.inr T1) with
    | (_, .inl f) => (.inl f, w)
    | (p, .inr T2) => (fnS (cm1 b n (cm1 b n (false, false, T2))).2.2, wC w c p (cm1 b n (cm1 b n (false, false, T2))).1 (cm1 b n (cm1 b n (false, false, T2))).2.1)
theorem sg_fn {T : TK} : sgS b n (fnS T) = sgS b n (.inr T) := by
  unfold fnS
  by_cases t3 : T.1 = 3
  · rw [if_pos t3]
  · rw [if_neg t3]
    show (Sum.inl (1, T.2.1) : PS) = (if T.1 = 3 then Sum.inr (nx b n T) else Sum.inl (1, T.2.1))
    rw [if_neg t3]
theorem pCo_eq {T : TK} : pCo b n w T = (sgS b n (pCoM b n w (ndS b n 6 (.inr T))).1, (pCoM b n w (ndS b n 6 (.inr T))).2) := by
  unfold pCo pCoM
  rw [show toS b n 6 0 (w 0 - 1) (.inr T) = nmS b n 0 (w 0 - 1) (ndS b n 6 (.inr T)) from rfl]
  generalize nmS b n 0 (w 0 - 1) (ndS b n 6 (.inr T)) = r1
  obtain ⟨c, s1⟩ := r1
  cases s1 with
  | inl f => rfl
  | inr T1 =>
    simp only
    generalize toS b n 7 0 99 (.inr T1) = r2
    obtain ⟨p, s2⟩ := r2
    cases s2 with
    | inl f => rfl
    | inr T2 => simp only [sg_fn]
theorem wr3_q {c p : Nat} {l k : Bool} (h : FQ I w) : FQ (wr3 I c p l k) (wC w c p l k) := by
  unfold wr3 wC
  rw [show 9 + (c * 3 + 0) = 9 + 3 * c + 0 by omega, show 9 + (c * 3 + 1) = 9 + 3 * c + 1 by omega, show 9 + (c * 3 + 2) = 9 + 3 * c + 2 by omega]
  exact ((h.up).up).up
theorem m_coachL (hM : MB I n b) (h : RSt b n I s) (hQ : FQ I w) (w0 : 2 ≤ w 0 ∧ w 0 ≤ 8) (hd : 10 ≤ d) : ∃ J, K_X11_readCoach X d (I, L, ()) = some (none, (J, L, ())) ∧ R46 I J ∧ RSt b n J (pCoM b n w s).1 ∧ (gd (pCoM b n w s).1 = true → FQ J (pCoM b n w s).2) := by
  obtain ⟨g, rfl⟩ : ∃ g, d = g + 1 := ⟨d - 1, by omega⟩
  obtain ⟨J1, a1, a2, a3⟩ := m_freshCoach (X := X) (d := g) (L := L) hM h (hQ 0 (by decide)) w0 (by omega)
  have hle := nmS_le (b := b) (n := n) (lo := 0) (hi := w 0 - 1) (s := s)
  unfold pCoM
  generalize nmS b n 0 (w 0 - 1) s = r1 at a1 a3 hle ⊢
  obtain ⟨c, s1⟩ := r1
  obtain ⟨J2, b1, b2, b3⟩ := m_told (X := X) (d := g) (L := L) (q := 7) (lo := 0) (hi := 99) (hM.r6 a2) a3 (by decide) (by decide) (by decide) (by omega)
  have b1' : K_X11_told X g 7 (0 : Int32) (99 : Int32) (J1, L, ()) = some (some (aI (nI (toS b n 7 0 99 s1).1)), (J2, L, ())) := b1
  have st : ∀ r, v_X11_readCoach_20 X g (nI c) (nI (toS b n 7 0 99 s1).1) (bI false) (bI false) (J2, L, ()) = some r → K_X11_readCoach X (g + 1) (I, L, ()) = some r := fun r hr => by
    refine K_X11_readCoach.e X g I L r ?_
    rw [a1, a_bi_i]
    dsimp +instances only
    rw [b1', a_bi_i]
    exact hr
  cases s1 with
  | inl f => exact ⟨J2, st _ (m_cbad b3 (by omega)), (a2.trans b2).r46, b3, fun z => by cases z⟩
  | inr T1 =>
    have hc : c ≤ w 0 - 1 := (hle rfl).2
    simp only
    generalize toS b n 7 0 99 (.inr T1) = r2 at b1 b1' b3 st ⊢
    obtain ⟨p, s2⟩ := r2
    cases s2 with
    | inl f => exact ⟨J2, st _ (m_cbad b3 (by omega)), (a2.trans b2).r46, b3, fun z => by cases z⟩
    | inr T2 =>
      obtain ⟨K, k1, k2, k3⟩ := m_cmarks (X := X) (d := g) (L := L) (c := c) (p := p) ((hM.r6 a2).r6 b2) b3 (by omega) (by omega)
      have R3 : R6 I K := (a2.trans b2).trans k1
      refine ⟨_, st _ k3, ?_, ?_, fun hg => ?_⟩
      · split
        · unfold wr3; exact ((R3.r46.up).up).up
        · exact R3.r46
      · split
        · unfold wr3; exact ((k2.up46).up46).up46
        · exact k2
      · have t3 : (cm1 b n (cm1 b n (false, false, T2))).2.2.1 = 3 := by
          simp only at hg
          unfold fnS at hg
          split at hg
          · assumption
          · cases hg
        rw [if_pos t3]
        exact wr3_q (hQ.r6 R3)
end
