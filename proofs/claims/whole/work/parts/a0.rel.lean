/-! both objects told alike -/
abbrev CE : Type := Nat → Nat × Nat × Nat
/-- changes as the class keeps them, as the reference does -/
def CC (g : Nat → Int32) (e : CE) (n : Nat) : Prop := ∀ k, k < n → g (k * 3) = nI (e k).1 ∧ g (k * 3 + 1) = nI (e k).2.1 ∧ g (k * 3 + 2) = nI (e k).2.2
def CM (g : Nat → Int32) (e : CE) (n : Nat) : Prop := ∀ k, k < n → if (e k).1 = 3 then g (85 + 4 * k) = nI (33 + 5 * (e k).2.1) ∧ g (85 + 4 * k + 1) = nI ((e k).2.2 / 2) ∧ g (85 + 4 * k + 2) = nI (34 + 5 * (e k).2.1) ∧ g (85 + 4 * k + 3) = nI ((e k).2.2 % 2) else g (85 + 4 * k) = nI (9 + 3 * (e k).2.1 + (e k).1) ∧ g (85 + 4 * k + 1) = nI (e k).2.2 ∧ g (85 + 4 * k + 2) = nN
def Ve (w : TW) (e : CE) : Prop := ∀ k, k < w 8 → ((e k).1 = 3 ∧ (e k).2.1 < w 5 ∧ (e k).2.2 < 2 * w 0) ∨ ((e k).1 < 3 ∧ (e k).2.1 < w 0 ∧ (e k).2.2 ≤ (if (e k).1 = 0 then 99 else 1))
/-- a train of the class, a row of the reference's -/
def TQ (I : A3 Int32) (q : Nat) (w : TW) (e : CE) : Prop := ((∀ j, j < 8 → I 6 q j = nI (w j)) ∧ (∀ j, j < 24 → I 7 q j = nI (w (9 + j))) ∧ (∀ j, j < 15 → I 8 q j = nI (w (33 + j))) ∧ (∀ j, j < 30 → I 9 q j = nI (w (48 + j))) ∧ (∀ j, j < 7 → I 10 q j = nI (w (78 + j)))) ∧ I 5 q 6 = nI (w 8) ∧ CC (I 11 q) e (w 8)
def MRo (g : Nat → Int32) (w : TW) (e : CE) : Prop := (∀ j, j < 85 → g j = nI (w j)) ∧ CM g e (w 8)
abbrev TI : Type := Nat → Option (TW × CE)
def IM (I : A3 Int32) (im : TI) : Prop := ∀ k, k < 3 → match im k with
  | none => I 5 (k + 2) 7 = nI 0 ∧ I 43 0 k = nI 0
  | some (w, e) => I 5 (k + 2) 7 = nI 1 ∧ I 43 0 k = nI 1 ∧ TQ I (k + 2) w e ∧ MRo (fun j => I 42 0 (325 * k + j)) w e ∧ Vw w ∧ Ve w e
def TT (I : A3 Int32) (n : Nat) (b : Nat → Int8) : Prop := n ≤ 1200 ∧ I 1 0 1 = nI n ∧ I 40 0 5 = nI n ∧ ∀ j, j < n → I 2 0 j = (b j).toInt32 ∧ I 44 0 j = (b j).toInt32
def FL (I : A3 Int32) : Prop := I 40 0 12 = I 3 0 1 ∧ I 40 0 13 = I 3 0 2
def RB (I : A3 Int32) (L : A3 Int64) (w : TW) (e : CE) (im : TI) (n : Nat) (b : Nat → Int8) (t : TS) : Prop := TQ I 0 w e ∧ MRo (I 41 0) w e ∧ Vw w ∧ Ve w e ∧ IM I im ∧ TT I n b ∧ FL I ∧ SC I L t ∧ SM I L t ∧ Vt t
def Rel (I : A3 Int32) (L : A3 Int64) : Prop := ∃ w e im n b t, RB I L w e im n b t ∧ HI I w
def Good (KC KM : AU → ARes Unit) (I : A3 Int32) (L : A3 Int64) : Prop := ∃ x I' L' J L'', KC (I, L, ()) = some (some (aI x), (I', L', ())) ∧ KM (I', L', ()) = some (some (aI x), (J, L'', ())) ∧ Rel J L''
section
variable {X : AX} {d : Nat} {I J : A3 Int32} {L L' : A3 Int64} {w : TW} {e : CE} {im : TI} {n : Nat} {b : Nat → Int8} {t : TS}
theorem TQ.fams {q : Nat} (h : TQ I q w e) (hf : ∀ f, 5 ≤ f → f ≤ 11 → J f q = I f q) : TQ J q w e := by
  unfold TQ
  rw [hf 5 (by decide) (by decide), hf 6 (by decide) (by decide), hf 7 (by decide) (by decide), hf 8 (by decide) (by decide), hf 9 (by decide) (by decide), hf 10 (by decide) (by decide), hf 11 (by decide) (by decide)]
  exact h
theorem IM.fams (h : IM I im) (hf : ∀ f q, 5 ≤ f → f ≤ 11 → 2 ≤ q → J f q = I f q) (h42 : J 42 = I 42) (h43 : J 43 = I 43) : IM J im := by
  intro k hk
  have := h k hk
  cases hi : im k with
  | none =>
    rw [hi] at this
    show J 5 (k + 2) 7 = nI 0 ∧ J 43 0 k = nI 0
    rw [hf 5 (k + 2) (by decide) (by decide) (by omega), h43]; exact this
  | some p =>
    obtain ⟨w', e'⟩ := p
    rw [hi] at this
    obtain ⟨a1, a2, a3, a4, a5⟩ := this
    show J 5 (k + 2) 7 = nI 1 ∧ J 43 0 k = nI 1 ∧ TQ J (k + 2) w' e' ∧ MRo (fun j => J 42 0 (325 * k + j)) w' e' ∧ Vw w' ∧ Ve w' e'
    refine ⟨by rw [hf 5 (k + 2) (by decide) (by decide) (by omega)]; exact a1, by rw [h43]; exact a2, a3.fams (fun f h1 h2 => hf f (k + 2) h1 h2 (by omega)), by rw [h42]; exact a4, a5⟩
theorem TT.fams (h : TT I n b) (h1 : J 1 = I 1) (h2 : J 2 = I 2) (h44 : J 44 = I 44) (h40 : J 40 0 5 = I 40 0 5) : TT J n b := by
  unfold TT
  rw [h1, h2, h44, h40]; exact h
theorem RB.tc (h : RB I L w e im n b t) : TC I w := h.1.1
theorem RB.tm (h : RB I L w e im n b t) : TM I w := h.2.1.1
theorem RB.vw (h : RB I L w e im n b t) : Vw w := h.2.2.1
/-- cells that last -/
def KPL : List Nat := [1, 2, 3, 5, 6, 7, 8, 9, 10, 11, 32, 41, 42, 43, 44, 59, 60]
theorem RB.re (h : RB I L w e im n b t) (hf : ∀ f, f ∈ KPL → J f = I f) (h40 : ∀ j, (j = 5 ∨ j = 12 ∨ j = 13) → J 40 0 j = I 40 0 j) (h33 : L' 33 = L 33) (h61 : L' 61 = L 61) : RB J L' w e im n b t := by
  obtain ⟨a1, a2, a3, a4, a5, a6, a7, a8, a9, a10⟩ := h
  have hk : ∀ f, 5 ≤ f → f ≤ 11 → J f = I f := fun f h1 h2 => hf f (by
    rcases (show f = 5 ∨ f = 6 ∨ f = 7 ∨ f = 8 ∨ f = 9 ∨ f = 10 ∨ f = 11 by omega) with rfl | rfl | rfl | rfl | rfl | rfl | rfl <;> decide)
  refine ⟨a1.fams (fun f h1 h2 => by rw [hk f h1 h2]), by rw [hf 41 (by decide)]; exact a2, a3, a4, a5.fams (fun f q h1 h2 _ => by rw [hk f h1 h2]) (hf 42 (by decide)) (hf 43 (by decide)), a6.fams (hf 1 (by decide)) (hf 2 (by decide)) (hf 44 (by decide)) (h40 5 (by decide)), ?_, ?_, ?_, a10⟩
  · unfold FL
    rw [h40 12 (by decide), h40 13 (by decide), hf 3 (by decide)]; exact a7
  · unfold SC
    rw [hf 32 (by decide), h33]; exact a8
  · unfold SM
    rw [hf 59 (by decide), hf 60 (by decide), h61]; exact a9
theorem RB.fmh (h : RB I L w e im n b t) (hF : Fm SHL I J) (hL : ∀ f, f ≠ 31 → L' f = L f) : RB J L' w e im n b t :=
  h.re (fun f hf => hF f (by revert f; decide)) (fun j _ => by rw [hF 40 (by decide)]) (hL 33 (by decide)) (hL 61 (by decide))
theorem RB.sm (h : RB I L w e im n b t) (hS : Sm I J) : RB J L w e im n b t :=
  h.re (fun f hf => hS.1 f (by revert f; decide)) hS.2 rfl rfl
theorem HI.fams (h : HI I w) (h28 : J 28 = I 28) (h30 : J 30 = I 30) : HI J w := by
  unfold HI PK
  rw [h28, h30]; exact h
theorem good_both {KC KM : AU → ARes Unit} (h : RB I L w e im n b t) (hh : HI I w) (hB : Both w KC KM I L) : Good KC KM I L := by
  obtain ⟨x, I', L', h1, h2, h3, h4⟩ := hB
  have r1 : RB I' L' w e im n b t := h.fmh (h2.mono (by decide)) h3
  obtain ⟨J, j1, j2⟩ := h4 I' L' r1.tm
  have hh1 : HI I' w := hh.fams (h2 28 (by decide)) (h2 30 (by decide))
  exact ⟨x, I', L', J, L', h1, j1, w, e, im, n, b, t, r1.sm j2, hh1.fams (j2.1 28 (by decide)) (j2.1 30 (by decide))⟩
theorem good_bothS {KC KM : AU → ARes Unit} (h : RB I L w e im n b t) (hh : HI I w) (hB : BothS w t KC KM I L) : Good KC KM I L := by
  obtain ⟨x, I', h1, h2, h4⟩ := hB
  have r1 : RB I' L w e im n b t := h.fmh (h2.mono (by decide)) (fun _ _ => rfl)
  obtain ⟨J, j1, j2⟩ := h4 I' L r1.tm r1.2.2.2.2.2.2.2.2.1
  have hh1 : HI I' w := hh.fams (h2 28 (by decide)) (h2 30 (by decide))
  exact ⟨x, I', L, J, L, h1, j1, w, e, im, n, b, t, r1.sm j2, hh1.fams (j2.1 28 (by decide)) (j2.1 30 (by decide))⟩
theorem good_bothH {KC KM : AU → ARes Unit} (h : RB I L w e im n b t) (hB : BothH w KC KM I L) : Good KC KM I L := by
  obtain ⟨x, I', h1, h2, h3, h4⟩ := hB
  have r1 : RB I' L w e im n b t := h.fmh h2 (fun _ _ => rfl)
  obtain ⟨J, j1, j2⟩ := h4 I' L r1.tm
  exact ⟨x, I', L, J, L, h1, j1, w, e, im, n, b, t, r1.sm j2, h3.fams (j2.1 28 (by decide)) (j2.1 30 (by decide))⟩
theorem good_pure {KC KM : AU → ARes Unit} (hR : Rel I L) (x : Int32) (h1 : KC (I, L, ()) = some (some (aI x), (I, L, ()))) (h2 : KM (I, L, ()) = some (some (aI x), (I, L, ()))) : Good KC KM I L := ⟨x, I, L, I, L, h1, h2, hR⟩
end
