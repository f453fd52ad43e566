/-! the class's reader, word by word -/
section
variable {X : AX} {d : Nat} {I J : A3 Int32} {L : A3 Int64} {b : Nat → Int8} {n : Nat}
def CPt (b : Nat → Int8) (n : Nat) (I : A3 Int32) (s : PS) : Prop := match s with
  | .inl (k, p) => I 3 0 1 = nI k ∧ (1 ≤ k ∧ k ≤ 3) ∧ I 3 0 2 = nI p
  | .inr T => I 3 0 1 = nI 0 ∧ I 3 0 2 = nN ∧ CT I T ∧ TO b n T
theorem CPt.fm {s : PS} {l : List Nat} (h : CPt b n I s) (hF : Fm l I J) (h3 : 3 ∉ l) (h4 : 4 ∉ l) : CPt b n J s := by
  cases s with
  | inl f =>
    obtain ⟨k, p⟩ := f
    show J 3 0 1 = nI k ∧ (1 ≤ k ∧ k ≤ 3) ∧ J 3 0 2 = nI p
    rw [hF 3 h3]; exact h
  | inr T =>
    show J 3 0 1 = nI 0 ∧ J 3 0 2 = nN ∧ CT J T ∧ TO b n T
    unfold CT
    rw [hF 3 h3, hF 4 h4]; exact h
theorem c_refuse {T : TK} {k : Nat} (h : CPt b n I (.inr T)) (hk : 1 ≤ k ∧ k ≤ 3) (hd : 1 ≤ d) : ∃ J, K_X4_refuse X d (nI k) (I, L, ()) = some (some (aI (bI false)), (J, L, ())) ∧ Fm [3, 4] I J ∧ CPt b n J (.inl (k, T.2.1)) := by
  obtain ⟨g, rfl⟩ : ∃ g, d = g + 1 := ⟨d - 1, by omega⟩
  obtain ⟨-, -, ⟨c1, c2, -⟩, -⟩ := h
  refine ⟨up3 (up3 I 3 0 1 (nI k)) 3 0 2 (nI T.2.1), K_X4_refuse.e X g _ I L _ ?_, (Fm.refl.up (by decide)).up (by decide), by rw [u3_j _ _ (by decide), u3_eq], hk, u3_eq _ _ _ _ _⟩
  rw [u3_f _ _ (show 4 ≠ 3 by decide), c2]
  rfl
theorem c_advS {T : TK} (hT : TB I n b) (h : CPt b n I (.inr T)) (hd : 2 ≤ d) : ∃ J, K_X8_advance X d (I, L, ()) = some (none, (J, L, ())) ∧ Fm [3, 4] I J ∧ CPt b n J (.inr (nx b n T)) := by
  obtain ⟨h1, h2, ⟨c1, c2, c3, c4⟩, hO⟩ := h
  obtain ⟨J, j1, j2, j3⟩ := c_advance (X := X) (d := d) (L := L) hT hO.ok.2.1 c3 hd
  exact ⟨J, j1, j2.mono (by decide), by rw [j2 3 (by decide)]; exact h1, by rw [j2 3 (by decide)]; exact h2, j3, hO.nx⟩
theorem c_isS {T : TK} {q : Nat} (hT : TB I n b) (h : CPt b n I (.inr T)) (hq : q < 27) (hd : 6 ≤ d) : K_X8_is X d q (I, L, ()) = some (some (aI (bI (isB b T q))), (I, L, ())) := c_is hT h.2.2.1 h.2.2.2 hq hd
theorem c_readWord {T : TK} {q : Nat} (hT : TB I n b) (h : CPt b n I (.inr T)) (hq : q < 27) (hd : 7 ≤ d) : ∃ J, K_X4_readWord X d q (I, L, ()) = some (some (aI (bI (gd (ndS b n q (.inr T))))), (J, L, ())) ∧ Fm [3, 4] I J ∧ CPt b n J (ndS b n q (.inr T)) := by
  obtain ⟨g, rfl⟩ : ∃ g, d = g + 1 := ⟨d - 1, by omega⟩
  have e1 := c_isS (X := X) (d := g) (L := L) hT h hq (by omega)
  show ∃ J, K_X4_readWord X (g + 1) q (I, L, ()) = some (some (aI (bI (gd (if isB b T q = true then .inr (nx b n T) else .inl (1, T.2.1))))), (J, L, ())) ∧ Fm [3, 4] I J ∧ CPt b n J (if isB b T q = true then .inr (nx b n T) else .inl (1, T.2.1))
  cases hb : isB b T q with
  | true =>
    rw [hb] at e1
    obtain ⟨J, j1, j2, j3⟩ := c_advS (X := X) (d := g) (L := L) hT h (by omega)
    refine ⟨J, K_X4_readWord.e X g q I L _ ?_, j2, j3⟩
    rw [e1, a_bi_i, if_neg bne1]
    dsimp +instances only
    rw [j1, a_bv_n]
    rfl
  | false =>
    rw [hb] at e1
    obtain ⟨J, j1, j2, j3⟩ := c_refuse (X := X) (d := g) (L := L) (k := 1) h (by decide) (by omega)
    have j1' : K_X4_refuse X g (1 : Int32) (I, L, ()) = some (some (aI (bI false)), (J, L, ())) := j1
    refine ⟨J, K_X4_readWord.e X g q I L _ ?_, j2, j3⟩
    rw [e1, a_bi_i, if_pos beq0]
    dsimp +instances only
    rw [j1', a_bi_i, if_pos (show bI false = 0 ∨ bI false = 1 from Or.inl rfl)]
    rfl
/-- a number that a reader gives, or none -/
def vN (p : Nat × PS) : Int32 := if gd p.2 = true then nI p.1 else nN
theorem c_readAfter {T : TK} {q lo hi : Nat} (hT : TB I n b) (h : CPt b n I (.inr T)) (hq : q < 27) (h1 : lo < 1000) (h2 : hi < 1000) (hd : 8 ≤ d) : ∃ J, K_X4_readAfter X d q (nI lo) (nI hi) (I, L, ()) = some (some (aI (vN (toS b n q lo hi (.inr T)))), (J, L, ())) ∧ Fm [3, 4] I J ∧ CPt b n J (toS b n q lo hi (.inr T)).2 := by
  obtain ⟨g, rfl⟩ : ∃ g, d = g + 1 := ⟨d - 1, by omega⟩
  obtain ⟨J, j1, j2, j3⟩ := c_readWord (X := X) (d := g) (L := L) hT h hq (by omega)
  unfold toS
  cases hs : ndS b n q (.inr T) with
  | inl f =>
    rw [hs] at j1 j3
    refine ⟨J, K_X4_readAfter.e X g q _ _ I L _ ?_, j2, j3⟩
    rw [j1, a_bi_i, if_pos (show bI (gd (.inl f)) = 0 from rfl)]
    rfl
  | inr T' =>
    rw [hs] at j1 j3
    have tJ : TB J n b := hT.fm j2 (by decide) (by decide)
    obtain ⟨-, -, ⟨c1, c2, c3, c, c4, hc⟩, hO⟩ := id j3
    obtain ⟨o1, o2, o3, o4, o5⟩ := hO.ok
    unfold nmS
    by_cases t2 : T'.1 = 2
    · simp only [t2, if_true]
      by_cases hr : lo ≤ T'.2.2.2 ∧ T'.2.2.2 ≤ hi
      · have hcv : c = T'.2.2.2 := by unfold CN at hc; omega
        obtain ⟨K, k1, k2, k3⟩ := c_advS (X := X) (d := g) (L := L) tJ j3 (by omega)
        simp only [hr, and_self, if_true]
        refine ⟨K, K_X4_readAfter.e X g q _ _ I L _ ?_, j2.trans k2, k3⟩
        rw [j1, a_bi_i, if_neg (show ¬ bI (gd (.inr T')) = 0 from bne1)]
        dsimp +instances only
        rw [c1, t2, if_pos (show nI 2 = 2 from rfl), c4, hcv, if_neg (fun z => by have := (n_lt (by omega) (by omega)).mp z; omega), if_neg (fun z => by have := (n_lt (by omega) (by omega)).mp z; omega), k1, a_bv_n]
        rfl
      · obtain ⟨K, k1, k2, k3⟩ := c_refuse (X := X) (d := g) (L := L) (k := 2) j3 (by decide) (by omega)
        have k1' : K_X4_refuse X g (2 : Int32) (J, L, ()) = some (some (aI (bI false)), (K, L, ())) := k1
        rw [if_neg hr]
        refine ⟨K, K_X4_readAfter.e X g q _ _ I L _ ?_, j2.trans k2, k3⟩
        rw [j1, a_bi_i, if_neg (show ¬ bI (gd (.inr T')) = 0 from bne1)]
        dsimp +instances only
        have cl : c < 100000000 := hc.1
        rw [c1, t2, if_pos (show nI 2 = 2 from rfl), c4]
        by_cases q1 : c < lo
        · rw [if_pos ((n_lt (by omega) (by omega)).mpr q1), k1', a_bi_i]; rfl
        · have q2 : hi < c := by unfold CN at hc; omega
          rw [if_neg (fun z => q1 ((n_lt (by omega) (by omega)).mp z)), if_pos ((n_lt (by omega) (by omega)).mpr q2), k1', a_bi_i]; rfl
    · obtain ⟨K, k1, k2, k3⟩ := c_refuse (X := X) (d := g) (L := L) (k := 1) j3 (by decide) (by omega)
      have k1' : K_X4_refuse X g (1 : Int32) (J, L, ()) = some (some (aI (bI false)), (K, L, ())) := k1
      simp only [t2, if_false]
      refine ⟨K, K_X4_readAfter.e X g q _ _ I L _ ?_, j2.trans k2, k3⟩
      rw [j1, a_bi_i, if_neg (show ¬ bI (gd (.inr T')) = 0 from bne1)]
      dsimp +instances only
      rw [c1, if_neg (show ¬ nI T'.1 = 2 from fun z => t2 ((n_eq (b := 2) (by omega) (by decide)).mp z)), k1', a_bi_i]
      rfl
theorem c_readSign {T : TK} (hT : TB I n b) (h : CPt b n I (.inr T)) (hd : 3 ≤ d) : ∃ J, K_X4_readSign X d (I, L, ()) = some (some (aI (bI (gd (sgS b n (.inr T))))), (J, L, ())) ∧ Fm [3, 4] I J ∧ CPt b n J (sgS b n (.inr T)) := by
  obtain ⟨g, rfl⟩ : ∃ g, d = g + 1 := ⟨d - 1, by omega⟩
  obtain ⟨-, -, ⟨c1, c2, c3, -⟩, hO⟩ := id h
  obtain ⟨o1, o2, o3, o4, o5⟩ := hO.ok
  unfold sgS
  by_cases t3 : T.1 = 3
  · obtain ⟨J, j1, j2, j3⟩ := c_advS (X := X) (d := g) (L := L) hT h (by omega)
    simp only [t3, if_true]
    refine ⟨J, K_X4_readSign.e X g I L _ ?_, j2, j3⟩
    rw [c1, t3, if_pos (show nI 3 = 3 from rfl), j1, a_bv_n]
    rfl
  · obtain ⟨J, j1, j2, j3⟩ := c_refuse (X := X) (d := g) (L := L) (k := 1) h (by decide) (by omega)
    have j1' : K_X4_refuse X g (1 : Int32) (I, L, ()) = some (some (aI (bI false)), (J, L, ())) := j1
    simp only [t3, if_false]
    refine ⟨J, K_X4_readSign.e X g I L _ ?_, j2, j3⟩
    rw [c1, if_neg (show ¬ nI T.1 = 3 from fun z => t3 ((n_eq (b := 3) (by omega) (by decide)).mp z)), j1', a_bi_i, if_pos (show bI false = 0 ∨ bI false = 1 from Or.inl rfl)]
    rfl
theorem c_readChoice {T : TK} {k : Nat} (hT : TB I n b) (h : CPt b n I (.inr T)) (hk : k < 1000) (hd : 3 ≤ d) : ∃ J, K_X4_readChoice X d (nI k) (I, L, ()) = some (some (aI (nI k)), (J, L, ())) ∧ Fm [3, 4] I J ∧ CPt b n J (.inr (nx b n T)) := by
  obtain ⟨g, rfl⟩ : ∃ g, d = g + 1 := ⟨d - 1, by omega⟩
  obtain ⟨J, j1, j2, j3⟩ := c_advS (X := X) (d := g) (L := L) hT h (by omega)
  refine ⟨J, K_X4_readChoice.e X g _ I L _ ?_, j2, j3⟩
  rw [if_neg (show ¬ nI k = -1 from fun z => (n_neN (by omega)).mp z), j1, a_bv_n]
theorem c_noChoice {T : TK} (h : CPt b n I (.inr T)) (hd : 2 ≤ d) : ∃ J, K_X4_readChoice X d nN (I, L, ()) = some (some (aI nN), (J, L, ())) ∧ Fm [3, 4] I J ∧ CPt b n J (.inl (1, T.2.1)) := by
  obtain ⟨g, rfl⟩ : ∃ g, d = g + 1 := ⟨d - 1, by omega⟩
  obtain ⟨J, j1, j2, j3⟩ := c_refuse (X := X) (d := g) (L := L) (k := 1) h (by decide) (by omega)
  have j1' : K_X4_refuse X g (1 : Int32) (I, L, ()) = some (some (aI (bI false)), (J, L, ())) := j1
  refine ⟨J, K_X4_readChoice.e X g _ I L _ ?_, j2, j3⟩
  rw [if_pos (show nN = -1 from rfl), j1', a_bi_i]
end
