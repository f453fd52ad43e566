/-! the reference reads an inspector -/
theorem wup_wup (w : TW) (c z z' : Nat) : wup (wup w c z) c z' = wup w c z' := by
  funext j; unfold wup; split <;> rfl
theorem wup_comm (w : TW) {c c' : Nat} (z z' : Nat) (h : c ≠ c') : wup (wup w c z) c' z' = wup (wup w c' z') c z := by
  funext j
  unfold wup
  by_cases h1 : j = c'
  · subst h1
    have : ¬ j = c := fun q => h q.symm
    simp [this]
  · simp [h1]
def fnP (s : PS) : PS := match s with
  | .inl f => .inl f
  | .inr T => fnS T
section
variable {X : AX} {d : Nat} {I J : A3 Int32} {L : A3 Int64} {b : Nat → Int8} {n : Nat} {w : TW} {s : PS}
theorem sg_fnP : sgS b n (fnP s) = sgS b n s := by
  cases s with
  | inl f => rfl
  | inr T => exact sg_fn
def iW (w : TW) (k : Nat) (kn : Option Nat) (t : Bool) : TW := wup (wup w (k + 3) (kn.getD 0)) (k + 4) t.toNat
theorem iW_t {k : Nat} {kn : Option Nat} {t : Bool} : wup (iW w k kn t) (k + 4) 1 = iW w k kn true := wup_wup _ _ _ _
theorem iW_k {k v : Nat} {kn : Option Nat} {t : Bool} : wup (iW w k kn t) (k + 3) v = iW w k (some v) t := by
  unfold iW
  rw [wup_comm _ _ _ (show k + 4 ≠ k + 3 by omega), wup_wup]
  rfl
theorem m_istop {k : Nat} {c : Int32} (h : RSt b n I s) (hs : moS s = false) (hd : 2 ≤ d) : v_X11_readInspector_101 X d (nI k) c (I, L, ()) = some (none, (up3 I 46 0 5 (I 46 0 5 + 1), L, ())) := by
  refine v_X11_readInspector_101.e X d _ _ I L _ ?_
  have e1 := m_more (X := X) (d := d) (L := L) h hd
  rw [hs] at e1
  rw [e1, a_bi_i, if_pos beq0]
/-- what an inspector's marks come to -/
def IEnd (X : AX) (d : Nat) (L : A3 Int64) (b : Nat → Int8) (n : Nat) (I : A3 Int32) (w : TW) (k : Nat) (kf : Bool) (x : Option Nat × Bool × PS) : Prop := ∃ J, R46 I J ∧ RSt b n J (fnP x.2.2) ∧ v_X11_readInspector_101 X d (nI k) (bI kf) (I, L, ()) = some (none, (up3 J 46 0 5 (J 46 0 5 + 1), L, ())) ∧ (gd (fnP x.2.2) = true → FQ J (iW w k x.1 x.2.1))
theorem IEnd.bad {k : Nat} {kf : Bool} {kn : Option Nat} {t : Bool} {f : Nat × Nat} (h : RSt b n I (.inl f)) (hd : 2 ≤ d) : IEnd X d L b n I w k kf (kn, t, .inl f) := ⟨I, R46.refl, h, m_istop h rfl hd, fun z => by cases z⟩
theorem t_no {q : Nat} {T : TK} (hM : MB I n b) (h : RSt b n I (.inr T)) (hq : q < 27) (hb : isB b T q = false) (hd : 7 ≤ d) : ∃ J, K_X11_takes X d q (I, L, ()) = some (some (aI (bI false)), (J, L, ())) ∧ R6 I J ∧ RSt b n J (.inr T) := by
  obtain ⟨J, j1, j2, j3⟩ := m_takes (X := X) (d := d) (L := L) hM h hq hd
  have j1' : K_X11_takes X d q (I, L, ()) = some (some (aI (bI (isB b T q))), (J, L, ())) := j1
  have j3' : RSt b n J (if isB b T q = true then .inr (nx b n T) else .inr T) := j3
  rw [hb] at j1' j3'
  exact ⟨J, j1', j2, j3'⟩
theorem t_yes {q : Nat} {T : TK} (hM : MB I n b) (h : RSt b n I (.inr T)) (hq : q < 27) (hb : isB b T q = true) (hd : 7 ≤ d) : ∃ J, K_X11_takes X d q (I, L, ()) = some (some (aI (bI true)), (J, L, ())) ∧ R6 I J ∧ RSt b n J (.inr (nx b n T)) := by
  obtain ⟨J, j1, j2, j3⟩ := m_takes (X := X) (d := d) (L := L) hM h hq hd
  have j1' : K_X11_takes X d q (I, L, ()) = some (some (aI (bI (isB b T q))), (J, L, ())) := j1
  have j3' : RSt b n J (if isB b T q = true then .inr (nx b n T) else .inr T) := j3
  rw [hb] at j1'
  rw [if_pos hb] at j3'
  exact ⟨J, j1', j2, j3'⟩
theorem isB_ne3 {T : TK} {q : Nat} (hb : isB b T q = true) : moS (.inr T) = true := by
  refine decide_eq_true (fun z => ?_)
  unfold isB at hb
  rw [z] at hb
  simp at hb
theorem cell4 {k : Nat} {kn : Option Nat} {t : Bool} (hQ : FQ I (iW w k kn t)) (hk : k + 4 < 85) : I 46 0 (nI k + 4).toNatClampNeg = bI t := by
  rw [show nI k + 4 = nI (k + 4) from n_add k 4, n_toN (show k + 4 < 2147483648 by omega), hQ _ hk]
  unfold iW
  rw [wup_eq]; rfl
theorem IEnd.no {k : Nat} {kn : Option Nat} {t : Bool} {T : TK} (hM : MB I n b) (h : RSt b n I (.inr T)) (hQ : FQ I (iW w k kn t)) (hk : k + 4 < 85) (h15 : kn = none → isB b T 15 = false) (h16 : t = false → isB b T 16 = false) (hd : 8 ≤ d) : IEnd X d L b n I w k kn.isSome (kn, t, .inr T) := by
  by_cases t3 : T.1 = 3
  · refine ⟨I, R46.refl, ?_, m_istop h (show decide (¬ T.1 = 3) = false by rw [t3]; rfl) (by omega), fun _ => hQ⟩
    show RSt b n I (fnS T)
    unfold fnS; rw [if_pos t3]; exact h
  · have e1 : K_X11_moreMarks X d (I, L, ()) = some (some (aI (bI true)), (I, L, ())) := by
      have := m_more (X := X) (d := d) (L := L) h (by omega)
      rw [show moS (.inr T) = true from decide_eq_true t3] at this
      exact this
    have fin : ∀ J, R6 I J → RSt b n J (.inr T) → ∃ K, K_X11_errs X d (1 : Int32) (J, L, ()) = some (none, (K, L, ())) ∧ R6 I K ∧ RSt b n K (fnS T) ∧ v_X11_readInspector_101 X d (nI k) (bI kn.isSome) (K, L, ()) = some (none, (up3 K 46 0 5 (K 46 0 5 + 1), L, ())) := fun J hJ hJ2 => by
      obtain ⟨K, k1, k2, k3⟩ := m_errs (X := X) (d := d) (L := L) (k := 1) hJ2 (by decide) (by omega)
      refine ⟨K, k1, hJ.trans k2, by unfold fnS; rw [if_neg t3]; exact k3, m_istop k3 rfl (by omega)⟩
    have ng : gd (fnS T) = true → False := fun z => by
      unfold fnS at z
      rw [if_neg t3] at z
      cases z
    have o4 : ¬ aout (nI k + 4) 325 := by rw [show nI k + 4 = nI (k + 4) from n_add k 4, n_out (by omega)]; omega
    cases kn with
    | none =>
      obtain ⟨J1, a1, a2, a3⟩ := t_no (X := X) (d := d) (L := L) hM h (by decide) (h15 rfl) (by omega)
      have c4 := cell4 (hQ.r6 a2) hk
      cases t with
      | false =>
        obtain ⟨J2, b1, b2, b3⟩ := t_no (X := X) (d := d) (L := L) (hM.r6 a2) a3 (by decide) (h16 rfl) (by omega)
        obtain ⟨K, k1, k2, k3, k4⟩ := fin J2 (a2.trans b2) b3
        refine ⟨K, k2.r46, k3, v_X11_readInspector_101.e X d _ _ I L _ ?_, fun z => (ng z).elim⟩
        rw [e1, a_bi_i, if_neg bne1, if_pos (show bI (none : Option Nat).isSome = 0 from rfl)]
        dsimp +instances only
        rw [a1, a_bi_i, if_pos beq0, if_neg o4]
        dsimp +instances only
        rw [if_pos (show J1 46 0 (nI k + 4).toNatClampNeg = 0 from c4), b1, a_bi_i, if_pos beq0]
        dsimp +instances only
        rw [k1, a_bv_n]
        exact k4
      | true =>
        obtain ⟨K, k1, k2, k3, k4⟩ := fin J1 a2 a3
        refine ⟨K, k2.r46, k3, v_X11_readInspector_101.e X d _ _ I L _ ?_, fun z => (ng z).elim⟩
        rw [e1, a_bi_i, if_neg bne1, if_pos (show bI (none : Option Nat).isSome = 0 from rfl)]
        dsimp +instances only
        rw [a1, a_bi_i, if_pos beq0, if_neg o4]
        dsimp +instances only
        rw [if_neg (show ¬ J1 46 0 (nI k + 4).toNatClampNeg = 0 by rw [c4]; exact bne1), k1, a_bv_n]
        exact k4
    | some v =>
      have c4 := cell4 hQ hk
      cases t with
      | false =>
        obtain ⟨J1, a1, a2, a3⟩ := t_no (X := X) (d := d) (L := L) hM h (by decide) (h16 rfl) (by omega)
        obtain ⟨K, k1, k2, k3, k4⟩ := fin J1 a2 a3
        refine ⟨K, k2.r46, k3, v_X11_readInspector_101.e X d _ _ I L _ ?_, fun z => (ng z).elim⟩
        rw [e1, a_bi_i, if_neg bne1, if_neg (show ¬ bI (some v).isSome = 0 from bne1), if_neg o4]
        dsimp +instances only
        rw [if_pos (show I 46 0 (nI k + 4).toNatClampNeg = 0 from c4), a1, a_bi_i, if_pos beq0]
        dsimp +instances only
        rw [k1, a_bv_n]
        exact k4
      | true =>
        obtain ⟨K, k1, k2, k3, k4⟩ := fin I R6.refl h
        refine ⟨K, k2.r46, k3, v_X11_readInspector_101.e X d _ _ I L _ ?_, fun z => (ng z).elim⟩
        rw [e1, a_bi_i, if_neg bne1, if_neg (show ¬ bI (some v).isSome = 0 from bne1), if_neg o4]
        dsimp +instances only
        rw [if_neg (show ¬ I 46 0 (nI k + 4).toNatClampNeg = 0 by rw [c4]; exact bne1), k1, a_bv_n]
        exact k4
theorem IEnd.yes16 {k : Nat} {kn : Option Nat} {T : TK} {x : Option Nat × Bool × PS} (hM : MB I n b) (h : RSt b n I (.inr T)) (hQ : FQ I (iW w k kn false)) (hk : k + 4 < 85) (h15 : kn = none → isB b T 15 = false) (h16 : isB b T 16 = true) (hd : 8 ≤ d) (hn : ∀ J, MB J n b → RSt b n J (.inr (nx b n T)) → FQ J (iW w k kn true) → IEnd X d L b n J w k kn.isSome x) : IEnd X d L b n I w k kn.isSome x := by
  have e1 : K_X11_moreMarks X d (I, L, ()) = some (some (aI (bI true)), (I, L, ())) := by
    have := m_more (X := X) (d := d) (L := L) h (by omega)
    rw [isB_ne3 h16] at this
    exact this
  have o4 : ¬ aout (nI k + 4) 325 := by rw [show nI k + 4 = nI (k + 4) from n_add k 4, n_out (by omega)]; omega
  have t4 : (nI k + 4).toNatClampNeg = k + 4 := by rw [show nI k + 4 = nI (k + 4) from n_add k 4, n_toN (show k + 4 < 2147483648 by omega)]
  cases kn with
  | none =>
    obtain ⟨J1, a1, a2, a3⟩ := t_no (X := X) (d := d) (L := L) hM h (by decide) (h15 rfl) (by omega)
    obtain ⟨J2, b1, b2, b3⟩ := t_yes (X := X) (d := d) (L := L) (hM.r6 a2) a3 (by decide) h16 (by omega)
    have c4 := cell4 (hQ.r6 a2) hk
    have q2 : FQ (up3 J2 46 0 (k + 4) (nI 1)) (iW w k none true) := by rw [← iW_t (t := false)]; exact ((hQ.r6 a2).r6 b2).up
    have R : R46 I (up3 J2 46 0 (k + 4) (nI 1)) := ((a2.trans b2).r46).up
    obtain ⟨K, k1, k2, k3, k4⟩ := hn (up3 J2 46 0 (k + 4) (nI 1)) (hM.r46 R) b3.up46 q2
    refine ⟨K, R.trans k1, k2, v_X11_readInspector_101.e X d _ _ I L _ ?_, k4⟩
    rw [e1, a_bi_i, if_neg bne1, if_pos (show bI (none : Option Nat).isSome = 0 from rfl)]
    dsimp +instances only
    rw [a1, a_bi_i, if_pos beq0, if_neg o4]
    dsimp +instances only
    rw [if_pos (show J1 46 0 (nI k + 4).toNatClampNeg = 0 from c4), b1, a_bi_i, if_neg bne1, if_neg o4, t4]
    exact k3
  | some v =>
    obtain ⟨J1, a1, a2, a3⟩ := t_yes (X := X) (d := d) (L := L) hM h (by decide) h16 (by omega)
    have c4 := cell4 hQ hk
    have q2 : FQ (up3 J1 46 0 (k + 4) (nI 1)) (iW w k (some v) true) := by rw [← iW_t (t := false)]; exact (hQ.r6 a2).up
    have R : R46 I (up3 J1 46 0 (k + 4) (nI 1)) := (a2.r46).up
    obtain ⟨K, k1, k2, k3, k4⟩ := hn (up3 J1 46 0 (k + 4) (nI 1)) (hM.r46 R) a3.up46 q2
    refine ⟨K, R.trans k1, k2, v_X11_readInspector_101.e X d _ _ I L _ ?_, k4⟩
    rw [e1, a_bi_i, if_neg bne1, if_neg (show ¬ bI (some v).isSome = 0 from bne1), if_neg o4]
    dsimp +instances only
    rw [if_pos (show I 46 0 (nI k + 4).toNatClampNeg = 0 from c4), a1, a_bi_i, if_neg bne1, if_neg o4, t4]
    exact k3
theorem nd_yes {T : TK} {q : Nat} (hb : isB b T q = true) : ndS b n q (.inr T) = .inr (nx b n T) := by
  show (if isB b T q = true then Sum.inr (nx b n T) else Sum.inl (1, T.2.1)) = _
  rw [if_pos hb]
theorem IEnd.yes15 {k : Nat} {t : Bool} {T : TK} {x : Option Nat × Bool × PS} (hM : MB I n b) (h : RSt b n I (.inr T)) (hQ : FQ I (iW w k none t)) (hk : k + 4 < 85) (h15 : isB b T 15 = true) (hd : 8 ≤ d) (hn : ∀ J, MB J n b → RSt b n J (toS b n 15 0 100 (.inr T)).2 → FQ J (iW w k (some (toS b n 15 0 100 (.inr T)).1) t) → IEnd X d L b n J w k true x) : IEnd X d L b n I w k false x := by
  have e1 : K_X11_moreMarks X d (I, L, ()) = some (some (aI (bI true)), (I, L, ())) := by
    have := m_more (X := X) (d := d) (L := L) h (by omega)
    rw [isB_ne3 h15] at this
    exact this
  have o3 : ¬ aout (nI k + 3) 325 := by rw [show nI k + 3 = nI (k + 3) from n_add k 3, n_out (by omega)]; omega
  have t3 : (nI k + 3).toNatClampNeg = k + 3 := by rw [show nI k + 3 = nI (k + 3) from n_add k 3, n_toN (show k + 3 < 2147483648 by omega)]
  have ets : toS b n 15 0 100 (.inr T) = nmS b n 0 100 (.inr (nx b n T)) := by unfold toS; rw [nd_yes h15]
  rw [ets] at hn
  obtain ⟨J1, a1, a2, a3⟩ := t_yes (X := X) (d := d) (L := L) hM h (by decide) h15 (by omega)
  obtain ⟨J2, b1, b2, b3⟩ := m_number (X := X) (d := d) (L := L) (lo := 0) (hi := 100) (hM.r6 a2) a3 (by decide) (by decide) (by omega)
  have b1' : K_X11_number X d (0 : Int32) (100 : Int32) (J1, L, ()) = some (some (aI (nI (nmS b n 0 100 (.inr (nx b n T))).1)), (J2, L, ())) := b1
  generalize nmS b n 0 100 (.inr (nx b n T)) = r at b1 b1' b3 hn
  have q2 : FQ (up3 J2 46 0 (k + 3) (nI r.1)) (iW w k (some r.1) t) := by rw [← iW_k (kn := none)]; exact ((hQ.r6 a2).r6 b2).up
  have R : R46 I (up3 J2 46 0 (k + 3) (nI r.1)) := ((a2.trans b2).r46).up
  obtain ⟨K, k1, k2, k3, k4⟩ := hn (up3 J2 46 0 (k + 3) (nI r.1)) (hM.r46 R) b3.up46 q2
  refine ⟨K, R.trans k1, k2, v_X11_readInspector_101.e X d _ _ I L _ ?_, k4⟩
  rw [e1, a_bi_i, if_neg bne1, if_pos beq0]
  dsimp +instances only
  rw [a1, a_bi_i, if_neg bne1]
  dsimp +instances only
  rw [b1', a_bi_i, if_neg o3, t3]
  exact k3
theorem m_imarks {k : Nat} (hM : MB I n b) (h : RSt b n I s) (hQ : FQ I (iW w k none false)) (hk : k + 4 < 85) (hd : 8 ≤ d) : IEnd X d L b n I w k false (im1 b n (im1 b n (none, false, s))) := by
  have tt : ∀ v s J, MB J n b → RSt b n J s → FQ J (iW w k (some v) true) → IEnd X d L b n J w k true (some v, true, s) := fun v s J hJ hS hQ => by
    cases s with
    | inl f => exact IEnd.bad hS (by omega)
    | inr T => exact IEnd.no (kn := some v) hJ hS hQ hk (fun z => by cases z) (fun z => by cases z) hd
  have tf : ∀ v s J, MB J n b → RSt b n J s → FQ J (iW w k (some v) false) → IEnd X d L b n J w k true (im1 b n (some v, false, s)) := fun v s J hJ hS hQ => by
    cases s with
    | inl f => exact IEnd.bad hS (by omega)
    | inr T =>
      cases h9 : isB b T 16 with
      | true =>
        have e1 : im1 b n (some v, false, .inr T) = (some v, true, .inr (nx b n T)) := by unfold im1; simp [h9]
        rw [e1]
        exact IEnd.yes16 (kn := some v) hJ hS hQ hk (fun z => by cases z) h9 hd (fun J => tt v _ J)
      | false =>
        have e1 : im1 b n (some v, false, .inr T) = (some v, false, .inr T) := by unfold im1; simp [h9]
        rw [e1]
        exact IEnd.no (kn := some v) hJ hS hQ hk (fun z => by cases z) (fun _ => h9) hd
  have ft : ∀ s J, MB J n b → RSt b n J s → FQ J (iW w k none true) → IEnd X d L b n J w k false (im1 b n (none, true, s)) := fun s J hJ hS hQ => by
    cases s with
    | inl f => exact IEnd.bad hS (by omega)
    | inr T =>
      cases h8 : isB b T 15 with
      | true =>
        have e1 : im1 b n (none, true, .inr T) = (some (toS b n 15 0 100 (.inr T)).1, true, (toS b n 15 0 100 (.inr T)).2) := by unfold im1; simp [h8]
        rw [e1]
        exact IEnd.yes15 hJ hS hQ hk h8 hd (fun J => tt _ _ J)
      | false =>
        have e1 : im1 b n (none, true, .inr T) = (none, true, .inr T) := by unfold im1; simp [h8]
        rw [e1]
        exact IEnd.no (kn := none) hJ hS hQ hk (fun _ => h8) (fun z => by cases z) hd
  cases s with
  | inl f => exact IEnd.bad h (by omega)
  | inr T =>
    cases h8 : isB b T 15 with
    | true =>
      have e1 : im1 b n (none, false, .inr T) = (some (toS b n 15 0 100 (.inr T)).1, false, (toS b n 15 0 100 (.inr T)).2) := by unfold im1; simp [h8]
      rw [e1]
      exact IEnd.yes15 hM h hQ hk h8 hd (fun J => tf _ _ J)
    | false =>
      cases h9 : isB b T 16 with
      | true =>
        have e1 : im1 b n (none, false, .inr T) = (none, true, .inr (nx b n T)) := by unfold im1; simp [h8, h9]
        rw [e1]
        exact IEnd.yes16 (kn := none) hM h hQ hk (fun _ => h8) h9 hd (fun J => ft _ J)
      | false =>
        have e1 : im1 b n (none, false, .inr T) = (none, false, .inr T) := by unfold im1; simp [h8, h9]
        rw [e1, e1]
        exact IEnd.no (kn := none) hM h hQ hk (fun _ => h8) (fun _ => h9) hd
end
