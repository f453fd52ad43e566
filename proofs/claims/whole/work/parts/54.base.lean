/-! a call on both: the same answer, and the cells that last are left -/
def SCL : List Nat := [14, 17, 18, 20, 21, 22, 23, 24, 25, 26, 27, 31, 35, 36]
def SML : List Nat := [40, 47, 48, 49, 50, 51, 52, 53, 54, 55, 56, 57, 58]
def Sc (I I' : A3 Int32) : Prop := Fm SCL I I'
def Sm (I I' : A3 Int32) : Prop := Fm SML I I' ∧ ∀ j, (j = 5 ∨ j = 12 ∨ j = 13) → I' 40 0 j = I 40 0 j
theorem Sc.refl {I : A3 Int32} : Sc I I := Fm.refl
theorem Sm.refl {I : A3 Int32} : Sm I I := ⟨Fm.refl, fun _ _ => rfl⟩
theorem Sc.trans {I J K : A3 Int32} (h1 : Sc I J) (h2 : Sc J K) : Sc I K := Fm.trans h1 h2
theorem Sm.trans {I J K : A3 Int32} (h1 : Sm I J) (h2 : Sm J K) : Sm I K := ⟨h1.1.trans h2.1, fun j hj => (h2.2 j hj).trans (h1.2 j hj)⟩
theorem Sc.of {I J : A3 Int32} {l : List Nat} (h : Fm l I J) (hl : ∀ f, f ∈ l → f ∈ SCL) : Sc I J := h.mono hl
theorem Sm.of {I J : A3 Int32} {l : List Nat} (h : Fm l I J) (hl : ∀ f, f ∈ l → f ∈ SML ∧ f ≠ 40) : Sm I J := ⟨h.mono (fun f hf => (hl f hf).1), fun j _ => by rw [h 40 (fun q => (hl 40 q).2 rfl)]⟩
section
variable {X : AX} {d : Nat} {I J : A3 Int32} {L : A3 Int64} {w : TW}
theorem TC.sc (h : TC I w) (hs : Sc I J) : TC J w := h.fm hs (by decide) (by decide) (by decide) (by decide) (by decide)
theorem TM.sm (h : TM I w) (hs : Sm I J) : TM J w := h.fm hs.1 (by decide)
/-- both calls answer alike -/
def Both (w : TW) (KC KM : AU → ARes Unit) (I : A3 Int32) (L : A3 Int64) : Prop := ∃ x I' L', KC (I, L, ()) = some (some (aI x), (I', L', ())) ∧ Sc I I' ∧ (∀ f, f ≠ 31 → L' f = L f) ∧ ∀ J L2, TM J w → ∃ J', KM (J, L2, ()) = some (some (aI x), (J', L2, ())) ∧ Sm J J'
/-- neither changes a cell -/
theorem Both.pure {KC KM : AU → ARes Unit} (x : Int32) (hC : KC (I, L, ()) = some (some (aI x), (I, L, ()))) (hM : ∀ J L2, TM J w → KM (J, L2, ()) = some (some (aI x), (J, L2, ()))) : Both w KC KM I L :=
  ⟨x, I, L, hC, Sc.refl, fun _ _ => rfl, fun J L2 hJ => ⟨J, hM J L2 hJ, Sm.refl⟩⟩
theorem Both.mk {KC KM : AU → ARes Unit} (x : Int32) (I' : A3 Int32) (hC : KC (I, L, ()) = some (some (aI x), (I', L, ()))) (hS : Sc I I') (hM : ∀ J L2, TM J w → ∃ J', KM (J, L2, ()) = some (some (aI x), (J', L2, ())) ∧ Sm J J') : Both w KC KM I L :=
  ⟨x, I', L, hC, hS, fun _ _ => rfl, hM⟩
theorem sc_followAll (h : TC I w) (v : Vw w) (hd : 5 ≤ d) : ∃ I', K_X10_followAll X d (I, L, ()) = some (none, (I', L, ())) ∧ Sc I I' ∧ TC I' w ∧ PC I' (w 1) (w 5) (psA w) := by
  obtain ⟨I', h1, h2, h3⟩ := c_followAll (X := X) (d := d) (L := L) h v hd
  have hs : Sc I I' := fun f hf => funext fun i => h2 f i (Or.inl (fun e => hf (by rw [e]; decide)))
  exact ⟨I', h1, hs, h.sc hs, h3⟩
theorem sm_asItIs (h : TM I w) (v : Vw w) (hd : 5 ≤ d) : ∃ I', K_X11_asItIs X d (I, L, ()) = some (none, (I', L, ())) ∧ Sm I I' ∧ TM I' w ∧ PM I' (w 1) (w 5) (psA w) (knA w) := by
  obtain ⟨I', h1, h2, h3, h4⟩ := m_asItIs (X := X) (d := d) (L := L) h v hd
  have hs : Sm I I' := ⟨h2.mono (by decide), fun j hj => h3 j (by omega)⟩
  exact ⟨I', h1, hs, h.sm hs, h4⟩
theorem m_posOf {T n : Nat} {ps : Nat → Nat → Option Nat} {kn : Nat → Nat} (h : PM I T n ps kn) {k m : Nat} (hk : k < n) (hm : m < T) (hn : n ≤ 3) (hT : T ≤ 40) (hd : 1 ≤ d) : K_X11_posOf X d (nI k) (nI m) (I, L, ()) = some (some (aI (oI (ps k m))), (I, L, ())) := by
  obtain ⟨e, rfl⟩ : ∃ e, d = e + 1 := ⟨d - 1, by omega⟩
  refine K_X11_posOf.e X e _ _ I L _ ?_
  simp (disch := omega) only [a_bi_i, a_bv_n, a_bl_l, a_bq_q, l_0, l_1, l_2, l_3, l_4, l_5, l_6, l_7, l_8, l_9, l_10, l_12, l_16, l_20, l_24, l_25, l_31, l_32, l_33, l_40, l_48, l_57, l_60, l_63, l_64, l_78, l_85, l_97, l_99, l_100, l_122, l_255, l_325, l_700, l_999, l_1000, l_1200, l_99999, l_100000, l_1000000, l_2000000000, l_N, n_add, n_mul, n_lt, n_out, n_div, n_dm, n_eq, n_toN, n_inN, n_ltN, n_nltN, n_neN, Nat.not_lt_zero, false_or, or_false, ite_y, ite_n, if_true, if_false, ite_tt, ite_ff, b_0, b_1, eq_self_iff_true, Bool.true_eq_false, Bool.false_eq_true]
  rw [h.2.1 k hk m hm]
/-! the first of the numbers -/
def fndF (p : Nat → Bool) : Nat → Nat → Option Nat
  | 0, _ => none
  | k + 1, m => if p m = true then some m else fndF p k (m + 1)
def fnd (T : Nat) (p : Nat → Bool) : Option Nat := fndF p T 0
theorem fndF_lt {p : Nat → Bool} : ∀ k m x, fndF p k m = some x → m ≤ x ∧ x < m + k ∧ p x = true ∧ ∀ y, m ≤ y → y < x → p y = false := by
  intro k
  induction k with
  | zero => intro m x h; cases h
  | succ k ih =>
    intro m x h
    unfold fndF at h
    split at h
    · cases h
      rename_i hp
      exact ⟨Nat.le_refl _, by omega, hp, fun y h1 h2 => by omega⟩
    · rename_i hp
      obtain ⟨h1, h2, h3, h4⟩ := ih (m + 1) x h
      refine ⟨by omega, by omega, h3, fun y h5 h6 => ?_⟩
      by_cases e : y = m
      · subst e; simpa using hp
      · exact h4 y (by omega) h6
theorem fndF_no {p : Nat → Bool} : ∀ k m, fndF p k m = none → ∀ y, m ≤ y → y < m + k → p y = false := by
  intro k
  induction k with
  | zero => intro m h y h1 h2; omega
  | succ k ih =>
    intro m h y h1 h2
    unfold fndF at h
    split at h
    · cases h
    · rename_i hp
      by_cases e : y = m
      · subst e; simpa using hp
      · exact ih (m + 1) h y (by omega) (by omega)
theorem fnd_some {T x : Nat} {p : Nat → Bool} (h : fnd T p = some x) : x < T ∧ p x = true ∧ ∀ y, y < x → p y = false := by
  obtain ⟨-, h2, h3, h4⟩ := fndF_lt T 0 x h
  exact ⟨by omega, h3, fun y hy => h4 y (Nat.zero_le _) hy⟩
theorem fnd_none {T : Nat} {p : Nat → Bool} (h : fnd T p = none) : ∀ y, y < T → p y = false := fun y hy => fndF_no T 0 h y (Nat.zero_le _) (by omega)
theorem fnd_eq {T : Nat} {p q : Nat → Bool} (h : ∀ y, y < T → p y = q y) : fnd T p = fnd T q := by
  have : ∀ k m, m + k ≤ T → fndF p k m = fndF q k m := by
    intro k
    induction k with
    | zero => intro m _; rfl
    | succ k ih =>
      intro m hm
      unfold fndF
      rw [h m (by omega), ih (m + 1) (by omega)]
  exact this T 0 (by omega)
theorem find_loop {F : Nat → ARes Unit} {T : Nat} {p : Nat → Bool} {σ : AU} (hs : ∀ m, m < T → (p m = true → F m = some (some (aI (nI m)), σ)) ∧ (p m = false → OLe (F (m + 1)) (F m))) (he : F T = some (some (aI nN), σ)) : F 0 = some (some (aI (oI (fnd T p))), σ) := by
  have : ∀ k m, m + k = T → F m = some (some (aI (oI (fndF p k m))), σ) := by
    intro k
    induction k with
    | zero => intro m hm; subst hm; exact he
    | succ k ih =>
      intro m hm
      unfold fndF
      obtain ⟨h1, h2⟩ := hs m (by omega)
      cases hp : p m with
      | true => simp only [if_true]; exact h1 hp
      | false => simp only [Bool.false_eq_true, if_false]; exact h2 hp _ (ih (m + 1) (by omega))
  exact this T 0 (by omega)
/-! the plain ones -/
theorem q_coach (h : TC I w) (v : Vw w) (a b : Int32) : Both w (K_X10_coach X 15 a b) (K_X11_coach X 15 a b) I L := by
  obtain ⟨⟨h0, h1, h2, h3, h4, h5, h6, -⟩, -⟩ := id v
  have hM : ∀ J : A3 Int32, ∀ L2 : A3 Int64, K_X11_in X 14 b.toInt64 (0 : Int64) (2 : Int64) (J, L2, ()) = some (some (aI (bI (inr b 3))), (J, L2, ())) := fun J L2 => by
    rw [m_in (by omega), inL_k (n := 3) (by decide) rfl]
  cases ha : inr a (w 0) with
  | false =>
    refine Both.pure (-2) (K_X10_coach.e X 14 a b I L _ ?_) (fun J L2 h => K_X11_coach.e X 14 a b J L2 _ ?_)
    · simp (disch := omega) only [c_hasCoach h v, ha, a_bi_i, a_bv_n, a_bl_l, a_bq_q, l_0, l_1, l_2, l_3, l_4, l_5, l_6, l_7, l_8, l_9, l_10, l_12, l_16, l_20, l_24, l_25, l_31, l_32, l_33, l_40, l_48, l_57, l_60, l_63, l_64, l_78, l_85, l_97, l_99, l_100, l_122, l_255, l_325, l_700, l_999, l_1000, l_1200, l_99999, l_100000, l_1000000, l_2000000000, l_N, n_add, n_mul, n_lt, n_out, n_div, n_dm, n_eq, n_toN, n_inN, n_ltN, n_nltN, n_neN, Nat.not_lt_zero, false_or, or_false, ite_y, ite_n, if_true, if_false, ite_tt, ite_ff, b_0, b_1, eq_self_iff_true, Bool.true_eq_false, Bool.false_eq_true]
    · simp (disch := omega) only [m_isCoach h v, ha, a_bi_i, a_bv_n, a_bl_l, a_bq_q, l_0, l_1, l_2, l_3, l_4, l_5, l_6, l_7, l_8, l_9, l_10, l_12, l_16, l_20, l_24, l_25, l_31, l_32, l_33, l_40, l_48, l_57, l_60, l_63, l_64, l_78, l_85, l_97, l_99, l_100, l_122, l_255, l_325, l_700, l_999, l_1000, l_1200, l_99999, l_100000, l_1000000, l_2000000000, l_N, n_add, n_mul, n_lt, n_out, n_div, n_dm, n_eq, n_toN, n_inN, n_ltN, n_nltN, n_neN, Nat.not_lt_zero, false_or, or_false, ite_y, ite_n, if_true, if_false, ite_tt, ite_ff, b_0, b_1, eq_self_iff_true, Bool.true_eq_false, Bool.false_eq_true]
  | true =>
    obtain ⟨c, hc, rfl⟩ := inr_ex (by omega) ha
    cases hb : inr b 3 with
    | false =>
      refine Both.pure (-2) (K_X10_coach.e X 14 _ b I L _ ?_) (fun J L2 h => K_X11_coach.e X 14 _ b J L2 _ ?_)
      · simp (disch := omega) only [c_hasCoach h v, ha, a_bi_i, a_bv_n, a_bl_l, a_bq_q, l_0, l_1, l_2, l_3, l_4, l_5, l_6, l_7, l_8, l_9, l_10, l_12, l_16, l_20, l_24, l_25, l_31, l_32, l_33, l_40, l_48, l_57, l_60, l_63, l_64, l_78, l_85, l_97, l_99, l_100, l_122, l_255, l_325, l_700, l_999, l_1000, l_1200, l_99999, l_100000, l_1000000, l_2000000000, l_N, n_add, n_mul, n_lt, n_out, n_div, n_dm, n_eq, n_toN, n_inN, n_ltN, n_nltN, n_neN, Nat.not_lt_zero, false_or, or_false, ite_y, ite_n, if_true, if_false, ite_tt, ite_ff, b_0, b_1, eq_self_iff_true, Bool.true_eq_false, Bool.false_eq_true]
        unfold inr at hb
        by_cases h7 : b < nI 0
        · simp only [h7, if_true]
        · have : ¬ b < nI 3 := fun q => by simp [h7, q] at hb
          simp only [h7, this, if_false]
      · simp (disch := omega) only [m_isCoach h v, hM, ha, hb, a_bi_i, a_bv_n, a_bl_l, a_bq_q, l_0, l_1, l_2, l_3, l_4, l_5, l_6, l_7, l_8, l_9, l_10, l_12, l_16, l_20, l_24, l_25, l_31, l_32, l_33, l_40, l_48, l_57, l_60, l_63, l_64, l_78, l_85, l_97, l_99, l_100, l_122, l_255, l_325, l_700, l_999, l_1000, l_1200, l_99999, l_100000, l_1000000, l_2000000000, l_N, n_add, n_mul, n_lt, n_out, n_div, n_dm, n_eq, n_toN, n_inN, n_ltN, n_nltN, n_neN, Nat.not_lt_zero, false_or, or_false, ite_y, ite_n, if_true, if_false, ite_tt, ite_ff, b_0, b_1, eq_self_iff_true, Bool.true_eq_false, Bool.false_eq_true]
    | true =>
      obtain ⟨k, hk, rfl⟩ := inr_ex (by omega) hb
      refine Both.pure (nI (w (9 + (c * 3 + k)))) (K_X10_coach.e X 14 _ _ I L _ ?_) (fun J L2 h => K_X11_coach.e X 14 _ _ J L2 _ ?_)
      · simp (disch := omega) only [c_hasCoach h v, ha, c_ofCoach h v, a_bi_i, a_bv_n, a_bl_l, a_bq_q, l_0, l_1, l_2, l_3, l_4, l_5, l_6, l_7, l_8, l_9, l_10, l_12, l_16, l_20, l_24, l_25, l_31, l_32, l_33, l_40, l_48, l_57, l_60, l_63, l_64, l_78, l_85, l_97, l_99, l_100, l_122, l_255, l_325, l_700, l_999, l_1000, l_1200, l_99999, l_100000, l_1000000, l_2000000000, l_N, n_add, n_mul, n_lt, n_out, n_div, n_dm, n_eq, n_toN, n_inN, n_ltN, n_nltN, n_neN, Nat.not_lt_zero, false_or, or_false, ite_y, ite_n, if_true, if_false, ite_tt, ite_ff, b_0, b_1, eq_self_iff_true, Bool.true_eq_false, Bool.false_eq_true]
      · simp (disch := omega) only [m_isCoach h v, hM, ha, hb, m_ofCoach h v, a_bi_i, a_bv_n, a_bl_l, a_bq_q, l_0, l_1, l_2, l_3, l_4, l_5, l_6, l_7, l_8, l_9, l_10, l_12, l_16, l_20, l_24, l_25, l_31, l_32, l_33, l_40, l_48, l_57, l_60, l_63, l_64, l_78, l_85, l_97, l_99, l_100, l_122, l_255, l_325, l_700, l_999, l_1000, l_1200, l_99999, l_100000, l_1000000, l_2000000000, l_N, n_add, n_mul, n_lt, n_out, n_div, n_dm, n_eq, n_toN, n_inN, n_ltN, n_nltN, n_neN, Nat.not_lt_zero, false_or, or_false, ite_y, ite_n, if_true, if_false, ite_tt, ite_ff, b_0, b_1, eq_self_iff_true, Bool.true_eq_false, Bool.false_eq_true]
end
