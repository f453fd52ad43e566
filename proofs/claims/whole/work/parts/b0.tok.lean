/-! tokens -/
def kdI (a : Int32) : Nat := if a < 97 then (if a < 48 then (if a = 59 then 3 else 4) else (if 57 < a then (if a = 59 then 3 else 4) else 2)) else (if 122 < a then (if a < 48 then (if a = 59 then 3 else 4) else (if 57 < a then (if a = 59 then 3 else 4) else 2)) else 1)
def kdB (x : Int8) : Nat := kdI x.toInt32
def blB (x : Int8) : Bool := decide (x.toInt32 = 32) || decide (x.toInt32 = 10)
def dg (x : Int8) : Nat := (x.toInt32 - 48).toNatClampNeg
theorem all8 {P : Int8 → Prop} (h : ∀ k, k < 256 → P (Int8.ofNat k)) (x : Int8) : P x := by
  have := h x.toBitVec.toNat x.toBitVec.isLt
  rwa [Int8.ofNat_bitVecToNat] at this
def f5B (x : Int8) : Bool := inL (x.toInt32 &&& 255).toInt64 97 122
def f6B (x : Int8) : Bool := inL (x.toInt32 &&& 255).toInt64 48 57
theorem by_ck : ∀ k, k < 256 → (f5B (Int8.ofNat k) = decide (kdB (Int8.ofNat k) = 1) ∧ f6B (Int8.ofNat k) = decide (kdB (Int8.ofNat k) = 2)) ∧ (((Int8.ofNat k).toInt32 &&& 255) = 32 ↔ (Int8.ofNat k).toInt32 = 32) ∧ (((Int8.ofNat k).toInt32 &&& 255) = 10 ↔ (Int8.ofNat k).toInt32 = 10) ∧ ¬ (((Int8.ofNat k).toInt32 &&& 255) = nN) ∧ (((Int8.ofNat k).toInt32 &&& 255) = 59 ↔ kdB (Int8.ofNat k) = 3) ∧ (kdB (Int8.ofNat k) = 2 → ((Int8.ofNat k).toInt32 &&& 255) = nI (48 + dg (Int8.ofNat k)) ∧ (Int8.ofNat k).toInt32 - 48 = nI (dg (Int8.ofNat k)) ∧ dg (Int8.ofNat k) ≤ 9) ∧ (1 ≤ kdB (Int8.ofNat k) ∧ kdB (Int8.ofNat k) ≤ 4) := by
  decide +kernel
theorem by_f (x : Int8) : (f5B x = decide (kdB x = 1) ∧ f6B x = decide (kdB x = 2)) ∧ ((x.toInt32 &&& 255) = 32 ↔ x.toInt32 = 32) ∧ ((x.toInt32 &&& 255) = 10 ↔ x.toInt32 = 10) ∧ ¬ ((x.toInt32 &&& 255) = nN) ∧ ((x.toInt32 &&& 255) = 59 ↔ kdB x = 3) ∧ (kdB x = 2 → (x.toInt32 &&& 255) = nI (48 + dg x) ∧ x.toInt32 - 48 = nI (dg x) ∧ dg x ≤ 9) ∧ (1 ≤ kdB x ∧ kdB x ≤ 4) := all8 (P := fun x => (f5B x = decide (kdB x = 1) ∧ f6B x = decide (kdB x = 2)) ∧ ((x.toInt32 &&& 255) = 32 ↔ x.toInt32 = 32) ∧ ((x.toInt32 &&& 255) = 10 ↔ x.toInt32 = 10) ∧ ¬ ((x.toInt32 &&& 255) = nN) ∧ ((x.toInt32 &&& 255) = 59 ↔ kdB x = 3) ∧ (kdB x = 2 → (x.toInt32 &&& 255) = nI (48 + dg x) ∧ x.toInt32 - 48 = nI (dg x) ∧ dg x ≤ 9) ∧ (1 ≤ kdB x ∧ kdB x ≤ 4)) by_ck x
/-! the next token -/
def skp (b : Nat → Int8) : Nat → Nat → Nat
  | 0, p => p
  | k + 1, p => if blB (b p) = true then skp b k (p + 1) else p
def rn (b : Nat → Int8) (kd : Nat) : Nat → Nat → Nat
  | 0, p => p
  | k + 1, p => if kdB (b p) = kd then rn b kd k (p + 1) else p
def nv (b : Nat → Int8) (f : Nat) : Nat → Nat
  | 0 => 0
  | k + 1 => min 99999 (10 * nv b f k + dg (b (f + k)))
abbrev TK : Type := Nat × Nat × Nat × Nat
def tokF (b : Nat → Int8) (n f : Nat) : TK := if n ≤ f then (0, f, f, 0) else if kdB (b f) = 1 then (1, f, rn b 1 (n - (f + 1)) (f + 1), 0) else if kdB (b f) = 2 then (2, f, rn b 2 (n - (f + 1)) (f + 1), nv b f (rn b 2 (n - (f + 1)) (f + 1) - f)) else (kdB (b f), f, f + 1, 0)
def tk (b : Nat → Int8) (n p : Nat) : TK := tokF b n (skp b (n - p) p)
theorem skp_le {b : Nat → Int8} : ∀ k p, p ≤ skp b k p ∧ skp b k p ≤ p + k := by
  intro k
  induction k with
  | zero => intro p; exact ⟨Nat.le_refl _, Nat.le_refl _⟩
  | succ k ih =>
    intro p
    rw [skp]
    split
    · have := ih (p + 1); omega
    · omega
theorem rn_le {b : Nat → Int8} {kd : Nat} : ∀ k p, p ≤ rn b kd k p ∧ rn b kd k p ≤ p + k := by
  intro k
  induction k with
  | zero => intro p; exact ⟨Nat.le_refl _, Nat.le_refl _⟩
  | succ k ih =>
    intro p
    rw [rn]
    split
    · have := ih (p + 1); omega
    · omega
theorem rn_kd {b : Nat → Int8} {kd : Nat} : ∀ k p j, p ≤ j → j < rn b kd k p → kdB (b j) = kd := by
  intro k
  induction k with
  | zero => intro p j h1 h2; rw [rn] at h2; omega
  | succ k ih =>
    intro p j h1 h2
    rw [rn] at h2
    split at h2
    · rename_i hk
      by_cases e : j = p
      · subst e; exact hk
      · exact ih (p + 1) j (by omega) h2
    · omega
theorem nv_le {b : Nat → Int8} {f : Nat} : ∀ k, nv b f k ≤ 99999 := by
  intro k
  cases k with
  | zero => exact Nat.zero_le _
  | succ k => rw [nv]; exact Nat.min_le_left _ _
/-- what a token is: kind, from, to -/
theorem tk_ok {b : Nat → Int8} {n p : Nat} (hp : p ≤ n) : p ≤ (tk b n p).2.1 ∧ (tk b n p).2.1 ≤ (tk b n p).2.2.1 ∧ (tk b n p).2.2.1 ≤ n ∧ ((tk b n p).1 = 0 ∨ (tk b n p).2.1 < (tk b n p).2.2.1) ∧ (tk b n p).1 ≤ 4 ∧ (tk b n p).2.2.2 ≤ 99999 := by
  have hs := skp_le (b := b) (n - p) p
  unfold tk tokF
  split
  · refine ⟨hs.1, Nat.le_refl _, by show skp b (n - p) p ≤ n; omega, Or.inl rfl, Nat.zero_le 4, Nat.zero_le 99999⟩
  · rename_i h1
    split
    · have hr := rn_le (b := b) (kd := 1) (n - (skp b (n - p) p + 1)) (skp b (n - p) p + 1)
      refine ⟨hs.1, ?_, ?_, Or.inr ?_, (show 1 ≤ 4 by decide), Nat.zero_le 99999⟩ <;> simp only <;> omega
    · split
      · have hr := rn_le (b := b) (kd := 2) (n - (skp b (n - p) p + 1)) (skp b (n - p) p + 1)
        refine ⟨hs.1, ?_, ?_, Or.inr ?_, (show 2 ≤ 4 by decide), nv_le _⟩ <;> simp only <;> omega
      · have hk := (by_f (b (skp b (n - p) p))).2.2.2.2.2.2
        refine ⟨hs.1, ?_, ?_, Or.inr ?_, hk.2, Nat.zero_le 99999⟩ <;> simp only <;> omega
/-- the class's number beside the reference's -/
def CN (c v : Nat) : Prop := c < 100000000 ∧ ((c = v ∧ v ≤ 99999) ∨ (99999 ≤ c ∧ v = 99999))
section
variable {X : AX} {d : Nat} {I J : A3 Int32} {L : A3 Int64} {b : Nat → Int8} {n : Nat}
/-- the class's tape -/
def TB (I : A3 Int32) (n : Nat) (b : Nat → Int8) : Prop := n ≤ 1200 ∧ I 1 0 1 = nI n ∧ ∀ j, j < n → I 2 0 j = (b j).toInt32
def CT (I : A3 Int32) (T : TK) : Prop := I 4 0 1 = nI T.1 ∧ I 4 0 2 = nI T.2.1 ∧ I 4 0 3 = nI T.2.2.1 ∧ ∃ c, I 4 0 4 = nI c ∧ CN c T.2.2.2
theorem TB.fm {l : List Nat} (h : TB I n b) (hF : Fm l I J) (h1 : 1 ∉ l) (h2 : 2 ∉ l) : TB J n b := by
  unfold TB; rw [hF 1 h1, hF 2 h2]; exact h
theorem c_kindOf (x : Int8) (hd : 1 ≤ d) : K_X8_kindOf X d x.toInt32 (I, L, ()) = some (some (aI (nI (kdB x))), (I, L, ())) := by
  obtain ⟨g, rfl⟩ : ∃ g, d = g + 1 := ⟨d - 1, by omega⟩
  refine K_X8_kindOf.e X g _ I L _ ?_
  unfold kdB kdI
  split <;> split <;> (try split) <;> (try split) <;> (try split) <;> (try rfl)
/-- the number's loop of the class -/
theorem c_num {f : Nat} {kd : Nat} : ∀ k j c I, j + k = n → n ≤ 1200 → I 4 0 1 = nI 2 → I 4 0 3 = nI (f + n) → f + n ≤ 1200 → (∀ i, i < n → I 2 0 (f + i) = (b (f + i)).toInt32 ∧ kdB (b (f + i)) = 2) → I 4 0 4 = nI c → CN c (nv b f j) → ∃ J c', v_X8_advance_201 X d (nI (f + j)) (I, L, ()) = some (none, (J, L, ())) ∧ Fm [4] I J ∧ (∀ i, i ≠ 4 → J 4 0 i = I 4 0 i) ∧ J 4 0 4 = nI c' ∧ CN c' (nv b f n) := by
  intro k
  induction k with
  | zero =>
    intro j c I hj hn h1 h3 hfn hb h4 hc
    have : j = n := by omega
    subst this
    refine ⟨I, c, v_X8_advance_201.e X d _ I L _ ?_, Fm.refl, fun _ _ => rfl, h4, hc⟩
    rw [h3]
    simp (disch := omega) only [a_bi_i, a_bv_n, a_bl_l, a_bq_q, l_0, l_1, l_2, l_3, l_4, l_5, l_6, l_7, l_8, l_9, l_10, l_12, l_16, l_20, l_24, l_25, l_31, l_32, l_33, l_40, l_48, l_57, l_60, l_63, l_64, l_78, l_85, l_97, l_99, l_100, l_122, l_255, l_325, l_700, l_999, l_1000, l_1200, l_99999, l_100000, l_1000000, l_2000000000, l_N, n_add, n_mul, n_lt, n_out, n_div, n_dm, n_eq, n_toN, n_inN, n_ltN, n_nltN, n_neN, Nat.not_lt_zero, false_or, or_false, ite_y, ite_n, if_true, if_false, ite_tt, ite_ff, b_0, b_1, eq_self_iff_true, Bool.true_eq_false, Bool.false_eq_true, Nat.lt_irrefl]
  | succ k ih =>
    intro j c I hj hn h1 h3 hfn hb h4 hc
    obtain ⟨e1, e2⟩ := hb j (by omega)
    have hdg := (by_f (b (f + j))).2.2.2.2.2.1 e2
    have hnv : nv b f (j + 1) = min 99999 (10 * nv b f j + dg (b (f + j))) := rfl
    by_cases hh : c < 1000000
    · obtain ⟨J, c', a1, a2, a3, a4, a5⟩ := ih (j + 1) (10 * c + dg (b (f + j))) (up3 I 4 0 4 (nI (10 * c + dg (b (f + j))))) (by omega) hn (by rw [u3_j _ _ (by decide)]; exact h1) (by rw [u3_j _ _ (by decide)]; exact h3) hfn (fun i hi => by rw [u3_f _ _ (by decide)]; exact hb i hi) (u3_eq _ _ _ _ _) (by
        unfold CN at hc ⊢
        rw [hnv]
        have := hdg.2.2
        omega)
      refine ⟨J, c', v_X8_advance_201.e X d _ I L _ ?_, Fm.trans (Fm.refl.up (by decide)) a2, fun i hi => by rw [a3 i hi, u3_j _ _ hi], a4, a5⟩
      rw [h1, h3, h4]
      have q1 : nI (f + j) < nI (f + n) := (n_lt (by omega) (by omega)).mpr (by omega)
      have q2 : nI c < 1000000 := (n_lt (b := 1000000) (by omega) (by decide)).mpr hh
      have q3 : ¬ aout (nI (f + j)) 1200 := by rw [n_out (by omega)]; omega
      rw [if_pos q1, if_pos (show nI 2 = 2 from rfl), if_pos q2, if_neg q3, n_toN (show f + j < 2147483648 by omega), e1, hdg.2.1, show (10 : Int32) = nI 10 from rfl, n_mul, n_add, l_1, n_add, Nat.mul_comm c 10]
      exact a1
    · have hst : ∀ m, j ≤ m → m ≤ n → CN c (nv b f m) := by
        intro m
        induction m with
        | zero => intro h _; have : j = 0 := by omega
                  subst this; exact hc
        | succ m ihm =>
          intro h1 h2
          by_cases e : j = m + 1
          · rw [← e]; exact hc
          · have i1 := ihm (by omega) (by omega)
            have : nv b f (m + 1) = min 99999 (10 * nv b f m + dg (b (f + m))) := rfl
            unfold CN at i1 ⊢
            rw [this]
            omega
      refine ⟨I, c, v_X8_advance_201.e X d _ I L _ ?_, Fm.refl, fun _ _ => rfl, h4, hst n (by omega) (Nat.le_refl _)⟩
      rw [h1, h3, h4]
      have q1 : nI (f + j) < nI (f + n) := (n_lt (by omega) (by omega)).mpr (by omega)
      have q2 : ¬ nI c < 1000000 := fun z => hh ((n_lt (b := 1000000) (by unfold CN at hc; omega) (by decide)).mp z)
      rw [if_pos q1, if_pos (show nI 2 = 2 from rfl), if_neg q2]
end
