/-! ask, found, asks -/
theorem cnt_full {p : Nat → Bool} : ∀ {n : Nat}, cnt n p = n → ∀ k, k < n → p k = true := by
  intro n
  induction n with
  | zero => intro _ k hk; omega
  | succ n ih =>
    intro h k hk
    have hl := cnt_le p n
    rw [cnt] at h
    cases hp : p n with
    | true =>
      by_cases e : k = n
      · subst e; exact hp
      · rw [hp, if_pos rfl] at h
        exact ih (by omega) k (by omega)
    | false => rw [hp, if_neg (by decide)] at h; omega
theorem cnt_all {p : Nat → Bool} : ∀ {n : Nat}, (∀ k, k < n → p k = true) → cnt n p = n := by
  intro n
  induction n with
  | zero => intro _; rfl
  | succ n ih => intro h; rw [cnt, ih (fun k hk => h k (by omega)), h n (by omega), if_pos rfl]
theorem cnt_put {p q : Nat → Bool} {b : Nat} : ∀ {n : Nat}, b < n → p b = false → (∀ k, k < n → q k = (p k || decide (k = b))) → cnt n q = cnt n p + 1 := by
  intro n
  induction n with
  | zero => intro h; omega
  | succ n ih =>
    intro hb hp hq
    rw [cnt, cnt]
    by_cases e : b = n
    · subst e
      have : cnt b q = cnt b p := cnt_eq fun k hk => by rw [hq k (by omega)]; simp; omega
      rw [this, hq b (by omega), hp]; simp
    · rw [ih (by omega) hp (fun k hk => hq k (by omega)), hq n (by omega)]
      have : decide (n = b) = false := decide_eq_false (fun z => e z.symm)
      rw [this, Bool.or_false]; omega
theorem cnt_mono {p q : Nat → Bool} : ∀ {n : Nat}, (∀ k, k < n → p k = true → q k = true) → cnt n p ≤ cnt n q := by
  intro n
  induction n with
  | zero => intro _; exact Nat.le_refl _
  | succ n ih =>
    intro h
    have := ih (fun k hk => h k (by omega))
    rw [cnt, cnt]
    cases hp : p n with
    | true => rw [h n (by omega) hp]; simp; omega
    | false => simp; omega
theorem cnt_sub {p q : Nat → Bool} : ∀ {n : Nat}, (∀ k, k < n → p k = true → q k = true) → (cnt n p < cnt n q ↔ ∃ k, k < n ∧ q k = true ∧ p k = false) := by
  intro n
  induction n with
  | zero => intro _; constructor
            · intro h; exact absurd h (Nat.lt_irrefl _)
            · intro ⟨k, hk, _⟩; omega
  | succ n ih =>
    intro h
    have h' : ∀ k, k < n → p k = true → q k = true := fun k hk => h k (by omega)
    have i1 := ih h'
    have i2 := cnt_mono h'
    rw [cnt, cnt]
    cases hp : p n with
    | true =>
      rw [h n (by omega) hp, if_pos rfl]
      constructor
      · intro z
        obtain ⟨k, k1, k2⟩ := i1.mp (by omega)
        exact ⟨k, by omega, k2⟩
      · intro ⟨k, k1, k2, k3⟩
        have hk : k ≠ n := fun e => by subst e; rw [hp] at k3; cases k3
        have := i1.mpr ⟨k, by omega, k2, k3⟩
        omega
    | false =>
      rw [if_neg (by decide)]
      cases hq : q n with
      | true =>
        rw [if_pos rfl]
        exact ⟨fun _ => ⟨n, by omega, hq, hp⟩, fun _ => by omega⟩
      | false =>
        rw [if_neg (by decide)]
        constructor
        · intro z
          obtain ⟨k, k1, k2⟩ := i1.mp (by omega)
          exact ⟨k, by omega, k2⟩
        · intro ⟨k, k1, k2, k3⟩
          have hk : k ≠ n := fun e => by subst e; rw [hq] at k2; cases k2
          have := i1.mpr ⟨k, by omega, k2, k3⟩
          omega
section
variable {X : AX} {d : Nat} {I J : A3 Int32} {L : A3 Int64} {w : TW}
def bsF (w : TW) (x : Int32) : Nat → Option Nat
  | 0 => none
  | k + 1 => if bt x k = false then (match bsF w x k with
    | none => some k
    | some b => if w (51 + 5 * b) < w (51 + 5 * k) then some k else some b) else bsF w x k
def askX (w : TW) : Nat → Int32
  | 0 => nI 0
  | k + 1 => match bsF w (askX w k) (w 6) with
    | none => askX w k
    | some b => askX w k ||| (nI 1 <<< (nI b &&& nI 31))
theorem bsF_some {x : Int32} : ∀ {k b : Nat}, bsF w x k = some b → b < k ∧ bt x b = false := by
  intro k
  induction k with
  | zero => intro b h; cases h
  | succ k ih =>
    intro b h
    rw [bsF] at h
    split at h
    · rename_i hx
      cases hk : bsF w x k with
      | none => rw [hk] at h; simp only [Option.some.injEq] at h; subst h; exact ⟨by omega, hx⟩
      | some c =>
        rw [hk] at h
        simp only at h
        split at h
        · cases h; exact ⟨by omega, hx⟩
        · cases h; have := ih hk; exact ⟨by omega, this.2⟩
    · have := ih h; exact ⟨by omega, this.2⟩
theorem bsF_none {x : Int32} : ∀ {k : Nat}, bsF w x k = none → ∀ c, c < k → bt x c = true := by
  intro k
  induction k with
  | zero => intro _ c hc; omega
  | succ k ih =>
    intro h c hc
    rw [bsF] at h
    split at h
    · cases hk : bsF w x k with
      | none => rw [hk] at h; cases h
      | some b => rw [hk] at h; simp only at h; split at h <;> cases h
    · rename_i hx
      by_cases e : c = k
      · subst e; simpa using hx
      · exact ih h c (by omega)
theorem askX_ok (v : Vw w) : ∀ k, k ≤ w 6 → cnt (w 6) (bt (askX w k)) = k ∧ ∀ c, bt (askX w k) c = true → c < w 6 := by
  obtain ⟨⟨-, -, -, -, -, -, w6, -⟩, -⟩ := id v
  intro k
  induction k with
  | zero =>
    intro _
    refine ⟨?_, fun c hc => by rw [askX, bt_0] at hc; cases hc⟩
    rw [askX, show bt (nI 0) = fun _ => false from funext bt_0]
    have : ∀ n, cnt n (fun _ => false) = 0 := fun n => by
      induction n with
      | zero => rfl
      | succ n ih => rw [cnt, ih]; rfl
    exact this _
  | succ k ih =>
    intro hk
    obtain ⟨i1, i2⟩ := ih (by omega)
    rw [askX]
    cases hb : bsF w (askX w k) (w 6) with
    | none =>
      have := cnt_all (bsF_none hb)
      omega
    | some b =>
      obtain ⟨b1, b2⟩ := bsF_some hb
      have e : ∀ c, bt (askX w k ||| (nI 1 <<< (nI b &&& nI 31))) c = (bt (askX w k) c || decide (c = b)) := fun c => by rw [bt_or, bt_one (by omega)]
      refine ⟨?_, fun c hc => ?_⟩
      · show cnt (w 6) (bt (askX w k ||| (nI 1 <<< (nI b &&& nI 31)))) = k + 1
        rw [cnt_put b1 b2 (fun c _ => e c), i1]
      · have hc : bt (askX w k ||| (nI 1 <<< (nI b &&& nI 31))) c = true := hc
        rw [e, Bool.or_eq_true] at hc
        rcases hc with hc | hc
        · exact i2 c hc
        · have := of_decide_eq_true hc; omega
theorem bsF_is (v : Vw w) {k : Nat} (hk : k < w 6) : ∃ b, bsF w (askX w k) (w 6) = some b ∧ b < w 6 ∧ askX w (k + 1) = askX w k ||| (nI 1 <<< (nI b &&& nI 31)) := by
  cases hb : bsF w (askX w k) (w 6) with
  | none =>
    have := cnt_all (bsF_none hb)
    have := (askX_ok v k (by omega)).1
    omega
  | some b => exact ⟨b, rfl, (bsF_some hb).1, by rw [askX, hb]⟩
theorem c_asked (h : TC I w) (v : Vw w) {n : Nat} (hn : n ≤ 6) (hd : 2 ≤ d) : K_X10_askedBits X d (nI n) (I, L, ()) = some (some (aI (askX w (min n (w 6)))), (I, L, ())) := by
  obtain ⟨e, rfl⟩ : ∃ e, d = e + 1 := ⟨d - 1, by omega⟩
  obtain ⟨⟨-, -, -, -, -, -, w6, -⟩, -, -, -, vr, -⟩ := id v
  obtain ⟨-, -, c2⟩ := loop_z (S := Unit) (F := fun k _ => v_X10_askedBits_4 X e (nI n) (askX w k) (nI k) (I, L, ())) (P := fun _ _ => True) (min n (w 6)) () trivial (fun k _ hk _ => ⟨(), trivial, fun s hs => by
    obtain ⟨b, b1, b2, b3⟩ := bsF_is v (k := k) (by omega)
    have hs : v_X10_askedBits_4 X e (nI n) (askX w (k + 1)) (nI (k + 1)) (I, L, ()) = some s := hs
    obtain ⟨-, -, g2⟩ := loop_z (S := Unit) (F := fun j _ => v_X10_askedBits_26 X e (nI n) (askX w k) (nI k) (oI (bsF w (askX w k) j)) (nI j) (I, L, ())) (P := fun _ _ => True) (w 6) () trivial (fun j _ hj _ => ⟨(), trivial, fun s hs => by
      have hs : v_X10_askedBits_26 X e (nI n) (askX w k) (nI k) (oI (bsF w (askX w k) (j + 1))) (nI (j + 1)) (I, L, ()) = some s := hs
      refine v_X10_askedBits_26.e X e _ _ _ _ _ I L s ?_
      rw [bsF] at hs
      simp (disch := omega) only [a_bi_i, a_bv_n, a_bl_l, a_bq_q, l_0, l_1, l_2, l_3, l_4, l_5, l_6, l_7, l_8, l_9, l_10, l_12, l_16, l_20, l_24, l_25, l_31, l_32, l_33, l_40, l_48, l_57, l_60, l_63, l_64, l_78, l_85, l_97, l_99, l_100, l_122, l_255, l_325, l_700, l_999, l_1000, l_1200, l_99999, l_100000, l_1000000, l_2000000000, l_N, n_add, n_mul, n_lt, n_out, n_div, n_dm, n_eq, n_toN, n_inN, n_ltN, n_nltN, n_neN, Nat.not_lt_zero, false_or, or_false, ite_y, ite_n, if_true, if_false, ite_tt, ite_ff, b_0, b_1, eq_self_iff_true, Bool.true_eq_false, Bool.false_eq_true, c_riders h v, bt_test]
      cases hx : bt (askX w k) j with
      | true => rw [hx] at hs; simp only [Bool.true_eq_false, if_false] at hs ⊢; exact hs
      | false =>
        rw [hx] at hs
        simp only [if_true] at hs ⊢
        cases hb : bsF w (askX w k) j with
        | none => rw [hb] at hs; simp only [oI, if_true]; exact hs
        | some c =>
          rw [hb] at hs
          obtain ⟨c1, -⟩ := bsF_some hb
          have q1 := (vr j hj).2.2.2.1
          have q2 := (vr c (by omega)).2.2.2.1
          simp only [oI]
          simp (disch := omega) only [a_bi_i, a_bv_n, a_bl_l, a_bq_q, l_0, l_1, l_2, l_3, l_4, l_5, l_6, l_7, l_8, l_9, l_10, l_12, l_16, l_20, l_24, l_25, l_31, l_32, l_33, l_40, l_48, l_57, l_60, l_63, l_64, l_78, l_85, l_97, l_99, l_100, l_122, l_255, l_325, l_700, l_999, l_1000, l_1200, l_99999, l_100000, l_1000000, l_2000000000, l_N, n_add, n_mul, n_lt, n_out, n_div, n_dm, n_eq, n_toN, n_inN, n_ltN, n_nltN, n_neN, Nat.not_lt_zero, false_or, or_false, ite_y, ite_n, if_true, if_false, ite_tt, ite_ff, b_0, b_1, eq_self_iff_true, Bool.true_eq_false, Bool.false_eq_true, c_or3 h v]
          by_cases hlt : w (51 + 5 * c) < w (51 + 5 * j)
          · simp only [hlt, if_true] at hs ⊢; exact hs
          · simp only [hlt, if_false] at hs ⊢; exact hs⟩)
    refine v_X10_askedBits_4.e X e _ _ _ I L s ?_
    simp (disch := omega) only [a_bi_i, a_bv_n, a_bl_l, a_bq_q, l_0, l_1, l_2, l_3, l_4, l_5, l_6, l_7, l_8, l_9, l_10, l_12, l_16, l_20, l_24, l_25, l_31, l_32, l_33, l_40, l_48, l_57, l_60, l_63, l_64, l_78, l_85, l_97, l_99, l_100, l_122, l_255, l_325, l_700, l_999, l_1000, l_1200, l_99999, l_100000, l_1000000, l_2000000000, l_N, n_add, n_mul, n_lt, n_out, n_div, n_dm, n_eq, n_toN, n_inN, n_ltN, n_nltN, n_neN, Nat.not_lt_zero, false_or, or_false, ite_y, ite_n, if_true, if_false, ite_tt, ite_ff, b_0, b_1, eq_self_iff_true, Bool.true_eq_false, Bool.false_eq_true, c_riders h v]
    refine g2 _ (v_X10_askedBits_26.e X e _ _ _ _ _ I L s ?_)
    rw [b1]
    simp only [oI]
    simp (disch := omega) only [a_bi_i, a_bv_n, a_bl_l, a_bq_q, l_0, l_1, l_2, l_3, l_4, l_5, l_6, l_7, l_8, l_9, l_10, l_12, l_16, l_20, l_24, l_25, l_31, l_32, l_33, l_40, l_48, l_57, l_60, l_63, l_64, l_78, l_85, l_97, l_99, l_100, l_122, l_255, l_325, l_700, l_999, l_1000, l_1200, l_99999, l_100000, l_1000000, l_2000000000, l_N, n_add, n_mul, n_lt, n_out, n_div, n_dm, n_eq, n_toN, n_inN, n_ltN, n_nltN, n_neN, Nat.not_lt_zero, false_or, or_false, ite_y, ite_n, if_true, if_false, ite_tt, ite_ff, b_0, b_1, eq_self_iff_true, Bool.true_eq_false, Bool.false_eq_true, c_riders h v, Nat.lt_irrefl]
    rw [← b3]
    exact hs⟩)
  refine K_X10_askedBits.e X e _ I L _ (c2 _ (v_X10_askedBits_4.e X e _ _ _ I L _ ?_))
  by_cases hm : n ≤ w 6
  · rw [Nat.min_eq_left hm]
    simp (disch := omega) only [a_bi_i, a_bv_n, a_bl_l, a_bq_q, l_0, l_1, l_2, l_3, l_4, l_5, l_6, l_7, l_8, l_9, l_10, l_12, l_16, l_20, l_24, l_25, l_31, l_32, l_33, l_40, l_48, l_57, l_60, l_63, l_64, l_78, l_85, l_97, l_99, l_100, l_122, l_255, l_325, l_700, l_999, l_1000, l_1200, l_99999, l_100000, l_1000000, l_2000000000, l_N, n_add, n_mul, n_lt, n_out, n_div, n_dm, n_eq, n_toN, n_inN, n_ltN, n_nltN, n_neN, Nat.not_lt_zero, false_or, or_false, ite_y, ite_n, if_true, if_false, ite_tt, ite_ff, b_0, b_1, eq_self_iff_true, Bool.true_eq_false, Bool.false_eq_true, Nat.lt_irrefl]
  · rw [Nat.min_eq_right (by omega)]
    simp (disch := omega) only [a_bi_i, a_bv_n, a_bl_l, a_bq_q, l_0, l_1, l_2, l_3, l_4, l_5, l_6, l_7, l_8, l_9, l_10, l_12, l_16, l_20, l_24, l_25, l_31, l_32, l_33, l_40, l_48, l_57, l_60, l_63, l_64, l_78, l_85, l_97, l_99, l_100, l_122, l_255, l_325, l_700, l_999, l_1000, l_1200, l_99999, l_100000, l_1000000, l_2000000000, l_N, n_add, n_mul, n_lt, n_out, n_div, n_dm, n_eq, n_toN, n_inN, n_ltN, n_nltN, n_neN, Nat.not_lt_zero, false_or, or_false, ite_y, ite_n, if_true, if_false, ite_tt, ite_ff, b_0, b_1, eq_self_iff_true, Bool.true_eq_false, Bool.false_eq_true, c_riders h v, Nat.lt_irrefl]
theorem m_asked (h : TM I w) (v : Vw w) {n : Nat} (hn : n ≤ 6) (hd : 2 ≤ d) : K_X11_askedOf X d (nI n) (I, L, ()) = some (some (aI (askX w (min n (w 6)))), (I, L, ())) := by
  obtain ⟨e, rfl⟩ : ∃ e, d = e + 1 := ⟨d - 1, by omega⟩
  obtain ⟨⟨-, -, -, -, -, -, w6, -⟩, -, -, -, vr, -⟩ := id v
  obtain ⟨-, -, c2⟩ := loop_z (S := Unit) (F := fun k _ => v_X11_askedOf_4 X e (nI n) (askX w k) (nI k) (I, L, ())) (P := fun _ _ => True) (min n (w 6)) () trivial (fun k _ hk _ => ⟨(), trivial, fun s hs => by
    obtain ⟨b, b1, b2, b3⟩ := bsF_is v (k := k) (by omega)
    have hs : v_X11_askedOf_4 X e (nI n) (askX w (k + 1)) (nI (k + 1)) (I, L, ()) = some s := hs
    obtain ⟨-, -, g2⟩ := loop_z (S := Unit) (F := fun j _ => v_X11_askedOf_26 X e (nI n) (askX w k) (nI k) (oI (bsF w (askX w k) j)) (nI j) (I, L, ())) (P := fun _ _ => True) (w 6) () trivial (fun j _ hj _ => ⟨(), trivial, fun s hs => by
      have hs : v_X11_askedOf_26 X e (nI n) (askX w k) (nI k) (oI (bsF w (askX w k) (j + 1))) (nI (j + 1)) (I, L, ()) = some s := hs
      refine v_X11_askedOf_26.e X e _ _ _ _ _ I L s ?_
      rw [bsF] at hs
      rw [h 6 (by decide)]
      simp (disch := omega) only [a_bi_i, a_bv_n, a_bl_l, a_bq_q, l_0, l_1, l_2, l_3, l_4, l_5, l_6, l_7, l_8, l_9, l_10, l_12, l_16, l_20, l_24, l_25, l_31, l_32, l_33, l_40, l_48, l_57, l_60, l_63, l_64, l_78, l_85, l_97, l_99, l_100, l_122, l_255, l_325, l_700, l_999, l_1000, l_1200, l_99999, l_100000, l_1000000, l_2000000000, l_N, n_add, n_mul, n_lt, n_out, n_div, n_dm, n_eq, n_toN, n_inN, n_ltN, n_nltN, n_neN, Nat.not_lt_zero, false_or, or_false, ite_y, ite_n, if_true, if_false, ite_tt, ite_ff, b_0, b_1, eq_self_iff_true, Bool.true_eq_false, Bool.false_eq_true, m_bit]
      cases hx : bt (askX w k) j with
      | true => rw [hx] at hs; simp only [Bool.true_eq_false, if_false] at hs ⊢; exact hs
      | false =>
        rw [hx] at hs
        simp only [if_true] at hs ⊢
        cases hb : bsF w (askX w k) j with
        | none => rw [hb] at hs; simp only [oI, if_true]; exact hs
        | some c =>
          rw [hb] at hs
          obtain ⟨c1, -⟩ := bsF_some hb
          have q1 := (vr j hj).2.2.2.1
          have q2 := (vr c (by omega)).2.2.2.1
          simp only [oI]
          simp (disch := omega) only [a_bi_i, a_bv_n, a_bl_l, a_bq_q, l_0, l_1, l_2, l_3, l_4, l_5, l_6, l_7, l_8, l_9, l_10, l_12, l_16, l_20, l_24, l_25, l_31, l_32, l_33, l_40, l_48, l_57, l_60, l_63, l_64, l_78, l_85, l_97, l_99, l_100, l_122, l_255, l_325, l_700, l_999, l_1000, l_1200, l_99999, l_100000, l_1000000, l_2000000000, l_N, n_add, n_mul, n_lt, n_out, n_div, n_dm, n_eq, n_toN, n_inN, n_ltN, n_nltN, n_neN, Nat.not_lt_zero, false_or, or_false, ite_y, ite_n, if_true, if_false, ite_tt, ite_ff, b_0, b_1, eq_self_iff_true, Bool.true_eq_false, Bool.false_eq_true, m_or3 h v]
          by_cases hlt : w (51 + 5 * c) < w (51 + 5 * j)
          · simp only [hlt, if_true] at hs ⊢; exact hs
          · simp only [hlt, if_false] at hs ⊢; exact hs⟩)
    refine v_X11_askedOf_4.e X e _ _ _ I L s ?_
    rw [h 6 (by decide)]
    simp (disch := omega) only [a_bi_i, a_bv_n, a_bl_l, a_bq_q, l_0, l_1, l_2, l_3, l_4, l_5, l_6, l_7, l_8, l_9, l_10, l_12, l_16, l_20, l_24, l_25, l_31, l_32, l_33, l_40, l_48, l_57, l_60, l_63, l_64, l_78, l_85, l_97, l_99, l_100, l_122, l_255, l_325, l_700, l_999, l_1000, l_1200, l_99999, l_100000, l_1000000, l_2000000000, l_N, n_add, n_mul, n_lt, n_out, n_div, n_dm, n_eq, n_toN, n_inN, n_ltN, n_nltN, n_neN, Nat.not_lt_zero, false_or, or_false, ite_y, ite_n, if_true, if_false, ite_tt, ite_ff, b_0, b_1, eq_self_iff_true, Bool.true_eq_false, Bool.false_eq_true]
    refine g2 _ (v_X11_askedOf_26.e X e _ _ _ _ _ I L s ?_)
    rw [b1, h 6 (by decide)]
    simp only [oI]
    simp (disch := omega) only [a_bi_i, a_bv_n, a_bl_l, a_bq_q, l_0, l_1, l_2, l_3, l_4, l_5, l_6, l_7, l_8, l_9, l_10, l_12, l_16, l_20, l_24, l_25, l_31, l_32, l_33, l_40, l_48, l_57, l_60, l_63, l_64, l_78, l_85, l_97, l_99, l_100, l_122, l_255, l_325, l_700, l_999, l_1000, l_1200, l_99999, l_100000, l_1000000, l_2000000000, l_N, n_add, n_mul, n_lt, n_out, n_div, n_dm, n_eq, n_toN, n_inN, n_ltN, n_nltN, n_neN, Nat.not_lt_zero, false_or, or_false, ite_y, ite_n, if_true, if_false, ite_tt, ite_ff, b_0, b_1, eq_self_iff_true, Bool.true_eq_false, Bool.false_eq_true, Nat.lt_irrefl]
    rw [← b3]
    exact hs⟩)
  refine K_X11_askedOf.e X e _ I L _ (c2 _ (v_X11_askedOf_4.e X e _ _ _ I L _ ?_))
  rw [h 6 (by decide)]
  by_cases hm : n ≤ w 6
  · rw [Nat.min_eq_left hm]
    simp (disch := omega) only [a_bi_i, a_bv_n, a_bl_l, a_bq_q, l_0, l_1, l_2, l_3, l_4, l_5, l_6, l_7, l_8, l_9, l_10, l_12, l_16, l_20, l_24, l_25, l_31, l_32, l_33, l_40, l_48, l_57, l_60, l_63, l_64, l_78, l_85, l_97, l_99, l_100, l_122, l_255, l_325, l_700, l_999, l_1000, l_1200, l_99999, l_100000, l_1000000, l_2000000000, l_N, n_add, n_mul, n_lt, n_out, n_div, n_dm, n_eq, n_toN, n_inN, n_ltN, n_nltN, n_neN, Nat.not_lt_zero, false_or, or_false, ite_y, ite_n, if_true, if_false, ite_tt, ite_ff, b_0, b_1, eq_self_iff_true, Bool.true_eq_false, Bool.false_eq_true, Nat.lt_irrefl]
  · rw [Nat.min_eq_right (by omega)]
    simp (disch := omega) only [a_bi_i, a_bv_n, a_bl_l, a_bq_q, l_0, l_1, l_2, l_3, l_4, l_5, l_6, l_7, l_8, l_9, l_10, l_12, l_16, l_20, l_24, l_25, l_31, l_32, l_33, l_40, l_48, l_57, l_60, l_63, l_64, l_78, l_85, l_97, l_99, l_100, l_122, l_255, l_325, l_700, l_999, l_1000, l_1200, l_99999, l_100000, l_1000000, l_2000000000, l_N, n_add, n_mul, n_lt, n_out, n_div, n_dm, n_eq, n_toN, n_inN, n_ltN, n_nltN, n_neN, Nat.not_lt_zero, false_or, or_false, ite_y, ite_n, if_true, if_false, ite_tt, ite_ff, b_0, b_1, eq_self_iff_true, Bool.true_eq_false, Bool.false_eq_true, Nat.lt_irrefl]
end
