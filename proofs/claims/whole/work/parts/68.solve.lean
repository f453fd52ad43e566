/-! solve: the class fills where one can go on -/
section
variable {X : AX} {d : Nat} {I : A3 Int32} {L : A3 Int64} {w : TW} {N : Nat} {ps : Nat → Nat → Option Nat} {kn : Nat → Nat} {lo dr : Nat → Bool}
def dI (T j : Nat) : Int32 := if j < T then nI (T - 1 - j) else nN
theorem dI_s {T j : Nat} (h : j < T) : dI T j + nN = dI T (j + 1) := by
  unfold dI
  rw [if_pos h]
  by_cases e : j + 1 < T
  · rw [if_pos e, n_Nadd (by omega), show T - 1 - j - 1 = T - 1 - (j + 1) by omega]
  · rw [if_neg e, show T - 1 - j = 0 by omega]; rfl
theorem can_out {j c : Nat} {l : Bool} (hc : ¬ c < w 0) : (fil w N ps kn lo dr j (c, l)).1 = false := by
  cases hq : (fil w N ps kn lo dr j (c, l)).1 with
  | false => rfl
  | true => have := (can_hd hq).1; unfold isPl at this; simp [hc] at this
theorem bt_set {c : Nat} (hc : c < 32) (x G : Int32) : bt (x &&& (G ^^^ nN)) c = (bt x c && !bt G c) := by rw [bt_and, bt_not _ hc]
/-- the bits of the first set of a minute -/
theorem seat_bits {q j m : Nat} {x y p : Int32} (hf : CF I q (w 1) (w 0) lo dr) (hC : CA I q (w 1) N ps kn) (h0 : w 0 ≤ 8) (hm : m = w 1 - 2 - j) (hj : j + 1 < w 1) (hx : ∀ c, bt x c = (fil w N ps kn lo dr j (c, false)).1) (hy : ∀ c, bt y c = (fil w N ps kn lo dr j (c, true)).1) (hp : ∀ c, c < w 0 → bt p c = (stF w m && dr c && exb 8 (fun t => (fil w N ps kn lo dr j (t, false)).1 && dr t))) (c : Nat) : bt ((((((x ||| ((x >>> (nI 1 &&& nI 31)) &&& (I 23 q m ^^^ nN))) ||| ((x <<< (nI 1 &&& nI 31)) &&& (I 24 q m ^^^ nN))) ||| y) ||| p) &&& I 20 q 9) &&& (I 21 q m ^^^ nN)) c = (fil w N ps kn lo dr (j + 1) (c, false)).1 := by
  by_cases hc : c < w 0
  · obtain ⟨a1, a2, a3, a4⟩ := hC m (by omega) c
    rw [can_seat hm hj h0 hc, bt_set (by omega), bt_and, hf.2.1 c, bt_or, bt_or, bt_or, bt_or, bt_set (by omega), bt_set (by omega), bt_shr (by omega) _ (by omega), bt_shl (by omega), hp c hc, hx, hx, hx, hy, a1, a3, a4]
    have h9 : c < 32 := by omega
    have h8 : (1 ≤ c) ↔ 0 < c := by omega
    simp only [hc, h9, h8, decide_true, Bool.true_and, Bool.and_true]
    rw [Bool.and_comm]
  · rw [bt_and, bt_and, hf.2.1 c, can_out hc]
    simp [hc]
theorem cab_bits {q j m : Nat} {x y : Int32} (hf : CF I q (w 1) (w 0) lo dr) (hl : ∀ c, lo c = true → c < w 0) (hC : CA I q (w 1) N ps kn) (h0 : w 0 ≤ 8) (hm : m = w 1 - 2 - j) (hj : j + 1 < w 1) (hx : ∀ c, bt x c = (fil w N ps kn lo dr j (c, false)).1) (hy : ∀ c, bt y c = (fil w N ps kn lo dr j (c, true)).1) (c : Nat) : bt (((((x ||| ((x >>> (nI 1 &&& nI 31)) &&& (I 23 q m ^^^ nN))) ||| ((x <<< (nI 1 &&& nI 31)) &&& (I 24 q m ^^^ nN))) ||| y) &&& I 20 q 10) &&& (I 22 q m ^^^ nN)) c = (fil w N ps kn lo dr (j + 1) (c, true)).1 := by
  by_cases hc : c < w 0
  · obtain ⟨a1, a2, a3, a4⟩ := hC m (by omega) c
    rw [can_cab hm hj h0 hc, bt_set (by omega), bt_and, hf.2.2.1 c, bt_or, bt_or, bt_or, bt_set (by omega), bt_set (by omega), bt_shr (by omega) _ (by omega), bt_shl (by omega), hx, hx, hx, hy, a2, a3, a4]
    have h9 : c < 32 := by omega
    have h8 : (1 ≤ c) ↔ 0 < c := by omega
    simp only [h9, h8, decide_true, Bool.true_and, Bool.and_true]
    cases lo c <;> cases kA N ps kn m c <;> simp
  · rw [bt_and, bt_and, hf.2.2.1 c, can_out hc]
    cases h : lo c with
    | false => simp
    | true => exact absurd (hl c h) hc
/-- what open holds of a minute -/
def opF (w : TW) (N : Nat) (ps : Nat → Nat → Option Nat) (kn : Nat → Nat) (lo dr : Nat → Bool) (j c : Nat) : Bool := if c < 8 then (fil w N ps kn lo dr j (c, false)).1 else (fil w N ps kn lo dr j (c - 8, true)).1
theorem op_bits {j : Nat} {x y : Int32} (h0 : w 0 ≤ 8) (hx : ∀ c, bt x c = (fil w N ps kn lo dr j (c, false)).1) (hy : ∀ c, bt y c = (fil w N ps kn lo dr j (c, true)).1) (c : Nat) : bt (x ||| (y <<< (nI 8 &&& nI 31))) c = opF w N ps kn lo dr j c := by
  unfold opF
  rw [bt_or, bt_shl (by omega), hx, hy]
  by_cases h : c < 8
  · rw [if_pos h]
    have : ¬ 8 ≤ c := by omega
    simp [this]
  · rw [if_neg h, can_out (by omega)]
    have h1 : 8 ≤ c := by omega
    by_cases h2 : c < 32
    · simp [h1, h2]
    · rw [can_out (by omega)]; simp
def SO (J : A3 Int32) (q : Nat) (w : TW) (N : Nat) (ps : Nat → Nat → Option Nat) (kn : Nat → Nat) (lo dr : Nat → Bool) : Prop := ∀ m, m < w 1 → ∀ c, bt (J 25 q m) c = opF w N ps kn lo dr (w 1 - 1 - m) c
theorem doors0 {x D : Int32} {s r : Nat → Bool} (hx : ∀ c, bt x c = s c) (hD : ∀ c, bt D c = r c) (h8 : ∀ c, ¬ c < 8 → r c = false) : (x &&& D = nI 0) ↔ exb 8 (fun t => s t && r t) = false := by
  rw [exb_no, bt_eq0]
  constructor
  · intro h i hi
    have := h i (by omega)
    rwa [bt_and, hx, hD] at this
  · intro h k hk
    rw [bt_and, hx, hD]
    by_cases e : k < 8
    · exact h k e
    · rw [h8 k e]; simp
theorem c_solve {q : Nat} (h : TC I w) (v : Vw w) (hf : CF I q (w 1) (w 0) lo dr) (hl : ∀ c, lo c = true → c < w 0) (hr : ∀ c, dr c = true → c < w 0) (hC : CA I q (w 1) N ps kn) (hT : 0 < w 1) (hd : 2 ≤ d) : ∃ J x, K_X0_solve X d q (I, L, ()) = some (some (aI x), (J, L, ())) ∧ Rw 25 q I J ∧ SO J q w N ps kn lo dr ∧ ∀ c, bt x c = canF w N ps kn lo dr 0 (c, false) := by
  obtain ⟨e, rfl⟩ : ∃ e, d = e + 1 := ⟨d - 1, by omega⟩
  obtain ⟨⟨h0, h1, h2, h3, h4, h5, -⟩, -⟩ := id v
  obtain ⟨⟨x, y, J⟩, ⟨g1, g2, g3, g4⟩, g5⟩ := loop_z (F := fun j (s : Int32 × Int32 × A3 Int32) => v_X0_solve_20 X e q (nI (w 1 - 1)) (if j = 0 then I 20 q 9 else s.1) (if j = 0 then I 20 q 10 else s.2.1) (dI (w 1) j) (s.2.2, L, ())) (P := fun j s => Rw 25 q I s.2.2 ∧ (0 < j → ∀ c, bt s.1 c = (fil w N ps kn lo dr (j - 1) (c, false)).1) ∧ (0 < j → ∀ c, bt s.2.1 c = (fil w N ps kn lo dr (j - 1) (c, true)).1) ∧ ∀ i, i < j → ∀ c, bt (s.2.2 25 q (w 1 - 1 - i)) c = opF w N ps kn lo dr i c) (w 1) (I 20 q 9, I 20 q 10, I) ⟨Rw.refl, fun q => absurd q (by decide), fun q => absurd q (by decide), fun i hi => absurd hi (by omega)⟩ (fun j s hj hP => by
    obtain ⟨x, y, J⟩ := s
    obtain ⟨p1, p2, p3, p4⟩ := hP
    simp only at p1 p2 p3 p4 ⊢
    have hdI : dI (w 1) j = nI (w 1 - 1 - j) := if_pos hj
    have eF : ∀ f, f ≠ 25 → J f = I f := fun f hf => funext fun i => p1 f i (Or.inl hf)
    have nxt : ∀ (x' y' : Int32), (∀ c, bt x' c = (fil w N ps kn lo dr j (c, false)).1) → (∀ c, bt y' c = (fil w N ps kn lo dr j (c, true)).1) → Rw 25 q I (up3 J 25 q (w 1 - 1 - j) (x' ||| (y' <<< (nI 8 &&& nI 31)))) ∧ (0 < j + 1 → ∀ c, bt x' c = (fil w N ps kn lo dr (j + 1 - 1) (c, false)).1) ∧ (0 < j + 1 → ∀ c, bt y' c = (fil w N ps kn lo dr (j + 1 - 1) (c, true)).1) ∧ ∀ i, i < j + 1 → ∀ c, bt (up3 J 25 q (w 1 - 1 - j) (x' ||| (y' <<< (nI 8 &&& nI 31))) 25 q (w 1 - 1 - i)) c = opF w N ps kn lo dr i c := fun x' y' hx hy => ⟨p1.up, fun _ => hx, fun _ => hy, fun i hi c => by
      by_cases ei : i = j
      · subst ei; rw [u3_eq]; exact op_bits h0 hx hy c
      · rw [u3_j _ _ (by omega)]; exact p4 i (by omega) c⟩
    by_cases hj0 : j = 0
    · subst hj0
      have hx : ∀ c, bt ((((I 20 q 9 ||| I 20 q 10) ||| nI 0) &&& I 20 q 9) &&& (I 21 q (w 1 - 1) ^^^ nN)) c = (fil w N ps kn lo dr 0 (c, false)).1 := fun c => by
        obtain ⟨a1, a2, a3, a4⟩ := hC (w 1 - 1) (by omega) c
        by_cases hc : c < w 0
        · rw [bt_set (by omega), bt_and, bt_or, bt_or, bt_0, hf.2.1, hf.2.2.1, a1]
          unfold fil isPl hdF
          cases gA N ps (w 1 - 1) c <;> simp [hc]
        · rw [bt_and, bt_and, hf.2.1, can_out hc]; simp [hc]
      have hy : ∀ c, bt (((I 20 q 9 ||| I 20 q 10) &&& I 20 q 10) &&& (I 22 q (w 1 - 1) ^^^ nN)) c = (fil w N ps kn lo dr 0 (c, true)).1 := fun c => by
        obtain ⟨a1, a2, a3, a4⟩ := hC (w 1 - 1) (by omega) c
        by_cases hc : c < w 0
        · rw [bt_set (by omega), bt_and, bt_or, hf.2.1, hf.2.2.1, a2]
          unfold fil isPl hdF
          cases kA N ps kn (w 1 - 1) c <;> cases lo c <;> simp [hc]
        · rw [bt_and, bt_and, hf.2.2.1, can_out hc]
          cases hlc : lo c with
          | false => simp
          | true => exact absurd (hl c hlc) hc
      refine ⟨(_, _, _), nxt _ _ hx hy, fun r hr => ?_⟩
      · refine v_X0_solve_20.e X e _ _ _ _ _ J L r ?_
        rw [if_pos rfl, if_pos rfl, hdI]
        rw [← dI_s (show 0 < w 1 by omega), hdI, if_neg (by omega), if_neg (by omega)] at hr
        simp only [Nat.sub_zero] at hr ⊢
        simp only [eF 20 (by decide), eF 21 (by decide), eF 22 (by decide)]
        simp (disch := omega) only [a_bi_i, a_bv_n, a_bl_l, a_bq_q, l_0, l_1, l_2, l_3, l_4, l_5, l_6, l_7, l_8, l_9, l_10, l_12, l_16, l_20, l_24, l_25, l_31, l_32, l_33, l_40, l_48, l_57, l_60, l_63, l_64, l_78, l_85, l_97, l_99, l_100, l_122, l_255, l_325, l_700, l_999, l_1000, l_1200, l_99999, l_100000, l_1000000, l_2000000000, l_N, n_add, n_mul, n_lt, n_out, n_div, n_dm, n_eq, n_toN, n_inN, n_ltN, n_nltN, n_neN, Nat.not_lt_zero, false_or, or_false, ite_y, ite_n, if_true, if_false, ite_tt, ite_ff, b_0, b_1, eq_self_iff_true, Bool.true_eq_false, Bool.false_eq_true, l_cN, Nat.lt_irrefl]
        exact hr
    · obtain ⟨i, rfl⟩ : ∃ i, j = i + 1 := ⟨j - 1, by omega⟩
      have px := p2 (by omega)
      have py := p3 (by omega)
      rw [show i + 1 - 1 = i by omega] at px py
      have hm : w 1 - 1 - (i + 1) = w 1 - 2 - i := by omega
      have hJ : TC J w := h.fm (l := [25]) (fun f hf => eF f (by simpa using hf)) (by decide) (by decide) (by decide) (by decide) (by decide)
      generalize hmm : w 1 - 1 - (i + 1) = m at *
      have hd8 : ∀ c, ¬ c < 8 → dr c = false := fun c hc => by
        cases hq : dr c with
        | false => rfl
        | true => have := hr c hq; omega
      have hD := doors0 (s := fun c => (fil w N ps kn lo dr i (c, false)).1) px hf.2.2.2 hd8
      have key : ∀ p : Int32, (∀ c, c < w 0 → bt p c = (stF w m && dr c && exb 8 (fun t => (fil w N ps kn lo dr i (t, false)).1 && dr t))) → ∃ s' : Int32 × Int32 × A3 Int32, (Rw 25 q I s'.2.2 ∧ (0 < i + 1 + 1 → ∀ c, bt s'.1 c = (fil w N ps kn lo dr (i + 1 + 1 - 1) (c, false)).1) ∧ (0 < i + 1 + 1 → ∀ c, bt s'.2.1 c = (fil w N ps kn lo dr (i + 1 + 1 - 1) (c, true)).1) ∧ ∀ k, k < i + 1 + 1 → ∀ c, bt (s'.2.2 25 q (w 1 - 1 - k)) c = opF w N ps kn lo dr k c) ∧ s'.1 = ((((((x ||| ((x >>> (nI 1 &&& nI 31)) &&& (I 23 q m ^^^ nN))) ||| ((x <<< (nI 1 &&& nI 31)) &&& (I 24 q m ^^^ nN))) ||| y) ||| p) &&& I 20 q 9) &&& (I 21 q m ^^^ nN)) ∧ s'.2.1 = (((((x ||| ((x >>> (nI 1 &&& nI 31)) &&& (I 23 q m ^^^ nN))) ||| ((x <<< (nI 1 &&& nI 31)) &&& (I 24 q m ^^^ nN))) ||| y) &&& I 20 q 10) &&& (I 22 q m ^^^ nN)) ∧ s'.2.2 = up3 J 25 q m (s'.1 ||| (s'.2.1 <<< (nI 8 &&& nI 31))) := fun p hp =>
        ⟨(_, _, _), nxt _ _ (seat_bits hf hC h0 hm hj px py hp) (cab_bits hf hl hC h0 hm hj px py), rfl, rfl, rfl⟩
      have go : ∀ p : Int32, (p = if (decide (0 < m ∧ m % w 2 = 0)) = true then (if x &&& I 20 q 11 = nI 0 then nI 0 else I 20 q 11) else nI 0) → ∃ s' : Int32 × Int32 × A3 Int32, (Rw 25 q I s'.2.2 ∧ (0 < i + 1 + 1 → ∀ c, bt s'.1 c = (fil w N ps kn lo dr (i + 1 + 1 - 1) (c, false)).1) ∧ (0 < i + 1 + 1 → ∀ c, bt s'.2.1 c = (fil w N ps kn lo dr (i + 1 + 1 - 1) (c, true)).1) ∧ ∀ k, k < i + 1 + 1 → ∀ c, bt (s'.2.2 25 q (w 1 - 1 - k)) c = opF w N ps kn lo dr k c) ∧ OLe (v_X0_solve_20 X e q (nI (w 1 - 1)) (if i + 1 + 1 = 0 then I 20 q 9 else s'.1) (if i + 1 + 1 = 0 then I 20 q 10 else s'.2.1) (dI (w 1) (i + 1 + 1)) (s'.2.2, L, ())) (v_X0_solve_20 X e q (nI (w 1 - 1)) (if i + 1 = 0 then I 20 q 9 else x) (if i + 1 = 0 then I 20 q 10 else y) (dI (w 1) (i + 1)) (J, L, ())) := by
        intro p hp
        obtain ⟨⟨x', y', J'⟩, k1, k2, k3, k4⟩ := key p (fun c hc => by
          rw [hp]
          show _ = (decide (0 < m ∧ m % w 2 = 0) && dr c && _)
          cases hs : decide (0 < m ∧ m % w 2 = 0) with
          | false => simp [bt_0]
          | true =>
            rw [if_pos rfl]
            by_cases hx0 : x &&& I 20 q 11 = nI 0
            · rw [if_pos hx0, hD.mp hx0, bt_0]; simp
            · rw [if_neg hx0, hf.2.2.2 c]
              have : exb 8 (fun t => (fil w N ps kn lo dr i (t, false)).1 && dr t) = true := by
                cases hq : exb 8 (fun t => (fil w N ps kn lo dr i (t, false)).1 && dr t) with
                | true => rfl
                | false => exact absurd (hD.mpr hq) hx0
              rw [this]; simp)
        simp only at k2 k3 k4
        refine ⟨(x', y', J'), k1, fun r hr => ?_⟩
        rw [← dI_s (show i + 1 < w 1 by omega), hdI, if_neg (by omega), if_neg (by omega)] at hr
        simp only at hr
        rw [hdI, if_neg (by omega), if_neg (by omega)]
        refine v_X0_solve_20.e X e _ _ _ _ _ J L r ?_
        have hm1 : m < w 1 - 1 := by omega
        simp only [eF 20 (by decide), eF 21 (by decide), eF 22 (by decide), eF 23 (by decide), eF 24 (by decide)]
        simp (disch := omega) only [c_isStop hJ v (show m < w 1 by omega), a_bi_i, a_bv_n, a_bl_l, a_bq_q, l_0, l_1, l_2, l_3, l_4, l_5, l_6, l_7, l_8, l_9, l_10, l_12, l_16, l_20, l_24, l_25, l_31, l_32, l_33, l_40, l_48, l_57, l_60, l_63, l_64, l_78, l_85, l_97, l_99, l_100, l_122, l_255, l_325, l_700, l_999, l_1000, l_1200, l_99999, l_100000, l_1000000, l_2000000000, l_N, n_add, n_mul, n_lt, n_out, n_div, n_dm, n_eq, n_toN, n_inN, n_ltN, n_nltN, n_neN, Nat.not_lt_zero, false_or, or_false, ite_y, ite_n, if_true, if_false, ite_tt, ite_ff, b_0, b_1, eq_self_iff_true, Bool.true_eq_false, Bool.false_eq_true, l_cN]
        simp only [eF 20 (by decide), eF 21 (by decide), eF 22 (by decide), eF 23 (by decide), eF 24 (by decide)]
        cases hs : decide (0 < m ∧ m % w 2 = 0) with
        | false =>
          rw [hs, if_neg (by decide)] at hp
          subst hp
          rw [if_pos rfl, ← k2, ← k3, ← k4]
          exact hr
        | true =>
          rw [hs, if_pos rfl] at hp
          rw [if_neg (by decide)]
          by_cases hx0 : x &&& I 20 q 11 = nI 0
          · rw [if_pos hx0] at hp
            subst hp
            rw [if_pos hx0, ← k2, ← k3, ← k4]
            exact hr
          · rw [if_neg hx0] at hp
            subst hp
            rw [if_neg hx0, ← k2, ← k3, ← k4]
            exact hr
      exact go _ rfl)
  simp only at g1 g2 g3 g4 g5
  refine ⟨J, x, K_X0_solve.e X e q I L _ ?_, g1, fun m hm c => ?_, fun c => ?_⟩
  · have hg := g5 _ (v_X0_solve_20.e X e _ _ _ _ _ J L (some (aI x), (J, L, ())) ?_)
    · simp only [if_true] at hg
      rw [show dI (w 1) 0 = nI (w 1 - 1) from if_pos (by omega)] at hg
      rw [hf.1, l_1, n_sub (by omega)]
      exact hg
    · have hw : ¬ w 1 = 0 := by omega
      rw [if_neg hw, if_neg hw, show dI (w 1) (w 1) = nN from if_neg (by omega)]
      simp (disch := omega) only [a_bi_i, a_bv_n, a_bl_l, a_bq_q, l_0, l_1, l_2, l_3, l_4, l_5, l_6, l_7, l_8, l_9, l_10, l_12, l_16, l_20, l_24, l_25, l_31, l_32, l_33, l_40, l_48, l_57, l_60, l_63, l_64, l_78, l_85, l_97, l_99, l_100, l_122, l_255, l_325, l_700, l_999, l_1000, l_1200, l_99999, l_100000, l_1000000, l_2000000000, l_N, n_add, n_mul, n_lt, n_out, n_div, n_dm, n_eq, n_toN, n_inN, n_ltN, n_nltN, n_neN, Nat.not_lt_zero, false_or, or_false, ite_y, ite_n, if_true, if_false, ite_tt, ite_ff, b_0, b_1, eq_self_iff_true, Bool.true_eq_false, Bool.false_eq_true]
  · have := g4 (w 1 - 1 - m) (by omega) c
    rwa [show w 1 - 1 - (w 1 - 1 - m) = m by omega] at this
  · rw [g2 (by omega) c]; rfl
end
