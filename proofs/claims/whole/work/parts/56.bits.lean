/-! bits -/
def bt (x : Int32) (k : Nat) : Bool := x.toBitVec.getLsbD k
theorem bt_ext {x y : Int32} (h : ∀ k, k < 32 → bt x k = bt y k) : x = y := Int32.toBitVec_inj.1 (BitVec.eq_of_getLsbD_eq (fun k hk => h k hk))
theorem bt_and (x y : Int32) (k : Nat) : bt (x &&& y) k = (bt x k && bt y k) := by unfold bt; rw [Int32.toBitVec_and, BitVec.getLsbD_and]
theorem bt_or (x y : Int32) (k : Nat) : bt (x ||| y) k = (bt x k || bt y k) := by unfold bt; rw [Int32.toBitVec_or, BitVec.getLsbD_or]
theorem bt_xor (x y : Int32) (k : Nat) : bt (x ^^^ y) k = (bt x k ^^ bt y k) := by unfold bt; rw [Int32.toBitVec_xor, BitVec.getLsbD_xor]
theorem bt_ge {x : Int32} {k : Nat} (h : 32 ≤ k) : bt x k = false := BitVec.getLsbD_of_ge _ _ h
theorem bt_nI (a k : Nat) : bt (nI a) k = (decide (k < 32) && a.testBit k) := by
  show (BitVec.ofNat 32 a).getLsbD k = _
  rw [BitVec.getLsbD_ofNat]
theorem bt_0 (k : Nat) : bt (nI 0) k = false := by rw [bt_nI]; simp
theorem bt_N (k : Nat) : bt nN k = decide (k < 32) := by
  by_cases h : k < 32
  · have : ∀ k, k < 32 → bt nN k = true := by decide
    rw [this k h]; simp [h]
  · rw [bt_ge (by omega)]; simp [h]
theorem bt_not (x : Int32) {k : Nat} (h : k < 32) : bt (x ^^^ nN) k = !bt x k := by rw [bt_xor, bt_N]; simp [h]
theorem sh_amt : ∀ n, n < 32 → ((nI n &&& nI 31).toBitVec.smod 32).toNat = n := by decide
theorem bt_shl {n : Nat} (hn : n < 32) (x : Int32) (k : Nat) : bt (x <<< (nI n &&& nI 31)) k = (decide (k < 32) && decide (n ≤ k) && bt x (k - n)) := by
  unfold bt
  rw [Int32.toBitVec_shiftLeft, BitVec.shiftLeft_eq', sh_amt n hn, BitVec.getLsbD_shiftLeft]
  by_cases h : n ≤ k
  · simp [h, Nat.not_lt.mpr h]
  · simp [h, Nat.lt_of_not_le h]
theorem bt_shr {n : Nat} (hn : n < 32) (x : Int32) {k : Nat} (hk : k + n < 32) : bt (x >>> (nI n &&& nI 31)) k = bt x (k + n) := by
  unfold bt
  rw [Int32.toBitVec_shiftRight, BitVec.sshiftRight_eq', sh_amt n hn, BitVec.getLsbD_sshiftRight]
  have h1 : ¬ 32 ≤ k := by omega
  have h2 : n + k < 32 := by omega
  simp [h1, h2, Nat.add_comm]
theorem bt_1 (k : Nat) : bt (nI 1) k = decide (k = 0) := by
  by_cases h : k < 32
  · have : ∀ k, k < 32 → bt (nI 1) k = decide (k = 0) := by decide
    exact this k h
  · rw [bt_ge (by omega)]
    have : ¬ k = 0 := by omega
    simp [this]
theorem bt_one {c : Nat} (hc : c < 32) (k : Nat) : bt (nI 1 <<< (nI c &&& nI 31)) k = decide (k = c) := by
  rw [bt_shl hc, bt_1]
  by_cases h : k = c
  · subst h; simp [hc]
  · by_cases h2 : c ≤ k
    · have : ¬ k - c = 0 := by omega
      simp [h, this]
    · simp [h, h2]
theorem bt_all {n : Nat} (hn : n ≤ 16) (k : Nat) : bt ((nI 1 <<< (nI n &&& nI 31)) - nI 1) k = decide (k < n) := by
  by_cases h : k < 32
  · have : ∀ n, n ≤ 16 → ∀ k, k < 32 → bt ((nI 1 <<< (nI n &&& nI 31)) - nI 1) k = decide (k < n) := by decide +kernel
    exact this n hn k h
  · rw [bt_ge (by omega)]
    have : ¬ k < n := by omega
    simp [this]
theorem bt_bI (b : Bool) (k : Nat) : bt (bI b) k = (b && decide (k = 0)) := by
  cases b with
  | false => exact bt_0 k
  | true => rw [b_t, bt_1]; simp
theorem bt_test {p : Nat} (hp : p < 32) (x : Int32) : (x >>> (nI p &&& nI 31)) &&& nI 1 = bI (bt x p) := by
  refine bt_ext fun k hk => ?_
  rw [bt_and, bt_1, bt_bI]
  by_cases h : k = 0
  · subst h
    rw [bt_shr hp x (by omega), Nat.zero_add]
  · simp [h]
theorem bt_eq0 {x : Int32} : x = nI 0 ↔ ∀ k, k < 32 → bt x k = false := by
  constructor
  · intro h k _; rw [h]; exact bt_0 k
  · intro h; exact bt_ext fun k hk => by rw [h k hk, bt_0]
/-- some number below n -/
def exb : Nat → (Nat → Bool) → Bool
  | 0, _ => false
  | n + 1, p => exb n p || p n
theorem exb_iff {p : Nat → Bool} : ∀ {n : Nat}, exb n p = true ↔ ∃ i, i < n ∧ p i = true := by
  intro n
  induction n with
  | zero =>
    constructor
    · intro h; cases h
    · rintro ⟨i, h, -⟩; omega
  | succ n ih =>
    unfold exb
    rw [Bool.or_eq_true_iff, ih]
    constructor
    · rintro (⟨i, h1, h2⟩ | h)
      · exact ⟨i, by omega, h2⟩
      · exact ⟨n, by omega, h⟩
    · rintro ⟨i, h1, h2⟩
      by_cases e : i = n
      · subst e; exact Or.inr h2
      · exact Or.inl ⟨i, by omega, h2⟩
theorem exb_no {p : Nat → Bool} {n : Nat} : exb n p = false ↔ ∀ i, i < n → p i = false := by
  constructor
  · intro h i hi
    cases hp : p i with
    | false => rfl
    | true => rw [exb_iff.mpr ⟨i, hi, hp⟩] at h; cases h
  · intro h
    cases hp : exb n p with
    | false => rfl
    | true => obtain ⟨i, h1, h2⟩ := exb_iff.mp hp; rw [h i h1] at h2; cases h2
theorem exb_eq {p q : Nat → Bool} {n : Nat} (h : ∀ i, i < n → p i = q i) : exb n p = exb n q := by
  induction n with
  | zero => rfl
  | succ n ih => unfold exb; rw [ih (fun i hi => h i (by omega)), h n (by omega)]
section
variable {X : AX} {d : Nat} {I : A3 Int32} {L : A3 Int64} {w : TW}
theorem c_fill {f i n : Nat} {x : Int32} (hf : fty f = 1) (hn : fln f = n) (hs : n < 10000) (hd : 1 ≤ d) : ∃ I', K_J7_fill_53178 X d f i x (I, L, ()) = some (none, (I', L, ())) ∧ Rw f i I I' ∧ ∀ j, j < n → I' f i j = x := by
  obtain ⟨e, rfl⟩ : ∃ e, d = e + 1 := ⟨d - 1, by omega⟩
  obtain ⟨J, ⟨g1, g2⟩, g3⟩ := loop_z (F := fun m (J : A3 Int32) => v_J7_fill_53178_5 X e f i x (nI m) (nI n) (J, L, ())) (P := fun m J => Rw f i I J ∧ ∀ j, j < m → J f i j = x) n I ⟨Rw.refl, fun j hj => by omega⟩ (fun m J hm hP => by
    refine ⟨up3 J f i m x, ⟨hP.1.up, fun j hj => ?_⟩, fun r hr => ?_⟩
    · by_cases ej : j = m
      · subst ej; exact u3_eq _ _ _ _ _
      · rw [u3_j _ _ ej]; exact hP.2 j (by omega)
    · refine v_J7_fill_53178_5.e X e _ _ _ _ _ J L r ?_
      rw [hn]
      simp (disch := omega) only [a_bi_i, a_bv_n, a_bl_l, a_bq_q, l_0, l_1, l_2, l_3, l_4, l_5, l_6, l_7, l_8, l_9, l_10, l_12, l_16, l_20, l_24, l_25, l_31, l_32, l_33, l_40, l_48, l_57, l_60, l_63, l_64, l_78, l_85, l_97, l_99, l_100, l_122, l_255, l_325, l_700, l_999, l_1000, l_1200, l_99999, l_100000, l_1000000, l_2000000000, l_N, n_add, n_mul, n_lt, n_out, n_div, n_dm, n_eq, n_toN, n_inN, n_ltN, n_nltN, n_neN, Nat.not_lt_zero, false_or, or_false, ite_y, ite_n, if_true, if_false, ite_tt, ite_ff, b_0, b_1, eq_self_iff_true, Bool.true_eq_false, Bool.false_eq_true, hf]
      exact hr)
  refine ⟨J, K_J7_fill_53178.e X e f i x I L _ ?_, g1, g2⟩
  rw [hn, if_pos (by rw [hf]; decide)]
  refine g3 _ (v_J7_fill_53178_5.e X e _ _ _ _ _ J L _ ?_)
  simp (disch := omega) only [a_bi_i, a_bv_n, a_bl_l, a_bq_q, l_0, l_1, l_2, l_3, l_4, l_5, l_6, l_7, l_8, l_9, l_10, l_12, l_16, l_20, l_24, l_25, l_31, l_32, l_33, l_40, l_48, l_57, l_60, l_63, l_64, l_78, l_85, l_97, l_99, l_100, l_122, l_255, l_325, l_700, l_999, l_1000, l_1200, l_99999, l_100000, l_1000000, l_2000000000, l_N, n_add, n_mul, n_lt, n_out, n_div, n_dm, n_eq, n_toN, n_inN, n_ltN, n_nltN, n_neN, Nat.not_lt_zero, false_or, or_false, ite_y, ite_n, if_true, if_false, ite_tt, ite_ff, b_0, b_1, eq_self_iff_true, Bool.true_eq_false, Bool.false_eq_true]
theorem c_allCoaches (h : TC I w) (hd : 1 ≤ d) : K_X9_allCoaches X d 0 (I, L, ()) = some (some (aI ((nI 1 <<< (nI (w 0) &&& nI 31)) - nI 1)), (I, L, ())) := by
  obtain ⟨e, rfl⟩ : ∃ e, d = e + 1 := ⟨d - 1, by omega⟩
  refine K_X9_allCoaches.e X e 0 I L _ ?_
  rw [h.1 0 (by decide)]
  rfl
theorem c_markBits (h : TC I w) (v : Vw w) {k : Nat} (hk : k < 3) (hd : 2 ≤ d) : ∃ x, K_X9_markBits X d 0 (nI k) (I, L, ()) = some (some (aI x), (I, L, ())) ∧ ∀ c, bt x c = (decide (c < w 0) && decide (w (9 + (c * 3 + k)) = 1)) := by
  obtain ⟨e, rfl⟩ : ∃ e, d = e + 1 := ⟨d - 1, by omega⟩
  obtain ⟨⟨h0, h1, -⟩, -, vc, -⟩ := id v
  obtain ⟨x, g1, g2⟩ := loop_z (F := fun m (x : Int32) => v_X9_markBits_4 X e 0 (nI k) x (nI m) (I, L, ())) (P := fun m x => ∀ c, bt x c = (decide (c < m) && decide (w (9 + (c * 3 + k)) = 1))) (w 0) (nI 0) (fun c => by rw [bt_0]; simp) (fun m x hm hP => by
    have hsm : w (9 + (m * 3 + k)) < 2147483648 := by
      have := vc m (by omega)
      rcases (show k = 0 ∨ k = 1 ∨ k = 2 by omega) with rfl | rfl | rfl
      · rw [show 9 + (m * 3 + 0) = 9 + 3 * m by omega]; omega
      · rw [show 9 + (m * 3 + 1) = 10 + 3 * m by omega]; omega
      · rw [show 9 + (m * 3 + 2) = 11 + 3 * m by omega]; omega
    by_cases h1 : w (9 + (m * 3 + k)) = 1
    · refine ⟨x ||| (nI 1 <<< (nI m &&& nI 31)), fun c => ?_, fun r hr => ?_⟩
      · rw [bt_or, hP c, bt_one (by omega)]
        by_cases e : c = m
        · subst e; simp [h1]
        · have e1 : (c < m + 1) ↔ c < m := by omega
          simp [e, e1]
      · refine v_X9_markBits_4.e X e _ _ _ _ I L r ?_
        rw [h.1 0 (by decide)]
        simp (disch := omega) only [c_ofCoach h v, a_bi_i, a_bv_n, a_bl_l, a_bq_q, l_0, l_1, l_2, l_3, l_4, l_5, l_6, l_7, l_8, l_9, l_10, l_12, l_16, l_20, l_24, l_25, l_31, l_32, l_33, l_40, l_48, l_57, l_60, l_63, l_64, l_78, l_85, l_97, l_99, l_100, l_122, l_255, l_325, l_700, l_999, l_1000, l_1200, l_99999, l_100000, l_1000000, l_2000000000, l_N, n_add, n_mul, n_lt, n_out, n_div, n_dm, n_eq, n_toN, n_inN, n_ltN, n_nltN, n_neN, Nat.not_lt_zero, false_or, or_false, ite_y, ite_n, if_true, if_false, ite_tt, ite_ff, b_0, b_1, eq_self_iff_true, Bool.true_eq_false, Bool.false_eq_true, h1]
        exact hr
    · refine ⟨x, fun c => ?_, fun r hr => ?_⟩
      · rw [hP c]
        by_cases e : c = m
        · subst e; simp [h1]
        · have e1 : (c < m + 1) ↔ c < m := by omega
          simp [e1]
      · refine v_X9_markBits_4.e X e _ _ _ _ I L r ?_
        rw [h.1 0 (by decide)]
        simp (disch := omega) only [c_ofCoach h v, a_bi_i, a_bv_n, a_bl_l, a_bq_q, l_0, l_1, l_2, l_3, l_4, l_5, l_6, l_7, l_8, l_9, l_10, l_12, l_16, l_20, l_24, l_25, l_31, l_32, l_33, l_40, l_48, l_57, l_60, l_63, l_64, l_78, l_85, l_97, l_99, l_100, l_122, l_255, l_325, l_700, l_999, l_1000, l_1200, l_99999, l_100000, l_1000000, l_2000000000, l_N, n_add, n_mul, n_lt, n_out, n_div, n_dm, n_eq, n_toN, n_inN, n_ltN, n_nltN, n_neN, Nat.not_lt_zero, false_or, or_false, ite_y, ite_n, if_true, if_false, ite_tt, ite_ff, b_0, b_1, eq_self_iff_true, Bool.true_eq_false, Bool.false_eq_true, h1]
        exact hr)
  refine ⟨x, K_X9_markBits.e X e 0 _ I L _ (g2 _ ?_), g1⟩
  refine v_X9_markBits_4.e X e _ _ _ _ I L _ ?_
  rw [h.1 0 (by decide)]
  simp (disch := omega) only [a_bi_i, a_bv_n, a_bl_l, a_bq_q, l_0, l_1, l_2, l_3, l_4, l_5, l_6, l_7, l_8, l_9, l_10, l_12, l_16, l_20, l_24, l_25, l_31, l_32, l_33, l_40, l_48, l_57, l_60, l_63, l_64, l_78, l_85, l_97, l_99, l_100, l_122, l_255, l_325, l_700, l_999, l_1000, l_1200, l_99999, l_100000, l_1000000, l_2000000000, l_N, n_add, n_mul, n_lt, n_out, n_div, n_dm, n_eq, n_toN, n_inN, n_ltN, n_nltN, n_neN, Nat.not_lt_zero, false_or, or_false, ite_y, ite_n, if_true, if_false, ite_tt, ite_ff, b_0, b_1, eq_self_iff_true, Bool.true_eq_false, Bool.false_eq_true]
theorem c_looBits (h : TC I w) (v : Vw w) (hd : 3 ≤ d) : ∃ x, K_X9_looBits X d 0 (I, L, ()) = some (some (aI x), (I, L, ())) ∧ ∀ c, bt x c = (decide (c < w 0) && decide (w (10 + 3 * c) = 1)) := by
  obtain ⟨e, rfl⟩ : ∃ e, d = e + 1 := ⟨d - 1, by omega⟩
  obtain ⟨x, g1, g2⟩ := c_markBits (X := X) (d := e) (L := L) h v (show 1 < 3 by decide) (by omega)
  refine ⟨x, K_X9_looBits.e X e 0 I L _ ?_, fun c => by rw [g2 c, show 9 + (c * 3 + 1) = 10 + 3 * c by omega]⟩
  simp only [l_0, l_1, l_2, l_3, l_4, l_5, l_6, l_7, l_8, l_9, l_10, l_12, l_16, l_20, l_24, l_25, l_31, l_32, l_33, l_40, l_48, l_57, l_60, l_63, l_64, l_78, l_85, l_97, l_99, l_100, l_122, l_255, l_325, l_700, l_999, l_1000, l_1200, l_99999, l_100000, l_1000000, l_2000000000, l_N, g1, a_bi_i]
theorem c_doorBits (h : TC I w) (v : Vw w) (hd : 3 ≤ d) : ∃ x, K_X9_doorBits X d 0 (I, L, ()) = some (some (aI x), (I, L, ())) ∧ ∀ c, bt x c = (decide (c < w 0) && decide (w (11 + 3 * c) = 1)) := by
  obtain ⟨e, rfl⟩ : ∃ e, d = e + 1 := ⟨d - 1, by omega⟩
  obtain ⟨x, g1, g2⟩ := c_markBits (X := X) (d := e) (L := L) h v (show 2 < 3 by decide) (by omega)
  refine ⟨x, K_X9_doorBits.e X e 0 I L _ ?_, fun c => by rw [g2 c, show 9 + (c * 3 + 2) = 11 + 3 * c by omega]⟩
  simp only [l_0, l_1, l_2, l_3, l_4, l_5, l_6, l_7, l_8, l_9, l_10, l_12, l_16, l_20, l_24, l_25, l_31, l_32, l_33, l_40, l_48, l_57, l_60, l_63, l_64, l_78, l_85, l_97, l_99, l_100, l_122, l_255, l_325, l_700, l_999, l_1000, l_1200, l_99999, l_100000, l_1000000, l_2000000000, l_N, g1, a_bi_i]
end
