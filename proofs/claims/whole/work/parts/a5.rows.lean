/-! row, write, paste -/
theorem se_b {n m i : Nat} (x : BitVec n) : (x.signExtend m).getLsbD i = (decide (i < m) && x.getLsbD (if i < n then i else n - 1)) := by
  rw [BitVec.getLsbD_signExtend, BitVec.msb_eq_getLsbD_last]
  split <;> rfl
theorem sx_b {i : Nat} (v : BitVec 64) (s k : Nat) (h : s + k = 64) (hk : 0 < k) : ((v <<< s).sshiftRight s).getLsbD i = (decide (i < 64) && v.getLsbD (if i < k then i else k - 1)) := by
  rw [BitVec.getLsbD_sshiftRight, BitVec.msb_eq_getLsbD_last, BitVec.getLsbD_shiftLeft, BitVec.getLsbD_shiftLeft]
  by_cases h1 : i < 64
  · have h2 : ¬ 64 ≤ i := by omega
    by_cases h3 : i < k
    · have a1 : s + i < 64 := by omega
      have a2 : ¬ s + i < s := by omega
      have a3 : s + i - s = i := by omega
      simp [h1, h2, h3, a1, a3]
    · have a1 : ¬ s + i < 64 := by omega
      have a2 : ¬ 64 - 1 < s := by omega
      have a3 : 64 - 1 - s = k - 1 := by omega
      have a4 : ¬ 63 < s := by omega
      have a5 : 63 - s = k - 1 := by omega
      simp [h1, h2, h3, a1, a4, a5]
  · have h2 : 64 ≤ i := by omega
    simp [h1, h2]
theorem cut_0 (v : Int64) : (v <<< ((((64 : Int32) - ((8 : Int32) <<< (nI 0 &&& 31))).toInt64) &&& 63)) >>> ((((64 : Int32) - ((8 : Int32) <<< (nI 0 &&& 31))).toInt64) &&& 63) = v.toInt32.toInt8.toInt32.toInt64 := by
  rw [show ((((64 : Int32) - ((8 : Int32) <<< (nI 0 &&& 31))).toInt64) &&& 63) = (56 : Int64) by decide]
  refine Int64.toBitVec_inj.1 (BitVec.eq_of_getLsbD_eq (fun i hi => ?_))
  rw [Int64.toBitVec_shiftRight, Int64.toBitVec_shiftLeft, BitVec.sshiftRight_eq', BitVec.shiftLeft_eq', show (((56 : Int64).toBitVec.smod 64).toNat) = 56 by decide, sx_b _ 56 8 (by decide) (by decide), Int32.toBitVec_toInt64, Int8.toBitVec_toInt32, Int32.toBitVec_toInt8, Int64.toBitVec_toInt32, se_b, se_b, se_b, se_b]
  by_cases h8 : i < 8
  · simp [h8, hi, show i < 32 by omega]
  · by_cases h32 : i < 32 <;> simp [h8, hi, h32]
theorem cut_1 (v : Int64) : (v <<< ((((64 : Int32) - ((8 : Int32) <<< (nI 1 &&& 31))).toInt64) &&& 63)) >>> ((((64 : Int32) - ((8 : Int32) <<< (nI 1 &&& 31))).toInt64) &&& 63) = v.toInt32.toInt16.toInt32.toInt64 := by
  rw [show ((((64 : Int32) - ((8 : Int32) <<< (nI 1 &&& 31))).toInt64) &&& 63) = (48 : Int64) by decide]
  refine Int64.toBitVec_inj.1 (BitVec.eq_of_getLsbD_eq (fun i hi => ?_))
  rw [Int64.toBitVec_shiftRight, Int64.toBitVec_shiftLeft, BitVec.sshiftRight_eq', BitVec.shiftLeft_eq', show (((48 : Int64).toBitVec.smod 64).toNat) = 48 by decide, sx_b _ 48 16 (by decide) (by decide), Int32.toBitVec_toInt64, Int16.toBitVec_toInt32, Int32.toBitVec_toInt16, Int64.toBitVec_toInt32, se_b, se_b, se_b, se_b]
  by_cases h8 : i < 16
  · simp [h8, hi, show i < 32 by omega]
  · by_cases h32 : i < 32 <;> simp [h8, hi, h32]
theorem cut_2 (v : Int64) : (v <<< ((((64 : Int32) - ((8 : Int32) <<< (nI 2 &&& 31))).toInt64) &&& 63)) >>> ((((64 : Int32) - ((8 : Int32) <<< (nI 2 &&& 31))).toInt64) &&& 63) = v.toInt32.toInt64 := by
  rw [show ((((64 : Int32) - ((8 : Int32) <<< (nI 2 &&& 31))).toInt64) &&& 63) = (32 : Int64) by decide]
  refine Int64.toBitVec_inj.1 (BitVec.eq_of_getLsbD_eq (fun i hi => ?_))
  rw [Int64.toBitVec_shiftRight, Int64.toBitVec_shiftLeft, BitVec.sshiftRight_eq', BitVec.shiftLeft_eq', show (((32 : Int64).toBitVec.smod 64).toNat) = 32 by decide, sx_b _ 32 32 (by decide) (by decide), Int32.toBitVec_toInt64, Int64.toBitVec_toInt32, se_b, se_b]
  by_cases h32 : i < 32 <;> simp [hi, h32]
theorem cut_3 (v : Int64) : (v <<< ((((64 : Int32) - ((8 : Int32) <<< (nI 3 &&& 31))).toInt64) &&& 63)) >>> ((((64 : Int32) - ((8 : Int32) <<< (nI 3 &&& 31))).toInt64) &&& 63) = v := by
  rw [show ((((64 : Int32) - ((8 : Int32) <<< (nI 3 &&& 31))).toInt64) &&& 63) = (0 : Int64) by decide]
  refine Int64.toBitVec_inj.1 (BitVec.eq_of_getLsbD_eq (fun i hi => ?_))
  rw [Int64.toBitVec_shiftRight, Int64.toBitVec_shiftLeft, BitVec.sshiftRight_eq', BitVec.shiftLeft_eq', show (((0 : Int64).toBitVec.smod 64).toNat) = 0 by decide, sx_b _ 0 64 (by decide) (by decide)]
  simp [hi]
def cutV (wd : Nat) (v : Int64) : Int64 := if wd = 0 then v.toInt32.toInt8.toInt32.toInt64 else if wd = 1 then v.toInt32.toInt16.toInt32.toInt64 else if wd = 2 then v.toInt32.toInt64 else v
section
variable {X : AX} {d : Nat} {I J : A3 Int32} {L L' : A3 Int64} {w : TW} {e : CE} {im : TI} {n : Nat} {b : Nat → Int8} {t : TS}
theorem m_cut {wd : Nat} {v : Int64} (hw : wd ≤ 3) (hd : 1 ≤ d) : K_X11_cut X d v (nI wd) (I, L, ()) = some (some (aL (cutV wd v)), (I, L, ())) := by
  obtain ⟨g, rfl⟩ : ∃ g, d = g + 1 := ⟨d - 1, by omega⟩
  refine K_X11_cut.e X g _ _ I L _ ?_
  rcases (show wd = 0 ∨ wd = 1 ∨ wd = 2 ∨ wd = 3 by omega) with rfl | rfl | rfl | rfl
  · rw [cut_0]; rfl
  · rw [cut_1]; rfl
  · rw [cut_2]; rfl
  · rw [cut_3]; rfl
theorem c_putL {s wd i : Nat} {v : Int64} (hw : wd ≤ 3) (h2 : I 32 s 2 = nI wd) (hi : i < 60) (hd : 1 ≤ d) : K_X6_put X d s (nI i) v (I, L, ()) = some (none, (I, up3 L 33 s i (cutV wd v), ())) := by
  obtain ⟨g, rfl⟩ : ∃ g, d = g + 1 := ⟨d - 1, by omega⟩
  refine K_X6_put.e X g _ _ _ I L _ ?_
  rw [h2]
  rcases (show wd = 0 ∨ wd = 1 ∨ wd = 2 ∨ wd = 3 by omega) with rfl | rfl | rfl | rfl
  · simp (disch := omega) only [a_bi_i, a_bv_n, a_bl_l, a_bq_q, l_0, l_1, l_2, l_3, l_4, l_5, l_6, l_7, l_8, l_9, l_10, l_12, l_16, l_20, l_24, l_25, l_31, l_32, l_33, l_40, l_48, l_57, l_60, l_63, l_64, l_78, l_85, l_97, l_99, l_100, l_122, l_255, l_325, l_700, l_999, l_1000, l_1200, l_99999, l_100000, l_1000000, l_2000000000, l_N, n_add, n_mul, n_lt, n_out, n_div, n_dm, n_eq, n_toN, n_inN, n_ltN, n_nltN, n_neN, Nat.not_lt_zero, false_or, or_false, ite_y, ite_n, if_true, if_false, ite_tt, ite_ff, b_0, b_1, eq_self_iff_true, Bool.true_eq_false, Bool.false_eq_true]; rfl
  · have c1 : ¬ (1 = 0) := by decide
    simp (disch := omega) only [a_bi_i, a_bv_n, a_bl_l, a_bq_q, l_0, l_1, l_2, l_3, l_4, l_5, l_6, l_7, l_8, l_9, l_10, l_12, l_16, l_20, l_24, l_25, l_31, l_32, l_33, l_40, l_48, l_57, l_60, l_63, l_64, l_78, l_85, l_97, l_99, l_100, l_122, l_255, l_325, l_700, l_999, l_1000, l_1200, l_99999, l_100000, l_1000000, l_2000000000, l_N, n_add, n_mul, n_lt, n_out, n_div, n_dm, n_eq, n_toN, n_inN, n_ltN, n_nltN, n_neN, Nat.not_lt_zero, false_or, or_false, ite_y, ite_n, if_true, if_false, ite_tt, ite_ff, b_0, b_1, eq_self_iff_true, Bool.true_eq_false, Bool.false_eq_true, c1]; rfl
  · have c1 : ¬ (2 = 0) := by decide
    have c2 : ¬ (2 = 1) := by decide
    simp (disch := omega) only [a_bi_i, a_bv_n, a_bl_l, a_bq_q, l_0, l_1, l_2, l_3, l_4, l_5, l_6, l_7, l_8, l_9, l_10, l_12, l_16, l_20, l_24, l_25, l_31, l_32, l_33, l_40, l_48, l_57, l_60, l_63, l_64, l_78, l_85, l_97, l_99, l_100, l_122, l_255, l_325, l_700, l_999, l_1000, l_1200, l_99999, l_100000, l_1000000, l_2000000000, l_N, n_add, n_mul, n_lt, n_out, n_div, n_dm, n_eq, n_toN, n_inN, n_ltN, n_nltN, n_neN, Nat.not_lt_zero, false_or, or_false, ite_y, ite_n, if_true, if_false, ite_tt, ite_ff, b_0, b_1, eq_self_iff_true, Bool.true_eq_false, Bool.false_eq_true, c1, c2]; rfl
  · have c1 : ¬ (3 = 0) := by decide
    have c2 : ¬ (3 = 1) := by decide
    have c3 : ¬ (3 = 2) := by decide
    simp (disch := omega) only [a_bi_i, a_bv_n, a_bl_l, a_bq_q, l_0, l_1, l_2, l_3, l_4, l_5, l_6, l_7, l_8, l_9, l_10, l_12, l_16, l_20, l_24, l_25, l_31, l_32, l_33, l_40, l_48, l_57, l_60, l_63, l_64, l_78, l_85, l_97, l_99, l_100, l_122, l_255, l_325, l_700, l_999, l_1000, l_1200, l_99999, l_100000, l_1000000, l_2000000000, l_N, n_add, n_mul, n_lt, n_out, n_div, n_dm, n_eq, n_toN, n_inN, n_ltN, n_nltN, n_neN, Nat.not_lt_zero, false_or, or_false, ite_y, ite_n, if_true, if_false, ite_tt, ite_ff, b_0, b_1, eq_self_iff_true, Bool.true_eq_false, Bool.false_eq_true, c1, c2, c3]; rfl
theorem RB.slot {t' : TS} (h : RB I L w e im n b t) (hf : ∀ f, f ∈ KPL → f ≠ 32 → f ≠ 59 → f ≠ 60 → J f = I f) (h40 : J 40 = I 40) (h1 : SC J L' t') (h2 : SM J L' t') (h3 : Vt t') : RB J L' w e im n b t' := by
  obtain ⟨a1, a2, a3, a4, a5, a6, a7, a8, a9, a10⟩ := h
  have hk : ∀ f, 5 ≤ f → f ≤ 11 → J f = I f := fun f h1 h2 => hf f (by
    rcases (show f = 5 ∨ f = 6 ∨ f = 7 ∨ f = 8 ∨ f = 9 ∨ f = 10 ∨ f = 11 by omega) with rfl | rfl | rfl | rfl | rfl | rfl | rfl <;> decide) (by omega) (by omega) (by omega)
  refine ⟨a1.fams (fun f h1 h2 => by rw [hk f h1 h2]), by rw [hf 41 (by decide) (by decide) (by decide) (by decide)]; exact a2, a3, a4, a5.fams (fun f q h1 h2 _ => by rw [hk f h1 h2]) (hf 42 (by decide) (by decide) (by decide) (by decide)) (hf 43 (by decide) (by decide) (by decide) (by decide)), a6.fams (hf 1 (by decide) (by decide) (by decide) (by decide)) (hf 2 (by decide) (by decide) (by decide) (by decide)) (hf 44 (by decide) (by decide) (by decide) (by decide)) (by rw [h40]), ?_, h1, h2, h3⟩
  unfold FL
  rw [h40, hf 3 (by decide) (by decide) (by decide) (by decide)]; exact a7
theorem c_fillL {f i N : Nat} {x : Int64} (hf : fty f = 4) (hn : fln f = N) (hs : N < 10000) (hd : 1 ≤ d) : ∃ L', K_J7_fill_d0a16 X d f i x (I, L, ()) = some (none, (I, L', ())) ∧ (∀ g q, (g ≠ f ∨ q ≠ i) → L' g q = L g q) ∧ ∀ j, j < N → L' f i j = x := by
  obtain ⟨e, rfl⟩ : ∃ e, d = e + 1 := ⟨d - 1, by omega⟩
  obtain ⟨J, ⟨g1, g2⟩, g3⟩ := loop_z (F := fun m (J : A3 Int64) => v_J7_fill_d0a16_6 X e f i x (nI m) (nI N) (I, J, ())) (P := fun m J => (∀ g q, (g ≠ f ∨ q ≠ i) → J g q = L g q) ∧ ∀ j, j < m → J f i j = x) N L ⟨fun _ _ _ => rfl, fun j hj => by omega⟩ (fun m J hm hP => by
    refine ⟨up3 J f i m x, ⟨fun g q hq => ?_, fun j hj => ?_⟩, fun r hr => ?_⟩
    · by_cases z : g = f
      · subst z; rw [u3_i _ _ (by omega)]; exact hP.1 g q hq
      · rw [u3_f _ _ z]; exact hP.1 g q hq
    · by_cases ej : j = m
      · subst ej; exact u3_eq _ _ _ _ _
      · rw [u3_j _ _ ej]; exact hP.2 j (by omega)
    · refine v_J7_fill_d0a16_6.e X e _ _ _ _ _ I J r ?_
      rw [hn]
      simp (disch := omega) only [a_bi_i, a_bv_n, a_bl_l, a_bq_q, l_0, l_1, l_2, l_3, l_4, l_5, l_6, l_7, l_8, l_9, l_10, l_12, l_16, l_20, l_24, l_25, l_31, l_32, l_33, l_40, l_48, l_57, l_60, l_63, l_64, l_78, l_85, l_97, l_99, l_100, l_122, l_255, l_325, l_700, l_999, l_1000, l_1200, l_99999, l_100000, l_1000000, l_2000000000, l_N, n_add, n_mul, n_lt, n_out, n_div, n_dm, n_eq, n_toN, n_inN, n_ltN, n_nltN, n_neN, Nat.not_lt_zero, false_or, or_false, ite_y, ite_n, if_true, if_false, ite_tt, ite_ff, b_0, b_1, eq_self_iff_true, Bool.true_eq_false, Bool.false_eq_true, hf]
      exact hr)
  refine ⟨J, K_J7_fill_d0a16.e X e f i x I L _ ?_, g1, g2⟩
  rw [hn, if_pos (by rw [hf]; decide)]
  refine g3 _ (v_J7_fill_d0a16_6.e X e _ _ _ _ _ I J _ ?_)
  simp (disch := omega) only [a_bi_i, a_bv_n, a_bl_l, a_bq_q, l_0, l_1, l_2, l_3, l_4, l_5, l_6, l_7, l_8, l_9, l_10, l_12, l_16, l_20, l_24, l_25, l_31, l_32, l_33, l_40, l_48, l_57, l_60, l_63, l_64, l_78, l_85, l_97, l_99, l_100, l_122, l_255, l_325, l_700, l_999, l_1000, l_1200, l_99999, l_100000, l_1000000, l_2000000000, l_N, n_add, n_mul, n_lt, n_out, n_div, n_dm, n_eq, n_toN, n_inN, n_ltN, n_nltN, n_neN, Nat.not_lt_zero, false_or, or_false, ite_y, ite_n, if_true, if_false, ite_tt, ite_ff, b_0, b_1, eq_self_iff_true, Bool.true_eq_false, Bool.false_eq_true]
/-- slot s anew -/
def tput (t : TS) (s : Nat) (x : Nat × Nat × (Nat → Int64)) : TS := fun j => if j = s then some x else t j
theorem Vt.put (h : Vt t) {s wd m : Nat} {g : Nat → Int64} (h1 : wd ≤ 3) (h2 : m ≤ 60) : Vt (tput t s (wd, m, g)) := by
  intro s' wd' n' g' hs
  unfold tput at hs
  split at hs
  · cases hs; exact ⟨h1, h2⟩
  · exact h s' wd' n' g' hs
theorem SC.put (h : SC I L t) {s wd m : Nat} {g : Nat → Int64} (hI : ∀ q, q ≠ s → J 32 q = I 32 q) (hL : ∀ q, q ≠ s → L' 33 q = L 33 q) (h1 : J 32 s 1 = nI 1) (h2 : J 32 s 2 = nI wd) (h3 : J 32 s 3 = nI m) (h4 : ∀ j, j < 60 → L' 33 s j = g j) : SC J L' (tput t s (wd, m, g)) := by
  intro s' hs'
  by_cases z : s' = s
  · subst z
    unfold tput
    rw [if_pos rfl]
    exact ⟨h1, h2, h3, h4⟩
  · unfold tput
    rw [if_neg z, hI s' z, hL s' z]
    exact h s' hs'
theorem SM.put (h : SM I L t) {s wd m : Nat} {g : Nat → Int64} (hs : s < 4) (hI : ∀ q, q ≠ s → J 59 0 q = I 59 0 q ∧ J 60 0 q = I 60 0 q) (hL : ∀ j, (j < 60 * s ∨ 60 * s + 60 ≤ j) → L' 61 0 j = L 61 0 j) (h1 : J 59 0 s = nI m) (h2 : J 60 0 s = nI wd) (h4 : ∀ j, j < 60 → L' 61 0 (60 * s + j) = g j) : SM J L' (tput t s (wd, m, g)) := by
  intro s' hs'
  by_cases z : s' = s
  · subst z
    unfold tput
    rw [if_pos rfl]
    exact ⟨h1, h2, h4⟩
  · have := h s' hs'
    unfold tput
    rw [if_neg z, (hI s' z).1, (hI s' z).2]
    cases ht : t s' with
    | none => rw [ht] at this; exact this
    | some p =>
      obtain ⟨wd', n', g'⟩ := p
      rw [ht] at this
      exact ⟨this.1, this.2.1, fun j hj => by rw [hL _ (by omega)]; exact this.2.2 j hj⟩
theorem g_row (hR : Rel I L) (a b' c : Int32) : Good (K_X10_row X 15 a b' c) (K_X11_row X 15 a b' c) I L := by
  obtain ⟨w, e, im, n, b, t, h, hh⟩ := id hR
  have hS1 := h.2.2.2.2.2.2.2.1
  have hS2 := h.2.2.2.2.2.2.2.2.1
  have hV := h.2.2.2.2.2.2.2.2.2
  have m4 : ∀ (M : A3 Int32) (L2 : A3 Int64), K_X11_in X 14 b'.toInt64 (0 : Int64) (3 : Int64) (M, L2, ()) = some (some (aI (bI (inr b' (3 + 1)))), (M, L2, ())) := fun M L2 => m_inM (k := 3) (by decide) rfl (by omega)
  cases ha : inr a 4 with
  | false =>
    refine good_pure hR (-2) (K_X10_row.e X 14 a b' c I L _ ?_) (K_X11_row.e X 14 a b' c I L _ ?_)
    · simp (disch := omega) only [c_isSlot, ha, a_bi_i, a_bv_n, a_bl_l, a_bq_q, l_0, l_1, l_2, l_3, l_4, l_5, l_6, l_7, l_8, l_9, l_10, l_12, l_16, l_20, l_24, l_25, l_31, l_32, l_33, l_40, l_48, l_57, l_60, l_63, l_64, l_78, l_85, l_97, l_99, l_100, l_122, l_255, l_325, l_700, l_999, l_1000, l_1200, l_99999, l_100000, l_1000000, l_2000000000, l_N, n_add, n_mul, n_lt, n_out, n_div, n_dm, n_eq, n_toN, n_inN, n_ltN, n_nltN, n_neN, Nat.not_lt_zero, false_or, or_false, ite_y, ite_n, if_true, if_false, ite_tt, ite_ff, b_0, b_1, eq_self_iff_true, Bool.true_eq_false, Bool.false_eq_true]
    · simp (disch := omega) only [m_isSlot, ha, a_bi_i, a_bv_n, a_bl_l, a_bq_q, l_0, l_1, l_2, l_3, l_4, l_5, l_6, l_7, l_8, l_9, l_10, l_12, l_16, l_20, l_24, l_25, l_31, l_32, l_33, l_40, l_48, l_57, l_60, l_63, l_64, l_78, l_85, l_97, l_99, l_100, l_122, l_255, l_325, l_700, l_999, l_1000, l_1200, l_99999, l_100000, l_1000000, l_2000000000, l_N, n_add, n_mul, n_lt, n_out, n_div, n_dm, n_eq, n_toN, n_inN, n_ltN, n_nltN, n_neN, Nat.not_lt_zero, false_or, or_false, ite_y, ite_n, if_true, if_false, ite_tt, ite_ff, b_0, b_1, eq_self_iff_true, Bool.true_eq_false, Bool.false_eq_true]
  | true =>
    obtain ⟨s, hs, rfl⟩ := inr_ex (by omega) ha
    cases hb : inr b' (3 + 1) with
    | false =>
      refine good_pure hR (-2) (K_X10_row.e X 14 _ b' c I L _ ?_) (K_X11_row.e X 14 _ b' c I L _ ?_)
      · simp (disch := omega) only [c_isSlot, ha, a_bi_i, a_bv_n, a_bl_l, a_bq_q, l_0, l_1, l_2, l_3, l_4, l_5, l_6, l_7, l_8, l_9, l_10, l_12, l_16, l_20, l_24, l_25, l_31, l_32, l_33, l_40, l_48, l_57, l_60, l_63, l_64, l_78, l_85, l_97, l_99, l_100, l_122, l_255, l_325, l_700, l_999, l_1000, l_1200, l_99999, l_100000, l_1000000, l_2000000000, l_N, n_add, n_mul, n_lt, n_out, n_div, n_dm, n_eq, n_toN, n_inN, n_ltN, n_nltN, n_neN, Nat.not_lt_zero, false_or, or_false, ite_y, ite_n, if_true, if_false, ite_tt, ite_ff, b_0, b_1, eq_self_iff_true, Bool.true_eq_false, Bool.false_eq_true]
        rcases inr_le (by decide) hb with q | q <;> simp only [q, if_true]
        split <;> rfl
      · simp (disch := omega) only [m_isSlot, ha, m4, hb, a_bi_i, a_bv_n, a_bl_l, a_bq_q, l_0, l_1, l_2, l_3, l_4, l_5, l_6, l_7, l_8, l_9, l_10, l_12, l_16, l_20, l_24, l_25, l_31, l_32, l_33, l_40, l_48, l_57, l_60, l_63, l_64, l_78, l_85, l_97, l_99, l_100, l_122, l_255, l_325, l_700, l_999, l_1000, l_1200, l_99999, l_100000, l_1000000, l_2000000000, l_N, n_add, n_mul, n_lt, n_out, n_div, n_dm, n_eq, n_toN, n_inN, n_ltN, n_nltN, n_neN, Nat.not_lt_zero, false_or, or_false, ite_y, ite_n, if_true, if_false, ite_tt, ite_ff, b_0, b_1, eq_self_iff_true, Bool.true_eq_false, Bool.false_eq_true]
    | true =>
      obtain ⟨wd, hw, rfl⟩ := inr_ex (by omega) hb
      by_cases c60 : nI 60 < c
      · refine good_pure hR (-2) (K_X10_row.e X 14 _ _ c I L _ ?_) (K_X11_row.e X 14 _ _ c I L _ ?_)
        · have q3 : ¬ 3 < wd := by omega
          simp (disch := omega) only [c_isSlot, ha, q3, c60, a_bi_i, a_bv_n, a_bl_l, a_bq_q, l_0, l_1, l_2, l_3, l_4, l_5, l_6, l_7, l_8, l_9, l_10, l_12, l_16, l_20, l_24, l_25, l_31, l_32, l_33, l_40, l_48, l_57, l_60, l_63, l_64, l_78, l_85, l_97, l_99, l_100, l_122, l_255, l_325, l_700, l_999, l_1000, l_1200, l_99999, l_100000, l_1000000, l_2000000000, l_N, n_add, n_mul, n_lt, n_out, n_div, n_dm, n_eq, n_toN, n_inN, n_ltN, n_nltN, n_neN, Nat.not_lt_zero, false_or, or_false, ite_y, ite_n, if_true, if_false, ite_tt, ite_ff, b_0, b_1, eq_self_iff_true, Bool.true_eq_false, Bool.false_eq_true]
        · simp (disch := omega) only [m_isSlot, ha, m4, hb, c60, a_bi_i, a_bv_n, a_bl_l, a_bq_q, l_0, l_1, l_2, l_3, l_4, l_5, l_6, l_7, l_8, l_9, l_10, l_12, l_16, l_20, l_24, l_25, l_31, l_32, l_33, l_40, l_48, l_57, l_60, l_63, l_64, l_78, l_85, l_97, l_99, l_100, l_122, l_255, l_325, l_700, l_999, l_1000, l_1200, l_99999, l_100000, l_1000000, l_2000000000, l_N, n_add, n_mul, n_lt, n_out, n_div, n_dm, n_eq, n_toN, n_inN, n_ltN, n_nltN, n_neN, Nat.not_lt_zero, false_or, or_false, ite_y, ite_n, if_true, if_false, ite_tt, ite_ff, b_0, b_1, eq_self_iff_true, Bool.true_eq_false, Bool.false_eq_true]
      · have q3 : ¬ 3 < wd := by omega
        by_cases c0 : c < nI 0
        · refine good_pure hR (-3) (K_X10_row.e X 14 _ _ c I L _ ?_) (K_X11_row.e X 14 _ _ c I L _ ?_)
          · simp (disch := omega) only [c_isSlot, ha, q3, c60, c0, a_bi_i, a_bv_n, a_bl_l, a_bq_q, l_0, l_1, l_2, l_3, l_4, l_5, l_6, l_7, l_8, l_9, l_10, l_12, l_16, l_20, l_24, l_25, l_31, l_32, l_33, l_40, l_48, l_57, l_60, l_63, l_64, l_78, l_85, l_97, l_99, l_100, l_122, l_255, l_325, l_700, l_999, l_1000, l_1200, l_99999, l_100000, l_1000000, l_2000000000, l_N, n_add, n_mul, n_lt, n_out, n_div, n_dm, n_eq, n_toN, n_inN, n_ltN, n_nltN, n_neN, Nat.not_lt_zero, false_or, or_false, ite_y, ite_n, if_true, if_false, ite_tt, ite_ff, b_0, b_1, eq_self_iff_true, Bool.true_eq_false, Bool.false_eq_true]
          · simp (disch := omega) only [m_isSlot, ha, m4, hb, c60, c0, a_bi_i, a_bv_n, a_bl_l, a_bq_q, l_0, l_1, l_2, l_3, l_4, l_5, l_6, l_7, l_8, l_9, l_10, l_12, l_16, l_20, l_24, l_25, l_31, l_32, l_33, l_40, l_48, l_57, l_60, l_63, l_64, l_78, l_85, l_97, l_99, l_100, l_122, l_255, l_325, l_700, l_999, l_1000, l_1200, l_99999, l_100000, l_1000000, l_2000000000, l_N, n_add, n_mul, n_lt, n_out, n_div, n_dm, n_eq, n_toN, n_inN, n_ltN, n_nltN, n_neN, Nat.not_lt_zero, false_or, or_false, ite_y, ite_n, if_true, if_false, ite_tt, ite_ff, b_0, b_1, eq_self_iff_true, Bool.true_eq_false, Bool.false_eq_true]
        · obtain ⟨m, hm, rfl⟩ := n_ex c0
          have m60 : m ≤ 60 := by
            rw [n_lt (by decide) hm] at c60; omega
          have c60' : ¬ 60 < m := by omega
          generalize hI1 : up3 (up3 (up3 I 32 s 1 (nI 1)) 32 s 2 (nI wd)) 32 s 3 (nI m) = I1
          obtain ⟨L1, l1, l2, l3⟩ := c_fillL (X := X) (d := 13) (I := I1) (L := L) (f := 33) (i := s) (N := 60) (x := (0 : Int64)) rfl rfl (by decide) (by omega)
          have o32 : ∀ f, f ≠ 32 → I1 f = I f := fun f hf => by rw [← hI1, u3_f _ _ hf, u3_f _ _ hf, u3_f _ _ hf]
          obtain ⟨L2, ⟨g1, g2, g3⟩, g4⟩ := loop_z (F := fun j (K : A3 Int64) => v_X11_row_52 X 14 (nI s) (nI j) (up3 (up3 I1 59 0 s (nI m)) 60 0 s (nI wd), K, ())) (P := fun j K => (∀ f, f ≠ 61 → K f = L1 f) ∧ (∀ z, (z < 60 * s ∨ 60 * s + 60 ≤ z) → K 61 0 z = L1 61 0 z) ∧ ∀ z, z < j → K 61 0 (60 * s + z) = (0 : Int64)) 60 L1 ⟨fun _ _ => rfl, fun _ _ => rfl, fun z hz => by omega⟩ (fun j K hj hP => by
            obtain ⟨p1, p2, p3⟩ := hP
            refine ⟨up3 K 61 0 (60 * s + j) (0 : Int64), ⟨fun f hf => by rw [u3_f _ _ hf]; exact p1 f hf, fun z hz => by rw [u3_j _ _ (by omega)]; exact p2 z hz, fun z hz => ?_⟩, fun r hr => v_X11_row_52.e X 14 _ _ _ K r ?_⟩
            · by_cases ee : z = j
              · subst ee; exact u3_eq _ _ _ _ _
              · rw [u3_j _ _ (by omega)]; exact p3 z (by omega)
            · simp (disch := omega) only [a_bi_i, a_bv_n, a_bl_l, a_bq_q, l_0, l_1, l_2, l_3, l_4, l_5, l_6, l_7, l_8, l_9, l_10, l_12, l_16, l_20, l_24, l_25, l_31, l_32, l_33, l_40, l_48, l_57, l_60, l_63, l_64, l_78, l_85, l_97, l_99, l_100, l_122, l_255, l_325, l_700, l_999, l_1000, l_1200, l_99999, l_100000, l_1000000, l_2000000000, l_N, n_add, n_mul, n_lt, n_out, n_div, n_dm, n_eq, n_toN, n_inN, n_ltN, n_nltN, n_neN, Nat.not_lt_zero, false_or, or_false, ite_y, ite_n, if_true, if_false, ite_tt, ite_ff, b_0, b_1, eq_self_iff_true, Bool.true_eq_false, Bool.false_eq_true]
              exact hr)
          refine ⟨nI 0, I1, L1, up3 (up3 I1 59 0 s (nI m)) 60 0 s (nI wd), L2, K_X10_row.e X 14 _ _ _ I L _ ?_, K_X11_row.e X 14 _ _ _ I1 L1 _ ?_, w, e, im, n, b, tput t s (wd, m, fun _ => 0), h.slot (fun f hf h1 h2 h3 => ?_) ?_ ?_ ?_ (hV.put (by omega) m60), ?_⟩
          · have ll : K_X6_lay X 14 s (nI wd) (nI m) (I, L, ()) = some (none, (I1, L1, ())) := by
              refine K_X6_lay.e X 13 _ _ _ I L _ ?_
              simp only [a_bi_i, a_bv_n, a_bl_l, a_bq_q, l_1, hI1, l1]
            simp (disch := omega) only [c_isSlot, ha, q3, c60', ll, a_bi_i, a_bv_n, a_bl_l, a_bq_q, l_0, l_1, l_2, l_3, l_4, l_5, l_6, l_7, l_8, l_9, l_10, l_12, l_16, l_20, l_24, l_25, l_31, l_32, l_33, l_40, l_48, l_57, l_60, l_63, l_64, l_78, l_85, l_97, l_99, l_100, l_122, l_255, l_325, l_700, l_999, l_1000, l_1200, l_99999, l_100000, l_1000000, l_2000000000, l_N, n_add, n_mul, n_lt, n_out, n_div, n_dm, n_eq, n_toN, n_inN, n_ltN, n_nltN, n_neN, Nat.not_lt_zero, false_or, or_false, ite_y, ite_n, if_true, if_false, ite_tt, ite_ff, b_0, b_1, eq_self_iff_true, Bool.true_eq_false, Bool.false_eq_true]
          · simp (disch := omega) only [m_isSlot, ha, m4, hb, c60', a_bi_i, a_bv_n, a_bl_l, a_bq_q, l_0, l_1, l_2, l_3, l_4, l_5, l_6, l_7, l_8, l_9, l_10, l_12, l_16, l_20, l_24, l_25, l_31, l_32, l_33, l_40, l_48, l_57, l_60, l_63, l_64, l_78, l_85, l_97, l_99, l_100, l_122, l_255, l_325, l_700, l_999, l_1000, l_1200, l_99999, l_100000, l_1000000, l_2000000000, l_N, n_add, n_mul, n_lt, n_out, n_div, n_dm, n_eq, n_toN, n_inN, n_ltN, n_nltN, n_neN, Nat.not_lt_zero, false_or, or_false, ite_y, ite_n, if_true, if_false, ite_tt, ite_ff, b_0, b_1, eq_self_iff_true, Bool.true_eq_false, Bool.false_eq_true]
            refine g4 _ (v_X11_row_52.e X 14 _ _ _ L2 _ ?_)
            simp (disch := omega) only [a_bi_i, a_bv_n, a_bl_l, a_bq_q, l_0, l_1, l_2, l_3, l_4, l_5, l_6, l_7, l_8, l_9, l_10, l_12, l_16, l_20, l_24, l_25, l_31, l_32, l_33, l_40, l_48, l_57, l_60, l_63, l_64, l_78, l_85, l_97, l_99, l_100, l_122, l_255, l_325, l_700, l_999, l_1000, l_1200, l_99999, l_100000, l_1000000, l_2000000000, l_N, n_add, n_mul, n_lt, n_out, n_div, n_dm, n_eq, n_toN, n_inN, n_ltN, n_nltN, n_neN, Nat.not_lt_zero, false_or, or_false, ite_y, ite_n, if_true, if_false, ite_tt, ite_ff, b_0, b_1, eq_self_iff_true, Bool.true_eq_false, Bool.false_eq_true, Nat.lt_irrefl]
          · rw [u3_f _ _ h3, u3_f _ _ h2]; exact o32 f h1
          · rw [u3_f _ _ (by decide), u3_f _ _ (by decide)]; exact o32 40 (by decide)
          · have e32 : up3 (up3 I1 59 0 s (nI m)) 60 0 s (nI wd) 32 = I1 32 := by rw [u3_f _ _ (by decide), u3_f _ _ (by decide)]
            refine hS1.put (fun q hq => ?_) (fun q hq => ?_) ?_ ?_ ?_ (fun j hj => ?_)
            · rw [e32, ← hI1, u3_i _ _ hq, u3_i _ _ hq, u3_i _ _ hq]
            · rw [g1 33 (by decide)]; exact l2 33 q (Or.inr hq)
            · rw [e32, ← hI1, u3_j _ _ (by decide), u3_j _ _ (by decide), u3_eq]
            · rw [e32, ← hI1, u3_j _ _ (by decide), u3_eq]
            · rw [e32, ← hI1, u3_eq]
            · rw [g1 33 (by decide)]; exact l3 j hj
          · refine hS2.put hs (fun q hq => ?_) (fun j hj => ?_) ?_ (u3_eq _ _ _ _ _) (fun j hj => g3 j hj)
            · rw [u3_f _ _ (by decide), u3_j _ _ hq, u3_j _ _ hq, u3_f _ _ (by decide), o32 59 (by decide), o32 60 (by decide)]
              exact ⟨rfl, rfl⟩
            · rw [g2 j hj, l2 61 0 (Or.inl (by decide))]
            · rw [u3_f _ _ (by decide), u3_eq]
          · refine hh.fams ?_ ?_
            · rw [u3_f _ _ (by decide), u3_f _ _ (by decide)]; exact o32 28 (by decide)
            · rw [u3_f _ _ (by decide), u3_f _ _ (by decide)]; exact o32 30 (by decide)
theorem g_write (hR : Rel I L) (a b' : Int32) (c : Int64) : Good (K_X10_write X 15 a b' c) (K_X11_write X 15 a b' c) I L := by
  obtain ⟨w, e, im, n, b, t, h, hh⟩ := id hR
  have hS1 := h.2.2.2.2.2.2.2.1
  have hS2 := h.2.2.2.2.2.2.2.2.1
  have hV := h.2.2.2.2.2.2.2.2.2
  have n10 : ¬ (1 = 0) := by decide
  cases ha : inr a 4 with
  | false =>
    refine good_pure hR (-2) (K_X10_write.e X 14 a b' c I L _ ?_) (K_X11_write.e X 14 a b' c I L _ ?_)
    · simp (disch := omega) only [c_isSlot, ha, a_bi_i, a_bv_n, a_bl_l, a_bq_q, l_0, l_1, l_2, l_3, l_4, l_5, l_6, l_7, l_8, l_9, l_10, l_12, l_16, l_20, l_24, l_25, l_31, l_32, l_33, l_40, l_48, l_57, l_60, l_63, l_64, l_78, l_85, l_97, l_99, l_100, l_122, l_255, l_325, l_700, l_999, l_1000, l_1200, l_99999, l_100000, l_1000000, l_2000000000, l_N, n_add, n_mul, n_lt, n_out, n_div, n_dm, n_eq, n_toN, n_inN, n_ltN, n_nltN, n_neN, Nat.not_lt_zero, false_or, or_false, ite_y, ite_n, if_true, if_false, ite_tt, ite_ff, b_0, b_1, eq_self_iff_true, Bool.true_eq_false, Bool.false_eq_true]
    · simp (disch := omega) only [m_isSlot, ha, a_bi_i, a_bv_n, a_bl_l, a_bq_q, l_0, l_1, l_2, l_3, l_4, l_5, l_6, l_7, l_8, l_9, l_10, l_12, l_16, l_20, l_24, l_25, l_31, l_32, l_33, l_40, l_48, l_57, l_60, l_63, l_64, l_78, l_85, l_97, l_99, l_100, l_122, l_255, l_325, l_700, l_999, l_1000, l_1200, l_99999, l_100000, l_1000000, l_2000000000, l_N, n_add, n_mul, n_lt, n_out, n_div, n_dm, n_eq, n_toN, n_inN, n_ltN, n_nltN, n_neN, Nat.not_lt_zero, false_or, or_false, ite_y, ite_n, if_true, if_false, ite_tt, ite_ff, b_0, b_1, eq_self_iff_true, Bool.true_eq_false, Bool.false_eq_true]
  | true =>
    obtain ⟨s, hs, rfl⟩ := inr_ex (by omega) ha
    cases hg : t s with
    | none =>
      refine good_pure hR (-6) (K_X10_write.e X 14 _ b' c I L _ ?_) (K_X11_write.e X 14 _ b' c I L _ ?_)
      · simp (disch := omega) only [c_isSlot, ha, hS1.no hs hg, a_bi_i, a_bv_n, a_bl_l, a_bq_q, l_0, l_1, l_2, l_3, l_4, l_5, l_6, l_7, l_8, l_9, l_10, l_12, l_16, l_20, l_24, l_25, l_31, l_32, l_33, l_40, l_48, l_57, l_60, l_63, l_64, l_78, l_85, l_97, l_99, l_100, l_122, l_255, l_325, l_700, l_999, l_1000, l_1200, l_99999, l_100000, l_1000000, l_2000000000, l_N, n_add, n_mul, n_lt, n_out, n_div, n_dm, n_eq, n_toN, n_inN, n_ltN, n_nltN, n_neN, Nat.not_lt_zero, false_or, or_false, ite_y, ite_n, if_true, if_false, ite_tt, ite_ff, b_0, b_1, eq_self_iff_true, Bool.true_eq_false, Bool.false_eq_true]
      · simp (disch := omega) only [m_isSlot, ha, hS2.no hs hg, a_bi_i, a_bv_n, a_bl_l, a_bq_q, l_0, l_1, l_2, l_3, l_4, l_5, l_6, l_7, l_8, l_9, l_10, l_12, l_16, l_20, l_24, l_25, l_31, l_32, l_33, l_40, l_48, l_57, l_60, l_63, l_64, l_78, l_85, l_97, l_99, l_100, l_122, l_255, l_325, l_700, l_999, l_1000, l_1200, l_99999, l_100000, l_1000000, l_2000000000, l_N, n_add, n_mul, n_lt, n_out, n_div, n_dm, n_eq, n_toN, n_inN, n_ltN, n_nltN, n_neN, Nat.not_lt_zero, false_or, or_false, ite_y, ite_n, if_true, if_false, ite_tt, ite_ff, b_0, b_1, eq_self_iff_true, Bool.true_eq_false, Bool.false_eq_true]
    | some p =>
      obtain ⟨wd, m, g⟩ := p
      obtain ⟨v1, v2⟩ := hV s wd m g hg
      obtain ⟨c1, c2, c3, c4⟩ := hS1.yes hs hg
      obtain ⟨d1, d2, d3⟩ := hS2.yes hs hg
      have hn : ∀ L2 : A3 Int64, K_X6_hasNumber X 14 s b' (I, L2, ()) = some (some (aI (bI (inr b' m))), (I, L2, ())) := fun L2 => by
        refine K_X6_hasNumber.e X 13 s b' I L2 _ ?_
        rw [c3]
        exact has_val
      have mn : ∀ (M : A3 Int32) (L2 : A3 Int64), K_X11_in X 14 b'.toInt64 (0 : Int64) (nI m - nI 1).toInt64 (M, L2, ()) = some (some (aI (bI (inr b' m))), (M, L2, ())) := fun M L2 => by
        rw [m_in (by omega), inL_n (by omega)]
      cases hb : inr b' m with
      | false =>
        refine good_pure hR (-7) (K_X10_write.e X 14 _ b' c I L _ ?_) (K_X11_write.e X 14 _ b' c I L _ ?_)
        · simp (disch := omega) only [c_isSlot, ha, c1, n10, hn, hb, a_bi_i, a_bv_n, a_bl_l, a_bq_q, l_0, l_1, l_2, l_3, l_4, l_5, l_6, l_7, l_8, l_9, l_10, l_12, l_16, l_20, l_24, l_25, l_31, l_32, l_33, l_40, l_48, l_57, l_60, l_63, l_64, l_78, l_85, l_97, l_99, l_100, l_122, l_255, l_325, l_700, l_999, l_1000, l_1200, l_99999, l_100000, l_1000000, l_2000000000, l_N, n_add, n_mul, n_lt, n_out, n_div, n_dm, n_eq, n_toN, n_inN, n_ltN, n_nltN, n_neN, Nat.not_lt_zero, false_or, or_false, ite_y, ite_n, if_true, if_false, ite_tt, ite_ff, b_0, b_1, eq_self_iff_true, Bool.true_eq_false, Bool.false_eq_true]
        · simp (disch := omega) only [m_isSlot, ha, d1, mn, hb, a_bi_i, a_bv_n, a_bl_l, a_bq_q, l_0, l_1, l_2, l_3, l_4, l_5, l_6, l_7, l_8, l_9, l_10, l_12, l_16, l_20, l_24, l_25, l_31, l_32, l_33, l_40, l_48, l_57, l_60, l_63, l_64, l_78, l_85, l_97, l_99, l_100, l_122, l_255, l_325, l_700, l_999, l_1000, l_1200, l_99999, l_100000, l_1000000, l_2000000000, l_N, n_add, n_mul, n_lt, n_out, n_div, n_dm, n_eq, n_toN, n_inN, n_ltN, n_nltN, n_neN, Nat.not_lt_zero, false_or, or_false, ite_y, ite_n, if_true, if_false, ite_tt, ite_ff, b_0, b_1, eq_self_iff_true, Bool.true_eq_false, Bool.false_eq_true]
      | true =>
        obtain ⟨i, hi, rfl⟩ := inr_ex (by omega) hb
        refine ⟨nI 0, I, up3 L 33 s i (cutV wd c), I, up3 (up3 L 33 s i (cutV wd c)) 61 0 (60 * s + i) (cutV wd c), K_X10_write.e X 14 _ _ _ I L _ ?_, K_X11_write.e X 14 _ _ _ I _ _ ?_, w, e, im, n, b, tput t s (wd, m, fun j => if j = i then cutV wd c else g j), h.slot (fun _ _ _ _ _ => rfl) rfl ?_ ?_ (hV.put v1 v2), hh⟩
        · simp (disch := omega) only [c_isSlot, ha, c1, n10, hn, hb, c_putL v1 c2, a_bi_i, a_bv_n, a_bl_l, a_bq_q, l_0, l_1, l_2, l_3, l_4, l_5, l_6, l_7, l_8, l_9, l_10, l_12, l_16, l_20, l_24, l_25, l_31, l_32, l_33, l_40, l_48, l_57, l_60, l_63, l_64, l_78, l_85, l_97, l_99, l_100, l_122, l_255, l_325, l_700, l_999, l_1000, l_1200, l_99999, l_100000, l_1000000, l_2000000000, l_N, n_add, n_mul, n_lt, n_out, n_div, n_dm, n_eq, n_toN, n_inN, n_ltN, n_nltN, n_neN, Nat.not_lt_zero, false_or, or_false, ite_y, ite_n, if_true, if_false, ite_tt, ite_ff, b_0, b_1, eq_self_iff_true, Bool.true_eq_false, Bool.false_eq_true]
        · simp (disch := omega) only [m_isSlot, ha, d1, mn, hb, d2, m_cut v1, a_bi_i, a_bv_n, a_bl_l, a_bq_q, l_0, l_1, l_2, l_3, l_4, l_5, l_6, l_7, l_8, l_9, l_10, l_12, l_16, l_20, l_24, l_25, l_31, l_32, l_33, l_40, l_48, l_57, l_60, l_63, l_64, l_78, l_85, l_97, l_99, l_100, l_122, l_255, l_325, l_700, l_999, l_1000, l_1200, l_99999, l_100000, l_1000000, l_2000000000, l_N, n_add, n_mul, n_lt, n_out, n_div, n_dm, n_eq, n_toN, n_inN, n_ltN, n_nltN, n_neN, Nat.not_lt_zero, false_or, or_false, ite_y, ite_n, if_true, if_false, ite_tt, ite_ff, b_0, b_1, eq_self_iff_true, Bool.true_eq_false, Bool.false_eq_true]
        · refine hS1.put (fun _ _ => rfl) (fun q hq => ?_) c1 c2 c3 (fun j hj => ?_)
          · rw [u3_f _ _ (by decide), u3_i _ _ hq]
          · rw [u3_f _ _ (by decide)]
            by_cases z : j = i
            · subst z; rw [u3_eq, if_pos rfl]
            · rw [u3_j _ _ z, if_neg z]; exact c4 j hj
        · refine hS2.put hs (fun _ _ => ⟨rfl, rfl⟩) (fun j hj => ?_) d1 d2 (fun j hj => ?_)
          · rw [u3_j _ _ (by omega), u3_f _ _ (by decide)]
          · by_cases z : j = i
            · subst z; rw [u3_eq, if_pos rfl]
            · rw [u3_j _ _ (by omega), u3_f _ _ (by decide), if_neg z]; exact d3 j hj
end
