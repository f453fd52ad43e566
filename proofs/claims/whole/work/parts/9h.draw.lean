/-! draws -/
def qL (n : Nat) : Int64 := Int64.ofNat n
theorem q_add (a b : Nat) : qL a + qL b = qL (a + b) := (Int64.ofNat_add a b).symm
theorem q_mul (a b : Nat) : qL a * qL b = qL (a * b) := (Int64.ofNat_mul a b).symm
theorem q_sub {a b : Nat} (h : b ≤ a) : qL a - qL b = qL (a - b) := (Int64.ofNat_sub a b h).symm
theorem q_div {a b : Nat} (ha : a < 9223372036854775808) (hb : b < 9223372036854775808) : qL a / qL b = qL (a / b) := (Int64.ofNat_div ha hb).symm
theorem q_and (a b : Nat) : qL a &&& qL b = qL (a &&& b) := Int64.toBitVec_inj.1 (by
  rw [Int64.toBitVec_and]
  exact BitVec.ofNat_and.symm)
theorem q_dm (a b : Nat) : qL a - qL (a / b * b) = qL (a % b) := by
  rw [q_sub (Nat.div_mul_le_self a b)]
  congr 1
  have := Nat.div_add_mod a b
  rw [Nat.mul_comm] at this
  omega
theorem q_nI {n : Nat} (h : n < 2147483648) : (nI n).toInt64 = qL n := Int64.toInt_inj.mp (by
  rw [Int32.toInt_toInt64, n_toInt h]
  exact (Int64.toInt_ofNat_of_lt (by omega)).symm)
theorem q_32 (n : Nat) : (qL n).toInt32 = nI n := Int64.toInt32_ofNat'
theorem q_lit1 : (1103515245 : Int64) = qL 1103515245 := rfl
theorem q_lit2 : (12345 : Int64) = qL 12345 := rfl
theorem q_lit3 : (2147483647 : Int64) = qL 2147483647 := rfl
theorem q_lit4 : (65536 : Int64) = qL 65536 := rfl
theorem q_lit5 : (100 : Int64) = qL 100 := rfl
theorem q_lit6 : (2147483648 : Int64) = qL 2147483648 := rfl
def dx (x : Nat) : Nat := (1103515245 * x + 12345) % 2147483648
def dv (x : Nat) : Nat := x / 65536 % 100
theorem dx_lt (x : Nat) : dx x < 2147483648 := Nat.mod_lt _ (by decide)
theorem dv_lt (x : Nat) : dv x < 100 := Nat.mod_lt _ (by decide)
theorem dx_and (x : Nat) : (1103515245 * x + 12345) &&& 2147483647 = dx x := Nat.and_two_pow_sub_one_eq_mod _ 31
section
variable {X : AX} {d : Nat} {I J : A3 Int32} {L : A3 Int64} {w : TW}
theorem c_start {n : Nat} (hn : n < 2147483648) (hd : 1 ≤ d) : K_X2_start X d (nI n) (I, L, ()) = some (none, (I, up3 L 31 0 0 (qL n), ())) := by
  obtain ⟨e, rfl⟩ : ∃ e, d = e + 1 := ⟨d - 1, by omega⟩
  refine K_X2_start.e X e _ I L _ ?_
  rw [q_nI hn]
theorem c_draw {x : Nat} (h : L 31 0 0 = qL x) (hx : x < 2147483648) (hd : 1 ≤ d) : K_X2_draw X d (I, L, ()) = some (some (aI (nI (dv (dx x)))), (I, up3 L 31 0 0 (qL (dx x)), ())) := by
  obtain ⟨e, rfl⟩ : ∃ e, d = e + 1 := ⟨d - 1, by omega⟩
  refine K_X2_draw.e X e I L _ ?_
  have e1 : ((((1103515245 : Int64) * (L 31 0 0)) + (12345 : Int64)) &&& (2147483647 : Int64)) = qL (dx x) := by
    rw [h, q_lit1, q_lit2, q_lit3, q_mul, q_add, q_and, dx_and]
  have hl := dx_lt x
  rw [e1, u3_eq, q_lit4, q_lit5, q_div (by omega) (by decide), q_div (by omega) (by decide), q_mul, q_dm, q_32]
  rfl
theorem up31 {a b : Int64} : up3 (up3 L 31 0 0 a) 31 0 0 b = up3 L 31 0 0 b := by
  funext f i j
  unfold up3
  split <;> rfl
/-- where an inspector that knocks comes to the coach of one in a loo -/
def arB (w : TW) (r k m : Nat) : Bool := decide (0 < knA w k) && (decide (psA w k m = some (trp w r m).1) && (decide (m = 0) || !decide (psA w k (m - 1) = some (trp w r m).1)))
def dkS (w : TW) (r m k : Nat) (s : Bool × Nat) : Bool × Nat :=
  if (trp w r m).2 = true then (if arB w r k m = true then (s.1 || decide (dv (dx s.2) < knA w k), dx s.2) else s) else (s.1 || metM (psA w) (knA w) (w (49 + 5 * r)) (trp w r) k m, s.2)
def dkF (w : TW) (r m x : Nat) : Nat → Bool × Nat
  | 0 => (false, x)
  | k + 1 => dkS w r m k (dkF w r m x k)
def drX (w : TW) (m x : Nat) : Nat → Nat
  | 0 => x
  | r + 1 => (dkF w r m (drX w m x r) (w 5)).2
def dmX (w : TW) (x : Nat) : Nat → Nat
  | 0 => x
  | m + 1 => drX w m (dmX w x m) (w 6)
def hdB (w : TW) (x r m : Nat) : Bool := (dkF w r m (drX w m (dmX w x m) r) (w 5)).1
theorem dkF_lt {r m x : Nat} (hx : x < 2147483648) : ∀ k, (dkF w r m x k).2 < 2147483648 := by
  intro k
  induction k with
  | zero => exact hx
  | succ k ih =>
    rw [dkF, dkS]
    split
    · split
      · exact dx_lt _
      · exact ih
    · exact ih
theorem drX_lt {m x : Nat} (hx : x < 2147483648) : ∀ r, drX w m x r < 2147483648 := by
  intro r
  induction r with
  | zero => exact hx
  | succ r ih => rw [drX]; exact dkF_lt ih _
theorem dmX_lt {x : Nat} (hx : x < 2147483648) : ∀ m, dmX w x m < 2147483648 := by
  intro m
  induction m with
  | zero => exact hx
  | succ m ih => rw [dmX]; exact drX_lt ih _
theorem c_arrives {a x m T : Nat} {q : Nat → Option Nat} (hrow : ∀ m, m < T → I 14 a m = oI (q m)) (hT : T ≤ 40) (hm : m < T) (hq : ∀ m z, q m = some z → z < 8) (hx : x < 8) (hd : 1 ≤ d) : K_X1_arrives X d a (nI x) (nI m) (I, L, ()) = some (some (aI (bI (decide (q m = some x) && (decide (m = 0) || !decide (q (m - 1) = some x))))), (I, L, ())) := by
  obtain ⟨e, rfl⟩ : ∃ e, d = e + 1 := ⟨d - 1, by omega⟩
  have q8 : ∀ m z, q m = some z → z < 1000 := fun m z hz => by have := hq m z hz; omega
  refine K_X1_arrives.e X e _ _ _ I L _ ?_
  simp (disch := omega) only [a_bi_i, a_bv_n, a_bl_l, a_bq_q, l_0, l_1, l_2, l_3, l_4, l_5, l_6, l_7, l_8, l_9, l_10, l_12, l_16, l_20, l_24, l_25, l_31, l_32, l_33, l_40, l_48, l_57, l_60, l_63, l_64, l_78, l_85, l_97, l_99, l_100, l_122, l_255, l_325, l_700, l_999, l_1000, l_1200, l_99999, l_100000, l_1000000, l_2000000000, l_N, n_add, n_mul, n_lt, n_out, n_div, n_dm, n_eq, n_toN, n_inN, n_ltN, n_nltN, n_neN, Nat.not_lt_zero, false_or, or_false, ite_y, ite_n, if_true, if_false, ite_tt, ite_ff, b_0, b_1, eq_self_iff_true, Bool.true_eq_false, Bool.false_eq_true, hrow m hm, oI_eq (q8 m) (show x < 1000 by omega)]
  by_cases h1 : q m = some x
  · simp only [h1, if_true, decide_true, Bool.true_and]
    by_cases h0 : m = 0
    · simp only [h0, if_true, decide_true, Bool.true_or]; rfl
    · rw [if_neg h0]
      simp (disch := omega) only [n_sub, a_bi_i, a_bv_n, a_bl_l, a_bq_q, l_0, l_1, l_2, l_3, l_4, l_5, l_6, l_7, l_8, l_9, l_10, l_12, l_16, l_20, l_24, l_25, l_31, l_32, l_33, l_40, l_48, l_57, l_60, l_63, l_64, l_78, l_85, l_97, l_99, l_100, l_122, l_255, l_325, l_700, l_999, l_1000, l_1200, l_99999, l_100000, l_1000000, l_2000000000, l_N, n_add, n_mul, n_lt, n_out, n_div, n_dm, n_eq, n_toN, n_inN, n_ltN, n_nltN, n_neN, Nat.not_lt_zero, false_or, or_false, ite_y, ite_n, if_true, if_false, ite_tt, ite_ff, b_0, b_1, eq_self_iff_true, Bool.true_eq_false, Bool.false_eq_true, hrow (m - 1) (by omega), oI_eq (q8 (m - 1)) (show x < 1000 by omega), h0, decide_false, Bool.false_or]
      by_cases h2 : q (m - 1) = some x <;> simp only [h2, if_true, if_false, decide_true, decide_false, Bool.not_true, Bool.not_false] <;> rfl
  · simp only [h1, if_false, decide_false, Bool.false_and]; rfl
theorem b_or (a b : Bool) : bI a ||| bI b = bI (a || b) := by cases a <;> cases b <;> rfl
theorem psA_8 (v : Vw w) {k : Nat} (hk : k < w 5) : ∀ m z, psA w k m = some z → z < 8 := fun m z hz => by
  have := crs_lt v hk (bg_lt v hk) hz
  have := v.1.1
  omega
theorem c_isDrawnHad {r m x : Nat} (h : TC I w) (v : Vw w) (hP : PC I (w 1) (w 5) (psA w)) (hR : RP I r (w 1) (trp w r)) (hr : r < w 6) (hm : m < w 1) (hL : L 31 0 0 = qL x) (hx : x < 2147483648) (hd : 4 ≤ d) : K_X10_isDrawnHad X d (nI r) (nI m) (I, L, ()) = some (some (aI (bI (dkF w r m x (w 5)).1)), (I, up3 L 31 0 0 (qL (dkF w r m x (w 5)).2), ())) := by
  obtain ⟨e, rfl⟩ : ∃ e, d = e + 1 := ⟨d - 1, by omega⟩
  obtain ⟨⟨w0, w1, -, -, -, w5, w6, -⟩, -, vc, vi, vr, -⟩ := id v
  have t8 := trp8 v hr
  have hL0 : up3 L 31 0 0 (qL x) = L := by
    funext f i j
    unfold up3
    split
    · rename_i q; rw [q.1, q.2.1, q.2.2, hL]
    · rfl
  obtain ⟨-, -, c2⟩ := loop_z (S := Unit) (F := fun k _ => v_X10_isDrawnHad_13 X e (nI m) r (bI (dkF w r m x k).1) (nI k) (I, up3 L 31 0 0 (qL (dkF w r m x k).2), ())) (P := fun _ _ => True) (w 5) () trivial (fun k _ hk _ => ⟨(), trivial, fun s hs => v_X10_isDrawnHad_13.e X e _ _ _ _ I _ s (by
    have hs : v_X10_isDrawnHad_13 X e (nI m) r (bI (dkF w r m x (k + 1)).1) (nI (k + 1)) (I, up3 L 31 0 0 (qL (dkF w r m x (k + 1)).2), ()) = some s := hs
    rw [dkF, dkS] at hs
    have hlt : (dkF w r m x k).2 < 2147483648 := dkF_lt hx k
    have kn := (vi k hk).2.2.2.1
    simp (disch := omega) only [a_bi_i, a_bv_n, a_bl_l, a_bq_q, l_0, l_1, l_2, l_3, l_4, l_5, l_6, l_7, l_8, l_9, l_10, l_12, l_16, l_20, l_24, l_25, l_31, l_32, l_33, l_40, l_48, l_57, l_60, l_63, l_64, l_78, l_85, l_97, l_99, l_100, l_122, l_255, l_325, l_700, l_999, l_1000, l_1200, l_99999, l_100000, l_1000000, l_2000000000, l_N, n_add, n_mul, n_lt, n_out, n_div, n_dm, n_eq, n_toN, n_inN, n_ltN, n_nltN, n_neN, Nat.not_lt_zero, false_or, or_false, ite_y, ite_n, if_true, if_false, ite_tt, ite_ff, b_0, b_1, eq_self_iff_true, Bool.true_eq_false, Bool.false_eq_true, c_inspectors h v, c_inLoo hR hm (show m < 40 by omega) (t8 m)]
    cases hl : (trp w r m).2 with
    | false =>
      rw [hl] at hs
      have hme : metC (psA w) (knA w) (trp w r) k m = metM (psA w) (knA w) (w (49 + 5 * r)) (trp w r) k m := met_eq v hr (vr r hr).2.1 hk
      have c1 := fun L => c_meets (X := X) (d := e) (L := L) (kn := knA w) hP hR hk w5 w1 hm hm (psA_8 v hk) t8 hl (by omega)
      simp only [if_true, a_bi_i, a_bv_n, a_bl_l, a_bq_q, c1, b_or, hme, Bool.false_eq_true, if_false] at hs ⊢
      exact hs
    | true =>
      rw [hl] at hs
      simp only [if_true, Bool.true_eq_false, if_false] at hs ⊢
      simp (disch := omega) only [a_bi_i, a_bv_n, a_bl_l, a_bq_q, l_0, l_1, l_2, l_3, l_4, l_5, l_6, l_7, l_8, l_9, l_10, l_12, l_16, l_20, l_24, l_25, l_31, l_32, l_33, l_40, l_48, l_57, l_60, l_63, l_64, l_78, l_85, l_97, l_99, l_100, l_122, l_255, l_325, l_700, l_999, l_1000, l_1200, l_99999, l_100000, l_1000000, l_2000000000, l_N, n_add, n_mul, n_lt, n_out, n_div, n_dm, n_eq, n_toN, n_inN, n_ltN, n_nltN, n_neN, Nat.not_lt_zero, false_or, or_false, ite_y, ite_n, if_true, if_false, ite_tt, ite_ff, b_0, b_1, eq_self_iff_true, Bool.true_eq_false, Bool.false_eq_true, c_oi3 h v]
      unfold arB at hs
      by_cases hk0 : 0 < w (36 + 5 * k)
      · have hk0' : 0 < knA w k := hk0
        simp (disch := omega) only [hk0, if_true, a_bi_i, a_bv_n, a_bl_l, a_bq_q, l_0, l_1, l_2, l_3, l_4, l_5, l_6, l_7, l_8, l_9, l_10, l_12, l_16, l_20, l_24, l_25, l_31, l_32, l_33, l_40, l_48, l_57, l_60, l_63, l_64, l_78, l_85, l_97, l_99, l_100, l_122, l_255, l_325, l_700, l_999, l_1000, l_1200, l_99999, l_100000, l_1000000, l_2000000000, l_N, n_add, n_mul, n_lt, n_out, n_div, n_dm, n_eq, n_toN, n_inN, n_ltN, n_nltN, n_neN, Nat.not_lt_zero, false_or, or_false, ite_y, ite_n, if_true, if_false, ite_tt, ite_ff, b_0, b_1, eq_self_iff_true, Bool.true_eq_false, Bool.false_eq_true, c_coachIn hR hm (show m < 40 by omega) (t8 m), c_arrives (fun m hm => hP k hk m hm) w1 hm (psA_8 v hk) (t8 m)]
        rw [decide_eq_true hk0', Bool.true_and] at hs
        cases ha : (decide (psA w k m = some (trp w r m).1) && (decide (m = 0) || !decide (psA w k (m - 1) = some (trp w r m).1))) with
        | false => rw [ha] at hs; simp only [if_true, Bool.false_eq_true, if_false] at hs ⊢; exact hs
        | true =>
          rw [ha] at hs
          simp only [if_true, Bool.true_eq_false, if_false] at hs ⊢
          have dl := dv_lt (dx (dkF w r m x k).2)
          rw [c_draw (x := (dkF w r m x k).2) (u3_eq _ _ _ _ _) hlt (by omega)]
          simp only [a_bi_i, a_bv_n, a_bl_l, a_bq_q, up31]
          simp (disch := omega) only [n_lt]
          by_cases hh : dv (dx (dkF w r m x k).2) < w (36 + 5 * k)
          · have hh' : dv (dx (dkF w r m x k).2) < knA w k := hh
            rw [decide_eq_true hh'] at hs
            rw [if_pos hh, show nI 1 = bI true from rfl, b_or]
            exact hs
          · have hh' : ¬ dv (dx (dkF w r m x k).2) < knA w k := hh
            rw [decide_eq_false hh'] at hs
            rw [if_neg hh, show nI 0 = bI false from rfl, b_or]
            exact hs
      · have hk0' : ¬ 0 < knA w k := hk0
        rw [decide_eq_false hk0', Bool.false_and] at hs
        simp only [hk0, if_false, Bool.false_eq_true] at hs ⊢
        exact hs)⟩)
  have c2' : OLe (v_X10_isDrawnHad_13 X e (nI m) r (bI (dkF w r m x (w 5)).1) (nI (w 5)) (I, up3 L 31 0 0 (qL (dkF w r m x (w 5)).2), ())) (v_X10_isDrawnHad_13 X e (nI m) r (bI (dkF w r m x 0).1) (nI 0) (I, up3 L 31 0 0 (qL (dkF w r m x 0).2), ())) := c2
  rw [show (dkF w r m x 0).2 = x from rfl, hL0] at c2'
  refine K_X10_isDrawnHad.e X e _ _ I L _ ?_
  simp (disch := omega) only [a_bi_i, a_bv_n, a_bl_l, a_bq_q, l_0, l_1, l_2, l_3, l_4, l_5, l_6, l_7, l_8, l_9, l_10, l_12, l_16, l_20, l_24, l_25, l_31, l_32, l_33, l_40, l_48, l_57, l_60, l_63, l_64, l_78, l_85, l_97, l_99, l_100, l_122, l_255, l_325, l_700, l_999, l_1000, l_1200, l_99999, l_100000, l_1000000, l_2000000000, l_N, n_add, n_mul, n_lt, n_out, n_div, n_dm, n_eq, n_toN, n_inN, n_ltN, n_nltN, n_neN, Nat.not_lt_zero, false_or, or_false, ite_y, ite_n, if_true, if_false, ite_tt, ite_ff, b_0, b_1, eq_self_iff_true, Bool.true_eq_false, Bool.false_eq_true]
  refine c2' _ (v_X10_isDrawnHad_13.e X e _ _ _ _ I _ _ ?_)
  simp (disch := omega) only [a_bi_i, a_bv_n, a_bl_l, a_bq_q, l_0, l_1, l_2, l_3, l_4, l_5, l_6, l_7, l_8, l_9, l_10, l_12, l_16, l_20, l_24, l_25, l_31, l_32, l_33, l_40, l_48, l_57, l_60, l_63, l_64, l_78, l_85, l_97, l_99, l_100, l_122, l_255, l_325, l_700, l_999, l_1000, l_1200, l_99999, l_100000, l_1000000, l_2000000000, l_N, n_add, n_mul, n_lt, n_out, n_div, n_dm, n_eq, n_toN, n_inN, n_ltN, n_nltN, n_neN, Nat.not_lt_zero, false_or, or_false, ite_y, ite_n, if_true, if_false, ite_tt, ite_ff, b_0, b_1, eq_self_iff_true, Bool.true_eq_false, Bool.false_eq_true, c_inspectors h v, Nat.lt_irrefl]
  cases (dkF w r m x (w 5)).1 <;> simp only [or_true, true_or, if_true, Bool.false_eq_true, Bool.true_eq_false, or_false, false_or]
end
