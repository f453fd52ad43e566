/-! feed -/
def byB (x : Int32) (s : Nat) : Int8 := (x >>> (nI s &&& nI 31)).toInt8
theorem srl_b {x : Int32} {s : Nat} (hs : s ≤ 24) : (srl x (nI s)).toInt8 = byB x s := by
  refine Int8.toBitVec_inj.1 (BitVec.eq_of_getLsbD_eq (fun i hi => ?_))
  unfold byB
  rw [Int32.toBitVec_toInt8, Int32.toBitVec_toInt8, se_b, se_b]
  have h1 : ∀ k, k < 32 → ((Int32.toUInt32 (nI k) &&& Int32.toUInt32 31).toBitVec % 32#32).toNat = k := by decide
  have e1 : BitVec.getLsbD (srl x (nI s)).toBitVec i = bt x (s + i) := by
    unfold srl
    show BitVec.getLsbD (UInt32.toBitVec (Int32.toUInt32 x >>> (Int32.toUInt32 (nI s) &&& Int32.toUInt32 31))) i = _
    rw [UInt32.toBitVec_shiftRight]
    show BitVec.getLsbD (x.toBitVec >>> ((Int32.toUInt32 (nI s) &&& Int32.toUInt32 31).toBitVec % 32#32)) i = _
    rw [BitVec.ushiftRight_eq', h1 s (by omega), BitVec.getLsbD_ushiftRight]
    rfl
  have e2 : BitVec.getLsbD (x >>> (nI s &&& nI 31)).toBitVec i = bt x (i + s) := bt_shr (by omega) x (by omega)
  rw [if_pos (by omega), e1, e2, Nat.add_comm]
section
variable {X : AX} {d : Nat} {I J : A3 Int32} {L L' : A3 Int64} {w : TW} {e : CE} {im : TI} {n : Nat} {b : Nat → Int8} {t : TS}
theorem c_put1 {x : Int32} {s : Nat} {r : Option AV × AS Unit} (h : I 1 0 1 = nI n) (hn : n < 1200) (hs : s ≤ 24) (hr : v_X7_put_3 X d x (nI s + cI (-8)) (up3 (up3 I 2 0 n (byB x s).toInt32) 1 0 1 (nI (n + 1)), L, ()) = some r) : v_X7_put_3 X d x (nI s) (I, L, ()) = some r := by
  refine v_X7_put_3.e X d _ _ I L r ?_
  have e1 : (up3 I 2 0 n ((((Int32.toUInt32 x >>> (Int32.toUInt32 (nI s) &&& Int32.toUInt32 31)).toInt32).toInt8.toInt32).toInt8.toInt32)) 1 0 1 = nI n := by rw [u3_f _ _ (by decide)]; exact h
  have e2 : ((((Int32.toUInt32 x >>> (Int32.toUInt32 (nI s) &&& Int32.toUInt32 31)).toInt32).toInt8.toInt32).toInt8.toInt32) = (byB x s).toInt32 := by
    rw [Int8.toInt8_toInt32, ← srl_b hs]; rfl
  rw [h]
  have q1 : ¬ (nI s < 0) := by rw [show (0 : Int32) = nI 0 from rfl, n_lt (by omega) (by decide)]; omega
  have q2 : nI n < 1200 := by rw [show (1200 : Int32) = nI 1200 from rfl, n_lt (by omega) (by decide)]; omega
  have q3 : ¬ aout (nI n) 1200 := by rw [n_out (by omega)]; omega
  rw [if_neg q1, if_pos q2, if_neg q3, n_toN (show n < 2147483648 by omega), e1, e2, l_1, n_add]
  exact hr
theorem c_put {x : Int32} (h : I 1 0 1 = nI n) (hn : n + 4 ≤ 1200) (hd : 1 ≤ d) : ∃ J, K_X7_put X d x (I, L, ()) = some (none, (J, L, ())) ∧ Fm [1, 2] I J ∧ J 1 0 1 = nI (n + 4) ∧ (∀ j, j < n → J 2 0 j = I 2 0 j) ∧ ∀ k, k < 4 → J 2 0 (n + k) = (byB x (24 - 8 * k)).toInt32 := by
  obtain ⟨g, rfl⟩ : ∃ g, d = g + 1 := ⟨d - 1, by omega⟩
  generalize h1 : up3 (up3 I 2 0 n (byB x 24).toInt32) 1 0 1 (nI (n + 1)) = I1
  generalize h2 : up3 (up3 I1 2 0 (n + 1) (byB x 16).toInt32) 1 0 1 (nI (n + 2)) = I2
  generalize h3 : up3 (up3 I2 2 0 (n + 2) (byB x 8).toInt32) 1 0 1 (nI (n + 3)) = I3
  generalize h4 : up3 (up3 I3 2 0 (n + 3) (byB x 0).toInt32) 1 0 1 (nI (n + 4)) = I4
  have s1 : I1 1 0 1 = nI (n + 1) := by rw [← h1]; exact u3_eq _ _ _ _ _
  have s2 : I2 1 0 1 = nI (n + 2) := by rw [← h2]; exact u3_eq _ _ _ _ _
  have s3 : I3 1 0 1 = nI (n + 3) := by rw [← h3]; exact u3_eq _ _ _ _ _
  have s4 : I4 1 0 1 = nI (n + 4) := by rw [← h4]; exact u3_eq _ _ _ _ _
  have b1 : ∀ j, I1 2 0 j = if j = n then (byB x 24).toInt32 else I 2 0 j := fun j => by
    rw [← h1, u3_f _ _ (by decide)]
    by_cases z : j = n
    · subst z; rw [u3_eq, if_pos rfl]
    · rw [u3_j _ _ z, if_neg z]
  have b2 : ∀ j, I2 2 0 j = if j = n + 1 then (byB x 16).toInt32 else I1 2 0 j := fun j => by
    rw [← h2, u3_f _ _ (by decide)]
    by_cases z : j = n + 1
    · subst z; rw [u3_eq, if_pos rfl]
    · rw [u3_j _ _ z, if_neg z]
  have b3 : ∀ j, I3 2 0 j = if j = n + 2 then (byB x 8).toInt32 else I2 2 0 j := fun j => by
    rw [← h3, u3_f _ _ (by decide)]
    by_cases z : j = n + 2
    · subst z; rw [u3_eq, if_pos rfl]
    · rw [u3_j _ _ z, if_neg z]
  have b4 : ∀ j, I4 2 0 j = if j = n + 3 then (byB x 0).toInt32 else I3 2 0 j := fun j => by
    rw [← h4, u3_f _ _ (by decide)]
    by_cases z : j = n + 3
    · subst z; rw [u3_eq, if_pos rfl]
    · rw [u3_j _ _ z, if_neg z]
  refine ⟨I4, K_X7_put.e X g x I L _ ?_, ?_, s4, fun j hj => ?_, fun k hk => ?_⟩
  · rw [show (24 : Int32) = nI 24 from rfl]
    refine c_put1 h (by omega) (by decide) ?_
    rw [h1, show nI 24 + cI (-8) = nI 16 from rfl]
    refine c_put1 s1 (by omega) (by decide) ?_
    rw [h2, show nI 16 + cI (-8) = nI 8 from rfl]
    refine c_put1 s2 (by omega) (by decide) ?_
    rw [h3, show nI 8 + cI (-8) = nI 0 from rfl]
    refine c_put1 s3 (by omega) (by decide) ?_
    rw [h4]
    refine v_X7_put_3.e X g _ _ I4 L _ ?_
    rw [if_pos (by decide)]
  · rw [← h4, ← h3, ← h2, ← h1]
    exact (((((((Fm.refl.up (by decide)).up (by decide)).up (by decide)).up (by decide)).up (by decide)).up (by decide)).up (by decide)).up (by decide)
  · rw [b4, if_neg (by omega), b3, if_neg (by omega), b2, if_neg (by omega), b1, if_neg (by omega)]
  · rcases (show k = 0 ∨ k = 1 ∨ k = 2 ∨ k = 3 by omega) with rfl | rfl | rfl | rfl
    · rw [b4, if_neg (by omega), b3, if_neg (by omega), b2, if_neg (by omega), b1, if_pos (by omega)]
    · rw [b4, if_neg (by omega), b3, if_neg (by omega), b2, if_pos rfl]
    · rw [b4, if_neg (by omega), b3, if_pos rfl]
    · rw [b4, if_pos rfl]
def fiv (a b c d e : Int32) (i : Nat) : Int32 := if i = 0 then a else if i = 1 then b else if i = 2 then c else if i = 3 then d else e
theorem g_feed (hR : Rel I L) (a1 a2 a3 a4 a5 : Int32) : Good (K_X10_feed X 15 a1 a2 a3 a4 a5) (K_X11_feed X 15 a1 a2 a3 a4 a5) I L := by
  obtain ⟨w, e, im, n, b, t, h, hh⟩ := id hR
  obtain ⟨t1, t2, t3, t4⟩ := h.2.2.2.2.2.1
  have hro : ∀ L2 : A3 Int64, K_X7_hasRoom X 14 (I, L2, ()) = some (some (aI (bI (decide (n + 20 ≤ 1200)))), (I, L2, ())) := fun L2 => by
    refine K_X7_hasRoom.e X 13 I L2 _ ?_
    rw [t2]
    by_cases c : n + 20 ≤ 1200
    · have : ¬ 1200 < n + 20 := by omega
      simp (disch := omega) only [a_bi_i, a_bv_n, a_bl_l, a_bq_q, l_0, l_1, l_2, l_3, l_4, l_5, l_6, l_7, l_8, l_9, l_10, l_12, l_16, l_20, l_24, l_25, l_31, l_32, l_33, l_40, l_48, l_57, l_60, l_63, l_64, l_78, l_85, l_97, l_99, l_100, l_122, l_255, l_325, l_700, l_999, l_1000, l_1200, l_99999, l_100000, l_1000000, l_2000000000, l_N, n_add, n_mul, n_lt, n_out, n_div, n_dm, n_eq, n_toN, n_inN, n_ltN, n_nltN, n_neN, Nat.not_lt_zero, false_or, or_false, ite_y, ite_n, if_true, if_false, ite_tt, ite_ff, b_0, b_1, eq_self_iff_true, Bool.true_eq_false, Bool.false_eq_true, decide_eq_true c]; rfl
    · have : 1200 < n + 20 := by omega
      simp (disch := omega) only [a_bi_i, a_bv_n, a_bl_l, a_bq_q, l_0, l_1, l_2, l_3, l_4, l_5, l_6, l_7, l_8, l_9, l_10, l_12, l_16, l_20, l_24, l_25, l_31, l_32, l_33, l_40, l_48, l_57, l_60, l_63, l_64, l_78, l_85, l_97, l_99, l_100, l_122, l_255, l_325, l_700, l_999, l_1000, l_1200, l_99999, l_100000, l_1000000, l_2000000000, l_N, n_add, n_mul, n_lt, n_out, n_div, n_dm, n_eq, n_toN, n_inN, n_ltN, n_nltN, n_neN, Nat.not_lt_zero, false_or, or_false, ite_y, ite_n, if_true, if_false, ite_tt, ite_ff, b_0, b_1, eq_self_iff_true, Bool.true_eq_false, Bool.false_eq_true, decide_eq_false c]; rfl
  by_cases c : n + 20 ≤ 1200
  · obtain ⟨J1, p1, f1, q1, r1, v1⟩ := c_put (X := X) (d := 14) (L := L) (x := a1) t2 (by omega) (by omega)
    obtain ⟨J2, p2, f2, q2, r2, v2⟩ := c_put (X := X) (d := 14) (L := L) (x := a2) q1 (by omega) (by omega)
    obtain ⟨J3, p3, f3, q3, r3, v3⟩ := c_put (X := X) (d := 14) (L := L) (x := a3) q2 (by omega) (by omega)
    obtain ⟨J4, p4, f4, q4, r4, v4⟩ := c_put (X := X) (d := 14) (L := L) (x := a4) q3 (by omega) (by omega)
    obtain ⟨J5, p5, f5, q5, r5, v5⟩ := c_put (X := X) (d := 14) (L := L) (x := a5) q4 (by omega) (by omega)
    have F : Fm [1, 2] I J5 := (((f1.trans f2).trans f3).trans f4).trans f5
    have q5' : J5 1 0 1 = nI (n + 20) := q5
    generalize hb' : (fun j => if j < n then b j else byB (fiv a1 a2 a3 a4 a5 ((j - n) / 4)) (24 - 8 * ((j - n) % 4))) = b'
    have hb1 : ∀ j, j < n → b' j = b j := fun j hj => by rw [← hb']; simp [hj]
    have hb2 : ∀ i k, i < 5 → k < 4 → b' (n + (4 * i + k)) = byB (fiv a1 a2 a3 a4 a5 i) (24 - 8 * k) := fun i k hi hk => by
      rw [← hb']
      have c1 : ¬ n + (4 * i + k) < n := by omega
      have c2 : (n + (4 * i + k) - n) / 4 = i := by omega
      have c3 : (n + (4 * i + k) - n) % 4 = k := by omega
      simp only [c1, if_false, c2, c3]
    have hC : ∀ j, j < n + 20 → J5 2 0 j = (b' j).toInt32 := fun j hj => by
      by_cases z : j < n
      · rw [r5 j (by omega), r4 j (by omega), r3 j (by omega), r2 j (by omega), r1 j z, hb1 j z]; exact (t4 j z).1
      · obtain ⟨i, k, hi, hk, rfl⟩ : ∃ i k, i < 5 ∧ k < 4 ∧ j = n + (4 * i + k) := ⟨(j - n) / 4, (j - n) % 4, by omega, by omega, by omega⟩
        rw [hb2 i k hi hk]
        rcases (show i = 0 ∨ i = 1 ∨ i = 2 ∨ i = 3 ∨ i = 4 by omega) with rfl | rfl | rfl | rfl | rfl
        · rw [r5 _ (by omega), r4 _ (by omega), r3 _ (by omega), r2 _ (by omega)]
          have := v1 k hk
          rwa [show n + k = n + (4 * 0 + k) by omega] at this
        · rw [r5 _ (by omega), r4 _ (by omega), r3 _ (by omega)]
          have := v2 k hk
          rwa [show n + 4 + k = n + (4 * 1 + k) by omega] at this
        · rw [r5 _ (by omega), r4 _ (by omega)]
          have := v3 k hk
          rwa [show n + 4 + 4 + k = n + (4 * 2 + k) by omega] at this
        · rw [r5 _ (by omega)]
          have := v4 k hk
          rwa [show n + 4 + 4 + 4 + k = n + (4 * 3 + k) by omega] at this
        · have := v5 k hk
          rwa [show n + 4 + 4 + 4 + 4 + k = n + (4 * 4 + k) by omega] at this
    generalize hM0 : up3 (up3 (up3 (up3 (up3 J5 45 0 0 a1) 45 0 1 a2) 45 0 2 a3) 45 0 3 a4) 45 0 4 a5 = M0
    have m45 : ∀ f, f ≠ 45 → M0 f = J5 f := fun f hf => by rw [← hM0, u3_f _ _ hf, u3_f _ _ hf, u3_f _ _ hf, u3_f _ _ hf, u3_f _ _ hf]
    have mv : ∀ i, i < 5 → M0 45 0 i = fiv a1 a2 a3 a4 a5 i := fun i hi => by
      rw [← hM0]
      rcases (show i = 0 ∨ i = 1 ∨ i = 2 ∨ i = 3 ∨ i = 4 by omega) with rfl | rfl | rfl | rfl | rfl
      · rw [u3_j _ _ (by decide), u3_j _ _ (by decide), u3_j _ _ (by decide), u3_j _ _ (by decide), u3_eq]; rfl
      · rw [u3_j _ _ (by decide), u3_j _ _ (by decide), u3_j _ _ (by decide), u3_eq]; rfl
      · rw [u3_j _ _ (by decide), u3_j _ _ (by decide), u3_eq]; rfl
      · rw [u3_j _ _ (by decide), u3_eq]; rfl
      · rw [u3_eq]; rfl
    obtain ⟨M, ⟨g1, g2, g3⟩, g4⟩ := loop_z (F := fun k (K : A3 Int32) => v_X11_feed_55 X 14 (nI k) (K, L, ())) (P := fun k K => Fm [44] M0 K ∧ (∀ j, j < n → K 44 0 j = I 44 0 j) ∧ ∀ j, j < k → K 44 0 (n + j) = (byB (fiv a1 a2 a3 a4 a5 (j / 4)) (24 - 8 * (j % 4))).toInt32) 20 M0 ⟨Fm.refl, fun j _ => by rw [m45 44 (by decide), F 44 (by decide)], fun j hj => by omega⟩ (fun k K hk hP => by
      obtain ⟨p1, p2, p3⟩ := hP
      refine ⟨up3 K 44 0 (n + k) (byB (fiv a1 a2 a3 a4 a5 (k / 4)) (24 - 8 * (k % 4))).toInt32, ⟨p1.up (by decide), fun j hj => by rw [u3_j _ _ (by omega)]; exact p2 j hj, fun j hj => ?_⟩, fun s hs => v_X11_feed_55.e X 14 _ K L s ?_⟩
      · by_cases ee : j = k
        · subst ee; exact u3_eq _ _ _ _ _
        · rw [u3_j _ _ (by omega)]; exact p3 j (by omega)
      · have e5 : K 40 0 5 = nI n := by rw [p1 40 (by decide), m45 40 (by decide), F 40 (by decide)]; exact t3
        have e45 : K 45 0 (k / 4) = fiv a1 a2 a3 a4 a5 (k / 4) := by rw [p1 45 (by decide)]; exact mv _ (by omega)
        have e24 : nI 24 - nI (8 * (k % 4)) = nI (24 - 8 * (k % 4)) := n_sub (by omega)
        have q1 : nI k < 20 := by rw [show (20 : Int32) = nI 20 from rfl, n_lt (by omega) (by decide)]; omega
        have e4 : nI k / 4 = nI (k / 4) := n_div (b := 4) (by omega) (by decide)
        have em : nI k - nI k / 4 * 4 = nI (k % 4) := n_mod (b := 4) (by omega) (by decide)
        have q2 : ¬ aout (nI k / 4) 5 := by rw [e4, n_out (by omega)]; omega
        have q3 : ¬ aout (nI n + nI k) 1200 := by rw [n_add, n_out (by omega)]; omega
        rw [e5, if_pos q1, if_neg q2, if_neg q3, em, e4, n_add, n_toN (show n + k < 2147483648 by omega), n_toN (show k / 4 < 2147483648 by omega), e45, show (24 : Int32) - 8 * nI (k % 4) = nI 24 - nI (8 * (k % 4)) from by rw [← n_mul]; rfl, e24, Int8.toInt8_toInt32, l_1, n_add]
        exact hs)
    have e5 : M 40 0 5 = nI n := by rw [g1 40 (by decide), m45 40 (by decide), F 40 (by decide)]; exact t3
    refine ⟨nI (n + 20), J5, L, up3 M 40 0 5 (nI (n + 20)), L, K_X10_feed.e X 14 _ _ _ _ _ I L _ ?_, K_X11_feed.e X 14 _ _ _ _ _ J5 L _ ?_, w, e, im, n + 20, b', t, h.tape (fun f hf h1 h2 h3 => ?_) (fun j hj => ?_) ⟨c, ?_, u3_eq _ _ _ _ _, fun j hj => ⟨?_, ?_⟩⟩, ?_⟩
    · rw [hro, decide_eq_true c, a_bi_i, if_neg bne1]
      dsimp only
      rw [p1, a_bv_n, p2, a_bv_n, p3, a_bv_n, p4, a_bv_n, p5, a_bv_n]
      show some (some (aI (J5 1 0 1)), (J5, L, ())) = _
      rw [q5']
    · have e5' : J5 40 0 5 = nI n := by rw [F 40 (by decide)]; exact t3
      have q1 : ¬ (1200 : Int32) < nI n + 20 := by rw [show (20 : Int32) = nI 20 from rfl, show (1200 : Int32) = nI 1200 from rfl, n_add, n_lt (by decide) (by omega)]; omega
      rw [e5', if_neg q1, hM0]
      refine g4 _ (v_X11_feed_55.e X 14 _ M L _ ?_)
      rw [if_neg (by rw [show (20 : Int32) = nI 20 from rfl, n_lt (by decide) (by decide)]; omega), e5, show (20 : Int32) = nI 20 from rfl, n_add, u3_eq]
    · rw [u3_f _ _ (fun z => by subst z; revert hf; decide), g1 f (by simpa using h3), m45 f (fun z => by subst z; revert hf; decide), F f (by simp; omega)]
    · rw [u3_j _ _ (by omega), g1 40 (by decide), m45 40 (by decide), F 40 (by decide)]
    · rw [u3_f _ _ (by decide), g1 1 (by decide), m45 1 (by decide)]; exact q5'
    · rw [u3_f _ _ (by decide), g1 2 (by decide), m45 2 (by decide)]; exact hC j hj
    · rw [u3_f _ _ (by decide)]
      by_cases z : j < n
      · rw [g2 j z, hb1 j z]; exact (t4 j z).2
      · obtain ⟨k, hk, rfl⟩ : ∃ k, k < 20 ∧ j = n + k := ⟨j - n, by omega, by omega⟩
        rw [g3 k hk, ← hb2 (k / 4) (k % 4) (by omega) (by omega), show 4 * (k / 4) + k % 4 = k by omega]
    · have ff : ∀ f, f ≠ 40 → f ≠ 44 → f ≠ 45 → f ≠ 1 → f ≠ 2 → up3 M 40 0 5 (nI (n + 20)) f = I f := fun f h1 h2 h3 h4 h5 => by
        rw [u3_f _ _ h1, g1 f (by simpa using h2), m45 f h3, F f (by simp; omega)]
      exact hh.fams (ff 28 (by decide) (by decide) (by decide) (by decide) (by decide)) (ff 30 (by decide) (by decide) (by decide) (by decide) (by decide))
  · refine good_pure hR nN (K_X10_feed.e X 14 _ _ _ _ _ I L _ ?_) (K_X11_feed.e X 14 _ _ _ _ _ I L _ ?_)
    · rw [hro, decide_eq_false c, a_bi_i, if_pos beq0]; rfl
    · have q1 : (1200 : Int32) < nI n + 20 := by rw [show (20 : Int32) = nI 20 from rfl, show (1200 : Int32) = nI 1200 from rfl, n_add, n_lt (by decide) (by omega)]; omega
      rw [t3, if_pos q1]; rfl
end
