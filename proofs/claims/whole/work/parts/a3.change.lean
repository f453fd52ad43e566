/-! set, send, undo -/
def wup (w : TW) (c z : Nat) : TW := fun j => if j = c then z else w j
theorem wup_eq (w : TW) (c z : Nat) : wup w c z c = z := if_pos rfl
theorem wup_ne (w : TW) {c j : Nat} (z : Nat) (h : j ≠ c) : wup w c z j = w j := if_neg h
section
variable {X : AX} {d : Nat} {I J : A3 Int32} {L L' : A3 Int64} {w : TW} {e : CE} {im : TI} {n : Nat} {b : Nat → Int8} {t : TS}
theorem Vw.up8 (v : Vw w) {m : Nat} (hm : m ≤ 60) : Vw (wup w 8 m) := by
  obtain ⟨⟨h0, h1, h2, h3, h4, h5, h6, h7, h8⟩, hb, hc, hi, hr, hd⟩ := v
  refine ⟨⟨h0, h1, h2, h3, h4, h5, h6, h7, ?_⟩, hb, fun c hc' => ?_, fun i hi' => ?_, fun r hr' => ?_, fun d hd' => ?_⟩
  · rw [wup_eq]; exact hm
  · rw [wup_ne _ _ (by omega), wup_ne _ _ (by omega), wup_ne _ _ (by omega)]; exact hc c hc'
  · rw [wup_ne _ _ (by omega), wup_ne _ _ (by omega), wup_ne _ _ (by omega), wup_ne _ _ (by omega), wup_ne _ _ (by omega), wup_ne _ _ (by omega)]; exact hi i hi'
  · rw [wup_ne _ _ (by omega), wup_ne _ _ (by omega), wup_ne _ _ (by omega), wup_ne _ _ (by omega), wup_ne _ _ (by omega), wup_ne _ _ (by omega)]; exact hr r hr'
  · rw [wup_ne _ _ (by omega)]; exact hd d hd'
theorem Vw.upC (v : Vw w) {j z : Nat} (hj : j < 24) (hz : z ≤ (if j % 3 = 0 then 99 else 1)) : Vw (wup w (9 + j) z) := by
  obtain ⟨⟨h0, h1, h2, h3, h4, h5, h6, h7, h8⟩, hb, hc, hi, hr, hd⟩ := v
  have lo : ∀ k, k < 9 → wup w (9 + j) z k = w k := fun k hk => wup_ne _ _ (by omega)
  have hi2 : ∀ k, 33 ≤ k → wup w (9 + j) z k = w k := fun k hk => wup_ne _ _ (by omega)
  refine ⟨⟨?_, ?_, ?_, ?_, ?_, ?_, ?_, ?_, ?_⟩, ?_, fun c hc' => ?_, fun i hi' => ?_, fun r hr' => ?_, fun d hd' => ?_⟩
  · rw [lo 0 (by decide)]; exact h0
  · rw [lo 1 (by decide)]; exact h1
  · rw [lo 2 (by decide)]; exact h2
  · rw [lo 3 (by decide)]; exact h3
  · rw [lo 4 (by decide)]; exact h4
  · rw [lo 5 (by decide)]; exact h5
  · rw [lo 6 (by decide)]; exact h6
  · rw [lo 7 (by decide)]; exact h7
  · rw [lo 8 (by decide)]; exact h8
  · rw [lo 7 (by decide), lo 0 (by decide), lo 1 (by decide), lo 5 (by decide), lo 6 (by decide), lo 2 (by decide)]; exact hb
  · have hcc := hc c hc'
    refine ⟨?_, ?_, ?_⟩
    · by_cases q : 9 + 3 * c = 9 + j
      · rw [q, wup_eq]; rw [if_pos (by omega)] at hz; exact hz
      · rw [wup_ne _ _ q]; exact hcc.1
    · by_cases q : 10 + 3 * c = 9 + j
      · rw [q, wup_eq]; rw [if_neg (by omega)] at hz; exact hz
      · rw [wup_ne _ _ q]; exact hcc.2.1
    · by_cases q : 11 + 3 * c = 9 + j
      · rw [q, wup_eq]; rw [if_neg (by omega)] at hz; exact hz
      · rw [wup_ne _ _ q]; exact hcc.2.2
  · rw [lo 5 (by decide)] at hi'
    rw [lo 0 (by decide), hi2 _ (by omega), hi2 _ (by omega), hi2 _ (by omega), hi2 _ (by omega), hi2 _ (by omega)]; exact hi i hi'
  · rw [lo 6 (by decide)] at hr'
    rw [lo 0 (by decide), hi2 _ (by omega), hi2 _ (by omega), hi2 _ (by omega), hi2 _ (by omega), hi2 _ (by omega)]; exact hr r hr'
  · rw [hi2 _ (by omega)]; exact hd d hd'
theorem Vw.upI (v : Vw w) {i k z : Nat} (hi0 : i < w 5) (hk : (k = 0 ∧ z < w 0) ∨ (k = 1 ∧ z ≤ 1)) : Vw (wup w (33 + (i * 5 + k)) z) := by
  obtain ⟨⟨h0, h1, h2, h3, h4, h5, h6, h7, h8⟩, hb, hc, hi, hr, hd⟩ := v
  have lo : ∀ x, x < 33 → wup w (33 + (i * 5 + k)) z x = w x := fun x hx => wup_ne _ _ (by omega)
  have hi2 : ∀ x, 48 ≤ x → wup w (33 + (i * 5 + k)) z x = w x := fun x hx => wup_ne _ _ (by omega)
  refine ⟨⟨?_, ?_, ?_, ?_, ?_, ?_, ?_, ?_, ?_⟩, ?_, fun c hc' => ?_, fun i' hi' => ?_, fun r hr' => ?_, fun d hd' => ?_⟩
  · rw [lo 0 (by decide)]; exact h0
  · rw [lo 1 (by decide)]; exact h1
  · rw [lo 2 (by decide)]; exact h2
  · rw [lo 3 (by decide)]; exact h3
  · rw [lo 4 (by decide)]; exact h4
  · rw [lo 5 (by decide)]; exact h5
  · rw [lo 6 (by decide)]; exact h6
  · rw [lo 7 (by decide)]; exact h7
  · rw [lo 8 (by decide)]; exact h8
  · rw [lo 7 (by decide), lo 0 (by decide), lo 1 (by decide), lo 5 (by decide), lo 6 (by decide), lo 2 (by decide)]; exact hb
  · rw [lo _ (by omega), lo _ (by omega), lo _ (by omega)]; exact hc c hc'
  · rw [lo 5 (by decide)] at hi'
    have hii := hi i' hi'
    rw [lo 0 (by decide)]
    have ne : ∀ x, x ≠ 33 + (i * 5 + k) → wup w (33 + (i * 5 + k)) z x = w x := fun x hx => wup_ne _ _ hx
    rw [ne (35 + 5 * i') (by omega), ne (36 + 5 * i') (by omega), ne (37 + 5 * i') (by omega)]
    refine ⟨?_, ?_, hii.2.2⟩
    · by_cases q : 33 + 5 * i' = 33 + (i * 5 + k)
      · rw [q, wup_eq]; omega
      · rw [ne _ q]; exact hii.1
    · by_cases q : 34 + 5 * i' = 33 + (i * 5 + k)
      · rw [q, wup_eq]; omega
      · rw [ne _ q]; exact hii.2.1
  · rw [lo 6 (by decide)] at hr'
    rw [lo 0 (by decide), hi2 _ (by omega), hi2 _ (by omega), hi2 _ (by omega), hi2 _ (by omega), hi2 _ (by omega)]; exact hr r hr'
  · rw [hi2 _ (by omega)]; exact hd d hd'
theorem Ve.up (h : Ve w e) {c z : Nat} (hc : 9 ≤ c) : Ve (wup w c z) e := by
  intro k hk
  rw [wup_ne _ _ (by omega)] at hk
  rw [wup_ne _ _ (show 5 ≠ c by omega), wup_ne _ _ (show 0 ≠ c by omega)]
  exact h k hk
theorem Ve.dec (h : Ve w e) {m : Nat} (hm : m ≤ w 8) : Ve (wup w 8 m) e := by
  intro k hk
  rw [wup_eq] at hk
  rw [wup_ne _ _ (show 5 ≠ 8 by decide), wup_ne _ _ (show 0 ≠ 8 by decide)]
  exact h k (by omega)
def epush (e : CE) (n : Nat) (x : Nat × Nat × Nat) : CE := fun j => if j = n then x else e j
theorem Ve.push (h : Ve w e) {x : Nat × Nat × Nat} (hx : (x.1 = 3 ∧ x.2.1 < w 5 ∧ x.2.2 < 2 * w 0) ∨ (x.1 < 3 ∧ x.2.1 < w 0 ∧ x.2.2 ≤ (if x.1 = 0 then 99 else 1))) : Ve (wup w 8 (w 8 + 1)) (epush e (w 8) x) := by
  intro k hk
  rw [wup_eq] at hk
  rw [wup_ne _ _ (show 5 ≠ 8 by decide), wup_ne _ _ (show 0 ≠ 8 by decide)]
  unfold epush
  by_cases q : k = w 8
  · rw [if_pos q]; exact hx
  · rw [if_neg q]; exact h k (by omega)
/-! the class's trains -/
theorem TQ.upC {q j z : Nat} (h : TQ I q w e) (hj : j < 24) : TQ (up3 I 7 q j (nI z)) q (wup w (9 + j) z) e := by
  obtain ⟨⟨a1, a2, a3, a4, a5⟩, a6, a7⟩ := h
  refine ⟨⟨fun x hx => ?_, fun x hx => ?_, fun x hx => ?_, fun x hx => ?_, fun x hx => ?_⟩, ?_, ?_⟩
  · rw [u3_f _ _ (by decide), wup_ne _ _ (by omega)]; exact a1 x hx
  · by_cases ee : x = j
    · subst ee; rw [u3_eq, wup_eq]
    · rw [u3_j _ _ ee, wup_ne _ _ (by omega)]; exact a2 x hx
  · rw [u3_f _ _ (by decide), wup_ne _ _ (by omega)]; exact a3 x hx
  · rw [u3_f _ _ (by decide), wup_ne _ _ (by omega)]; exact a4 x hx
  · rw [u3_f _ _ (by decide), wup_ne _ _ (by omega)]; exact a5 x hx
  · rw [u3_f _ _ (by decide), wup_ne _ _ (by omega)]; exact a6
  · rw [u3_f _ _ (by decide), wup_ne _ _ (by omega)]; exact a7
theorem TQ.upI {q j z : Nat} (h : TQ I q w e) (hj : j < 15) : TQ (up3 I 8 q j (nI z)) q (wup w (33 + j) z) e := by
  obtain ⟨⟨a1, a2, a3, a4, a5⟩, a6, a7⟩ := h
  refine ⟨⟨fun x hx => ?_, fun x hx => ?_, fun x hx => ?_, fun x hx => ?_, fun x hx => ?_⟩, ?_, ?_⟩
  · rw [u3_f _ _ (by decide), wup_ne _ _ (by omega)]; exact a1 x hx
  · rw [u3_f _ _ (by decide), wup_ne _ _ (by omega)]; exact a2 x hx
  · by_cases ee : x = j
    · subst ee; rw [u3_eq, wup_eq]
    · rw [u3_j _ _ ee, wup_ne _ _ (by omega)]; exact a3 x hx
  · rw [u3_f _ _ (by decide), wup_ne _ _ (by omega)]; exact a4 x hx
  · rw [u3_f _ _ (by decide), wup_ne _ _ (by omega)]; exact a5 x hx
  · rw [u3_f _ _ (by decide), wup_ne _ _ (by omega)]; exact a6
  · rw [u3_f _ _ (by decide), wup_ne _ _ (by omega)]; exact a7
theorem TQ.dec {q m : Nat} (h : TQ I q w e) (hm : m ≤ w 8) : TQ (up3 I 5 q 6 (nI m)) q (wup w 8 m) e := by
  obtain ⟨⟨a1, a2, a3, a4, a5⟩, a6, a7⟩ := h
  refine ⟨⟨fun x hx => ?_, fun x hx => ?_, fun x hx => ?_, fun x hx => ?_, fun x hx => ?_⟩, ?_, ?_⟩
  · rw [u3_f _ _ (by decide), wup_ne _ _ (by omega)]; exact a1 x hx
  · rw [u3_f _ _ (by decide), wup_ne _ _ (by omega)]; exact a2 x hx
  · rw [u3_f _ _ (by decide), wup_ne _ _ (by omega)]; exact a3 x hx
  · rw [u3_f _ _ (by decide), wup_ne _ _ (by omega)]; exact a4 x hx
  · rw [u3_f _ _ (by decide), wup_ne _ _ (by omega)]; exact a5 x hx
  · rw [u3_eq, wup_eq]
  · rw [u3_f _ _ (by decide), wup_eq]; exact fun k hk => a7 k (by omega)
def rmS (I : A3 Int32) (n : Nat) (x y z : Int32) : A3 Int32 := up3 (up3 (up3 (up3 I 11 0 (n * 3) x) 11 0 (n * 3 + 1) y) 11 0 (n * 3 + 2) z) 5 0 6 (nI (n + 1))
theorem c_remember {x y z : Int32} (h : I 5 0 6 = nI n) (hn : n < 60) (hd : 1 ≤ d) : K_X9_remember X d 0 x y z (I, L, ()) = some (none, (rmS I n x y z, L, ())) := by
  obtain ⟨g, rfl⟩ : ∃ g, d = g + 1 := ⟨d - 1, by omega⟩
  refine K_X9_remember.e X g 0 x y z I L _ ?_
  rw [h]
  have e5 : ∀ a b c i j k, up3 (up3 (up3 I 11 0 i a) 11 0 j b) 11 0 k c 5 0 6 = nI n := fun a b c i j k => by
    rw [u3_f _ _ (by decide), u3_f _ _ (by decide), u3_f _ _ (by decide)]; exact h
  simp (disch := omega) only [a_bi_i, a_bv_n, a_bl_l, a_bq_q, l_0, l_1, l_2, l_3, l_4, l_5, l_6, l_7, l_8, l_9, l_10, l_12, l_16, l_20, l_24, l_25, l_31, l_32, l_33, l_40, l_48, l_57, l_60, l_63, l_64, l_78, l_85, l_97, l_99, l_100, l_122, l_255, l_325, l_700, l_999, l_1000, l_1200, l_99999, l_100000, l_1000000, l_2000000000, l_N, n_add, n_mul, n_lt, n_out, n_div, n_dm, n_eq, n_toN, n_inN, n_ltN, n_nltN, n_neN, Nat.not_lt_zero, false_or, or_false, ite_y, ite_n, if_true, if_false, ite_tt, ite_ff, b_0, b_1, eq_self_iff_true, Bool.true_eq_false, Bool.false_eq_true, e5]
  rfl
theorem rmS_q {x : Nat × Nat × Nat} (h : TQ I 0 w e) : TQ (rmS I (w 8) (nI x.1) (nI x.2.1) (nI x.2.2)) 0 (wup w 8 (w 8 + 1)) (epush e (w 8) x) := by
  obtain ⟨⟨a1, a2, a3, a4, a5⟩, a6, a7⟩ := h
  have fo : ∀ f, f ≠ 11 → f ≠ 5 → rmS I (w 8) (nI x.1) (nI x.2.1) (nI x.2.2) f = I f := fun f h1 h2 => by
    unfold rmS; rw [u3_f _ _ h2, u3_f _ _ h1, u3_f _ _ h1, u3_f _ _ h1]
  refine ⟨⟨fun x hx => ?_, fun x hx => ?_, fun x hx => ?_, fun x hx => ?_, fun x hx => ?_⟩, ?_, fun k hk => ?_⟩
  · rw [fo 6 (by decide) (by decide), wup_ne _ _ (by omega)]; exact a1 x hx
  · rw [fo 7 (by decide) (by decide), wup_ne _ _ (by omega)]; exact a2 x hx
  · rw [fo 8 (by decide) (by decide), wup_ne _ _ (by omega)]; exact a3 x hx
  · rw [fo 9 (by decide) (by decide), wup_ne _ _ (by omega)]; exact a4 x hx
  · rw [fo 10 (by decide) (by decide), wup_ne _ _ (by omega)]; exact a5 x hx
  · unfold rmS; rw [u3_eq, wup_eq]
  · rw [wup_eq] at hk
    unfold rmS epush
    rw [u3_f _ _ (by decide)]
    by_cases q : k = w 8
    · subst q
      rw [if_pos rfl]
      refine ⟨?_, ?_, u3_eq _ _ _ _ _⟩
      · rw [u3_j _ _ (by omega), u3_j _ _ (by omega), u3_eq]
      · rw [u3_j _ _ (by omega), u3_eq]
    · rw [if_neg q, u3_j _ _ (by omega), u3_j _ _ (by omega), u3_j _ _ (by omega), u3_j _ _ (by omega), u3_j _ _ (by omega), u3_j _ _ (by omega), u3_j _ _ (by omega), u3_j _ _ (by omega), u3_j _ _ (by omega)]
      exact a7 k (by omega)
/-! the reference's world -/
theorem MRo.up {c z : Nat} (h : MRo (I 41 0) w e) (hc : c < 85) (hc8 : c ≠ 8) : MRo ((up3 I 41 0 c (nI z)) 41 0) (wup w c z) e := by
  refine ⟨fun j hj => ?_, fun k hk => ?_⟩
  · by_cases q : j = c
    · subst q; rw [u3_eq, wup_eq]
    · rw [u3_j _ _ q, wup_ne _ _ q]; exact h.1 j hj
  · rw [wup_ne _ _ (fun z => hc8 z.symm)] at hk
    rw [u3_j _ _ (by omega), u3_j _ _ (by omega), u3_j _ _ (by omega), u3_j _ _ (by omega)]
    exact h.2 k hk
theorem MRo.dec {m : Nat} (h : MRo (I 41 0) w e) (hm : m ≤ w 8) : MRo ((up3 I 41 0 8 (nI m)) 41 0) (wup w 8 m) e := by
  refine ⟨fun j hj => ?_, fun k hk => ?_⟩
  · by_cases q : j = 8
    · subst q; rw [u3_eq, wup_eq]
    · rw [u3_j _ _ q, wup_ne _ _ q]; exact h.1 j hj
  · rw [wup_eq] at hk
    rw [u3_j _ _ (by omega), u3_j _ _ (by omega), u3_j _ _ (by omega), u3_j _ _ (by omega)]
    exact h.2 k (by omega)
def kcS (I : A3 Int32) (n : Nat) (x y z u : Int32) : A3 Int32 := up3 (up3 (up3 (up3 (up3 I 41 0 (85 + 4 * n) x) 41 0 (85 + 4 * n + 1) y) 41 0 (85 + 4 * n + 2) z) 41 0 (85 + 4 * n + 3) u) 41 0 8 (nI (n + 1))
theorem kcS_j {x y z u : Int32} {j : Nat} (h1 : j < 85 ∨ 85 + 4 * n + 4 ≤ j ∨ j < 85 + 4 * n) (h8 : j ≠ 8) : kcS I n x y z u 41 0 j = I 41 0 j := by
  unfold kcS
  rw [u3_j _ _ h8, u3_j _ _ (by omega), u3_j _ _ (by omega), u3_j _ _ (by omega), u3_j _ _ (by omega)]
theorem m_keep1 {c : Nat} (h : I 41 0 8 = nI n) (hn : n < 60) (hc : c < 85) (hd : 1 ≤ d) : K_X11_keepChange X d (nI c) nN (I, L, ()) = some (none, (kcS I n (nI c) (I 41 0 c) nN (nI 0), L, ())) := by
  obtain ⟨g, rfl⟩ : ∃ g, d = g + 1 := ⟨d - 1, by omega⟩
  refine K_X11_keepChange.e X g _ _ I L _ ?_
  rw [h]
  have r1 : ∀ a, up3 I 41 0 (85 + 4 * n) a 41 0 c = I 41 0 c := fun a => u3_j _ _ (by omega)
  have r8 : ∀ a b y u, up3 (up3 (up3 (up3 I 41 0 (85 + 4 * n) a) 41 0 (85 + 4 * n + 1) b) 41 0 (85 + 4 * n + 2) y) 41 0 (85 + 4 * n + 3) u 41 0 8 = nI n := fun a b y u => by
    rw [u3_j _ _ (by omega), u3_j _ _ (by omega), u3_j _ _ (by omega), u3_j _ _ (by omega)]; exact h
  simp (disch := omega) only [a_bi_i, a_bv_n, a_bl_l, a_bq_q, l_0, l_1, l_2, l_3, l_4, l_5, l_6, l_7, l_8, l_9, l_10, l_12, l_16, l_20, l_24, l_25, l_31, l_32, l_33, l_40, l_48, l_57, l_60, l_63, l_64, l_78, l_85, l_97, l_99, l_100, l_122, l_255, l_325, l_700, l_999, l_1000, l_1200, l_99999, l_100000, l_1000000, l_2000000000, l_N, n_add, n_mul, n_lt, n_out, n_div, n_dm, n_eq, n_toN, n_inN, n_ltN, n_nltN, n_neN, Nat.not_lt_zero, false_or, or_false, ite_y, ite_n, if_true, if_false, ite_tt, ite_ff, b_0, b_1, eq_self_iff_true, Bool.true_eq_false, Bool.false_eq_true, r1, r8]
  rfl
theorem m_keep2 {c c2 : Nat} (h : I 41 0 8 = nI n) (hn : n < 60) (hc : c < 85) (hc2 : c2 < 85) (hd : 1 ≤ d) : K_X11_keepChange X d (nI c) (nI c2) (I, L, ()) = some (none, (kcS I n (nI c) (I 41 0 c) (nI c2) (I 41 0 c2), L, ())) := by
  obtain ⟨g, rfl⟩ : ∃ g, d = g + 1 := ⟨d - 1, by omega⟩
  refine K_X11_keepChange.e X g _ _ I L _ ?_
  rw [h]
  have r1 : ∀ a, up3 I 41 0 (85 + 4 * n) a 41 0 c = I 41 0 c := fun a => u3_j _ _ (by omega)
  have r2 : ∀ a b y, up3 (up3 (up3 I 41 0 (85 + 4 * n) a) 41 0 (85 + 4 * n + 1) b) 41 0 (85 + 4 * n + 2) y 41 0 c2 = I 41 0 c2 := fun a b y => by
    rw [u3_j _ _ (by omega), u3_j _ _ (by omega), u3_j _ _ (by omega)]
  have r8 : ∀ a b y u, up3 (up3 (up3 (up3 I 41 0 (85 + 4 * n) a) 41 0 (85 + 4 * n + 1) b) 41 0 (85 + 4 * n + 2) y) 41 0 (85 + 4 * n + 3) u 41 0 8 = nI n := fun a b y u => by
    rw [u3_j _ _ (by omega), u3_j _ _ (by omega), u3_j _ _ (by omega), u3_j _ _ (by omega)]; exact h
  simp (disch := omega) only [a_bi_i, a_bv_n, a_bl_l, a_bq_q, l_0, l_1, l_2, l_3, l_4, l_5, l_6, l_7, l_8, l_9, l_10, l_12, l_16, l_20, l_24, l_25, l_31, l_32, l_33, l_40, l_48, l_57, l_60, l_63, l_64, l_78, l_85, l_97, l_99, l_100, l_122, l_255, l_325, l_700, l_999, l_1000, l_1200, l_99999, l_100000, l_1000000, l_2000000000, l_N, n_add, n_mul, n_lt, n_out, n_div, n_dm, n_eq, n_toN, n_inN, n_ltN, n_nltN, n_neN, Nat.not_lt_zero, false_or, or_false, ite_y, ite_n, if_true, if_false, ite_tt, ite_ff, b_0, b_1, eq_self_iff_true, Bool.true_eq_false, Bool.false_eq_true, r1, r2, r8]
  rfl
theorem kcS_q {x : Nat × Nat × Nat} {p q r u : Int32} (h : MRo (I 41 0) w e) (hx : if x.1 = 3 then p = nI (33 + 5 * x.2.1) ∧ q = nI (x.2.2 / 2) ∧ r = nI (34 + 5 * x.2.1) ∧ u = nI (x.2.2 % 2) else p = nI (9 + 3 * x.2.1 + x.1) ∧ q = nI x.2.2 ∧ r = nN) : MRo ((kcS I (w 8) p q r u) 41 0) (wup w 8 (w 8 + 1)) (epush e (w 8) x) := by
  refine ⟨fun j hj => ?_, fun k hk => ?_⟩
  · by_cases z : j = 8
    · subst z; rw [wup_eq]; exact u3_eq _ _ _ _ _
    · rw [kcS_j (Or.inl hj) z, wup_ne _ _ z]; exact h.1 j hj
  · rw [wup_eq] at hk
    unfold epush
    by_cases z : k = w 8
    · subst z
      rw [if_pos rfl]
      have k0 : kcS I (w 8) p q r u 41 0 (85 + 4 * w 8) = p := by unfold kcS; rw [u3_j _ _ (by omega), u3_j _ _ (by omega), u3_j _ _ (by omega), u3_j _ _ (by omega), u3_eq]
      have k1 : kcS I (w 8) p q r u 41 0 (85 + 4 * w 8 + 1) = q := by unfold kcS; rw [u3_j _ _ (by omega), u3_j _ _ (by omega), u3_j _ _ (by omega), u3_eq]
      have k2 : kcS I (w 8) p q r u 41 0 (85 + 4 * w 8 + 2) = r := by unfold kcS; rw [u3_j _ _ (by omega), u3_j _ _ (by omega), u3_eq]
      have k3 : kcS I (w 8) p q r u 41 0 (85 + 4 * w 8 + 3) = u := by unfold kcS; rw [u3_j _ _ (by omega), u3_eq]
      rw [k0, k1, k2, k3]
      exact hx
    · rw [if_neg z, kcS_j (by omega) (by omega), kcS_j (by omega) (by omega), kcS_j (by omega) (by omega), kcS_j (by omega) (by omega)]
      exact h.2 k (by omega)
/-- only the train now, the world and the hunt's cache change -/
def FrW (I J : A3 Int32) : Prop := ∀ f q, (f < 5 ∨ 11 < f ∨ 0 < q) → f ≠ 28 → f ≠ 41 → J f q = I f q
theorem FrW.refl : FrW I I := fun _ _ _ _ _ => rfl
theorem FrW.up {K : A3 Int32} {f j : Nat} {x : Int32} (h : FrW I K) (hf : (5 ≤ f ∧ f ≤ 11) ∨ f = 28 ∨ f = 41) : FrW I (up3 K f 0 j x) := fun g q h1 h2 h3 => by
  by_cases z : g = f
  · subst z; rw [u3_i _ _ (by omega)]; exact h g q h1 h2 h3
  · rw [u3_f _ _ z]; exact h g q h1 h2 h3
theorem FrW.rm {K : A3 Int32} {m : Nat} {x y z : Int32} (h : FrW I K) : FrW I (rmS K m x y z) := by
  unfold rmS
  exact (((h.up (Or.inl (by decide))).up (Or.inl (by decide))).up (Or.inl (by decide))).up (Or.inl (by decide))
theorem FrW.kc {K : A3 Int32} {m : Nat} {x y z u : Int32} (h : FrW I K) : FrW I (kcS K m x y z u) := by
  unfold kcS
  exact ((((h.up (Or.inr (Or.inr rfl))).up (Or.inr (Or.inr rfl))).up (Or.inr (Or.inr rfl))).up (Or.inr (Or.inr rfl))).up (Or.inr (Or.inr rfl))
theorem RB.frw {w' : TW} {e' : CE} (h : RB I L w e im n b t) (hF : FrW I J) (hT : TQ J 0 w' e') (hM : MRo (J 41 0) w' e') (hV : Vw w') (hE : Ve w' e') : RB J L w' e' im n b t := by
  have ff : ∀ f, (f < 5 ∨ 11 < f) → f ≠ 28 → f ≠ 41 → J f = I f := fun f h1 h2 h3 => funext fun q => hF f q (by omega) h2 h3
  refine h.img (fun f hf h1 h2 h3 h4 => ff f h1 (fun z => by subst z; revert hf; decide) h2) (ff 40 (by decide) (by decide) (by decide)) hT hM hV hE ?_
  exact h.2.2.2.2.1.fams (fun f q h1 h2 hq => hF f q (by omega) (by omega) (by omega)) (ff 42 (by decide) (by decide) (by decide)) (ff 43 (by decide) (by decide) (by decide))
end
