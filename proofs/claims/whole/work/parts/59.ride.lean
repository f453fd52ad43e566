/-! how riders go: the nearest inspector, the rules -/
def dist (a b : Nat) : Nat := (a - b) + (b - a)
theorem dist_self (a : Nat) : dist a a = 0 := by unfold dist; omega
theorem dist_0 {a b : Nat} (h : dist a b = 0) : a = b := by unfold dist at h; omega
def nr (S : Nat → Bool) (c : Nat) : Nat → Option Nat
  | 0 => none
  | k + 1 => if S k = true then (match nr S c k with
    | none => some k
    | some b => if dist k c < dist b c then some k else some b) else nr S c k
theorem nr_none {S : Nat → Bool} {c : Nat} : ∀ {k : Nat}, nr S c k = none → ∀ y, y < k → S y = false := by
  intro k
  induction k with
  | zero => intro _ y hy; omega
  | succ k ih =>
    intro h y hy
    unfold nr at h
    split at h
    · split at h
      · cases h
      · split at h <;> cases h
    · rename_i hk
      by_cases e : y = k
      · subst e; simpa using hk
      · exact ih h y (by omega)
theorem nr_some {S : Nat → Bool} {c : Nat} : ∀ {k x : Nat}, nr S c k = some x → x < k ∧ S x = true ∧ ∀ y, y < k → S y = true → dist x c < dist y c ∨ (dist x c = dist y c ∧ x ≤ y) := by
  intro k
  induction k with
  | zero => intro x h; cases h
  | succ k ih =>
    intro x h
    unfold nr at h
    split at h
    · rename_i hk
      split at h
      · rename_i hn
        cases h
        refine ⟨by omega, hk, fun y hy hs => ?_⟩
        by_cases e : y = k
        · subst e; exact Or.inr ⟨rfl, Nat.le_refl _⟩
        · rw [nr_none hn y (by omega)] at hs; cases hs
      · rename_i b hb
        obtain ⟨b1, b2, b3⟩ := ih hb
        split at h
        · rename_i hd
          cases h
          refine ⟨by omega, hk, fun y hy hs => ?_⟩
          by_cases e : y = k
          · subst e; exact Or.inr ⟨rfl, Nat.le_refl _⟩
          · rcases b3 y (by omega) hs with q | q
            · exact Or.inl (by omega)
            · exact Or.inl (by omega)
        · rename_i hd
          cases h
          refine ⟨by omega, b2, fun y hy hs => ?_⟩
          by_cases e : y = k
          · subst e
            rcases Nat.lt_or_ge (dist x c) (dist y c) with q | q
            · exact Or.inl q
            · exact Or.inr ⟨by omega, by omega⟩
          · exact b3 y (by omega) hs
    · rename_i hk
      obtain ⟨b1, b2, b3⟩ := ih h
      refine ⟨by omega, b2, fun y hy hs => ?_⟩
      by_cases e : y = k
      · subst e; exact absurd hs hk
      · exact b3 y (by omega) hs
def seenF (S : Nat → Bool) (c N se : Nat) : Option Nat := match nr S c N with
  | some x => if dist x c ≤ se then some x else none
  | none => none
def farF (S : Nat → Bool) (N c : Nat) : Nat := match nr S c N with
  | some x => dist x c
  | none => 0
def plF (w : TW) (S : Nat → Bool) (c : Nat) : Nat → Nat
  | 0 => c
  | k + 1 => if w (11 + 3 * k) = 1 ∧ farF S (w 0) (plF w S c k) < farF S (w 0) k then k else plF w S c k
def goF (w : TW) (S : Nat → Bool) (rule se m : Nat) (p : Nat × Bool) : Nat × Bool :=
  if rule = 1 then (match seenF S p.1 (w 0) se with
    | some x => if x ≤ p.1 then (if p.1 + 1 < w 0 then (p.1 + 1, false) else p) else (if 0 < p.1 then (p.1 - 1, false) else p)
    | none => p)
  else if rule = 2 then (p.1, decide (w (10 + 3 * p.1) = 1) && (seenF S p.1 (w 0) se).isSome)
  else if rule = 3 then (if (0 < m ∧ m % w 2 = 0) ∧ w (11 + 3 * p.1) ≠ 0 then (plF w S p.1 (w 0), false) else (p.1, false))
  else p
def plc (w : TW) (n : Nat) (ps : Nat → Nat → Option Nat) (r rule : Nat) : Nat → Nat × Bool
  | 0 => (w (48 + 5 * r), false)
  | m + 1 => goF w (gA n ps m) rule (w (50 + 5 * r)) m (plc w n ps r rule m)
def plOk (w : TW) (rule : Nat) (p : Nat × Bool) : Prop := p.1 < w 0 ∧ (p.2 = true → rule = 2 ∧ w (10 + 3 * p.1) = 1)
theorem plF_lt {w : TW} {S : Nat → Bool} {c : Nat} (hc : c < w 0) : ∀ k, k ≤ w 0 → plF w S c k < w 0 := by
  intro k
  induction k with
  | zero => intro _; exact hc
  | succ k ih =>
    intro h
    unfold plF
    split
    · omega
    · exact ih (by omega)
theorem goF_ok {w : TW} {S : Nat → Bool} {rule se m : Nat} {p : Nat × Bool} (h : plOk w rule p) : plOk w rule (goF w S rule se m p) := by
  obtain ⟨h1, h2⟩ := h
  unfold goF
  split
  · rename_i hr
    split
    · split
      · split
        · rename_i h5; exact ⟨h5, fun q => by cases q⟩
        · exact ⟨h1, h2⟩
      · split
        · exact ⟨by simp only; omega, fun q => by cases q⟩
        · exact ⟨h1, h2⟩
    · exact ⟨h1, h2⟩
  · split
    · rename_i hr
      refine ⟨h1, fun q => ⟨hr, ?_⟩⟩
      simp only [Bool.and_eq_true, decide_eq_true_eq] at q
      exact q.1
    · split
      · split
        · exact ⟨plF_lt h1 _ (Nat.le_refl _), fun q => by cases q⟩
        · exact ⟨h1, fun q => by cases q⟩
      · exact ⟨h1, h2⟩
theorem plc_ok {w : TW} (v : Vw w) {n r rule : Nat} {ps : Nat → Nat → Option Nat} (hr : r < w 6) : ∀ m, plOk w rule (plc w n ps r rule m) := by
  intro m
  induction m with
  | zero =>
    obtain ⟨-, -, -, -, vr, -⟩ := v
    exact ⟨(vr r hr).1, fun q => by cases q⟩
  | succ m ih => exact goF_ok ih
theorem abs_n : ∀ x, x < 16 → ∀ c, c < 16 → (if nI x - nI c < nI 0 then -(nI x - nI c) else nI x - nI c) = nI (dist x c) := by decide +kernel
section
variable {X : AX} {d : Nat} {I : A3 Int32} {L : A3 Int64} {w : TW}
theorem c_abs {a : Int32} (hd : 1 ≤ d) : K_J9_abs_0f7a4 X d a (I, L, ()) = some (some (aI (if a < nI 0 then -a else a)), (I, L, ())) := by
  obtain ⟨e, rfl⟩ : ∃ e, d = e + 1 := ⟨d - 1, by omega⟩
  refine K_J9_abs_0f7a4.e X e a I L _ ?_
  rw [l_0]
  by_cases h : a < nI 0 <;> simp [h]
theorem c_max {a b : Int32} (hd : 1 ≤ d) : K_J9_max_7cf53 X d a b (I, L, ()) = some (some (aI (if a < b then b else a)), (I, L, ())) := by
  obtain ⟨e, rfl⟩ : ∃ e, d = e + 1 := ⟨d - 1, by omega⟩
  refine K_J9_max_7cf53.e X e a b I L _ ?_
  by_cases h : a < b <;> simp [h]
theorem c_min {a b : Int32} (hd : 1 ≤ d) : K_J9_min_7cf53 X d a b (I, L, ()) = some (some (aI (if b < a then b else a)), (I, L, ())) := by
  obtain ⟨e, rfl⟩ : ∃ e, d = e + 1 := ⟨d - 1, by omega⟩
  refine K_J9_min_7cf53.e X e a b I L _ ?_
  by_cases h : b < a <;> simp [h]
theorem abs_m {x c : Nat} (hx : x < 16) (hc : c < 16) (hd : 1 ≤ d) : K_J9_abs_0f7a4 X d (nI x - nI c) (I, L, ()) = some (some (aI (nI (dist x c))), (I, L, ())) := by
  rw [c_abs hd, abs_n x hx c hc]
theorem dist_le {x c : Nat} (hx : x < 16) (hc : c < 16) : dist x c < 16 := by unfold dist; omega
theorem gA_iff {n : Nat} {ps : Nat → Nat → Option Nat} {m c : Nat} : gA n ps m c = true ↔ ∃ k, k < n ∧ ps k m = some c := by
  unfold gA
  rw [exb_iff]
  simp only [decide_eq_true_eq]
theorem c_nearestSeen {r c m n N se T : Nat} {ps : Nat → Nat → Option Nat} (h3 : I 17 r 3 = nI n) (h4 : I 17 r 4 = nI se) (hP : PC I T n ps) (hn : n ≤ 3) (hT : T ≤ 40) (hm : m < T) (hc : c < 8) (hN : N ≤ 8) (hse : se ≤ 7) (hp : ∀ k, k < n → ∀ x, ps k m = some x → x < N) (hd : 2 ≤ d) : K_X5_nearestSeen X d r (nI c) (nI m) (I, L, ()) = some (some (aI (oI (seenF (gA n ps m) c N se))), (I, L, ())) := by
  obtain ⟨e, rfl⟩ : ∃ e, d = e + 1 := ⟨d - 1, by omega⟩
  obtain ⟨⟨l3, l4⟩, ⟨b, g0, g1, g2⟩, g3⟩ := loop_z (F := fun i (s : Int32 × Int32) => v_X5_nearestSeen_13 X e r (nI c) (nI m) s.1 s.2 (nI i) (I, L, ())) (P := fun i s => ∃ b : Option Nat, s.1 = oI b ∧ (b = none → s.2 = nI (se + 1) ∧ ∀ k, k < i → ∀ x, ps k m = some x → se < dist x c) ∧ (∀ x, b = some x → s.2 = nI (dist x c) ∧ dist x c ≤ se ∧ x < N ∧ (∃ k, k < i ∧ ps k m = some x) ∧ ∀ k, k < i → ∀ y, ps k m = some y → dist x c < dist y c ∨ (dist x c = dist y c ∧ x ≤ y))) n (nN, nI (se + 1)) ⟨none, rfl, fun _ => ⟨rfl, fun k hk => by omega⟩, fun x hx => by cases hx⟩ (fun i s hi hs => by
    obtain ⟨l3, l4⟩ := s
    obtain ⟨b, b0, b1, b2⟩ := hs
    simp only at b0 b1 b2
    subst b0
    have hrow := hP i hi m hm
    cases hq : ps i m with
    | none =>
      refine ⟨(oI b, l4), ⟨b, rfl, fun hb => ⟨(b1 hb).1, fun k hk x hx => ?_⟩, fun x hx => ?_⟩, fun z hz => ?_⟩
      · by_cases ek : k = i
        · subst ek; rw [hq] at hx; cases hx
        · exact (b1 hb).2 k (by omega) x hx
      · obtain ⟨c1, c2, c2', ⟨k, c3, c4⟩, c5⟩ := b2 x hx
        refine ⟨c1, c2, c2', ⟨k, by omega, c4⟩, fun k hk y hy => ?_⟩
        by_cases ek : k = i
        · subst ek; rw [hq] at hy; cases hy
        · exact c5 k (by omega) y hy
      · refine v_X5_nearestSeen_13.e X e _ _ _ _ _ _ I L z ?_
        rw [h3]
        simp (disch := omega) only [a_bi_i, a_bv_n, a_bl_l, a_bq_q, l_0, l_1, l_2, l_3, l_4, l_5, l_6, l_7, l_8, l_9, l_10, l_12, l_16, l_20, l_24, l_25, l_31, l_32, l_33, l_40, l_48, l_57, l_60, l_63, l_64, l_78, l_85, l_97, l_99, l_100, l_122, l_255, l_325, l_700, l_999, l_1000, l_1200, l_99999, l_100000, l_1000000, l_2000000000, l_N, n_add, n_mul, n_lt, n_out, n_div, n_dm, n_eq, n_toN, n_inN, n_ltN, n_nltN, n_neN, Nat.not_lt_zero, false_or, or_false, ite_y, ite_n, if_true, if_false, ite_tt, ite_ff, b_0, b_1, eq_self_iff_true, Bool.true_eq_false, Bool.false_eq_true, hrow, hq, oI, c_abs]
        exact hz
    | some x =>
      have hx8 := hp i hi x hq
      have hdx : dist x c < 16 := dist_le (by omega) (by omega)
      have take : (∀ y, b = some y → dist x c < dist y c ∨ (dist x c = dist y c ∧ x ≤ y)) → dist x c ≤ se → ∃ b' : Option Nat, (nI x, nI (dist x c)).1 = oI b' ∧ (b' = none → (nI x, nI (dist x c)).2 = nI (se + 1) ∧ ∀ k, k < i + 1 → ∀ x, ps k m = some x → se < dist x c) ∧ (∀ x_1, b' = some x_1 → (nI x, nI (dist x c)).2 = nI (dist x_1 c) ∧ dist x_1 c ≤ se ∧ x_1 < N ∧ (∃ k, k < i + 1 ∧ ps k m = some x_1) ∧ ∀ k, k < i + 1 → ∀ y, ps k m = some y → dist x_1 c < dist y c ∨ (dist x_1 c = dist y c ∧ x_1 ≤ y)) := by
        intro h1 h2
        refine ⟨some x, rfl, (fun q => by cases q), fun z hz => ?_⟩
        cases hz
        refine ⟨rfl, h2, hx8, ⟨i, by omega, hq⟩, fun k hk y hy => ?_⟩
        by_cases ek : k = i
        · subst ek; rw [hq] at hy; cases hy; exact Or.inr ⟨rfl, Nat.le_refl _⟩
        · cases hb : b with
          | none => have := (b1 hb).2 k (by omega) y hy; exact Or.inl (by omega)
          | some z =>
            obtain ⟨-, -, -, -, c5⟩ := b2 z hb
            have i1 := c5 k (by omega) y hy
            have i2 := h1 z hb
            omega
      have keep : (b = none → se < dist x c) → (∀ y, b = some y → dist y c < dist x c ∨ (dist y c = dist x c ∧ y ≤ x)) → ∃ b' : Option Nat, (oI b, l4).1 = oI b' ∧ (b' = none → (oI b, l4).2 = nI (se + 1) ∧ ∀ k, k < i + 1 → ∀ x, ps k m = some x → se < dist x c) ∧ (∀ x, b' = some x → (oI b, l4).2 = nI (dist x c) ∧ dist x c ≤ se ∧ x < N ∧ (∃ k, k < i + 1 ∧ ps k m = some x) ∧ ∀ k, k < i + 1 → ∀ y, ps k m = some y → dist x c < dist y c ∨ (dist x c = dist y c ∧ x ≤ y)) := by
        intro h1 h2
        refine ⟨b, rfl, fun hb => ⟨(b1 hb).1, fun k hk y hy => ?_⟩, fun z hz => ?_⟩
        · by_cases ek : k = i
          · subst ek; rw [hq] at hy; cases hy; exact h1 hb
          · exact (b1 hb).2 k (by omega) y hy
        · obtain ⟨c1, c2, c2', ⟨k, c3, c4⟩, c5⟩ := b2 z hz
          refine ⟨c1, c2, c2', ⟨k, by omega, c4⟩, fun k hk y hy => ?_⟩
          by_cases ek : k = i
          · subst ek; rw [hq] at hy; cases hy; exact h2 z hz
          · exact c5 k (by omega) y hy
      have red : ∀ (z : Option AV × AS Unit), (if nI (dist x c) < l4 then v_X5_nearestSeen_13 X e r (nI c) (nI m) (nI x) (nI (dist x c)) (nI (i + 1)) (I, L, ()) else (if nI (dist x c) = l4 then (if nI x < oI b then v_X5_nearestSeen_13 X e r (nI c) (nI m) (nI x) (nI (dist x c)) (nI (i + 1)) (I, L, ()) else v_X5_nearestSeen_13 X e r (nI c) (nI m) (oI b) l4 (nI (i + 1)) (I, L, ())) else v_X5_nearestSeen_13 X e r (nI c) (nI m) (oI b) l4 (nI (i + 1)) (I, L, ()))) = some z → v_X5_nearestSeen_13 X e r (nI c) (nI m) (oI b) l4 (nI i) (I, L, ()) = some z := by
        intro z hz
        refine v_X5_nearestSeen_13.e X e _ _ _ _ _ _ I L z ?_
        rw [h3]
        simp (disch := omega) only [a_bi_i, a_bv_n, a_bl_l, a_bq_q, l_0, l_1, l_2, l_3, l_4, l_5, l_6, l_7, l_8, l_9, l_10, l_12, l_16, l_20, l_24, l_25, l_31, l_32, l_33, l_40, l_48, l_57, l_60, l_63, l_64, l_78, l_85, l_97, l_99, l_100, l_122, l_255, l_325, l_700, l_999, l_1000, l_1200, l_99999, l_100000, l_1000000, l_2000000000, l_N, n_add, n_mul, n_lt, n_out, n_div, n_dm, n_eq, n_toN, n_inN, n_ltN, n_nltN, n_neN, Nat.not_lt_zero, false_or, or_false, ite_y, ite_n, if_true, if_false, ite_tt, ite_ff, b_0, b_1, eq_self_iff_true, Bool.true_eq_false, Bool.false_eq_true, hrow, hq, oI, abs_m]
        exact hz
      cases hb : b with
      | none =>
        have hl4 := (b1 hb).1
        by_cases hcase : dist x c < se + 1
        · refine ⟨_, take (fun y hy => by rw [hb] at hy; cases hy) (by omega), fun z hz => ?_⟩
          rw [← hb]
          refine red z ?_
          rw [hl4, if_pos ((n_lt (by omega) (by omega)).mpr hcase)]
          exact hz
        · refine ⟨_, keep (fun _ => by omega) (fun y hy => by rw [hb] at hy; cases hy), fun z hz => ?_⟩
          rw [← hb]
          refine red z ?_
          rw [hl4, if_neg (fun q => hcase ((n_lt (by omega) (by omega)).mp q))]
          have hlt : ¬ nI x < oI b := by rw [hb]; exact fun q => (n_ltN (show x < 2147483648 by omega)).mp q
          rw [if_neg hlt]
          split <;> (rw [← hl4]; exact hz)
      | some y =>
        obtain ⟨hl4, hyse, hyN, -, -⟩ := b2 y hb
        have hdy : dist y c < 16 := dist_le (by omega) (by omega)
        by_cases h1 : dist x c < dist y c
        · refine ⟨_, take (fun z hz => by rw [hb] at hz; cases hz; exact Or.inl h1) (by omega), fun z hz => ?_⟩
          rw [← hb]
          refine red z ?_
          rw [hl4, if_pos ((n_lt (by omega) (by omega)).mpr h1)]
          exact hz
        · by_cases h2 : dist x c = dist y c ∧ x < y
          · refine ⟨_, take (fun z hz => by rw [hb] at hz; cases hz; exact Or.inr ⟨h2.1, by omega⟩) (by omega), fun z hz => ?_⟩
            rw [← hb]
            refine red z ?_
            rw [hl4, if_neg (fun q => h1 ((n_lt (by omega) (by omega)).mp q)), if_pos (by rw [h2.1]), if_pos (by rw [hb]; exact (n_lt (show x < 2147483648 by omega) (show y < 2147483648 by omega)).mpr h2.2)]
            exact hz
          · refine ⟨_, keep (fun q => by rw [hb] at q; cases q) (fun z hz => by rw [hb] at hz; cases hz; omega), fun z hz => ?_⟩
            rw [← hb]
            refine red z ?_
            rw [hl4, if_neg (fun q => h1 ((n_lt (by omega) (by omega)).mp q))]
            by_cases h4 : dist x c = dist y c
            · rw [if_pos (by rw [h4]), if_neg (by rw [hb]; exact fun q => h2 ⟨h4, (n_lt (show x < 2147483648 by omega) (show y < 2147483648 by omega)).mp q⟩), ← hl4]
              exact hz
            · rw [if_neg (fun q => h4 ((n_eq (by omega) (by omega)).mp q)), ← hl4]
              exact hz)
  simp only at g0 g1 g2 g3
  have fin : b = seenF (gA n ps m) c N se := by
    unfold seenF
    cases hnr : nr (gA n ps m) c N with
    | none =>
      cases hb : b with
      | none => rfl
      | some x =>
        obtain ⟨-, -, hxN, ⟨k, c3, c4⟩, -⟩ := g2 x hb
        have := nr_none hnr x hxN
        rw [gA_iff.mpr ⟨k, c3, c4⟩] at this
        cases this
    | some y =>
      obtain ⟨y1, y2, y3⟩ := nr_some hnr
      obtain ⟨ky, ky1, ky2⟩ := gA_iff.mp y2
      cases hb : b with
      | none =>
        have := (g1 hb).2 ky ky1 y ky2
        simp only
        rw [if_neg (by omega)]
      | some x =>
        obtain ⟨-, hse', hxN, ⟨k, c3, c4⟩, c5⟩ := g2 x hb
        have i1 := c5 ky ky1 y ky2
        have i2 := y3 x hxN (gA_iff.mpr ⟨k, c3, c4⟩)
        have : x = y := by omega
        subst this
        simp only
        rw [if_pos hse']
  refine K_X5_nearestSeen.e X e r _ _ I L _ ?_
  rw [h4]
  simp (disch := omega) only [l_0, l_1, l_2, l_3, l_4, l_5, l_6, l_7, l_8, l_9, l_10, l_12, l_16, l_20, l_24, l_25, l_31, l_32, l_33, l_40, l_48, l_57, l_60, l_63, l_64, l_78, l_85, l_97, l_99, l_100, l_122, l_255, l_325, l_700, l_999, l_1000, l_1200, l_99999, l_100000, l_1000000, l_2000000000, l_N, n_add]
  refine g3 _ (v_X5_nearestSeen_13.e X e _ _ _ _ _ _ I L _ ?_)
  rw [h3, g0, fin]
  simp (disch := omega) only [a_bi_i, a_bv_n, a_bl_l, a_bq_q, l_0, l_1, l_2, l_3, l_4, l_5, l_6, l_7, l_8, l_9, l_10, l_12, l_16, l_20, l_24, l_25, l_31, l_32, l_33, l_40, l_48, l_57, l_60, l_63, l_64, l_78, l_85, l_97, l_99, l_100, l_122, l_255, l_325, l_700, l_999, l_1000, l_1200, l_99999, l_100000, l_1000000, l_2000000000, l_N, n_add, n_mul, n_lt, n_out, n_div, n_dm, n_eq, n_toN, n_inN, n_ltN, n_nltN, n_neN, Nat.not_lt_zero, false_or, or_false, ite_y, ite_n, if_true, if_false, ite_tt, ite_ff, b_0, b_1, eq_self_iff_true, Bool.true_eq_false, Bool.false_eq_true]
theorem c_farness {r c m n N T : Nat} {ps : Nat → Nat → Option Nat} (h3 : I 17 r 3 = nI n) (hP : PC I T n ps) (hn : n ≤ 3) (hT : T ≤ 40) (hm : m < T) (hc : c < 8) (hN : N ≤ 8) (hp : ∀ k, k < n → ∀ x, ps k m = some x → x < N) (hd : 2 ≤ d) : K_X5_farness X d r (nI c) (nI m) (I, L, ()) = some (some (aI (oI ((nr (gA n ps m) c N).map (fun x => dist x c)))), (I, L, ())) := by
  obtain ⟨e, rfl⟩ : ∃ e, d = e + 1 := ⟨d - 1, by omega⟩
  obtain ⟨l3, ⟨b, g0, g1, g2⟩, g3⟩ := loop_z (F := fun i (s : Int32) => v_X5_farness_5 X e r (nI c) (nI m) s (nI i) (I, L, ())) (P := fun i s => ∃ b : Option Nat, s = oI b ∧ (b = none → ∀ k, k < i → ps k m = none) ∧ (∀ v, b = some v → v < 16 ∧ (∃ k, k < i ∧ ∃ x, ps k m = some x ∧ dist x c = v) ∧ ∀ k, k < i → ∀ y, ps k m = some y → v ≤ dist y c)) n nN ⟨none, rfl, fun _ k hk => by omega, fun x hx => by cases hx⟩ (fun i s hi hs => by
    obtain ⟨b, b0, b1, b2⟩ := hs
    subst b0
    have hrow := hP i hi m hm
    cases hq : ps i m with
    | none =>
      refine ⟨oI b, ⟨b, rfl, fun hb k hk => ?_, fun v hv => ?_⟩, fun z hz => ?_⟩
      · by_cases ek : k = i
        · subst ek; exact hq
        · exact b1 hb k (by omega)
      · obtain ⟨c0, ⟨k, c1, c2⟩, c3⟩ := b2 v hv
        refine ⟨c0, ⟨k, by omega, c2⟩, fun k hk y hy => ?_⟩
        by_cases ek : k = i
        · subst ek; rw [hq] at hy; cases hy
        · exact c3 k (by omega) y hy
      · refine v_X5_farness_5.e X e _ _ _ _ _ I L z ?_
        rw [h3]
        simp (disch := omega) only [a_bi_i, a_bv_n, a_bl_l, a_bq_q, l_0, l_1, l_2, l_3, l_4, l_5, l_6, l_7, l_8, l_9, l_10, l_12, l_16, l_20, l_24, l_25, l_31, l_32, l_33, l_40, l_48, l_57, l_60, l_63, l_64, l_78, l_85, l_97, l_99, l_100, l_122, l_255, l_325, l_700, l_999, l_1000, l_1200, l_99999, l_100000, l_1000000, l_2000000000, l_N, n_add, n_mul, n_lt, n_out, n_div, n_dm, n_eq, n_toN, n_inN, n_ltN, n_nltN, n_neN, Nat.not_lt_zero, false_or, or_false, ite_y, ite_n, if_true, if_false, ite_tt, ite_ff, b_0, b_1, eq_self_iff_true, Bool.true_eq_false, Bool.false_eq_true, hrow, hq, oI, c_abs]
        exact hz
    | some x =>
      have hx8 := hp i hi x hq
      have hdx : dist x c < 16 := dist_le (by omega) (by omega)
      cases hb : b with
      | none =>
        refine ⟨nI (dist x c), ⟨some (dist x c), rfl, (fun q => by cases q), fun v hv => ?_⟩, fun z hz => ?_⟩
        · cases hv
          refine ⟨hdx, ⟨i, by omega, x, hq, rfl⟩, fun k hk y hy => ?_⟩
          by_cases ek : k = i
          · subst ek; rw [hq] at hy; cases hy; exact Nat.le_refl _
          · rw [b1 hb k (by omega)] at hy; cases hy
        · refine v_X5_farness_5.e X e _ _ _ _ _ I L z ?_
          rw [h3]
          simp (disch := omega) only [a_bi_i, a_bv_n, a_bl_l, a_bq_q, l_0, l_1, l_2, l_3, l_4, l_5, l_6, l_7, l_8, l_9, l_10, l_12, l_16, l_20, l_24, l_25, l_31, l_32, l_33, l_40, l_48, l_57, l_60, l_63, l_64, l_78, l_85, l_97, l_99, l_100, l_122, l_255, l_325, l_700, l_999, l_1000, l_1200, l_99999, l_100000, l_1000000, l_2000000000, l_N, n_add, n_mul, n_lt, n_out, n_div, n_dm, n_eq, n_toN, n_inN, n_ltN, n_nltN, n_neN, Nat.not_lt_zero, false_or, or_false, ite_y, ite_n, if_true, if_false, ite_tt, ite_ff, b_0, b_1, eq_self_iff_true, Bool.true_eq_false, Bool.false_eq_true, hrow, hq, oI, abs_m]
          exact hz
      | some v =>
        obtain ⟨c0, ⟨k, c1, x', c2, c2'⟩, c3⟩ := b2 v hb
        by_cases hlt : dist x c < v
        · refine ⟨nI (dist x c), ⟨some (dist x c), rfl, (fun q => by cases q), fun v' hv => ?_⟩, fun z hz => ?_⟩
          · cases hv
            refine ⟨hdx, ⟨i, by omega, x, hq, rfl⟩, fun k hk y hy => ?_⟩
            by_cases ek : k = i
            · subst ek; rw [hq] at hy; cases hy; exact Nat.le_refl _
            · have := c3 k (by omega) y hy; omega
          · refine v_X5_farness_5.e X e _ _ _ _ _ I L z ?_
            rw [h3]
            simp (disch := omega) only [a_bi_i, a_bv_n, a_bl_l, a_bq_q, l_0, l_1, l_2, l_3, l_4, l_5, l_6, l_7, l_8, l_9, l_10, l_12, l_16, l_20, l_24, l_25, l_31, l_32, l_33, l_40, l_48, l_57, l_60, l_63, l_64, l_78, l_85, l_97, l_99, l_100, l_122, l_255, l_325, l_700, l_999, l_1000, l_1200, l_99999, l_100000, l_1000000, l_2000000000, l_N, n_add, n_mul, n_lt, n_out, n_div, n_dm, n_eq, n_toN, n_inN, n_ltN, n_nltN, n_neN, Nat.not_lt_zero, false_or, or_false, ite_y, ite_n, if_true, if_false, ite_tt, ite_ff, b_0, b_1, eq_self_iff_true, Bool.true_eq_false, Bool.false_eq_true, hrow, hq, oI, abs_m, hlt]
            exact hz
        · refine ⟨nI v, ⟨some v, rfl, (fun q => by cases q), fun v' hv => ?_⟩, fun z hz => ?_⟩
          · cases hv
            refine ⟨c0, ⟨k, by omega, x', c2, c2'⟩, fun k hk y hy => ?_⟩
            by_cases ek : k = i
            · subst ek; rw [hq] at hy; cases hy; omega
            · exact c3 k (by omega) y hy
          · refine v_X5_farness_5.e X e _ _ _ _ _ I L z ?_
            rw [h3]
            simp (disch := omega) only [a_bi_i, a_bv_n, a_bl_l, a_bq_q, l_0, l_1, l_2, l_3, l_4, l_5, l_6, l_7, l_8, l_9, l_10, l_12, l_16, l_20, l_24, l_25, l_31, l_32, l_33, l_40, l_48, l_57, l_60, l_63, l_64, l_78, l_85, l_97, l_99, l_100, l_122, l_255, l_325, l_700, l_999, l_1000, l_1200, l_99999, l_100000, l_1000000, l_2000000000, l_N, n_add, n_mul, n_lt, n_out, n_div, n_dm, n_eq, n_toN, n_inN, n_ltN, n_nltN, n_neN, Nat.not_lt_zero, false_or, or_false, ite_y, ite_n, if_true, if_false, ite_tt, ite_ff, b_0, b_1, eq_self_iff_true, Bool.true_eq_false, Bool.false_eq_true, hrow, hq, oI, abs_m, hlt]
            exact hz)
  have fin : b = (nr (gA n ps m) c N).map (fun x => dist x c) := by
    cases hnr : nr (gA n ps m) c N with
    | none =>
      cases hb : b with
      | none => rfl
      | some v =>
        obtain ⟨-, ⟨k, c1, x, c2, -⟩, -⟩ := g2 v hb
        have := nr_none hnr x (hp k c1 x c2)
        rw [gA_iff.mpr ⟨k, c1, c2⟩] at this
        cases this
    | some y =>
      obtain ⟨y1, y2, y3⟩ := nr_some hnr
      obtain ⟨ky, ky1, ky2⟩ := gA_iff.mp y2
      cases hb : b with
      | none => rw [g1 hb ky ky1] at ky2; cases ky2
      | some v =>
        obtain ⟨-, ⟨k, c1, x, c2, c2'⟩, c3⟩ := g2 v hb
        have i1 := c3 ky ky1 y ky2
        have i2 := y3 x (hp k c1 x c2) (gA_iff.mpr ⟨k, c1, c2⟩)
        show some v = some (dist y c)
        congr 1
        omega
  refine K_X5_farness.e X e r _ _ I L _ ?_
  simp (disch := omega) only [l_0, l_1, l_2, l_3, l_4, l_5, l_6, l_7, l_8, l_9, l_10, l_12, l_16, l_20, l_24, l_25, l_31, l_32, l_33, l_40, l_48, l_57, l_60, l_63, l_64, l_78, l_85, l_97, l_99, l_100, l_122, l_255, l_325, l_700, l_999, l_1000, l_1200, l_99999, l_100000, l_1000000, l_2000000000, l_N]
  refine g3 _ (v_X5_farness_5.e X e _ _ _ _ _ I L _ ?_)
  rw [h3, g0, fin]
  simp (disch := omega) only [a_bi_i, a_bv_n, a_bl_l, a_bq_q, l_0, l_1, l_2, l_3, l_4, l_5, l_6, l_7, l_8, l_9, l_10, l_12, l_16, l_20, l_24, l_25, l_31, l_32, l_33, l_40, l_48, l_57, l_60, l_63, l_64, l_78, l_85, l_97, l_99, l_100, l_122, l_255, l_325, l_700, l_999, l_1000, l_1200, l_99999, l_100000, l_1000000, l_2000000000, l_N, n_add, n_mul, n_lt, n_out, n_div, n_dm, n_eq, n_toN, n_inN, n_ltN, n_nltN, n_neN, Nat.not_lt_zero, false_or, or_false, ite_y, ite_n, if_true, if_false, ite_tt, ite_ff, b_0, b_1, eq_self_iff_true, Bool.true_eq_false, Bool.false_eq_true]
end
