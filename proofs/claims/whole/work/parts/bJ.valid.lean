/-! what the lines make is a train; a line goes on -/
def zw : TW := fun _ => 0
theorem Vw.zero : Vw zw := ⟨⟨by decide, by decide, by decide, by decide, by decide, by decide, by decide, by decide, by decide⟩, ⟨fun _ => ⟨rfl, rfl, rfl, rfl⟩, fun h => absurd h (by decide)⟩, fun _ _ => ⟨Nat.zero_le _, Nat.zero_le _, Nat.zero_le _⟩, fun i hi => absurd hi (Nat.not_lt_zero _), fun i hi => absurd hi (Nat.not_lt_zero _), fun _ _ => Nat.zero_le _⟩
section
variable {b : Nat → Int8} {n : Nat} {w : TW} {s : PS}
theorem Vw.up7 (v : Vw w) (h : 1 ≤ w 7) {m : Nat} (h1 : 1 ≤ m) (hm : m ≤ 2000) : Vw (wup w 7 m) := by
  obtain ⟨⟨h0, h1, h2, h3, h4, h5, h6, h7, h8⟩, hb, hc, hi, hr, hd⟩ := v
  refine ⟨⟨h0, h1, h2, h3, h4, h5, h6, ?_, h8⟩, ⟨fun z => ?_, fun _ => hb.2 h⟩, fun c hc' => ?_, fun i hi' => ?_, fun r hr' => ?_, fun d hd' => ?_⟩
  · rw [wup_eq]; exact hm
  · rw [wup_eq] at z; omega
  · rw [wup_ne _ _ (by omega), wup_ne _ _ (by omega), wup_ne _ _ (by omega)]; exact hc c hc'
  · rw [wup_ne _ _ (by omega), wup_ne _ _ (by omega), wup_ne _ _ (by omega), wup_ne _ _ (by omega), wup_ne _ _ (by omega), wup_ne _ _ (by omega)]; exact hi i hi'
  · rw [wup_ne _ _ (by omega), wup_ne _ _ (by omega), wup_ne _ _ (by omega), wup_ne _ _ (by omega), wup_ne _ _ (by omega), wup_ne _ _ (by omega)]; exact hr r hr'
  · rw [wup_ne _ _ (by omega)]; exact hd d hd'
theorem Vw.upD (v : Vw w) {dd z : Nat} (hdd : dd < 7) (hz : z ≤ 100) : Vw (wup w (78 + dd) z) := by
  obtain ⟨⟨h0, h1, h2, h3, h4, h5, h6, h7, h8⟩, hb, hc, hi, hr, hd⟩ := v
  have lo : ∀ k, k < 78 → wup w (78 + dd) z k = w k := fun k hk => wup_ne _ _ (by omega)
  refine ⟨⟨?_, ?_, ?_, ?_, ?_, ?_, ?_, ?_, ?_⟩, ?_, fun c hc' => ?_, fun i hi' => ?_, fun r hr' => ?_, fun d hd' => ?_⟩
  · rw [lo 0 (by decide)]; exact h0
  · rw [lo 1 (by decide)]; exact h1
  · rw [lo 2 (by decide)]; exact h2
  · rw [lo 3 (by decide)]; exact h3
  · rw [lo 4 (by decide)]; exact h4
  · rw [lo 5 (by decide)]; exact h5
  · rw [lo 6 (by decide)]; exact h6
  · rw [lo 7 (by decide)]; exact h7
  · rw [lo 8 (by decide)]; exact h8
  · rw [lo 7 (by decide), lo 0 (by decide), lo 1 (by decide), lo 5 (by decide), lo 6 (by decide), lo 2 (by decide)]; exact hb
  · rw [lo _ (by omega), lo _ (by omega), lo _ (by omega)]; exact hc c hc'
  · rw [lo 5 (by decide)] at hi'
    rw [lo 0 (by decide), lo _ (by omega), lo _ (by omega), lo _ (by omega), lo _ (by omega), lo _ (by omega)]; exact hi i hi'
  · rw [lo 6 (by decide)] at hr'
    rw [lo 0 (by decide), lo _ (by omega), lo _ (by omega), lo _ (by omega), lo _ (by omega), lo _ (by omega)]; exact hr r hr'
  · by_cases q : 78 + d = 78 + dd
    · rw [q, wup_eq]; exact hz
    · rw [wup_ne _ _ q]; exact hd d hd'
theorem Vw.addI (v : Vw w) (w7 : 1 ≤ w 7) (w5 : w 5 < 3) {c y p k : Nat} {t : Bool} (hc0 : c < w 0) (hy : y ≤ 1) (hp : 1 ≤ p ∧ p ≤ 20) (hk : k ≤ 100) : Vw (wIn w c y p k t) := by
  obtain ⟨⟨h0, h1, h2, h3, h4, h5, h6, h7, h8⟩, hb, hc, hi, hr, hd⟩ := v
  have hB := hb.2 w7
  have lo : ∀ x, (x ≠ 5) → (x < 33 + 5 * w 5 ∨ 33 + 5 * w 5 + 4 < x) → wIn w c y p k t x = w x := fun x hx hx2 => by
    unfold wIn
    rw [wup_ne _ _ (by omega), wup_ne _ _ (by omega), wup_ne _ _ (by omega), wup_ne _ _ (by omega), wup_ne _ _ (by omega), wup_ne _ _ (by omega)]
  have l5 : wIn w c y p k t 5 = w 5 + 1 := by
    unfold wIn
    rw [wup_ne _ _ (by omega), wup_ne _ _ (by omega), wup_ne _ _ (by omega), wup_ne _ _ (by omega), wup_ne _ _ (by omega), wup_eq]
  have r0 : wIn w c y p k t (33 + 5 * w 5) = c := by
    unfold wIn
    rw [wup_ne _ _ (by omega), wup_ne _ _ (by omega), wup_ne _ _ (by omega), wup_ne _ _ (by omega), show 33 + 5 * w 5 = 33 + w 5 * 5 by omega, wup_eq]
  have r1 : wIn w c y p k t (34 + 5 * w 5) = y := by
    unfold wIn
    rw [wup_ne _ _ (by omega), wup_ne _ _ (by omega), wup_ne _ _ (by omega), show 34 + 5 * w 5 = 33 + (w 5 * 5 + 1) by omega, wup_eq]
  have r2 : wIn w c y p k t (35 + 5 * w 5) = p := by
    unfold wIn
    rw [wup_ne _ _ (by omega), wup_ne _ _ (by omega), show 35 + 5 * w 5 = 33 + (w 5 * 5 + 2) by omega, wup_eq]
  have r3 : wIn w c y p k t (36 + 5 * w 5) = k := by
    unfold wIn
    rw [wup_ne _ _ (by omega), show 36 + 5 * w 5 = 33 + (w 5 * 5 + 3) by omega, wup_eq]
  have r4 : wIn w c y p k t (37 + 5 * w 5) = t.toNat := by
    unfold wIn
    rw [show 37 + 5 * w 5 = 33 + (w 5 * 5 + 4) by omega, wup_eq]
  have l0 := lo 0 (by omega) (by omega)
  have l1 := lo 1 (by omega) (by omega)
  have l2 := lo 2 (by omega) (by omega)
  have l6 := lo 6 (by omega) (by omega)
  have l7 := lo 7 (by omega) (by omega)
  refine ⟨⟨?_, ?_, ?_, ?_, ?_, ?_, ?_, ?_, ?_⟩, ⟨fun z => ?_, fun _ => ?_⟩, fun c hc' => ?_, fun i hi' => ?_, fun r hr' => ?_, fun d hd' => ?_⟩
  · rw [l0]; exact h0
  · rw [l1]; exact h1
  · rw [l2]; exact h2
  · rw [lo 3 (by omega) (by omega)]; exact h3
  · rw [lo 4 (by omega) (by omega)]; exact h4
  · rw [l5]; omega
  · rw [l6]; exact h6
  · rw [l7]; exact h7
  · rw [lo 8 (by omega) (by omega)]; exact h8
  · rw [l7] at z; omega
  · rw [l0, l1, l2]; exact hB
  · rw [lo _ (by omega) (by omega), lo _ (by omega) (by omega), lo _ (by omega) (by omega)]; exact hc c hc'
  · rw [l5] at hi'
    rw [l0]
    by_cases q : i = w 5
    · subst q
      rw [r0, r1, r2, r3, r4]
      exact ⟨hc0, hy, hp, hk, by cases t <;> decide⟩
    · rw [lo _ (by omega) (by omega), lo _ (by omega) (by omega), lo _ (by omega) (by omega), lo _ (by omega) (by omega), lo _ (by omega) (by omega)]; exact hi i (by omega)
  · rw [l6] at hr'
    rw [l0, lo _ (by omega) (by omega), lo _ (by omega) (by omega), lo _ (by omega) (by omega), lo _ (by omega) (by omega), lo _ (by omega) (by omega)]; exact hr r hr'
  · rw [lo _ (by omega) (by omega)]; exact hd d hd'
theorem Vw.addR (v : Vw w) (w7 : 1 ≤ w 7) (w6 : w 6 < 6) {c y p k : Nat} {t : Bool} (hc0 : c < w 0) (hy : y ≤ 3) (hp : p ≤ 7) (hk : k ≤ 100) : Vw (wRi w c y p k t) := by
  obtain ⟨⟨h0, h1, h2, h3, h4, h5, h6, h7, h8⟩, hb, hc, hi, hr, hd⟩ := v
  have hB := hb.2 w7
  have lo : ∀ x, (x ≠ 6) → (x < 48 + 5 * w 6 ∨ 48 + 5 * w 6 + 4 < x) → wRi w c y p k t x = w x := fun x hx hx2 => by
    unfold wRi
    rw [wup_ne _ _ (by omega), wup_ne _ _ (by omega), wup_ne _ _ (by omega), wup_ne _ _ (by omega), wup_ne _ _ (by omega), wup_ne _ _ (by omega)]
  have l6 : wRi w c y p k t 6 = w 6 + 1 := by
    unfold wRi
    rw [wup_ne _ _ (by omega), wup_ne _ _ (by omega), wup_ne _ _ (by omega), wup_ne _ _ (by omega), wup_ne _ _ (by omega), wup_eq]
  have r0 : wRi w c y p k t (48 + 5 * w 6) = c := by
    unfold wRi
    rw [wup_ne _ _ (by omega), wup_ne _ _ (by omega), wup_ne _ _ (by omega), wup_ne _ _ (by omega), show 48 + 5 * w 6 = 48 + (w 6 * 5 + 0) by omega, wup_eq]
  have r1 : wRi w c y p k t (49 + 5 * w 6) = y := by
    unfold wRi
    rw [wup_ne _ _ (by omega), wup_ne _ _ (by omega), wup_ne _ _ (by omega), show 49 + 5 * w 6 = 48 + (w 6 * 5 + 1) by omega, wup_eq]
  have r2 : wRi w c y p k t (50 + 5 * w 6) = p := by
    unfold wRi
    rw [wup_ne _ _ (by omega), wup_ne _ _ (by omega), show 50 + 5 * w 6 = 48 + (w 6 * 5 + 2) by omega, wup_eq]
  have r3 : wRi w c y p k t (51 + 5 * w 6) = k := by
    unfold wRi
    rw [wup_ne _ _ (by omega), show 51 + 5 * w 6 = 48 + (w 6 * 5 + 3) by omega, wup_eq]
  have r4 : wRi w c y p k t (52 + 5 * w 6) = t.toNat := by
    unfold wRi
    rw [show 52 + 5 * w 6 = 48 + (w 6 * 5 + 4) by omega, wup_eq]
  have l0 := lo 0 (by omega) (by omega)
  have l1 := lo 1 (by omega) (by omega)
  have l2 := lo 2 (by omega) (by omega)
  have l5 := lo 5 (by omega) (by omega)
  have l7 := lo 7 (by omega) (by omega)
  refine ⟨⟨?_, ?_, ?_, ?_, ?_, ?_, ?_, ?_, ?_⟩, ⟨fun z => ?_, fun _ => ?_⟩, fun c hc' => ?_, fun i hi' => ?_, fun r hr' => ?_, fun d hd' => ?_⟩
  · rw [l0]; exact h0
  · rw [l1]; exact h1
  · rw [l2]; exact h2
  · rw [lo 3 (by omega) (by omega)]; exact h3
  · rw [lo 4 (by omega) (by omega)]; exact h4
  · rw [l5]; exact h5
  · rw [l6]; omega
  · rw [l7]; exact h7
  · rw [lo 8 (by omega) (by omega)]; exact h8
  · rw [l7] at z; omega
  · rw [l0, l1, l2]; exact hB
  · rw [lo _ (by omega) (by omega), lo _ (by omega) (by omega), lo _ (by omega) (by omega)]; exact hc c hc'
  · rw [l5] at hi'
    rw [l0, lo _ (by omega) (by omega), lo _ (by omega) (by omega), lo _ (by omega) (by omega), lo _ (by omega) (by omega), lo _ (by omega) (by omega)]; exact hi i hi'
  · rw [l6] at hr'
    rw [l0]
    by_cases q : r = w 6
    · subst q
      rw [r0, r1, r2, r3, r4]
      exact ⟨hc0, hy, hp, hk, by cases t <;> decide⟩
    · rw [lo _ (by omega) (by omega), lo _ (by omega) (by omega), lo _ (by omega) (by omega), lo _ (by omega) (by omega), lo _ (by omega) (by omega)]; exact hr r (by omega)
  · rw [lo _ (by omega) (by omega)]; exact hd d hd'
theorem pLn_8 {T : TK} : (pLn b n w T).2 8 = w 8 := by
  unfold pLn
  split
  · unfold pCo
    split
    · rfl
    · split
      · rfl
      · simp only; unfold wC
        rw [wup_ne _ _ (by omega), wup_ne _ _ (by omega), wup_ne _ _ (by omega)]
  · split
    · split
      · unfold pIn wIn
        simp only
        rw [wup_ne _ _ (by omega), wup_ne _ _ (by omega), wup_ne _ _ (by omega), wup_ne _ _ (by omega), wup_ne _ _ (by omega), wup_ne _ _ (by omega)]
      · rfl
    · split
      · split
        · unfold pRi wRi
          simp only
          rw [wup_ne _ _ (by omega), wup_ne _ _ (by omega), wup_ne _ _ (by omega), wup_ne _ _ (by omega), wup_ne _ _ (by omega), wup_ne _ _ (by omega)]
        · rfl
      · split
        · unfold pDa
          simp only
          rw [wup_ne _ _ (by omega)]
        · rfl
theorem gd_to {q lo hi : Nat} (h : gd (toS b n q lo hi s).2 = true) : gd s = true := by
  cases s with
  | inl f => cases h
  | inr T => rfl
theorem gd_nm {lo hi : Nat} (h : gd (nmS b n lo hi s).2 = true) : gd s = true := by
  cases s with
  | inl f => cases h
  | inr T => rfl
theorem gd_wy (h : gd (wyS b n s).2 = true) : gd s = true := by
  cases s with
  | inl f => cases h
  | inr T => rfl
theorem gd_ru (h : gd (ruS b n s).2 = true) : gd s = true := by
  cases s with
  | inl f => cases h
  | inr T => rfl
theorem gd_tk {q : Nat} (h : gd (tkS b n q s) = true) : gd s = true := by
  cases s with
  | inl f => cases h
  | inr T => rfl
theorem gd_im {k : Option Nat} {t : Bool} (h : gd (im1 b n (k, t, s)).2.2 = true) : gd s = true := by
  cases s with
  | inl f => cases h
  | inr T => rfl
theorem Vw.coach {T : TK} (v : Vw w) (w7 : 1 ≤ w 7) (h : gd (pCo b n w T).1 = true) : Vw (pCo b n w T).2 := by
  unfold pCo at h ⊢
  have hle := toS_le (b := b) (n := n) (q := 6) (lo := 0) (hi := w 0 - 1) (s := .inr T)
  generalize toS b n 6 0 (w 0 - 1) (.inr T) = r1 at h hle ⊢
  obtain ⟨c, s1⟩ := r1
  cases s1 with
  | inl f => cases h
  | inr T1 =>
    have hc : c ≤ w 0 - 1 := (hle rfl).2
    simp only at h ⊢
    have hle2 := toS_le (b := b) (n := n) (q := 7) (lo := 0) (hi := 99) (s := .inr T1)
    generalize toS b n 7 0 99 (.inr T1) = r2 at h hle2 ⊢
    obtain ⟨p, s2⟩ := r2
    cases s2 with
    | inl f => cases h
    | inr T2 =>
      have hp : p ≤ 99 := (hle2 rfl).2
      simp only at h ⊢
      have hB := v.2.1.2 w7
      have h0 := v.1.1
      have bl : ∀ z : Bool, z.toNat ≤ 1 := fun z => by cases z <;> decide
      unfold wC
      refine Vw.upC (Vw.upC (Vw.upC v ?_ ?_) ?_ ?_) ?_ ?_
      · omega
      · rw [if_pos (by omega)]; exact hp
      · omega
      · rw [if_neg (by omega)]; exact bl _
      · omega
      · rw [if_neg (by omega)]; exact bl _
theorem Vw.line {T : TK} (v : Vw w) (w7 : 1 ≤ w 7) (w7' : w 7 < 2000) (h : gd (pLn b n w T).1 = true) : Vw (wup (pLn b n w T).2 7 (w 7 + 1)) := by
  have hB := v.2.1.2 w7
  refine Vw.up7 ?_ (by rw [pLn_7]; exact w7) (by omega) (by omega)
  unfold pLn at h ⊢
  split at h
  · rename_i c1
    rw [if_pos c1]
    exact Vw.coach v w7 h
  · rename_i c1
    rw [if_neg c1]
    split at h
    · rename_i c2
      rw [if_pos c2]
      split at h
      · rename_i c3
        rw [if_pos c3]
        unfold pIn inM at h ⊢
        simp only at h ⊢
        have g1 := sg_gd h
        have hv : ∀ v, (im1 b n (im1 b n (none, false, (toS b n 14 1 20 (wyS b n (toS b n 11 0 (w 0 - 1) (.inr (nx b n T))).2).2).2))).1 = some v → v ≤ 100 := by
          generalize (toS b n 14 1 20 (wyS b n (toS b n 11 0 (w 0 - 1) (.inr (nx b n T))).2).2).2 = s4 at g1 ⊢
          have e2 : im1 b n (none, false, s4) = ((im1 b n (none, false, s4)).1, (im1 b n (none, false, s4)).2.1, (im1 b n (none, false, s4)).2.2) := rfl
          rw [e2] at g1 ⊢
          have g2 := gd_im g1
          obtain ⟨T2, hT2⟩ : ∃ T2, (im1 b n (none, false, s4)).2.2 = .inr T2 := by
            cases hh : (im1 b n (none, false, s4)).2.2 with
            | inl f => rw [hh] at g2; cases g2
            | inr T2 => exact ⟨T2, rfl⟩
          have k1 := im1_v (b := b) (n := n) (k := none) (t := false) (s := s4) (fun v hv => by cases hv) T2 hT2
          obtain ⟨T3, hT3⟩ : ∃ T3, (im1 b n ((im1 b n (none, false, s4)).1, (im1 b n (none, false, s4)).2.1, (im1 b n (none, false, s4)).2.2)).2.2 = .inr T3 := by
            cases hh : (im1 b n ((im1 b n (none, false, s4)).1, (im1 b n (none, false, s4)).2.1, (im1 b n (none, false, s4)).2.2)).2.2 with
            | inl f => rw [hh] at g1; cases g1
            | inr T3 => exact ⟨T3, rfl⟩
          exact im1_v k1 T3 hT3
        have g2 : gd (toS b n 14 1 20 (wyS b n (toS b n 11 0 (w 0 - 1) (.inr (nx b n T))).2).2).2 = true := by
          generalize (toS b n 14 1 20 (wyS b n (toS b n 11 0 (w 0 - 1) (.inr (nx b n T))).2).2).2 = s4 at g1 ⊢
          exact gd_im (gd_im (k := (im1 b n (none, false, s4)).1) (t := (im1 b n (none, false, s4)).2.1) g1)
        have g3 := gd_wy (gd_to g2)
        have l1 := toS_le g3
        refine Vw.addI v w7 c3 (by omega) wy_le (toS_le g2) ?_
        cases hk : (im1 b n (im1 b n (none, false, (toS b n 14 1 20 (wyS b n (toS b n 11 0 (w 0 - 1) (.inr (nx b n T))).2).2).2))).1 with
        | none => exact Nat.zero_le _
        | some v => exact hv v hk
      · cases h
    · rename_i c2
      rw [if_neg c2]
      split at h
      · rename_i c3
        rw [if_pos c3]
        split at h
        · rename_i c4
          rw [if_pos c4]
          unfold pRi at h ⊢
          simp only at h ⊢
          have g4 := gd_tk (sg_gd h)
          have g3 : gd (ri3 b n w (.inr (nx b n T))).2 = true := gd_to g4
          have g2 : gd (ri2 b n w (.inr (nx b n T))).2 = true := gd_to g3
          have g1 : gd (ri1 b n w (.inr (nx b n T))).2 = true := gd_ru g2
          have l1 : (ri1 b n w (.inr (nx b n T))).1 ≤ w 0 - 1 := (toS_le g1).2
          exact Vw.addR v w7 c4 (by omega) ru_le (toS_le g3).2 (toS_le g4).2
        · cases h
      · rename_i c3
        rw [if_neg c3]
        split at h
        · rename_i c4
          rw [if_pos c4]
          unfold pDa at h ⊢
          simp only at h ⊢
          have g2 := sg_gd h
          have g1 := gd_to g2
          have l1 := (nmS_le g1).2
          exact Vw.upD v (by omega) (toS_le g2).2
        · cases h
theorem heF_gd {x : PS × TW} {k : Nat} (h : gd (heF b n (k + 1) x).1 = true) : gd (heF b n k x).1 = true ∧ hlo k ≤ (he1 b n k (heF b n k x).1).1 ∧ (he1 b n k (heF b n k x).1).1 ≤ hhi k := by
  have h' : gd (toS b n (k + 1) (hlo k) (hhi k) (heF b n k x).1).2 = true := h
  exact ⟨gd_to h', toS_le h'⟩
theorem Vw.head {T : TK} (h : gd (pHe b n zw T).1 = true) : Vw (wup (pHe b n zw T).2 7 1) ∧ (wup (pHe b n zw T).2 7 1) 8 = 0 := by
  have g5 : gd (heF b n 5 (ndS b n 0 (.inr T), zw)).1 = true := sg_gd h
  obtain ⟨g4, b4, c4⟩ := heF_gd g5
  obtain ⟨g3, b3, c3⟩ := heF_gd g4
  obtain ⟨g2, b2, c2⟩ := heF_gd g3
  obtain ⟨g1, b1, c1⟩ := heF_gd g2
  obtain ⟨g0, b0, c0⟩ := heF_gd g1
  have e : (pHe b n zw T).2 = wup (wup (wup (wup (wup zw 0 (he1 b n 0 (heF b n 0 (ndS b n 0 (.inr T), zw)).1).1) 1 (he1 b n 1 (heF b n 1 (ndS b n 0 (.inr T), zw)).1).1) 2 (he1 b n 2 (heF b n 2 (ndS b n 0 (.inr T), zw)).1).1) 3 (he1 b n 3 (heF b n 3 (ndS b n 0 (.inr T), zw)).1).1) 4 (he1 b n 4 (heF b n 4 (ndS b n 0 (.inr T), zw)).1).1 := rfl
  rw [e]
  generalize (he1 b n 0 (heF b n 0 (ndS b n 0 (.inr T), zw)).1).1 = v0 at b0 c0 ⊢
  generalize (he1 b n 1 (heF b n 1 (ndS b n 0 (.inr T), zw)).1).1 = v1 at b1 c1 ⊢
  generalize (he1 b n 2 (heF b n 2 (ndS b n 0 (.inr T), zw)).1).1 = v2 at b2 c2 ⊢
  generalize (he1 b n 3 (heF b n 3 (ndS b n 0 (.inr T), zw)).1).1 = v3 at b3 c3 ⊢
  generalize (he1 b n 4 (heF b n 4 (ndS b n 0 (.inr T), zw)).1).1 = v4 at b4 c4 ⊢
  have b0 : 2 ≤ v0 := b0
  have b1 : 1 ≤ v1 := b1
  have b2 : 1 ≤ v2 := b2
  have c0 : v0 ≤ 8 := c0
  have c1 : v1 ≤ 40 := c1
  have c2 : v2 ≤ 20 := c2
  have c3 : v3 ≤ 99 := c3
  have c4 : v4 ≤ 999 := c4
  have z : ∀ j, 8 ≤ j → wup (wup (wup (wup (wup (wup zw 0 v0) 1 v1) 2 v2) 3 v3) 4 v4) 7 1 j = 0 := fun j hj => by
    rw [wup_ne _ _ (by omega), wup_ne _ _ (by omega), wup_ne _ _ (by omega), wup_ne _ _ (by omega), wup_ne _ _ (by omega), wup_ne _ _ (by omega)]; rfl
  refine ⟨⟨⟨c0, c1, c2, c3, c4, Nat.zero_le _, Nat.zero_le _, (show 1 ≤ 2000 by decide), Nat.zero_le _⟩, ⟨(fun z => by cases z), fun _ => ⟨b0, b1, b2⟩⟩, fun c _ => ?_, fun i hi => absurd hi (Nat.not_lt_zero _), fun i hi => absurd hi (Nat.not_lt_zero _), fun d _ => ?_⟩, z 8 (by decide)⟩
  · rw [z _ (by omega), z _ (by omega), z _ (by omega)]; decide
  · rw [z _ (by omega)]; decide
end
