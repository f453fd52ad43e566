/-! staying uncaught: places, steps, what is filled -/
abbrev Pl : Type := Nat × Bool
def hdF (N : Nat) (ps : Nat → Nat → Option Nat) (kn : Nat → Nat) (m : Nat) (p : Pl) : Bool := if p.2 = true then kA N ps kn m p.1 else gA N ps m p.1
def stF (w : TW) (m : Nat) : Bool := decide (0 < m ∧ m % w 2 = 0)
def isPl (w : TW) (lo : Nat → Bool) (p : Pl) : Bool := decide (p.1 < w 0) && (!p.2 || lo p.1)
def stp (w : TW) (lo dr : Nat → Bool) (m : Nat) (p : Pl) (s : Nat) : Option Pl :=
  if s = 0 then some p
  else if s = 1 then (if p.1 + 1 < w 0 then some (p.1 + 1, false) else none)
  else if s = 2 then (if 0 < p.1 then some (p.1 - 1, false) else none)
  else if s = 3 then (if p.2 = true then some (p.1, false) else if lo p.1 = true then some (p.1, true) else none)
  else if s - 4 < w 0 ∧ s - 4 ≠ p.1 ∧ p.2 = false ∧ stF w m = true ∧ dr p.1 = true ∧ dr (s - 4) = true then some (s - 4, false) else none
/-- nobody meets him on the way -/
def mtF (N : Nat) (ps : Nat → Nat → Option Nat) (m : Nat) (p q : Pl) (s : Nat) : Bool := if s = 1 ∨ s = 2 then !(exb N (fun k => decide (ps k m = some q.1) && decide (ps k (m + 1) = some p.1))) else true
def fre (w : TW) (N : Nat) (ps : Nat → Nat → Option Nat) (kn : Nat → Nat) (lo dr : Nat → Bool) (m : Nat) (p : Pl) (s : Nat) : Bool := match stp w lo dr m p s with
  | none => false
  | some q => !(hdF N ps kn (m + 1) q) && mtF N ps m p q s
abbrev R3 : Type := Bool × Nat × Nat
def cmb (a b : R3) (s : Nat) : R3 := (a.1 || b.1, min a.2.1 (b.2.1 + (if s = 0 then 0 else 1)), max a.2.2 b.2.2)
/-- the first s steps from p in minute m, f what is filled of the next minute -/
def filS (w : TW) (N : Nat) (ps : Nat → Nat → Option Nat) (kn : Nat → Nat) (lo dr : Nat → Bool) (f : Pl → R3) (m : Nat) (p : Pl) : Nat → R3
  | 0 => (false, 1000000, m + 1)
  | s + 1 => match stp w lo dr m p s with
    | some q => if fre w N ps kn lo dr m p s = true then cmb (filS w N ps kn lo dr f m p s) (f q) s else filS w N ps kn lo dr f m p s
    | none => filS w N ps kn lo dr f m p s
/-- what is filled j minutes ahead of the last -/
def fil (w : TW) (N : Nat) (ps : Nat → Nat → Option Nat) (kn : Nat → Nat) (lo dr : Nat → Bool) : Nat → Pl → R3
  | 0, p => if isPl w lo p = true ∧ hdF N ps kn (w 1 - 1) p = false then (true, 0, w 1) else (false, 1000000, w 1 - 1)
  | j + 1, p => if isPl w lo p = true ∧ hdF N ps kn (w 1 - 2 - j) p = false then filS w N ps kn lo dr (fil w N ps kn lo dr j) (w 1 - 2 - j) p 12 else (false, 1000000, w 1 - 2 - j)
def canF (w : TW) (N : Nat) (ps : Nat → Nat → Option Nat) (kn : Nat → Nat) (lo dr : Nat → Bool) (m : Nat) (p : Pl) : Bool := (fil w N ps kn lo dr (w 1 - 1 - m) p).1
section
variable {w : TW} {N : Nat} {ps : Nat → Nat → Option Nat} {kn : Nat → Nat} {lo dr : Nat → Bool}
theorem filS_can {f : Pl → R3} {m : Nat} {p : Pl} : ∀ s, (filS w N ps kn lo dr f m p s).1 = exb s (fun s => match stp w lo dr m p s with | some q => fre w N ps kn lo dr m p s && (f q).1 | none => false) := by
  intro s
  induction s with
  | zero => rfl
  | succ s ih =>
    unfold filS exb
    rw [← ih]
    cases hq : stp w lo dr m p s with
    | none => simp [hq]
    | some q =>
      simp only
      cases hf : fre w N ps kn lo dr m p s with
      | false => simp [hq]
      | true => simp [hq, cmb]
theorem can_hd {j : Nat} {p : Pl} (h : (fil w N ps kn lo dr j p).1 = true) : isPl w lo p = true ∧ hdF N ps kn (w 1 - 1 - j) p = false := by
  cases j with
  | zero =>
    unfold fil at h
    split at h
    · rename_i q; exact q
    · cases h
  | succ j =>
    unfold fil at h
    split at h
    · rename_i q; rw [show w 1 - 1 - (j + 1) = w 1 - 2 - j by omega]; exact q
    · cases h
theorem exb12 (p : Nat → Bool) : exb 12 p = (p 0 || p 1 || p 2 || p 3 || exb 8 (fun t => p (t + 4))) := by
  simp only [exb, Bool.false_or, Bool.or_assoc]
/-- a step's worth: the way is free and one can go on -/
def goS (w : TW) (N : Nat) (ps : Nat → Nat → Option Nat) (kn : Nat → Nat) (lo dr : Nat → Bool) (j m : Nat) (p : Pl) (s : Nat) : Bool := match stp w lo dr m p s with
  | some q => fre w N ps kn lo dr m p s && (fil w N ps kn lo dr j q).1
  | none => false
theorem goS_eq {j m s : Nat} {p q : Pl} (hm : m = w 1 - 2 - j) (hj : j + 1 < w 1) (hq : stp w lo dr m p s = some q) : goS w N ps kn lo dr j m p s = (mtF N ps m p q s && (fil w N ps kn lo dr j q).1) := by
  unfold goS fre
  rw [hq]
  simp only
  cases hc : (fil w N ps kn lo dr j q).1 with
  | false => simp
  | true =>
    have h1 := (can_hd hc).2
    rw [show w 1 - 1 - j = m + 1 by omega] at h1
    rw [h1]
    simp
theorem fil_succ {j : Nat} {p : Pl} (hj : j + 1 < w 1) : (fil w N ps kn lo dr (j + 1) p).1 = (isPl w lo p && !(hdF N ps kn (w 1 - 2 - j) p) && exb 12 (goS w N ps kn lo dr j (w 1 - 2 - j) p)) := by
  rw [fil]
  cases h1 : isPl w lo p with
  | false => simp
  | true =>
    cases h2 : hdF N ps kn (w 1 - 2 - j) p with
    | true => simp
    | false =>
      simp only [and_self, if_true, Bool.not_false, Bool.true_and]
      exact filS_can 12
theorem mt_up {l : Bool} {T m c : Nat} (hm : m + 1 < T) : mtF N ps m (c, l) (c + 1, false) 1 = !(uA T N ps m c) := by
  unfold mtF uA
  rw [if_pos (Or.inl rfl)]
  simp only [hm, decide_true, Bool.true_and]
theorem mt_dn {l : Bool} {T m c : Nat} (hm : m + 1 < T) (hc : 0 < c) : mtF N ps m (c, l) (c - 1, false) 2 = !(dA T N ps m c) := by
  unfold mtF dA
  rw [if_pos (Or.inr rfl)]
  simp only [hm, hc, true_and, decide_true, Bool.true_and]
theorem can_seat {j m c : Nat} (hm : m = w 1 - 2 - j) (hj : j + 1 < w 1) (hn : w 0 ≤ 8) (hc : c < w 0) : (fil w N ps kn lo dr (j + 1) (c, false)).1 = (!(gA N ps m c) && ((fil w N ps kn lo dr j (c, false)).1 || ((fil w N ps kn lo dr j (c + 1, false)).1 && !(uA (w 1) N ps m c)) || (decide (0 < c) && (fil w N ps kn lo dr j (c - 1, false)).1 && !(dA (w 1) N ps m c)) || (fil w N ps kn lo dr j (c, true)).1 || (stF w m && dr c && exb 8 (fun t => (fil w N ps kn lo dr j (t, false)).1 && dr t)))) := by
  rw [fil_succ hj, ← hm, exb12]
  have hP : isPl w lo (c, false) = true := by unfold isPl; simp [hc]
  have hH : hdF N ps kn m (c, false) = gA N ps m c := rfl
  rw [hP, hH, Bool.true_and]
  congr 1
  have e0 : goS w N ps kn lo dr j m (c, false) 0 = (fil w N ps kn lo dr j (c, false)).1 := by
    rw [goS_eq hm hj (q := (c, false)) rfl]
    simp [mtF]
  have out : ∀ {x : Nat}, ¬ x < w 0 → (fil w N ps kn lo dr j (x, false)).1 = false := fun {x} hx => by
    cases hq : (fil w N ps kn lo dr j (x, false)).1 with
    | false => rfl
    | true => have := (can_hd hq).1; unfold isPl at this; simp [hx] at this
  have e1 : goS w N ps kn lo dr j m (c, false) 1 = ((fil w N ps kn lo dr j (c + 1, false)).1 && !(uA (w 1) N ps m c)) := by
    by_cases h1 : c + 1 < w 0
    · rw [goS_eq hm hj (q := (c + 1, false)) (by simp [stp, h1]), mt_up (T := w 1) (by omega), Bool.and_comm]
    · rw [out h1]
      unfold goS
      simp [stp, h1]
  have e2 : goS w N ps kn lo dr j m (c, false) 2 = (decide (0 < c) && (fil w N ps kn lo dr j (c - 1, false)).1 && !(dA (w 1) N ps m c)) := by
    by_cases h1 : 0 < c
    · rw [goS_eq hm hj (q := (c - 1, false)) (by simp [stp, h1]), mt_dn (T := w 1) (by omega) h1, Bool.and_comm]
      simp [h1]
    · unfold goS
      simp [stp, h1]
  have e3 : goS w N ps kn lo dr j m (c, false) 3 = (fil w N ps kn lo dr j (c, true)).1 := by
    cases hl : lo c with
    | true => rw [goS_eq hm hj (q := (c, true)) (by simp [stp, hl])]; simp [mtF]
    | false =>
      have : (fil w N ps kn lo dr j (c, true)).1 = false := by
        cases hq : (fil w N ps kn lo dr j (c, true)).1 with
        | false => rfl
        | true => have := (can_hd hq).1; unfold isPl at this; simp [hl] at this
      rw [this]
      unfold goS
      simp [stp, hl]
  rw [e0, e1, e2, e3]
  -- by the platform
  cases h0 : (fil w N ps kn lo dr j (c, false)).1 with
  | true => simp
  | false =>
    simp only [Bool.false_or]
    congr 1
    have e4 : ∀ t, t < 8 → goS w N ps kn lo dr j m (c, false) (t + 4) = (stF w m && dr c && ((fil w N ps kn lo dr j (t, false)).1 && dr t)) := by
      intro t ht
      by_cases hx : t < w 0 ∧ t ≠ c ∧ stF w m = true ∧ dr c = true ∧ dr t = true
      · rw [goS_eq hm hj (q := (t, false)) (by
          unfold stp
          rw [if_neg (by omega), if_neg (by omega), if_neg (by omega), if_neg (by omega), show t + 4 - 4 = t by omega]
          exact if_pos ⟨hx.1, hx.2.1, rfl, hx.2.2.1, hx.2.2.2.1, hx.2.2.2.2⟩)]
        have : mtF N ps m (c, false) (t, false) (t + 4) = true := by unfold mtF; rw [if_neg (by omega)]
        rw [this, hx.2.2.1, hx.2.2.2.1, hx.2.2.2.2]
        simp
      · have hn : stp w lo dr m (c, false) (t + 4) = none := by
          unfold stp
          rw [if_neg (by omega), if_neg (by omega), if_neg (by omega), if_neg (by omega), show t + 4 - 4 = t by omega]
          exact if_neg (fun q => hx ⟨q.1, q.2.1, q.2.2.2.1, q.2.2.2.2.1, q.2.2.2.2.2⟩)
        have : goS w N ps kn lo dr j m (c, false) (t + 4) = false := by unfold goS; rw [hn]
        rw [this]
        cases hq : (stF w m && dr c && ((fil w N ps kn lo dr j (t, false)).1 && dr t)) with
        | false => rfl
        | true =>
          exfalso
          simp only [Bool.and_eq_true] at hq
          obtain ⟨⟨q1, q2⟩, q3, q4⟩ := hq
          refine hx ⟨?_, ?_, q1, q2, q4⟩
          · have := (can_hd q3).1
            unfold isPl at this
            simpa using this
          · intro e; rw [e, h0] at q3; cases q3
    rw [exb_eq e4]
    cases h1 : (stF w m && dr c) with
    | false => rw [Bool.false_and]; exact exb_no.mpr fun i _ => rfl
    | true => simp
theorem can_cab {j m c : Nat} (hm : m = w 1 - 2 - j) (hj : j + 1 < w 1) (hn : w 0 ≤ 8) (hc : c < w 0) : (fil w N ps kn lo dr (j + 1) (c, true)).1 = (lo c && !(kA N ps kn m c) && ((fil w N ps kn lo dr j (c, false)).1 || ((fil w N ps kn lo dr j (c + 1, false)).1 && !(uA (w 1) N ps m c)) || (decide (0 < c) && (fil w N ps kn lo dr j (c - 1, false)).1 && !(dA (w 1) N ps m c)) || (fil w N ps kn lo dr j (c, true)).1)) := by
  rw [fil_succ hj, ← hm, exb12]
  have hP : isPl w lo (c, true) = lo c := by unfold isPl; simp [hc]
  have hH : hdF N ps kn m (c, true) = kA N ps kn m c := rfl
  rw [hP, hH]
  congr 1
  have e0 : goS w N ps kn lo dr j m (c, true) 0 = (fil w N ps kn lo dr j (c, true)).1 := by
    rw [goS_eq hm hj (q := (c, true)) rfl]
    simp [mtF]
  have out : ∀ {x : Nat}, ¬ x < w 0 → (fil w N ps kn lo dr j (x, false)).1 = false := fun {x} hx => by
    cases hq : (fil w N ps kn lo dr j (x, false)).1 with
    | false => rfl
    | true => have := (can_hd hq).1; unfold isPl at this; simp [hx] at this
  have e1 : goS w N ps kn lo dr j m (c, true) 1 = ((fil w N ps kn lo dr j (c + 1, false)).1 && !(uA (w 1) N ps m c)) := by
    by_cases h1 : c + 1 < w 0
    · rw [goS_eq hm hj (q := (c + 1, false)) (by simp [stp, h1]), mt_up (T := w 1) (by omega), Bool.and_comm]
    · rw [out h1]
      unfold goS
      simp [stp, h1]
  have e2 : goS w N ps kn lo dr j m (c, true) 2 = (decide (0 < c) && (fil w N ps kn lo dr j (c - 1, false)).1 && !(dA (w 1) N ps m c)) := by
    by_cases h1 : 0 < c
    · rw [goS_eq hm hj (q := (c - 1, false)) (by simp [stp, h1]), mt_dn (T := w 1) (by omega) h1, Bool.and_comm]
      simp [h1]
    · unfold goS
      simp [stp, h1]
  have e3 : goS w N ps kn lo dr j m (c, true) 3 = (fil w N ps kn lo dr j (c, false)).1 := by
    rw [goS_eq hm hj (q := (c, false)) (by simp [stp])]
    simp [mtF]
  have e4 : exb 8 (fun t => goS w N ps kn lo dr j m (c, true) (t + 4)) = false := by
    refine exb_no.mpr fun t ht => ?_
    have hn : stp w lo dr m (c, true) (t + 4) = none := by
      unfold stp
      rw [if_neg (by omega), if_neg (by omega), if_neg (by omega), if_neg (by omega)]
      exact if_neg (fun q => by cases q.2.2.1)
    unfold goS; rw [hn]
  rw [e0, e1, e2, e3, e4]
  generalize (fil w N ps kn lo dr j (c, true)).1 = x1
  generalize ((fil w N ps kn lo dr j (c + 1, false)).1 && !(uA (w 1) N ps m c)) = x2
  generalize (decide (0 < c) && (fil w N ps kn lo dr j (c - 1, false)).1 && !(dA (w 1) N ps m c)) = x3
  generalize (fil w N ps kn lo dr j (c, false)).1 = x4
  cases x1 <;> cases x2 <;> cases x3 <;> cases x4 <;> rfl
end
