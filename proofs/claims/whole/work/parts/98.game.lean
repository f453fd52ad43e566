/-! first of the least, of the most; nested loops -/
def amn (f : Nat → Nat) : Nat → Nat
  | 0 => 0
  | k + 1 => if f k < f (amn f k) then k else amn f k
def amx (f : Nat → Nat) : Nat → Nat
  | 0 => 0
  | k + 1 => if f (amx f k) < f k then k else amx f k
def ear (f : Nat → Nat) : Nat → Nat
  | 0 => f 0
  | k + 1 => if f k < ear f k then f k else ear f k
theorem amn_lt (f : Nat → Nat) : ∀ k, amn f (k + 1) ≤ k := by
  intro k
  induction k with
  | zero => rw [amn]; split <;> simp [amn]
  | succ k ih =>
    rw [amn]
    split
    · omega
    · omega
theorem amx_lt (f : Nat → Nat) : ∀ k, amx f (k + 1) ≤ k := by
  intro k
  induction k with
  | zero => rw [amx]; split <;> simp [amx]
  | succ k ih =>
    rw [amx]
    split
    · omega
    · omega
theorem amn_1 (f : Nat → Nat) : amn f 1 = 0 := Nat.le_zero.mp (amn_lt f 0)
theorem amx_1 (f : Nat → Nat) : amx f 1 = 0 := Nat.le_zero.mp (amx_lt f 0)
theorem amn_ear (f : Nat → Nat) : ∀ k, f (amn f k) = ear f k := by
  intro k
  induction k with
  | zero => rfl
  | succ k ih =>
    rw [amn, ear, ih]
    split
    · rfl
    · exact ih
theorem amx_le (f : Nat → Nat) : ∀ k t, t < k → f t ≤ f (amx f k) := by
  intro k
  induction k with
  | zero => intro t ht; omega
  | succ k ih =>
    intro t ht
    rw [amx]
    by_cases e : t = k
    · subst e; split <;> omega
    · have := ih t (by omega)
      split <;> omega
theorem ear_1 (f : Nat → Nat) : ear f 1 = f 0 := by
  rw [ear, ear, if_neg (by omega)]
theorem ear_le (f : Nat → Nat) {M : Nat} (h : ∀ t, f t ≤ M) : ∀ k, ear f k ≤ M := fun k => by rw [← amn_ear]; exact h _
def nst (p : Nat → Nat → Bool) (B : Nat) : Nat → Nat → Option (Nat × Nat)
  | 0, _ => none
  | k + 1, i => match fndF (p i) B 0 with
    | some b => some (i, b)
    | none => nst p B k (i + 1)
def nsV (o : Option (Nat × Nat)) : Int32 := match o with
  | some (i, b) => nI (100 * i + b)
  | none => nN
theorem nst_loop {S : Type} {F : Nat → S → ARes Unit} {G : Nat → Nat → S → ARes Unit} {P : S → Prop} {out : S → AU} {p : Nat → Nat → Bool} {B N : Nat}
    (hF : ∀ i s, i < N → P s → OLe (G i 0 s) (F i s))
    (hy : ∀ i b s, i < N → b < B → P s → p i b = true → ∃ s', P s' ∧ G i b s = some (some (aI (nI (100 * i + b))), out s'))
    (hn : ∀ i b s, i < N → b < B → P s → p i b = false → ∃ s', P s' ∧ OLe (G i (b + 1) s') (G i b s))
    (hG : ∀ i s, i < N → P s → OLe (F (i + 1) s) (G i B s))
    (hE : ∀ s, P s → F N s = some (some (aI nN), out s)) : ∀ k i s, i + k = N → P s → ∃ s', P s' ∧ F i s = some (some (aI (nsV (nst p B k i))), out s') := by
  have inner : ∀ k i b s, i < N → b + k = B → P s → (∀ x, fndF (p i) k b = some x → ∃ s', P s' ∧ G i b s = some (some (aI (nI (100 * i + x))), out s')) ∧ (fndF (p i) k b = none → ∃ s', P s' ∧ OLe (F (i + 1) s') (G i b s)) := by
    intro k
    induction k with
    | zero =>
      intro i b s hi hb hs
      have : b = B := by omega
      subst this
      exact ⟨fun x hx => (by cases hx), fun _ => ⟨s, hs, hG i s hi hs⟩⟩
    | succ k ih =>
      intro i b s hi hb hs
      cases hp : p i b with
      | true =>
        rw [fndF, if_pos hp]
        exact ⟨fun x hx => (by cases hx; exact hy i b s hi (by omega) hs hp), fun z => (by cases z)⟩
      | false =>
        rw [fndF, if_neg (by rw [hp]; decide)]
        obtain ⟨s1, h1, h2⟩ := hn i b s hi (by omega) hs hp
        obtain ⟨a1, a2⟩ := ih i (b + 1) s1 hi (by omega) h1
        refine ⟨fun x hx => ?_, fun hz => ?_⟩
        · obtain ⟨s', b1, b2⟩ := a1 x hx
          exact ⟨s', b1, h2 _ b2⟩
        · obtain ⟨s', b1, b2⟩ := a2 hz
          exact ⟨s', b1, fun r hr => h2 r (b2 r hr)⟩
  intro k
  induction k with
  | zero =>
    intro i s hi hs
    have : i = N := by omega
    subst this
    exact ⟨s, hs, hE s hs⟩
  | succ k ih =>
    intro i s hi hs
    obtain ⟨a1, a2⟩ := inner B i 0 s (by omega) (by omega) hs
    rw [nst]
    cases hq : fndF (p i) B 0 with
    | some b =>
      obtain ⟨s', b1, b2⟩ := a1 b hq
      exact ⟨s', b1, hF i s (by omega) hs _ b2⟩
    | none =>
      obtain ⟨s', b1, b2⟩ := a2 hq
      obtain ⟨s2, c1, c2⟩ := ih (i + 1) s' (by omega) b1
      exact ⟨s2, c1, hF i s (by omega) hs _ (b2 _ c2)⟩
def smF (p : Nat → Nat → Bool) (B : Nat) : Nat → Nat
  | 0 => 0
  | k + 1 => smF p B k + cnt B (p k)
theorem smF_le (p : Nat → Nat → Bool) (B : Nat) : ∀ k, smF p B k ≤ k * B := by
  intro k
  induction k with
  | zero => simp [smF]
  | succ k ih =>
    have := cnt_le (p k) B
    rw [smF, Nat.add_mul]; omega
theorem sum_loop {S : Type} {F : Nat → Nat → S → ARes Unit} {G : Nat → Nat → Nat → S → ARes Unit} {P : S → Prop} {p : Nat → Nat → Bool} {B N : Nat}
    (hF : ∀ n i s, i < N → P s → OLe (G n i 0 s) (F n i s))
    (hy : ∀ n i b s, n ≤ N * B → i < N → b < B → P s → ∃ s', P s' ∧ OLe (G (n + (p i b).toNat) i (b + 1) s') (G n i b s))
    (hG : ∀ n i s, i < N → P s → OLe (F n (i + 1) s) (G n i B s)) {s : S} (hs : P s) : ∃ s', P s' ∧ OLe (F (smF p B N) N s') (F 0 0 s) := by
  obtain ⟨s', h1, h2⟩ := loop_z (F := fun i s => F (smF p B i) i s) (P := fun _ s => P s) N s hs (fun i s hi hP => by
    have hb := smF_le p B i
    have hm : (i + 1) * B ≤ N * B := Nat.mul_le_mul_right B hi
    rw [Nat.add_mul] at hm
    obtain ⟨s', h1, h2⟩ := loop_z (F := fun b s => G (smF p B i + cnt b (p i)) i b s) (P := fun _ s => P s) B s hP (fun b s hb' hP => by
      have := cnt_le (p i) b
      obtain ⟨s', a1, a2⟩ := hy (smF p B i + cnt b (p i)) i b s (by omega) hi hb' hP
      refine ⟨s', a1, ?_⟩
      have : cnt (b + 1) (p i) = cnt b (p i) + (p i b).toNat := by rw [cnt]; cases p i b <;> simp
      rw [this, ← Nat.add_assoc]
      exact a2)
    refine ⟨s', h1, fun r hr => ?_⟩
    exact hF _ i s hi hP _ (h2 _ (hG _ i s' hi h1 _ (by rw [smF] at hr; exact hr))))
  exact ⟨s', h1, h2⟩
