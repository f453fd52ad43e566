/-! forward: where one can have come to; lasts -/
section
variable {X : AX} {d : Nat} {I J : A3 Int32} {L : A3 Int64} {w : TW} {N : Nat} {ps : Nat → Nat → Option Nat} {kn : Nat → Nat} {lo dr : Nat → Bool}
def nxS (w : TW) (N : Nat) (ps : Nat → Nat → Option Nat) (kn : Nat → Nat) (lo dr : Nat → Bool) (m : Nat) (S : Pl → Prop) (q : Pl) : Prop := ∃ p s, S p ∧ s < 12 ∧ stp w lo dr m p s = some q ∧ fre w N ps kn lo dr m p s = true
def fwS (w : TW) (N : Nat) (ps : Nat → Nat → Option Nat) (kn : Nat → Nat) (lo dr : Nat → Bool) (S : Pl → Prop) : Nat → Pl → Prop
  | 0, p => S p ∧ isPl w lo p = true ∧ hdF N ps kn 0 p = false
  | m + 1, q => nxS w N ps kn lo dr m (fwS w N ps kn lo dr S m) q
/-- one is uncaught for i minutes more, j minutes ahead of the last -/
def alvF (w : TW) (N : Nat) (ps : Nat → Nat → Option Nat) (kn : Nat → Nat) (lo dr : Nat → Bool) : Nat → Nat → Pl → Prop
  | 0, m, p => isPl w lo p = true ∧ hdF N ps kn m p = false
  | i + 1, m, p => (isPl w lo p = true ∧ hdF N ps kn m p = false) ∧ ∃ s q, s < 12 ∧ stp w lo dr m p s = some q ∧ fre w N ps kn lo dr m p s = true ∧ alvF w N ps kn lo dr i (m + 1) q
theorem filS_la {f : Pl → R3} {m v : Nat} {p : Pl} (hv : m + 1 < v) : ∀ s, v ≤ (filS w N ps kn lo dr f m p s).2.2 ↔ ∃ t q, t < s ∧ stp w lo dr m p t = some q ∧ fre w N ps kn lo dr m p t = true ∧ v ≤ (f q).2.2 := by
  intro s
  induction s with
  | zero =>
    constructor
    · intro h; exfalso; have : v ≤ m + 1 := h; omega
    · rintro ⟨t, q, h, -⟩; omega
  | succ s ih =>
    rw [filS]
    have keep : (v ≤ (filS w N ps kn lo dr f m p s).2.2 → ∃ t q, t < s + 1 ∧ stp w lo dr m p t = some q ∧ fre w N ps kn lo dr m p t = true ∧ v ≤ (f q).2.2) := fun h => by
      obtain ⟨t, q, h1, h2⟩ := ih.mp h
      exact ⟨t, q, by omega, h2⟩
    cases hq : stp w lo dr m p s with
    | none =>
      refine ⟨keep, ?_⟩
      rintro ⟨t, q, h1, h2, h3⟩
      by_cases e : t = s
      · subst e; rw [hq] at h2; cases h2
      · exact ih.mpr ⟨t, q, by omega, h2, h3⟩
    | some q0 =>
      simp only
      split
      · rename_i hf
        show v ≤ max _ _ ↔ _
        constructor
        · intro h
          by_cases z : v ≤ (filS w N ps kn lo dr f m p s).2.2
          · exact keep z
          · exact ⟨s, q0, by omega, hq, hf, by omega⟩
        · rintro ⟨t, q, h1, h2, h3, h4⟩
          by_cases e : t = s
          · subst e; rw [hq] at h2; cases h2; omega
          · have := ih.mpr ⟨t, q, by omega, h2, h3, h4⟩; omega
      · rename_i hf
        refine ⟨keep, ?_⟩
        rintro ⟨t, q, h1, h2, h3, h4⟩
        by_cases e : t = s
        · subst e; exact absurd h3 hf
        · exact ih.mpr ⟨t, q, by omega, h2, h3, h4⟩
theorem filS_ge {f : Pl → R3} {m : Nat} {p : Pl} : ∀ s, m + 1 ≤ (filS w N ps kn lo dr f m p s).2.2 := by
  intro s
  induction s with
  | zero => exact Nat.le_refl _
  | succ s ih =>
    rw [filS]
    split
    · split
      · show _ ≤ max _ _; omega
      · exact ih
    · exact ih
theorem fil_la : ∀ j, j < w 1 → ∀ i, i ≤ j → ∀ p, (w 1 - j + i ≤ (fil w N ps kn lo dr j p).2.2 ↔ alvF w N ps kn lo dr i (w 1 - 1 - j) p) := by
  intro j
  induction j with
  | zero =>
    intro hj i hi p
    have : i = 0 := by omega
    subst this
    unfold fil alvF
    split
    · rename_i h; exact ⟨fun _ => h, fun _ => Nat.le_refl _⟩
    · rename_i h
      refine ⟨fun q => ?_, fun q => absurd q h⟩
      have q' : w 1 - 0 + 0 ≤ w 1 - 1 := q
      omega
  | succ j ih =>
    intro hj i hi p
    rw [fil, show w 1 - 1 - (j + 1) = w 1 - 2 - j by omega]
    generalize hm : w 1 - 2 - j = m
    split
    · rename_i h
      cases i with
      | zero =>
        refine ⟨fun _ => h, fun _ => ?_⟩
        have := filS_ge (w := w) (N := N) (ps := ps) (kn := kn) (lo := lo) (dr := dr) (f := fil w N ps kn lo dr j) (m := m) (p := p) 12
        omega
      | succ i =>
        rw [filS_la (by omega)]
        constructor
        · rintro ⟨t, q, h1, h2, h3, h4⟩
          refine ⟨h, t, q, h1, h2, h3, ?_⟩
          rw [show m + 1 = w 1 - 1 - j by omega]
          exact (ih (by omega) i (by omega) q).mp (by omega)
        · rintro ⟨-, t, q, h1, h2, h3, h4⟩
          refine ⟨t, q, h1, h2, h3, ?_⟩
          rw [show m + 1 = w 1 - 1 - j by omega] at h4
          have := (ih (by omega) i (by omega) q).mpr h4
          omega
    · rename_i h
      refine ⟨fun q => ?_, fun q => ?_⟩
      · have q' : w 1 - (j + 1) + i ≤ m := q
        omega
      · cases i with
        | zero => exact absurd q h
        | succ i => exact absurd q.1 h
theorem fw_ok {S : Pl → Prop} : ∀ m q, fwS w N ps kn lo dr S m q → hdF N ps kn m q = false := by
  intro m q h
  cases m with
  | zero => exact h.2.2
  | succ m =>
    obtain ⟨p, s, h1, h2, h3, h4⟩ := h
    unfold fre at h4
    rw [h3] at h4
    have := (Bool.and_eq_true_iff.mp h4).1
    simpa using this
theorem fw_in {S : Pl → Prop} : ∀ m q, fwS w N ps kn lo dr S m q → q.1 < w 0 := by
  intro m
  induction m with
  | zero =>
    intro q h
    have := h.2.1
    unfold isPl at this
    simp at this
    exact this.1
  | succ m ih =>
    intro q h
    obtain ⟨p, s, h1, h2, h3, h4⟩ := h
    exact stp_in (ih p h1) h3
theorem stp_pl {m s : Nat} {p q : Pl} (hp : isPl w lo p = true) (h : stp w lo dr m p s = some q) : isPl w lo q = true := by
  have hp0 : p.1 < w 0 := by unfold isPl at hp; simp at hp; exact hp.1
  have h0 := stp_in hp0 h
  unfold isPl
  rw [decide_eq_true h0, Bool.true_and]
  cases hq : q.2 with
  | false => rfl
  | true =>
    obtain ⟨c, l⟩ := q
    simp only at hq
    subst hq
    unfold stp at h
    split at h
    · cases h; unfold isPl at hp; simp at hp; simp [hp.2]
    · split at h
      · split at h <;> cases h
      · split at h
        · split at h <;> cases h
        · split at h
          · split at h
            · cases h
            · split at h
              · rename_i z; cases h; simp [z]
              · cases h
          · split at h <;> cases h
theorem fw_pl {S : Pl → Prop} : ∀ m q, fwS w N ps kn lo dr S m q → isPl w lo q = true := by
  intro m
  induction m with
  | zero => intro q h; exact h.2.1
  | succ m ih =>
    intro q h
    obtain ⟨p, s, h1, h2, h3, h4⟩ := h
    exact stp_pl (ih p h1) h3
theorem fw_al {S : Pl → Prop} : ∀ i m, (∃ q, fwS w N ps kn lo dr S m q ∧ alvF w N ps kn lo dr i m q) ↔ ∃ q, fwS w N ps kn lo dr S (m + i) q := by
  intro i
  induction i with
  | zero =>
    intro m
    exact ⟨fun ⟨q, h1, _⟩ => ⟨q, h1⟩, fun ⟨q, h1⟩ => ⟨q, h1, fw_pl m q h1, fw_ok m q h1⟩⟩
  | succ i ih =>
    intro m
    rw [show m + (i + 1) = m + 1 + i by omega, ← ih (m + 1)]
    constructor
    · rintro ⟨q, h1, h2, s, q', h3, h4, h5, h6⟩
      exact ⟨q', ⟨q, s, h1, h3, h4, h5⟩, h6⟩
    · rintro ⟨q', ⟨q, s, h1, h3, h4, h5⟩, h6⟩
      exact ⟨q, h1, ⟨fw_pl m q h1, fw_ok m q h1⟩, s, q', h3, h4, h5, h6⟩
/-- from one seat: the latest against the forward sets -/
theorem la_fw {a m : Nat} (hm : m < w 1) : (m + 1 ≤ (fil w N ps kn lo dr (w 1 - 1) (a, false)).2.2 ↔ ∃ q, fwS w N ps kn lo dr (fun p => p = (a, false)) m q) := by
  have h1 := fil_la (w := w) (N := N) (ps := ps) (kn := kn) (lo := lo) (dr := dr) (w 1 - 1) (by omega) m (by omega) (a, false)
  rw [show w 1 - (w 1 - 1) + m = m + 1 by omega, show w 1 - 1 - (w 1 - 1) = 0 by omega] at h1
  rw [h1]
  have h2 := fw_al (w := w) (N := N) (ps := ps) (kn := kn) (lo := lo) (dr := dr) (S := fun p => p = (a, false)) m 0
  rw [Nat.zero_add] at h2
  rw [← h2]
  constructor
  · intro h
    refine ⟨(a, false), ⟨rfl, ?_⟩, h⟩
    cases m with
    | zero => exact h
    | succ m => exact h.1
  · rintro ⟨q, ⟨rfl, -⟩, h⟩
    exact h
/-- the bits x hold the set S -/
def BS (x : Int32) (S : Pl → Prop) : Prop := (∀ q : Pl, q.1 < 8 → (bt x (cP q) = true ↔ S q)) ∧ ∀ k, 16 ≤ k → bt x k = false
theorem BS.zero {x : Int32} {S : Pl → Prop} (h : BS x S) (hS : ∀ q, S q → q.1 < 8) : (x = nI 0) ↔ ¬ ∃ q, S q := by
  rw [bt_eq0]
  constructor
  · rintro h1 ⟨q, hq⟩
    have := (h.1 q (hS q hq)).mpr hq
    rw [h1 _ (by have := cP_lt (hS q hq); omega)] at this
    cases this
  · intro h1 k hk
    by_cases hk16 : k < 16
    · obtain ⟨p, hp, rfl⟩ := cP_ex hk16
      cases hb : bt x (cP p) with
      | false => rfl
      | true => exact absurd ⟨p, (h.1 p hp).mp hb⟩ h1
    · exact h.2 k (by omega)
theorem BS.seat {x : Int32} {S : Pl → Prop} (h : BS x S) {c : Nat} (hc : c < 8) : bt x c = true ↔ S (c, false) := h.1 (c, false) hc
theorem BS.cab {x : Int32} {S : Pl → Prop} (h : BS x S) {c : Nat} (hc : c < 8) : bt x (c + 8) = true ↔ S (c, true) := h.1 (c, true) hc
end
