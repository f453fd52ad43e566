/-! the reference's search: rows of one, of two, of three -/
section
variable {X : AX} {d : Nat} {I0 I J : A3 Int32} {L : A3 Int64} {w : TW}
theorem f_one (h : TM I0 w) (v : Vw w) (h5 : 0 < w 5) (hQ : QM I0 (loB w) (doB w)) (hd : 7 ≤ d) (hS : RS I0 I 1 (fun _ => 0)) : (∀ i, a1F w = some i → FD X d L I0 1 (fun _ => i) I) ∧ (a1F w = none → EN X d L I0 2 I) := by
  have hw0 : 2 ≤ w 0 := (v.live (Or.inr (Or.inr (Or.inl h5)))).2.1
  obtain ⟨B, hB⟩ : ∃ B, 2 * w 0 = B + 1 := ⟨2 * w 0 - 1, by omega⟩
  have := lev (B := 2 * w 0) (S := fun i I => RS I0 I 1 (fun _ => i)) (p := fun i => cAl w 1 (fun _ => i)) (Fd := fun i I => FD X d L I0 1 (fun _ => i) I) (Nx := fun I => EN X d L I0 2 I)
    (fun i I hi hS hp => f_yes h v h5 hQ hd (by decide) (fun t _ => hi) hS hp)
    (fun i I hi hS hp => by
      obtain ⟨J, a, b⟩ := f_next (X := X) (L := L) (k := 0) (r' := fun _ => i + 1) h v h5 hQ hd (by decide) (fun t _ => (by omega : i < 2 * w 0)) hS hp (by decide) hi (fun t q1 q2 => by omega) (fun t _ => by simp)
      exact ⟨J, a, fun x hx => hx.le b, fun hx => hx.le b⟩)
    (fun i I hi hS hp => f_end h v h5 hQ hd (by decide) (by decide) (fun t _ => (by omega : i < 2 * w 0)) hS hp (fun t _ => hi))
    B 0 I (by omega) hS
  unfold a1F fnd
  rw [hB]
  exact this
abbrev r2 (i j : Nat) : Nat → Nat := ext (fun _ => i) 1 j
abbrev r3 (i j t : Nat) : Nat → Nat := ext (ext (fun _ => i) 1 j) 2 t
theorem f_two1 {i j : Nat} (h : TM I0 w) (v : Vw w) (h5 : 0 < w 5) (hQ : QM I0 (loB w) (doB w)) (hd : 7 ≤ d) (hi : i < 2 * w 0) (hj : j < 2 * w 0) (hS : RS I0 I 2 (r2 i j)) : (∀ x, fndF (fun t => cAl w 2 (r2 i t)) (2 * w 0 - j) j = some x → FD X d L I0 2 (r2 i x) I) ∧ (fndF (fun t => cAl w 2 (r2 i t)) (2 * w 0 - j) j = none → (i + 1 < 2 * w 0 → GO X d L I0 2 (r2 (i + 1) (i + 1)) I) ∧ (i + 1 = 2 * w 0 → EN X d L I0 3 I)) := by
  obtain ⟨k, hk⟩ : ∃ k, 2 * w 0 - j = k + 1 := ⟨2 * w 0 - j - 1, by omega⟩
  rw [hk]
  refine lev (B := 2 * w 0) (S := fun j I => RS I0 I 2 (r2 i j)) (p := fun t => cAl w 2 (r2 i t)) (Fd := fun x I => FD X d L I0 2 (r2 i x) I) (Nx := fun I => (i + 1 < 2 * w 0 → GO X d L I0 2 (r2 (i + 1) (i + 1)) I) ∧ (i + 1 = 2 * w 0 → EN X d L I0 3 I))
    (fun j I hj hS hp => f_yes h v h5 hQ hd (by decide) (all2 hi hj) hS hp)
    (fun j I hj hS hp => ?_)
    (fun j I hj hS hp => ⟨fun hi1 => ?_, fun hi1 => ?_⟩)
    k j I (by omega) hS
  · obtain ⟨J, a, b⟩ := f_next (X := X) (L := L) (k := 1) (r' := r2 i (j + 1)) h v h5 hQ hd (by decide) (all2 hi (by show j < _; omega)) hS hp (by decide) hj (fun t q1 q2 => by omega) (all2 rfl rfl)
    exact ⟨J, a, fun x hx => hx.le b, fun hx => ⟨fun z => (hx.1 z).le b, fun z => (hx.2 z).le b⟩⟩
  · exact f_next (X := X) (L := L) (k := 0) (r' := r2 (i + 1) (i + 1)) h v h5 hQ hd (by decide) (all2 hi (by show j < _; omega)) hS hp (by decide) hi1 (fun t q1 q2 => by
      obtain rfl : t = 1 := by omega
      exact hj) (all2 rfl rfl)
  · exact f_end h v h5 hQ hd (by decide) (by decide) (all2 hi (by show j < _; omega)) hS hp (all2 hi1 hj)
theorem f_two (h : TM I0 w) (v : Vw w) (h5 : 0 < w 5) (hQ : QM I0 (loB w) (doB w)) (hd : 7 ≤ d) (hS : RS I0 I 2 (fun _ => 0)) : (∀ i, a2F w = some i → ∀ j, c2F w i = some j → FD X d L I0 2 (r2 i j) I) ∧ (a2F w = none → EN X d L I0 3 I) := by
  have hw0 : 2 ≤ w 0 := (v.live (Or.inr (Or.inr (Or.inl h5)))).2.1
  obtain ⟨B, hB⟩ : ∃ B, 2 * w 0 = B + 1 := ⟨2 * w 0 - 1, by omega⟩
  have := lev (B := 2 * w 0) (S := fun i I => RS I0 I 2 (r2 i i)) (p := fun i => (c2F w i).isSome) (Fd := fun i I => ∀ j, c2F w i = some j → FD X d L I0 2 (r2 i j) I) (Nx := fun I => EN X d L I0 3 I)
    (fun i I hi hS _ j hj => (f_two1 h v h5 hQ hd hi hi hS).1 j hj)
    (fun i I hi hS hp => by
      have hp' : c2F w i = none := by
        revert hp; cases c2F w i <;> simp
      obtain ⟨J, a, b⟩ := ((f_two1 (X := X) (L := L) h v h5 hQ hd (by omega) (by omega) hS).2 hp').1 hi
      exact ⟨J, a, fun x hx j hj => (hx j hj).le b, fun hx => hx.le b⟩)
    (fun i I hi hS hp => by
      have hp' : c2F w i = none := by
        revert hp; cases c2F w i <;> simp
      exact ((f_two1 (X := X) (L := L) h v h5 hQ hd (by omega) (by omega) hS).2 hp').2 hi)
    B 0 I (by omega) (hS.cg (all2 rfl rfl))
  unfold a2F fnd
  rw [hB]
  exact this
theorem f_three1 {i j t : Nat} (h : TM I0 w) (v : Vw w) (h5 : 0 < w 5) (hQ : QM I0 (loB w) (doB w)) (hd : 7 ≤ d) (hi : i < 2 * w 0) (hj : j < 2 * w 0) (ht : t < 2 * w 0) (hS : RS I0 I 3 (r3 i j t)) : (∀ x, fndF (fun t => cAl w 3 (r3 i j t)) (2 * w 0 - t) t = some x → FD X d L I0 3 (r3 i j x) I) ∧ (fndF (fun t => cAl w 3 (r3 i j t)) (2 * w 0 - t) t = none → (j + 1 < 2 * w 0 → GO X d L I0 3 (r3 i (j + 1) (j + 1)) I) ∧ (j + 1 = 2 * w 0 → (i + 1 < 2 * w 0 → GO X d L I0 3 (r3 (i + 1) (i + 1) (i + 1)) I) ∧ (i + 1 = 2 * w 0 → EN X d L I0 4 I))) := by
  obtain ⟨k, hk⟩ : ∃ k, 2 * w 0 - t = k + 1 := ⟨2 * w 0 - t - 1, by omega⟩
  rw [hk]
  refine lev (B := 2 * w 0) (S := fun t I => RS I0 I 3 (r3 i j t)) (p := fun t => cAl w 3 (r3 i j t)) (Fd := fun x I => FD X d L I0 3 (r3 i j x) I) (Nx := fun I => (j + 1 < 2 * w 0 → GO X d L I0 3 (r3 i (j + 1) (j + 1)) I) ∧ (j + 1 = 2 * w 0 → (i + 1 < 2 * w 0 → GO X d L I0 3 (r3 (i + 1) (i + 1) (i + 1)) I) ∧ (i + 1 = 2 * w 0 → EN X d L I0 4 I)))
    (fun t I ht hS hp => f_yes h v h5 hQ hd (by decide) (all3 hi hj ht) hS hp)
    (fun t I ht hS hp => ?_)
    (fun t I ht hS hp => ⟨fun hj1 => ?_, fun hj1 => ⟨fun hi1 => ?_, fun hi1 => ?_⟩⟩)
    k t I (by omega) hS
  · obtain ⟨J, a, b⟩ := f_next (X := X) (L := L) (k := 2) (r' := r3 i j (t + 1)) h v h5 hQ hd (by decide) (all3 hi hj (by show t < _; omega)) hS hp (by decide) ht (fun t q1 q2 => by omega) (all3 rfl rfl rfl)
    exact ⟨J, a, fun x hx => hx.le b, fun hx => ⟨fun z => (hx.1 z).le b, fun z => ⟨fun y => ((hx.2 z).1 y).le b, fun y => ((hx.2 z).2 y).le b⟩⟩⟩
  · exact f_next (X := X) (L := L) (k := 1) (r' := r3 i (j + 1) (j + 1)) h v h5 hQ hd (by decide) (all3 hi hj (by show t < _; omega)) hS hp (by decide) hj1 (fun x q1 q2 => by
      obtain rfl : x = 2 := by omega
      exact ht) (all3 rfl rfl rfl)
  · exact f_next (X := X) (L := L) (k := 0) (r' := r3 (i + 1) (i + 1) (i + 1)) h v h5 hQ hd (by decide) (all3 hi hj (by show t < _; omega)) hS hp (by decide) hi1 (fun x q1 q2 => by
      rcases (show x = 1 ∨ x = 2 by omega) with rfl | rfl
      · exact hj1
      · exact ht) (all3 rfl rfl rfl)
  · exact f_end h v h5 hQ hd (by decide) (by decide) (all3 hi hj (by show t < _; omega)) hS hp (all3 hi1 hj1 ht)
theorem f_three2 {i j : Nat} (h : TM I0 w) (v : Vw w) (h5 : 0 < w 5) (hQ : QM I0 (loB w) (doB w)) (hd : 7 ≤ d) (hi : i < 2 * w 0) (hj : j < 2 * w 0) (hS : RS I0 I 3 (r3 i j j)) : (∀ x, fndF (fun j => (c3F w i j).isSome) (2 * w 0 - j) j = some x → ∀ t, c3F w i x = some t → FD X d L I0 3 (r3 i x t) I) ∧ (fndF (fun j => (c3F w i j).isSome) (2 * w 0 - j) j = none → (i + 1 < 2 * w 0 → GO X d L I0 3 (r3 (i + 1) (i + 1) (i + 1)) I) ∧ (i + 1 = 2 * w 0 → EN X d L I0 4 I)) := by
  obtain ⟨k, hk⟩ : ∃ k, 2 * w 0 - j = k + 1 := ⟨2 * w 0 - j - 1, by omega⟩
  rw [hk]
  have no : ∀ j, (c3F w i j).isSome = false → c3F w i j = none := fun j hp => by
    revert hp; cases c3F w i j <;> simp
  refine lev (B := 2 * w 0) (S := fun j I => RS I0 I 3 (r3 i j j)) (p := fun j => (c3F w i j).isSome) (Fd := fun x I => ∀ t, c3F w i x = some t → FD X d L I0 3 (r3 i x t) I) (Nx := fun I => (i + 1 < 2 * w 0 → GO X d L I0 3 (r3 (i + 1) (i + 1) (i + 1)) I) ∧ (i + 1 = 2 * w 0 → EN X d L I0 4 I))
    (fun j I hj hS _ t ht => (f_three1 h v h5 hQ hd hi hj hj hS).1 t ht)
    (fun j I hj hS hp => ?_)
    (fun j I hj hS hp => ((f_three1 h v h5 hQ hd hi (by omega) (by omega) hS).2 (no j hp)).2 hj)
    k j I (by omega) hS
  obtain ⟨J, a, b⟩ := ((f_three1 (X := X) (L := L) h v h5 hQ hd hi (by omega) (by omega) hS).2 (no j hp)).1 hj
  exact ⟨J, a, fun x hx t ht => (hx t ht).le b, fun hx => ⟨fun z => (hx.1 z).le b, fun z => (hx.2 z).le b⟩⟩
theorem f_three (h : TM I0 w) (v : Vw w) (h5 : 0 < w 5) (hQ : QM I0 (loB w) (doB w)) (hd : 7 ≤ d) (hS : RS I0 I 3 (fun _ => 0)) : (∀ i, a3F w = some i → ∀ j, b3F w i = some j → ∀ t, c3F w i j = some t → FD X d L I0 3 (r3 i j t) I) ∧ (a3F w = none → EN X d L I0 4 I) := by
  have hw0 : 2 ≤ w 0 := (v.live (Or.inr (Or.inr (Or.inl h5)))).2.1
  obtain ⟨B, hB⟩ : ∃ B, 2 * w 0 = B + 1 := ⟨2 * w 0 - 1, by omega⟩
  have no : ∀ i, (b3F w i).isSome = false → b3F w i = none := fun j hp => by
    revert hp; cases b3F w j <;> simp
  have := lev (B := 2 * w 0) (S := fun i I => RS I0 I 3 (r3 i i i)) (p := fun i => (b3F w i).isSome) (Fd := fun i I => ∀ j, b3F w i = some j → ∀ t, c3F w i j = some t → FD X d L I0 3 (r3 i j t) I) (Nx := fun I => EN X d L I0 4 I)
    (fun i I hi hS _ j hj t ht => (f_three2 h v h5 hQ hd hi hi hS).1 j hj t ht)
    (fun i I hi hS hp => by
      obtain ⟨J, a, b⟩ := ((f_three2 (X := X) (L := L) h v h5 hQ hd (by omega) (by omega) hS).2 (no i hp)).1 hi
      exact ⟨J, a, fun x hx j hj t ht => (hx j hj t ht).le b, fun hx => hx.le b⟩)
    (fun i I hi hS hp => ((f_three2 (X := X) (L := L) h v h5 hQ hd (by omega) (by omega) hS).2 (no i hp)).2 hi)
    B 0 I (by omega) (hS.cg (all3 rfl rfl rfl))
  unfold a3F fnd
  rw [hB]
  exact this
end
