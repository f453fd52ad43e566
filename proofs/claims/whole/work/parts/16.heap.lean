/-! AM's reads and writes of cells against the machine's -/
def tysL (cA : Nat → ClassId) : List (ClassId × FieldType) := [(cA 1, .int), (cA 2, .byte), (cA 3, .boolean), (cA 4, .long), (cA 5, .object RX0), (cA 6, .object RX1), (cA 1, .int), (cA 1, .int), (cA 1, .int), (cA 10, .object RX5), (cA 11, .object RX6), (cA 1, .int), (cA 1, .int), (cA 14, .object RX9)]
section
variable {B : Nat} {cA : Nat → ClassId} {I : A3 Int32} {L : A3 Int64} {rf : A3 (Option AR)} {f i j : Nat}
theorem up3_row {α : Type} (F : A3 α) (f i j : Nat) (v : α) : up3 F f i j v f i = fun q => if q = j then v else F f i q := by
  funext q; simp [up3]
theorem up3_off {α : Type} (F : A3 α) {f i : Nat} (j : Nat) (v : α) {r : AR} (h : r ≠ (f, i)) : up3 F f i j v r.1 r.2 = F r.1 r.2 := by
  funext q
  unfold up3
  rw [if_neg]
  intro e
  exact h (Prod.ext e.1 e.2.1)
theorem upR_row {α : Type} (F : A3 α) (f i : Nat) (g : Nat → α) : upR F f i g f i = g := by
  funext q; simp [upR]
theorem upR_off {α : Type} (F : A3 α) {f i : Nat} (g : Nat → α) {r : AR} (h : r ≠ (f, i)) : upR F f i g r.1 r.2 = F r.1 r.2 := by
  funext q
  unfold upR
  rw [if_neg]
  intro e
  exact h (Prod.ext e.1 e.2)
theorem e_E_congr {I' : A3 Int32} {L' : A3 Int64} {rf' : A3 (Option AR)} {r : AR} (h1 : I' r.1 r.2 = I r.1 r.2) (h2 : L' r.1 r.2 = L r.1 r.2) (h3 : rf' r.1 r.2 = rf r.1 r.2) : e_E B cA I' L' rf' r = e_E B cA I L rf r := by
  unfold e_E
  rw [h1, h2, h3]
theorem e_E_arrI (h : fob f = 0) (ht : fty f < 4) : e_E B cA I L rf (f, i) = .inl (cA (fty f), fln f, .inl (I f i)) := by
  unfold e_E
  rw [if_pos h, if_neg (by show ¬ fty f = 4; omega), if_pos ht]
theorem e_E_arrL (h : fob f = 0) (ht : fty f = 4) : e_E B cA I L rf (f, i) = .inl (cA 4, fln f, .inr (.inl (L f i))) := by
  unfold e_E
  rw [if_pos h, if_pos ht, ht]
theorem e_E_arrR (h : fob f = 0) (ht : 5 ≤ fty f) : e_E B cA I L rf (f, i) = .inl (cA (fty f), fln f, .inr (.inr (.inr (.inr (fun j => (rf f i j).map (e_ad B)))))) := by
  unfold e_E
  rw [if_pos h, if_neg (by show ¬ fty f = 4; omega), if_neg (by show ¬ fty f < 4; omega)]
def e_fs (B : Nat) (I : A3 Int32) (L : A3 Int64) (rf : A3 (Option AR)) (ci f i : Nat) : List Value := (List.range (fln f)).map (fun j => if fkd ci j = 0 then Value.int (I f i j) else if fkd ci j = 1 then Value.long (L f i j) else va_rf ((rf f i j).map (e_ad B)))
theorem e_E_obj {ci : Nat} (h : fob f = ci + 1) : e_E B cA I L rf (f, i) = .inr (ci, e_fs B I L rf ci f i) := by
  unfold e_E
  rw [if_neg (by show ¬ fob f = 0; omega)]
  show Sum.inr (fob f - 1, _) = _
  rw [h]
  rfl
theorem e_fs_at {ci : Nat} (hj : j < fln f) : (e_fs B I L rf ci f i)[j]? = some (if fkd ci j = 0 then Value.int (I f i j) else if fkd ci j = 1 then Value.long (L f i j) else va_rf ((rf f i j).map (e_ad B))) := by
  unfold e_fs
  rw [List.getElem?_map, List.getElem?_range hj]
  rfl
theorem e_fs_len {ci : Nat} : (e_fs B I L rf ci f i).length = fln f := by
  unfold e_fs
  rw [List.length_map, List.length_range]
theorem e_fs_set {I' : A3 Int32} {L' : A3 Int64} {rf' : A3 (Option AR)} {ci : Nat} {v : Value} (hj : j < fln f) (hv : (if fkd ci j = 0 then Value.int (I' f i j) else if fkd ci j = 1 then Value.long (L' f i j) else va_rf ((rf' f i j).map (e_ad B))) = v) (ho : ∀ q, q ≠ j → I' f i q = I f i q ∧ L' f i q = L f i q ∧ rf' f i q = rf f i q) : (e_fs B I L rf ci f i).set j v = e_fs B I' L' rf' ci f i := by
  apply List.ext_getElem?
  intro q
  rw [List.getElem?_set, e_fs_len]
  by_cases hq : j = q
  · subst hq
    rw [if_pos rfl, if_pos hj, e_fs_at hj, hv]
  · rw [if_neg hq]
    by_cases hl : q < fln f
    · rw [e_fs_at hl, e_fs_at hl]
      obtain ⟨a, b, c⟩ := ho q (fun e => hq e.symm)
      rw [a, b, c]
    · rw [List.getElem?_eq_none (by rw [e_fs_len]; omega), List.getElem?_eq_none (by rw [e_fs_len]; omega)]
end
/-- families and classes fit -/
theorem fam_ok : ∀ f, f < 63 → (fob f = 0 ∨ (fty f = 0 ∧ fob f ≤ 12)) ∧ fty f ≤ 14 ∧ (∀ q ∈ vwCl[fob f - 1]?, fob f ≠ 0 → q.2.2 = fln f) := by decide +kernel
theorem fam_ob : ∀ f, f < 63 → 5 ≤ fty f → (fty f = 5 ∨ fty f = 6 ∨ fty f = 10 ∨ fty f = 11 ∨ fty f = 14) := by decide +kernel
theorem nm_fam : ∀ t, t < 284 → (nm t).1 < 63 := by decide +kernel
theorem alv.fam {c : Nat} {r : AR} (h : alv c r) : r.1 < 63 := by
  obtain ⟨h1, h2, h3⟩ := h.ps
  have := nm_fam _ h3
  rwa [h2] at this
theorem alv.obj {c ci : Nat} {r : AR} (h : alv c r) (hf : fob r.1 = ci + 1) : ∃ q, vwCl[ci]? = some q ∧ q.2.2 = fln r.1 := by
  obtain ⟨h1, h2, h3⟩ := fam_ok r.1 h.fam
  have h4 : fob r.1 ≤ 12 := by rcases h1 with h1 | h1; omega; exact h1.2
  cases hq : vwCl[ci]? with
  | none =>
    have : vwCl.length ≤ ci := List.getElem?_eq_none_iff.mp hq
    have : vwCl.length = 12 := rfl
    omega
  | some q =>
    refine ⟨q, rfl, h3 q ?_ (by omega)⟩
    rw [hf]
    exact hq
theorem alv.arr {c : Nat} {r : AR} (h : alv c r) (hf : 0 < fty r.1) : fob r.1 = 0 := by
  obtain ⟨h1, -, -⟩ := fam_ok r.1 h.fam
  rcases h1 with h1 | h1
  · exact h1
  · omega
