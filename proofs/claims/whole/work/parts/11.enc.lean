/-! AM against the machine: names to addresses, values, cells, the list of all cells -/
def nm (t : Nat) : AR := nmL.getD t (99, 0)
def e_ps (r : AR) : Nat := nmL.idxOf r
def e_ad (B : Nat) (r : AR) : Nat := B + e_ps r
def e_v (B : Nat) (sp : Nat → Value) (v : AV) : Value := match v with
  | .inl x => .int x
  | .inr (.inl x) => .long x
  | .inr (.inr (.inl r)) => va_rf (r.map (e_ad B))
  | .inr (.inr (.inr k)) => sp k
def e_E (B : Nat) (cA : Nat → ClassId) (I : A3 Int32) (L : A3 Int64) (rf : A3 (Option AR)) (r : AR) : va_E :=
  if fob r.1 = 0 then .inl (cA (fty r.1), fln r.1, if fty r.1 = 4 then .inr (.inl (L r.1 r.2)) else if fty r.1 < 4 then .inl (I r.1 r.2) else .inr (.inr (.inr (.inr (fun j => (rf r.1 r.2 j).map (e_ad B))))))
  else .inr (fob r.1 - 1, (List.range (fln r.1)).map (fun j => if fkd (fob r.1 - 1) j = 0 then Value.int (I r.1 r.2 j) else if fkd (fob r.1 - 1) j = 1 then Value.long (L r.1 r.2 j) else va_rf ((rf r.1 r.2 j).map (e_ad B))))
def e_w (B : Nat) (cA : Nat → ClassId) (I : A3 Int32) (L : A3 Int64) (rf : A3 (Option AR)) (c : Nat) : va_W := (List.range c).map (fun t => (B + t, e_E B cA I L rf (nm t)))
def alv (c : Nat) (r : AR) : Prop := ∃ t, t < c ∧ nmL[t]? = some r
theorem nm_inj : ∀ t, t < 284 → e_ps (nm t) = t := by decide +kernel
theorem nm_len : nmL.length = 284 := by decide +kernel
theorem alv.ps {c : Nat} {r : AR} (h : alv c r) : e_ps r < c ∧ nm (e_ps r) = r ∧ e_ps r < 284 := by
  obtain ⟨t, ht, he⟩ := h
  have h1 : t < nmL.length := (List.getElem?_eq_some_iff.mp he).1
  rw [nm_len] at h1
  have h2 : nm t = r := by unfold nm; rw [List.getD_eq_getElem?_getD, he]; rfl
  have h3 := nm_inj t h1
  rw [h2] at h3
  rw [h3]
  exact ⟨ht, h2, h1⟩
theorem e_w_at {B : Nat} {cA : Nat → ClassId} {I : A3 Int32} {L : A3 Int64} {rf : A3 (Option AR)} {c : Nat} {r : AR} (h : alv c r) : (e_w B cA I L rf c)[e_ps r]? = some (e_ad B r, e_E B cA I L rf r) := by
  obtain ⟨h1, h2, -⟩ := h.ps
  unfold e_w
  rw [List.getElem?_map, List.getElem?_range h1]
  show some (B + e_ps r, e_E B cA I L rf (nm (e_ps r))) = _
  rw [h2]
  rfl
theorem e_w_D {B : Nat} {cA : Nat → ClassId} {I : A3 Int32} {L : A3 Int64} {rf : A3 (Option AR)} {c : Nat} : va_D (fun q => B ≤ q) (e_w B cA I L rf c) := by
  have h0 : ∀ (k : Nat) (q : Nat × va_E), (e_w B cA I L rf c)[k]? = some q → q.1 = B + k := by
    intro k q hq
    unfold e_w at hq
    rw [List.getElem?_map] at hq
    cases hr : (List.range c)[k]? with
    | none => rw [hr] at hq; cases hq
    | some t =>
      rw [hr] at hq
      have ht : t = k := by
        have := List.getElem?_eq_some_iff.mp hr
        obtain ⟨hk, he⟩ := this
        rw [List.getElem_range] at he
        exact he.symm
      cases hq
      rw [ht]
  constructor
  · intro i j p q hp hq hpq
    have h1 := h0 i p hp
    have h2 := h0 j q hq
    omega
  · intro k q hq
    rw [h0 k q hq]
    exact Nat.le_add_right B k
/-- one cell changes -/
theorem e_w_set {B : Nat} {cA : Nat → ClassId} {I I' : A3 Int32} {L L' : A3 Int64} {rf rf' : A3 (Option AR)} {c : Nat} {r : AR} (h : alv c r) (hc : c ≤ 284) (ho : ∀ q : AR, q ≠ r → e_E B cA I' L' rf' q = e_E B cA I L rf q) : (e_w B cA I L rf c).set (e_ps r) (e_ad B r, e_E B cA I' L' rf' r) = e_w B cA I' L' rf' c := by
  obtain ⟨h1, h2, h3⟩ := h.ps
  apply List.ext_getElem?
  intro k
  rw [List.getElem?_set]
  unfold e_w
  rw [List.length_map, List.length_range]
  by_cases hk : e_ps r = k
  · rw [if_pos hk, if_pos h1]
    subst hk
    rw [List.getElem?_map, List.getElem?_range h1]
    show _ = some (B + e_ps r, e_E B cA I' L' rf' (nm (e_ps r)))
    rw [h2]
    rfl
  · rw [if_neg hk, List.getElem?_map, List.getElem?_map]
    cases hr : (List.range c)[k]? with
    | none => rfl
    | some t =>
      obtain ⟨hkl, he⟩ := List.getElem?_eq_some_iff.mp hr
      rw [List.getElem_range] at he
      rw [List.length_range] at hkl
      subst he
      show some (B + k, e_E B cA I L rf (nm k)) = some (B + k, e_E B cA I' L' rf' (nm k))
      rw [ho (nm k) (fun e => hk (by rw [← e]; exact nm_inj k (by omega)))]
