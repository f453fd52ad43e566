/-! AM's locals against the machine's -/
def e_ls (B : Nat) (sp : Nat → Value) : Nat → List (Option AV) → List (Nat × Value)
  | _, [] => []
  | i, none :: l => e_ls B sp (i + 1) l
  | i, some v :: l => (i, e_v B sp v) :: e_ls B sp (i + 1) l
theorem e_ls_mem {B : Nat} {sp : Nat → Value} : ∀ (l : List (Option AV)) (i : Nat) (q : Nat × Value), q ∈ e_ls B sp i l ↔ ∃ j v, l[j]? = some (some v) ∧ q = (i + j, e_v B sp v) := by
  intro l
  induction l with
  | nil => intro i q; constructor
           · intro h; cases h
           · rintro ⟨j, v, h, -⟩; cases h
  | cons x l ih =>
    intro i q
    have step : (∃ j v, l[j]? = some (some v) ∧ q = (i + 1 + j, e_v B sp v)) → ∃ j v, (x :: l)[j]? = some (some v) ∧ q = (i + j, e_v B sp v) := by
      rintro ⟨j, v, h1, h2⟩
      exact ⟨j + 1, v, h1, by rw [h2]; congr 1; omega⟩
    cases x with
    | none =>
      show q ∈ e_ls B sp (i + 1) l ↔ _
      rw [ih]
      constructor
      · exact step
      · rintro ⟨j, v, h1, h2⟩
        cases j with
        | zero => cases h1
        | succ j => exact ⟨j, v, h1, by rw [h2]; congr 1; omega⟩
    | some w =>
      show q ∈ (i, e_v B sp w) :: e_ls B sp (i + 1) l ↔ _
      rw [List.mem_cons, ih]
      constructor
      · rintro (h | h)
        · exact ⟨0, w, rfl, h⟩
        · exact step h
      · rintro ⟨j, v, h1, h2⟩
        cases j with
        | zero => cases h1; exact Or.inl h2
        | succ j => exact Or.inr ⟨j, v, h1, by rw [h2]; congr 1; omega⟩
theorem lv_mono {ls : Array Slot} {n : Nat} {l l' : List (Nat × Value)} (h : lv_has ls n l) (hm : ∀ q ∈ l', q ∈ l) : lv_has ls n l' := ⟨h.1, h.2.1, fun q hq => h.2.2 q (hm q hq)⟩
theorem e_ls_get {B : Nat} {sp : Nat → Value} {lsA : Array Slot} {n i : Nat} {l : List (Option AV)} {v : AV} (h : lv_has lsA n (e_ls B sp 0 l)) (hi : l[i]? = some (some v)) : lsA[i]? = some (.val (e_v B sp v)) :=
  h.2.2 (i, e_v B sp v) ((e_ls_mem l 0 _).mpr ⟨i, v, hi, by rw [Nat.zero_add]⟩)
theorem a_clr_len (i : Nat) (l : List (Option AV)) : (a_clr i l).length = l.length := by
  unfold a_clr
  split
  · rfl
  · split
    · rw [List.length_set]
    · rfl
theorem a_clr_get {i j : Nat} {l : List (Option AV)} {w : AV} (h : (a_clr i l)[j]? = some (some w)) : l[j]? = some (some w) ∧ ¬ (j + 1 = i ∧ ∃ x, w = .inr (.inl x)) := by
  cases i with
  | zero => exact ⟨h, fun e => by omega⟩
  | succ i' =>
    have h0 : (match l[i']? with | some (some (.inr (.inl _))) => l.set i' none | _ => l)[j]? = some (some w) := h
    split at h0
    · by_cases hj : i' = j
      · subst hj
        rw [List.getElem?_set] at h0
        rw [if_pos rfl] at h0
        split at h0 <;> cases h0
      · rw [List.getElem?_set_ne hj] at h0
        exact ⟨h0, fun e => hj (by omega)⟩
    · rename_i hx
      refine ⟨h0, fun e => ?_⟩
      obtain ⟨e1, x, e2⟩ := e
      have e3 : j = i' := by omega
      subst e3
      subst e2
      exact hx _ h0
theorem a_st_len (i : Nat) (v : AV) (l : List (Option AV)) : (a_st i v l).length = l.length := by unfold a_st; rw [List.length_set, a_clr_len]
theorem a_st2_len (i : Nat) (v : AV) (l : List (Option AV)) : (a_st2 i v l).length = l.length := by unfold a_st2; rw [List.length_set, List.length_set, a_clr_len]
theorem a_kill_len (ks : List Nat) : ∀ (l : List (Option AV)), (a_kill ks l).length = l.length := by
  induction ks with
  | nil => intro l; rfl
  | cons k ks ih => intro l; show (a_kill ks (l.set k none)).length = _; rw [ih, List.length_set]
theorem a_kill_get (ks : List Nat) : ∀ {l : List (Option AV)} {j : Nat} {w : AV}, (a_kill ks l)[j]? = some (some w) → l[j]? = some (some w) := by
  induction ks with
  | nil => intro l j w h; exact h
  | cons k ks ih =>
    intro l j w h
    have h1 := ih (l := l.set k none) h
    by_cases hk : k = j
    · subst hk
      rw [List.getElem?_set] at h1
      simp at h1
    · rwa [List.getElem?_set_ne hk] at h1
theorem a_st_get {i j : Nat} {v w : AV} {l : List (Option AV)} (h : (a_st i v l)[j]? = some (some w)) : (j = i ∧ w = v) ∨ (j ≠ i ∧ l[j]? = some (some w) ∧ ¬ (j + 1 = i ∧ ∃ x, w = .inr (.inl x))) := by
  unfold a_st at h
  by_cases hj : i = j
  · subst hj
    rw [List.getElem?_set] at h
    simp only [if_true] at h
    split at h
    · cases h; exact Or.inl ⟨rfl, rfl⟩
    · cases h
  · rw [List.getElem?_set_ne hj] at h
    obtain ⟨h1, h2⟩ := a_clr_get h
    exact Or.inr ⟨fun e => hj e.symm, h1, h2⟩
theorem a_st2_get {i j : Nat} {v w : AV} {l : List (Option AV)} (h : (a_st2 i v l)[j]? = some (some w)) : (j = i ∧ w = v) ∨ (j ≠ i ∧ j ≠ i + 1 ∧ l[j]? = some (some w) ∧ ¬ (j + 1 = i ∧ ∃ x, w = .inr (.inl x))) := by
  unfold a_st2 at h
  by_cases hj1 : i + 1 = j
  · subst hj1
    rw [List.getElem?_set] at h
    simp at h
  · rw [List.getElem?_set_ne hj1] at h
    rcases a_st_get (v := v) (l := l) h with q | ⟨q1, q2, q3⟩
    · exact Or.inl q
    · exact Or.inr ⟨q1, fun e => hj1 e.symm, q2, q3⟩
theorem e_cat1 {B : Nat} {sp : Nat → Value} (hsp : ∀ k, (sp k).category = 1) {w : AV} (h : ¬ ∃ x, w = .inr (.inl x)) : (e_v B sp w).category = 1 := by
  rcases w with x | x | (- | r) | k
  · rfl
  · exact absurd ⟨x, rfl⟩ h
  · rfl
  · rfl
  · exact hsp k
/-- behind a store of one word -/
theorem e_ls_st {B : Nat} {sp : Nat → Value} (hsp : ∀ k, (sp k).category = 1) {ls' : Array Slot} {n i : Nat} {v : AV} {l : List (Option AV)} (h : lv_has ls' n ((i, e_v B sp v) :: (e_ls B sp 0 l).filter (fun q => !(q.1 == i) && !(q.1 + 1 == i && q.2.category == 2)))) : lv_has ls' n (e_ls B sp 0 (a_st i v l)) := by
  refine lv_mono h (fun q hq => ?_)
  obtain ⟨j, w, h1, rfl⟩ := (e_ls_mem _ _ _).mp hq
  rw [Nat.zero_add]
  rcases a_st_get h1 with ⟨rfl, rfl⟩ | ⟨n1, h2, n3⟩
  · exact List.mem_cons_self
  · refine List.mem_cons_of_mem _ (List.mem_filter.mpr ⟨(e_ls_mem _ _ _).mpr ⟨j, w, h2, by rw [Nat.zero_add]⟩, ?_⟩)
    by_cases hj : j + 1 = i
    · have hc := e_cat1 (B := B) hsp (fun hw => n3 ⟨hj, hw⟩)
      simp [n1, hc]
    · simp [n1, hj]
theorem e_ls_st2 {B : Nat} {sp : Nat → Value} (hsp : ∀ k, (sp k).category = 1) {ls' : Array Slot} {n i : Nat} {v : AV} {l : List (Option AV)} (h : lv_has ls' n ((i, e_v B sp v) :: (e_ls B sp 0 l).filter (fun q => !(q.1 == i) && (!(q.1 == i + 1) && !(q.1 + 1 == i && q.2.category == 2))))) : lv_has ls' n (e_ls B sp 0 (a_st2 i v l)) := by
  refine lv_mono h (fun q hq => ?_)
  obtain ⟨j, w, h1, rfl⟩ := (e_ls_mem _ _ _).mp hq
  rw [Nat.zero_add]
  rcases a_st2_get h1 with ⟨rfl, rfl⟩ | ⟨n1, n2, h2, n3⟩
  · exact List.mem_cons_self
  · refine List.mem_cons_of_mem _ (List.mem_filter.mpr ⟨(e_ls_mem _ _ _).mpr ⟨j, w, h2, by rw [Nat.zero_add]⟩, ?_⟩)
    by_cases hj : j + 1 = i
    · have hc := e_cat1 (B := B) hsp (fun hw => n3 ⟨hj, hw⟩)
      simp [n1, n2, hc]
    · simp [n1, n2, hj]
theorem e_ls_kill {B : Nat} {sp : Nat → Value} {lsA : Array Slot} {n : Nat} {ks : List Nat} {l : List (Option AV)} (h : lv_has lsA n (e_ls B sp 0 l)) : lv_has lsA n (e_ls B sp 0 (a_kill ks l)) := by
  refine lv_mono h (fun q hq => ?_)
  obtain ⟨j, w, h1, rfl⟩ := (e_ls_mem _ _ _).mp hq
  exact (e_ls_mem _ _ _).mpr ⟨j, w, a_kill_get ks h1, rfl⟩
