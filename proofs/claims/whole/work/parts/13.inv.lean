/-! what must have been the case where an instruction of AM has an end -/
section
variable {ρ : Type} {k : ACont ρ} {pc i : Nat} {ls : List (Option AV)} {st : List AV} {σ : AS ρ} {res : Option AV × AS ρ} {O : AO ρ} {X : AX} {aux : List Nat}
theorem a_ild_inv (h : a_ild k i pc ls st σ = some res) : ∃ x, ls[i]? = some (some (.inl x)) ∧ k pc ls (.inl x :: st) σ = some res := by
  unfold a_ild at h; split at h
  · exact ⟨_, ‹_›, h⟩
  · cases h
theorem a_lld_inv (h : a_lld k i pc ls st σ = some res) : ∃ x, ls[i]? = some (some (.inr (.inl x))) ∧ k pc ls (.inr (.inl x) :: st) σ = some res := by
  unfold a_lld at h; split at h
  · exact ⟨_, ‹_›, h⟩
  · cases h
theorem a_ald_inv (h : a_ald k i pc ls st σ = some res) : ∃ x, ls[i]? = some (some (.inr (.inr x))) ∧ k pc ls (.inr (.inr x) :: st) σ = some res := by
  unfold a_ald at h; split at h
  · exact ⟨_, ‹_›, h⟩
  · cases h
theorem a_ist_inv (h : a_ist k i pc ls st σ = some res) : ∃ x r, st = .inl x :: r ∧ i < ls.length ∧ k pc (a_st i (.inl x) ls) r σ = some res := by
  unfold a_ist at h; split at h
  · simp only [a_frc_eq] at h
    split at h
    · exact ⟨_, _, rfl, ‹_›, h⟩
    · cases h
  · cases h
theorem a_ast_inv (h : a_ast k i pc ls st σ = some res) : ∃ x r, st = .inr (.inr x) :: r ∧ i < ls.length ∧ k pc (a_st i (.inr (.inr x)) ls) r σ = some res := by
  unfold a_ast at h; split at h
  · simp only [a_frc_eq] at h
    split at h
    · exact ⟨_, _, rfl, ‹_›, h⟩
    · cases h
  · cases h
theorem a_lst_inv (h : a_lst k i pc ls st σ = some res) : ∃ x r, st = .inr (.inl x) :: r ∧ i + 1 < ls.length ∧ k pc (a_st2 i (.inr (.inl x)) ls) r σ = some res := by
  unfold a_lst at h; split at h
  · simp only [a_frc_eq] at h
    split at h
    · exact ⟨_, _, rfl, ‹_›, h⟩
    · cases h
  · cases h
theorem a_iinc_inv {n : Int} (h : a_iinc k i n pc ls st σ = some res) : ∃ x, ls[i]? = some (some (.inl x)) ∧ k (pc + 3) (a_st i (.inl (x + cI n)) ls) st σ = some res := by
  unfold a_iinc at h; split at h
  · simp only [a_frc_eq] at h
    exact ⟨_, ‹_›, h⟩
  · cases h
theorem a_i1_inv {f : Int32 → Int32} (h : a_i1 k f pc ls st σ = some res) : ∃ x r, st = .inl x :: r ∧ k (pc + 1) ls (.inl (f x) :: r) σ = some res := by
  unfold a_i1 at h; split at h
  · exact ⟨_, _, rfl, h⟩
  · cases h
theorem a_i2_inv {f : Int32 → Int32 → Int32} (h : a_i2 k f pc ls st σ = some res) : ∃ x y r, st = .inl y :: .inl x :: r ∧ k (pc + 1) ls (.inl (f x y) :: r) σ = some res := by
  unfold a_i2 at h; split at h
  · exact ⟨_, _, _, rfl, h⟩
  · cases h
theorem a_id_inv {f : Int32 → Int32 → Int32} (h : a_id k f pc ls st σ = some res) : ∃ x y r, st = .inl y :: .inl x :: r ∧ ¬ y = 0 ∧ k (pc + 1) ls (.inl (f x y) :: r) σ = some res := by
  unfold a_id at h; split at h
  · split at h
    · cases h
    · exact ⟨_, _, _, rfl, ‹_›, h⟩
  · cases h
theorem a_l2_inv {f : Int64 → Int64 → Int64} (h : a_l2 k f pc ls st σ = some res) : ∃ x y r, st = .inr (.inl y) :: .inr (.inl x) :: r ∧ k (pc + 1) ls (.inr (.inl (f x y)) :: r) σ = some res := by
  unfold a_l2 at h; split at h
  · exact ⟨_, _, _, rfl, h⟩
  · cases h
theorem a_ld_inv {f : Int64 → Int64 → Int64} (h : a_ld k f pc ls st σ = some res) : ∃ x y r, st = .inr (.inl y) :: .inr (.inl x) :: r ∧ ¬ y = 0 ∧ k (pc + 1) ls (.inr (.inl (f x y)) :: r) σ = some res := by
  unfold a_ld at h; split at h
  · split at h
    · cases h
    · exact ⟨_, _, _, rfl, ‹_›, h⟩
  · cases h
theorem a_lsh_inv {f : Int64 → Int32 → Int64} (h : a_lsh k f pc ls st σ = some res) : ∃ x y r, st = .inl y :: .inr (.inl x) :: r ∧ k (pc + 1) ls (.inr (.inl (f x y)) :: r) σ = some res := by
  unfold a_lsh at h; split at h
  · exact ⟨_, _, _, rfl, h⟩
  · cases h
theorem a_b1_inv {c : Jvm.ClassFile.Cond} (h : a_b1 k c aux pc ls st σ = some res) : ∃ t ts x r, aux = t :: ts ∧ st = .inl x :: r ∧ a_if1 c x (k t ls r σ) (k (pc + 3) ls r σ) = some res := by
  unfold a_b1 at h; split at h
  · exact ⟨_, _, _, _, rfl, rfl, h⟩
  · cases h
theorem a_b2_inv {c : Jvm.ClassFile.Cond} (h : a_b2 k c aux pc ls st σ = some res) : ∃ t ts x y r, aux = t :: ts ∧ st = .inl y :: .inl x :: r ∧ a_if2 c x y (k t ls r σ) (k (pc + 3) ls r σ) = some res := by
  unfold a_b2 at h; split at h
  · exact ⟨_, _, _, _, _, rfl, rfl, h⟩
  · cases h
theorem a_get_inv (h : a_get O k aux pc ls st σ = some res) :
    (∃ ci j f i r u, aux = ci :: j :: 0 :: u ∧ st = .inr (.inr (.inl (some (f, i)))) :: r ∧ fob f = ci + 1 ∧ k (pc + 3) ls (.inl (σ.1 f i j) :: r) σ = some res) ∨
    (∃ ci j f i r u, aux = ci :: j :: 1 :: u ∧ st = .inr (.inr (.inl (some (f, i)))) :: r ∧ fob f = ci + 1 ∧ k (pc + 3) ls (.inr (.inl (σ.2.1 f i j)) :: r) σ = some res) ∨
    (∃ ci j f i r u, aux = ci :: j :: 2 :: u ∧ st = .inr (.inr (.inl (some (f, i)))) :: r ∧ fob f = ci + 1 ∧ k (pc + 3) ls (.inr (.inr (.inl (O.1 σ.2.2 f i j))) :: r) σ = some res) ∨
    (∃ q r u, aux = 100 :: 0 :: 3 :: u ∧ st = .inr (.inr (.inr q)) :: r ∧ q < 100 ∧ k (pc + 3) ls (.inr (.inr (.inr (100 + q))) :: r) σ = some res) ∨
    (∃ q r u, aux = 100 :: 1 :: 3 :: u ∧ st = .inr (.inr (.inr q)) :: r ∧ q < 100 ∧ k (pc + 3) ls (.inl 0 :: r) σ = some res) := by
  unfold a_get at h; split at h
  · split at h
    · exact Or.inl ⟨_, _, _, _, _, _, rfl, rfl, ‹_›, h⟩
    · cases h
  · split at h
    · exact Or.inr (Or.inl ⟨_, _, _, _, _, _, rfl, rfl, ‹_›, h⟩)
    · cases h
  · split at h
    · exact Or.inr (Or.inr (Or.inl ⟨_, _, _, _, _, _, rfl, rfl, ‹_›, h⟩))
    · cases h
  · split at h
    · exact Or.inr (Or.inr (Or.inr (Or.inl ⟨_, _, _, rfl, rfl, ‹_›, h⟩)))
    · cases h
  · split at h
    · exact Or.inr (Or.inr (Or.inr (Or.inr ⟨_, _, _, rfl, rfl, ‹_›, h⟩)))
    · cases h
  · cases h
theorem a_put_inv (h : a_put O k aux pc ls st σ = some res) :
    (∃ ci j x f i r u, aux = ci :: j :: 0 :: u ∧ st = .inl x :: .inr (.inr (.inl (some (f, i)))) :: r ∧ fob f = ci + 1 ∧ k (pc + 3) ls r (up3 σ.1 f i j x, σ.2) = some res) ∨
    (∃ ci j x f i r u, aux = ci :: j :: 3 :: u ∧ st = .inl x :: .inr (.inr (.inl (some (f, i)))) :: r ∧ fob f = ci + 1 ∧ (x = 0 ∨ x = 1) ∧ k (pc + 3) ls r (up3 σ.1 f i j x, σ.2) = some res) ∨
    (∃ ci j x f i r u, aux = ci :: j :: 1 :: u ∧ st = .inr (.inl x) :: .inr (.inr (.inl (some (f, i)))) :: r ∧ fob f = ci + 1 ∧ k (pc + 3) ls r (σ.1, up3 σ.2.1 f i j x, σ.2.2) = some res) ∨
    (∃ ci j v f i r u w, aux = ci :: j :: 2 :: u ∧ st = .inr (.inr (.inl v)) :: .inr (.inr (.inl (some (f, i)))) :: r ∧ fob f = ci + 1 ∧ O.2.1 σ.2.2 f i j v = some w ∧ k (pc + 3) ls r (σ.1, σ.2.1, w) = some res) := by
  unfold a_put at h; split at h
  · split at h
    · exact Or.inl ⟨_, _, _, _, _, _, _, rfl, rfl, ‹_›, h⟩
    · cases h
  · split at h
    · split at h
      · exact Or.inr (Or.inl ⟨_, _, _, _, _, _, _, rfl, rfl, ‹_›, ‹_›, h⟩)
      · cases h
    · cases h
  · split at h
    · exact Or.inr (Or.inr (Or.inl ⟨_, _, _, _, _, _, _, rfl, rfl, ‹_›, h⟩))
    · cases h
  · split at h
    · split at h
      · exact Or.inr (Or.inr (Or.inr ⟨_, _, _, _, _, _, _, _, rfl, rfl, ‹_›, ‹_›, h⟩))
      · cases h
    · cases h
  · cases h
theorem a_iald_inv (h : a_iald X k pc ls st σ = some res) :
    (∃ j f i r, st = .inl j :: .inr (.inr (.inl (some (f, i)))) :: r ∧ fty f = 1 ∧ ¬ aout j (fln f) ∧ k (pc + 1) ls (.inl (σ.1 f i j.toNatClampNeg) :: r) σ = some res) ∨
    (∃ j q r, st = .inl j :: .inr (.inr (.inr q)) :: r ∧ (200 ≤ q ∧ q < 400) ∧ ¬ aout j (sp_n X q) ∧ k (pc + 1) ls (.inl (sp_v X q j.toNatClampNeg) :: r) σ = some res) := by
  unfold a_iald at h; split at h
  · split at h
    · split at h
      · cases h
      · exact Or.inl ⟨_, _, _, _, rfl, ‹_›, ‹_›, h⟩
    · cases h
  · split at h
    · split at h
      · cases h
      · exact Or.inr ⟨_, _, _, rfl, ‹_›, ‹_›, h⟩
    · cases h
  · cases h
theorem a_bald_inv (h : a_bald X k pc ls st σ = some res) :
    (∃ j f i r, st = .inl j :: .inr (.inr (.inl (some (f, i)))) :: r ∧ (fty f = 2 ∨ fty f = 3) ∧ ¬ aout j (fln f) ∧ k (pc + 1) ls (.inl (σ.1 f i j.toNatClampNeg) :: r) σ = some res) ∨
    (∃ j q r, st = .inl j :: .inr (.inr (.inr q)) :: r ∧ (100 ≤ q ∧ q < 200) ∧ ¬ aout j (sp_n X q) ∧ k (pc + 1) ls (.inl (sp_v X q j.toNatClampNeg) :: r) σ = some res) := by
  unfold a_bald at h; split at h
  · split at h
    · split at h
      · cases h
      · exact Or.inl ⟨_, _, _, _, rfl, ‹_›, ‹_›, h⟩
    · cases h
  · split at h
    · split at h
      · cases h
      · exact Or.inr ⟨_, _, _, rfl, ‹_›, ‹_›, h⟩
    · cases h
  · cases h
theorem a_lald_inv (h : a_lald k pc ls st σ = some res) : ∃ j f i r, st = .inl j :: .inr (.inr (.inl (some (f, i)))) :: r ∧ fty f = 4 ∧ ¬ aout j (fln f) ∧ k (pc + 1) ls (.inr (.inl (σ.2.1 f i j.toNatClampNeg)) :: r) σ = some res := by
  unfold a_lald at h; split at h
  · split at h
    · split at h
      · cases h
      · exact ⟨_, _, _, _, rfl, ‹_›, ‹_›, h⟩
    · cases h
  · cases h
theorem a_aald_inv (h : a_aald O k pc ls st σ = some res) : ∃ j f i r, st = .inl j :: .inr (.inr (.inl (some (f, i)))) :: r ∧ 5 ≤ fty f ∧ ¬ aout j (fln f) ∧ k (pc + 1) ls (.inr (.inr (.inl (O.1 σ.2.2 f i j.toNatClampNeg))) :: r) σ = some res := by
  unfold a_aald at h; split at h
  · split at h
    · split at h
      · cases h
      · exact ⟨_, _, _, _, rfl, ‹_›, ‹_›, h⟩
    · cases h
  · cases h
theorem a_iast_inv (h : a_iast k pc ls st σ = some res) : ∃ x j f i r, st = .inl x :: .inl j :: .inr (.inr (.inl (some (f, i)))) :: r ∧ fty f = 1 ∧ ¬ aout j (fln f) ∧ k (pc + 1) ls r (up3 σ.1 f i j.toNatClampNeg x, σ.2) = some res := by
  unfold a_iast at h; split at h
  · split at h
    · split at h
      · cases h
      · exact ⟨_, _, _, _, _, rfl, ‹_›, ‹_›, h⟩
    · cases h
  · cases h
theorem a_bast_inv (h : a_bast k pc ls st σ = some res) :
    (∃ x j f i r, st = .inl x :: .inl j :: .inr (.inr (.inl (some (f, i)))) :: r ∧ fty f = 2 ∧ ¬ aout j (fln f) ∧ k (pc + 1) ls r (up3 σ.1 f i j.toNatClampNeg x.toInt8.toInt32, σ.2) = some res) ∨
    (∃ x j f i r, st = .inl x :: .inl j :: .inr (.inr (.inl (some (f, i)))) :: r ∧ fty f = 3 ∧ ¬ aout j (fln f) ∧ (x = 0 ∨ x = 1) ∧ k (pc + 1) ls r (up3 σ.1 f i j.toNatClampNeg x, σ.2) = some res) := by
  unfold a_bast at h; split at h
  · split at h
    · split at h
      · cases h
      · exact Or.inl ⟨_, _, _, _, _, rfl, ‹_›, ‹_›, h⟩
    · split at h
      · split at h
        · cases h
        · split at h
          · exact Or.inr ⟨_, _, _, _, _, rfl, ‹_›, ‹_›, ‹_›, h⟩
          · cases h
      · cases h
  · cases h
theorem a_last_inv (h : a_last k pc ls st σ = some res) : ∃ x j f i r, st = .inr (.inl x) :: .inl j :: .inr (.inr (.inl (some (f, i)))) :: r ∧ fty f = 4 ∧ ¬ aout j (fln f) ∧ k (pc + 1) ls r (σ.1, up3 σ.2.1 f i j.toNatClampNeg x, σ.2.2) = some res := by
  unfold a_last at h; split at h
  · split at h
    · split at h
      · cases h
      · exact ⟨_, _, _, _, _, rfl, ‹_›, ‹_›, h⟩
    · cases h
  · cases h
theorem a_aast_inv (h : a_aast O k pc ls st σ = some res) : ∃ g g2 j f i r w, st = .inr (.inr (.inl (some (g, g2)))) :: .inl j :: .inr (.inr (.inl (some (f, i)))) :: r ∧ (5 ≤ fty f ∧ fob g + 4 = fty f) ∧ ¬ aout j (fln f) ∧ O.2.1 σ.2.2 f i j.toNatClampNeg (some (g, g2)) = some w ∧ k (pc + 1) ls r (σ.1, σ.2.1, w) = some res := by
  unfold a_aast at h; split at h
  · split at h
    · split at h
      · cases h
      · split at h
        · exact ⟨_, _, _, _, _, _, _, rfl, ‹_›, ‹_›, ‹_›, h⟩
        · cases h
    · cases h
  · cases h
theorem a_alen_inv (h : a_alen X k pc ls st σ = some res) :
    (∃ f i r, st = .inr (.inr (.inl (some (f, i)))) :: r ∧ 0 < fty f ∧ k (pc + 1) ls (.inl (Int32.ofNat (fln f)) :: r) σ = some res) ∨
    (∃ q r, st = .inr (.inr (.inr q)) :: r ∧ (100 ≤ q ∧ q < 400) ∧ k (pc + 1) ls (.inl (Int32.ofNat (sp_n X q)) :: r) σ = some res) := by
  unfold a_alen at h; split at h
  · split at h
    · exact Or.inl ⟨_, _, _, rfl, ‹_›, h⟩
    · cases h
  · split at h
    · exact Or.inr ⟨_, _, rfl, ‹_›, h⟩
    · cases h
  · cases h
theorem a_new_inv (h : a_new O k aux pc ls st σ = some res) : ∃ ci u f i w, aux = ci :: u ∧ O.2.2 σ.2.2 = some ((f, i), w) ∧ fob f = ci + 1 ∧ k (pc + 3) ls (.inr (.inr (.inl (some (f, i)))) :: st) (upR σ.1 f i (fun _ => 0), upR σ.2.1 f i (fun _ => 0), w) = some res := by
  unfold a_new at h; split at h
  · split at h
    · exact ⟨_, _, _, _, _, rfl, ‹_›, ‹_›, h⟩
    · cases h
  · cases h
theorem a_newa_inv (h : a_newa O k aux pc ls st σ = some res) : ∃ ty u n r f i w, aux = ty :: u ∧ st = .inl n :: r ∧ O.2.2 σ.2.2 = some ((f, i), w) ∧ (fty f = ty ∧ n = Int32.ofNat (fln f)) ∧ k pc ls (.inr (.inr (.inl (some (f, i)))) :: r) (upR σ.1 f i (fun _ => 0), upR σ.2.1 f i (fun _ => 0), w) = some res := by
  unfold a_newa at h; split at h
  · split at h
    · exact ⟨_, _, _, _, _, _, _, rfl, rfl, ‹_›, ‹_›, h⟩
    · cases h
  · cases h
theorem a_copy_inv (h : a_copy k pc ls st σ = some res) : ∃ n dp g g2 sp f i r, st = .inl n :: .inl dp :: .inr (.inr (.inl (some (g, g2)))) :: .inl sp :: .inr (.inr (.inl (some (f, i)))) :: r ∧ a_cat r ≤ 8 ∧ ¬ (sp < 0 ∨ dp < 0 ∨ n < 0 ∨ fln f < sp.toNatClampNeg + n.toNatClampNeg ∨ fln g < dp.toNatClampNeg + n.toNatClampNeg) ∧
    ((fty f = 1 ∧ fty g = 1 ∧ k (pc + 3) ls r (upR σ.1 g g2 (va_cpy (σ.1 f i) (σ.1 g g2) sp.toNatClampNeg dp.toNatClampNeg n.toNatClampNeg), σ.2) = some res) ∨
     (fty f = 4 ∧ fty g = 4 ∧ k (pc + 3) ls r (σ.1, upR σ.2.1 g g2 (va_cpy (σ.2.1 f i) (σ.2.1 g g2) sp.toNatClampNeg dp.toNatClampNeg n.toNatClampNeg), σ.2.2) = some res)) := by
  unfold a_copy at h; split at h
  · split at h
    · split at h
      · cases h
      · split at h
        · rename_i hq
          exact ⟨_, _, _, _, _, _, _, _, rfl, ‹_›, ‹_›, Or.inl ⟨hq.1, hq.2, h⟩⟩
        · split at h
          · rename_i hq
            exact ⟨_, _, _, _, _, _, _, _, rfl, ‹_›, ‹_›, Or.inr ⟨hq.1, hq.2, h⟩⟩
          · cases h
    · cases h
  · cases h
end
theorem a_pop_inv : ∀ (n : Nat) (acc st args r : List AV), a_pop n acc st = some (args, r) → ∃ pre, st = pre ++ r ∧ pre.length = n ∧ args = pre.reverse ++ acc := by
  intro n
  induction n with
  | zero => intro acc st args r h; cases h; exact ⟨[], rfl, rfl, rfl⟩
  | succ n ih =>
    intro acc st args r h
    cases st with
    | nil => cases h
    | cons v st =>
      obtain ⟨pre, h1, h2, h3⟩ := ih (v :: acc) st args r h
      exact ⟨v :: pre, by rw [h1]; rfl, by rw [List.length_cons, h2], by rw [h3, List.reverse_cons, List.append_assoc]; rfl⟩
section
variable {ρ : Type} {call : ACall ρ} {k : ACont ρ} {pc : Nat} {ls : List (Option AV)} {st : List AV} {σ : AS ρ} {res : Option AV × AS ρ} {aux : List Nat}
theorem a_inv_inv (h : a_inv call k aux pc ls st σ = some res) : ∃ mi n rk u pre r o σ1, aux = mi :: n :: rk :: u ∧ st = pre ++ r ∧ pre.length = n ∧ a_cat r ≤ 8 ∧ call mi pre.reverse σ = some (o, σ1) ∧ k (pc + 3) ls (o.toList ++ r) σ1 = some res ∧ (rk = 0 ↔ o = none) := by
  unfold a_inv at h
  split at h
  · split at h
    · rename_i mi n rk u _ args r hp
      obtain ⟨pre, h1, h2, h3⟩ := a_pop_inv _ _ _ _ _ hp
      rw [List.append_nil] at h3
      subst h3
      split at h
      · rename_i hc
        split at h
        · unfold a_bv at h
          split at h
          · rename_i σ1 hcall
            exact ⟨_, _, _, _, pre, r, none, σ1, rfl, h1, h2, hc, hcall, h, by simp⟩
          · cases h
        · unfold a_bi at h
          split at h
          · rename_i x1 σ1 hcall
            exact ⟨_, _, _, _, pre, r, some (.inl x1), σ1, rfl, h1, h2, hc, hcall, h, by simp⟩
          · cases h
        · unfold a_bl at h
          split at h
          · rename_i x1 σ1 hcall
            exact ⟨_, _, _, _, pre, r, some (.inr (.inl x1)), σ1, rfl, h1, h2, hc, hcall, h, by simp⟩
          · cases h
        · rename_i hrk _ _
          unfold a_bq at h
          split at h
          · rename_i x1 σ1 hcall
            exact ⟨_, _, _, _, pre, r, some (.inr (.inr x1)), σ1, rfl, h1, h2, hc, hcall, h, by simp; intro e; exact hrk e⟩
          · cases h
      · cases h
    · cases h
  · cases h
end
