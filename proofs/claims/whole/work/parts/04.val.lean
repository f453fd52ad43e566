/-! the layout behind the constructors: which name a reference field (an element) holds -/
def LAY : A3 (Option AR) := fun f i j => match f with
  | 0 => match j with
    | 0 => some (1, 0)
    | 1 => some (3, 0)
    | 2 => some (5, 0)
    | 3 => some (5, 1)
    | 4 => some (12, 0)
    | 5 => some (15, 0)
    | 6 => some (16, 0)
    | 7 => some (19, 0)
    | 8 => some (20, 0)
    | 9 => some (28, 0)
    | 10 => some (31, 0)
    | 11 => some (34, 0)
    | 12 => some (35, 0)
    | 13 => some (36, 0)
    | _ => none
  | 1 => match j with
    | 0 => some (2, 0)
    | _ => none
  | 3 => match j with
    | 0 => some (4, 0)
    | _ => none
  | 4 => match j with
    | 0 => some (1, 0)
    | _ => none
  | 5 => match j with
    | 0 => some (6, i)
    | 1 => some (7, i)
    | 2 => some (8, i)
    | 3 => some (9, i)
    | 4 => some (10, i)
    | 5 => some (11, i)
    | _ => none
  | 12 => some (5, j + 2)
  | 13 => match j with
    | 0 => some (14, i)
    | _ => none
  | 15 => some (13, j)
  | 16 => some (13, j + 3)
  | 17 => match j with
    | 0 => some (18, i)
    | 1 => some (5, 0)
    | 2 => some (15, 0)
    | _ => none
  | 19 => some (17, j)
  | 20 => match j with
    | 0 => some (21, i)
    | 1 => some (22, i)
    | 2 => some (23, i)
    | 3 => some (24, i)
    | 4 => some (25, i)
    | 5 => some (26, i)
    | 6 => some (27, i)
    | 7 => some (5, 0)
    | _ => none
  | 28 => match j with
    | 0 => some (29, 0)
    | 1 => some (20, 1)
    | 2 => some (20, 2)
    | 3 => some (30, 0)
    | 4 => some (5, 0)
    | _ => none
  | 29 => some (20, j + 3)
  | 32 => match j with
    | 0 => some (33, i)
    | _ => none
  | 34 => some (32, j)
  | 40 => match j with
    | 1 => some (41, 0)
    | 2 => some (42, 0)
    | 3 => some (43, 0)
    | 4 => some (44, 0)
    | 6 => some (45, 0)
    | 14 => some (46, 0)
    | 15 => some (47, 0)
    | 16 => some (48, 0)
    | 20 => some (49, 0)
    | 21 => some (50, 0)
    | 22 => some (51, 0)
    | 23 => some (52, 0)
    | 24 => some (53, 0)
    | 25 => some (54, 0)
    | 27 => some (55, 0)
    | 28 => some (56, 0)
    | 29 => some (57, 0)
    | 30 => some (58, 0)
    | 31 => some (59, 0)
    | 32 => some (60, 0)
    | 33 => some (61, 0)
    | 34 => some (62, 0)
    | _ => none
  | _ => none
/-- a method: name, code, locals, what it returns -/
abbrev MT : Type := MethodName × ByteArray × Nat × Option FieldType
abbrev AU : Type := A3 Int32 × A3 Int64 × Unit
def opsU : AO Unit := (fun _ => LAY, fun _ _ _ _ _ => none, fun _ => none)
section
variable {ρ : Type}
/-- where a run ends, if it does -/
noncomputable def aval (O : AO ρ) (X : AX) (d : Nat) (call : ACall ρ) (code : Nat → Option AE) : ACont ρ := fun pc ls st σ =>
  @dite (ARes ρ) (∃ r, ∃ n, arun O X d call code n pc ls st σ = some r) (Classical.propDecidable _) (fun h => some (Classical.choose h)) (fun _ => none)
def OLe {α : Type} (a b : Option α) : Prop := ∀ r, a = some r → b = some r
theorem OLe.none {α : Type} {b : Option α} : OLe Option.none b := fun _ h => by cases h
theorem OLe.refl {α : Type} {b : Option α} : OLe b b := fun _ h => h
theorem OLe.ite {α : Type} {c : Prop} [Decidable c] {a b a' b' : Option α} (h1 : OLe a a') (h2 : OLe b b') : OLe (if c then a else b) (if c then a' else b') := by
  by_cases h : c
  · rw [if_pos h, if_pos h]; exact h1
  · rw [if_neg h, if_neg h]; exact h2
theorem OLe.if1 {α : Type} {c : Jvm.ClassFile.Cond} {x : Int32} {a b a' b' : Option α} (h1 : OLe a a') (h2 : OLe b b') : OLe (a_if1 c x a b) (a_if1 c x a' b') := by
  cases c <;> first | exact OLe.ite h1 h2 | exact OLe.ite h2 h1
theorem OLe.if2 {α : Type} {c : Jvm.ClassFile.Cond} {x y : Int32} {a b a' b' : Option α} (h1 : OLe a a') (h2 : OLe b b') : OLe (a_if2 c x y a b) (a_if2 c x y a' b') := by
  cases c <;> first | exact OLe.ite h1 h2 | exact OLe.ite h2 h1
theorem OLe.sw {α : Type} {x : Int32} {f f' : Nat → Option α} (h : ∀ t, OLe (f t) (f' t)) {d : Nat} : ∀ (ts : List Nat) (lo : Int), OLe (a_sw x lo ts d f) (a_sw x lo ts d f') := by
  intro ts
  induction ts with
  | nil => intro lo; exact h d
  | cons t ts ih => intro lo; exact OLe.ite (h t) (ih _)
theorem OLe.bv {o o' : ARes ρ} {f f' : AS ρ → ARes ρ} (ho : OLe o o') (h : ∀ s, OLe (f s) (f' s)) : OLe (a_bv o f) (a_bv o' f') := by
  rcases o with - | ⟨(- | v), s⟩
  · exact OLe.none
  · rw [ho _ rfl]; exact h s
  · exact OLe.none
theorem OLe.bi {o o' : ARes ρ} {f f' : Int32 → AS ρ → ARes ρ} (ho : OLe o o') (h : ∀ x s, OLe (f x s) (f' x s)) : OLe (a_bi o f) (a_bi o' f') := by
  rcases o with - | ⟨(- | (x | v)), s⟩
  · exact OLe.none
  · exact OLe.none
  · rw [ho _ rfl]; exact h x s
  · exact OLe.none
theorem OLe.bl {o o' : ARes ρ} {f f' : Int64 → AS ρ → ARes ρ} (ho : OLe o o') (h : ∀ x s, OLe (f x s) (f' x s)) : OLe (a_bl o f) (a_bl o' f') := by
  rcases o with - | ⟨(- | (x | (x | v))), s⟩
  · exact OLe.none
  · exact OLe.none
  · exact OLe.none
  · rw [ho _ rfl]; exact h x s
  · exact OLe.none
theorem OLe.bq {o o' : ARes ρ} {f f' : Option AR ⊕ Nat → AS ρ → ARes ρ} (ho : OLe o o') (h : ∀ x s, OLe (f x s) (f' x s)) : OLe (a_bq o f) (a_bq o' f') := by
  rcases o with - | ⟨(- | (x | (x | x))), s⟩
  · exact OLe.none
  · exact OLe.none
  · exact OLe.none
  · exact OLe.none
  · rw [ho _ rfl]; exact h x s
theorem ains_mono {O : AO ρ} {X : AX} {d : Nat} {call call' : ACall ρ} {k k' : ACont ρ} (hc : ∀ m a s, OLe (call m a s) (call' m a s)) (h : ∀ pc ls st σ, OLe (k pc ls st σ) (k' pc ls st σ)) {pc : Nat} {ins : Instr} {aux : List Nat} {ls : List (Option AV)} {st : List AV} {σ : AS ρ} : OLe (ains O X d call k pc ins aux ls st σ) (ains O X d call' k' pc ins aux ls st σ) := by
  cases ins <;> simp only [ains, a_ild, a_lld, a_ald, a_ist, a_lst, a_ast, a_iinc, a_i1, a_i2, a_id, a_l2, a_ld, a_lsh, a_b1, a_b2, a_get, a_put, a_iald, a_bald, a_lald, a_aald, a_iast, a_bast, a_last, a_aast, a_alen, a_new, a_newa, a_copy, a_inv, a_frc_eq] <;> (repeat' split) <;> first | exact OLe.none | exact OLe.refl | exact h _ _ _ _ | exact OLe.if1 (h _ _ _ _) (h _ _ _ _) | exact OLe.if2 (h _ _ _ _) (h _ _ _ _) | exact OLe.sw (fun _ => h _ _ _ _) _ _ | exact OLe.bv (hc _ _ _) (fun _ => h _ _ _ _) | exact OLe.bi (hc _ _ _) (fun _ _ => h _ _ _ _) | exact OLe.bl (hc _ _ _) (fun _ _ => h _ _ _ _) | exact OLe.bq (hc _ _ _) (fun _ _ => h _ _ _ _) | (exfalso; simp_all; done)
theorem arun_mono {O : AO ρ} {X : AX} {d : Nat} {call call' : ACall ρ} (hc : ∀ m a s, OLe (call m a s) (call' m a s)) {code : Nat → Option AE} : ∀ (n n' : Nat), n ≤ n' → ∀ pc ls st σ, OLe (arun O X d call code n pc ls st σ) (arun O X d call' code n' pc ls st σ) := by
  intro n
  induction n with
  | zero => intro n' _ pc ls st σ; exact OLe.none
  | succ n ih =>
    intro n' hn pc ls st σ
    obtain ⟨m, rfl⟩ : ∃ m, n' = m + 1 := ⟨n' - 1, by omega⟩
    show OLe (match code pc with | some (ins, aux, kill) => ains O X d call (arun O X d call code n) pc ins aux (a_kill kill ls) st σ | none => none) (match code pc with | some (ins, aux, kill) => ains O X d call' (arun O X d call' code m) pc ins aux (a_kill kill ls) st σ | none => none)
    cases code pc with
    | none => exact OLe.none
    | some q => exact ains_mono hc (ih m (by omega))
theorem OLe.call_refl (call : ACall ρ) : ∀ m a s, OLe (call m a s) (call m a s) := fun _ _ _ => OLe.refl
theorem aval_of {O : AO ρ} {X : AX} {d : Nat} {call : ACall ρ} {code : Nat → Option AE} {n pc : Nat} {ls : List (Option AV)} {st : List AV} {σ : AS ρ} {r : Option AV × AS ρ} (h : arun O X d call code n pc ls st σ = some r) : aval O X d call code pc ls st σ = some r := by
  have hex : ∃ r, ∃ n, arun O X d call code n pc ls st σ = some r := ⟨r, n, h⟩
  unfold aval
  rw [dif_pos hex]
  obtain ⟨n2, h2⟩ := Classical.choose_spec hex
  have h3 := arun_mono (OLe.call_refl call) n (n + n2) (by omega) pc ls st σ _ h
  have h4 := arun_mono (OLe.call_refl call) n2 (n + n2) (by omega) pc ls st σ _ h2
  rw [h3] at h4
  exact h4.symm
theorem aval_to {O : AO ρ} {X : AX} {d : Nat} {call : ACall ρ} {code : Nat → Option AE} {pc : Nat} {ls : List (Option AV)} {st : List AV} {σ : AS ρ} {r : Option AV × AS ρ} (h : aval O X d call code pc ls st σ = some r) : ∃ n, arun O X d call code n pc ls st σ = some r := by
  unfold aval at h
  by_cases hex : ∃ r, ∃ n, arun O X d call code n pc ls st σ = some r
  · rw [dif_pos hex] at h
    rw [← Option.some.inj h]
    exact Classical.choose_spec hex
  · rw [dif_neg hex] at h
    cases h
/-- what a has, some F n has -/
def OC {α : Type} (a : Option α) (F : Nat → Option α) : Prop := ∀ r, a = some r → ∃ n, F n = some r
theorem OC.none {α : Type} {F : Nat → Option α} : OC Option.none F := fun _ h => by cases h
theorem OC.refl {α : Type} {b : Option α} : OC b (fun _ => b) := fun _ h => ⟨0, h⟩
theorem OC.ite {α : Type} {c : Prop} [Decidable c] {a b : Option α} {F G : Nat → Option α} (h1 : OC a F) (h2 : OC b G) : OC (if c then a else b) (fun n => if c then F n else G n) := by
  intro r hr
  by_cases h : c
  · rw [if_pos h] at hr
    obtain ⟨n, hn⟩ := h1 r hr
    exact ⟨n, by show (if c then F n else G n) = _; rw [if_pos h]; exact hn⟩
  · rw [if_neg h] at hr
    obtain ⟨n, hn⟩ := h2 r hr
    exact ⟨n, by show (if c then F n else G n) = _; rw [if_neg h]; exact hn⟩
theorem OC.if1 {α : Type} {c : Jvm.ClassFile.Cond} {x : Int32} {a b : Option α} {F G : Nat → Option α} (h1 : OC a F) (h2 : OC b G) : OC (a_if1 c x a b) (fun n => a_if1 c x (F n) (G n)) := by
  cases c <;> first | exact OC.ite h1 h2 | exact OC.ite h2 h1
theorem OC.if2 {α : Type} {c : Jvm.ClassFile.Cond} {x y : Int32} {a b : Option α} {F G : Nat → Option α} (h1 : OC a F) (h2 : OC b G) : OC (a_if2 c x y a b) (fun n => a_if2 c x y (F n) (G n)) := by
  cases c <;> first | exact OC.ite h1 h2 | exact OC.ite h2 h1
theorem OC.sw {α : Type} {x : Int32} {f : Nat → Option α} {F : Nat → Nat → Option α} (h : ∀ t, OC (f t) (fun n => F n t)) {d : Nat} : ∀ (ts : List Nat) (lo : Int), OC (a_sw x lo ts d f) (fun n => a_sw x lo ts d (F n)) := by
  intro ts
  induction ts with
  | nil => intro lo; exact h d
  | cons t ts ih => intro lo; exact OC.ite (h t) (ih _)
theorem OC.bv {o : ARes ρ} {f : AS ρ → ARes ρ} {F : Nat → AS ρ → ARes ρ} (h : ∀ s, OC (f s) (fun n => F n s)) : OC (a_bv o f) (fun n => a_bv o (F n)) := by
  rcases o with - | ⟨(- | q), s⟩
  · exact OC.none
  · exact h s
  · exact OC.none
theorem OC.bi {o : ARes ρ} {f : Int32 → AS ρ → ARes ρ} {F : Nat → Int32 → AS ρ → ARes ρ} (h : ∀ x s, OC (f x s) (fun n => F n x s)) : OC (a_bi o f) (fun n => a_bi o (F n)) := by
  rcases o with - | ⟨(- | (x | q)), s⟩
  · exact OC.none
  · exact OC.none
  · exact h x s
  · exact OC.none
theorem OC.bl {o : ARes ρ} {f : Int64 → AS ρ → ARes ρ} {F : Nat → Int64 → AS ρ → ARes ρ} (h : ∀ x s, OC (f x s) (fun n => F n x s)) : OC (a_bl o f) (fun n => a_bl o (F n)) := by
  rcases o with - | ⟨(- | (x | (x | q))), s⟩
  · exact OC.none
  · exact OC.none
  · exact OC.none
  · exact h x s
  · exact OC.none
theorem OC.bq {o : ARes ρ} {f : Option AR ⊕ Nat → AS ρ → ARes ρ} {F : Nat → Option AR ⊕ Nat → AS ρ → ARes ρ} (h : ∀ x s, OC (f x s) (fun n => F n x s)) : OC (a_bq o f) (fun n => a_bq o (F n)) := by
  rcases o with - | ⟨(- | (x | (x | x))), s⟩
  · exact OC.none
  · exact OC.none
  · exact OC.none
  · exact OC.none
  · exact h x s
theorem ains_cont {O : AO ρ} {X : AX} {d : Nat} {call : ACall ρ} {k : ACont ρ} {F : Nat → ACont ρ} (h : ∀ pc ls st σ, OC (k pc ls st σ) (fun n => F n pc ls st σ)) {pc : Nat} {ins : Instr} {aux : List Nat} {ls : List (Option AV)} {st : List AV} {σ : AS ρ} : OC (ains O X d call k pc ins aux ls st σ) (fun n => ains O X d call (F n) pc ins aux ls st σ) := by
  cases ins <;> simp only [ains, a_ild, a_lld, a_ald, a_ist, a_lst, a_ast, a_iinc, a_i1, a_i2, a_id, a_l2, a_ld, a_lsh, a_b1, a_b2, a_get, a_put, a_iald, a_bald, a_lald, a_aald, a_iast, a_bast, a_last, a_aast, a_alen, a_new, a_newa, a_copy, a_inv, a_frc_eq] <;> (repeat' split) <;> first | exact OC.none | exact OC.refl | exact h _ _ _ _ | exact OC.if1 (h _ _ _ _) (h _ _ _ _) | exact OC.if2 (h _ _ _ _) (h _ _ _ _) | exact OC.sw (fun _ => h _ _ _ _) _ _ | exact OC.bv (fun _ => h _ _ _ _) | exact OC.bi (fun _ _ => h _ _ _ _) | exact OC.bl (fun _ _ => h _ _ _ _) | exact OC.bq (fun _ _ => h _ _ _ _) | (exfalso; simp_all; done)
/-- a step of a run's end -/
theorem aval_step {O : AO ρ} {X : AX} {d : Nat} {call : ACall ρ} {code : Nat → Option AE} {pc : Nat} {ls : List (Option AV)} {st : List AV} {σ : AS ρ} : OLe (match code pc with | some (ins, aux, kill) => ains O X d call (aval O X d call code) pc ins aux (a_kill kill ls) st σ | none => none) (aval O X d call code pc ls st σ) := by
  intro r hr
  cases hc : code pc with
  | none => rw [hc] at hr; cases hr
  | some q =>
    obtain ⟨ins, aux, kill⟩ := q
    rw [hc] at hr
    obtain ⟨n, hn⟩ := ains_cont (F := fun n => arun O X d call code n) (fun pc ls st σ r h => aval_to h) r hr
    refine aval_of (n := n + 1) ?_
    show (match code pc with | some (ins, aux, kill) => ains O X d call (arun O X d call code n) pc ins aux (a_kill kill ls) st σ | none => none) = some r
    rw [hc]
    exact hn
theorem a_kill_set (ks : List Nat) : ∀ (ls : List (Option AV)) (i : Nat), a_kill ks (ls.set i none) = (a_kill ks ls).set i none := by
  induction ks with
  | nil => intro ls i; rfl
  | cons k ks ih =>
    intro ls i
    show a_kill ks ((ls.set i none).set k none) = (a_kill ks (ls.set k none)).set i none
    rw [← ih]
    by_cases h : k = i
    · rw [h]
    · rw [List.set_comm _ _ (fun e => h e.symm)]
theorem a_kill_twice (ks : List Nat) : ∀ (ls : List (Option AV)), a_kill ks (a_kill ks ls) = a_kill ks ls := by
  induction ks with
  | nil => intro ls; rfl
  | cons k ks ih =>
    intro ls
    show a_kill ks ((a_kill ks (ls.set k none)).set k none) = a_kill ks (ls.set k none)
    rw [a_kill_set, ih, ← a_kill_set, List.set_set]
theorem aval_kill {O : AO ρ} {X : AX} {d : Nat} {call : ACall ρ} {code : Nat → Option AE} {pc : Nat} {ls : List (Option AV)} {st : List AV} {σ : AS ρ} {ins : Instr} {aux : List Nat} {kill : List Nat} (hc : code pc = some (ins, aux, kill)) : OLe (aval O X d call code pc (a_kill kill ls) st σ) (aval O X d call code pc ls st σ) := by
  intro r hr
  obtain ⟨n, hn⟩ := aval_to hr
  refine aval_of (n := n) ?_
  cases n with
  | zero => cases hn
  | succ n =>
    have h1 : (match code pc with | some (ins, aux, kill) => ains O X d call (arun O X d call code n) pc ins aux (a_kill kill (a_kill kill ls)) st σ | none => none) = some r := by
      rw [← hn]
      show _ = (match code pc with | some (ins, aux, kill') => ains O X d call (arun O X d call code n) pc ins aux (a_kill kill' (a_kill kill ls)) st σ | none => none)
      rw [hc]
    show (match code pc with | some (ins, aux, kill) => ains O X d call (arun O X d call code n) pc ins aux (a_kill kill ls) st σ | none => none) = some r
    rw [hc] at h1 ⊢
    have h1 : ains O X d call (arun O X d call code n) pc ins aux (a_kill kill (a_kill kill ls)) st σ = some r := h1
    rw [a_kill_twice] at h1
    exact h1
/-- a run up to the places of 'cuts' (with an empty stack), there k -/
def aseg (O : AO ρ) (X : AX) (d : Nat) (call : ACall ρ) (code : Nat → Option AE) (cuts cuts2 : List Nat) (k : ACont ρ) : Nat → ACont ρ
  | 0 => k
  | n + 1 => fun pc ls st σ => match code pc with
    | some (ins, aux, kill) => ains O X d call (fun pc' ls' st' σ' => bif (st'.isEmpty && cuts.contains pc') || cuts2.contains pc' then (match code pc' with | some (_, _, kill') => k pc' (a_kill kill' ls') st' σ' | none => none) else aseg O X d call code cuts cuts2 k n pc' ls' st' σ') pc ins aux (a_kill kill ls) st σ
    | none => none
theorem aseg_le {O : AO ρ} {X : AX} {d : Nat} {call : ACall ρ} {code : Nat → Option AE} (cuts cuts2 : List Nat) : ∀ (n : Nat) {pc : Nat} {ls : List (Option AV)} {st : List AV} {σ : AS ρ}, OLe (aseg O X d call code cuts cuts2 (aval O X d call code) n pc ls st σ) (aval O X d call code pc ls st σ) := by
  intro n
  induction n with
  | zero => intro pc ls st σ; exact OLe.refl
  | succ n ih =>
    intro pc ls st σ r hr
    refine aval_step r ?_
    have hr : (match code pc with
      | some (ins, aux, kill) => ains O X d call (fun pc' ls' st' σ' => bif (st'.isEmpty && cuts.contains pc') || cuts2.contains pc' then (match code pc' with | some (_, _, kill') => aval O X d call code pc' (a_kill kill' ls') st' σ' | none => none) else aseg O X d call code cuts cuts2 (aval O X d call code) n pc' ls' st' σ') pc ins aux (a_kill kill ls) st σ
      | none => none) = some r := hr
    cases hc : code pc with
    | none => rw [hc] at hr; cases hr
    | some q =>
      obtain ⟨ins, aux, kill⟩ := q
      rw [hc] at hr
      refine ains_mono (OLe.call_refl call) (fun pc' ls' st' σ' => ?_) r hr
      cases ((st'.isEmpty && cuts.contains pc') || cuts2.contains pc') with
      | false => exact ih
      | true =>
        show OLe (match code pc' with | some (_, _, kill') => aval O X d call code pc' (a_kill kill' ls') st' σ' | none => none) _
        cases hc' : code pc' with
        | none => exact OLe.none
        | some q' =>
          obtain ⟨i', a', k'⟩ := q'
          exact aval_kill hc'
/-- the locals at a method's entry -/
def a_ini : List AV → List (Option AV)
  | [] => []
  | .inr (.inl x) :: vs => some (.inr (.inl x)) :: none :: a_ini vs
  | v :: vs => some v :: a_ini vs
def a_pad (n : Nat) (l : List (Option AV)) : List (Option AV) := l ++ List.replicate (n - l.length) none
end
