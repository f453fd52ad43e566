/-! a method's entry; calls by depth -/
section En
variable {B : Nat} {sp : Nat → Value}
theorem e_ls_ini (hsp : ∀ k, isRV (sp k)) : ∀ (av : List AV) (i : Nat), e_ls B sp i (a_ini av) = lv_args i (av.map (e_v B sp)) := by
  intro av
  induction av with
  | nil => intro i; rfl
  | cons v av ih =>
    intro i
    rcases v with x | x | (- | q) | k
    · show (i, e_v B sp (.inl x)) :: e_ls B sp (i + 1) (a_ini av) = _
      rw [ih]; rfl
    · show (i, e_v B sp (.inr (.inl x))) :: e_ls B sp (i + 1 + 1) (a_ini av) = _
      rw [ih]; rfl
    · show (i, e_v B sp (.inr (.inr (.inl none)))) :: e_ls B sp (i + 1) (a_ini av) = _
      rw [ih]; rfl
    · show (i, e_v B sp (.inr (.inr (.inl (some q))))) :: e_ls B sp (i + 1) (a_ini av) = _
      rw [ih]; rfl
    · show (i, e_v B sp (.inr (.inr (.inr k)))) :: e_ls B sp (i + 1) (a_ini av) = _
      rw [ih]
      show _ = (i, sp k) :: lv_args (if (sp k).category = 2 then i + 2 else i + 1) _
      rw [(hsp k).cat]
      rfl
theorem a_ini_len (hsp : ∀ k, isRV (sp k)) : ∀ (av : List AV), (lg_sl (av.map (e_v B sp))).length = (a_ini av).length := by
  intro av
  induction av with
  | nil => rfl
  | cons v av ih =>
    have hc : ∀ w : Value, lg_sl (w :: av.map (e_v B sp)) = (if w.category = 2 then [.val w, .second] else [.val w]) ++ lg_sl (av.map (e_v B sp)) := fun w => by unfold lg_sl; rw [List.flatMap_cons]
    rw [List.map_cons, hc]
    rcases v with x | x | (- | q) | k
    · show _ = (a_ini av).length + 1
      rw [List.length_append, ih]; simp [e_v, Value.category]; omega
    · show _ = (a_ini av).length + 1 + 1
      rw [List.length_append, ih]; simp [e_v, Value.category]; omega
    · show _ = (a_ini av).length + 1
      rw [List.length_append, ih]; simp [e_v, va_rf, Value.category]; omega
    · show _ = (a_ini av).length + 1
      rw [List.length_append, ih]; simp [e_v, va_rf, Value.category]; omega
    · show _ = (a_ini av).length + 1
      rw [if_neg (by show ¬ (sp k).category = 2; rw [(hsp k).cat]; decide), List.length_append, ih, List.length_singleton]
      omega
theorem a_pad_get {n j : Nat} {l : List (Option AV)} {w : AV} (h : (a_pad n l)[j]? = some (some w)) : l[j]? = some (some w) := by
  unfold a_pad at h
  by_cases hj : j < l.length
  · rwa [List.getElem?_append_left hj] at h
  · rw [List.getElem?_append_right (by omega), List.getElem?_replicate] at h
    split at h <;> cases h
theorem a_pad_len {n : Nat} {l : List (Option AV)} (h : l.length ≤ n) : (a_pad n l).length = n := by
  unfold a_pad
  rw [List.length_append, List.length_replicate]
  omega
theorem a_ini_mem : ∀ (av : List AV) {j : Nat} {w : AV}, (a_ini av)[j]? = some (some w) → w ∈ av := by
  intro av
  induction av with
  | nil => intro j w h; cases h
  | cons v av ih =>
    intro j w h
    rcases v with x | x | q | k
    · cases j with
      | zero => cases h; exact List.mem_cons_self
      | succ j => exact List.mem_cons_of_mem _ (ih h)
    · cases j with
      | zero => cases h; exact List.mem_cons_self
      | succ j =>
        cases j with
        | zero => cases h
        | succ j => exact List.mem_cons_of_mem _ (ih h)
    · cases j with
      | zero => cases h; exact List.mem_cons_self
      | succ j => exact List.mem_cons_of_mem _ (ih h)
    · cases j with
      | zero => cases h; exact List.mem_cons_self
      | succ j => exact List.mem_cons_of_mem _ (ih h)
end En
section Cs
variable {ρ : Type} {l : Launch} {D : va_G} {B : Nat} {spa : Nat → Nat} {v4 : Value} {cA : Nat → ClassId} {PGm : Nat → Option MT}
variable {O : AO ρ} {Cn : ρ → Nat} {X : AX}
def PGok (PGm : Nat → Option MT) : Prop := ∀ mi M', PGm mi = some M' → plainName M'.1.cls = true ∧ ∃ code, PG mi = some (M'.2.2.1, code) ∧ ∀ pc ins aux kill, code pc = some (ins, aux, kill) → okI PGm M' pc ins aux
theorem call_inv {mi n d : Nat} {code : Nat → Option AE} {av : List AV} {σ : AS ρ} {r : Option AV × AS ρ} (hp : PG mi = some (n, code)) (h : callG O X (d + 1) mi av σ = some r) : (a_ini av).length ≤ n ∧ ∃ fu, arun O X d (callG O X d) code fu 0 (a_pad n (a_ini av)) [] σ = some r := by
  have h : (match PG mi with | some (n, code) => bif Nat.ble (a_ini av).length n then aval O X d (callG O X d) code 0 (a_pad n (a_ini av)) [] σ else none | none => none) = some r := h
  rw [hp] at h
  have h : (bif Nat.ble (a_ini av).length n then aval O X d (callG O X d) code 0 (a_pad n (a_ini av)) [] σ else none) = some r := h
  cases hb : Nat.ble (a_ini av).length n with
  | false => rw [hb] at h; cases h
  | true =>
    rw [hb] at h
    exact ⟨Nat.le_of_ble_eq_true hb, aval_to h⟩
theorem ini_good {P : AV → Prop} {n : Nat} {av : List AV} (h : (a_ini av).length ≤ n) (hv : ∀ v ∈ av, P v) : aG P n (a_pad n (a_ini av)) [] := ⟨a_pad_len h, fun i v hi => hv v (a_ini_mem av (a_pad_get hi)), fun v hm => by cases hm⟩
theorem call_pure (hok : PGok PGm) (hOL : OL O Cn) : ∀ d, aCp PGm O Cn (callG O X d) := by
  intro d
  induction d with
  | zero => intro mi av σ1 o σ2 M' _ h; cases h
  | succ d ih =>
    intro mi av σ1 o σ2 M' hm h hv hWf hn
    obtain ⟨-, code, hp, hc⟩ := hok mi M' hm
    obtain ⟨hl, fu, hr⟩ := call_inv hp h
    exact arun_pure hOL ih hc fu 0 _ [] σ1 (ini_good hl hv) hWf hn hr
theorem call_sound (hok : PGok PGm) (hU : uOk) (hv4 : isRV v4) (hOL : OL O Cn) : ∀ d, aCl PGm l D B X spa v4 cA O Cn d (callG O X d) := by
  intro d
  induction d with
  | zero => intro mi av σ1 o σ2 M' _ h; cases h
  | succ d ih =>
    intro mi av σ1 o σ2 M' hm h hv hWf hn
    obtain ⟨q1, q2⟩ := call_pure hok hOL (d + 1) mi av σ1 o σ2 M' hm h hv hWf hn
    obtain ⟨hpl, code, hp, hc⟩ := hok mi M' hm
    obtain ⟨hl, fu, hr⟩ := call_inv hp h
    have hsp := e_sp_rv (spa := spa) hv4
    refine ⟨d, rfl, q1, q2, ?_⟩
    refine Met.ofW (cc := M'.2.1) (maxL := M'.2.2.1) (ret := M'.2.2.2) hpl (ws' := GT) rfl ?_
    intro p e s m args below meth c s₁ Bd hml hpre
    obtain ⟨rfl, hsz, hP, hK, hSP⟩ := hpre
    have C : Cx p s m (av.map (e_v B (e_sp spa v4))).toArray meth c M' := ⟨Bd.exec, Bd.bytes, hml, findClass_of_methodNamed Bd.named, atoms_spec (ws := mWs M') Bd.pre, Bd.returns, Bd.notSynchronized, (name_of_methodNamed Bd.named Bd.method).1⟩
    have hT := arun_sound (R := e_rm d (Cn σ1.2.2) (Cn σ2.2.2)) (e := e) (below := below) (res := (o, σ2)) C hU hK hsz hSP hv4 hOL ⟨rfl, rfl⟩ rfl rfl ih hc fu 0 _ [] σ1 (ini_good hl hv) hWf (Nat.le_refl _) hn hr
    have hle : (lg_sl (av.map (e_v B (e_sp spa v4)))).length ≤ M'.2.2.1 := by rw [a_ini_len hsp]; exact hl
    have hW := hT.2.2 s.heap [] _ hsz hP va_S.rf (lv_mono (lv_entry (av.map (e_v B (e_sp spa v4))) hle) (fun q hq => by
      obtain ⟨j, w, h1, rfl⟩ := (e_ls_mem _ _ _).mp hq
      rw [← e_ls_ini hsp]
      exact (e_ls_mem _ _ _).mpr ⟨j, w, a_pad_get h1, rfl⟩))
    rw [Nat.sub_self, Nat.sub_self] at hW
    rw [lg_entry_eq]
    exact hW
end Cs
