section Rn
variable {ρ : Type}
variable {p : Program} {l : Launch} {e : Env} {R : Room} {s : State} {m : MethodId} {args : Array Value} {below : List Frame} {meth : Method} {c : Code}
variable {D : va_G} {B : Nat} {spa : Nat → Nat} {v4 : Value} {cA : Nat → ClassId} {c0 : Nat} {M : MT} {PGm : Nat → Option MT}
variable {O : AO ρ} {Cn : ρ → Nat} {X : AX} {d : Nat} {call : ACall ρ} {code : Nat → Option AE} {res : Option AV × AS ρ}
theorem aT.kill {pc : Nat} {ls : List (Option AV)} {st : List AV} {σ : AS ρ} {ks : List Nat} {nL : Nat} (h : aT p l e R s m args below meth c D B spa v4 cA nL c0 O Cn res pc (a_kill ks ls) st σ) : aT p l e R s m args below meth c D B spa v4 cA nL c0 O Cn res pc ls st σ :=
  ⟨h.1, h.2.1, fun H locs lsA h1 h2 h3 h4 => h.2.2 H locs lsA h1 h2 h3 (e_ls_kill h4)⟩
theorem arun_sound (C : Cx p s m args meth c M) (hU : uOk) (hK : va_K D vwCl (tysL cA) s) (hs0 : s.heap.size = B + c0) (hSP : SPf B X spa v4 s s.heap) (hv4 : isRV v4) (hOL : OL O Cn) (hR : R.frames = d ∧ R.locals = 38 * d) (hRc : R.cells = Cn res.2.2.2 - c0) (hRs : R.slots = e_sz (Cn res.2.2.2) - e_sz c0)
    (hcl : aCl PGm l D B X spa v4 cA O Cn d call) (hcode : ∀ pc ins aux kill, code pc = some (ins, aux, kill) → okI PGm M pc ins aux) : ∀ (n pc : Nat) (ls : List (Option AV)) (st : List AV) (σ : AS ρ), aG (vok (Cn σ.2.2)) M.2.2.1 ls st → aWf (O.1 σ.2.2) (Cn σ.2.2) → c0 ≤ Cn σ.2.2 → Cn σ.2.2 ≤ 284 → arun O X d call code n pc ls st σ = some res → aT p l e R s m args below meth c D B spa v4 cA M.2.2.1 c0 O Cn res pc ls st σ := by
  intro n
  induction n with
  | zero => intro pc ls st σ _ _ _ _ h; cases h
  | succ n ih =>
    intro pc ls st σ hG hWf hc hn h
    have h : (match code pc with | some (ins, aux, kill) => ains O X d call (arun O X d call code n) pc ins aux (a_kill kill ls) st σ | none => none) = some res := h
    cases hcd : code pc with
    | none => rw [hcd] at h; cases h
    | some q =>
      obtain ⟨ins, aux, kill⟩ := q
      rw [hcd] at h
      exact aT.kill (ks := kill) (ains_sound C hU hK hs0 hSP hv4 hOL hR hRc hRs hcl (hcode _ _ _ _ hcd) hG.kill hWf hc hn h ih)
theorem arun_pure (hOL : OL O Cn) (hcl : aCp PGm O Cn call) (hcode : ∀ pc ins aux kill, code pc = some (ins, aux, kill) → okI PGm M pc ins aux) : ∀ (n pc : Nat) (ls : List (Option AV)) (st : List AV) (σ : AS ρ), aG (vok (Cn σ.2.2)) M.2.2.1 ls st → aWf (O.1 σ.2.2) (Cn σ.2.2) → Cn σ.2.2 ≤ 284 → arun O X d call code n pc ls st σ = some res → Cn σ.2.2 ≤ Cn res.2.2.2 ∧ aF O Cn res := by
  intro n
  induction n with
  | zero => intro pc ls st σ _ _ _ h; cases h
  | succ n ih =>
    intro pc ls st σ hG hWf hn h
    have h : (match code pc with | some (ins, aux, kill) => ains O X d call (arun O X d call code n) pc ins aux (a_kill kill ls) st σ | none => none) = some res := h
    cases hcd : code pc with
    | none => rw [hcd] at h; cases h
    | some q =>
      obtain ⟨ins, aux, kill⟩ := q
      rw [hcd] at h
      exact ains_pure (c0 := 0) hOL hcl (hcode _ _ _ _ hcd) hG.kill hWf (Nat.zero_le _) hn h (fun pc' ls' st' σ' g1 g2 _ g4 g5 => ih pc' ls' st' σ' g1 g2 g4 g5)
end Rn
