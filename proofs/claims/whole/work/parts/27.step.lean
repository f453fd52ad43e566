section Ps
variable {M : MT} {ρ : Type} {O : AO ρ} {X : AX} {d : Nat} {call : ACall ρ} {k : ACont ρ} {pc : Nat} {ins : Instr} {aux : List Nat} {ls : List (Option AV)} {st : List AV} {σ : AS ρ} {res : Option AV × AS ρ} {P : AV → Prop}
set_option maxHeartbeats 4000000 in
/-- a plain instruction has a next state, as good as it was -/
theorem ains_step (hPi : ∀ x, P (.inl x)) (hPl : ∀ x, P (.inr (.inl x))) (hp : isPlain ins = true) (hG : aG P M.2.2.1 ls st) (h : ains O X d call k pc ins aux ls st σ = some res) : ∃ pc' ls' st', aG P M.2.2.1 ls' st' ∧ k pc' ls' st' σ = some res := by
  cases ins with
  | iconst v => exact ⟨_, _, _, (hG.ps (hPi _)), h⟩
  | bipush v => exact ⟨_, _, _, (hG.ps (hPi _)), h⟩
  | sipush v => exact ⟨_, _, _, (hG.ps (hPi _)), h⟩
  | lconst v => exact ⟨_, _, _, (hG.ps (hPl _)), h⟩
  | iload_n i =>
    obtain ⟨x, e1, h⟩ := a_ild_inv h
    exact ⟨_, _, _, (hG.ps (hPi _)), h⟩
  | iload i =>
    obtain ⟨x, e1, h⟩ := a_ild_inv h
    exact ⟨_, _, _, (hG.ps (hPi _)), h⟩
  | lload_n i =>
    obtain ⟨x, e1, h⟩ := a_lld_inv h
    exact ⟨_, _, _, (hG.ps (hPl _)), h⟩
  | lload i =>
    obtain ⟨x, e1, h⟩ := a_lld_inv h
    exact ⟨_, _, _, (hG.ps (hPl _)), h⟩
  | aload_n i =>
    obtain ⟨x, e1, h⟩ := a_ald_inv h
    exact ⟨_, _, _, (hG.ps (hG.2.1 _ _ e1)), h⟩
  | aload i =>
    obtain ⟨x, e1, h⟩ := a_ald_inv h
    exact ⟨_, _, _, (hG.ps (hG.2.1 _ _ e1)), h⟩
  | istore_n i =>
    obtain ⟨x, r, rfl, hi, h⟩ := a_ist_inv h
    rw [hG.1] at hi
    exact ⟨_, _, _, (hG.tl.st (hPi _)), h⟩
  | istore i =>
    obtain ⟨x, r, rfl, hi, h⟩ := a_ist_inv h
    rw [hG.1] at hi
    exact ⟨_, _, _, (hG.tl.st (hPi _)), h⟩
  | lstore_n i =>
    obtain ⟨x, r, rfl, hi, h⟩ := a_lst_inv h
    rw [hG.1] at hi
    exact ⟨_, _, _, (hG.tl.st2 (hPl _)), h⟩
  | lstore i =>
    obtain ⟨x, r, rfl, hi, h⟩ := a_lst_inv h
    rw [hG.1] at hi
    exact ⟨_, _, _, (hG.tl.st2 (hPl _)), h⟩
  | astore_n i =>
    obtain ⟨x, r, rfl, hi, h⟩ := a_ast_inv h
    rw [hG.1] at hi
    exact ⟨_, _, _, (hG.tl.st hG.hd), h⟩
  | astore i =>
    obtain ⟨x, r, rfl, hi, h⟩ := a_ast_inv h
    rw [hG.1] at hi
    exact ⟨_, _, _, (hG.tl.st hG.hd), h⟩
  | iinc i v =>
    obtain ⟨x, e1, h⟩ := a_iinc_inv h
    exact ⟨_, _, _, (hG.st (hPi _)), h⟩
  | dup =>
    simp only [ains] at h
    split at h
    · exact ⟨_, _, _, (hG.ps (hPi _)), h⟩
    · exact ⟨_, _, _, (hG.ps hG.hd), h⟩
    · cases h
  | dup2 =>
    simp only [ains] at h
    split at h
    · exact ⟨_, _, _, ((hG.ps hG.tl.hd).ps (hPi _)), h⟩
    · cases h
  | pop =>
    simp only [ains] at h
    split at h
    · exact ⟨_, _, _, hG.tl, h⟩
    · exact ⟨_, _, _, hG.tl, h⟩
    · cases h
  | iadd => obtain ⟨x, y, r, rfl, h⟩ := a_i2_inv h; exact ⟨_, _, _, (hG.tl.tl.ps (hPi _)), h⟩
  | isub => obtain ⟨x, y, r, rfl, h⟩ := a_i2_inv h; exact ⟨_, _, _, (hG.tl.tl.ps (hPi _)), h⟩
  | imul => obtain ⟨x, y, r, rfl, h⟩ := a_i2_inv h; exact ⟨_, _, _, (hG.tl.tl.ps (hPi _)), h⟩
  | idiv => obtain ⟨x, y, r, rfl, hy, h⟩ := a_id_inv h; exact ⟨_, _, _, (hG.tl.tl.ps (hPi _)), h⟩
  | irem => obtain ⟨x, y, r, rfl, hy, h⟩ := a_id_inv h; exact ⟨_, _, _, (hG.tl.tl.ps (hPi _)), h⟩
  | ineg => obtain ⟨x, r, rfl, h⟩ := a_i1_inv h; exact ⟨_, _, _, (hG.tl.ps (hPi _)), h⟩
  | iand => obtain ⟨x, y, r, rfl, h⟩ := a_i2_inv h; exact ⟨_, _, _, (hG.tl.tl.ps (hPi _)), h⟩
  | ior => obtain ⟨x, y, r, rfl, h⟩ := a_i2_inv h; exact ⟨_, _, _, (hG.tl.tl.ps (hPi _)), h⟩
  | ixor => obtain ⟨x, y, r, rfl, h⟩ := a_i2_inv h; exact ⟨_, _, _, (hG.tl.tl.ps (hPi _)), h⟩
  | ishl => obtain ⟨x, y, r, rfl, h⟩ := a_i2_inv h; exact ⟨_, _, _, (hG.tl.tl.ps (hPi _)), h⟩
  | ishr => obtain ⟨x, y, r, rfl, h⟩ := a_i2_inv h; exact ⟨_, _, _, (hG.tl.tl.ps (hPi _)), h⟩
  | iushr => obtain ⟨x, y, r, rfl, h⟩ := a_i2_inv h; exact ⟨_, _, _, (hG.tl.tl.ps (hPi _)), h⟩
  | i2b => obtain ⟨x, r, rfl, h⟩ := a_i1_inv h; exact ⟨_, _, _, (hG.tl.ps (hPi _)), h⟩
  | i2s => obtain ⟨x, r, rfl, h⟩ := a_i1_inv h; exact ⟨_, _, _, (hG.tl.ps (hPi _)), h⟩
  | i2c => obtain ⟨x, r, rfl, h⟩ := a_i1_inv h; exact ⟨_, _, _, (hG.tl.ps (hPi _)), h⟩
  | i2l =>
    simp only [ains] at h
    split at h
    · exact ⟨_, _, _, (hG.tl.ps (hPl _)), h⟩
    · cases h
  | l2i =>
    simp only [ains] at h
    split at h
    · exact ⟨_, _, _, (hG.tl.ps (hPi _)), h⟩
    · cases h
  | ladd => obtain ⟨x, y, r, rfl, h⟩ := a_l2_inv h; exact ⟨_, _, _, (hG.tl.tl.ps (hPl _)), h⟩
  | lmul => obtain ⟨x, y, r, rfl, h⟩ := a_l2_inv h; exact ⟨_, _, _, (hG.tl.tl.ps (hPl _)), h⟩
  | land => obtain ⟨x, y, r, rfl, h⟩ := a_l2_inv h; exact ⟨_, _, _, (hG.tl.tl.ps (hPl _)), h⟩
  | lor => obtain ⟨x, y, r, rfl, h⟩ := a_l2_inv h; exact ⟨_, _, _, (hG.tl.tl.ps (hPl _)), h⟩
  | ldiv => obtain ⟨x, y, r, rfl, hy, h⟩ := a_ld_inv h; exact ⟨_, _, _, (hG.tl.tl.ps (hPl _)), h⟩
  | lrem => obtain ⟨x, y, r, rfl, hy, h⟩ := a_ld_inv h; exact ⟨_, _, _, (hG.tl.tl.ps (hPl _)), h⟩
  | lshl => obtain ⟨x, y, r, rfl, h⟩ := a_lsh_inv h; exact ⟨_, _, _, (hG.tl.tl.ps (hPl _)), h⟩
  | lshr => obtain ⟨x, y, r, rfl, h⟩ := a_lsh_inv h; exact ⟨_, _, _, (hG.tl.tl.ps (hPl _)), h⟩
  | lcmp =>
    simp only [ains] at h
    split at h
    · exact ⟨_, _, _, (hG.tl.tl.ps (hPi _)), h⟩
    · cases h
  | ifCond cd off =>
    obtain ⟨t, ts, x, r, rfl, rfl, h⟩ := a_b1_inv h
    rcases a_if1_inv h with ⟨q, h⟩ | ⟨q, h⟩
    · exact ⟨_, _, _, hG.tl, h⟩
    · exact ⟨_, _, _, hG.tl, h⟩
  | if_icmp cd off =>
    obtain ⟨t, ts, x, y, r, rfl, rfl, h⟩ := a_b2_inv h
    rcases a_if2_inv h with ⟨q, h⟩ | ⟨q, h⟩
    · exact ⟨_, _, _, hG.tl.tl, h⟩
    · exact ⟨_, _, _, hG.tl.tl, h⟩
  | goto off =>
    simp only [ains] at h
    split at h
    · rename_i t ts
      exact ⟨_, _, _, hG, h⟩
    · cases h
  | _ => cases hp
end Ps
