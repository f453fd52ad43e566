theorem a_if1_inv {α : Type} {c : Jvm.ClassFile.Cond} {x : Int32} {a b : Option α} {r : α} (h : a_if1 c x a b = some r) : (a_if1 c x True False ∧ a = some r) ∨ (¬ a_if1 c x True False ∧ b = some r) := by
  cases c <;> simp only [a_if1] at h ⊢ <;> split at h <;> simp_all
theorem a_if2_inv {α : Type} {c : Jvm.ClassFile.Cond} {x y : Int32} {a b : Option α} {r : α} (h : a_if2 c x y a b = some r) : (a_if2 c x y True False ∧ a = some r) ∨ (¬ a_if2 c x y True False ∧ b = some r) := by
  cases c <;> simp only [a_if2] at h ⊢ <;> split at h <;> simp_all
section Pl
variable {p : Program} {l : Launch} {e : Env} {R : Room} {s : State} {m : MethodId} {args : Array Value} {below : List Frame} {meth : Method} {c : Code} {Q : State → Prop} {H : Heap} {locs : List Loc} {cells slots : Nat}
variable {cc : ByteArray} {pc : Nat} {ls : Array Slot} {rest : List Value}
theorem i32_nlt {x y : Int32} (h : ¬ x < y) : y ≤ x := Int32.not_lt.mp h
theorem sd_b1 (hexec : p.tables.exec = Jvm.exec) (hb : c.code = cc) {cd : Jvm.ClassFile.Cond} {x : Int32} {off : Int} {tgt : Nat} (hdg : decode cc pc = .ok (.ifCond cd off, 3)) (ht : (pc : Int) + off = (tgt : Int)) (kt : a_if1 cd x True False → W p l e R s m args below meth c H locs cells slots Q (F0 m tgt ls rest)) (kf : ¬ a_if1 cd x True False → W p l e R s m args below meth c H locs cells slots Q (F0 m (pc + 3) ls rest)) : W p l e R s m args below meth c H locs cells slots Q (F0 m pc ls (.int x :: rest)) := by
  cases cd with
  | eq => exact lv_if_eq hexec hb hdg ht (fun q => kt (by simp [a_if1, q])) (fun q => kf (by simp [a_if1, q]))
  | ne => exact lv_if_ne hexec hb hdg ht (fun q => kt (by simp [a_if1, q])) (fun q => kf (by simp [a_if1]; exact q))
  | lt => exact lv_if_lt hexec hb hdg ht (fun q => kt (by simp [a_if1, q])) (fun q => kf (by simp [a_if1, q]))
  | ge => exact lv_if_ge hexec hb hdg ht (fun q => kt (by simp [a_if1]; exact q)) (fun q => kf (by simp [a_if1]; exact Int32.not_le.mp q))
  | gt => exact lv_if_gt hexec hb hdg ht (fun q => kt (by simp [a_if1, q])) (fun q => kf (by simp [a_if1, q]))
  | le => exact lv_if_le hexec hb hdg ht (fun q => kt (by simp [a_if1]; exact q)) (fun q => kf (by simp [a_if1]; exact Int32.not_le.mp q))
theorem sd_b2 (hexec : p.tables.exec = Jvm.exec) (hb : c.code = cc) {cd : Jvm.ClassFile.Cond} {x y : Int32} {off : Int} {tgt : Nat} (hdg : decode cc pc = .ok (.if_icmp cd off, 3)) (ht : (pc : Int) + off = (tgt : Int)) (kt : a_if2 cd x y True False → W p l e R s m args below meth c H locs cells slots Q (F0 m tgt ls rest)) (kf : ¬ a_if2 cd x y True False → W p l e R s m args below meth c H locs cells slots Q (F0 m (pc + 3) ls rest)) : W p l e R s m args below meth c H locs cells slots Q (F0 m pc ls (.int y :: .int x :: rest)) := by
  cases cd with
  | eq => exact lv_icmp_eq hexec hb hdg ht (fun q => kt (by simp [a_if2, q])) (fun q => kf (by simp [a_if2, q]))
  | ne => exact lv_icmp_ne hexec hb hdg ht (fun q => kt (by simp [a_if2, q])) (fun q => kf (by simp [a_if2]; exact q))
  | lt => exact lv_icmp_lt hexec hb hdg ht (fun q => kt (by simp [a_if2, q])) (fun q => kf (by simp [a_if2, q]))
  | ge => exact lv_icmp_ge hexec hb hdg ht (fun q => kt (by simp [a_if2]; exact q)) (fun q => kf (by simp [a_if2]; exact Int32.not_le.mp q))
  | gt => exact lv_icmp_gt hexec hb hdg ht (fun q => kt (by simp [a_if2, q])) (fun q => kf (by simp [a_if2, q]))
  | le => exact lv_icmp_le hexec hb hdg ht (fun q => kt (by simp [a_if2]; exact q)) (fun q => kf (by simp [a_if2]; exact Int32.not_le.mp q))
end Pl
section Pm
variable {p : Program} {l : Launch} {e : Env} {R : Room} {s : State} {m : MethodId} {args : Array Value} {below : List Frame} {meth : Method} {c : Code} {Q : State → Prop}
variable {D : va_G} {B : Nat} {sp : Nat → Value} {cA : Nat → ClassId} {c0 n : Nat} {I : A3 Int32} {L : A3 Int64} {rf : A3 (Option AR)} {M : MT}
variable {ρ : Type} {O : AO ρ} {X : AX} {d : Nat} {call : ACall ρ} {k : ACont ρ} {pc : Nat} {ins : Instr} {aux : List Nat} {ls : List (Option AV)} {st : List AV} {σ : AS ρ} {res : Option AV × AS ρ} {P : AV → Prop}
set_option maxHeartbeats 4000000 in
theorem ains_plain (C : Cx p s m args meth c M) (hsp : ∀ k, isRV (sp k)) (hPi : ∀ x, P (.inl x)) (hPl : ∀ x, P (.inr (.inl x))) (hp : isPlain ins = true) (hd : decode M.2.1 pc = .ok (ins, ilen ins)) (ho : okP M pc ins aux) (hG : aG P M.2.2.1 ls st) (h : ains O X d call k pc ins aux ls st σ = some res)
    (hk : ∀ pc' ls' st', aG P M.2.2.1 ls' st' → k pc' ls' st' σ = some res → aW p l e R s m args below meth c Q D B sp cA M.2.2.1 c0 I L rf n pc' ls' st') : aW p l e R s m args below meth c Q D B sp cA M.2.2.1 c0 I L rf n pc ls st := by
  obtain ⟨hx, hb, hml, hown, hts, hr, hlk, hnm⟩ := C
  have hcat : ∀ k, (sp k).category = 1 := fun k => (hsp k).cat
  cases ins with
  | iconst v => intro H locs lsA h1 h2 h3 h4; exact lv_iconst hx hb hd ho (hk _ _ _ (hG.ps (hPi _)) h H locs lsA h1 h2 h3 h4)
  | bipush v => intro H locs lsA h1 h2 h3 h4; exact lv_bipush hx hb hd ho (hk _ _ _ (hG.ps (hPi _)) h H locs lsA h1 h2 h3 h4)
  | sipush v => intro H locs lsA h1 h2 h3 h4; exact lv_sipush hx hb hd ho (hk _ _ _ (hG.ps (hPi _)) h H locs lsA h1 h2 h3 h4)
  | lconst v => intro H locs lsA h1 h2 h3 h4; exact lv_lconst hx hb hd rfl (hk _ _ _ (hG.ps (hPl _)) h H locs lsA h1 h2 h3 h4)
  | iload_n i =>
    obtain ⟨x, e1, h⟩ := a_ild_inv h
    intro H locs lsA h1 h2 h3 h4
    exact lv_iload_n hx hb hd rfl (e_ls_get h4 e1) (hk _ _ _ (hG.ps (hPi _)) h H locs lsA h1 h2 h3 h4)
  | iload i =>
    obtain ⟨x, e1, h⟩ := a_ild_inv h
    intro H locs lsA h1 h2 h3 h4
    exact lv_iload hx hb hd (e_ls_get h4 e1) (hk _ _ _ (hG.ps (hPi _)) h H locs lsA h1 h2 h3 h4)
  | lload_n i =>
    obtain ⟨x, e1, h⟩ := a_lld_inv h
    intro H locs lsA h1 h2 h3 h4
    exact lv_lload_n hx hb hd rfl (e_ls_get h4 e1) (hk _ _ _ (hG.ps (hPl _)) h H locs lsA h1 h2 h3 h4)
  | lload i =>
    obtain ⟨x, e1, h⟩ := a_lld_inv h
    intro H locs lsA h1 h2 h3 h4
    exact lv_lload hx hb hd (e_ls_get h4 e1) (hk _ _ _ (hG.ps (hPl _)) h H locs lsA h1 h2 h3 h4)
  | aload_n i =>
    obtain ⟨x, e1, h⟩ := a_ald_inv h
    intro H locs lsA h1 h2 h3 h4
    exact sd_ald_n hx hb (e_v_ref hsp x) hd (e_ls_get h4 e1) (hk _ _ _ (hG.ps (hG.2.1 _ _ e1)) h H locs lsA h1 h2 h3 h4)
  | aload i =>
    obtain ⟨x, e1, h⟩ := a_ald_inv h
    intro H locs lsA h1 h2 h3 h4
    exact sd_ald hx hb (e_v_ref hsp x) hd (e_ls_get h4 e1) (hk _ _ _ (hG.ps (hG.2.1 _ _ e1)) h H locs lsA h1 h2 h3 h4)
  | istore_n i =>
    obtain ⟨x, r, rfl, hi, h⟩ := a_ist_inv h
    rw [hG.1] at hi
    intro H locs lsA h1 h2 h3 h4
    exact lv_istore_n hx hb hd rfl h4 hi rfl (fun ls' h5 => hk _ _ _ (hG.tl.st (hPi _)) h H locs ls' h1 h2 h3 (e_ls_st (v := .inl x) hcat h5))
  | istore i =>
    obtain ⟨x, r, rfl, hi, h⟩ := a_ist_inv h
    rw [hG.1] at hi
    intro H locs lsA h1 h2 h3 h4
    exact lv_istore hx hb hd h4 hi rfl (fun ls' h5 => hk _ _ _ (hG.tl.st (hPi _)) h H locs ls' h1 h2 h3 (e_ls_st (v := .inl x) hcat h5))
  | lstore_n i =>
    obtain ⟨x, r, rfl, hi, h⟩ := a_lst_inv h
    rw [hG.1] at hi
    intro H locs lsA h1 h2 h3 h4
    exact lv_lstore_n hx hb hd rfl h4 hi rfl (fun ls' h5 => hk _ _ _ (hG.tl.st2 (hPl _)) h H locs ls' h1 h2 h3 (e_ls_st2 (v := .inr (.inl x)) hcat h5))
  | lstore i =>
    obtain ⟨x, r, rfl, hi, h⟩ := a_lst_inv h
    rw [hG.1] at hi
    intro H locs lsA h1 h2 h3 h4
    exact lv_lstore hx hb hd h4 hi rfl (fun ls' h5 => hk _ _ _ (hG.tl.st2 (hPl _)) h H locs ls' h1 h2 h3 (e_ls_st2 (v := .inr (.inl x)) hcat h5))
  | astore_n i =>
    obtain ⟨x, r, rfl, hi, h⟩ := a_ast_inv h
    rw [hG.1] at hi
    intro H locs lsA h1 h2 h3 h4
    exact sd_ast_n hx hb (e_v_ref hsp x) hd h4 hi (fun ls' h5 => hk _ _ _ (hG.tl.st hG.hd) h H locs ls' h1 h2 h3 (e_ls_st (v := .inr (.inr x)) hcat h5))
  | astore i =>
    obtain ⟨x, r, rfl, hi, h⟩ := a_ast_inv h
    rw [hG.1] at hi
    intro H locs lsA h1 h2 h3 h4
    exact sd_ast hx hb (e_v_ref hsp x) hd h4 hi (fun ls' h5 => hk _ _ _ (hG.tl.st hG.hd) h H locs ls' h1 h2 h3 (e_ls_st (v := .inr (.inr x)) hcat h5))
  | iinc i v =>
    obtain ⟨x, e1, h⟩ := a_iinc_inv h
    intro H locs lsA h1 h2 h3 h4
    have hm := (e_ls_mem (B := B) (sp := sp) ls 0 (i, Value.int x)).mpr ⟨i, .inl x, e1, by rw [Nat.zero_add]; rfl⟩
    obtain ⟨q, hq⟩ := List.getElem?_of_mem hm
    have hi : i < M.2.2.1 := by rw [← hG.1]; exact (List.getElem?_eq_some_iff.mp e1).1
    exact lv_iinc hx hb hd h4 hq (by rw [ho]) hi rfl (fun ls' h5 => hk _ _ _ (hG.st (hPi _)) h H locs ls' h1 h2 h3 (e_ls_st (v := .inl (x + cI v)) hcat h5))
  | dup =>
    simp only [ains] at h
    split at h
    · intro H locs lsA h1 h2 h3 h4; exact lv_dup hx hb hd rfl (hk _ _ _ (hG.ps (hPi _)) h H locs lsA h1 h2 h3 h4)
    · intro H locs lsA h1 h2 h3 h4; exact lv_dup hx hb hd (e_v_ref hsp _).cat (hk _ _ _ (hG.ps hG.hd) h H locs lsA h1 h2 h3 h4)
    · cases h
  | dup2 =>
    simp only [ains] at h
    split at h
    · intro H locs lsA h1 h2 h3 h4; exact lv_dup2_11 hx hb hd rfl (e_v_ref hsp _).cat (hk _ _ _ ((hG.ps hG.tl.hd).ps (hPi _)) h H locs lsA h1 h2 h3 h4)
    · cases h
  | pop =>
    simp only [ains] at h
    split at h
    · intro H locs lsA h1 h2 h3 h4; exact lv_pop hx hb hd rfl (hk _ _ _ hG.tl h H locs lsA h1 h2 h3 h4)
    · intro H locs lsA h1 h2 h3 h4; exact lv_pop hx hb hd (e_v_ref hsp _).cat (hk _ _ _ hG.tl h H locs lsA h1 h2 h3 h4)
    · cases h
  | iadd => obtain ⟨x, y, r, rfl, h⟩ := a_i2_inv h; intro H locs lsA h1 h2 h3 h4; exact lv_iadd hx hb hd (hk _ _ _ (hG.tl.tl.ps (hPi _)) h H locs lsA h1 h2 h3 h4)
  | isub => obtain ⟨x, y, r, rfl, h⟩ := a_i2_inv h; intro H locs lsA h1 h2 h3 h4; exact lv_isub hx hb hd (hk _ _ _ (hG.tl.tl.ps (hPi _)) h H locs lsA h1 h2 h3 h4)
  | imul => obtain ⟨x, y, r, rfl, h⟩ := a_i2_inv h; intro H locs lsA h1 h2 h3 h4; exact lv_imul hx hb hd (hk _ _ _ (hG.tl.tl.ps (hPi _)) h H locs lsA h1 h2 h3 h4)
  | idiv => obtain ⟨x, y, r, rfl, hy, h⟩ := a_id_inv h; intro H locs lsA h1 h2 h3 h4; exact lv_idiv hx hb hd hy (hk _ _ _ (hG.tl.tl.ps (hPi _)) h H locs lsA h1 h2 h3 h4)
  | irem => obtain ⟨x, y, r, rfl, hy, h⟩ := a_id_inv h; intro H locs lsA h1 h2 h3 h4; exact lv_irem hx hb hd hy (hk _ _ _ (hG.tl.tl.ps (hPi _)) h H locs lsA h1 h2 h3 h4)
  | ineg => obtain ⟨x, r, rfl, h⟩ := a_i1_inv h; intro H locs lsA h1 h2 h3 h4; exact lv_ineg hx hb hd (hk _ _ _ (hG.tl.ps (hPi _)) h H locs lsA h1 h2 h3 h4)
  | iand => obtain ⟨x, y, r, rfl, h⟩ := a_i2_inv h; intro H locs lsA h1 h2 h3 h4; exact lv_iand hx hb hd (hk _ _ _ (hG.tl.tl.ps (hPi _)) h H locs lsA h1 h2 h3 h4)
  | ior => obtain ⟨x, y, r, rfl, h⟩ := a_i2_inv h; intro H locs lsA h1 h2 h3 h4; exact lv_ior hx hb hd (hk _ _ _ (hG.tl.tl.ps (hPi _)) h H locs lsA h1 h2 h3 h4)
  | ixor => obtain ⟨x, y, r, rfl, h⟩ := a_i2_inv h; intro H locs lsA h1 h2 h3 h4; exact lv_ixor hx hb hd (hk _ _ _ (hG.tl.tl.ps (hPi _)) h H locs lsA h1 h2 h3 h4)
  | ishl => obtain ⟨x, y, r, rfl, h⟩ := a_i2_inv h; intro H locs lsA h1 h2 h3 h4; exact lv_ishl hx hb hd (hk _ _ _ (hG.tl.tl.ps (hPi _)) h H locs lsA h1 h2 h3 h4)
  | ishr => obtain ⟨x, y, r, rfl, h⟩ := a_i2_inv h; intro H locs lsA h1 h2 h3 h4; exact lv_ishr hx hb hd (hk _ _ _ (hG.tl.tl.ps (hPi _)) h H locs lsA h1 h2 h3 h4)
  | iushr => obtain ⟨x, y, r, rfl, h⟩ := a_i2_inv h; intro H locs lsA h1 h2 h3 h4; exact lv_iushr hx hb hd rfl (hk _ _ _ (hG.tl.tl.ps (hPi _)) h H locs lsA h1 h2 h3 h4)
  | i2b => obtain ⟨x, r, rfl, h⟩ := a_i1_inv h; intro H locs lsA h1 h2 h3 h4; exact lv_i2b hx hb hd rfl (hk _ _ _ (hG.tl.ps (hPi _)) h H locs lsA h1 h2 h3 h4)
  | i2s => obtain ⟨x, r, rfl, h⟩ := a_i1_inv h; intro H locs lsA h1 h2 h3 h4; exact lv_i2s hx hb hd rfl (hk _ _ _ (hG.tl.ps (hPi _)) h H locs lsA h1 h2 h3 h4)
  | i2c => obtain ⟨x, r, rfl, h⟩ := a_i1_inv h; intro H locs lsA h1 h2 h3 h4; exact lv_i2c hx hb hd rfl (hk _ _ _ (hG.tl.ps (hPi _)) h H locs lsA h1 h2 h3 h4)
  | i2l =>
    simp only [ains] at h
    split at h
    · intro H locs lsA h1 h2 h3 h4; exact lv_i2l hx hb hd rfl (hk _ _ _ (hG.tl.ps (hPl _)) h H locs lsA h1 h2 h3 h4)
    · cases h
  | l2i =>
    simp only [ains] at h
    split at h
    · intro H locs lsA h1 h2 h3 h4; exact lv_l2i hx hb hd rfl (hk _ _ _ (hG.tl.ps (hPi _)) h H locs lsA h1 h2 h3 h4)
    · cases h
  | ladd => obtain ⟨x, y, r, rfl, h⟩ := a_l2_inv h; intro H locs lsA h1 h2 h3 h4; exact lv_ladd hx hb hd (hk _ _ _ (hG.tl.tl.ps (hPl _)) h H locs lsA h1 h2 h3 h4)
  | lmul => obtain ⟨x, y, r, rfl, h⟩ := a_l2_inv h; intro H locs lsA h1 h2 h3 h4; exact lv_lmul hx hb hd (hk _ _ _ (hG.tl.tl.ps (hPl _)) h H locs lsA h1 h2 h3 h4)
  | land => obtain ⟨x, y, r, rfl, h⟩ := a_l2_inv h; intro H locs lsA h1 h2 h3 h4; exact lv_land hx hb hd (hk _ _ _ (hG.tl.tl.ps (hPl _)) h H locs lsA h1 h2 h3 h4)
  | lor => obtain ⟨x, y, r, rfl, h⟩ := a_l2_inv h; intro H locs lsA h1 h2 h3 h4; exact lv_lor hx hb hd (hk _ _ _ (hG.tl.tl.ps (hPl _)) h H locs lsA h1 h2 h3 h4)
  | ldiv => obtain ⟨x, y, r, rfl, hy, h⟩ := a_ld_inv h; intro H locs lsA h1 h2 h3 h4; exact lv_ldiv hx hb hd hy (hk _ _ _ (hG.tl.tl.ps (hPl _)) h H locs lsA h1 h2 h3 h4)
  | lrem => obtain ⟨x, y, r, rfl, hy, h⟩ := a_ld_inv h; intro H locs lsA h1 h2 h3 h4; exact lv_lrem hx hb hd hy (hk _ _ _ (hG.tl.tl.ps (hPl _)) h H locs lsA h1 h2 h3 h4)
  | lshl => obtain ⟨x, y, r, rfl, h⟩ := a_lsh_inv h; intro H locs lsA h1 h2 h3 h4; exact lv_lshl hx hb hd rfl (hk _ _ _ (hG.tl.tl.ps (hPl _)) h H locs lsA h1 h2 h3 h4)
  | lshr => obtain ⟨x, y, r, rfl, h⟩ := a_lsh_inv h; intro H locs lsA h1 h2 h3 h4; exact lv_lshr hx hb hd rfl (hk _ _ _ (hG.tl.tl.ps (hPl _)) h H locs lsA h1 h2 h3 h4)
  | lcmp =>
    simp only [ains] at h
    split at h
    · intro H locs lsA h1 h2 h3 h4; exact W.lcmp hx hb hd (hk _ _ _ (hG.tl.tl.ps (hPi _)) h H locs lsA h1 h2 h3 h4)
    · cases h
  | ifCond cd off =>
    obtain ⟨t, ts, x, r, rfl, rfl, h⟩ := a_b1_inv h
    intro H locs lsA h1 h2 h3 h4
    rcases a_if1_inv h with ⟨q, h⟩ | ⟨q, h⟩
    · exact sd_b1 hx hb hd (ho t rfl) (fun _ => hk _ _ _ hG.tl h H locs lsA h1 h2 h3 h4) (fun q' => absurd q q')
    · exact sd_b1 hx hb hd (ho t rfl) (fun q' => absurd q' q) (fun _ => hk _ _ _ hG.tl h H locs lsA h1 h2 h3 h4)
  | if_icmp cd off =>
    obtain ⟨t, ts, x, y, r, rfl, rfl, h⟩ := a_b2_inv h
    intro H locs lsA h1 h2 h3 h4
    rcases a_if2_inv h with ⟨q, h⟩ | ⟨q, h⟩
    · exact sd_b2 hx hb hd (ho t rfl) (fun _ => hk _ _ _ hG.tl.tl h H locs lsA h1 h2 h3 h4) (fun q' => absurd q q')
    · exact sd_b2 hx hb hd (ho t rfl) (fun q' => absurd q' q) (fun _ => hk _ _ _ hG.tl.tl h H locs lsA h1 h2 h3 h4)
  | goto off =>
    simp only [ains] at h
    split at h
    · rename_i t ts
      intro H locs lsA h1 h2 h3 h4
      exact lv_goto hx hb hd (ho t rfl) (hk _ _ _ hG h H locs lsA h1 h2 h3 h4)
    · cases h
  | _ => cases hp
end Pm
