section Pu
variable {ρ : Type} {M : MT} {PGm : Nat → Option MT} {c0 : Nat}
variable {O : AO ρ} {Cn : ρ → Nat} {X : AX} {d : Nat} {call : ACall ρ} {k : ACont ρ} {pc : Nat} {ins : Instr} {aux : List Nat} {ls : List (Option AV)} {st : List AV} {σ : AS ρ} {res : Option AV × AS ρ}
/-- what is known of the calls, the machine aside -/
def aCp (PGm : Nat → Option MT) (O : AO ρ) (Cn : ρ → Nat) (call : ACall ρ) : Prop :=
  ∀ mi av σ1 o σ2 M', PGm mi = some M' → call mi av σ1 = some (o, σ2) → (∀ v ∈ av, vok (Cn σ1.2.2) v) → aWf (O.1 σ1.2.2) (Cn σ1.2.2) → Cn σ1.2.2 ≤ 284 → Cn σ1.2.2 ≤ Cn σ2.2.2 ∧ aF O Cn (o, σ2)
set_option maxHeartbeats 4000000 in
theorem ains_pure (hOL : OL O Cn) (hcl : aCp PGm O Cn call) (hok : okI PGm M pc ins aux) (hG : aG (vok (Cn σ.2.2)) M.2.2.1 ls st) (hWf : aWf (O.1 σ.2.2) (Cn σ.2.2)) (hc0 : c0 ≤ Cn σ.2.2) (hn : Cn σ.2.2 ≤ 284) (h : ains O X d call k pc ins aux ls st σ = some res)
    (hk : ∀ pc' ls' st' σ', aG (vok (Cn σ'.2.2)) M.2.2.1 ls' st' → aWf (O.1 σ'.2.2) (Cn σ'.2.2) → c0 ≤ Cn σ'.2.2 → Cn σ'.2.2 ≤ 284 → k pc' ls' st' σ' = some res → Cn σ'.2.2 ≤ Cn res.2.2.2 ∧ aF O Cn res) : Cn σ.2.2 ≤ Cn res.2.2.2 ∧ aF O Cn res := by
  by_cases hp : isPlain ins = true
  · have hok1 : decode M.2.1 pc = .ok (ins, ilen ins) ∧ okP M pc ins aux := by
      cases ins <;> first | exact ⟨hok.1, hok.2.1⟩ | exact absurd hp (fun q => by cases q)
    obtain ⟨pc', ls', st', hG', h'⟩ := ains_step (M := M) (P := vok (Cn σ.2.2)) (fun _ => trivial) (fun _ => trivial) hp hG h
    obtain ⟨m1, m2⟩ := hk pc' ls' st' σ hG' hWf hc0 hn h'
    exact ⟨m1, m2⟩
  · cases ins with
    | tableswitch df lo hi offs =>
      obtain ⟨⟨len, hd⟩, ho⟩ := hok
      simp only [ains] at h
      split at h
      · rename_i t ts x r
        rcases a_sw_inv ts lo h with ⟨i, T, h1, h2, h3⟩ | ⟨h1, h3⟩
        · obtain ⟨m1, m2⟩ := hk T ls r σ hG.tl hWf hc0 hn h3
          exact ⟨m1, m2⟩
        · obtain ⟨m1, m2⟩ := hk t ls r σ hG.tl hWf hc0 hn h3
          exact ⟨m1, m2⟩
      · cases h
    | ldc x =>
      obtain ⟨hd, -, o1, o2⟩ := hok
      simp only [ains] at h
      split at h
      · obtain ⟨m1, m2⟩ := hk _ _ _ σ (hG.ps vok_i) hWf hc0 hn h
        exact ⟨m1, m2⟩
      · obtain ⟨hl, h27⟩ := o2 _ _ rfl
        obtain ⟨m1, m2⟩ := hk _ _ _ σ (hG.ps (vok_s (Or.inl h27))) hWf hc0 hn h
        exact ⟨m1, m2⟩
      · cases h
    | ldc_w x =>
      obtain ⟨hd, -, o1⟩ := hok
      simp only [ains] at h
      split at h
      · obtain ⟨m1, m2⟩ := hk _ _ _ σ (hG.ps vok_i) hWf hc0 hn h
        exact ⟨m1, m2⟩
      · cases h
    | ldc2_w x =>
      obtain ⟨hd, -, o1⟩ := hok
      simp only [ains] at h
      split at h
      · obtain ⟨m1, m2⟩ := hk _ _ _ σ (hG.ps vok_l) hWf hc0 hn h
        exact ⟨m1, m2⟩
      · cases h
    | getstatic x =>
      obtain ⟨hd, -, o1, o2⟩ := hok
      simp only [ains] at h
      split at h
      · obtain ⟨rfl, hl⟩ := o1 _ _ rfl
        obtain ⟨m1, m2⟩ := hk _ _ _ σ (hG.ps vok_i) hWf hc0 hn h
        exact ⟨m1, m2⟩
      · rcases o2 _ _ rfl with ⟨rfl, hl⟩ | ⟨rfl, hl⟩ | ⟨rfl, hl⟩
        · obtain ⟨m1, m2⟩ := hk _ _ _ σ (hG.ps (vok_s (show spv 200 by unfold spv; omega))) hWf hc0 hn h
          exact ⟨m1, m2⟩
        · obtain ⟨m1, m2⟩ := hk _ _ _ σ (hG.ps (vok_s (show spv 201 by unfold spv; omega))) hWf hc0 hn h
          exact ⟨m1, m2⟩
        · obtain ⟨m1, m2⟩ := hk _ _ _ σ (hG.ps (vok_s (show spv 400 by unfold spv; omega))) hWf hc0 hn h
          exact ⟨m1, m2⟩
      · cases h
    | getfield x =>
      obtain ⟨hd, -, o1, o2, o3⟩ := hok
      rcases a_get_inv h with ⟨ci, j, f, i, r, u, rfl, rfl, hf, h⟩ | ⟨ci, j, f, i, r, u, rfl, rfl, hf, h⟩ | ⟨ci, j, f, i, r, u, rfl, rfl, hf, h⟩ | ⟨q, r, u, rfl, rfl, hq, h⟩ | ⟨q, r, u, rfl, rfl, hq, h⟩
      · obtain ⟨q, q1, q2, q3, q4⟩ := o1 _ _ _ _ rfl (by omega)
        obtain ⟨m1, m2⟩ := hk _ _ _ σ (hG.tl.ps vok_i) hWf hc0 hn h
        exact ⟨m1, m2⟩
      · obtain ⟨q, q1, q2, q3, q4⟩ := o1 _ _ _ _ rfl (by omega)
        obtain ⟨m1, m2⟩ := hk _ _ _ σ (hG.tl.ps vok_l) hWf hc0 hn h
        exact ⟨m1, m2⟩
      · obtain ⟨q, q1, q2, q3, q4⟩ := o1 _ _ _ _ rfl (by omega)
        have hal : alv (Cn σ.2.2) (f, i) := hG.hd
        obtain ⟨q', hq', hN⟩ := hal.obj hf
        cases q1.symm.trans hq'
        have hjf : j < fln f := by have hN : q.2.2 = fln f := hN; rw [← hN]; exact q2
        obtain ⟨m1, m2⟩ := hk _ _ _ σ (hG.tl.ps (hWf.val hal hjf)) hWf hc0 hn h
        exact ⟨m1, m2⟩
      · have hsq : spv q := hG.hd
        obtain ⟨m1, m2⟩ := hk _ _ _ σ (hG.tl.ps (vok_s (show spv (100 + q) by unfold spv at hsq ⊢; omega))) hWf hc0 hn h
        exact ⟨m1, m2⟩
      · obtain ⟨m1, m2⟩ := hk _ _ _ σ (hG.tl.ps vok_i) hWf hc0 hn h
        exact ⟨m1, m2⟩
    | iaload =>
      obtain ⟨hd, -, -⟩ := hok
      rcases a_iald_inv h with ⟨j, f, i, r, rfl, hf, hj, h⟩ | ⟨j, q, r, rfl, hq, hj, h⟩
      · obtain ⟨m1, m2⟩ := hk _ _ _ σ (hG.tl.tl.ps vok_i) hWf hc0 hn h
        exact ⟨m1, m2⟩
      · obtain ⟨m1, m2⟩ := hk _ _ _ σ (hG.tl.tl.ps vok_i) hWf hc0 hn h
        exact ⟨m1, m2⟩
    | baload =>
      obtain ⟨hd, -, -⟩ := hok
      rcases a_bald_inv h with ⟨j, f, i, r, rfl, hf, hj, h⟩ | ⟨j, q, r, rfl, hq, hj, h⟩
      · obtain ⟨m1, m2⟩ := hk _ _ _ σ (hG.tl.tl.ps vok_i) hWf hc0 hn h
        exact ⟨m1, m2⟩
      · obtain ⟨m1, m2⟩ := hk _ _ _ σ (hG.tl.tl.ps vok_i) hWf hc0 hn h
        exact ⟨m1, m2⟩
    | laload =>
      obtain ⟨hd, -, -⟩ := hok
      obtain ⟨j, f, i, r, rfl, hf, hj, h⟩ := a_lald_inv h
      obtain ⟨m1, m2⟩ := hk _ _ _ σ (hG.tl.tl.ps vok_l) hWf hc0 hn h
      exact ⟨m1, m2⟩
    | aaload =>
      obtain ⟨hd, -, -⟩ := hok
      obtain ⟨j, f, i, r, rfl, hf, hj, h⟩ := a_aald_inv h
      obtain ⟨m1, m2⟩ := hk _ _ _ σ (hG.tl.tl.ps (hWf.val hG.tl.hd (out_lt hj))) hWf hc0 hn h
      exact ⟨m1, m2⟩
    | arraylength =>
      obtain ⟨hd, -, -⟩ := hok
      rcases a_alen_inv h with ⟨f, i, r, rfl, hf, h⟩ | ⟨q, r, rfl, hq, h⟩
      · obtain ⟨m1, m2⟩ := hk _ _ _ σ (hG.tl.ps vok_i) hWf hc0 hn h
        exact ⟨m1, m2⟩
      · obtain ⟨m1, m2⟩ := hk _ _ _ σ (hG.tl.ps vok_i) hWf hc0 hn h
        exact ⟨m1, m2⟩
    | iastore =>
      obtain ⟨hd, -, -⟩ := hok
      obtain ⟨x, j, f, i, r, rfl, hf, hj, h⟩ := a_iast_inv h
      obtain ⟨m1, m2⟩ := hk _ _ _ (up3 σ.1 f i j.toNatClampNeg x, σ.2) hG.tl.tl.tl hWf hc0 hn h
      exact ⟨m1, m2⟩
    | bastore =>
      obtain ⟨hd, -, -⟩ := hok
      rcases a_bast_inv h with ⟨x, j, f, i, r, rfl, hf, hj, h⟩ | ⟨x, j, f, i, r, rfl, hf, hj, hx, h⟩
      · obtain ⟨m1, m2⟩ := hk _ _ _ (up3 σ.1 f i j.toNatClampNeg x.toInt8.toInt32, σ.2) hG.tl.tl.tl hWf hc0 hn h
        exact ⟨m1, m2⟩
      · obtain ⟨m1, m2⟩ := hk _ _ _ (up3 σ.1 f i j.toNatClampNeg x, σ.2) hG.tl.tl.tl hWf hc0 hn h
        exact ⟨m1, m2⟩
    | lastore =>
      obtain ⟨hd, -, -⟩ := hok
      obtain ⟨x, j, f, i, r, rfl, hf, hj, h⟩ := a_last_inv h
      obtain ⟨m1, m2⟩ := hk _ _ _ (σ.1, up3 σ.2.1 f i j.toNatClampNeg x, σ.2.2) hG.tl.tl.tl hWf hc0 hn h
      exact ⟨m1, m2⟩
    | putfield x =>
      obtain ⟨hd, -, o1⟩ := hok
      rcases a_put_inv h with ⟨ci, j, x, f, i, r, u, rfl, rfl, hf, h⟩ | ⟨ci, j, x, f, i, r, u, rfl, rfl, hf, hx, h⟩ | ⟨ci, j, x, f, i, r, u, rfl, rfl, hf, h⟩ | ⟨ci, j, v, f, i, r, u, w, rfl, rfl, hf, hw, h⟩
      · obtain ⟨q, q1, q2, q3, q4, q5⟩ := o1 _ _ _ _ rfl
        have q6 : fkd ci j = 0 ∧ tyC ci j = .int := by rcases q5 with ⟨z, a⟩ | ⟨z, a⟩ | ⟨z, a⟩ | ⟨z, a⟩ <;> first | exact a | omega
        obtain ⟨m1, m2⟩ := hk _ _ _ (up3 σ.1 f i j x, σ.2) hG.tl.tl hWf hc0 hn h
        exact ⟨m1, m2⟩
      · obtain ⟨q, q1, q2, q3, q4, q5⟩ := o1 _ _ _ _ rfl
        have q6 : fkd ci j = 0 ∧ tyC ci j = .boolean := by rcases q5 with ⟨z, a⟩ | ⟨z, a⟩ | ⟨z, a⟩ | ⟨z, a⟩ <;> first | exact a | omega
        obtain ⟨m1, m2⟩ := hk _ _ _ (up3 σ.1 f i j x, σ.2) hG.tl.tl hWf hc0 hn h
        exact ⟨m1, m2⟩
      · obtain ⟨q, q1, q2, q3, q4, q5⟩ := o1 _ _ _ _ rfl
        have q6 : fkd ci j = 1 ∧ tyC ci j = .long := by rcases q5 with ⟨z, a⟩ | ⟨z, a⟩ | ⟨z, a⟩ | ⟨z, a⟩ <;> first | exact a | omega
        obtain ⟨m1, m2⟩ := hk _ _ _ (σ.1, up3 σ.2.1 f i j x, σ.2.2) hG.tl.tl hWf hc0 hn h
        exact ⟨m1, m2⟩
      · obtain ⟨q, q1, q2, q3, q4, q5⟩ := o1 _ _ _ _ rfl
        have q6 : fkd ci j = 2 ∧ isRT (tyC ci j) := by rcases q5 with ⟨z, a⟩ | ⟨z, a⟩ | ⟨z, a⟩ | ⟨z, a⟩ <;> first | exact a | omega
        obtain ⟨w1, w2⟩ := hOL.1 _ _ _ _ _ _ hw
        have hWf' : aWf (O.1 w) (Cn w) := by rw [w1, w2]; exact hWf.up hG.hd
        obtain ⟨m1, m2⟩ := hk _ _ _ (σ.1, σ.2.1, w) (by show aG (vok (Cn w)) _ _ _; rw [w2]; exact hG.tl.tl) hWf' (by show c0 ≤ Cn w; omega) (by show Cn w ≤ 284; omega) h
        have m1 : Cn w ≤ Cn res.2.2.2 := m1
        exact ⟨by omega, m2⟩
    | aastore =>
      obtain ⟨hd, -, -⟩ := hok
      obtain ⟨g, g2, j, f, i, r, w, rfl, hf, hj, hw, h⟩ := a_aast_inv h
      obtain ⟨w1, w2⟩ := hOL.1 _ _ _ _ _ _ hw
      have hWf' : aWf (O.1 w) (Cn w) := by rw [w1, w2]; exact hWf.up hG.hd
      obtain ⟨m1, m2⟩ := hk _ _ _ (σ.1, σ.2.1, w) (by show aG (vok (Cn w)) _ _ _; rw [w2]; exact hG.tl.tl.tl) hWf' (by show c0 ≤ Cn w; omega) (by show Cn w ≤ 284; omega) h
      have m1 : Cn w ≤ Cn res.2.2.2 := m1
      exact ⟨by omega, m2⟩
    | ireturn =>
      obtain ⟨hd, -, o1, o2, o3, o4⟩ := hok
      simp only [ains] at h
      split at h
      · cases h; exact ⟨Nat.le_refl _, ⟨hn, hWf, fun v hv => by cases hv; trivial⟩⟩
      · split at h
        · rename_i hx
          cases h; exact ⟨Nat.le_refl _, ⟨hn, hWf, fun v hv => by cases hv; trivial⟩⟩
        · cases h
      · split at h
        · rename_i hx
          cases h; exact ⟨Nat.le_refl _, ⟨hn, hWf, fun v hv => by cases hv; trivial⟩⟩
        · cases h
      · split at h
        · rename_i hx
          cases h; exact ⟨Nat.le_refl _, ⟨hn, hWf, fun v hv => by cases hv; trivial⟩⟩
        · cases h
      · cases h
    | lreturn =>
      obtain ⟨hd, -, o1⟩ := hok
      simp only [ains] at h
      split at h
      · cases h; exact ⟨Nat.le_refl _, ⟨hn, hWf, fun v hv => by cases hv; trivial⟩⟩
      · cases h
    | areturn =>
      obtain ⟨hd, -, ty, o1, o2⟩ := hok
      simp only [ains] at h
      split at h
      · cases h; exact ⟨Nat.le_refl _, ⟨hn, hWf, fun v hv => by cases hv; exact hG.hd⟩⟩
      · cases h
    | return_ =>
      obtain ⟨hd, -, o1⟩ := hok
      simp only [ains] at h
      split at h
      · cases h; exact ⟨Nat.le_refl _, ⟨hn, hWf, fun v hv => by cases hv⟩⟩
      · cases h
    | new x =>
      obtain ⟨hd, -, o1⟩ := hok
      obtain ⟨ci, u, f, i, w, rfl, hw, hf, h⟩ := a_new_inv h
      obtain ⟨q, q1, q2, q3, q4⟩ := o1 _ _ rfl
      obtain ⟨w1, w2, w3, w4⟩ := hOL.2 _ _ _ hw
      have hWf' : aWf (O.1 w) (Cn w) := by rw [w4, w3]; exact hWf.grow w2 w1.symm
      have hal : alv (Cn w) (f, i) := by rw [w3, w1]; exact nm_alv w2
      have hG' : aG (vok (Cn w)) M.2.2.1 ls (.inr (.inr (.inl (some (f, i)))) :: st) := (hG.mono (fun v hv => vok.mono hv (by omega))).ps hal
      obtain ⟨m1, m2⟩ := hk _ _ _ (upR σ.1 f i (fun _ => 0), upR σ.2.1 f i (fun _ => 0), w) hG' hWf' (by show c0 ≤ Cn w; omega) (by show Cn w ≤ 284; omega) h
      have m1 : Cn w ≤ Cn res.2.2.2 := m1
      exact ⟨by omega, m2⟩
    | newarray a =>
      obtain ⟨hd, -, o1⟩ := hok
      obtain ⟨ty, u, n', r, f, i, w, rfl, rfl, hw, ⟨hf, rfl⟩, hcont⟩ := a_newa_inv h
      obtain ⟨q1, q2, q3, q4⟩ := o1 _ _ rfl
      obtain ⟨w1, w2, w3, w4⟩ := hOL.2 _ _ _ hw
      have hWf' : aWf (O.1 w) (Cn w) := by rw [w4, w3]; exact hWf.grow w2 w1.symm
      have hal : alv (Cn w) (f, i) := by rw [w3, w1]; exact nm_alv w2
      have hG' : aG (vok (Cn w)) M.2.2.1 ls (.inr (.inr (.inl (some (f, i)))) :: r) := (hG.tl.mono (fun v hv => vok.mono hv (by omega))).ps hal
      obtain ⟨m1, m2⟩ := hk _ _ _ (upR σ.1 f i (fun _ => 0), upR σ.2.1 f i (fun _ => 0), w) hG' hWf' (by show c0 ≤ Cn w; omega) (by show Cn w ≤ 284; omega) hcont
      have m1 : Cn w ≤ Cn res.2.2.2 := m1
      exact ⟨by omega, m2⟩
    | anewarray x =>
      obtain ⟨hd, -, o1⟩ := hok
      obtain ⟨ty, u, n', r, f, i, w, rfl, rfl, hw, ⟨hf, rfl⟩, hcont⟩ := a_newa_inv h
      obtain ⟨q1, q, q2, q3, q4⟩ := o1 _ _ rfl
      obtain ⟨w1, w2, w3, w4⟩ := hOL.2 _ _ _ hw
      have hWf' : aWf (O.1 w) (Cn w) := by rw [w4, w3]; exact hWf.grow w2 w1.symm
      have hal : alv (Cn w) (f, i) := by rw [w3, w1]; exact nm_alv w2
      have hG' : aG (vok (Cn w)) M.2.2.1 ls (.inr (.inr (.inl (some (f, i)))) :: r) := (hG.tl.mono (fun v hv => vok.mono hv (by omega))).ps hal
      obtain ⟨m1, m2⟩ := hk _ _ _ (upR σ.1 f i (fun _ => 0), upR σ.2.1 f i (fun _ => 0), w) hG' hWf' (by show c0 ≤ Cn w; omega) (by show Cn w ≤ 284; omega) hcont
      have m1 : Cn w ≤ Cn res.2.2.2 := m1
      exact ⟨by omega, m2⟩
    | invokestatic x =>
      obtain ⟨hd, -, o1, o2⟩ := hok
      simp only [ains] at h
      split at h
      · obtain ⟨l1, l2, l3, l4⟩ := o1 _ rfl
        split at h
        · cases h
        · rename_i d'
          obtain ⟨n', dp, g, g2, sp1, f, i, r, rfl, hcat, hrg, h⟩ := a_copy_inv h
          rcases h with ⟨hf, hg, h⟩ | ⟨hf, hg, h⟩
          · obtain ⟨m1, m2⟩ := hk _ _ _ (upR σ.1 g g2 (va_cpy (σ.1 f i) (σ.1 g g2) sp1.toNatClampNeg dp.toNatClampNeg n'.toNatClampNeg), σ.2) hG.tl.tl.tl.tl.tl hWf hc0 hn h
            exact ⟨m1, m2⟩
          · obtain ⟨m1, m2⟩ := hk _ _ _ (σ.1, upR σ.2.1 g g2 (va_cpy (σ.2.1 f i) (σ.2.1 g g2) sp1.toNatClampNeg dp.toNatClampNeg n'.toNatClampNeg), σ.2.2) hG.tl.tl.tl.tl.tl hWf hc0 hn h
            exact ⟨m1, m2⟩
      · rename_i hne
        obtain ⟨mi, n', rk, u, pre, r, o, σ1, rfl, rfl, hpl, hcat, hcall, hcont, -⟩ := a_inv_inv h
        obtain ⟨M', q1, q2, q3, q4⟩ := o2 _ _ _ _ rfl (fun e => hne _ (by rw [e]))
        obtain ⟨n1, f1⟩ := hcl _ _ _ _ _ _ q1 hcall hG.take hWf hn
        obtain ⟨m1, m2⟩ := hk _ _ _ σ1 (hG.drop.ret (fun v hv => hv.mono n1) f1.2.2) f1.2.1 (by omega) f1.1 hcont
        exact ⟨by omega, m2⟩
    | invokevirtual x =>
      obtain ⟨hd, -, o1⟩ := hok
      simp only [ains] at h
      split at h
      · rename_i hrcv
        obtain ⟨mi, n', rk, u, pre, r, o, σ1, rfl, rfl, hpl, hcat, hcall, hcont, -⟩ := a_inv_inv h
        obtain ⟨cl, u', rfl, hrc⟩ := rcv_inv hrcv
        obtain ⟨M', q1, q2, q3, q4, q5, q6, q7⟩ := o1 _ _ _ _ _ rfl
        obtain ⟨n1, f1⟩ := hcl _ _ _ _ _ _ q1 hcall hG.take hWf hn
        obtain ⟨m1, m2⟩ := hk _ _ _ σ1 (hG.drop.ret (fun v hv => hv.mono n1) f1.2.2) f1.2.1 (by omega) f1.1 hcont
        exact ⟨by omega, m2⟩
      · cases h
    | invokespecial x =>
      obtain ⟨hd, -, o1, o2⟩ := hok
      simp only [ains] at h
      split at h
      · obtain ⟨l1, l2, l3⟩ := o1 _ rfl
        split at h
        · rename_i d' q r
          split at h
          · rename_i hcat
            obtain ⟨m1, m2⟩ := hk _ _ _ σ hG.tl hWf hc0 hn h
            exact ⟨m1, m2⟩
          · cases h
        · cases h
      · rename_i hne
        split at h
        · rename_i hrcv
          obtain ⟨mi, n', rk, u, pre, r, o, σ1, rfl, rfl, hpl, hcat, hcall, hcont, -⟩ := a_inv_inv h
          obtain ⟨cl, u', rfl, hrc⟩ := rcv_inv hrcv
          obtain ⟨M', q1, q2, q3, q4, q5, q6, q7⟩ := o2 _ _ _ _ rfl (fun e => hne _ (by rw [e]))
          obtain ⟨n1, f1⟩ := hcl _ _ _ _ _ _ q1 hcall hG.take hWf hn
          obtain ⟨m1, m2⟩ := hk _ _ _ σ1 (hG.drop.ret (fun v hv => hv.mono n1) f1.2.2) f1.2.1 (by omega) f1.1 hcont
          exact ⟨by omega, m2⟩
        · cases h
    | _ => first | cases h | exact absurd rfl hp
end Pu
