section Mn
variable {ρ : Type}
/-- laws of the store of references, with its count of cells -/
def OL (O : AO ρ) (Cn : ρ → Nat) : Prop :=
  (∀ w f i j v w', O.2.1 w f i j v = some w' → O.1 w' = up3 (O.1 w) f i j v ∧ Cn w' = Cn w) ∧
  (∀ w x w', O.2.2 w = some (x, w') → x = nm (Cn w) ∧ Cn w < 284 ∧ Cn w' = Cn w + 1 ∧ O.1 w' = upR (O.1 w) x.1 x.2 (fun _ => none))
def aF (O : AO ρ) (Cn : ρ → Nat) (res : Option AV × AS ρ) : Prop := Cn res.2.2.2 ≤ 284 ∧ aWf (O.1 res.2.2.2) (Cn res.2.2.2) ∧ ∀ v, res.1 = some v → vok (Cn res.2.2.2) v
def aT (p : Program) (l : Launch) (e : Env) (R : Room) (s : State) (m : MethodId) (args : Array Value) (below : List Frame) (meth : Method) (c : Code) (D : va_G) (B : Nat) (spa : Nat → Nat) (v4 : Value) (cA : Nat → ClassId) (nL c0 : Nat) (O : AO ρ) (Cn : ρ → Nat) (res : Option AV × AS ρ) (pc : Nat) (ls : List (Option AV)) (st : List AV) (σ : AS ρ) : Prop :=
  Cn σ.2.2 ≤ Cn res.2.2.2 ∧ aF O Cn res ∧ aW p l e R s m args below meth c (MQ below (e_Q D B (e_sp spa v4) cA res.1 res.2.1 res.2.2.1 (O.1 res.2.2.2) (Cn res.2.2.2)) args s (Cn res.2.2.2 - c0) (e_sz (Cn res.2.2.2) - e_sz c0) (fun q => B ≤ q)) D B (e_sp spa v4) cA nL c0 σ.1 σ.2.1 (O.1 σ.2.2) (Cn σ.2.2) pc ls st
/-- what is known of the calls -/
def aCl (PGm : Nat → Option MT) (l : Launch) (D : va_G) (B : Nat) (X : AX) (spa : Nat → Nat) (v4 : Value) (cA : Nat → ClassId) (O : AO ρ) (Cn : ρ → Nat) (d : Nat) (call : ACall ρ) : Prop :=
  ∀ mi av σ1 o σ2 M', PGm mi = some M' → call mi av σ1 = some (o, σ2) → (∀ v ∈ av, vok (Cn σ1.2.2) v) → aWf (O.1 σ1.2.2) (Cn σ1.2.2) → Cn σ1.2.2 ≤ 284 →
    ∃ dd, d = dd + 1 ∧ Cn σ1.2.2 ≤ Cn σ2.2.2 ∧ aF O Cn (o, σ2) ∧ MetA (SPf B X spa v4) l D B (e_sp spa v4) cA M' dd av σ1.1 σ1.2.1 (O.1 σ1.2.2) (Cn σ1.2.2) o σ2.1 σ2.2.1 (O.1 σ2.2.2) (Cn σ2.2.2)
variable {p : Program} {l : Launch} {e : Env} {R : Room} {s : State} {m : MethodId} {args : Array Value} {below : List Frame} {meth : Method} {c : Code}
variable {D : va_G} {B : Nat} {spa : Nat → Nat} {v4 : Value} {cA : Nat → ClassId} {c0 : Nat} {M : MT} {PGm : Nat → Option MT}
variable {O : AO ρ} {Cn : ρ → Nat} {X : AX} {d : Nat} {call : ACall ρ} {k : ACont ρ} {pc : Nat} {ins : Instr} {aux : List Nat} {ls : List (Option AV)} {st : List AV} {σ : AS ρ} {res : Option AV × AS ρ}
theorem e_sp_rv (hv4 : isRV v4) (k : Nat) : isRV (e_sp spa v4 k) := by
  unfold e_sp
  split
  · exact hv4
  · exact Or.inr ⟨_, rfl⟩
theorem okCl.toC {M' : MT} {k dd : Nat} (h : okCl M' k) (hR : R.frames = d ∧ R.locals = 38 * d) (hd : d = dd + 1) : cOk M' R dd k := ⟨by omega, by rw [hR.2, hd], h.1, h.2.1, h.2.2.1, h.2.2.2⟩
theorem vok_i {n : Nat} {x : Int32} : vok n (.inl x) := trivial
theorem vok_l {n : Nat} {x : Int64} : vok n (.inr (.inl x)) := trivial
theorem vok_s {n k : Nat} (h : spv k) : vok n (.inr (.inr (.inr k))) := h
set_option maxHeartbeats 4000000 in
theorem ains_sound (C : Cx p s m args meth c M) (hU : uOk) (hK : va_K D vwCl (tysL cA) s) (hs0 : s.heap.size = B + c0) (hSP : SPf B X spa v4 s s.heap) (hv4 : isRV v4) (hOL : OL O Cn) (hR : R.frames = d ∧ R.locals = 38 * d) (hRc : R.cells = Cn res.2.2.2 - c0) (hRs : R.slots = e_sz (Cn res.2.2.2) - e_sz c0)
    (hcl : aCl PGm l D B X spa v4 cA O Cn d call) (hok : okI PGm M pc ins aux) (hG : aG (vok (Cn σ.2.2)) M.2.2.1 ls st) (hWf : aWf (O.1 σ.2.2) (Cn σ.2.2)) (hc0 : c0 ≤ Cn σ.2.2) (hn : Cn σ.2.2 ≤ 284) (h : ains O X d call k pc ins aux ls st σ = some res)
    (hk : ∀ pc' ls' st' σ', aG (vok (Cn σ'.2.2)) M.2.2.1 ls' st' → aWf (O.1 σ'.2.2) (Cn σ'.2.2) → c0 ≤ Cn σ'.2.2 → Cn σ'.2.2 ≤ 284 → k pc' ls' st' σ' = some res → aT p l e R s m args below meth c D B spa v4 cA M.2.2.1 c0 O Cn res pc' ls' st' σ') : aT p l e R s m args below meth c D B spa v4 cA M.2.2.1 c0 O Cn res pc ls st σ := by
  have hsp := e_sp_rv (spa := spa) hv4
  have hSPk : ∀ (H : Heap) (locs : List Loc) (U : State), va_S (fun q => B ≤ q) s.heap H locs → U.heap = H → s.WarmedH U.vm → SPf B X spa v4 U H := fun H locs U h1 h2 h3 => (hSP.kept h1.2.1).warm h3
  by_cases hp : isPlain ins = true
  · have hok1 : decode M.2.1 pc = .ok (ins, ilen ins) ∧ okP M pc ins aux := by
      cases ins <;> first | exact ⟨hok.1, hok.2.1⟩ | exact absurd hp (fun q => by cases q)
    obtain ⟨pc', ls', st', hG', h'⟩ := ains_step (M := M) (P := vok (Cn σ.2.2)) (fun _ => trivial) (fun _ => trivial) hp hG h
    obtain ⟨m1, m2, -⟩ := hk pc' ls' st' σ hG' hWf hc0 hn h'
    exact ⟨m1, m2, ains_plain C hsp (fun _ => trivial) (fun _ => trivial) hp hok1.1 hok1.2 hG h (fun pc' ls' st' hG' h' => (hk pc' ls' st' σ hG' hWf hc0 hn h').2.2)⟩
  · cases ins with
    | tableswitch df lo hi offs =>
      obtain ⟨⟨len, hd⟩, ho⟩ := hok
      simp only [ains] at h
      split at h
      · rename_i t ts x r
        rcases a_sw_inv ts lo h with ⟨i, T, h1, h2, h3⟩ | ⟨h1, h3⟩
        · obtain ⟨m1, m2, kk⟩ := hk T ls r σ hG.tl hWf hc0 hn h3
          exact ⟨m1, m2, sd_sw C hd ho (Or.inl ⟨i, h1, h2⟩) kk⟩
        · obtain ⟨m1, m2, kk⟩ := hk t ls r σ hG.tl hWf hc0 hn h3
          exact ⟨m1, m2, sd_sw C hd ho (Or.inr ⟨h1, rfl⟩) kk⟩
      · cases h
    | ldc x =>
      obtain ⟨hd, -, o1, o2⟩ := hok
      simp only [ains] at h
      split at h
      · obtain ⟨m1, m2, kk⟩ := hk _ _ _ σ (hG.ps vok_i) hWf hc0 hn h
        exact ⟨m1, m2, sd_ldc C (o1 _ _ rfl) hd kk⟩
      · obtain ⟨hl, h27⟩ := o2 _ _ rfl
        obtain ⟨m1, m2, kk⟩ := hk _ _ _ σ (hG.ps (vok_s (Or.inl h27))) hWf hc0 hn h
        exact ⟨m1, m2, sd_ldcS C hSP (by omega) hl hd kk⟩
      · cases h
    | ldc_w x =>
      obtain ⟨hd, -, o1⟩ := hok
      simp only [ains] at h
      split at h
      · obtain ⟨m1, m2, kk⟩ := hk _ _ _ σ (hG.ps vok_i) hWf hc0 hn h
        exact ⟨m1, m2, sd_ldcw C (o1 _ _ rfl) hd kk⟩
      · cases h
    | ldc2_w x =>
      obtain ⟨hd, -, o1⟩ := hok
      simp only [ains] at h
      split at h
      · obtain ⟨m1, m2, kk⟩ := hk _ _ _ σ (hG.ps vok_l) hWf hc0 hn h
        exact ⟨m1, m2, sd_ldc2 C (o1 _ _ rfl) hd kk⟩
      · cases h
    | getstatic x =>
      obtain ⟨hd, -, o1, o2⟩ := hok
      simp only [ains] at h
      split at h
      · obtain ⟨rfl, hl⟩ := o1 _ _ rfl
        obtain ⟨m1, m2, kk⟩ := hk _ _ _ σ (hG.ps vok_i) hWf hc0 hn h
        exact ⟨m1, m2, sd_gets (v := .inl (Int32.ofNat 1)) C hSP.2.2.2.2.2.2.1 hl hd kk⟩
      · rcases o2 _ _ rfl with ⟨rfl, hl⟩ | ⟨rfl, hl⟩ | ⟨rfl, hl⟩
        · obtain ⟨m1, m2, kk⟩ := hk _ _ _ σ (hG.ps (vok_s (show spv 200 by unfold spv; omega))) hWf hc0 hn h
          exact ⟨m1, m2, sd_gets (v := .inr (.inr (.inr 200))) C hSP.2.2.2.2.1 hl hd kk⟩
        · obtain ⟨m1, m2, kk⟩ := hk _ _ _ σ (hG.ps (vok_s (show spv 201 by unfold spv; omega))) hWf hc0 hn h
          exact ⟨m1, m2, sd_gets (v := .inr (.inr (.inr 201))) C hSP.2.2.2.2.2.1 hl hd kk⟩
        · obtain ⟨m1, m2, kk⟩ := hk _ _ _ σ (hG.ps (vok_s (show spv 400 by unfold spv; omega))) hWf hc0 hn h
          exact ⟨m1, m2, sd_gets (v := .inr (.inr (.inr 400))) C hSP.2.2.2.2.2.2.2.1 hl hd kk⟩
      · cases h
    | getfield x =>
      obtain ⟨hd, -, o1, o2, o3⟩ := hok
      rcases a_get_inv h with ⟨ci, j, f, i, r, u, rfl, rfl, hf, h⟩ | ⟨ci, j, f, i, r, u, rfl, rfl, hf, h⟩ | ⟨ci, j, f, i, r, u, rfl, rfl, hf, h⟩ | ⟨q, r, u, rfl, rfl, hq, h⟩ | ⟨q, r, u, rfl, rfl, hq, h⟩
      · obtain ⟨q, q1, q2, q3, q4⟩ := o1 _ _ _ _ rfl (by omega)
        obtain ⟨m1, m2, kk⟩ := hk _ _ _ σ (hG.tl.ps vok_i) hWf hc0 hn h
        exact ⟨m1, m2, sd_get C hU hK (v := .inl (σ.1 f i j)) hG.hd hf q1 q2 q3 hd (by rw [q4]; rfl) kk⟩
      · obtain ⟨q, q1, q2, q3, q4⟩ := o1 _ _ _ _ rfl (by omega)
        obtain ⟨m1, m2, kk⟩ := hk _ _ _ σ (hG.tl.ps vok_l) hWf hc0 hn h
        exact ⟨m1, m2, sd_get C hU hK (v := .inr (.inl (σ.2.1 f i j))) hG.hd hf q1 q2 q3 hd (by rw [q4]; rfl) kk⟩
      · obtain ⟨q, q1, q2, q3, q4⟩ := o1 _ _ _ _ rfl (by omega)
        have hal : alv (Cn σ.2.2) (f, i) := hG.hd
        obtain ⟨q', hq', hN⟩ := hal.obj hf
        cases q1.symm.trans hq'
        have hjf : j < fln f := by have hN : q.2.2 = fln f := hN; rw [← hN]; exact q2
        obtain ⟨m1, m2, kk⟩ := hk _ _ _ σ (hG.tl.ps (hWf.val hal hjf)) hWf hc0 hn h
        exact ⟨m1, m2, sd_get C hU hK (v := .inr (.inr (.inl (O.1 σ.2.2 f i j)))) hal hf q1 q2 q3 hd (by rw [q4]; rfl) kk⟩
      · have hsq : spv q := hG.hd
        obtain ⟨m1, m2, kk⟩ := hk _ _ _ σ (hG.tl.ps (vok_s (show spv (100 + q) by unfold spv at hsq ⊢; omega))) hWf hc0 hn h
        exact ⟨m1, m2, sd_sval C hSP hsq hq (o2 _ rfl) hd kk⟩
      · obtain ⟨m1, m2, kk⟩ := hk _ _ _ σ (hG.tl.ps vok_i) hWf hc0 hn h
        exact ⟨m1, m2, sd_scod C hSP hG.hd hq (o3 _ rfl) hd kk⟩
    | iaload =>
      obtain ⟨hd, -, -⟩ := hok
      rcases a_iald_inv h with ⟨j, f, i, r, rfl, hf, hj, h⟩ | ⟨j, q, r, rfl, hq, hj, h⟩
      · obtain ⟨m1, m2, kk⟩ := hk _ _ _ σ (hG.tl.tl.ps vok_i) hWf hc0 hn h
        exact ⟨m1, m2, sd_iald C hK hG.tl.hd hf hj hd kk⟩
      · obtain ⟨m1, m2, kk⟩ := hk _ _ _ σ (hG.tl.tl.ps vok_i) hWf hc0 hn h
        exact ⟨m1, m2, sd_spld C hSP hG.tl.hd hq.1 hq.2 hj hd kk⟩
    | baload =>
      obtain ⟨hd, -, -⟩ := hok
      rcases a_bald_inv h with ⟨j, f, i, r, rfl, hf, hj, h⟩ | ⟨j, q, r, rfl, hq, hj, h⟩
      · obtain ⟨m1, m2, kk⟩ := hk _ _ _ σ (hG.tl.tl.ps vok_i) hWf hc0 hn h
        exact ⟨m1, m2, sd_bald C hK hG.tl.hd hf hj hd kk⟩
      · obtain ⟨m1, m2, kk⟩ := hk _ _ _ σ (hG.tl.tl.ps vok_i) hWf hc0 hn h
        exact ⟨m1, m2, sd_sbld C hSP hG.tl.hd hq.1 hq.2 hj hd kk⟩
    | laload =>
      obtain ⟨hd, -, -⟩ := hok
      obtain ⟨j, f, i, r, rfl, hf, hj, h⟩ := a_lald_inv h
      obtain ⟨m1, m2, kk⟩ := hk _ _ _ σ (hG.tl.tl.ps vok_l) hWf hc0 hn h
      exact ⟨m1, m2, sd_lald C hK hG.tl.hd hf hj hd kk⟩
    | aaload =>
      obtain ⟨hd, -, -⟩ := hok
      obtain ⟨j, f, i, r, rfl, hf, hj, h⟩ := a_aald_inv h
      obtain ⟨m1, m2, kk⟩ := hk _ _ _ σ (hG.tl.tl.ps (hWf.val hG.tl.hd (out_lt hj))) hWf hc0 hn h
      exact ⟨m1, m2, sd_aald C hK hG.tl.hd hf hj hd kk⟩
    | arraylength =>
      obtain ⟨hd, -, -⟩ := hok
      rcases a_alen_inv h with ⟨f, i, r, rfl, hf, h⟩ | ⟨q, r, rfl, hq, h⟩
      · obtain ⟨m1, m2, kk⟩ := hk _ _ _ σ (hG.tl.ps vok_i) hWf hc0 hn h
        exact ⟨m1, m2, sd_alen C hK hG.hd hf hd kk⟩
      · obtain ⟨m1, m2, kk⟩ := hk _ _ _ σ (hG.tl.ps vok_i) hWf hc0 hn h
        exact ⟨m1, m2, sd_slen C hSP hG.hd hq.1 hq.2 hd kk⟩
    | iastore =>
      obtain ⟨hd, -, -⟩ := hok
      obtain ⟨x, j, f, i, r, rfl, hf, hj, h⟩ := a_iast_inv h
      obtain ⟨m1, m2, kk⟩ := hk _ _ _ (up3 σ.1 f i j.toNatClampNeg x, σ.2) hG.tl.tl.tl hWf hc0 hn h
      exact ⟨m1, m2, sd_iast C hK hs0 hc0 hn hG.tl.tl.hd hf hj hd kk⟩
    | bastore =>
      obtain ⟨hd, -, -⟩ := hok
      rcases a_bast_inv h with ⟨x, j, f, i, r, rfl, hf, hj, h⟩ | ⟨x, j, f, i, r, rfl, hf, hj, hx, h⟩
      · obtain ⟨m1, m2, kk⟩ := hk _ _ _ (up3 σ.1 f i j.toNatClampNeg x.toInt8.toInt32, σ.2) hG.tl.tl.tl hWf hc0 hn h
        exact ⟨m1, m2, sd_bast C hK hs0 hc0 hn hG.tl.tl.hd (Or.inl ⟨hf, rfl⟩) hj hd kk⟩
      · obtain ⟨m1, m2, kk⟩ := hk _ _ _ (up3 σ.1 f i j.toNatClampNeg x, σ.2) hG.tl.tl.tl hWf hc0 hn h
        exact ⟨m1, m2, sd_bast C hK hs0 hc0 hn hG.tl.tl.hd (Or.inr ⟨hf, hx, rfl⟩) hj hd kk⟩
    | lastore =>
      obtain ⟨hd, -, -⟩ := hok
      obtain ⟨x, j, f, i, r, rfl, hf, hj, h⟩ := a_last_inv h
      obtain ⟨m1, m2, kk⟩ := hk _ _ _ (σ.1, up3 σ.2.1 f i j.toNatClampNeg x, σ.2.2) hG.tl.tl.tl hWf hc0 hn h
      exact ⟨m1, m2, sd_last C hK hs0 hc0 hn hG.tl.tl.hd hf hj hd kk⟩
    | putfield x =>
      obtain ⟨hd, -, o1⟩ := hok
      rcases a_put_inv h with ⟨ci, j, x, f, i, r, u, rfl, rfl, hf, h⟩ | ⟨ci, j, x, f, i, r, u, rfl, rfl, hf, hx, h⟩ | ⟨ci, j, x, f, i, r, u, rfl, rfl, hf, h⟩ | ⟨ci, j, v, f, i, r, u, w, rfl, rfl, hf, hw, h⟩
      · obtain ⟨q, q1, q2, q3, q4, q5⟩ := o1 _ _ _ _ rfl
        have q6 : fkd ci j = 0 ∧ tyC ci j = .int := by rcases q5 with ⟨z, a⟩ | ⟨z, a⟩ | ⟨z, a⟩ | ⟨z, a⟩ <;> first | exact a | omega
        obtain ⟨m1, m2, kk⟩ := hk _ _ _ (up3 σ.1 f i j x, σ.2) hG.tl.tl hWf hc0 hn h
        exact ⟨m1, m2, sd_put C hU hK hs0 hc0 hn (v := .inl x) hG.tl.hd hf q1 q2 q3 hd q4 (by rw [q6.2]; rfl) (by rw [q6.2]; rfl) (by rw [q6.1, up3_row]; simp [e_v]) (fun q hq => ⟨by rw [up3_row]; simp [hq], rfl, rfl⟩) (fun y hy => ⟨up3_off σ.1 _ _ hy, rfl, rfl⟩) kk⟩
      · obtain ⟨q, q1, q2, q3, q4, q5⟩ := o1 _ _ _ _ rfl
        have q6 : fkd ci j = 0 ∧ tyC ci j = .boolean := by rcases q5 with ⟨z, a⟩ | ⟨z, a⟩ | ⟨z, a⟩ | ⟨z, a⟩ <;> first | exact a | omega
        obtain ⟨m1, m2, kk⟩ := hk _ _ _ (up3 σ.1 f i j x, σ.2) hG.tl.tl hWf hc0 hn h
        exact ⟨m1, m2, sd_put C hU hK hs0 hc0 hn (v := .inl x) hG.tl.hd hf q1 q2 q3 hd q4 (by rw [q6.2]; rcases hx with rfl | rfl <;> rfl) (by rw [q6.2]; rcases hx with rfl | rfl <;> rfl) (by rw [q6.1, up3_row]; simp [e_v]) (fun q hq => ⟨by rw [up3_row]; simp [hq], rfl, rfl⟩) (fun y hy => ⟨up3_off σ.1 _ _ hy, rfl, rfl⟩) kk⟩
      · obtain ⟨q, q1, q2, q3, q4, q5⟩ := o1 _ _ _ _ rfl
        have q6 : fkd ci j = 1 ∧ tyC ci j = .long := by rcases q5 with ⟨z, a⟩ | ⟨z, a⟩ | ⟨z, a⟩ | ⟨z, a⟩ <;> first | exact a | omega
        obtain ⟨m1, m2, kk⟩ := hk _ _ _ (σ.1, up3 σ.2.1 f i j x, σ.2.2) hG.tl.tl hWf hc0 hn h
        exact ⟨m1, m2, sd_put C hU hK hs0 hc0 hn (v := .inr (.inl x)) hG.tl.hd hf q1 q2 q3 hd q4 (by rw [q6.2]; rfl) (by rw [q6.2]; rfl) (by rw [q6.1, up3_row]; simp [e_v]) (fun q hq => ⟨rfl, by rw [up3_row]; simp [hq], rfl⟩) (fun y hy => ⟨rfl, up3_off σ.2.1 _ _ hy, rfl⟩) kk⟩
      · obtain ⟨q, q1, q2, q3, q4, q5⟩ := o1 _ _ _ _ rfl
        have q6 : fkd ci j = 2 ∧ isRT (tyC ci j) := by rcases q5 with ⟨z, a⟩ | ⟨z, a⟩ | ⟨z, a⟩ | ⟨z, a⟩ <;> first | exact a | omega
        obtain ⟨w1, w2⟩ := hOL.1 _ _ _ _ _ _ hw
        have hWf' : aWf (O.1 w) (Cn w) := by rw [w1, w2]; exact hWf.up hG.hd
        obtain ⟨m1, m2, kk⟩ := hk _ _ _ (σ.1, σ.2.1, w) (by show aG (vok (Cn w)) _ _ _; rw [w2]; exact hG.tl.tl) hWf' (by show c0 ≤ Cn w; omega) (by show Cn w ≤ 284; omega) h
        have m1 : Cn w ≤ Cn res.2.2.2 := m1
        have kk : aW p l e R s m args below meth c _ D B (e_sp spa v4) cA M.2.2.1 c0 σ.1 σ.2.1 (O.1 w) (Cn w) (pc + 3) ls r := kk
        rw [w1, w2] at kk
        exact ⟨by omega, m2, sd_put C hU hK hs0 hc0 hn (v := .inr (.inr (.inl v))) hG.tl.hd hf q1 q2 q3 hd q4 (by rcases q6.2 with ⟨z, hz⟩ | ⟨z, hz⟩ <;> rw [hz] <;> cases v <;> rfl) (by rcases q6.2 with ⟨z, hz⟩ | ⟨z, hz⟩ <;> rw [hz] <;> cases v <;> rfl) (by rw [q6.1, up3_row]; simp [e_v]) (fun q hq => ⟨rfl, rfl, by rw [up3_row]; simp [hq]⟩) (fun y hy => ⟨rfl, rfl, up3_off (O.1 σ.2.2) _ _ hy⟩) kk⟩
    | aastore =>
      obtain ⟨hd, -, -⟩ := hok
      obtain ⟨g, g2, j, f, i, r, w, rfl, hf, hj, hw, h⟩ := a_aast_inv h
      obtain ⟨w1, w2⟩ := hOL.1 _ _ _ _ _ _ hw
      have hWf' : aWf (O.1 w) (Cn w) := by rw [w1, w2]; exact hWf.up hG.hd
      obtain ⟨m1, m2, kk⟩ := hk _ _ _ (σ.1, σ.2.1, w) (by show aG (vok (Cn w)) _ _ _; rw [w2]; exact hG.tl.tl.tl) hWf' (by show c0 ≤ Cn w; omega) (by show Cn w ≤ 284; omega) h
      have m1 : Cn w ≤ Cn res.2.2.2 := m1
      have kk : aW p l e R s m args below meth c _ D B (e_sp spa v4) cA M.2.2.1 c0 σ.1 σ.2.1 (O.1 w) (Cn w) (pc + 1) ls r := kk
      rw [w1, w2] at kk
      exact ⟨by omega, m2, sd_aast C hK hs0 hc0 hn hG.tl.tl.hd hG.hd hf hj hd kk⟩
    | ireturn =>
      obtain ⟨hd, -, o1, o2, o3, o4⟩ := hok
      simp only [ains] at h
      split at h
      · cases h; exact ⟨Nat.le_refl _, ⟨hn, hWf, fun v hv => by cases hv; trivial⟩, sd_iret C hK (o1 _ rfl) rfl hd⟩
      · split at h
        · rename_i hx
          cases h; exact ⟨Nat.le_refl _, ⟨hn, hWf, fun v hv => by cases hv; trivial⟩, sd_iret C hK (o2 _ rfl) (by rcases hx with rfl | rfl <;> rfl) hd⟩
        · cases h
      · split at h
        · rename_i hx
          cases h; exact ⟨Nat.le_refl _, ⟨hn, hWf, fun v hv => by cases hv; trivial⟩, sd_iret C hK (o3 _ rfl) (by rw [← hx]; exact pk_nb _) hd⟩
        · cases h
      · split at h
        · rename_i hx
          cases h; exact ⟨Nat.le_refl _, ⟨hn, hWf, fun v hv => by cases hv; trivial⟩, sd_iret C hK (o4 _ rfl) (by rw [← hx]; exact pk_nc _) hd⟩
        · cases h
      · cases h
    | lreturn =>
      obtain ⟨hd, -, o1⟩ := hok
      simp only [ains] at h
      split at h
      · cases h; exact ⟨Nat.le_refl _, ⟨hn, hWf, fun v hv => by cases hv; trivial⟩, sd_lret C hK o1 hd⟩
      · cases h
    | areturn =>
      obtain ⟨hd, -, ty, o1, o2⟩ := hok
      simp only [ains] at h
      split at h
      · cases h; exact ⟨Nat.le_refl _, ⟨hn, hWf, fun v hv => by cases hv; exact hG.hd⟩, sd_aret C hK o1 o2 (e_v_ref hsp _) hd⟩
      · cases h
    | return_ =>
      obtain ⟨hd, -, o1⟩ := hok
      simp only [ains] at h
      split at h
      · cases h; exact ⟨Nat.le_refl _, ⟨hn, hWf, fun v hv => by cases hv⟩, sd_vret C hK o1 hd⟩
      · cases h
    | _ => sorry
end Mn
