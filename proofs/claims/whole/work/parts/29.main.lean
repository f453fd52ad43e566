section Mn
variable {ρ : Type}
/-- laws of the store of references, with its count of cells -/
def OL (O : AO ρ) (Cn : ρ → Nat) : Prop :=
  (∀ w f i j v w', O.2.1 w f i j v = some w' → O.1 w' = up3 (O.1 w) f i j v ∧ Cn w' = Cn w) ∧
  (∀ w x w', O.2.2 w = some (x, w') → x = nm (Cn w) ∧ Cn w < 284 ∧ Cn w' = Cn w + 1 ∧ O.1 w' = upR (O.1 w) x.1 x.2 (fun _ => none))
def aF (O : AO ρ) (Cn : ρ → Nat) (res : Option AV × AS ρ) : Prop := Cn res.2.2.2 ≤ 284 ∧ aWf (O.1 res.2.2.2) (Cn res.2.2.2) ∧ ∀ v, res.1 = some v → vok (Cn res.2.2.2) v
def aT (p : Program) (l : Launch) (e : Env) (R : Room) (s : State) (m : MethodId) (args : Array Value) (below : List Frame) (meth : Method) (c : Code) (D : va_G) (B : Nat) (spa : Nat → Nat) (v4 : Value) (cA : Nat → ClassId) (nL c0 : Nat) (O : AO ρ) (Cn : ρ → Nat) (res : Option AV × AS ρ) (pc : Nat) (ls : List (Option AV)) (st : List AV) (σ : AS ρ) : Prop :=
  Cn σ.2.2 ≤ Cn res.2.2.2 ∧ aF O Cn res ∧ aW p l e R s m args below meth c (MQ below (e_Q D B (e_sp spa v4) cA res.1 res.2.1 res.2.2.1 (O.1 res.2.2.2) (Cn res.2.2.2)) args s (Cn res.2.2.2 - c0) (e_sz (Cn res.2.2.2) - e_sz c0) (fun q => B ≤ q)) D B (e_sp spa v4) cA nL c0 σ.1 σ.2.1 (O.1 σ.2.2) (Cn σ.2.2) pc ls st
/-- what is known of the calls -/
def aCl (PGm : Nat → Option MT) (l : Launch) (D : va_G) (B : Nat) (X : AX) (spa : Nat → Nat) (v4 : Value) (cA : Nat → ClassId) (O : AO ρ) (Cn : ρ → Nat) (d : Nat) (call : ACall ρ) : Prop :=
  ∀ mi av σ1 o σ2 M', PGm mi = some M' → call mi av σ1 = some (o, σ2) → (∀ v ∈ av, vok (Cn σ1.2.2) v) → aWf (O.1 σ1.2.2) (Cn σ1.2.2) → Cn σ1.2.2 ≤ 284 →
    ∃ dd, d = dd + 1 ∧ Cn σ1.2.2 ≤ Cn σ2.2.2 ∧ aF O Cn (o, σ2) ∧ MetA (SPf B X spa v4) l D B (e_sp spa v4) cA M' dd av σ1.1 σ1.2.1 (O.1 σ1.2.2) (Cn σ1.2.2) o σ2.1 σ2.2.1 (O.1 σ2.2.2) (Cn σ2.2.2)
variable {p : Program} {l : Launch} {e : Env} {R : Room} {s : State} {m : MethodId} {args : Array Value} {below : List Frame} {meth : Method} {c : Code}
variable {D : va_G} {B : Nat} {spa : Nat → Nat} {v4 : Value} {cA : Nat → ClassId} {c0 : Nat} {M : MT} {PGm : Nat → Option MT}
variable {O : AO ρ} {Cn : ρ → Nat} {X : AX} {d : Nat} {call : ACall ρ} {k : ACont ρ} {pc : Nat} {ins : Instr} {aux : List Nat} {ls : List (Option AV)} {st : List AV} {σ : AS ρ} {res : Option AV × AS ρ}
theorem e_sp_rv (hv4 : isRV v4) (k : Nat) : isRV (e_sp spa v4 k) := by
  unfold e_sp
  split
  · exact hv4
  · exact Or.inr ⟨_, rfl⟩
theorem okCl.toC {M' : MT} {k dd : Nat} (h : okCl M' k) (hR : R.frames = d ∧ R.locals = 38 * d) (hd : d = dd + 1) : cOk M' R dd k := ⟨by omega, by rw [hR.2, hd], h.1, h.2.1, h.2.2.1, h.2.2.2⟩
theorem vok_i {n : Nat} {x : Int32} : vok n (.inl x) := trivial
theorem vok_l {n : Nat} {x : Int64} : vok n (.inr (.inl x)) := trivial
theorem vok_s {n k : Nat} (h : spv k) : vok n (.inr (.inr (.inr k))) := h
theorem rcv_inv {mi n rk : Nat} {u : List Nat} {st : List AV} (h : a_rcv (mi :: n :: rk :: u) st = true) : ∃ cl u', u = cl :: u' ∧ ((∃ f i, st[n - 1]? = some (.inr (.inr (.inl (some (f, i))))) ∧ fob f = cl) ∨ (∃ q, st[n - 1]? = some (.inr (.inr (.inr q))) ∧ cl = 101 ∧ q < 100)) := by
  cases u with
  | nil => cases h
  | cons cl u' =>
    refine ⟨cl, u', rfl, ?_⟩
    have h : (match st[n - 1]? with
      | some (.inr (.inr (.inl (some (f, _))))) => fob f == cl
      | some (.inr (.inr (.inr q))) => cl == 101 && decide (q < 100)
      | _ => false) = true := h
    split at h
    · rename_i f i he
      exact Or.inl ⟨f, i, he, by simpa using h⟩
    · rename_i q he
      simp only [Bool.and_eq_true, beq_iff_eq, decide_eq_true_eq] at h
      exact Or.inr ⟨q, he, h.1, h.2⟩
    · cases h
theorem split_rc {pre r : List AV} {n : Nat} (hp : pre.length = n) (hn : 0 < n) : ∃ rc av, pre.reverse = rc :: av ∧ pre ++ r = av.reverse ++ rc :: r ∧ (pre ++ r)[n - 1]? = some rc ∧ av.length = n - 1 := by
  cases h : pre.reverse with
  | nil =>
    have h1 := congrArg List.length h
    rw [List.length_reverse] at h1
    simp at h1
    rw [h1] at hp
    simp at hp
    omega
  | cons rc av =>
    have h1 : pre = av.reverse ++ [rc] := by
      have := congrArg List.reverse h
      rwa [List.reverse_reverse, List.reverse_cons] at this
    have h2 : av.length = n - 1 := by
      rw [h1, List.length_append, List.length_reverse] at hp
      simp at hp
      omega
    refine ⟨rc, av, rfl, by rw [h1, List.append_assoc]; rfl, ?_, h2⟩
    rw [h1, List.append_assoc, ← h2]
    rw [List.getElem?_append_right (by rw [List.length_reverse]; exact Nat.le_refl _), List.length_reverse, Nat.sub_self]
    rfl
theorem aG.ret {P P' : AV → Prop} {n : Nat} {ls : List (Option AV)} {r : List AV} {o : Option AV} (h : aG P n ls r) (hP : ∀ v, P v → P' v) (ho : ∀ v, o = some v → P' v) : aG P' n ls (o.toList ++ r) := by
  have h1 := h.mono hP
  cases o with
  | none => exact h1
  | some v => exact h1.ps (ho v rfl)
theorem aG.take {P : AV → Prop} {n : Nat} {ls : List (Option AV)} {pre r : List AV} (h : aG P n ls (pre ++ r)) : ∀ v ∈ pre.reverse, P v := fun v hv => h.2.2 v (List.mem_append_left _ (List.mem_reverse.mp hv))
set_option maxHeartbeats 4000000 in
theorem ains_sound (C : Cx p s m args meth c M) (hU : uOk) (hK : va_K D vwCl (tysL cA) s) (hs0 : s.heap.size = B + c0) (hSP : SPf B X spa v4 s s.heap) (hv4 : isRV v4) (hOL : OL O Cn) (hR : R.frames = d ∧ R.locals = 38 * d) (hRc : R.cells = Cn res.2.2.2 - c0) (hRs : R.slots = e_sz (Cn res.2.2.2) - e_sz c0)
    (hcl : aCl PGm l D B X spa v4 cA O Cn d call) (hok : okI PGm M pc ins aux) (hG : aG (vok (Cn σ.2.2)) M.2.2.1 ls st) (hWf : aWf (O.1 σ.2.2) (Cn σ.2.2)) (hc0 : c0 ≤ Cn σ.2.2) (hn : Cn σ.2.2 ≤ 284) (h : ains O X d call k pc ins aux ls st σ = some res)
    (hk : ∀ pc' ls' st' σ', aG (vok (Cn σ'.2.2)) M.2.2.1 ls' st' → aWf (O.1 σ'.2.2) (Cn σ'.2.2) → c0 ≤ Cn σ'.2.2 → Cn σ'.2.2 ≤ 284 → k pc' ls' st' σ' = some res → aT p l e R s m args below meth c D B spa v4 cA M.2.2.1 c0 O Cn res pc' ls' st' σ') : aT p l e R s m args below meth c D B spa v4 cA M.2.2.1 c0 O Cn res pc ls st σ := by
  have hsp := e_sp_rv (spa := spa) hv4
  have hSPk : ∀ (H : Heap) (locs : List Loc) (U : State), va_S (fun q => B ≤ q) s.heap H locs → U.heap = H → s.WarmedH U.vm → SPf B X spa v4 U H := fun H locs U h1 h2 h3 => (hSP.kept h1.2.1).warm h3
  by_cases hp : isPlain ins = true
  · have hok1 : decode M.2.1 pc = .ok (ins, ilen ins) ∧ okP M pc ins aux := by
      cases ins <;> first | exact ⟨hok.1, hok.2.1⟩ | exact absurd hp (fun q => by cases q)
    obtain ⟨pc', ls', st', hG', h'⟩ := ains_step (M := M) (P := vok (Cn σ.2.2)) (fun _ => trivial) (fun _ => trivial) hp hG h
    obtain ⟨m1, m2, -⟩ := hk pc' ls' st' σ hG' hWf hc0 hn h'
    exact ⟨m1, m2, ains_plain C hsp (fun _ => trivial) (fun _ => trivial) hp hok1.1 hok1.2 hG h (fun pc' ls' st' hG' h' => (hk pc' ls' st' σ hG' hWf hc0 hn h').2.2)⟩
  · cases ins with
    | tableswitch df lo hi offs =>
      obtain ⟨⟨len, hd⟩, ho⟩ := hok
      simp only [ains] at h
      split at h
      · rename_i t ts x r
        rcases a_sw_inv ts lo h with ⟨i, T, h1, h2, h3⟩ | ⟨h1, h3⟩
        · obtain ⟨m1, m2, kk⟩ := hk T ls r σ hG.tl hWf hc0 hn h3
          exact ⟨m1, m2, sd_sw C hd ho (Or.inl ⟨i, h1, h2⟩) kk⟩
        · obtain ⟨m1, m2, kk⟩ := hk t ls r σ hG.tl hWf hc0 hn h3
          exact ⟨m1, m2, sd_sw C hd ho (Or.inr ⟨h1, rfl⟩) kk⟩
      · cases h
    | ldc x =>
      obtain ⟨hd, -, o1, o2⟩ := hok
      simp only [ains] at h
      split at h
      · obtain ⟨m1, m2, kk⟩ := hk _ _ _ σ (hG.ps vok_i) hWf hc0 hn h
        exact ⟨m1, m2, sd_ldc C (o1 _ _ rfl) hd kk⟩
      · obtain ⟨hl, h27⟩ := o2 _ _ rfl
        obtain ⟨m1, m2, kk⟩ := hk _ _ _ σ (hG.ps (vok_s (Or.inl h27))) hWf hc0 hn h
        exact ⟨m1, m2, sd_ldcS C hSP (by omega) hl hd kk⟩
      · cases h
    | ldc_w x =>
      obtain ⟨hd, -, o1⟩ := hok
      simp only [ains] at h
      split at h
      · obtain ⟨m1, m2, kk⟩ := hk _ _ _ σ (hG.ps vok_i) hWf hc0 hn h
        exact ⟨m1, m2, sd_ldcw C (o1 _ _ rfl) hd kk⟩
      · cases h
    | ldc2_w x =>
      obtain ⟨hd, -, o1⟩ := hok
      simp only [ains] at h
      split at h
      · obtain ⟨m1, m2, kk⟩ := hk _ _ _ σ (hG.ps vok_l) hWf hc0 hn h
        exact ⟨m1, m2, sd_ldc2 C (o1 _ _ rfl) hd kk⟩
      · cases h
    | getstatic x =>
      obtain ⟨hd, -, o1, o2⟩ := hok
      simp only [ains] at h
      split at h
      · obtain ⟨rfl, hl⟩ := o1 _ _ rfl
        obtain ⟨m1, m2, kk⟩ := hk _ _ _ σ (hG.ps vok_i) hWf hc0 hn h
        exact ⟨m1, m2, sd_gets (v := .inl (Int32.ofNat 1)) C hSP.2.2.2.2.2.2.1 hl hd kk⟩
      · rcases o2 _ _ rfl with ⟨rfl, hl⟩ | ⟨rfl, hl⟩ | ⟨rfl, hl⟩
        · obtain ⟨m1, m2, kk⟩ := hk _ _ _ σ (hG.ps (vok_s (show spv 200 by unfold spv; omega))) hWf hc0 hn h
          exact ⟨m1, m2, sd_gets (v := .inr (.inr (.inr 200))) C hSP.2.2.2.2.1 hl hd kk⟩
        · obtain ⟨m1, m2, kk⟩ := hk _ _ _ σ (hG.ps (vok_s (show spv 201 by unfold spv; omega))) hWf hc0 hn h
          exact ⟨m1, m2, sd_gets (v := .inr (.inr (.inr 201))) C hSP.2.2.2.2.2.1 hl hd kk⟩
        · obtain ⟨m1, m2, kk⟩ := hk _ _ _ σ (hG.ps (vok_s (show spv 400 by unfold spv; omega))) hWf hc0 hn h
          exact ⟨m1, m2, sd_gets (v := .inr (.inr (.inr 400))) C hSP.2.2.2.2.2.2.2.1 hl hd kk⟩
      · cases h
    | getfield x =>
      obtain ⟨hd, -, o1, o2, o3⟩ := hok
      rcases a_get_inv h with ⟨ci, j, f, i, r, u, rfl, rfl, hf, h⟩ | ⟨ci, j, f, i, r, u, rfl, rfl, hf, h⟩ | ⟨ci, j, f, i, r, u, rfl, rfl, hf, h⟩ | ⟨q, r, u, rfl, rfl, hq, h⟩ | ⟨q, r, u, rfl, rfl, hq, h⟩
      · obtain ⟨q, q1, q2, q3, q4⟩ := o1 _ _ _ _ rfl (by omega)
        obtain ⟨m1, m2, kk⟩ := hk _ _ _ σ (hG.tl.ps vok_i) hWf hc0 hn h
        exact ⟨m1, m2, sd_get C hU hK (v := .inl (σ.1 f i j)) hG.hd hf q1 q2 q3 hd (by rw [q4]; rfl) kk⟩
      · obtain ⟨q, q1, q2, q3, q4⟩ := o1 _ _ _ _ rfl (by omega)
        obtain ⟨m1, m2, kk⟩ := hk _ _ _ σ (hG.tl.ps vok_l) hWf hc0 hn h
        exact ⟨m1, m2, sd_get C hU hK (v := .inr (.inl (σ.2.1 f i j))) hG.hd hf q1 q2 q3 hd (by rw [q4]; rfl) kk⟩
      · obtain ⟨q, q1, q2, q3, q4⟩ := o1 _ _ _ _ rfl (by omega)
        have hal : alv (Cn σ.2.2) (f, i) := hG.hd
        obtain ⟨q', hq', hN⟩ := hal.obj hf
        cases q1.symm.trans hq'
        have hjf : j < fln f := by have hN : q.2.2 = fln f := hN; rw [← hN]; exact q2
        obtain ⟨m1, m2, kk⟩ := hk _ _ _ σ (hG.tl.ps (hWf.val hal hjf)) hWf hc0 hn h
        exact ⟨m1, m2, sd_get C hU hK (v := .inr (.inr (.inl (O.1 σ.2.2 f i j)))) hal hf q1 q2 q3 hd (by rw [q4]; rfl) kk⟩
      · have hsq : spv q := hG.hd
        obtain ⟨m1, m2, kk⟩ := hk _ _ _ σ (hG.tl.ps (vok_s (show spv (100 + q) by unfold spv at hsq ⊢; omega))) hWf hc0 hn h
        exact ⟨m1, m2, sd_sval C hSP hsq hq (o2 _ rfl) hd kk⟩
      · obtain ⟨m1, m2, kk⟩ := hk _ _ _ σ (hG.tl.ps vok_i) hWf hc0 hn h
        exact ⟨m1, m2, sd_scod C hSP hG.hd hq (o3 _ rfl) hd kk⟩
    | iaload =>
      obtain ⟨hd, -, -⟩ := hok
      rcases a_iald_inv h with ⟨j, f, i, r, rfl, hf, hj, h⟩ | ⟨j, q, r, rfl, hq, hj, h⟩
      · obtain ⟨m1, m2, kk⟩ := hk _ _ _ σ (hG.tl.tl.ps vok_i) hWf hc0 hn h
        exact ⟨m1, m2, sd_iald C hK hG.tl.hd hf hj hd kk⟩
      · obtain ⟨m1, m2, kk⟩ := hk _ _ _ σ (hG.tl.tl.ps vok_i) hWf hc0 hn h
        exact ⟨m1, m2, sd_spld C hSP hG.tl.hd hq.1 hq.2 hj hd kk⟩
    | baload =>
      obtain ⟨hd, -, -⟩ := hok
      rcases a_bald_inv h with ⟨j, f, i, r, rfl, hf, hj, h⟩ | ⟨j, q, r, rfl, hq, hj, h⟩
      · obtain ⟨m1, m2, kk⟩ := hk _ _ _ σ (hG.tl.tl.ps vok_i) hWf hc0 hn h
        exact ⟨m1, m2, sd_bald C hK hG.tl.hd hf hj hd kk⟩
      · obtain ⟨m1, m2, kk⟩ := hk _ _ _ σ (hG.tl.tl.ps vok_i) hWf hc0 hn h
        exact ⟨m1, m2, sd_sbld C hSP hG.tl.hd hq.1 hq.2 hj hd kk⟩
    | laload =>
      obtain ⟨hd, -, -⟩ := hok
      obtain ⟨j, f, i, r, rfl, hf, hj, h⟩ := a_lald_inv h
      obtain ⟨m1, m2, kk⟩ := hk _ _ _ σ (hG.tl.tl.ps vok_l) hWf hc0 hn h
      exact ⟨m1, m2, sd_lald C hK hG.tl.hd hf hj hd kk⟩
    | aaload =>
      obtain ⟨hd, -, -⟩ := hok
      obtain ⟨j, f, i, r, rfl, hf, hj, h⟩ := a_aald_inv h
      obtain ⟨m1, m2, kk⟩ := hk _ _ _ σ (hG.tl.tl.ps (hWf.val hG.tl.hd (out_lt hj))) hWf hc0 hn h
      exact ⟨m1, m2, sd_aald C hK hG.tl.hd hf hj hd kk⟩
    | arraylength =>
      obtain ⟨hd, -, -⟩ := hok
      rcases a_alen_inv h with ⟨f, i, r, rfl, hf, h⟩ | ⟨q, r, rfl, hq, h⟩
      · obtain ⟨m1, m2, kk⟩ := hk _ _ _ σ (hG.tl.ps vok_i) hWf hc0 hn h
        exact ⟨m1, m2, sd_alen C hK hG.hd hf hd kk⟩
      · obtain ⟨m1, m2, kk⟩ := hk _ _ _ σ (hG.tl.ps vok_i) hWf hc0 hn h
        exact ⟨m1, m2, sd_slen C hSP hG.hd hq.1 hq.2 hd kk⟩
    | iastore =>
      obtain ⟨hd, -, -⟩ := hok
      obtain ⟨x, j, f, i, r, rfl, hf, hj, h⟩ := a_iast_inv h
      obtain ⟨m1, m2, kk⟩ := hk _ _ _ (up3 σ.1 f i j.toNatClampNeg x, σ.2) hG.tl.tl.tl hWf hc0 hn h
      exact ⟨m1, m2, sd_iast C hK hs0 hc0 hn hG.tl.tl.hd hf hj hd kk⟩
    | bastore =>
      obtain ⟨hd, -, -⟩ := hok
      rcases a_bast_inv h with ⟨x, j, f, i, r, rfl, hf, hj, h⟩ | ⟨x, j, f, i, r, rfl, hf, hj, hx, h⟩
      · obtain ⟨m1, m2, kk⟩ := hk _ _ _ (up3 σ.1 f i j.toNatClampNeg x.toInt8.toInt32, σ.2) hG.tl.tl.tl hWf hc0 hn h
        exact ⟨m1, m2, sd_bast C hK hs0 hc0 hn hG.tl.tl.hd (Or.inl ⟨hf, rfl⟩) hj hd kk⟩
      · obtain ⟨m1, m2, kk⟩ := hk _ _ _ (up3 σ.1 f i j.toNatClampNeg x, σ.2) hG.tl.tl.tl hWf hc0 hn h
        exact ⟨m1, m2, sd_bast C hK hs0 hc0 hn hG.tl.tl.hd (Or.inr ⟨hf, hx, rfl⟩) hj hd kk⟩
    | lastore =>
      obtain ⟨hd, -, -⟩ := hok
      obtain ⟨x, j, f, i, r, rfl, hf, hj, h⟩ := a_last_inv h
      obtain ⟨m1, m2, kk⟩ := hk _ _ _ (σ.1, up3 σ.2.1 f i j.toNatClampNeg x, σ.2.2) hG.tl.tl.tl hWf hc0 hn h
      exact ⟨m1, m2, sd_last C hK hs0 hc0 hn hG.tl.tl.hd hf hj hd kk⟩
    | putfield x =>
      obtain ⟨hd, -, o1⟩ := hok
      rcases a_put_inv h with ⟨ci, j, x, f, i, r, u, rfl, rfl, hf, h⟩ | ⟨ci, j, x, f, i, r, u, rfl, rfl, hf, hx, h⟩ | ⟨ci, j, x, f, i, r, u, rfl, rfl, hf, h⟩ | ⟨ci, j, v, f, i, r, u, w, rfl, rfl, hf, hw, h⟩
      · obtain ⟨q, q1, q2, q3, q4, q5⟩ := o1 _ _ _ _ rfl
        have q6 : fkd ci j = 0 ∧ tyC ci j = .int := by rcases q5 with ⟨z, a⟩ | ⟨z, a⟩ | ⟨z, a⟩ | ⟨z, a⟩ <;> first | exact a | omega
        obtain ⟨m1, m2, kk⟩ := hk _ _ _ (up3 σ.1 f i j x, σ.2) hG.tl.tl hWf hc0 hn h
        exact ⟨m1, m2, sd_put C hU hK hs0 hc0 hn (v := .inl x) hG.tl.hd hf q1 q2 q3 hd q4 (by rw [q6.2]; rfl) (by rw [q6.2]; rfl) (by rw [q6.1, up3_row]; simp [e_v]) (fun q hq => ⟨by rw [up3_row]; simp [hq], rfl, rfl⟩) (fun y hy => ⟨up3_off σ.1 _ _ hy, rfl, rfl⟩) kk⟩
      · obtain ⟨q, q1, q2, q3, q4, q5⟩ := o1 _ _ _ _ rfl
        have q6 : fkd ci j = 0 ∧ tyC ci j = .boolean := by rcases q5 with ⟨z, a⟩ | ⟨z, a⟩ | ⟨z, a⟩ | ⟨z, a⟩ <;> first | exact a | omega
        obtain ⟨m1, m2, kk⟩ := hk _ _ _ (up3 σ.1 f i j x, σ.2) hG.tl.tl hWf hc0 hn h
        exact ⟨m1, m2, sd_put C hU hK hs0 hc0 hn (v := .inl x) hG.tl.hd hf q1 q2 q3 hd q4 (by rw [q6.2]; rcases hx with rfl | rfl <;> rfl) (by rw [q6.2]; rcases hx with rfl | rfl <;> rfl) (by rw [q6.1, up3_row]; simp [e_v]) (fun q hq => ⟨by rw [up3_row]; simp [hq], rfl, rfl⟩) (fun y hy => ⟨up3_off σ.1 _ _ hy, rfl, rfl⟩) kk⟩
      · obtain ⟨q, q1, q2, q3, q4, q5⟩ := o1 _ _ _ _ rfl
        have q6 : fkd ci j = 1 ∧ tyC ci j = .long := by rcases q5 with ⟨z, a⟩ | ⟨z, a⟩ | ⟨z, a⟩ | ⟨z, a⟩ <;> first | exact a | omega
        obtain ⟨m1, m2, kk⟩ := hk _ _ _ (σ.1, up3 σ.2.1 f i j x, σ.2.2) hG.tl.tl hWf hc0 hn h
        exact ⟨m1, m2, sd_put C hU hK hs0 hc0 hn (v := .inr (.inl x)) hG.tl.hd hf q1 q2 q3 hd q4 (by rw [q6.2]; rfl) (by rw [q6.2]; rfl) (by rw [q6.1, up3_row]; simp [e_v]) (fun q hq => ⟨rfl, by rw [up3_row]; simp [hq], rfl⟩) (fun y hy => ⟨rfl, up3_off σ.2.1 _ _ hy, rfl⟩) kk⟩
      · obtain ⟨q, q1, q2, q3, q4, q5⟩ := o1 _ _ _ _ rfl
        have q6 : fkd ci j = 2 ∧ isRT (tyC ci j) := by rcases q5 with ⟨z, a⟩ | ⟨z, a⟩ | ⟨z, a⟩ | ⟨z, a⟩ <;> first | exact a | omega
        obtain ⟨w1, w2⟩ := hOL.1 _ _ _ _ _ _ hw
        have hWf' : aWf (O.1 w) (Cn w) := by rw [w1, w2]; exact hWf.up hG.hd
        obtain ⟨m1, m2, kk⟩ := hk _ _ _ (σ.1, σ.2.1, w) (by show aG (vok (Cn w)) _ _ _; rw [w2]; exact hG.tl.tl) hWf' (by show c0 ≤ Cn w; omega) (by show Cn w ≤ 284; omega) h
        have m1 : Cn w ≤ Cn res.2.2.2 := m1
        have kk : aW p l e R s m args below meth c _ D B (e_sp spa v4) cA M.2.2.1 c0 σ.1 σ.2.1 (O.1 w) (Cn w) (pc + 3) ls r := kk
        rw [w1, w2] at kk
        exact ⟨by omega, m2, sd_put C hU hK hs0 hc0 hn (v := .inr (.inr (.inl v))) hG.tl.hd hf q1 q2 q3 hd q4 (by rcases q6.2 with ⟨z, hz⟩ | ⟨z, hz⟩ <;> rw [hz] <;> cases v <;> rfl) (by rcases q6.2 with ⟨z, hz⟩ | ⟨z, hz⟩ <;> rw [hz] <;> cases v <;> rfl) (by rw [q6.1, up3_row]; simp [e_v]) (fun q hq => ⟨rfl, rfl, by rw [up3_row]; simp [hq]⟩) (fun y hy => ⟨rfl, rfl, up3_off (O.1 σ.2.2) _ _ hy⟩) kk⟩
    | aastore =>
      obtain ⟨hd, -, -⟩ := hok
      obtain ⟨g, g2, j, f, i, r, w, rfl, hf, hj, hw, h⟩ := a_aast_inv h
      obtain ⟨w1, w2⟩ := hOL.1 _ _ _ _ _ _ hw
      have hWf' : aWf (O.1 w) (Cn w) := by rw [w1, w2]; exact hWf.up hG.hd
      obtain ⟨m1, m2, kk⟩ := hk _ _ _ (σ.1, σ.2.1, w) (by show aG (vok (Cn w)) _ _ _; rw [w2]; exact hG.tl.tl.tl) hWf' (by show c0 ≤ Cn w; omega) (by show Cn w ≤ 284; omega) h
      have m1 : Cn w ≤ Cn res.2.2.2 := m1
      have kk : aW p l e R s m args below meth c _ D B (e_sp spa v4) cA M.2.2.1 c0 σ.1 σ.2.1 (O.1 w) (Cn w) (pc + 1) ls r := kk
      rw [w1, w2] at kk
      exact ⟨by omega, m2, sd_aast C hK hs0 hc0 hn hG.tl.tl.hd hG.hd hf hj hd kk⟩
    | ireturn =>
      obtain ⟨hd, -, o1, o2, o3, o4⟩ := hok
      simp only [ains] at h
      split at h
      · cases h; exact ⟨Nat.le_refl _, ⟨hn, hWf, fun v hv => by cases hv; trivial⟩, sd_iret C hK (o1 _ rfl) rfl hd⟩
      · split at h
        · rename_i hx
          cases h; exact ⟨Nat.le_refl _, ⟨hn, hWf, fun v hv => by cases hv; trivial⟩, sd_iret C hK (o2 _ rfl) (by rcases hx with rfl | rfl <;> rfl) hd⟩
        · cases h
      · split at h
        · rename_i hx
          cases h; exact ⟨Nat.le_refl _, ⟨hn, hWf, fun v hv => by cases hv; trivial⟩, sd_iret C hK (o3 _ rfl) (by rw [← hx]; exact pk_nb _) hd⟩
        · cases h
      · split at h
        · rename_i hx
          cases h; exact ⟨Nat.le_refl _, ⟨hn, hWf, fun v hv => by cases hv; trivial⟩, sd_iret C hK (o4 _ rfl) (by rw [← hx]; exact pk_nc _) hd⟩
        · cases h
      · cases h
    | lreturn =>
      obtain ⟨hd, -, o1⟩ := hok
      simp only [ains] at h
      split at h
      · cases h; exact ⟨Nat.le_refl _, ⟨hn, hWf, fun v hv => by cases hv; trivial⟩, sd_lret C hK o1 hd⟩
      · cases h
    | areturn =>
      obtain ⟨hd, -, ty, o1, o2⟩ := hok
      simp only [ains] at h
      split at h
      · cases h; exact ⟨Nat.le_refl _, ⟨hn, hWf, fun v hv => by cases hv; exact hG.hd⟩, sd_aret C hK o1 o2 (e_v_ref hsp _) hd⟩
      · cases h
    | return_ =>
      obtain ⟨hd, -, o1⟩ := hok
      simp only [ains] at h
      split at h
      · cases h; exact ⟨Nat.le_refl _, ⟨hn, hWf, fun v hv => by cases hv⟩, sd_vret C hK o1 hd⟩
      · cases h
    | new x =>
      obtain ⟨hd, -, o1⟩ := hok
      obtain ⟨ci, u, f, i, w, rfl, hw, hf, h⟩ := a_new_inv h
      obtain ⟨q, q1, q2, q3, q4⟩ := o1 _ _ rfl
      obtain ⟨w1, w2, w3, w4⟩ := hOL.2 _ _ _ hw
      have hWf' : aWf (O.1 w) (Cn w) := by rw [w4, w3]; exact hWf.grow w2 w1.symm
      have hal : alv (Cn w) (f, i) := by rw [w3, w1]; exact nm_alv w2
      have hG' : aG (vok (Cn w)) M.2.2.1 ls (.inr (.inr (.inl (some (f, i)))) :: st) := (hG.mono (fun v hv => vok.mono hv (by omega))).ps hal
      obtain ⟨m1, m2, kk⟩ := hk _ _ _ (upR σ.1 f i (fun _ => 0), upR σ.2.1 f i (fun _ => 0), w) hG' hWf' (by show c0 ≤ Cn w; omega) (by show Cn w ≤ 284; omega) h
      have m1 : Cn w ≤ Cn res.2.2.2 := m1
      have hz := e_sz_mono (show Cn σ.2.2 + 1 ≤ Cn res.2.2.2 by omega)
      have kk : aW p l e R s m args below meth c _ D B (e_sp spa v4) cA M.2.2.1 c0 (upR σ.1 f i (fun _ => 0)) (upR σ.2.1 f i (fun _ => 0)) (O.1 w) (Cn w) (pc + 3) ls (.inr (.inr (.inl (some (f, i)))) :: st) := kk
      rw [w4, w3] at kk
      exact ⟨by omega, m2, sd_new C hU hK hc0 w2 w1.symm hf q1 q2 q3 q4 hd (by omega) (by omega) kk⟩
    | newarray a =>
      obtain ⟨hd, -, o1⟩ := hok
      obtain ⟨ty, u, n', r, f, i, w, rfl, rfl, hw, ⟨hf, rfl⟩, hcont⟩ := a_newa_inv h
      obtain ⟨q1, q2, q3, q4⟩ := o1 _ _ rfl
      obtain ⟨w1, w2, w3, w4⟩ := hOL.2 _ _ _ hw
      have hWf' : aWf (O.1 w) (Cn w) := by rw [w4, w3]; exact hWf.grow w2 w1.symm
      have hal : alv (Cn w) (f, i) := by rw [w3, w1]; exact nm_alv w2
      have hG' : aG (vok (Cn w)) M.2.2.1 ls (.inr (.inr (.inl (some (f, i)))) :: r) := (hG.tl.mono (fun v hv => vok.mono hv (by omega))).ps hal
      obtain ⟨m1, m2, kk⟩ := hk _ _ _ (upR σ.1 f i (fun _ => 0), upR σ.2.1 f i (fun _ => 0), w) hG' hWf' (by show c0 ≤ Cn w; omega) (by show Cn w ≤ 284; omega) hcont
      have m1 : Cn w ≤ Cn res.2.2.2 := m1
      have hz := e_sz_mono (show Cn σ.2.2 + 1 ≤ Cn res.2.2.2 by omega)
      have kk : aW p l e R s m args below meth c _ D B (e_sp spa v4) cA M.2.2.1 c0 (upR σ.1 f i (fun _ => 0)) (upR σ.2.1 f i (fun _ => 0)) (O.1 w) (Cn w) (pc + 2) ls (.inr (.inr (.inl (some (f, i)))) :: r) := kk
      rw [w4, w3] at kk
      exact ⟨by omega, m2, sd_newa C hK hc0 w2 w1.symm q1 q2 hf q3 q4 hd (by omega) (by omega) kk⟩
    | anewarray x =>
      obtain ⟨hd, -, o1⟩ := hok
      obtain ⟨ty, u, n', r, f, i, w, rfl, rfl, hw, ⟨hf, rfl⟩, hcont⟩ := a_newa_inv h
      obtain ⟨q1, q, q2, q3, q4⟩ := o1 _ _ rfl
      obtain ⟨w1, w2, w3, w4⟩ := hOL.2 _ _ _ hw
      have hWf' : aWf (O.1 w) (Cn w) := by rw [w4, w3]; exact hWf.grow w2 w1.symm
      have hal : alv (Cn w) (f, i) := by rw [w3, w1]; exact nm_alv w2
      have hG' : aG (vok (Cn w)) M.2.2.1 ls (.inr (.inr (.inl (some (f, i)))) :: r) := (hG.tl.mono (fun v hv => vok.mono hv (by omega))).ps hal
      obtain ⟨m1, m2, kk⟩ := hk _ _ _ (upR σ.1 f i (fun _ => 0), upR σ.2.1 f i (fun _ => 0), w) hG' hWf' (by show c0 ≤ Cn w; omega) (by show Cn w ≤ 284; omega) hcont
      have m1 : Cn w ≤ Cn res.2.2.2 := m1
      have hz := e_sz_mono (show Cn σ.2.2 + 1 ≤ Cn res.2.2.2 by omega)
      have kk : aW p l e R s m args below meth c _ D B (e_sp spa v4) cA M.2.2.1 c0 (upR σ.1 f i (fun _ => 0)) (upR σ.2.1 f i (fun _ => 0)) (O.1 w) (Cn w) (pc + 3) ls (.inr (.inr (.inl (some (f, i)))) :: r) := kk
      rw [w4, w3] at kk
      exact ⟨by omega, m2, sd_anew C hK hc0 w2 w1.symm q1 hf q2 q3 (hSP.2.2.2.2.2.2.2.2.2.2 _ q4) hd (by omega) (by omega) kk⟩
    | invokestatic x =>
      obtain ⟨hd, -, o1, o2⟩ := hok
      simp only [ains] at h
      split at h
      · obtain ⟨l1, l2, l3, l4⟩ := o1 _ rfl
        split at h
        · cases h
        · rename_i d'
          obtain ⟨n', dp, g, g2, sp1, f, i, r, rfl, hcat, hrg, h⟩ := a_copy_inv h
          rcases h with ⟨hf, hg, h⟩ | ⟨hf, hg, h⟩
          · obtain ⟨m1, m2, kk⟩ := hk _ _ _ (upR σ.1 g g2 (va_cpy (σ.1 f i) (σ.1 g g2) sp1.toNatClampNeg dp.toNatClampNeg n'.toNatClampNeg), σ.2) hG.tl.tl.tl.tl.tl hWf hc0 hn h
            exact ⟨m1, m2, sd_copyI C hsp hK hs0 hc0 hn hG.tl.tl.tl.tl.hd hG.tl.tl.hd hf hg hrg l1 l2 l3 l4 (by omega) (by omega) hcat hd kk⟩
          · obtain ⟨m1, m2, kk⟩ := hk _ _ _ (σ.1, upR σ.2.1 g g2 (va_cpy (σ.2.1 f i) (σ.2.1 g g2) sp1.toNatClampNeg dp.toNatClampNeg n'.toNatClampNeg), σ.2.2) hG.tl.tl.tl.tl.tl hWf hc0 hn h
            exact ⟨m1, m2, sd_copyL C hsp hK hs0 hc0 hn hG.tl.tl.tl.tl.hd hG.tl.tl.hd hf hg hrg l1 l2 l3 l4 (by omega) (by omega) hcat hd kk⟩
      · rename_i hne
        obtain ⟨mi, n', rk, u, pre, r, o, σ1, rfl, rfl, hpl, hcat, hcall, hcont, -⟩ := a_inv_inv h
        obtain ⟨M', q1, q2, q3, q4⟩ := o2 _ _ _ _ rfl (fun e => hne _ (by rw [e]))
        obtain ⟨dd, hdd, n1, f1, hM⟩ := hcl _ _ _ _ _ _ q1 hcall hG.take hWf hn
        obtain ⟨m1, m2, kk⟩ := hk _ _ _ σ1 (hG.drop.ret (fun v hv => hv.mono n1) f1.2.2) f1.2.1 (by omega) f1.1 hcont
        have hz := e_sz_mono m1
        exact ⟨by omega, m2, sd_invS C hsp hK SPf.blind hSPk hM (by rw [hpl]; exact q4.toC hR hdd) q2 q3 hd hcat hc0 n1 (by omega) (by omega) kk⟩
    | invokevirtual x =>
      obtain ⟨hd, -, o1⟩ := hok
      simp only [ains] at h
      split at h
      · rename_i hrcv
        obtain ⟨mi, n', rk, u, pre, r, o, σ1, rfl, rfl, hpl, hcat, hcall, hcont, -⟩ := a_inv_inv h
        obtain ⟨cl, u', rfl, hrc⟩ := rcv_inv hrcv
        obtain ⟨M', q1, q2, q3, q4, q5, q6, q7⟩ := o1 _ _ _ _ _ rfl
        obtain ⟨dd, hdd, n1, f1, hM⟩ := hcl _ _ _ _ _ _ q1 hcall hG.take hWf hn
        obtain ⟨m1, m2, kk⟩ := hk _ _ _ σ1 (hG.drop.ret (fun v hv => hv.mono n1) f1.2.2) f1.2.1 (by omega) f1.1 hcont
        have hz := e_sz_mono m1
        obtain ⟨rc, av, s1, s2, s3, s4⟩ := split_rc (r := r) hpl q5
        rw [s1] at hM
        rw [s3] at hrc
        have hrcm : vok (Cn σ.2.2) rc := hG.2.2 rc (by rw [s2]; exact List.mem_append_right _ List.mem_cons_self)
        have hcc : cOk M' R dd av.length := by rw [s4]; exact q6.toC hR hdd
        rw [s2]
        rcases hrc with ⟨f, i, hrc, hfo⟩ | ⟨q, hrc, hcl1, hq⟩
        · cases hrc
          rcases q7 with ⟨rfl, -⟩ | ⟨ci, q, rfl, -, hq, hqc⟩
          · exfalso
            have := (fam_ok f (alv.fam hrcm)).1
            omega
          · refine ⟨by omega, m2, sd_invV C hsp hK SPf.blind hSPk (b := e_ad B (f, i)) rfl (fun H locs h2 h3 => ?_) hM hcc q2 q3 q4 hd hcat hc0 n1 (by omega) (by omega) kk⟩
            have he : (e_w B cA σ.1 σ.2.1 (O.1 σ.2.2) (Cn σ.2.2))[e_ps (f, i)]? = some (e_ad B (f, i), .inr (ci, e_fs B σ.1 σ.2.1 (O.1 σ.2.2) ci f i)) := by rw [e_w_at hrcm, e_E_obj hfo]
            rw [← hqc]
            exact va_recv hK h2 hq he
        · cases hrc
          rcases q7 with ⟨-, hcs⟩ | ⟨ci, q', hci, hci2, -, -⟩
          · have hq27 : q < 27 := by have : spv q := hrcm; unfold spv at this; omega
            refine ⟨by omega, m2, sd_invV C hsp hK SPf.blind hSPk (b := spa q) (by show e_sp spa v4 q = _; unfold e_sp; rw [if_neg (by omega)]) (fun H locs h2 h3 => ?_) hM hcc q2 q3 q4 hd hcat hc0 n1 (by omega) (by omega) kk⟩
            rw [hcs]
            exact vk_recv hSP.1 hq27 h3
          · omega
      · cases h
    | invokespecial x =>
      obtain ⟨hd, -, o1, o2⟩ := hok
      simp only [ains] at h
      split at h
      · obtain ⟨l1, l2, l3⟩ := o1 _ rfl
        split at h
        · rename_i d' q r
          split at h
          · rename_i hcat
            obtain ⟨m1, m2, kk⟩ := hk _ _ _ σ hG.tl hWf hc0 hn h
            exact ⟨m1, m2, sd_obj C hsp (b := e_ad B q) rfl (by omega) (by omega) l1 l2 l3 hd hcat kk⟩
          · cases h
        · cases h
      · rename_i hne
        split at h
        · rename_i hrcv
          obtain ⟨mi, n', rk, u, pre, r, o, σ1, rfl, rfl, hpl, hcat, hcall, hcont, -⟩ := a_inv_inv h
          obtain ⟨cl, u', rfl, hrc⟩ := rcv_inv hrcv
          obtain ⟨M', q1, q2, q3, q4, q5, q6, q7⟩ := o2 _ _ _ _ rfl (fun e => hne _ (by rw [e]))
          obtain ⟨dd, hdd, n1, f1, hM⟩ := hcl _ _ _ _ _ _ q1 hcall hG.take hWf hn
          obtain ⟨m1, m2, kk⟩ := hk _ _ _ σ1 (hG.drop.ret (fun v hv => hv.mono n1) f1.2.2) f1.2.1 (by omega) f1.1 hcont
          have hz := e_sz_mono m1
          obtain ⟨rc, av, s1, s2, s3, s4⟩ := split_rc (r := r) hpl q5
          rw [s1] at hM
          rw [s3] at hrc
          have hcc : cOk M' R dd av.length := by rw [s4]; exact q6.toC hR hdd
          have hrb : ∃ b, e_v B (e_sp spa v4) rc = .ref b := by
            rcases hrc with ⟨f, i, hrc, -⟩ | ⟨q, hrc, -, hq⟩
            · cases hrc; exact ⟨_, rfl⟩
            · cases hrc; exact ⟨spa q, by show e_sp spa v4 q = _; unfold e_sp; rw [if_neg (by omega)]⟩
          obtain ⟨b, hb⟩ := hrb
          rw [s2]
          rcases q7 with q7 | ⟨hc10, q7⟩
          · exact ⟨by omega, m2, sd_invI C hsp hK SPf.blind hSPk hb hM hcc q3 q2 q7 q4 hd hcat hc0 n1 (by omega) (by omega) kk⟩
          · exact ⟨by omega, m2, sd_invIN C hsp hK SPf.blind hSPk (host := RX10) hb hM hcc q3 q2 (by rw [hc10]; exact hSP.2.2.2.2.2.2.2.2.2.1 _ q7) q4 hd hcat hc0 n1 (by omega) (by omega) kk⟩
        · cases h
    | _ => first | cases h | exact absurd rfl hp
end Mn
