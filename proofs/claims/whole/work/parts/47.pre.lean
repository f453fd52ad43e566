/-! from the law's entry to its loop -/
section St
variable {p : Program} {l : Launch} {e : Env} {s : State} {m : MethodId} {args : Array Value} {below : List Frame} {meth : Method} {c : Code}
theorem room_le {R R' : Room} (h1 : R'.frames ≤ R.frames) (h2 : R'.cells ≤ R.cells) (h3 : R'.slots ≤ R.slots) (h4 : R'.locals ≤ R.locals) {pl : Platform} (h : s.hasRoom pl R = true) : s.hasRoom pl R' = true := by
  simp only [State.hasRoom, Bool.and_eq_true, decide_eq_true_eq] at h ⊢
  obtain ⟨⟨⟨⟨a1, a2, a3, a4, a5, a6⟩, a7⟩, a8⟩, a9⟩ := h
  exact ⟨⟨⟨⟨by omega, by omega, by omega, by omega, by omega, a6⟩, by omega⟩, by omega⟩, a9⟩
theorem W_room {R R' : Room} {H : Heap} {locs : List Loc} {cells slots : Nat} {Q : State → Prop} {g : JFrame} (h1 : R'.frames ≤ R.frames) (h2 : R'.cells ≤ R.cells) (h3 : R'.slots ≤ R.slots) (h4 : R'.locals ≤ R.locals) (k : W p l e R' s m args below meth c H locs cells slots Q g) : W p l e R s m args below meth c H locs cells slots Q g := fun T hT X => k T hT { X with room := room_le h1 h2 h3 h4 X.room }
theorem W_imp {R : Room} {H : Heap} {locs : List Loc} {cells slots : Nat} {Q Q' : State → Prop} {g : JFrame} (h : ∀ t, Q t → Q' t) (k : W p l e R s m args below meth c H locs cells slots Q g) : W p l e R s m args below meth c H locs cells slots Q' g := fun T hT X => by
  obtain ⟨t, a, b⟩ := k T hT X
  exact ⟨t, a, h t b⟩
variable {D : va_G} {B : Nat} {spa : Nat → Nat} {v4 : Value} {cA : Nat → ClassId} {I : A3 Int32} {L : A3 Int64} {rf rf' : A3 (Option AR)}
theorem nbF {a b : Nat} (h : ¬ a = b) : Nat.beq a b = false := by
  cases hb : Nat.beq a b with
  | false => rfl
  | true => exact absurd (Nat.eq_of_beq_eq_true hb) h
def isRS (f j : Nat) : Bool := bif Nat.beq (fob f) 0 then Nat.ble 5 (fty f) else !(Nat.beq (fkd (fob f - 1) j) 0) && !(Nat.beq (fkd (fob f - 1) j) 1)
theorem arrV_congr {cI : ClassId} {N : Nat} {f g : Nat → Value} (h : ∀ j, j < N → f j = g j) : arrV cI N f = arrV cI N g := by
  have : (fun j : Fin N => f j.val) = fun j : Fin N => g j.val := funext fun j => h j.val j.isLt
  unfold arrV
  rw [this]
theorem at_congr {r : AR} {a : Nat} {H : Heap} (h : ∀ j, j < fln r.1 → isRS r.1 j = true → rf' r.1 r.2 j = rf r.1 r.2 j) (hP : va_at D vwCl (a, e_E B cA I L rf r) H) : va_at D vwCl (a, e_E B cA I L rf' r) H := by
  by_cases h0 : fob r.1 = 0
  · by_cases h4 : fty r.1 = 4
    · have e1 : e_E B cA I L rf' r = e_E B cA I L rf r := by unfold e_E; rw [if_pos h0, if_pos h0, if_pos h4, if_pos h4]
      rw [e1]; exact hP
    · by_cases h5 : fty r.1 < 4
      · have e1 : e_E B cA I L rf' r = e_E B cA I L rf r := by unfold e_E; rw [if_pos h0, if_pos h0, if_neg h4, if_neg h4, if_pos h5, if_pos h5]
        rw [e1]; exact hP
      · have hr : ∀ j, isRS r.1 j = true := fun j => by
          unfold isRS
          rw [h0]
          exact Nat.ble_eq_true_of_le (by omega)
        have e1 : ∀ q : A3 (Option AR), e_E B cA I L q r = .inl (cA (fty r.1), fln r.1, .inr (.inr (.inr (.inr (fun j => (q r.1 r.2 j).map (e_ad B)))))) := fun q => by unfold e_E; rw [if_pos h0, if_neg h4, if_neg h5]
        rw [e1] at hP ⊢
        have hP : H[a]? = some (arrV (cA (fty r.1)) (fln r.1) (fun j => va_rf ((rf r.1 r.2 j).map (e_ad B)))) := hP
        show H[a]? = some (arrV (cA (fty r.1)) (fln r.1) (fun j => va_rf ((rf' r.1 r.2 j).map (e_ad B))))
        rw [hP]
        exact congrArg some (arrV_congr fun j hj => by rw [h j hj (hr j)])
  · have e1 : e_E B cA I L rf' r = e_E B cA I L rf r := by
      unfold e_E
      rw [if_neg h0, if_neg h0]
      refine congrArg (fun z => Sum.inr (fob r.1 - 1, z)) (List.map_congr_left fun j hj => ?_)
      have hj := List.mem_range.mp hj
      by_cases k0 : fkd (fob r.1 - 1) j = 0
      · rw [if_pos k0, if_pos k0]
      · by_cases k1 : fkd (fob r.1 - 1) j = 1
        · rw [if_neg k0, if_pos k1, if_neg k0, if_pos k1]
        · rw [if_neg k0, if_neg k1, if_neg k0, if_neg k1, h j hj (by
            unfold isRS
            have b0 : Nat.beq (fob r.1) 0 = false := nbF h0
            have b1 : Nat.beq (fkd (fob r.1 - 1) j) 0 = false := nbF k0
            have b2 : Nat.beq (fkd (fob r.1 - 1) j) 1 = false := nbF k1
            rw [b0, b1, b2]
            rfl)]
    rw [e1]; exact hP
theorem P_congr {n : Nat} {H : Heap} (h : ∀ t, t < n → ∀ j, j < fln (nm t).1 → isRS (nm t).1 j = true → rf' (nm t).1 (nm t).2 j = rf (nm t).1 (nm t).2 j) (hP : va_P D vwCl (e_w B cA I L rf n) H) : va_P D vwCl (e_w B cA I L rf' n) H := by
  intro k q hq
  unfold e_w at hq
  rw [List.getElem?_map] at hq
  cases hr : (List.range n)[k]? with
  | none => rw [hr] at hq; cases hq
  | some t =>
    rw [hr] at hq
    cases hq
    obtain ⟨hk, he⟩ := List.getElem?_eq_some_iff.mp hr
    rw [List.getElem_range] at he
    rw [List.length_range] at hk
    subst he
    refine at_congr (fun j hj hs => h k hk j hj hs) (hP k _ ?_)
    unfold e_w
    rw [List.getElem?_map, hr]
    rfl
end St
section Sg
variable {ρ : Type}
variable {p : Program} {l : Launch} {e : Env} {R : Room} {s : State} {m : MethodId} {args : Array Value} {below : List Frame} {meth : Method} {c : Code}
variable {D : va_G} {B : Nat} {spa : Nat → Nat} {v4 : Value} {cA : Nat → ClassId} {c0 : Nat} {M : MT} {PGm : Nat → Option MT}
variable {O : AO ρ} {Cn : ρ → Nat} {X : AX} {d : Nat} {call : ACall ρ} {code : Nat → Option AE} {res : Option AV × AS ρ} {k : ACont ρ}
theorem aseg_sound (C : Cx p s m args meth c M) (hU : uOk) (hK : va_K D vwCl (tysL cA) s) (hs0 : s.heap.size = B + c0) (hSP : SPf B X spa v4 s s.heap) (hv4 : isRV v4) (hOL : OL O Cn) (hR : R.frames = d ∧ R.locals = 38 * d) (hRc : R.cells = Cn res.2.2.2 - c0) (hRs : R.slots = e_sz (Cn res.2.2.2) - e_sz c0)
    (hcl : aCl PGm l D B X spa v4 cA O Cn d call) (hcode : ∀ pc ins aux kill, code pc = some (ins, aux, kill) → okI PGm M pc ins aux) (cuts cuts2 : List Nat)
    (hk : ∀ pc ls st σ, aG (vok (Cn σ.2.2)) M.2.2.1 ls st → aWf (O.1 σ.2.2) (Cn σ.2.2) → c0 ≤ Cn σ.2.2 → Cn σ.2.2 ≤ 284 → k pc ls st σ = some res → aT p l e R s m args below meth c D B spa v4 cA M.2.2.1 c0 O Cn res pc ls st σ) : ∀ (n pc : Nat) (ls : List (Option AV)) (st : List AV) (σ : AS ρ), aG (vok (Cn σ.2.2)) M.2.2.1 ls st → aWf (O.1 σ.2.2) (Cn σ.2.2) → c0 ≤ Cn σ.2.2 → Cn σ.2.2 ≤ 284 → aseg O X d call code cuts cuts2 k n pc ls st σ = some res → aT p l e R s m args below meth c D B spa v4 cA M.2.2.1 c0 O Cn res pc ls st σ := by
  intro n
  induction n with
  | zero => exact hk
  | succ n ih =>
    intro pc ls st σ hG hWf hc hn h
    have h : (match code pc with
      | some (ins, aux, kill) => ains O X d call (fun pc' ls' st' σ' => bif (st'.isEmpty && cuts.contains pc') || cuts2.contains pc' then (match code pc' with | some (_, _, kill') => k pc' (a_kill kill' ls') st' σ' | none => none) else aseg O X d call code cuts cuts2 k n pc' ls' st' σ') pc ins aux (a_kill kill ls) st σ
      | none => none) = some res := h
    cases hcd : code pc with
    | none => rw [hcd] at h; cases h
    | some q =>
      obtain ⟨ins, aux, kill⟩ := q
      rw [hcd] at h
      refine aT.kill (ks := kill) (ains_sound C hU hK hs0 hSP hv4 hOL hR hRc hRs hcl (hcode _ _ _ _ hcd) hG.kill hWf hc hn h (fun pc' ls' st' σ' g1 g2 g3 g4 g5 => ?_))
      cases hb : (st'.isEmpty && cuts.contains pc') || cuts2.contains pc' with
      | false =>
        rw [hb] at g5
        exact ih pc' ls' st' σ' g1 g2 g3 g4 g5
      | true =>
        rw [hb] at g5
        have g5 : (match code pc' with | some (_, _, kill') => k pc' (a_kill kill' ls') st' σ' | none => none) = some res := g5
        cases hc' : code pc' with
        | none => rw [hc'] at g5; cases g5
        | some q' =>
          obtain ⟨i', a', k'⟩ := q'
          rw [hc'] at g5
          exact aT.kill (ks := k') (hk pc' _ st' σ' g1.kill g2 g3 g4 g5)
end Sg
def lM : MT := (yL_law, cL_law, 4, some .boolean)
def ls0 : List (Option AV) := [some (aK 300), none, none, none]
def ls7 : List (Option AV) := [some (aK 300), some (aR 0 0), none, none]
def ls18 : List (Option AV) := [some (aK 300), some (aR 0 0), some (aR 40 0), some (aI 0)]
def σz : AS RHO := (zI3, zL3, (fun _ _ _ => none, 0))
def σa : AS RHO := (upR zI3 0 0 (fun _ => 0), upR zL3 0 0 (fun _ => 0), (upR (fun _ _ _ => none) 0 0 (fun _ => none), 1))
def σb (σ1 : AS RHO) (w : RHO) : AS RHO := (upR σ1.1 40 0 (fun _ => 0), upR σ1.2.1 40 0 (fun _ => 0), w)
section Lw
variable {X : AX} {call : ACall RHO} {k : ACont RHO}
set_option maxRecDepth 100000 in
theorem law_1 : aseg opsC X 15 call kd_L_law [18] [] k 11 0 ls0 [] σz = a_bv (call 105 [aR 0 0] σa) (fun σ1 => aseg opsC X 15 call kd_L_law [18] [] k 8 7 ls0 [aR 0 0] σ1) := rfl
set_option maxRecDepth 100000 in
theorem law_2 (σ1 : AS RHO) : ∃ kk : ACont RHO, aseg opsC X 15 call kd_L_law [18] [] k 8 7 ls0 [aR 0 0] σ1 = a_new opsC kk [11] 8 ls7 [] σ1 ∧ ∀ σ, kk 11 ls7 [aR 40 0] σ = a_bv (call 199 [aR 40 0] σ) (fun σ3 => aseg opsC X 15 call kd_L_law [18] [] k 4 15 ls7 [aR 40 0] σ3) := ⟨fun pc' ls' st' σ' => bif (st'.isEmpty && ([18] : List Nat).contains pc') || ([] : List Nat).contains pc' then (match kd_L_law pc' with | some (_, _, kill') => k pc' (a_kill kill' ls') st' σ' | none => none) else aseg opsC X 15 call kd_L_law [18] [] k 6 pc' ls' st' σ', rfl, fun _ => rfl⟩
set_option maxRecDepth 100000 in
theorem law_3 (σ3 : AS RHO) : aseg opsC X 15 call kd_L_law [18] [] k 4 15 ls7 [aR 40 0] σ3 = k 18 ls18 [] σ3 := rfl
theorem law_pre {σ1 σ3 : AS RHO} {w : RHO} (c1 : call 105 [aR 0 0] σa = some (none, σ1)) (hw : opsC.2.2 σ1.2.2 = some ((40, 0), w)) (c2 : call 199 [aR 40 0] (σb σ1 w) = some (none, σ3)) : aseg opsC X 15 call kd_L_law [18] [] k 11 0 ls0 [] σz = k 18 ls18 [] σ3 := by
  rw [law_1, c1]
  show aseg opsC X 15 call kd_L_law [18] [] k 8 7 ls0 [aR 0 0] σ1 = _
  obtain ⟨kk, h1, h2⟩ := law_2 (X := X) (call := call) (k := k) σ1
  rw [h1]
  unfold a_new
  rw [hw]
  show (if fob 40 = 11 + 1 then kk (8 + 3) ls7 (aR 40 0 :: []) (σb σ1 w) else none) = _
  rw [if_pos (by decide)]
  show kk 11 ls7 [aR 40 0] (σb σ1 w) = _
  rw [h2, c2]
  show aseg opsC X 15 call kd_L_law [18] [] k 4 15 ls7 [aR 40 0] σ3 = _
  rw [law_3]
end Lw
theorem a_bv_inv {ρ : Type} {o : ARes ρ} {f : AS ρ → ARes ρ} {r : Option AV × AS ρ} (h : a_bv o f = some r) : ∃ σ, o = some (none, σ) ∧ f σ = some r := by
  rcases o with - | ⟨(- | v), σ⟩
  · cases h
  · exact ⟨σ, rfl, h⟩
  · cases h
theorem zN_inv {σ : AS RHO} {c : Nat} {f : AR → AS RHO → ARes RHO} {r : Option AV × AS RHO} (h : zN σ c f = some r) : ∃ g i w, opsC.2.2 σ.2.2 = some ((g, i), w) ∧ fob g = c + 1 ∧ f (g, i) (upR σ.1 g i (fun _ => 0), upR σ.2.1 g i (fun _ => 0), w) = some r := by
  unfold zN at h
  split at h
  · rename_i g i w he
    by_cases hf : fob g = c + 1
    · rw [if_pos hf] at h
      exact ⟨g, i, w, he, hf, h⟩
    · rw [if_neg hf] at h; cases h
  · cases h
theorem zRun_X (X : AX) : zRun X = zRun zX := by
  unfold zRun
  rw [callCo_X (X := X) (X' := zX)]
theorem z_split {X : AX} {σ3 : AS RHO} (h : zRun X = some (none, σ3)) : ∃ σ1 w, callG opsC X 15 105 [aR 0 0] σa = some (none, σ1) ∧ opsC.2.2 σ1.2.2 = some ((40, 0), w) ∧ callG opsC X 15 199 [aR 40 0] (σb σ1 w) = some (none, σ3) := by
  obtain ⟨g, i, w0, h1, -, h3⟩ := zN_inv h
  cases (show opsC.2.2 (σz.2.2) = some ((0, 0), (upR (fun _ _ _ => none) 0 0 (fun _ => none), 1)) from rfl).symm.trans h1
  obtain ⟨σ1, h4, h5⟩ := a_bv_inv h3
  obtain ⟨g, i, w, h6, -, h8⟩ := zN_inv h5
  obtain ⟨σ3', h9, h10⟩ := a_bv_inv h8
  by_cases hx : ((0, 0) : AR) = (0, 0) ∧ ((g, i) : AR) = (40, 0)
  · rw [if_pos hx] at h10
    cases h10
    cases hx.2
    exact ⟨σ1, w, callCo_le _ _ _ _ _ h4, h6, callCo_le _ _ _ _ _ h9⟩
  · rw [if_neg hx] at h10; cases h10
theorem zOk_inv {P : AS RHO → Bool} {σ : AS RHO} (hz : zRun zX = some (none, σ)) (h : zOk P = true) : P σ = true := by
  unfold zOk at h
  rw [hz] at h
  exact h
theorem zOk_ex {P : AS RHO → Bool} (h : zOk P = true) : ∃ σ, zRun zX = some (none, σ) := by
  unfold zOk at h
  split at h
  · rename_i σ he; exact ⟨σ, he⟩
  · cases h
def rsAll : List (Nat × Nat × Nat) := rsL0 ++ (rsL1 ++ (rsL2 ++ (rsL3)))
theorem rs_in : ∀ t, t < 284 → ∀ j, j < fln (nm t).1 → isRS (nm t).1 j = true → rsAll.contains ((nm t).1, (nm t).2, j) = true := by decide +kernel
theorem lay_wf : ∀ t, t < 284 → ∀ j, j < fln (nm t).1 → (match LAY (nm t).1 (nm t).2 j with | some q => nmL.contains q | none => true) = true := by decide +kernel
theorem alv_of {r : AR} (h : nmL.contains r = true) : alv 284 r := by
  have h1 := List.contains_iff_mem.mp h
  obtain ⟨t, ht, he⟩ := List.getElem_of_mem h1
  exact ⟨t, by rw [← nm_len]; exact ht, by rw [List.getElem?_eq_getElem ht, he]⟩
theorem wfU : aWf LAY 284 := by
  intro r hr j hj q hq
  obtain ⟨t, ht, he⟩ := hr
  have h1 : nm t = r := by unfold nm; rw [List.getD_eq_getElem?_getD, he]; rfl
  have h2 := lay_wf t ht j (by rw [h1]; exact hj)
  rw [h1, hq] at h2
  exact alv_of h2
theorem wf0 (rf : A3 (Option AR)) : aWf rf 0 := by
  intro r hr
  obtain ⟨t, ht, -⟩ := hr
  omega
theorem e_sz_284 : e_sz 284 ≤ 7302250 := by decide +kernel
theorem rsAll_ok {σ3 : AS RHO} (hz : zRun zX = some (none, σ3)) : ∀ e ∈ rsAll, σ3.2.2.1 e.1 e.2.1 e.2.2 = LAY e.1 e.2.1 e.2.2 := by
  have hh : ∀ (l : List (Nat × Nat × Nat)), (zOk (fun σ => l.all (fun e => decide (σ.2.2.1 e.1 e.2.1 e.2.2 = LAY e.1 e.2.1 e.2.2))) = true) → ∀ e ∈ l, σ3.2.2.1 e.1 e.2.1 e.2.2 = LAY e.1 e.2.1 e.2.2 := fun l h e he => of_decide_eq_true (List.all_eq_true.mp (zOk_inv hz h) e he)
  exact mem_app_all (hh _ z_rs0) (mem_app_all (hh _ z_rs1) (mem_app_all (hh _ z_rs2) (hh _ z_rs3)))
