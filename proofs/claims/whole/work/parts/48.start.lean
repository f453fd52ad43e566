/-! the law out of its loop -/
def R_law : String := "CoachAheadLaw"
def lw_P (b : Addr) (xs : List Int32) (args : Array Value) (s : State) : Prop := args = #[.ref b] ∧ s.IntsAt b xs ∧ xs.length ≤ 3072 ∧ (Jvm.Cond.and given_1 narrow_1).before args s = true
def lw_Q (_ : Array Value) (s : State) (o : Outcome) (t : State) : Prop := o = .returned (some (.int 1)) ∧ Framed s o t [] 600000 7302250
def lw_Z (below : List Frame) (a : Array Value) (s : State) : State → Prop := fun t => ∃ o, t.status = .running ∧ Ended t below o ∧ lw_Q a s o t
def lw_At (p : Program) (s : State) (m : MethodId) (meth : Method) (c : Code) (b L : Nat) (xs : Nat → Int32) : Prop :=
  p.tables.exec = Jvm.exec ∧ c.code = code ∧ meth.sig.returnType = ret ∧ c.maxLocals = 4 ∧ s.vm.findClass R_law = some m.cls ∧ (∀ w ∈ lw_tbl, w.before #[Value.ref b] s = true) ∧ va_X b L xs s s.heap ∧ b < s.heap.size ∧ meth.locks = false ∧ (Jvm.Cond.and given_1 narrow_1).before #[Value.ref b] s = true ∧ (Jvm.Cond.code x code maxLocals ret).before #[Value.ref b] s = true ∧ meth.name = x.name
/-- what is asked of the mathematics: the loop answers 1, from the objects as they are made -/
def lawMath : Prop := ∀ X : AX, X.1 ≤ 3072 → ∀ (I : A3 Int32) (L : A3 Int64), (∀ e ∈ isL, I e.1 e.2.1 e.2.2.1 = cI e.2.2.2) → ∃ I' L', v_L_law_18 X 15 0 (I, L, ()) = some (some (aI 1), (I', L', ()))
section
variable {p : Program} {e : Env} {s : State} {m : MethodId} {below : List Frame} {meth : Method} {c : Code}
theorem lw_end {b B : Nat} {D : va_G} {sp : Nat → Value} {cA : Nat → ClassId} {I : A3 Int32} {L : A3 Int64} {rf : A3 (Option AR)} (hB : B = s.heap.size) {t : State} (h : MQ below (e_Q D B sp cA (some (.inl 1)) I L rf 284) #[Value.ref b] s (284 - 0) (e_sz 284 - e_sz 0) (fun q => B ≤ q) t) : lw_Z below #[Value.ref b] s t := by
  obtain ⟨o, h1, h2, h3, Lc, h4, h5⟩ := h
  refine ⟨o, h1, h2, h3.1, h4.1, h4.2.1, ?_⟩
  have h6 : s.sameButNew { t with vm := s.vm } ([] ++ Lc) (284 - 0) (e_sz 284 - e_sz 0) := h4.2.2
  have hz := e_sz_284
  exact (h6.drop_fresh (fun x hx => hB ▸ h5 x hx)).mono (by decide) (by omega)
theorem vok_r {r : AR} (h : nmL.contains r = true) : vok 284 (.inr (.inr (.inl (some r)))) := alv_of h
theorem whole_of (hm : lawMath) (l : Launch) {b L : Nat} {xs : Nat → Int32} (hL : L ≤ 3072) (C0 : lw_At p s m meth c b L xs) : W p l e room_1 s m #[Value.ref b] below meth c s.heap [] 0 0 (lw_Z below #[Value.ref b] s) (entryFrame m ([Value.ref b] : List Value).toArray 4) := by
  obtain ⟨hx, hb, hr, hml, hown, hts, hscr, hbl, hlk, hgv, hcw, hnm⟩ := C0
  obtain ⟨spa, v4, hv4, h300, hSP⟩ := sp_start hgv hts hscr hbl
  obtain ⟨D, cA, hK⟩ := k_start hts
  have C : Cx p s m #[Value.ref b] meth c lM := ⟨hx, hb, hml, hown, fun w hw => by
    rcases List.mem_cons.mp hw with rfl | hw
    · exact hcw
    · exact hts w (gt_lw hw), hr, hlk, hnm⟩
  obtain ⟨σ3, hz⟩ := zOk_ex z_n
  have hzX : zRun (L, xs) = some (none, σ3) := by rw [zRun_X]; exact hz
  obtain ⟨σ1, w, c1, hw, c2⟩ := z_split hzX
  have hn3 : σ3.2.2.2 = 284 := Nat.eq_of_beq_eq_true (zOk_inv hz z_n)
  have hagr : ∀ t, t < 284 → ∀ j, j < fln (nm t).1 → isRS (nm t).1 j = true → LAY (nm t).1 (nm t).2 j = σ3.2.2.1 (nm t).1 (nm t).2 j := by
    intro t ht j hj hs
    have h1 := List.contains_iff_mem.mp (rs_in t ht j hj hs)
    have h2 : ∀ e ∈ rsAll, σ3.2.2.1 e.1 e.2.1 e.2.2 = LAY e.1 e.2.1 e.2.2 := rsAll_ok hz
    exact (h2 _ h1).symm
  obtain ⟨I', L', hv⟩ := hm (L, xs) hL σ3.1 σ3.2.1 (fun e he => of_decide_eq_true (List.all_eq_true.mp (zOk_inv hz z_is) e he))
  obtain ⟨fu, hfu⟩ := aval_to hv
  have hcode : ∀ pc ins aux kill, kd_L_law pc = some (ins, aux, kill) → okI PGm lM pc ins aux := ok_m358.2
  let R' : Room := e_rm 15 0 284
  have g18 : aG (vok 284) 4 ls18 [] := by
    refine ⟨rfl, fun i v hi => ?_, fun v hv => by cases hv⟩
    match i, hi with
    | 0, hi => cases hi; exact Or.inr (Or.inr (Or.inr (Or.inr (Or.inl rfl))))
    | 1, hi => cases hi; exact vok_r (by decide +kernel)
    | 2, hi => cases hi; exact vok_r (by decide +kernel)
    | 3, hi => cases hi; trivial
    | n + 4, hi => cases hi
  have tU := arun_sound (p := p) (l := l) (e := e) (R := R') (s := s) (below := below) (B := s.heap.size) (c0 := 0) (res := (some (aI 1), (I', L', ()))) C u_ok hK rfl hSP hv4 olU ⟨rfl, rfl⟩ rfl rfl (callk_sound pg_ok u_ok hv4 olU 15) hcode fu 18 ls18 [] (σ3.1, σ3.2.1, ()) g18 wfU (Nat.zero_le _) (Nat.le_refl _) hfu
  -- the store of references behind the constructors
  have hp15 := callk_pure (X := (L, xs)) pg_ok olC 15
  have wfa : aWf σa.2.2.1 1 := (wf0 (fun _ _ _ => none)).grow (n := 0) (by decide) rfl
  have alx : alv 1 (0, 0) := ⟨0, by decide, rfl⟩
  obtain ⟨q1, q2⟩ := hp15 105 [aR 0 0] σa none σ1 _ rfl c1 (fun v hv => by
    rcases List.mem_cons.mp hv with rfl | hv
    · exact alx
    · cases hv) wfa (by decide)
  have hw' : ((40, 0) : AR) = nm σ1.2.2.2 ∧ σ1.2.2.2 < 284 ∧ w.2 = σ1.2.2.2 + 1 ∧ w.1 = upR σ1.2.2.1 40 0 (fun _ => none) := olC.2 _ _ _ hw
  have wfb : aWf (σb σ1 w).2.2.1 (σb σ1 w).2.2.2 := by
    show aWf w.1 w.2
    rw [hw'.2.2.1]
    have : w.1 = upR σ1.2.2.1 40 0 (fun _ => none) := hw'.2.2.2
    rw [this]
    have q5 : aWf σ1.2.2.1 σ1.2.2.2 := q2.2.1
    exact q5.grow hw'.2.1 hw'.1.symm
  have aly : alv (σb σ1 w).2.2.2 (40, 0) := by
    show alv w.2 (40, 0)
    rw [hw'.2.2.1, hw'.1]
    exact nm_alv hw'.2.1
  obtain ⟨q3, q4⟩ := hp15 199 [aR 40 0] (σb σ1 w) none σ3 _ rfl c2 (fun v hv => by
    rcases List.mem_cons.mp hv with rfl | hv
    · exact aly
    · cases hv) wfb (by show w.2 ≤ 284; rw [hw'.2.2.1]; exact hw'.2.1)
  have wf3 : aWf σ3.2.2.1 284 := by
    have h4 : aWf σ3.2.2.1 σ3.2.2.2 := q4.2.1
    rwa [hn3] at h4
  have res3 : ((some (aI 1), (I', L', σ3.2.2)) : Option AV × AS RHO).2.2.2.2 = 284 := hn3
  have tC : aT p l e R' s m #[Value.ref b] below meth c D s.heap.size spa v4 cA 4 0 opsC (fun w => w.2) (some (aI 1), (I', L', σ3.2.2)) 18 ls18 [] σ3 := by
    refine ⟨Nat.le_refl _, ⟨by show σ3.2.2.2 ≤ 284; rw [hn3]; exact Nat.le_refl _, by show aWf σ3.2.2.1 σ3.2.2.2; rw [hn3]; exact wf3, fun v hv => by cases hv; trivial⟩, ?_⟩
    show aW _ _ _ _ _ _ _ _ _ _ (MQ below (e_Q D s.heap.size (e_sp spa v4) cA (some (aI 1)) I' L' σ3.2.2.1 σ3.2.2.2) #[Value.ref b] s (σ3.2.2.2 - 0) (e_sz σ3.2.2.2 - e_sz 0) (fun q => s.heap.size ≤ q)) _ _ _ _ _ _ _ _ σ3.2.2.1 σ3.2.2.2 _ _ _
    rw [hn3]
    intro H locs lsA h1 h2 h3 h4
    refine W_imp (fun t ht => ?_) (tU.2.2 H locs lsA h1 (P_congr hagr h2) h3 h4)
    obtain ⟨o, a1, a2, ⟨b1, b2, b3, b4, b5⟩, a4⟩ := ht
    exact ⟨o, a1, a2, ⟨b1, b2, P_congr (fun t ht j hj hs => (hagr t ht j hj hs).symm) b3, b4, b5⟩, a4⟩
  have g0 : aG (vok 0) 4 ls0 [] := by
    refine ⟨rfl, fun i v hi => ?_, fun v hv => by cases hv⟩
    match i, hi with
    | 0, hi => cases hi; exact Or.inr (Or.inr (Or.inr (Or.inr (Or.inl rfl))))
    | 1, hi => cases hi
    | 2, hi => cases hi
    | 3, hi => cases hi
    | n + 4, hi => cases hi
  have t0 := aseg_sound (p := p) (l := l) (e := e) (R := R') (s := s) (below := below) (B := s.heap.size) (c0 := 0) (d := 15) (O := opsC) (Cn := fun w => w.2) (res := (some (aI 1), (I', L', σ3.2.2))) (k := fun pc ls st σ => @ite _ (pc = 18 ∧ ls = ls18 ∧ st = [] ∧ σ = σ3) (Classical.propDecidable _) (some (some (aI 1), (I', L', σ3.2.2))) none) C u_ok hK rfl hSP hv4 olC ⟨rfl, rfl⟩ (by show 284 - 0 = σ3.2.2.2 - 0; rw [hn3]) (by show e_sz 284 - e_sz 0 = e_sz σ3.2.2.2 - e_sz 0; rw [hn3]) (callk_sound pg_ok u_ok hv4 olC 15) hcode [18] [] (fun pc ls st σ _ _ _ _ hk => by
      by_cases hq : pc = 18 ∧ ls = ls18 ∧ st = [] ∧ σ = σ3
      · obtain ⟨rfl, rfl, rfl, rfl⟩ := hq
        exact tC
      · rw [if_neg hq] at hk; cases hk) 11 0 ls0 [] σz g0 (wf0 _) (Nat.le_refl _) (by decide) (by
      rw [law_pre c1 hw c2, if_pos ⟨rfl, rfl, rfl, rfl⟩])
  have he : e_ls s.heap.size (e_sp spa v4) 0 ls0 = lv_args 0 [Value.ref b] := by
    show [(0, e_sp spa v4 300)] = [(0, Value.ref b)]
    unfold e_sp
    rw [if_neg (by decide), h300]
  have hlv : lv_has (lg_sl [Value.ref b] ++ List.replicate (4 - (lg_sl [Value.ref b]).length) Slot.unset).toArray 4 (e_ls s.heap.size (e_sp spa v4) 0 ls0) := by
    rw [he]
    exact lv_entry [Value.ref b] (Nat.le_of_ble_eq_true rfl)
  have hW := t0.2.2 s.heap [] _ rfl (fun k q hq => by
    have hq : ([] : va_W)[k]? = some q := hq
    cases hq) va_S.rf hlv
  have hW2 := W_room (R := room_1) (R' := R') (by decide) (by decide) (by show e_sz 284 - e_sz 0 ≤ 7302250; have := e_sz_284; omega) (by decide) (W_imp (fun t ht => by
    have ht : MQ below (e_Q D s.heap.size (e_sp spa v4) cA (some (aI 1)) I' L' σ3.2.2.1 σ3.2.2.2) #[Value.ref b] s (σ3.2.2.2 - 0) (e_sz σ3.2.2.2 - e_sz 0) (fun q => s.heap.size ≤ q) t := ht
    rw [hn3] at ht
    exact lw_end (b := b) rfl ht) hW)
  rw [lg_entry_eq]
  exact hW2
end
set_option maxHeartbeats 4000000 in
theorem lw_walk (hm : lawMath) (l : Launch) (b : Addr) (xs : List Int32) : MetFree l x (headSpec (Jvm.Cond.code x code maxLocals ret :: tables_1) room_1) (lw_P b xs) (fun _ _ _ _ _ => True) lw_Q := by
  refine MetFree.of_bodyS (code := code) (maxLocals := maxLocals) (ret := ret) (by decide) ?_ ?_
  · intro args s m h hn
    obtain ⟨meth, c, h1, h2, h3, h4, h5, h6, -, -⟩ := Cond.code_spec hn (atoms_spec (ws := Jvm.Cond.code x code maxLocals ret :: tables_1) h _ List.mem_cons_self)
    exact ⟨meth, c, h1, h2, h3, h4, h5, h6⟩
  · intro p e s m args below meth c s₁ B hml0 hP _
    obtain ⟨rfl, hx, hbd, hgv⟩ := hP
    obtain ⟨scr, harrAt, hlist, hof, hsmall⟩ := hx
    obtain ⟨hcb, hkn, -, -⟩ := State.arrayAt?_spec harrAt
    have hown : s.vm.findClass R_law = some m.cls := findClass_of_methodNamed B.named
    have hts0 : ∀ c ∈ (Jvm.Cond.code x code maxLocals ret :: tables_1), c.before #[Value.ref b] s = true := atoms_spec (ws := Jvm.Cond.code x code maxLocals ret :: tables_1) B.pre
    have hts : ∀ w ∈ lw_tbl, w.before #[Value.ref b] s = true := k2_hts_sels lw_privs (fun w hw => hts0 w (List.mem_cons_of_mem _ hw)) lw_privs_ok
    have hml : c.maxLocals = 4 := B.maxLocals_eq (hts0 _ List.mem_cons_self)
    have X₀ : Stand p l e room_1 s m #[Value.ref b] below meth c s₁ [] 0 0 := Stand.of_body B
    have hh0 : s₁.heap = s.heap := by rw [B.state]; rfl
    have hsz : scr.slots.size = xs.length := by rw [← Array.length_toList, hlist, List.length_map]
    have hval : ∀ j : Nat, j < xs.length → scr.slots[j]? = some (.int (xs.getD j 0)) := fun j hj => by
      rw [← Array.getElem?_toList, hlist]
      simp [hj]
    have hbl : b < s.heap.size := (Array.getElem?_eq_some_iff.mp hcb).1
    have hX : va_X b xs.length (fun j => xs.getD j 0) s s.heap := ⟨scr, hcb, hof, hkn, hsz, hval⟩
    have K : W p l e room_1 s m #[Value.ref b] below meth c s₁.heap [] 0 0 (lw_Z below #[Value.ref b] s) (entryFrame m ([Value.ref b] : List Value).toArray 4) := by
      rw [hh0]
      exact whole_of hm l hbd ⟨B.exec, B.bytes, B.returns, hml, hown, hts, hX, hbl, B.notSynchronized, hgv, hts0 _ List.mem_cons_self, (name_of_methodNamed B.named B.method).1⟩
    obtain ⟨t, a1, o, b1, b2, b3⟩ := K s₁ rfl X₀
    exact ⟨t, o, a1, b1, b2, b3⟩
theorem lw_pre_spec {args : Array Value} {s : State} (h : (Jvm.Cond.and given_1 narrow_1).before args s = true) (hr : rest_1_c.before args s = true) : ∃ (b : Addr) (xs : List Int32), lw_P b xs args s := by
  have hs := flat_of_before _ h
  have hq := flat_of_before _ hr
  have hc : (Cond.count 1).before args s = true := hs _ (by decide +kernel)
  have harr : (Cond.arrayOf (.arg 0) .int).before args s = true := hs _ (by decide +kernel)
  have hle : (Cond.le (.length (.arg 0)) (.int 3072)).before args s = true := hs _ (by decide +kernel)
  have hlen : (Cond.isInt (.length (.arg 0))).before args s = true := hq _ (by decide +kernel)
  have hall : (Cond.all (.arg 0) (.isInt (.elem (.arg 0) (.index 0)))).before args s = true := hq _ (by decide +kernel)
  obtain ⟨b, xs, hb, hx⟩ := State.ints_of_pre rfl harr hlen hall
  have hsm : xs.length < 2 ^ 31 := hx.choose_spec.2.2.2
  have hev : (Term.length (.arg 0)).eval args s none [] s = some (.int xs.length.toInt32) := hx.length_eval hb
  have hv := Cond.le_ints hev (show (Term.int 3072).eval args s none [] s = some (.int 3072) from rfl)
  have hd : xs.length.toInt32 ≤ 3072 := by
    simpa [Cond.before, Cond.holds, hv] using hle
  have hN : xs.length ≤ 3072 := (Int32.ofNat_le_ofNat hsm (by decide)).mp (show Int32.ofNat xs.length ≤ Int32.ofNat 3072 from hd)
  exact ⟨b, xs, Cond.one_arg hc (show args[0]? = some (.ref b) from hb), hx, hN, h⟩
theorem lw_comes (hm : lawMath) (l : Launch) : Comes l x (Jvm.Cond.code x code maxLocals ret :: tables_1) room_1 (fun tb e args s => Calls_1 tb e args s ∧ rest_1 tb e args s ∧ Pre_1 tb e args s)
    (fun _ _ args s o t => lw_Q args s o t) := by
  intro p e ha hc hk s m args below hf hfit hheap happ hpre
  obtain ⟨b, xs, hP⟩ := lw_pre_spec hpre.2.2 hpre.2.1
  obtain ⟨k, o, h1, h2, h3, hQ⟩ := lw_walk hm l b xs p e ha hc hk s m args below hf ((Spec.applies_iff_loose hf).mp happ).1 hP trivial
  exact ⟨k, o, h1, h2, h3, hQ⟩
theorem lw_frame {s t : State} {o : Outcome} {args : Array Value} (h : Framed s o t [] 600000 7302250) :
    Framed s o t (fieldLocs frame_1_writes args s ++ arrayLocs frame_1_arrays args s ++ staticLocs frame_1_statics s) 600000 7302250 := h
theorem lw_limb (hm : lawMath) (L : Cond) (hL : ∀ (args : Array Value) (s t : State), L.after args s (.returned (some (.int 1))) t = true) :
    ArmFor flags0 classFile x code maxLocals ret World_1 tables_1 room_1 Calls_1 rest_1 Pre_1
      (fun tb e a s o t => postC L tb e a s o t ∧ Framed s o t (fieldLocs frame_1_writes a s ++ arrayLocs frame_1_arrays a s ++ staticLocs frame_1_statics s) 600000 7302250) := by
  intro l _ _ _ p e ha hc hk s m args below hf hfit hheap happ hpre
  obtain ⟨k, o, h1, h2, h3, rfl, hF⟩ := lw_comes hm l p e ha hc hk s m args below hf hfit hheap happ hpre
  exact ⟨k, _, h1, h2, h3, hL args s _, lw_frame hF⟩
theorem i_vc_of (hm : lawMath) : Claimed_1_1 ∧ Claimed_1_2 := ⟨lw_limb hm limb_1_1 (fun args s t => by simp [limb_1_1, Cond.after, Cond.holds, Cond.value]), lw_limb hm limb_1_2 (fun args s t => Cond.after_iff.mpr (by
  first | (rw [show limb_1_2 = Cond.eq .result (.int 1) from rfl, Cond.eq_ints (x := 1) (y := 1) rfl rfl]; simp; done) | (simp [limb_1_2, Cond.value, Term.eval]; done)))⟩
