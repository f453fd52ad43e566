/-! calls once more, for classes of which some methods are run otherwise (Math) -/
theorem MetofWF {l : Launch} {y : MethodName} {ws ws' : List Cond} {rm : Room} {Pc : Array Value → State → Prop} {Qc : Array Value → State → Outcome → State → Prop} {mc ms : Nat} {free : Addr → Prop} {cc : ByteArray} {maxL : Nat} {ret : Option FieldType}
    (hy : plainFor y = true) (hw : ws = Cond.code y cc maxL ret :: ws')
    (body : ∀ p e s m args below meth c s₁, BodyLoose p l y (headSpec ws rm) cc maxL ret e s m args below meth c s₁ → c.maxLocals = maxL → Pc args s →
      W p l e (headSpec ws rm).room s m args below meth c s.heap [] 0 0 (MQ below Qc args s mc ms free) (entryFrame m args maxL)) : Met l y ws rm Pc Qc mc ms free := by
  refine MetFree.of_bodySF (code := cc) (maxLocals := maxL) (ret := ret) hy ?_ ?_
  · intro args s m h hn
    obtain ⟨meth, c, h1, h2, h3, h4, h5, h6, -, -⟩ := Cond.code_spec hn (atoms_spec (ws := ws) h _ (by rw [hw]; exact List.mem_cons_self))
    exact ⟨meth, c, h1, h2, h3, h4, h5, h6⟩
  · intro p e s m args below meth c s₁ B hml hP _
    have hh0 : s₁.heap = s.heap := by rw [B.state]; rfl
    obtain ⟨t, a1, o, b1, b2, b3⟩ := body p e s m args below meth c s₁ B hml hP s₁ hh0 (Stand.of_body B)
    exact ⟨t, o, a1, b1, b2, ⟨b3.1, b3.2⟩⟩
section Cz
variable {ρ : Type} {l : Launch} {D : va_G} {B : Nat} {spa : Nat → Nat} {v4 : Value} {cA : Nat → ClassId} {PGm : Nat → Option MT}
variable {O : AO ρ} {Cn : ρ → Nat} {X : AX}
def PGk (PGm : Nat → Option MT) : Prop := ∀ mi M', PGm mi = some M' → plainFor M'.1 = true ∧ ∃ code, PG mi = some (M'.2.2.1, code) ∧ ∀ pc ins aux kill, code pc = some (ins, aux, kill) → okI PGm M' pc ins aux
theorem callk_pure (hok : PGk PGm) (hOL : OL O Cn) : ∀ d, aCp PGm O Cn (callG O X d) := by
  intro d
  induction d with
  | zero => intro mi av σ1 o σ2 M' _ h; cases h
  | succ d ih =>
    intro mi av σ1 o σ2 M' hm h hv hWf hn
    obtain ⟨-, code, hp, hc⟩ := hok mi M' hm
    obtain ⟨hl, fu, hr⟩ := call_inv hp h
    exact arun_pure hOL ih hc fu 0 _ [] σ1 (ini_good hl hv) hWf hn hr
theorem callk_sound (hok : PGk PGm) (hU : uOk) (hv4 : isRV v4) (hOL : OL O Cn) : ∀ d, aCl PGm l D B X spa v4 cA O Cn d (callG O X d) := by
  intro d
  induction d with
  | zero => intro mi av σ1 o σ2 M' _ h; cases h
  | succ d ih =>
    intro mi av σ1 o σ2 M' hm h hv hWf hn
    obtain ⟨q1, q2⟩ := callk_pure hok hOL (d + 1) mi av σ1 o σ2 M' hm h hv hWf hn
    obtain ⟨hpl, code, hp, hc⟩ := hok mi M' hm
    obtain ⟨hl, fu, hr⟩ := call_inv hp h
    have hsp := e_sp_rv (spa := spa) hv4
    refine ⟨d, rfl, q1, q2, ?_⟩
    refine MetofWF (cc := M'.2.1) (maxL := M'.2.2.1) (ret := M'.2.2.2) hpl (ws' := GT) rfl ?_
    intro p e s m args below meth c s₁ Bd hml hpre
    obtain ⟨rfl, hsz, hP, hK, hSP⟩ := hpre
    have C : Cx p s m (av.map (e_v B (e_sp spa v4))).toArray meth c M' := ⟨Bd.exec, Bd.bytes, hml, findClass_of_methodNamed Bd.named, atoms_spec (ws := mWs M') Bd.pre, Bd.returns, Bd.notSynchronized, (name_of_methodNamed Bd.named Bd.method).1⟩
    have hT := arun_sound (R := e_rm d (Cn σ1.2.2) (Cn σ2.2.2)) (e := e) (below := below) (res := (o, σ2)) C hU hK hsz hSP hv4 hOL ⟨rfl, rfl⟩ rfl rfl ih hc fu 0 _ [] σ1 (ini_good hl hv) hWf (Nat.le_refl _) hn hr
    have hle : (lg_sl (av.map (e_v B (e_sp spa v4)))).length ≤ M'.2.2.1 := by rw [a_ini_len hsp]; exact hl
    have hW := hT.2.2 s.heap [] _ hsz hP va_S.rf (lv_mono (lv_entry (av.map (e_v B (e_sp spa v4))) hle) (fun q hq => by
      obtain ⟨j, w, h1, rfl⟩ := (e_ls_mem _ _ _).mp hq
      rw [← e_ls_ini hsp]
      exact (e_ls_mem _ _ _).mpr ⟨j, w, a_pad_get h1, rfl⟩))
    rw [Nat.sub_self, Nat.sub_self] at hW
    rw [lg_entry_eq]
    exact hW
end Cz
def kOk (e : MT × (Nat → Option AE)) : Prop := plainFor e.1.1 = true ∧ ∀ pc ins aux kill, e.2 pc = some (ins, aux, kill) → okI PGm e.1 pc ins aux
theorem ckk_ok {o : Nat} {M : MT} {n : Nat} {code : Nat → Option AE} (hp : plainFor M.1 = true) (hc : M.1.cls = clsN o) (h : ckM o M n code = true) (hn : ∀ pc, Nat.blt pc n = false → code pc = none) : kOk (M, code) := by
  refine ⟨hp, fun pc ins aux kill he => ?_⟩
  have he : code pc = some (ins, aux, kill) := he
  cases hb : Nat.blt pc n with
  | false => rw [hn pc hb] at he; cases he
  | true =>
    have h1 := List.all_eq_true.mp h pc (List.mem_range.mpr (Nat.le_of_ble_eq_true hb))
    rw [he] at h1
    exact ckI_ok hc h1
noncomputable def ckR (o : Nat) (M : MT) (lo n : Nat) (code : Nat → Option AE) : Bool := (List.range n).all (fun k => match code (lo + k) with | some (ins, aux, _) => ckI o M (lo + k) ins aux | none => true)
theorem ckR_ok {o : Nat} {M : MT} {lo n : Nat} {code : Nat → Option AE} (hc : M.1.cls = clsN o) (h : ckR o M lo n code = true) {pc : Nat} (h1 : lo ≤ pc) (h2 : pc < lo + n) {ins : Instr} {aux kill : List Nat} (he : code pc = some (ins, aux, kill)) : okI PGm M pc ins aux := by
  have h3 := List.all_eq_true.mp h (pc - lo) (List.mem_range.mpr (by omega))
  rw [show lo + (pc - lo) = pc by omega, he] at h3
  exact ckI_ok hc h3
