/-! AM's instructions on locals and stack, against the machine -/
def GT : List Cond := lw_tbl.filter goodWord
def mWs (M : MT) : List Cond := .code M.1 M.2.1 M.2.2.1 M.2.2.2 :: GT
def ilen (i : Instr) : Nat := match i with
  | .bipush _ => 2
  | .sipush _ => 3
  | .ldc _ => 2
  | .ldc_w _ => 3
  | .ldc2_w _ => 3
  | .iload _ => 2
  | .lload _ => 2
  | .aload _ => 2
  | .istore _ => 2
  | .lstore _ => 2
  | .astore _ => 2
  | .iinc _ _ => 3
  | .ifCond _ _ => 3
  | .if_icmp _ _ => 3
  | .goto _ => 3
  | .getfield _ => 3
  | .putfield _ => 3
  | .getstatic _ => 3
  | .new _ => 3
  | .newarray _ => 2
  | .anewarray _ => 3
  | .invokestatic _ => 3
  | .invokevirtual _ => 3
  | .invokespecial _ => 3
  | _ => 1
/-- what is known ahead of a plain instruction -/
def okP (M : MT) (pc : Nat) (ins : Instr) (aux : List Nat) : Prop := match ins with
  | .iconst v => Int32.ofInt v = cI v
  | .bipush v => (Int8.ofInt v).toInt32 = cI v
  | .sipush v => (Int16.ofInt v).toInt32 = cI v
  | .iinc _ n => Int32.ofInt n = cI n
  | .ifCond _ off => ∀ t ∈ aux.head?, (pc : Int) + off = (t : Nat)
  | .if_icmp _ off => ∀ t ∈ aux.head?, (pc : Int) + off = (t : Nat)
  | .goto off => ∀ t ∈ aux.head?, (pc : Int) + off = (t : Nat)
  | _ => True
def isPlain (i : Instr) : Bool := match i with
  | .iconst _ | .bipush _ | .sipush _ | .lconst _ | .iload_n _ | .iload _ | .lload_n _ | .lload _ | .aload_n _ | .aload _ | .istore_n _ | .istore _ | .lstore_n _ | .lstore _ | .astore_n _ | .astore _ | .iinc _ _ | .dup | .dup2 | .pop => true
  | .iadd | .isub | .imul | .idiv | .irem | .ineg | .iand | .ior | .ixor | .ishl | .ishr | .iushr | .i2b | .i2s | .i2c | .i2l | .l2i | .ladd | .lmul | .land | .lor | .ldiv | .lrem | .lshl | .lshr | .lcmp | .ifCond _ _ | .if_icmp _ _ | .goto _ => true
  | _ => false
def Cx (p : Program) (s : State) (m : MethodId) (args : Array Value) (meth : Method) (c : Code) (M : MT) : Prop :=
  p.tables.exec = Jvm.exec ∧ c.code = M.2.1 ∧ c.maxLocals = M.2.2.1 ∧ s.vm.findClass M.1.cls = some m.cls ∧ (∀ w ∈ mWs M, w.before args s = true) ∧ meth.sig.returnType = M.2.2.2 ∧ meth.locks = false ∧ meth.name = M.1.name
def e_sz (n : Nat) : Nat := ((List.range n).map (fun t => fln (nm t).1)).sum
/-- the machine goes on from AM's state as Q wants -/
def aW (p : Program) (l : Launch) (e : Env) (R : Room) (s : State) (m : MethodId) (args : Array Value) (below : List Frame) (meth : Method) (c : Code) (Q : State → Prop) (D : va_G) (B : Nat) (sp : Nat → Value) (cA : Nat → ClassId) (nL c0 : Nat) (I : A3 Int32) (L : A3 Int64) (rf : A3 (Option AR)) (n : Nat) (pc : Nat) (ls : List (Option AV)) (st : List AV) : Prop :=
  ∀ (H : Heap) (locs : List Loc) (lsA : Array Slot), H.size = B + n → va_P D vwCl (e_w B cA I L rf n) H → va_S (fun q => B ≤ q) s.heap H locs → lv_has lsA nL (e_ls B sp 0 ls) → W p l e R s m args below meth c H locs (n - c0) (e_sz n - e_sz c0) Q (F0 m pc lsA (st.map (e_v B sp)))
/-- locals and stack hold values of P -/
def aG (P : AV → Prop) (nL : Nat) (ls : List (Option AV)) (st : List AV) : Prop := ls.length = nL ∧ (∀ (i : Nat) (v : AV), ls[i]? = some (some v) → P v) ∧ ∀ v ∈ st, P v
theorem aG.tl {P : AV → Prop} {n : Nat} {ls : List (Option AV)} {v : AV} {r : List AV} (h : aG P n ls (v :: r)) : aG P n ls r := ⟨h.1, h.2.1, fun x hx => h.2.2 x (List.mem_cons_of_mem _ hx)⟩
theorem aG.hd {P : AV → Prop} {n : Nat} {ls : List (Option AV)} {v : AV} {r : List AV} (h : aG P n ls (v :: r)) : P v := h.2.2 v List.mem_cons_self
theorem aG.ps {P : AV → Prop} {n : Nat} {ls : List (Option AV)} {v : AV} {r : List AV} (h : aG P n ls r) (hv : P v) : aG P n ls (v :: r) := ⟨h.1, h.2.1, fun x hx => by
  rcases List.mem_cons.mp hx with rfl | hx
  · exact hv
  · exact h.2.2 x hx⟩
theorem aG.st {P : AV → Prop} {n i : Nat} {ls : List (Option AV)} {v : AV} {r : List AV} (h : aG P n ls r) (hv : P v) : aG P n (a_st i v ls) r := ⟨by rw [a_st_len]; exact h.1, fun j w hw => by
  rcases a_st_get hw with ⟨-, rfl⟩ | ⟨-, h2, -⟩
  · exact hv
  · exact h.2.1 j w h2, h.2.2⟩
theorem aG.st2 {P : AV → Prop} {n i : Nat} {ls : List (Option AV)} {v : AV} {r : List AV} (h : aG P n ls r) (hv : P v) : aG P n (a_st2 i v ls) r := ⟨by rw [a_st2_len]; exact h.1, fun j w hw => by
  rcases a_st2_get hw with ⟨-, rfl⟩ | ⟨-, -, h2, -⟩
  · exact hv
  · exact h.2.1 j w h2, h.2.2⟩
theorem aG.kill {P : AV → Prop} {n : Nat} {ks : List Nat} {ls : List (Option AV)} {r : List AV} (h : aG P n ls r) : aG P n (a_kill ks ls) r := ⟨by rw [a_kill_len]; exact h.1, fun j w hw => h.2.1 j w (a_kill_get ks hw), h.2.2⟩
def isRV (v : Value) : Prop := v = .null ∨ ∃ a, v = .ref a
theorem isRV.cat {v : Value} (h : isRV v) : v.category = 1 := by
  rcases h with rfl | ⟨a, rfl⟩ <;> rfl
theorem e_v_ref {B : Nat} {sp : Nat → Value} (hsp : ∀ k, isRV (sp k)) (x : Option AR ⊕ Nat) : isRV (e_v B sp (.inr (.inr x))) := by
  rcases x with (- | r) | k
  · exact Or.inl rfl
  · exact Or.inr ⟨_, rfl⟩
  · exact hsp k
section Pl
variable {p : Program} {l : Launch} {e : Env} {R : Room} {s : State} {m : MethodId} {args : Array Value} {below : List Frame} {meth : Method} {c : Code} {Q : State → Prop} {H : Heap} {locs : List Loc} {cells slots : Nat}
variable {cc : ByteArray} {pc : Nat} {ls : Array Slot} {rest : List Value}
theorem sd_ald (hexec : p.tables.exec = Jvm.exec) (hb : c.code = cc) {i : Nat} {v : Value} (hv : isRV v) (hdg : decode cc pc = .ok (.aload i, 2)) (hl : ls[i]? = some (.val v)) (k : W p l e R s m args below meth c H locs cells slots Q (F0 m (pc + 2) ls (v :: rest))) : W p l e R s m args below meth c H locs cells slots Q (F0 m pc ls rest) := by
  rcases hv with rfl | ⟨a, rfl⟩
  · exact lv_aloadN hexec hb hdg hl k
  · exact lv_aload hexec hb hdg hl k
theorem sd_ald_n (hexec : p.tables.exec = Jvm.exec) (hb : c.code = cc) {i : Fin 4} {v : Value} (hv : isRV v) (hdg : decode cc pc = .ok (.aload_n i, 1)) (hl : ls[(i : Nat)]? = some (.val v)) (k : W p l e R s m args below meth c H locs cells slots Q (F0 m (pc + 1) ls (v :: rest))) : W p l e R s m args below meth c H locs cells slots Q (F0 m pc ls rest) := by
  rcases hv with rfl | ⟨a, rfl⟩
  · exact lv_aload_nN hexec hb hdg rfl hl k
  · exact lv_aload_n hexec hb hdg rfl hl k
theorem sd_ast (hexec : p.tables.exec = Jvm.exec) (hb : c.code = cc) {i nL : Nat} {v : Value} (hv : isRV v) {lv : List (Nat × Value)} (hdg : decode cc pc = .ok (.astore i, 2)) (h : lv_has ls nL lv) (hn : i < nL) (kk : ∀ ls' : Array Slot, lv_has ls' nL ((i, v) :: lv.filter (fun q => !(q.1 == i) && !(q.1 + 1 == i && q.2.category == 2))) → W p l e R s m args below meth c H locs cells slots Q (F0 m (pc + 2) ls' rest)) : W p l e R s m args below meth c H locs cells slots Q (F0 m pc ls (v :: rest)) := by
  rcases hv with rfl | ⟨a, rfl⟩
  · exact lv_astoreN hexec hb hdg h hn rfl kk
  · exact lv_astore hexec hb hdg h hn rfl kk
theorem sd_ast_n (hexec : p.tables.exec = Jvm.exec) (hb : c.code = cc) {i : Fin 4} {nL : Nat} {v : Value} (hv : isRV v) {lv : List (Nat × Value)} (hdg : decode cc pc = .ok (.astore_n i, 1)) (h : lv_has ls nL lv) (hn : (i : Nat) < nL) (kk : ∀ ls' : Array Slot, lv_has ls' nL (((i : Nat), v) :: lv.filter (fun q => !(q.1 == (i : Nat)) && !(q.1 + 1 == (i : Nat) && q.2.category == 2))) → W p l e R s m args below meth c H locs cells slots Q (F0 m (pc + 1) ls' rest)) : W p l e R s m args below meth c H locs cells slots Q (F0 m pc ls (v :: rest)) := by
  rcases hv with rfl | ⟨a, rfl⟩
  · exact lv_astore_nN hexec hb hdg rfl h hn rfl kk
  · exact lv_astore_n hexec hb hdg rfl h hn rfl kk
end Pl
