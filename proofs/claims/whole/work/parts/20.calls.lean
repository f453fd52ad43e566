/-- what holds behind a method -/
def e_Q (D : va_G) (B : Nat) (sp : Nat → Value) (cA : Nat → ClassId) (o : Option AV) (I : A3 Int32) (L : A3 Int64) (rf : A3 (Option AR)) (n : Nat) : Array Value → State → Outcome → State → Prop := fun _ st oc t =>
  oc = .returned (o.map (e_v B sp)) ∧ t.heap.size = B + n ∧ va_P D vwCl (e_w B cA I L rf n) t.heap ∧ va_K D vwCl (tysL cA) t ∧ va_F (fun q => B ≤ q) st t
/-- what holds ahead of it -/
def e_P (SPf : State → Heap → Prop) (D : va_G) (B : Nat) (sp : Nat → Value) (cA : Nat → ClassId) (av : List AV) (I : A3 Int32) (L : A3 Int64) (rf : A3 (Option AR)) (n : Nat) : Array Value → State → Prop :=
  va_Pc (av.map (e_v B sp)) (fun U => U.heap.size = B + n ∧ va_P D vwCl (e_w B cA I L rf n) U.heap ∧ va_K D vwCl (tysL cA) U ∧ SPf U U.heap)
def e_rm (dd n n' : Nat) : Room := { frames := dd, cells := n' - n, slots := e_sz n' - e_sz n, locals := 38 * dd }
def MetA (SPf : State → Heap → Prop) (l : Launch) (D : va_G) (B : Nat) (sp : Nat → Value) (cA : Nat → ClassId) (M : MT) (dd : Nat) (av : List AV) (I : A3 Int32) (L : A3 Int64) (rf : A3 (Option AR)) (n : Nat) (o : Option AV) (I' : A3 Int32) (L' : A3 Int64) (rf' : A3 (Option AR)) (n' : Nat) : Prop :=
  Met l M.1 (mWs M) (e_rm dd n n') (e_P SPf D B sp cA av I L rf n) (e_Q D B sp cA o I' L' rf' n') (n' - n) (e_sz n' - e_sz n) (fun q => B ≤ q)
section
variable {p : Program} {l : Launch} {e : Env} {R : Room} {s : State} {m : MethodId} {args : Array Value} {below : List Frame} {meth : Method} {c : Code} {Q : State → Prop}
variable {D : va_G} {B : Nat} {sp : Nat → Value} {cA : Nat → ClassId} {c0 n : Nat} {I : A3 Int32} {L : A3 Int64} {rf : A3 (Option AR)} {M : MT} {pc : Nat} {ls : List (Option AV)} {r : List AV}
theorem sd_iret (C : Cx p s m args meth c M) (hK : va_K D vwCl (tysL cA) s) {x : Int32} {ty : FieldType} (hrt : M.2.2.2 = some ty) (hnar : narrow ty (.int x) = .int x) (hd : decode M.2.1 pc = .ok (.ireturn, 1)) : aW p l e R s m args below meth c (MQ below (e_Q D B sp cA (some (.inl x)) I L rf n) args s (n - c0) (e_sz n - e_sz c0) (fun q => B ≤ q)) D B sp cA M.2.2.1 c0 I L rf n pc ls [.inl x] := by
  obtain ⟨hx, hb, hml, hown, hts, hr, hlk, hnm⟩ := C
  intro H locs lsA h1 h2 h3 h4
  exact W.zret hx hb (hr.trans hrt) hnar (fun t ht hW => ⟨rfl, by rw [ht]; exact h1, by rw [ht]; exact h2, va_K.moved hW.alike hK, h3.F ht⟩) h3.2.2 hd hlk
theorem sd_lret (C : Cx p s m args meth c M) (hK : va_K D vwCl (tysL cA) s) {x : Int64} (hrt : M.2.2.2 = some .long) (hd : decode M.2.1 pc = .ok (.lreturn, 1)) : aW p l e R s m args below meth c (MQ below (e_Q D B sp cA (some (.inr (.inl x))) I L rf n) args s (n - c0) (e_sz n - e_sz c0) (fun q => B ≤ q)) D B sp cA M.2.2.1 c0 I L rf n pc ls [.inr (.inl x)] := by
  obtain ⟨hx, hb, hml, hown, hts, hr, hlk, hnm⟩ := C
  intro H locs lsA h1 h2 h3 h4
  exact W.lret hx hb (hr.trans hrt) (fun t ht hW => ⟨rfl, by rw [ht]; exact h1, by rw [ht]; exact h2, va_K.moved hW.alike hK, h3.F ht⟩) h3.2.2 hd hlk
theorem sd_aret (C : Cx p s m args meth c M) (hK : va_K D vwCl (tysL cA) s) {x : AV} {ty : FieldType} (hrt : M.2.2.2 = some ty) (hty : (∃ n, ty = FieldType.object n) ∨ ∃ t, ty = FieldType.array t) (hv : isRV (e_v B sp x)) (hd : decode M.2.1 pc = .ok (.areturn, 1)) : aW p l e R s m args below meth c (MQ below (e_Q D B sp cA (some x) I L rf n) args s (n - c0) (e_sz n - e_sz c0) (fun q => B ≤ q)) D B sp cA M.2.2.1 c0 I L rf n pc ls [x] := by
  obtain ⟨hx, hb, hml, hown, hts, hr, hlk, hnm⟩ := C
  intro H locs lsA h1 h2 h3 h4
  exact W.aret hx hb (hr.trans hrt) hty hv (fun t ht hW => ⟨rfl, by rw [ht]; exact h1, by rw [ht]; exact h2, va_K.moved hW.alike hK, h3.F ht⟩) h3.2.2 hd hlk
theorem sd_vret (C : Cx p s m args meth c M) (hK : va_K D vwCl (tysL cA) s) (hrt : M.2.2.2 = none) (hd : decode M.2.1 pc = .ok (.return_, 1)) : aW p l e R s m args below meth c (MQ below (e_Q D B sp cA none I L rf n) args s (n - c0) (e_sz n - e_sz c0) (fun q => B ≤ q)) D B sp cA M.2.2.1 c0 I L rf n pc ls [] := by
  obtain ⟨hx, hb, hml, hown, hts, hr, hlk, hnm⟩ := C
  intro H locs lsA h1 h2 h3 h4
  exact W.vret hx hb (hr.trans hrt) (fun t ht hW => ⟨rfl, by rw [ht]; exact h1, by rw [ht]; exact h2, va_K.moved hW.alike hK, h3.F ht⟩) h3.2.2 hd hlk
/-- behind a call -/
theorem sd_run {H : Heap} {locs : List Loc} {cells slots mc ms : Nat} {lsA : Array Slot} {st0 rest : List Value} {a : Array Value} {o : Option AV} {I' : A3 Int32} {L' : A3 Int64} {rf' : A3 (Option AR)} {n' : Nat}
    (hr : va_Run p l e R s m args below meth c H locs cells slots mc ms (F0 m pc lsA st0) rest (e_Q D B sp cA o I' L' rf' n' a) (fun q => B ≤ q)) (hS : va_S (fun q => B ≤ q) s.heap H locs)
    (kk : ∀ (H1 : Heap) (locs1 : List Loc), H1.size = B + n' → va_P D vwCl (e_w B cA I' L' rf' n') H1 → va_S (fun q => B ≤ q) s.heap H1 locs1 → W p l e R s m args below meth c H1 locs1 (cells + mc) (slots + ms) Q (F0 m (pc + 3) lsA ((o.map (e_v B sp)).toList ++ rest))) : W p l e R s m args below meth c H locs cells slots Q (F0 m pc lsA st0) := by
  intro T hT X
  obtain ⟨v, st₀, t, T', L2, h0, X', hL, e1, e2, ⟨hv, hz, hP1, hK1, hF1, hF2⟩, st⟩ := hr T hT X
  cases hv
  rw [h0] at hF1 hF2
  rw [← e1] at hz hP1 hF1 hF2
  obtain ⟨t2, a1, b1⟩ := kk T'.heap (locs ++ L2) hz hP1 ⟨Nat.le_trans hS.1 hF1, fun q h1 h2 => (hF2 q (Nat.lt_of_lt_of_le h1 hS.1) h2).trans (hS.2.1 q h1 h2), fun q hq => by
    rcases List.mem_append.mp hq with h | h
    · exact hS.2.2 q h
    · exact hL q h⟩ T' rfl X'
  exact ⟨t2, st t2 a1, b1⟩
end
