/-! what the tables must say of an instruction of a method -/
def isRT (ty : FieldType) : Prop := (∃ n, ty = FieldType.object n) ∨ ∃ t, ty = FieldType.array t
def okCl (M' : MT) (k : Nat) : Prop := M'.2.2.1 ≤ 19 ∧ Cond.code M'.1 M'.2.1 M'.2.2.1 M'.2.2.2 ∈ GT ∧ Cond.initialized M'.1.cls ∈ GT ∧ (M'.1.cls ≠ "java/lang/invoke/MethodHandle" ∧ M'.1.cls ≠ "java/lang/invoke/VarHandle" ∧ (parseMethodDescriptor M'.1.desc).map (fun d => d.parameters.length) = some k)
def okGet (M : MT) (i : Nat) (aux : List Nat) : Prop :=
  (∀ ci j kd u, aux = ci :: j :: kd :: u → kd ≤ 2 → ∃ q, vwCl[ci]? = some q ∧ j < q.2.2 ∧ Cond.fieldLink M.1.cls i (q.2.1 j).1 (q.2.1 j).2.1 (q.2.1 j).2.2.1 ∈ GT ∧ fkd ci j = kd) ∧
  (∀ u, aux = 100 :: 0 :: 3 :: u → Cond.fieldLink M.1.cls i "java/lang/String" "value" "[B" ∈ GT) ∧ (∀ u, aux = 100 :: 1 :: 3 :: u → Cond.fieldLink M.1.cls i "java/lang/String" "coder" "B" ∈ GT)
def okPut (M : MT) (i : Nat) (aux : List Nat) : Prop :=
  ∀ ci j kd u, aux = ci :: j :: kd :: u → ∃ q, vwCl[ci]? = some q ∧ j < q.2.2 ∧ Cond.fieldLink M.1.cls i (q.2.1 j).1 (q.2.1 j).2.1 (q.2.1 j).2.2.1 ∈ GT ∧ ((q.2.1 j).2.2.2 = false ∨ ((q.2.1 j).2.2.2 = true ∧ M.1.name = "<init>" ∧ (q.2.1 j).1 = M.1.cls)) ∧
    ((kd = 0 ∧ fkd ci j = 0 ∧ tyC ci j = .int) ∨ (kd = 3 ∧ fkd ci j = 0 ∧ tyC ci j = .boolean) ∨ (kd = 1 ∧ fkd ci j = 1 ∧ tyC ci j = .long) ∨ (kd = 2 ∧ fkd ci j = 2 ∧ isRT (tyC ci j)))
def okSts (M : MT) (i : Nat) (aux : List Nat) : Prop :=
  (∀ v u, aux = 0 :: v :: u → v = 1 ∧ Cond.fieldLink M.1.cls i "java/lang/String" "COMPACT_STRINGS" "Z" ∈ GT) ∧
  (∀ v u, aux = 1 :: v :: u → (v = 200 ∧ Cond.fieldLink M.1.cls i "CoachAhead$Reader" "HEAD_LEAST" "[I" ∈ GT) ∨ (v = 201 ∧ Cond.fieldLink M.1.cls i "CoachAhead$Reader" "HEAD_MOST" "[I" ∈ GT) ∨ (v = 400 ∧ Cond.fieldLink M.1.cls i "jdk/internal/util/Preconditions" "SIOOBE_FORMATTER" "Ljava/util/function/BiFunction;" ∈ GT))
def okSw (pc : Nat) (df lo hi : Int) (offs : Array Int) (aux : List Nat) : Prop :=
  ∀ d ts, aux = d :: ts → (pc : Int) + df = (d : Nat) ∧ hi = lo + ts.length - 1 ∧ -1000 ≤ lo ∧ lo ≤ 1000 ∧ ts.length ≤ 1000 ∧ ∀ (i t : Nat), ts[i]? = some t → ∃ off, offs[i]? = some off ∧ (pc : Int) + off = (t : Nat)
def okI (PGm : Nat → Option MT) (M : MT) (pc : Nat) (ins : Instr) (aux : List Nat) : Prop := match ins with
  | .tableswitch df lo hi offs => (∃ len, decode M.2.1 pc = .ok (.tableswitch df lo hi offs, len)) ∧ okSw pc df lo hi offs aux
  | i => decode M.2.1 pc = .ok (i, ilen i) ∧ okP M pc i aux ∧ (match i with
    | .ldc x => (∀ v u, aux = 0 :: v :: u → Cond.constant M.1.cls x (Int32.ofNat v) ∈ GT) ∧ (∀ v u, aux = 1 :: v :: u → (M.1.cls, x, v) ∈ srL ∧ v < 27)
    | .ldc_w x => ∀ v u, aux = 0 :: v :: u → Cond.constant M.1.cls x (Int32.ofNat v) ∈ GT
    | .ldc2_w x => ∀ v u, aux = v :: u → Cond.constantLong M.1.cls x (Int64.ofNat v) ∈ GT
    | .getfield x => okGet M x aux
    | .putfield x => okPut M x aux
    | .getstatic x => okSts M x aux
    | .new x => ∀ ci u, aux = ci :: u → ∃ q, vwCl[ci]? = some q ∧ Cond.classLink M.1.cls x q.1 ∈ GT ∧ Cond.instantiable q.1 q.2.2 ∈ GT ∧ Cond.initialized q.1 ∈ GT
    | .newarray a => ∀ t u, aux = t :: u → 0 < t ∧ t ≤ 4 ∧ newarray.typeOf a = tyA t ∧ Cond.arrayClass (newarray.typeOf a) ∈ GT
    | .anewarray x => ∀ t u, aux = t :: u → 5 ≤ t ∧ ∃ q, vwCl[t - 5]? = some q ∧ Cond.classLink M.1.cls x q.1 ∈ GT ∧ q.1 ∈ aoL
    | .invokestatic x => (∀ u, aux = 9999 :: u → Cond.methodLink M.1.cls x arraycopyName ∈ GT ∧ Cond.native arraycopyName ∈ GT ∧ Cond.static arraycopyName ∈ GT ∧ Cond.initialized "java/lang/System" ∈ GT) ∧
        (∀ mi k rk u, aux = mi :: k :: rk :: u → mi ≠ 9999 → ∃ M', PGm mi = some M' ∧ Cond.methodLink M.1.cls x M'.1 ∈ GT ∧ Cond.static M'.1 ∈ GT ∧ okCl M' k)
    | .invokevirtual x => ∀ mi k rk cl u, aux = mi :: k :: rk :: cl :: u → ∃ M', PGm mi = some M' ∧ Cond.methodLink M.1.cls x M'.1 ∈ GT ∧ Cond.instanceMethod M'.1 ∈ GT ∧ Cond.selects M'.1.cls M'.1 M'.1 ∈ GT ∧ 0 < k ∧ okCl M' (k - 1) ∧ ((cl = 101 ∧ M'.1.cls = "java/lang/String") ∨ ∃ ci q, cl = ci + 1 ∧ ci < 100 ∧ vwCl[ci]? = some q ∧ q.1 = M'.1.cls)
    | .invokespecial x => (∀ u, aux = 9998 :: u → Cond.methodLink M.1.cls x Lib.objectInit ∈ GT ∧ Cond.instanceMethod Lib.objectInit ∈ GT ∧ Cond.code Lib.objectInit ⟨#[0xb1]⟩ 1 none ∈ GT) ∧
        (∀ mi k rk u, aux = mi :: k :: rk :: u → mi ≠ 9998 → ∃ M', PGm mi = some M' ∧ M'.1.name = "<init>" ∧ M'.2.2.2 = none ∧ Cond.instanceMethod M'.1 ∈ GT ∧ 0 < k ∧ okCl M' (k - 1) ∧ (Cond.methodLink M.1.cls x M'.1 ∈ GT ∨ (M.1.cls = RX10 ∧ (x, M'.1) ∈ nestL)))
    | .ireturn => (∀ u, aux = 0 :: u → M.2.2.2 = some .int) ∧ (∀ u, aux = 1 :: u → M.2.2.2 = some .boolean) ∧ (∀ u, aux = 2 :: u → M.2.2.2 = some .byte) ∧ (∀ u, aux = 3 :: u → M.2.2.2 = some .char)
    | .lreturn => M.2.2.2 = some .long
    | .areturn => ∃ ty, M.2.2.2 = some ty ∧ isRT ty
    | .return_ => M.2.2.2 = none
    | _ => True)
def vok (n : Nat) (v : AV) : Prop := match v with
  | .inr (.inr (.inl (some r))) => alv n r
  | .inr (.inr (.inr k)) => spv k
  | _ => True
theorem alv.mono {a b : Nat} {r : AR} (h : alv a r) (hab : a ≤ b) : alv b r := by
  obtain ⟨t, ht, he⟩ := h
  exact ⟨t, by omega, he⟩
theorem vok.mono {a b : Nat} {v : AV} (h : vok a v) (hab : a ≤ b) : vok b v := by
  rcases v with x | x | (- | r) | k
  · trivial
  · trivial
  · trivial
  · exact alv.mono h hab
  · exact h
/-- what live cells refer to is live -/
def aWf (rf : A3 (Option AR)) (n : Nat) : Prop := ∀ (r : AR), alv n r → ∀ j, j < fln r.1 → ∀ q, rf r.1 r.2 j = some q → alv n q
theorem aWf.val {rf : A3 (Option AR)} {n : Nat} (h : aWf rf n) {f i j : Nat} (hal : alv n (f, i)) (hj : j < fln f) : vok n (.inr (.inr (.inl (rf f i j)))) := by
  cases hq : rf f i j with
  | none => trivial
  | some q => exact h (f, i) hal j hj q hq
theorem out_lt {j : Int32} {k : Nat} (h : ¬ aout j k) : j.toNatClampNeg < k := Nat.not_le.mp fun q => h (Or.inr q)
theorem aG.mono {P P' : AV → Prop} {n : Nat} {ls : List (Option AV)} {st : List AV} (h : aG P n ls st) (hP : ∀ v, P v → P' v) : aG P' n ls st := ⟨h.1, fun i v hv => hP v (h.2.1 i v hv), fun v hv => hP v (h.2.2 v hv)⟩
theorem aG.drop {P : AV → Prop} {n : Nat} {ls : List (Option AV)} : ∀ {pre r : List AV}, aG P n ls (pre ++ r) → aG P n ls r := by
  intro pre
  induction pre with
  | nil => intro r h; exact h
  | cons v pre ih => intro r h; exact ih h.tl
theorem aWf.up {rf : A3 (Option AR)} {n : Nat} (h : aWf rf n) {f i j : Nat} {v : Option AR} (hv : vok n (.inr (.inr (.inl v)))) : aWf (up3 rf f i j v) n := by
  intro r hr k hk q hq
  unfold up3 at hq
  split at hq
  · subst hq; exact hv
  · exact h r hr k hk q hq
theorem aWf.grow {rf : A3 (Option AR)} {n : Nat} (hn : n < 284) (h : aWf rf n) {f i : Nat} (hnm : nm n = (f, i)) : aWf (upR rf f i (fun _ => none)) (n + 1) := by
  intro r hr k hk q hq
  unfold upR at hq
  split at hq
  · cases hq
  · rename_i hne
    obtain ⟨t, ht, he⟩ := hr
    by_cases htn : t = n
    · subst htn
      have h1 : nm t = r := by unfold nm; rw [List.getD_eq_getElem?_getD, he]; rfl
      rw [hnm] at h1
      exact absurd ⟨by rw [← h1], by rw [← h1]⟩ hne
    · exact (h r ⟨t, by omega, he⟩ k hk q hq).mono (by omega)
