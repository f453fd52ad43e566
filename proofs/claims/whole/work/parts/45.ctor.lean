/-! the constructors: AM with references that move, run by the kernel -/
abbrev RHO : Type := A3 (Option AR) × Nat
def opsC : AO RHO := (fun w => w.1, fun w f i j v => some (up3 w.1 f i j v, w.2), fun w => bif Nat.blt w.2 284 then some (nm w.2, (upR w.1 (nm w.2).1 (nm w.2).2 (fun _ => none), w.2 + 1)) else none)
theorem olC : OL opsC (fun w => w.2) := by
  constructor
  · intro w f i j v w' h
    cases h
    exact ⟨rfl, rfl⟩
  · intro w x w' h
    have h : (bif Nat.blt w.2 284 then some (nm w.2, (upR w.1 (nm w.2).1 (nm w.2).2 (fun _ => none), w.2 + 1)) else none) = some (x, w') := h
    cases hb : Nat.blt w.2 284 with
    | false => rw [hb] at h; cases h
    | true =>
      rw [hb] at h
      cases h
      exact ⟨rfl, Nat.le_of_ble_eq_true hb, rfl, rfl⟩
theorem olU : OL opsU (fun _ => 284) := by
  constructor
  · intro w f i j v w' h; cases h
  · intro w x w' h; cases h
def usesX (i : Instr) : Bool := match i with
  | .iaload => true
  | .baload => true
  | .arraylength => true
  | _ => false
section
variable {ρ : Type}
theorem ains_X {O : AO ρ} {X X' : AX} {d : Nat} {call : ACall ρ} {k : ACont ρ} {pc : Nat} {ins : Instr} {aux : List Nat} {ls : List (Option AV)} {st : List AV} {σ : AS ρ} (h : usesX ins = false) : ains O X d call k pc ins aux ls st σ = ains O X' d call k pc ins aux ls st σ := by
  cases ins <;> first | rfl | (cases h; done)
def noX (code : Nat → Option AE) : Prop := ∀ pc ins aux kill, code pc = some (ins, aux, kill) → usesX ins = false
theorem arun_X {O : AO ρ} {X X' : AX} {d : Nat} {call : ACall ρ} {code : Nat → Option AE} (h : noX code) : ∀ n, arun O X d call code n = arun O X' d call code n := by
  intro n
  induction n with
  | zero => rfl
  | succ n ih =>
    funext pc ls st σ
    show (match code pc with | some (ins, aux, kill) => ains O X d call (arun O X d call code n) pc ins aux (a_kill kill ls) st σ | none => none) = (match code pc with | some (ins, aux, kill) => ains O X' d call (arun O X' d call code n) pc ins aux (a_kill kill ls) st σ | none => none)
    cases hc : code pc with
    | none => rfl
    | some q =>
      obtain ⟨ins, aux, kill⟩ := q
      show ains O X d call (arun O X d call code n) pc ins aux (a_kill kill ls) st σ = ains O X' d call (arun O X' d call code n) pc ins aux (a_kill kill ls) st σ
      rw [ih]
      exact ains_X (h pc ins aux kill hc)
def iniL : List Nat := [0, 14, 19, 22, 29, 45, 57, 62, 65, 70, 105, 199]
/-- calls of constructors alone, with fuel n -/
noncomputable def callCo (O : AO ρ) (X : AX) (n : Nat) : Nat → ACall ρ
  | 0 => fun _ _ _ => none
  | d + 1 => fun m args σ => bif iniL.contains m then (match PG m with
    | some (k, code) => bif Nat.ble (a_ini args).length k then arun O X d (callCo O X n d) code n 0 (a_pad k (a_ini args)) [] σ else none
    | none => none) else none
theorem noX_of {code : Nat → Option AE} {n : Nat} (h : (List.range n).all (fun pc => match code pc with | some (ins, _, _) => !(usesX ins) | none => true) = true) (hn : ∀ pc, Nat.blt pc n = false → code pc = none) : noX code := by
  intro pc ins aux kill he
  cases hb : Nat.blt pc n with
  | false => rw [hn pc hb] at he; cases he
  | true =>
    have h1 := List.all_eq_true.mp h pc (List.mem_range.mpr (Nat.le_of_ble_eq_true hb))
    rw [he] at h1
    have h1 : (!(usesX ins)) = true := h1
    cases hu : usesX ins with
    | false => rfl
    | true => rw [hu] at h1; cases h1
theorem noX_0 : noX kd_X0_init := noX_of (n := 66) (by decide +kernel) (fun pc h => by unfold kd_X0_init; rw [h]; rfl)
theorem noX_14 : noX kd_X1_init := noX_of (n := 13) (by decide +kernel) (fun pc h => by unfold kd_X1_init; rw [h]; rfl)
theorem noX_19 : noX kd_X2_init := noX_of (n := 5) (by decide +kernel) (fun pc h => by unfold kd_X2_init; rw [h]; rfl)
theorem noX_22 : noX kd_X3_init := noX_of (n := 78) (by decide +kernel) (fun pc h => by unfold kd_X3_init; rw [h]; rfl)
theorem noX_29 : noX kd_X4_init := noX_of (n := 22) (by decide +kernel) (fun pc h => by unfold kd_X4_init; rw [h]; rfl)
theorem noX_45 : noX kd_X5_init := noX_of (n := 23) (by decide +kernel) (fun pc h => by unfold kd_X5_init; rw [h]; rfl)
theorem noX_57 : noX kd_X6_init := noX_of (n := 13) (by decide +kernel) (fun pc h => by unfold kd_X6_init; rw [h]; rfl)
theorem noX_62 : noX kd_X7_init := noX_of (n := 14) (by decide +kernel) (fun pc h => by unfold kd_X7_init; rw [h]; rfl)
theorem noX_65 : noX kd_X8_init := noX_of (n := 10) (by decide +kernel) (fun pc h => by unfold kd_X8_init; rw [h]; rfl)
theorem noX_70 : noX kd_X9_init := noX_of (n := 54) (by decide +kernel) (fun pc h => by unfold kd_X9_init; rw [h]; rfl)
theorem noX_105 : noX kd_X10_init := noX_of (n := 292) (by decide +kernel) (fun pc h => by unfold kd_X10_init; rw [h]; rfl)
theorem noX_199 : noX kd_X11_init := noX_of (n := 205) (by decide +kernel) (fun pc h => by unfold kd_X11_init; rw [h]; rfl)
theorem iniX : ∀ m ∈ iniL, ∀ k code, PG m = some (k, code) → noX code := by
  intro m hm k code h
  unfold iniL at hm
  simp only [List.mem_cons, List.not_mem_nil, or_false] at hm
  rcases hm with rfl | rfl | rfl | rfl | rfl | rfl | rfl | rfl | rfl | rfl | rfl | rfl
  · cases (show PG 0 = some (2, kd_X0_init) from rfl).symm.trans h; exact noX_0
  · cases (show PG 14 = some (1, kd_X1_init) from rfl).symm.trans h; exact noX_14
  · cases (show PG 19 = some (1, kd_X2_init) from rfl).symm.trans h; exact noX_19
  · cases (show PG 22 = some (3, kd_X3_init) from rfl).symm.trans h; exact noX_22
  · cases (show PG 29 = some (2, kd_X4_init) from rfl).symm.trans h; exact noX_29
  · cases (show PG 45 = some (3, kd_X5_init) from rfl).symm.trans h; exact noX_45
  · cases (show PG 57 = some (1, kd_X6_init) from rfl).symm.trans h; exact noX_57
  · cases (show PG 62 = some (1, kd_X7_init) from rfl).symm.trans h; exact noX_62
  · cases (show PG 65 = some (2, kd_X8_init) from rfl).symm.trans h; exact noX_65
  · cases (show PG 70 = some (1, kd_X9_init) from rfl).symm.trans h; exact noX_70
  · cases (show PG 105 = some (2, kd_X10_init) from rfl).symm.trans h; exact noX_105
  · cases (show PG 199 = some (1, kd_X11_init) from rfl).symm.trans h; exact noX_199
theorem callCo_X {O : AO ρ} {X X' : AX} {n : Nat} : ∀ d, callCo O X n d = callCo O X' n d := by
  intro d
  induction d with
  | zero => rfl
  | succ d ih =>
    funext m args σ
    show (bif iniL.contains m then (match PG m with
      | some (k, code) => bif Nat.ble (a_ini args).length k then arun O X d (callCo O X n d) code n 0 (a_pad k (a_ini args)) [] σ else none
      | none => none) else none) = (bif iniL.contains m then (match PG m with
      | some (k, code) => bif Nat.ble (a_ini args).length k then arun O X' d (callCo O X' n d) code n 0 (a_pad k (a_ini args)) [] σ else none
      | none => none) else none)
    cases hb : iniL.contains m with
    | false => rfl
    | true =>
      cases hp : PG m with
      | none => rfl
      | some q =>
        obtain ⟨k, code⟩ := q
        show (bif Nat.ble (a_ini args).length k then arun O X d (callCo O X n d) code n 0 (a_pad k (a_ini args)) [] σ else none) = (bif Nat.ble (a_ini args).length k then arun O X' d (callCo O X' n d) code n 0 (a_pad k (a_ini args)) [] σ else none)
        rw [ih, arun_X (X' := X') (iniX m (List.contains_iff_mem.mp hb) k code hp)]
theorem callCo_le {O : AO ρ} {X : AX} {n : Nat} : ∀ d m args σ, OLe (callCo O X n d m args σ) (callG O X d m args σ) := by
  intro d
  induction d with
  | zero => intro m args σ; exact OLe.none
  | succ d ih =>
    intro m args σ r hr
    have hr : (bif iniL.contains m then (match PG m with
      | some (k, code) => bif Nat.ble (a_ini args).length k then arun O X d (callCo O X n d) code n 0 (a_pad k (a_ini args)) [] σ else none
      | none => none) else none) = some r := hr
    show (match PG m with | some (n, code) => bif Nat.ble (a_ini args).length n then aval O X d (callG O X d) code 0 (a_pad n (a_ini args)) [] σ else none | none => none) = some r
    cases hb : iniL.contains m with
    | false => rw [hb] at hr; cases hr
    | true =>
      rw [hb] at hr
      cases hp : PG m with
      | none => rw [hp] at hr; cases hr
      | some q =>
        obtain ⟨k, code⟩ := q
        rw [hp] at hr
        have hr : (bif Nat.ble (a_ini args).length k then arun O X d (callCo O X n d) code n 0 (a_pad k (a_ini args)) [] σ else none) = some r := hr
        show (bif Nat.ble (a_ini args).length k then aval O X d (callG O X d) code 0 (a_pad k (a_ini args)) [] σ else none) = some r
        cases hl : Nat.ble (a_ini args).length k with
        | false => rw [hl] at hr; cases hr
        | true =>
          rw [hl] at hr
          exact aval_of (arun_mono ih n n (Nat.le_refl n) _ _ _ _ r hr)
end
def zI3 : A3 Int32 := fun _ _ _ => 0
def zL3 : A3 Int64 := fun _ _ _ => 0
def zX : AX := (0, fun _ => 0)
def zN (σ : AS RHO) (c : Nat) (f : AR → AS RHO → ARes RHO) : ARes RHO := match opsC.2.2 σ.2.2 with
  | some ((g, i), w) => if fob g = c + 1 then f (g, i) (upR σ.1 g i (fun _ => 0), upR σ.2.1 g i (fun _ => 0), w) else none
  | none => none
/-- both objects made -/
noncomputable def zRun (X : AX) : ARes RHO := zN (zI3, zL3, (fun _ _ _ => none, 0)) 10 (fun x σ => a_bv (callCo opsC X 600 15 105 [aQ (some x)] σ) (fun σ1 => zN σ1 11 (fun y σ2 => a_bv (callCo opsC X 600 15 199 [aQ (some y)] σ2) (fun σ3 => if x = (0, 0) ∧ y = (40, 0) then some (none, σ3) else none))))
def rsL0 : List (Nat × Nat × Nat) := [(0, 0, 0), (0, 0, 1), (0, 0, 2), (0, 0, 3), (0, 0, 4), (0, 0, 5), (0, 0, 6), (0, 0, 7), (0, 0, 8), (0, 0, 9), (0, 0, 10), (0, 0, 11), (0, 0, 12), (0, 0, 13), (1, 0, 0), (3, 0, 0), (4, 0, 0), (5, 0, 0), (5, 0, 1), (5, 0, 2), (5, 0, 3), (5, 0, 4), (5, 0, 5), (5, 1, 0), (5, 1, 1), (5, 1, 2), (5, 1, 3), (5, 1, 4), (5, 1, 5), (12, 0, 0), (12, 0, 1), (12, 0, 2), (5, 2, 0), (5, 2, 1), (5, 2, 2), (5, 2, 3), (5, 2, 4), (5, 2, 5), (5, 3, 0), (5, 3, 1), (5, 3, 2), (5, 3, 3), (5, 3, 4), (5, 3, 5), (5, 4, 0), (5, 4, 1), (5, 4, 2), (5, 4, 3), (5, 4, 4), (5, 4, 5), (15, 0, 0), (15, 0, 1), (15, 0, 2), (13, 0, 0), (13, 1, 0), (13, 2, 0), (16, 0, 0), (16, 0, 1), (16, 0, 2), (16, 0, 3), (16, 0, 4), (16, 0, 5), (16, 0, 6), (16, 0, 7), (16, 0, 8), (16, 0, 9), (16, 0, 10), (16, 0, 11), (16, 0, 12), (16, 0, 13), (16, 0, 14), (16, 0, 15), (13, 3, 0), (13, 4, 0), (13, 5, 0), (13, 6, 0), (13, 7, 0), (13, 8, 0), (13, 9, 0), (13, 10, 0), (13, 11, 0), (13, 12, 0), (13, 13, 0), (13, 14, 0), (13, 15, 0), (13, 16, 0), (13, 17, 0), (13, 18, 0), (19, 0, 0), (19, 0, 1), (19, 0, 2), (19, 0, 3), (19, 0, 4), (19, 0, 5), (17, 0, 0), (17, 0, 1), (17, 0, 2), (17, 1, 0), (17, 1, 1), (17, 1, 2)]
def rsL1 : List (Nat × Nat × Nat) := [(17, 2, 0), (17, 2, 1), (17, 2, 2), (17, 3, 0), (17, 3, 1), (17, 3, 2), (17, 4, 0), (17, 4, 1), (17, 4, 2), (17, 5, 0), (17, 5, 1), (17, 5, 2), (20, 0, 0), (20, 0, 1), (20, 0, 2), (20, 0, 3), (20, 0, 4), (20, 0, 5), (20, 0, 6), (20, 0, 7), (28, 0, 0), (28, 0, 1), (28, 0, 2), (28, 0, 3), (28, 0, 4), (29, 0, 0), (29, 0, 1), (29, 0, 2), (29, 0, 3), (29, 0, 4), (29, 0, 5), (29, 0, 6), (29, 0, 7), (29, 0, 8), (29, 0, 9), (29, 0, 10), (29, 0, 11), (29, 0, 12), (29, 0, 13), (29, 0, 14), (29, 0, 15), (20, 1, 0), (20, 1, 1), (20, 1, 2), (20, 1, 3), (20, 1, 4), (20, 1, 5), (20, 1, 6), (20, 1, 7), (20, 2, 0), (20, 2, 1), (20, 2, 2), (20, 2, 3), (20, 2, 4), (20, 2, 5), (20, 2, 6), (20, 2, 7), (20, 3, 0), (20, 3, 1), (20, 3, 2), (20, 3, 3), (20, 3, 4), (20, 3, 5), (20, 3, 6), (20, 3, 7), (20, 4, 0), (20, 4, 1), (20, 4, 2), (20, 4, 3), (20, 4, 4), (20, 4, 5), (20, 4, 6), (20, 4, 7), (20, 5, 0), (20, 5, 1), (20, 5, 2), (20, 5, 3), (20, 5, 4), (20, 5, 5), (20, 5, 6), (20, 5, 7), (20, 6, 0), (20, 6, 1), (20, 6, 2), (20, 6, 3), (20, 6, 4), (20, 6, 5), (20, 6, 6), (20, 6, 7), (20, 7, 0), (20, 7, 1), (20, 7, 2), (20, 7, 3), (20, 7, 4), (20, 7, 5), (20, 7, 6), (20, 7, 7), (20, 8, 0), (20, 8, 1), (20, 8, 2)]
def rsL2 : List (Nat × Nat × Nat) := [(20, 8, 3), (20, 8, 4), (20, 8, 5), (20, 8, 6), (20, 8, 7), (20, 9, 0), (20, 9, 1), (20, 9, 2), (20, 9, 3), (20, 9, 4), (20, 9, 5), (20, 9, 6), (20, 9, 7), (20, 10, 0), (20, 10, 1), (20, 10, 2), (20, 10, 3), (20, 10, 4), (20, 10, 5), (20, 10, 6), (20, 10, 7), (20, 11, 0), (20, 11, 1), (20, 11, 2), (20, 11, 3), (20, 11, 4), (20, 11, 5), (20, 11, 6), (20, 11, 7), (20, 12, 0), (20, 12, 1), (20, 12, 2), (20, 12, 3), (20, 12, 4), (20, 12, 5), (20, 12, 6), (20, 12, 7), (20, 13, 0), (20, 13, 1), (20, 13, 2), (20, 13, 3), (20, 13, 4), (20, 13, 5), (20, 13, 6), (20, 13, 7), (20, 14, 0), (20, 14, 1), (20, 14, 2), (20, 14, 3), (20, 14, 4), (20, 14, 5), (20, 14, 6), (20, 14, 7), (20, 15, 0), (20, 15, 1), (20, 15, 2), (20, 15, 3), (20, 15, 4), (20, 15, 5), (20, 15, 6), (20, 15, 7), (20, 16, 0), (20, 16, 1), (20, 16, 2), (20, 16, 3), (20, 16, 4), (20, 16, 5), (20, 16, 6), (20, 16, 7), (20, 17, 0), (20, 17, 1), (20, 17, 2), (20, 17, 3), (20, 17, 4), (20, 17, 5), (20, 17, 6), (20, 17, 7), (20, 18, 0), (20, 18, 1), (20, 18, 2), (20, 18, 3), (20, 18, 4), (20, 18, 5), (20, 18, 6), (20, 18, 7), (34, 0, 0), (34, 0, 1), (34, 0, 2), (34, 0, 3), (32, 0, 0), (32, 1, 0), (32, 2, 0), (32, 3, 0), (40, 0, 1), (40, 0, 2), (40, 0, 3), (40, 0, 4), (40, 0, 6), (40, 0, 14), (40, 0, 15)]
def rsL3 : List (Nat × Nat × Nat) := [(40, 0, 16), (40, 0, 20), (40, 0, 21), (40, 0, 22), (40, 0, 23), (40, 0, 24), (40, 0, 25), (40, 0, 27), (40, 0, 28), (40, 0, 29), (40, 0, 30), (40, 0, 31), (40, 0, 32), (40, 0, 33), (40, 0, 34)]
def isL : List (Nat × Nat × Nat × Int) := [(1, 0, 1, 0), (3, 0, 1, 0), (3, 0, 2, (-1)), (6, 0, 0, 0), (6, 0, 1, 0), (6, 0, 2, 0), (6, 0, 3, 0), (6, 0, 4, 0), (6, 0, 5, 0), (6, 0, 6, 0), (6, 0, 7, 0), (7, 0, 0, 0), (7, 0, 1, 0), (7, 0, 2, 0), (7, 0, 3, 0), (7, 0, 4, 0), (7, 0, 5, 0), (7, 0, 6, 0), (7, 0, 7, 0), (7, 0, 8, 0), (7, 0, 9, 0), (7, 0, 10, 0), (7, 0, 11, 0), (7, 0, 12, 0), (7, 0, 13, 0), (7, 0, 14, 0), (7, 0, 15, 0), (7, 0, 16, 0), (7, 0, 17, 0), (7, 0, 18, 0), (7, 0, 19, 0), (7, 0, 20, 0), (7, 0, 21, 0), (7, 0, 22, 0), (7, 0, 23, 0), (8, 0, 0, 0), (8, 0, 1, 0), (8, 0, 2, 0), (8, 0, 3, 0), (8, 0, 4, 0), (8, 0, 5, 0), (8, 0, 6, 0), (8, 0, 7, 0), (8, 0, 8, 0), (8, 0, 9, 0), (8, 0, 10, 0), (8, 0, 11, 0), (8, 0, 12, 0), (8, 0, 13, 0), (8, 0, 14, 0), (9, 0, 0, 0), (9, 0, 1, 0), (9, 0, 2, 0), (9, 0, 3, 0), (9, 0, 4, 0), (9, 0, 5, 0), (9, 0, 6, 0), (9, 0, 7, 0), (9, 0, 8, 0), (9, 0, 9, 0), (9, 0, 10, 0), (9, 0, 11, 0), (9, 0, 12, 0), (9, 0, 13, 0), (9, 0, 14, 0), (9, 0, 15, 0), (9, 0, 16, 0), (9, 0, 17, 0), (9, 0, 18, 0), (9, 0, 19, 0), (9, 0, 20, 0), (9, 0, 21, 0), (9, 0, 22, 0), (9, 0, 23, 0), (9, 0, 24, 0), (9, 0, 25, 0), (9, 0, 26, 0), (9, 0, 27, 0), (9, 0, 28, 0), (9, 0, 29, 0), (10, 0, 0, 0), (10, 0, 1, 0), (10, 0, 2, 0), (10, 0, 3, 0), (10, 0, 4, 0), (10, 0, 5, 0), (10, 0, 6, 0), (5, 0, 6, 0), (5, 2, 7, 0), (5, 3, 7, 0), (5, 4, 7, 0), (28, 0, 7, 0), (32, 0, 1, 0), (32, 1, 1, 0), (32, 2, 1, 0), (32, 3, 1, 0), (40, 0, 5, 0), (40, 0, 12, 0), (40, 0, 13, (-1)), (41, 0, 0, 0), (41, 0, 1, 0), (41, 0, 2, 0), (41, 0, 3, 0), (41, 0, 4, 0), (41, 0, 5, 0), (41, 0, 6, 0), (41, 0, 7, 0), (41, 0, 8, 0), (41, 0, 9, 0), (41, 0, 10, 0), (41, 0, 11, 0), (41, 0, 12, 0), (41, 0, 13, 0), (41, 0, 14, 0), (41, 0, 15, 0), (41, 0, 16, 0), (41, 0, 17, 0), (41, 0, 18, 0), (41, 0, 19, 0), (41, 0, 20, 0), (41, 0, 21, 0), (41, 0, 22, 0), (41, 0, 23, 0), (41, 0, 24, 0), (41, 0, 25, 0), (41, 0, 26, 0), (41, 0, 27, 0), (41, 0, 28, 0), (41, 0, 29, 0), (41, 0, 30, 0), (41, 0, 31, 0), (41, 0, 32, 0), (41, 0, 33, 0), (41, 0, 34, 0), (41, 0, 35, 0), (41, 0, 36, 0), (41, 0, 37, 0), (41, 0, 38, 0), (41, 0, 39, 0), (41, 0, 40, 0), (41, 0, 41, 0), (41, 0, 42, 0), (41, 0, 43, 0), (41, 0, 44, 0), (41, 0, 45, 0), (41, 0, 46, 0), (41, 0, 47, 0), (41, 0, 48, 0), (41, 0, 49, 0), (41, 0, 50, 0), (41, 0, 51, 0), (41, 0, 52, 0), (41, 0, 53, 0), (41, 0, 54, 0), (41, 0, 55, 0), (41, 0, 56, 0), (41, 0, 57, 0), (41, 0, 58, 0), (41, 0, 59, 0), (41, 0, 60, 0), (41, 0, 61, 0), (41, 0, 62, 0), (41, 0, 63, 0), (41, 0, 64, 0), (41, 0, 65, 0), (41, 0, 66, 0), (41, 0, 67, 0), (41, 0, 68, 0), (41, 0, 69, 0), (41, 0, 70, 0), (41, 0, 71, 0), (41, 0, 72, 0), (41, 0, 73, 0), (41, 0, 74, 0), (41, 0, 75, 0), (41, 0, 76, 0), (41, 0, 77, 0), (41, 0, 78, 0), (41, 0, 79, 0), (41, 0, 80, 0), (41, 0, 81, 0), (41, 0, 82, 0), (41, 0, 83, 0), (41, 0, 84, 0), (43, 0, 0, 0), (43, 0, 1, 0), (43, 0, 2, 0), (59, 0, 0, (-1)), (59, 0, 1, (-1)), (59, 0, 2, (-1)), (59, 0, 3, (-1))]
noncomputable def zOk (P : AS RHO → Bool) : Bool := match zRun zX with
  | some (none, σ) => P σ
  | _ => false
theorem z_rs0 : zOk (fun σ => rsL0.all (fun e => decide (σ.2.2.1 e.1 e.2.1 e.2.2 = LAY e.1 e.2.1 e.2.2))) = true := by decide +kernel
theorem z_rs1 : zOk (fun σ => rsL1.all (fun e => decide (σ.2.2.1 e.1 e.2.1 e.2.2 = LAY e.1 e.2.1 e.2.2))) = true := by decide +kernel
theorem z_rs2 : zOk (fun σ => rsL2.all (fun e => decide (σ.2.2.1 e.1 e.2.1 e.2.2 = LAY e.1 e.2.1 e.2.2))) = true := by decide +kernel
theorem z_rs3 : zOk (fun σ => rsL3.all (fun e => decide (σ.2.2.1 e.1 e.2.1 e.2.2 = LAY e.1 e.2.1 e.2.2))) = true := by decide +kernel
theorem z_is : zOk (fun σ => isL.all (fun e => decide (σ.1 e.1 e.2.1 e.2.2.1 = cI e.2.2.2))) = true := by decide +kernel
theorem z_n : zOk (fun σ => Nat.beq σ.2.2.2 284) = true := by decide +kernel
