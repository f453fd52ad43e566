/-! AM: a machine of my own over named cells. A reference is a name (family, index); a family has one class, or one array type and length. -/
abbrev AR : Type := Nat × Nat
abbrev AV : Type := Int32 ⊕ (Int64 ⊕ (Option AR ⊕ Nat))
abbrev aI (x : Int32) : AV := .inl x
abbrev aL (x : Int64) : AV := .inr (.inl x)
abbrev aQ (r : Option AR) : AV := .inr (.inr (.inl r))
abbrev aR (f i : Nat) : AV := .inr (.inr (.inl (some (f, i))))
abbrev aK (k : Nat) : AV := .inr (.inr (.inr k))
abbrev A3 (α : Type) : Type := Nat → Nat → Nat → α
def up3 {α : Type} (F : A3 α) (f i j : Nat) (v : α) : A3 α := fun f' i' j' => if f' = f ∧ i' = i ∧ j' = j then v else F f' i' j'
def upR {α : Type} (F : A3 α) (f i : Nat) (g : Nat → α) : A3 α := fun f' i' j' => if f' = f ∧ i' = i then g j' else F f' i' j'
abbrev AS (ρ : Type) : Type := A3 Int32 × A3 Int64 × ρ
/-- what may be asked of the references: read, write, make -/
abbrev AO (ρ : Type) : Type := (ρ → A3 (Option AR)) × (ρ → Nat → Nat → Nat → Option AR → Option ρ) × (ρ → Option (AR × ρ))
abbrev ARes (ρ : Type) : Type := Option (Option AV × AS ρ)
abbrev ACall (ρ : Type) : Type := Nat → List AV → AS ρ → ARes ρ
abbrev ACont (ρ : Type) : Type := Nat → List (Option AV) → List AV → AS ρ → ARes ρ
abbrev AX : Type := Nat × (Nat → Int32)
/-- an instruction, what is known of it ahead, the locals that are dead ahead of it -/
abbrev AE : Type := Instr × List Nat × List Nat
abbrev aout (i : Int32) (n : Nat) : Prop := i < 0 ∨ n ≤ i.toNatClampNeg
def a_clr (i : Nat) (ls : List (Option AV)) : List (Option AV) := match i with
  | 0 => ls
  | i' + 1 => match ls[i']? with
    | some (some (.inr (.inl _))) => ls.set i' none
    | _ => ls
def a_st (i : Nat) (v : AV) (ls : List (Option AV)) : List (Option AV) := (a_clr i ls).set i (some v)
def a_st2 (i : Nat) (v : AV) (ls : List (Option AV)) : List (Option AV) := ((a_clr i ls).set i (some v)).set (i + 1) none
/-- the list told out, then f of it -/
def a_frc {α : Type} : List (Option AV) → (List (Option AV) → α) → α
  | [], f => f []
  | none :: l, f => a_frc l (fun l' => f (none :: l'))
  | some v :: l, f => a_frc l (fun l' => f (some v :: l'))
theorem a_frc_eq {α : Type} : ∀ (l : List (Option AV)) (f : List (Option AV) → α), a_frc l f = f l := by
  intro l
  induction l with
  | nil => intro f; rfl
  | cons x l ih =>
    intro f
    cases x with
    | none => show a_frc l (fun l' => f (none :: l')) = _; rw [ih]
    | some v => show a_frc l (fun l' => f (some v :: l')) = _; rw [ih]
def a_kill : List Nat → List (Option AV) → List (Option AV)
  | [], ls => ls
  | i :: is, ls => a_kill is (ls.set i none)
def a_pop : Nat → List AV → List AV → Option (List AV × List AV)
  | 0, acc, st => some (acc, st)
  | n + 1, acc, v :: st => a_pop n (v :: acc) st
  | _ + 1, _, [] => none
def a_cat : List AV → Nat
  | [] => 0
  | .inr (.inl _) :: st => 2 + a_cat st
  | _ :: st => 1 + a_cat st
def a_if1 {α : Type} (c : Jvm.ClassFile.Cond) (x : Int32) (a b : α) : α := match c with
  | .eq => if x = 0 then a else b
  | .ne => if x = 0 then b else a
  | .lt => if x < 0 then a else b
  | .ge => if x < 0 then b else a
  | .gt => if 0 < x then a else b
  | .le => if 0 < x then b else a
def a_if2 {α : Type} (c : Jvm.ClassFile.Cond) (x y : Int32) (a b : α) : α := match c with
  | .eq => if x = y then a else b
  | .ne => if x = y then b else a
  | .lt => if x < y then a else b
  | .ge => if x < y then b else a
  | .gt => if y < x then a else b
  | .le => if y < x then b else a
/-- a small constant, as it is printed -/
def cI (v : Int) : Int32 := match v with
  | .ofNat n => Int32.ofNat n
  | .negSucc n => -(Int32.ofNat (n + 1))
def a_sw {α : Type} (x : Int32) : Int → List Nat → Nat → (Nat → α) → α
  | _, [], d, f => f d
  | lo, t :: ts, d, f => if x = cI lo then f t else a_sw x (lo + 1) ts d f
def a_bv {ρ : Type} (o : ARes ρ) (f : AS ρ → ARes ρ) : ARes ρ := match o with
  | some (none, σ) => f σ
  | _ => none
def a_bi {ρ : Type} (o : ARes ρ) (f : Int32 → AS ρ → ARes ρ) : ARes ρ := match o with
  | some (some (.inl x), σ) => f x σ
  | _ => none
def a_bl {ρ : Type} (o : ARes ρ) (f : Int64 → AS ρ → ARes ρ) : ARes ρ := match o with
  | some (some (.inr (.inl x)), σ) => f x σ
  | _ => none
def a_bq {ρ : Type} (o : ARes ρ) (f : Option AR ⊕ Nat → AS ρ → ARes ρ) : ARes ρ := match o with
  | some (some (.inr (.inr x)), σ) => f x σ
  | _ => none
section
variable {ρ : Type}
def a_ild (k : ACont ρ) (i pc : Nat) (ls : List (Option AV)) (st : List AV) (σ : AS ρ) : ARes ρ := match ls[i]? with
  | some (some (.inl x)) => k pc ls (.inl x :: st) σ
  | _ => none
def a_lld (k : ACont ρ) (i pc : Nat) (ls : List (Option AV)) (st : List AV) (σ : AS ρ) : ARes ρ := match ls[i]? with
  | some (some (.inr (.inl x))) => k pc ls (.inr (.inl x) :: st) σ
  | _ => none
def a_ald (k : ACont ρ) (i pc : Nat) (ls : List (Option AV)) (st : List AV) (σ : AS ρ) : ARes ρ := match ls[i]? with
  | some (some (.inr (.inr x))) => k pc ls (.inr (.inr x) :: st) σ
  | _ => none
def a_ist (k : ACont ρ) (i pc : Nat) (ls : List (Option AV)) (st : List AV) (σ : AS ρ) : ARes ρ := match st with
  | .inl x :: r => if i < ls.length then a_frc (a_st i (.inl x) ls) (fun l => k pc l r σ) else none
  | _ => none
def a_lst (k : ACont ρ) (i pc : Nat) (ls : List (Option AV)) (st : List AV) (σ : AS ρ) : ARes ρ := match st with
  | .inr (.inl x) :: r => if i + 1 < ls.length then a_frc (a_st2 i (.inr (.inl x)) ls) (fun l => k pc l r σ) else none
  | _ => none
def a_ast (k : ACont ρ) (i pc : Nat) (ls : List (Option AV)) (st : List AV) (σ : AS ρ) : ARes ρ := match st with
  | .inr (.inr x) :: r => if i < ls.length then a_frc (a_st i (.inr (.inr x)) ls) (fun l => k pc l r σ) else none
  | _ => none
def a_iinc (k : ACont ρ) (i : Nat) (n : Int) (pc : Nat) (ls : List (Option AV)) (st : List AV) (σ : AS ρ) : ARes ρ := match ls[i]? with
  | some (some (.inl x)) => a_frc (a_st i (.inl (x + cI n)) ls) (fun l => k (pc + 3) l st σ)
  | _ => none
def a_i1 (k : ACont ρ) (f : Int32 → Int32) (pc : Nat) (ls : List (Option AV)) (st : List AV) (σ : AS ρ) : ARes ρ := match st with
  | .inl x :: r => k (pc + 1) ls (.inl (f x) :: r) σ
  | _ => none
def a_i2 (k : ACont ρ) (f : Int32 → Int32 → Int32) (pc : Nat) (ls : List (Option AV)) (st : List AV) (σ : AS ρ) : ARes ρ := match st with
  | .inl y :: .inl x :: r => k (pc + 1) ls (.inl (f x y) :: r) σ
  | _ => none
def a_id (k : ACont ρ) (f : Int32 → Int32 → Int32) (pc : Nat) (ls : List (Option AV)) (st : List AV) (σ : AS ρ) : ARes ρ := match st with
  | .inl y :: .inl x :: r => if y = 0 then none else k (pc + 1) ls (.inl (f x y) :: r) σ
  | _ => none
def a_l2 (k : ACont ρ) (f : Int64 → Int64 → Int64) (pc : Nat) (ls : List (Option AV)) (st : List AV) (σ : AS ρ) : ARes ρ := match st with
  | .inr (.inl y) :: .inr (.inl x) :: r => k (pc + 1) ls (.inr (.inl (f x y)) :: r) σ
  | _ => none
def a_ld (k : ACont ρ) (f : Int64 → Int64 → Int64) (pc : Nat) (ls : List (Option AV)) (st : List AV) (σ : AS ρ) : ARes ρ := match st with
  | .inr (.inl y) :: .inr (.inl x) :: r => if y = 0 then none else k (pc + 1) ls (.inr (.inl (f x y)) :: r) σ
  | _ => none
def a_lsh (k : ACont ρ) (f : Int64 → Int32 → Int64) (pc : Nat) (ls : List (Option AV)) (st : List AV) (σ : AS ρ) : ARes ρ := match st with
  | .inl y :: .inr (.inl x) :: r => k (pc + 1) ls (.inr (.inl (f x y)) :: r) σ
  | _ => none
def a_b1 (k : ACont ρ) (c : Jvm.ClassFile.Cond) (aux : List Nat) (pc : Nat) (ls : List (Option AV)) (st : List AV) (σ : AS ρ) : ARes ρ := match aux, st with
  | t :: _, .inl x :: r => a_if1 c x (k t ls r σ) (k (pc + 3) ls r σ)
  | _, _ => none
def a_b2 (k : ACont ρ) (c : Jvm.ClassFile.Cond) (aux : List Nat) (pc : Nat) (ls : List (Option AV)) (st : List AV) (σ : AS ρ) : ARes ρ := match aux, st with
  | t :: _, .inl y :: .inl x :: r => a_if2 c x y (k t ls r σ) (k (pc + 3) ls r σ)
  | _, _ => none
def a_get (O : AO ρ) (k : ACont ρ) (aux : List Nat) (pc : Nat) (ls : List (Option AV)) (st : List AV) (σ : AS ρ) : ARes ρ := match aux, st with
  | ci :: j :: 0 :: _, .inr (.inr (.inl (some (f, i)))) :: r => if fob f = ci + 1 then k (pc + 3) ls (.inl (σ.1 f i j) :: r) σ else none
  | ci :: j :: 1 :: _, .inr (.inr (.inl (some (f, i)))) :: r => if fob f = ci + 1 then k (pc + 3) ls (.inr (.inl (σ.2.1 f i j)) :: r) σ else none
  | ci :: j :: 2 :: _, .inr (.inr (.inl (some (f, i)))) :: r => if fob f = ci + 1 then k (pc + 3) ls (.inr (.inr (.inl (O.1 σ.2.2 f i j))) :: r) σ else none
  | 100 :: 0 :: 3 :: _, .inr (.inr (.inr q)) :: r => if q < 100 then k (pc + 3) ls (.inr (.inr (.inr (100 + q))) :: r) σ else none
  | 100 :: 1 :: 3 :: _, .inr (.inr (.inr q)) :: r => if q < 100 then k (pc + 3) ls (.inl 0 :: r) σ else none
  | _, _ => none
def a_put (O : AO ρ) (k : ACont ρ) (aux : List Nat) (pc : Nat) (ls : List (Option AV)) (st : List AV) (σ : AS ρ) : ARes ρ := match aux, st with
  | ci :: j :: 0 :: _, .inl x :: .inr (.inr (.inl (some (f, i)))) :: r => if fob f = ci + 1 then k (pc + 3) ls r (up3 σ.1 f i j x, σ.2) else none
  | ci :: j :: 3 :: _, .inl x :: .inr (.inr (.inl (some (f, i)))) :: r => if fob f = ci + 1 then (if x = 0 ∨ x = 1 then k (pc + 3) ls r (up3 σ.1 f i j x, σ.2) else none) else none
  | ci :: j :: 1 :: _, .inr (.inl x) :: .inr (.inr (.inl (some (f, i)))) :: r => if fob f = ci + 1 then k (pc + 3) ls r (σ.1, up3 σ.2.1 f i j x, σ.2.2) else none
  | ci :: j :: 2 :: _, .inr (.inr (.inl v)) :: .inr (.inr (.inl (some (f, i)))) :: r => if fob f = ci + 1 then (match O.2.1 σ.2.2 f i j v with | some w => k (pc + 3) ls r (σ.1, σ.2.1, w) | none => none) else none
  | _, _ => none
def a_iald (X : AX) (k : ACont ρ) (pc : Nat) (ls : List (Option AV)) (st : List AV) (σ : AS ρ) : ARes ρ := match st with
  | .inl j :: .inr (.inr (.inl (some (f, i)))) :: r => if fty f = 1 then (if aout j (fln f) then none else k (pc + 1) ls (.inl (σ.1 f i j.toNatClampNeg) :: r) σ) else none
  | .inl j :: .inr (.inr (.inr q)) :: r => if 200 ≤ q ∧ q < 400 then (if aout j (sp_n X q) then none else k (pc + 1) ls (.inl (sp_v X q j.toNatClampNeg) :: r) σ) else none
  | _ => none
def a_bald (X : AX) (k : ACont ρ) (pc : Nat) (ls : List (Option AV)) (st : List AV) (σ : AS ρ) : ARes ρ := match st with
  | .inl j :: .inr (.inr (.inl (some (f, i)))) :: r => if fty f = 2 ∨ fty f = 3 then (if aout j (fln f) then none else k (pc + 1) ls (.inl (σ.1 f i j.toNatClampNeg) :: r) σ) else none
  | .inl j :: .inr (.inr (.inr q)) :: r => if 100 ≤ q ∧ q < 200 then (if aout j (sp_n X q) then none else k (pc + 1) ls (.inl (sp_v X q j.toNatClampNeg) :: r) σ) else none
  | _ => none
def a_lald (k : ACont ρ) (pc : Nat) (ls : List (Option AV)) (st : List AV) (σ : AS ρ) : ARes ρ := match st with
  | .inl j :: .inr (.inr (.inl (some (f, i)))) :: r => if fty f = 4 then (if aout j (fln f) then none else k (pc + 1) ls (.inr (.inl (σ.2.1 f i j.toNatClampNeg)) :: r) σ) else none
  | _ => none
def a_aald (O : AO ρ) (k : ACont ρ) (pc : Nat) (ls : List (Option AV)) (st : List AV) (σ : AS ρ) : ARes ρ := match st with
  | .inl j :: .inr (.inr (.inl (some (f, i)))) :: r => if 5 ≤ fty f then (if aout j (fln f) then none else k (pc + 1) ls (.inr (.inr (.inl (O.1 σ.2.2 f i j.toNatClampNeg))) :: r) σ) else none
  | _ => none
def a_iast (k : ACont ρ) (pc : Nat) (ls : List (Option AV)) (st : List AV) (σ : AS ρ) : ARes ρ := match st with
  | .inl x :: .inl j :: .inr (.inr (.inl (some (f, i)))) :: r => if fty f = 1 then (if aout j (fln f) then none else k (pc + 1) ls r (up3 σ.1 f i j.toNatClampNeg x, σ.2)) else none
  | _ => none
def a_bast (k : ACont ρ) (pc : Nat) (ls : List (Option AV)) (st : List AV) (σ : AS ρ) : ARes ρ := match st with
  | .inl x :: .inl j :: .inr (.inr (.inl (some (f, i)))) :: r => if fty f = 2 then (if aout j (fln f) then none else k (pc + 1) ls r (up3 σ.1 f i j.toNatClampNeg x.toInt8.toInt32, σ.2))
      else if fty f = 3 then (if aout j (fln f) then none else if x = 0 ∨ x = 1 then k (pc + 1) ls r (up3 σ.1 f i j.toNatClampNeg x, σ.2) else none) else none
  | _ => none
def a_last (k : ACont ρ) (pc : Nat) (ls : List (Option AV)) (st : List AV) (σ : AS ρ) : ARes ρ := match st with
  | .inr (.inl x) :: .inl j :: .inr (.inr (.inl (some (f, i)))) :: r => if fty f = 4 then (if aout j (fln f) then none else k (pc + 1) ls r (σ.1, up3 σ.2.1 f i j.toNatClampNeg x, σ.2.2)) else none
  | _ => none
def a_aast (O : AO ρ) (k : ACont ρ) (pc : Nat) (ls : List (Option AV)) (st : List AV) (σ : AS ρ) : ARes ρ := match st with
  | .inr (.inr (.inl (some (g, h)))) :: .inl j :: .inr (.inr (.inl (some (f, i)))) :: r => if 5 ≤ fty f ∧ fob g + 4 = fty f then (if aout j (fln f) then none else (match O.2.1 σ.2.2 f i j.toNatClampNeg (some (g, h)) with | some w => k (pc + 1) ls r (σ.1, σ.2.1, w) | none => none)) else none
  | _ => none
def a_alen (X : AX) (k : ACont ρ) (pc : Nat) (ls : List (Option AV)) (st : List AV) (σ : AS ρ) : ARes ρ := match st with
  | .inr (.inr (.inl (some (f, _)))) :: r => if 0 < fty f then k (pc + 1) ls (.inl (Int32.ofNat (fln f)) :: r) σ else none
  | .inr (.inr (.inr q)) :: r => if 100 ≤ q ∧ q < 400 then k (pc + 1) ls (.inl (Int32.ofNat (sp_n X q)) :: r) σ else none
  | _ => none
def a_new (O : AO ρ) (k : ACont ρ) (aux : List Nat) (pc : Nat) (ls : List (Option AV)) (st : List AV) (σ : AS ρ) : ARes ρ := match aux, O.2.2 σ.2.2 with
  | ci :: _, some ((f, i), w) => if fob f = ci + 1 then k (pc + 3) ls (.inr (.inr (.inl (some (f, i)))) :: st) (upR σ.1 f i (fun _ => 0), upR σ.2.1 f i (fun _ => 0), w) else none
  | _, _ => none
def a_newa (O : AO ρ) (k : ACont ρ) (aux : List Nat) (pc : Nat) (ls : List (Option AV)) (st : List AV) (σ : AS ρ) : ARes ρ := match aux, st, O.2.2 σ.2.2 with
  | ty :: _, .inl n :: r, some ((f, i), w) => if fty f = ty ∧ n = Int32.ofNat (fln f) then k pc ls (.inr (.inr (.inl (some (f, i)))) :: r) (upR σ.1 f i (fun _ => 0), upR σ.2.1 f i (fun _ => 0), w) else none
  | _, _, _ => none
def a_copy (k : ACont ρ) (pc : Nat) (ls : List (Option AV)) (st : List AV) (σ : AS ρ) : ARes ρ := match st with
  | .inl n :: .inl dp :: .inr (.inr (.inl (some (g, h)))) :: .inl sp :: .inr (.inr (.inl (some (f, i)))) :: r =>
      if a_cat r ≤ 8 then (if sp < 0 ∨ dp < 0 ∨ n < 0 ∨ fln f < sp.toNatClampNeg + n.toNatClampNeg ∨ fln g < dp.toNatClampNeg + n.toNatClampNeg then none
      else if fty f = 1 ∧ fty g = 1 then k (pc + 3) ls r (upR σ.1 g h (va_cpy (σ.1 f i) (σ.1 g h) sp.toNatClampNeg dp.toNatClampNeg n.toNatClampNeg), σ.2)
      else if fty f = 4 ∧ fty g = 4 then k (pc + 3) ls r (σ.1, upR σ.2.1 g h (va_cpy (σ.2.1 f i) (σ.2.1 g h) sp.toNatClampNeg dp.toNatClampNeg n.toNatClampNeg), σ.2.2) else none) else none
  | _ => none
def a_inv (call : ACall ρ) (k : ACont ρ) (aux : List Nat) (pc : Nat) (ls : List (Option AV)) (st : List AV) (σ : AS ρ) : ARes ρ := match aux with
  | mi :: n :: rk :: _ => match a_pop n [] st with
    | some (args, r) => if a_cat r ≤ 8 then (match rk with
      | 0 => a_bv (call mi args σ) (fun σ' => k (pc + 3) ls r σ')
      | 1 => a_bi (call mi args σ) (fun x σ' => k (pc + 3) ls (.inl x :: r) σ')
      | 2 => a_bl (call mi args σ) (fun x σ' => k (pc + 3) ls (.inr (.inl x) :: r) σ')
      | _ => a_bq (call mi args σ) (fun x σ' => k (pc + 3) ls (.inr (.inr x) :: r) σ')) else none
    | none => none
  | _ => none
/-- a receiver of the class that the call names: aux is method, arguments, kind of answer, class and 1 (100 and 1: a text) -/
def a_rcv (aux : List Nat) (st : List AV) : Bool := match aux with
  | _ :: n :: _ :: c :: _ => match st[n - 1]? with
    | some (.inr (.inr (.inl (some (f, _))))) => fob f == c
    | some (.inr (.inr (.inr q))) => c == 101 && decide (q < 100)
    | _ => false
  | _ => false
def ains (O : AO ρ) (X : AX) (d : Nat) (call : ACall ρ) (k : ACont ρ) (pc : Nat) (ins : Instr) (aux : List Nat) (ls : List (Option AV)) (st : List AV) (σ : AS ρ) : ARes ρ :=
  match ins with
  | .iconst v => k (pc + 1) ls (.inl (cI v) :: st) σ
  | .bipush v => k (pc + 2) ls (.inl (cI v) :: st) σ
  | .sipush v => k (pc + 3) ls (.inl (cI v) :: st) σ
  | .lconst v => k (pc + 1) ls (.inr (.inl (Int64.ofNat v)) :: st) σ
  | .ldc _ => match aux with
    | 0 :: n :: _ => k (pc + 2) ls (.inl (Int32.ofNat n) :: st) σ
    | 1 :: n :: _ => k (pc + 2) ls (.inr (.inr (.inr n)) :: st) σ
    | _ => none
  | .ldc_w _ => match aux with
    | 0 :: n :: _ => k (pc + 3) ls (.inl (Int32.ofNat n) :: st) σ
    | _ => none
  | .ldc2_w _ => match aux with
    | n :: _ => k (pc + 3) ls (.inr (.inl (Int64.ofNat n)) :: st) σ
    | _ => none
  | .iload_n i => a_ild k i (pc + 1) ls st σ
  | .iload i => a_ild k i (pc + 2) ls st σ
  | .lload_n i => a_lld k i (pc + 1) ls st σ
  | .lload i => a_lld k i (pc + 2) ls st σ
  | .aload_n i => a_ald k i (pc + 1) ls st σ
  | .aload i => a_ald k i (pc + 2) ls st σ
  | .istore_n i => a_ist k i (pc + 1) ls st σ
  | .istore i => a_ist k i (pc + 2) ls st σ
  | .lstore_n i => a_lst k i (pc + 1) ls st σ
  | .lstore i => a_lst k i (pc + 2) ls st σ
  | .astore_n i => a_ast k i (pc + 1) ls st σ
  | .astore i => a_ast k i (pc + 2) ls st σ
  | .iinc i n => a_iinc k i n pc ls st σ
  | .dup => match st with
    | .inl x :: r => k (pc + 1) ls (.inl x :: .inl x :: r) σ
    | .inr (.inr x) :: r => k (pc + 1) ls (.inr (.inr x) :: .inr (.inr x) :: r) σ
    | _ => none
  | .dup2 => match st with
    | .inl x :: .inr (.inr y) :: r => k (pc + 1) ls (.inl x :: .inr (.inr y) :: .inl x :: .inr (.inr y) :: r) σ
    | _ => none
  | .pop => match st with
    | .inl _ :: r => k (pc + 1) ls r σ
    | .inr (.inr _) :: r => k (pc + 1) ls r σ
    | _ => none
  | .iadd => a_i2 k (fun x y => x + y) pc ls st σ
  | .isub => a_i2 k (fun x y => x - y) pc ls st σ
  | .imul => a_i2 k (fun x y => x * y) pc ls st σ
  | .idiv => a_id k (fun x y => x / y) pc ls st σ
  | .irem => a_id k (fun x y => x - x / y * y) pc ls st σ
  | .ineg => a_i1 k (fun x => -x) pc ls st σ
  | .iand => a_i2 k (fun x y => x &&& y) pc ls st σ
  | .ior => a_i2 k (fun x y => x ||| y) pc ls st σ
  | .ixor => a_i2 k (fun x y => x ^^^ y) pc ls st σ
  | .ishl => a_i2 k (fun x y => x <<< (y &&& 31)) pc ls st σ
  | .ishr => a_i2 k (fun x y => x >>> (y &&& 31)) pc ls st σ
  | .iushr => a_i2 k (fun x y => (x.toUInt32 >>> (y.toUInt32 &&& Int32.toUInt32 31)).toInt32) pc ls st σ
  | .i2b => a_i1 k (fun x => x.toInt8.toInt32) pc ls st σ
  | .i2s => a_i1 k (fun x => x.toInt16.toInt32) pc ls st σ
  | .i2c => a_i1 k (fun x => (x.toUInt32 % 65536).toInt32) pc ls st σ
  | .i2l => match st with
    | .inl x :: r => k (pc + 1) ls (.inr (.inl x.toInt64) :: r) σ
    | _ => none
  | .l2i => match st with
    | .inr (.inl x) :: r => k (pc + 1) ls (.inl x.toInt32 :: r) σ
    | _ => none
  | .ladd => a_l2 k (fun x y => x + y) pc ls st σ
  | .lmul => a_l2 k (fun x y => x * y) pc ls st σ
  | .land => a_l2 k (fun x y => x &&& y) pc ls st σ
  | .lor => a_l2 k (fun x y => x ||| y) pc ls st σ
  | .ldiv => a_ld k (fun x y => x / y) pc ls st σ
  | .lrem => a_ld k (fun x y => x - x / y * y) pc ls st σ
  | .lshl => a_lsh k (fun x y => x <<< (y.toInt64 &&& 63)) pc ls st σ
  | .lshr => a_lsh k (fun x y => x >>> (y.toInt64 &&& 63)) pc ls st σ
  | .lcmp => match st with
    | .inr (.inl y) :: .inr (.inl x) :: r => k (pc + 1) ls (.inl (lg_cmp x y) :: r) σ
    | _ => none
  | .ifCond c _ => a_b1 k c aux pc ls st σ
  | .if_icmp c _ => a_b2 k c aux pc ls st σ
  | .goto _ => match aux with
    | t :: _ => k t ls st σ
    | _ => none
  | .tableswitch _ lo _ _ => match aux, st with
    | t :: ts, .inl x :: r => a_sw x lo ts t (fun t => k t ls r σ)
    | _, _ => none
  | .getfield _ => a_get O k aux pc ls st σ
  | .putfield _ => a_put O k aux pc ls st σ
  | .getstatic _ => match aux with
    | 0 :: n :: _ => k (pc + 3) ls (.inl (Int32.ofNat n) :: st) σ
    | 1 :: n :: _ => k (pc + 3) ls (.inr (.inr (.inr n)) :: st) σ
    | _ => none
  | .iaload => a_iald X k pc ls st σ
  | .baload => a_bald X k pc ls st σ
  | .laload => a_lald k pc ls st σ
  | .aaload => a_aald O k pc ls st σ
  | .iastore => a_iast k pc ls st σ
  | .bastore => a_bast k pc ls st σ
  | .lastore => a_last k pc ls st σ
  | .aastore => a_aast O k pc ls st σ
  | .arraylength => a_alen X k pc ls st σ
  | .new _ => a_new O k aux pc ls st σ
  | .newarray _ => a_newa O k aux (pc + 2) ls st σ
  | .anewarray _ => a_newa O k aux (pc + 3) ls st σ
  | .invokestatic _ => match aux with
    | 9999 :: _ => match d with
      | 0 => none
      | _ + 1 => a_copy k pc ls st σ
    | _ => a_inv call k aux pc ls st σ
  | .invokevirtual _ => if a_rcv aux st then a_inv call k aux pc ls st σ else none
  | .invokespecial _ => match aux with
    | 9998 :: _ => match d, st with
      | _ + 1, .inr (.inr (.inl (some _))) :: r => if a_cat r ≤ 8 then k (pc + 3) ls r σ else none
      | _, _ => none
    | _ => if a_rcv aux st then a_inv call k aux pc ls st σ else none
  | .ireturn => match aux, st with
    | 0 :: _, [.inl x] => some (some (.inl x), σ)
    | 1 :: _, [.inl x] => if x = 0 ∨ x = 1 then some (some (.inl x), σ) else none
    | 2 :: _, [.inl x] => if x.toInt8.toInt32 = x then some (some (.inl x), σ) else none
    | 3 :: _, [.inl x] => if (x.toUInt32 % 65536).toInt32 = x then some (some (.inl x), σ) else none
    | _, _ => none
  | .lreturn => match st with
    | [.inr (.inl x)] => some (some (.inr (.inl x)), σ)
    | _ => none
  | .areturn => match st with
    | [.inr (.inr x)] => some (some (.inr (.inr x)), σ)
    | _ => none
  | .return_ => match st with
    | [] => some (none, σ)
    | _ => none
  | _ => none
def arun (O : AO ρ) (X : AX) (d : Nat) (call : ACall ρ) (code : Nat → Option AE) : Nat → ACont ρ
  | 0 => fun _ _ _ _ => none
  | n + 1 => fun pc ls st σ => match code pc with
    | some (ins, aux, kill) => ains O X d call (arun O X d call code n) pc ins aux (a_kill kill ls) st σ
    | none => none
end
