/-! numbers: Int32 out of Nat -/
def nN : Int32 := -1
def oI (o : Option Nat) : Int32 := match o with
  | some n => nI n
  | none => nN
def bI (b : Bool) : Int32 := nI b.toNat
theorem l_0 : (0 : Int32) = nI 0 := rfl
theorem l_1 : (1 : Int32) = nI 1 := rfl
theorem l_2 : (2 : Int32) = nI 2 := rfl
theorem l_3 : (3 : Int32) = nI 3 := rfl
theorem l_4 : (4 : Int32) = nI 4 := rfl
theorem l_5 : (5 : Int32) = nI 5 := rfl
theorem l_6 : (6 : Int32) = nI 6 := rfl
theorem l_7 : (7 : Int32) = nI 7 := rfl
theorem l_8 : (8 : Int32) = nI 8 := rfl
theorem l_9 : (9 : Int32) = nI 9 := rfl
theorem l_10 : (10 : Int32) = nI 10 := rfl
theorem l_12 : (12 : Int32) = nI 12 := rfl
theorem l_16 : (16 : Int32) = nI 16 := rfl
theorem l_20 : (20 : Int32) = nI 20 := rfl
theorem l_24 : (24 : Int32) = nI 24 := rfl
theorem l_25 : (25 : Int32) = nI 25 := rfl
theorem l_31 : (31 : Int32) = nI 31 := rfl
theorem l_32 : (32 : Int32) = nI 32 := rfl
theorem l_33 : (33 : Int32) = nI 33 := rfl
theorem l_40 : (40 : Int32) = nI 40 := rfl
theorem l_48 : (48 : Int32) = nI 48 := rfl
theorem l_57 : (57 : Int32) = nI 57 := rfl
theorem l_60 : (60 : Int32) = nI 60 := rfl
theorem l_63 : (63 : Int32) = nI 63 := rfl
theorem l_64 : (64 : Int32) = nI 64 := rfl
theorem l_78 : (78 : Int32) = nI 78 := rfl
theorem l_85 : (85 : Int32) = nI 85 := rfl
theorem l_97 : (97 : Int32) = nI 97 := rfl
theorem l_99 : (99 : Int32) = nI 99 := rfl
theorem l_100 : (100 : Int32) = nI 100 := rfl
theorem l_122 : (122 : Int32) = nI 122 := rfl
theorem l_255 : (255 : Int32) = nI 255 := rfl
theorem l_325 : (325 : Int32) = nI 325 := rfl
theorem l_700 : (700 : Int32) = nI 700 := rfl
theorem l_999 : (999 : Int32) = nI 999 := rfl
theorem l_1000 : (1000 : Int32) = nI 1000 := rfl
theorem l_1200 : (1200 : Int32) = nI 1200 := rfl
theorem l_99999 : (99999 : Int32) = nI 99999 := rfl
theorem l_100000 : (100000 : Int32) = nI 100000 := rfl
theorem l_1000000 : (1000000 : Int32) = nI 1000000 := rfl
theorem l_2000000000 : (2000000000 : Int32) = nI 2000000000 := rfl
theorem l_N : -(nI 1) = nN := rfl
theorem l_cN : cI (-1) = nN := rfl
theorem n_add (a b : Nat) : nI a + nI b = nI (a + b) := (Int32.ofNat_add a b).symm
theorem n_mul (a b : Nat) : nI a * nI b = nI (a * b) := (Int32.ofNat_mul a b).symm
theorem n_sub {a b : Nat} (h : b ≤ a) : nI a - nI b = nI (a - b) := (Int32.ofNat_sub a b h).symm
theorem n_toInt {a : Nat} (h : a < 2147483648) : (nI a).toInt = a := Int32.toInt_ofNat_of_lt h
theorem n_toN {a : Nat} (h : a < 2147483648) : (nI a).toNatClampNeg = a := Int32.toNatClampNeg_ofNat_of_lt h
theorem n_eq {a b : Nat} (ha : a < 2147483648) (hb : b < 2147483648) : (nI a = nI b) ↔ a = b := by
  constructor
  · intro h
    have := congrArg Int32.toNatClampNeg h
    rwa [n_toN ha, n_toN hb] at this
  · intro h; rw [h]
theorem n_lt {a b : Nat} (ha : a < 2147483648) (hb : b < 2147483648) : (nI a < nI b) ↔ a < b := Int32.ofNat_lt_iff_lt ha hb
theorem n_le {a b : Nat} (ha : a < 2147483648) (hb : b < 2147483648) : (nI a ≤ nI b) ↔ a ≤ b := Int32.ofNat_le_iff_le ha hb
theorem n_div {a b : Nat} (ha : a < 2147483648) (hb : b < 2147483648) : nI a / nI b = nI (a / b) := (Int32.ofNat_div ha hb).symm
theorem n_mod {a b : Nat} (ha : a < 2147483648) (hb : b < 2147483648) : nI a - nI a / nI b * nI b = nI (a % b) := by
  rw [n_div ha hb, n_mul, n_sub (Nat.div_mul_le_self a b)]
  congr 1
  have := Nat.div_add_mod a b
  rw [Nat.mul_comm] at this
  omega
theorem n_dm (a b : Nat) : nI a - nI (a / b * b) = nI (a % b) := by
  rw [n_sub (Nat.div_mul_le_self a b)]
  congr 1
  have := Nat.div_add_mod a b
  rw [Nat.mul_comm] at this
  omega
theorem nN_toInt : nN.toInt = -1 := rfl
theorem n_neN {a : Nat} (ha : a < 2147483648) : (nI a = nN) ↔ False := by
  constructor
  · intro h
    have := congrArg Int32.toInt h
    rw [n_toInt ha, nN_toInt] at this
    omega
  · intro h; exact h.elim
theorem n_inN {a : Nat} (ha : a < 2147483648) : (nN = nI a) ↔ False := by
  constructor
  · intro h; exact (n_neN ha).mp h.symm
  · intro h; exact h.elim
theorem n_ltN {a : Nat} (ha : a < 2147483648) : (nI a < nN) ↔ False := by
  rw [Int32.lt_iff_toInt_lt, n_toInt ha, nN_toInt]
  constructor
  · intro h; omega
  · intro h; exact h.elim
theorem n_nltN {a : Nat} (ha : a < 2147483648) : (nN < nI a) ↔ True := by
  rw [Int32.lt_iff_toInt_lt, n_toInt ha, nN_toInt]
  constructor
  · intro _; trivial
  · intro _; omega
theorem n_Nadd {a : Nat} (h : 0 < a) : nI a + nN = nI (a - 1) := by
  show nI a + -(nI 1) = _
  rw [← Int32.sub_eq_add_neg, n_sub h]
theorem n_0N : nI 0 + nN = nN := rfl
theorem n_ex {x : Int32} (h : ¬ x < 0) : ∃ n, n < 2147483648 ∧ x = nI n := by
  have h0 : 0 ≤ x := Int32.not_lt.mp h
  exact ⟨x.toNatClampNeg, x.toNatClampNeg_lt, (Int32.ofNat_toNatClampNeg x h0).symm⟩
theorem ite_y {α : Type} {c : Prop} [Decidable c] {a b : α} (h : c) : (if c then a else b) = a := if_pos h
theorem ite_n {α : Type} {c : Prop} [Decidable c] {a b : α} (h : ¬ c) : (if c then a else b) = b := if_neg h
theorem ite_tt {α : Type} [Decidable True] {a b : α} : (if True then a else b) = a := if_pos trivial
theorem ite_ff {α : Type} [Decidable False] {a b : α} : (if False then a else b) = b := if_neg (fun h => h)
theorem a_bi_i {ρ : Type} (x : Int32) (σ : AS ρ) (f : Int32 → AS ρ → ARes ρ) : a_bi (some (some (.inl x), σ)) f = f x σ := rfl
theorem a_bv_n {ρ : Type} (σ : AS ρ) (f : AS ρ → ARes ρ) : a_bv (some (none, σ)) f = f σ := rfl
theorem a_bl_l {ρ : Type} (x : Int64) (σ : AS ρ) (f : Int64 → AS ρ → ARes ρ) : a_bl (some (some (.inr (.inl x)), σ)) f = f x σ := rfl
theorem a_bq_q {ρ : Type} (x : Option AR ⊕ Nat) (σ : AS ρ) (f : Option AR ⊕ Nat → AS ρ → ARes ρ) : a_bq (some (some (.inr (.inr x)), σ)) f = f x σ := rfl
theorem b_t : bI true = nI 1 := rfl
theorem b_f : bI false = nI 0 := rfl
theorem b_0 (b : Bool) : (bI b = nI 0) ↔ b = false := by cases b <;> simp [bI, n_eq]
theorem b_1 (b : Bool) : (bI b = nI 1) ↔ b = true := by cases b <;> simp [bI, n_eq]
theorem n_out {a n : Nat} (ha : a < 2147483648) : aout (nI a) n ↔ n ≤ a := by
  unfold aout
  rw [n_toN ha]
  constructor
  · intro h
    rcases h with h | h
    · exact absurd ((n_lt ha (show 0 < 2147483648 by decide)).mp h) (by omega)
    · exact h
  · intro h; exact Or.inr h
/-- a number of a call that lies in 0 .. n less 1 -/
def inr (a : Int32) (n : Nat) : Bool := decide (¬ a < nI 0 ∧ a < nI n)
theorem inr_n {k n : Nat} (hk : k < 2147483648) (hn : n < 2147483648) : inr (nI k) n = decide (k < n) := by
  unfold inr
  simp [n_lt hk hn, n_lt hk (show 0 < 2147483648 by decide)]
theorem inr_ex {a : Int32} {n : Nat} (hn : n < 2147483648) (h : inr a n = true) : ∃ k, k < n ∧ a = nI k := by
  obtain ⟨h1, h2⟩ := of_decide_eq_true h
  obtain ⟨k, hk, rfl⟩ := n_ex h1
  exact ⟨k, (n_lt hk hn).mp h2, rfl⟩
theorem b2 {p q : Prop} [Decidable p] [Decidable q] {α : Type} (x y : α) : (if p then y else (if q then x else y)) = if decide (¬ p ∧ q) = true then x else y := by
  by_cases hp : p <;> by_cases hq : q <;> simp [hp, hq]
/-! loops -/
theorem loop_up {S : Type} {F : Nat → S → ARes Unit} {P : Nat → S → Prop} {n : Nat} (hs : ∀ m s, m < n → P m s → ∃ s', P (m + 1) s' ∧ OLe (F (m + 1) s') (F m s)) : ∀ k m s, m + k = n → P m s → ∃ s', P n s' ∧ OLe (F n s') (F m s) := by
  intro k
  induction k with
  | zero => intro m s hm hp; subst hm; exact ⟨s, hp, OLe.refl⟩
  | succ k ih =>
    intro m s hm hp
    obtain ⟨s1, h1, h2⟩ := hs m s (by omega) hp
    obtain ⟨s2, h3, h4⟩ := ih (m + 1) s1 (by omega) h1
    exact ⟨s2, h3, fun r hr => h2 r (h4 r hr)⟩
theorem loop_z {S : Type} {F : Nat → S → ARes Unit} {P : Nat → S → Prop} (n : Nat) (s : S) (h0 : P 0 s) (hs : ∀ m s, m < n → P m s → ∃ s', P (m + 1) s' ∧ OLe (F (m + 1) s') (F m s)) : ∃ s', P n s' ∧ OLe (F n s') (F 0 s) := loop_up hs n 0 s (by omega) h0
/-- a loop that may end ahead of its end -/
theorem loop_ex {S : Type} {F : Nat → S → ARes Unit} {P : Nat → S → Prop} {Q : Option AV × AS Unit → Prop} {n : Nat} (hs : ∀ m s, m < n → P m s → (∃ s', P (m + 1) s' ∧ OLe (F (m + 1) s') (F m s)) ∨ ∃ r, F m s = some r ∧ Q r) (he : ∀ s, P n s → ∃ r, F n s = some r ∧ Q r) : ∀ k m s, m + k = n → P m s → ∃ r, F m s = some r ∧ Q r := by
  intro k
  induction k with
  | zero => intro m s hm hp; subst hm; exact he s hp
  | succ k ih =>
    intro m s hm hp
    rcases hs m s (by omega) hp with ⟨s1, h1, h2⟩ | h
    · obtain ⟨r, h3, h4⟩ := ih (m + 1) s1 (by omega) h1
      exact ⟨r, h2 r h3, h4⟩
    · exact h
/-! states -/
theorem u3_eq {α : Type} (F : A3 α) (f i j : Nat) (v : α) : up3 F f i j v f i j = v := by simp [up3]
theorem u3_j {α : Type} (F : A3 α) {f i j k : Nat} (v : α) (h : k ≠ j) : up3 F f i j v f i k = F f i k := by simp [up3, h]
theorem u3_i {α : Type} (F : A3 α) {f i j i' : Nat} (v : α) (h : i' ≠ i) : up3 F f i j v f i' = F f i' := by funext k; simp [up3, h]
theorem u3_f {α : Type} (F : A3 α) {f i j f' : Nat} (v : α) (h : f' ≠ f) : up3 F f i j v f' = F f' := by funext i' k; simp [up3, h]
theorem uR_f {α : Type} (F : A3 α) {f i f' : Nat} (g : Nat → α) (h : f' ≠ f) : upR F f i g f' = F f' := by funext i' k; simp [upR, h]
theorem uR_i {α : Type} (F : A3 α) {f i i' : Nat} (g : Nat → α) (h : i' ≠ i) : upR F f i g f i' = F f i' := by funext k; simp [upR, h]
theorem uR_eq {α : Type} (F : A3 α) (f i : Nat) (g : Nat → α) : upR F f i g f i = g := by funext k; simp [upR]
