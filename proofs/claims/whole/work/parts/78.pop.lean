/-! the number of bits -/
section
variable {X : AX} {d : Nat} {I J : A3 Int32} {L : A3 Int64}
def srl (a k : Int32) : Int32 := (Int32.toUInt32 a >>> (Int32.toUInt32 k &&& Int32.toUInt32 31)).toInt32
def pc1 (a : Int32) : Int32 := a - (srl a 1 &&& 1431655765)
def pc2 (a : Int32) : Int32 := (a &&& 858993459) + (srl a 2 &&& 858993459)
def pc3 (a : Int32) : Int32 := (a + srl a 4) &&& 252645135
def pc4 (a : Int32) : Int32 := a + srl a 8
def pc5 (a : Int32) : Int32 := (a + srl a 16) &&& 63
def popI (a : Int32) : Int32 := pc5 (pc4 (pc3 (pc2 (pc1 a))))
theorem n_and (a b : Nat) : nI a &&& nI b = nI (a &&& b) := bt_ext fun k hk => by
  rw [bt_and, bt_nI, bt_nI, bt_nI, Nat.testBit_and]
  simp [hk]
theorem n_srl {n k : Nat} (hn : n < 2147483648) (hk : k < 32) : srl (nI n) (nI k) = nI (n >>> k) := bt_ext fun i hi => by
  have h1 : ∀ k, k < 32 → ((Int32.toUInt32 (nI k) &&& Int32.toUInt32 31).toBitVec % 32#32).toNat = k := by decide
  unfold srl
  show BitVec.getLsbD (UInt32.toBitVec (Int32.toUInt32 (nI n) >>> (Int32.toUInt32 (nI k) &&& Int32.toUInt32 31))) i = _
  rw [UInt32.toBitVec_shiftRight]
  show BitVec.getLsbD ((nI n).toBitVec >>> ((Int32.toUInt32 (nI k) &&& Int32.toUInt32 31).toBitVec % 32#32)) i = _
  rw [BitVec.ushiftRight_eq', h1 k hk, BitVec.getLsbD_ushiftRight, bt_nI, Nat.testBit_shiftRight]
  show bt (nI n) (k + i) = _
  rw [bt_nI]
  by_cases h : k + i < 32
  · simp [h, hi]
  · have : n.testBit (k + i) = false := Nat.testBit_lt_two_pow (by
      have : 2 ^ 32 ≤ 2 ^ (k + i) := Nat.pow_le_pow_right (by decide) (by omega)
      omega)
    simp [h, this]
def pN1 (n : Nat) : Nat := n - ((n >>> 1) &&& 1431655765)
def pN2 (n : Nat) : Nat := (n &&& 858993459) + ((n >>> 2) &&& 858993459)
def pN3 (n : Nat) : Nat := (n + n >>> 4) &&& 252645135
def pN4 (n : Nat) : Nat := n + n >>> 8
def pN5 (n : Nat) : Nat := (n + n >>> 16) &&& 63
theorem and_l (a b : Nat) : a &&& b ≤ a := Nat.and_le_left
theorem shr_l (a b : Nat) : a >>> b ≤ a := by rw [Nat.shiftRight_eq_div_pow]; exact Nat.div_le_self _ _
theorem pop_n {n : Nat} (hn : n < 65536) : popI (nI n) = nI (pN5 (pN4 (pN3 (pN2 (pN1 n))))) := by
  have e1 : pc1 (nI n) = nI (pN1 n) := by
    unfold pc1 pN1
    rw [show (1 : Int32) = nI 1 from rfl, show (1431655765 : Int32) = nI 1431655765 from rfl, n_srl (by omega) (by decide), n_and, n_sub (Nat.le_trans (and_l _ _) (shr_l _ _))]
  have b1 : pN1 n < 65536 := by unfold pN1; omega
  generalize pN1 n = a at *
  have e2 : pc2 (nI a) = nI (pN2 a) := by
    unfold pc2 pN2
    rw [show (2 : Int32) = nI 2 from rfl, show (858993459 : Int32) = nI 858993459 from rfl, n_srl (by omega) (by decide), n_and, n_and, n_add]
  have b2 : pN2 a < 200000 := by
    unfold pN2
    have u1 := and_l a 858993459
    have u2 := and_l (a >>> 2) 858993459
    have u3 := shr_l a 2
    omega
  generalize pN2 a = b at *
  have e3 : pc3 (nI b) = nI (pN3 b) := by
    unfold pc3 pN3
    rw [show (4 : Int32) = nI 4 from rfl, show (252645135 : Int32) = nI 252645135 from rfl, n_srl (by omega) (by decide), n_add, n_and]
  have b3 : pN3 b < 500000 := by
    unfold pN3
    have u1 := and_l (b + b >>> 4) 252645135
    have u3 := shr_l b 4
    omega
  generalize pN3 b = c at *
  have e4 : pc4 (nI c) = nI (pN4 c) := by
    unfold pc4 pN4
    rw [show (8 : Int32) = nI 8 from rfl, n_srl (by omega) (by decide), n_add]
  have b4 : pN4 c < 2000000 := by
    unfold pN4
    have u3 := shr_l c 8
    omega
  generalize pN4 c = g at *
  have e5 : pc5 (nI g) = nI (pN5 g) := by
    unfold pc5 pN5
    rw [show (16 : Int32) = nI 16 from rfl, show (63 : Int32) = nI 63 from rfl, n_srl (by omega) (by decide), n_add, n_and]
  unfold popI
  rw [e1, e2, e3, e4, e5]
/-- one byte's bits -/
def b8 (n : Nat) : Nat := n % 2 + n / 2 % 2 + n / 4 % 2 + n / 8 % 2 + n / 16 % 2 + n / 32 % 2 + n / 64 % 2 + n / 128 % 2
def alB (p : Nat → Bool) (n : Nat) : Bool := Nat.rec true (fun k r => p k && r) n
theorem alB_all {p : Nat → Bool} : ∀ n, alB p n = true → ∀ k, k < n → p k = true := by
  intro n
  induction n with
  | zero => intro _ k hk; omega
  | succ n ih =>
    intro h k hk
    have h' : (p n && alB p n) = true := h
    obtain ⟨h1, h2⟩ := Bool.and_eq_true_iff.mp h'
    by_cases e : k = n
    · subst e; exact h1
    · exact ih h2 k (by omega)
def ckB (g : Nat) : Bool := alB (fun a => alB (fun b => Nat.beq (pN5 (pN4 (pN3 (pN2 (pN1 (256 * (16 * g + a) + b)))))) (b8 (16 * g + a) + b8 b)) 256) 16
theorem ck_0 : ckB 0 = true := by decide +kernel
theorem ck_1 : ckB 1 = true := by decide +kernel
theorem ck_2 : ckB 2 = true := by decide +kernel
theorem ck_3 : ckB 3 = true := by decide +kernel
theorem ck_4 : ckB 4 = true := by decide +kernel
theorem ck_5 : ckB 5 = true := by decide +kernel
theorem ck_6 : ckB 6 = true := by decide +kernel
theorem ck_7 : ckB 7 = true := by decide +kernel
theorem ck_8 : ckB 8 = true := by decide +kernel
theorem ck_9 : ckB 9 = true := by decide +kernel
theorem ck_10 : ckB 10 = true := by decide +kernel
theorem ck_11 : ckB 11 = true := by decide +kernel
theorem ck_12 : ckB 12 = true := by decide +kernel
theorem ck_13 : ckB 13 = true := by decide +kernel
theorem ck_14 : ckB 14 = true := by decide +kernel
theorem ck_15 : ckB 15 = true := by decide +kernel
theorem ck_g {g : Nat} (h : g < 16) : ckB g = true := by
  rcases (show g = 0 ∨ g = 1 ∨ g = 2 ∨ g = 3 ∨ g = 4 ∨ g = 5 ∨ g = 6 ∨ g = 7 ∨ g = 8 ∨ g = 9 ∨ g = 10 ∨ g = 11 ∨ g = 12 ∨ g = 13 ∨ g = 14 ∨ g = 15 by omega) with rfl | rfl | rfl | rfl | rfl | rfl | rfl | rfl | rfl | rfl | rfl | rfl | rfl | rfl | rfl | rfl
  · exact ck_0
  · exact ck_1
  · exact ck_2
  · exact ck_3
  · exact ck_4
  · exact ck_5
  · exact ck_6
  · exact ck_7
  · exact ck_8
  · exact ck_9
  · exact ck_10
  · exact ck_11
  · exact ck_12
  · exact ck_13
  · exact ck_14
  · exact ck_15
theorem tb_n (n k : Nat) : (if n.testBit k = true then 1 else 0) = n / 2 ^ k % 2 := by
  rw [Nat.testBit_eq_decide_div_mod_eq]
  by_cases h : n / 2 ^ k % 2 = 1
  · simp [h]
  · simp only [h, decide_false, Bool.false_eq_true, if_false]; omega
theorem cnt16 (n : Nat) : cnt 16 (fun k => n.testBit k) = b8 (n / 256 % 256) + b8 (n % 256) := by
  unfold b8
  simp only [cnt, tb_n]
  omega
theorem pop_nn {n : Nat} (hn : n < 65536) : popI (nI n) = nI (cnt 16 (fun k => n.testBit k)) := by
  rw [pop_n hn, cnt16]
  have h1 := alB_all _ (alB_all _ (ck_g (show n / 4096 < 16 by omega)) (n / 256 % 16) (by omega)) (n % 256) (by omega)
  have h2 := Nat.eq_of_beq_eq_true h1
  rw [show 256 * (16 * (n / 4096) + n / 256 % 16) + n % 256 = n by omega, show 16 * (n / 4096) + n / 256 % 16 = n / 256 % 256 by omega] at h2
  rw [h2]
theorem pop_x {x : Int32} (h : ∀ k, 16 ≤ k → bt x k = false) : popI x = nI (cnt 16 (bt x)) := by
  have hx : x = nI (x.toBitVec.toNat % 65536) := bt_ext fun k hk => by
    rw [bt_nI]
    have e : (x.toBitVec.toNat % 65536).testBit k = (decide (k < 16) && bt x k) := by
      rw [show (65536 : Nat) = 2 ^ 16 from rfl, Nat.testBit_mod_two_pow]; rfl
    rw [e]
    by_cases hk16 : k < 16
    · simp [hk, hk16]
    · rw [h k (by omega)]; simp
  have hn : x.toBitVec.toNat % 65536 < 65536 := Nat.mod_lt _ (by decide)
  generalize x.toBitVec.toNat % 65536 = n at hx hn
  rw [hx, pop_nn hn]
  congr 1
  exact cnt_eq fun i hi => by
    rw [bt_nI]
    have : i < 32 := by omega
    simp [this]
theorem c_bitCount {x : Int32} (h : ∀ k, 16 ≤ k → bt x k = false) (hd : 1 ≤ d) : K_J6_bitCount_0f7a4 X d x (I, L, ()) = some (some (aI (nI (cnt 16 (bt x)))), (I, L, ())) := by
  obtain ⟨e, rfl⟩ : ∃ e, d = e + 1 := ⟨d - 1, by omega⟩
  refine K_J6_bitCount_0f7a4.e X e x I L _ ?_
  show some (some (aI (popI x)), (I, L, ())) = _
  rw [pop_x h]
/-- of eight bits, the reference counts the same -/
theorem cnt_98 {x : Int32} (h : ∀ k, 8 ≤ k → bt x k = false) : cnt 16 (bt x) = cnt 9 (bt x) := by
  simp [cnt, h]
end
