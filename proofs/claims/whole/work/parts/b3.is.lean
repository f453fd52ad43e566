/-! words -/
def txN (q : Nat) : Nat := (txL.getD q []).length
def txC (q i : Nat) : Int32 := ((((txL.getD q []).getD i 0) &&& (255)).toUInt32 % 65536).toInt32
theorem tx_ck : ∀ q, q < 27 → txN q ≤ 9 ∧ ∀ i, i < 10 → ((txC q i).toUInt32 % 65536).toInt32 = txC q i := by decide +kernel
section
variable {X : AX} {d : Nat} {I J : A3 Int32} {L : A3 Int64} {b : Nat → Int8} {n : Nat}
theorem sh0 (x : Int32) : x >>> ((0 : Int32) &&& 31) = x := bt_ext fun k hk => by
  have := bt_shr (n := 0) (by decide) x (k := k) (by omega)
  exact this
theorem spN {q : Nat} (hq : q < 27) : sp_n X (100 + q) = txN q := by
  unfold sp_n txN
  rw [if_neg (by omega), if_pos (by omega), show 100 + q - 100 = q by omega]
theorem spV {q i : Nat} (hq : q < 27) : sp_v X (100 + q) i = (txL.getD q []).getD i 0 := by
  unfold sp_v
  rw [if_neg (by omega), if_neg (by omega), if_neg (by omega), show 100 + q - 100 = q by omega]
theorem x_len {q : Nat} (hq : q < 27) (hd : 2 ≤ d) : K_J0_length_8abf5 X d q (I, L, ()) = some (some (aI (nI (txN q))), (I, L, ())) := by
  obtain ⟨g, rfl⟩ : ∃ g, d = g + 2 := ⟨d - 2, by omega⟩
  refine K_J0_length_8abf5.e X (g + 1) q I L _ ?_
  have e1 : K_J0_coder_7d493 X (g + 1) q (I, L, ()) = some (some (aI (0 : Int32)), (I, L, ())) := K_J0_coder_7d493.e X g q I L _ (if_pos (by omega))
  rw [if_pos (show q < 100 by omega), if_pos (show 100 ≤ 100 + q ∧ 100 + q < 400 by omega), if_pos (decide_eq_true (show q < 100 by omega)), e1, a_bi_i, sh0, spN hq]
  rfl
theorem x_chr {q i : Nat} (hq : q < 27) (hi : i < txN q) (hd : 5 ≤ d) : K_J0_charAt_5068e X d q (nI i) (I, L, ()) = some (some (aI (txC q i)), (I, L, ())) := by
  obtain ⟨g, rfl⟩ : ∃ g, d = g + 4 := ⟨d - 4, by omega⟩
  obtain ⟨l9, hc⟩ := tx_ck q hq
  have hci := hc i (by omega)
  refine K_J0_charAt_5068e.e X (g + 3) q _ I L _ ?_
  have e1 : K_J0_isLatin1_aae02 X (g + 3) q (I, L, ()) = some (some (aI (1 : Int32)), (I, L, ())) := K_J0_isLatin1_aae02.e X (g + 2) q I L _ (if_pos (by omega))
  have e2 : K_J1_charAt_3b067 X (g + 3) (100 + q) (nI i) (I, L, ()) = some (some (aI (txC q i)), (I, L, ())) := by
    refine K_J1_charAt_3b067.e X (g + 2) _ _ I L _ ?_
    have e3 : K_J0_checkIndex_df160 X (g + 2) (nI i) (nI (txN q)) (I, L, ()) = some (none, (I, L, ())) := by
      refine K_J0_checkIndex_df160.e X (g + 1) _ _ I L _ ?_
      have e4 : K_J3_checkIndex_8e157 X (g + 1) (nI i) (nI (txN q)) 400 (I, L, ()) = some (some (aI (nI i)), (I, L, ())) := by
        refine K_J3_checkIndex_8e157.e X g _ _ _ I L _ ?_
        rw [if_neg (by rw [show (0 : Int32) = nI 0 from rfl, n_lt (by omega) (by decide)]; omega), if_pos ((n_lt (by omega) (by omega)).mpr hi)]
      rw [e4, a_bi_i]
    rw [if_pos (show 100 ≤ 100 + q ∧ 100 + q < 400 by omega), spN hq]
    rw [show Int32.ofNat (txN q) = nI (txN q) from rfl, e3, a_bv_n, if_pos (show 100 ≤ 100 + q ∧ 100 + q < 200 by omega), if_neg (by rw [n_out (by omega)]; omega), n_toN (show i < 2147483648 by omega), spV hq]
    exact if_pos hci
  rw [if_pos (decide_eq_true (show q < 100 by omega)), e1, a_bi_i, if_neg (by decide), if_pos (show q < 100 by omega)]
  dsimp only
  rw [e2, a_bi_i, if_pos hci]
end
