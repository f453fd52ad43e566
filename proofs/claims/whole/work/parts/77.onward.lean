/-! onward; lasts -/
section
variable {X : AX} {d : Nat} {I J : A3 Int32} {L : A3 Int64} {w : TW} {N : Nat} {ps : Nat → Nat → Option Nat} {kn : Nat → Nat} {lo dr : Nat → Bool}
theorem fre_and {m s : Nat} {p q : Pl} (hq : stp w lo dr m p s = some q) : (fre w N ps kn lo dr m p s = true) ↔ (hdF N ps kn (m + 1) q = false ∧ mtF N ps m p q s = true) := by
  unfold fre
  rw [hq]
  simp
theorem nx_seat {m c : Nat} {S : Pl → Prop} (hm : m + 1 < w 1) (h8 : w 0 ≤ 8) (hS : ∀ q, S q → q.1 < w 0) (hc : c < w 0) : nxS w N ps kn lo dr m S (c, false) ↔ (((S (c, false) ∨ S (c, true)) ∨ (1 ≤ c ∧ (S (c - 1, false) ∨ S (c - 1, true)) ∧ uA (w 1) N ps m (c - 1) = false) ∨ ((S (c + 1, false) ∨ S (c + 1, true)) ∧ dA (w 1) N ps m (c + 1) = false) ∨ (stF w m = true ∧ dr c = true ∧ ∃ t, S (t, false) ∧ dr t = true)) ∧ gA N ps (m + 1) c = false) := by
  have two : ∀ {x : Nat} {l : Bool}, S (x, l) → S (x, false) ∨ S (x, true) := fun {x l} h => by cases l with | false => exact Or.inl h | true => exact Or.inr h
  constructor
  · rintro ⟨⟨x, l⟩, s, h1, h2, h3, h4⟩
    have hx := hS _ h1
    simp only at hx
    obtain ⟨h5, h6⟩ := (fre_and h3).mp h4
    refine ⟨?_, h5⟩
    rcases (show s = 0 ∨ s = 1 ∨ s = 2 ∨ s = 3 ∨ 4 ≤ s by omega) with rfl | rfl | rfl | rfl | hs4
    · have : (x, l) = (c, false) := Option.some.inj h3
      rw [this] at h1
      exact Or.inl (Or.inl h1)
    · have e : stp w lo dr m (x, l) 1 = if x + 1 < w 0 then some (x + 1, false) else none := rfl
      rw [e] at h3
      split at h3
      · have e2 : x + 1 = c := congrArg Prod.fst (Option.some.inj h3)
        subst e2
        rw [mt_up (T := w 1) hm] at h6
        refine Or.inr (Or.inl ⟨by omega, ?_, ?_⟩)
        · rw [Nat.add_sub_cancel]; exact two h1
        · rw [Nat.add_sub_cancel]; simpa using h6
      · cases h3
    · have e : stp w lo dr m (x, l) 2 = if 0 < x then some (x - 1, false) else none := rfl
      rw [e] at h3
      split at h3
      · rename_i h0
        have e2 : x - 1 = c := congrArg Prod.fst (Option.some.inj h3)
        have e3 : x = c + 1 := by omega
        rw [← e2, mt_dn (T := w 1) hm h0] at h6
        subst e3
        exact Or.inr (Or.inr (Or.inl ⟨two h1, by simpa using h6⟩))
      · cases h3
    · have e : stp w lo dr m (x, l) 3 = if l = true then some (x, false) else if lo x = true then some (x, true) else none := rfl
      rw [e] at h3
      split at h3
      · have e2 : x = c := congrArg Prod.fst (Option.some.inj h3)
        subst e2
        exact Or.inl (two h1)
      · split at h3
        · have := congrArg Prod.snd (Option.some.inj h3); cases this
        · cases h3
    · have e : stp w lo dr m (x, l) s = if s - 4 < w 0 ∧ s - 4 ≠ x ∧ l = false ∧ stF w m = true ∧ dr x = true ∧ dr (s - 4) = true then some (s - 4, false) else none := by
        unfold stp; rw [if_neg (by omega), if_neg (by omega), if_neg (by omega), if_neg (by omega)]
      rw [e] at h3
      split at h3
      · rename_i z
        have e2 : s - 4 = c := congrArg Prod.fst (Option.some.inj h3)
        rw [e2] at z
        obtain ⟨z1, z2, z3, z4, z5, z6⟩ := z
        subst z3
        exact Or.inr (Or.inr (Or.inr ⟨z4, z6, x, h1, z5⟩))
      · cases h3
  · rintro ⟨h, hg⟩
    have mk : ∀ (p : Pl) (s : Nat), S p → s < 12 → stp w lo dr m p s = some (c, false) → mtF N ps m p (c, false) s = true → nxS w N ps kn lo dr m S (c, false) := fun p s h1 h2 h3 h4 => ⟨p, s, h1, h2, h3, (fre_and h3).mpr ⟨hg, h4⟩⟩
    have up : ∀ l, 1 ≤ c → S (c - 1, l) → uA (w 1) N ps m (c - 1) = false → nxS w N ps kn lo dr m S (c, false) := fun l h1 h2 h3 => by
      have e1 : c - 1 + 1 = c := by omega
      refine mk (c - 1, l) 1 h2 (by decide) ?_ ?_
      · show (if c - 1 + 1 < w 0 then some (c - 1 + 1, false) else none) = some (c, false)
        rw [e1, if_pos hc]
      · have := mt_up (N := N) (ps := ps) (l := l) (T := w 1) (c := c - 1) hm
        rw [e1, h3] at this
        exact this
    have dn : ∀ l, S (c + 1, l) → dA (w 1) N ps m (c + 1) = false → nxS w N ps kn lo dr m S (c, false) := fun l h2 h3 => by
      refine mk (c + 1, l) 2 h2 (by decide) rfl ?_
      have := mt_dn (N := N) (ps := ps) (l := l) (T := w 1) (c := c + 1) hm (by omega)
      rw [h3] at this
      exact this
    rcases h with (h | h) | ⟨h1, h | h, h3⟩ | ⟨h | h, h3⟩ | ⟨h1, h2, t, h3, h4⟩
    · exact mk (c, false) 0 h (by decide) rfl (by simp [mtF])
    · exact mk (c, true) 3 h (by decide) (by simp [stp]) (by simp [mtF])
    · exact up _ h1 h h3
    · exact up _ h1 h h3
    · exact dn _ h h3
    · exact dn _ h h3
    · by_cases e : t = c
      · subst e; exact mk (t, false) 0 h3 (by decide) rfl (by simp [mtF])
      · refine mk (t, false) (c + 4) h3 (by omega) ?_ ?_
        · unfold stp
          rw [if_neg (by omega), if_neg (by omega), if_neg (by omega), if_neg (by omega), Nat.add_sub_cancel, if_pos ⟨hc, fun q => e q.symm, rfl, h1, h4, h2⟩]
        · unfold mtF; rw [if_neg (by omega)]
theorem nx_cab {m c : Nat} {S : Pl → Prop} : nxS w N ps kn lo dr m S (c, true) ↔ ((S (c, true) ∨ (S (c, false) ∧ lo c = true)) ∧ kA N ps kn (m + 1) c = false) := by
  constructor
  · rintro ⟨⟨x, l⟩, s, h1, h2, h3, h4⟩
    obtain ⟨h5, h6⟩ := (fre_and h3).mp h4
    refine ⟨?_, h5⟩
    rcases (show s = 0 ∨ s = 1 ∨ s = 2 ∨ s = 3 ∨ 4 ≤ s by omega) with rfl | rfl | rfl | rfl | hs4
    · have : (x, l) = (c, true) := Option.some.inj h3
      rw [this] at h1
      exact Or.inl h1
    · have e : stp w lo dr m (x, l) 1 = if x + 1 < w 0 then some (x + 1, false) else none := rfl
      rw [e] at h3
      split at h3
      · have := congrArg Prod.snd (Option.some.inj h3); cases this
      · cases h3
    · have e : stp w lo dr m (x, l) 2 = if 0 < x then some (x - 1, false) else none := rfl
      rw [e] at h3
      split at h3
      · have := congrArg Prod.snd (Option.some.inj h3); cases this
      · cases h3
    · have e : stp w lo dr m (x, l) 3 = if l = true then some (x, false) else if lo x = true then some (x, true) else none := rfl
      rw [e] at h3
      split at h3
      · have := congrArg Prod.snd (Option.some.inj h3); cases this
      · rename_i hl
        split at h3
        · rename_i z
          have e2 : x = c := congrArg Prod.fst (Option.some.inj h3)
          subst e2
          cases l with
          | true => exact absurd rfl hl
          | false => exact Or.inr ⟨h1, z⟩
        · cases h3
    · have e : stp w lo dr m (x, l) s = if s - 4 < w 0 ∧ s - 4 ≠ x ∧ l = false ∧ stF w m = true ∧ dr x = true ∧ dr (s - 4) = true then some (s - 4, false) else none := by
        unfold stp; rw [if_neg (by omega), if_neg (by omega), if_neg (by omega), if_neg (by omega)]
      rw [e] at h3
      split at h3
      · have := congrArg Prod.snd (Option.some.inj h3); cases this
      · cases h3
  · rintro ⟨h | ⟨h, hl⟩, hg⟩
    · exact ⟨(c, true), 0, h, by decide, rfl, (fre_and (q := (c, true)) rfl).mpr ⟨hg, by simp [mtF]⟩⟩
    · have e : stp w lo dr m (c, false) 3 = some (c, true) := by simp [stp, hl]
      exact ⟨(c, false), 3, h, by decide, e, (fre_and e).mpr ⟨hg, by simp [mtF]⟩⟩
/-- the next set's bits; Z what comes to a seat -/
theorem on_bits {q m : Nat} {x Z : Int32} {S : Pl → Prop} (hf : CF I q (w 1) (w 0) lo dr) (hl : ∀ c, lo c = true → c < w 0) (hC : CA I q (w 1) N ps kn) (hm : m + 1 < w 1) (h8 : w 0 ≤ 8) (hS : ∀ q, S q → q.1 < w 0) (hB : BS x S) (hZ : ∀ c, c < w 0 → (bt Z c = true ↔ (bt (((x &&& I 20 q 9) ||| (x >>> (nI 8 &&& nI 31))) ||| (((((x &&& I 20 q 9) ||| (x >>> (nI 8 &&& nI 31))) &&& (I 23 q m ^^^ nN)) <<< (nI 1 &&& nI 31))) ||| (((((x &&& I 20 q 9) ||| (x >>> (nI 8 &&& nI 31))) &&& (I 24 q m ^^^ nN)) >>> (nI 1 &&& nI 31)))) c = true ∨ (stF w m = true ∧ dr c = true ∧ ∃ t, S (t, false) ∧ dr t = true)))) : BS ((((Z &&& I 20 q 9) &&& (I 21 q (m + 1) ^^^ nN))) ||| (((((x >>> (nI 8 &&& nI 31)) ||| ((x &&& I 20 q 9) &&& I 20 q 10)) &&& (I 22 q (m + 1) ^^^ nN)) <<< (nI 8 &&& nI 31)))) (nxS w N ps kn lo dr m S) := by
  have hk : ∀ c, c < 8 → (bt (x >>> (nI 8 &&& nI 31)) c = true ↔ S (c, true)) := fun c hc => by rw [bt_shr (by omega) _ (by omega)]; exact hB.cab hc
  have hs : ∀ c, c < 8 → (bt (x &&& I 20 q 9) c = true ↔ S (c, false)) := fun c hc => by
    rw [bt_and, hf.2.1, Bool.and_eq_true_iff, hB.seat hc]
    exact ⟨fun z => z.1, fun z => ⟨z, by have := hS _ z; simpa using this⟩⟩
  have hX : ∀ c, c < 9 → (bt ((x &&& I 20 q 9) ||| (x >>> (nI 8 &&& nI 31))) c = true ↔ (S (c, false) ∨ S (c, true))) := fun c hc => by
    by_cases hc8 : c < 8
    · rw [bt_or, Bool.or_eq_true_iff, hs c hc8, hk c hc8]
    · rw [bt_or, bt_and, hf.2.1, bt_shr (by omega) _ (by omega), hB.2 (c + 8) (by omega)]
      have : ¬ c < w 0 := by omega
      simp only [this, decide_false, Bool.and_false, Bool.or_false, Bool.false_eq_true, false_iff]
      rintro (z | z)
      · have := hS _ z; simp only at this; omega
      · have := hS _ z; simp only at this; omega
  refine ⟨fun p hp => ?_, fun k hk16 => ?_⟩
  · obtain ⟨c, l⟩ := p
    simp only at hp
    cases l with
    | false =>
      rw [show cP (c, false) = c from rfl, bt_or, bt_shl (by omega), show decide (8 ≤ c) = false from decide_eq_false (by omega), Bool.and_false, Bool.false_and, Bool.or_false, bt_set (by omega), bt_and, hf.2.1]
      by_cases hc : c < w 0
      · rw [nx_seat hm h8 hS hc]
        obtain ⟨g1, -⟩ := hC (m + 1) hm c
        rw [g1, decide_eq_true hc, Bool.and_true, Bool.and_eq_true_iff, hZ c hc, bt_or, bt_or, Bool.or_eq_true_iff, Bool.or_eq_true_iff, hX c (by omega), bt_shl (by omega), bt_shr (by omega) _ (by omega), bt_set (by omega), bt_set (by omega), (hC m (by omega) (c - 1)).2.2.1, (hC m (by omega) (c + 1)).2.2.2, Bool.and_eq_true_iff, Bool.and_eq_true_iff, Bool.and_eq_true_iff, Bool.and_eq_true_iff, hX (c - 1) (by omega), hX (c + 1) (by omega)]
        have h32 : c < 32 := by omega
        simp only [h32, decide_true, true_and, decide_eq_true_iff, Bool.not_eq_true', or_assoc]
      · rw [decide_eq_false hc]
        simp only [Bool.and_false, Bool.false_and, Bool.false_eq_true, false_iff]
        rintro ⟨p, s, h1, h2, h3, -⟩
        exact hc (stp_in (hS p h1) h3)
    | true =>
      rw [show cP (c, true) = c + 8 from rfl, bt_or, bt_and, bt_and, hf.2.1, show decide (c + 8 < w 0) = false from decide_eq_false (by omega), Bool.and_false, Bool.false_and, Bool.false_or, bt_shl (by omega), show decide (8 ≤ c + 8) = true from decide_eq_true (by omega), show decide (c + 8 < 32) = true from decide_eq_true (by omega), Bool.true_and, Bool.true_and, Nat.add_sub_cancel, bt_set (by omega), bt_or, (hC (m + 1) hm c).2.1, Bool.and_eq_true_iff, Bool.or_eq_true_iff, hk c hp, bt_and, Bool.and_eq_true_iff, hs c hp, hf.2.2.1, nx_cab]
      simp only [Bool.not_eq_true']
  · by_cases h32 : k < 32
    · rw [bt_or, bt_and, bt_and, hf.2.1, show decide (k < w 0) = false from decide_eq_false (by omega), bt_shl (by omega), bt_and, bt_or, bt_shr (by omega) _ (by omega), show k - 8 + 8 = k by omega, hB.2 k hk16, bt_and, bt_and, hf.2.1, show decide (k - 8 < w 0) = false from decide_eq_false (by omega)]
      simp
    · exact bt_ge (by omega)
theorem c_onward {q m : Nat} {x : Int32} {S : Pl → Prop} (h : TC I w) (v : Vw w) (hf : CF I q (w 1) (w 0) lo dr) (hl : ∀ c, lo c = true → c < w 0) (hr : ∀ c, dr c = true → c < w 0) (hC : CA I q (w 1) N ps kn) (hm : m + 1 < w 1) (hS : ∀ q, S q → q.1 < w 0) (hB : BS x S) (hd : 2 ≤ d) : ∃ y, K_X0_onward X d q x (nI m) (I, L, ()) = some (some (aI y), (I, L, ())) ∧ BS y (nxS w N ps kn lo dr m S) := by
  obtain ⟨e, rfl⟩ : ∃ e, d = e + 1 := ⟨d - 1, by omega⟩
  obtain ⟨⟨w0, w1, -⟩, -⟩ := id v
  have hD : (x &&& I 20 q 9) &&& I 20 q 11 = nI 0 ↔ ¬ ∃ t, S (t, false) ∧ dr t = true := by
    rw [bt_eq0]
    constructor
    · rintro h1 ⟨t, h2, h3⟩
      have h4 := hS _ h2
      simp only at h4
      have h5 := h1 t (by omega)
      rw [bt_and, bt_and, hf.2.1, hf.2.2.2, h3, (hB.seat (by omega)).mpr h2, decide_eq_true h4] at h5
      cases h5
    · intro h1 k hk
      cases hb : bt ((x &&& I 20 q 9) &&& I 20 q 11) k with
      | false => rfl
      | true =>
        rw [bt_and, bt_and, hf.2.1, hf.2.2.2, Bool.and_eq_true_iff, Bool.and_eq_true_iff] at hb
        have hk0 : k < w 0 := by simpa using hb.1.2
        exact absurd ⟨k, (hB.seat (by omega)).mp hb.1.1, hb.2⟩ h1
  cases hst : decide (0 < m ∧ m % w 2 = 0) with
  | false =>
    refine ⟨_, K_X0_onward.e X e _ _ _ I L _ ?_, on_bits hf hl hC hm w0 hS hB (fun c hc => ⟨Or.inl, fun z => z.elim id (fun z => by have := z.1; unfold stF at this; rw [hst] at this; cases this)⟩)⟩
    rw [hf.1]
    simp (disch := omega) only [a_bi_i, a_bv_n, a_bl_l, a_bq_q, l_0, l_1, l_2, l_3, l_4, l_5, l_6, l_7, l_8, l_9, l_10, l_12, l_16, l_20, l_24, l_25, l_31, l_32, l_33, l_40, l_48, l_57, l_60, l_63, l_64, l_78, l_85, l_97, l_99, l_100, l_122, l_255, l_325, l_700, l_999, l_1000, l_1200, l_99999, l_100000, l_1000000, l_2000000000, l_N, n_add, n_mul, n_lt, n_out, n_div, n_dm, n_eq, n_toN, n_inN, n_ltN, n_nltN, n_neN, Nat.not_lt_zero, false_or, or_false, ite_y, ite_n, if_true, if_false, ite_tt, ite_ff, b_0, b_1, eq_self_iff_true, Bool.true_eq_false, Bool.false_eq_true, c_isStop h v (show m < w 1 by omega), hst]
  | true =>
    by_cases hz : (x &&& I 20 q 9) &&& I 20 q 11 = nI 0
    · refine ⟨_, K_X0_onward.e X e _ _ _ I L _ ?_, on_bits hf hl hC hm w0 hS hB (fun c hc => ⟨Or.inl, fun z => z.elim id (fun z => absurd z.2.2 (hD.mp hz))⟩)⟩
      rw [hf.1]
      simp (disch := omega) only [a_bi_i, a_bv_n, a_bl_l, a_bq_q, l_0, l_1, l_2, l_3, l_4, l_5, l_6, l_7, l_8, l_9, l_10, l_12, l_16, l_20, l_24, l_25, l_31, l_32, l_33, l_40, l_48, l_57, l_60, l_63, l_64, l_78, l_85, l_97, l_99, l_100, l_122, l_255, l_325, l_700, l_999, l_1000, l_1200, l_99999, l_100000, l_1000000, l_2000000000, l_N, n_add, n_mul, n_lt, n_out, n_div, n_dm, n_eq, n_toN, n_inN, n_ltN, n_nltN, n_neN, Nat.not_lt_zero, false_or, or_false, ite_y, ite_n, if_true, if_false, ite_tt, ite_ff, b_0, b_1, eq_self_iff_true, Bool.true_eq_false, Bool.false_eq_true, c_isStop h v (show m < w 1 by omega), hst, hz]
    · have hex : ∃ t, S (t, false) ∧ dr t = true := by
        by_cases z : ∃ t, S (t, false) ∧ dr t = true
        · exact z
        · exact absurd (hD.mpr z) hz
      refine ⟨_, K_X0_onward.e X e _ _ _ I L _ ?_, on_bits (Z := ((((x &&& I 20 q 9) ||| (x >>> (nI 8 &&& nI 31))) ||| (((((x &&& I 20 q 9) ||| (x >>> (nI 8 &&& nI 31))) &&& (I 23 q m ^^^ nN)) <<< (nI 1 &&& nI 31)))) ||| (((((x &&& I 20 q 9) ||| (x >>> (nI 8 &&& nI 31))) &&& (I 24 q m ^^^ nN)) >>> (nI 1 &&& nI 31)))) ||| I 20 q 11) hf hl hC hm w0 hS hB (fun c hc => by
        rw [bt_or _ (I 20 q 11), Bool.or_eq_true_iff, hf.2.2.2]
        exact ⟨fun z => z.imp id (fun z => ⟨hst, z, hex⟩), fun z => z.imp id (fun z => z.2.1)⟩)⟩
      rw [hf.1]
      simp (disch := omega) only [a_bi_i, a_bv_n, a_bl_l, a_bq_q, l_0, l_1, l_2, l_3, l_4, l_5, l_6, l_7, l_8, l_9, l_10, l_12, l_16, l_20, l_24, l_25, l_31, l_32, l_33, l_40, l_48, l_57, l_60, l_63, l_64, l_78, l_85, l_97, l_99, l_100, l_122, l_255, l_325, l_700, l_999, l_1000, l_1200, l_99999, l_100000, l_1000000, l_2000000000, l_N, n_add, n_mul, n_lt, n_out, n_div, n_dm, n_eq, n_toN, n_inN, n_ltN, n_nltN, n_neN, Nat.not_lt_zero, false_or, or_false, ite_y, ite_n, if_true, if_false, ite_tt, ite_ff, b_0, b_1, eq_self_iff_true, Bool.true_eq_false, Bool.false_eq_true, c_isStop h v (show m < w 1 by omega), hst, hz]
end
