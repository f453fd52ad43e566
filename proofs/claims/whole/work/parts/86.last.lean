/-! the class seeks the last of a row -/
section
variable {X : AX} {d : Nat} {I J : A3 Int32} {L : A3 Int64} {w : TW}
def ext (r : Nat → Nat) (n b : Nat) (t : Nat) : Nat := if t = n then b else r t
theorem CA.cg {q T n : Nat} {p p' : Nat → Nat → Option Nat} {kn : Nat → Nat} (h : CA I q T n p kn) (hp : ∀ k, k < n → p k = p' k) : CA I q T n p' kn := by
  intro m hm c
  obtain ⟨a1, a2, a3, a4⟩ := h m hm c
  rw [a1, a2, a3, a4]
  refine ⟨exb_eq fun i hi => by rw [hp i hi], exb_eq fun i hi => by rw [hp i hi], exb_eq fun i hi => by rw [hp i hi], exb_eq fun i hi => by rw [hp i hi]⟩
/-- the rows of one begin each -/
def HR (I : A3 Int32) (w : TW) : Prop := I 28 0 5 = nI (2 * w 0) ∧ ∀ b, b < 2 * w 0 → CF I (b + 3) (w 1) (w 0) (loB w) (doB w) ∧ CA I (b + 3) (w 1) 1 (psB w b) (knB w)
theorem HR.rq {q : Nat} (h : HR I w) (hR : Rq [20, 21, 22, 23, 24, 25] q I J) (hq : q < 3) : HR J w := by
  have e : ∀ f b, J f (b + 3) = I f (b + 3) := fun f b => hR f (b + 3) (Or.inr (by omega))
  refine ⟨by rw [hR 28 0 (Or.inl (by decide))]; exact h.1, fun b hb => ?_⟩
  unfold CF CA CG
  rw [e 20, e 21, e 22, e 23, e 24]
  exact h.2 b hb
theorem c_seekLast {a b n c e : Nat} {r : Nat → Nat} (h : TC I w) (v : Vw w) (hT : 0 < w 1) (hH : HR I w) (hab : a ≠ b) (hb : b < 3) (he : e < 3) (hf : CF I a (w 1) (w 0) (loB w) (doB w)) (hC : CA I a (w 1) n (psR w r) (knB w)) (hc : c ≤ 2 * w 0) (hd : 4 ≤ d) : ∃ J, K_X3_seekLast X d a b (nI c) (nI e) (I, L, ()) = some (some (aI (bI (fndF (fun t => cAl w (n + 1) (ext r n t)) (2 * w 0 - c) c).isSome)), (J, L, ())) ∧ (∀ f q, f ≠ 30 → (f ∉ [20, 21, 22, 23, 24, 25] ∨ q ≠ b) → J f q = I f q) ∧ (∀ t, t ≠ e → J 30 0 t = I 30 0 t) ∧ ∀ x, fndF (fun t => cAl w (n + 1) (ext r n t)) (2 * w 0 - c) c = some x → J 30 0 e = nI x := by
  obtain ⟨g, rfl⟩ : ∃ g, d = g + 1 := ⟨d - 1, by omega⟩
  obtain ⟨⟨w0, w1, -⟩, -⟩ := id v
  have key : ∀ k c K, c + k = 2 * w 0 → Rq [20, 21, 22, 23, 24, 25] b I K → ∃ J, v_X3_seekLast_3 X g a b (nI e) (nI c) (K, L, ()) = some (some (aI (bI (fndF (fun t => cAl w (n + 1) (ext r n t)) k c).isSome)), (J, L, ())) ∧ (∀ f q, f ≠ 30 → (f ∉ [20, 21, 22, 23, 24, 25] ∨ q ≠ b) → J f q = I f q) ∧ (∀ t, t ≠ e → J 30 0 t = I 30 0 t) ∧ ∀ x, fndF (fun t => cAl w (n + 1) (ext r n t)) k c = some x → J 30 0 e = nI x := by
    intro k
    induction k with
    | zero =>
      intro c K hc hR
      refine ⟨K, v_X3_seekLast_3.e X g _ _ _ _ K L _ ?_, fun f q _ hq => hR f q hq, fun t _ => by rw [hR 30 0 (Or.inl (by decide))], fun x hx => by cases hx⟩
      have hH' := hH.rq hR hb
      rw [hH'.1]
      simp (disch := omega) only [a_bi_i, a_bv_n, a_bl_l, a_bq_q, l_0, l_1, l_2, l_3, l_4, l_5, l_6, l_7, l_8, l_9, l_10, l_12, l_16, l_20, l_24, l_25, l_31, l_32, l_33, l_40, l_48, l_57, l_60, l_63, l_64, l_78, l_85, l_97, l_99, l_100, l_122, l_255, l_325, l_700, l_999, l_1000, l_1200, l_99999, l_100000, l_1000000, l_2000000000, l_N, n_add, n_mul, n_lt, n_out, n_div, n_dm, n_eq, n_toN, n_inN, n_ltN, n_nltN, n_neN, Nat.not_lt_zero, false_or, or_false, ite_y, ite_n, if_true, if_false, ite_tt, ite_ff, b_0, b_1, eq_self_iff_true, Bool.true_eq_false, Bool.false_eq_true]
      rfl
    | succ k ih =>
      intro c K hc hR
      have hcB : c < 2 * w 0 := by omega
      have hH' := hH.rq hR hb
      have ea : ∀ f, K f a = I f a := fun f => hR f a (Or.inr hab)
      have fa : CF K a (w 1) (w 0) (loB w) (doB w) := by unfold CF; rw [ea 20]; exact hf
      have ca : CA K a (w 1) n (psR w (ext r n c)) (knB w) := by
        have : CA K a (w 1) n (psR w r) (knB w) := by unfold CA CG; rw [ea 21, ea 22, ea 23, ea 24]; exact hC
        exact this.cg (fun k hk => by unfold psR ext; rw [if_neg (by omega)])
      have cc : CA K (c + 3) (w 1) 1 (psB w (ext r n c n)) (knB w) := by
        have : ext r n c n = c := if_pos rfl
        rw [this]; exact (hH'.2 c hcB).2
      obtain ⟨K1, j1, j2, j3, j4⟩ := c_join (X := X) (d := g) (L := L) (I := K) (a := b) (b := a) (c := c + 3) hab (by omega) w1 fa.1 (by omega)
      have R1 : Rq [20, 21, 22, 23, 24, 25] b I K1 := hR.trans (j2.mono (by decide))
      have t1 : TC K1 w := h.sc (Sc.of R1.fm (by decide))
      have c1 : CA K1 b (w 1) (n + 1) (psR w (ext r n c)) (knB w) := CA.join ca cc j4
      have f1 : CF K1 b (w 1) (w 0) (loB w) (doB w) := by
        unfold CF
        rw [j3.1, j3.2.1, j3.2.2.1, j3.2.2.2]
        exact fa
      obtain ⟨K2, x, s1, s2, s3⟩ := c_try (X := X) (d := g) (L := L) t1 v hT f1 c1 (by omega)
      have R2 : Rq [20, 21, 22, 23, 24, 25] b I K2 := R1.trans (Rq.rw s2 (by decide))
      cases hq : cAl w (n + 1) (ext r n c) with
      | true =>
        have hx := s3.mpr hq
        have hfn : fndF (fun t => cAl w (n + 1) (ext r n t)) (k + 1) c = some c := by
          show (if cAl w (n + 1) (ext r n c) = true then some c else _) = some c
          rw [if_pos hq]
        rw [hfn]
        refine ⟨up3 K2 30 0 e (nI c), v_X3_seekLast_3.e X g _ _ _ _ K L _ ?_, fun f q h30 hq => by rw [u3_f _ _ h30]; exact R2 f q hq, fun t ht => by rw [u3_j _ _ ht, R2 30 0 (Or.inl (by decide))], fun y hy => by cases hy; exact u3_eq _ _ _ _ _⟩
        rw [hH'.1]
        simp (disch := omega) only [a_bi_i, a_bv_n, a_bl_l, a_bq_q, l_0, l_1, l_2, l_3, l_4, l_5, l_6, l_7, l_8, l_9, l_10, l_12, l_16, l_20, l_24, l_25, l_31, l_32, l_33, l_40, l_48, l_57, l_60, l_63, l_64, l_78, l_85, l_97, l_99, l_100, l_122, l_255, l_325, l_700, l_999, l_1000, l_1200, l_99999, l_100000, l_1000000, l_2000000000, l_N, n_add, n_mul, n_lt, n_out, n_div, n_dm, n_eq, n_toN, n_inN, n_ltN, n_nltN, n_neN, Nat.not_lt_zero, false_or, or_false, ite_y, ite_n, if_true, if_false, ite_tt, ite_ff, b_0, b_1, eq_self_iff_true, Bool.true_eq_false, Bool.false_eq_true, j1, s1, hx]
        rfl
      | false =>
        have hx : ¬ x = nI 0 := fun z => by rw [s3.mp z] at hq; cases hq
        have hfn : fndF (fun t => cAl w (n + 1) (ext r n t)) (k + 1) c = fndF (fun t => cAl w (n + 1) (ext r n t)) k (c + 1) := by
          show (if cAl w (n + 1) (ext r n c) = true then some c else _) = _
          rw [hq, if_neg (by decide)]
        rw [hfn]
        obtain ⟨J, u1, u2, u3, u4⟩ := ih (c + 1) K2 (by omega) R2
        refine ⟨J, v_X3_seekLast_3.e X g _ _ _ _ K L _ ?_, u2, u3, u4⟩
        rw [hH'.1]
        simp (disch := omega) only [a_bi_i, a_bv_n, a_bl_l, a_bq_q, l_0, l_1, l_2, l_3, l_4, l_5, l_6, l_7, l_8, l_9, l_10, l_12, l_16, l_20, l_24, l_25, l_31, l_32, l_33, l_40, l_48, l_57, l_60, l_63, l_64, l_78, l_85, l_97, l_99, l_100, l_122, l_255, l_325, l_700, l_999, l_1000, l_1200, l_99999, l_100000, l_1000000, l_2000000000, l_N, n_add, n_mul, n_lt, n_out, n_div, n_dm, n_eq, n_toN, n_inN, n_ltN, n_nltN, n_neN, Nat.not_lt_zero, false_or, or_false, ite_y, ite_n, if_true, if_false, ite_tt, ite_ff, b_0, b_1, eq_self_iff_true, Bool.true_eq_false, Bool.false_eq_true, j1, s1, hx]
        exact u1
  obtain ⟨J, u1, u2, u3, u4⟩ := key (2 * w 0 - c) c I (by omega) Rq.refl
  exact ⟨J, K_X3_seekLast.e X g _ _ _ _ I L _ u1, u2, u3, u4⟩
end
