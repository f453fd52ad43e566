/-! the law -/
section
variable {X : AX} {I : A3 Int32} {L : A3 Int64} {m : Nat}
theorem w_18 (hR : Rel I L) (hm : m + 6 ≤ X.1) (hX : X.1 ≤ 3072) (o : LwO X m) (hn : LwN X m) : ∃ r, v_L_law_18 X 15 (nI m) (I, L, ()) = some (some (aI (1 : Int32)), r) := by
  have o0 : ¬ aout (nI m) (sp_n X 300) := by rw [n_out (by omega)]; show ¬ X.1 ≤ m; omega
  have q0 : ¬ Int32.ofNat (sp_n X 300) - (6 : Int32) < nI m := fun z => by
    have z2 : nI X.1 - nI 6 < nI m := z
    rw [n_sub (by omega), n_lt (by omega) (by omega)] at z2
    omega
  have st : ∀ r, _ = some r → v_L_law_18 X 15 (nI m) (I, L, ()) = some r := v_L_law_18.e X 15 (nI m) I L
  rw [if_neg q0, if_neg o0] at st
  generalize sp_v X 300 (Int32.toNatClampNeg (nI m)) &&& (63 : Int32) = v at st
  by_cases h0 : v = (0 : Int32)
  · rw [if_pos h0] at st; obtain ⟨r, hr⟩ := w_300 hR o hn; exact ⟨r, st _ hr⟩
  rw [if_neg h0] at st
  by_cases h1 : v = (1 : Int32)
  · rw [if_pos h1] at st; obtain ⟨r, hr⟩ := w_363 hR o hn; exact ⟨r, st _ hr⟩
  rw [if_neg h1] at st
  by_cases h2 : v = (2 : Int32)
  · rw [if_pos h2] at st; obtain ⟨r, hr⟩ := w_386 hR o hn; exact ⟨r, st _ hr⟩
  rw [if_neg h2] at st
  by_cases h3 : v = (3 : Int32)
  · rw [if_pos h3] at st; obtain ⟨r, hr⟩ := w_399 hR o hn; exact ⟨r, st _ hr⟩
  rw [if_neg h3] at st
  by_cases h4 : v = (4 : Int32)
  · rw [if_pos h4] at st; obtain ⟨r, hr⟩ := w_422 hR o hn; exact ⟨r, st _ hr⟩
  rw [if_neg h4] at st
  by_cases h5 : v = (5 : Int32)
  · rw [if_pos h5] at st; obtain ⟨r, hr⟩ := w_455 hR o hn; exact ⟨r, st _ hr⟩
  rw [if_neg h5] at st
  by_cases h6 : v = (6 : Int32)
  · rw [if_pos h6] at st; obtain ⟨r, hr⟩ := w_488 hR o hn; exact ⟨r, st _ hr⟩
  rw [if_neg h6] at st
  by_cases h7 : v = (7 : Int32)
  · rw [if_pos h7] at st; obtain ⟨r, hr⟩ := w_521 hR o hn; exact ⟨r, st _ hr⟩
  rw [if_neg h7] at st
  by_cases h8 : v = (8 : Int32)
  · rw [if_pos h8] at st; obtain ⟨r, hr⟩ := w_544 hR o hn; exact ⟨r, st _ hr⟩
  rw [if_neg h8] at st
  by_cases h9 : v = (9 : Int32)
  · rw [if_pos h9] at st; obtain ⟨r, hr⟩ := w_567 hR o hn; exact ⟨r, st _ hr⟩
  rw [if_neg h9] at st
  by_cases h10 : v = (10 : Int32)
  · rw [if_pos h10] at st; obtain ⟨r, hr⟩ := w_600 hR o hn; exact ⟨r, st _ hr⟩
  rw [if_neg h10] at st
  by_cases h11 : v = (11 : Int32)
  · rw [if_pos h11] at st; obtain ⟨r, hr⟩ := w_633 hR o hn; exact ⟨r, st _ hr⟩
  rw [if_neg h11] at st
  by_cases h12 : v = (12 : Int32)
  · rw [if_pos h12] at st; obtain ⟨r, hr⟩ := w_666 hR o hn; exact ⟨r, st _ hr⟩
  rw [if_neg h12] at st
  by_cases h13 : v = (13 : Int32)
  · rw [if_pos h13] at st; obtain ⟨r, hr⟩ := w_689 hR o hn; exact ⟨r, st _ hr⟩
  rw [if_neg h13] at st
  by_cases h14 : v = (14 : Int32)
  · rw [if_pos h14] at st; obtain ⟨r, hr⟩ := w_702 hR o hn; exact ⟨r, st _ hr⟩
  rw [if_neg h14] at st
  by_cases h15 : v = (15 : Int32)
  · rw [if_pos h15] at st; obtain ⟨r, hr⟩ := w_735 hR o hn; exact ⟨r, st _ hr⟩
  rw [if_neg h15] at st
  by_cases h16 : v = (16 : Int32)
  · rw [if_pos h16] at st; obtain ⟨r, hr⟩ := w_758 hR o hn; exact ⟨r, st _ hr⟩
  rw [if_neg h16] at st
  by_cases h17 : v = (17 : Int32)
  · rw [if_pos h17] at st; obtain ⟨r, hr⟩ := w_781 hR o hn; exact ⟨r, st _ hr⟩
  rw [if_neg h17] at st
  by_cases h18 : v = (18 : Int32)
  · rw [if_pos h18] at st; obtain ⟨r, hr⟩ := w_794 hR o hn; exact ⟨r, st _ hr⟩
  rw [if_neg h18] at st
  by_cases h19 : v = (19 : Int32)
  · rw [if_pos h19] at st; obtain ⟨r, hr⟩ := w_807 hR o hn; exact ⟨r, st _ hr⟩
  rw [if_neg h19] at st
  by_cases h20 : v = (20 : Int32)
  · rw [if_pos h20] at st; obtain ⟨r, hr⟩ := w_830 hR o hn; exact ⟨r, st _ hr⟩
  rw [if_neg h20] at st
  by_cases h21 : v = (21 : Int32)
  · rw [if_pos h21] at st; obtain ⟨r, hr⟩ := w_873 hR o hn; exact ⟨r, st _ hr⟩
  rw [if_neg h21] at st
  by_cases h22 : v = (22 : Int32)
  · rw [if_pos h22] at st; obtain ⟨r, hr⟩ := w_886 hR o hn; exact ⟨r, st _ hr⟩
  rw [if_neg h22] at st
  by_cases h23 : v = (23 : Int32)
  · rw [if_pos h23] at st; obtain ⟨r, hr⟩ := w_919 hR o hn; exact ⟨r, st _ hr⟩
  rw [if_neg h23] at st
  by_cases h24 : v = (24 : Int32)
  · rw [if_pos h24] at st; obtain ⟨r, hr⟩ := w_942 hR o hn; exact ⟨r, st _ hr⟩
  rw [if_neg h24] at st
  by_cases h25 : v = (25 : Int32)
  · rw [if_pos h25] at st; obtain ⟨r, hr⟩ := w_965 hR o hn; exact ⟨r, st _ hr⟩
  rw [if_neg h25] at st
  by_cases h26 : v = (26 : Int32)
  · rw [if_pos h26] at st; obtain ⟨r, hr⟩ := w_988 hR o hn; exact ⟨r, st _ hr⟩
  rw [if_neg h26] at st
  by_cases h27 : v = (27 : Int32)
  · rw [if_pos h27] at st; obtain ⟨r, hr⟩ := w_1001 hR o hn; exact ⟨r, st _ hr⟩
  rw [if_neg h27] at st
  by_cases h28 : v = (28 : Int32)
  · rw [if_pos h28] at st; obtain ⟨r, hr⟩ := w_1024 hR o hn; exact ⟨r, st _ hr⟩
  rw [if_neg h28] at st
  by_cases h29 : v = (29 : Int32)
  · rw [if_pos h29] at st; obtain ⟨r, hr⟩ := w_1047 hR o hn; exact ⟨r, st _ hr⟩
  rw [if_neg h29] at st
  by_cases h30 : v = (30 : Int32)
  · rw [if_pos h30] at st; obtain ⟨r, hr⟩ := w_1060 hR o hn; exact ⟨r, st _ hr⟩
  rw [if_neg h30] at st
  by_cases h31 : v = (31 : Int32)
  · rw [if_pos h31] at st; obtain ⟨r, hr⟩ := w_1103 hR o hn; exact ⟨r, st _ hr⟩
  rw [if_neg h31] at st
  by_cases h32 : v = (32 : Int32)
  · rw [if_pos h32] at st; obtain ⟨r, hr⟩ := w_1136 hR o hn; exact ⟨r, st _ hr⟩
  rw [if_neg h32] at st
  by_cases h33 : v = (33 : Int32)
  · rw [if_pos h33] at st; obtain ⟨r, hr⟩ := w_1169 hR o hn; exact ⟨r, st _ hr⟩
  rw [if_neg h33] at st
  by_cases h34 : v = (34 : Int32)
  · rw [if_pos h34] at st; obtain ⟨r, hr⟩ := w_1192 hR o hn; exact ⟨r, st _ hr⟩
  rw [if_neg h34] at st
  by_cases h35 : v = (35 : Int32)
  · rw [if_pos h35] at st; obtain ⟨r, hr⟩ := w_1215 hR o hn; exact ⟨r, st _ hr⟩
  rw [if_neg h35] at st
  by_cases h36 : v = (36 : Int32)
  · rw [if_pos h36] at st; obtain ⟨r, hr⟩ := w_1238 hR o hn; exact ⟨r, st _ hr⟩
  rw [if_neg h36] at st
  by_cases h37 : v = (37 : Int32)
  · rw [if_pos h37] at st; obtain ⟨r, hr⟩ := w_1261 hR o hn; exact ⟨r, st _ hr⟩
  rw [if_neg h37] at st
  by_cases h38 : v = (38 : Int32)
  · rw [if_pos h38] at st; obtain ⟨r, hr⟩ := w_1284 hR o hn; exact ⟨r, st _ hr⟩
  rw [if_neg h38] at st
  by_cases h39 : v = (39 : Int32)
  · rw [if_pos h39] at st; obtain ⟨r, hr⟩ := w_1297 hR o hn; exact ⟨r, st _ hr⟩
  rw [if_neg h39] at st
  by_cases h40 : v = (40 : Int32)
  · rw [if_pos h40] at st; obtain ⟨r, hr⟩ := w_1330 hR o hn; exact ⟨r, st _ hr⟩
  rw [if_neg h40] at st
  by_cases h41 : v = (41 : Int32)
  · rw [if_pos h41] at st; obtain ⟨r, hr⟩ := w_1353 hR o hn; exact ⟨r, st _ hr⟩
  rw [if_neg h41] at st
  by_cases h42 : v = (42 : Int32)
  · rw [if_pos h42] at st; obtain ⟨r, hr⟩ := w_1386 hR o hn; exact ⟨r, st _ hr⟩
  rw [if_neg h42] at st
  by_cases h43 : v = (43 : Int32)
  · rw [if_pos h43] at st; obtain ⟨r, hr⟩ := w_1409 hR o hn; exact ⟨r, st _ hr⟩
  rw [if_neg h43] at st
  by_cases h44 : v = (44 : Int32)
  · rw [if_pos h44] at st; obtain ⟨r, hr⟩ := w_1442 hR o hn; exact ⟨r, st _ hr⟩
  rw [if_neg h44] at st
  by_cases h45 : v = (45 : Int32)
  · rw [if_pos h45] at st; obtain ⟨r, hr⟩ := w_1475 hR o hn; exact ⟨r, st _ hr⟩
  rw [if_neg h45] at st
  by_cases h46 : v = (46 : Int32)
  · rw [if_pos h46] at st; obtain ⟨r, hr⟩ := w_1498 hR o hn; exact ⟨r, st _ hr⟩
  rw [if_neg h46] at st
  by_cases h47 : v = (47 : Int32)
  · rw [if_pos h47] at st; obtain ⟨r, hr⟩ := w_1521 hR o hn; exact ⟨r, st _ hr⟩
  rw [if_neg h47] at st
  by_cases h48 : v = (48 : Int32)
  · rw [if_pos h48] at st; obtain ⟨r, hr⟩ := w_1554 hR o hn; exact ⟨r, st _ hr⟩
  rw [if_neg h48] at st
  by_cases h49 : v = (49 : Int32)
  · rw [if_pos h49] at st; obtain ⟨r, hr⟩ := w_1577 hR o hn; exact ⟨r, st _ hr⟩
  rw [if_neg h49] at st
  by_cases h50 : v = (50 : Int32)
  · rw [if_pos h50] at st; obtain ⟨r, hr⟩ := w_1600 hR o hn; exact ⟨r, st _ hr⟩
  rw [if_neg h50] at st
  by_cases h51 : v = (51 : Int32)
  · rw [if_pos h51] at st; obtain ⟨r, hr⟩ := w_1623 hR o hn; exact ⟨r, st _ hr⟩
  rw [if_neg h51] at st
  by_cases h52 : v = (52 : Int32)
  · rw [if_pos h52] at st; obtain ⟨r, hr⟩ := w_1636 hR o hn; exact ⟨r, st _ hr⟩
  rw [if_neg h52] at st
  by_cases h53 : v = (53 : Int32)
  · rw [if_pos h53] at st; obtain ⟨r, hr⟩ := w_1679 hR o hn; exact ⟨r, st _ hr⟩
  rw [if_neg h53] at st
  by_cases h54 : v = (54 : Int32)
  · rw [if_pos h54] at st; obtain ⟨r, hr⟩ := w_1712 hR o hn; exact ⟨r, st _ hr⟩
  rw [if_neg h54] at st
  by_cases h55 : v = (55 : Int32)
  · rw [if_pos h55] at st; obtain ⟨r, hr⟩ := w_1725 hR o hn; exact ⟨r, st _ hr⟩
  rw [if_neg h55] at st
  by_cases h56 : v = (56 : Int32)
  · rw [if_pos h56] at st; obtain ⟨r, hr⟩ := w_1758 hR o hn; exact ⟨r, st _ hr⟩
  rw [if_neg h56] at st
  by_cases h57 : v = (57 : Int32)
  · rw [if_pos h57] at st; obtain ⟨r, hr⟩ := w_1801 hR o hn; exact ⟨r, st _ hr⟩
  rw [if_neg h57] at st
  by_cases h58 : v = (58 : Int32)
  · rw [if_pos h58] at st; obtain ⟨r, hr⟩ := w_1824 hR o hn; exact ⟨r, st _ hr⟩
  rw [if_neg h58] at st
  by_cases h59 : v = (59 : Int32)
  · rw [if_pos h59] at st; obtain ⟨r, hr⟩ := w_1847 hR o hn; exact ⟨r, st _ hr⟩
  rw [if_neg h59] at st
  by_cases h60 : v = (60 : Int32)
  · rw [if_pos h60] at st; obtain ⟨r, hr⟩ := w_1870 hR o hn; exact ⟨r, st _ hr⟩
  rw [if_neg h60] at st
  by_cases h61 : v = (61 : Int32)
  · rw [if_pos h61] at st; obtain ⟨r, hr⟩ := w_1913 hR o hn; exact ⟨r, st _ hr⟩
  rw [if_neg h61] at st
  by_cases h62 : v = (62 : Int32)
  · rw [if_pos h62] at st; obtain ⟨r, hr⟩ := w_1986 hR o hn; exact ⟨r, st _ hr⟩
  rw [if_neg h62] at st
  obtain ⟨r, hr⟩ := hn I L hR
  exact ⟨r, st _ (v_L_law_2049.e X 15 (nI m) I L _ hr)⟩
theorem w_out (hX : X.1 ≤ 3072) (hm : X.1 < m + 6) (hm2 : m ≤ X.1) : v_L_law_18 X 15 (nI m) (I, L, ()) = some (some (aI (1 : Int32)), (I, L, ())) := by
  refine v_L_law_18.e X 15 (nI m) I L _ ?_
  have q0 : Int32.ofNat (sp_n X 300) - (6 : Int32) < nI m := by
    show nI X.1 - nI 6 < nI m
    by_cases c : 6 ≤ X.1
    · rw [n_sub c, n_lt (by omega) (by omega)]; omega
    · have small : ∀ a, a < 6 → ∀ c, c < 6 → nI a - nI 6 < nI c := by decide
      exact small _ (by omega) _ (by omega)
  rw [if_pos q0]
theorem w_all (hX : X.1 ≤ 3072) : ∀ k m (I : A3 Int32) (L : A3 Int64), X.1 - m ≤ k → m ≤ X.1 → Rel I L → ∃ r, v_L_law_18 X 15 (nI m) (I, L, ()) = some (some (aI (1 : Int32)), r) := by
  intro k
  induction k with
  | zero => intro m I L hk hm hR; exact ⟨_, w_out hX (by omega) hm⟩
  | succ k ih =>
    intro m I L hk hm hR
    by_cases c : m + 6 ≤ X.1
    · have o : ∀ j, j < 6 → ¬ aout (nI m + nI j) (sp_n X 300) := fun j hj => by
        rw [n_add, n_out (by omega)]; show ¬ X.1 ≤ m + j; omega
      refine w_18 hR c hX ⟨o 1 (by decide), o 2 (by decide), o 3 (by decide), o 4 (by decide), o 5 (by decide)⟩ (fun J L' hJ => ?_)
      rw [show nI m + 6 = nI (m + 6) from n_add m 6]
      exact ih (m + 6) J L' (by omega) c hJ
    · exact ⟨_, w_out hX (by omega) hm⟩
theorem ck_L : ((List.range 8).all (fun j => isL.contains (6, 0, j, (0 : Int))) && (List.range 24).all (fun j => isL.contains (7, 0, j, (0 : Int))) && (List.range 15).all (fun j => isL.contains (8, 0, j, (0 : Int))) && (List.range 30).all (fun j => isL.contains (9, 0, j, (0 : Int))) && (List.range 7).all (fun j => isL.contains (10, 0, j, (0 : Int))) && (List.range 85).all (fun j => isL.contains (41, 0, j, (0 : Int))) && (List.range 3).all (fun k => isL.contains (5, k + 2, 7, (0 : Int)) && isL.contains (43, 0, k, (0 : Int))) && (List.range 4).all (fun s => isL.contains (32, s, 1, (0 : Int)) && isL.contains (59, 0, s, (-1 : Int)))) = true := by decide +kernel
theorem ck_M : isL.contains (5, 0, 6, (0 : Int)) = true ∧ isL.contains (1, 0, 1, (0 : Int)) = true ∧ isL.contains (40, 0, 5, (0 : Int)) = true ∧ isL.contains (40, 0, 12, (0 : Int)) = true ∧ isL.contains (3, 0, 1, (0 : Int)) = true ∧ isL.contains (40, 0, 13, (-1 : Int)) = true ∧ isL.contains (3, 0, 2, (-1 : Int)) = true ∧ isL.contains (28, 0, 7, (0 : Int)) = true := by decide +kernel
theorem rg {n j : Nat} {p : Nat → Bool} (h : (List.range n).all p = true) (hj : j < n) : p j = true := List.all_eq_true.mp h j (List.mem_range.mpr hj)
theorem rel_start (h : ∀ e ∈ isL, I e.1 e.2.1 e.2.2.1 = cI e.2.2.2) : Rel I L := by
  have z : ∀ f i j, isL.contains (f, i, j, (0 : Int)) = true → I f i j = nI 0 := fun f i j hm => (h _ (List.contains_iff_mem.mp hm)).trans (show cI 0 = nI 0 by decide)
  have y : ∀ f i j, isL.contains (f, i, j, (-1 : Int)) = true → I f i j = nN := fun f i j hm => (h _ (List.contains_iff_mem.mp hm)).trans (show cI (-1) = nN by decide)
  have ck := ck_L
  simp only [Bool.and_eq_true] at ck
  obtain ⟨⟨⟨⟨⟨⟨⟨k1, k2⟩, k3⟩, k4⟩, k5⟩, k6⟩, k7'⟩, k8'⟩ := ck
  have k7 : ∀ k, k < 3 → isL.contains (5, k + 2, 7, (0 : Int)) = true ∧ isL.contains (43, 0, k, (0 : Int)) = true := fun k hk => by
    have := rg k7' hk
    simpa only [Bool.and_eq_true] using this
  have k8 : ∀ s, s < 4 → isL.contains (32, s, 1, (0 : Int)) = true ∧ isL.contains (59, 0, s, (-1 : Int)) = true := fun s hs => by
    have := rg k8' hs
    simpa only [Bool.and_eq_true] using this
  obtain ⟨m1, m2, m3, m4, m5, m6, m7, m8⟩ := ck_M
  refine ⟨zw, fun _ => (0, 0, 0), fun _ => none, 0, fun _ => 0, fun _ => none, ⟨⟨⟨fun j hj => z _ _ _ (rg k1 hj), fun j hj => z _ _ _ (rg k2 hj), fun j hj => z _ _ _ (rg k3 hj), fun j hj => z _ _ _ (rg k4 hj), fun j hj => z _ _ _ (rg k5 hj)⟩, z _ _ _ m1, fun k hk => absurd hk (Nat.not_lt_zero _)⟩, ⟨fun j hj => z _ _ _ (rg k6 hj), fun k hk => absurd hk (Nat.not_lt_zero _)⟩, Vw.zero, fun k hk => absurd hk (Nat.not_lt_zero _), fun k hk => ⟨z _ _ _ (k7 k hk).1, z _ _ _ (k7 k hk).2⟩, ⟨Nat.zero_le _, z _ _ _ m2, z _ _ _ m3, fun j hj => absurd hj (Nat.not_lt_zero _)⟩, ⟨(z _ _ _ m4).trans (z _ _ _ m5).symm, (y _ _ _ m6).trans (y _ _ _ m7).symm⟩, fun s hs => z _ _ _ (k8 s hs).1, fun s hs => y _ _ _ (k8 s hs).2, fun s wd n g hg => by cases hg⟩, Or.inl (z _ _ _ m8)⟩
theorem lawMath_ok : lawMath := fun X hX I L h => by
  obtain ⟨⟨I', L', u⟩, hr⟩ := w_all (X := X) hX (X.1 - 0) 0 I L (Nat.le_refl _) (Nat.zero_le _) (rel_start h)
  exact ⟨I', L', hr⟩
end
