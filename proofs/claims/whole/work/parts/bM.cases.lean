/-! each case of the law -/
section
variable {X : AX} {I : A3 Int32} {L : A3 Int64} {m : Nat}
/-- the loop goes on -/
def LwN (X : AX) (m : Nat) : Prop := ∀ J L', Rel J L' → ∃ r, v_L_law_18 X 15 (nI m + 6) (J, L', ()) = some (some (aI (1 : Int32)), r)
def LwO (X : AX) (m : Nat) : Prop := ¬ aout (nI m + 1) (sp_n X 300) ∧ ¬ aout (nI m + 2) (sp_n X 300) ∧ ¬ aout (nI m + 3) (sp_n X 300) ∧ ¬ aout (nI m + 4) (sp_n X 300) ∧ ¬ aout (nI m + 5) (sp_n X 300)
theorem w_300 (hR : Rel I L) (o : LwO X m) (hn : LwN X m) : ∃ r, v_L_law_300 X 15 (nI m) (I, L, ()) = some (some (aI (1 : Int32)), r) := by
  obtain ⟨w, e, im, n, b, t, h, hh⟩ := id hR
  obtain ⟨o1, o2, o3, o4, o5⟩ := o
  obtain ⟨x, I', L', J, L'', c1, c2, R⟩ := g_feed (X := X) hR (sp_v X 300 (Int32.toNatClampNeg (nI m + (1 : Int32)))) (sp_v X 300 (Int32.toNatClampNeg (nI m + (2 : Int32)))) (sp_v X 300 (Int32.toNatClampNeg (nI m + (3 : Int32)))) (sp_v X 300 (Int32.toNatClampNeg (nI m + (4 : Int32)))) (sp_v X 300 (Int32.toNatClampNeg (nI m + (5 : Int32))))
  obtain ⟨r, hr⟩ := hn J L'' R
  refine ⟨r, v_L_law_300.e X 15 (nI m) I L _ ?_⟩
  rw [if_neg o1, if_neg o2, if_neg o3, if_neg o4, if_neg o5, c1, a_bi_i]
  dsimp +instances only
  rw [if_neg o1, if_neg o2, if_neg o3, if_neg o4, if_neg o5, c2, a_bi_i, if_pos rfl]
  exact v_L_law_2049.e X 15 (nI m) J L'' _ hr
theorem w_363 (hR : Rel I L) (o : LwO X m) (hn : LwN X m) : ∃ r, v_L_law_363 X 15 (nI m) (I, L, ()) = some (some (aI (1 : Int32)), r) := by
  obtain ⟨w, e, im, n, b, t, h, hh⟩ := id hR
  obtain ⟨o1, o2, o3, o4, o5⟩ := o
  obtain ⟨x, I', L', J, L'', c1, c2, R⟩ := g_end (X := X) hR (sp_v X 300 (Int32.toNatClampNeg (nI m + (1 : Int32))))
  obtain ⟨r, hr⟩ := hn J L'' R
  refine ⟨r, v_L_law_363.e X 15 (nI m) I L _ ?_⟩
  rw [if_neg o1, c1, a_bi_i]
  dsimp +instances only
  rw [if_neg o1, c2, a_bi_i, if_pos rfl]
  exact v_L_law_2049.e X 15 (nI m) J L'' _ hr
theorem w_386 (hR : Rel I L) (o : LwO X m) (hn : LwN X m) : ∃ r, v_L_law_386 X 15 (nI m) (I, L, ()) = some (some (aI (1 : Int32)), r) := by
  obtain ⟨w, e, im, n, b, t, h, hh⟩ := id hR
  obtain ⟨o1, o2, o3, o4, o5⟩ := o
  obtain ⟨x, I', L', J, L'', c1, c2, R⟩ := g_train (X := X) hR
  obtain ⟨r, hr⟩ := hn J L'' R
  refine ⟨r, v_L_law_386.e X 15 (nI m) I L _ ?_⟩
  rw [c1, a_bi_i]
  dsimp +instances only
  rw [c2, a_bi_i, if_pos rfl]
  exact v_L_law_2049.e X 15 (nI m) J L'' _ hr
theorem w_399 (hR : Rel I L) (o : LwO X m) (hn : LwN X m) : ∃ r, v_L_law_399 X 15 (nI m) (I, L, ()) = some (some (aI (1 : Int32)), r) := by
  obtain ⟨w, e, im, n, b, t, h, hh⟩ := id hR
  obtain ⟨o1, o2, o3, o4, o5⟩ := o
  obtain ⟨x, I', L', J, L'', c1, c2, R⟩ := g_fault (X := X) hR (sp_v X 300 (Int32.toNatClampNeg (nI m + (1 : Int32))))
  obtain ⟨r, hr⟩ := hn J L'' R
  refine ⟨r, v_L_law_399.e X 15 (nI m) I L _ ?_⟩
  rw [if_neg o1, c1, a_bi_i]
  dsimp +instances only
  rw [if_neg o1, c2, a_bi_i, if_pos rfl]
  exact v_L_law_2049.e X 15 (nI m) J L'' _ hr
theorem w_422 (hR : Rel I L) (o : LwO X m) (hn : LwN X m) : ∃ r, v_L_law_422 X 15 (nI m) (I, L, ()) = some (some (aI (1 : Int32)), r) := by
  obtain ⟨w, e, im, n, b, t, h, hh⟩ := id hR
  obtain ⟨o1, o2, o3, o4, o5⟩ := o
  obtain ⟨x, I', L', J, L'', c1, c2, R⟩ := good_both h hh (q_coach (X := X) (L := L) h.tc h.vw (sp_v X 300 (Int32.toNatClampNeg (nI m + (1 : Int32)))) (sp_v X 300 (Int32.toNatClampNeg (nI m + (2 : Int32)))))
  obtain ⟨r, hr⟩ := hn J L'' R
  refine ⟨r, v_L_law_422.e X 15 (nI m) I L _ ?_⟩
  rw [if_neg o1, if_neg o2, c1, a_bi_i]
  dsimp +instances only
  rw [if_neg o1, if_neg o2, c2, a_bi_i, if_pos rfl]
  exact v_L_law_2049.e X 15 (nI m) J L'' _ hr
theorem w_455 (hR : Rel I L) (o : LwO X m) (hn : LwN X m) : ∃ r, v_L_law_455 X 15 (nI m) (I, L, ()) = some (some (aI (1 : Int32)), r) := by
  obtain ⟨w, e, im, n, b, t, h, hh⟩ := id hR
  obtain ⟨o1, o2, o3, o4, o5⟩ := o
  obtain ⟨x, I', L', J, L'', c1, c2, R⟩ := good_both h hh (q_inspector (X := X) (L := L) h.tc h.vw (sp_v X 300 (Int32.toNatClampNeg (nI m + (1 : Int32)))) (sp_v X 300 (Int32.toNatClampNeg (nI m + (2 : Int32)))))
  obtain ⟨r, hr⟩ := hn J L'' R
  refine ⟨r, v_L_law_455.e X 15 (nI m) I L _ ?_⟩
  rw [if_neg o1, if_neg o2, c1, a_bi_i]
  dsimp +instances only
  rw [if_neg o1, if_neg o2, c2, a_bi_i, if_pos rfl]
  exact v_L_law_2049.e X 15 (nI m) J L'' _ hr
theorem w_488 (hR : Rel I L) (o : LwO X m) (hn : LwN X m) : ∃ r, v_L_law_488 X 15 (nI m) (I, L, ()) = some (some (aI (1 : Int32)), r) := by
  obtain ⟨w, e, im, n, b, t, h, hh⟩ := id hR
  obtain ⟨o1, o2, o3, o4, o5⟩ := o
  obtain ⟨x, I', L', J, L'', c1, c2, R⟩ := good_both h hh (q_rider (X := X) (L := L) h.tc h.vw (sp_v X 300 (Int32.toNatClampNeg (nI m + (1 : Int32)))) (sp_v X 300 (Int32.toNatClampNeg (nI m + (2 : Int32)))))
  obtain ⟨r, hr⟩ := hn J L'' R
  refine ⟨r, v_L_law_488.e X 15 (nI m) I L _ ?_⟩
  rw [if_neg o1, if_neg o2, c1, a_bi_i]
  dsimp +instances only
  rw [if_neg o1, if_neg o2, c2, a_bi_i, if_pos rfl]
  exact v_L_law_2049.e X 15 (nI m) J L'' _ hr
theorem w_521 (hR : Rel I L) (o : LwO X m) (hn : LwN X m) : ∃ r, v_L_law_521 X 15 (nI m) (I, L, ()) = some (some (aI (1 : Int32)), r) := by
  obtain ⟨w, e, im, n, b, t, h, hh⟩ := id hR
  obtain ⟨o1, o2, o3, o4, o5⟩ := o
  obtain ⟨x, I', L', J, L'', c1, c2, R⟩ := good_both h hh (q_day (X := X) (L := L) h.tc h.vw (sp_v X 300 (Int32.toNatClampNeg (nI m + (1 : Int32)))))
  obtain ⟨r, hr⟩ := hn J L'' R
  refine ⟨r, v_L_law_521.e X 15 (nI m) I L _ ?_⟩
  rw [if_neg o1, c1, a_bi_i]
  dsimp +instances only
  rw [if_neg o1, c2, a_bi_i, if_pos rfl]
  exact v_L_law_2049.e X 15 (nI m) J L'' _ hr
theorem w_544 (hR : Rel I L) (o : LwO X m) (hn : LwN X m) : ∃ r, v_L_law_544 X 15 (nI m) (I, L, ()) = some (some (aI (1 : Int32)), r) := by
  obtain ⟨w, e, im, n, b, t, h, hh⟩ := id hR
  obtain ⟨o1, o2, o3, o4, o5⟩ := o
  obtain ⟨x, I', L', J, L'', c1, c2, R⟩ := good_both h hh (q_stop (X := X) (L := L) h.tc h.vw (sp_v X 300 (Int32.toNatClampNeg (nI m + (1 : Int32)))))
  obtain ⟨r, hr⟩ := hn J L'' R
  refine ⟨r, v_L_law_544.e X 15 (nI m) I L _ ?_⟩
  rw [if_neg o1, c1, a_bi_i]
  dsimp +instances only
  rw [if_neg o1, c2, a_bi_i, if_pos rfl]
  exact v_L_law_2049.e X 15 (nI m) J L'' _ hr
theorem w_567 (hR : Rel I L) (o : LwO X m) (hn : LwN X m) : ∃ r, v_L_law_567 X 15 (nI m) (I, L, ()) = some (some (aI (1 : Int32)), r) := by
  obtain ⟨w, e, im, n, b, t, h, hh⟩ := id hR
  obtain ⟨o1, o2, o3, o4, o5⟩ := o
  obtain ⟨x, I', L', J, L'', c1, c2, R⟩ := good_both h hh (q_at (X := X) (L := L) h.tc h.vw (sp_v X 300 (Int32.toNatClampNeg (nI m + (1 : Int32)))) (sp_v X 300 (Int32.toNatClampNeg (nI m + (2 : Int32)))))
  obtain ⟨r, hr⟩ := hn J L'' R
  refine ⟨r, v_L_law_567.e X 15 (nI m) I L _ ?_⟩
  rw [if_neg o1, if_neg o2, c1, a_bi_i]
  dsimp +instances only
  rw [if_neg o1, if_neg o2, c2, a_bi_i, if_pos rfl]
  exact v_L_law_2049.e X 15 (nI m) J L'' _ hr
theorem w_600 (hR : Rel I L) (o : LwO X m) (hn : LwN X m) : ∃ r, v_L_law_600 X 15 (nI m) (I, L, ()) = some (some (aI (1 : Int32)), r) := by
  obtain ⟨w, e, im, n, b, t, h, hh⟩ := id hR
  obtain ⟨o1, o2, o3, o4, o5⟩ := o
  obtain ⟨x, I', L', J, L'', c1, c2, R⟩ := good_both h hh (q_stays (X := X) (L := L) h.tc h.vw (sp_v X 300 (Int32.toNatClampNeg (nI m + (1 : Int32)))) (sp_v X 300 (Int32.toNatClampNeg (nI m + (2 : Int32)))))
  obtain ⟨r, hr⟩ := hn J L'' R
  refine ⟨r, v_L_law_600.e X 15 (nI m) I L _ ?_⟩
  rw [if_neg o1, if_neg o2, c1, a_bi_i]
  dsimp +instances only
  rw [if_neg o1, if_neg o2, c2, a_bi_i, if_pos rfl]
  exact v_L_law_2049.e X 15 (nI m) J L'' _ hr
theorem w_633 (hR : Rel I L) (o : LwO X m) (hn : LwN X m) : ∃ r, v_L_law_633 X 15 (nI m) (I, L, ()) = some (some (aI (1 : Int32)), r) := by
  obtain ⟨w, e, im, n, b, t, h, hh⟩ := id hR
  obtain ⟨o1, o2, o3, o4, o5⟩ := o
  obtain ⟨x, I', L', J, L'', c1, c2, R⟩ := good_both h hh (q_comes (X := X) (L := L) h.tc h.vw (sp_v X 300 (Int32.toNatClampNeg (nI m + (1 : Int32)))) (sp_v X 300 (Int32.toNatClampNeg (nI m + (2 : Int32)))))
  obtain ⟨r, hr⟩ := hn J L'' R
  refine ⟨r, v_L_law_633.e X 15 (nI m) I L _ ?_⟩
  rw [if_neg o1, if_neg o2, c1, a_bi_i]
  dsimp +instances only
  rw [if_neg o1, if_neg o2, c2, a_bi_i, if_pos rfl]
  exact v_L_law_2049.e X 15 (nI m) J L'' _ hr
theorem w_666 (hR : Rel I L) (o : LwO X m) (hn : LwN X m) : ∃ r, v_L_law_666 X 15 (nI m) (I, L, ()) = some (some (aI (1 : Int32)), r) := by
  obtain ⟨w, e, im, n, b, t, h, hh⟩ := id hR
  obtain ⟨o1, o2, o3, o4, o5⟩ := o
  obtain ⟨x, I', L', J, L'', c1, c2, R⟩ := good_both h hh (q_watched (X := X) (L := L) h.tc h.vw (sp_v X 300 (Int32.toNatClampNeg (nI m + (1 : Int32)))))
  obtain ⟨r, hr⟩ := hn J L'' R
  refine ⟨r, v_L_law_666.e X 15 (nI m) I L _ ?_⟩
  rw [if_neg o1, c1, a_bi_i]
  dsimp +instances only
  rw [if_neg o1, c2, a_bi_i, if_pos rfl]
  exact v_L_law_2049.e X 15 (nI m) J L'' _ hr
theorem w_689 (hR : Rel I L) (o : LwO X m) (hn : LwN X m) : ∃ r, v_L_law_689 X 15 (nI m) (I, L, ()) = some (some (aI (1 : Int32)), r) := by
  obtain ⟨w, e, im, n, b, t, h, hh⟩ := id hR
  obtain ⟨o1, o2, o3, o4, o5⟩ := o
  obtain ⟨x, I', L', J, L'', c1, c2, R⟩ := good_both h hh (q_never (X := X) (L := L) h.tc h.vw)
  obtain ⟨r, hr⟩ := hn J L'' R
  refine ⟨r, v_L_law_689.e X 15 (nI m) I L _ ?_⟩
  rw [c1, a_bi_i]
  dsimp +instances only
  rw [c2, a_bi_i, if_pos rfl]
  exact v_L_law_2049.e X 15 (nI m) J L'' _ hr
theorem w_702 (hR : Rel I L) (o : LwO X m) (hn : LwN X m) : ∃ r, v_L_law_702 X 15 (nI m) (I, L, ()) = some (some (aI (1 : Int32)), r) := by
  obtain ⟨w, e, im, n, b, t, h, hh⟩ := id hR
  obtain ⟨o1, o2, o3, o4, o5⟩ := o
  obtain ⟨x, I', L', J, L'', c1, c2, R⟩ := good_both h hh (q_where (X := X) (L := L) h.tc h.vw (sp_v X 300 (Int32.toNatClampNeg (nI m + (1 : Int32)))) (sp_v X 300 (Int32.toNatClampNeg (nI m + (2 : Int32)))))
  obtain ⟨r, hr⟩ := hn J L'' R
  refine ⟨r, v_L_law_702.e X 15 (nI m) I L _ ?_⟩
  rw [if_neg o1, if_neg o2, c1, a_bi_i]
  dsimp +instances only
  rw [if_neg o1, if_neg o2, c2, a_bi_i, if_pos rfl]
  exact v_L_law_2049.e X 15 (nI m) J L'' _ hr
theorem w_735 (hR : Rel I L) (o : LwO X m) (hn : LwN X m) : ∃ r, v_L_law_735 X 15 (nI m) (I, L, ()) = some (some (aI (1 : Int32)), r) := by
  obtain ⟨w, e, im, n, b, t, h, hh⟩ := id hR
  obtain ⟨o1, o2, o3, o4, o5⟩ := o
  obtain ⟨x, I', L', J, L'', c1, c2, R⟩ := good_both h hh (q_had (X := X) (L := L) h.tc h.vw (sp_v X 300 (Int32.toNatClampNeg (nI m + (1 : Int32)))))
  obtain ⟨r, hr⟩ := hn J L'' R
  refine ⟨r, v_L_law_735.e X 15 (nI m) I L _ ?_⟩
  rw [if_neg o1, c1, a_bi_i]
  dsimp +instances only
  rw [if_neg o1, c2, a_bi_i, if_pos rfl]
  exact v_L_law_2049.e X 15 (nI m) J L'' _ hr
theorem w_758 (hR : Rel I L) (o : LwO X m) (hn : LwN X m) : ∃ r, v_L_law_758 X 15 (nI m) (I, L, ()) = some (some (aI (1 : Int32)), r) := by
  obtain ⟨w, e, im, n, b, t, h, hh⟩ := id hR
  obtain ⟨o1, o2, o3, o4, o5⟩ := o
  obtain ⟨x, I', L', J, L'', c1, c2, R⟩ := good_both h hh (q_by (X := X) (L := L) h.tc h.vw (sp_v X 300 (Int32.toNatClampNeg (nI m + (1 : Int32)))))
  obtain ⟨r, hr⟩ := hn J L'' R
  refine ⟨r, v_L_law_758.e X 15 (nI m) I L _ ?_⟩
  rw [if_neg o1, c1, a_bi_i]
  dsimp +instances only
  rw [if_neg o1, c2, a_bi_i, if_pos rfl]
  exact v_L_law_2049.e X 15 (nI m) J L'' _ hr
theorem w_781 (hR : Rel I L) (o : LwO X m) (hn : LwN X m) : ∃ r, v_L_law_781 X 15 (nI m) (I, L, ()) = some (some (aI (1 : Int32)), r) := by
  obtain ⟨w, e, im, n, b, t, h, hh⟩ := id hR
  obtain ⟨o1, o2, o3, o4, o5⟩ := o
  obtain ⟨x, I', L', J, L'', c1, c2, R⟩ := good_both h hh (q_fined (X := X) (L := L) h.tc h.vw)
  obtain ⟨r, hr⟩ := hn J L'' R
  refine ⟨r, v_L_law_781.e X 15 (nI m) I L _ ?_⟩
  rw [c1, a_bi_i]
  dsimp +instances only
  rw [c2, a_bi_i, if_pos rfl]
  exact v_L_law_2049.e X 15 (nI m) J L'' _ hr
theorem w_794 (hR : Rel I L) (o : LwO X m) (hn : LwN X m) : ∃ r, v_L_law_794 X 15 (nI m) (I, L, ()) = some (some (aI (1 : Int32)), r) := by
  obtain ⟨w, e, im, n, b, t, h, hh⟩ := id hR
  obtain ⟨o1, o2, o3, o4, o5⟩ := o
  obtain ⟨x, I', L', J, L'', c1, c2, R⟩ := good_both h hh (q_brings (X := X) (L := L) h.tc h.vw)
  obtain ⟨r, hr⟩ := hn J L'' R
  refine ⟨r, v_L_law_794.e X 15 (nI m) I L _ ?_⟩
  rw [c1, a_bi_i]
  dsimp +instances only
  rw [c2, a_bi_i, if_pos rfl]
  exact v_L_law_2049.e X 15 (nI m) J L'' _ hr
theorem w_807 (hR : Rel I L) (o : LwO X m) (hn : LwN X m) : ∃ r, v_L_law_807 X 15 (nI m) (I, L, ()) = some (some (aI (1 : Int32)), r) := by
  obtain ⟨w, e, im, n, b, t, h, hh⟩ := id hR
  obtain ⟨o1, o2, o3, o4, o5⟩ := o
  obtain ⟨x, I', L', J, L'', c1, c2, R⟩ := good_both h hh (q_walks (X := X) (L := L) h.tc h.vw (sp_v X 300 (Int32.toNatClampNeg (nI m + (1 : Int32)))))
  obtain ⟨r, hr⟩ := hn J L'' R
  refine ⟨r, v_L_law_807.e X 15 (nI m) I L _ ?_⟩
  rw [if_neg o1, c1, a_bi_i]
  dsimp +instances only
  rw [if_neg o1, c2, a_bi_i, if_pos rfl]
  exact v_L_law_2049.e X 15 (nI m) J L'' _ hr
theorem w_830 (hR : Rel I L) (o : LwO X m) (hn : LwN X m) : ∃ r, v_L_law_830 X 15 (nI m) (I, L, ()) = some (some (aI (1 : Int32)), r) := by
  obtain ⟨w, e, im, n, b, t, h, hh⟩ := id hR
  obtain ⟨o1, o2, o3, o4, o5⟩ := o
  obtain ⟨x, I', L', J, L'', c1, c2, R⟩ := good_both h hh (q_can (X := X) (L := L) h.tc h.vw (sp_v X 300 (Int32.toNatClampNeg (nI m + (1 : Int32)))) (sp_v X 300 (Int32.toNatClampNeg (nI m + (2 : Int32)))) (sp_v X 300 (Int32.toNatClampNeg (nI m + (3 : Int32)))))
  obtain ⟨r, hr⟩ := hn J L'' R
  refine ⟨r, v_L_law_830.e X 15 (nI m) I L _ ?_⟩
  rw [if_neg o1, if_neg o2, if_neg o3, c1, a_bi_i]
  dsimp +instances only
  rw [if_neg o1, if_neg o2, if_neg o3, c2, a_bi_i, if_pos rfl]
  exact v_L_law_2049.e X 15 (nI m) J L'' _ hr
theorem w_873 (hR : Rel I L) (o : LwO X m) (hn : LwN X m) : ∃ r, v_L_law_873 X 15 (nI m) (I, L, ()) = some (some (aI (1 : Int32)), r) := by
  obtain ⟨w, e, im, n, b, t, h, hh⟩ := id hR
  obtain ⟨o1, o2, o3, o4, o5⟩ := o
  obtain ⟨x, I', L', J, L'', c1, c2, R⟩ := good_both h hh (q_safe (X := X) (L := L) h.tc h.vw)
  obtain ⟨r, hr⟩ := hn J L'' R
  refine ⟨r, v_L_law_873.e X 15 (nI m) I L _ ?_⟩
  rw [c1, a_bi_i]
  dsimp +instances only
  rw [c2, a_bi_i, if_pos rfl]
  exact v_L_law_2049.e X 15 (nI m) J L'' _ hr
theorem w_886 (hR : Rel I L) (o : LwO X m) (hn : LwN X m) : ∃ r, v_L_law_886 X 15 (nI m) (I, L, ()) = some (some (aI (1 : Int32)), r) := by
  obtain ⟨w, e, im, n, b, t, h, hh⟩ := id hR
  obtain ⟨o1, o2, o3, o4, o5⟩ := o
  obtain ⟨x, I', L', J, L'', c1, c2, R⟩ := good_both h hh (q_path (X := X) (L := L) h.tc h.vw (sp_v X 300 (Int32.toNatClampNeg (nI m + (1 : Int32)))) (sp_v X 300 (Int32.toNatClampNeg (nI m + (2 : Int32)))))
  obtain ⟨r, hr⟩ := hn J L'' R
  refine ⟨r, v_L_law_886.e X 15 (nI m) I L _ ?_⟩
  rw [if_neg o1, if_neg o2, c1, a_bi_i]
  dsimp +instances only
  rw [if_neg o1, if_neg o2, c2, a_bi_i, if_pos rfl]
  exact v_L_law_2049.e X 15 (nI m) J L'' _ hr
theorem w_919 (hR : Rel I L) (o : LwO X m) (hn : LwN X m) : ∃ r, v_L_law_919 X 15 (nI m) (I, L, ()) = some (some (aI (1 : Int32)), r) := by
  obtain ⟨w, e, im, n, b, t, h, hh⟩ := id hR
  obtain ⟨o1, o2, o3, o4, o5⟩ := o
  obtain ⟨x, I', L', J, L'', c1, c2, R⟩ := good_both h hh (q_effort (X := X) (L := L) h.tc h.vw (sp_v X 300 (Int32.toNatClampNeg (nI m + (1 : Int32)))))
  obtain ⟨r, hr⟩ := hn J L'' R
  refine ⟨r, v_L_law_919.e X 15 (nI m) I L _ ?_⟩
  rw [if_neg o1, c1, a_bi_i]
  dsimp +instances only
  rw [if_neg o1, c2, a_bi_i, if_pos rfl]
  exact v_L_law_2049.e X 15 (nI m) J L'' _ hr
theorem w_942 (hR : Rel I L) (o : LwO X m) (hn : LwN X m) : ∃ r, v_L_law_942 X 15 (nI m) (I, L, ()) = some (some (aI (1 : Int32)), r) := by
  obtain ⟨w, e, im, n, b, t, h, hh⟩ := id hR
  obtain ⟨o1, o2, o3, o4, o5⟩ := o
  obtain ⟨x, I', L', J, L'', c1, c2, R⟩ := good_both h hh (q_lasts (X := X) (L := L) h.tc h.vw (sp_v X 300 (Int32.toNatClampNeg (nI m + (1 : Int32)))))
  obtain ⟨r, hr⟩ := hn J L'' R
  refine ⟨r, v_L_law_942.e X 15 (nI m) I L _ ?_⟩
  rw [if_neg o1, c1, a_bi_i]
  dsimp +instances only
  rw [if_neg o1, c2, a_bi_i, if_pos rfl]
  exact v_L_law_2049.e X 15 (nI m) J L'' _ hr
theorem w_965 (hR : Rel I L) (o : LwO X m) (hn : LwN X m) : ∃ r, v_L_law_965 X 15 (nI m) (I, L, ()) = some (some (aI (1 : Int32)), r) := by
  obtain ⟨w, e, im, n, b, t, h, hh⟩ := id hR
  obtain ⟨o1, o2, o3, o4, o5⟩ := o
  obtain ⟨x, I', L', J, L'', c1, c2, R⟩ := good_both h hh (q_room (X := X) (L := L) h.tc h.vw (sp_v X 300 (Int32.toNatClampNeg (nI m + (1 : Int32)))))
  obtain ⟨r, hr⟩ := hn J L'' R
  refine ⟨r, v_L_law_965.e X 15 (nI m) I L _ ?_⟩
  rw [if_neg o1, c1, a_bi_i]
  dsimp +instances only
  rw [if_neg o1, c2, a_bi_i, if_pos rfl]
  exact v_L_law_2049.e X 15 (nI m) J L'' _ hr
theorem w_988 (hR : Rel I L) (o : LwO X m) (hn : LwN X m) : ∃ r, v_L_law_988 X 15 (nI m) (I, L, ()) = some (some (aI (1 : Int32)), r) := by
  obtain ⟨w, e, im, n, b, t, h, hh⟩ := id hR
  obtain ⟨o1, o2, o3, o4, o5⟩ := o
  obtain ⟨x, I', L', J, L'', c1, c2, R⟩ := good_bothH h (q_fewest (X := X) (L := L) h.tc h.vw hh)
  obtain ⟨r, hr⟩ := hn J L'' R
  refine ⟨r, v_L_law_988.e X 15 (nI m) I L _ ?_⟩
  rw [c1, a_bi_i]
  dsimp +instances only
  rw [c2, a_bi_i, if_pos rfl]
  exact v_L_law_2049.e X 15 (nI m) J L'' _ hr
theorem w_1001 (hR : Rel I L) (o : LwO X m) (hn : LwN X m) : ∃ r, v_L_law_1001 X 15 (nI m) (I, L, ()) = some (some (aI (1 : Int32)), r) := by
  obtain ⟨w, e, im, n, b, t, h, hh⟩ := id hR
  obtain ⟨o1, o2, o3, o4, o5⟩ := o
  obtain ⟨x, I', L', J, L'', c1, c2, R⟩ := good_bothH h (q_begins (X := X) (L := L) h.tc h.vw hh (sp_v X 300 (Int32.toNatClampNeg (nI m + (1 : Int32)))))
  obtain ⟨r, hr⟩ := hn J L'' R
  refine ⟨r, v_L_law_1001.e X 15 (nI m) I L _ ?_⟩
  rw [if_neg o1, c1, a_bi_i]
  dsimp +instances only
  rw [if_neg o1, c2, a_bi_i, if_pos rfl]
  exact v_L_law_2049.e X 15 (nI m) J L'' _ hr
theorem w_1024 (hR : Rel I L) (o : LwO X m) (hn : LwN X m) : ∃ r, v_L_law_1024 X 15 (nI m) (I, L, ()) = some (some (aI (1 : Int32)), r) := by
  obtain ⟨w, e, im, n, b, t, h, hh⟩ := id hR
  obtain ⟨o1, o2, o3, o4, o5⟩ := o
  obtain ⟨x, I', L', J, L'', c1, c2, R⟩ := good_both h hh (q_leaves (X := X) (L := L) h.tc h.vw (sp_v X 300 (Int32.toNatClampNeg (nI m + (1 : Int32)))))
  obtain ⟨r, hr⟩ := hn J L'' R
  refine ⟨r, v_L_law_1024.e X 15 (nI m) I L _ ?_⟩
  rw [if_neg o1, c1, a_bi_i]
  dsimp +instances only
  rw [if_neg o1, c2, a_bi_i, if_pos rfl]
  exact v_L_law_2049.e X 15 (nI m) J L'' _ hr
theorem w_1047 (hR : Rel I L) (o : LwO X m) (hn : LwN X m) : ∃ r, v_L_law_1047 X 15 (nI m) (I, L, ()) = some (some (aI (1 : Int32)), r) := by
  obtain ⟨w, e, im, n, b, t, h, hh⟩ := id hR
  obtain ⟨o1, o2, o3, o4, o5⟩ := o
  obtain ⟨x, I', L', J, L'', c1, c2, R⟩ := good_both h hh (q_begin (X := X) (L := L) h.tc h.vw)
  obtain ⟨r, hr⟩ := hn J L'' R
  refine ⟨r, v_L_law_1047.e X 15 (nI m) I L _ ?_⟩
  rw [c1, a_bi_i]
  dsimp +instances only
  rw [c2, a_bi_i, if_pos rfl]
  exact v_L_law_2049.e X 15 (nI m) J L'' _ hr
theorem w_1060 (hR : Rel I L) (o : LwO X m) (hn : LwN X m) : ∃ r, v_L_law_1060 X 15 (nI m) (I, L, ()) = some (some (aI (1 : Int32)), r) := by
  obtain ⟨w, e, im, n, b, t, h, hh⟩ := id hR
  obtain ⟨o1, o2, o3, o4, o5⟩ := o
  obtain ⟨x, I', L', J, L'', c1, c2, R⟩ := good_both h hh (q_table (X := X) (L := L) h.tc h.vw (sp_v X 300 (Int32.toNatClampNeg (nI m + (1 : Int32)))) (sp_v X 300 (Int32.toNatClampNeg (nI m + (2 : Int32)))) (sp_v X 300 (Int32.toNatClampNeg (nI m + (3 : Int32)))))
  obtain ⟨r, hr⟩ := hn J L'' R
  refine ⟨r, v_L_law_1060.e X 15 (nI m) I L _ ?_⟩
  rw [if_neg o1, if_neg o2, if_neg o3, c1, a_bi_i]
  dsimp +instances only
  rw [if_neg o1, if_neg o2, if_neg o3, c2, a_bi_i, if_pos rfl]
  exact v_L_law_2049.e X 15 (nI m) J L'' _ hr
theorem w_1103 (hR : Rel I L) (o : LwO X m) (hn : LwN X m) : ∃ r, v_L_law_1103 X 15 (nI m) (I, L, ()) = some (some (aI (1 : Int32)), r) := by
  obtain ⟨w, e, im, n, b, t, h, hh⟩ := id hR
  obtain ⟨o1, o2, o3, o4, o5⟩ := o
  obtain ⟨x, I', L', J, L'', c1, c2, R⟩ := good_both h hh (q_reply (X := X) (L := L) h.tc h.vw (sp_v X 300 (Int32.toNatClampNeg (nI m + (1 : Int32)))) (sp_v X 300 (Int32.toNatClampNeg (nI m + (2 : Int32)))))
  obtain ⟨r, hr⟩ := hn J L'' R
  refine ⟨r, v_L_law_1103.e X 15 (nI m) I L _ ?_⟩
  rw [if_neg o1, if_neg o2, c1, a_bi_i]
  dsimp +instances only
  rw [if_neg o1, if_neg o2, c2, a_bi_i, if_pos rfl]
  exact v_L_law_2049.e X 15 (nI m) J L'' _ hr
theorem w_1136 (hR : Rel I L) (o : LwO X m) (hn : LwN X m) : ∃ r, v_L_law_1136 X 15 (nI m) (I, L, ()) = some (some (aI (1 : Int32)), r) := by
  obtain ⟨w, e, im, n, b, t, h, hh⟩ := id hR
  obtain ⟨o1, o2, o3, o4, o5⟩ := o
  obtain ⟨x, I', L', J, L'', c1, c2, R⟩ := good_both h hh (q_answer (X := X) (L := L) h.tc h.vw (sp_v X 300 (Int32.toNatClampNeg (nI m + (1 : Int32)))) (sp_v X 300 (Int32.toNatClampNeg (nI m + (2 : Int32)))))
  obtain ⟨r, hr⟩ := hn J L'' R
  refine ⟨r, v_L_law_1136.e X 15 (nI m) I L _ ?_⟩
  rw [if_neg o1, if_neg o2, c1, a_bi_i]
  dsimp +instances only
  rw [if_neg o1, if_neg o2, c2, a_bi_i, if_pos rfl]
  exact v_L_law_2049.e X 15 (nI m) J L'' _ hr
theorem w_1169 (hR : Rel I L) (o : LwO X m) (hn : LwN X m) : ∃ r, v_L_law_1169 X 15 (nI m) (I, L, ()) = some (some (aI (1 : Int32)), r) := by
  obtain ⟨w, e, im, n, b, t, h, hh⟩ := id hR
  obtain ⟨o1, o2, o3, o4, o5⟩ := o
  obtain ⟨x, I', L', J, L'', c1, c2, R⟩ := good_both h hh (q_rests (X := X) (L := L) h.tc h.vw (sp_v X 300 (Int32.toNatClampNeg (nI m + (1 : Int32)))))
  obtain ⟨r, hr⟩ := hn J L'' R
  refine ⟨r, v_L_law_1169.e X 15 (nI m) I L _ ?_⟩
  rw [if_neg o1, c1, a_bi_i]
  dsimp +instances only
  rw [if_neg o1, c2, a_bi_i, if_pos rfl]
  exact v_L_law_2049.e X 15 (nI m) J L'' _ hr
theorem w_1192 (hR : Rel I L) (o : LwO X m) (hn : LwN X m) : ∃ r, v_L_law_1192 X 15 (nI m) (I, L, ()) = some (some (aI (1 : Int32)), r) := by
  obtain ⟨w, e, im, n, b, t, h, hh⟩ := id hR
  obtain ⟨o1, o2, o3, o4, o5⟩ := o
  obtain ⟨x, I', L', J, L'', c1, c2, R⟩ := good_both h hh (q_rest (X := X) (L := L) h.tc h.vw (sp_v X 300 (Int32.toNatClampNeg (nI m + (1 : Int32)))))
  obtain ⟨r, hr⟩ := hn J L'' R
  refine ⟨r, v_L_law_1192.e X 15 (nI m) I L _ ?_⟩
  rw [if_neg o1, c1, a_bi_i]
  dsimp +instances only
  rw [if_neg o1, c2, a_bi_i, if_pos rfl]
  exact v_L_law_2049.e X 15 (nI m) J L'' _ hr
theorem w_1215 (hR : Rel I L) (o : LwO X m) (hn : LwN X m) : ∃ r, v_L_law_1215 X 15 (nI m) (I, L, ()) = some (some (aI (1 : Int32)), r) := by
  obtain ⟨w, e, im, n, b, t, h, hh⟩ := id hR
  obtain ⟨o1, o2, o3, o4, o5⟩ := o
  obtain ⟨x, I', L', J, L'', c1, c2, R⟩ := good_both h hh (q_sure (X := X) (L := L) h.tc h.vw (sp_v X 300 (Int32.toNatClampNeg (nI m + (1 : Int32)))))
  obtain ⟨r, hr⟩ := hn J L'' R
  refine ⟨r, v_L_law_1215.e X 15 (nI m) I L _ ?_⟩
  rw [if_neg o1, c1, a_bi_i]
  dsimp +instances only
  rw [if_neg o1, c2, a_bi_i, if_pos rfl]
  exact v_L_law_2049.e X 15 (nI m) J L'' _ hr
theorem w_1238 (hR : Rel I L) (o : LwO X m) (hn : LwN X m) : ∃ r, v_L_law_1238 X 15 (nI m) (I, L, ()) = some (some (aI (1 : Int32)), r) := by
  obtain ⟨w, e, im, n, b, t, h, hh⟩ := id hR
  obtain ⟨o1, o2, o3, o4, o5⟩ := o
  obtain ⟨x, I', L', J, L'', c1, c2, R⟩ := good_both h hh (q_ask (X := X) (L := L) h.tc h.vw (sp_v X 300 (Int32.toNatClampNeg (nI m + (1 : Int32)))))
  obtain ⟨r, hr⟩ := hn J L'' R
  refine ⟨r, v_L_law_1238.e X 15 (nI m) I L _ ?_⟩
  rw [if_neg o1, c1, a_bi_i]
  dsimp +instances only
  rw [if_neg o1, c2, a_bi_i, if_pos rfl]
  exact v_L_law_2049.e X 15 (nI m) J L'' _ hr
theorem w_1261 (hR : Rel I L) (o : LwO X m) (hn : LwN X m) : ∃ r, v_L_law_1261 X 15 (nI m) (I, L, ()) = some (some (aI (1 : Int32)), r) := by
  obtain ⟨w, e, im, n, b, t, h, hh⟩ := id hR
  obtain ⟨o1, o2, o3, o4, o5⟩ := o
  obtain ⟨x, I', L', J, L'', c1, c2, R⟩ := good_both h hh (q_found (X := X) (L := L) h.tc h.vw (sp_v X 300 (Int32.toNatClampNeg (nI m + (1 : Int32)))))
  obtain ⟨r, hr⟩ := hn J L'' R
  refine ⟨r, v_L_law_1261.e X 15 (nI m) I L _ ?_⟩
  rw [if_neg o1, c1, a_bi_i]
  dsimp +instances only
  rw [if_neg o1, c2, a_bi_i, if_pos rfl]
  exact v_L_law_2049.e X 15 (nI m) J L'' _ hr
theorem w_1284 (hR : Rel I L) (o : LwO X m) (hn : LwN X m) : ∃ r, v_L_law_1284 X 15 (nI m) (I, L, ()) = some (some (aI (1 : Int32)), r) := by
  obtain ⟨w, e, im, n, b, t, h, hh⟩ := id hR
  obtain ⟨o1, o2, o3, o4, o5⟩ := o
  obtain ⟨x, I', L', J, L'', c1, c2, R⟩ := good_both h hh (q_asks (X := X) (L := L) h.tc h.vw)
  obtain ⟨r, hr⟩ := hn J L'' R
  refine ⟨r, v_L_law_1284.e X 15 (nI m) I L _ ?_⟩
  rw [c1, a_bi_i]
  dsimp +instances only
  rw [c2, a_bi_i, if_pos rfl]
  exact v_L_law_2049.e X 15 (nI m) J L'' _ hr
theorem w_1297 (hR : Rel I L) (o : LwO X m) (hn : LwN X m) : ∃ r, v_L_law_1297 X 15 (nI m) (I, L, ()) = some (some (aI (1 : Int32)), r) := by
  obtain ⟨w, e, im, n, b, t, h, hh⟩ := id hR
  obtain ⟨o1, o2, o3, o4, o5⟩ := o
  obtain ⟨x, I', L', J, L'', c1, c2, R⟩ := good_both h hh (q_dodges (X := X) (L := L) h.tc h.vw (sp_v X 300 (Int32.toNatClampNeg (nI m + (1 : Int32)))) (sp_v X 300 (Int32.toNatClampNeg (nI m + (2 : Int32)))))
  obtain ⟨r, hr⟩ := hn J L'' R
  refine ⟨r, v_L_law_1297.e X 15 (nI m) I L _ ?_⟩
  rw [if_neg o1, if_neg o2, c1, a_bi_i]
  dsimp +instances only
  rw [if_neg o1, if_neg o2, c2, a_bi_i, if_pos rfl]
  exact v_L_law_2049.e X 15 (nI m) J L'' _ hr
theorem w_1330 (hR : Rel I L) (o : LwO X m) (hn : LwN X m) : ∃ r, v_L_law_1330 X 15 (nI m) (I, L, ()) = some (some (aI (1 : Int32)), r) := by
  obtain ⟨w, e, im, n, b, t, h, hh⟩ := id hR
  obtain ⟨o1, o2, o3, o4, o5⟩ := o
  obtain ⟨x, I', L', J, L'', c1, c2, R⟩ := good_both h hh (q_week (X := X) (L := L) h.tc h.vw (sp_v X 300 (Int32.toNatClampNeg (nI m + (1 : Int32)))))
  obtain ⟨r, hr⟩ := hn J L'' R
  refine ⟨r, v_L_law_1330.e X 15 (nI m) I L _ ?_⟩
  rw [if_neg o1, c1, a_bi_i]
  dsimp +instances only
  rw [if_neg o1, c2, a_bi_i, if_pos rfl]
  exact v_L_law_2049.e X 15 (nI m) J L'' _ hr
theorem w_1353 (hR : Rel I L) (o : LwO X m) (hn : LwN X m) : ∃ r, v_L_law_1353 X 15 (nI m) (I, L, ()) = some (some (aI (1 : Int32)), r) := by
  obtain ⟨w, e, im, n, b, t, h, hh⟩ := id hR
  obtain ⟨o1, o2, o3, o4, o5⟩ := o
  obtain ⟨x, I', L', J, L'', c1, c2, R⟩ := good_both h hh (q_fine (X := X) (L := L) h.tc h.vw (sp_v X 300 (Int32.toNatClampNeg (nI m + (1 : Int32)))) (sp_v X 300 (Int32.toNatClampNeg (nI m + (2 : Int32)))))
  obtain ⟨r, hr⟩ := hn J L'' R
  refine ⟨r, v_L_law_1353.e X 15 (nI m) I L _ ?_⟩
  rw [if_neg o1, if_neg o2, c1, a_bi_i]
  dsimp +instances only
  rw [if_neg o1, if_neg o2, c2, a_bi_i, if_pos rfl]
  exact v_L_law_2049.e X 15 (nI m) J L'' _ hr
theorem w_1386 (hR : Rel I L) (o : LwO X m) (hn : LwN X m) : ∃ r, v_L_law_1386 X 15 (nI m) (I, L, ()) = some (some (aI (1 : Int32)), r) := by
  obtain ⟨w, e, im, n, b, t, h, hh⟩ := id hR
  obtain ⟨o1, o2, o3, o4, o5⟩ := o
  obtain ⟨x, I', L', J, L'', c1, c2, R⟩ := good_both h hh (q_often (X := X) (L := L) h.tc h.vw (sp_v X 300 (Int32.toNatClampNeg (nI m + (1 : Int32)))))
  obtain ⟨r, hr⟩ := hn J L'' R
  refine ⟨r, v_L_law_1386.e X 15 (nI m) I L _ ?_⟩
  rw [if_neg o1, c1, a_bi_i]
  dsimp +instances only
  rw [if_neg o1, c2, a_bi_i, if_pos rfl]
  exact v_L_law_2049.e X 15 (nI m) J L'' _ hr
theorem w_1409 (hR : Rel I L) (o : LwO X m) (hn : LwN X m) : ∃ r, v_L_law_1409 X 15 (nI m) (I, L, ()) = some (some (aI (1 : Int32)), r) := by
  obtain ⟨w, e, im, n, b, t, h, hh⟩ := id hR
  obtain ⟨o1, o2, o3, o4, o5⟩ := o
  obtain ⟨x, I', L', J, L'', c1, c2, R⟩ := good_both h hh (q_mean (X := X) (L := L) h.tc h.vw (sp_v X 300 (Int32.toNatClampNeg (nI m + (1 : Int32)))) (sp_v X 300 (Int32.toNatClampNeg (nI m + (2 : Int32)))))
  obtain ⟨r, hr⟩ := hn J L'' R
  refine ⟨r, v_L_law_1409.e X 15 (nI m) I L _ ?_⟩
  rw [if_neg o1, if_neg o2, c1, a_bi_i]
  dsimp +instances only
  rw [if_neg o1, if_neg o2, c2, a_bi_i, if_pos rfl]
  exact v_L_law_2049.e X 15 (nI m) J L'' _ hr
theorem w_1442 (hR : Rel I L) (o : LwO X m) (hn : LwN X m) : ∃ r, v_L_law_1442 X 15 (nI m) (I, L, ()) = some (some (aI (1 : Int32)), r) := by
  obtain ⟨w, e, im, n, b, t, h, hh⟩ := id hR
  obtain ⟨o1, o2, o3, o4, o5⟩ := o
  obtain ⟨x, I', L', J, L'', c1, c2, R⟩ := good_both h hh (q_learns (X := X) (L := L) h.tc h.vw (sp_v X 300 (Int32.toNatClampNeg (nI m + (1 : Int32)))) (sp_v X 300 (Int32.toNatClampNeg (nI m + (2 : Int32)))))
  obtain ⟨r, hr⟩ := hn J L'' R
  refine ⟨r, v_L_law_1442.e X 15 (nI m) I L _ ?_⟩
  rw [if_neg o1, if_neg o2, c1, a_bi_i]
  dsimp +instances only
  rw [if_neg o1, if_neg o2, c2, a_bi_i, if_pos rfl]
  exact v_L_law_2049.e X 15 (nI m) J L'' _ hr
theorem w_1475 (hR : Rel I L) (o : LwO X m) (hn : LwN X m) : ∃ r, v_L_law_1475 X 15 (nI m) (I, L, ()) = some (some (aI (1 : Int32)), r) := by
  obtain ⟨w, e, im, n, b, t, h, hh⟩ := id hR
  obtain ⟨o1, o2, o3, o4, o5⟩ := o
  obtain ⟨x, I', L', J, L'', c1, c2, R⟩ := good_bothS h hh (q_sighted (X := X) h.tc h.vw h.2.2.2.2.2.2.2.1 h.2.2.2.2.2.2.2.2.2 (sp_v X 300 (Int32.toNatClampNeg (nI m + (1 : Int32)))))
  obtain ⟨r, hr⟩ := hn J L'' R
  refine ⟨r, v_L_law_1475.e X 15 (nI m) I L _ ?_⟩
  rw [if_neg o1, c1, a_bi_i]
  dsimp +instances only
  rw [if_neg o1, c2, a_bi_i, if_pos rfl]
  exact v_L_law_2049.e X 15 (nI m) J L'' _ hr
theorem w_1498 (hR : Rel I L) (o : LwO X m) (hn : LwN X m) : ∃ r, v_L_law_1498 X 15 (nI m) (I, L, ()) = some (some (aI (1 : Int32)), r) := by
  obtain ⟨w, e, im, n, b, t, h, hh⟩ := id hR
  obtain ⟨o1, o2, o3, o4, o5⟩ := o
  obtain ⟨x, I', L', J, L'', c1, c2, R⟩ := good_bothS h hh (q_told (X := X) h.tc h.vw h.2.2.2.2.2.2.2.1 h.2.2.2.2.2.2.2.2.2 (sp_v X 300 (Int32.toNatClampNeg (nI m + (1 : Int32)))))
  obtain ⟨r, hr⟩ := hn J L'' R
  refine ⟨r, v_L_law_1498.e X 15 (nI m) I L _ ?_⟩
  rw [if_neg o1, c1, a_bi_i]
  dsimp +instances only
  rw [if_neg o1, c2, a_bi_i, if_pos rfl]
  exact v_L_law_2049.e X 15 (nI m) J L'' _ hr
theorem w_1521 (hR : Rel I L) (o : LwO X m) (hn : LwN X m) : ∃ r, v_L_law_1521 X 15 (nI m) (I, L, ()) = some (some (aI (1 : Int32)), r) := by
  obtain ⟨w, e, im, n, b, t, h, hh⟩ := id hR
  obtain ⟨o1, o2, o3, o4, o5⟩ := o
  obtain ⟨x, I', L', J, L'', c1, c2, R⟩ := good_bothS h hh (q_may (X := X) h.tc h.vw h.2.2.2.2.2.2.2.1 h.2.2.2.2.2.2.2.2.2 (sp_v X 300 (Int32.toNatClampNeg (nI m + (1 : Int32)))) (sp_v X 300 (Int32.toNatClampNeg (nI m + (2 : Int32)))))
  obtain ⟨r, hr⟩ := hn J L'' R
  refine ⟨r, v_L_law_1521.e X 15 (nI m) I L _ ?_⟩
  rw [if_neg o1, if_neg o2, c1, a_bi_i]
  dsimp +instances only
  rw [if_neg o1, if_neg o2, c2, a_bi_i, if_pos rfl]
  exact v_L_law_2049.e X 15 (nI m) J L'' _ hr
theorem w_1554 (hR : Rel I L) (o : LwO X m) (hn : LwN X m) : ∃ r, v_L_law_1554 X 15 (nI m) (I, L, ()) = some (some (aI (1 : Int32)), r) := by
  obtain ⟨w, e, im, n, b, t, h, hh⟩ := id hR
  obtain ⟨o1, o2, o3, o4, o5⟩ := o
  obtain ⟨x, I', L', J, L'', c1, c2, R⟩ := good_bothS h hh (q_look (X := X) h.tc h.vw h.2.2.2.2.2.2.2.1 h.2.2.2.2.2.2.2.2.2 (sp_v X 300 (Int32.toNatClampNeg (nI m + (1 : Int32)))))
  obtain ⟨r, hr⟩ := hn J L'' R
  refine ⟨r, v_L_law_1554.e X 15 (nI m) I L _ ?_⟩
  rw [if_neg o1, c1, a_bi_i]
  dsimp +instances only
  rw [if_neg o1, c2, a_bi_i, if_pos rfl]
  exact v_L_law_2049.e X 15 (nI m) J L'' _ hr
theorem w_1577 (hR : Rel I L) (o : LwO X m) (hn : LwN X m) : ∃ r, v_L_law_1577 X 15 (nI m) (I, L, ()) = some (some (aI (1 : Int32)), r) := by
  obtain ⟨w, e, im, n, b, t, h, hh⟩ := id hR
  obtain ⟨o1, o2, o3, o4, o5⟩ := o
  obtain ⟨x, I', L', J, L'', c1, c2, R⟩ := good_both h hh (q_matters (X := X) (L := L) h.tc h.vw (sp_v X 300 (Int32.toNatClampNeg (nI m + (1 : Int32)))))
  obtain ⟨r, hr⟩ := hn J L'' R
  refine ⟨r, v_L_law_1577.e X 15 (nI m) I L _ ?_⟩
  rw [if_neg o1, c1, a_bi_i]
  dsimp +instances only
  rw [if_neg o1, c2, a_bi_i, if_pos rfl]
  exact v_L_law_2049.e X 15 (nI m) J L'' _ hr
theorem w_1600 (hR : Rel I L) (o : LwO X m) (hn : LwN X m) : ∃ r, v_L_law_1600 X 15 (nI m) (I, L, ()) = some (some (aI (1 : Int32)), r) := by
  obtain ⟨w, e, im, n, b, t, h, hh⟩ := id hR
  obtain ⟨o1, o2, o3, o4, o5⟩ := o
  obtain ⟨x, I', L', J, L'', c1, c2, R⟩ := good_both h hh (q_doors (X := X) (L := L) h.tc h.vw (sp_v X 300 (Int32.toNatClampNeg (nI m + (1 : Int32)))))
  obtain ⟨r, hr⟩ := hn J L'' R
  refine ⟨r, v_L_law_1600.e X 15 (nI m) I L _ ?_⟩
  rw [if_neg o1, c1, a_bi_i]
  dsimp +instances only
  rw [if_neg o1, c2, a_bi_i, if_pos rfl]
  exact v_L_law_2049.e X 15 (nI m) J L'' _ hr
theorem w_1623 (hR : Rel I L) (o : LwO X m) (hn : LwN X m) : ∃ r, v_L_law_1623 X 15 (nI m) (I, L, ()) = some (some (aI (1 : Int32)), r) := by
  obtain ⟨w, e, im, n, b, t, h, hh⟩ := id hR
  obtain ⟨o1, o2, o3, o4, o5⟩ := o
  obtain ⟨x, I', L', J, L'', c1, c2, R⟩ := good_both h hh (q_loo (X := X) (L := L) h.tc h.vw)
  obtain ⟨r, hr⟩ := hn J L'' R
  refine ⟨r, v_L_law_1623.e X 15 (nI m) I L _ ?_⟩
  rw [c1, a_bi_i]
  dsimp +instances only
  rw [c2, a_bi_i, if_pos rfl]
  exact v_L_law_2049.e X 15 (nI m) J L'' _ hr
theorem w_1636 (hR : Rel I L) (o : LwO X m) (hn : LwN X m) : ∃ r, v_L_law_1636 X 15 (nI m) (I, L, ()) = some (some (aI (1 : Int32)), r) := by
  obtain ⟨w, e, im, n, b, t, h, hh⟩ := id hR
  obtain ⟨o1, o2, o3, o4, o5⟩ := o
  obtain ⟨x, I', L', J, L'', c1, c2, R⟩ := g_set (X := X) hR (sp_v X 300 (Int32.toNatClampNeg (nI m + (1 : Int32)))) (sp_v X 300 (Int32.toNatClampNeg (nI m + (2 : Int32)))) (sp_v X 300 (Int32.toNatClampNeg (nI m + (3 : Int32))))
  obtain ⟨r, hr⟩ := hn J L'' R
  refine ⟨r, v_L_law_1636.e X 15 (nI m) I L _ ?_⟩
  rw [if_neg o1, if_neg o2, if_neg o3, c1, a_bi_i]
  dsimp +instances only
  rw [if_neg o1, if_neg o2, if_neg o3, c2, a_bi_i, if_pos rfl]
  exact v_L_law_2049.e X 15 (nI m) J L'' _ hr
theorem w_1679 (hR : Rel I L) (o : LwO X m) (hn : LwN X m) : ∃ r, v_L_law_1679 X 15 (nI m) (I, L, ()) = some (some (aI (1 : Int32)), r) := by
  obtain ⟨w, e, im, n, b, t, h, hh⟩ := id hR
  obtain ⟨o1, o2, o3, o4, o5⟩ := o
  obtain ⟨x, I', L', J, L'', c1, c2, R⟩ := g_send (X := X) hR (sp_v X 300 (Int32.toNatClampNeg (nI m + (1 : Int32)))) (sp_v X 300 (Int32.toNatClampNeg (nI m + (2 : Int32))))
  obtain ⟨r, hr⟩ := hn J L'' R
  refine ⟨r, v_L_law_1679.e X 15 (nI m) I L _ ?_⟩
  rw [if_neg o1, if_neg o2, c1, a_bi_i]
  dsimp +instances only
  rw [if_neg o1, if_neg o2, c2, a_bi_i, if_pos rfl]
  exact v_L_law_2049.e X 15 (nI m) J L'' _ hr
theorem w_1712 (hR : Rel I L) (o : LwO X m) (hn : LwN X m) : ∃ r, v_L_law_1712 X 15 (nI m) (I, L, ()) = some (some (aI (1 : Int32)), r) := by
  obtain ⟨w, e, im, n, b, t, h, hh⟩ := id hR
  obtain ⟨o1, o2, o3, o4, o5⟩ := o
  obtain ⟨x, I', L', J, L'', c1, c2, R⟩ := g_undo (X := X) hR
  obtain ⟨r, hr⟩ := hn J L'' R
  refine ⟨r, v_L_law_1712.e X 15 (nI m) I L _ ?_⟩
  rw [c1, a_bi_i]
  dsimp +instances only
  rw [c2, a_bi_i, if_pos rfl]
  exact v_L_law_2049.e X 15 (nI m) J L'' _ hr
theorem w_1725 (hR : Rel I L) (o : LwO X m) (hn : LwN X m) : ∃ r, v_L_law_1725 X 15 (nI m) (I, L, ()) = some (some (aI (1 : Int32)), r) := by
  obtain ⟨w, e, im, n, b, t, h, hh⟩ := id hR
  obtain ⟨o1, o2, o3, o4, o5⟩ := o
  obtain ⟨x, I', L', J, L'', c1, c2, R⟩ := good_both h hh (q_drawn (X := X) (L := L) h.tc h.vw (sp_v X 300 (Int32.toNatClampNeg (nI m + (1 : Int32)))) (sp_v X 300 (Int32.toNatClampNeg (nI m + (2 : Int32)))))
  obtain ⟨r, hr⟩ := hn J L'' R
  refine ⟨r, v_L_law_1725.e X 15 (nI m) I L _ ?_⟩
  rw [if_neg o1, if_neg o2, c1, a_bi_i]
  dsimp +instances only
  rw [if_neg o1, if_neg o2, c2, a_bi_i, if_pos rfl]
  exact v_L_law_2049.e X 15 (nI m) J L'' _ hr
theorem w_1758 (hR : Rel I L) (o : LwO X m) (hn : LwN X m) : ∃ r, v_L_law_1758 X 15 (nI m) (I, L, ()) = some (some (aI (1 : Int32)), r) := by
  obtain ⟨w, e, im, n, b, t, h, hh⟩ := id hR
  obtain ⟨o1, o2, o3, o4, o5⟩ := o
  obtain ⟨x, I', L', J, L'', c1, c2, R⟩ := good_both h hh (q_trips (X := X) (L := L) h.tc h.vw (sp_v X 300 (Int32.toNatClampNeg (nI m + (1 : Int32)))) (sp_v X 300 (Int32.toNatClampNeg (nI m + (2 : Int32)))) (sp_v X 300 (Int32.toNatClampNeg (nI m + (3 : Int32)))))
  obtain ⟨r, hr⟩ := hn J L'' R
  refine ⟨r, v_L_law_1758.e X 15 (nI m) I L _ ?_⟩
  rw [if_neg o1, if_neg o2, if_neg o3, c1, a_bi_i]
  dsimp +instances only
  rw [if_neg o1, if_neg o2, if_neg o3, c2, a_bi_i, if_pos rfl]
  exact v_L_law_2049.e X 15 (nI m) J L'' _ hr
theorem w_1801 (hR : Rel I L) (o : LwO X m) (hn : LwN X m) : ∃ r, v_L_law_1801 X 15 (nI m) (I, L, ()) = some (some (aI (1 : Int32)), r) := by
  obtain ⟨w, e, im, n, b, t, h, hh⟩ := id hR
  obtain ⟨o1, o2, o3, o4, o5⟩ := o
  obtain ⟨x, I', L', J, L'', c1, c2, R⟩ := g_count (X := X) hR (sp_v X 300 (Int32.toNatClampNeg (nI m + (1 : Int32))))
  obtain ⟨r, hr⟩ := hn J L'' R
  refine ⟨r, v_L_law_1801.e X 15 (nI m) I L _ ?_⟩
  rw [if_neg o1, c1, a_bi_i]
  dsimp +instances only
  rw [if_neg o1, c2, a_bi_i, if_pos rfl]
  exact v_L_law_2049.e X 15 (nI m) J L'' _ hr
theorem w_1824 (hR : Rel I L) (o : LwO X m) (hn : LwN X m) : ∃ r, v_L_law_1824 X 15 (nI m) (I, L, ()) = some (some (aI (1 : Int32)), r) := by
  obtain ⟨w, e, im, n, b, t, h, hh⟩ := id hR
  obtain ⟨o1, o2, o3, o4, o5⟩ := o
  obtain ⟨x, I', L', J, L'', c1, c2, R⟩ := g_image (X := X) hR (sp_v X 300 (Int32.toNatClampNeg (nI m + (1 : Int32))))
  obtain ⟨r, hr⟩ := hn J L'' R
  refine ⟨r, v_L_law_1824.e X 15 (nI m) I L _ ?_⟩
  rw [if_neg o1, c1, a_bi_i]
  dsimp +instances only
  rw [if_neg o1, c2, a_bi_i, if_pos rfl]
  exact v_L_law_2049.e X 15 (nI m) J L'' _ hr
theorem w_1847 (hR : Rel I L) (o : LwO X m) (hn : LwN X m) : ∃ r, v_L_law_1847 X 15 (nI m) (I, L, ()) = some (some (aI (1 : Int32)), r) := by
  obtain ⟨w, e, im, n, b, t, h, hh⟩ := id hR
  obtain ⟨o1, o2, o3, o4, o5⟩ := o
  obtain ⟨x, I', L', J, L'', c1, c2, R⟩ := g_back (X := X) hR (sp_v X 300 (Int32.toNatClampNeg (nI m + (1 : Int32))))
  obtain ⟨r, hr⟩ := hn J L'' R
  refine ⟨r, v_L_law_1847.e X 15 (nI m) I L _ ?_⟩
  rw [if_neg o1, c1, a_bi_i]
  dsimp +instances only
  rw [if_neg o1, c2, a_bi_i, if_pos rfl]
  exact v_L_law_2049.e X 15 (nI m) J L'' _ hr
theorem w_1870 (hR : Rel I L) (o : LwO X m) (hn : LwN X m) : ∃ r, v_L_law_1870 X 15 (nI m) (I, L, ()) = some (some (aI (1 : Int32)), r) := by
  obtain ⟨w, e, im, n, b, t, h, hh⟩ := id hR
  obtain ⟨o1, o2, o3, o4, o5⟩ := o
  obtain ⟨x, I', L', J, L'', c1, c2, R⟩ := g_row (X := X) hR (sp_v X 300 (Int32.toNatClampNeg (nI m + (1 : Int32)))) (sp_v X 300 (Int32.toNatClampNeg (nI m + (2 : Int32)))) (sp_v X 300 (Int32.toNatClampNeg (nI m + (3 : Int32))))
  obtain ⟨r, hr⟩ := hn J L'' R
  refine ⟨r, v_L_law_1870.e X 15 (nI m) I L _ ?_⟩
  rw [if_neg o1, if_neg o2, if_neg o3, c1, a_bi_i]
  dsimp +instances only
  rw [if_neg o1, if_neg o2, if_neg o3, c2, a_bi_i, if_pos rfl]
  exact v_L_law_2049.e X 15 (nI m) J L'' _ hr
theorem w_1913 (hR : Rel I L) (o : LwO X m) (hn : LwN X m) : ∃ r, v_L_law_1913 X 15 (nI m) (I, L, ()) = some (some (aI (1 : Int32)), r) := by
  obtain ⟨w, e, im, n, b, t, h, hh⟩ := id hR
  obtain ⟨o1, o2, o3, o4, o5⟩ := o
  obtain ⟨x, I', L', J, L'', c1, c2, R⟩ := g_write (X := X) hR (sp_v X 300 (Int32.toNatClampNeg (nI m + (1 : Int32)))) (sp_v X 300 (Int32.toNatClampNeg (nI m + (2 : Int32)))) ((((sp_v X 300 (Int32.toNatClampNeg (nI m + (3 : Int32)))).toInt64) <<< ((32 : Int32).toInt64 &&& 63)) ||| (((sp_v X 300 (Int32.toNatClampNeg (nI m + (4 : Int32)))).toInt64) &&& (4294967295 : Int64)))
  obtain ⟨r, hr⟩ := hn J L'' R
  refine ⟨r, v_L_law_1913.e X 15 (nI m) I L _ ?_⟩
  rw [if_neg o1, if_neg o2, if_neg o3, if_neg o4, c1, a_bi_i]
  dsimp +instances only
  rw [if_neg o1, if_neg o2, if_neg o3, if_neg o4, c2, a_bi_i, if_pos rfl]
  exact v_L_law_2049.e X 15 (nI m) J L'' _ hr
theorem w_1986 (hR : Rel I L) (o : LwO X m) (hn : LwN X m) : ∃ r, v_L_law_1986 X 15 (nI m) (I, L, ()) = some (some (aI (1 : Int32)), r) := by
  obtain ⟨w, e, im, n, b, t, h, hh⟩ := id hR
  obtain ⟨o1, o2, o3, o4, o5⟩ := o
  obtain ⟨x, I', L', J, L'', c1, c2, R⟩ := g_paste (X := X) hR (sp_v X 300 (Int32.toNatClampNeg (nI m + (1 : Int32)))) (sp_v X 300 (Int32.toNatClampNeg (nI m + (2 : Int32)))) (sp_v X 300 (Int32.toNatClampNeg (nI m + (3 : Int32)))) (sp_v X 300 (Int32.toNatClampNeg (nI m + (4 : Int32)))) (sp_v X 300 (Int32.toNatClampNeg (nI m + (5 : Int32))))
  obtain ⟨r, hr⟩ := hn J L'' R
  refine ⟨r, v_L_law_1986.e X 15 (nI m) I L _ ?_⟩
  rw [if_neg o1, if_neg o2, if_neg o3, if_neg o4, if_neg o5, c1, a_bi_i]
  dsimp +instances only
  rw [if_neg o1, if_neg o2, if_neg o3, if_neg o4, if_neg o5, c2, a_bi_i, if_pos rfl]
  exact v_L_law_2049.e X 15 (nI m) J L'' _ hr
end
