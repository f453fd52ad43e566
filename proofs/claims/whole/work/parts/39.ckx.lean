theorem bf {P : Prop} (h : false = true) : P := by cases h
theorem nat_bt {a b : Nat} (h : Nat.beq a b = true) : a = b := Nat.eq_of_beq_eq_true h
set_option maxHeartbeats 2000000 in
theorem ckX_ok {o : Nat} {M : MT} {i : Instr} {aux : List Nat} {pc : Nat} (hc : M.1.cls = clsN o) (hd : decode M.2.1 pc = .ok (i, ilen i)) (hp : okP M pc i aux) (hn : isPlain i = false) (ht : ∀ a b c d, i ≠ .tableswitch a b c d) (h : ckX o M i aux = true) : okI PGm M pc i aux := by
  cases i <;> first | (cases hn; done) | exact ⟨hd, hp, trivial⟩ | exact absurd rfl (ht _ _ _ _) | skip
  case ldc x =>
    refine ⟨hd, hp, ?_, ?_⟩
    · intro v u e
      subst e
      cases u with
      | cons a b => exact bf h
      | nil => rw [hc]; exact kik_ok o _ (List.mem_map_of_mem (f := kiW o) (hasN2_mem h))
    · intro v u e
      subst e
      cases u with
      | cons a b => exact bf h
      | nil => rw [hc]; exact ckSr_ok h
  case ldc_w x =>
    refine ⟨hd, hp, ?_⟩
    intro v u e
    subst e
    cases u with
    | cons a b => exact bf h
    | nil => rw [hc]; exact kik_ok o _ (List.mem_map_of_mem (f := kiW o) (hasN2_mem h))
  case ldc2_w x =>
    refine ⟨hd, hp, ?_⟩
    intro v u e
    subst e
    cases u with
    | cons a b => exact bf h
    | nil => rw [hc]; exact klk_ok o _ (List.mem_map_of_mem (f := klW o) (hasN2_mem h))
  case getfield x =>
    refine ⟨hd, hp, ?_, ?_, ?_⟩
    · intro ci j kd u e hk
      subst e
      cases u with
      | cons a b => exact bf h
      | nil =>
        have h : (bif Nat.beq ci 100 then (Nat.beq kd 3 && Nat.blt j 2 && hasN3 svL o x j) else (Nat.blt kd 3 && ckF ci j && hasN3 (flL o) x ci j && Nat.beq (fkd ci j) kd)) = true := h
        cases hb : Nat.beq ci 100 with
        | true =>
          rw [hb] at h
          have h : (Nat.beq kd 3 && Nat.blt j 2 && hasN3 svL o x j) = true := h
          simp only [Bool.and_eq_true] at h
          have := nat_bt h.1.1
          omega
        | false =>
          rw [hb] at h
          have h : (Nat.blt kd 3 && ckF ci j && hasN3 (flL o) x ci j && Nat.beq (fkd ci j) kd) = true := h
          simp only [Bool.and_eq_true] at h
          obtain ⟨q, h1, h2, h3⟩ := ckF_ok h.1.1.2
          have h4 := fl_in h.1.2
          rw [h3] at h4
          exact ⟨q, h1, h2, by rw [hc]; exact h4, nat_bt h.2⟩
    · intro u e
      subst e
      cases u with
      | cons a b => exact bf h
      | nil =>
        have h : (Nat.beq 3 3 && Nat.blt 0 2 && hasN3 svL o x 0) = true := h
        simp only [Bool.and_eq_true] at h
        rw [hc]
        exact sv_in h.2
    · intro u e
      subst e
      cases u with
      | cons a b => exact bf h
      | nil =>
        have h : (Nat.beq 3 3 && Nat.blt 1 2 && hasN3 svL o x 1) = true := h
        simp only [Bool.and_eq_true] at h
        rw [hc]
        exact sv_in h.2
  case putfield x =>
    refine ⟨hd, hp, ?_⟩
    intro ci j kd u e
    subst e
    cases u with
    | cons a b => exact bf h
    | nil =>
      have h : (ckF ci j && hasN3 (flL o) x ci j && ckFin M ci j && ckTy ci j kd) = true := h
      simp only [Bool.and_eq_true] at h
      obtain ⟨q, h1, h2, h3⟩ := ckF_ok h.1.1.1
      have h4 := fl_in h.1.1.2
      have h5 := ckFin_ok h.1.2
      rw [h3] at h4 h5
      exact ⟨q, h1, h2, by rw [hc]; exact h4, h5, ckTy_ok h.2⟩
  case getstatic x =>
    refine ⟨hd, hp, ?_, ?_⟩
    · intro v u e
      subst e
      cases u with
      | cons a b => exact bf h
      | nil =>
        have h : ((Nat.beq 0 0 && Nat.beq v 1 || Nat.beq 0 1 && (Nat.beq v 200 || Nat.beq v 201 || Nat.beq v 400)) && hasN4 sfL o x 0 v) = true := h
        have h' := Bool.and_eq_true_iff.mp h
        have h1 : v = 1 := by
          have := h'.1
          simp at this
          exact this
        subst h1
        refine ⟨rfl, ?_⟩
        rw [hc]
        exact sf_in h'.2
    · intro v u e
      subst e
      cases u with
      | cons a b => exact bf h
      | nil =>
        have h : ((Nat.beq 1 0 && Nat.beq v 1 || Nat.beq 1 1 && (Nat.beq v 200 || Nat.beq v 201 || Nat.beq v 400)) && hasN4 sfL o x 1 v) = true := h
        have h' := Bool.and_eq_true_iff.mp h
        have h1 : (v = 200 ∨ v = 201) ∨ v = 400 := by
          have := h'.1
          simp at this
          exact this
        rw [hc]
        rcases h1 with (rfl | rfl) | rfl
        · exact Or.inl ⟨rfl, sf_in h'.2⟩
        · exact Or.inr (Or.inl ⟨rfl, sf_in h'.2⟩)
        · exact Or.inr (Or.inr ⟨rfl, sf_in h'.2⟩)
  case new x =>
    refine ⟨hd, hp, ?_⟩
    intro ci u e
    subst e
    cases u with
    | cons a b => exact bf h
    | nil =>
      have h : (Nat.blt ci 12 && hasN2 (neL o) x ci) = true := h
      obtain ⟨h1, h2⟩ := Bool.and_eq_true_iff.mp h
      have g1 : ci < 12 := Nat.le_of_ble_eq_true h1
      obtain ⟨q, hq, hn⟩ := vw_cls _ g1
      obtain ⟨g2, g3⟩ := cls_w _ g1 q hq
      refine ⟨q, hq, ?_, g2, g3⟩
      rw [hc, hn]
      exact nek_ok o _ (List.mem_map_of_mem (f := neW o) (hasN2_mem h2))
  case newarray a =>
    refine ⟨hd, hp, ?_⟩
    intro t u e
    subst e
    cases u with
    | cons a b => exact absurd h (by cases a <;> simp [ckX])
    | nil =>
      unfold ckX at h
      simp only at h
      split at h
      · rename_i he; cases he; exact ⟨by decide, by decide, rfl, ck_ai⟩
      · rename_i he; cases he; exact ⟨by decide, by decide, rfl, ck_ab⟩
      · rename_i he; cases he; exact ⟨by decide, by decide, rfl, ck_az⟩
      · rename_i he; cases he; exact ⟨by decide, by decide, rfl, ck_al⟩
      · cases h
  case anewarray x =>
    refine ⟨hd, hp, ?_⟩
    intro t u e
    subst e
    cases u with
    | cons a b => exact bf h
    | nil =>
      have h : (Nat.ble 5 t && Nat.blt (t - 5) 12 && hasN2 (neL o) x (t - 5) && (Nat.beq t 14 || Nat.beq t 6 || Nat.beq t 10 || Nat.beq t 5 || Nat.beq t 11)) = true := h
      obtain ⟨h, h4⟩ := Bool.and_eq_true_iff.mp h
      obtain ⟨h, h3⟩ := Bool.and_eq_true_iff.mp h
      obtain ⟨h1, h2⟩ := Bool.and_eq_true_iff.mp h
      have g1 : t - 5 < 12 := Nat.le_of_ble_eq_true h2
      obtain ⟨q, hq, hn⟩ := vw_cls _ g1
      refine ⟨Nat.le_of_ble_eq_true h1, q, hq, ?_, ?_⟩
      · rw [hc, hn]
        exact nek_ok o _ (List.mem_map_of_mem (f := neW o) (hasN2_mem h3))
      · rw [hn]
        have h5 : (((t = 14 ∨ t = 6) ∨ t = 10) ∨ t = 5) ∨ t = 11 := by simpa using h4
        rcases h5 with (((rfl | rfl) | rfl) | rfl) | rfl
        · exact List.mem_of_getElem? (i := 0) rfl
        · exact List.mem_of_getElem? (i := 1) rfl
        · exact List.mem_of_getElem? (i := 2) rfl
        · exact List.mem_of_getElem? (i := 3) rfl
        · exact List.mem_of_getElem? (i := 4) rfl
  case invokestatic x =>
    refine ⟨hd, hp, ?_, ?_⟩
    · intro u e
      subst e
      cases u with
      | nil => exact ⟨by rw [hc]; exact ac_ok _ (List.mem_map_of_mem (f := acW) (hasN2_mem h)), ck_native, ck_nstatic, ck_ninit⟩
      | cons a u =>
        cases u with
        | nil => exact bf h
        | cons b u =>
          cases u with
          | nil =>
            have h : (!(Nat.beq 9999 9999) && hasN2 (mlL o) x 9999 && hasN2 stL 9999 a) = true := h
            exact absurd h (by simp)
          | cons c u => exact bf h
    · intro mi k rk u e hm
      subst e
      cases u with
      | cons a b => exact bf h
      | nil =>
        have h : (!(Nat.beq mi 9999) && hasN2 (mlL o) x mi && hasN2 stL mi k) = true := h
        simp only [Bool.and_eq_true] at h
        have hs := hasN2_mem h.2
        obtain ⟨M', q1, q2, q3⟩ := clC_ok (List.all_eq_true.mp st_c _ hs) (st_w2 _ (List.mem_map_of_mem (f := fun e => cdW e.1) hs)) (st_w3 _ (List.mem_map_of_mem (f := fun e => Cond.initialized (yN e.1).cls) hs))
        refine ⟨M', q1, ?_, ?_, q3⟩
        · rw [hc, ← q2]; exact ml_in h.1.2
        · rw [← q2]; exact st_w1 _ (List.mem_map_of_mem (f := fun e : Nat × Nat => Cond.static (yN e.1)) hs)
  case invokevirtual x =>
    refine ⟨hd, hp, ?_⟩
    intro mi k rk cl u e
    subst e
    cases u with
    | cons a b => exact bf h
    | nil =>
      have h : (hasN2 (mlL o) x mi && hasN3 (viB (mi / 40)) mi k cl) = true := h
      obtain ⟨h1, h2⟩ := Bool.and_eq_true_iff.mp h
      obtain ⟨M', q1, q2, q3, q4, q5, q6, q7⟩ := vi_all h2
      exact ⟨M', q1, by rw [hc, ← q2]; exact ml_in h1, q3, q4, q5, q6, q7⟩
  case invokespecial x =>
    refine ⟨hd, hp, ?_, ?_⟩
    · intro u e
      subst e
      cases u with
      | nil => exact ⟨by rw [hc]; exact ob_ok _ (List.mem_map_of_mem (f := obW) (hasN2_mem h)), ck_oinst, ck_ocode⟩
      | cons a u =>
        cases u with
        | nil => exact bf h
        | cons b u =>
          cases u with
          | nil => exact bf h
          | cons c u =>
            cases u with
            | nil =>
              have h : (!(Nat.beq 9998 9998) && hasN2 spL 9998 a && (hasN2 (mlL o) x 9998 || (Nat.beq o 10 && nestL.any (fun e => Nat.beq e.1 x && decide (e.2 = yN 9998))))) = true := h
              exact absurd h (by simp)
            | cons d u => exact bf h
    · intro mi k rk u e hm
      subst e
      cases u with
      | nil => exact bf h
      | cons cl u =>
        cases u with
        | cons a b => exact bf h
        | nil =>
          have h : (!(Nat.beq mi 9998) && hasN2 spL mi k && (hasN2 (mlL o) x mi || (Nat.beq o 10 && nestL.any (fun e => Nat.beq e.1 x && decide (e.2 = yN mi))))) = true := h
          obtain ⟨h12, h3⟩ := Bool.and_eq_true_iff.mp h
          have hs := hasN2_mem (Bool.and_eq_true_iff.mp h12).2
          have hk := List.all_eq_true.mp sp_c _ hs
          obtain ⟨hk, k4⟩ := Bool.and_eq_true_iff.mp hk
          obtain ⟨hk, k3⟩ := Bool.and_eq_true_iff.mp hk
          obtain ⟨k1, k2⟩ := Bool.and_eq_true_iff.mp hk
          obtain ⟨M', q1, q2, q3⟩ := clC_ok k1 (sp_w2 _ (List.mem_map_of_mem (f := fun e => cdW e.1) hs)) (sp_w3 _ (List.mem_map_of_mem (f := fun e => Cond.initialized (yN e.1).cls) hs))
          refine ⟨M', q1, ?_, ?_, ?_, Nat.le_of_ble_eq_true k2, q3, ?_⟩
          · rw [← q2]; exact of_decide_eq_true k3
          · have k4 : (match PGm mi with | some M' => (match M'.2.2.2 with | none => true | some _ => false) | none => false) = true := k4
            rw [q1] at k4
            have k4 : (match M'.2.2.2 with | none => true | some _ => false) = true := k4
            split at k4
            · rename_i he; exact he
            · cases k4
          · rw [← q2]; exact sp_w1 _ (List.mem_map_of_mem (f := fun e : Nat × Nat => Cond.instanceMethod (yN e.1)) hs)
          · rcases Bool.or_eq_true_iff.mp h3 with h3 | h3
            · exact Or.inl (by rw [hc, ← q2]; exact ml_in h3)
            · obtain ⟨h4, h5⟩ := Bool.and_eq_true_iff.mp h3
              refine Or.inr ⟨by rw [hc, nat_bt h4]; rfl, ?_⟩
              obtain ⟨⟨a, b⟩, he, hb⟩ := List.any_eq_true.mp h5
              obtain ⟨h6, h7⟩ := Bool.and_eq_true_iff.mp hb
              rw [← q2, ← nat_bt h6, ← of_decide_eq_true h7]
              exact he
  case ireturn =>
    refine ⟨hd, hp, ?_, ?_, ?_, ?_⟩ <;> (intro u e; subst e; cases u with
      | cons a b => exact bf h
      | nil =>
        unfold ckX at h
        simp only at h
        split at h <;> first | (rename_i he he2; first | exact he2 | cases he) | cases h)
  case lreturn =>
    refine ⟨hd, hp, ?_⟩
    unfold ckX at h
    simp only at h
    split at h
    · rename_i he; exact he
    · cases h
  case areturn =>
    refine ⟨hd, hp, ?_⟩
    unfold ckX at h
    simp only at h
    split at h
    · rename_i he; exact ⟨_, he, Or.inl ⟨_, rfl⟩⟩
    · rename_i he; exact ⟨_, he, Or.inr ⟨_, rfl⟩⟩
    · cases h
  case return_ =>
    refine ⟨hd, hp, ?_⟩
    unfold ckX at h
    simp only at h
    split at h
    · rename_i he; exact he
    · cases h
theorem okI_plain {M : MT} {pc : Nat} {i : Instr} {aux : List Nat} (hp : isPlain i = true) (hd : decode M.2.1 pc = .ok (i, ilen i)) (ho : okP M pc i aux) : okI PGm M pc i aux := by
  cases i <;> first | exact ⟨hd, ho, trivial⟩ | (cases hp; done)
theorem ckI_ok {o : Nat} {M : MT} {pc : Nat} {i : Instr} {aux : List Nat} (hc : M.1.cls = clsN o) (h : ckI o M pc i aux = true) : okI PGm M pc i aux := by
  by_cases ht : ∃ a b c d, i = .tableswitch a b c d
  · obtain ⟨df, lo, hi, offs, rfl⟩ := ht
    have h : ((match decode M.2.1 pc with
      | .ok (i, _) => decide (i = .tableswitch df lo hi offs)
      | .error _ => false) && ckSw pc df lo hi offs aux) = true := h
    obtain ⟨h1, h2⟩ := Bool.and_eq_true_iff.mp h
    refine ⟨?_, ckSw_ok h2⟩
    split at h1
    · rename_i i' n he
      exact ⟨n, by rw [he, of_decide_eq_true h1]⟩
    · cases h1
  · have h' : (ckD M pc i && ckP pc i aux && ckX o M i aux) = true := by
      cases i <;> first | exact h | exact absurd ⟨_, _, _, _, rfl⟩ ht
    obtain ⟨h12, h3⟩ := Bool.and_eq_true_iff.mp h'
    obtain ⟨h1, h2⟩ := Bool.and_eq_true_iff.mp h12
    cases hp : isPlain i with
    | true => exact okI_plain hp (ckD_ok h1) (ckP_ok h2)
    | false => exact ckX_ok hc (ckD_ok h1) (ckP_ok h2) hp (fun a b c d e => ht ⟨a, b, c, d, e⟩) h3
noncomputable def ckM (o : Nat) (M : MT) (n : Nat) (code : Nat → Option AE) : Bool := (List.range n).all (fun pc => match code pc with | some (ins, aux, _) => ckI o M pc ins aux | none => true)
def mOk (e : MT × (Nat → Option AE)) : Prop := plainName e.1.1.cls = true ∧ ∀ pc ins aux kill, e.2 pc = some (ins, aux, kill) → okI PGm e.1 pc ins aux
theorem ckM_ok {o : Nat} {M : MT} {n : Nat} {code : Nat → Option AE} (hp : plainName M.1.cls = true) (hc : M.1.cls = clsN o) (h : ckM o M n code = true) (hn : ∀ pc, Nat.blt pc n = false → code pc = none) : mOk (M, code) := by
  refine ⟨hp, fun pc ins aux kill he => ?_⟩
  have he : code pc = some (ins, aux, kill) := he
  cases hb : Nat.blt pc n with
  | false => rw [hn pc hb] at he; cases he
  | true =>
    have h1 := List.all_eq_true.mp h pc (List.mem_range.mpr (Nat.le_of_ble_eq_true hb))
    rw [he] at h1
    exact ckI_ok hc h1
