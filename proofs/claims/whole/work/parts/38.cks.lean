/-! the checker is sound -/
theorem hasN2_mem {l : List (Nat × Nat)} {a b : Nat} (h : hasN2 l a b = true) : (a, b) ∈ l := by
  obtain ⟨⟨x, y⟩, he, hb⟩ := List.any_eq_true.mp h
  obtain ⟨h1, h2⟩ := Bool.and_eq_true_iff.mp hb
  rw [← Nat.eq_of_beq_eq_true h1, ← Nat.eq_of_beq_eq_true h2]
  exact he
theorem hasN3_mem {l : List (Nat × Nat × Nat)} {a b c : Nat} (h : hasN3 l a b c = true) : (a, b, c) ∈ l := by
  obtain ⟨⟨x, y, z⟩, he, hb⟩ := List.any_eq_true.mp h
  obtain ⟨h12, h3⟩ := Bool.and_eq_true_iff.mp hb
  obtain ⟨h1, h2⟩ := Bool.and_eq_true_iff.mp h12
  rw [← Nat.eq_of_beq_eq_true h1, ← Nat.eq_of_beq_eq_true h2, ← Nat.eq_of_beq_eq_true h3]
  exact he
theorem hasN4_mem {l : List (Nat × Nat × Nat × Nat)} {a b c d : Nat} (h : hasN4 l a b c d = true) : (a, b, c, d) ∈ l := by
  obtain ⟨⟨x, y, z, w⟩, he, hb⟩ := List.any_eq_true.mp h
  obtain ⟨h123, h4⟩ := Bool.and_eq_true_iff.mp hb
  obtain ⟨h12, h3⟩ := Bool.and_eq_true_iff.mp h123
  obtain ⟨h1, h2⟩ := Bool.and_eq_true_iff.mp h12
  rw [← Nat.eq_of_beq_eq_true h1, ← Nat.eq_of_beq_eq_true h2, ← Nat.eq_of_beq_eq_true h3, ← Nat.eq_of_beq_eq_true h4]
  exact he
theorem ckD_ok {M : MT} {pc : Nat} {i : Instr} (h : ckD M pc i = true) : decode M.2.1 pc = .ok (i, ilen i) := by
  unfold ckD at h
  split at h
  · rename_i i' n he
    obtain ⟨h1, h2⟩ := Bool.and_eq_true_iff.mp h
    rw [he, of_decide_eq_true h1, Nat.eq_of_beq_eq_true h2]
  · cases h
theorem ckOff_ok {pc : Nat} {off : Int} {aux : List Nat} (h : ckOff pc off aux = true) : ∀ t ∈ aux.head?, (pc : Int) + off = (t : Nat) := by
  cases aux with
  | nil => intro t ht; cases ht
  | cons a u => intro t ht; cases ht; exact of_decide_eq_true h
theorem ckP_ok {M : MT} {pc : Nat} {i : Instr} {aux : List Nat} (h : ckP pc i aux = true) : okP M pc i aux := by
  cases i
  case iconst v => exact of_decide_eq_true (p := Int32.ofInt v = cI v) h
  case bipush v => exact of_decide_eq_true (p := (Int8.ofInt v).toInt32 = cI v) h
  case sipush v => exact of_decide_eq_true (p := (Int16.ofInt v).toInt32 = cI v) h
  case iinc k v => exact of_decide_eq_true (p := Int32.ofInt v = cI v) h
  all_goals first | exact ckOff_ok h | trivial
theorem ckOffs_ok {pc : Nat} : ∀ (os : List Int) (ts : List Nat), ckOffs pc os ts = true → ∀ (i t : Nat), ts[i]? = some t → ∃ off, os[i]? = some off ∧ (pc : Int) + off = (t : Nat) := by
  intro os ts
  induction ts generalizing os with
  | nil => intro _ i t hi; cases hi
  | cons a ts ih =>
    intro h i t hi
    cases os with
    | nil => cases h
    | cons o os =>
      obtain ⟨h1, h2⟩ := Bool.and_eq_true_iff.mp h
      cases i with
      | zero => cases hi; exact ⟨o, rfl, of_decide_eq_true h1⟩
      | succ i => exact ih os h2 i t hi
theorem ckSw_ok {pc : Nat} {df lo hi : Int} {offs : Array Int} {aux : List Nat} (h : ckSw pc df lo hi offs aux = true) : okSw pc df lo hi offs aux := by
  intro d ts e
  subst e
  have h : (decide ((pc : Int) + df = (d : Nat)) && decide (hi = lo + ts.length - 1) && decide (-1000 ≤ lo) && decide (lo ≤ 1000) && decide (ts.length ≤ 1000) && ckOffs pc offs.toList ts) = true := h
  simp only [Bool.and_eq_true, decide_eq_true_eq] at h
  obtain ⟨⟨⟨⟨⟨h1, h2⟩, h3⟩, h4⟩, h5⟩, h6⟩ := h
  refine ⟨h1, h2, h3, h4, h5, fun i t hi => ?_⟩
  obtain ⟨off, q1, q2⟩ := ckOffs_ok _ _ h6 i t hi
  exact ⟨off, by rw [← Array.getElem?_toList]; exact q1, q2⟩
theorem vw_cls : ∀ ci, ci < 12 → ∃ q, vwCl[ci]? = some q ∧ q.1 = clsN ci := by
  intro ci h
  match ci, h with
  | 0, _ => exact ⟨_, rfl, rfl⟩
  | 1, _ => exact ⟨_, rfl, rfl⟩
  | 2, _ => exact ⟨_, rfl, rfl⟩
  | 3, _ => exact ⟨_, rfl, rfl⟩
  | 4, _ => exact ⟨_, rfl, rfl⟩
  | 5, _ => exact ⟨_, rfl, rfl⟩
  | 6, _ => exact ⟨_, rfl, rfl⟩
  | 7, _ => exact ⟨_, rfl, rfl⟩
  | 8, _ => exact ⟨_, rfl, rfl⟩
  | 9, _ => exact ⟨_, rfl, rfl⟩
  | 10, _ => exact ⟨_, rfl, rfl⟩
  | 11, _ => exact ⟨_, rfl, rfl⟩
theorem ckF_ok {ci j : Nat} (h : ckF ci j = true) : ∃ q, vwCl[ci]? = some q ∧ j < q.2.2 ∧ fq ci j = q.2.1 j := by
  unfold ckF at h
  unfold fq
  cases hv : vwCl[ci]? with
  | none => rw [hv] at h; cases h
  | some q => rw [hv] at h; exact ⟨q, rfl, Nat.le_of_ble_eq_true h, rfl⟩
theorem fl_in {o x ci j : Nat} (h : hasN3 (flL o) x ci j = true) : Cond.fieldLink (clsN o) x (fq ci j).1 (fq ci j).2.1 (fq ci j).2.2.1 ∈ GT := flk_ok o _ (List.mem_map_of_mem (f := flW o) (hasN3_mem h))
theorem ml_in {o x mi : Nat} (h : hasN2 (mlL o) x mi = true) : Cond.methodLink (clsN o) x (yN mi) ∈ GT := mlk_ok o _ (List.mem_map_of_mem (f := mlW o) (hasN2_mem h))
theorem sv_in {o x j : Nat} (h : hasN3 svL o x j = true) : svW (o, x, j) ∈ GT := sv_ok _ (List.mem_map_of_mem (f := svW) (hasN3_mem h))
theorem sf_in {o x a v : Nat} (h : hasN4 sfL o x a v = true) : sfW (o, x, a, v) ∈ GT := sf_ok _ (List.mem_map_of_mem (f := sfW) (hasN4_mem h))
def mhS : String := "java/lang/invoke/MethodHandle"
def vhS : String := "java/lang/invoke/VarHandle"
noncomputable def clC (mi k : Nat) : Bool := match PGm mi with
  | some M' => Nat.ble M'.2.2.1 19 && decide (M'.1.cls ≠ mhS) && decide (M'.1.cls ≠ vhS) && decide ((parseMethodDescriptor M'.1.desc).map (fun d => d.parameters.length) = some k)
  | none => false
theorem clC_ok {mi k : Nat} (h : clC mi k = true) (h1 : cdW mi ∈ GT) (h2 : Cond.initialized (yN mi).cls ∈ GT) : ∃ M', PGm mi = some M' ∧ yN mi = M'.1 ∧ okCl M' k := by
  unfold clC at h
  unfold cdW at h1
  unfold yN at h2 ⊢
  cases hv : PGm mi with
  | none => rw [hv] at h; cases h
  | some M' =>
    rw [hv] at h h1 h2
    have h : (Nat.ble M'.2.2.1 19 && decide (M'.1.cls ≠ mhS) && decide (M'.1.cls ≠ vhS) && decide ((parseMethodDescriptor M'.1.desc).map (fun d => d.parameters.length) = some k)) = true := h
    simp only [Bool.and_eq_true, decide_eq_true_eq] at h
    obtain ⟨⟨⟨q1, q2⟩, q3⟩, q4⟩ := h
    exact ⟨M', rfl, rfl, Nat.le_of_ble_eq_true q1, h1, h2, q2, q3, q4⟩
noncomputable def viC (e : Nat × Nat × Nat) : Bool := clC e.1 (e.2.1 - 1) && Nat.blt 0 e.2.1 && (bif Nat.beq e.2.2 101 then decide ((yN e.1).cls = "java/lang/String") else Nat.blt 0 e.2.2 && Nat.blt (e.2.2 - 1) 12 && decide (clsN (e.2.2 - 1) = (yN e.1).cls))
noncomputable def spC (e : Nat × Nat) : Bool := clC e.1 (e.2 - 1) && Nat.blt 0 e.2 && decide ((yN e.1).name = "<init>") && (match PGm e.1 with | some M' => (match M'.2.2.2 with | none => true | some _ => false) | none => false)
def viF (e : Nat × Nat × Nat) : Prop := ∃ M', PGm e.1 = some M' ∧ yN e.1 = M'.1 ∧ Cond.instanceMethod M'.1 ∈ GT ∧ Cond.selects M'.1.cls M'.1 M'.1 ∈ GT ∧ 0 < e.2.1 ∧ okCl M' (e.2.1 - 1) ∧ ((e.2.2 = 101 ∧ M'.1.cls = "java/lang/String") ∨ ∃ ci q, e.2.2 = ci + 1 ∧ ci < 100 ∧ vwCl[ci]? = some q ∧ q.1 = M'.1.cls)
theorem viF_of {L : List (Nat × Nat × Nat)} {pub prv : List Nat} (hc : L.all viC = true) (w1 : ∀ w ∈ L.map (fun e => Cond.instanceMethod (yN e.1)), w ∈ GT) (w2 : ∀ w ∈ L.map (fun e => cdW e.1), w ∈ GT) (w3 : ∀ w ∈ L.map (fun e => Cond.initialized (yN e.1).cls), w ∈ GT)
    (w4 : ∀ w ∈ pub.map (fun e => Cond.selects (yN e).cls (yN e) (yN e)), w ∈ GT) (w5 : ∀ w ∈ prv.map (fun e => Cond.selects (yN e).cls (yN e) (yN e)), w ∈ GT) (w6 : ∀ e ∈ L, e.1 ∈ pub ∨ e.1 ∈ prv) : ∀ e ∈ L, viF e := by
  intro e he
  have h := List.all_eq_true.mp hc e he
  obtain ⟨h12, h3⟩ := Bool.and_eq_true_iff.mp h
  obtain ⟨h1, h2⟩ := Bool.and_eq_true_iff.mp h12
  obtain ⟨M', q1, q2, q3⟩ := clC_ok h1 (w2 _ (List.mem_map_of_mem (f := fun e => cdW e.1) he)) (w3 _ (List.mem_map_of_mem (f := fun e => Cond.initialized (yN e.1).cls) he))
  have s1 := w1 _ (List.mem_map_of_mem (f := fun e : Nat × Nat × Nat => Cond.instanceMethod (yN e.1)) he)
  have s2 : Cond.selects (yN e.1).cls (yN e.1) (yN e.1) ∈ GT := by
    rcases w6 e he with hp | hp
    · exact w4 _ (List.mem_map_of_mem (f := fun e => Cond.selects (yN e).cls (yN e) (yN e)) hp)
    · exact w5 _ (List.mem_map_of_mem (f := fun e => Cond.selects (yN e).cls (yN e) (yN e)) hp)
  refine ⟨M', q1, q2, by rw [← q2]; exact s1, by rw [← q2]; exact s2, Nat.le_of_ble_eq_true h2, q3, ?_⟩
  cases hb : Nat.beq e.2.2 101 with
  | true =>
    rw [hb] at h3
    exact Or.inl ⟨Nat.eq_of_beq_eq_true hb, by rw [← q2]; exact of_decide_eq_true h3⟩
  | false =>
    rw [hb] at h3
    have h3 : (Nat.blt 0 e.2.2 && Nat.blt (e.2.2 - 1) 12 && decide (clsN (e.2.2 - 1) = (yN e.1).cls)) = true := h3
    obtain ⟨h31, h33⟩ := Bool.and_eq_true_iff.mp h3
    obtain ⟨h31, h32⟩ := Bool.and_eq_true_iff.mp h31
    have g1 : 0 < e.2.2 := Nat.le_of_ble_eq_true h31
    have g2 : e.2.2 - 1 < 12 := Nat.le_of_ble_eq_true h32
    obtain ⟨q, hq, hn⟩ := vw_cls _ g2
    exact Or.inr ⟨e.2.2 - 1, q, by omega, by omega, hq, by rw [hn, of_decide_eq_true h33, q2]⟩
theorem vi_c_0 : viL0.all viC = true := by decide +kernel
theorem vi_f_0 : ∀ e ∈ viL0, viF e := viF_of vi_c_0 vi_w1_0 vi_w2_0 vi_w3_0 vi_w4_0 vi_w5_0 vi_w6_0
theorem vi_c_1 : viL1.all viC = true := by decide +kernel
theorem vi_f_1 : ∀ e ∈ viL1, viF e := viF_of vi_c_1 vi_w1_1 vi_w2_1 vi_w3_1 vi_w4_1 vi_w5_1 vi_w6_1
theorem vi_c_2 : viL2.all viC = true := by decide +kernel
theorem vi_f_2 : ∀ e ∈ viL2, viF e := viF_of vi_c_2 vi_w1_2 vi_w2_2 vi_w3_2 vi_w4_2 vi_w5_2 vi_w6_2
theorem vi_c_3 : viL3.all viC = true := by decide +kernel
theorem vi_f_3 : ∀ e ∈ viL3, viF e := viF_of vi_c_3 vi_w1_3 vi_w2_3 vi_w3_3 vi_w4_3 vi_w5_3 vi_w6_3
theorem vi_c_4 : viL4.all viC = true := by decide +kernel
theorem vi_f_4 : ∀ e ∈ viL4, viF e := viF_of vi_c_4 vi_w1_4 vi_w2_4 vi_w3_4 vi_w4_4 vi_w5_4 vi_w6_4
theorem vi_c_5 : viL5.all viC = true := by decide +kernel
theorem vi_f_5 : ∀ e ∈ viL5, viF e := viF_of vi_c_5 vi_w1_5 vi_w2_5 vi_w3_5 vi_w4_5 vi_w5_5 vi_w6_5
theorem vi_c_6 : viL6.all viC = true := by decide +kernel
theorem vi_f_6 : ∀ e ∈ viL6, viF e := viF_of vi_c_6 vi_w1_6 vi_w2_6 vi_w3_6 vi_w4_6 vi_w5_6 vi_w6_6
theorem vi_c_7 : viL7.all viC = true := by decide +kernel
theorem vi_f_7 : ∀ e ∈ viL7, viF e := viF_of vi_c_7 vi_w1_7 vi_w2_7 vi_w3_7 vi_w4_7 vi_w5_7 vi_w6_7
theorem vi_c_8 : viL8.all viC = true := by decide +kernel
theorem vi_f_8 : ∀ e ∈ viL8, viF e := viF_of vi_c_8 vi_w1_8 vi_w2_8 vi_w3_8 vi_w4_8 vi_w5_8 vi_w6_8
theorem vi_all {mi k cl : Nat} (h : hasN3 (viB (mi / 40)) mi k cl = true) : viF (mi, k, cl) := by
  have h := hasN3_mem h
  unfold viB at h
  split at h
  · exact vi_f_0 _ h
  · exact vi_f_1 _ h
  · exact vi_f_2 _ h
  · exact vi_f_3 _ h
  · exact vi_f_4 _ h
  · exact vi_f_5 _ h
  · exact vi_f_6 _ h
  · exact vi_f_7 _ h
  · exact vi_f_8 _ h
  · cases h
theorem st_c : stL.all (fun e => clC e.1 e.2) = true := by decide +kernel
theorem sp_c : spL.all spC = true := by decide +kernel
theorem ck_native : Cond.native arraycopyName ∈ GT := GT_at 554 (by decide +kernel) (by decide +kernel)
theorem ck_nstatic : Cond.static arraycopyName ∈ GT := GT_at 553 (by decide +kernel) (by decide +kernel)
theorem ck_ninit : Cond.initialized "java/lang/System" ∈ GT := GT_at 19 (by decide +kernel) (by decide +kernel)
theorem ck_oinst : Cond.instanceMethod Lib.objectInit ∈ GT := GT_at 27 (by decide +kernel) (by decide +kernel)
theorem ck_ocode : Cond.code Lib.objectInit ⟨#[0xb1]⟩ 1 none ∈ GT := GT_at 28 (by decide +kernel) (by decide +kernel)
theorem cls_w0 : Cond.instantiable RX0 12 ∈ GT ∧ Cond.initialized RX0 ∈ GT := ⟨GT_at 173 (by decide +kernel) (by decide +kernel), GT_at 8 (by decide +kernel) (by decide +kernel)⟩
theorem cls_w1 : Cond.instantiable RX1 1 ∈ GT ∧ Cond.initialized RX1 ∈ GT := ⟨GT_at 129 (by decide +kernel) (by decide +kernel), GT_at 6 (by decide +kernel) (by decide +kernel)⟩
theorem cls_w2 : Cond.instantiable RX2 1 ∈ GT ∧ Cond.initialized RX2 ∈ GT := ⟨GT_at 256 (by decide +kernel) (by decide +kernel), GT_at 10 (by decide +kernel) (by decide +kernel)⟩
theorem cls_w3 : Cond.instantiable RX3 8 ∈ GT ∧ Cond.initialized RX3 ∈ GT := ⟨GT_at 219 (by decide +kernel) (by decide +kernel), GT_at 9 (by decide +kernel) (by decide +kernel)⟩
theorem cls_w4 : Cond.instantiable RX4 3 ∈ GT ∧ Cond.initialized RX4 ∈ GT := ⟨GT_at 47 (by decide +kernel) (by decide +kernel), GT_at 3 (by decide +kernel) (by decide +kernel)⟩
theorem cls_w5 : Cond.instantiable RX5 7 ∈ GT ∧ Cond.initialized RX5 ∈ GT := ⟨GT_at 143 (by decide +kernel) (by decide +kernel), GT_at 7 (by decide +kernel) (by decide +kernel)⟩
theorem cls_w6 : Cond.instantiable RX6 4 ∈ GT ∧ Cond.initialized RX6 ∈ GT := ⟨GT_at 267 (by decide +kernel) (by decide +kernel), GT_at 11 (by decide +kernel) (by decide +kernel)⟩
theorem cls_w7 : Cond.instantiable RX7 2 ∈ GT ∧ Cond.initialized RX7 ∈ GT := ⟨GT_at 30 (by decide +kernel) (by decide +kernel), GT_at 2 (by decide +kernel) (by decide +kernel)⟩
theorem cls_w8 : Cond.instantiable RX8 5 ∈ GT ∧ Cond.initialized RX8 ∈ GT := ⟨GT_at 53 (by decide +kernel) (by decide +kernel), GT_at 4 (by decide +kernel) (by decide +kernel)⟩
theorem cls_w9 : Cond.instantiable RX9 8 ∈ GT ∧ Cond.initialized RX9 ∈ GT := ⟨GT_at 90 (by decide +kernel) (by decide +kernel), GT_at 5 (by decide +kernel) (by decide +kernel)⟩
theorem cls_w10 : Cond.instantiable RX10 14 ∈ GT ∧ Cond.initialized RX10 ∈ GT := ⟨GT_at 22 (by decide +kernel) (by decide +kernel), GT_at 1 (by decide +kernel) (by decide +kernel)⟩
theorem cls_w11 : Cond.instantiable RX11 35 ∈ GT ∧ Cond.initialized RX11 ∈ GT := ⟨GT_at 1239 (by decide +kernel) (by decide +kernel), GT_at 12 (by decide +kernel) (by decide +kernel)⟩
theorem cls_w : ∀ ci, ci < 12 → ∀ q, vwCl[ci]? = some q → Cond.instantiable q.1 q.2.2 ∈ GT ∧ Cond.initialized q.1 ∈ GT := by
  intro ci h
  match ci, h with
  | 0, _ => intro q hq; cases hq; exact cls_w0
  | 1, _ => intro q hq; cases hq; exact cls_w1
  | 2, _ => intro q hq; cases hq; exact cls_w2
  | 3, _ => intro q hq; cases hq; exact cls_w3
  | 4, _ => intro q hq; cases hq; exact cls_w4
  | 5, _ => intro q hq; cases hq; exact cls_w5
  | 6, _ => intro q hq; cases hq; exact cls_w6
  | 7, _ => intro q hq; cases hq; exact cls_w7
  | 8, _ => intro q hq; cases hq; exact cls_w8
  | 9, _ => intro q hq; cases hq; exact cls_w9
  | 10, _ => intro q hq; cases hq; exact cls_w10
  | 11, _ => intro q hq; cases hq; exact cls_w11
theorem ck_ai : Cond.arrayClass .int ∈ GT := GT_at 125 (by decide +kernel) (by decide +kernel)
theorem ck_ab : Cond.arrayClass .byte ∈ GT := GT_at 45 (by decide +kernel) (by decide +kernel)
theorem ck_az : Cond.arrayClass .boolean ∈ GT := GT_at 333 (by decide +kernel) (by decide +kernel)
theorem ck_al : Cond.arrayClass .long ∈ GT := GT_at 289 (by decide +kernel) (by decide +kernel)
theorem ckSr_ok {o x v : Nat} (h : ckSr o x v = true) : (clsN o, x, v) ∈ srL ∧ v < 27 := by
  obtain ⟨h1, h2⟩ := Bool.and_eq_true_iff.mp h
  refine ⟨?_, Nat.le_of_ble_eq_true h2⟩
  obtain ⟨⟨a, b, c⟩, he, hb⟩ := List.any_eq_true.mp h1
  obtain ⟨h12, h3⟩ := Bool.and_eq_true_iff.mp hb
  obtain ⟨h1, h2⟩ := Bool.and_eq_true_iff.mp h12
  rw [← Nat.eq_of_beq_eq_true h1, ← Nat.eq_of_beq_eq_true h2, ← of_decide_eq_true h3]
  exact he
theorem ckTy_ok {ci j kd : Nat} (h : ckTy ci j kd = true) : ((kd = 0 ∧ fkd ci j = 0 ∧ tyC ci j = .int) ∨ (kd = 3 ∧ fkd ci j = 0 ∧ tyC ci j = .boolean) ∨ (kd = 1 ∧ fkd ci j = 1 ∧ tyC ci j = .long) ∨ (kd = 2 ∧ fkd ci j = 2 ∧ isRT (tyC ci j))) := by
  unfold ckTy at h
  split at h <;> rename_i he
  · obtain ⟨h1, h2⟩ := Bool.and_eq_true_iff.mp h
    exact Or.inl ⟨Nat.eq_of_beq_eq_true h1, Nat.eq_of_beq_eq_true h2, he⟩
  · obtain ⟨h1, h2⟩ := Bool.and_eq_true_iff.mp h
    exact Or.inr (Or.inl ⟨Nat.eq_of_beq_eq_true h1, Nat.eq_of_beq_eq_true h2, he⟩)
  · obtain ⟨h1, h2⟩ := Bool.and_eq_true_iff.mp h
    exact Or.inr (Or.inr (Or.inl ⟨Nat.eq_of_beq_eq_true h1, Nat.eq_of_beq_eq_true h2, he⟩))
  · obtain ⟨h1, h2⟩ := Bool.and_eq_true_iff.mp h
    exact Or.inr (Or.inr (Or.inr ⟨Nat.eq_of_beq_eq_true h1, Nat.eq_of_beq_eq_true h2, he ▸ Or.inl ⟨_, rfl⟩⟩))
  · obtain ⟨h1, h2⟩ := Bool.and_eq_true_iff.mp h
    exact Or.inr (Or.inr (Or.inr ⟨Nat.eq_of_beq_eq_true h1, Nat.eq_of_beq_eq_true h2, he ▸ Or.inr ⟨_, rfl⟩⟩))
  · cases h
theorem ckFin_ok {M : MT} {ci j : Nat} (h : ckFin M ci j = true) : (fq ci j).2.2.2 = false ∨ ((fq ci j).2.2.2 = true ∧ M.1.name = "<init>" ∧ (fq ci j).1 = M.1.cls) := by
  unfold ckFin at h
  split at h <;> rename_i he
  · exact Or.inl he
  · obtain ⟨h1, h2⟩ := Bool.and_eq_true_iff.mp h
    exact Or.inr ⟨he, of_decide_eq_true h1, of_decide_eq_true h2⟩
