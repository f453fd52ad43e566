/-! where an inspector is: the course -/
abbrev CSt : Type := Option Nat × Bool × Nat
def stay (w : TW) (i c : Nat) : Nat := 1 + w (9 + 3 * c) / w (35 + 5 * i)
def nxt (n c : Nat) (u : Bool) : Option Nat := if u = true then (if c + 1 < n then some (c + 1) else none) else (if 0 < c then some (c - 1) else none)
def mv (w : TW) (i c : Nat) (u : Bool) : CSt := match nxt (w 0) c u with
  | some c' => (some c', u, stay w i c')
  | none => if w (37 + 5 * i) = 1 then (match nxt (w 0) c (!u) with
    | some c' => (some c', !u, stay w i c')
    | none => (none, !u, 0)) else (none, u, 0)
def cstep (w : TW) (i : Nat) (s : CSt) : CSt := match s with
  | (none, u, l) => (none, u, l)
  | (some c, u, l) => if 1 < l then (some c, u, l - 1) else mv w i c u
def cst (w : TW) (i b : Nat) : Nat → CSt
  | 0 => (some (b / 2), decide (b % 2 = 0), stay w i (b / 2))
  | m + 1 => cstep w i (cst w i b m)
def crs (w : TW) (i b m : Nat) : Option Nat := (cst w i b m).1
def wI (u : Bool) : Int32 := if u = true then nI 1 else nN
theorem wI_neg (u : Bool) : -(wI u) = wI (!u) := by cases u <;> rfl
theorem nxt_some {n c c' : Nat} {u : Bool} (hc : c < n) (h : nxt n c u = some c') : nI c + wI u = nI c' ∧ c' < n := by
  unfold nxt at h
  cases u with
  | true =>
    rw [if_pos rfl] at h
    split at h
    · cases h; exact ⟨n_add c 1, by assumption⟩
    · cases h
  | false =>
    rw [if_neg (by decide)] at h
    split at h
    · cases h; exact ⟨n_Nadd (by assumption), by omega⟩
    · cases h
theorem nxt_none {n c : Nat} {u : Bool} (hn : n < 1000) (hc : c < n) (h : nxt n c u = none) : inr (nI c + wI u) n = false := by
  unfold nxt at h
  cases u with
  | true =>
    rw [if_pos rfl] at h
    split at h
    · cases h
    · show inr (nI c + nI 1) n = false
      rw [n_add, inr_n (by omega) (by omega)]
      simp; omega
  | false =>
    rw [if_neg (by decide)] at h
    split at h
    · cases h
    · have : c = 0 := by omega
      subst this
      show inr (nI 0 + nN) n = false
      rw [n_0N]
      rfl
theorem nxt_inr {n c : Nat} {u : Bool} (hn : n < 1000) (hc : c < n) : inr (nI c + wI u) n = (nxt n c u).isSome := by
  cases h : nxt n c u with
  | none => rw [nxt_none hn hc h]; rfl
  | some c' =>
    obtain ⟨h1, h2⟩ := nxt_some hc h
    rw [h1, inr_n (by omega) (by omega)]
    simp [h2]
def stOk (w : TW) (s : CSt) : Prop := ∀ c, s.1 = some c → c < w 0 ∧ 1 ≤ s.2.2 ∧ s.2.2 ≤ 100
theorem stay_ok {w : TW} (v : Vw w) {i c : Nat} (hi : i < w 5) (hc : c < w 0) : 1 ≤ stay w i c ∧ stay w i c ≤ 100 := by
  obtain ⟨⟨h0, -⟩, -, vc, vi, -⟩ := v
  have h1 := vc c (by omega)
  have h2 := vi i hi
  unfold stay
  have h3 : w (9 + 3 * c) / w (35 + 5 * i) ≤ w (9 + 3 * c) := Nat.div_le_self _ _
  generalize w (9 + 3 * c) / w (35 + 5 * i) = z at h3 ⊢
  omega
theorem mv_ok {w : TW} (v : Vw w) {i c : Nat} {u : Bool} (hi : i < w 5) (hc : c < w 0) : stOk w (mv w i c u) := by
  unfold mv
  split
  · rename_i c' h
    intro x hx; cases hx
    exact ⟨(nxt_some hc h).2, stay_ok v hi (nxt_some hc h).2⟩
  · split
    · split
      · rename_i c' h
        intro x hx; cases hx
        exact ⟨(nxt_some hc h).2, stay_ok v hi (nxt_some hc h).2⟩
      · intro x hx; cases hx
    · intro x hx; cases hx
theorem cst_ok {w : TW} (v : Vw w) {i b : Nat} (hi : i < w 5) (hb : b < 2 * w 0) : ∀ m, stOk w (cst w i b m) := by
  intro m
  induction m with
  | zero =>
    intro x hx; cases hx
    exact ⟨by omega, stay_ok v hi (by omega)⟩
  | succ m ih =>
    show stOk w (cstep w i (cst w i b m))
    generalize cst w i b m = s at ih ⊢
    obtain ⟨s1, s2, s3⟩ := s
    cases s1 with
    | none => intro x hx; cases hx
    | some c =>
      have h1 := ih c rfl
      unfold cstep
      simp only
      split
      · intro x hx; cases hx
        exact ⟨h1.1, by simp only; omega, by have := h1.2.2; simp only at this ⊢; omega⟩
      · exact mv_ok v hi h1.1
theorem crs_lt {w : TW} (v : Vw w) {i b m c : Nat} (hi : i < w 5) (hb : b < 2 * w 0) (h : crs w i b m = some c) : c < w 0 := (cst_ok v hi hb m c h).1
section
variable {X : AX} {d : Nat} {I : A3 Int32} {L : A3 Int64} {w : TW}
/-- one row of a family changes -/
def Rw (f i : Nat) (I I' : A3 Int32) : Prop := ∀ g k, (g ≠ f ∨ k ≠ i) → I' g k = I g k
theorem Rw.refl {f i : Nat} {I : A3 Int32} : Rw f i I I := fun _ _ _ => rfl
theorem Rw.up {f i j : Nat} {x : Int32} {I I' : A3 Int32} (h : Rw f i I I') : Rw f i I (up3 I' f i j x) := by
  intro g k hg
  rw [← h g k hg]
  funext z
  unfold up3
  rw [if_neg]
  intro e
  rcases hg with hg | hg
  · exact hg e.1
  · exact hg e.2.1
theorem Rw.fam {f i g : Nat} {I I' : A3 Int32} (h : Rw f i I I') (hg : g ≠ f) : I' g = I g := funext fun k => h g k (Or.inl hg)
theorem TC.fam {I I' : A3 Int32} (h : TC I w) (h6 : I' 6 0 = I 6 0) (h7 : I' 7 0 = I 7 0) (h8 : I' 8 0 = I 8 0) (h9 : I' 9 0 = I 9 0) (h10 : I' 10 0 = I 10 0) : TC I' w := by
  unfold TC
  rw [h6, h7, h8, h9, h10]
  exact h
theorem TC.rw {I I' : A3 Int32} (h : TC I w) {f i : Nat} (hr : Rw f i I I') (hf : 10 < f) : TC I' w :=
  h.fam (hr 6 0 (Or.inl (by omega))) (hr 7 0 (Or.inl (by omega))) (hr 8 0 (Or.inl (by omega))) (hr 9 0 (Or.inl (by omega))) (hr 10 0 (Or.inl (by omega)))
theorem TM.fam {I I' : A3 Int32} (h : TM I w) (h1 : I' 41 0 = I 41 0) : TM I' w := by
  unfold TM
  rw [h1]
  exact h
/-- the class's own walk of a course -/
def fP (w : TW) (i b q : Nat) (I0 : A3 Int32) (m : Nat) (s : Int32 × Int32 × Int32 × A3 Int32) : Prop :=
  Rw 14 q I0 s.2.2.2 ∧ (∀ j, j < m → s.2.2.2 14 q j = oI (crs w i b j)) ∧
  ((s.1 = oI (cst w i b m).1 ∧ s.2.1 = wI (cst w i b m).2.1 ∧ (∀ c, (cst w i b m).1 = some c → s.2.2.1 = nI (cst w i b m).2.2)) ∨
   (∃ c u, s.1 = nI c ∧ c < w 0 ∧ s.2.1 = wI u ∧ s.2.2.1 = nI 0 ∧ mv w i c u = cst w i b m))
theorem follow_141 {i b q : Nat} (v : Vw w) (hi : i < w 5) (hb : b < 2 * w 0) {pc tn : Int32} {I0 : A3 Int32} {m : Nat} (hm : m < w 1) {l8 : Int32} (hR : Rw 14 q I0 I) (hj : ∀ j, j < m → I 14 q j = oI (crs w i b j)) (h8 : ∀ c, (cst w i b m).1 = some c → l8 = nI (cst w i b m).2.2) : ∃ s', fP w i b q I0 (m + 1) s' ∧ OLe (v_X1_follow_56 X d q 0 pc tn s'.1 s'.2.1 s'.2.2.1 (nI (m + 1)) (s'.2.2.2, L, ())) (v_X1_follow_141 X d q 0 pc tn (oI (cst w i b m).1) (wI (cst w i b m).2.1) l8 (nI m) (I, L, ())) := by
  have hm40 : m < 40 := by obtain ⟨⟨-, h1, -⟩, -⟩ := v; omega
  refine ⟨(oI (cst w i b m).1, wI (cst w i b m).2.1, l8 + cI (-1), up3 I 14 q m (oI (cst w i b m).1)), ⟨hR.up, fun j hj' => ?_, ?_⟩, ?_⟩
  · by_cases e : j = m
    · subst e; exact u3_eq _ _ _ _ _
    · show up3 I 14 q m _ 14 q j = _
      rw [u3_j _ _ e]; exact hj j (by omega)
  · have hok := cst_ok v hi hb m
    have hst : cst w i b (m + 1) = cstep w i (cst w i b m) := rfl
    rw [hst]
    generalize cst w i b m = s at hok h8 ⊢
    obtain ⟨s1, s2, s3⟩ := s
    cases s1 with
    | none => exact Or.inl ⟨rfl, rfl, fun c hc => by cases hc⟩
    | some c =>
      obtain ⟨k1, k2, k3⟩ := hok c rfl
      have h8 := h8 c rfl
      simp only at k2 k3 h8 ⊢
      rw [h8, l_cN]
      by_cases h1 : 1 < s3
      · refine Or.inl ?_
        unfold cstep
        simp only [h1, if_true]
        exact ⟨trivial, trivial, fun _ _ => n_Nadd (by omega)⟩
      · refine Or.inr ⟨c, s2, rfl, k1, rfl, ?_, ?_⟩
        · rw [n_Nadd (by omega)]; congr 1; omega
        · unfold cstep
          simp only [h1, if_false]
  · intro r hr
    refine v_X1_follow_141.e X d q 0 pc tn _ _ l8 (nI m) I L r ?_
    simp (disch := omega) only [a_bi_i, a_bv_n, a_bl_l, a_bq_q, l_0, l_1, l_2, l_3, l_4, l_5, l_6, l_7, l_8, l_9, l_10, l_12, l_16, l_20, l_24, l_25, l_31, l_32, l_33, l_40, l_48, l_57, l_60, l_63, l_64, l_78, l_85, l_97, l_99, l_100, l_122, l_255, l_325, l_700, l_999, l_1000, l_1200, l_99999, l_100000, l_1000000, l_2000000000, l_N, n_add, n_mul, n_lt, n_out, n_div, n_dm, n_eq, n_toN, n_inN, n_ltN, n_nltN, n_neN, Nat.not_lt_zero, false_or, or_false, ite_y, ite_n, if_true, if_false, ite_tt, ite_ff, b_0, b_1, eq_self_iff_true, Bool.true_eq_false, Bool.false_eq_true]
    exact hr
theorem follow_98 {i b q c : Nat} {u : Bool} (h : TC I w) (v : Vw w) (hi : i < w 5) (hb : b < 2 * w 0) {tn : Int32} {I0 : A3 Int32} {m : Nat} (hd : 3 ≤ d) (hm : m < w 1) (hc : c < w 0) (hR : Rw 14 q I0 I) (hj : ∀ j, j < m → I 14 q j = oI (crs w i b j)) (hmv : (match nxt (w 0) c u with | some c' => (some c', u, stay w i c') | none => (none, u, 0)) = cst w i b m) : ∃ s', fP w i b q I0 (m + 1) s' ∧ OLe (v_X1_follow_56 X d q 0 (nI (w (35 + 5 * i))) tn s'.1 s'.2.1 s'.2.2.1 (nI (m + 1)) (s'.2.2.2, L, ())) (v_X1_follow_98 X d q 0 (nI (w (35 + 5 * i))) tn (nI c) (wI u) (nI m) (I, L, ())) := by
  have v0 := v
  obtain ⟨⟨h0, h1, -⟩, -, vc, vi, -⟩ := v0
  have hp := vi i hi
  cases hn : nxt (w 0) c u with
  | none =>
    rw [hn] at hmv
    obtain ⟨s', a1, a2⟩ := follow_141 (X := X) (d := d) (L := L) (pc := nI (w (35 + 5 * i))) (tn := tn) (l8 := nI 0) v hi hb hm hR hj (fun c' hc' => by rw [← hmv] at hc'; cases hc')
    refine ⟨s', a1, fun r hr => ?_⟩
    have a3 := a2 r hr
    rw [← hmv] at a3
    refine v_X1_follow_98.e X d q 0 _ tn _ _ _ I L r ?_
    simp (disch := omega) only [c_hasCoach h v, a_bi_i, nxt_inr (show w 0 < 1000 by omega) hc, hn]
    exact a3
  | some c' =>
    rw [hn] at hmv
    obtain ⟨e1, e2⟩ := nxt_some hc hn
    obtain ⟨s', a1, a2⟩ := follow_141 (X := X) (d := d) (L := L) (pc := nI (w (35 + 5 * i))) (tn := tn) (l8 := nI (stay w i c')) v hi hb hm hR hj (fun c' hc' => by rw [← hmv])
    refine ⟨s', a1, fun r hr => ?_⟩
    have a3 := a2 r hr
    rw [← hmv] at a3
    refine v_X1_follow_98.e X d q 0 _ tn _ _ _ I L r ?_
    rw [e1]
    have hin : inr (nI c') (w 0) = true := by rw [inr_n (by omega) (by omega)]; simp [e2]
    simp (disch := omega) only [c_hasCoach h v, a_bi_i, a_bv_n, a_bl_l, a_bq_q, l_0, l_1, l_2, l_3, l_4, l_5, l_6, l_7, l_8, l_9, l_10, l_12, l_16, l_20, l_24, l_25, l_31, l_32, l_33, l_40, l_48, l_57, l_60, l_63, l_64, l_78, l_85, l_97, l_99, l_100, l_122, l_255, l_325, l_700, l_999, l_1000, l_1200, l_99999, l_100000, l_1000000, l_2000000000, l_N, n_add, n_mul, n_lt, n_out, n_div, n_dm, n_eq, n_toN, n_inN, n_ltN, n_nltN, n_neN, Nat.not_lt_zero, false_or, or_false, ite_y, ite_n, if_true, if_false, ite_tt, ite_ff, b_0, b_1, eq_self_iff_true, Bool.true_eq_false, Bool.false_eq_true, hin, b_0, c_stayIn h v, Bool.true_eq_false]
    exact a3
theorem c_follow {i b q : Nat} (h : TC I w) (v : Vw w) (hi : i < w 5) (hb : b < 2 * w 0) (hd : 4 ≤ d) : ∃ I', K_X1_follow X d q 0 (nI i) (nI b) (I, L, ()) = some (none, (I', L, ())) ∧ Rw 14 q I I' ∧ ∀ m, m < w 1 → I' 14 q m = oI (crs w i b m) := by
  obtain ⟨e, rfl⟩ : ∃ e, d = e + 1 := ⟨d - 1, by omega⟩
  have v0 := v
  obtain ⟨⟨h0, h1, h2, h3, h4, h5, -⟩, -, vc, vi, -⟩ := v0
  have hp := vi i hi
  have hl := loop_z (F := fun m (s : Int32 × Int32 × Int32 × A3 Int32) => v_X1_follow_56 X e q 0 (nI (w (35 + 5 * i))) (bI (decide (w (37 + 5 * i) = 1))) s.1 s.2.1 s.2.2.1 (nI m) (s.2.2.2, L, ())) (P := fP w i b q I) (w 1) (nI (b / 2), wI (decide (b % 2 = 0)), nI (stay w i (b / 2)), I) ⟨Rw.refl, fun j hj => by omega, Or.inl ⟨rfl, rfl, fun c hc => rfl⟩⟩ (fun m s hm hP => by
    obtain ⟨l6, l7, l8, J⟩ := s
    obtain ⟨hR, hj, hst⟩ := hP
    simp only at hR hj hst
    have hJ : TC J w := h.rw hR (by decide)
    rcases hst with ⟨e1, e2, e3⟩ | ⟨c, u, e1, e2, e3, e4, e5⟩
    · -- settled
      obtain ⟨s', a1, a2⟩ := follow_141 (X := X) (d := e) (L := L) (pc := nI (w (35 + 5 * i))) (tn := bI (decide (w (37 + 5 * i) = 1))) (l8 := l8) v hi hb hm hR hj e3
      refine ⟨s', a1, fun r hr => ?_⟩
      have a3 := a2 r hr
      have hok := cst_ok v hi hb m
      show v_X1_follow_56 X e q 0 _ _ l6 l7 l8 (nI m) (J, L, ()) = some r
      refine v_X1_follow_56.e X e q 0 _ _ l6 l7 l8 _ J L r ?_
      rw [e1, e2]
      simp (disch := omega) only [c_minutes hJ v, a_bi_i, a_bv_n, a_bl_l, a_bq_q, l_0, l_1, l_2, l_3, l_4, l_5, l_6, l_7, l_8, l_9, l_10, l_12, l_16, l_20, l_24, l_25, l_31, l_32, l_33, l_40, l_48, l_57, l_60, l_63, l_64, l_78, l_85, l_97, l_99, l_100, l_122, l_255, l_325, l_700, l_999, l_1000, l_1200, l_99999, l_100000, l_1000000, l_2000000000, l_N, n_add, n_mul, n_lt, n_out, n_div, n_dm, n_eq, n_toN, n_inN, n_ltN, n_nltN, n_neN, Nat.not_lt_zero, false_or, or_false, ite_y, ite_n, if_true, if_false, ite_tt, ite_ff, b_0, b_1, eq_self_iff_true, Bool.true_eq_false, Bool.false_eq_true]
      cases hs : (cst w i b m).1 with
      | none =>
        rw [hs] at a3
        simp only [oI, if_true]
        exact a3
      | some c =>
        rw [hs] at a3
        obtain ⟨k1, k2, k3⟩ := hok c hs
        rw [e3 c hs] at a3 ⊢
        simp only [oI] at a3 ⊢
        simp (disch := omega) only [a_bi_i, a_bv_n, a_bl_l, a_bq_q, l_0, l_1, l_2, l_3, l_4, l_5, l_6, l_7, l_8, l_9, l_10, l_12, l_16, l_20, l_24, l_25, l_31, l_32, l_33, l_40, l_48, l_57, l_60, l_63, l_64, l_78, l_85, l_97, l_99, l_100, l_122, l_255, l_325, l_700, l_999, l_1000, l_1200, l_99999, l_100000, l_1000000, l_2000000000, l_N, n_add, n_mul, n_lt, n_out, n_div, n_dm, n_eq, n_toN, n_inN, n_ltN, n_nltN, n_neN, Nat.not_lt_zero, false_or, or_false, ite_y, ite_n, if_true, if_false, ite_tt, ite_ff, b_0, b_1, eq_self_iff_true, Bool.true_eq_false, Bool.false_eq_true]
        exact a3
    · -- the coach is left now
      have key : ∀ (u' : Bool), (match nxt (w 0) c u' with | some c' => (some c', u', stay w i c') | none => (none, u', 0)) = cst w i b m → ∃ s', fP w i b q I (m + 1) s' ∧ OLe (v_X1_follow_56 X e q 0 (nI (w (35 + 5 * i))) (bI (decide (w (37 + 5 * i) = 1))) s'.1 s'.2.1 s'.2.2.1 (nI (m + 1)) (s'.2.2.2, L, ())) (v_X1_follow_98 X e q 0 (nI (w (35 + 5 * i))) (bI (decide (w (37 + 5 * i) = 1))) (nI c) (wI u') (nI m) (J, L, ())) := fun u' hu' => follow_98 hJ v hi hb (by omega) hm e2 hR hj hu'
      unfold mv at e5
      rw [e1, e3, e4]
      have red : ∀ (s' : Int32 × Int32 × Int32 × A3 Int32) (r : Option AV × AS Unit), (∀ x, x = (if w (37 + 5 * i) = 1 then (if (nxt (w 0) c u).isSome = true then u else !u) else u) → v_X1_follow_98 X e q 0 (nI (w (35 + 5 * i))) (bI (decide (w (37 + 5 * i) = 1))) (nI c) (wI x) (nI m) (J, L, ()) = some r) → v_X1_follow_56 X e q 0 (nI (w (35 + 5 * i))) (bI (decide (w (37 + 5 * i) = 1))) (nI c) (wI u) (nI 0) (nI m) (J, L, ()) = some r := by
        intro s' r hx
        refine v_X1_follow_56.e X e q 0 _ _ _ _ _ _ J L r ?_
        simp (disch := omega) only [c_minutes hJ v, a_bi_i, a_bv_n, a_bl_l, a_bq_q, l_0, l_1, l_2, l_3, l_4, l_5, l_6, l_7, l_8, l_9, l_10, l_12, l_16, l_20, l_24, l_25, l_31, l_32, l_33, l_40, l_48, l_57, l_60, l_63, l_64, l_78, l_85, l_97, l_99, l_100, l_122, l_255, l_325, l_700, l_999, l_1000, l_1200, l_99999, l_100000, l_1000000, l_2000000000, l_N, n_add, n_mul, n_lt, n_out, n_div, n_dm, n_eq, n_toN, n_inN, n_ltN, n_nltN, n_neN, Nat.not_lt_zero, false_or, or_false, ite_y, ite_n, if_true, if_false, ite_tt, ite_ff, b_0, b_1, eq_self_iff_true, Bool.true_eq_false, Bool.false_eq_true, b_0, c_hasCoach hJ v, nxt_inr (show w 0 < 1000 by omega) e2]
        by_cases ht : w (37 + 5 * i) = 1
        · simp only [ht, decide_true, Bool.true_eq_false, if_false, if_true] at hx ⊢
          cases hq : (nxt (w 0) c u).isSome with
          | true => rw [hq] at hx; simp only [Bool.true_eq_false, if_false, if_true] at hx ⊢; exact hx _ rfl
          | false => rw [hq] at hx; simp only [if_true, Bool.false_eq_true, if_false] at hx ⊢; rw [wI_neg]; exact hx _ rfl
        · simp only [ht, decide_false, if_true, if_false] at hx ⊢
          exact hx _ rfl
      cases hn : nxt (w 0) c u with
      | some c' =>
        rw [hn] at e5
        obtain ⟨s', a1, a2⟩ := key u (by rw [hn]; exact e5)
        refine ⟨s', a1, fun r hr => red s' r (fun x hx => ?_)⟩
        have : x = u := by rw [hx, hn]; split <;> rfl
        rw [this]; exact a2 r hr
      | none =>
        rw [hn] at e5
        by_cases ht : w (37 + 5 * i) = 1
        · simp only [ht, if_true] at e5
          obtain ⟨s', a1, a2⟩ := key (!u) e5
          refine ⟨s', a1, fun r hr => red s' r (fun x hx => ?_)⟩
          have : x = !u := by rw [hx, hn, if_pos ht]; rfl
          rw [this]; exact a2 r hr
        · simp only [ht, if_false] at e5
          obtain ⟨s', a1, a2⟩ := key u (by rw [hn]; exact e5)
          refine ⟨s', a1, fun r hr => red s' r (fun x hx => ?_)⟩
          have : x = u := by rw [hx, if_neg ht]
          rw [this]; exact a2 r hr)
  obtain ⟨⟨l6, l7, l8, J⟩, ⟨hR, hj, -⟩, hO⟩ := hl
  simp only at hR hj hO
  have hJ : TC J w := h.rw hR (by decide)
  refine ⟨J, ?_, hR, hj⟩
  refine K_X1_follow.e X e q 0 _ _ I L _ ?_
  have hend : v_X1_follow_56 X e q 0 (nI (w (35 + 5 * i))) (bI (decide (w (37 + 5 * i) = 1))) (nI (b / 2)) (wI (decide (b % 2 = 0))) (nI (stay w i (b / 2))) (nI 0) (I, L, ()) = some (none, (J, L, ())) := by
    refine hO _ ?_
    refine v_X1_follow_56.e X e q 0 _ _ _ _ _ _ J L _ ?_
    simp (disch := omega) only [c_minutes hJ v, a_bi_i, a_bv_n, a_bl_l, a_bq_q, l_0, l_1, l_2, l_3, l_4, l_5, l_6, l_7, l_8, l_9, l_10, l_12, l_16, l_20, l_24, l_25, l_31, l_32, l_33, l_40, l_48, l_57, l_60, l_63, l_64, l_78, l_85, l_97, l_99, l_100, l_122, l_255, l_325, l_700, l_999, l_1000, l_1200, l_99999, l_100000, l_1000000, l_2000000000, l_N, n_add, n_mul, n_lt, n_out, n_div, n_dm, n_eq, n_toN, n_inN, n_ltN, n_nltN, n_neN, Nat.not_lt_zero, false_or, or_false, ite_y, ite_n, if_true, if_false, ite_tt, ite_ff, b_0, b_1, eq_self_iff_true, Bool.true_eq_false, Bool.false_eq_true]
  simp (disch := omega) only [c_oi2 h v, c_oi4 h v, a_bi_i, a_bv_n, a_bl_l, a_bq_q, l_0, l_1, l_2, l_3, l_4, l_5, l_6, l_7, l_8, l_9, l_10, l_12, l_16, l_20, l_24, l_25, l_31, l_32, l_33, l_40, l_48, l_57, l_60, l_63, l_64, l_78, l_85, l_97, l_99, l_100, l_122, l_255, l_325, l_700, l_999, l_1000, l_1200, l_99999, l_100000, l_1000000, l_2000000000, l_N, n_add, n_mul, n_lt, n_out, n_div, n_dm, n_eq, n_toN, n_inN, n_ltN, n_nltN, n_neN, Nat.not_lt_zero, false_or, or_false, ite_y, ite_n, if_true, if_false, ite_tt, ite_ff, b_0, b_1, eq_self_iff_true, Bool.true_eq_false, Bool.false_eq_true, c_stayIn h v]
  unfold stay at hend
  by_cases ht : w (37 + 5 * i) = 1 <;> by_cases hb2 : b % 2 = 0 <;> simp only [ht, hb2, decide_true, decide_false, if_true, if_false, b_t, b_f, wI, Bool.false_eq_true] at hend ⊢ <;> exact hend
end
