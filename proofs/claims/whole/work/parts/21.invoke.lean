section
variable {p : Program} {l : Launch} {e : Env} {R : Room} {s : State} {m : MethodId} {args : Array Value} {below : List Frame} {meth : Method} {c : Code} {Q : State → Prop} {SPf : State → Heap → Prop}
variable {D : va_G} {B : Nat} {sp : Nat → Value} {cA : Nat → ClassId} {c0 n : Nat} {I : A3 Int32} {L : A3 Int64} {rf : A3 (Option AR)} {M M' : MT} {pc idx : Nat} {ls : List (Option AV)} {r pre : List AV}
variable {o : Option AV} {I' : A3 Int32} {L' : A3 Int64} {rf' : A3 (Option AR)} {n' dd : Nat}
theorem GT_good {w : Cond} (h : w ∈ GT) : goodWord w = true := by
  unfold GT at h
  exact (List.mem_filter.mp h).2
/-- the words of a method that is told in the tables are good ones of every method -/
theorem GT_in (hc : Cond.code M'.1 M'.2.1 M'.2.2.1 M'.2.2.2 ∈ GT) : GoodIn (mWs M) (mWs M') := by
  intro w hw
  unfold mWs at hw
  rcases List.mem_cons.mp hw with rfl | hw
  · exact ⟨GT_ws hc, good_of_word (GT_good hc)⟩
  · exact ⟨GT_ws hw, good_of_word (GT_good hw)⟩
theorem e_P_blind (hSPb : ∀ (U : State) (g : JFrame) (mk : MethodId) (a : Array Value), SPf U U.heap → SPf (U.calling g mk a) U.heap) {av : List AV} : FrameBlind (e_P SPf D B sp cA av I L rf n) := by
  intro a U g mk h
  obtain ⟨h0, h1, h2, h3, h4⟩ := h
  exact ⟨h0, h1, h2, va_K.moved (u := U) (U := U.calling g mk a) (Vm.Alike.refl U.vm) h3, hSPb U g mk a h4⟩
theorem a_cat_sum (hsp : ∀ k, isRV (sp k)) : ∀ r : List AV, ((r.map (e_v B sp)).map (fun v => v.category)).sum = a_cat r := by
  intro r
  induction r with
  | nil => rfl
  | cons v r ih =>
    rw [List.map_cons, List.map_cons, List.sum_cons, ih]
    rcases v with x | x | (- | q) | k
    · rfl
    · rfl
    · rfl
    · rfl
    · show (sp k).category + a_cat r = _
      rw [(hsp k).cat]
      rfl
theorem cnt_add {a b d : Nat} (h1 : a ≤ b) (h2 : b ≤ d) : (b - a) + (d - b) = d - a := by omega
theorem e_sz_mono {a b : Nat} (h : a ≤ b) : e_sz a ≤ e_sz b := by
  obtain ⟨k, rfl⟩ : ∃ k, b = a + k := ⟨b - a, by omega⟩
  clear h
  induction k with
  | zero => exact Nat.le_refl _
  | succ k ih =>
    refine Nat.le_trans ih ?_
    unfold e_sz
    rw [show a + (k + 1) = (a + k) + 1 from rfl, List.range_succ, List.map_append, List.sum_append]
    exact Nat.le_add_right _ _
/-- what a call asks of the room, the tables and the counts -/
def cOk (M' : MT) (R : Room) (dd k : Nat) : Prop := R.frames = dd + 1 ∧ R.locals = 38 * (dd + 1) ∧ M'.2.2.1 ≤ 19 ∧ Cond.code M'.1 M'.2.1 M'.2.2.1 M'.2.2.2 ∈ GT ∧ Cond.initialized M'.1.cls ∈ GT ∧ (M'.1.cls ≠ "java/lang/invoke/MethodHandle" ∧ M'.1.cls ≠ "java/lang/invoke/VarHandle" ∧ (parseMethodDescriptor M'.1.desc).map (fun d => d.parameters.length) = some k)
theorem cOk.b {k : Nat} (h : cOk M' R dd k) (hts : ∀ w ∈ mWs M, w.before args s = true) (hl : Cond.methodLink M.1.cls idx M'.1 ∈ GT) : CallB R s args M.1.cls idx M'.1 M'.2.1 M'.2.2.1 M'.2.2.2 (mWs M') (e_rm dd n n') (n' - n) (e_sz n' - e_sz n) k := by
  obtain ⟨h1, h2, h3, h4, h5, h6⟩ := h
  refine callB_of k hts (GT_in h4) (ws' := GT) rfl rfl rfl (hts _ (GT_ws h5)) (hts _ (GT_ws hl)) h6 ⟨?_, ?_⟩
  · show dd + 1 ≤ R.frames; omega
  · show 8 + (M'.2.2.1 + 11) + 38 * dd ≤ R.locals; omega
theorem sd_invS (C : Cx p s m args meth c M) (hsp : ∀ k, isRV (sp k)) (hK : va_K D vwCl (tysL cA) s) (hSPb : ∀ (U : State) (g : JFrame) (mk : MethodId) (a : Array Value), SPf U U.heap → SPf (U.calling g mk a) U.heap) (hSPk : ∀ (H : Heap) (locs : List Loc) (U : State), va_S (fun q => B ≤ q) s.heap H locs → U.heap = H → s.WarmedH U.vm → SPf U H)
    (hM : MetA SPf l D B sp cA M' dd pre.reverse I L rf n o I' L' rf' n') (hc : cOk M' R dd pre.length) (hl : Cond.methodLink M.1.cls idx M'.1 ∈ GT) (hst : Cond.static M'.1 ∈ GT) (hd : decode M.2.1 pc = .ok (.invokestatic idx, 3)) (hcat : a_cat r ≤ 8) (hn1 : c0 ≤ n) (hn2 : n ≤ n') (hRc : n' - c0 ≤ R.cells) (hRs : e_sz n' - e_sz c0 ≤ R.slots)
    (k : aW p l e R s m args below meth c Q D B sp cA M.2.2.1 c0 I' L' rf' n' (pc + 3) ls (o.toList ++ r)) : aW p l e R s m args below meth c Q D B sp cA M.2.2.1 c0 I L rf n pc ls (pre ++ r) := by
  obtain ⟨hx, hb, hml, hown, hts, hr, hlk, hnm⟩ := C
  intro H locs lsA h1 h2 h3 h4
  have hz1 := e_sz_mono hn1
  have hz2 := e_sz_mono hn2
  rw [List.map_append]
  refine sd_run (n' := n') (va_runS (As := pre.reverse.map (e_v B sp)) (rest := r.map (e_v B sp)) ⟨hx, hb, hml, hown, hts⟩ hM ⟨hc.b hts hl, hts _ (GT_ws hst)⟩ ⟨e_P_blind hSPb, fun U hU hW => ⟨rfl, by rw [hU]; exact h1, by rw [hU]; exact h2, va_K.moved hW.alike hK, by rw [hU]; exact hSPk H locs U h3 hU hW⟩⟩ rfl (by rw [List.length_map, List.length_reverse]) h4.1 (by rw [← List.map_reverse, List.reverse_reverse]) (lv_room (by rw [a_cat_sum hsp]; exact hcat)) hd ⟨by omega, by omega⟩) h3 (fun H1 locs1 g1 g2 g3 => ?_)
  have hk := k H1 locs1 lsA g1 g2 g3 h4
  rw [cnt_add hn1 hn2, cnt_add hz1 hz2]
  rw [List.map_append] at hk
  cases o with
  | none => exact hk
  | some v => exact hk
end
