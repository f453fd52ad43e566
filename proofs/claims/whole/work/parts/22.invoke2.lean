section
variable {p : Program} {l : Launch} {e : Env} {R : Room} {s : State} {m : MethodId} {args : Array Value} {below : List Frame} {meth : Method} {c : Code} {Q : State → Prop} {SPf : State → Heap → Prop}
variable {D : va_G} {B : Nat} {sp : Nat → Value} {cA : Nat → ClassId} {c0 n : Nat} {I : A3 Int32} {L : A3 Int64} {rf : A3 (Option AR)} {M M' : MT} {pc idx : Nat} {ls : List (Option AV)} {r av : List AV}
variable {o : Option AV} {I' : A3 Int32} {L' : A3 Int64} {rf' : A3 (Option AR)} {n' dd : Nat}
theorem sd_invV (C : Cx p s m args meth c M) (hsp : ∀ k, isRV (sp k)) (hK : va_K D vwCl (tysL cA) s) (hSPb : ∀ (U : State) (g : JFrame) (mk : MethodId) (a : Array Value), SPf U U.heap → SPf (U.calling g mk a) U.heap) (hSPk : ∀ (H : Heap) (locs : List Loc) (U : State), va_S (fun q => B ≤ q) s.heap H locs → U.heap = H → s.WarmedH U.vm → SPf U H)
    {rc : AV} {b : Nat} (hrc : e_v B sp rc = .ref b) (hrv : ∀ (H : Heap) (locs : List Loc), va_P D vwCl (e_w B cA I L rf n) H → va_S (fun q => B ≤ q) s.heap H locs → ∃ cellB : Cell, H[b]? = some cellB ∧ cellB.vm.isStatics = false ∧ s.vm.findClass M'.1.cls = some cellB.cls)
    (hM : MetA SPf l D B sp cA M' dd (rc :: av) I L rf n o I' L' rf' n') (hc : cOk M' R dd av.length) (hl : Cond.methodLink M.1.cls idx M'.1 ∈ GT) (hin : Cond.instanceMethod M'.1 ∈ GT) (hse : Cond.selects M'.1.cls M'.1 M'.1 ∈ GT) (hd : decode M.2.1 pc = .ok (.invokevirtual idx, 3)) (hcat : a_cat r ≤ 8) (hn1 : c0 ≤ n) (hn2 : n ≤ n') (hRc : n' - c0 ≤ R.cells) (hRs : e_sz n' - e_sz c0 ≤ R.slots)
    (k : aW p l e R s m args below meth c Q D B sp cA M.2.2.1 c0 I' L' rf' n' (pc + 3) ls (o.toList ++ r)) : aW p l e R s m args below meth c Q D B sp cA M.2.2.1 c0 I L rf n pc ls (av.reverse ++ rc :: r) := by
  obtain ⟨hx, hb, hml, hown, hts, hr, hlk, hnm⟩ := C
  intro H locs lsA h1 h2 h3 h4
  have hz1 := e_sz_mono hn1
  have hz2 := e_sz_mono hn2
  have hPc : ∀ U : State, U.heap = H → s.WarmedH U.vm → e_P SPf D B sp cA (rc :: av) I L rf n (Value.ref b :: av.map (e_v B sp)).toArray U := fun U hU hW => ⟨by rw [List.map_cons, hrc], by rw [hU]; exact h1, by rw [hU]; exact h2, va_K.moved hW.alike hK, by rw [hU]; exact hSPk H locs U h3 hU hW⟩
  refine sd_run (n' := n') (va_runV (b := b) (As := av.map (e_v B sp)) (rest := r.map (e_v B sp)) ⟨hx, hb, hml, hown, hts⟩ hM ⟨hc.b hts hl, hts _ (GT_ws hin), hts _ (GT_ws hse)⟩ ⟨e_P_blind hSPb, hrv H locs h2 h3, hPc⟩ rfl (by rw [List.length_map]) h4.1 (by show List.map (e_v B sp) (av.reverse ++ rc :: r) = _; rw [List.map_append, List.map_cons, hrc, List.map_reverse]) (lv_room (by rw [a_cat_sum hsp]; exact hcat)) hd ⟨by omega, by omega⟩) h3 (fun H1 locs1 g1 g2 g3 => ?_)
  have hk := k H1 locs1 lsA g1 g2 g3 h4
  rw [cnt_add hn1 hn2, cnt_add hz1 hz2]
  rw [List.map_append] at hk
  cases o with
  | none => exact hk
  | some v => exact hk
/-- a constructor, by its own link -/
theorem sd_invI (C : Cx p s m args meth c M) (hsp : ∀ k, isRV (sp k)) (hK : va_K D vwCl (tysL cA) s) (hSPb : ∀ (U : State) (g : JFrame) (mk : MethodId) (a : Array Value), SPf U U.heap → SPf (U.calling g mk a) U.heap) (hSPk : ∀ (H : Heap) (locs : List Loc) (U : State), va_S (fun q => B ≤ q) s.heap H locs → U.heap = H → s.WarmedH U.vm → SPf U H)
    {rc : AV} {b : Nat} (hrc : e_v B sp rc = .ref b)
    (hM : MetA SPf l D B sp cA M' dd (rc :: av) I L rf n o I' L' rf' n') (hc : cOk M' R dd av.length) (hret : M'.2.2.2 = none) (hy : M'.1.name = "<init>") (hl : Cond.methodLink M.1.cls idx M'.1 ∈ GT) (hin : Cond.instanceMethod M'.1 ∈ GT) (hd : decode M.2.1 pc = .ok (.invokespecial idx, 3)) (hcat : a_cat r ≤ 8) (hn1 : c0 ≤ n) (hn2 : n ≤ n') (hRc : n' - c0 ≤ R.cells) (hRs : e_sz n' - e_sz c0 ≤ R.slots)
    (k : aW p l e R s m args below meth c Q D B sp cA M.2.2.1 c0 I' L' rf' n' (pc + 3) ls (o.toList ++ r)) : aW p l e R s m args below meth c Q D B sp cA M.2.2.1 c0 I L rf n pc ls (av.reverse ++ rc :: r) := by
  obtain ⟨hx, hb, hml, hown, hts, hr, hlk, hnm⟩ := C
  intro H locs lsA h1 h2 h3 h4
  have hz1 := e_sz_mono hn1
  have hz2 := e_sz_mono hn2
  have hPc : ∀ U : State, U.heap = H → s.WarmedH U.vm → e_P SPf D B sp cA (rc :: av) I L rf n (Value.ref b :: av.map (e_v B sp)).toArray U := fun U hU hW => ⟨by rw [List.map_cons, hrc], by rw [hU]; exact h1, by rw [hU]; exact h2, va_K.moved hW.alike hK, by rw [hU]; exact hSPk H locs U h3 hU hW⟩
  have hcb := hc.b (n := n) (n' := n') hts hl
  rw [hret] at hcb
  refine sd_run (n' := n') (va_runI (b := b) (As := av.map (e_v B sp)) (rest := r.map (e_v B sp)) ⟨hx, hb, hml, hown, hts⟩ hM ⟨hcb, hy, hts _ (GT_ws hin)⟩ ⟨e_P_blind hSPb, hPc⟩ rfl (by rw [List.length_map]) h4.1 (by show List.map (e_v B sp) (av.reverse ++ rc :: r) = _; rw [List.map_append, List.map_cons, hrc, List.map_reverse]) (lv_room (by rw [a_cat_sum hsp]; exact hcat)) hd ⟨by omega, by omega⟩) h3 (fun H1 locs1 g1 g2 g3 => ?_)
  have hk := k H1 locs1 lsA g1 g2 g3 h4
  rw [cnt_add hn1 hn2, cnt_add hz1 hz2]
  rw [List.map_append] at hk
  cases o with
  | none => exact hk
  | some v => exact hk
/-- a constructor of a nest mate -/
theorem sd_invIN (C : Cx p s m args meth c M) (hsp : ∀ k, isRV (sp k)) (hK : va_K D vwCl (tysL cA) s) (hSPb : ∀ (U : State) (g : JFrame) (mk : MethodId) (a : Array Value), SPf U U.heap → SPf (U.calling g mk a) U.heap) (hSPk : ∀ (H : Heap) (locs : List Loc) (U : State), va_S (fun q => B ≤ q) s.heap H locs → U.heap = H → s.WarmedH U.vm → SPf U H)
    {rc : AV} {b : Nat} {host : String} (hrc : e_v B sp rc = .ref b)
    (hM : MetA SPf l D B sp cA M' dd (rc :: av) I L rf n o I' L' rf' n') (hc : cOk M' R dd av.length) (hret : M'.2.2.2 = none) (hy : M'.1.name = "<init>") (hl : va_Nw (.methodLinkNest M.1.cls idx M'.1 host) s) (hin : Cond.instanceMethod M'.1 ∈ GT) (hd : decode M.2.1 pc = .ok (.invokespecial idx, 3)) (hcat : a_cat r ≤ 8) (hn1 : c0 ≤ n) (hn2 : n ≤ n') (hRc : n' - c0 ≤ R.cells) (hRs : e_sz n' - e_sz c0 ≤ R.slots)
    (k : aW p l e R s m args below meth c Q D B sp cA M.2.2.1 c0 I' L' rf' n' (pc + 3) ls (o.toList ++ r)) : aW p l e R s m args below meth c Q D B sp cA M.2.2.1 c0 I L rf n pc ls (av.reverse ++ rc :: r) := by
  obtain ⟨hx, hb, hml, hown, hts, hr, hlk, hnm⟩ := C
  intro H locs lsA h1 h2 h3 h4
  have hz1 := e_sz_mono hn1
  have hz2 := e_sz_mono hn2
  have hPc : ∀ U : State, U.heap = H → s.WarmedH U.vm → e_P SPf D B sp cA (rc :: av) I L rf n (Value.ref b :: av.map (e_v B sp)).toArray U := fun U hU hW => ⟨by rw [List.map_cons, hrc], by rw [hU]; exact h1, by rw [hU]; exact h2, va_K.moved hW.alike hK, by rw [hU]; exact hSPk H locs U h3 hU hW⟩
  obtain ⟨q1, q2, q3, q4, q5, q6⟩ := hc
  have hcb : va_CN R s args M.1.cls idx M'.1 host M'.2.1 M'.2.2.1 M'.2.2.2 (mWs M') (e_rm dd n n') (n' - n) (e_sz n' - e_sz n) av.length := by
    refine va_cnB av.length hts (GT_in q4) (ws' := GT) rfl rfl rfl hl (hts _ (GT_ws q5)) q6 ⟨?_, ?_⟩
    · show dd + 1 ≤ R.frames; omega
    · show 8 + (M'.2.2.1 + 11) + 38 * dd ≤ R.locals; omega
  rw [hret] at hcb
  refine sd_run (n' := n') (va_runIN (b := b) (As := av.map (e_v B sp)) (rest := r.map (e_v B sp)) ⟨hx, hb, hml, hown, hts⟩ hM ⟨hcb, hy, hts _ (GT_ws hin)⟩ ⟨e_P_blind hSPb, hPc⟩ rfl (by rw [List.length_map]) h4.1 (by show List.map (e_v B sp) (av.reverse ++ rc :: r) = _; rw [List.map_append, List.map_cons, hrc, List.map_reverse]) (lv_room (by rw [a_cat_sum hsp]; exact hcat)) hd ⟨by omega, by omega⟩) h3 (fun H1 locs1 g1 g2 g3 => ?_)
  have hk := k H1 locs1 lsA g1 g2 g3 h4
  rw [cnt_add hn1 hn2, cnt_add hz1 hz2]
  rw [List.map_append] at hk
  cases o with
  | none => exact hk
  | some v => exact hk
/-- Object's own constructor -/
theorem sd_obj (C : Cx p s m args meth c M) (hsp : ∀ k, isRV (sp k)) {rc : AV} {b : Nat} (hrc : e_v B sp rc = .ref b) (hR : 1 ≤ R.frames) (hRl : 20 ≤ R.locals) (hl : Cond.methodLink M.1.cls idx Lib.objectInit ∈ GT) (hin : Cond.instanceMethod Lib.objectInit ∈ GT) (hco : Cond.code Lib.objectInit ⟨#[0xb1]⟩ 1 none ∈ GT) (hd : decode M.2.1 pc = .ok (.invokespecial idx, 3)) (hcat : a_cat r ≤ 8)
    (k : aW p l e R s m args below meth c Q D B sp cA M.2.2.1 c0 I L rf n (pc + 3) ls r) : aW p l e R s m args below meth c Q D B sp cA M.2.2.1 c0 I L rf n pc ls (rc :: r) := by
  obtain ⟨hx, hb, hml, hown, hts, hr, hlk, hnm⟩ := C
  intro H locs lsA h1 h2 h3 h4
  refine W.objInit hx hb hown (hts _ (GT_ws hl)) (hts _ (GT_ws hin)) (hts _ (GT_ws hco)) (a := b) (rest := r.map (e_v B sp)) rfl (by rw [hml]; exact h4.1) (by show List.map (e_v B sp) (rc :: r) = _; rw [List.map_cons, hrc]) hd hR ?_ (k H locs lsA h1 h2 h3 h4)
  have := lv_room (m := m) (pc := pc) (ls := lsA) (rest := List.map (e_v B sp) (rc :: r)) (st := r.map (e_v B sp)) (by rw [a_cat_sum hsp]; exact hcat)
  omega
end
