section
variable {p : Program} {l : Launch} {e : Env} {R : Room} {s : State} {m : MethodId} {args : Array Value} {below : List Frame} {meth : Method} {c : Code} {Q : State → Prop}
variable {D : va_G} {B : Nat} {sp : Nat → Value} {cA : Nat → ClassId} {c0 n : Nat} {I : A3 Int32} {L : A3 Int64} {rf : A3 (Option AR)} {M : MT} {pc idx : Nat} {ls : List (Option AV)} {r : List AV}
theorem e_sz_succ (n : Nat) : e_sz (n + 1) = e_sz n + fln (nm n).1 := by
  unfold e_sz
  rw [List.range_succ, List.map_append, List.sum_append]
  simp
theorem nm_ne {t n : Nat} (h : t < n) (hn : n < 284) : nm t ≠ nm n := fun e => by
  have h1 := nm_inj t (by omega)
  have h2 := nm_inj n hn
  rw [e] at h1
  omega
theorem nm_alv {n : Nat} (hn : n < 284) : alv (n + 1) (nm n) := by
  refine ⟨n, by omega, ?_⟩
  have h1 : n < nmL.length := by rw [nm_len]; exact hn
  unfold nm
  rw [List.getD_eq_getElem?_getD, List.getElem?_eq_getElem h1]
  rfl
theorem nm_ad {n : Nat} (hn : n < 284) : e_ad B (nm n) = B + n := by unfold e_ad; rw [nm_inj n hn]
/-- one cell more -/
theorem e_w_grow {H H1 : Heap} {I1 : A3 Int32} {L1 : A3 Int64} {rf1 : A3 (Option AR)} (hn : n < 284) (hP : va_P D vwCl (e_w B cA I L rf n) H) (hkeep : ∀ q, q < H.size → H1[q]? = H[q]?) (hout : ∀ x : AR, x ≠ nm n → I1 x.1 x.2 = I x.1 x.2 ∧ L1 x.1 x.2 = L x.1 x.2 ∧ rf1 x.1 x.2 = rf x.1 x.2) (hnew : va_at D vwCl (B + n, e_E B cA I1 L1 rf1 (nm n)) H1) : va_P D vwCl (e_w B cA I1 L1 rf1 (n + 1)) H1 := by
  intro k q hq
  unfold e_w at hq
  rw [List.getElem?_map] at hq
  cases hr : (List.range (n + 1))[k]? with
  | none => rw [hr] at hq; cases hq
  | some t =>
    rw [hr] at hq
    obtain ⟨hk, he⟩ := List.getElem?_eq_some_iff.mp hr
    rw [List.getElem_range] at he
    rw [List.length_range] at hk
    subst he
    cases hq
    by_cases h : k = n
    · subst h; exact hnew
    · have h2 : k < n := by omega
      have ho := hout (nm k) (nm_ne h2 hn)
      have h3 : (e_w B cA I L rf n)[k]? = some (B + k, e_E B cA I L rf (nm k)) := by
        unfold e_w
        rw [List.getElem?_map, List.getElem?_range h2]
        rfl
      show va_at D vwCl (B + k, e_E B cA I1 L1 rf1 (nm k)) H1
      rw [e_E_congr ho.1 ho.2.1 ho.2.2]
      have h4 := hP _ _ h3
      exact h4.kept (hkeep _ h4.lt)
theorem S_grow {H H1 : Heap} {locs : List Loc} (hS : va_S (fun q => B ≤ q) s.heap H locs) (hz : H1.size = H.size + 1) (hkeep : ∀ q, q < H.size → H1[q]? = H[q]?) : va_S (fun q => B ≤ q) s.heap H1 locs :=
  ⟨by have := hS.1; omega, fun q h1 h2 => (hkeep q (Nat.lt_of_lt_of_le h1 hS.1)).trans (hS.2.1 q h1 h2), hS.2.2⟩
theorem def_ok : ∀ (ci : Nat) (q : vw_C), vwCl[ci]? = some q → ∀ j, j < q.2.2 → defaultValue (tyC ci j) = if fkd ci j = 0 then Value.int 0 else if fkd ci j = 1 then Value.long 0 else Value.null :=
  vw_cases (P := fun ci q => ∀ j, j < q.2.2 → defaultValue (tyC ci j) = if fkd ci j = 0 then Value.int 0 else if fkd ci j = 1 then Value.long 0 else Value.null) (by decide +kernel) (by decide +kernel) (by decide +kernel) (by decide +kernel) (by decide +kernel) (by decide +kernel) (by decide +kernel) (by decide +kernel) (by decide +kernel) (by decide +kernel) (by decide +kernel) (by decide +kernel)
theorem sd_new (C : Cx p s m args meth c M) (hU : uOk) (hK : va_K D vwCl (tysL cA) s) (hc0 : c0 ≤ n) (hn : n < 284) {f i ci : Nat} {q : vw_C} (hnm : nm n = (f, i)) (hf : fob f = ci + 1) (hq : vwCl[ci]? = some q) (hl : Cond.classLink M.1.cls idx q.1 ∈ GT) (hin : Cond.instantiable q.1 q.2.2 ∈ GT) (hini : Cond.initialized q.1 ∈ GT) (hd : decode M.2.1 pc = .ok (.new idx, 3)) (hRc : n + 1 - c0 ≤ R.cells) (hRs : e_sz (n + 1) - e_sz c0 ≤ R.slots)
    (k : aW p l e R s m args below meth c Q D B sp cA M.2.2.1 c0 (upR I f i (fun _ => 0)) (upR L f i (fun _ => 0)) (upR rf f i (fun _ => none)) (n + 1) (pc + 3) ls (.inr (.inr (.inl (some (f, i)))) :: r)) : aW p l e R s m args below meth c Q D B sp cA M.2.2.1 c0 I L rf n pc ls r := by
  obtain ⟨hx, hb, hml, hown, hts, hr, hlk, hnm'⟩ := C
  intro H locs lsA h1 h2 h3 h4
  have hal : alv (n + 1) (f, i) := hnm ▸ nm_alv hn
  obtain ⟨q', hq', hN⟩ := hal.obj hf
  cases hq.symm.trans hq'
  have hN : q.2.2 = fln f := hN
  have hz := e_sz_mono hc0
  have hs1 : e_sz (n + 1) = e_sz n + q.2.2 := by rw [e_sz_succ, hnm, hN]
  have hKn := hK.1 ci _ hq
  refine W.newcK hx hb hown (hts _ (GT_ws hl)) (hts _ (GT_ws hin)) (hts _ (GT_ws hini)) rfl hd (by omega) (by omega) hKn.2.1 h1 fun H1 kC hkC e1 z1 o1 => ?_
  rw [← h1] at o1 z1
  have g1 : va_P D vwCl (e_w B cA (upR I f i (fun _ => 0)) (upR L f i (fun _ => 0)) (upR rf f i (fun _ => none)) (n + 1)) H1 := by
    refine e_w_grow hn h2 o1 (fun x hx => ⟨upR_off I _ (hnm ▸ hx), upR_off L _ (hnm ▸ hx), upR_off rf _ (hnm ▸ hx)⟩) ?_
    rw [hnm, e_E_obj hf]
    refine ⟨_, hq, (u_born (tyC ci) hts (fun w hw => GT_ws (hU ci q hq w hw)) hKn hkC e1 (tyC_ok ci q hq)).to (fun j hj => ?_)⟩
    have hj : j < q.2.2 := hj
    unfold vp_V
    rw [List.getD_eq_getElem?_getD, e_fs_at (by rw [← hN]; exact hj), def_ok ci q hq j hj, upR_row, upR_row, upR_row]
    rfl
  have hk := k H1 locs lsA (by rw [z1, h1]; omega) g1 (S_grow h3 z1 o1) h4
  have ha : e_v B sp (.inr (.inr (.inl (some (f, i))))) = .ref (B + n) := by
    show Value.ref (e_ad B (f, i)) = _
    rw [← hnm, nm_ad hn]
  rw [List.map_cons, ha, show n + 1 - c0 = n - c0 + 1 by omega, show e_sz (n + 1) - e_sz c0 = e_sz n - e_sz c0 + q.2.2 by omega] at hk
  exact hk
end
