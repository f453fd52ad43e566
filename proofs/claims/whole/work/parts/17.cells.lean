theorem GT_ws {M : MT} {w : Cond} (h : w ∈ GT) : w ∈ mWs M := List.mem_cons_of_mem _ h
def uOk : Prop := ∀ (ci : Nat) (q : vw_C), vwCl[ci]? = some q → ∀ w ∈ u_ws q.1 q.2.1 q.2.2, w ∈ GT
def tyC (ci : Nat) : Nat → FieldType := match ci with
  | 0 => tyX0 | 1 => tyX1 | 2 => tyX2 | 3 => tyX3 | 4 => tyX4 | 5 => tyX5 | 6 => tyX6 | 7 => tyX7 | 8 => tyX8 | 9 => tyX9 | 10 => tyX10 | _ => tyX11
theorem vw_cases {P : Nat → vw_C → Prop} (h0 : P 0 (RX0, TX0, 12)) (h1 : P 1 (RX1, TX1, 1)) (h2 : P 2 (RX2, TX2, 1)) (h3 : P 3 (RX3, TX3, 8)) (h4 : P 4 (RX4, TX4, 3)) (h5 : P 5 (RX5, TX5, 7)) (h6 : P 6 (RX6, TX6, 4)) (h7 : P 7 (RX7, TX7, 2)) (h8 : P 8 (RX8, TX8, 5)) (h9 : P 9 (RX9, TX9, 8)) (h10 : P 10 (RX10, TX10, 14)) (h11 : P 11 (RX11, TX11, 35)) : ∀ (ci : Nat) (q : vw_C), vwCl[ci]? = some q → P ci q := by
  intro ci q h
  match ci, h with
  | 0, h => cases h; exact h0
  | 1, h => cases h; exact h1
  | 2, h => cases h; exact h2
  | 3, h => cases h; exact h3
  | 4, h => cases h; exact h4
  | 5, h => cases h; exact h5
  | 6, h => cases h; exact h6
  | 7, h => cases h; exact h7
  | 8, h => cases h; exact h8
  | 9, h => cases h; exact h9
  | 10, h => cases h; exact h10
  | 11, h => cases h; exact h11
  | k + 12, h => exact absurd (List.getElem?_eq_some_iff.mp h).1 (by show ¬ k + 12 < 12; omega)
theorem tyC_ok : ∀ (ci : Nat) (q : vw_C), vwCl[ci]? = some q → ∀ k, k < q.2.2 → parseFieldDescriptor (q.2.1 k).2.2.1 = some (tyC ci k) :=
  vw_cases (P := fun ci q => ∀ k, k < q.2.2 → parseFieldDescriptor (q.2.1 k).2.2.1 = some (tyC ci k)) tyX0_ok tyX1_ok tyX2_ok tyX3_ok tyX4_ok tyX5_ok tyX6_ok tyX7_ok tyX8_ok tyX9_ok tyX10_ok tyX11_ok
theorem nmC_ok : ∀ (ci : Nat) (q : vw_C), vwCl[ci]? = some q → ∀ a, a < q.2.2 → ∀ b, b < q.2.2 → a ≠ b → (q.2.1 a).2.1 ≠ (q.2.1 b).2.1 :=
  vw_cases (P := fun _ q => ∀ a, a < q.2.2 → ∀ b, b < q.2.2 → a ≠ b → (q.2.1 a).2.1 ≠ (q.2.1 b).2.1) nmX0 nmX1 nmX2 nmX3 nmX4 nmX5 nmX6 nmX7 nmX8 nmX9 nmX10 nmX11
section
variable {p : Program} {l : Launch} {e : Env} {R : Room} {s : State} {m : MethodId} {args : Array Value} {below : List Frame} {meth : Method} {c : Code} {Q : State → Prop}
theorem W.size {H : Heap} {locs : List Loc} {cells slots : Nat} {g : JFrame} (h : H.size ≤ s.heap.size + cells → W p l e R s m args below meth c H locs cells slots Q g) : W p l e R s m args below meth c H locs cells slots Q g := by
  intro T hT X
  have h1 := X.same.2.2.1
  have h2 : (T.setVm s.vm).heap = T.heap := rfl
  rw [h2, hT] at h1
  exact h h1 T hT X
variable {D : va_G} {B : Nat} {sp : Nat → Value} {cA : Nat → ClassId} {c0 n : Nat} {I : A3 Int32} {L : A3 Int64} {rf : A3 (Option AR)} {M : MT} {pc : Nat} {ls : List (Option AV)} {r : List AV}
theorem sz_of {H : Heap} {locs : List Loc} (hs0 : s.heap.size = B + c0) (hc : c0 ≤ n) (hP : va_P D vwCl (e_w B cA I L rf n) H) (hS : va_S (fun q => B ≤ q) s.heap H locs) (hle : H.size ≤ s.heap.size + (n - c0)) : H.size = B + n := by
  by_cases h : n = c0
  · have := hS.1; omega
  · have h1 : n - 1 < n := by omega
    have h2 : (e_w B cA I L rf n)[n - 1]? = some (B + (n - 1), e_E B cA I L rf (nm (n - 1))) := by
      unfold e_w
      rw [List.getElem?_map, List.getElem?_range h1]
      rfl
    have := (hP _ _ h2).lt
    have h3 : B + (n - 1) < H.size := this
    omega
end
section
variable {p : Program} {l : Launch} {e : Env} {R : Room} {s : State} {m : MethodId} {args : Array Value} {below : List Frame} {meth : Method} {c : Code} {Q : State → Prop}
variable {D : va_G} {B : Nat} {sp : Nat → Value} {cA : Nat → ClassId} {c0 n : Nat} {I : A3 Int32} {L : A3 Int64} {rf : A3 (Option AR)} {M : MT} {pc : Nat} {ls : List (Option AV)} {r : List AV}
/-- a field is read -/
theorem sd_get (C : Cx p s m args meth c M) (hU : uOk) (hK : va_K D vwCl (tysL cA) s) {f i ci j idx : Nat} {q : vw_C} {v : AV} (hal : alv n (f, i)) (hf : fob f = ci + 1) (hq : vwCl[ci]? = some q) (hj : j < q.2.2) (hl : Cond.fieldLink M.1.cls idx (q.2.1 j).1 (q.2.1 j).2.1 (q.2.1 j).2.2.1 ∈ GT) (hd : decode M.2.1 pc = .ok (.getfield idx, 3))
    (hv : (if fkd ci j = 0 then Value.int (I f i j) else if fkd ci j = 1 then Value.long (L f i j) else va_rf ((rf f i j).map (e_ad B))) = e_v B sp v)
    (k : aW p l e R s m args below meth c Q D B sp cA M.2.2.1 c0 I L rf n (pc + 3) ls (v :: r)) : aW p l e R s m args below meth c Q D B sp cA M.2.2.1 c0 I L rf n pc ls (.inr (.inr (.inl (some (f, i)))) :: r) := by
  obtain ⟨hx, hb, hml, hown, hts, hr, hlk, hnm⟩ := C
  intro H locs lsA h1 h2 h3 h4
  obtain ⟨q', hq', hN⟩ := hal.obj hf
  cases hq.symm.trans hq'
  have he : (e_w B cA I L rf n)[e_ps (f, i)]? = some (e_ad B (f, i), .inr (ci, e_fs B I L rf ci f i)) := by rw [e_w_at hal, e_E_obj hf]
  have hN : q.2.2 = fln f := hN
  exact va_get (D := D) (ci := ci) (C := q.1) (T := q.2.1) (N := q.2.2) hx hb hts (fun w hw => GT_ws (hU ci q hq w hw)) hown hK h2 (e_ps (f, i)) he hq j hj (hts _ (GT_ws hl)) (fun _ h9 => h9) (v := e_v B sp v) (by rw [e_fs_at (by rw [← hN]; exact hj), hv]) hd (k H locs lsA h1 h2 h3 h4)
end
section
variable {p : Program} {l : Launch} {e : Env} {R : Room} {s : State} {m : MethodId} {args : Array Value} {below : List Frame} {meth : Method} {c : Code} {Q : State → Prop}
variable {D : va_G} {B : Nat} {sp : Nat → Value} {cA : Nat → ClassId} {c0 n : Nat} {I : A3 Int32} {L : A3 Int64} {rf : A3 (Option AR)} {M : MT} {pc : Nat} {ls : List (Option AV)} {r : List AV}
/-- a field is written -/
theorem sd_put (C : Cx p s m args meth c M) (hU : uOk) (hK : va_K D vwCl (tysL cA) s) (hs0 : s.heap.size = B + c0) (hc0 : c0 ≤ n) (hn : n ≤ 284) {I' : A3 Int32} {L' : A3 Int64} {rf' : A3 (Option AR)} {f i ci j idx : Nat} {q : vw_C} {v : AV} (hal : alv n (f, i)) (hf : fob f = ci + 1) (hq : vwCl[ci]? = some q) (hj : j < q.2.2) (hl : Cond.fieldLink M.1.cls idx (q.2.1 j).1 (q.2.1 j).2.1 (q.2.1 j).2.2.1 ∈ GT) (hd : decode M.2.1 pc = .ok (.putfield idx, 3))
    (hfin : (q.2.1 j).2.2.2 = false ∨ ((q.2.1 j).2.2.2 = true ∧ M.1.name = "<init>" ∧ (q.2.1 j).1 = M.1.cls)) (hnar : narrow (tyC ci j) (e_v B sp v) = e_v B sp v) (hfit : fits (tyC ci j) (e_v B sp v) = true)
    (hv : (if fkd ci j = 0 then Value.int (I' f i j) else if fkd ci j = 1 then Value.long (L' f i j) else va_rf ((rf' f i j).map (e_ad B))) = e_v B sp v)
    (hin : ∀ q, q ≠ j → I' f i q = I f i q ∧ L' f i q = L f i q ∧ rf' f i q = rf f i q) (hout : ∀ x : AR, x ≠ (f, i) → I' x.1 x.2 = I x.1 x.2 ∧ L' x.1 x.2 = L x.1 x.2 ∧ rf' x.1 x.2 = rf x.1 x.2)
    (k : aW p l e R s m args below meth c Q D B sp cA M.2.2.1 c0 I' L' rf' n (pc + 3) ls r) : aW p l e R s m args below meth c Q D B sp cA M.2.2.1 c0 I L rf n pc ls (v :: .inr (.inr (.inl (some (f, i)))) :: r) := by
  obtain ⟨hx, hb, hml, hown, hts, hr, hlk, hnm⟩ := C
  intro H locs lsA h1 h2 h3 h4
  obtain ⟨q', hq', hN⟩ := hal.obj hf
  cases hq.symm.trans hq'
  have hN : q.2.2 = fln f := hN
  have hjf : j < fln f := by rw [← hN]; exact hj
  have he : (e_w B cA I L rf n)[e_ps (f, i)]? = some (e_ad B (f, i), .inr (ci, e_fs B I L rf ci f i)) := by rw [e_w_at hal, e_E_obj hf]
  have hset : (e_w B cA I L rf n).set (e_ps (f, i)) (e_ad B (f, i), .inr (ci, (e_fs B I L rf ci f i).set j (e_v B sp v))) = e_w B cA I' L' rf' n := by
    rw [← e_w_set hal hn (I' := I') (L' := L') (rf' := rf') (fun x hx => e_E_congr (hout x hx).1 (hout x hx).2.1 (hout x hx).2.2), e_E_obj hf, e_fs_set hjf hv hin]
  have kk : ∀ (H1 : Heap) (locs1 : List Loc), va_P D vwCl ((e_w B cA I L rf n).set (e_ps (f, i)) (e_ad B (f, i), .inr (ci, (e_fs B I L rf ci f i).set j (e_v B sp v)))) H1 → va_D (fun q => B ≤ q) ((e_w B cA I L rf n).set (e_ps (f, i)) (e_ad B (f, i), .inr (ci, (e_fs B I L rf ci f i).set j (e_v B sp v)))) → va_S (fun q => B ≤ q) s.heap H1 locs1 → W p l e R s m args below meth c H1 locs1 (n - c0) (e_sz n - e_sz c0) Q (F0 m (pc + 3) lsA (r.map (e_v B sp))) := by
    intro H1 locs1 g1 g2 g3
    rw [hset] at g1
    exact W.size (fun hle => k H1 locs1 lsA (sz_of hs0 hc0 g1 g3 hle) g1 g3 h4)
  rcases hfin with hfin | ⟨hfin, hi1, hi2⟩
  · exact va_put (D := D) (ci := ci) (C := q.1) (T := q.2.1) (N := q.2.2) (ty := tyC ci j) hx hb hts (fun w hw => GT_ws (hU ci q hq w hw)) (tyC ci) (tyC_ok ci q hq) (nmC_ok ci q hq) hown hK h2 e_w_D h3 (e_ps (f, i)) he hq j hj (hts _ (GT_ws hl)) (fun _ h9 => h9) hfin (tyC_ok ci q hq j hj) hnar hfit (by rw [e_fs_len]; exact hjf) hd kk
  · exact va_putF (D := D) (ci := ci) (C := q.1) (T := q.2.1) (N := q.2.2) (ty := tyC ci j) hx hb hts (fun w hw => GT_ws (hU ci q hq w hw)) (tyC ci) (tyC_ok ci q hq) (nmC_ok ci q hq) hown hK h2 e_w_D h3 (e_ps (f, i)) he hq j hj (hts _ (GT_ws hl)) (fun _ h9 => h9) hfin (by rw [hnm]; exact hi1) hi2 (tyC_ok ci q hq j hj) hnar hfit (by rw [e_fs_len]; exact hjf) hd kk
end
