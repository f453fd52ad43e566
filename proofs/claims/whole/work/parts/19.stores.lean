section
variable {p : Program} {l : Launch} {e : Env} {R : Room} {s : State} {m : MethodId} {args : Array Value} {below : List Frame} {meth : Method} {c : Code} {Q : State → Prop}
variable {D : va_G} {B : Nat} {sp : Nat → Value} {cA : Nat → ClassId} {c0 n : Nat} {I : A3 Int32} {L : A3 Int64} {rf : A3 (Option AR)} {M : MT} {pc : Nat} {ls : List (Option AV)} {r : List AV}
theorem nar_byte (x : Int32) : vp_nar .byte x = x.toInt8.toInt32 := vp_nar_byte x
theorem nar_bool {x : Int32} (h : x = 0 ∨ x = 1) : vp_nar .boolean x = x := by
  rcases h with rfl | rfl <;> decide
theorem sd_iast (C : Cx p s m args meth c M) (hK : va_K D vwCl (tysL cA) s) (hs0 : s.heap.size = B + c0) (hc0 : c0 ≤ n) (hn : n ≤ 284) {f i : Nat} {j x : Int32} (hal : alv n (f, i)) (hf : fty f = 1) (hj : ¬ aout j (fln f)) (hd : decode M.2.1 pc = .ok (.iastore, 1))
    (k : aW p l e R s m args below meth c Q D B sp cA M.2.2.1 c0 (up3 I f i j.toNatClampNeg x) L rf n (pc + 1) ls r) : aW p l e R s m args below meth c Q D B sp cA M.2.2.1 c0 I L rf n pc ls (.inl x :: .inl j :: .inr (.inr (.inl (some (f, i)))) :: r) := by
  obtain ⟨hx, hb, hml, hown, hts, hr, hlk, hnm⟩ := C
  intro H locs lsA h1 h2 h3 h4
  have h0 : fob f = 0 := hal.arr (by show 0 < fty f; omega)
  have he : (e_w B cA I L rf n)[e_ps (f, i)]? = some (e_ad B (f, i), .inl (cA 1, fln f, .inl (I f i))) := by rw [e_w_at hal, e_E_arrI h0 (by omega), hf]
  refine va_iast (D := D) hx hb hK h2 e_w_D h3 (e_ps (f, i)) 0 he rfl (vp_of hj) hd (fun H1 locs1 g1 g2 g3 => ?_)
  rw [row_set (I' := up3 I f i j.toNatClampNeg x) (L' := L) (rf' := rf) hal hn (by rw [e_E_arrI h0 (by omega), hf, upd_up3]) (fun x hx => ⟨up3_off I _ _ hx, rfl, rfl⟩)] at g1
  exact W.size (fun hle => k H1 locs1 lsA (sz_of hs0 hc0 g1 g3 hle) g1 g3 h4)
theorem sd_bast (C : Cx p s m args meth c M) (hK : va_K D vwCl (tysL cA) s) (hs0 : s.heap.size = B + c0) (hc0 : c0 ≤ n) (hn : n ≤ 284) {f i : Nat} {j x y : Int32} (hal : alv n (f, i)) (hf : (fty f = 2 ∧ y = x.toInt8.toInt32) ∨ (fty f = 3 ∧ (x = 0 ∨ x = 1) ∧ y = x)) (hj : ¬ aout j (fln f)) (hd : decode M.2.1 pc = .ok (.bastore, 1))
    (k : aW p l e R s m args below meth c Q D B sp cA M.2.2.1 c0 (up3 I f i j.toNatClampNeg y) L rf n (pc + 1) ls r) : aW p l e R s m args below meth c Q D B sp cA M.2.2.1 c0 I L rf n pc ls (.inl x :: .inl j :: .inr (.inr (.inl (some (f, i)))) :: r) := by
  obtain ⟨hx, hb, hml, hown, hts, hr, hlk, hnm⟩ := C
  intro H locs lsA h1 h2 h3 h4
  have h0 : fob f = 0 := hal.arr (by show 0 < fty f; omega)
  rcases hf with ⟨hf, hy⟩ | ⟨hf, hx01, hy⟩
  · have he : (e_w B cA I L rf n)[e_ps (f, i)]? = some (e_ad B (f, i), .inl (cA 2, fln f, .inl (I f i))) := by rw [e_w_at hal, e_E_arrI h0 (by omega), hf]
    refine va_bast (D := D) hx hb hK h2 e_w_D h3 (e_ps (f, i)) 1 he rfl (vp_of hj) hd (fun H1 locs1 g1 g2 g3 => ?_)
    rw [nar_byte, ← hy, row_set (I' := up3 I f i j.toNatClampNeg y) (L' := L) (rf' := rf) hal hn (by rw [e_E_arrI h0 (by omega), hf, upd_up3]) (fun x hx => ⟨up3_off I _ _ hx, rfl, rfl⟩)] at g1
    exact W.size (fun hle => k H1 locs1 lsA (sz_of hs0 hc0 g1 g3 hle) g1 g3 h4)
  · have he : (e_w B cA I L rf n)[e_ps (f, i)]? = some (e_ad B (f, i), .inl (cA 3, fln f, .inl (I f i))) := by rw [e_w_at hal, e_E_arrI h0 (by omega), hf]
    refine va_zast (D := D) hx hb hK h2 e_w_D h3 (e_ps (f, i)) 2 he rfl (vp_of hj) hd (fun H1 locs1 g1 g2 g3 => ?_)
    rw [nar_bool hx01, ← hy, row_set (I' := up3 I f i j.toNatClampNeg y) (L' := L) (rf' := rf) hal hn (by rw [e_E_arrI h0 (by omega), hf, upd_up3]) (fun x hx => ⟨up3_off I _ _ hx, rfl, rfl⟩)] at g1
    exact W.size (fun hle => k H1 locs1 lsA (sz_of hs0 hc0 g1 g3 hle) g1 g3 h4)
theorem sd_last (C : Cx p s m args meth c M) (hK : va_K D vwCl (tysL cA) s) (hs0 : s.heap.size = B + c0) (hc0 : c0 ≤ n) (hn : n ≤ 284) {f i : Nat} {j : Int32} {x : Int64} (hal : alv n (f, i)) (hf : fty f = 4) (hj : ¬ aout j (fln f)) (hd : decode M.2.1 pc = .ok (.lastore, 1))
    (k : aW p l e R s m args below meth c Q D B sp cA M.2.2.1 c0 I (up3 L f i j.toNatClampNeg x) rf n (pc + 1) ls r) : aW p l e R s m args below meth c Q D B sp cA M.2.2.1 c0 I L rf n pc ls (.inr (.inl x) :: .inl j :: .inr (.inr (.inl (some (f, i)))) :: r) := by
  obtain ⟨hx, hb, hml, hown, hts, hr, hlk, hnm⟩ := C
  intro H locs lsA h1 h2 h3 h4
  have h0 : fob f = 0 := hal.arr (by show 0 < fty f; omega)
  have he : (e_w B cA I L rf n)[e_ps (f, i)]? = some (e_ad B (f, i), .inl (cA 4, fln f, .inr (.inl (L f i)))) := by rw [e_w_at hal, e_E_arrL h0 hf]
  refine va_last (D := D) hx hb hK h2 e_w_D h3 (e_ps (f, i)) 3 he rfl (vp_of hj) hd (fun H1 locs1 g1 g2 g3 => ?_)
  rw [row_set (I' := I) (L' := up3 L f i j.toNatClampNeg x) (rf' := rf) hal hn (by rw [e_E_arrL h0 hf, updL_up3]) (fun x hx => ⟨rfl, up3_off L _ _ hx, rfl⟩)] at g1
  exact W.size (fun hle => k H1 locs1 lsA (sz_of hs0 hc0 g1 g3 hle) g1 g3 h4)
theorem sd_aast (C : Cx p s m args meth c M) (hK : va_K D vwCl (tysL cA) s) (hs0 : s.heap.size = B + c0) (hc0 : c0 ≤ n) (hn : n ≤ 284) {f i g g2 : Nat} {j : Int32} (hal : alv n (f, i)) (halg : alv n (g, g2)) (hf : 5 ≤ fty f ∧ fob g + 4 = fty f) (hj : ¬ aout j (fln f)) (hd : decode M.2.1 pc = .ok (.aastore, 1))
    (k : aW p l e R s m args below meth c Q D B sp cA M.2.2.1 c0 I L (up3 rf f i j.toNatClampNeg (some (g, g2))) n (pc + 1) ls r) : aW p l e R s m args below meth c Q D B sp cA M.2.2.1 c0 I L rf n pc ls (.inr (.inr (.inl (some (g, g2)))) :: .inl j :: .inr (.inr (.inl (some (f, i)))) :: r) := by
  obtain ⟨hx, hb, hml, hown, hts, hr, hlk, hnm⟩ := C
  intro H locs lsA h1 h2 h3 h4
  have h0 : fob f = 0 := hal.arr (by show 0 < fty f; omega)
  have he : (e_w B cA I L rf n)[e_ps (f, i)]? = some (e_ad B (f, i), .inl (cA (fty f), fln f, .inr (.inr (.inr (.inr (fun j => (rf f i j).map (e_ad B))))))) := by rw [e_w_at hal, e_E_arrR h0 hf.1]
  obtain ⟨q, hq, ht⟩ := tys_ob (cA := cA) (fam_ob f hal.fam hf.1)
  have hg : fob g = (fty f - 5) + 1 := by omega
  have heg : (e_w B cA I L rf n)[e_ps (g, g2)]? = some (e_ad B (g, g2), .inr (fty f - 5, e_fs B I L rf (fty f - 5) g g2)) := by rw [e_w_at halg, e_E_obj hg]
  refine va_astq (D := D) hx hb hK h2 e_w_D h3 (e_ps (f, i)) (fty f - 1) (e_ps (g, g2)) (fty f - 5) he ht heg hq (vp_of hj) hd (fun H1 locs1 g1 g2' g3 => ?_)
  rw [row_set (I' := I) (L' := L) (rf' := up3 rf f i j.toNatClampNeg (some (g, g2))) hal hn (by
    rw [e_E_arrR h0 hf.1, up3_row]
    congr 6
    refine congrArg Sum.inr (funext fun z => ?_)
    unfold va_up
    by_cases hz : z = j.toNatClampNeg
    · simp [hz]
    · simp [hz]) (fun x hx => ⟨rfl, rfl, up3_off rf _ _ hx⟩)] at g1
  exact W.size (fun hle => k H1 locs1 lsA (sz_of hs0 hc0 g1 g3 hle) g1 g3 h4)
end
