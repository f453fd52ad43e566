section
variable {p : Program} {l : Launch} {e : Env} {R : Room} {s : State} {m : MethodId} {args : Array Value} {below : List Frame} {meth : Method} {c : Code} {Q : State → Prop}
variable {D : va_G} {B : Nat} {sp : Nat → Value} {cA : Nat → ClassId} {c0 n : Nat} {I : A3 Int32} {L : A3 Int64} {rf : A3 (Option AR)} {M : MT} {pc idx : Nat} {ls : List (Option AV)} {r : List AV}
def tyA (t : Nat) : FieldType := if t = 1 then .int else if t = 2 then .byte else if t = 3 then .boolean else .long
theorem fln_small : ∀ f, f < 63 → fln f ≤ 2000 := by decide +kernel
theorem ofNat_clamp {k : Nat} (h : k ≤ 2000) : ¬ Int32.ofNat k < 0 ∧ (Int32.ofNat k).toNatClampNeg = k := ⟨nI_pos (by omega), nI_clamp (by omega)⟩
theorem sd_newa (C : Cx p s m args meth c M) (hK : va_K D vwCl (tysL cA) s) (hc0 : c0 ≤ n) (hn : n < 284) {f i t : Nat} {at' : ArrayType} (hnm : nm n = (f, i)) (ht0 : 0 < t) (ht4 : t ≤ 4) (hf : fty f = t) (hat : newarray.typeOf at' = tyA t) (hl : Cond.arrayClass (newarray.typeOf at') ∈ GT) (hd : decode M.2.1 pc = .ok (.newarray at', 2)) (hRc : n + 1 - c0 ≤ R.cells) (hRs : e_sz (n + 1) - e_sz c0 ≤ R.slots)
    (k : aW p l e R s m args below meth c Q D B sp cA M.2.2.1 c0 (upR I f i (fun _ => 0)) (upR L f i (fun _ => 0)) (upR rf f i (fun _ => none)) (n + 1) (pc + 2) ls (.inr (.inr (.inl (some (f, i)))) :: r)) : aW p l e R s m args below meth c Q D B sp cA M.2.2.1 c0 I L rf n pc ls (.inl (Int32.ofNat (fln f)) :: r) := by
  obtain ⟨hx, hb, hml, hown, hts, hr, hlk, hnm'⟩ := C
  intro H locs lsA h1 h2 h3 h4
  have hal : alv (n + 1) (f, i) := hnm ▸ nm_alv hn
  have h0 : fob f = 0 := hal.arr (by show 0 < fty f; omega)
  have hz := e_sz_mono hc0
  have hs1 : e_sz (n + 1) = e_sz n + fln f := by rw [e_sz_succ, hnm]
  have hsm := fln_small f hal.fam
  obtain ⟨p1, p2⟩ := ofNat_clamp hsm
  have hbt : fln f * componentBytes (newarray.typeOf at') ≤ 536870912 := by
    have : componentBytes (newarray.typeOf at') ≤ 8 := by cases at' <;> decide
    exact Nat.le_trans (Nat.mul_le_mul hsm this) (by decide)
  refine va_newaK hx hb (hts _ (GT_ws hl)) rfl hd rfl p1 p2 hbt (by omega) (by omega) h1 fun H1 cA' e1 z1 o1 hAr hNm => ?_
  rw [← h1] at o1 z1
  have hcA : cA' = cA t := by
    have h5 := (hK.2 (t - 1) _ (tys_at ht0 ht4)).2
    rw [hat] at hNm
    rcases (show t = 1 ∨ t = 2 ∨ t = 3 ∨ t = 4 by omega) with rfl | rfl | rfl | rfl <;> exact Option.some.inj (hNm.symm.trans h5)
  subst hcA
  have g1 : va_P D vwCl (e_w B cA (upR I f i (fun _ => 0)) (upR L f i (fun _ => 0)) (upR rf f i (fun _ => none)) (n + 1)) H1 := by
    refine e_w_grow hn h2 o1 (fun x hx => ⟨upR_off I _ (hnm ▸ hx), upR_off L _ (hnm ▸ hx), upR_off rf _ (hnm ▸ hx)⟩) ?_
    rw [hnm]
    rw [hat] at e1
    by_cases h5 : t = 4
    · rw [e_E_arrL h0 (hf.trans h5), upR_row]
      show H1[B + n]? = some (vp_cell _ _)
      rw [e1, h5, vp_cell_l]
      rfl
    · rw [e_E_arrI h0 (by show fty f < 4; omega), upR_row]
      show H1[B + n]? = some (vp_cell _ _)
      rw [e1, vp_cell_i, hf]
      rcases (show t = 1 ∨ t = 2 ∨ t = 3 by omega) with rfl | rfl | rfl <;> rfl
  have hk := k H1 locs lsA (by rw [z1, h1]; omega) g1 (S_grow h3 z1 o1) h4
  have ha : e_v B sp (.inr (.inr (.inl (some (f, i))))) = .ref (B + n) := by
    show Value.ref (e_ad B (f, i)) = _
    rw [← hnm, nm_ad hn]
  rw [List.map_cons, ha, show n + 1 - c0 = n - c0 + 1 by omega, show e_sz (n + 1) - e_sz c0 = e_sz n - e_sz c0 + fln f by omega] at hk
  exact hk
theorem sd_anew (C : Cx p s m args meth c M) (hK : va_K D vwCl (tysL cA) s) (hc0 : c0 ≤ n) (hn : n < 284) {f i t : Nat} {q : vw_C} (hnm : nm n = (f, i)) (ht0 : 5 ≤ t) (hf : fty f = t) (hq : vwCl[t - 5]? = some q) (hl : Cond.classLink M.1.cls idx q.1 ∈ GT) (hover : va_AO q.1 s) (hd : decode M.2.1 pc = .ok (.anewarray idx, 3)) (hRc : n + 1 - c0 ≤ R.cells) (hRs : e_sz (n + 1) - e_sz c0 ≤ R.slots)
    (k : aW p l e R s m args below meth c Q D B sp cA M.2.2.1 c0 (upR I f i (fun _ => 0)) (upR L f i (fun _ => 0)) (upR rf f i (fun _ => none)) (n + 1) (pc + 3) ls (.inr (.inr (.inl (some (f, i)))) :: r)) : aW p l e R s m args below meth c Q D B sp cA M.2.2.1 c0 I L rf n pc ls (.inl (Int32.ofNat (fln f)) :: r) := by
  obtain ⟨hx, hb, hml, hown, hts, hr, hlk, hnm'⟩ := C
  intro H locs lsA h1 h2 h3 h4
  have hal : alv (n + 1) (f, i) := hnm ▸ nm_alv hn
  have h0 : fob f = 0 := hal.arr (by show 0 < fty f; omega)
  have hz := e_sz_mono hc0
  have hs1 : e_sz (n + 1) = e_sz n + fln f := by rw [e_sz_succ, hnm]
  have hsm := fln_small f hal.fam
  obtain ⟨p1, p2⟩ := ofNat_clamp hsm
  obtain ⟨q', hq', ht⟩ := tys_ob (cA := cA) (t := t) (by rw [← hf]; exact fam_ob f hal.fam (by omega))
  cases hq.symm.trans hq'
  refine W.anew hx hb hown (hts _ (GT_ws hl)) (va_AO.use hover) rfl hd rfl p1 (by rw [p2]; omega) (by omega) (by rw [p2]; omega) fun cA' kA comp f1 f2 f3 f4 => ?_
  rw [p2]
  have hcA : cA' = cA t := by
    obtain ⟨kA', comp', k1, k2, k3, k4⟩ := (hK.2 (t - 1) _ ht).2
    exact Option.some.inj (f1.symm.trans k4)
  subst hcA
  generalize hH1 : H.push ({ cls := cA t, slots := Array.replicate (fln f) .null, vm := .none } : Cell) = H1
  have z1 : H1.size = H.size + 1 := by rw [← hH1, Array.size_push]
  have e1 : H1[H.size]? = some (arrV (cA t) (fln f) (fun _ => .null)) := by rw [← hH1, Array.getElem?_push_size, ← arrV_new]
  have o1 : ∀ q : Nat, q < H.size → H1[q]? = H[q]? := fun q hq => by rw [← hH1, Array.getElem?_push, if_neg (Nat.ne_of_lt hq)]
  have g1 : va_P D vwCl (e_w B cA (upR I f i (fun _ => 0)) (upR L f i (fun _ => 0)) (upR rf f i (fun _ => none)) (n + 1)) H1 := by
    refine e_w_grow hn h2 o1 (fun x hx => ⟨upR_off I _ (hnm ▸ hx), upR_off L _ (hnm ▸ hx), upR_off rf _ (hnm ▸ hx)⟩) ?_
    rw [hnm, e_E_arrR h0 (by show 5 ≤ fty f; omega), upR_row, hf]
    show H1[B + n]? = some (vp_cell _ _)
    rw [vp_cell_q, ← h1, e1]
    rfl
  have hk := k H1 locs lsA (by rw [z1, h1]; omega) g1 (S_grow h3 z1 o1) h4
  have ha : e_v B sp (.inr (.inr (.inl (some (f, i))))) = .ref H.size := by
    show Value.ref (e_ad B (f, i)) = _
    rw [← hnm, nm_ad hn, h1]
  rw [List.map_cons, ha, show n + 1 - c0 = n - c0 + 1 by omega, show e_sz (n + 1) - e_sz c0 = e_sz n - e_sz c0 + fln f by omega] at hk
  exact hk
/-- System.arraycopy -/
theorem sd_copyI (C : Cx p s m args meth c M) (hsp : ∀ k, isRV (sp k)) (hK : va_K D vwCl (tysL cA) s) (hs0 : s.heap.size = B + c0) (hc0 : c0 ≤ n) (hn : n ≤ 284) {f i g g2 : Nat} {sp1 dp k1 : Int32} (hal : alv n (f, i)) (halg : alv n (g, g2)) (hf : fty f = 1) (hg : fty g = 1) (hr1 : ¬ (sp1 < 0 ∨ dp < 0 ∨ k1 < 0 ∨ fln f < sp1.toNatClampNeg + k1.toNatClampNeg ∨ fln g < dp.toNatClampNeg + k1.toNatClampNeg)) (hl : Cond.methodLink M.1.cls idx arraycopyName ∈ GT) (hna : Cond.native arraycopyName ∈ GT) (hst : Cond.static arraycopyName ∈ GT) (hin : Cond.initialized "java/lang/System" ∈ GT) (hR : 1 ≤ R.frames) (hRl : 38 ≤ R.locals) (hcat : a_cat r ≤ 8) (hd : decode M.2.1 pc = .ok (.invokestatic idx, 3))
    (k : aW p l e R s m args below meth c Q D B sp cA M.2.2.1 c0 (upR I g g2 (va_cpy (I f i) (I g g2) sp1.toNatClampNeg dp.toNatClampNeg k1.toNatClampNeg)) L rf n (pc + 3) ls r) : aW p l e R s m args below meth c Q D B sp cA M.2.2.1 c0 I L rf n pc ls (.inl k1 :: .inl dp :: .inr (.inr (.inl (some (g, g2)))) :: .inl sp1 :: .inr (.inr (.inl (some (f, i)))) :: r) := by
  obtain ⟨hx, hb, hml, hown, hts, hr, hlk, hnm'⟩ := C
  intro H locs lsA h1 h2 h3 h4
  have h0 : fob f = 0 := hal.arr (by show 0 < fty f; omega)
  have h0g : fob g = 0 := halg.arr (by show 0 < fty g; omega)
  have he : (e_w B cA I L rf n)[e_ps (f, i)]? = some (e_ad B (f, i), .inl (cA 1, fln f, .inl (I f i))) := by rw [e_w_at hal, e_E_arrI h0 (by omega), hf]
  have heg : (e_w B cA I L rf n)[e_ps (g, g2)]? = some (e_ad B (g, g2), .inl (cA 1, fln g, .inl (I g g2))) := by rw [e_w_at halg, e_E_arrI h0g (by omega), hg]
  refine va_copyi (D := D) hx hb (hml.trans h4.1.symm) hown (hts _ (GT_ws hl)) (hts _ (GT_ws hna)) (hts _ (GT_ws hst)) (hts _ (GT_ws hin)) hK h2 e_w_D h3 (e_ps (f, i)) (e_ps (g, g2)) 0 0 he heg rfl rfl rfl (fun q => hr1 (Or.inl q)) (fun q => hr1 (Or.inr (Or.inl q))) (fun q => hr1 (Or.inr (Or.inr (Or.inl q)))) (Nat.not_lt.mp fun q => hr1 (Or.inr (Or.inr (Or.inr (Or.inl q))))) (Nat.not_lt.mp fun q => hr1 (Or.inr (Or.inr (Or.inr (Or.inr q))))) (fun _ _ => rfl) hR ?_ hd (fun H1 locs1 g1 g2' g3 => ?_)
  · rw [a_cat_sum hsp]
    show a_cat r + (7 + 11) ≤ _
    omega
  · rw [row_set (I' := upR I g g2 (va_cpy (I f i) (I g g2) sp1.toNatClampNeg dp.toNatClampNeg k1.toNatClampNeg)) (L' := L) (rf' := rf) halg hn (by rw [e_E_arrI h0g (by omega), hg, upR_row]) (fun x hx => ⟨upR_off I _ hx, rfl, rfl⟩)] at g1
    exact W.size (fun hle => k H1 locs1 lsA (sz_of hs0 hc0 g1 g3 hle) g1 g3 h4)
theorem sd_copyL (C : Cx p s m args meth c M) (hsp : ∀ k, isRV (sp k)) (hK : va_K D vwCl (tysL cA) s) (hs0 : s.heap.size = B + c0) (hc0 : c0 ≤ n) (hn : n ≤ 284) {f i g g2 : Nat} {sp1 dp k1 : Int32} (hal : alv n (f, i)) (halg : alv n (g, g2)) (hf : fty f = 4) (hg : fty g = 4) (hr1 : ¬ (sp1 < 0 ∨ dp < 0 ∨ k1 < 0 ∨ fln f < sp1.toNatClampNeg + k1.toNatClampNeg ∨ fln g < dp.toNatClampNeg + k1.toNatClampNeg)) (hl : Cond.methodLink M.1.cls idx arraycopyName ∈ GT) (hna : Cond.native arraycopyName ∈ GT) (hst : Cond.static arraycopyName ∈ GT) (hin : Cond.initialized "java/lang/System" ∈ GT) (hR : 1 ≤ R.frames) (hRl : 38 ≤ R.locals) (hcat : a_cat r ≤ 8) (hd : decode M.2.1 pc = .ok (.invokestatic idx, 3))
    (k : aW p l e R s m args below meth c Q D B sp cA M.2.2.1 c0 I (upR L g g2 (va_cpy (L f i) (L g g2) sp1.toNatClampNeg dp.toNatClampNeg k1.toNatClampNeg)) rf n (pc + 3) ls r) : aW p l e R s m args below meth c Q D B sp cA M.2.2.1 c0 I L rf n pc ls (.inl k1 :: .inl dp :: .inr (.inr (.inl (some (g, g2)))) :: .inl sp1 :: .inr (.inr (.inl (some (f, i)))) :: r) := by
  obtain ⟨hx, hb, hml, hown, hts, hr, hlk, hnm'⟩ := C
  intro H locs lsA h1 h2 h3 h4
  have h0 : fob f = 0 := hal.arr (by show 0 < fty f; omega)
  have h0g : fob g = 0 := halg.arr (by show 0 < fty g; omega)
  have he : (e_w B cA I L rf n)[e_ps (f, i)]? = some (e_ad B (f, i), .inl (cA 4, fln f, .inr (.inl (L f i)))) := by rw [e_w_at hal, e_E_arrL h0 hf]
  have heg : (e_w B cA I L rf n)[e_ps (g, g2)]? = some (e_ad B (g, g2), .inl (cA 4, fln g, .inr (.inl (L g g2)))) := by rw [e_w_at halg, e_E_arrL h0g hg]
  refine va_copyl (D := D) hx hb (hml.trans h4.1.symm) hown (hts _ (GT_ws hl)) (hts _ (GT_ws hna)) (hts _ (GT_ws hst)) (hts _ (GT_ws hin)) hK h2 e_w_D h3 (e_ps (f, i)) (e_ps (g, g2)) 3 3 he heg rfl rfl rfl (fun q => hr1 (Or.inl q)) (fun q => hr1 (Or.inr (Or.inl q))) (fun q => hr1 (Or.inr (Or.inr (Or.inl q)))) (Nat.not_lt.mp fun q => hr1 (Or.inr (Or.inr (Or.inr (Or.inl q))))) (Nat.not_lt.mp fun q => hr1 (Or.inr (Or.inr (Or.inr (Or.inr q))))) (fun _ _ => rfl) hR ?_ hd (fun H1 locs1 g1 g2' g3 => ?_)
  · rw [a_cat_sum hsp]
    show a_cat r + (7 + 11) ≤ _
    omega
  · rw [row_set (I' := I) (L' := upR L g g2 (va_cpy (L f i) (L g g2) sp1.toNatClampNeg dp.toNatClampNeg k1.toNatClampNeg)) (rf' := rf) halg hn (by rw [e_E_arrL h0g hg, upR_row]) (fun x hx => ⟨rfl, upR_off L _ hx, rfl⟩)] at g1
    exact W.size (fun hle => k H1 locs1 lsA (sz_of hs0 hc0 g1 g3 hle) g1 g3 h4)
end
