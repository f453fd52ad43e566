section
variable {p : Program} {l : Launch} {e : Env} {R : Room} {s : State} {m : MethodId} {args : Array Value} {below : List Frame} {meth : Method} {c : Code} {Q : State → Prop}
variable {D : va_G} {B : Nat} {sp : Nat → Value} {cA : Nat → ClassId} {c0 n : Nat} {I : A3 Int32} {L : A3 Int64} {rf : A3 (Option AR)} {M : MT} {pc : Nat} {ls : List (Option AV)} {r : List AV}
theorem tys_at {t : Nat} (h : 0 < t) (h2 : t ≤ 4) : (tysL cA)[t - 1]? = some (cA t, if t = 1 then .int else if t = 2 then .byte else if t = 3 then .boolean else .long) := by
  rcases (show t = 1 ∨ t = 2 ∨ t = 3 ∨ t = 4 by omega) with rfl | rfl | rfl | rfl <;> rfl
theorem tys_ob {t : Nat} (h : t = 5 ∨ t = 6 ∨ t = 10 ∨ t = 11 ∨ t = 14) : ∃ q, vwCl[t - 5]? = some q ∧ (tysL cA)[t - 1]? = some (cA t, .object q.1) := by
  rcases h with rfl | rfl | rfl | rfl | rfl <;> exact ⟨_, rfl, rfl⟩
theorem vp_of {j : Int32} {k : Nat} (h : ¬ aout j k) : vp_in j k := h
/-- an int row is read -/
theorem sd_iald (C : Cx p s m args meth c M) (hK : va_K D vwCl (tysL cA) s) {f i : Nat} {j : Int32} (hal : alv n (f, i)) (hf : fty f = 1) (hj : ¬ aout j (fln f)) (hd : decode M.2.1 pc = .ok (.iaload, 1))
    (k : aW p l e R s m args below meth c Q D B sp cA M.2.2.1 c0 I L rf n (pc + 1) ls (.inl (I f i j.toNatClampNeg) :: r)) : aW p l e R s m args below meth c Q D B sp cA M.2.2.1 c0 I L rf n pc ls (.inl j :: .inr (.inr (.inl (some (f, i)))) :: r) := by
  obtain ⟨hx, hb, hml, hown, hts, hr, hlk, hnm⟩ := C
  intro H locs lsA h1 h2 h3 h4
  have he : (e_w B cA I L rf n)[e_ps (f, i)]? = some (e_ad B (f, i), .inl (cA 1, fln f, .inl (I f i))) := by rw [e_w_at hal, e_E_arrI (hal.arr (by show 0 < fty f; omega)) (by show fty f < 4; omega), hf]
  exact va_iald (D := D) hx hb hK h2 (e_ps (f, i)) 0 he rfl (vp_of hj) hd (k H locs lsA h1 h2 h3 h4)
theorem sd_bald (C : Cx p s m args meth c M) (hK : va_K D vwCl (tysL cA) s) {f i : Nat} {j : Int32} (hal : alv n (f, i)) (hf : fty f = 2 ∨ fty f = 3) (hj : ¬ aout j (fln f)) (hd : decode M.2.1 pc = .ok (.baload, 1))
    (k : aW p l e R s m args below meth c Q D B sp cA M.2.2.1 c0 I L rf n (pc + 1) ls (.inl (I f i j.toNatClampNeg) :: r)) : aW p l e R s m args below meth c Q D B sp cA M.2.2.1 c0 I L rf n pc ls (.inl j :: .inr (.inr (.inl (some (f, i)))) :: r) := by
  obtain ⟨hx, hb, hml, hown, hts, hr, hlk, hnm⟩ := C
  intro H locs lsA h1 h2 h3 h4
  have he : (e_w B cA I L rf n)[e_ps (f, i)]? = some (e_ad B (f, i), .inl (cA (fty f), fln f, .inl (I f i))) := by rw [e_w_at hal, e_E_arrI (hal.arr (by show 0 < fty f; omega)) (by show fty f < 4; omega)]
  rcases hf with hf | hf
  · rw [hf] at he
    exact va_bald (D := D) hx hb hK h2 (e_ps (f, i)) 1 he rfl (vp_of hj) hd (k H locs lsA h1 h2 h3 h4)
  · rw [hf] at he
    exact va_zald (D := D) hx hb hK h2 (e_ps (f, i)) 2 he rfl (vp_of hj) hd (k H locs lsA h1 h2 h3 h4)
theorem sd_lald (C : Cx p s m args meth c M) (hK : va_K D vwCl (tysL cA) s) {f i : Nat} {j : Int32} (hal : alv n (f, i)) (hf : fty f = 4) (hj : ¬ aout j (fln f)) (hd : decode M.2.1 pc = .ok (.laload, 1))
    (k : aW p l e R s m args below meth c Q D B sp cA M.2.2.1 c0 I L rf n (pc + 1) ls (.inr (.inl (L f i j.toNatClampNeg)) :: r)) : aW p l e R s m args below meth c Q D B sp cA M.2.2.1 c0 I L rf n pc ls (.inl j :: .inr (.inr (.inl (some (f, i)))) :: r) := by
  obtain ⟨hx, hb, hml, hown, hts, hr, hlk, hnm⟩ := C
  intro H locs lsA h1 h2 h3 h4
  have he : (e_w B cA I L rf n)[e_ps (f, i)]? = some (e_ad B (f, i), .inl (cA 4, fln f, .inr (.inl (L f i)))) := by rw [e_w_at hal, e_E_arrL (hal.arr (by show 0 < fty f; omega)) hf]
  exact va_lald (D := D) hx hb hK h2 (e_ps (f, i)) 3 he rfl (vp_of hj) hd (k H locs lsA h1 h2 h3 h4)
theorem sd_aald (C : Cx p s m args meth c M) (hK : va_K D vwCl (tysL cA) s) {f i : Nat} {j : Int32} (hal : alv n (f, i)) (hf : 5 ≤ fty f) (hj : ¬ aout j (fln f)) (hd : decode M.2.1 pc = .ok (.aaload, 1))
    (k : aW p l e R s m args below meth c Q D B sp cA M.2.2.1 c0 I L rf n (pc + 1) ls (.inr (.inr (.inl (rf f i j.toNatClampNeg))) :: r)) : aW p l e R s m args below meth c Q D B sp cA M.2.2.1 c0 I L rf n pc ls (.inl j :: .inr (.inr (.inl (some (f, i)))) :: r) := by
  obtain ⟨hx, hb, hml, hown, hts, hr, hlk, hnm⟩ := C
  intro H locs lsA h1 h2 h3 h4
  have he : (e_w B cA I L rf n)[e_ps (f, i)]? = some (e_ad B (f, i), .inl (cA (fty f), fln f, .inr (.inr (.inr (.inr (fun j => (rf f i j).map (e_ad B))))))) := by rw [e_w_at hal, e_E_arrR (hal.arr (by show 0 < fty f; omega)) hf]
  obtain ⟨q, -, ht⟩ := tys_ob (cA := cA) (fam_ob f hal.fam hf)
  exact va_aldq (D := D) hx hb hK h2 (e_ps (f, i)) (fty f - 1) he ht (vp_of hj) hd (k H locs lsA h1 h2 h3 h4)
theorem sd_alen (C : Cx p s m args meth c M) (hK : va_K D vwCl (tysL cA) s) {f i : Nat} (hal : alv n (f, i)) (hf : 0 < fty f) (hd : decode M.2.1 pc = .ok (.arraylength, 1))
    (k : aW p l e R s m args below meth c Q D B sp cA M.2.2.1 c0 I L rf n (pc + 1) ls (.inl (Int32.ofNat (fln f)) :: r)) : aW p l e R s m args below meth c Q D B sp cA M.2.2.1 c0 I L rf n pc ls (.inr (.inr (.inl (some (f, i)))) :: r) := by
  obtain ⟨hx, hb, hml, hown, hts, hr, hlk, hnm⟩ := C
  intro H locs lsA h1 h2 h3 h4
  have h0 := hal.arr hf
  have h14 := (fam_ok f hal.fam).2.1
  have he := e_w_at (B := B) (cA := cA) (I := I) (L := L) (rf := rf) hal
  by_cases h5 : fty f < 4
  · rw [e_E_arrI h0 h5] at he
    exact va_alen (D := D) hx hb hK h2 (e_ps (f, i)) (fty f - 1) he (tys_at hf (by omega)) rfl hd (k H locs lsA h1 h2 h3 h4)
  · by_cases h6 : fty f = 4
    · rw [e_E_arrL h0 h6] at he
      exact va_alen (D := D) hx hb hK h2 (e_ps (f, i)) 3 he rfl rfl hd (k H locs lsA h1 h2 h3 h4)
    · rw [e_E_arrR h0 (by show 5 ≤ fty f; omega)] at he
      obtain ⟨q, -, ht⟩ := tys_ob (cA := cA) (fam_ob f hal.fam (by omega))
      exact va_alen (D := D) hx hb hK h2 (e_ps (f, i)) (fty f - 1) he ht rfl hd (k H locs lsA h1 h2 h3 h4)
/-- one row changes -/
theorem row_set {I' : A3 Int32} {L' : A3 Int64} {rf' : A3 (Option AR)} {f i : Nat} {E : va_E} (hal : alv n (f, i)) (hn : n ≤ 284) (hE : e_E B cA I' L' rf' (f, i) = E) (hout : ∀ x : AR, x ≠ (f, i) → I' x.1 x.2 = I x.1 x.2 ∧ L' x.1 x.2 = L x.1 x.2 ∧ rf' x.1 x.2 = rf x.1 x.2) : (e_w B cA I L rf n).set (e_ps (f, i)) (e_ad B (f, i), E) = e_w B cA I' L' rf' n := by
  rw [← e_w_set hal hn (I' := I') (L' := L') (rf' := rf') (fun x hx => e_E_congr (hout x hx).1 (hout x hx).2.1 (hout x hx).2.2), hE]
theorem upd_up3 (F : A3 Int32) (f i j : Nat) (v : Int32) : upd (F f i) j v = up3 F f i j v f i := by
  rw [up3_row]; rfl
theorem updL_up3 (F : A3 Int64) (f i j : Nat) (v : Int64) : vp_updL (F f i) j v = up3 F f i j v f i := by
  rw [up3_row]; rfl
end
