theorem cI_toInt {v : Int} (h1 : -2000 ≤ v) (h2 : v ≤ 2000) : (cI v).toInt = v := by
  cases v with
  | ofNat n =>
    have h2 : (n : Int) ≤ 2000 := h2
    show (nI n).toInt = _
    rw [nI_toInt (by omega)]
    rfl
  | negSucc n =>
    show (-nI (n + 1)).toInt = _
    rw [sb_negT (by omega)]
    omega
theorem a_sw_inv {α : Type} {x : Int32} {d : Nat} {f : Nat → Option α} {r : α} : ∀ (ts : List Nat) (lo : Int), a_sw x lo ts d f = some r → (∃ (i t : Nat), ts[i]? = some t ∧ x = cI (lo + i) ∧ f t = some r) ∨ ((∀ i : Nat, i < ts.length → x ≠ cI (lo + i)) ∧ f d = some r) := by
  intro ts
  induction ts with
  | nil => intro lo h; exact Or.inr ⟨fun i hi => absurd hi (Nat.not_lt_zero i), h⟩
  | cons t ts ih =>
    intro lo h
    have h : (if x = cI lo then f t else a_sw x (lo + 1) ts d f) = some r := h
    split at h
    · rename_i hx
      exact Or.inl ⟨0, t, rfl, by rw [hx]; congr 1; omega, h⟩
    · rename_i hx
      rcases ih (lo + 1) h with ⟨i, t', h1, h2, h3⟩ | ⟨h1, h2⟩
      · exact Or.inl ⟨i + 1, t', h1, by rw [h2]; congr 1; omega, h3⟩
      · refine Or.inr ⟨fun i hi => ?_, h2⟩
        cases i with
        | zero => intro e; exact hx (by rw [e]; congr 1; omega)
        | succ i =>
          have := h1 i (by rw [List.length_cons] at hi; omega)
          intro e
          exact this (by rw [e]; congr 1; omega)
section
variable {p : Program} {l : Launch} {e : Env} {R : Room} {s : State} {m : MethodId} {args : Array Value} {below : List Frame} {meth : Method} {c : Code} {Q : State → Prop}
variable {D : va_G} {B : Nat} {sp : Nat → Value} {cA : Nat → ClassId} {c0 n : Nat} {I : A3 Int32} {L : A3 Int64} {rf : A3 (Option AR)} {M : MT} {pc : Nat} {ls : List (Option AV)} {r : List AV}
theorem sd_sw (C : Cx p s m args meth c M) {df lo hi : Int} {offs : Array Int} {x : Int32} {d : Nat} {ts : List Nat} {len : Nat} (hd : decode M.2.1 pc = .ok (.tableswitch df lo hi offs, len)) (ho : okSw pc df lo hi offs (d :: ts)) {T : Nat} (hT : (∃ i : Nat, ts[i]? = some T ∧ x = cI (lo + i)) ∨ ((∀ i : Nat, i < ts.length → x ≠ cI (lo + i)) ∧ T = d))
    (k : aW p l e R s m args below meth c Q D B sp cA M.2.2.1 c0 I L rf n T ls r) : aW p l e R s m args below meth c Q D B sp cA M.2.2.1 c0 I L rf n pc ls (.inl x :: r) := by
  obtain ⟨hx, hb, hml, hown, hts, hr, hlk, hnm⟩ := C
  intro H locs lsA h1 h2 h3 h4
  obtain ⟨o1, o2, o3, o4, o5, o6⟩ := ho d ts rfl
  rcases hT with ⟨i, hi1, hi2⟩ | ⟨hi1, rfl⟩
  · have hil : i < ts.length := (List.getElem?_eq_some_iff.mp hi1).1
    have hxi : x.toInt = lo + i := by rw [hi2]; exact cI_toInt (by omega) (by omega)
    obtain ⟨off, of1, of2⟩ := o6 i T hi1
    exact lv_tableIn hx hb hd (by omega) (by omega) (by rw [hxi, show (lo + (i : Int) - lo).toNat = i by omega]; exact of1) of2 (k H locs lsA h1 h2 h3 h4)
  · refine lv_tableOut hx hb hd ?_ o1 (k H locs lsA h1 h2 h3 h4)
    by_cases hlo : x.toInt < lo
    · exact Or.inl hlo
    · by_cases hhi : hi < x.toInt
      · exact Or.inr hhi
      · exfalso
        have hlt : (x.toInt - lo).toNat < ts.length := by omega
        refine hi1 _ hlt (Int32.toInt_inj.mp ?_)
        rw [cI_toInt (by omega) (by omega)]
        omega
theorem sd_ldc (C : Cx p s m args meth c M) {idx : Nat} {v : Int32} (hl : Cond.constant M.1.cls idx v ∈ GT) (hd : decode M.2.1 pc = .ok (.ldc idx, 2)) (k : aW p l e R s m args below meth c Q D B sp cA M.2.2.1 c0 I L rf n (pc + 2) ls (.inl v :: r)) : aW p l e R s m args below meth c Q D B sp cA M.2.2.1 c0 I L rf n pc ls r := by
  obtain ⟨hx, hb, hml, hown, hts, hr, hlk, hnm⟩ := C
  intro H locs lsA h1 h2 h3 h4
  exact lv_ldc hx hb hown (hts _ (GT_ws hl)) hd (k H locs lsA h1 h2 h3 h4)
theorem sd_ldcw (C : Cx p s m args meth c M) {idx : Nat} {v : Int32} (hl : Cond.constant M.1.cls idx v ∈ GT) (hd : decode M.2.1 pc = .ok (.ldc_w idx, 3)) (k : aW p l e R s m args below meth c Q D B sp cA M.2.2.1 c0 I L rf n (pc + 3) ls (.inl v :: r)) : aW p l e R s m args below meth c Q D B sp cA M.2.2.1 c0 I L rf n pc ls r := by
  obtain ⟨hx, hb, hml, hown, hts, hr, hlk, hnm⟩ := C
  intro H locs lsA h1 h2 h3 h4
  exact lv_ldcw hx hb hown (hts _ (GT_ws hl)) hd (k H locs lsA h1 h2 h3 h4)
theorem sd_ldc2 (C : Cx p s m args meth c M) {idx : Nat} {v : Int64} (hl : Cond.constantLong M.1.cls idx v ∈ GT) (hd : decode M.2.1 pc = .ok (.ldc2_w idx, 3)) (k : aW p l e R s m args below meth c Q D B sp cA M.2.2.1 c0 I L rf n (pc + 3) ls (.inr (.inl v) :: r)) : aW p l e R s m args below meth c Q D B sp cA M.2.2.1 c0 I L rf n pc ls r := by
  obtain ⟨hx, hb, hml, hown, hts, hr, hlk, hnm⟩ := C
  intro H locs lsA h1 h2 h3 h4
  exact lv_ldc2 hx hb hown (hts _ (GT_ws hl)) hd (k H locs lsA h1 h2 h3 h4)
end
