/-! the special objects: texts, static rows, the script, the formatter; the words that are no common ones -/
def txS : List String := ["train", "coaches", "minutes", "every", "fare", "fine", "coach", "people", "loo", "doors", "inspector", "at", "up", "down", "pace", "knocks", "turns", "rider", "in", "stay", "forward", "round", "sees", "looks", "ticket", "day", "odds"]
def srL : List (String × Nat × Nat) := [(RX11, 177, 7), (RX11, 186, 8), (RX11, 188, 9), (RX11, 190, 11), (RX11, 191, 12), (RX11, 193, 13), (RX11, 195, 14), (RX11, 197, 15), (RX11, 198, 16), (RX11, 200, 19), (RX11, 202, 20), (RX11, 204, 21), (RX11, 206, 18), (RX11, 210, 22), (RX11, 212, 23), (RX11, 214, 24), (RX11, 216, 6), (RX11, 218, 10), (RX11, 220, 17), (RX11, 222, 25), (RX11, 233, 26), (RX11, 235, 0), (RX11, 237, 1), (RX11, 239, 2), (RX11, 241, 3), (RX11, 243, 4), (RX11, 245, 5), (RX4, 51, 6), (RX4, 60, 10), (RX4, 65, 17), (RX4, 70, 25), (RX4, 79, 0), (RX4, 102, 1), (RX4, 104, 2), (RX4, 106, 3), (RX4, 108, 4), (RX4, 110, 5), (RX4, 115, 7), (RX4, 117, 8), (RX4, 122, 9), (RX4, 131, 11), (RX4, 136, 14), (RX4, 138, 15), (RX4, 140, 16), (RX4, 158, 18), (RX4, 163, 22), (RX4, 165, 23), (RX4, 167, 24), (RX4, 172, 26), (RX4, 176, 12), (RX4, 178, 13), (RX4, 184, 19), (RX4, 188, 20), (RX4, 190, 21)]
def nestL : List (Nat × MethodName) := [(11, yX7_init), (27, yX9_init), (45, yX1_init), (76, yX2_init), (87, yX6_init)]
def aoL : List String := [RX9, RX1, RX5, RX0, RX6]
def e_sp (spa : Nat → Nat) (v4 : Value) (k : Nat) : Value := if k = 400 then v4 else .ref (spa k)
def SPf (B : Nat) (X : AX) (spa : Nat → Nat) (v4 : Value) (U : State) (H : Heap) : Prop :=
  vk_S 27 (txL.map List.length) txL spa (fun k => spa (100 + k)) (fun q => B ≤ q) U H ∧
  va_T .int (spa 200) 5 (fun j => .int (sp_v X 200 j)) (fun q => B ≤ q) U H ∧ va_T .int (spa 201) 5 (fun j => .int (sp_v X 201 j)) (fun q => B ≤ q) U H ∧ va_T .int (spa 300) X.1 (fun j => .int (X.2 j)) (fun q => B ≤ q) U H ∧
  va_Z "CoachAhead$Reader" "HEAD_LEAST" "[I" (.ref (spa 200)) (fun q => B ≤ q) U H ∧ va_Z "CoachAhead$Reader" "HEAD_MOST" "[I" (.ref (spa 201)) (fun q => B ≤ q) U H ∧ va_Z "java/lang/String" "COMPACT_STRINGS" "Z" (.int 1) (fun q => B ≤ q) U H ∧ va_Z "jdk/internal/util/Preconditions" "SIOOBE_FORMATTER" "Ljava/util/function/BiFunction;" v4 (fun q => B ≤ q) U H ∧
  (∀ q ∈ srL, vk_R q.1 q.2.1 (txS.getD q.2.2 "") (spa q.2.2) U) ∧ (∀ q ∈ nestL, va_Nw (.methodLinkNest RX10 q.1 q.2 RX10) U) ∧ (∀ q ∈ aoL, va_AO q U)
theorem SPf.kept {B : Nat} {X : AX} {spa : Nat → Nat} {v4 : Value} {U : State} {H H1 : Heap} (h : SPf B X spa v4 U H) (hq : ∀ a : Nat, a < H.size → ¬ B ≤ a → H1[a]? = H[a]?) : SPf B X spa v4 U H1 := by
  obtain ⟨a1, a2, a3, a4, a5, a6, a7, a8, a9, a10, a11⟩ := h
  exact ⟨a1.kept hq, a2.kept hq, a3.kept hq, a4.kept hq, a5.kept hq, a6.kept hq, a7.kept hq, a8.kept hq, a9, a10, a11⟩
theorem SPf.warm {B : Nat} {X : AX} {spa : Nat → Nat} {v4 : Value} {s U : State} {H : Heap} (hW : s.WarmedH U.vm) (h : SPf B X spa v4 s H) : SPf B X spa v4 U H := by
  obtain ⟨a1, a2, a3, a4, a5, a6, a7, a8, a9, a10, a11⟩ := h
  have hv := hW.alike
  exact ⟨a1.moved hv, a2.moved hv, a3.moved hv, a4.moved hv, a5.moved hv, a6.moved hv, a7.moved hv, a8.moved hv, fun q hq => (a9 q hq).warm hW, fun q hq => (a10 q hq).warmM hW, fun q hq => (a11 q hq).moved hv⟩
theorem SPf.blind {B : Nat} {X : AX} {spa : Nat → Nat} {v4 : Value} (U : State) (g : JFrame) (mk : MethodId) (a : Array Value) (h : SPf B X spa v4 U U.heap) : SPf B X spa v4 (U.calling g mk a) U.heap := by
  obtain ⟨a1, a2, a3, a4, a5, a6, a7, a8, a9, a10, a11⟩ := h
  have hv : U.vm.Alike (U.calling g mk a).vm := Vm.Alike.refl U.vm
  exact ⟨a1.moved hv, a2.moved hv, a3.moved hv, a4.moved hv, a5.moved hv, a6.moved hv, a7.moved hv, a8.moved hv, fun q hq => (a9 q hq).same rfl, fun q hq => a10 q hq, fun q hq => (a11 q hq).moved hv⟩
def spv (k : Nat) : Prop := k < 27 ∨ (100 ≤ k ∧ k < 127) ∨ k = 200 ∨ k = 201 ∨ k = 300 ∨ k = 400
section
variable {p : Program} {l : Launch} {e : Env} {R : Room} {s : State} {m : MethodId} {args : Array Value} {below : List Frame} {meth : Method} {c : Code} {Q : State → Prop}
variable {D : va_G} {B : Nat} {cA : Nat → ClassId} {c0 n : Nat} {I : A3 Int32} {L : A3 Int64} {rf : A3 (Option AR)} {M : MT} {pc idx : Nat} {ls : List (Option AV)} {r : List AV} {X : AX} {spa : Nat → Nat} {v4 : Value}
theorem tx_len (i : Nat) : (txL.map List.length).getD i 0 = (txL.getD i []).length := by
  rw [List.getD_eq_getElem?_getD, List.getD_eq_getElem?_getD, List.getElem?_map]
  cases txL[i]? <;> rfl
theorem sd_sval (C : Cx p s m args meth c M) (hSP : SPf B X spa v4 s s.heap) {q : Nat} (hq : spv q) (hq1 : q < 100) (hl : Cond.fieldLink M.1.cls idx "java/lang/String" "value" "[B" ∈ GT) (hd : decode M.2.1 pc = .ok (.getfield idx, 3))
    (k : aW p l e R s m args below meth c Q D B (e_sp spa v4) cA M.2.2.1 c0 I L rf n (pc + 3) ls (.inr (.inr (.inr (100 + q))) :: r)) : aW p l e R s m args below meth c Q D B (e_sp spa v4) cA M.2.2.1 c0 I L rf n pc ls (.inr (.inr (.inr q)) :: r) := by
  obtain ⟨hx, hb, hml, hown, hts, hr, hlk, hnm⟩ := C
  intro H locs lsA h1 h2 h3 h4
  have hq27 : q < 27 := by rcases hq with h | ⟨h, _⟩ | h | h | h | h <;> omega
  have e1 : e_v B (e_sp spa v4) (.inr (.inr (.inr q))) = .ref (spa q) := by show e_sp spa v4 q = _; unfold e_sp; rw [if_neg (by omega)]
  have e2 : e_v B (e_sp spa v4) (.inr (.inr (.inr (100 + q)))) = .ref (spa (100 + q)) := by show e_sp spa v4 (100 + q) = _; unfold e_sp; rw [if_neg (by omega)]
  have hk := k H locs lsA h1 h2 h3 h4
  rw [List.map_cons, e2] at hk
  rw [List.map_cons, e1]
  exact vk_getf hx hb (hSP.1.1 q hq27).2.2.1 h3 hown (hts _ (GT_ws hl)) (fun _ h9 => h9) hd hk
theorem sd_scod (C : Cx p s m args meth c M) (hSP : SPf B X spa v4 s s.heap) {q : Nat} (hq : spv q) (hq1 : q < 100) (hl : Cond.fieldLink M.1.cls idx "java/lang/String" "coder" "B" ∈ GT) (hd : decode M.2.1 pc = .ok (.getfield idx, 3))
    (k : aW p l e R s m args below meth c Q D B (e_sp spa v4) cA M.2.2.1 c0 I L rf n (pc + 3) ls (.inl 0 :: r)) : aW p l e R s m args below meth c Q D B (e_sp spa v4) cA M.2.2.1 c0 I L rf n pc ls (.inr (.inr (.inr q)) :: r) := by
  obtain ⟨hx, hb, hml, hown, hts, hr, hlk, hnm⟩ := C
  intro H locs lsA h1 h2 h3 h4
  have hq27 : q < 27 := by rcases hq with h | ⟨h, _⟩ | h | h | h | h <;> omega
  have e1 : e_v B (e_sp spa v4) (.inr (.inr (.inr q))) = .ref (spa q) := by show e_sp spa v4 q = _; unfold e_sp; rw [if_neg (by omega)]
  rw [List.map_cons, e1]
  exact vk_getf hx hb (hSP.1.1 q hq27).2.1 h3 hown (hts _ (GT_ws hl)) (fun _ h9 => h9) hd (k H locs lsA h1 h2 h3 h4)
/-- the rows among them: type, length, contents -/
theorem sp_row (hSP : SPf B X spa v4 s s.heap) {q : Nat} (hq : spv q) (h1 : 100 ≤ q) (h4 : q < 400) : (q < 200 → va_T .byte (spa q) (sp_n X q) (fun j => .int (sp_v X q j)) (fun q => B ≤ q) s s.heap) ∧ (200 ≤ q → va_T .int (spa q) (sp_n X q) (fun j => .int (sp_v X q j)) (fun q => B ≤ q) s s.heap) := by
  obtain ⟨a1, a2, a3, a4, -⟩ := hSP
  constructor
  · intro h
    have h5 : 100 ≤ q ∧ q < 127 := by rcases hq with h | h | h | h | h | h <;> first | exact h | omega
    obtain ⟨i, rfl⟩ : ∃ i, q = 100 + i := ⟨q - 100, by omega⟩
    have h6 := (a1.1 i (by omega)).2.2.2
    rw [tx_len] at h6
    have e1 : sp_n X (100 + i) = (txL.getD i []).length := by unfold sp_n; rw [if_neg (by omega), if_pos (by omega), show 100 + i - 100 = i by omega]
    have e2 : (fun j => Value.int (sp_v X (100 + i) j)) = fun j => Value.int ((txL.getD i []).getD j 0) := by
      funext j; unfold sp_v; rw [if_neg (by omega), if_neg (by omega), if_neg (by omega), show 100 + i - 100 = i by omega]
    rw [e1, e2]
    exact h6
  · intro h
    rcases (show q = 200 ∨ q = 201 ∨ q = 300 by rcases hq with h | h | h | h | h | h <;> omega) with rfl | rfl | rfl
    · exact a2
    · exact a3
    · exact a4
theorem sd_spld (C : Cx p s m args meth c M) (hSP : SPf B X spa v4 s s.heap) {q : Nat} {j : Int32} (hq : spv q) (hq1 : 200 ≤ q) (hq4 : q < 400) (hj : ¬ aout j (sp_n X q)) (hd : decode M.2.1 pc = .ok (.iaload, 1))
    (k : aW p l e R s m args below meth c Q D B (e_sp spa v4) cA M.2.2.1 c0 I L rf n (pc + 1) ls (.inl (sp_v X q j.toNatClampNeg) :: r)) : aW p l e R s m args below meth c Q D B (e_sp spa v4) cA M.2.2.1 c0 I L rf n pc ls (.inl j :: .inr (.inr (.inr q)) :: r) := by
  obtain ⟨hx, hb, hml, hown, hts, hr, hlk, hnm⟩ := C
  intro H locs lsA h1 h2 h3 h4
  have e1 : e_v B (e_sp spa v4) (.inr (.inr (.inr q))) = .ref (spa q) := by show e_sp spa v4 q = _; unfold e_sp; rw [if_neg (by omega)]
  rw [List.map_cons, List.map_cons, e1]
  exact va_ti hx hb ((sp_row hSP hq (by omega) hq4).2 hq1) h3 (vp_of hj) rfl hd (k H locs lsA h1 h2 h3 h4)
theorem sd_sbld (C : Cx p s m args meth c M) (hSP : SPf B X spa v4 s s.heap) {q : Nat} {j : Int32} (hq : spv q) (hq1 : 100 ≤ q) (hq4 : q < 200) (hj : ¬ aout j (sp_n X q)) (hd : decode M.2.1 pc = .ok (.baload, 1))
    (k : aW p l e R s m args below meth c Q D B (e_sp spa v4) cA M.2.2.1 c0 I L rf n (pc + 1) ls (.inl (sp_v X q j.toNatClampNeg) :: r)) : aW p l e R s m args below meth c Q D B (e_sp spa v4) cA M.2.2.1 c0 I L rf n pc ls (.inl j :: .inr (.inr (.inr q)) :: r) := by
  obtain ⟨hx, hb, hml, hown, hts, hr, hlk, hnm⟩ := C
  intro H locs lsA h1 h2 h3 h4
  have e1 : e_v B (e_sp spa v4) (.inr (.inr (.inr q))) = .ref (spa q) := by show e_sp spa v4 q = _; unfold e_sp; rw [if_neg (by omega)]
  rw [List.map_cons, List.map_cons, e1]
  exact va_tb hx hb ((sp_row hSP hq (by omega) (by omega)).1 hq4) h3 (vp_of hj) rfl hd (k H locs lsA h1 h2 h3 h4)
theorem sd_slen (C : Cx p s m args meth c M) (hSP : SPf B X spa v4 s s.heap) {q : Nat} (hq : spv q) (hq1 : 100 ≤ q) (hq4 : q < 400) (hd : decode M.2.1 pc = .ok (.arraylength, 1))
    (k : aW p l e R s m args below meth c Q D B (e_sp spa v4) cA M.2.2.1 c0 I L rf n (pc + 1) ls (.inl (Int32.ofNat (sp_n X q)) :: r)) : aW p l e R s m args below meth c Q D B (e_sp spa v4) cA M.2.2.1 c0 I L rf n pc ls (.inr (.inr (.inr q)) :: r) := by
  obtain ⟨hx, hb, hml, hown, hts, hr, hlk, hnm⟩ := C
  intro H locs lsA h1 h2 h3 h4
  have e1 : e_v B (e_sp spa v4) (.inr (.inr (.inr q))) = .ref (spa q) := by show e_sp spa v4 q = _; unfold e_sp; rw [if_neg (by omega)]
  rw [List.map_cons, e1]
  by_cases h : q < 200
  · exact va_tlen hx hb ((sp_row hSP hq hq1 hq4).1 h) h3 rfl hd (k H locs lsA h1 h2 h3 h4)
  · exact va_tlen hx hb ((sp_row hSP hq hq1 hq4).2 (by omega)) h3 rfl hd (k H locs lsA h1 h2 h3 h4)
theorem sd_ldcS (C : Cx p s m args meth c M) (hSP : SPf B X spa v4 s s.heap) {q : Nat} (hq : q < 400) (hl : (M.1.cls, idx, q) ∈ srL) (hd : decode M.2.1 pc = .ok (.ldc idx, 2))
    (k : aW p l e R s m args below meth c Q D B (e_sp spa v4) cA M.2.2.1 c0 I L rf n (pc + 2) ls (.inr (.inr (.inr q)) :: r)) : aW p l e R s m args below meth c Q D B (e_sp spa v4) cA M.2.2.1 c0 I L rf n pc ls r := by
  obtain ⟨hx, hb, hml, hown, hts, hr, hlk, hnm⟩ := C
  intro H locs lsA h1 h2 h3 h4
  have e1 : e_v B (e_sp spa v4) (.inr (.inr (.inr q))) = .ref (spa q) := by show e_sp spa v4 q = _; unfold e_sp; rw [if_neg (by omega)]
  have hk := k H locs lsA h1 h2 h3 h4
  rw [List.map_cons, e1] at hk
  exact va_ldcS hx hb hown (hSP.2.2.2.2.2.2.2.2.1 _ hl) hd hk
theorem sd_gets (C : Cx p s m args meth c M) {v : AV} {K N T : String} (hZ : va_Z K N T (e_v B (e_sp spa v4) v) (fun q => B ≤ q) s s.heap) (hl : Cond.fieldLink M.1.cls idx K N T ∈ GT) (hd : decode M.2.1 pc = .ok (.getstatic idx, 3))
    (k : aW p l e R s m args below meth c Q D B (e_sp spa v4) cA M.2.2.1 c0 I L rf n (pc + 3) ls (v :: r)) : aW p l e R s m args below meth c Q D B (e_sp spa v4) cA M.2.2.1 c0 I L rf n pc ls r := by
  obtain ⟨hx, hb, hml, hown, hts, hr, hlk, hnm⟩ := C
  intro H locs lsA h1 h2 h3 h4
  exact va_gets hx hb hZ h3 hown (hts _ (GT_ws hl)) (fun _ h9 => h9) hd (k H locs lsA h1 h2 h3 h4)
end
