theorem GT_at (i : Nat) {w : Cond} (h : tables_1[i]? = some w) (hg : goodWord w = true) : w ∈ GT := by
  unfold GT
  refine List.mem_filter.mpr ⟨?_, hg⟩
  unfold lw_tbl
  exact List.mem_append_right _ (List.mem_of_getElem? h)
theorem tw_native : (Jvm.Cond.native ({ cls := "java/lang/System", name := "arraycopy", desc := "(Ljava/lang/Object;ILjava/lang/Object;II)V" } : Jvm.MethodName)) ∈ GT := GT_at 554 (by decide +kernel) (by decide +kernel)
theorem tw_arrayClass : (Jvm.Cond.arrayClass Jvm.ClassFile.FieldType.byte) ∈ GT := GT_at 45 (by decide +kernel) (by decide +kernel)
theorem tw_constant : (Jvm.Cond.constant "CoachAhead$Tokens" (42 : Nat) (1000000 : Int32)) ∈ GT := GT_at 376 (by decide +kernel) (by decide +kernel)
theorem tw_constantLong : (Jvm.Cond.constantLong "CoachAhead$Draws" (13 : Nat) (1103515245 : Int64)) ∈ GT := GT_at 1181 (by decide +kernel) (by decide +kernel)
theorem tw_selects : (Jvm.Cond.selects "CoachAhead" ({ cls := "CoachAhead", name := "feed", desc := "(IIIII)I" } : Jvm.MethodName) ({ cls := "CoachAhead", name := "feed", desc := "(IIIII)I" } : Jvm.MethodName)) ∈ GT := GT_at 336 (by decide +kernel) (by decide +kernel)
theorem tw_static : (Jvm.Cond.static ({ cls := "java/util/Arrays", name := "fill", desc := "([II)V" } : Jvm.MethodName)) ∈ GT := GT_at 363 (by decide +kernel) (by decide +kernel)
theorem tw_initialized : (Jvm.Cond.initialized "CoachAheadLaw") ∈ GT := GT_at 0 (by decide +kernel) (by decide +kernel)
theorem tw_instantiable : (Jvm.Cond.instantiable "CoachAhead" (14 : Nat)) ∈ GT := GT_at 22 (by decide +kernel) (by decide +kernel)
theorem tw_classLink : (Jvm.Cond.classLink "CoachAheadLaw" (7 : Nat) "CoachAhead") ∈ GT := GT_at 21 (by decide +kernel) (by decide +kernel)
theorem tw_lays : (Jvm.Cond.lays "CoachAhead$Tape" "CoachAhead$Tape" "size" "I") ∈ GT := GT_at 42 (by decide +kernel) (by decide +kernel)
theorem tw_laysFinal : (Jvm.Cond.laysFinal "CoachAhead$Tape" "CoachAhead$Tape" "bytes" "[B") ∈ GT := GT_at 40 (by decide +kernel) (by decide +kernel)
theorem tw_instanceMethod : (Jvm.Cond.instanceMethod ({ cls := "CoachAhead", name := "<init>", desc := "()V" } : Jvm.MethodName)) ∈ GT := GT_at 24 (by decide +kernel) (by decide +kernel)
theorem tw_fieldLink : (Jvm.Cond.fieldLink "CoachAhead$Tape" (9 : Nat) "CoachAhead$Tape" "bytes" "[B") ∈ GT := GT_at 35 (by decide +kernel) (by decide +kernel)
theorem tw_methodLink : (Jvm.Cond.methodLink "CoachAheadLaw" (9 : Nat) ({ cls := "CoachAhead", name := "<init>", desc := "()V" } : Jvm.MethodName)) ∈ GT := GT_at 23 (by decide +kernel) (by decide +kernel)
