/-! what the start gives: array classes, the tables' rows, the nest's links -/
theorem arr_int {args : Array Value} {s : State} (h : (Cond.arrayClass .int).before args s = true) : ∃ cA, ArrOfT s cA .int ∧ va_RA s cA .int := by
  obtain ⟨cA, kA, comp, h1, h2, h3⟩ := Cond.arrayClass_spec h
  exact ⟨cA, fun n z => ⟨(fun k h => by cases h), kA, h2, comp, h3⟩, h1⟩
theorem arr_long {args : Array Value} {s : State} (h : (Cond.arrayClass .long).before args s = true) : ∃ cA, ArrOfT s cA .long ∧ va_RA s cA .long := by
  obtain ⟨cA, kA, comp, h1, h2, h3⟩ := Cond.arrayClass_spec h
  exact ⟨cA, fun n z => ⟨(fun k h => by cases h), kA, h2, comp, h3⟩, h1⟩
theorem arr_jug {s : State} (h : va_AO RX0 s) : ∃ cA, ArrOfT s cA (.object RX0) ∧ va_RA s cA (.object RX0) := by
  obtain ⟨comp, cA, kA, h1, h2, h3, h4, h5⟩ := Cond.arrayOver_spec h
  exact ⟨cA, fun n z => ⟨(fun k h => by cases h), kA, h3, comp, h4⟩, kA, comp, h3, h4, h1, h5⟩
theorem nest_m : ∀ q ∈ nestM, Cond.methodLinkNest q.1 q.2.1 q.2.2.1 q.2.2.2 ∈ tables_1 := by decide +kernel
theorem nest_f : ∀ q ∈ nestF, Cond.fieldLinkNest q.1 q.2.1 q.2.2.1 q.2.2.2.1 q.2.2.2.2.1 q.2.2.2.2.2 ∈ tables_1 := by decide +kernel
theorem lw_t {w : Cond} (h : w ∈ tables_1) : w ∈ lw_tbl := List.mem_append_right _ h
theorem gN_of {args : Array Value} {s : State} (hts : ∀ w ∈ lw_tbl, w.before args s = true) : gN s := ⟨fun q hq => va_Nw.of rfl (hts _ (lw_t (nest_m q hq))), fun q hq => va_Nw.of rfl (hts _ (lw_t (nest_f q hq)))⟩
theorem sta_w : ∀ k : Fin 4, Cond.laysStatic RX3 (sNm k) "[I" ∈ tables_1 := by decide +kernel
theorem sta_i : Cond.initialized RX3 ∈ tables_1 := by decide +kernel
theorem ins_0 : Cond.instantiable RX0 4 ∈ tables_1 := by decide +kernel
theorem ins_1 : Cond.instantiable RX1 10 ∈ tables_1 := by decide +kernel
theorem ins_2 : Cond.instantiable RX2 1 ∈ tables_1 := by decide +kernel
theorem ins_3 : Cond.instantiable RX3 14 ∈ tables_1 := by decide +kernel
theorem ins_4 : Cond.instantiable RX4 34 ∈ tables_1 := by decide +kernel
theorem ao_0 : Cond.arrayOver (.object RX0) ∈ tables_1 := by decide +kernel
