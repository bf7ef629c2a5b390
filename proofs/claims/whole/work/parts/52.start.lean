/-! 52: the start: statics, tables, the two objects; then the loop -/
set_option maxRecDepth 100000 in
set_option maxHeartbeats 8000000 in
theorem xl_st0 {s : State} {args : Array Value} (hs : ∀ c ∈ flatC (Jvm.Cond.and given_1 narrow_1), c.before args s = true) (htl : ∀ w ∈ lw_tbl, w.before args s = true) : ∃ t : Nat, va_Z "AdviceWeaver$Op" "SIZES" "[I" (.ref t) (xl_A s) s s.heap ∧ va_T .int t 33 (fun j => .int (xw_i (xw_SZ.getD j 0))) (xl_A s) s s.heap := by
  have hA : ∀ a : Nat, a < s.heap.size → ¬ xl_A s a := fun a h z => by unfold xl_A at z; omega
  obtain ⟨t, h1, h2⟩ := va_Tof (args := args) (s := s) (tm := .static "AdviceWeaver$Op" "SIZES" "[I") (ty := .int) (N := 33) (f := fun j => .int (xw_i (xw_SZ.getD j 0))) (A := xl_A s) (by decide) (hs _ (by decide +kernel)) (va_eqt (z := 33) (hs _ (by decide +kernel))) (by
    intro j hj
    rcases (show j = 0 ∨ j = 1 ∨ j = 2 ∨ j = 3 ∨ j = 4 ∨ j = 5 ∨ j = 6 ∨ j = 7 ∨ j = 8 ∨ j = 9 ∨ j = 10 ∨ j = 11 ∨ j = 12 ∨ j = 13 ∨ j = 14 ∨ j = 15 ∨ j = 16 ∨ j = 17 ∨ j = 18 ∨ j = 19 ∨ j = 20 ∨ j = 21 ∨ j = 22 ∨ j = 23 ∨ j = 24 ∨ j = 25 ∨ j = 26 ∨ j = 27 ∨ j = 28 ∨ j = 29 ∨ j = 30 ∨ j = 31 ∨ j = 32 by omega) with rfl | rfl | rfl | rfl | rfl | rfl | rfl | rfl | rfl | rfl | rfl | rfl | rfl | rfl | rfl | rfl | rfl | rfl | rfl | rfl | rfl | rfl | rfl | rfl | rfl | rfl | rfl | rfl | rfl | rfl | rfl | rfl | rfl
    · exact va_eqt (t := .elem (.static "AdviceWeaver$Op" "SIZES" "[I") (.int 0)) (z := 1) (hs _ (by decide +kernel))
    · exact va_eqt (t := .elem (.static "AdviceWeaver$Op" "SIZES" "[I") (.int 1)) (z := 2) (hs _ (by decide +kernel))
    · exact va_eqt (t := .elem (.static "AdviceWeaver$Op" "SIZES" "[I") (.int 2)) (z := 2) (hs _ (by decide +kernel))
    · exact va_eqt (t := .elem (.static "AdviceWeaver$Op" "SIZES" "[I") (.int 3)) (z := 2) (hs _ (by decide +kernel))
    · exact va_eqt (t := .elem (.static "AdviceWeaver$Op" "SIZES" "[I") (.int 4)) (z := 1) (hs _ (by decide +kernel))
    · exact va_eqt (t := .elem (.static "AdviceWeaver$Op" "SIZES" "[I") (.int 5)) (z := 1) (hs _ (by decide +kernel))
    · exact va_eqt (t := .elem (.static "AdviceWeaver$Op" "SIZES" "[I") (.int 6)) (z := 1) (hs _ (by decide +kernel))
    · exact va_eqt (t := .elem (.static "AdviceWeaver$Op" "SIZES" "[I") (.int 7)) (z := 1) (hs _ (by decide +kernel))
    · exact va_eqt (t := .elem (.static "AdviceWeaver$Op" "SIZES" "[I") (.int 8)) (z := 1) (hs _ (by decide +kernel))
    · exact va_eqt (t := .elem (.static "AdviceWeaver$Op" "SIZES" "[I") (.int 9)) (z := 1) (hs _ (by decide +kernel))
    · exact va_eqt (t := .elem (.static "AdviceWeaver$Op" "SIZES" "[I") (.int 10)) (z := 2) (hs _ (by decide +kernel))
    · exact va_eqt (t := .elem (.static "AdviceWeaver$Op" "SIZES" "[I") (.int 11)) (z := 2) (hs _ (by decide +kernel))
    · exact va_eqt (t := .elem (.static "AdviceWeaver$Op" "SIZES" "[I") (.int 12)) (z := 2) (hs _ (by decide +kernel))
    · exact va_eqt (t := .elem (.static "AdviceWeaver$Op" "SIZES" "[I") (.int 13)) (z := 2) (hs _ (by decide +kernel))
    · exact va_eqt (t := .elem (.static "AdviceWeaver$Op" "SIZES" "[I") (.int 14)) (z := 1) (hs _ (by decide +kernel))
    · exact va_eqt (t := .elem (.static "AdviceWeaver$Op" "SIZES" "[I") (.int 15)) (z := 1) (hs _ (by decide +kernel))
    · exact va_eqt (t := .elem (.static "AdviceWeaver$Op" "SIZES" "[I") (.int 16)) (z := 3) (hs _ (by decide +kernel))
    · exact va_eqt (t := .elem (.static "AdviceWeaver$Op" "SIZES" "[I") (.int 17)) (z := 0) (hs _ (by decide +kernel))
    · exact va_eqt (t := .elem (.static "AdviceWeaver$Op" "SIZES" "[I") (.int 18)) (z := 0) (hs _ (by decide +kernel))
    · exact va_eqt (t := .elem (.static "AdviceWeaver$Op" "SIZES" "[I") (.int 19)) (z := 0) (hs _ (by decide +kernel))
    · exact va_eqt (t := .elem (.static "AdviceWeaver$Op" "SIZES" "[I") (.int 20)) (z := 3) (hs _ (by decide +kernel))
    · exact va_eqt (t := .elem (.static "AdviceWeaver$Op" "SIZES" "[I") (.int 21)) (z := 3) (hs _ (by decide +kernel))
    · exact va_eqt (t := .elem (.static "AdviceWeaver$Op" "SIZES" "[I") (.int 22)) (z := 3) (hs _ (by decide +kernel))
    · exact va_eqt (t := .elem (.static "AdviceWeaver$Op" "SIZES" "[I") (.int 23)) (z := 0) (hs _ (by decide +kernel))
    · exact va_eqt (t := .elem (.static "AdviceWeaver$Op" "SIZES" "[I") (.int 24)) (z := 0) (hs _ (by decide +kernel))
    · exact va_eqt (t := .elem (.static "AdviceWeaver$Op" "SIZES" "[I") (.int 25)) (z := 0) (hs _ (by decide +kernel))
    · exact va_eqt (t := .elem (.static "AdviceWeaver$Op" "SIZES" "[I") (.int 26)) (z := 0) (hs _ (by decide +kernel))
    · exact va_eqt (t := .elem (.static "AdviceWeaver$Op" "SIZES" "[I") (.int 27)) (z := 0) (hs _ (by decide +kernel))
    · exact va_eqt (t := .elem (.static "AdviceWeaver$Op" "SIZES" "[I") (.int 28)) (z := 0) (hs _ (by decide +kernel))
    · exact va_eqt (t := .elem (.static "AdviceWeaver$Op" "SIZES" "[I") (.int 29)) (z := 0) (hs _ (by decide +kernel))
    · exact va_eqt (t := .elem (.static "AdviceWeaver$Op" "SIZES" "[I") (.int 30)) (z := 2) (hs _ (by decide +kernel))
    · exact va_eqt (t := .elem (.static "AdviceWeaver$Op" "SIZES" "[I") (.int 31)) (z := 2) (hs _ (by decide +kernel))
    · exact va_eqt (t := .elem (.static "AdviceWeaver$Op" "SIZES" "[I") (.int 32)) (z := 1) (hs _ (by decide +kernel))
    ) hA
  exact ⟨t, va_Zref (htl (.laysStatic "AdviceWeaver$Op" "SIZES" "[I") (List.mem_of_getElem? (i := 395) (by decide +kernel))) (htl _ (wAll_t _ hw_48)) h1 hA, h2⟩
set_option maxRecDepth 100000 in
set_option maxHeartbeats 8000000 in
theorem xl_st1 {s : State} {args : Array Value} (hs : ∀ c ∈ flatC (Jvm.Cond.and given_1 narrow_1), c.before args s = true) (htl : ∀ w ∈ lw_tbl, w.before args s = true) : ∃ t : Nat, va_Z "AdviceWeaver$Op" "TAKES" "[I" (.ref t) (xl_A s) s s.heap ∧ va_T .int t 33 (fun j => .int (xw_i (xw_TK.getD j 0))) (xl_A s) s s.heap := by
  have hA : ∀ a : Nat, a < s.heap.size → ¬ xl_A s a := fun a h z => by unfold xl_A at z; omega
  obtain ⟨t, h1, h2⟩ := va_Tof (args := args) (s := s) (tm := .static "AdviceWeaver$Op" "TAKES" "[I") (ty := .int) (N := 33) (f := fun j => .int (xw_i (xw_TK.getD j 0))) (A := xl_A s) (by decide) (hs _ (by decide +kernel)) (va_eqt (z := 33) (hs _ (by decide +kernel))) (by
    intro j hj
    rcases (show j = 0 ∨ j = 1 ∨ j = 2 ∨ j = 3 ∨ j = 4 ∨ j = 5 ∨ j = 6 ∨ j = 7 ∨ j = 8 ∨ j = 9 ∨ j = 10 ∨ j = 11 ∨ j = 12 ∨ j = 13 ∨ j = 14 ∨ j = 15 ∨ j = 16 ∨ j = 17 ∨ j = 18 ∨ j = 19 ∨ j = 20 ∨ j = 21 ∨ j = 22 ∨ j = 23 ∨ j = 24 ∨ j = 25 ∨ j = 26 ∨ j = 27 ∨ j = 28 ∨ j = 29 ∨ j = 30 ∨ j = 31 ∨ j = 32 by omega) with rfl | rfl | rfl | rfl | rfl | rfl | rfl | rfl | rfl | rfl | rfl | rfl | rfl | rfl | rfl | rfl | rfl | rfl | rfl | rfl | rfl | rfl | rfl | rfl | rfl | rfl | rfl | rfl | rfl | rfl | rfl | rfl | rfl
    · exact va_eqt (t := .elem (.static "AdviceWeaver$Op" "TAKES" "[I") (.int 0)) (z := 0) (hs _ (by decide +kernel))
    · exact va_eqt (t := .elem (.static "AdviceWeaver$Op" "TAKES" "[I") (.int 1)) (z := 0) (hs _ (by decide +kernel))
    · exact va_eqt (t := .elem (.static "AdviceWeaver$Op" "TAKES" "[I") (.int 2)) (z := 0) (hs _ (by decide +kernel))
    · exact va_eqt (t := .elem (.static "AdviceWeaver$Op" "TAKES" "[I") (.int 3)) (z := 1) (hs _ (by decide +kernel))
    · exact va_eqt (t := .elem (.static "AdviceWeaver$Op" "TAKES" "[I") (.int 4)) (z := 2) (hs _ (by decide +kernel))
    · exact va_eqt (t := .elem (.static "AdviceWeaver$Op" "TAKES" "[I") (.int 5)) (z := 2) (hs _ (by decide +kernel))
    · exact va_eqt (t := .elem (.static "AdviceWeaver$Op" "TAKES" "[I") (.int 6)) (z := 2) (hs _ (by decide +kernel))
    · exact va_eqt (t := .elem (.static "AdviceWeaver$Op" "TAKES" "[I") (.int 7)) (z := 2) (hs _ (by decide +kernel))
    · exact va_eqt (t := .elem (.static "AdviceWeaver$Op" "TAKES" "[I") (.int 8)) (z := 1) (hs _ (by decide +kernel))
    · exact va_eqt (t := .elem (.static "AdviceWeaver$Op" "TAKES" "[I") (.int 9)) (z := 1) (hs _ (by decide +kernel))
    · exact va_eqt (t := .elem (.static "AdviceWeaver$Op" "TAKES" "[I") (.int 10)) (z := 0) (hs _ (by decide +kernel))
    · exact va_eqt (t := .elem (.static "AdviceWeaver$Op" "TAKES" "[I") (.int 11)) (z := 1) (hs _ (by decide +kernel))
    · exact va_eqt (t := .elem (.static "AdviceWeaver$Op" "TAKES" "[I") (.int 12)) (z := 1) (hs _ (by decide +kernel))
    · exact va_eqt (t := .elem (.static "AdviceWeaver$Op" "TAKES" "[I") (.int 13)) (z := 0) (hs _ (by decide +kernel))
    · exact va_eqt (t := .elem (.static "AdviceWeaver$Op" "TAKES" "[I") (.int 14)) (z := 1) (hs _ (by decide +kernel))
    · exact va_eqt (t := .elem (.static "AdviceWeaver$Op" "TAKES" "[I") (.int 15)) (z := 1) (hs _ (by decide +kernel))
    · exact va_eqt (t := .elem (.static "AdviceWeaver$Op" "TAKES" "[I") (.int 16)) (z := 0) (hs _ (by decide +kernel))
    · exact va_eqt (t := .elem (.static "AdviceWeaver$Op" "TAKES" "[I") (.int 17)) (z := 0) (hs _ (by decide +kernel))
    · exact va_eqt (t := .elem (.static "AdviceWeaver$Op" "TAKES" "[I") (.int 18)) (z := 0) (hs _ (by decide +kernel))
    · exact va_eqt (t := .elem (.static "AdviceWeaver$Op" "TAKES" "[I") (.int 19)) (z := 0) (hs _ (by decide +kernel))
    · exact va_eqt (t := .elem (.static "AdviceWeaver$Op" "TAKES" "[I") (.int 20)) (z := 0) (hs _ (by decide +kernel))
    · exact va_eqt (t := .elem (.static "AdviceWeaver$Op" "TAKES" "[I") (.int 21)) (z := 1) (hs _ (by decide +kernel))
    · exact va_eqt (t := .elem (.static "AdviceWeaver$Op" "TAKES" "[I") (.int 22)) (z := 1) (hs _ (by decide +kernel))
    · exact va_eqt (t := .elem (.static "AdviceWeaver$Op" "TAKES" "[I") (.int 23)) (z := 0) (hs _ (by decide +kernel))
    · exact va_eqt (t := .elem (.static "AdviceWeaver$Op" "TAKES" "[I") (.int 24)) (z := 0) (hs _ (by decide +kernel))
    · exact va_eqt (t := .elem (.static "AdviceWeaver$Op" "TAKES" "[I") (.int 25)) (z := 0) (hs _ (by decide +kernel))
    · exact va_eqt (t := .elem (.static "AdviceWeaver$Op" "TAKES" "[I") (.int 26)) (z := 0) (hs _ (by decide +kernel))
    · exact va_eqt (t := .elem (.static "AdviceWeaver$Op" "TAKES" "[I") (.int 27)) (z := 0) (hs _ (by decide +kernel))
    · exact va_eqt (t := .elem (.static "AdviceWeaver$Op" "TAKES" "[I") (.int 28)) (z := 0) (hs _ (by decide +kernel))
    · exact va_eqt (t := .elem (.static "AdviceWeaver$Op" "TAKES" "[I") (.int 29)) (z := 0) (hs _ (by decide +kernel))
    · exact va_eqt (t := .elem (.static "AdviceWeaver$Op" "TAKES" "[I") (.int 30)) (z := 0) (hs _ (by decide +kernel))
    · exact va_eqt (t := .elem (.static "AdviceWeaver$Op" "TAKES" "[I") (.int 31)) (z := 0) (hs _ (by decide +kernel))
    · exact va_eqt (t := .elem (.static "AdviceWeaver$Op" "TAKES" "[I") (.int 32)) (z := 1) (hs _ (by decide +kernel))
    ) hA
  exact ⟨t, va_Zref (htl (.laysStatic "AdviceWeaver$Op" "TAKES" "[I") (List.mem_of_getElem? (i := 458) (by decide +kernel))) (htl _ (wAll_t _ hw_48)) h1 hA, h2⟩
set_option maxRecDepth 100000 in
set_option maxHeartbeats 8000000 in
theorem xl_st2 {s : State} {args : Array Value} (hs : ∀ c ∈ flatC (Jvm.Cond.and given_1 narrow_1), c.before args s = true) (htl : ∀ w ∈ lw_tbl, w.before args s = true) : ∃ t : Nat, va_Z "AdviceWeaver$Op" "PUTS" "[I" (.ref t) (xl_A s) s s.heap ∧ va_T .int t 33 (fun j => .int (xw_i (xw_PT.getD j 0))) (xl_A s) s s.heap := by
  have hA : ∀ a : Nat, a < s.heap.size → ¬ xl_A s a := fun a h z => by unfold xl_A at z; omega
  obtain ⟨t, h1, h2⟩ := va_Tof (args := args) (s := s) (tm := .static "AdviceWeaver$Op" "PUTS" "[I") (ty := .int) (N := 33) (f := fun j => .int (xw_i (xw_PT.getD j 0))) (A := xl_A s) (by decide) (hs _ (by decide +kernel)) (va_eqt (z := 33) (hs _ (by decide +kernel))) (by
    intro j hj
    rcases (show j = 0 ∨ j = 1 ∨ j = 2 ∨ j = 3 ∨ j = 4 ∨ j = 5 ∨ j = 6 ∨ j = 7 ∨ j = 8 ∨ j = 9 ∨ j = 10 ∨ j = 11 ∨ j = 12 ∨ j = 13 ∨ j = 14 ∨ j = 15 ∨ j = 16 ∨ j = 17 ∨ j = 18 ∨ j = 19 ∨ j = 20 ∨ j = 21 ∨ j = 22 ∨ j = 23 ∨ j = 24 ∨ j = 25 ∨ j = 26 ∨ j = 27 ∨ j = 28 ∨ j = 29 ∨ j = 30 ∨ j = 31 ∨ j = 32 by omega) with rfl | rfl | rfl | rfl | rfl | rfl | rfl | rfl | rfl | rfl | rfl | rfl | rfl | rfl | rfl | rfl | rfl | rfl | rfl | rfl | rfl | rfl | rfl | rfl | rfl | rfl | rfl | rfl | rfl | rfl | rfl | rfl | rfl
    · exact va_eqt (t := .elem (.static "AdviceWeaver$Op" "PUTS" "[I") (.int 0)) (z := 0) (hs _ (by decide +kernel))
    · exact va_eqt (t := .elem (.static "AdviceWeaver$Op" "PUTS" "[I") (.int 1)) (z := 1) (hs _ (by decide +kernel))
    · exact va_eqt (t := .elem (.static "AdviceWeaver$Op" "PUTS" "[I") (.int 2)) (z := 1) (hs _ (by decide +kernel))
    · exact va_eqt (t := .elem (.static "AdviceWeaver$Op" "PUTS" "[I") (.int 3)) (z := 0) (hs _ (by decide +kernel))
    · exact va_eqt (t := .elem (.static "AdviceWeaver$Op" "PUTS" "[I") (.int 4)) (z := 1) (hs _ (by decide +kernel))
    · exact va_eqt (t := .elem (.static "AdviceWeaver$Op" "PUTS" "[I") (.int 5)) (z := 1) (hs _ (by decide +kernel))
    · exact va_eqt (t := .elem (.static "AdviceWeaver$Op" "PUTS" "[I") (.int 6)) (z := 1) (hs _ (by decide +kernel))
    · exact va_eqt (t := .elem (.static "AdviceWeaver$Op" "PUTS" "[I") (.int 7)) (z := 1) (hs _ (by decide +kernel))
    · exact va_eqt (t := .elem (.static "AdviceWeaver$Op" "PUTS" "[I") (.int 8)) (z := 2) (hs _ (by decide +kernel))
    · exact va_eqt (t := .elem (.static "AdviceWeaver$Op" "PUTS" "[I") (.int 9)) (z := 0) (hs _ (by decide +kernel))
    · exact va_eqt (t := .elem (.static "AdviceWeaver$Op" "PUTS" "[I") (.int 10)) (z := 0) (hs _ (by decide +kernel))
    · exact va_eqt (t := .elem (.static "AdviceWeaver$Op" "PUTS" "[I") (.int 11)) (z := 0) (hs _ (by decide +kernel))
    · exact va_eqt (t := .elem (.static "AdviceWeaver$Op" "PUTS" "[I") (.int 12)) (z := 0) (hs _ (by decide +kernel))
    · exact va_eqt (t := .elem (.static "AdviceWeaver$Op" "PUTS" "[I") (.int 13)) (z := 1) (hs _ (by decide +kernel))
    · exact va_eqt (t := .elem (.static "AdviceWeaver$Op" "PUTS" "[I") (.int 14)) (z := 0) (hs _ (by decide +kernel))
    · exact va_eqt (t := .elem (.static "AdviceWeaver$Op" "PUTS" "[I") (.int 15)) (z := 0) (hs _ (by decide +kernel))
    · exact va_eqt (t := .elem (.static "AdviceWeaver$Op" "PUTS" "[I") (.int 16)) (z := 0) (hs _ (by decide +kernel))
    · exact va_eqt (t := .elem (.static "AdviceWeaver$Op" "PUTS" "[I") (.int 17)) (z := 0) (hs _ (by decide +kernel))
    · exact va_eqt (t := .elem (.static "AdviceWeaver$Op" "PUTS" "[I") (.int 18)) (z := 0) (hs _ (by decide +kernel))
    · exact va_eqt (t := .elem (.static "AdviceWeaver$Op" "PUTS" "[I") (.int 19)) (z := 0) (hs _ (by decide +kernel))
    · exact va_eqt (t := .elem (.static "AdviceWeaver$Op" "PUTS" "[I") (.int 20)) (z := 0) (hs _ (by decide +kernel))
    · exact va_eqt (t := .elem (.static "AdviceWeaver$Op" "PUTS" "[I") (.int 21)) (z := 0) (hs _ (by decide +kernel))
    · exact va_eqt (t := .elem (.static "AdviceWeaver$Op" "PUTS" "[I") (.int 22)) (z := 0) (hs _ (by decide +kernel))
    · exact va_eqt (t := .elem (.static "AdviceWeaver$Op" "PUTS" "[I") (.int 23)) (z := 0) (hs _ (by decide +kernel))
    · exact va_eqt (t := .elem (.static "AdviceWeaver$Op" "PUTS" "[I") (.int 24)) (z := 0) (hs _ (by decide +kernel))
    · exact va_eqt (t := .elem (.static "AdviceWeaver$Op" "PUTS" "[I") (.int 25)) (z := 0) (hs _ (by decide +kernel))
    · exact va_eqt (t := .elem (.static "AdviceWeaver$Op" "PUTS" "[I") (.int 26)) (z := 0) (hs _ (by decide +kernel))
    · exact va_eqt (t := .elem (.static "AdviceWeaver$Op" "PUTS" "[I") (.int 27)) (z := 0) (hs _ (by decide +kernel))
    · exact va_eqt (t := .elem (.static "AdviceWeaver$Op" "PUTS" "[I") (.int 28)) (z := 0) (hs _ (by decide +kernel))
    · exact va_eqt (t := .elem (.static "AdviceWeaver$Op" "PUTS" "[I") (.int 29)) (z := 0) (hs _ (by decide +kernel))
    · exact va_eqt (t := .elem (.static "AdviceWeaver$Op" "PUTS" "[I") (.int 30)) (z := 0) (hs _ (by decide +kernel))
    · exact va_eqt (t := .elem (.static "AdviceWeaver$Op" "PUTS" "[I") (.int 31)) (z := 0) (hs _ (by decide +kernel))
    · exact va_eqt (t := .elem (.static "AdviceWeaver$Op" "PUTS" "[I") (.int 32)) (z := 0) (hs _ (by decide +kernel))
    ) hA
  exact ⟨t, va_Zref (htl (.laysStatic "AdviceWeaver$Op" "PUTS" "[I") (List.mem_of_getElem? (i := 463) (by decide +kernel))) (htl _ (wAll_t _ hw_48)) h1 hA, h2⟩
theorem xl_gI {y : MethodName} {b : ByteArray} {mL : Nat} {ret9 : Option FieldType} (h5 : Cond.code y b mL ret9 ∈ wAll) : GoodIn lw_tbl (.code y b mL ret9 :: wAll) := by
  intro w hw
  rcases List.mem_cons.mp hw with rfl | hw
  · exact xl_gw h5
  · exact xl_gw hw
theorem xl_arr {s : State} {args : Array Value} {ty : FieldType} (hty : ∀ C, ty ≠ .object C) (h : (Cond.arrayClass ty).before args s = true) : ∃ cA : ClassId, ArrOfT s cA ty ∧ va_RA s cA ty := by
  obtain ⟨cA, kA, comp, h1, h2, h3⟩ := Cond.arrayClass_spec h
  refine ⟨cA, fun n z => ⟨fun k h => (by cases h), kA, h2, comp, h3⟩, ?_⟩
  cases ty with
  | object C => exact absurd rfl (hty C)
  | _ => exact h1
theorem xl_ovr {s : State} {args : Array Value} {C : String} (h : (Cond.arrayOver (.object C)).before args s = true) : ∃ cA : ClassId, ArrOfT s cA (.object C) ∧ va_RA s cA (.object C) := by
  obtain ⟨comp, cA, kA, h1, h2, h3, h4, h5⟩ := Cond.arrayOver_spec h
  exact ⟨cA, fun n z => ⟨fun k h => (by cases h), kA, h3, comp, h4⟩, kA, comp, h3, h4, h1, h5⟩
set_option maxRecDepth 100000 in
set_option maxHeartbeats 8000000 in
theorem xl_start {fu : Nat} {Inv : xw_S → xw_S → Prop} (hI : xl_ok fu Inv)  {p : Program} {e : Env} {s : State} {m : MethodId} {below : List Frame} {meth : Method} {c : Code} (l : Launch) {b L : Nat} {xs : Nat → Int32} (hL : L ≤ 3072) (C0 : lw_At p s m meth c b L xs) : W p l e room_1 s m #[Value.ref b] below meth c s.heap [] 0 0 (lw_Z below #[Value.ref b] s) (entryFrame m ([Value.ref b] : List Value).toArray 4) := by
  have C1 := C0
  obtain ⟨hx, hb, hr, hml, hown, htl, hX, hbl, hlk, hgv⟩ := C0
  have hts : ∀ w ∈ wAll, w.before #[Value.ref b] s = true := fun w hw => htl w (wAll_t w hw)
  have hs := flat_of_before _ hgv
  obtain ⟨t0, hz0, hy0⟩ := xl_st0 hs htl
  obtain ⟨t1, hz1, hy1⟩ := xl_st1 hs htl
  obtain ⟨t2, hz2, hy2⟩ := xl_st2 hs htl
  have hZ : xw_Sx (fun k => ([t0, t1, t2] : List Nat).getD k 0) (xl_A s) s s.heap := by
    intro k hk
    rcases (show k = 0 ∨ k = 1 ∨ k = 2 by omega) with rfl | rfl | rfl
    · exact ⟨hz0, hy0⟩
    · exact ⟨hz1, hy1⟩
    · exact ⟨hz2, hy2⟩
  obtain ⟨c0, i0, hc0⟩ := u_known hts hin_B (hts _ hw_648)
  obtain ⟨c1, i1, hc1⟩ := u_known hts hin_CF (hts _ hw_647)
  obtain ⟨c2, i2, hc2⟩ := u_known hts hin_FL (hts _ hw_650)
  obtain ⟨c3, i3, hc3⟩ := u_known hts hin_FR (hts _ hw_653)
  obtain ⟨c4, i4, hc4⟩ := u_known hts hin_LM (hts _ hw_651)
  obtain ⟨c5, i5, hc5⟩ := u_known hts hin_MC (hts _ hw_652)
  obtain ⟨c6, i6, hc6⟩ := u_known hts hin_TR (hts _ hw_649)
  obtain ⟨c7, i7, hc7⟩ := u_known hts hin_AW (hts _ hw_646)
  obtain ⟨c8, i8, hc8⟩ := u_known hts hin_MD (hts _ hw_654)
  obtain ⟨a0, ha0⟩ := xl_arr (by intro C h; cases h) (hts _ hw_643)
  obtain ⟨a1, ha1⟩ := xl_arr (by intro C h; cases h) (hts _ hw_644)
  obtain ⟨a2, ha2⟩ := xl_arr (by intro C h; cases h) (hts _ hw_645)
  have ho0 := htl (.arrayOver (.object "AdviceWeaver$Body")) (List.mem_of_getElem? (i := 109) (by decide +kernel))
  obtain ⟨a3, ha3⟩ := xl_ovr ho0
  have ho1 := htl (.arrayOver (.object "AdviceWeaver$Transformer")) (List.mem_of_getElem? (i := 177) (by decide +kernel))
  obtain ⟨a4, ha4⟩ := xl_ovr ho1
  have ho2 := htl (.arrayOver (.object "AdviceWeaver$Frame")) (List.mem_of_getElem? (i := 251) (by decide +kernel))
  obtain ⟨a5, ha5⟩ := xl_ovr ho2
  obtain ⟨D, hD_⟩ : ∃ D : va_G, D = (fun k => ([c0, c1, c2, c3, c4, c5, c6, c7, c8] : List ClassId).getD k 0, fun k => ([i0, i1, i2, i3, i4, i5, i6, i7, i8] : List (Nat → Nat)).getD k (fun _ => 0)) := ⟨_, rfl⟩
  obtain ⟨cs, hcs⟩ : ∃ cs : Nat → ClassId, cs = fun k => ([a0, a1, a2, a3, a4, a5] : List ClassId).getD (k - 20) 0 := ⟨_, rfl⟩
  have hK : va_K D vwCl (xw_ty cs) s := by
    subst hD_ hcs
    refine ⟨fun k q hq => ?_, fun k q hq => ?_⟩
    · have hk : k < 9 := (List.getElem?_eq_some_iff.mp hq).1
      rcases (show k = 0 ∨ k = 1 ∨ k = 2 ∨ k = 3 ∨ k = 4 ∨ k = 5 ∨ k = 6 ∨ k = 7 ∨ k = 8 by omega) with rfl | rfl | rfl | rfl | rfl | rfl | rfl | rfl | rfl <;> cases hq
      · exact hc0
      · exact hc1
      · exact hc2
      · exact hc3
      · exact hc4
      · exact hc5
      · exact hc6
      · exact hc7
      · exact hc8
    · have hk : k < 6 := (List.getElem?_eq_some_iff.mp hq).1
      rcases (show k = 0 ∨ k = 1 ∨ k = 2 ∨ k = 3 ∨ k = 4 ∨ k = 5 by omega) with rfl | rfl | rfl | rfl | rfl | rfl <;> cases hq
      · exact ha0
      · exact ha1
      · exact ha2
      · exact ha3
      · exact ha4
      · exact ha5
  clear hD_ hcs
  have hN : xn_X s := ⟨va_Nw.of rfl (htl _ (List.mem_of_getElem? (i := 90) (by decide +kernel))), va_Nw.of rfl (htl _ (List.mem_of_getElem? (i := 179) (by decide +kernel))), va_Nw.of rfl (htl _ (List.mem_of_getElem? (i := 196) (by decide +kernel))), va_Nw.of rfl (htl _ (List.mem_of_getElem? (i := 213) (by decide +kernel))), va_Nw.of rfl (htl _ (List.mem_of_getElem? (i := 253) (by decide +kernel))), va_AO.of ho0, va_AO.of ho1, va_AO.of ho2⟩
  have hA : ∀ q : Nat, s.heap.size ≤ q → xl_A s q := fun q h => h
  have hS : va_S (xl_A s) s.heap s.heap [] := va_S.rf
  have hP : va_P D vwCl [] s.heap := fun k q h => by simp at h
  have hD : va_D (xl_A s) ([] : va_W) := ⟨fun i j p q h => by simp at h, fun k q h => by simp at h⟩
  have hl := lv_entry [.ref b] (n := 4) (Nat.le_of_ble_eq_true rfl)
  rw [lg_entry_eq]
  generalize (lg_sl [.ref b] ++ List.replicate (4 - (lg_sl [.ref b]).length) Slot.unset).toArray = ls at hl ⊢
  have hl : lv_has ls 4 [(0, .ref b)] := hl
  refine va_new (ci := 7) (fs := [.null, .null, .null, .null, .null, .null, .null, .null, .null, .int (xw_i 0), .int (xw_i 0), .int (xw_i 0)]) (C := "AdviceWeaver") (T := T_AW) (N := 12) hx hb hts hin_AW ty_AW ty_AW_ok hown (hts _ hw_655) (hts _ hw_646) (hts _ hw_175) hK hP hD hS hA rfl xn_df_AW (Nat.le_of_ble_eq_true rfl) (Nat.le_of_ble_eq_true rfl) d_LW_law_0 (fun q1 H hP hD hS => ?_)
  refine W.widen (k := 1) (n := 12) (by decide) (by decide) ?_
  refine lv_dup hx hb d_LW_law_3 rfl ?_
  have hPc : va_P D vwCl [(q1, .inr (7, [.null, .null, .null, .null, .null, .null, .null, .null, .null, .int (xw_i 0), .int (xw_i 0), .int (xw_i 0)]))] H := xl_Pm hP (fun z hz => List.mem_append_right _ hz)
  have hDc : va_D (xl_A s) [(q1, .inr (7, [.null, .null, .null, .null, .null, .null, .null, .null, .null, .int (xw_i 0), .int (xw_i 0), .int (xw_i 0)]))] := xl_Dr hD
  have hFc : ∀ z, va_A [(q1, .inr (7, [.null, .null, .null, .null, .null, .null, .null, .null, .null, .int (xw_i 0), .int (xw_i 0), .int (xw_i 0)]))] H.size z → xl_A s z := fun z hz => by
    rcases hz with ⟨k9, e9, h9⟩ | h9
    · exact hDc.2 k9 _ h9
    · exact Nat.le_trans hS.1 h9
  refine va_callv (va_runI (As := []) (rest := [.ref q1]) ⟨hx, hb, hml, hown, htl⟩ (c_AW_init l D cs q1 H.size) (cwI 0 htl (xl_gI hw_612) rfl rfl rfl (hts _ hw_175) (htl _ (lx_in _ lx_138)) (hts _ hw_611) rfl (by decide +kernel) ⟨(Nat.le_of_ble_eq_true rfl), (Nat.le_of_ble_eq_true rfl)⟩) ⟨fun a U g mk q => by obtain ⟨q0, q1, qP, qK, qD, qX⟩ := q; exact ⟨q0, q1, qP, va_K.moved (u := U) (U := U.calling g mk a) (Vm.Alike.refl U.vm) qK, qD, qX.call⟩, fun U hU hW => ⟨rfl, by rw [hU], by rw [hU]; exact hPc, va_K.moved hW.alike hK, hDc.weaken (fun _ _ _ _ => trivial), xn_X.warm hW hN⟩⟩ rfl rfl hl.1 rfl (lv_room (Nat.le_of_ble_eq_true rfl)) d_LW_law_4 ⟨(Nat.le_of_ble_eq_true rfl), (Nat.le_of_ble_eq_true rfl)⟩) hS (fun z _ h => hFc z h) hFc (fun aC t H1 locs ht hvm h9 hB hz1 hk1 hS => ?_)
  obtain ⟨rfl, hP1, hK1, hD1⟩ := hB
  rw [ht] at hP1
  obtain ⟨hP, hD⟩ := xl_join (X := []) (Y := [(aC 0, .inr (7, [.null, .null, .null, .null, .null, .null, .null, .null, .null, .int (xw_i 0), .int (xw_i 0), .int (xw_i 0)]))]) (Y' := xw_ws kdC 100 aC cs [] xw_s0) hP hD hk1 hFc hP1 (xw_Dof hD1 xw_s0)
  generalize H1 = H at hP hS ⊢
  clear hP1 hK1 hD1 hPc hDc hFc hk1 hz1 hvm ht h9
  refine W.widen (k := 100) (n := 4259) (by decide) (by decide) ?_
  refine lv_astore_n hx hb d_LW_law_7 rfl hl (by decide) rfl (fun ls hl => ?_)
  refine va_new (ci := 8) (fs := [.null, .int (xw_i 0), .null, .null, .null, .null, .null, .null, .null, .null, .int (xw_i 0), .int (xw_i 0), .int (xw_i 0), .int (xw_i 0), .int (xw_i 0), .int (xw_i 0), .null, .null, .null, .null, .null, .null, .null, .int (xw_i 0), .int (xw_i 0), .null, .null, .null, .null, .int (xw_i 0), .null, .int (xw_i 0), .null, .null, .null, .null, .null, .int (xw_i 0), .int (xw_i 0), .int (xw_i 0), .int (xw_i 0), .null, .null]) (C := "AdviceWeaverModel") (T := T_MD) (N := 43) hx hb hts hin_MD ty_MD ty_MD_ok hown (hts _ hw_664) (hts _ hw_654) (hts _ hw_433) hK hP hD hS hA rfl xn_df_MD (Nat.le_of_ble_eq_true rfl) (Nat.le_of_ble_eq_true rfl) d_LW_law_8 (fun q2 H hP hD hS => ?_)
  refine W.widen (k := 101) (n := 4302) (by decide) (by decide) ?_
  refine lv_dup hx hb d_LW_law_11 rfl ?_
  have hPc : va_P D vwCl [(q2, .inr (8, [.null, .int (xw_i 0), .null, .null, .null, .null, .null, .null, .null, .null, .int (xw_i 0), .int (xw_i 0), .int (xw_i 0), .int (xw_i 0), .int (xw_i 0), .int (xw_i 0), .null, .null, .null, .null, .null, .null, .null, .int (xw_i 0), .int (xw_i 0), .null, .null, .null, .null, .int (xw_i 0), .null, .int (xw_i 0), .null, .null, .null, .null, .null, .int (xw_i 0), .int (xw_i 0), .int (xw_i 0), .int (xw_i 0), .null, .null]))] H := xl_Pm hP (fun z hz => List.mem_append_right _ hz)
  have hDc : va_D (xl_A s) [(q2, .inr (8, [.null, .int (xw_i 0), .null, .null, .null, .null, .null, .null, .null, .null, .int (xw_i 0), .int (xw_i 0), .int (xw_i 0), .int (xw_i 0), .int (xw_i 0), .int (xw_i 0), .null, .null, .null, .null, .null, .null, .null, .int (xw_i 0), .int (xw_i 0), .null, .null, .null, .null, .int (xw_i 0), .null, .int (xw_i 0), .null, .null, .null, .null, .null, .int (xw_i 0), .int (xw_i 0), .int (xw_i 0), .int (xw_i 0), .null, .null]))] := xl_Dr hD
  have hFc : ∀ z, va_A [(q2, .inr (8, [.null, .int (xw_i 0), .null, .null, .null, .null, .null, .null, .null, .null, .int (xw_i 0), .int (xw_i 0), .int (xw_i 0), .int (xw_i 0), .int (xw_i 0), .int (xw_i 0), .null, .null, .null, .null, .null, .null, .null, .int (xw_i 0), .int (xw_i 0), .null, .null, .null, .null, .int (xw_i 0), .null, .int (xw_i 0), .null, .null, .null, .null, .null, .int (xw_i 0), .int (xw_i 0), .int (xw_i 0), .int (xw_i 0), .null, .null]))] H.size z → xl_A s z := fun z hz => by
    rcases hz with ⟨k9, e9, h9⟩ | h9
    · exact hDc.2 k9 _ h9
    · exact Nat.le_trans hS.1 h9
  refine va_callv (va_runI (As := []) (rest := [.ref q2]) ⟨hx, hb, hml, hown, htl⟩ (c_MD_init l D cs q2 H.size) (cwI 0 htl (xl_gI hw_639) rfl rfl rfl (hts _ hw_433) (htl _ (lx_in _ lx_139)) (hts _ hw_638) rfl (by decide +kernel) ⟨(Nat.le_of_ble_eq_true rfl), (Nat.le_of_ble_eq_true rfl)⟩) ⟨fun a U g mk q => by obtain ⟨q0, q1, qP, qK, qD⟩ := q; exact ⟨q0, q1, qP, va_K.moved (u := U) (U := U.calling g mk a) (Vm.Alike.refl U.vm) qK, qD⟩, fun U hU hW => ⟨rfl, by rw [hU], by rw [hU]; exact hPc, va_K.moved hW.alike hK, hDc.weaken (fun _ _ _ _ => trivial)⟩⟩ rfl rfl hl.1 rfl (lv_room (Nat.le_of_ble_eq_true rfl)) d_LW_law_12 ⟨(Nat.le_of_ble_eq_true rfl), (Nat.le_of_ble_eq_true rfl)⟩) hS (fun z _ h => hFc z h) hFc (fun aR t H1 locs ht hvm h9 hB hz1 hk1 hS => ?_)
  obtain ⟨rfl, hP1, hK1, hD1⟩ := hB
  rw [ht] at hP1
  obtain ⟨hP, hD⟩ := xl_join (X := [] ++ xw_ws kdC 100 aC cs [] xw_s0) (Y := [(aR 0, .inr (8, [.null, .int (xw_i 0), .null, .null, .null, .null, .null, .null, .null, .null, .int (xw_i 0), .int (xw_i 0), .int (xw_i 0), .int (xw_i 0), .int (xw_i 0), .int (xw_i 0), .null, .null, .null, .null, .null, .null, .null, .int (xw_i 0), .int (xw_i 0), .null, .null, .null, .null, .int (xw_i 0), .null, .int (xw_i 0), .null, .null, .null, .null, .null, .int (xw_i 0), .int (xw_i 0), .int (xw_i 0), .int (xw_i 0), .null, .null]))]) (Y' := xw_ws kdR 29 aR cs [] xw_z0) hP hD hk1 hFc hP1 (xw_Dof hD1 xw_z0)
  generalize H1 = H at hP hS ⊢
  clear hP1 hK1 hD1 hPc hDc hFc hk1 hz1 hvm ht h9
  refine W.widen (k := 129) (n := 8550) (by decide) (by decide) ?_
  refine lv_astore_n hx hb d_LW_law_15 rfl hl (by decide) rfl (fun ls hl => ?_)
  refine lv_iconst (v := xw_i ((6 * 0 : Nat) : Int)) hx hb d_LW_law_16 rfl ?_
  refine lv_istore_n hx hb d_LW_law_17 rfl hl (by decide) rfl (fun ls hl => ?_)
  have hP : va_P D vwCl (xw_ws kdC 100 aC cs (xw_ws kdR 29 aR cs [] xw_z0) xw_s0) H := xl_Pm hP (fun z hz => by simp only [xw_ws, List.append_nil, List.nil_append, List.mem_append] at hz ⊢; exact hz)
  have hDD : va_D (xl_A s) (xw_wn 100 aC (xw_wn 29 aR [])) := xl_Daddr (by simp [xw_ws, xw_wn, Function.comp_def]) hD
  exact xl_loop l hL C1 hts hI hK hDD hZ L 0 xw_s0 xw_z0 H locs ls (by omega) (by omega) hI.1 hP hS (lv_sub hl [3, 2, 1, 0] rfl)
