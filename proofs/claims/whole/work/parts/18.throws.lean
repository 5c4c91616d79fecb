/-! throws: the words of each place -/
theorem at_of {own E : String} {ic : Nat} (h : (vx_atS own ic E kNms).all (fun w => (goodWord w && decide (w ∈ lw_tbl)) || (decide (w = .castable E E) || kDecl.any (fun y => decide (w = .declares y)))) = true) : ∀ w ∈ vx_atS own ic E kNms, w ∈ kT ∨ w = .castable E E ∨ ∃ y ∈ kDecl, w = .declares y := by
  intro w hw
  have h1 := List.all_eq_true.mp h w hw
  simp only [Bool.or_eq_true, Bool.and_eq_true, decide_eq_true_eq, List.any_eq_true] at h1
  rcases h1 with h1 | h1 | h1
  · exact Or.inl (List.mem_filter.mpr ⟨h1.2, h1.1⟩)
  · exact Or.inr (Or.inl h1)
  · exact Or.inr (Or.inr h1)
theorem at_ofX {E : String} {L : List Cond} (h : (L.filter vx_no).all (fun w => (goodWord w && decide (w ∈ lw_tbl)) || (decide (w = .castable E E) || kDecl.any (fun y => decide (w = .declares y)))) = true) : ∀ w ∈ L.filter vx_no, w ∈ kT ∨ w = .castable E E ∨ ∃ y ∈ kDecl, w = .declares y := by
  intro w hw
  have h1 := List.all_eq_true.mp h w hw
  simp only [Bool.or_eq_true, Bool.and_eq_true, decide_eq_true_eq, List.any_eq_true] at h1
  rcases h1 with h1 | h1 | h1
  · exact Or.inl (List.mem_filter.mpr ⟨h1.2, h1.1⟩)
  · exact Or.inr (Or.inl h1)
  · exact Or.inr (Or.inr h1)
theorem nse_code : decode prog_22_method_4_code 0 = .ok (.aload_n 0, 1) ∧ decode prog_22_method_4_code 1 = .ok (.aload_n 1, 1) ∧ decode prog_22_method_4_code 2 = .ok (.invokespecial 13, 3) ∧ decode prog_22_method_4_code 5 = .ok (.return_, 1) := ⟨by decide +kernel, by decide +kernel, by decide +kernel, by decide +kernel⟩
theorem fitX_NoSuchElementException : Bundle.fit "java/util/NoSuchElementException" = true ∧ Bundle.fit "java/lang/RuntimeException" = true ∧ ∀ n ∈ ["java/lang/Exception"], Bundle.fit n = true := ⟨by decide +kernel, by decide +kernel, by decide +kernel⟩
theorem ini_IllegalArgumentException : Cond.initialized "java/lang/IllegalArgumentException" ∈ kT := kT_of (i := 63) (by decide +kernel) rfl
theorem fit_IllegalArgumentException : Bundle.fit "java/lang/IllegalArgumentException" = true ∧ ∀ n ∈ kNms, Bundle.fit n = true := ⟨by decide +kernel, by decide +kernel⟩
theorem exc_IllegalArgumentException : "java/lang/IllegalArgumentException" ∈ kExc := by decide
theorem ini_IllegalStateException : Cond.initialized "java/lang/IllegalStateException" ∈ kT := kT_of (i := 64) (by decide +kernel) rfl
theorem fit_IllegalStateException : Bundle.fit "java/lang/IllegalStateException" = true ∧ ∀ n ∈ kNms, Bundle.fit n = true := ⟨by decide +kernel, by decide +kernel⟩
theorem exc_IllegalStateException : "java/lang/IllegalStateException" ∈ kExc := by decide
theorem ini_IndexOutOfBoundsException : Cond.initialized "java/lang/IndexOutOfBoundsException" ∈ kT := kT_of (i := 65) (by decide +kernel) rfl
theorem fit_IndexOutOfBoundsException : Bundle.fit "java/lang/IndexOutOfBoundsException" = true ∧ ∀ n ∈ kNms, Bundle.fit n = true := ⟨by decide +kernel, by decide +kernel⟩
theorem exc_IndexOutOfBoundsException : "java/lang/IndexOutOfBoundsException" ∈ kExc := by decide
theorem ini_NoSuchElementException : Cond.initialized "java/util/NoSuchElementException" ∈ kT := kT_of (i := 69) (by decide +kernel) rfl
theorem fit_NoSuchElementException : Bundle.fit "java/util/NoSuchElementException" = true ∧ ∀ n ∈ kNms, Bundle.fit n = true := ⟨by decide +kernel, by decide +kernel⟩
theorem exc_NoSuchElementException : "java/util/NoSuchElementException" ∈ kExc := by decide
theorem ini_ArithmeticException : Cond.initialized "java/lang/ArithmeticException" ∈ kT := kT_of (i := 71) (by decide +kernel) rfl
theorem fit_ArithmeticException : Bundle.fit "java/lang/ArithmeticException" = true ∧ ∀ n ∈ kNms, Bundle.fit n = true := ⟨by decide +kernel, by decide +kernel⟩
theorem exc_ArithmeticException : "java/lang/ArithmeticException" ∈ kExc := by decide
theorem cl_1_47 : Cond.classLink RX1 47 "java/lang/IndexOutOfBoundsException" ∈ kT := kT_of (i := 302) (by decide +kernel) rfl
set_option maxRecDepth 20000 in
theorem at_1_51 : ∀ w ∈ vx_atS RX1 51 "java/lang/IndexOutOfBoundsException" kNms, w ∈ kT ∨ w = .castable "java/lang/IndexOutOfBoundsException" "java/lang/IndexOutOfBoundsException" ∨ ∃ y ∈ kDecl, w = .declares y := at_of (by decide +kernel)
theorem cl_4_44 : Cond.classLink RX4 44 "java/util/NoSuchElementException" ∈ kT := kT_of (i := 947) (by decide +kernel) rfl
set_option maxRecDepth 20000 in
theorem at_4_48 : ∀ w ∈ (kx_words RX4 48 "java/util/NoSuchElementException" "java/lang/RuntimeException" 13 prog_22_method_4_code ["java/lang/Exception"]).filter vx_no, w ∈ kT ∨ w = .castable "java/util/NoSuchElementException" "java/util/NoSuchElementException" ∨ ∃ y ∈ kDecl, w = .declares y := at_ofX (by decide +kernel)
theorem cl_7_47 : Cond.classLink RX7 47 "java/lang/IllegalArgumentException" ∈ kT := kT_of (i := 464) (by decide +kernel) rfl
set_option maxRecDepth 20000 in
theorem at_7_51 : ∀ w ∈ vx_atS RX7 51 "java/lang/IllegalArgumentException" kNms, w ∈ kT ∨ w = .castable "java/lang/IllegalArgumentException" "java/lang/IllegalArgumentException" ∨ ∃ y ∈ kDecl, w = .declares y := at_of (by decide +kernel)
theorem cl_7_58 : Cond.classLink RX7 58 "java/lang/IllegalStateException" ∈ kT := kT_of (i := 484) (by decide +kernel) rfl
set_option maxRecDepth 20000 in
theorem at_7_62 : ∀ w ∈ vx_atS RX7 62 "java/lang/IllegalStateException" kNms, w ∈ kT ∨ w = .castable "java/lang/IllegalStateException" "java/lang/IllegalStateException" ∨ ∃ y ∈ kDecl, w = .declares y := at_of (by decide +kernel)
theorem cl_7_128 : Cond.classLink RX7 128 "java/util/NoSuchElementException" ∈ kT := kT_of (i := 639) (by decide +kernel) rfl
set_option maxRecDepth 20000 in
theorem at_7_132 : ∀ w ∈ (kx_words RX7 132 "java/util/NoSuchElementException" "java/lang/RuntimeException" 13 prog_22_method_4_code ["java/lang/Exception"]).filter vx_no, w ∈ kT ∨ w = .castable "java/util/NoSuchElementException" "java/util/NoSuchElementException" ∨ ∃ y ∈ kDecl, w = .declares y := at_ofX (by decide +kernel)
theorem cl_7_270 : Cond.classLink RX7 270 "java/lang/ArithmeticException" ∈ kT := kT_of (i := 985) (by decide +kernel) rfl
set_option maxRecDepth 20000 in
theorem at_7_274 : ∀ w ∈ vx_atS RX7 274 "java/lang/ArithmeticException" kNms, w ∈ kT ∨ w = .castable "java/lang/ArithmeticException" "java/lang/ArithmeticException" ∨ ∃ y ∈ kDecl, w = .declares y := at_of (by decide +kernel)
theorem cl_7_300 : Cond.classLink RX7 300 "java/lang/IndexOutOfBoundsException" ∈ kT := kT_of (i := 854) (by decide +kernel) rfl
set_option maxRecDepth 20000 in
theorem at_7_304 : ∀ w ∈ vx_atS RX7 304 "java/lang/IndexOutOfBoundsException" kNms, w ∈ kT ∨ w = .castable "java/lang/IndexOutOfBoundsException" "java/lang/IndexOutOfBoundsException" ∨ ∃ y ∈ kDecl, w = .declares y := at_of (by decide +kernel)
