set_option maxRecDepth 100000 in
theorem am_ac_int : am_has 142 (Cond.arrayClass .int) = true := by decide +kernel
set_option maxRecDepth 100000 in
theorem am_ac_char : am_has 117 (Cond.arrayClass .char) = true := by decide +kernel
set_option maxRecDepth 100000 in
theorem am_ac_boolean : am_has 181 (Cond.arrayClass .boolean) = true := by decide +kernel
set_option maxRecDepth 100000 in
theorem am_ac_long : am_has 1178 (Cond.arrayClass .long) = true := by decide +kernel
set_option maxRecDepth 100000 in
theorem am_ao : am_hasN 157 (Cond.arrayOver (.object am_rowN)) = true := by decide +kernel
set_option maxRecDepth 100000 in
theorem am_ldc : am_has 833 (Cond.constant "ProofLineModel" 87 34020) = true := by decide +kernel
set_option maxRecDepth 100000 in
theorem am_b0 : am_has 100 (Cond.instanceMethod Lib.objectInit) = true := by decide +kernel
set_option maxRecDepth 100000 in
theorem am_b1 : am_has 101 (Cond.code Lib.objectInit ⟨#[0xb1]⟩ 1 none) = true := by decide +kernel
set_option maxRecDepth 100000 in
theorem am_b2 : am_has 444 (Cond.native arraycopyName) = true := by decide +kernel
set_option maxRecDepth 100000 in
theorem am_b3 : am_has 443 (Cond.static arraycopyName) = true := by decide +kernel
set_option maxRecDepth 100000 in
theorem am_b4 : am_has 92 (Cond.initialized "java/lang/System") = true := by decide +kernel
theorem am_b5 : nativeFrameWords "java/lang/System" "arraycopy" 5 ≤ 100 := by decide +kernel
theorem am_baseOK : am_base am_TB := ⟨am_has_mem am_b0, am_has_mem am_b1, am_has_mem am_b2, am_has_mem am_b3, am_has_mem am_b4, am_b5⟩
theorem am_goodTB : ∀ w ∈ am_TB, (w.onTables && w.keeps) = true ∨ ∃ ty, w = .arrayClass ty := fun w hw => good_of_word (List.mem_filter.mp hw).2
