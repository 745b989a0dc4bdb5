/-! rows -/
def am_row (S : am_St) (r c : Nat) (o : Option (List Int)) : Prop := match o with
  | some l => l.length ≤ c ∧ S r 1 = l.length ∧ S r 2 = 0 ∧ am_sg (S (r + 1)) 0 l
  | none => 0 ≤ S r 1 ∧ S r 1 ≤ c ∧ S r 2 = 1
def am_frr (r : Nat) (S S' : am_St) : Prop := ∀ h, h ≠ r → h ≠ r + 1 → S' h = S h
theorem am_frr_rfl {r : Nat} {S : am_St} : am_frr r S S := fun _ _ _ => rfl
theorem am_frr_trans {r : Nat} {S S' S2 : am_St} (h1 : am_frr r S S') (h2 : am_frr r S' S2) : am_frr r S S2 := fun h p q => (h2 h p q).trans (h1 h p q)
theorem am_rw_ne {f r c c' : Nat} (hf : am_rw f c) (hr : am_rw r c') : f ≠ r + 1 := by
  rintro rfl
  have h1 := hf.1 (fun _ => 0)
  have h2 := hr.2.2 (fun _ => 0)
  rw [h1] at h2
  cases h2
theorem am_row_fr {S S' : am_St} {r c : Nat} {o : Option (List Int)} (h : am_row S r c o) (h1 : S' r = S r) (h2 : S' (r + 1) = S (r + 1)) : am_row S' r c o := by
  cases o with
  | none =>
    show 0 ≤ S' r 1 ∧ S' r 1 ≤ c ∧ S' r 2 = 1
    rw [h1]
    exact h
  | some l =>
    show l.length ≤ c ∧ S' r 1 = l.length ∧ S' r 2 = 0 ∧ am_sg (S' (r + 1)) 0 l
    rw [h1, h2]
    exact h
theorem am_row_frr {S S' : am_St} {r f c cf c0 : Nat} {o : Option (List Int)} (h : am_row S f cf o) (hf : am_rw f cf) (hr : am_rw r c0) (hn : f ≠ r) (hs : am_frr r S S') : am_row S' f cf o :=
  am_row_fr h (hs f hn (am_rw_ne hf hr)) (hs (f + 1) (fun q => am_rw_ne hr hf q.symm) (by omega))
theorem am_row_b {S : am_St} {r c : Nat} {o : Option (List Int)} (h : am_row S r c o) : 0 ≤ S r 1 ∧ S r 1 ≤ c := by
  cases o with
  | none => exact ⟨h.1, h.2.1⟩
  | some l =>
    obtain ⟨h1, h2, -, -⟩ := h
    omega
theorem am_sg_ex {f : Int → Int} {o : Int} (k : Nat) : ∃ l : List Int, l.length = k ∧ am_sg f o l :=
  ⟨(List.range k).map (fun i : Nat => f (o + i)), by simp, fun i v h => by
    rw [List.getElem?_map] at h
    by_cases hi : i < k
    · rw [List.getElem?_range hi] at h
      cases h
      rfl
    · rw [List.getElem?_eq_none (by simp; omega)] at h
      cases h⟩
theorem do_clear {d : Nat} {n : am_N} {X : Nat × (Nat → Int32)} {S : am_St} {Q : Option Value → am_N → am_M → Prop} {r c : Nat} (hd : 1 ≤ d) (hw : am_rw r c) (hQ : ∀ (S' : am_St), (∀ h, h ≠ r → S' h = S h) → am_row S' r c (some []) → Q none n (am_m X S')) : am_Do d 109 [.ref r] n (am_m X S) Q := by
  rw [in_109 (by omega)]
  simp (disch := first | omega | exact am_fit_z0 | exact am_fit_z1 | (apply am_fit_zc <;> omega)) only [w109_0, w109_1, w109_2, w109_5, w109_6, w109_7, w109_10, am_fit_i, am_isR, am_okA, exists_eq_left', exists_eq_left, Option.some.injEq, true_and, and_true, List.length_cons, List.length_nil, List.drop_succ_cons, List.drop_zero, List.all_cons, List.all_nil, am_c1, Bool.and_true, Bool.true_and, Bool.and_self, decide_true, decide_false, if_true, if_false, beq_self_eq_true, Nat.reduceAdd, Nat.reduceLeDiff, Nat.reduceLT, Nat.reduceEqDiff, Nat.reduceSub, ite_true, ite_false, and_self, eq_self, am_z_add, am_z_sub, am_z_mul, Int.reduceAdd, Int.reduceSub, Int.reduceMul, Int.reduceLT, Int.reduceLE, Int.reduceEq, Int.reduceNeg, am_then_i, am_then_r, am_then_v, Nat.add_eq, Nat.zero_add, Nat.add_zero, am_fit_z0, am_fit_z1, am_fit_zc, ↓reduceIte, am_lt_T, am_lt_F, am_le_T, am_le_F, am_eq_T, am_eq_F, am_z_lt, am_z_le, am_z_eq, am_z_char, am_set_se, am_set_sk, am_set_sh, rw_f0 hw, rw_f1 hw, rw_f2 hw, rw_s1 hw, rw_s2 hw, rw_o hw, am_ald_m hw.2, am_ast_m hw.2, am_len_m hw.2]
  refine hQ _ (fun h p => by rw [am_set_sh p, am_set_sh p]) ⟨Nat.zero_le _, ?_, am_set_se, am_sg_nil⟩
  rw [am_set_sk (by omega), am_set_se]
  rfl
theorem do_add {d : Nat} {n : am_N} {X : Nat × (Nat → Int32)} {S : am_St} {Q : Option Value → am_N → am_M → Prop} {r c : Nat} (hd : 1 ≤ d) (hw : am_rw r c) {t : Int} {o : Option (List Int)} (hr : am_row S r c o) (hQ : ∀ (S' : am_St), am_frr r S S' → am_row S' r c (am_app c o [t]) → Q none n (am_m X S')) : am_Do d 110 [.ref r, .int (am_z t)] n (am_m X S) Q := by
  have hc := hw.2.1
  have hb := am_row_b hr
  rw [in_110 (by omega)]
  by_cases hl : S r 1 < c
  · simp (disch := first | omega | exact am_fit_z0 | exact am_fit_z1 | (apply am_fit_zc <;> omega)) only [w110_0, w110_1, w110_4, w110_5, w110_8, w110_9, w110_12, w110_13, w110_16, w110_17, w110_20, w110_21, w110_22, w110_23, w110_23i, w110_24, w110_27, w110_28, w110_29, w110_32, w110_35, w110_36, w110_37, w110_40, am_fit_i, am_isR, am_okA, exists_eq_left', exists_eq_left, Option.some.injEq, true_and, and_true, List.length_cons, List.length_nil, List.drop_succ_cons, List.drop_zero, List.all_cons, List.all_nil, am_c1, Bool.and_true, Bool.true_and, Bool.and_self, decide_true, decide_false, if_true, if_false, beq_self_eq_true, Nat.reduceAdd, Nat.reduceLeDiff, Nat.reduceLT, Nat.reduceEqDiff, Nat.reduceSub, ite_true, ite_false, and_self, eq_self, am_z_add, am_z_sub, am_z_mul, Int.reduceAdd, Int.reduceSub, Int.reduceMul, Int.reduceLT, Int.reduceLE, Int.reduceEq, Int.reduceNeg, am_then_i, am_then_r, am_then_v, Nat.add_eq, Nat.zero_add, Nat.add_zero, am_fit_z0, am_fit_z1, am_fit_zc, ↓reduceIte, am_lt_T, am_lt_F, am_le_T, am_le_F, am_eq_T, am_eq_F, am_z_lt, am_z_le, am_z_eq, am_z_char, am_set_se, am_set_sk, am_set_sh, rw_f0 hw, rw_f1 hw, rw_f2 hw, rw_s1 hw, rw_s2 hw, rw_o hw, am_ald_m hw.2, am_ast_m hw.2, am_len_m hw.2]
    refine hQ _ (fun h p q => by rw [am_set_sh p, am_set_sh q]) ?_
    cases o with
    | none =>
      have h2 := hr.2.2
      refine ⟨?_, ?_, ?_⟩
      · rw [am_set_se]; omega
      · rw [am_set_se]; omega
      · rw [am_set_sk (by omega), am_set_sh (by omega)]; exact h2
    | some l =>
      obtain ⟨h1, h2, h3, h4⟩ := hr
      have e : am_app c (some l) [t] = some (l ++ [t]) := if_pos (by rw [List.length_singleton]; omega)
      rw [e]
      refine ⟨by rw [List.length_append, List.length_singleton]; omega, ?_, ?_, ?_⟩
      · rw [am_set_se, List.length_append, List.length_singleton]; omega
      · rw [am_set_sk (by omega), am_set_sh (by omega)]; exact h3
      · rw [am_set_sh (by omega), h2]
        have := am_sg_snoc (v := t) h4
        rw [Int.zero_add] at this
        exact this
  · simp (disch := first | omega | exact am_fit_z0 | exact am_fit_z1 | (apply am_fit_zc <;> omega)) only [w110_0, w110_1, w110_4, w110_5, w110_8, w110_9, w110_12, w110_13, w110_16, w110_17, w110_20, w110_21, w110_22, w110_23, w110_23i, w110_24, w110_27, w110_28, w110_29, w110_32, w110_35, w110_36, w110_37, w110_40, am_fit_i, am_isR, am_okA, exists_eq_left', exists_eq_left, Option.some.injEq, true_and, and_true, List.length_cons, List.length_nil, List.drop_succ_cons, List.drop_zero, List.all_cons, List.all_nil, am_c1, Bool.and_true, Bool.true_and, Bool.and_self, decide_true, decide_false, if_true, if_false, beq_self_eq_true, Nat.reduceAdd, Nat.reduceLeDiff, Nat.reduceLT, Nat.reduceEqDiff, Nat.reduceSub, ite_true, ite_false, and_self, eq_self, am_z_add, am_z_sub, am_z_mul, Int.reduceAdd, Int.reduceSub, Int.reduceMul, Int.reduceLT, Int.reduceLE, Int.reduceEq, Int.reduceNeg, am_then_i, am_then_r, am_then_v, Nat.add_eq, Nat.zero_add, Nat.add_zero, am_fit_z0, am_fit_z1, am_fit_zc, ↓reduceIte, am_lt_T, am_lt_F, am_le_T, am_le_F, am_eq_T, am_eq_F, am_z_lt, am_z_le, am_z_eq, am_z_char, am_set_se, am_set_sk, am_set_sh, rw_f0 hw, rw_f1 hw, rw_f2 hw, rw_s1 hw, rw_s2 hw, rw_o hw, am_ald_m hw.2, am_ast_m hw.2, am_len_m hw.2]
    refine hQ _ (fun h p q => by rw [am_set_sh p]) ?_
    have e : am_app c o [t] = none := by
      cases o with
      | none => rfl
      | some l =>
        obtain ⟨h1, h2, h3, h4⟩ := hr
        exact if_neg (by rw [List.length_singleton]; omega)
    rw [e]
    refine ⟨?_, ?_, am_set_se⟩
    · rw [am_set_sk (by omega)]; omega
    · rw [am_set_sk (by omega)]; omega
theorem do_at_in {d : Nat} {n : am_N} {X : Nat × (Nat → Int32)} {S : am_St} {Q : Option Value → am_N → am_M → Prop} {r c : Nat} (hw : am_rw r c) {i : Int} (hd : 1 ≤ d) (h0 : 0 ≤ i) (h1 : i < S r 1) (h2 : S r 1 ≤ c) : am_Do d 114 [.ref r, .int (am_z i)] n (am_m X S) Q = Q (some (.int (am_z (S (r + 1) i)))) n (am_m X S) := by
  have hc := hw.2.1
  rw [in_114 (by omega)]
  simp (disch := first | omega | exact am_fit_z0 | exact am_fit_z1 | (apply am_fit_zc <;> omega)) only [w114_0, w114_1, w114_4, w114_5, w114_6, w114_9, w114_12, w114_13, w114_16, w114_17, w114_18, w114_21, w114_22, am_fit_i, am_isR, am_okA, exists_eq_left', exists_eq_left, Option.some.injEq, true_and, and_true, List.length_cons, List.length_nil, List.drop_succ_cons, List.drop_zero, List.all_cons, List.all_nil, am_c1, Bool.and_true, Bool.true_and, Bool.and_self, decide_true, decide_false, if_true, if_false, beq_self_eq_true, Nat.reduceAdd, Nat.reduceLeDiff, Nat.reduceLT, Nat.reduceEqDiff, Nat.reduceSub, ite_true, ite_false, and_self, eq_self, am_z_add, am_z_sub, am_z_mul, Int.reduceAdd, Int.reduceSub, Int.reduceMul, Int.reduceLT, Int.reduceLE, Int.reduceEq, Int.reduceNeg, am_then_i, am_then_r, am_then_v, Nat.add_eq, Nat.zero_add, Nat.add_zero, am_fit_z0, am_fit_z1, am_fit_zc, ↓reduceIte, am_lt_T, am_lt_F, am_le_T, am_le_F, am_eq_T, am_eq_F, am_z_lt, am_z_le, am_z_eq, am_z_char, am_set_se, am_set_sk, am_set_sh, rw_f0 hw, rw_f1 hw, rw_f2 hw, rw_s1 hw, rw_s2 hw, rw_o hw, am_ald_m hw.2, am_ast_m hw.2, am_len_m hw.2]
theorem do_at_out {d : Nat} {n : am_N} {X : Nat × (Nat → Int32)} {S : am_St} {Q : Option Value → am_N → am_M → Prop} {r c : Nat} (hw : am_rw r c) {i : Int} (hd : 1 ≤ d) (h0 : i < 0 ∨ S r 1 ≤ i) (h1 : 0 ≤ S r 1) (h2 : S r 1 ≤ c) (h3 : -2147483648 ≤ i) (h4 : i < 2147483648) : am_Do d 114 [.ref r, .int (am_z i)] n (am_m X S) Q = Q (some (.int (am_z (-1)))) n (am_m X S) := by
  have hc := hw.2.1
  rw [in_114 (by omega)]
  by_cases hi : i < 0
  · simp (disch := first | omega | exact am_fit_z0 | exact am_fit_z1 | (apply am_fit_zc <;> omega)) only [w114_0, w114_1, w114_4, w114_5, w114_6, w114_9, w114_12, w114_13, w114_16, w114_17, w114_18, w114_21, w114_22, am_fit_i, am_isR, am_okA, exists_eq_left', exists_eq_left, Option.some.injEq, true_and, and_true, List.length_cons, List.length_nil, List.drop_succ_cons, List.drop_zero, List.all_cons, List.all_nil, am_c1, Bool.and_true, Bool.true_and, Bool.and_self, decide_true, decide_false, if_true, if_false, beq_self_eq_true, Nat.reduceAdd, Nat.reduceLeDiff, Nat.reduceLT, Nat.reduceEqDiff, Nat.reduceSub, ite_true, ite_false, and_self, eq_self, am_z_add, am_z_sub, am_z_mul, Int.reduceAdd, Int.reduceSub, Int.reduceMul, Int.reduceLT, Int.reduceLE, Int.reduceEq, Int.reduceNeg, am_then_i, am_then_r, am_then_v, Nat.add_eq, Nat.zero_add, Nat.add_zero, am_fit_z0, am_fit_z1, am_fit_zc, ↓reduceIte, am_lt_T, am_lt_F, am_le_T, am_le_F, am_eq_T, am_eq_F, am_z_lt, am_z_le, am_z_eq, am_z_char, am_set_se, am_set_sk, am_set_sh, rw_f0 hw, rw_f1 hw, rw_f2 hw, rw_s1 hw, rw_s2 hw, rw_o hw, am_ald_m hw.2, am_ast_m hw.2, am_len_m hw.2]
  · simp (disch := first | omega | exact am_fit_z0 | exact am_fit_z1 | (apply am_fit_zc <;> omega)) only [w114_0, w114_1, w114_4, w114_5, w114_6, w114_9, w114_12, w114_13, w114_16, w114_17, w114_18, w114_21, w114_22, am_fit_i, am_isR, am_okA, exists_eq_left', exists_eq_left, Option.some.injEq, true_and, and_true, List.length_cons, List.length_nil, List.drop_succ_cons, List.drop_zero, List.all_cons, List.all_nil, am_c1, Bool.and_true, Bool.true_and, Bool.and_self, decide_true, decide_false, if_true, if_false, beq_self_eq_true, Nat.reduceAdd, Nat.reduceLeDiff, Nat.reduceLT, Nat.reduceEqDiff, Nat.reduceSub, ite_true, ite_false, and_self, eq_self, am_z_add, am_z_sub, am_z_mul, Int.reduceAdd, Int.reduceSub, Int.reduceMul, Int.reduceLT, Int.reduceLE, Int.reduceEq, Int.reduceNeg, am_then_i, am_then_r, am_then_v, Nat.add_eq, Nat.zero_add, Nat.add_zero, am_fit_z0, am_fit_z1, am_fit_zc, ↓reduceIte, am_lt_T, am_lt_F, am_le_T, am_le_F, am_eq_T, am_eq_F, am_z_lt, am_z_le, am_z_eq, am_z_char, am_set_se, am_set_sk, am_set_sh, rw_f0 hw, rw_f1 hw, rw_f2 hw, rw_s1 hw, rw_s2 hw, rw_o hw, am_ald_m hw.2, am_ast_m hw.2, am_len_m hw.2]
theorem ar_loop {d : Nat} {n : am_N} {X : Nat × (Nat → Int32)} {Q : Option Value → am_N → am_M → Prop} {r c f cf : Nat} {a0 : Value} {b : Int} (hd : 2 ≤ d) (hw : am_rw r c) (hf : am_rw f cf) (hn : f ≠ r) : ∀ {l : List Int} {a : Int} {o : Option (List Int)} {S : am_St}, am_row S r c o → 0 ≤ S f 1 → S f 1 ≤ cf → 0 ≤ a → a + l.length = b → b ≤ S f 1 → am_sg (S (f + 1)) a l → (∀ (S' : am_St), am_frr r S S' → am_row S' r c (am_app c o l) → Q none n (am_m X S')) → am_AW d 111 (3, [.ref r, .ref f, a0, .int (am_z b), .int (am_z a)], [], n, am_m X S) Q
  | [], a, o, S, hr, h0, h1, h2, h3, h4, h5, hQ => by
    have hcf := hf.2.1
    rw [List.length_nil] at h3
    rw [w111_3]
    simp (disch := first | omega | exact am_fit_z0 | exact am_fit_z1 | (apply am_fit_zc <;> omega)) only [w111_0, w111_1, w111_5, w111_6, w111_9, w111_10, w111_11, w111_13, w111_16, w111_19, w111_22, w111_25, am_fit_i, am_isR, am_okA, exists_eq_left', exists_eq_left, Option.some.injEq, true_and, and_true, List.length_cons, List.length_nil, List.drop_succ_cons, List.drop_zero, List.all_cons, List.all_nil, am_c1, Bool.and_true, Bool.true_and, Bool.and_self, decide_true, decide_false, if_true, if_false, beq_self_eq_true, Nat.reduceAdd, Nat.reduceLeDiff, Nat.reduceLT, Nat.reduceEqDiff, Nat.reduceSub, ite_true, ite_false, and_self, eq_self, am_z_add, am_z_sub, am_z_mul, Int.reduceAdd, Int.reduceSub, Int.reduceMul, Int.reduceLT, Int.reduceLE, Int.reduceEq, Int.reduceNeg, am_then_i, am_then_r, am_then_v, Nat.add_eq, Nat.zero_add, Nat.add_zero, am_fit_z0, am_fit_z1, am_fit_zc, ↓reduceIte, am_lt_T, am_lt_F, am_le_T, am_le_F, am_eq_T, am_eq_F, am_z_lt, am_z_le, am_z_eq, am_z_char, am_set_se, am_set_sk, am_set_sh]
    refine hQ S am_frr_rfl ?_
    rw [am_app_nil]
    · exact hr
    · intro a ha
      subst ha
      exact hr.1
  | v :: l, a, o, S, hr, h0, h1, h2, h3, h4, h5, hQ => by
    have hcf := hf.2.1
    rw [List.length_cons] at h3
    obtain ⟨hv, h5'⟩ := am_sg_cons.mp h5
    rw [w111_3]
    simp (disch := first | omega | exact am_fit_z0 | exact am_fit_z1 | (apply am_fit_zc <;> omega)) only [w111_0, w111_1, w111_5, w111_6, w111_9, w111_10, w111_11, w111_13, w111_16, w111_19, w111_22, w111_25, am_fit_i, am_isR, am_okA, exists_eq_left', exists_eq_left, Option.some.injEq, true_and, and_true, List.length_cons, List.length_nil, List.drop_succ_cons, List.drop_zero, List.all_cons, List.all_nil, am_c1, Bool.and_true, Bool.true_and, Bool.and_self, decide_true, decide_false, if_true, if_false, beq_self_eq_true, Nat.reduceAdd, Nat.reduceLeDiff, Nat.reduceLT, Nat.reduceEqDiff, Nat.reduceSub, ite_true, ite_false, and_self, eq_self, am_z_add, am_z_sub, am_z_mul, Int.reduceAdd, Int.reduceSub, Int.reduceMul, Int.reduceLT, Int.reduceLE, Int.reduceEq, Int.reduceNeg, am_then_i, am_then_r, am_then_v, Nat.add_eq, Nat.zero_add, Nat.add_zero, am_fit_z0, am_fit_z1, am_fit_zc, ↓reduceIte, am_lt_T, am_lt_F, am_le_T, am_le_F, am_eq_T, am_eq_F, am_z_lt, am_z_le, am_z_eq, am_z_char, am_set_se, am_set_sk, am_set_sh, rw_o hw, rw_o hf, do_at_in hf, hv]
    refine do_add (by omega) hw hr (fun S1 f1 r1 => ?_)
    simp (disch := first | omega | exact am_fit_z0 | exact am_fit_z1 | (apply am_fit_zc <;> omega)) only [w111_0, w111_1, w111_5, w111_6, w111_9, w111_10, w111_11, w111_13, w111_16, w111_19, w111_22, w111_25, am_fit_i, am_isR, am_okA, exists_eq_left', exists_eq_left, Option.some.injEq, true_and, and_true, List.length_cons, List.length_nil, List.drop_succ_cons, List.drop_zero, List.all_cons, List.all_nil, am_c1, Bool.and_true, Bool.true_and, Bool.and_self, decide_true, decide_false, if_true, if_false, beq_self_eq_true, Nat.reduceAdd, Nat.reduceLeDiff, Nat.reduceLT, Nat.reduceEqDiff, Nat.reduceSub, ite_true, ite_false, and_self, eq_self, am_z_add, am_z_sub, am_z_mul, Int.reduceAdd, Int.reduceSub, Int.reduceMul, Int.reduceLT, Int.reduceLE, Int.reduceEq, Int.reduceNeg, am_then_i, am_then_r, am_then_v, Nat.add_eq, Nat.zero_add, Nat.add_zero, am_fit_z0, am_fit_z1, am_fit_zc, ↓reduceIte, am_lt_T, am_lt_F, am_le_T, am_le_F, am_eq_T, am_eq_F, am_z_lt, am_z_le, am_z_eq, am_z_char, am_set_se, am_set_sk, am_set_sh]
    have e1 := f1 f hn (am_rw_ne hf hw)
    have e2 := f1 (f + 1) (fun q => am_rw_ne hw hf q.symm) (by omega)
    refine ar_loop (l := l) hd hw hf hn r1 (by rw [e1]; exact h0) (by rw [e1]; exact h1) (by omega) (by omega) (by rw [e1]; exact h4) (by rw [e2]; exact h5') (fun S2 f2 r2 => hQ S2 (am_frr_trans f1 f2) ?_)
    rw [am_app_app] at r2
    exact r2
theorem do_addRange {d : Nat} {n : am_N} {X : Nat × (Nat → Int32)} {S : am_St} {Q : Option Value → am_N → am_M → Prop} {r c f cf : Nat} {a b : Int} {l : List Int} {o : Option (List Int)} (hd : 3 ≤ d) (hw : am_rw r c) (hf : am_rw f cf) (hn : f ≠ r) (hr : am_row S r c o) (h0 : 0 ≤ S f 1) (h1 : S f 1 ≤ cf) (h2 : 0 ≤ a) (h3 : a + l.length = b) (h4 : b ≤ S f 1) (h5 : am_sg (S (f + 1)) a l) (hQ : ∀ (S' : am_St), am_frr r S S' → am_row S' r c (am_app c o l) → Q none n (am_m X S')) : am_Do d 111 [.ref r, .ref f, .int (am_z a), .int (am_z b)] n (am_m X S) Q := by
  rw [in_111 (by omega), w111_0, w111_1]
  exact ar_loop (by omega) hw hf hn hr h0 h1 h2 h3 h4 h5 hQ
theorem do_become {d : Nat} {n : am_N} {X : Nat × (Nat → Int32)} {S : am_St} {Q : Option Value → am_N → am_M → Prop} {r c f cf : Nat} {o : Option (List Int)} (hd : 4 ≤ d) (hw : am_rw r c) (hf : am_rw f cf) (hn : f ≠ r) (hc : cf ≤ c) (hr : am_row S f cf o) (hQ : ∀ (S' : am_St), am_frr r S S' → am_row S' r c o → Q none n (am_m X S')) : am_Do d 113 [.ref r, .ref f] n (am_m X S) Q := by
  rw [in_113 (by omega)]
  simp (disch := first | omega | exact am_fit_z0 | exact am_fit_z1 | (apply am_fit_zc <;> omega)) only [w113_0, w113_1, w113_4, w113_5, w113_6, w113_7, w113_8, w113_11, w113_14, w113_15, w113_16, w113_19, w113_22, w113_23, w113_26, w113_29, w113_30, w113_33, w113_34, w113_37, am_fit_i, am_isR, am_okA, exists_eq_left', exists_eq_left, Option.some.injEq, true_and, and_true, List.length_cons, List.length_nil, List.drop_succ_cons, List.drop_zero, List.all_cons, List.all_nil, am_c1, Bool.and_true, Bool.true_and, Bool.and_self, decide_true, decide_false, if_true, if_false, beq_self_eq_true, Nat.reduceAdd, Nat.reduceLeDiff, Nat.reduceLT, Nat.reduceEqDiff, Nat.reduceSub, ite_true, ite_false, and_self, eq_self, am_z_add, am_z_sub, am_z_mul, Int.reduceAdd, Int.reduceSub, Int.reduceMul, Int.reduceLT, Int.reduceLE, Int.reduceEq, Int.reduceNeg, am_then_i, am_then_r, am_then_v, Nat.add_eq, Nat.zero_add, Nat.add_zero, am_fit_z0, am_fit_z1, am_fit_zc, ↓reduceIte, am_lt_T, am_lt_F, am_le_T, am_le_F, am_eq_T, am_eq_F, am_z_lt, am_z_le, am_z_eq, am_z_char, am_set_se, am_set_sk, am_set_sh, rw_o hw]
  refine do_clear (by omega) hw (fun S1 f1 r1 => ?_)
  have e1 := f1 f hn
  have e2 := f1 (f + 1) (fun q => am_rw_ne hw hf q.symm)
  have hb := am_row_b hr
  simp (disch := first | omega | exact am_fit_z0 | exact am_fit_z1 | (apply am_fit_zc <;> omega)) only [w113_0, w113_1, w113_4, w113_5, w113_6, w113_7, w113_8, w113_11, w113_14, w113_15, w113_16, w113_19, w113_22, w113_23, w113_26, w113_29, w113_30, w113_33, w113_34, w113_37, am_fit_i, am_isR, am_okA, exists_eq_left', exists_eq_left, Option.some.injEq, true_and, and_true, List.length_cons, List.length_nil, List.drop_succ_cons, List.drop_zero, List.all_cons, List.all_nil, am_c1, Bool.and_true, Bool.true_and, Bool.and_self, decide_true, decide_false, if_true, if_false, beq_self_eq_true, Nat.reduceAdd, Nat.reduceLeDiff, Nat.reduceLT, Nat.reduceEqDiff, Nat.reduceSub, ite_true, ite_false, and_self, eq_self, am_z_add, am_z_sub, am_z_mul, Int.reduceAdd, Int.reduceSub, Int.reduceMul, Int.reduceLT, Int.reduceLE, Int.reduceEq, Int.reduceNeg, am_then_i, am_then_r, am_then_v, Nat.add_eq, Nat.zero_add, Nat.add_zero, am_fit_z0, am_fit_z1, am_fit_zc, ↓reduceIte, am_lt_T, am_lt_F, am_le_T, am_le_F, am_eq_T, am_eq_F, am_z_lt, am_z_le, am_z_eq, am_z_char, am_set_se, am_set_sk, am_set_sh, rw_o hw, rw_f1 hf, e1]
  obtain ⟨l, hl, hs⟩ := am_sg_ex (f := S1 (f + 1)) (o := 0) (S f 1).toNat
  refine do_addRange (l := l) (by omega) hw hf hn r1 (by rw [e1]; exact hb.1) (by rw [e1]; exact hb.2) (Int.le_refl 0) (by omega) (by rw [e1]; exact Int.le_refl _) hs (fun S2 f2 r2 => ?_)
  have e3 := f2 f hn (am_rw_ne hf hw)
  have ea : am_app c (some []) l = some l := by
    show (if 0 + l.length ≤ c then some ([] ++ l) else none) = _
    rw [if_pos (by omega), List.nil_append]
  rw [ea] at r2
  obtain ⟨g1, g2, g3, g4⟩ := r2
  cases o with
  | none =>
    have hv : S f 2 = 1 := hr.2.2
    simp (disch := first | omega | exact am_fit_z0 | exact am_fit_z1 | (apply am_fit_zc <;> omega)) only [w113_0, w113_1, w113_4, w113_5, w113_6, w113_7, w113_8, w113_11, w113_14, w113_15, w113_16, w113_19, w113_22, w113_23, w113_26, w113_29, w113_30, w113_33, w113_34, w113_37, am_fit_i, am_isR, am_okA, exists_eq_left', exists_eq_left, Option.some.injEq, true_and, and_true, List.length_cons, List.length_nil, List.drop_succ_cons, List.drop_zero, List.all_cons, List.all_nil, am_c1, Bool.and_true, Bool.true_and, Bool.and_self, decide_true, decide_false, if_true, if_false, beq_self_eq_true, Nat.reduceAdd, Nat.reduceLeDiff, Nat.reduceLT, Nat.reduceEqDiff, Nat.reduceSub, ite_true, ite_false, and_self, eq_self, am_z_add, am_z_sub, am_z_mul, Int.reduceAdd, Int.reduceSub, Int.reduceMul, Int.reduceLT, Int.reduceLE, Int.reduceEq, Int.reduceNeg, am_then_i, am_then_r, am_then_v, Nat.add_eq, Nat.zero_add, Nat.add_zero, am_fit_z0, am_fit_z1, am_fit_zc, ↓reduceIte, am_lt_T, am_lt_F, am_le_T, am_le_F, am_eq_T, am_eq_F, am_z_lt, am_z_le, am_z_eq, am_z_char, am_set_se, am_set_sk, am_set_sh, rw_f2 hw, rw_f2 hf, rw_s2 hw, e3, e1, hv, g3]
    refine hQ _ (fun h p q => by rw [am_set_sh p, f2 h p q, f1 h p]) ⟨?_, ?_, am_set_se⟩
    · rw [am_set_sk (by omega)]; omega
    · rw [am_set_sk (by omega)]; omega
  | some l2 =>
    obtain ⟨k1, k2, k3, k4⟩ := hr
    simp (disch := first | omega | exact am_fit_z0 | exact am_fit_z1 | (apply am_fit_zc <;> omega)) only [w113_0, w113_1, w113_4, w113_5, w113_6, w113_7, w113_8, w113_11, w113_14, w113_15, w113_16, w113_19, w113_22, w113_23, w113_26, w113_29, w113_30, w113_33, w113_34, w113_37, am_fit_i, am_isR, am_okA, exists_eq_left', exists_eq_left, Option.some.injEq, true_and, and_true, List.length_cons, List.length_nil, List.drop_succ_cons, List.drop_zero, List.all_cons, List.all_nil, am_c1, Bool.and_true, Bool.true_and, Bool.and_self, decide_true, decide_false, if_true, if_false, beq_self_eq_true, Nat.reduceAdd, Nat.reduceLeDiff, Nat.reduceLT, Nat.reduceEqDiff, Nat.reduceSub, ite_true, ite_false, and_self, eq_self, am_z_add, am_z_sub, am_z_mul, Int.reduceAdd, Int.reduceSub, Int.reduceMul, Int.reduceLT, Int.reduceLE, Int.reduceEq, Int.reduceNeg, am_then_i, am_then_r, am_then_v, Nat.add_eq, Nat.zero_add, Nat.add_zero, am_fit_z0, am_fit_z1, am_fit_zc, ↓reduceIte, am_lt_T, am_lt_F, am_le_T, am_le_F, am_eq_T, am_eq_F, am_z_lt, am_z_le, am_z_eq, am_z_char, am_set_se, am_set_sk, am_set_sh, rw_f2 hw, rw_f2 hf, rw_s2 hw, e3, e1, k3, g3]
    have el : l = l2 := am_sg_fun (hs) (by rw [e2]; exact k4) (by omega)
    subst el
    refine hQ _ (fun h p q => by rw [am_set_sh p, f2 h p q, f1 h p]) ⟨by omega, ?_, am_set_se, ?_⟩
    · rw [am_set_sk (by omega)]; exact g2
    · rw [am_set_sh (by omega)]; exact g4
theorem do_isPair_t {d : Nat} {n : am_N} {X : Nat × (Nat → Int32)} {S : am_St} {Q : Option Value → am_N → am_M → Prop} {t : Int} (hd : 1 ≤ d) (h0 : 0 ≤ t) (h1 : t ≤ 2) : am_Do d 13 [.int (am_z t)] n (am_m X S) Q = Q (some (.int (am_z 1))) n (am_m X S) := by
  rw [in_13 (by omega)]
  simp (disch := first | omega | exact am_fit_z0 | exact am_fit_z1 | (apply am_fit_zc <;> omega)) only [w13_0, w13_1, w13_4, w13_5, w13_6, w13_9, w13_10, w13_13, w13_14, am_fit_i, am_isR, am_okA, exists_eq_left', exists_eq_left, Option.some.injEq, true_and, and_true, List.length_cons, List.length_nil, List.drop_succ_cons, List.drop_zero, List.all_cons, List.all_nil, am_c1, Bool.and_true, Bool.true_and, Bool.and_self, decide_true, decide_false, if_true, if_false, beq_self_eq_true, Nat.reduceAdd, Nat.reduceLeDiff, Nat.reduceLT, Nat.reduceEqDiff, Nat.reduceSub, ite_true, ite_false, and_self, eq_self, am_z_add, am_z_sub, am_z_mul, Int.reduceAdd, Int.reduceSub, Int.reduceMul, Int.reduceLT, Int.reduceLE, Int.reduceEq, Int.reduceNeg, am_then_i, am_then_r, am_then_v, Nat.add_eq, Nat.zero_add, Nat.add_zero, am_fit_z0, am_fit_z1, am_fit_zc, ↓reduceIte, am_lt_T, am_lt_F, am_le_T, am_le_F, am_eq_T, am_eq_F, am_z_lt, am_z_le, am_z_eq, am_z_char, am_set_se, am_set_sk, am_set_sh]
theorem do_isPair_f {d : Nat} {n : am_N} {X : Nat × (Nat → Int32)} {S : am_St} {Q : Option Value → am_N → am_M → Prop} {t : Int} (hd : 1 ≤ d) (h0 : t < 0 ∨ 2 < t) (h1 : -2147483648 ≤ t) (h2 : t < 2147483648) : am_Do d 13 [.int (am_z t)] n (am_m X S) Q = Q (some (.int (am_z 0))) n (am_m X S) := by
  rw [in_13 (by omega)]
  by_cases h : t < 0
  · simp (disch := first | omega | exact am_fit_z0 | exact am_fit_z1 | (apply am_fit_zc <;> omega)) only [w13_0, w13_1, w13_4, w13_5, w13_6, w13_9, w13_10, w13_13, w13_14, am_fit_i, am_isR, am_okA, exists_eq_left', exists_eq_left, Option.some.injEq, true_and, and_true, List.length_cons, List.length_nil, List.drop_succ_cons, List.drop_zero, List.all_cons, List.all_nil, am_c1, Bool.and_true, Bool.true_and, Bool.and_self, decide_true, decide_false, if_true, if_false, beq_self_eq_true, Nat.reduceAdd, Nat.reduceLeDiff, Nat.reduceLT, Nat.reduceEqDiff, Nat.reduceSub, ite_true, ite_false, and_self, eq_self, am_z_add, am_z_sub, am_z_mul, Int.reduceAdd, Int.reduceSub, Int.reduceMul, Int.reduceLT, Int.reduceLE, Int.reduceEq, Int.reduceNeg, am_then_i, am_then_r, am_then_v, Nat.add_eq, Nat.zero_add, Nat.add_zero, am_fit_z0, am_fit_z1, am_fit_zc, ↓reduceIte, am_lt_T, am_lt_F, am_le_T, am_le_F, am_eq_T, am_eq_F, am_z_lt, am_z_le, am_z_eq, am_z_char, am_set_se, am_set_sk, am_set_sh]
  · simp (disch := first | omega | exact am_fit_z0 | exact am_fit_z1 | (apply am_fit_zc <;> omega)) only [w13_0, w13_1, w13_4, w13_5, w13_6, w13_9, w13_10, w13_13, w13_14, am_fit_i, am_isR, am_okA, exists_eq_left', exists_eq_left, Option.some.injEq, true_and, and_true, List.length_cons, List.length_nil, List.drop_succ_cons, List.drop_zero, List.all_cons, List.all_nil, am_c1, Bool.and_true, Bool.true_and, Bool.and_self, decide_true, decide_false, if_true, if_false, beq_self_eq_true, Nat.reduceAdd, Nat.reduceLeDiff, Nat.reduceLT, Nat.reduceEqDiff, Nat.reduceSub, ite_true, ite_false, and_self, eq_self, am_z_add, am_z_sub, am_z_mul, Int.reduceAdd, Int.reduceSub, Int.reduceMul, Int.reduceLT, Int.reduceLE, Int.reduceEq, Int.reduceNeg, am_then_i, am_then_r, am_then_v, Nat.add_eq, Nat.zero_add, Nat.add_zero, am_fit_z0, am_fit_z1, am_fit_zc, ↓reduceIte, am_lt_T, am_lt_F, am_le_T, am_le_F, am_eq_T, am_eq_F, am_z_lt, am_z_le, am_z_eq, am_z_char, am_set_se, am_set_sk, am_set_sh]
theorem do_isBinder_t {d : Nat} {n : am_N} {X : Nat × (Nat → Int32)} {S : am_St} {Q : Option Value → am_N → am_M → Prop} {t : Int} (hd : 1 ≤ d) (h0 : 1 ≤ t) (h1 : t ≤ 2) : am_Do d 14 [.int (am_z t)] n (am_m X S) Q = Q (some (.int (am_z 1))) n (am_m X S) := by
  rw [in_14 (by omega)]
  by_cases h : t = 1
  · simp (disch := first | omega | exact am_fit_z0 | exact am_fit_z1 | (apply am_fit_zc <;> omega)) only [w14_0, w14_1, w14_2, w14_5, w14_6, w14_7, w14_10, w14_11, w14_14, w14_15, am_fit_i, am_isR, am_okA, exists_eq_left', exists_eq_left, Option.some.injEq, true_and, and_true, List.length_cons, List.length_nil, List.drop_succ_cons, List.drop_zero, List.all_cons, List.all_nil, am_c1, Bool.and_true, Bool.true_and, Bool.and_self, decide_true, decide_false, if_true, if_false, beq_self_eq_true, Nat.reduceAdd, Nat.reduceLeDiff, Nat.reduceLT, Nat.reduceEqDiff, Nat.reduceSub, ite_true, ite_false, and_self, eq_self, am_z_add, am_z_sub, am_z_mul, Int.reduceAdd, Int.reduceSub, Int.reduceMul, Int.reduceLT, Int.reduceLE, Int.reduceEq, Int.reduceNeg, am_then_i, am_then_r, am_then_v, Nat.add_eq, Nat.zero_add, Nat.add_zero, am_fit_z0, am_fit_z1, am_fit_zc, ↓reduceIte, am_lt_T, am_lt_F, am_le_T, am_le_F, am_eq_T, am_eq_F, am_z_lt, am_z_le, am_z_eq, am_z_char, am_set_se, am_set_sk, am_set_sh]
  · simp (disch := first | omega | exact am_fit_z0 | exact am_fit_z1 | (apply am_fit_zc <;> omega)) only [w14_0, w14_1, w14_2, w14_5, w14_6, w14_7, w14_10, w14_11, w14_14, w14_15, am_fit_i, am_isR, am_okA, exists_eq_left', exists_eq_left, Option.some.injEq, true_and, and_true, List.length_cons, List.length_nil, List.drop_succ_cons, List.drop_zero, List.all_cons, List.all_nil, am_c1, Bool.and_true, Bool.true_and, Bool.and_self, decide_true, decide_false, if_true, if_false, beq_self_eq_true, Nat.reduceAdd, Nat.reduceLeDiff, Nat.reduceLT, Nat.reduceEqDiff, Nat.reduceSub, ite_true, ite_false, and_self, eq_self, am_z_add, am_z_sub, am_z_mul, Int.reduceAdd, Int.reduceSub, Int.reduceMul, Int.reduceLT, Int.reduceLE, Int.reduceEq, Int.reduceNeg, am_then_i, am_then_r, am_then_v, Nat.add_eq, Nat.zero_add, Nat.add_zero, am_fit_z0, am_fit_z1, am_fit_zc, ↓reduceIte, am_lt_T, am_lt_F, am_le_T, am_le_F, am_eq_T, am_eq_F, am_z_lt, am_z_le, am_z_eq, am_z_char, am_set_se, am_set_sk, am_set_sh]
theorem do_isBinder_f {d : Nat} {n : am_N} {X : Nat × (Nat → Int32)} {S : am_St} {Q : Option Value → am_N → am_M → Prop} {t : Int} (hd : 1 ≤ d) (h0 : t < 1 ∨ 2 < t) (h1 : -2147483648 ≤ t) (h2 : t < 2147483648) : am_Do d 14 [.int (am_z t)] n (am_m X S) Q = Q (some (.int (am_z 0))) n (am_m X S) := by
  rw [in_14 (by omega)]
  simp (disch := first | omega | exact am_fit_z0 | exact am_fit_z1 | (apply am_fit_zc <;> omega)) only [w14_0, w14_1, w14_2, w14_5, w14_6, w14_7, w14_10, w14_11, w14_14, w14_15, am_fit_i, am_isR, am_okA, exists_eq_left', exists_eq_left, Option.some.injEq, true_and, and_true, List.length_cons, List.length_nil, List.drop_succ_cons, List.drop_zero, List.all_cons, List.all_nil, am_c1, Bool.and_true, Bool.true_and, Bool.and_self, decide_true, decide_false, if_true, if_false, beq_self_eq_true, Nat.reduceAdd, Nat.reduceLeDiff, Nat.reduceLT, Nat.reduceEqDiff, Nat.reduceSub, ite_true, ite_false, and_self, eq_self, am_z_add, am_z_sub, am_z_mul, Int.reduceAdd, Int.reduceSub, Int.reduceMul, Int.reduceLT, Int.reduceLE, Int.reduceEq, Int.reduceNeg, am_then_i, am_then_r, am_then_v, Nat.add_eq, Nat.zero_add, Nat.add_zero, am_fit_z0, am_fit_z1, am_fit_zc, ↓reduceIte, am_lt_T, am_lt_F, am_le_T, am_le_F, am_eq_T, am_eq_F, am_z_lt, am_z_le, am_z_eq, am_z_char, am_set_se, am_set_sk, am_set_sh]
theorem do_isName_t {d : Nat} {n : am_N} {X : Nat × (Nat → Int32)} {S : am_St} {Q : Option Value → am_N → am_M → Prop} {t : Int} (hd : 1 ≤ d) (h0 : 10 ≤ t) (h1 : t ≤ 17) : am_Do d 15 [.int (am_z t)] n (am_m X S) Q = Q (some (.int (am_z 1))) n (am_m X S) := by
  rw [in_15 (by omega)]
  simp (disch := first | omega | exact am_fit_z0 | exact am_fit_z1 | (apply am_fit_zc <;> omega)) only [w15_0, w15_1, w15_3, w15_6, w15_7, w15_9, w15_12, w15_13, w15_16, w15_17, am_fit_i, am_isR, am_okA, exists_eq_left', exists_eq_left, Option.some.injEq, true_and, and_true, List.length_cons, List.length_nil, List.drop_succ_cons, List.drop_zero, List.all_cons, List.all_nil, am_c1, Bool.and_true, Bool.true_and, Bool.and_self, decide_true, decide_false, if_true, if_false, beq_self_eq_true, Nat.reduceAdd, Nat.reduceLeDiff, Nat.reduceLT, Nat.reduceEqDiff, Nat.reduceSub, ite_true, ite_false, and_self, eq_self, am_z_add, am_z_sub, am_z_mul, Int.reduceAdd, Int.reduceSub, Int.reduceMul, Int.reduceLT, Int.reduceLE, Int.reduceEq, Int.reduceNeg, am_then_i, am_then_r, am_then_v, Nat.add_eq, Nat.zero_add, Nat.add_zero, am_fit_z0, am_fit_z1, am_fit_zc, ↓reduceIte, am_lt_T, am_lt_F, am_le_T, am_le_F, am_eq_T, am_eq_F, am_z_lt, am_z_le, am_z_eq, am_z_char, am_set_se, am_set_sk, am_set_sh]
theorem do_isName_f {d : Nat} {n : am_N} {X : Nat × (Nat → Int32)} {S : am_St} {Q : Option Value → am_N → am_M → Prop} {t : Int} (hd : 1 ≤ d) (h0 : t < 10 ∨ 17 < t) (h1 : -2147483648 ≤ t) (h2 : t < 2147483648) : am_Do d 15 [.int (am_z t)] n (am_m X S) Q = Q (some (.int (am_z 0))) n (am_m X S) := by
  rw [in_15 (by omega)]
  by_cases h : t < 10
  · simp (disch := first | omega | exact am_fit_z0 | exact am_fit_z1 | (apply am_fit_zc <;> omega)) only [w15_0, w15_1, w15_3, w15_6, w15_7, w15_9, w15_12, w15_13, w15_16, w15_17, am_fit_i, am_isR, am_okA, exists_eq_left', exists_eq_left, Option.some.injEq, true_and, and_true, List.length_cons, List.length_nil, List.drop_succ_cons, List.drop_zero, List.all_cons, List.all_nil, am_c1, Bool.and_true, Bool.true_and, Bool.and_self, decide_true, decide_false, if_true, if_false, beq_self_eq_true, Nat.reduceAdd, Nat.reduceLeDiff, Nat.reduceLT, Nat.reduceEqDiff, Nat.reduceSub, ite_true, ite_false, and_self, eq_self, am_z_add, am_z_sub, am_z_mul, Int.reduceAdd, Int.reduceSub, Int.reduceMul, Int.reduceLT, Int.reduceLE, Int.reduceEq, Int.reduceNeg, am_then_i, am_then_r, am_then_v, Nat.add_eq, Nat.zero_add, Nat.add_zero, am_fit_z0, am_fit_z1, am_fit_zc, ↓reduceIte, am_lt_T, am_lt_F, am_le_T, am_le_F, am_eq_T, am_eq_F, am_z_lt, am_z_le, am_z_eq, am_z_char, am_set_se, am_set_sk, am_set_sh]
  · simp (disch := first | omega | exact am_fit_z0 | exact am_fit_z1 | (apply am_fit_zc <;> omega)) only [w15_0, w15_1, w15_3, w15_6, w15_7, w15_9, w15_12, w15_13, w15_16, w15_17, am_fit_i, am_isR, am_okA, exists_eq_left', exists_eq_left, Option.some.injEq, true_and, and_true, List.length_cons, List.length_nil, List.drop_succ_cons, List.drop_zero, List.all_cons, List.all_nil, am_c1, Bool.and_true, Bool.true_and, Bool.and_self, decide_true, decide_false, if_true, if_false, beq_self_eq_true, Nat.reduceAdd, Nat.reduceLeDiff, Nat.reduceLT, Nat.reduceEqDiff, Nat.reduceSub, ite_true, ite_false, and_self, eq_self, am_z_add, am_z_sub, am_z_mul, Int.reduceAdd, Int.reduceSub, Int.reduceMul, Int.reduceLT, Int.reduceLE, Int.reduceEq, Int.reduceNeg, am_then_i, am_then_r, am_then_v, Nat.add_eq, Nat.zero_add, Nat.add_zero, am_fit_z0, am_fit_z1, am_fit_zc, ↓reduceIte, am_lt_T, am_lt_F, am_le_T, am_le_F, am_eq_T, am_eq_F, am_z_lt, am_z_le, am_z_eq, am_z_char, am_set_se, am_set_sk, am_set_sh]
theorem do_isNumber_t {d : Nat} {n : am_N} {X : Nat × (Nat → Int32)} {S : am_St} {Q : Option Value → am_N → am_M → Prop} {t : Int} (hd : 1 ≤ d) (h0 : 20 ≤ t) (h1 : t ≤ 40) : am_Do d 16 [.int (am_z t)] n (am_m X S) Q = Q (some (.int (am_z 1))) n (am_m X S) := by
  rw [in_16 (by omega)]
  simp (disch := first | omega | exact am_fit_z0 | exact am_fit_z1 | (apply am_fit_zc <;> omega)) only [w16_0, w16_1, w16_3, w16_6, w16_7, w16_9, w16_12, w16_13, w16_16, w16_17, am_fit_i, am_isR, am_okA, exists_eq_left', exists_eq_left, Option.some.injEq, true_and, and_true, List.length_cons, List.length_nil, List.drop_succ_cons, List.drop_zero, List.all_cons, List.all_nil, am_c1, Bool.and_true, Bool.true_and, Bool.and_self, decide_true, decide_false, if_true, if_false, beq_self_eq_true, Nat.reduceAdd, Nat.reduceLeDiff, Nat.reduceLT, Nat.reduceEqDiff, Nat.reduceSub, ite_true, ite_false, and_self, eq_self, am_z_add, am_z_sub, am_z_mul, Int.reduceAdd, Int.reduceSub, Int.reduceMul, Int.reduceLT, Int.reduceLE, Int.reduceEq, Int.reduceNeg, am_then_i, am_then_r, am_then_v, Nat.add_eq, Nat.zero_add, Nat.add_zero, am_fit_z0, am_fit_z1, am_fit_zc, ↓reduceIte, am_lt_T, am_lt_F, am_le_T, am_le_F, am_eq_T, am_eq_F, am_z_lt, am_z_le, am_z_eq, am_z_char, am_set_se, am_set_sk, am_set_sh]
theorem do_isNumber_f {d : Nat} {n : am_N} {X : Nat × (Nat → Int32)} {S : am_St} {Q : Option Value → am_N → am_M → Prop} {t : Int} (hd : 1 ≤ d) (h0 : t < 20 ∨ 40 < t) (h1 : -2147483648 ≤ t) (h2 : t < 2147483648) : am_Do d 16 [.int (am_z t)] n (am_m X S) Q = Q (some (.int (am_z 0))) n (am_m X S) := by
  rw [in_16 (by omega)]
  by_cases h : t < 20
  · simp (disch := first | omega | exact am_fit_z0 | exact am_fit_z1 | (apply am_fit_zc <;> omega)) only [w16_0, w16_1, w16_3, w16_6, w16_7, w16_9, w16_12, w16_13, w16_16, w16_17, am_fit_i, am_isR, am_okA, exists_eq_left', exists_eq_left, Option.some.injEq, true_and, and_true, List.length_cons, List.length_nil, List.drop_succ_cons, List.drop_zero, List.all_cons, List.all_nil, am_c1, Bool.and_true, Bool.true_and, Bool.and_self, decide_true, decide_false, if_true, if_false, beq_self_eq_true, Nat.reduceAdd, Nat.reduceLeDiff, Nat.reduceLT, Nat.reduceEqDiff, Nat.reduceSub, ite_true, ite_false, and_self, eq_self, am_z_add, am_z_sub, am_z_mul, Int.reduceAdd, Int.reduceSub, Int.reduceMul, Int.reduceLT, Int.reduceLE, Int.reduceEq, Int.reduceNeg, am_then_i, am_then_r, am_then_v, Nat.add_eq, Nat.zero_add, Nat.add_zero, am_fit_z0, am_fit_z1, am_fit_zc, ↓reduceIte, am_lt_T, am_lt_F, am_le_T, am_le_F, am_eq_T, am_eq_F, am_z_lt, am_z_le, am_z_eq, am_z_char, am_set_se, am_set_sk, am_set_sh]
  · simp (disch := first | omega | exact am_fit_z0 | exact am_fit_z1 | (apply am_fit_zc <;> omega)) only [w16_0, w16_1, w16_3, w16_6, w16_7, w16_9, w16_12, w16_13, w16_16, w16_17, am_fit_i, am_isR, am_okA, exists_eq_left', exists_eq_left, Option.some.injEq, true_and, and_true, List.length_cons, List.length_nil, List.drop_succ_cons, List.drop_zero, List.all_cons, List.all_nil, am_c1, Bool.and_true, Bool.true_and, Bool.and_self, decide_true, decide_false, if_true, if_false, beq_self_eq_true, Nat.reduceAdd, Nat.reduceLeDiff, Nat.reduceLT, Nat.reduceEqDiff, Nat.reduceSub, ite_true, ite_false, and_self, eq_self, am_z_add, am_z_sub, am_z_mul, Int.reduceAdd, Int.reduceSub, Int.reduceMul, Int.reduceLT, Int.reduceLE, Int.reduceEq, Int.reduceNeg, am_then_i, am_then_r, am_then_v, Nat.add_eq, Nat.zero_add, Nat.add_zero, am_fit_z0, am_fit_z1, am_fit_zc, ↓reduceIte, am_lt_T, am_lt_F, am_le_T, am_le_F, am_eq_T, am_eq_F, am_z_lt, am_z_le, am_z_eq, am_z_char, am_set_se, am_set_sk, am_set_sh]
theorem do_isLetter_t {d : Nat} {n : am_N} {X : Nat × (Nat → Int32)} {S : am_St} {Q : Option Value → am_N → am_M → Prop} {t : Int} (hd : 1 ≤ d) (h0 : 50 ≤ t) (h1 : t < 2147483648) : am_Do d 17 [.int (am_z t)] n (am_m X S) Q = Q (some (.int (am_z 1))) n (am_m X S) := by
  rw [in_17 (by omega)]
  simp (disch := first | omega | exact am_fit_z0 | exact am_fit_z1 | (apply am_fit_zc <;> omega)) only [w17_0, w17_1, w17_3, w17_6, w17_7, w17_10, w17_11, am_fit_i, am_isR, am_okA, exists_eq_left', exists_eq_left, Option.some.injEq, true_and, and_true, List.length_cons, List.length_nil, List.drop_succ_cons, List.drop_zero, List.all_cons, List.all_nil, am_c1, Bool.and_true, Bool.true_and, Bool.and_self, decide_true, decide_false, if_true, if_false, beq_self_eq_true, Nat.reduceAdd, Nat.reduceLeDiff, Nat.reduceLT, Nat.reduceEqDiff, Nat.reduceSub, ite_true, ite_false, and_self, eq_self, am_z_add, am_z_sub, am_z_mul, Int.reduceAdd, Int.reduceSub, Int.reduceMul, Int.reduceLT, Int.reduceLE, Int.reduceEq, Int.reduceNeg, am_then_i, am_then_r, am_then_v, Nat.add_eq, Nat.zero_add, Nat.add_zero, am_fit_z0, am_fit_z1, am_fit_zc, ↓reduceIte, am_lt_T, am_lt_F, am_le_T, am_le_F, am_eq_T, am_eq_F, am_z_lt, am_z_le, am_z_eq, am_z_char, am_set_se, am_set_sk, am_set_sh]
theorem do_isLetter_f {d : Nat} {n : am_N} {X : Nat × (Nat → Int32)} {S : am_St} {Q : Option Value → am_N → am_M → Prop} {t : Int} (hd : 1 ≤ d) (h0 : t < 50) (h1 : -2147483648 ≤ t) : am_Do d 17 [.int (am_z t)] n (am_m X S) Q = Q (some (.int (am_z 0))) n (am_m X S) := by
  rw [in_17 (by omega)]
  simp (disch := first | omega | exact am_fit_z0 | exact am_fit_z1 | (apply am_fit_zc <;> omega)) only [w17_0, w17_1, w17_3, w17_6, w17_7, w17_10, w17_11, am_fit_i, am_isR, am_okA, exists_eq_left', exists_eq_left, Option.some.injEq, true_and, and_true, List.length_cons, List.length_nil, List.drop_succ_cons, List.drop_zero, List.all_cons, List.all_nil, am_c1, Bool.and_true, Bool.true_and, Bool.and_self, decide_true, decide_false, if_true, if_false, beq_self_eq_true, Nat.reduceAdd, Nat.reduceLeDiff, Nat.reduceLT, Nat.reduceEqDiff, Nat.reduceSub, ite_true, ite_false, and_self, eq_self, am_z_add, am_z_sub, am_z_mul, Int.reduceAdd, Int.reduceSub, Int.reduceMul, Int.reduceLT, Int.reduceLE, Int.reduceEq, Int.reduceNeg, am_then_i, am_then_r, am_then_v, Nat.add_eq, Nat.zero_add, Nat.add_zero, am_fit_z0, am_fit_z1, am_fit_zc, ↓reduceIte, am_lt_T, am_lt_F, am_le_T, am_le_F, am_eq_T, am_eq_F, am_z_lt, am_z_le, am_z_eq, am_z_char, am_set_se, am_set_sk, am_set_sh]
def am_fl (F : List am_T) : List Int := F.flatMap am_lay
theorem am_fl_nil : am_fl [] = [] := rfl
theorem am_fl_leaf {z : Int} {F : List am_T} : am_fl (.leaf z :: F) = z :: am_fl F := rfl
theorem am_fl_branch {k : Nat} {a b : am_T} {F : List am_T} : am_fl (.branch k a b :: F) = (k : Int) :: am_fl (a :: b :: F) := by
  show (k : Int) :: (am_lay a ++ am_lay b) ++ am_fl F = (k : Int) :: (am_lay a ++ (am_lay b ++ am_fl F))
  rw [List.cons_append, List.append_assoc]
theorem am_fl_len {F : List am_T} : F.length ≤ (am_fl F).length := by
  induction F with
  | nil => exact Nat.le_refl 0
  | cons t F ih =>
    show F.length + 1 ≤ (am_lay t ++ am_fl F).length
    rw [List.length_append, am_lay_len]
    have := am_sz_pos t
    omega
theorem am_fl_one {t : am_T} : am_fl [t] = am_lay t := by
  show am_lay t ++ [] = _
  rw [List.append_nil]
theorem en_loop {d : Nat} {n : am_N} {X : Nat × (Nat → Int32)} {S : am_St} {Q : Option Value → am_N → am_M → Prop} {r c : Nat} {a1 : Value} (hd : 1 ≤ d) (hw : am_rw r c) (h1 : S r 1 ≤ c) : ∀ (m : Nat) {F : List am_T} {i : Int}, (am_fl F).length ≤ m → (∀ t ∈ F, am_gd t) → 0 ≤ i → i + (am_fl F).length ≤ S r 1 → am_sg (S (r + 1)) i (am_fl F) → am_AW d 115 (4, [.ref r, a1, .int (am_z F.length), .int (am_z i)], [], n, am_m X S) Q = Q (some (.int (am_z (i + (am_fl F).length)))) n (am_m X S)
  | m, [], i, hm, hg, h0, h2, h3 => by
    have hc := hw.2.1
    rw [am_fl_nil, List.length_nil] at h2 ⊢
    rw [w115_4]
    by_cases hi : i < S r 1
    · simp (disch := first | omega | exact am_fit_z0 | exact am_fit_z1 | (apply am_fit_zc <;> omega)) only [w115_0, w115_1, w115_2, w115_3, w115_5, w115_6, w115_9, w115_12, w115_13, w115_16, w115_17, w115_18, w115_19, w115_22, w115_25, w115_28, w115_29, w115_32, w115_33, w115_34, w115_35, w115_38, w115_41, w115_42, am_fit_i, am_isR, am_okA, exists_eq_left', exists_eq_left, Option.some.injEq, true_and, and_true, List.length_cons, List.length_nil, List.drop_succ_cons, List.drop_zero, List.all_cons, List.all_nil, am_c1, Bool.and_true, Bool.true_and, Bool.and_self, decide_true, decide_false, if_true, if_false, beq_self_eq_true, Nat.reduceAdd, Nat.reduceLeDiff, Nat.reduceLT, Nat.reduceEqDiff, Nat.reduceSub, ite_true, ite_false, and_self, eq_self, am_z_add, am_z_sub, am_z_mul, Int.reduceAdd, Int.reduceSub, Int.reduceMul, Int.reduceLT, Int.reduceLE, Int.reduceEq, Int.reduceNeg, am_then_i, am_then_r, am_then_v, Nat.add_eq, Nat.zero_add, Nat.add_zero, am_fit_z0, am_fit_z1, am_fit_zc, ↓reduceIte, am_lt_T, am_lt_F, am_le_T, am_le_F, am_eq_T, am_eq_F, am_z_lt, am_z_le, am_z_eq, am_z_char, am_set_se, am_set_sk, am_set_sh, rw_f1 hw, Int.natCast_zero, Int.add_zero, Int.cast_ofNat_Int]
    · simp (disch := first | omega | exact am_fit_z0 | exact am_fit_z1 | (apply am_fit_zc <;> omega)) only [w115_0, w115_1, w115_2, w115_3, w115_5, w115_6, w115_9, w115_12, w115_13, w115_16, w115_17, w115_18, w115_19, w115_22, w115_25, w115_28, w115_29, w115_32, w115_33, w115_34, w115_35, w115_38, w115_41, w115_42, am_fit_i, am_isR, am_okA, exists_eq_left', exists_eq_left, Option.some.injEq, true_and, and_true, List.length_cons, List.length_nil, List.drop_succ_cons, List.drop_zero, List.all_cons, List.all_nil, am_c1, Bool.and_true, Bool.true_and, Bool.and_self, decide_true, decide_false, if_true, if_false, beq_self_eq_true, Nat.reduceAdd, Nat.reduceLeDiff, Nat.reduceLT, Nat.reduceEqDiff, Nat.reduceSub, ite_true, ite_false, and_self, eq_self, am_z_add, am_z_sub, am_z_mul, Int.reduceAdd, Int.reduceSub, Int.reduceMul, Int.reduceLT, Int.reduceLE, Int.reduceEq, Int.reduceNeg, am_then_i, am_then_r, am_then_v, Nat.add_eq, Nat.zero_add, Nat.add_zero, am_fit_z0, am_fit_z1, am_fit_zc, ↓reduceIte, am_lt_T, am_lt_F, am_le_T, am_le_F, am_eq_T, am_eq_F, am_z_lt, am_z_le, am_z_eq, am_z_char, am_set_se, am_set_sk, am_set_sh, rw_f1 hw, Int.natCast_zero, Int.add_zero, Int.cast_ofNat_Int]
  | 0, t :: F, i, hm, hg, h0, h2, h3 => by
    exfalso
    have := am_sz_pos t
    have e : (am_fl (t :: F)).length = am_sz t + (am_fl F).length := by
      show (am_lay t ++ am_fl F).length = _
      rw [List.length_append, am_lay_len]
    omega
  | m + 1, .leaf z :: F, i, hm, hg, h0, h2, h3 => by
    have hc := hw.2.1
    have hz : 3 ≤ z ∧ z < 1000 := hg (.leaf z) (List.mem_cons_self)
    rw [am_fl_leaf] at hm h2 h3 ⊢
    rw [List.length_cons] at hm h2
    obtain ⟨hv, h3'⟩ := am_sg_cons.mp h3
    rw [w115_4]
    have e : (((Lean.RArray.leaf z :: F : List am_T).length : Nat) : Int) = (F.length : Int) + 1 := by rw [List.length_cons]; omega
    rw [e]
    have eF := am_fl_len (F := F)
    simp (disch := first | omega | exact am_fit_z0 | exact am_fit_z1 | (apply am_fit_zc <;> omega)) only [w115_0, w115_1, w115_2, w115_3, w115_5, w115_6, w115_9, w115_12, w115_13, w115_16, w115_17, w115_18, w115_19, w115_22, w115_25, w115_28, w115_29, w115_32, w115_33, w115_34, w115_35, w115_38, w115_41, w115_42, am_fit_i, am_isR, am_okA, exists_eq_left', exists_eq_left, Option.some.injEq, true_and, and_true, List.length_cons, List.length_nil, List.drop_succ_cons, List.drop_zero, List.all_cons, List.all_nil, am_c1, Bool.and_true, Bool.true_and, Bool.and_self, decide_true, decide_false, if_true, if_false, beq_self_eq_true, Nat.reduceAdd, Nat.reduceLeDiff, Nat.reduceLT, Nat.reduceEqDiff, Nat.reduceSub, ite_true, ite_false, and_self, eq_self, am_z_add, am_z_sub, am_z_mul, Int.reduceAdd, Int.reduceSub, Int.reduceMul, Int.reduceLT, Int.reduceLE, Int.reduceEq, Int.reduceNeg, am_then_i, am_then_r, am_then_v, Nat.add_eq, Nat.zero_add, Nat.add_zero, am_fit_z0, am_fit_z1, am_fit_zc, ↓reduceIte, am_lt_T, am_lt_F, am_le_T, am_le_F, am_eq_T, am_eq_F, am_z_lt, am_z_le, am_z_eq, am_z_char, am_set_se, am_set_sk, am_set_sh, rw_f1 hw, rw_o hw, do_at_in hw, hv, do_isPair_t, do_isPair_f, do_isBinder_t, do_isBinder_f, do_isName_t, do_isName_f, do_isNumber_t, do_isNumber_f, do_isLetter_t, do_isLetter_f]
    have ih := en_loop (d := d) (n := n) (X := X) (Q := Q) (a1 := a1) hd hw h1 m (F := F) (i := i + 1) (by omega) (fun t ht => hg t (List.mem_cons_of_mem _ ht)) (by omega) (by omega) h3'
    rw [show (F.length : Int) + 1 + -1 = F.length by omega, ih, show i + 1 + ((am_fl F).length : Int) = i + (((am_fl F).length + 1 : Nat) : Int) by omega]
  | m + 1, .branch k a b :: F, i, hm, hg, h0, h2, h3 => by
    have hc := hw.2.1
    have hz : k ≤ 2 ∧ am_gd a ∧ am_gd b := hg (.branch k a b) (List.mem_cons_self)
    rw [am_fl_branch] at hm h2 h3 ⊢
    rw [List.length_cons] at hm h2
    obtain ⟨hv, h3'⟩ := am_sg_cons.mp h3
    rw [w115_4]
    have e : (((Lean.RArray.branch k a b :: F : List am_T).length : Nat) : Int) = (F.length : Int) + 1 := by rw [List.length_cons]; omega
    rw [e]
    have eF := am_fl_len (F := a :: b :: F)
    rw [List.length_cons, List.length_cons] at eF
    simp (disch := first | omega | exact am_fit_z0 | exact am_fit_z1 | (apply am_fit_zc <;> omega)) only [w115_0, w115_1, w115_2, w115_3, w115_5, w115_6, w115_9, w115_12, w115_13, w115_16, w115_17, w115_18, w115_19, w115_22, w115_25, w115_28, w115_29, w115_32, w115_33, w115_34, w115_35, w115_38, w115_41, w115_42, am_fit_i, am_isR, am_okA, exists_eq_left', exists_eq_left, Option.some.injEq, true_and, and_true, List.length_cons, List.length_nil, List.drop_succ_cons, List.drop_zero, List.all_cons, List.all_nil, am_c1, Bool.and_true, Bool.true_and, Bool.and_self, decide_true, decide_false, if_true, if_false, beq_self_eq_true, Nat.reduceAdd, Nat.reduceLeDiff, Nat.reduceLT, Nat.reduceEqDiff, Nat.reduceSub, ite_true, ite_false, and_self, eq_self, am_z_add, am_z_sub, am_z_mul, Int.reduceAdd, Int.reduceSub, Int.reduceMul, Int.reduceLT, Int.reduceLE, Int.reduceEq, Int.reduceNeg, am_then_i, am_then_r, am_then_v, Nat.add_eq, Nat.zero_add, Nat.add_zero, am_fit_z0, am_fit_z1, am_fit_zc, ↓reduceIte, am_lt_T, am_lt_F, am_le_T, am_le_F, am_eq_T, am_eq_F, am_z_lt, am_z_le, am_z_eq, am_z_char, am_set_se, am_set_sk, am_set_sh, rw_f1 hw, rw_o hw, do_at_in hw, hv, do_isPair_t, do_isPair_f, do_isBinder_t, do_isBinder_f, do_isName_t, do_isName_f, do_isNumber_t, do_isNumber_f, do_isLetter_t, do_isLetter_f]
    have ih := en_loop (d := d) (n := n) (X := X) (Q := Q) (a1 := a1) hd hw h1 m (F := a :: b :: F) (i := i + 1) (by omega) (fun t ht => by
      rcases List.mem_cons.mp ht with rfl | ht
      · exact hz.2.1
      · rcases List.mem_cons.mp ht with rfl | ht
        · exact hz.2.2
        · exact hg t (List.mem_cons_of_mem _ ht)) (by omega) (by omega) h3'
    rw [List.length_cons, List.length_cons] at ih
    rw [show (F.length : Int) + 1 + 1 = ((F.length + 1 + 1 : Nat) : Int) by omega, ih, show i + 1 + ((am_fl (a :: b :: F)).length : Int) = i + (((am_fl (a :: b :: F)).length + 1 : Nat) : Int) by omega]
theorem do_end {d : Nat} {n : am_N} {X : Nat × (Nat → Int32)} {S : am_St} {Q : Option Value → am_N → am_M → Prop} {r c : Nat} {p : Int} {t : am_T} (hw : am_rw r c) (ht : am_sg (S (r + 1)) p (am_lay t)) (hg : am_gd t) (hd : 2 ≤ d) (h1 : S r 1 ≤ c) (h0 : 0 ≤ p) (h2 : p + am_sz t ≤ S r 1) : am_Do d 115 [.ref r, .int (am_z p)] n (am_m X S) Q = Q (some (.int (am_z (p + am_sz t)))) n (am_m X S) := by
  rw [in_115 (by omega), w115_0, w115_1, w115_2, w115_3]
  have h := en_loop (d := d - 1) (n := n) (X := X) (Q := Q) (a1 := .int (am_z p)) (by omega) hw h1 (am_fl [t]).length (F := [t]) (i := p) (Nat.le_refl _) (fun u hu => by rw [List.mem_singleton.mp hu]; exact hg) h0 (by rw [am_fl_one, am_lay_len]; exact h2) (by rw [am_fl_one]; exact ht)
  rw [am_fl_one, am_lay_len] at h
  exact h
