theorem am_hd_b : ∀ {t : am_T}, am_gd t → 0 ≤ am_hd t ∧ am_hd t < 1000
  | .leaf z, h => ⟨by have := h.1; show 0 ≤ z; omega, h.2⟩
  | .branch k _ _, h => ⟨by show 0 ≤ (k : Int); omega, by have := h.1; show (k : Int) < 1000; omega⟩
theorem am_xp_wf {tl : Nat → Bool} : ∀ {K : Nat} {t : am_T}, am_wf tl K t → am_xp t = t
  | K, .leaf z, h => by
    have : (3 ≤ z ∧ z ≤ 8) ∨ (10 ≤ z ∧ z < 18 ∧ tl (z - 10).toNat = true) ∨ (50 ≤ z ∧ z < 50 + (K : Int)) := h
    exact if_neg (by omega)
  | K, .branch k a b, h => by
    show Lean.RArray.branch k (am_xp a) (am_xp b) = _
    rw [am_xp_wf h.2.1, am_xp_wf h.2.2]
theorem am_lay_b : ∀ {t : am_T}, am_gd t → ∀ v ∈ am_lay t, 0 ≤ v ∧ v < 1000
  | .leaf z, h, v, hv => by
    cases List.mem_singleton.mp hv
    exact ⟨by have := h.1; omega, h.2⟩
  | .branch k a b, h, v, hv => by
    rcases List.mem_cons.mp hv with rfl | hv
    · have := h.1
      omega
    · rcases List.mem_append.mp hv with hv | hv
      · exact am_lay_b h.2.1 v hv
      · exact am_lay_b h.2.2 v hv
theorem am_tb_of {S : am_St} {r : Nat} {t : am_T} (hg : am_gd t) (h1 : S r 1 = am_sz t) (h2 : am_sg (S (r + 1)) 0 (am_lay t)) : am_tb S r := by
  intro i i0 i1
  have hl : i.toNat < (am_lay t).length := by rw [am_lay_len]; omega
  have e := h2 i.toNat _ (List.getElem?_eq_getElem hl)
  rw [Int.zero_add, Int.toNat_of_nonneg i0] at e
  rw [e]
  exact am_lay_b hg _ (List.getElem_mem hl)
theorem fs_no {d : Nat} {n : am_N} {X : Nat × (Nat → Int32)} {S : am_St} {Q : Option Value → am_N → am_M → Prop} {r c : Nat} (hw : am_rw r c) {i : Int} {t : am_T} {NM : Nat → Option am_T} (hd : 4 ≤ d) (h1 : 0 ≤ S r 1) (h2 : S r 1 ≤ c) (hb : am_tb S r) (ht : am_tr S r i t) (hg : am_gd t) (hn : (am_rd NM t).isSome = false) : am_AW d 103 (2, [.ref r, .int (am_z i)], [], n, am_m X S) Q = am_AW d 103 (2, [.ref r, .int (am_z (i + 1))], [], n, am_m X S) Q := by
  have hc := hw.2.1
  have hh := am_hd_b hg
  have ha := am_tr_hd ht
  have i0 := ht.1
  have i1 := ht.2.1
  have sp := am_sz_pos t
  have i2 : i < 2147483000 := by omega
  have hd1 : 3 ≤ d := by omega
  rw [w103_2]
  rcases am_rd_is (NM := NM) (t := t) with e | e
  · rw [hn] at e
    have e := e.symm
    simp only [Bool.or_eq_false_iff, decide_eq_false_iff_not] at e
    obtain ⟨⟨e1, e2⟩, e3⟩ := e
    simp (disch := first | omega | exact am_fit_z0 | exact am_fit_z1 | (apply am_fit_zc <;> omega)) only [w103_0, w103_1, w103_3, w103_4, w103_7, w103_10, w103_11, w103_12, w103_15, w103_18, w103_21, w103_22, w103_23, w103_26, w103_29, w103_30, w103_31, w103_34, w103_37, w103_38, w103_39, w103_42, w103_45, w103_46, am_fit_i, am_isR, am_okA, exists_eq_left', exists_eq_left, Option.some.injEq, true_and, and_true, List.length_cons, List.length_nil, List.drop_succ_cons, List.drop_zero, List.all_cons, List.all_nil, am_c1, Bool.and_true, Bool.true_and, Bool.and_self, decide_true, decide_false, if_true, if_false, beq_self_eq_true, Nat.reduceAdd, Nat.reduceLeDiff, Nat.reduceLT, Nat.reduceEqDiff, Nat.reduceSub, ite_true, ite_false, and_self, eq_self, am_z_add, am_z_sub, am_z_mul, Int.reduceAdd, Int.reduceSub, Int.reduceMul, Int.reduceLT, Int.reduceLE, Int.reduceEq, Int.reduceNeg, am_then_i, am_then_r, am_then_v, Nat.add_eq, Nat.zero_add, Nat.add_zero, am_fit_z0, am_fit_z1, am_fit_zc, ↓reduceIte, am_lt_T, am_lt_F, am_le_T, am_le_F, am_eq_T, am_eq_F, am_z_lt, am_z_le, am_z_eq, am_z_char, am_set_se, am_set_sk, am_set_sh, rw_o hw, rw_f1 hw, do_at hw, do_isName_t, do_isName_f, do_isCall_t hw hd1 h1 h2 hb i0 i2 ht hg, do_isRec hw hd1 h1 h2 hb i0 i2 ht hg, Bool.false_eq_true, ha, e2, e3]
  · exact absurd hg e
theorem fs_yes {d : Nat} {n : am_N} {X : Nat × (Nat → Int32)} {S : am_St} {Q : Option Value → am_N → am_M → Prop} {r c : Nat} (hw : am_rw r c) {i : Int} {t : am_T} {NM : Nat → Option am_T} (hd : 4 ≤ d) (h1 : 0 ≤ S r 1) (h2 : S r 1 ≤ c) (hb : am_tb S r) (ht : am_tr S r i t) (hg : am_gd t) (hn : (am_rd NM t).isSome = true) : am_AW d 103 (2, [.ref r, .int (am_z i)], [], n, am_m X S) Q = Q (some (.int (am_z i))) n (am_m X S) := by
  have hc := hw.2.1
  have hh := am_hd_b hg
  have ha := am_tr_hd ht
  have i0 := ht.1
  have i1 := ht.2.1
  have sp := am_sz_pos t
  have i2 : i < 2147483000 := by omega
  have hd1 : 3 ≤ d := by omega
  rw [w103_2]
  rcases am_rd_is (NM := NM) (t := t) with e | e
  · rw [hn] at e
    by_cases c1 : 10 ≤ am_hd t ∧ am_hd t < 18
    · simp (disch := first | omega | exact am_fit_z0 | exact am_fit_z1 | (apply am_fit_zc <;> omega)) only [w103_0, w103_1, w103_3, w103_4, w103_7, w103_10, w103_11, w103_12, w103_15, w103_18, w103_21, w103_22, w103_23, w103_26, w103_29, w103_30, w103_31, w103_34, w103_37, w103_38, w103_39, w103_42, w103_45, w103_46, am_fit_i, am_isR, am_okA, exists_eq_left', exists_eq_left, Option.some.injEq, true_and, and_true, List.length_cons, List.length_nil, List.drop_succ_cons, List.drop_zero, List.all_cons, List.all_nil, am_c1, Bool.and_true, Bool.true_and, Bool.and_self, decide_true, decide_false, if_true, if_false, beq_self_eq_true, Nat.reduceAdd, Nat.reduceLeDiff, Nat.reduceLT, Nat.reduceEqDiff, Nat.reduceSub, ite_true, ite_false, and_self, eq_self, am_z_add, am_z_sub, am_z_mul, Int.reduceAdd, Int.reduceSub, Int.reduceMul, Int.reduceLT, Int.reduceLE, Int.reduceEq, Int.reduceNeg, am_then_i, am_then_r, am_then_v, Nat.add_eq, Nat.zero_add, Nat.add_zero, am_fit_z0, am_fit_z1, am_fit_zc, ↓reduceIte, am_lt_T, am_lt_F, am_le_T, am_le_F, am_eq_T, am_eq_F, am_z_lt, am_z_le, am_z_eq, am_z_char, am_set_se, am_set_sk, am_set_sh, rw_o hw, rw_f1 hw, do_at hw, do_isName_t, do_isName_f, do_isCall_t hw hd1 h1 h2 hb i0 i2 ht hg, do_isRec hw hd1 h1 h2 hb i0 i2 ht hg, Bool.false_eq_true, ha]
    · cases c2 : am_isc t with
      | true =>
        simp (disch := first | omega | exact am_fit_z0 | exact am_fit_z1 | (apply am_fit_zc <;> omega)) only [w103_0, w103_1, w103_3, w103_4, w103_7, w103_10, w103_11, w103_12, w103_15, w103_18, w103_21, w103_22, w103_23, w103_26, w103_29, w103_30, w103_31, w103_34, w103_37, w103_38, w103_39, w103_42, w103_45, w103_46, am_fit_i, am_isR, am_okA, exists_eq_left', exists_eq_left, Option.some.injEq, true_and, and_true, List.length_cons, List.length_nil, List.drop_succ_cons, List.drop_zero, List.all_cons, List.all_nil, am_c1, Bool.and_true, Bool.true_and, Bool.and_self, decide_true, decide_false, if_true, if_false, beq_self_eq_true, Nat.reduceAdd, Nat.reduceLeDiff, Nat.reduceLT, Nat.reduceEqDiff, Nat.reduceSub, ite_true, ite_false, and_self, eq_self, am_z_add, am_z_sub, am_z_mul, Int.reduceAdd, Int.reduceSub, Int.reduceMul, Int.reduceLT, Int.reduceLE, Int.reduceEq, Int.reduceNeg, am_then_i, am_then_r, am_then_v, Nat.add_eq, Nat.zero_add, Nat.add_zero, am_fit_z0, am_fit_z1, am_fit_zc, ↓reduceIte, am_lt_T, am_lt_F, am_le_T, am_le_F, am_eq_T, am_eq_F, am_z_lt, am_z_le, am_z_eq, am_z_char, am_set_se, am_set_sk, am_set_sh, rw_o hw, rw_f1 hw, do_at hw, do_isName_t, do_isName_f, do_isCall_t hw hd1 h1 h2 hb i0 i2 ht hg, do_isRec hw hd1 h1 h2 hb i0 i2 ht hg, Bool.false_eq_true, ha, c2]
      | false =>
        cases c3 : am_isr t with
        | true =>
          simp (disch := first | omega | exact am_fit_z0 | exact am_fit_z1 | (apply am_fit_zc <;> omega)) only [w103_0, w103_1, w103_3, w103_4, w103_7, w103_10, w103_11, w103_12, w103_15, w103_18, w103_21, w103_22, w103_23, w103_26, w103_29, w103_30, w103_31, w103_34, w103_37, w103_38, w103_39, w103_42, w103_45, w103_46, am_fit_i, am_isR, am_okA, exists_eq_left', exists_eq_left, Option.some.injEq, true_and, and_true, List.length_cons, List.length_nil, List.drop_succ_cons, List.drop_zero, List.all_cons, List.all_nil, am_c1, Bool.and_true, Bool.true_and, Bool.and_self, decide_true, decide_false, if_true, if_false, beq_self_eq_true, Nat.reduceAdd, Nat.reduceLeDiff, Nat.reduceLT, Nat.reduceEqDiff, Nat.reduceSub, ite_true, ite_false, and_self, eq_self, am_z_add, am_z_sub, am_z_mul, Int.reduceAdd, Int.reduceSub, Int.reduceMul, Int.reduceLT, Int.reduceLE, Int.reduceEq, Int.reduceNeg, am_then_i, am_then_r, am_then_v, Nat.add_eq, Nat.zero_add, Nat.add_zero, am_fit_z0, am_fit_z1, am_fit_zc, ↓reduceIte, am_lt_T, am_lt_F, am_le_T, am_le_F, am_eq_T, am_eq_F, am_z_lt, am_z_le, am_z_eq, am_z_char, am_set_se, am_set_sk, am_set_sh, rw_o hw, rw_f1 hw, do_at hw, do_isName_t, do_isName_f, do_isCall_t hw hd1 h1 h2 hb i0 i2 ht hg, do_isRec hw hd1 h1 h2 hb i0 i2 ht hg, Bool.false_eq_true, ha, c2, c3]
        | false =>
          rw [c2, c3, decide_eq_false c1] at e
          cases e
  · exact absurd hg e
theorem fs_loop {d : Nat} {n : am_N} {X : Nat × (Nat → Int32)} {S : am_St} {Q : Option Value → am_N → am_M → Prop} {r c : Nat} (hw : am_rw r c) {NM : Nat → Option am_T} (hd : 4 ≤ d) (h1 : 0 ≤ S r 1) (h2 : S r 1 ≤ c) (hb : am_tb S r) : ∀ {t : am_T} {i : Int}, am_tr S r i t → am_gd t → (∀ A s B, am_fr NM t = some (A, s, B) → Q (some (.int (am_z (i + A.length)))) n (am_m X S)) → (am_fr NM t = none → am_AW d 103 (2, [.ref r, .int (am_z (i + am_sz t))], [], n, am_m X S) Q) → am_AW d 103 (2, [.ref r, .int (am_z i)], [], n, am_m X S) Q
  | .leaf z, i, ht, hg, hY, hN => by
    unfold am_fr at hY hN
    cases e : (am_rd NM (.leaf z)).isSome with
    | true =>
      rw [e] at hY
      rw [fs_yes hw hd h1 h2 hb ht hg e]
      have := hY [] _ [] rfl
      rw [List.length_nil, Int.natCast_zero, Int.add_zero] at this
      exact this
    | false =>
      rw [e] at hN
      rw [fs_no hw hd h1 h2 hb ht hg e]
      exact hN rfl
  | .branch k a b, i, ht, hg, hY, hN => by
    cases e : (am_rd NM (.branch k a b)).isSome with
    | true =>
      unfold am_fr at hY
      rw [e] at hY
      rw [fs_yes hw hd h1 h2 hb ht hg e]
      have := hY [] _ [] rfl
      rw [List.length_nil, Int.natCast_zero, Int.add_zero] at this
      exact this
    | false =>
      have ef : am_fr NM (.branch k a b) = (match am_fr NM a with
        | some (A, s, B) => some ((k : Int) :: A, s, B ++ am_lay b)
        | none => match am_fr NM b with
          | some (A, s, B) => some ((k : Int) :: (am_lay a ++ A), s, B)
          | none => none) := by
        conv => lhs; unfold am_fr
        rw [e]
        rfl
      rw [ef] at hY hN
      rw [fs_no hw hd h1 h2 hb ht hg e]
      obtain ⟨-, ta, tb⟩ := am_tr_branch ht
      refine fs_loop (NM := NM) hw hd h1 h2 hb ta hg.2.1 (fun A s B hA => ?_) (fun hA => ?_)
      · rw [hA] at hY
        have := hY _ _ _ rfl
        rw [List.length_cons, show i + ((A.length + 1 : Nat) : Int) = i + 1 + A.length by omega] at this
        exact this
      · rw [hA] at hY hN
        refine fs_loop (NM := NM) hw hd h1 h2 hb tb hg.2.2 (fun A s B hA => ?_) (fun hA => ?_)
        · rw [hA] at hY
          have := hY _ _ _ rfl
          rw [List.length_cons, List.length_append, am_lay_len, show i + ((am_sz a + A.length + 1 : Nat) : Int) = i + 1 + am_sz a + A.length by omega] at this
          exact this
        · rw [hA] at hN
          have := hN rfl
          rw [show i + (am_sz (.branch k a b) : Int) = i + 1 + am_sz a + am_sz b by show i + ((am_sz a + am_sz b + 1 : Nat) : Int) = _; omega] at this
          exact this
theorem do_firstStep {d : Nat} {n : am_N} {X : Nat × (Nat → Int32)} {S : am_St} {Q : Option Value → am_N → am_M → Prop} {r c : Nat} (hw : am_rw r c) {NM : Nat → Option am_T} {t : am_T} (hd : 5 ≤ d) (hg : am_gd t) (h1 : S r 1 = am_sz t) (h2 : am_sz t ≤ c) (h3 : am_sg (S (r + 1)) 0 (am_lay t)) (hY : ∀ A s B, am_fr NM t = some (A, s, B) → Q (some (.int (am_z A.length))) n (am_m X S)) (hN : am_fr NM t = none → Q (some (.int (am_z (-1)))) n (am_m X S)) : am_Do d 103 [.ref r] n (am_m X S) Q := by
  have hc := hw.2.1
  rw [in_103 (by omega), w103_0, w103_1]
  refine fs_loop (NM := NM) hw (by omega) (by omega) (by omega) (am_tb_of hg h1 h3) (t := t) ⟨Int.le_refl 0, by omega, h3⟩ hg (fun A s B hA => ?_) (fun hA => ?_)
  · rw [Int.zero_add]
    exact hY A s B hA
  · rw [w103_2]
    simp (disch := first | omega | exact am_fit_z0 | exact am_fit_z1 | (apply am_fit_zc <;> omega)) only [w103_0, w103_1, w103_3, w103_4, w103_7, w103_10, w103_11, w103_12, w103_15, w103_18, w103_21, w103_22, w103_23, w103_26, w103_29, w103_30, w103_31, w103_34, w103_37, w103_38, w103_39, w103_42, w103_45, w103_46, am_fit_i, am_isR, am_okA, exists_eq_left', exists_eq_left, Option.some.injEq, true_and, and_true, List.length_cons, List.length_nil, List.drop_succ_cons, List.drop_zero, List.all_cons, List.all_nil, am_c1, Bool.and_true, Bool.true_and, Bool.and_self, decide_true, decide_false, if_true, if_false, beq_self_eq_true, Nat.reduceAdd, Nat.reduceLeDiff, Nat.reduceLT, Nat.reduceEqDiff, Nat.reduceSub, ite_true, ite_false, and_self, eq_self, am_z_add, am_z_sub, am_z_mul, Int.reduceAdd, Int.reduceSub, Int.reduceMul, Int.reduceLT, Int.reduceLE, Int.reduceEq, Int.reduceNeg, am_then_i, am_then_r, am_then_v, Nat.add_eq, Nat.zero_add, Nat.add_zero, am_fit_z0, am_fit_z1, am_fit_zc, ↓reduceIte, am_lt_T, am_lt_F, am_le_T, am_le_F, am_eq_T, am_eq_F, am_z_lt, am_z_le, am_z_eq, am_z_char, am_set_se, am_set_sk, am_set_sh, rw_f1 hw, h1]
    exact hN hA
