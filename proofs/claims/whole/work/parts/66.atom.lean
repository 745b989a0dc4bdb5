def am_PK (R : Except (Int × Int) am_Re) (S : am_St) (n : am_N) (X : Nat × (Nat → Int32)) (Q : Option Value → am_N → am_M → Prop) : Prop := (∀ (S' : am_St) st', am_f9 S S' → R = .ok st' → am_RC S' st' → Q (some (.int (am_z 1))) n (am_m X S')) ∧ (∀ (S' : am_St) e p, am_f8 S S' → R = .error (e, p) → S' 2 0 = e → S' 2 1 = p → 0 ≤ S' 52 9 → S' 52 9 < 256 → Q (some (.int (am_z 0))) n (am_m X S'))
theorem am_f8_rfl {S : am_St} : am_f8 S S := fun _ _ _ => rfl
theorem am_f8_2 {S : am_St} {a b c e : Int} : am_f8 S (am_set (am_set S 2 a b) 2 c e) := fun h p _ => by rw [am_set_sh p, am_set_sh p]
theorem am_f8_52 {S : am_St} {a b : Int} : am_f8 S (am_set S 52 a b) := fun h p q => am_set_sh (by omega)
theorem am_lay_rl : ∀ (t : am_T), ∃ l, am_lay t = l ++ [am_rl t] ∧ ∀ z, am_lay (am_rmz z t) = l ++ [z]
  | .leaf z => ⟨[], rfl, fun _ => rfl⟩
  | .branch k a b => by
    obtain ⟨l, h1, h2⟩ := am_lay_rl b
    refine ⟨(k : Int) :: (am_lay a ++ l), ?_, fun z => ?_⟩
    · show (k : Int) :: (am_lay a ++ am_lay b) = (k : Int) :: (am_lay a ++ l) ++ [am_rl b]
      rw [h1, List.cons_append, List.append_assoc]
    · show (k : Int) :: (am_lay a ++ am_lay (am_rmz z b)) = (k : Int) :: (am_lay a ++ l) ++ [z]
      rw [h2 z, List.cons_append, List.append_assoc]
theorem am_tok_ok {tl : Nat → Bool} {B : List Int} {c z : Int} (h : am_tok tl B c = .ok z) : 3 ≤ z ∧ z < 1000 ∨ 1000 ≤ z := by
  have := (am_tok_wn h).1
  have q : (3 ≤ z ∧ z ≤ 8) ∨ (10 ≤ z ∧ z < 18 ∧ tl (z - 10).toNat = true) ∨ (50 ≤ z ∧ z < 50 + (B.length : Int)) ∨ (20 ≤ z ∧ z ≤ 40) := this
  omega
theorem am_tok_err {tl : Nat → Bool} {B : List Int} {c e : Int} (h : am_tok tl B c = .error e) : ((97 ≤ c ∧ c ≤ 122 ∨ 65 ≤ c ∧ c < 73) ∧ e = -3) ∨ (¬ (97 ≤ c ∧ c ≤ 122) ∧ ¬ (65 ≤ c ∧ c < 73) ∧ e = -2) := by
  unfold am_tok at h
  split at h
  · rename_i hc
    split at h
    · cases h
    · cases h
      exact Or.inl ⟨Or.inl hc, rfl⟩
  · rename_i hc
    split at h
    · rename_i hc2
      split at h
      · cases h
      · cases h
        exact Or.inl ⟨Or.inr hc2, rfl⟩
    · rename_i hc2
      split at h
      · cases h
      · split at h
        · cases h
        · split at h
          · cases h
          · split at h
            · cases h
            · cases h
              exact Or.inr ⟨hc, hc2, rfl⟩
theorem do_takeAtom {d : Nat} {n : am_N} {X : Nat × (Nat → Int32)} {S : am_St} {Q : Option Value → am_N → am_M → Prop} {tl : Nat → Bool} {F : List am_Fr} {now : Option am_U} {k : Nat} {pl lt lone c i : Int} (hd : 7 ≤ d) (i0 : 0 ≤ i) (i1 : i < 100) (c0 : 0 < c) (c1 : c < 256) (ht : am_tld S tl) (h8 : ∀ k, tl k = true → k < 8) (hiv : am_iv tl i (F, now, 0, k, pl, lt, lone)) (hr : am_RC S (F, now, 0, k, pl, lt, lone)) (hQ : am_PK (am_tka tl (F, now, 0, k, pl, lt, lone) c i) S n X Q) (hc : ¬ (48 ≤ c ∧ c ≤ 57)) : am_Do d 87 [.ref 52, .int (am_z c), .int (am_z i)] n (am_m X S) Q := by
  obtain ⟨b1, b2, b3, b4, b5, b6, b7, b8, b9, b10, b11, b12⟩ := hiv
  rw [if_pos rfl] at b5
  have hcl : ((am_cu now 0 k).length : Int) = am_nl now := by
    cases now with
    | none => rfl
    | some u => show ((am_lay u.1).length : Int) = am_sz u.1; rw [am_lay_len]
  have hlen : (am_tF F ++ am_cu now 0 k).length + 2 ≤ 200 := by rw [List.length_append]; omega
  have hr' := hr
  obtain ⟨a1, a2, a3, a4, a5, a6, a7, a8, a9, a10, a11, a12⟩ := hr'
  have etk : am_tka tl (F, now, 0, k, pl, lt, lone) c i = (match am_tok tl (am_bs F) c with
      | .ok z => .ok (F, some (am_jn now (.leaf z, [i])), 0, k, pl, lt, lone)
      | .error e => .error (e, i)) := by
    show (if 48 ≤ c ∧ c ≤ 57 then _ else _) = _
    rw [if_neg hc]
    cases am_tok tl (am_bs F) c <;> rfl
  rw [etk] at hQ
  have hto := fun {Q : Option Value → am_N → am_M → Prop} => do_tokenOf (d := d - 1) (n := n) (X := X) (S := S) (Q := Q) (tl := tl) (c := c) (by omega) (by omega) c1 a3 (by omega) a4 (am_bs_b b1) ht h8
  rw [in_87 (by omega)]
  cases hk : am_tok tl (am_bs F) c with
  | ok z =>
    rw [hk] at hQ
    have hz := am_tok_ok hk
    have hw : (3 ≤ z ∧ z ≤ 8) ∨ (10 ≤ z ∧ z < 18 ∧ tl (z - 10).toNat = true) ∨ (50 ≤ z ∧ z < 50 + ((am_bs F).length : Int)) ∨ (20 ≤ z ∧ z ≤ 40) := (am_tok_wn hk).1
    have ez : am_tkv (am_tok tl (am_bs F) c) = z := by rw [hk]; rfl
    simp (disch := first | omega | exact am_fit_z0 | exact am_fit_z1 | (apply am_fit_zc <;> omega)) only [w87_0, w87_1, w87_2, w87_5, w87_6, w87_7, w87_8, w87_11, w87_12, w87_15, w87_16, w87_19, w87_22, w87_23, w87_26, w87_29, w87_31, w87_34, w87_36, w87_37, w87_40, w87_41, w87_42, w87_43, w87_44, w87_47, w87_48, am_fit_i, am_isR, am_okA, exists_eq_left', exists_eq_left, Option.some.injEq, true_and, and_true, List.length_cons, List.length_nil, List.drop_succ_cons, List.drop_zero, List.all_cons, List.all_nil, am_c1, Bool.and_true, Bool.true_and, Bool.and_self, decide_true, decide_false, if_true, if_false, beq_self_eq_true, Nat.reduceAdd, Nat.reduceLeDiff, Nat.reduceLT, Nat.reduceEqDiff, Nat.reduceSub, ite_true, ite_false, and_self, eq_self, am_z_add, am_z_sub, am_z_mul, Int.reduceAdd, Int.reduceSub, Int.reduceMul, Int.reduceLT, Int.reduceLE, Int.reduceEq, Int.reduceNeg, am_then_i, am_then_r, am_then_v, Nat.add_eq, Nat.zero_add, Nat.add_zero, am_fit_z0, am_fit_z1, am_fit_zc, ↓reduceIte, am_lt_T, am_lt_F, am_le_T, am_le_F, am_eq_T, am_eq_F, am_z_lt, am_z_le, am_z_eq, am_z_char, am_set_se, am_set_sk, am_set_sh, o_52, f_52_0, f_52_1, f_52_2, f_52_3, f_52_4, f_52_5, s_52_5, f_52_6, s_52_6, f_52_7, s_52_7, f_52_8, s_52_8, f_52_9, s_52_9, f_52_10, f_52_11, f_52_12, f_52_13, f_52_14, f_52_15, f_52_16, s_52_16, l_55, t_55, l_56, t_56, l_57, t_57, l_58, t_58, l_59, t_59, l_60, t_60, l_61, t_61, l_62, t_62, o_2, f_2_0, s_2_0, f_2_1, s_2_1, o_8, f_8_0, f_8_1, f_8_2, f_8_3, s_8_3, l_11, t_11, hto, ez]
    refine do_addAtom (tl := tl) (by omega) b1 b2 hlen hr (fun S1 f1 e1 r1 => ?_)
    simp (disch := first | omega | exact am_fit_z0 | exact am_fit_z1 | (apply am_fit_zc <;> omega)) only [w87_0, w87_1, w87_2, w87_5, w87_6, w87_7, w87_8, w87_11, w87_12, w87_15, w87_16, w87_19, w87_22, w87_23, w87_26, w87_29, w87_31, w87_34, w87_36, w87_37, w87_40, w87_41, w87_42, w87_43, w87_44, w87_47, w87_48, am_fit_i, am_isR, am_okA, exists_eq_left', exists_eq_left, Option.some.injEq, true_and, and_true, List.length_cons, List.length_nil, List.drop_succ_cons, List.drop_zero, List.all_cons, List.all_nil, am_c1, Bool.and_true, Bool.true_and, Bool.and_self, decide_true, decide_false, if_true, if_false, beq_self_eq_true, Nat.reduceAdd, Nat.reduceLeDiff, Nat.reduceLT, Nat.reduceEqDiff, Nat.reduceSub, ite_true, ite_false, and_self, eq_self, am_z_add, am_z_sub, am_z_mul, Int.reduceAdd, Int.reduceSub, Int.reduceMul, Int.reduceLT, Int.reduceLE, Int.reduceEq, Int.reduceNeg, am_then_i, am_then_r, am_then_v, Nat.add_eq, Nat.zero_add, Nat.add_zero, am_fit_z0, am_fit_z1, am_fit_zc, ↓reduceIte, am_lt_T, am_lt_F, am_le_T, am_le_F, am_eq_T, am_eq_F, am_z_lt, am_z_le, am_z_eq, am_z_char, am_set_se, am_set_sk, am_set_sh, o_52, f_52_0, f_52_1, f_52_2, f_52_3, f_52_4, f_52_5, s_52_5, f_52_6, s_52_6, f_52_7, s_52_7, f_52_8, s_52_8, f_52_9, s_52_9, f_52_10, f_52_11, f_52_12, f_52_13, f_52_14, f_52_15, f_52_16, s_52_16, l_55, t_55, l_56, t_56, l_57, t_57, l_58, t_58, l_59, t_59, l_60, t_60, l_61, t_61, l_62, t_62, o_2, f_2_0, s_2_0, f_2_1, s_2_1, o_8, f_8_0, f_8_1, f_8_2, f_8_3, s_8_3, l_11, t_11]
    exact hQ.1 S1 _ (am_f9_of f1 e1) rfl r1
  | error e =>
    rw [hk] at hQ
    have he := am_tok_err hk
    have ez : am_tkv (am_tok tl (am_bs F) c) = -1 := by rw [hk]; rfl
    have fin : ∀ v : Int, v = e → Q (some (.int (am_z 0))) n (am_m X (am_set (am_set S 2 0 v) 2 1 i)) := fun v hv => hQ.2 _ e i am_f8_2 rfl (by simp (disch := omega) only [am_set_sh, am_set_se, am_set_sk]; exact hv) am_set_se (by simp (disch := omega) only [am_set_sh, am_set_se, am_set_sk]; exact a9) (by simp (disch := omega) only [am_set_sh, am_set_se, am_set_sk]; exact a10)
    by_cases l1 : 97 ≤ c ∧ c ≤ 122
    · simp (disch := first | omega | exact am_fit_z0 | exact am_fit_z1 | (apply am_fit_zc <;> omega)) only [w87_0, w87_1, w87_2, w87_5, w87_6, w87_7, w87_8, w87_11, w87_12, w87_15, w87_16, w87_19, w87_22, w87_23, w87_26, w87_29, w87_31, w87_34, w87_36, w87_37, w87_40, w87_41, w87_42, w87_43, w87_44, w87_47, w87_48, am_fit_i, am_isR, am_okA, exists_eq_left', exists_eq_left, Option.some.injEq, true_and, and_true, List.length_cons, List.length_nil, List.drop_succ_cons, List.drop_zero, List.all_cons, List.all_nil, am_c1, Bool.and_true, Bool.true_and, Bool.and_self, decide_true, decide_false, if_true, if_false, beq_self_eq_true, Nat.reduceAdd, Nat.reduceLeDiff, Nat.reduceLT, Nat.reduceEqDiff, Nat.reduceSub, ite_true, ite_false, and_self, eq_self, am_z_add, am_z_sub, am_z_mul, Int.reduceAdd, Int.reduceSub, Int.reduceMul, Int.reduceLT, Int.reduceLE, Int.reduceEq, Int.reduceNeg, am_then_i, am_then_r, am_then_v, Nat.add_eq, Nat.zero_add, Nat.add_zero, am_fit_z0, am_fit_z1, am_fit_zc, ↓reduceIte, am_lt_T, am_lt_F, am_le_T, am_le_F, am_eq_T, am_eq_F, am_z_lt, am_z_le, am_z_eq, am_z_char, am_set_se, am_set_sk, am_set_sh, o_52, f_52_0, f_52_1, f_52_2, f_52_3, f_52_4, f_52_5, s_52_5, f_52_6, s_52_6, f_52_7, s_52_7, f_52_8, s_52_8, f_52_9, s_52_9, f_52_10, f_52_11, f_52_12, f_52_13, f_52_14, f_52_15, f_52_16, s_52_16, l_55, t_55, l_56, t_56, l_57, t_57, l_58, t_58, l_59, t_59, l_60, t_60, l_61, t_61, l_62, t_62, o_2, f_2_0, s_2_0, f_2_1, s_2_1, o_8, f_8_0, f_8_1, f_8_2, f_8_3, s_8_3, l_11, t_11, hto, ez, do_tell, do_lsg_t, do_lsg_f, do_nsg_t, do_nsg_f, do_dsg_t, do_dsg_f]
      exact fin _ (by omega)
    · by_cases l2 : 65 ≤ c ∧ c < 73
      · simp (disch := first | omega | exact am_fit_z0 | exact am_fit_z1 | (apply am_fit_zc <;> omega)) only [w87_0, w87_1, w87_2, w87_5, w87_6, w87_7, w87_8, w87_11, w87_12, w87_15, w87_16, w87_19, w87_22, w87_23, w87_26, w87_29, w87_31, w87_34, w87_36, w87_37, w87_40, w87_41, w87_42, w87_43, w87_44, w87_47, w87_48, am_fit_i, am_isR, am_okA, exists_eq_left', exists_eq_left, Option.some.injEq, true_and, and_true, List.length_cons, List.length_nil, List.drop_succ_cons, List.drop_zero, List.all_cons, List.all_nil, am_c1, Bool.and_true, Bool.true_and, Bool.and_self, decide_true, decide_false, if_true, if_false, beq_self_eq_true, Nat.reduceAdd, Nat.reduceLeDiff, Nat.reduceLT, Nat.reduceEqDiff, Nat.reduceSub, ite_true, ite_false, and_self, eq_self, am_z_add, am_z_sub, am_z_mul, Int.reduceAdd, Int.reduceSub, Int.reduceMul, Int.reduceLT, Int.reduceLE, Int.reduceEq, Int.reduceNeg, am_then_i, am_then_r, am_then_v, Nat.add_eq, Nat.zero_add, Nat.add_zero, am_fit_z0, am_fit_z1, am_fit_zc, ↓reduceIte, am_lt_T, am_lt_F, am_le_T, am_le_F, am_eq_T, am_eq_F, am_z_lt, am_z_le, am_z_eq, am_z_char, am_set_se, am_set_sk, am_set_sh, o_52, f_52_0, f_52_1, f_52_2, f_52_3, f_52_4, f_52_5, s_52_5, f_52_6, s_52_6, f_52_7, s_52_7, f_52_8, s_52_8, f_52_9, s_52_9, f_52_10, f_52_11, f_52_12, f_52_13, f_52_14, f_52_15, f_52_16, s_52_16, l_55, t_55, l_56, t_56, l_57, t_57, l_58, t_58, l_59, t_59, l_60, t_60, l_61, t_61, l_62, t_62, o_2, f_2_0, s_2_0, f_2_1, s_2_1, o_8, f_8_0, f_8_1, f_8_2, f_8_3, s_8_3, l_11, t_11, hto, ez, do_tell, do_lsg_t, do_lsg_f, do_nsg_t, do_nsg_f, do_dsg_t, do_dsg_f]
        exact fin _ (by omega)
      · simp (disch := first | omega | exact am_fit_z0 | exact am_fit_z1 | (apply am_fit_zc <;> omega)) only [w87_0, w87_1, w87_2, w87_5, w87_6, w87_7, w87_8, w87_11, w87_12, w87_15, w87_16, w87_19, w87_22, w87_23, w87_26, w87_29, w87_31, w87_34, w87_36, w87_37, w87_40, w87_41, w87_42, w87_43, w87_44, w87_47, w87_48, am_fit_i, am_isR, am_okA, exists_eq_left', exists_eq_left, Option.some.injEq, true_and, and_true, List.length_cons, List.length_nil, List.drop_succ_cons, List.drop_zero, List.all_cons, List.all_nil, am_c1, Bool.and_true, Bool.true_and, Bool.and_self, decide_true, decide_false, if_true, if_false, beq_self_eq_true, Nat.reduceAdd, Nat.reduceLeDiff, Nat.reduceLT, Nat.reduceEqDiff, Nat.reduceSub, ite_true, ite_false, and_self, eq_self, am_z_add, am_z_sub, am_z_mul, Int.reduceAdd, Int.reduceSub, Int.reduceMul, Int.reduceLT, Int.reduceLE, Int.reduceEq, Int.reduceNeg, am_then_i, am_then_r, am_then_v, Nat.add_eq, Nat.zero_add, Nat.add_zero, am_fit_z0, am_fit_z1, am_fit_zc, ↓reduceIte, am_lt_T, am_lt_F, am_le_T, am_le_F, am_eq_T, am_eq_F, am_z_lt, am_z_le, am_z_eq, am_z_char, am_set_se, am_set_sk, am_set_sh, o_52, f_52_0, f_52_1, f_52_2, f_52_3, f_52_4, f_52_5, s_52_5, f_52_6, s_52_6, f_52_7, s_52_7, f_52_8, s_52_8, f_52_9, s_52_9, f_52_10, f_52_11, f_52_12, f_52_13, f_52_14, f_52_15, f_52_16, s_52_16, l_55, t_55, l_56, t_56, l_57, t_57, l_58, t_58, l_59, t_59, l_60, t_60, l_61, t_61, l_62, t_62, o_2, f_2_0, s_2_0, f_2_1, s_2_1, o_8, f_8_0, f_8_1, f_8_2, f_8_3, s_8_3, l_11, t_11, hto, ez, do_tell, do_lsg_t, do_lsg_f, do_nsg_t, do_nsg_f, do_dsg_t, do_dsg_f]
        exact fin _ (by omega)
theorem do_takeDigit {d : Nat} {n : am_N} {X : Nat × (Nat → Int32)} {S : am_St} {Q : Option Value → am_N → am_M → Prop} {tl : Nat → Bool} {F : List am_Fr} {now : Option am_U} {k : Nat} {pl lt lone c i : Int} (hd : 7 ≤ d) (i0 : 0 ≤ i) (i1 : i < 100) (c0 : 0 < c) (c1 : c < 256) (ht : am_tld S tl) (h8 : ∀ k, tl k = true → k < 8) (hiv : am_iv tl i (F, now, 0, k, pl, lt, lone)) (hr : am_RC S (F, now, 0, k, pl, lt, lone)) (hQ : am_PK (am_tka tl (F, now, 0, k, pl, lt, lone) c i) S n X Q) (hc : 48 ≤ c ∧ c ≤ 57) : am_Do d 86 [.ref 52, .int (am_z (c - 48)), .int (am_z i)] n (am_m X S) Q := by
  obtain ⟨b1, b2, b3, b4, b5, b6, b7, b8, b9, b10, b11, b12⟩ := hiv
  rw [if_pos rfl] at b5
  have hcl : ((am_cu now 0 k).length : Int) = am_nl now := by
    cases now with
    | none => rfl
    | some u => show ((am_lay u.1).length : Int) = am_sz u.1; rw [am_lay_len]
  have hlen : (am_tF F ++ am_cu now 0 k).length + 2 ≤ 200 := by rw [List.length_append]; omega
  have hr' := hr
  obtain ⟨a1, a2, a3, a4, a5, a6, a7, a8, a9, a10, a11, a12⟩ := hr'
  rw [in_86 (by omega)]
  by_cases hl : lone ≠ -1 ∧ lone = i - 1
  · obtain ⟨u, rfl, r1, r2⟩ := b10 hl.1 hl.2
    have etk : am_tka tl (F, some u, 0, k, pl, lt, lone) c i = (if 20 < 10 * (am_rl u.1 - 20) + (c - 48) then .error (-2, i) else .ok (F, some (am_rmz (20 + (10 * (am_rl u.1 - 20) + (c - 48))) u.1, u.2), 0, k, pl, lt, -1)) := by
      show (if 48 ≤ c ∧ c ≤ 57 then (if lone ≠ -1 ∧ lone = i - 1 then _ else _) else _) = _
      rw [if_pos hc, if_pos hl]
    rw [etk] at hQ
    obtain ⟨l0, e1, e2⟩ := am_lay_rl u.1
    have hsz : S 53 1 = ((am_tF F).length : Int) + l0.length + 1 := by
      rw [a1.2.1]
      show ((am_tF F ++ am_lay u.1).length : Int) = _
      rw [e1, List.length_append, List.length_append, List.length_singleton]
      omega
    have hsz2 : (((am_tF F).length : Int) + l0.length + 1 - 1) = (am_tF F).length + l0.length := by omega
    have hb : ((am_tF F).length : Int) + l0.length + 1 ≤ 200 := by
      have := hlen
      have e3 : (am_tF F ++ am_cu (some u) 0 k).length = (am_tF F).length + (l0.length + 1) := by
        show (am_tF F ++ am_lay u.1).length = _
        rw [e1, List.length_append, List.length_append, List.length_singleton]
      omega
    have hlast : am_g S 53 ((am_tF F).length + l0.length) = am_rl u.1 := by
      have s1 : am_sg (S 54) 0 (am_tF F ++ (l0 ++ [am_rl u.1])) := by rw [← e1]; exact a1.2.2.2
      rw [am_sg_app, am_sg_app, am_sg_one] at s1
      refine am_g_in (by omega) (by rw [hsz]; omega) ?_
      have := s1.2.2
      rw [Int.zero_add] at this
      exact this
    have hz2 : am_set S 52 8 (-1) 53 1 = ((am_tF F).length : Int) + l0.length + 1 := by rw [am_set_sh (by omega), hsz]
    have hlast2 : am_g (am_set S 52 8 (-1)) 53 ((am_tF F).length + l0.length) = am_rl u.1 := by
      have : am_g (am_set S 52 8 (-1)) 53 ((am_tF F).length + l0.length) = am_g S 53 ((am_tF F).length + l0.length) := by
        unfold am_g
        rw [am_set_sh (by omega), am_set_sh (by omega)]
      rw [this, hlast]
    have ebnd : ((am_tF F).length : Int) ≤ 200 := by omega
    by_cases cv : 20 < 10 * (am_rl u.1 - 20) + (c - 48)
    · rw [if_pos cv] at hQ
      simp (disch := first | omega | exact am_fit_z0 | exact am_fit_z1 | (apply am_fit_zc <;> omega)) only [w86_0, w86_1, w86_4, w86_5, w86_8, w86_9, w86_12, w86_13, w86_14, w86_15, w86_18, w86_19, w86_22, w86_23, w86_24, w86_25, w86_28, w86_29, w86_30, w86_33, w86_34, w86_36, w86_37, w86_38, w86_39, w86_42, w86_43, w86_44, w86_45, w86_46, w86_49, w86_50, w86_53, w86_56, w86_57, w86_58, w86_60, w86_62, w86_63, w86_66, w86_68, w86_71, w86_73, w86_74, w86_75, w86_76, w86_77, w86_79, w86_81, w86_83, w86_86, w86_87, w86_90, w86_92, w86_93, w86_96, w86_97, w86_98, w86_101, w86_104, w86_106, w86_108, w86_110, w86_111, w86_112, w86_113, am_fit_i, am_isR, am_okA, exists_eq_left', exists_eq_left, Option.some.injEq, true_and, and_true, List.length_cons, List.length_nil, List.drop_succ_cons, List.drop_zero, List.all_cons, List.all_nil, am_c1, Bool.and_true, Bool.true_and, Bool.and_self, decide_true, decide_false, if_true, if_false, beq_self_eq_true, Nat.reduceAdd, Nat.reduceLeDiff, Nat.reduceLT, Nat.reduceEqDiff, Nat.reduceSub, ite_true, ite_false, and_self, eq_self, am_z_add, am_z_sub, am_z_mul, Int.reduceAdd, Int.reduceSub, Int.reduceMul, Int.reduceLT, Int.reduceLE, Int.reduceEq, Int.reduceNeg, am_then_i, am_then_r, am_then_v, Nat.add_eq, Nat.zero_add, Nat.add_zero, am_fit_z0, am_fit_z1, am_fit_zc, ↓reduceIte, am_lt_T, am_lt_F, am_le_T, am_le_F, am_eq_T, am_eq_F, am_z_lt, am_z_le, am_z_eq, am_z_char, am_set_se, am_set_sk, am_set_sh, o_52, f_52_0, f_52_1, f_52_2, f_52_3, f_52_4, f_52_5, s_52_5, f_52_6, s_52_6, f_52_7, s_52_7, f_52_8, s_52_8, f_52_9, s_52_9, f_52_10, f_52_11, f_52_12, f_52_13, f_52_14, f_52_15, f_52_16, s_52_16, l_55, t_55, l_56, t_56, l_57, t_57, l_58, t_58, l_59, t_59, l_60, t_60, l_61, t_61, l_62, t_62, o_2, f_2_0, s_2_0, f_2_1, s_2_1, o_8, f_8_0, f_8_1, f_8_2, f_8_3, s_8_3, l_11, t_11, rw_f0 r_53, rw_f1 r_53, rw_f2 r_53, rw_s1 r_53, rw_o r_53, am_ald_m r_53.2, am_ast_m r_53.2, a7, hsz, hsz2, do_at r_53, hlast2, do_tell]
      exact hQ.2 _ (-2) i (am_f8_trans am_f8_52 am_f8_2) rfl (by simp (disch := omega) only [am_set_sh, am_set_se, am_set_sk]) am_set_se (by simp (disch := omega) only [am_set_sh, am_set_se, am_set_sk]; exact a9) (by simp (disch := omega) only [am_set_sh, am_set_se, am_set_sk]; exact a10)
    · rw [if_neg cv] at hQ
      simp (disch := first | omega | exact am_fit_z0 | exact am_fit_z1 | (apply am_fit_zc <;> omega)) only [w86_0, w86_1, w86_4, w86_5, w86_8, w86_9, w86_12, w86_13, w86_14, w86_15, w86_18, w86_19, w86_22, w86_23, w86_24, w86_25, w86_28, w86_29, w86_30, w86_33, w86_34, w86_36, w86_37, w86_38, w86_39, w86_42, w86_43, w86_44, w86_45, w86_46, w86_49, w86_50, w86_53, w86_56, w86_57, w86_58, w86_60, w86_62, w86_63, w86_66, w86_68, w86_71, w86_73, w86_74, w86_75, w86_76, w86_77, w86_79, w86_81, w86_83, w86_86, w86_87, w86_90, w86_92, w86_93, w86_96, w86_97, w86_98, w86_101, w86_104, w86_106, w86_108, w86_110, w86_111, w86_112, w86_113, am_fit_i, am_isR, am_okA, exists_eq_left', exists_eq_left, Option.some.injEq, true_and, and_true, List.length_cons, List.length_nil, List.drop_succ_cons, List.drop_zero, List.all_cons, List.all_nil, am_c1, Bool.and_true, Bool.true_and, Bool.and_self, decide_true, decide_false, if_true, if_false, beq_self_eq_true, Nat.reduceAdd, Nat.reduceLeDiff, Nat.reduceLT, Nat.reduceEqDiff, Nat.reduceSub, ite_true, ite_false, and_self, eq_self, am_z_add, am_z_sub, am_z_mul, Int.reduceAdd, Int.reduceSub, Int.reduceMul, Int.reduceLT, Int.reduceLE, Int.reduceEq, Int.reduceNeg, am_then_i, am_then_r, am_then_v, Nat.add_eq, Nat.zero_add, Nat.add_zero, am_fit_z0, am_fit_z1, am_fit_zc, ↓reduceIte, am_lt_T, am_lt_F, am_le_T, am_le_F, am_eq_T, am_eq_F, am_z_lt, am_z_le, am_z_eq, am_z_char, am_set_se, am_set_sk, am_set_sh, o_52, f_52_0, f_52_1, f_52_2, f_52_3, f_52_4, f_52_5, s_52_5, f_52_6, s_52_6, f_52_7, s_52_7, f_52_8, s_52_8, f_52_9, s_52_9, f_52_10, f_52_11, f_52_12, f_52_13, f_52_14, f_52_15, f_52_16, s_52_16, l_55, t_55, l_56, t_56, l_57, t_57, l_58, t_58, l_59, t_59, l_60, t_60, l_61, t_61, l_62, t_62, o_2, f_2_0, s_2_0, f_2_1, s_2_1, o_8, f_8_0, f_8_1, f_8_2, f_8_3, s_8_3, l_11, t_11, rw_f0 r_53, rw_f1 r_53, rw_f2 r_53, rw_s1 r_53, rw_o r_53, am_ald_m r_53.2, am_ast_m r_53.2, a7, hsz, hsz2, do_at r_53, hlast2]
      have f54 : ∀ h, h ≠ 52 → h ≠ 54 → am_set (am_set S 52 8 (-1)) (53 + 1) ((am_tF F).length + l0.length) (20 + (10 * (am_rl u.1 - 20) + (c - 48))) h = S h := fun h p1 p2 => by rw [am_set_sh p2, am_set_sh p1]
      refine hQ.1 _ _ (fun h p2 => f54 h (by omega) (by omega)) rfl ⟨⟨?_, ?_, ?_, ?_⟩, ?_, ?_, ?_, ?_, ?_, ?_, ?_, ?_, ?_, ?_, ?_⟩
      · show (am_tF F ++ am_lay (am_rmz _ u.1)).length ≤ 200
        rw [e2, List.length_append, List.length_append, List.length_singleton]
        omega
      · rw [f54 53 (by omega) (by omega), hsz]
        show _ = ((am_tF F ++ am_lay (am_rmz _ u.1)).length : Int)
        rw [e2, List.length_append, List.length_append, List.length_singleton]
        omega
      · rw [f54 53 (by omega) (by omega)]
        exact a1.2.2.1
      · show am_sg _ 0 (am_tF F ++ am_lay (am_rmz _ u.1))
        have s1 : am_sg (S 54) 0 (am_tF F ++ (l0 ++ [am_rl u.1])) := by rw [← e1]; exact a1.2.2.2
        rw [am_sg_app, am_sg_app] at s1
        rw [e2, am_sg_app, am_sg_app, am_sg_one]
        refine ⟨am_sg_congr s1.1 (fun x x0 x1 => ?_), am_sg_congr s1.2.1 (fun x x0 x1 => ?_), ?_⟩
        · show am_set (am_set S 52 8 (-1)) 54 _ _ 54 x = S 54 x
          rw [am_set_sk (by omega), am_set_sh (by omega)]
        · show am_set (am_set S 52 8 (-1)) 54 _ _ 54 x = S 54 x
          rw [am_set_sk (by omega), am_set_sh (by omega)]
        · show am_set (am_set S 52 8 (-1)) 54 _ _ 54 _ = _
          rw [Int.zero_add, am_set_se]
      · rw [f54 55 (by omega) (by omega)]
        exact a2
      · show am_set (am_set S 52 8 (-1)) 54 _ _ 52 5 = _
        simp (disch := omega) only [am_set_sh, am_set_se, am_set_sk]
        exact a3
      · rw [f54 56 (by omega) (by omega)]
        exact a4
      · show am_set (am_set S 52 8 (-1)) 54 _ _ 52 6 = _
        simp (disch := omega) only [am_set_sh, am_set_se, am_set_sk]
        exact a5
      · intro q
        show am_set (am_set S 52 8 (-1)) 54 _ _ 52 7 = _
        simp (disch := omega) only [am_set_sh, am_set_se, am_set_sk]
        exact a6 q
      · show am_set (am_set S 52 8 (-1)) 54 _ _ 52 8 = _
        simp (disch := omega) only [am_set_sh, am_set_se, am_set_sk]
      · intro q
        omega
      · show 0 ≤ am_set (am_set S 52 8 (-1)) 54 _ _ 52 9
        simp (disch := omega) only [am_set_sh, am_set_se, am_set_sk]
        exact a9
      · show am_set (am_set S 52 8 (-1)) 54 _ _ 52 9 < 256
        simp (disch := omega) only [am_set_sh, am_set_se, am_set_sk]
        exact a10
      · show am_set (am_set S 52 8 (-1)) 54 _ _ 52 16 = _
        simp (disch := omega) only [am_set_sh, am_set_se, am_set_sk]
        exact a11
      · exact am_op_fr (fun h p1 p2 => f54 h (by omega) (by omega)) a12
  · have etk : am_tka tl (F, now, 0, k, pl, lt, lone) c i = .ok (F, some (am_jn now (.leaf (20 + (c - 48)), [i])), 0, k, pl, lt, i) := by
      show (if 48 ≤ c ∧ c ≤ 57 then (if lone ≠ -1 ∧ lone = i - 1 then _ else _) else _) = _
      rw [if_pos hc, if_neg hl]
    rw [etk] at hQ
    have hr2 : am_RC (am_set S 52 8 i) (F, now, 0, k, pl, lt, i) := ⟨am_row_fr a1 (am_set_sh (by omega)) (am_set_sh (by omega)), by rw [am_set_sh (by omega)]; exact a2, by simp (disch := omega) only [am_set_sh, am_set_se, am_set_sk]; exact a3, by rw [am_set_sh (by omega)]; exact a4, by simp (disch := omega) only [am_set_sh, am_set_se, am_set_sk]; exact a5, fun q => by simp (disch := omega) only [am_set_sh, am_set_se, am_set_sk]; exact a6 q, am_set_se, fun q => absurd q (by omega), by simp (disch := omega) only [am_set_sh, am_set_se, am_set_sk]; exact a9, by simp (disch := omega) only [am_set_sh, am_set_se, am_set_sk]; exact a10, by simp (disch := omega) only [am_set_sh, am_set_se, am_set_sk]; exact a11, am_op_fr (fun h p1 p2 => am_set_sh (by omega)) a12⟩
    by_cases cl : lone = -1
    · simp (disch := first | omega | exact am_fit_z0 | exact am_fit_z1 | (apply am_fit_zc <;> omega)) only [w86_0, w86_1, w86_4, w86_5, w86_8, w86_9, w86_12, w86_13, w86_14, w86_15, w86_18, w86_19, w86_22, w86_23, w86_24, w86_25, w86_28, w86_29, w86_30, w86_33, w86_34, w86_36, w86_37, w86_38, w86_39, w86_42, w86_43, w86_44, w86_45, w86_46, w86_49, w86_50, w86_53, w86_56, w86_57, w86_58, w86_60, w86_62, w86_63, w86_66, w86_68, w86_71, w86_73, w86_74, w86_75, w86_76, w86_77, w86_79, w86_81, w86_83, w86_86, w86_87, w86_90, w86_92, w86_93, w86_96, w86_97, w86_98, w86_101, w86_104, w86_106, w86_108, w86_110, w86_111, w86_112, w86_113, am_fit_i, am_isR, am_okA, exists_eq_left', exists_eq_left, Option.some.injEq, true_and, and_true, List.length_cons, List.length_nil, List.drop_succ_cons, List.drop_zero, List.all_cons, List.all_nil, am_c1, Bool.and_true, Bool.true_and, Bool.and_self, decide_true, decide_false, if_true, if_false, beq_self_eq_true, Nat.reduceAdd, Nat.reduceLeDiff, Nat.reduceLT, Nat.reduceEqDiff, Nat.reduceSub, ite_true, ite_false, and_self, eq_self, am_z_add, am_z_sub, am_z_mul, Int.reduceAdd, Int.reduceSub, Int.reduceMul, Int.reduceLT, Int.reduceLE, Int.reduceEq, Int.reduceNeg, am_then_i, am_then_r, am_then_v, Nat.add_eq, Nat.zero_add, Nat.add_zero, am_fit_z0, am_fit_z1, am_fit_zc, ↓reduceIte, am_lt_T, am_lt_F, am_le_T, am_le_F, am_eq_T, am_eq_F, am_z_lt, am_z_le, am_z_eq, am_z_char, am_set_se, am_set_sk, am_set_sh, o_52, f_52_0, f_52_1, f_52_2, f_52_3, f_52_4, f_52_5, s_52_5, f_52_6, s_52_6, f_52_7, s_52_7, f_52_8, s_52_8, f_52_9, s_52_9, f_52_10, f_52_11, f_52_12, f_52_13, f_52_14, f_52_15, f_52_16, s_52_16, l_55, t_55, l_56, t_56, l_57, t_57, l_58, t_58, l_59, t_59, l_60, t_60, l_61, t_61, l_62, t_62, o_2, f_2_0, s_2_0, f_2_1, s_2_1, o_8, f_8_0, f_8_1, f_8_2, f_8_3, s_8_3, l_11, t_11, a7]
      refine do_addAtom (tl := tl) (by omega) b1 b2 hlen hr2 (fun S1 f1 e1 r1 => ?_)
      simp (disch := first | omega | exact am_fit_z0 | exact am_fit_z1 | (apply am_fit_zc <;> omega)) only [w86_0, w86_1, w86_4, w86_5, w86_8, w86_9, w86_12, w86_13, w86_14, w86_15, w86_18, w86_19, w86_22, w86_23, w86_24, w86_25, w86_28, w86_29, w86_30, w86_33, w86_34, w86_36, w86_37, w86_38, w86_39, w86_42, w86_43, w86_44, w86_45, w86_46, w86_49, w86_50, w86_53, w86_56, w86_57, w86_58, w86_60, w86_62, w86_63, w86_66, w86_68, w86_71, w86_73, w86_74, w86_75, w86_76, w86_77, w86_79, w86_81, w86_83, w86_86, w86_87, w86_90, w86_92, w86_93, w86_96, w86_97, w86_98, w86_101, w86_104, w86_106, w86_108, w86_110, w86_111, w86_112, w86_113, am_fit_i, am_isR, am_okA, exists_eq_left', exists_eq_left, Option.some.injEq, true_and, and_true, List.length_cons, List.length_nil, List.drop_succ_cons, List.drop_zero, List.all_cons, List.all_nil, am_c1, Bool.and_true, Bool.true_and, Bool.and_self, decide_true, decide_false, if_true, if_false, beq_self_eq_true, Nat.reduceAdd, Nat.reduceLeDiff, Nat.reduceLT, Nat.reduceEqDiff, Nat.reduceSub, ite_true, ite_false, and_self, eq_self, am_z_add, am_z_sub, am_z_mul, Int.reduceAdd, Int.reduceSub, Int.reduceMul, Int.reduceLT, Int.reduceLE, Int.reduceEq, Int.reduceNeg, am_then_i, am_then_r, am_then_v, Nat.add_eq, Nat.zero_add, Nat.add_zero, am_fit_z0, am_fit_z1, am_fit_zc, ↓reduceIte, am_lt_T, am_lt_F, am_le_T, am_le_F, am_eq_T, am_eq_F, am_z_lt, am_z_le, am_z_eq, am_z_char, am_set_se, am_set_sk, am_set_sh, o_52, f_52_0, f_52_1, f_52_2, f_52_3, f_52_4, f_52_5, s_52_5, f_52_6, s_52_6, f_52_7, s_52_7, f_52_8, s_52_8, f_52_9, s_52_9, f_52_10, f_52_11, f_52_12, f_52_13, f_52_14, f_52_15, f_52_16, s_52_16, l_55, t_55, l_56, t_56, l_57, t_57, l_58, t_58, l_59, t_59, l_60, t_60, l_61, t_61, l_62, t_62, o_2, f_2_0, s_2_0, f_2_1, s_2_1, o_8, f_8_0, f_8_1, f_8_2, f_8_3, s_8_3, l_11, t_11]
      exact hQ.1 S1 _ (am_f9_of (am_f8_trans am_f8_52 f1) (e1.trans (am_set_sh (by omega)))) rfl r1
    · simp (disch := first | omega | exact am_fit_z0 | exact am_fit_z1 | (apply am_fit_zc <;> omega)) only [w86_0, w86_1, w86_4, w86_5, w86_8, w86_9, w86_12, w86_13, w86_14, w86_15, w86_18, w86_19, w86_22, w86_23, w86_24, w86_25, w86_28, w86_29, w86_30, w86_33, w86_34, w86_36, w86_37, w86_38, w86_39, w86_42, w86_43, w86_44, w86_45, w86_46, w86_49, w86_50, w86_53, w86_56, w86_57, w86_58, w86_60, w86_62, w86_63, w86_66, w86_68, w86_71, w86_73, w86_74, w86_75, w86_76, w86_77, w86_79, w86_81, w86_83, w86_86, w86_87, w86_90, w86_92, w86_93, w86_96, w86_97, w86_98, w86_101, w86_104, w86_106, w86_108, w86_110, w86_111, w86_112, w86_113, am_fit_i, am_isR, am_okA, exists_eq_left', exists_eq_left, Option.some.injEq, true_and, and_true, List.length_cons, List.length_nil, List.drop_succ_cons, List.drop_zero, List.all_cons, List.all_nil, am_c1, Bool.and_true, Bool.true_and, Bool.and_self, decide_true, decide_false, if_true, if_false, beq_self_eq_true, Nat.reduceAdd, Nat.reduceLeDiff, Nat.reduceLT, Nat.reduceEqDiff, Nat.reduceSub, ite_true, ite_false, and_self, eq_self, am_z_add, am_z_sub, am_z_mul, Int.reduceAdd, Int.reduceSub, Int.reduceMul, Int.reduceLT, Int.reduceLE, Int.reduceEq, Int.reduceNeg, am_then_i, am_then_r, am_then_v, Nat.add_eq, Nat.zero_add, Nat.add_zero, am_fit_z0, am_fit_z1, am_fit_zc, ↓reduceIte, am_lt_T, am_lt_F, am_le_T, am_le_F, am_eq_T, am_eq_F, am_z_lt, am_z_le, am_z_eq, am_z_char, am_set_se, am_set_sk, am_set_sh, o_52, f_52_0, f_52_1, f_52_2, f_52_3, f_52_4, f_52_5, s_52_5, f_52_6, s_52_6, f_52_7, s_52_7, f_52_8, s_52_8, f_52_9, s_52_9, f_52_10, f_52_11, f_52_12, f_52_13, f_52_14, f_52_15, f_52_16, s_52_16, l_55, t_55, l_56, t_56, l_57, t_57, l_58, t_58, l_59, t_59, l_60, t_60, l_61, t_61, l_62, t_62, o_2, f_2_0, s_2_0, f_2_1, s_2_1, o_8, f_8_0, f_8_1, f_8_2, f_8_3, s_8_3, l_11, t_11, a7]
      refine do_addAtom (tl := tl) (by omega) b1 b2 hlen hr2 (fun S1 f1 e1 r1 => ?_)
      simp (disch := first | omega | exact am_fit_z0 | exact am_fit_z1 | (apply am_fit_zc <;> omega)) only [w86_0, w86_1, w86_4, w86_5, w86_8, w86_9, w86_12, w86_13, w86_14, w86_15, w86_18, w86_19, w86_22, w86_23, w86_24, w86_25, w86_28, w86_29, w86_30, w86_33, w86_34, w86_36, w86_37, w86_38, w86_39, w86_42, w86_43, w86_44, w86_45, w86_46, w86_49, w86_50, w86_53, w86_56, w86_57, w86_58, w86_60, w86_62, w86_63, w86_66, w86_68, w86_71, w86_73, w86_74, w86_75, w86_76, w86_77, w86_79, w86_81, w86_83, w86_86, w86_87, w86_90, w86_92, w86_93, w86_96, w86_97, w86_98, w86_101, w86_104, w86_106, w86_108, w86_110, w86_111, w86_112, w86_113, am_fit_i, am_isR, am_okA, exists_eq_left', exists_eq_left, Option.some.injEq, true_and, and_true, List.length_cons, List.length_nil, List.drop_succ_cons, List.drop_zero, List.all_cons, List.all_nil, am_c1, Bool.and_true, Bool.true_and, Bool.and_self, decide_true, decide_false, if_true, if_false, beq_self_eq_true, Nat.reduceAdd, Nat.reduceLeDiff, Nat.reduceLT, Nat.reduceEqDiff, Nat.reduceSub, ite_true, ite_false, and_self, eq_self, am_z_add, am_z_sub, am_z_mul, Int.reduceAdd, Int.reduceSub, Int.reduceMul, Int.reduceLT, Int.reduceLE, Int.reduceEq, Int.reduceNeg, am_then_i, am_then_r, am_then_v, Nat.add_eq, Nat.zero_add, Nat.add_zero, am_fit_z0, am_fit_z1, am_fit_zc, ↓reduceIte, am_lt_T, am_lt_F, am_le_T, am_le_F, am_eq_T, am_eq_F, am_z_lt, am_z_le, am_z_eq, am_z_char, am_set_se, am_set_sk, am_set_sh, o_52, f_52_0, f_52_1, f_52_2, f_52_3, f_52_4, f_52_5, s_52_5, f_52_6, s_52_6, f_52_7, s_52_7, f_52_8, s_52_8, f_52_9, s_52_9, f_52_10, f_52_11, f_52_12, f_52_13, f_52_14, f_52_15, f_52_16, s_52_16, l_55, t_55, l_56, t_56, l_57, t_57, l_58, t_58, l_59, t_59, l_60, t_60, l_61, t_61, l_62, t_62, o_2, f_2_0, s_2_0, f_2_1, s_2_1, o_8, f_8_0, f_8_1, f_8_2, f_8_3, s_8_3, l_11, t_11]
      exact hQ.1 S1 _ (am_f9_of (am_f8_trans am_f8_52 f1) (e1.trans (am_set_sh (by omega)))) rfl r1
