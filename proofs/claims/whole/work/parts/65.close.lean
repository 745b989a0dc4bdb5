theorem do_close_ty {d : Nat} {n : am_N} {X : Nat × (Nat → Int32)} {S : am_St} {Q : Option Value → am_N → am_M → Prop} {tl : Nat → Bool} {F F' : List am_Fr} {u v : am_U} {k k' : Nat} {pl lt lone l p : Int} {ob : Option am_U} (hd : 6 ≤ d) (hw : am_fw tl F) (hu : am_uw tl (am_bs F).length u) (hl : (am_tF F ++ am_lay u.1).length + 1 ≤ 200) (hoc : am_oc F ≤ 100) (hbs : (am_bs F).length ≤ 99) (hr : am_RC S (F, some u, 0, k, pl, lt, lone)) (hfo : am_fo F u = ((1, l, p, k', ob) :: F', v)) (hQ : ∀ (S' : am_St), am_f8 S S' → S' 2 = S 2 → am_RC S' ((2, l, p, k', some v) :: F', none, 0, k, pl, lt, lone) → Q none n (am_m X S')) : am_Do d 100 [.ref 52] n (am_m X S) Q := by
  obtain ⟨a1, a2, a3, a4, a5, a6, a7, a8, a9, a10, a11, a12⟩ := hr
  obtain ⟨r1, r2, r3, r4, r5, r6, r7, r8, B, r9⟩ := am_fo_spec hfo hw hu
  have hop := am_op_fo hfo a12
  obtain ⟨g1, g2, g3⟩ := r1
  have ebs : am_bs ((1, l, p, k', ob) :: F') = am_bs F' := if_neg (by omega)
  have eoc : am_oc ((1, l, p, k', ob) :: F') = am_oc F' + 1 := if_neg (by omega)
  rw [ebs] at r2 r6 r9
  rw [eoc] at r5
  have a1' : am_row S 53 200 (some (am_tF ((1, l, p, k', ob) :: F') ++ am_lay v.1)) := by rw [← r3]; exact a1
  have a2' : am_sg (S 55) 0 (am_pF ((1, l, p, k', ob) :: F') ++ v.2) := by rw [← r4]; exact a2
  have a4' : am_sg (S 56) 0 (am_bs F').reverse := by
    rw [r9, List.reverse_append, am_sg_app] at a4
    exact a4.1
  have h16 : S 52 16 = (am_oc F' : Int) + 1 := by rw [a11, ← r5]; omega
  have e16 : (am_oc F' : Int) + 1 - 1 = am_oc F' := by omega
  have len3 := congrArg List.length r3
  obtain ⟨q57, q58, q62⟩ := hop.2.2 rfl
  have hg : (k' = 1 ∨ k' = 2) ∧ ob = none ∧ 97 ≤ l ∧ l ≤ 122 := by
    rcases g3 with q | q | q | q
    · omega
    · exact q.2
    · omega
    · omega
  obtain ⟨hk', rfl, hl1, hl2⟩ := hg
  rw [in_100 (by omega)]
  simp (disch := first | omega | exact am_fit_z0 | exact am_fit_z1 | (apply am_fit_zc <;> omega)) only [w100_0, w100_1, w100_1i, w100_2, w100_5, w100_6, w100_7, w100_10, w100_11, w100_12, w100_15, w100_16, w100_19, w100_20, w100_23, w100_24, w100_27, w100_28, w100_31, w100_32, w100_34, w100_37, w100_38, w100_39, w100_42, w100_43, w100_46, w100_47, w100_50, w100_51, w100_54, w100_55, w100_56, w100_59, w100_60, w100_63, w100_64, w100_65, w100_66, w100_69, w100_70, w100_71, w100_74, w100_75, w100_78, w100_79, w100_80, w100_81, w100_82, w100_85, w100_86, w100_89, w100_90, w100_93, w100_94, w100_95, w100_98, am_fit_i, am_isR, am_okA, exists_eq_left', exists_eq_left, Option.some.injEq, true_and, and_true, List.length_cons, List.length_nil, List.drop_succ_cons, List.drop_zero, List.all_cons, List.all_nil, am_c1, Bool.and_true, Bool.true_and, Bool.and_self, decide_true, decide_false, if_true, if_false, beq_self_eq_true, Nat.reduceAdd, Nat.reduceLeDiff, Nat.reduceLT, Nat.reduceEqDiff, Nat.reduceSub, ite_true, ite_false, and_self, eq_self, am_z_add, am_z_sub, am_z_mul, Int.reduceAdd, Int.reduceSub, Int.reduceMul, Int.reduceLT, Int.reduceLE, Int.reduceEq, Int.reduceNeg, am_then_i, am_then_r, am_then_v, Nat.add_eq, Nat.zero_add, Nat.add_zero, am_fit_z0, am_fit_z1, am_fit_zc, ↓reduceIte, am_lt_T, am_lt_F, am_le_T, am_le_F, am_eq_T, am_eq_F, am_z_lt, am_z_le, am_z_eq, am_z_char, am_set_se, am_set_sk, am_set_sh, o_52, f_52_0, f_52_1, f_52_2, f_52_3, f_52_4, f_52_5, s_52_5, f_52_6, s_52_6, f_52_7, s_52_7, f_52_8, s_52_8, f_52_9, s_52_9, f_52_10, f_52_11, f_52_12, f_52_13, f_52_14, f_52_15, f_52_16, s_52_16, l_55, t_55, l_56, t_56, l_57, t_57, l_58, t_58, l_59, t_59, l_60, t_60, l_61, t_61, l_62, t_62, o_2, f_2_0, s_2_0, f_2_1, s_2_1, o_8, f_8_0, f_8_1, f_8_2, f_8_3, s_8_3, l_11, t_11, h16, e16, q57, q58, q62]
  refine do_bind (B := am_bs F') (by omega) (by omega) (by omega) (by simp (disch := omega) only [am_set_sh, am_set_se, am_set_sk]) (by omega) (by simp (disch := omega) only [am_set_sh, am_set_se, am_set_sk]; exact a4') (fun S1 f1 k1 b1 s1 => ?_)
  simp (disch := first | omega | exact am_fit_z0 | exact am_fit_z1 | (apply am_fit_zc <;> omega)) only [w100_0, w100_1, w100_1i, w100_2, w100_5, w100_6, w100_7, w100_10, w100_11, w100_12, w100_15, w100_16, w100_19, w100_20, w100_23, w100_24, w100_27, w100_28, w100_31, w100_32, w100_34, w100_37, w100_38, w100_39, w100_42, w100_43, w100_46, w100_47, w100_50, w100_51, w100_54, w100_55, w100_56, w100_59, w100_60, w100_63, w100_64, w100_65, w100_66, w100_69, w100_70, w100_71, w100_74, w100_75, w100_78, w100_79, w100_80, w100_81, w100_82, w100_85, w100_86, w100_89, w100_90, w100_93, w100_94, w100_95, w100_98, am_fit_i, am_isR, am_okA, exists_eq_left', exists_eq_left, Option.some.injEq, true_and, and_true, List.length_cons, List.length_nil, List.drop_succ_cons, List.drop_zero, List.all_cons, List.all_nil, am_c1, Bool.and_true, Bool.true_and, Bool.and_self, decide_true, decide_false, if_true, if_false, beq_self_eq_true, Nat.reduceAdd, Nat.reduceLeDiff, Nat.reduceLT, Nat.reduceEqDiff, Nat.reduceSub, ite_true, ite_false, and_self, eq_self, am_z_add, am_z_sub, am_z_mul, Int.reduceAdd, Int.reduceSub, Int.reduceMul, Int.reduceLT, Int.reduceLE, Int.reduceEq, Int.reduceNeg, am_then_i, am_then_r, am_then_v, Nat.add_eq, Nat.zero_add, Nat.add_zero, am_fit_z0, am_fit_z1, am_fit_zc, ↓reduceIte, am_lt_T, am_lt_F, am_le_T, am_le_F, am_eq_T, am_eq_F, am_z_lt, am_z_le, am_z_eq, am_z_char, am_set_se, am_set_sk, am_set_sh, o_52, f_52_0, f_52_1, f_52_2, f_52_3, f_52_4, f_52_5, s_52_5, f_52_6, s_52_6, f_52_7, s_52_7, f_52_8, s_52_8, f_52_9, s_52_9, f_52_10, f_52_11, f_52_12, f_52_13, f_52_14, f_52_15, f_52_16, s_52_16, l_55, t_55, l_56, t_56, l_57, t_57, l_58, t_58, l_59, t_59, l_60, t_60, l_61, t_61, l_62, t_62, o_2, f_2_0, s_2_0, f_2_1, s_2_1, o_8, f_8_0, f_8_1, f_8_2, f_8_3, s_8_3, l_11, t_11, do_beginTerm]
  have e53 : S1 53 = S 53 := by rw [f1 53 (by omega) (by omega)]; simp (disch := omega) only [am_set_sh, am_set_se, am_set_sk]
  have e54 : S1 54 = S 54 := by rw [f1 54 (by omega) (by omega)]; simp (disch := omega) only [am_set_sh, am_set_se, am_set_sk]
  have e55 : S1 55 = S 55 := by rw [f1 55 (by omega) (by omega)]; simp (disch := omega) only [am_set_sh, am_set_se, am_set_sk]
  refine hQ _ ?_ ?_ ⟨?_, ?_, ?_, ?_, ?_, ?_, ?_, ?_, ?_, ?_, ?_, ?_⟩
  · intro h h1 h2
    simp (disch := omega) only [am_set_sh, am_set_se, am_set_sk]
    rw [f1 h (by omega) (by omega)]
    simp (disch := omega) only [am_set_sh, am_set_se, am_set_sk]
  · simp (disch := omega) only [am_set_sh, am_set_se, am_set_sk]
    rw [f1 2 (by omega) (by omega)]
    simp (disch := omega) only [am_set_sh, am_set_se, am_set_sk]
  · have eT : am_tF ((2, l, p, k', some v) :: F') ++ am_cu none 0 k = am_tF ((1, l, p, k', none) :: F') ++ am_lay v.1 := by
      show am_tF F' ++ ((if k' = 0 then [] else [(k' : Int)]) ++ am_lay v.1) ++ [] = am_tF F' ++ ((if k' = 0 then [] else [(k' : Int)]) ++ []) ++ am_lay v.1
      simp only [List.append_nil, List.append_assoc]
    rw [eT]
    exact am_row_fr a1' (by simp (disch := omega) only [am_set_sh, am_set_se, am_set_sk]; exact e53) (by simp (disch := omega) only [am_set_sh, am_set_se, am_set_sk]; exact e54)
  · have eT : am_pF ((2, l, p, k', some v) :: F') ++ am_cp none 0 pl = am_pF ((1, l, p, k', none) :: F') ++ v.2 := by
      show am_pF F' ++ ((if k' = 0 then [] else [p]) ++ v.2) ++ [] = am_pF F' ++ ((if k' = 0 then [] else [p]) ++ []) ++ v.2
      simp only [List.append_nil, List.append_assoc]
    rw [eT]
    simp (disch := omega) only [am_set_sh, am_set_se, am_set_sk]
    rw [e55]
    exact a2'
  · simp (disch := omega) only [am_set_sh, am_set_se, am_set_sk]
    exact b1
  · simp (disch := omega) only [am_set_sh, am_set_se, am_set_sk]
    exact s1
  · exact am_set_se
  · intro _
    simp (disch := omega) only [am_set_sh, am_set_se, am_set_sk]
    rw [e53, a1'.2.1, List.length_append, am_lay_len]
    show _ = ((am_tF F' ++ ((if k' = 0 then [] else [(k' : Int)]) ++ am_lay v.1)).length : Int)
    show (((am_tF F' ++ ((if k' = 0 then [] else [(k' : Int)]) ++ [])).length + am_sz v.1 : Nat) : Int) = _
    simp only [List.length_append, List.length_nil, am_lay_len]
    omega
  · simp (disch := omega) only [am_set_sh, am_set_se, am_set_sk]
    rw [k1 8 (by omega)]
    simp (disch := omega) only [am_set_sh, am_set_se, am_set_sk]
    exact a7
  · intro q
    omega
  · simp (disch := omega) only [am_set_sh, am_set_se, am_set_sk]
    rw [k1 9 (by omega)]
    simp (disch := omega) only [am_set_sh, am_set_se, am_set_sk]
    exact a9
  · simp (disch := omega) only [am_set_sh, am_set_se, am_set_sk]
    rw [k1 9 (by omega)]
    simp (disch := omega) only [am_set_sh, am_set_se, am_set_sk]
    exact a10
  · simp (disch := omega) only [am_set_sh, am_set_se, am_set_sk]
    rw [k1 16 (by omega)]
    simp (disch := omega) only [am_set_sh, am_set_se, am_set_sk]
    rfl
  · refine ⟨am_op_fr (fun h p1 p2 => ?_) hop.1, fun q => absurd q (by omega), fun q => absurd q (by omega)⟩
    simp (disch := omega) only [am_set_sh, am_set_se, am_set_sk]
    rw [f1 h (by omega) (by omega)]
    simp (disch := omega) only [am_set_sh, am_set_se, am_set_sk]
theorem do_close_br {d : Nat} {n : am_N} {X : Nat × (Nat → Int32)} {S : am_St} {Q : Option Value → am_N → am_M → Prop} {tl : Nat → Bool} {F F' : List am_Fr} {u v : am_U} {k k' : Nat} {pl lt lone l p : Int} {ob : Option am_U} (hd : 6 ≤ d) (hw : am_fw tl F) (hu : am_uw tl (am_bs F).length u) (hl : (am_tF F ++ am_lay u.1).length + 1 ≤ 200) (hoc : am_oc F ≤ 100) (hbs : (am_bs F).length ≤ 99) (hr : am_RC S (F, some u, 0, k, pl, lt, lone)) (hfo : am_fo F u = ((0, l, p, k', ob) :: F', v)) (hQ : ∀ (S' : am_St), am_f8 S S' → S' 2 = S 2 → am_RC S' (F', some (am_jn ob (v.1, p :: v.2.tail)), 0, k, pl, lt, lone) → Q none n (am_m X S')) : am_Do d 100 [.ref 52] n (am_m X S) Q := by
  obtain ⟨a1, a2, a3, a4, a5, a6, a7, a8, a9, a10, a11, a12⟩ := hr
  obtain ⟨r1, r2, r3, r4, r5, r6, r7, r8, B, r9⟩ := am_fo_spec hfo hw hu
  have hop := am_op_fo hfo a12
  obtain ⟨g1, g2, g3⟩ := r1
  have ebs : am_bs ((0, l, p, k', ob) :: F') = am_bs F' := if_neg (by omega)
  have eoc : am_oc ((0, l, p, k', ob) :: F') = am_oc F' + 1 := if_neg (by omega)
  rw [ebs] at r2 r6 r9
  rw [eoc] at r5
  have a1' : am_row S 53 200 (some (am_tF ((0, l, p, k', ob) :: F') ++ am_lay v.1)) := by rw [← r3]; exact a1
  have a2' : am_sg (S 55) 0 (am_pF ((0, l, p, k', ob) :: F') ++ v.2) := by rw [← r4]; exact a2
  have a4' : am_sg (S 56) 0 (am_bs F').reverse := by
    rw [r9, List.reverse_append, am_sg_app] at a4
    exact a4.1
  have h16 : S 52 16 = (am_oc F' : Int) + 1 := by rw [a11, ← r5]; omega
  have e16 : (am_oc F' : Int) + 1 - 1 = am_oc F' := by omega
  have len3 := congrArg List.length r3
  obtain ⟨q57, q59, q60, q61, q62⟩ := hop.2.1 rfl
  have hk' : k' = 0 := by omega
  subst hk'
  have hpl := am_pF_len g1
  have spv := am_sz_pos v.1
  have hv2 := r2.2
  have eTo : am_tF ((0, l, p, 0, ob) :: F') = am_tF F' ++ am_cu ob 0 0 := by
    cases ob with
    | none => rfl
    | some w => rfl
  have ePo : am_pF ((0, l, p, 0, ob) :: F') = am_pF F' ++ am_cp ob 0 0 := by
    cases ob with
    | none => rfl
    | some w => rfl
  have cpl : (am_cp ob 0 0).length = (am_cu ob 0 0).length := by
    cases ob with
    | none => rfl
    | some w => show w.2.length = (am_lay w.1).length; rw [am_lay_len]; exact (g2 w rfl).2
  have hstart : (am_tF ((0, l, p, 0, ob) :: F')).length < 200 := by
    rw [len3, List.length_append, am_lay_len] at hl
    omega
  rw [List.length_append, List.length_append, am_lay_len, am_lay_len] at len3
  rw [in_100 (by omega)]
  simp (disch := first | omega | exact am_fit_z0 | exact am_fit_z1 | (apply am_fit_zc <;> omega)) only [w100_0, w100_1, w100_1i, w100_2, w100_5, w100_6, w100_7, w100_10, w100_11, w100_12, w100_15, w100_16, w100_19, w100_20, w100_23, w100_24, w100_27, w100_28, w100_31, w100_32, w100_34, w100_37, w100_38, w100_39, w100_42, w100_43, w100_46, w100_47, w100_50, w100_51, w100_54, w100_55, w100_56, w100_59, w100_60, w100_63, w100_64, w100_65, w100_66, w100_69, w100_70, w100_71, w100_74, w100_75, w100_78, w100_79, w100_80, w100_81, w100_82, w100_85, w100_86, w100_89, w100_90, w100_93, w100_94, w100_95, w100_98, am_fit_i, am_isR, am_okA, exists_eq_left', exists_eq_left, Option.some.injEq, true_and, and_true, List.length_cons, List.length_nil, List.drop_succ_cons, List.drop_zero, List.all_cons, List.all_nil, am_c1, Bool.and_true, Bool.true_and, Bool.and_self, decide_true, decide_false, if_true, if_false, beq_self_eq_true, Nat.reduceAdd, Nat.reduceLeDiff, Nat.reduceLT, Nat.reduceEqDiff, Nat.reduceSub, ite_true, ite_false, and_self, eq_self, am_z_add, am_z_sub, am_z_mul, Int.reduceAdd, Int.reduceSub, Int.reduceMul, Int.reduceLT, Int.reduceLE, Int.reduceEq, Int.reduceNeg, am_then_i, am_then_r, am_then_v, Nat.add_eq, Nat.zero_add, Nat.add_zero, am_fit_z0, am_fit_z1, am_fit_zc, ↓reduceIte, am_lt_T, am_lt_F, am_le_T, am_le_F, am_eq_T, am_eq_F, am_z_lt, am_z_le, am_z_eq, am_z_char, am_set_se, am_set_sk, am_set_sh, o_52, f_52_0, f_52_1, f_52_2, f_52_3, f_52_4, f_52_5, s_52_5, f_52_6, s_52_6, f_52_7, s_52_7, f_52_8, s_52_8, f_52_9, s_52_9, f_52_10, f_52_11, f_52_12, f_52_13, f_52_14, f_52_15, f_52_16, s_52_16, l_55, t_55, l_56, t_56, l_57, t_57, l_58, t_58, l_59, t_59, l_60, t_60, l_61, t_61, l_62, t_62, o_2, f_2_0, s_2_0, f_2_1, s_2_1, o_8, f_8_0, f_8_1, f_8_2, f_8_3, s_8_3, l_11, t_11, h16, e16, q57, q59, q60, q61, q62]
  rw [eTo, List.append_assoc] at a1'
  rw [ePo, List.append_assoc] at a2'
  have hP : am_sg (am_set (am_set (am_set S 52 16 (am_oc F')) 52 5 (am_bs F').length) 55 ((am_tF ((0, l, p, 0, ob) :: F')).length) p 55) 0 (am_pF F' ++ (am_cp ob 0 0 ++ (p :: v.2.tail))) := by
    obtain ⟨t1, t2⟩ := am_sg_app.mp a2'
    obtain ⟨t3, t4⟩ := am_sg_app.mp t2
    have epos : (0 : Int) + (am_pF F').length + (am_cp ob 0 0).length = (am_tF ((0, l, p, 0, ob) :: F')).length := by
      rw [eTo, List.length_append, hpl, cpl]
      omega
    refine am_sg_app.mpr ⟨am_sg_congr t1 (fun x x0 x1 => ?_), am_sg_app.mpr ⟨am_sg_congr t3 (fun x x0 x1 => ?_), am_sg_cons.mpr ⟨?_, ?_⟩⟩⟩
    · rw [am_set_sk (by omega), am_set_sh (by omega), am_set_sh (by omega)]
    · rw [am_set_sk (by omega), am_set_sh (by omega), am_set_sh (by omega)]
    · rw [epos, am_set_se]
    · cases hv : v.2 with
      | nil =>
        rw [hv, List.length_nil] at hv2
        omega
      | cons x vs =>
        rw [hv] at t4
        refine am_sg_congr (am_sg_cons.mp t4).2 (fun x x0 x1 => ?_)
        rw [am_set_sk (by omega), am_set_sh (by omega), am_set_sh (by omega)]
  have hlen : (am_tF F' ++ (am_cu ob 0 0 ++ am_lay v.1)).length < 200 := by
    rw [← List.append_assoc, ← eTo, List.length_append, am_lay_len]
    rw [List.length_append, am_lay_len] at hl
    omega
  refine do_join (A := am_tF F') (L0 := am_cu ob 0 0 ++ am_lay v.1) (PA := am_pF F') (P0 := am_cp ob 0 0 ++ (p :: v.2.tail)) (by omega) (am_row_fr a1' (by simp (disch := omega) only [am_set_sh, am_set_se, am_set_sk]) (by simp (disch := omega) only [am_set_sh, am_set_se, am_set_sk])) hlen (by rw [am_set_sh (by omega)]; exact hP) hpl ?_ (by simp (disch := omega) only [am_set_sh, am_set_se, am_set_sk]) (by rw [List.length_append, am_lay_len]; omega) (by omega) (by omega) (fun S1 f1 k1 v1 s1 p1 => ?_)
  · rw [List.length_append, List.length_append, cpl, am_lay_len, List.length_cons, List.length_tail]
    omega
  · simp (disch := first | omega | exact am_fit_z0 | exact am_fit_z1 | (apply am_fit_zc <;> omega)) only [w100_0, w100_1, w100_1i, w100_2, w100_5, w100_6, w100_7, w100_10, w100_11, w100_12, w100_15, w100_16, w100_19, w100_20, w100_23, w100_24, w100_27, w100_28, w100_31, w100_32, w100_34, w100_37, w100_38, w100_39, w100_42, w100_43, w100_46, w100_47, w100_50, w100_51, w100_54, w100_55, w100_56, w100_59, w100_60, w100_63, w100_64, w100_65, w100_66, w100_69, w100_70, w100_71, w100_74, w100_75, w100_78, w100_79, w100_80, w100_81, w100_82, w100_85, w100_86, w100_89, w100_90, w100_93, w100_94, w100_95, w100_98, am_fit_i, am_isR, am_okA, exists_eq_left', exists_eq_left, Option.some.injEq, true_and, and_true, List.length_cons, List.length_nil, List.drop_succ_cons, List.drop_zero, List.all_cons, List.all_nil, am_c1, Bool.and_true, Bool.true_and, Bool.and_self, decide_true, decide_false, if_true, if_false, beq_self_eq_true, Nat.reduceAdd, Nat.reduceLeDiff, Nat.reduceLT, Nat.reduceEqDiff, Nat.reduceSub, ite_true, ite_false, and_self, eq_self, am_z_add, am_z_sub, am_z_mul, Int.reduceAdd, Int.reduceSub, Int.reduceMul, Int.reduceLT, Int.reduceLE, Int.reduceEq, Int.reduceNeg, am_then_i, am_then_r, am_then_v, Nat.add_eq, Nat.zero_add, Nat.add_zero, am_fit_z0, am_fit_z1, am_fit_zc, ↓reduceIte, am_lt_T, am_lt_F, am_le_T, am_le_F, am_eq_T, am_eq_F, am_z_lt, am_z_le, am_z_eq, am_z_char, am_set_se, am_set_sk, am_set_sh, o_52, f_52_0, f_52_1, f_52_2, f_52_3, f_52_4, f_52_5, s_52_5, f_52_6, s_52_6, f_52_7, s_52_7, f_52_8, s_52_8, f_52_9, s_52_9, f_52_10, f_52_11, f_52_12, f_52_13, f_52_14, f_52_15, f_52_16, s_52_16, l_55, t_55, l_56, t_56, l_57, t_57, l_58, t_58, l_59, t_59, l_60, t_60, l_61, t_61, l_62, t_62, o_2, f_2_0, s_2_0, f_2_1, s_2_1, o_8, f_8_0, f_8_1, f_8_2, f_8_3, s_8_3, l_11, t_11]
    have g : ∀ h, h ≠ 52 → h ≠ 53 → h ≠ 54 → h ≠ 55 → S1 h = S h := by
      intro h h1 h2 h3 h4
      rw [f1 h h1 h2 h3 h4]
      simp (disch := omega) only [am_set_sh, am_set_se, am_set_sk]
    refine hQ S1 (fun h h1 h2 => g h (by omega) (by omega) (by omega) (by omega)) (g 2 (by omega) (by omega) (by omega) (by omega)) ⟨?_, ?_, ?_, ?_, v1, ?_, ?_, ?_, ?_, ?_, ?_, ?_⟩
    · cases ob with
      | none =>
        rw [if_neg (by rw [eTo]; show ¬ ((am_tF F').length : Int) < (am_tF F' ++ []).length; rw [List.append_nil]; omega)] at s1
        exact s1
      | some w =>
        have := am_sz_pos w.1
        rw [if_pos (by rw [eTo, List.length_append]; show ((am_tF F').length : Int) < (((am_tF F').length + (am_lay w.1).length : Nat) : Int); rw [am_lay_len]; omega)] at s1
        exact s1
    · cases ob with
      | none =>
        rw [if_neg (by rw [eTo]; show ¬ ((am_tF F').length : Int) < (am_tF F' ++ []).length; rw [List.append_nil]; omega)] at p1
        exact p1
      | some w =>
        have hp := am_sz_pos w.1
        have hw2 := (g2 w rfl).2
        rw [if_pos (by rw [eTo, List.length_append]; show ((am_tF F').length : Int) < (((am_tF F').length + (am_lay w.1).length : Nat) : Int); rw [am_lay_len]; omega)] at p1
        have e : (am_cp (some w) 0 0 ++ (p :: v.2.tail)).headD 0 = w.2.headD 0 := by
          show (w.2 ++ (p :: v.2.tail)).headD 0 = _
          cases hq : w.2 with
          | nil =>
            rw [hq, List.length_nil] at hw2
            omega
          | cons x ws => rfl
        rw [e] at p1
        exact p1
    · rw [k1 5 (by omega)]
      simp (disch := omega) only [am_set_sh, am_set_se, am_set_sk]
    · rw [g 56 (by omega) (by omega) (by omega) (by omega)]
      exact a4'
    · intro _
      rw [k1 7 (by omega)]
      simp (disch := omega) only [am_set_sh, am_set_se, am_set_sk]
    · rw [k1 8 (by omega)]
      simp (disch := omega) only [am_set_sh, am_set_se, am_set_sk]
      exact a7
    · intro q
      omega
    · rw [k1 9 (by omega)]
      simp (disch := omega) only [am_set_sh, am_set_se, am_set_sk]
      exact a9
    · rw [k1 9 (by omega)]
      simp (disch := omega) only [am_set_sh, am_set_se, am_set_sk]
      exact a10
    · rw [k1 16 (by omega)]
      simp (disch := omega) only [am_set_sh, am_set_se, am_set_sk]
    · exact am_op_fr (fun h h1 h2 => g h (by omega) (by omega) (by omega) (by omega)) hop.1
