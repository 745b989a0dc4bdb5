/-! the reference's parts -/
def am_es (z : Int) : Int := if 20 ≤ z ∧ z ≤ 40 then 10 else am_et z
def am_rep (S : am_St) (pl : Int → Int) : Int → am_T → Int → Prop
  | p, .leaf z, q => 0 ≤ p ∧ p < 400 ∧ S 187 p = am_es z ∧ (20 ≤ z ∧ z ≤ 40 → S 188 p = z - 20) ∧ S 190 p = pl q
  | p, .branch k a b, q => 0 ≤ p ∧ p < 400 ∧ S 187 p = ((k + 1 : Nat) : Int) ∧ S 190 p = pl q ∧ am_rep S pl (S 188 p) a (q + 1) ∧ am_rep S pl (S 189 p) b (q + 1 + am_sz a)
theorem am_rep_fr {S S' : am_St} {pl : Int → Int} (h1 : S' 187 = S 187) (h2 : S' 188 = S 188) (h3 : S' 189 = S 189) (h4 : S' 190 = S 190) : ∀ {t : am_T} {p q : Int}, am_rep S pl p t q → am_rep S' pl p t q
  | .leaf z, p, q, h => by
    unfold am_rep at h ⊢
    rw [h1, h2, h4]
    exact h
  | .branch k a b, p, q, h => by
    unfold am_rep at h ⊢
    rw [h1, h2, h3, h4]
    exact ⟨h.1, h.2.1, h.2.2.1, h.2.2.2.1, am_rep_fr h1 h2 h3 h4 h.2.2.2.2.1, am_rep_fr h1 h2 h3 h4 h.2.2.2.2.2⟩
theorem am_rep_p {S : am_St} {pl : Int → Int} : ∀ {t : am_T} {p q : Int}, am_rep S pl p t q → 0 ≤ p ∧ p < 400 ∧ S 190 p = pl q
  | .leaf _, _, _, h => ⟨h.1, h.2.1, h.2.2.2.2⟩
  | .branch _ _ _, _, _, h => ⟨h.1, h.2.1, h.2.2.2.1⟩
theorem am_nm_en {j : Nat} : am_lay (am_en (am_nm (j + 1))) = [1, 7] ++ am_lay (am_en (am_nm j)) := rfl
theorem nu_loop {d : Nat} {n : am_N} {X : Nat × (Nat → Int32)} {Q : Option Value → am_N → am_M → Prop} {v1 : Value} {p v : Int} (p0 : 0 ≤ p) (p1 : p < 400) (hv1 : v ≤ 20) : ∀ (j : Nat) {i : Int} {l : List Int} {S : am_St}, i + j = v → 0 ≤ i → S 188 p = v → S 179 33 = l.length → am_sg (S 201) 0 l → l.length + 2 * j + 1 ≤ 200 → (∀ (S' : am_St) v3, am_fk [33] [201] S S' → S' 179 33 = (l ++ am_lay (am_en (am_nm j))).length → am_sg (S' 201) 0 (l ++ am_lay (am_en (am_nm j))) → am_AW d 38 (17, [.ref 179, v1, .int (am_z p), v3], [], n, am_m X S') Q) → am_AW d 38 (67, [.ref 179, v1, .int (am_z p), .int (am_z i)], [], n, am_m X S) Q
  | 0, i, l, S, hi, h0, hv, h1, h2, h3, hQ => by
    rw [w38_67]
    simp (disch := first | omega | exact am_fit_z0 | exact am_fit_z1 | (apply am_fit_zc <;> omega)) only [w38_0, w38_1, w38_2, w38_5, w38_6, w38_7, w38_10, w38_11, w38_14, w38_15, w38_16, w38_18, w38_21, w38_24, w38_25, w38_28, w38_31, w38_34, w38_35, w38_35i, w38_36, w38_39, w38_40, w38_41, w38_44, w38_45, w38_48, w38_49, w38_52, w38_53, w38_54, w38_55, w38_58, w38_59, w38_60, w38_62, w38_65, w38_66, w38_68, w38_69, w38_72, w38_73, w38_74, w38_77, w38_78, w38_81, w38_82, w38_85, w38_86, w38_87, w38_88, w38_91, w38_92, w38_95, w38_96, w38_97, w38_99, w38_100, w38_101, w38_102, w38_105, w38_106, w38_107, w38_110, w38_113, w38_116, w38_117, w38_120, w38_121, w38_124, w38_126, w38_127, w38_128, w38_128i, w38_129, w38_132, w38_133, w38_134, w38_137, w38_140, w38_141, w38_144, w38_145, w38_148, w38_149, w38_152, w38_153, w38_154, w38_155, w38_156, w38_156i, w38_157, w38_160, w38_161, w38_162, w38_165, w38_166, w38_169, w38_170, w38_171, w38_174, w38_175, w38_178, w38_179, w38_182, w38_183, w38_186, w38_187, w38_190, w38_191, w38_192, w38_193, w38_194, w38_197, w38_198, w38_201, w38_202, w38_203, w38_204, w38_207, w38_208, w38_209, w38_210, w38_211, w38_212, w38_215, w38_216, w38_217, w38_220, w38_223, am_fit_i, am_isR, am_okA, exists_eq_left', exists_eq_left, Option.some.injEq, true_and, and_true, List.length_cons, List.length_nil, List.drop_succ_cons, List.drop_zero, List.all_cons, List.all_nil, am_c1, Bool.and_true, Bool.true_and, Bool.and_self, decide_true, decide_false, if_true, if_false, beq_self_eq_true, Nat.reduceAdd, Nat.reduceLeDiff, Nat.reduceLT, Nat.reduceEqDiff, Nat.reduceSub, ite_true, ite_false, and_self, eq_self, am_z_add, am_z_sub, am_z_mul, Int.reduceAdd, Int.reduceSub, Int.reduceMul, Int.reduceLT, Int.reduceLE, Int.reduceEq, Int.reduceNeg, am_then_i, am_then_r, am_then_v, Nat.add_eq, Nat.zero_add, Nat.add_zero, am_fit_z0, am_fit_z1, am_fit_zc, ↓reduceIte, am_lt_T, am_lt_F, am_le_T, am_le_F, am_eq_T, am_eq_F, am_z_lt, am_z_le, am_z_eq, am_z_char, am_set_se, am_set_sk, am_set_sh, hv, h1, o_179, f_179_0, f_179_1, s_179_1, f_179_2, f_179_3, s_179_3, f_179_4, s_179_4, f_179_5, f_179_6, s_179_6, f_179_7, s_179_7, f_179_8, f_179_9, f_179_10, f_179_11, f_179_12, s_179_12, f_179_13, f_179_14, f_179_15, f_179_16, f_179_17, s_179_17, f_179_18, s_179_18, f_179_19, f_179_20, f_179_21, f_179_22, f_179_23, f_179_24, s_179_24, f_179_25, f_179_26, f_179_27, s_179_27, f_179_28, f_179_29, s_179_29, f_179_30, f_179_31, f_179_32, f_179_33, s_179_33, f_179_34, s_179_34, f_179_35, f_179_36, f_179_37, f_179_38, f_179_39, f_179_40, s_179_40, f_179_41, f_179_42, f_179_43, s_179_43, f_179_44, l_187, t_187, l_188, t_188, l_189, t_189, l_190, t_190, l_201, t_201, l_207, t_207]
    refine hQ _ _ (am_fk_trans (am_fk_arr (by decide) (by decide)) (am_fk_set (by decide))) ?_ ?_
    · rw [am_set_se, List.length_append]; rfl
    · rw [am_set_sh (by omega)]
      have := am_sg_snoc (v := 9) h2
      rw [Int.zero_add] at this
      exact this
  | j + 1, i, l, S, hi, h0, hv, h1, h2, h3, hQ => by
    rw [w38_67]
    simp (disch := first | omega | exact am_fit_z0 | exact am_fit_z1 | (apply am_fit_zc <;> omega)) only [w38_0, w38_1, w38_2, w38_5, w38_6, w38_7, w38_10, w38_11, w38_14, w38_15, w38_16, w38_18, w38_21, w38_24, w38_25, w38_28, w38_31, w38_34, w38_35, w38_35i, w38_36, w38_39, w38_40, w38_41, w38_44, w38_45, w38_48, w38_49, w38_52, w38_53, w38_54, w38_55, w38_58, w38_59, w38_60, w38_62, w38_65, w38_66, w38_68, w38_69, w38_72, w38_73, w38_74, w38_77, w38_78, w38_81, w38_82, w38_85, w38_86, w38_87, w38_88, w38_91, w38_92, w38_95, w38_96, w38_97, w38_99, w38_100, w38_101, w38_102, w38_105, w38_106, w38_107, w38_110, w38_113, w38_116, w38_117, w38_120, w38_121, w38_124, w38_126, w38_127, w38_128, w38_128i, w38_129, w38_132, w38_133, w38_134, w38_137, w38_140, w38_141, w38_144, w38_145, w38_148, w38_149, w38_152, w38_153, w38_154, w38_155, w38_156, w38_156i, w38_157, w38_160, w38_161, w38_162, w38_165, w38_166, w38_169, w38_170, w38_171, w38_174, w38_175, w38_178, w38_179, w38_182, w38_183, w38_186, w38_187, w38_190, w38_191, w38_192, w38_193, w38_194, w38_197, w38_198, w38_201, w38_202, w38_203, w38_204, w38_207, w38_208, w38_209, w38_210, w38_211, w38_212, w38_215, w38_216, w38_217, w38_220, w38_223, am_fit_i, am_isR, am_okA, exists_eq_left', exists_eq_left, Option.some.injEq, true_and, and_true, List.length_cons, List.length_nil, List.drop_succ_cons, List.drop_zero, List.all_cons, List.all_nil, am_c1, Bool.and_true, Bool.true_and, Bool.and_self, decide_true, decide_false, if_true, if_false, beq_self_eq_true, Nat.reduceAdd, Nat.reduceLeDiff, Nat.reduceLT, Nat.reduceEqDiff, Nat.reduceSub, ite_true, ite_false, and_self, eq_self, am_z_add, am_z_sub, am_z_mul, Int.reduceAdd, Int.reduceSub, Int.reduceMul, Int.reduceLT, Int.reduceLE, Int.reduceEq, Int.reduceNeg, am_then_i, am_then_r, am_then_v, Nat.add_eq, Nat.zero_add, Nat.add_zero, am_fit_z0, am_fit_z1, am_fit_zc, ↓reduceIte, am_lt_T, am_lt_F, am_le_T, am_le_F, am_eq_T, am_eq_F, am_z_lt, am_z_le, am_z_eq, am_z_char, am_set_se, am_set_sk, am_set_sh, hv, h1, o_179, f_179_0, f_179_1, s_179_1, f_179_2, f_179_3, s_179_3, f_179_4, s_179_4, f_179_5, f_179_6, s_179_6, f_179_7, s_179_7, f_179_8, f_179_9, f_179_10, f_179_11, f_179_12, s_179_12, f_179_13, f_179_14, f_179_15, f_179_16, f_179_17, s_179_17, f_179_18, s_179_18, f_179_19, f_179_20, f_179_21, f_179_22, f_179_23, f_179_24, s_179_24, f_179_25, f_179_26, f_179_27, s_179_27, f_179_28, f_179_29, s_179_29, f_179_30, f_179_31, f_179_32, f_179_33, s_179_33, f_179_34, s_179_34, f_179_35, f_179_36, f_179_37, f_179_38, f_179_39, f_179_40, s_179_40, f_179_41, f_179_42, f_179_43, s_179_43, f_179_44, l_187, t_187, l_188, t_188, l_189, t_189, l_190, t_190, l_201, t_201, l_207, t_207]
    have f1 : am_fk [33] [201] S (am_set (am_set (am_set S 201 l.length 1) 201 (l.length + 1) 7) 179 33 (l.length + 2)) := am_fk_trans (am_fk_trans (am_fk_arr (by decide) (by decide)) (am_fk_arr (by decide) (by decide))) (am_fk_set (by decide))
    refine nu_loop p0 p1 hv1 j (l := l ++ [1, 7]) (by omega) (by omega) (by rw [f1.1 188 (by decide) (by decide)]; exact hv) (by rw [am_set_se, List.length_append]; rfl) ?_ (by rw [List.length_append]; simp only [List.length_cons, List.length_nil]; omega) (fun S2 v3 f2 k1 k2 => hQ S2 v3 (am_fk_trans f1 f2) ?_ ?_)
    · rw [am_set_sh (by omega), am_sg_app]
      refine ⟨am_sg_set (am_sg_set h2 (Or.inr (by omega))) (Or.inr (by omega)), am_sg_cons.mpr ⟨?_, am_sg_one.mpr ?_⟩⟩
      · rw [Int.zero_add, am_set_sk (by omega), am_set_se]
      · rw [Int.zero_add, am_set_se]
    · rw [List.append_assoc] at k1
      exact k1
    · rw [List.append_assoc] at k2
      exact k2
abbrev am_Pt : Type := Int × am_T × Int
def am_fx (F : List am_Pt) : List Int := F.flatMap (fun x => am_lay (am_en (am_xp x.2.1)))
def am_fz (F : List am_Pt) : Nat := (F.map (fun x => am_sz x.2.1)).sum
theorem am_fz_cons {x : am_Pt} {F : List am_Pt} : am_fz (x :: F) = am_sz x.2.1 + am_fz F := rfl
theorem ly_loop {d : Nat} {n : am_N} {X : Nat × (Nat → Int32)} {Q : Option Value → am_N → am_M → Prop} {pl : Int → Int} {v1 : Value} (hd : 1 ≤ d) : ∀ (m : Nat) {F : List am_Pt} {l : List Int} {v2 v3 : Value} {S : am_St}, am_fz F ≤ m → (∀ x ∈ F, am_rep S pl x.1 x.2.1 x.2.2 ∧ am_gd x.2.1) → S 179 43 = F.length → am_sg (S 207) 0 (F.reverse.map (fun x => x.1)) → S 179 33 = l.length → am_sg (S 201) 0 l → l.length ≤ 191 → F.length ≤ l.length + 1 → (∀ (S' : am_St) lf, am_fk [33, 43] [201, 207] S S' → S' 179 33 = (lf : List Int).length → am_sg (S' 201) 0 lf → lf.length ≤ 191 → (lf = l ++ am_fx F ∨ (150 ≤ lf.length ∧ 150 ≤ (l ++ am_fx F).length)) → Q none n (am_m X S')) → am_AW d 38 (17, [.ref 179, v1, v2, v3], [], n, am_m X S) Q
  | m, [], l, v2, v3, S, hm, hr, h1, h2, h3, h4, h5, h6, hQ => by
    have h1' : S 179 43 = 0 := h1
    rw [w38_17]
    simp (disch := first | omega | exact am_fit_z0 | exact am_fit_z1 | (apply am_fit_zc <;> omega)) only [w38_0, w38_1, w38_2, w38_5, w38_6, w38_7, w38_10, w38_11, w38_14, w38_15, w38_16, w38_18, w38_21, w38_24, w38_25, w38_28, w38_31, w38_34, w38_35, w38_35i, w38_36, w38_39, w38_40, w38_41, w38_44, w38_45, w38_48, w38_49, w38_52, w38_53, w38_54, w38_55, w38_58, w38_59, w38_60, w38_62, w38_65, w38_66, w38_68, w38_69, w38_72, w38_73, w38_74, w38_77, w38_78, w38_81, w38_82, w38_85, w38_86, w38_87, w38_88, w38_91, w38_92, w38_95, w38_96, w38_97, w38_99, w38_100, w38_101, w38_102, w38_105, w38_106, w38_107, w38_110, w38_113, w38_116, w38_117, w38_120, w38_121, w38_124, w38_126, w38_127, w38_128, w38_128i, w38_129, w38_132, w38_133, w38_134, w38_137, w38_140, w38_141, w38_144, w38_145, w38_148, w38_149, w38_152, w38_153, w38_154, w38_155, w38_156, w38_156i, w38_157, w38_160, w38_161, w38_162, w38_165, w38_166, w38_169, w38_170, w38_171, w38_174, w38_175, w38_178, w38_179, w38_182, w38_183, w38_186, w38_187, w38_190, w38_191, w38_192, w38_193, w38_194, w38_197, w38_198, w38_201, w38_202, w38_203, w38_204, w38_207, w38_208, w38_209, w38_210, w38_211, w38_212, w38_215, w38_216, w38_217, w38_220, w38_223, am_fit_i, am_isR, am_okA, exists_eq_left', exists_eq_left, Option.some.injEq, true_and, and_true, List.length_cons, List.length_nil, List.drop_succ_cons, List.drop_zero, List.all_cons, List.all_nil, am_c1, Bool.and_true, Bool.true_and, Bool.and_self, decide_true, decide_false, if_true, if_false, beq_self_eq_true, Nat.reduceAdd, Nat.reduceLeDiff, Nat.reduceLT, Nat.reduceEqDiff, Nat.reduceSub, ite_true, ite_false, and_self, eq_self, am_z_add, am_z_sub, am_z_mul, Int.reduceAdd, Int.reduceSub, Int.reduceMul, Int.reduceLT, Int.reduceLE, Int.reduceEq, Int.reduceNeg, am_then_i, am_then_r, am_then_v, Nat.add_eq, Nat.zero_add, Nat.add_zero, am_fit_z0, am_fit_z1, am_fit_zc, ↓reduceIte, am_lt_T, am_lt_F, am_le_T, am_le_F, am_eq_T, am_eq_F, am_z_lt, am_z_le, am_z_eq, am_z_char, am_set_se, am_set_sk, am_set_sh, h1', o_179, f_179_0, f_179_1, s_179_1, f_179_2, f_179_3, s_179_3, f_179_4, s_179_4, f_179_5, f_179_6, s_179_6, f_179_7, s_179_7, f_179_8, f_179_9, f_179_10, f_179_11, f_179_12, s_179_12, f_179_13, f_179_14, f_179_15, f_179_16, f_179_17, s_179_17, f_179_18, s_179_18, f_179_19, f_179_20, f_179_21, f_179_22, f_179_23, f_179_24, s_179_24, f_179_25, f_179_26, f_179_27, s_179_27, f_179_28, f_179_29, s_179_29, f_179_30, f_179_31, f_179_32, f_179_33, s_179_33, f_179_34, s_179_34, f_179_35, f_179_36, f_179_37, f_179_38, f_179_39, f_179_40, s_179_40, f_179_41, f_179_42, f_179_43, s_179_43, f_179_44, l_187, t_187, l_188, t_188, l_189, t_189, l_190, t_190, l_201, t_201, l_207, t_207]
    exact hQ S l am_fk_rfl h3 h4 h5 (Or.inl (by show l = l ++ []; rw [List.append_nil]))
  | 0, x :: F, l, v2, v3, S, hm, hr, h1, h2, h3, h4, h5, h6, hQ => by
    exfalso
    rw [am_fz_cons] at hm
    have := am_sz_pos x.2.1
    omega
  | m + 1, (p, t, q) :: F, l, v2, v3, S, hm, hr, h1, h2, h3, h4, h5, h6, hQ => by
    rw [List.length_cons] at h1 h6
    have h1' : S 179 43 = (F.length : Int) + 1 := by rw [h1]; omega
    by_cases c150 : l.length < 150
    rotate_left
    · rw [w38_17]
      simp (disch := first | omega | exact am_fit_z0 | exact am_fit_z1 | (apply am_fit_zc <;> omega)) only [w38_0, w38_1, w38_2, w38_5, w38_6, w38_7, w38_10, w38_11, w38_14, w38_15, w38_16, w38_18, w38_21, w38_24, w38_25, w38_28, w38_31, w38_34, w38_35, w38_35i, w38_36, w38_39, w38_40, w38_41, w38_44, w38_45, w38_48, w38_49, w38_52, w38_53, w38_54, w38_55, w38_58, w38_59, w38_60, w38_62, w38_65, w38_66, w38_68, w38_69, w38_72, w38_73, w38_74, w38_77, w38_78, w38_81, w38_82, w38_85, w38_86, w38_87, w38_88, w38_91, w38_92, w38_95, w38_96, w38_97, w38_99, w38_100, w38_101, w38_102, w38_105, w38_106, w38_107, w38_110, w38_113, w38_116, w38_117, w38_120, w38_121, w38_124, w38_126, w38_127, w38_128, w38_128i, w38_129, w38_132, w38_133, w38_134, w38_137, w38_140, w38_141, w38_144, w38_145, w38_148, w38_149, w38_152, w38_153, w38_154, w38_155, w38_156, w38_156i, w38_157, w38_160, w38_161, w38_162, w38_165, w38_166, w38_169, w38_170, w38_171, w38_174, w38_175, w38_178, w38_179, w38_182, w38_183, w38_186, w38_187, w38_190, w38_191, w38_192, w38_193, w38_194, w38_197, w38_198, w38_201, w38_202, w38_203, w38_204, w38_207, w38_208, w38_209, w38_210, w38_211, w38_212, w38_215, w38_216, w38_217, w38_220, w38_223, am_fit_i, am_isR, am_okA, exists_eq_left', exists_eq_left, Option.some.injEq, true_and, and_true, List.length_cons, List.length_nil, List.drop_succ_cons, List.drop_zero, List.all_cons, List.all_nil, am_c1, Bool.and_true, Bool.true_and, Bool.and_self, decide_true, decide_false, if_true, if_false, beq_self_eq_true, Nat.reduceAdd, Nat.reduceLeDiff, Nat.reduceLT, Nat.reduceEqDiff, Nat.reduceSub, ite_true, ite_false, and_self, eq_self, am_z_add, am_z_sub, am_z_mul, Int.reduceAdd, Int.reduceSub, Int.reduceMul, Int.reduceLT, Int.reduceLE, Int.reduceEq, Int.reduceNeg, am_then_i, am_then_r, am_then_v, Nat.add_eq, Nat.zero_add, Nat.add_zero, am_fit_z0, am_fit_z1, am_fit_zc, ↓reduceIte, am_lt_T, am_lt_F, am_le_T, am_le_F, am_eq_T, am_eq_F, am_z_lt, am_z_le, am_z_eq, am_z_char, am_set_se, am_set_sk, am_set_sh, h1', h3, o_179, f_179_0, f_179_1, s_179_1, f_179_2, f_179_3, s_179_3, f_179_4, s_179_4, f_179_5, f_179_6, s_179_6, f_179_7, s_179_7, f_179_8, f_179_9, f_179_10, f_179_11, f_179_12, s_179_12, f_179_13, f_179_14, f_179_15, f_179_16, f_179_17, s_179_17, f_179_18, s_179_18, f_179_19, f_179_20, f_179_21, f_179_22, f_179_23, f_179_24, s_179_24, f_179_25, f_179_26, f_179_27, s_179_27, f_179_28, f_179_29, s_179_29, f_179_30, f_179_31, f_179_32, f_179_33, s_179_33, f_179_34, s_179_34, f_179_35, f_179_36, f_179_37, f_179_38, f_179_39, f_179_40, s_179_40, f_179_41, f_179_42, f_179_43, s_179_43, f_179_44, l_187, t_187, l_188, t_188, l_189, t_189, l_190, t_190, l_201, t_201, l_207, t_207]
      exact hQ S l am_fk_rfl h3 h4 h5 (Or.inr ⟨by omega, by rw [List.length_append]; omega⟩)
    rw [List.reverse_cons, List.map_append, am_sg_app, List.length_map, List.length_reverse] at h2
    obtain ⟨h2a, h2b⟩ := h2
    have h2c : S 207 F.length = p := by
      have := am_sg_one.mp (show am_sg (S 207) (0 + (F.length : Int)) [p] from h2b)
      rw [Int.zero_add] at this
      exact this
    obtain ⟨rp, gt⟩ := hr (p, t, q) List.mem_cons_self
    simp only at rp gt
    rw [am_fz_cons] at hm
    simp only at hm
    have e1 : (F.length : Int) + 1 - 1 = F.length := by omega
    obtain ⟨p0, p1, -⟩ := am_rep_p rp
    have hrF : ∀ (S' : am_St), (∀ h, h = 187 ∨ h = 188 ∨ h = 189 ∨ h = 190 → S' h = S h) → ∀ x ∈ F, am_rep S' pl x.1 x.2.1 x.2.2 ∧ am_gd x.2.1 := fun S' hs x hx => ⟨am_rep_fr (hs 187 (by omega)) (hs 188 (by omega)) (hs 189 (by omega)) (hs 190 (by omega)) (hr x (List.mem_cons_of_mem _ hx)).1, (hr x (List.mem_cons_of_mem _ hx)).2⟩
    cases t with
    | leaf z =>
      obtain ⟨-, -, sg, on, -⟩ := rp
      have hz0 := gt.1
      have hz1 := gt.2
      by_cases cn : 20 ≤ z ∧ z ≤ 40
      · have es : am_es z = 10 := if_pos cn
        rw [es] at sg
        have on' := on cn
        have ex : am_xp (.leaf z) = am_nm (z - 20).toNat := if_pos cn
        rw [w38_17]
        simp (disch := first | omega | exact am_fit_z0 | exact am_fit_z1 | (apply am_fit_zc <;> omega)) only [w38_0, w38_1, w38_2, w38_5, w38_6, w38_7, w38_10, w38_11, w38_14, w38_15, w38_16, w38_18, w38_21, w38_24, w38_25, w38_28, w38_31, w38_34, w38_35, w38_35i, w38_36, w38_39, w38_40, w38_41, w38_44, w38_45, w38_48, w38_49, w38_52, w38_53, w38_54, w38_55, w38_58, w38_59, w38_60, w38_62, w38_65, w38_66, w38_68, w38_69, w38_72, w38_73, w38_74, w38_77, w38_78, w38_81, w38_82, w38_85, w38_86, w38_87, w38_88, w38_91, w38_92, w38_95, w38_96, w38_97, w38_99, w38_100, w38_101, w38_102, w38_105, w38_106, w38_107, w38_110, w38_113, w38_116, w38_117, w38_120, w38_121, w38_124, w38_126, w38_127, w38_128, w38_128i, w38_129, w38_132, w38_133, w38_134, w38_137, w38_140, w38_141, w38_144, w38_145, w38_148, w38_149, w38_152, w38_153, w38_154, w38_155, w38_156, w38_156i, w38_157, w38_160, w38_161, w38_162, w38_165, w38_166, w38_169, w38_170, w38_171, w38_174, w38_175, w38_178, w38_179, w38_182, w38_183, w38_186, w38_187, w38_190, w38_191, w38_192, w38_193, w38_194, w38_197, w38_198, w38_201, w38_202, w38_203, w38_204, w38_207, w38_208, w38_209, w38_210, w38_211, w38_212, w38_215, w38_216, w38_217, w38_220, w38_223, am_fit_i, am_isR, am_okA, exists_eq_left', exists_eq_left, Option.some.injEq, true_and, and_true, List.length_cons, List.length_nil, List.drop_succ_cons, List.drop_zero, List.all_cons, List.all_nil, am_c1, Bool.and_true, Bool.true_and, Bool.and_self, decide_true, decide_false, if_true, if_false, beq_self_eq_true, Nat.reduceAdd, Nat.reduceLeDiff, Nat.reduceLT, Nat.reduceEqDiff, Nat.reduceSub, ite_true, ite_false, and_self, eq_self, am_z_add, am_z_sub, am_z_mul, Int.reduceAdd, Int.reduceSub, Int.reduceMul, Int.reduceLT, Int.reduceLE, Int.reduceEq, Int.reduceNeg, am_then_i, am_then_r, am_then_v, Nat.add_eq, Nat.zero_add, Nat.add_zero, am_fit_z0, am_fit_z1, am_fit_zc, ↓reduceIte, am_lt_T, am_lt_F, am_le_T, am_le_F, am_eq_T, am_eq_F, am_z_lt, am_z_le, am_z_eq, am_z_char, am_set_se, am_set_sk, am_set_sh, h1', h3, e1, h2c, sg, o_179, f_179_0, f_179_1, s_179_1, f_179_2, f_179_3, s_179_3, f_179_4, s_179_4, f_179_5, f_179_6, s_179_6, f_179_7, s_179_7, f_179_8, f_179_9, f_179_10, f_179_11, f_179_12, s_179_12, f_179_13, f_179_14, f_179_15, f_179_16, f_179_17, s_179_17, f_179_18, s_179_18, f_179_19, f_179_20, f_179_21, f_179_22, f_179_23, f_179_24, s_179_24, f_179_25, f_179_26, f_179_27, s_179_27, f_179_28, f_179_29, s_179_29, f_179_30, f_179_31, f_179_32, f_179_33, s_179_33, f_179_34, s_179_34, f_179_35, f_179_36, f_179_37, f_179_38, f_179_39, f_179_40, s_179_40, f_179_41, f_179_42, f_179_43, s_179_43, f_179_44, l_187, t_187, l_188, t_188, l_189, t_189, l_190, t_190, l_201, t_201, l_207, t_207]
        have f0 : am_fk [33, 43] [201, 207] S (am_set S 179 43 F.length) := am_fk_set (by decide)
        refine nu_loop (v := z - 20) p0 p1 (by omega) (z - 20).toNat (i := 0) (l := l) (by omega) (Int.le_refl 0) (by rw [f0.1 188 (by decide) (by decide)]; exact on') (by rw [am_set_sk (by omega)]; exact h3) (by rw [am_set_sh (by omega)]; exact h4) (by omega) (fun S1 v3 f1 k1 k2 => ?_)
        have g1 := am_fk_trans f0 (am_fk_le f1 (by decide) (by decide))
        have ln : (am_lay (am_en (am_nm (z - 20).toNat))).length = 2 * (z - 20).toNat + 1 := by
          have : ∀ j, (am_lay (am_en (am_nm j))).length = 2 * j + 1 := by
            intro j
            induction j with
            | zero => rfl
            | succ j ih => rw [am_nm_en, List.length_append, ih]; simp only [List.length_cons, List.length_nil]; omega
          exact this _
        refine ly_loop (pl := pl) hd m (F := F) (l := l ++ am_lay (am_en (am_nm (z - 20).toNat))) (by have : am_sz (.leaf z : am_T) = 1 := rfl; omega) (hrF S1 (fun h hh => g1.1 h (by omega) (by rcases hh with rfl | rfl | rfl | rfl <;> decide))) (by rw [f1.2 43 (by decide), am_set_se]) (by rw [f1.1 207 (by decide) (by decide), am_set_sh (by omega)]; exact h2a) k1 k2 (by rw [List.length_append, ln]; omega) (by rw [List.length_append, ln]; omega) (fun S2 lf f2 y1 y2 y3 y4 => hQ S2 lf (am_fk_trans g1 f2) y1 y2 y3 ?_)
        rw [List.append_assoc] at y4
        have e2 : am_fx ((p, .leaf z, q) :: F) = am_lay (am_en (am_nm (z - 20).toNat)) ++ am_fx F := by
          show am_lay (am_en (am_xp (.leaf z))) ++ am_fx F = _
          rw [ex]
        rw [e2]
        exact y4
      · have es : am_es z = am_et z := if_neg cn
        rw [es] at sg
        have be := am_et_b hz0 hz1
        have ne10 : ¬ am_et z = 10 := by
          unfold am_et
          split
          · omega
          · split
            · omega
            · split
              · omega
              · split <;> omega
        have ex : am_xp (.leaf z) = .leaf z := if_neg cn
        rw [w38_17]
        simp (disch := first | omega | exact am_fit_z0 | exact am_fit_z1 | (apply am_fit_zc <;> omega)) only [w38_0, w38_1, w38_2, w38_5, w38_6, w38_7, w38_10, w38_11, w38_14, w38_15, w38_16, w38_18, w38_21, w38_24, w38_25, w38_28, w38_31, w38_34, w38_35, w38_35i, w38_36, w38_39, w38_40, w38_41, w38_44, w38_45, w38_48, w38_49, w38_52, w38_53, w38_54, w38_55, w38_58, w38_59, w38_60, w38_62, w38_65, w38_66, w38_68, w38_69, w38_72, w38_73, w38_74, w38_77, w38_78, w38_81, w38_82, w38_85, w38_86, w38_87, w38_88, w38_91, w38_92, w38_95, w38_96, w38_97, w38_99, w38_100, w38_101, w38_102, w38_105, w38_106, w38_107, w38_110, w38_113, w38_116, w38_117, w38_120, w38_121, w38_124, w38_126, w38_127, w38_128, w38_128i, w38_129, w38_132, w38_133, w38_134, w38_137, w38_140, w38_141, w38_144, w38_145, w38_148, w38_149, w38_152, w38_153, w38_154, w38_155, w38_156, w38_156i, w38_157, w38_160, w38_161, w38_162, w38_165, w38_166, w38_169, w38_170, w38_171, w38_174, w38_175, w38_178, w38_179, w38_182, w38_183, w38_186, w38_187, w38_190, w38_191, w38_192, w38_193, w38_194, w38_197, w38_198, w38_201, w38_202, w38_203, w38_204, w38_207, w38_208, w38_209, w38_210, w38_211, w38_212, w38_215, w38_216, w38_217, w38_220, w38_223, am_fit_i, am_isR, am_okA, exists_eq_left', exists_eq_left, Option.some.injEq, true_and, and_true, List.length_cons, List.length_nil, List.drop_succ_cons, List.drop_zero, List.all_cons, List.all_nil, am_c1, Bool.and_true, Bool.true_and, Bool.and_self, decide_true, decide_false, if_true, if_false, beq_self_eq_true, Nat.reduceAdd, Nat.reduceLeDiff, Nat.reduceLT, Nat.reduceEqDiff, Nat.reduceSub, ite_true, ite_false, and_self, eq_self, am_z_add, am_z_sub, am_z_mul, Int.reduceAdd, Int.reduceSub, Int.reduceMul, Int.reduceLT, Int.reduceLE, Int.reduceEq, Int.reduceNeg, am_then_i, am_then_r, am_then_v, Nat.add_eq, Nat.zero_add, Nat.add_zero, am_fit_z0, am_fit_z1, am_fit_zc, ↓reduceIte, am_lt_T, am_lt_F, am_le_T, am_le_F, am_eq_T, am_eq_F, am_z_lt, am_z_le, am_z_eq, am_z_char, am_set_se, am_set_sk, am_set_sh, h1', h3, e1, h2c, sg, do_ar_0, do_ar_2, o_179, f_179_0, f_179_1, s_179_1, f_179_2, f_179_3, s_179_3, f_179_4, s_179_4, f_179_5, f_179_6, s_179_6, f_179_7, s_179_7, f_179_8, f_179_9, f_179_10, f_179_11, f_179_12, s_179_12, f_179_13, f_179_14, f_179_15, f_179_16, f_179_17, s_179_17, f_179_18, s_179_18, f_179_19, f_179_20, f_179_21, f_179_22, f_179_23, f_179_24, s_179_24, f_179_25, f_179_26, f_179_27, s_179_27, f_179_28, f_179_29, s_179_29, f_179_30, f_179_31, f_179_32, f_179_33, s_179_33, f_179_34, s_179_34, f_179_35, f_179_36, f_179_37, f_179_38, f_179_39, f_179_40, s_179_40, f_179_41, f_179_42, f_179_43, s_179_43, f_179_44, l_187, t_187, l_188, t_188, l_189, t_189, l_190, t_190, l_201, t_201, l_207, t_207]
        have f1 : am_fk [33, 43] [201, 207] S (am_set (am_set (am_set S 179 43 F.length) 201 l.length (am_et z)) 179 33 (l.length + 1)) := am_fk_trans (am_fk_trans (am_fk_set (by decide)) (am_fk_arr (by decide) (by decide))) (am_fk_set (by decide))
        refine ly_loop (pl := pl) hd m (F := F) (l := l ++ [am_et z]) (by have : am_sz (.leaf z : am_T) = 1 := rfl; omega) (hrF _ (fun h hh => f1.1 h (by omega) (by rcases hh with rfl | rfl | rfl | rfl <;> decide))) (by rw [am_set_sk (by omega), am_set_sh (by omega), am_set_se]) (by rw [am_set_sh (by omega), am_set_sh (by omega), am_set_sh (by omega)]; exact h2a) (by rw [am_set_se, List.length_append]; rfl) ?_ (by rw [List.length_append, List.length_singleton]; omega) (by rw [List.length_append, List.length_singleton]; omega) (fun S2 lf f2 y1 y2 y3 y4 => hQ S2 lf (am_fk_trans f1 f2) y1 y2 y3 ?_)
        · rw [am_set_sh (by omega)]
          have := am_sg_snoc (S := am_set S 179 43 F.length) (a := 201) (v := am_et z) (by rw [am_set_sh (by omega)]; exact h4)
          rw [Int.zero_add] at this
          exact this
        · rw [List.append_assoc] at y4
          have e2 : am_fx ((p, .leaf z, q) :: F) = [am_et z] ++ am_fx F := by
            show am_lay (am_en (am_xp (.leaf z))) ++ am_fx F = _
            rw [ex]
            rfl
          rw [e2]
          exact y4
    | branch k a b =>
      obtain ⟨-, -, sg, -, ra, rb⟩ := rp
      have hk := gt.1
      rw [w38_17]
      simp (disch := first | omega | exact am_fit_z0 | exact am_fit_z1 | (apply am_fit_zc <;> omega)) only [w38_0, w38_1, w38_2, w38_5, w38_6, w38_7, w38_10, w38_11, w38_14, w38_15, w38_16, w38_18, w38_21, w38_24, w38_25, w38_28, w38_31, w38_34, w38_35, w38_35i, w38_36, w38_39, w38_40, w38_41, w38_44, w38_45, w38_48, w38_49, w38_52, w38_53, w38_54, w38_55, w38_58, w38_59, w38_60, w38_62, w38_65, w38_66, w38_68, w38_69, w38_72, w38_73, w38_74, w38_77, w38_78, w38_81, w38_82, w38_85, w38_86, w38_87, w38_88, w38_91, w38_92, w38_95, w38_96, w38_97, w38_99, w38_100, w38_101, w38_102, w38_105, w38_106, w38_107, w38_110, w38_113, w38_116, w38_117, w38_120, w38_121, w38_124, w38_126, w38_127, w38_128, w38_128i, w38_129, w38_132, w38_133, w38_134, w38_137, w38_140, w38_141, w38_144, w38_145, w38_148, w38_149, w38_152, w38_153, w38_154, w38_155, w38_156, w38_156i, w38_157, w38_160, w38_161, w38_162, w38_165, w38_166, w38_169, w38_170, w38_171, w38_174, w38_175, w38_178, w38_179, w38_182, w38_183, w38_186, w38_187, w38_190, w38_191, w38_192, w38_193, w38_194, w38_197, w38_198, w38_201, w38_202, w38_203, w38_204, w38_207, w38_208, w38_209, w38_210, w38_211, w38_212, w38_215, w38_216, w38_217, w38_220, w38_223, am_fit_i, am_isR, am_okA, exists_eq_left', exists_eq_left, Option.some.injEq, true_and, and_true, List.length_cons, List.length_nil, List.drop_succ_cons, List.drop_zero, List.all_cons, List.all_nil, am_c1, Bool.and_true, Bool.true_and, Bool.and_self, decide_true, decide_false, if_true, if_false, beq_self_eq_true, Nat.reduceAdd, Nat.reduceLeDiff, Nat.reduceLT, Nat.reduceEqDiff, Nat.reduceSub, ite_true, ite_false, and_self, eq_self, am_z_add, am_z_sub, am_z_mul, Int.reduceAdd, Int.reduceSub, Int.reduceMul, Int.reduceLT, Int.reduceLE, Int.reduceEq, Int.reduceNeg, am_then_i, am_then_r, am_then_v, Nat.add_eq, Nat.zero_add, Nat.add_zero, am_fit_z0, am_fit_z1, am_fit_zc, ↓reduceIte, am_lt_T, am_lt_F, am_le_T, am_le_F, am_eq_T, am_eq_F, am_z_lt, am_z_le, am_z_eq, am_z_char, am_set_se, am_set_sk, am_set_sh, h1', h3, e1, h2c, sg, do_ar_0, do_ar_2, o_179, f_179_0, f_179_1, s_179_1, f_179_2, f_179_3, s_179_3, f_179_4, s_179_4, f_179_5, f_179_6, s_179_6, f_179_7, s_179_7, f_179_8, f_179_9, f_179_10, f_179_11, f_179_12, s_179_12, f_179_13, f_179_14, f_179_15, f_179_16, f_179_17, s_179_17, f_179_18, s_179_18, f_179_19, f_179_20, f_179_21, f_179_22, f_179_23, f_179_24, s_179_24, f_179_25, f_179_26, f_179_27, s_179_27, f_179_28, f_179_29, s_179_29, f_179_30, f_179_31, f_179_32, f_179_33, s_179_33, f_179_34, s_179_34, f_179_35, f_179_36, f_179_37, f_179_38, f_179_39, f_179_40, s_179_40, f_179_41, f_179_42, f_179_43, s_179_43, f_179_44, l_187, t_187, l_188, t_188, l_189, t_189, l_190, t_190, l_201, t_201, l_207, t_207]
      have f1 : am_fk [33, 43] [201, 207] S (am_set (am_set (am_set (am_set (am_set (am_set S 179 43 F.length) 201 l.length ((k + 1 : Nat) : Int)) 179 33 (l.length + 1)) 207 F.length (S 189 p)) 207 (F.length + 1) (S 188 p)) 179 43 (F.length + 2)) := am_fk_trans (am_fk_trans (am_fk_trans (am_fk_trans (am_fk_trans (am_fk_set (by decide)) (am_fk_arr (by decide) (by decide))) (am_fk_set (by decide))) (am_fk_arr (by decide) (by decide))) (am_fk_arr (by decide) (by decide))) (am_fk_set (by decide))
      refine ly_loop (pl := pl) hd m (F := (S 188 p, a, q + 1) :: (S 189 p, b, q + 1 + am_sz a) :: F) (l := l ++ [((k + 1 : Nat) : Int)]) (by rw [am_fz_cons, am_fz_cons]; have : am_sz (.branch k a b : am_T) = am_sz a + am_sz b + 1 := rfl; simp only; omega) ?_ (by rw [am_set_se, List.length_cons, List.length_cons]; omega) ?_ (by rw [am_set_sk (by omega), am_set_sh (by omega), am_set_sh (by omega), am_set_se, List.length_append]; rfl) ?_ (by rw [List.length_append, List.length_singleton]; omega) (by rw [List.length_append, List.length_singleton, List.length_cons, List.length_cons]; omega) (fun S2 lf f2 y1 y2 y3 y4 => hQ S2 lf (am_fk_trans f1 f2) y1 y2 y3 ?_)
      · intro x hx
        have hs : ∀ h, h = 187 ∨ h = 188 ∨ h = 189 ∨ h = 190 → _ := fun h hh => f1.1 h (by omega) (by rcases hh with rfl | rfl | rfl | rfl <;> decide)
        rcases List.mem_cons.mp hx with rfl | hx
        · exact ⟨am_rep_fr (hs 187 (by omega)) (hs 188 (by omega)) (hs 189 (by omega)) (hs 190 (by omega)) ra, gt.2.1⟩
        · rcases List.mem_cons.mp hx with rfl | hx
          · exact ⟨am_rep_fr (hs 187 (by omega)) (hs 188 (by omega)) (hs 189 (by omega)) (hs 190 (by omega)) rb, gt.2.2⟩
          · exact hrF _ hs x hx
      · rw [am_set_sh (by omega), List.reverse_cons, List.reverse_cons, List.map_append, List.map_append, am_sg_app, am_sg_app]
        refine ⟨⟨am_sg_set (am_sg_set ?_ (Or.inr ?_)) (Or.inr ?_), am_sg_one.mpr ?_⟩, am_sg_one.mpr ?_⟩
        · rw [am_set_sh (by omega), am_set_sh (by omega), am_set_sh (by omega)]
          exact h2a
        · rw [List.length_map, List.length_reverse]; omega
        · rw [List.length_map, List.length_reverse]; omega
        · rw [List.length_map, List.length_reverse, Int.zero_add, am_set_sk (by omega), am_set_se]
        · rw [List.length_append, List.length_map, List.length_reverse]
          rw [show (0 : Int) + ((F.length + (List.map (fun x : am_Pt => x.1) [(S 189 p, b, q + 1 + (am_sz a : Int))]).length : Nat) : Int) = (F.length : Int) + 1 by simp, am_set_se]
      · rw [am_set_sh (by omega), am_set_sh (by omega), am_set_sh (by omega), am_set_sh (by omega)]
        have := am_sg_snoc (S := am_set S 179 43 F.length) (a := 201) (v := ((k + 1 : Nat) : Int)) (by rw [am_set_sh (by omega)]; exact h4)
        rw [Int.zero_add] at this
        exact this
      · rw [List.append_assoc] at y4
        have e2 : am_fx ((p, .branch k a b, q) :: F) = [((k + 1 : Nat) : Int)] ++ am_fx ((S 188 p, a, q + 1) :: (S 189 p, b, q + 1 + am_sz a) :: F) := by
          show (((k + 1 : Nat) : Int) :: (am_lay (am_en (am_xp a)) ++ am_lay (am_en (am_xp b)))) ++ am_fx F = ((k + 1 : Nat) : Int) :: (am_lay (am_en (am_xp a)) ++ (am_lay (am_en (am_xp b)) ++ am_fx F))
          rw [List.cons_append, List.append_assoc]
        rw [e2]
        exact y4
theorem do_layOut {d : Nat} {n : am_N} {X : Nat × (Nat → Int32)} {S : am_St} {Q : Option Value → am_N → am_M → Prop} {pl : Int → Int} {p q : Int} {t : am_T} (hd : 2 ≤ d) (hr : am_rep S pl p t q) (hg : am_gd t) (hQ : ∀ (S' : am_St), am_fk [33, 43] [201, 207] S S' → am_ag S' (am_xp t) → S' 179 33 ≤ 191 → 0 ≤ S' 179 33 → Q none n (am_m X S')) : am_Do d 38 [.ref 179, .int (am_z p)] n (am_m X S) Q := by
  rw [in_38 (by omega)]
  simp (disch := first | omega | exact am_fit_z0 | exact am_fit_z1 | (apply am_fit_zc <;> omega)) only [w38_0, w38_1, w38_2, w38_5, w38_6, w38_7, w38_10, w38_11, w38_14, w38_15, w38_16, w38_18, w38_21, w38_24, w38_25, w38_28, w38_31, w38_34, w38_35, w38_35i, w38_36, w38_39, w38_40, w38_41, w38_44, w38_45, w38_48, w38_49, w38_52, w38_53, w38_54, w38_55, w38_58, w38_59, w38_60, w38_62, w38_65, w38_66, w38_68, w38_69, w38_72, w38_73, w38_74, w38_77, w38_78, w38_81, w38_82, w38_85, w38_86, w38_87, w38_88, w38_91, w38_92, w38_95, w38_96, w38_97, w38_99, w38_100, w38_101, w38_102, w38_105, w38_106, w38_107, w38_110, w38_113, w38_116, w38_117, w38_120, w38_121, w38_124, w38_126, w38_127, w38_128, w38_128i, w38_129, w38_132, w38_133, w38_134, w38_137, w38_140, w38_141, w38_144, w38_145, w38_148, w38_149, w38_152, w38_153, w38_154, w38_155, w38_156, w38_156i, w38_157, w38_160, w38_161, w38_162, w38_165, w38_166, w38_169, w38_170, w38_171, w38_174, w38_175, w38_178, w38_179, w38_182, w38_183, w38_186, w38_187, w38_190, w38_191, w38_192, w38_193, w38_194, w38_197, w38_198, w38_201, w38_202, w38_203, w38_204, w38_207, w38_208, w38_209, w38_210, w38_211, w38_212, w38_215, w38_216, w38_217, w38_220, w38_223, am_fit_i, am_isR, am_okA, exists_eq_left', exists_eq_left, Option.some.injEq, true_and, and_true, List.length_cons, List.length_nil, List.drop_succ_cons, List.drop_zero, List.all_cons, List.all_nil, am_c1, Bool.and_true, Bool.true_and, Bool.and_self, decide_true, decide_false, if_true, if_false, beq_self_eq_true, Nat.reduceAdd, Nat.reduceLeDiff, Nat.reduceLT, Nat.reduceEqDiff, Nat.reduceSub, ite_true, ite_false, and_self, eq_self, am_z_add, am_z_sub, am_z_mul, Int.reduceAdd, Int.reduceSub, Int.reduceMul, Int.reduceLT, Int.reduceLE, Int.reduceEq, Int.reduceNeg, am_then_i, am_then_r, am_then_v, Nat.add_eq, Nat.zero_add, Nat.add_zero, am_fit_z0, am_fit_z1, am_fit_zc, ↓reduceIte, am_lt_T, am_lt_F, am_le_T, am_le_F, am_eq_T, am_eq_F, am_z_lt, am_z_le, am_z_eq, am_z_char, am_set_se, am_set_sk, am_set_sh, o_179, f_179_0, f_179_1, s_179_1, f_179_2, f_179_3, s_179_3, f_179_4, s_179_4, f_179_5, f_179_6, s_179_6, f_179_7, s_179_7, f_179_8, f_179_9, f_179_10, f_179_11, f_179_12, s_179_12, f_179_13, f_179_14, f_179_15, f_179_16, f_179_17, s_179_17, f_179_18, s_179_18, f_179_19, f_179_20, f_179_21, f_179_22, f_179_23, f_179_24, s_179_24, f_179_25, f_179_26, f_179_27, s_179_27, f_179_28, f_179_29, s_179_29, f_179_30, f_179_31, f_179_32, f_179_33, s_179_33, f_179_34, s_179_34, f_179_35, f_179_36, f_179_37, f_179_38, f_179_39, f_179_40, s_179_40, f_179_41, f_179_42, f_179_43, s_179_43, f_179_44, l_187, t_187, l_188, t_188, l_189, t_189, l_190, t_190, l_201, t_201, l_207, t_207]
  have f1 : am_fk [33, 43] [201, 207] S (am_set (am_set (am_set S 179 33 0) 179 43 1) 207 0 p) := am_fk_trans (am_fk_trans (am_fk_set (by decide)) (am_fk_set (by decide))) (am_fk_arr (by decide) (by decide))
  refine ly_loop (pl := pl) (by omega) (am_sz t) (F := [(p, t, q)]) (l := []) (by show am_sz t + 0 ≤ _; omega) (fun x hx => ?_) (by rw [am_set_sh (by omega), am_set_se]; rfl) (am_sg_one.mpr am_set_se) (by rw [am_set_sh (by omega), am_set_sk (by omega), am_set_se]; rfl) am_sg_nil (by simp) (by simp) (fun S2 lf f2 y1 y2 y3 y4 => hQ S2 (am_fk_trans f1 f2) ?_ (by rw [y1]; omega) (by rw [y1]; omega))
  · rw [List.mem_singleton.mp hx]
    exact ⟨am_rep_fr (f1.1 187 (by decide) (by decide)) (f1.1 188 (by decide) (by decide)) (f1.1 189 (by decide) (by decide)) (f1.1 190 (by decide) (by decide)) hr, hg⟩
  · have e : [] ++ am_fx [(p, t, q)] = am_lay (am_en (am_xp t)) := List.append_nil _
    rw [e] at y4
    have le : (am_lay (am_en (am_xp t))).length = am_sz (am_xp t) := by rw [am_lay_len, am_sz_en]
    rcases y4 with y4 | ⟨y4, y5⟩
    · by_cases c : am_sz (am_xp t) ≤ 80
      · exact Or.inl ⟨by rw [y1, y4, le], c, by rw [← y4]; exact y2⟩
      · exact Or.inr ⟨by rw [y1, y4, le]; omega, by rw [y1]; omega, by omega⟩
    · exact Or.inr ⟨by rw [y1]; omega, by rw [y1]; omega, by omega⟩
