def am_ms : am_T → Nat
  | .leaf _ => 0
  | .branch k a _ => if k = 0 then am_ms a + 1 else 0
def am_hs : am_T → am_T
  | .leaf z => .leaf z
  | .branch k a b => if k = 0 then am_hs a else .branch k a b
theorem am_ms_0 {a b : am_T} : am_ms (.branch 0 a b) = am_ms a + 1 := rfl
theorem am_hs_0 {a b : am_T} : am_hs (.branch 0 a b) = am_hs a := rfl
theorem am_ms_k {k : Nat} {a b : am_T} (h : ¬ k = 0) : am_ms (.branch k a b) = 0 := if_neg h
theorem am_hs_k {k : Nat} {a b : am_T} (h : ¬ k = 0) : am_hs (.branch k a b) = .branch k a b := if_neg h
theorem am_hs_tr {S : am_St} {r : Nat} : ∀ {t : am_T} {q : Int}, am_tr S r q t → am_tr S r (q + am_ms t) (am_hs t)
  | .leaf z, q, h => by
    show am_tr S r (q + ((0 : Nat) : Int)) (.leaf z)
    rw [Int.natCast_zero, Int.add_zero]
    exact h
  | .branch k a b, q, h => by
    by_cases hk : k = 0
    · subst hk
      rw [am_ms_0, am_hs_0]
      have := am_hs_tr (am_tr_branch h).2.1
      rw [show q + ((am_ms a + 1 : Nat) : Int) = q + 1 + am_ms a by omega]
      exact this
    · rw [am_ms_k hk, am_hs_k hk, Int.natCast_zero, Int.add_zero]
      exact h
theorem am_hs_wn {tl : Nat → Bool} {K : Nat} : ∀ {t : am_T}, am_wn tl K t → am_wn tl K (am_hs t)
  | .leaf z, h => h
  | .branch k a b, h => by
    by_cases hk : k = 0
    · subst hk
      rw [am_hs_0]
      exact am_hs_wn (t := a) h.2.1
    · rw [am_hs_k hk]
      exact h
theorem am_lev_0 {a b : am_T} : am_lev (.branch 0 a b) = max (am_lev a) (am_lev b + 1) := rfl
theorem am_hs_lev : ∀ {t : am_T}, am_lev (am_hs t) ≤ am_lev t
  | .leaf z => Nat.le_refl _
  | .branch k a b => by
    by_cases hk : k = 0
    · subst hk
      rw [am_hs_0, am_lev_0]
      have := am_hs_lev (t := a)
      omega
    · rw [am_hs_k hk]
      exact Nat.le_refl _
theorem hs_loop {d : Nat} {n : am_N} {X : Nat × (Nat → Int32)} {S : am_St} {Q : Option Value → am_N → am_M → Prop} {v1 v2 v5 : Value} (hd : 1 ≤ d) (h1 : S 53 1 ≤ 200) : ∀ {t : am_T} {q : Int}, am_tr S 53 q t → am_gd t → am_AW d 126 (5, [.ref 66, v1, v2, .int (am_z q), .int (am_z q), v5], [], n, am_m X S) Q = am_AW d 126 (40, [.ref 66, v1, v2, .int (am_z (q + am_ms t)), .int (am_z (q + am_ms t)), v5], [], n, am_m X S) Q
  | .leaf z, q, ht, hg => by
    have e0 := am_tr_leaf ht
    have q0 := ht.1
    have q1 := ht.2.1
    have s1 : am_sz (.leaf z) = 1 := rfl
    have hz := hg.1
    have hz1 := hg.2
    rw [w126_5]
    simp (disch := first | omega | exact am_fit_z0 | exact am_fit_z1 | (apply am_fit_zc <;> omega)) only [w126_0, w126_1, w126_2, w126_3, w126_7, w126_8, w126_11, w126_14, w126_17, w126_18, w126_21, w126_23, w126_26, w126_29, w126_31, w126_32, w126_33, w126_34, w126_37, w126_41, w126_42, w126_43, w126_46, w126_48, w126_49, w126_50, w126_51, w126_53, w126_55, w126_56, w126_59, w126_61, w126_64, w126_65, w126_67, w126_68, w126_71, w126_73, w126_76, w126_79, w126_81, am_fit_i, am_isR, am_okA, exists_eq_left', exists_eq_left, Option.some.injEq, true_and, and_true, List.length_cons, List.length_nil, List.drop_succ_cons, List.drop_zero, List.all_cons, List.all_nil, am_c1, Bool.and_true, Bool.true_and, Bool.and_self, decide_true, decide_false, if_true, if_false, beq_self_eq_true, Nat.reduceAdd, Nat.reduceLeDiff, Nat.reduceLT, Nat.reduceEqDiff, Nat.reduceSub, ite_true, ite_false, and_self, eq_self, am_z_add, am_z_sub, am_z_mul, Int.reduceAdd, Int.reduceSub, Int.reduceMul, Int.reduceLT, Int.reduceLE, Int.reduceEq, Int.reduceNeg, am_then_i, am_then_r, am_then_v, Nat.add_eq, Nat.zero_add, Nat.add_zero, am_fit_z0, am_fit_z1, am_fit_zc, ↓reduceIte, am_lt_T, am_lt_F, am_le_T, am_le_F, am_eq_T, am_eq_F, am_z_lt, am_z_le, am_z_eq, am_z_char, am_set_se, am_set_sk, am_set_sh, o_2, f_2_0, s_2_0, f_2_1, s_2_1, o_66, f_66_0, f_66_1, f_66_2, f_66_3, f_66_4, f_66_5, f_66_6, f_66_7, f_66_8, f_66_9, s_66_9, o_3, f_3_0, f_3_1, o_8, f_8_0, f_8_1, f_8_2, f_8_3, s_8_3, o_52, f_52_0, f_52_1, f_52_2, f_52_3, f_52_4, f_52_5, s_52_5, f_52_6, s_52_6, f_52_7, s_52_7, f_52_8, s_52_8, f_52_9, s_52_9, f_52_10, f_52_11, f_52_12, f_52_13, f_52_14, f_52_15, f_52_16, s_52_16, o_63, f_63_0, f_63_1, f_63_2, l_55, t_55, l_70, t_70, rw_f1 r_53, rw_o r_53, do_at r_53, e0]
    show _ = am_AW d 126 (40, [.ref 66, v1, v2, .int (am_z (q + ((0 : Nat) : Int))), .int (am_z (q + ((0 : Nat) : Int))), v5], [], n, am_m X S) Q
    rw [Int.natCast_zero, Int.add_zero]
  | .branch k a b, q, ht, hg => by
    obtain ⟨e0, ta, -⟩ := am_tr_branch ht
    have q0 := ht.1
    have q1 := ht.2.1
    have s1 := am_sz_pos (.branch k a b)
    have hk2 := hg.1
    by_cases hk : k = 0
    · subst hk
      have e0' : am_g S 53 q = 0 := e0
      rw [w126_5]
      simp (disch := first | omega | exact am_fit_z0 | exact am_fit_z1 | (apply am_fit_zc <;> omega)) only [w126_0, w126_1, w126_2, w126_3, w126_7, w126_8, w126_11, w126_14, w126_17, w126_18, w126_21, w126_23, w126_26, w126_29, w126_31, w126_32, w126_33, w126_34, w126_37, w126_41, w126_42, w126_43, w126_46, w126_48, w126_49, w126_50, w126_51, w126_53, w126_55, w126_56, w126_59, w126_61, w126_64, w126_65, w126_67, w126_68, w126_71, w126_73, w126_76, w126_79, w126_81, am_fit_i, am_isR, am_okA, exists_eq_left', exists_eq_left, Option.some.injEq, true_and, and_true, List.length_cons, List.length_nil, List.drop_succ_cons, List.drop_zero, List.all_cons, List.all_nil, am_c1, Bool.and_true, Bool.true_and, Bool.and_self, decide_true, decide_false, if_true, if_false, beq_self_eq_true, Nat.reduceAdd, Nat.reduceLeDiff, Nat.reduceLT, Nat.reduceEqDiff, Nat.reduceSub, ite_true, ite_false, and_self, eq_self, am_z_add, am_z_sub, am_z_mul, Int.reduceAdd, Int.reduceSub, Int.reduceMul, Int.reduceLT, Int.reduceLE, Int.reduceEq, Int.reduceNeg, am_then_i, am_then_r, am_then_v, Nat.add_eq, Nat.zero_add, Nat.add_zero, am_fit_z0, am_fit_z1, am_fit_zc, ↓reduceIte, am_lt_T, am_lt_F, am_le_T, am_le_F, am_eq_T, am_eq_F, am_z_lt, am_z_le, am_z_eq, am_z_char, am_set_se, am_set_sk, am_set_sh, o_2, f_2_0, s_2_0, f_2_1, s_2_1, o_66, f_66_0, f_66_1, f_66_2, f_66_3, f_66_4, f_66_5, f_66_6, f_66_7, f_66_8, f_66_9, s_66_9, o_3, f_3_0, f_3_1, o_8, f_8_0, f_8_1, f_8_2, f_8_3, s_8_3, o_52, f_52_0, f_52_1, f_52_2, f_52_3, f_52_4, f_52_5, s_52_5, f_52_6, s_52_6, f_52_7, s_52_7, f_52_8, s_52_8, f_52_9, s_52_9, f_52_10, f_52_11, f_52_12, f_52_13, f_52_14, f_52_15, f_52_16, s_52_16, o_63, f_63_0, f_63_1, f_63_2, l_55, t_55, l_70, t_70, rw_f1 r_53, rw_o r_53, do_at r_53, e0']
      rw [hs_loop hd h1 ta hg.2.1, am_ms_0, show q + ((am_ms a + 1 : Nat) : Int) = q + 1 + am_ms a by omega]
    · rw [am_ms_k hk, Int.natCast_zero, Int.add_zero, w126_5]
      simp (disch := first | omega | exact am_fit_z0 | exact am_fit_z1 | (apply am_fit_zc <;> omega)) only [w126_0, w126_1, w126_2, w126_3, w126_7, w126_8, w126_11, w126_14, w126_17, w126_18, w126_21, w126_23, w126_26, w126_29, w126_31, w126_32, w126_33, w126_34, w126_37, w126_41, w126_42, w126_43, w126_46, w126_48, w126_49, w126_50, w126_51, w126_53, w126_55, w126_56, w126_59, w126_61, w126_64, w126_65, w126_67, w126_68, w126_71, w126_73, w126_76, w126_79, w126_81, am_fit_i, am_isR, am_okA, exists_eq_left', exists_eq_left, Option.some.injEq, true_and, and_true, List.length_cons, List.length_nil, List.drop_succ_cons, List.drop_zero, List.all_cons, List.all_nil, am_c1, Bool.and_true, Bool.true_and, Bool.and_self, decide_true, decide_false, if_true, if_false, beq_self_eq_true, Nat.reduceAdd, Nat.reduceLeDiff, Nat.reduceLT, Nat.reduceEqDiff, Nat.reduceSub, ite_true, ite_false, and_self, eq_self, am_z_add, am_z_sub, am_z_mul, Int.reduceAdd, Int.reduceSub, Int.reduceMul, Int.reduceLT, Int.reduceLE, Int.reduceEq, Int.reduceNeg, am_then_i, am_then_r, am_then_v, Nat.add_eq, Nat.zero_add, Nat.add_zero, am_fit_z0, am_fit_z1, am_fit_zc, ↓reduceIte, am_lt_T, am_lt_F, am_le_T, am_le_F, am_eq_T, am_eq_F, am_z_lt, am_z_le, am_z_eq, am_z_char, am_set_se, am_set_sk, am_set_sh, o_2, f_2_0, s_2_0, f_2_1, s_2_1, o_66, f_66_0, f_66_1, f_66_2, f_66_3, f_66_4, f_66_5, f_66_6, f_66_7, f_66_8, f_66_9, s_66_9, o_3, f_3_0, f_3_1, o_8, f_8_0, f_8_1, f_8_2, f_8_3, s_8_3, o_52, f_52_0, f_52_1, f_52_2, f_52_3, f_52_4, f_52_5, s_52_5, f_52_6, s_52_6, f_52_7, s_52_7, f_52_8, s_52_8, f_52_9, s_52_9, f_52_10, f_52_11, f_52_12, f_52_13, f_52_14, f_52_15, f_52_16, s_52_16, o_63, f_63_0, f_63_1, f_63_2, l_55, t_55, l_70, t_70, rw_f1 r_53, rw_o r_53, do_at r_53, e0]
def am_LO (tl : Nat → Bool) (NM TP : Nat → Option am_T) (pl : Int → Int) (t : am_T) : Prop := ∀ (d : Nat) (n : am_N) (X : Nat × (Nat → Int32)) (S : am_St) (Q : Option Value → am_N → am_M → Prop) (Γ : List am_T) (N : Nat) (q : Int) (L : Nat) (at0 : Int) (vh : Value) (F : Option am_T), 5 * am_lev t + 30 ≤ d → L + am_lev t ≤ 52 → Γ.length ≤ L → 0 ≤ at0 → at0 ≤ q → am_ct S tl NM TP pl Γ N → am_sane S → am_wn tl Γ.length t → am_cw tl Γ → am_tr S 53 q t → am_ty NM TP pl Γ (am_hs t) (q + am_ms t) = .ok F → am_row S (71 + 2 * L) 80 (F.map am_lay) → (∀ (S' : am_St) o, am_ft L S S' → S' 2 = S 2 → am_sane S' → am_ty NM TP pl Γ t q = .ok o → am_row S' (71 + 2 * L) 80 (o.map am_lay) → am_AW d 126 (53, [.ref 66, .int (am_z at0), .int (am_z L), vh, .int (am_z 1), .int (am_z (q - 1))], [], n, am_m X S') Q) → (∀ (S' : am_St) c p j, -2 ≤ j → j ≤ 200 → am_ft L S S' → am_sane S' → am_ty NM TP pl Γ t q = .error (c, p) → S' 2 0 = c → S' 2 1 = p → am_AW d 126 (53, [.ref 66, .int (am_z at0), .int (am_z L), vh, .int (am_z 0), .int (am_z (j))], [], n, am_m X S') Q) → am_AW d 126 (53, [.ref 66, .int (am_z at0), .int (am_z L), vh, .int (am_z 1), .int (am_z (q + am_ms t - 1))], [], n, am_m X S) Q
theorem lo_base {tl : Nat → Bool} {NM TP : Nat → Option am_T} {pl : Int → Int} {t : am_T} (h1 : am_ms t = 0) (h2 : am_hs t = t) : am_LO tl NM TP pl t := by
  intro d n X S Q Γ N q L at0 vh F hd hL hG p0 p1 hc hs hw hg ht hF hr hY hE
  rw [h1, h2, Int.natCast_zero, Int.add_zero] at hF
  rw [h1, Int.natCast_zero, Int.add_zero]
  exact hY S F am_ft_rfl rfl hs hF hr
theorem lo_step {tl : Nat → Bool} {NM TP : Nat → Option am_T} {pl : Int → Int} {a b : am_T} (hLa : am_LO tl NM TP pl a) (hTb : am_TO tl NM TP pl b) : am_LO tl NM TP pl (.branch 0 a b) := by
  intro d n X S Q Γ N q L at0 vh F hd hL hG p0 p1 hc hs hw hg ht hF hr hY hE
  rw [am_lev_0] at hd hL
  obtain ⟨-, ta, tb⟩ := am_tr_branch ht
  obtain ⟨a0, a1, a2, a3⟩ := am_tn hc ta
  obtain ⟨-, ha, hb⟩ := hw
  have sa := am_sz_pos a
  have ety : am_ty NM TP pl Γ (.branch 0 a b) q = (match am_ty NM TP pl Γ a (q + 1) with
      | .error e => .error e
      | .ok F => am_ap NM b (pl (q + 1)) (pl (q + 1 + am_sz a)) F (am_ty NM TP pl Γ b (q + 1 + am_sz a))) := by
    conv => lhs; unfold am_ty
    rfl
  rw [ety] at hY hE
  rw [am_ms_0, am_hs_0, show q + ((am_ms a + 1 : Nat) : Int) = q + 1 + am_ms a by omega] at hF
  rw [am_ms_0, show q + ((am_ms a + 1 : Nat) : Int) - 1 = q + 1 + am_ms a - 1 by omega]
  refine hLa d n X S Q Γ N (q + 1) L at0 vh F (by omega) (by omega) hG p0 (by omega) hc hs ha hg ta hF hr (fun S1 o f1 bb1 s1 h1 r1 => ?_) (fun S1 c p j j0 j1 f1 s1 h1 e1 e2 => ?_)
  · rw [h1] at hY hE
    simp only at hY hE
    have hc1 := am_ft_ct f1 hc
    have hok := am_ty_ok (am_ct_nc hc) (am_ct_tp hc) ha hg h1
    rw [show q + 1 - 1 = q by omega, w126_53]
    simp (disch := first | omega | exact am_fit_z0 | exact am_fit_z1 | (apply am_fit_zc <;> omega)) only [w126_0, w126_1, w126_2, w126_3, w126_5, w126_7, w126_8, w126_11, w126_14, w126_17, w126_18, w126_21, w126_23, w126_26, w126_29, w126_31, w126_32, w126_33, w126_34, w126_37, w126_40, w126_41, w126_42, w126_43, w126_46, w126_48, w126_49, w126_50, w126_51, w126_55, w126_56, w126_59, w126_61, w126_64, w126_65, w126_67, w126_68, w126_71, w126_73, w126_76, w126_79, w126_81, am_fit_i, am_isR, am_okA, exists_eq_left', exists_eq_left, Option.some.injEq, true_and, and_true, List.length_cons, List.length_nil, List.drop_succ_cons, List.drop_zero, List.all_cons, List.all_nil, am_c1, Bool.and_true, Bool.true_and, Bool.and_self, decide_true, decide_false, if_true, if_false, beq_self_eq_true, Nat.reduceAdd, Nat.reduceLeDiff, Nat.reduceLT, Nat.reduceEqDiff, Nat.reduceSub, ite_true, ite_false, and_self, eq_self, am_z_add, am_z_sub, am_z_mul, Int.reduceAdd, Int.reduceSub, Int.reduceMul, Int.reduceLT, Int.reduceLE, Int.reduceEq, Int.reduceNeg, am_then_i, am_then_r, am_then_v, Nat.add_eq, Nat.zero_add, Nat.add_zero, am_fit_z0, am_fit_z1, am_fit_zc, ↓reduceIte, am_lt_T, am_lt_F, am_le_T, am_le_F, am_eq_T, am_eq_F, am_z_lt, am_z_le, am_z_eq, am_z_char, am_set_se, am_set_sk, am_set_sh, o_2, f_2_0, s_2_0, f_2_1, s_2_1, o_66, f_66_0, f_66_1, f_66_2, f_66_3, f_66_4, f_66_5, f_66_6, f_66_7, f_66_8, f_66_9, s_66_9, o_3, f_3_0, f_3_1, o_8, f_8_0, f_8_1, f_8_2, f_8_3, s_8_3, o_52, f_52_0, f_52_1, f_52_2, f_52_3, f_52_4, f_52_5, s_52_5, f_52_6, s_52_6, f_52_7, s_52_7, f_52_8, s_52_8, f_52_9, s_52_9, f_52_10, f_52_11, f_52_12, f_52_13, f_52_14, f_52_15, f_52_16, s_52_16, o_63, f_63_0, f_63_1, f_63_2, l_55, t_55, l_70, t_70]
    refine do_applyTo (a := a) (b := b) (F := o) hTb (by omega) (by omega) hG hc1 s1 ha hb hg (am_tr_fr ht (am_ft_tok f1).1 (am_ft_tok f1).2.1) hok r1 ⟨fun S2 o2 f2 bb2 s2 h2 r2 => ?_, fun S2 c p f2 s2 h2 e1 e2 => ?_⟩
    · simp (disch := first | omega | exact am_fit_z0 | exact am_fit_z1 | (apply am_fit_zc <;> omega)) only [w126_0, w126_1, w126_2, w126_3, w126_5, w126_7, w126_8, w126_11, w126_14, w126_17, w126_18, w126_21, w126_23, w126_26, w126_29, w126_31, w126_32, w126_33, w126_34, w126_37, w126_40, w126_41, w126_42, w126_43, w126_46, w126_48, w126_49, w126_50, w126_51, w126_55, w126_56, w126_59, w126_61, w126_64, w126_65, w126_67, w126_68, w126_71, w126_73, w126_76, w126_79, w126_81, am_fit_i, am_isR, am_okA, exists_eq_left', exists_eq_left, Option.some.injEq, true_and, and_true, List.length_cons, List.length_nil, List.drop_succ_cons, List.drop_zero, List.all_cons, List.all_nil, am_c1, Bool.and_true, Bool.true_and, Bool.and_self, decide_true, decide_false, if_true, if_false, beq_self_eq_true, Nat.reduceAdd, Nat.reduceLeDiff, Nat.reduceLT, Nat.reduceEqDiff, Nat.reduceSub, ite_true, ite_false, and_self, eq_self, am_z_add, am_z_sub, am_z_mul, Int.reduceAdd, Int.reduceSub, Int.reduceMul, Int.reduceLT, Int.reduceLE, Int.reduceEq, Int.reduceNeg, am_then_i, am_then_r, am_then_v, Nat.add_eq, Nat.zero_add, Nat.add_zero, am_fit_z0, am_fit_z1, am_fit_zc, ↓reduceIte, am_lt_T, am_lt_F, am_le_T, am_le_F, am_eq_T, am_eq_F, am_z_lt, am_z_le, am_z_eq, am_z_char, am_set_se, am_set_sk, am_set_sh, o_2, f_2_0, s_2_0, f_2_1, s_2_1, o_66, f_66_0, f_66_1, f_66_2, f_66_3, f_66_4, f_66_5, f_66_6, f_66_7, f_66_8, f_66_9, s_66_9, o_3, f_3_0, f_3_1, o_8, f_8_0, f_8_1, f_8_2, f_8_3, s_8_3, o_52, f_52_0, f_52_1, f_52_2, f_52_3, f_52_4, f_52_5, s_52_5, f_52_6, s_52_6, f_52_7, s_52_7, f_52_8, s_52_8, f_52_9, s_52_9, f_52_10, f_52_11, f_52_12, f_52_13, f_52_14, f_52_15, f_52_16, s_52_16, o_63, f_63_0, f_63_1, f_63_2, l_55, t_55, l_70, t_70]
      exact hY S2 o2 (am_ft_trans f1 f2) (bb2.trans bb1) s2 h2 r2
    · simp (disch := first | omega | exact am_fit_z0 | exact am_fit_z1 | (apply am_fit_zc <;> omega)) only [w126_0, w126_1, w126_2, w126_3, w126_5, w126_7, w126_8, w126_11, w126_14, w126_17, w126_18, w126_21, w126_23, w126_26, w126_29, w126_31, w126_32, w126_33, w126_34, w126_37, w126_40, w126_41, w126_42, w126_43, w126_46, w126_48, w126_49, w126_50, w126_51, w126_55, w126_56, w126_59, w126_61, w126_64, w126_65, w126_67, w126_68, w126_71, w126_73, w126_76, w126_79, w126_81, am_fit_i, am_isR, am_okA, exists_eq_left', exists_eq_left, Option.some.injEq, true_and, and_true, List.length_cons, List.length_nil, List.drop_succ_cons, List.drop_zero, List.all_cons, List.all_nil, am_c1, Bool.and_true, Bool.true_and, Bool.and_self, decide_true, decide_false, if_true, if_false, beq_self_eq_true, Nat.reduceAdd, Nat.reduceLeDiff, Nat.reduceLT, Nat.reduceEqDiff, Nat.reduceSub, ite_true, ite_false, and_self, eq_self, am_z_add, am_z_sub, am_z_mul, Int.reduceAdd, Int.reduceSub, Int.reduceMul, Int.reduceLT, Int.reduceLE, Int.reduceEq, Int.reduceNeg, am_then_i, am_then_r, am_then_v, Nat.add_eq, Nat.zero_add, Nat.add_zero, am_fit_z0, am_fit_z1, am_fit_zc, ↓reduceIte, am_lt_T, am_lt_F, am_le_T, am_le_F, am_eq_T, am_eq_F, am_z_lt, am_z_le, am_z_eq, am_z_char, am_set_se, am_set_sk, am_set_sh, o_2, f_2_0, s_2_0, f_2_1, s_2_1, o_66, f_66_0, f_66_1, f_66_2, f_66_3, f_66_4, f_66_5, f_66_6, f_66_7, f_66_8, f_66_9, s_66_9, o_3, f_3_0, f_3_1, o_8, f_8_0, f_8_1, f_8_2, f_8_3, s_8_3, o_52, f_52_0, f_52_1, f_52_2, f_52_3, f_52_4, f_52_5, s_52_5, f_52_6, s_52_6, f_52_7, s_52_7, f_52_8, s_52_8, f_52_9, s_52_9, f_52_10, f_52_11, f_52_12, f_52_13, f_52_14, f_52_15, f_52_16, s_52_16, o_63, f_63_0, f_63_1, f_63_2, l_55, t_55, l_70, t_70]
      exact hE S2 c p (q - 1) (by omega) (by omega) (am_ft_trans f1 f2) s2 h2 e1 e2
  · rw [h1] at hE
    exact hE S1 c p j j0 j1 f1 s1 rfl e1 e2
theorem to_app {tl : Nat → Bool} {NM TP : Nat → Option am_T} {pl : Int → Int} {a b : am_T} (hH : am_HO tl NM TP pl (am_hs a)) (hL0 : am_LO tl NM TP pl (.branch 0 a b)) : am_TO tl NM TP pl (.branch 0 a b) := by
  intro d n X S Q Γ N q L hd hL hG hc hs hw hg ht hQ
  obtain ⟨q0, q1, q2, q3⟩ := am_tn hc ht
  have c1 := hc.1
  have gt := am_wn_gd hw (by omega)
  have e0 : am_g S 53 q = 0 := am_tr_hd ht
  have hlv := am_hs_lev (t := .branch 0 a b)
  have th := am_hs_tr ht
  have wh := am_hs_wn hw
  have hms : am_ms (.branch 0 a b) = am_ms a + 1 := rfl
  rw [am_hs_0] at hlv th wh
  have k1 := th.1
  have k2 := th.2.1
  have k3 := am_sz_pos (am_hs a)
  rw [in_123 (by omega)]
  simp (disch := first | omega | exact am_fit_z0 | exact am_fit_z1 | (apply am_fit_zc <;> omega)) only [w123_0, w123_1, w123_3, w123_6, w123_7, w123_9, w123_10, w123_13, w123_14, w123_15, w123_18, w123_19, w123_22, w123_48, w123_49, w123_50, w123_51, w123_54, w123_55, w123_56, w123_57, w123_58, w123_61, w123_62, w123_63, w123_64, w123_65, w123_68, w123_69, w123_70, w123_71, w123_74, w123_75, w123_78, w123_79, w123_82, w123_83, w123_84, w123_87, w123_88, am_fit_i, am_isR, am_okA, exists_eq_left', exists_eq_left, Option.some.injEq, true_and, and_true, List.length_cons, List.length_nil, List.drop_succ_cons, List.drop_zero, List.all_cons, List.all_nil, am_c1, Bool.and_true, Bool.true_and, Bool.and_self, decide_true, decide_false, if_true, if_false, beq_self_eq_true, Nat.reduceAdd, Nat.reduceLeDiff, Nat.reduceLT, Nat.reduceEqDiff, Nat.reduceSub, ite_true, ite_false, and_self, eq_self, am_z_add, am_z_sub, am_z_mul, Int.reduceAdd, Int.reduceSub, Int.reduceMul, Int.reduceLT, Int.reduceLE, Int.reduceEq, Int.reduceNeg, am_then_i, am_then_r, am_then_v, Nat.add_eq, Nat.zero_add, Nat.add_zero, am_fit_z0, am_fit_z1, am_fit_zc, ↓reduceIte, am_lt_T, am_lt_F, am_le_T, am_le_F, am_eq_T, am_eq_F, am_z_lt, am_z_le, am_z_eq, am_z_char, am_set_se, am_set_sk, am_set_sh, o_2, f_2_0, s_2_0, f_2_1, s_2_1, o_66, f_66_0, f_66_1, f_66_2, f_66_3, f_66_4, f_66_5, f_66_6, f_66_7, f_66_8, f_66_9, s_66_9, o_3, f_3_0, f_3_1, o_8, f_8_0, f_8_1, f_8_2, f_8_3, s_8_3, o_52, f_52_0, f_52_1, f_52_2, f_52_3, f_52_4, f_52_5, s_52_5, f_52_6, s_52_6, f_52_7, s_52_7, f_52_8, s_52_8, f_52_9, s_52_9, f_52_10, f_52_11, f_52_12, f_52_13, f_52_14, f_52_15, f_52_16, s_52_16, o_63, f_63_0, f_63_1, f_63_2, l_55, t_55, l_70, t_70, q_67, Int.toNat_natCast, rw_o r_53, do_at r_53, e0, sw123, in_126]
  rw [w126_0, w126_1, w126_2, w126_3, hs_loop (by omega) (by omega) ht gt]
  simp (disch := first | omega | exact am_fit_z0 | exact am_fit_z1 | (apply am_fit_zc <;> omega)) only [w126_0, w126_1, w126_2, w126_3, w126_7, w126_8, w126_11, w126_14, w126_17, w126_18, w126_21, w126_23, w126_26, w126_29, w126_31, w126_32, w126_33, w126_34, w126_37, w126_40, w126_41, w126_42, w126_43, w126_46, w126_48, w126_49, w126_50, w126_51, w126_55, w126_56, w126_59, w126_61, w126_64, w126_65, w126_67, w126_68, w126_71, w126_73, w126_76, w126_79, w126_81, am_fit_i, am_isR, am_okA, exists_eq_left', exists_eq_left, Option.some.injEq, true_and, and_true, List.length_cons, List.length_nil, List.drop_succ_cons, List.drop_zero, List.all_cons, List.all_nil, am_c1, Bool.and_true, Bool.true_and, Bool.and_self, decide_true, decide_false, if_true, if_false, beq_self_eq_true, Nat.reduceAdd, Nat.reduceLeDiff, Nat.reduceLT, Nat.reduceEqDiff, Nat.reduceSub, ite_true, ite_false, and_self, eq_self, am_z_add, am_z_sub, am_z_mul, Int.reduceAdd, Int.reduceSub, Int.reduceMul, Int.reduceLT, Int.reduceLE, Int.reduceEq, Int.reduceNeg, am_then_i, am_then_r, am_then_v, Nat.add_eq, Nat.zero_add, Nat.add_zero, am_fit_z0, am_fit_z1, am_fit_zc, ↓reduceIte, am_lt_T, am_lt_F, am_le_T, am_le_F, am_eq_T, am_eq_F, am_z_lt, am_z_le, am_z_eq, am_z_char, am_set_se, am_set_sk, am_set_sh, o_2, f_2_0, s_2_0, f_2_1, s_2_1, o_66, f_66_0, f_66_1, f_66_2, f_66_3, f_66_4, f_66_5, f_66_6, f_66_7, f_66_8, f_66_9, s_66_9, o_3, f_3_0, f_3_1, o_8, f_8_0, f_8_1, f_8_2, f_8_3, s_8_3, o_52, f_52_0, f_52_1, f_52_2, f_52_3, f_52_4, f_52_5, s_52_5, f_52_6, s_52_6, f_52_7, s_52_7, f_52_8, s_52_8, f_52_9, s_52_9, f_52_10, f_52_11, f_52_12, f_52_13, f_52_14, f_52_15, f_52_16, s_52_16, o_63, f_63_0, f_63_1, f_63_2, l_55, t_55, l_70, t_70]
  refine hH (d - 1 - 1) n X S _ Γ N (q + am_ms (.branch 0 a b)) L (by omega) (by omega) hG hc hs wh hg th ⟨fun S1 F f1 bb1 s1 h1 r1 => ?_, fun S1 c p f1 s1 h1 e1 e2 => ?_⟩
  · simp (disch := first | omega | exact am_fit_z0 | exact am_fit_z1 | (apply am_fit_zc <;> omega)) only [w126_0, w126_1, w126_2, w126_3, w126_7, w126_8, w126_11, w126_14, w126_17, w126_18, w126_21, w126_23, w126_26, w126_29, w126_31, w126_32, w126_33, w126_34, w126_37, w126_40, w126_41, w126_42, w126_43, w126_46, w126_48, w126_49, w126_50, w126_51, w126_55, w126_56, w126_59, w126_61, w126_64, w126_65, w126_67, w126_68, w126_71, w126_73, w126_76, w126_79, w126_81, am_fit_i, am_isR, am_okA, exists_eq_left', exists_eq_left, Option.some.injEq, true_and, and_true, List.length_cons, List.length_nil, List.drop_succ_cons, List.drop_zero, List.all_cons, List.all_nil, am_c1, Bool.and_true, Bool.true_and, Bool.and_self, decide_true, decide_false, if_true, if_false, beq_self_eq_true, Nat.reduceAdd, Nat.reduceLeDiff, Nat.reduceLT, Nat.reduceEqDiff, Nat.reduceSub, ite_true, ite_false, and_self, eq_self, am_z_add, am_z_sub, am_z_mul, Int.reduceAdd, Int.reduceSub, Int.reduceMul, Int.reduceLT, Int.reduceLE, Int.reduceEq, Int.reduceNeg, am_then_i, am_then_r, am_then_v, Nat.add_eq, Nat.zero_add, Nat.add_zero, am_fit_z0, am_fit_z1, am_fit_zc, ↓reduceIte, am_lt_T, am_lt_F, am_le_T, am_le_F, am_eq_T, am_eq_F, am_z_lt, am_z_le, am_z_eq, am_z_char, am_set_se, am_set_sk, am_set_sh, o_2, f_2_0, s_2_0, f_2_1, s_2_1, o_66, f_66_0, f_66_1, f_66_2, f_66_3, f_66_4, f_66_5, f_66_6, f_66_7, f_66_8, f_66_9, s_66_9, o_3, f_3_0, f_3_1, o_8, f_8_0, f_8_1, f_8_2, f_8_3, s_8_3, o_52, f_52_0, f_52_1, f_52_2, f_52_3, f_52_4, f_52_5, s_52_5, f_52_6, s_52_6, f_52_7, s_52_7, f_52_8, s_52_8, f_52_9, s_52_9, f_52_10, f_52_11, f_52_12, f_52_13, f_52_14, f_52_15, f_52_16, s_52_16, o_63, f_63_0, f_63_1, f_63_2, l_55, t_55, l_70, t_70]
    refine hL0 (d - 1 - 1) n X S1 _ Γ N q L q _ F (by omega) hL hG q0 (Int.le_refl _) (am_ft_ct f1 hc) s1 hw hg (am_tr_fr ht (am_ft_tok f1).1 (am_ft_tok f1).2.1) h1 r1 (fun S2 o f2 bb2 s2 h2 r2 => ?_) (fun S2 c p j j0 j1 f2 s2 h2 e1 e2 => ?_)
    · rw [w126_53]
      simp (disch := first | omega | exact am_fit_z0 | exact am_fit_z1 | (apply am_fit_zc <;> omega)) only [w123_0, w123_1, w123_3, w123_6, w123_7, w123_9, w123_10, w123_13, w123_14, w123_15, w123_18, w123_19, w123_22, w123_48, w123_49, w123_50, w123_51, w123_54, w123_55, w123_56, w123_57, w123_58, w123_61, w123_62, w123_63, w123_64, w123_65, w123_68, w123_69, w123_70, w123_71, w123_74, w123_75, w123_78, w123_79, w123_82, w123_83, w123_84, w123_87, w123_88, w126_0, w126_1, w126_2, w126_3, w126_7, w126_8, w126_11, w126_14, w126_17, w126_18, w126_21, w126_23, w126_26, w126_29, w126_31, w126_32, w126_33, w126_34, w126_37, w126_40, w126_41, w126_42, w126_43, w126_46, w126_48, w126_49, w126_50, w126_51, w126_55, w126_56, w126_59, w126_61, w126_64, w126_65, w126_67, w126_68, w126_71, w126_73, w126_76, w126_79, w126_81, am_fit_i, am_isR, am_okA, exists_eq_left', exists_eq_left, Option.some.injEq, true_and, and_true, List.length_cons, List.length_nil, List.drop_succ_cons, List.drop_zero, List.all_cons, List.all_nil, am_c1, Bool.and_true, Bool.true_and, Bool.and_self, decide_true, decide_false, if_true, if_false, beq_self_eq_true, Nat.reduceAdd, Nat.reduceLeDiff, Nat.reduceLT, Nat.reduceEqDiff, Nat.reduceSub, ite_true, ite_false, and_self, eq_self, am_z_add, am_z_sub, am_z_mul, Int.reduceAdd, Int.reduceSub, Int.reduceMul, Int.reduceLT, Int.reduceLE, Int.reduceEq, Int.reduceNeg, am_then_i, am_then_r, am_then_v, Nat.add_eq, Nat.zero_add, Nat.add_zero, am_fit_z0, am_fit_z1, am_fit_zc, ↓reduceIte, am_lt_T, am_lt_F, am_le_T, am_le_F, am_eq_T, am_eq_F, am_z_lt, am_z_le, am_z_eq, am_z_char, am_set_se, am_set_sk, am_set_sh, o_2, f_2_0, s_2_0, f_2_1, s_2_1, o_66, f_66_0, f_66_1, f_66_2, f_66_3, f_66_4, f_66_5, f_66_6, f_66_7, f_66_8, f_66_9, s_66_9, o_3, f_3_0, f_3_1, o_8, f_8_0, f_8_1, f_8_2, f_8_3, s_8_3, o_52, f_52_0, f_52_1, f_52_2, f_52_3, f_52_4, f_52_5, s_52_5, f_52_6, s_52_6, f_52_7, s_52_7, f_52_8, s_52_8, f_52_9, s_52_9, f_52_10, f_52_11, f_52_12, f_52_13, f_52_14, f_52_15, f_52_16, s_52_16, o_63, f_63_0, f_63_1, f_63_2, l_55, t_55, l_70, t_70]
      exact hQ.1 S2 o (am_ft_trans f1 f2) (bb2.trans bb1) s2 h2 r2
    · rw [w126_53]
      by_cases cj : j < q
      · simp (disch := first | omega | exact am_fit_z0 | exact am_fit_z1 | (apply am_fit_zc <;> omega)) only [w123_0, w123_1, w123_3, w123_6, w123_7, w123_9, w123_10, w123_13, w123_14, w123_15, w123_18, w123_19, w123_22, w123_48, w123_49, w123_50, w123_51, w123_54, w123_55, w123_56, w123_57, w123_58, w123_61, w123_62, w123_63, w123_64, w123_65, w123_68, w123_69, w123_70, w123_71, w123_74, w123_75, w123_78, w123_79, w123_82, w123_83, w123_84, w123_87, w123_88, w126_0, w126_1, w126_2, w126_3, w126_7, w126_8, w126_11, w126_14, w126_17, w126_18, w126_21, w126_23, w126_26, w126_29, w126_31, w126_32, w126_33, w126_34, w126_37, w126_40, w126_41, w126_42, w126_43, w126_46, w126_48, w126_49, w126_50, w126_51, w126_55, w126_56, w126_59, w126_61, w126_64, w126_65, w126_67, w126_68, w126_71, w126_73, w126_76, w126_79, w126_81, am_fit_i, am_isR, am_okA, exists_eq_left', exists_eq_left, Option.some.injEq, true_and, and_true, List.length_cons, List.length_nil, List.drop_succ_cons, List.drop_zero, List.all_cons, List.all_nil, am_c1, Bool.and_true, Bool.true_and, Bool.and_self, decide_true, decide_false, if_true, if_false, beq_self_eq_true, Nat.reduceAdd, Nat.reduceLeDiff, Nat.reduceLT, Nat.reduceEqDiff, Nat.reduceSub, ite_true, ite_false, and_self, eq_self, am_z_add, am_z_sub, am_z_mul, Int.reduceAdd, Int.reduceSub, Int.reduceMul, Int.reduceLT, Int.reduceLE, Int.reduceEq, Int.reduceNeg, am_then_i, am_then_r, am_then_v, Nat.add_eq, Nat.zero_add, Nat.add_zero, am_fit_z0, am_fit_z1, am_fit_zc, ↓reduceIte, am_lt_T, am_lt_F, am_le_T, am_le_F, am_eq_T, am_eq_F, am_z_lt, am_z_le, am_z_eq, am_z_char, am_set_se, am_set_sk, am_set_sh, o_2, f_2_0, s_2_0, f_2_1, s_2_1, o_66, f_66_0, f_66_1, f_66_2, f_66_3, f_66_4, f_66_5, f_66_6, f_66_7, f_66_8, f_66_9, s_66_9, o_3, f_3_0, f_3_1, o_8, f_8_0, f_8_1, f_8_2, f_8_3, s_8_3, o_52, f_52_0, f_52_1, f_52_2, f_52_3, f_52_4, f_52_5, s_52_5, f_52_6, s_52_6, f_52_7, s_52_7, f_52_8, s_52_8, f_52_9, s_52_9, f_52_10, f_52_11, f_52_12, f_52_13, f_52_14, f_52_15, f_52_16, s_52_16, o_63, f_63_0, f_63_1, f_63_2, l_55, t_55, l_70, t_70]
        exact hQ.2 S2 c p (am_ft_trans f1 f2) s2 h2 e1 e2
      · simp (disch := first | omega | exact am_fit_z0 | exact am_fit_z1 | (apply am_fit_zc <;> omega)) only [w123_0, w123_1, w123_3, w123_6, w123_7, w123_9, w123_10, w123_13, w123_14, w123_15, w123_18, w123_19, w123_22, w123_48, w123_49, w123_50, w123_51, w123_54, w123_55, w123_56, w123_57, w123_58, w123_61, w123_62, w123_63, w123_64, w123_65, w123_68, w123_69, w123_70, w123_71, w123_74, w123_75, w123_78, w123_79, w123_82, w123_83, w123_84, w123_87, w123_88, w126_0, w126_1, w126_2, w126_3, w126_7, w126_8, w126_11, w126_14, w126_17, w126_18, w126_21, w126_23, w126_26, w126_29, w126_31, w126_32, w126_33, w126_34, w126_37, w126_40, w126_41, w126_42, w126_43, w126_46, w126_48, w126_49, w126_50, w126_51, w126_55, w126_56, w126_59, w126_61, w126_64, w126_65, w126_67, w126_68, w126_71, w126_73, w126_76, w126_79, w126_81, am_fit_i, am_isR, am_okA, exists_eq_left', exists_eq_left, Option.some.injEq, true_and, and_true, List.length_cons, List.length_nil, List.drop_succ_cons, List.drop_zero, List.all_cons, List.all_nil, am_c1, Bool.and_true, Bool.true_and, Bool.and_self, decide_true, decide_false, if_true, if_false, beq_self_eq_true, Nat.reduceAdd, Nat.reduceLeDiff, Nat.reduceLT, Nat.reduceEqDiff, Nat.reduceSub, ite_true, ite_false, and_self, eq_self, am_z_add, am_z_sub, am_z_mul, Int.reduceAdd, Int.reduceSub, Int.reduceMul, Int.reduceLT, Int.reduceLE, Int.reduceEq, Int.reduceNeg, am_then_i, am_then_r, am_then_v, Nat.add_eq, Nat.zero_add, Nat.add_zero, am_fit_z0, am_fit_z1, am_fit_zc, ↓reduceIte, am_lt_T, am_lt_F, am_le_T, am_le_F, am_eq_T, am_eq_F, am_z_lt, am_z_le, am_z_eq, am_z_char, am_set_se, am_set_sk, am_set_sh, o_2, f_2_0, s_2_0, f_2_1, s_2_1, o_66, f_66_0, f_66_1, f_66_2, f_66_3, f_66_4, f_66_5, f_66_6, f_66_7, f_66_8, f_66_9, s_66_9, o_3, f_3_0, f_3_1, o_8, f_8_0, f_8_1, f_8_2, f_8_3, s_8_3, o_52, f_52_0, f_52_1, f_52_2, f_52_3, f_52_4, f_52_5, s_52_5, f_52_6, s_52_6, f_52_7, s_52_7, f_52_8, s_52_8, f_52_9, s_52_9, f_52_10, f_52_11, f_52_12, f_52_13, f_52_14, f_52_15, f_52_16, s_52_16, o_63, f_63_0, f_63_1, f_63_2, l_55, t_55, l_70, t_70]
        exact hQ.2 S2 c p (am_ft_trans f1 f2) s2 h2 e1 e2
  · simp (disch := first | omega | exact am_fit_z0 | exact am_fit_z1 | (apply am_fit_zc <;> omega)) only [w126_0, w126_1, w126_2, w126_3, w126_7, w126_8, w126_11, w126_14, w126_17, w126_18, w126_21, w126_23, w126_26, w126_29, w126_31, w126_32, w126_33, w126_34, w126_37, w126_40, w126_41, w126_42, w126_43, w126_46, w126_48, w126_49, w126_50, w126_51, w126_55, w126_56, w126_59, w126_61, w126_64, w126_65, w126_67, w126_68, w126_71, w126_73, w126_76, w126_79, w126_81, am_fit_i, am_isR, am_okA, exists_eq_left', exists_eq_left, Option.some.injEq, true_and, and_true, List.length_cons, List.length_nil, List.drop_succ_cons, List.drop_zero, List.all_cons, List.all_nil, am_c1, Bool.and_true, Bool.true_and, Bool.and_self, decide_true, decide_false, if_true, if_false, beq_self_eq_true, Nat.reduceAdd, Nat.reduceLeDiff, Nat.reduceLT, Nat.reduceEqDiff, Nat.reduceSub, ite_true, ite_false, and_self, eq_self, am_z_add, am_z_sub, am_z_mul, Int.reduceAdd, Int.reduceSub, Int.reduceMul, Int.reduceLT, Int.reduceLE, Int.reduceEq, Int.reduceNeg, am_then_i, am_then_r, am_then_v, Nat.add_eq, Nat.zero_add, Nat.add_zero, am_fit_z0, am_fit_z1, am_fit_zc, ↓reduceIte, am_lt_T, am_lt_F, am_le_T, am_le_F, am_eq_T, am_eq_F, am_z_lt, am_z_le, am_z_eq, am_z_char, am_set_se, am_set_sk, am_set_sh, o_2, f_2_0, s_2_0, f_2_1, s_2_1, o_66, f_66_0, f_66_1, f_66_2, f_66_3, f_66_4, f_66_5, f_66_6, f_66_7, f_66_8, f_66_9, s_66_9, o_3, f_3_0, f_3_1, o_8, f_8_0, f_8_1, f_8_2, f_8_3, s_8_3, o_52, f_52_0, f_52_1, f_52_2, f_52_3, f_52_4, f_52_5, s_52_5, f_52_6, s_52_6, f_52_7, s_52_7, f_52_8, s_52_8, f_52_9, s_52_9, f_52_10, f_52_11, f_52_12, f_52_13, f_52_14, f_52_15, f_52_16, s_52_16, o_63, f_63_0, f_63_1, f_63_2, l_55, t_55, l_70, t_70]
    have hE : am_ty NM TP pl Γ (.branch 0 a b) q = .error (c, p) := by
      have ge : ∀ {t : am_T} {q : Int}, am_ty NM TP pl Γ (am_hs t) (q + am_ms t) = .error (c, p) → am_ty NM TP pl Γ t q = .error (c, p) := by
        intro t
        induction t with
        | leaf z =>
          intro q h
          cases h
        | branch k a b iha _ =>
          intro q h
          by_cases hk : k = 0
          · subst hk
            rw [am_hs_0, am_ms_0, show q + ((am_ms a + 1 : Nat) : Int) = q + 1 + am_ms a by omega] at h
            have := iha h
            unfold am_ty
            rw [if_pos rfl, this]
          · rw [am_hs_k hk, am_ms_k hk, Int.natCast_zero, Int.add_zero] at h
            exact h
      exact ge h1
    rw [w126_53]
    simp (disch := first | omega | exact am_fit_z0 | exact am_fit_z1 | (apply am_fit_zc <;> omega)) only [w123_0, w123_1, w123_3, w123_6, w123_7, w123_9, w123_10, w123_13, w123_14, w123_15, w123_18, w123_19, w123_22, w123_48, w123_49, w123_50, w123_51, w123_54, w123_55, w123_56, w123_57, w123_58, w123_61, w123_62, w123_63, w123_64, w123_65, w123_68, w123_69, w123_70, w123_71, w123_74, w123_75, w123_78, w123_79, w123_82, w123_83, w123_84, w123_87, w123_88, w126_0, w126_1, w126_2, w126_3, w126_7, w126_8, w126_11, w126_14, w126_17, w126_18, w126_21, w126_23, w126_26, w126_29, w126_31, w126_32, w126_33, w126_34, w126_37, w126_40, w126_41, w126_42, w126_43, w126_46, w126_48, w126_49, w126_50, w126_51, w126_55, w126_56, w126_59, w126_61, w126_64, w126_65, w126_67, w126_68, w126_71, w126_73, w126_76, w126_79, w126_81, am_fit_i, am_isR, am_okA, exists_eq_left', exists_eq_left, Option.some.injEq, true_and, and_true, List.length_cons, List.length_nil, List.drop_succ_cons, List.drop_zero, List.all_cons, List.all_nil, am_c1, Bool.and_true, Bool.true_and, Bool.and_self, decide_true, decide_false, if_true, if_false, beq_self_eq_true, Nat.reduceAdd, Nat.reduceLeDiff, Nat.reduceLT, Nat.reduceEqDiff, Nat.reduceSub, ite_true, ite_false, and_self, eq_self, am_z_add, am_z_sub, am_z_mul, Int.reduceAdd, Int.reduceSub, Int.reduceMul, Int.reduceLT, Int.reduceLE, Int.reduceEq, Int.reduceNeg, am_then_i, am_then_r, am_then_v, Nat.add_eq, Nat.zero_add, Nat.add_zero, am_fit_z0, am_fit_z1, am_fit_zc, ↓reduceIte, am_lt_T, am_lt_F, am_le_T, am_le_F, am_eq_T, am_eq_F, am_z_lt, am_z_le, am_z_eq, am_z_char, am_set_se, am_set_sk, am_set_sh, o_2, f_2_0, s_2_0, f_2_1, s_2_1, o_66, f_66_0, f_66_1, f_66_2, f_66_3, f_66_4, f_66_5, f_66_6, f_66_7, f_66_8, f_66_9, s_66_9, o_3, f_3_0, f_3_1, o_8, f_8_0, f_8_1, f_8_2, f_8_3, s_8_3, o_52, f_52_0, f_52_1, f_52_2, f_52_3, f_52_4, f_52_5, s_52_5, f_52_6, s_52_6, f_52_7, s_52_7, f_52_8, s_52_8, f_52_9, s_52_9, f_52_10, f_52_11, f_52_12, f_52_13, f_52_14, f_52_15, f_52_16, s_52_16, o_63, f_63_0, f_63_1, f_63_2, l_55, t_55, l_70, t_70]
    exact hQ.2 S1 c p f1 s1 hE e1 e2
theorem am_HT {tl : Nat → Bool} {NM TP : Nat → Option am_T} {pl : Int → Int} {t : am_T} (h : am_HO tl NM TP pl t) : am_TO tl NM TP pl t := fun d n X S Q Γ N q L hd => h d n X S Q Γ N q L (by omega)
theorem am_TA {tl : Nat → Bool} {NM TP : Nat → Option am_T} {pl : Int → Int} : ∀ (t : am_T), am_TO tl NM TP pl t ∧ am_HO tl NM TP pl (am_hs t) ∧ am_LO tl NM TP pl t
  | .leaf z => ⟨am_HT to_leaf, to_leaf, lo_base rfl rfl⟩
  | .branch k a b => by
    obtain ⟨ta, ha, la⟩ := am_TA (tl := tl) (NM := NM) (TP := TP) (pl := pl) a
    obtain ⟨tb, hb, lb⟩ := am_TA (tl := tl) (NM := NM) (TP := TP) (pl := pl) b
    by_cases h0 : k = 0
    · subst h0
      have l0 := lo_step la tb
      exact ⟨to_app ha l0, ha, l0⟩
    · have hk : am_HO tl NM TP pl (.branch k a b) := by
        by_cases h1 : k = 1
        · subst h1
          exact to_fun ta tb
        · by_cases h2 : k = 2
          · subst h2
            exact to_prod ta tb
          · intro d n X S Q Γ N q L hd hL hG hc hs hw
            exact absurd hw.1 (by omega)
      exact ⟨am_HT hk, by rw [am_hs_k h0]; exact hk, lo_base (am_ms_k h0) (am_hs_k h0)⟩
