theorem am_iv_up {tl : Nat → Bool} {i : Int} {st : am_Re} (h : am_iv tl i st) : am_iv tl (i + 1) st := by
  obtain ⟨F, now, md, k, pl, lt, lone⟩ := st
  obtain ⟨a1, a2, a3, a4, a5, a6, a7, a8, a9, a10, a11, a12⟩ := h
  exact ⟨a1, a2, a3, a4, by omega, by omega, by omega, a8, by omega, fun _ q => absurd q (by omega), a11, a12⟩
theorem rl_loop {d : Nat} {n : am_N} {X : Nat × (Nat → Int32)} {Q : Option Value → am_N → am_M → Prop} {tl : Nat → Bool} {L : Int} (hd : 9 ≤ d) (hL : L ≤ 100) (h8 : ∀ k, tl k = true → k < 8) : ∀ {cs : List Int} {i : Int} {st : am_Re} {S : am_St}, 0 ≤ i → i + cs.length = L → am_sg (S 1) i cs → (∀ c ∈ cs, 0 < c ∧ c < 256) → am_tld S tl → am_iv tl i st → am_RC S st → (∀ (S' : am_St) st', am_f9 S S' → am_rdl tl cs i st = .ok st' → am_RC S' st' → am_iv tl L st' → am_AW d 82 (60, [.ref 52, .ref 1, .int (am_z L), .int (am_z L)], [], n, am_m X S') Q) → (∀ (S' : am_St) e p, am_f8 S S' → am_rdl tl cs i st = .error (e, p) → S' 2 0 = e → S' 2 1 = p → 0 ≤ S' 52 9 → S' 52 9 < 256 → Q (some (.int (am_z 0))) n (am_m X S')) → am_AW d 82 (28, [.ref 52, .ref 1, .int (am_z L), .int (am_z i)], [], n, am_m X S) Q
  | [], i, st, S, i0, h1, h2, h3, ht, hi, hr, hY, hE => by
    rw [List.length_nil] at h1
    have e : i = L := by omega
    subst e
    rw [w82_28]
    simp (disch := first | omega | exact am_fit_z0 | exact am_fit_z1 | (apply am_fit_zc <;> omega)) only [w82_0, w82_1, w82_4, w82_7, w82_8, w82_9, w82_12, w82_13, w82_14, w82_17, w82_18, w82_19, w82_22, w82_23, w82_26, w82_27, w82_29, w82_30, w82_33, w82_34, w82_35, w82_36, w82_38, w82_41, w82_42, w82_43, w82_44, w82_45, w82_46, w82_49, w82_52, w82_53, w82_54, w82_57, w82_61, w82_64, w82_65, w82_68, w82_69, w82_72, w82_75, w82_76, w82_79, w82_81, w82_82, w82_85, w82_86, w82_87, am_fit_i, am_isR, am_okA, exists_eq_left', exists_eq_left, Option.some.injEq, true_and, and_true, List.length_cons, List.length_nil, List.drop_succ_cons, List.drop_zero, List.all_cons, List.all_nil, am_c1, Bool.and_true, Bool.true_and, Bool.and_self, decide_true, decide_false, if_true, if_false, beq_self_eq_true, Nat.reduceAdd, Nat.reduceLeDiff, Nat.reduceLT, Nat.reduceEqDiff, Nat.reduceSub, ite_true, ite_false, and_self, eq_self, am_z_add, am_z_sub, am_z_mul, Int.reduceAdd, Int.reduceSub, Int.reduceMul, Int.reduceLT, Int.reduceLE, Int.reduceEq, Int.reduceNeg, am_then_i, am_then_r, am_then_v, Nat.add_eq, Nat.zero_add, Nat.add_zero, am_fit_z0, am_fit_z1, am_fit_zc, ↓reduceIte, am_lt_T, am_lt_F, am_le_T, am_le_F, am_eq_T, am_eq_F, am_z_lt, am_z_le, am_z_eq, am_z_char, am_set_se, am_set_sk, am_set_sh, o_52, f_52_0, f_52_1, f_52_2, f_52_3, f_52_4, f_52_5, s_52_5, f_52_6, s_52_6, f_52_7, s_52_7, f_52_8, s_52_8, f_52_9, s_52_9, f_52_10, f_52_11, f_52_12, f_52_13, f_52_14, f_52_15, f_52_16, s_52_16, l_1, t_1, o_2, f_2_0, s_2_0, f_2_1, s_2_1]
    exact hY S st (fun _ _ => rfl) rfl hr hi
  | c :: cs, i, st, S, i0, h1, h2, h3, ht, hi, hr, hY, hE => by
    rw [List.length_cons] at h1
    obtain ⟨hv, h4⟩ := am_sg_cons.mp h2
    obtain ⟨c0, c1⟩ := h3 c List.mem_cons_self
    have h3' : ∀ c ∈ cs, 0 < c ∧ c < 256 := fun x hx => h3 x (List.mem_cons_of_mem _ hx)
    rw [w82_28]
    by_cases hc : c = 32
    · have e : am_rdl tl (c :: cs) i st = am_rdl tl cs (i + 1) st := if_pos hc
      rw [e] at hY hE
      simp (disch := first | omega | exact am_fit_z0 | exact am_fit_z1 | (apply am_fit_zc <;> omega)) only [w82_0, w82_1, w82_4, w82_7, w82_8, w82_9, w82_12, w82_13, w82_14, w82_17, w82_18, w82_19, w82_22, w82_23, w82_26, w82_27, w82_29, w82_30, w82_33, w82_34, w82_35, w82_36, w82_38, w82_41, w82_42, w82_43, w82_44, w82_45, w82_46, w82_49, w82_52, w82_53, w82_54, w82_57, w82_60, w82_61, w82_64, w82_65, w82_68, w82_69, w82_72, w82_75, w82_76, w82_79, w82_81, w82_82, w82_85, w82_86, w82_87, am_fit_i, am_isR, am_okA, exists_eq_left', exists_eq_left, Option.some.injEq, true_and, and_true, List.length_cons, List.length_nil, List.drop_succ_cons, List.drop_zero, List.all_cons, List.all_nil, am_c1, Bool.and_true, Bool.true_and, Bool.and_self, decide_true, decide_false, if_true, if_false, beq_self_eq_true, Nat.reduceAdd, Nat.reduceLeDiff, Nat.reduceLT, Nat.reduceEqDiff, Nat.reduceSub, ite_true, ite_false, and_self, eq_self, am_z_add, am_z_sub, am_z_mul, Int.reduceAdd, Int.reduceSub, Int.reduceMul, Int.reduceLT, Int.reduceLE, Int.reduceEq, Int.reduceNeg, am_then_i, am_then_r, am_then_v, Nat.add_eq, Nat.zero_add, Nat.add_zero, am_fit_z0, am_fit_z1, am_fit_zc, ↓reduceIte, am_lt_T, am_lt_F, am_le_T, am_le_F, am_eq_T, am_eq_F, am_z_lt, am_z_le, am_z_eq, am_z_char, am_set_se, am_set_sk, am_set_sh, o_52, f_52_0, f_52_1, f_52_2, f_52_3, f_52_4, f_52_5, s_52_5, f_52_6, s_52_6, f_52_7, s_52_7, f_52_8, s_52_8, f_52_9, s_52_9, f_52_10, f_52_11, f_52_12, f_52_13, f_52_14, f_52_15, f_52_16, s_52_16, l_1, t_1, o_2, f_2_0, s_2_0, f_2_1, s_2_1, hv, hc]
      exact rl_loop hd hL h8 (cs := cs) (by omega) (by omega) h4 h3' ht (am_iv_up hi) hr hY hE
    · obtain ⟨F, now, md, k, pl, lt, lone⟩ := st
      have e : am_rdl tl (c :: cs) i (F, now, md, k, pl, lt, lone) = (match am_tk tl (F, now, md, k, pl, lt, lone) c i with
          | .error e => .error e
          | .ok st' => am_rdl tl cs (i + 1) st') := if_neg hc
      rw [e] at hY hE
      simp (disch := first | omega | exact am_fit_z0 | exact am_fit_z1 | (apply am_fit_zc <;> omega)) only [w82_0, w82_1, w82_4, w82_7, w82_8, w82_9, w82_12, w82_13, w82_14, w82_17, w82_18, w82_19, w82_22, w82_23, w82_26, w82_27, w82_29, w82_30, w82_33, w82_34, w82_35, w82_36, w82_38, w82_41, w82_42, w82_43, w82_44, w82_45, w82_46, w82_49, w82_52, w82_53, w82_54, w82_57, w82_60, w82_61, w82_64, w82_65, w82_68, w82_69, w82_72, w82_75, w82_76, w82_79, w82_81, w82_82, w82_85, w82_86, w82_87, am_fit_i, am_isR, am_okA, exists_eq_left', exists_eq_left, Option.some.injEq, true_and, and_true, List.length_cons, List.length_nil, List.drop_succ_cons, List.drop_zero, List.all_cons, List.all_nil, am_c1, Bool.and_true, Bool.true_and, Bool.and_self, decide_true, decide_false, if_true, if_false, beq_self_eq_true, Nat.reduceAdd, Nat.reduceLeDiff, Nat.reduceLT, Nat.reduceEqDiff, Nat.reduceSub, ite_true, ite_false, and_self, eq_self, am_z_add, am_z_sub, am_z_mul, Int.reduceAdd, Int.reduceSub, Int.reduceMul, Int.reduceLT, Int.reduceLE, Int.reduceEq, Int.reduceNeg, am_then_i, am_then_r, am_then_v, Nat.add_eq, Nat.zero_add, Nat.add_zero, am_fit_z0, am_fit_z1, am_fit_zc, ↓reduceIte, am_lt_T, am_lt_F, am_le_T, am_le_F, am_eq_T, am_eq_F, am_z_lt, am_z_le, am_z_eq, am_z_char, am_set_se, am_set_sk, am_set_sh, o_52, f_52_0, f_52_1, f_52_2, f_52_3, f_52_4, f_52_5, s_52_5, f_52_6, s_52_6, f_52_7, s_52_7, f_52_8, s_52_8, f_52_9, s_52_9, f_52_10, f_52_11, f_52_12, f_52_13, f_52_14, f_52_15, f_52_16, s_52_16, l_1, t_1, o_2, f_2_0, s_2_0, f_2_1, s_2_1, hv]
      refine do_take (tl := tl) hd i0 (by omega) c0 c1 ht h8 hi hr ⟨fun S1 st1 f1 t1 r1 => ?_, fun S1 e p f1 t1 e1 e2 e3 e4 => ?_⟩
      · rw [t1] at hY hE
        simp (disch := first | omega | exact am_fit_z0 | exact am_fit_z1 | (apply am_fit_zc <;> omega)) only [w82_0, w82_1, w82_4, w82_7, w82_8, w82_9, w82_12, w82_13, w82_14, w82_17, w82_18, w82_19, w82_22, w82_23, w82_26, w82_27, w82_29, w82_30, w82_33, w82_34, w82_35, w82_36, w82_38, w82_41, w82_42, w82_43, w82_44, w82_45, w82_46, w82_49, w82_52, w82_53, w82_54, w82_57, w82_60, w82_61, w82_64, w82_65, w82_68, w82_69, w82_72, w82_75, w82_76, w82_79, w82_81, w82_82, w82_85, w82_86, w82_87, am_fit_i, am_isR, am_okA, exists_eq_left', exists_eq_left, Option.some.injEq, true_and, and_true, List.length_cons, List.length_nil, List.drop_succ_cons, List.drop_zero, List.all_cons, List.all_nil, am_c1, Bool.and_true, Bool.true_and, Bool.and_self, decide_true, decide_false, if_true, if_false, beq_self_eq_true, Nat.reduceAdd, Nat.reduceLeDiff, Nat.reduceLT, Nat.reduceEqDiff, Nat.reduceSub, ite_true, ite_false, and_self, eq_self, am_z_add, am_z_sub, am_z_mul, Int.reduceAdd, Int.reduceSub, Int.reduceMul, Int.reduceLT, Int.reduceLE, Int.reduceEq, Int.reduceNeg, am_then_i, am_then_r, am_then_v, Nat.add_eq, Nat.zero_add, Nat.add_zero, am_fit_z0, am_fit_z1, am_fit_zc, ↓reduceIte, am_lt_T, am_lt_F, am_le_T, am_le_F, am_eq_T, am_eq_F, am_z_lt, am_z_le, am_z_eq, am_z_char, am_set_se, am_set_sk, am_set_sh, o_52, f_52_0, f_52_1, f_52_2, f_52_3, f_52_4, f_52_5, s_52_5, f_52_6, s_52_6, f_52_7, s_52_7, f_52_8, s_52_8, f_52_9, s_52_9, f_52_10, f_52_11, f_52_12, f_52_13, f_52_14, f_52_15, f_52_16, s_52_16, l_1, t_1, o_2, f_2_0, s_2_0, f_2_1, s_2_1]
        have ht1 : am_tld S1 tl := fun k hk => by rw [f1 11 (by omega)]; exact ht k hk
        exact rl_loop hd hL h8 (cs := cs) (by omega) (by omega) (by rw [f1 1 (by omega)]; exact h4) h3' ht1 (am_tk_iv i0 c1 hi t1) r1 (fun S2 st2 f2 => hY S2 st2 (am_f9_trans f1 f2)) (fun S2 e p f2 => hE S2 e p (am_f8_trans (am_f9_f8 f1) f2))
      · rw [t1] at hE
        simp (disch := first | omega | exact am_fit_z0 | exact am_fit_z1 | (apply am_fit_zc <;> omega)) only [w82_0, w82_1, w82_4, w82_7, w82_8, w82_9, w82_12, w82_13, w82_14, w82_17, w82_18, w82_19, w82_22, w82_23, w82_26, w82_27, w82_29, w82_30, w82_33, w82_34, w82_35, w82_36, w82_38, w82_41, w82_42, w82_43, w82_44, w82_45, w82_46, w82_49, w82_52, w82_53, w82_54, w82_57, w82_60, w82_61, w82_64, w82_65, w82_68, w82_69, w82_72, w82_75, w82_76, w82_79, w82_81, w82_82, w82_85, w82_86, w82_87, am_fit_i, am_isR, am_okA, exists_eq_left', exists_eq_left, Option.some.injEq, true_and, and_true, List.length_cons, List.length_nil, List.drop_succ_cons, List.drop_zero, List.all_cons, List.all_nil, am_c1, Bool.and_true, Bool.true_and, Bool.and_self, decide_true, decide_false, if_true, if_false, beq_self_eq_true, Nat.reduceAdd, Nat.reduceLeDiff, Nat.reduceLT, Nat.reduceEqDiff, Nat.reduceSub, ite_true, ite_false, and_self, eq_self, am_z_add, am_z_sub, am_z_mul, Int.reduceAdd, Int.reduceSub, Int.reduceMul, Int.reduceLT, Int.reduceLE, Int.reduceEq, Int.reduceNeg, am_then_i, am_then_r, am_then_v, Nat.add_eq, Nat.zero_add, Nat.add_zero, am_fit_z0, am_fit_z1, am_fit_zc, ↓reduceIte, am_lt_T, am_lt_F, am_le_T, am_le_F, am_eq_T, am_eq_F, am_z_lt, am_z_le, am_z_eq, am_z_char, am_set_se, am_set_sk, am_set_sh, o_52, f_52_0, f_52_1, f_52_2, f_52_3, f_52_4, f_52_5, s_52_5, f_52_6, s_52_6, f_52_7, s_52_7, f_52_8, s_52_8, f_52_9, s_52_9, f_52_10, f_52_11, f_52_12, f_52_13, f_52_14, f_52_15, f_52_16, s_52_16, l_1, t_1, o_2, f_2_0, s_2_0, f_2_1, s_2_1]
        exact hE S1 e p f1 rfl e1 e2 e3 e4
theorem am_oc_0 {F : List am_Fr} {u v : am_U} {F' : List am_Fr} {tl : Nat → Bool} (h : am_fo F u = (F', v)) (hw : am_fw tl F) (hu : am_uw tl (am_bs F).length u) : am_oc F = 0 ↔ F' = [] := by
  obtain ⟨r1, r2, r3, r4, r5, r6, r7, r8, B, r9⟩ := am_fo_spec h hw hu
  constructor
  · intro q
    cases F' with
    | nil => rfl
    | cons f G =>
      exfalso
      obtain ⟨kd, x⟩ := f
      have hk : kd < 2 := r8 _ _ rfl
      have e : am_oc ((kd, x) :: G) = am_oc G + 1 := if_neg (by omega)
      omega
  · intro q
    rw [← r5, q]
    rfl
theorem do_read {d : Nat} {n : am_N} {X : Nat × (Nat → Int32)} {S : am_St} {Q : Option Value → am_N → am_M → Prop} {tl : Nat → Bool} {l : List Int} (hd : 10 ≤ d) (hl : l.length ≤ 100) (hs : am_sg (S 1) 0 l) (hc : ∀ c ∈ l, 0 < c ∧ c < 256) (ht : am_tld S tl) (h8 : ∀ k, tl k = true → k < 8) (h9 : 0 ≤ S 52 9) (h9' : S 52 9 < 256) (hY : ∀ (S' : am_St) w, am_f9 S S' → am_read tl l = .ok w → am_row S' 53 200 (some (am_lay (w : am_U).1)) → am_sg (S' 55) 0 w.2 → 0 ≤ S' 52 9 → S' 52 9 < 256 → am_wn tl 0 w.1 → w.2.length = am_sz w.1 → am_sz w.1 ≤ 200 → am_lev w.1 ≤ 50 → Q (some (.int (am_z 1))) n (am_m X S')) (hE : ∀ (S' : am_St) e p, am_f8 S S' → am_read tl l = .error (e, p) → S' 2 0 = e → S' 2 1 = p → 0 ≤ S' 52 9 → S' 52 9 < 256 → Q (some (.int (am_z 0))) n (am_m X S')) : am_Do d 82 [.ref 52, .ref 1, .int (am_z l.length)] n (am_m X S) Q := by
  rw [in_82 (by omega)]
  simp (disch := first | omega | exact am_fit_z0 | exact am_fit_z1 | (apply am_fit_zc <;> omega)) only [w82_0, w82_1, w82_4, w82_7, w82_8, w82_9, w82_12, w82_13, w82_14, w82_17, w82_18, w82_19, w82_22, w82_23, w82_26, w82_27, w82_29, w82_30, w82_33, w82_34, w82_35, w82_36, w82_38, w82_41, w82_42, w82_43, w82_44, w82_45, w82_46, w82_49, w82_52, w82_53, w82_54, w82_57, w82_60, w82_61, w82_64, w82_65, w82_68, w82_69, w82_72, w82_75, w82_76, w82_79, w82_81, w82_82, w82_85, w82_86, w82_87, am_fit_i, am_isR, am_okA, exists_eq_left', exists_eq_left, Option.some.injEq, true_and, and_true, List.length_cons, List.length_nil, List.drop_succ_cons, List.drop_zero, List.all_cons, List.all_nil, am_c1, Bool.and_true, Bool.true_and, Bool.and_self, decide_true, decide_false, if_true, if_false, beq_self_eq_true, Nat.reduceAdd, Nat.reduceLeDiff, Nat.reduceLT, Nat.reduceEqDiff, Nat.reduceSub, ite_true, ite_false, and_self, eq_self, am_z_add, am_z_sub, am_z_mul, Int.reduceAdd, Int.reduceSub, Int.reduceMul, Int.reduceLT, Int.reduceLE, Int.reduceEq, Int.reduceNeg, am_then_i, am_then_r, am_then_v, Nat.add_eq, Nat.zero_add, Nat.add_zero, am_fit_z0, am_fit_z1, am_fit_zc, ↓reduceIte, am_lt_T, am_lt_F, am_le_T, am_le_F, am_eq_T, am_eq_F, am_z_lt, am_z_le, am_z_eq, am_z_char, am_set_se, am_set_sk, am_set_sh, o_52, f_52_0, f_52_1, f_52_2, f_52_3, f_52_4, f_52_5, s_52_5, f_52_6, s_52_6, f_52_7, s_52_7, f_52_8, s_52_8, f_52_9, s_52_9, f_52_10, f_52_11, f_52_12, f_52_13, f_52_14, f_52_15, f_52_16, s_52_16, l_1, t_1, o_2, f_2_0, s_2_0, f_2_1, s_2_1, rw_o r_53]
  refine do_clear (by omega) r_53 (fun S1 f1 r1 => ?_)
  simp (disch := first | omega | exact am_fit_z0 | exact am_fit_z1 | (apply am_fit_zc <;> omega)) only [w82_0, w82_1, w82_4, w82_7, w82_8, w82_9, w82_12, w82_13, w82_14, w82_17, w82_18, w82_19, w82_22, w82_23, w82_26, w82_27, w82_29, w82_30, w82_33, w82_34, w82_35, w82_36, w82_38, w82_41, w82_42, w82_43, w82_44, w82_45, w82_46, w82_49, w82_52, w82_53, w82_54, w82_57, w82_60, w82_61, w82_64, w82_65, w82_68, w82_69, w82_72, w82_75, w82_76, w82_79, w82_81, w82_82, w82_85, w82_86, w82_87, am_fit_i, am_isR, am_okA, exists_eq_left', exists_eq_left, Option.some.injEq, true_and, and_true, List.length_cons, List.length_nil, List.drop_succ_cons, List.drop_zero, List.all_cons, List.all_nil, am_c1, Bool.and_true, Bool.true_and, Bool.and_self, decide_true, decide_false, if_true, if_false, beq_self_eq_true, Nat.reduceAdd, Nat.reduceLeDiff, Nat.reduceLT, Nat.reduceEqDiff, Nat.reduceSub, ite_true, ite_false, and_self, eq_self, am_z_add, am_z_sub, am_z_mul, Int.reduceAdd, Int.reduceSub, Int.reduceMul, Int.reduceLT, Int.reduceLE, Int.reduceEq, Int.reduceNeg, am_then_i, am_then_r, am_then_v, Nat.add_eq, Nat.zero_add, Nat.add_zero, am_fit_z0, am_fit_z1, am_fit_zc, ↓reduceIte, am_lt_T, am_lt_F, am_le_T, am_le_F, am_eq_T, am_eq_F, am_z_lt, am_z_le, am_z_eq, am_z_char, am_set_se, am_set_sk, am_set_sh, o_52, f_52_0, f_52_1, f_52_2, f_52_3, f_52_4, f_52_5, s_52_5, f_52_6, s_52_6, f_52_7, s_52_7, f_52_8, s_52_8, f_52_9, s_52_9, f_52_10, f_52_11, f_52_12, f_52_13, f_52_14, f_52_15, f_52_16, s_52_16, l_1, t_1, o_2, f_2_0, s_2_0, f_2_1, s_2_1, do_beginTerm]
  have z1 : S1 53 1 = 0 := r1.2.1
  rw [z1]
  have e : ∀ h, h ≠ 52 → h ≠ 53 → am_set (am_set (am_set (am_set (am_set S1 52 5 0) 52 16 0) 52 8 (-1)) 52 7 0) 52 6 0 h = S h := fun h a b => by rw [am_set_sh a, am_set_sh a, am_set_sh a, am_set_sh a, am_set_sh a, f1 h b]
  have r0 : am_RC (am_set (am_set (am_set (am_set (am_set S1 52 5 0) 52 16 0) 52 8 (-1)) 52 7 0) 52 6 0) am_re0 := by
    have e52 := f1 52 (by omega)
    refine ⟨am_row_fr r1 (by simp (disch := omega) only [am_set_sh, am_set_se, am_set_sk]) (by simp (disch := omega) only [am_set_sh, am_set_se, am_set_sk]), am_sg_nil, by simp (disch := omega) only [am_set_sh, am_set_se, am_set_sk]; rfl, am_sg_nil, am_set_se, fun _ => by simp (disch := omega) only [am_set_sh, am_set_se, am_set_sk]; rfl, by simp (disch := omega) only [am_set_sh, am_set_se, am_set_sk], fun q => absurd q (by omega), ?_, ?_, by simp (disch := omega) only [am_set_sh, am_set_se, am_set_sk]; rfl, trivial⟩
    · simp (disch := omega) only [am_set_sh, am_set_se, am_set_sk]
      rw [e52]
      exact h9
    · simp (disch := omega) only [am_set_sh, am_set_se, am_set_sk]
      rw [e52]
      exact h9'
  have f0 : am_f9 S (am_set (am_set (am_set (am_set (am_set S1 52 5 0) 52 16 0) 52 8 (-1)) 52 7 0) 52 6 0) := fun h p2 => e h (by omega) (by omega)
  generalize am_set (am_set (am_set (am_set (am_set S1 52 5 0) 52 16 0) 52 8 (-1)) 52 7 0) 52 6 0 = S0 at e r0 f0 ⊢
  have i0 : am_iv tl 0 am_re0 := ⟨trivial, fun u hu => (by cases hu), Or.inl rfl, fun q => absurd q (by omega), by rw [if_pos rfl]; decide, by decide, by decide, by decide, by decide, fun q => absurd rfl q, by decide, by decide⟩
  refine rl_loop (tl := tl) (by omega) (by omega) h8 (cs := l) (i := 0) (st := am_re0) (Int.le_refl 0) (by omega) (by rw [e 1 (by omega) (by omega)]; exact hs) hc (fun k hk => by rw [e 11 (by omega) (by omega)]; exact ht k hk) i0 r0 (fun S2 st f2 t2 r2 i2 => ?_) (fun S2 e p f2 t2 e1 e2 e3 e4 => hE S2 e p (am_f8_trans (am_f9_f8 f0) f2) (by unfold am_read; rw [t2]) e1 e2 e3 e4)
  have er : am_read tl l = am_fin2 l.length st := by
    unfold am_read
    rw [t2]
  rw [er] at hY hE
  obtain ⟨F, now, md, k, pl, lt, lone⟩ := st
  obtain ⟨a1, a2, a3, a4, a5, a6, a7, a8, a9, a10, a11, a12⟩ := r2
  obtain ⟨b1, b2, b3, b4, b5, b6, b7, b8, b9, b10, b11, b12⟩ := i2
  have g2 := am_f9_trans f0 f2
  have bad : am_fin2 l.length (F, now, md, k, pl, lt, lone) = .error (-2, (l.length : Int)) → Q (some (.int (am_z 0))) n (am_m X (am_set (am_set S2 2 0 (-2)) 2 1 l.length)) := fun q => hE _ (-2) l.length (am_f8_trans (am_f9_f8 g2) am_f8_2) q (by simp (disch := omega) only [am_set_sh, am_set_se, am_set_sk]) am_set_se (by simp (disch := omega) only [am_set_sh, am_set_se, am_set_sk]; exact a9) (by simp (disch := omega) only [am_set_sh, am_set_se, am_set_sk]; exact a10)
  have boc : (am_oc F : Int) ≤ 100 := by omega
  by_cases m0 : md = 0
  rotate_left
  · have s6 : S2 52 6 = 2 ∨ S2 52 6 = 3 := by
      have : S2 52 6 = (md : Int) + 1 := by rw [a5]; exact if_neg m0
      omega
    have bd := bad (by
      cases now with
      | none => rfl
      | some u => exact if_neg m0)
    simp (disch := first | omega | exact am_fit_z0 | exact am_fit_z1 | (apply am_fit_zc <;> omega)) only [w82_0, w82_1, w82_4, w82_7, w82_8, w82_9, w82_12, w82_13, w82_14, w82_17, w82_18, w82_19, w82_22, w82_23, w82_26, w82_27, w82_29, w82_30, w82_33, w82_34, w82_35, w82_36, w82_38, w82_41, w82_42, w82_43, w82_44, w82_45, w82_46, w82_49, w82_52, w82_53, w82_54, w82_57, w82_60, w82_61, w82_64, w82_65, w82_68, w82_69, w82_72, w82_75, w82_76, w82_79, w82_81, w82_82, w82_85, w82_86, w82_87, am_fit_i, am_isR, am_okA, exists_eq_left', exists_eq_left, Option.some.injEq, true_and, and_true, List.length_cons, List.length_nil, List.drop_succ_cons, List.drop_zero, List.all_cons, List.all_nil, am_c1, Bool.and_true, Bool.true_and, Bool.and_self, decide_true, decide_false, if_true, if_false, beq_self_eq_true, Nat.reduceAdd, Nat.reduceLeDiff, Nat.reduceLT, Nat.reduceEqDiff, Nat.reduceSub, ite_true, ite_false, and_self, eq_self, am_z_add, am_z_sub, am_z_mul, Int.reduceAdd, Int.reduceSub, Int.reduceMul, Int.reduceLT, Int.reduceLE, Int.reduceEq, Int.reduceNeg, am_then_i, am_then_r, am_then_v, Nat.add_eq, Nat.zero_add, Nat.add_zero, am_fit_z0, am_fit_z1, am_fit_zc, ↓reduceIte, am_lt_T, am_lt_F, am_le_T, am_le_F, am_eq_T, am_eq_F, am_z_lt, am_z_le, am_z_eq, am_z_char, am_set_se, am_set_sk, am_set_sh, o_52, f_52_0, f_52_1, f_52_2, f_52_3, f_52_4, f_52_5, s_52_5, f_52_6, s_52_6, f_52_7, s_52_7, f_52_8, s_52_8, f_52_9, s_52_9, f_52_10, f_52_11, f_52_12, f_52_13, f_52_14, f_52_15, f_52_16, s_52_16, l_1, t_1, o_2, f_2_0, s_2_0, f_2_1, s_2_1, do_tell]
    exact bd
  · subst m0
    cases now with
    | none =>
      have s6 : S2 52 6 = 0 := a5
      simp (disch := first | omega | exact am_fit_z0 | exact am_fit_z1 | (apply am_fit_zc <;> omega)) only [w82_0, w82_1, w82_4, w82_7, w82_8, w82_9, w82_12, w82_13, w82_14, w82_17, w82_18, w82_19, w82_22, w82_23, w82_26, w82_27, w82_29, w82_30, w82_33, w82_34, w82_35, w82_36, w82_38, w82_41, w82_42, w82_43, w82_44, w82_45, w82_46, w82_49, w82_52, w82_53, w82_54, w82_57, w82_60, w82_61, w82_64, w82_65, w82_68, w82_69, w82_72, w82_75, w82_76, w82_79, w82_81, w82_82, w82_85, w82_86, w82_87, am_fit_i, am_isR, am_okA, exists_eq_left', exists_eq_left, Option.some.injEq, true_and, and_true, List.length_cons, List.length_nil, List.drop_succ_cons, List.drop_zero, List.all_cons, List.all_nil, am_c1, Bool.and_true, Bool.true_and, Bool.and_self, decide_true, decide_false, if_true, if_false, beq_self_eq_true, Nat.reduceAdd, Nat.reduceLeDiff, Nat.reduceLT, Nat.reduceEqDiff, Nat.reduceSub, ite_true, ite_false, and_self, eq_self, am_z_add, am_z_sub, am_z_mul, Int.reduceAdd, Int.reduceSub, Int.reduceMul, Int.reduceLT, Int.reduceLE, Int.reduceEq, Int.reduceNeg, am_then_i, am_then_r, am_then_v, Nat.add_eq, Nat.zero_add, Nat.add_zero, am_fit_z0, am_fit_z1, am_fit_zc, ↓reduceIte, am_lt_T, am_lt_F, am_le_T, am_le_F, am_eq_T, am_eq_F, am_z_lt, am_z_le, am_z_eq, am_z_char, am_set_se, am_set_sk, am_set_sh, o_52, f_52_0, f_52_1, f_52_2, f_52_3, f_52_4, f_52_5, s_52_5, f_52_6, s_52_6, f_52_7, s_52_7, f_52_8, s_52_8, f_52_9, s_52_9, f_52_10, f_52_11, f_52_12, f_52_13, f_52_14, f_52_15, f_52_16, s_52_16, l_1, t_1, o_2, f_2_0, s_2_0, f_2_1, s_2_1, s6, do_tell]
      exact bad rfl
    | some u =>
      have s6 : S2 52 6 = 1 := a5
      have wu := b2 u rfl
      cases hfo : am_fo F u with
      | mk F' w =>
        have ho := am_oc_0 hfo b1 wu
        obtain ⟨r1', r2', r3, r4, r5, r6, r7, r8, B, r9⟩ := am_fo_spec hfo b1 wu
        have efin : am_fin2 l.length (F, some u, 0, k, pl, lt, lone) = (match (F', w) with
            | ([], w) => .ok w
            | _ => .error (-2, (l.length : Int))) := by
          unfold am_fin2
          simp only [hfo, if_true]
          cases F' <;> rfl
        by_cases h0 : am_oc F = 0
        · have hF := ho.mp h0
          subst hF
          have s16 : S2 52 16 = 0 := by rw [a11, h0]; rfl
          rw [efin] at hY
          simp (disch := first | omega | exact am_fit_z0 | exact am_fit_z1 | (apply am_fit_zc <;> omega)) only [w82_0, w82_1, w82_4, w82_7, w82_8, w82_9, w82_12, w82_13, w82_14, w82_17, w82_18, w82_19, w82_22, w82_23, w82_26, w82_27, w82_29, w82_30, w82_33, w82_34, w82_35, w82_36, w82_38, w82_41, w82_42, w82_43, w82_44, w82_45, w82_46, w82_49, w82_52, w82_53, w82_54, w82_57, w82_60, w82_61, w82_64, w82_65, w82_68, w82_69, w82_72, w82_75, w82_76, w82_79, w82_81, w82_82, w82_85, w82_86, w82_87, am_fit_i, am_isR, am_okA, exists_eq_left', exists_eq_left, Option.some.injEq, true_and, and_true, List.length_cons, List.length_nil, List.drop_succ_cons, List.drop_zero, List.all_cons, List.all_nil, am_c1, Bool.and_true, Bool.true_and, Bool.and_self, decide_true, decide_false, if_true, if_false, beq_self_eq_true, Nat.reduceAdd, Nat.reduceLeDiff, Nat.reduceLT, Nat.reduceEqDiff, Nat.reduceSub, ite_true, ite_false, and_self, eq_self, am_z_add, am_z_sub, am_z_mul, Int.reduceAdd, Int.reduceSub, Int.reduceMul, Int.reduceLT, Int.reduceLE, Int.reduceEq, Int.reduceNeg, am_then_i, am_then_r, am_then_v, Nat.add_eq, Nat.zero_add, Nat.add_zero, am_fit_z0, am_fit_z1, am_fit_zc, ↓reduceIte, am_lt_T, am_lt_F, am_le_T, am_le_F, am_eq_T, am_eq_F, am_z_lt, am_z_le, am_z_eq, am_z_char, am_set_se, am_set_sk, am_set_sh, o_52, f_52_0, f_52_1, f_52_2, f_52_3, f_52_4, f_52_5, s_52_5, f_52_6, s_52_6, f_52_7, s_52_7, f_52_8, s_52_8, f_52_9, s_52_9, f_52_10, f_52_11, f_52_12, f_52_13, f_52_14, f_52_15, f_52_16, s_52_16, l_1, t_1, o_2, f_2_0, s_2_0, f_2_1, s_2_1, s6, s16]
          have e1 : am_tF F ++ am_cu (some u) 0 k = am_lay w.1 := r3
          have e2 : am_pF F ++ am_cp (some u) 0 pl = w.2 := r4
          rw [e1] at a1
          rw [e2] at a2
          have hsz : am_sz w.1 ≤ 200 := by
            have := a1.1
            rw [am_lay_len] at this
            exact this
          have hlev : am_lev w.1 ≤ 50 := by
            have h2 := am_lev_wt (t := w.1)
            have h7 : (am_wF F : Int) + am_wgt u.1 ≤ l.length := b7
            have h3 : am_wF ([] : List am_Fr) = 0 := rfl
            omega
          exact hY S2 w g2 rfl a1 a2 a9 a10 r2'.1 r2'.2 hsz hlev
        · have s16 : 0 < S2 52 16 := by rw [a11]; omega
          have s16' : S2 52 16 ≤ 100 := by rw [a11]; omega
          have bd := bad (by
            rw [efin]
            cases F' with
            | nil => exact absurd (ho.mpr rfl) h0
            | cons f G => rfl)
          simp (disch := first | omega | exact am_fit_z0 | exact am_fit_z1 | (apply am_fit_zc <;> omega)) only [w82_0, w82_1, w82_4, w82_7, w82_8, w82_9, w82_12, w82_13, w82_14, w82_17, w82_18, w82_19, w82_22, w82_23, w82_26, w82_27, w82_29, w82_30, w82_33, w82_34, w82_35, w82_36, w82_38, w82_41, w82_42, w82_43, w82_44, w82_45, w82_46, w82_49, w82_52, w82_53, w82_54, w82_57, w82_60, w82_61, w82_64, w82_65, w82_68, w82_69, w82_72, w82_75, w82_76, w82_79, w82_81, w82_82, w82_85, w82_86, w82_87, am_fit_i, am_isR, am_okA, exists_eq_left', exists_eq_left, Option.some.injEq, true_and, and_true, List.length_cons, List.length_nil, List.drop_succ_cons, List.drop_zero, List.all_cons, List.all_nil, am_c1, Bool.and_true, Bool.true_and, Bool.and_self, decide_true, decide_false, if_true, if_false, beq_self_eq_true, Nat.reduceAdd, Nat.reduceLeDiff, Nat.reduceLT, Nat.reduceEqDiff, Nat.reduceSub, ite_true, ite_false, and_self, eq_self, am_z_add, am_z_sub, am_z_mul, Int.reduceAdd, Int.reduceSub, Int.reduceMul, Int.reduceLT, Int.reduceLE, Int.reduceEq, Int.reduceNeg, am_then_i, am_then_r, am_then_v, Nat.add_eq, Nat.zero_add, Nat.add_zero, am_fit_z0, am_fit_z1, am_fit_zc, ↓reduceIte, am_lt_T, am_lt_F, am_le_T, am_le_F, am_eq_T, am_eq_F, am_z_lt, am_z_le, am_z_eq, am_z_char, am_set_se, am_set_sk, am_set_sh, o_52, f_52_0, f_52_1, f_52_2, f_52_3, f_52_4, f_52_5, s_52_5, f_52_6, s_52_6, f_52_7, s_52_7, f_52_8, s_52_8, f_52_9, s_52_9, f_52_10, f_52_11, f_52_12, f_52_13, f_52_14, f_52_15, f_52_16, s_52_16, l_1, t_1, o_2, f_2_0, s_2_0, f_2_1, s_2_1, s6, do_tell]
          exact bd
