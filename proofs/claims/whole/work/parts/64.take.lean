/-! the class's reader and the reading -/
def am_cu (now : Option am_U) (md k : Nat) : List Int := match now with
  | some u => am_lay u.1
  | none => if md = 0 then [] else [(k : Int)]
def am_cp (now : Option am_U) (md : Nat) (pl : Int) : List Int := match now with
  | some u => u.2
  | none => if md = 0 then [] else [pl]
def am_sv (now : Option am_U) (md : Nat) : Int := if md = 0 then (match now with
  | some _ => 1
  | none => 0) else (md : Int) + 1
def am_op (S : am_St) : List am_Fr → Prop
  | [] => True
  | (kd, l, p, k, o) :: F => am_op S F ∧ (kd = 0 → S 57 (am_oc F) = 41 ∧ S 59 (am_oc F) = p ∧ S 60 (am_oc F) = (am_tF ((kd, l, p, k, o) :: F)).length ∧ S 61 (am_oc F) = (am_tF F).length ∧ S 62 (am_oc F) = (am_bs F).length) ∧ (kd = 1 → S 57 (am_oc F) = 46 ∧ S 58 (am_oc F) = l ∧ S 62 (am_oc F) = (am_bs F).length)
def am_RC (S : am_St) (st : am_Re) : Prop := match st with
  | (F, now, md, k, pl, lt, lone) => am_row S 53 200 (some (am_tF F ++ am_cu now md k)) ∧ am_sg (S 55) 0 (am_pF F ++ am_cp now md pl) ∧ S 52 5 = (am_bs F).length ∧ am_sg (S 56) 0 (am_bs F).reverse ∧ S 52 6 = am_sv now md ∧ (md = 0 → S 52 7 = (am_tF F).length) ∧ S 52 8 = lone ∧ (md = 2 → S 52 9 = lt) ∧ 0 ≤ S 52 9 ∧ S 52 9 < 256 ∧ S 52 16 = am_oc F ∧ am_op S F
def am_f8 (S S' : am_St) : Prop := ∀ h, h ≠ 2 → (h < 52 ∨ 62 < h) → S' h = S h
def am_f9 (S S' : am_St) : Prop := ∀ h, (h < 52 ∨ 62 < h) → S' h = S h
theorem am_f9_trans {S S' S2 : am_St} (h1 : am_f9 S S') (h2 : am_f9 S' S2) : am_f9 S S2 := fun h a => (h2 h a).trans (h1 h a)
theorem am_f9_f8 {S S' : am_St} (h : am_f9 S S') : am_f8 S S' := fun x _ a => h x a
theorem am_f9_of {S S' : am_St} (h : am_f8 S S') (h2 : S' 2 = S 2) : am_f9 S S' := fun x a => by
  by_cases c : x = 2
  · rw [c]; exact h2
  · exact h x c a
theorem am_f8_trans {S S' S2 : am_St} (h1 : am_f8 S S') (h2 : am_f8 S' S2) : am_f8 S S2 := fun h a b => (h2 h a b).trans (h1 h a b)
theorem am_oc_cons {f : am_Fr} {F : List am_Fr} : am_oc F ≤ am_oc (f :: F) := by
  obtain ⟨kd, l, p, k, o⟩ := f
  show am_oc F ≤ if 2 ≤ kd then am_oc F else am_oc F + 1
  split <;> omega
theorem am_op_lt {S S' : am_St} : ∀ {F : List am_Fr}, (∀ h, 57 ≤ h → h ≤ 62 → ∀ j : Int, 0 ≤ j → j < am_oc F → S' h j = S h j) → am_op S F → am_op S' F
  | [], _, _ => trivial
  | (kd, l, p, k, o) :: F, hs, h => by
    have hm := am_oc_cons (f := (kd, l, p, k, o)) (F := F)
    refine ⟨am_op_lt (fun h a b j c d => hs h a b j c (by omega)) h.1, fun hk => ?_, fun hk => ?_⟩
    · have e : am_oc ((kd, l, p, k, o) :: F) = am_oc F + 1 := if_neg (by omega)
      obtain ⟨q1, q2, q3, q4, q5⟩ := h.2.1 hk
      rw [hs 57 (by omega) (by omega) _ (by omega) (by omega), hs 59 (by omega) (by omega) _ (by omega) (by omega), hs 60 (by omega) (by omega) _ (by omega) (by omega), hs 61 (by omega) (by omega) _ (by omega) (by omega), hs 62 (by omega) (by omega) _ (by omega) (by omega)]
      exact ⟨q1, q2, q3, q4, q5⟩
    · have e : am_oc ((kd, l, p, k, o) :: F) = am_oc F + 1 := if_neg (by omega)
      obtain ⟨q1, q2, q3⟩ := h.2.2 hk
      rw [hs 57 (by omega) (by omega) _ (by omega) (by omega), hs 58 (by omega) (by omega) _ (by omega) (by omega), hs 62 (by omega) (by omega) _ (by omega) (by omega)]
      exact ⟨q1, q2, q3⟩
theorem am_op_fr {S S' : am_St} {F : List am_Fr} (hs : ∀ h, 57 ≤ h → h ≤ 62 → S' h = S h) (h : am_op S F) : am_op S' F := am_op_lt (fun x a b j _ _ => by rw [hs x a b]) h
theorem am_op_fo {S : am_St} : ∀ {F : List am_Fr} {u : am_U} {F' : List am_Fr} {v : am_U}, am_fo F u = (F', v) → am_op S F → am_op S F'
  | [], u, F', v, h, ho => by
    unfold am_fo at h
    cases h
    exact trivial
  | (kd, l, p, k, o) :: F, u, F', v, h, ho => by
    unfold am_fo at h
    split at h
    · cases o with
      | none =>
        simp only at h
        cases h
        exact ho
      | some A =>
        simp only at h
        exact am_op_fo h ho.1
    · cases h
      exact ho
theorem am_pF_len {tl : Nat → Bool} : ∀ {F : List am_Fr}, am_fw tl F → (am_pF F).length = (am_tF F).length
  | [], _ => rfl
  | (kd, l, p, k, o) :: F, h => by
    show (am_pF F ++ am_pcP (kd, l, p, k, o)).length = (am_tF F ++ am_pcT (kd, l, p, k, o)).length
    rw [List.length_append, List.length_append, am_pF_len h.1]
    have : (am_pcP (kd, l, p, k, o)).length = (am_pcT (kd, l, p, k, o)).length := by
      show ((if k = 0 then [] else [p]) ++ _).length = ((if k = 0 then [] else [(k : Int)]) ++ _).length
      rw [List.length_append, List.length_append]
      cases o with
      | none => split <;> rfl
      | some u =>
        have := (h.2.1 u rfl).2
        show _ + u.2.length = _ + (am_lay u.1).length
        rw [am_lay_len, this]
        split <;> rfl
    rw [this]
theorem am_bs_b {tl : Nat → Bool} : ∀ {F : List am_Fr}, am_fw tl F → ∀ x ∈ am_bs F, 0 ≤ x ∧ x < 256
  | [], _, x, hx => by cases hx
  | (kd, l, p, k, o) :: F, h, x, hx => by
    unfold am_bs at hx
    split at hx
    · rcases List.mem_cons.mp hx with rfl | hx
      · rcases h.2.2 with q | q | q | q <;> omega
      · exact am_bs_b h.1 x hx
    · exact am_bs_b h.1 x hx
theorem am_hd_app {P : List Int} {i : Int} (h : 0 < P.length) : (P ++ [i]).headD 0 = P.headD 0 := by
  cases P with
  | nil => cases h
  | cons x P => rfl
theorem do_join {d : Nat} {n : am_N} {X : Nat × (Nat → Int32)} {S : am_St} {Q : Option Value → am_N → am_M → Prop} {A L0 PA P0 : List Int} {st : Int} (hd : 4 ≤ d) (h1 : am_row S 53 200 (some (A ++ L0))) (h2 : (A ++ L0).length < 200) (h3 : am_sg (S 55) 0 (PA ++ P0)) (h4 : PA.length = A.length) (h5 : P0.length = L0.length) (h6 : S 52 7 = A.length) (h7 : 0 < L0.length) (hs0 : 0 ≤ st) (hs1 : st < 1000) (hQ : ∀ (S' : am_St), (∀ h, h ≠ 52 → h ≠ 53 → h ≠ 54 → h ≠ 55 → S' h = S h) → (∀ k, k ≠ 6 → S' 52 k = S 52 k) → S' 52 6 = 1 → am_row S' 53 200 (some (A ++ (if (A.length : Int) < st then 0 :: L0 else L0))) → am_sg (S' 55) 0 (PA ++ (if (A.length : Int) < st then P0.headD 0 :: P0 else P0)) → Q none n (am_m X S')) : am_Do d 96 [.ref 52, .int (am_z st)] n (am_m X S) Q := by
  have hA : A.length < 200 := by
    have := h2
    rw [List.length_append] at this
    omega
  rw [in_96 (by omega)]
  by_cases c : (A.length : Int) < st
  · rw [if_pos c, if_pos c] at hQ
    simp (disch := first | omega | exact am_fit_z0 | exact am_fit_z1 | (apply am_fit_zc <;> omega)) only [w96_0, w96_1, w96_2, w96_5, w96_8, w96_9, w96_10, w96_13, w96_14, w96_15, w96_18, am_fit_i, am_isR, am_okA, exists_eq_left', exists_eq_left, Option.some.injEq, true_and, and_true, List.length_cons, List.length_nil, List.drop_succ_cons, List.drop_zero, List.all_cons, List.all_nil, am_c1, Bool.and_true, Bool.true_and, Bool.and_self, decide_true, decide_false, if_true, if_false, beq_self_eq_true, Nat.reduceAdd, Nat.reduceLeDiff, Nat.reduceLT, Nat.reduceEqDiff, Nat.reduceSub, ite_true, ite_false, and_self, eq_self, am_z_add, am_z_sub, am_z_mul, Int.reduceAdd, Int.reduceSub, Int.reduceMul, Int.reduceLT, Int.reduceLE, Int.reduceEq, Int.reduceNeg, am_then_i, am_then_r, am_then_v, Nat.add_eq, Nat.zero_add, Nat.add_zero, am_fit_z0, am_fit_z1, am_fit_zc, ↓reduceIte, am_lt_T, am_lt_F, am_le_T, am_le_F, am_eq_T, am_eq_F, am_z_lt, am_z_le, am_z_eq, am_z_char, am_set_se, am_set_sk, am_set_sh, o_52, f_52_0, f_52_1, f_52_2, f_52_3, f_52_4, f_52_5, s_52_5, f_52_6, s_52_6, f_52_7, s_52_7, f_52_8, s_52_8, f_52_9, s_52_9, f_52_10, f_52_11, f_52_12, f_52_13, f_52_14, f_52_15, f_52_16, s_52_16, l_55, t_55, l_56, t_56, l_57, t_57, l_58, t_58, l_59, t_59, l_60, t_60, l_61, t_61, l_62, t_62, o_2, f_2_0, s_2_0, f_2_1, s_2_1, o_8, f_8_0, f_8_1, f_8_2, f_8_3, s_8_3, l_11, t_11, h6]
    refine do_insert (A := A) (R0 := L0) (by omega) h1 h2 h3 h4 h5 h6 h7 (fun S1 f1 r1 p1 => ?_)
    simp (disch := first | omega | exact am_fit_z0 | exact am_fit_z1 | (apply am_fit_zc <;> omega)) only [w96_0, w96_1, w96_2, w96_5, w96_8, w96_9, w96_10, w96_13, w96_14, w96_15, w96_18, am_fit_i, am_isR, am_okA, exists_eq_left', exists_eq_left, Option.some.injEq, true_and, and_true, List.length_cons, List.length_nil, List.drop_succ_cons, List.drop_zero, List.all_cons, List.all_nil, am_c1, Bool.and_true, Bool.true_and, Bool.and_self, decide_true, decide_false, if_true, if_false, beq_self_eq_true, Nat.reduceAdd, Nat.reduceLeDiff, Nat.reduceLT, Nat.reduceEqDiff, Nat.reduceSub, ite_true, ite_false, and_self, eq_self, am_z_add, am_z_sub, am_z_mul, Int.reduceAdd, Int.reduceSub, Int.reduceMul, Int.reduceLT, Int.reduceLE, Int.reduceEq, Int.reduceNeg, am_then_i, am_then_r, am_then_v, Nat.add_eq, Nat.zero_add, Nat.add_zero, am_fit_z0, am_fit_z1, am_fit_zc, ↓reduceIte, am_lt_T, am_lt_F, am_le_T, am_le_F, am_eq_T, am_eq_F, am_z_lt, am_z_le, am_z_eq, am_z_char, am_set_se, am_set_sk, am_set_sh, o_52, f_52_0, f_52_1, f_52_2, f_52_3, f_52_4, f_52_5, s_52_5, f_52_6, s_52_6, f_52_7, s_52_7, f_52_8, s_52_8, f_52_9, s_52_9, f_52_10, f_52_11, f_52_12, f_52_13, f_52_14, f_52_15, f_52_16, s_52_16, l_55, t_55, l_56, t_56, l_57, t_57, l_58, t_58, l_59, t_59, l_60, t_60, l_61, t_61, l_62, t_62, o_2, f_2_0, s_2_0, f_2_1, s_2_1, o_8, f_8_0, f_8_1, f_8_2, f_8_3, s_8_3, l_11, t_11]
    exact hQ _ (fun h a b c e => by rw [am_set_sh a, f1 h b c e]) (fun k hk => by rw [am_set_sk hk, f1 52 (by omega) (by omega) (by omega)]) am_set_se (am_row_fr r1 (am_set_sh (by omega)) (am_set_sh (by omega))) (by rw [am_set_sh (by omega)]; exact p1)
  · rw [if_neg c, if_neg c] at hQ
    simp (disch := first | omega | exact am_fit_z0 | exact am_fit_z1 | (apply am_fit_zc <;> omega)) only [w96_0, w96_1, w96_2, w96_5, w96_8, w96_9, w96_10, w96_13, w96_14, w96_15, w96_18, am_fit_i, am_isR, am_okA, exists_eq_left', exists_eq_left, Option.some.injEq, true_and, and_true, List.length_cons, List.length_nil, List.drop_succ_cons, List.drop_zero, List.all_cons, List.all_nil, am_c1, Bool.and_true, Bool.true_and, Bool.and_self, decide_true, decide_false, if_true, if_false, beq_self_eq_true, Nat.reduceAdd, Nat.reduceLeDiff, Nat.reduceLT, Nat.reduceEqDiff, Nat.reduceSub, ite_true, ite_false, and_self, eq_self, am_z_add, am_z_sub, am_z_mul, Int.reduceAdd, Int.reduceSub, Int.reduceMul, Int.reduceLT, Int.reduceLE, Int.reduceEq, Int.reduceNeg, am_then_i, am_then_r, am_then_v, Nat.add_eq, Nat.zero_add, Nat.add_zero, am_fit_z0, am_fit_z1, am_fit_zc, ↓reduceIte, am_lt_T, am_lt_F, am_le_T, am_le_F, am_eq_T, am_eq_F, am_z_lt, am_z_le, am_z_eq, am_z_char, am_set_se, am_set_sk, am_set_sh, o_52, f_52_0, f_52_1, f_52_2, f_52_3, f_52_4, f_52_5, s_52_5, f_52_6, s_52_6, f_52_7, s_52_7, f_52_8, s_52_8, f_52_9, s_52_9, f_52_10, f_52_11, f_52_12, f_52_13, f_52_14, f_52_15, f_52_16, s_52_16, l_55, t_55, l_56, t_56, l_57, t_57, l_58, t_58, l_59, t_59, l_60, t_60, l_61, t_61, l_62, t_62, o_2, f_2_0, s_2_0, f_2_1, s_2_1, o_8, f_8_0, f_8_1, f_8_2, f_8_3, s_8_3, l_11, t_11, h6]
    exact hQ _ (fun h a b c e => am_set_sh a) (fun k hk => am_set_sk hk) am_set_se (am_row_fr h1 (am_set_sh (by omega)) (am_set_sh (by omega))) (by rw [am_set_sh (by omega)]; exact h3)
theorem do_addAtom {d : Nat} {n : am_N} {X : Nat × (Nat → Int32)} {S : am_St} {Q : Option Value → am_N → am_M → Prop} {tl : Nat → Bool} {F : List am_Fr} {now : Option am_U} {k : Nat} {pl lt lone z i : Int} (hd : 5 ≤ d) (hw : am_fw tl F) (ho : am_ow tl (am_bs F).length now) (hl : (am_tF F ++ am_cu now 0 k).length + 2 ≤ 200) (hr : am_RC S (F, now, 0, k, pl, lt, lone)) (hQ : ∀ (S' : am_St), am_f8 S S' → S' 2 = S 2 → am_RC S' (F, some (am_jn now (.leaf z, [i])), 0, k, pl, lt, lone) → Q none n (am_m X S')) : am_Do d 95 [.ref 52, .int (am_z z), .int (am_z i)] n (am_m X S) Q := by
  obtain ⟨a1, a2, a3, a4, a5, a6, a7, a8, a9, a10, a11, a12⟩ := hr
  have a6' := a6 rfl
  have hpl := am_pF_len hw
  have hsz : S 53 1 = (am_tF F ++ am_cu now 0 k).length := a1.2.1
  have cpl : (am_cp now 0 pl).length = (am_cu now 0 k).length := by
    cases now with
    | none => rfl
    | some u => show u.2.length = (am_lay u.1).length; rw [am_lay_len]; exact (ho u rfl).2
  rw [in_95 (by omega)]
  simp (disch := first | omega | exact am_fit_z0 | exact am_fit_z1 | (apply am_fit_zc <;> omega)) only [w95_0, w95_1, w95_4, w95_7, w95_8, w95_9, w95_10, w95_11, w95_14, w95_15, w95_16, w95_19, am_fit_i, am_isR, am_okA, exists_eq_left', exists_eq_left, Option.some.injEq, true_and, and_true, List.length_cons, List.length_nil, List.drop_succ_cons, List.drop_zero, List.all_cons, List.all_nil, am_c1, Bool.and_true, Bool.true_and, Bool.and_self, decide_true, decide_false, if_true, if_false, beq_self_eq_true, Nat.reduceAdd, Nat.reduceLeDiff, Nat.reduceLT, Nat.reduceEqDiff, Nat.reduceSub, ite_true, ite_false, and_self, eq_self, am_z_add, am_z_sub, am_z_mul, Int.reduceAdd, Int.reduceSub, Int.reduceMul, Int.reduceLT, Int.reduceLE, Int.reduceEq, Int.reduceNeg, am_then_i, am_then_r, am_then_v, Nat.add_eq, Nat.zero_add, Nat.add_zero, am_fit_z0, am_fit_z1, am_fit_zc, ↓reduceIte, am_lt_T, am_lt_F, am_le_T, am_le_F, am_eq_T, am_eq_F, am_z_lt, am_z_le, am_z_eq, am_z_char, am_set_se, am_set_sk, am_set_sh, o_52, f_52_0, f_52_1, f_52_2, f_52_3, f_52_4, f_52_5, s_52_5, f_52_6, s_52_6, f_52_7, s_52_7, f_52_8, s_52_8, f_52_9, s_52_9, f_52_10, f_52_11, f_52_12, f_52_13, f_52_14, f_52_15, f_52_16, s_52_16, l_55, t_55, l_56, t_56, l_57, t_57, l_58, t_58, l_59, t_59, l_60, t_60, l_61, t_61, l_62, t_62, o_2, f_2_0, s_2_0, f_2_1, s_2_1, o_8, f_8_0, f_8_1, f_8_2, f_8_3, s_8_3, l_11, t_11, rw_f0 r_53, rw_f1 r_53, rw_f2 r_53, rw_s1 r_53, rw_o r_53, am_ald_m r_53.2, am_ast_m r_53.2, hsz]
  refine do_addToken (z := z) (p := i) (l := am_tF F ++ am_cu now 0 k) (P := am_pF F ++ am_cp now 0 pl) (by omega) a1 (by omega) a2 (by rw [List.length_append, List.length_append, hpl, cpl]) (fun S1 f1 r1 p1 => ?_)
  simp (disch := first | omega | exact am_fit_z0 | exact am_fit_z1 | (apply am_fit_zc <;> omega)) only [w95_0, w95_1, w95_4, w95_7, w95_8, w95_9, w95_10, w95_11, w95_14, w95_15, w95_16, w95_19, am_fit_i, am_isR, am_okA, exists_eq_left', exists_eq_left, Option.some.injEq, true_and, and_true, List.length_cons, List.length_nil, List.drop_succ_cons, List.drop_zero, List.all_cons, List.all_nil, am_c1, Bool.and_true, Bool.true_and, Bool.and_self, decide_true, decide_false, if_true, if_false, beq_self_eq_true, Nat.reduceAdd, Nat.reduceLeDiff, Nat.reduceLT, Nat.reduceEqDiff, Nat.reduceSub, ite_true, ite_false, and_self, eq_self, am_z_add, am_z_sub, am_z_mul, Int.reduceAdd, Int.reduceSub, Int.reduceMul, Int.reduceLT, Int.reduceLE, Int.reduceEq, Int.reduceNeg, am_then_i, am_then_r, am_then_v, Nat.add_eq, Nat.zero_add, Nat.add_zero, am_fit_z0, am_fit_z1, am_fit_zc, ↓reduceIte, am_lt_T, am_lt_F, am_le_T, am_le_F, am_eq_T, am_eq_F, am_z_lt, am_z_le, am_z_eq, am_z_char, am_set_se, am_set_sk, am_set_sh, o_52, f_52_0, f_52_1, f_52_2, f_52_3, f_52_4, f_52_5, s_52_5, f_52_6, s_52_6, f_52_7, s_52_7, f_52_8, s_52_8, f_52_9, s_52_9, f_52_10, f_52_11, f_52_12, f_52_13, f_52_14, f_52_15, f_52_16, s_52_16, l_55, t_55, l_56, t_56, l_57, t_57, l_58, t_58, l_59, t_59, l_60, t_60, l_61, t_61, l_62, t_62, o_2, f_2_0, s_2_0, f_2_1, s_2_1, o_8, f_8_0, f_8_1, f_8_2, f_8_3, s_8_3, l_11, t_11]
  rw [List.append_assoc] at r1 p1
  have e52 := f1 52 (by omega) (by omega) (by omega)
  refine do_join (A := am_tF F) (L0 := am_cu now 0 k ++ [z]) (PA := am_pF F) (P0 := am_cp now 0 pl ++ [i]) (by omega) r1 (by rw [← List.append_assoc, List.length_append, List.length_singleton]; omega) p1 hpl (by rw [List.length_append, List.length_append, cpl, List.length_singleton, List.length_singleton]) (by rw [e52]; exact a6') (by rw [List.length_append, List.length_singleton]; omega) (by omega) (by omega) (fun S2 f2 k2 v2 r2 p2 => ?_)
  simp (disch := first | omega | exact am_fit_z0 | exact am_fit_z1 | (apply am_fit_zc <;> omega)) only [w95_0, w95_1, w95_4, w95_7, w95_8, w95_9, w95_10, w95_11, w95_14, w95_15, w95_16, w95_19, am_fit_i, am_isR, am_okA, exists_eq_left', exists_eq_left, Option.some.injEq, true_and, and_true, List.length_cons, List.length_nil, List.drop_succ_cons, List.drop_zero, List.all_cons, List.all_nil, am_c1, Bool.and_true, Bool.true_and, Bool.and_self, decide_true, decide_false, if_true, if_false, beq_self_eq_true, Nat.reduceAdd, Nat.reduceLeDiff, Nat.reduceLT, Nat.reduceEqDiff, Nat.reduceSub, ite_true, ite_false, and_self, eq_self, am_z_add, am_z_sub, am_z_mul, Int.reduceAdd, Int.reduceSub, Int.reduceMul, Int.reduceLT, Int.reduceLE, Int.reduceEq, Int.reduceNeg, am_then_i, am_then_r, am_then_v, Nat.add_eq, Nat.zero_add, Nat.add_zero, am_fit_z0, am_fit_z1, am_fit_zc, ↓reduceIte, am_lt_T, am_lt_F, am_le_T, am_le_F, am_eq_T, am_eq_F, am_z_lt, am_z_le, am_z_eq, am_z_char, am_set_se, am_set_sk, am_set_sh, o_52, f_52_0, f_52_1, f_52_2, f_52_3, f_52_4, f_52_5, s_52_5, f_52_6, s_52_6, f_52_7, s_52_7, f_52_8, s_52_8, f_52_9, s_52_9, f_52_10, f_52_11, f_52_12, f_52_13, f_52_14, f_52_15, f_52_16, s_52_16, l_55, t_55, l_56, t_56, l_57, t_57, l_58, t_58, l_59, t_59, l_60, t_60, l_61, t_61, l_62, t_62, o_2, f_2_0, s_2_0, f_2_1, s_2_1, o_8, f_8_0, f_8_1, f_8_2, f_8_3, s_8_3, l_11, t_11]
  have g2 : ∀ h, h ≠ 52 → h ≠ 53 → h ≠ 54 → h ≠ 55 → S2 h = S h := fun h a b c e => (f2 h a b c e).trans (f1 h b c e)
  have k52 : ∀ k, k ≠ 6 → S2 52 k = S 52 k := fun k hk => by rw [k2 k hk, e52]
  refine hQ S2 (fun h a b => g2 h (by omega) (by omega) (by omega) (by omega)) (g2 2 (by omega) (by omega) (by omega) (by omega)) ⟨?_, ?_, by rw [k52 5 (by omega)]; exact a3, by rw [g2 56 (by omega) (by omega) (by omega) (by omega)]; exact a4, v2, fun _ => by rw [k52 7 (by omega)]; exact a6', by rw [k52 8 (by omega)]; exact a7, fun q => absurd q (by omega), by rw [k52 9 (by omega)]; exact a9, by rw [k52 9 (by omega)]; exact a10, by rw [k52 16 (by omega)]; exact a11, am_op_fr (fun h a b => g2 h (by omega) (by omega) (by omega) (by omega)) a12⟩
  · cases now with
    | none =>
      rw [if_neg (by rw [List.length_append]; show ¬ ((am_tF F).length : Int) < (((am_tF F).length + 0 : Nat) : Int); omega)] at r2
      exact r2
    | some u =>
      have := am_sz_pos u.1
      rw [if_pos (by rw [List.length_append]; show ((am_tF F).length : Int) < (((am_tF F).length + (am_lay u.1).length : Nat) : Int); rw [am_lay_len]; omega)] at r2
      exact r2
  · cases now with
    | none =>
      rw [if_neg (by rw [List.length_append]; show ¬ ((am_tF F).length : Int) < (((am_tF F).length + 0 : Nat) : Int); omega)] at p2
      exact p2
    | some u =>
      have hp := am_sz_pos u.1
      have hu2 := (ho u rfl).2
      rw [if_pos (by rw [List.length_append]; show ((am_tF F).length : Int) < (((am_tF F).length + (am_lay u.1).length : Nat) : Int); rw [am_lay_len]; omega)] at p2
      have e : (am_cp (some u) 0 pl ++ [i]).headD 0 = u.2.headD 0 := am_hd_app (P := u.2) (by omega)
      rw [e] at p2
      exact p2
theorem do_open {d : Nat} {n : am_N} {X : Nat × (Nat → Int32)} {S : am_St} {Q : Option Value → am_N → am_M → Prop} {c p : Int} {m : Nat} (hd : 2 ≤ d) (c0 : 0 ≤ c) (c1 : c < 256) (h16 : S 52 16 = m) (hm : m < 100) (h9 : 0 ≤ S 52 9) (h9' : S 52 9 < 256) (hQ : ∀ (S' : am_St), (∀ h, (h < 52 ∨ 62 < h) → S' h = S h) → S' 53 = S 53 → S' 54 = S 54 → S' 55 = S 55 → S' 56 = S 56 → (∀ h, 57 ≤ h → h ≤ 62 → ∀ j, j ≠ (m : Int) → S' h j = S h j) → S' 57 m = c → S' 58 m = S 52 9 → S' 59 m = p → S' 60 m = S 53 1 → S' 61 m = S 52 7 → S' 62 m = S 52 5 → S' 52 16 = m + 1 → S' 52 7 = S 53 1 → S' 52 6 = 0 → S' 52 5 = S 52 5 → S' 52 8 = S 52 8 → S' 52 9 = S 52 9 → Q none n (am_m X S')) : am_Do d 99 [.ref 52, .int (am_z c), .int (am_z p)] n (am_m X S) Q := by
  rw [in_99 (by omega)]
  simp (disch := first | omega | exact am_fit_z0 | exact am_fit_z1 | (apply am_fit_zc <;> omega)) only [w99_0, w99_1, w99_4, w99_6, w99_9, w99_10, w99_13, w99_14, w99_17, w99_18, w99_19, w99_20, w99_23, w99_24, w99_27, w99_28, w99_31, w99_32, w99_33, w99_36, w99_37, w99_40, w99_41, w99_42, w99_43, w99_46, w99_47, w99_50, w99_51, w99_54, w99_57, w99_58, w99_59, w99_62, w99_63, w99_66, w99_67, w99_70, w99_71, w99_72, w99_75, w99_76, w99_79, w99_80, w99_83, w99_84, w99_85, w99_85i, w99_86, w99_89, w99_90, w99_91, w99_94, w99_95, w99_98, am_fit_i, am_isR, am_okA, exists_eq_left', exists_eq_left, Option.some.injEq, true_and, and_true, List.length_cons, List.length_nil, List.drop_succ_cons, List.drop_zero, List.all_cons, List.all_nil, am_c1, Bool.and_true, Bool.true_and, Bool.and_self, decide_true, decide_false, if_true, if_false, beq_self_eq_true, Nat.reduceAdd, Nat.reduceLeDiff, Nat.reduceLT, Nat.reduceEqDiff, Nat.reduceSub, ite_true, ite_false, and_self, eq_self, am_z_add, am_z_sub, am_z_mul, Int.reduceAdd, Int.reduceSub, Int.reduceMul, Int.reduceLT, Int.reduceLE, Int.reduceEq, Int.reduceNeg, am_then_i, am_then_r, am_then_v, Nat.add_eq, Nat.zero_add, Nat.add_zero, am_fit_z0, am_fit_z1, am_fit_zc, ↓reduceIte, am_lt_T, am_lt_F, am_le_T, am_le_F, am_eq_T, am_eq_F, am_z_lt, am_z_le, am_z_eq, am_z_char, am_set_se, am_set_sk, am_set_sh, o_52, f_52_0, f_52_1, f_52_2, f_52_3, f_52_4, f_52_5, s_52_5, f_52_6, s_52_6, f_52_7, s_52_7, f_52_8, s_52_8, f_52_9, s_52_9, f_52_10, f_52_11, f_52_12, f_52_13, f_52_14, f_52_15, f_52_16, s_52_16, l_55, t_55, l_56, t_56, l_57, t_57, l_58, t_58, l_59, t_59, l_60, t_60, l_61, t_61, l_62, t_62, o_2, f_2_0, s_2_0, f_2_1, s_2_1, o_8, f_8_0, f_8_1, f_8_2, f_8_3, s_8_3, l_11, t_11, rw_f0 r_53, rw_f1 r_53, rw_f2 r_53, rw_s1 r_53, rw_o r_53, am_ald_m r_53.2, am_ast_m r_53.2, h16, do_beginTerm]
  refine hQ _ ?_ ?_ ?_ ?_ ?_ ?_ ?_ ?_ ?_ ?_ ?_ ?_ ?_ ?_ ?_ ?_ ?_ ?_
  · intro h hh
    simp (disch := omega) only [am_set_sh]
  · simp (disch := omega) only [am_set_sh]
  · simp (disch := omega) only [am_set_sh]
  · simp (disch := omega) only [am_set_sh]
  · simp (disch := omega) only [am_set_sh]
  · intro h p1 p2 j hj
    simp only [am_set_at]
    simp only [show ¬ (j = (m : Int)) from hj, and_false, if_false]
    simp only [show ¬ h = 52 by omega, false_and, if_false]
  · simp (disch := omega) only [am_set_sh, am_set_se, am_set_sk]
  · simp (disch := omega) only [am_set_sh, am_set_se, am_set_sk]
  · simp (disch := omega) only [am_set_sh, am_set_se, am_set_sk]
  · simp (disch := omega) only [am_set_sh, am_set_se, am_set_sk]
  · simp (disch := omega) only [am_set_sh, am_set_se, am_set_sk]
  · simp (disch := omega) only [am_set_sh, am_set_se, am_set_sk]
  · simp (disch := omega) only [am_set_sh, am_set_se, am_set_sk]
  · simp (disch := omega) only [am_set_sh, am_set_se, am_set_sk]
  · simp (disch := omega) only [am_set_sh, am_set_se, am_set_sk]
  · simp (disch := omega) only [am_set_sh, am_set_se, am_set_sk]
  · simp (disch := omega) only [am_set_sh, am_set_se, am_set_sk]
  · simp (disch := omega) only [am_set_sh, am_set_se, am_set_sk]
