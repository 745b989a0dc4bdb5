theorem am_iv_le {tl : Nat → Bool} {i i' : Int} {st : am_Re} (h : am_iv tl i st) (hi : i ≤ i') : am_iv tl i' st := by
  by_cases e : i = i'
  · subst e
    exact h
  · obtain ⟨F, now, md, k, pl, lt, lone⟩ := st
    obtain ⟨a1, a2, a3, a4, a5, a6, a7, a8, a9, a10, a11, a12⟩ := h
    exact ⟨a1, a2, a3, a4, by omega, by omega, by omega, a8, by omega, fun _ q => absurd q (by omega), a11, a12⟩
theorem am_nb_drop : ∀ {cs : List Int}, am_nb (cs.drop (am_nb cs)) = 0
  | [] => rfl
  | c :: cs => by
    by_cases h : c = 32
    · have e : am_nb (c :: cs) = am_nb cs + 1 := if_pos h
      rw [e, List.drop_succ_cons]
      exact am_nb_drop
    · have e : am_nb (c :: cs) = 0 := if_neg h
      rw [e, List.drop_zero, e]
theorem am_ato_0 {tl : Nat → Bool} {B : List Int} {c : Int} (h : am_ato c = 0) (h45 : 0 ≤ c) : am_tok tl B c = .error (-2) := by
  unfold am_ato at h
  split at h
  · omega
  · split at h
    · omega
    · split at h
      · omega
      · split at h
        · omega
        · split at h
          · omega
          · split at h
            · omega
            · unfold am_tok
              rw [if_neg (by omega), if_neg (by omega), if_neg (by omega), if_neg (by omega), if_neg (by omega), if_neg (by omega)]
def am_tls (S : am_St) (tl : Nat → Bool) : Prop := ∀ k : Nat, k < 8 → (tl k = true → S 184 k ≠ 0) ∧ (¬ tl k = true → S 184 k = 0) ∧ 0 ≤ S 184 k ∧ S 184 k ≤ 81
/-- the rest of a reading -/
def am_rr2 (tl : Nat → Bool) (L : Int) (cs : List Int) (i : Int) (st : am_Re) : Except (Int × Int) am_U := match am_rdl tl cs i st with
  | .error e => .error e
  | .ok st' => am_fin2 L st'
theorem am_rr2_skip {tl : Nat → Bool} {L i : Int} {cs : List Int} {st : am_Re} : am_rr2 tl L cs i st = am_rr2 tl L (cs.drop (am_nb cs)) (i + am_nb cs) st := by
  unfold am_rr2
  rw [am_rdl_skip]
theorem am_rr2_step {tl : Nat → Bool} {L i c : Int} {cs : List Int} {st st' : am_Re} (hc : c ≠ 32) (h : am_tk tl st c i = .ok st') : am_rr2 tl L (c :: cs) i st = am_rr2 tl L cs (i + 1) st' := by
  unfold am_rr2
  have e : am_rdl tl (c :: cs) i st = (match am_tk tl st c i with
    | .error e => .error e
    | .ok st' => am_rdl tl cs (i + 1) st') := if_neg hc
  rw [e, h]
theorem am_rr2_err {tl : Nat → Bool} {L i c : Int} {cs : List Int} {st : am_Re} {e : Int × Int} (hc : c ≠ 32) (h : am_tk tl st c i = .error e) : am_rr2 tl L (c :: cs) i st = .error e := by
  unfold am_rr2
  have e : am_rdl tl (c :: cs) i st = (match am_tk tl st c i with
    | .error e => .error e
    | .ok st' => am_rdl tl cs (i + 1) st') := if_neg hc
  rw [e, h]
theorem do_joinR_n {d : Nat} {n : am_N} {X : Nat × (Nat → Int32)} {S : am_St} {Q : Option Value → am_N → am_M → Prop} {x y : Int} (hd : 1 ≤ d) (hx : x = -1) : am_Do d 34 [.ref 179, .int (am_z x), .int (am_z y)] n (am_m X S) Q = Q (some (.int (am_z y))) n (am_m X S) := by
  subst hx
  rw [in_34 (by omega)]
  simp (disch := first | omega | exact am_fit_z0 | exact am_fit_z1 | (apply am_fit_zc <;> omega)) only [w34_0, w34_1, w34_4, w34_5, w34_8, w34_9, w34_10, w34_11, w34_12, w34_13, w34_16, w34_17, w34_18, w34_21, am_fit_i, am_isR, am_okA, exists_eq_left', exists_eq_left, Option.some.injEq, true_and, and_true, List.length_cons, List.length_nil, List.drop_succ_cons, List.drop_zero, List.all_cons, List.all_nil, am_c1, Bool.and_true, Bool.true_and, Bool.and_self, decide_true, decide_false, if_true, if_false, beq_self_eq_true, Nat.reduceAdd, Nat.reduceLeDiff, Nat.reduceLT, Nat.reduceEqDiff, Nat.reduceSub, ite_true, ite_false, and_self, eq_self, am_z_add, am_z_sub, am_z_mul, Int.reduceAdd, Int.reduceSub, Int.reduceMul, Int.reduceLT, Int.reduceLE, Int.reduceEq, Int.reduceNeg, am_then_i, am_then_r, am_then_v, Nat.add_eq, Nat.zero_add, Nat.add_zero, am_fit_z0, am_fit_z1, am_fit_zc, ↓reduceIte, am_lt_T, am_lt_F, am_le_T, am_le_F, am_eq_T, am_eq_F, am_z_lt, am_z_le, am_z_eq, am_z_char, am_set_se, am_set_sk, am_set_sh, o_179, f_179_0, f_179_1, s_179_1, f_179_2, f_179_3, s_179_3, f_179_4, s_179_4, f_179_5, f_179_6, s_179_6, f_179_7, s_179_7, f_179_8, f_179_9, f_179_10, f_179_11, f_179_12, s_179_12, f_179_13, f_179_14, f_179_15, f_179_16, f_179_17, s_179_17, f_179_18, s_179_18, f_179_19, f_179_20, f_179_21, f_179_22, f_179_23, f_179_24, s_179_24, f_179_25, f_179_26, f_179_27, s_179_27, f_179_28, f_179_29, s_179_29, f_179_30, f_179_31, f_179_32, f_179_33, s_179_33, f_179_34, s_179_34, f_179_35, f_179_36, f_179_37, f_179_38, f_179_39, f_179_40, s_179_40, f_179_41, f_179_42, f_179_43, s_179_43, f_179_44, l_181, t_181, l_184, t_184, l_187, t_187, l_188, t_188, l_189, t_189, l_190, t_190, l_191, t_191, l_192, t_192, l_193, t_193, l_194, t_194, l_195, t_195, l_196, t_196]
theorem do_joinR_s {d : Nat} {n : am_N} {X : Nat × (Nat → Int32)} {S : am_St} {Q : Option Value → am_N → am_M → Prop} {x y : Int} (hd : 2 ≤ d) (x0 : 0 ≤ x) (x1 : x < 400) (h0 : 0 ≤ S 179 12) (h1 : S 179 12 < 400) : am_Do d 34 [.ref 179, .int (am_z x), .int (am_z y)] n (am_m X S) Q = Q (some (.int (am_z (S 179 12)))) n (am_m X (am_set (am_set (am_set (am_set (am_set S 187 (S 179 12) 1) 188 (S 179 12) x) 189 (S 179 12) y) 190 (S 179 12) (S 190 x)) 179 12 (S 179 12 + 1))) := by
  rw [in_34 (by omega)]
  simp (disch := first | omega | exact am_fit_z0 | exact am_fit_z1 | (apply am_fit_zc <;> omega)) only [w34_0, w34_1, w34_4, w34_5, w34_8, w34_9, w34_10, w34_11, w34_12, w34_13, w34_16, w34_17, w34_18, w34_21, am_fit_i, am_isR, am_okA, exists_eq_left', exists_eq_left, Option.some.injEq, true_and, and_true, List.length_cons, List.length_nil, List.drop_succ_cons, List.drop_zero, List.all_cons, List.all_nil, am_c1, Bool.and_true, Bool.true_and, Bool.and_self, decide_true, decide_false, if_true, if_false, beq_self_eq_true, Nat.reduceAdd, Nat.reduceLeDiff, Nat.reduceLT, Nat.reduceEqDiff, Nat.reduceSub, ite_true, ite_false, and_self, eq_self, am_z_add, am_z_sub, am_z_mul, Int.reduceAdd, Int.reduceSub, Int.reduceMul, Int.reduceLT, Int.reduceLE, Int.reduceEq, Int.reduceNeg, am_then_i, am_then_r, am_then_v, Nat.add_eq, Nat.zero_add, Nat.add_zero, am_fit_z0, am_fit_z1, am_fit_zc, ↓reduceIte, am_lt_T, am_lt_F, am_le_T, am_le_F, am_eq_T, am_eq_F, am_z_lt, am_z_le, am_z_eq, am_z_char, am_set_se, am_set_sk, am_set_sh, o_179, f_179_0, f_179_1, s_179_1, f_179_2, f_179_3, s_179_3, f_179_4, s_179_4, f_179_5, f_179_6, s_179_6, f_179_7, s_179_7, f_179_8, f_179_9, f_179_10, f_179_11, f_179_12, s_179_12, f_179_13, f_179_14, f_179_15, f_179_16, f_179_17, s_179_17, f_179_18, s_179_18, f_179_19, f_179_20, f_179_21, f_179_22, f_179_23, f_179_24, s_179_24, f_179_25, f_179_26, f_179_27, s_179_27, f_179_28, f_179_29, s_179_29, f_179_30, f_179_31, f_179_32, f_179_33, s_179_33, f_179_34, s_179_34, f_179_35, f_179_36, f_179_37, f_179_38, f_179_39, f_179_40, s_179_40, f_179_41, f_179_42, f_179_43, s_179_43, f_179_44, l_181, t_181, l_184, t_184, l_187, t_187, l_188, t_188, l_189, t_189, l_190, t_190, l_191, t_191, l_192, t_192, l_193, t_193, l_194, t_194, l_195, t_195, l_196, t_196, do_addPR]
def am_jo (S : am_St) (lo x : Int) (o : Option am_U) : Prop := match o with
  | none => x = -1
  | some w => x < S 179 12 ∧ am_rq S lo x w.1 w.2 ∧ w.2.length = am_sz w.1
theorem rr_join {d : Nat} {n : am_N} {X : Nat × (Nat → Int32)} {S : am_St} {Q : Option Value → am_N → am_M → Prop} {F : List am_Fr} {o : Option am_U} {v : am_U} {x y lo lo2 : Int} (hd : 2 ≤ d) (h12 : S 179 12 < 400) (hF : am_rF S F lo) (hlo : lo ≤ lo2) (hlo2 : lo2 ≤ S 179 12) (hy : y < S 179 12) (rv : am_rq S lo2 y v.1 v.2) (ho : am_jo S lo x o) (hQ : ∀ (S' : am_St) x', am_fk [12] [187, 188, 189, 190] S S' → am_rF S' F lo → lo ≤ S' 179 12 → x' < S' 179 12 → am_rq S' lo x' (am_jn o v).1 (am_jn o v).2 → S' 179 12 ≤ S 179 12 + am_nl o → (o = none → S' 179 12 = S 179 12) → S' 179 12 ≤ S 179 12 + 1 → Q (some (.int (am_z x'))) n (am_m X S')) : am_Do d 34 [.ref 179, .int (am_z x), .int (am_z y)] n (am_m X S) Q := by
  have l0 := am_rF_0 hF
  cases o with
  | none =>
    rw [do_joinR_n (by omega) ho]
    exact hQ S y am_fk_rfl hF (by omega) hy (am_rq_lo hlo rv) (by show S 179 12 ≤ S 179 12 + 0; omega) (fun _ => rfl) (by omega)
  | some w =>
    obtain ⟨o1, o2, o3⟩ := ho
    have px := am_rq_p o2
    rw [do_joinR_s (by omega) (by omega) px.2.1 (by omega) h12]
    have rN := am_pt_pair (p := S 190 x) (k := 0) h12 o1 hy o2 (am_rq_lo hlo rv) o3
    have nN := am_pt_new (S := S) (w := 1) (a := x) (b := y) (p := S 190 x)
    have oN := am_pt_old (S := S) (w := 1) (a := x) (b := y) (p := S 190 x)
    have fN := am_pt_fk (S := S) (w := 1) (a := x) (b := y) (p := S 190 x)
    refine hQ _ (S 179 12) fN ?_ (by rw [nN.2.2.2.2]; omega) (by rw [nN.2.2.2.2]; omega) ?_ ?_ (fun q => by cases q) (by rw [nN.2.2.2.2]; omega)
    · refine am_rF_fr (fun h q1 q2 j _ _ => ?_) (fun h q1 q2 j j0 j1 => oN h q1 q2 j (by omega)) hF
      rw [fN.1 h (by omega) (by simp only [List.mem_cons, List.not_mem_nil, or_false]; omega)]
    · show am_rq _ lo (S 179 12) (.branch 0 w.1 v.1) (w.2.headD 0 :: (w.2 ++ v.2))
      rw [px.2.2.1]
      exact rN
    · rw [nN.2.2.2.2]
      show S 179 12 + 1 ≤ S 179 12 + (am_sz w.1 : Int)
      have := am_sz_pos w.1
      omega
