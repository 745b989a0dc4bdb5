/-- the reference's row: a tree, or more than 80 -/
def am_rs (S : am_St) (o : Option am_T) : Prop := match o with
  | some t => S 179 27 = am_sz t ∧ am_sz t ≤ 80 ∧ am_sg (S 197) 0 (am_lay (am_en t))
  | none => 80 < S 179 27 ∧ S 179 27 ≤ 1000
theorem am_rs_fr {S S' : am_St} {o : Option am_T} (h : am_rs S o) (h1 : S' 179 27 = S 179 27) (h2 : S' 197 = S 197) : am_rs S' o := by
  cases o with
  | none =>
    show 80 < S' 179 27 ∧ S' 179 27 ≤ 1000
    rw [h1]
    exact h
  | some t =>
    show S' 179 27 = am_sz t ∧ am_sz t ≤ 80 ∧ am_sg (S' 197) 0 (am_lay (am_en t))
    rw [h1, h2]
    exact h
theorem am_cut_of {S : am_St} {t s : am_T} {A B : List Int} (h : am_rs S (some t)) (hg : am_gd t) (gs : am_gd s) (e : am_lay t = A ++ (am_lay s ++ B)) : am_cut S A s B := by
  obtain ⟨h1, h2, h3⟩ := h
  have el := congrArg List.length e
  rw [List.length_append, List.length_append, am_lay_len, am_lay_len] at el
  rw [am_lay_en hg, e, List.map_append, List.map_append, am_sg_app, am_sg_app, List.length_map, List.length_map, am_lay_len, Int.zero_add, ← am_lay_en gs] at h3
  exact ⟨by omega, by omega, h3.1, ⟨by omega, by omega, h3.2.1⟩, h3.2.2⟩
theorem ss_loop {d : Nat} {n : am_N} {X : Nat × (Nat → Int32)} {S : am_St} {Q : Option Value → am_N → am_M → Prop} {NM : Nat → Option am_T} {v1 : Value} (hd : 5 ≤ d) (hz : S 179 27 ≤ 1000) : ∀ {t : am_T} {i : Int}, am_ts S i t → am_gd t → i + am_sz t ≤ S 179 27 → (∀ A s B, am_fr NM t = some (A, s, B) → am_AW d 45 (22, [.ref 179, v1, .int (am_z 0), .int (am_z (i + A.length))], [], n, am_m X S) Q) → (am_fr NM t = none → am_AW d 45 (22, [.ref 179, v1, .int (am_z 0), .int (am_z (i + am_sz t))], [], n, am_m X S) Q) → am_AW d 45 (22, [.ref 179, v1, .int (am_z 0), .int (am_z i)], [], n, am_m X S) Q
  | .leaf z, i, ht, hg, hi, hY, hN => by
    have i0 := ht.1
    have sp : am_sz (.leaf z : am_T) = 1 := rfl
    cases e : am_rd NM (.leaf z) with
    | some u =>
      have := hY [] (.leaf z) [] (by unfold am_fr; rw [e]; rfl)
      rw [List.length_nil, Int.natCast_zero, Int.add_zero] at this
      exact this
    | none =>
      have h := hN (by unfold am_fr; rw [e]; rfl)
      rw [w45_22]
      simp (disch := first | omega | exact am_fit_z0 | exact am_fit_z1 | (apply am_fit_zc <;> omega)) only [w45_0, w45_1, w45_2, w45_3, w45_6, w45_8, w45_11, w45_12, w45_13, w45_14, w45_15, w45_18, w45_19, w45_20, w45_21, w45_23, w45_24, w45_27, w45_30, w45_31, w45_34, w45_35, w45_36, w45_39, w45_40, w45_43, w45_46, w45_47, w45_50, w45_51, w45_52, w45_55, w45_56, w45_58, w45_61, w45_62, w45_63, w45_64, w45_65, w45_68, w45_70, w45_73, w45_75, w45_78, w45_79, w45_82, w45_85, w45_86, w45_87, w45_88, w45_89, w45_92, w45_95, w45_96, w45_98, w45_101, w45_102, w45_105, w45_106, w45_107, w45_110, w45_111, w45_112, w45_113, w45_116, w45_119, am_fit_i, am_isR, am_okA, exists_eq_left', exists_eq_left, Option.some.injEq, true_and, and_true, List.length_cons, List.length_nil, List.drop_succ_cons, List.drop_zero, List.all_cons, List.all_nil, am_c1, Bool.and_true, Bool.true_and, Bool.and_self, decide_true, decide_false, if_true, if_false, beq_self_eq_true, Nat.reduceAdd, Nat.reduceLeDiff, Nat.reduceLT, Nat.reduceEqDiff, Nat.reduceSub, ite_true, ite_false, and_self, eq_self, am_z_add, am_z_sub, am_z_mul, Int.reduceAdd, Int.reduceSub, Int.reduceMul, Int.reduceLT, Int.reduceLE, Int.reduceEq, Int.reduceNeg, am_then_i, am_then_r, am_then_v, Nat.add_eq, Nat.zero_add, Nat.add_zero, am_fit_z0, am_fit_z1, am_fit_zc, ↓reduceIte, am_lt_T, am_lt_F, am_le_T, am_le_F, am_eq_T, am_eq_F, am_z_lt, am_z_le, am_z_eq, am_z_char, am_set_se, am_set_sk, am_set_sh, do_step_no (NM := NM) (by omega) ht hg e, o_179, f_179_0, f_179_1, s_179_1, f_179_2, f_179_3, s_179_3, f_179_4, s_179_4, f_179_5, f_179_6, s_179_6, f_179_7, s_179_7, f_179_8, f_179_9, f_179_10, f_179_11, f_179_12, s_179_12, f_179_13, f_179_14, f_179_15, f_179_16, f_179_17, s_179_17, f_179_18, s_179_18, f_179_19, f_179_20, f_179_21, f_179_22, f_179_23, f_179_24, s_179_24, f_179_25, f_179_26, f_179_27, s_179_27, f_179_28, f_179_29, s_179_29, f_179_30, f_179_31, f_179_32, f_179_33, s_179_33, f_179_34, s_179_34, f_179_35, f_179_36, f_179_37, f_179_38, f_179_39, f_179_40, s_179_40, f_179_41, f_179_42, f_179_43, s_179_43, f_179_44, l_183, t_183, l_184, t_184, l_197, t_197, l_198, t_198, l_199, t_199, l_200, t_200, l_201, t_201]
      exact h
  | .branch k a b, i, ht, hg, hi, hY, hN => by
    have i0 := ht.1
    have ssz : am_sz (.branch k a b : am_T) = am_sz a + am_sz b + 1 := rfl
    have sa := am_sz_pos a
    have sb := am_sz_pos b
    cases e : am_rd NM (.branch k a b) with
    | some u =>
      have := hY [] (.branch k a b) [] (by unfold am_fr; rw [e]; rfl)
      rw [List.length_nil, Int.natCast_zero, Int.add_zero] at this
      exact this
    | none =>
      have ef : am_fr NM (.branch k a b) = (match am_fr NM a with
        | some (A, s, B) => some ((k : Int) :: A, s, B ++ am_lay b)
        | none => match am_fr NM b with
          | some (A, s, B) => some ((k : Int) :: (am_lay a ++ A), s, B)
          | none => none) := by
        conv => lhs; unfold am_fr
        rw [e]
        rfl
      rw [ef] at hY hN
      rw [w45_22]
      simp (disch := first | omega | exact am_fit_z0 | exact am_fit_z1 | (apply am_fit_zc <;> omega)) only [w45_0, w45_1, w45_2, w45_3, w45_6, w45_8, w45_11, w45_12, w45_13, w45_14, w45_15, w45_18, w45_19, w45_20, w45_21, w45_23, w45_24, w45_27, w45_30, w45_31, w45_34, w45_35, w45_36, w45_39, w45_40, w45_43, w45_46, w45_47, w45_50, w45_51, w45_52, w45_55, w45_56, w45_58, w45_61, w45_62, w45_63, w45_64, w45_65, w45_68, w45_70, w45_73, w45_75, w45_78, w45_79, w45_82, w45_85, w45_86, w45_87, w45_88, w45_89, w45_92, w45_95, w45_96, w45_98, w45_101, w45_102, w45_105, w45_106, w45_107, w45_110, w45_111, w45_112, w45_113, w45_116, w45_119, am_fit_i, am_isR, am_okA, exists_eq_left', exists_eq_left, Option.some.injEq, true_and, and_true, List.length_cons, List.length_nil, List.drop_succ_cons, List.drop_zero, List.all_cons, List.all_nil, am_c1, Bool.and_true, Bool.true_and, Bool.and_self, decide_true, decide_false, if_true, if_false, beq_self_eq_true, Nat.reduceAdd, Nat.reduceLeDiff, Nat.reduceLT, Nat.reduceEqDiff, Nat.reduceSub, ite_true, ite_false, and_self, eq_self, am_z_add, am_z_sub, am_z_mul, Int.reduceAdd, Int.reduceSub, Int.reduceMul, Int.reduceLT, Int.reduceLE, Int.reduceEq, Int.reduceNeg, am_then_i, am_then_r, am_then_v, Nat.add_eq, Nat.zero_add, Nat.add_zero, am_fit_z0, am_fit_z1, am_fit_zc, ↓reduceIte, am_lt_T, am_lt_F, am_le_T, am_le_F, am_eq_T, am_eq_F, am_z_lt, am_z_le, am_z_eq, am_z_char, am_set_se, am_set_sk, am_set_sh, do_step_no (NM := NM) (by omega) ht hg e, o_179, f_179_0, f_179_1, s_179_1, f_179_2, f_179_3, s_179_3, f_179_4, s_179_4, f_179_5, f_179_6, s_179_6, f_179_7, s_179_7, f_179_8, f_179_9, f_179_10, f_179_11, f_179_12, s_179_12, f_179_13, f_179_14, f_179_15, f_179_16, f_179_17, s_179_17, f_179_18, s_179_18, f_179_19, f_179_20, f_179_21, f_179_22, f_179_23, f_179_24, s_179_24, f_179_25, f_179_26, f_179_27, s_179_27, f_179_28, f_179_29, s_179_29, f_179_30, f_179_31, f_179_32, f_179_33, s_179_33, f_179_34, s_179_34, f_179_35, f_179_36, f_179_37, f_179_38, f_179_39, f_179_40, s_179_40, f_179_41, f_179_42, f_179_43, s_179_43, f_179_44, l_183, t_183, l_184, t_184, l_197, t_197, l_198, t_198, l_199, t_199, l_200, t_200, l_201, t_201]
      obtain ⟨-, ta, tb⟩ := am_ts_branch ht
      refine ss_loop (NM := NM) hd hz ta hg.2.1 (by omega) (fun A s B hA => ?_) (fun hA => ?_)
      · rw [hA] at hY
        have := hY _ _ _ rfl
        rw [List.length_cons, show i + ((A.length + 1 : Nat) : Int) = i + 1 + A.length by omega] at this
        exact this
      · rw [hA] at hY hN
        refine ss_loop (NM := NM) hd hz tb hg.2.2 (by omega) (fun A s B hA => ?_) (fun hA => ?_)
        · rw [hA] at hY
          have := hY _ _ _ rfl
          rw [List.length_cons, List.length_append, am_lay_len, show i + ((am_sz a + A.length + 1 : Nat) : Int) = i + 1 + am_sz a + A.length by omega] at this
          exact this
        · rw [hA] at hN
          have := hN rfl
          rw [ssz, show i + ((am_sz a + am_sz b + 1 : Nat) : Int) = i + 1 + am_sz a + am_sz b by omega] at this
          exact this
theorem do_step_yes {d : Nat} {n : am_N} {X : Nat × (Nat → Int32)} {S : am_St} {Q : Option Value → am_N → am_M → Prop} {tl : Nat → Bool} {NM : Nat → Option am_T} {K : Nat} {t : am_T} {A B : List Int} {s : am_T} (hd : 9 ≤ d) (hr : am_rs S (some t)) (wt : am_wf tl K t) (hK : K ≤ 700) (hN : am_nmr S tl NM) (h8 : ∀ k, tl k = true → k < 8) (ho : am_ot S []) (hf : am_fr NM t = some (A, s, B)) (hQ : ∀ (S' : am_St) v l, am_fk [29, 33] [198, 199, 200, 201] S S' → am_sp NM t = some v → am_ot S' l → S' 179 29 ≤ 1790 → (v.bind am_cap = none → 80 < l.length) → (∀ x, v.bind am_cap = some x → l = am_lay (am_en x)) → Q (some (.int (am_z 1))) n (am_m X S')) : am_Do d 44 [.ref 179, .int (am_z A.length)] n (am_m X S) Q := by
  have s80 := hr.2.1
  obtain ⟨hl, u, hu, v, hv, h0, h1⟩ := am_fr_some hf
  obtain ⟨K', hK', ws⟩ := am_fr_wf hf wt
  have gt := am_wf_gd wt (by omega)
  have gs := am_wf_gd ws (by omega)
  have hc := am_cut_of hr gt gs hl
  have hcl : am_nc tl NM := fun k t hk ht => ((hN k (h8 k hk) hk).1 t ht).1
  have fin : ∀ w, u = some w → ∀ (S' : am_St), am_fk [29, 33] [198, 199, 200, 201] S S' → am_ot S' (A.map am_et ++ (am_lay (am_en w) ++ B.map am_et)) → S' 179 29 ≤ 1790 → Q (some (.int (am_z 1))) n (am_m X S') := by
    intro w hw S' f' o' z'
    obtain ⟨x, hx, hlx⟩ := h1 w hw
    have ww := am_wf_rd hcl ws (hw ▸ hu)
    have ex := congrArg List.length hlx
    rw [List.length_append, List.length_append, am_lay_len, am_lay_len] at ex
    have lx : (A.map am_et ++ (am_lay (am_en w) ++ B.map am_et)).length = am_sz x := by
      simp only [List.length_append, List.length_map, am_lay_len, am_sz_en]
      omega
    refine hQ S' v _ f' hv o' z' (fun q => ?_) (fun y hy => ?_)
    · rw [lx]
      rw [hx] at q
      have q2 : am_cap x = none := q
      unfold am_cap at q2
      split at q2
      · cases q2
      · omega
    · rw [hx] at hy
      obtain ⟨rfl, hz⟩ := am_cap_some (show am_cap x = some y from hy)
      have wx := am_wf_sp hcl wt (hx ▸ hv)
      rw [am_lay_en (am_wf_gd wx (by omega)), hlx, List.map_append, List.map_append, ← am_lay_en (am_wf_gd ww (by omega))]
  rcases am_rd_cases hu with ⟨z, hs, z0, z1, hz⟩ | ⟨C, D, E, hs, he⟩ | ⟨P, Z, F, hs, he⟩ | ⟨P, Z, F, m, hs, he⟩
  · have hz2 : tl (z - 10).toNat = true := by
      rw [hs] at ws
      have ws' : (3 ≤ z ∧ z ≤ 8) ∨ (10 ≤ z ∧ z < 18 ∧ tl (z - 10).toNat = true) ∨ (50 ≤ z ∧ z < 50 + (K' : Int)) := ws
      rcases ws' with q | q | q
      · omega
      · exact q.2.2
      · omega
    refine do_step_name hd hc gs ho hN hs z0 z1 hz2 (fun S' l f' x1 x2 o' z' => ?_)
    cases hcc : NM (z - 10).toNat with
    | none =>
      rw [hcc] at hz
      refine hQ S' v _ f' hv o' z' (fun _ => ?_) (fun x hx => by rw [h0 hz] at hx; cases hx)
      have := x2 hcc
      rw [List.length_append, List.length_append]
      omega
    | some w =>
      have := x1 w hcc
      subst this
      exact fin w (hz.trans hcc) S' f' o' z'
  · exact do_step_call hd hc gs ho hs (fun S' f' o' z' => fin _ he S' f' o' z')
  · exact do_step_rec0 hd hc gs ho hs rfl (fun S' f' o' z' => fin _ he S' f' o' z')
  · exact do_step_rec1 hd hc gs ho hs rfl (fun S' f' o' z' => fin _ he S' f' o' z')
theorem sc_loop {d : Nat} {n : am_N} {X : Nat × (Nat → Int32)} {Q : Option Value → am_N → am_M → Prop} {v1 v2 : Value} {e : Int} (he : e ≤ 80) : ∀ (m : Nat) {k : Int} {S : am_St}, k + m = e → 0 ≤ k → e ≤ S 179 27 → S 179 27 ≤ 1000 → (e = 80 ∨ e = S 179 27) → (∀ (S' : am_St), am_f1 197 S S' → (∀ x, S' 197 x = if k ≤ x ∧ x < e then S 198 x else S 197 x) → am_AW d 45 (119, [.ref 179, v1, v2, .int (am_z e)], [], n, am_m X S') Q) → am_AW d 45 (87, [.ref 179, v1, v2, .int (am_z k)], [], n, am_m X S) Q
  | 0, k, S, hk, h0, h1, h2, h3, hQ => by
    have e1 : k = e := by omega
    subst e1
    rw [w45_87]
    by_cases c : k < S 179 27
    · simp (disch := first | omega | exact am_fit_z0 | exact am_fit_z1 | (apply am_fit_zc <;> omega)) only [w45_0, w45_1, w45_2, w45_3, w45_6, w45_8, w45_11, w45_12, w45_13, w45_14, w45_15, w45_18, w45_19, w45_20, w45_21, w45_22, w45_23, w45_24, w45_27, w45_30, w45_31, w45_34, w45_35, w45_36, w45_39, w45_40, w45_43, w45_46, w45_47, w45_50, w45_51, w45_52, w45_55, w45_56, w45_58, w45_61, w45_62, w45_63, w45_64, w45_65, w45_68, w45_70, w45_73, w45_75, w45_78, w45_79, w45_82, w45_85, w45_86, w45_88, w45_89, w45_92, w45_95, w45_96, w45_98, w45_101, w45_102, w45_105, w45_106, w45_107, w45_110, w45_111, w45_112, w45_113, w45_116, am_fit_i, am_isR, am_okA, exists_eq_left', exists_eq_left, Option.some.injEq, true_and, and_true, List.length_cons, List.length_nil, List.drop_succ_cons, List.drop_zero, List.all_cons, List.all_nil, am_c1, Bool.and_true, Bool.true_and, Bool.and_self, decide_true, decide_false, if_true, if_false, beq_self_eq_true, Nat.reduceAdd, Nat.reduceLeDiff, Nat.reduceLT, Nat.reduceEqDiff, Nat.reduceSub, ite_true, ite_false, and_self, eq_self, am_z_add, am_z_sub, am_z_mul, Int.reduceAdd, Int.reduceSub, Int.reduceMul, Int.reduceLT, Int.reduceLE, Int.reduceEq, Int.reduceNeg, am_then_i, am_then_r, am_then_v, Nat.add_eq, Nat.zero_add, Nat.add_zero, am_fit_z0, am_fit_z1, am_fit_zc, ↓reduceIte, am_lt_T, am_lt_F, am_le_T, am_le_F, am_eq_T, am_eq_F, am_z_lt, am_z_le, am_z_eq, am_z_char, am_set_se, am_set_sk, am_set_sh, o_179, f_179_0, f_179_1, s_179_1, f_179_2, f_179_3, s_179_3, f_179_4, s_179_4, f_179_5, f_179_6, s_179_6, f_179_7, s_179_7, f_179_8, f_179_9, f_179_10, f_179_11, f_179_12, s_179_12, f_179_13, f_179_14, f_179_15, f_179_16, f_179_17, s_179_17, f_179_18, s_179_18, f_179_19, f_179_20, f_179_21, f_179_22, f_179_23, f_179_24, s_179_24, f_179_25, f_179_26, f_179_27, s_179_27, f_179_28, f_179_29, s_179_29, f_179_30, f_179_31, f_179_32, f_179_33, s_179_33, f_179_34, s_179_34, f_179_35, f_179_36, f_179_37, f_179_38, f_179_39, f_179_40, s_179_40, f_179_41, f_179_42, f_179_43, s_179_43, f_179_44, l_183, t_183, l_184, t_184, l_197, t_197, l_198, t_198, l_199, t_199, l_200, t_200, l_201, t_201]
      exact hQ S (fun _ _ => rfl) (fun x => by rw [if_neg (by omega)])
    · simp (disch := first | omega | exact am_fit_z0 | exact am_fit_z1 | (apply am_fit_zc <;> omega)) only [w45_0, w45_1, w45_2, w45_3, w45_6, w45_8, w45_11, w45_12, w45_13, w45_14, w45_15, w45_18, w45_19, w45_20, w45_21, w45_22, w45_23, w45_24, w45_27, w45_30, w45_31, w45_34, w45_35, w45_36, w45_39, w45_40, w45_43, w45_46, w45_47, w45_50, w45_51, w45_52, w45_55, w45_56, w45_58, w45_61, w45_62, w45_63, w45_64, w45_65, w45_68, w45_70, w45_73, w45_75, w45_78, w45_79, w45_82, w45_85, w45_86, w45_88, w45_89, w45_92, w45_95, w45_96, w45_98, w45_101, w45_102, w45_105, w45_106, w45_107, w45_110, w45_111, w45_112, w45_113, w45_116, am_fit_i, am_isR, am_okA, exists_eq_left', exists_eq_left, Option.some.injEq, true_and, and_true, List.length_cons, List.length_nil, List.drop_succ_cons, List.drop_zero, List.all_cons, List.all_nil, am_c1, Bool.and_true, Bool.true_and, Bool.and_self, decide_true, decide_false, if_true, if_false, beq_self_eq_true, Nat.reduceAdd, Nat.reduceLeDiff, Nat.reduceLT, Nat.reduceEqDiff, Nat.reduceSub, ite_true, ite_false, and_self, eq_self, am_z_add, am_z_sub, am_z_mul, Int.reduceAdd, Int.reduceSub, Int.reduceMul, Int.reduceLT, Int.reduceLE, Int.reduceEq, Int.reduceNeg, am_then_i, am_then_r, am_then_v, Nat.add_eq, Nat.zero_add, Nat.add_zero, am_fit_z0, am_fit_z1, am_fit_zc, ↓reduceIte, am_lt_T, am_lt_F, am_le_T, am_le_F, am_eq_T, am_eq_F, am_z_lt, am_z_le, am_z_eq, am_z_char, am_set_se, am_set_sk, am_set_sh, o_179, f_179_0, f_179_1, s_179_1, f_179_2, f_179_3, s_179_3, f_179_4, s_179_4, f_179_5, f_179_6, s_179_6, f_179_7, s_179_7, f_179_8, f_179_9, f_179_10, f_179_11, f_179_12, s_179_12, f_179_13, f_179_14, f_179_15, f_179_16, f_179_17, s_179_17, f_179_18, s_179_18, f_179_19, f_179_20, f_179_21, f_179_22, f_179_23, f_179_24, s_179_24, f_179_25, f_179_26, f_179_27, s_179_27, f_179_28, f_179_29, s_179_29, f_179_30, f_179_31, f_179_32, f_179_33, s_179_33, f_179_34, s_179_34, f_179_35, f_179_36, f_179_37, f_179_38, f_179_39, f_179_40, s_179_40, f_179_41, f_179_42, f_179_43, s_179_43, f_179_44, l_183, t_183, l_184, t_184, l_197, t_197, l_198, t_198, l_199, t_199, l_200, t_200, l_201, t_201]
      exact hQ S (fun _ _ => rfl) (fun x => by rw [if_neg (by omega)])
  | m + 1, k, S, hk, h0, h1, h2, h3, hQ => by
    rw [w45_87]
    simp (disch := first | omega | exact am_fit_z0 | exact am_fit_z1 | (apply am_fit_zc <;> omega)) only [w45_0, w45_1, w45_2, w45_3, w45_6, w45_8, w45_11, w45_12, w45_13, w45_14, w45_15, w45_18, w45_19, w45_20, w45_21, w45_22, w45_23, w45_24, w45_27, w45_30, w45_31, w45_34, w45_35, w45_36, w45_39, w45_40, w45_43, w45_46, w45_47, w45_50, w45_51, w45_52, w45_55, w45_56, w45_58, w45_61, w45_62, w45_63, w45_64, w45_65, w45_68, w45_70, w45_73, w45_75, w45_78, w45_79, w45_82, w45_85, w45_86, w45_88, w45_89, w45_92, w45_95, w45_96, w45_98, w45_101, w45_102, w45_105, w45_106, w45_107, w45_110, w45_111, w45_112, w45_113, w45_116, am_fit_i, am_isR, am_okA, exists_eq_left', exists_eq_left, Option.some.injEq, true_and, and_true, List.length_cons, List.length_nil, List.drop_succ_cons, List.drop_zero, List.all_cons, List.all_nil, am_c1, Bool.and_true, Bool.true_and, Bool.and_self, decide_true, decide_false, if_true, if_false, beq_self_eq_true, Nat.reduceAdd, Nat.reduceLeDiff, Nat.reduceLT, Nat.reduceEqDiff, Nat.reduceSub, ite_true, ite_false, and_self, eq_self, am_z_add, am_z_sub, am_z_mul, Int.reduceAdd, Int.reduceSub, Int.reduceMul, Int.reduceLT, Int.reduceLE, Int.reduceEq, Int.reduceNeg, am_then_i, am_then_r, am_then_v, Nat.add_eq, Nat.zero_add, Nat.add_zero, am_fit_z0, am_fit_z1, am_fit_zc, ↓reduceIte, am_lt_T, am_lt_F, am_le_T, am_le_F, am_eq_T, am_eq_F, am_z_lt, am_z_le, am_z_eq, am_z_char, am_set_se, am_set_sk, am_set_sh, o_179, f_179_0, f_179_1, s_179_1, f_179_2, f_179_3, s_179_3, f_179_4, s_179_4, f_179_5, f_179_6, s_179_6, f_179_7, s_179_7, f_179_8, f_179_9, f_179_10, f_179_11, f_179_12, s_179_12, f_179_13, f_179_14, f_179_15, f_179_16, f_179_17, s_179_17, f_179_18, s_179_18, f_179_19, f_179_20, f_179_21, f_179_22, f_179_23, f_179_24, s_179_24, f_179_25, f_179_26, f_179_27, s_179_27, f_179_28, f_179_29, s_179_29, f_179_30, f_179_31, f_179_32, f_179_33, s_179_33, f_179_34, s_179_34, f_179_35, f_179_36, f_179_37, f_179_38, f_179_39, f_179_40, s_179_40, f_179_41, f_179_42, f_179_43, s_179_43, f_179_44, l_183, t_183, l_184, t_184, l_197, t_197, l_198, t_198, l_199, t_199, l_200, t_200, l_201, t_201]
    refine sc_loop he m (k := k + 1) (by omega) (by omega) (by rw [am_set_sh (by omega)]; exact h1) (by rw [am_set_sh (by omega)]; exact h2) (by rw [am_set_sh (by omega)]; exact h3) (fun S1 f1 g1 => hQ S1 (fun h hh => by rw [f1 h hh, am_set_sh hh]) (fun x => ?_))
    rw [g1 x, am_set_sh (by omega)]
    by_cases c1 : k + 1 ≤ x ∧ x < e
    · rw [if_pos c1, if_pos (by omega)]
    · rw [if_neg c1, am_set_at]
      by_cases c2 : x = k
      · rw [if_pos ⟨rfl, c2⟩, if_pos (by omega), c2]
      · rw [if_neg (fun q => c2 q.2), if_neg (by omega)]
theorem se_loop {d : Nat} {n : am_N} {X : Nat × (Nat → Int32)} {Q : Option Value → am_N → am_M → Prop} {tl : Nat → Bool} {NM : Nat → Option am_T} {K : Nat} (hd : 10 ≤ d) (hK : K ≤ 700) (h8 : ∀ k, tl k = true → k < 8) : ∀ {k : Nat} {o : Option am_T} {st : Int} {v2 v3 : Value} {S : am_St}, 0 ≤ st → st + k = 60 → am_rs S o → (∀ t, o = some t → am_wf tl K t ∧ am_sz t ≤ 80) → am_nmr S tl NM → (∀ (S' : am_St) j u, am_fk [27, 29, 33] [197, 198, 199, 200, 201] S S' → am_nf NM k o = some (j, u) → am_rs S' (some u) → Q (some (.int (am_z (st + j)))) n (am_m X S')) → (∀ (S' : am_St), am_fk [27, 29, 33] [197, 198, 199, 200, 201] S S' → am_nf NM k o = none → Q (some (.int (am_z (-1)))) n (am_m X S')) → am_AW d 45 (2, [.ref 179, .int (am_z st), v2, v3], [], n, am_m X S) Q
  | k, none, st, v2, v3, S, s0, s1, hr, ho, hN, hY, hF => by
    obtain ⟨r1, r2⟩ := hr
    rw [w45_2]
    simp (disch := first | omega | exact am_fit_z0 | exact am_fit_z1 | (apply am_fit_zc <;> omega)) only [w45_0, w45_1, w45_3, w45_6, w45_8, w45_11, w45_12, w45_13, w45_14, w45_15, w45_18, w45_19, w45_20, w45_21, w45_23, w45_24, w45_27, w45_30, w45_31, w45_34, w45_35, w45_36, w45_39, w45_40, w45_43, w45_46, w45_47, w45_50, w45_51, w45_52, w45_55, w45_56, w45_58, w45_61, w45_62, w45_63, w45_64, w45_65, w45_68, w45_70, w45_73, w45_75, w45_78, w45_79, w45_82, w45_85, w45_86, w45_88, w45_89, w45_92, w45_95, w45_96, w45_98, w45_101, w45_102, w45_105, w45_106, w45_107, w45_110, w45_111, w45_112, w45_113, w45_116, w45_119, am_fit_i, am_isR, am_okA, exists_eq_left', exists_eq_left, Option.some.injEq, true_and, and_true, List.length_cons, List.length_nil, List.drop_succ_cons, List.drop_zero, List.all_cons, List.all_nil, am_c1, Bool.and_true, Bool.true_and, Bool.and_self, decide_true, decide_false, if_true, if_false, beq_self_eq_true, Nat.reduceAdd, Nat.reduceLeDiff, Nat.reduceLT, Nat.reduceEqDiff, Nat.reduceSub, ite_true, ite_false, and_self, eq_self, am_z_add, am_z_sub, am_z_mul, Int.reduceAdd, Int.reduceSub, Int.reduceMul, Int.reduceLT, Int.reduceLE, Int.reduceEq, Int.reduceNeg, am_then_i, am_then_r, am_then_v, Nat.add_eq, Nat.zero_add, Nat.add_zero, am_fit_z0, am_fit_z1, am_fit_zc, ↓reduceIte, am_lt_T, am_lt_F, am_le_T, am_le_F, am_eq_T, am_eq_F, am_z_lt, am_z_le, am_z_eq, am_z_char, am_set_se, am_set_sk, am_set_sh, o_179, f_179_0, f_179_1, s_179_1, f_179_2, f_179_3, s_179_3, f_179_4, s_179_4, f_179_5, f_179_6, s_179_6, f_179_7, s_179_7, f_179_8, f_179_9, f_179_10, f_179_11, f_179_12, s_179_12, f_179_13, f_179_14, f_179_15, f_179_16, f_179_17, s_179_17, f_179_18, s_179_18, f_179_19, f_179_20, f_179_21, f_179_22, f_179_23, f_179_24, s_179_24, f_179_25, f_179_26, f_179_27, s_179_27, f_179_28, f_179_29, s_179_29, f_179_30, f_179_31, f_179_32, f_179_33, s_179_33, f_179_34, s_179_34, f_179_35, f_179_36, f_179_37, f_179_38, f_179_39, f_179_40, s_179_40, f_179_41, f_179_42, f_179_43, s_179_43, f_179_44, l_183, t_183, l_184, t_184, l_197, t_197, l_198, t_198, l_199, t_199, l_200, t_200, l_201, t_201]
    exact hF S am_fk_rfl (by cases k <;> rfl)
  | k, some t, st, v2, v3, S, s0, s1, hr, ho, hN, hY, hF => by
    obtain ⟨wt, ht⟩ := ho t rfl
    have gt := am_wf_gd wt (by omega)
    have hr' := hr
    obtain ⟨r1, r2, r3⟩ := hr'
    rw [w45_2]
    simp (disch := first | omega | exact am_fit_z0 | exact am_fit_z1 | (apply am_fit_zc <;> omega)) only [w45_0, w45_1, w45_3, w45_6, w45_8, w45_11, w45_12, w45_13, w45_14, w45_15, w45_18, w45_19, w45_20, w45_21, w45_23, w45_24, w45_27, w45_30, w45_31, w45_34, w45_35, w45_36, w45_39, w45_40, w45_43, w45_46, w45_47, w45_50, w45_51, w45_52, w45_55, w45_56, w45_58, w45_61, w45_62, w45_63, w45_64, w45_65, w45_68, w45_70, w45_73, w45_75, w45_78, w45_79, w45_82, w45_85, w45_86, w45_88, w45_89, w45_92, w45_95, w45_96, w45_98, w45_101, w45_102, w45_105, w45_106, w45_107, w45_110, w45_111, w45_112, w45_113, w45_116, w45_119, am_fit_i, am_isR, am_okA, exists_eq_left', exists_eq_left, Option.some.injEq, true_and, and_true, List.length_cons, List.length_nil, List.drop_succ_cons, List.drop_zero, List.all_cons, List.all_nil, am_c1, Bool.and_true, Bool.true_and, Bool.and_self, decide_true, decide_false, if_true, if_false, beq_self_eq_true, Nat.reduceAdd, Nat.reduceLeDiff, Nat.reduceLT, Nat.reduceEqDiff, Nat.reduceSub, ite_true, ite_false, and_self, eq_self, am_z_add, am_z_sub, am_z_mul, Int.reduceAdd, Int.reduceSub, Int.reduceMul, Int.reduceLT, Int.reduceLE, Int.reduceEq, Int.reduceNeg, am_then_i, am_then_r, am_then_v, Nat.add_eq, Nat.zero_add, Nat.add_zero, am_fit_z0, am_fit_z1, am_fit_zc, ↓reduceIte, am_lt_T, am_lt_F, am_le_T, am_le_F, am_eq_T, am_eq_F, am_z_lt, am_z_le, am_z_eq, am_z_char, am_set_se, am_set_sk, am_set_sh, o_179, f_179_0, f_179_1, s_179_1, f_179_2, f_179_3, s_179_3, f_179_4, s_179_4, f_179_5, f_179_6, s_179_6, f_179_7, s_179_7, f_179_8, f_179_9, f_179_10, f_179_11, f_179_12, s_179_12, f_179_13, f_179_14, f_179_15, f_179_16, f_179_17, s_179_17, f_179_18, s_179_18, f_179_19, f_179_20, f_179_21, f_179_22, f_179_23, f_179_24, s_179_24, f_179_25, f_179_26, f_179_27, s_179_27, f_179_28, f_179_29, s_179_29, f_179_30, f_179_31, f_179_32, f_179_33, s_179_33, f_179_34, s_179_34, f_179_35, f_179_36, f_179_37, f_179_38, f_179_39, f_179_40, s_179_40, f_179_41, f_179_42, f_179_43, s_179_43, f_179_44, l_183, t_183, l_184, t_184, l_197, t_197, l_198, t_198, l_199, t_199, l_200, t_200, l_201, t_201]
    have e27 : am_set S 179 29 0 179 27 = S 179 27 := am_set_sk (by omega)
    have e197 : am_set S 179 29 0 197 = S 197 := am_set_sh (by omega)
    have f0 : am_fk [29] [] S (am_set S 179 29 0) := am_fk_set (by decide)
    have z0 : am_set S 179 29 0 179 29 = 0 := am_set_se
    have o0 : am_ot (am_set S 179 29 0) [] := ⟨by rw [z0]; omega, fun _ => by simp, fun _ => ⟨by rw [z0]; rfl, am_sg_nil⟩⟩
    generalize am_set S 179 29 0 = S0 at e27 e197 f0 z0 o0 ⊢
    refine ss_loop (NM := NM) (by omega) (by rw [e27]; omega) (t := t) ⟨Int.le_refl 0, by omega, by rw [e197]; exact r3⟩ gt (by rw [e27]; omega) (fun A s B hA => ?_) (fun hA => ?_)
    · have hAl : A.length < am_sz t := by
        have := congrArg List.length (am_fr_some hA).1
        rw [am_lay_len, List.length_append, List.length_append, am_lay_len] at this
        have := am_sz_pos s
        omega
      rw [Int.zero_add, w45_22]
      simp (disch := first | omega | exact am_fit_z0 | exact am_fit_z1 | (apply am_fit_zc <;> omega)) only [w45_0, w45_1, w45_3, w45_6, w45_8, w45_11, w45_12, w45_13, w45_14, w45_15, w45_18, w45_19, w45_20, w45_21, w45_23, w45_24, w45_27, w45_30, w45_31, w45_34, w45_35, w45_36, w45_39, w45_40, w45_43, w45_46, w45_47, w45_50, w45_51, w45_52, w45_55, w45_56, w45_58, w45_61, w45_62, w45_63, w45_64, w45_65, w45_68, w45_70, w45_73, w45_75, w45_78, w45_79, w45_82, w45_85, w45_86, w45_88, w45_89, w45_92, w45_95, w45_96, w45_98, w45_101, w45_102, w45_105, w45_106, w45_107, w45_110, w45_111, w45_112, w45_113, w45_116, w45_119, am_fit_i, am_isR, am_okA, exists_eq_left', exists_eq_left, Option.some.injEq, true_and, and_true, List.length_cons, List.length_nil, List.drop_succ_cons, List.drop_zero, List.all_cons, List.all_nil, am_c1, Bool.and_true, Bool.true_and, Bool.and_self, decide_true, decide_false, if_true, if_false, beq_self_eq_true, Nat.reduceAdd, Nat.reduceLeDiff, Nat.reduceLT, Nat.reduceEqDiff, Nat.reduceSub, ite_true, ite_false, and_self, eq_self, am_z_add, am_z_sub, am_z_mul, Int.reduceAdd, Int.reduceSub, Int.reduceMul, Int.reduceLT, Int.reduceLE, Int.reduceEq, Int.reduceNeg, am_then_i, am_then_r, am_then_v, Nat.add_eq, Nat.zero_add, Nat.add_zero, am_fit_z0, am_fit_z1, am_fit_zc, ↓reduceIte, am_lt_T, am_lt_F, am_le_T, am_le_F, am_eq_T, am_eq_F, am_z_lt, am_z_le, am_z_eq, am_z_char, am_set_se, am_set_sk, am_set_sh, e27, r1, o_179, f_179_0, f_179_1, s_179_1, f_179_2, f_179_3, s_179_3, f_179_4, s_179_4, f_179_5, f_179_6, s_179_6, f_179_7, s_179_7, f_179_8, f_179_9, f_179_10, f_179_11, f_179_12, s_179_12, f_179_13, f_179_14, f_179_15, f_179_16, f_179_17, s_179_17, f_179_18, s_179_18, f_179_19, f_179_20, f_179_21, f_179_22, f_179_23, f_179_24, s_179_24, f_179_25, f_179_26, f_179_27, s_179_27, f_179_28, f_179_29, s_179_29, f_179_30, f_179_31, f_179_32, f_179_33, s_179_33, f_179_34, s_179_34, f_179_35, f_179_36, f_179_37, f_179_38, f_179_39, f_179_40, s_179_40, f_179_41, f_179_42, f_179_43, s_179_43, f_179_44, l_183, t_183, l_184, t_184, l_197, t_197, l_198, t_198, l_199, t_199, l_200, t_200, l_201, t_201]
      refine do_step_yes (t := t) (by omega) (am_rs_fr hr e27 e197) wt hK (am_nmr_fr hN (f0.1 183 (by decide) (by decide)) (f0.1 184 (by decide) (by decide))) h8 o0 hA (fun S1 v l f1 hv o1 z1 l0 l1 => ?_)
      have q27 : S1 179 27 = am_sz t := by rw [f1.2 27 (by decide), e27, r1]
      simp (disch := first | omega | exact am_fit_z0 | exact am_fit_z1 | (apply am_fit_zc <;> omega)) only [w45_0, w45_1, w45_3, w45_6, w45_8, w45_11, w45_12, w45_13, w45_14, w45_15, w45_18, w45_19, w45_20, w45_21, w45_23, w45_24, w45_27, w45_30, w45_31, w45_34, w45_35, w45_36, w45_39, w45_40, w45_43, w45_46, w45_47, w45_50, w45_51, w45_52, w45_55, w45_56, w45_58, w45_61, w45_62, w45_63, w45_64, w45_65, w45_68, w45_70, w45_73, w45_75, w45_78, w45_79, w45_82, w45_85, w45_86, w45_88, w45_89, w45_92, w45_95, w45_96, w45_98, w45_101, w45_102, w45_105, w45_106, w45_107, w45_110, w45_111, w45_112, w45_113, w45_116, w45_119, am_fit_i, am_isR, am_okA, exists_eq_left', exists_eq_left, Option.some.injEq, true_and, and_true, List.length_cons, List.length_nil, List.drop_succ_cons, List.drop_zero, List.all_cons, List.all_nil, am_c1, Bool.and_true, Bool.true_and, Bool.and_self, decide_true, decide_false, if_true, if_false, beq_self_eq_true, Nat.reduceAdd, Nat.reduceLeDiff, Nat.reduceLT, Nat.reduceEqDiff, Nat.reduceSub, ite_true, ite_false, and_self, eq_self, am_z_add, am_z_sub, am_z_mul, Int.reduceAdd, Int.reduceSub, Int.reduceMul, Int.reduceLT, Int.reduceLE, Int.reduceEq, Int.reduceNeg, am_then_i, am_then_r, am_then_v, Nat.add_eq, Nat.zero_add, Nat.add_zero, am_fit_z0, am_fit_z1, am_fit_zc, ↓reduceIte, am_lt_T, am_lt_F, am_le_T, am_le_F, am_eq_T, am_eq_F, am_z_lt, am_z_le, am_z_eq, am_z_char, am_set_se, am_set_sk, am_set_sh, o_179, f_179_0, f_179_1, s_179_1, f_179_2, f_179_3, s_179_3, f_179_4, s_179_4, f_179_5, f_179_6, s_179_6, f_179_7, s_179_7, f_179_8, f_179_9, f_179_10, f_179_11, f_179_12, s_179_12, f_179_13, f_179_14, f_179_15, f_179_16, f_179_17, s_179_17, f_179_18, s_179_18, f_179_19, f_179_20, f_179_21, f_179_22, f_179_23, f_179_24, s_179_24, f_179_25, f_179_26, f_179_27, s_179_27, f_179_28, f_179_29, s_179_29, f_179_30, f_179_31, f_179_32, f_179_33, s_179_33, f_179_34, s_179_34, f_179_35, f_179_36, f_179_37, f_179_38, f_179_39, f_179_40, s_179_40, f_179_41, f_179_42, f_179_43, s_179_43, f_179_44, l_183, t_183, l_184, t_184, l_197, t_197, l_198, t_198, l_199, t_199, l_200, t_200, l_201, t_201]
      rw [w45_22]
      simp (disch := first | omega | exact am_fit_z0 | exact am_fit_z1 | (apply am_fit_zc <;> omega)) only [w45_0, w45_1, w45_3, w45_6, w45_8, w45_11, w45_12, w45_13, w45_14, w45_15, w45_18, w45_19, w45_20, w45_21, w45_23, w45_24, w45_27, w45_30, w45_31, w45_34, w45_35, w45_36, w45_39, w45_40, w45_43, w45_46, w45_47, w45_50, w45_51, w45_52, w45_55, w45_56, w45_58, w45_61, w45_62, w45_63, w45_64, w45_65, w45_68, w45_70, w45_73, w45_75, w45_78, w45_79, w45_82, w45_85, w45_86, w45_88, w45_89, w45_92, w45_95, w45_96, w45_98, w45_101, w45_102, w45_105, w45_106, w45_107, w45_110, w45_111, w45_112, w45_113, w45_116, w45_119, am_fit_i, am_isR, am_okA, exists_eq_left', exists_eq_left, Option.some.injEq, true_and, and_true, List.length_cons, List.length_nil, List.drop_succ_cons, List.drop_zero, List.all_cons, List.all_nil, am_c1, Bool.and_true, Bool.true_and, Bool.and_self, decide_true, decide_false, if_true, if_false, beq_self_eq_true, Nat.reduceAdd, Nat.reduceLeDiff, Nat.reduceLT, Nat.reduceEqDiff, Nat.reduceSub, ite_true, ite_false, and_self, eq_self, am_z_add, am_z_sub, am_z_mul, Int.reduceAdd, Int.reduceSub, Int.reduceMul, Int.reduceLT, Int.reduceLE, Int.reduceEq, Int.reduceNeg, am_then_i, am_then_r, am_then_v, Nat.add_eq, Nat.zero_add, Nat.add_zero, am_fit_z0, am_fit_z1, am_fit_zc, ↓reduceIte, am_lt_T, am_lt_F, am_le_T, am_le_F, am_eq_T, am_eq_F, am_z_lt, am_z_le, am_z_eq, am_z_char, am_set_se, am_set_sk, am_set_sh, o_179, f_179_0, f_179_1, s_179_1, f_179_2, f_179_3, s_179_3, f_179_4, s_179_4, f_179_5, f_179_6, s_179_6, f_179_7, s_179_7, f_179_8, f_179_9, f_179_10, f_179_11, f_179_12, s_179_12, f_179_13, f_179_14, f_179_15, f_179_16, f_179_17, s_179_17, f_179_18, s_179_18, f_179_19, f_179_20, f_179_21, f_179_22, f_179_23, f_179_24, s_179_24, f_179_25, f_179_26, f_179_27, s_179_27, f_179_28, f_179_29, s_179_29, f_179_30, f_179_31, f_179_32, f_179_33, s_179_33, f_179_34, s_179_34, f_179_35, f_179_36, f_179_37, f_179_38, f_179_39, f_179_40, s_179_40, f_179_41, f_179_42, f_179_43, s_179_43, f_179_44, l_183, t_183, l_184, t_184, l_197, t_197, l_198, t_198, l_199, t_199, l_200, t_200, l_201, t_201]
      cases k with
      | zero =>
        by_cases cq : (A.length : Int) + 1 < am_sz t
        all_goals sorry
      | succ k => sorry
    · rw [Int.zero_add, w45_22]
      simp (disch := first | omega | exact am_fit_z0 | exact am_fit_z1 | (apply am_fit_zc <;> omega)) only [w45_0, w45_1, w45_3, w45_6, w45_8, w45_11, w45_12, w45_13, w45_14, w45_15, w45_18, w45_19, w45_20, w45_21, w45_23, w45_24, w45_27, w45_30, w45_31, w45_34, w45_35, w45_36, w45_39, w45_40, w45_43, w45_46, w45_47, w45_50, w45_51, w45_52, w45_55, w45_56, w45_58, w45_61, w45_62, w45_63, w45_64, w45_65, w45_68, w45_70, w45_73, w45_75, w45_78, w45_79, w45_82, w45_85, w45_86, w45_88, w45_89, w45_92, w45_95, w45_96, w45_98, w45_101, w45_102, w45_105, w45_106, w45_107, w45_110, w45_111, w45_112, w45_113, w45_116, w45_119, am_fit_i, am_isR, am_okA, exists_eq_left', exists_eq_left, Option.some.injEq, true_and, and_true, List.length_cons, List.length_nil, List.drop_succ_cons, List.drop_zero, List.all_cons, List.all_nil, am_c1, Bool.and_true, Bool.true_and, Bool.and_self, decide_true, decide_false, if_true, if_false, beq_self_eq_true, Nat.reduceAdd, Nat.reduceLeDiff, Nat.reduceLT, Nat.reduceEqDiff, Nat.reduceSub, ite_true, ite_false, and_self, eq_self, am_z_add, am_z_sub, am_z_mul, Int.reduceAdd, Int.reduceSub, Int.reduceMul, Int.reduceLT, Int.reduceLE, Int.reduceEq, Int.reduceNeg, am_then_i, am_then_r, am_then_v, Nat.add_eq, Nat.zero_add, Nat.add_zero, am_fit_z0, am_fit_z1, am_fit_zc, ↓reduceIte, am_lt_T, am_lt_F, am_le_T, am_le_F, am_eq_T, am_eq_F, am_z_lt, am_z_le, am_z_eq, am_z_char, am_set_se, am_set_sk, am_set_sh, e27, r1, o_179, f_179_0, f_179_1, s_179_1, f_179_2, f_179_3, s_179_3, f_179_4, s_179_4, f_179_5, f_179_6, s_179_6, f_179_7, s_179_7, f_179_8, f_179_9, f_179_10, f_179_11, f_179_12, s_179_12, f_179_13, f_179_14, f_179_15, f_179_16, f_179_17, s_179_17, f_179_18, s_179_18, f_179_19, f_179_20, f_179_21, f_179_22, f_179_23, f_179_24, s_179_24, f_179_25, f_179_26, f_179_27, s_179_27, f_179_28, f_179_29, s_179_29, f_179_30, f_179_31, f_179_32, f_179_33, s_179_33, f_179_34, s_179_34, f_179_35, f_179_36, f_179_37, f_179_38, f_179_39, f_179_40, s_179_40, f_179_41, f_179_42, f_179_43, s_179_43, f_179_44, l_183, t_183, l_184, t_184, l_197, t_197, l_198, t_198, l_199, t_199, l_200, t_200, l_201, t_201]
      have e : am_nf NM k (some t) = some (0, t) := by
        cases k <;> (unfold am_nf; rw [am_fr_none.mp hA])
      have := hY S0 0 t (am_fk_le f0 (by decide) (by decide)) e (am_rs_fr hr e27 e197)
      rw [Int.natCast_zero, Int.add_zero] at this
      exact this
