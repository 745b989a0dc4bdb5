theorem am_rd_cases {NM : Nat → Option am_T} : ∀ {s : am_T} {u : Option am_T}, am_rd NM s = some u → (∃ z, s = .leaf z ∧ 10 ≤ z ∧ z < 18 ∧ u = NM (z - 10).toNat) ∨ (∃ C D E, s = .branch 0 (.branch 1 C D) E ∧ u = some (am_sb E 0 D)) ∨ (∃ P Z F, s = .branch 0 (.branch 0 (.branch 0 (.branch 0 (.leaf 8) P) Z) F) (.leaf 6) ∧ u = some Z) ∨ (∃ P Z F m, s = .branch 0 (.branch 0 (.branch 0 (.branch 0 (.leaf 8) P) Z) F) (.branch 0 (.leaf 7) m) ∧ u = some (.branch 0 (.branch 0 F m) (.branch 0 (.branch 0 (.branch 0 (.branch 0 (.leaf 8) P) Z) F) m)))
  | .leaf z, u, h => by
    change (if 10 ≤ z ∧ z < 18 then some (NM (z - 10).toNat) else none) = some u at h
    split at h
    · rename_i hz
      cases h
      exact Or.inl ⟨z, rfl, hz.1, hz.2, rfl⟩
    · cases h
  | .branch k a b, u, h => by
    change (if k = 0 then (am_ra b a).map some else none) = some u at h
    split at h
    · rename_i hk
      subst hk
      obtain ⟨w, hw, e⟩ := Option.map_eq_some_iff.mp h
      subst e
      cases a with
      | leaf z => cases hw
      | branch k1 A F =>
        change (if k1 = 1 then some (am_sb b 0 F) else if k1 = 0 then am_rr F b (.branch k1 A F) A else none) = some w at hw
        split at hw
        · rename_i hk
          subst hk
          cases hw
          exact Or.inr (Or.inl ⟨A, F, b, rfl, rfl⟩)
        · split at hw
          · rename_i hk
            subst hk
            unfold am_rr at hw
            split at hw
            · rename_i k2 k3 r P Z
              split at hw
              · rename_i hk
                obtain ⟨rfl, rfl, rfl⟩ := hk
                split at hw
                · split at hw
                  · rename_i hy
                    subst hy
                    cases hw
                    exact Or.inr (Or.inr (Or.inl ⟨_, _, F, rfl, rfl⟩))
                  · cases hw
                · split at hw
                  · rename_i hy
                    obtain ⟨rfl, rfl⟩ := hy
                    cases hw
                    exact Or.inr (Or.inr (Or.inr ⟨_, _, F, _, rfl, rfl⟩))
                  · cases hw
                · cases hw
              · cases hw
            · cases hw
          · cases hw
    · cases h
theorem am_app_cap {t : am_T} : am_app 80 (some []) (am_lay t) = (am_cap t).map am_lay := by
  show (if 0 + (am_lay t).length ≤ 80 then some ([] ++ am_lay t) else none) = _
  unfold am_cap
  rw [am_lay_len, Nat.zero_add, List.nil_append]
  split <;> rfl
theorem do_takeStep {d : Nat} {n : am_N} {X : Nat × (Nat → Int32)} {S : am_St} {Q : Option Value → am_N → am_M → Prop} {r : Nat} (hw : am_rw r 80) {tl : Nat → Bool} {NM : Nat → Option am_T} {K : Nat} {t : am_T} {A B : List Int} {s : am_T} (hd : 14 ≤ d) (hn : r ≠ 64) (hnr : r < 11 ∨ 44 ≤ r) (wt : am_wf tl K t) (hK : K + am_sz t ≤ 900) (hr : am_row S r 80 (some (am_lay t))) (hN : am_nms S tl NM) (hf : am_fr NM t = some (A, s, B)) (hQ : ∀ (S' : am_St) v, am_frt r S S' → am_sp NM t = some v → am_row S' r 80 ((v.bind am_cap).map am_lay) → Q none n (am_m X S')) : am_Do d 106 [.ref 63, .ref r, .int (am_z A.length)] n (am_m X S) Q := by
  obtain ⟨hl, u, hu, v, hv, h0, h1⟩ := am_fr_some hf
  obtain ⟨K', hK', ws⟩ := am_fr_wf hf wt
  have htb : am_tb S r := am_tb_of (am_wf_gd wt hK) (by rw [hr.2.1, am_lay_len]) hr.2.2.2
  rw [hl] at hr
  have fin : ∀ w, u = some w → ∀ (S' : am_St), am_frt r S S' → am_row S' r 80 (am_app 80 (some []) (A ++ (am_lay w ++ B))) → Q none n (am_m X S') := by
    intro w hw S' f' r'
    obtain ⟨x, hx, hlx⟩ := h1 w hw
    refine hQ S' v f' hv ?_
    rw [hx]
    show am_row S' r 80 ((am_cap x).map am_lay)
    rw [← am_app_cap, hlx]
    exact r'
  rcases am_rd_cases hu with ⟨z, hs, z0, z1, hz⟩ | ⟨C, D, E, hs, he⟩ | ⟨P, Z, F, hs, he⟩ | ⟨P, Z, F, m, hs, he⟩
  · refine ts_name hw hd hn hnr ws (by omega) hr hN htb hs z0 z1 (fun S' f' r' => ?_)
    cases hc : NM (z - 10).toNat with
    | none =>
      rw [hc] at hz r'
      refine hQ S' v f' hv ?_
      rw [h0 hz]
      exact r'
    | some w =>
      rw [hc] at hz r'
      exact fin w hz S' f' r'
  · exact ts_call hw hd hn hnr ws (by omega) hr hN htb hs (fun S' f' r' => fin _ he S' f' r')
  · exact ts_rec0 hw hd hn hnr ws (by omega) hr hN htb hs rfl (fun S' f' r' => fin _ he S' f' r')
  · exact ts_rec1 hw hd hn hnr ws (by omega) hr hN htb hs rfl (fun S' f' r' => fin _ he S' f' r')
theorem am_frt_trans {r : Nat} {S S' S2 : am_St} (h1 : am_frt r S S') (h2 : am_frt r S' S2) : am_frt r S S2 := fun h a b c d e f g i => (h2 h a b c d e f g i).trans (h1 h a b c d e f g i)
theorem rd_loop {d : Nat} {n : am_N} {X : Nat × (Nat → Int32)} {Q : Option Value → am_N → am_M → Prop} {r : Nat} (hw : am_rw r 80) {tl : Nat → Bool} {NM : Nat → Option am_T} {K : Nat} (hd : 15 ≤ d) (hn : r ≠ 64) (hnr : r < 11 ∨ 44 ≤ r) (hK : K ≤ 800) (h8 : ∀ k, tl k = true → k < 8) : ∀ {k : Nat} {o : Option am_T} {st : Int} {v : Value} {S : am_St}, 0 ≤ st → st + k = 60 → am_row S r 80 (o.map am_lay) → (∀ t, o = some t → am_wf tl K t ∧ am_sz t ≤ 80) → am_nms S tl NM → (∀ (S' : am_St) j u, am_frt r S S' → am_nf NM k o = some (j, u) → am_row S' r 80 (some (am_lay u)) → Q (some (.int (am_z (st + j)))) n (am_m X S')) → (∀ (S' : am_St), am_frt r S S' → am_nf NM k o = none → (∃ w, am_row S' r 80 w) → Q (some (.int (am_z (-7)))) n (am_m X S')) → am_AW d 102 (2, [.ref 63, .ref r, .int (am_z st), v], [], n, am_m X S) Q
  | k, none, st, v, S, s0, s1, hr, ho, hN, hY, hF => by
    have e : S r 2 = 1 := hr.2.2
    rw [w102_2]
    simp (disch := first | omega | exact am_fit_z0 | exact am_fit_z1 | (apply am_fit_zc <;> omega)) only [w102_0, w102_1, w102_3, w102_5, w102_8, w102_9, w102_12, w102_15, w102_16, w102_19, w102_20, w102_21, w102_22, w102_25, w102_26, w102_27, w102_28, w102_29, w102_30, w102_33, w102_36, w102_39, w102_41, am_fit_i, am_isR, am_okA, exists_eq_left', exists_eq_left, Option.some.injEq, true_and, and_true, List.length_cons, List.length_nil, List.drop_succ_cons, List.drop_zero, List.all_cons, List.all_nil, am_c1, Bool.and_true, Bool.true_and, Bool.and_self, decide_true, decide_false, if_true, if_false, beq_self_eq_true, Nat.reduceAdd, Nat.reduceLeDiff, Nat.reduceLT, Nat.reduceEqDiff, Nat.reduceSub, ite_true, ite_false, and_self, eq_self, am_z_add, am_z_sub, am_z_mul, Int.reduceAdd, Int.reduceSub, Int.reduceMul, Int.reduceLT, Int.reduceLE, Int.reduceEq, Int.reduceNeg, am_then_i, am_then_r, am_then_v, Nat.add_eq, Nat.zero_add, Nat.add_zero, am_fit_z0, am_fit_z1, am_fit_zc, ↓reduceIte, am_lt_T, am_lt_F, am_le_T, am_le_F, am_eq_T, am_eq_F, am_z_lt, am_z_le, am_z_eq, am_z_char, am_set_se, am_set_sk, am_set_sh, rw_f2 hw, e]
    exact hF S (fun _ _ _ _ _ _ _ _ _ => rfl) (by cases k <;> rfl) ⟨_, hr⟩
  | k, some t, st, v, S, s0, s1, hr, ho, hN, hY, hF => by
    obtain ⟨wt, ht⟩ := ho t rfl
    have gt := am_wf_gd wt (by omega)
    obtain ⟨l1, l2, l3, l4⟩ := hr
    rw [w102_2]
    simp (disch := first | omega | exact am_fit_z0 | exact am_fit_z1 | (apply am_fit_zc <;> omega)) only [w102_0, w102_1, w102_3, w102_5, w102_8, w102_9, w102_12, w102_15, w102_16, w102_19, w102_20, w102_21, w102_22, w102_25, w102_26, w102_27, w102_28, w102_29, w102_30, w102_33, w102_36, w102_39, w102_41, am_fit_i, am_isR, am_okA, exists_eq_left', exists_eq_left, Option.some.injEq, true_and, and_true, List.length_cons, List.length_nil, List.drop_succ_cons, List.drop_zero, List.all_cons, List.all_nil, am_c1, Bool.and_true, Bool.true_and, Bool.and_self, decide_true, decide_false, if_true, if_false, beq_self_eq_true, Nat.reduceAdd, Nat.reduceLeDiff, Nat.reduceLT, Nat.reduceEqDiff, Nat.reduceSub, ite_true, ite_false, and_self, eq_self, am_z_add, am_z_sub, am_z_mul, Int.reduceAdd, Int.reduceSub, Int.reduceMul, Int.reduceLT, Int.reduceLE, Int.reduceEq, Int.reduceNeg, am_then_i, am_then_r, am_then_v, Nat.add_eq, Nat.zero_add, Nat.add_zero, am_fit_z0, am_fit_z1, am_fit_zc, ↓reduceIte, am_lt_T, am_lt_F, am_le_T, am_le_F, am_eq_T, am_eq_F, am_z_lt, am_z_le, am_z_eq, am_z_char, am_set_se, am_set_sk, am_set_sh, rw_f2 hw, l3]
    refine do_firstStep (NM := NM) hw (by omega) gt (by rw [l2, am_lay_len]) ht l4 (fun A s B hA => ?_) (fun hA => ?_)
    · have hAl : A.length ≤ 80 := by
        have := congrArg List.length (am_fr_some hA).1
        rw [am_lay_len, List.length_append] at this
        omega
      simp (disch := first | omega | exact am_fit_z0 | exact am_fit_z1 | (apply am_fit_zc <;> omega)) only [w102_0, w102_1, w102_3, w102_5, w102_8, w102_9, w102_12, w102_15, w102_16, w102_19, w102_20, w102_21, w102_22, w102_25, w102_26, w102_27, w102_28, w102_29, w102_30, w102_33, w102_36, w102_39, w102_41, am_fit_i, am_isR, am_okA, exists_eq_left', exists_eq_left, Option.some.injEq, true_and, and_true, List.length_cons, List.length_nil, List.drop_succ_cons, List.drop_zero, List.all_cons, List.all_nil, am_c1, Bool.and_true, Bool.true_and, Bool.and_self, decide_true, decide_false, if_true, if_false, beq_self_eq_true, Nat.reduceAdd, Nat.reduceLeDiff, Nat.reduceLT, Nat.reduceEqDiff, Nat.reduceSub, ite_true, ite_false, and_self, eq_self, am_z_add, am_z_sub, am_z_mul, Int.reduceAdd, Int.reduceSub, Int.reduceMul, Int.reduceLT, Int.reduceLE, Int.reduceEq, Int.reduceNeg, am_then_i, am_then_r, am_then_v, Nat.add_eq, Nat.zero_add, Nat.add_zero, am_fit_z0, am_fit_z1, am_fit_zc, ↓reduceIte, am_lt_T, am_lt_F, am_le_T, am_le_F, am_eq_T, am_eq_F, am_z_lt, am_z_le, am_z_eq, am_z_char, am_set_se, am_set_sk, am_set_sh, o_63, f_63_0, f_63_1, f_63_2]
      refine do_takeStep (t := t) (K := K) hw (by omega) hn hnr wt (by omega) ⟨l1, l2, l3, l4⟩ hN hA (fun S1 v f1 hv r1 => ?_)
      simp (disch := first | omega | exact am_fit_z0 | exact am_fit_z1 | (apply am_fit_zc <;> omega)) only [w102_0, w102_1, w102_3, w102_5, w102_8, w102_9, w102_12, w102_15, w102_16, w102_19, w102_20, w102_21, w102_22, w102_25, w102_26, w102_27, w102_28, w102_29, w102_30, w102_33, w102_36, w102_39, w102_41, am_fit_i, am_isR, am_okA, exists_eq_left', exists_eq_left, Option.some.injEq, true_and, and_true, List.length_cons, List.length_nil, List.drop_succ_cons, List.drop_zero, List.all_cons, List.all_nil, am_c1, Bool.and_true, Bool.true_and, Bool.and_self, decide_true, decide_false, if_true, if_false, beq_self_eq_true, Nat.reduceAdd, Nat.reduceLeDiff, Nat.reduceLT, Nat.reduceEqDiff, Nat.reduceSub, ite_true, ite_false, and_self, eq_self, am_z_add, am_z_sub, am_z_mul, Int.reduceAdd, Int.reduceSub, Int.reduceMul, Int.reduceLT, Int.reduceLE, Int.reduceEq, Int.reduceNeg, am_then_i, am_then_r, am_then_v, Nat.add_eq, Nat.zero_add, Nat.add_zero, am_fit_z0, am_fit_z1, am_fit_zc, ↓reduceIte, am_lt_T, am_lt_F, am_le_T, am_le_F, am_eq_T, am_eq_F, am_z_lt, am_z_le, am_z_eq, am_z_char, am_set_se, am_set_sk, am_set_sh, o_63, f_63_0, f_63_1, f_63_2]
      cases k with
      | zero =>
        rw [w102_2]
        simp (disch := first | omega | exact am_fit_z0 | exact am_fit_z1 | (apply am_fit_zc <;> omega)) only [w102_0, w102_1, w102_3, w102_5, w102_8, w102_9, w102_12, w102_15, w102_16, w102_19, w102_20, w102_21, w102_22, w102_25, w102_26, w102_27, w102_28, w102_29, w102_30, w102_33, w102_36, w102_39, w102_41, am_fit_i, am_isR, am_okA, exists_eq_left', exists_eq_left, Option.some.injEq, true_and, and_true, List.length_cons, List.length_nil, List.drop_succ_cons, List.drop_zero, List.all_cons, List.all_nil, am_c1, Bool.and_true, Bool.true_and, Bool.and_self, decide_true, decide_false, if_true, if_false, beq_self_eq_true, Nat.reduceAdd, Nat.reduceLeDiff, Nat.reduceLT, Nat.reduceEqDiff, Nat.reduceSub, ite_true, ite_false, and_self, eq_self, am_z_add, am_z_sub, am_z_mul, Int.reduceAdd, Int.reduceSub, Int.reduceMul, Int.reduceLT, Int.reduceLE, Int.reduceEq, Int.reduceNeg, am_then_i, am_then_r, am_then_v, Nat.add_eq, Nat.zero_add, Nat.add_zero, am_fit_z0, am_fit_z1, am_fit_zc, ↓reduceIte, am_lt_T, am_lt_F, am_le_T, am_le_F, am_eq_T, am_eq_F, am_z_lt, am_z_le, am_z_eq, am_z_char, am_set_se, am_set_sk, am_set_sh]
        refine hF S1 f1 ?_ ⟨_, r1⟩
        unfold am_nf
        rw [hv]
      | succ k =>
        have e : am_nf NM (k + 1) (some t) = (am_nf NM k (v.bind am_cap)).map (fun r => (r.1 + 1, r.2)) := by
          conv => lhs; unfold am_nf
          rw [hv]
        refine rd_loop hw hd hn hnr hK h8 (k := k) (o := v.bind am_cap) (st := st + 1) (by omega) (by omega) r1 (fun w hw2 => ?_) (am_nms_fr hN (fun h a b => f1 h (by omega) (by omega) (by omega) (by omega) (by omega) (by omega) (by omega) (by omega))) (fun S2 j u f2 h2 r2 => ?_) (fun S2 f2 h2 w2 => hF S2 (am_frt_trans f1 f2) (by rw [e, h2]; rfl) w2)
        · obtain ⟨w1, e1, hcap⟩ := Option.bind_eq_some_iff.mp hw2
          subst e1
          obtain ⟨rfl, hz⟩ := am_cap_some hcap
          exact ⟨am_wf_sp (am_nms_cl hN h8) wt hv, hz⟩
        · have := hY S2 (j + 1) u (am_frt_trans f1 f2) (by rw [e, h2]; rfl) r2
          rw [show st + ((j + 1 : Nat) : Int) = st + 1 + j by omega] at this
          exact this
    · simp (disch := first | omega | exact am_fit_z0 | exact am_fit_z1 | (apply am_fit_zc <;> omega)) only [w102_0, w102_1, w102_3, w102_5, w102_8, w102_9, w102_12, w102_15, w102_16, w102_19, w102_20, w102_21, w102_22, w102_25, w102_26, w102_27, w102_28, w102_29, w102_30, w102_33, w102_36, w102_39, w102_41, am_fit_i, am_isR, am_okA, exists_eq_left', exists_eq_left, Option.some.injEq, true_and, and_true, List.length_cons, List.length_nil, List.drop_succ_cons, List.drop_zero, List.all_cons, List.all_nil, am_c1, Bool.and_true, Bool.true_and, Bool.and_self, decide_true, decide_false, if_true, if_false, beq_self_eq_true, Nat.reduceAdd, Nat.reduceLeDiff, Nat.reduceLT, Nat.reduceEqDiff, Nat.reduceSub, ite_true, ite_false, and_self, eq_self, am_z_add, am_z_sub, am_z_mul, Int.reduceAdd, Int.reduceSub, Int.reduceMul, Int.reduceLT, Int.reduceLE, Int.reduceEq, Int.reduceNeg, am_then_i, am_then_r, am_then_v, Nat.add_eq, Nat.zero_add, Nat.add_zero, am_fit_z0, am_fit_z1, am_fit_zc, ↓reduceIte, am_lt_T, am_lt_F, am_le_T, am_le_F, am_eq_T, am_eq_F, am_z_lt, am_z_le, am_z_eq, am_z_char, am_set_se, am_set_sk, am_set_sh]
      have e : am_nf NM k (some t) = some (0, t) := by
        cases k <;> (unfold am_nf; rw [am_fr_none.mp hA])
      have := hY S 0 t (fun _ _ _ _ _ _ _ _ _ => rfl) e ⟨l1, l2, l3, l4⟩
      rw [Int.natCast_zero, Int.add_zero] at this
      exact this
theorem do_reduce {d : Nat} {n : am_N} {X : Nat × (Nat → Int32)} {S : am_St} {Q : Option Value → am_N → am_M → Prop} {r : Nat} (hw : am_rw r 80) {tl : Nat → Bool} {NM : Nat → Option am_T} {K : Nat} {o : Option am_T} (hd : 16 ≤ d) (hn : r ≠ 64) (hnr : r < 11 ∨ 44 ≤ r) (hK : K ≤ 800) (h8 : ∀ k, tl k = true → k < 8) (hr : am_row S r 80 (o.map am_lay)) (ho : ∀ t, o = some t → am_wf tl K t ∧ am_sz t ≤ 80) (hN : am_nms S tl NM) (hY : ∀ (S' : am_St) j u, am_frt r S S' → am_nf NM 60 o = some (j, u) → am_row S' r 80 (some (am_lay u)) → Q (some (.int (am_z j))) n (am_m X S')) (hF : ∀ (S' : am_St), am_frt r S S' → am_nf NM 60 o = none → (∃ w, am_row S' r 80 w) → Q (some (.int (am_z (-7)))) n (am_m X S')) : am_Do d 102 [.ref 63, .ref r] n (am_m X S) Q := by
  rw [in_102 (by omega), w102_0, w102_1]
  refine rd_loop hw (by omega) hn hnr hK h8 (k := 60) (o := o) (Int.le_refl 0) (by omega) hr ho hN (fun S1 j u f1 h1 r1 => ?_) hF
  rw [Int.zero_add]
  exact hY S1 j u f1 h1 r1
