/-! where a step can be taken -/
def am_g (S : am_St) (r : Nat) (i : Int) : Int := if 0 ≤ i ∧ i < S r 1 then S (r + 1) i else -1
def am_tb (S : am_St) (r : Nat) : Prop := ∀ i, 0 ≤ i → i < S r 1 → 0 ≤ S (r + 1) i ∧ S (r + 1) i < 1000
theorem am_g_b {S : am_St} {r : Nat} (h : am_tb S r) (i : Int) : -1 ≤ am_g S r i ∧ am_g S r i < 1000 := by
  unfold am_g
  split
  · rename_i hi
    have := h i hi.1 hi.2
    omega
  · omega
theorem am_g_in {S : am_St} {r : Nat} {i v : Int} (h0 : 0 ≤ i) (h1 : i < S r 1) (hv : S (r + 1) i = v) : am_g S r i = v := (if_pos ⟨h0, h1⟩).trans hv
/-- a tree lies in a row -/
def am_tr (S : am_St) (r : Nat) (p : Int) (t : am_T) : Prop := 0 ≤ p ∧ p + am_sz t ≤ S r 1 ∧ am_sg (S (r + 1)) p (am_lay t)
theorem am_tr_leaf {S : am_St} {r : Nat} {p z : Int} (h : am_tr S r p (.leaf z)) : am_g S r p = z := by
  obtain ⟨h0, h1, h2⟩ := h
  exact am_g_in h0 (by have : am_sz (.leaf z) = 1 := rfl; omega) (am_sg_one.mp h2)
theorem am_tr_branch {S : am_St} {r k : Nat} {p : Int} {a b : am_T} (h : am_tr S r p (.branch k a b)) : am_g S r p = k ∧ am_tr S r (p + 1) a ∧ am_tr S r (p + 1 + am_sz a) b := by
  obtain ⟨h0, h1, h2⟩ := h
  have e : am_sz (.branch k a b) = am_sz a + am_sz b + 1 := rfl
  obtain ⟨h3, h4⟩ := am_sg_cons.mp (show am_sg (S (r + 1)) p ((k : Int) :: (am_lay a ++ am_lay b)) from h2)
  obtain ⟨h5, h6⟩ := am_sg_app.mp h4
  rw [am_lay_len] at h6
  have sa := am_sz_pos a
  exact ⟨am_g_in h0 (by omega) h3, ⟨by omega, by omega, h5⟩, ⟨by omega, by omega, h6⟩⟩
def am_hd : am_T → Int
  | .leaf z => z
  | .branch k _ _ => k
theorem am_tr_hd {S : am_St} {r : Nat} {p : Int} : ∀ {t : am_T}, am_tr S r p t → am_g S r p = am_hd t
  | .leaf _, h => am_tr_leaf h
  | .branch _ _ _, h => (am_tr_branch h).1
def am_isc : am_T → Bool
  | .branch k (.branch k' _ _) _ => k == 0 && k' == 1
  | _ => false
def am_isr : am_T → Bool
  | .branch k (.branch k1 A B) b => k == 0 && k1 == 0 && (am_rr B b (.branch k1 A B) A).isSome
  | _ => false
theorem am_rd_is {NM : Nat → Option am_T} : ∀ {t : am_T}, (am_rd NM t).isSome = (decide (10 ≤ am_hd t ∧ am_hd t < 18) || am_isc t || am_isr t) ∨ ¬ am_gd t
  | .leaf z => by
    left
    unfold am_rd am_hd am_isc am_isr
    by_cases h : 10 ≤ z ∧ z < 18
    · simp [h]
    · simp [h]
  | .branch k (.leaf z) b => by
    by_cases hk : k ≤ 2
    · left
      have : ¬ (10 ≤ (k : Int) ∧ (k : Int) < 18) := by omega
      show (if k = 0 then (none : Option am_T).map some else none).isSome = _
      unfold am_hd am_isc am_isr
      simp only [this, decide_false, Bool.or_self]
      split <;> rfl
    · right
      exact fun h => hk h.1
  | .branch k (.branch k1 A B) b => by
    by_cases hk : k ≤ 2
    · left
      have : ¬ (10 ≤ (k : Int) ∧ (k : Int) < 18) := by omega
      show (if k = 0 then (if k1 = 1 then some (am_sb b 0 B) else if k1 = 0 then am_rr B b (.branch k1 A B) A else none).map some else none).isSome = _
      unfold am_hd am_isc am_isr
      by_cases h0 : k = 0
      · by_cases h1 : k1 = 1
        · simp [h0, h1]
        · by_cases h2 : k1 = 0
          · simp [h0, h2]
          · simp [h0, h1, h2]
      · simp [h0, this]
    · right
      exact fun h => hk h.1
theorem do_at {d : Nat} {n : am_N} {X : Nat × (Nat → Int32)} {S : am_St} {Q : Option Value → am_N → am_M → Prop} {r c : Nat} (hw : am_rw r c) {i : Int} (hd : 1 ≤ d) (h1 : 0 ≤ S r 1) (h2 : S r 1 ≤ c) (h3 : -2147483648 ≤ i) (h4 : i < 2147483648) : am_Do d 114 [.ref r, .int (am_z i)] n (am_m X S) Q = Q (some (.int (am_z (am_g S r i)))) n (am_m X S) := by
  unfold am_g
  by_cases h : 0 ≤ i ∧ i < S r 1
  · rw [if_pos h]
    exact do_at_in hw hd h.1 h.2 h2
  · rw [if_neg h]
    exact do_at_out hw hd (by omega) h1 h2 h3 h4
theorem do_isCall {d : Nat} {n : am_N} {X : Nat × (Nat → Int32)} {S : am_St} {Q : Option Value → am_N → am_M → Prop} {r c : Nat} (hw : am_rw r c) {p : Int} (hd : 3 ≤ d) (h1 : 0 ≤ S r 1) (h2 : S r 1 ≤ c) (hb : am_tb S r) (h3 : 0 ≤ p) (h4 : p < 2147483000) : am_Do d 104 [.ref r, .int (am_z p)] n (am_m X S) Q = Q (some (.int (am_z (if am_g S r p = 0 ∧ am_g S r (p + 1) = 1 then 1 else 0)))) n (am_m X S) := by
  have b0 := am_g_b hb p
  have b1 := am_g_b hb (p + 1)
  rw [in_104 (by omega)]
  by_cases c0 : am_g S r p = 0
  · by_cases c1 : am_g S r (p + 1) = 1
    · rw [if_pos ⟨c0, c1⟩]
      simp (disch := first | omega | exact am_fit_z0 | exact am_fit_z1 | (apply am_fit_zc <;> omega)) only [w104_0, w104_1, w104_2, w104_5, w104_8, w104_9, w104_10, w104_11, w104_12, w104_15, w104_16, w104_19, w104_20, w104_23, w104_24, am_fit_i, am_isR, am_okA, exists_eq_left', exists_eq_left, Option.some.injEq, true_and, and_true, List.length_cons, List.length_nil, List.drop_succ_cons, List.drop_zero, List.all_cons, List.all_nil, am_c1, Bool.and_true, Bool.true_and, Bool.and_self, decide_true, decide_false, if_true, if_false, beq_self_eq_true, Nat.reduceAdd, Nat.reduceLeDiff, Nat.reduceLT, Nat.reduceEqDiff, Nat.reduceSub, ite_true, ite_false, and_self, eq_self, am_z_add, am_z_sub, am_z_mul, Int.reduceAdd, Int.reduceSub, Int.reduceMul, Int.reduceLT, Int.reduceLE, Int.reduceEq, Int.reduceNeg, am_then_i, am_then_r, am_then_v, Nat.add_eq, Nat.zero_add, Nat.add_zero, am_fit_z0, am_fit_z1, am_fit_zc, ↓reduceIte, am_lt_T, am_lt_F, am_le_T, am_le_F, am_eq_T, am_eq_F, am_z_lt, am_z_le, am_z_eq, am_z_char, am_set_se, am_set_sk, am_set_sh, rw_o hw, do_at hw, c0, c1]
    · rw [if_neg (fun q => c1 q.2)]
      simp (disch := first | omega | exact am_fit_z0 | exact am_fit_z1 | (apply am_fit_zc <;> omega)) only [w104_0, w104_1, w104_2, w104_5, w104_8, w104_9, w104_10, w104_11, w104_12, w104_15, w104_16, w104_19, w104_20, w104_23, w104_24, am_fit_i, am_isR, am_okA, exists_eq_left', exists_eq_left, Option.some.injEq, true_and, and_true, List.length_cons, List.length_nil, List.drop_succ_cons, List.drop_zero, List.all_cons, List.all_nil, am_c1, Bool.and_true, Bool.true_and, Bool.and_self, decide_true, decide_false, if_true, if_false, beq_self_eq_true, Nat.reduceAdd, Nat.reduceLeDiff, Nat.reduceLT, Nat.reduceEqDiff, Nat.reduceSub, ite_true, ite_false, and_self, eq_self, am_z_add, am_z_sub, am_z_mul, Int.reduceAdd, Int.reduceSub, Int.reduceMul, Int.reduceLT, Int.reduceLE, Int.reduceEq, Int.reduceNeg, am_then_i, am_then_r, am_then_v, Nat.add_eq, Nat.zero_add, Nat.add_zero, am_fit_z0, am_fit_z1, am_fit_zc, ↓reduceIte, am_lt_T, am_lt_F, am_le_T, am_le_F, am_eq_T, am_eq_F, am_z_lt, am_z_le, am_z_eq, am_z_char, am_set_se, am_set_sk, am_set_sh, rw_o hw, do_at hw, c0]
  · rw [if_neg (fun q => c0 q.1)]
    simp (disch := first | omega | exact am_fit_z0 | exact am_fit_z1 | (apply am_fit_zc <;> omega)) only [w104_0, w104_1, w104_2, w104_5, w104_8, w104_9, w104_10, w104_11, w104_12, w104_15, w104_16, w104_19, w104_20, w104_23, w104_24, am_fit_i, am_isR, am_okA, exists_eq_left', exists_eq_left, Option.some.injEq, true_and, and_true, List.length_cons, List.length_nil, List.drop_succ_cons, List.drop_zero, List.all_cons, List.all_nil, am_c1, Bool.and_true, Bool.true_and, Bool.and_self, decide_true, decide_false, if_true, if_false, beq_self_eq_true, Nat.reduceAdd, Nat.reduceLeDiff, Nat.reduceLT, Nat.reduceEqDiff, Nat.reduceSub, ite_true, ite_false, and_self, eq_self, am_z_add, am_z_sub, am_z_mul, Int.reduceAdd, Int.reduceSub, Int.reduceMul, Int.reduceLT, Int.reduceLE, Int.reduceEq, Int.reduceNeg, am_then_i, am_then_r, am_then_v, Nat.add_eq, Nat.zero_add, Nat.add_zero, am_fit_z0, am_fit_z1, am_fit_zc, ↓reduceIte, am_lt_T, am_lt_F, am_le_T, am_le_F, am_eq_T, am_eq_F, am_z_lt, am_z_le, am_z_eq, am_z_char, am_set_se, am_set_sk, am_set_sh, rw_o hw, do_at hw]
theorem ir_step {d : Nat} {n : am_N} {X : Nat × (Nat → Int32)} {S : am_St} {Q : Option Value → am_N → am_M → Prop} {r c : Nat} (hw : am_rw r c) {p i : Int} (hd : 2 ≤ d) (h1 : 0 ≤ S r 1) (h2 : S r 1 ≤ c) (hb : am_tb S r) (h3 : 0 ≤ p) (h4 : p < 2147483000) (i0 : p ≤ i) (i1 : i < p + 4) (hz : am_g S r i = 0) : am_AW d 105 (16, [.ref r, .int (am_z p), .int (am_z i)], [], n, am_m X S) Q = am_AW d 105 (16, [.ref r, .int (am_z p), .int (am_z (i + 1))], [], n, am_m X S) Q := by
  rw [w105_16]
  simp (disch := first | omega | exact am_fit_z0 | exact am_fit_z1 | (apply am_fit_zc <;> omega)) only [w105_0, w105_1, w105_2, w105_3, w105_4, w105_7, w105_9, w105_12, w105_13, w105_14, w105_15, w105_17, w105_18, w105_19, w105_20, w105_23, w105_24, w105_25, w105_28, w105_31, w105_32, w105_33, w105_36, w105_39, w105_40, w105_41, w105_42, w105_43, w105_44, w105_45, w105_48, w105_51, w105_54, w105_55, w105_56, w105_57, w105_60, w105_62, w105_65, w105_66, w105_67, w105_70, w105_73, w105_74, w105_75, w105_76, w105_77, w105_80, w105_82, w105_85, w105_86, w105_89, w105_90, am_fit_i, am_isR, am_okA, exists_eq_left', exists_eq_left, Option.some.injEq, true_and, and_true, List.length_cons, List.length_nil, List.drop_succ_cons, List.drop_zero, List.all_cons, List.all_nil, am_c1, Bool.and_true, Bool.true_and, Bool.and_self, decide_true, decide_false, if_true, if_false, beq_self_eq_true, Nat.reduceAdd, Nat.reduceLeDiff, Nat.reduceLT, Nat.reduceEqDiff, Nat.reduceSub, ite_true, ite_false, and_self, eq_self, am_z_add, am_z_sub, am_z_mul, Int.reduceAdd, Int.reduceSub, Int.reduceMul, Int.reduceLT, Int.reduceLE, Int.reduceEq, Int.reduceNeg, am_then_i, am_then_r, am_then_v, Nat.add_eq, Nat.zero_add, Nat.add_zero, am_fit_z0, am_fit_z1, am_fit_zc, ↓reduceIte, am_lt_T, am_lt_F, am_le_T, am_le_F, am_eq_T, am_eq_F, am_z_lt, am_z_le, am_z_eq, am_z_char, am_set_se, am_set_sk, am_set_sh, rw_o hw, do_at hw, hz]
theorem ir_stop {d : Nat} {n : am_N} {X : Nat × (Nat → Int32)} {S : am_St} {Q : Option Value → am_N → am_M → Prop} {r c : Nat} (hw : am_rw r c) {p i : Int} (hd : 2 ≤ d) (h1 : 0 ≤ S r 1) (h2 : S r 1 ≤ c) (hb : am_tb S r) (h3 : 0 ≤ p) (h4 : p < 2147483000) (i0 : p ≤ i) (i1 : i < p + 4) (hz : ¬ am_g S r i = 0) : am_AW d 105 (16, [.ref r, .int (am_z p), .int (am_z i)], [], n, am_m X S) Q = Q (some (.int (am_z 0))) n (am_m X S) := by
  have b := am_g_b hb i
  rw [w105_16]
  simp (disch := first | omega | exact am_fit_z0 | exact am_fit_z1 | (apply am_fit_zc <;> omega)) only [w105_0, w105_1, w105_2, w105_3, w105_4, w105_7, w105_9, w105_12, w105_13, w105_14, w105_15, w105_17, w105_18, w105_19, w105_20, w105_23, w105_24, w105_25, w105_28, w105_31, w105_32, w105_33, w105_36, w105_39, w105_40, w105_41, w105_42, w105_43, w105_44, w105_45, w105_48, w105_51, w105_54, w105_55, w105_56, w105_57, w105_60, w105_62, w105_65, w105_66, w105_67, w105_70, w105_73, w105_74, w105_75, w105_76, w105_77, w105_80, w105_82, w105_85, w105_86, w105_89, w105_90, am_fit_i, am_isR, am_okA, exists_eq_left', exists_eq_left, Option.some.injEq, true_and, and_true, List.length_cons, List.length_nil, List.drop_succ_cons, List.drop_zero, List.all_cons, List.all_nil, am_c1, Bool.and_true, Bool.true_and, Bool.and_self, decide_true, decide_false, if_true, if_false, beq_self_eq_true, Nat.reduceAdd, Nat.reduceLeDiff, Nat.reduceLT, Nat.reduceEqDiff, Nat.reduceSub, ite_true, ite_false, and_self, eq_self, am_z_add, am_z_sub, am_z_mul, Int.reduceAdd, Int.reduceSub, Int.reduceMul, Int.reduceLT, Int.reduceLE, Int.reduceEq, Int.reduceNeg, am_then_i, am_then_r, am_then_v, Nat.add_eq, Nat.zero_add, Nat.add_zero, am_fit_z0, am_fit_z1, am_fit_zc, ↓reduceIte, am_lt_T, am_lt_F, am_le_T, am_le_F, am_eq_T, am_eq_F, am_z_lt, am_z_le, am_z_eq, am_z_char, am_set_se, am_set_sk, am_set_sh, rw_o hw, do_at hw]
theorem do_isRec_f {d : Nat} {n : am_N} {X : Nat × (Nat → Int32)} {S : am_St} {Q : Option Value → am_N → am_M → Prop} {r c : Nat} (hw : am_rw r c) {p : Int} (hd : 3 ≤ d) (h1 : 0 ≤ S r 1) (h2 : S r 1 ≤ c) (hb : am_tb S r) (h3 : 0 ≤ p) (h4 : p < 2147483000) (h : ¬ (am_g S r (p + 4) = 8 ∧ am_g S r p = 0 ∧ am_g S r (p + 1) = 0 ∧ am_g S r (p + 2) = 0 ∧ am_g S r (p + 3) = 0)) : am_Do d 105 [.ref r, .int (am_z p)] n (am_m X S) Q = Q (some (.int (am_z 0))) n (am_m X S) := by
  have b4 := am_g_b hb (p + 4)
  rw [in_105 (by omega)]
  by_cases c4 : am_g S r (p + 4) = 8
  · simp (disch := first | omega | exact am_fit_z0 | exact am_fit_z1 | (apply am_fit_zc <;> omega)) only [w105_0, w105_1, w105_2, w105_3, w105_4, w105_7, w105_9, w105_12, w105_13, w105_14, w105_15, w105_17, w105_18, w105_19, w105_20, w105_23, w105_24, w105_25, w105_28, w105_31, w105_32, w105_33, w105_36, w105_39, w105_40, w105_41, w105_42, w105_43, w105_44, w105_45, w105_48, w105_51, w105_54, w105_55, w105_56, w105_57, w105_60, w105_62, w105_65, w105_66, w105_67, w105_70, w105_73, w105_74, w105_75, w105_76, w105_77, w105_80, w105_82, w105_85, w105_86, w105_89, w105_90, am_fit_i, am_isR, am_okA, exists_eq_left', exists_eq_left, Option.some.injEq, true_and, and_true, List.length_cons, List.length_nil, List.drop_succ_cons, List.drop_zero, List.all_cons, List.all_nil, am_c1, Bool.and_true, Bool.true_and, Bool.and_self, decide_true, decide_false, if_true, if_false, beq_self_eq_true, Nat.reduceAdd, Nat.reduceLeDiff, Nat.reduceLT, Nat.reduceEqDiff, Nat.reduceSub, ite_true, ite_false, and_self, eq_self, am_z_add, am_z_sub, am_z_mul, Int.reduceAdd, Int.reduceSub, Int.reduceMul, Int.reduceLT, Int.reduceLE, Int.reduceEq, Int.reduceNeg, am_then_i, am_then_r, am_then_v, Nat.add_eq, Nat.zero_add, Nat.add_zero, am_fit_z0, am_fit_z1, am_fit_zc, ↓reduceIte, am_lt_T, am_lt_F, am_le_T, am_le_F, am_eq_T, am_eq_F, am_z_lt, am_z_le, am_z_eq, am_z_char, am_set_se, am_set_sk, am_set_sh, rw_o hw, do_at hw, c4]
    by_cases c0 : am_g S r p = 0
    · rw [ir_step (d := d - 1) hw (by omega) h1 h2 hb h3 h4 (by omega) (by omega) c0]
      by_cases c1 : am_g S r (p + 1) = 0
      · rw [ir_step (d := d - 1) hw (by omega) h1 h2 hb h3 h4 (by omega) (by omega) c1, show p + 1 + 1 = p + 2 by omega]
        by_cases c2 : am_g S r (p + 2) = 0
        · rw [ir_step (d := d - 1) hw (by omega) h1 h2 hb h3 h4 (by omega) (by omega) c2, show p + 2 + 1 = p + 3 by omega]
          by_cases c3 : am_g S r (p + 3) = 0
          · skip
            exact absurd ⟨c4, c0, c1, c2, c3⟩ h
          · exact ir_stop (d := d - 1) hw (by omega) h1 h2 hb h3 h4 (by omega) (by omega) c3
        · exact ir_stop (d := d - 1) hw (by omega) h1 h2 hb h3 h4 (by omega) (by omega) c2
      · exact ir_stop (d := d - 1) hw (by omega) h1 h2 hb h3 h4 (by omega) (by omega) c1
    · exact ir_stop (d := d - 1) hw (by omega) h1 h2 hb h3 h4 (by omega) (by omega) c0
  · simp (disch := first | omega | exact am_fit_z0 | exact am_fit_z1 | (apply am_fit_zc <;> omega)) only [w105_0, w105_1, w105_2, w105_3, w105_4, w105_7, w105_9, w105_12, w105_13, w105_14, w105_15, w105_17, w105_18, w105_19, w105_20, w105_23, w105_24, w105_25, w105_28, w105_31, w105_32, w105_33, w105_36, w105_39, w105_40, w105_41, w105_42, w105_43, w105_44, w105_45, w105_48, w105_51, w105_54, w105_55, w105_56, w105_57, w105_60, w105_62, w105_65, w105_66, w105_67, w105_70, w105_73, w105_74, w105_75, w105_76, w105_77, w105_80, w105_82, w105_85, w105_86, w105_89, w105_90, am_fit_i, am_isR, am_okA, exists_eq_left', exists_eq_left, Option.some.injEq, true_and, and_true, List.length_cons, List.length_nil, List.drop_succ_cons, List.drop_zero, List.all_cons, List.all_nil, am_c1, Bool.and_true, Bool.true_and, Bool.and_self, decide_true, decide_false, if_true, if_false, beq_self_eq_true, Nat.reduceAdd, Nat.reduceLeDiff, Nat.reduceLT, Nat.reduceEqDiff, Nat.reduceSub, ite_true, ite_false, and_self, eq_self, am_z_add, am_z_sub, am_z_mul, Int.reduceAdd, Int.reduceSub, Int.reduceMul, Int.reduceLT, Int.reduceLE, Int.reduceEq, Int.reduceNeg, am_then_i, am_then_r, am_then_v, Nat.add_eq, Nat.zero_add, Nat.add_zero, am_fit_z0, am_fit_z1, am_fit_zc, ↓reduceIte, am_lt_T, am_lt_F, am_le_T, am_le_F, am_eq_T, am_eq_F, am_z_lt, am_z_le, am_z_eq, am_z_char, am_set_se, am_set_sk, am_set_sh, rw_o hw, do_at hw]
theorem do_isRec_t {d : Nat} {n : am_N} {X : Nat × (Nat → Int32)} {S : am_St} {Q : Option Value → am_N → am_M → Prop} {r c : Nat} (hw : am_rw r c) {p : Int} {P Z F : am_T} (hd : 3 ≤ d) (h1 : 0 ≤ S r 1) (h2 : S r 1 ≤ c) (hb : am_tb S r) (h3 : 0 ≤ p) (h4 : p < 2147483000) (g4 : am_g S r (p + 4) = 8) (g0 : am_g S r p = 0) (g1 : am_g S r (p + 1) = 0) (g2 : am_g S r (p + 2) = 0) (g3 : am_g S r (p + 3) = 0) (tP : am_tr S r (p + 5) P) (tZ : am_tr S r (p + 5 + am_sz P) Z) (tF : am_tr S r (p + 5 + am_sz P + am_sz Z) F) (gP : am_gd P) (gZ : am_gd Z) (gF : am_gd F) : am_Do d 105 [.ref r, .int (am_z p)] n (am_m X S) Q = Q (some (.int (am_z (if am_g S r (p + 5 + am_sz P + am_sz Z + am_sz F) = 6 ∨ (am_g S r (p + 5 + am_sz P + am_sz Z + am_sz F) = 0 ∧ am_g S r (p + 5 + am_sz P + am_sz Z + am_sz F + 1) = 7) then 1 else 0)))) n (am_m X S) := by
  have hc := hw.2.1
  have k1 := tP.2.1
  have k2 := tZ.2.1
  have k3 := tF.2.1
  have b0 := am_g_b hb (p + 5 + am_sz P + am_sz Z + am_sz F)
  have b1 := am_g_b hb (p + 5 + am_sz P + am_sz Z + am_sz F + 1)
  rw [in_105 (by omega)]
  simp (disch := first | omega | exact am_fit_z0 | exact am_fit_z1 | (apply am_fit_zc <;> omega)) only [w105_0, w105_1, w105_2, w105_3, w105_4, w105_7, w105_9, w105_12, w105_13, w105_14, w105_15, w105_17, w105_18, w105_19, w105_20, w105_23, w105_24, w105_25, w105_28, w105_31, w105_32, w105_33, w105_36, w105_39, w105_40, w105_41, w105_42, w105_43, w105_44, w105_45, w105_48, w105_51, w105_54, w105_55, w105_56, w105_57, w105_60, w105_62, w105_65, w105_66, w105_67, w105_70, w105_73, w105_74, w105_75, w105_76, w105_77, w105_80, w105_82, w105_85, w105_86, w105_89, w105_90, am_fit_i, am_isR, am_okA, exists_eq_left', exists_eq_left, Option.some.injEq, true_and, and_true, List.length_cons, List.length_nil, List.drop_succ_cons, List.drop_zero, List.all_cons, List.all_nil, am_c1, Bool.and_true, Bool.true_and, Bool.and_self, decide_true, decide_false, if_true, if_false, beq_self_eq_true, Nat.reduceAdd, Nat.reduceLeDiff, Nat.reduceLT, Nat.reduceEqDiff, Nat.reduceSub, ite_true, ite_false, and_self, eq_self, am_z_add, am_z_sub, am_z_mul, Int.reduceAdd, Int.reduceSub, Int.reduceMul, Int.reduceLT, Int.reduceLE, Int.reduceEq, Int.reduceNeg, am_then_i, am_then_r, am_then_v, Nat.add_eq, Nat.zero_add, Nat.add_zero, am_fit_z0, am_fit_z1, am_fit_zc, ↓reduceIte, am_lt_T, am_lt_F, am_le_T, am_le_F, am_eq_T, am_eq_F, am_z_lt, am_z_le, am_z_eq, am_z_char, am_set_se, am_set_sk, am_set_sh, rw_o hw, do_at hw, g4]
  rw [ir_step (d := d - 1) hw (by omega) h1 h2 hb h3 h4 (by omega) (by omega) g0, ir_step (d := d - 1) hw (by omega) h1 h2 hb h3 h4 (by omega) (by omega) g1, show p + 1 + 1 = p + 2 by omega, ir_step (d := d - 1) hw (by omega) h1 h2 hb h3 h4 (by omega) (by omega) g2, show p + 2 + 1 = p + 3 by omega, ir_step (d := d - 1) hw (by omega) h1 h2 hb h3 h4 (by omega) (by omega) g3, show p + 3 + 1 = p + 4 by omega, w105_16]
  by_cases c0 : am_g S r (p + 5 + am_sz P + am_sz Z + am_sz F) = 6
  · rw [if_pos (Or.inl c0)]
    simp (disch := first | omega | exact am_fit_z0 | exact am_fit_z1 | (apply am_fit_zc <;> omega)) only [w105_0, w105_1, w105_2, w105_3, w105_4, w105_7, w105_9, w105_12, w105_13, w105_14, w105_15, w105_17, w105_18, w105_19, w105_20, w105_23, w105_24, w105_25, w105_28, w105_31, w105_32, w105_33, w105_36, w105_39, w105_40, w105_41, w105_42, w105_43, w105_44, w105_45, w105_48, w105_51, w105_54, w105_55, w105_56, w105_57, w105_60, w105_62, w105_65, w105_66, w105_67, w105_70, w105_73, w105_74, w105_75, w105_76, w105_77, w105_80, w105_82, w105_85, w105_86, w105_89, w105_90, am_fit_i, am_isR, am_okA, exists_eq_left', exists_eq_left, Option.some.injEq, true_and, and_true, List.length_cons, List.length_nil, List.drop_succ_cons, List.drop_zero, List.all_cons, List.all_nil, am_c1, Bool.and_true, Bool.true_and, Bool.and_self, decide_true, decide_false, if_true, if_false, beq_self_eq_true, Nat.reduceAdd, Nat.reduceLeDiff, Nat.reduceLT, Nat.reduceEqDiff, Nat.reduceSub, ite_true, ite_false, and_self, eq_self, am_z_add, am_z_sub, am_z_mul, Int.reduceAdd, Int.reduceSub, Int.reduceMul, Int.reduceLT, Int.reduceLE, Int.reduceEq, Int.reduceNeg, am_then_i, am_then_r, am_then_v, Nat.add_eq, Nat.zero_add, Nat.add_zero, am_fit_z0, am_fit_z1, am_fit_zc, ↓reduceIte, am_lt_T, am_lt_F, am_le_T, am_le_F, am_eq_T, am_eq_F, am_z_lt, am_z_le, am_z_eq, am_z_char, am_set_se, am_set_sk, am_set_sh, rw_o hw, do_at hw, do_end hw tP.2.2 gP, do_end hw tZ.2.2 gZ, do_end hw tF.2.2 gF, c0]
  · by_cases c1 : am_g S r (p + 5 + am_sz P + am_sz Z + am_sz F) = 0
    · by_cases c2 : am_g S r (p + 5 + am_sz P + am_sz Z + am_sz F + 1) = 7
      · rw [if_pos (Or.inr ⟨c1, c2⟩)]
        simp (disch := first | omega | exact am_fit_z0 | exact am_fit_z1 | (apply am_fit_zc <;> omega)) only [w105_0, w105_1, w105_2, w105_3, w105_4, w105_7, w105_9, w105_12, w105_13, w105_14, w105_15, w105_17, w105_18, w105_19, w105_20, w105_23, w105_24, w105_25, w105_28, w105_31, w105_32, w105_33, w105_36, w105_39, w105_40, w105_41, w105_42, w105_43, w105_44, w105_45, w105_48, w105_51, w105_54, w105_55, w105_56, w105_57, w105_60, w105_62, w105_65, w105_66, w105_67, w105_70, w105_73, w105_74, w105_75, w105_76, w105_77, w105_80, w105_82, w105_85, w105_86, w105_89, w105_90, am_fit_i, am_isR, am_okA, exists_eq_left', exists_eq_left, Option.some.injEq, true_and, and_true, List.length_cons, List.length_nil, List.drop_succ_cons, List.drop_zero, List.all_cons, List.all_nil, am_c1, Bool.and_true, Bool.true_and, Bool.and_self, decide_true, decide_false, if_true, if_false, beq_self_eq_true, Nat.reduceAdd, Nat.reduceLeDiff, Nat.reduceLT, Nat.reduceEqDiff, Nat.reduceSub, ite_true, ite_false, and_self, eq_self, am_z_add, am_z_sub, am_z_mul, Int.reduceAdd, Int.reduceSub, Int.reduceMul, Int.reduceLT, Int.reduceLE, Int.reduceEq, Int.reduceNeg, am_then_i, am_then_r, am_then_v, Nat.add_eq, Nat.zero_add, Nat.add_zero, am_fit_z0, am_fit_z1, am_fit_zc, ↓reduceIte, am_lt_T, am_lt_F, am_le_T, am_le_F, am_eq_T, am_eq_F, am_z_lt, am_z_le, am_z_eq, am_z_char, am_set_se, am_set_sk, am_set_sh, rw_o hw, do_at hw, do_end hw tP.2.2 gP, do_end hw tZ.2.2 gZ, do_end hw tF.2.2 gF, c1, c2]
      · rw [if_neg (by omega)]
        simp (disch := first | omega | exact am_fit_z0 | exact am_fit_z1 | (apply am_fit_zc <;> omega)) only [w105_0, w105_1, w105_2, w105_3, w105_4, w105_7, w105_9, w105_12, w105_13, w105_14, w105_15, w105_17, w105_18, w105_19, w105_20, w105_23, w105_24, w105_25, w105_28, w105_31, w105_32, w105_33, w105_36, w105_39, w105_40, w105_41, w105_42, w105_43, w105_44, w105_45, w105_48, w105_51, w105_54, w105_55, w105_56, w105_57, w105_60, w105_62, w105_65, w105_66, w105_67, w105_70, w105_73, w105_74, w105_75, w105_76, w105_77, w105_80, w105_82, w105_85, w105_86, w105_89, w105_90, am_fit_i, am_isR, am_okA, exists_eq_left', exists_eq_left, Option.some.injEq, true_and, and_true, List.length_cons, List.length_nil, List.drop_succ_cons, List.drop_zero, List.all_cons, List.all_nil, am_c1, Bool.and_true, Bool.true_and, Bool.and_self, decide_true, decide_false, if_true, if_false, beq_self_eq_true, Nat.reduceAdd, Nat.reduceLeDiff, Nat.reduceLT, Nat.reduceEqDiff, Nat.reduceSub, ite_true, ite_false, and_self, eq_self, am_z_add, am_z_sub, am_z_mul, Int.reduceAdd, Int.reduceSub, Int.reduceMul, Int.reduceLT, Int.reduceLE, Int.reduceEq, Int.reduceNeg, am_then_i, am_then_r, am_then_v, Nat.add_eq, Nat.zero_add, Nat.add_zero, am_fit_z0, am_fit_z1, am_fit_zc, ↓reduceIte, am_lt_T, am_lt_F, am_le_T, am_le_F, am_eq_T, am_eq_F, am_z_lt, am_z_le, am_z_eq, am_z_char, am_set_se, am_set_sk, am_set_sh, rw_o hw, do_at hw, do_end hw tP.2.2 gP, do_end hw tZ.2.2 gZ, do_end hw tF.2.2 gF, c1]
    · rw [if_neg (by omega)]
      simp (disch := first | omega | exact am_fit_z0 | exact am_fit_z1 | (apply am_fit_zc <;> omega)) only [w105_0, w105_1, w105_2, w105_3, w105_4, w105_7, w105_9, w105_12, w105_13, w105_14, w105_15, w105_17, w105_18, w105_19, w105_20, w105_23, w105_24, w105_25, w105_28, w105_31, w105_32, w105_33, w105_36, w105_39, w105_40, w105_41, w105_42, w105_43, w105_44, w105_45, w105_48, w105_51, w105_54, w105_55, w105_56, w105_57, w105_60, w105_62, w105_65, w105_66, w105_67, w105_70, w105_73, w105_74, w105_75, w105_76, w105_77, w105_80, w105_82, w105_85, w105_86, w105_89, w105_90, am_fit_i, am_isR, am_okA, exists_eq_left', exists_eq_left, Option.some.injEq, true_and, and_true, List.length_cons, List.length_nil, List.drop_succ_cons, List.drop_zero, List.all_cons, List.all_nil, am_c1, Bool.and_true, Bool.true_and, Bool.and_self, decide_true, decide_false, if_true, if_false, beq_self_eq_true, Nat.reduceAdd, Nat.reduceLeDiff, Nat.reduceLT, Nat.reduceEqDiff, Nat.reduceSub, ite_true, ite_false, and_self, eq_self, am_z_add, am_z_sub, am_z_mul, Int.reduceAdd, Int.reduceSub, Int.reduceMul, Int.reduceLT, Int.reduceLE, Int.reduceEq, Int.reduceNeg, am_then_i, am_then_r, am_then_v, Nat.add_eq, Nat.zero_add, Nat.add_zero, am_fit_z0, am_fit_z1, am_fit_zc, ↓reduceIte, am_lt_T, am_lt_F, am_le_T, am_le_F, am_eq_T, am_eq_F, am_z_lt, am_z_le, am_z_eq, am_z_char, am_set_se, am_set_sk, am_set_sh, rw_o hw, do_at hw, do_end hw tP.2.2 gP, do_end hw tZ.2.2 gZ, do_end hw tF.2.2 gF]
theorem do_isCall_t {d : Nat} {n : am_N} {X : Nat × (Nat → Int32)} {S : am_St} {Q : Option Value → am_N → am_M → Prop} {r c : Nat} (hw : am_rw r c) {p : Int} {t : am_T} (hd : 3 ≤ d) (h1 : 0 ≤ S r 1) (h2 : S r 1 ≤ c) (hb : am_tb S r) (h3 : 0 ≤ p) (h4 : p < 2147483000) (ht : am_tr S r p t) (hg : am_gd t) : am_Do d 104 [.ref r, .int (am_z p)] n (am_m X S) Q = Q (some (.int (am_z (if am_isc t = true then 1 else 0)))) n (am_m X S) := by
  rw [do_isCall hw hd h1 h2 hb h3 h4]
  have e : (am_g S r p = 0 ∧ am_g S r (p + 1) = 1) ↔ am_isc t = true := by
    cases t with
    | leaf z =>
      rw [am_tr_leaf ht]
      have hz : 3 ≤ z := hg.1
      constructor
      · intro q; omega
      · intro q; cases q
    | branch k a b =>
      obtain ⟨e0, ta, tb⟩ := am_tr_branch ht
      rw [e0, am_tr_hd ta]
      cases a with
      | leaf z =>
        have hz : 3 ≤ z := hg.2.1.1
        constructor
        · intro q; have : z = 1 := q.2; omega
        · intro q; cases q
      | branch k1 A B =>
        show ((k : Int) = 0 ∧ (k1 : Int) = 1) ↔ (k == 0 && k1 == 1) = true
        simp only [Bool.and_eq_true, beq_iff_eq]
        omega
  by_cases c : am_isc t = true
  · rw [if_pos c, if_pos (e.mpr c)]
  · rw [if_neg c, if_neg (fun q => c (e.mp q))]
theorem do_isRec {d : Nat} {n : am_N} {X : Nat × (Nat → Int32)} {S : am_St} {Q : Option Value → am_N → am_M → Prop} {r c : Nat} (hw : am_rw r c) {p : Int} {t : am_T} (hd : 3 ≤ d) (h1 : 0 ≤ S r 1) (h2 : S r 1 ≤ c) (hb : am_tb S r) (h3 : 0 ≤ p) (h4 : p < 2147483000) (ht : am_tr S r p t) (hg : am_gd t) : am_Do d 105 [.ref r, .int (am_z p)] n (am_m X S) Q = Q (some (.int (am_z (if am_isr t = true then 1 else 0)))) n (am_m X S) := by
  have no : (am_g S r (p + 4) = 8 ∧ am_g S r p = 0 ∧ am_g S r (p + 1) = 0 ∧ am_g S r (p + 2) = 0 ∧ am_g S r (p + 3) = 0 → False) → ¬ am_isr t = true → am_Do d 105 [.ref r, .int (am_z p)] n (am_m X S) Q = Q (some (.int (am_z (if am_isr t = true then 1 else 0)))) n (am_m X S) := fun q q2 => by rw [if_neg q2, do_isRec_f hw hd h1 h2 hb h3 h4 q]
  cases t with
  | leaf z =>
    have e0 := am_tr_leaf ht
    have hz : 3 ≤ z := hg.1
    exact no (by omega) (fun q => by cases q)
  | branch k a b =>
    obtain ⟨e0, ta, tb⟩ := am_tr_branch ht
    obtain ⟨hk, ga, gb⟩ := hg
    by_cases hk0 : k = 0
    rotate_left
    · refine no (by omega) (fun q => ?_)
      cases a with
      | leaf z => cases q
      | branch k1 A B => simp [am_isr, hk0] at q
    subst hk0
    have e1 := am_tr_hd ta
    cases a with
    | leaf z =>
      have hz : 3 ≤ z := ga.1
      have e1' : am_g S r (p + 1) = z := e1
      exact no (by omega) (fun q => by cases q)
    | branch k1 A F =>
      obtain ⟨-, tA, tF⟩ := am_tr_branch ta
      obtain ⟨hk1, gA, gF⟩ := ga
      have e1' : am_g S r (p + 1) = k1 := e1
      by_cases hk10 : k1 = 0
      rotate_left
      · exact no (by omega) (fun q => by simp [am_isr, hk10] at q)
      subst hk10
      rw [show p + 1 + 1 = p + 2 by omega] at tA tF
      have e2 := am_tr_hd tA
      cases A with
      | leaf z =>
        have hz : 3 ≤ z := gA.1
        have e2' : am_g S r (p + 2) = z := e2
        exact no (by omega) (fun q => by simp [am_isr, am_rr] at q)
      | branch k2 A1 Z =>
        obtain ⟨-, tA1, tZ⟩ := am_tr_branch tA
        obtain ⟨hk2, gA1, gZ⟩ := gA
        have e2' : am_g S r (p + 2) = k2 := e2
        by_cases hk20 : k2 = 0
        rotate_left
        · refine no (by omega) (fun q => ?_)
          cases A1 with
          | leaf z => simp [am_isr, am_rr] at q
          | branch k3 A2 P => cases A2 <;> simp [am_isr, am_rr, hk20] at q
        subst hk20
        rw [show p + 2 + 1 = p + 3 by omega] at tA1 tZ
        have e3 := am_tr_hd tA1
        cases A1 with
        | leaf z =>
          have hz : 3 ≤ z := gA1.1
          have e3' : am_g S r (p + 3) = z := e3
          exact no (by omega) (fun q => by simp [am_isr, am_rr] at q)
        | branch k3 A2 P =>
          obtain ⟨-, tA2, tP⟩ := am_tr_branch tA1
          obtain ⟨hk3, gA2, gP⟩ := gA1
          have e3' : am_g S r (p + 3) = k3 := e3
          by_cases hk30 : k3 = 0
          rotate_left
          · refine no (by omega) (fun q => ?_)
            cases A2 <;> simp [am_isr, am_rr, hk30] at q
          subst hk30
          rw [show p + 3 + 1 = p + 4 by omega] at tA2 tP
          have e4 := am_tr_hd tA2
          cases A2 with
          | branch k4 _ _ =>
            have hk4 := gA2.1
            have e4' : am_g S r (p + 4) = k4 := e4
            exact no (by omega) (fun q => by simp [am_isr, am_rr] at q)
          | leaf w =>
            have e4' : am_g S r (p + 4) = w := e4
            by_cases hw8 : w = 8
            rotate_left
            · exact no (by omega) (fun q => by simp [am_isr, am_rr, hw8] at q)
            subst hw8
            have s1 : am_sz (.leaf 8 : am_T) = 1 := rfl
            have s2 : am_sz (.branch 0 (.leaf 8) P : am_T) = am_sz P + 2 := by show 1 + am_sz P + 1 = _; omega
            have s3 : am_sz (.branch 0 (.branch 0 (.leaf 8) P) Z : am_T) = am_sz P + am_sz Z + 3 := by show am_sz (.branch 0 (.leaf 8) P : am_T) + am_sz Z + 1 = _; rw [s2]; omega
            have s4 : am_sz (.branch 0 (.branch 0 (.branch 0 (.leaf 8) P) Z) F : am_T) = am_sz P + am_sz Z + am_sz F + 4 := by show am_sz (.branch 0 (.branch 0 (.leaf 8) P) Z : am_T) + am_sz F + 1 = _; rw [s3]; omega
            rw [s1, show p + 4 + ((1 : Nat) : Int) = p + 5 by omega] at tP
            rw [s2, show p + 3 + ((am_sz P + 2 : Nat) : Int) = p + 5 + am_sz P by omega] at tZ
            rw [s3, show p + 2 + ((am_sz P + am_sz Z + 3 : Nat) : Int) = p + 5 + am_sz P + am_sz Z by omega] at tF
            rw [s4, show p + 1 + ((am_sz P + am_sz Z + am_sz F + 4 : Nat) : Int) = p + 5 + am_sz P + am_sz Z + am_sz F by omega] at tb
            rw [do_isRec_t hw hd h1 h2 hb h3 h4 e4' e0 e1' e2' e3' tP tZ tF gP gZ gF]
            have en := am_tr_hd tb
            rw [en]
            cases b with
            | leaf y =>
              have hy : 3 ≤ y := gb.1
              have e : (am_hd (.leaf y) = 6 ∨ (am_hd (.leaf y) = 0 ∧ am_g S r (p + 5 + am_sz P + am_sz Z + am_sz F + 1) = 7)) ↔ am_isr (.branch 0 (.branch 0 (.branch 0 (.branch 0 (.leaf 8) P) Z) F) (.leaf y)) = true := by
                show (y = 6 ∨ (y = 0 ∧ _)) ↔ _
                by_cases h6 : y = 6
                · simp [am_isr, am_rr, h6]
                · simp [am_isr, am_rr, h6]
                  omega
              simp only [e]
            | branch kb m1 m2 =>
              obtain ⟨-, tm1, -⟩ := am_tr_branch tb
              rw [am_tr_hd tm1]
              have hkb := gb.1
              have e : (am_hd (.branch kb m1 m2) = 6 ∨ (am_hd (.branch kb m1 m2) = 0 ∧ am_hd m1 = 7)) ↔ am_isr (.branch 0 (.branch 0 (.branch 0 (.branch 0 (.leaf 8) P) Z) F) (.branch kb m1 m2)) = true := by
                show ((kb : Int) = 6 ∨ ((kb : Int) = 0 ∧ _)) ↔ _
                cases m1 with
                | leaf y =>
                  show ((kb : Int) = 6 ∨ ((kb : Int) = 0 ∧ y = 7)) ↔ _
                  by_cases h6 : kb = 0
                  · by_cases h7 : y = 7
                    · simp [am_isr, am_rr, h6, h7]
                    · simp [am_isr, am_rr, h6, h7]
                  · simp [am_isr, am_rr, h6]
                    omega
                | branch ky _ _ =>
                  have hky := gb.2.1.1
                  show ((kb : Int) = 6 ∨ ((kb : Int) = 0 ∧ (ky : Int) = 7)) ↔ _
                  simp [am_isr, am_rr]
                  omega
              simp only [e]
