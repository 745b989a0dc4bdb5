/-! the reference's rows: the same trees with other tokens -/
def am_et (z : Int) : Int := if z ≤ 5 then z + 1 else if z = 6 then 9 else if z ≤ 8 then z else if z < 18 then z + 10 else z + 50
def am_en : am_T → am_T
  | .leaf z => .leaf (am_et z)
  | .branch k a b => .branch (k + 1) (am_en a) (am_en b)
def am_ge : am_T → Prop
  | .leaf z => 4 ≤ z ∧ z < 1100
  | .branch k a b => 1 ≤ k ∧ k ≤ 3 ∧ am_ge a ∧ am_ge b
theorem am_et_b {z : Int} (h0 : 3 ≤ z) (h1 : z < 1000) : 4 ≤ am_et z ∧ am_et z < 1100 := by
  unfold am_et
  split
  · omega
  · split
    · omega
    · split
      · omega
      · split <;> omega
theorem am_ge_en : ∀ {t : am_T}, am_gd t → am_ge (am_en t)
  | .leaf z, h => am_et_b h.1 h.2
  | .branch k a b, h => ⟨by omega, by have := h.1; omega, am_ge_en h.2.1, am_ge_en h.2.2⟩
theorem am_sz_en : ∀ {t : am_T}, am_sz (am_en t) = am_sz t
  | .leaf z => rfl
  | .branch k a b => by
    show am_sz (am_en a) + am_sz (am_en b) + 1 = am_sz a + am_sz b + 1
    rw [am_sz_en, am_sz_en]
theorem do_ar_2 {d : Nat} {n : am_N} {X : Nat × (Nat → Int32)} {S : am_St} {Q : Option Value → am_N → am_M → Prop} {t : Int} (hd : 1 ≤ d) (h0 : 1 ≤ t) (h1 : t ≤ 3) : am_Do d 35 [.int (am_z t)] n (am_m X S) Q = Q (some (.int (am_z 2))) n (am_m X S) := by
  rw [in_35 (by omega)]
  simp (disch := first | omega | exact am_fit_z0 | exact am_fit_z1 | (apply am_fit_zc <;> omega)) only [w35_0, w35_1, w35_2, w35_5, w35_6, w35_7, w35_10, w35_11, w35_14, w35_15, am_fit_i, am_isR, am_okA, exists_eq_left', exists_eq_left, Option.some.injEq, true_and, and_true, List.length_cons, List.length_nil, List.drop_succ_cons, List.drop_zero, List.all_cons, List.all_nil, am_c1, Bool.and_true, Bool.true_and, Bool.and_self, decide_true, decide_false, if_true, if_false, beq_self_eq_true, Nat.reduceAdd, Nat.reduceLeDiff, Nat.reduceLT, Nat.reduceEqDiff, Nat.reduceSub, ite_true, ite_false, and_self, eq_self, am_z_add, am_z_sub, am_z_mul, Int.reduceAdd, Int.reduceSub, Int.reduceMul, Int.reduceLT, Int.reduceLE, Int.reduceEq, Int.reduceNeg, am_then_i, am_then_r, am_then_v, Nat.add_eq, Nat.zero_add, Nat.add_zero, am_fit_z0, am_fit_z1, am_fit_zc, ↓reduceIte, am_lt_T, am_lt_F, am_le_T, am_le_F, am_eq_T, am_eq_F, am_z_lt, am_z_le, am_z_eq, am_z_char, am_set_se, am_set_sk, am_set_sh]
theorem do_ar_0 {d : Nat} {n : am_N} {X : Nat × (Nat → Int32)} {S : am_St} {Q : Option Value → am_N → am_M → Prop} {t : Int} (hd : 1 ≤ d) (h0 : t < 1 ∨ 3 < t) (h1 : -2147483648 ≤ t) (h2 : t < 2147483648) : am_Do d 35 [.int (am_z t)] n (am_m X S) Q = Q (some (.int (am_z 0))) n (am_m X S) := by
  rw [in_35 (by omega)]
  by_cases h : t < 1
  · simp (disch := first | omega | exact am_fit_z0 | exact am_fit_z1 | (apply am_fit_zc <;> omega)) only [w35_0, w35_1, w35_2, w35_5, w35_6, w35_7, w35_10, w35_11, w35_14, w35_15, am_fit_i, am_isR, am_okA, exists_eq_left', exists_eq_left, Option.some.injEq, true_and, and_true, List.length_cons, List.length_nil, List.drop_succ_cons, List.drop_zero, List.all_cons, List.all_nil, am_c1, Bool.and_true, Bool.true_and, Bool.and_self, decide_true, decide_false, if_true, if_false, beq_self_eq_true, Nat.reduceAdd, Nat.reduceLeDiff, Nat.reduceLT, Nat.reduceEqDiff, Nat.reduceSub, ite_true, ite_false, and_self, eq_self, am_z_add, am_z_sub, am_z_mul, Int.reduceAdd, Int.reduceSub, Int.reduceMul, Int.reduceLT, Int.reduceLE, Int.reduceEq, Int.reduceNeg, am_then_i, am_then_r, am_then_v, Nat.add_eq, Nat.zero_add, Nat.add_zero, am_fit_z0, am_fit_z1, am_fit_zc, ↓reduceIte, am_lt_T, am_lt_F, am_le_T, am_le_F, am_eq_T, am_eq_F, am_z_lt, am_z_le, am_z_eq, am_z_char, am_set_se, am_set_sk, am_set_sh]
  · simp (disch := first | omega | exact am_fit_z0 | exact am_fit_z1 | (apply am_fit_zc <;> omega)) only [w35_0, w35_1, w35_2, w35_5, w35_6, w35_7, w35_10, w35_11, w35_14, w35_15, am_fit_i, am_isR, am_okA, exists_eq_left', exists_eq_left, Option.some.injEq, true_and, and_true, List.length_cons, List.length_nil, List.drop_succ_cons, List.drop_zero, List.all_cons, List.all_nil, am_c1, Bool.and_true, Bool.true_and, Bool.and_self, decide_true, decide_false, if_true, if_false, beq_self_eq_true, Nat.reduceAdd, Nat.reduceLeDiff, Nat.reduceLT, Nat.reduceEqDiff, Nat.reduceSub, ite_true, ite_false, and_self, eq_self, am_z_add, am_z_sub, am_z_mul, Int.reduceAdd, Int.reduceSub, Int.reduceMul, Int.reduceLT, Int.reduceLE, Int.reduceEq, Int.reduceNeg, am_then_i, am_then_r, am_then_v, Nat.add_eq, Nat.zero_add, Nat.add_zero, am_fit_z0, am_fit_z1, am_fit_zc, ↓reduceIte, am_lt_T, am_lt_F, am_le_T, am_le_F, am_eq_T, am_eq_F, am_z_lt, am_z_le, am_z_eq, am_z_char, am_set_se, am_set_sk, am_set_sh]
theorem eo_loop {d : Nat} {n : am_N} {X : Nat × (Nat → Int32)} {S : am_St} {Q : Option Value → am_N → am_M → Prop} {a N : Nat} {a1 : Value} (hd : 1 ≤ d) (hw : am_ar 0 a N) : ∀ (m : Nat) {F : List am_T} {i : Int}, (am_fl F).length ≤ m → (∀ t ∈ F, am_ge t) → 0 ≤ i → i + (am_fl F).length ≤ N → am_sg (S a) i (am_fl F) → am_AW d 36 (4, [.ref a, a1, .int (am_z F.length), .int (am_z i)], [], n, am_m X S) Q = Q (some (.int (am_z (i + (am_fl F).length)))) n (am_m X S)
  | m, [], i, hm, hg, h0, h2, h3 => by
    rw [am_fl_nil, List.length_nil] at h2 ⊢
    rw [w36_4]
    simp (disch := first | omega | exact am_fit_z0 | exact am_fit_z1 | (apply am_fit_zc <;> omega)) only [w36_0, w36_1, w36_2, w36_3, w36_5, w36_8, w36_9, w36_10, w36_11, w36_12, w36_13, w36_14, w36_17, w36_18, w36_19, w36_22, w36_25, w36_26, am_fit_i, am_isR, am_okA, exists_eq_left', exists_eq_left, Option.some.injEq, true_and, and_true, List.length_cons, List.length_nil, List.drop_succ_cons, List.drop_zero, List.all_cons, List.all_nil, am_c1, Bool.and_true, Bool.true_and, Bool.and_self, decide_true, decide_false, if_true, if_false, beq_self_eq_true, Nat.reduceAdd, Nat.reduceLeDiff, Nat.reduceLT, Nat.reduceEqDiff, Nat.reduceSub, ite_true, ite_false, and_self, eq_self, am_z_add, am_z_sub, am_z_mul, Int.reduceAdd, Int.reduceSub, Int.reduceMul, Int.reduceLT, Int.reduceLE, Int.reduceEq, Int.reduceNeg, am_then_i, am_then_r, am_then_v, Nat.add_eq, Nat.zero_add, Nat.add_zero, am_fit_z0, am_fit_z1, am_fit_zc, ↓reduceIte, am_lt_T, am_lt_F, am_le_T, am_le_F, am_eq_T, am_eq_F, am_z_lt, am_z_le, am_z_eq, am_z_char, am_set_se, am_set_sk, am_set_sh, Int.natCast_zero, Int.add_zero, Int.cast_ofNat_Int]
  | 0, t :: F, i, hm, hg, h0, h2, h3 => by
    exfalso
    have := am_sz_pos t
    have e : (am_fl (t :: F)).length = am_sz t + (am_fl F).length := by
      show (am_lay t ++ am_fl F).length = _
      rw [List.length_append, am_lay_len]
    omega
  | m + 1, .leaf z :: F, i, hm, hg, h0, h2, h3 => by
    have hN := hw.1
    have hz : 4 ≤ z ∧ z < 1100 := hg (.leaf z) (List.mem_cons_self)
    rw [am_fl_leaf] at hm h2 h3 ⊢
    rw [List.length_cons] at hm h2
    obtain ⟨hv, h3'⟩ := am_sg_cons.mp h3
    rw [w36_4]
    have e : (((Lean.RArray.leaf z :: F : List am_T).length : Nat) : Int) = (F.length : Int) + 1 := by rw [List.length_cons]; omega
    rw [e]
    have eF := am_fl_len (F := F)
    simp (disch := first | omega | exact am_fit_z0 | exact am_fit_z1 | (apply am_fit_zc <;> omega)) only [w36_0, w36_1, w36_2, w36_3, w36_5, w36_8, w36_9, w36_10, w36_11, w36_12, w36_13, w36_14, w36_17, w36_18, w36_19, w36_22, w36_25, w36_26, am_fit_i, am_isR, am_okA, exists_eq_left', exists_eq_left, Option.some.injEq, true_and, and_true, List.length_cons, List.length_nil, List.drop_succ_cons, List.drop_zero, List.all_cons, List.all_nil, am_c1, Bool.and_true, Bool.true_and, Bool.and_self, decide_true, decide_false, if_true, if_false, beq_self_eq_true, Nat.reduceAdd, Nat.reduceLeDiff, Nat.reduceLT, Nat.reduceEqDiff, Nat.reduceSub, ite_true, ite_false, and_self, eq_self, am_z_add, am_z_sub, am_z_mul, Int.reduceAdd, Int.reduceSub, Int.reduceMul, Int.reduceLT, Int.reduceLE, Int.reduceEq, Int.reduceNeg, am_then_i, am_then_r, am_then_v, Nat.add_eq, Nat.zero_add, Nat.add_zero, am_fit_z0, am_fit_z1, am_fit_zc, ↓reduceIte, am_lt_T, am_lt_F, am_le_T, am_le_F, am_eq_T, am_eq_F, am_z_lt, am_z_le, am_z_eq, am_z_char, am_set_se, am_set_sk, am_set_sh, am_ald_m hw, hv, do_ar_2, do_ar_0]
    have ih := eo_loop (d := d) (n := n) (X := X) (Q := Q) (a1 := a1) hd hw m (F := F) (i := i + 1) (by omega) (fun t ht => hg t (List.mem_cons_of_mem _ ht)) (by omega) (by omega) h3'
    rw [show (F.length : Int) + 1 - 1 + 0 = F.length by omega, ih, show i + 1 + ((am_fl F).length : Int) = i + (((am_fl F).length + 1 : Nat) : Int) by omega]
  | m + 1, .branch k a b :: F, i, hm, hg, h0, h2, h3 => by
    have hN := hw.1
    have hz : 1 ≤ k ∧ k ≤ 3 ∧ am_ge a ∧ am_ge b := hg (.branch k a b) (List.mem_cons_self)
    rw [am_fl_branch] at hm h2 h3 ⊢
    rw [List.length_cons] at hm h2
    obtain ⟨hv, h3'⟩ := am_sg_cons.mp h3
    rw [w36_4]
    have e : (((Lean.RArray.branch k a b :: F : List am_T).length : Nat) : Int) = (F.length : Int) + 1 := by rw [List.length_cons]; omega
    rw [e]
    have eF := am_fl_len (F := a :: b :: F)
    rw [List.length_cons, List.length_cons] at eF
    simp (disch := first | omega | exact am_fit_z0 | exact am_fit_z1 | (apply am_fit_zc <;> omega)) only [w36_0, w36_1, w36_2, w36_3, w36_5, w36_8, w36_9, w36_10, w36_11, w36_12, w36_13, w36_14, w36_17, w36_18, w36_19, w36_22, w36_25, w36_26, am_fit_i, am_isR, am_okA, exists_eq_left', exists_eq_left, Option.some.injEq, true_and, and_true, List.length_cons, List.length_nil, List.drop_succ_cons, List.drop_zero, List.all_cons, List.all_nil, am_c1, Bool.and_true, Bool.true_and, Bool.and_self, decide_true, decide_false, if_true, if_false, beq_self_eq_true, Nat.reduceAdd, Nat.reduceLeDiff, Nat.reduceLT, Nat.reduceEqDiff, Nat.reduceSub, ite_true, ite_false, and_self, eq_self, am_z_add, am_z_sub, am_z_mul, Int.reduceAdd, Int.reduceSub, Int.reduceMul, Int.reduceLT, Int.reduceLE, Int.reduceEq, Int.reduceNeg, am_then_i, am_then_r, am_then_v, Nat.add_eq, Nat.zero_add, Nat.add_zero, am_fit_z0, am_fit_z1, am_fit_zc, ↓reduceIte, am_lt_T, am_lt_F, am_le_T, am_le_F, am_eq_T, am_eq_F, am_z_lt, am_z_le, am_z_eq, am_z_char, am_set_se, am_set_sk, am_set_sh, am_ald_m hw, hv, do_ar_2, do_ar_0]
    have ih := eo_loop (d := d) (n := n) (X := X) (Q := Q) (a1 := a1) hd hw m (F := a :: b :: F) (i := i + 1) (by omega) (fun t ht => by
      rcases List.mem_cons.mp ht with rfl | ht
      · exact hz.2.2.1
      · rcases List.mem_cons.mp ht with rfl | ht
        · exact hz.2.2.2
        · exact hg t (List.mem_cons_of_mem _ ht)) (by omega) (by omega) h3'
    rw [List.length_cons, List.length_cons] at ih
    rw [show (F.length : Int) + 1 - 1 + 2 = ((F.length + 1 + 1 : Nat) : Int) by omega, ih, show i + 1 + ((am_fl (a :: b :: F)).length : Int) = i + (((am_fl (a :: b :: F)).length + 1 : Nat) : Int) by omega]
theorem do_endOf {d : Nat} {n : am_N} {X : Nat × (Nat → Int32)} {S : am_St} {Q : Option Value → am_N → am_M → Prop} {a N : Nat} {p : Int} {t : am_T} (hw : am_ar 0 a N) (ht : am_sg (S a) p (am_lay t)) (hg : am_ge t) (hd : 2 ≤ d) (h0 : 0 ≤ p) (h2 : p + am_sz t ≤ N) : am_Do d 36 [.ref a, .int (am_z p)] n (am_m X S) Q = Q (some (.int (am_z (p + am_sz t)))) n (am_m X S) := by
  rw [in_36 (by omega), w36_0, w36_1, w36_2, w36_3]
  have h := eo_loop (d := d - 1) (n := n) (X := X) (Q := Q) (a1 := .int (am_z p)) (by omega) hw (am_fl [t]).length (F := [t]) (i := p) (Nat.le_refl _) (fun u hu => by rw [List.mem_singleton.mp hu]; exact hg) h0 (by rw [am_fl_one, am_lay_len]; exact h2) (by rw [am_fl_one]; exact ht)
  rw [am_fl_one, am_lay_len] at h
  exact h
def am_dl : Nat → am_T → List Int
  | j, .leaf _ => [(j : Int)]
  | j, .branch k a b => (j : Int) :: (am_dl j a ++ am_dl (j + am_bd k) b)
theorem am_dl_len : ∀ {j : Nat} {t : am_T}, (am_dl j t).length = am_sz t
  | _, .leaf _ => rfl
  | j, .branch k a b => by
    show ((j : Int) :: (am_dl j a ++ am_dl (j + am_bd k) b)).length = am_sz a + am_sz b + 1
    rw [List.length_cons, List.length_append, am_dl_len, am_dl_len]
def am_f1 (h0 : Nat) (S S' : am_St) : Prop := ∀ h, h ≠ h0 → S' h = S h
theorem me_zero {d : Nat} {n : am_N} {X : Nat × (Nat → Int32)} {Q : Option Value → am_N → am_M → Prop} {a : Nat} {p0 e0 : Int} {v5 v6 v7 : Value} (h0 : 0 ≤ p0) (he : e0 ≤ 1800) : ∀ (m : Nat) {k : Int} {S : am_St}, k + m = e0 → p0 ≤ k → (∀ (S' : am_St), am_f1 199 S S' → (∀ x, S' 199 x = if k ≤ x ∧ x < e0 then 0 else S 199 x) → am_AW d 37 (23, [.ref 179, .ref a, .int (am_z p0), .int (am_z e0), .int (am_z e0), v5, v6, v7], [], n, am_m X S') Q) → am_AW d 37 (3, [.ref 179, .ref a, .int (am_z p0), .int (am_z e0), .int (am_z k), v5, v6, v7], [], n, am_m X S) Q
  | 0, k, S, hk, hp, hQ => by
    have e : k = e0 := by omega
    subst e
    rw [w37_3]
    simp (disch := first | omega | exact am_fit_z0 | exact am_fit_z1 | (apply am_fit_zc <;> omega)) only [w37_0, w37_1, w37_5, w37_6, w37_9, w37_10, w37_13, w37_15, w37_16, w37_17, w37_20, w37_24, w37_26, w37_28, w37_29, w37_32, w37_33, w37_35, w37_36, w37_37, w37_40, w37_41, w37_43, w37_44, w37_45, w37_48, w37_49, w37_51, w37_52, w37_53, w37_56, w37_58, w37_59, w37_61, w37_64, w37_66, w37_68, w37_70, w37_72, w37_74, w37_77, w37_78, w37_81, w37_83, w37_84, w37_85, w37_86, w37_87, w37_88, w37_91, w37_94, w37_97, w37_100, am_fit_i, am_isR, am_okA, exists_eq_left', exists_eq_left, Option.some.injEq, true_and, and_true, List.length_cons, List.length_nil, List.drop_succ_cons, List.drop_zero, List.all_cons, List.all_nil, am_c1, Bool.and_true, Bool.true_and, Bool.and_self, decide_true, decide_false, if_true, if_false, beq_self_eq_true, Nat.reduceAdd, Nat.reduceLeDiff, Nat.reduceLT, Nat.reduceEqDiff, Nat.reduceSub, ite_true, ite_false, and_self, eq_self, am_z_add, am_z_sub, am_z_mul, Int.reduceAdd, Int.reduceSub, Int.reduceMul, Int.reduceLT, Int.reduceLE, Int.reduceEq, Int.reduceNeg, am_then_i, am_then_r, am_then_v, Nat.add_eq, Nat.zero_add, Nat.add_zero, am_fit_z0, am_fit_z1, am_fit_zc, ↓reduceIte, am_lt_T, am_lt_F, am_le_T, am_le_F, am_eq_T, am_eq_F, am_z_lt, am_z_le, am_z_eq, am_z_char, am_set_se, am_set_sk, am_set_sh]
    exact hQ S (fun _ _ => rfl) (fun x => by rw [if_neg (by omega)])
  | m + 1, k, S, hk, hp, hQ => by
    rw [w37_3]
    simp (disch := first | omega | exact am_fit_z0 | exact am_fit_z1 | (apply am_fit_zc <;> omega)) only [w37_0, w37_1, w37_5, w37_6, w37_9, w37_10, w37_13, w37_15, w37_16, w37_17, w37_20, w37_24, w37_26, w37_28, w37_29, w37_32, w37_33, w37_35, w37_36, w37_37, w37_40, w37_41, w37_43, w37_44, w37_45, w37_48, w37_49, w37_51, w37_52, w37_53, w37_56, w37_58, w37_59, w37_61, w37_64, w37_66, w37_68, w37_70, w37_72, w37_74, w37_77, w37_78, w37_81, w37_83, w37_84, w37_85, w37_86, w37_87, w37_88, w37_91, w37_94, w37_97, w37_100, am_fit_i, am_isR, am_okA, exists_eq_left', exists_eq_left, Option.some.injEq, true_and, and_true, List.length_cons, List.length_nil, List.drop_succ_cons, List.drop_zero, List.all_cons, List.all_nil, am_c1, Bool.and_true, Bool.true_and, Bool.and_self, decide_true, decide_false, if_true, if_false, beq_self_eq_true, Nat.reduceAdd, Nat.reduceLeDiff, Nat.reduceLT, Nat.reduceEqDiff, Nat.reduceSub, ite_true, ite_false, and_self, eq_self, am_z_add, am_z_sub, am_z_mul, Int.reduceAdd, Int.reduceSub, Int.reduceMul, Int.reduceLT, Int.reduceLE, Int.reduceEq, Int.reduceNeg, am_then_i, am_then_r, am_then_v, Nat.add_eq, Nat.zero_add, Nat.add_zero, am_fit_z0, am_fit_z1, am_fit_zc, ↓reduceIte, am_lt_T, am_lt_F, am_le_T, am_le_F, am_eq_T, am_eq_F, am_z_lt, am_z_le, am_z_eq, am_z_char, am_set_se, am_set_sk, am_set_sh, o_179, f_179_0, f_179_1, s_179_1, f_179_2, f_179_3, s_179_3, f_179_4, s_179_4, f_179_5, f_179_6, s_179_6, f_179_7, s_179_7, f_179_8, f_179_9, f_179_10, f_179_11, f_179_12, s_179_12, f_179_13, f_179_14, f_179_15, f_179_16, f_179_17, s_179_17, f_179_18, s_179_18, f_179_19, f_179_20, f_179_21, f_179_22, f_179_23, f_179_24, s_179_24, f_179_25, f_179_26, f_179_27, s_179_27, f_179_28, f_179_29, s_179_29, f_179_30, f_179_31, f_179_32, f_179_33, s_179_33, f_179_34, s_179_34, f_179_35, f_179_36, f_179_37, f_179_38, f_179_39, f_179_40, s_179_40, f_179_41, f_179_42, f_179_43, s_179_43, f_179_44, l_199, t_199]
    refine me_zero h0 he m (k := k + 1) (by omega) (by omega) (fun S1 f1 g1 => hQ S1 (fun h hh => by rw [f1 h hh, am_set_sh hh]) (fun x => ?_))
    rw [g1 x]
    by_cases c1 : k + 1 ≤ x ∧ x < e0
    · rw [if_pos c1, if_pos (by omega)]
    · rw [if_neg c1, am_set_at]
      by_cases c2 : x = k
      · rw [if_pos ⟨rfl, c2⟩, if_pos (by omega)]
      · rw [if_neg (fun q => c2 q.2), if_neg (by omega)]
theorem me_inc {d : Nat} {n : am_N} {X : Nat × (Nat → Int32)} {Q : Option Value → am_N → am_M → Prop} {a : Nat} {p0 e0 e : Int} {v4 v5 : Value} (he : e ≤ 1800) : ∀ (m : Nat) {i : Int} {S : am_St}, i + m = e → 0 ≤ i → (∀ (S' : am_St), am_f1 199 S S' → (∀ x, S' 199 x = if i ≤ x ∧ x < e then S 199 x + 1 else S 199 x) → am_AW d 37 (94, [.ref 179, .ref a, .int (am_z p0), .int (am_z e0), v4, v5, .int (am_z e), .int (am_z e)], [], n, am_m X S') Q) → am_AW d 37 (70, [.ref 179, .ref a, .int (am_z p0), .int (am_z e0), v4, v5, .int (am_z e), .int (am_z i)], [], n, am_m X S) Q
  | 0, i, S, hk, hp, hQ => by
    have e1 : i = e := by omega
    subst e1
    rw [w37_70]
    simp (disch := first | omega | exact am_fit_z0 | exact am_fit_z1 | (apply am_fit_zc <;> omega)) only [w37_0, w37_1, w37_3, w37_5, w37_6, w37_9, w37_10, w37_13, w37_15, w37_16, w37_17, w37_20, w37_23, w37_24, w37_26, w37_28, w37_29, w37_32, w37_33, w37_35, w37_36, w37_37, w37_40, w37_41, w37_43, w37_44, w37_45, w37_48, w37_49, w37_51, w37_52, w37_53, w37_56, w37_58, w37_59, w37_61, w37_64, w37_66, w37_68, w37_72, w37_74, w37_77, w37_78, w37_81, w37_83, w37_84, w37_85, w37_86, w37_87, w37_88, w37_91, w37_97, w37_100, am_fit_i, am_isR, am_okA, exists_eq_left', exists_eq_left, Option.some.injEq, true_and, and_true, List.length_cons, List.length_nil, List.drop_succ_cons, List.drop_zero, List.all_cons, List.all_nil, am_c1, Bool.and_true, Bool.true_and, Bool.and_self, decide_true, decide_false, if_true, if_false, beq_self_eq_true, Nat.reduceAdd, Nat.reduceLeDiff, Nat.reduceLT, Nat.reduceEqDiff, Nat.reduceSub, ite_true, ite_false, and_self, eq_self, am_z_add, am_z_sub, am_z_mul, Int.reduceAdd, Int.reduceSub, Int.reduceMul, Int.reduceLT, Int.reduceLE, Int.reduceEq, Int.reduceNeg, am_then_i, am_then_r, am_then_v, Nat.add_eq, Nat.zero_add, Nat.add_zero, am_fit_z0, am_fit_z1, am_fit_zc, ↓reduceIte, am_lt_T, am_lt_F, am_le_T, am_le_F, am_eq_T, am_eq_F, am_z_lt, am_z_le, am_z_eq, am_z_char, am_set_se, am_set_sk, am_set_sh]
    exact hQ S (fun _ _ => rfl) (fun x => by rw [if_neg (by omega)])
  | m + 1, i, S, hk, hp, hQ => by
    rw [w37_70]
    simp (disch := first | omega | exact am_fit_z0 | exact am_fit_z1 | (apply am_fit_zc <;> omega)) only [w37_0, w37_1, w37_3, w37_5, w37_6, w37_9, w37_10, w37_13, w37_15, w37_16, w37_17, w37_20, w37_23, w37_24, w37_26, w37_28, w37_29, w37_32, w37_33, w37_35, w37_36, w37_37, w37_40, w37_41, w37_43, w37_44, w37_45, w37_48, w37_49, w37_51, w37_52, w37_53, w37_56, w37_58, w37_59, w37_61, w37_64, w37_66, w37_68, w37_72, w37_74, w37_77, w37_78, w37_81, w37_83, w37_84, w37_85, w37_86, w37_87, w37_88, w37_91, w37_97, w37_100, am_fit_i, am_isR, am_okA, exists_eq_left', exists_eq_left, Option.some.injEq, true_and, and_true, List.length_cons, List.length_nil, List.drop_succ_cons, List.drop_zero, List.all_cons, List.all_nil, am_c1, Bool.and_true, Bool.true_and, Bool.and_self, decide_true, decide_false, if_true, if_false, beq_self_eq_true, Nat.reduceAdd, Nat.reduceLeDiff, Nat.reduceLT, Nat.reduceEqDiff, Nat.reduceSub, ite_true, ite_false, and_self, eq_self, am_z_add, am_z_sub, am_z_mul, Int.reduceAdd, Int.reduceSub, Int.reduceMul, Int.reduceLT, Int.reduceLE, Int.reduceEq, Int.reduceNeg, am_then_i, am_then_r, am_then_v, Nat.add_eq, Nat.zero_add, Nat.add_zero, am_fit_z0, am_fit_z1, am_fit_zc, ↓reduceIte, am_lt_T, am_lt_F, am_le_T, am_le_F, am_eq_T, am_eq_F, am_z_lt, am_z_le, am_z_eq, am_z_char, am_set_se, am_set_sk, am_set_sh, o_179, f_179_0, f_179_1, s_179_1, f_179_2, f_179_3, s_179_3, f_179_4, s_179_4, f_179_5, f_179_6, s_179_6, f_179_7, s_179_7, f_179_8, f_179_9, f_179_10, f_179_11, f_179_12, s_179_12, f_179_13, f_179_14, f_179_15, f_179_16, f_179_17, s_179_17, f_179_18, s_179_18, f_179_19, f_179_20, f_179_21, f_179_22, f_179_23, f_179_24, s_179_24, f_179_25, f_179_26, f_179_27, s_179_27, f_179_28, f_179_29, s_179_29, f_179_30, f_179_31, f_179_32, f_179_33, s_179_33, f_179_34, s_179_34, f_179_35, f_179_36, f_179_37, f_179_38, f_179_39, f_179_40, s_179_40, f_179_41, f_179_42, f_179_43, s_179_43, f_179_44, l_199, t_199]
    refine me_inc he m (i := i + 1) (by omega) (by omega) (fun S1 f1 g1 => hQ S1 (fun h hh => by rw [f1 h hh, am_set_sh hh]) (fun x => ?_))
    rw [g1 x]
    by_cases c2 : x = i
    · subst c2
      rw [if_neg (by omega), am_set_se, if_pos (by omega)]
    · rw [am_set_sk c2]
      by_cases c1 : i + 1 ≤ x ∧ x < e
      · rw [if_pos c1, if_pos (by omega)]
      · rw [if_neg c1, if_neg (by omega)]
theorem me_tree {d : Nat} {n : am_N} {X : Nat × (Nat → Int32)} {Q : Option Value → am_N → am_M → Prop} {a N : Nat} {p0 e0 : Int} (hd : 3 ≤ d) (hw : am_ar 0 a N) (ha : a ≠ 199) (hN : N ≤ 1800) (he : e0 ≤ N) : ∀ {t : am_T} {p : Int} {j : Nat} {v5 v6 v7 : Value} {S : am_St}, am_gd t → 0 ≤ p → p + am_sz t ≤ e0 → am_sg (S a) p (am_lay (am_en t)) → (∀ x, p ≤ x → x < p + am_sz t → S 199 x = j) → (∀ (S' : am_St) v5' v6' v7', am_f1 199 S S' → (∀ x, x < p ∨ p + am_sz t ≤ x → S' 199 x = S 199 x) → am_sg (S' 199) p (am_dl j t) → am_AW d 37 (26, [.ref 179, .ref a, .int (am_z p0), .int (am_z e0), .int (am_z (p + am_sz t)), v5', v6', v7'], [], n, am_m X S') Q) → am_AW d 37 (26, [.ref 179, .ref a, .int (am_z p0), .int (am_z e0), .int (am_z p), v5, v6, v7], [], n, am_m X S) Q
  | .leaf z, p, j, v5, v6, v7, S, hg, hp, h1, h2, h3, hQ => by
    have e1 : am_sz (.leaf z) = 1 := rfl
    have hz := am_et_b hg.1 hg.2
    have hv : S a p = am_et z := am_sg_one.mp h2
    rw [w37_26]
    simp (disch := first | omega | exact am_fit_z0 | exact am_fit_z1 | (apply am_fit_zc <;> omega)) only [w37_0, w37_1, w37_3, w37_5, w37_6, w37_9, w37_10, w37_13, w37_15, w37_16, w37_17, w37_20, w37_23, w37_24, w37_28, w37_29, w37_32, w37_33, w37_35, w37_36, w37_37, w37_40, w37_41, w37_43, w37_44, w37_45, w37_48, w37_49, w37_51, w37_52, w37_53, w37_56, w37_58, w37_59, w37_61, w37_64, w37_66, w37_68, w37_70, w37_72, w37_74, w37_77, w37_78, w37_81, w37_83, w37_84, w37_85, w37_86, w37_87, w37_88, w37_91, w37_94, w37_97, w37_100, am_fit_i, am_isR, am_okA, exists_eq_left', exists_eq_left, Option.some.injEq, true_and, and_true, List.length_cons, List.length_nil, List.drop_succ_cons, List.drop_zero, List.all_cons, List.all_nil, am_c1, Bool.and_true, Bool.true_and, Bool.and_self, decide_true, decide_false, if_true, if_false, beq_self_eq_true, Nat.reduceAdd, Nat.reduceLeDiff, Nat.reduceLT, Nat.reduceEqDiff, Nat.reduceSub, ite_true, ite_false, and_self, eq_self, am_z_add, am_z_sub, am_z_mul, Int.reduceAdd, Int.reduceSub, Int.reduceMul, Int.reduceLT, Int.reduceLE, Int.reduceEq, Int.reduceNeg, am_then_i, am_then_r, am_then_v, Nat.add_eq, Nat.zero_add, Nat.add_zero, am_fit_z0, am_fit_z1, am_fit_zc, ↓reduceIte, am_lt_T, am_lt_F, am_le_T, am_le_F, am_eq_T, am_eq_F, am_z_lt, am_z_le, am_z_eq, am_z_char, am_set_se, am_set_sk, am_set_sh, am_ald_m hw, hv]
    exact hQ S _ _ _ (fun _ _ => rfl) (fun _ _ => rfl) (am_sg_one.mpr (h3 p (Int.le_refl _) (by omega)))
  | .branch k b c, p, j, v5, v6, v7, S, hg, hp, h1, h2, h3, hQ => by
    have e1 : am_sz (.branch k b c) = am_sz b + am_sz c + 1 := rfl
    have sb := am_sz_pos b
    have sc := am_sz_pos c
    obtain ⟨hk, gb, gc⟩ := hg
    obtain ⟨hv, h2'⟩ := am_sg_cons.mp (show am_sg (S a) p (((k + 1 : Nat) : Int) :: (am_lay (am_en b) ++ am_lay (am_en c))) from h2)
    obtain ⟨h4, h5⟩ := am_sg_app.mp h2'
    rw [am_lay_len, am_sz_en] at h5
    have go : ∀ {S1 : am_St} {v5 v6 v7 : Value}, am_f1 199 S S1 → (∀ x, S1 199 x = if p + 1 + am_sz b ≤ x ∧ x < p + 1 + am_sz b + am_sz c then S 199 x + am_bd k else S 199 x) → am_AW d 37 (26, [.ref 179, .ref a, .int (am_z p0), .int (am_z e0), .int (am_z (p + 1)), v5, v6, v7], [], n, am_m X S1) Q := by
      intro S1 v5 v6 v7 f1 g1
      refine me_tree hd hw ha hN he (t := b) (j := j) gb (by omega) (by omega) (by rw [f1 a ha]; exact h4) (fun x x0 x1 => by rw [g1, if_neg (by omega)]; exact h3 x (by omega) (by omega)) (fun S2 v5 v6 v7 f2 g2 d2 => ?_)
      refine me_tree hd hw ha hN he (t := c) (j := j + am_bd k) gc (by omega) (by omega) (by rw [f2 a ha, f1 a ha]; exact h5) (fun x x0 x1 => by rw [g2 x (by omega), g1, if_pos (by omega), h3 x (by omega) (by omega)]; omega) (fun S3 v5 v6 v7 f3 g3 d3 => ?_)
      have := hQ S3 v5 v6 v7 (fun h hh => by rw [f3 h hh, f2 h hh, f1 h hh]) (fun x hx => by rw [g3 x (by omega), g2 x (by omega), g1, if_neg (by omega)]) (am_sg_cons.mpr ⟨?_, am_sg_app.mpr ⟨?_, ?_⟩⟩)
      · rw [e1, show p + ((am_sz b + am_sz c + 1 : Nat) : Int) = p + 1 + am_sz b + am_sz c by omega] at this
        exact this
      · rw [g3 p (by omega), g2 p (by omega), g1, if_neg (by omega)]
        exact h3 p (by omega) (by omega)
      · exact am_sg_congr d2 (fun x x0 x1 => g3 x (by rw [am_dl_len] at x1; omega))
      · rw [am_dl_len]
        exact d3
    rw [w37_26]
    by_cases hk0 : k = 0
    · subst hk0
      simp (disch := first | omega | exact am_fit_z0 | exact am_fit_z1 | (apply am_fit_zc <;> omega)) only [w37_0, w37_1, w37_3, w37_5, w37_6, w37_9, w37_10, w37_13, w37_15, w37_16, w37_17, w37_20, w37_23, w37_24, w37_28, w37_29, w37_32, w37_33, w37_35, w37_36, w37_37, w37_40, w37_41, w37_43, w37_44, w37_45, w37_48, w37_49, w37_51, w37_52, w37_53, w37_56, w37_58, w37_59, w37_61, w37_64, w37_66, w37_68, w37_70, w37_72, w37_74, w37_77, w37_78, w37_81, w37_83, w37_84, w37_85, w37_86, w37_87, w37_88, w37_91, w37_94, w37_97, w37_100, am_fit_i, am_isR, am_okA, exists_eq_left', exists_eq_left, Option.some.injEq, true_and, and_true, List.length_cons, List.length_nil, List.drop_succ_cons, List.drop_zero, List.all_cons, List.all_nil, am_c1, Bool.and_true, Bool.true_and, Bool.and_self, decide_true, decide_false, if_true, if_false, beq_self_eq_true, Nat.reduceAdd, Nat.reduceLeDiff, Nat.reduceLT, Nat.reduceEqDiff, Nat.reduceSub, ite_true, ite_false, and_self, eq_self, am_z_add, am_z_sub, am_z_mul, Int.reduceAdd, Int.reduceSub, Int.reduceMul, Int.reduceLT, Int.reduceLE, Int.reduceEq, Int.reduceNeg, am_then_i, am_then_r, am_then_v, Nat.add_eq, Nat.zero_add, Nat.add_zero, am_fit_z0, am_fit_z1, am_fit_zc, ↓reduceIte, am_lt_T, am_lt_F, am_le_T, am_le_F, am_eq_T, am_eq_F, am_z_lt, am_z_le, am_z_eq, am_z_char, am_set_se, am_set_sk, am_set_sh, am_ald_m hw, hv]
      exact go (fun _ _ => rfl) (fun x => by split <;> simp [am_bd])
    · have hb1 : am_bd k = 1 := if_neg hk0
      have h4e : p + 1 + am_sz (am_en b) ≤ N := by rw [am_sz_en]; omega
      have h5e : p + 1 + am_sz b + am_sz (am_en c) ≤ N := by rw [am_sz_en]; omega
      have hend1 : ∀ {Q : Option Value → am_N → am_M → Prop}, am_Do d 36 [.ref a, .int (am_z (p + 1))] n (am_m X S) Q = Q (some (.int (am_z (p + 1 + am_sz b)))) n (am_m X S) := fun {Q} => by
        have q := do_endOf (d := d) (n := n) (X := X) (S := S) (Q := Q) (t := am_en b) hw h4 (am_ge_en gb) (by omega) (by omega) h4e
        rw [am_sz_en] at q
        exact q
      have hend2 : ∀ {Q : Option Value → am_N → am_M → Prop}, am_Do d 36 [.ref a, .int (am_z (p + 1 + am_sz b))] n (am_m X S) Q = Q (some (.int (am_z (p + 1 + am_sz b + am_sz c)))) n (am_m X S) := fun {Q} => by
        have q := do_endOf (d := d) (n := n) (X := X) (S := S) (Q := Q) (t := am_en c) hw h5 (am_ge_en gc) (by omega) (by omega) h5e
        rw [am_sz_en] at q
        exact q
      by_cases hk1 : k = 1
      · simp (disch := first | omega | exact am_fit_z0 | exact am_fit_z1 | (apply am_fit_zc <;> omega)) only [w37_0, w37_1, w37_3, w37_5, w37_6, w37_9, w37_10, w37_13, w37_15, w37_16, w37_17, w37_20, w37_23, w37_24, w37_28, w37_29, w37_32, w37_33, w37_35, w37_36, w37_37, w37_40, w37_41, w37_43, w37_44, w37_45, w37_48, w37_49, w37_51, w37_52, w37_53, w37_56, w37_58, w37_59, w37_61, w37_64, w37_66, w37_68, w37_72, w37_74, w37_77, w37_78, w37_81, w37_83, w37_84, w37_85, w37_86, w37_87, w37_88, w37_91, w37_94, w37_97, w37_100, am_fit_i, am_isR, am_okA, exists_eq_left', exists_eq_left, Option.some.injEq, true_and, and_true, List.length_cons, List.length_nil, List.drop_succ_cons, List.drop_zero, List.all_cons, List.all_nil, am_c1, Bool.and_true, Bool.true_and, Bool.and_self, decide_true, decide_false, if_true, if_false, beq_self_eq_true, Nat.reduceAdd, Nat.reduceLeDiff, Nat.reduceLT, Nat.reduceEqDiff, Nat.reduceSub, ite_true, ite_false, and_self, eq_self, am_z_add, am_z_sub, am_z_mul, Int.reduceAdd, Int.reduceSub, Int.reduceMul, Int.reduceLT, Int.reduceLE, Int.reduceEq, Int.reduceNeg, am_then_i, am_then_r, am_then_v, Nat.add_eq, Nat.zero_add, Nat.add_zero, am_fit_z0, am_fit_z1, am_fit_zc, ↓reduceIte, am_lt_T, am_lt_F, am_le_T, am_le_F, am_eq_T, am_eq_F, am_z_lt, am_z_le, am_z_eq, am_z_char, am_set_se, am_set_sk, am_set_sh, am_ald_m hw, hv, hend1, hend2]
        refine me_inc (by omega) (am_sz c) (by omega) (by omega) (fun S1 f1 g1 => ?_)
        simp (disch := first | omega | exact am_fit_z0 | exact am_fit_z1 | (apply am_fit_zc <;> omega)) only [w37_0, w37_1, w37_3, w37_5, w37_6, w37_9, w37_10, w37_13, w37_15, w37_16, w37_17, w37_20, w37_23, w37_24, w37_28, w37_29, w37_32, w37_33, w37_35, w37_36, w37_37, w37_40, w37_41, w37_43, w37_44, w37_45, w37_48, w37_49, w37_51, w37_52, w37_53, w37_56, w37_58, w37_59, w37_61, w37_64, w37_66, w37_68, w37_70, w37_72, w37_74, w37_77, w37_78, w37_81, w37_83, w37_84, w37_85, w37_86, w37_87, w37_88, w37_91, w37_94, w37_97, w37_100, am_fit_i, am_isR, am_okA, exists_eq_left', exists_eq_left, Option.some.injEq, true_and, and_true, List.length_cons, List.length_nil, List.drop_succ_cons, List.drop_zero, List.all_cons, List.all_nil, am_c1, Bool.and_true, Bool.true_and, Bool.and_self, decide_true, decide_false, if_true, if_false, beq_self_eq_true, Nat.reduceAdd, Nat.reduceLeDiff, Nat.reduceLT, Nat.reduceEqDiff, Nat.reduceSub, ite_true, ite_false, and_self, eq_self, am_z_add, am_z_sub, am_z_mul, Int.reduceAdd, Int.reduceSub, Int.reduceMul, Int.reduceLT, Int.reduceLE, Int.reduceEq, Int.reduceNeg, am_then_i, am_then_r, am_then_v, Nat.add_eq, Nat.zero_add, Nat.add_zero, am_fit_z0, am_fit_z1, am_fit_zc, ↓reduceIte, am_lt_T, am_lt_F, am_le_T, am_le_F, am_eq_T, am_eq_F, am_z_lt, am_z_le, am_z_eq, am_z_char, am_set_se, am_set_sk, am_set_sh]
        exact go f1 (fun x => by rw [g1, hb1]; rfl)
      · simp (disch := first | omega | exact am_fit_z0 | exact am_fit_z1 | (apply am_fit_zc <;> omega)) only [w37_0, w37_1, w37_3, w37_5, w37_6, w37_9, w37_10, w37_13, w37_15, w37_16, w37_17, w37_20, w37_23, w37_24, w37_28, w37_29, w37_32, w37_33, w37_35, w37_36, w37_37, w37_40, w37_41, w37_43, w37_44, w37_45, w37_48, w37_49, w37_51, w37_52, w37_53, w37_56, w37_58, w37_59, w37_61, w37_64, w37_66, w37_68, w37_72, w37_74, w37_77, w37_78, w37_81, w37_83, w37_84, w37_85, w37_86, w37_87, w37_88, w37_91, w37_94, w37_97, w37_100, am_fit_i, am_isR, am_okA, exists_eq_left', exists_eq_left, Option.some.injEq, true_and, and_true, List.length_cons, List.length_nil, List.drop_succ_cons, List.drop_zero, List.all_cons, List.all_nil, am_c1, Bool.and_true, Bool.true_and, Bool.and_self, decide_true, decide_false, if_true, if_false, beq_self_eq_true, Nat.reduceAdd, Nat.reduceLeDiff, Nat.reduceLT, Nat.reduceEqDiff, Nat.reduceSub, ite_true, ite_false, and_self, eq_self, am_z_add, am_z_sub, am_z_mul, Int.reduceAdd, Int.reduceSub, Int.reduceMul, Int.reduceLT, Int.reduceLE, Int.reduceEq, Int.reduceNeg, am_then_i, am_then_r, am_then_v, Nat.add_eq, Nat.zero_add, Nat.add_zero, am_fit_z0, am_fit_z1, am_fit_zc, ↓reduceIte, am_lt_T, am_lt_F, am_le_T, am_le_F, am_eq_T, am_eq_F, am_z_lt, am_z_le, am_z_eq, am_z_char, am_set_se, am_set_sk, am_set_sh, am_ald_m hw, hv, hend1, hend2]
        refine me_inc (by omega) (am_sz c) (by omega) (by omega) (fun S1 f1 g1 => ?_)
        simp (disch := first | omega | exact am_fit_z0 | exact am_fit_z1 | (apply am_fit_zc <;> omega)) only [w37_0, w37_1, w37_3, w37_5, w37_6, w37_9, w37_10, w37_13, w37_15, w37_16, w37_17, w37_20, w37_23, w37_24, w37_28, w37_29, w37_32, w37_33, w37_35, w37_36, w37_37, w37_40, w37_41, w37_43, w37_44, w37_45, w37_48, w37_49, w37_51, w37_52, w37_53, w37_56, w37_58, w37_59, w37_61, w37_64, w37_66, w37_68, w37_70, w37_72, w37_74, w37_77, w37_78, w37_81, w37_83, w37_84, w37_85, w37_86, w37_87, w37_88, w37_91, w37_94, w37_97, w37_100, am_fit_i, am_isR, am_okA, exists_eq_left', exists_eq_left, Option.some.injEq, true_and, and_true, List.length_cons, List.length_nil, List.drop_succ_cons, List.drop_zero, List.all_cons, List.all_nil, am_c1, Bool.and_true, Bool.true_and, Bool.and_self, decide_true, decide_false, if_true, if_false, beq_self_eq_true, Nat.reduceAdd, Nat.reduceLeDiff, Nat.reduceLT, Nat.reduceEqDiff, Nat.reduceSub, ite_true, ite_false, and_self, eq_self, am_z_add, am_z_sub, am_z_mul, Int.reduceAdd, Int.reduceSub, Int.reduceMul, Int.reduceLT, Int.reduceLE, Int.reduceEq, Int.reduceNeg, am_then_i, am_then_r, am_then_v, Nat.add_eq, Nat.zero_add, Nat.add_zero, am_fit_z0, am_fit_z1, am_fit_zc, ↓reduceIte, am_lt_T, am_lt_F, am_le_T, am_le_F, am_eq_T, am_eq_F, am_z_lt, am_z_le, am_z_eq, am_z_char, am_set_se, am_set_sk, am_set_sh]
        exact go f1 (fun x => by rw [g1, hb1]; rfl)
theorem do_measure {d : Nat} {n : am_N} {X : Nat × (Nat → Int32)} {S : am_St} {Q : Option Value → am_N → am_M → Prop} {a N : Nat} {p e0 : Int} {t : am_T} (hd : 4 ≤ d) (hw : am_ar 0 a N) (ha : a ≠ 199) (hN : N ≤ 1800) (hg : am_gd t) (hp : 0 ≤ p) (he : e0 = p + am_sz t) (h1 : e0 ≤ N) (h2 : am_sg (S a) p (am_lay (am_en t))) (hQ : ∀ (S' : am_St), am_f1 199 S S' → am_sg (S' 199) p (am_dl 0 t) → Q none n (am_m X S')) : am_Do d 37 [.ref 179, .ref a, .int (am_z p), .int (am_z e0)] n (am_m X S) Q := by
  rw [in_37 (by omega), w37_0, w37_1]
  refine me_zero hp (by omega) (am_sz t) (by omega) (Int.le_refl _) (fun S1 f1 g1 => ?_)
  rw [w37_23, w37_24]
  refine me_tree (by omega) hw ha hN h1 (t := t) (j := 0) hg hp (by omega) (by rw [f1 a ha]; exact h2) (fun x x0 x1 => by rw [g1, if_pos (by omega)]; rfl) (fun S2 v5 v6 v7 f2 g2 d2 => ?_)
  rw [w37_26]
  simp (disch := first | omega | exact am_fit_z0 | exact am_fit_z1 | (apply am_fit_zc <;> omega)) only [w37_0, w37_1, w37_3, w37_5, w37_6, w37_9, w37_10, w37_13, w37_15, w37_16, w37_17, w37_20, w37_23, w37_24, w37_28, w37_29, w37_32, w37_33, w37_35, w37_36, w37_37, w37_40, w37_41, w37_43, w37_44, w37_45, w37_48, w37_49, w37_51, w37_52, w37_53, w37_56, w37_58, w37_59, w37_61, w37_64, w37_66, w37_68, w37_70, w37_72, w37_74, w37_77, w37_78, w37_81, w37_83, w37_84, w37_85, w37_86, w37_87, w37_88, w37_91, w37_94, w37_97, w37_100, am_fit_i, am_isR, am_okA, exists_eq_left', exists_eq_left, Option.some.injEq, true_and, and_true, List.length_cons, List.length_nil, List.drop_succ_cons, List.drop_zero, List.all_cons, List.all_nil, am_c1, Bool.and_true, Bool.true_and, Bool.and_self, decide_true, decide_false, if_true, if_false, beq_self_eq_true, Nat.reduceAdd, Nat.reduceLeDiff, Nat.reduceLT, Nat.reduceEqDiff, Nat.reduceSub, ite_true, ite_false, and_self, eq_self, am_z_add, am_z_sub, am_z_mul, Int.reduceAdd, Int.reduceSub, Int.reduceMul, Int.reduceLT, Int.reduceLE, Int.reduceEq, Int.reduceNeg, am_then_i, am_then_r, am_then_v, Nat.add_eq, Nat.zero_add, Nat.add_zero, am_fit_z0, am_fit_z1, am_fit_zc, ↓reduceIte, am_lt_T, am_lt_F, am_le_T, am_le_F, am_eq_T, am_eq_F, am_z_lt, am_z_le, am_z_eq, am_z_char, am_set_se, am_set_sk, am_set_sh]
  exact hQ S2 (fun h hh => by rw [f2 h hh, f1 h hh]) d2
