/-! the reference's frame: fields of its object, arrays -/
def am_fk (fs : List Int) (hs : List Nat) (S S' : am_St) : Prop := (∀ h, h ≠ 179 → h ∉ hs → S' h = S h) ∧ ∀ k, k ∉ fs → S' 179 k = S 179 k
theorem am_fk_rfl {fs : List Int} {hs : List Nat} {S : am_St} : am_fk fs hs S S := ⟨fun _ _ _ => rfl, fun _ _ => rfl⟩
theorem am_fk_trans {fs : List Int} {hs : List Nat} {S S' S2 : am_St} (h1 : am_fk fs hs S S') (h2 : am_fk fs hs S' S2) : am_fk fs hs S S2 := ⟨fun h a b => (h2.1 h a b).trans (h1.1 h a b), fun k a => (h2.2 k a).trans (h1.2 k a)⟩
theorem am_fk_le {fs fs' : List Int} {hs hs' : List Nat} {S S' : am_St} (h : am_fk fs hs S S') (h1 : ∀ x ∈ fs, x ∈ fs') (h2 : ∀ x ∈ hs, x ∈ hs') : am_fk fs' hs' S S' := ⟨fun x a b => h.1 x a (fun q => b (h2 x q)), fun k a => h.2 k (fun q => a (h1 k q))⟩
theorem am_fk_set {fs : List Int} {hs : List Nat} {S : am_St} {k v : Int} (hk : k ∈ fs) : am_fk fs hs S (am_set S 179 k v) := ⟨fun h a _ => am_set_sh a, fun j hj => am_set_sk (fun q => hj (q ▸ hk))⟩
theorem am_fk_arr {fs : List Int} {hs : List Nat} {S : am_St} {a : Nat} {k v : Int} (ha : a ∈ hs) (h9 : (179 : Nat) ≠ a) : am_fk fs hs S (am_set S a k v) := ⟨fun h _ b => am_set_sh (fun q => b (q ▸ ha)), fun j _ => by rw [am_set_sh h9]⟩
theorem am_fk_f1 {a : Nat} {S S' : am_St} (h : am_f1 a S S') (h9 : (179 : Nat) ≠ a) : am_fk [] [a] S S' := ⟨fun x _ b => h x (fun q => b (q ▸ List.mem_singleton.mpr rfl)), fun k _ => by rw [h 179 h9]⟩
/-- what was put into the other row: exact up to 80 -/
def am_ot (S : am_St) (l : List Int) : Prop := 0 ≤ S 179 29 ∧ (S 179 29 ≤ 80 → l.length ≤ 80) ∧ (l.length ≤ 80 → S 179 29 = l.length ∧ am_sg (S 198) 0 l)
theorem am_ot_fr {S S' : am_St} {l : List Int} (h : am_ot S l) (h1 : S' 179 29 = S 179 29) (h2 : S' 198 = S 198) : am_ot S' l := by
  unfold am_ot
  rw [h1, h2]
  exact h
theorem am_ot_snoc {S : am_St} {l : List Int} {v : Int} (h : am_ot S l) : am_ot (am_set (am_set S 198 (S 179 29) v) 179 29 (S 179 29 + 1)) (l ++ [v]) := by
  obtain ⟨h0, h1, h2⟩ := h
  unfold am_ot
  rw [am_set_se, List.length_append, List.length_singleton]
  refine ⟨by omega, fun q => ?_, fun q => ?_⟩
  · have a := h1 (by omega)
    have b := (h2 a).1
    omega
  · obtain ⟨a, b⟩ := h2 (by omega)
    refine ⟨by omega, ?_⟩
    rw [am_set_sh (by omega), a]
    have := am_sg_snoc (v := v) b
    rw [Int.zero_add] at this
    exact this
theorem am_ot_more {S : am_St} {l m : List Int} (h : am_ot S l) (hm : 80 < S 179 29) : am_ot S (l ++ m) := by
  obtain ⟨h0, h1, h2⟩ := h
  have hl : ¬ l.length ≤ 80 := fun q => by
    have := (h2 q).1
    omega
  refine ⟨h0, fun q => by omega, fun q => ?_⟩
  rw [List.length_append] at q
  omega
theorem co_loop {d : Nat} {n : am_N} {X : Nat × (Nat → Int32)} {Q : Option Value → am_N → am_M → Prop} {v1 : Value} {e : Int} (he : e ≤ 1800) : ∀ {l : List Int} {k : Int} {L : List Int} {S : am_St}, am_ot S L → S 179 29 + l.length ≤ 1800 → 0 ≤ k → k + l.length = e → am_sg (S 197) k l → (∀ (S' : am_St), am_fk [29] [198] S S' → am_ot S' (L ++ l) → S' 179 29 = S 179 29 + l.length → Q none n (am_m X S')) → am_AW d 42 (2, [.ref 179, v1, .int (am_z e), .int (am_z k)], [], n, am_m X S) Q
  | [], k, L, S, ho, hb, h0, h1, h2, hQ => by
    rw [List.length_nil] at h1
    rw [w42_2]
    simp (disch := first | omega | exact am_fit_z0 | exact am_fit_z1 | (apply am_fit_zc <;> omega)) only [w42_0, w42_1, w42_3, w42_4, w42_7, w42_8, w42_11, w42_12, w42_15, w42_16, w42_19, w42_20, w42_21, w42_22, w42_23, w42_23i, w42_24, w42_27, w42_28, w42_29, w42_32, w42_35, w42_38, am_fit_i, am_isR, am_okA, exists_eq_left', exists_eq_left, Option.some.injEq, true_and, and_true, List.length_cons, List.length_nil, List.drop_succ_cons, List.drop_zero, List.all_cons, List.all_nil, am_c1, Bool.and_true, Bool.true_and, Bool.and_self, decide_true, decide_false, if_true, if_false, beq_self_eq_true, Nat.reduceAdd, Nat.reduceLeDiff, Nat.reduceLT, Nat.reduceEqDiff, Nat.reduceSub, ite_true, ite_false, and_self, eq_self, am_z_add, am_z_sub, am_z_mul, Int.reduceAdd, Int.reduceSub, Int.reduceMul, Int.reduceLT, Int.reduceLE, Int.reduceEq, Int.reduceNeg, am_then_i, am_then_r, am_then_v, Nat.add_eq, Nat.zero_add, Nat.add_zero, am_fit_z0, am_fit_z1, am_fit_zc, ↓reduceIte, am_lt_T, am_lt_F, am_le_T, am_le_F, am_eq_T, am_eq_F, am_z_lt, am_z_le, am_z_eq, am_z_char, am_set_se, am_set_sk, am_set_sh, o_179, f_179_0, f_179_1, s_179_1, f_179_2, f_179_3, s_179_3, f_179_4, s_179_4, f_179_5, f_179_6, s_179_6, f_179_7, s_179_7, f_179_8, f_179_9, f_179_10, f_179_11, f_179_12, s_179_12, f_179_13, f_179_14, f_179_15, f_179_16, f_179_17, s_179_17, f_179_18, s_179_18, f_179_19, f_179_20, f_179_21, f_179_22, f_179_23, f_179_24, s_179_24, f_179_25, f_179_26, f_179_27, s_179_27, f_179_28, f_179_29, s_179_29, f_179_30, f_179_31, f_179_32, f_179_33, s_179_33, f_179_34, s_179_34, f_179_35, f_179_36, f_179_37, f_179_38, f_179_39, f_179_40, s_179_40, f_179_41, f_179_42, f_179_43, s_179_43, f_179_44, l_197, t_197, l_198, t_198, l_199, t_199, l_200, t_200, l_201, t_201]
    exact hQ S am_fk_rfl (by rw [List.append_nil]; exact ho) (by simp)
  | v :: l, k, L, S, ho, hb, h0, h1, h2, hQ => by
    rw [List.length_cons] at h1 hb
    obtain ⟨hv, h3⟩ := am_sg_cons.mp h2
    have ho0 := ho.1
    rw [w42_2]
    simp (disch := first | omega | exact am_fit_z0 | exact am_fit_z1 | (apply am_fit_zc <;> omega)) only [w42_0, w42_1, w42_3, w42_4, w42_7, w42_8, w42_11, w42_12, w42_15, w42_16, w42_19, w42_20, w42_21, w42_22, w42_23, w42_23i, w42_24, w42_27, w42_28, w42_29, w42_32, w42_35, w42_38, am_fit_i, am_isR, am_okA, exists_eq_left', exists_eq_left, Option.some.injEq, true_and, and_true, List.length_cons, List.length_nil, List.drop_succ_cons, List.drop_zero, List.all_cons, List.all_nil, am_c1, Bool.and_true, Bool.true_and, Bool.and_self, decide_true, decide_false, if_true, if_false, beq_self_eq_true, Nat.reduceAdd, Nat.reduceLeDiff, Nat.reduceLT, Nat.reduceEqDiff, Nat.reduceSub, ite_true, ite_false, and_self, eq_self, am_z_add, am_z_sub, am_z_mul, Int.reduceAdd, Int.reduceSub, Int.reduceMul, Int.reduceLT, Int.reduceLE, Int.reduceEq, Int.reduceNeg, am_then_i, am_then_r, am_then_v, Nat.add_eq, Nat.zero_add, Nat.add_zero, am_fit_z0, am_fit_z1, am_fit_zc, ↓reduceIte, am_lt_T, am_lt_F, am_le_T, am_le_F, am_eq_T, am_eq_F, am_z_lt, am_z_le, am_z_eq, am_z_char, am_set_se, am_set_sk, am_set_sh, hv, o_179, f_179_0, f_179_1, s_179_1, f_179_2, f_179_3, s_179_3, f_179_4, s_179_4, f_179_5, f_179_6, s_179_6, f_179_7, s_179_7, f_179_8, f_179_9, f_179_10, f_179_11, f_179_12, s_179_12, f_179_13, f_179_14, f_179_15, f_179_16, f_179_17, s_179_17, f_179_18, s_179_18, f_179_19, f_179_20, f_179_21, f_179_22, f_179_23, f_179_24, s_179_24, f_179_25, f_179_26, f_179_27, s_179_27, f_179_28, f_179_29, s_179_29, f_179_30, f_179_31, f_179_32, f_179_33, s_179_33, f_179_34, s_179_34, f_179_35, f_179_36, f_179_37, f_179_38, f_179_39, f_179_40, s_179_40, f_179_41, f_179_42, f_179_43, s_179_43, f_179_44, l_197, t_197, l_198, t_198, l_199, t_199, l_200, t_200, l_201, t_201]
    refine co_loop he (l := l) (L := L ++ [v]) (am_ot_snoc ho) (by rw [am_set_se]; omega) (by omega) (by omega) (by rw [am_set_sh (by omega), am_set_sh (by omega)]; exact h3) (fun S1 f1 o1 z1 => hQ S1 (am_fk_trans (am_fk_trans (am_fk_arr (by decide) (by decide)) (am_fk_set (by decide))) f1) ?_ ?_)
    · rw [List.append_assoc] at o1
      exact o1
    · rw [z1, am_set_se, List.length_cons]; omega
theorem do_copy {d : Nat} {n : am_N} {X : Nat × (Nat → Int32)} {S : am_St} {Q : Option Value → am_N → am_M → Prop} {e k : Int} {l L : List Int} (hd : 1 ≤ d) (he : e ≤ 1800) (ho : am_ot S L) (hb : S 179 29 + l.length ≤ 1800) (h0 : 0 ≤ k) (h1 : k + l.length = e) (h2 : am_sg (S 197) k l) (hQ : ∀ (S' : am_St), am_fk [29] [198] S S' → am_ot S' (L ++ l) → S' 179 29 = S 179 29 + l.length → Q none n (am_m X S')) : am_Do d 42 [.ref 179, .int (am_z k), .int (am_z e)] n (am_m X S) Q := by
  rw [in_42 (by omega), w42_0, w42_1]
  exact co_loop he ho hb h0 h1 h2 hQ
theorem ta_loop {d : Nat} {n : am_N} {X : Nat × (Nat → Int32)} {Q : Option Value → am_N → am_M → Prop} {p e : Int} (hp : 0 ≤ p) (he : e ≤ 1800) (h2 : e ≤ p + 200) : ∀ {l : List Int} {m : List Int} {S : am_St}, p + m.length + l.length = e → am_sg (S 197) (p + m.length) l → am_sg (S 201) 0 m → (∀ (S' : am_St), am_fk [] [201] S S' → am_sg (S' 201) 0 (m ++ l) → Q none n (am_m X S')) → am_AW d 43 (9, [.ref 179, .int (am_z p), .int (am_z e), .int (am_z (p + m.length))], [], n, am_m X S) Q
  | [], m, S, h1, h3, h4, hQ => by
    rw [List.length_nil] at h1
    rw [w43_9]
    simp (disch := first | omega | exact am_fit_z0 | exact am_fit_z1 | (apply am_fit_zc <;> omega)) only [w43_0, w43_1, w43_2, w43_3, w43_4, w43_7, w43_8, w43_10, w43_11, w43_14, w43_15, w43_16, w43_17, w43_20, w43_23, w43_24, w43_27, w43_28, w43_29, w43_30, w43_31, w43_34, w43_35, w43_36, w43_37, w43_40, w43_43, am_fit_i, am_isR, am_okA, exists_eq_left', exists_eq_left, Option.some.injEq, true_and, and_true, List.length_cons, List.length_nil, List.drop_succ_cons, List.drop_zero, List.all_cons, List.all_nil, am_c1, Bool.and_true, Bool.true_and, Bool.and_self, decide_true, decide_false, if_true, if_false, beq_self_eq_true, Nat.reduceAdd, Nat.reduceLeDiff, Nat.reduceLT, Nat.reduceEqDiff, Nat.reduceSub, ite_true, ite_false, and_self, eq_self, am_z_add, am_z_sub, am_z_mul, Int.reduceAdd, Int.reduceSub, Int.reduceMul, Int.reduceLT, Int.reduceLE, Int.reduceEq, Int.reduceNeg, am_then_i, am_then_r, am_then_v, Nat.add_eq, Nat.zero_add, Nat.add_zero, am_fit_z0, am_fit_z1, am_fit_zc, ↓reduceIte, am_lt_T, am_lt_F, am_le_T, am_le_F, am_eq_T, am_eq_F, am_z_lt, am_z_le, am_z_eq, am_z_char, am_set_se, am_set_sk, am_set_sh, o_179, f_179_0, f_179_1, s_179_1, f_179_2, f_179_3, s_179_3, f_179_4, s_179_4, f_179_5, f_179_6, s_179_6, f_179_7, s_179_7, f_179_8, f_179_9, f_179_10, f_179_11, f_179_12, s_179_12, f_179_13, f_179_14, f_179_15, f_179_16, f_179_17, s_179_17, f_179_18, s_179_18, f_179_19, f_179_20, f_179_21, f_179_22, f_179_23, f_179_24, s_179_24, f_179_25, f_179_26, f_179_27, s_179_27, f_179_28, f_179_29, s_179_29, f_179_30, f_179_31, f_179_32, f_179_33, s_179_33, f_179_34, s_179_34, f_179_35, f_179_36, f_179_37, f_179_38, f_179_39, f_179_40, s_179_40, f_179_41, f_179_42, f_179_43, s_179_43, f_179_44, l_197, t_197, l_198, t_198, l_199, t_199, l_200, t_200, l_201, t_201]
    exact hQ S am_fk_rfl (by rw [List.append_nil]; exact h4)
  | v :: l, m, S, h1, h3, h4, hQ => by
    rw [List.length_cons] at h1
    obtain ⟨hv, h5⟩ := am_sg_cons.mp h3
    have e1 : p + (m.length : Int) - p = m.length := by omega
    rw [w43_9]
    simp (disch := first | omega | exact am_fit_z0 | exact am_fit_z1 | (apply am_fit_zc <;> omega)) only [w43_0, w43_1, w43_2, w43_3, w43_4, w43_7, w43_8, w43_10, w43_11, w43_14, w43_15, w43_16, w43_17, w43_20, w43_23, w43_24, w43_27, w43_28, w43_29, w43_30, w43_31, w43_34, w43_35, w43_36, w43_37, w43_40, w43_43, am_fit_i, am_isR, am_okA, exists_eq_left', exists_eq_left, Option.some.injEq, true_and, and_true, List.length_cons, List.length_nil, List.drop_succ_cons, List.drop_zero, List.all_cons, List.all_nil, am_c1, Bool.and_true, Bool.true_and, Bool.and_self, decide_true, decide_false, if_true, if_false, beq_self_eq_true, Nat.reduceAdd, Nat.reduceLeDiff, Nat.reduceLT, Nat.reduceEqDiff, Nat.reduceSub, ite_true, ite_false, and_self, eq_self, am_z_add, am_z_sub, am_z_mul, Int.reduceAdd, Int.reduceSub, Int.reduceMul, Int.reduceLT, Int.reduceLE, Int.reduceEq, Int.reduceNeg, am_then_i, am_then_r, am_then_v, Nat.add_eq, Nat.zero_add, Nat.add_zero, am_fit_z0, am_fit_z1, am_fit_zc, ↓reduceIte, am_lt_T, am_lt_F, am_le_T, am_le_F, am_eq_T, am_eq_F, am_z_lt, am_z_le, am_z_eq, am_z_char, am_set_se, am_set_sk, am_set_sh, hv, e1, o_179, f_179_0, f_179_1, s_179_1, f_179_2, f_179_3, s_179_3, f_179_4, s_179_4, f_179_5, f_179_6, s_179_6, f_179_7, s_179_7, f_179_8, f_179_9, f_179_10, f_179_11, f_179_12, s_179_12, f_179_13, f_179_14, f_179_15, f_179_16, f_179_17, s_179_17, f_179_18, s_179_18, f_179_19, f_179_20, f_179_21, f_179_22, f_179_23, f_179_24, s_179_24, f_179_25, f_179_26, f_179_27, s_179_27, f_179_28, f_179_29, s_179_29, f_179_30, f_179_31, f_179_32, f_179_33, s_179_33, f_179_34, s_179_34, f_179_35, f_179_36, f_179_37, f_179_38, f_179_39, f_179_40, s_179_40, f_179_41, f_179_42, f_179_43, s_179_43, f_179_44, l_197, t_197, l_198, t_198, l_199, t_199, l_200, t_200, l_201, t_201]
    have g := ta_loop (d := d) (n := n) (X := X) (Q := Q) hp he h2 (l := l) (m := m ++ [v]) (S := am_set S 201 m.length v) (by rw [List.length_append, List.length_singleton]; omega) (by rw [List.length_append, List.length_singleton, am_set_sh (by omega), show p + ((m.length + 1 : Nat) : Int) = p + m.length + 1 by omega]; exact h5) (by have := am_sg_snoc (v := v) h4; rw [Int.zero_add] at this; exact this) (fun S1 f1 q1 => hQ S1 (am_fk_trans (am_fk_arr (by decide) (by decide)) f1) (by rw [List.append_assoc] at q1; exact q1))
    rw [List.length_append, List.length_singleton, show p + ((m.length + 1 : Nat) : Int) = p + m.length + 1 by omega] at g
    exact g
theorem do_takeArg {d : Nat} {n : am_N} {X : Nat × (Nat → Int32)} {S : am_St} {Q : Option Value → am_N → am_M → Prop} {p e : Int} {l : List Int} (hd : 1 ≤ d) (hp : 0 ≤ p) (he : e ≤ 1800) (h1 : p + l.length = e) (h2 : l.length ≤ 200) (h3 : am_sg (S 197) p l) (hQ : ∀ (S' : am_St), am_fk [33] [201] S S' → S' 179 33 = l.length → am_sg (S' 201) 0 l → Q none n (am_m X S')) : am_Do d 43 [.ref 179, .int (am_z p), .int (am_z e)] n (am_m X S) Q := by
  have e1 : e - p = l.length := by omega
  rw [in_43 (by omega)]
  simp (disch := first | omega | exact am_fit_z0 | exact am_fit_z1 | (apply am_fit_zc <;> omega)) only [w43_0, w43_1, w43_2, w43_3, w43_4, w43_7, w43_8, w43_10, w43_11, w43_14, w43_15, w43_16, w43_17, w43_20, w43_23, w43_24, w43_27, w43_28, w43_29, w43_30, w43_31, w43_34, w43_35, w43_36, w43_37, w43_40, w43_43, am_fit_i, am_isR, am_okA, exists_eq_left', exists_eq_left, Option.some.injEq, true_and, and_true, List.length_cons, List.length_nil, List.drop_succ_cons, List.drop_zero, List.all_cons, List.all_nil, am_c1, Bool.and_true, Bool.true_and, Bool.and_self, decide_true, decide_false, if_true, if_false, beq_self_eq_true, Nat.reduceAdd, Nat.reduceLeDiff, Nat.reduceLT, Nat.reduceEqDiff, Nat.reduceSub, ite_true, ite_false, and_self, eq_self, am_z_add, am_z_sub, am_z_mul, Int.reduceAdd, Int.reduceSub, Int.reduceMul, Int.reduceLT, Int.reduceLE, Int.reduceEq, Int.reduceNeg, am_then_i, am_then_r, am_then_v, Nat.add_eq, Nat.zero_add, Nat.add_zero, am_fit_z0, am_fit_z1, am_fit_zc, ↓reduceIte, am_lt_T, am_lt_F, am_le_T, am_le_F, am_eq_T, am_eq_F, am_z_lt, am_z_le, am_z_eq, am_z_char, am_set_se, am_set_sk, am_set_sh, e1, o_179, f_179_0, f_179_1, s_179_1, f_179_2, f_179_3, s_179_3, f_179_4, s_179_4, f_179_5, f_179_6, s_179_6, f_179_7, s_179_7, f_179_8, f_179_9, f_179_10, f_179_11, f_179_12, s_179_12, f_179_13, f_179_14, f_179_15, f_179_16, f_179_17, s_179_17, f_179_18, s_179_18, f_179_19, f_179_20, f_179_21, f_179_22, f_179_23, f_179_24, s_179_24, f_179_25, f_179_26, f_179_27, s_179_27, f_179_28, f_179_29, s_179_29, f_179_30, f_179_31, f_179_32, f_179_33, s_179_33, f_179_34, s_179_34, f_179_35, f_179_36, f_179_37, f_179_38, f_179_39, f_179_40, s_179_40, f_179_41, f_179_42, f_179_43, s_179_43, f_179_44, l_197, t_197, l_198, t_198, l_199, t_199, l_200, t_200, l_201, t_201]
  have g := ta_loop (d := d - 1) (n := n) (X := X) (Q := Q) hp he (by omega) (l := l) (m := []) (S := am_set S 179 33 l.length) (by rw [List.length_nil]; omega) (by rw [am_set_sh (by omega)]; simpa using h3) am_sg_nil (fun S1 f1 q1 => hQ S1 (am_fk_trans (am_fk_set (by decide)) (am_fk_le f1 (by decide) (by decide))) (by rw [f1.2 33 (by decide), am_set_se]) q1)
  rw [List.length_nil, Int.natCast_zero, Int.add_zero] at g
  exact g
def am_lf (by_ : Int) : List Int → List Int → List Int
  | x :: xs, e :: ds => (if 100 ≤ x ∧ e ≤ x - 100 then x + by_ else x) :: am_lf by_ xs ds
  | _, _ => []
theorem am_lf_app {m : Int} : ∀ {xs ds xs' ds' : List Int}, xs.length = ds.length → am_lf m (xs ++ xs') (ds ++ ds') = am_lf m xs ds ++ am_lf m xs' ds'
  | [], [], _, _, _ => rfl
  | x :: xs, e :: ds, xs', ds', h => by
    show _ :: am_lf m (xs ++ xs') (ds ++ ds') = _ :: (am_lf m xs ds ++ am_lf m xs' ds')
    rw [am_lf_app (by simpa using h)]
  | [], e :: ds, _, _, h => by cases h
  | x :: xs, [], _, _, h => by cases h
theorem am_lf_len {m : Int} : ∀ {xs ds : List Int}, xs.length = ds.length → (am_lf m xs ds).length = xs.length
  | [], [], _ => rfl
  | x :: xs, e :: ds, h => by
    show (am_lf m xs ds).length + 1 = xs.length + 1
    rw [am_lf_len (by simpa using h)]
  | [], e :: ds, h => by cases h
  | x :: xs, [], h => by cases h
theorem am_et_let {z : Int} (h : 50 ≤ z) : am_et z = z + 50 := by
  unfold am_et
  rw [if_neg (by omega), if_neg (by omega), if_neg (by omega), if_neg (by omega)]
theorem am_et_no {z : Int} (h0 : 3 ≤ z) (h : z < 50) : am_et z < 100 ∧ 4 ≤ am_et z := by
  unfold am_et
  split
  · omega
  · split
    · omega
    · split
      · omega
      · split <;> omega
theorem am_lf_en {m : Int} (hm : 0 ≤ m) : ∀ {j : Nat} {t : am_T}, am_gd t → am_lf m (am_lay (am_en t)) (am_dl j t) = am_lay (am_en (am_li m j t))
  | j, .leaf z, h => by
    have hz := h.1
    show [if 100 ≤ am_et z ∧ (j : Int) ≤ am_et z - 100 then am_et z + m else am_et z] = am_lay (am_en (if 50 + (j : Int) ≤ z then .leaf (z + m) else .leaf z))
    by_cases c : 50 + (j : Int) ≤ z
    · rw [if_pos c, am_et_let (by omega), if_pos (by omega)]
      show _ = [am_et (z + m)]
      rw [am_et_let (by omega)]
      congr 1
      omega
    · rw [if_neg c]
      show _ = [am_et z]
      by_cases c2 : 50 ≤ z
      · rw [am_et_let c2, if_neg (by omega)]
      · have := am_et_no hz (by omega)
        rw [if_neg (by omega)]
  | j, .branch k a b, h => by
    have e1 := am_lf_en hm (j := j) h.2.1
    have e2 := am_lf_en hm (j := j + am_bd k) h.2.2
    show am_lf m (((k + 1 : Nat) : Int) :: (am_lay (am_en a) ++ am_lay (am_en b))) ((j : Int) :: (am_dl j a ++ am_dl (j + am_bd k) b)) = ((k + 1 : Nat) : Int) :: (am_lay (am_en (am_li m j a)) ++ am_lay (am_en (am_li m (j + am_bd k) b)))
    have hk := h.1
    rw [← e1, ← e2, ← am_lf_app (by rw [am_lay_len, am_sz_en, am_dl_len])]
    show (if 100 ≤ ((k + 1 : Nat) : Int) ∧ _ then _ else _) :: _ = _
    rw [if_neg (by omega)]
theorem aa_loop {d : Nat} {n : am_N} {X : Nat × (Nat → Int32)} {Q : Option Value → am_N → am_M → Prop} {m : Int} (m0 : 0 ≤ m) (m1 : m ≤ 1000) : ∀ {xs ds : List Int} {k : Int} {v3 : Value} {L : List Int} {S : am_St}, xs.length = ds.length → am_ot S L → S 179 29 + xs.length ≤ 1800 → 0 ≤ k → k + xs.length = S 179 33 → S 179 33 ≤ 200 → am_sg (S 201) k xs → am_sg (S 200) k ds → (∀ x ∈ xs, 0 ≤ x ∧ x < 2000) → (∀ x ∈ ds, 0 ≤ x ∧ x < 2000) → (∀ (S' : am_St), am_fk [29] [198] S S' → am_ot S' (L ++ am_lf m xs ds) → S' 179 29 = S 179 29 + xs.length → Q none n (am_m X S')) → am_AW d 41 (2, [.ref 179, .int (am_z m), .int (am_z k), v3], [], n, am_m X S) Q
  | [], [], k, v3, L, S, hl, ho, hb, h0, h1, h2, h3, h4, x0, d0, hQ => by
    rw [List.length_nil] at h1
    rw [w41_2]
    simp (disch := first | omega | exact am_fit_z0 | exact am_fit_z1 | (apply am_fit_zc <;> omega)) only [w41_0, w41_1, w41_3, w41_4, w41_7, w41_10, w41_11, w41_14, w41_15, w41_16, w41_18, w41_21, w41_22, w41_25, w41_26, w41_27, w41_29, w41_30, w41_31, w41_34, w41_35, w41_36, w41_39, w41_40, w41_43, w41_44, w41_45, w41_46, w41_49, w41_50, w41_53, w41_54, w41_57, w41_58, w41_61, w41_62, w41_63, w41_64, w41_65, w41_68, w41_69, w41_72, w41_73, w41_74, w41_75, w41_76, w41_76i, w41_77, w41_80, w41_81, w41_82, w41_85, w41_88, w41_91, am_fit_i, am_isR, am_okA, exists_eq_left', exists_eq_left, Option.some.injEq, true_and, and_true, List.length_cons, List.length_nil, List.drop_succ_cons, List.drop_zero, List.all_cons, List.all_nil, am_c1, Bool.and_true, Bool.true_and, Bool.and_self, decide_true, decide_false, if_true, if_false, beq_self_eq_true, Nat.reduceAdd, Nat.reduceLeDiff, Nat.reduceLT, Nat.reduceEqDiff, Nat.reduceSub, ite_true, ite_false, and_self, eq_self, am_z_add, am_z_sub, am_z_mul, Int.reduceAdd, Int.reduceSub, Int.reduceMul, Int.reduceLT, Int.reduceLE, Int.reduceEq, Int.reduceNeg, am_then_i, am_then_r, am_then_v, Nat.add_eq, Nat.zero_add, Nat.add_zero, am_fit_z0, am_fit_z1, am_fit_zc, ↓reduceIte, am_lt_T, am_lt_F, am_le_T, am_le_F, am_eq_T, am_eq_F, am_z_lt, am_z_le, am_z_eq, am_z_char, am_set_se, am_set_sk, am_set_sh, o_179, f_179_0, f_179_1, s_179_1, f_179_2, f_179_3, s_179_3, f_179_4, s_179_4, f_179_5, f_179_6, s_179_6, f_179_7, s_179_7, f_179_8, f_179_9, f_179_10, f_179_11, f_179_12, s_179_12, f_179_13, f_179_14, f_179_15, f_179_16, f_179_17, s_179_17, f_179_18, s_179_18, f_179_19, f_179_20, f_179_21, f_179_22, f_179_23, f_179_24, s_179_24, f_179_25, f_179_26, f_179_27, s_179_27, f_179_28, f_179_29, s_179_29, f_179_30, f_179_31, f_179_32, f_179_33, s_179_33, f_179_34, s_179_34, f_179_35, f_179_36, f_179_37, f_179_38, f_179_39, f_179_40, s_179_40, f_179_41, f_179_42, f_179_43, s_179_43, f_179_44, l_197, t_197, l_198, t_198, l_199, t_199, l_200, t_200, l_201, t_201]
    exact hQ S am_fk_rfl (by show am_ot S (L ++ []); rw [List.append_nil]; exact ho) (by simp)
  | x :: xs, e :: ds, k, v3, L, S, hl, ho, hb, h0, h1, h2, h3, h4, x0, d0, hQ => by
    rw [List.length_cons] at h1 hb
    obtain ⟨hv, h5⟩ := am_sg_cons.mp h3
    obtain ⟨hw, h6⟩ := am_sg_cons.mp h4
    have bx := x0 x List.mem_cons_self
    have be := d0 e List.mem_cons_self
    have ho0 := ho.1
    have go : ∀ {v3 : Value} {y : Int}, y = (if 100 ≤ x ∧ e ≤ x - 100 then x + m else x) → am_AW d 41 (2, [.ref 179, .int (am_z m), .int (am_z (k + 1)), v3], [], n, am_m X (am_set (am_set S 198 (S 179 29) y) 179 29 (S 179 29 + 1))) Q := by
      intro v3 y hy
      refine aa_loop m0 m1 (xs := xs) (ds := ds) (L := L ++ [y]) (by simpa using hl) (am_ot_snoc ho) (by rw [am_set_se]; omega) (by omega) (by rw [am_set_sk (by omega), am_set_sh (by omega)]; omega) (by rw [am_set_sk (by omega), am_set_sh (by omega)]; omega) (by rw [am_set_sh (by omega), am_set_sh (by omega)]; exact h5) (by rw [am_set_sh (by omega), am_set_sh (by omega)]; exact h6) (fun a ha => x0 a (List.mem_cons_of_mem _ ha)) (fun a ha => d0 a (List.mem_cons_of_mem _ ha)) (fun S1 f1 o1 z1 => hQ S1 (am_fk_trans (am_fk_trans (am_fk_arr (by decide) (by decide)) (am_fk_set (by decide))) f1) ?_ ?_)
      · rw [List.append_assoc] at o1
        rw [hy] at o1
        exact o1
      · rw [z1, am_set_se, List.length_cons]; omega
    rw [w41_2]
    by_cases c1 : 100 ≤ x
    · by_cases c2 : e ≤ x - 100
      · simp (disch := first | omega | exact am_fit_z0 | exact am_fit_z1 | (apply am_fit_zc <;> omega)) only [w41_0, w41_1, w41_3, w41_4, w41_7, w41_10, w41_11, w41_14, w41_15, w41_16, w41_18, w41_21, w41_22, w41_25, w41_26, w41_27, w41_29, w41_30, w41_31, w41_34, w41_35, w41_36, w41_39, w41_40, w41_43, w41_44, w41_45, w41_46, w41_49, w41_50, w41_53, w41_54, w41_57, w41_58, w41_61, w41_62, w41_63, w41_64, w41_65, w41_68, w41_69, w41_72, w41_73, w41_74, w41_75, w41_76, w41_76i, w41_77, w41_80, w41_81, w41_82, w41_85, w41_88, w41_91, am_fit_i, am_isR, am_okA, exists_eq_left', exists_eq_left, Option.some.injEq, true_and, and_true, List.length_cons, List.length_nil, List.drop_succ_cons, List.drop_zero, List.all_cons, List.all_nil, am_c1, Bool.and_true, Bool.true_and, Bool.and_self, decide_true, decide_false, if_true, if_false, beq_self_eq_true, Nat.reduceAdd, Nat.reduceLeDiff, Nat.reduceLT, Nat.reduceEqDiff, Nat.reduceSub, ite_true, ite_false, and_self, eq_self, am_z_add, am_z_sub, am_z_mul, Int.reduceAdd, Int.reduceSub, Int.reduceMul, Int.reduceLT, Int.reduceLE, Int.reduceEq, Int.reduceNeg, am_then_i, am_then_r, am_then_v, Nat.add_eq, Nat.zero_add, Nat.add_zero, am_fit_z0, am_fit_z1, am_fit_zc, ↓reduceIte, am_lt_T, am_lt_F, am_le_T, am_le_F, am_eq_T, am_eq_F, am_z_lt, am_z_le, am_z_eq, am_z_char, am_set_se, am_set_sk, am_set_sh, hv, hw, o_179, f_179_0, f_179_1, s_179_1, f_179_2, f_179_3, s_179_3, f_179_4, s_179_4, f_179_5, f_179_6, s_179_6, f_179_7, s_179_7, f_179_8, f_179_9, f_179_10, f_179_11, f_179_12, s_179_12, f_179_13, f_179_14, f_179_15, f_179_16, f_179_17, s_179_17, f_179_18, s_179_18, f_179_19, f_179_20, f_179_21, f_179_22, f_179_23, f_179_24, s_179_24, f_179_25, f_179_26, f_179_27, s_179_27, f_179_28, f_179_29, s_179_29, f_179_30, f_179_31, f_179_32, f_179_33, s_179_33, f_179_34, s_179_34, f_179_35, f_179_36, f_179_37, f_179_38, f_179_39, f_179_40, s_179_40, f_179_41, f_179_42, f_179_43, s_179_43, f_179_44, l_197, t_197, l_198, t_198, l_199, t_199, l_200, t_200, l_201, t_201]
        exact go (if_pos ⟨c1, c2⟩).symm
      · simp (disch := first | omega | exact am_fit_z0 | exact am_fit_z1 | (apply am_fit_zc <;> omega)) only [w41_0, w41_1, w41_3, w41_4, w41_7, w41_10, w41_11, w41_14, w41_15, w41_16, w41_18, w41_21, w41_22, w41_25, w41_26, w41_27, w41_29, w41_30, w41_31, w41_34, w41_35, w41_36, w41_39, w41_40, w41_43, w41_44, w41_45, w41_46, w41_49, w41_50, w41_53, w41_54, w41_57, w41_58, w41_61, w41_62, w41_63, w41_64, w41_65, w41_68, w41_69, w41_72, w41_73, w41_74, w41_75, w41_76, w41_76i, w41_77, w41_80, w41_81, w41_82, w41_85, w41_88, w41_91, am_fit_i, am_isR, am_okA, exists_eq_left', exists_eq_left, Option.some.injEq, true_and, and_true, List.length_cons, List.length_nil, List.drop_succ_cons, List.drop_zero, List.all_cons, List.all_nil, am_c1, Bool.and_true, Bool.true_and, Bool.and_self, decide_true, decide_false, if_true, if_false, beq_self_eq_true, Nat.reduceAdd, Nat.reduceLeDiff, Nat.reduceLT, Nat.reduceEqDiff, Nat.reduceSub, ite_true, ite_false, and_self, eq_self, am_z_add, am_z_sub, am_z_mul, Int.reduceAdd, Int.reduceSub, Int.reduceMul, Int.reduceLT, Int.reduceLE, Int.reduceEq, Int.reduceNeg, am_then_i, am_then_r, am_then_v, Nat.add_eq, Nat.zero_add, Nat.add_zero, am_fit_z0, am_fit_z1, am_fit_zc, ↓reduceIte, am_lt_T, am_lt_F, am_le_T, am_le_F, am_eq_T, am_eq_F, am_z_lt, am_z_le, am_z_eq, am_z_char, am_set_se, am_set_sk, am_set_sh, hv, hw, o_179, f_179_0, f_179_1, s_179_1, f_179_2, f_179_3, s_179_3, f_179_4, s_179_4, f_179_5, f_179_6, s_179_6, f_179_7, s_179_7, f_179_8, f_179_9, f_179_10, f_179_11, f_179_12, s_179_12, f_179_13, f_179_14, f_179_15, f_179_16, f_179_17, s_179_17, f_179_18, s_179_18, f_179_19, f_179_20, f_179_21, f_179_22, f_179_23, f_179_24, s_179_24, f_179_25, f_179_26, f_179_27, s_179_27, f_179_28, f_179_29, s_179_29, f_179_30, f_179_31, f_179_32, f_179_33, s_179_33, f_179_34, s_179_34, f_179_35, f_179_36, f_179_37, f_179_38, f_179_39, f_179_40, s_179_40, f_179_41, f_179_42, f_179_43, s_179_43, f_179_44, l_197, t_197, l_198, t_198, l_199, t_199, l_200, t_200, l_201, t_201]
        exact go (if_neg (fun q => c2 q.2)).symm
    · simp (disch := first | omega | exact am_fit_z0 | exact am_fit_z1 | (apply am_fit_zc <;> omega)) only [w41_0, w41_1, w41_3, w41_4, w41_7, w41_10, w41_11, w41_14, w41_15, w41_16, w41_18, w41_21, w41_22, w41_25, w41_26, w41_27, w41_29, w41_30, w41_31, w41_34, w41_35, w41_36, w41_39, w41_40, w41_43, w41_44, w41_45, w41_46, w41_49, w41_50, w41_53, w41_54, w41_57, w41_58, w41_61, w41_62, w41_63, w41_64, w41_65, w41_68, w41_69, w41_72, w41_73, w41_74, w41_75, w41_76, w41_76i, w41_77, w41_80, w41_81, w41_82, w41_85, w41_88, w41_91, am_fit_i, am_isR, am_okA, exists_eq_left', exists_eq_left, Option.some.injEq, true_and, and_true, List.length_cons, List.length_nil, List.drop_succ_cons, List.drop_zero, List.all_cons, List.all_nil, am_c1, Bool.and_true, Bool.true_and, Bool.and_self, decide_true, decide_false, if_true, if_false, beq_self_eq_true, Nat.reduceAdd, Nat.reduceLeDiff, Nat.reduceLT, Nat.reduceEqDiff, Nat.reduceSub, ite_true, ite_false, and_self, eq_self, am_z_add, am_z_sub, am_z_mul, Int.reduceAdd, Int.reduceSub, Int.reduceMul, Int.reduceLT, Int.reduceLE, Int.reduceEq, Int.reduceNeg, am_then_i, am_then_r, am_then_v, Nat.add_eq, Nat.zero_add, Nat.add_zero, am_fit_z0, am_fit_z1, am_fit_zc, ↓reduceIte, am_lt_T, am_lt_F, am_le_T, am_le_F, am_eq_T, am_eq_F, am_z_lt, am_z_le, am_z_eq, am_z_char, am_set_se, am_set_sk, am_set_sh, hv, hw, o_179, f_179_0, f_179_1, s_179_1, f_179_2, f_179_3, s_179_3, f_179_4, s_179_4, f_179_5, f_179_6, s_179_6, f_179_7, s_179_7, f_179_8, f_179_9, f_179_10, f_179_11, f_179_12, s_179_12, f_179_13, f_179_14, f_179_15, f_179_16, f_179_17, s_179_17, f_179_18, s_179_18, f_179_19, f_179_20, f_179_21, f_179_22, f_179_23, f_179_24, s_179_24, f_179_25, f_179_26, f_179_27, s_179_27, f_179_28, f_179_29, s_179_29, f_179_30, f_179_31, f_179_32, f_179_33, s_179_33, f_179_34, s_179_34, f_179_35, f_179_36, f_179_37, f_179_38, f_179_39, f_179_40, s_179_40, f_179_41, f_179_42, f_179_43, s_179_43, f_179_44, l_197, t_197, l_198, t_198, l_199, t_199, l_200, t_200, l_201, t_201]
      exact go (if_neg (fun q => c1 q.1)).symm
  | [], e :: ds, k, v3, L, S, hl, ho, hb, h0, h1, h2, h3, h4, x0, d0, hQ => by cases hl
  | x :: xs, [], k, v3, L, S, hl, ho, hb, h0, h1, h2, h3, h4, x0, d0, hQ => by cases hl
theorem do_addArg {d : Nat} {n : am_N} {X : Nat × (Nat → Int32)} {S : am_St} {Q : Option Value → am_N → am_M → Prop} {m : Int} {xs ds L : List Int} (hd : 1 ≤ d) (m0 : 0 ≤ m) (m1 : m ≤ 1000) (hl : xs.length = ds.length) (ho : am_ot S L) (hb : S 179 29 + xs.length ≤ 1800) (h1 : xs.length = S 179 33) (h2 : S 179 33 ≤ 200) (h3 : am_sg (S 201) 0 xs) (h4 : am_sg (S 200) 0 ds) (x0 : ∀ x ∈ xs, 0 ≤ x ∧ x < 2000) (d0 : ∀ x ∈ ds, 0 ≤ x ∧ x < 2000) (hQ : ∀ (S' : am_St), am_fk [29] [198] S S' → am_ot S' (L ++ am_lf m xs ds) → S' 179 29 = S 179 29 + xs.length → Q none n (am_m X S')) : am_Do d 41 [.ref 179, .int (am_z m)] n (am_m X S) Q := by
  rw [in_41 (by omega), w41_0, w41_1]
  exact aa_loop m0 m1 hl ho hb (Int.le_refl 0) (by omega) h2 h3 h4 x0 d0 hQ
