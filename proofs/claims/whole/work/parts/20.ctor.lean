theorem am_ne1 {N : Nat} : (N = N + 1) = False := by simp
theorem am_ne2 {N : Nat} : (N + 1 = N) = False := by simp
theorem do_newRow {d : Nat} {M : am_M} {Q : Option Value → am_N → am_M → Prop} {N c s : Nat} {k : Int} (hd : 2 ≤ d) (hN : N + 1 < 100000) (h0 : 0 ≤ k) (h1 : k ≤ 100000) : am_Do d 108 [.ref N, .int (am_z k)] (N + 1, c, s, true) (am_up M N (am_O 0 [.null, .int (am_z 0), .int (am_z 0)])) Q = Q none (N + 2, c + 1, s + k.toNat, true) (am_up (am_up M N (am_O 0 [.ref (N + 1), .int (am_z 0), .int (am_z 0)])) (N + 1) (am_I 0 k.toNat (fun _ => am_z 0))) := by
  rw [in_108 (by omega)]
  simp (disch := omega) only [w108_0, w108_1, w108_4, w108_5, w108_6, w108_9, w108_10, w108_11, w108_14, w108_15, w108_16, w108_18, w108_21, am_fit_zc, am_fld, am_setf, am_ald, am_ast, am_aald, am_aast, am_len, am_isO, am_isR, am_okA, am_rowC, am_fit_z0, am_fit_z1, am_fit_i, am_fit_r, am_fit_n, exists_eq_left', exists_eq_left, Option.some.injEq, true_and, and_true, List.getElem?_cons_zero, List.getElem?_cons_succ, List.set_cons_zero, List.set_cons_succ, List.length_cons, List.length_nil, List.drop_succ_cons, List.drop_zero, List.all_cons, List.all_nil, am_c1, Bool.and_true, Bool.true_and, Bool.and_self, decide_true, decide_false, if_true, if_false, beq_self_eq_true, Nat.reduceAdd, Nat.reduceLeDiff, Nat.reduceLT, Nat.reduceEqDiff, Nat.reduceSub, ite_true, ite_false, and_self, eq_self, am_z_add, am_z_sub, am_z_mul, Int.reduceAdd, Int.reduceSub, Int.reduceLT, Int.reduceLE, Int.reduceEq, Int.reduceToNat, Int.reduceNeg, am_then_i, am_then_r, am_then_v, Nat.add_eq, Nat.zero_add, Nat.add_zero, am_up_se, am_up_sn, am_up_same, am_up_swapO, am_up_swapR, am_up_swapI, am_Do_0, am_then_nv, am_ne1, am_ne2]
theorem do_newWalk {d : Nat} {M : am_M} {Q : Option Value → am_N → am_M → Prop} {N c s : Nat} (hd : 2 ≤ d) (hN : N + 1 < 100000) : am_Do d 132 [.ref N] (N + 1, c, s, true) (am_up M N (am_O 1 [.null, .int (am_z 0), .int (am_z 0)])) Q = Q none (N + 2, c + 1, s + 202, true) (am_up (am_up M N (am_O 1 [.ref (N + 1), .int (am_z 0), .int (am_z 0)])) (N + 1) (am_I 0 202 (fun _ => am_z 0))) := by
  rw [in_132 (by omega)]
  simp (disch := omega) only [w132_0, w132_1, w132_4, w132_5, w132_8, w132_10, w132_13, w132_14, w132_15, w132_18, w132_19, w132_20, w132_23, am_fit_zc, am_fld, am_setf, am_ald, am_ast, am_aald, am_aast, am_len, am_isO, am_isR, am_okA, am_rowC, am_fit_z0, am_fit_z1, am_fit_i, am_fit_r, am_fit_n, exists_eq_left', exists_eq_left, Option.some.injEq, true_and, and_true, List.getElem?_cons_zero, List.getElem?_cons_succ, List.set_cons_zero, List.set_cons_succ, List.length_cons, List.length_nil, List.drop_succ_cons, List.drop_zero, List.all_cons, List.all_nil, am_c1, Bool.and_true, Bool.true_and, Bool.and_self, decide_true, decide_false, if_true, if_false, beq_self_eq_true, Nat.reduceAdd, Nat.reduceLeDiff, Nat.reduceLT, Nat.reduceEqDiff, Nat.reduceSub, ite_true, ite_false, and_self, eq_self, am_z_add, am_z_sub, am_z_mul, Int.reduceAdd, Int.reduceSub, Int.reduceLT, Int.reduceLE, Int.reduceEq, Int.reduceToNat, Int.reduceNeg, am_then_i, am_then_r, am_then_v, Nat.add_eq, Nat.zero_add, Nat.add_zero, am_up_se, am_up_sn, am_up_same, am_up_swapO, am_up_swapR, am_up_swapI, am_Do_0, am_then_nv, am_ne1, am_ne2]
def am_nmf (b : Nat) : Nat → (Nat → Option Nat)
  | 0 => fun _ => none
  | i + 1 => va_up (am_nmf b i) i (some (b + 4 * i))
def am_nmM (M : am_M) : Nat → am_M
  | 0 => M
  | i + 1 => am_up (am_up (am_up (am_up (am_nmM M i) (12 + 4 * i) (am_O 0 [.ref (13 + 4 * i), .int (am_z 0), .int (am_z 0)])) (13 + 4 * i) (am_I 0 80 (fun _ => am_z 0))) (14 + 4 * i) (am_O 0 [.ref (15 + 4 * i), .int (am_z 0), .int (am_z 0)])) (15 + 4 * i) (am_I 0 80 (fun _ => am_z 0))
theorem am_nmM_lo {M : am_M} {h : Nat} (hh : h < 12) : ∀ {i : Nat}, am_nmM M i h = M h
  | 0 => rfl
  | i + 1 => by
    unfold am_nmM
    rw [am_up_at, am_up_at, am_up_at, am_up_at, if_neg (by omega), if_neg (by omega), if_neg (by omega), if_neg (by omega)]
    exact am_nmM_lo hh
def am_tyf : Nat → (Nat → Option Nat)
  | 0 => fun _ => none
  | i + 1 => va_up (am_tyf i) i (some (71 + 2 * i))
def am_tyM (M : am_M) : Nat → am_M
  | 0 => M
  | i + 1 => am_up (am_up (am_tyM M i) (71 + 2 * i) (am_O 0 [.ref (72 + 2 * i), .int (am_z 0), .int (am_z 0)])) (72 + 2 * i) (am_I 0 80 (fun _ => am_z 0))
theorem am_tyM_lo {M : am_M} {h : Nat} (hh : h < 71) : ∀ {i : Nat}, am_tyM M i h = M h
  | 0 => rfl
  | i + 1 => by
    unfold am_tyM
    rw [am_up_at, am_up_at, if_neg (by omega), if_neg (by omega)]
    exact am_tyM_lo hh
theorem nm_step {d : Nat} {M : am_M} {Q : Option Value → am_N → am_M → Prop} {c s : Nat} {i : Nat} (hd : 3 ≤ d) (hi : i < 8) {v2 v3 : Value} (h8 : M 8 = some (am_O 3 [.ref 9, .ref 10, v2, v3])) : am_AW d 78 (37, [.ref 8, .int (am_z i)], [], (12 + 4 * i, c, s, true), am_up (am_up (am_nmM M i) 9 (am_R 4 8 (am_nmf 12 i))) 10 (am_R 4 8 (am_nmf 14 i))) Q = am_AW d 78 (37, [.ref 8, .int (am_z (i + 1 : Nat))], [], (12 + 4 * (i + 1), c + 4, s + 166, true), am_up (am_up (am_nmM M (i + 1)) 9 (am_R 4 8 (am_nmf 12 (i + 1)))) 10 (am_R 4 8 (am_nmf 14 (i + 1)))) Q := by
  rw [w78_37]
  have hz : ((i : Int) < 8) = True := by simp; omega
  simp (disch := omega) only [w78_0, w78_1, w78_4, w78_5, w78_7, w78_10, w78_13, w78_14, w78_16, w78_19, w78_22, w78_23, w78_25, w78_27, w78_30, w78_31, w78_32, w78_35, w78_36, w78_38, w78_40, w78_43, w78_44, w78_47, w78_48, w78_51, w78_51i, w78_52, w78_54, w78_57, w78_58, w78_59, w78_62, w78_63, w78_66, w78_66i, w78_67, w78_69, w78_72, w78_73, w78_76, w78_79, am_fit_zc, am_fld, am_setf, am_ald, am_ast, am_aald, am_aast, am_len, am_isO, am_isR, am_okA, am_rowC, am_fit_z0, am_fit_z1, am_fit_i, am_fit_r, am_fit_n, exists_eq_left', exists_eq_left, Option.some.injEq, true_and, and_true, List.getElem?_cons_zero, List.getElem?_cons_succ, List.set_cons_zero, List.set_cons_succ, List.length_cons, List.length_nil, List.drop_succ_cons, List.drop_zero, List.all_cons, List.all_nil, am_c1, Bool.and_true, Bool.true_and, Bool.and_self, decide_true, decide_false, if_true, if_false, beq_self_eq_true, Nat.reduceAdd, Nat.reduceLeDiff, Nat.reduceLT, Nat.reduceEqDiff, Nat.reduceSub, ite_true, ite_false, and_self, eq_self, am_z_add, am_z_sub, am_z_mul, Int.reduceAdd, Int.reduceSub, Int.reduceLT, Int.reduceLE, Int.reduceEq, Int.reduceToNat, Int.reduceNeg, am_then_i, am_then_r, am_then_v, Nat.add_eq, Nat.zero_add, Nat.add_zero, am_up_se, am_up_sn, am_up_same, am_up_swapO, am_up_swapR, am_up_swapI, am_Do_0, am_then_nv, am_ne1, am_ne2, am_z_lt, am_z_nat, am_z_in, do_newRow, do_newWalk, am_tyM_lo, am_nmM_lo, h8, hz, am_nmM, am_nmf, Int.toNat_natCast]
  have e1 : ((i + 1 : Nat) : Int) = (i : Int) + 1 := by omega
  have e2 : 12 + 4 * i + 1 = 13 + 4 * i := by omega
  have e3 : 12 + 4 * i + 2 = 14 + 4 * i := by omega
  have e4 : 14 + 4 * i + 1 = 15 + 4 * i := by omega
  have e5 : 14 + 4 * i + 2 = 12 + 4 * (i + 1) := by omega
  rw [e1, e2, e3, e4, e5]
theorem ty_step {d : Nat} {M : am_M} {Q : Option Value → am_N → am_M → Prop} {c s : Nat} {i : Nat} (hd : 3 ≤ d) (hi : i < 54) {v0 v1 v2 v3 v4 v5 v7 v8 v9 a1 a2 a3 a4 a5 : Value} (h8 : M 66 = some (am_O 7 [v0, v1, v2, v3, v4, v5, .ref 67, v7, v8, v9])) : am_AW d 119 (77, [.ref 66, a1, a2, a3, a4, a5, .int (am_z i)], [], (71 + 2 * i, c, s, true), am_up (am_tyM M i) 67 (am_R 4 54 (am_tyf i))) Q = am_AW d 119 (77, [.ref 66, a1, a2, a3, a4, a5, .int (am_z (i + 1 : Nat))], [], (71 + 2 * (i + 1), c + 2, s + 83, true), am_up (am_tyM M (i + 1)) 67 (am_R 4 54 (am_tyf (i + 1)))) Q := by
  rw [w119_77]
  have hz : ((i : Int) < 54) = True := by simp; omega
  simp (disch := omega) only [w119_0, w119_1, w119_4, w119_5, w119_7, w119_10, w119_13, w119_14, w119_17, w119_17i, w119_18, w119_20, w119_23, w119_26, w119_27, w119_29, w119_31, w119_34, w119_35, w119_36, w119_39, w119_40, w119_41, w119_44, w119_45, w119_46, w119_49, w119_52, w119_53, w119_54, w119_57, w119_58, w119_59, w119_62, w119_63, w119_65, w119_68, w119_69, w119_71, w119_74, w119_75, w119_79, w119_81, w119_84, w119_85, w119_88, w119_90, w119_93, w119_93i, w119_94, w119_96, w119_99, w119_100, w119_103, w119_106, am_fit_zc, am_fld, am_setf, am_ald, am_ast, am_aald, am_aast, am_len, am_isO, am_isR, am_okA, am_rowC, am_fit_z0, am_fit_z1, am_fit_i, am_fit_r, am_fit_n, exists_eq_left', exists_eq_left, Option.some.injEq, true_and, and_true, List.getElem?_cons_zero, List.getElem?_cons_succ, List.set_cons_zero, List.set_cons_succ, List.length_cons, List.length_nil, List.drop_succ_cons, List.drop_zero, List.all_cons, List.all_nil, am_c1, Bool.and_true, Bool.true_and, Bool.and_self, decide_true, decide_false, if_true, if_false, beq_self_eq_true, Nat.reduceAdd, Nat.reduceLeDiff, Nat.reduceLT, Nat.reduceEqDiff, Nat.reduceSub, ite_true, ite_false, and_self, eq_self, am_z_add, am_z_sub, am_z_mul, Int.reduceAdd, Int.reduceSub, Int.reduceLT, Int.reduceLE, Int.reduceEq, Int.reduceToNat, Int.reduceNeg, am_then_i, am_then_r, am_then_v, Nat.add_eq, Nat.zero_add, Nat.add_zero, am_up_se, am_up_sn, am_up_same, am_up_swapO, am_up_swapR, am_up_swapI, am_Do_0, am_then_nv, am_ne1, am_ne2, am_z_lt, am_z_nat, am_z_in, do_newRow, do_newWalk, am_tyM_lo, am_nmM_lo, h8, hz, am_tyM, am_tyf, Int.toNat_natCast]
  have e1 : ((i + 1 : Nat) : Int) = (i : Int) + 1 := by omega
  have e2 : 71 + 2 * i + 1 = 72 + 2 * i := by omega
  have e3 : 71 + 2 * i + 2 = 71 + 2 * (i + 1) := by omega
  rw [e1, e2, e3]
theorem nm_loop {d : Nat} {M : am_M} {Q : Option Value → am_N → am_M → Prop} (hd : 3 ≤ d) {v2 v3 : Value} (h8 : M 8 = some (am_O 3 [.ref 9, .ref 10, v2, v3])) : ∀ (k : Nat) {i c s : Nat}, i + k = 8 → am_AW d 78 (37, [.ref 8, .int (am_z i)], [], (12 + 4 * i, c, s, true), am_up (am_up (am_nmM M i) 9 (am_R 4 8 (am_nmf 12 i))) 10 (am_R 4 8 (am_nmf 14 i))) Q = am_AW d 78 (37, [.ref 8, .int (am_z 8)], [], (44, c + 4 * k, s + 166 * k, true), am_up (am_up (am_nmM M 8) 9 (am_R 4 8 (am_nmf 12 8))) 10 (am_R 4 8 (am_nmf 14 8))) Q
  | 0, i, c, s, hk => by
    obtain rfl : i = 8 := by omega
    rfl
  | k + 1, i, c, s, hk => by
    rw [nm_step hd (by omega) h8, nm_loop hd h8 k (by omega)]
    rw [show c + 4 + 4 * k = c + 4 * (k + 1) by omega, show s + 166 + 166 * k = s + 166 * (k + 1) by omega]
theorem ty_loop {d : Nat} {M : am_M} {Q : Option Value → am_N → am_M → Prop} (hd : 3 ≤ d) {v0 v1 v2 v3 v4 v5 v7 v8 v9 a1 a2 a3 a4 a5 : Value} (h8 : M 66 = some (am_O 7 [v0, v1, v2, v3, v4, v5, .ref 67, v7, v8, v9])) : ∀ (k : Nat) {i c s : Nat}, i + k = 54 → am_AW d 119 (77, [.ref 66, a1, a2, a3, a4, a5, .int (am_z i)], [], (71 + 2 * i, c, s, true), am_up (am_tyM M i) 67 (am_R 4 54 (am_tyf i))) Q = am_AW d 119 (77, [.ref 66, a1, a2, a3, a4, a5, .int (am_z 54)], [], (179, c + 2 * k, s + 83 * k, true), am_up (am_tyM M 54) 67 (am_R 4 54 (am_tyf 54))) Q
  | 0, i, c, s, hk => by
    obtain rfl : i = 54 := by omega
    rfl
  | k + 1, i, c, s, hk => by
    rw [ty_step hd (by omega) h8, ty_loop hd h8 k (by omega)]
    rw [show c + 2 + 2 * k = c + 2 * (k + 1) by omega, show s + 83 + 83 * k = s + 83 * (k + 1) by omega]
