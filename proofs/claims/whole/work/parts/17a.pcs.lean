section W0
variable {d : Nat} {n : am_N} {M : am_M} {Q : Option Value → am_N → am_M → Prop}
theorem w0_0 {x : Nat} {st : List Value} : am_AW d 0 (0, [.ref x], st, n, M) Q = (am_AW d 0 (1, [.ref x], .ref x :: st, n, M) Q) := am_AW_go rfl rfl rfl rfl
theorem w0_1 {L st : List Value} {v0 : Value} : am_AW d 0 (1, L, v0 :: st, n, M) Q = (am_okA 1 (v0 :: st) = true ∧ am_isR [v0] = true ∧ am_Do d 2000 [v0] n M (am_then d 0 4 0 L st n Q)) := am_AW_ci (i := 3) (x := 2000) (y := 1) (z := 0) rfl
theorem w0_4 {x : Nat} {st : List Value} : am_AW d 0 (4, [.ref x], st, n, M) Q = (am_AW d 0 (5, [.ref x], .ref x :: st, n, M) Q) := am_AW_go rfl rfl rfl rfl
theorem w0_5 {L st : List Value} : am_AW d 0 (5, L, st, n, M) Q = (am_AW d 0 (7, L, .int (am_z 100) :: st, n, M) Q) := am_AW_go rfl rfl rfl rfl
theorem w0_7 {L st : List Value} {N c s : Nat} {k : Int} (h0 : 0 ≤ k) (h1 : k ≤ 100000) (hN : N < 100000) : am_AW d 0 (7, L, .int (am_z k) :: st, (N, c, s, true), M) Q = am_AW d 0 (9, L, .ref N :: st, (N + 1, c + 1, s + k.toNat, true), am_up M N (am_I 1 k.toNat (fun _ => am_z 0))) Q := am_AW_newa (t := .char) (cc := am_I 1 k.toNat (fun _ => am_z 0)) rfl h0 h1 hN rfl rfl
theorem w0_9 {L st : List Value} {h : Nat} {v : Value} : am_AW d 0 (9, L, v :: .ref h :: st, n, M) Q = (am_fit 3 v = true ∧ ∃ M', am_setf M h 9 0 v = some M' ∧ am_AW d 0 (12, L, st, n, M') Q) := am_AW_put rfl
theorem w0_12 {x : Nat} {st : List Value} : am_AW d 0 (12, [.ref x], st, n, M) Q = (am_AW d 0 (13, [.ref x], .ref x :: st, n, M) Q) := am_AW_go rfl rfl rfl rfl
theorem w0_13 {L st : List Value} : am_AW d 0 (13, L, st, n, M) Q = (am_AW d 0 (14, L, .int (am_z 0) :: st, n, M) Q) := am_AW_go rfl rfl rfl rfl
theorem w0_14 {L st : List Value} {h : Nat} {v : Value} : am_AW d 0 (14, L, v :: .ref h :: st, n, M) Q = (am_fit 0 v = true ∧ ∃ M', am_setf M h 9 1 v = some M' ∧ am_AW d 0 (17, L, st, n, M') Q) := am_AW_put rfl
theorem w0_17 {x : Nat} {st : List Value} : am_AW d 0 (17, [.ref x], st, n, M) Q = (am_AW d 0 (18, [.ref x], .ref x :: st, n, M) Q) := am_AW_go rfl rfl rfl rfl
theorem w0_18 {L st : List Value} {N c s : Nat} (hN : N < 100000) : am_AW d 0 (18, L, st, (N, c, s, true), M) Q = am_AW d 0 (21, L, .ref N :: st, (N + 1, c + 1, s + 2, true), am_up M N (am_O 2 [.int (am_z 0), .int (am_z 0)])) Q := am_AW_new (i := 17) (x := 2) (y := 0) (z := 0) rfl (by omega) hN
theorem w0_21 {L st : List Value} {x : Nat} : am_AW d 0 (21, L, .ref x :: st, n, M) Q = (am_AW d 0 (22, L, .ref x :: .ref x :: st, n, M) Q) := am_AW_go rfl rfl rfl rfl
theorem w0_21i {L st : List Value} {x : Int32} : am_AW d 0 (21, L, .int x :: st, n, M) Q = (am_AW d 0 (22, L, .int x :: .int x :: st, n, M) Q) := am_AW_go rfl rfl rfl rfl
theorem w0_22 {L st : List Value} {v0 : Value} : am_AW d 0 (22, L, v0 :: st, n, M) Q = (am_okA 1 (v0 :: st) = true ∧ am_isR [v0] = true ∧ am_Do d 75 [v0] n M (am_then d 0 25 0 L st n Q)) := am_AW_ci (i := 19) (x := 75) (y := 1) (z := 0) rfl
theorem w0_25 {L st : List Value} {h : Nat} {v : Value} : am_AW d 0 (25, L, v :: .ref h :: st, n, M) Q = (am_fit 3 v = true ∧ ∃ M', am_setf M h 9 2 v = some M' ∧ am_AW d 0 (28, L, st, n, M') Q) := am_AW_put rfl
theorem w0_28 {x : Nat} {st : List Value} : am_AW d 0 (28, [.ref x], st, n, M) Q = (am_AW d 0 (29, [.ref x], .ref x :: st, n, M) Q) := am_AW_go rfl rfl rfl rfl
theorem w0_29 {L st : List Value} {N c s : Nat} (hN : N < 100000) : am_AW d 0 (29, L, st, (N, c, s, true), M) Q = am_AW d 0 (32, L, .ref N :: st, (N + 1, c + 1, s + 2, true), am_up M N (am_O 4 [.null, .null])) Q := am_AW_new (i := 24) (x := 4) (y := 0) (z := 0) rfl (by omega) hN
theorem w0_32 {L st : List Value} {x : Nat} : am_AW d 0 (32, L, .ref x :: st, n, M) Q = (am_AW d 0 (33, L, .ref x :: .ref x :: st, n, M) Q) := am_AW_go rfl rfl rfl rfl
theorem w0_32i {L st : List Value} {x : Int32} : am_AW d 0 (32, L, .int x :: st, n, M) Q = (am_AW d 0 (33, L, .int x :: .int x :: st, n, M) Q) := am_AW_go rfl rfl rfl rfl
theorem w0_33 {L st : List Value} {v0 : Value} : am_AW d 0 (33, L, v0 :: st, n, M) Q = (am_okA 1 (v0 :: st) = true ∧ am_isR [v0] = true ∧ am_Do d 72 [v0] n M (am_then d 0 36 0 L st n Q)) := am_AW_ci (i := 26) (x := 72) (y := 1) (z := 0) rfl
theorem w0_36 {L st : List Value} {h : Nat} {v : Value} : am_AW d 0 (36, L, v :: .ref h :: st, n, M) Q = (am_fit 3 v = true ∧ ∃ M', am_setf M h 9 3 v = some M' ∧ am_AW d 0 (39, L, st, n, M') Q) := am_AW_put rfl
theorem w0_39 {x : Nat} {st : List Value} : am_AW d 0 (39, [.ref x], st, n, M) Q = (am_AW d 0 (40, [.ref x], .ref x :: st, n, M) Q) := am_AW_go rfl rfl rfl rfl
theorem w0_40 {L st : List Value} {N c s : Nat} (hN : N < 100000) : am_AW d 0 (40, L, st, (N, c, s, true), M) Q = am_AW d 0 (43, L, .ref N :: st, (N + 1, c + 1, s + 4, true), am_up M N (am_O 3 [.null, .null, .null, .int (am_z 0)])) Q := am_AW_new (i := 31) (x := 3) (y := 0) (z := 0) rfl (by omega) hN
theorem w0_43 {L st : List Value} {x : Nat} : am_AW d 0 (43, L, .ref x :: st, n, M) Q = (am_AW d 0 (44, L, .ref x :: .ref x :: st, n, M) Q) := am_AW_go rfl rfl rfl rfl
theorem w0_43i {L st : List Value} {x : Int32} : am_AW d 0 (43, L, .int x :: st, n, M) Q = (am_AW d 0 (44, L, .int x :: .int x :: st, n, M) Q) := am_AW_go rfl rfl rfl rfl
theorem w0_44 {L st : List Value} {v0 : Value} : am_AW d 0 (44, L, v0 :: st, n, M) Q = (am_okA 1 (v0 :: st) = true ∧ am_isR [v0] = true ∧ am_Do d 78 [v0] n M (am_then d 0 47 0 L st n Q)) := am_AW_ci (i := 33) (x := 78) (y := 1) (z := 0) rfl
theorem w0_47 {L st : List Value} {h : Nat} {v : Value} : am_AW d 0 (47, L, v :: .ref h :: st, n, M) Q = (am_fit 3 v = true ∧ ∃ M', am_setf M h 9 4 v = some M' ∧ am_AW d 0 (50, L, st, n, M') Q) := am_AW_put rfl
theorem w0_50 {x : Nat} {st : List Value} : am_AW d 0 (50, [.ref x], st, n, M) Q = (am_AW d 0 (51, [.ref x], .ref x :: st, n, M) Q) := am_AW_go rfl rfl rfl rfl
theorem w0_51 {L st : List Value} {N c s : Nat} (hN : N < 100000) : am_AW d 0 (51, L, st, (N, c, s, true), M) Q = am_AW d 0 (54, L, .ref N :: st, (N + 1, c + 1, s + 4, true), am_up M N (am_O 8 [.null, .int (am_z 0), .int (am_z 0), .null])) Q := am_AW_new (i := 38) (x := 8) (y := 0) (z := 0) rfl (by omega) hN
theorem w0_54 {L st : List Value} {x : Nat} : am_AW d 0 (54, L, .ref x :: st, n, M) Q = (am_AW d 0 (55, L, .ref x :: .ref x :: st, n, M) Q) := am_AW_go rfl rfl rfl rfl
theorem w0_54i {L st : List Value} {x : Int32} : am_AW d 0 (54, L, .int x :: st, n, M) Q = (am_AW d 0 (55, L, .int x :: .int x :: st, n, M) Q) := am_AW_go rfl rfl rfl rfl
theorem w0_55 {L st : List Value} {v0 : Value} : am_AW d 0 (55, L, v0 :: st, n, M) Q = (am_okA 1 (v0 :: st) = true ∧ am_isR [v0] = true ∧ am_Do d 136 [v0] n M (am_then d 0 58 0 L st n Q)) := am_AW_ci (i := 40) (x := 136) (y := 1) (z := 0) rfl
theorem w0_58 {L st : List Value} {h : Nat} {v : Value} : am_AW d 0 (58, L, v :: .ref h :: st, n, M) Q = (am_fit 3 v = true ∧ ∃ M', am_setf M h 9 8 v = some M' ∧ am_AW d 0 (61, L, st, n, M') Q) := am_AW_put rfl
theorem w0_61 {x : Nat} {st : List Value} : am_AW d 0 (61, [.ref x], st, n, M) Q = (am_AW d 0 (62, [.ref x], .ref x :: st, n, M) Q) := am_AW_go rfl rfl rfl rfl
theorem w0_62 {L st : List Value} {N c s : Nat} (hN : N < 100000) : am_AW d 0 (62, L, st, (N, c, s, true), M) Q = am_AW d 0 (65, L, .ref N :: st, (N + 1, c + 1, s + 3, true), am_up M N (am_O 0 [.null, .int (am_z 0), .int (am_z 0)])) Q := am_AW_new (i := 45) (x := 0) (y := 0) (z := 0) rfl (by omega) hN
theorem w0_65 {L st : List Value} {x : Nat} : am_AW d 0 (65, L, .ref x :: st, n, M) Q = (am_AW d 0 (66, L, .ref x :: .ref x :: st, n, M) Q) := am_AW_go rfl rfl rfl rfl
theorem w0_65i {L st : List Value} {x : Int32} : am_AW d 0 (65, L, .int x :: st, n, M) Q = (am_AW d 0 (66, L, .int x :: .int x :: st, n, M) Q) := am_AW_go rfl rfl rfl rfl
theorem w0_66 {L st : List Value} : am_AW d 0 (66, L, st, n, M) Q = (am_AW d 0 (68, L, .int (am_z 80) :: st, n, M) Q) := am_AW_go rfl rfl rfl rfl
theorem w0_68 {L st : List Value} {v0 v1 : Value} : am_AW d 0 (68, L, v0 :: v1 :: st, n, M) Q = (am_okA 2 (v0 :: v1 :: st) = true ∧ am_isR [v1, v0] = true ∧ am_Do d 108 [v1, v0] n M (am_then d 0 71 0 L st n Q)) := am_AW_ci (i := 47) (x := 108) (y := 2) (z := 0) rfl
theorem w0_71 {L st : List Value} {h : Nat} {v : Value} : am_AW d 0 (71, L, v :: .ref h :: st, n, M) Q = (am_fit 3 v = true ∧ ∃ M', am_setf M h 9 9 v = some M' ∧ am_AW d 0 (74, L, st, n, M') Q) := am_AW_put rfl
theorem w0_74 {x : Nat} {st : List Value} : am_AW d 0 (74, [.ref x], st, n, M) Q = (am_AW d 0 (75, [.ref x], .ref x :: st, n, M) Q) := am_AW_go rfl rfl rfl rfl
theorem w0_75 {L st : List Value} {N c s : Nat} (hN : N < 100000) : am_AW d 0 (75, L, st, (N, c, s, true), M) Q = am_AW d 0 (78, L, .ref N :: st, (N + 1, c + 1, s + 3, true), am_up M N (am_O 0 [.null, .int (am_z 0), .int (am_z 0)])) Q := am_AW_new (i := 45) (x := 0) (y := 0) (z := 0) rfl (by omega) hN
theorem w0_78 {L st : List Value} {x : Nat} : am_AW d 0 (78, L, .ref x :: st, n, M) Q = (am_AW d 0 (79, L, .ref x :: .ref x :: st, n, M) Q) := am_AW_go rfl rfl rfl rfl
theorem w0_78i {L st : List Value} {x : Int32} : am_AW d 0 (78, L, .int x :: st, n, M) Q = (am_AW d 0 (79, L, .int x :: .int x :: st, n, M) Q) := am_AW_go rfl rfl rfl rfl
theorem w0_79 {L st : List Value} : am_AW d 0 (79, L, st, n, M) Q = (am_AW d 0 (81, L, .int (am_z 80) :: st, n, M) Q) := am_AW_go rfl rfl rfl rfl
theorem w0_81 {L st : List Value} {v0 v1 : Value} : am_AW d 0 (81, L, v0 :: v1 :: st, n, M) Q = (am_okA 2 (v0 :: v1 :: st) = true ∧ am_isR [v1, v0] = true ∧ am_Do d 108 [v1, v0] n M (am_then d 0 84 0 L st n Q)) := am_AW_ci (i := 47) (x := 108) (y := 2) (z := 0) rfl
theorem w0_84 {L st : List Value} {h : Nat} {v : Value} : am_AW d 0 (84, L, v :: .ref h :: st, n, M) Q = (am_fit 3 v = true ∧ ∃ M', am_setf M h 9 10 v = some M' ∧ am_AW d 0 (87, L, st, n, M') Q) := am_AW_put rfl
theorem w0_87 {x : Nat} {st : List Value} : am_AW d 0 (87, [.ref x], st, n, M) Q = (am_AW d 0 (88, [.ref x], .ref x :: st, n, M) Q) := am_AW_go rfl rfl rfl rfl
theorem w0_88 {L st : List Value} {N c s : Nat} (hN : N < 100000) : am_AW d 0 (88, L, st, (N, c, s, true), M) Q = am_AW d 0 (91, L, .ref N :: st, (N + 1, c + 1, s + 17, true), am_up M N (am_O 5 [.null, .null, .null, .null, .null, .int (am_z 0), .int (am_z 0), .int (am_z 0), .int (am_z 0), .int (am_z 0), .null, .null, .null, .null, .null, .null, .int (am_z 0)])) Q := am_AW_new (i := 57) (x := 5) (y := 0) (z := 0) rfl (by omega) hN
theorem w0_91 {L st : List Value} {x : Nat} : am_AW d 0 (91, L, .ref x :: st, n, M) Q = (am_AW d 0 (92, L, .ref x :: .ref x :: st, n, M) Q) := am_AW_go rfl rfl rfl rfl
theorem w0_91i {L st : List Value} {x : Int32} : am_AW d 0 (91, L, .int x :: st, n, M) Q = (am_AW d 0 (92, L, .int x :: .int x :: st, n, M) Q) := am_AW_go rfl rfl rfl rfl
theorem w0_92 {x : Nat} {st : List Value} : am_AW d 0 (92, [.ref x], st, n, M) Q = (am_AW d 0 (93, [.ref x], .ref x :: st, n, M) Q) := am_AW_go rfl rfl rfl rfl
theorem w0_93 {L st : List Value} {h : Nat} : am_AW d 0 (93, L, .ref h :: st, n, M) Q = (∃ v, am_fld M h 9 4 = some v ∧ am_AW d 0 (96, L, v :: st, n, M) Q) := am_AW_op (o := am_fld M h 9 4) (f := fun v => (96, L, v :: st, n, M)) rfl rfl (am_bm _ _) (fun _ => rfl)
theorem w0_96 {x : Nat} {st : List Value} : am_AW d 0 (96, [.ref x], st, n, M) Q = (am_AW d 0 (97, [.ref x], .ref x :: st, n, M) Q) := am_AW_go rfl rfl rfl rfl
theorem w0_97 {L st : List Value} {h : Nat} : am_AW d 0 (97, L, .ref h :: st, n, M) Q = (∃ v, am_fld M h 9 2 = some v ∧ am_AW d 0 (100, L, v :: st, n, M) Q) := am_AW_op (o := am_fld M h 9 2) (f := fun v => (100, L, v :: st, n, M)) rfl rfl (am_bm _ _) (fun _ => rfl)
theorem w0_100 {L st : List Value} {v0 v1 v2 : Value} : am_AW d 0 (100, L, v0 :: v1 :: v2 :: st, n, M) Q = (am_okA 3 (v0 :: v1 :: v2 :: st) = true ∧ am_isR [v2, v1, v0] = true ∧ am_Do d 81 [v2, v1, v0] n M (am_then d 0 103 0 L st n Q)) := am_AW_ci (i := 59) (x := 81) (y := 3) (z := 0) rfl
theorem w0_103 {L st : List Value} {h : Nat} {v : Value} : am_AW d 0 (103, L, v :: .ref h :: st, n, M) Q = (am_fit 3 v = true ∧ ∃ M', am_setf M h 9 5 v = some M' ∧ am_AW d 0 (106, L, st, n, M') Q) := am_AW_put rfl
theorem w0_106 {x : Nat} {st : List Value} : am_AW d 0 (106, [.ref x], st, n, M) Q = (am_AW d 0 (107, [.ref x], .ref x :: st, n, M) Q) := am_AW_go rfl rfl rfl rfl
theorem w0_107 {L st : List Value} {N c s : Nat} (hN : N < 100000) : am_AW d 0 (107, L, st, (N, c, s, true), M) Q = am_AW d 0 (110, L, .ref N :: st, (N + 1, c + 1, s + 3, true), am_up M N (am_O 6 [.null, .null, .null])) Q := am_AW_new (i := 66) (x := 6) (y := 0) (z := 0) rfl (by omega) hN
theorem w0_110 {L st : List Value} {x : Nat} : am_AW d 0 (110, L, .ref x :: st, n, M) Q = (am_AW d 0 (111, L, .ref x :: .ref x :: st, n, M) Q) := am_AW_go rfl rfl rfl rfl
theorem w0_110i {L st : List Value} {x : Int32} : am_AW d 0 (110, L, .int x :: st, n, M) Q = (am_AW d 0 (111, L, .int x :: .int x :: st, n, M) Q) := am_AW_go rfl rfl rfl rfl
theorem w0_111 {x : Nat} {st : List Value} : am_AW d 0 (111, [.ref x], st, n, M) Q = (am_AW d 0 (112, [.ref x], .ref x :: st, n, M) Q) := am_AW_go rfl rfl rfl rfl
theorem w0_112 {L st : List Value} {h : Nat} : am_AW d 0 (112, L, .ref h :: st, n, M) Q = (∃ v, am_fld M h 9 4 = some v ∧ am_AW d 0 (115, L, v :: st, n, M) Q) := am_AW_op (o := am_fld M h 9 4) (f := fun v => (115, L, v :: st, n, M)) rfl rfl (am_bm _ _) (fun _ => rfl)
theorem w0_115 {x : Nat} {st : List Value} : am_AW d 0 (115, [.ref x], st, n, M) Q = (am_AW d 0 (116, [.ref x], .ref x :: st, n, M) Q) := am_AW_go rfl rfl rfl rfl
theorem w0_116 {L st : List Value} {h : Nat} : am_AW d 0 (116, L, .ref h :: st, n, M) Q = (∃ v, am_fld M h 9 3 = some v ∧ am_AW d 0 (119, L, v :: st, n, M) Q) := am_AW_op (o := am_fld M h 9 3) (f := fun v => (119, L, v :: st, n, M)) rfl rfl (am_bm _ _) (fun _ => rfl)
theorem w0_119 {L st : List Value} {v0 v1 v2 : Value} : am_AW d 0 (119, L, v0 :: v1 :: v2 :: st, n, M) Q = (am_okA 3 (v0 :: v1 :: v2 :: st) = true ∧ am_isR [v2, v1, v0] = true ∧ am_Do d 101 [v2, v1, v0] n M (am_then d 0 122 0 L st n Q)) := am_AW_ci (i := 68) (x := 101) (y := 3) (z := 0) rfl
theorem w0_122 {L st : List Value} {h : Nat} {v : Value} : am_AW d 0 (122, L, v :: .ref h :: st, n, M) Q = (am_fit 3 v = true ∧ ∃ M', am_setf M h 9 6 v = some M' ∧ am_AW d 0 (125, L, st, n, M') Q) := am_AW_put rfl
theorem w0_125 {x : Nat} {st : List Value} : am_AW d 0 (125, [.ref x], st, n, M) Q = (am_AW d 0 (126, [.ref x], .ref x :: st, n, M) Q) := am_AW_go rfl rfl rfl rfl
theorem w0_126 {L st : List Value} {N c s : Nat} (hN : N < 100000) : am_AW d 0 (126, L, st, (N, c, s, true), M) Q = am_AW d 0 (129, L, .ref N :: st, (N + 1, c + 1, s + 10, true), am_up M N (am_O 7 [.null, .null, .null, .null, .null, .null, .null, .null, .null, .int (am_z 0)])) Q := am_AW_new (i := 75) (x := 7) (y := 0) (z := 0) rfl (by omega) hN
theorem w0_129 {L st : List Value} {x : Nat} : am_AW d 0 (129, L, .ref x :: st, n, M) Q = (am_AW d 0 (130, L, .ref x :: .ref x :: st, n, M) Q) := am_AW_go rfl rfl rfl rfl
theorem w0_129i {L st : List Value} {x : Int32} : am_AW d 0 (129, L, .int x :: st, n, M) Q = (am_AW d 0 (130, L, .int x :: .int x :: st, n, M) Q) := am_AW_go rfl rfl rfl rfl
theorem w0_130 {x : Nat} {st : List Value} : am_AW d 0 (130, [.ref x], st, n, M) Q = (am_AW d 0 (131, [.ref x], .ref x :: st, n, M) Q) := am_AW_go rfl rfl rfl rfl
theorem w0_131 {L st : List Value} {h : Nat} : am_AW d 0 (131, L, .ref h :: st, n, M) Q = (∃ v, am_fld M h 9 5 = some v ∧ am_AW d 0 (134, L, v :: st, n, M) Q) := am_AW_op (o := am_fld M h 9 5) (f := fun v => (134, L, v :: st, n, M)) rfl rfl (am_bm _ _) (fun _ => rfl)
theorem w0_134 {x : Nat} {st : List Value} : am_AW d 0 (134, [.ref x], st, n, M) Q = (am_AW d 0 (135, [.ref x], .ref x :: st, n, M) Q) := am_AW_go rfl rfl rfl rfl
theorem w0_135 {L st : List Value} {h : Nat} : am_AW d 0 (135, L, .ref h :: st, n, M) Q = (∃ v, am_fld M h 9 4 = some v ∧ am_AW d 0 (138, L, v :: st, n, M) Q) := am_AW_op (o := am_fld M h 9 4) (f := fun v => (138, L, v :: st, n, M)) rfl rfl (am_bm _ _) (fun _ => rfl)
theorem w0_138 {x : Nat} {st : List Value} : am_AW d 0 (138, [.ref x], st, n, M) Q = (am_AW d 0 (139, [.ref x], .ref x :: st, n, M) Q) := am_AW_go rfl rfl rfl rfl
theorem w0_139 {L st : List Value} {h : Nat} : am_AW d 0 (139, L, .ref h :: st, n, M) Q = (∃ v, am_fld M h 9 6 = some v ∧ am_AW d 0 (142, L, v :: st, n, M) Q) := am_AW_op (o := am_fld M h 9 6) (f := fun v => (142, L, v :: st, n, M)) rfl rfl (am_bm _ _) (fun _ => rfl)
theorem w0_142 {x : Nat} {st : List Value} : am_AW d 0 (142, [.ref x], st, n, M) Q = (am_AW d 0 (143, [.ref x], .ref x :: st, n, M) Q) := am_AW_go rfl rfl rfl rfl
theorem w0_143 {L st : List Value} {h : Nat} : am_AW d 0 (143, L, .ref h :: st, n, M) Q = (∃ v, am_fld M h 9 3 = some v ∧ am_AW d 0 (146, L, v :: st, n, M) Q) := am_AW_op (o := am_fld M h 9 3) (f := fun v => (146, L, v :: st, n, M)) rfl rfl (am_bm _ _) (fun _ => rfl)
theorem w0_146 {x : Nat} {st : List Value} : am_AW d 0 (146, [.ref x], st, n, M) Q = (am_AW d 0 (147, [.ref x], .ref x :: st, n, M) Q) := am_AW_go rfl rfl rfl rfl
theorem w0_147 {L st : List Value} {h : Nat} : am_AW d 0 (147, L, .ref h :: st, n, M) Q = (∃ v, am_fld M h 9 2 = some v ∧ am_AW d 0 (150, L, v :: st, n, M) Q) := am_AW_op (o := am_fld M h 9 2) (f := fun v => (150, L, v :: st, n, M)) rfl rfl (am_bm _ _) (fun _ => rfl)
theorem w0_150 {L st : List Value} {v0 v1 v2 v3 v4 v5 : Value} : am_AW d 0 (150, L, v0 :: v1 :: v2 :: v3 :: v4 :: v5 :: st, n, M) Q = (am_okA 6 (v0 :: v1 :: v2 :: v3 :: v4 :: v5 :: st) = true ∧ am_isR [v5, v4, v3, v2, v1, v0] = true ∧ am_Do d 119 [v5, v4, v3, v2, v1, v0] n M (am_then d 0 153 0 L st n Q)) := am_AW_ci (i := 77) (x := 119) (y := 6) (z := 0) rfl
theorem w0_153 {L st : List Value} {h : Nat} {v : Value} : am_AW d 0 (153, L, v :: .ref h :: st, n, M) Q = (am_fit 3 v = true ∧ ∃ M', am_setf M h 9 7 v = some M' ∧ am_AW d 0 (156, L, st, n, M') Q) := am_AW_put rfl
theorem w0_156 {L : List Value} : am_AW d 0 (156, L, [], n, M) Q = (Q none n M) := am_AW_ret (rv := (none, n)) rfl rfl rfl (am_mono_self n)
end W0
section W18
variable {d : Nat} {n : am_N} {M : am_M} {Q : Option Value → am_N → am_M → Prop}
theorem w18_0 {x : Nat} {st : List Value} : am_AW d 18 (0, [.ref x], st, n, M) Q = (am_AW d 18 (1, [.ref x], .ref x :: st, n, M) Q) := am_AW_go rfl rfl rfl rfl
theorem w18_1 {L st : List Value} {v0 : Value} : am_AW d 18 (1, L, v0 :: st, n, M) Q = (am_okA 1 (v0 :: st) = true ∧ am_isR [v0] = true ∧ am_Do d 2000 [v0] n M (am_then d 18 4 0 L st n Q)) := am_AW_ci (i := 1) (x := 2000) (y := 1) (z := 0) rfl
theorem w18_4 {x : Nat} {st : List Value} : am_AW d 18 (4, [.ref x], st, n, M) Q = (am_AW d 18 (5, [.ref x], .ref x :: st, n, M) Q) := am_AW_go rfl rfl rfl rfl
theorem w18_5 {L st : List Value} : am_AW d 18 (5, L, st, n, M) Q = (am_AW d 18 (7, L, .int (am_z 25) :: st, n, M) Q) := am_AW_go rfl rfl rfl rfl
theorem w18_7 {L st : List Value} {N c s : Nat} {k : Int} (h0 : 0 ≤ k) (h1 : k ≤ 100000) (hN : N < 100000) : am_AW d 18 (7, L, .int (am_z k) :: st, (N, c, s, true), M) Q = am_AW d 18 (9, L, .ref N :: st, (N + 1, c + 1, s + k.toNat, true), am_up M N (am_I 0 k.toNat (fun _ => am_z 0))) Q := am_AW_newa (t := .int) (cc := am_I 0 k.toNat (fun _ => am_z 0)) rfl h0 h1 hN rfl rfl
theorem w18_9 {L st : List Value} {x : Nat} : am_AW d 18 (9, L, .ref x :: st, n, M) Q = (am_AW d 18 (10, L, .ref x :: .ref x :: st, n, M) Q) := am_AW_go rfl rfl rfl rfl
theorem w18_9i {L st : List Value} {x : Int32} : am_AW d 18 (9, L, .int x :: st, n, M) Q = (am_AW d 18 (10, L, .int x :: .int x :: st, n, M) Q) := am_AW_go rfl rfl rfl rfl
theorem w18_10 {L st : List Value} : am_AW d 18 (10, L, st, n, M) Q = (am_AW d 18 (11, L, .int (am_z 0) :: st, n, M) Q) := am_AW_go rfl rfl rfl rfl
theorem w18_11 {L st : List Value} : am_AW d 18 (11, L, st, n, M) Q = (am_AW d 18 (12, L, .int (am_z 3) :: st, n, M) Q) := am_AW_go rfl rfl rfl rfl
theorem w18_12 {L st : List Value} {h : Nat} {i v : Int32} : am_AW d 18 (12, L, .int v :: .int i :: .ref h :: st, n, M) Q = (am_fit 0 (.int v) = true ∧ ∃ M', am_ast 0 M h i v = some M' ∧ am_AW d 18 (13, L, st, n, M') Q) := am_AW_ast rfl (Or.inl ⟨rfl, rfl, rfl⟩)
theorem w18_13 {L st : List Value} {x : Nat} : am_AW d 18 (13, L, .ref x :: st, n, M) Q = (am_AW d 18 (14, L, .ref x :: .ref x :: st, n, M) Q) := am_AW_go rfl rfl rfl rfl
theorem w18_13i {L st : List Value} {x : Int32} : am_AW d 18 (13, L, .int x :: st, n, M) Q = (am_AW d 18 (14, L, .int x :: .int x :: st, n, M) Q) := am_AW_go rfl rfl rfl rfl
theorem w18_14 {L st : List Value} : am_AW d 18 (14, L, st, n, M) Q = (am_AW d 18 (15, L, .int (am_z 1) :: st, n, M) Q) := am_AW_go rfl rfl rfl rfl
theorem w18_15 {L st : List Value} : am_AW d 18 (15, L, st, n, M) Q = (am_AW d 18 (16, L, .int (am_z 3) :: st, n, M) Q) := am_AW_go rfl rfl rfl rfl
theorem w18_16 {L st : List Value} {h : Nat} {i v : Int32} : am_AW d 18 (16, L, .int v :: .int i :: .ref h :: st, n, M) Q = (am_fit 0 (.int v) = true ∧ ∃ M', am_ast 0 M h i v = some M' ∧ am_AW d 18 (17, L, st, n, M') Q) := am_AW_ast rfl (Or.inl ⟨rfl, rfl, rfl⟩)
theorem w18_17 {L st : List Value} {x : Nat} : am_AW d 18 (17, L, .ref x :: st, n, M) Q = (am_AW d 18 (18, L, .ref x :: .ref x :: st, n, M) Q) := am_AW_go rfl rfl rfl rfl
theorem w18_17i {L st : List Value} {x : Int32} : am_AW d 18 (17, L, .int x :: st, n, M) Q = (am_AW d 18 (18, L, .int x :: .int x :: st, n, M) Q) := am_AW_go rfl rfl rfl rfl
theorem w18_18 {L st : List Value} : am_AW d 18 (18, L, st, n, M) Q = (am_AW d 18 (19, L, .int (am_z 2) :: st, n, M) Q) := am_AW_go rfl rfl rfl rfl
theorem w18_19 {L st : List Value} : am_AW d 18 (19, L, st, n, M) Q = (am_AW d 18 (21, L, .int (am_z 6) :: st, n, M) Q) := am_AW_go rfl rfl rfl rfl
theorem w18_21 {L st : List Value} {h : Nat} {i v : Int32} : am_AW d 18 (21, L, .int v :: .int i :: .ref h :: st, n, M) Q = (am_fit 0 (.int v) = true ∧ ∃ M', am_ast 0 M h i v = some M' ∧ am_AW d 18 (22, L, st, n, M') Q) := am_AW_ast rfl (Or.inl ⟨rfl, rfl, rfl⟩)
theorem w18_22 {L st : List Value} {x : Nat} : am_AW d 18 (22, L, .ref x :: st, n, M) Q = (am_AW d 18 (23, L, .ref x :: .ref x :: st, n, M) Q) := am_AW_go rfl rfl rfl rfl
theorem w18_22i {L st : List Value} {x : Int32} : am_AW d 18 (22, L, .int x :: st, n, M) Q = (am_AW d 18 (23, L, .int x :: .int x :: st, n, M) Q) := am_AW_go rfl rfl rfl rfl
theorem w18_23 {L st : List Value} : am_AW d 18 (23, L, st, n, M) Q = (am_AW d 18 (24, L, .int (am_z 3) :: st, n, M) Q) := am_AW_go rfl rfl rfl rfl
theorem w18_24 {L st : List Value} : am_AW d 18 (24, L, st, n, M) Q = (am_AW d 18 (25, L, .int (am_z 4) :: st, n, M) Q) := am_AW_go rfl rfl rfl rfl
theorem w18_25 {L st : List Value} {h : Nat} {i v : Int32} : am_AW d 18 (25, L, .int v :: .int i :: .ref h :: st, n, M) Q = (am_fit 0 (.int v) = true ∧ ∃ M', am_ast 0 M h i v = some M' ∧ am_AW d 18 (26, L, st, n, M') Q) := am_AW_ast rfl (Or.inl ⟨rfl, rfl, rfl⟩)
theorem w18_26 {L st : List Value} {x : Nat} : am_AW d 18 (26, L, .ref x :: st, n, M) Q = (am_AW d 18 (27, L, .ref x :: .ref x :: st, n, M) Q) := am_AW_go rfl rfl rfl rfl
theorem w18_26i {L st : List Value} {x : Int32} : am_AW d 18 (26, L, .int x :: st, n, M) Q = (am_AW d 18 (27, L, .int x :: .int x :: st, n, M) Q) := am_AW_go rfl rfl rfl rfl
theorem w18_27 {L st : List Value} : am_AW d 18 (27, L, st, n, M) Q = (am_AW d 18 (28, L, .int (am_z 4) :: st, n, M) Q) := am_AW_go rfl rfl rfl rfl
theorem w18_28 {L st : List Value} : am_AW d 18 (28, L, st, n, M) Q = (am_AW d 18 (29, L, .int (am_z 3) :: st, n, M) Q) := am_AW_go rfl rfl rfl rfl
theorem w18_29 {L st : List Value} {h : Nat} {i v : Int32} : am_AW d 18 (29, L, .int v :: .int i :: .ref h :: st, n, M) Q = (am_fit 0 (.int v) = true ∧ ∃ M', am_ast 0 M h i v = some M' ∧ am_AW d 18 (30, L, st, n, M') Q) := am_AW_ast rfl (Or.inl ⟨rfl, rfl, rfl⟩)
theorem w18_30 {L st : List Value} {x : Nat} : am_AW d 18 (30, L, .ref x :: st, n, M) Q = (am_AW d 18 (31, L, .ref x :: .ref x :: st, n, M) Q) := am_AW_go rfl rfl rfl rfl
theorem w18_30i {L st : List Value} {x : Int32} : am_AW d 18 (30, L, .int x :: st, n, M) Q = (am_AW d 18 (31, L, .int x :: .int x :: st, n, M) Q) := am_AW_go rfl rfl rfl rfl
theorem w18_31 {L st : List Value} : am_AW d 18 (31, L, st, n, M) Q = (am_AW d 18 (32, L, .int (am_z 5) :: st, n, M) Q) := am_AW_go rfl rfl rfl rfl
theorem w18_32 {L st : List Value} : am_AW d 18 (32, L, st, n, M) Q = (am_AW d 18 (33, L, .int (am_z 1) :: st, n, M) Q) := am_AW_go rfl rfl rfl rfl
theorem w18_33 {L st : List Value} {h : Nat} {i v : Int32} : am_AW d 18 (33, L, .int v :: .int i :: .ref h :: st, n, M) Q = (am_fit 0 (.int v) = true ∧ ∃ M', am_ast 0 M h i v = some M' ∧ am_AW d 18 (34, L, st, n, M') Q) := am_AW_ast rfl (Or.inl ⟨rfl, rfl, rfl⟩)
theorem w18_34 {L st : List Value} {x : Nat} : am_AW d 18 (34, L, .ref x :: st, n, M) Q = (am_AW d 18 (35, L, .ref x :: .ref x :: st, n, M) Q) := am_AW_go rfl rfl rfl rfl
theorem w18_34i {L st : List Value} {x : Int32} : am_AW d 18 (34, L, .int x :: st, n, M) Q = (am_AW d 18 (35, L, .int x :: .int x :: st, n, M) Q) := am_AW_go rfl rfl rfl rfl
theorem w18_35 {L st : List Value} : am_AW d 18 (35, L, st, n, M) Q = (am_AW d 18 (37, L, .int (am_z 6) :: st, n, M) Q) := am_AW_go rfl rfl rfl rfl
theorem w18_37 {L st : List Value} : am_AW d 18 (37, L, st, n, M) Q = (am_AW d 18 (39, L, .int (am_z 100) :: st, n, M) Q) := am_AW_go rfl rfl rfl rfl
theorem w18_39 {L st : List Value} {h : Nat} {i v : Int32} : am_AW d 18 (39, L, .int v :: .int i :: .ref h :: st, n, M) Q = (am_fit 0 (.int v) = true ∧ ∃ M', am_ast 0 M h i v = some M' ∧ am_AW d 18 (40, L, st, n, M') Q) := am_AW_ast rfl (Or.inl ⟨rfl, rfl, rfl⟩)
theorem w18_40 {L st : List Value} {x : Nat} : am_AW d 18 (40, L, .ref x :: st, n, M) Q = (am_AW d 18 (41, L, .ref x :: .ref x :: st, n, M) Q) := am_AW_go rfl rfl rfl rfl
theorem w18_40i {L st : List Value} {x : Int32} : am_AW d 18 (40, L, .int x :: st, n, M) Q = (am_AW d 18 (41, L, .int x :: .int x :: st, n, M) Q) := am_AW_go rfl rfl rfl rfl
theorem w18_41 {L st : List Value} : am_AW d 18 (41, L, st, n, M) Q = (am_AW d 18 (43, L, .int (am_z 7) :: st, n, M) Q) := am_AW_go rfl rfl rfl rfl
theorem w18_43 {L st : List Value} : am_AW d 18 (43, L, st, n, M) Q = (am_AW d 18 (45, L, .int (am_z 9) :: st, n, M) Q) := am_AW_go rfl rfl rfl rfl
theorem w18_45 {L st : List Value} {h : Nat} {i v : Int32} : am_AW d 18 (45, L, .int v :: .int i :: .ref h :: st, n, M) Q = (am_fit 0 (.int v) = true ∧ ∃ M', am_ast 0 M h i v = some M' ∧ am_AW d 18 (46, L, st, n, M') Q) := am_AW_ast rfl (Or.inl ⟨rfl, rfl, rfl⟩)
theorem w18_46 {L st : List Value} {x : Nat} : am_AW d 18 (46, L, .ref x :: st, n, M) Q = (am_AW d 18 (47, L, .ref x :: .ref x :: st, n, M) Q) := am_AW_go rfl rfl rfl rfl
theorem w18_46i {L st : List Value} {x : Int32} : am_AW d 18 (46, L, .int x :: st, n, M) Q = (am_AW d 18 (47, L, .int x :: .int x :: st, n, M) Q) := am_AW_go rfl rfl rfl rfl
theorem w18_47 {L st : List Value} : am_AW d 18 (47, L, st, n, M) Q = (am_AW d 18 (49, L, .int (am_z 8) :: st, n, M) Q) := am_AW_go rfl rfl rfl rfl
theorem w18_49 {L st : List Value} : am_AW d 18 (49, L, st, n, M) Q = (am_AW d 18 (50, L, .int (am_z 3) :: st, n, M) Q) := am_AW_go rfl rfl rfl rfl
theorem w18_50 {L st : List Value} {h : Nat} {i v : Int32} : am_AW d 18 (50, L, .int v :: .int i :: .ref h :: st, n, M) Q = (am_fit 0 (.int v) = true ∧ ∃ M', am_ast 0 M h i v = some M' ∧ am_AW d 18 (51, L, st, n, M') Q) := am_AW_ast rfl (Or.inl ⟨rfl, rfl, rfl⟩)
theorem w18_51 {L st : List Value} {x : Nat} : am_AW d 18 (51, L, .ref x :: st, n, M) Q = (am_AW d 18 (52, L, .ref x :: .ref x :: st, n, M) Q) := am_AW_go rfl rfl rfl rfl
theorem w18_51i {L st : List Value} {x : Int32} : am_AW d 18 (51, L, .int x :: st, n, M) Q = (am_AW d 18 (52, L, .int x :: .int x :: st, n, M) Q) := am_AW_go rfl rfl rfl rfl
theorem w18_52 {L st : List Value} : am_AW d 18 (52, L, st, n, M) Q = (am_AW d 18 (54, L, .int (am_z 9) :: st, n, M) Q) := am_AW_go rfl rfl rfl rfl
theorem w18_54 {L st : List Value} : am_AW d 18 (54, L, st, n, M) Q = (am_AW d 18 (55, L, .int (am_z 3) :: st, n, M) Q) := am_AW_go rfl rfl rfl rfl
theorem w18_55 {L st : List Value} {h : Nat} {i v : Int32} : am_AW d 18 (55, L, .int v :: .int i :: .ref h :: st, n, M) Q = (am_fit 0 (.int v) = true ∧ ∃ M', am_ast 0 M h i v = some M' ∧ am_AW d 18 (56, L, st, n, M') Q) := am_AW_ast rfl (Or.inl ⟨rfl, rfl, rfl⟩)
theorem w18_56 {L st : List Value} {x : Nat} : am_AW d 18 (56, L, .ref x :: st, n, M) Q = (am_AW d 18 (57, L, .ref x :: .ref x :: st, n, M) Q) := am_AW_go rfl rfl rfl rfl
theorem w18_56i {L st : List Value} {x : Int32} : am_AW d 18 (56, L, .int x :: st, n, M) Q = (am_AW d 18 (57, L, .int x :: .int x :: st, n, M) Q) := am_AW_go rfl rfl rfl rfl
theorem w18_57 {L st : List Value} : am_AW d 18 (57, L, st, n, M) Q = (am_AW d 18 (59, L, .int (am_z 10) :: st, n, M) Q) := am_AW_go rfl rfl rfl rfl
theorem w18_59 {L st : List Value} : am_AW d 18 (59, L, st, n, M) Q = (am_AW d 18 (61, L, .int (am_z 6) :: st, n, M) Q) := am_AW_go rfl rfl rfl rfl
theorem w18_61 {L st : List Value} {h : Nat} {i v : Int32} : am_AW d 18 (61, L, .int v :: .int i :: .ref h :: st, n, M) Q = (am_fit 0 (.int v) = true ∧ ∃ M', am_ast 0 M h i v = some M' ∧ am_AW d 18 (62, L, st, n, M') Q) := am_AW_ast rfl (Or.inl ⟨rfl, rfl, rfl⟩)
theorem w18_62 {L st : List Value} {x : Nat} : am_AW d 18 (62, L, .ref x :: st, n, M) Q = (am_AW d 18 (63, L, .ref x :: .ref x :: st, n, M) Q) := am_AW_go rfl rfl rfl rfl
theorem w18_62i {L st : List Value} {x : Int32} : am_AW d 18 (62, L, .int x :: st, n, M) Q = (am_AW d 18 (63, L, .int x :: .int x :: st, n, M) Q) := am_AW_go rfl rfl rfl rfl
theorem w18_63 {L st : List Value} : am_AW d 18 (63, L, st, n, M) Q = (am_AW d 18 (65, L, .int (am_z 11) :: st, n, M) Q) := am_AW_go rfl rfl rfl rfl
theorem w18_65 {L st : List Value} : am_AW d 18 (65, L, st, n, M) Q = (am_AW d 18 (66, L, .int (am_z 3) :: st, n, M) Q) := am_AW_go rfl rfl rfl rfl
theorem w18_66 {L st : List Value} {h : Nat} {i v : Int32} : am_AW d 18 (66, L, .int v :: .int i :: .ref h :: st, n, M) Q = (am_fit 0 (.int v) = true ∧ ∃ M', am_ast 0 M h i v = some M' ∧ am_AW d 18 (67, L, st, n, M') Q) := am_AW_ast rfl (Or.inl ⟨rfl, rfl, rfl⟩)
theorem w18_67 {L st : List Value} {x : Nat} : am_AW d 18 (67, L, .ref x :: st, n, M) Q = (am_AW d 18 (68, L, .ref x :: .ref x :: st, n, M) Q) := am_AW_go rfl rfl rfl rfl
theorem w18_67i {L st : List Value} {x : Int32} : am_AW d 18 (67, L, .int x :: st, n, M) Q = (am_AW d 18 (68, L, .int x :: .int x :: st, n, M) Q) := am_AW_go rfl rfl rfl rfl
theorem w18_68 {L st : List Value} : am_AW d 18 (68, L, st, n, M) Q = (am_AW d 18 (70, L, .int (am_z 12) :: st, n, M) Q) := am_AW_go rfl rfl rfl rfl
theorem w18_70 {L st : List Value} : am_AW d 18 (70, L, st, n, M) Q = (am_AW d 18 (71, L, .int (am_z 1) :: st, n, M) Q) := am_AW_go rfl rfl rfl rfl
theorem w18_71 {L st : List Value} {h : Nat} {i v : Int32} : am_AW d 18 (71, L, .int v :: .int i :: .ref h :: st, n, M) Q = (am_fit 0 (.int v) = true ∧ ∃ M', am_ast 0 M h i v = some M' ∧ am_AW d 18 (72, L, st, n, M') Q) := am_AW_ast rfl (Or.inl ⟨rfl, rfl, rfl⟩)
theorem w18_72 {L st : List Value} {x : Nat} : am_AW d 18 (72, L, .ref x :: st, n, M) Q = (am_AW d 18 (73, L, .ref x :: .ref x :: st, n, M) Q) := am_AW_go rfl rfl rfl rfl
theorem w18_72i {L st : List Value} {x : Int32} : am_AW d 18 (72, L, .int x :: st, n, M) Q = (am_AW d 18 (73, L, .int x :: .int x :: st, n, M) Q) := am_AW_go rfl rfl rfl rfl
theorem w18_73 {L st : List Value} : am_AW d 18 (73, L, st, n, M) Q = (am_AW d 18 (75, L, .int (am_z 13) :: st, n, M) Q) := am_AW_go rfl rfl rfl rfl
theorem w18_75 {L st : List Value} : am_AW d 18 (75, L, st, n, M) Q = (am_AW d 18 (77, L, .int (am_z 102) :: st, n, M) Q) := am_AW_go rfl rfl rfl rfl
theorem w18_77 {L st : List Value} {h : Nat} {i v : Int32} : am_AW d 18 (77, L, .int v :: .int i :: .ref h :: st, n, M) Q = (am_fit 0 (.int v) = true ∧ ∃ M', am_ast 0 M h i v = some M' ∧ am_AW d 18 (78, L, st, n, M') Q) := am_AW_ast rfl (Or.inl ⟨rfl, rfl, rfl⟩)
theorem w18_78 {L st : List Value} {x : Nat} : am_AW d 18 (78, L, .ref x :: st, n, M) Q = (am_AW d 18 (79, L, .ref x :: .ref x :: st, n, M) Q) := am_AW_go rfl rfl rfl rfl
theorem w18_78i {L st : List Value} {x : Int32} : am_AW d 18 (78, L, .int x :: st, n, M) Q = (am_AW d 18 (79, L, .int x :: .int x :: st, n, M) Q) := am_AW_go rfl rfl rfl rfl
theorem w18_79 {L st : List Value} : am_AW d 18 (79, L, st, n, M) Q = (am_AW d 18 (81, L, .int (am_z 14) :: st, n, M) Q) := am_AW_go rfl rfl rfl rfl
theorem w18_81 {L st : List Value} : am_AW d 18 (81, L, st, n, M) Q = (am_AW d 18 (83, L, .int (am_z 100) :: st, n, M) Q) := am_AW_go rfl rfl rfl rfl
theorem w18_83 {L st : List Value} {h : Nat} {i v : Int32} : am_AW d 18 (83, L, .int v :: .int i :: .ref h :: st, n, M) Q = (am_fit 0 (.int v) = true ∧ ∃ M', am_ast 0 M h i v = some M' ∧ am_AW d 18 (84, L, st, n, M') Q) := am_AW_ast rfl (Or.inl ⟨rfl, rfl, rfl⟩)
theorem w18_84 {L st : List Value} {x : Nat} : am_AW d 18 (84, L, .ref x :: st, n, M) Q = (am_AW d 18 (85, L, .ref x :: .ref x :: st, n, M) Q) := am_AW_go rfl rfl rfl rfl
theorem w18_84i {L st : List Value} {x : Int32} : am_AW d 18 (84, L, .int x :: st, n, M) Q = (am_AW d 18 (85, L, .int x :: .int x :: st, n, M) Q) := am_AW_go rfl rfl rfl rfl
theorem w18_85 {L st : List Value} : am_AW d 18 (85, L, st, n, M) Q = (am_AW d 18 (87, L, .int (am_z 15) :: st, n, M) Q) := am_AW_go rfl rfl rfl rfl
theorem w18_87 {L st : List Value} : am_AW d 18 (87, L, st, n, M) Q = (am_AW d 18 (88, L, .int (am_z 1) :: st, n, M) Q) := am_AW_go rfl rfl rfl rfl
theorem w18_88 {L st : List Value} {h : Nat} {i v : Int32} : am_AW d 18 (88, L, .int v :: .int i :: .ref h :: st, n, M) Q = (am_fit 0 (.int v) = true ∧ ∃ M', am_ast 0 M h i v = some M' ∧ am_AW d 18 (89, L, st, n, M') Q) := am_AW_ast rfl (Or.inl ⟨rfl, rfl, rfl⟩)
theorem w18_89 {L st : List Value} {x : Nat} : am_AW d 18 (89, L, .ref x :: st, n, M) Q = (am_AW d 18 (90, L, .ref x :: .ref x :: st, n, M) Q) := am_AW_go rfl rfl rfl rfl
theorem w18_89i {L st : List Value} {x : Int32} : am_AW d 18 (89, L, .int x :: st, n, M) Q = (am_AW d 18 (90, L, .int x :: .int x :: st, n, M) Q) := am_AW_go rfl rfl rfl rfl
theorem w18_90 {L st : List Value} : am_AW d 18 (90, L, st, n, M) Q = (am_AW d 18 (92, L, .int (am_z 16) :: st, n, M) Q) := am_AW_go rfl rfl rfl rfl
theorem w18_92 {L st : List Value} : am_AW d 18 (92, L, st, n, M) Q = (am_AW d 18 (94, L, .int (am_z 103) :: st, n, M) Q) := am_AW_go rfl rfl rfl rfl
theorem w18_94 {L st : List Value} {h : Nat} {i v : Int32} : am_AW d 18 (94, L, .int v :: .int i :: .ref h :: st, n, M) Q = (am_fit 0 (.int v) = true ∧ ∃ M', am_ast 0 M h i v = some M' ∧ am_AW d 18 (95, L, st, n, M') Q) := am_AW_ast rfl (Or.inl ⟨rfl, rfl, rfl⟩)
theorem w18_95 {L st : List Value} {x : Nat} : am_AW d 18 (95, L, .ref x :: st, n, M) Q = (am_AW d 18 (96, L, .ref x :: .ref x :: st, n, M) Q) := am_AW_go rfl rfl rfl rfl
theorem w18_95i {L st : List Value} {x : Int32} : am_AW d 18 (95, L, .int x :: st, n, M) Q = (am_AW d 18 (96, L, .int x :: .int x :: st, n, M) Q) := am_AW_go rfl rfl rfl rfl
theorem w18_96 {L st : List Value} : am_AW d 18 (96, L, st, n, M) Q = (am_AW d 18 (98, L, .int (am_z 17) :: st, n, M) Q) := am_AW_go rfl rfl rfl rfl
theorem w18_98 {L st : List Value} : am_AW d 18 (98, L, st, n, M) Q = (am_AW d 18 (99, L, .int (am_z 1) :: st, n, M) Q) := am_AW_go rfl rfl rfl rfl
theorem w18_99 {L st : List Value} {h : Nat} {i v : Int32} : am_AW d 18 (99, L, .int v :: .int i :: .ref h :: st, n, M) Q = (am_fit 0 (.int v) = true ∧ ∃ M', am_ast 0 M h i v = some M' ∧ am_AW d 18 (100, L, st, n, M') Q) := am_AW_ast rfl (Or.inl ⟨rfl, rfl, rfl⟩)
theorem w18_100 {L st : List Value} {x : Nat} : am_AW d 18 (100, L, .ref x :: st, n, M) Q = (am_AW d 18 (101, L, .ref x :: .ref x :: st, n, M) Q) := am_AW_go rfl rfl rfl rfl
theorem w18_100i {L st : List Value} {x : Int32} : am_AW d 18 (100, L, .int x :: st, n, M) Q = (am_AW d 18 (101, L, .int x :: .int x :: st, n, M) Q) := am_AW_go rfl rfl rfl rfl
theorem w18_101 {L st : List Value} : am_AW d 18 (101, L, st, n, M) Q = (am_AW d 18 (103, L, .int (am_z 18) :: st, n, M) Q) := am_AW_go rfl rfl rfl rfl
theorem w18_103 {L st : List Value} : am_AW d 18 (103, L, st, n, M) Q = (am_AW d 18 (105, L, .int (am_z 7) :: st, n, M) Q) := am_AW_go rfl rfl rfl rfl
theorem w18_105 {L st : List Value} {h : Nat} {i v : Int32} : am_AW d 18 (105, L, .int v :: .int i :: .ref h :: st, n, M) Q = (am_fit 0 (.int v) = true ∧ ∃ M', am_ast 0 M h i v = some M' ∧ am_AW d 18 (106, L, st, n, M') Q) := am_AW_ast rfl (Or.inl ⟨rfl, rfl, rfl⟩)
theorem w18_106 {L st : List Value} {x : Nat} : am_AW d 18 (106, L, .ref x :: st, n, M) Q = (am_AW d 18 (107, L, .ref x :: .ref x :: st, n, M) Q) := am_AW_go rfl rfl rfl rfl
theorem w18_106i {L st : List Value} {x : Int32} : am_AW d 18 (106, L, .int x :: st, n, M) Q = (am_AW d 18 (107, L, .int x :: .int x :: st, n, M) Q) := am_AW_go rfl rfl rfl rfl
theorem w18_107 {L st : List Value} : am_AW d 18 (107, L, st, n, M) Q = (am_AW d 18 (109, L, .int (am_z 19) :: st, n, M) Q) := am_AW_go rfl rfl rfl rfl
theorem w18_109 {L st : List Value} : am_AW d 18 (109, L, st, n, M) Q = (am_AW d 18 (111, L, .int (am_z 101) :: st, n, M) Q) := am_AW_go rfl rfl rfl rfl
theorem w18_111 {L st : List Value} {h : Nat} {i v : Int32} : am_AW d 18 (111, L, .int v :: .int i :: .ref h :: st, n, M) Q = (am_fit 0 (.int v) = true ∧ ∃ M', am_ast 0 M h i v = some M' ∧ am_AW d 18 (112, L, st, n, M') Q) := am_AW_ast rfl (Or.inl ⟨rfl, rfl, rfl⟩)
theorem w18_112 {L st : List Value} {x : Nat} : am_AW d 18 (112, L, .ref x :: st, n, M) Q = (am_AW d 18 (113, L, .ref x :: .ref x :: st, n, M) Q) := am_AW_go rfl rfl rfl rfl
theorem w18_112i {L st : List Value} {x : Int32} : am_AW d 18 (112, L, .int x :: st, n, M) Q = (am_AW d 18 (113, L, .int x :: .int x :: st, n, M) Q) := am_AW_go rfl rfl rfl rfl
theorem w18_113 {L st : List Value} : am_AW d 18 (113, L, st, n, M) Q = (am_AW d 18 (115, L, .int (am_z 20) :: st, n, M) Q) := am_AW_go rfl rfl rfl rfl
theorem w18_115 {L st : List Value} : am_AW d 18 (115, L, st, n, M) Q = (am_AW d 18 (116, L, .int (am_z 3) :: st, n, M) Q) := am_AW_go rfl rfl rfl rfl
theorem w18_116 {L st : List Value} {h : Nat} {i v : Int32} : am_AW d 18 (116, L, .int v :: .int i :: .ref h :: st, n, M) Q = (am_fit 0 (.int v) = true ∧ ∃ M', am_ast 0 M h i v = some M' ∧ am_AW d 18 (117, L, st, n, M') Q) := am_AW_ast rfl (Or.inl ⟨rfl, rfl, rfl⟩)
theorem w18_117 {L st : List Value} {x : Nat} : am_AW d 18 (117, L, .ref x :: st, n, M) Q = (am_AW d 18 (118, L, .ref x :: .ref x :: st, n, M) Q) := am_AW_go rfl rfl rfl rfl
theorem w18_117i {L st : List Value} {x : Int32} : am_AW d 18 (117, L, .int x :: st, n, M) Q = (am_AW d 18 (118, L, .int x :: .int x :: st, n, M) Q) := am_AW_go rfl rfl rfl rfl
theorem w18_118 {L st : List Value} : am_AW d 18 (118, L, st, n, M) Q = (am_AW d 18 (120, L, .int (am_z 21) :: st, n, M) Q) := am_AW_go rfl rfl rfl rfl
theorem w18_120 {L st : List Value} : am_AW d 18 (120, L, st, n, M) Q = (am_AW d 18 (122, L, .int (am_z 6) :: st, n, M) Q) := am_AW_go rfl rfl rfl rfl
theorem w18_122 {L st : List Value} {h : Nat} {i v : Int32} : am_AW d 18 (122, L, .int v :: .int i :: .ref h :: st, n, M) Q = (am_fit 0 (.int v) = true ∧ ∃ M', am_ast 0 M h i v = some M' ∧ am_AW d 18 (123, L, st, n, M') Q) := am_AW_ast rfl (Or.inl ⟨rfl, rfl, rfl⟩)
theorem w18_123 {L st : List Value} {x : Nat} : am_AW d 18 (123, L, .ref x :: st, n, M) Q = (am_AW d 18 (124, L, .ref x :: .ref x :: st, n, M) Q) := am_AW_go rfl rfl rfl rfl
theorem w18_123i {L st : List Value} {x : Int32} : am_AW d 18 (123, L, .int x :: st, n, M) Q = (am_AW d 18 (124, L, .int x :: .int x :: st, n, M) Q) := am_AW_go rfl rfl rfl rfl
theorem w18_124 {L st : List Value} : am_AW d 18 (124, L, st, n, M) Q = (am_AW d 18 (126, L, .int (am_z 22) :: st, n, M) Q) := am_AW_go rfl rfl rfl rfl
theorem w18_126 {L st : List Value} : am_AW d 18 (126, L, st, n, M) Q = (am_AW d 18 (127, L, .int (am_z 1) :: st, n, M) Q) := am_AW_go rfl rfl rfl rfl
theorem w18_127 {L st : List Value} {h : Nat} {i v : Int32} : am_AW d 18 (127, L, .int v :: .int i :: .ref h :: st, n, M) Q = (am_fit 0 (.int v) = true ∧ ∃ M', am_ast 0 M h i v = some M' ∧ am_AW d 18 (128, L, st, n, M') Q) := am_AW_ast rfl (Or.inl ⟨rfl, rfl, rfl⟩)
theorem w18_128 {L st : List Value} {x : Nat} : am_AW d 18 (128, L, .ref x :: st, n, M) Q = (am_AW d 18 (129, L, .ref x :: .ref x :: st, n, M) Q) := am_AW_go rfl rfl rfl rfl
theorem w18_128i {L st : List Value} {x : Int32} : am_AW d 18 (128, L, .int x :: st, n, M) Q = (am_AW d 18 (129, L, .int x :: .int x :: st, n, M) Q) := am_AW_go rfl rfl rfl rfl
theorem w18_129 {L st : List Value} : am_AW d 18 (129, L, st, n, M) Q = (am_AW d 18 (131, L, .int (am_z 23) :: st, n, M) Q) := am_AW_go rfl rfl rfl rfl
theorem w18_131 {L st : List Value} : am_AW d 18 (131, L, st, n, M) Q = (am_AW d 18 (133, L, .int (am_z 103) :: st, n, M) Q) := am_AW_go rfl rfl rfl rfl
theorem w18_133 {L st : List Value} {h : Nat} {i v : Int32} : am_AW d 18 (133, L, .int v :: .int i :: .ref h :: st, n, M) Q = (am_fit 0 (.int v) = true ∧ ∃ M', am_ast 0 M h i v = some M' ∧ am_AW d 18 (134, L, st, n, M') Q) := am_AW_ast rfl (Or.inl ⟨rfl, rfl, rfl⟩)
theorem w18_134 {L st : List Value} {x : Nat} : am_AW d 18 (134, L, .ref x :: st, n, M) Q = (am_AW d 18 (135, L, .ref x :: .ref x :: st, n, M) Q) := am_AW_go rfl rfl rfl rfl
theorem w18_134i {L st : List Value} {x : Int32} : am_AW d 18 (134, L, .int x :: st, n, M) Q = (am_AW d 18 (135, L, .int x :: .int x :: st, n, M) Q) := am_AW_go rfl rfl rfl rfl
theorem w18_135 {L st : List Value} : am_AW d 18 (135, L, st, n, M) Q = (am_AW d 18 (137, L, .int (am_z 24) :: st, n, M) Q) := am_AW_go rfl rfl rfl rfl
theorem w18_137 {L st : List Value} : am_AW d 18 (137, L, st, n, M) Q = (am_AW d 18 (139, L, .int (am_z 100) :: st, n, M) Q) := am_AW_go rfl rfl rfl rfl
theorem w18_139 {L st : List Value} {h : Nat} {i v : Int32} : am_AW d 18 (139, L, .int v :: .int i :: .ref h :: st, n, M) Q = (am_fit 0 (.int v) = true ∧ ∃ M', am_ast 0 M h i v = some M' ∧ am_AW d 18 (140, L, st, n, M') Q) := am_AW_ast rfl (Or.inl ⟨rfl, rfl, rfl⟩)
theorem w18_140 {L st : List Value} {h : Nat} {v : Value} : am_AW d 18 (140, L, v :: .ref h :: st, n, M) Q = (am_fit 3 v = true ∧ ∃ M', am_setf M h 10 0 v = some M' ∧ am_AW d 18 (143, L, st, n, M') Q) := am_AW_put rfl
theorem w18_143 {x : Nat} {st : List Value} : am_AW d 18 (143, [.ref x], st, n, M) Q = (am_AW d 18 (144, [.ref x], .ref x :: st, n, M) Q) := am_AW_go rfl rfl rfl rfl
theorem w18_144 {L st : List Value} : am_AW d 18 (144, L, st, n, M) Q = (am_AW d 18 (146, L, .int (am_z 100) :: st, n, M) Q) := am_AW_go rfl rfl rfl rfl
theorem w18_146 {L st : List Value} {N c s : Nat} {k : Int} (h0 : 0 ≤ k) (h1 : k ≤ 100000) (hN : N < 100000) : am_AW d 18 (146, L, .int (am_z k) :: st, (N, c, s, true), M) Q = am_AW d 18 (148, L, .ref N :: st, (N + 1, c + 1, s + k.toNat, true), am_up M N (am_I 1 k.toNat (fun _ => am_z 0))) Q := am_AW_newa (t := .char) (cc := am_I 1 k.toNat (fun _ => am_z 0)) rfl h0 h1 hN rfl rfl
theorem w18_148 {L st : List Value} {h : Nat} {v : Value} : am_AW d 18 (148, L, v :: .ref h :: st, n, M) Q = (am_fit 3 v = true ∧ ∃ M', am_setf M h 10 2 v = some M' ∧ am_AW d 18 (151, L, st, n, M') Q) := am_AW_put rfl
theorem w18_151 {x : Nat} {st : List Value} : am_AW d 18 (151, [.ref x], st, n, M) Q = (am_AW d 18 (152, [.ref x], .ref x :: st, n, M) Q) := am_AW_go rfl rfl rfl rfl
theorem w18_152 {L st : List Value} : am_AW d 18 (152, L, st, n, M) Q = (am_AW d 18 (153, L, .int (am_z (-1)) :: st, n, M) Q) := am_AW_go rfl rfl rfl rfl
theorem w18_153 {L st : List Value} {h : Nat} {v : Value} : am_AW d 18 (153, L, v :: .ref h :: st, n, M) Q = (am_fit 0 v = true ∧ ∃ M', am_setf M h 10 4 v = some M' ∧ am_AW d 18 (156, L, st, n, M') Q) := am_AW_put rfl
theorem w18_156 {x : Nat} {st : List Value} : am_AW d 18 (156, [.ref x], st, n, M) Q = (am_AW d 18 (157, [.ref x], .ref x :: st, n, M) Q) := am_AW_go rfl rfl rfl rfl
theorem w18_157 {L st : List Value} : am_AW d 18 (157, L, st, n, M) Q = (am_AW d 18 (160, L, .int (am_z 1200) :: st, n, M) Q) := am_AW_go rfl rfl rfl rfl
theorem w18_160 {L st : List Value} {N c s : Nat} {k : Int} (h0 : 0 ≤ k) (h1 : k ≤ 100000) (hN : N < 100000) : am_AW d 18 (160, L, .int (am_z k) :: st, (N, c, s, true), M) Q = am_AW d 18 (162, L, .ref N :: st, (N + 1, c + 1, s + k.toNat, true), am_up M N (am_I 1 k.toNat (fun _ => am_z 0))) Q := am_AW_newa (t := .char) (cc := am_I 1 k.toNat (fun _ => am_z 0)) rfl h0 h1 hN rfl rfl
theorem w18_162 {L st : List Value} {h : Nat} {v : Value} : am_AW d 18 (162, L, v :: .ref h :: st, n, M) Q = (am_fit 3 v = true ∧ ∃ M', am_setf M h 10 5 v = some M' ∧ am_AW d 18 (165, L, st, n, M') Q) := am_AW_put rfl
theorem w18_165 {x : Nat} {st : List Value} : am_AW d 18 (165, [.ref x], st, n, M) Q = (am_AW d 18 (166, [.ref x], .ref x :: st, n, M) Q) := am_AW_go rfl rfl rfl rfl
theorem w18_166 {L st : List Value} : am_AW d 18 (166, L, st, n, M) Q = (am_AW d 18 (169, L, .int (am_z 648) :: st, n, M) Q) := am_AW_go rfl rfl rfl rfl
theorem w18_169 {L st : List Value} {N c s : Nat} {k : Int} (h0 : 0 ≤ k) (h1 : k ≤ 100000) (hN : N < 100000) : am_AW d 18 (169, L, .int (am_z k) :: st, (N, c, s, true), M) Q = am_AW d 18 (171, L, .ref N :: st, (N + 1, c + 1, s + k.toNat, true), am_up M N (am_I 0 k.toNat (fun _ => am_z 0))) Q := am_AW_newa (t := .int) (cc := am_I 0 k.toNat (fun _ => am_z 0)) rfl h0 h1 hN rfl rfl
theorem w18_171 {L st : List Value} {h : Nat} {v : Value} : am_AW d 18 (171, L, v :: .ref h :: st, n, M) Q = (am_fit 3 v = true ∧ ∃ M', am_setf M h 10 8 v = some M' ∧ am_AW d 18 (174, L, st, n, M') Q) := am_AW_put rfl
theorem w18_174 {x : Nat} {st : List Value} : am_AW d 18 (174, [.ref x], st, n, M) Q = (am_AW d 18 (175, [.ref x], .ref x :: st, n, M) Q) := am_AW_go rfl rfl rfl rfl
theorem w18_175 {L st : List Value} : am_AW d 18 (175, L, st, n, M) Q = (am_AW d 18 (177, L, .int (am_z 8) :: st, n, M) Q) := am_AW_go rfl rfl rfl rfl
theorem w18_177 {L st : List Value} {N c s : Nat} {k : Int} (h0 : 0 ≤ k) (h1 : k ≤ 100000) (hN : N < 100000) : am_AW d 18 (177, L, .int (am_z k) :: st, (N, c, s, true), M) Q = am_AW d 18 (179, L, .ref N :: st, (N + 1, c + 1, s + k.toNat, true), am_up M N (am_I 0 k.toNat (fun _ => am_z 0))) Q := am_AW_newa (t := .int) (cc := am_I 0 k.toNat (fun _ => am_z 0)) rfl h0 h1 hN rfl rfl
theorem w18_179 {L st : List Value} {h : Nat} {v : Value} : am_AW d 18 (179, L, v :: .ref h :: st, n, M) Q = (am_fit 3 v = true ∧ ∃ M', am_setf M h 10 9 v = some M' ∧ am_AW d 18 (182, L, st, n, M') Q) := am_AW_put rfl
theorem w18_182 {x : Nat} {st : List Value} : am_AW d 18 (182, [.ref x], st, n, M) Q = (am_AW d 18 (183, [.ref x], .ref x :: st, n, M) Q) := am_AW_go rfl rfl rfl rfl
theorem w18_183 {L st : List Value} : am_AW d 18 (183, L, st, n, M) Q = (am_AW d 18 (186, L, .int (am_z 648) :: st, n, M) Q) := am_AW_go rfl rfl rfl rfl
theorem w18_186 {L st : List Value} {N c s : Nat} {k : Int} (h0 : 0 ≤ k) (h1 : k ≤ 100000) (hN : N < 100000) : am_AW d 18 (186, L, .int (am_z k) :: st, (N, c, s, true), M) Q = am_AW d 18 (188, L, .ref N :: st, (N + 1, c + 1, s + k.toNat, true), am_up M N (am_I 0 k.toNat (fun _ => am_z 0))) Q := am_AW_newa (t := .int) (cc := am_I 0 k.toNat (fun _ => am_z 0)) rfl h0 h1 hN rfl rfl
theorem w18_188 {L st : List Value} {h : Nat} {v : Value} : am_AW d 18 (188, L, v :: .ref h :: st, n, M) Q = (am_fit 3 v = true ∧ ∃ M', am_setf M h 10 10 v = some M' ∧ am_AW d 18 (191, L, st, n, M') Q) := am_AW_put rfl
theorem w18_191 {x : Nat} {st : List Value} : am_AW d 18 (191, [.ref x], st, n, M) Q = (am_AW d 18 (192, [.ref x], .ref x :: st, n, M) Q) := am_AW_go rfl rfl rfl rfl
theorem w18_192 {L st : List Value} : am_AW d 18 (192, L, st, n, M) Q = (am_AW d 18 (194, L, .int (am_z 8) :: st, n, M) Q) := am_AW_go rfl rfl rfl rfl
theorem w18_194 {L st : List Value} {N c s : Nat} {k : Int} (h0 : 0 ≤ k) (h1 : k ≤ 100000) (hN : N < 100000) : am_AW d 18 (194, L, .int (am_z k) :: st, (N, c, s, true), M) Q = am_AW d 18 (196, L, .ref N :: st, (N + 1, c + 1, s + k.toNat, true), am_up M N (am_I 0 k.toNat (fun _ => am_z 0))) Q := am_AW_newa (t := .int) (cc := am_I 0 k.toNat (fun _ => am_z 0)) rfl h0 h1 hN rfl rfl
theorem w18_196 {L st : List Value} {h : Nat} {v : Value} : am_AW d 18 (196, L, v :: .ref h :: st, n, M) Q = (am_fit 3 v = true ∧ ∃ M', am_setf M h 10 11 v = some M' ∧ am_AW d 18 (199, L, st, n, M') Q) := am_AW_put rfl
theorem w18_199 {x : Nat} {st : List Value} : am_AW d 18 (199, [.ref x], st, n, M) Q = (am_AW d 18 (200, [.ref x], .ref x :: st, n, M) Q) := am_AW_go rfl rfl rfl rfl
theorem w18_200 {L st : List Value} : am_AW d 18 (200, L, st, n, M) Q = (am_AW d 18 (203, L, .int (am_z 400) :: st, n, M) Q) := am_AW_go rfl rfl rfl rfl
theorem w18_203 {L st : List Value} {N c s : Nat} {k : Int} (h0 : 0 ≤ k) (h1 : k ≤ 100000) (hN : N < 100000) : am_AW d 18 (203, L, .int (am_z k) :: st, (N, c, s, true), M) Q = am_AW d 18 (205, L, .ref N :: st, (N + 1, c + 1, s + k.toNat, true), am_up M N (am_I 0 k.toNat (fun _ => am_z 0))) Q := am_AW_newa (t := .int) (cc := am_I 0 k.toNat (fun _ => am_z 0)) rfl h0 h1 hN rfl rfl
theorem w18_205 {L st : List Value} {h : Nat} {v : Value} : am_AW d 18 (205, L, v :: .ref h :: st, n, M) Q = (am_fit 3 v = true ∧ ∃ M', am_setf M h 10 13 v = some M' ∧ am_AW d 18 (208, L, st, n, M') Q) := am_AW_put rfl
theorem w18_208 {x : Nat} {st : List Value} : am_AW d 18 (208, [.ref x], st, n, M) Q = (am_AW d 18 (209, [.ref x], .ref x :: st, n, M) Q) := am_AW_go rfl rfl rfl rfl
theorem w18_209 {L st : List Value} : am_AW d 18 (209, L, st, n, M) Q = (am_AW d 18 (212, L, .int (am_z 400) :: st, n, M) Q) := am_AW_go rfl rfl rfl rfl
theorem w18_212 {L st : List Value} {N c s : Nat} {k : Int} (h0 : 0 ≤ k) (h1 : k ≤ 100000) (hN : N < 100000) : am_AW d 18 (212, L, .int (am_z k) :: st, (N, c, s, true), M) Q = am_AW d 18 (214, L, .ref N :: st, (N + 1, c + 1, s + k.toNat, true), am_up M N (am_I 0 k.toNat (fun _ => am_z 0))) Q := am_AW_newa (t := .int) (cc := am_I 0 k.toNat (fun _ => am_z 0)) rfl h0 h1 hN rfl rfl
theorem w18_214 {L st : List Value} {h : Nat} {v : Value} : am_AW d 18 (214, L, v :: .ref h :: st, n, M) Q = (am_fit 3 v = true ∧ ∃ M', am_setf M h 10 14 v = some M' ∧ am_AW d 18 (217, L, st, n, M') Q) := am_AW_put rfl
theorem w18_217 {x : Nat} {st : List Value} : am_AW d 18 (217, [.ref x], st, n, M) Q = (am_AW d 18 (218, [.ref x], .ref x :: st, n, M) Q) := am_AW_go rfl rfl rfl rfl
theorem w18_218 {L st : List Value} : am_AW d 18 (218, L, st, n, M) Q = (am_AW d 18 (221, L, .int (am_z 400) :: st, n, M) Q) := am_AW_go rfl rfl rfl rfl
theorem w18_221 {L st : List Value} {N c s : Nat} {k : Int} (h0 : 0 ≤ k) (h1 : k ≤ 100000) (hN : N < 100000) : am_AW d 18 (221, L, .int (am_z k) :: st, (N, c, s, true), M) Q = am_AW d 18 (223, L, .ref N :: st, (N + 1, c + 1, s + k.toNat, true), am_up M N (am_I 0 k.toNat (fun _ => am_z 0))) Q := am_AW_newa (t := .int) (cc := am_I 0 k.toNat (fun _ => am_z 0)) rfl h0 h1 hN rfl rfl
theorem w18_223 {L st : List Value} {h : Nat} {v : Value} : am_AW d 18 (223, L, v :: .ref h :: st, n, M) Q = (am_fit 3 v = true ∧ ∃ M', am_setf M h 10 15 v = some M' ∧ am_AW d 18 (226, L, st, n, M') Q) := am_AW_put rfl
theorem w18_226 {x : Nat} {st : List Value} : am_AW d 18 (226, [.ref x], st, n, M) Q = (am_AW d 18 (227, [.ref x], .ref x :: st, n, M) Q) := am_AW_go rfl rfl rfl rfl
theorem w18_227 {L st : List Value} : am_AW d 18 (227, L, st, n, M) Q = (am_AW d 18 (230, L, .int (am_z 400) :: st, n, M) Q) := am_AW_go rfl rfl rfl rfl
theorem w18_230 {L st : List Value} {N c s : Nat} {k : Int} (h0 : 0 ≤ k) (h1 : k ≤ 100000) (hN : N < 100000) : am_AW d 18 (230, L, .int (am_z k) :: st, (N, c, s, true), M) Q = am_AW d 18 (232, L, .ref N :: st, (N + 1, c + 1, s + k.toNat, true), am_up M N (am_I 0 k.toNat (fun _ => am_z 0))) Q := am_AW_newa (t := .int) (cc := am_I 0 k.toNat (fun _ => am_z 0)) rfl h0 h1 hN rfl rfl
theorem w18_232 {L st : List Value} {h : Nat} {v : Value} : am_AW d 18 (232, L, v :: .ref h :: st, n, M) Q = (am_fit 3 v = true ∧ ∃ M', am_setf M h 10 16 v = some M' ∧ am_AW d 18 (235, L, st, n, M') Q) := am_AW_put rfl
theorem w18_235 {x : Nat} {st : List Value} : am_AW d 18 (235, [.ref x], st, n, M) Q = (am_AW d 18 (236, [.ref x], .ref x :: st, n, M) Q) := am_AW_go rfl rfl rfl rfl
theorem w18_236 {L st : List Value} : am_AW d 18 (236, L, st, n, M) Q = (am_AW d 18 (238, L, .int (am_z 120) :: st, n, M) Q) := am_AW_go rfl rfl rfl rfl
theorem w18_238 {L st : List Value} {N c s : Nat} {k : Int} (h0 : 0 ≤ k) (h1 : k ≤ 100000) (hN : N < 100000) : am_AW d 18 (238, L, .int (am_z k) :: st, (N, c, s, true), M) Q = am_AW d 18 (240, L, .ref N :: st, (N + 1, c + 1, s + k.toNat, true), am_up M N (am_I 0 k.toNat (fun _ => am_z 0))) Q := am_AW_newa (t := .int) (cc := am_I 0 k.toNat (fun _ => am_z 0)) rfl h0 h1 hN rfl rfl
theorem w18_240 {L st : List Value} {h : Nat} {v : Value} : am_AW d 18 (240, L, v :: .ref h :: st, n, M) Q = (am_fit 3 v = true ∧ ∃ M', am_setf M h 10 19 v = some M' ∧ am_AW d 18 (243, L, st, n, M') Q) := am_AW_put rfl
theorem w18_243 {x : Nat} {st : List Value} : am_AW d 18 (243, [.ref x], st, n, M) Q = (am_AW d 18 (244, [.ref x], .ref x :: st, n, M) Q) := am_AW_go rfl rfl rfl rfl
theorem w18_244 {L st : List Value} : am_AW d 18 (244, L, st, n, M) Q = (am_AW d 18 (246, L, .int (am_z 120) :: st, n, M) Q) := am_AW_go rfl rfl rfl rfl
theorem w18_246 {L st : List Value} {N c s : Nat} {k : Int} (h0 : 0 ≤ k) (h1 : k ≤ 100000) (hN : N < 100000) : am_AW d 18 (246, L, .int (am_z k) :: st, (N, c, s, true), M) Q = am_AW d 18 (248, L, .ref N :: st, (N + 1, c + 1, s + k.toNat, true), am_up M N (am_I 0 k.toNat (fun _ => am_z 0))) Q := am_AW_newa (t := .int) (cc := am_I 0 k.toNat (fun _ => am_z 0)) rfl h0 h1 hN rfl rfl
theorem w18_248 {L st : List Value} {h : Nat} {v : Value} : am_AW d 18 (248, L, v :: .ref h :: st, n, M) Q = (am_fit 3 v = true ∧ ∃ M', am_setf M h 10 20 v = some M' ∧ am_AW d 18 (251, L, st, n, M') Q) := am_AW_put rfl
theorem w18_251 {x : Nat} {st : List Value} : am_AW d 18 (251, [.ref x], st, n, M) Q = (am_AW d 18 (252, [.ref x], .ref x :: st, n, M) Q) := am_AW_go rfl rfl rfl rfl
theorem w18_252 {L st : List Value} : am_AW d 18 (252, L, st, n, M) Q = (am_AW d 18 (254, L, .int (am_z 120) :: st, n, M) Q) := am_AW_go rfl rfl rfl rfl
theorem w18_254 {L st : List Value} {N c s : Nat} {k : Int} (h0 : 0 ≤ k) (h1 : k ≤ 100000) (hN : N < 100000) : am_AW d 18 (254, L, .int (am_z k) :: st, (N, c, s, true), M) Q = am_AW d 18 (256, L, .ref N :: st, (N + 1, c + 1, s + k.toNat, true), am_up M N (am_I 0 k.toNat (fun _ => am_z 0))) Q := am_AW_newa (t := .int) (cc := am_I 0 k.toNat (fun _ => am_z 0)) rfl h0 h1 hN rfl rfl
theorem w18_256 {L st : List Value} {h : Nat} {v : Value} : am_AW d 18 (256, L, v :: .ref h :: st, n, M) Q = (am_fit 3 v = true ∧ ∃ M', am_setf M h 10 21 v = some M' ∧ am_AW d 18 (259, L, st, n, M') Q) := am_AW_put rfl
theorem w18_259 {x : Nat} {st : List Value} : am_AW d 18 (259, [.ref x], st, n, M) Q = (am_AW d 18 (260, [.ref x], .ref x :: st, n, M) Q) := am_AW_go rfl rfl rfl rfl
theorem w18_260 {L st : List Value} : am_AW d 18 (260, L, st, n, M) Q = (am_AW d 18 (262, L, .int (am_z 120) :: st, n, M) Q) := am_AW_go rfl rfl rfl rfl
theorem w18_262 {L st : List Value} {N c s : Nat} {k : Int} (h0 : 0 ≤ k) (h1 : k ≤ 100000) (hN : N < 100000) : am_AW d 18 (262, L, .int (am_z k) :: st, (N, c, s, true), M) Q = am_AW d 18 (264, L, .ref N :: st, (N + 1, c + 1, s + k.toNat, true), am_up M N (am_I 0 k.toNat (fun _ => am_z 0))) Q := am_AW_newa (t := .int) (cc := am_I 0 k.toNat (fun _ => am_z 0)) rfl h0 h1 hN rfl rfl
theorem w18_264 {L st : List Value} {h : Nat} {v : Value} : am_AW d 18 (264, L, v :: .ref h :: st, n, M) Q = (am_fit 3 v = true ∧ ∃ M', am_setf M h 10 22 v = some M' ∧ am_AW d 18 (267, L, st, n, M') Q) := am_AW_put rfl
theorem w18_267 {x : Nat} {st : List Value} : am_AW d 18 (267, [.ref x], st, n, M) Q = (am_AW d 18 (268, [.ref x], .ref x :: st, n, M) Q) := am_AW_go rfl rfl rfl rfl
theorem w18_268 {L st : List Value} : am_AW d 18 (268, L, st, n, M) Q = (am_AW d 18 (270, L, .int (am_z 120) :: st, n, M) Q) := am_AW_go rfl rfl rfl rfl
theorem w18_270 {L st : List Value} {N c s : Nat} {k : Int} (h0 : 0 ≤ k) (h1 : k ≤ 100000) (hN : N < 100000) : am_AW d 18 (270, L, .int (am_z k) :: st, (N, c, s, true), M) Q = am_AW d 18 (272, L, .ref N :: st, (N + 1, c + 1, s + k.toNat, true), am_up M N (am_I 0 k.toNat (fun _ => am_z 0))) Q := am_AW_newa (t := .int) (cc := am_I 0 k.toNat (fun _ => am_z 0)) rfl h0 h1 hN rfl rfl
theorem w18_272 {L st : List Value} {h : Nat} {v : Value} : am_AW d 18 (272, L, v :: .ref h :: st, n, M) Q = (am_fit 3 v = true ∧ ∃ M', am_setf M h 10 23 v = some M' ∧ am_AW d 18 (275, L, st, n, M') Q) := am_AW_put rfl
theorem w18_275 {x : Nat} {st : List Value} : am_AW d 18 (275, [.ref x], st, n, M) Q = (am_AW d 18 (276, [.ref x], .ref x :: st, n, M) Q) := am_AW_go rfl rfl rfl rfl
theorem w18_276 {L st : List Value} : am_AW d 18 (276, L, st, n, M) Q = (am_AW d 18 (278, L, .int (am_z 120) :: st, n, M) Q) := am_AW_go rfl rfl rfl rfl
theorem w18_278 {L st : List Value} {N c s : Nat} {k : Int} (h0 : 0 ≤ k) (h1 : k ≤ 100000) (hN : N < 100000) : am_AW d 18 (278, L, .int (am_z k) :: st, (N, c, s, true), M) Q = am_AW d 18 (280, L, .ref N :: st, (N + 1, c + 1, s + k.toNat, true), am_up M N (am_I 0 k.toNat (fun _ => am_z 0))) Q := am_AW_newa (t := .int) (cc := am_I 0 k.toNat (fun _ => am_z 0)) rfl h0 h1 hN rfl rfl
theorem w18_280 {L st : List Value} {h : Nat} {v : Value} : am_AW d 18 (280, L, v :: .ref h :: st, n, M) Q = (am_fit 3 v = true ∧ ∃ M', am_setf M h 10 25 v = some M' ∧ am_AW d 18 (283, L, st, n, M') Q) := am_AW_put rfl
theorem w18_283 {x : Nat} {st : List Value} : am_AW d 18 (283, [.ref x], st, n, M) Q = (am_AW d 18 (284, [.ref x], .ref x :: st, n, M) Q) := am_AW_go rfl rfl rfl rfl
theorem w18_284 {L st : List Value} : am_AW d 18 (284, L, st, n, M) Q = (am_AW d 18 (287, L, .int (am_z 1800) :: st, n, M) Q) := am_AW_go rfl rfl rfl rfl
theorem w18_287 {L st : List Value} {N c s : Nat} {k : Int} (h0 : 0 ≤ k) (h1 : k ≤ 100000) (hN : N < 100000) : am_AW d 18 (287, L, .int (am_z k) :: st, (N, c, s, true), M) Q = am_AW d 18 (289, L, .ref N :: st, (N + 1, c + 1, s + k.toNat, true), am_up M N (am_I 0 k.toNat (fun _ => am_z 0))) Q := am_AW_newa (t := .int) (cc := am_I 0 k.toNat (fun _ => am_z 0)) rfl h0 h1 hN rfl rfl
theorem w18_289 {L st : List Value} {h : Nat} {v : Value} : am_AW d 18 (289, L, v :: .ref h :: st, n, M) Q = (am_fit 3 v = true ∧ ∃ M', am_setf M h 10 26 v = some M' ∧ am_AW d 18 (292, L, st, n, M') Q) := am_AW_put rfl
theorem w18_292 {x : Nat} {st : List Value} : am_AW d 18 (292, [.ref x], st, n, M) Q = (am_AW d 18 (293, [.ref x], .ref x :: st, n, M) Q) := am_AW_go rfl rfl rfl rfl
theorem w18_293 {L st : List Value} : am_AW d 18 (293, L, st, n, M) Q = (am_AW d 18 (296, L, .int (am_z 1800) :: st, n, M) Q) := am_AW_go rfl rfl rfl rfl
theorem w18_296 {L st : List Value} {N c s : Nat} {k : Int} (h0 : 0 ≤ k) (h1 : k ≤ 100000) (hN : N < 100000) : am_AW d 18 (296, L, .int (am_z k) :: st, (N, c, s, true), M) Q = am_AW d 18 (298, L, .ref N :: st, (N + 1, c + 1, s + k.toNat, true), am_up M N (am_I 0 k.toNat (fun _ => am_z 0))) Q := am_AW_newa (t := .int) (cc := am_I 0 k.toNat (fun _ => am_z 0)) rfl h0 h1 hN rfl rfl
theorem w18_298 {L st : List Value} {h : Nat} {v : Value} : am_AW d 18 (298, L, v :: .ref h :: st, n, M) Q = (am_fit 3 v = true ∧ ∃ M', am_setf M h 10 28 v = some M' ∧ am_AW d 18 (301, L, st, n, M') Q) := am_AW_put rfl
theorem w18_301 {x : Nat} {st : List Value} : am_AW d 18 (301, [.ref x], st, n, M) Q = (am_AW d 18 (302, [.ref x], .ref x :: st, n, M) Q) := am_AW_go rfl rfl rfl rfl
theorem w18_302 {L st : List Value} : am_AW d 18 (302, L, st, n, M) Q = (am_AW d 18 (305, L, .int (am_z 1800) :: st, n, M) Q) := am_AW_go rfl rfl rfl rfl
theorem w18_305 {L st : List Value} {N c s : Nat} {k : Int} (h0 : 0 ≤ k) (h1 : k ≤ 100000) (hN : N < 100000) : am_AW d 18 (305, L, .int (am_z k) :: st, (N, c, s, true), M) Q = am_AW d 18 (307, L, .ref N :: st, (N + 1, c + 1, s + k.toNat, true), am_up M N (am_I 0 k.toNat (fun _ => am_z 0))) Q := am_AW_newa (t := .int) (cc := am_I 0 k.toNat (fun _ => am_z 0)) rfl h0 h1 hN rfl rfl
theorem w18_307 {L st : List Value} {h : Nat} {v : Value} : am_AW d 18 (307, L, v :: .ref h :: st, n, M) Q = (am_fit 3 v = true ∧ ∃ M', am_setf M h 10 30 v = some M' ∧ am_AW d 18 (310, L, st, n, M') Q) := am_AW_put rfl
theorem w18_310 {x : Nat} {st : List Value} : am_AW d 18 (310, [.ref x], st, n, M) Q = (am_AW d 18 (311, [.ref x], .ref x :: st, n, M) Q) := am_AW_go rfl rfl rfl rfl
theorem w18_311 {L st : List Value} : am_AW d 18 (311, L, st, n, M) Q = (am_AW d 18 (314, L, .int (am_z 200) :: st, n, M) Q) := am_AW_go rfl rfl rfl rfl
theorem w18_314 {L st : List Value} {N c s : Nat} {k : Int} (h0 : 0 ≤ k) (h1 : k ≤ 100000) (hN : N < 100000) : am_AW d 18 (314, L, .int (am_z k) :: st, (N, c, s, true), M) Q = am_AW d 18 (316, L, .ref N :: st, (N + 1, c + 1, s + k.toNat, true), am_up M N (am_I 0 k.toNat (fun _ => am_z 0))) Q := am_AW_newa (t := .int) (cc := am_I 0 k.toNat (fun _ => am_z 0)) rfl h0 h1 hN rfl rfl
theorem w18_316 {L st : List Value} {h : Nat} {v : Value} : am_AW d 18 (316, L, v :: .ref h :: st, n, M) Q = (am_fit 3 v = true ∧ ∃ M', am_setf M h 10 31 v = some M' ∧ am_AW d 18 (319, L, st, n, M') Q) := am_AW_put rfl
theorem w18_319 {x : Nat} {st : List Value} : am_AW d 18 (319, [.ref x], st, n, M) Q = (am_AW d 18 (320, [.ref x], .ref x :: st, n, M) Q) := am_AW_go rfl rfl rfl rfl
theorem w18_320 {L st : List Value} : am_AW d 18 (320, L, st, n, M) Q = (am_AW d 18 (323, L, .int (am_z 200) :: st, n, M) Q) := am_AW_go rfl rfl rfl rfl
theorem w18_323 {L st : List Value} {N c s : Nat} {k : Int} (h0 : 0 ≤ k) (h1 : k ≤ 100000) (hN : N < 100000) : am_AW d 18 (323, L, .int (am_z k) :: st, (N, c, s, true), M) Q = am_AW d 18 (325, L, .ref N :: st, (N + 1, c + 1, s + k.toNat, true), am_up M N (am_I 0 k.toNat (fun _ => am_z 0))) Q := am_AW_newa (t := .int) (cc := am_I 0 k.toNat (fun _ => am_z 0)) rfl h0 h1 hN rfl rfl
theorem w18_325 {L st : List Value} {h : Nat} {v : Value} : am_AW d 18 (325, L, v :: .ref h :: st, n, M) Q = (am_fit 3 v = true ∧ ∃ M', am_setf M h 10 32 v = some M' ∧ am_AW d 18 (328, L, st, n, M') Q) := am_AW_put rfl
theorem w18_328 {x : Nat} {st : List Value} : am_AW d 18 (328, [.ref x], st, n, M) Q = (am_AW d 18 (329, [.ref x], .ref x :: st, n, M) Q) := am_AW_go rfl rfl rfl rfl
theorem w18_329 {L st : List Value} : am_AW d 18 (329, L, st, n, M) Q = (am_AW d 18 (332, L, .int (am_z 420) :: st, n, M) Q) := am_AW_go rfl rfl rfl rfl
theorem w18_332 {L st : List Value} {N c s : Nat} {k : Int} (h0 : 0 ≤ k) (h1 : k ≤ 100000) (hN : N < 100000) : am_AW d 18 (332, L, .int (am_z k) :: st, (N, c, s, true), M) Q = am_AW d 18 (334, L, .ref N :: st, (N + 1, c + 1, s + k.toNat, true), am_up M N (am_I 0 k.toNat (fun _ => am_z 0))) Q := am_AW_newa (t := .int) (cc := am_I 0 k.toNat (fun _ => am_z 0)) rfl h0 h1 hN rfl rfl
theorem w18_334 {L st : List Value} {h : Nat} {v : Value} : am_AW d 18 (334, L, v :: .ref h :: st, n, M) Q = (am_fit 3 v = true ∧ ∃ M', am_setf M h 10 35 v = some M' ∧ am_AW d 18 (337, L, st, n, M') Q) := am_AW_put rfl
theorem w18_337 {x : Nat} {st : List Value} : am_AW d 18 (337, [.ref x], st, n, M) Q = (am_AW d 18 (338, [.ref x], .ref x :: st, n, M) Q) := am_AW_go rfl rfl rfl rfl
theorem w18_338 {L st : List Value} : am_AW d 18 (338, L, st, n, M) Q = (am_AW d 18 (341, L, .int (am_z 420) :: st, n, M) Q) := am_AW_go rfl rfl rfl rfl
theorem w18_341 {L st : List Value} {N c s : Nat} {k : Int} (h0 : 0 ≤ k) (h1 : k ≤ 100000) (hN : N < 100000) : am_AW d 18 (341, L, .int (am_z k) :: st, (N, c, s, true), M) Q = am_AW d 18 (343, L, .ref N :: st, (N + 1, c + 1, s + k.toNat, true), am_up M N (am_I 0 k.toNat (fun _ => am_z 0))) Q := am_AW_newa (t := .int) (cc := am_I 0 k.toNat (fun _ => am_z 0)) rfl h0 h1 hN rfl rfl
theorem w18_343 {L st : List Value} {h : Nat} {v : Value} : am_AW d 18 (343, L, v :: .ref h :: st, n, M) Q = (am_fit 3 v = true ∧ ∃ M', am_setf M h 10 36 v = some M' ∧ am_AW d 18 (346, L, st, n, M') Q) := am_AW_put rfl
theorem w18_346 {x : Nat} {st : List Value} : am_AW d 18 (346, [.ref x], st, n, M) Q = (am_AW d 18 (347, [.ref x], .ref x :: st, n, M) Q) := am_AW_go rfl rfl rfl rfl
theorem w18_347 {L st : List Value} : am_AW d 18 (347, L, st, n, M) Q = (am_AW d 18 (349, L, .int (am_z 34020) :: st, n, M) Q) := am_AW_go rfl rfl rfl rfl
theorem w18_349 {L st : List Value} {N c s : Nat} {k : Int} (h0 : 0 ≤ k) (h1 : k ≤ 100000) (hN : N < 100000) : am_AW d 18 (349, L, .int (am_z k) :: st, (N, c, s, true), M) Q = am_AW d 18 (351, L, .ref N :: st, (N + 1, c + 1, s + k.toNat, true), am_up M N (am_I 0 k.toNat (fun _ => am_z 0))) Q := am_AW_newa (t := .int) (cc := am_I 0 k.toNat (fun _ => am_z 0)) rfl h0 h1 hN rfl rfl
theorem w18_351 {L st : List Value} {h : Nat} {v : Value} : am_AW d 18 (351, L, v :: .ref h :: st, n, M) Q = (am_fit 3 v = true ∧ ∃ M', am_setf M h 10 37 v = some M' ∧ am_AW d 18 (354, L, st, n, M') Q) := am_AW_put rfl
theorem w18_354 {x : Nat} {st : List Value} : am_AW d 18 (354, [.ref x], st, n, M) Q = (am_AW d 18 (355, [.ref x], .ref x :: st, n, M) Q) := am_AW_go rfl rfl rfl rfl
theorem w18_355 {L st : List Value} : am_AW d 18 (355, L, st, n, M) Q = (am_AW d 18 (358, L, .int (am_z 9720) :: st, n, M) Q) := am_AW_go rfl rfl rfl rfl
theorem w18_358 {L st : List Value} {N c s : Nat} {k : Int} (h0 : 0 ≤ k) (h1 : k ≤ 100000) (hN : N < 100000) : am_AW d 18 (358, L, .int (am_z k) :: st, (N, c, s, true), M) Q = am_AW d 18 (360, L, .ref N :: st, (N + 1, c + 1, s + k.toNat, true), am_up M N (am_I 0 k.toNat (fun _ => am_z 0))) Q := am_AW_newa (t := .int) (cc := am_I 0 k.toNat (fun _ => am_z 0)) rfl h0 h1 hN rfl rfl
theorem w18_360 {L st : List Value} {h : Nat} {v : Value} : am_AW d 18 (360, L, v :: .ref h :: st, n, M) Q = (am_fit 3 v = true ∧ ∃ M', am_setf M h 10 38 v = some M' ∧ am_AW d 18 (363, L, st, n, M') Q) := am_AW_put rfl
theorem w18_363 {x : Nat} {st : List Value} : am_AW d 18 (363, [.ref x], st, n, M) Q = (am_AW d 18 (364, [.ref x], .ref x :: st, n, M) Q) := am_AW_go rfl rfl rfl rfl
theorem w18_364 {L st : List Value} : am_AW d 18 (364, L, st, n, M) Q = (am_AW d 18 (366, L, .int (am_z 120) :: st, n, M) Q) := am_AW_go rfl rfl rfl rfl
theorem w18_366 {L st : List Value} {N c s : Nat} {k : Int} (h0 : 0 ≤ k) (h1 : k ≤ 100000) (hN : N < 100000) : am_AW d 18 (366, L, .int (am_z k) :: st, (N, c, s, true), M) Q = am_AW d 18 (368, L, .ref N :: st, (N + 1, c + 1, s + k.toNat, true), am_up M N (am_I 0 k.toNat (fun _ => am_z 0))) Q := am_AW_newa (t := .int) (cc := am_I 0 k.toNat (fun _ => am_z 0)) rfl h0 h1 hN rfl rfl
theorem w18_368 {L st : List Value} {h : Nat} {v : Value} : am_AW d 18 (368, L, v :: .ref h :: st, n, M) Q = (am_fit 3 v = true ∧ ∃ M', am_setf M h 10 39 v = some M' ∧ am_AW d 18 (371, L, st, n, M') Q) := am_AW_put rfl
theorem w18_371 {x : Nat} {st : List Value} : am_AW d 18 (371, [.ref x], st, n, M) Q = (am_AW d 18 (372, [.ref x], .ref x :: st, n, M) Q) := am_AW_go rfl rfl rfl rfl
theorem w18_372 {L st : List Value} : am_AW d 18 (372, L, st, n, M) Q = (am_AW d 18 (375, L, .int (am_z 1200) :: st, n, M) Q) := am_AW_go rfl rfl rfl rfl
theorem w18_375 {L st : List Value} {N c s : Nat} {k : Int} (h0 : 0 ≤ k) (h1 : k ≤ 100000) (hN : N < 100000) : am_AW d 18 (375, L, .int (am_z k) :: st, (N, c, s, true), M) Q = am_AW d 18 (377, L, .ref N :: st, (N + 1, c + 1, s + k.toNat, true), am_up M N (am_I 0 k.toNat (fun _ => am_z 0))) Q := am_AW_newa (t := .int) (cc := am_I 0 k.toNat (fun _ => am_z 0)) rfl h0 h1 hN rfl rfl
theorem w18_377 {L st : List Value} {h : Nat} {v : Value} : am_AW d 18 (377, L, v :: .ref h :: st, n, M) Q = (am_fit 3 v = true ∧ ∃ M', am_setf M h 10 41 v = some M' ∧ am_AW d 18 (380, L, st, n, M') Q) := am_AW_put rfl
theorem w18_380 {x : Nat} {st : List Value} : am_AW d 18 (380, [.ref x], st, n, M) Q = (am_AW d 18 (381, [.ref x], .ref x :: st, n, M) Q) := am_AW_go rfl rfl rfl rfl
theorem w18_381 {L st : List Value} : am_AW d 18 (381, L, st, n, M) Q = (am_AW d 18 (384, L, .int (am_z 1200) :: st, n, M) Q) := am_AW_go rfl rfl rfl rfl
theorem w18_384 {L st : List Value} {N c s : Nat} {k : Int} (h0 : 0 ≤ k) (h1 : k ≤ 100000) (hN : N < 100000) : am_AW d 18 (384, L, .int (am_z k) :: st, (N, c, s, true), M) Q = am_AW d 18 (386, L, .ref N :: st, (N + 1, c + 1, s + k.toNat, true), am_up M N (am_I 0 k.toNat (fun _ => am_z 0))) Q := am_AW_newa (t := .int) (cc := am_I 0 k.toNat (fun _ => am_z 0)) rfl h0 h1 hN rfl rfl
theorem w18_386 {L st : List Value} {h : Nat} {v : Value} : am_AW d 18 (386, L, v :: .ref h :: st, n, M) Q = (am_fit 3 v = true ∧ ∃ M', am_setf M h 10 42 v = some M' ∧ am_AW d 18 (389, L, st, n, M') Q) := am_AW_put rfl
theorem w18_389 {x : Nat} {st : List Value} : am_AW d 18 (389, [.ref x], st, n, M) Q = (am_AW d 18 (390, [.ref x], .ref x :: st, n, M) Q) := am_AW_go rfl rfl rfl rfl
theorem w18_390 {L st : List Value} : am_AW d 18 (390, L, st, n, M) Q = (am_AW d 18 (392, L, .int (am_z 100) :: st, n, M) Q) := am_AW_go rfl rfl rfl rfl
theorem w18_392 {L st : List Value} {N c s : Nat} {k : Int} (h0 : 0 ≤ k) (h1 : k ≤ 100000) (hN : N < 100000) : am_AW d 18 (392, L, .int (am_z k) :: st, (N, c, s, true), M) Q = am_AW d 18 (394, L, .ref N :: st, (N + 1, c + 1, s + k.toNat, true), am_up M N (am_I 0 k.toNat (fun _ => am_z 0))) Q := am_AW_newa (t := .int) (cc := am_I 0 k.toNat (fun _ => am_z 0)) rfl h0 h1 hN rfl rfl
theorem w18_394 {L st : List Value} {h : Nat} {v : Value} : am_AW d 18 (394, L, v :: .ref h :: st, n, M) Q = (am_fit 3 v = true ∧ ∃ M', am_setf M h 10 44 v = some M' ∧ am_AW d 18 (397, L, st, n, M') Q) := am_AW_put rfl
theorem w18_397 {L : List Value} : am_AW d 18 (397, L, [], n, M) Q = (Q none n M) := am_AW_ret (rv := (none, n)) rfl rfl rfl (am_mono_self n)
end W18
section W72
variable {d : Nat} {n : am_N} {M : am_M} {Q : Option Value → am_N → am_M → Prop}
theorem w72_0 {x : Nat} {st : List Value} : am_AW d 72 (0, [.ref x], st, n, M) Q = (am_AW d 72 (1, [.ref x], .ref x :: st, n, M) Q) := am_AW_go rfl rfl rfl rfl
theorem w72_1 {L st : List Value} {v0 : Value} : am_AW d 72 (1, L, v0 :: st, n, M) Q = (am_okA 1 (v0 :: st) = true ∧ am_isR [v0] = true ∧ am_Do d 2000 [v0] n M (am_then d 72 4 0 L st n Q)) := am_AW_ci (i := 3) (x := 2000) (y := 1) (z := 0) rfl
theorem w72_4 {x : Nat} {st : List Value} : am_AW d 72 (4, [.ref x], st, n, M) Q = (am_AW d 72 (5, [.ref x], .ref x :: st, n, M) Q) := am_AW_go rfl rfl rfl rfl
theorem w72_5 {L st : List Value} {N c s : Nat} (hN : N < 100000) : am_AW d 72 (5, L, st, (N, c, s, true), M) Q = am_AW d 72 (8, L, .ref N :: st, (N + 1, c + 1, s + 3, true), am_up M N (am_O 1 [.null, .int (am_z 0), .int (am_z 0)])) Q := am_AW_new (i := 9) (x := 1) (y := 0) (z := 0) rfl (by omega) hN
theorem w72_8 {L st : List Value} {x : Nat} : am_AW d 72 (8, L, .ref x :: st, n, M) Q = (am_AW d 72 (9, L, .ref x :: .ref x :: st, n, M) Q) := am_AW_go rfl rfl rfl rfl
theorem w72_8i {L st : List Value} {x : Int32} : am_AW d 72 (8, L, .int x :: st, n, M) Q = (am_AW d 72 (9, L, .int x :: .int x :: st, n, M) Q) := am_AW_go rfl rfl rfl rfl
theorem w72_9 {L st : List Value} {v0 : Value} : am_AW d 72 (9, L, v0 :: st, n, M) Q = (am_okA 1 (v0 :: st) = true ∧ am_isR [v0] = true ∧ am_Do d 132 [v0] n M (am_then d 72 12 0 L st n Q)) := am_AW_ci (i := 11) (x := 132) (y := 1) (z := 0) rfl
theorem w72_12 {L st : List Value} {h : Nat} {v : Value} : am_AW d 72 (12, L, v :: .ref h :: st, n, M) Q = (am_fit 3 v = true ∧ ∃ M', am_setf M h 4 0 v = some M' ∧ am_AW d 72 (15, L, st, n, M') Q) := am_AW_put rfl
theorem w72_15 {x : Nat} {st : List Value} : am_AW d 72 (15, [.ref x], st, n, M) Q = (am_AW d 72 (16, [.ref x], .ref x :: st, n, M) Q) := am_AW_go rfl rfl rfl rfl
theorem w72_16 {L st : List Value} {N c s : Nat} (hN : N < 100000) : am_AW d 72 (16, L, st, (N, c, s, true), M) Q = am_AW d 72 (19, L, .ref N :: st, (N + 1, c + 1, s + 3, true), am_up M N (am_O 1 [.null, .int (am_z 0), .int (am_z 0)])) Q := am_AW_new (i := 9) (x := 1) (y := 0) (z := 0) rfl (by omega) hN
theorem w72_19 {L st : List Value} {x : Nat} : am_AW d 72 (19, L, .ref x :: st, n, M) Q = (am_AW d 72 (20, L, .ref x :: .ref x :: st, n, M) Q) := am_AW_go rfl rfl rfl rfl
theorem w72_19i {L st : List Value} {x : Int32} : am_AW d 72 (19, L, .int x :: st, n, M) Q = (am_AW d 72 (20, L, .int x :: .int x :: st, n, M) Q) := am_AW_go rfl rfl rfl rfl
theorem w72_20 {L st : List Value} {v0 : Value} : am_AW d 72 (20, L, v0 :: st, n, M) Q = (am_okA 1 (v0 :: st) = true ∧ am_isR [v0] = true ∧ am_Do d 132 [v0] n M (am_then d 72 23 0 L st n Q)) := am_AW_ci (i := 11) (x := 132) (y := 1) (z := 0) rfl
theorem w72_23 {L st : List Value} {h : Nat} {v : Value} : am_AW d 72 (23, L, v :: .ref h :: st, n, M) Q = (am_fit 3 v = true ∧ ∃ M', am_setf M h 4 1 v = some M' ∧ am_AW d 72 (26, L, st, n, M') Q) := am_AW_put rfl
theorem w72_26 {L : List Value} : am_AW d 72 (26, L, [], n, M) Q = (Q none n M) := am_AW_ret (rv := (none, n)) rfl rfl rfl (am_mono_self n)
end W72
section W75
variable {d : Nat} {n : am_N} {M : am_M} {Q : Option Value → am_N → am_M → Prop}
theorem w75_0 {x : Nat} {st : List Value} : am_AW d 75 (0, [.ref x], st, n, M) Q = (am_AW d 75 (1, [.ref x], .ref x :: st, n, M) Q) := am_AW_go rfl rfl rfl rfl
theorem w75_1 {L st : List Value} {v0 : Value} : am_AW d 75 (1, L, v0 :: st, n, M) Q = (am_okA 1 (v0 :: st) = true ∧ am_isR [v0] = true ∧ am_Do d 2000 [v0] n M (am_then d 75 4 0 L st n Q)) := am_AW_ci (i := 3) (x := 2000) (y := 1) (z := 0) rfl
theorem w75_4 {x : Nat} {st : List Value} : am_AW d 75 (4, [.ref x], st, n, M) Q = (am_AW d 75 (5, [.ref x], .ref x :: st, n, M) Q) := am_AW_go rfl rfl rfl rfl
theorem w75_5 {L st : List Value} : am_AW d 75 (5, L, st, n, M) Q = (am_AW d 75 (6, L, .int (am_z 0) :: st, n, M) Q) := am_AW_go rfl rfl rfl rfl
theorem w75_6 {L st : List Value} {h : Nat} {v : Value} : am_AW d 75 (6, L, v :: .ref h :: st, n, M) Q = (am_fit 0 v = true ∧ ∃ M', am_setf M h 2 0 v = some M' ∧ am_AW d 75 (9, L, st, n, M') Q) := am_AW_put rfl
theorem w75_9 {x : Nat} {st : List Value} : am_AW d 75 (9, [.ref x], st, n, M) Q = (am_AW d 75 (10, [.ref x], .ref x :: st, n, M) Q) := am_AW_go rfl rfl rfl rfl
theorem w75_10 {L st : List Value} : am_AW d 75 (10, L, st, n, M) Q = (am_AW d 75 (11, L, .int (am_z (-1)) :: st, n, M) Q) := am_AW_go rfl rfl rfl rfl
theorem w75_11 {L st : List Value} {h : Nat} {v : Value} : am_AW d 75 (11, L, v :: .ref h :: st, n, M) Q = (am_fit 0 v = true ∧ ∃ M', am_setf M h 2 1 v = some M' ∧ am_AW d 75 (14, L, st, n, M') Q) := am_AW_put rfl
theorem w75_14 {L : List Value} : am_AW d 75 (14, L, [], n, M) Q = (Q none n M) := am_AW_ret (rv := (none, n)) rfl rfl rfl (am_mono_self n)
end W75
section W78
variable {d : Nat} {n : am_N} {M : am_M} {Q : Option Value → am_N → am_M → Prop}
theorem w78_0 {a1 : Value} {x : Nat} {st : List Value} : am_AW d 78 (0, [.ref x, a1], st, n, M) Q = (am_AW d 78 (1, [.ref x, a1], .ref x :: st, n, M) Q) := am_AW_go rfl rfl rfl rfl
theorem w78_1 {L st : List Value} {v0 : Value} : am_AW d 78 (1, L, v0 :: st, n, M) Q = (am_okA 1 (v0 :: st) = true ∧ am_isR [v0] = true ∧ am_Do d 2000 [v0] n M (am_then d 78 4 0 L st n Q)) := am_AW_ci (i := 3) (x := 2000) (y := 1) (z := 0) rfl
theorem w78_4 {a1 : Value} {x : Nat} {st : List Value} : am_AW d 78 (4, [.ref x, a1], st, n, M) Q = (am_AW d 78 (5, [.ref x, a1], .ref x :: st, n, M) Q) := am_AW_go rfl rfl rfl rfl
theorem w78_5 {L st : List Value} : am_AW d 78 (5, L, st, n, M) Q = (am_AW d 78 (7, L, .int (am_z 8) :: st, n, M) Q) := am_AW_go rfl rfl rfl rfl
theorem w78_7 {L st : List Value} {N c s : Nat} {k : Int} (h0 : 0 ≤ k) (h1 : k ≤ 100000) (hN : N < 100000) : am_AW d 78 (7, L, .int (am_z k) :: st, (N, c, s, true), M) Q = am_AW d 78 (10, L, .ref N :: st, (N + 1, c + 1, s + k.toNat, true), am_up M N (am_R 4 k.toNat (fun _ => none))) Q := am_AW_anewa (i := 9) (x := 0) (y := 0) (z := 0) rfl h0 h1 hN
theorem w78_10 {L st : List Value} {h : Nat} {v : Value} : am_AW d 78 (10, L, v :: .ref h :: st, n, M) Q = (am_fit 3 v = true ∧ ∃ M', am_setf M h 3 0 v = some M' ∧ am_AW d 78 (13, L, st, n, M') Q) := am_AW_put rfl
theorem w78_13 {a1 : Value} {x : Nat} {st : List Value} : am_AW d 78 (13, [.ref x, a1], st, n, M) Q = (am_AW d 78 (14, [.ref x, a1], .ref x :: st, n, M) Q) := am_AW_go rfl rfl rfl rfl
theorem w78_14 {L st : List Value} : am_AW d 78 (14, L, st, n, M) Q = (am_AW d 78 (16, L, .int (am_z 8) :: st, n, M) Q) := am_AW_go rfl rfl rfl rfl
theorem w78_16 {L st : List Value} {N c s : Nat} {k : Int} (h0 : 0 ≤ k) (h1 : k ≤ 100000) (hN : N < 100000) : am_AW d 78 (16, L, .int (am_z k) :: st, (N, c, s, true), M) Q = am_AW d 78 (19, L, .ref N :: st, (N + 1, c + 1, s + k.toNat, true), am_up M N (am_R 4 k.toNat (fun _ => none))) Q := am_AW_anewa (i := 9) (x := 0) (y := 0) (z := 0) rfl h0 h1 hN
theorem w78_19 {L st : List Value} {h : Nat} {v : Value} : am_AW d 78 (19, L, v :: .ref h :: st, n, M) Q = (am_fit 3 v = true ∧ ∃ M', am_setf M h 3 1 v = some M' ∧ am_AW d 78 (22, L, st, n, M') Q) := am_AW_put rfl
theorem w78_22 {a1 : Value} {x : Nat} {st : List Value} : am_AW d 78 (22, [.ref x, a1], st, n, M) Q = (am_AW d 78 (23, [.ref x, a1], .ref x :: st, n, M) Q) := am_AW_go rfl rfl rfl rfl
theorem w78_23 {L st : List Value} : am_AW d 78 (23, L, st, n, M) Q = (am_AW d 78 (25, L, .int (am_z 8) :: st, n, M) Q) := am_AW_go rfl rfl rfl rfl
theorem w78_25 {L st : List Value} {N c s : Nat} {k : Int} (h0 : 0 ≤ k) (h1 : k ≤ 100000) (hN : N < 100000) : am_AW d 78 (25, L, .int (am_z k) :: st, (N, c, s, true), M) Q = am_AW d 78 (27, L, .ref N :: st, (N + 1, c + 1, s + k.toNat, true), am_up M N (am_I 2 k.toNat (fun _ => am_z 0))) Q := am_AW_newa (t := .boolean) (cc := am_I 2 k.toNat (fun _ => am_z 0)) rfl h0 h1 hN rfl rfl
theorem w78_27 {L st : List Value} {h : Nat} {v : Value} : am_AW d 78 (27, L, v :: .ref h :: st, n, M) Q = (am_fit 3 v = true ∧ ∃ M', am_setf M h 3 2 v = some M' ∧ am_AW d 78 (30, L, st, n, M') Q) := am_AW_put rfl
theorem w78_30 {a1 : Value} {x : Nat} {st : List Value} : am_AW d 78 (30, [.ref x, a1], st, n, M) Q = (am_AW d 78 (31, [.ref x, a1], .ref x :: st, n, M) Q) := am_AW_go rfl rfl rfl rfl
theorem w78_31 {L st : List Value} : am_AW d 78 (31, L, st, n, M) Q = (am_AW d 78 (32, L, .int (am_z 0) :: st, n, M) Q) := am_AW_go rfl rfl rfl rfl
theorem w78_32 {L st : List Value} {h : Nat} {v : Value} : am_AW d 78 (32, L, v :: .ref h :: st, n, M) Q = (am_fit 0 v = true ∧ ∃ M', am_setf M h 3 3 v = some M' ∧ am_AW d 78 (35, L, st, n, M') Q) := am_AW_put rfl
theorem w78_35 {L st : List Value} : am_AW d 78 (35, L, st, n, M) Q = (am_AW d 78 (36, L, .int (am_z 0) :: st, n, M) Q) := am_AW_go rfl rfl rfl rfl
theorem w78_36 {a0 a1 : Value} {x : Int32} {st : List Value} : am_AW d 78 (36, [a0, a1], .int x :: st, n, M) Q = (am_AW d 78 (37, [a0, .int x], st, n, M) Q) := am_AW_go rfl rfl rfl rfl
theorem w78_37 {a0 : Value} {x : Int32} {st : List Value} : am_AW d 78 (37, [a0, .int x], st, n, M) Q = (am_AW d 78 (38, [a0, .int x], .int x :: st, n, M) Q) := am_AW_go rfl rfl rfl rfl
theorem w78_38 {L st : List Value} : am_AW d 78 (38, L, st, n, M) Q = (am_AW d 78 (40, L, .int (am_z 8) :: st, n, M) Q) := am_AW_go rfl rfl rfl rfl
theorem w78_40 {L st : List Value} {x y : Int32} : am_AW d 78 (40, L, .int y :: .int x :: st, n, M) Q = (if x < y then am_AW d 78 (43, L, st, n, M) Q else am_AW d 78 (79, L, st, n, M) Q) := (am_AW_icmp rfl).trans am_ite_ge
theorem w78_43 {a1 : Value} {x : Nat} {st : List Value} : am_AW d 78 (43, [.ref x, a1], st, n, M) Q = (am_AW d 78 (44, [.ref x, a1], .ref x :: st, n, M) Q) := am_AW_go rfl rfl rfl rfl
theorem w78_44 {L st : List Value} {h : Nat} : am_AW d 78 (44, L, .ref h :: st, n, M) Q = (∃ v, am_fld M h 3 0 = some v ∧ am_AW d 78 (47, L, v :: st, n, M) Q) := am_AW_op (o := am_fld M h 3 0) (f := fun v => (47, L, v :: st, n, M)) rfl rfl (am_bm _ _) (fun _ => rfl)
theorem w78_47 {a0 : Value} {x : Int32} {st : List Value} : am_AW d 78 (47, [a0, .int x], st, n, M) Q = (am_AW d 78 (48, [a0, .int x], .int x :: st, n, M) Q) := am_AW_go rfl rfl rfl rfl
theorem w78_48 {L st : List Value} {N c s : Nat} (hN : N < 100000) : am_AW d 78 (48, L, st, (N, c, s, true), M) Q = am_AW d 78 (51, L, .ref N :: st, (N + 1, c + 1, s + 3, true), am_up M N (am_O 0 [.null, .int (am_z 0), .int (am_z 0)])) Q := am_AW_new (i := 9) (x := 0) (y := 0) (z := 0) rfl (by omega) hN
theorem w78_51 {L st : List Value} {x : Nat} : am_AW d 78 (51, L, .ref x :: st, n, M) Q = (am_AW d 78 (52, L, .ref x :: .ref x :: st, n, M) Q) := am_AW_go rfl rfl rfl rfl
theorem w78_51i {L st : List Value} {x : Int32} : am_AW d 78 (51, L, .int x :: st, n, M) Q = (am_AW d 78 (52, L, .int x :: .int x :: st, n, M) Q) := am_AW_go rfl rfl rfl rfl
theorem w78_52 {L st : List Value} : am_AW d 78 (52, L, st, n, M) Q = (am_AW d 78 (54, L, .int (am_z 80) :: st, n, M) Q) := am_AW_go rfl rfl rfl rfl
theorem w78_54 {L st : List Value} {v0 v1 : Value} : am_AW d 78 (54, L, v0 :: v1 :: st, n, M) Q = (am_okA 2 (v0 :: v1 :: st) = true ∧ am_isR [v1, v0] = true ∧ am_Do d 108 [v1, v0] n M (am_then d 78 57 0 L st n Q)) := am_AW_ci (i := 28) (x := 108) (y := 2) (z := 0) rfl
theorem w78_57 {L st : List Value} {h v : Nat} {i : Int32} : am_AW d 78 (57, L, .ref v :: .int i :: .ref h :: st, n, M) Q = (∃ M', am_aast M h i v = some M' ∧ am_AW d 78 (58, L, st, n, M') Q) := am_AW_op (o := am_aast M h i v) (f := fun M' => (58, L, st, n, M')) rfl rfl rfl (fun _ => rfl)
theorem w78_58 {a1 : Value} {x : Nat} {st : List Value} : am_AW d 78 (58, [.ref x, a1], st, n, M) Q = (am_AW d 78 (59, [.ref x, a1], .ref x :: st, n, M) Q) := am_AW_go rfl rfl rfl rfl
theorem w78_59 {L st : List Value} {h : Nat} : am_AW d 78 (59, L, .ref h :: st, n, M) Q = (∃ v, am_fld M h 3 1 = some v ∧ am_AW d 78 (62, L, v :: st, n, M) Q) := am_AW_op (o := am_fld M h 3 1) (f := fun v => (62, L, v :: st, n, M)) rfl rfl (am_bm _ _) (fun _ => rfl)
theorem w78_62 {a0 : Value} {x : Int32} {st : List Value} : am_AW d 78 (62, [a0, .int x], st, n, M) Q = (am_AW d 78 (63, [a0, .int x], .int x :: st, n, M) Q) := am_AW_go rfl rfl rfl rfl
theorem w78_63 {L st : List Value} {N c s : Nat} (hN : N < 100000) : am_AW d 78 (63, L, st, (N, c, s, true), M) Q = am_AW d 78 (66, L, .ref N :: st, (N + 1, c + 1, s + 3, true), am_up M N (am_O 0 [.null, .int (am_z 0), .int (am_z 0)])) Q := am_AW_new (i := 9) (x := 0) (y := 0) (z := 0) rfl (by omega) hN
theorem w78_66 {L st : List Value} {x : Nat} : am_AW d 78 (66, L, .ref x :: st, n, M) Q = (am_AW d 78 (67, L, .ref x :: .ref x :: st, n, M) Q) := am_AW_go rfl rfl rfl rfl
theorem w78_66i {L st : List Value} {x : Int32} : am_AW d 78 (66, L, .int x :: st, n, M) Q = (am_AW d 78 (67, L, .int x :: .int x :: st, n, M) Q) := am_AW_go rfl rfl rfl rfl
theorem w78_67 {L st : List Value} : am_AW d 78 (67, L, st, n, M) Q = (am_AW d 78 (69, L, .int (am_z 80) :: st, n, M) Q) := am_AW_go rfl rfl rfl rfl
theorem w78_69 {L st : List Value} {v0 v1 : Value} : am_AW d 78 (69, L, v0 :: v1 :: st, n, M) Q = (am_okA 2 (v0 :: v1 :: st) = true ∧ am_isR [v1, v0] = true ∧ am_Do d 108 [v1, v0] n M (am_then d 78 72 0 L st n Q)) := am_AW_ci (i := 28) (x := 108) (y := 2) (z := 0) rfl
theorem w78_72 {L st : List Value} {h v : Nat} {i : Int32} : am_AW d 78 (72, L, .ref v :: .int i :: .ref h :: st, n, M) Q = (∃ M', am_aast M h i v = some M' ∧ am_AW d 78 (73, L, st, n, M') Q) := am_AW_op (o := am_aast M h i v) (f := fun M' => (73, L, st, n, M')) rfl rfl rfl (fun _ => rfl)
theorem w78_73 {a0 : Value} {x : Int32} {st : List Value} : am_AW d 78 (73, [a0, .int x], st, n, M) Q = (am_AW d 78 (76, [a0, .int (x + (am_z 1))], st, n, M) Q) := am_AW_go rfl rfl rfl rfl
theorem w78_76 {L st : List Value} : am_AW d 78 (76, L, st, n, M) Q = (am_AW d 78 (37, L, st, n, M) Q) := am_AW_go rfl rfl rfl rfl
theorem w78_79 {L : List Value} : am_AW d 78 (79, L, [], n, M) Q = (Q none n M) := am_AW_ret (rv := (none, n)) rfl rfl rfl (am_mono_self n)
end W78
section W81
variable {d : Nat} {n : am_N} {M : am_M} {Q : Option Value → am_N → am_M → Prop}
theorem w81_0 {a1 a2 : Value} {x : Nat} {st : List Value} : am_AW d 81 (0, [.ref x, a1, a2], st, n, M) Q = (am_AW d 81 (1, [.ref x, a1, a2], .ref x :: st, n, M) Q) := am_AW_go rfl rfl rfl rfl
theorem w81_1 {L st : List Value} {v0 : Value} : am_AW d 81 (1, L, v0 :: st, n, M) Q = (am_okA 1 (v0 :: st) = true ∧ am_isR [v0] = true ∧ am_Do d 2000 [v0] n M (am_then d 81 4 0 L st n Q)) := am_AW_ci (i := 3) (x := 2000) (y := 1) (z := 0) rfl
theorem w81_4 {a1 a2 : Value} {x : Nat} {st : List Value} : am_AW d 81 (4, [.ref x, a1, a2], st, n, M) Q = (am_AW d 81 (5, [.ref x, a1, a2], .ref x :: st, n, M) Q) := am_AW_go rfl rfl rfl rfl
theorem w81_5 {L st : List Value} {N c s : Nat} (hN : N < 100000) : am_AW d 81 (5, L, st, (N, c, s, true), M) Q = am_AW d 81 (8, L, .ref N :: st, (N + 1, c + 1, s + 3, true), am_up M N (am_O 0 [.null, .int (am_z 0), .int (am_z 0)])) Q := am_AW_new (i := 9) (x := 0) (y := 0) (z := 0) rfl (by omega) hN
theorem w81_8 {L st : List Value} {x : Nat} : am_AW d 81 (8, L, .ref x :: st, n, M) Q = (am_AW d 81 (9, L, .ref x :: .ref x :: st, n, M) Q) := am_AW_go rfl rfl rfl rfl
theorem w81_8i {L st : List Value} {x : Int32} : am_AW d 81 (8, L, .int x :: st, n, M) Q = (am_AW d 81 (9, L, .int x :: .int x :: st, n, M) Q) := am_AW_go rfl rfl rfl rfl
theorem w81_9 {L st : List Value} : am_AW d 81 (9, L, st, n, M) Q = (am_AW d 81 (12, L, .int (am_z 200) :: st, n, M) Q) := am_AW_go rfl rfl rfl rfl
theorem w81_12 {L st : List Value} {v0 v1 : Value} : am_AW d 81 (12, L, v0 :: v1 :: st, n, M) Q = (am_okA 2 (v0 :: v1 :: st) = true ∧ am_isR [v1, v0] = true ∧ am_Do d 108 [v1, v0] n M (am_then d 81 15 0 L st n Q)) := am_AW_ci (i := 11) (x := 108) (y := 2) (z := 0) rfl
theorem w81_15 {L st : List Value} {h : Nat} {v : Value} : am_AW d 81 (15, L, v :: .ref h :: st, n, M) Q = (am_fit 3 v = true ∧ ∃ M', am_setf M h 5 2 v = some M' ∧ am_AW d 81 (18, L, st, n, M') Q) := am_AW_put rfl
theorem w81_18 {a1 a2 : Value} {x : Nat} {st : List Value} : am_AW d 81 (18, [.ref x, a1, a2], st, n, M) Q = (am_AW d 81 (19, [.ref x, a1, a2], .ref x :: st, n, M) Q) := am_AW_go rfl rfl rfl rfl
theorem w81_19 {L st : List Value} : am_AW d 81 (19, L, st, n, M) Q = (am_AW d 81 (22, L, .int (am_z 200) :: st, n, M) Q) := am_AW_go rfl rfl rfl rfl
theorem w81_22 {L st : List Value} {N c s : Nat} {k : Int} (h0 : 0 ≤ k) (h1 : k ≤ 100000) (hN : N < 100000) : am_AW d 81 (22, L, .int (am_z k) :: st, (N, c, s, true), M) Q = am_AW d 81 (24, L, .ref N :: st, (N + 1, c + 1, s + k.toNat, true), am_up M N (am_I 0 k.toNat (fun _ => am_z 0))) Q := am_AW_newa (t := .int) (cc := am_I 0 k.toNat (fun _ => am_z 0)) rfl h0 h1 hN rfl rfl
theorem w81_24 {L st : List Value} {h : Nat} {v : Value} : am_AW d 81 (24, L, v :: .ref h :: st, n, M) Q = (am_fit 3 v = true ∧ ∃ M', am_setf M h 5 3 v = some M' ∧ am_AW d 81 (27, L, st, n, M') Q) := am_AW_put rfl
theorem w81_27 {a1 a2 : Value} {x : Nat} {st : List Value} : am_AW d 81 (27, [.ref x, a1, a2], st, n, M) Q = (am_AW d 81 (28, [.ref x, a1, a2], .ref x :: st, n, M) Q) := am_AW_go rfl rfl rfl rfl
theorem w81_28 {L st : List Value} : am_AW d 81 (28, L, st, n, M) Q = (am_AW d 81 (30, L, .int (am_z 100) :: st, n, M) Q) := am_AW_go rfl rfl rfl rfl
theorem w81_30 {L st : List Value} {N c s : Nat} {k : Int} (h0 : 0 ≤ k) (h1 : k ≤ 100000) (hN : N < 100000) : am_AW d 81 (30, L, .int (am_z k) :: st, (N, c, s, true), M) Q = am_AW d 81 (32, L, .ref N :: st, (N + 1, c + 1, s + k.toNat, true), am_up M N (am_I 1 k.toNat (fun _ => am_z 0))) Q := am_AW_newa (t := .char) (cc := am_I 1 k.toNat (fun _ => am_z 0)) rfl h0 h1 hN rfl rfl
theorem w81_32 {L st : List Value} {h : Nat} {v : Value} : am_AW d 81 (32, L, v :: .ref h :: st, n, M) Q = (am_fit 3 v = true ∧ ∃ M', am_setf M h 5 4 v = some M' ∧ am_AW d 81 (35, L, st, n, M') Q) := am_AW_put rfl
theorem w81_35 {a1 a2 : Value} {x : Nat} {st : List Value} : am_AW d 81 (35, [.ref x, a1, a2], st, n, M) Q = (am_AW d 81 (36, [.ref x, a1, a2], .ref x :: st, n, M) Q) := am_AW_go rfl rfl rfl rfl
theorem w81_36 {L st : List Value} : am_AW d 81 (36, L, st, n, M) Q = (am_AW d 81 (37, L, .int (am_z 0) :: st, n, M) Q) := am_AW_go rfl rfl rfl rfl
theorem w81_37 {L st : List Value} {h : Nat} {v : Value} : am_AW d 81 (37, L, v :: .ref h :: st, n, M) Q = (am_fit 0 v = true ∧ ∃ M', am_setf M h 5 5 v = some M' ∧ am_AW d 81 (40, L, st, n, M') Q) := am_AW_put rfl
theorem w81_40 {a1 a2 : Value} {x : Nat} {st : List Value} : am_AW d 81 (40, [.ref x, a1, a2], st, n, M) Q = (am_AW d 81 (41, [.ref x, a1, a2], .ref x :: st, n, M) Q) := am_AW_go rfl rfl rfl rfl
theorem w81_41 {L st : List Value} : am_AW d 81 (41, L, st, n, M) Q = (am_AW d 81 (42, L, .int (am_z 0) :: st, n, M) Q) := am_AW_go rfl rfl rfl rfl
theorem w81_42 {L st : List Value} {h : Nat} {v : Value} : am_AW d 81 (42, L, v :: .ref h :: st, n, M) Q = (am_fit 0 v = true ∧ ∃ M', am_setf M h 5 6 v = some M' ∧ am_AW d 81 (45, L, st, n, M') Q) := am_AW_put rfl
theorem w81_45 {a1 a2 : Value} {x : Nat} {st : List Value} : am_AW d 81 (45, [.ref x, a1, a2], st, n, M) Q = (am_AW d 81 (46, [.ref x, a1, a2], .ref x :: st, n, M) Q) := am_AW_go rfl rfl rfl rfl
theorem w81_46 {L st : List Value} : am_AW d 81 (46, L, st, n, M) Q = (am_AW d 81 (47, L, .int (am_z 0) :: st, n, M) Q) := am_AW_go rfl rfl rfl rfl
theorem w81_47 {L st : List Value} {h : Nat} {v : Value} : am_AW d 81 (47, L, v :: .ref h :: st, n, M) Q = (am_fit 0 v = true ∧ ∃ M', am_setf M h 5 7 v = some M' ∧ am_AW d 81 (50, L, st, n, M') Q) := am_AW_put rfl
theorem w81_50 {a1 a2 : Value} {x : Nat} {st : List Value} : am_AW d 81 (50, [.ref x, a1, a2], st, n, M) Q = (am_AW d 81 (51, [.ref x, a1, a2], .ref x :: st, n, M) Q) := am_AW_go rfl rfl rfl rfl
theorem w81_51 {L st : List Value} : am_AW d 81 (51, L, st, n, M) Q = (am_AW d 81 (52, L, .int (am_z (-1)) :: st, n, M) Q) := am_AW_go rfl rfl rfl rfl
theorem w81_52 {L st : List Value} {h : Nat} {v : Value} : am_AW d 81 (52, L, v :: .ref h :: st, n, M) Q = (am_fit 0 v = true ∧ ∃ M', am_setf M h 5 8 v = some M' ∧ am_AW d 81 (55, L, st, n, M') Q) := am_AW_put rfl
theorem w81_55 {a1 a2 : Value} {x : Nat} {st : List Value} : am_AW d 81 (55, [.ref x, a1, a2], st, n, M) Q = (am_AW d 81 (56, [.ref x, a1, a2], .ref x :: st, n, M) Q) := am_AW_go rfl rfl rfl rfl
theorem w81_56 {L st : List Value} : am_AW d 81 (56, L, st, n, M) Q = (am_AW d 81 (57, L, .int (am_z 0) :: st, n, M) Q) := am_AW_go rfl rfl rfl rfl
theorem w81_57 {L st : List Value} {h : Nat} {v : Value} : am_AW d 81 (57, L, v :: .ref h :: st, n, M) Q = (am_fit 2 v = true ∧ ∃ M', am_setf M h 5 9 v = some M' ∧ am_AW d 81 (60, L, st, n, M') Q) := am_AW_put rfl
theorem w81_60 {a1 a2 : Value} {x : Nat} {st : List Value} : am_AW d 81 (60, [.ref x, a1, a2], st, n, M) Q = (am_AW d 81 (61, [.ref x, a1, a2], .ref x :: st, n, M) Q) := am_AW_go rfl rfl rfl rfl
theorem w81_61 {L st : List Value} : am_AW d 81 (61, L, st, n, M) Q = (am_AW d 81 (63, L, .int (am_z 100) :: st, n, M) Q) := am_AW_go rfl rfl rfl rfl
theorem w81_63 {L st : List Value} {N c s : Nat} {k : Int} (h0 : 0 ≤ k) (h1 : k ≤ 100000) (hN : N < 100000) : am_AW d 81 (63, L, .int (am_z k) :: st, (N, c, s, true), M) Q = am_AW d 81 (65, L, .ref N :: st, (N + 1, c + 1, s + k.toNat, true), am_up M N (am_I 1 k.toNat (fun _ => am_z 0))) Q := am_AW_newa (t := .char) (cc := am_I 1 k.toNat (fun _ => am_z 0)) rfl h0 h1 hN rfl rfl
theorem w81_65 {L st : List Value} {h : Nat} {v : Value} : am_AW d 81 (65, L, v :: .ref h :: st, n, M) Q = (am_fit 3 v = true ∧ ∃ M', am_setf M h 5 10 v = some M' ∧ am_AW d 81 (68, L, st, n, M') Q) := am_AW_put rfl
theorem w81_68 {a1 a2 : Value} {x : Nat} {st : List Value} : am_AW d 81 (68, [.ref x, a1, a2], st, n, M) Q = (am_AW d 81 (69, [.ref x, a1, a2], .ref x :: st, n, M) Q) := am_AW_go rfl rfl rfl rfl
theorem w81_69 {L st : List Value} : am_AW d 81 (69, L, st, n, M) Q = (am_AW d 81 (71, L, .int (am_z 100) :: st, n, M) Q) := am_AW_go rfl rfl rfl rfl
theorem w81_71 {L st : List Value} {N c s : Nat} {k : Int} (h0 : 0 ≤ k) (h1 : k ≤ 100000) (hN : N < 100000) : am_AW d 81 (71, L, .int (am_z k) :: st, (N, c, s, true), M) Q = am_AW d 81 (73, L, .ref N :: st, (N + 1, c + 1, s + k.toNat, true), am_up M N (am_I 1 k.toNat (fun _ => am_z 0))) Q := am_AW_newa (t := .char) (cc := am_I 1 k.toNat (fun _ => am_z 0)) rfl h0 h1 hN rfl rfl
theorem w81_73 {L st : List Value} {h : Nat} {v : Value} : am_AW d 81 (73, L, v :: .ref h :: st, n, M) Q = (am_fit 3 v = true ∧ ∃ M', am_setf M h 5 11 v = some M' ∧ am_AW d 81 (76, L, st, n, M') Q) := am_AW_put rfl
theorem w81_76 {a1 a2 : Value} {x : Nat} {st : List Value} : am_AW d 81 (76, [.ref x, a1, a2], st, n, M) Q = (am_AW d 81 (77, [.ref x, a1, a2], .ref x :: st, n, M) Q) := am_AW_go rfl rfl rfl rfl
theorem w81_77 {L st : List Value} : am_AW d 81 (77, L, st, n, M) Q = (am_AW d 81 (79, L, .int (am_z 100) :: st, n, M) Q) := am_AW_go rfl rfl rfl rfl
theorem w81_79 {L st : List Value} {N c s : Nat} {k : Int} (h0 : 0 ≤ k) (h1 : k ≤ 100000) (hN : N < 100000) : am_AW d 81 (79, L, .int (am_z k) :: st, (N, c, s, true), M) Q = am_AW d 81 (81, L, .ref N :: st, (N + 1, c + 1, s + k.toNat, true), am_up M N (am_I 0 k.toNat (fun _ => am_z 0))) Q := am_AW_newa (t := .int) (cc := am_I 0 k.toNat (fun _ => am_z 0)) rfl h0 h1 hN rfl rfl
theorem w81_81 {L st : List Value} {h : Nat} {v : Value} : am_AW d 81 (81, L, v :: .ref h :: st, n, M) Q = (am_fit 3 v = true ∧ ∃ M', am_setf M h 5 12 v = some M' ∧ am_AW d 81 (84, L, st, n, M') Q) := am_AW_put rfl
theorem w81_84 {a1 a2 : Value} {x : Nat} {st : List Value} : am_AW d 81 (84, [.ref x, a1, a2], st, n, M) Q = (am_AW d 81 (85, [.ref x, a1, a2], .ref x :: st, n, M) Q) := am_AW_go rfl rfl rfl rfl
theorem w81_85 {L st : List Value} : am_AW d 81 (85, L, st, n, M) Q = (am_AW d 81 (87, L, .int (am_z 100) :: st, n, M) Q) := am_AW_go rfl rfl rfl rfl
theorem w81_87 {L st : List Value} {N c s : Nat} {k : Int} (h0 : 0 ≤ k) (h1 : k ≤ 100000) (hN : N < 100000) : am_AW d 81 (87, L, .int (am_z k) :: st, (N, c, s, true), M) Q = am_AW d 81 (89, L, .ref N :: st, (N + 1, c + 1, s + k.toNat, true), am_up M N (am_I 0 k.toNat (fun _ => am_z 0))) Q := am_AW_newa (t := .int) (cc := am_I 0 k.toNat (fun _ => am_z 0)) rfl h0 h1 hN rfl rfl
theorem w81_89 {L st : List Value} {h : Nat} {v : Value} : am_AW d 81 (89, L, v :: .ref h :: st, n, M) Q = (am_fit 3 v = true ∧ ∃ M', am_setf M h 5 13 v = some M' ∧ am_AW d 81 (92, L, st, n, M') Q) := am_AW_put rfl
theorem w81_92 {a1 a2 : Value} {x : Nat} {st : List Value} : am_AW d 81 (92, [.ref x, a1, a2], st, n, M) Q = (am_AW d 81 (93, [.ref x, a1, a2], .ref x :: st, n, M) Q) := am_AW_go rfl rfl rfl rfl
theorem w81_93 {L st : List Value} : am_AW d 81 (93, L, st, n, M) Q = (am_AW d 81 (95, L, .int (am_z 100) :: st, n, M) Q) := am_AW_go rfl rfl rfl rfl
theorem w81_95 {L st : List Value} {N c s : Nat} {k : Int} (h0 : 0 ≤ k) (h1 : k ≤ 100000) (hN : N < 100000) : am_AW d 81 (95, L, .int (am_z k) :: st, (N, c, s, true), M) Q = am_AW d 81 (97, L, .ref N :: st, (N + 1, c + 1, s + k.toNat, true), am_up M N (am_I 0 k.toNat (fun _ => am_z 0))) Q := am_AW_newa (t := .int) (cc := am_I 0 k.toNat (fun _ => am_z 0)) rfl h0 h1 hN rfl rfl
theorem w81_97 {L st : List Value} {h : Nat} {v : Value} : am_AW d 81 (97, L, v :: .ref h :: st, n, M) Q = (am_fit 3 v = true ∧ ∃ M', am_setf M h 5 14 v = some M' ∧ am_AW d 81 (100, L, st, n, M') Q) := am_AW_put rfl
theorem w81_100 {a1 a2 : Value} {x : Nat} {st : List Value} : am_AW d 81 (100, [.ref x, a1, a2], st, n, M) Q = (am_AW d 81 (101, [.ref x, a1, a2], .ref x :: st, n, M) Q) := am_AW_go rfl rfl rfl rfl
theorem w81_101 {L st : List Value} : am_AW d 81 (101, L, st, n, M) Q = (am_AW d 81 (103, L, .int (am_z 100) :: st, n, M) Q) := am_AW_go rfl rfl rfl rfl
theorem w81_103 {L st : List Value} {N c s : Nat} {k : Int} (h0 : 0 ≤ k) (h1 : k ≤ 100000) (hN : N < 100000) : am_AW d 81 (103, L, .int (am_z k) :: st, (N, c, s, true), M) Q = am_AW d 81 (105, L, .ref N :: st, (N + 1, c + 1, s + k.toNat, true), am_up M N (am_I 0 k.toNat (fun _ => am_z 0))) Q := am_AW_newa (t := .int) (cc := am_I 0 k.toNat (fun _ => am_z 0)) rfl h0 h1 hN rfl rfl
theorem w81_105 {L st : List Value} {h : Nat} {v : Value} : am_AW d 81 (105, L, v :: .ref h :: st, n, M) Q = (am_fit 3 v = true ∧ ∃ M', am_setf M h 5 15 v = some M' ∧ am_AW d 81 (108, L, st, n, M') Q) := am_AW_put rfl
theorem w81_108 {a1 a2 : Value} {x : Nat} {st : List Value} : am_AW d 81 (108, [.ref x, a1, a2], st, n, M) Q = (am_AW d 81 (109, [.ref x, a1, a2], .ref x :: st, n, M) Q) := am_AW_go rfl rfl rfl rfl
theorem w81_109 {L st : List Value} : am_AW d 81 (109, L, st, n, M) Q = (am_AW d 81 (110, L, .int (am_z 0) :: st, n, M) Q) := am_AW_go rfl rfl rfl rfl
theorem w81_110 {L st : List Value} {h : Nat} {v : Value} : am_AW d 81 (110, L, v :: .ref h :: st, n, M) Q = (am_fit 0 v = true ∧ ∃ M', am_setf M h 5 16 v = some M' ∧ am_AW d 81 (113, L, st, n, M') Q) := am_AW_put rfl
theorem w81_113 {a1 a2 : Value} {x : Nat} {st : List Value} : am_AW d 81 (113, [.ref x, a1, a2], st, n, M) Q = (am_AW d 81 (114, [.ref x, a1, a2], .ref x :: st, n, M) Q) := am_AW_go rfl rfl rfl rfl
theorem w81_114 {a0 a2 : Value} {x : Nat} {st : List Value} : am_AW d 81 (114, [a0, .ref x, a2], st, n, M) Q = (am_AW d 81 (115, [a0, .ref x, a2], .ref x :: st, n, M) Q) := am_AW_go rfl rfl rfl rfl
theorem w81_115 {L st : List Value} {h : Nat} {v : Value} : am_AW d 81 (115, L, v :: .ref h :: st, n, M) Q = (am_fit 3 v = true ∧ ∃ M', am_setf M h 5 0 v = some M' ∧ am_AW d 81 (118, L, st, n, M') Q) := am_AW_put rfl
theorem w81_118 {a1 a2 : Value} {x : Nat} {st : List Value} : am_AW d 81 (118, [.ref x, a1, a2], st, n, M) Q = (am_AW d 81 (119, [.ref x, a1, a2], .ref x :: st, n, M) Q) := am_AW_go rfl rfl rfl rfl
theorem w81_119 {a0 a1 : Value} {x : Nat} {st : List Value} : am_AW d 81 (119, [a0, a1, .ref x], st, n, M) Q = (am_AW d 81 (120, [a0, a1, .ref x], .ref x :: st, n, M) Q) := am_AW_go rfl rfl rfl rfl
theorem w81_120 {L st : List Value} {h : Nat} {v : Value} : am_AW d 81 (120, L, v :: .ref h :: st, n, M) Q = (am_fit 3 v = true ∧ ∃ M', am_setf M h 5 1 v = some M' ∧ am_AW d 81 (123, L, st, n, M') Q) := am_AW_put rfl
theorem w81_123 {L : List Value} : am_AW d 81 (123, L, [], n, M) Q = (Q none n M) := am_AW_ret (rv := (none, n)) rfl rfl rfl (am_mono_self n)
end W81
section W101
variable {d : Nat} {n : am_N} {M : am_M} {Q : Option Value → am_N → am_M → Prop}
theorem w101_0 {a1 a2 : Value} {x : Nat} {st : List Value} : am_AW d 101 (0, [.ref x, a1, a2], st, n, M) Q = (am_AW d 101 (1, [.ref x, a1, a2], .ref x :: st, n, M) Q) := am_AW_go rfl rfl rfl rfl
theorem w101_1 {L st : List Value} {v0 : Value} : am_AW d 101 (1, L, v0 :: st, n, M) Q = (am_okA 1 (v0 :: st) = true ∧ am_isR [v0] = true ∧ am_Do d 2000 [v0] n M (am_then d 101 4 0 L st n Q)) := am_AW_ci (i := 3) (x := 2000) (y := 1) (z := 0) rfl
theorem w101_4 {a1 a2 : Value} {x : Nat} {st : List Value} : am_AW d 101 (4, [.ref x, a1, a2], st, n, M) Q = (am_AW d 101 (5, [.ref x, a1, a2], .ref x :: st, n, M) Q) := am_AW_go rfl rfl rfl rfl
theorem w101_5 {L st : List Value} {N c s : Nat} (hN : N < 100000) : am_AW d 101 (5, L, st, (N, c, s, true), M) Q = am_AW d 101 (8, L, .ref N :: st, (N + 1, c + 1, s + 3, true), am_up M N (am_O 0 [.null, .int (am_z 0), .int (am_z 0)])) Q := am_AW_new (i := 9) (x := 0) (y := 0) (z := 0) rfl (by omega) hN
theorem w101_8 {L st : List Value} {x : Nat} : am_AW d 101 (8, L, .ref x :: st, n, M) Q = (am_AW d 101 (9, L, .ref x :: .ref x :: st, n, M) Q) := am_AW_go rfl rfl rfl rfl
theorem w101_8i {L st : List Value} {x : Int32} : am_AW d 101 (8, L, .int x :: st, n, M) Q = (am_AW d 101 (9, L, .int x :: .int x :: st, n, M) Q) := am_AW_go rfl rfl rfl rfl
theorem w101_9 {L st : List Value} : am_AW d 101 (9, L, st, n, M) Q = (am_AW d 101 (11, L, .int (am_z 80) :: st, n, M) Q) := am_AW_go rfl rfl rfl rfl
theorem w101_11 {L st : List Value} {v0 v1 : Value} : am_AW d 101 (11, L, v0 :: v1 :: st, n, M) Q = (am_okA 2 (v0 :: v1 :: st) = true ∧ am_isR [v1, v0] = true ∧ am_Do d 108 [v1, v0] n M (am_then d 101 14 0 L st n Q)) := am_AW_ci (i := 11) (x := 108) (y := 2) (z := 0) rfl
theorem w101_14 {L st : List Value} {h : Nat} {v : Value} : am_AW d 101 (14, L, v :: .ref h :: st, n, M) Q = (am_fit 3 v = true ∧ ∃ M', am_setf M h 6 2 v = some M' ∧ am_AW d 101 (17, L, st, n, M') Q) := am_AW_put rfl
theorem w101_17 {a1 a2 : Value} {x : Nat} {st : List Value} : am_AW d 101 (17, [.ref x, a1, a2], st, n, M) Q = (am_AW d 101 (18, [.ref x, a1, a2], .ref x :: st, n, M) Q) := am_AW_go rfl rfl rfl rfl
theorem w101_18 {a0 a2 : Value} {x : Nat} {st : List Value} : am_AW d 101 (18, [a0, .ref x, a2], st, n, M) Q = (am_AW d 101 (19, [a0, .ref x, a2], .ref x :: st, n, M) Q) := am_AW_go rfl rfl rfl rfl
theorem w101_19 {L st : List Value} {h : Nat} {v : Value} : am_AW d 101 (19, L, v :: .ref h :: st, n, M) Q = (am_fit 3 v = true ∧ ∃ M', am_setf M h 6 0 v = some M' ∧ am_AW d 101 (22, L, st, n, M') Q) := am_AW_put rfl
theorem w101_22 {a1 a2 : Value} {x : Nat} {st : List Value} : am_AW d 101 (22, [.ref x, a1, a2], st, n, M) Q = (am_AW d 101 (23, [.ref x, a1, a2], .ref x :: st, n, M) Q) := am_AW_go rfl rfl rfl rfl
theorem w101_23 {a0 a1 : Value} {x : Nat} {st : List Value} : am_AW d 101 (23, [a0, a1, .ref x], st, n, M) Q = (am_AW d 101 (24, [a0, a1, .ref x], .ref x :: st, n, M) Q) := am_AW_go rfl rfl rfl rfl
theorem w101_24 {L st : List Value} {h : Nat} {v : Value} : am_AW d 101 (24, L, v :: .ref h :: st, n, M) Q = (am_fit 3 v = true ∧ ∃ M', am_setf M h 6 1 v = some M' ∧ am_AW d 101 (27, L, st, n, M') Q) := am_AW_put rfl
theorem w101_27 {L : List Value} : am_AW d 101 (27, L, [], n, M) Q = (Q none n M) := am_AW_ret (rv := (none, n)) rfl rfl rfl (am_mono_self n)
end W101
section W108
variable {d : Nat} {n : am_N} {M : am_M} {Q : Option Value → am_N → am_M → Prop}
theorem w108_0 {a1 : Value} {x : Nat} {st : List Value} : am_AW d 108 (0, [.ref x, a1], st, n, M) Q = (am_AW d 108 (1, [.ref x, a1], .ref x :: st, n, M) Q) := am_AW_go rfl rfl rfl rfl
theorem w108_1 {L st : List Value} {v0 : Value} : am_AW d 108 (1, L, v0 :: st, n, M) Q = (am_okA 1 (v0 :: st) = true ∧ am_isR [v0] = true ∧ am_Do d 2000 [v0] n M (am_then d 108 4 0 L st n Q)) := am_AW_ci (i := 3) (x := 2000) (y := 1) (z := 0) rfl
theorem w108_4 {a1 : Value} {x : Nat} {st : List Value} : am_AW d 108 (4, [.ref x, a1], st, n, M) Q = (am_AW d 108 (5, [.ref x, a1], .ref x :: st, n, M) Q) := am_AW_go rfl rfl rfl rfl
theorem w108_5 {L st : List Value} : am_AW d 108 (5, L, st, n, M) Q = (am_AW d 108 (6, L, .int (am_z 0) :: st, n, M) Q) := am_AW_go rfl rfl rfl rfl
theorem w108_6 {L st : List Value} {h : Nat} {v : Value} : am_AW d 108 (6, L, v :: .ref h :: st, n, M) Q = (am_fit 0 v = true ∧ ∃ M', am_setf M h 0 1 v = some M' ∧ am_AW d 108 (9, L, st, n, M') Q) := am_AW_put rfl
theorem w108_9 {a1 : Value} {x : Nat} {st : List Value} : am_AW d 108 (9, [.ref x, a1], st, n, M) Q = (am_AW d 108 (10, [.ref x, a1], .ref x :: st, n, M) Q) := am_AW_go rfl rfl rfl rfl
theorem w108_10 {L st : List Value} : am_AW d 108 (10, L, st, n, M) Q = (am_AW d 108 (11, L, .int (am_z 0) :: st, n, M) Q) := am_AW_go rfl rfl rfl rfl
theorem w108_11 {L st : List Value} {h : Nat} {v : Value} : am_AW d 108 (11, L, v :: .ref h :: st, n, M) Q = (am_fit 1 v = true ∧ ∃ M', am_setf M h 0 2 v = some M' ∧ am_AW d 108 (14, L, st, n, M') Q) := am_AW_put rfl
theorem w108_14 {a1 : Value} {x : Nat} {st : List Value} : am_AW d 108 (14, [.ref x, a1], st, n, M) Q = (am_AW d 108 (15, [.ref x, a1], .ref x :: st, n, M) Q) := am_AW_go rfl rfl rfl rfl
theorem w108_15 {a0 : Value} {x : Int32} {st : List Value} : am_AW d 108 (15, [a0, .int x], st, n, M) Q = (am_AW d 108 (16, [a0, .int x], .int x :: st, n, M) Q) := am_AW_go rfl rfl rfl rfl
theorem w108_16 {L st : List Value} {N c s : Nat} {k : Int} (h0 : 0 ≤ k) (h1 : k ≤ 100000) (hN : N < 100000) : am_AW d 108 (16, L, .int (am_z k) :: st, (N, c, s, true), M) Q = am_AW d 108 (18, L, .ref N :: st, (N + 1, c + 1, s + k.toNat, true), am_up M N (am_I 0 k.toNat (fun _ => am_z 0))) Q := am_AW_newa (t := .int) (cc := am_I 0 k.toNat (fun _ => am_z 0)) rfl h0 h1 hN rfl rfl
theorem w108_18 {L st : List Value} {h : Nat} {v : Value} : am_AW d 108 (18, L, v :: .ref h :: st, n, M) Q = (am_fit 3 v = true ∧ ∃ M', am_setf M h 0 0 v = some M' ∧ am_AW d 108 (21, L, st, n, M') Q) := am_AW_put rfl
theorem w108_21 {L : List Value} : am_AW d 108 (21, L, [], n, M) Q = (Q none n M) := am_AW_ret (rv := (none, n)) rfl rfl rfl (am_mono_self n)
end W108
section W119
variable {d : Nat} {n : am_N} {M : am_M} {Q : Option Value → am_N → am_M → Prop}
theorem w119_0 {a1 a2 a3 a4 a5 a6 : Value} {x : Nat} {st : List Value} : am_AW d 119 (0, [.ref x, a1, a2, a3, a4, a5, a6], st, n, M) Q = (am_AW d 119 (1, [.ref x, a1, a2, a3, a4, a5, a6], .ref x :: st, n, M) Q) := am_AW_go rfl rfl rfl rfl
theorem w119_1 {L st : List Value} {v0 : Value} : am_AW d 119 (1, L, v0 :: st, n, M) Q = (am_okA 1 (v0 :: st) = true ∧ am_isR [v0] = true ∧ am_Do d 2000 [v0] n M (am_then d 119 4 0 L st n Q)) := am_AW_ci (i := 3) (x := 2000) (y := 1) (z := 0) rfl
theorem w119_4 {a1 a2 a3 a4 a5 a6 : Value} {x : Nat} {st : List Value} : am_AW d 119 (4, [.ref x, a1, a2, a3, a4, a5, a6], st, n, M) Q = (am_AW d 119 (5, [.ref x, a1, a2, a3, a4, a5, a6], .ref x :: st, n, M) Q) := am_AW_go rfl rfl rfl rfl
theorem w119_5 {L st : List Value} : am_AW d 119 (5, L, st, n, M) Q = (am_AW d 119 (7, L, .int (am_z 54) :: st, n, M) Q) := am_AW_go rfl rfl rfl rfl
theorem w119_7 {L st : List Value} {N c s : Nat} {k : Int} (h0 : 0 ≤ k) (h1 : k ≤ 100000) (hN : N < 100000) : am_AW d 119 (7, L, .int (am_z k) :: st, (N, c, s, true), M) Q = am_AW d 119 (10, L, .ref N :: st, (N + 1, c + 1, s + k.toNat, true), am_up M N (am_R 4 k.toNat (fun _ => none))) Q := am_AW_anewa (i := 9) (x := 0) (y := 0) (z := 0) rfl h0 h1 hN
theorem w119_10 {L st : List Value} {h : Nat} {v : Value} : am_AW d 119 (10, L, v :: .ref h :: st, n, M) Q = (am_fit 3 v = true ∧ ∃ M', am_setf M h 7 6 v = some M' ∧ am_AW d 119 (13, L, st, n, M') Q) := am_AW_put rfl
theorem w119_13 {a1 a2 a3 a4 a5 a6 : Value} {x : Nat} {st : List Value} : am_AW d 119 (13, [.ref x, a1, a2, a3, a4, a5, a6], st, n, M) Q = (am_AW d 119 (14, [.ref x, a1, a2, a3, a4, a5, a6], .ref x :: st, n, M) Q) := am_AW_go rfl rfl rfl rfl
theorem w119_14 {L st : List Value} {N c s : Nat} (hN : N < 100000) : am_AW d 119 (14, L, st, (N, c, s, true), M) Q = am_AW d 119 (17, L, .ref N :: st, (N + 1, c + 1, s + 3, true), am_up M N (am_O 0 [.null, .int (am_z 0), .int (am_z 0)])) Q := am_AW_new (i := 9) (x := 0) (y := 0) (z := 0) rfl (by omega) hN
theorem w119_17 {L st : List Value} {x : Nat} : am_AW d 119 (17, L, .ref x :: st, n, M) Q = (am_AW d 119 (18, L, .ref x :: .ref x :: st, n, M) Q) := am_AW_go rfl rfl rfl rfl
theorem w119_17i {L st : List Value} {x : Int32} : am_AW d 119 (17, L, .int x :: st, n, M) Q = (am_AW d 119 (18, L, .int x :: .int x :: st, n, M) Q) := am_AW_go rfl rfl rfl rfl
theorem w119_18 {L st : List Value} : am_AW d 119 (18, L, st, n, M) Q = (am_AW d 119 (20, L, .int (am_z 80) :: st, n, M) Q) := am_AW_go rfl rfl rfl rfl
theorem w119_20 {L st : List Value} {v0 v1 : Value} : am_AW d 119 (20, L, v0 :: v1 :: st, n, M) Q = (am_okA 2 (v0 :: v1 :: st) = true ∧ am_isR [v1, v0] = true ∧ am_Do d 108 [v1, v0] n M (am_then d 119 23 0 L st n Q)) := am_AW_ci (i := 17) (x := 108) (y := 2) (z := 0) rfl
theorem w119_23 {L st : List Value} {h : Nat} {v : Value} : am_AW d 119 (23, L, v :: .ref h :: st, n, M) Q = (am_fit 3 v = true ∧ ∃ M', am_setf M h 7 7 v = some M' ∧ am_AW d 119 (26, L, st, n, M') Q) := am_AW_put rfl
theorem w119_26 {a1 a2 a3 a4 a5 a6 : Value} {x : Nat} {st : List Value} : am_AW d 119 (26, [.ref x, a1, a2, a3, a4, a5, a6], st, n, M) Q = (am_AW d 119 (27, [.ref x, a1, a2, a3, a4, a5, a6], .ref x :: st, n, M) Q) := am_AW_go rfl rfl rfl rfl
theorem w119_27 {L st : List Value} : am_AW d 119 (27, L, st, n, M) Q = (am_AW d 119 (29, L, .int (am_z 100) :: st, n, M) Q) := am_AW_go rfl rfl rfl rfl
theorem w119_29 {L st : List Value} {N c s : Nat} {k : Int} (h0 : 0 ≤ k) (h1 : k ≤ 100000) (hN : N < 100000) : am_AW d 119 (29, L, .int (am_z k) :: st, (N, c, s, true), M) Q = am_AW d 119 (31, L, .ref N :: st, (N + 1, c + 1, s + k.toNat, true), am_up M N (am_I 0 k.toNat (fun _ => am_z 0))) Q := am_AW_newa (t := .int) (cc := am_I 0 k.toNat (fun _ => am_z 0)) rfl h0 h1 hN rfl rfl
theorem w119_31 {L st : List Value} {h : Nat} {v : Value} : am_AW d 119 (31, L, v :: .ref h :: st, n, M) Q = (am_fit 3 v = true ∧ ∃ M', am_setf M h 7 8 v = some M' ∧ am_AW d 119 (34, L, st, n, M') Q) := am_AW_put rfl
theorem w119_34 {a1 a2 a3 a4 a5 a6 : Value} {x : Nat} {st : List Value} : am_AW d 119 (34, [.ref x, a1, a2, a3, a4, a5, a6], st, n, M) Q = (am_AW d 119 (35, [.ref x, a1, a2, a3, a4, a5, a6], .ref x :: st, n, M) Q) := am_AW_go rfl rfl rfl rfl
theorem w119_35 {L st : List Value} : am_AW d 119 (35, L, st, n, M) Q = (am_AW d 119 (36, L, .int (am_z 0) :: st, n, M) Q) := am_AW_go rfl rfl rfl rfl
theorem w119_36 {L st : List Value} {h : Nat} {v : Value} : am_AW d 119 (36, L, v :: .ref h :: st, n, M) Q = (am_fit 0 v = true ∧ ∃ M', am_setf M h 7 9 v = some M' ∧ am_AW d 119 (39, L, st, n, M') Q) := am_AW_put rfl
theorem w119_39 {a1 a2 a3 a4 a5 a6 : Value} {x : Nat} {st : List Value} : am_AW d 119 (39, [.ref x, a1, a2, a3, a4, a5, a6], st, n, M) Q = (am_AW d 119 (40, [.ref x, a1, a2, a3, a4, a5, a6], .ref x :: st, n, M) Q) := am_AW_go rfl rfl rfl rfl
theorem w119_40 {a0 a2 a3 a4 a5 a6 : Value} {x : Nat} {st : List Value} : am_AW d 119 (40, [a0, .ref x, a2, a3, a4, a5, a6], st, n, M) Q = (am_AW d 119 (41, [a0, .ref x, a2, a3, a4, a5, a6], .ref x :: st, n, M) Q) := am_AW_go rfl rfl rfl rfl
theorem w119_41 {L st : List Value} {h : Nat} {v : Value} : am_AW d 119 (41, L, v :: .ref h :: st, n, M) Q = (am_fit 3 v = true ∧ ∃ M', am_setf M h 7 0 v = some M' ∧ am_AW d 119 (44, L, st, n, M') Q) := am_AW_put rfl
theorem w119_44 {a1 a2 a3 a4 a5 a6 : Value} {x : Nat} {st : List Value} : am_AW d 119 (44, [.ref x, a1, a2, a3, a4, a5, a6], st, n, M) Q = (am_AW d 119 (45, [.ref x, a1, a2, a3, a4, a5, a6], .ref x :: st, n, M) Q) := am_AW_go rfl rfl rfl rfl
theorem w119_45 {a0 a2 a3 a4 a5 a6 : Value} {x : Nat} {st : List Value} : am_AW d 119 (45, [a0, .ref x, a2, a3, a4, a5, a6], st, n, M) Q = (am_AW d 119 (46, [a0, .ref x, a2, a3, a4, a5, a6], .ref x :: st, n, M) Q) := am_AW_go rfl rfl rfl rfl
theorem w119_46 {L st : List Value} {h : Nat} : am_AW d 119 (46, L, .ref h :: st, n, M) Q = (∃ v, am_fld M h 5 2 = some v ∧ am_AW d 119 (49, L, v :: st, n, M) Q) := am_AW_op (o := am_fld M h 5 2) (f := fun v => (49, L, v :: st, n, M)) rfl rfl (am_bm _ _) (fun _ => rfl)
theorem w119_49 {L st : List Value} {h : Nat} {v : Value} : am_AW d 119 (49, L, v :: .ref h :: st, n, M) Q = (am_fit 3 v = true ∧ ∃ M', am_setf M h 7 1 v = some M' ∧ am_AW d 119 (52, L, st, n, M') Q) := am_AW_put rfl
theorem w119_52 {a1 a2 a3 a4 a5 a6 : Value} {x : Nat} {st : List Value} : am_AW d 119 (52, [.ref x, a1, a2, a3, a4, a5, a6], st, n, M) Q = (am_AW d 119 (53, [.ref x, a1, a2, a3, a4, a5, a6], .ref x :: st, n, M) Q) := am_AW_go rfl rfl rfl rfl
theorem w119_53 {a0 a1 a3 a4 a5 a6 : Value} {x : Nat} {st : List Value} : am_AW d 119 (53, [a0, a1, .ref x, a3, a4, a5, a6], st, n, M) Q = (am_AW d 119 (54, [a0, a1, .ref x, a3, a4, a5, a6], .ref x :: st, n, M) Q) := am_AW_go rfl rfl rfl rfl
theorem w119_54 {L st : List Value} {h : Nat} {v : Value} : am_AW d 119 (54, L, v :: .ref h :: st, n, M) Q = (am_fit 3 v = true ∧ ∃ M', am_setf M h 7 2 v = some M' ∧ am_AW d 119 (57, L, st, n, M') Q) := am_AW_put rfl
theorem w119_57 {a1 a2 a3 a4 a5 a6 : Value} {x : Nat} {st : List Value} : am_AW d 119 (57, [.ref x, a1, a2, a3, a4, a5, a6], st, n, M) Q = (am_AW d 119 (58, [.ref x, a1, a2, a3, a4, a5, a6], .ref x :: st, n, M) Q) := am_AW_go rfl rfl rfl rfl
theorem w119_58 {a0 a1 a2 a4 a5 a6 : Value} {x : Nat} {st : List Value} : am_AW d 119 (58, [a0, a1, a2, .ref x, a4, a5, a6], st, n, M) Q = (am_AW d 119 (59, [a0, a1, a2, .ref x, a4, a5, a6], .ref x :: st, n, M) Q) := am_AW_go rfl rfl rfl rfl
theorem w119_59 {L st : List Value} {h : Nat} {v : Value} : am_AW d 119 (59, L, v :: .ref h :: st, n, M) Q = (am_fit 3 v = true ∧ ∃ M', am_setf M h 7 3 v = some M' ∧ am_AW d 119 (62, L, st, n, M') Q) := am_AW_put rfl
theorem w119_62 {a1 a2 a3 a4 a5 a6 : Value} {x : Nat} {st : List Value} : am_AW d 119 (62, [.ref x, a1, a2, a3, a4, a5, a6], st, n, M) Q = (am_AW d 119 (63, [.ref x, a1, a2, a3, a4, a5, a6], .ref x :: st, n, M) Q) := am_AW_go rfl rfl rfl rfl
theorem w119_63 {a0 a1 a2 a3 a5 a6 : Value} {x : Nat} {st : List Value} : am_AW d 119 (63, [a0, a1, a2, a3, .ref x, a5, a6], st, n, M) Q = (am_AW d 119 (65, [a0, a1, a2, a3, .ref x, a5, a6], .ref x :: st, n, M) Q) := am_AW_go rfl rfl rfl rfl
theorem w119_65 {L st : List Value} {h : Nat} {v : Value} : am_AW d 119 (65, L, v :: .ref h :: st, n, M) Q = (am_fit 3 v = true ∧ ∃ M', am_setf M h 7 4 v = some M' ∧ am_AW d 119 (68, L, st, n, M') Q) := am_AW_put rfl
theorem w119_68 {a1 a2 a3 a4 a5 a6 : Value} {x : Nat} {st : List Value} : am_AW d 119 (68, [.ref x, a1, a2, a3, a4, a5, a6], st, n, M) Q = (am_AW d 119 (69, [.ref x, a1, a2, a3, a4, a5, a6], .ref x :: st, n, M) Q) := am_AW_go rfl rfl rfl rfl
theorem w119_69 {a0 a1 a2 a3 a4 a6 : Value} {x : Nat} {st : List Value} : am_AW d 119 (69, [a0, a1, a2, a3, a4, .ref x, a6], st, n, M) Q = (am_AW d 119 (71, [a0, a1, a2, a3, a4, .ref x, a6], .ref x :: st, n, M) Q) := am_AW_go rfl rfl rfl rfl
theorem w119_71 {L st : List Value} {h : Nat} {v : Value} : am_AW d 119 (71, L, v :: .ref h :: st, n, M) Q = (am_fit 3 v = true ∧ ∃ M', am_setf M h 7 5 v = some M' ∧ am_AW d 119 (74, L, st, n, M') Q) := am_AW_put rfl
theorem w119_74 {L st : List Value} : am_AW d 119 (74, L, st, n, M) Q = (am_AW d 119 (75, L, .int (am_z 0) :: st, n, M) Q) := am_AW_go rfl rfl rfl rfl
theorem w119_75 {a0 a1 a2 a3 a4 a5 a6 : Value} {x : Int32} {st : List Value} : am_AW d 119 (75, [a0, a1, a2, a3, a4, a5, a6], .int x :: st, n, M) Q = (am_AW d 119 (77, [a0, a1, a2, a3, a4, a5, .int x], st, n, M) Q) := am_AW_go rfl rfl rfl rfl
theorem w119_77 {a0 a1 a2 a3 a4 a5 : Value} {x : Int32} {st : List Value} : am_AW d 119 (77, [a0, a1, a2, a3, a4, a5, .int x], st, n, M) Q = (am_AW d 119 (79, [a0, a1, a2, a3, a4, a5, .int x], .int x :: st, n, M) Q) := am_AW_go rfl rfl rfl rfl
theorem w119_79 {L st : List Value} : am_AW d 119 (79, L, st, n, M) Q = (am_AW d 119 (81, L, .int (am_z 54) :: st, n, M) Q) := am_AW_go rfl rfl rfl rfl
theorem w119_81 {L st : List Value} {x y : Int32} : am_AW d 119 (81, L, .int y :: .int x :: st, n, M) Q = (if x < y then am_AW d 119 (84, L, st, n, M) Q else am_AW d 119 (106, L, st, n, M) Q) := (am_AW_icmp rfl).trans am_ite_ge
theorem w119_84 {a1 a2 a3 a4 a5 a6 : Value} {x : Nat} {st : List Value} : am_AW d 119 (84, [.ref x, a1, a2, a3, a4, a5, a6], st, n, M) Q = (am_AW d 119 (85, [.ref x, a1, a2, a3, a4, a5, a6], .ref x :: st, n, M) Q) := am_AW_go rfl rfl rfl rfl
theorem w119_85 {L st : List Value} {h : Nat} : am_AW d 119 (85, L, .ref h :: st, n, M) Q = (∃ v, am_fld M h 7 6 = some v ∧ am_AW d 119 (88, L, v :: st, n, M) Q) := am_AW_op (o := am_fld M h 7 6) (f := fun v => (88, L, v :: st, n, M)) rfl rfl (am_bm _ _) (fun _ => rfl)
theorem w119_88 {a0 a1 a2 a3 a4 a5 : Value} {x : Int32} {st : List Value} : am_AW d 119 (88, [a0, a1, a2, a3, a4, a5, .int x], st, n, M) Q = (am_AW d 119 (90, [a0, a1, a2, a3, a4, a5, .int x], .int x :: st, n, M) Q) := am_AW_go rfl rfl rfl rfl
theorem w119_90 {L st : List Value} {N c s : Nat} (hN : N < 100000) : am_AW d 119 (90, L, st, (N, c, s, true), M) Q = am_AW d 119 (93, L, .ref N :: st, (N + 1, c + 1, s + 3, true), am_up M N (am_O 0 [.null, .int (am_z 0), .int (am_z 0)])) Q := am_AW_new (i := 9) (x := 0) (y := 0) (z := 0) rfl (by omega) hN
theorem w119_93 {L st : List Value} {x : Nat} : am_AW d 119 (93, L, .ref x :: st, n, M) Q = (am_AW d 119 (94, L, .ref x :: .ref x :: st, n, M) Q) := am_AW_go rfl rfl rfl rfl
theorem w119_93i {L st : List Value} {x : Int32} : am_AW d 119 (93, L, .int x :: st, n, M) Q = (am_AW d 119 (94, L, .int x :: .int x :: st, n, M) Q) := am_AW_go rfl rfl rfl rfl
theorem w119_94 {L st : List Value} : am_AW d 119 (94, L, st, n, M) Q = (am_AW d 119 (96, L, .int (am_z 80) :: st, n, M) Q) := am_AW_go rfl rfl rfl rfl
theorem w119_96 {L st : List Value} {v0 v1 : Value} : am_AW d 119 (96, L, v0 :: v1 :: st, n, M) Q = (am_okA 2 (v0 :: v1 :: st) = true ∧ am_isR [v1, v0] = true ∧ am_Do d 108 [v1, v0] n M (am_then d 119 99 0 L st n Q)) := am_AW_ci (i := 17) (x := 108) (y := 2) (z := 0) rfl
theorem w119_99 {L st : List Value} {h v : Nat} {i : Int32} : am_AW d 119 (99, L, .ref v :: .int i :: .ref h :: st, n, M) Q = (∃ M', am_aast M h i v = some M' ∧ am_AW d 119 (100, L, st, n, M') Q) := am_AW_op (o := am_aast M h i v) (f := fun M' => (100, L, st, n, M')) rfl rfl rfl (fun _ => rfl)
theorem w119_100 {a0 a1 a2 a3 a4 a5 : Value} {x : Int32} {st : List Value} : am_AW d 119 (100, [a0, a1, a2, a3, a4, a5, .int x], st, n, M) Q = (am_AW d 119 (103, [a0, a1, a2, a3, a4, a5, .int (x + (am_z 1))], st, n, M) Q) := am_AW_go rfl rfl rfl rfl
theorem w119_103 {L st : List Value} : am_AW d 119 (103, L, st, n, M) Q = (am_AW d 119 (77, L, st, n, M) Q) := am_AW_go rfl rfl rfl rfl
theorem w119_106 {L : List Value} : am_AW d 119 (106, L, [], n, M) Q = (Q none n M) := am_AW_ret (rv := (none, n)) rfl rfl rfl (am_mono_self n)
end W119
section W132
variable {d : Nat} {n : am_N} {M : am_M} {Q : Option Value → am_N → am_M → Prop}
theorem w132_0 {x : Nat} {st : List Value} : am_AW d 132 (0, [.ref x], st, n, M) Q = (am_AW d 132 (1, [.ref x], .ref x :: st, n, M) Q) := am_AW_go rfl rfl rfl rfl
theorem w132_1 {L st : List Value} {v0 : Value} : am_AW d 132 (1, L, v0 :: st, n, M) Q = (am_okA 1 (v0 :: st) = true ∧ am_isR [v0] = true ∧ am_Do d 2000 [v0] n M (am_then d 132 4 0 L st n Q)) := am_AW_ci (i := 3) (x := 2000) (y := 1) (z := 0) rfl
theorem w132_4 {x : Nat} {st : List Value} : am_AW d 132 (4, [.ref x], st, n, M) Q = (am_AW d 132 (5, [.ref x], .ref x :: st, n, M) Q) := am_AW_go rfl rfl rfl rfl
theorem w132_5 {L st : List Value} : am_AW d 132 (5, L, st, n, M) Q = (am_AW d 132 (8, L, .int (am_z 202) :: st, n, M) Q) := am_AW_go rfl rfl rfl rfl
theorem w132_8 {L st : List Value} {N c s : Nat} {k : Int} (h0 : 0 ≤ k) (h1 : k ≤ 100000) (hN : N < 100000) : am_AW d 132 (8, L, .int (am_z k) :: st, (N, c, s, true), M) Q = am_AW d 132 (10, L, .ref N :: st, (N + 1, c + 1, s + k.toNat, true), am_up M N (am_I 0 k.toNat (fun _ => am_z 0))) Q := am_AW_newa (t := .int) (cc := am_I 0 k.toNat (fun _ => am_z 0)) rfl h0 h1 hN rfl rfl
theorem w132_10 {L st : List Value} {h : Nat} {v : Value} : am_AW d 132 (10, L, v :: .ref h :: st, n, M) Q = (am_fit 3 v = true ∧ ∃ M', am_setf M h 1 0 v = some M' ∧ am_AW d 132 (13, L, st, n, M') Q) := am_AW_put rfl
theorem w132_13 {x : Nat} {st : List Value} : am_AW d 132 (13, [.ref x], st, n, M) Q = (am_AW d 132 (14, [.ref x], .ref x :: st, n, M) Q) := am_AW_go rfl rfl rfl rfl
theorem w132_14 {L st : List Value} : am_AW d 132 (14, L, st, n, M) Q = (am_AW d 132 (15, L, .int (am_z 0) :: st, n, M) Q) := am_AW_go rfl rfl rfl rfl
theorem w132_15 {L st : List Value} {h : Nat} {v : Value} : am_AW d 132 (15, L, v :: .ref h :: st, n, M) Q = (am_fit 0 v = true ∧ ∃ M', am_setf M h 1 1 v = some M' ∧ am_AW d 132 (18, L, st, n, M') Q) := am_AW_put rfl
theorem w132_18 {x : Nat} {st : List Value} : am_AW d 132 (18, [.ref x], st, n, M) Q = (am_AW d 132 (19, [.ref x], .ref x :: st, n, M) Q) := am_AW_go rfl rfl rfl rfl
theorem w132_19 {L st : List Value} : am_AW d 132 (19, L, st, n, M) Q = (am_AW d 132 (20, L, .int (am_z 0) :: st, n, M) Q) := am_AW_go rfl rfl rfl rfl
theorem w132_20 {L st : List Value} {h : Nat} {v : Value} : am_AW d 132 (20, L, v :: .ref h :: st, n, M) Q = (am_fit 0 v = true ∧ ∃ M', am_setf M h 1 2 v = some M' ∧ am_AW d 132 (23, L, st, n, M') Q) := am_AW_put rfl
theorem w132_23 {L : List Value} : am_AW d 132 (23, L, [], n, M) Q = (Q none n M) := am_AW_ret (rv := (none, n)) rfl rfl rfl (am_mono_self n)
end W132
section W136
variable {d : Nat} {n : am_N} {M : am_M} {Q : Option Value → am_N → am_M → Prop}
theorem w136_0 {x : Nat} {st : List Value} : am_AW d 136 (0, [.ref x], st, n, M) Q = (am_AW d 136 (1, [.ref x], .ref x :: st, n, M) Q) := am_AW_go rfl rfl rfl rfl
theorem w136_1 {L st : List Value} {v0 : Value} : am_AW d 136 (1, L, v0 :: st, n, M) Q = (am_okA 1 (v0 :: st) = true ∧ am_isR [v0] = true ∧ am_Do d 2000 [v0] n M (am_then d 136 4 0 L st n Q)) := am_AW_ci (i := 3) (x := 2000) (y := 1) (z := 0) rfl
theorem w136_4 {x : Nat} {st : List Value} : am_AW d 136 (4, [.ref x], st, n, M) Q = (am_AW d 136 (5, [.ref x], .ref x :: st, n, M) Q) := am_AW_go rfl rfl rfl rfl
theorem w136_5 {L st : List Value} : am_AW d 136 (5, L, st, n, M) Q = (am_AW d 136 (8, L, .int (am_z 480) :: st, n, M) Q) := am_AW_go rfl rfl rfl rfl
theorem w136_8 {L st : List Value} {N c s : Nat} {k : Int} (h0 : 0 ≤ k) (h1 : k ≤ 100000) (hN : N < 100000) : am_AW d 136 (8, L, .int (am_z k) :: st, (N, c, s, true), M) Q = am_AW d 136 (10, L, .ref N :: st, (N + 1, c + 1, s + k.toNat, true), am_up M N (am_I 1 k.toNat (fun _ => am_z 0))) Q := am_AW_newa (t := .char) (cc := am_I 1 k.toNat (fun _ => am_z 0)) rfl h0 h1 hN rfl rfl
theorem w136_10 {L st : List Value} {h : Nat} {v : Value} : am_AW d 136 (10, L, v :: .ref h :: st, n, M) Q = (am_fit 3 v = true ∧ ∃ M', am_setf M h 8 0 v = some M' ∧ am_AW d 136 (13, L, st, n, M') Q) := am_AW_put rfl
theorem w136_13 {x : Nat} {st : List Value} : am_AW d 136 (13, [.ref x], st, n, M) Q = (am_AW d 136 (14, [.ref x], .ref x :: st, n, M) Q) := am_AW_go rfl rfl rfl rfl
theorem w136_14 {L st : List Value} : am_AW d 136 (14, L, st, n, M) Q = (am_AW d 136 (15, L, .int (am_z 0) :: st, n, M) Q) := am_AW_go rfl rfl rfl rfl
theorem w136_15 {L st : List Value} {h : Nat} {v : Value} : am_AW d 136 (15, L, v :: .ref h :: st, n, M) Q = (am_fit 0 v = true ∧ ∃ M', am_setf M h 8 1 v = some M' ∧ am_AW d 136 (18, L, st, n, M') Q) := am_AW_put rfl
theorem w136_18 {x : Nat} {st : List Value} : am_AW d 136 (18, [.ref x], st, n, M) Q = (am_AW d 136 (19, [.ref x], .ref x :: st, n, M) Q) := am_AW_go rfl rfl rfl rfl
theorem w136_19 {L st : List Value} : am_AW d 136 (19, L, st, n, M) Q = (am_AW d 136 (20, L, .int (am_z 0) :: st, n, M) Q) := am_AW_go rfl rfl rfl rfl
theorem w136_20 {L st : List Value} {h : Nat} {v : Value} : am_AW d 136 (20, L, v :: .ref h :: st, n, M) Q = (am_fit 0 v = true ∧ ∃ M', am_setf M h 8 2 v = some M' ∧ am_AW d 136 (23, L, st, n, M') Q) := am_AW_put rfl
theorem w136_23 {x : Nat} {st : List Value} : am_AW d 136 (23, [.ref x], st, n, M) Q = (am_AW d 136 (24, [.ref x], .ref x :: st, n, M) Q) := am_AW_go rfl rfl rfl rfl
theorem w136_24 {L st : List Value} {N c s : Nat} (hN : N < 100000) : am_AW d 136 (24, L, st, (N, c, s, true), M) Q = am_AW d 136 (27, L, .ref N :: st, (N + 1, c + 1, s + 3, true), am_up M N (am_O 1 [.null, .int (am_z 0), .int (am_z 0)])) Q := am_AW_new (i := 22) (x := 1) (y := 0) (z := 0) rfl (by omega) hN
theorem w136_27 {L st : List Value} {x : Nat} : am_AW d 136 (27, L, .ref x :: st, n, M) Q = (am_AW d 136 (28, L, .ref x :: .ref x :: st, n, M) Q) := am_AW_go rfl rfl rfl rfl
theorem w136_27i {L st : List Value} {x : Int32} : am_AW d 136 (27, L, .int x :: st, n, M) Q = (am_AW d 136 (28, L, .int x :: .int x :: st, n, M) Q) := am_AW_go rfl rfl rfl rfl
theorem w136_28 {L st : List Value} {v0 : Value} : am_AW d 136 (28, L, v0 :: st, n, M) Q = (am_okA 1 (v0 :: st) = true ∧ am_isR [v0] = true ∧ am_Do d 132 [v0] n M (am_then d 136 31 0 L st n Q)) := am_AW_ci (i := 24) (x := 132) (y := 1) (z := 0) rfl
theorem w136_31 {L st : List Value} {h : Nat} {v : Value} : am_AW d 136 (31, L, v :: .ref h :: st, n, M) Q = (am_fit 3 v = true ∧ ∃ M', am_setf M h 8 3 v = some M' ∧ am_AW d 136 (34, L, st, n, M') Q) := am_AW_put rfl
theorem w136_34 {L : List Value} : am_AW d 136 (34, L, [], n, M) Q = (Q none n M) := am_AW_ret (rv := (none, n)) rfl rfl rfl (am_mono_self n)
end W136
