section W73
variable {d : Nat} {n : am_N} {M : am_M} {Q : Option Value → am_N → am_M → Prop}
theorem w73_0 {a0 a2 a3 a4 a5 a6 : Value} {x : Nat} {st : List Value} : am_AW d 73 (0, [a0, .ref x, a2, a3, a4, a5, a6], st, n, M) Q = (am_AW d 73 (1, [a0, .ref x, a2, a3, a4, a5, a6], .ref x :: st, n, M) Q) := am_AW_go rfl rfl rfl rfl
theorem w73_1 {L st : List Value} {h : Nat} : am_AW d 73 (1, L, .ref h :: st, n, M) Q = (∃ v, am_fld M h 0 2 = some v ∧ am_AW d 73 (4, L, v :: st, n, M) Q) := am_AW_op (o := am_fld M h 0 2) (f := fun v => (4, L, v :: st, n, M)) rfl rfl (am_bm _ _) (fun _ => rfl)
theorem w73_4 {L st : List Value} {x : Int32} : am_AW d 73 (4, L, .int x :: st, n, M) Q = (if x = am_z 0 then am_AW d 73 (14, L, st, n, M) Q else am_AW d 73 (7, L, st, n, M) Q) := (am_AW_ifz rfl).trans am_ite_eq
theorem w73_7 {a0 a1 a2 a3 a5 a6 : Value} {x : Nat} {st : List Value} : am_AW d 73 (7, [a0, a1, a2, a3, .ref x, a5, a6], st, n, M) Q = (am_AW d 73 (9, [a0, a1, a2, a3, .ref x, a5, a6], .ref x :: st, n, M) Q) := am_AW_go rfl rfl rfl rfl
theorem w73_9 {L st : List Value} : am_AW d 73 (9, L, st, n, M) Q = (am_AW d 73 (10, L, .int (am_z 1) :: st, n, M) Q) := am_AW_go rfl rfl rfl rfl
theorem w73_10 {L st : List Value} {h : Nat} {v : Value} : am_AW d 73 (10, L, v :: .ref h :: st, n, M) Q = (am_fit 1 v = true ∧ ∃ M', am_setf M h 0 2 v = some M' ∧ am_AW d 73 (13, L, st, n, M') Q) := am_AW_put rfl
theorem w73_13 {L : List Value} : am_AW d 73 (13, L, [], n, M) Q = (Q none n M) := am_AW_ret (rv := (none, n)) rfl rfl rfl (am_mono_self n)
theorem w73_14 {a1 a2 a3 a4 a5 a6 : Value} {x : Nat} {st : List Value} : am_AW d 73 (14, [.ref x, a1, a2, a3, a4, a5, a6], st, n, M) Q = (am_AW d 73 (15, [.ref x, a1, a2, a3, a4, a5, a6], .ref x :: st, n, M) Q) := am_AW_go rfl rfl rfl rfl
theorem w73_15 {L st : List Value} {h : Nat} : am_AW d 73 (15, L, .ref h :: st, n, M) Q = (∃ v, am_fld M h 4 0 = some v ∧ am_AW d 73 (18, L, v :: st, n, M) Q) := am_AW_op (o := am_fld M h 4 0) (f := fun v => (18, L, v :: st, n, M)) rfl rfl (am_bm _ _) (fun _ => rfl)
theorem w73_18 {L st : List Value} {v0 : Value} : am_AW d 73 (18, L, v0 :: st, n, M) Q = (am_okA 1 (v0 :: st) = true ∧ am_isO M [v0] 1 = true ∧ am_Do d 133 [v0] n M (am_then d 73 21 0 L st n Q)) := am_AW_cv (i := 27) (x := 133) (y := 101) (z := 0) rfl
theorem w73_21 {a0 a1 a3 a4 a5 a6 : Value} {x : Int32} {st : List Value} : am_AW d 73 (21, [a0, a1, .int x, a3, a4, a5, a6], st, n, M) Q = (am_AW d 73 (22, [a0, a1, .int x, a3, a4, a5, a6], .int x :: st, n, M) Q) := am_AW_go rfl rfl rfl rfl
theorem w73_22 {a0 a1 a2 a3 a4 a5 a6 : Value} {x : Int32} {st : List Value} : am_AW d 73 (22, [a0, a1, a2, a3, a4, a5, a6], .int x :: st, n, M) Q = (am_AW d 73 (24, [a0, a1, a2, a3, a4, .int x, a6], st, n, M) Q) := am_AW_go rfl rfl rfl rfl
theorem w73_24 {a0 a1 a2 a3 a4 a6 : Value} {x : Int32} {st : List Value} : am_AW d 73 (24, [a0, a1, a2, a3, a4, .int x, a6], st, n, M) Q = (am_AW d 73 (26, [a0, a1, a2, a3, a4, .int x, a6], .int x :: st, n, M) Q) := am_AW_go rfl rfl rfl rfl
theorem w73_26 {a0 a2 a3 a4 a5 a6 : Value} {x : Nat} {st : List Value} : am_AW d 73 (26, [a0, .ref x, a2, a3, a4, a5, a6], st, n, M) Q = (am_AW d 73 (27, [a0, .ref x, a2, a3, a4, a5, a6], .ref x :: st, n, M) Q) := am_AW_go rfl rfl rfl rfl
theorem w73_27 {L st : List Value} {h : Nat} : am_AW d 73 (27, L, .ref h :: st, n, M) Q = (∃ v, am_fld M h 0 1 = some v ∧ am_AW d 73 (30, L, v :: st, n, M) Q) := am_AW_op (o := am_fld M h 0 1) (f := fun v => (30, L, v :: st, n, M)) rfl rfl (am_bm _ _) (fun _ => rfl)
theorem w73_30 {L st : List Value} {x y : Int32} : am_AW d 73 (30, L, .int y :: .int x :: st, n, M) Q = (if x < y then am_AW d 73 (33, L, st, n, M) Q else am_AW d 73 (137, L, st, n, M) Q) := (am_AW_icmp rfl).trans am_ite_ge
theorem w73_33 {a1 a2 a3 a4 a5 a6 : Value} {x : Nat} {st : List Value} : am_AW d 73 (33, [.ref x, a1, a2, a3, a4, a5, a6], st, n, M) Q = (am_AW d 73 (34, [.ref x, a1, a2, a3, a4, a5, a6], .ref x :: st, n, M) Q) := am_AW_go rfl rfl rfl rfl
theorem w73_34 {L st : List Value} {h : Nat} : am_AW d 73 (34, L, .ref h :: st, n, M) Q = (∃ v, am_fld M h 4 0 = some v ∧ am_AW d 73 (37, L, v :: st, n, M) Q) := am_AW_op (o := am_fld M h 4 0) (f := fun v => (37, L, v :: st, n, M)) rfl rfl (am_bm _ _) (fun _ => rfl)
theorem w73_37 {L st : List Value} {v0 : Value} : am_AW d 73 (37, L, v0 :: st, n, M) Q = (am_okA 1 (v0 :: st) = true ∧ am_isO M [v0] 1 = true ∧ am_Do d 134 [v0] n M (am_then d 73 40 0 L st n Q)) := am_AW_cv (i := 34) (x := 134) (y := 101) (z := 0) rfl
theorem w73_40 {L st : List Value} {x : Int32} : am_AW d 73 (40, L, .int x :: st, n, M) Q = (if x = am_z 0 then am_AW d 73 (137, L, st, n, M) Q else am_AW d 73 (43, L, st, n, M) Q) := (am_AW_ifz rfl).trans am_ite_eq
theorem w73_43 {a0 a1 a2 a3 a5 a6 : Value} {x : Nat} {st : List Value} : am_AW d 73 (43, [a0, a1, a2, a3, .ref x, a5, a6], st, n, M) Q = (am_AW d 73 (45, [a0, a1, a2, a3, .ref x, a5, a6], .ref x :: st, n, M) Q) := am_AW_go rfl rfl rfl rfl
theorem w73_45 {L st : List Value} {h : Nat} : am_AW d 73 (45, L, .ref h :: st, n, M) Q = (∃ v, am_fld M h 0 2 = some v ∧ am_AW d 73 (48, L, v :: st, n, M) Q) := am_AW_op (o := am_fld M h 0 2) (f := fun v => (48, L, v :: st, n, M)) rfl rfl (am_bm _ _) (fun _ => rfl)
theorem w73_48 {L st : List Value} {x : Int32} : am_AW d 73 (48, L, .int x :: st, n, M) Q = (if x = am_z 0 then am_AW d 73 (51, L, st, n, M) Q else am_AW d 73 (137, L, st, n, M) Q) := (am_AW_ifz rfl).trans am_ite_ne
theorem w73_51 {a0 a2 a3 a4 a5 a6 : Value} {x : Nat} {st : List Value} : am_AW d 73 (51, [a0, .ref x, a2, a3, a4, a5, a6], st, n, M) Q = (am_AW d 73 (52, [a0, .ref x, a2, a3, a4, a5, a6], .ref x :: st, n, M) Q) := am_AW_go rfl rfl rfl rfl
theorem w73_52 {a0 a1 a2 a3 a4 a6 : Value} {x : Int32} {st : List Value} : am_AW d 73 (52, [a0, a1, a2, a3, a4, .int x, a6], st, n, M) Q = (am_AW d 73 (54, [a0, a1, a2, a3, a4, .int x, a6], .int x :: st, n, M) Q) := am_AW_go rfl rfl rfl rfl
theorem w73_54 {L st : List Value} {v0 v1 : Value} : am_AW d 73 (54, L, v0 :: v1 :: st, n, M) Q = (am_okA 2 (v0 :: v1 :: st) = true ∧ am_isO M [v1, v0] 0 = true ∧ am_Do d 114 [v1, v0] n M (am_then d 73 57 0 L st n Q)) := am_AW_cv (i := 38) (x := 114) (y := 2) (z := 0) rfl
theorem w73_57 {a0 a1 a2 a3 a4 a5 a6 : Value} {x : Int32} {st : List Value} : am_AW d 73 (57, [a0, a1, a2, a3, a4, a5, a6], .int x :: st, n, M) Q = (am_AW d 73 (59, [a0, a1, a2, a3, a4, a5, .int x], st, n, M) Q) := am_AW_go rfl rfl rfl rfl
theorem w73_59 {a1 a2 a3 a4 a5 a6 : Value} {x : Nat} {st : List Value} : am_AW d 73 (59, [.ref x, a1, a2, a3, a4, a5, a6], st, n, M) Q = (am_AW d 73 (60, [.ref x, a1, a2, a3, a4, a5, a6], .ref x :: st, n, M) Q) := am_AW_go rfl rfl rfl rfl
theorem w73_60 {L st : List Value} {h : Nat} : am_AW d 73 (60, L, .ref h :: st, n, M) Q = (∃ v, am_fld M h 4 0 = some v ∧ am_AW d 73 (63, L, v :: st, n, M) Q) := am_AW_op (o := am_fld M h 4 0) (f := fun v => (63, L, v :: st, n, M)) rfl rfl (am_bm _ _) (fun _ => rfl)
theorem w73_63 {a0 a1 a2 a3 a4 a5 : Value} {x : Int32} {st : List Value} : am_AW d 73 (63, [a0, a1, a2, a3, a4, a5, .int x], st, n, M) Q = (am_AW d 73 (65, [a0, a1, a2, a3, a4, a5, .int x], .int x :: st, n, M) Q) := am_AW_go rfl rfl rfl rfl
theorem w73_65 {L st : List Value} {v0 v1 : Value} : am_AW d 73 (65, L, v0 :: v1 :: st, n, M) Q = (am_okA 2 (v0 :: v1 :: st) = true ∧ am_isO M [v1, v0] 1 = true ∧ am_Do d 135 [v1, v0] n M (am_then d 73 68 0 L st n Q)) := am_AW_cv (i := 42) (x := 135) (y := 102) (z := 0) rfl
theorem w73_68 {a0 a1 a2 a3 a4 a5 : Value} {x : Int32} {st : List Value} : am_AW d 73 (68, [a0, a1, a2, a3, a4, a5, .int x], st, n, M) Q = (am_AW d 73 (70, [a0, a1, a2, a3, a4, a5, .int x], .int x :: st, n, M) Q) := am_AW_go rfl rfl rfl rfl
theorem w73_70 {L st : List Value} {v0 : Value} : am_AW d 73 (70, L, v0 :: st, n, M) Q = (am_okA 1 (v0 :: st) = true ∧ am_Do d 16 [v0] n M (am_then d 73 73 0 L st n Q)) := am_AW_cs (i := 46) (x := 16) (y := 1) (z := 0) rfl
theorem w73_73 {L st : List Value} {x : Int32} : am_AW d 73 (73, L, .int x :: st, n, M) Q = (if x = am_z 0 then am_AW d 73 (89, L, st, n, M) Q else am_AW d 73 (76, L, st, n, M) Q) := (am_AW_ifz rfl).trans am_ite_eq
theorem w73_76 {a0 a1 a2 a3 a5 a6 : Value} {x : Nat} {st : List Value} : am_AW d 73 (76, [a0, a1, a2, a3, .ref x, a5, a6], st, n, M) Q = (am_AW d 73 (78, [a0, a1, a2, a3, .ref x, a5, a6], .ref x :: st, n, M) Q) := am_AW_go rfl rfl rfl rfl
theorem w73_78 {a0 a1 a2 a3 a4 a5 : Value} {x : Int32} {st : List Value} : am_AW d 73 (78, [a0, a1, a2, a3, a4, a5, .int x], st, n, M) Q = (am_AW d 73 (80, [a0, a1, a2, a3, a4, a5, .int x], .int x :: st, n, M) Q) := am_AW_go rfl rfl rfl rfl
theorem w73_80 {L st : List Value} : am_AW d 73 (80, L, st, n, M) Q = (am_AW d 73 (82, L, .int (am_z 20) :: st, n, M) Q) := am_AW_go rfl rfl rfl rfl
theorem w73_82 {L st : List Value} {x y : Int32} : am_AW d 73 (82, L, .int y :: .int x :: st, n, M) Q = (am_AW d 73 (83, L, .int (x - y) :: st, n, M) Q) := am_AW_go rfl rfl rfl rfl
theorem w73_83 {L st : List Value} {v0 v1 : Value} : am_AW d 73 (83, L, v0 :: v1 :: st, n, M) Q = (am_okA 2 (v0 :: v1 :: st) = true ∧ am_isO M [v1, v0] 0 = true ∧ am_Do d 112 [v1, v0] n M (am_then d 73 86 0 L st n Q)) := am_AW_cv (i := 50) (x := 112) (y := 2) (z := 0) rfl
theorem w73_86 {L st : List Value} : am_AW d 73 (86, L, st, n, M) Q = (am_AW d 73 (131, L, st, n, M) Q) := am_AW_go rfl rfl rfl rfl
theorem w73_89 {a0 a1 a2 a3 a4 a5 : Value} {x : Int32} {st : List Value} : am_AW d 73 (89, [a0, a1, a2, a3, a4, a5, .int x], st, n, M) Q = (am_AW d 73 (91, [a0, a1, a2, a3, a4, a5, .int x], .int x :: st, n, M) Q) := am_AW_go rfl rfl rfl rfl
theorem w73_91 {L st : List Value} {v0 : Value} : am_AW d 73 (91, L, v0 :: st, n, M) Q = (am_okA 1 (v0 :: st) = true ∧ am_Do d 17 [v0] n M (am_then d 73 94 0 L st n Q)) := am_AW_cs (i := 53) (x := 17) (y := 1) (z := 0) rfl
theorem w73_94 {L st : List Value} {x : Int32} : am_AW d 73 (94, L, .int x :: st, n, M) Q = (if x = am_z 0 then am_AW d 73 (124, L, st, n, M) Q else am_AW d 73 (97, L, st, n, M) Q) := (am_AW_ifz rfl).trans am_ite_eq
theorem w73_97 {a0 a1 a2 a3 a4 a5 : Value} {x : Int32} {st : List Value} : am_AW d 73 (97, [a0, a1, a2, a3, a4, a5, .int x], st, n, M) Q = (am_AW d 73 (99, [a0, a1, a2, a3, a4, a5, .int x], .int x :: st, n, M) Q) := am_AW_go rfl rfl rfl rfl
theorem w73_99 {L st : List Value} : am_AW d 73 (99, L, st, n, M) Q = (am_AW d 73 (101, L, .int (am_z 50) :: st, n, M) Q) := am_AW_go rfl rfl rfl rfl
theorem w73_101 {L st : List Value} {x y : Int32} : am_AW d 73 (101, L, .int y :: .int x :: st, n, M) Q = (am_AW d 73 (102, L, .int (x - y) :: st, n, M) Q) := am_AW_go rfl rfl rfl rfl
theorem w73_102 {a1 a2 a3 a4 a5 a6 : Value} {x : Nat} {st : List Value} : am_AW d 73 (102, [.ref x, a1, a2, a3, a4, a5, a6], st, n, M) Q = (am_AW d 73 (103, [.ref x, a1, a2, a3, a4, a5, a6], .ref x :: st, n, M) Q) := am_AW_go rfl rfl rfl rfl
theorem w73_103 {L st : List Value} {h : Nat} : am_AW d 73 (103, L, .ref h :: st, n, M) Q = (∃ v, am_fld M h 4 0 = some v ∧ am_AW d 73 (106, L, v :: st, n, M) Q) := am_AW_op (o := am_fld M h 4 0) (f := fun v => (106, L, v :: st, n, M)) rfl rfl (am_bm _ _) (fun _ => rfl)
theorem w73_106 {L st : List Value} {h : Nat} : am_AW d 73 (106, L, .ref h :: st, n, M) Q = (∃ v, am_fld M h 1 2 = some v ∧ am_AW d 73 (109, L, v :: st, n, M) Q) := am_AW_op (o := am_fld M h 1 2) (f := fun v => (109, L, v :: st, n, M)) rfl rfl (am_bm _ _) (fun _ => rfl)
theorem w73_109 {L st : List Value} {x y : Int32} : am_AW d 73 (109, L, .int y :: .int x :: st, n, M) Q = (if x < y then am_AW d 73 (124, L, st, n, M) Q else am_AW d 73 (112, L, st, n, M) Q) := (am_AW_icmp rfl).trans am_ite_lt
theorem w73_112 {a0 a1 a2 a3 a5 a6 : Value} {x : Nat} {st : List Value} : am_AW d 73 (112, [a0, a1, a2, a3, .ref x, a5, a6], st, n, M) Q = (am_AW d 73 (114, [a0, a1, a2, a3, .ref x, a5, a6], .ref x :: st, n, M) Q) := am_AW_go rfl rfl rfl rfl
theorem w73_114 {a0 a1 a2 a3 a4 a5 : Value} {x : Int32} {st : List Value} : am_AW d 73 (114, [a0, a1, a2, a3, a4, a5, .int x], st, n, M) Q = (am_AW d 73 (116, [a0, a1, a2, a3, a4, a5, .int x], .int x :: st, n, M) Q) := am_AW_go rfl rfl rfl rfl
theorem w73_116 {a0 a1 a2 a4 a5 a6 : Value} {x : Int32} {st : List Value} : am_AW d 73 (116, [a0, a1, a2, .int x, a4, a5, a6], st, n, M) Q = (am_AW d 73 (117, [a0, a1, a2, .int x, a4, a5, a6], .int x :: st, n, M) Q) := am_AW_go rfl rfl rfl rfl
theorem w73_117 {L st : List Value} {x y : Int32} : am_AW d 73 (117, L, .int y :: .int x :: st, n, M) Q = (am_AW d 73 (118, L, .int (x + y) :: st, n, M) Q) := am_AW_go rfl rfl rfl rfl
theorem w73_118 {L st : List Value} {v0 v1 : Value} : am_AW d 73 (118, L, v0 :: v1 :: st, n, M) Q = (am_okA 2 (v0 :: v1 :: st) = true ∧ am_isO M [v1, v0] 0 = true ∧ am_Do d 110 [v1, v0] n M (am_then d 73 121 0 L st n Q)) := am_AW_cv (i := 59) (x := 110) (y := 2) (z := 0) rfl
theorem w73_121 {L st : List Value} : am_AW d 73 (121, L, st, n, M) Q = (am_AW d 73 (131, L, st, n, M) Q) := am_AW_go rfl rfl rfl rfl
theorem w73_124 {a0 a1 a2 a3 a5 a6 : Value} {x : Nat} {st : List Value} : am_AW d 73 (124, [a0, a1, a2, a3, .ref x, a5, a6], st, n, M) Q = (am_AW d 73 (126, [a0, a1, a2, a3, .ref x, a5, a6], .ref x :: st, n, M) Q) := am_AW_go rfl rfl rfl rfl
theorem w73_126 {a0 a1 a2 a3 a4 a5 : Value} {x : Int32} {st : List Value} : am_AW d 73 (126, [a0, a1, a2, a3, a4, a5, .int x], st, n, M) Q = (am_AW d 73 (128, [a0, a1, a2, a3, a4, a5, .int x], .int x :: st, n, M) Q) := am_AW_go rfl rfl rfl rfl
theorem w73_128 {L st : List Value} {v0 v1 : Value} : am_AW d 73 (128, L, v0 :: v1 :: st, n, M) Q = (am_okA 2 (v0 :: v1 :: st) = true ∧ am_isO M [v1, v0] 0 = true ∧ am_Do d 110 [v1, v0] n M (am_then d 73 131 0 L st n Q)) := am_AW_cv (i := 59) (x := 110) (y := 2) (z := 0) rfl
theorem w73_131 {a0 a1 a2 a3 a4 a6 : Value} {x : Int32} {st : List Value} : am_AW d 73 (131, [a0, a1, a2, a3, a4, .int x, a6], st, n, M) Q = (am_AW d 73 (134, [a0, a1, a2, a3, a4, .int (x + (am_z 1)), a6], st, n, M) Q) := am_AW_go rfl rfl rfl rfl
theorem w73_134 {L st : List Value} : am_AW d 73 (134, L, st, n, M) Q = (am_AW d 73 (24, L, st, n, M) Q) := am_AW_go rfl rfl rfl rfl
theorem w73_137 {L : List Value} : am_AW d 73 (137, L, [], n, M) Q = (Q none n M) := am_AW_ret (rv := (none, n)) rfl rfl rfl (am_mono_self n)
end W73
section W74
variable {d : Nat} {n : am_N} {M : am_M} {Q : Option Value → am_N → am_M → Prop}
theorem w74_0 {a1 a2 a3 a4 a5 a6 a7 a8 : Value} {x : Nat} {st : List Value} : am_AW d 74 (0, [.ref x, a1, a2, a3, a4, a5, a6, a7, a8], st, n, M) Q = (am_AW d 74 (1, [.ref x, a1, a2, a3, a4, a5, a6, a7, a8], .ref x :: st, n, M) Q) := am_AW_go rfl rfl rfl rfl
theorem w74_1 {L st : List Value} {h : Nat} : am_AW d 74 (1, L, .ref h :: st, n, M) Q = (∃ v, am_fld M h 4 1 = some v ∧ am_AW d 74 (4, L, v :: st, n, M) Q) := am_AW_op (o := am_fld M h 4 1) (f := fun v => (4, L, v :: st, n, M)) rfl rfl (am_bm _ _) (fun _ => rfl)
theorem w74_4 {L st : List Value} {v0 : Value} : am_AW d 74 (4, L, v0 :: st, n, M) Q = (am_okA 1 (v0 :: st) = true ∧ am_isO M [v0] 1 = true ∧ am_Do d 133 [v0] n M (am_then d 74 7 0 L st n Q)) := am_AW_cv (i := 27) (x := 133) (y := 101) (z := 0) rfl
theorem w74_7 {a0 a1 a3 a4 a5 a6 a7 a8 : Value} {x : Int32} {st : List Value} : am_AW d 74 (7, [a0, a1, .int x, a3, a4, a5, a6, a7, a8], st, n, M) Q = (am_AW d 74 (8, [a0, a1, .int x, a3, a4, a5, a6, a7, a8], .int x :: st, n, M) Q) := am_AW_go rfl rfl rfl rfl
theorem w74_8 {a0 a1 a2 a3 a4 a5 a6 a7 a8 : Value} {x : Int32} {st : List Value} : am_AW d 74 (8, [a0, a1, a2, a3, a4, a5, a6, a7, a8], .int x :: st, n, M) Q = (am_AW d 74 (10, [a0, a1, a2, a3, a4, a5, .int x, a7, a8], st, n, M) Q) := am_AW_go rfl rfl rfl rfl
theorem w74_10 {a0 a1 a2 a3 a4 a5 a7 a8 : Value} {x : Int32} {st : List Value} : am_AW d 74 (10, [a0, a1, a2, a3, a4, a5, .int x, a7, a8], st, n, M) Q = (am_AW d 74 (12, [a0, a1, a2, a3, a4, a5, .int x, a7, a8], .int x :: st, n, M) Q) := am_AW_go rfl rfl rfl rfl
theorem w74_12 {a0 a2 a3 a4 a5 a6 a7 a8 : Value} {x : Nat} {st : List Value} : am_AW d 74 (12, [a0, .ref x, a2, a3, a4, a5, a6, a7, a8], st, n, M) Q = (am_AW d 74 (13, [a0, .ref x, a2, a3, a4, a5, a6, a7, a8], .ref x :: st, n, M) Q) := am_AW_go rfl rfl rfl rfl
theorem w74_13 {L st : List Value} {h : Nat} : am_AW d 74 (13, L, .ref h :: st, n, M) Q = (∃ v, am_fld M h 0 1 = some v ∧ am_AW d 74 (16, L, v :: st, n, M) Q) := am_AW_op (o := am_fld M h 0 1) (f := fun v => (16, L, v :: st, n, M)) rfl rfl (am_bm _ _) (fun _ => rfl)
theorem w74_16 {L st : List Value} {x y : Int32} : am_AW d 74 (16, L, .int y :: .int x :: st, n, M) Q = (if x < y then am_AW d 74 (19, L, st, n, M) Q else am_AW d 74 (130, L, st, n, M) Q) := (am_AW_icmp rfl).trans am_ite_ge
theorem w74_19 {a1 a2 a3 a4 a5 a6 a7 a8 : Value} {x : Nat} {st : List Value} : am_AW d 74 (19, [.ref x, a1, a2, a3, a4, a5, a6, a7, a8], st, n, M) Q = (am_AW d 74 (20, [.ref x, a1, a2, a3, a4, a5, a6, a7, a8], .ref x :: st, n, M) Q) := am_AW_go rfl rfl rfl rfl
theorem w74_20 {L st : List Value} {h : Nat} : am_AW d 74 (20, L, .ref h :: st, n, M) Q = (∃ v, am_fld M h 4 1 = some v ∧ am_AW d 74 (23, L, v :: st, n, M) Q) := am_AW_op (o := am_fld M h 4 1) (f := fun v => (23, L, v :: st, n, M)) rfl rfl (am_bm _ _) (fun _ => rfl)
theorem w74_23 {L st : List Value} {v0 : Value} : am_AW d 74 (23, L, v0 :: st, n, M) Q = (am_okA 1 (v0 :: st) = true ∧ am_isO M [v0] 1 = true ∧ am_Do d 134 [v0] n M (am_then d 74 26 0 L st n Q)) := am_AW_cv (i := 34) (x := 134) (y := 101) (z := 0) rfl
theorem w74_26 {L st : List Value} {x : Int32} : am_AW d 74 (26, L, .int x :: st, n, M) Q = (if x = am_z 0 then am_AW d 74 (130, L, st, n, M) Q else am_AW d 74 (29, L, st, n, M) Q) := (am_AW_ifz rfl).trans am_ite_eq
theorem w74_29 {a0 a1 a2 a3 a4 a6 a7 a8 : Value} {x : Nat} {st : List Value} : am_AW d 74 (29, [a0, a1, a2, a3, a4, .ref x, a6, a7, a8], st, n, M) Q = (am_AW d 74 (31, [a0, a1, a2, a3, a4, .ref x, a6, a7, a8], .ref x :: st, n, M) Q) := am_AW_go rfl rfl rfl rfl
theorem w74_31 {L st : List Value} {h : Nat} : am_AW d 74 (31, L, .ref h :: st, n, M) Q = (∃ v, am_fld M h 0 2 = some v ∧ am_AW d 74 (34, L, v :: st, n, M) Q) := am_AW_op (o := am_fld M h 0 2) (f := fun v => (34, L, v :: st, n, M)) rfl rfl (am_bm _ _) (fun _ => rfl)
theorem w74_34 {L st : List Value} {x : Int32} : am_AW d 74 (34, L, .int x :: st, n, M) Q = (if x = am_z 0 then am_AW d 74 (37, L, st, n, M) Q else am_AW d 74 (130, L, st, n, M) Q) := (am_AW_ifz rfl).trans am_ite_ne
theorem w74_37 {a0 a2 a3 a4 a5 a6 a7 a8 : Value} {x : Nat} {st : List Value} : am_AW d 74 (37, [a0, .ref x, a2, a3, a4, a5, a6, a7, a8], st, n, M) Q = (am_AW d 74 (38, [a0, .ref x, a2, a3, a4, a5, a6, a7, a8], .ref x :: st, n, M) Q) := am_AW_go rfl rfl rfl rfl
theorem w74_38 {a0 a1 a2 a3 a4 a5 a7 a8 : Value} {x : Int32} {st : List Value} : am_AW d 74 (38, [a0, a1, a2, a3, a4, a5, .int x, a7, a8], st, n, M) Q = (am_AW d 74 (40, [a0, a1, a2, a3, a4, a5, .int x, a7, a8], .int x :: st, n, M) Q) := am_AW_go rfl rfl rfl rfl
theorem w74_40 {L st : List Value} {v0 v1 : Value} : am_AW d 74 (40, L, v0 :: v1 :: st, n, M) Q = (am_okA 2 (v0 :: v1 :: st) = true ∧ am_isO M [v1, v0] 0 = true ∧ am_Do d 114 [v1, v0] n M (am_then d 74 43 0 L st n Q)) := am_AW_cv (i := 38) (x := 114) (y := 2) (z := 0) rfl
theorem w74_43 {a0 a1 a2 a3 a4 a5 a6 a7 a8 : Value} {x : Int32} {st : List Value} : am_AW d 74 (43, [a0, a1, a2, a3, a4, a5, a6, a7, a8], .int x :: st, n, M) Q = (am_AW d 74 (45, [a0, a1, a2, a3, a4, a5, a6, .int x, a8], st, n, M) Q) := am_AW_go rfl rfl rfl rfl
theorem w74_45 {a1 a2 a3 a4 a5 a6 a7 a8 : Value} {x : Nat} {st : List Value} : am_AW d 74 (45, [.ref x, a1, a2, a3, a4, a5, a6, a7, a8], st, n, M) Q = (am_AW d 74 (46, [.ref x, a1, a2, a3, a4, a5, a6, a7, a8], .ref x :: st, n, M) Q) := am_AW_go rfl rfl rfl rfl
theorem w74_46 {L st : List Value} {h : Nat} : am_AW d 74 (46, L, .ref h :: st, n, M) Q = (∃ v, am_fld M h 4 1 = some v ∧ am_AW d 74 (49, L, v :: st, n, M) Q) := am_AW_op (o := am_fld M h 4 1) (f := fun v => (49, L, v :: st, n, M)) rfl rfl (am_bm _ _) (fun _ => rfl)
theorem w74_49 {a0 a1 a2 a3 a4 a5 a6 a8 : Value} {x : Int32} {st : List Value} : am_AW d 74 (49, [a0, a1, a2, a3, a4, a5, a6, .int x, a8], st, n, M) Q = (am_AW d 74 (51, [a0, a1, a2, a3, a4, a5, a6, .int x, a8], .int x :: st, n, M) Q) := am_AW_go rfl rfl rfl rfl
theorem w74_51 {L st : List Value} {v0 v1 : Value} : am_AW d 74 (51, L, v0 :: v1 :: st, n, M) Q = (am_okA 2 (v0 :: v1 :: st) = true ∧ am_isO M [v1, v0] 1 = true ∧ am_Do d 135 [v1, v0] n M (am_then d 74 54 0 L st n Q)) := am_AW_cv (i := 42) (x := 135) (y := 102) (z := 0) rfl
theorem w74_54 {a0 a1 a2 a3 a4 a5 a6 a8 : Value} {x : Int32} {st : List Value} : am_AW d 74 (54, [a0, a1, a2, a3, a4, a5, a6, .int x, a8], st, n, M) Q = (am_AW d 74 (56, [a0, a1, a2, a3, a4, a5, a6, .int x, a8], .int x :: st, n, M) Q) := am_AW_go rfl rfl rfl rfl
theorem w74_56 {L st : List Value} {v0 : Value} : am_AW d 74 (56, L, v0 :: st, n, M) Q = (am_okA 1 (v0 :: st) = true ∧ am_Do d 17 [v0] n M (am_then d 74 59 0 L st n Q)) := am_AW_cs (i := 53) (x := 17) (y := 1) (z := 0) rfl
theorem w74_59 {L st : List Value} {x : Int32} : am_AW d 74 (59, L, .int x :: st, n, M) Q = (if x = am_z 0 then am_AW d 74 (78, L, st, n, M) Q else am_AW d 74 (62, L, st, n, M) Q) := (am_AW_ifz rfl).trans am_ite_eq
theorem w74_62 {a0 a1 a2 a3 a4 a5 a6 a8 : Value} {x : Int32} {st : List Value} : am_AW d 74 (62, [a0, a1, a2, a3, a4, a5, a6, .int x, a8], st, n, M) Q = (am_AW d 74 (64, [a0, a1, a2, a3, a4, a5, a6, .int x, a8], .int x :: st, n, M) Q) := am_AW_go rfl rfl rfl rfl
theorem w74_64 {L st : List Value} : am_AW d 74 (64, L, st, n, M) Q = (am_AW d 74 (66, L, .int (am_z 50) :: st, n, M) Q) := am_AW_go rfl rfl rfl rfl
theorem w74_66 {L st : List Value} {x y : Int32} : am_AW d 74 (66, L, .int y :: .int x :: st, n, M) Q = (am_AW d 74 (67, L, .int (x - y) :: st, n, M) Q) := am_AW_go rfl rfl rfl rfl
theorem w74_67 {a1 a2 a3 a4 a5 a6 a7 a8 : Value} {x : Nat} {st : List Value} : am_AW d 74 (67, [.ref x, a1, a2, a3, a4, a5, a6, a7, a8], st, n, M) Q = (am_AW d 74 (68, [.ref x, a1, a2, a3, a4, a5, a6, a7, a8], .ref x :: st, n, M) Q) := am_AW_go rfl rfl rfl rfl
theorem w74_68 {L st : List Value} {h : Nat} : am_AW d 74 (68, L, .ref h :: st, n, M) Q = (∃ v, am_fld M h 4 1 = some v ∧ am_AW d 74 (71, L, v :: st, n, M) Q) := am_AW_op (o := am_fld M h 4 1) (f := fun v => (71, L, v :: st, n, M)) rfl rfl (am_bm _ _) (fun _ => rfl)
theorem w74_71 {L st : List Value} {h : Nat} : am_AW d 74 (71, L, .ref h :: st, n, M) Q = (∃ v, am_fld M h 1 2 = some v ∧ am_AW d 74 (74, L, v :: st, n, M) Q) := am_AW_op (o := am_fld M h 1 2) (f := fun v => (74, L, v :: st, n, M)) rfl rfl (am_bm _ _) (fun _ => rfl)
theorem w74_74 {L st : List Value} {x y : Int32} : am_AW d 74 (74, L, .int y :: .int x :: st, n, M) Q = (am_AW d 74 (75, L, .int (x - y) :: st, n, M) Q) := am_AW_go rfl rfl rfl rfl
theorem w74_75 {L st : List Value} : am_AW d 74 (75, L, st, n, M) Q = (am_AW d 74 (79, L, st, n, M) Q) := am_AW_go rfl rfl rfl rfl
theorem w74_78 {L st : List Value} : am_AW d 74 (78, L, st, n, M) Q = (am_AW d 74 (79, L, .int (am_z (-1)) :: st, n, M) Q) := am_AW_go rfl rfl rfl rfl
theorem w74_79 {a0 a1 a2 a3 a4 a5 a6 a7 a8 : Value} {x : Int32} {st : List Value} : am_AW d 74 (79, [a0, a1, a2, a3, a4, a5, a6, a7, a8], .int x :: st, n, M) Q = (am_AW d 74 (81, [a0, a1, a2, a3, a4, a5, a6, a7, .int x], st, n, M) Q) := am_AW_go rfl rfl rfl rfl
theorem w74_81 {a0 a1 a2 a3 a4 a5 a6 a7 : Value} {x : Int32} {st : List Value} : am_AW d 74 (81, [a0, a1, a2, a3, a4, a5, a6, a7, .int x], st, n, M) Q = (am_AW d 74 (83, [a0, a1, a2, a3, a4, a5, a6, a7, .int x], .int x :: st, n, M) Q) := am_AW_go rfl rfl rfl rfl
theorem w74_83 {L st : List Value} {x : Int32} : am_AW d 74 (83, L, .int x :: st, n, M) Q = (if x = am_z 0 then am_AW d 74 (86, L, st, n, M) Q else am_AW d 74 (105, L, st, n, M) Q) := (am_AW_ifz rfl).trans am_ite_ne
theorem w74_86 {a1 a2 a3 a4 a5 a6 a7 a8 : Value} {x : Nat} {st : List Value} : am_AW d 74 (86, [.ref x, a1, a2, a3, a4, a5, a6, a7, a8], st, n, M) Q = (am_AW d 74 (87, [.ref x, a1, a2, a3, a4, a5, a6, a7, a8], .ref x :: st, n, M) Q) := am_AW_go rfl rfl rfl rfl
theorem w74_87 {a0 a1 a2 a4 a5 a6 a7 a8 : Value} {x : Nat} {st : List Value} : am_AW d 74 (87, [a0, a1, a2, .ref x, a4, a5, a6, a7, a8], st, n, M) Q = (am_AW d 74 (88, [a0, a1, a2, .ref x, a4, a5, a6, a7, a8], .ref x :: st, n, M) Q) := am_AW_go rfl rfl rfl rfl
theorem w74_88 {a0 a1 a2 a3 a5 a6 a7 a8 : Value} {x : Int32} {st : List Value} : am_AW d 74 (88, [a0, a1, a2, a3, .int x, a5, a6, a7, a8], st, n, M) Q = (am_AW d 74 (90, [a0, a1, a2, a3, .int x, a5, a6, a7, a8], .int x :: st, n, M) Q) := am_AW_go rfl rfl rfl rfl
theorem w74_90 {a1 a2 a3 a4 a5 a6 a7 a8 : Value} {x : Nat} {st : List Value} : am_AW d 74 (90, [.ref x, a1, a2, a3, a4, a5, a6, a7, a8], st, n, M) Q = (am_AW d 74 (91, [.ref x, a1, a2, a3, a4, a5, a6, a7, a8], .ref x :: st, n, M) Q) := am_AW_go rfl rfl rfl rfl
theorem w74_91 {L st : List Value} {h : Nat} : am_AW d 74 (91, L, .ref h :: st, n, M) Q = (∃ v, am_fld M h 4 1 = some v ∧ am_AW d 74 (94, L, v :: st, n, M) Q) := am_AW_op (o := am_fld M h 4 1) (f := fun v => (94, L, v :: st, n, M)) rfl rfl (am_bm _ _) (fun _ => rfl)
theorem w74_94 {L st : List Value} {h : Nat} : am_AW d 74 (94, L, .ref h :: st, n, M) Q = (∃ v, am_fld M h 1 2 = some v ∧ am_AW d 74 (97, L, v :: st, n, M) Q) := am_AW_op (o := am_fld M h 1 2) (f := fun v => (97, L, v :: st, n, M)) rfl rfl (am_bm _ _) (fun _ => rfl)
theorem w74_97 {a0 a1 a2 a3 a4 a6 a7 a8 : Value} {x : Nat} {st : List Value} : am_AW d 74 (97, [a0, a1, a2, a3, a4, .ref x, a6, a7, a8], st, n, M) Q = (am_AW d 74 (99, [a0, a1, a2, a3, a4, .ref x, a6, a7, a8], .ref x :: st, n, M) Q) := am_AW_go rfl rfl rfl rfl
theorem w74_99 {L st : List Value} {v0 v1 v2 v3 v4 : Value} : am_AW d 74 (99, L, v0 :: v1 :: v2 :: v3 :: v4 :: st, n, M) Q = (am_okA 5 (v0 :: v1 :: v2 :: v3 :: v4 :: st) = true ∧ am_isO M [v4, v3, v2, v1, v0] 4 = true ∧ am_Do d 73 [v4, v3, v2, v1, v0] n M (am_then d 74 102 0 L st n Q)) := am_AW_cv (i := 62) (x := 73) (y := 405) (z := 0) rfl
theorem w74_102 {L st : List Value} : am_AW d 74 (102, L, st, n, M) Q = (am_AW d 74 (124, L, st, n, M) Q) := am_AW_go rfl rfl rfl rfl
theorem w74_105 {a0 a1 a2 a3 a4 a6 a7 a8 : Value} {x : Nat} {st : List Value} : am_AW d 74 (105, [a0, a1, a2, a3, a4, .ref x, a6, a7, a8], st, n, M) Q = (am_AW d 74 (107, [a0, a1, a2, a3, a4, .ref x, a6, a7, a8], .ref x :: st, n, M) Q) := am_AW_go rfl rfl rfl rfl
theorem w74_107 {a0 a1 a2 a3 a4 a5 a6 a7 : Value} {x : Int32} {st : List Value} : am_AW d 74 (107, [a0, a1, a2, a3, a4, a5, a6, a7, .int x], st, n, M) Q = (am_AW d 74 (109, [a0, a1, a2, a3, a4, a5, a6, a7, .int x], .int x :: st, n, M) Q) := am_AW_go rfl rfl rfl rfl
theorem w74_109 {L st : List Value} {x : Int32} : am_AW d 74 (109, L, .int x :: st, n, M) Q = (if x ≤ am_z 0 then am_AW d 74 (119, L, st, n, M) Q else am_AW d 74 (112, L, st, n, M) Q) := (am_AW_ifz rfl).trans am_ite_le
theorem w74_112 {a0 a1 a2 a3 a4 a5 a6 a8 : Value} {x : Int32} {st : List Value} : am_AW d 74 (112, [a0, a1, a2, a3, a4, a5, a6, .int x, a8], st, n, M) Q = (am_AW d 74 (114, [a0, a1, a2, a3, a4, a5, a6, .int x, a8], .int x :: st, n, M) Q) := am_AW_go rfl rfl rfl rfl
theorem w74_114 {L st : List Value} : am_AW d 74 (114, L, st, n, M) Q = (am_AW d 74 (115, L, .int (am_z 1) :: st, n, M) Q) := am_AW_go rfl rfl rfl rfl
theorem w74_115 {L st : List Value} {x y : Int32} : am_AW d 74 (115, L, .int y :: .int x :: st, n, M) Q = (am_AW d 74 (116, L, .int (x - y) :: st, n, M) Q) := am_AW_go rfl rfl rfl rfl
theorem w74_116 {L st : List Value} : am_AW d 74 (116, L, st, n, M) Q = (am_AW d 74 (121, L, st, n, M) Q) := am_AW_go rfl rfl rfl rfl
theorem w74_119 {a0 a1 a2 a3 a4 a5 a6 a8 : Value} {x : Int32} {st : List Value} : am_AW d 74 (119, [a0, a1, a2, a3, a4, a5, a6, .int x, a8], st, n, M) Q = (am_AW d 74 (121, [a0, a1, a2, a3, a4, a5, a6, .int x, a8], .int x :: st, n, M) Q) := am_AW_go rfl rfl rfl rfl
theorem w74_121 {L st : List Value} {v0 v1 : Value} : am_AW d 74 (121, L, v0 :: v1 :: st, n, M) Q = (am_okA 2 (v0 :: v1 :: st) = true ∧ am_isO M [v1, v0] 0 = true ∧ am_Do d 110 [v1, v0] n M (am_then d 74 124 0 L st n Q)) := am_AW_cv (i := 59) (x := 110) (y := 2) (z := 0) rfl
theorem w74_124 {a0 a1 a2 a3 a4 a5 a7 a8 : Value} {x : Int32} {st : List Value} : am_AW d 74 (124, [a0, a1, a2, a3, a4, a5, .int x, a7, a8], st, n, M) Q = (am_AW d 74 (127, [a0, a1, a2, a3, a4, a5, .int (x + (am_z 1)), a7, a8], st, n, M) Q) := am_AW_go rfl rfl rfl rfl
theorem w74_127 {L st : List Value} : am_AW d 74 (127, L, st, n, M) Q = (am_AW d 74 (10, L, st, n, M) Q) := am_AW_go rfl rfl rfl rfl
theorem w74_130 {L : List Value} : am_AW d 74 (130, L, [], n, M) Q = (Q none n M) := am_AW_ret (rv := (none, n)) rfl rfl rfl (am_mono_self n)
end W74
section W76
variable {d : Nat} {n : am_N} {M : am_M} {Q : Option Value → am_N → am_M → Prop}
theorem w76_0 {x : Nat} {st : List Value} : am_AW d 76 (0, [.ref x], st, n, M) Q = (am_AW d 76 (1, [.ref x], .ref x :: st, n, M) Q) := am_AW_go rfl rfl rfl rfl
theorem w76_1 {L st : List Value} : am_AW d 76 (1, L, st, n, M) Q = (am_AW d 76 (2, L, .int (am_z 0) :: st, n, M) Q) := am_AW_go rfl rfl rfl rfl
theorem w76_2 {L st : List Value} {h : Nat} {v : Value} : am_AW d 76 (2, L, v :: .ref h :: st, n, M) Q = (am_fit 0 v = true ∧ ∃ M', am_setf M h 2 0 v = some M' ∧ am_AW d 76 (5, L, st, n, M') Q) := am_AW_put rfl
theorem w76_5 {x : Nat} {st : List Value} : am_AW d 76 (5, [.ref x], st, n, M) Q = (am_AW d 76 (6, [.ref x], .ref x :: st, n, M) Q) := am_AW_go rfl rfl rfl rfl
theorem w76_6 {L st : List Value} : am_AW d 76 (6, L, st, n, M) Q = (am_AW d 76 (7, L, .int (am_z (-1)) :: st, n, M) Q) := am_AW_go rfl rfl rfl rfl
theorem w76_7 {L st : List Value} {h : Nat} {v : Value} : am_AW d 76 (7, L, v :: .ref h :: st, n, M) Q = (am_fit 0 v = true ∧ ∃ M', am_setf M h 2 1 v = some M' ∧ am_AW d 76 (10, L, st, n, M') Q) := am_AW_put rfl
theorem w76_10 {L : List Value} : am_AW d 76 (10, L, [], n, M) Q = (Q none n M) := am_AW_ret (rv := (none, n)) rfl rfl rfl (am_mono_self n)
end W76
section W77
variable {d : Nat} {n : am_N} {M : am_M} {Q : Option Value → am_N → am_M → Prop}
theorem w77_0 {a1 a2 : Value} {x : Nat} {st : List Value} : am_AW d 77 (0, [.ref x, a1, a2], st, n, M) Q = (am_AW d 77 (1, [.ref x, a1, a2], .ref x :: st, n, M) Q) := am_AW_go rfl rfl rfl rfl
theorem w77_1 {a0 a2 : Value} {x : Int32} {st : List Value} : am_AW d 77 (1, [a0, .int x, a2], st, n, M) Q = (am_AW d 77 (2, [a0, .int x, a2], .int x :: st, n, M) Q) := am_AW_go rfl rfl rfl rfl
theorem w77_2 {L st : List Value} {h : Nat} {v : Value} : am_AW d 77 (2, L, v :: .ref h :: st, n, M) Q = (am_fit 0 v = true ∧ ∃ M', am_setf M h 2 0 v = some M' ∧ am_AW d 77 (5, L, st, n, M') Q) := am_AW_put rfl
theorem w77_5 {a1 a2 : Value} {x : Nat} {st : List Value} : am_AW d 77 (5, [.ref x, a1, a2], st, n, M) Q = (am_AW d 77 (6, [.ref x, a1, a2], .ref x :: st, n, M) Q) := am_AW_go rfl rfl rfl rfl
theorem w77_6 {a0 a1 : Value} {x : Int32} {st : List Value} : am_AW d 77 (6, [a0, a1, .int x], st, n, M) Q = (am_AW d 77 (7, [a0, a1, .int x], .int x :: st, n, M) Q) := am_AW_go rfl rfl rfl rfl
theorem w77_7 {L st : List Value} {h : Nat} {v : Value} : am_AW d 77 (7, L, v :: .ref h :: st, n, M) Q = (am_fit 0 v = true ∧ ∃ M', am_setf M h 2 1 v = some M' ∧ am_AW d 77 (10, L, st, n, M') Q) := am_AW_put rfl
theorem w77_10 {L st : List Value} : am_AW d 77 (10, L, st, n, M) Q = (am_AW d 77 (11, L, .int (am_z 0) :: st, n, M) Q) := am_AW_go rfl rfl rfl rfl
theorem w77_11 {L : List Value} {x : Int32} (hf : am_fit 1 (.int x) = true) : am_AW d 77 (11, L, [.int x], n, M) Q = (Q (some (.int x)) n M) := am_AW_ret (rv := (some (.int x), n)) rfl rfl (if_pos hf) (am_mono_self n)
end W77
section W79
variable {d : Nat} {n : am_N} {M : am_M} {Q : Option Value → am_N → am_M → Prop}
theorem w79_0 {a0 : Value} {x : Int32} {st : List Value} : am_AW d 79 (0, [a0, .int x], st, n, M) Q = (am_AW d 79 (1, [a0, .int x], .int x :: st, n, M) Q) := am_AW_go rfl rfl rfl rfl
theorem w79_1 {L st : List Value} {x : Int32} : am_AW d 79 (1, L, .int x :: st, n, M) Q = (if x < am_z 0 then am_AW d 79 (23, L, st, n, M) Q else am_AW d 79 (4, L, st, n, M) Q) := (am_AW_ifz rfl).trans am_ite_lt
theorem w79_4 {a0 : Value} {x : Int32} {st : List Value} : am_AW d 79 (4, [a0, .int x], st, n, M) Q = (am_AW d 79 (5, [a0, .int x], .int x :: st, n, M) Q) := am_AW_go rfl rfl rfl rfl
theorem w79_5 {L st : List Value} : am_AW d 79 (5, L, st, n, M) Q = (am_AW d 79 (7, L, .int (am_z 8) :: st, n, M) Q) := am_AW_go rfl rfl rfl rfl
theorem w79_7 {L st : List Value} {x y : Int32} : am_AW d 79 (7, L, .int y :: .int x :: st, n, M) Q = (if x < y then am_AW d 79 (10, L, st, n, M) Q else am_AW d 79 (23, L, st, n, M) Q) := (am_AW_icmp rfl).trans am_ite_ge
theorem w79_10 {a1 : Value} {x : Nat} {st : List Value} : am_AW d 79 (10, [.ref x, a1], st, n, M) Q = (am_AW d 79 (11, [.ref x, a1], .ref x :: st, n, M) Q) := am_AW_go rfl rfl rfl rfl
theorem w79_11 {L st : List Value} {h : Nat} : am_AW d 79 (11, L, .ref h :: st, n, M) Q = (∃ v, am_fld M h 3 2 = some v ∧ am_AW d 79 (14, L, v :: st, n, M) Q) := am_AW_op (o := am_fld M h 3 2) (f := fun v => (14, L, v :: st, n, M)) rfl rfl (am_bm _ _) (fun _ => rfl)
theorem w79_14 {a0 : Value} {x : Int32} {st : List Value} : am_AW d 79 (14, [a0, .int x], st, n, M) Q = (am_AW d 79 (15, [a0, .int x], .int x :: st, n, M) Q) := am_AW_go rfl rfl rfl rfl
theorem w79_15 {L st : List Value} {h : Nat} {i : Int32} : am_AW d 79 (15, L, .int i :: .ref h :: st, n, M) Q = (∃ v, am_ald 2 M h i = some v ∧ am_AW d 79 (16, L, .int v :: st, n, M) Q) := am_AW_op (o := am_ald 2 M h i) (f := fun v => (16, L, .int v :: st, n, M)) rfl rfl (am_bm2 _ _ () ()) (fun _ => rfl)
theorem w79_16 {L st : List Value} {x : Int32} : am_AW d 79 (16, L, .int x :: st, n, M) Q = (if x = am_z 0 then am_AW d 79 (23, L, st, n, M) Q else am_AW d 79 (19, L, st, n, M) Q) := (am_AW_ifz rfl).trans am_ite_eq
theorem w79_19 {L st : List Value} : am_AW d 79 (19, L, st, n, M) Q = (am_AW d 79 (20, L, .int (am_z 1) :: st, n, M) Q) := am_AW_go rfl rfl rfl rfl
theorem w79_20 {L st : List Value} : am_AW d 79 (20, L, st, n, M) Q = (am_AW d 79 (24, L, st, n, M) Q) := am_AW_go rfl rfl rfl rfl
theorem w79_23 {L st : List Value} : am_AW d 79 (23, L, st, n, M) Q = (am_AW d 79 (24, L, .int (am_z 0) :: st, n, M) Q) := am_AW_go rfl rfl rfl rfl
theorem w79_24 {L : List Value} {x : Int32} (hf : am_fit 1 (.int x) = true) : am_AW d 79 (24, L, [.int x], n, M) Q = (Q (some (.int x)) n M) := am_AW_ret (rv := (some (.int x), n)) rfl rfl (if_pos hf) (am_mono_self n)
end W79
section W80
variable {d : Nat} {n : am_N} {M : am_M} {Q : Option Value → am_N → am_M → Prop}
theorem w80_0 {a1 a2 a3 : Value} {x : Nat} {st : List Value} : am_AW d 80 (0, [.ref x, a1, a2, a3], st, n, M) Q = (am_AW d 80 (1, [.ref x, a1, a2, a3], .ref x :: st, n, M) Q) := am_AW_go rfl rfl rfl rfl
theorem w80_1 {L st : List Value} {h : Nat} : am_AW d 80 (1, L, .ref h :: st, n, M) Q = (∃ v, am_fld M h 3 0 = some v ∧ am_AW d 80 (4, L, v :: st, n, M) Q) := am_AW_op (o := am_fld M h 3 0) (f := fun v => (4, L, v :: st, n, M)) rfl rfl (am_bm _ _) (fun _ => rfl)
theorem w80_4 {a0 a2 a3 : Value} {x : Int32} {st : List Value} : am_AW d 80 (4, [a0, .int x, a2, a3], st, n, M) Q = (am_AW d 80 (5, [a0, .int x, a2, a3], .int x :: st, n, M) Q) := am_AW_go rfl rfl rfl rfl
theorem w80_5 {L st : List Value} {h : Nat} {i : Int32} : am_AW d 80 (5, L, .int i :: .ref h :: st, n, M) Q = (∃ v, am_aald M h i = some v ∧ am_AW d 80 (6, L, v :: st, n, M) Q) := am_AW_op (o := am_aald M h i) (f := fun v => (6, L, v :: st, n, M)) rfl rfl (am_bm3 _ () ()) (fun _ => rfl)
theorem w80_6 {a0 a1 a3 : Value} {x : Nat} {st : List Value} : am_AW d 80 (6, [a0, a1, .ref x, a3], st, n, M) Q = (am_AW d 80 (7, [a0, a1, .ref x, a3], .ref x :: st, n, M) Q) := am_AW_go rfl rfl rfl rfl
theorem w80_7 {L st : List Value} {v0 v1 : Value} : am_AW d 80 (7, L, v0 :: v1 :: st, n, M) Q = (am_okA 2 (v0 :: v1 :: st) = true ∧ am_isO M [v1, v0] 0 = true ∧ am_Do d 113 [v1, v0] n M (am_then d 80 10 0 L st n Q)) := am_AW_cv (i := 31) (x := 113) (y := 2) (z := 0) rfl
theorem w80_10 {a1 a2 a3 : Value} {x : Nat} {st : List Value} : am_AW d 80 (10, [.ref x, a1, a2, a3], st, n, M) Q = (am_AW d 80 (11, [.ref x, a1, a2, a3], .ref x :: st, n, M) Q) := am_AW_go rfl rfl rfl rfl
theorem w80_11 {L st : List Value} {h : Nat} : am_AW d 80 (11, L, .ref h :: st, n, M) Q = (∃ v, am_fld M h 3 1 = some v ∧ am_AW d 80 (14, L, v :: st, n, M) Q) := am_AW_op (o := am_fld M h 3 1) (f := fun v => (14, L, v :: st, n, M)) rfl rfl (am_bm _ _) (fun _ => rfl)
theorem w80_14 {a0 a2 a3 : Value} {x : Int32} {st : List Value} : am_AW d 80 (14, [a0, .int x, a2, a3], st, n, M) Q = (am_AW d 80 (15, [a0, .int x, a2, a3], .int x :: st, n, M) Q) := am_AW_go rfl rfl rfl rfl
theorem w80_15 {L st : List Value} {h : Nat} {i : Int32} : am_AW d 80 (15, L, .int i :: .ref h :: st, n, M) Q = (∃ v, am_aald M h i = some v ∧ am_AW d 80 (16, L, v :: st, n, M) Q) := am_AW_op (o := am_aald M h i) (f := fun v => (16, L, v :: st, n, M)) rfl rfl (am_bm3 _ () ()) (fun _ => rfl)
theorem w80_16 {a0 a1 a2 : Value} {x : Nat} {st : List Value} : am_AW d 80 (16, [a0, a1, a2, .ref x], st, n, M) Q = (am_AW d 80 (17, [a0, a1, a2, .ref x], .ref x :: st, n, M) Q) := am_AW_go rfl rfl rfl rfl
theorem w80_17 {L st : List Value} {v0 v1 : Value} : am_AW d 80 (17, L, v0 :: v1 :: st, n, M) Q = (am_okA 2 (v0 :: v1 :: st) = true ∧ am_isO M [v1, v0] 0 = true ∧ am_Do d 113 [v1, v0] n M (am_then d 80 20 0 L st n Q)) := am_AW_cv (i := 31) (x := 113) (y := 2) (z := 0) rfl
theorem w80_20 {a1 a2 a3 : Value} {x : Nat} {st : List Value} : am_AW d 80 (20, [.ref x, a1, a2, a3], st, n, M) Q = (am_AW d 80 (21, [.ref x, a1, a2, a3], .ref x :: st, n, M) Q) := am_AW_go rfl rfl rfl rfl
theorem w80_21 {L st : List Value} {h : Nat} : am_AW d 80 (21, L, .ref h :: st, n, M) Q = (∃ v, am_fld M h 3 2 = some v ∧ am_AW d 80 (24, L, v :: st, n, M) Q) := am_AW_op (o := am_fld M h 3 2) (f := fun v => (24, L, v :: st, n, M)) rfl rfl (am_bm _ _) (fun _ => rfl)
theorem w80_24 {a0 a2 a3 : Value} {x : Int32} {st : List Value} : am_AW d 80 (24, [a0, .int x, a2, a3], st, n, M) Q = (am_AW d 80 (25, [a0, .int x, a2, a3], .int x :: st, n, M) Q) := am_AW_go rfl rfl rfl rfl
theorem w80_25 {L st : List Value} : am_AW d 80 (25, L, st, n, M) Q = (am_AW d 80 (26, L, .int (am_z 1) :: st, n, M) Q) := am_AW_go rfl rfl rfl rfl
theorem w80_26 {L st : List Value} {h : Nat} {i v : Int32} : am_AW d 80 (26, L, .int v :: .int i :: .ref h :: st, n, M) Q = (am_fit 1 (.int v) = true ∧ ∃ M', am_ast 2 M h i v = some M' ∧ am_AW d 80 (27, L, st, n, M') Q) := am_AW_ast rfl (Or.inr (Or.inr ⟨rfl, rfl, rfl⟩))
theorem w80_27 {a1 a2 a3 : Value} {x : Nat} {st : List Value} : am_AW d 80 (27, [.ref x, a1, a2, a3], st, n, M) Q = (am_AW d 80 (28, [.ref x, a1, a2, a3], .ref x :: st, n, M) Q) := am_AW_go rfl rfl rfl rfl
theorem w80_28 {L st : List Value} {x : Nat} : am_AW d 80 (28, L, .ref x :: st, n, M) Q = (am_AW d 80 (29, L, .ref x :: .ref x :: st, n, M) Q) := am_AW_go rfl rfl rfl rfl
theorem w80_28i {L st : List Value} {x : Int32} : am_AW d 80 (28, L, .int x :: st, n, M) Q = (am_AW d 80 (29, L, .int x :: .int x :: st, n, M) Q) := am_AW_go rfl rfl rfl rfl
theorem w80_29 {L st : List Value} {h : Nat} : am_AW d 80 (29, L, .ref h :: st, n, M) Q = (∃ v, am_fld M h 3 3 = some v ∧ am_AW d 80 (32, L, v :: st, n, M) Q) := am_AW_op (o := am_fld M h 3 3) (f := fun v => (32, L, v :: st, n, M)) rfl rfl (am_bm _ _) (fun _ => rfl)
theorem w80_32 {L st : List Value} : am_AW d 80 (32, L, st, n, M) Q = (am_AW d 80 (33, L, .int (am_z 1) :: st, n, M) Q) := am_AW_go rfl rfl rfl rfl
theorem w80_33 {L st : List Value} {x y : Int32} : am_AW d 80 (33, L, .int y :: .int x :: st, n, M) Q = (am_AW d 80 (34, L, .int (x + y) :: st, n, M) Q) := am_AW_go rfl rfl rfl rfl
theorem w80_34 {L st : List Value} {h : Nat} {v : Value} : am_AW d 80 (34, L, v :: .ref h :: st, n, M) Q = (am_fit 0 v = true ∧ ∃ M', am_setf M h 3 3 v = some M' ∧ am_AW d 80 (37, L, st, n, M') Q) := am_AW_put rfl
theorem w80_37 {L : List Value} : am_AW d 80 (37, L, [], n, M) Q = (Q none n M) := am_AW_ret (rv := (none, n)) rfl rfl rfl (am_mono_self n)
end W80
section W82
variable {d : Nat} {n : am_N} {M : am_M} {Q : Option Value → am_N → am_M → Prop}
theorem w82_0 {a1 a2 a3 : Value} {x : Nat} {st : List Value} : am_AW d 82 (0, [.ref x, a1, a2, a3], st, n, M) Q = (am_AW d 82 (1, [.ref x, a1, a2, a3], .ref x :: st, n, M) Q) := am_AW_go rfl rfl rfl rfl
theorem w82_1 {L st : List Value} {h : Nat} : am_AW d 82 (1, L, .ref h :: st, n, M) Q = (∃ v, am_fld M h 5 2 = some v ∧ am_AW d 82 (4, L, v :: st, n, M) Q) := am_AW_op (o := am_fld M h 5 2) (f := fun v => (4, L, v :: st, n, M)) rfl rfl (am_bm _ _) (fun _ => rfl)
theorem w82_4 {L st : List Value} {v0 : Value} : am_AW d 82 (4, L, v0 :: st, n, M) Q = (am_okA 1 (v0 :: st) = true ∧ am_isO M [v0] 0 = true ∧ am_Do d 109 [v0] n M (am_then d 82 7 0 L st n Q)) := am_AW_cv (i := 74) (x := 109) (y := 1) (z := 0) rfl
theorem w82_7 {a1 a2 a3 : Value} {x : Nat} {st : List Value} : am_AW d 82 (7, [.ref x, a1, a2, a3], st, n, M) Q = (am_AW d 82 (8, [.ref x, a1, a2, a3], .ref x :: st, n, M) Q) := am_AW_go rfl rfl rfl rfl
theorem w82_8 {L st : List Value} : am_AW d 82 (8, L, st, n, M) Q = (am_AW d 82 (9, L, .int (am_z 0) :: st, n, M) Q) := am_AW_go rfl rfl rfl rfl
theorem w82_9 {L st : List Value} {h : Nat} {v : Value} : am_AW d 82 (9, L, v :: .ref h :: st, n, M) Q = (am_fit 0 v = true ∧ ∃ M', am_setf M h 5 5 v = some M' ∧ am_AW d 82 (12, L, st, n, M') Q) := am_AW_put rfl
theorem w82_12 {a1 a2 a3 : Value} {x : Nat} {st : List Value} : am_AW d 82 (12, [.ref x, a1, a2, a3], st, n, M) Q = (am_AW d 82 (13, [.ref x, a1, a2, a3], .ref x :: st, n, M) Q) := am_AW_go rfl rfl rfl rfl
theorem w82_13 {L st : List Value} : am_AW d 82 (13, L, st, n, M) Q = (am_AW d 82 (14, L, .int (am_z 0) :: st, n, M) Q) := am_AW_go rfl rfl rfl rfl
theorem w82_14 {L st : List Value} {h : Nat} {v : Value} : am_AW d 82 (14, L, v :: .ref h :: st, n, M) Q = (am_fit 0 v = true ∧ ∃ M', am_setf M h 5 16 v = some M' ∧ am_AW d 82 (17, L, st, n, M') Q) := am_AW_put rfl
theorem w82_17 {a1 a2 a3 : Value} {x : Nat} {st : List Value} : am_AW d 82 (17, [.ref x, a1, a2, a3], st, n, M) Q = (am_AW d 82 (18, [.ref x, a1, a2, a3], .ref x :: st, n, M) Q) := am_AW_go rfl rfl rfl rfl
theorem w82_18 {L st : List Value} : am_AW d 82 (18, L, st, n, M) Q = (am_AW d 82 (19, L, .int (am_z (-1)) :: st, n, M) Q) := am_AW_go rfl rfl rfl rfl
theorem w82_19 {L st : List Value} {h : Nat} {v : Value} : am_AW d 82 (19, L, v :: .ref h :: st, n, M) Q = (am_fit 0 v = true ∧ ∃ M', am_setf M h 5 8 v = some M' ∧ am_AW d 82 (22, L, st, n, M') Q) := am_AW_put rfl
theorem w82_22 {a1 a2 a3 : Value} {x : Nat} {st : List Value} : am_AW d 82 (22, [.ref x, a1, a2, a3], st, n, M) Q = (am_AW d 82 (23, [.ref x, a1, a2, a3], .ref x :: st, n, M) Q) := am_AW_go rfl rfl rfl rfl
theorem w82_23 {L st : List Value} {v0 : Value} : am_AW d 82 (23, L, v0 :: st, n, M) Q = (am_okA 1 (v0 :: st) = true ∧ am_isO M [v0] 5 = true ∧ am_Do d 93 [v0] n M (am_then d 82 26 0 L st n Q)) := am_AW_cv (i := 77) (x := 93) (y := 501) (z := 0) rfl
theorem w82_26 {L st : List Value} : am_AW d 82 (26, L, st, n, M) Q = (am_AW d 82 (27, L, .int (am_z 0) :: st, n, M) Q) := am_AW_go rfl rfl rfl rfl
theorem w82_27 {a0 a1 a2 a3 : Value} {x : Int32} {st : List Value} : am_AW d 82 (27, [a0, a1, a2, a3], .int x :: st, n, M) Q = (am_AW d 82 (28, [a0, a1, a2, .int x], st, n, M) Q) := am_AW_go rfl rfl rfl rfl
theorem w82_28 {a0 a1 a2 : Value} {x : Int32} {st : List Value} : am_AW d 82 (28, [a0, a1, a2, .int x], st, n, M) Q = (am_AW d 82 (29, [a0, a1, a2, .int x], .int x :: st, n, M) Q) := am_AW_go rfl rfl rfl rfl
theorem w82_29 {a0 a1 a3 : Value} {x : Int32} {st : List Value} : am_AW d 82 (29, [a0, a1, .int x, a3], st, n, M) Q = (am_AW d 82 (30, [a0, a1, .int x, a3], .int x :: st, n, M) Q) := am_AW_go rfl rfl rfl rfl
theorem w82_30 {L st : List Value} {x y : Int32} : am_AW d 82 (30, L, .int y :: .int x :: st, n, M) Q = (if x < y then am_AW d 82 (33, L, st, n, M) Q else am_AW d 82 (60, L, st, n, M) Q) := (am_AW_icmp rfl).trans am_ite_ge
theorem w82_33 {a0 a2 a3 : Value} {x : Nat} {st : List Value} : am_AW d 82 (33, [a0, .ref x, a2, a3], st, n, M) Q = (am_AW d 82 (34, [a0, .ref x, a2, a3], .ref x :: st, n, M) Q) := am_AW_go rfl rfl rfl rfl
theorem w82_34 {a0 a1 a2 : Value} {x : Int32} {st : List Value} : am_AW d 82 (34, [a0, a1, a2, .int x], st, n, M) Q = (am_AW d 82 (35, [a0, a1, a2, .int x], .int x :: st, n, M) Q) := am_AW_go rfl rfl rfl rfl
theorem w82_35 {L st : List Value} {h : Nat} {i : Int32} : am_AW d 82 (35, L, .int i :: .ref h :: st, n, M) Q = (∃ v, am_ald 1 M h i = some v ∧ am_AW d 82 (36, L, .int v :: st, n, M) Q) := am_AW_op (o := am_ald 1 M h i) (f := fun v => (36, L, .int v :: st, n, M)) rfl rfl (am_bm2 _ _ () ()) (fun _ => rfl)
theorem w82_36 {L st : List Value} : am_AW d 82 (36, L, st, n, M) Q = (am_AW d 82 (38, L, .int (am_z 32) :: st, n, M) Q) := am_AW_go rfl rfl rfl rfl
theorem w82_38 {L st : List Value} {x y : Int32} : am_AW d 82 (38, L, .int y :: .int x :: st, n, M) Q = (if x = y then am_AW d 82 (54, L, st, n, M) Q else am_AW d 82 (41, L, st, n, M) Q) := (am_AW_icmp rfl).trans am_ite_eq
theorem w82_41 {a1 a2 a3 : Value} {x : Nat} {st : List Value} : am_AW d 82 (41, [.ref x, a1, a2, a3], st, n, M) Q = (am_AW d 82 (42, [.ref x, a1, a2, a3], .ref x :: st, n, M) Q) := am_AW_go rfl rfl rfl rfl
theorem w82_42 {a0 a2 a3 : Value} {x : Nat} {st : List Value} : am_AW d 82 (42, [a0, .ref x, a2, a3], st, n, M) Q = (am_AW d 82 (43, [a0, .ref x, a2, a3], .ref x :: st, n, M) Q) := am_AW_go rfl rfl rfl rfl
theorem w82_43 {a0 a1 a2 : Value} {x : Int32} {st : List Value} : am_AW d 82 (43, [a0, a1, a2, .int x], st, n, M) Q = (am_AW d 82 (44, [a0, a1, a2, .int x], .int x :: st, n, M) Q) := am_AW_go rfl rfl rfl rfl
theorem w82_44 {L st : List Value} {h : Nat} {i : Int32} : am_AW d 82 (44, L, .int i :: .ref h :: st, n, M) Q = (∃ v, am_ald 1 M h i = some v ∧ am_AW d 82 (45, L, .int v :: st, n, M) Q) := am_AW_op (o := am_ald 1 M h i) (f := fun v => (45, L, .int v :: st, n, M)) rfl rfl (am_bm2 _ _ () ()) (fun _ => rfl)
theorem w82_45 {a0 a1 a2 : Value} {x : Int32} {st : List Value} : am_AW d 82 (45, [a0, a1, a2, .int x], st, n, M) Q = (am_AW d 82 (46, [a0, a1, a2, .int x], .int x :: st, n, M) Q) := am_AW_go rfl rfl rfl rfl
theorem w82_46 {L st : List Value} {v0 v1 v2 : Value} : am_AW d 82 (46, L, v0 :: v1 :: v2 :: st, n, M) Q = (am_okA 3 (v0 :: v1 :: v2 :: st) = true ∧ am_isO M [v2, v1, v0] 5 = true ∧ am_Do d 83 [v2, v1, v0] n M (am_then d 82 49 0 L st n Q)) := am_AW_cv (i := 80) (x := 83) (y := 503) (z := 0) rfl
theorem w82_49 {L st : List Value} {x : Int32} : am_AW d 82 (49, L, .int x :: st, n, M) Q = (if x = am_z 0 then am_AW d 82 (52, L, st, n, M) Q else am_AW d 82 (54, L, st, n, M) Q) := (am_AW_ifz rfl).trans am_ite_ne
theorem w82_52 {L st : List Value} : am_AW d 82 (52, L, st, n, M) Q = (am_AW d 82 (53, L, .int (am_z 0) :: st, n, M) Q) := am_AW_go rfl rfl rfl rfl
theorem w82_53 {L : List Value} {x : Int32} (hf : am_fit 1 (.int x) = true) : am_AW d 82 (53, L, [.int x], n, M) Q = (Q (some (.int x)) n M) := am_AW_ret (rv := (some (.int x), n)) rfl rfl (if_pos hf) (am_mono_self n)
theorem w82_54 {a0 a1 a2 : Value} {x : Int32} {st : List Value} : am_AW d 82 (54, [a0, a1, a2, .int x], st, n, M) Q = (am_AW d 82 (57, [a0, a1, a2, .int (x + (am_z 1))], st, n, M) Q) := am_AW_go rfl rfl rfl rfl
theorem w82_57 {L st : List Value} : am_AW d 82 (57, L, st, n, M) Q = (am_AW d 82 (28, L, st, n, M) Q) := am_AW_go rfl rfl rfl rfl
theorem w82_60 {a1 a2 a3 : Value} {x : Nat} {st : List Value} : am_AW d 82 (60, [.ref x, a1, a2, a3], st, n, M) Q = (am_AW d 82 (61, [.ref x, a1, a2, a3], .ref x :: st, n, M) Q) := am_AW_go rfl rfl rfl rfl
theorem w82_61 {L st : List Value} {h : Nat} : am_AW d 82 (61, L, .ref h :: st, n, M) Q = (∃ v, am_fld M h 5 6 = some v ∧ am_AW d 82 (64, L, v :: st, n, M) Q) := am_AW_op (o := am_fld M h 5 6) (f := fun v => (64, L, v :: st, n, M)) rfl rfl (am_bm _ _) (fun _ => rfl)
theorem w82_64 {L st : List Value} : am_AW d 82 (64, L, st, n, M) Q = (am_AW d 82 (65, L, .int (am_z 1) :: st, n, M) Q) := am_AW_go rfl rfl rfl rfl
theorem w82_65 {L st : List Value} {x y : Int32} : am_AW d 82 (65, L, .int y :: .int x :: st, n, M) Q = (if x = y then am_AW d 82 (68, L, st, n, M) Q else am_AW d 82 (75, L, st, n, M) Q) := (am_AW_icmp rfl).trans am_ite_ne
theorem w82_68 {a1 a2 a3 : Value} {x : Nat} {st : List Value} : am_AW d 82 (68, [.ref x, a1, a2, a3], st, n, M) Q = (am_AW d 82 (69, [.ref x, a1, a2, a3], .ref x :: st, n, M) Q) := am_AW_go rfl rfl rfl rfl
theorem w82_69 {L st : List Value} {h : Nat} : am_AW d 82 (69, L, .ref h :: st, n, M) Q = (∃ v, am_fld M h 5 16 = some v ∧ am_AW d 82 (72, L, v :: st, n, M) Q) := am_AW_op (o := am_fld M h 5 16) (f := fun v => (72, L, v :: st, n, M)) rfl rfl (am_bm _ _) (fun _ => rfl)
theorem w82_72 {L st : List Value} {x : Int32} : am_AW d 82 (72, L, .int x :: st, n, M) Q = (if x ≤ am_z 0 then am_AW d 82 (86, L, st, n, M) Q else am_AW d 82 (75, L, st, n, M) Q) := (am_AW_ifz rfl).trans am_ite_le
theorem w82_75 {a1 a2 a3 : Value} {x : Nat} {st : List Value} : am_AW d 82 (75, [.ref x, a1, a2, a3], st, n, M) Q = (am_AW d 82 (76, [.ref x, a1, a2, a3], .ref x :: st, n, M) Q) := am_AW_go rfl rfl rfl rfl
theorem w82_76 {L st : List Value} {h : Nat} : am_AW d 82 (76, L, .ref h :: st, n, M) Q = (∃ v, am_fld M h 5 1 = some v ∧ am_AW d 82 (79, L, v :: st, n, M) Q) := am_AW_op (o := am_fld M h 5 1) (f := fun v => (79, L, v :: st, n, M)) rfl rfl (am_bm _ _) (fun _ => rfl)
theorem w82_79 {L st : List Value} : am_AW d 82 (79, L, st, n, M) Q = (am_AW d 82 (81, L, .int (am_z (-2)) :: st, n, M) Q) := am_AW_go rfl rfl rfl rfl
theorem w82_81 {a0 a1 a3 : Value} {x : Int32} {st : List Value} : am_AW d 82 (81, [a0, a1, .int x, a3], st, n, M) Q = (am_AW d 82 (82, [a0, a1, .int x, a3], .int x :: st, n, M) Q) := am_AW_go rfl rfl rfl rfl
theorem w82_82 {L st : List Value} {v0 v1 v2 : Value} : am_AW d 82 (82, L, v0 :: v1 :: v2 :: st, n, M) Q = (am_okA 3 (v0 :: v1 :: v2 :: st) = true ∧ am_isO M [v2, v1, v0] 2 = true ∧ am_Do d 77 [v2, v1, v0] n M (am_then d 82 85 0 L st n Q)) := am_AW_cv (i := 84) (x := 77) (y := 203) (z := 0) rfl
theorem w82_85 {L : List Value} {x : Int32} (hf : am_fit 1 (.int x) = true) : am_AW d 82 (85, L, [.int x], n, M) Q = (Q (some (.int x)) n M) := am_AW_ret (rv := (some (.int x), n)) rfl rfl (if_pos hf) (am_mono_self n)
theorem w82_86 {L st : List Value} : am_AW d 82 (86, L, st, n, M) Q = (am_AW d 82 (87, L, .int (am_z 1) :: st, n, M) Q) := am_AW_go rfl rfl rfl rfl
theorem w82_87 {L : List Value} {x : Int32} (hf : am_fit 1 (.int x) = true) : am_AW d 82 (87, L, [.int x], n, M) Q = (Q (some (.int x)) n M) := am_AW_ret (rv := (some (.int x), n)) rfl rfl (if_pos hf) (am_mono_self n)
end W82
section W83
variable {d : Nat} {n : am_N} {M : am_M} {Q : Option Value → am_N → am_M → Prop}
theorem w83_0 {a1 a2 : Value} {x : Nat} {st : List Value} : am_AW d 83 (0, [.ref x, a1, a2], st, n, M) Q = (am_AW d 83 (1, [.ref x, a1, a2], .ref x :: st, n, M) Q) := am_AW_go rfl rfl rfl rfl
theorem w83_1 {L st : List Value} {h : Nat} : am_AW d 83 (1, L, .ref h :: st, n, M) Q = (∃ v, am_fld M h 5 6 = some v ∧ am_AW d 83 (4, L, v :: st, n, M) Q) := am_AW_op (o := am_fld M h 5 6) (f := fun v => (4, L, v :: st, n, M)) rfl rfl (am_bm _ _) (fun _ => rfl)
theorem w83_4 {L st : List Value} : am_AW d 83 (4, L, st, n, M) Q = (am_AW d 83 (5, L, .int (am_z 2) :: st, n, M) Q) := am_AW_go rfl rfl rfl rfl
theorem w83_5 {L st : List Value} {x y : Int32} : am_AW d 83 (5, L, .int y :: .int x :: st, n, M) Q = (if x = y then am_AW d 83 (8, L, st, n, M) Q else am_AW d 83 (15, L, st, n, M) Q) := (am_AW_icmp rfl).trans am_ite_ne
theorem w83_8 {a1 a2 : Value} {x : Nat} {st : List Value} : am_AW d 83 (8, [.ref x, a1, a2], st, n, M) Q = (am_AW d 83 (9, [.ref x, a1, a2], .ref x :: st, n, M) Q) := am_AW_go rfl rfl rfl rfl
theorem w83_9 {a0 a2 : Value} {x : Int32} {st : List Value} : am_AW d 83 (9, [a0, .int x, a2], st, n, M) Q = (am_AW d 83 (10, [a0, .int x, a2], .int x :: st, n, M) Q) := am_AW_go rfl rfl rfl rfl
theorem w83_10 {a0 a1 : Value} {x : Int32} {st : List Value} : am_AW d 83 (10, [a0, a1, .int x], st, n, M) Q = (am_AW d 83 (11, [a0, a1, .int x], .int x :: st, n, M) Q) := am_AW_go rfl rfl rfl rfl
theorem w83_11 {L st : List Value} {v0 v1 v2 : Value} : am_AW d 83 (11, L, v0 :: v1 :: v2 :: st, n, M) Q = (am_okA 3 (v0 :: v1 :: v2 :: st) = true ∧ am_isO M [v2, v1, v0] 5 = true ∧ am_Do d 84 [v2, v1, v0] n M (am_then d 83 14 0 L st n Q)) := am_AW_cv (i := 90) (x := 84) (y := 503) (z := 0) rfl
theorem w83_14 {L : List Value} {x : Int32} (hf : am_fit 1 (.int x) = true) : am_AW d 83 (14, L, [.int x], n, M) Q = (Q (some (.int x)) n M) := am_AW_ret (rv := (some (.int x), n)) rfl rfl (if_pos hf) (am_mono_self n)
theorem w83_15 {a1 a2 : Value} {x : Nat} {st : List Value} : am_AW d 83 (15, [.ref x, a1, a2], st, n, M) Q = (am_AW d 83 (16, [.ref x, a1, a2], .ref x :: st, n, M) Q) := am_AW_go rfl rfl rfl rfl
theorem w83_16 {L st : List Value} {h : Nat} : am_AW d 83 (16, L, .ref h :: st, n, M) Q = (∃ v, am_fld M h 5 6 = some v ∧ am_AW d 83 (19, L, v :: st, n, M) Q) := am_AW_op (o := am_fld M h 5 6) (f := fun v => (19, L, v :: st, n, M)) rfl rfl (am_bm _ _) (fun _ => rfl)
theorem w83_19 {L st : List Value} : am_AW d 83 (19, L, st, n, M) Q = (am_AW d 83 (20, L, .int (am_z 3) :: st, n, M) Q) := am_AW_go rfl rfl rfl rfl
theorem w83_20 {L st : List Value} {x y : Int32} : am_AW d 83 (20, L, .int y :: .int x :: st, n, M) Q = (if x = y then am_AW d 83 (23, L, st, n, M) Q else am_AW d 83 (30, L, st, n, M) Q) := (am_AW_icmp rfl).trans am_ite_ne
theorem w83_23 {a1 a2 : Value} {x : Nat} {st : List Value} : am_AW d 83 (23, [.ref x, a1, a2], st, n, M) Q = (am_AW d 83 (24, [.ref x, a1, a2], .ref x :: st, n, M) Q) := am_AW_go rfl rfl rfl rfl
theorem w83_24 {a0 a2 : Value} {x : Int32} {st : List Value} : am_AW d 83 (24, [a0, .int x, a2], st, n, M) Q = (am_AW d 83 (25, [a0, .int x, a2], .int x :: st, n, M) Q) := am_AW_go rfl rfl rfl rfl
theorem w83_25 {a0 a1 : Value} {x : Int32} {st : List Value} : am_AW d 83 (25, [a0, a1, .int x], st, n, M) Q = (am_AW d 83 (26, [a0, a1, .int x], .int x :: st, n, M) Q) := am_AW_go rfl rfl rfl rfl
theorem w83_26 {L st : List Value} {v0 v1 v2 : Value} : am_AW d 83 (26, L, v0 :: v1 :: v2 :: st, n, M) Q = (am_okA 3 (v0 :: v1 :: v2 :: st) = true ∧ am_isO M [v2, v1, v0] 5 = true ∧ am_Do d 85 [v2, v1, v0] n M (am_then d 83 29 0 L st n Q)) := am_AW_cv (i := 93) (x := 85) (y := 503) (z := 0) rfl
theorem w83_29 {L : List Value} {x : Int32} (hf : am_fit 1 (.int x) = true) : am_AW d 83 (29, L, [.int x], n, M) Q = (Q (some (.int x)) n M) := am_AW_ret (rv := (some (.int x), n)) rfl rfl (if_pos hf) (am_mono_self n)
theorem w83_30 {a0 a2 : Value} {x : Int32} {st : List Value} : am_AW d 83 (30, [a0, .int x, a2], st, n, M) Q = (am_AW d 83 (31, [a0, .int x, a2], .int x :: st, n, M) Q) := am_AW_go rfl rfl rfl rfl
theorem w83_31 {L st : List Value} : am_AW d 83 (31, L, st, n, M) Q = (am_AW d 83 (33, L, .int (am_z 40) :: st, n, M) Q) := am_AW_go rfl rfl rfl rfl
theorem w83_33 {L st : List Value} {x y : Int32} : am_AW d 83 (33, L, .int y :: .int x :: st, n, M) Q = (if x = y then am_AW d 83 (36, L, st, n, M) Q else am_AW d 83 (45, L, st, n, M) Q) := (am_AW_icmp rfl).trans am_ite_ne
theorem w83_36 {a1 a2 : Value} {x : Nat} {st : List Value} : am_AW d 83 (36, [.ref x, a1, a2], st, n, M) Q = (am_AW d 83 (37, [.ref x, a1, a2], .ref x :: st, n, M) Q) := am_AW_go rfl rfl rfl rfl
theorem w83_37 {L st : List Value} : am_AW d 83 (37, L, st, n, M) Q = (am_AW d 83 (39, L, .int (am_z 41) :: st, n, M) Q) := am_AW_go rfl rfl rfl rfl
theorem w83_39 {a0 a1 : Value} {x : Int32} {st : List Value} : am_AW d 83 (39, [a0, a1, .int x], st, n, M) Q = (am_AW d 83 (40, [a0, a1, .int x], .int x :: st, n, M) Q) := am_AW_go rfl rfl rfl rfl
theorem w83_40 {L st : List Value} {v0 v1 v2 : Value} : am_AW d 83 (40, L, v0 :: v1 :: v2 :: st, n, M) Q = (am_okA 3 (v0 :: v1 :: v2 :: st) = true ∧ am_isO M [v2, v1, v0] 5 = true ∧ am_Do d 99 [v2, v1, v0] n M (am_then d 83 43 0 L st n Q)) := am_AW_cv (i := 96) (x := 99) (y := 503) (z := 0) rfl
theorem w83_43 {L st : List Value} : am_AW d 83 (43, L, st, n, M) Q = (am_AW d 83 (44, L, .int (am_z 1) :: st, n, M) Q) := am_AW_go rfl rfl rfl rfl
theorem w83_44 {L : List Value} {x : Int32} (hf : am_fit 1 (.int x) = true) : am_AW d 83 (44, L, [.int x], n, M) Q = (Q (some (.int x)) n M) := am_AW_ret (rv := (some (.int x), n)) rfl rfl (if_pos hf) (am_mono_self n)
theorem w83_45 {a1 a2 : Value} {x : Nat} {st : List Value} : am_AW d 83 (45, [.ref x, a1, a2], st, n, M) Q = (am_AW d 83 (46, [.ref x, a1, a2], .ref x :: st, n, M) Q) := am_AW_go rfl rfl rfl rfl
theorem w83_46 {L st : List Value} {h : Nat} : am_AW d 83 (46, L, .ref h :: st, n, M) Q = (∃ v, am_fld M h 5 6 = some v ∧ am_AW d 83 (49, L, v :: st, n, M) Q) := am_AW_op (o := am_fld M h 5 6) (f := fun v => (49, L, v :: st, n, M)) rfl rfl (am_bm _ _) (fun _ => rfl)
theorem w83_49 {L st : List Value} {x : Int32} : am_AW d 83 (49, L, .int x :: st, n, M) Q = (if x = am_z 0 then am_AW d 83 (52, L, st, n, M) Q else am_AW d 83 (87, L, st, n, M) Q) := (am_AW_ifz rfl).trans am_ite_ne
theorem w83_52 {a0 a2 : Value} {x : Int32} {st : List Value} : am_AW d 83 (52, [a0, .int x, a2], st, n, M) Q = (am_AW d 83 (53, [a0, .int x, a2], .int x :: st, n, M) Q) := am_AW_go rfl rfl rfl rfl
theorem w83_53 {L st : List Value} : am_AW d 83 (53, L, st, n, M) Q = (am_AW d 83 (55, L, .int (am_z 92) :: st, n, M) Q) := am_AW_go rfl rfl rfl rfl
theorem w83_55 {L st : List Value} {x y : Int32} : am_AW d 83 (55, L, .int y :: .int x :: st, n, M) Q = (if x = y then am_AW d 83 (64, L, st, n, M) Q else am_AW d 83 (58, L, st, n, M) Q) := (am_AW_icmp rfl).trans am_ite_eq
theorem w83_58 {a0 a2 : Value} {x : Int32} {st : List Value} : am_AW d 83 (58, [a0, .int x, a2], st, n, M) Q = (am_AW d 83 (59, [a0, .int x, a2], .int x :: st, n, M) Q) := am_AW_go rfl rfl rfl rfl
theorem w83_59 {L st : List Value} : am_AW d 83 (59, L, st, n, M) Q = (am_AW d 83 (61, L, .int (am_z 33) :: st, n, M) Q) := am_AW_go rfl rfl rfl rfl
theorem w83_61 {L st : List Value} {x y : Int32} : am_AW d 83 (61, L, .int y :: .int x :: st, n, M) Q = (if x = y then am_AW d 83 (64, L, st, n, M) Q else am_AW d 83 (87, L, st, n, M) Q) := (am_AW_icmp rfl).trans am_ite_ne
theorem w83_64 {a1 a2 : Value} {x : Nat} {st : List Value} : am_AW d 83 (64, [.ref x, a1, a2], st, n, M) Q = (am_AW d 83 (65, [.ref x, a1, a2], .ref x :: st, n, M) Q) := am_AW_go rfl rfl rfl rfl
theorem w83_65 {a0 a2 : Value} {x : Int32} {st : List Value} : am_AW d 83 (65, [a0, .int x, a2], st, n, M) Q = (am_AW d 83 (66, [a0, .int x, a2], .int x :: st, n, M) Q) := am_AW_go rfl rfl rfl rfl
theorem w83_66 {L st : List Value} : am_AW d 83 (66, L, st, n, M) Q = (am_AW d 83 (68, L, .int (am_z 33) :: st, n, M) Q) := am_AW_go rfl rfl rfl rfl
theorem w83_68 {L st : List Value} {x y : Int32} : am_AW d 83 (68, L, .int y :: .int x :: st, n, M) Q = (if x = y then am_AW d 83 (71, L, st, n, M) Q else am_AW d 83 (75, L, st, n, M) Q) := (am_AW_icmp rfl).trans am_ite_ne
theorem w83_71 {L st : List Value} : am_AW d 83 (71, L, st, n, M) Q = (am_AW d 83 (72, L, .int (am_z 2) :: st, n, M) Q) := am_AW_go rfl rfl rfl rfl
theorem w83_72 {L st : List Value} : am_AW d 83 (72, L, st, n, M) Q = (am_AW d 83 (76, L, st, n, M) Q) := am_AW_go rfl rfl rfl rfl
theorem w83_75 {L st : List Value} : am_AW d 83 (75, L, st, n, M) Q = (am_AW d 83 (76, L, .int (am_z 1) :: st, n, M) Q) := am_AW_go rfl rfl rfl rfl
theorem w83_76 {a0 a1 : Value} {x : Int32} {st : List Value} : am_AW d 83 (76, [a0, a1, .int x], st, n, M) Q = (am_AW d 83 (77, [a0, a1, .int x], .int x :: st, n, M) Q) := am_AW_go rfl rfl rfl rfl
theorem w83_77 {L st : List Value} {v0 v1 v2 : Value} : am_AW d 83 (77, L, v0 :: v1 :: v2 :: st, n, M) Q = (am_okA 3 (v0 :: v1 :: v2 :: st) = true ∧ am_isO M [v2, v1, v0] 5 = true ∧ am_Do d 94 [v2, v1, v0] n M (am_then d 83 80 0 L st n Q)) := am_AW_cv (i := 100) (x := 94) (y := 503) (z := 0) rfl
theorem w83_80 {a1 a2 : Value} {x : Nat} {st : List Value} : am_AW d 83 (80, [.ref x, a1, a2], st, n, M) Q = (am_AW d 83 (81, [.ref x, a1, a2], .ref x :: st, n, M) Q) := am_AW_go rfl rfl rfl rfl
theorem w83_81 {L st : List Value} : am_AW d 83 (81, L, st, n, M) Q = (am_AW d 83 (82, L, .int (am_z 2) :: st, n, M) Q) := am_AW_go rfl rfl rfl rfl
theorem w83_82 {L st : List Value} {h : Nat} {v : Value} : am_AW d 83 (82, L, v :: .ref h :: st, n, M) Q = (am_fit 0 v = true ∧ ∃ M', am_setf M h 5 6 v = some M' ∧ am_AW d 83 (85, L, st, n, M') Q) := am_AW_put rfl
theorem w83_85 {L st : List Value} : am_AW d 83 (85, L, st, n, M) Q = (am_AW d 83 (86, L, .int (am_z 1) :: st, n, M) Q) := am_AW_go rfl rfl rfl rfl
theorem w83_86 {L : List Value} {x : Int32} (hf : am_fit 1 (.int x) = true) : am_AW d 83 (86, L, [.int x], n, M) Q = (Q (some (.int x)) n M) := am_AW_ret (rv := (some (.int x), n)) rfl rfl (if_pos hf) (am_mono_self n)
theorem w83_87 {a1 a2 : Value} {x : Nat} {st : List Value} : am_AW d 83 (87, [.ref x, a1, a2], st, n, M) Q = (am_AW d 83 (88, [.ref x, a1, a2], .ref x :: st, n, M) Q) := am_AW_go rfl rfl rfl rfl
theorem w83_88 {L st : List Value} {h : Nat} : am_AW d 83 (88, L, .ref h :: st, n, M) Q = (∃ v, am_fld M h 5 6 = some v ∧ am_AW d 83 (91, L, v :: st, n, M) Q) := am_AW_op (o := am_fld M h 5 6) (f := fun v => (91, L, v :: st, n, M)) rfl rfl (am_bm _ _) (fun _ => rfl)
theorem w83_91 {L st : List Value} : am_AW d 83 (91, L, st, n, M) Q = (am_AW d 83 (92, L, .int (am_z 1) :: st, n, M) Q) := am_AW_go rfl rfl rfl rfl
theorem w83_92 {L st : List Value} {x y : Int32} : am_AW d 83 (92, L, .int y :: .int x :: st, n, M) Q = (if x = y then am_AW d 83 (95, L, st, n, M) Q else am_AW d 83 (117, L, st, n, M) Q) := (am_AW_icmp rfl).trans am_ite_ne
theorem w83_95 {a0 a2 : Value} {x : Int32} {st : List Value} : am_AW d 83 (95, [a0, .int x, a2], st, n, M) Q = (am_AW d 83 (96, [a0, .int x, a2], .int x :: st, n, M) Q) := am_AW_go rfl rfl rfl rfl
theorem w83_96 {L st : List Value} : am_AW d 83 (96, L, st, n, M) Q = (am_AW d 83 (98, L, .int (am_z 62) :: st, n, M) Q) := am_AW_go rfl rfl rfl rfl
theorem w83_98 {L st : List Value} {x y : Int32} : am_AW d 83 (98, L, .int y :: .int x :: st, n, M) Q = (if x = y then am_AW d 83 (101, L, st, n, M) Q else am_AW d 83 (117, L, st, n, M) Q) := (am_AW_icmp rfl).trans am_ite_ne
theorem w83_101 {a1 a2 : Value} {x : Nat} {st : List Value} : am_AW d 83 (101, [.ref x, a1, a2], st, n, M) Q = (am_AW d 83 (102, [.ref x, a1, a2], .ref x :: st, n, M) Q) := am_AW_go rfl rfl rfl rfl
theorem w83_102 {L st : List Value} : am_AW d 83 (102, L, st, n, M) Q = (am_AW d 83 (103, L, .int (am_z 2) :: st, n, M) Q) := am_AW_go rfl rfl rfl rfl
theorem w83_103 {L st : List Value} {v0 v1 : Value} : am_AW d 83 (103, L, v0 :: v1 :: st, n, M) Q = (am_okA 2 (v0 :: v1 :: st) = true ∧ am_isO M [v1, v0] 5 = true ∧ am_Do d 97 [v1, v0] n M (am_then d 83 106 0 L st n Q)) := am_AW_cv (i := 104) (x := 97) (y := 502) (z := 0) rfl
theorem w83_106 {a1 a2 : Value} {x : Nat} {st : List Value} : am_AW d 83 (106, [.ref x, a1, a2], st, n, M) Q = (am_AW d 83 (107, [.ref x, a1, a2], .ref x :: st, n, M) Q) := am_AW_go rfl rfl rfl rfl
theorem w83_107 {L st : List Value} : am_AW d 83 (107, L, st, n, M) Q = (am_AW d 83 (108, L, .int (am_z 0) :: st, n, M) Q) := am_AW_go rfl rfl rfl rfl
theorem w83_108 {L st : List Value} {v0 v1 : Value} : am_AW d 83 (108, L, v0 :: v1 :: st, n, M) Q = (am_okA 2 (v0 :: v1 :: st) = true ∧ am_isO M [v1, v0] 5 = true ∧ am_Do d 98 [v1, v0] n M (am_then d 83 111 0 L st n Q)) := am_AW_cv (i := 107) (x := 98) (y := 502) (z := 0) rfl
theorem w83_111 {a1 a2 : Value} {x : Nat} {st : List Value} : am_AW d 83 (111, [.ref x, a1, a2], st, n, M) Q = (am_AW d 83 (112, [.ref x, a1, a2], .ref x :: st, n, M) Q) := am_AW_go rfl rfl rfl rfl
theorem w83_112 {L st : List Value} {v0 : Value} : am_AW d 83 (112, L, v0 :: st, n, M) Q = (am_okA 1 (v0 :: st) = true ∧ am_isO M [v0] 5 = true ∧ am_Do d 93 [v0] n M (am_then d 83 115 0 L st n Q)) := am_AW_cv (i := 77) (x := 93) (y := 501) (z := 0) rfl
theorem w83_115 {L st : List Value} : am_AW d 83 (115, L, st, n, M) Q = (am_AW d 83 (116, L, .int (am_z 1) :: st, n, M) Q) := am_AW_go rfl rfl rfl rfl
theorem w83_116 {L : List Value} {x : Int32} (hf : am_fit 1 (.int x) = true) : am_AW d 83 (116, L, [.int x], n, M) Q = (Q (some (.int x)) n M) := am_AW_ret (rv := (some (.int x), n)) rfl rfl (if_pos hf) (am_mono_self n)
theorem w83_117 {a1 a2 : Value} {x : Nat} {st : List Value} : am_AW d 83 (117, [.ref x, a1, a2], st, n, M) Q = (am_AW d 83 (118, [.ref x, a1, a2], .ref x :: st, n, M) Q) := am_AW_go rfl rfl rfl rfl
theorem w83_118 {L st : List Value} {h : Nat} : am_AW d 83 (118, L, .ref h :: st, n, M) Q = (∃ v, am_fld M h 5 6 = some v ∧ am_AW d 83 (121, L, v :: st, n, M) Q) := am_AW_op (o := am_fld M h 5 6) (f := fun v => (121, L, v :: st, n, M)) rfl rfl (am_bm _ _) (fun _ => rfl)
theorem w83_121 {L st : List Value} : am_AW d 83 (121, L, st, n, M) Q = (am_AW d 83 (122, L, .int (am_z 1) :: st, n, M) Q) := am_AW_go rfl rfl rfl rfl
theorem w83_122 {L st : List Value} {x y : Int32} : am_AW d 83 (122, L, .int y :: .int x :: st, n, M) Q = (if x = y then am_AW d 83 (125, L, st, n, M) Q else am_AW d 83 (153, L, st, n, M) Q) := (am_AW_icmp rfl).trans am_ite_ne
theorem w83_125 {a1 a2 : Value} {x : Nat} {st : List Value} : am_AW d 83 (125, [.ref x, a1, a2], st, n, M) Q = (am_AW d 83 (126, [.ref x, a1, a2], .ref x :: st, n, M) Q) := am_AW_go rfl rfl rfl rfl
theorem w83_126 {L st : List Value} {h : Nat} : am_AW d 83 (126, L, .ref h :: st, n, M) Q = (∃ v, am_fld M h 5 16 = some v ∧ am_AW d 83 (129, L, v :: st, n, M) Q) := am_AW_op (o := am_fld M h 5 16) (f := fun v => (129, L, v :: st, n, M)) rfl rfl (am_bm _ _) (fun _ => rfl)
theorem w83_129 {L st : List Value} {x : Int32} : am_AW d 83 (129, L, .int x :: st, n, M) Q = (if x ≤ am_z 0 then am_AW d 83 (153, L, st, n, M) Q else am_AW d 83 (132, L, st, n, M) Q) := (am_AW_ifz rfl).trans am_ite_le
theorem w83_132 {a0 a2 : Value} {x : Int32} {st : List Value} : am_AW d 83 (132, [a0, .int x, a2], st, n, M) Q = (am_AW d 83 (133, [a0, .int x, a2], .int x :: st, n, M) Q) := am_AW_go rfl rfl rfl rfl
theorem w83_133 {a1 a2 : Value} {x : Nat} {st : List Value} : am_AW d 83 (133, [.ref x, a1, a2], st, n, M) Q = (am_AW d 83 (134, [.ref x, a1, a2], .ref x :: st, n, M) Q) := am_AW_go rfl rfl rfl rfl
theorem w83_134 {L st : List Value} {h : Nat} : am_AW d 83 (134, L, .ref h :: st, n, M) Q = (∃ v, am_fld M h 5 10 = some v ∧ am_AW d 83 (137, L, v :: st, n, M) Q) := am_AW_op (o := am_fld M h 5 10) (f := fun v => (137, L, v :: st, n, M)) rfl rfl (am_bm _ _) (fun _ => rfl)
theorem w83_137 {a1 a2 : Value} {x : Nat} {st : List Value} : am_AW d 83 (137, [.ref x, a1, a2], st, n, M) Q = (am_AW d 83 (138, [.ref x, a1, a2], .ref x :: st, n, M) Q) := am_AW_go rfl rfl rfl rfl
theorem w83_138 {L st : List Value} {h : Nat} : am_AW d 83 (138, L, .ref h :: st, n, M) Q = (∃ v, am_fld M h 5 16 = some v ∧ am_AW d 83 (141, L, v :: st, n, M) Q) := am_AW_op (o := am_fld M h 5 16) (f := fun v => (141, L, v :: st, n, M)) rfl rfl (am_bm _ _) (fun _ => rfl)
theorem w83_141 {L st : List Value} : am_AW d 83 (141, L, st, n, M) Q = (am_AW d 83 (142, L, .int (am_z 1) :: st, n, M) Q) := am_AW_go rfl rfl rfl rfl
theorem w83_142 {L st : List Value} {x y : Int32} : am_AW d 83 (142, L, .int y :: .int x :: st, n, M) Q = (am_AW d 83 (143, L, .int (x - y) :: st, n, M) Q) := am_AW_go rfl rfl rfl rfl
theorem w83_143 {L st : List Value} {h : Nat} {i : Int32} : am_AW d 83 (143, L, .int i :: .ref h :: st, n, M) Q = (∃ v, am_ald 1 M h i = some v ∧ am_AW d 83 (144, L, .int v :: st, n, M) Q) := am_AW_op (o := am_ald 1 M h i) (f := fun v => (144, L, .int v :: st, n, M)) rfl rfl (am_bm2 _ _ () ()) (fun _ => rfl)
theorem w83_144 {L st : List Value} {x y : Int32} : am_AW d 83 (144, L, .int y :: .int x :: st, n, M) Q = (if x = y then am_AW d 83 (147, L, st, n, M) Q else am_AW d 83 (153, L, st, n, M) Q) := (am_AW_icmp rfl).trans am_ite_ne
theorem w83_147 {a1 a2 : Value} {x : Nat} {st : List Value} : am_AW d 83 (147, [.ref x, a1, a2], st, n, M) Q = (am_AW d 83 (148, [.ref x, a1, a2], .ref x :: st, n, M) Q) := am_AW_go rfl rfl rfl rfl
theorem w83_148 {L st : List Value} {v0 : Value} : am_AW d 83 (148, L, v0 :: st, n, M) Q = (am_okA 1 (v0 :: st) = true ∧ am_isO M [v0] 5 = true ∧ am_Do d 100 [v0] n M (am_then d 83 151 0 L st n Q)) := am_AW_cv (i := 111) (x := 100) (y := 501) (z := 0) rfl
theorem w83_151 {L st : List Value} : am_AW d 83 (151, L, st, n, M) Q = (am_AW d 83 (152, L, .int (am_z 1) :: st, n, M) Q) := am_AW_go rfl rfl rfl rfl
theorem w83_152 {L : List Value} {x : Int32} (hf : am_fit 1 (.int x) = true) : am_AW d 83 (152, L, [.int x], n, M) Q = (Q (some (.int x)) n M) := am_AW_ret (rv := (some (.int x), n)) rfl rfl (if_pos hf) (am_mono_self n)
theorem w83_153 {a0 a2 : Value} {x : Int32} {st : List Value} : am_AW d 83 (153, [a0, .int x, a2], st, n, M) Q = (am_AW d 83 (154, [a0, .int x, a2], .int x :: st, n, M) Q) := am_AW_go rfl rfl rfl rfl
theorem w83_154 {L st : List Value} {v0 : Value} : am_AW d 83 (154, L, v0 :: st, n, M) Q = (am_okA 1 (v0 :: st) = true ∧ am_Do d 92 [v0] n M (am_then d 83 157 0 L st n Q)) := am_AW_cs (i := 114) (x := 92) (y := 1) (z := 0) rfl
theorem w83_157 {L st : List Value} {x : Int32} : am_AW d 83 (157, L, .int x :: st, n, M) Q = (if x = am_z 0 then am_AW d 83 (172, L, st, n, M) Q else am_AW d 83 (160, L, st, n, M) Q) := (am_AW_ifz rfl).trans am_ite_eq
theorem w83_160 {a1 a2 : Value} {x : Nat} {st : List Value} : am_AW d 83 (160, [.ref x, a1, a2], st, n, M) Q = (am_AW d 83 (161, [.ref x, a1, a2], .ref x :: st, n, M) Q) := am_AW_go rfl rfl rfl rfl
theorem w83_161 {a0 a2 : Value} {x : Int32} {st : List Value} : am_AW d 83 (161, [a0, .int x, a2], st, n, M) Q = (am_AW d 83 (162, [a0, .int x, a2], .int x :: st, n, M) Q) := am_AW_go rfl rfl rfl rfl
theorem w83_162 {L st : List Value} : am_AW d 83 (162, L, st, n, M) Q = (am_AW d 83 (164, L, .int (am_z 48) :: st, n, M) Q) := am_AW_go rfl rfl rfl rfl
theorem w83_164 {L st : List Value} {x y : Int32} : am_AW d 83 (164, L, .int y :: .int x :: st, n, M) Q = (am_AW d 83 (165, L, .int (x - y) :: st, n, M) Q) := am_AW_go rfl rfl rfl rfl
theorem w83_165 {a0 a1 : Value} {x : Int32} {st : List Value} : am_AW d 83 (165, [a0, a1, .int x], st, n, M) Q = (am_AW d 83 (166, [a0, a1, .int x], .int x :: st, n, M) Q) := am_AW_go rfl rfl rfl rfl
theorem w83_166 {L st : List Value} {v0 v1 v2 : Value} : am_AW d 83 (166, L, v0 :: v1 :: v2 :: st, n, M) Q = (am_okA 3 (v0 :: v1 :: v2 :: st) = true ∧ am_isO M [v2, v1, v0] 5 = true ∧ am_Do d 86 [v2, v1, v0] n M (am_then d 83 169 0 L st n Q)) := am_AW_cv (i := 118) (x := 86) (y := 503) (z := 0) rfl
theorem w83_169 {L st : List Value} : am_AW d 83 (169, L, st, n, M) Q = (am_AW d 83 (178, L, st, n, M) Q) := am_AW_go rfl rfl rfl rfl
theorem w83_172 {a1 a2 : Value} {x : Nat} {st : List Value} : am_AW d 83 (172, [.ref x, a1, a2], st, n, M) Q = (am_AW d 83 (173, [.ref x, a1, a2], .ref x :: st, n, M) Q) := am_AW_go rfl rfl rfl rfl
theorem w83_173 {a0 a2 : Value} {x : Int32} {st : List Value} : am_AW d 83 (173, [a0, .int x, a2], st, n, M) Q = (am_AW d 83 (174, [a0, .int x, a2], .int x :: st, n, M) Q) := am_AW_go rfl rfl rfl rfl
theorem w83_174 {a0 a1 : Value} {x : Int32} {st : List Value} : am_AW d 83 (174, [a0, a1, .int x], st, n, M) Q = (am_AW d 83 (175, [a0, a1, .int x], .int x :: st, n, M) Q) := am_AW_go rfl rfl rfl rfl
theorem w83_175 {L st : List Value} {v0 v1 v2 : Value} : am_AW d 83 (175, L, v0 :: v1 :: v2 :: st, n, M) Q = (am_okA 3 (v0 :: v1 :: v2 :: st) = true ∧ am_isO M [v2, v1, v0] 5 = true ∧ am_Do d 87 [v2, v1, v0] n M (am_then d 83 178 0 L st n Q)) := am_AW_cv (i := 121) (x := 87) (y := 503) (z := 0) rfl
theorem w83_178 {L : List Value} {x : Int32} (hf : am_fit 1 (.int x) = true) : am_AW d 83 (178, L, [.int x], n, M) Q = (Q (some (.int x)) n M) := am_AW_ret (rv := (some (.int x), n)) rfl rfl (if_pos hf) (am_mono_self n)
end W83
section W84
variable {d : Nat} {n : am_N} {M : am_M} {Q : Option Value → am_N → am_M → Prop}
theorem w84_0 {a0 a2 : Value} {x : Int32} {st : List Value} : am_AW d 84 (0, [a0, .int x, a2], st, n, M) Q = (am_AW d 84 (1, [a0, .int x, a2], .int x :: st, n, M) Q) := am_AW_go rfl rfl rfl rfl
theorem w84_1 {L st : List Value} {v0 : Value} : am_AW d 84 (1, L, v0 :: st, n, M) Q = (am_okA 1 (v0 :: st) = true ∧ am_Do d 90 [v0] n M (am_then d 84 4 0 L st n Q)) := am_AW_cs (i := 124) (x := 90) (y := 1) (z := 0) rfl
theorem w84_4 {L st : List Value} {x : Int32} : am_AW d 84 (4, L, .int x :: st, n, M) Q = (if x = am_z 0 then am_AW d 84 (7, L, st, n, M) Q else am_AW d 84 (18, L, st, n, M) Q) := (am_AW_ifz rfl).trans am_ite_ne
theorem w84_7 {a1 a2 : Value} {x : Nat} {st : List Value} : am_AW d 84 (7, [.ref x, a1, a2], st, n, M) Q = (am_AW d 84 (8, [.ref x, a1, a2], .ref x :: st, n, M) Q) := am_AW_go rfl rfl rfl rfl
theorem w84_8 {L st : List Value} {h : Nat} : am_AW d 84 (8, L, .ref h :: st, n, M) Q = (∃ v, am_fld M h 5 1 = some v ∧ am_AW d 84 (11, L, v :: st, n, M) Q) := am_AW_op (o := am_fld M h 5 1) (f := fun v => (11, L, v :: st, n, M)) rfl rfl (am_bm _ _) (fun _ => rfl)
theorem w84_11 {L st : List Value} : am_AW d 84 (11, L, st, n, M) Q = (am_AW d 84 (13, L, .int (am_z (-2)) :: st, n, M) Q) := am_AW_go rfl rfl rfl rfl
theorem w84_13 {a0 a1 : Value} {x : Int32} {st : List Value} : am_AW d 84 (13, [a0, a1, .int x], st, n, M) Q = (am_AW d 84 (14, [a0, a1, .int x], .int x :: st, n, M) Q) := am_AW_go rfl rfl rfl rfl
theorem w84_14 {L st : List Value} {v0 v1 v2 : Value} : am_AW d 84 (14, L, v0 :: v1 :: v2 :: st, n, M) Q = (am_okA 3 (v0 :: v1 :: v2 :: st) = true ∧ am_isO M [v2, v1, v0] 2 = true ∧ am_Do d 77 [v2, v1, v0] n M (am_then d 84 17 0 L st n Q)) := am_AW_cv (i := 84) (x := 77) (y := 203) (z := 0) rfl
theorem w84_17 {L : List Value} {x : Int32} (hf : am_fit 1 (.int x) = true) : am_AW d 84 (17, L, [.int x], n, M) Q = (Q (some (.int x)) n M) := am_AW_ret (rv := (some (.int x), n)) rfl rfl (if_pos hf) (am_mono_self n)
theorem w84_18 {a1 a2 : Value} {x : Nat} {st : List Value} : am_AW d 84 (18, [.ref x, a1, a2], st, n, M) Q = (am_AW d 84 (19, [.ref x, a1, a2], .ref x :: st, n, M) Q) := am_AW_go rfl rfl rfl rfl
theorem w84_19 {a0 a2 : Value} {x : Int32} {st : List Value} : am_AW d 84 (19, [a0, .int x, a2], st, n, M) Q = (am_AW d 84 (20, [a0, .int x, a2], .int x :: st, n, M) Q) := am_AW_go rfl rfl rfl rfl
theorem w84_20 {L st : List Value} {h : Nat} {v : Value} : am_AW d 84 (20, L, v :: .ref h :: st, n, M) Q = (am_fit 2 v = true ∧ ∃ M', am_setf M h 5 9 v = some M' ∧ am_AW d 84 (23, L, st, n, M') Q) := am_AW_put rfl
theorem w84_23 {a1 a2 : Value} {x : Nat} {st : List Value} : am_AW d 84 (23, [.ref x, a1, a2], st, n, M) Q = (am_AW d 84 (24, [.ref x, a1, a2], .ref x :: st, n, M) Q) := am_AW_go rfl rfl rfl rfl
theorem w84_24 {L st : List Value} : am_AW d 84 (24, L, st, n, M) Q = (am_AW d 84 (25, L, .int (am_z 3) :: st, n, M) Q) := am_AW_go rfl rfl rfl rfl
theorem w84_25 {L st : List Value} {h : Nat} {v : Value} : am_AW d 84 (25, L, v :: .ref h :: st, n, M) Q = (am_fit 0 v = true ∧ ∃ M', am_setf M h 5 6 v = some M' ∧ am_AW d 84 (28, L, st, n, M') Q) := am_AW_put rfl
theorem w84_28 {L st : List Value} : am_AW d 84 (28, L, st, n, M) Q = (am_AW d 84 (29, L, .int (am_z 1) :: st, n, M) Q) := am_AW_go rfl rfl rfl rfl
theorem w84_29 {L : List Value} {x : Int32} (hf : am_fit 1 (.int x) = true) : am_AW d 84 (29, L, [.int x], n, M) Q = (Q (some (.int x)) n M) := am_AW_ret (rv := (some (.int x), n)) rfl rfl (if_pos hf) (am_mono_self n)
end W84
section W85
variable {d : Nat} {n : am_N} {M : am_M} {Q : Option Value → am_N → am_M → Prop}
theorem w85_0 {a0 a2 : Value} {x : Int32} {st : List Value} : am_AW d 85 (0, [a0, .int x, a2], st, n, M) Q = (am_AW d 85 (1, [a0, .int x, a2], .int x :: st, n, M) Q) := am_AW_go rfl rfl rfl rfl
theorem w85_1 {L st : List Value} : am_AW d 85 (1, L, st, n, M) Q = (am_AW d 85 (3, L, .int (am_z 58) :: st, n, M) Q) := am_AW_go rfl rfl rfl rfl
theorem w85_3 {L st : List Value} {x y : Int32} : am_AW d 85 (3, L, .int y :: .int x :: st, n, M) Q = (if x = y then am_AW d 85 (17, L, st, n, M) Q else am_AW d 85 (6, L, st, n, M) Q) := (am_AW_icmp rfl).trans am_ite_eq
theorem w85_6 {a1 a2 : Value} {x : Nat} {st : List Value} : am_AW d 85 (6, [.ref x, a1, a2], st, n, M) Q = (am_AW d 85 (7, [.ref x, a1, a2], .ref x :: st, n, M) Q) := am_AW_go rfl rfl rfl rfl
theorem w85_7 {L st : List Value} {h : Nat} : am_AW d 85 (7, L, .ref h :: st, n, M) Q = (∃ v, am_fld M h 5 1 = some v ∧ am_AW d 85 (10, L, v :: st, n, M) Q) := am_AW_op (o := am_fld M h 5 1) (f := fun v => (10, L, v :: st, n, M)) rfl rfl (am_bm _ _) (fun _ => rfl)
theorem w85_10 {L st : List Value} : am_AW d 85 (10, L, st, n, M) Q = (am_AW d 85 (12, L, .int (am_z (-2)) :: st, n, M) Q) := am_AW_go rfl rfl rfl rfl
theorem w85_12 {a0 a1 : Value} {x : Int32} {st : List Value} : am_AW d 85 (12, [a0, a1, .int x], st, n, M) Q = (am_AW d 85 (13, [a0, a1, .int x], .int x :: st, n, M) Q) := am_AW_go rfl rfl rfl rfl
theorem w85_13 {L st : List Value} {v0 v1 v2 : Value} : am_AW d 85 (13, L, v0 :: v1 :: v2 :: st, n, M) Q = (am_okA 3 (v0 :: v1 :: v2 :: st) = true ∧ am_isO M [v2, v1, v0] 2 = true ∧ am_Do d 77 [v2, v1, v0] n M (am_then d 85 16 0 L st n Q)) := am_AW_cv (i := 84) (x := 77) (y := 203) (z := 0) rfl
theorem w85_16 {L : List Value} {x : Int32} (hf : am_fit 1 (.int x) = true) : am_AW d 85 (16, L, [.int x], n, M) Q = (Q (some (.int x)) n M) := am_AW_ret (rv := (some (.int x), n)) rfl rfl (if_pos hf) (am_mono_self n)
theorem w85_17 {a1 a2 : Value} {x : Nat} {st : List Value} : am_AW d 85 (17, [.ref x, a1, a2], st, n, M) Q = (am_AW d 85 (18, [.ref x, a1, a2], .ref x :: st, n, M) Q) := am_AW_go rfl rfl rfl rfl
theorem w85_18 {L st : List Value} : am_AW d 85 (18, L, st, n, M) Q = (am_AW d 85 (20, L, .int (am_z 46) :: st, n, M) Q) := am_AW_go rfl rfl rfl rfl
theorem w85_20 {a0 a1 : Value} {x : Int32} {st : List Value} : am_AW d 85 (20, [a0, a1, .int x], st, n, M) Q = (am_AW d 85 (21, [a0, a1, .int x], .int x :: st, n, M) Q) := am_AW_go rfl rfl rfl rfl
theorem w85_21 {L st : List Value} {v0 v1 v2 : Value} : am_AW d 85 (21, L, v0 :: v1 :: v2 :: st, n, M) Q = (am_okA 3 (v0 :: v1 :: v2 :: st) = true ∧ am_isO M [v2, v1, v0] 5 = true ∧ am_Do d 99 [v2, v1, v0] n M (am_then d 85 24 0 L st n Q)) := am_AW_cv (i := 96) (x := 99) (y := 503) (z := 0) rfl
theorem w85_24 {L st : List Value} : am_AW d 85 (24, L, st, n, M) Q = (am_AW d 85 (25, L, .int (am_z 1) :: st, n, M) Q) := am_AW_go rfl rfl rfl rfl
theorem w85_25 {L : List Value} {x : Int32} (hf : am_fit 1 (.int x) = true) : am_AW d 85 (25, L, [.int x], n, M) Q = (Q (some (.int x)) n M) := am_AW_ret (rv := (some (.int x), n)) rfl rfl (if_pos hf) (am_mono_self n)
end W85
section W86
variable {d : Nat} {n : am_N} {M : am_M} {Q : Option Value → am_N → am_M → Prop}
theorem w86_0 {a1 a2 a3 a4 a5 : Value} {x : Nat} {st : List Value} : am_AW d 86 (0, [.ref x, a1, a2, a3, a4, a5], st, n, M) Q = (am_AW d 86 (1, [.ref x, a1, a2, a3, a4, a5], .ref x :: st, n, M) Q) := am_AW_go rfl rfl rfl rfl
theorem w86_1 {L st : List Value} {h : Nat} : am_AW d 86 (1, L, .ref h :: st, n, M) Q = (∃ v, am_fld M h 5 8 = some v ∧ am_AW d 86 (4, L, v :: st, n, M) Q) := am_AW_op (o := am_fld M h 5 8) (f := fun v => (4, L, v :: st, n, M)) rfl rfl (am_bm _ _) (fun _ => rfl)
theorem w86_4 {L st : List Value} : am_AW d 86 (4, L, st, n, M) Q = (am_AW d 86 (5, L, .int (am_z (-1)) :: st, n, M) Q) := am_AW_go rfl rfl rfl rfl
theorem w86_5 {L st : List Value} {x y : Int32} : am_AW d 86 (5, L, .int y :: .int x :: st, n, M) Q = (if x = y then am_AW d 86 (22, L, st, n, M) Q else am_AW d 86 (8, L, st, n, M) Q) := (am_AW_icmp rfl).trans am_ite_eq
theorem w86_8 {a1 a2 a3 a4 a5 : Value} {x : Nat} {st : List Value} : am_AW d 86 (8, [.ref x, a1, a2, a3, a4, a5], st, n, M) Q = (am_AW d 86 (9, [.ref x, a1, a2, a3, a4, a5], .ref x :: st, n, M) Q) := am_AW_go rfl rfl rfl rfl
theorem w86_9 {L st : List Value} {h : Nat} : am_AW d 86 (9, L, .ref h :: st, n, M) Q = (∃ v, am_fld M h 5 8 = some v ∧ am_AW d 86 (12, L, v :: st, n, M) Q) := am_AW_op (o := am_fld M h 5 8) (f := fun v => (12, L, v :: st, n, M)) rfl rfl (am_bm _ _) (fun _ => rfl)
theorem w86_12 {a0 a1 a3 a4 a5 : Value} {x : Int32} {st : List Value} : am_AW d 86 (12, [a0, a1, .int x, a3, a4, a5], st, n, M) Q = (am_AW d 86 (13, [a0, a1, .int x, a3, a4, a5], .int x :: st, n, M) Q) := am_AW_go rfl rfl rfl rfl
theorem w86_13 {L st : List Value} : am_AW d 86 (13, L, st, n, M) Q = (am_AW d 86 (14, L, .int (am_z 1) :: st, n, M) Q) := am_AW_go rfl rfl rfl rfl
theorem w86_14 {L st : List Value} {x y : Int32} : am_AW d 86 (14, L, .int y :: .int x :: st, n, M) Q = (am_AW d 86 (15, L, .int (x - y) :: st, n, M) Q) := am_AW_go rfl rfl rfl rfl
theorem w86_15 {L st : List Value} {x y : Int32} : am_AW d 86 (15, L, .int y :: .int x :: st, n, M) Q = (if x = y then am_AW d 86 (18, L, st, n, M) Q else am_AW d 86 (22, L, st, n, M) Q) := (am_AW_icmp rfl).trans am_ite_ne
theorem w86_18 {L st : List Value} : am_AW d 86 (18, L, st, n, M) Q = (am_AW d 86 (19, L, .int (am_z 1) :: st, n, M) Q) := am_AW_go rfl rfl rfl rfl
theorem w86_19 {L st : List Value} : am_AW d 86 (19, L, st, n, M) Q = (am_AW d 86 (23, L, st, n, M) Q) := am_AW_go rfl rfl rfl rfl
theorem w86_22 {L st : List Value} : am_AW d 86 (22, L, st, n, M) Q = (am_AW d 86 (23, L, .int (am_z 0) :: st, n, M) Q) := am_AW_go rfl rfl rfl rfl
theorem w86_23 {a0 a1 a2 a3 a4 a5 : Value} {x : Int32} {st : List Value} : am_AW d 86 (23, [a0, a1, a2, a3, a4, a5], .int x :: st, n, M) Q = (am_AW d 86 (24, [a0, a1, a2, .int x, a4, a5], st, n, M) Q) := am_AW_go rfl rfl rfl rfl
theorem w86_24 {a0 a1 a2 a4 a5 : Value} {x : Int32} {st : List Value} : am_AW d 86 (24, [a0, a1, a2, .int x, a4, a5], st, n, M) Q = (am_AW d 86 (25, [a0, a1, a2, .int x, a4, a5], .int x :: st, n, M) Q) := am_AW_go rfl rfl rfl rfl
theorem w86_25 {L st : List Value} {x : Int32} : am_AW d 86 (25, L, .int x :: st, n, M) Q = (if x = am_z 0 then am_AW d 86 (28, L, st, n, M) Q else am_AW d 86 (44, L, st, n, M) Q) := (am_AW_ifz rfl).trans am_ite_ne
theorem w86_28 {a1 a2 a3 a4 a5 : Value} {x : Nat} {st : List Value} : am_AW d 86 (28, [.ref x, a1, a2, a3, a4, a5], st, n, M) Q = (am_AW d 86 (29, [.ref x, a1, a2, a3, a4, a5], .ref x :: st, n, M) Q) := am_AW_go rfl rfl rfl rfl
theorem w86_29 {a0 a1 a3 a4 a5 : Value} {x : Int32} {st : List Value} : am_AW d 86 (29, [a0, a1, .int x, a3, a4, a5], st, n, M) Q = (am_AW d 86 (30, [a0, a1, .int x, a3, a4, a5], .int x :: st, n, M) Q) := am_AW_go rfl rfl rfl rfl
theorem w86_30 {L st : List Value} {h : Nat} {v : Value} : am_AW d 86 (30, L, v :: .ref h :: st, n, M) Q = (am_fit 0 v = true ∧ ∃ M', am_setf M h 5 8 v = some M' ∧ am_AW d 86 (33, L, st, n, M') Q) := am_AW_put rfl
theorem w86_33 {a1 a2 a3 a4 a5 : Value} {x : Nat} {st : List Value} : am_AW d 86 (33, [.ref x, a1, a2, a3, a4, a5], st, n, M) Q = (am_AW d 86 (34, [.ref x, a1, a2, a3, a4, a5], .ref x :: st, n, M) Q) := am_AW_go rfl rfl rfl rfl
theorem w86_34 {L st : List Value} : am_AW d 86 (34, L, st, n, M) Q = (am_AW d 86 (36, L, .int (am_z 20) :: st, n, M) Q) := am_AW_go rfl rfl rfl rfl
theorem w86_36 {a0 a2 a3 a4 a5 : Value} {x : Int32} {st : List Value} : am_AW d 86 (36, [a0, .int x, a2, a3, a4, a5], st, n, M) Q = (am_AW d 86 (37, [a0, .int x, a2, a3, a4, a5], .int x :: st, n, M) Q) := am_AW_go rfl rfl rfl rfl
theorem w86_37 {L st : List Value} {x y : Int32} : am_AW d 86 (37, L, .int y :: .int x :: st, n, M) Q = (am_AW d 86 (38, L, .int (x + y) :: st, n, M) Q) := am_AW_go rfl rfl rfl rfl
theorem w86_38 {a0 a1 a3 a4 a5 : Value} {x : Int32} {st : List Value} : am_AW d 86 (38, [a0, a1, .int x, a3, a4, a5], st, n, M) Q = (am_AW d 86 (39, [a0, a1, .int x, a3, a4, a5], .int x :: st, n, M) Q) := am_AW_go rfl rfl rfl rfl
theorem w86_39 {L st : List Value} {v0 v1 v2 : Value} : am_AW d 86 (39, L, v0 :: v1 :: v2 :: st, n, M) Q = (am_okA 3 (v0 :: v1 :: v2 :: st) = true ∧ am_isO M [v2, v1, v0] 5 = true ∧ am_Do d 95 [v2, v1, v0] n M (am_then d 86 42 0 L st n Q)) := am_AW_cv (i := 127) (x := 95) (y := 503) (z := 0) rfl
theorem w86_42 {L st : List Value} : am_AW d 86 (42, L, st, n, M) Q = (am_AW d 86 (43, L, .int (am_z 1) :: st, n, M) Q) := am_AW_go rfl rfl rfl rfl
theorem w86_43 {L : List Value} {x : Int32} (hf : am_fit 1 (.int x) = true) : am_AW d 86 (43, L, [.int x], n, M) Q = (Q (some (.int x)) n M) := am_AW_ret (rv := (some (.int x), n)) rfl rfl (if_pos hf) (am_mono_self n)
theorem w86_44 {a1 a2 a3 a4 a5 : Value} {x : Nat} {st : List Value} : am_AW d 86 (44, [.ref x, a1, a2, a3, a4, a5], st, n, M) Q = (am_AW d 86 (45, [.ref x, a1, a2, a3, a4, a5], .ref x :: st, n, M) Q) := am_AW_go rfl rfl rfl rfl
theorem w86_45 {L st : List Value} : am_AW d 86 (45, L, st, n, M) Q = (am_AW d 86 (46, L, .int (am_z (-1)) :: st, n, M) Q) := am_AW_go rfl rfl rfl rfl
theorem w86_46 {L st : List Value} {h : Nat} {v : Value} : am_AW d 86 (46, L, v :: .ref h :: st, n, M) Q = (am_fit 0 v = true ∧ ∃ M', am_setf M h 5 8 v = some M' ∧ am_AW d 86 (49, L, st, n, M') Q) := am_AW_put rfl
theorem w86_49 {a1 a2 a3 a4 a5 : Value} {x : Nat} {st : List Value} : am_AW d 86 (49, [.ref x, a1, a2, a3, a4, a5], st, n, M) Q = (am_AW d 86 (50, [.ref x, a1, a2, a3, a4, a5], .ref x :: st, n, M) Q) := am_AW_go rfl rfl rfl rfl
theorem w86_50 {L st : List Value} {h : Nat} : am_AW d 86 (50, L, .ref h :: st, n, M) Q = (∃ v, am_fld M h 5 2 = some v ∧ am_AW d 86 (53, L, v :: st, n, M) Q) := am_AW_op (o := am_fld M h 5 2) (f := fun v => (53, L, v :: st, n, M)) rfl rfl (am_bm _ _) (fun _ => rfl)
theorem w86_53 {L st : List Value} {h : Nat} : am_AW d 86 (53, L, .ref h :: st, n, M) Q = (∃ v, am_fld M h 0 1 = some v ∧ am_AW d 86 (56, L, v :: st, n, M) Q) := am_AW_op (o := am_fld M h 0 1) (f := fun v => (56, L, v :: st, n, M)) rfl rfl (am_bm _ _) (fun _ => rfl)
theorem w86_56 {L st : List Value} : am_AW d 86 (56, L, st, n, M) Q = (am_AW d 86 (57, L, .int (am_z 1) :: st, n, M) Q) := am_AW_go rfl rfl rfl rfl
theorem w86_57 {L st : List Value} {x y : Int32} : am_AW d 86 (57, L, .int y :: .int x :: st, n, M) Q = (am_AW d 86 (58, L, .int (x - y) :: st, n, M) Q) := am_AW_go rfl rfl rfl rfl
theorem w86_58 {a0 a1 a2 a3 a4 a5 : Value} {x : Int32} {st : List Value} : am_AW d 86 (58, [a0, a1, a2, a3, a4, a5], .int x :: st, n, M) Q = (am_AW d 86 (60, [a0, a1, a2, a3, .int x, a5], st, n, M) Q) := am_AW_go rfl rfl rfl rfl
theorem w86_60 {L st : List Value} : am_AW d 86 (60, L, st, n, M) Q = (am_AW d 86 (62, L, .int (am_z 10) :: st, n, M) Q) := am_AW_go rfl rfl rfl rfl
theorem w86_62 {a1 a2 a3 a4 a5 : Value} {x : Nat} {st : List Value} : am_AW d 86 (62, [.ref x, a1, a2, a3, a4, a5], st, n, M) Q = (am_AW d 86 (63, [.ref x, a1, a2, a3, a4, a5], .ref x :: st, n, M) Q) := am_AW_go rfl rfl rfl rfl
theorem w86_63 {L st : List Value} {h : Nat} : am_AW d 86 (63, L, .ref h :: st, n, M) Q = (∃ v, am_fld M h 5 2 = some v ∧ am_AW d 86 (66, L, v :: st, n, M) Q) := am_AW_op (o := am_fld M h 5 2) (f := fun v => (66, L, v :: st, n, M)) rfl rfl (am_bm _ _) (fun _ => rfl)
theorem w86_66 {a0 a1 a2 a3 a5 : Value} {x : Int32} {st : List Value} : am_AW d 86 (66, [a0, a1, a2, a3, .int x, a5], st, n, M) Q = (am_AW d 86 (68, [a0, a1, a2, a3, .int x, a5], .int x :: st, n, M) Q) := am_AW_go rfl rfl rfl rfl
theorem w86_68 {L st : List Value} {v0 v1 : Value} : am_AW d 86 (68, L, v0 :: v1 :: st, n, M) Q = (am_okA 2 (v0 :: v1 :: st) = true ∧ am_isO M [v1, v0] 0 = true ∧ am_Do d 114 [v1, v0] n M (am_then d 86 71 0 L st n Q)) := am_AW_cv (i := 133) (x := 114) (y := 2) (z := 0) rfl
theorem w86_71 {L st : List Value} : am_AW d 86 (71, L, st, n, M) Q = (am_AW d 86 (73, L, .int (am_z 20) :: st, n, M) Q) := am_AW_go rfl rfl rfl rfl
theorem w86_73 {L st : List Value} {x y : Int32} : am_AW d 86 (73, L, .int y :: .int x :: st, n, M) Q = (am_AW d 86 (74, L, .int (x - y) :: st, n, M) Q) := am_AW_go rfl rfl rfl rfl
theorem w86_74 {L st : List Value} {x y : Int32} : am_AW d 86 (74, L, .int y :: .int x :: st, n, M) Q = (am_AW d 86 (75, L, .int (x * y) :: st, n, M) Q) := am_AW_go rfl rfl rfl rfl
theorem w86_75 {a0 a2 a3 a4 a5 : Value} {x : Int32} {st : List Value} : am_AW d 86 (75, [a0, .int x, a2, a3, a4, a5], st, n, M) Q = (am_AW d 86 (76, [a0, .int x, a2, a3, a4, a5], .int x :: st, n, M) Q) := am_AW_go rfl rfl rfl rfl
theorem w86_76 {L st : List Value} {x y : Int32} : am_AW d 86 (76, L, .int y :: .int x :: st, n, M) Q = (am_AW d 86 (77, L, .int (x + y) :: st, n, M) Q) := am_AW_go rfl rfl rfl rfl
theorem w86_77 {a0 a1 a2 a3 a4 a5 : Value} {x : Int32} {st : List Value} : am_AW d 86 (77, [a0, a1, a2, a3, a4, a5], .int x :: st, n, M) Q = (am_AW d 86 (79, [a0, a1, a2, a3, a4, .int x], st, n, M) Q) := am_AW_go rfl rfl rfl rfl
theorem w86_79 {a0 a1 a2 a3 a4 : Value} {x : Int32} {st : List Value} : am_AW d 86 (79, [a0, a1, a2, a3, a4, .int x], st, n, M) Q = (am_AW d 86 (81, [a0, a1, a2, a3, a4, .int x], .int x :: st, n, M) Q) := am_AW_go rfl rfl rfl rfl
theorem w86_81 {L st : List Value} : am_AW d 86 (81, L, st, n, M) Q = (am_AW d 86 (83, L, .int (am_z 20) :: st, n, M) Q) := am_AW_go rfl rfl rfl rfl
theorem w86_83 {L st : List Value} {x y : Int32} : am_AW d 86 (83, L, .int y :: .int x :: st, n, M) Q = (if x ≤ y then am_AW d 86 (97, L, st, n, M) Q else am_AW d 86 (86, L, st, n, M) Q) := (am_AW_icmp rfl).trans am_ite_le
theorem w86_86 {a1 a2 a3 a4 a5 : Value} {x : Nat} {st : List Value} : am_AW d 86 (86, [.ref x, a1, a2, a3, a4, a5], st, n, M) Q = (am_AW d 86 (87, [.ref x, a1, a2, a3, a4, a5], .ref x :: st, n, M) Q) := am_AW_go rfl rfl rfl rfl
theorem w86_87 {L st : List Value} {h : Nat} : am_AW d 86 (87, L, .ref h :: st, n, M) Q = (∃ v, am_fld M h 5 1 = some v ∧ am_AW d 86 (90, L, v :: st, n, M) Q) := am_AW_op (o := am_fld M h 5 1) (f := fun v => (90, L, v :: st, n, M)) rfl rfl (am_bm _ _) (fun _ => rfl)
theorem w86_90 {L st : List Value} : am_AW d 86 (90, L, st, n, M) Q = (am_AW d 86 (92, L, .int (am_z (-2)) :: st, n, M) Q) := am_AW_go rfl rfl rfl rfl
theorem w86_92 {a0 a1 a3 a4 a5 : Value} {x : Int32} {st : List Value} : am_AW d 86 (92, [a0, a1, .int x, a3, a4, a5], st, n, M) Q = (am_AW d 86 (93, [a0, a1, .int x, a3, a4, a5], .int x :: st, n, M) Q) := am_AW_go rfl rfl rfl rfl
theorem w86_93 {L st : List Value} {v0 v1 v2 : Value} : am_AW d 86 (93, L, v0 :: v1 :: v2 :: st, n, M) Q = (am_okA 3 (v0 :: v1 :: v2 :: st) = true ∧ am_isO M [v2, v1, v0] 2 = true ∧ am_Do d 77 [v2, v1, v0] n M (am_then d 86 96 0 L st n Q)) := am_AW_cv (i := 84) (x := 77) (y := 203) (z := 0) rfl
theorem w86_96 {L : List Value} {x : Int32} (hf : am_fit 1 (.int x) = true) : am_AW d 86 (96, L, [.int x], n, M) Q = (Q (some (.int x)) n M) := am_AW_ret (rv := (some (.int x), n)) rfl rfl (if_pos hf) (am_mono_self n)
theorem w86_97 {a1 a2 a3 a4 a5 : Value} {x : Nat} {st : List Value} : am_AW d 86 (97, [.ref x, a1, a2, a3, a4, a5], st, n, M) Q = (am_AW d 86 (98, [.ref x, a1, a2, a3, a4, a5], .ref x :: st, n, M) Q) := am_AW_go rfl rfl rfl rfl
theorem w86_98 {L st : List Value} {h : Nat} : am_AW d 86 (98, L, .ref h :: st, n, M) Q = (∃ v, am_fld M h 5 2 = some v ∧ am_AW d 86 (101, L, v :: st, n, M) Q) := am_AW_op (o := am_fld M h 5 2) (f := fun v => (101, L, v :: st, n, M)) rfl rfl (am_bm _ _) (fun _ => rfl)
theorem w86_101 {L st : List Value} {h : Nat} : am_AW d 86 (101, L, .ref h :: st, n, M) Q = (∃ v, am_fld M h 0 0 = some v ∧ am_AW d 86 (104, L, v :: st, n, M) Q) := am_AW_op (o := am_fld M h 0 0) (f := fun v => (104, L, v :: st, n, M)) rfl rfl (am_bm _ _) (fun _ => rfl)
theorem w86_104 {a0 a1 a2 a3 a5 : Value} {x : Int32} {st : List Value} : am_AW d 86 (104, [a0, a1, a2, a3, .int x, a5], st, n, M) Q = (am_AW d 86 (106, [a0, a1, a2, a3, .int x, a5], .int x :: st, n, M) Q) := am_AW_go rfl rfl rfl rfl
theorem w86_106 {L st : List Value} : am_AW d 86 (106, L, st, n, M) Q = (am_AW d 86 (108, L, .int (am_z 20) :: st, n, M) Q) := am_AW_go rfl rfl rfl rfl
theorem w86_108 {a0 a1 a2 a3 a4 : Value} {x : Int32} {st : List Value} : am_AW d 86 (108, [a0, a1, a2, a3, a4, .int x], st, n, M) Q = (am_AW d 86 (110, [a0, a1, a2, a3, a4, .int x], .int x :: st, n, M) Q) := am_AW_go rfl rfl rfl rfl
theorem w86_110 {L st : List Value} {x y : Int32} : am_AW d 86 (110, L, .int y :: .int x :: st, n, M) Q = (am_AW d 86 (111, L, .int (x + y) :: st, n, M) Q) := am_AW_go rfl rfl rfl rfl
theorem w86_111 {L st : List Value} {h : Nat} {i v : Int32} : am_AW d 86 (111, L, .int v :: .int i :: .ref h :: st, n, M) Q = (am_fit 0 (.int v) = true ∧ ∃ M', am_ast 0 M h i v = some M' ∧ am_AW d 86 (112, L, st, n, M') Q) := am_AW_ast rfl (Or.inl ⟨rfl, rfl, rfl⟩)
theorem w86_112 {L st : List Value} : am_AW d 86 (112, L, st, n, M) Q = (am_AW d 86 (113, L, .int (am_z 1) :: st, n, M) Q) := am_AW_go rfl rfl rfl rfl
theorem w86_113 {L : List Value} {x : Int32} (hf : am_fit 1 (.int x) = true) : am_AW d 86 (113, L, [.int x], n, M) Q = (Q (some (.int x)) n M) := am_AW_ret (rv := (some (.int x), n)) rfl rfl (if_pos hf) (am_mono_self n)
end W86
section W87
variable {d : Nat} {n : am_N} {M : am_M} {Q : Option Value → am_N → am_M → Prop}
theorem w87_0 {a1 a2 a3 : Value} {x : Nat} {st : List Value} : am_AW d 87 (0, [.ref x, a1, a2, a3], st, n, M) Q = (am_AW d 87 (1, [.ref x, a1, a2, a3], .ref x :: st, n, M) Q) := am_AW_go rfl rfl rfl rfl
theorem w87_1 {a0 a2 a3 : Value} {x : Int32} {st : List Value} : am_AW d 87 (1, [a0, .int x, a2, a3], st, n, M) Q = (am_AW d 87 (2, [a0, .int x, a2, a3], .int x :: st, n, M) Q) := am_AW_go rfl rfl rfl rfl
theorem w87_2 {L st : List Value} {v0 v1 : Value} : am_AW d 87 (2, L, v0 :: v1 :: st, n, M) Q = (am_okA 2 (v0 :: v1 :: st) = true ∧ am_isO M [v1, v0] 5 = true ∧ am_Do d 88 [v1, v0] n M (am_then d 87 5 0 L st n Q)) := am_AW_cv (i := 140) (x := 88) (y := 502) (z := 0) rfl
theorem w87_5 {a0 a1 a2 a3 : Value} {x : Int32} {st : List Value} : am_AW d 87 (5, [a0, a1, a2, a3], .int x :: st, n, M) Q = (am_AW d 87 (6, [a0, a1, a2, .int x], st, n, M) Q) := am_AW_go rfl rfl rfl rfl
theorem w87_6 {a0 a1 a2 : Value} {x : Int32} {st : List Value} : am_AW d 87 (6, [a0, a1, a2, .int x], st, n, M) Q = (am_AW d 87 (7, [a0, a1, a2, .int x], .int x :: st, n, M) Q) := am_AW_go rfl rfl rfl rfl
theorem w87_7 {L st : List Value} : am_AW d 87 (7, L, st, n, M) Q = (am_AW d 87 (8, L, .int (am_z (-1)) :: st, n, M) Q) := am_AW_go rfl rfl rfl rfl
theorem w87_8 {L st : List Value} {x y : Int32} : am_AW d 87 (8, L, .int y :: .int x :: st, n, M) Q = (if x = y then am_AW d 87 (11, L, st, n, M) Q else am_AW d 87 (41, L, st, n, M) Q) := (am_AW_icmp rfl).trans am_ite_ne
theorem w87_11 {a1 a2 a3 : Value} {x : Nat} {st : List Value} : am_AW d 87 (11, [.ref x, a1, a2, a3], st, n, M) Q = (am_AW d 87 (12, [.ref x, a1, a2, a3], .ref x :: st, n, M) Q) := am_AW_go rfl rfl rfl rfl
theorem w87_12 {L st : List Value} {h : Nat} : am_AW d 87 (12, L, .ref h :: st, n, M) Q = (∃ v, am_fld M h 5 1 = some v ∧ am_AW d 87 (15, L, v :: st, n, M) Q) := am_AW_op (o := am_fld M h 5 1) (f := fun v => (15, L, v :: st, n, M)) rfl rfl (am_bm _ _) (fun _ => rfl)
theorem w87_15 {a0 a2 a3 : Value} {x : Int32} {st : List Value} : am_AW d 87 (15, [a0, .int x, a2, a3], st, n, M) Q = (am_AW d 87 (16, [a0, .int x, a2, a3], .int x :: st, n, M) Q) := am_AW_go rfl rfl rfl rfl
theorem w87_16 {L st : List Value} {v0 : Value} : am_AW d 87 (16, L, v0 :: st, n, M) Q = (am_okA 1 (v0 :: st) = true ∧ am_Do d 90 [v0] n M (am_then d 87 19 0 L st n Q)) := am_AW_cs (i := 124) (x := 90) (y := 1) (z := 0) rfl
theorem w87_19 {L st : List Value} {x : Int32} : am_AW d 87 (19, L, .int x :: st, n, M) Q = (if x = am_z 0 then am_AW d 87 (22, L, st, n, M) Q else am_AW d 87 (29, L, st, n, M) Q) := (am_AW_ifz rfl).trans am_ite_ne
theorem w87_22 {a0 a2 a3 : Value} {x : Int32} {st : List Value} : am_AW d 87 (22, [a0, .int x, a2, a3], st, n, M) Q = (am_AW d 87 (23, [a0, .int x, a2, a3], .int x :: st, n, M) Q) := am_AW_go rfl rfl rfl rfl
theorem w87_23 {L st : List Value} {v0 : Value} : am_AW d 87 (23, L, v0 :: st, n, M) Q = (am_okA 1 (v0 :: st) = true ∧ am_Do d 91 [v0] n M (am_then d 87 26 0 L st n Q)) := am_AW_cs (i := 144) (x := 91) (y := 1) (z := 0) rfl
theorem w87_26 {L st : List Value} {x : Int32} : am_AW d 87 (26, L, .int x :: st, n, M) Q = (if x = am_z 0 then am_AW d 87 (34, L, st, n, M) Q else am_AW d 87 (29, L, st, n, M) Q) := (am_AW_ifz rfl).trans am_ite_eq
theorem w87_29 {L st : List Value} : am_AW d 87 (29, L, st, n, M) Q = (am_AW d 87 (31, L, .int (am_z (-3)) :: st, n, M) Q) := am_AW_go rfl rfl rfl rfl
theorem w87_31 {L st : List Value} : am_AW d 87 (31, L, st, n, M) Q = (am_AW d 87 (36, L, st, n, M) Q) := am_AW_go rfl rfl rfl rfl
theorem w87_34 {L st : List Value} : am_AW d 87 (34, L, st, n, M) Q = (am_AW d 87 (36, L, .int (am_z (-2)) :: st, n, M) Q) := am_AW_go rfl rfl rfl rfl
theorem w87_36 {a0 a1 a3 : Value} {x : Int32} {st : List Value} : am_AW d 87 (36, [a0, a1, .int x, a3], st, n, M) Q = (am_AW d 87 (37, [a0, a1, .int x, a3], .int x :: st, n, M) Q) := am_AW_go rfl rfl rfl rfl
theorem w87_37 {L st : List Value} {v0 v1 v2 : Value} : am_AW d 87 (37, L, v0 :: v1 :: v2 :: st, n, M) Q = (am_okA 3 (v0 :: v1 :: v2 :: st) = true ∧ am_isO M [v2, v1, v0] 2 = true ∧ am_Do d 77 [v2, v1, v0] n M (am_then d 87 40 0 L st n Q)) := am_AW_cv (i := 84) (x := 77) (y := 203) (z := 0) rfl
theorem w87_40 {L : List Value} {x : Int32} (hf : am_fit 1 (.int x) = true) : am_AW d 87 (40, L, [.int x], n, M) Q = (Q (some (.int x)) n M) := am_AW_ret (rv := (some (.int x), n)) rfl rfl (if_pos hf) (am_mono_self n)
theorem w87_41 {a1 a2 a3 : Value} {x : Nat} {st : List Value} : am_AW d 87 (41, [.ref x, a1, a2, a3], st, n, M) Q = (am_AW d 87 (42, [.ref x, a1, a2, a3], .ref x :: st, n, M) Q) := am_AW_go rfl rfl rfl rfl
theorem w87_42 {a0 a1 a2 : Value} {x : Int32} {st : List Value} : am_AW d 87 (42, [a0, a1, a2, .int x], st, n, M) Q = (am_AW d 87 (43, [a0, a1, a2, .int x], .int x :: st, n, M) Q) := am_AW_go rfl rfl rfl rfl
theorem w87_43 {a0 a1 a3 : Value} {x : Int32} {st : List Value} : am_AW d 87 (43, [a0, a1, .int x, a3], st, n, M) Q = (am_AW d 87 (44, [a0, a1, .int x, a3], .int x :: st, n, M) Q) := am_AW_go rfl rfl rfl rfl
theorem w87_44 {L st : List Value} {v0 v1 v2 : Value} : am_AW d 87 (44, L, v0 :: v1 :: v2 :: st, n, M) Q = (am_okA 3 (v0 :: v1 :: v2 :: st) = true ∧ am_isO M [v2, v1, v0] 5 = true ∧ am_Do d 95 [v2, v1, v0] n M (am_then d 87 47 0 L st n Q)) := am_AW_cv (i := 127) (x := 95) (y := 503) (z := 0) rfl
theorem w87_47 {L st : List Value} : am_AW d 87 (47, L, st, n, M) Q = (am_AW d 87 (48, L, .int (am_z 1) :: st, n, M) Q) := am_AW_go rfl rfl rfl rfl
theorem w87_48 {L : List Value} {x : Int32} (hf : am_fit 1 (.int x) = true) : am_AW d 87 (48, L, [.int x], n, M) Q = (Q (some (.int x)) n M) := am_AW_ret (rv := (some (.int x), n)) rfl rfl (if_pos hf) (am_mono_self n)
end W87
section W88
variable {d : Nat} {n : am_N} {M : am_M} {Q : Option Value → am_N → am_M → Prop}
theorem w88_0 {a0 : Value} {x : Int32} {st : List Value} : am_AW d 88 (0, [a0, .int x], st, n, M) Q = (am_AW d 88 (1, [a0, .int x], .int x :: st, n, M) Q) := am_AW_go rfl rfl rfl rfl
theorem w88_1 {L st : List Value} {v0 : Value} : am_AW d 88 (1, L, v0 :: st, n, M) Q = (am_okA 1 (v0 :: st) = true ∧ am_Do d 90 [v0] n M (am_then d 88 4 0 L st n Q)) := am_AW_cs (i := 124) (x := 90) (y := 1) (z := 0) rfl
theorem w88_4 {L st : List Value} {x : Int32} : am_AW d 88 (4, L, .int x :: st, n, M) Q = (if x = am_z 0 then am_AW d 88 (13, L, st, n, M) Q else am_AW d 88 (7, L, st, n, M) Q) := (am_AW_ifz rfl).trans am_ite_eq
theorem w88_7 {a1 : Value} {x : Nat} {st : List Value} : am_AW d 88 (7, [.ref x, a1], st, n, M) Q = (am_AW d 88 (8, [.ref x, a1], .ref x :: st, n, M) Q) := am_AW_go rfl rfl rfl rfl
theorem w88_8 {a0 : Value} {x : Int32} {st : List Value} : am_AW d 88 (8, [a0, .int x], st, n, M) Q = (am_AW d 88 (9, [a0, .int x], .int x :: st, n, M) Q) := am_AW_go rfl rfl rfl rfl
theorem w88_9 {L st : List Value} {v0 v1 : Value} : am_AW d 88 (9, L, v0 :: v1 :: st, n, M) Q = (am_okA 2 (v0 :: v1 :: st) = true ∧ am_isO M [v1, v0] 5 = true ∧ am_Do d 89 [v1, v0] n M (am_then d 88 12 0 L st n Q)) := am_AW_cv (i := 147) (x := 89) (y := 502) (z := 0) rfl
theorem w88_12 {L : List Value} {x : Int32} : am_AW d 88 (12, L, [.int x], n, M) Q = (Q (some (.int x)) n M) := am_AW_ret (rv := (some (.int x), n)) rfl rfl rfl (am_mono_self n)
theorem w88_13 {a0 : Value} {x : Int32} {st : List Value} : am_AW d 88 (13, [a0, .int x], st, n, M) Q = (am_AW d 88 (14, [a0, .int x], .int x :: st, n, M) Q) := am_AW_go rfl rfl rfl rfl
theorem w88_14 {L st : List Value} {v0 : Value} : am_AW d 88 (14, L, v0 :: st, n, M) Q = (am_okA 1 (v0 :: st) = true ∧ am_Do d 91 [v0] n M (am_then d 88 17 0 L st n Q)) := am_AW_cs (i := 144) (x := 91) (y := 1) (z := 0) rfl
theorem w88_17 {L st : List Value} {x : Int32} : am_AW d 88 (17, L, .int x :: st, n, M) Q = (if x = am_z 0 then am_AW d 88 (46, L, st, n, M) Q else am_AW d 88 (20, L, st, n, M) Q) := (am_AW_ifz rfl).trans am_ite_eq
theorem w88_20 {a1 : Value} {x : Nat} {st : List Value} : am_AW d 88 (20, [.ref x, a1], st, n, M) Q = (am_AW d 88 (21, [.ref x, a1], .ref x :: st, n, M) Q) := am_AW_go rfl rfl rfl rfl
theorem w88_21 {L st : List Value} {h : Nat} : am_AW d 88 (21, L, .ref h :: st, n, M) Q = (∃ v, am_fld M h 5 0 = some v ∧ am_AW d 88 (24, L, v :: st, n, M) Q) := am_AW_op (o := am_fld M h 5 0) (f := fun v => (24, L, v :: st, n, M)) rfl rfl (am_bm _ _) (fun _ => rfl)
theorem w88_24 {a0 : Value} {x : Int32} {st : List Value} : am_AW d 88 (24, [a0, .int x], st, n, M) Q = (am_AW d 88 (25, [a0, .int x], .int x :: st, n, M) Q) := am_AW_go rfl rfl rfl rfl
theorem w88_25 {L st : List Value} : am_AW d 88 (25, L, st, n, M) Q = (am_AW d 88 (27, L, .int (am_z 65) :: st, n, M) Q) := am_AW_go rfl rfl rfl rfl
theorem w88_27 {L st : List Value} {x y : Int32} : am_AW d 88 (27, L, .int y :: .int x :: st, n, M) Q = (am_AW d 88 (28, L, .int (x - y) :: st, n, M) Q) := am_AW_go rfl rfl rfl rfl
theorem w88_28 {L st : List Value} {v0 v1 : Value} : am_AW d 88 (28, L, v0 :: v1 :: st, n, M) Q = (am_okA 2 (v0 :: v1 :: st) = true ∧ am_isO M [v1, v0] 3 = true ∧ am_Do d 79 [v1, v0] n M (am_then d 88 31 0 L st n Q)) := am_AW_cv (i := 150) (x := 79) (y := 302) (z := 0) rfl
theorem w88_31 {L st : List Value} {x : Int32} : am_AW d 88 (31, L, .int x :: st, n, M) Q = (if x = am_z 0 then am_AW d 88 (44, L, st, n, M) Q else am_AW d 88 (34, L, st, n, M) Q) := (am_AW_ifz rfl).trans am_ite_eq
theorem w88_34 {L st : List Value} : am_AW d 88 (34, L, st, n, M) Q = (am_AW d 88 (36, L, .int (am_z 10) :: st, n, M) Q) := am_AW_go rfl rfl rfl rfl
theorem w88_36 {a0 : Value} {x : Int32} {st : List Value} : am_AW d 88 (36, [a0, .int x], st, n, M) Q = (am_AW d 88 (37, [a0, .int x], .int x :: st, n, M) Q) := am_AW_go rfl rfl rfl rfl
theorem w88_37 {L st : List Value} {x y : Int32} : am_AW d 88 (37, L, .int y :: .int x :: st, n, M) Q = (am_AW d 88 (38, L, .int (x + y) :: st, n, M) Q) := am_AW_go rfl rfl rfl rfl
theorem w88_38 {L st : List Value} : am_AW d 88 (38, L, st, n, M) Q = (am_AW d 88 (40, L, .int (am_z 65) :: st, n, M) Q) := am_AW_go rfl rfl rfl rfl
theorem w88_40 {L st : List Value} {x y : Int32} : am_AW d 88 (40, L, .int y :: .int x :: st, n, M) Q = (am_AW d 88 (41, L, .int (x - y) :: st, n, M) Q) := am_AW_go rfl rfl rfl rfl
theorem w88_41 {L st : List Value} : am_AW d 88 (41, L, st, n, M) Q = (am_AW d 88 (45, L, st, n, M) Q) := am_AW_go rfl rfl rfl rfl
theorem w88_44 {L st : List Value} : am_AW d 88 (44, L, st, n, M) Q = (am_AW d 88 (45, L, .int (am_z (-1)) :: st, n, M) Q) := am_AW_go rfl rfl rfl rfl
theorem w88_45 {L : List Value} {x : Int32} : am_AW d 88 (45, L, [.int x], n, M) Q = (Q (some (.int x)) n M) := am_AW_ret (rv := (some (.int x), n)) rfl rfl rfl (am_mono_self n)
theorem w88_46 {a0 : Value} {x : Int32} {st : List Value} : am_AW d 88 (46, [a0, .int x], st, n, M) Q = (am_AW d 88 (47, [a0, .int x], .int x :: st, n, M) Q) := am_AW_go rfl rfl rfl rfl
theorem w88_47 {L st : List Value} {x : Int32} : am_AW d 88 (47, L, .int x :: st, n, M) Q = (∃ t, am_sw (.lookupswitch 51 #[(42, 41), (78, 43), (82, 48), (83, 45)]) 47 x = some t ∧ am_AW d 88 (t, L, st, n, M) Q) := am_AW_op (o := am_sw (.lookupswitch 51 #[(42, 41), (78, 43), (82, 48), (83, 45)]) 47 x) (f := fun t => (t, L, st, n, M)) rfl rfl rfl (fun _ => rfl)
theorem w88_88 {L st : List Value} : am_AW d 88 (88, L, st, n, M) Q = (am_AW d 88 (89, L, .int (am_z 3) :: st, n, M) Q) := am_AW_go rfl rfl rfl rfl
theorem w88_89 {L : List Value} {x : Int32} : am_AW d 88 (89, L, [.int x], n, M) Q = (Q (some (.int x)) n M) := am_AW_ret (rv := (some (.int x), n)) rfl rfl rfl (am_mono_self n)
theorem w88_90 {L st : List Value} : am_AW d 88 (90, L, st, n, M) Q = (am_AW d 88 (91, L, .int (am_z 5) :: st, n, M) Q) := am_AW_go rfl rfl rfl rfl
theorem w88_91 {L : List Value} {x : Int32} : am_AW d 88 (91, L, [.int x], n, M) Q = (Q (some (.int x)) n M) := am_AW_ret (rv := (some (.int x), n)) rfl rfl rfl (am_mono_self n)
theorem w88_92 {L st : List Value} : am_AW d 88 (92, L, st, n, M) Q = (am_AW d 88 (94, L, .int (am_z 7) :: st, n, M) Q) := am_AW_go rfl rfl rfl rfl
theorem w88_94 {L : List Value} {x : Int32} : am_AW d 88 (94, L, [.int x], n, M) Q = (Q (some (.int x)) n M) := am_AW_ret (rv := (some (.int x), n)) rfl rfl rfl (am_mono_self n)
theorem w88_95 {L st : List Value} : am_AW d 88 (95, L, st, n, M) Q = (am_AW d 88 (97, L, .int (am_z 8) :: st, n, M) Q) := am_AW_go rfl rfl rfl rfl
theorem w88_97 {L : List Value} {x : Int32} : am_AW d 88 (97, L, [.int x], n, M) Q = (Q (some (.int x)) n M) := am_AW_ret (rv := (some (.int x), n)) rfl rfl rfl (am_mono_self n)
theorem w88_98 {L st : List Value} : am_AW d 88 (98, L, st, n, M) Q = (am_AW d 88 (99, L, .int (am_z (-1)) :: st, n, M) Q) := am_AW_go rfl rfl rfl rfl
theorem w88_99 {L : List Value} {x : Int32} : am_AW d 88 (99, L, [.int x], n, M) Q = (Q (some (.int x)) n M) := am_AW_ret (rv := (some (.int x), n)) rfl rfl rfl (am_mono_self n)
end W88
section W89
variable {d : Nat} {n : am_N} {M : am_M} {Q : Option Value → am_N → am_M → Prop}
theorem w89_0 {L st : List Value} : am_AW d 89 (0, L, st, n, M) Q = (am_AW d 89 (1, L, .int (am_z 0) :: st, n, M) Q) := am_AW_go rfl rfl rfl rfl
theorem w89_1 {a0 a1 a2 : Value} {x : Int32} {st : List Value} : am_AW d 89 (1, [a0, a1, a2], .int x :: st, n, M) Q = (am_AW d 89 (2, [a0, a1, .int x], st, n, M) Q) := am_AW_go rfl rfl rfl rfl
theorem w89_2 {a0 a1 : Value} {x : Int32} {st : List Value} : am_AW d 89 (2, [a0, a1, .int x], st, n, M) Q = (am_AW d 89 (3, [a0, a1, .int x], .int x :: st, n, M) Q) := am_AW_go rfl rfl rfl rfl
theorem w89_3 {a1 a2 : Value} {x : Nat} {st : List Value} : am_AW d 89 (3, [.ref x, a1, a2], st, n, M) Q = (am_AW d 89 (4, [.ref x, a1, a2], .ref x :: st, n, M) Q) := am_AW_go rfl rfl rfl rfl
theorem w89_4 {L st : List Value} {h : Nat} : am_AW d 89 (4, L, .ref h :: st, n, M) Q = (∃ v, am_fld M h 5 5 = some v ∧ am_AW d 89 (7, L, v :: st, n, M) Q) := am_AW_op (o := am_fld M h 5 5) (f := fun v => (7, L, v :: st, n, M)) rfl rfl (am_bm _ _) (fun _ => rfl)
theorem w89_7 {L st : List Value} {x y : Int32} : am_AW d 89 (7, L, .int y :: .int x :: st, n, M) Q = (if x < y then am_AW d 89 (10, L, st, n, M) Q else am_AW d 89 (38, L, st, n, M) Q) := (am_AW_icmp rfl).trans am_ite_ge
theorem w89_10 {a1 a2 : Value} {x : Nat} {st : List Value} : am_AW d 89 (10, [.ref x, a1, a2], st, n, M) Q = (am_AW d 89 (11, [.ref x, a1, a2], .ref x :: st, n, M) Q) := am_AW_go rfl rfl rfl rfl
theorem w89_11 {L st : List Value} {h : Nat} : am_AW d 89 (11, L, .ref h :: st, n, M) Q = (∃ v, am_fld M h 5 4 = some v ∧ am_AW d 89 (14, L, v :: st, n, M) Q) := am_AW_op (o := am_fld M h 5 4) (f := fun v => (14, L, v :: st, n, M)) rfl rfl (am_bm _ _) (fun _ => rfl)
theorem w89_14 {a1 a2 : Value} {x : Nat} {st : List Value} : am_AW d 89 (14, [.ref x, a1, a2], st, n, M) Q = (am_AW d 89 (15, [.ref x, a1, a2], .ref x :: st, n, M) Q) := am_AW_go rfl rfl rfl rfl
theorem w89_15 {L st : List Value} {h : Nat} : am_AW d 89 (15, L, .ref h :: st, n, M) Q = (∃ v, am_fld M h 5 5 = some v ∧ am_AW d 89 (18, L, v :: st, n, M) Q) := am_AW_op (o := am_fld M h 5 5) (f := fun v => (18, L, v :: st, n, M)) rfl rfl (am_bm _ _) (fun _ => rfl)
theorem w89_18 {L st : List Value} : am_AW d 89 (18, L, st, n, M) Q = (am_AW d 89 (19, L, .int (am_z 1) :: st, n, M) Q) := am_AW_go rfl rfl rfl rfl
theorem w89_19 {L st : List Value} {x y : Int32} : am_AW d 89 (19, L, .int y :: .int x :: st, n, M) Q = (am_AW d 89 (20, L, .int (x - y) :: st, n, M) Q) := am_AW_go rfl rfl rfl rfl
theorem w89_20 {a0 a1 : Value} {x : Int32} {st : List Value} : am_AW d 89 (20, [a0, a1, .int x], st, n, M) Q = (am_AW d 89 (21, [a0, a1, .int x], .int x :: st, n, M) Q) := am_AW_go rfl rfl rfl rfl
theorem w89_21 {L st : List Value} {x y : Int32} : am_AW d 89 (21, L, .int y :: .int x :: st, n, M) Q = (am_AW d 89 (22, L, .int (x - y) :: st, n, M) Q) := am_AW_go rfl rfl rfl rfl
theorem w89_22 {L st : List Value} {h : Nat} {i : Int32} : am_AW d 89 (22, L, .int i :: .ref h :: st, n, M) Q = (∃ v, am_ald 1 M h i = some v ∧ am_AW d 89 (23, L, .int v :: st, n, M) Q) := am_AW_op (o := am_ald 1 M h i) (f := fun v => (23, L, .int v :: st, n, M)) rfl rfl (am_bm2 _ _ () ()) (fun _ => rfl)
theorem w89_23 {a0 a2 : Value} {x : Int32} {st : List Value} : am_AW d 89 (23, [a0, .int x, a2], st, n, M) Q = (am_AW d 89 (24, [a0, .int x, a2], .int x :: st, n, M) Q) := am_AW_go rfl rfl rfl rfl
theorem w89_24 {L st : List Value} {x y : Int32} : am_AW d 89 (24, L, .int y :: .int x :: st, n, M) Q = (if x = y then am_AW d 89 (27, L, st, n, M) Q else am_AW d 89 (32, L, st, n, M) Q) := (am_AW_icmp rfl).trans am_ite_ne
theorem w89_27 {L st : List Value} : am_AW d 89 (27, L, st, n, M) Q = (am_AW d 89 (29, L, .int (am_z 50) :: st, n, M) Q) := am_AW_go rfl rfl rfl rfl
theorem w89_29 {a0 a1 : Value} {x : Int32} {st : List Value} : am_AW d 89 (29, [a0, a1, .int x], st, n, M) Q = (am_AW d 89 (30, [a0, a1, .int x], .int x :: st, n, M) Q) := am_AW_go rfl rfl rfl rfl
theorem w89_30 {L st : List Value} {x y : Int32} : am_AW d 89 (30, L, .int y :: .int x :: st, n, M) Q = (am_AW d 89 (31, L, .int (x + y) :: st, n, M) Q) := am_AW_go rfl rfl rfl rfl
theorem w89_31 {L : List Value} {x : Int32} : am_AW d 89 (31, L, [.int x], n, M) Q = (Q (some (.int x)) n M) := am_AW_ret (rv := (some (.int x), n)) rfl rfl rfl (am_mono_self n)
theorem w89_32 {a0 a1 : Value} {x : Int32} {st : List Value} : am_AW d 89 (32, [a0, a1, .int x], st, n, M) Q = (am_AW d 89 (35, [a0, a1, .int (x + (am_z 1))], st, n, M) Q) := am_AW_go rfl rfl rfl rfl
theorem w89_35 {L st : List Value} : am_AW d 89 (35, L, st, n, M) Q = (am_AW d 89 (2, L, st, n, M) Q) := am_AW_go rfl rfl rfl rfl
theorem w89_38 {L st : List Value} : am_AW d 89 (38, L, st, n, M) Q = (am_AW d 89 (39, L, .int (am_z (-1)) :: st, n, M) Q) := am_AW_go rfl rfl rfl rfl
theorem w89_39 {L : List Value} {x : Int32} : am_AW d 89 (39, L, [.int x], n, M) Q = (Q (some (.int x)) n M) := am_AW_ret (rv := (some (.int x), n)) rfl rfl rfl (am_mono_self n)
end W89
section W90
variable {d : Nat} {n : am_N} {M : am_M} {Q : Option Value → am_N → am_M → Prop}
theorem w90_0 {x : Int32} {st : List Value} : am_AW d 90 (0, [.int x], st, n, M) Q = (am_AW d 90 (1, [.int x], .int x :: st, n, M) Q) := am_AW_go rfl rfl rfl rfl
theorem w90_1 {L st : List Value} : am_AW d 90 (1, L, st, n, M) Q = (am_AW d 90 (3, L, .int (am_z 97) :: st, n, M) Q) := am_AW_go rfl rfl rfl rfl
theorem w90_3 {L st : List Value} {x y : Int32} : am_AW d 90 (3, L, .int y :: .int x :: st, n, M) Q = (if x < y then am_AW d 90 (16, L, st, n, M) Q else am_AW d 90 (6, L, st, n, M) Q) := (am_AW_icmp rfl).trans am_ite_lt
theorem w90_6 {x : Int32} {st : List Value} : am_AW d 90 (6, [.int x], st, n, M) Q = (am_AW d 90 (7, [.int x], .int x :: st, n, M) Q) := am_AW_go rfl rfl rfl rfl
theorem w90_7 {L st : List Value} : am_AW d 90 (7, L, st, n, M) Q = (am_AW d 90 (9, L, .int (am_z 122) :: st, n, M) Q) := am_AW_go rfl rfl rfl rfl
theorem w90_9 {L st : List Value} {x y : Int32} : am_AW d 90 (9, L, .int y :: .int x :: st, n, M) Q = (if x ≤ y then am_AW d 90 (12, L, st, n, M) Q else am_AW d 90 (16, L, st, n, M) Q) := (am_AW_icmp rfl).trans am_ite_gt
theorem w90_12 {L st : List Value} : am_AW d 90 (12, L, st, n, M) Q = (am_AW d 90 (13, L, .int (am_z 1) :: st, n, M) Q) := am_AW_go rfl rfl rfl rfl
theorem w90_13 {L st : List Value} : am_AW d 90 (13, L, st, n, M) Q = (am_AW d 90 (17, L, st, n, M) Q) := am_AW_go rfl rfl rfl rfl
theorem w90_16 {L st : List Value} : am_AW d 90 (16, L, st, n, M) Q = (am_AW d 90 (17, L, .int (am_z 0) :: st, n, M) Q) := am_AW_go rfl rfl rfl rfl
theorem w90_17 {L : List Value} {x : Int32} (hf : am_fit 1 (.int x) = true) : am_AW d 90 (17, L, [.int x], n, M) Q = (Q (some (.int x)) n M) := am_AW_ret (rv := (some (.int x), n)) rfl rfl (if_pos hf) (am_mono_self n)
end W90
section W91
variable {d : Nat} {n : am_N} {M : am_M} {Q : Option Value → am_N → am_M → Prop}
theorem w91_0 {x : Int32} {st : List Value} : am_AW d 91 (0, [.int x], st, n, M) Q = (am_AW d 91 (1, [.int x], .int x :: st, n, M) Q) := am_AW_go rfl rfl rfl rfl
theorem w91_1 {L st : List Value} : am_AW d 91 (1, L, st, n, M) Q = (am_AW d 91 (3, L, .int (am_z 65) :: st, n, M) Q) := am_AW_go rfl rfl rfl rfl
theorem w91_3 {L st : List Value} {x y : Int32} : am_AW d 91 (3, L, .int y :: .int x :: st, n, M) Q = (if x < y then am_AW d 91 (16, L, st, n, M) Q else am_AW d 91 (6, L, st, n, M) Q) := (am_AW_icmp rfl).trans am_ite_lt
theorem w91_6 {x : Int32} {st : List Value} : am_AW d 91 (6, [.int x], st, n, M) Q = (am_AW d 91 (7, [.int x], .int x :: st, n, M) Q) := am_AW_go rfl rfl rfl rfl
theorem w91_7 {L st : List Value} : am_AW d 91 (7, L, st, n, M) Q = (am_AW d 91 (9, L, .int (am_z 73) :: st, n, M) Q) := am_AW_go rfl rfl rfl rfl
theorem w91_9 {L st : List Value} {x y : Int32} : am_AW d 91 (9, L, .int y :: .int x :: st, n, M) Q = (if x < y then am_AW d 91 (12, L, st, n, M) Q else am_AW d 91 (16, L, st, n, M) Q) := (am_AW_icmp rfl).trans am_ite_ge
theorem w91_12 {L st : List Value} : am_AW d 91 (12, L, st, n, M) Q = (am_AW d 91 (13, L, .int (am_z 1) :: st, n, M) Q) := am_AW_go rfl rfl rfl rfl
theorem w91_13 {L st : List Value} : am_AW d 91 (13, L, st, n, M) Q = (am_AW d 91 (17, L, st, n, M) Q) := am_AW_go rfl rfl rfl rfl
theorem w91_16 {L st : List Value} : am_AW d 91 (16, L, st, n, M) Q = (am_AW d 91 (17, L, .int (am_z 0) :: st, n, M) Q) := am_AW_go rfl rfl rfl rfl
theorem w91_17 {L : List Value} {x : Int32} (hf : am_fit 1 (.int x) = true) : am_AW d 91 (17, L, [.int x], n, M) Q = (Q (some (.int x)) n M) := am_AW_ret (rv := (some (.int x), n)) rfl rfl (if_pos hf) (am_mono_self n)
end W91
section W92
variable {d : Nat} {n : am_N} {M : am_M} {Q : Option Value → am_N → am_M → Prop}
theorem w92_0 {x : Int32} {st : List Value} : am_AW d 92 (0, [.int x], st, n, M) Q = (am_AW d 92 (1, [.int x], .int x :: st, n, M) Q) := am_AW_go rfl rfl rfl rfl
theorem w92_1 {L st : List Value} : am_AW d 92 (1, L, st, n, M) Q = (am_AW d 92 (3, L, .int (am_z 48) :: st, n, M) Q) := am_AW_go rfl rfl rfl rfl
theorem w92_3 {L st : List Value} {x y : Int32} : am_AW d 92 (3, L, .int y :: .int x :: st, n, M) Q = (if x < y then am_AW d 92 (16, L, st, n, M) Q else am_AW d 92 (6, L, st, n, M) Q) := (am_AW_icmp rfl).trans am_ite_lt
theorem w92_6 {x : Int32} {st : List Value} : am_AW d 92 (6, [.int x], st, n, M) Q = (am_AW d 92 (7, [.int x], .int x :: st, n, M) Q) := am_AW_go rfl rfl rfl rfl
theorem w92_7 {L st : List Value} : am_AW d 92 (7, L, st, n, M) Q = (am_AW d 92 (9, L, .int (am_z 57) :: st, n, M) Q) := am_AW_go rfl rfl rfl rfl
theorem w92_9 {L st : List Value} {x y : Int32} : am_AW d 92 (9, L, .int y :: .int x :: st, n, M) Q = (if x ≤ y then am_AW d 92 (12, L, st, n, M) Q else am_AW d 92 (16, L, st, n, M) Q) := (am_AW_icmp rfl).trans am_ite_gt
theorem w92_12 {L st : List Value} : am_AW d 92 (12, L, st, n, M) Q = (am_AW d 92 (13, L, .int (am_z 1) :: st, n, M) Q) := am_AW_go rfl rfl rfl rfl
theorem w92_13 {L st : List Value} : am_AW d 92 (13, L, st, n, M) Q = (am_AW d 92 (17, L, st, n, M) Q) := am_AW_go rfl rfl rfl rfl
theorem w92_16 {L st : List Value} : am_AW d 92 (16, L, st, n, M) Q = (am_AW d 92 (17, L, .int (am_z 0) :: st, n, M) Q) := am_AW_go rfl rfl rfl rfl
theorem w92_17 {L : List Value} {x : Int32} (hf : am_fit 1 (.int x) = true) : am_AW d 92 (17, L, [.int x], n, M) Q = (Q (some (.int x)) n M) := am_AW_ret (rv := (some (.int x), n)) rfl rfl (if_pos hf) (am_mono_self n)
end W92
section W93
variable {d : Nat} {n : am_N} {M : am_M} {Q : Option Value → am_N → am_M → Prop}
theorem w93_0 {x : Nat} {st : List Value} : am_AW d 93 (0, [.ref x], st, n, M) Q = (am_AW d 93 (1, [.ref x], .ref x :: st, n, M) Q) := am_AW_go rfl rfl rfl rfl
theorem w93_1 {x : Nat} {st : List Value} : am_AW d 93 (1, [.ref x], st, n, M) Q = (am_AW d 93 (2, [.ref x], .ref x :: st, n, M) Q) := am_AW_go rfl rfl rfl rfl
theorem w93_2 {L st : List Value} {h : Nat} : am_AW d 93 (2, L, .ref h :: st, n, M) Q = (∃ v, am_fld M h 5 2 = some v ∧ am_AW d 93 (5, L, v :: st, n, M) Q) := am_AW_op (o := am_fld M h 5 2) (f := fun v => (5, L, v :: st, n, M)) rfl rfl (am_bm _ _) (fun _ => rfl)
theorem w93_5 {L st : List Value} {h : Nat} : am_AW d 93 (5, L, .ref h :: st, n, M) Q = (∃ v, am_fld M h 0 1 = some v ∧ am_AW d 93 (8, L, v :: st, n, M) Q) := am_AW_op (o := am_fld M h 0 1) (f := fun v => (8, L, v :: st, n, M)) rfl rfl (am_bm _ _) (fun _ => rfl)
theorem w93_8 {L st : List Value} {h : Nat} {v : Value} : am_AW d 93 (8, L, v :: .ref h :: st, n, M) Q = (am_fit 0 v = true ∧ ∃ M', am_setf M h 5 7 v = some M' ∧ am_AW d 93 (11, L, st, n, M') Q) := am_AW_put rfl
theorem w93_11 {x : Nat} {st : List Value} : am_AW d 93 (11, [.ref x], st, n, M) Q = (am_AW d 93 (12, [.ref x], .ref x :: st, n, M) Q) := am_AW_go rfl rfl rfl rfl
theorem w93_12 {L st : List Value} : am_AW d 93 (12, L, st, n, M) Q = (am_AW d 93 (13, L, .int (am_z 0) :: st, n, M) Q) := am_AW_go rfl rfl rfl rfl
theorem w93_13 {L st : List Value} {h : Nat} {v : Value} : am_AW d 93 (13, L, v :: .ref h :: st, n, M) Q = (am_fit 0 v = true ∧ ∃ M', am_setf M h 5 6 v = some M' ∧ am_AW d 93 (16, L, st, n, M') Q) := am_AW_put rfl
theorem w93_16 {L : List Value} : am_AW d 93 (16, L, [], n, M) Q = (Q none n M) := am_AW_ret (rv := (none, n)) rfl rfl rfl (am_mono_self n)
end W93
section W94
variable {d : Nat} {n : am_N} {M : am_M} {Q : Option Value → am_N → am_M → Prop}
theorem w94_0 {a1 a2 : Value} {x : Nat} {st : List Value} : am_AW d 94 (0, [.ref x, a1, a2], st, n, M) Q = (am_AW d 94 (1, [.ref x, a1, a2], .ref x :: st, n, M) Q) := am_AW_go rfl rfl rfl rfl
theorem w94_1 {L st : List Value} {h : Nat} : am_AW d 94 (1, L, .ref h :: st, n, M) Q = (∃ v, am_fld M h 5 2 = some v ∧ am_AW d 94 (4, L, v :: st, n, M) Q) := am_AW_op (o := am_fld M h 5 2) (f := fun v => (4, L, v :: st, n, M)) rfl rfl (am_bm _ _) (fun _ => rfl)
theorem w94_4 {L st : List Value} {h : Nat} : am_AW d 94 (4, L, .ref h :: st, n, M) Q = (∃ v, am_fld M h 0 1 = some v ∧ am_AW d 94 (7, L, v :: st, n, M) Q) := am_AW_op (o := am_fld M h 0 1) (f := fun v => (7, L, v :: st, n, M)) rfl rfl (am_bm _ _) (fun _ => rfl)
theorem w94_7 {L st : List Value} : am_AW d 94 (7, L, st, n, M) Q = (am_AW d 94 (10, L, .int (am_z 200) :: st, n, M) Q) := am_AW_go rfl rfl rfl rfl
theorem w94_10 {L st : List Value} {x y : Int32} : am_AW d 94 (10, L, .int y :: .int x :: st, n, M) Q = (if x < y then am_AW d 94 (13, L, st, n, M) Q else am_AW d 94 (26, L, st, n, M) Q) := (am_AW_icmp rfl).trans am_ite_ge
theorem w94_13 {a1 a2 : Value} {x : Nat} {st : List Value} : am_AW d 94 (13, [.ref x, a1, a2], st, n, M) Q = (am_AW d 94 (14, [.ref x, a1, a2], .ref x :: st, n, M) Q) := am_AW_go rfl rfl rfl rfl
theorem w94_14 {L st : List Value} {h : Nat} : am_AW d 94 (14, L, .ref h :: st, n, M) Q = (∃ v, am_fld M h 5 3 = some v ∧ am_AW d 94 (17, L, v :: st, n, M) Q) := am_AW_op (o := am_fld M h 5 3) (f := fun v => (17, L, v :: st, n, M)) rfl rfl (am_bm _ _) (fun _ => rfl)
theorem w94_17 {a1 a2 : Value} {x : Nat} {st : List Value} : am_AW d 94 (17, [.ref x, a1, a2], st, n, M) Q = (am_AW d 94 (18, [.ref x, a1, a2], .ref x :: st, n, M) Q) := am_AW_go rfl rfl rfl rfl
theorem w94_18 {L st : List Value} {h : Nat} : am_AW d 94 (18, L, .ref h :: st, n, M) Q = (∃ v, am_fld M h 5 2 = some v ∧ am_AW d 94 (21, L, v :: st, n, M) Q) := am_AW_op (o := am_fld M h 5 2) (f := fun v => (21, L, v :: st, n, M)) rfl rfl (am_bm _ _) (fun _ => rfl)
theorem w94_21 {L st : List Value} {h : Nat} : am_AW d 94 (21, L, .ref h :: st, n, M) Q = (∃ v, am_fld M h 0 1 = some v ∧ am_AW d 94 (24, L, v :: st, n, M) Q) := am_AW_op (o := am_fld M h 0 1) (f := fun v => (24, L, v :: st, n, M)) rfl rfl (am_bm _ _) (fun _ => rfl)
theorem w94_24 {a0 a1 : Value} {x : Int32} {st : List Value} : am_AW d 94 (24, [a0, a1, .int x], st, n, M) Q = (am_AW d 94 (25, [a0, a1, .int x], .int x :: st, n, M) Q) := am_AW_go rfl rfl rfl rfl
theorem w94_25 {L st : List Value} {h : Nat} {i v : Int32} : am_AW d 94 (25, L, .int v :: .int i :: .ref h :: st, n, M) Q = (am_fit 0 (.int v) = true ∧ ∃ M', am_ast 0 M h i v = some M' ∧ am_AW d 94 (26, L, st, n, M') Q) := am_AW_ast rfl (Or.inl ⟨rfl, rfl, rfl⟩)
theorem w94_26 {a1 a2 : Value} {x : Nat} {st : List Value} : am_AW d 94 (26, [.ref x, a1, a2], st, n, M) Q = (am_AW d 94 (27, [.ref x, a1, a2], .ref x :: st, n, M) Q) := am_AW_go rfl rfl rfl rfl
theorem w94_27 {L st : List Value} {h : Nat} : am_AW d 94 (27, L, .ref h :: st, n, M) Q = (∃ v, am_fld M h 5 2 = some v ∧ am_AW d 94 (30, L, v :: st, n, M) Q) := am_AW_op (o := am_fld M h 5 2) (f := fun v => (30, L, v :: st, n, M)) rfl rfl (am_bm _ _) (fun _ => rfl)
theorem w94_30 {a0 a2 : Value} {x : Int32} {st : List Value} : am_AW d 94 (30, [a0, .int x, a2], st, n, M) Q = (am_AW d 94 (31, [a0, .int x, a2], .int x :: st, n, M) Q) := am_AW_go rfl rfl rfl rfl
theorem w94_31 {L st : List Value} {v0 v1 : Value} : am_AW d 94 (31, L, v0 :: v1 :: st, n, M) Q = (am_okA 2 (v0 :: v1 :: st) = true ∧ am_isO M [v1, v0] 0 = true ∧ am_Do d 110 [v1, v0] n M (am_then d 94 34 0 L st n Q)) := am_AW_cv (i := 156) (x := 110) (y := 2) (z := 0) rfl
theorem w94_34 {L : List Value} : am_AW d 94 (34, L, [], n, M) Q = (Q none n M) := am_AW_ret (rv := (none, n)) rfl rfl rfl (am_mono_self n)
end W94
section W95
variable {d : Nat} {n : am_N} {M : am_M} {Q : Option Value → am_N → am_M → Prop}
theorem w95_0 {a1 a2 a3 : Value} {x : Nat} {st : List Value} : am_AW d 95 (0, [.ref x, a1, a2, a3], st, n, M) Q = (am_AW d 95 (1, [.ref x, a1, a2, a3], .ref x :: st, n, M) Q) := am_AW_go rfl rfl rfl rfl
theorem w95_1 {L st : List Value} {h : Nat} : am_AW d 95 (1, L, .ref h :: st, n, M) Q = (∃ v, am_fld M h 5 2 = some v ∧ am_AW d 95 (4, L, v :: st, n, M) Q) := am_AW_op (o := am_fld M h 5 2) (f := fun v => (4, L, v :: st, n, M)) rfl rfl (am_bm _ _) (fun _ => rfl)
theorem w95_4 {L st : List Value} {h : Nat} : am_AW d 95 (4, L, .ref h :: st, n, M) Q = (∃ v, am_fld M h 0 1 = some v ∧ am_AW d 95 (7, L, v :: st, n, M) Q) := am_AW_op (o := am_fld M h 0 1) (f := fun v => (7, L, v :: st, n, M)) rfl rfl (am_bm _ _) (fun _ => rfl)
theorem w95_7 {a0 a1 a2 a3 : Value} {x : Int32} {st : List Value} : am_AW d 95 (7, [a0, a1, a2, a3], .int x :: st, n, M) Q = (am_AW d 95 (8, [a0, a1, a2, .int x], st, n, M) Q) := am_AW_go rfl rfl rfl rfl
theorem w95_8 {a1 a2 a3 : Value} {x : Nat} {st : List Value} : am_AW d 95 (8, [.ref x, a1, a2, a3], st, n, M) Q = (am_AW d 95 (9, [.ref x, a1, a2, a3], .ref x :: st, n, M) Q) := am_AW_go rfl rfl rfl rfl
theorem w95_9 {a0 a2 a3 : Value} {x : Int32} {st : List Value} : am_AW d 95 (9, [a0, .int x, a2, a3], st, n, M) Q = (am_AW d 95 (10, [a0, .int x, a2, a3], .int x :: st, n, M) Q) := am_AW_go rfl rfl rfl rfl
theorem w95_10 {a0 a1 a3 : Value} {x : Int32} {st : List Value} : am_AW d 95 (10, [a0, a1, .int x, a3], st, n, M) Q = (am_AW d 95 (11, [a0, a1, .int x, a3], .int x :: st, n, M) Q) := am_AW_go rfl rfl rfl rfl
theorem w95_11 {L st : List Value} {v0 v1 v2 : Value} : am_AW d 95 (11, L, v0 :: v1 :: v2 :: st, n, M) Q = (am_okA 3 (v0 :: v1 :: v2 :: st) = true ∧ am_isO M [v2, v1, v0] 5 = true ∧ am_Do d 94 [v2, v1, v0] n M (am_then d 95 14 0 L st n Q)) := am_AW_cv (i := 100) (x := 94) (y := 503) (z := 0) rfl
theorem w95_14 {a1 a2 a3 : Value} {x : Nat} {st : List Value} : am_AW d 95 (14, [.ref x, a1, a2, a3], st, n, M) Q = (am_AW d 95 (15, [.ref x, a1, a2, a3], .ref x :: st, n, M) Q) := am_AW_go rfl rfl rfl rfl
theorem w95_15 {a0 a1 a2 : Value} {x : Int32} {st : List Value} : am_AW d 95 (15, [a0, a1, a2, .int x], st, n, M) Q = (am_AW d 95 (16, [a0, a1, a2, .int x], .int x :: st, n, M) Q) := am_AW_go rfl rfl rfl rfl
theorem w95_16 {L st : List Value} {v0 v1 : Value} : am_AW d 95 (16, L, v0 :: v1 :: st, n, M) Q = (am_okA 2 (v0 :: v1 :: st) = true ∧ am_isO M [v1, v0] 5 = true ∧ am_Do d 96 [v1, v0] n M (am_then d 95 19 0 L st n Q)) := am_AW_cv (i := 159) (x := 96) (y := 502) (z := 0) rfl
theorem w95_19 {L : List Value} : am_AW d 95 (19, L, [], n, M) Q = (Q none n M) := am_AW_ret (rv := (none, n)) rfl rfl rfl (am_mono_self n)
end W95
section W96
variable {d : Nat} {n : am_N} {M : am_M} {Q : Option Value → am_N → am_M → Prop}
theorem w96_0 {a0 : Value} {x : Int32} {st : List Value} : am_AW d 96 (0, [a0, .int x], st, n, M) Q = (am_AW d 96 (1, [a0, .int x], .int x :: st, n, M) Q) := am_AW_go rfl rfl rfl rfl
theorem w96_1 {a1 : Value} {x : Nat} {st : List Value} : am_AW d 96 (1, [.ref x, a1], st, n, M) Q = (am_AW d 96 (2, [.ref x, a1], .ref x :: st, n, M) Q) := am_AW_go rfl rfl rfl rfl
theorem w96_2 {L st : List Value} {h : Nat} : am_AW d 96 (2, L, .ref h :: st, n, M) Q = (∃ v, am_fld M h 5 7 = some v ∧ am_AW d 96 (5, L, v :: st, n, M) Q) := am_AW_op (o := am_fld M h 5 7) (f := fun v => (5, L, v :: st, n, M)) rfl rfl (am_bm _ _) (fun _ => rfl)
theorem w96_5 {L st : List Value} {x y : Int32} : am_AW d 96 (5, L, .int y :: .int x :: st, n, M) Q = (if x ≤ y then am_AW d 96 (13, L, st, n, M) Q else am_AW d 96 (8, L, st, n, M) Q) := (am_AW_icmp rfl).trans am_ite_le
theorem w96_8 {a1 : Value} {x : Nat} {st : List Value} : am_AW d 96 (8, [.ref x, a1], st, n, M) Q = (am_AW d 96 (9, [.ref x, a1], .ref x :: st, n, M) Q) := am_AW_go rfl rfl rfl rfl
theorem w96_9 {L st : List Value} : am_AW d 96 (9, L, st, n, M) Q = (am_AW d 96 (10, L, .int (am_z 0) :: st, n, M) Q) := am_AW_go rfl rfl rfl rfl
theorem w96_10 {L st : List Value} {v0 v1 : Value} : am_AW d 96 (10, L, v0 :: v1 :: st, n, M) Q = (am_okA 2 (v0 :: v1 :: st) = true ∧ am_isO M [v1, v0] 5 = true ∧ am_Do d 97 [v1, v0] n M (am_then d 96 13 0 L st n Q)) := am_AW_cv (i := 104) (x := 97) (y := 502) (z := 0) rfl
theorem w96_13 {a1 : Value} {x : Nat} {st : List Value} : am_AW d 96 (13, [.ref x, a1], st, n, M) Q = (am_AW d 96 (14, [.ref x, a1], .ref x :: st, n, M) Q) := am_AW_go rfl rfl rfl rfl
theorem w96_14 {L st : List Value} : am_AW d 96 (14, L, st, n, M) Q = (am_AW d 96 (15, L, .int (am_z 1) :: st, n, M) Q) := am_AW_go rfl rfl rfl rfl
theorem w96_15 {L st : List Value} {h : Nat} {v : Value} : am_AW d 96 (15, L, v :: .ref h :: st, n, M) Q = (am_fit 0 v = true ∧ ∃ M', am_setf M h 5 6 v = some M' ∧ am_AW d 96 (18, L, st, n, M') Q) := am_AW_put rfl
theorem w96_18 {L : List Value} : am_AW d 96 (18, L, [], n, M) Q = (Q none n M) := am_AW_ret (rv := (none, n)) rfl rfl rfl (am_mono_self n)
end W96
section W97
variable {d : Nat} {n : am_N} {M : am_M} {Q : Option Value → am_N → am_M → Prop}
theorem w97_0 {a1 a2 : Value} {x : Nat} {st : List Value} : am_AW d 97 (0, [.ref x, a1, a2], st, n, M) Q = (am_AW d 97 (1, [.ref x, a1, a2], .ref x :: st, n, M) Q) := am_AW_go rfl rfl rfl rfl
theorem w97_1 {L st : List Value} {h : Nat} : am_AW d 97 (1, L, .ref h :: st, n, M) Q = (∃ v, am_fld M h 5 2 = some v ∧ am_AW d 97 (4, L, v :: st, n, M) Q) := am_AW_op (o := am_fld M h 5 2) (f := fun v => (4, L, v :: st, n, M)) rfl rfl (am_bm _ _) (fun _ => rfl)
theorem w97_4 {L st : List Value} {h : Nat} : am_AW d 97 (4, L, .ref h :: st, n, M) Q = (∃ v, am_fld M h 0 1 = some v ∧ am_AW d 97 (7, L, v :: st, n, M) Q) := am_AW_op (o := am_fld M h 0 1) (f := fun v => (7, L, v :: st, n, M)) rfl rfl (am_bm _ _) (fun _ => rfl)
theorem w97_7 {a1 a2 : Value} {x : Nat} {st : List Value} : am_AW d 97 (7, [.ref x, a1, a2], st, n, M) Q = (am_AW d 97 (8, [.ref x, a1, a2], .ref x :: st, n, M) Q) := am_AW_go rfl rfl rfl rfl
theorem w97_8 {L st : List Value} {h : Nat} : am_AW d 97 (8, L, .ref h :: st, n, M) Q = (∃ v, am_fld M h 5 7 = some v ∧ am_AW d 97 (11, L, v :: st, n, M) Q) := am_AW_op (o := am_fld M h 5 7) (f := fun v => (11, L, v :: st, n, M)) rfl rfl (am_bm _ _) (fun _ => rfl)
theorem w97_11 {L st : List Value} {x y : Int32} : am_AW d 97 (11, L, .int y :: .int x :: st, n, M) Q = (am_AW d 97 (12, L, .int (x - y) :: st, n, M) Q) := am_AW_go rfl rfl rfl rfl
theorem w97_12 {a0 a1 a2 : Value} {x : Int32} {st : List Value} : am_AW d 97 (12, [a0, a1, a2], .int x :: st, n, M) Q = (am_AW d 97 (13, [a0, a1, .int x], st, n, M) Q) := am_AW_go rfl rfl rfl rfl
theorem w97_13 {a0 a1 : Value} {x : Int32} {st : List Value} : am_AW d 97 (13, [a0, a1, .int x], st, n, M) Q = (am_AW d 97 (14, [a0, a1, .int x], .int x :: st, n, M) Q) := am_AW_go rfl rfl rfl rfl
theorem w97_14 {L st : List Value} {x : Int32} : am_AW d 97 (14, L, .int x :: st, n, M) Q = (if x ≤ am_z 0 then am_AW d 97 (106, L, st, n, M) Q else am_AW d 97 (17, L, st, n, M) Q) := (am_AW_ifz rfl).trans am_ite_le
theorem w97_17 {a1 a2 : Value} {x : Nat} {st : List Value} : am_AW d 97 (17, [.ref x, a1, a2], st, n, M) Q = (am_AW d 97 (18, [.ref x, a1, a2], .ref x :: st, n, M) Q) := am_AW_go rfl rfl rfl rfl
theorem w97_18 {L st : List Value} {h : Nat} : am_AW d 97 (18, L, .ref h :: st, n, M) Q = (∃ v, am_fld M h 5 2 = some v ∧ am_AW d 97 (21, L, v :: st, n, M) Q) := am_AW_op (o := am_fld M h 5 2) (f := fun v => (21, L, v :: st, n, M)) rfl rfl (am_bm _ _) (fun _ => rfl)
theorem w97_21 {L st : List Value} {h : Nat} : am_AW d 97 (21, L, .ref h :: st, n, M) Q = (∃ v, am_fld M h 0 1 = some v ∧ am_AW d 97 (24, L, v :: st, n, M) Q) := am_AW_op (o := am_fld M h 0 1) (f := fun v => (24, L, v :: st, n, M)) rfl rfl (am_bm _ _) (fun _ => rfl)
theorem w97_24 {L st : List Value} : am_AW d 97 (24, L, st, n, M) Q = (am_AW d 97 (27, L, .int (am_z 200) :: st, n, M) Q) := am_AW_go rfl rfl rfl rfl
theorem w97_27 {L st : List Value} {x y : Int32} : am_AW d 97 (27, L, .int y :: .int x :: st, n, M) Q = (if x < y then am_AW d 97 (30, L, st, n, M) Q else am_AW d 97 (106, L, st, n, M) Q) := (am_AW_icmp rfl).trans am_ite_ge
theorem w97_30 {a1 a2 : Value} {x : Nat} {st : List Value} : am_AW d 97 (30, [.ref x, a1, a2], st, n, M) Q = (am_AW d 97 (31, [.ref x, a1, a2], .ref x :: st, n, M) Q) := am_AW_go rfl rfl rfl rfl
theorem w97_31 {L st : List Value} {h : Nat} : am_AW d 97 (31, L, .ref h :: st, n, M) Q = (∃ v, am_fld M h 5 2 = some v ∧ am_AW d 97 (34, L, v :: st, n, M) Q) := am_AW_op (o := am_fld M h 5 2) (f := fun v => (34, L, v :: st, n, M)) rfl rfl (am_bm _ _) (fun _ => rfl)
theorem w97_34 {L st : List Value} {h : Nat} : am_AW d 97 (34, L, .ref h :: st, n, M) Q = (∃ v, am_fld M h 0 0 = some v ∧ am_AW d 97 (37, L, v :: st, n, M) Q) := am_AW_op (o := am_fld M h 0 0) (f := fun v => (37, L, v :: st, n, M)) rfl rfl (am_bm _ _) (fun _ => rfl)
theorem w97_37 {a1 a2 : Value} {x : Nat} {st : List Value} : am_AW d 97 (37, [.ref x, a1, a2], st, n, M) Q = (am_AW d 97 (38, [.ref x, a1, a2], .ref x :: st, n, M) Q) := am_AW_go rfl rfl rfl rfl
theorem w97_38 {L st : List Value} {h : Nat} : am_AW d 97 (38, L, .ref h :: st, n, M) Q = (∃ v, am_fld M h 5 7 = some v ∧ am_AW d 97 (41, L, v :: st, n, M) Q) := am_AW_op (o := am_fld M h 5 7) (f := fun v => (41, L, v :: st, n, M)) rfl rfl (am_bm _ _) (fun _ => rfl)
theorem w97_41 {a1 a2 : Value} {x : Nat} {st : List Value} : am_AW d 97 (41, [.ref x, a1, a2], st, n, M) Q = (am_AW d 97 (42, [.ref x, a1, a2], .ref x :: st, n, M) Q) := am_AW_go rfl rfl rfl rfl
theorem w97_42 {L st : List Value} {h : Nat} : am_AW d 97 (42, L, .ref h :: st, n, M) Q = (∃ v, am_fld M h 5 2 = some v ∧ am_AW d 97 (45, L, v :: st, n, M) Q) := am_AW_op (o := am_fld M h 5 2) (f := fun v => (45, L, v :: st, n, M)) rfl rfl (am_bm _ _) (fun _ => rfl)
theorem w97_45 {L st : List Value} {h : Nat} : am_AW d 97 (45, L, .ref h :: st, n, M) Q = (∃ v, am_fld M h 0 0 = some v ∧ am_AW d 97 (48, L, v :: st, n, M) Q) := am_AW_op (o := am_fld M h 0 0) (f := fun v => (48, L, v :: st, n, M)) rfl rfl (am_bm _ _) (fun _ => rfl)
theorem w97_48 {a1 a2 : Value} {x : Nat} {st : List Value} : am_AW d 97 (48, [.ref x, a1, a2], st, n, M) Q = (am_AW d 97 (49, [.ref x, a1, a2], .ref x :: st, n, M) Q) := am_AW_go rfl rfl rfl rfl
theorem w97_49 {L st : List Value} {h : Nat} : am_AW d 97 (49, L, .ref h :: st, n, M) Q = (∃ v, am_fld M h 5 7 = some v ∧ am_AW d 97 (52, L, v :: st, n, M) Q) := am_AW_op (o := am_fld M h 5 7) (f := fun v => (52, L, v :: st, n, M)) rfl rfl (am_bm _ _) (fun _ => rfl)
theorem w97_52 {L st : List Value} : am_AW d 97 (52, L, st, n, M) Q = (am_AW d 97 (53, L, .int (am_z 1) :: st, n, M) Q) := am_AW_go rfl rfl rfl rfl
theorem w97_53 {L st : List Value} {x y : Int32} : am_AW d 97 (53, L, .int y :: .int x :: st, n, M) Q = (am_AW d 97 (54, L, .int (x + y) :: st, n, M) Q) := am_AW_go rfl rfl rfl rfl
theorem w97_54 {a0 a1 : Value} {x : Int32} {st : List Value} : am_AW d 97 (54, [a0, a1, .int x], st, n, M) Q = (am_AW d 97 (55, [a0, a1, .int x], .int x :: st, n, M) Q) := am_AW_go rfl rfl rfl rfl
theorem w97_55 {L st : List Value} {v0 v1 v2 v3 v4 : Value} : am_AW d 97 (55, L, v0 :: v1 :: v2 :: v3 :: v4 :: st, n, M) Q = (am_okA 5 (v0 :: v1 :: v2 :: v3 :: v4 :: st) = true ∧ am_Do d 2001 [v4, v3, v2, v1, v0] n M (am_then d 97 58 0 L st n Q)) := am_AW_cs (i := 162) (x := 2001) (y := 5) (z := 0) rfl
theorem w97_58 {a1 a2 : Value} {x : Nat} {st : List Value} : am_AW d 97 (58, [.ref x, a1, a2], st, n, M) Q = (am_AW d 97 (59, [.ref x, a1, a2], .ref x :: st, n, M) Q) := am_AW_go rfl rfl rfl rfl
theorem w97_59 {L st : List Value} {h : Nat} : am_AW d 97 (59, L, .ref h :: st, n, M) Q = (∃ v, am_fld M h 5 3 = some v ∧ am_AW d 97 (62, L, v :: st, n, M) Q) := am_AW_op (o := am_fld M h 5 3) (f := fun v => (62, L, v :: st, n, M)) rfl rfl (am_bm _ _) (fun _ => rfl)
theorem w97_62 {a1 a2 : Value} {x : Nat} {st : List Value} : am_AW d 97 (62, [.ref x, a1, a2], st, n, M) Q = (am_AW d 97 (63, [.ref x, a1, a2], .ref x :: st, n, M) Q) := am_AW_go rfl rfl rfl rfl
theorem w97_63 {L st : List Value} {h : Nat} : am_AW d 97 (63, L, .ref h :: st, n, M) Q = (∃ v, am_fld M h 5 7 = some v ∧ am_AW d 97 (66, L, v :: st, n, M) Q) := am_AW_op (o := am_fld M h 5 7) (f := fun v => (66, L, v :: st, n, M)) rfl rfl (am_bm _ _) (fun _ => rfl)
theorem w97_66 {a1 a2 : Value} {x : Nat} {st : List Value} : am_AW d 97 (66, [.ref x, a1, a2], st, n, M) Q = (am_AW d 97 (67, [.ref x, a1, a2], .ref x :: st, n, M) Q) := am_AW_go rfl rfl rfl rfl
theorem w97_67 {L st : List Value} {h : Nat} : am_AW d 97 (67, L, .ref h :: st, n, M) Q = (∃ v, am_fld M h 5 3 = some v ∧ am_AW d 97 (70, L, v :: st, n, M) Q) := am_AW_op (o := am_fld M h 5 3) (f := fun v => (70, L, v :: st, n, M)) rfl rfl (am_bm _ _) (fun _ => rfl)
theorem w97_70 {a1 a2 : Value} {x : Nat} {st : List Value} : am_AW d 97 (70, [.ref x, a1, a2], st, n, M) Q = (am_AW d 97 (71, [.ref x, a1, a2], .ref x :: st, n, M) Q) := am_AW_go rfl rfl rfl rfl
theorem w97_71 {L st : List Value} {h : Nat} : am_AW d 97 (71, L, .ref h :: st, n, M) Q = (∃ v, am_fld M h 5 7 = some v ∧ am_AW d 97 (74, L, v :: st, n, M) Q) := am_AW_op (o := am_fld M h 5 7) (f := fun v => (74, L, v :: st, n, M)) rfl rfl (am_bm _ _) (fun _ => rfl)
theorem w97_74 {L st : List Value} : am_AW d 97 (74, L, st, n, M) Q = (am_AW d 97 (75, L, .int (am_z 1) :: st, n, M) Q) := am_AW_go rfl rfl rfl rfl
theorem w97_75 {L st : List Value} {x y : Int32} : am_AW d 97 (75, L, .int y :: .int x :: st, n, M) Q = (am_AW d 97 (76, L, .int (x + y) :: st, n, M) Q) := am_AW_go rfl rfl rfl rfl
theorem w97_76 {a0 a1 : Value} {x : Int32} {st : List Value} : am_AW d 97 (76, [a0, a1, .int x], st, n, M) Q = (am_AW d 97 (77, [a0, a1, .int x], .int x :: st, n, M) Q) := am_AW_go rfl rfl rfl rfl
theorem w97_77 {L st : List Value} {v0 v1 v2 v3 v4 : Value} : am_AW d 97 (77, L, v0 :: v1 :: v2 :: v3 :: v4 :: st, n, M) Q = (am_okA 5 (v0 :: v1 :: v2 :: v3 :: v4 :: st) = true ∧ am_Do d 2001 [v4, v3, v2, v1, v0] n M (am_then d 97 80 0 L st n Q)) := am_AW_cs (i := 162) (x := 2001) (y := 5) (z := 0) rfl
theorem w97_80 {a1 a2 : Value} {x : Nat} {st : List Value} : am_AW d 97 (80, [.ref x, a1, a2], st, n, M) Q = (am_AW d 97 (81, [.ref x, a1, a2], .ref x :: st, n, M) Q) := am_AW_go rfl rfl rfl rfl
theorem w97_81 {L st : List Value} {h : Nat} : am_AW d 97 (81, L, .ref h :: st, n, M) Q = (∃ v, am_fld M h 5 2 = some v ∧ am_AW d 97 (84, L, v :: st, n, M) Q) := am_AW_op (o := am_fld M h 5 2) (f := fun v => (84, L, v :: st, n, M)) rfl rfl (am_bm _ _) (fun _ => rfl)
theorem w97_84 {L st : List Value} {h : Nat} : am_AW d 97 (84, L, .ref h :: st, n, M) Q = (∃ v, am_fld M h 0 0 = some v ∧ am_AW d 97 (87, L, v :: st, n, M) Q) := am_AW_op (o := am_fld M h 0 0) (f := fun v => (87, L, v :: st, n, M)) rfl rfl (am_bm _ _) (fun _ => rfl)
theorem w97_87 {a1 a2 : Value} {x : Nat} {st : List Value} : am_AW d 97 (87, [.ref x, a1, a2], st, n, M) Q = (am_AW d 97 (88, [.ref x, a1, a2], .ref x :: st, n, M) Q) := am_AW_go rfl rfl rfl rfl
theorem w97_88 {L st : List Value} {h : Nat} : am_AW d 97 (88, L, .ref h :: st, n, M) Q = (∃ v, am_fld M h 5 7 = some v ∧ am_AW d 97 (91, L, v :: st, n, M) Q) := am_AW_op (o := am_fld M h 5 7) (f := fun v => (91, L, v :: st, n, M)) rfl rfl (am_bm _ _) (fun _ => rfl)
theorem w97_91 {a0 a2 : Value} {x : Int32} {st : List Value} : am_AW d 97 (91, [a0, .int x, a2], st, n, M) Q = (am_AW d 97 (92, [a0, .int x, a2], .int x :: st, n, M) Q) := am_AW_go rfl rfl rfl rfl
theorem w97_92 {L st : List Value} {h : Nat} {i v : Int32} : am_AW d 97 (92, L, .int v :: .int i :: .ref h :: st, n, M) Q = (am_fit 0 (.int v) = true ∧ ∃ M', am_ast 0 M h i v = some M' ∧ am_AW d 97 (93, L, st, n, M') Q) := am_AW_ast rfl (Or.inl ⟨rfl, rfl, rfl⟩)
theorem w97_93 {a1 a2 : Value} {x : Nat} {st : List Value} : am_AW d 97 (93, [.ref x, a1, a2], st, n, M) Q = (am_AW d 97 (94, [.ref x, a1, a2], .ref x :: st, n, M) Q) := am_AW_go rfl rfl rfl rfl
theorem w97_94 {L st : List Value} {h : Nat} : am_AW d 97 (94, L, .ref h :: st, n, M) Q = (∃ v, am_fld M h 5 2 = some v ∧ am_AW d 97 (97, L, v :: st, n, M) Q) := am_AW_op (o := am_fld M h 5 2) (f := fun v => (97, L, v :: st, n, M)) rfl rfl (am_bm _ _) (fun _ => rfl)
theorem w97_97 {L st : List Value} {x : Nat} : am_AW d 97 (97, L, .ref x :: st, n, M) Q = (am_AW d 97 (98, L, .ref x :: .ref x :: st, n, M) Q) := am_AW_go rfl rfl rfl rfl
theorem w97_97i {L st : List Value} {x : Int32} : am_AW d 97 (97, L, .int x :: st, n, M) Q = (am_AW d 97 (98, L, .int x :: .int x :: st, n, M) Q) := am_AW_go rfl rfl rfl rfl
theorem w97_98 {L st : List Value} {h : Nat} : am_AW d 97 (98, L, .ref h :: st, n, M) Q = (∃ v, am_fld M h 0 1 = some v ∧ am_AW d 97 (101, L, v :: st, n, M) Q) := am_AW_op (o := am_fld M h 0 1) (f := fun v => (101, L, v :: st, n, M)) rfl rfl (am_bm _ _) (fun _ => rfl)
theorem w97_101 {L st : List Value} : am_AW d 97 (101, L, st, n, M) Q = (am_AW d 97 (102, L, .int (am_z 1) :: st, n, M) Q) := am_AW_go rfl rfl rfl rfl
theorem w97_102 {L st : List Value} {x y : Int32} : am_AW d 97 (102, L, .int y :: .int x :: st, n, M) Q = (am_AW d 97 (103, L, .int (x + y) :: st, n, M) Q) := am_AW_go rfl rfl rfl rfl
theorem w97_103 {L st : List Value} {h : Nat} {v : Value} : am_AW d 97 (103, L, v :: .ref h :: st, n, M) Q = (am_fit 0 v = true ∧ ∃ M', am_setf M h 0 1 v = some M' ∧ am_AW d 97 (106, L, st, n, M') Q) := am_AW_put rfl
theorem w97_106 {L : List Value} : am_AW d 97 (106, L, [], n, M) Q = (Q none n M) := am_AW_ret (rv := (none, n)) rfl rfl rfl (am_mono_self n)
end W97
section W98
variable {d : Nat} {n : am_N} {M : am_M} {Q : Option Value → am_N → am_M → Prop}
theorem w98_0 {a1 : Value} {x : Nat} {st : List Value} : am_AW d 98 (0, [.ref x, a1], st, n, M) Q = (am_AW d 98 (1, [.ref x, a1], .ref x :: st, n, M) Q) := am_AW_go rfl rfl rfl rfl
theorem w98_1 {L st : List Value} {h : Nat} : am_AW d 98 (1, L, .ref h :: st, n, M) Q = (∃ v, am_fld M h 5 5 = some v ∧ am_AW d 98 (4, L, v :: st, n, M) Q) := am_AW_op (o := am_fld M h 5 5) (f := fun v => (4, L, v :: st, n, M)) rfl rfl (am_bm _ _) (fun _ => rfl)
theorem w98_4 {L st : List Value} : am_AW d 98 (4, L, st, n, M) Q = (am_AW d 98 (6, L, .int (am_z 100) :: st, n, M) Q) := am_AW_go rfl rfl rfl rfl
theorem w98_6 {L st : List Value} {x y : Int32} : am_AW d 98 (6, L, .int y :: .int x :: st, n, M) Q = (if x < y then am_AW d 98 (9, L, st, n, M) Q else am_AW d 98 (29, L, st, n, M) Q) := (am_AW_icmp rfl).trans am_ite_ge
theorem w98_9 {a1 : Value} {x : Nat} {st : List Value} : am_AW d 98 (9, [.ref x, a1], st, n, M) Q = (am_AW d 98 (10, [.ref x, a1], .ref x :: st, n, M) Q) := am_AW_go rfl rfl rfl rfl
theorem w98_10 {L st : List Value} {h : Nat} : am_AW d 98 (10, L, .ref h :: st, n, M) Q = (∃ v, am_fld M h 5 4 = some v ∧ am_AW d 98 (13, L, v :: st, n, M) Q) := am_AW_op (o := am_fld M h 5 4) (f := fun v => (13, L, v :: st, n, M)) rfl rfl (am_bm _ _) (fun _ => rfl)
theorem w98_13 {a1 : Value} {x : Nat} {st : List Value} : am_AW d 98 (13, [.ref x, a1], st, n, M) Q = (am_AW d 98 (14, [.ref x, a1], .ref x :: st, n, M) Q) := am_AW_go rfl rfl rfl rfl
theorem w98_14 {L st : List Value} {h : Nat} : am_AW d 98 (14, L, .ref h :: st, n, M) Q = (∃ v, am_fld M h 5 5 = some v ∧ am_AW d 98 (17, L, v :: st, n, M) Q) := am_AW_op (o := am_fld M h 5 5) (f := fun v => (17, L, v :: st, n, M)) rfl rfl (am_bm _ _) (fun _ => rfl)
theorem w98_17 {a0 : Value} {x : Int32} {st : List Value} : am_AW d 98 (17, [a0, .int x], st, n, M) Q = (am_AW d 98 (18, [a0, .int x], .int x :: st, n, M) Q) := am_AW_go rfl rfl rfl rfl
theorem w98_18 {L st : List Value} {h : Nat} {i v : Int32} : am_AW d 98 (18, L, .int v :: .int i :: .ref h :: st, n, M) Q = (am_fit 2 (.int v) = true ∧ ∃ M', am_ast 1 M h i v = some M' ∧ am_AW d 98 (19, L, st, n, M') Q) := am_AW_ast rfl (Or.inr (Or.inl ⟨rfl, rfl, rfl⟩))
theorem w98_19 {a1 : Value} {x : Nat} {st : List Value} : am_AW d 98 (19, [.ref x, a1], st, n, M) Q = (am_AW d 98 (20, [.ref x, a1], .ref x :: st, n, M) Q) := am_AW_go rfl rfl rfl rfl
theorem w98_20 {L st : List Value} {x : Nat} : am_AW d 98 (20, L, .ref x :: st, n, M) Q = (am_AW d 98 (21, L, .ref x :: .ref x :: st, n, M) Q) := am_AW_go rfl rfl rfl rfl
theorem w98_20i {L st : List Value} {x : Int32} : am_AW d 98 (20, L, .int x :: st, n, M) Q = (am_AW d 98 (21, L, .int x :: .int x :: st, n, M) Q) := am_AW_go rfl rfl rfl rfl
theorem w98_21 {L st : List Value} {h : Nat} : am_AW d 98 (21, L, .ref h :: st, n, M) Q = (∃ v, am_fld M h 5 5 = some v ∧ am_AW d 98 (24, L, v :: st, n, M) Q) := am_AW_op (o := am_fld M h 5 5) (f := fun v => (24, L, v :: st, n, M)) rfl rfl (am_bm _ _) (fun _ => rfl)
theorem w98_24 {L st : List Value} : am_AW d 98 (24, L, st, n, M) Q = (am_AW d 98 (25, L, .int (am_z 1) :: st, n, M) Q) := am_AW_go rfl rfl rfl rfl
theorem w98_25 {L st : List Value} {x y : Int32} : am_AW d 98 (25, L, .int y :: .int x :: st, n, M) Q = (am_AW d 98 (26, L, .int (x + y) :: st, n, M) Q) := am_AW_go rfl rfl rfl rfl
theorem w98_26 {L st : List Value} {h : Nat} {v : Value} : am_AW d 98 (26, L, v :: .ref h :: st, n, M) Q = (am_fit 0 v = true ∧ ∃ M', am_setf M h 5 5 v = some M' ∧ am_AW d 98 (29, L, st, n, M') Q) := am_AW_put rfl
theorem w98_29 {L : List Value} : am_AW d 98 (29, L, [], n, M) Q = (Q none n M) := am_AW_ret (rv := (none, n)) rfl rfl rfl (am_mono_self n)
end W98
section W99
variable {d : Nat} {n : am_N} {M : am_M} {Q : Option Value → am_N → am_M → Prop}
theorem w99_0 {a1 a2 : Value} {x : Nat} {st : List Value} : am_AW d 99 (0, [.ref x, a1, a2], st, n, M) Q = (am_AW d 99 (1, [.ref x, a1, a2], .ref x :: st, n, M) Q) := am_AW_go rfl rfl rfl rfl
theorem w99_1 {L st : List Value} {h : Nat} : am_AW d 99 (1, L, .ref h :: st, n, M) Q = (∃ v, am_fld M h 5 16 = some v ∧ am_AW d 99 (4, L, v :: st, n, M) Q) := am_AW_op (o := am_fld M h 5 16) (f := fun v => (4, L, v :: st, n, M)) rfl rfl (am_bm _ _) (fun _ => rfl)
theorem w99_4 {L st : List Value} : am_AW d 99 (4, L, st, n, M) Q = (am_AW d 99 (6, L, .int (am_z 100) :: st, n, M) Q) := am_AW_go rfl rfl rfl rfl
theorem w99_6 {L st : List Value} {x y : Int32} : am_AW d 99 (6, L, .int y :: .int x :: st, n, M) Q = (if x < y then am_AW d 99 (9, L, st, n, M) Q else am_AW d 99 (94, L, st, n, M) Q) := (am_AW_icmp rfl).trans am_ite_ge
theorem w99_9 {a1 a2 : Value} {x : Nat} {st : List Value} : am_AW d 99 (9, [.ref x, a1, a2], st, n, M) Q = (am_AW d 99 (10, [.ref x, a1, a2], .ref x :: st, n, M) Q) := am_AW_go rfl rfl rfl rfl
theorem w99_10 {L st : List Value} {h : Nat} : am_AW d 99 (10, L, .ref h :: st, n, M) Q = (∃ v, am_fld M h 5 10 = some v ∧ am_AW d 99 (13, L, v :: st, n, M) Q) := am_AW_op (o := am_fld M h 5 10) (f := fun v => (13, L, v :: st, n, M)) rfl rfl (am_bm _ _) (fun _ => rfl)
theorem w99_13 {a1 a2 : Value} {x : Nat} {st : List Value} : am_AW d 99 (13, [.ref x, a1, a2], st, n, M) Q = (am_AW d 99 (14, [.ref x, a1, a2], .ref x :: st, n, M) Q) := am_AW_go rfl rfl rfl rfl
theorem w99_14 {L st : List Value} {h : Nat} : am_AW d 99 (14, L, .ref h :: st, n, M) Q = (∃ v, am_fld M h 5 16 = some v ∧ am_AW d 99 (17, L, v :: st, n, M) Q) := am_AW_op (o := am_fld M h 5 16) (f := fun v => (17, L, v :: st, n, M)) rfl rfl (am_bm _ _) (fun _ => rfl)
theorem w99_17 {a0 a2 : Value} {x : Int32} {st : List Value} : am_AW d 99 (17, [a0, .int x, a2], st, n, M) Q = (am_AW d 99 (18, [a0, .int x, a2], .int x :: st, n, M) Q) := am_AW_go rfl rfl rfl rfl
theorem w99_18 {L st : List Value} {h : Nat} {i v : Int32} : am_AW d 99 (18, L, .int v :: .int i :: .ref h :: st, n, M) Q = (am_fit 2 (.int v) = true ∧ ∃ M', am_ast 1 M h i v = some M' ∧ am_AW d 99 (19, L, st, n, M') Q) := am_AW_ast rfl (Or.inr (Or.inl ⟨rfl, rfl, rfl⟩))
theorem w99_19 {a1 a2 : Value} {x : Nat} {st : List Value} : am_AW d 99 (19, [.ref x, a1, a2], st, n, M) Q = (am_AW d 99 (20, [.ref x, a1, a2], .ref x :: st, n, M) Q) := am_AW_go rfl rfl rfl rfl
theorem w99_20 {L st : List Value} {h : Nat} : am_AW d 99 (20, L, .ref h :: st, n, M) Q = (∃ v, am_fld M h 5 11 = some v ∧ am_AW d 99 (23, L, v :: st, n, M) Q) := am_AW_op (o := am_fld M h 5 11) (f := fun v => (23, L, v :: st, n, M)) rfl rfl (am_bm _ _) (fun _ => rfl)
theorem w99_23 {a1 a2 : Value} {x : Nat} {st : List Value} : am_AW d 99 (23, [.ref x, a1, a2], st, n, M) Q = (am_AW d 99 (24, [.ref x, a1, a2], .ref x :: st, n, M) Q) := am_AW_go rfl rfl rfl rfl
theorem w99_24 {L st : List Value} {h : Nat} : am_AW d 99 (24, L, .ref h :: st, n, M) Q = (∃ v, am_fld M h 5 16 = some v ∧ am_AW d 99 (27, L, v :: st, n, M) Q) := am_AW_op (o := am_fld M h 5 16) (f := fun v => (27, L, v :: st, n, M)) rfl rfl (am_bm _ _) (fun _ => rfl)
theorem w99_27 {a1 a2 : Value} {x : Nat} {st : List Value} : am_AW d 99 (27, [.ref x, a1, a2], st, n, M) Q = (am_AW d 99 (28, [.ref x, a1, a2], .ref x :: st, n, M) Q) := am_AW_go rfl rfl rfl rfl
theorem w99_28 {L st : List Value} {h : Nat} : am_AW d 99 (28, L, .ref h :: st, n, M) Q = (∃ v, am_fld M h 5 9 = some v ∧ am_AW d 99 (31, L, v :: st, n, M) Q) := am_AW_op (o := am_fld M h 5 9) (f := fun v => (31, L, v :: st, n, M)) rfl rfl (am_bm _ _) (fun _ => rfl)
theorem w99_31 {L st : List Value} {h : Nat} {i v : Int32} : am_AW d 99 (31, L, .int v :: .int i :: .ref h :: st, n, M) Q = (am_fit 2 (.int v) = true ∧ ∃ M', am_ast 1 M h i v = some M' ∧ am_AW d 99 (32, L, st, n, M') Q) := am_AW_ast rfl (Or.inr (Or.inl ⟨rfl, rfl, rfl⟩))
theorem w99_32 {a1 a2 : Value} {x : Nat} {st : List Value} : am_AW d 99 (32, [.ref x, a1, a2], st, n, M) Q = (am_AW d 99 (33, [.ref x, a1, a2], .ref x :: st, n, M) Q) := am_AW_go rfl rfl rfl rfl
theorem w99_33 {L st : List Value} {h : Nat} : am_AW d 99 (33, L, .ref h :: st, n, M) Q = (∃ v, am_fld M h 5 12 = some v ∧ am_AW d 99 (36, L, v :: st, n, M) Q) := am_AW_op (o := am_fld M h 5 12) (f := fun v => (36, L, v :: st, n, M)) rfl rfl (am_bm _ _) (fun _ => rfl)
theorem w99_36 {a1 a2 : Value} {x : Nat} {st : List Value} : am_AW d 99 (36, [.ref x, a1, a2], st, n, M) Q = (am_AW d 99 (37, [.ref x, a1, a2], .ref x :: st, n, M) Q) := am_AW_go rfl rfl rfl rfl
theorem w99_37 {L st : List Value} {h : Nat} : am_AW d 99 (37, L, .ref h :: st, n, M) Q = (∃ v, am_fld M h 5 16 = some v ∧ am_AW d 99 (40, L, v :: st, n, M) Q) := am_AW_op (o := am_fld M h 5 16) (f := fun v => (40, L, v :: st, n, M)) rfl rfl (am_bm _ _) (fun _ => rfl)
theorem w99_40 {a0 a1 : Value} {x : Int32} {st : List Value} : am_AW d 99 (40, [a0, a1, .int x], st, n, M) Q = (am_AW d 99 (41, [a0, a1, .int x], .int x :: st, n, M) Q) := am_AW_go rfl rfl rfl rfl
theorem w99_41 {L st : List Value} {h : Nat} {i v : Int32} : am_AW d 99 (41, L, .int v :: .int i :: .ref h :: st, n, M) Q = (am_fit 0 (.int v) = true ∧ ∃ M', am_ast 0 M h i v = some M' ∧ am_AW d 99 (42, L, st, n, M') Q) := am_AW_ast rfl (Or.inl ⟨rfl, rfl, rfl⟩)
theorem w99_42 {a1 a2 : Value} {x : Nat} {st : List Value} : am_AW d 99 (42, [.ref x, a1, a2], st, n, M) Q = (am_AW d 99 (43, [.ref x, a1, a2], .ref x :: st, n, M) Q) := am_AW_go rfl rfl rfl rfl
theorem w99_43 {L st : List Value} {h : Nat} : am_AW d 99 (43, L, .ref h :: st, n, M) Q = (∃ v, am_fld M h 5 13 = some v ∧ am_AW d 99 (46, L, v :: st, n, M) Q) := am_AW_op (o := am_fld M h 5 13) (f := fun v => (46, L, v :: st, n, M)) rfl rfl (am_bm _ _) (fun _ => rfl)
theorem w99_46 {a1 a2 : Value} {x : Nat} {st : List Value} : am_AW d 99 (46, [.ref x, a1, a2], st, n, M) Q = (am_AW d 99 (47, [.ref x, a1, a2], .ref x :: st, n, M) Q) := am_AW_go rfl rfl rfl rfl
theorem w99_47 {L st : List Value} {h : Nat} : am_AW d 99 (47, L, .ref h :: st, n, M) Q = (∃ v, am_fld M h 5 16 = some v ∧ am_AW d 99 (50, L, v :: st, n, M) Q) := am_AW_op (o := am_fld M h 5 16) (f := fun v => (50, L, v :: st, n, M)) rfl rfl (am_bm _ _) (fun _ => rfl)
theorem w99_50 {a1 a2 : Value} {x : Nat} {st : List Value} : am_AW d 99 (50, [.ref x, a1, a2], st, n, M) Q = (am_AW d 99 (51, [.ref x, a1, a2], .ref x :: st, n, M) Q) := am_AW_go rfl rfl rfl rfl
theorem w99_51 {L st : List Value} {h : Nat} : am_AW d 99 (51, L, .ref h :: st, n, M) Q = (∃ v, am_fld M h 5 2 = some v ∧ am_AW d 99 (54, L, v :: st, n, M) Q) := am_AW_op (o := am_fld M h 5 2) (f := fun v => (54, L, v :: st, n, M)) rfl rfl (am_bm _ _) (fun _ => rfl)
theorem w99_54 {L st : List Value} {h : Nat} : am_AW d 99 (54, L, .ref h :: st, n, M) Q = (∃ v, am_fld M h 0 1 = some v ∧ am_AW d 99 (57, L, v :: st, n, M) Q) := am_AW_op (o := am_fld M h 0 1) (f := fun v => (57, L, v :: st, n, M)) rfl rfl (am_bm _ _) (fun _ => rfl)
theorem w99_57 {L st : List Value} {h : Nat} {i v : Int32} : am_AW d 99 (57, L, .int v :: .int i :: .ref h :: st, n, M) Q = (am_fit 0 (.int v) = true ∧ ∃ M', am_ast 0 M h i v = some M' ∧ am_AW d 99 (58, L, st, n, M') Q) := am_AW_ast rfl (Or.inl ⟨rfl, rfl, rfl⟩)
theorem w99_58 {a1 a2 : Value} {x : Nat} {st : List Value} : am_AW d 99 (58, [.ref x, a1, a2], st, n, M) Q = (am_AW d 99 (59, [.ref x, a1, a2], .ref x :: st, n, M) Q) := am_AW_go rfl rfl rfl rfl
theorem w99_59 {L st : List Value} {h : Nat} : am_AW d 99 (59, L, .ref h :: st, n, M) Q = (∃ v, am_fld M h 5 14 = some v ∧ am_AW d 99 (62, L, v :: st, n, M) Q) := am_AW_op (o := am_fld M h 5 14) (f := fun v => (62, L, v :: st, n, M)) rfl rfl (am_bm _ _) (fun _ => rfl)
theorem w99_62 {a1 a2 : Value} {x : Nat} {st : List Value} : am_AW d 99 (62, [.ref x, a1, a2], st, n, M) Q = (am_AW d 99 (63, [.ref x, a1, a2], .ref x :: st, n, M) Q) := am_AW_go rfl rfl rfl rfl
theorem w99_63 {L st : List Value} {h : Nat} : am_AW d 99 (63, L, .ref h :: st, n, M) Q = (∃ v, am_fld M h 5 16 = some v ∧ am_AW d 99 (66, L, v :: st, n, M) Q) := am_AW_op (o := am_fld M h 5 16) (f := fun v => (66, L, v :: st, n, M)) rfl rfl (am_bm _ _) (fun _ => rfl)
theorem w99_66 {a1 a2 : Value} {x : Nat} {st : List Value} : am_AW d 99 (66, [.ref x, a1, a2], st, n, M) Q = (am_AW d 99 (67, [.ref x, a1, a2], .ref x :: st, n, M) Q) := am_AW_go rfl rfl rfl rfl
theorem w99_67 {L st : List Value} {h : Nat} : am_AW d 99 (67, L, .ref h :: st, n, M) Q = (∃ v, am_fld M h 5 7 = some v ∧ am_AW d 99 (70, L, v :: st, n, M) Q) := am_AW_op (o := am_fld M h 5 7) (f := fun v => (70, L, v :: st, n, M)) rfl rfl (am_bm _ _) (fun _ => rfl)
theorem w99_70 {L st : List Value} {h : Nat} {i v : Int32} : am_AW d 99 (70, L, .int v :: .int i :: .ref h :: st, n, M) Q = (am_fit 0 (.int v) = true ∧ ∃ M', am_ast 0 M h i v = some M' ∧ am_AW d 99 (71, L, st, n, M') Q) := am_AW_ast rfl (Or.inl ⟨rfl, rfl, rfl⟩)
theorem w99_71 {a1 a2 : Value} {x : Nat} {st : List Value} : am_AW d 99 (71, [.ref x, a1, a2], st, n, M) Q = (am_AW d 99 (72, [.ref x, a1, a2], .ref x :: st, n, M) Q) := am_AW_go rfl rfl rfl rfl
theorem w99_72 {L st : List Value} {h : Nat} : am_AW d 99 (72, L, .ref h :: st, n, M) Q = (∃ v, am_fld M h 5 15 = some v ∧ am_AW d 99 (75, L, v :: st, n, M) Q) := am_AW_op (o := am_fld M h 5 15) (f := fun v => (75, L, v :: st, n, M)) rfl rfl (am_bm _ _) (fun _ => rfl)
theorem w99_75 {a1 a2 : Value} {x : Nat} {st : List Value} : am_AW d 99 (75, [.ref x, a1, a2], st, n, M) Q = (am_AW d 99 (76, [.ref x, a1, a2], .ref x :: st, n, M) Q) := am_AW_go rfl rfl rfl rfl
theorem w99_76 {L st : List Value} {h : Nat} : am_AW d 99 (76, L, .ref h :: st, n, M) Q = (∃ v, am_fld M h 5 16 = some v ∧ am_AW d 99 (79, L, v :: st, n, M) Q) := am_AW_op (o := am_fld M h 5 16) (f := fun v => (79, L, v :: st, n, M)) rfl rfl (am_bm _ _) (fun _ => rfl)
theorem w99_79 {a1 a2 : Value} {x : Nat} {st : List Value} : am_AW d 99 (79, [.ref x, a1, a2], st, n, M) Q = (am_AW d 99 (80, [.ref x, a1, a2], .ref x :: st, n, M) Q) := am_AW_go rfl rfl rfl rfl
theorem w99_80 {L st : List Value} {h : Nat} : am_AW d 99 (80, L, .ref h :: st, n, M) Q = (∃ v, am_fld M h 5 5 = some v ∧ am_AW d 99 (83, L, v :: st, n, M) Q) := am_AW_op (o := am_fld M h 5 5) (f := fun v => (83, L, v :: st, n, M)) rfl rfl (am_bm _ _) (fun _ => rfl)
theorem w99_83 {L st : List Value} {h : Nat} {i v : Int32} : am_AW d 99 (83, L, .int v :: .int i :: .ref h :: st, n, M) Q = (am_fit 0 (.int v) = true ∧ ∃ M', am_ast 0 M h i v = some M' ∧ am_AW d 99 (84, L, st, n, M') Q) := am_AW_ast rfl (Or.inl ⟨rfl, rfl, rfl⟩)
theorem w99_84 {a1 a2 : Value} {x : Nat} {st : List Value} : am_AW d 99 (84, [.ref x, a1, a2], st, n, M) Q = (am_AW d 99 (85, [.ref x, a1, a2], .ref x :: st, n, M) Q) := am_AW_go rfl rfl rfl rfl
theorem w99_85 {L st : List Value} {x : Nat} : am_AW d 99 (85, L, .ref x :: st, n, M) Q = (am_AW d 99 (86, L, .ref x :: .ref x :: st, n, M) Q) := am_AW_go rfl rfl rfl rfl
theorem w99_85i {L st : List Value} {x : Int32} : am_AW d 99 (85, L, .int x :: st, n, M) Q = (am_AW d 99 (86, L, .int x :: .int x :: st, n, M) Q) := am_AW_go rfl rfl rfl rfl
theorem w99_86 {L st : List Value} {h : Nat} : am_AW d 99 (86, L, .ref h :: st, n, M) Q = (∃ v, am_fld M h 5 16 = some v ∧ am_AW d 99 (89, L, v :: st, n, M) Q) := am_AW_op (o := am_fld M h 5 16) (f := fun v => (89, L, v :: st, n, M)) rfl rfl (am_bm _ _) (fun _ => rfl)
theorem w99_89 {L st : List Value} : am_AW d 99 (89, L, st, n, M) Q = (am_AW d 99 (90, L, .int (am_z 1) :: st, n, M) Q) := am_AW_go rfl rfl rfl rfl
theorem w99_90 {L st : List Value} {x y : Int32} : am_AW d 99 (90, L, .int y :: .int x :: st, n, M) Q = (am_AW d 99 (91, L, .int (x + y) :: st, n, M) Q) := am_AW_go rfl rfl rfl rfl
theorem w99_91 {L st : List Value} {h : Nat} {v : Value} : am_AW d 99 (91, L, v :: .ref h :: st, n, M) Q = (am_fit 0 v = true ∧ ∃ M', am_setf M h 5 16 v = some M' ∧ am_AW d 99 (94, L, st, n, M') Q) := am_AW_put rfl
theorem w99_94 {a1 a2 : Value} {x : Nat} {st : List Value} : am_AW d 99 (94, [.ref x, a1, a2], st, n, M) Q = (am_AW d 99 (95, [.ref x, a1, a2], .ref x :: st, n, M) Q) := am_AW_go rfl rfl rfl rfl
theorem w99_95 {L st : List Value} {v0 : Value} : am_AW d 99 (95, L, v0 :: st, n, M) Q = (am_okA 1 (v0 :: st) = true ∧ am_isO M [v0] 5 = true ∧ am_Do d 93 [v0] n M (am_then d 99 98 0 L st n Q)) := am_AW_cv (i := 77) (x := 93) (y := 501) (z := 0) rfl
theorem w99_98 {L : List Value} : am_AW d 99 (98, L, [], n, M) Q = (Q none n M) := am_AW_ret (rv := (none, n)) rfl rfl rfl (am_mono_self n)
end W99
section W100
variable {d : Nat} {n : am_N} {M : am_M} {Q : Option Value → am_N → am_M → Prop}
theorem w100_0 {a1 : Value} {x : Nat} {st : List Value} : am_AW d 100 (0, [.ref x, a1], st, n, M) Q = (am_AW d 100 (1, [.ref x, a1], .ref x :: st, n, M) Q) := am_AW_go rfl rfl rfl rfl
theorem w100_1 {L st : List Value} {x : Nat} : am_AW d 100 (1, L, .ref x :: st, n, M) Q = (am_AW d 100 (2, L, .ref x :: .ref x :: st, n, M) Q) := am_AW_go rfl rfl rfl rfl
theorem w100_1i {L st : List Value} {x : Int32} : am_AW d 100 (1, L, .int x :: st, n, M) Q = (am_AW d 100 (2, L, .int x :: .int x :: st, n, M) Q) := am_AW_go rfl rfl rfl rfl
theorem w100_2 {L st : List Value} {h : Nat} : am_AW d 100 (2, L, .ref h :: st, n, M) Q = (∃ v, am_fld M h 5 16 = some v ∧ am_AW d 100 (5, L, v :: st, n, M) Q) := am_AW_op (o := am_fld M h 5 16) (f := fun v => (5, L, v :: st, n, M)) rfl rfl (am_bm _ _) (fun _ => rfl)
theorem w100_5 {L st : List Value} : am_AW d 100 (5, L, st, n, M) Q = (am_AW d 100 (6, L, .int (am_z 1) :: st, n, M) Q) := am_AW_go rfl rfl rfl rfl
theorem w100_6 {L st : List Value} {x y : Int32} : am_AW d 100 (6, L, .int y :: .int x :: st, n, M) Q = (am_AW d 100 (7, L, .int (x - y) :: st, n, M) Q) := am_AW_go rfl rfl rfl rfl
theorem w100_7 {L st : List Value} {h : Nat} {v : Value} : am_AW d 100 (7, L, v :: .ref h :: st, n, M) Q = (am_fit 0 v = true ∧ ∃ M', am_setf M h 5 16 v = some M' ∧ am_AW d 100 (10, L, st, n, M') Q) := am_AW_put rfl
theorem w100_10 {a1 : Value} {x : Nat} {st : List Value} : am_AW d 100 (10, [.ref x, a1], st, n, M) Q = (am_AW d 100 (11, [.ref x, a1], .ref x :: st, n, M) Q) := am_AW_go rfl rfl rfl rfl
theorem w100_11 {a1 : Value} {x : Nat} {st : List Value} : am_AW d 100 (11, [.ref x, a1], st, n, M) Q = (am_AW d 100 (12, [.ref x, a1], .ref x :: st, n, M) Q) := am_AW_go rfl rfl rfl rfl
theorem w100_12 {L st : List Value} {h : Nat} : am_AW d 100 (12, L, .ref h :: st, n, M) Q = (∃ v, am_fld M h 5 15 = some v ∧ am_AW d 100 (15, L, v :: st, n, M) Q) := am_AW_op (o := am_fld M h 5 15) (f := fun v => (15, L, v :: st, n, M)) rfl rfl (am_bm _ _) (fun _ => rfl)
theorem w100_15 {a1 : Value} {x : Nat} {st : List Value} : am_AW d 100 (15, [.ref x, a1], st, n, M) Q = (am_AW d 100 (16, [.ref x, a1], .ref x :: st, n, M) Q) := am_AW_go rfl rfl rfl rfl
theorem w100_16 {L st : List Value} {h : Nat} : am_AW d 100 (16, L, .ref h :: st, n, M) Q = (∃ v, am_fld M h 5 16 = some v ∧ am_AW d 100 (19, L, v :: st, n, M) Q) := am_AW_op (o := am_fld M h 5 16) (f := fun v => (19, L, v :: st, n, M)) rfl rfl (am_bm _ _) (fun _ => rfl)
theorem w100_19 {L st : List Value} {h : Nat} {i : Int32} : am_AW d 100 (19, L, .int i :: .ref h :: st, n, M) Q = (∃ v, am_ald 0 M h i = some v ∧ am_AW d 100 (20, L, .int v :: st, n, M) Q) := am_AW_op (o := am_ald 0 M h i) (f := fun v => (20, L, .int v :: st, n, M)) rfl rfl (am_bm2 _ _ () ()) (fun _ => rfl)
theorem w100_20 {L st : List Value} {h : Nat} {v : Value} : am_AW d 100 (20, L, v :: .ref h :: st, n, M) Q = (am_fit 0 v = true ∧ ∃ M', am_setf M h 5 5 v = some M' ∧ am_AW d 100 (23, L, st, n, M') Q) := am_AW_put rfl
theorem w100_23 {a1 : Value} {x : Nat} {st : List Value} : am_AW d 100 (23, [.ref x, a1], st, n, M) Q = (am_AW d 100 (24, [.ref x, a1], .ref x :: st, n, M) Q) := am_AW_go rfl rfl rfl rfl
theorem w100_24 {L st : List Value} {h : Nat} : am_AW d 100 (24, L, .ref h :: st, n, M) Q = (∃ v, am_fld M h 5 10 = some v ∧ am_AW d 100 (27, L, v :: st, n, M) Q) := am_AW_op (o := am_fld M h 5 10) (f := fun v => (27, L, v :: st, n, M)) rfl rfl (am_bm _ _) (fun _ => rfl)
theorem w100_27 {a1 : Value} {x : Nat} {st : List Value} : am_AW d 100 (27, [.ref x, a1], st, n, M) Q = (am_AW d 100 (28, [.ref x, a1], .ref x :: st, n, M) Q) := am_AW_go rfl rfl rfl rfl
theorem w100_28 {L st : List Value} {h : Nat} : am_AW d 100 (28, L, .ref h :: st, n, M) Q = (∃ v, am_fld M h 5 16 = some v ∧ am_AW d 100 (31, L, v :: st, n, M) Q) := am_AW_op (o := am_fld M h 5 16) (f := fun v => (31, L, v :: st, n, M)) rfl rfl (am_bm _ _) (fun _ => rfl)
theorem w100_31 {L st : List Value} {h : Nat} {i : Int32} : am_AW d 100 (31, L, .int i :: .ref h :: st, n, M) Q = (∃ v, am_ald 1 M h i = some v ∧ am_AW d 100 (32, L, .int v :: st, n, M) Q) := am_AW_op (o := am_ald 1 M h i) (f := fun v => (32, L, .int v :: st, n, M)) rfl rfl (am_bm2 _ _ () ()) (fun _ => rfl)
theorem w100_32 {L st : List Value} : am_AW d 100 (32, L, st, n, M) Q = (am_AW d 100 (34, L, .int (am_z 46) :: st, n, M) Q) := am_AW_go rfl rfl rfl rfl
theorem w100_34 {L st : List Value} {x y : Int32} : am_AW d 100 (34, L, .int y :: .int x :: st, n, M) Q = (if x = y then am_AW d 100 (37, L, st, n, M) Q else am_AW d 100 (55, L, st, n, M) Q) := (am_AW_icmp rfl).trans am_ite_ne
theorem w100_37 {a1 : Value} {x : Nat} {st : List Value} : am_AW d 100 (37, [.ref x, a1], st, n, M) Q = (am_AW d 100 (38, [.ref x, a1], .ref x :: st, n, M) Q) := am_AW_go rfl rfl rfl rfl
theorem w100_38 {a1 : Value} {x : Nat} {st : List Value} : am_AW d 100 (38, [.ref x, a1], st, n, M) Q = (am_AW d 100 (39, [.ref x, a1], .ref x :: st, n, M) Q) := am_AW_go rfl rfl rfl rfl
theorem w100_39 {L st : List Value} {h : Nat} : am_AW d 100 (39, L, .ref h :: st, n, M) Q = (∃ v, am_fld M h 5 11 = some v ∧ am_AW d 100 (42, L, v :: st, n, M) Q) := am_AW_op (o := am_fld M h 5 11) (f := fun v => (42, L, v :: st, n, M)) rfl rfl (am_bm _ _) (fun _ => rfl)
theorem w100_42 {a1 : Value} {x : Nat} {st : List Value} : am_AW d 100 (42, [.ref x, a1], st, n, M) Q = (am_AW d 100 (43, [.ref x, a1], .ref x :: st, n, M) Q) := am_AW_go rfl rfl rfl rfl
theorem w100_43 {L st : List Value} {h : Nat} : am_AW d 100 (43, L, .ref h :: st, n, M) Q = (∃ v, am_fld M h 5 16 = some v ∧ am_AW d 100 (46, L, v :: st, n, M) Q) := am_AW_op (o := am_fld M h 5 16) (f := fun v => (46, L, v :: st, n, M)) rfl rfl (am_bm _ _) (fun _ => rfl)
theorem w100_46 {L st : List Value} {h : Nat} {i : Int32} : am_AW d 100 (46, L, .int i :: .ref h :: st, n, M) Q = (∃ v, am_ald 1 M h i = some v ∧ am_AW d 100 (47, L, .int v :: st, n, M) Q) := am_AW_op (o := am_ald 1 M h i) (f := fun v => (47, L, .int v :: st, n, M)) rfl rfl (am_bm2 _ _ () ()) (fun _ => rfl)
theorem w100_47 {L st : List Value} {v0 v1 : Value} : am_AW d 100 (47, L, v0 :: v1 :: st, n, M) Q = (am_okA 2 (v0 :: v1 :: st) = true ∧ am_isO M [v1, v0] 5 = true ∧ am_Do d 98 [v1, v0] n M (am_then d 100 50 0 L st n Q)) := am_AW_cv (i := 107) (x := 98) (y := 502) (z := 0) rfl
theorem w100_50 {a1 : Value} {x : Nat} {st : List Value} : am_AW d 100 (50, [.ref x, a1], st, n, M) Q = (am_AW d 100 (51, [.ref x, a1], .ref x :: st, n, M) Q) := am_AW_go rfl rfl rfl rfl
theorem w100_51 {L st : List Value} {v0 : Value} : am_AW d 100 (51, L, v0 :: st, n, M) Q = (am_okA 1 (v0 :: st) = true ∧ am_isO M [v0] 5 = true ∧ am_Do d 93 [v0] n M (am_then d 100 54 0 L st n Q)) := am_AW_cv (i := 77) (x := 93) (y := 501) (z := 0) rfl
theorem w100_54 {L : List Value} : am_AW d 100 (54, L, [], n, M) Q = (Q none n M) := am_AW_ret (rv := (none, n)) rfl rfl rfl (am_mono_self n)
theorem w100_55 {a1 : Value} {x : Nat} {st : List Value} : am_AW d 100 (55, [.ref x, a1], st, n, M) Q = (am_AW d 100 (56, [.ref x, a1], .ref x :: st, n, M) Q) := am_AW_go rfl rfl rfl rfl
theorem w100_56 {L st : List Value} {h : Nat} : am_AW d 100 (56, L, .ref h :: st, n, M) Q = (∃ v, am_fld M h 5 13 = some v ∧ am_AW d 100 (59, L, v :: st, n, M) Q) := am_AW_op (o := am_fld M h 5 13) (f := fun v => (59, L, v :: st, n, M)) rfl rfl (am_bm _ _) (fun _ => rfl)
theorem w100_59 {a1 : Value} {x : Nat} {st : List Value} : am_AW d 100 (59, [.ref x, a1], st, n, M) Q = (am_AW d 100 (60, [.ref x, a1], .ref x :: st, n, M) Q) := am_AW_go rfl rfl rfl rfl
theorem w100_60 {L st : List Value} {h : Nat} : am_AW d 100 (60, L, .ref h :: st, n, M) Q = (∃ v, am_fld M h 5 16 = some v ∧ am_AW d 100 (63, L, v :: st, n, M) Q) := am_AW_op (o := am_fld M h 5 16) (f := fun v => (63, L, v :: st, n, M)) rfl rfl (am_bm _ _) (fun _ => rfl)
theorem w100_63 {L st : List Value} {h : Nat} {i : Int32} : am_AW d 100 (63, L, .int i :: .ref h :: st, n, M) Q = (∃ v, am_ald 0 M h i = some v ∧ am_AW d 100 (64, L, .int v :: st, n, M) Q) := am_AW_op (o := am_ald 0 M h i) (f := fun v => (64, L, .int v :: st, n, M)) rfl rfl (am_bm2 _ _ () ()) (fun _ => rfl)
theorem w100_64 {a0 a1 : Value} {x : Int32} {st : List Value} : am_AW d 100 (64, [a0, a1], .int x :: st, n, M) Q = (am_AW d 100 (65, [a0, .int x], st, n, M) Q) := am_AW_go rfl rfl rfl rfl
theorem w100_65 {a1 : Value} {x : Nat} {st : List Value} : am_AW d 100 (65, [.ref x, a1], st, n, M) Q = (am_AW d 100 (66, [.ref x, a1], .ref x :: st, n, M) Q) := am_AW_go rfl rfl rfl rfl
theorem w100_66 {L st : List Value} {h : Nat} : am_AW d 100 (66, L, .ref h :: st, n, M) Q = (∃ v, am_fld M h 5 3 = some v ∧ am_AW d 100 (69, L, v :: st, n, M) Q) := am_AW_op (o := am_fld M h 5 3) (f := fun v => (69, L, v :: st, n, M)) rfl rfl (am_bm _ _) (fun _ => rfl)
theorem w100_69 {a0 : Value} {x : Int32} {st : List Value} : am_AW d 100 (69, [a0, .int x], st, n, M) Q = (am_AW d 100 (70, [a0, .int x], .int x :: st, n, M) Q) := am_AW_go rfl rfl rfl rfl
theorem w100_70 {a1 : Value} {x : Nat} {st : List Value} : am_AW d 100 (70, [.ref x, a1], st, n, M) Q = (am_AW d 100 (71, [.ref x, a1], .ref x :: st, n, M) Q) := am_AW_go rfl rfl rfl rfl
theorem w100_71 {L st : List Value} {h : Nat} : am_AW d 100 (71, L, .ref h :: st, n, M) Q = (∃ v, am_fld M h 5 12 = some v ∧ am_AW d 100 (74, L, v :: st, n, M) Q) := am_AW_op (o := am_fld M h 5 12) (f := fun v => (74, L, v :: st, n, M)) rfl rfl (am_bm _ _) (fun _ => rfl)
theorem w100_74 {a1 : Value} {x : Nat} {st : List Value} : am_AW d 100 (74, [.ref x, a1], st, n, M) Q = (am_AW d 100 (75, [.ref x, a1], .ref x :: st, n, M) Q) := am_AW_go rfl rfl rfl rfl
theorem w100_75 {L st : List Value} {h : Nat} : am_AW d 100 (75, L, .ref h :: st, n, M) Q = (∃ v, am_fld M h 5 16 = some v ∧ am_AW d 100 (78, L, v :: st, n, M) Q) := am_AW_op (o := am_fld M h 5 16) (f := fun v => (78, L, v :: st, n, M)) rfl rfl (am_bm _ _) (fun _ => rfl)
theorem w100_78 {L st : List Value} {h : Nat} {i : Int32} : am_AW d 100 (78, L, .int i :: .ref h :: st, n, M) Q = (∃ v, am_ald 0 M h i = some v ∧ am_AW d 100 (79, L, .int v :: st, n, M) Q) := am_AW_op (o := am_ald 0 M h i) (f := fun v => (79, L, .int v :: st, n, M)) rfl rfl (am_bm2 _ _ () ()) (fun _ => rfl)
theorem w100_79 {L st : List Value} {h : Nat} {i v : Int32} : am_AW d 100 (79, L, .int v :: .int i :: .ref h :: st, n, M) Q = (am_fit 0 (.int v) = true ∧ ∃ M', am_ast 0 M h i v = some M' ∧ am_AW d 100 (80, L, st, n, M') Q) := am_AW_ast rfl (Or.inl ⟨rfl, rfl, rfl⟩)
theorem w100_80 {a1 : Value} {x : Nat} {st : List Value} : am_AW d 100 (80, [.ref x, a1], st, n, M) Q = (am_AW d 100 (81, [.ref x, a1], .ref x :: st, n, M) Q) := am_AW_go rfl rfl rfl rfl
theorem w100_81 {a1 : Value} {x : Nat} {st : List Value} : am_AW d 100 (81, [.ref x, a1], st, n, M) Q = (am_AW d 100 (82, [.ref x, a1], .ref x :: st, n, M) Q) := am_AW_go rfl rfl rfl rfl
theorem w100_82 {L st : List Value} {h : Nat} : am_AW d 100 (82, L, .ref h :: st, n, M) Q = (∃ v, am_fld M h 5 14 = some v ∧ am_AW d 100 (85, L, v :: st, n, M) Q) := am_AW_op (o := am_fld M h 5 14) (f := fun v => (85, L, v :: st, n, M)) rfl rfl (am_bm _ _) (fun _ => rfl)
theorem w100_85 {a1 : Value} {x : Nat} {st : List Value} : am_AW d 100 (85, [.ref x, a1], st, n, M) Q = (am_AW d 100 (86, [.ref x, a1], .ref x :: st, n, M) Q) := am_AW_go rfl rfl rfl rfl
theorem w100_86 {L st : List Value} {h : Nat} : am_AW d 100 (86, L, .ref h :: st, n, M) Q = (∃ v, am_fld M h 5 16 = some v ∧ am_AW d 100 (89, L, v :: st, n, M) Q) := am_AW_op (o := am_fld M h 5 16) (f := fun v => (89, L, v :: st, n, M)) rfl rfl (am_bm _ _) (fun _ => rfl)
theorem w100_89 {L st : List Value} {h : Nat} {i : Int32} : am_AW d 100 (89, L, .int i :: .ref h :: st, n, M) Q = (∃ v, am_ald 0 M h i = some v ∧ am_AW d 100 (90, L, .int v :: st, n, M) Q) := am_AW_op (o := am_ald 0 M h i) (f := fun v => (90, L, .int v :: st, n, M)) rfl rfl (am_bm2 _ _ () ()) (fun _ => rfl)
theorem w100_90 {L st : List Value} {h : Nat} {v : Value} : am_AW d 100 (90, L, v :: .ref h :: st, n, M) Q = (am_fit 0 v = true ∧ ∃ M', am_setf M h 5 7 v = some M' ∧ am_AW d 100 (93, L, st, n, M') Q) := am_AW_put rfl
theorem w100_93 {a1 : Value} {x : Nat} {st : List Value} : am_AW d 100 (93, [.ref x, a1], st, n, M) Q = (am_AW d 100 (94, [.ref x, a1], .ref x :: st, n, M) Q) := am_AW_go rfl rfl rfl rfl
theorem w100_94 {a0 : Value} {x : Int32} {st : List Value} : am_AW d 100 (94, [a0, .int x], st, n, M) Q = (am_AW d 100 (95, [a0, .int x], .int x :: st, n, M) Q) := am_AW_go rfl rfl rfl rfl
theorem w100_95 {L st : List Value} {v0 v1 : Value} : am_AW d 100 (95, L, v0 :: v1 :: st, n, M) Q = (am_okA 2 (v0 :: v1 :: st) = true ∧ am_isO M [v1, v0] 5 = true ∧ am_Do d 96 [v1, v0] n M (am_then d 100 98 0 L st n Q)) := am_AW_cv (i := 159) (x := 96) (y := 502) (z := 0) rfl
theorem w100_98 {L : List Value} : am_AW d 100 (98, L, [], n, M) Q = (Q none n M) := am_AW_ret (rv := (none, n)) rfl rfl rfl (am_mono_self n)
end W100
section W102
variable {d : Nat} {n : am_N} {M : am_M} {Q : Option Value → am_N → am_M → Prop}
theorem w102_0 {L st : List Value} : am_AW d 102 (0, L, st, n, M) Q = (am_AW d 102 (1, L, .int (am_z 0) :: st, n, M) Q) := am_AW_go rfl rfl rfl rfl
theorem w102_1 {a0 a1 a2 a3 : Value} {x : Int32} {st : List Value} : am_AW d 102 (1, [a0, a1, a2, a3], .int x :: st, n, M) Q = (am_AW d 102 (2, [a0, a1, .int x, a3], st, n, M) Q) := am_AW_go rfl rfl rfl rfl
theorem w102_2 {a0 a1 a3 : Value} {x : Int32} {st : List Value} : am_AW d 102 (2, [a0, a1, .int x, a3], st, n, M) Q = (am_AW d 102 (3, [a0, a1, .int x, a3], .int x :: st, n, M) Q) := am_AW_go rfl rfl rfl rfl
theorem w102_3 {L st : List Value} : am_AW d 102 (3, L, st, n, M) Q = (am_AW d 102 (5, L, .int (am_z 60) :: st, n, M) Q) := am_AW_go rfl rfl rfl rfl
theorem w102_5 {L st : List Value} {x y : Int32} : am_AW d 102 (5, L, .int y :: .int x :: st, n, M) Q = (if x ≤ y then am_AW d 102 (8, L, st, n, M) Q else am_AW d 102 (39, L, st, n, M) Q) := (am_AW_icmp rfl).trans am_ite_gt
theorem w102_8 {a0 a2 a3 : Value} {x : Nat} {st : List Value} : am_AW d 102 (8, [a0, .ref x, a2, a3], st, n, M) Q = (am_AW d 102 (9, [a0, .ref x, a2, a3], .ref x :: st, n, M) Q) := am_AW_go rfl rfl rfl rfl
theorem w102_9 {L st : List Value} {h : Nat} : am_AW d 102 (9, L, .ref h :: st, n, M) Q = (∃ v, am_fld M h 0 2 = some v ∧ am_AW d 102 (12, L, v :: st, n, M) Q) := am_AW_op (o := am_fld M h 0 2) (f := fun v => (12, L, v :: st, n, M)) rfl rfl (am_bm _ _) (fun _ => rfl)
theorem w102_12 {L st : List Value} {x : Int32} : am_AW d 102 (12, L, .int x :: st, n, M) Q = (if x = am_z 0 then am_AW d 102 (15, L, st, n, M) Q else am_AW d 102 (39, L, st, n, M) Q) := (am_AW_ifz rfl).trans am_ite_ne
theorem w102_15 {a0 a2 a3 : Value} {x : Nat} {st : List Value} : am_AW d 102 (15, [a0, .ref x, a2, a3], st, n, M) Q = (am_AW d 102 (16, [a0, .ref x, a2, a3], .ref x :: st, n, M) Q) := am_AW_go rfl rfl rfl rfl
theorem w102_16 {L st : List Value} {v0 : Value} : am_AW d 102 (16, L, v0 :: st, n, M) Q = (am_okA 1 (v0 :: st) = true ∧ am_Do d 103 [v0] n M (am_then d 102 19 0 L st n Q)) := am_AW_cs (i := 32) (x := 103) (y := 1) (z := 0) rfl
theorem w102_19 {a0 a1 a2 a3 : Value} {x : Int32} {st : List Value} : am_AW d 102 (19, [a0, a1, a2, a3], .int x :: st, n, M) Q = (am_AW d 102 (20, [a0, a1, a2, .int x], st, n, M) Q) := am_AW_go rfl rfl rfl rfl
theorem w102_20 {a0 a1 a2 : Value} {x : Int32} {st : List Value} : am_AW d 102 (20, [a0, a1, a2, .int x], st, n, M) Q = (am_AW d 102 (21, [a0, a1, a2, .int x], .int x :: st, n, M) Q) := am_AW_go rfl rfl rfl rfl
theorem w102_21 {L st : List Value} : am_AW d 102 (21, L, st, n, M) Q = (am_AW d 102 (22, L, .int (am_z (-1)) :: st, n, M) Q) := am_AW_go rfl rfl rfl rfl
theorem w102_22 {L st : List Value} {x y : Int32} : am_AW d 102 (22, L, .int y :: .int x :: st, n, M) Q = (if x = y then am_AW d 102 (25, L, st, n, M) Q else am_AW d 102 (27, L, st, n, M) Q) := (am_AW_icmp rfl).trans am_ite_ne
theorem w102_25 {a0 a1 a3 : Value} {x : Int32} {st : List Value} : am_AW d 102 (25, [a0, a1, .int x, a3], st, n, M) Q = (am_AW d 102 (26, [a0, a1, .int x, a3], .int x :: st, n, M) Q) := am_AW_go rfl rfl rfl rfl
theorem w102_26 {L : List Value} {x : Int32} : am_AW d 102 (26, L, [.int x], n, M) Q = (Q (some (.int x)) n M) := am_AW_ret (rv := (some (.int x), n)) rfl rfl rfl (am_mono_self n)
theorem w102_27 {a1 a2 a3 : Value} {x : Nat} {st : List Value} : am_AW d 102 (27, [.ref x, a1, a2, a3], st, n, M) Q = (am_AW d 102 (28, [.ref x, a1, a2, a3], .ref x :: st, n, M) Q) := am_AW_go rfl rfl rfl rfl
theorem w102_28 {a0 a2 a3 : Value} {x : Nat} {st : List Value} : am_AW d 102 (28, [a0, .ref x, a2, a3], st, n, M) Q = (am_AW d 102 (29, [a0, .ref x, a2, a3], .ref x :: st, n, M) Q) := am_AW_go rfl rfl rfl rfl
theorem w102_29 {a0 a1 a2 : Value} {x : Int32} {st : List Value} : am_AW d 102 (29, [a0, a1, a2, .int x], st, n, M) Q = (am_AW d 102 (30, [a0, a1, a2, .int x], .int x :: st, n, M) Q) := am_AW_go rfl rfl rfl rfl
theorem w102_30 {L st : List Value} {v0 v1 v2 : Value} : am_AW d 102 (30, L, v0 :: v1 :: v2 :: st, n, M) Q = (am_okA 3 (v0 :: v1 :: v2 :: st) = true ∧ am_isO M [v2, v1, v0] 6 = true ∧ am_Do d 106 [v2, v1, v0] n M (am_then d 102 33 0 L st n Q)) := am_AW_cv (i := 36) (x := 106) (y := 603) (z := 0) rfl
theorem w102_33 {a0 a1 a3 : Value} {x : Int32} {st : List Value} : am_AW d 102 (33, [a0, a1, .int x, a3], st, n, M) Q = (am_AW d 102 (36, [a0, a1, .int (x + (am_z 1)), a3], st, n, M) Q) := am_AW_go rfl rfl rfl rfl
theorem w102_36 {L st : List Value} : am_AW d 102 (36, L, st, n, M) Q = (am_AW d 102 (2, L, st, n, M) Q) := am_AW_go rfl rfl rfl rfl
theorem w102_39 {L st : List Value} : am_AW d 102 (39, L, st, n, M) Q = (am_AW d 102 (41, L, .int (am_z (-7)) :: st, n, M) Q) := am_AW_go rfl rfl rfl rfl
theorem w102_41 {L : List Value} {x : Int32} : am_AW d 102 (41, L, [.int x], n, M) Q = (Q (some (.int x)) n M) := am_AW_ret (rv := (some (.int x), n)) rfl rfl rfl (am_mono_self n)
end W102
section W103
variable {d : Nat} {n : am_N} {M : am_M} {Q : Option Value → am_N → am_M → Prop}
theorem w103_0 {L st : List Value} : am_AW d 103 (0, L, st, n, M) Q = (am_AW d 103 (1, L, .int (am_z 0) :: st, n, M) Q) := am_AW_go rfl rfl rfl rfl
theorem w103_1 {a0 a1 : Value} {x : Int32} {st : List Value} : am_AW d 103 (1, [a0, a1], .int x :: st, n, M) Q = (am_AW d 103 (2, [a0, .int x], st, n, M) Q) := am_AW_go rfl rfl rfl rfl
theorem w103_2 {a0 : Value} {x : Int32} {st : List Value} : am_AW d 103 (2, [a0, .int x], st, n, M) Q = (am_AW d 103 (3, [a0, .int x], .int x :: st, n, M) Q) := am_AW_go rfl rfl rfl rfl
theorem w103_3 {a1 : Value} {x : Nat} {st : List Value} : am_AW d 103 (3, [.ref x, a1], st, n, M) Q = (am_AW d 103 (4, [.ref x, a1], .ref x :: st, n, M) Q) := am_AW_go rfl rfl rfl rfl
theorem w103_4 {L st : List Value} {h : Nat} : am_AW d 103 (4, L, .ref h :: st, n, M) Q = (∃ v, am_fld M h 0 1 = some v ∧ am_AW d 103 (7, L, v :: st, n, M) Q) := am_AW_op (o := am_fld M h 0 1) (f := fun v => (7, L, v :: st, n, M)) rfl rfl (am_bm _ _) (fun _ => rfl)
theorem w103_7 {L st : List Value} {x y : Int32} : am_AW d 103 (7, L, .int y :: .int x :: st, n, M) Q = (if x < y then am_AW d 103 (10, L, st, n, M) Q else am_AW d 103 (45, L, st, n, M) Q) := (am_AW_icmp rfl).trans am_ite_ge
theorem w103_10 {a1 : Value} {x : Nat} {st : List Value} : am_AW d 103 (10, [.ref x, a1], st, n, M) Q = (am_AW d 103 (11, [.ref x, a1], .ref x :: st, n, M) Q) := am_AW_go rfl rfl rfl rfl
theorem w103_11 {a0 : Value} {x : Int32} {st : List Value} : am_AW d 103 (11, [a0, .int x], st, n, M) Q = (am_AW d 103 (12, [a0, .int x], .int x :: st, n, M) Q) := am_AW_go rfl rfl rfl rfl
theorem w103_12 {L st : List Value} {v0 v1 : Value} : am_AW d 103 (12, L, v0 :: v1 :: st, n, M) Q = (am_okA 2 (v0 :: v1 :: st) = true ∧ am_isO M [v1, v0] 0 = true ∧ am_Do d 114 [v1, v0] n M (am_then d 103 15 0 L st n Q)) := am_AW_cv (i := 44) (x := 114) (y := 2) (z := 0) rfl
theorem w103_15 {L st : List Value} {v0 : Value} : am_AW d 103 (15, L, v0 :: st, n, M) Q = (am_okA 1 (v0 :: st) = true ∧ am_Do d 15 [v0] n M (am_then d 103 18 0 L st n Q)) := am_AW_cs (i := 48) (x := 15) (y := 1) (z := 0) rfl
theorem w103_18 {L st : List Value} {x : Int32} : am_AW d 103 (18, L, .int x :: st, n, M) Q = (if x = am_z 0 then am_AW d 103 (21, L, st, n, M) Q else am_AW d 103 (37, L, st, n, M) Q) := (am_AW_ifz rfl).trans am_ite_ne
theorem w103_21 {a1 : Value} {x : Nat} {st : List Value} : am_AW d 103 (21, [.ref x, a1], st, n, M) Q = (am_AW d 103 (22, [.ref x, a1], .ref x :: st, n, M) Q) := am_AW_go rfl rfl rfl rfl
theorem w103_22 {a0 : Value} {x : Int32} {st : List Value} : am_AW d 103 (22, [a0, .int x], st, n, M) Q = (am_AW d 103 (23, [a0, .int x], .int x :: st, n, M) Q) := am_AW_go rfl rfl rfl rfl
theorem w103_23 {L st : List Value} {v0 v1 : Value} : am_AW d 103 (23, L, v0 :: v1 :: st, n, M) Q = (am_okA 2 (v0 :: v1 :: st) = true ∧ am_Do d 104 [v1, v0] n M (am_then d 103 26 0 L st n Q)) := am_AW_cs (i := 52) (x := 104) (y := 2) (z := 0) rfl
theorem w103_26 {L st : List Value} {x : Int32} : am_AW d 103 (26, L, .int x :: st, n, M) Q = (if x = am_z 0 then am_AW d 103 (29, L, st, n, M) Q else am_AW d 103 (37, L, st, n, M) Q) := (am_AW_ifz rfl).trans am_ite_ne
theorem w103_29 {a1 : Value} {x : Nat} {st : List Value} : am_AW d 103 (29, [.ref x, a1], st, n, M) Q = (am_AW d 103 (30, [.ref x, a1], .ref x :: st, n, M) Q) := am_AW_go rfl rfl rfl rfl
theorem w103_30 {a0 : Value} {x : Int32} {st : List Value} : am_AW d 103 (30, [a0, .int x], st, n, M) Q = (am_AW d 103 (31, [a0, .int x], .int x :: st, n, M) Q) := am_AW_go rfl rfl rfl rfl
theorem w103_31 {L st : List Value} {v0 v1 : Value} : am_AW d 103 (31, L, v0 :: v1 :: st, n, M) Q = (am_okA 2 (v0 :: v1 :: st) = true ∧ am_Do d 105 [v1, v0] n M (am_then d 103 34 0 L st n Q)) := am_AW_cs (i := 56) (x := 105) (y := 2) (z := 0) rfl
theorem w103_34 {L st : List Value} {x : Int32} : am_AW d 103 (34, L, .int x :: st, n, M) Q = (if x = am_z 0 then am_AW d 103 (39, L, st, n, M) Q else am_AW d 103 (37, L, st, n, M) Q) := (am_AW_ifz rfl).trans am_ite_eq
theorem w103_37 {a0 : Value} {x : Int32} {st : List Value} : am_AW d 103 (37, [a0, .int x], st, n, M) Q = (am_AW d 103 (38, [a0, .int x], .int x :: st, n, M) Q) := am_AW_go rfl rfl rfl rfl
theorem w103_38 {L : List Value} {x : Int32} : am_AW d 103 (38, L, [.int x], n, M) Q = (Q (some (.int x)) n M) := am_AW_ret (rv := (some (.int x), n)) rfl rfl rfl (am_mono_self n)
theorem w103_39 {a0 : Value} {x : Int32} {st : List Value} : am_AW d 103 (39, [a0, .int x], st, n, M) Q = (am_AW d 103 (42, [a0, .int (x + (am_z 1))], st, n, M) Q) := am_AW_go rfl rfl rfl rfl
theorem w103_42 {L st : List Value} : am_AW d 103 (42, L, st, n, M) Q = (am_AW d 103 (2, L, st, n, M) Q) := am_AW_go rfl rfl rfl rfl
theorem w103_45 {L st : List Value} : am_AW d 103 (45, L, st, n, M) Q = (am_AW d 103 (46, L, .int (am_z (-1)) :: st, n, M) Q) := am_AW_go rfl rfl rfl rfl
theorem w103_46 {L : List Value} {x : Int32} : am_AW d 103 (46, L, [.int x], n, M) Q = (Q (some (.int x)) n M) := am_AW_ret (rv := (some (.int x), n)) rfl rfl rfl (am_mono_self n)
end W103
section W104
variable {d : Nat} {n : am_N} {M : am_M} {Q : Option Value → am_N → am_M → Prop}
theorem w104_0 {a1 : Value} {x : Nat} {st : List Value} : am_AW d 104 (0, [.ref x, a1], st, n, M) Q = (am_AW d 104 (1, [.ref x, a1], .ref x :: st, n, M) Q) := am_AW_go rfl rfl rfl rfl
theorem w104_1 {a0 : Value} {x : Int32} {st : List Value} : am_AW d 104 (1, [a0, .int x], st, n, M) Q = (am_AW d 104 (2, [a0, .int x], .int x :: st, n, M) Q) := am_AW_go rfl rfl rfl rfl
theorem w104_2 {L st : List Value} {v0 v1 : Value} : am_AW d 104 (2, L, v0 :: v1 :: st, n, M) Q = (am_okA 2 (v0 :: v1 :: st) = true ∧ am_isO M [v1, v0] 0 = true ∧ am_Do d 114 [v1, v0] n M (am_then d 104 5 0 L st n Q)) := am_AW_cv (i := 44) (x := 114) (y := 2) (z := 0) rfl
theorem w104_5 {L st : List Value} {x : Int32} : am_AW d 104 (5, L, .int x :: st, n, M) Q = (if x = am_z 0 then am_AW d 104 (8, L, st, n, M) Q else am_AW d 104 (23, L, st, n, M) Q) := (am_AW_ifz rfl).trans am_ite_ne
theorem w104_8 {a1 : Value} {x : Nat} {st : List Value} : am_AW d 104 (8, [.ref x, a1], st, n, M) Q = (am_AW d 104 (9, [.ref x, a1], .ref x :: st, n, M) Q) := am_AW_go rfl rfl rfl rfl
theorem w104_9 {a0 : Value} {x : Int32} {st : List Value} : am_AW d 104 (9, [a0, .int x], st, n, M) Q = (am_AW d 104 (10, [a0, .int x], .int x :: st, n, M) Q) := am_AW_go rfl rfl rfl rfl
theorem w104_10 {L st : List Value} : am_AW d 104 (10, L, st, n, M) Q = (am_AW d 104 (11, L, .int (am_z 1) :: st, n, M) Q) := am_AW_go rfl rfl rfl rfl
theorem w104_11 {L st : List Value} {x y : Int32} : am_AW d 104 (11, L, .int y :: .int x :: st, n, M) Q = (am_AW d 104 (12, L, .int (x + y) :: st, n, M) Q) := am_AW_go rfl rfl rfl rfl
theorem w104_12 {L st : List Value} {v0 v1 : Value} : am_AW d 104 (12, L, v0 :: v1 :: st, n, M) Q = (am_okA 2 (v0 :: v1 :: st) = true ∧ am_isO M [v1, v0] 0 = true ∧ am_Do d 114 [v1, v0] n M (am_then d 104 15 0 L st n Q)) := am_AW_cv (i := 44) (x := 114) (y := 2) (z := 0) rfl
theorem w104_15 {L st : List Value} : am_AW d 104 (15, L, st, n, M) Q = (am_AW d 104 (16, L, .int (am_z 1) :: st, n, M) Q) := am_AW_go rfl rfl rfl rfl
theorem w104_16 {L st : List Value} {x y : Int32} : am_AW d 104 (16, L, .int y :: .int x :: st, n, M) Q = (if x = y then am_AW d 104 (19, L, st, n, M) Q else am_AW d 104 (23, L, st, n, M) Q) := (am_AW_icmp rfl).trans am_ite_ne
theorem w104_19 {L st : List Value} : am_AW d 104 (19, L, st, n, M) Q = (am_AW d 104 (20, L, .int (am_z 1) :: st, n, M) Q) := am_AW_go rfl rfl rfl rfl
theorem w104_20 {L st : List Value} : am_AW d 104 (20, L, st, n, M) Q = (am_AW d 104 (24, L, st, n, M) Q) := am_AW_go rfl rfl rfl rfl
theorem w104_23 {L st : List Value} : am_AW d 104 (23, L, st, n, M) Q = (am_AW d 104 (24, L, .int (am_z 0) :: st, n, M) Q) := am_AW_go rfl rfl rfl rfl
theorem w104_24 {L : List Value} {x : Int32} (hf : am_fit 1 (.int x) = true) : am_AW d 104 (24, L, [.int x], n, M) Q = (Q (some (.int x)) n M) := am_AW_ret (rv := (some (.int x), n)) rfl rfl (if_pos hf) (am_mono_self n)
end W104
section W105
variable {d : Nat} {n : am_N} {M : am_M} {Q : Option Value → am_N → am_M → Prop}
theorem w105_0 {a1 a2 : Value} {x : Nat} {st : List Value} : am_AW d 105 (0, [.ref x, a1, a2], st, n, M) Q = (am_AW d 105 (1, [.ref x, a1, a2], .ref x :: st, n, M) Q) := am_AW_go rfl rfl rfl rfl
theorem w105_1 {a0 a2 : Value} {x : Int32} {st : List Value} : am_AW d 105 (1, [a0, .int x, a2], st, n, M) Q = (am_AW d 105 (2, [a0, .int x, a2], .int x :: st, n, M) Q) := am_AW_go rfl rfl rfl rfl
theorem w105_2 {L st : List Value} : am_AW d 105 (2, L, st, n, M) Q = (am_AW d 105 (3, L, .int (am_z 4) :: st, n, M) Q) := am_AW_go rfl rfl rfl rfl
theorem w105_3 {L st : List Value} {x y : Int32} : am_AW d 105 (3, L, .int y :: .int x :: st, n, M) Q = (am_AW d 105 (4, L, .int (x + y) :: st, n, M) Q) := am_AW_go rfl rfl rfl rfl
theorem w105_4 {L st : List Value} {v0 v1 : Value} : am_AW d 105 (4, L, v0 :: v1 :: st, n, M) Q = (am_okA 2 (v0 :: v1 :: st) = true ∧ am_isO M [v1, v0] 0 = true ∧ am_Do d 114 [v1, v0] n M (am_then d 105 7 0 L st n Q)) := am_AW_cv (i := 44) (x := 114) (y := 2) (z := 0) rfl
theorem w105_7 {L st : List Value} : am_AW d 105 (7, L, st, n, M) Q = (am_AW d 105 (9, L, .int (am_z 8) :: st, n, M) Q) := am_AW_go rfl rfl rfl rfl
theorem w105_9 {L st : List Value} {x y : Int32} : am_AW d 105 (9, L, .int y :: .int x :: st, n, M) Q = (if x = y then am_AW d 105 (14, L, st, n, M) Q else am_AW d 105 (12, L, st, n, M) Q) := (am_AW_icmp rfl).trans am_ite_eq
theorem w105_12 {L st : List Value} : am_AW d 105 (12, L, st, n, M) Q = (am_AW d 105 (13, L, .int (am_z 0) :: st, n, M) Q) := am_AW_go rfl rfl rfl rfl
theorem w105_13 {L : List Value} {x : Int32} (hf : am_fit 1 (.int x) = true) : am_AW d 105 (13, L, [.int x], n, M) Q = (Q (some (.int x)) n M) := am_AW_ret (rv := (some (.int x), n)) rfl rfl (if_pos hf) (am_mono_self n)
theorem w105_14 {a0 a2 : Value} {x : Int32} {st : List Value} : am_AW d 105 (14, [a0, .int x, a2], st, n, M) Q = (am_AW d 105 (15, [a0, .int x, a2], .int x :: st, n, M) Q) := am_AW_go rfl rfl rfl rfl
theorem w105_15 {a0 a1 a2 : Value} {x : Int32} {st : List Value} : am_AW d 105 (15, [a0, a1, a2], .int x :: st, n, M) Q = (am_AW d 105 (16, [a0, a1, .int x], st, n, M) Q) := am_AW_go rfl rfl rfl rfl
theorem w105_16 {a0 a1 : Value} {x : Int32} {st : List Value} : am_AW d 105 (16, [a0, a1, .int x], st, n, M) Q = (am_AW d 105 (17, [a0, a1, .int x], .int x :: st, n, M) Q) := am_AW_go rfl rfl rfl rfl
theorem w105_17 {a0 a2 : Value} {x : Int32} {st : List Value} : am_AW d 105 (17, [a0, .int x, a2], st, n, M) Q = (am_AW d 105 (18, [a0, .int x, a2], .int x :: st, n, M) Q) := am_AW_go rfl rfl rfl rfl
theorem w105_18 {L st : List Value} : am_AW d 105 (18, L, st, n, M) Q = (am_AW d 105 (19, L, .int (am_z 4) :: st, n, M) Q) := am_AW_go rfl rfl rfl rfl
theorem w105_19 {L st : List Value} {x y : Int32} : am_AW d 105 (19, L, .int y :: .int x :: st, n, M) Q = (am_AW d 105 (20, L, .int (x + y) :: st, n, M) Q) := am_AW_go rfl rfl rfl rfl
theorem w105_20 {L st : List Value} {x y : Int32} : am_AW d 105 (20, L, .int y :: .int x :: st, n, M) Q = (if x < y then am_AW d 105 (23, L, st, n, M) Q else am_AW d 105 (39, L, st, n, M) Q) := (am_AW_icmp rfl).trans am_ite_ge
theorem w105_23 {a1 a2 : Value} {x : Nat} {st : List Value} : am_AW d 105 (23, [.ref x, a1, a2], st, n, M) Q = (am_AW d 105 (24, [.ref x, a1, a2], .ref x :: st, n, M) Q) := am_AW_go rfl rfl rfl rfl
theorem w105_24 {a0 a1 : Value} {x : Int32} {st : List Value} : am_AW d 105 (24, [a0, a1, .int x], st, n, M) Q = (am_AW d 105 (25, [a0, a1, .int x], .int x :: st, n, M) Q) := am_AW_go rfl rfl rfl rfl
theorem w105_25 {L st : List Value} {v0 v1 : Value} : am_AW d 105 (25, L, v0 :: v1 :: st, n, M) Q = (am_okA 2 (v0 :: v1 :: st) = true ∧ am_isO M [v1, v0] 0 = true ∧ am_Do d 114 [v1, v0] n M (am_then d 105 28 0 L st n Q)) := am_AW_cv (i := 44) (x := 114) (y := 2) (z := 0) rfl
theorem w105_28 {L st : List Value} {x : Int32} : am_AW d 105 (28, L, .int x :: st, n, M) Q = (if x = am_z 0 then am_AW d 105 (33, L, st, n, M) Q else am_AW d 105 (31, L, st, n, M) Q) := (am_AW_ifz rfl).trans am_ite_eq
theorem w105_31 {L st : List Value} : am_AW d 105 (31, L, st, n, M) Q = (am_AW d 105 (32, L, .int (am_z 0) :: st, n, M) Q) := am_AW_go rfl rfl rfl rfl
theorem w105_32 {L : List Value} {x : Int32} (hf : am_fit 1 (.int x) = true) : am_AW d 105 (32, L, [.int x], n, M) Q = (Q (some (.int x)) n M) := am_AW_ret (rv := (some (.int x), n)) rfl rfl (if_pos hf) (am_mono_self n)
theorem w105_33 {a0 a1 : Value} {x : Int32} {st : List Value} : am_AW d 105 (33, [a0, a1, .int x], st, n, M) Q = (am_AW d 105 (36, [a0, a1, .int (x + (am_z 1))], st, n, M) Q) := am_AW_go rfl rfl rfl rfl
theorem w105_36 {L st : List Value} : am_AW d 105 (36, L, st, n, M) Q = (am_AW d 105 (16, L, st, n, M) Q) := am_AW_go rfl rfl rfl rfl
theorem w105_39 {a1 a2 : Value} {x : Nat} {st : List Value} : am_AW d 105 (39, [.ref x, a1, a2], st, n, M) Q = (am_AW d 105 (40, [.ref x, a1, a2], .ref x :: st, n, M) Q) := am_AW_go rfl rfl rfl rfl
theorem w105_40 {a1 a2 : Value} {x : Nat} {st : List Value} : am_AW d 105 (40, [.ref x, a1, a2], st, n, M) Q = (am_AW d 105 (41, [.ref x, a1, a2], .ref x :: st, n, M) Q) := am_AW_go rfl rfl rfl rfl
theorem w105_41 {a1 a2 : Value} {x : Nat} {st : List Value} : am_AW d 105 (41, [.ref x, a1, a2], st, n, M) Q = (am_AW d 105 (42, [.ref x, a1, a2], .ref x :: st, n, M) Q) := am_AW_go rfl rfl rfl rfl
theorem w105_42 {a0 a2 : Value} {x : Int32} {st : List Value} : am_AW d 105 (42, [a0, .int x, a2], st, n, M) Q = (am_AW d 105 (43, [a0, .int x, a2], .int x :: st, n, M) Q) := am_AW_go rfl rfl rfl rfl
theorem w105_43 {L st : List Value} : am_AW d 105 (43, L, st, n, M) Q = (am_AW d 105 (44, L, .int (am_z 5) :: st, n, M) Q) := am_AW_go rfl rfl rfl rfl
theorem w105_44 {L st : List Value} {x y : Int32} : am_AW d 105 (44, L, .int y :: .int x :: st, n, M) Q = (am_AW d 105 (45, L, .int (x + y) :: st, n, M) Q) := am_AW_go rfl rfl rfl rfl
theorem w105_45 {L st : List Value} {v0 v1 : Value} : am_AW d 105 (45, L, v0 :: v1 :: st, n, M) Q = (am_okA 2 (v0 :: v1 :: st) = true ∧ am_isO M [v1, v0] 0 = true ∧ am_Do d 115 [v1, v0] n M (am_then d 105 48 0 L st n Q)) := am_AW_cv (i := 59) (x := 115) (y := 2) (z := 0) rfl
theorem w105_48 {L st : List Value} {v0 v1 : Value} : am_AW d 105 (48, L, v0 :: v1 :: st, n, M) Q = (am_okA 2 (v0 :: v1 :: st) = true ∧ am_isO M [v1, v0] 0 = true ∧ am_Do d 115 [v1, v0] n M (am_then d 105 51 0 L st n Q)) := am_AW_cv (i := 59) (x := 115) (y := 2) (z := 0) rfl
theorem w105_51 {L st : List Value} {v0 v1 : Value} : am_AW d 105 (51, L, v0 :: v1 :: st, n, M) Q = (am_okA 2 (v0 :: v1 :: st) = true ∧ am_isO M [v1, v0] 0 = true ∧ am_Do d 115 [v1, v0] n M (am_then d 105 54 0 L st n Q)) := am_AW_cv (i := 59) (x := 115) (y := 2) (z := 0) rfl
theorem w105_54 {a0 a1 a2 : Value} {x : Int32} {st : List Value} : am_AW d 105 (54, [a0, a1, a2], .int x :: st, n, M) Q = (am_AW d 105 (55, [a0, a1, .int x], st, n, M) Q) := am_AW_go rfl rfl rfl rfl
theorem w105_55 {a1 a2 : Value} {x : Nat} {st : List Value} : am_AW d 105 (55, [.ref x, a1, a2], st, n, M) Q = (am_AW d 105 (56, [.ref x, a1, a2], .ref x :: st, n, M) Q) := am_AW_go rfl rfl rfl rfl
theorem w105_56 {a0 a1 : Value} {x : Int32} {st : List Value} : am_AW d 105 (56, [a0, a1, .int x], st, n, M) Q = (am_AW d 105 (57, [a0, a1, .int x], .int x :: st, n, M) Q) := am_AW_go rfl rfl rfl rfl
theorem w105_57 {L st : List Value} {v0 v1 : Value} : am_AW d 105 (57, L, v0 :: v1 :: st, n, M) Q = (am_okA 2 (v0 :: v1 :: st) = true ∧ am_isO M [v1, v0] 0 = true ∧ am_Do d 114 [v1, v0] n M (am_then d 105 60 0 L st n Q)) := am_AW_cv (i := 44) (x := 114) (y := 2) (z := 0) rfl
theorem w105_60 {L st : List Value} : am_AW d 105 (60, L, st, n, M) Q = (am_AW d 105 (62, L, .int (am_z 6) :: st, n, M) Q) := am_AW_go rfl rfl rfl rfl
theorem w105_62 {L st : List Value} {x y : Int32} : am_AW d 105 (62, L, .int y :: .int x :: st, n, M) Q = (if x = y then am_AW d 105 (85, L, st, n, M) Q else am_AW d 105 (65, L, st, n, M) Q) := (am_AW_icmp rfl).trans am_ite_eq
theorem w105_65 {a1 a2 : Value} {x : Nat} {st : List Value} : am_AW d 105 (65, [.ref x, a1, a2], st, n, M) Q = (am_AW d 105 (66, [.ref x, a1, a2], .ref x :: st, n, M) Q) := am_AW_go rfl rfl rfl rfl
theorem w105_66 {a0 a1 : Value} {x : Int32} {st : List Value} : am_AW d 105 (66, [a0, a1, .int x], st, n, M) Q = (am_AW d 105 (67, [a0, a1, .int x], .int x :: st, n, M) Q) := am_AW_go rfl rfl rfl rfl
theorem w105_67 {L st : List Value} {v0 v1 : Value} : am_AW d 105 (67, L, v0 :: v1 :: st, n, M) Q = (am_okA 2 (v0 :: v1 :: st) = true ∧ am_isO M [v1, v0] 0 = true ∧ am_Do d 114 [v1, v0] n M (am_then d 105 70 0 L st n Q)) := am_AW_cv (i := 44) (x := 114) (y := 2) (z := 0) rfl
theorem w105_70 {L st : List Value} {x : Int32} : am_AW d 105 (70, L, .int x :: st, n, M) Q = (if x = am_z 0 then am_AW d 105 (73, L, st, n, M) Q else am_AW d 105 (89, L, st, n, M) Q) := (am_AW_ifz rfl).trans am_ite_ne
theorem w105_73 {a1 a2 : Value} {x : Nat} {st : List Value} : am_AW d 105 (73, [.ref x, a1, a2], st, n, M) Q = (am_AW d 105 (74, [.ref x, a1, a2], .ref x :: st, n, M) Q) := am_AW_go rfl rfl rfl rfl
theorem w105_74 {a0 a1 : Value} {x : Int32} {st : List Value} : am_AW d 105 (74, [a0, a1, .int x], st, n, M) Q = (am_AW d 105 (75, [a0, a1, .int x], .int x :: st, n, M) Q) := am_AW_go rfl rfl rfl rfl
theorem w105_75 {L st : List Value} : am_AW d 105 (75, L, st, n, M) Q = (am_AW d 105 (76, L, .int (am_z 1) :: st, n, M) Q) := am_AW_go rfl rfl rfl rfl
theorem w105_76 {L st : List Value} {x y : Int32} : am_AW d 105 (76, L, .int y :: .int x :: st, n, M) Q = (am_AW d 105 (77, L, .int (x + y) :: st, n, M) Q) := am_AW_go rfl rfl rfl rfl
theorem w105_77 {L st : List Value} {v0 v1 : Value} : am_AW d 105 (77, L, v0 :: v1 :: st, n, M) Q = (am_okA 2 (v0 :: v1 :: st) = true ∧ am_isO M [v1, v0] 0 = true ∧ am_Do d 114 [v1, v0] n M (am_then d 105 80 0 L st n Q)) := am_AW_cv (i := 44) (x := 114) (y := 2) (z := 0) rfl
theorem w105_80 {L st : List Value} : am_AW d 105 (80, L, st, n, M) Q = (am_AW d 105 (82, L, .int (am_z 7) :: st, n, M) Q) := am_AW_go rfl rfl rfl rfl
theorem w105_82 {L st : List Value} {x y : Int32} : am_AW d 105 (82, L, .int y :: .int x :: st, n, M) Q = (if x = y then am_AW d 105 (85, L, st, n, M) Q else am_AW d 105 (89, L, st, n, M) Q) := (am_AW_icmp rfl).trans am_ite_ne
theorem w105_85 {L st : List Value} : am_AW d 105 (85, L, st, n, M) Q = (am_AW d 105 (86, L, .int (am_z 1) :: st, n, M) Q) := am_AW_go rfl rfl rfl rfl
theorem w105_86 {L st : List Value} : am_AW d 105 (86, L, st, n, M) Q = (am_AW d 105 (90, L, st, n, M) Q) := am_AW_go rfl rfl rfl rfl
theorem w105_89 {L st : List Value} : am_AW d 105 (89, L, st, n, M) Q = (am_AW d 105 (90, L, .int (am_z 0) :: st, n, M) Q) := am_AW_go rfl rfl rfl rfl
theorem w105_90 {L : List Value} {x : Int32} (hf : am_fit 1 (.int x) = true) : am_AW d 105 (90, L, [.int x], n, M) Q = (Q (some (.int x)) n M) := am_AW_ret (rv := (some (.int x), n)) rfl rfl (if_pos hf) (am_mono_self n)
end W105
section W106
variable {d : Nat} {n : am_N} {M : am_M} {Q : Option Value → am_N → am_M → Prop}
theorem w106_0 {a1 a2 a3 : Value} {x : Nat} {st : List Value} : am_AW d 106 (0, [.ref x, a1, a2, a3], st, n, M) Q = (am_AW d 106 (1, [.ref x, a1, a2, a3], .ref x :: st, n, M) Q) := am_AW_go rfl rfl rfl rfl
theorem w106_1 {L st : List Value} {h : Nat} : am_AW d 106 (1, L, .ref h :: st, n, M) Q = (∃ v, am_fld M h 6 2 = some v ∧ am_AW d 106 (4, L, v :: st, n, M) Q) := am_AW_op (o := am_fld M h 6 2) (f := fun v => (4, L, v :: st, n, M)) rfl rfl (am_bm _ _) (fun _ => rfl)
theorem w106_4 {L st : List Value} {v0 : Value} : am_AW d 106 (4, L, v0 :: st, n, M) Q = (am_okA 1 (v0 :: st) = true ∧ am_isO M [v0] 0 = true ∧ am_Do d 109 [v0] n M (am_then d 106 7 0 L st n Q)) := am_AW_cv (i := 62) (x := 109) (y := 1) (z := 0) rfl
theorem w106_7 {a1 a2 a3 : Value} {x : Nat} {st : List Value} : am_AW d 106 (7, [.ref x, a1, a2, a3], st, n, M) Q = (am_AW d 106 (8, [.ref x, a1, a2, a3], .ref x :: st, n, M) Q) := am_AW_go rfl rfl rfl rfl
theorem w106_8 {L st : List Value} {h : Nat} : am_AW d 106 (8, L, .ref h :: st, n, M) Q = (∃ v, am_fld M h 6 2 = some v ∧ am_AW d 106 (11, L, v :: st, n, M) Q) := am_AW_op (o := am_fld M h 6 2) (f := fun v => (11, L, v :: st, n, M)) rfl rfl (am_bm _ _) (fun _ => rfl)
theorem w106_11 {a0 a2 a3 : Value} {x : Nat} {st : List Value} : am_AW d 106 (11, [a0, .ref x, a2, a3], st, n, M) Q = (am_AW d 106 (12, [a0, .ref x, a2, a3], .ref x :: st, n, M) Q) := am_AW_go rfl rfl rfl rfl
theorem w106_12 {L st : List Value} : am_AW d 106 (12, L, st, n, M) Q = (am_AW d 106 (13, L, .int (am_z 0) :: st, n, M) Q) := am_AW_go rfl rfl rfl rfl
theorem w106_13 {a0 a1 a3 : Value} {x : Int32} {st : List Value} : am_AW d 106 (13, [a0, a1, .int x, a3], st, n, M) Q = (am_AW d 106 (14, [a0, a1, .int x, a3], .int x :: st, n, M) Q) := am_AW_go rfl rfl rfl rfl
theorem w106_14 {L st : List Value} {v0 v1 v2 v3 : Value} : am_AW d 106 (14, L, v0 :: v1 :: v2 :: v3 :: st, n, M) Q = (am_okA 4 (v0 :: v1 :: v2 :: v3 :: st) = true ∧ am_isO M [v3, v2, v1, v0] 0 = true ∧ am_Do d 111 [v3, v2, v1, v0] n M (am_then d 106 17 0 L st n Q)) := am_AW_cv (i := 65) (x := 111) (y := 4) (z := 0) rfl
theorem w106_17 {a0 a2 a3 : Value} {x : Nat} {st : List Value} : am_AW d 106 (17, [a0, .ref x, a2, a3], st, n, M) Q = (am_AW d 106 (18, [a0, .ref x, a2, a3], .ref x :: st, n, M) Q) := am_AW_go rfl rfl rfl rfl
theorem w106_18 {a0 a1 a3 : Value} {x : Int32} {st : List Value} : am_AW d 106 (18, [a0, a1, .int x, a3], st, n, M) Q = (am_AW d 106 (19, [a0, a1, .int x, a3], .int x :: st, n, M) Q) := am_AW_go rfl rfl rfl rfl
theorem w106_19 {L st : List Value} {v0 v1 : Value} : am_AW d 106 (19, L, v0 :: v1 :: st, n, M) Q = (am_okA 2 (v0 :: v1 :: st) = true ∧ am_isO M [v1, v0] 0 = true ∧ am_Do d 114 [v1, v0] n M (am_then d 106 22 0 L st n Q)) := am_AW_cv (i := 44) (x := 114) (y := 2) (z := 0) rfl
theorem w106_22 {L st : List Value} {v0 : Value} : am_AW d 106 (22, L, v0 :: st, n, M) Q = (am_okA 1 (v0 :: st) = true ∧ am_Do d 15 [v0] n M (am_then d 106 25 0 L st n Q)) := am_AW_cs (i := 48) (x := 15) (y := 1) (z := 0) rfl
theorem w106_25 {L st : List Value} {x : Int32} : am_AW d 106 (25, L, .int x :: st, n, M) Q = (if x = am_z 0 then am_AW d 106 (60, L, st, n, M) Q else am_AW d 106 (28, L, st, n, M) Q) := (am_AW_ifz rfl).trans am_ite_eq
theorem w106_28 {a1 a2 a3 : Value} {x : Nat} {st : List Value} : am_AW d 106 (28, [.ref x, a1, a2, a3], st, n, M) Q = (am_AW d 106 (29, [.ref x, a1, a2, a3], .ref x :: st, n, M) Q) := am_AW_go rfl rfl rfl rfl
theorem w106_29 {L st : List Value} {h : Nat} : am_AW d 106 (29, L, .ref h :: st, n, M) Q = (∃ v, am_fld M h 6 1 = some v ∧ am_AW d 106 (32, L, v :: st, n, M) Q) := am_AW_op (o := am_fld M h 6 1) (f := fun v => (32, L, v :: st, n, M)) rfl rfl (am_bm _ _) (fun _ => rfl)
theorem w106_32 {a1 a2 a3 : Value} {x : Nat} {st : List Value} : am_AW d 106 (32, [.ref x, a1, a2, a3], st, n, M) Q = (am_AW d 106 (33, [.ref x, a1, a2, a3], .ref x :: st, n, M) Q) := am_AW_go rfl rfl rfl rfl
theorem w106_33 {L st : List Value} {h : Nat} : am_AW d 106 (33, L, .ref h :: st, n, M) Q = (∃ v, am_fld M h 6 0 = some v ∧ am_AW d 106 (36, L, v :: st, n, M) Q) := am_AW_op (o := am_fld M h 6 0) (f := fun v => (36, L, v :: st, n, M)) rfl rfl (am_bm _ _) (fun _ => rfl)
theorem w106_36 {L st : List Value} {h : Nat} : am_AW d 106 (36, L, .ref h :: st, n, M) Q = (∃ v, am_fld M h 3 0 = some v ∧ am_AW d 106 (39, L, v :: st, n, M) Q) := am_AW_op (o := am_fld M h 3 0) (f := fun v => (39, L, v :: st, n, M)) rfl rfl (am_bm _ _) (fun _ => rfl)
theorem w106_39 {a0 a2 a3 : Value} {x : Nat} {st : List Value} : am_AW d 106 (39, [a0, .ref x, a2, a3], st, n, M) Q = (am_AW d 106 (40, [a0, .ref x, a2, a3], .ref x :: st, n, M) Q) := am_AW_go rfl rfl rfl rfl
theorem w106_40 {a0 a1 a3 : Value} {x : Int32} {st : List Value} : am_AW d 106 (40, [a0, a1, .int x, a3], st, n, M) Q = (am_AW d 106 (41, [a0, a1, .int x, a3], .int x :: st, n, M) Q) := am_AW_go rfl rfl rfl rfl
theorem w106_41 {L st : List Value} {v0 v1 : Value} : am_AW d 106 (41, L, v0 :: v1 :: st, n, M) Q = (am_okA 2 (v0 :: v1 :: st) = true ∧ am_isO M [v1, v0] 0 = true ∧ am_Do d 114 [v1, v0] n M (am_then d 106 44 0 L st n Q)) := am_AW_cv (i := 44) (x := 114) (y := 2) (z := 0) rfl
theorem w106_44 {L st : List Value} : am_AW d 106 (44, L, st, n, M) Q = (am_AW d 106 (46, L, .int (am_z 10) :: st, n, M) Q) := am_AW_go rfl rfl rfl rfl
theorem w106_46 {L st : List Value} {x y : Int32} : am_AW d 106 (46, L, .int y :: .int x :: st, n, M) Q = (am_AW d 106 (47, L, .int (x - y) :: st, n, M) Q) := am_AW_go rfl rfl rfl rfl
theorem w106_47 {L st : List Value} {h : Nat} {i : Int32} : am_AW d 106 (47, L, .int i :: .ref h :: st, n, M) Q = (∃ v, am_aald M h i = some v ∧ am_AW d 106 (48, L, v :: st, n, M) Q) := am_AW_op (o := am_aald M h i) (f := fun v => (48, L, v :: st, n, M)) rfl rfl (am_bm3 _ () ()) (fun _ => rfl)
theorem w106_48 {L st : List Value} : am_AW d 106 (48, L, st, n, M) Q = (am_AW d 106 (49, L, .int (am_z 0) :: st, n, M) Q) := am_AW_go rfl rfl rfl rfl
theorem w106_49 {L st : List Value} : am_AW d 106 (49, L, st, n, M) Q = (am_AW d 106 (50, L, .int (am_z 0) :: st, n, M) Q) := am_AW_go rfl rfl rfl rfl
theorem w106_50 {a1 a2 a3 : Value} {x : Nat} {st : List Value} : am_AW d 106 (50, [.ref x, a1, a2, a3], st, n, M) Q = (am_AW d 106 (51, [.ref x, a1, a2, a3], .ref x :: st, n, M) Q) := am_AW_go rfl rfl rfl rfl
theorem w106_51 {L st : List Value} {h : Nat} : am_AW d 106 (51, L, .ref h :: st, n, M) Q = (∃ v, am_fld M h 6 2 = some v ∧ am_AW d 106 (54, L, v :: st, n, M) Q) := am_AW_op (o := am_fld M h 6 2) (f := fun v => (54, L, v :: st, n, M)) rfl rfl (am_bm _ _) (fun _ => rfl)
theorem w106_54 {L st : List Value} {v0 v1 v2 v3 v4 : Value} : am_AW d 106 (54, L, v0 :: v1 :: v2 :: v3 :: v4 :: st, n, M) Q = (am_okA 5 (v0 :: v1 :: v2 :: v3 :: v4 :: st) = true ∧ am_isO M [v4, v3, v2, v1, v0] 4 = true ∧ am_Do d 73 [v4, v3, v2, v1, v0] n M (am_then d 106 57 0 L st n Q)) := am_AW_cv (i := 75) (x := 73) (y := 405) (z := 0) rfl
theorem w106_57 {L st : List Value} : am_AW d 106 (57, L, st, n, M) Q = (am_AW d 106 (104, L, st, n, M) Q) := am_AW_go rfl rfl rfl rfl
theorem w106_60 {a0 a2 a3 : Value} {x : Nat} {st : List Value} : am_AW d 106 (60, [a0, .ref x, a2, a3], st, n, M) Q = (am_AW d 106 (61, [a0, .ref x, a2, a3], .ref x :: st, n, M) Q) := am_AW_go rfl rfl rfl rfl
theorem w106_61 {a0 a1 a3 : Value} {x : Int32} {st : List Value} : am_AW d 106 (61, [a0, a1, .int x, a3], st, n, M) Q = (am_AW d 106 (62, [a0, a1, .int x, a3], .int x :: st, n, M) Q) := am_AW_go rfl rfl rfl rfl
theorem w106_62 {L st : List Value} {v0 v1 : Value} : am_AW d 106 (62, L, v0 :: v1 :: st, n, M) Q = (am_okA 2 (v0 :: v1 :: st) = true ∧ am_Do d 104 [v1, v0] n M (am_then d 106 65 0 L st n Q)) := am_AW_cs (i := 52) (x := 104) (y := 2) (z := 0) rfl
theorem w106_65 {L st : List Value} {x : Int32} : am_AW d 106 (65, L, .int x :: st, n, M) Q = (if x = am_z 0 then am_AW d 106 (98, L, st, n, M) Q else am_AW d 106 (68, L, st, n, M) Q) := (am_AW_ifz rfl).trans am_ite_eq
theorem w106_68 {a0 a2 a3 : Value} {x : Nat} {st : List Value} : am_AW d 106 (68, [a0, .ref x, a2, a3], st, n, M) Q = (am_AW d 106 (69, [a0, .ref x, a2, a3], .ref x :: st, n, M) Q) := am_AW_go rfl rfl rfl rfl
theorem w106_69 {a0 a1 a3 : Value} {x : Int32} {st : List Value} : am_AW d 106 (69, [a0, a1, .int x, a3], st, n, M) Q = (am_AW d 106 (70, [a0, a1, .int x, a3], .int x :: st, n, M) Q) := am_AW_go rfl rfl rfl rfl
theorem w106_70 {L st : List Value} : am_AW d 106 (70, L, st, n, M) Q = (am_AW d 106 (71, L, .int (am_z 2) :: st, n, M) Q) := am_AW_go rfl rfl rfl rfl
theorem w106_71 {L st : List Value} {x y : Int32} : am_AW d 106 (71, L, .int y :: .int x :: st, n, M) Q = (am_AW d 106 (72, L, .int (x + y) :: st, n, M) Q) := am_AW_go rfl rfl rfl rfl
theorem w106_72 {L st : List Value} {v0 v1 : Value} : am_AW d 106 (72, L, v0 :: v1 :: st, n, M) Q = (am_okA 2 (v0 :: v1 :: st) = true ∧ am_isO M [v1, v0] 0 = true ∧ am_Do d 115 [v1, v0] n M (am_then d 106 75 0 L st n Q)) := am_AW_cv (i := 59) (x := 115) (y := 2) (z := 0) rfl
theorem w106_75 {a0 a1 a2 a3 : Value} {x : Int32} {st : List Value} : am_AW d 106 (75, [a0, a1, a2, a3], .int x :: st, n, M) Q = (am_AW d 106 (76, [a0, a1, a2, .int x], st, n, M) Q) := am_AW_go rfl rfl rfl rfl
theorem w106_76 {a1 a2 a3 : Value} {x : Nat} {st : List Value} : am_AW d 106 (76, [.ref x, a1, a2, a3], st, n, M) Q = (am_AW d 106 (77, [.ref x, a1, a2, a3], .ref x :: st, n, M) Q) := am_AW_go rfl rfl rfl rfl
theorem w106_77 {L st : List Value} {h : Nat} : am_AW d 106 (77, L, .ref h :: st, n, M) Q = (∃ v, am_fld M h 6 1 = some v ∧ am_AW d 106 (80, L, v :: st, n, M) Q) := am_AW_op (o := am_fld M h 6 1) (f := fun v => (80, L, v :: st, n, M)) rfl rfl (am_bm _ _) (fun _ => rfl)
theorem w106_80 {a0 a2 a3 : Value} {x : Nat} {st : List Value} : am_AW d 106 (80, [a0, .ref x, a2, a3], st, n, M) Q = (am_AW d 106 (81, [a0, .ref x, a2, a3], .ref x :: st, n, M) Q) := am_AW_go rfl rfl rfl rfl
theorem w106_81 {a0 a1 a2 : Value} {x : Int32} {st : List Value} : am_AW d 106 (81, [a0, a1, a2, .int x], st, n, M) Q = (am_AW d 106 (82, [a0, a1, a2, .int x], .int x :: st, n, M) Q) := am_AW_go rfl rfl rfl rfl
theorem w106_82 {a0 a2 a3 : Value} {x : Nat} {st : List Value} : am_AW d 106 (82, [a0, .ref x, a2, a3], st, n, M) Q = (am_AW d 106 (83, [a0, .ref x, a2, a3], .ref x :: st, n, M) Q) := am_AW_go rfl rfl rfl rfl
theorem w106_83 {a0 a2 a3 : Value} {x : Nat} {st : List Value} : am_AW d 106 (83, [a0, .ref x, a2, a3], st, n, M) Q = (am_AW d 106 (84, [a0, .ref x, a2, a3], .ref x :: st, n, M) Q) := am_AW_go rfl rfl rfl rfl
theorem w106_84 {a0 a1 a2 : Value} {x : Int32} {st : List Value} : am_AW d 106 (84, [a0, a1, a2, .int x], st, n, M) Q = (am_AW d 106 (85, [a0, a1, a2, .int x], .int x :: st, n, M) Q) := am_AW_go rfl rfl rfl rfl
theorem w106_85 {L st : List Value} {v0 v1 : Value} : am_AW d 106 (85, L, v0 :: v1 :: st, n, M) Q = (am_okA 2 (v0 :: v1 :: st) = true ∧ am_isO M [v1, v0] 0 = true ∧ am_Do d 115 [v1, v0] n M (am_then d 106 88 0 L st n Q)) := am_AW_cv (i := 59) (x := 115) (y := 2) (z := 0) rfl
theorem w106_88 {a1 a2 a3 : Value} {x : Nat} {st : List Value} : am_AW d 106 (88, [.ref x, a1, a2, a3], st, n, M) Q = (am_AW d 106 (89, [.ref x, a1, a2, a3], .ref x :: st, n, M) Q) := am_AW_go rfl rfl rfl rfl
theorem w106_89 {L st : List Value} {h : Nat} : am_AW d 106 (89, L, .ref h :: st, n, M) Q = (∃ v, am_fld M h 6 2 = some v ∧ am_AW d 106 (92, L, v :: st, n, M) Q) := am_AW_op (o := am_fld M h 6 2) (f := fun v => (92, L, v :: st, n, M)) rfl rfl (am_bm _ _) (fun _ => rfl)
theorem w106_92 {L st : List Value} {v0 v1 v2 v3 v4 v5 : Value} : am_AW d 106 (92, L, v0 :: v1 :: v2 :: v3 :: v4 :: v5 :: st, n, M) Q = (am_okA 6 (v0 :: v1 :: v2 :: v3 :: v4 :: v5 :: st) = true ∧ am_isO M [v5, v4, v3, v2, v1, v0] 4 = true ∧ am_Do d 74 [v5, v4, v3, v2, v1, v0] n M (am_then d 106 95 0 L st n Q)) := am_AW_cv (i := 81) (x := 74) (y := 406) (z := 0) rfl
theorem w106_95 {L st : List Value} : am_AW d 106 (95, L, st, n, M) Q = (am_AW d 106 (104, L, st, n, M) Q) := am_AW_go rfl rfl rfl rfl
theorem w106_98 {a1 a2 a3 : Value} {x : Nat} {st : List Value} : am_AW d 106 (98, [.ref x, a1, a2, a3], st, n, M) Q = (am_AW d 106 (99, [.ref x, a1, a2, a3], .ref x :: st, n, M) Q) := am_AW_go rfl rfl rfl rfl
theorem w106_99 {a0 a2 a3 : Value} {x : Nat} {st : List Value} : am_AW d 106 (99, [a0, .ref x, a2, a3], st, n, M) Q = (am_AW d 106 (100, [a0, .ref x, a2, a3], .ref x :: st, n, M) Q) := am_AW_go rfl rfl rfl rfl
theorem w106_100 {a0 a1 a3 : Value} {x : Int32} {st : List Value} : am_AW d 106 (100, [a0, a1, .int x, a3], st, n, M) Q = (am_AW d 106 (101, [a0, a1, .int x, a3], .int x :: st, n, M) Q) := am_AW_go rfl rfl rfl rfl
theorem w106_101 {L st : List Value} {v0 v1 v2 : Value} : am_AW d 106 (101, L, v0 :: v1 :: v2 :: st, n, M) Q = (am_okA 3 (v0 :: v1 :: v2 :: st) = true ∧ am_isO M [v2, v1, v0] 6 = true ∧ am_Do d 107 [v2, v1, v0] n M (am_then d 106 104 0 L st n Q)) := am_AW_cv (i := 85) (x := 107) (y := 603) (z := 0) rfl
theorem w106_104 {a1 a2 a3 : Value} {x : Nat} {st : List Value} : am_AW d 106 (104, [.ref x, a1, a2, a3], st, n, M) Q = (am_AW d 106 (105, [.ref x, a1, a2, a3], .ref x :: st, n, M) Q) := am_AW_go rfl rfl rfl rfl
theorem w106_105 {L st : List Value} {h : Nat} : am_AW d 106 (105, L, .ref h :: st, n, M) Q = (∃ v, am_fld M h 6 2 = some v ∧ am_AW d 106 (108, L, v :: st, n, M) Q) := am_AW_op (o := am_fld M h 6 2) (f := fun v => (108, L, v :: st, n, M)) rfl rfl (am_bm _ _) (fun _ => rfl)
theorem w106_108 {a0 a2 a3 : Value} {x : Nat} {st : List Value} : am_AW d 106 (108, [a0, .ref x, a2, a3], st, n, M) Q = (am_AW d 106 (109, [a0, .ref x, a2, a3], .ref x :: st, n, M) Q) := am_AW_go rfl rfl rfl rfl
theorem w106_109 {a0 a2 a3 : Value} {x : Nat} {st : List Value} : am_AW d 106 (109, [a0, .ref x, a2, a3], st, n, M) Q = (am_AW d 106 (110, [a0, .ref x, a2, a3], .ref x :: st, n, M) Q) := am_AW_go rfl rfl rfl rfl
theorem w106_110 {a0 a1 a3 : Value} {x : Int32} {st : List Value} : am_AW d 106 (110, [a0, a1, .int x, a3], st, n, M) Q = (am_AW d 106 (111, [a0, a1, .int x, a3], .int x :: st, n, M) Q) := am_AW_go rfl rfl rfl rfl
theorem w106_111 {L st : List Value} {v0 v1 : Value} : am_AW d 106 (111, L, v0 :: v1 :: st, n, M) Q = (am_okA 2 (v0 :: v1 :: st) = true ∧ am_isO M [v1, v0] 0 = true ∧ am_Do d 115 [v1, v0] n M (am_then d 106 114 0 L st n Q)) := am_AW_cv (i := 59) (x := 115) (y := 2) (z := 0) rfl
theorem w106_114 {a0 a2 a3 : Value} {x : Nat} {st : List Value} : am_AW d 106 (114, [a0, .ref x, a2, a3], st, n, M) Q = (am_AW d 106 (115, [a0, .ref x, a2, a3], .ref x :: st, n, M) Q) := am_AW_go rfl rfl rfl rfl
theorem w106_115 {L st : List Value} {h : Nat} : am_AW d 106 (115, L, .ref h :: st, n, M) Q = (∃ v, am_fld M h 0 1 = some v ∧ am_AW d 106 (118, L, v :: st, n, M) Q) := am_AW_op (o := am_fld M h 0 1) (f := fun v => (118, L, v :: st, n, M)) rfl rfl (am_bm _ _) (fun _ => rfl)
theorem w106_118 {L st : List Value} {v0 v1 v2 v3 : Value} : am_AW d 106 (118, L, v0 :: v1 :: v2 :: v3 :: st, n, M) Q = (am_okA 4 (v0 :: v1 :: v2 :: v3 :: st) = true ∧ am_isO M [v3, v2, v1, v0] 0 = true ∧ am_Do d 111 [v3, v2, v1, v0] n M (am_then d 106 121 0 L st n Q)) := am_AW_cv (i := 65) (x := 111) (y := 4) (z := 0) rfl
theorem w106_121 {a0 a2 a3 : Value} {x : Nat} {st : List Value} : am_AW d 106 (121, [a0, .ref x, a2, a3], st, n, M) Q = (am_AW d 106 (122, [a0, .ref x, a2, a3], .ref x :: st, n, M) Q) := am_AW_go rfl rfl rfl rfl
theorem w106_122 {a1 a2 a3 : Value} {x : Nat} {st : List Value} : am_AW d 106 (122, [.ref x, a1, a2, a3], st, n, M) Q = (am_AW d 106 (123, [.ref x, a1, a2, a3], .ref x :: st, n, M) Q) := am_AW_go rfl rfl rfl rfl
theorem w106_123 {L st : List Value} {h : Nat} : am_AW d 106 (123, L, .ref h :: st, n, M) Q = (∃ v, am_fld M h 6 2 = some v ∧ am_AW d 106 (126, L, v :: st, n, M) Q) := am_AW_op (o := am_fld M h 6 2) (f := fun v => (126, L, v :: st, n, M)) rfl rfl (am_bm _ _) (fun _ => rfl)
theorem w106_126 {L st : List Value} {v0 v1 : Value} : am_AW d 106 (126, L, v0 :: v1 :: st, n, M) Q = (am_okA 2 (v0 :: v1 :: st) = true ∧ am_isO M [v1, v0] 0 = true ∧ am_Do d 113 [v1, v0] n M (am_then d 106 129 0 L st n Q)) := am_AW_cv (i := 88) (x := 113) (y := 2) (z := 0) rfl
theorem w106_129 {L : List Value} : am_AW d 106 (129, L, [], n, M) Q = (Q none n M) := am_AW_ret (rv := (none, n)) rfl rfl rfl (am_mono_self n)
end W106
section W107
variable {d : Nat} {n : am_N} {M : am_M} {Q : Option Value → am_N → am_M → Prop}
theorem w107_0 {a0 a2 a3 a4 a5 a6 a7 : Value} {x : Nat} {st : List Value} : am_AW d 107 (0, [a0, .ref x, a2, a3, a4, a5, a6, a7], st, n, M) Q = (am_AW d 107 (1, [a0, .ref x, a2, a3, a4, a5, a6, a7], .ref x :: st, n, M) Q) := am_AW_go rfl rfl rfl rfl
theorem w107_1 {a0 a1 a3 a4 a5 a6 a7 : Value} {x : Int32} {st : List Value} : am_AW d 107 (1, [a0, a1, .int x, a3, a4, a5, a6, a7], st, n, M) Q = (am_AW d 107 (2, [a0, a1, .int x, a3, a4, a5, a6, a7], .int x :: st, n, M) Q) := am_AW_go rfl rfl rfl rfl
theorem w107_2 {L st : List Value} : am_AW d 107 (2, L, st, n, M) Q = (am_AW d 107 (3, L, .int (am_z 5) :: st, n, M) Q) := am_AW_go rfl rfl rfl rfl
theorem w107_3 {L st : List Value} {x y : Int32} : am_AW d 107 (3, L, .int y :: .int x :: st, n, M) Q = (am_AW d 107 (4, L, .int (x + y) :: st, n, M) Q) := am_AW_go rfl rfl rfl rfl
theorem w107_4 {L st : List Value} {v0 v1 : Value} : am_AW d 107 (4, L, v0 :: v1 :: st, n, M) Q = (am_okA 2 (v0 :: v1 :: st) = true ∧ am_isO M [v1, v0] 0 = true ∧ am_Do d 115 [v1, v0] n M (am_then d 107 7 0 L st n Q)) := am_AW_cv (i := 59) (x := 115) (y := 2) (z := 0) rfl
theorem w107_7 {a0 a1 a2 a3 a4 a5 a6 a7 : Value} {x : Int32} {st : List Value} : am_AW d 107 (7, [a0, a1, a2, a3, a4, a5, a6, a7], .int x :: st, n, M) Q = (am_AW d 107 (8, [a0, a1, a2, .int x, a4, a5, a6, a7], st, n, M) Q) := am_AW_go rfl rfl rfl rfl
theorem w107_8 {a0 a2 a3 a4 a5 a6 a7 : Value} {x : Nat} {st : List Value} : am_AW d 107 (8, [a0, .ref x, a2, a3, a4, a5, a6, a7], st, n, M) Q = (am_AW d 107 (9, [a0, .ref x, a2, a3, a4, a5, a6, a7], .ref x :: st, n, M) Q) := am_AW_go rfl rfl rfl rfl
theorem w107_9 {a0 a1 a2 a4 a5 a6 a7 : Value} {x : Int32} {st : List Value} : am_AW d 107 (9, [a0, a1, a2, .int x, a4, a5, a6, a7], st, n, M) Q = (am_AW d 107 (10, [a0, a1, a2, .int x, a4, a5, a6, a7], .int x :: st, n, M) Q) := am_AW_go rfl rfl rfl rfl
theorem w107_10 {L st : List Value} {v0 v1 : Value} : am_AW d 107 (10, L, v0 :: v1 :: st, n, M) Q = (am_okA 2 (v0 :: v1 :: st) = true ∧ am_isO M [v1, v0] 0 = true ∧ am_Do d 115 [v1, v0] n M (am_then d 107 13 0 L st n Q)) := am_AW_cv (i := 59) (x := 115) (y := 2) (z := 0) rfl
theorem w107_13 {a0 a1 a2 a3 a4 a5 a6 a7 : Value} {x : Int32} {st : List Value} : am_AW d 107 (13, [a0, a1, a2, a3, a4, a5, a6, a7], .int x :: st, n, M) Q = (am_AW d 107 (15, [a0, a1, a2, a3, .int x, a5, a6, a7], st, n, M) Q) := am_AW_go rfl rfl rfl rfl
theorem w107_15 {a0 a2 a3 a4 a5 a6 a7 : Value} {x : Nat} {st : List Value} : am_AW d 107 (15, [a0, .ref x, a2, a3, a4, a5, a6, a7], st, n, M) Q = (am_AW d 107 (16, [a0, .ref x, a2, a3, a4, a5, a6, a7], .ref x :: st, n, M) Q) := am_AW_go rfl rfl rfl rfl
theorem w107_16 {a0 a1 a2 a3 a5 a6 a7 : Value} {x : Int32} {st : List Value} : am_AW d 107 (16, [a0, a1, a2, a3, .int x, a5, a6, a7], st, n, M) Q = (am_AW d 107 (18, [a0, a1, a2, a3, .int x, a5, a6, a7], .int x :: st, n, M) Q) := am_AW_go rfl rfl rfl rfl
theorem w107_18 {L st : List Value} {v0 v1 : Value} : am_AW d 107 (18, L, v0 :: v1 :: st, n, M) Q = (am_okA 2 (v0 :: v1 :: st) = true ∧ am_isO M [v1, v0] 0 = true ∧ am_Do d 115 [v1, v0] n M (am_then d 107 21 0 L st n Q)) := am_AW_cv (i := 59) (x := 115) (y := 2) (z := 0) rfl
theorem w107_21 {a0 a1 a2 a3 a4 a5 a6 a7 : Value} {x : Int32} {st : List Value} : am_AW d 107 (21, [a0, a1, a2, a3, a4, a5, a6, a7], .int x :: st, n, M) Q = (am_AW d 107 (23, [a0, a1, a2, a3, a4, .int x, a6, a7], st, n, M) Q) := am_AW_go rfl rfl rfl rfl
theorem w107_23 {a0 a2 a3 a4 a5 a6 a7 : Value} {x : Nat} {st : List Value} : am_AW d 107 (23, [a0, .ref x, a2, a3, a4, a5, a6, a7], st, n, M) Q = (am_AW d 107 (24, [a0, .ref x, a2, a3, a4, a5, a6, a7], .ref x :: st, n, M) Q) := am_AW_go rfl rfl rfl rfl
theorem w107_24 {a0 a1 a2 a3 a4 a6 a7 : Value} {x : Int32} {st : List Value} : am_AW d 107 (24, [a0, a1, a2, a3, a4, .int x, a6, a7], st, n, M) Q = (am_AW d 107 (26, [a0, a1, a2, a3, a4, .int x, a6, a7], .int x :: st, n, M) Q) := am_AW_go rfl rfl rfl rfl
theorem w107_26 {L st : List Value} {v0 v1 : Value} : am_AW d 107 (26, L, v0 :: v1 :: st, n, M) Q = (am_okA 2 (v0 :: v1 :: st) = true ∧ am_isO M [v1, v0] 0 = true ∧ am_Do d 114 [v1, v0] n M (am_then d 107 29 0 L st n Q)) := am_AW_cv (i := 44) (x := 114) (y := 2) (z := 0) rfl
theorem w107_29 {L st : List Value} : am_AW d 107 (29, L, st, n, M) Q = (am_AW d 107 (31, L, .int (am_z 6) :: st, n, M) Q) := am_AW_go rfl rfl rfl rfl
theorem w107_31 {L st : List Value} {x y : Int32} : am_AW d 107 (31, L, .int y :: .int x :: st, n, M) Q = (if x = y then am_AW d 107 (34, L, st, n, M) Q else am_AW d 107 (46, L, st, n, M) Q) := (am_AW_icmp rfl).trans am_ite_ne
theorem w107_34 {a1 a2 a3 a4 a5 a6 a7 : Value} {x : Nat} {st : List Value} : am_AW d 107 (34, [.ref x, a1, a2, a3, a4, a5, a6, a7], st, n, M) Q = (am_AW d 107 (35, [.ref x, a1, a2, a3, a4, a5, a6, a7], .ref x :: st, n, M) Q) := am_AW_go rfl rfl rfl rfl
theorem w107_35 {L st : List Value} {h : Nat} : am_AW d 107 (35, L, .ref h :: st, n, M) Q = (∃ v, am_fld M h 6 2 = some v ∧ am_AW d 107 (38, L, v :: st, n, M) Q) := am_AW_op (o := am_fld M h 6 2) (f := fun v => (38, L, v :: st, n, M)) rfl rfl (am_bm _ _) (fun _ => rfl)
theorem w107_38 {a0 a2 a3 a4 a5 a6 a7 : Value} {x : Nat} {st : List Value} : am_AW d 107 (38, [a0, .ref x, a2, a3, a4, a5, a6, a7], st, n, M) Q = (am_AW d 107 (39, [a0, .ref x, a2, a3, a4, a5, a6, a7], .ref x :: st, n, M) Q) := am_AW_go rfl rfl rfl rfl
theorem w107_39 {a0 a1 a2 a4 a5 a6 a7 : Value} {x : Int32} {st : List Value} : am_AW d 107 (39, [a0, a1, a2, .int x, a4, a5, a6, a7], st, n, M) Q = (am_AW d 107 (40, [a0, a1, a2, .int x, a4, a5, a6, a7], .int x :: st, n, M) Q) := am_AW_go rfl rfl rfl rfl
theorem w107_40 {a0 a1 a2 a3 a5 a6 a7 : Value} {x : Int32} {st : List Value} : am_AW d 107 (40, [a0, a1, a2, a3, .int x, a5, a6, a7], st, n, M) Q = (am_AW d 107 (42, [a0, a1, a2, a3, .int x, a5, a6, a7], .int x :: st, n, M) Q) := am_AW_go rfl rfl rfl rfl
theorem w107_42 {L st : List Value} {v0 v1 v2 v3 : Value} : am_AW d 107 (42, L, v0 :: v1 :: v2 :: v3 :: st, n, M) Q = (am_okA 4 (v0 :: v1 :: v2 :: v3 :: st) = true ∧ am_isO M [v3, v2, v1, v0] 0 = true ∧ am_Do d 111 [v3, v2, v1, v0] n M (am_then d 107 45 0 L st n Q)) := am_AW_cv (i := 65) (x := 111) (y := 4) (z := 0) rfl
theorem w107_45 {L : List Value} : am_AW d 107 (45, L, [], n, M) Q = (Q none n M) := am_AW_ret (rv := (none, n)) rfl rfl rfl (am_mono_self n)
theorem w107_46 {a0 a1 a2 a3 a4 a6 a7 : Value} {x : Int32} {st : List Value} : am_AW d 107 (46, [a0, a1, a2, a3, a4, .int x, a6, a7], st, n, M) Q = (am_AW d 107 (48, [a0, a1, a2, a3, a4, .int x, a6, a7], .int x :: st, n, M) Q) := am_AW_go rfl rfl rfl rfl
theorem w107_48 {L st : List Value} : am_AW d 107 (48, L, st, n, M) Q = (am_AW d 107 (49, L, .int (am_z 2) :: st, n, M) Q) := am_AW_go rfl rfl rfl rfl
theorem w107_49 {L st : List Value} {x y : Int32} : am_AW d 107 (49, L, .int y :: .int x :: st, n, M) Q = (am_AW d 107 (50, L, .int (x + y) :: st, n, M) Q) := am_AW_go rfl rfl rfl rfl
theorem w107_50 {a0 a1 a2 a3 a4 a5 a6 a7 : Value} {x : Int32} {st : List Value} : am_AW d 107 (50, [a0, a1, a2, a3, a4, a5, a6, a7], .int x :: st, n, M) Q = (am_AW d 107 (52, [a0, a1, a2, a3, a4, a5, .int x, a7], st, n, M) Q) := am_AW_go rfl rfl rfl rfl
theorem w107_52 {a0 a2 a3 a4 a5 a6 a7 : Value} {x : Nat} {st : List Value} : am_AW d 107 (52, [a0, .ref x, a2, a3, a4, a5, a6, a7], st, n, M) Q = (am_AW d 107 (53, [a0, .ref x, a2, a3, a4, a5, a6, a7], .ref x :: st, n, M) Q) := am_AW_go rfl rfl rfl rfl
theorem w107_53 {a0 a1 a2 a3 a4 a6 a7 : Value} {x : Int32} {st : List Value} : am_AW d 107 (53, [a0, a1, a2, a3, a4, .int x, a6, a7], st, n, M) Q = (am_AW d 107 (55, [a0, a1, a2, a3, a4, .int x, a6, a7], .int x :: st, n, M) Q) := am_AW_go rfl rfl rfl rfl
theorem w107_55 {L st : List Value} {v0 v1 : Value} : am_AW d 107 (55, L, v0 :: v1 :: st, n, M) Q = (am_okA 2 (v0 :: v1 :: st) = true ∧ am_isO M [v1, v0] 0 = true ∧ am_Do d 115 [v1, v0] n M (am_then d 107 58 0 L st n Q)) := am_AW_cv (i := 59) (x := 115) (y := 2) (z := 0) rfl
theorem w107_58 {a0 a1 a2 a3 a4 a5 a6 a7 : Value} {x : Int32} {st : List Value} : am_AW d 107 (58, [a0, a1, a2, a3, a4, a5, a6, a7], .int x :: st, n, M) Q = (am_AW d 107 (60, [a0, a1, a2, a3, a4, a5, a6, .int x], st, n, M) Q) := am_AW_go rfl rfl rfl rfl
theorem w107_60 {a1 a2 a3 a4 a5 a6 a7 : Value} {x : Nat} {st : List Value} : am_AW d 107 (60, [.ref x, a1, a2, a3, a4, a5, a6, a7], st, n, M) Q = (am_AW d 107 (61, [.ref x, a1, a2, a3, a4, a5, a6, a7], .ref x :: st, n, M) Q) := am_AW_go rfl rfl rfl rfl
theorem w107_61 {L st : List Value} {h : Nat} : am_AW d 107 (61, L, .ref h :: st, n, M) Q = (∃ v, am_fld M h 6 2 = some v ∧ am_AW d 107 (64, L, v :: st, n, M) Q) := am_AW_op (o := am_fld M h 6 2) (f := fun v => (64, L, v :: st, n, M)) rfl rfl (am_bm _ _) (fun _ => rfl)
theorem w107_64 {L st : List Value} : am_AW d 107 (64, L, st, n, M) Q = (am_AW d 107 (65, L, .int (am_z 0) :: st, n, M) Q) := am_AW_go rfl rfl rfl rfl
theorem w107_65 {L st : List Value} {v0 v1 : Value} : am_AW d 107 (65, L, v0 :: v1 :: st, n, M) Q = (am_okA 2 (v0 :: v1 :: st) = true ∧ am_isO M [v1, v0] 0 = true ∧ am_Do d 110 [v1, v0] n M (am_then d 107 68 0 L st n Q)) := am_AW_cv (i := 92) (x := 110) (y := 2) (z := 0) rfl
theorem w107_68 {a1 a2 a3 a4 a5 a6 a7 : Value} {x : Nat} {st : List Value} : am_AW d 107 (68, [.ref x, a1, a2, a3, a4, a5, a6, a7], st, n, M) Q = (am_AW d 107 (69, [.ref x, a1, a2, a3, a4, a5, a6, a7], .ref x :: st, n, M) Q) := am_AW_go rfl rfl rfl rfl
theorem w107_69 {L st : List Value} {h : Nat} : am_AW d 107 (69, L, .ref h :: st, n, M) Q = (∃ v, am_fld M h 6 2 = some v ∧ am_AW d 107 (72, L, v :: st, n, M) Q) := am_AW_op (o := am_fld M h 6 2) (f := fun v => (72, L, v :: st, n, M)) rfl rfl (am_bm _ _) (fun _ => rfl)
theorem w107_72 {L st : List Value} : am_AW d 107 (72, L, st, n, M) Q = (am_AW d 107 (73, L, .int (am_z 0) :: st, n, M) Q) := am_AW_go rfl rfl rfl rfl
theorem w107_73 {L st : List Value} {v0 v1 : Value} : am_AW d 107 (73, L, v0 :: v1 :: st, n, M) Q = (am_okA 2 (v0 :: v1 :: st) = true ∧ am_isO M [v1, v0] 0 = true ∧ am_Do d 110 [v1, v0] n M (am_then d 107 76 0 L st n Q)) := am_AW_cv (i := 92) (x := 110) (y := 2) (z := 0) rfl
theorem w107_76 {a1 a2 a3 a4 a5 a6 a7 : Value} {x : Nat} {st : List Value} : am_AW d 107 (76, [.ref x, a1, a2, a3, a4, a5, a6, a7], st, n, M) Q = (am_AW d 107 (77, [.ref x, a1, a2, a3, a4, a5, a6, a7], .ref x :: st, n, M) Q) := am_AW_go rfl rfl rfl rfl
theorem w107_77 {L st : List Value} {h : Nat} : am_AW d 107 (77, L, .ref h :: st, n, M) Q = (∃ v, am_fld M h 6 2 = some v ∧ am_AW d 107 (80, L, v :: st, n, M) Q) := am_AW_op (o := am_fld M h 6 2) (f := fun v => (80, L, v :: st, n, M)) rfl rfl (am_bm _ _) (fun _ => rfl)
theorem w107_80 {a0 a2 a3 a4 a5 a6 a7 : Value} {x : Nat} {st : List Value} : am_AW d 107 (80, [a0, .ref x, a2, a3, a4, a5, a6, a7], st, n, M) Q = (am_AW d 107 (81, [a0, .ref x, a2, a3, a4, a5, a6, a7], .ref x :: st, n, M) Q) := am_AW_go rfl rfl rfl rfl
theorem w107_81 {a0 a1 a2 a3 a5 a6 a7 : Value} {x : Int32} {st : List Value} : am_AW d 107 (81, [a0, a1, a2, a3, .int x, a5, a6, a7], st, n, M) Q = (am_AW d 107 (83, [a0, a1, a2, a3, .int x, a5, a6, a7], .int x :: st, n, M) Q) := am_AW_go rfl rfl rfl rfl
theorem w107_83 {a0 a1 a2 a3 a4 a6 a7 : Value} {x : Int32} {st : List Value} : am_AW d 107 (83, [a0, a1, a2, a3, a4, .int x, a6, a7], st, n, M) Q = (am_AW d 107 (85, [a0, a1, a2, a3, a4, .int x, a6, a7], .int x :: st, n, M) Q) := am_AW_go rfl rfl rfl rfl
theorem w107_85 {L st : List Value} {v0 v1 v2 v3 : Value} : am_AW d 107 (85, L, v0 :: v1 :: v2 :: v3 :: st, n, M) Q = (am_okA 4 (v0 :: v1 :: v2 :: v3 :: st) = true ∧ am_isO M [v3, v2, v1, v0] 0 = true ∧ am_Do d 111 [v3, v2, v1, v0] n M (am_then d 107 88 0 L st n Q)) := am_AW_cv (i := 65) (x := 111) (y := 4) (z := 0) rfl
theorem w107_88 {a1 a2 a3 a4 a5 a6 a7 : Value} {x : Nat} {st : List Value} : am_AW d 107 (88, [.ref x, a1, a2, a3, a4, a5, a6, a7], st, n, M) Q = (am_AW d 107 (89, [.ref x, a1, a2, a3, a4, a5, a6, a7], .ref x :: st, n, M) Q) := am_AW_go rfl rfl rfl rfl
theorem w107_89 {L st : List Value} {h : Nat} : am_AW d 107 (89, L, .ref h :: st, n, M) Q = (∃ v, am_fld M h 6 2 = some v ∧ am_AW d 107 (92, L, v :: st, n, M) Q) := am_AW_op (o := am_fld M h 6 2) (f := fun v => (92, L, v :: st, n, M)) rfl rfl (am_bm _ _) (fun _ => rfl)
theorem w107_92 {a0 a2 a3 a4 a5 a6 a7 : Value} {x : Nat} {st : List Value} : am_AW d 107 (92, [a0, .ref x, a2, a3, a4, a5, a6, a7], st, n, M) Q = (am_AW d 107 (93, [a0, .ref x, a2, a3, a4, a5, a6, a7], .ref x :: st, n, M) Q) := am_AW_go rfl rfl rfl rfl
theorem w107_93 {a0 a1 a2 a3 a4 a5 a7 : Value} {x : Int32} {st : List Value} : am_AW d 107 (93, [a0, a1, a2, a3, a4, a5, .int x, a7], st, n, M) Q = (am_AW d 107 (95, [a0, a1, a2, a3, a4, a5, .int x, a7], .int x :: st, n, M) Q) := am_AW_go rfl rfl rfl rfl
theorem w107_95 {a0 a1 a2 a3 a4 a5 a6 : Value} {x : Int32} {st : List Value} : am_AW d 107 (95, [a0, a1, a2, a3, a4, a5, a6, .int x], st, n, M) Q = (am_AW d 107 (97, [a0, a1, a2, a3, a4, a5, a6, .int x], .int x :: st, n, M) Q) := am_AW_go rfl rfl rfl rfl
theorem w107_97 {L st : List Value} {v0 v1 v2 v3 : Value} : am_AW d 107 (97, L, v0 :: v1 :: v2 :: v3 :: st, n, M) Q = (am_okA 4 (v0 :: v1 :: v2 :: v3 :: st) = true ∧ am_isO M [v3, v2, v1, v0] 0 = true ∧ am_Do d 111 [v3, v2, v1, v0] n M (am_then d 107 100 0 L st n Q)) := am_AW_cv (i := 65) (x := 111) (y := 4) (z := 0) rfl
theorem w107_100 {a1 a2 a3 a4 a5 a6 a7 : Value} {x : Nat} {st : List Value} : am_AW d 107 (100, [.ref x, a1, a2, a3, a4, a5, a6, a7], st, n, M) Q = (am_AW d 107 (101, [.ref x, a1, a2, a3, a4, a5, a6, a7], .ref x :: st, n, M) Q) := am_AW_go rfl rfl rfl rfl
theorem w107_101 {L st : List Value} {h : Nat} : am_AW d 107 (101, L, .ref h :: st, n, M) Q = (∃ v, am_fld M h 6 2 = some v ∧ am_AW d 107 (104, L, v :: st, n, M) Q) := am_AW_op (o := am_fld M h 6 2) (f := fun v => (104, L, v :: st, n, M)) rfl rfl (am_bm _ _) (fun _ => rfl)
theorem w107_104 {a0 a2 a3 a4 a5 a6 a7 : Value} {x : Nat} {st : List Value} : am_AW d 107 (104, [a0, .ref x, a2, a3, a4, a5, a6, a7], st, n, M) Q = (am_AW d 107 (105, [a0, .ref x, a2, a3, a4, a5, a6, a7], .ref x :: st, n, M) Q) := am_AW_go rfl rfl rfl rfl
theorem w107_105 {a0 a1 a3 a4 a5 a6 a7 : Value} {x : Int32} {st : List Value} : am_AW d 107 (105, [a0, a1, .int x, a3, a4, a5, a6, a7], st, n, M) Q = (am_AW d 107 (106, [a0, a1, .int x, a3, a4, a5, a6, a7], .int x :: st, n, M) Q) := am_AW_go rfl rfl rfl rfl
theorem w107_106 {a0 a1 a2 a3 a4 a6 a7 : Value} {x : Int32} {st : List Value} : am_AW d 107 (106, [a0, a1, a2, a3, a4, .int x, a6, a7], st, n, M) Q = (am_AW d 107 (108, [a0, a1, a2, a3, a4, .int x, a6, a7], .int x :: st, n, M) Q) := am_AW_go rfl rfl rfl rfl
theorem w107_108 {L st : List Value} {v0 v1 v2 v3 : Value} : am_AW d 107 (108, L, v0 :: v1 :: v2 :: v3 :: st, n, M) Q = (am_okA 4 (v0 :: v1 :: v2 :: v3 :: st) = true ∧ am_isO M [v3, v2, v1, v0] 0 = true ∧ am_Do d 111 [v3, v2, v1, v0] n M (am_then d 107 111 0 L st n Q)) := am_AW_cv (i := 65) (x := 111) (y := 4) (z := 0) rfl
theorem w107_111 {a1 a2 a3 a4 a5 a6 a7 : Value} {x : Nat} {st : List Value} : am_AW d 107 (111, [.ref x, a1, a2, a3, a4, a5, a6, a7], st, n, M) Q = (am_AW d 107 (112, [.ref x, a1, a2, a3, a4, a5, a6, a7], .ref x :: st, n, M) Q) := am_AW_go rfl rfl rfl rfl
theorem w107_112 {L st : List Value} {h : Nat} : am_AW d 107 (112, L, .ref h :: st, n, M) Q = (∃ v, am_fld M h 6 2 = some v ∧ am_AW d 107 (115, L, v :: st, n, M) Q) := am_AW_op (o := am_fld M h 6 2) (f := fun v => (115, L, v :: st, n, M)) rfl rfl (am_bm _ _) (fun _ => rfl)
theorem w107_115 {a0 a2 a3 a4 a5 a6 a7 : Value} {x : Nat} {st : List Value} : am_AW d 107 (115, [a0, .ref x, a2, a3, a4, a5, a6, a7], st, n, M) Q = (am_AW d 107 (116, [a0, .ref x, a2, a3, a4, a5, a6, a7], .ref x :: st, n, M) Q) := am_AW_go rfl rfl rfl rfl
theorem w107_116 {a0 a1 a2 a3 a4 a5 a7 : Value} {x : Int32} {st : List Value} : am_AW d 107 (116, [a0, a1, a2, a3, a4, a5, .int x, a7], st, n, M) Q = (am_AW d 107 (118, [a0, a1, a2, a3, a4, a5, .int x, a7], .int x :: st, n, M) Q) := am_AW_go rfl rfl rfl rfl
theorem w107_118 {a0 a1 a2 a3 a4 a5 a6 : Value} {x : Int32} {st : List Value} : am_AW d 107 (118, [a0, a1, a2, a3, a4, a5, a6, .int x], st, n, M) Q = (am_AW d 107 (120, [a0, a1, a2, a3, a4, a5, a6, .int x], .int x :: st, n, M) Q) := am_AW_go rfl rfl rfl rfl
theorem w107_120 {L st : List Value} {v0 v1 v2 v3 : Value} : am_AW d 107 (120, L, v0 :: v1 :: v2 :: v3 :: st, n, M) Q = (am_okA 4 (v0 :: v1 :: v2 :: v3 :: st) = true ∧ am_isO M [v3, v2, v1, v0] 0 = true ∧ am_Do d 111 [v3, v2, v1, v0] n M (am_then d 107 123 0 L st n Q)) := am_AW_cv (i := 65) (x := 111) (y := 4) (z := 0) rfl
theorem w107_123 {L : List Value} : am_AW d 107 (123, L, [], n, M) Q = (Q none n M) := am_AW_ret (rv := (none, n)) rfl rfl rfl (am_mono_self n)
end W107
