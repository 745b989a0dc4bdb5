section W1
variable {d : Nat} {n : am_N} {M : am_M} {Q : Option Value → am_N → am_M → Prop}
theorem w1_0 {a0 a2 a3 a4 a5 a6 : Value} {x : Int32} {st : List Value} : am_AW d 1 (0, [a0, .int x, a2, a3, a4, a5, a6], st, n, M) Q = (am_AW d 1 (1, [a0, .int x, a2, a3, a4, a5, a6], .int x :: st, n, M) Q) := am_AW_go rfl rfl rfl rfl
theorem w1_1 {L st : List Value} {v0 : Value} : am_AW d 1 (1, L, v0 :: st, n, M) Q = (am_okA 1 (v0 :: st) = true ∧ am_Do d 10 [v0] n M (am_then d 1 4 0 L st n Q)) := am_AW_cs (i := 84) (x := 10) (y := 1) (z := 0) rfl
theorem w1_4 {a0 a1 a3 a4 a5 a6 : Value} {x : Int32} {st : List Value} : am_AW d 1 (4, [a0, a1, .int x, a3, a4, a5, a6], st, n, M) Q = (am_AW d 1 (5, [a0, a1, .int x, a3, a4, a5, a6], .int x :: st, n, M) Q) := am_AW_go rfl rfl rfl rfl
theorem w1_5 {L st : List Value} {v0 : Value} : am_AW d 1 (5, L, v0 :: st, n, M) Q = (am_okA 1 (v0 :: st) = true ∧ am_Do d 10 [v0] n M (am_then d 1 8 0 L st n Q)) := am_AW_cs (i := 84) (x := 10) (y := 1) (z := 0) rfl
theorem w1_8 {L st : List Value} {x y : Int32} : am_AW d 1 (8, L, .int y :: .int x :: st, n, M) Q = (am_AW d 1 (9, L, .int (x + y) :: st, n, M) Q) := am_AW_go rfl rfl rfl rfl
theorem w1_9 {a0 a1 a2 a4 a5 a6 : Value} {x : Int32} {st : List Value} : am_AW d 1 (9, [a0, a1, a2, .int x, a4, a5, a6], st, n, M) Q = (am_AW d 1 (10, [a0, a1, a2, .int x, a4, a5, a6], .int x :: st, n, M) Q) := am_AW_go rfl rfl rfl rfl
theorem w1_10 {L st : List Value} {v0 : Value} : am_AW d 1 (10, L, v0 :: st, n, M) Q = (am_okA 1 (v0 :: st) = true ∧ am_Do d 10 [v0] n M (am_then d 1 13 0 L st n Q)) := am_AW_cs (i := 84) (x := 10) (y := 1) (z := 0) rfl
theorem w1_13 {L st : List Value} {x y : Int32} : am_AW d 1 (13, L, .int y :: .int x :: st, n, M) Q = (am_AW d 1 (14, L, .int (x + y) :: st, n, M) Q) := am_AW_go rfl rfl rfl rfl
theorem w1_14 {a0 a1 a2 a3 a5 a6 : Value} {x : Int32} {st : List Value} : am_AW d 1 (14, [a0, a1, a2, a3, .int x, a5, a6], st, n, M) Q = (am_AW d 1 (16, [a0, a1, a2, a3, .int x, a5, a6], .int x :: st, n, M) Q) := am_AW_go rfl rfl rfl rfl
theorem w1_16 {L st : List Value} {v0 : Value} : am_AW d 1 (16, L, v0 :: st, n, M) Q = (am_okA 1 (v0 :: st) = true ∧ am_Do d 10 [v0] n M (am_then d 1 19 0 L st n Q)) := am_AW_cs (i := 84) (x := 10) (y := 1) (z := 0) rfl
theorem w1_19 {L st : List Value} {x y : Int32} : am_AW d 1 (19, L, .int y :: .int x :: st, n, M) Q = (am_AW d 1 (20, L, .int (x + y) :: st, n, M) Q) := am_AW_go rfl rfl rfl rfl
theorem w1_20 {a0 a1 a2 a3 a4 a6 : Value} {x : Int32} {st : List Value} : am_AW d 1 (20, [a0, a1, a2, a3, a4, .int x, a6], st, n, M) Q = (am_AW d 1 (22, [a0, a1, a2, a3, a4, .int x, a6], .int x :: st, n, M) Q) := am_AW_go rfl rfl rfl rfl
theorem w1_22 {L st : List Value} {v0 : Value} : am_AW d 1 (22, L, v0 :: st, n, M) Q = (am_okA 1 (v0 :: st) = true ∧ am_Do d 10 [v0] n M (am_then d 1 25 0 L st n Q)) := am_AW_cs (i := 84) (x := 10) (y := 1) (z := 0) rfl
theorem w1_25 {L st : List Value} {x y : Int32} : am_AW d 1 (25, L, .int y :: .int x :: st, n, M) Q = (am_AW d 1 (26, L, .int (x + y) :: st, n, M) Q) := am_AW_go rfl rfl rfl rfl
theorem w1_26 {a0 a1 a2 a3 a4 a5 a6 : Value} {x : Int32} {st : List Value} : am_AW d 1 (26, [a0, a1, a2, a3, a4, a5, a6], .int x :: st, n, M) Q = (am_AW d 1 (28, [a0, a1, a2, a3, a4, a5, .int x], st, n, M) Q) := am_AW_go rfl rfl rfl rfl
theorem w1_28 {a1 a2 a3 a4 a5 a6 : Value} {x : Nat} {st : List Value} : am_AW d 1 (28, [.ref x, a1, a2, a3, a4, a5, a6], st, n, M) Q = (am_AW d 1 (29, [.ref x, a1, a2, a3, a4, a5, a6], .ref x :: st, n, M) Q) := am_AW_go rfl rfl rfl rfl
theorem w1_29 {L st : List Value} {h : Nat} : am_AW d 1 (29, L, .ref h :: st, n, M) Q = (∃ v, am_fld M h 9 1 = some v ∧ am_AW d 1 (32, L, v :: st, n, M) Q) := am_AW_op (o := am_fld M h 9 1) (f := fun v => (32, L, v :: st, n, M)) rfl rfl (am_bm _ _) (fun _ => rfl)
theorem w1_32 {a0 a1 a2 a3 a4 a5 : Value} {x : Int32} {st : List Value} : am_AW d 1 (32, [a0, a1, a2, a3, a4, a5, .int x], st, n, M) Q = (am_AW d 1 (34, [a0, a1, a2, a3, a4, a5, .int x], .int x :: st, n, M) Q) := am_AW_go rfl rfl rfl rfl
theorem w1_34 {L st : List Value} {x y : Int32} : am_AW d 1 (34, L, .int y :: .int x :: st, n, M) Q = (am_AW d 1 (35, L, .int (x + y) :: st, n, M) Q) := am_AW_go rfl rfl rfl rfl
theorem w1_35 {L st : List Value} : am_AW d 1 (35, L, st, n, M) Q = (am_AW d 1 (37, L, .int (am_z 100) :: st, n, M) Q) := am_AW_go rfl rfl rfl rfl
theorem w1_37 {L st : List Value} {x y : Int32} : am_AW d 1 (37, L, .int y :: .int x :: st, n, M) Q = (if x ≤ y then am_AW d 1 (48, L, st, n, M) Q else am_AW d 1 (40, L, st, n, M) Q) := (am_AW_icmp rfl).trans am_ite_le
theorem w1_48 {a1 a2 a3 a4 a5 a6 : Value} {x : Nat} {st : List Value} : am_AW d 1 (48, [.ref x, a1, a2, a3, a4, a5, a6], st, n, M) Q = (am_AW d 1 (49, [.ref x, a1, a2, a3, a4, a5, a6], .ref x :: st, n, M) Q) := am_AW_go rfl rfl rfl rfl
theorem w1_49 {a0 a2 a3 a4 a5 a6 : Value} {x : Int32} {st : List Value} : am_AW d 1 (49, [a0, .int x, a2, a3, a4, a5, a6], st, n, M) Q = (am_AW d 1 (50, [a0, .int x, a2, a3, a4, a5, a6], .int x :: st, n, M) Q) := am_AW_go rfl rfl rfl rfl
theorem w1_50 {L st : List Value} {v0 v1 : Value} : am_AW d 1 (50, L, v0 :: v1 :: st, n, M) Q = (am_okA 2 (v0 :: v1 :: st) = true ∧ am_isO M [v1, v0] 9 = true ∧ am_Do d 11 [v1, v0] n M (am_then d 1 53 0 L st n Q)) := am_AW_cv (i := 91) (x := 11) (y := 902) (z := 0) rfl
theorem w1_53 {a1 a2 a3 a4 a5 a6 : Value} {x : Nat} {st : List Value} : am_AW d 1 (53, [.ref x, a1, a2, a3, a4, a5, a6], st, n, M) Q = (am_AW d 1 (54, [.ref x, a1, a2, a3, a4, a5, a6], .ref x :: st, n, M) Q) := am_AW_go rfl rfl rfl rfl
theorem w1_54 {a0 a1 a3 a4 a5 a6 : Value} {x : Int32} {st : List Value} : am_AW d 1 (54, [a0, a1, .int x, a3, a4, a5, a6], st, n, M) Q = (am_AW d 1 (55, [a0, a1, .int x, a3, a4, a5, a6], .int x :: st, n, M) Q) := am_AW_go rfl rfl rfl rfl
theorem w1_55 {L st : List Value} {v0 v1 : Value} : am_AW d 1 (55, L, v0 :: v1 :: st, n, M) Q = (am_okA 2 (v0 :: v1 :: st) = true ∧ am_isO M [v1, v0] 9 = true ∧ am_Do d 11 [v1, v0] n M (am_then d 1 58 0 L st n Q)) := am_AW_cv (i := 91) (x := 11) (y := 902) (z := 0) rfl
theorem w1_58 {a1 a2 a3 a4 a5 a6 : Value} {x : Nat} {st : List Value} : am_AW d 1 (58, [.ref x, a1, a2, a3, a4, a5, a6], st, n, M) Q = (am_AW d 1 (59, [.ref x, a1, a2, a3, a4, a5, a6], .ref x :: st, n, M) Q) := am_AW_go rfl rfl rfl rfl
theorem w1_59 {a0 a1 a2 a4 a5 a6 : Value} {x : Int32} {st : List Value} : am_AW d 1 (59, [a0, a1, a2, .int x, a4, a5, a6], st, n, M) Q = (am_AW d 1 (60, [a0, a1, a2, .int x, a4, a5, a6], .int x :: st, n, M) Q) := am_AW_go rfl rfl rfl rfl
theorem w1_60 {L st : List Value} {v0 v1 : Value} : am_AW d 1 (60, L, v0 :: v1 :: st, n, M) Q = (am_okA 2 (v0 :: v1 :: st) = true ∧ am_isO M [v1, v0] 9 = true ∧ am_Do d 11 [v1, v0] n M (am_then d 1 63 0 L st n Q)) := am_AW_cv (i := 91) (x := 11) (y := 902) (z := 0) rfl
theorem w1_63 {a1 a2 a3 a4 a5 a6 : Value} {x : Nat} {st : List Value} : am_AW d 1 (63, [.ref x, a1, a2, a3, a4, a5, a6], st, n, M) Q = (am_AW d 1 (64, [.ref x, a1, a2, a3, a4, a5, a6], .ref x :: st, n, M) Q) := am_AW_go rfl rfl rfl rfl
theorem w1_64 {a0 a1 a2 a3 a5 a6 : Value} {x : Int32} {st : List Value} : am_AW d 1 (64, [a0, a1, a2, a3, .int x, a5, a6], st, n, M) Q = (am_AW d 1 (66, [a0, a1, a2, a3, .int x, a5, a6], .int x :: st, n, M) Q) := am_AW_go rfl rfl rfl rfl
theorem w1_66 {L st : List Value} {v0 v1 : Value} : am_AW d 1 (66, L, v0 :: v1 :: st, n, M) Q = (am_okA 2 (v0 :: v1 :: st) = true ∧ am_isO M [v1, v0] 9 = true ∧ am_Do d 11 [v1, v0] n M (am_then d 1 69 0 L st n Q)) := am_AW_cv (i := 91) (x := 11) (y := 902) (z := 0) rfl
theorem w1_69 {a1 a2 a3 a4 a5 a6 : Value} {x : Nat} {st : List Value} : am_AW d 1 (69, [.ref x, a1, a2, a3, a4, a5, a6], st, n, M) Q = (am_AW d 1 (70, [.ref x, a1, a2, a3, a4, a5, a6], .ref x :: st, n, M) Q) := am_AW_go rfl rfl rfl rfl
theorem w1_70 {a0 a1 a2 a3 a4 a6 : Value} {x : Int32} {st : List Value} : am_AW d 1 (70, [a0, a1, a2, a3, a4, .int x, a6], st, n, M) Q = (am_AW d 1 (72, [a0, a1, a2, a3, a4, .int x, a6], .int x :: st, n, M) Q) := am_AW_go rfl rfl rfl rfl
theorem w1_72 {L st : List Value} {v0 v1 : Value} : am_AW d 1 (72, L, v0 :: v1 :: st, n, M) Q = (am_okA 2 (v0 :: v1 :: st) = true ∧ am_isO M [v1, v0] 9 = true ∧ am_Do d 11 [v1, v0] n M (am_then d 1 75 0 L st n Q)) := am_AW_cv (i := 91) (x := 11) (y := 902) (z := 0) rfl
theorem w1_75 {a1 a2 a3 a4 a5 a6 : Value} {x : Nat} {st : List Value} : am_AW d 1 (75, [.ref x, a1, a2, a3, a4, a5, a6], st, n, M) Q = (am_AW d 1 (76, [.ref x, a1, a2, a3, a4, a5, a6], .ref x :: st, n, M) Q) := am_AW_go rfl rfl rfl rfl
theorem w1_76 {L st : List Value} {h : Nat} : am_AW d 1 (76, L, .ref h :: st, n, M) Q = (∃ v, am_fld M h 9 1 = some v ∧ am_AW d 1 (79, L, v :: st, n, M) Q) := am_AW_op (o := am_fld M h 9 1) (f := fun v => (79, L, v :: st, n, M)) rfl rfl (am_bm _ _) (fun _ => rfl)
theorem w1_79 {L : List Value} {x : Int32} : am_AW d 1 (79, L, [.int x], n, M) Q = (Q (some (.int x)) n M) := am_AW_ret (rv := (some (.int x), n)) rfl rfl rfl (am_mono_self n)
end W1
section W2
variable {d : Nat} {n : am_N} {M : am_M} {Q : Option Value → am_N → am_M → Prop}
theorem w2_0 {a1 : Value} {x : Nat} {st : List Value} : am_AW d 2 (0, [.ref x, a1], st, n, M) Q = (am_AW d 2 (1, [.ref x, a1], .ref x :: st, n, M) Q) := am_AW_go rfl rfl rfl rfl
theorem w2_1 {L st : List Value} {h : Nat} : am_AW d 2 (1, L, .ref h :: st, n, M) Q = (∃ v, am_fld M h 9 1 = some v ∧ am_AW d 2 (4, L, v :: st, n, M) Q) := am_AW_op (o := am_fld M h 9 1) (f := fun v => (4, L, v :: st, n, M)) rfl rfl (am_bm _ _) (fun _ => rfl)
theorem w2_4 {a0 a1 : Value} {x : Int32} {st : List Value} : am_AW d 2 (4, [a0, a1], .int x :: st, n, M) Q = (am_AW d 2 (5, [a0, .int x], st, n, M) Q) := am_AW_go rfl rfl rfl rfl
theorem w2_5 {a1 : Value} {x : Nat} {st : List Value} : am_AW d 2 (5, [.ref x, a1], st, n, M) Q = (am_AW d 2 (6, [.ref x, a1], .ref x :: st, n, M) Q) := am_AW_go rfl rfl rfl rfl
theorem w2_6 {L st : List Value} : am_AW d 2 (6, L, st, n, M) Q = (am_AW d 2 (7, L, .int (am_z 0) :: st, n, M) Q) := am_AW_go rfl rfl rfl rfl
theorem w2_7 {L st : List Value} {h : Nat} {v : Value} : am_AW d 2 (7, L, v :: .ref h :: st, n, M) Q = (am_fit 0 v = true ∧ ∃ M', am_setf M h 9 1 v = some M' ∧ am_AW d 2 (10, L, st, n, M') Q) := am_AW_put rfl
theorem w2_10 {a0 : Value} {x : Int32} {st : List Value} : am_AW d 2 (10, [a0, .int x], st, n, M) Q = (am_AW d 2 (11, [a0, .int x], .int x :: st, n, M) Q) := am_AW_go rfl rfl rfl rfl
theorem w2_11 {L : List Value} {x : Int32} : am_AW d 2 (11, L, [.int x], n, M) Q = (Q (some (.int x)) n M) := am_AW_ret (rv := (some (.int x), n)) rfl rfl rfl (am_mono_self n)
end W2
section W3
variable {d : Nat} {n : am_N} {M : am_M} {Q : Option Value → am_N → am_M → Prop}
theorem w3_0 {a0 : Value} {x : Int32} {st : List Value} : am_AW d 3 (0, [a0, .int x], st, n, M) Q = (am_AW d 3 (1, [a0, .int x], .int x :: st, n, M) Q) := am_AW_go rfl rfl rfl rfl
theorem w3_1 {L st : List Value} {x : Int32} : am_AW d 3 (1, L, .int x :: st, n, M) Q = (if x < am_z 0 then am_AW d 3 (10, L, st, n, M) Q else am_AW d 3 (4, L, st, n, M) Q) := (am_AW_ifz rfl).trans am_ite_lt
theorem w3_4 {a0 : Value} {x : Int32} {st : List Value} : am_AW d 3 (4, [a0, .int x], st, n, M) Q = (am_AW d 3 (5, [a0, .int x], .int x :: st, n, M) Q) := am_AW_go rfl rfl rfl rfl
theorem w3_5 {L st : List Value} : am_AW d 3 (5, L, st, n, M) Q = (am_AW d 3 (7, L, .int (am_z 8) :: st, n, M) Q) := am_AW_go rfl rfl rfl rfl
theorem w3_7 {L st : List Value} {x y : Int32} : am_AW d 3 (7, L, .int y :: .int x :: st, n, M) Q = (if x < y then am_AW d 3 (18, L, st, n, M) Q else am_AW d 3 (10, L, st, n, M) Q) := (am_AW_icmp rfl).trans am_ite_lt
theorem w3_18 {a1 : Value} {x : Nat} {st : List Value} : am_AW d 3 (18, [.ref x, a1], st, n, M) Q = (am_AW d 3 (19, [.ref x, a1], .ref x :: st, n, M) Q) := am_AW_go rfl rfl rfl rfl
theorem w3_19 {L st : List Value} {h : Nat} : am_AW d 3 (19, L, .ref h :: st, n, M) Q = (∃ v, am_fld M h 9 2 = some v ∧ am_AW d 3 (22, L, v :: st, n, M) Q) := am_AW_op (o := am_fld M h 9 2) (f := fun v => (22, L, v :: st, n, M)) rfl rfl (am_bm _ _) (fun _ => rfl)
theorem w3_22 {L st : List Value} {v0 : Value} : am_AW d 3 (22, L, v0 :: st, n, M) Q = (am_okA 1 (v0 :: st) = true ∧ am_isO M [v0] 2 = true ∧ am_Do d 76 [v0] n M (am_then d 3 25 0 L st n Q)) := am_AW_cv (i := 97) (x := 76) (y := 201) (z := 0) rfl
theorem w3_25 {a1 : Value} {x : Nat} {st : List Value} : am_AW d 3 (25, [.ref x, a1], st, n, M) Q = (am_AW d 3 (26, [.ref x, a1], .ref x :: st, n, M) Q) := am_AW_go rfl rfl rfl rfl
theorem w3_26 {L st : List Value} {h : Nat} : am_AW d 3 (26, L, .ref h :: st, n, M) Q = (∃ v, am_fld M h 9 4 = some v ∧ am_AW d 3 (29, L, v :: st, n, M) Q) := am_AW_op (o := am_fld M h 9 4) (f := fun v => (29, L, v :: st, n, M)) rfl rfl (am_bm _ _) (fun _ => rfl)
theorem w3_29 {a0 : Value} {x : Int32} {st : List Value} : am_AW d 3 (29, [a0, .int x], st, n, M) Q = (am_AW d 3 (30, [a0, .int x], .int x :: st, n, M) Q) := am_AW_go rfl rfl rfl rfl
theorem w3_30 {L st : List Value} {v0 v1 : Value} : am_AW d 3 (30, L, v0 :: v1 :: st, n, M) Q = (am_okA 2 (v0 :: v1 :: st) = true ∧ am_isO M [v1, v0] 3 = true ∧ am_Do d 79 [v1, v0] n M (am_then d 3 33 0 L st n Q)) := am_AW_cv (i := 100) (x := 79) (y := 302) (z := 0) rfl
theorem w3_33 {L st : List Value} {x : Int32} : am_AW d 3 (33, L, .int x :: st, n, M) Q = (if x = am_z 0 then am_AW d 3 (39, L, st, n, M) Q else am_AW d 3 (36, L, st, n, M) Q) := (am_AW_ifz rfl).trans am_ite_eq
theorem w3_36 {L st : List Value} : am_AW d 3 (36, L, st, n, M) Q = (am_AW d 3 (38, L, .int (am_z (-8)) :: st, n, M) Q) := am_AW_go rfl rfl rfl rfl
theorem w3_38 {L : List Value} {x : Int32} : am_AW d 3 (38, L, [.int x], n, M) Q = (Q (some (.int x)) n M) := am_AW_ret (rv := (some (.int x), n)) rfl rfl rfl (am_mono_self n)
theorem w3_39 {a1 : Value} {x : Nat} {st : List Value} : am_AW d 3 (39, [.ref x, a1], st, n, M) Q = (am_AW d 3 (40, [.ref x, a1], .ref x :: st, n, M) Q) := am_AW_go rfl rfl rfl rfl
theorem w3_40 {L st : List Value} {h : Nat} : am_AW d 3 (40, L, .ref h :: st, n, M) Q = (∃ v, am_fld M h 9 7 = some v ∧ am_AW d 3 (43, L, v :: st, n, M) Q) := am_AW_op (o := am_fld M h 9 7) (f := fun v => (43, L, v :: st, n, M)) rfl rfl (am_bm _ _) (fun _ => rfl)
theorem w3_43 {a1 : Value} {x : Nat} {st : List Value} : am_AW d 3 (43, [.ref x, a1], st, n, M) Q = (am_AW d 3 (44, [.ref x, a1], .ref x :: st, n, M) Q) := am_AW_go rfl rfl rfl rfl
theorem w3_44 {L st : List Value} {h : Nat} : am_AW d 3 (44, L, .ref h :: st, n, M) Q = (∃ v, am_fld M h 9 0 = some v ∧ am_AW d 3 (47, L, v :: st, n, M) Q) := am_AW_op (o := am_fld M h 9 0) (f := fun v => (47, L, v :: st, n, M)) rfl rfl (am_bm _ _) (fun _ => rfl)
theorem w3_47 {a1 : Value} {x : Nat} {st : List Value} : am_AW d 3 (47, [.ref x, a1], st, n, M) Q = (am_AW d 3 (48, [.ref x, a1], .ref x :: st, n, M) Q) := am_AW_go rfl rfl rfl rfl
theorem w3_48 {L st : List Value} {h : Nat} : am_AW d 3 (48, L, .ref h :: st, n, M) Q = (∃ v, am_fld M h 9 1 = some v ∧ am_AW d 3 (51, L, v :: st, n, M) Q) := am_AW_op (o := am_fld M h 9 1) (f := fun v => (51, L, v :: st, n, M)) rfl rfl (am_bm _ _) (fun _ => rfl)
theorem w3_51 {L st : List Value} {v0 v1 v2 : Value} : am_AW d 3 (51, L, v0 :: v1 :: v2 :: st, n, M) Q = (am_okA 3 (v0 :: v1 :: v2 :: st) = true ∧ am_isO M [v2, v1, v0] 7 = true ∧ am_Do d 120 [v2, v1, v0] n M (am_then d 3 54 0 L st n Q)) := am_AW_cv (i := 104) (x := 120) (y := 703) (z := 0) rfl
theorem w3_54 {L st : List Value} {x : Int32} : am_AW d 3 (54, L, .int x :: st, n, M) Q = (if x = am_z 0 then am_AW d 3 (57, L, st, n, M) Q else am_AW d 3 (65, L, st, n, M) Q) := (am_AW_ifz rfl).trans am_ite_ne
theorem w3_57 {a1 : Value} {x : Nat} {st : List Value} : am_AW d 3 (57, [.ref x, a1], st, n, M) Q = (am_AW d 3 (58, [.ref x, a1], .ref x :: st, n, M) Q) := am_AW_go rfl rfl rfl rfl
theorem w3_58 {L st : List Value} {h : Nat} : am_AW d 3 (58, L, .ref h :: st, n, M) Q = (∃ v, am_fld M h 9 2 = some v ∧ am_AW d 3 (61, L, v :: st, n, M) Q) := am_AW_op (o := am_fld M h 9 2) (f := fun v => (61, L, v :: st, n, M)) rfl rfl (am_bm _ _) (fun _ => rfl)
theorem w3_61 {L st : List Value} {h : Nat} : am_AW d 3 (61, L, .ref h :: st, n, M) Q = (∃ v, am_fld M h 2 0 = some v ∧ am_AW d 3 (64, L, v :: st, n, M) Q) := am_AW_op (o := am_fld M h 2 0) (f := fun v => (64, L, v :: st, n, M)) rfl rfl (am_bm _ _) (fun _ => rfl)
theorem w3_64 {L : List Value} {x : Int32} : am_AW d 3 (64, L, [.int x], n, M) Q = (Q (some (.int x)) n M) := am_AW_ret (rv := (some (.int x), n)) rfl rfl rfl (am_mono_self n)
theorem w3_65 {a1 : Value} {x : Nat} {st : List Value} : am_AW d 3 (65, [.ref x, a1], st, n, M) Q = (am_AW d 3 (66, [.ref x, a1], .ref x :: st, n, M) Q) := am_AW_go rfl rfl rfl rfl
theorem w3_66 {a1 : Value} {x : Nat} {st : List Value} : am_AW d 3 (66, [.ref x, a1], st, n, M) Q = (am_AW d 3 (67, [.ref x, a1], .ref x :: st, n, M) Q) := am_AW_go rfl rfl rfl rfl
theorem w3_67 {L st : List Value} {h : Nat} : am_AW d 3 (67, L, .ref h :: st, n, M) Q = (∃ v, am_fld M h 9 9 = some v ∧ am_AW d 3 (70, L, v :: st, n, M) Q) := am_AW_op (o := am_fld M h 9 9) (f := fun v => (70, L, v :: st, n, M)) rfl rfl (am_bm _ _) (fun _ => rfl)
theorem w3_70 {L st : List Value} {v0 v1 : Value} : am_AW d 3 (70, L, v0 :: v1 :: st, n, M) Q = (am_okA 2 (v0 :: v1 :: st) = true ∧ am_isO M [v1, v0] 9 = true ∧ am_Do d 12 [v1, v0] n M (am_then d 3 73 0 L st n Q)) := am_AW_cv (i := 111) (x := 12) (y := 902) (z := 0) rfl
theorem w3_73 {a1 : Value} {x : Nat} {st : List Value} : am_AW d 3 (73, [.ref x, a1], st, n, M) Q = (am_AW d 3 (74, [.ref x, a1], .ref x :: st, n, M) Q) := am_AW_go rfl rfl rfl rfl
theorem w3_74 {L st : List Value} {h : Nat} : am_AW d 3 (74, L, .ref h :: st, n, M) Q = (∃ v, am_fld M h 9 4 = some v ∧ am_AW d 3 (77, L, v :: st, n, M) Q) := am_AW_op (o := am_fld M h 9 4) (f := fun v => (77, L, v :: st, n, M)) rfl rfl (am_bm _ _) (fun _ => rfl)
theorem w3_77 {a0 : Value} {x : Int32} {st : List Value} : am_AW d 3 (77, [a0, .int x], st, n, M) Q = (am_AW d 3 (78, [a0, .int x], .int x :: st, n, M) Q) := am_AW_go rfl rfl rfl rfl
theorem w3_78 {a1 : Value} {x : Nat} {st : List Value} : am_AW d 3 (78, [.ref x, a1], st, n, M) Q = (am_AW d 3 (79, [.ref x, a1], .ref x :: st, n, M) Q) := am_AW_go rfl rfl rfl rfl
theorem w3_79 {L st : List Value} {h : Nat} : am_AW d 3 (79, L, .ref h :: st, n, M) Q = (∃ v, am_fld M h 9 9 = some v ∧ am_AW d 3 (82, L, v :: st, n, M) Q) := am_AW_op (o := am_fld M h 9 9) (f := fun v => (82, L, v :: st, n, M)) rfl rfl (am_bm _ _) (fun _ => rfl)
theorem w3_82 {a1 : Value} {x : Nat} {st : List Value} : am_AW d 3 (82, [.ref x, a1], st, n, M) Q = (am_AW d 3 (83, [.ref x, a1], .ref x :: st, n, M) Q) := am_AW_go rfl rfl rfl rfl
theorem w3_83 {L st : List Value} {h : Nat} : am_AW d 3 (83, L, .ref h :: st, n, M) Q = (∃ v, am_fld M h 9 7 = some v ∧ am_AW d 3 (86, L, v :: st, n, M) Q) := am_AW_op (o := am_fld M h 9 7) (f := fun v => (86, L, v :: st, n, M)) rfl rfl (am_bm _ _) (fun _ => rfl)
theorem w3_86 {L st : List Value} {v0 : Value} : am_AW d 3 (86, L, v0 :: st, n, M) Q = (am_okA 1 (v0 :: st) = true ∧ am_isO M [v0] 7 = true ∧ am_Do d 121 [v0] n M (am_then d 3 89 0 L st n Q)) := am_AW_cv (i := 115) (x := 121) (y := 701) (z := 0) rfl
theorem w3_89 {L st : List Value} {v0 v1 v2 v3 : Value} : am_AW d 3 (89, L, v0 :: v1 :: v2 :: v3 :: st, n, M) Q = (am_okA 4 (v0 :: v1 :: v2 :: v3 :: st) = true ∧ am_isO M [v3, v2, v1, v0] 3 = true ∧ am_Do d 80 [v3, v2, v1, v0] n M (am_then d 3 92 0 L st n Q)) := am_AW_cv (i := 119) (x := 80) (y := 304) (z := 0) rfl
theorem w3_92 {L st : List Value} : am_AW d 3 (92, L, st, n, M) Q = (am_AW d 3 (93, L, .int (am_z 0) :: st, n, M) Q) := am_AW_go rfl rfl rfl rfl
theorem w3_93 {L : List Value} {x : Int32} : am_AW d 3 (93, L, [.int x], n, M) Q = (Q (some (.int x)) n M) := am_AW_ret (rv := (some (.int x), n)) rfl rfl rfl (am_mono_self n)
end W3
section W4
variable {d : Nat} {n : am_N} {M : am_M} {Q : Option Value → am_N → am_M → Prop}
theorem w4_0 {x : Nat} {st : List Value} : am_AW d 4 (0, [.ref x], st, n, M) Q = (am_AW d 4 (1, [.ref x], .ref x :: st, n, M) Q) := am_AW_go rfl rfl rfl rfl
theorem w4_1 {L st : List Value} {h : Nat} : am_AW d 4 (1, L, .ref h :: st, n, M) Q = (∃ v, am_fld M h 9 2 = some v ∧ am_AW d 4 (4, L, v :: st, n, M) Q) := am_AW_op (o := am_fld M h 9 2) (f := fun v => (4, L, v :: st, n, M)) rfl rfl (am_bm _ _) (fun _ => rfl)
theorem w4_4 {L st : List Value} {v0 : Value} : am_AW d 4 (4, L, v0 :: st, n, M) Q = (am_okA 1 (v0 :: st) = true ∧ am_isO M [v0] 2 = true ∧ am_Do d 76 [v0] n M (am_then d 4 7 0 L st n Q)) := am_AW_cv (i := 97) (x := 76) (y := 201) (z := 0) rfl
theorem w4_7 {x : Nat} {st : List Value} : am_AW d 4 (7, [.ref x], st, n, M) Q = (am_AW d 4 (8, [.ref x], .ref x :: st, n, M) Q) := am_AW_go rfl rfl rfl rfl
theorem w4_8 {L st : List Value} {h : Nat} : am_AW d 4 (8, L, .ref h :: st, n, M) Q = (∃ v, am_fld M h 9 7 = some v ∧ am_AW d 4 (11, L, v :: st, n, M) Q) := am_AW_op (o := am_fld M h 9 7) (f := fun v => (11, L, v :: st, n, M)) rfl rfl (am_bm _ _) (fun _ => rfl)
theorem w4_11 {x : Nat} {st : List Value} : am_AW d 4 (11, [.ref x], st, n, M) Q = (am_AW d 4 (12, [.ref x], .ref x :: st, n, M) Q) := am_AW_go rfl rfl rfl rfl
theorem w4_12 {L st : List Value} {h : Nat} : am_AW d 4 (12, L, .ref h :: st, n, M) Q = (∃ v, am_fld M h 9 0 = some v ∧ am_AW d 4 (15, L, v :: st, n, M) Q) := am_AW_op (o := am_fld M h 9 0) (f := fun v => (15, L, v :: st, n, M)) rfl rfl (am_bm _ _) (fun _ => rfl)
theorem w4_15 {x : Nat} {st : List Value} : am_AW d 4 (15, [.ref x], st, n, M) Q = (am_AW d 4 (16, [.ref x], .ref x :: st, n, M) Q) := am_AW_go rfl rfl rfl rfl
theorem w4_16 {L st : List Value} {h : Nat} : am_AW d 4 (16, L, .ref h :: st, n, M) Q = (∃ v, am_fld M h 9 1 = some v ∧ am_AW d 4 (19, L, v :: st, n, M) Q) := am_AW_op (o := am_fld M h 9 1) (f := fun v => (19, L, v :: st, n, M)) rfl rfl (am_bm _ _) (fun _ => rfl)
theorem w4_19 {L st : List Value} {v0 v1 v2 : Value} : am_AW d 4 (19, L, v0 :: v1 :: v2 :: st, n, M) Q = (am_okA 3 (v0 :: v1 :: v2 :: st) = true ∧ am_isO M [v2, v1, v0] 7 = true ∧ am_Do d 120 [v2, v1, v0] n M (am_then d 4 22 0 L st n Q)) := am_AW_cv (i := 104) (x := 120) (y := 703) (z := 0) rfl
theorem w4_22 {L st : List Value} {x : Int32} : am_AW d 4 (22, L, .int x :: st, n, M) Q = (if x = am_z 0 then am_AW d 4 (25, L, st, n, M) Q else am_AW d 4 (33, L, st, n, M) Q) := (am_AW_ifz rfl).trans am_ite_ne
theorem w4_25 {x : Nat} {st : List Value} : am_AW d 4 (25, [.ref x], st, n, M) Q = (am_AW d 4 (26, [.ref x], .ref x :: st, n, M) Q) := am_AW_go rfl rfl rfl rfl
theorem w4_26 {L st : List Value} {h : Nat} : am_AW d 4 (26, L, .ref h :: st, n, M) Q = (∃ v, am_fld M h 9 2 = some v ∧ am_AW d 4 (29, L, v :: st, n, M) Q) := am_AW_op (o := am_fld M h 9 2) (f := fun v => (29, L, v :: st, n, M)) rfl rfl (am_bm _ _) (fun _ => rfl)
theorem w4_29 {L st : List Value} {h : Nat} : am_AW d 4 (29, L, .ref h :: st, n, M) Q = (∃ v, am_fld M h 2 0 = some v ∧ am_AW d 4 (32, L, v :: st, n, M) Q) := am_AW_op (o := am_fld M h 2 0) (f := fun v => (32, L, v :: st, n, M)) rfl rfl (am_bm _ _) (fun _ => rfl)
theorem w4_32 {L : List Value} {x : Int32} : am_AW d 4 (32, L, [.int x], n, M) Q = (Q (some (.int x)) n M) := am_AW_ret (rv := (some (.int x), n)) rfl rfl rfl (am_mono_self n)
theorem w4_33 {x : Nat} {st : List Value} : am_AW d 4 (33, [.ref x], st, n, M) Q = (am_AW d 4 (34, [.ref x], .ref x :: st, n, M) Q) := am_AW_go rfl rfl rfl rfl
theorem w4_34 {L st : List Value} {h : Nat} : am_AW d 4 (34, L, .ref h :: st, n, M) Q = (∃ v, am_fld M h 9 6 = some v ∧ am_AW d 4 (37, L, v :: st, n, M) Q) := am_AW_op (o := am_fld M h 9 6) (f := fun v => (37, L, v :: st, n, M)) rfl rfl (am_bm _ _) (fun _ => rfl)
theorem w4_37 {x : Nat} {st : List Value} : am_AW d 4 (37, [.ref x], st, n, M) Q = (am_AW d 4 (38, [.ref x], .ref x :: st, n, M) Q) := am_AW_go rfl rfl rfl rfl
theorem w4_38 {L st : List Value} {h : Nat} : am_AW d 4 (38, L, .ref h :: st, n, M) Q = (∃ v, am_fld M h 9 7 = some v ∧ am_AW d 4 (41, L, v :: st, n, M) Q) := am_AW_op (o := am_fld M h 9 7) (f := fun v => (41, L, v :: st, n, M)) rfl rfl (am_bm _ _) (fun _ => rfl)
theorem w4_41 {L st : List Value} {v0 : Value} : am_AW d 4 (41, L, v0 :: st, n, M) Q = (am_okA 1 (v0 :: st) = true ∧ am_isO M [v0] 7 = true ∧ am_Do d 121 [v0] n M (am_then d 4 44 0 L st n Q)) := am_AW_cv (i := 115) (x := 121) (y := 701) (z := 0) rfl
theorem w4_44 {L st : List Value} {v0 v1 : Value} : am_AW d 4 (44, L, v0 :: v1 :: st, n, M) Q = (am_okA 2 (v0 :: v1 :: st) = true ∧ am_isO M [v1, v0] 6 = true ∧ am_Do d 102 [v1, v0] n M (am_then d 4 47 0 L st n Q)) := am_AW_cv (i := 123) (x := 102) (y := 602) (z := 0) rfl
theorem w4_47 {L st : List Value} : am_AW d 4 (47, L, st, n, M) Q = (am_AW d 4 (49, L, .int (am_z (-7)) :: st, n, M) Q) := am_AW_go rfl rfl rfl rfl
theorem w4_49 {L st : List Value} {x y : Int32} : am_AW d 4 (49, L, .int y :: .int x :: st, n, M) Q = (if x = y then am_AW d 4 (52, L, st, n, M) Q else am_AW d 4 (66, L, st, n, M) Q) := (am_AW_icmp rfl).trans am_ite_ne
theorem w4_52 {x : Nat} {st : List Value} : am_AW d 4 (52, [.ref x], st, n, M) Q = (am_AW d 4 (53, [.ref x], .ref x :: st, n, M) Q) := am_AW_go rfl rfl rfl rfl
theorem w4_53 {L st : List Value} {h : Nat} : am_AW d 4 (53, L, .ref h :: st, n, M) Q = (∃ v, am_fld M h 9 2 = some v ∧ am_AW d 4 (56, L, v :: st, n, M) Q) := am_AW_op (o := am_fld M h 9 2) (f := fun v => (56, L, v :: st, n, M)) rfl rfl (am_bm _ _) (fun _ => rfl)
theorem w4_56 {L st : List Value} : am_AW d 4 (56, L, st, n, M) Q = (am_AW d 4 (58, L, .int (am_z (-7)) :: st, n, M) Q) := am_AW_go rfl rfl rfl rfl
theorem w4_58 {L st : List Value} : am_AW d 4 (58, L, st, n, M) Q = (am_AW d 4 (59, L, .int (am_z 0) :: st, n, M) Q) := am_AW_go rfl rfl rfl rfl
theorem w4_59 {L st : List Value} {v0 v1 v2 : Value} : am_AW d 4 (59, L, v0 :: v1 :: v2 :: st, n, M) Q = (am_okA 3 (v0 :: v1 :: v2 :: st) = true ∧ am_isO M [v2, v1, v0] 2 = true ∧ am_Do d 77 [v2, v1, v0] n M (am_then d 4 62 0 L st n Q)) := am_AW_cv (i := 127) (x := 77) (y := 203) (z := 0) rfl
theorem w4_62 {L st : List Value} {x : Int32} : am_AW d 4 (62, L, .int x :: st, n, M) Q = (am_AW d 4 (63, L, st, n, M) Q) := am_AW_go rfl rfl rfl rfl
theorem w4_63 {L st : List Value} : am_AW d 4 (63, L, st, n, M) Q = (am_AW d 4 (65, L, .int (am_z (-7)) :: st, n, M) Q) := am_AW_go rfl rfl rfl rfl
theorem w4_65 {L : List Value} {x : Int32} : am_AW d 4 (65, L, [.int x], n, M) Q = (Q (some (.int x)) n M) := am_AW_ret (rv := (some (.int x), n)) rfl rfl rfl (am_mono_self n)
theorem w4_66 {x : Nat} {st : List Value} : am_AW d 4 (66, [.ref x], st, n, M) Q = (am_AW d 4 (67, [.ref x], .ref x :: st, n, M) Q) := am_AW_go rfl rfl rfl rfl
theorem w4_67 {L st : List Value} {h : Nat} : am_AW d 4 (67, L, .ref h :: st, n, M) Q = (∃ v, am_fld M h 9 8 = some v ∧ am_AW d 4 (70, L, v :: st, n, M) Q) := am_AW_op (o := am_fld M h 9 8) (f := fun v => (70, L, v :: st, n, M)) rfl rfl (am_bm _ _) (fun _ => rfl)
theorem w4_70 {x : Nat} {st : List Value} : am_AW d 4 (70, [.ref x], st, n, M) Q = (am_AW d 4 (71, [.ref x], .ref x :: st, n, M) Q) := am_AW_go rfl rfl rfl rfl
theorem w4_71 {L st : List Value} {h : Nat} : am_AW d 4 (71, L, .ref h :: st, n, M) Q = (∃ v, am_fld M h 9 7 = some v ∧ am_AW d 4 (74, L, v :: st, n, M) Q) := am_AW_op (o := am_fld M h 9 7) (f := fun v => (74, L, v :: st, n, M)) rfl rfl (am_bm _ _) (fun _ => rfl)
theorem w4_74 {L st : List Value} {v0 : Value} : am_AW d 4 (74, L, v0 :: st, n, M) Q = (am_okA 1 (v0 :: st) = true ∧ am_isO M [v0] 7 = true ∧ am_Do d 121 [v0] n M (am_then d 4 77 0 L st n Q)) := am_AW_cv (i := 115) (x := 121) (y := 701) (z := 0) rfl
theorem w4_77 {L st : List Value} {v0 v1 : Value} : am_AW d 4 (77, L, v0 :: v1 :: st, n, M) Q = (am_okA 2 (v0 :: v1 :: st) = true ∧ am_isO M [v1, v0] 8 = true ∧ am_Do d 137 [v1, v0] n M (am_then d 4 80 0 L st n Q)) := am_AW_cv (i := 130) (x := 137) (y := 802) (z := 0) rfl
theorem w4_80 {x : Nat} {st : List Value} : am_AW d 4 (80, [.ref x], st, n, M) Q = (am_AW d 4 (81, [.ref x], .ref x :: st, n, M) Q) := am_AW_go rfl rfl rfl rfl
theorem w4_81 {L st : List Value} {h : Nat} : am_AW d 4 (81, L, .ref h :: st, n, M) Q = (∃ v, am_fld M h 9 8 = some v ∧ am_AW d 4 (84, L, v :: st, n, M) Q) := am_AW_op (o := am_fld M h 9 8) (f := fun v => (84, L, v :: st, n, M)) rfl rfl (am_bm _ _) (fun _ => rfl)
theorem w4_84 {L st : List Value} {h : Nat} : am_AW d 4 (84, L, .ref h :: st, n, M) Q = (∃ v, am_fld M h 8 1 = some v ∧ am_AW d 4 (87, L, v :: st, n, M) Q) := am_AW_op (o := am_fld M h 8 1) (f := fun v => (87, L, v :: st, n, M)) rfl rfl (am_bm _ _) (fun _ => rfl)
theorem w4_87 {L : List Value} {x : Int32} : am_AW d 4 (87, L, [.int x], n, M) Q = (Q (some (.int x)) n M) := am_AW_ret (rv := (some (.int x), n)) rfl rfl rfl (am_mono_self n)
end W4
section W5
variable {d : Nat} {n : am_N} {M : am_M} {Q : Option Value → am_N → am_M → Prop}
theorem w5_0 {a1 : Value} {x : Nat} {st : List Value} : am_AW d 5 (0, [.ref x, a1], st, n, M) Q = (am_AW d 5 (1, [.ref x, a1], .ref x :: st, n, M) Q) := am_AW_go rfl rfl rfl rfl
theorem w5_1 {L st : List Value} {h : Nat} : am_AW d 5 (1, L, .ref h :: st, n, M) Q = (∃ v, am_fld M h 9 2 = some v ∧ am_AW d 5 (4, L, v :: st, n, M) Q) := am_AW_op (o := am_fld M h 9 2) (f := fun v => (4, L, v :: st, n, M)) rfl rfl (am_bm _ _) (fun _ => rfl)
theorem w5_4 {L st : List Value} {v0 : Value} : am_AW d 5 (4, L, v0 :: st, n, M) Q = (am_okA 1 (v0 :: st) = true ∧ am_isO M [v0] 2 = true ∧ am_Do d 76 [v0] n M (am_then d 5 7 0 L st n Q)) := am_AW_cv (i := 97) (x := 76) (y := 201) (z := 0) rfl
theorem w5_7 {a1 : Value} {x : Nat} {st : List Value} : am_AW d 5 (7, [.ref x, a1], st, n, M) Q = (am_AW d 5 (8, [.ref x, a1], .ref x :: st, n, M) Q) := am_AW_go rfl rfl rfl rfl
theorem w5_8 {L st : List Value} {h : Nat} : am_AW d 5 (8, L, .ref h :: st, n, M) Q = (∃ v, am_fld M h 9 7 = some v ∧ am_AW d 5 (11, L, v :: st, n, M) Q) := am_AW_op (o := am_fld M h 9 7) (f := fun v => (11, L, v :: st, n, M)) rfl rfl (am_bm _ _) (fun _ => rfl)
theorem w5_11 {a1 : Value} {x : Nat} {st : List Value} : am_AW d 5 (11, [.ref x, a1], st, n, M) Q = (am_AW d 5 (12, [.ref x, a1], .ref x :: st, n, M) Q) := am_AW_go rfl rfl rfl rfl
theorem w5_12 {L st : List Value} {h : Nat} : am_AW d 5 (12, L, .ref h :: st, n, M) Q = (∃ v, am_fld M h 9 0 = some v ∧ am_AW d 5 (15, L, v :: st, n, M) Q) := am_AW_op (o := am_fld M h 9 0) (f := fun v => (15, L, v :: st, n, M)) rfl rfl (am_bm _ _) (fun _ => rfl)
theorem w5_15 {a1 : Value} {x : Nat} {st : List Value} : am_AW d 5 (15, [.ref x, a1], st, n, M) Q = (am_AW d 5 (16, [.ref x, a1], .ref x :: st, n, M) Q) := am_AW_go rfl rfl rfl rfl
theorem w5_16 {L st : List Value} {h : Nat} : am_AW d 5 (16, L, .ref h :: st, n, M) Q = (∃ v, am_fld M h 9 1 = some v ∧ am_AW d 5 (19, L, v :: st, n, M) Q) := am_AW_op (o := am_fld M h 9 1) (f := fun v => (19, L, v :: st, n, M)) rfl rfl (am_bm _ _) (fun _ => rfl)
theorem w5_19 {L st : List Value} {v0 v1 v2 : Value} : am_AW d 5 (19, L, v0 :: v1 :: v2 :: st, n, M) Q = (am_okA 3 (v0 :: v1 :: v2 :: st) = true ∧ am_isO M [v2, v1, v0] 7 = true ∧ am_Do d 120 [v2, v1, v0] n M (am_then d 5 22 0 L st n Q)) := am_AW_cv (i := 104) (x := 120) (y := 703) (z := 0) rfl
theorem w5_22 {L st : List Value} {x : Int32} : am_AW d 5 (22, L, .int x :: st, n, M) Q = (if x = am_z 0 then am_AW d 5 (25, L, st, n, M) Q else am_AW d 5 (33, L, st, n, M) Q) := (am_AW_ifz rfl).trans am_ite_ne
theorem w5_25 {a1 : Value} {x : Nat} {st : List Value} : am_AW d 5 (25, [.ref x, a1], st, n, M) Q = (am_AW d 5 (26, [.ref x, a1], .ref x :: st, n, M) Q) := am_AW_go rfl rfl rfl rfl
theorem w5_26 {L st : List Value} {h : Nat} : am_AW d 5 (26, L, .ref h :: st, n, M) Q = (∃ v, am_fld M h 9 2 = some v ∧ am_AW d 5 (29, L, v :: st, n, M) Q) := am_AW_op (o := am_fld M h 9 2) (f := fun v => (29, L, v :: st, n, M)) rfl rfl (am_bm _ _) (fun _ => rfl)
theorem w5_29 {L st : List Value} {h : Nat} : am_AW d 5 (29, L, .ref h :: st, n, M) Q = (∃ v, am_fld M h 2 0 = some v ∧ am_AW d 5 (32, L, v :: st, n, M) Q) := am_AW_op (o := am_fld M h 2 0) (f := fun v => (32, L, v :: st, n, M)) rfl rfl (am_bm _ _) (fun _ => rfl)
theorem w5_32 {L : List Value} {x : Int32} : am_AW d 5 (32, L, [.int x], n, M) Q = (Q (some (.int x)) n M) := am_AW_ret (rv := (some (.int x), n)) rfl rfl rfl (am_mono_self n)
theorem w5_33 {a1 : Value} {x : Nat} {st : List Value} : am_AW d 5 (33, [.ref x, a1], st, n, M) Q = (am_AW d 5 (34, [.ref x, a1], .ref x :: st, n, M) Q) := am_AW_go rfl rfl rfl rfl
theorem w5_34 {a1 : Value} {x : Nat} {st : List Value} : am_AW d 5 (34, [.ref x, a1], st, n, M) Q = (am_AW d 5 (35, [.ref x, a1], .ref x :: st, n, M) Q) := am_AW_go rfl rfl rfl rfl
theorem w5_35 {L st : List Value} {h : Nat} : am_AW d 5 (35, L, .ref h :: st, n, M) Q = (∃ v, am_fld M h 9 9 = some v ∧ am_AW d 5 (38, L, v :: st, n, M) Q) := am_AW_op (o := am_fld M h 9 9) (f := fun v => (38, L, v :: st, n, M)) rfl rfl (am_bm _ _) (fun _ => rfl)
theorem w5_38 {L st : List Value} {v0 v1 : Value} : am_AW d 5 (38, L, v0 :: v1 :: st, n, M) Q = (am_okA 2 (v0 :: v1 :: st) = true ∧ am_isO M [v1, v0] 9 = true ∧ am_Do d 12 [v1, v0] n M (am_then d 5 41 0 L st n Q)) := am_AW_cv (i := 111) (x := 12) (y := 902) (z := 0) rfl
theorem w5_41 {a1 : Value} {x : Nat} {st : List Value} : am_AW d 5 (41, [.ref x, a1], st, n, M) Q = (am_AW d 5 (42, [.ref x, a1], .ref x :: st, n, M) Q) := am_AW_go rfl rfl rfl rfl
theorem w5_42 {L st : List Value} {h : Nat} : am_AW d 5 (42, L, .ref h :: st, n, M) Q = (∃ v, am_fld M h 9 6 = some v ∧ am_AW d 5 (45, L, v :: st, n, M) Q) := am_AW_op (o := am_fld M h 9 6) (f := fun v => (45, L, v :: st, n, M)) rfl rfl (am_bm _ _) (fun _ => rfl)
theorem w5_45 {a1 : Value} {x : Nat} {st : List Value} : am_AW d 5 (45, [.ref x, a1], st, n, M) Q = (am_AW d 5 (46, [.ref x, a1], .ref x :: st, n, M) Q) := am_AW_go rfl rfl rfl rfl
theorem w5_46 {L st : List Value} {h : Nat} : am_AW d 5 (46, L, .ref h :: st, n, M) Q = (∃ v, am_fld M h 9 9 = some v ∧ am_AW d 5 (49, L, v :: st, n, M) Q) := am_AW_op (o := am_fld M h 9 9) (f := fun v => (49, L, v :: st, n, M)) rfl rfl (am_bm _ _) (fun _ => rfl)
theorem w5_49 {L st : List Value} {v0 v1 : Value} : am_AW d 5 (49, L, v0 :: v1 :: st, n, M) Q = (am_okA 2 (v0 :: v1 :: st) = true ∧ am_isO M [v1, v0] 6 = true ∧ am_Do d 102 [v1, v0] n M (am_then d 5 52 0 L st n Q)) := am_AW_cv (i := 123) (x := 102) (y := 602) (z := 0) rfl
theorem w5_52 {a0 a1 : Value} {x : Int32} {st : List Value} : am_AW d 5 (52, [a0, a1], .int x :: st, n, M) Q = (am_AW d 5 (53, [a0, .int x], st, n, M) Q) := am_AW_go rfl rfl rfl rfl
theorem w5_53 {a0 : Value} {x : Int32} {st : List Value} : am_AW d 5 (53, [a0, .int x], st, n, M) Q = (am_AW d 5 (54, [a0, .int x], .int x :: st, n, M) Q) := am_AW_go rfl rfl rfl rfl
theorem w5_54 {L st : List Value} : am_AW d 5 (54, L, st, n, M) Q = (am_AW d 5 (56, L, .int (am_z (-7)) :: st, n, M) Q) := am_AW_go rfl rfl rfl rfl
theorem w5_56 {L st : List Value} {x y : Int32} : am_AW d 5 (56, L, .int y :: .int x :: st, n, M) Q = (if x = y then am_AW d 5 (59, L, st, n, M) Q else am_AW d 5 (73, L, st, n, M) Q) := (am_AW_icmp rfl).trans am_ite_ne
theorem w5_59 {a1 : Value} {x : Nat} {st : List Value} : am_AW d 5 (59, [.ref x, a1], st, n, M) Q = (am_AW d 5 (60, [.ref x, a1], .ref x :: st, n, M) Q) := am_AW_go rfl rfl rfl rfl
theorem w5_60 {L st : List Value} {h : Nat} : am_AW d 5 (60, L, .ref h :: st, n, M) Q = (∃ v, am_fld M h 9 2 = some v ∧ am_AW d 5 (63, L, v :: st, n, M) Q) := am_AW_op (o := am_fld M h 9 2) (f := fun v => (63, L, v :: st, n, M)) rfl rfl (am_bm _ _) (fun _ => rfl)
theorem w5_63 {L st : List Value} : am_AW d 5 (63, L, st, n, M) Q = (am_AW d 5 (65, L, .int (am_z (-7)) :: st, n, M) Q) := am_AW_go rfl rfl rfl rfl
theorem w5_65 {L st : List Value} : am_AW d 5 (65, L, st, n, M) Q = (am_AW d 5 (66, L, .int (am_z 0) :: st, n, M) Q) := am_AW_go rfl rfl rfl rfl
theorem w5_66 {L st : List Value} {v0 v1 v2 : Value} : am_AW d 5 (66, L, v0 :: v1 :: v2 :: st, n, M) Q = (am_okA 3 (v0 :: v1 :: v2 :: st) = true ∧ am_isO M [v2, v1, v0] 2 = true ∧ am_Do d 77 [v2, v1, v0] n M (am_then d 5 69 0 L st n Q)) := am_AW_cv (i := 127) (x := 77) (y := 203) (z := 0) rfl
theorem w5_69 {L st : List Value} {x : Int32} : am_AW d 5 (69, L, .int x :: st, n, M) Q = (am_AW d 5 (70, L, st, n, M) Q) := am_AW_go rfl rfl rfl rfl
theorem w5_70 {L st : List Value} : am_AW d 5 (70, L, st, n, M) Q = (am_AW d 5 (72, L, .int (am_z (-7)) :: st, n, M) Q) := am_AW_go rfl rfl rfl rfl
theorem w5_72 {L : List Value} {x : Int32} : am_AW d 5 (72, L, [.int x], n, M) Q = (Q (some (.int x)) n M) := am_AW_ret (rv := (some (.int x), n)) rfl rfl rfl (am_mono_self n)
theorem w5_73 {a1 : Value} {x : Nat} {st : List Value} : am_AW d 5 (73, [.ref x, a1], st, n, M) Q = (am_AW d 5 (74, [.ref x, a1], .ref x :: st, n, M) Q) := am_AW_go rfl rfl rfl rfl
theorem w5_74 {L st : List Value} {h : Nat} : am_AW d 5 (74, L, .ref h :: st, n, M) Q = (∃ v, am_fld M h 9 8 = some v ∧ am_AW d 5 (77, L, v :: st, n, M) Q) := am_AW_op (o := am_fld M h 9 8) (f := fun v => (77, L, v :: st, n, M)) rfl rfl (am_bm _ _) (fun _ => rfl)
theorem w5_77 {a1 : Value} {x : Nat} {st : List Value} : am_AW d 5 (77, [.ref x, a1], st, n, M) Q = (am_AW d 5 (78, [.ref x, a1], .ref x :: st, n, M) Q) := am_AW_go rfl rfl rfl rfl
theorem w5_78 {L st : List Value} {h : Nat} : am_AW d 5 (78, L, .ref h :: st, n, M) Q = (∃ v, am_fld M h 9 9 = some v ∧ am_AW d 5 (81, L, v :: st, n, M) Q) := am_AW_op (o := am_fld M h 9 9) (f := fun v => (81, L, v :: st, n, M)) rfl rfl (am_bm _ _) (fun _ => rfl)
theorem w5_81 {L st : List Value} {v0 v1 : Value} : am_AW d 5 (81, L, v0 :: v1 :: st, n, M) Q = (am_okA 2 (v0 :: v1 :: st) = true ∧ am_isO M [v1, v0] 8 = true ∧ am_Do d 137 [v1, v0] n M (am_then d 5 84 0 L st n Q)) := am_AW_cv (i := 130) (x := 137) (y := 802) (z := 0) rfl
theorem w5_84 {a0 : Value} {x : Int32} {st : List Value} : am_AW d 5 (84, [a0, .int x], st, n, M) Q = (am_AW d 5 (85, [a0, .int x], .int x :: st, n, M) Q) := am_AW_go rfl rfl rfl rfl
theorem w5_85 {L : List Value} {x : Int32} : am_AW d 5 (85, L, [.int x], n, M) Q = (Q (some (.int x)) n M) := am_AW_ret (rv := (some (.int x), n)) rfl rfl rfl (am_mono_self n)
end W5
section W6
variable {d : Nat} {n : am_N} {M : am_M} {Q : Option Value → am_N → am_M → Prop}
theorem w6_0 {a1 a2 : Value} {x : Nat} {st : List Value} : am_AW d 6 (0, [.ref x, a1, a2], st, n, M) Q = (am_AW d 6 (1, [.ref x, a1, a2], .ref x :: st, n, M) Q) := am_AW_go rfl rfl rfl rfl
theorem w6_1 {L st : List Value} {h : Nat} : am_AW d 6 (1, L, .ref h :: st, n, M) Q = (∃ v, am_fld M h 9 4 = some v ∧ am_AW d 6 (4, L, v :: st, n, M) Q) := am_AW_op (o := am_fld M h 9 4) (f := fun v => (4, L, v :: st, n, M)) rfl rfl (am_bm _ _) (fun _ => rfl)
theorem w6_4 {a0 a2 : Value} {x : Int32} {st : List Value} : am_AW d 6 (4, [a0, .int x, a2], st, n, M) Q = (am_AW d 6 (5, [a0, .int x, a2], .int x :: st, n, M) Q) := am_AW_go rfl rfl rfl rfl
theorem w6_5 {L st : List Value} {v0 v1 : Value} : am_AW d 6 (5, L, v0 :: v1 :: st, n, M) Q = (am_okA 2 (v0 :: v1 :: st) = true ∧ am_isO M [v1, v0] 3 = true ∧ am_Do d 79 [v1, v0] n M (am_then d 6 8 0 L st n Q)) := am_AW_cv (i := 100) (x := 79) (y := 302) (z := 0) rfl
theorem w6_8 {L st : List Value} {x : Int32} : am_AW d 6 (8, L, .int x :: st, n, M) Q = (if x = am_z 0 then am_AW d 6 (22, L, st, n, M) Q else am_AW d 6 (11, L, st, n, M) Q) := (am_AW_ifz rfl).trans am_ite_eq
theorem w6_11 {a1 a2 : Value} {x : Nat} {st : List Value} : am_AW d 6 (11, [.ref x, a1, a2], st, n, M) Q = (am_AW d 6 (12, [.ref x, a1, a2], .ref x :: st, n, M) Q) := am_AW_go rfl rfl rfl rfl
theorem w6_12 {L st : List Value} {h : Nat} : am_AW d 6 (12, L, .ref h :: st, n, M) Q = (∃ v, am_fld M h 9 4 = some v ∧ am_AW d 6 (15, L, v :: st, n, M) Q) := am_AW_op (o := am_fld M h 9 4) (f := fun v => (15, L, v :: st, n, M)) rfl rfl (am_bm _ _) (fun _ => rfl)
theorem w6_15 {a0 a1 : Value} {x : Int32} {st : List Value} : am_AW d 6 (15, [a0, a1, .int x], st, n, M) Q = (am_AW d 6 (16, [a0, a1, .int x], .int x :: st, n, M) Q) := am_AW_go rfl rfl rfl rfl
theorem w6_16 {L st : List Value} {v0 v1 : Value} : am_AW d 6 (16, L, v0 :: v1 :: st, n, M) Q = (am_okA 2 (v0 :: v1 :: st) = true ∧ am_isO M [v1, v0] 3 = true ∧ am_Do d 79 [v1, v0] n M (am_then d 6 19 0 L st n Q)) := am_AW_cv (i := 100) (x := 79) (y := 302) (z := 0) rfl
theorem w6_19 {L st : List Value} {x : Int32} : am_AW d 6 (19, L, .int x :: st, n, M) Q = (if x = am_z 0 then am_AW d 6 (22, L, st, n, M) Q else am_AW d 6 (30, L, st, n, M) Q) := (am_AW_ifz rfl).trans am_ite_ne
theorem w6_30 {a1 a2 : Value} {x : Nat} {st : List Value} : am_AW d 6 (30, [.ref x, a1, a2], st, n, M) Q = (am_AW d 6 (31, [.ref x, a1, a2], .ref x :: st, n, M) Q) := am_AW_go rfl rfl rfl rfl
theorem w6_31 {L st : List Value} {h : Nat} : am_AW d 6 (31, L, .ref h :: st, n, M) Q = (∃ v, am_fld M h 9 2 = some v ∧ am_AW d 6 (34, L, v :: st, n, M) Q) := am_AW_op (o := am_fld M h 9 2) (f := fun v => (34, L, v :: st, n, M)) rfl rfl (am_bm _ _) (fun _ => rfl)
theorem w6_34 {L st : List Value} {v0 : Value} : am_AW d 6 (34, L, v0 :: st, n, M) Q = (am_okA 1 (v0 :: st) = true ∧ am_isO M [v0] 2 = true ∧ am_Do d 76 [v0] n M (am_then d 6 37 0 L st n Q)) := am_AW_cv (i := 97) (x := 76) (y := 201) (z := 0) rfl
theorem w6_37 {a1 a2 : Value} {x : Nat} {st : List Value} : am_AW d 6 (37, [.ref x, a1, a2], st, n, M) Q = (am_AW d 6 (38, [.ref x, a1, a2], .ref x :: st, n, M) Q) := am_AW_go rfl rfl rfl rfl
theorem w6_38 {L st : List Value} {h : Nat} : am_AW d 6 (38, L, .ref h :: st, n, M) Q = (∃ v, am_fld M h 9 9 = some v ∧ am_AW d 6 (41, L, v :: st, n, M) Q) := am_AW_op (o := am_fld M h 9 9) (f := fun v => (41, L, v :: st, n, M)) rfl rfl (am_bm _ _) (fun _ => rfl)
theorem w6_41 {a1 a2 : Value} {x : Nat} {st : List Value} : am_AW d 6 (41, [.ref x, a1, a2], st, n, M) Q = (am_AW d 6 (42, [.ref x, a1, a2], .ref x :: st, n, M) Q) := am_AW_go rfl rfl rfl rfl
theorem w6_42 {L st : List Value} {h : Nat} : am_AW d 6 (42, L, .ref h :: st, n, M) Q = (∃ v, am_fld M h 9 4 = some v ∧ am_AW d 6 (45, L, v :: st, n, M) Q) := am_AW_op (o := am_fld M h 9 4) (f := fun v => (45, L, v :: st, n, M)) rfl rfl (am_bm _ _) (fun _ => rfl)
theorem w6_45 {L st : List Value} {h : Nat} : am_AW d 6 (45, L, .ref h :: st, n, M) Q = (∃ v, am_fld M h 3 0 = some v ∧ am_AW d 6 (48, L, v :: st, n, M) Q) := am_AW_op (o := am_fld M h 3 0) (f := fun v => (48, L, v :: st, n, M)) rfl rfl (am_bm _ _) (fun _ => rfl)
theorem w6_48 {a0 a2 : Value} {x : Int32} {st : List Value} : am_AW d 6 (48, [a0, .int x, a2], st, n, M) Q = (am_AW d 6 (49, [a0, .int x, a2], .int x :: st, n, M) Q) := am_AW_go rfl rfl rfl rfl
theorem w6_49 {L st : List Value} {h : Nat} {i : Int32} : am_AW d 6 (49, L, .int i :: .ref h :: st, n, M) Q = (∃ v, am_aald M h i = some v ∧ am_AW d 6 (50, L, v :: st, n, M) Q) := am_AW_op (o := am_aald M h i) (f := fun v => (50, L, v :: st, n, M)) rfl rfl (am_bm3 _ () ()) (fun _ => rfl)
theorem w6_50 {L st : List Value} {v0 v1 : Value} : am_AW d 6 (50, L, v0 :: v1 :: st, n, M) Q = (am_okA 2 (v0 :: v1 :: st) = true ∧ am_isO M [v1, v0] 0 = true ∧ am_Do d 113 [v1, v0] n M (am_then d 6 53 0 L st n Q)) := am_AW_cv (i := 140) (x := 113) (y := 2) (z := 0) rfl
theorem w6_53 {a1 a2 : Value} {x : Nat} {st : List Value} : am_AW d 6 (53, [.ref x, a1, a2], st, n, M) Q = (am_AW d 6 (54, [.ref x, a1, a2], .ref x :: st, n, M) Q) := am_AW_go rfl rfl rfl rfl
theorem w6_54 {L st : List Value} {h : Nat} : am_AW d 6 (54, L, .ref h :: st, n, M) Q = (∃ v, am_fld M h 9 10 = some v ∧ am_AW d 6 (57, L, v :: st, n, M) Q) := am_AW_op (o := am_fld M h 9 10) (f := fun v => (57, L, v :: st, n, M)) rfl rfl (am_bm _ _) (fun _ => rfl)
theorem w6_57 {a1 a2 : Value} {x : Nat} {st : List Value} : am_AW d 6 (57, [.ref x, a1, a2], st, n, M) Q = (am_AW d 6 (58, [.ref x, a1, a2], .ref x :: st, n, M) Q) := am_AW_go rfl rfl rfl rfl
theorem w6_58 {L st : List Value} {h : Nat} : am_AW d 6 (58, L, .ref h :: st, n, M) Q = (∃ v, am_fld M h 9 4 = some v ∧ am_AW d 6 (61, L, v :: st, n, M) Q) := am_AW_op (o := am_fld M h 9 4) (f := fun v => (61, L, v :: st, n, M)) rfl rfl (am_bm _ _) (fun _ => rfl)
theorem w6_61 {L st : List Value} {h : Nat} : am_AW d 6 (61, L, .ref h :: st, n, M) Q = (∃ v, am_fld M h 3 0 = some v ∧ am_AW d 6 (64, L, v :: st, n, M) Q) := am_AW_op (o := am_fld M h 3 0) (f := fun v => (64, L, v :: st, n, M)) rfl rfl (am_bm _ _) (fun _ => rfl)
theorem w6_64 {a0 a1 : Value} {x : Int32} {st : List Value} : am_AW d 6 (64, [a0, a1, .int x], st, n, M) Q = (am_AW d 6 (65, [a0, a1, .int x], .int x :: st, n, M) Q) := am_AW_go rfl rfl rfl rfl
theorem w6_65 {L st : List Value} {h : Nat} {i : Int32} : am_AW d 6 (65, L, .int i :: .ref h :: st, n, M) Q = (∃ v, am_aald M h i = some v ∧ am_AW d 6 (66, L, v :: st, n, M) Q) := am_AW_op (o := am_aald M h i) (f := fun v => (66, L, v :: st, n, M)) rfl rfl (am_bm3 _ () ()) (fun _ => rfl)
theorem w6_66 {L st : List Value} {v0 v1 : Value} : am_AW d 6 (66, L, v0 :: v1 :: st, n, M) Q = (am_okA 2 (v0 :: v1 :: st) = true ∧ am_isO M [v1, v0] 0 = true ∧ am_Do d 113 [v1, v0] n M (am_then d 6 69 0 L st n Q)) := am_AW_cv (i := 140) (x := 113) (y := 2) (z := 0) rfl
theorem w6_69 {a1 a2 : Value} {x : Nat} {st : List Value} : am_AW d 6 (69, [.ref x, a1, a2], st, n, M) Q = (am_AW d 6 (70, [.ref x, a1, a2], .ref x :: st, n, M) Q) := am_AW_go rfl rfl rfl rfl
theorem w6_70 {L st : List Value} {h : Nat} : am_AW d 6 (70, L, .ref h :: st, n, M) Q = (∃ v, am_fld M h 9 6 = some v ∧ am_AW d 6 (73, L, v :: st, n, M) Q) := am_AW_op (o := am_fld M h 9 6) (f := fun v => (73, L, v :: st, n, M)) rfl rfl (am_bm _ _) (fun _ => rfl)
theorem w6_73 {a1 a2 : Value} {x : Nat} {st : List Value} : am_AW d 6 (73, [.ref x, a1, a2], st, n, M) Q = (am_AW d 6 (74, [.ref x, a1, a2], .ref x :: st, n, M) Q) := am_AW_go rfl rfl rfl rfl
theorem w6_74 {L st : List Value} {h : Nat} : am_AW d 6 (74, L, .ref h :: st, n, M) Q = (∃ v, am_fld M h 9 9 = some v ∧ am_AW d 6 (77, L, v :: st, n, M) Q) := am_AW_op (o := am_fld M h 9 9) (f := fun v => (77, L, v :: st, n, M)) rfl rfl (am_bm _ _) (fun _ => rfl)
theorem w6_77 {L st : List Value} {v0 v1 : Value} : am_AW d 6 (77, L, v0 :: v1 :: st, n, M) Q = (am_okA 2 (v0 :: v1 :: st) = true ∧ am_isO M [v1, v0] 6 = true ∧ am_Do d 102 [v1, v0] n M (am_then d 6 80 0 L st n Q)) := am_AW_cv (i := 123) (x := 102) (y := 602) (z := 0) rfl
theorem w6_80 {L st : List Value} : am_AW d 6 (80, L, st, n, M) Q = (am_AW d 6 (82, L, .int (am_z (-7)) :: st, n, M) Q) := am_AW_go rfl rfl rfl rfl
theorem w6_82 {L st : List Value} {x y : Int32} : am_AW d 6 (82, L, .int y :: .int x :: st, n, M) Q = (if x = y then am_AW d 6 (101, L, st, n, M) Q else am_AW d 6 (85, L, st, n, M) Q) := (am_AW_icmp rfl).trans am_ite_eq
theorem w6_85 {a1 a2 : Value} {x : Nat} {st : List Value} : am_AW d 6 (85, [.ref x, a1, a2], st, n, M) Q = (am_AW d 6 (86, [.ref x, a1, a2], .ref x :: st, n, M) Q) := am_AW_go rfl rfl rfl rfl
theorem w6_86 {L st : List Value} {h : Nat} : am_AW d 6 (86, L, .ref h :: st, n, M) Q = (∃ v, am_fld M h 9 6 = some v ∧ am_AW d 6 (89, L, v :: st, n, M) Q) := am_AW_op (o := am_fld M h 9 6) (f := fun v => (89, L, v :: st, n, M)) rfl rfl (am_bm _ _) (fun _ => rfl)
theorem w6_89 {a1 a2 : Value} {x : Nat} {st : List Value} : am_AW d 6 (89, [.ref x, a1, a2], st, n, M) Q = (am_AW d 6 (90, [.ref x, a1, a2], .ref x :: st, n, M) Q) := am_AW_go rfl rfl rfl rfl
theorem w6_90 {L st : List Value} {h : Nat} : am_AW d 6 (90, L, .ref h :: st, n, M) Q = (∃ v, am_fld M h 9 10 = some v ∧ am_AW d 6 (93, L, v :: st, n, M) Q) := am_AW_op (o := am_fld M h 9 10) (f := fun v => (93, L, v :: st, n, M)) rfl rfl (am_bm _ _) (fun _ => rfl)
theorem w6_93 {L st : List Value} {v0 v1 : Value} : am_AW d 6 (93, L, v0 :: v1 :: st, n, M) Q = (am_okA 2 (v0 :: v1 :: st) = true ∧ am_isO M [v1, v0] 6 = true ∧ am_Do d 102 [v1, v0] n M (am_then d 6 96 0 L st n Q)) := am_AW_cv (i := 123) (x := 102) (y := 602) (z := 0) rfl
theorem w6_96 {L st : List Value} : am_AW d 6 (96, L, st, n, M) Q = (am_AW d 6 (98, L, .int (am_z (-7)) :: st, n, M) Q) := am_AW_go rfl rfl rfl rfl
theorem w6_98 {L st : List Value} {x y : Int32} : am_AW d 6 (98, L, .int y :: .int x :: st, n, M) Q = (if x = y then am_AW d 6 (101, L, st, n, M) Q else am_AW d 6 (115, L, st, n, M) Q) := (am_AW_icmp rfl).trans am_ite_ne
theorem w6_101 {a1 a2 : Value} {x : Nat} {st : List Value} : am_AW d 6 (101, [.ref x, a1, a2], st, n, M) Q = (am_AW d 6 (102, [.ref x, a1, a2], .ref x :: st, n, M) Q) := am_AW_go rfl rfl rfl rfl
theorem w6_102 {L st : List Value} {h : Nat} : am_AW d 6 (102, L, .ref h :: st, n, M) Q = (∃ v, am_fld M h 9 2 = some v ∧ am_AW d 6 (105, L, v :: st, n, M) Q) := am_AW_op (o := am_fld M h 9 2) (f := fun v => (105, L, v :: st, n, M)) rfl rfl (am_bm _ _) (fun _ => rfl)
theorem w6_105 {L st : List Value} : am_AW d 6 (105, L, st, n, M) Q = (am_AW d 6 (107, L, .int (am_z (-7)) :: st, n, M) Q) := am_AW_go rfl rfl rfl rfl
theorem w6_107 {L st : List Value} : am_AW d 6 (107, L, st, n, M) Q = (am_AW d 6 (108, L, .int (am_z 0) :: st, n, M) Q) := am_AW_go rfl rfl rfl rfl
theorem w6_108 {L st : List Value} {v0 v1 v2 : Value} : am_AW d 6 (108, L, v0 :: v1 :: v2 :: st, n, M) Q = (am_okA 3 (v0 :: v1 :: v2 :: st) = true ∧ am_isO M [v2, v1, v0] 2 = true ∧ am_Do d 77 [v2, v1, v0] n M (am_then d 6 111 0 L st n Q)) := am_AW_cv (i := 127) (x := 77) (y := 203) (z := 0) rfl
theorem w6_111 {L st : List Value} {x : Int32} : am_AW d 6 (111, L, .int x :: st, n, M) Q = (am_AW d 6 (112, L, st, n, M) Q) := am_AW_go rfl rfl rfl rfl
theorem w6_112 {L st : List Value} : am_AW d 6 (112, L, st, n, M) Q = (am_AW d 6 (114, L, .int (am_z (-7)) :: st, n, M) Q) := am_AW_go rfl rfl rfl rfl
theorem w6_114 {L : List Value} {x : Int32} : am_AW d 6 (114, L, [.int x], n, M) Q = (Q (some (.int x)) n M) := am_AW_ret (rv := (some (.int x), n)) rfl rfl rfl (am_mono_self n)
theorem w6_115 {a1 a2 : Value} {x : Nat} {st : List Value} : am_AW d 6 (115, [.ref x, a1, a2], st, n, M) Q = (am_AW d 6 (116, [.ref x, a1, a2], .ref x :: st, n, M) Q) := am_AW_go rfl rfl rfl rfl
theorem w6_116 {L st : List Value} {h : Nat} : am_AW d 6 (116, L, .ref h :: st, n, M) Q = (∃ v, am_fld M h 9 9 = some v ∧ am_AW d 6 (119, L, v :: st, n, M) Q) := am_AW_op (o := am_fld M h 9 9) (f := fun v => (119, L, v :: st, n, M)) rfl rfl (am_bm _ _) (fun _ => rfl)
theorem w6_119 {a1 a2 : Value} {x : Nat} {st : List Value} : am_AW d 6 (119, [.ref x, a1, a2], st, n, M) Q = (am_AW d 6 (120, [.ref x, a1, a2], .ref x :: st, n, M) Q) := am_AW_go rfl rfl rfl rfl
theorem w6_120 {L st : List Value} {h : Nat} : am_AW d 6 (120, L, .ref h :: st, n, M) Q = (∃ v, am_fld M h 9 10 = some v ∧ am_AW d 6 (123, L, v :: st, n, M) Q) := am_AW_op (o := am_fld M h 9 10) (f := fun v => (123, L, v :: st, n, M)) rfl rfl (am_bm _ _) (fun _ => rfl)
theorem w6_123 {L st : List Value} : am_AW d 6 (123, L, st, n, M) Q = (am_AW d 6 (124, L, .int (am_z 0) :: st, n, M) Q) := am_AW_go rfl rfl rfl rfl
theorem w6_124 {L st : List Value} {v0 v1 v2 : Value} : am_AW d 6 (124, L, v0 :: v1 :: v2 :: st, n, M) Q = (am_okA 3 (v0 :: v1 :: v2 :: st) = true ∧ am_isO M [v2, v1, v0] 0 = true ∧ am_Do d 117 [v2, v1, v0] n M (am_then d 6 127 0 L st n Q)) := am_AW_cv (i := 143) (x := 117) (y := 3) (z := 0) rfl
theorem w6_127 {L st : List Value} {x : Int32} : am_AW d 6 (127, L, .int x :: st, n, M) Q = (if x = am_z 0 then am_AW d 6 (134, L, st, n, M) Q else am_AW d 6 (130, L, st, n, M) Q) := (am_AW_ifz rfl).trans am_ite_eq
theorem w6_130 {L st : List Value} : am_AW d 6 (130, L, st, n, M) Q = (am_AW d 6 (131, L, .int (am_z 1) :: st, n, M) Q) := am_AW_go rfl rfl rfl rfl
theorem w6_131 {L st : List Value} : am_AW d 6 (131, L, st, n, M) Q = (am_AW d 6 (135, L, st, n, M) Q) := am_AW_go rfl rfl rfl rfl
theorem w6_134 {L st : List Value} : am_AW d 6 (134, L, st, n, M) Q = (am_AW d 6 (135, L, .int (am_z 0) :: st, n, M) Q) := am_AW_go rfl rfl rfl rfl
theorem w6_135 {L : List Value} {x : Int32} : am_AW d 6 (135, L, [.int x], n, M) Q = (Q (some (.int x)) n M) := am_AW_ret (rv := (some (.int x), n)) rfl rfl rfl (am_mono_self n)
end W6
section W7
variable {d : Nat} {n : am_N} {M : am_M} {Q : Option Value → am_N → am_M → Prop}
theorem w7_0 {x : Nat} {st : List Value} : am_AW d 7 (0, [.ref x], st, n, M) Q = (am_AW d 7 (1, [.ref x], .ref x :: st, n, M) Q) := am_AW_go rfl rfl rfl rfl
theorem w7_1 {L st : List Value} {h : Nat} : am_AW d 7 (1, L, .ref h :: st, n, M) Q = (∃ v, am_fld M h 9 2 = some v ∧ am_AW d 7 (4, L, v :: st, n, M) Q) := am_AW_op (o := am_fld M h 9 2) (f := fun v => (4, L, v :: st, n, M)) rfl rfl (am_bm _ _) (fun _ => rfl)
theorem w7_4 {L st : List Value} {h : Nat} : am_AW d 7 (4, L, .ref h :: st, n, M) Q = (∃ v, am_fld M h 2 1 = some v ∧ am_AW d 7 (7, L, v :: st, n, M) Q) := am_AW_op (o := am_fld M h 2 1) (f := fun v => (7, L, v :: st, n, M)) rfl rfl (am_bm _ _) (fun _ => rfl)
theorem w7_7 {L : List Value} {x : Int32} : am_AW d 7 (7, L, [.int x], n, M) Q = (Q (some (.int x)) n M) := am_AW_ret (rv := (some (.int x), n)) rfl rfl rfl (am_mono_self n)
end W7
section W8
variable {d : Nat} {n : am_N} {M : am_M} {Q : Option Value → am_N → am_M → Prop}
theorem w8_0 {a0 : Value} {x : Int32} {st : List Value} : am_AW d 8 (0, [a0, .int x], st, n, M) Q = (am_AW d 8 (1, [a0, .int x], .int x :: st, n, M) Q) := am_AW_go rfl rfl rfl rfl
theorem w8_1 {L st : List Value} {x : Int32} : am_AW d 8 (1, L, .int x :: st, n, M) Q = (if x < am_z 0 then am_AW d 8 (27, L, st, n, M) Q else am_AW d 8 (4, L, st, n, M) Q) := (am_AW_ifz rfl).trans am_ite_lt
theorem w8_4 {a0 : Value} {x : Int32} {st : List Value} : am_AW d 8 (4, [a0, .int x], st, n, M) Q = (am_AW d 8 (5, [a0, .int x], .int x :: st, n, M) Q) := am_AW_go rfl rfl rfl rfl
theorem w8_5 {a1 : Value} {x : Nat} {st : List Value} : am_AW d 8 (5, [.ref x, a1], st, n, M) Q = (am_AW d 8 (6, [.ref x, a1], .ref x :: st, n, M) Q) := am_AW_go rfl rfl rfl rfl
theorem w8_6 {L st : List Value} {h : Nat} : am_AW d 8 (6, L, .ref h :: st, n, M) Q = (∃ v, am_fld M h 9 8 = some v ∧ am_AW d 8 (9, L, v :: st, n, M) Q) := am_AW_op (o := am_fld M h 9 8) (f := fun v => (9, L, v :: st, n, M)) rfl rfl (am_bm _ _) (fun _ => rfl)
theorem w8_9 {L st : List Value} {h : Nat} : am_AW d 8 (9, L, .ref h :: st, n, M) Q = (∃ v, am_fld M h 8 1 = some v ∧ am_AW d 8 (12, L, v :: st, n, M) Q) := am_AW_op (o := am_fld M h 8 1) (f := fun v => (12, L, v :: st, n, M)) rfl rfl (am_bm _ _) (fun _ => rfl)
theorem w8_12 {L st : List Value} {x y : Int32} : am_AW d 8 (12, L, .int y :: .int x :: st, n, M) Q = (if x < y then am_AW d 8 (15, L, st, n, M) Q else am_AW d 8 (27, L, st, n, M) Q) := (am_AW_icmp rfl).trans am_ite_ge
theorem w8_15 {a1 : Value} {x : Nat} {st : List Value} : am_AW d 8 (15, [.ref x, a1], st, n, M) Q = (am_AW d 8 (16, [.ref x, a1], .ref x :: st, n, M) Q) := am_AW_go rfl rfl rfl rfl
theorem w8_16 {L st : List Value} {h : Nat} : am_AW d 8 (16, L, .ref h :: st, n, M) Q = (∃ v, am_fld M h 9 8 = some v ∧ am_AW d 8 (19, L, v :: st, n, M) Q) := am_AW_op (o := am_fld M h 9 8) (f := fun v => (19, L, v :: st, n, M)) rfl rfl (am_bm _ _) (fun _ => rfl)
theorem w8_19 {L st : List Value} {h : Nat} : am_AW d 8 (19, L, .ref h :: st, n, M) Q = (∃ v, am_fld M h 8 0 = some v ∧ am_AW d 8 (22, L, v :: st, n, M) Q) := am_AW_op (o := am_fld M h 8 0) (f := fun v => (22, L, v :: st, n, M)) rfl rfl (am_bm _ _) (fun _ => rfl)
theorem w8_22 {a0 : Value} {x : Int32} {st : List Value} : am_AW d 8 (22, [a0, .int x], st, n, M) Q = (am_AW d 8 (23, [a0, .int x], .int x :: st, n, M) Q) := am_AW_go rfl rfl rfl rfl
theorem w8_23 {L st : List Value} {h : Nat} {i : Int32} : am_AW d 8 (23, L, .int i :: .ref h :: st, n, M) Q = (∃ v, am_ald 1 M h i = some v ∧ am_AW d 8 (24, L, .int v :: st, n, M) Q) := am_AW_op (o := am_ald 1 M h i) (f := fun v => (24, L, .int v :: st, n, M)) rfl rfl (am_bm2 _ _ () ()) (fun _ => rfl)
theorem w8_24 {L st : List Value} : am_AW d 8 (24, L, st, n, M) Q = (am_AW d 8 (29, L, st, n, M) Q) := am_AW_go rfl rfl rfl rfl
theorem w8_27 {L st : List Value} : am_AW d 8 (27, L, st, n, M) Q = (am_AW d 8 (29, L, .int (am_z 32) :: st, n, M) Q) := am_AW_go rfl rfl rfl rfl
theorem w8_29 {L : List Value} {x : Int32} (hf : am_fit 2 (.int x) = true) : am_AW d 8 (29, L, [.int x], n, M) Q = (Q (some (.int x)) n M) := am_AW_ret (rv := (some (.int x), n)) rfl rfl (if_pos hf) (am_mono_self n)
end W8
section W9
variable {d : Nat} {n : am_N} {M : am_M} {Q : Option Value → am_N → am_M → Prop}
theorem w9_0 {a0 : Value} {x : Int32} {st : List Value} : am_AW d 9 (0, [a0, .int x], st, n, M) Q = (am_AW d 9 (1, [a0, .int x], .int x :: st, n, M) Q) := am_AW_go rfl rfl rfl rfl
theorem w9_1 {L st : List Value} {x : Int32} : am_AW d 9 (1, L, .int x :: st, n, M) Q = (∃ t, am_sw (.tableswitch 51 0 2 #[27, 35, 43]) 1 x = some t ∧ am_AW d 9 (t, L, st, n, M) Q) := am_AW_op (o := am_sw (.tableswitch 51 0 2 #[27, 35, 43]) 1 x) (f := fun t => (t, L, st, n, M)) rfl rfl rfl (fun _ => rfl)
theorem w9_28 {a1 : Value} {x : Nat} {st : List Value} : am_AW d 9 (28, [.ref x, a1], st, n, M) Q = (am_AW d 9 (29, [.ref x, a1], .ref x :: st, n, M) Q) := am_AW_go rfl rfl rfl rfl
theorem w9_29 {L st : List Value} {h : Nat} : am_AW d 9 (29, L, .ref h :: st, n, M) Q = (∃ v, am_fld M h 9 4 = some v ∧ am_AW d 9 (32, L, v :: st, n, M) Q) := am_AW_op (o := am_fld M h 9 4) (f := fun v => (32, L, v :: st, n, M)) rfl rfl (am_bm _ _) (fun _ => rfl)
theorem w9_32 {L st : List Value} {h : Nat} : am_AW d 9 (32, L, .ref h :: st, n, M) Q = (∃ v, am_fld M h 3 3 = some v ∧ am_AW d 9 (35, L, v :: st, n, M) Q) := am_AW_op (o := am_fld M h 3 3) (f := fun v => (35, L, v :: st, n, M)) rfl rfl (am_bm _ _) (fun _ => rfl)
theorem w9_35 {L : List Value} {x : Int32} : am_AW d 9 (35, L, [.int x], n, M) Q = (Q (some (.int x)) n M) := am_AW_ret (rv := (some (.int x), n)) rfl rfl rfl (am_mono_self n)
theorem w9_36 {a1 : Value} {x : Nat} {st : List Value} : am_AW d 9 (36, [.ref x, a1], st, n, M) Q = (am_AW d 9 (37, [.ref x, a1], .ref x :: st, n, M) Q) := am_AW_go rfl rfl rfl rfl
theorem w9_37 {L st : List Value} {h : Nat} : am_AW d 9 (37, L, .ref h :: st, n, M) Q = (∃ v, am_fld M h 9 8 = some v ∧ am_AW d 9 (40, L, v :: st, n, M) Q) := am_AW_op (o := am_fld M h 9 8) (f := fun v => (40, L, v :: st, n, M)) rfl rfl (am_bm _ _) (fun _ => rfl)
theorem w9_40 {L st : List Value} {h : Nat} : am_AW d 9 (40, L, .ref h :: st, n, M) Q = (∃ v, am_fld M h 8 1 = some v ∧ am_AW d 9 (43, L, v :: st, n, M) Q) := am_AW_op (o := am_fld M h 8 1) (f := fun v => (43, L, v :: st, n, M)) rfl rfl (am_bm _ _) (fun _ => rfl)
theorem w9_43 {L : List Value} {x : Int32} : am_AW d 9 (43, L, [.int x], n, M) Q = (Q (some (.int x)) n M) := am_AW_ret (rv := (some (.int x), n)) rfl rfl rfl (am_mono_self n)
theorem w9_44 {a1 : Value} {x : Nat} {st : List Value} : am_AW d 9 (44, [.ref x, a1], st, n, M) Q = (am_AW d 9 (45, [.ref x, a1], .ref x :: st, n, M) Q) := am_AW_go rfl rfl rfl rfl
theorem w9_45 {L st : List Value} {h : Nat} : am_AW d 9 (45, L, .ref h :: st, n, M) Q = (∃ v, am_fld M h 9 8 = some v ∧ am_AW d 9 (48, L, v :: st, n, M) Q) := am_AW_op (o := am_fld M h 9 8) (f := fun v => (48, L, v :: st, n, M)) rfl rfl (am_bm _ _) (fun _ => rfl)
theorem w9_48 {L st : List Value} {h : Nat} : am_AW d 9 (48, L, .ref h :: st, n, M) Q = (∃ v, am_fld M h 8 2 = some v ∧ am_AW d 9 (51, L, v :: st, n, M) Q) := am_AW_op (o := am_fld M h 8 2) (f := fun v => (51, L, v :: st, n, M)) rfl rfl (am_bm _ _) (fun _ => rfl)
theorem w9_51 {L : List Value} {x : Int32} : am_AW d 9 (51, L, [.int x], n, M) Q = (Q (some (.int x)) n M) := am_AW_ret (rv := (some (.int x), n)) rfl rfl rfl (am_mono_self n)
theorem w9_52 {L st : List Value} : am_AW d 9 (52, L, st, n, M) Q = (am_AW d 9 (53, L, .int (am_z (-1)) :: st, n, M) Q) := am_AW_go rfl rfl rfl rfl
theorem w9_53 {L : List Value} {x : Int32} : am_AW d 9 (53, L, [.int x], n, M) Q = (Q (some (.int x)) n M) := am_AW_ret (rv := (some (.int x), n)) rfl rfl rfl (am_mono_self n)
end W9
section W10
variable {d : Nat} {n : am_N} {M : am_M} {Q : Option Value → am_N → am_M → Prop}
theorem w10_0 {L st : List Value} : am_AW d 10 (0, L, st, n, M) Q = (am_AW d 10 (1, L, .int (am_z 0) :: st, n, M) Q) := am_AW_go rfl rfl rfl rfl
theorem w10_1 {a0 a1 a2 : Value} {x : Int32} {st : List Value} : am_AW d 10 (1, [a0, a1, a2], .int x :: st, n, M) Q = (am_AW d 10 (2, [a0, .int x, a2], st, n, M) Q) := am_AW_go rfl rfl rfl rfl
theorem w10_2 {L st : List Value} : am_AW d 10 (2, L, st, n, M) Q = (am_AW d 10 (4, L, .int (am_z 24) :: st, n, M) Q) := am_AW_go rfl rfl rfl rfl
theorem w10_4 {a0 a1 a2 : Value} {x : Int32} {st : List Value} : am_AW d 10 (4, [a0, a1, a2], .int x :: st, n, M) Q = (am_AW d 10 (5, [a0, a1, .int x], st, n, M) Q) := am_AW_go rfl rfl rfl rfl
theorem w10_5 {a0 a1 : Value} {x : Int32} {st : List Value} : am_AW d 10 (5, [a0, a1, .int x], st, n, M) Q = (am_AW d 10 (6, [a0, a1, .int x], .int x :: st, n, M) Q) := am_AW_go rfl rfl rfl rfl
theorem w10_6 {L st : List Value} {x : Int32} : am_AW d 10 (6, L, .int x :: st, n, M) Q = (if x < am_z 0 then am_AW d 10 (28, L, st, n, M) Q else am_AW d 10 (9, L, st, n, M) Q) := (am_AW_ifz rfl).trans am_ite_lt
theorem w10_9 {a1 a2 : Value} {x : Int32} {st : List Value} : am_AW d 10 (9, [.int x, a1, a2], st, n, M) Q = (am_AW d 10 (10, [.int x, a1, a2], .int x :: st, n, M) Q) := am_AW_go rfl rfl rfl rfl
theorem w10_10 {a0 a1 : Value} {x : Int32} {st : List Value} : am_AW d 10 (10, [a0, a1, .int x], st, n, M) Q = (am_AW d 10 (11, [a0, a1, .int x], .int x :: st, n, M) Q) := am_AW_go rfl rfl rfl rfl
theorem w10_11 {L st : List Value} {x y : Int32} : am_AW d 10 (11, L, .int y :: .int x :: st, n, M) Q = (am_AW d 10 (12, L, .int (x.toUInt32 >>> (y.toUInt32 &&& Int32.toUInt32 31)).toInt32 :: st, n, M) Q) := am_AW_go rfl rfl rfl rfl
theorem w10_12 {L st : List Value} : am_AW d 10 (12, L, st, n, M) Q = (am_AW d 10 (15, L, .int (am_z 255) :: st, n, M) Q) := am_AW_go rfl rfl rfl rfl
theorem w10_15 {L st : List Value} {x y : Int32} : am_AW d 10 (15, L, .int y :: .int x :: st, n, M) Q = (am_AW d 10 (16, L, .int (x &&& y) :: st, n, M) Q) := am_AW_go rfl rfl rfl rfl
theorem w10_16 {L st : List Value} {x : Int32} : am_AW d 10 (16, L, .int x :: st, n, M) Q = (if x = am_z 0 then am_AW d 10 (22, L, st, n, M) Q else am_AW d 10 (19, L, st, n, M) Q) := (am_AW_ifz rfl).trans am_ite_eq
theorem w10_19 {a0 a2 : Value} {x : Int32} {st : List Value} : am_AW d 10 (19, [a0, .int x, a2], st, n, M) Q = (am_AW d 10 (22, [a0, .int (x + (am_z 1)), a2], st, n, M) Q) := am_AW_go rfl rfl rfl rfl
theorem w10_22 {a0 a1 : Value} {x : Int32} {st : List Value} : am_AW d 10 (22, [a0, a1, .int x], st, n, M) Q = (am_AW d 10 (25, [a0, a1, .int (x + (am_z (-8)))], st, n, M) Q) := am_AW_go rfl rfl rfl rfl
theorem w10_25 {L st : List Value} : am_AW d 10 (25, L, st, n, M) Q = (am_AW d 10 (5, L, st, n, M) Q) := am_AW_go rfl rfl rfl rfl
theorem w10_28 {a0 a2 : Value} {x : Int32} {st : List Value} : am_AW d 10 (28, [a0, .int x, a2], st, n, M) Q = (am_AW d 10 (29, [a0, .int x, a2], .int x :: st, n, M) Q) := am_AW_go rfl rfl rfl rfl
theorem w10_29 {L : List Value} {x : Int32} : am_AW d 10 (29, L, [.int x], n, M) Q = (Q (some (.int x)) n M) := am_AW_ret (rv := (some (.int x), n)) rfl rfl rfl (am_mono_self n)
end W10
section W11
variable {d : Nat} {n : am_N} {M : am_M} {Q : Option Value → am_N → am_M → Prop}
theorem w11_0 {L st : List Value} : am_AW d 11 (0, L, st, n, M) Q = (am_AW d 11 (2, L, .int (am_z 24) :: st, n, M) Q) := am_AW_go rfl rfl rfl rfl
theorem w11_2 {a0 a1 a2 a3 : Value} {x : Int32} {st : List Value} : am_AW d 11 (2, [a0, a1, a2, a3], .int x :: st, n, M) Q = (am_AW d 11 (3, [a0, a1, .int x, a3], st, n, M) Q) := am_AW_go rfl rfl rfl rfl
theorem w11_3 {a0 a1 a3 : Value} {x : Int32} {st : List Value} : am_AW d 11 (3, [a0, a1, .int x, a3], st, n, M) Q = (am_AW d 11 (4, [a0, a1, .int x, a3], .int x :: st, n, M) Q) := am_AW_go rfl rfl rfl rfl
theorem w11_4 {L st : List Value} {x : Int32} : am_AW d 11 (4, L, .int x :: st, n, M) Q = (if x < am_z 0 then am_AW d 11 (55, L, st, n, M) Q else am_AW d 11 (7, L, st, n, M) Q) := (am_AW_ifz rfl).trans am_ite_lt
theorem w11_7 {a0 a2 a3 : Value} {x : Int32} {st : List Value} : am_AW d 11 (7, [a0, .int x, a2, a3], st, n, M) Q = (am_AW d 11 (8, [a0, .int x, a2, a3], .int x :: st, n, M) Q) := am_AW_go rfl rfl rfl rfl
theorem w11_8 {a0 a1 a3 : Value} {x : Int32} {st : List Value} : am_AW d 11 (8, [a0, a1, .int x, a3], st, n, M) Q = (am_AW d 11 (9, [a0, a1, .int x, a3], .int x :: st, n, M) Q) := am_AW_go rfl rfl rfl rfl
theorem w11_9 {L st : List Value} {x y : Int32} : am_AW d 11 (9, L, .int y :: .int x :: st, n, M) Q = (am_AW d 11 (10, L, .int (x.toUInt32 >>> (y.toUInt32 &&& Int32.toUInt32 31)).toInt32 :: st, n, M) Q) := am_AW_go rfl rfl rfl rfl
theorem w11_10 {L st : List Value} : am_AW d 11 (10, L, st, n, M) Q = (am_AW d 11 (13, L, .int (am_z 255) :: st, n, M) Q) := am_AW_go rfl rfl rfl rfl
theorem w11_13 {L st : List Value} {x y : Int32} : am_AW d 11 (13, L, .int y :: .int x :: st, n, M) Q = (am_AW d 11 (14, L, .int (x &&& y) :: st, n, M) Q) := am_AW_go rfl rfl rfl rfl
theorem w11_14 {a0 a1 a2 a3 : Value} {x : Int32} {st : List Value} : am_AW d 11 (14, [a0, a1, a2, a3], .int x :: st, n, M) Q = (am_AW d 11 (15, [a0, a1, a2, .int x], st, n, M) Q) := am_AW_go rfl rfl rfl rfl
theorem w11_15 {a0 a1 a2 : Value} {x : Int32} {st : List Value} : am_AW d 11 (15, [a0, a1, a2, .int x], st, n, M) Q = (am_AW d 11 (16, [a0, a1, a2, .int x], .int x :: st, n, M) Q) := am_AW_go rfl rfl rfl rfl
theorem w11_16 {L st : List Value} {x : Int32} : am_AW d 11 (16, L, .int x :: st, n, M) Q = (if x = am_z 0 then am_AW d 11 (49, L, st, n, M) Q else am_AW d 11 (19, L, st, n, M) Q) := (am_AW_ifz rfl).trans am_ite_eq
theorem w11_19 {a1 a2 a3 : Value} {x : Nat} {st : List Value} : am_AW d 11 (19, [.ref x, a1, a2, a3], st, n, M) Q = (am_AW d 11 (20, [.ref x, a1, a2, a3], .ref x :: st, n, M) Q) := am_AW_go rfl rfl rfl rfl
theorem w11_20 {L st : List Value} {h : Nat} : am_AW d 11 (20, L, .ref h :: st, n, M) Q = (∃ v, am_fld M h 9 1 = some v ∧ am_AW d 11 (23, L, v :: st, n, M) Q) := am_AW_op (o := am_fld M h 9 1) (f := fun v => (23, L, v :: st, n, M)) rfl rfl (am_bm _ _) (fun _ => rfl)
theorem w11_23 {L st : List Value} : am_AW d 11 (23, L, st, n, M) Q = (am_AW d 11 (25, L, .int (am_z 100) :: st, n, M) Q) := am_AW_go rfl rfl rfl rfl
theorem w11_25 {L st : List Value} {x y : Int32} : am_AW d 11 (25, L, .int y :: .int x :: st, n, M) Q = (if x < y then am_AW d 11 (28, L, st, n, M) Q else am_AW d 11 (49, L, st, n, M) Q) := (am_AW_icmp rfl).trans am_ite_ge
theorem w11_28 {a1 a2 a3 : Value} {x : Nat} {st : List Value} : am_AW d 11 (28, [.ref x, a1, a2, a3], st, n, M) Q = (am_AW d 11 (29, [.ref x, a1, a2, a3], .ref x :: st, n, M) Q) := am_AW_go rfl rfl rfl rfl
theorem w11_29 {L st : List Value} {h : Nat} : am_AW d 11 (29, L, .ref h :: st, n, M) Q = (∃ v, am_fld M h 9 0 = some v ∧ am_AW d 11 (32, L, v :: st, n, M) Q) := am_AW_op (o := am_fld M h 9 0) (f := fun v => (32, L, v :: st, n, M)) rfl rfl (am_bm _ _) (fun _ => rfl)
theorem w11_32 {a1 a2 a3 : Value} {x : Nat} {st : List Value} : am_AW d 11 (32, [.ref x, a1, a2, a3], st, n, M) Q = (am_AW d 11 (33, [.ref x, a1, a2, a3], .ref x :: st, n, M) Q) := am_AW_go rfl rfl rfl rfl
theorem w11_33 {L st : List Value} {h : Nat} : am_AW d 11 (33, L, .ref h :: st, n, M) Q = (∃ v, am_fld M h 9 1 = some v ∧ am_AW d 11 (36, L, v :: st, n, M) Q) := am_AW_op (o := am_fld M h 9 1) (f := fun v => (36, L, v :: st, n, M)) rfl rfl (am_bm _ _) (fun _ => rfl)
theorem w11_36 {a0 a1 a2 : Value} {x : Int32} {st : List Value} : am_AW d 11 (36, [a0, a1, a2, .int x], st, n, M) Q = (am_AW d 11 (37, [a0, a1, a2, .int x], .int x :: st, n, M) Q) := am_AW_go rfl rfl rfl rfl
theorem w11_37 {L st : List Value} {x : Int32} : am_AW d 11 (37, L, .int x :: st, n, M) Q = (am_AW d 11 (38, L, .int (x.toUInt32 % 65536).toInt32 :: st, n, M) Q) := am_AW_go rfl rfl rfl rfl
theorem w11_38 {L st : List Value} {h : Nat} {i v : Int32} : am_AW d 11 (38, L, .int v :: .int i :: .ref h :: st, n, M) Q = (am_fit 2 (.int v) = true ∧ ∃ M', am_ast 1 M h i v = some M' ∧ am_AW d 11 (39, L, st, n, M') Q) := am_AW_ast rfl (Or.inr (Or.inl ⟨rfl, rfl, rfl⟩))
theorem w11_39 {a1 a2 a3 : Value} {x : Nat} {st : List Value} : am_AW d 11 (39, [.ref x, a1, a2, a3], st, n, M) Q = (am_AW d 11 (40, [.ref x, a1, a2, a3], .ref x :: st, n, M) Q) := am_AW_go rfl rfl rfl rfl
theorem w11_40 {L st : List Value} {x : Nat} : am_AW d 11 (40, L, .ref x :: st, n, M) Q = (am_AW d 11 (41, L, .ref x :: .ref x :: st, n, M) Q) := am_AW_go rfl rfl rfl rfl
theorem w11_40i {L st : List Value} {x : Int32} : am_AW d 11 (40, L, .int x :: st, n, M) Q = (am_AW d 11 (41, L, .int x :: .int x :: st, n, M) Q) := am_AW_go rfl rfl rfl rfl
theorem w11_41 {L st : List Value} {h : Nat} : am_AW d 11 (41, L, .ref h :: st, n, M) Q = (∃ v, am_fld M h 9 1 = some v ∧ am_AW d 11 (44, L, v :: st, n, M) Q) := am_AW_op (o := am_fld M h 9 1) (f := fun v => (44, L, v :: st, n, M)) rfl rfl (am_bm _ _) (fun _ => rfl)
theorem w11_44 {L st : List Value} : am_AW d 11 (44, L, st, n, M) Q = (am_AW d 11 (45, L, .int (am_z 1) :: st, n, M) Q) := am_AW_go rfl rfl rfl rfl
theorem w11_45 {L st : List Value} {x y : Int32} : am_AW d 11 (45, L, .int y :: .int x :: st, n, M) Q = (am_AW d 11 (46, L, .int (x + y) :: st, n, M) Q) := am_AW_go rfl rfl rfl rfl
theorem w11_46 {L st : List Value} {h : Nat} {v : Value} : am_AW d 11 (46, L, v :: .ref h :: st, n, M) Q = (am_fit 0 v = true ∧ ∃ M', am_setf M h 9 1 v = some M' ∧ am_AW d 11 (49, L, st, n, M') Q) := am_AW_put rfl
theorem w11_49 {a0 a1 a3 : Value} {x : Int32} {st : List Value} : am_AW d 11 (49, [a0, a1, .int x, a3], st, n, M) Q = (am_AW d 11 (52, [a0, a1, .int (x + (am_z (-8))), a3], st, n, M) Q) := am_AW_go rfl rfl rfl rfl
theorem w11_52 {L st : List Value} : am_AW d 11 (52, L, st, n, M) Q = (am_AW d 11 (3, L, st, n, M) Q) := am_AW_go rfl rfl rfl rfl
theorem w11_55 {L : List Value} : am_AW d 11 (55, L, [], n, M) Q = (Q none n M) := am_AW_ret (rv := (none, n)) rfl rfl rfl (am_mono_self n)
end W11
section W12
variable {d : Nat} {n : am_N} {M : am_M} {Q : Option Value → am_N → am_M → Prop}
theorem w12_0 {a0 : Value} {x : Nat} {st : List Value} : am_AW d 12 (0, [a0, .ref x], st, n, M) Q = (am_AW d 12 (1, [a0, .ref x], .ref x :: st, n, M) Q) := am_AW_go rfl rfl rfl rfl
theorem w12_1 {L st : List Value} {v0 : Value} : am_AW d 12 (1, L, v0 :: st, n, M) Q = (am_okA 1 (v0 :: st) = true ∧ am_isO M [v0] 0 = true ∧ am_Do d 109 [v0] n M (am_then d 12 4 0 L st n Q)) := am_AW_cv (i := 159) (x := 109) (y := 1) (z := 0) rfl
theorem w12_4 {a1 : Value} {x : Nat} {st : List Value} : am_AW d 12 (4, [.ref x, a1], st, n, M) Q = (am_AW d 12 (5, [.ref x, a1], .ref x :: st, n, M) Q) := am_AW_go rfl rfl rfl rfl
theorem w12_5 {L st : List Value} {h : Nat} : am_AW d 12 (5, L, .ref h :: st, n, M) Q = (∃ v, am_fld M h 9 3 = some v ∧ am_AW d 12 (8, L, v :: st, n, M) Q) := am_AW_op (o := am_fld M h 9 3) (f := fun v => (8, L, v :: st, n, M)) rfl rfl (am_bm _ _) (fun _ => rfl)
theorem w12_8 {a1 : Value} {x : Nat} {st : List Value} : am_AW d 12 (8, [.ref x, a1], st, n, M) Q = (am_AW d 12 (9, [.ref x, a1], .ref x :: st, n, M) Q) := am_AW_go rfl rfl rfl rfl
theorem w12_9 {L st : List Value} {h : Nat} : am_AW d 12 (9, L, .ref h :: st, n, M) Q = (∃ v, am_fld M h 9 5 = some v ∧ am_AW d 12 (12, L, v :: st, n, M) Q) := am_AW_op (o := am_fld M h 9 5) (f := fun v => (12, L, v :: st, n, M)) rfl rfl (am_bm _ _) (fun _ => rfl)
theorem w12_12 {L st : List Value} {h : Nat} : am_AW d 12 (12, L, .ref h :: st, n, M) Q = (∃ v, am_fld M h 5 2 = some v ∧ am_AW d 12 (15, L, v :: st, n, M) Q) := am_AW_op (o := am_fld M h 5 2) (f := fun v => (15, L, v :: st, n, M)) rfl rfl (am_bm _ _) (fun _ => rfl)
theorem w12_15 {L st : List Value} : am_AW d 12 (15, L, st, n, M) Q = (am_AW d 12 (16, L, .int (am_z 0) :: st, n, M) Q) := am_AW_go rfl rfl rfl rfl
theorem w12_16 {L st : List Value} : am_AW d 12 (16, L, st, n, M) Q = (am_AW d 12 (17, L, .int (am_z 0) :: st, n, M) Q) := am_AW_go rfl rfl rfl rfl
theorem w12_17 {a0 : Value} {x : Nat} {st : List Value} : am_AW d 12 (17, [a0, .ref x], st, n, M) Q = (am_AW d 12 (18, [a0, .ref x], .ref x :: st, n, M) Q) := am_AW_go rfl rfl rfl rfl
theorem w12_18 {L st : List Value} {v0 v1 v2 v3 v4 : Value} : am_AW d 12 (18, L, v0 :: v1 :: v2 :: v3 :: v4 :: st, n, M) Q = (am_okA 5 (v0 :: v1 :: v2 :: v3 :: v4 :: st) = true ∧ am_isO M [v4, v3, v2, v1, v0] 4 = true ∧ am_Do d 73 [v4, v3, v2, v1, v0] n M (am_then d 12 21 0 L st n Q)) := am_AW_cv (i := 163) (x := 73) (y := 405) (z := 0) rfl
theorem w12_21 {L : List Value} : am_AW d 12 (21, L, [], n, M) Q = (Q none n M) := am_AW_ret (rv := (none, n)) rfl rfl rfl (am_mono_self n)
end W12
section W13
variable {d : Nat} {n : am_N} {M : am_M} {Q : Option Value → am_N → am_M → Prop}
theorem w13_0 {x : Int32} {st : List Value} : am_AW d 13 (0, [.int x], st, n, M) Q = (am_AW d 13 (1, [.int x], .int x :: st, n, M) Q) := am_AW_go rfl rfl rfl rfl
theorem w13_1 {L st : List Value} {x : Int32} : am_AW d 13 (1, L, .int x :: st, n, M) Q = (if x < am_z 0 then am_AW d 13 (13, L, st, n, M) Q else am_AW d 13 (4, L, st, n, M) Q) := (am_AW_ifz rfl).trans am_ite_lt
theorem w13_4 {x : Int32} {st : List Value} : am_AW d 13 (4, [.int x], st, n, M) Q = (am_AW d 13 (5, [.int x], .int x :: st, n, M) Q) := am_AW_go rfl rfl rfl rfl
theorem w13_5 {L st : List Value} : am_AW d 13 (5, L, st, n, M) Q = (am_AW d 13 (6, L, .int (am_z 2) :: st, n, M) Q) := am_AW_go rfl rfl rfl rfl
theorem w13_6 {L st : List Value} {x y : Int32} : am_AW d 13 (6, L, .int y :: .int x :: st, n, M) Q = (if x ≤ y then am_AW d 13 (9, L, st, n, M) Q else am_AW d 13 (13, L, st, n, M) Q) := (am_AW_icmp rfl).trans am_ite_gt
theorem w13_9 {L st : List Value} : am_AW d 13 (9, L, st, n, M) Q = (am_AW d 13 (10, L, .int (am_z 1) :: st, n, M) Q) := am_AW_go rfl rfl rfl rfl
theorem w13_10 {L st : List Value} : am_AW d 13 (10, L, st, n, M) Q = (am_AW d 13 (14, L, st, n, M) Q) := am_AW_go rfl rfl rfl rfl
theorem w13_13 {L st : List Value} : am_AW d 13 (13, L, st, n, M) Q = (am_AW d 13 (14, L, .int (am_z 0) :: st, n, M) Q) := am_AW_go rfl rfl rfl rfl
theorem w13_14 {L : List Value} {x : Int32} (hf : am_fit 1 (.int x) = true) : am_AW d 13 (14, L, [.int x], n, M) Q = (Q (some (.int x)) n M) := am_AW_ret (rv := (some (.int x), n)) rfl rfl (if_pos hf) (am_mono_self n)
end W13
section W14
variable {d : Nat} {n : am_N} {M : am_M} {Q : Option Value → am_N → am_M → Prop}
theorem w14_0 {x : Int32} {st : List Value} : am_AW d 14 (0, [.int x], st, n, M) Q = (am_AW d 14 (1, [.int x], .int x :: st, n, M) Q) := am_AW_go rfl rfl rfl rfl
theorem w14_1 {L st : List Value} : am_AW d 14 (1, L, st, n, M) Q = (am_AW d 14 (2, L, .int (am_z 1) :: st, n, M) Q) := am_AW_go rfl rfl rfl rfl
theorem w14_2 {L st : List Value} {x y : Int32} : am_AW d 14 (2, L, .int y :: .int x :: st, n, M) Q = (if x = y then am_AW d 14 (10, L, st, n, M) Q else am_AW d 14 (5, L, st, n, M) Q) := (am_AW_icmp rfl).trans am_ite_eq
theorem w14_5 {x : Int32} {st : List Value} : am_AW d 14 (5, [.int x], st, n, M) Q = (am_AW d 14 (6, [.int x], .int x :: st, n, M) Q) := am_AW_go rfl rfl rfl rfl
theorem w14_6 {L st : List Value} : am_AW d 14 (6, L, st, n, M) Q = (am_AW d 14 (7, L, .int (am_z 2) :: st, n, M) Q) := am_AW_go rfl rfl rfl rfl
theorem w14_7 {L st : List Value} {x y : Int32} : am_AW d 14 (7, L, .int y :: .int x :: st, n, M) Q = (if x = y then am_AW d 14 (10, L, st, n, M) Q else am_AW d 14 (14, L, st, n, M) Q) := (am_AW_icmp rfl).trans am_ite_ne
theorem w14_10 {L st : List Value} : am_AW d 14 (10, L, st, n, M) Q = (am_AW d 14 (11, L, .int (am_z 1) :: st, n, M) Q) := am_AW_go rfl rfl rfl rfl
theorem w14_11 {L st : List Value} : am_AW d 14 (11, L, st, n, M) Q = (am_AW d 14 (15, L, st, n, M) Q) := am_AW_go rfl rfl rfl rfl
theorem w14_14 {L st : List Value} : am_AW d 14 (14, L, st, n, M) Q = (am_AW d 14 (15, L, .int (am_z 0) :: st, n, M) Q) := am_AW_go rfl rfl rfl rfl
theorem w14_15 {L : List Value} {x : Int32} (hf : am_fit 1 (.int x) = true) : am_AW d 14 (15, L, [.int x], n, M) Q = (Q (some (.int x)) n M) := am_AW_ret (rv := (some (.int x), n)) rfl rfl (if_pos hf) (am_mono_self n)
end W14
section W15
variable {d : Nat} {n : am_N} {M : am_M} {Q : Option Value → am_N → am_M → Prop}
theorem w15_0 {x : Int32} {st : List Value} : am_AW d 15 (0, [.int x], st, n, M) Q = (am_AW d 15 (1, [.int x], .int x :: st, n, M) Q) := am_AW_go rfl rfl rfl rfl
theorem w15_1 {L st : List Value} : am_AW d 15 (1, L, st, n, M) Q = (am_AW d 15 (3, L, .int (am_z 10) :: st, n, M) Q) := am_AW_go rfl rfl rfl rfl
theorem w15_3 {L st : List Value} {x y : Int32} : am_AW d 15 (3, L, .int y :: .int x :: st, n, M) Q = (if x < y then am_AW d 15 (16, L, st, n, M) Q else am_AW d 15 (6, L, st, n, M) Q) := (am_AW_icmp rfl).trans am_ite_lt
theorem w15_6 {x : Int32} {st : List Value} : am_AW d 15 (6, [.int x], st, n, M) Q = (am_AW d 15 (7, [.int x], .int x :: st, n, M) Q) := am_AW_go rfl rfl rfl rfl
theorem w15_7 {L st : List Value} : am_AW d 15 (7, L, st, n, M) Q = (am_AW d 15 (9, L, .int (am_z 18) :: st, n, M) Q) := am_AW_go rfl rfl rfl rfl
theorem w15_9 {L st : List Value} {x y : Int32} : am_AW d 15 (9, L, .int y :: .int x :: st, n, M) Q = (if x < y then am_AW d 15 (12, L, st, n, M) Q else am_AW d 15 (16, L, st, n, M) Q) := (am_AW_icmp rfl).trans am_ite_ge
theorem w15_12 {L st : List Value} : am_AW d 15 (12, L, st, n, M) Q = (am_AW d 15 (13, L, .int (am_z 1) :: st, n, M) Q) := am_AW_go rfl rfl rfl rfl
theorem w15_13 {L st : List Value} : am_AW d 15 (13, L, st, n, M) Q = (am_AW d 15 (17, L, st, n, M) Q) := am_AW_go rfl rfl rfl rfl
theorem w15_16 {L st : List Value} : am_AW d 15 (16, L, st, n, M) Q = (am_AW d 15 (17, L, .int (am_z 0) :: st, n, M) Q) := am_AW_go rfl rfl rfl rfl
theorem w15_17 {L : List Value} {x : Int32} (hf : am_fit 1 (.int x) = true) : am_AW d 15 (17, L, [.int x], n, M) Q = (Q (some (.int x)) n M) := am_AW_ret (rv := (some (.int x), n)) rfl rfl (if_pos hf) (am_mono_self n)
end W15
section W16
variable {d : Nat} {n : am_N} {M : am_M} {Q : Option Value → am_N → am_M → Prop}
theorem w16_0 {x : Int32} {st : List Value} : am_AW d 16 (0, [.int x], st, n, M) Q = (am_AW d 16 (1, [.int x], .int x :: st, n, M) Q) := am_AW_go rfl rfl rfl rfl
theorem w16_1 {L st : List Value} : am_AW d 16 (1, L, st, n, M) Q = (am_AW d 16 (3, L, .int (am_z 20) :: st, n, M) Q) := am_AW_go rfl rfl rfl rfl
theorem w16_3 {L st : List Value} {x y : Int32} : am_AW d 16 (3, L, .int y :: .int x :: st, n, M) Q = (if x < y then am_AW d 16 (16, L, st, n, M) Q else am_AW d 16 (6, L, st, n, M) Q) := (am_AW_icmp rfl).trans am_ite_lt
theorem w16_6 {x : Int32} {st : List Value} : am_AW d 16 (6, [.int x], st, n, M) Q = (am_AW d 16 (7, [.int x], .int x :: st, n, M) Q) := am_AW_go rfl rfl rfl rfl
theorem w16_7 {L st : List Value} : am_AW d 16 (7, L, st, n, M) Q = (am_AW d 16 (9, L, .int (am_z 40) :: st, n, M) Q) := am_AW_go rfl rfl rfl rfl
theorem w16_9 {L st : List Value} {x y : Int32} : am_AW d 16 (9, L, .int y :: .int x :: st, n, M) Q = (if x ≤ y then am_AW d 16 (12, L, st, n, M) Q else am_AW d 16 (16, L, st, n, M) Q) := (am_AW_icmp rfl).trans am_ite_gt
theorem w16_12 {L st : List Value} : am_AW d 16 (12, L, st, n, M) Q = (am_AW d 16 (13, L, .int (am_z 1) :: st, n, M) Q) := am_AW_go rfl rfl rfl rfl
theorem w16_13 {L st : List Value} : am_AW d 16 (13, L, st, n, M) Q = (am_AW d 16 (17, L, st, n, M) Q) := am_AW_go rfl rfl rfl rfl
theorem w16_16 {L st : List Value} : am_AW d 16 (16, L, st, n, M) Q = (am_AW d 16 (17, L, .int (am_z 0) :: st, n, M) Q) := am_AW_go rfl rfl rfl rfl
theorem w16_17 {L : List Value} {x : Int32} (hf : am_fit 1 (.int x) = true) : am_AW d 16 (17, L, [.int x], n, M) Q = (Q (some (.int x)) n M) := am_AW_ret (rv := (some (.int x), n)) rfl rfl (if_pos hf) (am_mono_self n)
end W16
section W17
variable {d : Nat} {n : am_N} {M : am_M} {Q : Option Value → am_N → am_M → Prop}
theorem w17_0 {x : Int32} {st : List Value} : am_AW d 17 (0, [.int x], st, n, M) Q = (am_AW d 17 (1, [.int x], .int x :: st, n, M) Q) := am_AW_go rfl rfl rfl rfl
theorem w17_1 {L st : List Value} : am_AW d 17 (1, L, st, n, M) Q = (am_AW d 17 (3, L, .int (am_z 50) :: st, n, M) Q) := am_AW_go rfl rfl rfl rfl
theorem w17_3 {L st : List Value} {x y : Int32} : am_AW d 17 (3, L, .int y :: .int x :: st, n, M) Q = (if x < y then am_AW d 17 (10, L, st, n, M) Q else am_AW d 17 (6, L, st, n, M) Q) := (am_AW_icmp rfl).trans am_ite_lt
theorem w17_6 {L st : List Value} : am_AW d 17 (6, L, st, n, M) Q = (am_AW d 17 (7, L, .int (am_z 1) :: st, n, M) Q) := am_AW_go rfl rfl rfl rfl
theorem w17_7 {L st : List Value} : am_AW d 17 (7, L, st, n, M) Q = (am_AW d 17 (11, L, st, n, M) Q) := am_AW_go rfl rfl rfl rfl
theorem w17_10 {L st : List Value} : am_AW d 17 (10, L, st, n, M) Q = (am_AW d 17 (11, L, .int (am_z 0) :: st, n, M) Q) := am_AW_go rfl rfl rfl rfl
theorem w17_11 {L : List Value} {x : Int32} (hf : am_fit 1 (.int x) = true) : am_AW d 17 (11, L, [.int x], n, M) Q = (Q (some (.int x)) n M) := am_AW_ret (rv := (some (.int x), n)) rfl rfl (if_pos hf) (am_mono_self n)
end W17
section W109
variable {d : Nat} {n : am_N} {M : am_M} {Q : Option Value → am_N → am_M → Prop}
theorem w109_0 {x : Nat} {st : List Value} : am_AW d 109 (0, [.ref x], st, n, M) Q = (am_AW d 109 (1, [.ref x], .ref x :: st, n, M) Q) := am_AW_go rfl rfl rfl rfl
theorem w109_1 {L st : List Value} : am_AW d 109 (1, L, st, n, M) Q = (am_AW d 109 (2, L, .int (am_z 0) :: st, n, M) Q) := am_AW_go rfl rfl rfl rfl
theorem w109_2 {L st : List Value} {h : Nat} {v : Value} : am_AW d 109 (2, L, v :: .ref h :: st, n, M) Q = (am_fit 0 v = true ∧ ∃ M', am_setf M h 0 1 v = some M' ∧ am_AW d 109 (5, L, st, n, M') Q) := am_AW_put rfl
theorem w109_5 {x : Nat} {st : List Value} : am_AW d 109 (5, [.ref x], st, n, M) Q = (am_AW d 109 (6, [.ref x], .ref x :: st, n, M) Q) := am_AW_go rfl rfl rfl rfl
theorem w109_6 {L st : List Value} : am_AW d 109 (6, L, st, n, M) Q = (am_AW d 109 (7, L, .int (am_z 0) :: st, n, M) Q) := am_AW_go rfl rfl rfl rfl
theorem w109_7 {L st : List Value} {h : Nat} {v : Value} : am_AW d 109 (7, L, v :: .ref h :: st, n, M) Q = (am_fit 1 v = true ∧ ∃ M', am_setf M h 0 2 v = some M' ∧ am_AW d 109 (10, L, st, n, M') Q) := am_AW_put rfl
theorem w109_10 {L : List Value} : am_AW d 109 (10, L, [], n, M) Q = (Q none n M) := am_AW_ret (rv := (none, n)) rfl rfl rfl (am_mono_self n)
end W109
section W110
variable {d : Nat} {n : am_N} {M : am_M} {Q : Option Value → am_N → am_M → Prop}
theorem w110_0 {a1 : Value} {x : Nat} {st : List Value} : am_AW d 110 (0, [.ref x, a1], st, n, M) Q = (am_AW d 110 (1, [.ref x, a1], .ref x :: st, n, M) Q) := am_AW_go rfl rfl rfl rfl
theorem w110_1 {L st : List Value} {h : Nat} : am_AW d 110 (1, L, .ref h :: st, n, M) Q = (∃ v, am_fld M h 0 1 = some v ∧ am_AW d 110 (4, L, v :: st, n, M) Q) := am_AW_op (o := am_fld M h 0 1) (f := fun v => (4, L, v :: st, n, M)) rfl rfl (am_bm _ _) (fun _ => rfl)
theorem w110_4 {a1 : Value} {x : Nat} {st : List Value} : am_AW d 110 (4, [.ref x, a1], st, n, M) Q = (am_AW d 110 (5, [.ref x, a1], .ref x :: st, n, M) Q) := am_AW_go rfl rfl rfl rfl
theorem w110_5 {L st : List Value} {h : Nat} : am_AW d 110 (5, L, .ref h :: st, n, M) Q = (∃ v, am_fld M h 0 0 = some v ∧ am_AW d 110 (8, L, v :: st, n, M) Q) := am_AW_op (o := am_fld M h 0 0) (f := fun v => (8, L, v :: st, n, M)) rfl rfl (am_bm _ _) (fun _ => rfl)
theorem w110_8 {L st : List Value} {h : Nat} : am_AW d 110 (8, L, .ref h :: st, n, M) Q = (∃ v, am_len M h = some v ∧ am_AW d 110 (9, L, .int v :: st, n, M) Q) := am_AW_op (o := am_len M h) (f := fun v => (9, L, .int v :: st, n, M)) rfl rfl (am_bm _ _) (fun _ => rfl)
theorem w110_9 {L st : List Value} {x y : Int32} : am_AW d 110 (9, L, .int y :: .int x :: st, n, M) Q = (if x < y then am_AW d 110 (12, L, st, n, M) Q else am_AW d 110 (35, L, st, n, M) Q) := (am_AW_icmp rfl).trans am_ite_ge
theorem w110_12 {a1 : Value} {x : Nat} {st : List Value} : am_AW d 110 (12, [.ref x, a1], st, n, M) Q = (am_AW d 110 (13, [.ref x, a1], .ref x :: st, n, M) Q) := am_AW_go rfl rfl rfl rfl
theorem w110_13 {L st : List Value} {h : Nat} : am_AW d 110 (13, L, .ref h :: st, n, M) Q = (∃ v, am_fld M h 0 0 = some v ∧ am_AW d 110 (16, L, v :: st, n, M) Q) := am_AW_op (o := am_fld M h 0 0) (f := fun v => (16, L, v :: st, n, M)) rfl rfl (am_bm _ _) (fun _ => rfl)
theorem w110_16 {a1 : Value} {x : Nat} {st : List Value} : am_AW d 110 (16, [.ref x, a1], st, n, M) Q = (am_AW d 110 (17, [.ref x, a1], .ref x :: st, n, M) Q) := am_AW_go rfl rfl rfl rfl
theorem w110_17 {L st : List Value} {h : Nat} : am_AW d 110 (17, L, .ref h :: st, n, M) Q = (∃ v, am_fld M h 0 1 = some v ∧ am_AW d 110 (20, L, v :: st, n, M) Q) := am_AW_op (o := am_fld M h 0 1) (f := fun v => (20, L, v :: st, n, M)) rfl rfl (am_bm _ _) (fun _ => rfl)
theorem w110_20 {a0 : Value} {x : Int32} {st : List Value} : am_AW d 110 (20, [a0, .int x], st, n, M) Q = (am_AW d 110 (21, [a0, .int x], .int x :: st, n, M) Q) := am_AW_go rfl rfl rfl rfl
theorem w110_21 {L st : List Value} {h : Nat} {i v : Int32} : am_AW d 110 (21, L, .int v :: .int i :: .ref h :: st, n, M) Q = (am_fit 0 (.int v) = true ∧ ∃ M', am_ast 0 M h i v = some M' ∧ am_AW d 110 (22, L, st, n, M') Q) := am_AW_ast rfl (Or.inl ⟨rfl, rfl, rfl⟩)
theorem w110_22 {a1 : Value} {x : Nat} {st : List Value} : am_AW d 110 (22, [.ref x, a1], st, n, M) Q = (am_AW d 110 (23, [.ref x, a1], .ref x :: st, n, M) Q) := am_AW_go rfl rfl rfl rfl
theorem w110_23 {L st : List Value} {x : Nat} : am_AW d 110 (23, L, .ref x :: st, n, M) Q = (am_AW d 110 (24, L, .ref x :: .ref x :: st, n, M) Q) := am_AW_go rfl rfl rfl rfl
theorem w110_23i {L st : List Value} {x : Int32} : am_AW d 110 (23, L, .int x :: st, n, M) Q = (am_AW d 110 (24, L, .int x :: .int x :: st, n, M) Q) := am_AW_go rfl rfl rfl rfl
theorem w110_24 {L st : List Value} {h : Nat} : am_AW d 110 (24, L, .ref h :: st, n, M) Q = (∃ v, am_fld M h 0 1 = some v ∧ am_AW d 110 (27, L, v :: st, n, M) Q) := am_AW_op (o := am_fld M h 0 1) (f := fun v => (27, L, v :: st, n, M)) rfl rfl (am_bm _ _) (fun _ => rfl)
theorem w110_27 {L st : List Value} : am_AW d 110 (27, L, st, n, M) Q = (am_AW d 110 (28, L, .int (am_z 1) :: st, n, M) Q) := am_AW_go rfl rfl rfl rfl
theorem w110_28 {L st : List Value} {x y : Int32} : am_AW d 110 (28, L, .int y :: .int x :: st, n, M) Q = (am_AW d 110 (29, L, .int (x + y) :: st, n, M) Q) := am_AW_go rfl rfl rfl rfl
theorem w110_29 {L st : List Value} {h : Nat} {v : Value} : am_AW d 110 (29, L, v :: .ref h :: st, n, M) Q = (am_fit 0 v = true ∧ ∃ M', am_setf M h 0 1 v = some M' ∧ am_AW d 110 (32, L, st, n, M') Q) := am_AW_put rfl
theorem w110_32 {L st : List Value} : am_AW d 110 (32, L, st, n, M) Q = (am_AW d 110 (40, L, st, n, M) Q) := am_AW_go rfl rfl rfl rfl
theorem w110_35 {a1 : Value} {x : Nat} {st : List Value} : am_AW d 110 (35, [.ref x, a1], st, n, M) Q = (am_AW d 110 (36, [.ref x, a1], .ref x :: st, n, M) Q) := am_AW_go rfl rfl rfl rfl
theorem w110_36 {L st : List Value} : am_AW d 110 (36, L, st, n, M) Q = (am_AW d 110 (37, L, .int (am_z 1) :: st, n, M) Q) := am_AW_go rfl rfl rfl rfl
theorem w110_37 {L st : List Value} {h : Nat} {v : Value} : am_AW d 110 (37, L, v :: .ref h :: st, n, M) Q = (am_fit 1 v = true ∧ ∃ M', am_setf M h 0 2 v = some M' ∧ am_AW d 110 (40, L, st, n, M') Q) := am_AW_put rfl
theorem w110_40 {L : List Value} : am_AW d 110 (40, L, [], n, M) Q = (Q none n M) := am_AW_ret (rv := (none, n)) rfl rfl rfl (am_mono_self n)
end W110
section W111
variable {d : Nat} {n : am_N} {M : am_M} {Q : Option Value → am_N → am_M → Prop}
theorem w111_0 {a0 a1 a3 a4 : Value} {x : Int32} {st : List Value} : am_AW d 111 (0, [a0, a1, .int x, a3, a4], st, n, M) Q = (am_AW d 111 (1, [a0, a1, .int x, a3, a4], .int x :: st, n, M) Q) := am_AW_go rfl rfl rfl rfl
theorem w111_1 {a0 a1 a2 a3 a4 : Value} {x : Int32} {st : List Value} : am_AW d 111 (1, [a0, a1, a2, a3, a4], .int x :: st, n, M) Q = (am_AW d 111 (3, [a0, a1, a2, a3, .int x], st, n, M) Q) := am_AW_go rfl rfl rfl rfl
theorem w111_3 {a0 a1 a2 a3 : Value} {x : Int32} {st : List Value} : am_AW d 111 (3, [a0, a1, a2, a3, .int x], st, n, M) Q = (am_AW d 111 (5, [a0, a1, a2, a3, .int x], .int x :: st, n, M) Q) := am_AW_go rfl rfl rfl rfl
theorem w111_5 {a0 a1 a2 a4 : Value} {x : Int32} {st : List Value} : am_AW d 111 (5, [a0, a1, a2, .int x, a4], st, n, M) Q = (am_AW d 111 (6, [a0, a1, a2, .int x, a4], .int x :: st, n, M) Q) := am_AW_go rfl rfl rfl rfl
theorem w111_6 {L st : List Value} {x y : Int32} : am_AW d 111 (6, L, .int y :: .int x :: st, n, M) Q = (if x < y then am_AW d 111 (9, L, st, n, M) Q else am_AW d 111 (25, L, st, n, M) Q) := (am_AW_icmp rfl).trans am_ite_ge
theorem w111_9 {a1 a2 a3 a4 : Value} {x : Nat} {st : List Value} : am_AW d 111 (9, [.ref x, a1, a2, a3, a4], st, n, M) Q = (am_AW d 111 (10, [.ref x, a1, a2, a3, a4], .ref x :: st, n, M) Q) := am_AW_go rfl rfl rfl rfl
theorem w111_10 {a0 a2 a3 a4 : Value} {x : Nat} {st : List Value} : am_AW d 111 (10, [a0, .ref x, a2, a3, a4], st, n, M) Q = (am_AW d 111 (11, [a0, .ref x, a2, a3, a4], .ref x :: st, n, M) Q) := am_AW_go rfl rfl rfl rfl
theorem w111_11 {a0 a1 a2 a3 : Value} {x : Int32} {st : List Value} : am_AW d 111 (11, [a0, a1, a2, a3, .int x], st, n, M) Q = (am_AW d 111 (13, [a0, a1, a2, a3, .int x], .int x :: st, n, M) Q) := am_AW_go rfl rfl rfl rfl
theorem w111_13 {L st : List Value} {v0 v1 : Value} : am_AW d 111 (13, L, v0 :: v1 :: st, n, M) Q = (am_okA 2 (v0 :: v1 :: st) = true ∧ am_isO M [v1, v0] 0 = true ∧ am_Do d 114 [v1, v0] n M (am_then d 111 16 0 L st n Q)) := am_AW_cv (i := 23) (x := 114) (y := 2) (z := 0) rfl
theorem w111_16 {L st : List Value} {v0 v1 : Value} : am_AW d 111 (16, L, v0 :: v1 :: st, n, M) Q = (am_okA 2 (v0 :: v1 :: st) = true ∧ am_isO M [v1, v0] 0 = true ∧ am_Do d 110 [v1, v0] n M (am_then d 111 19 0 L st n Q)) := am_AW_cv (i := 27) (x := 110) (y := 2) (z := 0) rfl
theorem w111_19 {a0 a1 a2 a3 : Value} {x : Int32} {st : List Value} : am_AW d 111 (19, [a0, a1, a2, a3, .int x], st, n, M) Q = (am_AW d 111 (22, [a0, a1, a2, a3, .int (x + (am_z 1))], st, n, M) Q) := am_AW_go rfl rfl rfl rfl
theorem w111_22 {L st : List Value} : am_AW d 111 (22, L, st, n, M) Q = (am_AW d 111 (3, L, st, n, M) Q) := am_AW_go rfl rfl rfl rfl
theorem w111_25 {L : List Value} : am_AW d 111 (25, L, [], n, M) Q = (Q none n M) := am_AW_ret (rv := (none, n)) rfl rfl rfl (am_mono_self n)
end W111
section W112
variable {d : Nat} {n : am_N} {M : am_M} {Q : Option Value → am_N → am_M → Prop}
theorem w112_0 {L st : List Value} : am_AW d 112 (0, L, st, n, M) Q = (am_AW d 112 (1, L, .int (am_z 0) :: st, n, M) Q) := am_AW_go rfl rfl rfl rfl
theorem w112_1 {a0 a1 a2 : Value} {x : Int32} {st : List Value} : am_AW d 112 (1, [a0, a1, a2], .int x :: st, n, M) Q = (am_AW d 112 (2, [a0, a1, .int x], st, n, M) Q) := am_AW_go rfl rfl rfl rfl
theorem w112_2 {a0 a1 : Value} {x : Int32} {st : List Value} : am_AW d 112 (2, [a0, a1, .int x], st, n, M) Q = (am_AW d 112 (3, [a0, a1, .int x], .int x :: st, n, M) Q) := am_AW_go rfl rfl rfl rfl
theorem w112_3 {a0 a2 : Value} {x : Int32} {st : List Value} : am_AW d 112 (3, [a0, .int x, a2], st, n, M) Q = (am_AW d 112 (4, [a0, .int x, a2], .int x :: st, n, M) Q) := am_AW_go rfl rfl rfl rfl
theorem w112_4 {L st : List Value} {x y : Int32} : am_AW d 112 (4, L, .int y :: .int x :: st, n, M) Q = (if x < y then am_AW d 112 (7, L, st, n, M) Q else am_AW d 112 (24, L, st, n, M) Q) := (am_AW_icmp rfl).trans am_ite_ge
theorem w112_7 {a1 a2 : Value} {x : Nat} {st : List Value} : am_AW d 112 (7, [.ref x, a1, a2], st, n, M) Q = (am_AW d 112 (8, [.ref x, a1, a2], .ref x :: st, n, M) Q) := am_AW_go rfl rfl rfl rfl
theorem w112_8 {L st : List Value} : am_AW d 112 (8, L, st, n, M) Q = (am_AW d 112 (9, L, .int (am_z 0) :: st, n, M) Q) := am_AW_go rfl rfl rfl rfl
theorem w112_9 {L st : List Value} {v0 v1 : Value} : am_AW d 112 (9, L, v0 :: v1 :: st, n, M) Q = (am_okA 2 (v0 :: v1 :: st) = true ∧ am_isO M [v1, v0] 0 = true ∧ am_Do d 110 [v1, v0] n M (am_then d 112 12 0 L st n Q)) := am_AW_cv (i := 27) (x := 110) (y := 2) (z := 0) rfl
theorem w112_12 {a1 a2 : Value} {x : Nat} {st : List Value} : am_AW d 112 (12, [.ref x, a1, a2], st, n, M) Q = (am_AW d 112 (13, [.ref x, a1, a2], .ref x :: st, n, M) Q) := am_AW_go rfl rfl rfl rfl
theorem w112_13 {L st : List Value} : am_AW d 112 (13, L, st, n, M) Q = (am_AW d 112 (15, L, .int (am_z 7) :: st, n, M) Q) := am_AW_go rfl rfl rfl rfl
theorem w112_15 {L st : List Value} {v0 v1 : Value} : am_AW d 112 (15, L, v0 :: v1 :: st, n, M) Q = (am_okA 2 (v0 :: v1 :: st) = true ∧ am_isO M [v1, v0] 0 = true ∧ am_Do d 110 [v1, v0] n M (am_then d 112 18 0 L st n Q)) := am_AW_cv (i := 27) (x := 110) (y := 2) (z := 0) rfl
theorem w112_18 {a0 a1 : Value} {x : Int32} {st : List Value} : am_AW d 112 (18, [a0, a1, .int x], st, n, M) Q = (am_AW d 112 (21, [a0, a1, .int (x + (am_z 1))], st, n, M) Q) := am_AW_go rfl rfl rfl rfl
theorem w112_21 {L st : List Value} : am_AW d 112 (21, L, st, n, M) Q = (am_AW d 112 (2, L, st, n, M) Q) := am_AW_go rfl rfl rfl rfl
theorem w112_24 {a1 a2 : Value} {x : Nat} {st : List Value} : am_AW d 112 (24, [.ref x, a1, a2], st, n, M) Q = (am_AW d 112 (25, [.ref x, a1, a2], .ref x :: st, n, M) Q) := am_AW_go rfl rfl rfl rfl
theorem w112_25 {L st : List Value} : am_AW d 112 (25, L, st, n, M) Q = (am_AW d 112 (27, L, .int (am_z 6) :: st, n, M) Q) := am_AW_go rfl rfl rfl rfl
theorem w112_27 {L st : List Value} {v0 v1 : Value} : am_AW d 112 (27, L, v0 :: v1 :: st, n, M) Q = (am_okA 2 (v0 :: v1 :: st) = true ∧ am_isO M [v1, v0] 0 = true ∧ am_Do d 110 [v1, v0] n M (am_then d 112 30 0 L st n Q)) := am_AW_cv (i := 27) (x := 110) (y := 2) (z := 0) rfl
theorem w112_30 {L : List Value} : am_AW d 112 (30, L, [], n, M) Q = (Q none n M) := am_AW_ret (rv := (none, n)) rfl rfl rfl (am_mono_self n)
end W112
section W113
variable {d : Nat} {n : am_N} {M : am_M} {Q : Option Value → am_N → am_M → Prop}
theorem w113_0 {a1 : Value} {x : Nat} {st : List Value} : am_AW d 113 (0, [.ref x, a1], st, n, M) Q = (am_AW d 113 (1, [.ref x, a1], .ref x :: st, n, M) Q) := am_AW_go rfl rfl rfl rfl
theorem w113_1 {L st : List Value} {v0 : Value} : am_AW d 113 (1, L, v0 :: st, n, M) Q = (am_okA 1 (v0 :: st) = true ∧ am_isO M [v0] 0 = true ∧ am_Do d 109 [v0] n M (am_then d 113 4 0 L st n Q)) := am_AW_cv (i := 31) (x := 109) (y := 1) (z := 0) rfl
theorem w113_4 {a1 : Value} {x : Nat} {st : List Value} : am_AW d 113 (4, [.ref x, a1], st, n, M) Q = (am_AW d 113 (5, [.ref x, a1], .ref x :: st, n, M) Q) := am_AW_go rfl rfl rfl rfl
theorem w113_5 {a0 : Value} {x : Nat} {st : List Value} : am_AW d 113 (5, [a0, .ref x], st, n, M) Q = (am_AW d 113 (6, [a0, .ref x], .ref x :: st, n, M) Q) := am_AW_go rfl rfl rfl rfl
theorem w113_6 {L st : List Value} : am_AW d 113 (6, L, st, n, M) Q = (am_AW d 113 (7, L, .int (am_z 0) :: st, n, M) Q) := am_AW_go rfl rfl rfl rfl
theorem w113_7 {a0 : Value} {x : Nat} {st : List Value} : am_AW d 113 (7, [a0, .ref x], st, n, M) Q = (am_AW d 113 (8, [a0, .ref x], .ref x :: st, n, M) Q) := am_AW_go rfl rfl rfl rfl
theorem w113_8 {L st : List Value} {h : Nat} : am_AW d 113 (8, L, .ref h :: st, n, M) Q = (∃ v, am_fld M h 0 1 = some v ∧ am_AW d 113 (11, L, v :: st, n, M) Q) := am_AW_op (o := am_fld M h 0 1) (f := fun v => (11, L, v :: st, n, M)) rfl rfl (am_bm _ _) (fun _ => rfl)
theorem w113_11 {L st : List Value} {v0 v1 v2 v3 : Value} : am_AW d 113 (11, L, v0 :: v1 :: v2 :: v3 :: st, n, M) Q = (am_okA 4 (v0 :: v1 :: v2 :: v3 :: st) = true ∧ am_isO M [v3, v2, v1, v0] 0 = true ∧ am_Do d 111 [v3, v2, v1, v0] n M (am_then d 113 14 0 L st n Q)) := am_AW_cv (i := 34) (x := 111) (y := 4) (z := 0) rfl
theorem w113_14 {a1 : Value} {x : Nat} {st : List Value} : am_AW d 113 (14, [.ref x, a1], st, n, M) Q = (am_AW d 113 (15, [.ref x, a1], .ref x :: st, n, M) Q) := am_AW_go rfl rfl rfl rfl
theorem w113_15 {a1 : Value} {x : Nat} {st : List Value} : am_AW d 113 (15, [.ref x, a1], st, n, M) Q = (am_AW d 113 (16, [.ref x, a1], .ref x :: st, n, M) Q) := am_AW_go rfl rfl rfl rfl
theorem w113_16 {L st : List Value} {h : Nat} : am_AW d 113 (16, L, .ref h :: st, n, M) Q = (∃ v, am_fld M h 0 2 = some v ∧ am_AW d 113 (19, L, v :: st, n, M) Q) := am_AW_op (o := am_fld M h 0 2) (f := fun v => (19, L, v :: st, n, M)) rfl rfl (am_bm _ _) (fun _ => rfl)
theorem w113_19 {L st : List Value} {x : Int32} : am_AW d 113 (19, L, .int x :: st, n, M) Q = (if x = am_z 0 then am_AW d 113 (22, L, st, n, M) Q else am_AW d 113 (29, L, st, n, M) Q) := (am_AW_ifz rfl).trans am_ite_ne
theorem w113_22 {a0 : Value} {x : Nat} {st : List Value} : am_AW d 113 (22, [a0, .ref x], st, n, M) Q = (am_AW d 113 (23, [a0, .ref x], .ref x :: st, n, M) Q) := am_AW_go rfl rfl rfl rfl
theorem w113_23 {L st : List Value} {h : Nat} : am_AW d 113 (23, L, .ref h :: st, n, M) Q = (∃ v, am_fld M h 0 2 = some v ∧ am_AW d 113 (26, L, v :: st, n, M) Q) := am_AW_op (o := am_fld M h 0 2) (f := fun v => (26, L, v :: st, n, M)) rfl rfl (am_bm _ _) (fun _ => rfl)
theorem w113_26 {L st : List Value} {x : Int32} : am_AW d 113 (26, L, .int x :: st, n, M) Q = (if x = am_z 0 then am_AW d 113 (33, L, st, n, M) Q else am_AW d 113 (29, L, st, n, M) Q) := (am_AW_ifz rfl).trans am_ite_eq
theorem w113_29 {L st : List Value} : am_AW d 113 (29, L, st, n, M) Q = (am_AW d 113 (30, L, .int (am_z 1) :: st, n, M) Q) := am_AW_go rfl rfl rfl rfl
theorem w113_30 {L st : List Value} : am_AW d 113 (30, L, st, n, M) Q = (am_AW d 113 (34, L, st, n, M) Q) := am_AW_go rfl rfl rfl rfl
theorem w113_33 {L st : List Value} : am_AW d 113 (33, L, st, n, M) Q = (am_AW d 113 (34, L, .int (am_z 0) :: st, n, M) Q) := am_AW_go rfl rfl rfl rfl
theorem w113_34 {L st : List Value} {h : Nat} {v : Value} : am_AW d 113 (34, L, v :: .ref h :: st, n, M) Q = (am_fit 1 v = true ∧ ∃ M', am_setf M h 0 2 v = some M' ∧ am_AW d 113 (37, L, st, n, M') Q) := am_AW_put rfl
theorem w113_37 {L : List Value} : am_AW d 113 (37, L, [], n, M) Q = (Q none n M) := am_AW_ret (rv := (none, n)) rfl rfl rfl (am_mono_self n)
end W113
section W114
variable {d : Nat} {n : am_N} {M : am_M} {Q : Option Value → am_N → am_M → Prop}
theorem w114_0 {a0 : Value} {x : Int32} {st : List Value} : am_AW d 114 (0, [a0, .int x], st, n, M) Q = (am_AW d 114 (1, [a0, .int x], .int x :: st, n, M) Q) := am_AW_go rfl rfl rfl rfl
theorem w114_1 {L st : List Value} {x : Int32} : am_AW d 114 (1, L, .int x :: st, n, M) Q = (if x < am_z 0 then am_AW d 114 (21, L, st, n, M) Q else am_AW d 114 (4, L, st, n, M) Q) := (am_AW_ifz rfl).trans am_ite_lt
theorem w114_4 {a0 : Value} {x : Int32} {st : List Value} : am_AW d 114 (4, [a0, .int x], st, n, M) Q = (am_AW d 114 (5, [a0, .int x], .int x :: st, n, M) Q) := am_AW_go rfl rfl rfl rfl
theorem w114_5 {a1 : Value} {x : Nat} {st : List Value} : am_AW d 114 (5, [.ref x, a1], st, n, M) Q = (am_AW d 114 (6, [.ref x, a1], .ref x :: st, n, M) Q) := am_AW_go rfl rfl rfl rfl
theorem w114_6 {L st : List Value} {h : Nat} : am_AW d 114 (6, L, .ref h :: st, n, M) Q = (∃ v, am_fld M h 0 1 = some v ∧ am_AW d 114 (9, L, v :: st, n, M) Q) := am_AW_op (o := am_fld M h 0 1) (f := fun v => (9, L, v :: st, n, M)) rfl rfl (am_bm _ _) (fun _ => rfl)
theorem w114_9 {L st : List Value} {x y : Int32} : am_AW d 114 (9, L, .int y :: .int x :: st, n, M) Q = (if x < y then am_AW d 114 (12, L, st, n, M) Q else am_AW d 114 (21, L, st, n, M) Q) := (am_AW_icmp rfl).trans am_ite_ge
theorem w114_12 {a1 : Value} {x : Nat} {st : List Value} : am_AW d 114 (12, [.ref x, a1], st, n, M) Q = (am_AW d 114 (13, [.ref x, a1], .ref x :: st, n, M) Q) := am_AW_go rfl rfl rfl rfl
theorem w114_13 {L st : List Value} {h : Nat} : am_AW d 114 (13, L, .ref h :: st, n, M) Q = (∃ v, am_fld M h 0 0 = some v ∧ am_AW d 114 (16, L, v :: st, n, M) Q) := am_AW_op (o := am_fld M h 0 0) (f := fun v => (16, L, v :: st, n, M)) rfl rfl (am_bm _ _) (fun _ => rfl)
theorem w114_16 {a0 : Value} {x : Int32} {st : List Value} : am_AW d 114 (16, [a0, .int x], st, n, M) Q = (am_AW d 114 (17, [a0, .int x], .int x :: st, n, M) Q) := am_AW_go rfl rfl rfl rfl
theorem w114_17 {L st : List Value} {h : Nat} {i : Int32} : am_AW d 114 (17, L, .int i :: .ref h :: st, n, M) Q = (∃ v, am_ald 0 M h i = some v ∧ am_AW d 114 (18, L, .int v :: st, n, M) Q) := am_AW_op (o := am_ald 0 M h i) (f := fun v => (18, L, .int v :: st, n, M)) rfl rfl (am_bm2 _ _ () ()) (fun _ => rfl)
theorem w114_18 {L st : List Value} : am_AW d 114 (18, L, st, n, M) Q = (am_AW d 114 (22, L, st, n, M) Q) := am_AW_go rfl rfl rfl rfl
theorem w114_21 {L st : List Value} : am_AW d 114 (21, L, st, n, M) Q = (am_AW d 114 (22, L, .int (am_z (-1)) :: st, n, M) Q) := am_AW_go rfl rfl rfl rfl
theorem w114_22 {L : List Value} {x : Int32} : am_AW d 114 (22, L, [.int x], n, M) Q = (Q (some (.int x)) n M) := am_AW_ret (rv := (some (.int x), n)) rfl rfl rfl (am_mono_self n)
end W114
section W115
variable {d : Nat} {n : am_N} {M : am_M} {Q : Option Value → am_N → am_M → Prop}
theorem w115_0 {L st : List Value} : am_AW d 115 (0, L, st, n, M) Q = (am_AW d 115 (1, L, .int (am_z 1) :: st, n, M) Q) := am_AW_go rfl rfl rfl rfl
theorem w115_1 {a0 a1 a2 a3 : Value} {x : Int32} {st : List Value} : am_AW d 115 (1, [a0, a1, a2, a3], .int x :: st, n, M) Q = (am_AW d 115 (2, [a0, a1, .int x, a3], st, n, M) Q) := am_AW_go rfl rfl rfl rfl
theorem w115_2 {a0 a2 a3 : Value} {x : Int32} {st : List Value} : am_AW d 115 (2, [a0, .int x, a2, a3], st, n, M) Q = (am_AW d 115 (3, [a0, .int x, a2, a3], .int x :: st, n, M) Q) := am_AW_go rfl rfl rfl rfl
theorem w115_3 {a0 a1 a2 a3 : Value} {x : Int32} {st : List Value} : am_AW d 115 (3, [a0, a1, a2, a3], .int x :: st, n, M) Q = (am_AW d 115 (4, [a0, a1, a2, .int x], st, n, M) Q) := am_AW_go rfl rfl rfl rfl
theorem w115_4 {a0 a1 a2 : Value} {x : Int32} {st : List Value} : am_AW d 115 (4, [a0, a1, a2, .int x], st, n, M) Q = (am_AW d 115 (5, [a0, a1, a2, .int x], .int x :: st, n, M) Q) := am_AW_go rfl rfl rfl rfl
theorem w115_5 {a1 a2 a3 : Value} {x : Nat} {st : List Value} : am_AW d 115 (5, [.ref x, a1, a2, a3], st, n, M) Q = (am_AW d 115 (6, [.ref x, a1, a2, a3], .ref x :: st, n, M) Q) := am_AW_go rfl rfl rfl rfl
theorem w115_6 {L st : List Value} {h : Nat} : am_AW d 115 (6, L, .ref h :: st, n, M) Q = (∃ v, am_fld M h 0 1 = some v ∧ am_AW d 115 (9, L, v :: st, n, M) Q) := am_AW_op (o := am_fld M h 0 1) (f := fun v => (9, L, v :: st, n, M)) rfl rfl (am_bm _ _) (fun _ => rfl)
theorem w115_9 {L st : List Value} {x y : Int32} : am_AW d 115 (9, L, .int y :: .int x :: st, n, M) Q = (if x < y then am_AW d 115 (12, L, st, n, M) Q else am_AW d 115 (41, L, st, n, M) Q) := (am_AW_icmp rfl).trans am_ite_ge
theorem w115_12 {a0 a1 a3 : Value} {x : Int32} {st : List Value} : am_AW d 115 (12, [a0, a1, .int x, a3], st, n, M) Q = (am_AW d 115 (13, [a0, a1, .int x, a3], .int x :: st, n, M) Q) := am_AW_go rfl rfl rfl rfl
theorem w115_13 {L st : List Value} {x : Int32} : am_AW d 115 (13, L, .int x :: st, n, M) Q = (if x ≤ am_z 0 then am_AW d 115 (41, L, st, n, M) Q else am_AW d 115 (16, L, st, n, M) Q) := (am_AW_ifz rfl).trans am_ite_le
theorem w115_16 {a0 a1 a3 : Value} {x : Int32} {st : List Value} : am_AW d 115 (16, [a0, a1, .int x, a3], st, n, M) Q = (am_AW d 115 (17, [a0, a1, .int x, a3], .int x :: st, n, M) Q) := am_AW_go rfl rfl rfl rfl
theorem w115_17 {a1 a2 a3 : Value} {x : Nat} {st : List Value} : am_AW d 115 (17, [.ref x, a1, a2, a3], st, n, M) Q = (am_AW d 115 (18, [.ref x, a1, a2, a3], .ref x :: st, n, M) Q) := am_AW_go rfl rfl rfl rfl
theorem w115_18 {a0 a1 a2 : Value} {x : Int32} {st : List Value} : am_AW d 115 (18, [a0, a1, a2, .int x], st, n, M) Q = (am_AW d 115 (19, [a0, a1, a2, .int x], .int x :: st, n, M) Q) := am_AW_go rfl rfl rfl rfl
theorem w115_19 {L st : List Value} {v0 v1 : Value} : am_AW d 115 (19, L, v0 :: v1 :: st, n, M) Q = (am_okA 2 (v0 :: v1 :: st) = true ∧ am_isO M [v1, v0] 0 = true ∧ am_Do d 114 [v1, v0] n M (am_then d 115 22 0 L st n Q)) := am_AW_cv (i := 23) (x := 114) (y := 2) (z := 0) rfl
theorem w115_22 {L st : List Value} {v0 : Value} : am_AW d 115 (22, L, v0 :: st, n, M) Q = (am_okA 1 (v0 :: st) = true ∧ am_Do d 13 [v0] n M (am_then d 115 25 0 L st n Q)) := am_AW_cs (i := 38) (x := 13) (y := 1) (z := 0) rfl
theorem w115_25 {L st : List Value} {x : Int32} : am_AW d 115 (25, L, .int x :: st, n, M) Q = (if x = am_z 0 then am_AW d 115 (32, L, st, n, M) Q else am_AW d 115 (28, L, st, n, M) Q) := (am_AW_ifz rfl).trans am_ite_eq
theorem w115_28 {L st : List Value} : am_AW d 115 (28, L, st, n, M) Q = (am_AW d 115 (29, L, .int (am_z 1) :: st, n, M) Q) := am_AW_go rfl rfl rfl rfl
theorem w115_29 {L st : List Value} : am_AW d 115 (29, L, st, n, M) Q = (am_AW d 115 (33, L, st, n, M) Q) := am_AW_go rfl rfl rfl rfl
theorem w115_32 {L st : List Value} : am_AW d 115 (32, L, st, n, M) Q = (am_AW d 115 (33, L, .int (am_z (-1)) :: st, n, M) Q) := am_AW_go rfl rfl rfl rfl
theorem w115_33 {L st : List Value} {x y : Int32} : am_AW d 115 (33, L, .int y :: .int x :: st, n, M) Q = (am_AW d 115 (34, L, .int (x + y) :: st, n, M) Q) := am_AW_go rfl rfl rfl rfl
theorem w115_34 {a0 a1 a2 a3 : Value} {x : Int32} {st : List Value} : am_AW d 115 (34, [a0, a1, a2, a3], .int x :: st, n, M) Q = (am_AW d 115 (35, [a0, a1, .int x, a3], st, n, M) Q) := am_AW_go rfl rfl rfl rfl
theorem w115_35 {a0 a1 a2 : Value} {x : Int32} {st : List Value} : am_AW d 115 (35, [a0, a1, a2, .int x], st, n, M) Q = (am_AW d 115 (38, [a0, a1, a2, .int (x + (am_z 1))], st, n, M) Q) := am_AW_go rfl rfl rfl rfl
theorem w115_38 {L st : List Value} : am_AW d 115 (38, L, st, n, M) Q = (am_AW d 115 (4, L, st, n, M) Q) := am_AW_go rfl rfl rfl rfl
theorem w115_41 {a0 a1 a2 : Value} {x : Int32} {st : List Value} : am_AW d 115 (41, [a0, a1, a2, .int x], st, n, M) Q = (am_AW d 115 (42, [a0, a1, a2, .int x], .int x :: st, n, M) Q) := am_AW_go rfl rfl rfl rfl
theorem w115_42 {L : List Value} {x : Int32} : am_AW d 115 (42, L, [.int x], n, M) Q = (Q (some (.int x)) n M) := am_AW_ret (rv := (some (.int x), n)) rfl rfl rfl (am_mono_self n)
end W115
section W116
variable {d : Nat} {n : am_N} {M : am_M} {Q : Option Value → am_N → am_M → Prop}
theorem w116_0 {a1 : Value} {x : Nat} {st : List Value} : am_AW d 116 (0, [.ref x, a1], st, n, M) Q = (am_AW d 116 (1, [.ref x, a1], .ref x :: st, n, M) Q) := am_AW_go rfl rfl rfl rfl
theorem w116_1 {L st : List Value} {h : Nat} : am_AW d 116 (1, L, .ref h :: st, n, M) Q = (∃ v, am_fld M h 0 1 = some v ∧ am_AW d 116 (4, L, v :: st, n, M) Q) := am_AW_op (o := am_fld M h 0 1) (f := fun v => (4, L, v :: st, n, M)) rfl rfl (am_bm _ _) (fun _ => rfl)
theorem w116_4 {L st : List Value} : am_AW d 116 (4, L, st, n, M) Q = (am_AW d 116 (5, L, .int (am_z 1) :: st, n, M) Q) := am_AW_go rfl rfl rfl rfl
theorem w116_5 {L st : List Value} {x y : Int32} : am_AW d 116 (5, L, .int y :: .int x :: st, n, M) Q = (if x = y then am_AW d 116 (8, L, st, n, M) Q else am_AW d 116 (29, L, st, n, M) Q) := (am_AW_icmp rfl).trans am_ite_ne
theorem w116_8 {a1 : Value} {x : Nat} {st : List Value} : am_AW d 116 (8, [.ref x, a1], st, n, M) Q = (am_AW d 116 (9, [.ref x, a1], .ref x :: st, n, M) Q) := am_AW_go rfl rfl rfl rfl
theorem w116_9 {L st : List Value} {h : Nat} : am_AW d 116 (9, L, .ref h :: st, n, M) Q = (∃ v, am_fld M h 0 2 = some v ∧ am_AW d 116 (12, L, v :: st, n, M) Q) := am_AW_op (o := am_fld M h 0 2) (f := fun v => (12, L, v :: st, n, M)) rfl rfl (am_bm _ _) (fun _ => rfl)
theorem w116_12 {L st : List Value} {x : Int32} : am_AW d 116 (12, L, .int x :: st, n, M) Q = (if x = am_z 0 then am_AW d 116 (15, L, st, n, M) Q else am_AW d 116 (29, L, st, n, M) Q) := (am_AW_ifz rfl).trans am_ite_ne
theorem w116_15 {a1 : Value} {x : Nat} {st : List Value} : am_AW d 116 (15, [.ref x, a1], st, n, M) Q = (am_AW d 116 (16, [.ref x, a1], .ref x :: st, n, M) Q) := am_AW_go rfl rfl rfl rfl
theorem w116_16 {L st : List Value} {h : Nat} : am_AW d 116 (16, L, .ref h :: st, n, M) Q = (∃ v, am_fld M h 0 0 = some v ∧ am_AW d 116 (19, L, v :: st, n, M) Q) := am_AW_op (o := am_fld M h 0 0) (f := fun v => (19, L, v :: st, n, M)) rfl rfl (am_bm _ _) (fun _ => rfl)
theorem w116_19 {L st : List Value} : am_AW d 116 (19, L, st, n, M) Q = (am_AW d 116 (20, L, .int (am_z 0) :: st, n, M) Q) := am_AW_go rfl rfl rfl rfl
theorem w116_20 {L st : List Value} {h : Nat} {i : Int32} : am_AW d 116 (20, L, .int i :: .ref h :: st, n, M) Q = (∃ v, am_ald 0 M h i = some v ∧ am_AW d 116 (21, L, .int v :: st, n, M) Q) := am_AW_op (o := am_ald 0 M h i) (f := fun v => (21, L, .int v :: st, n, M)) rfl rfl (am_bm2 _ _ () ()) (fun _ => rfl)
theorem w116_21 {a0 : Value} {x : Int32} {st : List Value} : am_AW d 116 (21, [a0, .int x], st, n, M) Q = (am_AW d 116 (22, [a0, .int x], .int x :: st, n, M) Q) := am_AW_go rfl rfl rfl rfl
theorem w116_22 {L st : List Value} {x y : Int32} : am_AW d 116 (22, L, .int y :: .int x :: st, n, M) Q = (if x = y then am_AW d 116 (25, L, st, n, M) Q else am_AW d 116 (29, L, st, n, M) Q) := (am_AW_icmp rfl).trans am_ite_ne
theorem w116_25 {L st : List Value} : am_AW d 116 (25, L, st, n, M) Q = (am_AW d 116 (26, L, .int (am_z 1) :: st, n, M) Q) := am_AW_go rfl rfl rfl rfl
theorem w116_26 {L st : List Value} : am_AW d 116 (26, L, st, n, M) Q = (am_AW d 116 (30, L, st, n, M) Q) := am_AW_go rfl rfl rfl rfl
theorem w116_29 {L st : List Value} : am_AW d 116 (29, L, st, n, M) Q = (am_AW d 116 (30, L, .int (am_z 0) :: st, n, M) Q) := am_AW_go rfl rfl rfl rfl
theorem w116_30 {L : List Value} {x : Int32} (hf : am_fit 1 (.int x) = true) : am_AW d 116 (30, L, [.int x], n, M) Q = (Q (some (.int x)) n M) := am_AW_ret (rv := (some (.int x), n)) rfl rfl (if_pos hf) (am_mono_self n)
end W116
section W117
variable {d : Nat} {n : am_N} {M : am_M} {Q : Option Value → am_N → am_M → Prop}
theorem w117_0 {a1 a2 a3 : Value} {x : Nat} {st : List Value} : am_AW d 117 (0, [.ref x, a1, a2, a3], st, n, M) Q = (am_AW d 117 (1, [.ref x, a1, a2, a3], .ref x :: st, n, M) Q) := am_AW_go rfl rfl rfl rfl
theorem w117_1 {L st : List Value} {h : Nat} : am_AW d 117 (1, L, .ref h :: st, n, M) Q = (∃ v, am_fld M h 0 2 = some v ∧ am_AW d 117 (4, L, v :: st, n, M) Q) := am_AW_op (o := am_fld M h 0 2) (f := fun v => (4, L, v :: st, n, M)) rfl rfl (am_bm _ _) (fun _ => rfl)
theorem w117_4 {L st : List Value} {x : Int32} : am_AW d 117 (4, L, .int x :: st, n, M) Q = (if x = am_z 0 then am_AW d 117 (7, L, st, n, M) Q else am_AW d 117 (28, L, st, n, M) Q) := (am_AW_ifz rfl).trans am_ite_ne
theorem w117_7 {a0 a2 a3 : Value} {x : Nat} {st : List Value} : am_AW d 117 (7, [a0, .ref x, a2, a3], st, n, M) Q = (am_AW d 117 (8, [a0, .ref x, a2, a3], .ref x :: st, n, M) Q) := am_AW_go rfl rfl rfl rfl
theorem w117_8 {L st : List Value} {h : Nat} : am_AW d 117 (8, L, .ref h :: st, n, M) Q = (∃ v, am_fld M h 0 2 = some v ∧ am_AW d 117 (11, L, v :: st, n, M) Q) := am_AW_op (o := am_fld M h 0 2) (f := fun v => (11, L, v :: st, n, M)) rfl rfl (am_bm _ _) (fun _ => rfl)
theorem w117_11 {L st : List Value} {x : Int32} : am_AW d 117 (11, L, .int x :: st, n, M) Q = (if x = am_z 0 then am_AW d 117 (14, L, st, n, M) Q else am_AW d 117 (28, L, st, n, M) Q) := (am_AW_ifz rfl).trans am_ite_ne
theorem w117_14 {a0 a2 a3 : Value} {x : Nat} {st : List Value} : am_AW d 117 (14, [a0, .ref x, a2, a3], st, n, M) Q = (am_AW d 117 (15, [a0, .ref x, a2, a3], .ref x :: st, n, M) Q) := am_AW_go rfl rfl rfl rfl
theorem w117_15 {a0 a1 a3 : Value} {x : Int32} {st : List Value} : am_AW d 117 (15, [a0, a1, .int x, a3], st, n, M) Q = (am_AW d 117 (16, [a0, a1, .int x, a3], .int x :: st, n, M) Q) := am_AW_go rfl rfl rfl rfl
theorem w117_16 {L st : List Value} {v0 v1 : Value} : am_AW d 117 (16, L, v0 :: v1 :: st, n, M) Q = (am_okA 2 (v0 :: v1 :: st) = true ∧ am_isO M [v1, v0] 0 = true ∧ am_Do d 115 [v1, v0] n M (am_then d 117 19 0 L st n Q)) := am_AW_cv (i := 42) (x := 115) (y := 2) (z := 0) rfl
theorem w117_19 {a0 a1 a3 : Value} {x : Int32} {st : List Value} : am_AW d 117 (19, [a0, a1, .int x, a3], st, n, M) Q = (am_AW d 117 (20, [a0, a1, .int x, a3], .int x :: st, n, M) Q) := am_AW_go rfl rfl rfl rfl
theorem w117_20 {L st : List Value} {x y : Int32} : am_AW d 117 (20, L, .int y :: .int x :: st, n, M) Q = (am_AW d 117 (21, L, .int (x - y) :: st, n, M) Q) := am_AW_go rfl rfl rfl rfl
theorem w117_21 {a1 a2 a3 : Value} {x : Nat} {st : List Value} : am_AW d 117 (21, [.ref x, a1, a2, a3], st, n, M) Q = (am_AW d 117 (22, [.ref x, a1, a2, a3], .ref x :: st, n, M) Q) := am_AW_go rfl rfl rfl rfl
theorem w117_22 {L st : List Value} {h : Nat} : am_AW d 117 (22, L, .ref h :: st, n, M) Q = (∃ v, am_fld M h 0 1 = some v ∧ am_AW d 117 (25, L, v :: st, n, M) Q) := am_AW_op (o := am_fld M h 0 1) (f := fun v => (25, L, v :: st, n, M)) rfl rfl (am_bm _ _) (fun _ => rfl)
theorem w117_25 {L st : List Value} {x y : Int32} : am_AW d 117 (25, L, .int y :: .int x :: st, n, M) Q = (if x = y then am_AW d 117 (30, L, st, n, M) Q else am_AW d 117 (28, L, st, n, M) Q) := (am_AW_icmp rfl).trans am_ite_eq
theorem w117_28 {L st : List Value} : am_AW d 117 (28, L, st, n, M) Q = (am_AW d 117 (29, L, .int (am_z 0) :: st, n, M) Q) := am_AW_go rfl rfl rfl rfl
theorem w117_29 {L : List Value} {x : Int32} (hf : am_fit 1 (.int x) = true) : am_AW d 117 (29, L, [.int x], n, M) Q = (Q (some (.int x)) n M) := am_AW_ret (rv := (some (.int x), n)) rfl rfl (if_pos hf) (am_mono_self n)
theorem w117_30 {L st : List Value} : am_AW d 117 (30, L, st, n, M) Q = (am_AW d 117 (31, L, .int (am_z 0) :: st, n, M) Q) := am_AW_go rfl rfl rfl rfl
theorem w117_31 {a0 a1 a2 a3 : Value} {x : Int32} {st : List Value} : am_AW d 117 (31, [a0, a1, a2, a3], .int x :: st, n, M) Q = (am_AW d 117 (32, [a0, a1, a2, .int x], st, n, M) Q) := am_AW_go rfl rfl rfl rfl
theorem w117_32 {a0 a1 a2 : Value} {x : Int32} {st : List Value} : am_AW d 117 (32, [a0, a1, a2, .int x], st, n, M) Q = (am_AW d 117 (33, [a0, a1, a2, .int x], .int x :: st, n, M) Q) := am_AW_go rfl rfl rfl rfl
theorem w117_33 {a1 a2 a3 : Value} {x : Nat} {st : List Value} : am_AW d 117 (33, [.ref x, a1, a2, a3], st, n, M) Q = (am_AW d 117 (34, [.ref x, a1, a2, a3], .ref x :: st, n, M) Q) := am_AW_go rfl rfl rfl rfl
theorem w117_34 {L st : List Value} {h : Nat} : am_AW d 117 (34, L, .ref h :: st, n, M) Q = (∃ v, am_fld M h 0 1 = some v ∧ am_AW d 117 (37, L, v :: st, n, M) Q) := am_AW_op (o := am_fld M h 0 1) (f := fun v => (37, L, v :: st, n, M)) rfl rfl (am_bm _ _) (fun _ => rfl)
theorem w117_37 {L st : List Value} {x y : Int32} : am_AW d 117 (37, L, .int y :: .int x :: st, n, M) Q = (if x < y then am_AW d 117 (40, L, st, n, M) Q else am_AW d 117 (64, L, st, n, M) Q) := (am_AW_icmp rfl).trans am_ite_ge
theorem w117_40 {a1 a2 a3 : Value} {x : Nat} {st : List Value} : am_AW d 117 (40, [.ref x, a1, a2, a3], st, n, M) Q = (am_AW d 117 (41, [.ref x, a1, a2, a3], .ref x :: st, n, M) Q) := am_AW_go rfl rfl rfl rfl
theorem w117_41 {L st : List Value} {h : Nat} : am_AW d 117 (41, L, .ref h :: st, n, M) Q = (∃ v, am_fld M h 0 0 = some v ∧ am_AW d 117 (44, L, v :: st, n, M) Q) := am_AW_op (o := am_fld M h 0 0) (f := fun v => (44, L, v :: st, n, M)) rfl rfl (am_bm _ _) (fun _ => rfl)
theorem w117_44 {a0 a1 a2 : Value} {x : Int32} {st : List Value} : am_AW d 117 (44, [a0, a1, a2, .int x], st, n, M) Q = (am_AW d 117 (45, [a0, a1, a2, .int x], .int x :: st, n, M) Q) := am_AW_go rfl rfl rfl rfl
theorem w117_45 {L st : List Value} {h : Nat} {i : Int32} : am_AW d 117 (45, L, .int i :: .ref h :: st, n, M) Q = (∃ v, am_ald 0 M h i = some v ∧ am_AW d 117 (46, L, .int v :: st, n, M) Q) := am_AW_op (o := am_ald 0 M h i) (f := fun v => (46, L, .int v :: st, n, M)) rfl rfl (am_bm2 _ _ () ()) (fun _ => rfl)
theorem w117_46 {a0 a2 a3 : Value} {x : Nat} {st : List Value} : am_AW d 117 (46, [a0, .ref x, a2, a3], st, n, M) Q = (am_AW d 117 (47, [a0, .ref x, a2, a3], .ref x :: st, n, M) Q) := am_AW_go rfl rfl rfl rfl
theorem w117_47 {a0 a1 a3 : Value} {x : Int32} {st : List Value} : am_AW d 117 (47, [a0, a1, .int x, a3], st, n, M) Q = (am_AW d 117 (48, [a0, a1, .int x, a3], .int x :: st, n, M) Q) := am_AW_go rfl rfl rfl rfl
theorem w117_48 {a0 a1 a2 : Value} {x : Int32} {st : List Value} : am_AW d 117 (48, [a0, a1, a2, .int x], st, n, M) Q = (am_AW d 117 (49, [a0, a1, a2, .int x], .int x :: st, n, M) Q) := am_AW_go rfl rfl rfl rfl
theorem w117_49 {L st : List Value} {x y : Int32} : am_AW d 117 (49, L, .int y :: .int x :: st, n, M) Q = (am_AW d 117 (50, L, .int (x + y) :: st, n, M) Q) := am_AW_go rfl rfl rfl rfl
theorem w117_50 {L st : List Value} {v0 v1 : Value} : am_AW d 117 (50, L, v0 :: v1 :: st, n, M) Q = (am_okA 2 (v0 :: v1 :: st) = true ∧ am_isO M [v1, v0] 0 = true ∧ am_Do d 114 [v1, v0] n M (am_then d 117 53 0 L st n Q)) := am_AW_cv (i := 23) (x := 114) (y := 2) (z := 0) rfl
theorem w117_53 {L st : List Value} {x y : Int32} : am_AW d 117 (53, L, .int y :: .int x :: st, n, M) Q = (if x = y then am_AW d 117 (58, L, st, n, M) Q else am_AW d 117 (56, L, st, n, M) Q) := (am_AW_icmp rfl).trans am_ite_eq
theorem w117_56 {L st : List Value} : am_AW d 117 (56, L, st, n, M) Q = (am_AW d 117 (57, L, .int (am_z 0) :: st, n, M) Q) := am_AW_go rfl rfl rfl rfl
theorem w117_57 {L : List Value} {x : Int32} (hf : am_fit 1 (.int x) = true) : am_AW d 117 (57, L, [.int x], n, M) Q = (Q (some (.int x)) n M) := am_AW_ret (rv := (some (.int x), n)) rfl rfl (if_pos hf) (am_mono_self n)
theorem w117_58 {a0 a1 a2 : Value} {x : Int32} {st : List Value} : am_AW d 117 (58, [a0, a1, a2, .int x], st, n, M) Q = (am_AW d 117 (61, [a0, a1, a2, .int (x + (am_z 1))], st, n, M) Q) := am_AW_go rfl rfl rfl rfl
theorem w117_61 {L st : List Value} : am_AW d 117 (61, L, st, n, M) Q = (am_AW d 117 (32, L, st, n, M) Q) := am_AW_go rfl rfl rfl rfl
theorem w117_64 {L st : List Value} : am_AW d 117 (64, L, st, n, M) Q = (am_AW d 117 (65, L, .int (am_z 1) :: st, n, M) Q) := am_AW_go rfl rfl rfl rfl
theorem w117_65 {L : List Value} {x : Int32} (hf : am_fit 1 (.int x) = true) : am_AW d 117 (65, L, [.int x], n, M) Q = (Q (some (.int x)) n M) := am_AW_ret (rv := (some (.int x), n)) rfl rfl (if_pos hf) (am_mono_self n)
end W117
section W118
variable {d : Nat} {n : am_N} {M : am_M} {Q : Option Value → am_N → am_M → Prop}
theorem w118_0 {L st : List Value} : am_AW d 118 (0, L, st, n, M) Q = (am_AW d 118 (1, L, .int (am_z 0) :: st, n, M) Q) := am_AW_go rfl rfl rfl rfl
theorem w118_1 {a0 a1 a2 a3 : Value} {x : Int32} {st : List Value} : am_AW d 118 (1, [a0, a1, a2, a3], .int x :: st, n, M) Q = (am_AW d 118 (2, [a0, a1, .int x, a3], st, n, M) Q) := am_AW_go rfl rfl rfl rfl
theorem w118_2 {a0 a2 a3 : Value} {x : Int32} {st : List Value} : am_AW d 118 (2, [a0, .int x, a2, a3], st, n, M) Q = (am_AW d 118 (3, [a0, .int x, a2, a3], .int x :: st, n, M) Q) := am_AW_go rfl rfl rfl rfl
theorem w118_3 {a0 a1 a2 a3 : Value} {x : Int32} {st : List Value} : am_AW d 118 (3, [a0, a1, a2, a3], .int x :: st, n, M) Q = (am_AW d 118 (4, [a0, a1, a2, .int x], st, n, M) Q) := am_AW_go rfl rfl rfl rfl
theorem w118_4 {a0 a1 a2 : Value} {x : Int32} {st : List Value} : am_AW d 118 (4, [a0, a1, a2, .int x], st, n, M) Q = (am_AW d 118 (5, [a0, a1, a2, .int x], .int x :: st, n, M) Q) := am_AW_go rfl rfl rfl rfl
theorem w118_5 {a1 a2 a3 : Value} {x : Nat} {st : List Value} : am_AW d 118 (5, [.ref x, a1, a2, a3], st, n, M) Q = (am_AW d 118 (6, [.ref x, a1, a2, a3], .ref x :: st, n, M) Q) := am_AW_go rfl rfl rfl rfl
theorem w118_6 {L st : List Value} {h : Nat} : am_AW d 118 (6, L, .ref h :: st, n, M) Q = (∃ v, am_fld M h 0 1 = some v ∧ am_AW d 118 (9, L, v :: st, n, M) Q) := am_AW_op (o := am_fld M h 0 1) (f := fun v => (9, L, v :: st, n, M)) rfl rfl (am_bm _ _) (fun _ => rfl)
theorem w118_9 {L st : List Value} {x y : Int32} : am_AW d 118 (9, L, .int y :: .int x :: st, n, M) Q = (if x < y then am_AW d 118 (12, L, st, n, M) Q else am_AW d 118 (41, L, st, n, M) Q) := (am_AW_icmp rfl).trans am_ite_ge
theorem w118_12 {a1 a2 a3 : Value} {x : Nat} {st : List Value} : am_AW d 118 (12, [.ref x, a1, a2, a3], st, n, M) Q = (am_AW d 118 (13, [.ref x, a1, a2, a3], .ref x :: st, n, M) Q) := am_AW_go rfl rfl rfl rfl
theorem w118_13 {a0 a1 a2 : Value} {x : Int32} {st : List Value} : am_AW d 118 (13, [a0, a1, a2, .int x], st, n, M) Q = (am_AW d 118 (14, [a0, a1, a2, .int x], .int x :: st, n, M) Q) := am_AW_go rfl rfl rfl rfl
theorem w118_14 {L st : List Value} {v0 v1 : Value} : am_AW d 118 (14, L, v0 :: v1 :: st, n, M) Q = (am_okA 2 (v0 :: v1 :: st) = true ∧ am_isO M [v1, v0] 0 = true ∧ am_Do d 114 [v1, v0] n M (am_then d 118 17 0 L st n Q)) := am_AW_cv (i := 23) (x := 114) (y := 2) (z := 0) rfl
theorem w118_17 {L st : List Value} {x : Int32} : am_AW d 118 (17, L, .int x :: st, n, M) Q = (if x = am_z 0 then am_AW d 118 (20, L, st, n, M) Q else am_AW d 118 (41, L, st, n, M) Q) := (am_AW_ifz rfl).trans am_ite_ne
theorem w118_20 {a1 a2 a3 : Value} {x : Nat} {st : List Value} : am_AW d 118 (20, [.ref x, a1, a2, a3], st, n, M) Q = (am_AW d 118 (21, [.ref x, a1, a2, a3], .ref x :: st, n, M) Q) := am_AW_go rfl rfl rfl rfl
theorem w118_21 {a0 a1 a2 : Value} {x : Int32} {st : List Value} : am_AW d 118 (21, [a0, a1, a2, .int x], st, n, M) Q = (am_AW d 118 (22, [a0, a1, a2, .int x], .int x :: st, n, M) Q) := am_AW_go rfl rfl rfl rfl
theorem w118_22 {L st : List Value} : am_AW d 118 (22, L, st, n, M) Q = (am_AW d 118 (23, L, .int (am_z 1) :: st, n, M) Q) := am_AW_go rfl rfl rfl rfl
theorem w118_23 {L st : List Value} {x y : Int32} : am_AW d 118 (23, L, .int y :: .int x :: st, n, M) Q = (am_AW d 118 (24, L, .int (x + y) :: st, n, M) Q) := am_AW_go rfl rfl rfl rfl
theorem w118_24 {L st : List Value} {v0 v1 : Value} : am_AW d 118 (24, L, v0 :: v1 :: st, n, M) Q = (am_okA 2 (v0 :: v1 :: st) = true ∧ am_isO M [v1, v0] 0 = true ∧ am_Do d 114 [v1, v0] n M (am_then d 118 27 0 L st n Q)) := am_AW_cv (i := 23) (x := 114) (y := 2) (z := 0) rfl
theorem w118_27 {L st : List Value} : am_AW d 118 (27, L, st, n, M) Q = (am_AW d 118 (29, L, .int (am_z 7) :: st, n, M) Q) := am_AW_go rfl rfl rfl rfl
theorem w118_29 {L st : List Value} {x y : Int32} : am_AW d 118 (29, L, .int y :: .int x :: st, n, M) Q = (if x = y then am_AW d 118 (32, L, st, n, M) Q else am_AW d 118 (41, L, st, n, M) Q) := (am_AW_icmp rfl).trans am_ite_ne
theorem w118_32 {a0 a1 a3 : Value} {x : Int32} {st : List Value} : am_AW d 118 (32, [a0, a1, .int x, a3], st, n, M) Q = (am_AW d 118 (35, [a0, a1, .int (x + (am_z 1)), a3], st, n, M) Q) := am_AW_go rfl rfl rfl rfl
theorem w118_35 {a0 a1 a2 : Value} {x : Int32} {st : List Value} : am_AW d 118 (35, [a0, a1, a2, .int x], st, n, M) Q = (am_AW d 118 (38, [a0, a1, a2, .int (x + (am_z 2))], st, n, M) Q) := am_AW_go rfl rfl rfl rfl
theorem w118_38 {L st : List Value} : am_AW d 118 (38, L, st, n, M) Q = (am_AW d 118 (4, L, st, n, M) Q) := am_AW_go rfl rfl rfl rfl
theorem w118_41 {a1 a2 a3 : Value} {x : Nat} {st : List Value} : am_AW d 118 (41, [.ref x, a1, a2, a3], st, n, M) Q = (am_AW d 118 (42, [.ref x, a1, a2, a3], .ref x :: st, n, M) Q) := am_AW_go rfl rfl rfl rfl
theorem w118_42 {a0 a1 a2 : Value} {x : Int32} {st : List Value} : am_AW d 118 (42, [a0, a1, a2, .int x], st, n, M) Q = (am_AW d 118 (43, [a0, a1, a2, .int x], .int x :: st, n, M) Q) := am_AW_go rfl rfl rfl rfl
theorem w118_43 {L st : List Value} {v0 v1 : Value} : am_AW d 118 (43, L, v0 :: v1 :: st, n, M) Q = (am_okA 2 (v0 :: v1 :: st) = true ∧ am_isO M [v1, v0] 0 = true ∧ am_Do d 114 [v1, v0] n M (am_then d 118 46 0 L st n Q)) := am_AW_cv (i := 23) (x := 114) (y := 2) (z := 0) rfl
theorem w118_46 {L st : List Value} : am_AW d 118 (46, L, st, n, M) Q = (am_AW d 118 (48, L, .int (am_z 6) :: st, n, M) Q) := am_AW_go rfl rfl rfl rfl
theorem w118_48 {L st : List Value} {x y : Int32} : am_AW d 118 (48, L, .int y :: .int x :: st, n, M) Q = (if x = y then am_AW d 118 (51, L, st, n, M) Q else am_AW d 118 (55, L, st, n, M) Q) := (am_AW_icmp rfl).trans am_ite_ne
theorem w118_51 {a0 a1 a3 : Value} {x : Int32} {st : List Value} : am_AW d 118 (51, [a0, a1, .int x, a3], st, n, M) Q = (am_AW d 118 (52, [a0, a1, .int x, a3], .int x :: st, n, M) Q) := am_AW_go rfl rfl rfl rfl
theorem w118_52 {L st : List Value} : am_AW d 118 (52, L, st, n, M) Q = (am_AW d 118 (56, L, st, n, M) Q) := am_AW_go rfl rfl rfl rfl
theorem w118_55 {L st : List Value} : am_AW d 118 (55, L, st, n, M) Q = (am_AW d 118 (56, L, .int (am_z (-1)) :: st, n, M) Q) := am_AW_go rfl rfl rfl rfl
theorem w118_56 {L : List Value} {x : Int32} : am_AW d 118 (56, L, [.int x], n, M) Q = (Q (some (.int x)) n M) := am_AW_ret (rv := (some (.int x), n)) rfl rfl rfl (am_mono_self n)
end W118
section W133
variable {d : Nat} {n : am_N} {M : am_M} {Q : Option Value → am_N → am_M → Prop}
theorem w133_0 {x : Nat} {st : List Value} : am_AW d 133 (0, [.ref x], st, n, M) Q = (am_AW d 133 (1, [.ref x], .ref x :: st, n, M) Q) := am_AW_go rfl rfl rfl rfl
theorem w133_1 {L st : List Value} {h : Nat} : am_AW d 133 (1, L, .ref h :: st, n, M) Q = (∃ v, am_fld M h 1 0 = some v ∧ am_AW d 133 (4, L, v :: st, n, M) Q) := am_AW_op (o := am_fld M h 1 0) (f := fun v => (4, L, v :: st, n, M)) rfl rfl (am_bm _ _) (fun _ => rfl)
theorem w133_4 {L st : List Value} : am_AW d 133 (4, L, st, n, M) Q = (am_AW d 133 (5, L, .int (am_z 0) :: st, n, M) Q) := am_AW_go rfl rfl rfl rfl
theorem w133_5 {L st : List Value} : am_AW d 133 (5, L, st, n, M) Q = (am_AW d 133 (6, L, .int (am_z 0) :: st, n, M) Q) := am_AW_go rfl rfl rfl rfl
theorem w133_6 {L st : List Value} {h : Nat} {i v : Int32} : am_AW d 133 (6, L, .int v :: .int i :: .ref h :: st, n, M) Q = (am_fit 0 (.int v) = true ∧ ∃ M', am_ast 0 M h i v = some M' ∧ am_AW d 133 (7, L, st, n, M') Q) := am_AW_ast rfl (Or.inl ⟨rfl, rfl, rfl⟩)
theorem w133_7 {x : Nat} {st : List Value} : am_AW d 133 (7, [.ref x], st, n, M) Q = (am_AW d 133 (8, [.ref x], .ref x :: st, n, M) Q) := am_AW_go rfl rfl rfl rfl
theorem w133_8 {L st : List Value} : am_AW d 133 (8, L, st, n, M) Q = (am_AW d 133 (9, L, .int (am_z 1) :: st, n, M) Q) := am_AW_go rfl rfl rfl rfl
theorem w133_9 {L st : List Value} {h : Nat} {v : Value} : am_AW d 133 (9, L, v :: .ref h :: st, n, M) Q = (am_fit 0 v = true ∧ ∃ M', am_setf M h 1 1 v = some M' ∧ am_AW d 133 (12, L, st, n, M') Q) := am_AW_put rfl
theorem w133_12 {x : Nat} {st : List Value} : am_AW d 133 (12, [.ref x], st, n, M) Q = (am_AW d 133 (13, [.ref x], .ref x :: st, n, M) Q) := am_AW_go rfl rfl rfl rfl
theorem w133_13 {L st : List Value} : am_AW d 133 (13, L, st, n, M) Q = (am_AW d 133 (14, L, .int (am_z 0) :: st, n, M) Q) := am_AW_go rfl rfl rfl rfl
theorem w133_14 {L st : List Value} {h : Nat} {v : Value} : am_AW d 133 (14, L, v :: .ref h :: st, n, M) Q = (am_fit 0 v = true ∧ ∃ M', am_setf M h 1 2 v = some M' ∧ am_AW d 133 (17, L, st, n, M') Q) := am_AW_put rfl
theorem w133_17 {L : List Value} : am_AW d 133 (17, L, [], n, M) Q = (Q none n M) := am_AW_ret (rv := (none, n)) rfl rfl rfl (am_mono_self n)
end W133
section W134
variable {d : Nat} {n : am_N} {M : am_M} {Q : Option Value → am_N → am_M → Prop}
theorem w134_0 {x : Nat} {st : List Value} : am_AW d 134 (0, [.ref x], st, n, M) Q = (am_AW d 134 (1, [.ref x], .ref x :: st, n, M) Q) := am_AW_go rfl rfl rfl rfl
theorem w134_1 {L st : List Value} {h : Nat} : am_AW d 134 (1, L, .ref h :: st, n, M) Q = (∃ v, am_fld M h 1 1 = some v ∧ am_AW d 134 (4, L, v :: st, n, M) Q) := am_AW_op (o := am_fld M h 1 1) (f := fun v => (4, L, v :: st, n, M)) rfl rfl (am_bm _ _) (fun _ => rfl)
theorem w134_4 {L st : List Value} {x : Int32} : am_AW d 134 (4, L, .int x :: st, n, M) Q = (if x ≤ am_z 0 then am_AW d 134 (23, L, st, n, M) Q else am_AW d 134 (7, L, st, n, M) Q) := (am_AW_ifz rfl).trans am_ite_le
theorem w134_7 {x : Nat} {st : List Value} : am_AW d 134 (7, [.ref x], st, n, M) Q = (am_AW d 134 (8, [.ref x], .ref x :: st, n, M) Q) := am_AW_go rfl rfl rfl rfl
theorem w134_8 {L st : List Value} {h : Nat} : am_AW d 134 (8, L, .ref h :: st, n, M) Q = (∃ v, am_fld M h 1 1 = some v ∧ am_AW d 134 (11, L, v :: st, n, M) Q) := am_AW_op (o := am_fld M h 1 1) (f := fun v => (11, L, v :: st, n, M)) rfl rfl (am_bm _ _) (fun _ => rfl)
theorem w134_11 {x : Nat} {st : List Value} : am_AW d 134 (11, [.ref x], st, n, M) Q = (am_AW d 134 (12, [.ref x], .ref x :: st, n, M) Q) := am_AW_go rfl rfl rfl rfl
theorem w134_12 {L st : List Value} {h : Nat} : am_AW d 134 (12, L, .ref h :: st, n, M) Q = (∃ v, am_fld M h 1 0 = some v ∧ am_AW d 134 (15, L, v :: st, n, M) Q) := am_AW_op (o := am_fld M h 1 0) (f := fun v => (15, L, v :: st, n, M)) rfl rfl (am_bm _ _) (fun _ => rfl)
theorem w134_15 {L st : List Value} {h : Nat} : am_AW d 134 (15, L, .ref h :: st, n, M) Q = (∃ v, am_len M h = some v ∧ am_AW d 134 (16, L, .int v :: st, n, M) Q) := am_AW_op (o := am_len M h) (f := fun v => (16, L, .int v :: st, n, M)) rfl rfl (am_bm _ _) (fun _ => rfl)
theorem w134_16 {L st : List Value} {x y : Int32} : am_AW d 134 (16, L, .int y :: .int x :: st, n, M) Q = (if x < y then am_AW d 134 (19, L, st, n, M) Q else am_AW d 134 (23, L, st, n, M) Q) := (am_AW_icmp rfl).trans am_ite_ge
theorem w134_19 {L st : List Value} : am_AW d 134 (19, L, st, n, M) Q = (am_AW d 134 (20, L, .int (am_z 1) :: st, n, M) Q) := am_AW_go rfl rfl rfl rfl
theorem w134_20 {L st : List Value} : am_AW d 134 (20, L, st, n, M) Q = (am_AW d 134 (24, L, st, n, M) Q) := am_AW_go rfl rfl rfl rfl
theorem w134_23 {L st : List Value} : am_AW d 134 (23, L, st, n, M) Q = (am_AW d 134 (24, L, .int (am_z 0) :: st, n, M) Q) := am_AW_go rfl rfl rfl rfl
theorem w134_24 {L : List Value} {x : Int32} (hf : am_fit 1 (.int x) = true) : am_AW d 134 (24, L, [.int x], n, M) Q = (Q (some (.int x)) n M) := am_AW_ret (rv := (some (.int x), n)) rfl rfl (if_pos hf) (am_mono_self n)
end W134
section W135
variable {d : Nat} {n : am_N} {M : am_M} {Q : Option Value → am_N → am_M → Prop}
theorem w135_0 {a1 : Value} {x : Nat} {st : List Value} : am_AW d 135 (0, [.ref x, a1], st, n, M) Q = (am_AW d 135 (1, [.ref x, a1], .ref x :: st, n, M) Q) := am_AW_go rfl rfl rfl rfl
theorem w135_1 {L st : List Value} {h : Nat} : am_AW d 135 (1, L, .ref h :: st, n, M) Q = (∃ v, am_fld M h 1 1 = some v ∧ am_AW d 135 (4, L, v :: st, n, M) Q) := am_AW_op (o := am_fld M h 1 1) (f := fun v => (4, L, v :: st, n, M)) rfl rfl (am_bm _ _) (fun _ => rfl)
theorem w135_4 {L st : List Value} {x : Int32} : am_AW d 135 (4, L, .int x :: st, n, M) Q = (if x ≤ am_z 0 then am_AW d 135 (19, L, st, n, M) Q else am_AW d 135 (7, L, st, n, M) Q) := (am_AW_ifz rfl).trans am_ite_le
theorem w135_7 {a1 : Value} {x : Nat} {st : List Value} : am_AW d 135 (7, [.ref x, a1], st, n, M) Q = (am_AW d 135 (8, [.ref x, a1], .ref x :: st, n, M) Q) := am_AW_go rfl rfl rfl rfl
theorem w135_8 {L st : List Value} {h : Nat} : am_AW d 135 (8, L, .ref h :: st, n, M) Q = (∃ v, am_fld M h 1 1 = some v ∧ am_AW d 135 (11, L, v :: st, n, M) Q) := am_AW_op (o := am_fld M h 1 1) (f := fun v => (11, L, v :: st, n, M)) rfl rfl (am_bm _ _) (fun _ => rfl)
theorem w135_11 {a1 : Value} {x : Nat} {st : List Value} : am_AW d 135 (11, [.ref x, a1], st, n, M) Q = (am_AW d 135 (12, [.ref x, a1], .ref x :: st, n, M) Q) := am_AW_go rfl rfl rfl rfl
theorem w135_12 {L st : List Value} {h : Nat} : am_AW d 135 (12, L, .ref h :: st, n, M) Q = (∃ v, am_fld M h 1 0 = some v ∧ am_AW d 135 (15, L, v :: st, n, M) Q) := am_AW_op (o := am_fld M h 1 0) (f := fun v => (15, L, v :: st, n, M)) rfl rfl (am_bm _ _) (fun _ => rfl)
theorem w135_15 {L st : List Value} {h : Nat} : am_AW d 135 (15, L, .ref h :: st, n, M) Q = (∃ v, am_len M h = some v ∧ am_AW d 135 (16, L, .int v :: st, n, M) Q) := am_AW_op (o := am_len M h) (f := fun v => (16, L, .int v :: st, n, M)) rfl rfl (am_bm _ _) (fun _ => rfl)
theorem w135_16 {L st : List Value} {x y : Int32} : am_AW d 135 (16, L, .int y :: .int x :: st, n, M) Q = (if x < y then am_AW d 135 (20, L, st, n, M) Q else am_AW d 135 (19, L, st, n, M) Q) := (am_AW_icmp rfl).trans am_ite_lt
theorem w135_19 {L : List Value} : am_AW d 135 (19, L, [], n, M) Q = (Q none n M) := am_AW_ret (rv := (none, n)) rfl rfl rfl (am_mono_self n)
theorem w135_20 {a1 : Value} {x : Nat} {st : List Value} : am_AW d 135 (20, [.ref x, a1], st, n, M) Q = (am_AW d 135 (21, [.ref x, a1], .ref x :: st, n, M) Q) := am_AW_go rfl rfl rfl rfl
theorem w135_21 {L st : List Value} {x : Nat} : am_AW d 135 (21, L, .ref x :: st, n, M) Q = (am_AW d 135 (22, L, .ref x :: .ref x :: st, n, M) Q) := am_AW_go rfl rfl rfl rfl
theorem w135_21i {L st : List Value} {x : Int32} : am_AW d 135 (21, L, .int x :: st, n, M) Q = (am_AW d 135 (22, L, .int x :: .int x :: st, n, M) Q) := am_AW_go rfl rfl rfl rfl
theorem w135_22 {L st : List Value} {h : Nat} : am_AW d 135 (22, L, .ref h :: st, n, M) Q = (∃ v, am_fld M h 1 1 = some v ∧ am_AW d 135 (25, L, v :: st, n, M) Q) := am_AW_op (o := am_fld M h 1 1) (f := fun v => (25, L, v :: st, n, M)) rfl rfl (am_bm _ _) (fun _ => rfl)
theorem w135_25 {L st : List Value} : am_AW d 135 (25, L, st, n, M) Q = (am_AW d 135 (26, L, .int (am_z 1) :: st, n, M) Q) := am_AW_go rfl rfl rfl rfl
theorem w135_26 {L st : List Value} {x y : Int32} : am_AW d 135 (26, L, .int y :: .int x :: st, n, M) Q = (am_AW d 135 (27, L, .int (x - y) :: st, n, M) Q) := am_AW_go rfl rfl rfl rfl
theorem w135_27 {L st : List Value} {h : Nat} {v : Value} : am_AW d 135 (27, L, v :: .ref h :: st, n, M) Q = (am_fit 0 v = true ∧ ∃ M', am_setf M h 1 1 v = some M' ∧ am_AW d 135 (30, L, st, n, M') Q) := am_AW_put rfl
theorem w135_30 {a1 : Value} {x : Nat} {st : List Value} : am_AW d 135 (30, [.ref x, a1], st, n, M) Q = (am_AW d 135 (31, [.ref x, a1], .ref x :: st, n, M) Q) := am_AW_go rfl rfl rfl rfl
theorem w135_31 {a1 : Value} {x : Nat} {st : List Value} : am_AW d 135 (31, [.ref x, a1], st, n, M) Q = (am_AW d 135 (32, [.ref x, a1], .ref x :: st, n, M) Q) := am_AW_go rfl rfl rfl rfl
theorem w135_32 {L st : List Value} {h : Nat} : am_AW d 135 (32, L, .ref h :: st, n, M) Q = (∃ v, am_fld M h 1 0 = some v ∧ am_AW d 135 (35, L, v :: st, n, M) Q) := am_AW_op (o := am_fld M h 1 0) (f := fun v => (35, L, v :: st, n, M)) rfl rfl (am_bm _ _) (fun _ => rfl)
theorem w135_35 {a1 : Value} {x : Nat} {st : List Value} : am_AW d 135 (35, [.ref x, a1], st, n, M) Q = (am_AW d 135 (36, [.ref x, a1], .ref x :: st, n, M) Q) := am_AW_go rfl rfl rfl rfl
theorem w135_36 {L st : List Value} {h : Nat} : am_AW d 135 (36, L, .ref h :: st, n, M) Q = (∃ v, am_fld M h 1 1 = some v ∧ am_AW d 135 (39, L, v :: st, n, M) Q) := am_AW_op (o := am_fld M h 1 1) (f := fun v => (39, L, v :: st, n, M)) rfl rfl (am_bm _ _) (fun _ => rfl)
theorem w135_39 {L st : List Value} {h : Nat} {i : Int32} : am_AW d 135 (39, L, .int i :: .ref h :: st, n, M) Q = (∃ v, am_ald 0 M h i = some v ∧ am_AW d 135 (40, L, .int v :: st, n, M) Q) := am_AW_op (o := am_ald 0 M h i) (f := fun v => (40, L, .int v :: st, n, M)) rfl rfl (am_bm2 _ _ () ()) (fun _ => rfl)
theorem w135_40 {L st : List Value} {h : Nat} {v : Value} : am_AW d 135 (40, L, v :: .ref h :: st, n, M) Q = (am_fit 0 v = true ∧ ∃ M', am_setf M h 1 2 v = some M' ∧ am_AW d 135 (43, L, st, n, M') Q) := am_AW_put rfl
theorem w135_43 {a0 : Value} {x : Int32} {st : List Value} : am_AW d 135 (43, [a0, .int x], st, n, M) Q = (am_AW d 135 (44, [a0, .int x], .int x :: st, n, M) Q) := am_AW_go rfl rfl rfl rfl
theorem w135_44 {L st : List Value} {v0 : Value} : am_AW d 135 (44, L, v0 :: st, n, M) Q = (am_okA 1 (v0 :: st) = true ∧ am_Do d 13 [v0] n M (am_then d 135 47 0 L st n Q)) := am_AW_cs (i := 22) (x := 13) (y := 1) (z := 0) rfl
theorem w135_47 {L st : List Value} {x : Int32} : am_AW d 135 (47, L, .int x :: st, n, M) Q = (if x = am_z 0 then am_AW d 135 (104, L, st, n, M) Q else am_AW d 135 (50, L, st, n, M) Q) := (am_AW_ifz rfl).trans am_ite_eq
theorem w135_50 {a1 : Value} {x : Nat} {st : List Value} : am_AW d 135 (50, [.ref x, a1], st, n, M) Q = (am_AW d 135 (51, [.ref x, a1], .ref x :: st, n, M) Q) := am_AW_go rfl rfl rfl rfl
theorem w135_51 {L st : List Value} {h : Nat} : am_AW d 135 (51, L, .ref h :: st, n, M) Q = (∃ v, am_fld M h 1 0 = some v ∧ am_AW d 135 (54, L, v :: st, n, M) Q) := am_AW_op (o := am_fld M h 1 0) (f := fun v => (54, L, v :: st, n, M)) rfl rfl (am_bm _ _) (fun _ => rfl)
theorem w135_54 {a1 : Value} {x : Nat} {st : List Value} : am_AW d 135 (54, [.ref x, a1], st, n, M) Q = (am_AW d 135 (55, [.ref x, a1], .ref x :: st, n, M) Q) := am_AW_go rfl rfl rfl rfl
theorem w135_55 {L st : List Value} {h : Nat} : am_AW d 135 (55, L, .ref h :: st, n, M) Q = (∃ v, am_fld M h 1 1 = some v ∧ am_AW d 135 (58, L, v :: st, n, M) Q) := am_AW_op (o := am_fld M h 1 1) (f := fun v => (58, L, v :: st, n, M)) rfl rfl (am_bm _ _) (fun _ => rfl)
theorem w135_58 {a0 : Value} {x : Int32} {st : List Value} : am_AW d 135 (58, [a0, .int x], st, n, M) Q = (am_AW d 135 (59, [a0, .int x], .int x :: st, n, M) Q) := am_AW_go rfl rfl rfl rfl
theorem w135_59 {L st : List Value} {v0 : Value} : am_AW d 135 (59, L, v0 :: st, n, M) Q = (am_okA 1 (v0 :: st) = true ∧ am_Do d 14 [v0] n M (am_then d 135 62 0 L st n Q)) := am_AW_cs (i := 26) (x := 14) (y := 1) (z := 0) rfl
theorem w135_62 {L st : List Value} {x : Int32} : am_AW d 135 (62, L, .int x :: st, n, M) Q = (if x = am_z 0 then am_AW d 135 (74, L, st, n, M) Q else am_AW d 135 (65, L, st, n, M) Q) := (am_AW_ifz rfl).trans am_ite_eq
theorem w135_65 {a1 : Value} {x : Nat} {st : List Value} : am_AW d 135 (65, [.ref x, a1], st, n, M) Q = (am_AW d 135 (66, [.ref x, a1], .ref x :: st, n, M) Q) := am_AW_go rfl rfl rfl rfl
theorem w135_66 {L st : List Value} {h : Nat} : am_AW d 135 (66, L, .ref h :: st, n, M) Q = (∃ v, am_fld M h 1 2 = some v ∧ am_AW d 135 (69, L, v :: st, n, M) Q) := am_AW_op (o := am_fld M h 1 2) (f := fun v => (69, L, v :: st, n, M)) rfl rfl (am_bm _ _) (fun _ => rfl)
theorem w135_69 {L st : List Value} : am_AW d 135 (69, L, st, n, M) Q = (am_AW d 135 (70, L, .int (am_z 1) :: st, n, M) Q) := am_AW_go rfl rfl rfl rfl
theorem w135_70 {L st : List Value} {x y : Int32} : am_AW d 135 (70, L, .int y :: .int x :: st, n, M) Q = (am_AW d 135 (71, L, .int (x + y) :: st, n, M) Q) := am_AW_go rfl rfl rfl rfl
theorem w135_71 {L st : List Value} : am_AW d 135 (71, L, st, n, M) Q = (am_AW d 135 (78, L, st, n, M) Q) := am_AW_go rfl rfl rfl rfl
theorem w135_74 {a1 : Value} {x : Nat} {st : List Value} : am_AW d 135 (74, [.ref x, a1], st, n, M) Q = (am_AW d 135 (75, [.ref x, a1], .ref x :: st, n, M) Q) := am_AW_go rfl rfl rfl rfl
theorem w135_75 {L st : List Value} {h : Nat} : am_AW d 135 (75, L, .ref h :: st, n, M) Q = (∃ v, am_fld M h 1 2 = some v ∧ am_AW d 135 (78, L, v :: st, n, M) Q) := am_AW_op (o := am_fld M h 1 2) (f := fun v => (78, L, v :: st, n, M)) rfl rfl (am_bm _ _) (fun _ => rfl)
theorem w135_78 {L st : List Value} {h : Nat} {i v : Int32} : am_AW d 135 (78, L, .int v :: .int i :: .ref h :: st, n, M) Q = (am_fit 0 (.int v) = true ∧ ∃ M', am_ast 0 M h i v = some M' ∧ am_AW d 135 (79, L, st, n, M') Q) := am_AW_ast rfl (Or.inl ⟨rfl, rfl, rfl⟩)
theorem w135_79 {a1 : Value} {x : Nat} {st : List Value} : am_AW d 135 (79, [.ref x, a1], st, n, M) Q = (am_AW d 135 (80, [.ref x, a1], .ref x :: st, n, M) Q) := am_AW_go rfl rfl rfl rfl
theorem w135_80 {L st : List Value} {h : Nat} : am_AW d 135 (80, L, .ref h :: st, n, M) Q = (∃ v, am_fld M h 1 0 = some v ∧ am_AW d 135 (83, L, v :: st, n, M) Q) := am_AW_op (o := am_fld M h 1 0) (f := fun v => (83, L, v :: st, n, M)) rfl rfl (am_bm _ _) (fun _ => rfl)
theorem w135_83 {a1 : Value} {x : Nat} {st : List Value} : am_AW d 135 (83, [.ref x, a1], st, n, M) Q = (am_AW d 135 (84, [.ref x, a1], .ref x :: st, n, M) Q) := am_AW_go rfl rfl rfl rfl
theorem w135_84 {L st : List Value} {h : Nat} : am_AW d 135 (84, L, .ref h :: st, n, M) Q = (∃ v, am_fld M h 1 1 = some v ∧ am_AW d 135 (87, L, v :: st, n, M) Q) := am_AW_op (o := am_fld M h 1 1) (f := fun v => (87, L, v :: st, n, M)) rfl rfl (am_bm _ _) (fun _ => rfl)
theorem w135_87 {L st : List Value} : am_AW d 135 (87, L, st, n, M) Q = (am_AW d 135 (88, L, .int (am_z 1) :: st, n, M) Q) := am_AW_go rfl rfl rfl rfl
theorem w135_88 {L st : List Value} {x y : Int32} : am_AW d 135 (88, L, .int y :: .int x :: st, n, M) Q = (am_AW d 135 (89, L, .int (x + y) :: st, n, M) Q) := am_AW_go rfl rfl rfl rfl
theorem w135_89 {a1 : Value} {x : Nat} {st : List Value} : am_AW d 135 (89, [.ref x, a1], st, n, M) Q = (am_AW d 135 (90, [.ref x, a1], .ref x :: st, n, M) Q) := am_AW_go rfl rfl rfl rfl
theorem w135_90 {L st : List Value} {h : Nat} : am_AW d 135 (90, L, .ref h :: st, n, M) Q = (∃ v, am_fld M h 1 2 = some v ∧ am_AW d 135 (93, L, v :: st, n, M) Q) := am_AW_op (o := am_fld M h 1 2) (f := fun v => (93, L, v :: st, n, M)) rfl rfl (am_bm _ _) (fun _ => rfl)
theorem w135_93 {L st : List Value} {h : Nat} {i v : Int32} : am_AW d 135 (93, L, .int v :: .int i :: .ref h :: st, n, M) Q = (am_fit 0 (.int v) = true ∧ ∃ M', am_ast 0 M h i v = some M' ∧ am_AW d 135 (94, L, st, n, M') Q) := am_AW_ast rfl (Or.inl ⟨rfl, rfl, rfl⟩)
theorem w135_94 {a1 : Value} {x : Nat} {st : List Value} : am_AW d 135 (94, [.ref x, a1], st, n, M) Q = (am_AW d 135 (95, [.ref x, a1], .ref x :: st, n, M) Q) := am_AW_go rfl rfl rfl rfl
theorem w135_95 {L st : List Value} {x : Nat} : am_AW d 135 (95, L, .ref x :: st, n, M) Q = (am_AW d 135 (96, L, .ref x :: .ref x :: st, n, M) Q) := am_AW_go rfl rfl rfl rfl
theorem w135_95i {L st : List Value} {x : Int32} : am_AW d 135 (95, L, .int x :: st, n, M) Q = (am_AW d 135 (96, L, .int x :: .int x :: st, n, M) Q) := am_AW_go rfl rfl rfl rfl
theorem w135_96 {L st : List Value} {h : Nat} : am_AW d 135 (96, L, .ref h :: st, n, M) Q = (∃ v, am_fld M h 1 1 = some v ∧ am_AW d 135 (99, L, v :: st, n, M) Q) := am_AW_op (o := am_fld M h 1 1) (f := fun v => (99, L, v :: st, n, M)) rfl rfl (am_bm _ _) (fun _ => rfl)
theorem w135_99 {L st : List Value} : am_AW d 135 (99, L, st, n, M) Q = (am_AW d 135 (100, L, .int (am_z 2) :: st, n, M) Q) := am_AW_go rfl rfl rfl rfl
theorem w135_100 {L st : List Value} {x y : Int32} : am_AW d 135 (100, L, .int y :: .int x :: st, n, M) Q = (am_AW d 135 (101, L, .int (x + y) :: st, n, M) Q) := am_AW_go rfl rfl rfl rfl
theorem w135_101 {L st : List Value} {h : Nat} {v : Value} : am_AW d 135 (101, L, v :: .ref h :: st, n, M) Q = (am_fit 0 v = true ∧ ∃ M', am_setf M h 1 1 v = some M' ∧ am_AW d 135 (104, L, st, n, M') Q) := am_AW_put rfl
theorem w135_104 {L : List Value} : am_AW d 135 (104, L, [], n, M) Q = (Q none n M) := am_AW_ret (rv := (none, n)) rfl rfl rfl (am_mono_self n)
end W135
section W150
variable {d : Nat} {n : am_N} {M : am_M} {Q : Option Value → am_N → am_M → Prop}
theorem w150_0 {a1 a2 : Value} {x : Int32} {st : List Value} : am_AW d 150 (0, [.int x, a1, a2], st, n, M) Q = (am_AW d 150 (1, [.int x, a1, a2], .int x :: st, n, M) Q) := am_AW_go rfl rfl rfl rfl
theorem w150_1 {a0 a2 : Value} {x : Int32} {st : List Value} : am_AW d 150 (1, [a0, .int x, a2], st, n, M) Q = (am_AW d 150 (2, [a0, .int x, a2], .int x :: st, n, M) Q) := am_AW_go rfl rfl rfl rfl
theorem w150_2 {L st : List Value} {x y : Int32} (hy : ¬ y = 0) : am_AW d 150 (2, L, .int y :: .int x :: st, n, M) Q = (am_AW d 150 (3, L, .int (x - x / y * y) :: st, n, M) Q) := am_AW_go rfl rfl (show ((if y = 0 then none else some (x - x / y * y)).map (fun z => Value.int z :: st)).bind (fun st' => some (3, L, st', n, M)) = _ by rw [if_neg hy]; rfl) rfl
theorem w150_3 {a0 a1 a2 : Value} {x : Int32} {st : List Value} : am_AW d 150 (3, [a0, a1, a2], .int x :: st, n, M) Q = (am_AW d 150 (4, [a0, a1, .int x], st, n, M) Q) := am_AW_go rfl rfl rfl rfl
theorem w150_4 {a1 a2 : Value} {x : Int32} {st : List Value} : am_AW d 150 (4, [.int x, a1, a2], st, n, M) Q = (am_AW d 150 (5, [.int x, a1, a2], .int x :: st, n, M) Q) := am_AW_go rfl rfl rfl rfl
theorem w150_5 {a0 a2 : Value} {x : Int32} {st : List Value} : am_AW d 150 (5, [a0, .int x, a2], st, n, M) Q = (am_AW d 150 (6, [a0, .int x, a2], .int x :: st, n, M) Q) := am_AW_go rfl rfl rfl rfl
theorem w150_6 {L st : List Value} {x y : Int32} : am_AW d 150 (6, L, .int y :: .int x :: st, n, M) Q = (am_AW d 150 (7, L, .int (x ^^^ y) :: st, n, M) Q) := am_AW_go rfl rfl rfl rfl
theorem w150_7 {L st : List Value} {x : Int32} : am_AW d 150 (7, L, .int x :: st, n, M) Q = (if x < am_z 0 then am_AW d 150 (10, L, st, n, M) Q else am_AW d 150 (18, L, st, n, M) Q) := (am_AW_ifz rfl).trans am_ite_ge
theorem w150_10 {a0 a1 : Value} {x : Int32} {st : List Value} : am_AW d 150 (10, [a0, a1, .int x], st, n, M) Q = (am_AW d 150 (11, [a0, a1, .int x], .int x :: st, n, M) Q) := am_AW_go rfl rfl rfl rfl
theorem w150_11 {L st : List Value} {x : Int32} : am_AW d 150 (11, L, .int x :: st, n, M) Q = (if x = am_z 0 then am_AW d 150 (18, L, st, n, M) Q else am_AW d 150 (14, L, st, n, M) Q) := (am_AW_ifz rfl).trans am_ite_eq
theorem w150_14 {a0 a1 : Value} {x : Int32} {st : List Value} : am_AW d 150 (14, [a0, a1, .int x], st, n, M) Q = (am_AW d 150 (15, [a0, a1, .int x], .int x :: st, n, M) Q) := am_AW_go rfl rfl rfl rfl
theorem w150_15 {a0 a2 : Value} {x : Int32} {st : List Value} : am_AW d 150 (15, [a0, .int x, a2], st, n, M) Q = (am_AW d 150 (16, [a0, .int x, a2], .int x :: st, n, M) Q) := am_AW_go rfl rfl rfl rfl
theorem w150_16 {L st : List Value} {x y : Int32} : am_AW d 150 (16, L, .int y :: .int x :: st, n, M) Q = (am_AW d 150 (17, L, .int (x + y) :: st, n, M) Q) := am_AW_go rfl rfl rfl rfl
theorem w150_17 {L : List Value} {x : Int32} : am_AW d 150 (17, L, [.int x], n, M) Q = (Q (some (.int x)) n M) := am_AW_ret (rv := (some (.int x), n)) rfl rfl rfl (am_mono_self n)
theorem w150_18 {a0 a1 : Value} {x : Int32} {st : List Value} : am_AW d 150 (18, [a0, a1, .int x], st, n, M) Q = (am_AW d 150 (19, [a0, a1, .int x], .int x :: st, n, M) Q) := am_AW_go rfl rfl rfl rfl
theorem w150_19 {L : List Value} {x : Int32} : am_AW d 150 (19, L, [.int x], n, M) Q = (Q (some (.int x)) n M) := am_AW_ret (rv := (some (.int x), n)) rfl rfl rfl (am_mono_self n)
end W150
