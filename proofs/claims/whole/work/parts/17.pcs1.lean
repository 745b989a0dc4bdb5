section W13
variable {d : Nat} {n : am_N} {M : am_M} {Q : Option Value → am_N → am_M → Prop}
theorem w13_0 {x : Int32} {st : List Value} : am_AW d 13 (0, [.int x], st, n, M) Q = (am_AW d 13 (1, [.int x], .int x :: st, n, M) Q) := am_AW_go rfl rfl rfl rfl
theorem w13_1 {L st : List Value} {x : Int32} : am_AW d 13 (1, L, .int x :: st, n, M) Q = (if x < 0 then am_AW d 13 (13, L, st, n, M) Q else am_AW d 13 (4, L, st, n, M) Q) := (am_AW_if rfl).trans am_ite_lt
theorem w13_4 {x : Int32} {st : List Value} : am_AW d 13 (4, [.int x], st, n, M) Q = (am_AW d 13 (5, [.int x], .int x :: st, n, M) Q) := am_AW_go rfl rfl rfl rfl
theorem w13_5 {L st : List Value} : am_AW d 13 (5, L, st, n, M) Q = (am_AW d 13 (6, L, .int 2 :: st, n, M) Q) := am_AW_go rfl rfl rfl rfl
theorem w13_6 {L st : List Value} {x y : Int32} : am_AW d 13 (6, L, .int y :: .int x :: st, n, M) Q = (if x ≤ y then am_AW d 13 (9, L, st, n, M) Q else am_AW d 13 (13, L, st, n, M) Q) := (am_AW_icmp rfl).trans am_ite_gt
theorem w13_9 {L st : List Value} : am_AW d 13 (9, L, st, n, M) Q = (am_AW d 13 (10, L, .int 1 :: st, n, M) Q) := am_AW_go rfl rfl rfl rfl
theorem w13_10 {L st : List Value} : am_AW d 13 (10, L, st, n, M) Q = (am_AW d 13 (14, L, st, n, M) Q) := am_AW_go rfl rfl rfl rfl
theorem w13_13 {L st : List Value} : am_AW d 13 (13, L, st, n, M) Q = (am_AW d 13 (14, L, .int 0 :: st, n, M) Q) := am_AW_go rfl rfl rfl rfl
theorem w13_14 {L : List Value} {x : Int32} (hf : am_fit 1 (.int x) = true) : am_AW d 13 (14, L, [.int x], n, M) Q = (Q (some (.int x)) n M) := am_AW_ret (rv := (some (.int x), n)) rfl rfl (if_pos hf) (am_mono_self n)
end W13
section W14
variable {d : Nat} {n : am_N} {M : am_M} {Q : Option Value → am_N → am_M → Prop}
theorem w14_0 {x : Int32} {st : List Value} : am_AW d 14 (0, [.int x], st, n, M) Q = (am_AW d 14 (1, [.int x], .int x :: st, n, M) Q) := am_AW_go rfl rfl rfl rfl
theorem w14_1 {L st : List Value} : am_AW d 14 (1, L, st, n, M) Q = (am_AW d 14 (2, L, .int 1 :: st, n, M) Q) := am_AW_go rfl rfl rfl rfl
theorem w14_2 {L st : List Value} {x y : Int32} : am_AW d 14 (2, L, .int y :: .int x :: st, n, M) Q = (if x = y then am_AW d 14 (10, L, st, n, M) Q else am_AW d 14 (5, L, st, n, M) Q) := (am_AW_icmp rfl).trans am_ite_eq
theorem w14_5 {x : Int32} {st : List Value} : am_AW d 14 (5, [.int x], st, n, M) Q = (am_AW d 14 (6, [.int x], .int x :: st, n, M) Q) := am_AW_go rfl rfl rfl rfl
theorem w14_6 {L st : List Value} : am_AW d 14 (6, L, st, n, M) Q = (am_AW d 14 (7, L, .int 2 :: st, n, M) Q) := am_AW_go rfl rfl rfl rfl
theorem w14_7 {L st : List Value} {x y : Int32} : am_AW d 14 (7, L, .int y :: .int x :: st, n, M) Q = (if x = y then am_AW d 14 (10, L, st, n, M) Q else am_AW d 14 (14, L, st, n, M) Q) := (am_AW_icmp rfl).trans am_ite_ne
theorem w14_10 {L st : List Value} : am_AW d 14 (10, L, st, n, M) Q = (am_AW d 14 (11, L, .int 1 :: st, n, M) Q) := am_AW_go rfl rfl rfl rfl
theorem w14_11 {L st : List Value} : am_AW d 14 (11, L, st, n, M) Q = (am_AW d 14 (15, L, st, n, M) Q) := am_AW_go rfl rfl rfl rfl
theorem w14_14 {L st : List Value} : am_AW d 14 (14, L, st, n, M) Q = (am_AW d 14 (15, L, .int 0 :: st, n, M) Q) := am_AW_go rfl rfl rfl rfl
theorem w14_15 {L : List Value} {x : Int32} (hf : am_fit 1 (.int x) = true) : am_AW d 14 (15, L, [.int x], n, M) Q = (Q (some (.int x)) n M) := am_AW_ret (rv := (some (.int x), n)) rfl rfl (if_pos hf) (am_mono_self n)
end W14
section W15
variable {d : Nat} {n : am_N} {M : am_M} {Q : Option Value → am_N → am_M → Prop}
theorem w15_0 {x : Int32} {st : List Value} : am_AW d 15 (0, [.int x], st, n, M) Q = (am_AW d 15 (1, [.int x], .int x :: st, n, M) Q) := am_AW_go rfl rfl rfl rfl
theorem w15_1 {L st : List Value} : am_AW d 15 (1, L, st, n, M) Q = (am_AW d 15 (3, L, .int 10 :: st, n, M) Q) := am_AW_go rfl rfl rfl rfl
theorem w15_3 {L st : List Value} {x y : Int32} : am_AW d 15 (3, L, .int y :: .int x :: st, n, M) Q = (if x < y then am_AW d 15 (16, L, st, n, M) Q else am_AW d 15 (6, L, st, n, M) Q) := (am_AW_icmp rfl).trans am_ite_lt
theorem w15_6 {x : Int32} {st : List Value} : am_AW d 15 (6, [.int x], st, n, M) Q = (am_AW d 15 (7, [.int x], .int x :: st, n, M) Q) := am_AW_go rfl rfl rfl rfl
theorem w15_7 {L st : List Value} : am_AW d 15 (7, L, st, n, M) Q = (am_AW d 15 (9, L, .int 18 :: st, n, M) Q) := am_AW_go rfl rfl rfl rfl
theorem w15_9 {L st : List Value} {x y : Int32} : am_AW d 15 (9, L, .int y :: .int x :: st, n, M) Q = (if x < y then am_AW d 15 (12, L, st, n, M) Q else am_AW d 15 (16, L, st, n, M) Q) := (am_AW_icmp rfl).trans am_ite_ge
theorem w15_12 {L st : List Value} : am_AW d 15 (12, L, st, n, M) Q = (am_AW d 15 (13, L, .int 1 :: st, n, M) Q) := am_AW_go rfl rfl rfl rfl
theorem w15_13 {L st : List Value} : am_AW d 15 (13, L, st, n, M) Q = (am_AW d 15 (17, L, st, n, M) Q) := am_AW_go rfl rfl rfl rfl
theorem w15_16 {L st : List Value} : am_AW d 15 (16, L, st, n, M) Q = (am_AW d 15 (17, L, .int 0 :: st, n, M) Q) := am_AW_go rfl rfl rfl rfl
theorem w15_17 {L : List Value} {x : Int32} (hf : am_fit 1 (.int x) = true) : am_AW d 15 (17, L, [.int x], n, M) Q = (Q (some (.int x)) n M) := am_AW_ret (rv := (some (.int x), n)) rfl rfl (if_pos hf) (am_mono_self n)
end W15
section W16
variable {d : Nat} {n : am_N} {M : am_M} {Q : Option Value → am_N → am_M → Prop}
theorem w16_0 {x : Int32} {st : List Value} : am_AW d 16 (0, [.int x], st, n, M) Q = (am_AW d 16 (1, [.int x], .int x :: st, n, M) Q) := am_AW_go rfl rfl rfl rfl
theorem w16_1 {L st : List Value} : am_AW d 16 (1, L, st, n, M) Q = (am_AW d 16 (3, L, .int 20 :: st, n, M) Q) := am_AW_go rfl rfl rfl rfl
theorem w16_3 {L st : List Value} {x y : Int32} : am_AW d 16 (3, L, .int y :: .int x :: st, n, M) Q = (if x < y then am_AW d 16 (16, L, st, n, M) Q else am_AW d 16 (6, L, st, n, M) Q) := (am_AW_icmp rfl).trans am_ite_lt
theorem w16_6 {x : Int32} {st : List Value} : am_AW d 16 (6, [.int x], st, n, M) Q = (am_AW d 16 (7, [.int x], .int x :: st, n, M) Q) := am_AW_go rfl rfl rfl rfl
theorem w16_7 {L st : List Value} : am_AW d 16 (7, L, st, n, M) Q = (am_AW d 16 (9, L, .int 40 :: st, n, M) Q) := am_AW_go rfl rfl rfl rfl
theorem w16_9 {L st : List Value} {x y : Int32} : am_AW d 16 (9, L, .int y :: .int x :: st, n, M) Q = (if x ≤ y then am_AW d 16 (12, L, st, n, M) Q else am_AW d 16 (16, L, st, n, M) Q) := (am_AW_icmp rfl).trans am_ite_gt
theorem w16_12 {L st : List Value} : am_AW d 16 (12, L, st, n, M) Q = (am_AW d 16 (13, L, .int 1 :: st, n, M) Q) := am_AW_go rfl rfl rfl rfl
theorem w16_13 {L st : List Value} : am_AW d 16 (13, L, st, n, M) Q = (am_AW d 16 (17, L, st, n, M) Q) := am_AW_go rfl rfl rfl rfl
theorem w16_16 {L st : List Value} : am_AW d 16 (16, L, st, n, M) Q = (am_AW d 16 (17, L, .int 0 :: st, n, M) Q) := am_AW_go rfl rfl rfl rfl
theorem w16_17 {L : List Value} {x : Int32} (hf : am_fit 1 (.int x) = true) : am_AW d 16 (17, L, [.int x], n, M) Q = (Q (some (.int x)) n M) := am_AW_ret (rv := (some (.int x), n)) rfl rfl (if_pos hf) (am_mono_self n)
end W16
section W17
variable {d : Nat} {n : am_N} {M : am_M} {Q : Option Value → am_N → am_M → Prop}
theorem w17_0 {x : Int32} {st : List Value} : am_AW d 17 (0, [.int x], st, n, M) Q = (am_AW d 17 (1, [.int x], .int x :: st, n, M) Q) := am_AW_go rfl rfl rfl rfl
theorem w17_1 {L st : List Value} : am_AW d 17 (1, L, st, n, M) Q = (am_AW d 17 (3, L, .int 50 :: st, n, M) Q) := am_AW_go rfl rfl rfl rfl
theorem w17_3 {L st : List Value} {x y : Int32} : am_AW d 17 (3, L, .int y :: .int x :: st, n, M) Q = (if x < y then am_AW d 17 (10, L, st, n, M) Q else am_AW d 17 (6, L, st, n, M) Q) := (am_AW_icmp rfl).trans am_ite_lt
theorem w17_6 {L st : List Value} : am_AW d 17 (6, L, st, n, M) Q = (am_AW d 17 (7, L, .int 1 :: st, n, M) Q) := am_AW_go rfl rfl rfl rfl
theorem w17_7 {L st : List Value} : am_AW d 17 (7, L, st, n, M) Q = (am_AW d 17 (11, L, st, n, M) Q) := am_AW_go rfl rfl rfl rfl
theorem w17_10 {L st : List Value} : am_AW d 17 (10, L, st, n, M) Q = (am_AW d 17 (11, L, .int 0 :: st, n, M) Q) := am_AW_go rfl rfl rfl rfl
theorem w17_11 {L : List Value} {x : Int32} (hf : am_fit 1 (.int x) = true) : am_AW d 17 (11, L, [.int x], n, M) Q = (Q (some (.int x)) n M) := am_AW_ret (rv := (some (.int x), n)) rfl rfl (if_pos hf) (am_mono_self n)
end W17
section W108
variable {d : Nat} {n : am_N} {M : am_M} {Q : Option Value → am_N → am_M → Prop}
theorem w108_0 {a1 : Value} {x : Nat} {st : List Value} : am_AW d 108 (0, [.ref x, a1], st, n, M) Q = (am_AW d 108 (1, [.ref x, a1], .ref x :: st, n, M) Q) := am_AW_go rfl rfl rfl rfl
theorem w108_1 {L st : List Value} {v0 : Value} : am_AW d 108 (1, L, v0 :: st, n, M) Q = (am_okA 1 (v0 :: st) = true ∧ am_isR [v0] = true ∧ am_Do d 2000 [v0] n M (am_then d 108 4 0 L st n Q)) := am_AW_ci (i := 3) (x := 2000) (y := 1) (z := 0) rfl
theorem w108_4 {a1 : Value} {x : Nat} {st : List Value} : am_AW d 108 (4, [.ref x, a1], st, n, M) Q = (am_AW d 108 (5, [.ref x, a1], .ref x :: st, n, M) Q) := am_AW_go rfl rfl rfl rfl
theorem w108_5 {L st : List Value} : am_AW d 108 (5, L, st, n, M) Q = (am_AW d 108 (6, L, .int 0 :: st, n, M) Q) := am_AW_go rfl rfl rfl rfl
theorem w108_6 {L st : List Value} {h : Nat} {v : Value} : am_AW d 108 (6, L, v :: .ref h :: st, n, M) Q = (am_fit 0 v = true ∧ ∃ M', am_setf M h 0 1 v = some M' ∧ am_AW d 108 (9, L, st, n, M') Q) := am_AW_put rfl
theorem w108_9 {a1 : Value} {x : Nat} {st : List Value} : am_AW d 108 (9, [.ref x, a1], st, n, M) Q = (am_AW d 108 (10, [.ref x, a1], .ref x :: st, n, M) Q) := am_AW_go rfl rfl rfl rfl
theorem w108_10 {L st : List Value} : am_AW d 108 (10, L, st, n, M) Q = (am_AW d 108 (11, L, .int 0 :: st, n, M) Q) := am_AW_go rfl rfl rfl rfl
theorem w108_11 {L st : List Value} {h : Nat} {v : Value} : am_AW d 108 (11, L, v :: .ref h :: st, n, M) Q = (am_fit 1 v = true ∧ ∃ M', am_setf M h 0 2 v = some M' ∧ am_AW d 108 (14, L, st, n, M') Q) := am_AW_put rfl
theorem w108_14 {a1 : Value} {x : Nat} {st : List Value} : am_AW d 108 (14, [.ref x, a1], st, n, M) Q = (am_AW d 108 (15, [.ref x, a1], .ref x :: st, n, M) Q) := am_AW_go rfl rfl rfl rfl
theorem w108_15 {a0 : Value} {x : Int32} {st : List Value} : am_AW d 108 (15, [a0, .int x], st, n, M) Q = (am_AW d 108 (16, [a0, .int x], .int x :: st, n, M) Q) := am_AW_go rfl rfl rfl rfl
theorem w108_18 {L st : List Value} {h : Nat} {v : Value} : am_AW d 108 (18, L, v :: .ref h :: st, n, M) Q = (am_fit 3 v = true ∧ ∃ M', am_setf M h 0 0 v = some M' ∧ am_AW d 108 (21, L, st, n, M') Q) := am_AW_put rfl
theorem w108_21 {L : List Value} : am_AW d 108 (21, L, [], n, M) Q = (Q none n M) := am_AW_ret (rv := (none, n)) rfl rfl rfl (am_mono_self n)
end W108
section W109
variable {d : Nat} {n : am_N} {M : am_M} {Q : Option Value → am_N → am_M → Prop}
theorem w109_0 {x : Nat} {st : List Value} : am_AW d 109 (0, [.ref x], st, n, M) Q = (am_AW d 109 (1, [.ref x], .ref x :: st, n, M) Q) := am_AW_go rfl rfl rfl rfl
theorem w109_1 {L st : List Value} : am_AW d 109 (1, L, st, n, M) Q = (am_AW d 109 (2, L, .int 0 :: st, n, M) Q) := am_AW_go rfl rfl rfl rfl
theorem w109_2 {L st : List Value} {h : Nat} {v : Value} : am_AW d 109 (2, L, v :: .ref h :: st, n, M) Q = (am_fit 0 v = true ∧ ∃ M', am_setf M h 0 1 v = some M' ∧ am_AW d 109 (5, L, st, n, M') Q) := am_AW_put rfl
theorem w109_5 {x : Nat} {st : List Value} : am_AW d 109 (5, [.ref x], st, n, M) Q = (am_AW d 109 (6, [.ref x], .ref x :: st, n, M) Q) := am_AW_go rfl rfl rfl rfl
theorem w109_6 {L st : List Value} : am_AW d 109 (6, L, st, n, M) Q = (am_AW d 109 (7, L, .int 0 :: st, n, M) Q) := am_AW_go rfl rfl rfl rfl
theorem w109_7 {L st : List Value} {h : Nat} {v : Value} : am_AW d 109 (7, L, v :: .ref h :: st, n, M) Q = (am_fit 1 v = true ∧ ∃ M', am_setf M h 0 2 v = some M' ∧ am_AW d 109 (10, L, st, n, M') Q) := am_AW_put rfl
theorem w109_10 {L : List Value} : am_AW d 109 (10, L, [], n, M) Q = (Q none n M) := am_AW_ret (rv := (none, n)) rfl rfl rfl (am_mono_self n)
end W109
section W110
variable {d : Nat} {n : am_N} {M : am_M} {Q : Option Value → am_N → am_M → Prop}
theorem w110_0 {a1 : Value} {x : Nat} {st : List Value} : am_AW d 110 (0, [.ref x, a1], st, n, M) Q = (am_AW d 110 (1, [.ref x, a1], .ref x :: st, n, M) Q) := am_AW_go rfl rfl rfl rfl
theorem w110_1 {L st : List Value} {h : Nat} : am_AW d 110 (1, L, .ref h :: st, n, M) Q = (∃ v, am_fld M h 0 1 = some v ∧ am_AW d 110 (4, L, v :: st, n, M) Q) := am_AW_op (o := am_fld M h 0 1) (f := fun v => (4, L, v :: st, n, M)) rfl rfl (am_bm _ _) (fun _ => rfl)
theorem w110_4 {a1 : Value} {x : Nat} {st : List Value} : am_AW d 110 (4, [.ref x, a1], st, n, M) Q = (am_AW d 110 (5, [.ref x, a1], .ref x :: st, n, M) Q) := am_AW_go rfl rfl rfl rfl
theorem w110_5 {L st : List Value} {h : Nat} : am_AW d 110 (5, L, .ref h :: st, n, M) Q = (∃ v, am_fld M h 0 0 = some v ∧ am_AW d 110 (8, L, v :: st, n, M) Q) := am_AW_op (o := am_fld M h 0 0) (f := fun v => (8, L, v :: st, n, M)) rfl rfl (am_bm _ _) (fun _ => rfl)
theorem w110_8 {L st : List Value} {h : Nat} : am_AW d 110 (8, L, .ref h :: st, n, M) Q = (∃ v, am_len M h = some v ∧ am_AW d 110 (9, L, .int v :: st, n, M) Q) := am_AW_op (o := am_len M h) (f := fun v => (9, L, .int v :: st, n, M)) rfl rfl (am_bm _ _) (fun _ => rfl)
theorem w110_9 {L st : List Value} {x y : Int32} : am_AW d 110 (9, L, .int y :: .int x :: st, n, M) Q = (if x < y then am_AW d 110 (12, L, st, n, M) Q else am_AW d 110 (35, L, st, n, M) Q) := (am_AW_icmp rfl).trans am_ite_ge
theorem w110_12 {a1 : Value} {x : Nat} {st : List Value} : am_AW d 110 (12, [.ref x, a1], st, n, M) Q = (am_AW d 110 (13, [.ref x, a1], .ref x :: st, n, M) Q) := am_AW_go rfl rfl rfl rfl
theorem w110_13 {L st : List Value} {h : Nat} : am_AW d 110 (13, L, .ref h :: st, n, M) Q = (∃ v, am_fld M h 0 0 = some v ∧ am_AW d 110 (16, L, v :: st, n, M) Q) := am_AW_op (o := am_fld M h 0 0) (f := fun v => (16, L, v :: st, n, M)) rfl rfl (am_bm _ _) (fun _ => rfl)
theorem w110_16 {a1 : Value} {x : Nat} {st : List Value} : am_AW d 110 (16, [.ref x, a1], st, n, M) Q = (am_AW d 110 (17, [.ref x, a1], .ref x :: st, n, M) Q) := am_AW_go rfl rfl rfl rfl
theorem w110_17 {L st : List Value} {h : Nat} : am_AW d 110 (17, L, .ref h :: st, n, M) Q = (∃ v, am_fld M h 0 1 = some v ∧ am_AW d 110 (20, L, v :: st, n, M) Q) := am_AW_op (o := am_fld M h 0 1) (f := fun v => (20, L, v :: st, n, M)) rfl rfl (am_bm _ _) (fun _ => rfl)
theorem w110_20 {a0 : Value} {x : Int32} {st : List Value} : am_AW d 110 (20, [a0, .int x], st, n, M) Q = (am_AW d 110 (21, [a0, .int x], .int x :: st, n, M) Q) := am_AW_go rfl rfl rfl rfl
theorem w110_21 {L st : List Value} {h : Nat} {i v : Int32} : am_AW d 110 (21, L, .int v :: .int i :: .ref h :: st, n, M) Q = (am_fit 0 (.int v) = true ∧ ∃ M', am_ast 0 M h i v = some M' ∧ am_AW d 110 (22, L, st, n, M') Q) := am_AW_ast rfl (Or.inl ⟨rfl, rfl, rfl⟩)
theorem w110_22 {a1 : Value} {x : Nat} {st : List Value} : am_AW d 110 (22, [.ref x, a1], st, n, M) Q = (am_AW d 110 (23, [.ref x, a1], .ref x :: st, n, M) Q) := am_AW_go rfl rfl rfl rfl
theorem w110_23 {L st : List Value} {x : Nat} : am_AW d 110 (23, L, .ref x :: st, n, M) Q = (am_AW d 110 (24, L, .ref x :: .ref x :: st, n, M) Q) := am_AW_go rfl rfl rfl rfl
theorem w110_23i {L st : List Value} {x : Int32} : am_AW d 110 (23, L, .int x :: st, n, M) Q = (am_AW d 110 (24, L, .int x :: .int x :: st, n, M) Q) := am_AW_go rfl rfl rfl rfl
theorem w110_24 {L st : List Value} {h : Nat} : am_AW d 110 (24, L, .ref h :: st, n, M) Q = (∃ v, am_fld M h 0 1 = some v ∧ am_AW d 110 (27, L, v :: st, n, M) Q) := am_AW_op (o := am_fld M h 0 1) (f := fun v => (27, L, v :: st, n, M)) rfl rfl (am_bm _ _) (fun _ => rfl)
theorem w110_27 {L st : List Value} : am_AW d 110 (27, L, st, n, M) Q = (am_AW d 110 (28, L, .int 1 :: st, n, M) Q) := am_AW_go rfl rfl rfl rfl
theorem w110_28 {L st : List Value} {x y : Int32} : am_AW d 110 (28, L, .int y :: .int x :: st, n, M) Q = (am_AW d 110 (29, L, .int (x + y) :: st, n, M) Q) := am_AW_go rfl rfl rfl rfl
theorem w110_29 {L st : List Value} {h : Nat} {v : Value} : am_AW d 110 (29, L, v :: .ref h :: st, n, M) Q = (am_fit 0 v = true ∧ ∃ M', am_setf M h 0 1 v = some M' ∧ am_AW d 110 (32, L, st, n, M') Q) := am_AW_put rfl
theorem w110_32 {L st : List Value} : am_AW d 110 (32, L, st, n, M) Q = (am_AW d 110 (40, L, st, n, M) Q) := am_AW_go rfl rfl rfl rfl
theorem w110_35 {a1 : Value} {x : Nat} {st : List Value} : am_AW d 110 (35, [.ref x, a1], st, n, M) Q = (am_AW d 110 (36, [.ref x, a1], .ref x :: st, n, M) Q) := am_AW_go rfl rfl rfl rfl
theorem w110_36 {L st : List Value} : am_AW d 110 (36, L, st, n, M) Q = (am_AW d 110 (37, L, .int 1 :: st, n, M) Q) := am_AW_go rfl rfl rfl rfl
theorem w110_37 {L st : List Value} {h : Nat} {v : Value} : am_AW d 110 (37, L, v :: .ref h :: st, n, M) Q = (am_fit 1 v = true ∧ ∃ M', am_setf M h 0 2 v = some M' ∧ am_AW d 110 (40, L, st, n, M') Q) := am_AW_put rfl
theorem w110_40 {L : List Value} : am_AW d 110 (40, L, [], n, M) Q = (Q none n M) := am_AW_ret (rv := (none, n)) rfl rfl rfl (am_mono_self n)
end W110
section W111
variable {d : Nat} {n : am_N} {M : am_M} {Q : Option Value → am_N → am_M → Prop}
theorem w111_0 {a0 a1 a3 a4 : Value} {x : Int32} {st : List Value} : am_AW d 111 (0, [a0, a1, .int x, a3, a4], st, n, M) Q = (am_AW d 111 (1, [a0, a1, .int x, a3, a4], .int x :: st, n, M) Q) := am_AW_go rfl rfl rfl rfl
theorem w111_1 {a0 a1 a2 a3 a4 : Value} {x : Int32} {st : List Value} : am_AW d 111 (1, [a0, a1, a2, a3, a4], .int x :: st, n, M) Q = (am_AW d 111 (3, [a0, a1, a2, a3, .int x], st, n, M) Q) := am_AW_go rfl rfl rfl rfl
theorem w111_3 {a0 a1 a2 a3 : Value} {x : Int32} {st : List Value} : am_AW d 111 (3, [a0, a1, a2, a3, .int x], st, n, M) Q = (am_AW d 111 (5, [a0, a1, a2, a3, .int x], .int x :: st, n, M) Q) := am_AW_go rfl rfl rfl rfl
theorem w111_5 {a0 a1 a2 a4 : Value} {x : Int32} {st : List Value} : am_AW d 111 (5, [a0, a1, a2, .int x, a4], st, n, M) Q = (am_AW d 111 (6, [a0, a1, a2, .int x, a4], .int x :: st, n, M) Q) := am_AW_go rfl rfl rfl rfl
theorem w111_6 {L st : List Value} {x y : Int32} : am_AW d 111 (6, L, .int y :: .int x :: st, n, M) Q = (if x < y then am_AW d 111 (9, L, st, n, M) Q else am_AW d 111 (25, L, st, n, M) Q) := (am_AW_icmp rfl).trans am_ite_ge
theorem w111_9 {a1 a2 a3 a4 : Value} {x : Nat} {st : List Value} : am_AW d 111 (9, [.ref x, a1, a2, a3, a4], st, n, M) Q = (am_AW d 111 (10, [.ref x, a1, a2, a3, a4], .ref x :: st, n, M) Q) := am_AW_go rfl rfl rfl rfl
theorem w111_10 {a0 a2 a3 a4 : Value} {x : Nat} {st : List Value} : am_AW d 111 (10, [a0, .ref x, a2, a3, a4], st, n, M) Q = (am_AW d 111 (11, [a0, .ref x, a2, a3, a4], .ref x :: st, n, M) Q) := am_AW_go rfl rfl rfl rfl
theorem w111_11 {a0 a1 a2 a3 : Value} {x : Int32} {st : List Value} : am_AW d 111 (11, [a0, a1, a2, a3, .int x], st, n, M) Q = (am_AW d 111 (13, [a0, a1, a2, a3, .int x], .int x :: st, n, M) Q) := am_AW_go rfl rfl rfl rfl
theorem w111_13 {L st : List Value} {v0 v1 : Value} : am_AW d 111 (13, L, v0 :: v1 :: st, n, M) Q = (am_okA 2 (v0 :: v1 :: st) = true ∧ am_isO M [v1, v0] 0 = true ∧ am_Do d 114 [v1, v0] n M (am_then d 111 16 0 L st n Q)) := am_AW_cv (i := 23) (x := 114) (y := 2) (z := 0) rfl
theorem w111_16 {L st : List Value} {v0 v1 : Value} : am_AW d 111 (16, L, v0 :: v1 :: st, n, M) Q = (am_okA 2 (v0 :: v1 :: st) = true ∧ am_isO M [v1, v0] 0 = true ∧ am_Do d 110 [v1, v0] n M (am_then d 111 19 0 L st n Q)) := am_AW_cv (i := 27) (x := 110) (y := 2) (z := 0) rfl
theorem w111_19 {a0 a1 a2 a3 : Value} {x : Int32} {st : List Value} : am_AW d 111 (19, [a0, a1, a2, a3, .int x], st, n, M) Q = (am_AW d 111 (22, [a0, a1, a2, a3, .int (x + 1)], st, n, M) Q) := am_AW_go rfl rfl rfl rfl
theorem w111_22 {L st : List Value} : am_AW d 111 (22, L, st, n, M) Q = (am_AW d 111 (3, L, st, n, M) Q) := am_AW_go rfl rfl rfl rfl
theorem w111_25 {L : List Value} : am_AW d 111 (25, L, [], n, M) Q = (Q none n M) := am_AW_ret (rv := (none, n)) rfl rfl rfl (am_mono_self n)
end W111
section W112
variable {d : Nat} {n : am_N} {M : am_M} {Q : Option Value → am_N → am_M → Prop}
theorem w112_0 {L st : List Value} : am_AW d 112 (0, L, st, n, M) Q = (am_AW d 112 (1, L, .int 0 :: st, n, M) Q) := am_AW_go rfl rfl rfl rfl
theorem w112_1 {a0 a1 a2 : Value} {x : Int32} {st : List Value} : am_AW d 112 (1, [a0, a1, a2], .int x :: st, n, M) Q = (am_AW d 112 (2, [a0, a1, .int x], st, n, M) Q) := am_AW_go rfl rfl rfl rfl
theorem w112_2 {a0 a1 : Value} {x : Int32} {st : List Value} : am_AW d 112 (2, [a0, a1, .int x], st, n, M) Q = (am_AW d 112 (3, [a0, a1, .int x], .int x :: st, n, M) Q) := am_AW_go rfl rfl rfl rfl
theorem w112_3 {a0 a2 : Value} {x : Int32} {st : List Value} : am_AW d 112 (3, [a0, .int x, a2], st, n, M) Q = (am_AW d 112 (4, [a0, .int x, a2], .int x :: st, n, M) Q) := am_AW_go rfl rfl rfl rfl
theorem w112_4 {L st : List Value} {x y : Int32} : am_AW d 112 (4, L, .int y :: .int x :: st, n, M) Q = (if x < y then am_AW d 112 (7, L, st, n, M) Q else am_AW d 112 (24, L, st, n, M) Q) := (am_AW_icmp rfl).trans am_ite_ge
theorem w112_7 {a1 a2 : Value} {x : Nat} {st : List Value} : am_AW d 112 (7, [.ref x, a1, a2], st, n, M) Q = (am_AW d 112 (8, [.ref x, a1, a2], .ref x :: st, n, M) Q) := am_AW_go rfl rfl rfl rfl
theorem w112_8 {L st : List Value} : am_AW d 112 (8, L, st, n, M) Q = (am_AW d 112 (9, L, .int 0 :: st, n, M) Q) := am_AW_go rfl rfl rfl rfl
theorem w112_9 {L st : List Value} {v0 v1 : Value} : am_AW d 112 (9, L, v0 :: v1 :: st, n, M) Q = (am_okA 2 (v0 :: v1 :: st) = true ∧ am_isO M [v1, v0] 0 = true ∧ am_Do d 110 [v1, v0] n M (am_then d 112 12 0 L st n Q)) := am_AW_cv (i := 27) (x := 110) (y := 2) (z := 0) rfl
theorem w112_12 {a1 a2 : Value} {x : Nat} {st : List Value} : am_AW d 112 (12, [.ref x, a1, a2], st, n, M) Q = (am_AW d 112 (13, [.ref x, a1, a2], .ref x :: st, n, M) Q) := am_AW_go rfl rfl rfl rfl
theorem w112_13 {L st : List Value} : am_AW d 112 (13, L, st, n, M) Q = (am_AW d 112 (15, L, .int 7 :: st, n, M) Q) := am_AW_go rfl rfl rfl rfl
theorem w112_15 {L st : List Value} {v0 v1 : Value} : am_AW d 112 (15, L, v0 :: v1 :: st, n, M) Q = (am_okA 2 (v0 :: v1 :: st) = true ∧ am_isO M [v1, v0] 0 = true ∧ am_Do d 110 [v1, v0] n M (am_then d 112 18 0 L st n Q)) := am_AW_cv (i := 27) (x := 110) (y := 2) (z := 0) rfl
theorem w112_18 {a0 a1 : Value} {x : Int32} {st : List Value} : am_AW d 112 (18, [a0, a1, .int x], st, n, M) Q = (am_AW d 112 (21, [a0, a1, .int (x + 1)], st, n, M) Q) := am_AW_go rfl rfl rfl rfl
theorem w112_21 {L st : List Value} : am_AW d 112 (21, L, st, n, M) Q = (am_AW d 112 (2, L, st, n, M) Q) := am_AW_go rfl rfl rfl rfl
theorem w112_24 {a1 a2 : Value} {x : Nat} {st : List Value} : am_AW d 112 (24, [.ref x, a1, a2], st, n, M) Q = (am_AW d 112 (25, [.ref x, a1, a2], .ref x :: st, n, M) Q) := am_AW_go rfl rfl rfl rfl
theorem w112_25 {L st : List Value} : am_AW d 112 (25, L, st, n, M) Q = (am_AW d 112 (27, L, .int 6 :: st, n, M) Q) := am_AW_go rfl rfl rfl rfl
theorem w112_27 {L st : List Value} {v0 v1 : Value} : am_AW d 112 (27, L, v0 :: v1 :: st, n, M) Q = (am_okA 2 (v0 :: v1 :: st) = true ∧ am_isO M [v1, v0] 0 = true ∧ am_Do d 110 [v1, v0] n M (am_then d 112 30 0 L st n Q)) := am_AW_cv (i := 27) (x := 110) (y := 2) (z := 0) rfl
theorem w112_30 {L : List Value} : am_AW d 112 (30, L, [], n, M) Q = (Q none n M) := am_AW_ret (rv := (none, n)) rfl rfl rfl (am_mono_self n)
end W112
section W113
variable {d : Nat} {n : am_N} {M : am_M} {Q : Option Value → am_N → am_M → Prop}
theorem w113_0 {a1 : Value} {x : Nat} {st : List Value} : am_AW d 113 (0, [.ref x, a1], st, n, M) Q = (am_AW d 113 (1, [.ref x, a1], .ref x :: st, n, M) Q) := am_AW_go rfl rfl rfl rfl
theorem w113_1 {L st : List Value} {v0 : Value} : am_AW d 113 (1, L, v0 :: st, n, M) Q = (am_okA 1 (v0 :: st) = true ∧ am_isO M [v0] 0 = true ∧ am_Do d 109 [v0] n M (am_then d 113 4 0 L st n Q)) := am_AW_cv (i := 31) (x := 109) (y := 1) (z := 0) rfl
theorem w113_4 {a1 : Value} {x : Nat} {st : List Value} : am_AW d 113 (4, [.ref x, a1], st, n, M) Q = (am_AW d 113 (5, [.ref x, a1], .ref x :: st, n, M) Q) := am_AW_go rfl rfl rfl rfl
theorem w113_5 {a0 : Value} {x : Nat} {st : List Value} : am_AW d 113 (5, [a0, .ref x], st, n, M) Q = (am_AW d 113 (6, [a0, .ref x], .ref x :: st, n, M) Q) := am_AW_go rfl rfl rfl rfl
theorem w113_6 {L st : List Value} : am_AW d 113 (6, L, st, n, M) Q = (am_AW d 113 (7, L, .int 0 :: st, n, M) Q) := am_AW_go rfl rfl rfl rfl
theorem w113_7 {a0 : Value} {x : Nat} {st : List Value} : am_AW d 113 (7, [a0, .ref x], st, n, M) Q = (am_AW d 113 (8, [a0, .ref x], .ref x :: st, n, M) Q) := am_AW_go rfl rfl rfl rfl
theorem w113_8 {L st : List Value} {h : Nat} : am_AW d 113 (8, L, .ref h :: st, n, M) Q = (∃ v, am_fld M h 0 1 = some v ∧ am_AW d 113 (11, L, v :: st, n, M) Q) := am_AW_op (o := am_fld M h 0 1) (f := fun v => (11, L, v :: st, n, M)) rfl rfl (am_bm _ _) (fun _ => rfl)
theorem w113_11 {L st : List Value} {v0 v1 v2 v3 : Value} : am_AW d 113 (11, L, v0 :: v1 :: v2 :: v3 :: st, n, M) Q = (am_okA 4 (v0 :: v1 :: v2 :: v3 :: st) = true ∧ am_isO M [v3, v2, v1, v0] 0 = true ∧ am_Do d 111 [v3, v2, v1, v0] n M (am_then d 113 14 0 L st n Q)) := am_AW_cv (i := 34) (x := 111) (y := 4) (z := 0) rfl
theorem w113_14 {a1 : Value} {x : Nat} {st : List Value} : am_AW d 113 (14, [.ref x, a1], st, n, M) Q = (am_AW d 113 (15, [.ref x, a1], .ref x :: st, n, M) Q) := am_AW_go rfl rfl rfl rfl
theorem w113_15 {a1 : Value} {x : Nat} {st : List Value} : am_AW d 113 (15, [.ref x, a1], st, n, M) Q = (am_AW d 113 (16, [.ref x, a1], .ref x :: st, n, M) Q) := am_AW_go rfl rfl rfl rfl
theorem w113_16 {L st : List Value} {h : Nat} : am_AW d 113 (16, L, .ref h :: st, n, M) Q = (∃ v, am_fld M h 0 2 = some v ∧ am_AW d 113 (19, L, v :: st, n, M) Q) := am_AW_op (o := am_fld M h 0 2) (f := fun v => (19, L, v :: st, n, M)) rfl rfl (am_bm _ _) (fun _ => rfl)
theorem w113_19 {L st : List Value} {x : Int32} : am_AW d 113 (19, L, .int x :: st, n, M) Q = (if x = 0 then am_AW d 113 (22, L, st, n, M) Q else am_AW d 113 (29, L, st, n, M) Q) := (am_AW_if rfl).trans am_ite_ne
theorem w113_22 {a0 : Value} {x : Nat} {st : List Value} : am_AW d 113 (22, [a0, .ref x], st, n, M) Q = (am_AW d 113 (23, [a0, .ref x], .ref x :: st, n, M) Q) := am_AW_go rfl rfl rfl rfl
theorem w113_23 {L st : List Value} {h : Nat} : am_AW d 113 (23, L, .ref h :: st, n, M) Q = (∃ v, am_fld M h 0 2 = some v ∧ am_AW d 113 (26, L, v :: st, n, M) Q) := am_AW_op (o := am_fld M h 0 2) (f := fun v => (26, L, v :: st, n, M)) rfl rfl (am_bm _ _) (fun _ => rfl)
theorem w113_26 {L st : List Value} {x : Int32} : am_AW d 113 (26, L, .int x :: st, n, M) Q = (if x = 0 then am_AW d 113 (33, L, st, n, M) Q else am_AW d 113 (29, L, st, n, M) Q) := (am_AW_if rfl).trans am_ite_eq
theorem w113_29 {L st : List Value} : am_AW d 113 (29, L, st, n, M) Q = (am_AW d 113 (30, L, .int 1 :: st, n, M) Q) := am_AW_go rfl rfl rfl rfl
theorem w113_30 {L st : List Value} : am_AW d 113 (30, L, st, n, M) Q = (am_AW d 113 (34, L, st, n, M) Q) := am_AW_go rfl rfl rfl rfl
theorem w113_33 {L st : List Value} : am_AW d 113 (33, L, st, n, M) Q = (am_AW d 113 (34, L, .int 0 :: st, n, M) Q) := am_AW_go rfl rfl rfl rfl
theorem w113_34 {L st : List Value} {h : Nat} {v : Value} : am_AW d 113 (34, L, v :: .ref h :: st, n, M) Q = (am_fit 1 v = true ∧ ∃ M', am_setf M h 0 2 v = some M' ∧ am_AW d 113 (37, L, st, n, M') Q) := am_AW_put rfl
theorem w113_37 {L : List Value} : am_AW d 113 (37, L, [], n, M) Q = (Q none n M) := am_AW_ret (rv := (none, n)) rfl rfl rfl (am_mono_self n)
end W113
section W114
variable {d : Nat} {n : am_N} {M : am_M} {Q : Option Value → am_N → am_M → Prop}
theorem w114_0 {a0 : Value} {x : Int32} {st : List Value} : am_AW d 114 (0, [a0, .int x], st, n, M) Q = (am_AW d 114 (1, [a0, .int x], .int x :: st, n, M) Q) := am_AW_go rfl rfl rfl rfl
theorem w114_1 {L st : List Value} {x : Int32} : am_AW d 114 (1, L, .int x :: st, n, M) Q = (if x < 0 then am_AW d 114 (21, L, st, n, M) Q else am_AW d 114 (4, L, st, n, M) Q) := (am_AW_if rfl).trans am_ite_lt
theorem w114_4 {a0 : Value} {x : Int32} {st : List Value} : am_AW d 114 (4, [a0, .int x], st, n, M) Q = (am_AW d 114 (5, [a0, .int x], .int x :: st, n, M) Q) := am_AW_go rfl rfl rfl rfl
theorem w114_5 {a1 : Value} {x : Nat} {st : List Value} : am_AW d 114 (5, [.ref x, a1], st, n, M) Q = (am_AW d 114 (6, [.ref x, a1], .ref x :: st, n, M) Q) := am_AW_go rfl rfl rfl rfl
theorem w114_6 {L st : List Value} {h : Nat} : am_AW d 114 (6, L, .ref h :: st, n, M) Q = (∃ v, am_fld M h 0 1 = some v ∧ am_AW d 114 (9, L, v :: st, n, M) Q) := am_AW_op (o := am_fld M h 0 1) (f := fun v => (9, L, v :: st, n, M)) rfl rfl (am_bm _ _) (fun _ => rfl)
theorem w114_9 {L st : List Value} {x y : Int32} : am_AW d 114 (9, L, .int y :: .int x :: st, n, M) Q = (if x < y then am_AW d 114 (12, L, st, n, M) Q else am_AW d 114 (21, L, st, n, M) Q) := (am_AW_icmp rfl).trans am_ite_ge
theorem w114_12 {a1 : Value} {x : Nat} {st : List Value} : am_AW d 114 (12, [.ref x, a1], st, n, M) Q = (am_AW d 114 (13, [.ref x, a1], .ref x :: st, n, M) Q) := am_AW_go rfl rfl rfl rfl
theorem w114_13 {L st : List Value} {h : Nat} : am_AW d 114 (13, L, .ref h :: st, n, M) Q = (∃ v, am_fld M h 0 0 = some v ∧ am_AW d 114 (16, L, v :: st, n, M) Q) := am_AW_op (o := am_fld M h 0 0) (f := fun v => (16, L, v :: st, n, M)) rfl rfl (am_bm _ _) (fun _ => rfl)
theorem w114_16 {a0 : Value} {x : Int32} {st : List Value} : am_AW d 114 (16, [a0, .int x], st, n, M) Q = (am_AW d 114 (17, [a0, .int x], .int x :: st, n, M) Q) := am_AW_go rfl rfl rfl rfl
theorem w114_17 {L st : List Value} {h : Nat} {i : Int32} : am_AW d 114 (17, L, .int i :: .ref h :: st, n, M) Q = (∃ v, am_ald 0 M h i = some v ∧ am_AW d 114 (18, L, .int v :: st, n, M) Q) := am_AW_op (o := am_ald 0 M h i) (f := fun v => (18, L, .int v :: st, n, M)) rfl rfl (am_bm2 _ _ () ()) (fun _ => rfl)
theorem w114_18 {L st : List Value} : am_AW d 114 (18, L, st, n, M) Q = (am_AW d 114 (22, L, st, n, M) Q) := am_AW_go rfl rfl rfl rfl
theorem w114_21 {L st : List Value} : am_AW d 114 (21, L, st, n, M) Q = (am_AW d 114 (22, L, .int (-1) :: st, n, M) Q) := am_AW_go rfl rfl rfl rfl
theorem w114_22 {L : List Value} {x : Int32} : am_AW d 114 (22, L, [.int x], n, M) Q = (Q (some (.int x)) n M) := am_AW_ret (rv := (some (.int x), n)) rfl rfl rfl (am_mono_self n)
end W114
section W115
variable {d : Nat} {n : am_N} {M : am_M} {Q : Option Value → am_N → am_M → Prop}
theorem w115_0 {L st : List Value} : am_AW d 115 (0, L, st, n, M) Q = (am_AW d 115 (1, L, .int 1 :: st, n, M) Q) := am_AW_go rfl rfl rfl rfl
theorem w115_1 {a0 a1 a2 a3 : Value} {x : Int32} {st : List Value} : am_AW d 115 (1, [a0, a1, a2, a3], .int x :: st, n, M) Q = (am_AW d 115 (2, [a0, a1, .int x, a3], st, n, M) Q) := am_AW_go rfl rfl rfl rfl
theorem w115_2 {a0 a2 a3 : Value} {x : Int32} {st : List Value} : am_AW d 115 (2, [a0, .int x, a2, a3], st, n, M) Q = (am_AW d 115 (3, [a0, .int x, a2, a3], .int x :: st, n, M) Q) := am_AW_go rfl rfl rfl rfl
theorem w115_3 {a0 a1 a2 a3 : Value} {x : Int32} {st : List Value} : am_AW d 115 (3, [a0, a1, a2, a3], .int x :: st, n, M) Q = (am_AW d 115 (4, [a0, a1, a2, .int x], st, n, M) Q) := am_AW_go rfl rfl rfl rfl
theorem w115_4 {a0 a1 a2 : Value} {x : Int32} {st : List Value} : am_AW d 115 (4, [a0, a1, a2, .int x], st, n, M) Q = (am_AW d 115 (5, [a0, a1, a2, .int x], .int x :: st, n, M) Q) := am_AW_go rfl rfl rfl rfl
theorem w115_5 {a1 a2 a3 : Value} {x : Nat} {st : List Value} : am_AW d 115 (5, [.ref x, a1, a2, a3], st, n, M) Q = (am_AW d 115 (6, [.ref x, a1, a2, a3], .ref x :: st, n, M) Q) := am_AW_go rfl rfl rfl rfl
theorem w115_6 {L st : List Value} {h : Nat} : am_AW d 115 (6, L, .ref h :: st, n, M) Q = (∃ v, am_fld M h 0 1 = some v ∧ am_AW d 115 (9, L, v :: st, n, M) Q) := am_AW_op (o := am_fld M h 0 1) (f := fun v => (9, L, v :: st, n, M)) rfl rfl (am_bm _ _) (fun _ => rfl)
theorem w115_9 {L st : List Value} {x y : Int32} : am_AW d 115 (9, L, .int y :: .int x :: st, n, M) Q = (if x < y then am_AW d 115 (12, L, st, n, M) Q else am_AW d 115 (41, L, st, n, M) Q) := (am_AW_icmp rfl).trans am_ite_ge
theorem w115_12 {a0 a1 a3 : Value} {x : Int32} {st : List Value} : am_AW d 115 (12, [a0, a1, .int x, a3], st, n, M) Q = (am_AW d 115 (13, [a0, a1, .int x, a3], .int x :: st, n, M) Q) := am_AW_go rfl rfl rfl rfl
theorem w115_13 {L st : List Value} {x : Int32} : am_AW d 115 (13, L, .int x :: st, n, M) Q = (if x ≤ 0 then am_AW d 115 (41, L, st, n, M) Q else am_AW d 115 (16, L, st, n, M) Q) := (am_AW_if rfl).trans am_ite_le
theorem w115_16 {a0 a1 a3 : Value} {x : Int32} {st : List Value} : am_AW d 115 (16, [a0, a1, .int x, a3], st, n, M) Q = (am_AW d 115 (17, [a0, a1, .int x, a3], .int x :: st, n, M) Q) := am_AW_go rfl rfl rfl rfl
theorem w115_17 {a1 a2 a3 : Value} {x : Nat} {st : List Value} : am_AW d 115 (17, [.ref x, a1, a2, a3], st, n, M) Q = (am_AW d 115 (18, [.ref x, a1, a2, a3], .ref x :: st, n, M) Q) := am_AW_go rfl rfl rfl rfl
theorem w115_18 {a0 a1 a2 : Value} {x : Int32} {st : List Value} : am_AW d 115 (18, [a0, a1, a2, .int x], st, n, M) Q = (am_AW d 115 (19, [a0, a1, a2, .int x], .int x :: st, n, M) Q) := am_AW_go rfl rfl rfl rfl
theorem w115_19 {L st : List Value} {v0 v1 : Value} : am_AW d 115 (19, L, v0 :: v1 :: st, n, M) Q = (am_okA 2 (v0 :: v1 :: st) = true ∧ am_isO M [v1, v0] 0 = true ∧ am_Do d 114 [v1, v0] n M (am_then d 115 22 0 L st n Q)) := am_AW_cv (i := 23) (x := 114) (y := 2) (z := 0) rfl
theorem w115_22 {L st : List Value} {v0 : Value} : am_AW d 115 (22, L, v0 :: st, n, M) Q = (am_okA 1 (v0 :: st) = true ∧ am_Do d 13 [v0] n M (am_then d 115 25 0 L st n Q)) := am_AW_cs (i := 38) (x := 13) (y := 1) (z := 0) rfl
theorem w115_25 {L st : List Value} {x : Int32} : am_AW d 115 (25, L, .int x :: st, n, M) Q = (if x = 0 then am_AW d 115 (32, L, st, n, M) Q else am_AW d 115 (28, L, st, n, M) Q) := (am_AW_if rfl).trans am_ite_eq
theorem w115_28 {L st : List Value} : am_AW d 115 (28, L, st, n, M) Q = (am_AW d 115 (29, L, .int 1 :: st, n, M) Q) := am_AW_go rfl rfl rfl rfl
theorem w115_29 {L st : List Value} : am_AW d 115 (29, L, st, n, M) Q = (am_AW d 115 (33, L, st, n, M) Q) := am_AW_go rfl rfl rfl rfl
theorem w115_32 {L st : List Value} : am_AW d 115 (32, L, st, n, M) Q = (am_AW d 115 (33, L, .int (-1) :: st, n, M) Q) := am_AW_go rfl rfl rfl rfl
theorem w115_33 {L st : List Value} {x y : Int32} : am_AW d 115 (33, L, .int y :: .int x :: st, n, M) Q = (am_AW d 115 (34, L, .int (x + y) :: st, n, M) Q) := am_AW_go rfl rfl rfl rfl
theorem w115_34 {a0 a1 a2 a3 : Value} {x : Int32} {st : List Value} : am_AW d 115 (34, [a0, a1, a2, a3], .int x :: st, n, M) Q = (am_AW d 115 (35, [a0, a1, .int x, a3], st, n, M) Q) := am_AW_go rfl rfl rfl rfl
theorem w115_35 {a0 a1 a2 : Value} {x : Int32} {st : List Value} : am_AW d 115 (35, [a0, a1, a2, .int x], st, n, M) Q = (am_AW d 115 (38, [a0, a1, a2, .int (x + 1)], st, n, M) Q) := am_AW_go rfl rfl rfl rfl
theorem w115_38 {L st : List Value} : am_AW d 115 (38, L, st, n, M) Q = (am_AW d 115 (4, L, st, n, M) Q) := am_AW_go rfl rfl rfl rfl
theorem w115_41 {a0 a1 a2 : Value} {x : Int32} {st : List Value} : am_AW d 115 (41, [a0, a1, a2, .int x], st, n, M) Q = (am_AW d 115 (42, [a0, a1, a2, .int x], .int x :: st, n, M) Q) := am_AW_go rfl rfl rfl rfl
theorem w115_42 {L : List Value} {x : Int32} : am_AW d 115 (42, L, [.int x], n, M) Q = (Q (some (.int x)) n M) := am_AW_ret (rv := (some (.int x), n)) rfl rfl rfl (am_mono_self n)
end W115
section W116
variable {d : Nat} {n : am_N} {M : am_M} {Q : Option Value → am_N → am_M → Prop}
theorem w116_0 {a1 : Value} {x : Nat} {st : List Value} : am_AW d 116 (0, [.ref x, a1], st, n, M) Q = (am_AW d 116 (1, [.ref x, a1], .ref x :: st, n, M) Q) := am_AW_go rfl rfl rfl rfl
theorem w116_1 {L st : List Value} {h : Nat} : am_AW d 116 (1, L, .ref h :: st, n, M) Q = (∃ v, am_fld M h 0 1 = some v ∧ am_AW d 116 (4, L, v :: st, n, M) Q) := am_AW_op (o := am_fld M h 0 1) (f := fun v => (4, L, v :: st, n, M)) rfl rfl (am_bm _ _) (fun _ => rfl)
theorem w116_4 {L st : List Value} : am_AW d 116 (4, L, st, n, M) Q = (am_AW d 116 (5, L, .int 1 :: st, n, M) Q) := am_AW_go rfl rfl rfl rfl
theorem w116_5 {L st : List Value} {x y : Int32} : am_AW d 116 (5, L, .int y :: .int x :: st, n, M) Q = (if x = y then am_AW d 116 (8, L, st, n, M) Q else am_AW d 116 (29, L, st, n, M) Q) := (am_AW_icmp rfl).trans am_ite_ne
theorem w116_8 {a1 : Value} {x : Nat} {st : List Value} : am_AW d 116 (8, [.ref x, a1], st, n, M) Q = (am_AW d 116 (9, [.ref x, a1], .ref x :: st, n, M) Q) := am_AW_go rfl rfl rfl rfl
theorem w116_9 {L st : List Value} {h : Nat} : am_AW d 116 (9, L, .ref h :: st, n, M) Q = (∃ v, am_fld M h 0 2 = some v ∧ am_AW d 116 (12, L, v :: st, n, M) Q) := am_AW_op (o := am_fld M h 0 2) (f := fun v => (12, L, v :: st, n, M)) rfl rfl (am_bm _ _) (fun _ => rfl)
theorem w116_12 {L st : List Value} {x : Int32} : am_AW d 116 (12, L, .int x :: st, n, M) Q = (if x = 0 then am_AW d 116 (15, L, st, n, M) Q else am_AW d 116 (29, L, st, n, M) Q) := (am_AW_if rfl).trans am_ite_ne
theorem w116_15 {a1 : Value} {x : Nat} {st : List Value} : am_AW d 116 (15, [.ref x, a1], st, n, M) Q = (am_AW d 116 (16, [.ref x, a1], .ref x :: st, n, M) Q) := am_AW_go rfl rfl rfl rfl
theorem w116_16 {L st : List Value} {h : Nat} : am_AW d 116 (16, L, .ref h :: st, n, M) Q = (∃ v, am_fld M h 0 0 = some v ∧ am_AW d 116 (19, L, v :: st, n, M) Q) := am_AW_op (o := am_fld M h 0 0) (f := fun v => (19, L, v :: st, n, M)) rfl rfl (am_bm _ _) (fun _ => rfl)
theorem w116_19 {L st : List Value} : am_AW d 116 (19, L, st, n, M) Q = (am_AW d 116 (20, L, .int 0 :: st, n, M) Q) := am_AW_go rfl rfl rfl rfl
theorem w116_20 {L st : List Value} {h : Nat} {i : Int32} : am_AW d 116 (20, L, .int i :: .ref h :: st, n, M) Q = (∃ v, am_ald 0 M h i = some v ∧ am_AW d 116 (21, L, .int v :: st, n, M) Q) := am_AW_op (o := am_ald 0 M h i) (f := fun v => (21, L, .int v :: st, n, M)) rfl rfl (am_bm2 _ _ () ()) (fun _ => rfl)
theorem w116_21 {a0 : Value} {x : Int32} {st : List Value} : am_AW d 116 (21, [a0, .int x], st, n, M) Q = (am_AW d 116 (22, [a0, .int x], .int x :: st, n, M) Q) := am_AW_go rfl rfl rfl rfl
theorem w116_22 {L st : List Value} {x y : Int32} : am_AW d 116 (22, L, .int y :: .int x :: st, n, M) Q = (if x = y then am_AW d 116 (25, L, st, n, M) Q else am_AW d 116 (29, L, st, n, M) Q) := (am_AW_icmp rfl).trans am_ite_ne
theorem w116_25 {L st : List Value} : am_AW d 116 (25, L, st, n, M) Q = (am_AW d 116 (26, L, .int 1 :: st, n, M) Q) := am_AW_go rfl rfl rfl rfl
theorem w116_26 {L st : List Value} : am_AW d 116 (26, L, st, n, M) Q = (am_AW d 116 (30, L, st, n, M) Q) := am_AW_go rfl rfl rfl rfl
theorem w116_29 {L st : List Value} : am_AW d 116 (29, L, st, n, M) Q = (am_AW d 116 (30, L, .int 0 :: st, n, M) Q) := am_AW_go rfl rfl rfl rfl
theorem w116_30 {L : List Value} {x : Int32} (hf : am_fit 1 (.int x) = true) : am_AW d 116 (30, L, [.int x], n, M) Q = (Q (some (.int x)) n M) := am_AW_ret (rv := (some (.int x), n)) rfl rfl (if_pos hf) (am_mono_self n)
end W116
section W117
variable {d : Nat} {n : am_N} {M : am_M} {Q : Option Value → am_N → am_M → Prop}
theorem w117_0 {a1 a2 a3 : Value} {x : Nat} {st : List Value} : am_AW d 117 (0, [.ref x, a1, a2, a3], st, n, M) Q = (am_AW d 117 (1, [.ref x, a1, a2, a3], .ref x :: st, n, M) Q) := am_AW_go rfl rfl rfl rfl
theorem w117_1 {L st : List Value} {h : Nat} : am_AW d 117 (1, L, .ref h :: st, n, M) Q = (∃ v, am_fld M h 0 2 = some v ∧ am_AW d 117 (4, L, v :: st, n, M) Q) := am_AW_op (o := am_fld M h 0 2) (f := fun v => (4, L, v :: st, n, M)) rfl rfl (am_bm _ _) (fun _ => rfl)
theorem w117_4 {L st : List Value} {x : Int32} : am_AW d 117 (4, L, .int x :: st, n, M) Q = (if x = 0 then am_AW d 117 (7, L, st, n, M) Q else am_AW d 117 (28, L, st, n, M) Q) := (am_AW_if rfl).trans am_ite_ne
theorem w117_7 {a0 a2 a3 : Value} {x : Nat} {st : List Value} : am_AW d 117 (7, [a0, .ref x, a2, a3], st, n, M) Q = (am_AW d 117 (8, [a0, .ref x, a2, a3], .ref x :: st, n, M) Q) := am_AW_go rfl rfl rfl rfl
theorem w117_8 {L st : List Value} {h : Nat} : am_AW d 117 (8, L, .ref h :: st, n, M) Q = (∃ v, am_fld M h 0 2 = some v ∧ am_AW d 117 (11, L, v :: st, n, M) Q) := am_AW_op (o := am_fld M h 0 2) (f := fun v => (11, L, v :: st, n, M)) rfl rfl (am_bm _ _) (fun _ => rfl)
theorem w117_11 {L st : List Value} {x : Int32} : am_AW d 117 (11, L, .int x :: st, n, M) Q = (if x = 0 then am_AW d 117 (14, L, st, n, M) Q else am_AW d 117 (28, L, st, n, M) Q) := (am_AW_if rfl).trans am_ite_ne
theorem w117_14 {a0 a2 a3 : Value} {x : Nat} {st : List Value} : am_AW d 117 (14, [a0, .ref x, a2, a3], st, n, M) Q = (am_AW d 117 (15, [a0, .ref x, a2, a3], .ref x :: st, n, M) Q) := am_AW_go rfl rfl rfl rfl
theorem w117_15 {a0 a1 a3 : Value} {x : Int32} {st : List Value} : am_AW d 117 (15, [a0, a1, .int x, a3], st, n, M) Q = (am_AW d 117 (16, [a0, a1, .int x, a3], .int x :: st, n, M) Q) := am_AW_go rfl rfl rfl rfl
theorem w117_16 {L st : List Value} {v0 v1 : Value} : am_AW d 117 (16, L, v0 :: v1 :: st, n, M) Q = (am_okA 2 (v0 :: v1 :: st) = true ∧ am_isO M [v1, v0] 0 = true ∧ am_Do d 115 [v1, v0] n M (am_then d 117 19 0 L st n Q)) := am_AW_cv (i := 42) (x := 115) (y := 2) (z := 0) rfl
theorem w117_19 {a0 a1 a3 : Value} {x : Int32} {st : List Value} : am_AW d 117 (19, [a0, a1, .int x, a3], st, n, M) Q = (am_AW d 117 (20, [a0, a1, .int x, a3], .int x :: st, n, M) Q) := am_AW_go rfl rfl rfl rfl
theorem w117_20 {L st : List Value} {x y : Int32} : am_AW d 117 (20, L, .int y :: .int x :: st, n, M) Q = (am_AW d 117 (21, L, .int (x - y) :: st, n, M) Q) := am_AW_go rfl rfl rfl rfl
theorem w117_21 {a1 a2 a3 : Value} {x : Nat} {st : List Value} : am_AW d 117 (21, [.ref x, a1, a2, a3], st, n, M) Q = (am_AW d 117 (22, [.ref x, a1, a2, a3], .ref x :: st, n, M) Q) := am_AW_go rfl rfl rfl rfl
theorem w117_22 {L st : List Value} {h : Nat} : am_AW d 117 (22, L, .ref h :: st, n, M) Q = (∃ v, am_fld M h 0 1 = some v ∧ am_AW d 117 (25, L, v :: st, n, M) Q) := am_AW_op (o := am_fld M h 0 1) (f := fun v => (25, L, v :: st, n, M)) rfl rfl (am_bm _ _) (fun _ => rfl)
theorem w117_25 {L st : List Value} {x y : Int32} : am_AW d 117 (25, L, .int y :: .int x :: st, n, M) Q = (if x = y then am_AW d 117 (30, L, st, n, M) Q else am_AW d 117 (28, L, st, n, M) Q) := (am_AW_icmp rfl).trans am_ite_eq
theorem w117_28 {L st : List Value} : am_AW d 117 (28, L, st, n, M) Q = (am_AW d 117 (29, L, .int 0 :: st, n, M) Q) := am_AW_go rfl rfl rfl rfl
theorem w117_29 {L : List Value} {x : Int32} (hf : am_fit 1 (.int x) = true) : am_AW d 117 (29, L, [.int x], n, M) Q = (Q (some (.int x)) n M) := am_AW_ret (rv := (some (.int x), n)) rfl rfl (if_pos hf) (am_mono_self n)
theorem w117_30 {L st : List Value} : am_AW d 117 (30, L, st, n, M) Q = (am_AW d 117 (31, L, .int 0 :: st, n, M) Q) := am_AW_go rfl rfl rfl rfl
theorem w117_31 {a0 a1 a2 a3 : Value} {x : Int32} {st : List Value} : am_AW d 117 (31, [a0, a1, a2, a3], .int x :: st, n, M) Q = (am_AW d 117 (32, [a0, a1, a2, .int x], st, n, M) Q) := am_AW_go rfl rfl rfl rfl
theorem w117_32 {a0 a1 a2 : Value} {x : Int32} {st : List Value} : am_AW d 117 (32, [a0, a1, a2, .int x], st, n, M) Q = (am_AW d 117 (33, [a0, a1, a2, .int x], .int x :: st, n, M) Q) := am_AW_go rfl rfl rfl rfl
theorem w117_33 {a1 a2 a3 : Value} {x : Nat} {st : List Value} : am_AW d 117 (33, [.ref x, a1, a2, a3], st, n, M) Q = (am_AW d 117 (34, [.ref x, a1, a2, a3], .ref x :: st, n, M) Q) := am_AW_go rfl rfl rfl rfl
theorem w117_34 {L st : List Value} {h : Nat} : am_AW d 117 (34, L, .ref h :: st, n, M) Q = (∃ v, am_fld M h 0 1 = some v ∧ am_AW d 117 (37, L, v :: st, n, M) Q) := am_AW_op (o := am_fld M h 0 1) (f := fun v => (37, L, v :: st, n, M)) rfl rfl (am_bm _ _) (fun _ => rfl)
theorem w117_37 {L st : List Value} {x y : Int32} : am_AW d 117 (37, L, .int y :: .int x :: st, n, M) Q = (if x < y then am_AW d 117 (40, L, st, n, M) Q else am_AW d 117 (64, L, st, n, M) Q) := (am_AW_icmp rfl).trans am_ite_ge
theorem w117_40 {a1 a2 a3 : Value} {x : Nat} {st : List Value} : am_AW d 117 (40, [.ref x, a1, a2, a3], st, n, M) Q = (am_AW d 117 (41, [.ref x, a1, a2, a3], .ref x :: st, n, M) Q) := am_AW_go rfl rfl rfl rfl
theorem w117_41 {L st : List Value} {h : Nat} : am_AW d 117 (41, L, .ref h :: st, n, M) Q = (∃ v, am_fld M h 0 0 = some v ∧ am_AW d 117 (44, L, v :: st, n, M) Q) := am_AW_op (o := am_fld M h 0 0) (f := fun v => (44, L, v :: st, n, M)) rfl rfl (am_bm _ _) (fun _ => rfl)
theorem w117_44 {a0 a1 a2 : Value} {x : Int32} {st : List Value} : am_AW d 117 (44, [a0, a1, a2, .int x], st, n, M) Q = (am_AW d 117 (45, [a0, a1, a2, .int x], .int x :: st, n, M) Q) := am_AW_go rfl rfl rfl rfl
theorem w117_45 {L st : List Value} {h : Nat} {i : Int32} : am_AW d 117 (45, L, .int i :: .ref h :: st, n, M) Q = (∃ v, am_ald 0 M h i = some v ∧ am_AW d 117 (46, L, .int v :: st, n, M) Q) := am_AW_op (o := am_ald 0 M h i) (f := fun v => (46, L, .int v :: st, n, M)) rfl rfl (am_bm2 _ _ () ()) (fun _ => rfl)
theorem w117_46 {a0 a2 a3 : Value} {x : Nat} {st : List Value} : am_AW d 117 (46, [a0, .ref x, a2, a3], st, n, M) Q = (am_AW d 117 (47, [a0, .ref x, a2, a3], .ref x :: st, n, M) Q) := am_AW_go rfl rfl rfl rfl
theorem w117_47 {a0 a1 a3 : Value} {x : Int32} {st : List Value} : am_AW d 117 (47, [a0, a1, .int x, a3], st, n, M) Q = (am_AW d 117 (48, [a0, a1, .int x, a3], .int x :: st, n, M) Q) := am_AW_go rfl rfl rfl rfl
theorem w117_48 {a0 a1 a2 : Value} {x : Int32} {st : List Value} : am_AW d 117 (48, [a0, a1, a2, .int x], st, n, M) Q = (am_AW d 117 (49, [a0, a1, a2, .int x], .int x :: st, n, M) Q) := am_AW_go rfl rfl rfl rfl
theorem w117_49 {L st : List Value} {x y : Int32} : am_AW d 117 (49, L, .int y :: .int x :: st, n, M) Q = (am_AW d 117 (50, L, .int (x + y) :: st, n, M) Q) := am_AW_go rfl rfl rfl rfl
theorem w117_50 {L st : List Value} {v0 v1 : Value} : am_AW d 117 (50, L, v0 :: v1 :: st, n, M) Q = (am_okA 2 (v0 :: v1 :: st) = true ∧ am_isO M [v1, v0] 0 = true ∧ am_Do d 114 [v1, v0] n M (am_then d 117 53 0 L st n Q)) := am_AW_cv (i := 23) (x := 114) (y := 2) (z := 0) rfl
theorem w117_53 {L st : List Value} {x y : Int32} : am_AW d 117 (53, L, .int y :: .int x :: st, n, M) Q = (if x = y then am_AW d 117 (58, L, st, n, M) Q else am_AW d 117 (56, L, st, n, M) Q) := (am_AW_icmp rfl).trans am_ite_eq
theorem w117_56 {L st : List Value} : am_AW d 117 (56, L, st, n, M) Q = (am_AW d 117 (57, L, .int 0 :: st, n, M) Q) := am_AW_go rfl rfl rfl rfl
theorem w117_57 {L : List Value} {x : Int32} (hf : am_fit 1 (.int x) = true) : am_AW d 117 (57, L, [.int x], n, M) Q = (Q (some (.int x)) n M) := am_AW_ret (rv := (some (.int x), n)) rfl rfl (if_pos hf) (am_mono_self n)
theorem w117_58 {a0 a1 a2 : Value} {x : Int32} {st : List Value} : am_AW d 117 (58, [a0, a1, a2, .int x], st, n, M) Q = (am_AW d 117 (61, [a0, a1, a2, .int (x + 1)], st, n, M) Q) := am_AW_go rfl rfl rfl rfl
theorem w117_61 {L st : List Value} : am_AW d 117 (61, L, st, n, M) Q = (am_AW d 117 (32, L, st, n, M) Q) := am_AW_go rfl rfl rfl rfl
theorem w117_64 {L st : List Value} : am_AW d 117 (64, L, st, n, M) Q = (am_AW d 117 (65, L, .int 1 :: st, n, M) Q) := am_AW_go rfl rfl rfl rfl
theorem w117_65 {L : List Value} {x : Int32} (hf : am_fit 1 (.int x) = true) : am_AW d 117 (65, L, [.int x], n, M) Q = (Q (some (.int x)) n M) := am_AW_ret (rv := (some (.int x), n)) rfl rfl (if_pos hf) (am_mono_self n)
end W117
section W118
variable {d : Nat} {n : am_N} {M : am_M} {Q : Option Value → am_N → am_M → Prop}
theorem w118_0 {L st : List Value} : am_AW d 118 (0, L, st, n, M) Q = (am_AW d 118 (1, L, .int 0 :: st, n, M) Q) := am_AW_go rfl rfl rfl rfl
theorem w118_1 {a0 a1 a2 a3 : Value} {x : Int32} {st : List Value} : am_AW d 118 (1, [a0, a1, a2, a3], .int x :: st, n, M) Q = (am_AW d 118 (2, [a0, a1, .int x, a3], st, n, M) Q) := am_AW_go rfl rfl rfl rfl
theorem w118_2 {a0 a2 a3 : Value} {x : Int32} {st : List Value} : am_AW d 118 (2, [a0, .int x, a2, a3], st, n, M) Q = (am_AW d 118 (3, [a0, .int x, a2, a3], .int x :: st, n, M) Q) := am_AW_go rfl rfl rfl rfl
theorem w118_3 {a0 a1 a2 a3 : Value} {x : Int32} {st : List Value} : am_AW d 118 (3, [a0, a1, a2, a3], .int x :: st, n, M) Q = (am_AW d 118 (4, [a0, a1, a2, .int x], st, n, M) Q) := am_AW_go rfl rfl rfl rfl
theorem w118_4 {a0 a1 a2 : Value} {x : Int32} {st : List Value} : am_AW d 118 (4, [a0, a1, a2, .int x], st, n, M) Q = (am_AW d 118 (5, [a0, a1, a2, .int x], .int x :: st, n, M) Q) := am_AW_go rfl rfl rfl rfl
theorem w118_5 {a1 a2 a3 : Value} {x : Nat} {st : List Value} : am_AW d 118 (5, [.ref x, a1, a2, a3], st, n, M) Q = (am_AW d 118 (6, [.ref x, a1, a2, a3], .ref x :: st, n, M) Q) := am_AW_go rfl rfl rfl rfl
theorem w118_6 {L st : List Value} {h : Nat} : am_AW d 118 (6, L, .ref h :: st, n, M) Q = (∃ v, am_fld M h 0 1 = some v ∧ am_AW d 118 (9, L, v :: st, n, M) Q) := am_AW_op (o := am_fld M h 0 1) (f := fun v => (9, L, v :: st, n, M)) rfl rfl (am_bm _ _) (fun _ => rfl)
theorem w118_9 {L st : List Value} {x y : Int32} : am_AW d 118 (9, L, .int y :: .int x :: st, n, M) Q = (if x < y then am_AW d 118 (12, L, st, n, M) Q else am_AW d 118 (41, L, st, n, M) Q) := (am_AW_icmp rfl).trans am_ite_ge
theorem w118_12 {a1 a2 a3 : Value} {x : Nat} {st : List Value} : am_AW d 118 (12, [.ref x, a1, a2, a3], st, n, M) Q = (am_AW d 118 (13, [.ref x, a1, a2, a3], .ref x :: st, n, M) Q) := am_AW_go rfl rfl rfl rfl
theorem w118_13 {a0 a1 a2 : Value} {x : Int32} {st : List Value} : am_AW d 118 (13, [a0, a1, a2, .int x], st, n, M) Q = (am_AW d 118 (14, [a0, a1, a2, .int x], .int x :: st, n, M) Q) := am_AW_go rfl rfl rfl rfl
theorem w118_14 {L st : List Value} {v0 v1 : Value} : am_AW d 118 (14, L, v0 :: v1 :: st, n, M) Q = (am_okA 2 (v0 :: v1 :: st) = true ∧ am_isO M [v1, v0] 0 = true ∧ am_Do d 114 [v1, v0] n M (am_then d 118 17 0 L st n Q)) := am_AW_cv (i := 23) (x := 114) (y := 2) (z := 0) rfl
theorem w118_17 {L st : List Value} {x : Int32} : am_AW d 118 (17, L, .int x :: st, n, M) Q = (if x = 0 then am_AW d 118 (20, L, st, n, M) Q else am_AW d 118 (41, L, st, n, M) Q) := (am_AW_if rfl).trans am_ite_ne
theorem w118_20 {a1 a2 a3 : Value} {x : Nat} {st : List Value} : am_AW d 118 (20, [.ref x, a1, a2, a3], st, n, M) Q = (am_AW d 118 (21, [.ref x, a1, a2, a3], .ref x :: st, n, M) Q) := am_AW_go rfl rfl rfl rfl
theorem w118_21 {a0 a1 a2 : Value} {x : Int32} {st : List Value} : am_AW d 118 (21, [a0, a1, a2, .int x], st, n, M) Q = (am_AW d 118 (22, [a0, a1, a2, .int x], .int x :: st, n, M) Q) := am_AW_go rfl rfl rfl rfl
theorem w118_22 {L st : List Value} : am_AW d 118 (22, L, st, n, M) Q = (am_AW d 118 (23, L, .int 1 :: st, n, M) Q) := am_AW_go rfl rfl rfl rfl
theorem w118_23 {L st : List Value} {x y : Int32} : am_AW d 118 (23, L, .int y :: .int x :: st, n, M) Q = (am_AW d 118 (24, L, .int (x + y) :: st, n, M) Q) := am_AW_go rfl rfl rfl rfl
theorem w118_24 {L st : List Value} {v0 v1 : Value} : am_AW d 118 (24, L, v0 :: v1 :: st, n, M) Q = (am_okA 2 (v0 :: v1 :: st) = true ∧ am_isO M [v1, v0] 0 = true ∧ am_Do d 114 [v1, v0] n M (am_then d 118 27 0 L st n Q)) := am_AW_cv (i := 23) (x := 114) (y := 2) (z := 0) rfl
theorem w118_27 {L st : List Value} : am_AW d 118 (27, L, st, n, M) Q = (am_AW d 118 (29, L, .int 7 :: st, n, M) Q) := am_AW_go rfl rfl rfl rfl
theorem w118_29 {L st : List Value} {x y : Int32} : am_AW d 118 (29, L, .int y :: .int x :: st, n, M) Q = (if x = y then am_AW d 118 (32, L, st, n, M) Q else am_AW d 118 (41, L, st, n, M) Q) := (am_AW_icmp rfl).trans am_ite_ne
theorem w118_32 {a0 a1 a3 : Value} {x : Int32} {st : List Value} : am_AW d 118 (32, [a0, a1, .int x, a3], st, n, M) Q = (am_AW d 118 (35, [a0, a1, .int (x + 1), a3], st, n, M) Q) := am_AW_go rfl rfl rfl rfl
theorem w118_35 {a0 a1 a2 : Value} {x : Int32} {st : List Value} : am_AW d 118 (35, [a0, a1, a2, .int x], st, n, M) Q = (am_AW d 118 (38, [a0, a1, a2, .int (x + 2)], st, n, M) Q) := am_AW_go rfl rfl rfl rfl
theorem w118_38 {L st : List Value} : am_AW d 118 (38, L, st, n, M) Q = (am_AW d 118 (4, L, st, n, M) Q) := am_AW_go rfl rfl rfl rfl
theorem w118_41 {a1 a2 a3 : Value} {x : Nat} {st : List Value} : am_AW d 118 (41, [.ref x, a1, a2, a3], st, n, M) Q = (am_AW d 118 (42, [.ref x, a1, a2, a3], .ref x :: st, n, M) Q) := am_AW_go rfl rfl rfl rfl
theorem w118_42 {a0 a1 a2 : Value} {x : Int32} {st : List Value} : am_AW d 118 (42, [a0, a1, a2, .int x], st, n, M) Q = (am_AW d 118 (43, [a0, a1, a2, .int x], .int x :: st, n, M) Q) := am_AW_go rfl rfl rfl rfl
theorem w118_43 {L st : List Value} {v0 v1 : Value} : am_AW d 118 (43, L, v0 :: v1 :: st, n, M) Q = (am_okA 2 (v0 :: v1 :: st) = true ∧ am_isO M [v1, v0] 0 = true ∧ am_Do d 114 [v1, v0] n M (am_then d 118 46 0 L st n Q)) := am_AW_cv (i := 23) (x := 114) (y := 2) (z := 0) rfl
theorem w118_46 {L st : List Value} : am_AW d 118 (46, L, st, n, M) Q = (am_AW d 118 (48, L, .int 6 :: st, n, M) Q) := am_AW_go rfl rfl rfl rfl
theorem w118_48 {L st : List Value} {x y : Int32} : am_AW d 118 (48, L, .int y :: .int x :: st, n, M) Q = (if x = y then am_AW d 118 (51, L, st, n, M) Q else am_AW d 118 (55, L, st, n, M) Q) := (am_AW_icmp rfl).trans am_ite_ne
theorem w118_51 {a0 a1 a3 : Value} {x : Int32} {st : List Value} : am_AW d 118 (51, [a0, a1, .int x, a3], st, n, M) Q = (am_AW d 118 (52, [a0, a1, .int x, a3], .int x :: st, n, M) Q) := am_AW_go rfl rfl rfl rfl
theorem w118_52 {L st : List Value} : am_AW d 118 (52, L, st, n, M) Q = (am_AW d 118 (56, L, st, n, M) Q) := am_AW_go rfl rfl rfl rfl
theorem w118_55 {L st : List Value} : am_AW d 118 (55, L, st, n, M) Q = (am_AW d 118 (56, L, .int (-1) :: st, n, M) Q) := am_AW_go rfl rfl rfl rfl
theorem w118_56 {L : List Value} {x : Int32} : am_AW d 118 (56, L, [.int x], n, M) Q = (Q (some (.int x)) n M) := am_AW_ret (rv := (some (.int x), n)) rfl rfl rfl (am_mono_self n)
end W118
section W132
variable {d : Nat} {n : am_N} {M : am_M} {Q : Option Value → am_N → am_M → Prop}
theorem w132_0 {x : Nat} {st : List Value} : am_AW d 132 (0, [.ref x], st, n, M) Q = (am_AW d 132 (1, [.ref x], .ref x :: st, n, M) Q) := am_AW_go rfl rfl rfl rfl
theorem w132_1 {L st : List Value} {v0 : Value} : am_AW d 132 (1, L, v0 :: st, n, M) Q = (am_okA 1 (v0 :: st) = true ∧ am_isR [v0] = true ∧ am_Do d 2000 [v0] n M (am_then d 132 4 0 L st n Q)) := am_AW_ci (i := 3) (x := 2000) (y := 1) (z := 0) rfl
theorem w132_4 {x : Nat} {st : List Value} : am_AW d 132 (4, [.ref x], st, n, M) Q = (am_AW d 132 (5, [.ref x], .ref x :: st, n, M) Q) := am_AW_go rfl rfl rfl rfl
theorem w132_5 {L st : List Value} : am_AW d 132 (5, L, st, n, M) Q = (am_AW d 132 (8, L, .int 202 :: st, n, M) Q) := am_AW_go rfl rfl rfl rfl
theorem w132_10 {L st : List Value} {h : Nat} {v : Value} : am_AW d 132 (10, L, v :: .ref h :: st, n, M) Q = (am_fit 3 v = true ∧ ∃ M', am_setf M h 1 0 v = some M' ∧ am_AW d 132 (13, L, st, n, M') Q) := am_AW_put rfl
theorem w132_13 {x : Nat} {st : List Value} : am_AW d 132 (13, [.ref x], st, n, M) Q = (am_AW d 132 (14, [.ref x], .ref x :: st, n, M) Q) := am_AW_go rfl rfl rfl rfl
theorem w132_14 {L st : List Value} : am_AW d 132 (14, L, st, n, M) Q = (am_AW d 132 (15, L, .int 0 :: st, n, M) Q) := am_AW_go rfl rfl rfl rfl
theorem w132_15 {L st : List Value} {h : Nat} {v : Value} : am_AW d 132 (15, L, v :: .ref h :: st, n, M) Q = (am_fit 0 v = true ∧ ∃ M', am_setf M h 1 1 v = some M' ∧ am_AW d 132 (18, L, st, n, M') Q) := am_AW_put rfl
theorem w132_18 {x : Nat} {st : List Value} : am_AW d 132 (18, [.ref x], st, n, M) Q = (am_AW d 132 (19, [.ref x], .ref x :: st, n, M) Q) := am_AW_go rfl rfl rfl rfl
theorem w132_19 {L st : List Value} : am_AW d 132 (19, L, st, n, M) Q = (am_AW d 132 (20, L, .int 0 :: st, n, M) Q) := am_AW_go rfl rfl rfl rfl
theorem w132_20 {L st : List Value} {h : Nat} {v : Value} : am_AW d 132 (20, L, v :: .ref h :: st, n, M) Q = (am_fit 0 v = true ∧ ∃ M', am_setf M h 1 2 v = some M' ∧ am_AW d 132 (23, L, st, n, M') Q) := am_AW_put rfl
theorem w132_23 {L : List Value} : am_AW d 132 (23, L, [], n, M) Q = (Q none n M) := am_AW_ret (rv := (none, n)) rfl rfl rfl (am_mono_self n)
end W132
section W133
variable {d : Nat} {n : am_N} {M : am_M} {Q : Option Value → am_N → am_M → Prop}
theorem w133_0 {x : Nat} {st : List Value} : am_AW d 133 (0, [.ref x], st, n, M) Q = (am_AW d 133 (1, [.ref x], .ref x :: st, n, M) Q) := am_AW_go rfl rfl rfl rfl
theorem w133_1 {L st : List Value} {h : Nat} : am_AW d 133 (1, L, .ref h :: st, n, M) Q = (∃ v, am_fld M h 1 0 = some v ∧ am_AW d 133 (4, L, v :: st, n, M) Q) := am_AW_op (o := am_fld M h 1 0) (f := fun v => (4, L, v :: st, n, M)) rfl rfl (am_bm _ _) (fun _ => rfl)
theorem w133_4 {L st : List Value} : am_AW d 133 (4, L, st, n, M) Q = (am_AW d 133 (5, L, .int 0 :: st, n, M) Q) := am_AW_go rfl rfl rfl rfl
theorem w133_5 {L st : List Value} : am_AW d 133 (5, L, st, n, M) Q = (am_AW d 133 (6, L, .int 0 :: st, n, M) Q) := am_AW_go rfl rfl rfl rfl
theorem w133_6 {L st : List Value} {h : Nat} {i v : Int32} : am_AW d 133 (6, L, .int v :: .int i :: .ref h :: st, n, M) Q = (am_fit 0 (.int v) = true ∧ ∃ M', am_ast 0 M h i v = some M' ∧ am_AW d 133 (7, L, st, n, M') Q) := am_AW_ast rfl (Or.inl ⟨rfl, rfl, rfl⟩)
theorem w133_7 {x : Nat} {st : List Value} : am_AW d 133 (7, [.ref x], st, n, M) Q = (am_AW d 133 (8, [.ref x], .ref x :: st, n, M) Q) := am_AW_go rfl rfl rfl rfl
theorem w133_8 {L st : List Value} : am_AW d 133 (8, L, st, n, M) Q = (am_AW d 133 (9, L, .int 1 :: st, n, M) Q) := am_AW_go rfl rfl rfl rfl
theorem w133_9 {L st : List Value} {h : Nat} {v : Value} : am_AW d 133 (9, L, v :: .ref h :: st, n, M) Q = (am_fit 0 v = true ∧ ∃ M', am_setf M h 1 1 v = some M' ∧ am_AW d 133 (12, L, st, n, M') Q) := am_AW_put rfl
theorem w133_12 {x : Nat} {st : List Value} : am_AW d 133 (12, [.ref x], st, n, M) Q = (am_AW d 133 (13, [.ref x], .ref x :: st, n, M) Q) := am_AW_go rfl rfl rfl rfl
theorem w133_13 {L st : List Value} : am_AW d 133 (13, L, st, n, M) Q = (am_AW d 133 (14, L, .int 0 :: st, n, M) Q) := am_AW_go rfl rfl rfl rfl
theorem w133_14 {L st : List Value} {h : Nat} {v : Value} : am_AW d 133 (14, L, v :: .ref h :: st, n, M) Q = (am_fit 0 v = true ∧ ∃ M', am_setf M h 1 2 v = some M' ∧ am_AW d 133 (17, L, st, n, M') Q) := am_AW_put rfl
theorem w133_17 {L : List Value} : am_AW d 133 (17, L, [], n, M) Q = (Q none n M) := am_AW_ret (rv := (none, n)) rfl rfl rfl (am_mono_self n)
end W133
section W134
variable {d : Nat} {n : am_N} {M : am_M} {Q : Option Value → am_N → am_M → Prop}
theorem w134_0 {x : Nat} {st : List Value} : am_AW d 134 (0, [.ref x], st, n, M) Q = (am_AW d 134 (1, [.ref x], .ref x :: st, n, M) Q) := am_AW_go rfl rfl rfl rfl
theorem w134_1 {L st : List Value} {h : Nat} : am_AW d 134 (1, L, .ref h :: st, n, M) Q = (∃ v, am_fld M h 1 1 = some v ∧ am_AW d 134 (4, L, v :: st, n, M) Q) := am_AW_op (o := am_fld M h 1 1) (f := fun v => (4, L, v :: st, n, M)) rfl rfl (am_bm _ _) (fun _ => rfl)
theorem w134_4 {L st : List Value} {x : Int32} : am_AW d 134 (4, L, .int x :: st, n, M) Q = (if x ≤ 0 then am_AW d 134 (23, L, st, n, M) Q else am_AW d 134 (7, L, st, n, M) Q) := (am_AW_if rfl).trans am_ite_le
theorem w134_7 {x : Nat} {st : List Value} : am_AW d 134 (7, [.ref x], st, n, M) Q = (am_AW d 134 (8, [.ref x], .ref x :: st, n, M) Q) := am_AW_go rfl rfl rfl rfl
theorem w134_8 {L st : List Value} {h : Nat} : am_AW d 134 (8, L, .ref h :: st, n, M) Q = (∃ v, am_fld M h 1 1 = some v ∧ am_AW d 134 (11, L, v :: st, n, M) Q) := am_AW_op (o := am_fld M h 1 1) (f := fun v => (11, L, v :: st, n, M)) rfl rfl (am_bm _ _) (fun _ => rfl)
theorem w134_11 {x : Nat} {st : List Value} : am_AW d 134 (11, [.ref x], st, n, M) Q = (am_AW d 134 (12, [.ref x], .ref x :: st, n, M) Q) := am_AW_go rfl rfl rfl rfl
theorem w134_12 {L st : List Value} {h : Nat} : am_AW d 134 (12, L, .ref h :: st, n, M) Q = (∃ v, am_fld M h 1 0 = some v ∧ am_AW d 134 (15, L, v :: st, n, M) Q) := am_AW_op (o := am_fld M h 1 0) (f := fun v => (15, L, v :: st, n, M)) rfl rfl (am_bm _ _) (fun _ => rfl)
theorem w134_15 {L st : List Value} {h : Nat} : am_AW d 134 (15, L, .ref h :: st, n, M) Q = (∃ v, am_len M h = some v ∧ am_AW d 134 (16, L, .int v :: st, n, M) Q) := am_AW_op (o := am_len M h) (f := fun v => (16, L, .int v :: st, n, M)) rfl rfl (am_bm _ _) (fun _ => rfl)
theorem w134_16 {L st : List Value} {x y : Int32} : am_AW d 134 (16, L, .int y :: .int x :: st, n, M) Q = (if x < y then am_AW d 134 (19, L, st, n, M) Q else am_AW d 134 (23, L, st, n, M) Q) := (am_AW_icmp rfl).trans am_ite_ge
theorem w134_19 {L st : List Value} : am_AW d 134 (19, L, st, n, M) Q = (am_AW d 134 (20, L, .int 1 :: st, n, M) Q) := am_AW_go rfl rfl rfl rfl
theorem w134_20 {L st : List Value} : am_AW d 134 (20, L, st, n, M) Q = (am_AW d 134 (24, L, st, n, M) Q) := am_AW_go rfl rfl rfl rfl
theorem w134_23 {L st : List Value} : am_AW d 134 (23, L, st, n, M) Q = (am_AW d 134 (24, L, .int 0 :: st, n, M) Q) := am_AW_go rfl rfl rfl rfl
theorem w134_24 {L : List Value} {x : Int32} (hf : am_fit 1 (.int x) = true) : am_AW d 134 (24, L, [.int x], n, M) Q = (Q (some (.int x)) n M) := am_AW_ret (rv := (some (.int x), n)) rfl rfl (if_pos hf) (am_mono_self n)
end W134
section W135
variable {d : Nat} {n : am_N} {M : am_M} {Q : Option Value → am_N → am_M → Prop}
theorem w135_0 {a1 : Value} {x : Nat} {st : List Value} : am_AW d 135 (0, [.ref x, a1], st, n, M) Q = (am_AW d 135 (1, [.ref x, a1], .ref x :: st, n, M) Q) := am_AW_go rfl rfl rfl rfl
theorem w135_1 {L st : List Value} {h : Nat} : am_AW d 135 (1, L, .ref h :: st, n, M) Q = (∃ v, am_fld M h 1 1 = some v ∧ am_AW d 135 (4, L, v :: st, n, M) Q) := am_AW_op (o := am_fld M h 1 1) (f := fun v => (4, L, v :: st, n, M)) rfl rfl (am_bm _ _) (fun _ => rfl)
theorem w135_4 {L st : List Value} {x : Int32} : am_AW d 135 (4, L, .int x :: st, n, M) Q = (if x ≤ 0 then am_AW d 135 (19, L, st, n, M) Q else am_AW d 135 (7, L, st, n, M) Q) := (am_AW_if rfl).trans am_ite_le
theorem w135_7 {a1 : Value} {x : Nat} {st : List Value} : am_AW d 135 (7, [.ref x, a1], st, n, M) Q = (am_AW d 135 (8, [.ref x, a1], .ref x :: st, n, M) Q) := am_AW_go rfl rfl rfl rfl
theorem w135_8 {L st : List Value} {h : Nat} : am_AW d 135 (8, L, .ref h :: st, n, M) Q = (∃ v, am_fld M h 1 1 = some v ∧ am_AW d 135 (11, L, v :: st, n, M) Q) := am_AW_op (o := am_fld M h 1 1) (f := fun v => (11, L, v :: st, n, M)) rfl rfl (am_bm _ _) (fun _ => rfl)
theorem w135_11 {a1 : Value} {x : Nat} {st : List Value} : am_AW d 135 (11, [.ref x, a1], st, n, M) Q = (am_AW d 135 (12, [.ref x, a1], .ref x :: st, n, M) Q) := am_AW_go rfl rfl rfl rfl
theorem w135_12 {L st : List Value} {h : Nat} : am_AW d 135 (12, L, .ref h :: st, n, M) Q = (∃ v, am_fld M h 1 0 = some v ∧ am_AW d 135 (15, L, v :: st, n, M) Q) := am_AW_op (o := am_fld M h 1 0) (f := fun v => (15, L, v :: st, n, M)) rfl rfl (am_bm _ _) (fun _ => rfl)
theorem w135_15 {L st : List Value} {h : Nat} : am_AW d 135 (15, L, .ref h :: st, n, M) Q = (∃ v, am_len M h = some v ∧ am_AW d 135 (16, L, .int v :: st, n, M) Q) := am_AW_op (o := am_len M h) (f := fun v => (16, L, .int v :: st, n, M)) rfl rfl (am_bm _ _) (fun _ => rfl)
theorem w135_16 {L st : List Value} {x y : Int32} : am_AW d 135 (16, L, .int y :: .int x :: st, n, M) Q = (if x < y then am_AW d 135 (20, L, st, n, M) Q else am_AW d 135 (19, L, st, n, M) Q) := (am_AW_icmp rfl).trans am_ite_lt
theorem w135_19 {L : List Value} : am_AW d 135 (19, L, [], n, M) Q = (Q none n M) := am_AW_ret (rv := (none, n)) rfl rfl rfl (am_mono_self n)
theorem w135_20 {a1 : Value} {x : Nat} {st : List Value} : am_AW d 135 (20, [.ref x, a1], st, n, M) Q = (am_AW d 135 (21, [.ref x, a1], .ref x :: st, n, M) Q) := am_AW_go rfl rfl rfl rfl
theorem w135_21 {L st : List Value} {x : Nat} : am_AW d 135 (21, L, .ref x :: st, n, M) Q = (am_AW d 135 (22, L, .ref x :: .ref x :: st, n, M) Q) := am_AW_go rfl rfl rfl rfl
theorem w135_21i {L st : List Value} {x : Int32} : am_AW d 135 (21, L, .int x :: st, n, M) Q = (am_AW d 135 (22, L, .int x :: .int x :: st, n, M) Q) := am_AW_go rfl rfl rfl rfl
theorem w135_22 {L st : List Value} {h : Nat} : am_AW d 135 (22, L, .ref h :: st, n, M) Q = (∃ v, am_fld M h 1 1 = some v ∧ am_AW d 135 (25, L, v :: st, n, M) Q) := am_AW_op (o := am_fld M h 1 1) (f := fun v => (25, L, v :: st, n, M)) rfl rfl (am_bm _ _) (fun _ => rfl)
theorem w135_25 {L st : List Value} : am_AW d 135 (25, L, st, n, M) Q = (am_AW d 135 (26, L, .int 1 :: st, n, M) Q) := am_AW_go rfl rfl rfl rfl
theorem w135_26 {L st : List Value} {x y : Int32} : am_AW d 135 (26, L, .int y :: .int x :: st, n, M) Q = (am_AW d 135 (27, L, .int (x - y) :: st, n, M) Q) := am_AW_go rfl rfl rfl rfl
theorem w135_27 {L st : List Value} {h : Nat} {v : Value} : am_AW d 135 (27, L, v :: .ref h :: st, n, M) Q = (am_fit 0 v = true ∧ ∃ M', am_setf M h 1 1 v = some M' ∧ am_AW d 135 (30, L, st, n, M') Q) := am_AW_put rfl
theorem w135_30 {a1 : Value} {x : Nat} {st : List Value} : am_AW d 135 (30, [.ref x, a1], st, n, M) Q = (am_AW d 135 (31, [.ref x, a1], .ref x :: st, n, M) Q) := am_AW_go rfl rfl rfl rfl
theorem w135_31 {a1 : Value} {x : Nat} {st : List Value} : am_AW d 135 (31, [.ref x, a1], st, n, M) Q = (am_AW d 135 (32, [.ref x, a1], .ref x :: st, n, M) Q) := am_AW_go rfl rfl rfl rfl
theorem w135_32 {L st : List Value} {h : Nat} : am_AW d 135 (32, L, .ref h :: st, n, M) Q = (∃ v, am_fld M h 1 0 = some v ∧ am_AW d 135 (35, L, v :: st, n, M) Q) := am_AW_op (o := am_fld M h 1 0) (f := fun v => (35, L, v :: st, n, M)) rfl rfl (am_bm _ _) (fun _ => rfl)
theorem w135_35 {a1 : Value} {x : Nat} {st : List Value} : am_AW d 135 (35, [.ref x, a1], st, n, M) Q = (am_AW d 135 (36, [.ref x, a1], .ref x :: st, n, M) Q) := am_AW_go rfl rfl rfl rfl
theorem w135_36 {L st : List Value} {h : Nat} : am_AW d 135 (36, L, .ref h :: st, n, M) Q = (∃ v, am_fld M h 1 1 = some v ∧ am_AW d 135 (39, L, v :: st, n, M) Q) := am_AW_op (o := am_fld M h 1 1) (f := fun v => (39, L, v :: st, n, M)) rfl rfl (am_bm _ _) (fun _ => rfl)
theorem w135_39 {L st : List Value} {h : Nat} {i : Int32} : am_AW d 135 (39, L, .int i :: .ref h :: st, n, M) Q = (∃ v, am_ald 0 M h i = some v ∧ am_AW d 135 (40, L, .int v :: st, n, M) Q) := am_AW_op (o := am_ald 0 M h i) (f := fun v => (40, L, .int v :: st, n, M)) rfl rfl (am_bm2 _ _ () ()) (fun _ => rfl)
theorem w135_40 {L st : List Value} {h : Nat} {v : Value} : am_AW d 135 (40, L, v :: .ref h :: st, n, M) Q = (am_fit 0 v = true ∧ ∃ M', am_setf M h 1 2 v = some M' ∧ am_AW d 135 (43, L, st, n, M') Q) := am_AW_put rfl
theorem w135_43 {a0 : Value} {x : Int32} {st : List Value} : am_AW d 135 (43, [a0, .int x], st, n, M) Q = (am_AW d 135 (44, [a0, .int x], .int x :: st, n, M) Q) := am_AW_go rfl rfl rfl rfl
theorem w135_44 {L st : List Value} {v0 : Value} : am_AW d 135 (44, L, v0 :: st, n, M) Q = (am_okA 1 (v0 :: st) = true ∧ am_Do d 13 [v0] n M (am_then d 135 47 0 L st n Q)) := am_AW_cs (i := 22) (x := 13) (y := 1) (z := 0) rfl
theorem w135_47 {L st : List Value} {x : Int32} : am_AW d 135 (47, L, .int x :: st, n, M) Q = (if x = 0 then am_AW d 135 (104, L, st, n, M) Q else am_AW d 135 (50, L, st, n, M) Q) := (am_AW_if rfl).trans am_ite_eq
theorem w135_50 {a1 : Value} {x : Nat} {st : List Value} : am_AW d 135 (50, [.ref x, a1], st, n, M) Q = (am_AW d 135 (51, [.ref x, a1], .ref x :: st, n, M) Q) := am_AW_go rfl rfl rfl rfl
theorem w135_51 {L st : List Value} {h : Nat} : am_AW d 135 (51, L, .ref h :: st, n, M) Q = (∃ v, am_fld M h 1 0 = some v ∧ am_AW d 135 (54, L, v :: st, n, M) Q) := am_AW_op (o := am_fld M h 1 0) (f := fun v => (54, L, v :: st, n, M)) rfl rfl (am_bm _ _) (fun _ => rfl)
theorem w135_54 {a1 : Value} {x : Nat} {st : List Value} : am_AW d 135 (54, [.ref x, a1], st, n, M) Q = (am_AW d 135 (55, [.ref x, a1], .ref x :: st, n, M) Q) := am_AW_go rfl rfl rfl rfl
theorem w135_55 {L st : List Value} {h : Nat} : am_AW d 135 (55, L, .ref h :: st, n, M) Q = (∃ v, am_fld M h 1 1 = some v ∧ am_AW d 135 (58, L, v :: st, n, M) Q) := am_AW_op (o := am_fld M h 1 1) (f := fun v => (58, L, v :: st, n, M)) rfl rfl (am_bm _ _) (fun _ => rfl)
theorem w135_58 {a0 : Value} {x : Int32} {st : List Value} : am_AW d 135 (58, [a0, .int x], st, n, M) Q = (am_AW d 135 (59, [a0, .int x], .int x :: st, n, M) Q) := am_AW_go rfl rfl rfl rfl
theorem w135_59 {L st : List Value} {v0 : Value} : am_AW d 135 (59, L, v0 :: st, n, M) Q = (am_okA 1 (v0 :: st) = true ∧ am_Do d 14 [v0] n M (am_then d 135 62 0 L st n Q)) := am_AW_cs (i := 26) (x := 14) (y := 1) (z := 0) rfl
theorem w135_62 {L st : List Value} {x : Int32} : am_AW d 135 (62, L, .int x :: st, n, M) Q = (if x = 0 then am_AW d 135 (74, L, st, n, M) Q else am_AW d 135 (65, L, st, n, M) Q) := (am_AW_if rfl).trans am_ite_eq
theorem w135_65 {a1 : Value} {x : Nat} {st : List Value} : am_AW d 135 (65, [.ref x, a1], st, n, M) Q = (am_AW d 135 (66, [.ref x, a1], .ref x :: st, n, M) Q) := am_AW_go rfl rfl rfl rfl
theorem w135_66 {L st : List Value} {h : Nat} : am_AW d 135 (66, L, .ref h :: st, n, M) Q = (∃ v, am_fld M h 1 2 = some v ∧ am_AW d 135 (69, L, v :: st, n, M) Q) := am_AW_op (o := am_fld M h 1 2) (f := fun v => (69, L, v :: st, n, M)) rfl rfl (am_bm _ _) (fun _ => rfl)
theorem w135_69 {L st : List Value} : am_AW d 135 (69, L, st, n, M) Q = (am_AW d 135 (70, L, .int 1 :: st, n, M) Q) := am_AW_go rfl rfl rfl rfl
theorem w135_70 {L st : List Value} {x y : Int32} : am_AW d 135 (70, L, .int y :: .int x :: st, n, M) Q = (am_AW d 135 (71, L, .int (x + y) :: st, n, M) Q) := am_AW_go rfl rfl rfl rfl
theorem w135_71 {L st : List Value} : am_AW d 135 (71, L, st, n, M) Q = (am_AW d 135 (78, L, st, n, M) Q) := am_AW_go rfl rfl rfl rfl
theorem w135_74 {a1 : Value} {x : Nat} {st : List Value} : am_AW d 135 (74, [.ref x, a1], st, n, M) Q = (am_AW d 135 (75, [.ref x, a1], .ref x :: st, n, M) Q) := am_AW_go rfl rfl rfl rfl
theorem w135_75 {L st : List Value} {h : Nat} : am_AW d 135 (75, L, .ref h :: st, n, M) Q = (∃ v, am_fld M h 1 2 = some v ∧ am_AW d 135 (78, L, v :: st, n, M) Q) := am_AW_op (o := am_fld M h 1 2) (f := fun v => (78, L, v :: st, n, M)) rfl rfl (am_bm _ _) (fun _ => rfl)
theorem w135_78 {L st : List Value} {h : Nat} {i v : Int32} : am_AW d 135 (78, L, .int v :: .int i :: .ref h :: st, n, M) Q = (am_fit 0 (.int v) = true ∧ ∃ M', am_ast 0 M h i v = some M' ∧ am_AW d 135 (79, L, st, n, M') Q) := am_AW_ast rfl (Or.inl ⟨rfl, rfl, rfl⟩)
theorem w135_79 {a1 : Value} {x : Nat} {st : List Value} : am_AW d 135 (79, [.ref x, a1], st, n, M) Q = (am_AW d 135 (80, [.ref x, a1], .ref x :: st, n, M) Q) := am_AW_go rfl rfl rfl rfl
theorem w135_80 {L st : List Value} {h : Nat} : am_AW d 135 (80, L, .ref h :: st, n, M) Q = (∃ v, am_fld M h 1 0 = some v ∧ am_AW d 135 (83, L, v :: st, n, M) Q) := am_AW_op (o := am_fld M h 1 0) (f := fun v => (83, L, v :: st, n, M)) rfl rfl (am_bm _ _) (fun _ => rfl)
theorem w135_83 {a1 : Value} {x : Nat} {st : List Value} : am_AW d 135 (83, [.ref x, a1], st, n, M) Q = (am_AW d 135 (84, [.ref x, a1], .ref x :: st, n, M) Q) := am_AW_go rfl rfl rfl rfl
theorem w135_84 {L st : List Value} {h : Nat} : am_AW d 135 (84, L, .ref h :: st, n, M) Q = (∃ v, am_fld M h 1 1 = some v ∧ am_AW d 135 (87, L, v :: st, n, M) Q) := am_AW_op (o := am_fld M h 1 1) (f := fun v => (87, L, v :: st, n, M)) rfl rfl (am_bm _ _) (fun _ => rfl)
theorem w135_87 {L st : List Value} : am_AW d 135 (87, L, st, n, M) Q = (am_AW d 135 (88, L, .int 1 :: st, n, M) Q) := am_AW_go rfl rfl rfl rfl
theorem w135_88 {L st : List Value} {x y : Int32} : am_AW d 135 (88, L, .int y :: .int x :: st, n, M) Q = (am_AW d 135 (89, L, .int (x + y) :: st, n, M) Q) := am_AW_go rfl rfl rfl rfl
theorem w135_89 {a1 : Value} {x : Nat} {st : List Value} : am_AW d 135 (89, [.ref x, a1], st, n, M) Q = (am_AW d 135 (90, [.ref x, a1], .ref x :: st, n, M) Q) := am_AW_go rfl rfl rfl rfl
theorem w135_90 {L st : List Value} {h : Nat} : am_AW d 135 (90, L, .ref h :: st, n, M) Q = (∃ v, am_fld M h 1 2 = some v ∧ am_AW d 135 (93, L, v :: st, n, M) Q) := am_AW_op (o := am_fld M h 1 2) (f := fun v => (93, L, v :: st, n, M)) rfl rfl (am_bm _ _) (fun _ => rfl)
theorem w135_93 {L st : List Value} {h : Nat} {i v : Int32} : am_AW d 135 (93, L, .int v :: .int i :: .ref h :: st, n, M) Q = (am_fit 0 (.int v) = true ∧ ∃ M', am_ast 0 M h i v = some M' ∧ am_AW d 135 (94, L, st, n, M') Q) := am_AW_ast rfl (Or.inl ⟨rfl, rfl, rfl⟩)
theorem w135_94 {a1 : Value} {x : Nat} {st : List Value} : am_AW d 135 (94, [.ref x, a1], st, n, M) Q = (am_AW d 135 (95, [.ref x, a1], .ref x :: st, n, M) Q) := am_AW_go rfl rfl rfl rfl
theorem w135_95 {L st : List Value} {x : Nat} : am_AW d 135 (95, L, .ref x :: st, n, M) Q = (am_AW d 135 (96, L, .ref x :: .ref x :: st, n, M) Q) := am_AW_go rfl rfl rfl rfl
theorem w135_95i {L st : List Value} {x : Int32} : am_AW d 135 (95, L, .int x :: st, n, M) Q = (am_AW d 135 (96, L, .int x :: .int x :: st, n, M) Q) := am_AW_go rfl rfl rfl rfl
theorem w135_96 {L st : List Value} {h : Nat} : am_AW d 135 (96, L, .ref h :: st, n, M) Q = (∃ v, am_fld M h 1 1 = some v ∧ am_AW d 135 (99, L, v :: st, n, M) Q) := am_AW_op (o := am_fld M h 1 1) (f := fun v => (99, L, v :: st, n, M)) rfl rfl (am_bm _ _) (fun _ => rfl)
theorem w135_99 {L st : List Value} : am_AW d 135 (99, L, st, n, M) Q = (am_AW d 135 (100, L, .int 2 :: st, n, M) Q) := am_AW_go rfl rfl rfl rfl
theorem w135_100 {L st : List Value} {x y : Int32} : am_AW d 135 (100, L, .int y :: .int x :: st, n, M) Q = (am_AW d 135 (101, L, .int (x + y) :: st, n, M) Q) := am_AW_go rfl rfl rfl rfl
theorem w135_101 {L st : List Value} {h : Nat} {v : Value} : am_AW d 135 (101, L, v :: .ref h :: st, n, M) Q = (am_fit 0 v = true ∧ ∃ M', am_setf M h 1 1 v = some M' ∧ am_AW d 135 (104, L, st, n, M') Q) := am_AW_put rfl
theorem w135_104 {L : List Value} : am_AW d 135 (104, L, [], n, M) Q = (Q none n M) := am_AW_ret (rv := (none, n)) rfl rfl rfl (am_mono_self n)
end W135
