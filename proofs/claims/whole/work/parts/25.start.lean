def am_MF (L : Nat) (xs : Nat → Int32) : am_M := am_up (am_up (am_up (am_up (am_up (am_up (am_up (am_up (am_up (am_up (am_up (am_up (am_up (am_up (am_up (am_up (am_up (am_up (am_up (am_up (am_up (am_up (am_up (am_up (am_up (am_up (am_up (am_up (am_up (am_up (am_up (am_up (am_up (am_up (am_tyM (am_up (am_up (am_up (am_up (am_up (am_up (am_up (am_up (am_up (am_up (am_up (am_up (am_up (am_up (am_up (am_up (am_up (am_up (am_up (am_up (am_up (am_up (am_up (am_up (am_up (am_up (am_up (am_up (am_up (am_nmM (am_up (am_up (am_up (am_up (am_up (am_up (am_up (am_up (am_up (am_up (am_M0 L xs) 0 (am_O 9 [.ref 1, .int (am_z 0), .ref 2, .ref 3, .null, .null, .null, .null, .null, .null, .null])) 1 (am_I 1 100 (fun _ => am_z 0))) 2 (am_O 2 [.int (am_z 0), .int (am_z (-1))])) 3 (am_O 4 [.ref 4, .ref 6])) 4 (am_O 1 [.ref 5, .int (am_z 0), .int (am_z 0)])) 5 (am_I 0 202 (fun _ => am_z 0))) 6 (am_O 1 [.ref 7, .int (am_z 0), .int (am_z 0)])) 7 (am_I 0 202 (fun _ => am_z 0))) 8 (am_O 3 [.ref 9, .ref 10, .ref 11, .int (am_z 0)])) 11 (am_I 2 8 (fun _ => am_z 0))) 8) 0 (am_O 9 [.ref 1, .int (am_z 0), .ref 2, .ref 3, .ref 8, .ref 52, .ref 63, .null, .ref 44, .ref 48, .ref 50])) 9 (am_R 4 8 (am_nmf 12 8))) 10 (am_R 4 8 (am_nmf 14 8))) 44 (am_O 8 [.ref 45, .int (am_z 0), .int (am_z 0), .ref 46])) 45 (am_I 1 480 (fun _ => am_z 0))) 46 (am_O 1 [.ref 47, .int (am_z 0), .int (am_z 0)])) 47 (am_I 0 202 (fun _ => am_z 0))) 48 (am_O 0 [.ref 49, .int (am_z 0), .int (am_z 0)])) 49 (am_I 0 80 (fun _ => am_z 0))) 50 (am_O 0 [.ref 51, .int (am_z 0), .int (am_z 0)])) 51 (am_I 0 80 (fun _ => am_z 0))) 52 (am_O 5 [.ref 8, .ref 2, .ref 53, .ref 55, .ref 56, .int (am_z 0), .int (am_z 0), .int (am_z 0), .int (am_z (-1)), .int (am_z 0), .ref 57, .ref 58, .ref 59, .ref 60, .ref 61, .ref 62, .int (am_z 0)])) 53 (am_O 0 [.ref 54, .int (am_z 0), .int (am_z 0)])) 54 (am_I 0 200 (fun _ => am_z 0))) 55 (am_I 0 200 (fun _ => am_z 0))) 56 (am_I 1 100 (fun _ => am_z 0))) 57 (am_I 1 100 (fun _ => am_z 0))) 58 (am_I 1 100 (fun _ => am_z 0))) 59 (am_I 0 100 (fun _ => am_z 0))) 60 (am_I 0 100 (fun _ => am_z 0))) 61 (am_I 0 100 (fun _ => am_z 0))) 62 (am_I 0 100 (fun _ => am_z 0))) 63 (am_O 6 [.ref 8, .ref 3, .ref 64])) 64 (am_O 0 [.ref 65, .int (am_z 0), .int (am_z 0)])) 65 (am_I 0 80 (fun _ => am_z 0))) 66 (am_O 7 [.ref 52, .ref 53, .ref 8, .ref 63, .ref 3, .ref 2, .ref 67, .ref 68, .ref 70, .int (am_z 0)])) 68 (am_O 0 [.ref 69, .int (am_z 0), .int (am_z 0)])) 69 (am_I 0 80 (fun _ => am_z 0))) 70 (am_I 0 100 (fun _ => am_z 0))) 54) 0 (am_O 9 [.ref 1, .int (am_z 0), .ref 2, .ref 3, .ref 8, .ref 52, .ref 63, .ref 66, .ref 44, .ref 48, .ref 50])) 67 (am_R 4 54 (am_tyf 54))) 179 (am_O 10 [.ref 180, .int (am_z 0), .ref 181, .int (am_z 0), .int (am_z (-1)), .ref 182, .int (am_z 0), .int (am_z 0), .ref 183, .ref 184, .ref 185, .ref 186, .int (am_z 0), .ref 187, .ref 188, .ref 189, .ref 190, .int (am_z 0), .int (am_z 0), .ref 191, .ref 192, .ref 193, .ref 194, .ref 195, .int (am_z 0), .ref 196, .ref 197, .int (am_z 0), .ref 198, .int (am_z 0), .ref 199, .ref 200, .ref 201, .int (am_z 0), .int (am_z 0), .ref 202, .ref 203, .ref 204, .ref 205, .ref 206, .int (am_z 0), .ref 207, .ref 208, .int (am_z 0), .ref 209])) 180 (am_I 0 25 (upd (upd (upd (upd (upd (upd (upd (upd (upd (upd (upd (upd (upd (upd (upd (upd (upd (upd (upd (upd (upd (upd (upd (upd (upd (fun _ => am_z 0) 0 (am_z 3)) 1 (am_z 3)) 2 (am_z 6)) 3 (am_z 4)) 4 (am_z 3)) 5 (am_z 1)) 6 (am_z 100)) 7 (am_z 9)) 8 (am_z 3)) 9 (am_z 3)) 10 (am_z 6)) 11 (am_z 3)) 12 (am_z 1)) 13 (am_z 102)) 14 (am_z 100)) 15 (am_z 1)) 16 (am_z 103)) 17 (am_z 1)) 18 (am_z 7)) 19 (am_z 101)) 20 (am_z 3)) 21 (am_z 6)) 22 (am_z 1)) 23 (am_z 103)) 24 (am_z 100)))) 181 (am_I 1 100 (fun _ => am_z 0))) 182 (am_I 1 1200 (fun _ => am_z 0))) 183 (am_I 0 648 (fun _ => am_z 0))) 184 (am_I 0 8 (fun _ => am_z 0))) 185 (am_I 0 648 (fun _ => am_z 0))) 186 (am_I 0 8 (fun _ => am_z 0))) 187 (am_I 0 400 (fun _ => am_z 0))) 188 (am_I 0 400 (fun _ => am_z 0))) 189 (am_I 0 400 (fun _ => am_z 0))) 190 (am_I 0 400 (fun _ => am_z 0))) 191 (am_I 0 120 (fun _ => am_z 0))) 192 (am_I 0 120 (fun _ => am_z 0))) 193 (am_I 0 120 (fun _ => am_z 0))) 194 (am_I 0 120 (fun _ => am_z 0))) 195 (am_I 0 120 (fun _ => am_z 0))) 196 (am_I 0 120 (fun _ => am_z 0))) 197 (am_I 0 1800 (fun _ => am_z 0))) 198 (am_I 0 1800 (fun _ => am_z 0))) 199 (am_I 0 1800 (fun _ => am_z 0))) 200 (am_I 0 200 (fun _ => am_z 0))) 201 (am_I 0 200 (fun _ => am_z 0))) 202 (am_I 0 420 (fun _ => am_z 0))) 203 (am_I 0 420 (fun _ => am_z 0))) 204 (am_I 0 34020 (fun _ => am_z 0))) 205 (am_I 0 9720 (fun _ => am_z 0))) 206 (am_I 0 120 (fun _ => am_z 0))) 207 (am_I 0 1200 (fun _ => am_z 0))) 208 (am_I 0 1200 (fun _ => am_z 0))) 209 (am_I 0 100 (fun _ => am_z 0))) 210 (am_J 1 (fun _ => 0))
theorem am_ltS {P : Nat → Prop} {n : Nat} (h : ∀ k, k < n → P k) (hn : P n) : ∀ k, k < n + 1 → P k := fun k hk => by
  by_cases h1 : k = n
  · subst h1; exact hn
  · exact h k (by omega)
theorem am_ltZ {P : Nat → Prop} : ∀ k, k < 0 → P k := fun k hk => absurd hk (Nat.not_lt_zero k)
theorem am_recE : ∀ k, (upd (upd (upd (upd (upd (upd (upd (upd (upd (upd (upd (upd (upd (upd (upd (upd (upd (upd (upd (upd (upd (upd (upd (upd (upd (fun _ => am_z 0) 0 (am_z 3)) 1 (am_z 3)) 2 (am_z 6)) 3 (am_z 4)) 4 (am_z 3)) 5 (am_z 1)) 6 (am_z 100)) 7 (am_z 9)) 8 (am_z 3)) 9 (am_z 3)) 10 (am_z 6)) 11 (am_z 3)) 12 (am_z 1)) 13 (am_z 102)) 14 (am_z 100)) 15 (am_z 1)) 16 (am_z 103)) 17 (am_z 1)) 18 (am_z 7)) 19 (am_z 101)) 20 (am_z 3)) 21 (am_z 6)) 22 (am_z 1)) 23 (am_z 103)) 24 (am_z 100)) k = am_z (am_rc.getD k 0) := by
  intro k
  by_cases hk : k < 25
  · exact ((am_ltS (am_ltS (am_ltS (am_ltS (am_ltS (am_ltS (am_ltS (am_ltS (am_ltS (am_ltS (am_ltS (am_ltS (am_ltS (am_ltS (am_ltS (am_ltS (am_ltS (am_ltS (am_ltS (am_ltS (am_ltS (am_ltS (am_ltS (am_ltS (am_ltS am_ltZ rfl) rfl) rfl) rfl) rfl) rfl) rfl) rfl) rfl) rfl) rfl) rfl) rfl) rfl) rfl) rfl) rfl) rfl) rfl) rfl) rfl) rfl) rfl) rfl) rfl) : ∀ k, k < 25 → (upd (upd (upd (upd (upd (upd (upd (upd (upd (upd (upd (upd (upd (upd (upd (upd (upd (upd (upd (upd (upd (upd (upd (upd (upd (fun _ => am_z 0) 0 (am_z 3)) 1 (am_z 3)) 2 (am_z 6)) 3 (am_z 4)) 4 (am_z 3)) 5 (am_z 1)) 6 (am_z 100)) 7 (am_z 9)) 8 (am_z 3)) 9 (am_z 3)) 10 (am_z 6)) 11 (am_z 3)) 12 (am_z 1)) 13 (am_z 102)) 14 (am_z 100)) 15 (am_z 1)) 16 (am_z 103)) 17 (am_z 1)) 18 (am_z 7)) 19 (am_z 101)) 20 (am_z 3)) 21 (am_z 6)) 22 (am_z 1)) 23 (am_z 103)) 24 (am_z 100)) k = am_z (am_rc.getD k 0)) k hk
  · rw [List.getD_eq_getElem?_getD, List.getElem?_eq_none (by show 25 ≤ k; omega)]
    unfold upd
    rw [if_neg (by omega), if_neg (by omega), if_neg (by omega), if_neg (by omega), if_neg (by omega), if_neg (by omega), if_neg (by omega), if_neg (by omega), if_neg (by omega), if_neg (by omega), if_neg (by omega), if_neg (by omega), if_neg (by omega), if_neg (by omega), if_neg (by omega), if_neg (by omega), if_neg (by omega), if_neg (by omega), if_neg (by omega), if_neg (by omega), if_neg (by omega), if_neg (by omega), if_neg (by omega), if_neg (by omega), if_neg (by omega)]
    rfl
set_option maxRecDepth 100000 in
theorem mf_0 {L : Nat} {xs : Nat → Int32} : am_MF L xs 0 = am_mk (L, xs) am_S0 0 := rfl
set_option maxRecDepth 100000 in
theorem mf_1 {L : Nat} {xs : Nat → Int32} : am_MF L xs 1 = am_mk (L, xs) am_S0 1 := rfl
set_option maxRecDepth 100000 in
theorem mf_2 {L : Nat} {xs : Nat → Int32} : am_MF L xs 2 = am_mk (L, xs) am_S0 2 := rfl
set_option maxRecDepth 100000 in
theorem mf_3 {L : Nat} {xs : Nat → Int32} : am_MF L xs 3 = am_mk (L, xs) am_S0 3 := rfl
set_option maxRecDepth 100000 in
theorem mf_4 {L : Nat} {xs : Nat → Int32} : am_MF L xs 4 = am_mk (L, xs) am_S0 4 := rfl
set_option maxRecDepth 100000 in
theorem mf_5 {L : Nat} {xs : Nat → Int32} : am_MF L xs 5 = am_mk (L, xs) am_S0 5 := rfl
set_option maxRecDepth 100000 in
theorem mf_6 {L : Nat} {xs : Nat → Int32} : am_MF L xs 6 = am_mk (L, xs) am_S0 6 := rfl
set_option maxRecDepth 100000 in
theorem mf_7 {L : Nat} {xs : Nat → Int32} : am_MF L xs 7 = am_mk (L, xs) am_S0 7 := rfl
set_option maxRecDepth 100000 in
theorem mf_8 {L : Nat} {xs : Nat → Int32} : am_MF L xs 8 = am_mk (L, xs) am_S0 8 := rfl
set_option maxRecDepth 100000 in
theorem mf_9 {L : Nat} {xs : Nat → Int32} : am_MF L xs 9 = am_mk (L, xs) am_S0 9 := rfl
set_option maxRecDepth 100000 in
theorem mf_10 {L : Nat} {xs : Nat → Int32} : am_MF L xs 10 = am_mk (L, xs) am_S0 10 := rfl
set_option maxRecDepth 100000 in
theorem mf_11 {L : Nat} {xs : Nat → Int32} : am_MF L xs 11 = am_mk (L, xs) am_S0 11 := rfl
set_option maxRecDepth 100000 in
theorem mf_12 {L : Nat} {xs : Nat → Int32} : am_MF L xs 12 = am_mk (L, xs) am_S0 12 := rfl
set_option maxRecDepth 100000 in
theorem mf_13 {L : Nat} {xs : Nat → Int32} : am_MF L xs 13 = am_mk (L, xs) am_S0 13 := rfl
set_option maxRecDepth 100000 in
theorem mf_14 {L : Nat} {xs : Nat → Int32} : am_MF L xs 14 = am_mk (L, xs) am_S0 14 := rfl
set_option maxRecDepth 100000 in
theorem mf_15 {L : Nat} {xs : Nat → Int32} : am_MF L xs 15 = am_mk (L, xs) am_S0 15 := rfl
set_option maxRecDepth 100000 in
theorem mf_16 {L : Nat} {xs : Nat → Int32} : am_MF L xs 16 = am_mk (L, xs) am_S0 16 := rfl
set_option maxRecDepth 100000 in
theorem mf_17 {L : Nat} {xs : Nat → Int32} : am_MF L xs 17 = am_mk (L, xs) am_S0 17 := rfl
set_option maxRecDepth 100000 in
theorem mf_18 {L : Nat} {xs : Nat → Int32} : am_MF L xs 18 = am_mk (L, xs) am_S0 18 := rfl
set_option maxRecDepth 100000 in
theorem mf_19 {L : Nat} {xs : Nat → Int32} : am_MF L xs 19 = am_mk (L, xs) am_S0 19 := rfl
set_option maxRecDepth 100000 in
theorem mf_20 {L : Nat} {xs : Nat → Int32} : am_MF L xs 20 = am_mk (L, xs) am_S0 20 := rfl
set_option maxRecDepth 100000 in
theorem mf_21 {L : Nat} {xs : Nat → Int32} : am_MF L xs 21 = am_mk (L, xs) am_S0 21 := rfl
set_option maxRecDepth 100000 in
theorem mf_22 {L : Nat} {xs : Nat → Int32} : am_MF L xs 22 = am_mk (L, xs) am_S0 22 := rfl
set_option maxRecDepth 100000 in
theorem mf_23 {L : Nat} {xs : Nat → Int32} : am_MF L xs 23 = am_mk (L, xs) am_S0 23 := rfl
set_option maxRecDepth 100000 in
theorem mf_24 {L : Nat} {xs : Nat → Int32} : am_MF L xs 24 = am_mk (L, xs) am_S0 24 := rfl
set_option maxRecDepth 100000 in
theorem mf_25 {L : Nat} {xs : Nat → Int32} : am_MF L xs 25 = am_mk (L, xs) am_S0 25 := rfl
set_option maxRecDepth 100000 in
theorem mf_26 {L : Nat} {xs : Nat → Int32} : am_MF L xs 26 = am_mk (L, xs) am_S0 26 := rfl
set_option maxRecDepth 100000 in
theorem mf_27 {L : Nat} {xs : Nat → Int32} : am_MF L xs 27 = am_mk (L, xs) am_S0 27 := rfl
set_option maxRecDepth 100000 in
theorem mf_28 {L : Nat} {xs : Nat → Int32} : am_MF L xs 28 = am_mk (L, xs) am_S0 28 := rfl
set_option maxRecDepth 100000 in
theorem mf_29 {L : Nat} {xs : Nat → Int32} : am_MF L xs 29 = am_mk (L, xs) am_S0 29 := rfl
set_option maxRecDepth 100000 in
theorem mf_30 {L : Nat} {xs : Nat → Int32} : am_MF L xs 30 = am_mk (L, xs) am_S0 30 := rfl
set_option maxRecDepth 100000 in
theorem mf_31 {L : Nat} {xs : Nat → Int32} : am_MF L xs 31 = am_mk (L, xs) am_S0 31 := rfl
set_option maxRecDepth 100000 in
theorem mf_32 {L : Nat} {xs : Nat → Int32} : am_MF L xs 32 = am_mk (L, xs) am_S0 32 := rfl
set_option maxRecDepth 100000 in
theorem mf_33 {L : Nat} {xs : Nat → Int32} : am_MF L xs 33 = am_mk (L, xs) am_S0 33 := rfl
set_option maxRecDepth 100000 in
theorem mf_34 {L : Nat} {xs : Nat → Int32} : am_MF L xs 34 = am_mk (L, xs) am_S0 34 := rfl
set_option maxRecDepth 100000 in
theorem mf_35 {L : Nat} {xs : Nat → Int32} : am_MF L xs 35 = am_mk (L, xs) am_S0 35 := rfl
set_option maxRecDepth 100000 in
theorem mf_36 {L : Nat} {xs : Nat → Int32} : am_MF L xs 36 = am_mk (L, xs) am_S0 36 := rfl
set_option maxRecDepth 100000 in
theorem mf_37 {L : Nat} {xs : Nat → Int32} : am_MF L xs 37 = am_mk (L, xs) am_S0 37 := rfl
set_option maxRecDepth 100000 in
theorem mf_38 {L : Nat} {xs : Nat → Int32} : am_MF L xs 38 = am_mk (L, xs) am_S0 38 := rfl
set_option maxRecDepth 100000 in
theorem mf_39 {L : Nat} {xs : Nat → Int32} : am_MF L xs 39 = am_mk (L, xs) am_S0 39 := rfl
set_option maxRecDepth 100000 in
theorem mf_40 {L : Nat} {xs : Nat → Int32} : am_MF L xs 40 = am_mk (L, xs) am_S0 40 := rfl
set_option maxRecDepth 100000 in
theorem mf_41 {L : Nat} {xs : Nat → Int32} : am_MF L xs 41 = am_mk (L, xs) am_S0 41 := rfl
set_option maxRecDepth 100000 in
theorem mf_42 {L : Nat} {xs : Nat → Int32} : am_MF L xs 42 = am_mk (L, xs) am_S0 42 := rfl
set_option maxRecDepth 100000 in
theorem mf_43 {L : Nat} {xs : Nat → Int32} : am_MF L xs 43 = am_mk (L, xs) am_S0 43 := rfl
set_option maxRecDepth 100000 in
theorem mf_44 {L : Nat} {xs : Nat → Int32} : am_MF L xs 44 = am_mk (L, xs) am_S0 44 := rfl
set_option maxRecDepth 100000 in
theorem mf_45 {L : Nat} {xs : Nat → Int32} : am_MF L xs 45 = am_mk (L, xs) am_S0 45 := rfl
set_option maxRecDepth 100000 in
theorem mf_46 {L : Nat} {xs : Nat → Int32} : am_MF L xs 46 = am_mk (L, xs) am_S0 46 := rfl
set_option maxRecDepth 100000 in
theorem mf_47 {L : Nat} {xs : Nat → Int32} : am_MF L xs 47 = am_mk (L, xs) am_S0 47 := rfl
set_option maxRecDepth 100000 in
theorem mf_48 {L : Nat} {xs : Nat → Int32} : am_MF L xs 48 = am_mk (L, xs) am_S0 48 := rfl
set_option maxRecDepth 100000 in
theorem mf_49 {L : Nat} {xs : Nat → Int32} : am_MF L xs 49 = am_mk (L, xs) am_S0 49 := rfl
set_option maxRecDepth 100000 in
theorem mf_50 {L : Nat} {xs : Nat → Int32} : am_MF L xs 50 = am_mk (L, xs) am_S0 50 := rfl
set_option maxRecDepth 100000 in
theorem mf_51 {L : Nat} {xs : Nat → Int32} : am_MF L xs 51 = am_mk (L, xs) am_S0 51 := rfl
set_option maxRecDepth 100000 in
theorem mf_52 {L : Nat} {xs : Nat → Int32} : am_MF L xs 52 = am_mk (L, xs) am_S0 52 := rfl
set_option maxRecDepth 100000 in
theorem mf_53 {L : Nat} {xs : Nat → Int32} : am_MF L xs 53 = am_mk (L, xs) am_S0 53 := rfl
set_option maxRecDepth 100000 in
theorem mf_54 {L : Nat} {xs : Nat → Int32} : am_MF L xs 54 = am_mk (L, xs) am_S0 54 := rfl
set_option maxRecDepth 100000 in
theorem mf_55 {L : Nat} {xs : Nat → Int32} : am_MF L xs 55 = am_mk (L, xs) am_S0 55 := rfl
set_option maxRecDepth 100000 in
theorem mf_56 {L : Nat} {xs : Nat → Int32} : am_MF L xs 56 = am_mk (L, xs) am_S0 56 := rfl
set_option maxRecDepth 100000 in
theorem mf_57 {L : Nat} {xs : Nat → Int32} : am_MF L xs 57 = am_mk (L, xs) am_S0 57 := rfl
set_option maxRecDepth 100000 in
theorem mf_58 {L : Nat} {xs : Nat → Int32} : am_MF L xs 58 = am_mk (L, xs) am_S0 58 := rfl
set_option maxRecDepth 100000 in
theorem mf_59 {L : Nat} {xs : Nat → Int32} : am_MF L xs 59 = am_mk (L, xs) am_S0 59 := rfl
set_option maxRecDepth 100000 in
theorem mf_60 {L : Nat} {xs : Nat → Int32} : am_MF L xs 60 = am_mk (L, xs) am_S0 60 := rfl
set_option maxRecDepth 100000 in
theorem mf_61 {L : Nat} {xs : Nat → Int32} : am_MF L xs 61 = am_mk (L, xs) am_S0 61 := rfl
set_option maxRecDepth 100000 in
theorem mf_62 {L : Nat} {xs : Nat → Int32} : am_MF L xs 62 = am_mk (L, xs) am_S0 62 := rfl
set_option maxRecDepth 100000 in
theorem mf_63 {L : Nat} {xs : Nat → Int32} : am_MF L xs 63 = am_mk (L, xs) am_S0 63 := rfl
set_option maxRecDepth 100000 in
theorem mf_64 {L : Nat} {xs : Nat → Int32} : am_MF L xs 64 = am_mk (L, xs) am_S0 64 := rfl
set_option maxRecDepth 100000 in
theorem mf_65 {L : Nat} {xs : Nat → Int32} : am_MF L xs 65 = am_mk (L, xs) am_S0 65 := rfl
set_option maxRecDepth 100000 in
theorem mf_66 {L : Nat} {xs : Nat → Int32} : am_MF L xs 66 = am_mk (L, xs) am_S0 66 := rfl
set_option maxRecDepth 100000 in
theorem mf_67 {L : Nat} {xs : Nat → Int32} : am_MF L xs 67 = am_mk (L, xs) am_S0 67 := rfl
set_option maxRecDepth 100000 in
theorem mf_68 {L : Nat} {xs : Nat → Int32} : am_MF L xs 68 = am_mk (L, xs) am_S0 68 := rfl
set_option maxRecDepth 100000 in
theorem mf_69 {L : Nat} {xs : Nat → Int32} : am_MF L xs 69 = am_mk (L, xs) am_S0 69 := rfl
set_option maxRecDepth 100000 in
theorem mf_70 {L : Nat} {xs : Nat → Int32} : am_MF L xs 70 = am_mk (L, xs) am_S0 70 := rfl
set_option maxRecDepth 100000 in
theorem mf_71 {L : Nat} {xs : Nat → Int32} : am_MF L xs 71 = am_mk (L, xs) am_S0 71 := rfl
set_option maxRecDepth 100000 in
theorem mf_72 {L : Nat} {xs : Nat → Int32} : am_MF L xs 72 = am_mk (L, xs) am_S0 72 := rfl
set_option maxRecDepth 100000 in
theorem mf_73 {L : Nat} {xs : Nat → Int32} : am_MF L xs 73 = am_mk (L, xs) am_S0 73 := rfl
set_option maxRecDepth 100000 in
theorem mf_74 {L : Nat} {xs : Nat → Int32} : am_MF L xs 74 = am_mk (L, xs) am_S0 74 := rfl
set_option maxRecDepth 100000 in
theorem mf_75 {L : Nat} {xs : Nat → Int32} : am_MF L xs 75 = am_mk (L, xs) am_S0 75 := rfl
set_option maxRecDepth 100000 in
theorem mf_76 {L : Nat} {xs : Nat → Int32} : am_MF L xs 76 = am_mk (L, xs) am_S0 76 := rfl
set_option maxRecDepth 100000 in
theorem mf_77 {L : Nat} {xs : Nat → Int32} : am_MF L xs 77 = am_mk (L, xs) am_S0 77 := rfl
set_option maxRecDepth 100000 in
theorem mf_78 {L : Nat} {xs : Nat → Int32} : am_MF L xs 78 = am_mk (L, xs) am_S0 78 := rfl
set_option maxRecDepth 100000 in
theorem mf_79 {L : Nat} {xs : Nat → Int32} : am_MF L xs 79 = am_mk (L, xs) am_S0 79 := rfl
set_option maxRecDepth 100000 in
theorem mf_80 {L : Nat} {xs : Nat → Int32} : am_MF L xs 80 = am_mk (L, xs) am_S0 80 := rfl
set_option maxRecDepth 100000 in
theorem mf_81 {L : Nat} {xs : Nat → Int32} : am_MF L xs 81 = am_mk (L, xs) am_S0 81 := rfl
set_option maxRecDepth 100000 in
theorem mf_82 {L : Nat} {xs : Nat → Int32} : am_MF L xs 82 = am_mk (L, xs) am_S0 82 := rfl
set_option maxRecDepth 100000 in
theorem mf_83 {L : Nat} {xs : Nat → Int32} : am_MF L xs 83 = am_mk (L, xs) am_S0 83 := rfl
set_option maxRecDepth 100000 in
theorem mf_84 {L : Nat} {xs : Nat → Int32} : am_MF L xs 84 = am_mk (L, xs) am_S0 84 := rfl
set_option maxRecDepth 100000 in
theorem mf_85 {L : Nat} {xs : Nat → Int32} : am_MF L xs 85 = am_mk (L, xs) am_S0 85 := rfl
set_option maxRecDepth 100000 in
theorem mf_86 {L : Nat} {xs : Nat → Int32} : am_MF L xs 86 = am_mk (L, xs) am_S0 86 := rfl
set_option maxRecDepth 100000 in
theorem mf_87 {L : Nat} {xs : Nat → Int32} : am_MF L xs 87 = am_mk (L, xs) am_S0 87 := rfl
set_option maxRecDepth 100000 in
theorem mf_88 {L : Nat} {xs : Nat → Int32} : am_MF L xs 88 = am_mk (L, xs) am_S0 88 := rfl
set_option maxRecDepth 100000 in
theorem mf_89 {L : Nat} {xs : Nat → Int32} : am_MF L xs 89 = am_mk (L, xs) am_S0 89 := rfl
set_option maxRecDepth 100000 in
theorem mf_90 {L : Nat} {xs : Nat → Int32} : am_MF L xs 90 = am_mk (L, xs) am_S0 90 := rfl
set_option maxRecDepth 100000 in
theorem mf_91 {L : Nat} {xs : Nat → Int32} : am_MF L xs 91 = am_mk (L, xs) am_S0 91 := rfl
set_option maxRecDepth 100000 in
theorem mf_92 {L : Nat} {xs : Nat → Int32} : am_MF L xs 92 = am_mk (L, xs) am_S0 92 := rfl
set_option maxRecDepth 100000 in
theorem mf_93 {L : Nat} {xs : Nat → Int32} : am_MF L xs 93 = am_mk (L, xs) am_S0 93 := rfl
set_option maxRecDepth 100000 in
theorem mf_94 {L : Nat} {xs : Nat → Int32} : am_MF L xs 94 = am_mk (L, xs) am_S0 94 := rfl
set_option maxRecDepth 100000 in
theorem mf_95 {L : Nat} {xs : Nat → Int32} : am_MF L xs 95 = am_mk (L, xs) am_S0 95 := rfl
set_option maxRecDepth 100000 in
theorem mf_96 {L : Nat} {xs : Nat → Int32} : am_MF L xs 96 = am_mk (L, xs) am_S0 96 := rfl
set_option maxRecDepth 100000 in
theorem mf_97 {L : Nat} {xs : Nat → Int32} : am_MF L xs 97 = am_mk (L, xs) am_S0 97 := rfl
set_option maxRecDepth 100000 in
theorem mf_98 {L : Nat} {xs : Nat → Int32} : am_MF L xs 98 = am_mk (L, xs) am_S0 98 := rfl
set_option maxRecDepth 100000 in
theorem mf_99 {L : Nat} {xs : Nat → Int32} : am_MF L xs 99 = am_mk (L, xs) am_S0 99 := rfl
set_option maxRecDepth 100000 in
theorem mf_100 {L : Nat} {xs : Nat → Int32} : am_MF L xs 100 = am_mk (L, xs) am_S0 100 := rfl
set_option maxRecDepth 100000 in
theorem mf_101 {L : Nat} {xs : Nat → Int32} : am_MF L xs 101 = am_mk (L, xs) am_S0 101 := rfl
set_option maxRecDepth 100000 in
theorem mf_102 {L : Nat} {xs : Nat → Int32} : am_MF L xs 102 = am_mk (L, xs) am_S0 102 := rfl
set_option maxRecDepth 100000 in
theorem mf_103 {L : Nat} {xs : Nat → Int32} : am_MF L xs 103 = am_mk (L, xs) am_S0 103 := rfl
set_option maxRecDepth 100000 in
theorem mf_104 {L : Nat} {xs : Nat → Int32} : am_MF L xs 104 = am_mk (L, xs) am_S0 104 := rfl
set_option maxRecDepth 100000 in
theorem mf_105 {L : Nat} {xs : Nat → Int32} : am_MF L xs 105 = am_mk (L, xs) am_S0 105 := rfl
set_option maxRecDepth 100000 in
theorem mf_106 {L : Nat} {xs : Nat → Int32} : am_MF L xs 106 = am_mk (L, xs) am_S0 106 := rfl
set_option maxRecDepth 100000 in
theorem mf_107 {L : Nat} {xs : Nat → Int32} : am_MF L xs 107 = am_mk (L, xs) am_S0 107 := rfl
set_option maxRecDepth 100000 in
theorem mf_108 {L : Nat} {xs : Nat → Int32} : am_MF L xs 108 = am_mk (L, xs) am_S0 108 := rfl
set_option maxRecDepth 100000 in
theorem mf_109 {L : Nat} {xs : Nat → Int32} : am_MF L xs 109 = am_mk (L, xs) am_S0 109 := rfl
set_option maxRecDepth 100000 in
theorem mf_110 {L : Nat} {xs : Nat → Int32} : am_MF L xs 110 = am_mk (L, xs) am_S0 110 := rfl
set_option maxRecDepth 100000 in
theorem mf_111 {L : Nat} {xs : Nat → Int32} : am_MF L xs 111 = am_mk (L, xs) am_S0 111 := rfl
set_option maxRecDepth 100000 in
theorem mf_112 {L : Nat} {xs : Nat → Int32} : am_MF L xs 112 = am_mk (L, xs) am_S0 112 := rfl
set_option maxRecDepth 100000 in
theorem mf_113 {L : Nat} {xs : Nat → Int32} : am_MF L xs 113 = am_mk (L, xs) am_S0 113 := rfl
set_option maxRecDepth 100000 in
theorem mf_114 {L : Nat} {xs : Nat → Int32} : am_MF L xs 114 = am_mk (L, xs) am_S0 114 := rfl
set_option maxRecDepth 100000 in
theorem mf_115 {L : Nat} {xs : Nat → Int32} : am_MF L xs 115 = am_mk (L, xs) am_S0 115 := rfl
set_option maxRecDepth 100000 in
theorem mf_116 {L : Nat} {xs : Nat → Int32} : am_MF L xs 116 = am_mk (L, xs) am_S0 116 := rfl
set_option maxRecDepth 100000 in
theorem mf_117 {L : Nat} {xs : Nat → Int32} : am_MF L xs 117 = am_mk (L, xs) am_S0 117 := rfl
set_option maxRecDepth 100000 in
theorem mf_118 {L : Nat} {xs : Nat → Int32} : am_MF L xs 118 = am_mk (L, xs) am_S0 118 := rfl
set_option maxRecDepth 100000 in
theorem mf_119 {L : Nat} {xs : Nat → Int32} : am_MF L xs 119 = am_mk (L, xs) am_S0 119 := rfl
set_option maxRecDepth 100000 in
theorem mf_120 {L : Nat} {xs : Nat → Int32} : am_MF L xs 120 = am_mk (L, xs) am_S0 120 := rfl
set_option maxRecDepth 100000 in
theorem mf_121 {L : Nat} {xs : Nat → Int32} : am_MF L xs 121 = am_mk (L, xs) am_S0 121 := rfl
set_option maxRecDepth 100000 in
theorem mf_122 {L : Nat} {xs : Nat → Int32} : am_MF L xs 122 = am_mk (L, xs) am_S0 122 := rfl
set_option maxRecDepth 100000 in
theorem mf_123 {L : Nat} {xs : Nat → Int32} : am_MF L xs 123 = am_mk (L, xs) am_S0 123 := rfl
set_option maxRecDepth 100000 in
theorem mf_124 {L : Nat} {xs : Nat → Int32} : am_MF L xs 124 = am_mk (L, xs) am_S0 124 := rfl
set_option maxRecDepth 100000 in
theorem mf_125 {L : Nat} {xs : Nat → Int32} : am_MF L xs 125 = am_mk (L, xs) am_S0 125 := rfl
set_option maxRecDepth 100000 in
theorem mf_126 {L : Nat} {xs : Nat → Int32} : am_MF L xs 126 = am_mk (L, xs) am_S0 126 := rfl
set_option maxRecDepth 100000 in
theorem mf_127 {L : Nat} {xs : Nat → Int32} : am_MF L xs 127 = am_mk (L, xs) am_S0 127 := rfl
set_option maxRecDepth 100000 in
theorem mf_128 {L : Nat} {xs : Nat → Int32} : am_MF L xs 128 = am_mk (L, xs) am_S0 128 := rfl
set_option maxRecDepth 100000 in
theorem mf_129 {L : Nat} {xs : Nat → Int32} : am_MF L xs 129 = am_mk (L, xs) am_S0 129 := rfl
set_option maxRecDepth 100000 in
theorem mf_130 {L : Nat} {xs : Nat → Int32} : am_MF L xs 130 = am_mk (L, xs) am_S0 130 := rfl
set_option maxRecDepth 100000 in
theorem mf_131 {L : Nat} {xs : Nat → Int32} : am_MF L xs 131 = am_mk (L, xs) am_S0 131 := rfl
set_option maxRecDepth 100000 in
theorem mf_132 {L : Nat} {xs : Nat → Int32} : am_MF L xs 132 = am_mk (L, xs) am_S0 132 := rfl
set_option maxRecDepth 100000 in
theorem mf_133 {L : Nat} {xs : Nat → Int32} : am_MF L xs 133 = am_mk (L, xs) am_S0 133 := rfl
set_option maxRecDepth 100000 in
theorem mf_134 {L : Nat} {xs : Nat → Int32} : am_MF L xs 134 = am_mk (L, xs) am_S0 134 := rfl
set_option maxRecDepth 100000 in
theorem mf_135 {L : Nat} {xs : Nat → Int32} : am_MF L xs 135 = am_mk (L, xs) am_S0 135 := rfl
set_option maxRecDepth 100000 in
theorem mf_136 {L : Nat} {xs : Nat → Int32} : am_MF L xs 136 = am_mk (L, xs) am_S0 136 := rfl
set_option maxRecDepth 100000 in
theorem mf_137 {L : Nat} {xs : Nat → Int32} : am_MF L xs 137 = am_mk (L, xs) am_S0 137 := rfl
set_option maxRecDepth 100000 in
theorem mf_138 {L : Nat} {xs : Nat → Int32} : am_MF L xs 138 = am_mk (L, xs) am_S0 138 := rfl
set_option maxRecDepth 100000 in
theorem mf_139 {L : Nat} {xs : Nat → Int32} : am_MF L xs 139 = am_mk (L, xs) am_S0 139 := rfl
set_option maxRecDepth 100000 in
theorem mf_140 {L : Nat} {xs : Nat → Int32} : am_MF L xs 140 = am_mk (L, xs) am_S0 140 := rfl
set_option maxRecDepth 100000 in
theorem mf_141 {L : Nat} {xs : Nat → Int32} : am_MF L xs 141 = am_mk (L, xs) am_S0 141 := rfl
set_option maxRecDepth 100000 in
theorem mf_142 {L : Nat} {xs : Nat → Int32} : am_MF L xs 142 = am_mk (L, xs) am_S0 142 := rfl
set_option maxRecDepth 100000 in
theorem mf_143 {L : Nat} {xs : Nat → Int32} : am_MF L xs 143 = am_mk (L, xs) am_S0 143 := rfl
set_option maxRecDepth 100000 in
theorem mf_144 {L : Nat} {xs : Nat → Int32} : am_MF L xs 144 = am_mk (L, xs) am_S0 144 := rfl
set_option maxRecDepth 100000 in
theorem mf_145 {L : Nat} {xs : Nat → Int32} : am_MF L xs 145 = am_mk (L, xs) am_S0 145 := rfl
set_option maxRecDepth 100000 in
theorem mf_146 {L : Nat} {xs : Nat → Int32} : am_MF L xs 146 = am_mk (L, xs) am_S0 146 := rfl
set_option maxRecDepth 100000 in
theorem mf_147 {L : Nat} {xs : Nat → Int32} : am_MF L xs 147 = am_mk (L, xs) am_S0 147 := rfl
set_option maxRecDepth 100000 in
theorem mf_148 {L : Nat} {xs : Nat → Int32} : am_MF L xs 148 = am_mk (L, xs) am_S0 148 := rfl
set_option maxRecDepth 100000 in
theorem mf_149 {L : Nat} {xs : Nat → Int32} : am_MF L xs 149 = am_mk (L, xs) am_S0 149 := rfl
set_option maxRecDepth 100000 in
theorem mf_150 {L : Nat} {xs : Nat → Int32} : am_MF L xs 150 = am_mk (L, xs) am_S0 150 := rfl
set_option maxRecDepth 100000 in
theorem mf_151 {L : Nat} {xs : Nat → Int32} : am_MF L xs 151 = am_mk (L, xs) am_S0 151 := rfl
set_option maxRecDepth 100000 in
theorem mf_152 {L : Nat} {xs : Nat → Int32} : am_MF L xs 152 = am_mk (L, xs) am_S0 152 := rfl
set_option maxRecDepth 100000 in
theorem mf_153 {L : Nat} {xs : Nat → Int32} : am_MF L xs 153 = am_mk (L, xs) am_S0 153 := rfl
set_option maxRecDepth 100000 in
theorem mf_154 {L : Nat} {xs : Nat → Int32} : am_MF L xs 154 = am_mk (L, xs) am_S0 154 := rfl
set_option maxRecDepth 100000 in
theorem mf_155 {L : Nat} {xs : Nat → Int32} : am_MF L xs 155 = am_mk (L, xs) am_S0 155 := rfl
set_option maxRecDepth 100000 in
theorem mf_156 {L : Nat} {xs : Nat → Int32} : am_MF L xs 156 = am_mk (L, xs) am_S0 156 := rfl
set_option maxRecDepth 100000 in
theorem mf_157 {L : Nat} {xs : Nat → Int32} : am_MF L xs 157 = am_mk (L, xs) am_S0 157 := rfl
set_option maxRecDepth 100000 in
theorem mf_158 {L : Nat} {xs : Nat → Int32} : am_MF L xs 158 = am_mk (L, xs) am_S0 158 := rfl
set_option maxRecDepth 100000 in
theorem mf_159 {L : Nat} {xs : Nat → Int32} : am_MF L xs 159 = am_mk (L, xs) am_S0 159 := rfl
set_option maxRecDepth 100000 in
theorem mf_160 {L : Nat} {xs : Nat → Int32} : am_MF L xs 160 = am_mk (L, xs) am_S0 160 := rfl
set_option maxRecDepth 100000 in
theorem mf_161 {L : Nat} {xs : Nat → Int32} : am_MF L xs 161 = am_mk (L, xs) am_S0 161 := rfl
set_option maxRecDepth 100000 in
theorem mf_162 {L : Nat} {xs : Nat → Int32} : am_MF L xs 162 = am_mk (L, xs) am_S0 162 := rfl
set_option maxRecDepth 100000 in
theorem mf_163 {L : Nat} {xs : Nat → Int32} : am_MF L xs 163 = am_mk (L, xs) am_S0 163 := rfl
set_option maxRecDepth 100000 in
theorem mf_164 {L : Nat} {xs : Nat → Int32} : am_MF L xs 164 = am_mk (L, xs) am_S0 164 := rfl
set_option maxRecDepth 100000 in
theorem mf_165 {L : Nat} {xs : Nat → Int32} : am_MF L xs 165 = am_mk (L, xs) am_S0 165 := rfl
set_option maxRecDepth 100000 in
theorem mf_166 {L : Nat} {xs : Nat → Int32} : am_MF L xs 166 = am_mk (L, xs) am_S0 166 := rfl
set_option maxRecDepth 100000 in
theorem mf_167 {L : Nat} {xs : Nat → Int32} : am_MF L xs 167 = am_mk (L, xs) am_S0 167 := rfl
set_option maxRecDepth 100000 in
theorem mf_168 {L : Nat} {xs : Nat → Int32} : am_MF L xs 168 = am_mk (L, xs) am_S0 168 := rfl
set_option maxRecDepth 100000 in
theorem mf_169 {L : Nat} {xs : Nat → Int32} : am_MF L xs 169 = am_mk (L, xs) am_S0 169 := rfl
set_option maxRecDepth 100000 in
theorem mf_170 {L : Nat} {xs : Nat → Int32} : am_MF L xs 170 = am_mk (L, xs) am_S0 170 := rfl
set_option maxRecDepth 100000 in
theorem mf_171 {L : Nat} {xs : Nat → Int32} : am_MF L xs 171 = am_mk (L, xs) am_S0 171 := rfl
set_option maxRecDepth 100000 in
theorem mf_172 {L : Nat} {xs : Nat → Int32} : am_MF L xs 172 = am_mk (L, xs) am_S0 172 := rfl
set_option maxRecDepth 100000 in
theorem mf_173 {L : Nat} {xs : Nat → Int32} : am_MF L xs 173 = am_mk (L, xs) am_S0 173 := rfl
set_option maxRecDepth 100000 in
theorem mf_174 {L : Nat} {xs : Nat → Int32} : am_MF L xs 174 = am_mk (L, xs) am_S0 174 := rfl
set_option maxRecDepth 100000 in
theorem mf_175 {L : Nat} {xs : Nat → Int32} : am_MF L xs 175 = am_mk (L, xs) am_S0 175 := rfl
set_option maxRecDepth 100000 in
theorem mf_176 {L : Nat} {xs : Nat → Int32} : am_MF L xs 176 = am_mk (L, xs) am_S0 176 := rfl
set_option maxRecDepth 100000 in
theorem mf_177 {L : Nat} {xs : Nat → Int32} : am_MF L xs 177 = am_mk (L, xs) am_S0 177 := rfl
set_option maxRecDepth 100000 in
theorem mf_178 {L : Nat} {xs : Nat → Int32} : am_MF L xs 178 = am_mk (L, xs) am_S0 178 := rfl
set_option maxRecDepth 100000 in
theorem mf_179 {L : Nat} {xs : Nat → Int32} : am_MF L xs 179 = am_mk (L, xs) am_S0 179 := rfl
set_option maxRecDepth 100000 in
theorem mf_181 {L : Nat} {xs : Nat → Int32} : am_MF L xs 181 = am_mk (L, xs) am_S0 181 := rfl
set_option maxRecDepth 100000 in
theorem mf_182 {L : Nat} {xs : Nat → Int32} : am_MF L xs 182 = am_mk (L, xs) am_S0 182 := rfl
set_option maxRecDepth 100000 in
theorem mf_183 {L : Nat} {xs : Nat → Int32} : am_MF L xs 183 = am_mk (L, xs) am_S0 183 := rfl
set_option maxRecDepth 100000 in
theorem mf_184 {L : Nat} {xs : Nat → Int32} : am_MF L xs 184 = am_mk (L, xs) am_S0 184 := rfl
set_option maxRecDepth 100000 in
theorem mf_185 {L : Nat} {xs : Nat → Int32} : am_MF L xs 185 = am_mk (L, xs) am_S0 185 := rfl
set_option maxRecDepth 100000 in
theorem mf_186 {L : Nat} {xs : Nat → Int32} : am_MF L xs 186 = am_mk (L, xs) am_S0 186 := rfl
set_option maxRecDepth 100000 in
theorem mf_187 {L : Nat} {xs : Nat → Int32} : am_MF L xs 187 = am_mk (L, xs) am_S0 187 := rfl
set_option maxRecDepth 100000 in
theorem mf_188 {L : Nat} {xs : Nat → Int32} : am_MF L xs 188 = am_mk (L, xs) am_S0 188 := rfl
set_option maxRecDepth 100000 in
theorem mf_189 {L : Nat} {xs : Nat → Int32} : am_MF L xs 189 = am_mk (L, xs) am_S0 189 := rfl
set_option maxRecDepth 100000 in
theorem mf_190 {L : Nat} {xs : Nat → Int32} : am_MF L xs 190 = am_mk (L, xs) am_S0 190 := rfl
set_option maxRecDepth 100000 in
theorem mf_191 {L : Nat} {xs : Nat → Int32} : am_MF L xs 191 = am_mk (L, xs) am_S0 191 := rfl
set_option maxRecDepth 100000 in
theorem mf_192 {L : Nat} {xs : Nat → Int32} : am_MF L xs 192 = am_mk (L, xs) am_S0 192 := rfl
set_option maxRecDepth 100000 in
theorem mf_193 {L : Nat} {xs : Nat → Int32} : am_MF L xs 193 = am_mk (L, xs) am_S0 193 := rfl
set_option maxRecDepth 100000 in
theorem mf_194 {L : Nat} {xs : Nat → Int32} : am_MF L xs 194 = am_mk (L, xs) am_S0 194 := rfl
set_option maxRecDepth 100000 in
theorem mf_195 {L : Nat} {xs : Nat → Int32} : am_MF L xs 195 = am_mk (L, xs) am_S0 195 := rfl
set_option maxRecDepth 100000 in
theorem mf_196 {L : Nat} {xs : Nat → Int32} : am_MF L xs 196 = am_mk (L, xs) am_S0 196 := rfl
set_option maxRecDepth 100000 in
theorem mf_197 {L : Nat} {xs : Nat → Int32} : am_MF L xs 197 = am_mk (L, xs) am_S0 197 := rfl
set_option maxRecDepth 100000 in
theorem mf_198 {L : Nat} {xs : Nat → Int32} : am_MF L xs 198 = am_mk (L, xs) am_S0 198 := rfl
set_option maxRecDepth 100000 in
theorem mf_199 {L : Nat} {xs : Nat → Int32} : am_MF L xs 199 = am_mk (L, xs) am_S0 199 := rfl
set_option maxRecDepth 100000 in
theorem mf_200 {L : Nat} {xs : Nat → Int32} : am_MF L xs 200 = am_mk (L, xs) am_S0 200 := rfl
set_option maxRecDepth 100000 in
theorem mf_201 {L : Nat} {xs : Nat → Int32} : am_MF L xs 201 = am_mk (L, xs) am_S0 201 := rfl
set_option maxRecDepth 100000 in
theorem mf_202 {L : Nat} {xs : Nat → Int32} : am_MF L xs 202 = am_mk (L, xs) am_S0 202 := rfl
set_option maxRecDepth 100000 in
theorem mf_203 {L : Nat} {xs : Nat → Int32} : am_MF L xs 203 = am_mk (L, xs) am_S0 203 := rfl
set_option maxRecDepth 100000 in
theorem mf_204 {L : Nat} {xs : Nat → Int32} : am_MF L xs 204 = am_mk (L, xs) am_S0 204 := rfl
set_option maxRecDepth 100000 in
theorem mf_205 {L : Nat} {xs : Nat → Int32} : am_MF L xs 205 = am_mk (L, xs) am_S0 205 := rfl
set_option maxRecDepth 100000 in
theorem mf_206 {L : Nat} {xs : Nat → Int32} : am_MF L xs 206 = am_mk (L, xs) am_S0 206 := rfl
set_option maxRecDepth 100000 in
theorem mf_207 {L : Nat} {xs : Nat → Int32} : am_MF L xs 207 = am_mk (L, xs) am_S0 207 := rfl
set_option maxRecDepth 100000 in
theorem mf_208 {L : Nat} {xs : Nat → Int32} : am_MF L xs 208 = am_mk (L, xs) am_S0 208 := rfl
set_option maxRecDepth 100000 in
theorem mf_209 {L : Nat} {xs : Nat → Int32} : am_MF L xs 209 = am_mk (L, xs) am_S0 209 := rfl
set_option maxRecDepth 100000 in
theorem mf_180 {L : Nat} {xs : Nat → Int32} : am_MF L xs 180 = am_mk (L, xs) am_S0 180 := congrArg (fun f => some (am_I 0 25 f)) (funext am_recE)
set_option maxRecDepth 100000 in
theorem mf_210 {L : Nat} {xs : Nat → Int32} : am_MF L xs 210 = am_mk (L, xs) am_S0 210 := congrArg (fun f => some (am_J 1 f)) (funext fun k => by by_cases h : k = 0 <;> simp [h] <;> rfl)
theorem am_nmM_hi {M : am_M} {h : Nat} : ∀ {i : Nat}, 12 + 4 * i ≤ h → am_nmM M i h = M h
  | 0, _ => rfl
  | i + 1, hh => by
    unfold am_nmM
    rw [am_up_at, am_up_at, am_up_at, am_up_at, if_neg (by omega), if_neg (by omega), if_neg (by omega), if_neg (by omega)]
    exact am_nmM_hi (by omega)
theorem am_tyM_hi {M : am_M} {h : Nat} : ∀ {i : Nat}, 71 + 2 * i ≤ h → am_tyM M i h = M h
  | 0, _ => rfl
  | i + 1, hh => by
    unfold am_tyM
    rw [am_up_at, am_up_at, if_neg (by omega), if_neg (by omega)]
    exact am_tyM_hi (by omega)
set_option maxRecDepth 100000 in
theorem am_MF_eq {L : Nat} {xs : Nat → Int32} : am_MF L xs = am_mk (L, xs) am_S0 := by
  funext h
  by_cases hh : h < 211
  · exact (am_ltS (am_ltS (am_ltS (am_ltS (am_ltS (am_ltS (am_ltS (am_ltS (am_ltS (am_ltS (am_ltS (am_ltS (am_ltS (am_ltS (am_ltS (am_ltS (am_ltS (am_ltS (am_ltS (am_ltS (am_ltS (am_ltS (am_ltS (am_ltS (am_ltS (am_ltS (am_ltS (am_ltS (am_ltS (am_ltS (am_ltS (am_ltS (am_ltS (am_ltS (am_ltS (am_ltS (am_ltS (am_ltS (am_ltS (am_ltS (am_ltS (am_ltS (am_ltS (am_ltS (am_ltS (am_ltS (am_ltS (am_ltS (am_ltS (am_ltS (am_ltS (am_ltS (am_ltS (am_ltS (am_ltS (am_ltS (am_ltS (am_ltS (am_ltS (am_ltS (am_ltS (am_ltS (am_ltS (am_ltS (am_ltS (am_ltS (am_ltS (am_ltS (am_ltS (am_ltS (am_ltS (am_ltS (am_ltS (am_ltS (am_ltS (am_ltS (am_ltS (am_ltS (am_ltS (am_ltS (am_ltS (am_ltS (am_ltS (am_ltS (am_ltS (am_ltS (am_ltS (am_ltS (am_ltS (am_ltS (am_ltS (am_ltS (am_ltS (am_ltS (am_ltS (am_ltS (am_ltS (am_ltS (am_ltS (am_ltS (am_ltS (am_ltS (am_ltS (am_ltS (am_ltS (am_ltS (am_ltS (am_ltS (am_ltS (am_ltS (am_ltS (am_ltS (am_ltS (am_ltS (am_ltS (am_ltS (am_ltS (am_ltS (am_ltS (am_ltS (am_ltS (am_ltS (am_ltS (am_ltS (am_ltS (am_ltS (am_ltS (am_ltS (am_ltS (am_ltS (am_ltS (am_ltS (am_ltS (am_ltS (am_ltS (am_ltS (am_ltS (am_ltS (am_ltS (am_ltS (am_ltS (am_ltS (am_ltS (am_ltS (am_ltS (am_ltS (am_ltS (am_ltS (am_ltS (am_ltS (am_ltS (am_ltS (am_ltS (am_ltS (am_ltS (am_ltS (am_ltS (am_ltS (am_ltS (am_ltS (am_ltS (am_ltS (am_ltS (am_ltS (am_ltS (am_ltS (am_ltS (am_ltS (am_ltS (am_ltS (am_ltS (am_ltS (am_ltS (am_ltS (am_ltS (am_ltS (am_ltS (am_ltS (am_ltS (am_ltS (am_ltS (am_ltS (am_ltS (am_ltS (am_ltS (am_ltS (am_ltS (am_ltS (am_ltS (am_ltS (am_ltS (am_ltS (am_ltS (am_ltS (am_ltS (am_ltS (am_ltS (am_ltS (am_ltS (am_ltS (am_ltS (am_ltS (am_ltS (am_ltS (am_ltS (am_ltS (am_ltS (am_ltS (am_ltS (am_ltS (am_ltS (am_ltZ) mf_0) mf_1) mf_2) mf_3) mf_4) mf_5) mf_6) mf_7) mf_8) mf_9) mf_10) mf_11) mf_12) mf_13) mf_14) mf_15) mf_16) mf_17) mf_18) mf_19) mf_20) mf_21) mf_22) mf_23) mf_24) mf_25) mf_26) mf_27) mf_28) mf_29) mf_30) mf_31) mf_32) mf_33) mf_34) mf_35) mf_36) mf_37) mf_38) mf_39) mf_40) mf_41) mf_42) mf_43) mf_44) mf_45) mf_46) mf_47) mf_48) mf_49) mf_50) mf_51) mf_52) mf_53) mf_54) mf_55) mf_56) mf_57) mf_58) mf_59) mf_60) mf_61) mf_62) mf_63) mf_64) mf_65) mf_66) mf_67) mf_68) mf_69) mf_70) mf_71) mf_72) mf_73) mf_74) mf_75) mf_76) mf_77) mf_78) mf_79) mf_80) mf_81) mf_82) mf_83) mf_84) mf_85) mf_86) mf_87) mf_88) mf_89) mf_90) mf_91) mf_92) mf_93) mf_94) mf_95) mf_96) mf_97) mf_98) mf_99) mf_100) mf_101) mf_102) mf_103) mf_104) mf_105) mf_106) mf_107) mf_108) mf_109) mf_110) mf_111) mf_112) mf_113) mf_114) mf_115) mf_116) mf_117) mf_118) mf_119) mf_120) mf_121) mf_122) mf_123) mf_124) mf_125) mf_126) mf_127) mf_128) mf_129) mf_130) mf_131) mf_132) mf_133) mf_134) mf_135) mf_136) mf_137) mf_138) mf_139) mf_140) mf_141) mf_142) mf_143) mf_144) mf_145) mf_146) mf_147) mf_148) mf_149) mf_150) mf_151) mf_152) mf_153) mf_154) mf_155) mf_156) mf_157) mf_158) mf_159) mf_160) mf_161) mf_162) mf_163) mf_164) mf_165) mf_166) mf_167) mf_168) mf_169) mf_170) mf_171) mf_172) mf_173) mf_174) mf_175) mf_176) mf_177) mf_178) mf_179) mf_180) mf_181) mf_182) mf_183) mf_184) mf_185) mf_186) mf_187) mf_188) mf_189) mf_190) mf_191) mf_192) mf_193) mf_194) mf_195) mf_196) mf_197) mf_198) mf_199) mf_200) mf_201) mf_202) mf_203) mf_204) mf_205) mf_206) mf_207) mf_208) mf_209) mf_210 : ∀ k, k < 211 → am_MF L xs k = am_mk (L, xs) am_S0 k) h hh
  · have e : am_mk (L, xs) am_S0 h = am_M0 L xs h := by
      unfold am_mk am_sh
      rw [List.getElem?_eq_none (by show 211 ≤ h; omega)]
    rw [e]
    unfold am_MF
    simp (disch := omega) only [am_up_sn, am_tyM_hi, am_nmM_hi]
set_option maxRecDepth 100000 in
set_option maxHeartbeats 8000000 in
theorem law_start {d L : Nat} {xs : Nat → Int32} {Q : Option Value → am_N → am_M → Prop} (hd : 12 ≤ d) : am_AW d 149 (0, am_ent 7 [.ref 100001], [], am_n0, am_M0 L xs) Q = am_AW d 149 (23, [.ref 100001, .ref 0, .ref 179, .ref 210, .int (am_z 0), am_junk, am_junk], [], (211, 211, 66674, false), am_mk (L, xs) am_S0) Q := by
  show am_AW d 149 (0, [.ref 100001, am_junk, am_junk, am_junk, am_junk, am_junk, am_junk], [], (0, 0, 0, true), am_M0 L xs) Q = _
  rw [← am_MF_eq]
  simp (config := { maxSteps := 2000000 }) (disch := omega) only [w149_0, w149_3, w149_3i, w149_4, w149_7, w149_8, w149_11, w149_11i, w149_12, w149_15, w149_16, w149_17, w149_19, w149_20, w149_21, w149_25, w149_26, w149_27, w149_29, w149_30, w149_33, w149_34, w149_36, w149_37, w149_39, w149_40, w149_92, w149_93, w149_94, w149_96, w149_97, w149_98, w149_99, w149_100, w149_102, w149_103, w149_104, w149_105, w149_106, w149_108, w149_109, w149_110, w149_111, w149_112, w149_114, w149_115, w149_116, w149_117, w149_118, w149_120, w149_121, w149_122, w149_123, w149_124, w149_127, w149_129, w149_130, w149_131, w149_133, w149_134, w149_135, w149_136, w149_137, w149_139, w149_140, w149_141, w149_142, w149_143, w149_145, w149_146, w149_147, w149_148, w149_149, w149_151, w149_152, w149_153, w149_154, w149_155, w149_157, w149_158, w149_159, w149_160, w149_163, w149_165, w149_166, w149_169, w149_171, w149_174, w149_175, w149_176, w149_178, w149_181, w149_182, w149_183, w149_184, w149_186, w149_187, w149_188, w149_191, w149_192, w149_193, w149_196, w149_197, w149_200, w149_201, w149_204, w149_207, w149_208, w149_209, w149_210, w149_211, w149_213, w149_214, w149_215, w149_216, w149_217, w149_220, w149_222, w149_223, w149_224, w149_226, w149_227, w149_228, w149_229, w149_232, w149_234, w149_235, w149_238, w149_240, w149_243, w149_244, w149_245, w149_247, w149_250, w149_251, w149_252, w149_253, w149_255, w149_256, w149_257, w149_260, w149_261, w149_262, w149_265, w149_266, w149_269, w149_270, w149_273, w149_276, w149_277, w149_278, w149_279, w149_282, w149_283, w149_286, w149_289, w149_290, w149_291, w149_292, w149_293, w149_295, w149_296, w149_297, w149_298, w149_299, w149_301, w149_302, w149_303, w149_304, w149_305, w149_308, w149_310, w149_311, w149_312, w149_314, w149_315, w149_316, w149_317, w149_318, w149_320, w149_321, w149_322, w149_323, w149_326, w149_328, w149_329, w149_332, w149_334, w149_337, w149_338, w149_339, w149_341, w149_344, w149_345, w149_346, w149_347, w149_349, w149_350, w149_351, w149_354, w149_355, w149_356, w149_359, w149_360, w149_363, w149_364, w149_367, w149_370, w149_371, w149_372, w149_373, w149_374, w149_376, w149_377, w149_378, w149_379, w149_382, w149_383, w149_384, w149_386, w149_387, w149_388, w149_389, w149_392, w149_395, w149_396, w149_397, w149_398, w149_399, w149_401, w149_402, w149_403, w149_404, w149_407, w149_408, w149_409, w149_411, w149_412, w149_413, w149_414, w149_417, w149_420, w149_421, w149_422, w149_425, w149_428, w149_429, am_fit_zc, am_fld, am_setf, am_ald, am_ast, am_aald, am_aast, am_len, am_isO, am_isR, am_okA, am_rowC, am_fit_z0, am_fit_z1, am_fit_i, am_fit_r, am_fit_n, exists_eq_left', exists_eq_left, Option.some.injEq, true_and, and_true, List.getElem?_cons_zero, List.getElem?_cons_succ, List.set_cons_zero, List.set_cons_succ, List.length_cons, List.length_nil, List.drop_succ_cons, List.drop_zero, List.all_cons, List.all_nil, am_c1, Bool.and_true, Bool.true_and, Bool.and_self, decide_true, decide_false, if_true, if_false, beq_self_eq_true, Nat.reduceAdd, Nat.reduceLeDiff, Nat.reduceLT, Nat.reduceEqDiff, Nat.reduceSub, ite_true, ite_false, and_self, eq_self, am_z_add, am_z_sub, am_z_mul, Int.reduceAdd, Int.reduceSub, Int.reduceLT, Int.reduceLE, Int.reduceEq, Int.reduceToNat, Int.reduceNeg, am_then_i, am_then_r, am_then_v, Nat.add_eq, Nat.zero_add, Nat.add_zero, am_up_se, am_up_sn, am_up_same, am_up_swapO, am_up_swapR, am_up_swapI, am_Do_0, am_then_nv, am_ne1, am_ne2, am_z_lt, am_z_nat, am_z_in, do_newRow, do_newWalk, am_tyM_lo, am_nmM_lo, do_newPL, do_newM]
  rfl
