/-! the memory as a function of integers -/
abbrev am_St : Type := Nat → Int → Int
def am_m (X : Nat × (Nat → Int32)) (S : am_St) : am_M := am_mk X (fun h k => S h k)
def am_set (S : am_St) (h : Nat) (k v : Int) : am_St := fun h' k' => if h' = h ∧ k' = k then v else S h' k'
theorem am_set_se {S : am_St} {h : Nat} {k v : Int} : am_set S h k v h k = v := if_pos ⟨rfl, rfl⟩
theorem am_set_sk {S : am_St} {h : Nat} {k k' v : Int} (hk : k' ≠ k) : am_set S h k v h k' = S h k' := if_neg (fun q => hk q.2)
theorem am_set_sh {S : am_St} {h h' : Nat} {k v : Int} (hh : h' ≠ h) : am_set S h k v h' = S h' := funext fun _ => if_neg (fun q => hh q.1)
theorem am_set_at {S : am_St} {h h' : Nat} {k k' v : Int} : am_set S h k v h' k' = if h' = h ∧ k' = k then v else S h' k' := rfl
theorem am_up_m {X : Nat × (Nat → Int32)} {S S' : am_St} {h : Nat} {c : am_C} (h1 : am_sh h (fun k => S' h k) = some c) (h2 : ∀ h', h' ≠ h → S' h' = S h') : am_up (am_m X S) h c = am_m X S' := by
  funext j
  unfold am_up
  by_cases hj : j = h
  · subst hj
    rw [if_pos rfl]
    unfold am_m am_mk
    simp only [h1]
  · rw [if_neg hj]
    unfold am_m am_mk
    simp only [h2 j hj]
def am_ar (t h n : Nat) : Prop := n ≤ 100000 ∧ ∀ g, am_sh h g = some (am_I t n (fun k => am_z (g k)))
theorem am_ar_e {X : Nat × (Nat → Int32)} {S : am_St} {t n h : Nat} (hs : am_ar t h n) : am_m X S h = some (am_I t n (fun k => am_z (S h k))) := by
  unfold am_m am_mk
  simp only [hs.2]
theorem am_ald_m {X : Nat × (Nat → Int32)} {S : am_St} {t n h : Nat} {i : Int} (hs : am_ar t h n) (h0 : 0 ≤ i) (h1 : i < n) : am_ald t (am_m X S) h (am_z i) = some (am_z (S h i)) := by
  have hn := hs.1
  unfold am_ald
  rw [am_ar_e hs]
  show (if t = t ∧ am_in (am_z i) n = true then some (am_z (S h ((am_z i).toNatClampNeg : Nat))) else none) = _
  rw [if_pos ⟨rfl, am_z_in h0 h1 (by omega)⟩, am_z_nat (by omega) (by omega), Int.toNat_of_nonneg h0]
theorem am_ast_m {X : Nat × (Nat → Int32)} {S : am_St} {t n h : Nat} {i v : Int} (hs : am_ar t h n) (h0 : 0 ≤ i) (h1 : i < n) : am_ast t (am_m X S) h (am_z i) (am_z v) = some (am_m X (am_set S h i v)) := by
  have hn := hs.1
  unfold am_ast
  rw [am_ar_e hs]
  show (if t = t ∧ am_in (am_z i) n = true then some (am_up (am_m X S) h (am_I t n (upd (fun k => am_z (S h k)) (am_z i).toNatClampNeg (am_z v)))) else none) = _
  rw [if_pos ⟨rfl, am_z_in h0 h1 (by omega)⟩, am_z_nat (by omega) (by omega)]
  refine congrArg some (am_up_m ?_ (fun _ hh => am_set_sh hh))
  rw [hs.2]
  refine congrArg (fun f => some (am_I t n f)) (funext fun k => ?_)
  unfold upd
  rw [am_set_at]
  by_cases hk : k = i.toNat
  · rw [if_pos hk, if_pos ⟨rfl, by omega⟩]
  · rw [if_neg hk, if_neg (fun q => hk (by have := q.2; omega))]
theorem am_len_m {X : Nat × (Nat → Int32)} {S : am_St} {t n h : Nat} (hs : am_ar t h n) : am_len (am_m X S) h = some (am_z n) := by
  unfold am_len
  rw [am_ar_e hs]
  exact congrArg some am_z_len
def am_rw (r c : Nat) : Prop := (∀ g, am_sh r g = some (am_O 0 [.ref (r + 1), .int (am_z (g 1)), .int (am_z (g 2))])) ∧ am_ar 0 (r + 1) c
def am_wa (r : Nat) : Prop := (∀ g, am_sh r g = some (am_O 1 [.ref (r + 1), .int (am_z (g 1)), .int (am_z (g 2))])) ∧ am_ar 0 (r + 1) 202
theorem am_rw_e {X : Nat × (Nat → Int32)} {S : am_St} {r c : Nat} (hs : am_rw r c) : am_m X S r = some (am_O 0 [.ref (r + 1), .int (am_z (S r 1)), .int (am_z (S r 2))]) := by
  unfold am_m am_mk
  simp only [hs.1]
  rfl
theorem am_wa_e {X : Nat × (Nat → Int32)} {S : am_St} {r : Nat} (hs : am_wa r) : am_m X S r = some (am_O 1 [.ref (r + 1), .int (am_z (S r 1)), .int (am_z (S r 2))]) := by
  unfold am_m am_mk
  simp only [hs.1]
  rfl
theorem rw_f0 {X : Nat × (Nat → Int32)} {S : am_St} {r c : Nat} (hs : am_rw r c) : am_fld (am_m X S) r 0 0 = some (.ref (r + 1)) := by
  unfold am_fld
  rw [am_rw_e hs]
  rfl
theorem rw_f1 {X : Nat × (Nat → Int32)} {S : am_St} {r c : Nat} (hs : am_rw r c) : am_fld (am_m X S) r 0 1 = some (.int (am_z (S r 1))) := by
  unfold am_fld
  rw [am_rw_e hs]
  rfl
theorem rw_s1 {v : Int} {X : Nat × (Nat → Int32)} {S : am_St} {r c : Nat} (hs : am_rw r c) : am_setf (am_m X S) r 0 1 (.int (am_z v)) = some (am_m X (am_set S r 1 v)) := by
  unfold am_setf
  rw [am_rw_e hs]
  show some (am_up (am_m X S) r (am_O 0 [.ref (r + 1), .int (am_z v), .int (am_z (S r 2))])) = _
  refine congrArg some (am_up_m ?_ (fun _ hh => am_set_sh hh))
  rw [hs.1]
  simp only [am_set_at, true_and, Int.reduceEq, if_true, if_false, Int.cast_ofNat_Int]
  try rfl
theorem rw_f2 {X : Nat × (Nat → Int32)} {S : am_St} {r c : Nat} (hs : am_rw r c) : am_fld (am_m X S) r 0 2 = some (.int (am_z (S r 2))) := by
  unfold am_fld
  rw [am_rw_e hs]
  rfl
theorem rw_s2 {v : Int} {X : Nat × (Nat → Int32)} {S : am_St} {r c : Nat} (hs : am_rw r c) : am_setf (am_m X S) r 0 2 (.int (am_z v)) = some (am_m X (am_set S r 2 v)) := by
  unfold am_setf
  rw [am_rw_e hs]
  show some (am_up (am_m X S) r (am_O 0 [.ref (r + 1), .int (am_z (S r 1)), .int (am_z v)])) = _
  refine congrArg some (am_up_m ?_ (fun _ hh => am_set_sh hh))
  rw [hs.1]
  simp only [am_set_at, true_and, Int.reduceEq, if_true, if_false, Int.cast_ofNat_Int]
  try rfl
theorem rw_o {X : Nat × (Nat → Int32)} {S : am_St} {r c : Nat} (hs : am_rw r c) {as : List Value} : am_isO (am_m X S) (.ref r :: as) 0 = true := by
  unfold am_isO
  simp only [am_rw_e hs]
  rfl
theorem wl_f0 {X : Nat × (Nat → Int32)} {S : am_St} {r : Nat} (hs : am_wa r) : am_fld (am_m X S) r 1 0 = some (.ref (r + 1)) := by
  unfold am_fld
  rw [am_wa_e hs]
  rfl
theorem wl_f1 {X : Nat × (Nat → Int32)} {S : am_St} {r : Nat} (hs : am_wa r) : am_fld (am_m X S) r 1 1 = some (.int (am_z (S r 1))) := by
  unfold am_fld
  rw [am_wa_e hs]
  rfl
theorem wl_s1 {v : Int} {X : Nat × (Nat → Int32)} {S : am_St} {r : Nat} (hs : am_wa r) : am_setf (am_m X S) r 1 1 (.int (am_z v)) = some (am_m X (am_set S r 1 v)) := by
  unfold am_setf
  rw [am_wa_e hs]
  show some (am_up (am_m X S) r (am_O 1 [.ref (r + 1), .int (am_z v), .int (am_z (S r 2))])) = _
  refine congrArg some (am_up_m ?_ (fun _ hh => am_set_sh hh))
  rw [hs.1]
  simp only [am_set_at, true_and, Int.reduceEq, if_true, if_false, Int.cast_ofNat_Int]
  try rfl
theorem wl_f2 {X : Nat × (Nat → Int32)} {S : am_St} {r : Nat} (hs : am_wa r) : am_fld (am_m X S) r 1 2 = some (.int (am_z (S r 2))) := by
  unfold am_fld
  rw [am_wa_e hs]
  rfl
theorem wl_s2 {v : Int} {X : Nat × (Nat → Int32)} {S : am_St} {r : Nat} (hs : am_wa r) : am_setf (am_m X S) r 1 2 (.int (am_z v)) = some (am_m X (am_set S r 2 v)) := by
  unfold am_setf
  rw [am_wa_e hs]
  show some (am_up (am_m X S) r (am_O 1 [.ref (r + 1), .int (am_z (S r 1)), .int (am_z v)])) = _
  refine congrArg some (am_up_m ?_ (fun _ hh => am_set_sh hh))
  rw [hs.1]
  simp only [am_set_at, true_and, Int.reduceEq, if_true, if_false, Int.cast_ofNat_Int]
  try rfl
theorem wl_o {X : Nat × (Nat → Int32)} {S : am_St} {r : Nat} (hs : am_wa r) {as : List Value} : am_isO (am_m X S) (.ref r :: as) 1 = true := by
  unfold am_isO
  simp only [am_wa_e hs]
  rfl
theorem o_0 {X : Nat × (Nat → Int32)} {S : am_St} {as : List Value} : am_isO (am_m X S) (.ref 0 :: as) 9 = true := rfl
theorem f_0_0 {X : Nat × (Nat → Int32)} {S : am_St} : am_fld (am_m X S) 0 9 0 = some (.ref 1) := rfl
theorem f_0_1 {X : Nat × (Nat → Int32)} {S : am_St} : am_fld (am_m X S) 0 9 1 = some (.int (am_z (S 0 1))) := rfl
theorem s_0_1 {X : Nat × (Nat → Int32)} {S : am_St} {v : Int} : am_setf (am_m X S) 0 9 1 (.int (am_z v)) = some (am_m X (am_set S 0 1 v)) := by
  show some (am_up (am_m X S) 0 (am_O 9 [.ref 1, .int (am_z v), .ref 2, .ref 3, .ref 8, .ref 52, .ref 63, .ref 66, .ref 44, .ref 48, .ref 50])) = _
  exact congrArg some (am_up_m rfl (fun _ hh => am_set_sh hh))
theorem f_0_2 {X : Nat × (Nat → Int32)} {S : am_St} : am_fld (am_m X S) 0 9 2 = some (.ref 2) := rfl
theorem f_0_3 {X : Nat × (Nat → Int32)} {S : am_St} : am_fld (am_m X S) 0 9 3 = some (.ref 3) := rfl
theorem f_0_4 {X : Nat × (Nat → Int32)} {S : am_St} : am_fld (am_m X S) 0 9 4 = some (.ref 8) := rfl
theorem f_0_5 {X : Nat × (Nat → Int32)} {S : am_St} : am_fld (am_m X S) 0 9 5 = some (.ref 52) := rfl
theorem f_0_6 {X : Nat × (Nat → Int32)} {S : am_St} : am_fld (am_m X S) 0 9 6 = some (.ref 63) := rfl
theorem f_0_7 {X : Nat × (Nat → Int32)} {S : am_St} : am_fld (am_m X S) 0 9 7 = some (.ref 66) := rfl
theorem f_0_8 {X : Nat × (Nat → Int32)} {S : am_St} : am_fld (am_m X S) 0 9 8 = some (.ref 44) := rfl
theorem f_0_9 {X : Nat × (Nat → Int32)} {S : am_St} : am_fld (am_m X S) 0 9 9 = some (.ref 48) := rfl
theorem f_0_10 {X : Nat × (Nat → Int32)} {S : am_St} : am_fld (am_m X S) 0 9 10 = some (.ref 50) := rfl
theorem o_2 {X : Nat × (Nat → Int32)} {S : am_St} {as : List Value} : am_isO (am_m X S) (.ref 2 :: as) 2 = true := rfl
theorem f_2_0 {X : Nat × (Nat → Int32)} {S : am_St} : am_fld (am_m X S) 2 2 0 = some (.int (am_z (S 2 0))) := rfl
theorem s_2_0 {X : Nat × (Nat → Int32)} {S : am_St} {v : Int} : am_setf (am_m X S) 2 2 0 (.int (am_z v)) = some (am_m X (am_set S 2 0 v)) := by
  show some (am_up (am_m X S) 2 (am_O 2 [.int (am_z v), .int (am_z (S 2 1))])) = _
  exact congrArg some (am_up_m rfl (fun _ hh => am_set_sh hh))
theorem f_2_1 {X : Nat × (Nat → Int32)} {S : am_St} : am_fld (am_m X S) 2 2 1 = some (.int (am_z (S 2 1))) := rfl
theorem s_2_1 {X : Nat × (Nat → Int32)} {S : am_St} {v : Int} : am_setf (am_m X S) 2 2 1 (.int (am_z v)) = some (am_m X (am_set S 2 1 v)) := by
  show some (am_up (am_m X S) 2 (am_O 2 [.int (am_z (S 2 0)), .int (am_z v)])) = _
  exact congrArg some (am_up_m rfl (fun _ hh => am_set_sh hh))
theorem o_3 {X : Nat × (Nat → Int32)} {S : am_St} {as : List Value} : am_isO (am_m X S) (.ref 3 :: as) 4 = true := rfl
theorem f_3_0 {X : Nat × (Nat → Int32)} {S : am_St} : am_fld (am_m X S) 3 4 0 = some (.ref 4) := rfl
theorem f_3_1 {X : Nat × (Nat → Int32)} {S : am_St} : am_fld (am_m X S) 3 4 1 = some (.ref 6) := rfl
theorem o_8 {X : Nat × (Nat → Int32)} {S : am_St} {as : List Value} : am_isO (am_m X S) (.ref 8 :: as) 3 = true := rfl
theorem f_8_0 {X : Nat × (Nat → Int32)} {S : am_St} : am_fld (am_m X S) 8 3 0 = some (.ref 9) := rfl
theorem f_8_1 {X : Nat × (Nat → Int32)} {S : am_St} : am_fld (am_m X S) 8 3 1 = some (.ref 10) := rfl
theorem f_8_2 {X : Nat × (Nat → Int32)} {S : am_St} : am_fld (am_m X S) 8 3 2 = some (.ref 11) := rfl
theorem f_8_3 {X : Nat × (Nat → Int32)} {S : am_St} : am_fld (am_m X S) 8 3 3 = some (.int (am_z (S 8 3))) := rfl
theorem s_8_3 {X : Nat × (Nat → Int32)} {S : am_St} {v : Int} : am_setf (am_m X S) 8 3 3 (.int (am_z v)) = some (am_m X (am_set S 8 3 v)) := by
  show some (am_up (am_m X S) 8 (am_O 3 [.ref 9, .ref 10, .ref 11, .int (am_z v)])) = _
  exact congrArg some (am_up_m rfl (fun _ hh => am_set_sh hh))
theorem o_44 {X : Nat × (Nat → Int32)} {S : am_St} {as : List Value} : am_isO (am_m X S) (.ref 44 :: as) 8 = true := rfl
theorem f_44_0 {X : Nat × (Nat → Int32)} {S : am_St} : am_fld (am_m X S) 44 8 0 = some (.ref 45) := rfl
theorem f_44_1 {X : Nat × (Nat → Int32)} {S : am_St} : am_fld (am_m X S) 44 8 1 = some (.int (am_z (S 44 1))) := rfl
theorem s_44_1 {X : Nat × (Nat → Int32)} {S : am_St} {v : Int} : am_setf (am_m X S) 44 8 1 (.int (am_z v)) = some (am_m X (am_set S 44 1 v)) := by
  show some (am_up (am_m X S) 44 (am_O 8 [.ref 45, .int (am_z v), .int (am_z (S 44 2)), .ref 46])) = _
  exact congrArg some (am_up_m rfl (fun _ hh => am_set_sh hh))
theorem f_44_2 {X : Nat × (Nat → Int32)} {S : am_St} : am_fld (am_m X S) 44 8 2 = some (.int (am_z (S 44 2))) := rfl
theorem s_44_2 {X : Nat × (Nat → Int32)} {S : am_St} {v : Int} : am_setf (am_m X S) 44 8 2 (.int (am_z v)) = some (am_m X (am_set S 44 2 v)) := by
  show some (am_up (am_m X S) 44 (am_O 8 [.ref 45, .int (am_z (S 44 1)), .int (am_z v), .ref 46])) = _
  exact congrArg some (am_up_m rfl (fun _ hh => am_set_sh hh))
theorem f_44_3 {X : Nat × (Nat → Int32)} {S : am_St} : am_fld (am_m X S) 44 8 3 = some (.ref 46) := rfl
theorem o_52 {X : Nat × (Nat → Int32)} {S : am_St} {as : List Value} : am_isO (am_m X S) (.ref 52 :: as) 5 = true := rfl
theorem f_52_0 {X : Nat × (Nat → Int32)} {S : am_St} : am_fld (am_m X S) 52 5 0 = some (.ref 8) := rfl
theorem f_52_1 {X : Nat × (Nat → Int32)} {S : am_St} : am_fld (am_m X S) 52 5 1 = some (.ref 2) := rfl
theorem f_52_2 {X : Nat × (Nat → Int32)} {S : am_St} : am_fld (am_m X S) 52 5 2 = some (.ref 53) := rfl
theorem f_52_3 {X : Nat × (Nat → Int32)} {S : am_St} : am_fld (am_m X S) 52 5 3 = some (.ref 55) := rfl
theorem f_52_4 {X : Nat × (Nat → Int32)} {S : am_St} : am_fld (am_m X S) 52 5 4 = some (.ref 56) := rfl
theorem f_52_5 {X : Nat × (Nat → Int32)} {S : am_St} : am_fld (am_m X S) 52 5 5 = some (.int (am_z (S 52 5))) := rfl
theorem s_52_5 {X : Nat × (Nat → Int32)} {S : am_St} {v : Int} : am_setf (am_m X S) 52 5 5 (.int (am_z v)) = some (am_m X (am_set S 52 5 v)) := by
  show some (am_up (am_m X S) 52 (am_O 5 [.ref 8, .ref 2, .ref 53, .ref 55, .ref 56, .int (am_z v), .int (am_z (S 52 6)), .int (am_z (S 52 7)), .int (am_z (S 52 8)), .int (am_z (S 52 9)), .ref 57, .ref 58, .ref 59, .ref 60, .ref 61, .ref 62, .int (am_z (S 52 16))])) = _
  exact congrArg some (am_up_m rfl (fun _ hh => am_set_sh hh))
theorem f_52_6 {X : Nat × (Nat → Int32)} {S : am_St} : am_fld (am_m X S) 52 5 6 = some (.int (am_z (S 52 6))) := rfl
theorem s_52_6 {X : Nat × (Nat → Int32)} {S : am_St} {v : Int} : am_setf (am_m X S) 52 5 6 (.int (am_z v)) = some (am_m X (am_set S 52 6 v)) := by
  show some (am_up (am_m X S) 52 (am_O 5 [.ref 8, .ref 2, .ref 53, .ref 55, .ref 56, .int (am_z (S 52 5)), .int (am_z v), .int (am_z (S 52 7)), .int (am_z (S 52 8)), .int (am_z (S 52 9)), .ref 57, .ref 58, .ref 59, .ref 60, .ref 61, .ref 62, .int (am_z (S 52 16))])) = _
  exact congrArg some (am_up_m rfl (fun _ hh => am_set_sh hh))
theorem f_52_7 {X : Nat × (Nat → Int32)} {S : am_St} : am_fld (am_m X S) 52 5 7 = some (.int (am_z (S 52 7))) := rfl
theorem s_52_7 {X : Nat × (Nat → Int32)} {S : am_St} {v : Int} : am_setf (am_m X S) 52 5 7 (.int (am_z v)) = some (am_m X (am_set S 52 7 v)) := by
  show some (am_up (am_m X S) 52 (am_O 5 [.ref 8, .ref 2, .ref 53, .ref 55, .ref 56, .int (am_z (S 52 5)), .int (am_z (S 52 6)), .int (am_z v), .int (am_z (S 52 8)), .int (am_z (S 52 9)), .ref 57, .ref 58, .ref 59, .ref 60, .ref 61, .ref 62, .int (am_z (S 52 16))])) = _
  exact congrArg some (am_up_m rfl (fun _ hh => am_set_sh hh))
theorem f_52_8 {X : Nat × (Nat → Int32)} {S : am_St} : am_fld (am_m X S) 52 5 8 = some (.int (am_z (S 52 8))) := rfl
theorem s_52_8 {X : Nat × (Nat → Int32)} {S : am_St} {v : Int} : am_setf (am_m X S) 52 5 8 (.int (am_z v)) = some (am_m X (am_set S 52 8 v)) := by
  show some (am_up (am_m X S) 52 (am_O 5 [.ref 8, .ref 2, .ref 53, .ref 55, .ref 56, .int (am_z (S 52 5)), .int (am_z (S 52 6)), .int (am_z (S 52 7)), .int (am_z v), .int (am_z (S 52 9)), .ref 57, .ref 58, .ref 59, .ref 60, .ref 61, .ref 62, .int (am_z (S 52 16))])) = _
  exact congrArg some (am_up_m rfl (fun _ hh => am_set_sh hh))
theorem f_52_9 {X : Nat × (Nat → Int32)} {S : am_St} : am_fld (am_m X S) 52 5 9 = some (.int (am_z (S 52 9))) := rfl
theorem s_52_9 {X : Nat × (Nat → Int32)} {S : am_St} {v : Int} : am_setf (am_m X S) 52 5 9 (.int (am_z v)) = some (am_m X (am_set S 52 9 v)) := by
  show some (am_up (am_m X S) 52 (am_O 5 [.ref 8, .ref 2, .ref 53, .ref 55, .ref 56, .int (am_z (S 52 5)), .int (am_z (S 52 6)), .int (am_z (S 52 7)), .int (am_z (S 52 8)), .int (am_z v), .ref 57, .ref 58, .ref 59, .ref 60, .ref 61, .ref 62, .int (am_z (S 52 16))])) = _
  exact congrArg some (am_up_m rfl (fun _ hh => am_set_sh hh))
theorem f_52_10 {X : Nat × (Nat → Int32)} {S : am_St} : am_fld (am_m X S) 52 5 10 = some (.ref 57) := rfl
theorem f_52_11 {X : Nat × (Nat → Int32)} {S : am_St} : am_fld (am_m X S) 52 5 11 = some (.ref 58) := rfl
theorem f_52_12 {X : Nat × (Nat → Int32)} {S : am_St} : am_fld (am_m X S) 52 5 12 = some (.ref 59) := rfl
theorem f_52_13 {X : Nat × (Nat → Int32)} {S : am_St} : am_fld (am_m X S) 52 5 13 = some (.ref 60) := rfl
theorem f_52_14 {X : Nat × (Nat → Int32)} {S : am_St} : am_fld (am_m X S) 52 5 14 = some (.ref 61) := rfl
theorem f_52_15 {X : Nat × (Nat → Int32)} {S : am_St} : am_fld (am_m X S) 52 5 15 = some (.ref 62) := rfl
theorem f_52_16 {X : Nat × (Nat → Int32)} {S : am_St} : am_fld (am_m X S) 52 5 16 = some (.int (am_z (S 52 16))) := rfl
theorem s_52_16 {X : Nat × (Nat → Int32)} {S : am_St} {v : Int} : am_setf (am_m X S) 52 5 16 (.int (am_z v)) = some (am_m X (am_set S 52 16 v)) := by
  show some (am_up (am_m X S) 52 (am_O 5 [.ref 8, .ref 2, .ref 53, .ref 55, .ref 56, .int (am_z (S 52 5)), .int (am_z (S 52 6)), .int (am_z (S 52 7)), .int (am_z (S 52 8)), .int (am_z (S 52 9)), .ref 57, .ref 58, .ref 59, .ref 60, .ref 61, .ref 62, .int (am_z v)])) = _
  exact congrArg some (am_up_m rfl (fun _ hh => am_set_sh hh))
theorem o_63 {X : Nat × (Nat → Int32)} {S : am_St} {as : List Value} : am_isO (am_m X S) (.ref 63 :: as) 6 = true := rfl
theorem f_63_0 {X : Nat × (Nat → Int32)} {S : am_St} : am_fld (am_m X S) 63 6 0 = some (.ref 8) := rfl
theorem f_63_1 {X : Nat × (Nat → Int32)} {S : am_St} : am_fld (am_m X S) 63 6 1 = some (.ref 3) := rfl
theorem f_63_2 {X : Nat × (Nat → Int32)} {S : am_St} : am_fld (am_m X S) 63 6 2 = some (.ref 64) := rfl
theorem o_66 {X : Nat × (Nat → Int32)} {S : am_St} {as : List Value} : am_isO (am_m X S) (.ref 66 :: as) 7 = true := rfl
theorem f_66_0 {X : Nat × (Nat → Int32)} {S : am_St} : am_fld (am_m X S) 66 7 0 = some (.ref 52) := rfl
theorem f_66_1 {X : Nat × (Nat → Int32)} {S : am_St} : am_fld (am_m X S) 66 7 1 = some (.ref 53) := rfl
theorem f_66_2 {X : Nat × (Nat → Int32)} {S : am_St} : am_fld (am_m X S) 66 7 2 = some (.ref 8) := rfl
theorem f_66_3 {X : Nat × (Nat → Int32)} {S : am_St} : am_fld (am_m X S) 66 7 3 = some (.ref 63) := rfl
theorem f_66_4 {X : Nat × (Nat → Int32)} {S : am_St} : am_fld (am_m X S) 66 7 4 = some (.ref 3) := rfl
theorem f_66_5 {X : Nat × (Nat → Int32)} {S : am_St} : am_fld (am_m X S) 66 7 5 = some (.ref 2) := rfl
theorem f_66_6 {X : Nat × (Nat → Int32)} {S : am_St} : am_fld (am_m X S) 66 7 6 = some (.ref 67) := rfl
theorem f_66_7 {X : Nat × (Nat → Int32)} {S : am_St} : am_fld (am_m X S) 66 7 7 = some (.ref 68) := rfl
theorem f_66_8 {X : Nat × (Nat → Int32)} {S : am_St} : am_fld (am_m X S) 66 7 8 = some (.ref 70) := rfl
theorem f_66_9 {X : Nat × (Nat → Int32)} {S : am_St} : am_fld (am_m X S) 66 7 9 = some (.int (am_z (S 66 9))) := rfl
theorem s_66_9 {X : Nat × (Nat → Int32)} {S : am_St} {v : Int} : am_setf (am_m X S) 66 7 9 (.int (am_z v)) = some (am_m X (am_set S 66 9 v)) := by
  show some (am_up (am_m X S) 66 (am_O 7 [.ref 52, .ref 53, .ref 8, .ref 63, .ref 3, .ref 2, .ref 67, .ref 68, .ref 70, .int (am_z v)])) = _
  exact congrArg some (am_up_m rfl (fun _ hh => am_set_sh hh))
theorem o_179 {X : Nat × (Nat → Int32)} {S : am_St} {as : List Value} : am_isO (am_m X S) (.ref 179 :: as) 10 = true := rfl
theorem f_179_0 {X : Nat × (Nat → Int32)} {S : am_St} : am_fld (am_m X S) 179 10 0 = some (.ref 180) := rfl
theorem f_179_1 {X : Nat × (Nat → Int32)} {S : am_St} : am_fld (am_m X S) 179 10 1 = some (.int (am_z (S 179 1))) := rfl
theorem s_179_1 {X : Nat × (Nat → Int32)} {S : am_St} {v : Int} : am_setf (am_m X S) 179 10 1 (.int (am_z v)) = some (am_m X (am_set S 179 1 v)) := by
  show some (am_up (am_m X S) 179 (am_O 10 [.ref 180, .int (am_z v), .ref 181, .int (am_z (S 179 3)), .int (am_z (S 179 4)), .ref 182, .int (am_z (S 179 6)), .int (am_z (S 179 7)), .ref 183, .ref 184, .ref 185, .ref 186, .int (am_z (S 179 12)), .ref 187, .ref 188, .ref 189, .ref 190, .int (am_z (S 179 17)), .int (am_z (S 179 18)), .ref 191, .ref 192, .ref 193, .ref 194, .ref 195, .int (am_z (S 179 24)), .ref 196, .ref 197, .int (am_z (S 179 27)), .ref 198, .int (am_z (S 179 29)), .ref 199, .ref 200, .ref 201, .int (am_z (S 179 33)), .int (am_z (S 179 34)), .ref 202, .ref 203, .ref 204, .ref 205, .ref 206, .int (am_z (S 179 40)), .ref 207, .ref 208, .int (am_z (S 179 43)), .ref 209])) = _
  exact congrArg some (am_up_m rfl (fun _ hh => am_set_sh hh))
theorem f_179_2 {X : Nat × (Nat → Int32)} {S : am_St} : am_fld (am_m X S) 179 10 2 = some (.ref 181) := rfl
theorem f_179_3 {X : Nat × (Nat → Int32)} {S : am_St} : am_fld (am_m X S) 179 10 3 = some (.int (am_z (S 179 3))) := rfl
theorem s_179_3 {X : Nat × (Nat → Int32)} {S : am_St} {v : Int} : am_setf (am_m X S) 179 10 3 (.int (am_z v)) = some (am_m X (am_set S 179 3 v)) := by
  show some (am_up (am_m X S) 179 (am_O 10 [.ref 180, .int (am_z (S 179 1)), .ref 181, .int (am_z v), .int (am_z (S 179 4)), .ref 182, .int (am_z (S 179 6)), .int (am_z (S 179 7)), .ref 183, .ref 184, .ref 185, .ref 186, .int (am_z (S 179 12)), .ref 187, .ref 188, .ref 189, .ref 190, .int (am_z (S 179 17)), .int (am_z (S 179 18)), .ref 191, .ref 192, .ref 193, .ref 194, .ref 195, .int (am_z (S 179 24)), .ref 196, .ref 197, .int (am_z (S 179 27)), .ref 198, .int (am_z (S 179 29)), .ref 199, .ref 200, .ref 201, .int (am_z (S 179 33)), .int (am_z (S 179 34)), .ref 202, .ref 203, .ref 204, .ref 205, .ref 206, .int (am_z (S 179 40)), .ref 207, .ref 208, .int (am_z (S 179 43)), .ref 209])) = _
  exact congrArg some (am_up_m rfl (fun _ hh => am_set_sh hh))
theorem f_179_4 {X : Nat × (Nat → Int32)} {S : am_St} : am_fld (am_m X S) 179 10 4 = some (.int (am_z (S 179 4))) := rfl
theorem s_179_4 {X : Nat × (Nat → Int32)} {S : am_St} {v : Int} : am_setf (am_m X S) 179 10 4 (.int (am_z v)) = some (am_m X (am_set S 179 4 v)) := by
  show some (am_up (am_m X S) 179 (am_O 10 [.ref 180, .int (am_z (S 179 1)), .ref 181, .int (am_z (S 179 3)), .int (am_z v), .ref 182, .int (am_z (S 179 6)), .int (am_z (S 179 7)), .ref 183, .ref 184, .ref 185, .ref 186, .int (am_z (S 179 12)), .ref 187, .ref 188, .ref 189, .ref 190, .int (am_z (S 179 17)), .int (am_z (S 179 18)), .ref 191, .ref 192, .ref 193, .ref 194, .ref 195, .int (am_z (S 179 24)), .ref 196, .ref 197, .int (am_z (S 179 27)), .ref 198, .int (am_z (S 179 29)), .ref 199, .ref 200, .ref 201, .int (am_z (S 179 33)), .int (am_z (S 179 34)), .ref 202, .ref 203, .ref 204, .ref 205, .ref 206, .int (am_z (S 179 40)), .ref 207, .ref 208, .int (am_z (S 179 43)), .ref 209])) = _
  exact congrArg some (am_up_m rfl (fun _ hh => am_set_sh hh))
theorem f_179_5 {X : Nat × (Nat → Int32)} {S : am_St} : am_fld (am_m X S) 179 10 5 = some (.ref 182) := rfl
theorem f_179_6 {X : Nat × (Nat → Int32)} {S : am_St} : am_fld (am_m X S) 179 10 6 = some (.int (am_z (S 179 6))) := rfl
theorem s_179_6 {X : Nat × (Nat → Int32)} {S : am_St} {v : Int} : am_setf (am_m X S) 179 10 6 (.int (am_z v)) = some (am_m X (am_set S 179 6 v)) := by
  show some (am_up (am_m X S) 179 (am_O 10 [.ref 180, .int (am_z (S 179 1)), .ref 181, .int (am_z (S 179 3)), .int (am_z (S 179 4)), .ref 182, .int (am_z v), .int (am_z (S 179 7)), .ref 183, .ref 184, .ref 185, .ref 186, .int (am_z (S 179 12)), .ref 187, .ref 188, .ref 189, .ref 190, .int (am_z (S 179 17)), .int (am_z (S 179 18)), .ref 191, .ref 192, .ref 193, .ref 194, .ref 195, .int (am_z (S 179 24)), .ref 196, .ref 197, .int (am_z (S 179 27)), .ref 198, .int (am_z (S 179 29)), .ref 199, .ref 200, .ref 201, .int (am_z (S 179 33)), .int (am_z (S 179 34)), .ref 202, .ref 203, .ref 204, .ref 205, .ref 206, .int (am_z (S 179 40)), .ref 207, .ref 208, .int (am_z (S 179 43)), .ref 209])) = _
  exact congrArg some (am_up_m rfl (fun _ hh => am_set_sh hh))
theorem f_179_7 {X : Nat × (Nat → Int32)} {S : am_St} : am_fld (am_m X S) 179 10 7 = some (.int (am_z (S 179 7))) := rfl
theorem s_179_7 {X : Nat × (Nat → Int32)} {S : am_St} {v : Int} : am_setf (am_m X S) 179 10 7 (.int (am_z v)) = some (am_m X (am_set S 179 7 v)) := by
  show some (am_up (am_m X S) 179 (am_O 10 [.ref 180, .int (am_z (S 179 1)), .ref 181, .int (am_z (S 179 3)), .int (am_z (S 179 4)), .ref 182, .int (am_z (S 179 6)), .int (am_z v), .ref 183, .ref 184, .ref 185, .ref 186, .int (am_z (S 179 12)), .ref 187, .ref 188, .ref 189, .ref 190, .int (am_z (S 179 17)), .int (am_z (S 179 18)), .ref 191, .ref 192, .ref 193, .ref 194, .ref 195, .int (am_z (S 179 24)), .ref 196, .ref 197, .int (am_z (S 179 27)), .ref 198, .int (am_z (S 179 29)), .ref 199, .ref 200, .ref 201, .int (am_z (S 179 33)), .int (am_z (S 179 34)), .ref 202, .ref 203, .ref 204, .ref 205, .ref 206, .int (am_z (S 179 40)), .ref 207, .ref 208, .int (am_z (S 179 43)), .ref 209])) = _
  exact congrArg some (am_up_m rfl (fun _ hh => am_set_sh hh))
theorem f_179_8 {X : Nat × (Nat → Int32)} {S : am_St} : am_fld (am_m X S) 179 10 8 = some (.ref 183) := rfl
theorem f_179_9 {X : Nat × (Nat → Int32)} {S : am_St} : am_fld (am_m X S) 179 10 9 = some (.ref 184) := rfl
theorem f_179_10 {X : Nat × (Nat → Int32)} {S : am_St} : am_fld (am_m X S) 179 10 10 = some (.ref 185) := rfl
theorem f_179_11 {X : Nat × (Nat → Int32)} {S : am_St} : am_fld (am_m X S) 179 10 11 = some (.ref 186) := rfl
theorem f_179_12 {X : Nat × (Nat → Int32)} {S : am_St} : am_fld (am_m X S) 179 10 12 = some (.int (am_z (S 179 12))) := rfl
theorem s_179_12 {X : Nat × (Nat → Int32)} {S : am_St} {v : Int} : am_setf (am_m X S) 179 10 12 (.int (am_z v)) = some (am_m X (am_set S 179 12 v)) := by
  show some (am_up (am_m X S) 179 (am_O 10 [.ref 180, .int (am_z (S 179 1)), .ref 181, .int (am_z (S 179 3)), .int (am_z (S 179 4)), .ref 182, .int (am_z (S 179 6)), .int (am_z (S 179 7)), .ref 183, .ref 184, .ref 185, .ref 186, .int (am_z v), .ref 187, .ref 188, .ref 189, .ref 190, .int (am_z (S 179 17)), .int (am_z (S 179 18)), .ref 191, .ref 192, .ref 193, .ref 194, .ref 195, .int (am_z (S 179 24)), .ref 196, .ref 197, .int (am_z (S 179 27)), .ref 198, .int (am_z (S 179 29)), .ref 199, .ref 200, .ref 201, .int (am_z (S 179 33)), .int (am_z (S 179 34)), .ref 202, .ref 203, .ref 204, .ref 205, .ref 206, .int (am_z (S 179 40)), .ref 207, .ref 208, .int (am_z (S 179 43)), .ref 209])) = _
  exact congrArg some (am_up_m rfl (fun _ hh => am_set_sh hh))
theorem f_179_13 {X : Nat × (Nat → Int32)} {S : am_St} : am_fld (am_m X S) 179 10 13 = some (.ref 187) := rfl
theorem f_179_14 {X : Nat × (Nat → Int32)} {S : am_St} : am_fld (am_m X S) 179 10 14 = some (.ref 188) := rfl
theorem f_179_15 {X : Nat × (Nat → Int32)} {S : am_St} : am_fld (am_m X S) 179 10 15 = some (.ref 189) := rfl
theorem f_179_16 {X : Nat × (Nat → Int32)} {S : am_St} : am_fld (am_m X S) 179 10 16 = some (.ref 190) := rfl
theorem f_179_17 {X : Nat × (Nat → Int32)} {S : am_St} : am_fld (am_m X S) 179 10 17 = some (.int (am_z (S 179 17))) := rfl
theorem s_179_17 {X : Nat × (Nat → Int32)} {S : am_St} {v : Int} : am_setf (am_m X S) 179 10 17 (.int (am_z v)) = some (am_m X (am_set S 179 17 v)) := by
  show some (am_up (am_m X S) 179 (am_O 10 [.ref 180, .int (am_z (S 179 1)), .ref 181, .int (am_z (S 179 3)), .int (am_z (S 179 4)), .ref 182, .int (am_z (S 179 6)), .int (am_z (S 179 7)), .ref 183, .ref 184, .ref 185, .ref 186, .int (am_z (S 179 12)), .ref 187, .ref 188, .ref 189, .ref 190, .int (am_z v), .int (am_z (S 179 18)), .ref 191, .ref 192, .ref 193, .ref 194, .ref 195, .int (am_z (S 179 24)), .ref 196, .ref 197, .int (am_z (S 179 27)), .ref 198, .int (am_z (S 179 29)), .ref 199, .ref 200, .ref 201, .int (am_z (S 179 33)), .int (am_z (S 179 34)), .ref 202, .ref 203, .ref 204, .ref 205, .ref 206, .int (am_z (S 179 40)), .ref 207, .ref 208, .int (am_z (S 179 43)), .ref 209])) = _
  exact congrArg some (am_up_m rfl (fun _ hh => am_set_sh hh))
theorem f_179_18 {X : Nat × (Nat → Int32)} {S : am_St} : am_fld (am_m X S) 179 10 18 = some (.int (am_z (S 179 18))) := rfl
theorem s_179_18 {X : Nat × (Nat → Int32)} {S : am_St} {v : Int} : am_setf (am_m X S) 179 10 18 (.int (am_z v)) = some (am_m X (am_set S 179 18 v)) := by
  show some (am_up (am_m X S) 179 (am_O 10 [.ref 180, .int (am_z (S 179 1)), .ref 181, .int (am_z (S 179 3)), .int (am_z (S 179 4)), .ref 182, .int (am_z (S 179 6)), .int (am_z (S 179 7)), .ref 183, .ref 184, .ref 185, .ref 186, .int (am_z (S 179 12)), .ref 187, .ref 188, .ref 189, .ref 190, .int (am_z (S 179 17)), .int (am_z v), .ref 191, .ref 192, .ref 193, .ref 194, .ref 195, .int (am_z (S 179 24)), .ref 196, .ref 197, .int (am_z (S 179 27)), .ref 198, .int (am_z (S 179 29)), .ref 199, .ref 200, .ref 201, .int (am_z (S 179 33)), .int (am_z (S 179 34)), .ref 202, .ref 203, .ref 204, .ref 205, .ref 206, .int (am_z (S 179 40)), .ref 207, .ref 208, .int (am_z (S 179 43)), .ref 209])) = _
  exact congrArg some (am_up_m rfl (fun _ hh => am_set_sh hh))
theorem f_179_19 {X : Nat × (Nat → Int32)} {S : am_St} : am_fld (am_m X S) 179 10 19 = some (.ref 191) := rfl
theorem f_179_20 {X : Nat × (Nat → Int32)} {S : am_St} : am_fld (am_m X S) 179 10 20 = some (.ref 192) := rfl
theorem f_179_21 {X : Nat × (Nat → Int32)} {S : am_St} : am_fld (am_m X S) 179 10 21 = some (.ref 193) := rfl
theorem f_179_22 {X : Nat × (Nat → Int32)} {S : am_St} : am_fld (am_m X S) 179 10 22 = some (.ref 194) := rfl
theorem f_179_23 {X : Nat × (Nat → Int32)} {S : am_St} : am_fld (am_m X S) 179 10 23 = some (.ref 195) := rfl
theorem f_179_24 {X : Nat × (Nat → Int32)} {S : am_St} : am_fld (am_m X S) 179 10 24 = some (.int (am_z (S 179 24))) := rfl
theorem s_179_24 {X : Nat × (Nat → Int32)} {S : am_St} {v : Int} : am_setf (am_m X S) 179 10 24 (.int (am_z v)) = some (am_m X (am_set S 179 24 v)) := by
  show some (am_up (am_m X S) 179 (am_O 10 [.ref 180, .int (am_z (S 179 1)), .ref 181, .int (am_z (S 179 3)), .int (am_z (S 179 4)), .ref 182, .int (am_z (S 179 6)), .int (am_z (S 179 7)), .ref 183, .ref 184, .ref 185, .ref 186, .int (am_z (S 179 12)), .ref 187, .ref 188, .ref 189, .ref 190, .int (am_z (S 179 17)), .int (am_z (S 179 18)), .ref 191, .ref 192, .ref 193, .ref 194, .ref 195, .int (am_z v), .ref 196, .ref 197, .int (am_z (S 179 27)), .ref 198, .int (am_z (S 179 29)), .ref 199, .ref 200, .ref 201, .int (am_z (S 179 33)), .int (am_z (S 179 34)), .ref 202, .ref 203, .ref 204, .ref 205, .ref 206, .int (am_z (S 179 40)), .ref 207, .ref 208, .int (am_z (S 179 43)), .ref 209])) = _
  exact congrArg some (am_up_m rfl (fun _ hh => am_set_sh hh))
theorem f_179_25 {X : Nat × (Nat → Int32)} {S : am_St} : am_fld (am_m X S) 179 10 25 = some (.ref 196) := rfl
theorem f_179_26 {X : Nat × (Nat → Int32)} {S : am_St} : am_fld (am_m X S) 179 10 26 = some (.ref 197) := rfl
theorem f_179_27 {X : Nat × (Nat → Int32)} {S : am_St} : am_fld (am_m X S) 179 10 27 = some (.int (am_z (S 179 27))) := rfl
theorem s_179_27 {X : Nat × (Nat → Int32)} {S : am_St} {v : Int} : am_setf (am_m X S) 179 10 27 (.int (am_z v)) = some (am_m X (am_set S 179 27 v)) := by
  show some (am_up (am_m X S) 179 (am_O 10 [.ref 180, .int (am_z (S 179 1)), .ref 181, .int (am_z (S 179 3)), .int (am_z (S 179 4)), .ref 182, .int (am_z (S 179 6)), .int (am_z (S 179 7)), .ref 183, .ref 184, .ref 185, .ref 186, .int (am_z (S 179 12)), .ref 187, .ref 188, .ref 189, .ref 190, .int (am_z (S 179 17)), .int (am_z (S 179 18)), .ref 191, .ref 192, .ref 193, .ref 194, .ref 195, .int (am_z (S 179 24)), .ref 196, .ref 197, .int (am_z v), .ref 198, .int (am_z (S 179 29)), .ref 199, .ref 200, .ref 201, .int (am_z (S 179 33)), .int (am_z (S 179 34)), .ref 202, .ref 203, .ref 204, .ref 205, .ref 206, .int (am_z (S 179 40)), .ref 207, .ref 208, .int (am_z (S 179 43)), .ref 209])) = _
  exact congrArg some (am_up_m rfl (fun _ hh => am_set_sh hh))
theorem f_179_28 {X : Nat × (Nat → Int32)} {S : am_St} : am_fld (am_m X S) 179 10 28 = some (.ref 198) := rfl
theorem f_179_29 {X : Nat × (Nat → Int32)} {S : am_St} : am_fld (am_m X S) 179 10 29 = some (.int (am_z (S 179 29))) := rfl
theorem s_179_29 {X : Nat × (Nat → Int32)} {S : am_St} {v : Int} : am_setf (am_m X S) 179 10 29 (.int (am_z v)) = some (am_m X (am_set S 179 29 v)) := by
  show some (am_up (am_m X S) 179 (am_O 10 [.ref 180, .int (am_z (S 179 1)), .ref 181, .int (am_z (S 179 3)), .int (am_z (S 179 4)), .ref 182, .int (am_z (S 179 6)), .int (am_z (S 179 7)), .ref 183, .ref 184, .ref 185, .ref 186, .int (am_z (S 179 12)), .ref 187, .ref 188, .ref 189, .ref 190, .int (am_z (S 179 17)), .int (am_z (S 179 18)), .ref 191, .ref 192, .ref 193, .ref 194, .ref 195, .int (am_z (S 179 24)), .ref 196, .ref 197, .int (am_z (S 179 27)), .ref 198, .int (am_z v), .ref 199, .ref 200, .ref 201, .int (am_z (S 179 33)), .int (am_z (S 179 34)), .ref 202, .ref 203, .ref 204, .ref 205, .ref 206, .int (am_z (S 179 40)), .ref 207, .ref 208, .int (am_z (S 179 43)), .ref 209])) = _
  exact congrArg some (am_up_m rfl (fun _ hh => am_set_sh hh))
theorem f_179_30 {X : Nat × (Nat → Int32)} {S : am_St} : am_fld (am_m X S) 179 10 30 = some (.ref 199) := rfl
theorem f_179_31 {X : Nat × (Nat → Int32)} {S : am_St} : am_fld (am_m X S) 179 10 31 = some (.ref 200) := rfl
theorem f_179_32 {X : Nat × (Nat → Int32)} {S : am_St} : am_fld (am_m X S) 179 10 32 = some (.ref 201) := rfl
theorem f_179_33 {X : Nat × (Nat → Int32)} {S : am_St} : am_fld (am_m X S) 179 10 33 = some (.int (am_z (S 179 33))) := rfl
theorem s_179_33 {X : Nat × (Nat → Int32)} {S : am_St} {v : Int} : am_setf (am_m X S) 179 10 33 (.int (am_z v)) = some (am_m X (am_set S 179 33 v)) := by
  show some (am_up (am_m X S) 179 (am_O 10 [.ref 180, .int (am_z (S 179 1)), .ref 181, .int (am_z (S 179 3)), .int (am_z (S 179 4)), .ref 182, .int (am_z (S 179 6)), .int (am_z (S 179 7)), .ref 183, .ref 184, .ref 185, .ref 186, .int (am_z (S 179 12)), .ref 187, .ref 188, .ref 189, .ref 190, .int (am_z (S 179 17)), .int (am_z (S 179 18)), .ref 191, .ref 192, .ref 193, .ref 194, .ref 195, .int (am_z (S 179 24)), .ref 196, .ref 197, .int (am_z (S 179 27)), .ref 198, .int (am_z (S 179 29)), .ref 199, .ref 200, .ref 201, .int (am_z v), .int (am_z (S 179 34)), .ref 202, .ref 203, .ref 204, .ref 205, .ref 206, .int (am_z (S 179 40)), .ref 207, .ref 208, .int (am_z (S 179 43)), .ref 209])) = _
  exact congrArg some (am_up_m rfl (fun _ hh => am_set_sh hh))
theorem f_179_34 {X : Nat × (Nat → Int32)} {S : am_St} : am_fld (am_m X S) 179 10 34 = some (.int (am_z (S 179 34))) := rfl
theorem s_179_34 {X : Nat × (Nat → Int32)} {S : am_St} {v : Int} : am_setf (am_m X S) 179 10 34 (.int (am_z v)) = some (am_m X (am_set S 179 34 v)) := by
  show some (am_up (am_m X S) 179 (am_O 10 [.ref 180, .int (am_z (S 179 1)), .ref 181, .int (am_z (S 179 3)), .int (am_z (S 179 4)), .ref 182, .int (am_z (S 179 6)), .int (am_z (S 179 7)), .ref 183, .ref 184, .ref 185, .ref 186, .int (am_z (S 179 12)), .ref 187, .ref 188, .ref 189, .ref 190, .int (am_z (S 179 17)), .int (am_z (S 179 18)), .ref 191, .ref 192, .ref 193, .ref 194, .ref 195, .int (am_z (S 179 24)), .ref 196, .ref 197, .int (am_z (S 179 27)), .ref 198, .int (am_z (S 179 29)), .ref 199, .ref 200, .ref 201, .int (am_z (S 179 33)), .int (am_z v), .ref 202, .ref 203, .ref 204, .ref 205, .ref 206, .int (am_z (S 179 40)), .ref 207, .ref 208, .int (am_z (S 179 43)), .ref 209])) = _
  exact congrArg some (am_up_m rfl (fun _ hh => am_set_sh hh))
theorem f_179_35 {X : Nat × (Nat → Int32)} {S : am_St} : am_fld (am_m X S) 179 10 35 = some (.ref 202) := rfl
theorem f_179_36 {X : Nat × (Nat → Int32)} {S : am_St} : am_fld (am_m X S) 179 10 36 = some (.ref 203) := rfl
theorem f_179_37 {X : Nat × (Nat → Int32)} {S : am_St} : am_fld (am_m X S) 179 10 37 = some (.ref 204) := rfl
theorem f_179_38 {X : Nat × (Nat → Int32)} {S : am_St} : am_fld (am_m X S) 179 10 38 = some (.ref 205) := rfl
theorem f_179_39 {X : Nat × (Nat → Int32)} {S : am_St} : am_fld (am_m X S) 179 10 39 = some (.ref 206) := rfl
theorem f_179_40 {X : Nat × (Nat → Int32)} {S : am_St} : am_fld (am_m X S) 179 10 40 = some (.int (am_z (S 179 40))) := rfl
theorem s_179_40 {X : Nat × (Nat → Int32)} {S : am_St} {v : Int} : am_setf (am_m X S) 179 10 40 (.int (am_z v)) = some (am_m X (am_set S 179 40 v)) := by
  show some (am_up (am_m X S) 179 (am_O 10 [.ref 180, .int (am_z (S 179 1)), .ref 181, .int (am_z (S 179 3)), .int (am_z (S 179 4)), .ref 182, .int (am_z (S 179 6)), .int (am_z (S 179 7)), .ref 183, .ref 184, .ref 185, .ref 186, .int (am_z (S 179 12)), .ref 187, .ref 188, .ref 189, .ref 190, .int (am_z (S 179 17)), .int (am_z (S 179 18)), .ref 191, .ref 192, .ref 193, .ref 194, .ref 195, .int (am_z (S 179 24)), .ref 196, .ref 197, .int (am_z (S 179 27)), .ref 198, .int (am_z (S 179 29)), .ref 199, .ref 200, .ref 201, .int (am_z (S 179 33)), .int (am_z (S 179 34)), .ref 202, .ref 203, .ref 204, .ref 205, .ref 206, .int (am_z v), .ref 207, .ref 208, .int (am_z (S 179 43)), .ref 209])) = _
  exact congrArg some (am_up_m rfl (fun _ hh => am_set_sh hh))
theorem f_179_41 {X : Nat × (Nat → Int32)} {S : am_St} : am_fld (am_m X S) 179 10 41 = some (.ref 207) := rfl
theorem f_179_42 {X : Nat × (Nat → Int32)} {S : am_St} : am_fld (am_m X S) 179 10 42 = some (.ref 208) := rfl
theorem f_179_43 {X : Nat × (Nat → Int32)} {S : am_St} : am_fld (am_m X S) 179 10 43 = some (.int (am_z (S 179 43))) := rfl
theorem s_179_43 {X : Nat × (Nat → Int32)} {S : am_St} {v : Int} : am_setf (am_m X S) 179 10 43 (.int (am_z v)) = some (am_m X (am_set S 179 43 v)) := by
  show some (am_up (am_m X S) 179 (am_O 10 [.ref 180, .int (am_z (S 179 1)), .ref 181, .int (am_z (S 179 3)), .int (am_z (S 179 4)), .ref 182, .int (am_z (S 179 6)), .int (am_z (S 179 7)), .ref 183, .ref 184, .ref 185, .ref 186, .int (am_z (S 179 12)), .ref 187, .ref 188, .ref 189, .ref 190, .int (am_z (S 179 17)), .int (am_z (S 179 18)), .ref 191, .ref 192, .ref 193, .ref 194, .ref 195, .int (am_z (S 179 24)), .ref 196, .ref 197, .int (am_z (S 179 27)), .ref 198, .int (am_z (S 179 29)), .ref 199, .ref 200, .ref 201, .int (am_z (S 179 33)), .int (am_z (S 179 34)), .ref 202, .ref 203, .ref 204, .ref 205, .ref 206, .int (am_z (S 179 40)), .ref 207, .ref 208, .int (am_z v), .ref 209])) = _
  exact congrArg some (am_up_m rfl (fun _ hh => am_set_sh hh))
theorem f_179_44 {X : Nat × (Nat → Int32)} {S : am_St} : am_fld (am_m X S) 179 10 44 = some (.ref 209) := rfl
theorem a_1 : am_ar 1 1 100 := ⟨by omega, fun _ => rfl⟩
theorem l_1 {X : Nat × (Nat → Int32)} {S : am_St} {i : Int} (h0 : 0 ≤ i) (h1 : i < 100) : am_ald 1 (am_m X S) 1 (am_z i) = some (am_z (S 1 i)) := am_ald_m a_1 h0 h1
theorem t_1 {X : Nat × (Nat → Int32)} {S : am_St} {i v : Int} (h0 : 0 ≤ i) (h1 : i < 100) : am_ast 1 (am_m X S) 1 (am_z i) (am_z v) = some (am_m X (am_set S 1 i v)) := am_ast_m a_1 h0 h1
theorem a_11 : am_ar 2 11 8 := ⟨by omega, fun _ => rfl⟩
theorem l_11 {X : Nat × (Nat → Int32)} {S : am_St} {i : Int} (h0 : 0 ≤ i) (h1 : i < 8) : am_ald 2 (am_m X S) 11 (am_z i) = some (am_z (S 11 i)) := am_ald_m a_11 h0 h1
theorem t_11 {X : Nat × (Nat → Int32)} {S : am_St} {i v : Int} (h0 : 0 ≤ i) (h1 : i < 8) : am_ast 2 (am_m X S) 11 (am_z i) (am_z v) = some (am_m X (am_set S 11 i v)) := am_ast_m a_11 h0 h1
theorem a_45 : am_ar 1 45 480 := ⟨by omega, fun _ => rfl⟩
theorem l_45 {X : Nat × (Nat → Int32)} {S : am_St} {i : Int} (h0 : 0 ≤ i) (h1 : i < 480) : am_ald 1 (am_m X S) 45 (am_z i) = some (am_z (S 45 i)) := am_ald_m a_45 h0 h1
theorem t_45 {X : Nat × (Nat → Int32)} {S : am_St} {i v : Int} (h0 : 0 ≤ i) (h1 : i < 480) : am_ast 1 (am_m X S) 45 (am_z i) (am_z v) = some (am_m X (am_set S 45 i v)) := am_ast_m a_45 h0 h1
theorem a_55 : am_ar 0 55 200 := ⟨by omega, fun _ => rfl⟩
theorem l_55 {X : Nat × (Nat → Int32)} {S : am_St} {i : Int} (h0 : 0 ≤ i) (h1 : i < 200) : am_ald 0 (am_m X S) 55 (am_z i) = some (am_z (S 55 i)) := am_ald_m a_55 h0 h1
theorem t_55 {X : Nat × (Nat → Int32)} {S : am_St} {i v : Int} (h0 : 0 ≤ i) (h1 : i < 200) : am_ast 0 (am_m X S) 55 (am_z i) (am_z v) = some (am_m X (am_set S 55 i v)) := am_ast_m a_55 h0 h1
theorem a_56 : am_ar 1 56 100 := ⟨by omega, fun _ => rfl⟩
theorem l_56 {X : Nat × (Nat → Int32)} {S : am_St} {i : Int} (h0 : 0 ≤ i) (h1 : i < 100) : am_ald 1 (am_m X S) 56 (am_z i) = some (am_z (S 56 i)) := am_ald_m a_56 h0 h1
theorem t_56 {X : Nat × (Nat → Int32)} {S : am_St} {i v : Int} (h0 : 0 ≤ i) (h1 : i < 100) : am_ast 1 (am_m X S) 56 (am_z i) (am_z v) = some (am_m X (am_set S 56 i v)) := am_ast_m a_56 h0 h1
theorem a_57 : am_ar 1 57 100 := ⟨by omega, fun _ => rfl⟩
theorem l_57 {X : Nat × (Nat → Int32)} {S : am_St} {i : Int} (h0 : 0 ≤ i) (h1 : i < 100) : am_ald 1 (am_m X S) 57 (am_z i) = some (am_z (S 57 i)) := am_ald_m a_57 h0 h1
theorem t_57 {X : Nat × (Nat → Int32)} {S : am_St} {i v : Int} (h0 : 0 ≤ i) (h1 : i < 100) : am_ast 1 (am_m X S) 57 (am_z i) (am_z v) = some (am_m X (am_set S 57 i v)) := am_ast_m a_57 h0 h1
theorem a_58 : am_ar 1 58 100 := ⟨by omega, fun _ => rfl⟩
theorem l_58 {X : Nat × (Nat → Int32)} {S : am_St} {i : Int} (h0 : 0 ≤ i) (h1 : i < 100) : am_ald 1 (am_m X S) 58 (am_z i) = some (am_z (S 58 i)) := am_ald_m a_58 h0 h1
theorem t_58 {X : Nat × (Nat → Int32)} {S : am_St} {i v : Int} (h0 : 0 ≤ i) (h1 : i < 100) : am_ast 1 (am_m X S) 58 (am_z i) (am_z v) = some (am_m X (am_set S 58 i v)) := am_ast_m a_58 h0 h1
theorem a_59 : am_ar 0 59 100 := ⟨by omega, fun _ => rfl⟩
theorem l_59 {X : Nat × (Nat → Int32)} {S : am_St} {i : Int} (h0 : 0 ≤ i) (h1 : i < 100) : am_ald 0 (am_m X S) 59 (am_z i) = some (am_z (S 59 i)) := am_ald_m a_59 h0 h1
theorem t_59 {X : Nat × (Nat → Int32)} {S : am_St} {i v : Int} (h0 : 0 ≤ i) (h1 : i < 100) : am_ast 0 (am_m X S) 59 (am_z i) (am_z v) = some (am_m X (am_set S 59 i v)) := am_ast_m a_59 h0 h1
theorem a_60 : am_ar 0 60 100 := ⟨by omega, fun _ => rfl⟩
theorem l_60 {X : Nat × (Nat → Int32)} {S : am_St} {i : Int} (h0 : 0 ≤ i) (h1 : i < 100) : am_ald 0 (am_m X S) 60 (am_z i) = some (am_z (S 60 i)) := am_ald_m a_60 h0 h1
theorem t_60 {X : Nat × (Nat → Int32)} {S : am_St} {i v : Int} (h0 : 0 ≤ i) (h1 : i < 100) : am_ast 0 (am_m X S) 60 (am_z i) (am_z v) = some (am_m X (am_set S 60 i v)) := am_ast_m a_60 h0 h1
theorem a_61 : am_ar 0 61 100 := ⟨by omega, fun _ => rfl⟩
theorem l_61 {X : Nat × (Nat → Int32)} {S : am_St} {i : Int} (h0 : 0 ≤ i) (h1 : i < 100) : am_ald 0 (am_m X S) 61 (am_z i) = some (am_z (S 61 i)) := am_ald_m a_61 h0 h1
theorem t_61 {X : Nat × (Nat → Int32)} {S : am_St} {i v : Int} (h0 : 0 ≤ i) (h1 : i < 100) : am_ast 0 (am_m X S) 61 (am_z i) (am_z v) = some (am_m X (am_set S 61 i v)) := am_ast_m a_61 h0 h1
theorem a_62 : am_ar 0 62 100 := ⟨by omega, fun _ => rfl⟩
theorem l_62 {X : Nat × (Nat → Int32)} {S : am_St} {i : Int} (h0 : 0 ≤ i) (h1 : i < 100) : am_ald 0 (am_m X S) 62 (am_z i) = some (am_z (S 62 i)) := am_ald_m a_62 h0 h1
theorem t_62 {X : Nat × (Nat → Int32)} {S : am_St} {i v : Int} (h0 : 0 ≤ i) (h1 : i < 100) : am_ast 0 (am_m X S) 62 (am_z i) (am_z v) = some (am_m X (am_set S 62 i v)) := am_ast_m a_62 h0 h1
theorem a_70 : am_ar 0 70 100 := ⟨by omega, fun _ => rfl⟩
theorem l_70 {X : Nat × (Nat → Int32)} {S : am_St} {i : Int} (h0 : 0 ≤ i) (h1 : i < 100) : am_ald 0 (am_m X S) 70 (am_z i) = some (am_z (S 70 i)) := am_ald_m a_70 h0 h1
theorem t_70 {X : Nat × (Nat → Int32)} {S : am_St} {i v : Int} (h0 : 0 ≤ i) (h1 : i < 100) : am_ast 0 (am_m X S) 70 (am_z i) (am_z v) = some (am_m X (am_set S 70 i v)) := am_ast_m a_70 h0 h1
theorem a_180 : am_ar 0 180 25 := ⟨by omega, fun _ => rfl⟩
theorem l_180 {X : Nat × (Nat → Int32)} {S : am_St} {i : Int} (h0 : 0 ≤ i) (h1 : i < 25) : am_ald 0 (am_m X S) 180 (am_z i) = some (am_z (S 180 i)) := am_ald_m a_180 h0 h1
theorem t_180 {X : Nat × (Nat → Int32)} {S : am_St} {i v : Int} (h0 : 0 ≤ i) (h1 : i < 25) : am_ast 0 (am_m X S) 180 (am_z i) (am_z v) = some (am_m X (am_set S 180 i v)) := am_ast_m a_180 h0 h1
theorem a_181 : am_ar 1 181 100 := ⟨by omega, fun _ => rfl⟩
theorem l_181 {X : Nat × (Nat → Int32)} {S : am_St} {i : Int} (h0 : 0 ≤ i) (h1 : i < 100) : am_ald 1 (am_m X S) 181 (am_z i) = some (am_z (S 181 i)) := am_ald_m a_181 h0 h1
theorem t_181 {X : Nat × (Nat → Int32)} {S : am_St} {i v : Int} (h0 : 0 ≤ i) (h1 : i < 100) : am_ast 1 (am_m X S) 181 (am_z i) (am_z v) = some (am_m X (am_set S 181 i v)) := am_ast_m a_181 h0 h1
theorem a_182 : am_ar 1 182 1200 := ⟨by omega, fun _ => rfl⟩
theorem l_182 {X : Nat × (Nat → Int32)} {S : am_St} {i : Int} (h0 : 0 ≤ i) (h1 : i < 1200) : am_ald 1 (am_m X S) 182 (am_z i) = some (am_z (S 182 i)) := am_ald_m a_182 h0 h1
theorem t_182 {X : Nat × (Nat → Int32)} {S : am_St} {i v : Int} (h0 : 0 ≤ i) (h1 : i < 1200) : am_ast 1 (am_m X S) 182 (am_z i) (am_z v) = some (am_m X (am_set S 182 i v)) := am_ast_m a_182 h0 h1
theorem a_183 : am_ar 0 183 648 := ⟨by omega, fun _ => rfl⟩
theorem l_183 {X : Nat × (Nat → Int32)} {S : am_St} {i : Int} (h0 : 0 ≤ i) (h1 : i < 648) : am_ald 0 (am_m X S) 183 (am_z i) = some (am_z (S 183 i)) := am_ald_m a_183 h0 h1
theorem t_183 {X : Nat × (Nat → Int32)} {S : am_St} {i v : Int} (h0 : 0 ≤ i) (h1 : i < 648) : am_ast 0 (am_m X S) 183 (am_z i) (am_z v) = some (am_m X (am_set S 183 i v)) := am_ast_m a_183 h0 h1
theorem a_184 : am_ar 0 184 8 := ⟨by omega, fun _ => rfl⟩
theorem l_184 {X : Nat × (Nat → Int32)} {S : am_St} {i : Int} (h0 : 0 ≤ i) (h1 : i < 8) : am_ald 0 (am_m X S) 184 (am_z i) = some (am_z (S 184 i)) := am_ald_m a_184 h0 h1
theorem t_184 {X : Nat × (Nat → Int32)} {S : am_St} {i v : Int} (h0 : 0 ≤ i) (h1 : i < 8) : am_ast 0 (am_m X S) 184 (am_z i) (am_z v) = some (am_m X (am_set S 184 i v)) := am_ast_m a_184 h0 h1
theorem a_185 : am_ar 0 185 648 := ⟨by omega, fun _ => rfl⟩
theorem l_185 {X : Nat × (Nat → Int32)} {S : am_St} {i : Int} (h0 : 0 ≤ i) (h1 : i < 648) : am_ald 0 (am_m X S) 185 (am_z i) = some (am_z (S 185 i)) := am_ald_m a_185 h0 h1
theorem t_185 {X : Nat × (Nat → Int32)} {S : am_St} {i v : Int} (h0 : 0 ≤ i) (h1 : i < 648) : am_ast 0 (am_m X S) 185 (am_z i) (am_z v) = some (am_m X (am_set S 185 i v)) := am_ast_m a_185 h0 h1
theorem a_186 : am_ar 0 186 8 := ⟨by omega, fun _ => rfl⟩
theorem l_186 {X : Nat × (Nat → Int32)} {S : am_St} {i : Int} (h0 : 0 ≤ i) (h1 : i < 8) : am_ald 0 (am_m X S) 186 (am_z i) = some (am_z (S 186 i)) := am_ald_m a_186 h0 h1
theorem t_186 {X : Nat × (Nat → Int32)} {S : am_St} {i v : Int} (h0 : 0 ≤ i) (h1 : i < 8) : am_ast 0 (am_m X S) 186 (am_z i) (am_z v) = some (am_m X (am_set S 186 i v)) := am_ast_m a_186 h0 h1
theorem a_187 : am_ar 0 187 400 := ⟨by omega, fun _ => rfl⟩
theorem l_187 {X : Nat × (Nat → Int32)} {S : am_St} {i : Int} (h0 : 0 ≤ i) (h1 : i < 400) : am_ald 0 (am_m X S) 187 (am_z i) = some (am_z (S 187 i)) := am_ald_m a_187 h0 h1
theorem t_187 {X : Nat × (Nat → Int32)} {S : am_St} {i v : Int} (h0 : 0 ≤ i) (h1 : i < 400) : am_ast 0 (am_m X S) 187 (am_z i) (am_z v) = some (am_m X (am_set S 187 i v)) := am_ast_m a_187 h0 h1
theorem a_188 : am_ar 0 188 400 := ⟨by omega, fun _ => rfl⟩
theorem l_188 {X : Nat × (Nat → Int32)} {S : am_St} {i : Int} (h0 : 0 ≤ i) (h1 : i < 400) : am_ald 0 (am_m X S) 188 (am_z i) = some (am_z (S 188 i)) := am_ald_m a_188 h0 h1
theorem t_188 {X : Nat × (Nat → Int32)} {S : am_St} {i v : Int} (h0 : 0 ≤ i) (h1 : i < 400) : am_ast 0 (am_m X S) 188 (am_z i) (am_z v) = some (am_m X (am_set S 188 i v)) := am_ast_m a_188 h0 h1
theorem a_189 : am_ar 0 189 400 := ⟨by omega, fun _ => rfl⟩
theorem l_189 {X : Nat × (Nat → Int32)} {S : am_St} {i : Int} (h0 : 0 ≤ i) (h1 : i < 400) : am_ald 0 (am_m X S) 189 (am_z i) = some (am_z (S 189 i)) := am_ald_m a_189 h0 h1
theorem t_189 {X : Nat × (Nat → Int32)} {S : am_St} {i v : Int} (h0 : 0 ≤ i) (h1 : i < 400) : am_ast 0 (am_m X S) 189 (am_z i) (am_z v) = some (am_m X (am_set S 189 i v)) := am_ast_m a_189 h0 h1
theorem a_190 : am_ar 0 190 400 := ⟨by omega, fun _ => rfl⟩
theorem l_190 {X : Nat × (Nat → Int32)} {S : am_St} {i : Int} (h0 : 0 ≤ i) (h1 : i < 400) : am_ald 0 (am_m X S) 190 (am_z i) = some (am_z (S 190 i)) := am_ald_m a_190 h0 h1
theorem t_190 {X : Nat × (Nat → Int32)} {S : am_St} {i v : Int} (h0 : 0 ≤ i) (h1 : i < 400) : am_ast 0 (am_m X S) 190 (am_z i) (am_z v) = some (am_m X (am_set S 190 i v)) := am_ast_m a_190 h0 h1
theorem a_191 : am_ar 0 191 120 := ⟨by omega, fun _ => rfl⟩
theorem l_191 {X : Nat × (Nat → Int32)} {S : am_St} {i : Int} (h0 : 0 ≤ i) (h1 : i < 120) : am_ald 0 (am_m X S) 191 (am_z i) = some (am_z (S 191 i)) := am_ald_m a_191 h0 h1
theorem t_191 {X : Nat × (Nat → Int32)} {S : am_St} {i v : Int} (h0 : 0 ≤ i) (h1 : i < 120) : am_ast 0 (am_m X S) 191 (am_z i) (am_z v) = some (am_m X (am_set S 191 i v)) := am_ast_m a_191 h0 h1
theorem a_192 : am_ar 0 192 120 := ⟨by omega, fun _ => rfl⟩
theorem l_192 {X : Nat × (Nat → Int32)} {S : am_St} {i : Int} (h0 : 0 ≤ i) (h1 : i < 120) : am_ald 0 (am_m X S) 192 (am_z i) = some (am_z (S 192 i)) := am_ald_m a_192 h0 h1
theorem t_192 {X : Nat × (Nat → Int32)} {S : am_St} {i v : Int} (h0 : 0 ≤ i) (h1 : i < 120) : am_ast 0 (am_m X S) 192 (am_z i) (am_z v) = some (am_m X (am_set S 192 i v)) := am_ast_m a_192 h0 h1
theorem a_193 : am_ar 0 193 120 := ⟨by omega, fun _ => rfl⟩
theorem l_193 {X : Nat × (Nat → Int32)} {S : am_St} {i : Int} (h0 : 0 ≤ i) (h1 : i < 120) : am_ald 0 (am_m X S) 193 (am_z i) = some (am_z (S 193 i)) := am_ald_m a_193 h0 h1
theorem t_193 {X : Nat × (Nat → Int32)} {S : am_St} {i v : Int} (h0 : 0 ≤ i) (h1 : i < 120) : am_ast 0 (am_m X S) 193 (am_z i) (am_z v) = some (am_m X (am_set S 193 i v)) := am_ast_m a_193 h0 h1
theorem a_194 : am_ar 0 194 120 := ⟨by omega, fun _ => rfl⟩
theorem l_194 {X : Nat × (Nat → Int32)} {S : am_St} {i : Int} (h0 : 0 ≤ i) (h1 : i < 120) : am_ald 0 (am_m X S) 194 (am_z i) = some (am_z (S 194 i)) := am_ald_m a_194 h0 h1
theorem t_194 {X : Nat × (Nat → Int32)} {S : am_St} {i v : Int} (h0 : 0 ≤ i) (h1 : i < 120) : am_ast 0 (am_m X S) 194 (am_z i) (am_z v) = some (am_m X (am_set S 194 i v)) := am_ast_m a_194 h0 h1
theorem a_195 : am_ar 0 195 120 := ⟨by omega, fun _ => rfl⟩
theorem l_195 {X : Nat × (Nat → Int32)} {S : am_St} {i : Int} (h0 : 0 ≤ i) (h1 : i < 120) : am_ald 0 (am_m X S) 195 (am_z i) = some (am_z (S 195 i)) := am_ald_m a_195 h0 h1
theorem t_195 {X : Nat × (Nat → Int32)} {S : am_St} {i v : Int} (h0 : 0 ≤ i) (h1 : i < 120) : am_ast 0 (am_m X S) 195 (am_z i) (am_z v) = some (am_m X (am_set S 195 i v)) := am_ast_m a_195 h0 h1
theorem a_196 : am_ar 0 196 120 := ⟨by omega, fun _ => rfl⟩
theorem l_196 {X : Nat × (Nat → Int32)} {S : am_St} {i : Int} (h0 : 0 ≤ i) (h1 : i < 120) : am_ald 0 (am_m X S) 196 (am_z i) = some (am_z (S 196 i)) := am_ald_m a_196 h0 h1
theorem t_196 {X : Nat × (Nat → Int32)} {S : am_St} {i v : Int} (h0 : 0 ≤ i) (h1 : i < 120) : am_ast 0 (am_m X S) 196 (am_z i) (am_z v) = some (am_m X (am_set S 196 i v)) := am_ast_m a_196 h0 h1
theorem a_197 : am_ar 0 197 1800 := ⟨by omega, fun _ => rfl⟩
theorem l_197 {X : Nat × (Nat → Int32)} {S : am_St} {i : Int} (h0 : 0 ≤ i) (h1 : i < 1800) : am_ald 0 (am_m X S) 197 (am_z i) = some (am_z (S 197 i)) := am_ald_m a_197 h0 h1
theorem t_197 {X : Nat × (Nat → Int32)} {S : am_St} {i v : Int} (h0 : 0 ≤ i) (h1 : i < 1800) : am_ast 0 (am_m X S) 197 (am_z i) (am_z v) = some (am_m X (am_set S 197 i v)) := am_ast_m a_197 h0 h1
theorem a_198 : am_ar 0 198 1800 := ⟨by omega, fun _ => rfl⟩
theorem l_198 {X : Nat × (Nat → Int32)} {S : am_St} {i : Int} (h0 : 0 ≤ i) (h1 : i < 1800) : am_ald 0 (am_m X S) 198 (am_z i) = some (am_z (S 198 i)) := am_ald_m a_198 h0 h1
theorem t_198 {X : Nat × (Nat → Int32)} {S : am_St} {i v : Int} (h0 : 0 ≤ i) (h1 : i < 1800) : am_ast 0 (am_m X S) 198 (am_z i) (am_z v) = some (am_m X (am_set S 198 i v)) := am_ast_m a_198 h0 h1
theorem a_199 : am_ar 0 199 1800 := ⟨by omega, fun _ => rfl⟩
theorem l_199 {X : Nat × (Nat → Int32)} {S : am_St} {i : Int} (h0 : 0 ≤ i) (h1 : i < 1800) : am_ald 0 (am_m X S) 199 (am_z i) = some (am_z (S 199 i)) := am_ald_m a_199 h0 h1
theorem t_199 {X : Nat × (Nat → Int32)} {S : am_St} {i v : Int} (h0 : 0 ≤ i) (h1 : i < 1800) : am_ast 0 (am_m X S) 199 (am_z i) (am_z v) = some (am_m X (am_set S 199 i v)) := am_ast_m a_199 h0 h1
theorem a_200 : am_ar 0 200 200 := ⟨by omega, fun _ => rfl⟩
theorem l_200 {X : Nat × (Nat → Int32)} {S : am_St} {i : Int} (h0 : 0 ≤ i) (h1 : i < 200) : am_ald 0 (am_m X S) 200 (am_z i) = some (am_z (S 200 i)) := am_ald_m a_200 h0 h1
theorem t_200 {X : Nat × (Nat → Int32)} {S : am_St} {i v : Int} (h0 : 0 ≤ i) (h1 : i < 200) : am_ast 0 (am_m X S) 200 (am_z i) (am_z v) = some (am_m X (am_set S 200 i v)) := am_ast_m a_200 h0 h1
theorem a_201 : am_ar 0 201 200 := ⟨by omega, fun _ => rfl⟩
theorem l_201 {X : Nat × (Nat → Int32)} {S : am_St} {i : Int} (h0 : 0 ≤ i) (h1 : i < 200) : am_ald 0 (am_m X S) 201 (am_z i) = some (am_z (S 201 i)) := am_ald_m a_201 h0 h1
theorem t_201 {X : Nat × (Nat → Int32)} {S : am_St} {i v : Int} (h0 : 0 ≤ i) (h1 : i < 200) : am_ast 0 (am_m X S) 201 (am_z i) (am_z v) = some (am_m X (am_set S 201 i v)) := am_ast_m a_201 h0 h1
theorem a_202 : am_ar 0 202 420 := ⟨by omega, fun _ => rfl⟩
theorem l_202 {X : Nat × (Nat → Int32)} {S : am_St} {i : Int} (h0 : 0 ≤ i) (h1 : i < 420) : am_ald 0 (am_m X S) 202 (am_z i) = some (am_z (S 202 i)) := am_ald_m a_202 h0 h1
theorem t_202 {X : Nat × (Nat → Int32)} {S : am_St} {i v : Int} (h0 : 0 ≤ i) (h1 : i < 420) : am_ast 0 (am_m X S) 202 (am_z i) (am_z v) = some (am_m X (am_set S 202 i v)) := am_ast_m a_202 h0 h1
theorem a_203 : am_ar 0 203 420 := ⟨by omega, fun _ => rfl⟩
theorem l_203 {X : Nat × (Nat → Int32)} {S : am_St} {i : Int} (h0 : 0 ≤ i) (h1 : i < 420) : am_ald 0 (am_m X S) 203 (am_z i) = some (am_z (S 203 i)) := am_ald_m a_203 h0 h1
theorem t_203 {X : Nat × (Nat → Int32)} {S : am_St} {i v : Int} (h0 : 0 ≤ i) (h1 : i < 420) : am_ast 0 (am_m X S) 203 (am_z i) (am_z v) = some (am_m X (am_set S 203 i v)) := am_ast_m a_203 h0 h1
theorem a_204 : am_ar 0 204 34020 := ⟨by omega, fun _ => rfl⟩
theorem l_204 {X : Nat × (Nat → Int32)} {S : am_St} {i : Int} (h0 : 0 ≤ i) (h1 : i < 34020) : am_ald 0 (am_m X S) 204 (am_z i) = some (am_z (S 204 i)) := am_ald_m a_204 h0 h1
theorem t_204 {X : Nat × (Nat → Int32)} {S : am_St} {i v : Int} (h0 : 0 ≤ i) (h1 : i < 34020) : am_ast 0 (am_m X S) 204 (am_z i) (am_z v) = some (am_m X (am_set S 204 i v)) := am_ast_m a_204 h0 h1
theorem a_205 : am_ar 0 205 9720 := ⟨by omega, fun _ => rfl⟩
theorem l_205 {X : Nat × (Nat → Int32)} {S : am_St} {i : Int} (h0 : 0 ≤ i) (h1 : i < 9720) : am_ald 0 (am_m X S) 205 (am_z i) = some (am_z (S 205 i)) := am_ald_m a_205 h0 h1
theorem t_205 {X : Nat × (Nat → Int32)} {S : am_St} {i v : Int} (h0 : 0 ≤ i) (h1 : i < 9720) : am_ast 0 (am_m X S) 205 (am_z i) (am_z v) = some (am_m X (am_set S 205 i v)) := am_ast_m a_205 h0 h1
theorem a_206 : am_ar 0 206 120 := ⟨by omega, fun _ => rfl⟩
theorem l_206 {X : Nat × (Nat → Int32)} {S : am_St} {i : Int} (h0 : 0 ≤ i) (h1 : i < 120) : am_ald 0 (am_m X S) 206 (am_z i) = some (am_z (S 206 i)) := am_ald_m a_206 h0 h1
theorem t_206 {X : Nat × (Nat → Int32)} {S : am_St} {i v : Int} (h0 : 0 ≤ i) (h1 : i < 120) : am_ast 0 (am_m X S) 206 (am_z i) (am_z v) = some (am_m X (am_set S 206 i v)) := am_ast_m a_206 h0 h1
theorem a_207 : am_ar 0 207 1200 := ⟨by omega, fun _ => rfl⟩
theorem l_207 {X : Nat × (Nat → Int32)} {S : am_St} {i : Int} (h0 : 0 ≤ i) (h1 : i < 1200) : am_ald 0 (am_m X S) 207 (am_z i) = some (am_z (S 207 i)) := am_ald_m a_207 h0 h1
theorem t_207 {X : Nat × (Nat → Int32)} {S : am_St} {i v : Int} (h0 : 0 ≤ i) (h1 : i < 1200) : am_ast 0 (am_m X S) 207 (am_z i) (am_z v) = some (am_m X (am_set S 207 i v)) := am_ast_m a_207 h0 h1
theorem a_208 : am_ar 0 208 1200 := ⟨by omega, fun _ => rfl⟩
theorem l_208 {X : Nat × (Nat → Int32)} {S : am_St} {i : Int} (h0 : 0 ≤ i) (h1 : i < 1200) : am_ald 0 (am_m X S) 208 (am_z i) = some (am_z (S 208 i)) := am_ald_m a_208 h0 h1
theorem t_208 {X : Nat × (Nat → Int32)} {S : am_St} {i v : Int} (h0 : 0 ≤ i) (h1 : i < 1200) : am_ast 0 (am_m X S) 208 (am_z i) (am_z v) = some (am_m X (am_set S 208 i v)) := am_ast_m a_208 h0 h1
theorem a_209 : am_ar 0 209 100 := ⟨by omega, fun _ => rfl⟩
theorem l_209 {X : Nat × (Nat → Int32)} {S : am_St} {i : Int} (h0 : 0 ≤ i) (h1 : i < 100) : am_ald 0 (am_m X S) 209 (am_z i) = some (am_z (S 209 i)) := am_ald_m a_209 h0 h1
theorem t_209 {X : Nat × (Nat → Int32)} {S : am_St} {i v : Int} (h0 : 0 ≤ i) (h1 : i < 100) : am_ast 0 (am_m X S) 209 (am_z i) (am_z v) = some (am_m X (am_set S 209 i v)) := am_ast_m a_209 h0 h1
theorem r_48 : am_rw 48 80 := ⟨fun _ => rfl, by omega, fun _ => rfl⟩
theorem r_50 : am_rw 50 80 := ⟨fun _ => rfl, by omega, fun _ => rfl⟩
theorem r_53 : am_rw 53 200 := ⟨fun _ => rfl, by omega, fun _ => rfl⟩
theorem r_64 : am_rw 64 80 := ⟨fun _ => rfl, by omega, fun _ => rfl⟩
theorem r_68 : am_rw 68 80 := ⟨fun _ => rfl, by omega, fun _ => rfl⟩
theorem r_4 : am_wa 4 := ⟨fun _ => rfl, by omega, fun _ => rfl⟩
theorem r_6 : am_wa 6 := ⟨fun _ => rfl, by omega, fun _ => rfl⟩
theorem r_46 : am_wa 46 := ⟨fun _ => rfl, by omega, fun _ => rfl⟩
theorem r_tm : ∀ k, k < 8 → am_rw (12 + 4 * k) 80 := (am_ltS (am_ltS (am_ltS (am_ltS (am_ltS (am_ltS (am_ltS (am_ltS (am_ltZ) ⟨fun _ => rfl, by omega, fun _ => rfl⟩) ⟨fun _ => rfl, by omega, fun _ => rfl⟩) ⟨fun _ => rfl, by omega, fun _ => rfl⟩) ⟨fun _ => rfl, by omega, fun _ => rfl⟩) ⟨fun _ => rfl, by omega, fun _ => rfl⟩) ⟨fun _ => rfl, by omega, fun _ => rfl⟩) ⟨fun _ => rfl, by omega, fun _ => rfl⟩) ⟨fun _ => rfl, by omega, fun _ => rfl⟩)
theorem r_tt : ∀ k, k < 8 → am_rw (14 + 4 * k) 80 := (am_ltS (am_ltS (am_ltS (am_ltS (am_ltS (am_ltS (am_ltS (am_ltS (am_ltZ) ⟨fun _ => rfl, by omega, fun _ => rfl⟩) ⟨fun _ => rfl, by omega, fun _ => rfl⟩) ⟨fun _ => rfl, by omega, fun _ => rfl⟩) ⟨fun _ => rfl, by omega, fun _ => rfl⟩) ⟨fun _ => rfl, by omega, fun _ => rfl⟩) ⟨fun _ => rfl, by omega, fun _ => rfl⟩) ⟨fun _ => rfl, by omega, fun _ => rfl⟩) ⟨fun _ => rfl, by omega, fun _ => rfl⟩)
theorem r_ty : ∀ k, k < 54 → am_rw (71 + 2 * k) 80 := (am_ltS (am_ltS (am_ltS (am_ltS (am_ltS (am_ltS (am_ltS (am_ltS (am_ltS (am_ltS (am_ltS (am_ltS (am_ltS (am_ltS (am_ltS (am_ltS (am_ltS (am_ltS (am_ltS (am_ltS (am_ltS (am_ltS (am_ltS (am_ltS (am_ltS (am_ltS (am_ltS (am_ltS (am_ltS (am_ltS (am_ltS (am_ltS (am_ltS (am_ltS (am_ltS (am_ltS (am_ltS (am_ltS (am_ltS (am_ltS (am_ltS (am_ltS (am_ltS (am_ltS (am_ltS (am_ltS (am_ltS (am_ltS (am_ltS (am_ltS (am_ltS (am_ltS (am_ltS (am_ltS (am_ltZ) ⟨fun _ => rfl, by omega, fun _ => rfl⟩) ⟨fun _ => rfl, by omega, fun _ => rfl⟩) ⟨fun _ => rfl, by omega, fun _ => rfl⟩) ⟨fun _ => rfl, by omega, fun _ => rfl⟩) ⟨fun _ => rfl, by omega, fun _ => rfl⟩) ⟨fun _ => rfl, by omega, fun _ => rfl⟩) ⟨fun _ => rfl, by omega, fun _ => rfl⟩) ⟨fun _ => rfl, by omega, fun _ => rfl⟩) ⟨fun _ => rfl, by omega, fun _ => rfl⟩) ⟨fun _ => rfl, by omega, fun _ => rfl⟩) ⟨fun _ => rfl, by omega, fun _ => rfl⟩) ⟨fun _ => rfl, by omega, fun _ => rfl⟩) ⟨fun _ => rfl, by omega, fun _ => rfl⟩) ⟨fun _ => rfl, by omega, fun _ => rfl⟩) ⟨fun _ => rfl, by omega, fun _ => rfl⟩) ⟨fun _ => rfl, by omega, fun _ => rfl⟩) ⟨fun _ => rfl, by omega, fun _ => rfl⟩) ⟨fun _ => rfl, by omega, fun _ => rfl⟩) ⟨fun _ => rfl, by omega, fun _ => rfl⟩) ⟨fun _ => rfl, by omega, fun _ => rfl⟩) ⟨fun _ => rfl, by omega, fun _ => rfl⟩) ⟨fun _ => rfl, by omega, fun _ => rfl⟩) ⟨fun _ => rfl, by omega, fun _ => rfl⟩) ⟨fun _ => rfl, by omega, fun _ => rfl⟩) ⟨fun _ => rfl, by omega, fun _ => rfl⟩) ⟨fun _ => rfl, by omega, fun _ => rfl⟩) ⟨fun _ => rfl, by omega, fun _ => rfl⟩) ⟨fun _ => rfl, by omega, fun _ => rfl⟩) ⟨fun _ => rfl, by omega, fun _ => rfl⟩) ⟨fun _ => rfl, by omega, fun _ => rfl⟩) ⟨fun _ => rfl, by omega, fun _ => rfl⟩) ⟨fun _ => rfl, by omega, fun _ => rfl⟩) ⟨fun _ => rfl, by omega, fun _ => rfl⟩) ⟨fun _ => rfl, by omega, fun _ => rfl⟩) ⟨fun _ => rfl, by omega, fun _ => rfl⟩) ⟨fun _ => rfl, by omega, fun _ => rfl⟩) ⟨fun _ => rfl, by omega, fun _ => rfl⟩) ⟨fun _ => rfl, by omega, fun _ => rfl⟩) ⟨fun _ => rfl, by omega, fun _ => rfl⟩) ⟨fun _ => rfl, by omega, fun _ => rfl⟩) ⟨fun _ => rfl, by omega, fun _ => rfl⟩) ⟨fun _ => rfl, by omega, fun _ => rfl⟩) ⟨fun _ => rfl, by omega, fun _ => rfl⟩) ⟨fun _ => rfl, by omega, fun _ => rfl⟩) ⟨fun _ => rfl, by omega, fun _ => rfl⟩) ⟨fun _ => rfl, by omega, fun _ => rfl⟩) ⟨fun _ => rfl, by omega, fun _ => rfl⟩) ⟨fun _ => rfl, by omega, fun _ => rfl⟩) ⟨fun _ => rfl, by omega, fun _ => rfl⟩) ⟨fun _ => rfl, by omega, fun _ => rfl⟩) ⟨fun _ => rfl, by omega, fun _ => rfl⟩) ⟨fun _ => rfl, by omega, fun _ => rfl⟩) ⟨fun _ => rfl, by omega, fun _ => rfl⟩) ⟨fun _ => rfl, by omega, fun _ => rfl⟩)
theorem q_9_f : ∀ k, k < 8 → am_nmf 12 8 k = some (12 + 4 * k) := (am_ltS (am_ltS (am_ltS (am_ltS (am_ltS (am_ltS (am_ltS (am_ltS (am_ltZ) rfl) rfl) rfl) rfl) rfl) rfl) rfl) rfl)
theorem q_9 {X : Nat × (Nat → Int32)} {S : am_St} {i : Int} (h0 : 0 ≤ i) (h1 : i < 8) : am_aald (am_m X S) 9 (am_z i) = some (.ref (12 + 4 * i.toNat)) := by
  show (if am_in (am_z i) 8 = true then some (va_rf (am_nmf 12 8 (am_z i).toNatClampNeg)) else none) = _
  rw [if_pos (am_z_in h0 (by omega) (by omega)), am_z_nat (by omega) (by omega), q_9_f _ (by omega)]
  rfl
theorem q_10_f : ∀ k, k < 8 → am_nmf 14 8 k = some (14 + 4 * k) := (am_ltS (am_ltS (am_ltS (am_ltS (am_ltS (am_ltS (am_ltS (am_ltS (am_ltZ) rfl) rfl) rfl) rfl) rfl) rfl) rfl) rfl)
theorem q_10 {X : Nat × (Nat → Int32)} {S : am_St} {i : Int} (h0 : 0 ≤ i) (h1 : i < 8) : am_aald (am_m X S) 10 (am_z i) = some (.ref (14 + 4 * i.toNat)) := by
  show (if am_in (am_z i) 8 = true then some (va_rf (am_nmf 14 8 (am_z i).toNatClampNeg)) else none) = _
  rw [if_pos (am_z_in h0 (by omega) (by omega)), am_z_nat (by omega) (by omega), q_10_f _ (by omega)]
  rfl
theorem q_67_f : ∀ k, k < 54 → am_tyf 54 k = some (71 + 2 * k) := (am_ltS (am_ltS (am_ltS (am_ltS (am_ltS (am_ltS (am_ltS (am_ltS (am_ltS (am_ltS (am_ltS (am_ltS (am_ltS (am_ltS (am_ltS (am_ltS (am_ltS (am_ltS (am_ltS (am_ltS (am_ltS (am_ltS (am_ltS (am_ltS (am_ltS (am_ltS (am_ltS (am_ltS (am_ltS (am_ltS (am_ltS (am_ltS (am_ltS (am_ltS (am_ltS (am_ltS (am_ltS (am_ltS (am_ltS (am_ltS (am_ltS (am_ltS (am_ltS (am_ltS (am_ltS (am_ltS (am_ltS (am_ltS (am_ltS (am_ltS (am_ltS (am_ltS (am_ltS (am_ltS (am_ltZ) rfl) rfl) rfl) rfl) rfl) rfl) rfl) rfl) rfl) rfl) rfl) rfl) rfl) rfl) rfl) rfl) rfl) rfl) rfl) rfl) rfl) rfl) rfl) rfl) rfl) rfl) rfl) rfl) rfl) rfl) rfl) rfl) rfl) rfl) rfl) rfl) rfl) rfl) rfl) rfl) rfl) rfl) rfl) rfl) rfl) rfl) rfl) rfl) rfl) rfl) rfl) rfl) rfl) rfl)
theorem q_67 {X : Nat × (Nat → Int32)} {S : am_St} {i : Int} (h0 : 0 ≤ i) (h1 : i < 54) : am_aald (am_m X S) 67 (am_z i) = some (.ref (71 + 2 * i.toNat)) := by
  show (if am_in (am_z i) 54 = true then some (va_rf (am_tyf 54 (am_z i).toNatClampNeg)) else none) = _
  rw [if_pos (am_z_in h0 (by omega) (by omega)), am_z_nat (by omega) (by omega), q_67_f _ (by omega)]
  rfl
def am_I0 : am_St := fun h k => am_S0 h k.toNat
theorem am_I0_eq {X : Nat × (Nat → Int32)} : am_mk X am_S0 = am_m X am_I0 := rfl
theorem am_x_l {X : Nat × (Nat → Int32)} {S : am_St} {i : Int} (h0 : 0 ≤ i) (h1 : i < X.1) (h2 : X.1 ≤ 100000) : am_ald 6 (am_m X S) 100001 (am_z i) = some (X.2 i.toNat) := by
  show (if (6 : Nat) = 6 ∧ am_in (am_z i) X.1 = true then some (X.2 (am_z i).toNatClampNeg) else none) = _
  rw [if_pos ⟨rfl, am_z_in h0 h1 (by omega)⟩, am_z_nat (by omega) (by omega)]
theorem am_x_n {X : Nat × (Nat → Int32)} {S : am_St} : am_len (am_m X S) 100001 = some (am_z X.1) := congrArg some am_z_len
