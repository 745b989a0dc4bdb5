theorem w1_40 {d : Nat} {M : am_M} {Q : Option Value → am_N → am_M → Prop} {L : List Value} {N c s : Nat} : am_AW d 1 (40, L, [], (N, c, s, false), M) Q = Q am_thrown (N, c + 1, s + 6, false) M := am_AW_ret (rv := (am_thrown, (N, c + 1, s + 6, false))) rfl rfl rfl (am_mono_iff.mpr ⟨Nat.le_succ _, Nat.le_add_right _ _, id⟩)
theorem w3_10 {d : Nat} {M : am_M} {Q : Option Value → am_N → am_M → Prop} {L : List Value} {N c s : Nat} : am_AW d 3 (10, L, [], (N, c, s, false), M) Q = Q am_thrown (N, c + 1, s + 6, false) M := am_AW_ret (rv := (am_thrown, (N, c + 1, s + 6, false))) rfl rfl rfl (am_mono_iff.mpr ⟨Nat.le_succ _, Nat.le_add_right _ _, id⟩)
theorem w6_22 {d : Nat} {M : am_M} {Q : Option Value → am_N → am_M → Prop} {L : List Value} {N c s : Nat} : am_AW d 6 (22, L, [], (N, c, s, false), M) Q = Q am_thrown (N, c + 1, s + 6, false) M := am_AW_ret (rv := (am_thrown, (N, c + 1, s + 6, false))) rfl rfl rfl (am_mono_iff.mpr ⟨Nat.le_succ _, Nat.le_add_right _ _, id⟩)
theorem in_146 {d : Nat} {n : am_N} {M : am_M} {Q : Option Value → am_N → am_M → Prop} {a0 : Nat} {a1 : Int32} {a2 : Int32} {a3 : Int32} {a4 : Int32} {a5 : Int32} {a6 : Nat} (hd : 1 ≤ d) : am_Do d 146 [.ref a0, .int a1, .int a2, .int a3, .int a4, .int a5, .ref a6] n M Q = am_AW (d - 1) 146 (0, [.ref a0, .int a1, .int a2, .int a3, .int a4, .int a5, .ref a6, am_junk], [], n, M) Q := am_Do_in hd (by omega) ⟨rfl, Nat.le_of_ble_eq_true rfl⟩
theorem in_147 {d : Nat} {n : am_N} {M : am_M} {Q : Option Value → am_N → am_M → Prop} {a0 : Nat} {a1 : Int32} {a2 : Nat} (hd : 1 ≤ d) : am_Do d 147 [.ref a0, .int a1, .ref a2] n M Q = am_AW (d - 1) 147 (0, [.ref a0, .int a1, .ref a2, am_junk], [], n, M) Q := am_Do_in hd (by omega) ⟨rfl, Nat.le_of_ble_eq_true rfl⟩
theorem in_148 {d : Nat} {n : am_N} {M : am_M} {Q : Option Value → am_N → am_M → Prop} {a0 : Nat} {a1 : Int32} {a2 : Int32} {a3 : Nat} (hd : 1 ≤ d) : am_Do d 148 [.ref a0, .int a1, .int a2, .ref a3] n M Q = am_AW (d - 1) 148 (0, [.ref a0, .int a1, .int a2, .ref a3, am_junk], [], n, M) Q := am_Do_in hd (by omega) ⟨rfl, Nat.le_of_ble_eq_true rfl⟩
theorem am_then_t {d j pc z : Nat} {L rest : List Value} {N c s c' s' : Nat} {M : am_M} {Q : Option Value → am_N → am_M → Prop} (hz : z ≠ 0) (h1 : c ≤ c') (h2 : s ≤ s') : am_then d j pc z L rest (N, c, s, false) Q am_thrown (N, c', s', false) M = Q (some (.int (am_z 1))) (N, c', s', false) M := by
  apply propext
  unfold am_then
  constructor
  · rintro ⟨-, ⟨-, -, h⟩ | ⟨h, -⟩⟩
    · exact h
    · exact absurd rfl h
  · intro h
    exact ⟨am_mono_iff.mpr ⟨h1, h2, id⟩, Or.inl ⟨rfl, hz, h⟩⟩
theorem am_then_z {d j pc z : Nat} {L rest : List Value} {n : am_N} {M : am_M} {x : Int32} {Q : Option Value → am_N → am_M → Prop} : am_then d j pc z L rest n Q (some (.int x)) n M = am_AW d j (pc, L, .int x :: rest, n, M) Q := by
  apply propext
  unfold am_then
  constructor
  · rintro ⟨-, ⟨h, -⟩ | ⟨-, h⟩⟩
    · cases h
    · exact h
  · intro h
    exact ⟨am_mono_self n, Or.inr ⟨(fun q => by cases q), h⟩⟩
