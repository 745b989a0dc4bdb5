/-! small integers in 32 bits -/
def am_z (x : Int) : Int32 := Int32.ofInt x
theorem am_z_toInt {x : Int} (h1 : -2147483648 ≤ x) (h2 : x < 2147483648) : (am_z x).toInt = x := Int32.toInt_ofInt_of_le (by simpa using h1) (by simpa using h2)
theorem am_z_of (x : Int32) : am_z x.toInt = x := Int32.ofInt_toInt x
theorem am_z_add {x y : Int} : am_z x + am_z y = am_z (x + y) := (Int32.ofInt_add x y).symm
theorem am_z_sub {x y : Int} : am_z x - am_z y = am_z (x - y) := (Int32.ofInt_sub x y).symm
theorem am_z_mul {x y : Int} : am_z x * am_z y = am_z (x * y) := (Int32.ofInt_mul x y).symm
theorem am_z_lt {x y : Int} (h1 : -2147483648 ≤ x) (h2 : x < 2147483648) (h3 : -2147483648 ≤ y) (h4 : y < 2147483648) : (am_z x < am_z y) = (x < y) := by
  apply propext
  rw [Int32.lt_iff_toInt_lt, am_z_toInt h1 h2, am_z_toInt h3 h4]
theorem am_z_le {x y : Int} (h1 : -2147483648 ≤ x) (h2 : x < 2147483648) (h3 : -2147483648 ≤ y) (h4 : y < 2147483648) : (am_z x ≤ am_z y) = (x ≤ y) := by
  apply propext
  rw [Int32.le_iff_toInt_le, am_z_toInt h1 h2, am_z_toInt h3 h4]
theorem am_z_eq {x y : Int} (h1 : -2147483648 ≤ x) (h2 : x < 2147483648) (h3 : -2147483648 ≤ y) (h4 : y < 2147483648) : (am_z x = am_z y) = (x = y) := by
  apply propext
  rw [← Int32.toInt_inj, am_z_toInt h1 h2, am_z_toInt h3 h4]
theorem am_z_nat {i : Int} (h1 : -2147483648 ≤ i) (h2 : i < 2147483648) : (am_z i).toNatClampNeg = i.toNat := Int32.toNatClampNeg_ofInt_of_le (by simpa using h1) (by simpa using h2)
theorem am_z_in {i : Int} {n : Nat} (h0 : 0 ≤ i) (h1 : i < n) (h2 : n ≤ 2147483648) : am_in (am_z i) n = true := by
  unfold am_in
  apply decide_eq_true
  rw [am_z_nat (by omega) (by omega)]
  have : ¬ am_z i < 0 := by
    show ¬ am_z i < am_z 0
    rw [am_z_lt (by omega) (by omega) (by omega) (by omega)]
    omega
  rintro (h | h)
  · exact this h
  · omega
theorem am_fit_z0 : am_fit 1 (.int (am_z 0)) = true := rfl
theorem am_fit_z1 : am_fit 1 (.int (am_z 1)) = true := rfl
theorem am_fit_zb {x : Int} (h : x = 0 ∨ x = 1) : am_fit 1 (.int (am_z x)) = true := by rcases h with rfl | rfl <;> rfl
theorem am_fit_zc {x : Int} (h0 : 0 ≤ x) (h1 : x ≤ 65535) : am_fit 2 (.int (am_z x)) = true := by
  show (decide ((0 : Int32) ≤ am_z x) && decide (am_z x ≤ (65535 : Int32))) = true
  have e1 : ((0 : Int32) ≤ am_z x) := by
    show am_z 0 ≤ am_z x
    rw [am_z_le (by omega) (by omega) (by omega) (by omega)]; exact h0
  have e2 : (am_z x ≤ (65535 : Int32)) := by
    show am_z x ≤ am_z 65535
    rw [am_z_le (by omega) (by omega) (by omega) (by omega)]; exact h1
  rw [decide_eq_true e1, decide_eq_true e2]
  rfl
theorem am_z_len {n : Nat} : Int32.ofNat n = am_z n := (Int32.ofInt_eq_ofNat).symm
theorem am_z_char {x : Int} (h0 : 0 ≤ x) (h1 : x ≤ 65535) : ((am_z x).toUInt32 % 65536).toInt32 = am_z x := by
  apply Int32.toBitVec_inj.mp
  apply BitVec.eq_of_toNat_eq
  have hz : (am_z x).toBitVec = BitVec.ofInt 32 x := Int32.toBitVec_ofInt x
  have e : (BitVec.ofInt 32 x).toNat = x.toNat := by
    rw [BitVec.toNat_ofInt]
    have : x % (2 ^ 32 : Nat) = x := Int.emod_eq_of_lt h0 (by omega)
    rw [this]
  show ((am_z x).toUInt32 % 65536).toNat = (am_z x).toBitVec.toNat
  rw [UInt32.toNat_mod]
  show (am_z x).toBitVec.toNat % 65536 = _
  rw [hz, e]
  omega
/-- cells are made -/
theorem am_AW_up {d j pc : Nat} {L st : List Value} {n : am_N} {M : am_M} {q : am_X} {g' : am_G} {Q : Option Value → am_N → am_M → Prop} (hc : am_cd (am_md j) pc = some q) (hk : am_isK q = 0) (ha : am_act0 q (pc, L, st, n, M) = some g') (hm : am_mono n g'.2.2.2.1 = true) : am_AW d j (pc, L, st, n, M) Q = am_AW d j g' Q := by
  apply propext
  constructor
  · rintro ⟨k, res, h, hq⟩
    cases k with
    | zero => cases h
    | succ k =>
      unfold am_run at h
      simp only [hc, hk, ha, hm, if_true] at h
      exact ⟨k, res, h, hq⟩
  · rintro ⟨k, res, h, hq⟩
    refine ⟨k + 1, res, ?_, hq⟩
    unfold am_run
    simp only [hc, hk, ha, hm, if_true]
    exact h
theorem am_AW_new {d j pc N c s i x y z : Nat} {L st : List Value} {M : am_M} {Q : Option Value → am_N → am_M → Prop} (hc : am_cd (am_md j) pc = some (.new i, 3, x, y, z)) (hx : x < 1000) (hN : N < 100000) : am_AW d j (pc, L, st, (N, c, s, true), M) Q = am_AW d j (pc + 3, L, .ref N :: st, (N + 1, c + 1, s + (am_df x).length, true), am_up M N (am_O x (am_df x))) Q :=
  am_AW_up hc (show (if x = 1000 then 1 else 0) = 0 from if_neg (by omega)) (show (if x = 1000 then none else if true = true ∧ N < 100000 then some _ else none) = _ by rw [if_neg (by omega), if_pos ⟨rfl, hN⟩]) (am_mono_iff.mpr ⟨Nat.le_succ _, Nat.le_add_right _ _, fun _ => rfl⟩)
theorem am_AW_newa {d j pc N c s : Nat} {k : Int} {t : ClassFile.ArrayType} {cc : am_C} {L st : List Value} {M : am_M} {Q : Option Value → am_N → am_M → Prop} (hc : am_cd (am_md j) pc = some (.newarray t, 2, 0, 0, 0)) (h0 : 0 ≤ k) (h1 : k ≤ 100000) (hN : N < 100000) (ht : am_newa t k.toNat = some cc) {b : Bool} (hb : (!(am_isJ cc)) = b) : am_AW d j (pc, L, .int (am_z k) :: st, (N, c, s, true), M) Q = am_AW d j (pc + 2, L, .ref N :: st, (N + 1, c + 1, s + k.toNat, b), am_up M N cc) Q := by
  subst hb
  have hz : ¬ am_z k < 0 := by
    show ¬ am_z k < am_z 0
    rw [am_z_lt (by omega) (by omega) (by omega) (by omega)]
    omega
  have hn := am_z_nat (i := k) (by omega) (by omega)
  exact am_AW_up hc rfl (show (if true = true ∧ N < 100000 ∧ ¬ am_z k < 0 ∧ (am_z k).toNatClampNeg ≤ 100000 then (am_newa t (am_z k).toNatClampNeg).map _ else none) = _ by rw [hn, if_pos ⟨rfl, hN, hz, by omega⟩, ht]; rfl) (am_mono_iff.mpr ⟨Nat.le_succ _, Nat.le_add_right _ _, fun _ => rfl⟩)
theorem am_AW_anewa {d j pc N c s i x y z : Nat} {k : Int} {L st : List Value} {M : am_M} {Q : Option Value → am_N → am_M → Prop} (hc : am_cd (am_md j) pc = some (.anewarray i, 3, x, y, z)) (h0 : 0 ≤ k) (h1 : k ≤ 100000) (hN : N < 100000) : am_AW d j (pc, L, .int (am_z k) :: st, (N, c, s, true), M) Q = am_AW d j (pc + 3, L, .ref N :: st, (N + 1, c + 1, s + k.toNat, true), am_up M N (am_R 4 k.toNat (fun _ => none))) Q := by
  have hz : ¬ am_z k < 0 := by
    show ¬ am_z k < am_z 0
    rw [am_z_lt (by omega) (by omega) (by omega) (by omega)]
    omega
  have hn := am_z_nat (i := k) (by omega) (by omega)
  exact am_AW_up hc rfl (show (if true = true ∧ N < 100000 ∧ ¬ am_z k < 0 ∧ (am_z k).toNatClampNeg ≤ 100000 then some _ else none) = _ by rw [hn, if_pos ⟨rfl, hN, hz, by omega⟩]) (am_mono_iff.mpr ⟨Nat.le_succ _, Nat.le_add_right _ _, fun _ => rfl⟩)
theorem am_then_n {d j pc : Nat} {L rest : List Value} {N c s N' c' s' : Nat} {M : am_M} {b : Bool} {r : Option Value} {Q : Option Value → am_N → am_M → Prop} (hr : r ≠ am_thrown) (h1 : c ≤ c') (h2 : s ≤ s') : am_then d j pc 0 L rest (N, c, s, true) Q r (N', c', s', b) M = am_AW d j (pc, L, r.toList ++ rest, (N', c', s', b), M) Q := by
  apply propext
  unfold am_then
  constructor
  · rintro ⟨-, ⟨-, h2, -⟩ | ⟨-, h1⟩⟩
    · exact absurd rfl h2
    · exact h1
  · intro h
    exact ⟨am_mono_iff.mpr ⟨h1, h2, fun _ => rfl⟩, Or.inr ⟨hr, h⟩⟩
theorem am_then_nv {d j pc : Nat} {L rest : List Value} {N c s N' c' s' : Nat} {M : am_M} {b : Bool} {Q : Option Value → am_N → am_M → Prop} (h1 : c ≤ c') (h2 : s ≤ s') : am_then d j pc 0 L rest (N, c, s, true) Q none (N', c', s', b) M = am_AW d j (pc, L, rest, (N', c', s', b), M) Q := am_then_n (fun q => by cases q) h1 h2
theorem am_Do_0 {d : Nat} {as : List Value} {n : am_N} {M : am_M} {Q : Option Value → am_N → am_M → Prop} (hd : 1 ≤ d) : am_Do d 2000 as n M Q = Q none n M := by
  obtain ⟨d, rfl⟩ : ∃ e, d = e + 1 := ⟨d - 1, by omega⟩
  exact am_Do_2000
theorem am_Do_in {d j : Nat} {as : List Value} {n : am_N} {M : am_M} {Q : Option Value → am_N → am_M → Prop} (hd : 1 ≤ d) (h0 : j < 2000) (h2 : as.all am_c1 = true ∧ as.length ≤ (am_md j).2.2.2.1) : am_Do d j as n M Q = am_AW (d - 1) j (0, am_ent (am_md j).2.2.2.1 as, [], n, M) Q := by
  obtain ⟨d, rfl⟩ : ∃ e, d = e + 1 := ⟨d - 1, by omega⟩
  exact am_Do_eq (by omega) (by omega) h2
theorem am_AW_ifz {d j pc : Nat} {L st : List Value} {n : am_N} {M : am_M} {Q : Option Value → am_N → am_M → Prop} {k : ClassFile.Cond} {o : Int} {x : Int32} (hc : am_cd (am_md j) pc = some (.ifCond k o, 3, 0, 0, 0)) : am_AW d j (pc, L, .int x :: st, n, M) Q = if am_cond k x (am_z 0) = true then am_AW d j (am_tgt pc o, L, st, n, M) Q else am_AW d j (pc + 3, L, st, n, M) Q := am_AW_if hc
