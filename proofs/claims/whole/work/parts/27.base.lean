/-! arithmetic for the simplifier, with omega behind it -/
theorem am_lt_T {x y : Int} (h : x < y) : (x < y) = True := eq_true h
theorem am_lt_F {x y : Int} (h : ¬ x < y) : (x < y) = False := eq_false h
theorem am_le_T {x y : Int} (h : x ≤ y) : (x ≤ y) = True := eq_true h
theorem am_le_F {x y : Int} (h : ¬ x ≤ y) : (x ≤ y) = False := eq_false h
theorem am_eq_T {x y : Int} (h : x = y) : (x = y) = True := eq_true h
theorem am_eq_F {x y : Int} (h : ¬ x = y) : (x = y) = False := eq_false h
/-! a list lies in a row of integers from an index on -/
def am_sg (f : Int → Int) (o : Int) (l : List Int) : Prop := ∀ (i : Nat) (v : Int), l[i]? = some v → f (o + i) = v
theorem am_sg_nil {f : Int → Int} {o : Int} : am_sg f o [] := fun _ _ h => by cases h
theorem am_sg_cons {f : Int → Int} {o v : Int} {l : List Int} : am_sg f o (v :: l) ↔ f o = v ∧ am_sg f (o + 1) l := by
  constructor
  · intro h
    refine ⟨?_, fun i w hi => ?_⟩
    · have := h 0 v rfl
      simpa using this
    · have := h (i + 1) w hi
      rw [show o + 1 + (i : Int) = o + ((i + 1 : Nat) : Int) by omega]
      exact this
  · rintro ⟨h0, h1⟩ i w hi
    cases i with
    | zero =>
      cases hi
      simpa using h0
    | succ i =>
      have := h1 i w hi
      rw [show o + ((i + 1 : Nat) : Int) = o + 1 + (i : Int) by omega]
      exact this
theorem am_sg_app {f : Int → Int} : ∀ {a b : List Int} {o : Int}, am_sg f o (a ++ b) ↔ am_sg f o a ∧ am_sg f (o + a.length) b
  | [], b, o => by
    constructor
    · intro h
      exact ⟨am_sg_nil, by simpa using h⟩
    · rintro ⟨-, h⟩
      simpa using h
  | v :: a, b, o => by
    rw [List.cons_append, am_sg_cons, am_sg_cons, am_sg_app (a := a)]
    rw [show o + ((v :: a).length : Int) = o + 1 + (a.length : Int) by rw [List.length_cons]; omega]
    constructor
    · rintro ⟨h1, h2, h3⟩
      exact ⟨⟨h1, h2⟩, h3⟩
    · rintro ⟨⟨h1, h2⟩, h3⟩
      exact ⟨h1, h2, h3⟩
theorem am_sg_one {f : Int → Int} {o v : Int} : am_sg f o [v] ↔ f o = v := by
  rw [am_sg_cons]
  exact ⟨fun h => h.1, fun h => ⟨h, am_sg_nil⟩⟩
theorem am_sg_congr {f g : Int → Int} {o : Int} {l : List Int} (h : am_sg f o l) (hg : ∀ k, o ≤ k → k < o + l.length → g k = f k) : am_sg g o l := fun i v hi => by
  have hl : i < l.length := (List.getElem?_eq_some_iff.mp hi).1
  rw [hg (o + i) (by omega) (by omega)]
  exact h i v hi
theorem am_sg_eq {f g : Int → Int} {o : Int} {l : List Int} (h : am_sg f o l) (hg : g = f) : am_sg g o l := hg ▸ h
theorem am_sg_set {S : am_St} {a : Nat} {o k v : Int} {l : List Int} (h : am_sg (S a) o l) (hk : k < o ∨ o + l.length ≤ k) : am_sg (am_set S a k v a) o l :=
  am_sg_congr h (fun j h1 h2 => am_set_sk (by omega))
theorem am_sg_snoc {S : am_St} {a : Nat} {o v : Int} {l : List Int} (h : am_sg (S a) o l) : am_sg (am_set S a (o + l.length) v a) o (l ++ [v]) :=
  am_sg_app.mpr ⟨am_sg_set h (Or.inr (Int.le_refl _)), am_sg_one.mpr am_set_se⟩
theorem am_sg_fun {f : Int → Int} {o : Int} : ∀ {a b : List Int}, am_sg f o a → am_sg f o b → a.length = b.length → a = b := fun {a b} ha hb hl => List.ext_getElem? (fun i => by
  by_cases hi : i < a.length
  · have h1 := List.getElem?_eq_getElem hi
    have h2 := List.getElem?_eq_getElem (hl ▸ hi : i < b.length)
    rw [h1, h2, ← ha i _ h1, ← hb i _ h2]
  · rw [List.getElem?_eq_none (by omega), List.getElem?_eq_none (by omega)])
/-! the four characters in an int -/
def am_by (x : Int32) (s : Int) : Int := ((x.toBitVec >>> s.toNat).toNat % 256 : Nat)
theorem am_by_0 {x : Int32} {s : Int} : 0 ≤ am_by x s := by unfold am_by; omega
theorem am_by_1 {x : Int32} {s : Int} : am_by x s < 256 := by unfold am_by; omega
theorem am_bv255 {b : BitVec 32} {i : Nat} : (255#32).getLsbD i = decide (i < 8) := by
  by_cases h : i < 8
  · have : i = 0 ∨ i = 1 ∨ i = 2 ∨ i = 3 ∨ i = 4 ∨ i = 5 ∨ i = 6 ∨ i = 7 := by omega
    rcases this with rfl | rfl | rfl | rfl | rfl | rfl | rfl | rfl <;> rfl
  · rw [decide_eq_false h]
    rw [BitVec.getLsbD_ofNat]
    have : Nat.testBit 255 i = false := Nat.testBit_lt_two_pow (Nat.lt_of_lt_of_le (by decide : 255 < 2 ^ 8) (Nat.pow_le_pow_right (by decide) (by omega)))
    rw [this, Bool.and_false]
theorem am_bv_and {b : BitVec 32} : b &&& 255#32 = BitVec.ofNat 32 (b.toNat % 256) := by
  apply BitVec.eq_of_toNat_eq
  rw [BitVec.toNat_and, BitVec.toNat_ofNat, BitVec.toNat_ofNat]
  have : b.toNat &&& 255 % 2 ^ 32 = b.toNat % 2 ^ 8 := by
    rw [show 255 % 2 ^ 32 = 2 ^ 8 - 1 by decide, Nat.and_two_pow_sub_one_eq_mod]
  rw [this]
  have h := b.isLt
  omega
theorem am_z_bv {k : Nat} : (am_z (k : Int)).toBitVec = BitVec.ofNat 32 k := by
  rw [show (am_z (k : Int)) = Int32.ofInt k from rfl, Int32.toBitVec_ofInt, BitVec.ofInt_natCast]
theorem am_ush {x : Int32} {s : Int} (hs : s = 0 ∨ s = 8 ∨ s = 16 ∨ s = 24) : (x.toUInt32 >>> ((am_z s).toUInt32 &&& Int32.toUInt32 31)).toInt32 &&& am_z 255 = am_z (am_by x s) := by
  apply Int32.toBitVec_inj.mp
  unfold am_by
  rw [am_z_bv, ← am_bv_and]
  rcases hs with rfl | rfl | rfl | rfl <;> rfl
theorem am_shr_aux {b : BitVec 32} {s : Nat} (hs : s + 8 ≤ 32) : b.sshiftRight s &&& 255#32 = b >>> s &&& 255#32 := by
  apply BitVec.eq_of_getLsbD_eq
  intro i hi
  rw [BitVec.getLsbD_and, BitVec.getLsbD_and, am_bv255 (b := b)]
  by_cases h : i < 8
  · rw [BitVec.getLsbD_sshiftRight, BitVec.getLsbD_ushiftRight, if_pos (by omega)]
    rw [show decide (32 ≤ i) = false from decide_eq_false (by omega)]
    rfl
  · rw [decide_eq_false h, Bool.and_false, Bool.and_false]
theorem am_shr {x : Int32} {s : Int} (hs : s = 0 ∨ s = 8 ∨ s = 16 ∨ s = 24) : (x >>> ((am_z s) &&& 31)) &&& am_z 255 = am_z (am_by x s) := by
  apply Int32.toBitVec_inj.mp
  unfold am_by
  rw [am_z_bv, ← am_bv_and, ← am_shr_aux (by omega)]
  rcases hs with rfl | rfl | rfl | rfl <;> rfl
def am_ch (x : Int32) (s : Int) : List Int := if am_by x s = 0 then [] else [am_by x s]
def am_chs (x : Int32) : List Int := am_ch x 24 ++ am_ch x 16 ++ am_ch x 8 ++ am_ch x 0
theorem am_ch_0 {x : Int32} {s : Int} (h : am_by x s = 0) : am_ch x s = [] := if_pos h
theorem am_ch_1 {x : Int32} {s : Int} (h : ¬ am_by x s = 0) : am_ch x s = [am_by x s] := if_neg h
theorem am_ch_len {x : Int32} {s : Int} : (am_ch x s).length ≤ 1 := by unfold am_ch; split <;> simp
theorem am_chs_len {x : Int32} : (am_chs x).length ≤ 4 := by
  unfold am_chs
  rw [List.length_append, List.length_append, List.length_append]
  have h1 := am_ch_len (x := x) (s := 24)
  have h2 := am_ch_len (x := x) (s := 16)
  have h3 := am_ch_len (x := x) (s := 8)
  have h4 := am_ch_len (x := x) (s := 0)
  omega
theorem am_ch_ok {x : Int32} {s c : Int} (h : c ∈ am_ch x s) : 0 < c ∧ c < 256 := by
  have h0 := am_by_0 (x := x) (s := s)
  have h1 := am_by_1 (x := x) (s := s)
  unfold am_ch at h
  split at h
  · cases h
  · cases List.mem_singleton.mp h
    omega
theorem am_chs_ok {x : Int32} {c : Int} (h : c ∈ am_chs x) : 0 < c ∧ c < 256 := by
  unfold am_chs at h
  rw [List.mem_append, List.mem_append, List.mem_append] at h
  rcases h with ((h | h) | h) | h <;> exact am_ch_ok h
