/-! what is written -/
/-- the number that a tree is -/
def am_nv : am_T → Option Nat
  | .leaf z => if z = 6 then some 0 else none
  | .branch k (.leaf w) b => if k = 0 ∧ w = 7 then (am_nv b).map (· + 1) else none
  | .branch _ (.branch _ _ _) _ => none
theorem am_nv_sz : ∀ {t : am_T} {m : Nat}, am_nv t = some m → am_sz t = 2 * m + 1
  | .leaf z, m, h => by
    unfold am_nv at h
    split at h
    · cases h; rfl
    · cases h
  | .branch k (.leaf w) b, m, h => by
    unfold am_nv at h
    split at h
    · obtain ⟨q, hq, rfl⟩ := Option.map_eq_some_iff.mp h
      have := am_nv_sz hq
      show 1 + am_sz b + 1 = _
      omega
    · cases h
  | .branch _ (.branch _ _ _) _, m, h => by
    unfold am_nv at h
    cases h
/-- is the letter of the binder j levels out used -/
def am_us : Nat → am_T → Bool
  | j, .leaf z => decide (z = 50 + (j : Int))
  | j, .branch k a b => am_us j a || am_us (j + am_bd k) b
def am_dg (n : Nat) : List Int := if 10 ≤ n then [48 + (n : Int) / 10, 48 + ((n : Int) - (n : Int) / 10 * 10)] else [48 + ((n : Int) - (n : Int) / 10 * 10)]
def am_sig (z : Int) : Int := if z = 3 then 42 else if z = 4 then 35 else if z = 5 then 78 else if z = 7 then 83 else 82
def am_ltr (x : Int) : Int := 97 + (x - x / 26 * 26)
def am_br (b : Bool) (l : List Int) : List Int := if b = true then 40 :: (l ++ [41]) else l
def am_ib : am_T → Bool
  | .leaf _ => false
  | .branch k _ _ => decide (k = 1 ∨ k = 2)
def am_cx : am_T → Bool
  | .leaf _ => false
  | .branch k a b => (am_nv (.branch k a b)).isNone
def am_show : Nat → am_T → List Int
  | K, .leaf z => if z = 6 then am_dg 0 else if 50 ≤ z then [am_ltr ((K : Int) - 1 - (z - 50))] else [am_sig z]
  | K, .branch k a b => match am_nv (.branch k a b) with
    | some m => am_dg m
    | none => if k = 0 then am_br (am_ib a) (am_show K a) ++ (32 :: am_br (am_cx b) (am_show K b))
      else if k = 2 ∧ am_us 0 b = false then am_br (am_ib a) (am_show K a) ++ (62 :: am_show (K + 1) b)
      else (if k = 2 then 33 else 92) :: am_ltr (K : Int) :: 58 :: (am_show K a ++ (46 :: am_show (K + 1) b))
theorem am_dg_len {n : Nat} : (am_dg n).length ≤ 2 := by unfold am_dg; split <;> simp
theorem am_br_len {b : Bool} {l : List Int} : (am_br b l).length ≤ l.length + 2 := by unfold am_br; split <;> simp
theorem am_show_len : ∀ {K : Nat} {t : am_T}, (am_show K t).length + 2 ≤ 6 * am_sz t
  | K, .leaf z => by
    have e : am_sz (.leaf z) = 1 := rfl
    unfold am_show
    have := am_dg_len (n := 0)
    split
    · omega
    · split <;> (rw [e]; simp)
  | K, .branch k a b => by
    have e : am_sz (.branch k a b) = am_sz a + am_sz b + 1 := rfl
    have h1 := am_show_len (K := K) (t := a)
    have h2 := am_show_len (K := K) (t := b)
    have h3 := am_show_len (K := K + 1) (t := b)
    have b1 := am_br_len (b := am_ib a) (l := am_show K a)
    have b2 := am_br_len (b := am_cx b) (l := am_show K b)
    unfold am_show
    split
    · rename_i m _
      have := am_dg_len (n := m)
      omega
    · split
      · rw [List.length_append, List.length_cons]
        omega
      · split
        · rw [List.length_append, List.length_cons]
          omega
        · rw [List.length_cons, List.length_cons, List.length_cons, List.length_append, List.length_cons]
          omega
/-- what can be written: letters have binders, no names -/
def am_clw : Nat → am_T → Prop
  | K, .leaf z => (3 ≤ z ∧ z ≤ 8) ∨ (50 ≤ z ∧ z < 50 + (K : Int))
  | K, .branch k a b => k ≤ 2 ∧ am_clw K a ∧ am_clw (K + am_bd k) b
theorem am_clw_of {tl : Nat → Bool} {NM : Nat → Option am_T} : ∀ {K : Nat} {t : am_T}, am_wf tl K t → am_sp NM t = none → am_clw K t
  | K, .leaf z, h, hs => by
    have hs' : (if 10 ≤ z ∧ z < 18 then some (NM (z - 10).toNat) else none) = none := hs
    rcases h with h | h | h
    · exact Or.inl h
    · rw [if_pos ⟨h.1, h.2.1⟩] at hs'
      cases hs'
    · exact Or.inr h
  | K, .branch k a b, h, hs => by
    unfold am_sp at hs
    split at hs
    · cases hs
    · split at hs
      · cases hs
      · rename_i ha
        split at hs
        · cases hs
        · rename_i hb
          exact ⟨h.1, am_clw_of h.2.1 ha, am_clw_of h.2.2 hb⟩
theorem am_clw_gd : ∀ {K : Nat} {t : am_T}, am_clw K t → K + am_sz t ≤ 900 → am_gd t
  | K, .leaf z, h, hk => by
    have e : am_sz (.leaf z) = 1 := rfl
    have : (3 ≤ z ∧ z ≤ 8) ∨ (50 ≤ z ∧ z < 50 + (K : Int)) := h
    show 3 ≤ z ∧ z < 1000
    omega
  | K, .branch k a b, h, hk => by
    have e : am_sz (.branch k a b) = am_sz a + am_sz b + 1 := rfl
    have hb := am_bd_le (k := k)
    have sa := am_sz_pos a
    exact ⟨h.1, am_clw_gd h.2.1 (by omega), am_clw_gd h.2.2 (by omega)⟩
def am_nz (o : Option Nat) (q : Int) : Int := match o with
  | some m => q + m
  | none => -1
theorem am_ltr_b {x : Int} : 97 ≤ am_ltr x ∧ am_ltr x ≤ 122 := by unfold am_ltr; omega
theorem am_sig_b {z : Int} : 35 ≤ am_sig z ∧ am_sig z ≤ 83 := by
  unfold am_sig
  split
  · omega
  · split
    · omega
    · split
      · omega
      · split <;> omega
/-! division in 32 bits -/
theorem am_z_div {x y : Int} (h0 : 0 ≤ x) (h1 : x < 2147483648) (h2 : 0 < y) (h3 : y < 2147483648) : am_z x / am_z y = am_z (x / y) := by
  have hq0 : 0 ≤ x / y := Int.ediv_nonneg h0 (by omega)
  have hq1 : x / y ≤ x := Int.ediv_le_self _ h0
  rw [← Int32.toInt_inj, Int32.toInt_div, am_z_toInt (by omega) h1, am_z_toInt (by omega) h3, am_z_toInt (by omega) (by omega), Int.tdiv_eq_ediv_of_nonneg h0]
  unfold Int.bmod
  have e : x / y % ((2 ^ 32 : Nat) : Int) = x / y := Int.emod_eq_of_lt hq0 (by omega)
  simp only [e]
  rw [if_pos (by omega)]
theorem am_n10 : ¬ am_z 10 = 0 := by decide
theorem am_n26 : ¬ am_z 26 = 0 := by decide
theorem am_z_xor {x : Int} (h0 : 0 ≤ x) (h1 : x < 2147483648) : ¬ am_z x ^^^ am_z 26 < am_z 0 := by
  obtain ⟨k, rfl⟩ := Int.eq_ofNat_of_zero_le h0
  have e : am_z (k : Int) ^^^ am_z 26 = am_z ((k ^^^ 26 : Nat) : Int) := by
    apply Int32.toBitVec_inj.mp
    rw [Int32.toBitVec_xor]
    show (Int32.ofInt k).toBitVec ^^^ (Int32.ofInt ((26 : Nat) : Int)).toBitVec = (Int32.ofInt ((k ^^^ 26 : Nat) : Int)).toBitVec
    rw [Int32.toBitVec_ofInt, Int32.toBitVec_ofInt, Int32.toBitVec_ofInt, BitVec.ofInt_natCast, BitVec.ofInt_natCast, BitVec.ofInt_natCast]
    exact BitVec.ofNat_xor.symm
  have hb : k ^^^ 26 < 2 ^ 31 := Nat.xor_lt_two_pow (by omega) (by omega)
  rw [e, am_z_lt (by omega) (by omega) (by omega) (by omega)]
  omega
def am_bi (b : Bool) : Int := match b with
  | true => 1
  | false => 0
theorem am_nz_6 {z q : Int} (h : z = 6) : am_nz (am_nv (.leaf z)) q = q := by
  unfold am_nv
  rw [if_pos h]
  show q + ((0 : Nat) : Int) = q
  omega
theorem am_nz_l {z q : Int} (h : ¬ z = 6) : am_nz (am_nv (.leaf z)) q = -1 := by
  unfold am_nv
  rw [if_neg h]
  rfl
theorem am_nz_S {b : am_T} {k : Nat} {w q : Int} (h : k = 0 ∧ w = 7) : am_nz (am_nv (.branch k (.leaf w) b)) q = am_nz (am_nv b) (q + 1) := by
  have e : am_nv (.branch k (.leaf w) b) = (am_nv b).map (· + 1) := if_pos h
  rw [e]
  cases am_nv b with
  | none => rfl
  | some m =>
    show q + ((m + 1 : Nat) : Int) = q + 1 + m
    omega
theorem am_nz_n {b : am_T} {k : Nat} {w q : Int} (h : ¬ (k = 0 ∧ w = 7)) : am_nz (am_nv (.branch k (.leaf w) b)) q = -1 := by
  have e : am_nv (.branch k (.leaf w) b) = none := if_neg h
  rw [e]
  rfl
theorem am_nz_b {b x y : am_T} {k k' : Nat} {q : Int} : am_nz (am_nv (.branch k (.branch k' x y) b)) q = -1 := rfl
theorem am_sg_hd {f : Int → Int} {o : Int} : ∀ {t : am_T}, am_sg f o (am_lay t) → f o = am_hd t
  | .leaf _, h => am_sg_one.mp h
  | .branch _ _ _, h => (am_sg_cons.mp h).1
theorem am_br_t {l : List Int} : am_br true l = 40 :: (l ++ [41]) := rfl
theorem am_br_f {l : List Int} : am_br false l = l := rfl
theorem am_nv_m {t : am_T} {m : Nat} (h : am_nv t = some m) {K : Nat} : am_show K t = am_dg m := by
  cases t with
  | leaf z =>
    have h' : (if z = 6 then some 0 else none) = some m := h
    split at h'
    · rename_i hz
      cases h'
      exact if_pos hz
    · cases h'
  | branch k a b =>
    unfold am_show
    rw [h]
theorem am_show_0 {a b : am_T} {K : Nat} (h : am_nv (.branch 0 a b) = none) : am_show K (.branch 0 a b) = am_br (am_ib a) (am_show K a) ++ (32 :: am_br (am_cx b) (am_show K b)) := by
  conv => lhs; unfold am_show
  rw [h]
  exact if_pos rfl
theorem am_nv_k {a b : am_T} {k : Nat} (hk : k ≠ 0) : am_nv (.branch k a b) = none := by
  cases a with
  | leaf w => exact if_neg (fun q => hk q.1)
  | branch _ _ _ => rfl
theorem am_show_1 {a b : am_T} {K k : Nat} (hk : k ≠ 0) (h : k = 2 ∧ am_us 0 b = false) : am_show K (.branch k a b) = am_br (am_ib a) (am_show K a) ++ (62 :: am_show (K + 1) b) := by
  conv => lhs; unfold am_show
  rw [am_nv_k hk]
  exact (if_neg hk).trans (if_pos h)
theorem am_show_2 {a b : am_T} {K k : Nat} (hk : k ≠ 0) (h : ¬ (k = 2 ∧ am_us 0 b = false)) : am_show K (.branch k a b) = (if k = 2 then 33 else 92) :: am_ltr (K : Int) :: 58 :: (am_show K a ++ (46 :: am_show (K + 1) b)) := by
  conv => lhs; unfold am_show
  rw [am_nv_k hk]
  exact (if_neg hk).trans (if_neg h)
theorem am_show_L {z : Int} {K : Nat} (h : 50 ≤ z) : am_show K (.leaf z) = [am_ltr ((K : Int) - 1 - (z - 50))] := (if_neg (by omega)).trans (if_pos h)
theorem am_show_s {z : Int} {K : Nat} (h : ¬ z = 6) (h' : ¬ 50 ≤ z) : am_show K (.leaf z) = [am_sig z] := (if_neg h).trans (if_neg h')
/-- a forest of parts, each under so many binders -/
def am_ul (F : List (Nat × am_T)) : Bool := F.any (fun p => am_us p.1 p.2)
theorem am_ul_leaf {z : Int} {j : Nat} {F : List (Nat × am_T)} : am_ul ((j, .leaf z) :: F) = (decide (z = 50 + (j : Int)) || am_ul F) := rfl
theorem am_ul_branch {k j : Nat} {a b : am_T} {F : List (Nat × am_T)} : am_ul ((j, .branch k a b) :: F) = am_ul ((j, a) :: (j + am_bd k, b) :: F) := by
  show ((am_us j a || am_us (j + am_bd k) b) || F.any _) = (am_us j a || (am_us (j + am_bd k) b || F.any _))
  rw [Bool.or_assoc]
def am_pb : am_T → Bool
  | .leaf _ => false
  | .branch _ _ _ => true
theorem am_pb_f {t : am_T} (h : am_pb t = false) : am_cx t = false := by
  cases t with
  | leaf _ => rfl
  | branch _ _ _ => cases h
theorem am_pb_t {t : am_T} (h : am_pb t = true) : am_cx t = (am_nv t).isNone := by
  cases t with
  | leaf _ => cases h
  | branch _ _ _ => rfl
