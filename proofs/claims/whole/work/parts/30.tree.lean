/-! trees: a leaf holds a token, a branch one of the three pairs -/
abbrev am_T : Type := Lean.RArray Int
def am_lay : am_T → List Int
  | .leaf z => [z]
  | .branch k a b => (k : Int) :: (am_lay a ++ am_lay b)
def am_sz : am_T → Nat
  | .leaf _ => 1
  | .branch _ a b => am_sz a + am_sz b + 1
theorem am_lay_len : ∀ t, (am_lay t).length = am_sz t
  | .leaf _ => rfl
  | .branch k a b => by
    show ((k : Int) :: (am_lay a ++ am_lay b)).length = am_sz a + am_sz b + 1
    rw [List.length_cons, List.length_append, am_lay_len a, am_lay_len b]
theorem am_sz_pos (t : am_T) : 1 ≤ am_sz t := by
  cases t with
  | leaf z => exact Nat.le_refl 1
  | branch k a b => exact Nat.le_add_left 1 _
/-- pairs are pairs, leaves are none -/
def am_gd : am_T → Prop
  | .leaf z => 3 ≤ z ∧ z < 1000
  | .branch k a b => k ≤ 2 ∧ am_gd a ∧ am_gd b
def am_bd (k : Nat) : Nat := if k = 0 then 0 else 1
/-- letters from outside move -/
def am_li (m : Int) : Nat → am_T → am_T
  | j, .leaf z => if 50 + (j : Int) ≤ z then .leaf (z + m) else .leaf z
  | j, .branch k a b => .branch k (am_li m j a) (am_li m (j + am_bd k) b)
/-- a tree for a letter -/
def am_sb (u : am_T) : Nat → am_T → am_T
  | j, .leaf z => if z = 50 + (j : Int) then am_li j 0 u else if 50 + (j : Int) < z then .leaf (z - 1) else .leaf z
  | j, .branch k a b => .branch k (am_sb u j a) (am_sb u (j + am_bd k) b)
def am_nm : Nat → am_T
  | 0 => .leaf 6
  | n + 1 => .branch 0 (.leaf 7) (am_nm n)
/-- numbers written out -/
def am_xp : am_T → am_T
  | .leaf z => if 20 ≤ z ∧ z ≤ 40 then am_nm (z - 20).toNat else .leaf z
  | .branch k a b => .branch k (am_xp a) (am_xp b)
theorem am_sz_li {m : Int} : ∀ {j : Nat} {t : am_T}, am_sz (am_li m j t) = am_sz t
  | j, .leaf z => by
    unfold am_li
    split <;> rfl
  | j, .branch k a b => by
    show am_sz (am_li m j a) + am_sz (am_li m (j + am_bd k) b) + 1 = am_sz a + am_sz b + 1
    rw [am_sz_li, am_sz_li]
theorem am_li_nm {m : Int} : ∀ {n j : Nat}, am_li m j (am_nm n) = am_nm n
  | 0, j => by
    show (if 50 + (j : Int) ≤ 6 then _ else _) = _
    rw [if_neg (by omega)]
    rfl
  | n + 1, j => by
    show Lean.RArray.branch 0 (if 50 + (j : Int) ≤ 7 then _ else _) (am_li m (j + am_bd 0) (am_nm n)) = _
    rw [if_neg (by omega), am_li_nm]
    rfl
theorem am_li_0 : ∀ {j : Nat} {t : am_T}, am_li 0 j t = t
  | j, .leaf z => by
    unfold am_li
    rw [Int.add_zero]
    split <;> rfl
  | j, .branch k a b => by
    show Lean.RArray.branch k (am_li 0 j a) (am_li 0 (j + am_bd k) b) = _
    rw [am_li_0, am_li_0]
/-! a list at the end of another, up to a length -/
def am_app (c : Nat) (o : Option (List Int)) (l : List Int) : Option (List Int) := match o with
  | none => none
  | some a => if a.length + l.length ≤ c then some (a ++ l) else none
theorem am_app_none {c : Nat} {l : List Int} : am_app c none l = none := rfl
theorem am_app_nil {c : Nat} {o : Option (List Int)} (h : ∀ a, o = some a → a.length ≤ c) : am_app c o [] = o := by
  cases o with
  | none => rfl
  | some a =>
    show (if a.length + 0 ≤ c then some (a ++ []) else none) = some a
    rw [if_pos (show a.length + 0 ≤ c from h a rfl), List.append_nil]
theorem am_app_app {c : Nat} {o : Option (List Int)} {l m : List Int} : am_app c (am_app c o l) m = am_app c o (l ++ m) := by
  cases o with
  | none => rfl
  | some a =>
    show am_app c (if a.length + l.length ≤ c then some (a ++ l) else none) m = if a.length + (l ++ m).length ≤ c then some (a ++ (l ++ m)) else none
    rw [List.length_append]
    by_cases h : a.length + l.length ≤ c
    · rw [if_pos h]
      show (if (a ++ l).length + m.length ≤ c then some (a ++ l ++ m) else none) = _
      rw [List.length_append, List.append_assoc, Nat.add_assoc]
    · rw [if_neg h, if_neg (by omega)]
      rfl
theorem am_app_le {c : Nat} {o : Option (List Int)} {l : List Int} : ∀ a, am_app c o l = some a → a.length ≤ c := by
  intro a h
  cases o with
  | none => cases h
  | some b =>
    unfold am_app at h
    simp only at h
    split at h
    · cases h
      rw [List.length_append]
      assumption
    · cases h
/-- as a row holds it: up to 80 -/
def am_cap (t : am_T) : Option am_T := if am_sz t ≤ 80 then some t else none
/-! steps -/
def am_rr (f : am_T) (n : am_T) (a : am_T) : am_T → Option am_T
  | .branch k (.branch k' (.leaf r) _) z => if k = 0 ∧ k' = 0 ∧ r = 8 then (match n with
      | .leaf w => if w = 6 then some z else none
      | .branch k2 (.leaf w) m => if k2 = 0 ∧ w = 7 then some (.branch 0 (.branch 0 f m) (.branch 0 a m)) else none
      | _ => none) else none
  | _ => none
def am_ra (b : am_T) : am_T → Option am_T
  | .leaf _ => none
  | .branch k A B => if k = 1 then some (am_sb b 0 B) else if k = 0 then am_rr B b (.branch k A B) A else none
/-- what a part comes to, if a step can be taken there; none within: too big -/
def am_rd (NM : Nat → Option am_T) : am_T → Option (Option am_T)
  | .leaf z => if 10 ≤ z ∧ z < 18 then some (NM (z - 10).toNat) else none
  | .branch k a b => if k = 0 then (am_ra b a).map some else none
/-- the first step: what stands before it, the part, what stands behind it -/
def am_fr (NM : Nat → Option am_T) : am_T → Option (List Int × am_T × List Int)
  | .leaf z => if (am_rd NM (.leaf z)).isSome then some ([], .leaf z, []) else none
  | .branch k a b => if (am_rd NM (.branch k a b)).isSome then some ([], .branch k a b, []) else match am_fr NM a with
    | some (A, s, B) => some ((k : Int) :: A, s, B ++ am_lay b)
    | none => match am_fr NM b with
      | some (A, s, B) => some ((k : Int) :: (am_lay a ++ A), s, B)
      | none => none
/-- one step -/
def am_sp (NM : Nat → Option am_T) : am_T → Option (Option am_T)
  | .leaf z => am_rd NM (.leaf z)
  | .branch k a b => match am_rd NM (.branch k a b) with
    | some u => some u
    | none => match am_sp NM a with
      | some u => some (u.map (fun v => .branch k v b))
      | none => match am_sp NM b with
        | some u => some (u.map (fun v => .branch k a v))
        | none => none
theorem am_fr_none {NM : Nat → Option am_T} : ∀ {t : am_T}, am_fr NM t = none ↔ am_sp NM t = none
  | .leaf z => by
    unfold am_fr am_sp
    cases am_rd NM (.leaf z) <;> simp
  | .branch k a b => by
    unfold am_fr am_sp
    have ha := am_fr_none (NM := NM) (t := a)
    have hb := am_fr_none (NM := NM) (t := b)
    cases am_rd NM (.branch k a b) with
    | some u => simp
    | none =>
      cases h1 : am_fr NM a with
      | none =>
        rw [h1] at ha
        rw [ha.mp rfl]
        cases h2 : am_fr NM b with
        | none =>
          rw [h2] at hb
          rw [hb.mp rfl]
          simp
        | some q =>
          rw [h2] at hb
          cases h3 : am_sp NM b with
          | none => exact absurd (hb.mpr h3) (by simp)
          | some u =>
            obtain ⟨A, s, B⟩ := q
            simp
      | some q =>
        rw [h1] at ha
        cases h3 : am_sp NM a with
        | none => exact absurd (ha.mpr h3) (by simp)
        | some u =>
          obtain ⟨A, s, B⟩ := q
          simp
theorem am_fr_some {NM : Nat → Option am_T} : ∀ {t : am_T} {A B : List Int} {s : am_T}, am_fr NM t = some (A, s, B) → am_lay t = A ++ (am_lay s ++ B) ∧ ∃ u, am_rd NM s = some u ∧ ∃ v, am_sp NM t = some v ∧ (u = none → v = none) ∧ ∀ w, u = some w → ∃ x, v = some x ∧ am_lay x = A ++ (am_lay w ++ B)
  | .leaf z, A, B, s, h => by
    unfold am_fr at h
    split at h
    · rename_i hs
      cases h
      obtain ⟨u, hu⟩ := Option.isSome_iff_exists.mp hs
      refine ⟨by simp, u, hu, u, hu, id, fun w hw => ⟨w, hw, by simp⟩⟩
    · cases h
  | .branch k a b, A, B, s, h => by
    unfold am_fr at h
    split at h
    · rename_i hs
      cases h
      obtain ⟨u, hu⟩ := Option.isSome_iff_exists.mp hs
      refine ⟨by simp, u, hu, u, ?_, id, fun w hw => ⟨w, hw, by simp⟩⟩
      unfold am_sp
      rw [hu]
    · rename_i hs
      have hn : am_rd NM (.branch k a b) = none := by
        cases hh : am_rd NM (.branch k a b) with
        | none => rfl
        | some u => rw [hh] at hs; exact absurd rfl hs
      split at h
      · rename_i A' s' B' ha
        cases h
        obtain ⟨h1, u, h2, v, h3, h4, h5⟩ := am_fr_some ha
        refine ⟨?_, u, h2, v.map (fun v => .branch k v b), ?_, fun hu => by rw [h4 hu]; rfl, fun w hw => ?_⟩
        · show (k : Int) :: (am_lay a ++ am_lay b) = _
          rw [h1]
          simp
        · unfold am_sp
          rw [hn, h3]
        · obtain ⟨x, hx, hl⟩ := h5 w hw
          refine ⟨.branch k x b, by rw [hx]; rfl, ?_⟩
          show (k : Int) :: (am_lay x ++ am_lay b) = _
          rw [hl]
          simp
      · rename_i ha
        split at h
        · rename_i A' s' B' hb
          cases h
          obtain ⟨h1, u, h2, v, h3, h4, h5⟩ := am_fr_some hb
          refine ⟨?_, u, h2, v.map (fun v => .branch k a v), ?_, fun hu => by rw [h4 hu]; rfl, fun w hw => ?_⟩
          · show (k : Int) :: (am_lay a ++ am_lay b) = _
            rw [h1]
            simp
          · unfold am_sp
            rw [hn, am_fr_none.mp ha, h3]
          · obtain ⟨x, hx, hl⟩ := h5 w hw
            refine ⟨.branch k a x, by rw [hx]; rfl, ?_⟩
            show (k : Int) :: (am_lay a ++ am_lay x) = _
            rw [hl]
            simp
        · cases h
/-- steps up to the end: how many, and what it comes to; none: FUEL -/
def am_nf (NM : Nat → Option am_T) : Nat → Option am_T → Option (Nat × am_T)
  | _, none => none
  | 0, some t => match am_sp NM t with
    | none => some (0, t)
    | some _ => none
  | k + 1, some t => match am_sp NM t with
    | none => some (0, t)
    | some u => (am_nf NM k (u.bind am_cap)).map (fun r => (r.1 + 1, r.2))
