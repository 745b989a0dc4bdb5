/-! reading a line: one step a sign -/
abbrev am_U : Type := am_T × List Int
abbrev am_Fr : Type := Nat × Int × Int × Nat × Option am_U
/-- frames, row, mode, binder, its place, its letter, place of a lone digit -/
abbrev am_Re : Type := List am_Fr × Option am_U × Nat × Nat × Int × Int × Int
def am_jn (o : Option am_U) (v : am_U) : am_U := match o with
  | none => v
  | some u => (.branch 0 u.1 v.1, u.2.headD 0 :: (u.2 ++ v.2))
def am_fo : List am_Fr → am_U → List am_Fr × am_U
  | [], u => ([], u)
  | (kd, l, p, k, o) :: F, u => if 2 ≤ kd then (match o with
      | some A => am_fo F (.branch k A.1 u.1, p :: (A.2 ++ u.2))
      | none => ((kd, l, p, k, o) :: F, u)) else ((kd, l, p, k, o) :: F, u)
def am_bs : List am_Fr → List Int
  | [] => []
  | (kd, l, _, _, _) :: F => if 2 ≤ kd then l :: am_bs F else am_bs F
def am_ix (c : Int) : List Int → Option Nat
  | [] => none
  | x :: l => if x = c then some 0 else (am_ix c l).map (fun i => i + 1)
def am_tok (tl : Nat → Bool) (B : List Int) (c : Int) : Except Int Int :=
  if 97 ≤ c ∧ c ≤ 122 then (match am_ix c B with
    | some i => .ok (50 + (i : Int))
    | none => .error (-3))
  else if 65 ≤ c ∧ c < 73 then (if tl (c - 65).toNat = true then .ok (c - 55) else .error (-3))
  else if c = 42 then .ok 3 else if c = 78 then .ok 5 else if c = 83 then .ok 7 else if c = 82 then .ok 8 else .error (-2)
def am_rl : am_T → Int
  | .leaf z => z
  | .branch _ _ b => am_rl b
def am_rmz (z : Int) : am_T → am_T
  | .leaf _ => .leaf z
  | .branch k a b => .branch k a (am_rmz z b)
def am_tka (tl : Nat → Bool) (st : am_Re) (c i : Int) : Except (Int × Int) am_Re := match st with
  | (F, now, _, k, pl, lt, lone) =>
    if 48 ≤ c ∧ c ≤ 57 then (if lone ≠ -1 ∧ lone = i - 1 then (match now with
        | some u => if 20 < 10 * (am_rl u.1 - 20) + (c - 48) then .error (-2, i) else .ok (F, some (am_rmz (20 + (10 * (am_rl u.1 - 20) + (c - 48))) u.1, u.2), 0, k, pl, lt, -1)
        | none => .error (-2, i))
      else .ok (F, some (am_jn now (.leaf (20 + (c - 48)), [i])), 0, k, pl, lt, i))
    else match am_tok tl (am_bs F) c with
      | .ok z => .ok (F, some (am_jn now (.leaf z, [i])), 0, k, pl, lt, lone)
      | .error e => .error (e, i)
def am_tk (tl : Nat → Bool) (st : am_Re) (c i : Int) : Except (Int × Int) am_Re := match st with
  | (F, now, md, k, pl, lt, lone) =>
    if md = 1 then (if 97 ≤ c ∧ c ≤ 122 then .ok (F, now, 2, k, pl, c, lone) else .error (-2, i))
    else if md = 2 then (if c = 58 then .ok ((1, lt, pl, k, none) :: F, none, 0, k, pl, lt, lone) else .error (-2, i))
    else if c = 40 then .ok ((0, 0, i, 0, now) :: F, none, 0, k, pl, lt, lone)
    else match now with
      | none => if c = 92 ∨ c = 33 then .ok (F, none, 1, (if c = 33 then 2 else 1), i, lt, lone) else am_tka tl st c i
      | some u => if c = 62 then .ok ((3, 0, u.2.headD 0, 2, some u) :: F, none, 0, k, pl, lt, lone) else (match am_fo F u with
        | ((kd, l, p, k', o) :: F', v) => if kd = 0 ∧ c = 41 then .ok (F', some (am_jn o (v.1, p :: v.2.tail)), 0, k, pl, lt, lone)
          else if kd = 1 ∧ c = 46 then .ok ((2, l, p, k', some v) :: F', none, 0, k, pl, lt, lone) else am_tka tl st c i
        | ([], _) => am_tka tl st c i)
def am_rdl (tl : Nat → Bool) : List Int → Int → am_Re → Except (Int × Int) am_Re
  | [], _, st => .ok st
  | c :: cs, i, st => if c = 32 then am_rdl tl cs (i + 1) st else match am_tk tl st c i with
    | .error e => .error e
    | .ok st' => am_rdl tl cs (i + 1) st'
def am_fin2 (n : Int) (st : am_Re) : Except (Int × Int) am_U := match st with
  | (F, some u, md, _) => if md = 0 then (match am_fo F u with
      | ([], w) => .ok w
      | _ => .error (-2, n)) else .error (-2, n)
  | (_, none, _) => .error (-2, n)
def am_re0 : am_Re := ([], none, 0, 0, 0, 0, -1)
def am_read (tl : Nat → Bool) (l : List Int) : Except (Int × Int) am_U := match am_rdl tl l 0 am_re0 with
  | .error e => .error e
  | .ok st => am_fin2 l.length st
/-! tokens and places of what was read -/
def am_pcT : am_Fr → List Int
  | (_, _, _, k, o) => (if k = 0 then [] else [(k : Int)]) ++ (match o with
    | some u => am_lay u.1
    | none => [])
def am_pcP : am_Fr → List Int
  | (_, _, p, k, o) => (if k = 0 then [] else [p]) ++ (match o with
    | some u => u.2
    | none => [])
def am_tF : List am_Fr → List Int
  | [] => []
  | f :: F => am_tF F ++ am_pcT f
def am_pF : List am_Fr → List Int
  | [] => []
  | f :: F => am_pF F ++ am_pcP f
def am_oc : List am_Fr → Nat
  | [] => 0
  | (kd, _, _, _, _) :: F => if 2 ≤ kd then am_oc F else am_oc F + 1
/-- how many signs a tree takes at least -/
def am_wgt : am_T → Nat
  | .leaf _ => 1
  | .branch k a b => am_wgt a + am_wgt b + (if k = 0 then (match b with
    | .leaf _ => 0
    | _ => 2) else 1)
theorem am_wgt_pos : ∀ {t : am_T}, 1 ≤ am_wgt t
  | .leaf _ => Nat.le_refl 1
  | .branch k a b => by
    have := am_wgt_pos (t := a)
    unfold am_wgt
    omega
theorem am_wgt_k {k : Nat} {a b : am_T} (hk : ¬ k = 0) : am_wgt (.branch k a b) = am_wgt a + am_wgt b + 1 := by
  show am_wgt a + am_wgt b + (if k = 0 then _ else 1) = _
  rw [if_neg hk]
theorem am_lev_wt : ∀ {t : am_T}, 2 * am_lev t ≤ am_wgt t
  | .leaf _ => Nat.zero_le _
  | .branch k a b => by
    have ha := am_lev_wt (t := a)
    have hb := am_lev_wt (t := b)
    have pa := am_wgt_pos (t := a)
    have pb := am_wgt_pos (t := b)
    by_cases hk : k = 0
    · subst hk
      rw [am_lev_0]
      cases b with
      | leaf z =>
        have e : am_wgt (.branch 0 a (.leaf z)) = am_wgt a + 1 + 0 := rfl
        have e2 : am_lev (.leaf z) = 0 := rfl
        rw [e, e2]
        omega
      | branch k2 c d =>
        have e : am_wgt (.branch 0 a (.branch k2 c d)) = am_wgt a + am_wgt (.branch k2 c d) + 2 := rfl
        rw [e]
        omega
    · have e : am_wgt (.branch k a b) = am_wgt a + am_wgt b + 1 := am_wgt_k hk
      have e2 : am_lev (.branch k a b) = max (am_lev a) (am_lev b) + 1 := if_neg hk
      rw [e, e2]
      omega
def am_uw (tl : Nat → Bool) (K : Nat) (u : am_U) : Prop := am_wn tl K u.1 ∧ u.2.length = am_sz u.1
def am_ow (tl : Nat → Bool) (K : Nat) (o : Option am_U) : Prop := ∀ u, o = some u → am_uw tl K u
def am_fw (tl : Nat → Bool) : List am_Fr → Prop
  | [] => True
  | (kd, l, _, k, o) :: F => am_fw tl F ∧ am_ow tl (am_bs F).length o ∧ ((kd = 0 ∧ k = 0) ∨ (kd = 1 ∧ (k = 1 ∨ k = 2) ∧ o = none ∧ 97 ≤ l ∧ l ≤ 122) ∨ (kd = 2 ∧ (k = 1 ∨ k = 2) ∧ o.isSome = true ∧ 97 ≤ l ∧ l ≤ 122) ∨ (kd = 3 ∧ k = 2 ∧ o.isSome = true ∧ l = 0))
def am_wo (o : Option am_U) : Nat := match o with
  | some u => am_wgt u.1
  | none => 0
def am_wF : List am_Fr → Nat
  | [] => 0
  | (_, _, _, _, o) :: F => am_wF F + am_wo o + 1
theorem am_fo_spec {tl : Nat → Bool} : ∀ {F : List am_Fr} {u : am_U} {F' : List am_Fr} {v : am_U}, am_fo F u = (F', v) → am_fw tl F → am_uw tl (am_bs F).length u → am_fw tl F' ∧ am_uw tl (am_bs F').length v ∧ am_tF F ++ am_lay u.1 = am_tF F' ++ am_lay v.1 ∧ am_pF F ++ u.2 = am_pF F' ++ v.2 ∧ am_oc F' = am_oc F ∧ (am_bs F').length ≤ (am_bs F).length ∧ am_wF F' + am_wgt v.1 ≤ am_wF F + am_wgt u.1 ∧ (∀ f G, F' = f :: G → f.1 < 2) ∧ (∃ B, am_bs F = B ++ am_bs F')
  | [], u, F', v, h, hf, hu => by
    unfold am_fo at h
    cases h
    exact ⟨trivial, hu, rfl, rfl, rfl, Nat.le_refl _, Nat.le_refl _, fun f G q => (by cases q), [], rfl⟩
  | (kd, l, p, k, o) :: F, u, F', v, h, hf, hu => by
    unfold am_fo at h
    obtain ⟨f1, f2, f3⟩ := hf
    by_cases hk : 2 ≤ kd
    · rw [if_pos hk] at h
      have ho : ∃ A, o = some A := by
        rcases f3 with q | q | q | q
        · omega
        · omega
        · exact Option.isSome_iff_exists.mp q.2.2.1
        · exact Option.isSome_iff_exists.mp q.2.2.1
      obtain ⟨A, rfl⟩ := ho
      simp only at h
      have wA := f2 A rfl
      have eb : am_bs ((kd, l, p, k, some A) :: F) = l :: am_bs F := if_pos hk
      have hk12 : k = 1 ∨ k = 2 := by omega
      have ebd : am_bd k = 1 := if_neg (by omega)
      rw [eb, List.length_cons] at hu
      have hu2 : am_uw tl (am_bs F).length (.branch k A.1 u.1, p :: (A.2 ++ u.2)) := by
        refine ⟨⟨by omega, wA.1, by rw [ebd]; exact hu.1⟩, ?_⟩
        show (p :: (A.2 ++ u.2)).length = am_sz A.1 + am_sz u.1 + 1
        rw [List.length_cons, List.length_append, wA.2, hu.2]
      obtain ⟨r1, r2, r3, r4, r5, r6, r7, r8, B, r9⟩ := am_fo_spec h f1 hu2
      refine ⟨r1, r2, ?_, ?_, ?_, ?_, ?_, r8, l :: B, ?_⟩
      · rw [← r3]
        show am_tF F ++ ((if k = 0 then [] else [(k : Int)]) ++ am_lay A.1) ++ am_lay u.1 = am_tF F ++ ((k : Int) :: (am_lay A.1 ++ am_lay u.1))
        rw [if_neg (by omega)]
        simp only [List.append_assoc, List.cons_append, List.nil_append]
      · rw [← r4]
        show am_pF F ++ ((if k = 0 then [] else [p]) ++ A.2) ++ u.2 = am_pF F ++ (p :: (A.2 ++ u.2))
        rw [if_neg (by omega)]
        simp only [List.append_assoc, List.cons_append, List.nil_append]
      · rw [r5]
        exact (if_pos hk).symm
      · rw [eb, List.length_cons]
        omega
      · have e : am_wgt (.branch k A.1 u.1) = am_wgt A.1 + am_wgt u.1 + 1 := am_wgt_k (by omega)
        have e2 : am_wF ((kd, l, p, k, some A) :: F) = am_wF F + am_wgt A.1 + 1 := rfl
        rw [e2]
        simp only [e] at r7
        omega
      · rw [eb, r9]
        rfl
    · rw [if_neg hk] at h
      cases h
      refine ⟨⟨f1, f2, f3⟩, hu, rfl, rfl, rfl, Nat.le_refl _, Nat.le_refl _, fun f G q => ?_, [], rfl⟩
      cases q
      show kd < 2
      omega
