def am_cM (ow i k x y : Nat) : Bool := am_ML.any (fun e => e.1 == ow && e.2.1 == i && e.2.2.1 == k && e.2.2.2.1 == x && e.2.2.2.2.1 == y)
theorem am_ML_ok : am_ML.all am_ckM = true := by
  have e : am_ML = am_ML.take 50 ++ ((am_ML.drop 50).take 50 ++ ((am_ML.drop 100).take 50 ++ am_ML.drop 150)) := by
    have h1 : am_ML.drop 100 = (am_ML.drop 50).drop 50 := by rw [List.drop_drop]
    have h2 : am_ML.drop 150 = (am_ML.drop 100).drop 50 := by rw [List.drop_drop]
    rw [h2, List.take_append_drop, h1, List.take_append_drop, List.take_append_drop]
  rw [e, List.all_append, List.all_append, List.all_append, am_ML_ok0, am_ML_ok1, am_ML_ok2, am_ML_ok3]
  rfl
def am_chkC (ow : Nat) (q : am_X) : Bool := match q.1 with
  | .invokevirtual i => am_pl.contains q.2.2.1 && am_cM ow i 0 q.2.2.1 q.2.2.2.1
  | .invokestatic i => (q.2.2.1 == 2001 && am_AC.any (fun e => e.1 == ow && e.2.1 == i)) || (am_pl.contains q.2.2.1 && am_cM ow i 1 q.2.2.1 q.2.2.2.1)
  | .invokespecial i => (q.2.2.1 == 2000 && q.2.2.2.1 == 1 && am_OL.any (fun e => e.1 == ow && e.2.1 == i)) || (am_pl.contains q.2.2.1 && am_cM ow i 2 q.2.2.1 q.2.2.2.1)
  | _ => true
def am_chkK (zz : Bool) (ow : Nat) (q : am_X) : Bool := if am_isK q = 2 then q.2.1 == 3 && (zz || q.2.2.2.2 == 0) && am_chkC ow q else true
def am_chkR (rt : Option FieldType) (q : am_X) : Bool := match q.1 with
  | .ireturn => am_fty q.2.2.1 (rt.getD .long) && decide (q.2.2.1 < 3)
  | .areturn => am_fty 3 (rt.getD .long)
  | .return_ => decide (rt = none)
  | _ => true
def am_chk (zz : Bool) (ow : Nat) (mj : am_MD) : Bool := mj.2.2.2.2.2.2.all (fun q => decide (decode mj.2.2.1 q.1 = .ok (q.2.1, q.2.2.1)) && am_lnok q.1 q.2.1 q.2.2.1 && am_chkL ow mj.2.2.2.2.2.1 q.2 && am_chkK zz ow q.2 && am_chkR mj.2.2.2.2.1 q.2) &&
  plainFor mj.2.1 && decide (mj.2.1.cls = mj.1) && decide (mj.1 = am_onm ow) && (!mj.2.2.2.2.2.1 || decide (mj.2.1.name = "<init>")) && decide (mj.2.2.2.1 ≤ 29)
theorem am_cM_ok {ow i k x y : Nat} (h : am_cM ow i k x y = true) : ∃ e, am_ckM e = true ∧ e.1 = ow ∧ e.2.1 = i ∧ e.2.2.1 = k ∧ e.2.2.2.1 = x ∧ e.2.2.2.2.1 = y := by
  obtain ⟨e, he, h1⟩ := List.any_eq_true.mp h
  simp only [Bool.and_eq_true, beq_iff_eq] at h1
  obtain ⟨⟨⟨⟨h2, h3⟩, h4⟩, h5⟩, h6⟩ := h1
  exact ⟨e, List.all_eq_true.mp am_ML_ok _ he, h2, h3, h4, h5, h6⟩
theorem am_pl_lt : ∀ j ∈ am_pl, j < 2000 := by decide +kernel
theorem am_pl_of {x : Nat} (h : am_pl.contains x = true) : x ∈ am_pl := by simpa using h
theorem am_lkC_ok {zz : Bool} {ow : Nat} {q : am_X} (h : am_chkK zz ow q = true) (hx : q.2.2.1 < 2000) : am_lkC am_TB (am_onm ow) am_md q := by
  obtain ⟨i, len, x, y, z⟩ := q
  have hx : x < 2000 := hx
  cases i with
  | invokevirtual i =>
    replace h : (len == 3 && (zz || z == 0) && (am_pl.contains x && am_cM ow i 0 x y)) = true := h
    simp only [Bool.and_eq_true] at h
    obtain ⟨-, h1, h2⟩ := h
    obtain ⟨⟨e1, e2, e3, e4, e5, e6, e7, e8, e9, e10, e11⟩, h3, g1, g2, g3, g4, g5⟩ := am_cM_ok h2
    cases g1; cases g2; cases g3; cases g4; cases g5
    simp only [am_ckM, Bool.and_eq_true, decide_eq_true_eq] at h3
    obtain ⟨⟨⟨⟨⟨k1, k3⟩, k4⟩, k5⟩, k6⟩, ⟨⟨k7, k8⟩, k9⟩, k10⟩ := h3
    refine ⟨⟨am_cwL _ (am_pl_of h1), am_has_mem k3, ⟨k4, k5⟩, k6⟩, am_has_mem k7, am_has_mem k8, k9, ?_, ?_⟩
    · split at k10
      · rename_i C T N hc
        have k10 : C = _ := of_decide_eq_true k10
        rw [k10] at hc
        exact ⟨T, N, hc⟩
      · cases k10
    · split at k1
      · exact Or.inr ⟨_, am_hasN_mem k1⟩
      · exact Or.inl (am_has_mem k1)
  | invokestatic i =>
    replace h : (len == 3 && (zz || z == 0) && ((x == 2001 && am_AC.any (fun e => e.1 == ow && e.2.1 == i)) || (am_pl.contains x && am_cM ow i 1 x y))) = true := h
    simp only [Bool.and_eq_true, Bool.or_eq_true] at h
    obtain ⟨-, h0 | ⟨h1, h2⟩⟩ := h
    · have := eq_of_beq h0.1
      omega
    obtain ⟨⟨e1, e2, e3, e4, e5, e6, e7, e8, e9, e10, e11⟩, h3, g1, g2, g3, g4, g5⟩ := am_cM_ok h2
    cases g1; cases g2; cases g3; cases g4; cases g5
    simp only [am_ckM, Bool.and_eq_true, decide_eq_true_eq] at h3
    obtain ⟨⟨⟨⟨⟨k1, k3⟩, k4⟩, k5⟩, k6⟩, k7, k9⟩ := h3
    refine ⟨⟨am_cwL _ (am_pl_of h1), am_has_mem k3, ⟨k4, k5⟩, k6⟩, am_has_mem k7, k9, ?_⟩
    split at k1
    · exact Or.inr ⟨_, am_hasN_mem k1⟩
    · exact Or.inl (am_has_mem k1)
  | invokespecial i =>
    replace h : (len == 3 && (zz || z == 0) && ((x == 2000 && y == 1 && am_OL.any (fun e => e.1 == ow && e.2.1 == i)) || (am_pl.contains x && am_cM ow i 2 x y))) = true := h
    simp only [Bool.and_eq_true, Bool.or_eq_true] at h
    obtain ⟨-, h0 | ⟨h1, h2⟩⟩ := h
    · have := eq_of_beq h0.1.1
      omega
    obtain ⟨⟨e1, e2, e3, e4, e5, e6, e7, e8, e9, e10, e11⟩, h3, g1, g2, g3, g4, g5⟩ := am_cM_ok h2
    cases g1; cases g2; cases g3; cases g4; cases g5
    simp only [am_ckM, Bool.and_eq_true, decide_eq_true_eq] at h3
    obtain ⟨⟨⟨⟨⟨k1, k3⟩, k4⟩, k5⟩, k6⟩, ⟨⟨k7, k8⟩, k9⟩, k10⟩ := h3
    refine ⟨⟨am_cwL _ (am_pl_of h1), am_has_mem k3, ⟨k4, k5⟩, k6⟩, am_has_mem k7, k8, k9, k10, ?_⟩
    split at k1
    · exact Or.inr ⟨_, am_hasN_mem k1⟩
    · exact Or.inl (am_has_mem k1)
  | _ => trivial
theorem am_chk_ok {zz : Bool} {ow : Nat} {mj : am_MD} (h : am_chk zz ow mj = true) : am_OK am_md mj ∧ (∀ q ∈ mj.2.2.2.2.2.2, am_isK q.2 = 2 → (zz = false → q.2.2.2.2.2 = 0) ∧ (q.2.2.2.1 < 2000 → q.2.2.2.1 ∈ am_pl)) ∧ mj.2.2.2.1 ≤ 29 := by
  unfold am_chk at h
  simp only [Bool.and_eq_true, decide_eq_true_eq] at h
  obtain ⟨⟨⟨⟨⟨h1, h2⟩, h3⟩, h4⟩, h5⟩, h6⟩ := h
  have key : ∀ q ∈ mj.2.2.2.2.2.2, _ := fun q hq => List.all_eq_true.mp h1 q hq
  simp only [Bool.and_eq_true, decide_eq_true_eq] at key
  refine ⟨⟨fun q hq => ?_, h2, h3, fun hi => ?_⟩, fun q hq hk => ?_, h6⟩
  · obtain ⟨⟨⟨⟨k1, k2⟩, k3⟩, k4⟩, k5⟩ := key q hq
    rw [h4]
    obtain ⟨pc, i, len, x, y, z⟩ := q
    refine ⟨k1, k2, am_chkL_ok k3, fun hx => am_lkC_ok k4 hx, fun hk => ?_, fun hx hk => ?_, fun hx hk => ?_, fun hk => ?_, fun hi => ?_, fun hi => ?_, fun hi => ?_⟩
    · unfold am_chkK at k4
      rw [if_pos hk] at k4
      simp only [Bool.and_eq_true, beq_iff_eq] at k4
      exact k4.1.1
    · have hx : x = 2000 := hx
      subst hx
      unfold am_chkK at k4
      rw [if_pos hk] at k4
      simp only [Bool.and_eq_true] at k4
      have k6 := k4.2
      cases i with
      | invokespecial i =>
        replace k6 : (((2000 : Nat) == 2000 && y == 1 && am_OL.any (fun e => e.1 == ow && e.2.1 == i)) || (am_pl.contains 2000 && am_cM ow i 2 2000 y)) = true := k6
        simp only [Bool.or_eq_true, Bool.and_eq_true] at k6
        rcases k6 with k7 | k7
        · obtain ⟨⟨e1, e2, e3⟩, he, h2⟩ := List.any_eq_true.mp k7.2
          simp only [Bool.and_eq_true, beq_iff_eq] at h2
          obtain ⟨rfl, rfl⟩ := h2
          exact ⟨_, rfl, am_has_mem (List.all_eq_true.mp am_OL_ok _ he), eq_of_beq k7.1.2⟩
        · have := am_pl_lt _ (am_pl_of k7.1)
          omega
      | invokevirtual i =>
        exfalso
        replace k6 : (am_pl.contains 2000 && am_cM ow i 0 2000 y) = true := k6
        have := am_pl_lt _ (am_pl_of ((Bool.and_eq_true _ _).mp k6).1)
        omega
      | invokestatic i =>
        exfalso
        replace k6 : (((2000 : Nat) == 2001 && am_AC.any (fun e => e.1 == ow && e.2.1 == i)) || (am_pl.contains 2000 && am_cM ow i 1 2000 y)) = true := k6
        simp only [Bool.or_eq_true, Bool.and_eq_true] at k6
        rcases k6 with k7 | k7
        · exact absurd k7.1 (by decide)
        · have := am_pl_lt _ (am_pl_of k7.1)
          omega
      | new i => exfalso; unfold am_isK at hk; simp only at hk; split at hk <;> cases hk
      | _ => cases hk
    · have hx : x = 2001 := hx
      subst hx
      unfold am_chkK at k4
      rw [if_pos hk] at k4
      simp only [Bool.and_eq_true] at k4
      have k6 := k4.2
      cases i with
      | invokestatic i =>
        replace k6 : (((2001 : Nat) == 2001 && am_AC.any (fun e => e.1 == ow && e.2.1 == i)) || (am_pl.contains 2001 && am_cM ow i 1 2001 y)) = true := k6
        simp only [Bool.or_eq_true, Bool.and_eq_true] at k6
        rcases k6 with k7 | k7
        · obtain ⟨⟨e1, e2, e3⟩, he, h2⟩ := List.any_eq_true.mp k7.2
          simp only [Bool.and_eq_true, beq_iff_eq] at h2
          obtain ⟨rfl, rfl⟩ := h2
          exact ⟨_, rfl, am_has_mem (List.all_eq_true.mp am_AC_ok _ he)⟩
        · have := am_pl_lt _ (am_pl_of k7.1)
          omega
      | invokevirtual i =>
        exfalso
        replace k6 : (am_pl.contains 2001 && am_cM ow i 0 2001 y) = true := k6
        have := am_pl_lt _ (am_pl_of ((Bool.and_eq_true _ _).mp k6).1)
        omega
      | invokespecial i =>
        exfalso
        replace k6 : (((2001 : Nat) == 2000 && y == 1 && am_OL.any (fun e => e.1 == ow && e.2.1 == i)) || (am_pl.contains 2001 && am_cM ow i 2 2001 y)) = true := k6
        simp only [Bool.or_eq_true, Bool.and_eq_true] at k6
        rcases k6 with k7 | k7
        · exact absurd k7.1.1 (by decide)
        · have := am_pl_lt _ (am_pl_of k7.1)
          omega
      | new i => exfalso; unfold am_isK at hk; simp only at hk; split at hk <;> cases hk
      | _ => cases hk
    · by_cases hx : x < 2000
      · exact Or.inr (Or.inr hx)
      · unfold am_chkK at k4
        rw [if_pos hk] at k4
        simp only [Bool.and_eq_true] at k4
        have k6 := k4.2
        cases i with
        | invokestatic i =>
          replace k6 : ((x == 2001 && am_AC.any (fun e => e.1 == ow && e.2.1 == i)) || (am_pl.contains x && am_cM ow i 1 x y)) = true := k6
          simp only [Bool.or_eq_true, Bool.and_eq_true] at k6
          rcases k6 with k7 | k7
          · exact Or.inr (Or.inl (eq_of_beq k7.1))
          · exact absurd (am_pl_lt _ (am_pl_of k7.1)) hx
        | invokevirtual i =>
          replace k6 : (am_pl.contains x && am_cM ow i 0 x y) = true := k6
          exact absurd (am_pl_lt _ (am_pl_of ((Bool.and_eq_true _ _).mp k6).1)) hx
        | invokespecial i =>
          replace k6 : ((x == 2000 && y == 1 && am_OL.any (fun e => e.1 == ow && e.2.1 == i)) || (am_pl.contains x && am_cM ow i 2 x y)) = true := k6
          simp only [Bool.or_eq_true, Bool.and_eq_true] at k6
          rcases k6 with k7 | k7
          · exact Or.inl (eq_of_beq k7.1.1)
          · exact absurd (am_pl_lt _ (am_pl_of k7.1)) hx
        | new i => exfalso; unfold am_isK at hk; simp only at hk; split at hk <;> cases hk
        | _ => cases hk
    · have hi : i = .ireturn := hi
      subst hi
      replace k5 : (am_fty x (mj.2.2.2.2.1.getD .long) && decide (x < 3)) = true := k5
      obtain ⟨k6, k7⟩ := (Bool.and_eq_true _ _).mp k5
      exact ⟨k6, of_decide_eq_true k7⟩
    · have hi : i = .areturn := hi
      subst hi
      exact k5
    · have hi : i = .return_ := hi
      subst hi
      exact of_decide_eq_true k5
  · rcases (Bool.or_eq_true _ _).mp h5 with h7 | h7
    · rw [hi] at h7; cases h7
    · exact of_decide_eq_true h7
  · obtain ⟨⟨⟨⟨k1, k2⟩, k3⟩, k4⟩, k5⟩ := key q hq
    unfold am_chkK at k4
    rw [if_pos hk] at k4
    simp only [Bool.and_eq_true] at k4
    refine ⟨fun hzz => by have k9 := k4.1.2; rw [hzz] at k9; simpa using k9, fun hx => ?_⟩
    obtain ⟨pc, i, len, x, y, z⟩ := q
    have hx : x < 2000 := hx
    have k6 := k4.2
    cases i with
    | invokestatic i =>
      replace k6 : ((x == 2001 && am_AC.any (fun e => e.1 == ow && e.2.1 == i)) || (am_pl.contains x && am_cM ow i 1 x y)) = true := k6
      simp only [Bool.or_eq_true, Bool.and_eq_true] at k6
      rcases k6 with k7 | k7
      · have := eq_of_beq k7.1
        omega
      · exact am_pl_of k7.1
    | invokevirtual i =>
      replace k6 : (am_pl.contains x && am_cM ow i 0 x y) = true := k6
      exact am_pl_of ((Bool.and_eq_true _ _).mp k6).1
    | invokespecial i =>
      replace k6 : ((x == 2000 && y == 1 && am_OL.any (fun e => e.1 == ow && e.2.1 == i)) || (am_pl.contains x && am_cM ow i 2 x y)) = true := k6
      simp only [Bool.or_eq_true, Bool.and_eq_true] at k6
      rcases k6 with k7 | k7
      · have := eq_of_beq k7.1.1
        omega
      · exact am_pl_of k7.1
    | new i => exfalso; unfold am_isK at hk; simp only at hk; split at hk <;> cases hk
    | _ => cases hk
