/-! from the checks to the words -/
theorem am_cl_lt {ci : Nat} {q : vw_C} (h : am_cl[ci]? = some q) : ci < 11 := (List.getElem?_eq_some_iff.mp h).1
theorem am_cls {ci : Nat} {C : String} {T : u_T} {N : Nat} (h : am_cl[ci]? = some (C, T, N)) : ∀ w ∈ u_ws C T N, w ∈ am_TB := by
  have h1 := List.all_eq_true.mp am_cw_ok ci (List.mem_range.mpr (am_cl_lt h))
  unfold am_ckW at h1
  rw [h] at h1
  split at h1
  · rename_i C' T' N' hs e1 e2
    cases e1
    obtain ⟨h2, h3⟩ := (Bool.and_eq_true _ _).mp h1
    have h2 : hs.length = N := of_decide_eq_true h2
    intro w hw
    obtain ⟨i, hi⟩ := List.getElem?_of_mem hw
    have hil := (List.getElem?_eq_some_iff.mp hi).1
    have hl : (u_ws C T N).length = N := by simp [u_ws]
    have hz : ((u_ws C T N).zip hs)[i]? = some (w, hs[i]'(by omega)) := by
      rw [List.getElem?_zip_eq_some]
      exact ⟨hi, List.getElem?_eq_getElem _⟩
    exact am_has_mem (List.all_eq_true.mp h3 _ (List.mem_of_getElem? hz))
  · cases h1
theorem am_clt {ci : Nat} {C : String} {T : u_T} {N : Nat} (h : am_cl[ci]? = some (C, T, N)) : ∃ ty0 : Nat → FieldType, am_tyL[ci]? = some ty0 ∧ (∀ j, j < N → parseFieldDescriptor (T j).2.2.1 = some (ty0 j)) ∧ (∀ a, a < N → ∀ b, b < N → a ≠ b → (T a).2.1 ≠ (T b).2.1) ∧ (am_df ci).length = N ∧ ∀ j, j < N → defaultValue (ty0 j) = vp_V (am_df ci) j ∧ am_c1 (vp_V (am_df ci) j) = true ∧ (∀ a, vp_V (am_df ci) j ≠ .ref a) := by
  have h1 := List.all_eq_true.mp am_ct_ok ci (List.mem_range.mpr (am_cl_lt h))
  unfold am_ckT at h1
  rw [h] at h1
  split at h1
  · rename_i C' T' N' ty e1 e2
    cases e1
    obtain ⟨h2, h3⟩ := (Bool.and_eq_true _ _).mp h1
    have key := fun k hk => List.all_eq_true.mp h2 k (List.mem_range.mpr hk)
    refine ⟨ty, e2, fun j hj => ?_, fun a ha b hb hab => ?_, of_decide_eq_true h3, fun j hj => ?_⟩
    · have h4 := key j hj
      simp only [Bool.and_eq_true, decide_eq_true_eq] at h4
      exact h4.1.1.1.1
    · have h4 := key b hb
      simp only [Bool.and_eq_true] at h4
      have h5 := List.all_eq_true.mp h4.1.1.1.2 a (List.mem_range.mpr ha)
      rcases (Bool.or_eq_true _ _).mp h5 with h6 | h6
      · exact absurd (of_decide_eq_true h6) hab
      · exact of_decide_eq_true h6
    · have h4 := key j hj
      simp only [Bool.and_eq_true, decide_eq_true_eq] at h4
      refine ⟨h4.1.1.2, h4.1.2, fun a ha => ?_⟩
      have h5 := h4.2
      rw [ha] at h5
      cases h5
  · cases h1
def am_cF (ow i x y : Nat) (b : Bool) : Bool := am_FL.any (fun e => e.1 == ow && e.2.1 == i && e.2.2.1 == x && e.2.2.2.1 == y && (b || e.2.2.2.2.2 != 1))
theorem am_cF_ok {ow i x y : Nat} {b : Bool} (h : am_cF ow i x y b = true) : am_lkF am_TB (am_onm ow) i x y ∧ (b = false → ∀ C T N, am_cl[x]? = some (C, T, N) → Cond.fieldLink (am_onm ow) i C (T y).2.1 (T y).2.2.1 ∈ am_TB) := by
  obtain ⟨⟨e1, e2, e3, e4, e5, e6⟩, he, h1⟩ := List.any_eq_true.mp h
  simp only [Bool.and_eq_true, beq_iff_eq] at h1
  obtain ⟨⟨⟨⟨rfl, rfl⟩, rfl⟩, rfl⟩, h2⟩ := h1
  have h3 := List.all_eq_true.mp am_FL_ok _ he
  unfold am_ckF at h3
  simp only at h3
  split at h3
  · rename_i C T N hc
    simp only [Bool.and_eq_true, decide_eq_true_eq] at h3
    obtain ⟨⟨h4, h5⟩, h6⟩ := h3
    by_cases h7 : e6 = 1
    · rw [if_pos h7] at h6
      refine ⟨⟨C, T, N, hc, h4, h5, am_cls hc, Or.inr ⟨_, am_hasN_mem h6⟩⟩, fun hb => ?_⟩
      subst hb
      subst h7
      cases h2
    · rw [if_neg h7] at h6
      refine ⟨⟨C, T, N, hc, h4, h5, am_cls hc, Or.inl (am_has_mem h6)⟩, fun _ C' T' N' hc' => ?_⟩
      cases hc.symm.trans hc'
      exact am_has_mem h6
  · cases h3
def am_chkL (ow : Nat) (init : Bool) (q : am_X) : Bool := match q.1 with
  | .getfield i => am_cF ow i q.2.2.1 q.2.2.2.1 true
  | .putfield i => am_cF ow i q.2.2.1 q.2.2.2.1 true && (match am_cl[q.2.2.1]?, am_tyL[q.2.2.1]? with
    | some (C, T, _), some ty => am_fty q.2.2.2.2 (ty q.2.2.2.1) && (!(T q.2.2.2.1).2.2.2 || (init && decide (am_onm ow = C) && am_cF ow i q.2.2.1 q.2.2.2.1 false))
    | _, _ => false)
  | .new i => q.2.2.1 == 1000 || am_NL.any (fun e => e.1 == ow && e.2.1 == i && e.2.2.1 == q.2.2.1)
  | .newarray t => (match t with | .int => true | .char => true | .boolean => true | .long => true | _ => false)
  | .anewarray i => am_AL.any (fun e => e.1 == ow && e.2.1 == i)
  | .getstatic i => am_GS.any (fun e => e.1 == ow && e.2.1 == i)
  | .ldc i => ow == 10 && i == 87 && q.2.2.1 == 34020
  | _ => true
theorem am_chkL_ok {ow : Nat} {init : Bool} {q : am_X} (h : am_chkL ow init q = true) : am_lk am_TB (am_onm ow) init q := by
  obtain ⟨i, len, x, y, z⟩ := q
  cases i with
  | getfield i => exact (am_cF_ok h).1
  | putfield i =>
    obtain ⟨h1, h2⟩ := (Bool.and_eq_true _ _).mp h
    refine ⟨(am_cF_ok h1).1, fun C T N hc => ?_⟩
    obtain ⟨ty0, ht, h3, h4, -⟩ := am_clt hc
    refine ⟨ty0, h3, h4, ?_⟩
    simp only [hc, ht, Bool.and_eq_true, Bool.or_eq_true] at h2
    refine ⟨h2.1, ?_⟩
    rcases h2.2 with h5 | h5
    · exact Or.inl (by simpa using h5)
    · obtain ⟨⟨h6, h7⟩, h8⟩ := h5
      exact Or.inr ⟨h6, of_decide_eq_true h7, (am_cF_ok h8).2 rfl C T N hc⟩
  | new i =>
    intro hx
    rcases (Bool.or_eq_true _ _).mp h with h1 | h1
    · exact absurd (eq_of_beq h1) hx
    · obtain ⟨⟨e1, e2, e3, e4, e5, e6⟩, he, h2⟩ := List.any_eq_true.mp h1
      simp only [Bool.and_eq_true, beq_iff_eq] at h2
      obtain ⟨⟨rfl, rfl⟩, rfl⟩ := h2
      have h3 := List.all_eq_true.mp am_NL_ok _ he
      unfold am_ckN at h3
      simp only at h3
      split at h3
      · rename_i C T N hc
        simp only [Bool.and_eq_true] at h3
        obtain ⟨ty0, ht, h5, h6, h7, h8⟩ := am_clt hc
        exact ⟨C, T, N, hc, am_cls hc, am_has_mem h3.1.1, am_has_mem h3.1.2, am_has_mem h3.2, h7, ty0, h5, h8⟩
      · cases h3
  | newarray t =>
    cases t with
    | int => exact am_has_mem am_ac_int
    | char => exact am_has_mem am_ac_char
    | boolean => exact am_has_mem am_ac_boolean
    | long => exact am_has_mem am_ac_long
    | _ => cases h
  | anewarray i =>
    obtain ⟨⟨e1, e2, e3⟩, he, h2⟩ := List.any_eq_true.mp h
    simp only [Bool.and_eq_true, beq_iff_eq] at h2
    obtain ⟨rfl, rfl⟩ := h2
    exact ⟨am_has_mem (List.all_eq_true.mp am_AL_ok _ he), am_hasN_mem am_ao⟩
  | getstatic i =>
    obtain ⟨⟨e1, e2, e3, e4⟩, he, h2⟩ := List.any_eq_true.mp h
    simp only [Bool.and_eq_true, beq_iff_eq] at h2
    obtain ⟨rfl, rfl⟩ := h2
    have h3 := List.all_eq_true.mp am_GS_ok _ he
    simp only at h3
    split at h3
    · exact Or.inr ⟨_, am_hasN_mem h3⟩
    · exact Or.inl (am_has_mem h3)
  | ldc i =>
    replace h : (ow == 10 && i == 87 && x == 34020) = true := h
    simp only [Bool.and_eq_true, beq_iff_eq] at h
    obtain ⟨⟨rfl, rfl⟩, rfl⟩ := h
    exact am_has_mem am_ldc
  | _ => trivial
