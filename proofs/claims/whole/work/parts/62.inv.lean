def am_nl (now : Option am_U) : Nat := match now with
  | some u => am_sz u.1
  | none => 0
def am_iv (tl : Nat → Bool) (i : Int) (st : am_Re) : Prop := match st with
  | (F, now, md, k, _, lt, lone) => am_fw tl F ∧ am_ow tl (am_bs F).length now ∧ (md = 0 ∨ ((md = 1 ∨ md = 2) ∧ now = none ∧ (k = 1 ∨ k = 2))) ∧ (md = 2 → 97 ≤ lt ∧ lt ≤ 122) ∧ ((am_tF F).length : Int) + am_nl now + (if md = 0 then 0 else 1) ≤ 2 * i ∧ (am_oc F : Int) + (am_bs F).length ≤ i ∧ (am_wF F : Int) + am_wo now ≤ i ∧ -1 ≤ lone ∧ lone < i ∧ (lone ≠ -1 → lone = i - 1 → ∃ u, now = some u ∧ 20 ≤ am_rl u.1 ∧ am_rl u.1 < 30) ∧ 0 ≤ lt ∧ lt < 256
theorem am_jn_ok {tl : Nat → Bool} {K : Nat} {o : Option am_U} {v : am_U} (ho : am_ow tl K o) (hv : am_uw tl K v) : am_uw tl K (am_jn o v) ∧ am_sz (am_jn o v).1 ≤ am_nl o + am_sz v.1 + 1 ∧ am_wgt (am_jn o v).1 ≤ am_wo o + am_wgt v.1 + 2 ∧ (∀ z p, v = (.leaf z, p) → am_wgt (am_jn o v).1 ≤ am_wo o + 1) ∧ am_rl (am_jn o v).1 = am_rl v.1 := by
  cases o with
  | none => exact ⟨hv, by show am_sz v.1 ≤ 0 + am_sz v.1 + 1; omega, by show am_wgt v.1 ≤ 0 + am_wgt v.1 + 2; omega, fun z p h => by rw [h]; exact Nat.le_refl 1, rfl⟩
  | some u =>
    have hu := ho u rfl
    refine ⟨⟨⟨by omega, hu.1, hv.1⟩, ?_⟩, Nat.le_refl _, ?_, fun z p h => ?_, rfl⟩
    · show (u.2.headD 0 :: (u.2 ++ v.2)).length = am_sz u.1 + am_sz v.1 + 1
      rw [List.length_cons, List.length_append, hu.2, hv.2]
    · show am_wgt u.1 + am_wgt v.1 + (if 0 = 0 then (match v.1 with | .leaf _ => 0 | _ => 2) else 1) ≤ am_wgt u.1 + am_wgt v.1 + 2
      rw [if_pos rfl]
      cases v.1 <;> simp
    · rw [h]
      exact Nat.le_refl _
theorem am_tok_wn {tl : Nat → Bool} {B : List Int} {c z : Int} (h : am_tok tl B c = .ok z) : am_wn tl B.length (.leaf z) ∧ am_uw tl B.length (.leaf z, [0]) := by
  have hw : am_wn tl B.length (.leaf z) := by
    unfold am_tok at h
    split at h
    · split at h
      · rename_i i hi
        cases h
        have hl : ∀ {l : List Int} {i : Nat}, am_ix c l = some i → i < l.length := by
          intro l
          induction l with
          | nil => intro i h; cases h
          | cons x l ih =>
            intro i h
            unfold am_ix at h
            split at h
            · cases h
              rw [List.length_cons]
              omega
            · obtain ⟨j, hj, e⟩ := Option.map_eq_some_iff.mp h
              have := ih hj
              rw [List.length_cons]
              omega
        have := hl hi
        exact Or.inr (Or.inr (Or.inl ⟨by omega, by omega⟩))
      · cases h
    · split at h
      · split at h
        · rename_i h1 ht
          cases h
          exact Or.inr (Or.inl ⟨by omega, by omega, by rw [show c - 55 - 10 = c - 65 by omega]; exact ht⟩)
        · cases h
      · split at h
        · cases h
          exact Or.inl (by omega)
        · split at h
          · cases h
            exact Or.inl (by omega)
          · split at h
            · cases h
              exact Or.inl (by omega)
            · split at h
              · cases h
                exact Or.inl (by omega)
              · cases h
  exact ⟨hw, hw, rfl⟩
theorem am_rmz_ok {tl : Nat → Bool} {z : Int} (h0 : 20 ≤ z) (h1 : z ≤ 40) : ∀ {K : Nat} {t : am_T}, am_wn tl K t → am_wn tl K (am_rmz z t) ∧ am_sz (am_rmz z t) = am_sz t ∧ am_wgt (am_rmz z t) = am_wgt t
  | K, .leaf _, _ => ⟨Or.inr (Or.inr (Or.inr ⟨h0, h1⟩)), rfl, rfl⟩
  | K, .branch k a b, h => by
    obtain ⟨r1, r2, r3⟩ := am_rmz_ok h0 h1 h.2.2
    refine ⟨⟨h.1, h.2.1, r1⟩, ?_, ?_⟩
    · show am_sz a + am_sz (am_rmz z b) + 1 = am_sz a + am_sz b + 1
      rw [r2]
    · by_cases hk : k = 0
      · subst hk
        cases b with
        | leaf y => rfl
        | branch k2 c d =>
          show am_wgt a + am_wgt (am_rmz z (.branch k2 c d)) + 2 = am_wgt a + am_wgt (.branch k2 c d) + 2
          rw [r3]
      · show am_wgt (.branch k a (am_rmz z b)) = _
        rw [am_wgt_k hk, am_wgt_k hk, r3]
theorem am_tka_iv {tl : Nat → Bool} {F : List am_Fr} {now : Option am_U} {k : Nat} {pl lt lone c i : Int} {st' : am_Re} (i0 : 0 ≤ i) (h : am_iv tl i (F, now, 0, k, pl, lt, lone)) (ht : am_tka tl (F, now, 0, k, pl, lt, lone) c i = .ok st') : am_iv tl (i + 1) st' := by
  obtain ⟨a1, a2, a3, a4, a5, a6, a7, a8, a9, a10, a11, a12⟩ := h
  rw [if_pos rfl] at a5
  change (if 48 ≤ c ∧ c ≤ 57 then _ else _) = _ at ht
  split at ht
  · rename_i hc
    split at ht
    · rename_i hl
      obtain ⟨u, hu, r1, r2⟩ := a10 hl.1 hl.2
      subst hu
      simp only at ht
      split at ht
      · cases ht
      · rename_i hv
        cases ht
        have wu := a2 u rfl
        obtain ⟨m1, m2, m3⟩ := am_rmz_ok (z := 20 + (10 * (am_rl u.1 - 20) + (c - 48))) (by omega) (by omega) wu.1
        refine ⟨a1, fun w hw => ?_, Or.inl rfl, fun q => absurd q (by omega), ?_, by omega, ?_, by omega, by omega, fun q _ => absurd rfl q, a11, a12⟩
        · cases hw
          exact ⟨m1, by rw [m2]; exact wu.2⟩
        · rw [if_pos rfl]
          show ((am_tF F).length : Int) + am_sz (am_rmz _ u.1) + 0 ≤ _
          have a5' : ((am_tF F).length : Int) + am_sz u.1 + 0 ≤ 2 * i := a5
          rw [m2]
          omega
        · show (am_wF F : Int) + am_wgt (am_rmz _ u.1) ≤ _
          have a7' : (am_wF F : Int) + am_wgt u.1 ≤ i := a7
          rw [m3]
          omega
    · rename_i hl
      cases ht
      have wl : am_uw tl (am_bs F).length (.leaf (20 + (c - 48)), [i]) := ⟨Or.inr (Or.inr (Or.inr ⟨by omega, by omega⟩)), rfl⟩
      obtain ⟨j1, j2, j3, j4, j5⟩ := am_jn_ok a2 wl
      have j4' := j4 _ _ rfl
      have s1 : am_sz (.leaf (20 + (c - 48)) : am_T) = 1 := rfl
      refine ⟨a1, fun w hw => by cases hw; exact j1, Or.inl rfl, fun q => absurd q (by omega), ?_, by omega, ?_, by omega, by omega, fun _ _ => ⟨_, rfl, ?_, ?_⟩, a11, a12⟩
      · rw [if_pos rfl]
        show ((am_tF F).length : Int) + am_sz (am_jn now _).1 + 0 ≤ _
        simp only at j2
        omega
      · show (am_wF F : Int) + am_wgt (am_jn now _).1 ≤ _
        omega
      · rw [j5]
        show 20 ≤ 20 + (c - 48)
        omega
      · rw [j5]
        show 20 + (c - 48) < 30
        omega
  · split at ht
    · rename_i z hz
      cases ht
      have wl : am_uw tl (am_bs F).length (.leaf z, [i]) := ⟨(am_tok_wn hz).1, rfl⟩
      obtain ⟨j1, j2, j3, j4, j5⟩ := am_jn_ok a2 wl
      have j4' := j4 _ _ rfl
      have s1 : am_sz (.leaf z : am_T) = 1 := rfl
      refine ⟨a1, fun w hw => by cases hw; exact j1, Or.inl rfl, fun q => absurd q (by omega), ?_, by omega, ?_, by omega, by omega, fun _ q => absurd q (by omega), a11, a12⟩
      · rw [if_pos rfl]
        show ((am_tF F).length : Int) + am_sz (am_jn now _).1 + 0 ≤ _
        simp only at j2
        omega
      · show (am_wF F : Int) + am_wgt (am_jn now _).1 ≤ _
        omega
    · cases ht
theorem am_tk_iv {tl : Nat → Bool} {F : List am_Fr} {now : Option am_U} {md k : Nat} {pl lt lone c i : Int} {st' : am_Re} (i0 : 0 ≤ i) (c1 : c < 256) (h : am_iv tl i (F, now, md, k, pl, lt, lone)) (ht : am_tk tl (F, now, md, k, pl, lt, lone) c i = .ok st') : am_iv tl (i + 1) st' := by
  have h' := h
  obtain ⟨a1, a2, a3, a4, a5, a6, a7, a8, a9, a10, a11, a12⟩ := h'
  change (if md = 1 then _ else _) = _ at ht
  split at ht
  · rename_i hm
    subst hm
    split at ht
    · rename_i hc
      cases ht
      refine ⟨a1, a2, ?_, fun _ => hc, ?_, by omega, by omega, by omega, by omega, fun _ q => absurd q (by omega), by omega, by omega⟩
      · rcases a3 with q | q
        · omega
        · exact Or.inr ⟨Or.inr rfl, q.2⟩
      · rw [if_neg (by omega)] at a5 ⊢
        omega
    · cases ht
  · rename_i hm1
    split at ht
    · rename_i hm
      subst hm
      split at ht
      · cases ht
        rcases a3 with q | ⟨-, q2, q3⟩
        · omega
        · subst q2
          have hk0 : ¬ k = 0 := by omega
          rw [if_neg (by omega)] at a5
          refine ⟨⟨a1, fun u hu => (by cases hu), Or.inr (Or.inl ⟨rfl, q3, rfl, a4 rfl⟩)⟩, fun u hu => (by cases hu), Or.inl rfl, fun q => absurd q (by omega), ?_, ?_, ?_, by omega, by omega, fun _ q => absurd q (by omega), a11, a12⟩
          · rw [if_pos rfl]
            show ((am_tF F ++ ((if k = 0 then [] else [(k : Int)]) ++ [])).length : Int) + 0 + 0 ≤ _
            rw [if_neg hk0, List.length_append]
            simp only [List.append_nil, List.length_singleton]
            have a5' : ((am_tF F).length : Int) + 0 + 1 ≤ 2 * i := a5
            omega
          · show ((am_oc F + 1 : Nat) : Int) + (am_bs F).length ≤ _
            omega
          · show ((am_wF F + 0 + 1 : Nat) : Int) + 0 ≤ _
            have a7' : (am_wF F : Int) + 0 ≤ i := a7
            omega
      · cases ht
    · rename_i hm2
      have hm0 : md = 0 := by
        rcases a3 with q | q
        · exact q
        · omega
      subst hm0
      rw [if_pos rfl] at a5
      split at ht
      · cases ht
        refine ⟨⟨a1, a2, Or.inl ⟨rfl, rfl⟩⟩, fun u hu => (by cases hu), Or.inl rfl, fun q => absurd q (by omega), ?_, ?_, ?_, by omega, by omega, fun _ q => absurd q (by omega), a11, a12⟩
        · rw [if_pos rfl]
          cases now with
          | none =>
            show ((am_tF F ++ ([] ++ [])).length : Int) + 0 + 0 ≤ _
            rw [List.length_append]
            simp only [List.append_nil, List.length_nil]
            have a5' : ((am_tF F).length : Int) + 0 + 0 ≤ 2 * i := a5
            omega
          | some u =>
            show ((am_tF F ++ ([] ++ am_lay u.1)).length : Int) + 0 + 0 ≤ _
            rw [List.length_append, List.nil_append, am_lay_len]
            have a5' : ((am_tF F).length : Int) + am_sz u.1 + 0 ≤ 2 * i := a5
            omega
        · show ((am_oc F + 1 : Nat) : Int) + (am_bs F).length ≤ _
          omega
        · show ((am_wF F + am_wo now + 1 : Nat) : Int) + 0 ≤ _
          omega
      · rename_i hc40
        cases now with
        | none =>
          simp only at ht
          split at ht
          · cases ht
            refine ⟨a1, a2, Or.inr ⟨Or.inl rfl, rfl, ?_⟩, fun q => absurd q (by omega), ?_, by omega, by omega, by omega, by omega, fun _ q => absurd q (by omega), a11, a12⟩
            · split
              · exact Or.inr rfl
              · exact Or.inl rfl
            · rw [if_neg (by omega)]
              omega
          · exact am_tka_iv i0 h ht
        | some u =>
          simp only at ht
          have wu := a2 u rfl
          split at ht
          · cases ht
            refine ⟨⟨a1, a2, Or.inr (Or.inr (Or.inr ⟨rfl, rfl, rfl, rfl⟩))⟩, fun u hu => (by cases hu), Or.inl rfl, fun q => absurd q (by omega), ?_, ?_, ?_, by omega, by omega, fun _ q => absurd q (by omega), a11, a12⟩
            · rw [if_pos rfl]
              show ((am_tF F ++ ([(2 : Int)] ++ am_lay u.1)).length : Int) + 0 + 0 ≤ _
              rw [List.length_append, List.length_append, List.length_singleton, am_lay_len]
              have a5' : ((am_tF F).length : Int) + am_sz u.1 + 0 ≤ 2 * i := a5
              omega
            · show (am_oc F : Int) + ((0 : Int) :: am_bs F).length ≤ _
              rw [List.length_cons]
              omega
            · show ((am_wF F + am_wgt u.1 + 1 : Nat) : Int) + 0 ≤ _
              have a7' : (am_wF F : Int) + am_wgt u.1 ≤ i := a7
              omega
          · split at ht
            · rename_i kd l p k' o F' v hfo
              obtain ⟨r1, r2, r3, r4, r5, r6, r7, r8, B, r9⟩ := am_fo_spec hfo a1 wu
              have hkd : kd < 2 := r8 _ _ rfl
              have a5' : ((am_tF F).length : Int) + am_sz u.1 + 0 ≤ 2 * i := a5
              have a7' : (am_wF F : Int) + am_wgt u.1 ≤ i := a7
              have l3 := congrArg List.length r3
              rw [List.length_append, List.length_append, am_lay_len, am_lay_len] at l3
              obtain ⟨g1, g2, g3⟩ := r1
              have ebs : am_bs ((kd, l, p, k', o) :: F') = am_bs F' := if_neg (by omega)
              have eoc : am_oc ((kd, l, p, k', o) :: F') = am_oc F' + 1 := if_neg (by omega)
              rw [ebs] at r2 r6
              rw [eoc] at r5
              have eW : am_wF ((kd, l, p, k', o) :: F') = am_wF F' + am_wo o + 1 := rfl
              rw [eW] at r7
              have eT : am_tF ((kd, l, p, k', o) :: F') = am_tF F' ++ am_pcT (kd, l, p, k', o) := rfl
              rw [eT, List.length_append] at l3
              split at ht
              · rename_i hq
                obtain ⟨rfl, -⟩ := hq
                cases ht
                have hk' : k' = 0 := by omega
                subst hk'
                have hv2 : am_uw tl (am_bs F').length (v.1, p :: v.2.tail) := by
                  refine ⟨r2.1, ?_⟩
                  have := r2.2
                  have := am_sz_pos v.1
                  show (p :: v.2.tail).length = am_sz v.1
                  rw [List.length_cons, List.length_tail]
                  omega
                obtain ⟨j1, j2, j3, j4, j5⟩ := am_jn_ok g2 hv2
                have lo : (am_pcT (0, l, p, 0, o)).length = am_nl o := by
                  cases o with
                  | none => rfl
                  | some w => show ([] ++ am_lay w.1).length = am_sz w.1; rw [List.nil_append, am_lay_len]
                refine ⟨g1, fun w hw => by cases hw; exact j1, Or.inl rfl, fun q => absurd q (by omega), ?_, by omega, ?_, by omega, by omega, fun _ q => absurd q (by omega), a11, a12⟩
                · rw [if_pos rfl]
                  show ((am_tF F').length : Int) + am_sz (am_jn o _).1 + 0 ≤ _
                  simp only at j2
                  omega
                · show (am_wF F' : Int) + am_wgt (am_jn o _).1 ≤ _
                  simp only at j3
                  omega
              · split at ht
                · rename_i hq
                  obtain ⟨rfl, -⟩ := hq
                  cases ht
                  have hg : (k' = 1 ∨ k' = 2) ∧ o = none ∧ 97 ≤ l ∧ l ≤ 122 := by
                    rcases g3 with q | q | q | q
                    · omega
                    · exact q.2
                    · omega
                    · omega
                  obtain ⟨hk', rfl, hl1, hl2⟩ := hg
                  have lo : (am_pcT (1, l, p, k', none)).length = 1 := by
                    show ((if k' = 0 then [] else [(k' : Int)]) ++ []).length = 1
                    rw [if_neg (by omega)]
                    rfl
                  refine ⟨⟨g1, fun w hw => (by cases hw; exact r2), Or.inr (Or.inr (Or.inl ⟨rfl, hk', rfl, hl1, hl2⟩))⟩, fun u hu => (by cases hu), Or.inl rfl, fun q => absurd q (by omega), ?_, ?_, ?_, by omega, by omega, fun _ q => absurd q (by omega), a11, a12⟩
                  · rw [if_pos rfl]
                    show ((am_tF F' ++ ((if k' = 0 then [] else [(k' : Int)]) ++ am_lay v.1)).length : Int) + 0 + 0 ≤ _
                    rw [if_neg (by omega), List.length_append, List.length_append, List.length_singleton, am_lay_len]
                    omega
                  · show (am_oc F' : Int) + (l :: am_bs F').length ≤ _
                    rw [List.length_cons]
                    omega
                  · show ((am_wF F' + am_wgt v.1 + 1 : Nat) : Int) + 0 ≤ _
                    have : am_wo (none : Option am_U) = 0 := rfl
                    omega
                · exact am_tka_iv i0 h ht
            · exact am_tka_iv i0 h ht
