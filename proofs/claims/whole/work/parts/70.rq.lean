/-! the reference's parts while a line is read: children stand before their pair -/
def am_rq (S : am_St) (lo : Int) : Int → am_T → List Int → Prop
  | p, .leaf z, P => lo ≤ p ∧ p < 400 ∧ S 187 p = am_es z ∧ (20 ≤ z ∧ z ≤ 40 → S 188 p = z - 20) ∧ P = [S 190 p]
  | p, .branch k a b, P => lo ≤ p ∧ p < 400 ∧ S 187 p = ((k + 1 : Nat) : Int) ∧ S 188 p < p ∧ S 189 p < p ∧ ∃ Pa Pb, P = S 190 p :: (Pa ++ Pb) ∧ Pa.length = am_sz a ∧ am_rq S lo (S 188 p) a Pa ∧ am_rq S lo (S 189 p) b Pb
theorem am_rq_p {S : am_St} {lo : Int} : ∀ {t : am_T} {p : Int} {P : List Int}, am_rq S lo p t P → lo ≤ p ∧ p < 400 ∧ P.headD 0 = S 190 p ∧ 0 < P.length
  | .leaf _, _, _, h => by
    obtain ⟨h1, h2, -, -, h5⟩ := h
    subst h5
    exact ⟨h1, h2, rfl, by simp⟩
  | .branch _ _ _, _, _, h => by
    obtain ⟨h1, h2, -, -, -, Pa, Pb, h6, -⟩ := h
    subst h6
    exact ⟨h1, h2, rfl, by simp⟩
theorem am_rq_fr {S S' : am_St} {lo : Int} : ∀ {t : am_T} {p : Int} {P : List Int}, (∀ h, 187 ≤ h → h ≤ 190 → ∀ j, lo ≤ j → j ≤ p → S' h j = S h j) → am_rq S lo p t P → am_rq S' lo p t P
  | .leaf z, p, P, hs, h => by
    obtain ⟨h1, h2, h3, h4, h5⟩ := h
    refine ⟨h1, h2, ?_, fun q => ?_, ?_⟩
    · rw [hs 187 (by omega) (by omega) p h1 (Int.le_refl _)]; exact h3
    · rw [hs 188 (by omega) (by omega) p h1 (Int.le_refl _)]; exact h4 q
    · rw [hs 190 (by omega) (by omega) p h1 (Int.le_refl _)]; exact h5
  | .branch k a b, p, P, hs, h => by
    obtain ⟨h1, h2, h3, h4, h5, Pa, Pb, h6, h7, h8, h9⟩ := h
    have e8 := hs 188 (by omega) (by omega) p h1 (Int.le_refl _)
    have e9 := hs 189 (by omega) (by omega) p h1 (Int.le_refl _)
    refine ⟨h1, h2, ?_, by rw [e8]; exact h4, by rw [e9]; exact h5, Pa, Pb, ?_, h7, ?_, ?_⟩
    · rw [hs 187 (by omega) (by omega) p h1 (Int.le_refl _)]; exact h3
    · rw [hs 190 (by omega) (by omega) p h1 (Int.le_refl _)]; exact h6
    · rw [e8]
      exact am_rq_fr (fun x a b j c e => hs x a b j c (by omega)) h8
    · rw [e9]
      exact am_rq_fr (fun x a b j c e => hs x a b j c (by omega)) h9
theorem am_rq_lo {S : am_St} {lo lo' : Int} (hl : lo' ≤ lo) : ∀ {t : am_T} {p : Int} {P : List Int}, am_rq S lo p t P → am_rq S lo' p t P
  | .leaf z, p, P, h => ⟨by have := h.1; omega, h.2⟩
  | .branch k a b, p, P, h => by
    obtain ⟨h1, h2, h3, h4, h5, Pa, Pb, h6, h7, h8, h9⟩ := h
    exact ⟨by omega, h2, h3, h4, h5, Pa, Pb, h6, h7, am_rq_lo hl h8, am_rq_lo hl h9⟩
theorem am_rq_pl {S : am_St} {lo v : Int} : ∀ {t : am_T} {p : Int} {P : List Int}, am_rq S lo p t P → am_rq (am_set S 190 p v) lo p t (v :: P.tail)
  | .leaf z, p, P, h => by
    obtain ⟨h1, h2, h3, h4, h5⟩ := h
    subst h5
    refine ⟨h1, h2, by rw [am_set_sh (by omega)]; exact h3, by rw [am_set_sh (by omega)]; exact h4, ?_⟩
    rw [am_set_se]
    rfl
  | .branch k a b, p, P, h => by
    obtain ⟨h1, h2, h3, h4, h5, Pa, Pb, h6, h7, h8, h9⟩ := h
    subst h6
    have e8 : am_set S 190 p v 188 = S 188 := am_set_sh (by omega)
    have e9 : am_set S 190 p v 189 = S 189 := am_set_sh (by omega)
    have hs : ∀ q : Int, q < p → ∀ h, 187 ≤ h → h ≤ 190 → ∀ j, lo ≤ j → j ≤ q → am_set S 190 p v h j = S h j := fun q hq h _ _ j _ c => by
      rw [am_set_at, if_neg (by omega)]
    refine ⟨h1, h2, by rw [am_set_sh (by omega)]; exact h3, by rw [e8]; exact h4, by rw [e9]; exact h5, Pa, Pb, ?_, h7, ?_, ?_⟩
    · rw [am_set_se]
      rfl
    · rw [e8]
      exact am_rq_fr (hs _ h4) h8
    · rw [e9]
      exact am_rq_fr (hs _ h5) h9
theorem am_rq_rep {S : am_St} {lo : Int} {pl : Int → Int} (h0 : 0 ≤ lo) : ∀ {t : am_T} {p q : Int} {P : List Int}, am_rq S lo p t P → am_sg pl q P → am_rep S pl p t q
  | .leaf z, p, q, P, h, hp => by
    obtain ⟨h1, h2, h3, h4, h5⟩ := h
    subst h5
    exact ⟨by omega, h2, h3, h4, (am_sg_one.mp hp).symm⟩
  | .branch k a b, p, q, P, h, hp => by
    obtain ⟨h1, h2, h3, h4, h5, Pa, Pb, h6, h7, h8, h9⟩ := h
    subst h6
    obtain ⟨e1, e2⟩ := am_sg_cons.mp hp
    obtain ⟨e3, e4⟩ := am_sg_app.mp e2
    rw [h7] at e4
    exact ⟨by omega, h2, h3, e1.symm, am_rq_rep h0 h8 e3, am_rq_rep h0 h9 e4⟩
/-- frames are entries of the open arrays -/
def am_rF (S : am_St) : List am_Fr → Int → Prop
  | [], hi => 0 ≤ hi
  | (kd, l, p, k, o) :: F, hi => ∃ lo, am_rF S F lo ∧ lo ≤ hi ∧ S 191 F.length = ((kd + 1 : Nat) : Int) ∧ S 193 F.length = p ∧ (1 ≤ kd → S 194 F.length = ((k + 1 : Nat) : Int)) ∧ (kd = 1 ∨ kd = 2 → S 195 F.length = l - 97) ∧ (match o with
    | none => kd = 0 → S 192 F.length = -1
    | some A => S 192 F.length < hi ∧ am_rq S lo (S 192 F.length) A.1 A.2)
theorem am_rF_0 {S : am_St} : ∀ {F : List am_Fr} {hi : Int}, am_rF S F hi → 0 ≤ hi
  | [], _, h => h
  | (kd, l, p, k, o) :: F, hi, h => by
    obtain ⟨lo, h1, h2, -⟩ := h
    have := am_rF_0 h1
    omega
theorem am_rF_fr {S S' : am_St} : ∀ {F : List am_Fr} {hi : Int}, (∀ h, 191 ≤ h → h ≤ 195 → ∀ j : Int, 0 ≤ j → j < F.length → S' h j = S h j) → (∀ h, 187 ≤ h → h ≤ 190 → ∀ j, 0 ≤ j → j < hi → S' h j = S h j) → am_rF S F hi → am_rF S' F hi
  | [], _, _, _, h => h
  | (kd, l, p, k, o) :: F, hi, hs, hp, h => by
    obtain ⟨lo, h1, h2, h3, h4, h5, h6, h7⟩ := h
    have hl : ((F.length : Nat) : Int) < (((kd, l, p, k, o) :: F).length : Nat) := by rw [List.length_cons]; omega
    have l0 := am_rF_0 h1
    refine ⟨lo, am_rF_fr (fun x a b j c d => hs x a b j c (by omega)) (fun x a b j c d => hp x a b j c (by omega)) h1, h2, ?_, ?_, fun q => ?_, fun q => ?_, ?_⟩
    · rw [hs 191 (by omega) (by omega) _ (by omega) hl]; exact h3
    · rw [hs 193 (by omega) (by omega) _ (by omega) hl]; exact h4
    · rw [hs 194 (by omega) (by omega) _ (by omega) hl]; exact h5 q
    · rw [hs 195 (by omega) (by omega) _ (by omega) hl]; exact h6 q
    · have e := hs 192 (by omega) (by omega) _ (by omega) hl
      cases o with
      | none =>
        show kd = 0 → S' 192 F.length = -1
        rw [e]
        exact h7
      | some A =>
        show S' 192 F.length < hi ∧ am_rq S' lo (S' 192 F.length) A.1 A.2
        rw [e]
        exact ⟨h7.1, am_rq_fr (fun x a b j c d => hp x a b j (by omega) (by have := h7.1; omega)) h7.2⟩
theorem am_rF_up {S : am_St} : ∀ {F : List am_Fr} {hi hi' : Int}, am_rF S F hi → hi ≤ hi' → am_rF S F hi'
  | [], hi, hi', h, hh => by
    have h0 : 0 ≤ hi := h
    show 0 ≤ hi'
    omega
  | (kd, l, p, k, o) :: F, hi, hi', h, hh => by
    obtain ⟨lo, h1, h2, h3, h4, h5, h6, h7⟩ := h
    refine ⟨lo, h1, by omega, h3, h4, h5, h6, ?_⟩
    cases o with
    | none => exact h7
    | some A => exact ⟨by have := h7.1; omega, h7.2⟩
/-- frames that have a token of their own -/
def am_kc : List am_Fr → Nat
  | [] => 0
  | (_, _, _, k, _) :: F => am_kc F + if k = 0 then 0 else 1
def am_RR (S : am_St) (F : List am_Fr) (now : Option am_U) (x : Int) : Prop := S 179 18 = F.length ∧ S 179 24 = (am_bs F).length ∧ am_sg (S 196) 0 ((am_bs F).map am_lm).reverse ∧ S 179 12 + am_kc F ≤ ((am_tF F).length : Int) + am_nl now ∧ ∃ lo, am_rF S F lo ∧ lo ≤ S 179 12 ∧ (match now with
  | none => x = -1
  | some u => x < S 179 12 ∧ am_rq S lo x u.1 u.2)
theorem am_rdl_skip {tl : Nat → Bool} : ∀ {cs : List Int} {i : Int} {st : am_Re}, am_rdl tl cs i st = am_rdl tl (cs.drop (am_nb cs)) (i + am_nb cs) st
  | [], i, st => by
    show am_rdl tl [] i st = am_rdl tl [] (i + ((0 : Nat) : Int)) st
    rfl
  | c :: cs, i, st => by
    by_cases h : c = 32
    · have e : am_nb (c :: cs) = am_nb cs + 1 := if_pos h
      have e2 : am_rdl tl (c :: cs) i st = am_rdl tl cs (i + 1) st := if_pos h
      rw [e, e2, am_rdl_skip (cs := cs), List.drop_succ_cons, show i + 1 + (am_nb cs : Int) = i + ((am_nb cs + 1 : Nat) : Int) by omega]
    · have e : am_nb (c :: cs) = 0 := if_neg h
      rw [e, Int.natCast_zero, Int.add_zero, List.drop_zero]
