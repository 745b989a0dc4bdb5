/-! the type of a tree -/
def am_rty : am_T := (.branch 2 (.branch 2 (.leaf 5) (.leaf 3)) (.branch 2 (.branch 0 (.leaf 50) (.leaf 6)) (.branch 2 (.branch 2 (.leaf 5) (.branch 2 (.branch 0 (.leaf 52) (.leaf 50)) (.branch 0 (.leaf 53) (.branch 0 (.leaf 7) (.leaf 51))))) (.branch 2 (.leaf 5) (.branch 0 (.leaf 53) (.leaf 50))))))
theorem am_rty_lay : am_lay am_rty = [2, 2, 5, 3, 2, 0, 50, 6, 2, 2, 5, 2, 0, 52, 50, 0, 53, 0, 7, 51, 2, 5, 0, 53, 50] := rfl
def am_aty (TP : Nat → Option am_T) (Γ : List am_T) (z : Int) : Option am_T :=
  if 50 ≤ z then (match Γ[(z - 50).toNat]? with
    | some A => am_cap (am_li (z - 50 + 1) 0 A)
    | none => none)
  else if 10 ≤ z ∧ z < 18 then TP (z - 10).toNat
  else if z = 8 then some am_rty
  else if z = 7 then some (.branch 2 (.leaf 5) (.leaf 5))
  else if z = 3 then some (.leaf 4)
  else if z = 5 then some (.leaf 3) else some (.leaf 5)
def am_dom : am_T → Option (am_T × am_T)
  | .leaf _ => none
  | .branch k A B => if k = 2 then some (A, B) else none
/-- an application, from the type of what is applied -/
def am_ap (NM : Nat → Option am_T) (b : am_T) (pa pb : Int) (F : Option am_T) (G : Except (Int × Int) (Option am_T)) : Except (Int × Int) (Option am_T) :=
  match am_nf NM 60 F with
  | none => .error (-7, pa)
  | some (_, P) => match am_dom P with
    | none => .error (-5, pa)
    | some (A, B) => match G with
      | .error e => .error e
      | .ok G => match am_nf NM 60 G with
        | none => .error (-7, pb)
        | some (_, G') => if am_lay G' = am_lay A then .ok (am_cap (am_sb (am_xp b) 0 B)) else .error (-6, pb)
/-- the sort that a type comes to -/
def am_so (NM : Nat → Option am_T) (p : Int) (F : Except (Int × Int) (Option am_T)) : Except (Int × Int) am_T :=
  match F with
  | .error e => .error e
  | .ok F => match am_nf NM 60 F with
    | none => .error (-7, p)
    | some (_, s) => if am_lay s = [3] ∨ am_lay s = [4] then .ok s else .error (-4, p)
def am_pi (A : am_T) : Option am_T → Option am_T
  | none => none
  | some B => am_cap (.branch 2 A B)
def am_fn (A : am_T) (p : Int) (F : Except (Int × Int) (Option am_T)) : Except (Int × Int) (Option am_T) :=
  match F with
  | .error e => .error e
  | .ok B => if B.map am_lay = some [4] then .error (-4, p) else .ok (am_pi A B)
def am_ty (NM TP : Nat → Option am_T) (pl : Int → Int) : List am_T → am_T → Int → Except (Int × Int) (Option am_T)
  | Γ, .leaf z, _ => .ok (am_aty TP Γ z)
  | Γ, .branch k a b, q =>
    if k = 0 then (match am_ty NM TP pl Γ a (q + 1) with
      | .error e => .error e
      | .ok F => am_ap NM b (pl (q + 1)) (pl (q + 1 + am_sz a)) F (am_ty NM TP pl Γ b (q + 1 + am_sz a)))
    else match am_so NM (pl (q + 1)) (am_ty NM TP pl Γ a (q + 1)) with
      | .error e => .error e
      | .ok _ => if k = 1 then am_fn (am_xp a) (pl (q + 1 + am_sz a)) (am_ty NM TP pl (am_xp a :: Γ) b (q + 1 + am_sz a))
        else match am_so NM (pl (q + 1 + am_sz a)) (am_ty NM TP pl (am_xp a :: Γ) b (q + 1 + am_sz a)) with
          | .error e => .error e
          | .ok s => .ok (some s)
/-- what a line can hold -/
def am_wn (tl : Nat → Bool) : Nat → am_T → Prop
  | K, .leaf z => (3 ≤ z ∧ z ≤ 8) ∨ (10 ≤ z ∧ z < 18 ∧ tl (z - 10).toNat = true) ∨ (50 ≤ z ∧ z < 50 + (K : Int)) ∨ (20 ≤ z ∧ z ≤ 40)
  | K, .branch k a b => k ≤ 2 ∧ am_wn tl K a ∧ am_wn tl (K + am_bd k) b
theorem am_wf_nm {tl : Nat → Bool} {K : Nat} : ∀ {n : Nat}, am_wf tl K (am_nm n)
  | 0 => Or.inl (by omega)
  | n + 1 => ⟨by omega, Or.inl (by omega), am_wf_nm (n := n)⟩
theorem am_wn_xp {tl : Nat → Bool} : ∀ {K : Nat} {t : am_T}, am_wn tl K t → am_wf tl K (am_xp t)
  | K, .leaf z, h => by
    unfold am_xp
    split
    · exact am_wf_nm
    · rename_i hz
      rcases h with h | h | h | h
      · exact Or.inl h
      · exact Or.inr (Or.inl h)
      · exact Or.inr (Or.inr h)
      · exact absurd h hz
  | K, .branch k a b, h => ⟨h.1, am_wn_xp h.2.1, am_wn_xp h.2.2⟩
theorem am_wn_gd {tl : Nat → Bool} : ∀ {K : Nat} {t : am_T}, am_wn tl K t → K + am_sz t ≤ 900 → am_gd t
  | K, .leaf z, h, hk => by
    have e : am_sz (.leaf z) = 1 := rfl
    have : (3 ≤ z ∧ z ≤ 8) ∨ (10 ≤ z ∧ z < 18 ∧ tl (z - 10).toNat = true) ∨ (50 ≤ z ∧ z < 50 + (K : Int)) ∨ (20 ≤ z ∧ z ≤ 40) := h
    show 3 ≤ z ∧ z < 1000
    omega
  | K, .branch k a b, h, hk => by
    have e : am_sz (.branch k a b) = am_sz a + am_sz b + 1 := rfl
    have hb := am_bd_le (k := k)
    have sa := am_sz_pos a
    exact ⟨h.1, am_wn_gd h.2.1 (by omega), am_wn_gd h.2.2 (by omega)⟩
/-- what stands behind the colons, innermost first -/
def am_cw (tl : Nat → Bool) : List am_T → Prop
  | [] => True
  | A :: Γ => am_wf tl Γ.length A ∧ am_cw tl Γ
theorem am_cw_get {tl : Nat → Bool} : ∀ {Γ : List am_T} {i : Nat} {A : am_T}, am_cw tl Γ → Γ[i]? = some A → ∃ K, K + i + 1 = Γ.length ∧ am_wf tl K A
  | [], i, A, h, hi => by cases hi
  | B :: Γ, 0, A, h, hi => by
    cases hi
    exact ⟨Γ.length, by simp, h.1⟩
  | B :: Γ, i + 1, A, h, hi => by
    obtain ⟨K, h1, h2⟩ := am_cw_get (Γ := Γ) (i := i) h.2 hi
    exact ⟨K, by rw [List.length_cons]; omega, h2⟩
theorem am_rty_wf {tl : Nat → Bool} {K : Nat} : am_wf tl K am_rty := by
  refine am_wf_le (K := 0) ?_ (Nat.zero_le _)
  unfold am_rty
  simp only [am_wf, am_bd]
  simp
def am_okt (tl : Nat → Bool) (K : Nat) (o : Option am_T) : Prop := ∀ u, o = some u → am_wf tl K u ∧ am_sz u ≤ 80
theorem am_okt_cap {tl : Nat → Bool} {K : Nat} {t : am_T} (h : am_wf tl K t) : am_okt tl K (am_cap t) := fun u hu => by
  obtain ⟨rfl, h2⟩ := am_cap_some hu
  exact ⟨h, h2⟩
theorem am_aty_ok {tl : Nat → Bool} {TP : Nat → Option am_T} {Γ : List am_T} {z : Int} (hz : am_wn tl Γ.length (.leaf z)) (hc : am_cw tl Γ) (hT : ∀ k, tl k = true → am_okt tl 0 (TP k)) : am_okt tl Γ.length (am_aty TP Γ z) := by
  have hz' : (3 ≤ z ∧ z ≤ 8) ∨ (10 ≤ z ∧ z < 18 ∧ tl (z - 10).toNat = true) ∨ (50 ≤ z ∧ z < 50 + (Γ.length : Int)) ∨ (20 ≤ z ∧ z ≤ 40) := hz
  unfold am_aty
  split
  · rename_i h5
    split
    · rename_i A hA
      obtain ⟨K, h1, h2⟩ := am_cw_get hc hA
      have e : z - 50 + 1 = (((z - 50).toNat + 1 : Nat) : Int) := by omega
      rw [e]
      have := am_wf_li (m := (z - 50).toNat + 1) (K := K) (j := 0) (t := A) (by rw [Nat.zero_add]; exact h2)
      rw [show 0 + ((z - 50).toNat + 1) + K = Γ.length by omega] at this
      exact am_okt_cap this
    · intro u hu
      cases hu
  · split
    · rename_i h1
      intro u hu
      have ht : tl (z - 10).toNat = true := by
        rcases hz' with q | q | q | q
        · omega
        · exact q.2.2
        · omega
        · omega
      obtain ⟨h2, h3⟩ := hT _ ht u hu
      exact ⟨am_wf_le h2 (Nat.zero_le _), h3⟩
    · split
      · intro u hu
        cases hu
        exact ⟨am_rty_wf, by decide⟩
      · split
        · intro u hu
          cases hu
          exact ⟨⟨by omega, Or.inl (by omega), Or.inl (by omega)⟩, by decide⟩
        · split
          · intro u hu
            cases hu
            exact ⟨Or.inl (by omega), by decide⟩
          · split
            · intro u hu
              cases hu
              exact ⟨Or.inl (by omega), by decide⟩
            · intro u hu
              cases hu
              exact ⟨Or.inl (by omega), by decide⟩
theorem am_ap_ok {tl : Nat → Bool} {NM : Nat → Option am_T} {K : Nat} {b : am_T} {pa pb : Int} {F : Option am_T} {G : Except (Int × Int) (Option am_T)} {o : Option am_T} (hc : am_nc tl NM) (hb : am_wn tl K b) (hF : am_okt tl K F) (h : am_ap NM b pa pb F G = .ok o) : am_okt tl K o := by
  unfold am_ap at h
  split at h
  · cases h
  · rename_i j P hP
    obtain ⟨wP, -, -, -⟩ := am_nf_wf hc hF hP
    split at h
    · cases h
    · rename_i A B hd
      have wB : am_wf tl (K + 1) B := by
        cases P with
        | leaf z => cases hd
        | branch k A' B' =>
          change (if k = 2 then some (A', B') else none) = some (A, B) at hd
          split at hd
          · rename_i hk
            subst hk
            cases hd
            exact wP.2.2
          · cases hd
      split at h
      · cases h
      · split at h
        · cases h
        · split at h
          · cases h
            have := am_wf_sb (j := 0) (am_wn_xp hb) (show am_wf tl (0 + 1 + K) B by rw [show 0 + 1 + K = K + 1 by omega]; exact wB)
            rw [Nat.zero_add] at this
            exact am_okt_cap this
          · cases h
theorem am_so_ok {tl : Nat → Bool} {NM : Nat → Option am_T} {K : Nat} {p : Int} {F : Except (Int × Int) (Option am_T)} {s : am_T} (hc : am_nc tl NM) (hF : ∀ o, F = .ok o → am_okt tl K o) (h : am_so NM p F = .ok s) : am_wf tl 0 s ∧ am_sz s ≤ 80 ∧ (am_lay s = [3] ∨ am_lay s = [4]) := by
  unfold am_so at h
  split at h
  · cases h
  · rename_i F'
    split at h
    · cases h
    · rename_i j s' hs
      obtain ⟨w1, w2, -, -⟩ := am_nf_wf hc (hF _ rfl) hs
      split at h
      · rename_i hl
        cases h
        refine ⟨?_, w2, hl⟩
        have hlen : am_sz s = 1 := by
          rw [← am_lay_len]
          rcases hl with q | q <;> rw [q] <;> rfl
        cases s with
        | leaf z =>
          have hz : z = 3 ∨ z = 4 := by
            rcases hl with q | q
            · left; cases q; rfl
            · right; cases q; rfl
          exact Or.inl (by omega)
        | branch k a b =>
          have e : am_sz (.branch k a b) = am_sz a + am_sz b + 1 := rfl
          have := am_sz_pos a
          omega
      · cases h
theorem am_ty_ok {tl : Nat → Bool} {NM TP : Nat → Option am_T} {pl : Int → Int} (hc : am_nc tl NM) (hT : ∀ k, tl k = true → am_okt tl 0 (TP k)) : ∀ {Γ : List am_T} {t : am_T} {q : Int} {o : Option am_T}, am_wn tl Γ.length t → am_cw tl Γ → am_ty NM TP pl Γ t q = .ok o → am_okt tl Γ.length o
  | Γ, .leaf z, q, o, ht, hg, h => by
    have e : am_aty TP Γ z = o := by
      unfold am_ty at h
      cases h
      rfl
    rw [← e]
    exact am_aty_ok ht hg hT
  | Γ, .branch k a b, q, o, ht, hg, h => by
    unfold am_ty at h
    split at h
    · rename_i hk
      subst hk
      split at h
      · cases h
      · rename_i F hF
        exact am_ap_ok hc ht.2.2 (am_ty_ok hc hT ht.2.1 hg hF) h
    · rename_i hk
      have eb : am_bd k = 1 := if_neg hk
      have hb : am_wn tl (am_xp a :: Γ).length b := by
        rw [List.length_cons, ← eb]
        exact ht.2.2
      have hg2 : am_cw tl (am_xp a :: Γ) := ⟨am_wn_xp ht.2.1, hg⟩
      split at h
      · cases h
      · rename_i s hs
        split at h
        · unfold am_fn at h
          split at h
          · cases h
          · rename_i B hB
            split at h
            · cases h
            · cases h
              intro u hu
              cases B with
              | none => cases hu
              | some B =>
                obtain ⟨w1, w2⟩ := am_ty_ok hc hT hb hg2 hB B rfl
                rw [List.length_cons] at w1
                exact am_okt_cap (show am_wf tl Γ.length (.branch 2 (am_xp a) B) from ⟨by omega, am_wn_xp ht.2.1, w1⟩) u hu
        · split at h
          · cases h
          · rename_i s2 hs2
            cases h
            intro u hu
            cases hu
            obtain ⟨w1, w2, -⟩ := am_so_ok hc (fun o ho => am_ty_ok hc hT hb hg2 ho) hs2
            exact ⟨am_wf_le w1 (Nat.zero_le _), w2⟩
