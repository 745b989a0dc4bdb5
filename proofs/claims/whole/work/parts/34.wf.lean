/-! which trees can come: letters have a binder, names are told -/
def am_wf (tl : Nat → Bool) : Nat → am_T → Prop
  | K, .leaf z => (3 ≤ z ∧ z ≤ 8) ∨ (10 ≤ z ∧ z < 18 ∧ tl (z - 10).toNat = true) ∨ (50 ≤ z ∧ z < 50 + (K : Int))
  | K, .branch k a b => k ≤ 2 ∧ am_wf tl K a ∧ am_wf tl (K + am_bd k) b
theorem am_bd_le {k : Nat} : am_bd k ≤ 1 := by unfold am_bd; split <;> omega
theorem am_wf_gd {tl : Nat → Bool} : ∀ {K : Nat} {t : am_T}, am_wf tl K t → K + am_sz t ≤ 900 → am_gd t
  | K, .leaf z, h, hk => by
    have e : am_sz (.leaf z) = 1 := rfl
    have : (3 ≤ z ∧ z ≤ 8) ∨ (10 ≤ z ∧ z < 18 ∧ tl (z - 10).toNat = true) ∨ (50 ≤ z ∧ z < 50 + (K : Int)) := h
    show 3 ≤ z ∧ z < 1000
    omega
  | K, .branch k a b, h, hk => by
    have e : am_sz (.branch k a b) = am_sz a + am_sz b + 1 := rfl
    have hb := am_bd_le (k := k)
    have sa := am_sz_pos a
    exact ⟨h.1, am_wf_gd h.2.1 (by omega), am_wf_gd h.2.2 (by omega)⟩
theorem am_wf_le {tl : Nat → Bool} : ∀ {K K' : Nat} {t : am_T}, am_wf tl K t → K ≤ K' → am_wf tl K' t
  | K, K', .leaf z, h, hk => by
    rcases h with h | h | h
    · exact Or.inl h
    · exact Or.inr (Or.inl h)
    · exact Or.inr (Or.inr ⟨h.1, by omega⟩)
  | K, K', .branch k a b, h, hk => ⟨h.1, am_wf_le h.2.1 hk, am_wf_le h.2.2 (by omega)⟩
theorem am_wf_tl {tl tl' : Nat → Bool} (ht : ∀ k, tl k = true → tl' k = true) : ∀ {K : Nat} {t : am_T}, am_wf tl K t → am_wf tl' K t
  | K, .leaf z, h => by
    rcases h with h | h | h
    · exact Or.inl h
    · exact Or.inr (Or.inl ⟨h.1, h.2.1, ht _ h.2.2⟩)
    · exact Or.inr (Or.inr h)
  | K, .branch k a b, h => ⟨h.1, am_wf_tl ht h.2.1, am_wf_tl ht h.2.2⟩
theorem am_wf_li {tl : Nat → Bool} {m : Nat} {K : Nat} : ∀ {j : Nat} {t : am_T}, am_wf tl (j + K) t → am_wf tl (j + m + K) (am_li m j t)
  | j, .leaf z, h => by
    unfold am_li
    split
    · rename_i hz
      rcases h with h | h | h
      · omega
      · omega
      · exact Or.inr (Or.inr ⟨by omega, by omega⟩)
    · exact am_wf_le h (by omega)
  | j, .branch k a b, h => ⟨h.1, am_wf_li h.2.1, by
    have h2 : am_wf tl (j + am_bd k + K) b := by
      rw [show j + am_bd k + K = j + K + am_bd k by omega]
      exact h.2.2
    have := am_wf_li (m := m) h2
    rw [show j + am_bd k + m + K = j + m + K + am_bd k by omega] at this
    exact this⟩
theorem am_wf_sb {tl : Nat → Bool} {K : Nat} {u : am_T} (hu : am_wf tl K u) : ∀ {j : Nat} {t : am_T}, am_wf tl (j + 1 + K) t → am_wf tl (j + K) (am_sb u j t)
  | j, .leaf z, h => by
    unfold am_sb
    split
    · have := am_wf_li (m := j) (j := 0) (K := K) (t := u) (by rw [Nat.zero_add]; exact hu)
      rw [Nat.zero_add] at this
      exact this
    · split
      · rcases h with h | h | h
        · omega
        · omega
        · exact Or.inr (Or.inr ⟨by omega, by omega⟩)
      · rcases h with h | h | h
        · exact Or.inl h
        · exact Or.inr (Or.inl h)
        · exact Or.inr (Or.inr ⟨h.1, by omega⟩)
  | j, .branch k a b, h => ⟨h.1, am_wf_sb hu h.2.1, by
    have h2 : am_wf tl (j + am_bd k + 1 + K) b := by
      rw [show j + am_bd k + 1 + K = j + 1 + K + am_bd k by omega]
      exact h.2.2
    have := am_wf_sb hu h2
    rw [show j + am_bd k + K = j + K + am_bd k by omega] at this
    exact this⟩
/-- the names' terms are closed -/
def am_nc (tl : Nat → Bool) (NM : Nat → Option am_T) : Prop := ∀ k t, tl k = true → NM k = some t → am_wf tl 0 t
theorem am_wf_rr {tl : Nat → Bool} {K : Nat} {f n a A u : am_T} (hf : am_wf tl K f) (hn : am_wf tl K n) (ha : am_wf tl K a) (hA : am_wf tl K A) (h : am_rr f n a A = some u) : am_wf tl K u := by
  unfold am_rr at h
  split at h
  · rename_i k k' r P z
    split at h
    · rename_i hk
      obtain ⟨rfl, rfl, rfl⟩ := hk
      split at h
      · split at h
        · cases h
          exact hA.2.2
        · cases h
      · split at h
        · rename_i hk
          obtain ⟨rfl, rfl⟩ := hk
          cases h
          exact ⟨by omega, ⟨by omega, hf, hn.2.2⟩, ⟨by omega, ha, hn.2.2⟩⟩
        · cases h
      · cases h
    · cases h
  · cases h
theorem am_wf_rd {tl : Nat → Bool} {NM : Nat → Option am_T} (hc : am_nc tl NM) {K : Nat} : ∀ {t u : am_T}, am_wf tl K t → am_rd NM t = some (some u) → am_wf tl K u
  | .leaf z, u, h, hu => by
    change (if 10 ≤ z ∧ z < 18 then some (NM (z - 10).toNat) else none) = some (some u) at hu
    split at hu
    · rename_i hz
      have e : NM (z - 10).toNat = some u := Option.some.inj hu
      rcases h with h | h | h
      · omega
      · exact am_wf_le (hc _ _ h.2.2 e) (Nat.zero_le _)
      · omega
    · cases hu
  | .branch k a b, u, h, hu => by
    change (if k = 0 then (am_ra b a).map some else none) = some (some u) at hu
    split at hu
    · rename_i hk
      subst hk
      obtain ⟨w, hw, e⟩ := Option.map_eq_some_iff.mp hu
      cases e
      obtain ⟨-, ha, hb⟩ := h
      have hb' : am_wf tl K b := hb
      cases a with
      | leaf z => cases hw
      | branch k A B =>
        change (if k = 1 then some (am_sb b 0 B) else if k = 0 then am_rr B b (.branch k A B) A else none) = some u at hw
        split at hw
        · rename_i hk
          subst hk
          cases hw
          have h3 := am_wf_sb (j := 0) hb' (show am_wf tl (0 + 1 + K) B by rw [show 0 + 1 + K = K + am_bd 1 by unfold am_bd; rw [if_neg (by omega)]; omega]; exact ha.2.2)
          rw [Nat.zero_add] at h3
          exact h3
        · split at hw
          · rename_i hk
            subst hk
            exact am_wf_rr ha.2.2 hb' ha ha.2.1 hw
          · cases hw
    · cases hu
theorem am_wf_sp {tl : Nat → Bool} {NM : Nat → Option am_T} (hc : am_nc tl NM) : ∀ {K : Nat} {t u : am_T}, am_wf tl K t → am_sp NM t = some (some u) → am_wf tl K u
  | K, .leaf z, u, h, hu => am_wf_rd hc h hu
  | K, .branch k a b, u, h, hu => by
    unfold am_sp at hu
    split at hu
    · rename_i v hv
      cases hu
      exact am_wf_rd hc h hv
    · split at hu
      · rename_i v hv
        obtain ⟨w, hw, e⟩ := Option.map_eq_some_iff.mp (Option.some.inj hu)
        subst hw
        cases e
        exact ⟨h.1, am_wf_sp hc h.2.1 hv, h.2.2⟩
      · split at hu
        · rename_i v hv
          obtain ⟨w, hw, e⟩ := Option.map_eq_some_iff.mp (Option.some.inj hu)
          subst hw
          cases e
          exact ⟨h.1, h.2.1, am_wf_sp hc h.2.2 hv⟩
        · cases hu
theorem am_cap_some {t u : am_T} (h : am_cap t = some u) : u = t ∧ am_sz t ≤ 80 := by
  unfold am_cap at h
  split at h
  · cases h
    exact ⟨rfl, by assumption⟩
  · cases h
theorem am_nf_wf {tl : Nat → Bool} {NM : Nat → Option am_T} (hc : am_nc tl NM) {K : Nat} : ∀ {k : Nat} {o : Option am_T} {r : Nat × am_T}, (∀ t, o = some t → am_wf tl K t ∧ am_sz t ≤ 80) → am_nf NM k o = some r → am_wf tl K r.2 ∧ am_sz r.2 ≤ 80 ∧ r.1 ≤ k ∧ am_sp NM r.2 = none
  | k, none, r, ho, h => by
    cases k <;> cases h
  | 0, some t, r, ho, h => by
    unfold am_nf at h
    split at h
    · rename_i hs
      cases h
      exact ⟨(ho t rfl).1, (ho t rfl).2, Nat.le_refl _, hs⟩
    · cases h
  | k + 1, some t, r, ho, h => by
    unfold am_nf at h
    split at h
    · rename_i hs
      cases h
      exact ⟨(ho t rfl).1, (ho t rfl).2, Nat.zero_le _, hs⟩
    · rename_i u hs
      obtain ⟨q, hq, e⟩ := Option.map_eq_some_iff.mp h
      cases e
      have := am_nf_wf hc (k := k) (o := u.bind am_cap) (r := q) (fun v hv => by
        obtain ⟨w, hw, hcap⟩ := Option.bind_eq_some_iff.mp hv
        subst hw
        obtain ⟨rfl, hz⟩ := am_cap_some hcap
        exact ⟨am_wf_sp hc (ho t rfl).1 hs, hz⟩) hq
      exact ⟨this.1, this.2.1, Nat.succ_le_succ this.2.2.1, this.2.2.2⟩
