/-- what a run comes to, if it ends -/
noncomputable def am_fin (cd : Nat → Option am_X) (cal : Nat → List Value → am_N → am_M → Option am_Res) (g : am_G) : Option am_Res :=
  @dite _ (∃ k res, am_run cd cal k g = some res) (Classical.propDecidable _) (fun h => some (Classical.choose (Classical.choose_spec h))) (fun _ => none)
theorem am_fin_iff {cd : Nat → Option am_X} {cal : Nat → List Value → am_N → am_M → Option am_Res} {g : am_G} {res : am_Res} : am_fin cd cal g = some res ↔ ∃ k, am_run cd cal k g = some res := by
  constructor
  · intro h
    unfold am_fin at h
    split at h
    · rename_i hx
      cases h
      exact ⟨_, Classical.choose_spec (Classical.choose_spec hx)⟩
    · cases h
  · rintro ⟨k, h⟩
    have hx : ∃ k res, am_run cd cal k g = some res := ⟨k, res, h⟩
    unfold am_fin
    rw [dif_pos hx]
    exact congrArg some (am_run_det (Classical.choose_spec (Classical.choose_spec hx)) h)
/-- method j at call depth d -/
noncomputable def am_ex (md : Nat → am_MD) : Nat → Nat → List Value → am_N → am_M → Option am_Res
  | 0 => fun _ _ _ _ => none
  | d + 1 => fun j as n M => if j = 2000 then some (none, n, M) else if j = 2001 then am_acopy as n M else
    if as.all am_c1 = true ∧ as.length ≤ (md j).2.2.2.1 then am_fin (am_cd (md j)) (am_ex md d) (0, am_ent (md j).2.2.2.1 as, [], n, M) else none
theorem am_ex_more {md : Nat → am_MD} : ∀ (d : Nat) {j : Nat} {as : List Value} {n : am_N} {M : am_M} {r : am_Res}, am_ex md d j as n M = some r → am_ex md (d + 1) j as n M = some r
  | 0, _, _, _, _, _, h => by cases h
  | d + 1, j, as, n, M, r, h => by
    unfold am_ex at h ⊢
    split at h
    · rename_i h0; rw [if_pos h0]; exact h
    · rename_i h0
      rw [if_neg h0]
      split at h
      · rename_i h1; rw [if_pos h1]; exact h
      · rename_i h1
        rw [if_neg h1]
        split at h
        · rename_i h2
          rw [if_pos h2]
          obtain ⟨k, hk⟩ := am_fin_iff.mp h
          exact am_fin_iff.mpr ⟨k, am_run_more (fun _ _ _ _ _ q => am_ex_more d q) (Nat.le_refl _) hk⟩
        · cases h
theorem am_ex_le {md : Nat → am_MD} {d d' : Nat} (h : d ≤ d') {j : Nat} {as : List Value} {n : am_N} {M : am_M} {r : am_Res} (hx : am_ex md d j as n M = some r) : am_ex md d' j as n M = some r := by
  induction d' with
  | zero => obtain rfl : d = 0 := by omega
            exact hx
  | succ d' ih =>
    by_cases hd : d = d' + 1
    · subst hd; exact hx
    · exact am_ex_more d' (ih (by omega))
section AMM
variable {D : va_G} {ca : Nat → ClassId} {bs : Nat} {sp : Nat → Nat} {XL : Nat} {xs : Nat → Int32}
theorem am_ret {p : Program} {l : Launch} {e : Env} {R : Room} {s : State} {m : MethodId} {args : Array Value} {below : List Frame} {meth : Method} {c : Code} {mj : am_MD} {n0 : am_N} {res : am_Res} {pc nL : Nat} {L : List Value} {ls : Array Slot} {H : Heap} {locs : List Loc} {i : Instr}
    (hx : p.tables.exec = Jvm.exec) (hb : c.code = mj.2.2.1) (hr : meth.sig.returnType = mj.2.2.2.2.1) (hlocks : meth.locks = false) (hdec : decode mj.2.2.1 pc = .ok (i, 1)) (hro : am_retOK mj i res.1) (hR : am_Rel D ca bs sp XL xs s nL L res.2.1 res.2.2 ls H locs (res.2.1.2.1 - n0.2.1)) :
    W p l e R s m args below meth c H locs (res.2.1.2.1 - n0.2.1) (res.2.1.2.2.1 - n0.2.2.1) (MQ below (am_Qc D ca bs sp XL xs n0 res) args s (res.2.1.2.1 - n0.2.1) (res.2.1.2.2.1 - n0.2.2.1) (am_A0 bs)) (F0 m pc ls (res.1.toList.map (am_v (am_ad bs sp)))) := by
  have hq : ∀ t : State, t.heap = H → am_Qc D ca bs sp XL xs n0 res args s (.returned (res.1.map (am_v (am_ad bs sp)))) t := fun t ht => ⟨rfl, by rw [ht]; exact hR.2.1, hR.2.2.1.F ht, fun q => by rw [ht]; exact hR.2.2.2.2.2 q⟩
  obtain ⟨r, nr, Mr⟩ := res
  rcases hro with ⟨rfl, h1, h2⟩ | ⟨rfl, v, z, h1, h2, h3, h4⟩ | ⟨rfl, a, h1, h2⟩
  · have h1 : r = none := h1
    subst h1
    exact W.vret hx hb (hr.trans h2) (fun t ht _ => hq t ht) hR.2.2.1.2.2 hdec
  · have h1 : r = some (.int v) := h1
    subst h1
    cases hrt : mj.2.2.2.2.1 with
    | none =>
      rw [hrt] at h4
      exfalso
      match z, h2, h4 with
      | 0, _, h => exact absurd h (by decide)
      | 1, _, h => exact absurd h (by decide)
      | 2, _, h => exact absurd h (by decide)
    | some ty =>
      rw [hrt] at h4
      exact W.zret hx hb (hr.trans hrt) (am_fit_ok (ad := am_ad bs sp) h4 h3).1 (fun t ht _ => hq t ht) hR.2.2.1.2.2 hdec
  · have h1 : r = some (.ref a) := h1
    subst h1
    cases hrt : mj.2.2.2.2.1 with
    | none => rw [hrt] at h2; exact absurd h2 (by decide)
    | some ty =>
      rw [hrt] at h2
      have hrt2 : (∃ n, ty = .object n) ∨ ∃ t, ty = .array t := by
        cases ty with
        | object n => exact Or.inl ⟨n, rfl⟩
        | array t => exact Or.inr ⟨t, rfl⟩
        | _ => cases h2
      exact W.aret hx hb (hr.trans hrt) hrt2 (Or.inr ⟨_, rfl⟩) (fun t ht _ => hq t ht) hR.2.2.1.2.2 hdec
/-- a method that returns in the abstract machine meets its contract -/
theorem am_met (l : Launch) {md : Nat → am_MD} {P : Nat → Prop} (hok : ∀ j, P j → am_OK md (md j) ∧ (∀ q ∈ (md j).2.2.2.2.2.2, am_isK q.2 = 2 → q.2.2.2.2.2 = 0 ∧ (q.2.2.2.1 < 2000 → P q.2.2.2.1)) ∧ (md j).2.2.2.1 ≤ 29) (hP : ∀ j, P j → j ≠ 2000 ∧ j ≠ 2001) (hbase : am_base am_TB) (hgood : ∀ w ∈ am_TB, (w.onTables && w.keeps) = true ∨ ∃ ty, w = .arrayClass ty) :
    ∀ (d j : Nat) (as : List Value) (n : am_N) (M : am_M) (res : am_Res), am_ex md d j as n M = some res → P j → res.1 ≠ am_thrown → am_Met D ca bs sp XL xs l d (md j) as n M res := by
  intro d
  induction d with
  | zero => intro j as n M res h; cases h
  | succ d ih =>
    intro j as n M res h hPj hth
    obtain ⟨hokj, hz, -⟩ := hok j hPj
    unfold am_ex at h
    rw [if_neg (hP j hPj).1, if_neg (hP j hPj).2] at h
    split at h
    · rename_i hc
      obtain ⟨k, hk⟩ := am_fin_iff.mp h
      refine va_MetF (cc := (md j).2.2.1) (maxL := (md j).2.2.2.1) (ret := (md j).2.2.2.2.1) hokj.2.1 rfl ?_
      intro p e s m args below meth c s₁ B hml hv
      obtain ⟨hargs, hc1, hW, hS, hbs⟩ := hv
      subst hargs
      have hx := B.exec
      have hb := B.bytes
      have hr := B.returns
      have hts := atoms_spec (ws := am_wsm (md j)) B.pre
      have hown : s.vm.findClass (md j).1 = some m.cls := hokj.2.2.1 ▸ findClass_of_methodNamed B.named
      have hlocks := B.notSynchronized
      have hin : (md j).2.2.2.2.2.1 = true → meth.name = "<init>" := fun q => (name_of_methodNamed B.named B.method).1.trans (hokj.2.2.2 q)
      rw [lg_entry_eq]
      have hL := am_entL (ad := am_ad bs sp) hc.1 hc.2
      generalize (lg_sl (as.map (am_v (am_ad bs sp))) ++ List.replicate ((md j).2.2.2.1 - (lg_sl (as.map (am_v (am_ad bs sp)))).length) Slot.unset).toArray = ls at hL ⊢
      have hR : am_Rel D ca bs sp XL xs s (md j).2.2.2.1 (am_ent (md j).2.2.2.1 as) n M ls s.heap [] (n.2.1 - n.2.1) := ⟨hL, hW, va_S.rf, hS, hbs, fun _ => by omega⟩
      have key := am_sound (p := p) (l := l) (e := e) (R := (headSpec (am_wsm (md j)) (am_rm (d + 1) (res.2.1.2.1 - n.2.1) (res.2.1.2.2.1 - n.2.2.1))).room) (s := s) (m := m) (args := (as.map (am_v (am_ad bs sp))).toArray) (below := below) (meth := meth) (c := c)
        (Q := MQ below (am_Qc D ca bs sp XL xs n res) (as.map (am_v (am_ad bs sp))).toArray s (res.2.1.2.1 - n.2.1) (res.2.1.2.2.1 - n.2.2.1) (am_A0 bs)) (D := D) (ca := ca) (bs := bs) (sp := sp) (XL := XL) (xs := xs) (d := d) (b0 := n.2.1) (b1 := n.2.2.1) (cal := am_ex md d) (res := res) (P := P) hokj hx hb hml hts (fun w hw => List.mem_cons_of_mem _ hw) hgood hown hin
        (fun q hq h2 h3 => (hz q hq h2).2 h3) (fun j' as' n' M' r' h1 h2 h3 => ih j' as' n' M' r' h1 h2 h3)
        (fun as' n' M' r' h1 => by
          cases d with
          | zero => cases h1
          | succ d => unfold am_ex at h1; rw [if_pos rfl] at h1; exact (Option.some.inj h1).symm)
        (fun as' n' M' r' h1 => by
          cases d with
          | zero => cases h1
          | succ d => unfold am_ex at h1; rw [if_neg (by decide), if_pos rfl] at h1; exact h1)
        hbase (by show d + 9 ≤ d + 1 + 8; omega) (by show 48 * d + 168 ≤ 48 * (d + 1) + 120; omega) (Nat.le_refl _) (Nat.le_refl _)
        (fun pc' L' st' n' M' ls' H' locs' i y z _ _ _ _ he => absurd (by rw [he]) hth)
        (fun pc' L' st' n' M' ls' H' locs' q j' as' rest' n'' M'' hq h2 h3 => absurd (hz _ hq h2).1 h3)
        (fun pc' ls' H' locs' L' i hd hro hR' => am_ret hx hb hr hlocks hd hro hR')
        k 0 (am_ent (md j).2.2.2.1 as) [] n M ls s.heap [] hk (Nat.le_refl _) (Nat.le_refl _) hR
      rw [Nat.sub_self, Nat.sub_self] at key
      exact key
    · cases h
end AMM
