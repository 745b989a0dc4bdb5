/-! contracts of methods that throw -/
set_option maxRecDepth 100000 in
theorem am_tw0 : (am_has 723 (Cond.classLink "ProofLine" (am_thL 0) (am_thC 0)) && am_has 724 (Cond.instantiable (am_thC 0) 6) && am_has 90 (Cond.initialized (am_thC 0))) = true := by decide +kernel
set_option maxRecDepth 100000 in
theorem am_tw1 : (am_has 797 (Cond.classLink "ProofLine" (am_thL 1) (am_thC 1)) && am_has 798 (Cond.instantiable (am_thC 1) 6) && am_has 91 (Cond.initialized (am_thC 1))) = true := by decide +kernel
theorem am_tw {y : Nat} (hy : y = 0 ∨ y = 1) : Cond.classLink "ProofLine" (am_thL y) (am_thC y) ∈ am_TB ∧ Cond.instantiable (am_thC y) 6 ∈ am_TB ∧ Cond.initialized (am_thC y) ∈ am_TB := by
  rcases hy with rfl | rfl
  · have h := am_tw0
    simp only [Bool.and_eq_true] at h
    exact ⟨am_has_mem h.1.1, am_has_mem h.1.2, am_has_mem h.2⟩
  · have h := am_tw1
    simp only [Bool.and_eq_true] at h
    exact ⟨am_has_mem h.1.1, am_has_mem h.1.2, am_has_mem h.2⟩
/-- where it throws -/
def am_ckTh (mj : am_MD) (y0 : Nat) : Bool := mj.2.2.2.2.2.2.all (fun q => match q.2.1 with
  | .new i => if q.2.2.2.1 = 1000 then q.2.2.2.2.1 == y0 && i == am_thL y0 && decide (decode mj.2.2.1 (q.1 + 3) = .ok (.dup, 1)) && decide (decode mj.2.2.1 (q.1 + 4) = .ok (.invokespecial (am_thI y0), 3)) && decide (decode mj.2.2.1 (q.1 + 7) = .ok (.athrow, 1)) else true
  | _ => true)
section AMTT
variable (D : va_G) (ca : Nat → ClassId) (bs : Nat) (sp : Nat → Nat) (XL : Nat) (xs : Nat → Int32)
def am_QT (y : Nat) (n : am_N) (res : am_Res) : Array Value → State → Outcome → State → Prop := fun _ st oc t => ∃ x, oc = .threw x ∧ am_W D ca bs sp XL xs res.2.1 res.2.2 t.heap ∧ va_F (am_A0 bs) st t ∧ (∃ ce, t.heap[x]? = some ce ∧ ce.vm = .none ∧ st.vm.findClass (am_thC y) = some ce.cls) ∧
  ∃ L : List Loc, st.WarmedH t.vm ∧ st.sameButNew ({ t with vm := st.vm } : State) L (res.2.1.2.1 - n.2.1) (res.2.1.2.2.1 - n.2.2.1) ∧ ∀ q ∈ L, am_A0 bs q.base
def am_MetT (l : Launch) (d : Nat) (md : am_MD) (y : Nat) (as : List Value) (n : am_N) (M : am_M) (res : am_Res) : Prop :=
  MetFree l md.2.1 (headSpec (am_wsm md) (am_rm d (res.2.1.2.1 - n.2.1) (res.2.1.2.2.1 - n.2.2.1))) (am_Pc D ca bs sp XL xs as n M) (fun _ _ _ _ _ => True) (am_QT D ca bs sp XL xs y n res)
end AMTT
theorem am_metT {D : va_G} {ca : Nat → ClassId} {bs : Nat} {sp : Nat → Nat} {XL : Nat} {xs : Nat → Int32} (l : Launch) (hl : l.stackTraces = false) {md : Nat → am_MD} {P : Nat → Prop} (hok : ∀ j, P j → am_OK md (md j) ∧ (∀ q ∈ (md j).2.2.2.2.2.2, am_isK q.2 = 2 → q.2.2.2.2.2 = 0 ∧ (q.2.2.2.1 < 2000 → P q.2.2.2.1)) ∧ (md j).2.2.2.1 ≤ 29) (hP : ∀ j, P j → j ≠ 2000 ∧ j ≠ 2001) (hbase : am_base am_TB) (hgood : ∀ w ∈ am_TB, (w.onTables && w.keeps) = true ∨ ∃ ty, w = .arrayClass ty)
    {d j y : Nat} {as : List Value} {n : am_N} {M : am_M} {res : am_Res} (h : am_ex md d j as n M = some res) (hPj : P j) (hth : res.1 = am_thrown) (hy : y = 0 ∨ y = 1) (hck : am_ckTh (md j) y = true) (hpl : (md j).1 = "ProofLine") : am_MetT D ca bs sp XL xs l d (md j) y as n M res := by
  cases d with
  | zero => cases h
  | succ d =>
    obtain ⟨hokj, hz, -⟩ := hok j hPj
    unfold am_ex at h
    rw [if_neg (hP j hPj).1, if_neg (hP j hPj).2] at h
    split at h
    · rename_i hc
      obtain ⟨k, hk⟩ := am_fin_iff.mp h
      have hcode : ∀ {args : Array Value} {s : State}, (∀ w ∈ am_wsm (md j), w.before args s = true) → (Cond.code (md j).2.1 (md j).2.2.1 (md j).2.2.2.1 (md j).2.2.2.2.1).before args s = true := fun hw => hw _ List.mem_cons_self
      refine MetFree.of_bodySF (code := (md j).2.2.1) (maxLocals := (md j).2.2.2.1) (ret := (md j).2.2.2.2.1) hokj.2.1 ?_ ?_
      · intro args s m h hn
        obtain ⟨meth, c, h1, h2, h3, h4, h5, h6, -, -⟩ := Cond.code_spec hn (atoms_spec (ws := am_wsm (md j)) h _ List.mem_cons_self)
        exact ⟨meth, c, h1, h2, h3, h4, h5, h6⟩
      intro p e s m args below meth c s₁ B hml hv _
      obtain ⟨hargs, hc1, hW, hS, hbs⟩ := hv
      subst hargs
      have hx := B.exec
      have hb := B.bytes
      have hts := atoms_spec (ws := am_wsm (md j)) B.pre
      have hown : s.vm.findClass (md j).1 = some m.cls := hokj.2.2.1 ▸ findClass_of_methodNamed B.named
      have hlocks := B.notSynchronized
      have hexc := B.noHandlers (hcode hts)
      have hin : (md j).2.2.2.2.2.1 = true → meth.name = "<init>" := fun q => (name_of_methodNamed B.named B.method).1.trans (hokj.2.2.2 q)
      have hh0 : s₁.heap = s.heap := by rw [B.state]; rfl
      have hL := am_entL (ad := am_ad bs sp) hc.1 hc.2
      have hR : am_Rel D ca bs sp XL xs s (md j).2.2.2.1 (am_ent (md j).2.2.2.1 as) n M ((lg_sl (as.map (am_v (am_ad bs sp))) ++ List.replicate ((md j).2.2.2.1 - (lg_sl (as.map (am_v (am_ad bs sp)))).length) Slot.unset).toArray) s.heap [] (n.2.1 - n.2.1) := ⟨hL, hW, va_S.rf, hS, hbs, fun _ => by omega⟩
      have key := am_sound (p := p) (l := l) (e := e) (R := (headSpec (am_wsm (md j)) (am_rm (d + 1) (res.2.1.2.1 - n.2.1) (res.2.1.2.2.1 - n.2.2.1))).room) (s := s) (m := m) (args := (as.map (am_v (am_ad bs sp))).toArray) (below := below) (meth := meth) (c := c)
        (Q := fun t => ∃ o, t.status = .running ∧ Ended t below o ∧ am_QT D ca bs sp XL xs y n res (as.map (am_v (am_ad bs sp))).toArray s o t) (D := D) (ca := ca) (bs := bs) (sp := sp) (XL := XL) (xs := xs) (d := d) (b0 := n.2.1) (b1 := n.2.2.1) (cal := am_ex md d) (res := res) (P := P) hokj hx hb hml hts (fun w hw => List.mem_cons_of_mem _ hw) hgood hown hin
        (fun q hq h2 h3 => (hz q hq h2).2 h3) (fun j' as' n' M' r' h1 h2 h3 => am_met l hok hP hbase hgood d j' as' n' M' r' h1 h2 h3)
        (fun as' n' M' r' h1 => by
          cases d with
          | zero => cases h1
          | succ d => unfold am_ex at h1; rw [if_pos rfl] at h1; exact (Option.some.inj h1).symm)
        (fun as' n' M' r' h1 => by
          cases d with
          | zero => cases h1
          | succ d => unfold am_ex at h1; rw [if_neg (by decide), if_pos rfl] at h1; exact h1)
        hbase (by show d + 9 ≤ d + 1 + 8; omega) (by show 48 * d + 168 ≤ 48 * (d + 1) + 120; omega) (Nat.le_refl _) (Nat.le_refl _)
        (fun pc' L' st' n' M' ls' H' locs' i y' z' hmem hal h4 hc4 he hb0 hb1 hR' => by
          have hq := List.all_eq_true.mp hck _ hmem
          simp only [if_true, Bool.and_eq_true, beq_iff_eq, decide_eq_true_eq] at hq
          obtain ⟨⟨⟨⟨rfl, rfl⟩, q3⟩, q4⟩, q5⟩ := hq
          obtain ⟨w1, w2, w3⟩ := am_tw hy
          have hd0 := (hokj.1 _ hmem).1
          have er : res.2.1 = (n'.1, n'.2.1 + 1, n'.2.2.1 + 6, n'.2.2.2) := by rw [he]
          have er2 : res.2.2 = M' := by rw [he]
          have e1 : res.2.1.2.1 = n'.2.1 + 1 := by rw [er]
          have e2 : res.2.1.2.2.1 = n'.2.2.1 + 6 := by rw [er]
          refine am_throwW hl hx hb hml hexc hlocks (hpl ▸ hown) (fun w hw => hts w (List.mem_cons_of_mem _ hw)) hy hd0 q3 q4 q5 w1 w2 w3 hal h4 hc4 hR' (by show 8 ≤ d + 1 + 8; omega) (by show 168 ≤ 48 * (d + 1) + 120; omega) (by show n'.2.1 - n.2.1 + 1 ≤ res.2.1.2.1 - n.2.1; omega) (by show n'.2.2.1 - n.2.2.1 + 6 ≤ res.2.1.2.2.1 - n.2.2.1; omega) ?_
          intro U x hrun hend hWm hsame hWU hF hce
          refine ⟨.threw x, hrun, hend, x, rfl, by rw [er, er2]; exact hWU, hF, hce, locs', hWm, ?_, hR'.2.2.1.2.2⟩
          have e3 : n'.2.1 - n.2.1 + 1 = res.2.1.2.1 - n.2.1 := by omega
          have e4 : n'.2.2.1 - n.2.2.1 + 6 = res.2.1.2.2.1 - n.2.2.1 := by omega
          rw [e3, e4] at hsame
          exact hsame)
        (fun pc' L' st' n' M' ls' H' locs' q j' as' rest' n'' M'' hq h2 h3 => absurd (hz _ hq h2).1 h3)
        (fun pc' ls' H' locs' L' i hd hro hR' => by
          exfalso
          rw [hth] at hro
          rcases hro with ⟨-, h1, -⟩ | ⟨-, v, z, h1, -⟩ | ⟨-, a, h1, -⟩ <;> cases h1)
        k 0 (am_ent (md j).2.2.2.1 as) [] n M _ s.heap [] hk (Nat.le_refl _) (Nat.le_refl _) hR
      rw [Nat.sub_self, Nat.sub_self] at key
      have key2 := key s₁ hh0 (Stand.of_body B)
      rw [lg_entry_eq] at *
      obtain ⟨t, a1, o, b1, b2, b3⟩ := key2
      exact ⟨t, o, a1, b1, b2, b3⟩
    · cases h
