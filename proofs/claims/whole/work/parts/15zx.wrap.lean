/-! the law's own methods that catch -/
theorem am_run_al {cd : Nat → Option am_X} {cal : Nat → List Value → am_N → am_M → Option am_Res} : ∀ {k : Nat} {g : am_G} {res : am_Res}, am_run cd cal k g = some res → res.1 = am_thrown → res.2.1.2.2.2 = false
  | 0, _, _, h, _ => by cases h
  | k + 1, g, res, h, ht => by
    unfold am_run at h
    split at h
    · cases h
    · rename_i q hq
      split at h
      · split at h
        · cases h
        · split at h
          · exact am_run_al h ht
          · cases h
      · split at h
        · cases h
        · rename_i rv ha
          split at h
          · cases h
            obtain ⟨i, len, x, y, z⟩ := q
            cases i with
            | new i =>
              replace ha : (if x = 1000 ∧ g.2.2.2.1.2.2.2 = false ∧ g.2.2.1.length ≤ 4 ∧ g.2.2.1.all am_c1 = true then some (am_thrown, (g.2.2.2.1.1, g.2.2.2.1.2.1 + 1, g.2.2.2.1.2.2.1 + 6, g.2.2.2.1.2.2.2)) else none : Option (Option Value × am_N)) = some rv := ha
              split at ha
              · rename_i hc
                cases ha
                exact hc.2.1
              · cases ha
            | ireturn =>
              exfalso
              generalize g.2.2.1 = st at ha
              generalize g.2.2.2.1 = n at ha
              rcases st with _ | ⟨v, _ | ⟨w, r⟩⟩
              · cases ha
              · cases v with
                | int x1 =>
                  replace ha : (if am_fit x (.int x1) = true then some (some (.int x1), n) else none : Option (Option Value × am_N)) = some rv := ha
                  split at ha
                  · cases ha; cases ht
                  · cases ha
                | _ => cases ha
              · cases v <;> cases ha
            | areturn =>
              exfalso
              generalize g.2.2.1 = st at ha
              generalize g.2.2.2.1 = n at ha
              rcases st with _ | ⟨v, _ | ⟨w, r⟩⟩
              · cases ha
              · cases v with
                | ref x1 => cases ha; cases ht
                | _ => cases ha
              · cases v <;> cases ha
            | return_ =>
              exfalso
              generalize g.2.2.1 = st at ha
              generalize g.2.2.2.1 = n at ha
              rcases st with _ | ⟨v, r⟩
              · cases ha; cases ht
              · cases ha
            | _ => exact (Option.some_ne_none _ (show (none : Option (Option Value × am_N)) = some rv from ha).symm).elim
          · cases h
      · split at h
        · cases h
        · split at h
          · cases h
          · split at h
            · split at h
              · split at h
                · cases h
                · cases h; cases ht
              · exact am_run_al h ht
            · cases h
/-- a wrapper: method, target, exception, handler (start, end, pc, catch type), the handler's store -/
def am_hdl (j : Nat) : Nat × Nat × Nat × Nat := if j = 146 then (0, 16, 19, 13) else if j = 147 then (0, 9, 12, 19) else (0, 10, 13, 19)
def am_wy (j : Nat) : Nat := if j = 146 then 0 else 1
def am_wt (j : Nat) : Nat := if j = 146 then 1 else if j = 147 then 3 else 6
def am_wA (j : Nat) : Instr × Nat := if j = 146 then (.astore 7, 2) else if j = 147 then (.astore_n 3, 1) else (.astore 4, 2)
def am_wsW (j : Nat) : List Cond := Cond.codeWith (am_md j).2.1 (am_md j).2.2.1 (am_md j).2.2.2.1 (am_md j).2.2.2.2.1 [am_hdl j] :: am_TB
def am_wi (j : Nat) : Nat := if j = 146 then 7 else if j = 147 then 15 else 21
def am_wl (j : Nat) : Nat := if j = 146 then 716 else if j = 147 then 793 else 821
def am_ckH (j : Nat) : Bool := decide (decode (am_md j).2.2.1 (am_hdl j).2.2.1 = .ok (am_wA j)) && decide (decode (am_md j).2.2.1 ((am_hdl j).2.2.1 + (am_wA j).2) = .ok (.iconst 1, 1)) && decide (decode (am_md j).2.2.1 ((am_hdl j).2.2.1 + (am_wA j).2 + 1) = .ok (.ireturn, 1)) && decide ((am_md j).2.2.2.2.1 = some .int) &&
  (am_md j).2.2.2.2.2.2.all (fun q => decide (am_isK q.2 ≠ 2) || (q.2.2.2.1 == am_wt j && decide (q.1 < (am_hdl j).2.1) && decide (q.2.1 = .invokevirtual (am_wi j)) && q.2.2.1 == 3)) &&
  am_has (am_wl j) (Cond.methodLink "ProofLineLaw" (am_wi j) (am_md (am_wt j)).2.1) && am_has (if j = 146 then 715 else 792) (Cond.classLink "ProofLineLaw" (am_hdl j).2.2.2 (am_thC (am_wy j))) && am_hasN (if j = 146 then 725 else 799) (Cond.castable (am_thC (am_wy j)) (am_thC (am_wy j)))
set_option maxRecDepth 100000 in
theorem am_ckH6 : am_ckH 146 = true := by decide +kernel
set_option maxRecDepth 100000 in
theorem am_ckH7 : am_ckH 147 = true := by decide +kernel
set_option maxRecDepth 100000 in
theorem am_ckH8 : am_ckH 148 = true := by decide +kernel
def am_isWr (j : Nat) : Prop := j = 146 ∨ j = 147 ∨ j = 148
theorem am_ckHA {j : Nat} (hj : am_isWr j) : am_ckH j = true ∧ am_chk true 11 (am_md j) = true ∧ am_ckTh (am_md (am_wt j)) (am_wy j) = true ∧ (am_wy j = 0 ∨ am_wy j = 1) ∧ am_wt j ∈ am_pl ∧ (am_md (am_wt j)).1 = "ProofLine" ∧ (am_hdl j).1 = 0 ∧ (am_hdl j).2.2.2 ≠ 0 := by
  rcases hj with rfl | rfl | rfl
  · exact ⟨am_ckH6, am_ck146, am_ct1, Or.inl rfl, by decide +kernel, rfl, rfl, by decide⟩
  · exact ⟨am_ckH7, am_ck147, am_ct3, Or.inr rfl, by decide +kernel, rfl, rfl, by decide⟩
  · exact ⟨am_ckH8, am_ck148, am_ct6, Or.inr rfl, by decide +kernel, rfl, rfl, by decide⟩
theorem am_metW {D : va_G} {ca : Nat → ClassId} {bs : Nat} {sp : Nat → Nat} {XL : Nat} {xs : Nat → Int32} (l : Launch) (hl : l.stackTraces = false) {d j : Nat} {as : List Value} {n : am_N} {M : am_M} {res : am_Res} (h : am_ex am_md d j as n M = some res) (hj : am_isWr j) (hth : res.1 ≠ am_thrown) :
    Met l (am_md j).2.1 (am_wsW j) (am_rm d (res.2.1.2.1 - n.2.1) (res.2.1.2.2.1 - n.2.2.1)) (am_Pc D ca bs sp XL xs as n M) (am_Qc D ca bs sp XL xs n res) (res.2.1.2.1 - n.2.1) (res.2.1.2.2.1 - n.2.2.1) (am_A0 bs) := by
  obtain ⟨hH, hck, hct, hwy, hwt, hpl, hs0, hct0⟩ := am_ckHA hj
  have hj0 : j ≠ 2000 ∧ j ≠ 2001 := by rcases hj with rfl | rfl | rfl <;> decide
  obtain ⟨hokj, hz, -⟩ := am_chk_ok hck
  simp only [am_ckH, Bool.and_eq_true, decide_eq_true_eq] at hH
  obtain ⟨⟨⟨⟨⟨⟨⟨hd1, hd2⟩, hd3⟩, hrt⟩, hcalls⟩, hlnk⟩, hcl⟩, hcast⟩ := hH
  cases d with
  | zero => cases h
  | succ d =>
    unfold am_ex at h
    rw [if_neg hj0.1, if_neg hj0.2] at h
    split at h
    · rename_i hc
      obtain ⟨k, hk⟩ := am_fin_iff.mp h
      have hcw1 : ∀ q ∈ (am_md j).2.2.2.2.2.2, am_isK q.2 = 2 → q.2.2.2.1 = am_wt j ∧ q.1 < (am_hdl j).2.1 ∧ q.2.1 = .invokevirtual (am_wi j) ∧ q.2.2.1 = 3 := by
        intro q hq hk2
        have h1 := List.all_eq_true.mp hcalls q hq
        simp only [hk2, ne_eq, not_true_eq_false, decide_false, Bool.false_or, Bool.and_eq_true, beq_iff_eq, decide_eq_true_eq] at h1
        exact ⟨h1.1.1.1, h1.1.1.2, h1.1.2, h1.2⟩
      have hy : plainName (am_md j).2.1.cls = true := by rcases hj with rfl | rfl | rfl <;> decide +kernel
      refine va_MetW (cc := (am_md j).2.2.1) (maxL := (am_md j).2.2.2.1) (ret := (am_md j).2.2.2.2.1) (hh := [am_hdl j]) hy rfl ?_
      intro p e s m args below meth c s₁ B hml hv
      obtain ⟨hargs, hc1, hW, hS, hbs⟩ := hv
      subst hargs
      have hx := B.exec
      have hb := B.bytes
      have hr := B.returns
      have hts := atoms_spec (ws := am_wsW j) B.pre
      have hTB' : ∀ w ∈ am_TB, w.before (as.map (am_v (am_ad bs sp))).toArray s = true := fun w hw => hts w (List.mem_cons_of_mem _ hw)
      have hown : s.vm.findClass (am_md j).1 = some m.cls := hokj.2.2.1 ▸ findClass_of_methodNamed B.named
      have hownN : (am_md j).1 = "ProofLineLaw" := by rcases hj with rfl | rfl | rfl <;> rfl
      have hlocks := B.notSynchronized
      obtain ⟨m9, meth9, c9, hn9, hm9, hcc9, -, -, hexc, -, -, -⟩ := Cond.codeWith_spec (hts _ List.mem_cons_self)
      cases hn9.symm.trans B.named
      cases hm9.symm.trans B.method
      cases hcc9.symm.trans (Stand.of_body B).code
      obtain ⟨x, hxs, hx1, hx2, hx3, hx4⟩ : ∃ x : ExceptionTableEntry, c.exceptionTable.toList = [x] ∧ x.startPc = (am_hdl j).1 ∧ x.endPc = (am_hdl j).2.1 ∧ x.handlerPc = (am_hdl j).2.2.1 ∧ x.catchType = (am_hdl j).2.2.2 := by
        cases hl9 : c.exceptionTable.toList with
        | nil => rw [hl9] at hexc; cases hexc
        | cons x r =>
          rw [hl9] at hexc
          simp only [List.map_cons, List.cons.injEq, List.map_eq_nil_iff] at hexc
          obtain ⟨e1, rfl⟩ := hexc
          refine ⟨x, rfl, ?_, ?_, ?_, ?_⟩ <;> rw [← e1]
      have hin : (am_md j).2.2.2.2.2.1 = true → meth.name = "<init>" := fun q => (name_of_methodNamed B.named B.method).1.trans (hokj.2.2.2 q)
      rw [lg_entry_eq]
      have hL := am_entL (ad := am_ad bs sp) hc.1 hc.2
      generalize (lg_sl (as.map (am_v (am_ad bs sp))) ++ List.replicate ((am_md j).2.2.2.1 - (lg_sl (as.map (am_v (am_ad bs sp)))).length) Slot.unset).toArray = ls at hL ⊢
      have hR : am_Rel D ca bs sp XL xs s (am_md j).2.2.2.1 (am_ent (am_md j).2.2.2.1 as) n M ls s.heap [] (n.2.1 - n.2.1) := ⟨hL, hW, va_S.rf, hS, hbs, fun _ => by omega⟩
      have key := am_sound (p := p) (l := l) (e := e) (R := (headSpec (am_wsW j) (am_rm (d + 1) (res.2.1.2.1 - n.2.1) (res.2.1.2.2.1 - n.2.2.1))).room) (s := s) (m := m) (args := (as.map (am_v (am_ad bs sp))).toArray) (below := below) (meth := meth) (c := c)
        (Q := MQ below (am_Qc D ca bs sp XL xs n res) (as.map (am_v (am_ad bs sp))).toArray s (res.2.1.2.1 - n.2.1) (res.2.1.2.2.1 - n.2.2.1) (am_A0 bs)) (D := D) (ca := ca) (bs := bs) (sp := sp) (XL := XL) (xs := xs) (d := d) (b0 := n.2.1) (b1 := n.2.2.1) (cal := am_ex am_md d) (res := res) (P := fun j => j ∈ am_pl) hokj hx hb hml hts (fun w hw => List.mem_cons_of_mem _ hw) am_goodTB hown hin
        (fun q hq h2 h3 => (hz q hq h2).2 h3) (fun j' as' n' M' r' h1 h2 h3 => am_MET l h1 h2 h3)
        (fun as' n' M' r' h1 => by
          cases d with
          | zero => cases h1
          | succ d => unfold am_ex at h1; rw [if_pos rfl] at h1; exact (Option.some.inj h1).symm)
        (fun as' n' M' r' h1 => by
          cases d with
          | zero => cases h1
          | succ d => unfold am_ex at h1; rw [if_neg (by decide), if_pos rfl] at h1; exact h1)
        am_baseOK (by show d + 9 ≤ d + 1 + 8; omega) (by show 48 * d + 168 ≤ 48 * (d + 1) + 120; omega) (Nat.le_refl _) (Nat.le_refl _)
        (fun pc' L' st' n' M' ls' H' locs' i y z _ _ _ _ he => absurd (by rw [he]) hth)
        (fun pc' L' st' n' M' ls' H' locs' q j' as' rest' n'' M'' hq h2 h3 ha hcal hmo he hb0 hb1 hR' => by
          obtain ⟨w1, w2, w3, w4⟩ := hcw1 _ hq h2
          obtain ⟨i0, len, x0, y0, z0⟩ := q
          have w3 : i0 = .invokevirtual (am_wi j) := w3
          have w4 : len = 3 := w4
          have w1 : x0 = am_wt j := w1
          subst w3; subst w4; subst w1
          have hjj : am_wt j = j' := am_actC_j ha
          subst hjj
          obtain ⟨hdec, -, -, hlC, -⟩ := hokj.1 _ hq
          have halT : n''.2.2.2 = false := by
            cases d with
            | zero => cases hcal
            | succ d =>
              unfold am_ex at hcal
              rw [if_neg (am_plN _ hwt).1, if_neg (am_plN _ hwt).2] at hcal
              split at hcal
              · obtain ⟨k9, hk9⟩ := am_fin_iff.mp hcal
                exact am_run_al hk9 rfl
              · cases hcal
          have hMT := am_metT (D := D) (ca := ca) (bs := bs) (sp := sp) (XL := XL) (xs := xs) l hl (P := fun j => j ∈ am_pl) am_PL am_plN am_baseOK am_goodTB hcal hwt rfl hwy hct hpl
          have er : res.2.1 = n'' := by rw [he]
          have er2 : res.2.2 = M'' := by rw [he]
          have er1 : res.1 = some (.int 1) := by rw [he]
          obtain ⟨mo1, mo2, -⟩ := am_mono_iff.mp hmo
          have e1 : n'.2.1 - n.2.1 + (n''.2.1 - n'.2.1) = res.2.1.2.1 - n.2.1 := by rw [er]; omega
          have e2 : n'.2.2.1 - n.2.2.1 + (n''.2.2.1 - n'.2.2.1) = res.2.1.2.2.1 - n.2.2.1 := by rw [er]; omega
          refine am_caughtW (md := am_md) (yy := am_wy j) (hpc := (am_hdl j).2.2.1) (cty := 0) (x := x) hx hb hml hts (fun w hw => List.mem_cons_of_mem _ hw) am_goodTB hown hdec (hlC (am_pl_lt _ hwt)) ha hR' (by rw [hownN]; exact am_has_mem hlnk) halT hMT hmo (by show d + 9 ≤ d + 1 + 8; omega) (by show 48 * d + 168 ≤ 48 * (d + 1) + 120; omega)
            ⟨by show _ ≤ res.2.1.2.1 - n.2.1; omega, by show _ ≤ res.2.1.2.2.1 - n.2.2.1; omega⟩ hxs (by simp only [covers, hx1, hx2, hs0]; simp only [Bool.and_eq_true, decide_eq_true_eq]; exact ⟨Nat.zero_le _, w2⟩) (by rw [hx4]; exact hct0) hx3 (by rw [hx4, hownN]; exact am_has_mem hcl) (am_hasN_mem hcast) ?_
          intro H2 locs2 a hR2
          rw [e1] at hR2 ⊢
          rw [e2]
          have fin : ∀ ls2, W p l e (headSpec (am_wsW j) (am_rm (d + 1) (res.2.1.2.1 - n.2.1) (res.2.1.2.2.1 - n.2.2.1))).room s m (as.map (am_v (am_ad bs sp))).toArray below meth c H2 locs2 (res.2.1.2.1 - n.2.1) (res.2.1.2.2.1 - n.2.2.1) (MQ below (am_Qc D ca bs sp XL xs n res) (as.map (am_v (am_ad bs sp))).toArray s (res.2.1.2.1 - n.2.1) (res.2.1.2.2.1 - n.2.2.1) (am_A0 bs)) (F0 m ((am_hdl j).2.2.1 + (am_wA j).2) ls2 []) := by
            intro ls2
            refine lv_iconst (v := 1) hx hb hd2 (by decide) ?_
            refine W.iret (v := 1) hx hb (hr.trans hrt) (fun t ht _ => ?_) hR2.2.2.1.2.2 hd3
            refine ⟨by rw [er1]; rfl, by rw [ht, er, er2]; exact hR2.2.1, hR2.2.2.1.F ht, fun q => ?_⟩
            rw [er, halT] at q
            cases q
          have hnl : (am_md j).2.2.2.1 = (am_md j).2.2.2.1 := rfl
          rcases hj with rfl | rfl | rfl
          · exact lv_astore hx hb hd1 hR2.1.1 (by decide +kernel) rfl (fun ls' _ => fin ls')
          · exact lv_astore_n hx hb hd1 rfl hR2.1.1 (by decide +kernel) rfl (fun ls' _ => fin ls')
          · exact lv_astore hx hb hd1 hR2.1.1 (by decide +kernel) rfl (fun ls' _ => fin ls'))
        (fun pc' ls' H' locs' L' i hd hro hR' => am_ret hx hb hr hlocks hd hro hR')
        k 0 (am_ent (am_md j).2.2.2.1 as) [] n M ls s.heap [] hk (Nat.le_refl _) (Nat.le_refl _) hR
      rw [Nat.sub_self, Nat.sub_self] at key
      exact key
    · cases h
