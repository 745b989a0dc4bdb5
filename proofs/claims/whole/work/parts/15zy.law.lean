/-! the law's own body -/
section AML
variable {p : Program} {l : Launch} {e : Env} {R : Room} {s : State} {m : MethodId} {args : Array Value} {below : List Frame} {meth : Method} {c : Code} {H : Heap} {locs : List Loc} {cells slots : Nat} {Q : State → Prop}
variable {cc : ByteArray} {D : va_G} {ca : Nat → ClassId} {bs : Nat} {sp : Nat → Nat} {XL : Nat} {xs : Nat → Int32} {nL pc : Nat} {L : List Value} {n : am_N} {M : am_M} {ls : Array Slot}
theorem am_callW {i j y d mc ms : Nat} {st as rest : List Value} {res : am_Res} (hx : p.tables.exec = Jvm.exec) (hb : c.code = cc) (hml : c.maxLocals = nL) (hts : ∀ w ∈ am_TB, w.before args s = true) {own : String} (hown : s.vm.findClass own = some m.cls) (hdec : decode cc pc = .ok (.invokestatic i, 3))
    (hcw : Cond.codeWith (am_md j).2.1 (am_md j).2.2.1 (am_md j).2.2.2.1 (am_md j).2.2.2.2.1 [am_hdl j] ∈ am_TB) (hini : Cond.initialized (am_md j).2.1.cls ∈ am_TB) (hy : (am_md j).2.1.cls ≠ "java/lang/invoke/MethodHandle" ∧ (am_md j).2.1.cls ≠ "java/lang/invoke/VarHandle") (h29 : (am_md j).2.2.2.1 ≤ 29) (hstt : Cond.static (am_md j).2.1 ∈ am_TB)
    (hdesc : (parseMethodDescriptor (am_md j).2.1.desc).map (fun d => d.parameters.length) = some y) (hl : Cond.methodLink own i (am_md j).2.1 ∈ am_TB) (hag : am_args y st = some (as, rest)) (hR : am_Rel D ca bs sp XL xs s nL L n M ls H locs cells)
    (hM : Met l (am_md j).2.1 (am_wsW j) (am_rm d (res.2.1.2.1 - n.2.1) (res.2.1.2.2.1 - n.2.2.1)) (am_Pc D ca bs sp XL xs as n M) (am_Qc D ca bs sp XL xs n res) (res.2.1.2.1 - n.2.1) (res.2.1.2.2.1 - n.2.2.1) (am_A0 bs))
    (hmc : mc = res.2.1.2.1 - n.2.1) (hms : ms = res.2.1.2.2.1 - n.2.2.1) (hRf : d + 9 ≤ R.frames) (hRl : 48 * d + 168 ≤ R.locals) (hf : cells + mc ≤ R.cells ∧ slots + ms ≤ R.slots) :
    ∃ a, va_Run p l e R s m args below meth c H locs cells slots mc ms (F0 m pc ls (st.map (am_v (am_ad bs sp)))) (rest.map (am_v (am_ad bs sp))) (am_Qc D ca bs sp XL xs n res a) (am_A0 bs) := by
  subst hmc; subst hms
  obtain ⟨rfl, hlen, hr8, hc1, hc2⟩ := am_args_inv hag
  have hws : ∀ w ∈ am_wsW j, ∀ (a' : Array Value) (U : State), s.WarmedH U.vm → w.before a' U = true := by
    intro w hw a' U hW
    rcases List.mem_cons.mp hw with rfl | hw
    · exact word_at hW (am_goodTB _ hcw) (hts _ hcw)
    · exact word_at hW (am_goodTB _ hw) (hts _ hw)
  have hK : Back l R p e below s args (am_md j).2.1 3 8 (PreOf R (res.2.1.2.1 - n.2.1) (res.2.1.2.2.1 - n.2.2.1) (am_Pc D ca bs sp XL xs as n M)) (PostOf (am_Qc D ca bs sp XL xs n res) (res.2.1.2.1 - n.2.1) (res.2.1.2.2.1 - n.2.2.1) (am_A0 bs)) :=
    va_backW (hh := [am_hdl j]) (bytes := (am_md j).2.2.1) (maxL := (am_md j).2.2.2.1) (ret := (am_md j).2.2.2.2.1) hM am_blind rfl rfl (by show d + 8 + 1 ≤ R.frames; omega) (by show 8 + ((am_md j).2.2.2.1 + 11) + (48 * d + 120) ≤ R.locals; omega) hws List.mem_cons_self (fun a' U hW => word_at hW (am_goodTB _ hini) (hts _ hini))
  refine ⟨(as.map (am_v (am_ad bs sp))).toArray, ?_⟩
  intro T hT X
  obtain ⟨mk, methM, cM, hnamed, hmethM, -, -, -, -, -, -, hsigM⟩ := Cond.codeWith_spec (hts _ hcw)
  have hstatic : methM.isStatic = true := Cond.static_spec hnamed hmethM (hts _ hstt)
  obtain ⟨kP, hkP, -⟩ := className_of_methodNamed hnamed
  have hinitP : kP.init = .initialized := Cond.initialized_spec (findClass_of_methodNamed hnamed) hkP (hts _ hini)
  have hst : ((as.reverse ++ rest).map (am_v (am_ad bs sp))) = (as.map (am_v (am_ad bs sp))).reverse ++ rest.map (am_v (am_ad bs sp)) := by
    rw [List.map_append, List.map_reverse]
  have hpl : (as.map (am_v (am_ad bs sp))).length = methM.sig.parameters.length := by
    rw [hsigM] at hdesc
    have h7 : methM.sig.parameters.length = y := Option.some.inj hdesc
    rw [List.length_map, hlen, h7]
  have hsum : ((rest.map (am_v (am_ad bs sp))).map fun v => v.category).sum = rest.length := am_cats hc2
  obtain ⟨vm₁, X₁, hstep₁⟩ := X.invokestatic hx hown (hts _ hl) hnamed hmethM hstatic hkP hinitP hy (g := F0 m pc ls ((as.reverse ++ rest).map (am_v (am_ad bs sp)))) rfl (argsL := as.map (am_v (am_ad bs sp))) (rest := rest.map (am_v (am_ad bs sp))) hpl hst (by rw [hb]; exact hdec)
  have hpre : PreOf R (res.2.1.2.1 - n.2.1) (res.2.1.2.2.1 - n.2.2.1) (am_Pc D ca bs sp XL xs as n M) ⟨T.setVm vm₁, locs, cells, slots⟩ (as.map (am_v (am_ad bs sp))).toArray := by
    refine ⟨hf.1, hf.2, rfl, hc1, ?_, am_S.warm X₁.warmed ?_, ?_⟩
    · show am_W D ca bs sp XL xs n M T.heap
      rw [hT]; exact hR.2.1
    · show am_S D ca bs sp XL xs s T.heap
      rw [hT]
      have hk0 : ∀ a : Nat, a < s.heap.size → ¬ am_A0 bs a → H[a]? = s.heap[a]? := hR.2.2.1.2.1
      exact ⟨hR.2.2.2.1.1, hR.2.2.2.1.2.1.kept hk0, hR.2.2.2.1.2.2.1.kept hk0, hR.2.2.2.1.2.2.2.1.kept hk0, hR.2.2.2.1.2.2.2.2.1, hR.2.2.2.1.2.2.2.2.2.1.kept hk0, hR.2.2.2.1.2.2.2.2.2.2.kept hk0⟩
    · show bs ≤ T.heap.size
      rw [hT]; exact Nat.le_trans hR.2.2.2.2.1 hR.2.2.1.1
  obtain ⟨v, ⟨U', l2, c2, s2⟩, X', ⟨g', mk', t, L', e1, e2, hq, h1, hL, h2, h3⟩, hsteps⟩ := hK m meth c ⟨T.setVm vm₁, locs, cells, slots⟩ (F0 m pc ls (rest.map (am_v (am_ad bs sp)))) (.invokestatic i) mk (as.map (am_v (am_ad bs sp))).toArray X₁ rfl (by rw [hml]; exact hR.1.1.1) (by rw [hb]; exact hdec)
    (by show 2 * 0 + ((rest.map (am_v (am_ad bs sp))).map fun v => v.category).sum ≤ 8; rw [hsum]; omega) (X₁.named hnamed) hpre
  dsimp only [Pt.U, Pt.locs, Pt.cells, Pt.slots] at X' e1 e2 h1 h2 h3 hsteps
  subst h1; subst h2; subst h3
  exact ⟨v, (T.setVm vm₁).calling g' mk' (as.map (am_v (am_ad bs sp))).toArray, t, U', L', hT, X', hL, e1, e2, hq, fun target h => hstep₁ _ fun acts => by rw [doInvoke_state]; exact hsteps.trans h⟩
end AML
set_option maxRecDepth 100000 in
theorem am_cwW146 : Cond.codeWith (am_md 146).2.1 (am_md 146).2.2.1 (am_md 146).2.2.2.1 (am_md 146).2.2.2.2.1 [am_hdl 146] ∈ am_TB := List.mem_filter.mpr ⟨List.mem_of_getElem? (i := 714) rfl, rfl⟩
set_option maxRecDepth 100000 in
theorem am_cwW147 : Cond.codeWith (am_md 147).2.1 (am_md 147).2.2.1 (am_md 147).2.2.2.1 (am_md 147).2.2.2.2.1 [am_hdl 147] ∈ am_TB := List.mem_filter.mpr ⟨List.mem_of_getElem? (i := 791) rfl, rfl⟩
set_option maxRecDepth 100000 in
theorem am_cwW148 : Cond.codeWith (am_md 148).2.1 (am_md 148).2.2.1 (am_md 148).2.2.2.1 (am_md 148).2.2.2.2.1 [am_hdl 148] ∈ am_TB := List.mem_filter.mpr ⟨List.mem_of_getElem? (i := 820) rfl, rfl⟩
def am_wrI (j : Nat) : Nat := if j = 146 then 29 else if j = 147 then 43 else 55
def am_wrY (j : Nat) : Nat := if j = 146 then 7 else if j = 147 then 3 else 4
def am_ckWL (j ml st : Nat) : Bool := am_has 75 (Cond.initialized (am_md j).2.1.cls) && decide ((am_md j).2.1.cls ≠ "java/lang/invoke/MethodHandle") && decide ((am_md j).2.1.cls ≠ "java/lang/invoke/VarHandle") && decide ((am_md j).2.2.2.1 ≤ 29) && am_has st (Cond.static (am_md j).2.1) && decide ((parseMethodDescriptor (am_md j).2.1.desc).map (fun d => d.parameters.length) = some (am_wrY j)) && am_has ml (Cond.methodLink "ProofLineLaw" (am_wrI j) (am_md j).2.1)
set_option maxRecDepth 100000 in
theorem am_ckWL6 : am_ckWL 146 712 713 = true := by decide +kernel
set_option maxRecDepth 100000 in
theorem am_ckWL7 : am_ckWL 147 789 790 = true := by decide +kernel
set_option maxRecDepth 100000 in
theorem am_ckWL8 : am_ckWL 148 818 819 = true := by decide +kernel
def am_ckLaw (mj : am_MD) : Bool := mj.2.2.2.2.2.2.all (fun q => decide (decode mj.2.2.1 q.1 = .ok (q.2.1, q.2.2.1)) && am_lnok q.1 q.2.1 q.2.2.1 && am_chkL 11 false q.2 && (if am_isK q.2 = 2 then q.2.2.1 == 3 && q.2.2.2.2.2 == 0 && ((decide (q.2.2.2.1 < 146) && am_chkC 11 q.2) || (decide (q.2.2.2.1 = 146 ∨ q.2.2.2.1 = 147 ∨ q.2.2.2.1 = 148) && decide (q.2.1 = .invokestatic (am_wrI q.2.2.2.1)) && q.2.2.2.2.1 == am_wrY q.2.2.2.1)) else true) && (if am_isK q.2 = 1 then decide (q.2.1 = .ireturn) && q.2.2.1 == 1 && q.2.2.2.1 == 1 else true))
set_option maxRecDepth 100000 in
theorem am_ck149 : am_ckLaw (am_md 149) = true := by decide +kernel
section AMLL
variable {p : Program} {l : Launch} {e : Env} {R : Room} {s : State} {m : MethodId} {args : Array Value} {below : List Frame} {meth : Method} {c : Code} {Q : State → Prop}
variable {D : va_G} {ca : Nat → ClassId} {bs : Nat} {sp : Nat → Nat} {XL : Nat} {xs : Nat → Int32}
theorem am_wrOK {j : Nat} (hj : am_isWr j) : Cond.codeWith (am_md j).2.1 (am_md j).2.2.1 (am_md j).2.2.2.1 (am_md j).2.2.2.2.1 [am_hdl j] ∈ am_TB ∧ ∃ ml st, am_ckWL j ml st = true := by
  rcases hj with rfl | rfl | rfl
  · exact ⟨am_cwW146, _, _, am_ckWL6⟩
  · exact ⟨am_cwW147, _, _, am_ckWL7⟩
  · exact ⟨am_cwW148, _, _, am_ckWL8⟩
set_option maxHeartbeats 4000000 in
theorem am_soundL (hl : l.stackTraces = false) {nL d : Nat} {res : am_Res} (hx : p.tables.exec = Jvm.exec) (hb : c.code = (am_md 149).2.2.1) (hml : c.maxLocals = nL) (hts : ∀ w ∈ am_TB, w.before args s = true) (hown : s.vm.findClass "ProofLineLaw" = some m.cls)
    (hRf : d + 9 ≤ R.frames) (hRl : 48 * d + 168 ≤ R.locals) (hRc : res.2.1.2.1 ≤ R.cells) (hRs : res.2.1.2.2.1 ≤ R.slots)
    (hret : ∀ pc' ls' H' locs' L', decode (am_md 149).2.2.1 pc' = .ok (.ireturn, 1) → am_Rel D ca bs sp XL xs s nL L' res.2.1 res.2.2 ls' H' locs' res.2.1.2.1 → W p l e R s m args below meth c H' locs' res.2.1.2.1 res.2.1.2.2.1 Q (F0 m pc' ls' (res.1.toList.map (am_v (am_ad bs sp))))) :
    ∀ (k pc : Nat) (L st : List Value) (n : am_N) (M : am_M) (ls : Array Slot) (H : Heap) (locs : List Loc), am_run (am_cd (am_md 149)) (am_ex am_md d) k (pc, L, st, n, M) = some res → am_Rel D ca bs sp XL xs s nL L n M ls H locs n.2.1 →
      W p l e R s m args below meth c H locs n.2.1 n.2.2.1 Q (F0 m pc ls (st.map (am_v (am_ad bs sp)))) := by
  intro k
  induction k with
  | zero => intro pc L st n M ls H locs h; cases h
  | succ k ih =>
    intro pc L st n M ls H locs h hR
    unfold am_run at h
    split at h
    · cases h
    · rename_i q hq
      have hck := List.all_eq_true.mp am_ck149 _ (am_cd_mem hq)
      simp only [Bool.and_eq_true, decide_eq_true_eq] at hck
      obtain ⟨⟨⟨⟨hdec, hln⟩, hcL⟩, hcC⟩, hcR⟩ := hck
      have hlk := am_chkL_ok hcL
      have hlk : am_lk am_TB "ProofLineLaw" false q := hlk
      split at h
      · split at h
        · cases h
        · rename_i g' ha
          split at h
          · rename_i hm
            obtain ⟨m1, m2, -⟩ := am_mono_iff.mp hm
            obtain ⟨r1, r2, -⟩ := am_mono_iff.mp (am_run_mono h)
            have m1 : n.2.1 ≤ g'.2.2.2.1.2.1 := m1
            have m2 : n.2.2.1 ≤ g'.2.2.2.1.2.2.1 := m2
            have e1 : n.2.1 + (g'.2.2.2.1.2.1 - n.2.1) = g'.2.2.2.1.2.1 := by omega
            have e2 : n.2.2.1 + (g'.2.2.2.1.2.2.1 - n.2.2.1) = g'.2.2.2.1.2.2.1 := by omega
            refine am_step (init := false) hx hb hts hown (fun q => by cases q) hdec hln hlk ha hR (by rw [e1]; omega) (by rw [e2]; omega) ?_
            intro ls' H' locs' hR'
            rw [e1] at hR' ⊢
            rw [e2]
            obtain ⟨pc', L', st', n', M'⟩ := g'
            exact ih pc' L' st' n' M' ls' H' locs' h hR'
          · cases h
      · rename_i hk1
        rw [if_pos hk1] at hcR
        simp only [Bool.and_eq_true, decide_eq_true_eq, beq_iff_eq] at hcR
        obtain ⟨⟨i1, i2⟩, i3⟩ := hcR
        split at h
        · cases h
        · rename_i rv ha
          split at h
          · cases h
            obtain ⟨i0, len, x, y, z⟩ := q
            have i1 : i0 = .ireturn := i1
            have i2 : len = 1 := i2
            have i3 : x = 1 := i3
            subst i1; subst i2; subst i3
            have ha : am_actR (.ireturn, 1, 1, y, z) st n = some rv := ha
            rcases st with _ | ⟨v, _ | ⟨w, r⟩⟩
            · cases ha
            · cases v with
              | int x1 =>
                replace ha : (if am_fit 1 (.int x1) = true then some (some (.int x1), n) else none : Option (Option Value × am_N)) = some rv := ha
                split at ha
                · cases ha
                  exact hret pc ls H locs L hdec hR
                · cases ha
              | _ => cases ha
            · cases v <;> cases ha
          · cases h
      · rename_i hk0 hk1
        have hk2 : am_isK q = 2 := by
          rcases am_isK_cases q with h2 | h2 | h2
          · exact absurd h2 hk0
          · exact absurd h2 hk1
          · exact h2
        have hcC : (if am_isK q = 2 then q.2.1 == 3 && q.2.2.2.2 == 0 && ((decide (q.2.2.1 < 146) && am_chkC 11 q) || (decide (q.2.2.1 = 146 ∨ q.2.2.1 = 147 ∨ q.2.2.1 = 148) && decide (q.1 = .invokestatic (am_wrI q.2.2.1)) && q.2.2.2.1 == am_wrY q.2.2.1)) else true) = true := hcC
        rw [if_pos hk2] at hcC
        simp only [Bool.and_eq_true, beq_iff_eq] at hcC
        obtain ⟨⟨hlen, hz0⟩, hcC⟩ := hcC
        split at h
        · cases h
        · rename_i j as rest ha
          split at h
          · cases h
          · rename_i r n' M' hr
            split at h
            · rename_i hm
              split at h
              · first | cases h | (rw [if_pos hz0] at h; cases h)
              · rename_i hth
                obtain ⟨m1, m2, -⟩ := am_mono_iff.mp hm
                obtain ⟨r1, r2, -⟩ := am_mono_iff.mp (am_run_mono h)
                have m1 : n.2.1 ≤ n'.2.1 := m1
                have m2 : n.2.2.1 ≤ n'.2.2.1 := m2
                have r1 : n'.2.1 ≤ res.2.1.2.1 := r1
                have r2 : n'.2.2.1 ≤ res.2.1.2.2.1 := r2
                have e1 : n.2.1 + (n'.2.1 - n.2.1) = n'.2.1 := by omega
                have e2 : n.2.2.1 + (n'.2.2.1 - n.2.2.1) = n'.2.2.1 := by omega
                have hj : q.2.2.1 = j := am_actC_j ha
                have hrun : ∃ a, va_Run p l e R s m args below meth c H locs n.2.1 n.2.2.1 (n'.2.1 - n.2.1) (n'.2.2.1 - n.2.2.1) (F0 m pc ls (st.map (am_v (am_ad bs sp)))) (rest.map (am_v (am_ad bs sp))) (am_Qc D ca bs sp XL xs n (r, n', M') a) (am_A0 bs) := by
                  rcases (Bool.or_eq_true _ _).mp hcC with hc | hc
                  · obtain ⟨c1, c2⟩ := (Bool.and_eq_true _ _).mp hc
                    have c1 : q.2.2.1 < 146 := of_decide_eq_true c1
                    have hkK : am_chkK true 11 q = true := by
                      unfold am_chkK
                      rw [if_pos hk2]
                      simp only [Bool.and_eq_true, beq_iff_eq, Bool.true_or]
                      exact ⟨⟨hlen, trivial⟩, c2⟩
                    have hlC := am_lkC_ok hkK (by omega)
                    have hpj : j ∈ am_pl := by
                      rw [← hj]
                      have : ∀ x, x < 146 → x ∈ am_pl := by decide +kernel
                      exact this _ c1
                    exact am_call (md := am_md) (d := d) (res := (r, n', M')) hx hb hml hts (fun w hw => hw) am_goodTB hown hlen hdec hlC ha hR (am_MET l hr hpj hth) rfl rfl hRf hRl ⟨by rw [e1]; omega, by rw [e2]; omega⟩
                  · simp only [Bool.and_eq_true, decide_eq_true_eq, beq_iff_eq] at hc
                    obtain ⟨⟨c1, c2⟩, c3⟩ := hc
                    obtain ⟨i0, len, x, y, z⟩ := q
                    dsimp only at c1 c2 c3 hlen hj
                    subst hj
                    subst c2
                    subst c3
                    subst hlen
                    have hwr : am_isWr x := c1
                    obtain ⟨hcw, ml, stt, hw⟩ := am_wrOK hwr
                    simp only [am_ckWL, Bool.and_eq_true, decide_eq_true_eq] at hw
                    obtain ⟨⟨⟨⟨⟨⟨w1, w2⟩, w3⟩, w4⟩, w5⟩, w6⟩, w7⟩ := hw
                    replace ha : ((am_args (am_wrY x) st).map (fun r => (x, r.1, r.2)) : Option (Nat × List Value × List Value)) = some (x, as, rest) := ha
                    have hag : am_args (am_wrY x) st = some (as, rest) := by
                      cases hag : am_args (am_wrY x) st with
                      | none => rw [hag] at ha; cases ha
                      | some r0 => rw [hag] at ha; cases ha; rfl
                    exact am_callW (d := d) (res := (r, n', M')) hx hb hml hts hown hdec hcw (am_has_mem w1) ⟨w2, w3⟩ w4 (am_has_mem w5) w6 (am_has_mem w7) hag hR (am_metW l hl hr hwr hth) rfl rfl hRf hRl ⟨by rw [e1]; omega, by rw [e2]; omega⟩
                obtain ⟨a, hrun⟩ := hrun
                refine am_back hrun hR rfl hm ?_
                intro H' locs' hR'
                rw [e1] at hR' ⊢
                rw [e2]
                exact ih _ _ _ _ _ _ _ _ h hR'
            · cases h
end AMLL
