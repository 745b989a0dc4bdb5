section AMW
variable {p : Program} {l : Launch} {e : Env} {R : Room} {s : State} {m : MethodId} {args : Array Value} {below : List Frame} {meth : Method} {c : Code} {H : Heap} {locs : List Loc} {cells slots : Nat} {Q : State → Prop}
variable {cc : ByteArray} {D : va_G} {ca : Nat → ClassId} {bs : Nat} {sp : Nat → Nat} {XL : Nat} {xs : Nat → Int32} {nL pc : Nat} {L : List Value} {n : am_N} {M : am_M} {ls : Array Slot}
/-- a call whose callee throws, and the handler behind it -/
theorem am_caughtW {md : Nat → am_MD} {i j0 j y z d yy hpc cty : Nat} {st as rest : List Value} {n' : am_N} {M' : am_M} {x : ExceptionTableEntry} (hx : p.tables.exec = Jvm.exec) (hb : c.code = cc) (hml : c.maxLocals = nL) {Ts : List Cond} (hts : ∀ w ∈ Ts, w.before args s = true) (hTB : ∀ w ∈ am_TB, w ∈ Ts) (hgood : ∀ w ∈ am_TB, (w.onTables && w.keeps) = true ∨ ∃ ty, w = .arrayClass ty)
    {own : String} (hown : s.vm.findClass own = some m.cls) (hdec : decode cc pc = .ok (.invokevirtual i, 3)) (hlk : am_lkC am_TB own md (.invokevirtual i, 3, j0, y, z)) (ha : am_actC (.invokevirtual i, 3, j0, y, z) st M = some (j, as, rest)) (hR : am_Rel D ca bs sp XL xs s nL L n M ls H locs cells)
    (hlink : Cond.methodLink own i (md j).2.1 ∈ am_TB) (hal : n'.2.2.2 = false) (hMT : am_MetT D ca bs sp XL xs l d (md j) yy as n M (am_thrown, n', M')) (hmo : am_mono n n' = true) (hRf : d + 9 ≤ R.frames) (hRl : 48 * d + 168 ≤ R.locals) (hf : cells + (n'.2.1 - n.2.1) ≤ R.cells ∧ slots + (n'.2.2.1 - n.2.2.1) ≤ R.slots)
    (hsplit : c.exceptionTable.toList = [x]) (hcov : covers x pc = true) (h0 : x.catchType ≠ 0) (hhp : x.handlerPc = hpc) (hcl : Cond.classLink own x.catchType (am_thC yy) ∈ am_TB) (hcast : Cond.castable (am_thC yy) (am_thC yy) ∈ am_NB)
    (kk : ∀ (H' : Heap) (locs' : List Loc) (a : Nat), am_Rel D ca bs sp XL xs s nL L n' M' ls H' locs' (cells + (n'.2.1 - n.2.1)) → W p l e R s m args below meth c H' locs' (cells + (n'.2.1 - n.2.1)) (slots + (n'.2.2.1 - n.2.2.1)) Q (F0 m hpc ls [.ref a])) :
    W p l e R s m args below meth c H locs cells slots Q (F0 m pc ls (st.map (am_v (am_ad bs sp)))) := by
  intro T hT X
  subst hhp
  obtain ⟨⟨hcw, hini, hy, h29⟩, hinst, hsel, hdesc, ⟨T0, N0, hclr⟩, hl⟩ := hlk
  have hcw : Cond.code (md j0).2.1 (md j0).2.2.1 (md j0).2.2.2.1 (md j0).2.2.2.2.1 ∈ am_TB := hcw
  obtain ⟨k, hk, hdesc⟩ := am_desc hdesc
  have hk : y % 100 = k + 1 := hk
  obtain rfl : j0 = j := am_actC_j ha
  replace ha : ((am_args (y % 100) st).bind (fun r => if am_isO M r.1 (y / 100) = true then some (j0, r.1, r.2) else none) : Option (Nat × List Value × List Value)) = some (j0, as, rest) := ha
  have ⟨r0, hag, hiO, hasr⟩ : ∃ r, am_args (y % 100) st = some r ∧ am_isO M r.1 (y / 100) = true ∧ r = (as, rest) := by
    cases hag : am_args (y % 100) st with
    | none => rw [hag] at ha; cases ha
    | some r =>
      rw [hag] at ha
      replace ha : (if am_isO M r.1 (y / 100) = true then some (j0, r.1, r.2) else none : Option (Nat × List Value × List Value)) = some (j0, as, rest) := ha
      split at ha
      · rename_i hO
        cases ha
        exact ⟨r, rfl, hO, rfl⟩
      · cases ha
  subst hasr
  have hiO : am_isO M as (y / 100) = true := hiO
  obtain ⟨rfl, hlen, hr8, hc1, hc2⟩ := am_args_inv hag
  rcases as with _ | ⟨a0, as⟩
  · cases hiO
  · cases a0 with
    | ref h =>
      obtain ⟨fs, hMh⟩ : ∃ fs, M h = some (am_O (y / 100) fs) := by
        unfold am_isO at hiO
        simp only at hiO
        split at hiO
        · rename_i c0 fs hM0
          obtain rfl : c0 = y / 100 := eq_of_beq hiO
          exact ⟨fs, hM0⟩
        · cases hiO
      obtain ⟨hw1, hw2, -⟩ := hR.2.1.at hMh (fun t f N q => by cases q)
      obtain ⟨cellB, hcB, hoB, hclB⟩ := va_recv hR.2.2.2.1.1 hR.2.1.1 hclr hw1
      have hclB : s.vm.findClass (md j0).2.1.cls = some cellB.cls := hclB
      have hst : (((Value.ref h :: as).reverse ++ rest).map (am_v (am_ad bs sp))) = (as.map (am_v (am_ad bs sp))).reverse ++ .ref (am_ad bs sp h) :: rest.map (am_v (am_ad bs sp)) := by
        simp only [List.reverse_cons, List.append_assoc, List.map_append, List.map_reverse, List.map_cons, List.map_nil, List.singleton_append]
        rfl
      have hTB' : ∀ w ∈ am_TB, w.before args s = true := fun w hw => hts w (hTB w hw)
      obtain ⟨mk, methM, hnamed, hmethM, hstM, habM⟩ := Cond.instanceMethod_spec (hTB' _ hinst)
      obtain ⟨methM', cM, hmethM', hcM, -, hlM, -, -, -, hsigM⟩ := Cond.code_spec hnamed (hTB' _ hcw)
      cases hmethM.symm.trans hmethM'
      obtain ⟨c2, r2, m2, q1, q2, q3, q4, kP, hkP, hkPi⟩ := Cond.selects_spec (hTB' _ hsel)
      cases hclB.symm.trans q1
      cases (State.methodFound?_of_named hnamed hy).symm.trans q2
      cases hnamed.symm.trans q3
      have hselP : selectMethod e.platform s.vm cellB.cls mk = .method mk := by rw [Launch.admits_selectMethod X.admits]; exact q4
      have hpl : as.length = methM.sig.parameters.length := by
        rw [hsigM] at hdesc
        have h7 : methM.sig.parameters.length = k := Option.some.inj hdesc
        simp only [List.length_cons] at hlen
        omega
      obtain ⟨vm₁, X₁, hstep₁⟩ := X.invokevirtual hx hown (hTB' _ hlink) hnamed hmethM hstM hkP hkPi hy (a := am_ad bs sp h) (cell := cellB) (by rw [hT]; exact hcB)
        (fun z h => by rw [h] at hoB; cases hoB) hselP hmethM habM hkP hkPi (g := F0 m pc ls (((Value.ref h :: as).reverse ++ rest).map (am_v (am_ad bs sp)))) rfl (argsL := as.map (am_v (am_ad bs sp))) (rest := rest.map (am_v (am_ad bs sp))) (by rw [List.length_map]; exact hpl) hst (by rw [hb]; exact hdec)
      have hU : (T.setVm vm₁).heap = H := hT
      have hat : At (T.setVm vm₁) m c below := X₁.here
      have hn1 := X₁.named hnamed
      have hcode1 : (Cond.code (md j0).2.1 (md j0).2.2.1 (md j0).2.2.2.1 (md j0).2.2.2.2.1).before ((Value.ref h :: as).map (am_v (am_ad bs sp))).toArray (T.setVm vm₁) = true := word_at X₁.warmed (hgood _ hcw) (hTB' _ hcw)
      have hini1 : (Cond.initialized (md j0).2.1.cls).before ((Value.ref h :: as).map (am_v (am_ad bs sp))).toArray (T.setVm vm₁) = true := word_at X₁.warmed (hgood _ hini) (hTB' _ hini)
      obtain ⟨methY, cY, hmY, hcY, -, hlY, -, -, -, -⟩ := Cond.code_spec hn1 hcode1
      obtain ⟨kY, hkY, -⟩ := className_of_methodNamed hn1
      have hinitY : kY.init = .initialized := Cond.initialized_spec (findClass_of_methodNamed hn1) hkY hini1
      have hpreU : (headSpec (am_wsm (md j0)) (am_rm d (n'.2.1 - n.2.1) (n'.2.2.1 - n.2.2.1))).pre.before ((Value.ref h :: as).map (am_v (am_ad bs sp))).toArray (T.setVm vm₁) = true := atoms_intro fun w hw => by
        rcases List.mem_cons.mp hw with rfl | hw
        · exact hcode1
        · exact word_at X₁.warmed (hgood _ hw) (hTB' _ hw)
      have hsum : ((rest.map (am_v (am_ad bs sp))).map fun v => v.category).sum = rest.length := am_cats hc2
      have happ := Spec.appliesLoose_calling (S := headSpec (am_wsm (md j0)) (am_rm d (n'.2.1 - n.2.1) (n'.2.2.1 - n.2.2.1))) (x := (md j0).2.1) (e := e) (args := ((Value.ref h :: as).map (am_v (am_ad bs sp))).toArray) (g := F0 m pc ls (rest.map (am_v (am_ad bs sp)))) hat (by rw [hb]; exact hdec) hn1 hkY hinitY
        (X₁.room_calling (g := F0 m pc ls (rest.map (am_v (am_ad bs sp)))) (R' := am_rm d (n'.2.1 - n.2.1) (n'.2.2.1 - n.2.2.1)) (by rw [hml]; exact hR.1.1.1) hmY hcY (by show d + 8 + 1 ≤ R.frames; omega)
          (by
            rw [hlY]
            show 2 * 0 + ((rest.map (am_v (am_ad bs sp))).map fun v => v.category).sum + ((md j0).2.2.2.1 + 11) + (48 * d + 120) ≤ R.locals
            rw [hsum]
            have h29 : (md j0).2.2.2.1 ≤ 29 := h29
            omega) hf.1 hf.2) hpreU
      obtain ⟨mid, hmid⟩ := hat.above
      have hfr : ((T.setVm vm₁).setTop (F0 m pc ls (rest.map (am_v (am_ad bs sp))))).frames = (.java (F0 m pc ls (rest.map (am_v (am_ad bs sp)))) :: mid) ++ below := by rw [State.frames_setTop' _ hat.top, hmid]; rfl
      have hPU : am_Pc D ca bs sp XL xs (.ref h :: as) n M ((Value.ref h :: as).map (am_v (am_ad bs sp))).toArray (T.setVm vm₁) := by
        have hk0 : ∀ a : Nat, a < s.heap.size → ¬ am_A0 bs a → H[a]? = s.heap[a]? := hR.2.2.1.2.1
        refine ⟨rfl, hc1, by rw [hU]; exact hR.2.1, am_S.warm X₁.warmed ?_, by rw [hU]; exact Nat.le_trans hR.2.2.2.2.1 hR.2.2.1.1⟩
        rw [hU]
        exact ⟨hR.2.2.2.1.1, hR.2.2.2.1.2.1.kept hk0, hR.2.2.2.1.2.2.1.kept hk0, hR.2.2.2.1.2.2.2.1.kept hk0, hR.2.2.2.1.2.2.2.2.1, hR.2.2.2.1.2.2.2.2.2.1.kept hk0, hR.2.2.2.1.2.2.2.2.2.2.kept hk0⟩
      obtain ⟨o, s₂, hsteps, -, hend, hq⟩ := Steps.callFree hMT p X₁.admits X₁.cas X₁.clock (acts := []) hfr happ (am_blind _ _ (F0 m pc ls (rest.map (am_v (am_ad bs sp)))) mk hPU) trivial
      have hq' : am_QT D ca bs sp XL xs yy n (am_thrown, n', M') ((Value.ref h :: as).map (am_v (am_ad bs sp))).toArray ((T.setVm vm₁).calling (F0 m pc ls (rest.map (am_v (am_ad bs sp)))) mk ((Value.ref h :: as).map (am_v (am_ad bs sp))).toArray) o s₂ := hq
      obtain ⟨xa, rfl, hW2, hF, ⟨ce, hce, hcev, hcec⟩, L2, hWm, hsame, hL2⟩ := hq'
      rw [State.frames_setTop' _ hat.top, X₁.tail] at hend
      obtain ⟨T', X', hWT, hsT, ht⟩ := X₁.outOfThrown (g := F0 m pc ls (rest.map (am_v (am_ad bs sp)))) rfl hend hWm hsame
      have hheap : T'.heap = s₂.heap := by rw [ht]; exact (Stand.throwing_heap _ _ _).symm
      obtain ⟨c5, t5, u1, u2, u3⟩ := Cond.castable_spec (va_Nw.use (A := args) rfl (hR.2.2.2.1.2.2.2.2.1 _ hcast))
      have hcT : s.vm.findClass (am_thC yy) = some ce.cls := by
        have h9 : (T.setVm vm₁).vm.findClass (am_thC yy) = some ce.cls := hcec
        rw [X₁.warmed.alike.findClass] at h9
        exact h9
      cases u1.symm.trans hcT
      cases u2.symm.trans hcT
      obtain ⟨vm2, X2, hst2⟩ := am_catch X' (a := xa) (g := F0 m pc ls (rest.map (am_v (am_ad bs sp)))) rfl hown hsplit hcov h0 (hTB' _ hcl) (cell := ce) hcT (by rw [hheap]; exact hce) hcev u3
      have hz : H.size ≤ s₂.heap.size := by have := hF.1; rwa [show ((T.setVm vm₁).calling (F0 m pc ls (rest.map (am_v (am_ad bs sp)))) mk ((Value.ref h :: as).map (am_v (am_ad bs sp))).toArray).heap = H from hU] at this
      have hk2 : ∀ q : Nat, q < H.size → ¬ am_A0 bs q → s₂.heap[q]? = H[q]? := by
        intro q h1 h2
        have := hF.2 q (by rw [show ((T.setVm vm₁).calling (F0 m pc ls (rest.map (am_v (am_ad bs sp)))) mk ((Value.ref h :: as).map (am_v (am_ad bs sp))).toArray).heap = H from hU]; exact h1) h2
        rwa [show ((T.setVm vm₁).calling (F0 m pc ls (rest.map (am_v (am_ad bs sp)))) mk ((Value.ref h :: as).map (am_v (am_ad bs sp))).toArray).heap = H from hU] at this
      have hS2 : va_S (am_A0 bs) s.heap T'.heap (locs ++ L2) := ⟨Nat.le_trans hR.2.2.1.1 (by rw [hheap]; exact hz), fun q h1 h2 => by rw [hheap, hk2 q (Nat.lt_of_lt_of_le h1 hR.2.2.1.1) h2]; exact hR.2.2.1.2.1 q h1 h2, fun q hq => by
        rcases List.mem_append.mp hq with h | h
        · exact hR.2.2.1.2.2 q h
        · exact hL2 q h⟩
      have hrel : am_Rel D ca bs sp XL xs s nL L n' M' ls T'.heap (locs ++ L2) (cells + (n'.2.1 - n.2.1)) := ⟨hR.1, by rw [hheap]; exact hW2, hS2, hR.2.2.2.1, hR.2.2.2.2.1, fun q => by rw [hal] at q; cases q⟩
      obtain ⟨t2, a1, b1⟩ := kk T'.heap (locs ++ L2) xa hrel (T'.setVm vm2) rfl X2
      refine ⟨t2, hstep₁ _ (fun acts => ?_), b1⟩
      rw [doInvoke_state]
      refine hsteps.trans ?_
      rw [ht]
      exact hst2 t2 a1
    | _ => cases hiO
end AMW
