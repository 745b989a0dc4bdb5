def am_inH : List Nat := [158, 125, 103, 151, 119, 226, 289, 307, 200, 95, 828]
set_option maxRecDepth 100000 in
theorem am_inOK : (List.range 11).all (fun ci => match am_cl[ci]? with | some (C, _, N) => am_has (am_inH.getD ci 0) (Cond.instantiable C N) | none => false) = true := by decide +kernel
set_option maxRecDepth 100000 in
theorem am_lsR : Cond.laysStatic "ProofLine" "RECURSION_TYPE" "[I" ∈ lw_tbl := List.mem_of_getElem? (i := 634) (by decide +kernel)
set_option maxRecDepth 100000 in
theorem am_lsU : Cond.laysStatic "java/lang/Throwable" "UNASSIGNED_STACK" "[Ljava/lang/StackTraceElement;" ∈ lw_tbl := List.mem_of_getElem? (i := 750) (by decide +kernel)
set_option maxRecDepth 100000 in
theorem am_lsS : Cond.laysStatic "java/lang/Throwable" "SUPPRESSED_SENTINEL" "Ljava/util/List;" ∈ lw_tbl := List.mem_of_getElem? (i := 752) (by decide +kernel)
set_option maxRecDepth 100000 in
theorem am_iniP : Cond.initialized "ProofLine" ∈ lw_tbl := List.mem_of_getElem? (i := 76) (by decide +kernel)
set_option maxRecDepth 100000 in
theorem am_iniT : Cond.initialized "java/lang/Throwable" ∈ lw_tbl := List.mem_of_getElem? (i := 87) (by decide +kernel)
def am_rt : Term := .static "ProofLine" "RECURSION_TYPE" "[I"
theorem am_nar : ∀ j, j < 25 → Cond.eq (.elem am_rt (.int (Int32.ofNat j))) (.int (am_rec j)) ∈ flatC (Jvm.Cond.and given_1 narrow_1) := by decide +kernel
theorem am_nar0 : Cond.arrayOf am_rt .int ∈ flatC (Jvm.Cond.and given_1 narrow_1) := by decide +kernel
theorem am_nar1 : Cond.eq (.length am_rt) (.int 25) ∈ flatC (Jvm.Cond.and given_1 narrow_1) := by decide +kernel
theorem am_nar2 : Cond.isRef (.static "java/lang/Throwable" "UNASSIGNED_STACK" "[Ljava/lang/StackTraceElement;") ∈ flatC (Jvm.Cond.and given_1 narrow_1) := by decide +kernel
theorem am_nar3 : Cond.isRef (.static "java/lang/Throwable" "SUPPRESSED_SENTINEL" "Ljava/util/List;") ∈ flatC (Jvm.Cond.and given_1 narrow_1) := by decide +kernel
theorem am_arr {s : State} {cA comp : ClassId} {kA : Class} {ty : FieldType} (h2 : s.vm.classes[cA]? = some kA) (h3 : kA.kind = .array comp ty) : ArrOfT s cA ty := fun n z => ⟨fun k h => (by cases h), kA, h2, comp, h3⟩
theorem am_SS {s : State} {b L : Nat} {xs : Nat → Int32} (hts : ∀ w ∈ lw_tbl, w.before #[Value.ref b] s = true) (hX : va_X b L xs s s.heap) (hbl : b < s.heap.size) (hgv : (Jvm.Cond.and given_1 narrow_1).before #[Value.ref b] s = true) : ∃ (D : va_G) (ca : Nat → ClassId) (sp : Nat → Nat), sp 1 = b ∧ am_S D ca s.heap.size sp L xs s s.heap := by
  have hTB : ∀ w ∈ am_TB, w.before #[Value.ref b] s = true := fun w hw => hts w (List.mem_filter.mp hw).1
  have hcl : ∀ ci : Nat, ∃ (cC : ClassId), ∃ iS : Nat → Nat, ∀ q, am_cl[ci]? = some q → u_Kn s q.1 q.2.1 q.2.2 cC iS := by
    intro ci
    cases hq : am_cl[ci]? with
    | none => exact ⟨0, fun _ => 0, fun q h => by cases h⟩
    | some q =>
      obtain ⟨C, T, N⟩ := q
      have h1 := List.all_eq_true.mp am_inOK ci (List.mem_range.mpr (am_cl_lt hq))
      rw [hq] at h1
      obtain ⟨cC, iS, h⟩ := u_known hTB (am_cls hq) (hTB _ (am_has_mem h1))
      exact ⟨cC, iS, fun q' h' => by cases h'; exact h⟩
  obtain ⟨dC, hd⟩ := Classical.skolem.mp hcl
  obtain ⟨dI, hd⟩ := Classical.skolem.mp hd
  obtain ⟨cI, kI, oI, i1, i2, i3⟩ := Cond.arrayClass_spec (hTB _ (am_has_mem am_ac_int))
  obtain ⟨cC, kC, oC, c1, c2, c3⟩ := Cond.arrayClass_spec (hTB _ (am_has_mem am_ac_char))
  obtain ⟨cZ, kZ, oZ, z1, z2, z3⟩ := Cond.arrayClass_spec (hTB _ (am_has_mem am_ac_boolean))
  obtain ⟨cJ, kJ, oJ, j1, j2, j3⟩ := Cond.arrayClass_spec (hTB _ (am_has_mem am_ac_long))
  obtain ⟨oR, cR, kR, r1, r2, r3, r4, r5⟩ := Cond.arrayOver_spec (hts _ (List.mem_filter.mp (am_hasN_mem am_ao)).1)
  have hs := flat_of_before _ hgv
  have hA : ∀ a : Nat, a < s.heap.size → ¬ am_A0 s.heap.size a := fun a ha h => by
    have h : s.heap.size ≤ a := h
    omega
  obtain ⟨t, ht, hT⟩ := va_Tof (tm := am_rt) (ty := .int) (N := 25) (f := fun j => .int (am_rec j)) (A := am_A0 s.heap.size) (by decide) (hs _ am_nar0) (va_eqt (hs _ am_nar1)) (fun j hj => va_eqt (hs _ (am_nar j hj))) hA
  obtain ⟨scr, x1, x2, x3, x4, x5⟩ := hX
  refine ⟨(dC, dI), fun k => match k with | 0 => cI | 1 => cC | 2 => cZ | 3 => cJ | _ => cR, fun k => if k = 0 then t else b, rfl, ⟨fun ci q hq => hd ci q hq, ?_⟩, va_Zref (hts _ am_lsR) (hts _ am_iniP) ht hA, hT, ⟨scr, x1, x2, x3, Nat.le_of_eq x4.symm, (by rw [x4]), x5, hA b hbl⟩, fun w hw => ?_, ⟨va_Zqof (hts _ am_lsU) (hts _ am_iniT) (hs _ am_nar2) hA, am_LS.of (hts _ am_lsU) hA⟩, ⟨va_Zqof (hts _ am_lsS) (hts _ am_iniT) (hs _ am_nar3) hA, am_LS.of (hts _ am_lsS) hA⟩⟩
  · intro k q hq
    match k, hq with
    | 0, hq => cases hq; exact ⟨am_arr i2 i3, i1⟩
    | 1, hq => cases hq; exact ⟨am_arr c2 c3, c1⟩
    | 2, hq => cases hq; exact ⟨am_arr z2 z3, z1⟩
    | 3, hq => cases hq; exact ⟨am_arr j2 j3, j1⟩
    | 4, hq => cases hq; exact ⟨am_arr r3 r4, kR, oR, r3, r4, r1, r5⟩
  · obtain ⟨h1, hn⟩ := List.mem_filter.mp hw
    have h2 := hts w h1
    cases w with
    | fieldLinkNest a i b n d h => exact va_Nw.of rfl h2
    | methodLinkNest a i x h => exact va_Nw.of rfl h2
    | declares x => exact va_Nw.of rfl h2
    | castable a b => exact va_Nw.of rfl h2
    | arrayOver ty =>
      cases ty with
      | object C => exact va_AO.of h2
      | _ => cases hn
    | _ => cases hn
/-- the abstract machine at the law's start -/
def am_M0 (L : Nat) (xs : Nat → Int32) : am_M := fun h => if h = 100000 then some (am_I 5 25 am_rec) else if h = 100001 then some (am_I 6 L xs) else none
def am_n0 : am_N := (0, 0, 0, true)
def am_law (d L : Nat) (xs : Nat → Int32) (C S : Nat) : Prop := ∃ k res, am_run (am_cd (am_md 149)) (am_ex am_md d) k (0, am_ent 7 [.ref 100001], [], am_n0, am_M0 L xs) = some res ∧ res.1 = some (.int 1) ∧ res.2.1.2.1 ≤ C ∧ res.2.1.2.2.1 ≤ S
theorem am_whole {p : Program} {e : Env} {s : State} {m : MethodId} {below : List Frame} {meth : Method} {c : Code} (l : Launch) (hl : l.stackTraces = false) {b L d : Nat} {xs : Nat → Int32} (hd1 : d + 9 ≤ room_1.frames) (hd2 : 48 * d + 168 ≤ room_1.locals) (C0 : lw_At p s m meth c b L xs) (hlaw : am_law d L xs room_1.cells room_1.slots) :
    W p l e room_1 s m #[Value.ref b] below meth c s.heap [] 0 0 (lw_Z below #[Value.ref b] s) (entryFrame m ([Value.ref b] : List Value).toArray 7) := by
  obtain ⟨hx, hb, hr, hml, hown, hts, hX, hbl, hlocks, hgv⟩ := C0
  obtain ⟨D, ca, sp, hsp, hS⟩ := am_SS hts hX hbl hgv
  obtain ⟨k, res, hrun, hres, hc, hsl⟩ := hlaw
  have hTB : ∀ w ∈ am_TB, w.before #[Value.ref b] s = true := fun w hw => hts w (List.mem_filter.mp hw).1
  have hargs : ([Value.ref b] : List Value) = [Value.ref 100001].map (am_v (am_ad s.heap.size sp)) := by
    show [Value.ref b] = [Value.ref (sp 1)]
    rw [hsp]
  have hL := am_entL (ad := am_ad s.heap.size sp) (mL := 7) (as := [.ref 100001]) rfl (by decide)
  have hW0 : am_W D ca s.heap.size sp L xs am_n0 (am_M0 L xs) s.heap := by
    refine ⟨(fun k q hq => by cases hq), ?_, by decide, Nat.le_refl _, fun _ => rfl⟩
    intro h c0 hh
    unfold am_M0 at hh
    split at hh
    · rename_i h1; cases hh; exact Or.inr (Or.inl ⟨h1, rfl⟩)
    · split at hh
      · rename_i h1; cases hh; exact Or.inr (Or.inr ⟨h1, rfl⟩)
      · cases hh
  rw [lg_entry_eq]
  rw [← hargs] at hL
  generalize (lg_sl [Value.ref b] ++ List.replicate (7 - (lg_sl [Value.ref b]).length) Slot.unset).toArray = ls at hL ⊢
  have hR : am_Rel D ca s.heap.size sp L xs s 7 (am_ent 7 [.ref 100001]) am_n0 (am_M0 L xs) ls s.heap [] am_n0.2.1 := ⟨hL, hW0, va_S.rf, hS, Nat.le_refl _, fun _ => rfl⟩
  exact am_soundL (p := p) (l := l) (e := e) (R := room_1) (s := s) (m := m) (args := #[Value.ref b]) (below := below) (meth := meth) (c := c) (Q := lw_Z below #[Value.ref b] s) hl (nL := 7) (d := d) (res := res) hx hb hml hTB hown hd1 hd2 hc hsl
    (fun pc' ls' H' locs' L' hdec hR' => by
      rw [hres]
      refine W.widen (k := room_1.cells) (n := room_1.slots) hc hsl ?_
      refine va_forget (fun q hq => hR'.2.2.1.2.2 q hq) ?_
      exact lw_ret hx hb hr hlocks hdec) k 0 (am_ent 7 [.ref 100001]) [] am_n0 (am_M0 L xs) ls s.heap [] hrun hR
