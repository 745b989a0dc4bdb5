def am_acopy (as : List Value) (n : am_N) (M : am_M) : Option am_Res := match as with
  | [.ref a, .int s0, .ref b, .int d0, .int k] => match M a, M b with
    | some (.inl (0, n0, f)), some (.inl (0, n1, g)) => if ¬ s0 < 0 ∧ ¬ d0 < 0 ∧ ¬ k < 0 ∧ s0.toNatClampNeg + k.toNatClampNeg ≤ n0 ∧ d0.toNatClampNeg + k.toNatClampNeg ≤ n1 then some (none, n, am_up M b (am_I 0 n1 (va_cpy f g s0.toNatClampNeg d0.toNatClampNeg k.toNatClampNeg))) else none
    | _, _ => none
  | _ => none
/-- the words of a method's code -/
def am_OK (md : Nat → am_MD) (mj : am_MD) : Prop := (∀ q ∈ mj.2.2.2.2.2.2, decode mj.2.2.1 q.1 = .ok (q.2.1, q.2.2.1) ∧ am_lnok q.1 q.2.1 q.2.2.1 = true ∧ am_lk am_TB mj.1 mj.2.2.2.2.2.1 q.2 ∧
    (q.2.2.2.1 < 2000 → am_lkC am_TB mj.1 md q.2) ∧ (am_isK q.2 = 2 → q.2.2.1 = 3) ∧
    (q.2.2.2.1 = 2000 → am_isK q.2 = 2 → ∃ i, q.2.1 = .invokespecial i ∧ Cond.methodLink mj.1 i Lib.objectInit ∈ am_TB ∧ q.2.2.2.2.1 = 1) ∧
    (q.2.2.2.1 = 2001 → am_isK q.2 = 2 → ∃ i, q.2.1 = .invokestatic i ∧ Cond.methodLink mj.1 i arraycopyName ∈ am_TB) ∧
    (am_isK q.2 = 2 → q.2.2.2.1 = 2000 ∨ q.2.2.2.1 = 2001 ∨ q.2.2.2.1 < 2000) ∧
    (q.2.1 = .ireturn → am_fty q.2.2.2.1 (mj.2.2.2.2.1.getD .long) = true ∧ q.2.2.2.1 < 3) ∧ (q.2.1 = .areturn → am_fty 3 (mj.2.2.2.2.1.getD .long) = true) ∧ (q.2.1 = .return_ → mj.2.2.2.2.1 = none)) ∧
  plainFor mj.2.1 = true ∧ mj.2.1.cls = mj.1 ∧ (mj.2.2.2.2.2.1 = true → mj.2.1.name = "<init>")
section AMZ
variable {p : Program} {l : Launch} {e : Env} {R : Room} {s : State} {m : MethodId} {args : Array Value} {below : List Frame} {meth : Method} {c : Code} {Q : State → Prop}
variable {D : va_G} {ca : Nat → ClassId} {bs : Nat} {sp : Nat → Nat} {XL : Nat} {xs : Nat → Int32}
/-- what must hold at a return -/
def am_retOK (mj : am_MD) (i : Instr) (r : Option Value) : Prop := (i = .return_ ∧ r = none ∧ mj.2.2.2.2.1 = none) ∨ (i = .ireturn ∧ ∃ v z, r = some (.int v) ∧ z < 3 ∧ am_fit z (.int v) = true ∧ am_fty z (mj.2.2.2.2.1.getD .long) = true) ∨ (i = .areturn ∧ ∃ a, r = some (.ref a) ∧ am_fty 3 (mj.2.2.2.2.1.getD .long) = true)
theorem am_actR_inv {mj : am_MD} {q : am_X} {pc : Nat} {st : List Value} {n : am_N} {rv : Option Value × am_N} (hok : (q.1 = .ireturn → am_fty q.2.2.1 (mj.2.2.2.2.1.getD .long) = true ∧ q.2.2.1 < 3) ∧ (q.1 = .areturn → am_fty 3 (mj.2.2.2.2.1.getD .long) = true) ∧ (q.1 = .return_ → mj.2.2.2.2.1 = none)) (hln : am_lnok pc q.1 q.2.1 = true) (h : am_actR q st n = some rv) :
    (q.2.1 = 1 ∧ rv.2 = n ∧ st = rv.1.toList ∧ am_retOK mj q.1 rv.1) ∨ (∃ i, q.1 = .new i ∧ q.2.1 = 3 ∧ q.2.2.1 = 1000 ∧ n.2.2.2 = false ∧ st.length ≤ 4 ∧ st.all am_c1 = true ∧ rv = (am_thrown, (n.1, n.2.1 + 1, n.2.2.1 + 6, n.2.2.2))) := by
  obtain ⟨i, len, x, y, z⟩ := q
  obtain ⟨h1, h2, h3⟩ := hok
  cases i with
  | new i =>
    have hl : len = 3 := eq_of_beq hln
    replace h : (if x = 1000 ∧ n.2.2.2 = false ∧ st.length ≤ 4 ∧ st.all am_c1 = true then some (am_thrown, (n.1, n.2.1 + 1, n.2.2.1 + 6, n.2.2.2)) else none : Option (Option Value × am_N)) = some rv := h
    split at h
    · rename_i hc
      cases h
      exact Or.inr ⟨i, rfl, hl, hc.1, hc.2.1, hc.2.2.1, hc.2.2.2, rfl⟩
    · cases h
  | ireturn =>
    have hl : len = 1 := eq_of_beq hln
    rcases st with _ | ⟨v, _ | ⟨w, r⟩⟩
    · cases h
    · cases v with
      | int x1 =>
        replace h : (if am_fit x (.int x1) = true then some (some (.int x1), n) else none : Option (Option Value × am_N)) = some rv := h
        split at h
        · rename_i hf
          cases h
          exact Or.inl ⟨hl, rfl, rfl, Or.inr (Or.inl ⟨rfl, x1, x, rfl, (h1 rfl).2, hf, (h1 rfl).1⟩)⟩
        · cases h
      | _ => cases h
    · cases v <;> cases h
  | areturn =>
    have hl : len = 1 := eq_of_beq hln
    rcases st with _ | ⟨v, _ | ⟨w, r⟩⟩
    · cases h
    · cases v with
      | ref x1 =>
        cases h
        exact Or.inl ⟨hl, rfl, rfl, Or.inr (Or.inr ⟨rfl, x1, rfl, h2 rfl⟩)⟩
      | _ => cases h
    · cases v <;> cases h
  | return_ =>
    have hl : len = 1 := eq_of_beq hln
    rcases st with _ | ⟨v, r⟩
    · cases h
      exact Or.inl ⟨hl, rfl, rfl, Or.inl ⟨rfl, rfl, h3 rfl⟩⟩
    · cases h
  | _ => exact (Option.some_ne_none _ (show (none : Option (Option Value × am_N)) = some rv from h).symm).elim
theorem am_isK_cases (q : am_X) : am_isK q = 0 ∨ am_isK q = 1 ∨ am_isK q = 2 := by
  obtain ⟨i, len, x, y, z⟩ := q
  cases i with
  | ireturn => exact Or.inr (Or.inl rfl)
  | areturn => exact Or.inr (Or.inl rfl)
  | return_ => exact Or.inr (Or.inl rfl)
  | invokevirtual i => exact Or.inr (Or.inr rfl)
  | invokestatic i => exact Or.inr (Or.inr rfl)
  | invokespecial i => exact Or.inr (Or.inr rfl)
  | new i =>
    by_cases h : x = 1000
    · exact Or.inr (Or.inl (if_pos h))
    · exact Or.inl (if_neg h)
  | _ => exact Or.inl rfl
theorem am_actC_j {q : am_X} {st : List Value} {M : am_M} {j : Nat} {as rest : List Value} (h : am_actC q st M = some (j, as, rest)) : q.2.2.1 = j := by
  obtain ⟨i, len, x, y, z⟩ := q
  cases i with
  | invokevirtual i =>
    replace h : ((am_args (y % 100) st).bind (fun r => if am_isO M r.1 (y / 100) = true then some (x, r.1, r.2) else none) : Option (Nat × List Value × List Value)) = some (j, as, rest) := h
    cases hag : am_args (y % 100) st with
    | none => rw [hag] at h; cases h
    | some r =>
      rw [hag] at h
      replace h : (if am_isO M r.1 (y / 100) = true then some (x, r.1, r.2) else none : Option (Nat × List Value × List Value)) = some (j, as, rest) := h
      split at h
      · cases h; rfl
      · cases h
  | invokestatic i =>
    replace h : ((am_args y st).map (fun r => (x, r.1, r.2)) : Option (Nat × List Value × List Value)) = some (j, as, rest) := h
    cases hag : am_args y st with
    | none => rw [hag] at h; cases h
    | some r => rw [hag] at h; cases h; rfl
  | invokespecial i =>
    replace h : ((am_args y st).bind (fun r => if am_isR r.1 = true then some (x, r.1, r.2) else none) : Option (Nat × List Value × List Value)) = some (j, as, rest) := h
    cases hag : am_args y st with
    | none => rw [hag] at h; cases h
    | some r =>
      rw [hag] at h
      replace h : (if am_isR r.1 = true then some (x, r.1, r.2) else none : Option (Nat × List Value × List Value)) = some (j, as, rest) := h
      split at h
      · cases h; rfl
      · cases h
  | _ => exact (Option.some_ne_none _ (show (none : Option (Nat × List Value × List Value)) = some (j, as, rest) from h).symm).elim
theorem am_actC_0 {i x z : Nat} {st : List Value} {M : am_M} {j : Nat} {as rest : List Value} (h : am_actC (.invokespecial i, 3, x, 1, z) st M = some (j, as, rest)) : ∃ b, st = .ref b :: rest ∧ rest.length ≤ 8 ∧ rest.all am_c1 = true := by
  replace h : ((am_args 1 st).bind (fun r => if am_isR r.1 = true then some (x, r.1, r.2) else none) : Option (Nat × List Value × List Value)) = some (j, as, rest) := h
  cases hag : am_args 1 st with
  | none => rw [hag] at h; cases h
  | some r =>
    obtain ⟨as', rest'⟩ := r
    rw [hag] at h
    replace h : (if am_isR as' = true then some (x, as', rest') else none : Option (Nat × List Value × List Value)) = some (j, as, rest) := h
    split at h
    · rename_i hr
      cases h
      obtain ⟨rfl, hl, h8, -, hc⟩ := am_args_inv hag
      match as, hl, hr with
      | [.ref b], _, _ => exact ⟨b, rfl, h8, hc⟩
    · cases h
theorem am_actC_1 {i x y z : Nat} {st : List Value} {M : am_M} {j : Nat} {as rest : List Value} (h : am_actC (.invokestatic i, 3, x, y, z) st M = some (j, as, rest)) : st = as.reverse ++ rest ∧ rest.length ≤ 8 ∧ rest.all am_c1 = true := by
  replace h : ((am_args y st).map (fun r => (x, r.1, r.2)) : Option (Nat × List Value × List Value)) = some (j, as, rest) := h
  cases hag : am_args y st with
  | none => rw [hag] at h; cases h
  | some r =>
    obtain ⟨as', rest'⟩ := r
    rw [hag] at h
    cases h
    obtain ⟨rfl, hl, h8, -, hc⟩ := am_args_inv hag
    exact ⟨rfl, h8, hc⟩
/-- the words that every method may use -/
def am_base (Ts : List Cond) : Prop := Cond.instanceMethod Lib.objectInit ∈ Ts ∧ Cond.code Lib.objectInit ⟨#[0xb1]⟩ 1 none ∈ Ts ∧ Cond.native arraycopyName ∈ Ts ∧ Cond.static arraycopyName ∈ Ts ∧ Cond.initialized "java/lang/System" ∈ Ts ∧ nativeFrameWords "java/lang/System" "arraycopy" 5 ≤ 100
theorem am_prim0 {cc : ByteArray} {own : String} {nL pc idx h : Nat} {L rest : List Value} {n : am_N} {M : am_M} {ls : Array Slot} {H : Heap} {locs : List Loc} {cells slots : Nat} (hx : p.tables.exec = Jvm.exec) (hb : c.code = cc) (hml : c.maxLocals = nL) {Ts : List Cond} (hts : ∀ w ∈ Ts, w.before args s = true) (hbase : am_base Ts) (hown : s.vm.findClass own = some m.cls)
    (hl : Cond.methodLink own idx Lib.objectInit ∈ Ts) (hdec : decode cc pc = .ok (.invokespecial idx, 3)) (hr8 : rest.length ≤ 8) (hc : rest.all am_c1 = true) (hRf : 1 ≤ R.frames) (hRl : 20 ≤ R.locals) (hR : am_Rel D ca bs sp XL xs s nL L n M ls H locs cells)
    (kk : W p l e R s m args below meth c H locs cells slots Q (F0 m (pc + 3) ls (rest.map (am_v (am_ad bs sp))))) : W p l e R s m args below meth c H locs cells slots Q (F0 m pc ls (.ref (am_ad bs sp h) :: rest.map (am_v (am_ad bs sp)))) := by
  refine W.objInit hx hb hown (hts _ hl) (hts _ hbase.1) (hts _ hbase.2.1) rfl (by rw [hml]; exact hR.1.1.1) rfl hdec hRf ?_ kk
  rw [am_cats hc]
  show 2 * 0 + rest.length + 12 ≤ R.locals
  omega
theorem am_prim1 {cc : ByteArray} {own : String} {nL pc idx : Nat} {L as rest : List Value} {n : am_N} {M : am_M} {ls : Array Slot} {H : Heap} {locs : List Loc} {cells slots : Nat} {res : am_Res} (hx : p.tables.exec = Jvm.exec) (hb : c.code = cc) (hml : c.maxLocals = nL) {Ts : List Cond} (hts : ∀ w ∈ Ts, w.before args s = true) (hbase : am_base Ts) (hown : s.vm.findClass own = some m.cls)
    (hl : Cond.methodLink own idx arraycopyName ∈ Ts) (hdec : decode cc pc = .ok (.invokestatic idx, 3)) (hr8 : rest.length ≤ 8) (hc : rest.all am_c1 = true) (hRf : 1 ≤ R.frames) (hRl : 120 ≤ R.locals) (hR : am_Rel D ca bs sp XL xs s nL L n M ls H locs cells) (hres : am_acopy as n M = some res)
    (kk : res.1 = none → res.2.1 = n → ∀ H' locs', am_Rel D ca bs sp XL xs s nL L n res.2.2 ls H' locs' cells → W p l e R s m args below meth c H' locs' cells slots Q (F0 m (pc + 3) ls (rest.map (am_v (am_ad bs sp))))) : W p l e R s m args below meth c H locs cells slots Q (F0 m pc ls ((as.reverse ++ rest).map (am_v (am_ad bs sp)))) := by
  unfold am_acopy at hres
  split at hres
  · rename_i a s0 b d0 k
    split at hres
    · rename_i n0 f n1 g hA hB
      split at hres
      · rename_i hcond
        obtain ⟨c1, c2, c3, c4, c5⟩ := hcond
        cases hres
        obtain ⟨w1, -, -⟩ := hR.2.1.at hA (fun t f N q => by cases q; decide)
        obtain ⟨w2, w3, -⟩ := hR.2.1.at hB (fun t f N q => by cases q; decide)
        have hD := am_D (ca := ca) (bs := bs) (sp := sp) (M := M) hR.2.1.2.2.1
        refine va_copyi hx hb (by rw [hml]; exact hR.1.1.1.symm) hown (hts _ hl) (hts _ hbase.2.2.1) (hts _ hbase.2.2.2.1) (hts _ hbase.2.2.2.2.1) hR.2.2.2.1.1 hR.2.1.1 hD hR.2.2.1 a b 0 0 w1 w2 rfl rfl rfl c1 c2 c3 c4 c5 (fun i _ => rfl) hRf ?_ hdec ?_
        · have hcs := am_cats (ad := am_ad bs sp) hc
          have := hbase.2.2.2.2.2
          show ((rest.map (am_v (am_ad bs sp))).map fun v => v.category).sum + _ ≤ R.locals
          rw [hcs]
          omega
        · intro H1 locs1 hP1 _ hS1
          refine am_size fun hz => ?_
          obtain ⟨h5, h6⟩ := hR.2.1.put hR.2.2.2.2.2 w3 (c := am_I 0 n1 (va_cpy f g s0.toNatClampNeg d0.toNatClampNeg k.toNatClampNeg)) (by decide : 0 < 3) hP1 hz
          exact kk rfl rfl H1 locs1 ⟨hR.1, h5, hS1, hR.2.2.2.1, hR.2.2.2.2.1, h6⟩
      · cases hres
    · cases hres
  · cases hres
set_option maxHeartbeats 4000000 in
theorem am_sound {md : Nat → am_MD} {mj : am_MD} (hok : am_OK md mj) {nL d b0 b1 : Nat} {cal : Nat → List Value → am_N → am_M → Option am_Res} {res : am_Res}
    (hx : p.tables.exec = Jvm.exec) (hb : c.code = mj.2.2.1) (hml : c.maxLocals = nL) {Ts : List Cond} (hts : ∀ w ∈ Ts, w.before args s = true) (hTB : ∀ w ∈ am_TB, w ∈ Ts) (hgood : ∀ w ∈ am_TB, (w.onTables && w.keeps) = true ∨ ∃ ty, w = .arrayClass ty) (hown : s.vm.findClass mj.1 = some m.cls) (hini : mj.2.2.2.2.2.1 = true → meth.name = "<init>")
    {P : Nat → Prop} (hPc : ∀ q ∈ mj.2.2.2.2.2.2, am_isK q.2 = 2 → q.2.2.2.1 < 2000 → P q.2.2.2.1) (hcal : ∀ j as n M r, cal j as n M = some r → P j → r.1 ≠ am_thrown → am_Met D ca bs sp XL xs l d (md j) as n M r) (hc0 : ∀ as n M r, cal 2000 as n M = some r → r = (none, n, M)) (hc1 : ∀ as n M r, cal 2001 as n M = some r → am_acopy as n M = some r)
    (hbase : am_base am_TB) (hRf : d + 9 ≤ R.frames) (hRl : 48 * d + 168 ≤ R.locals) (hRc : res.2.1.2.1 - b0 ≤ R.cells) (hRs : res.2.1.2.2.1 - b1 ≤ R.slots)
    (hthr : ∀ (pc : Nat) (L st : List Value) (n : am_N) (M : am_M) (ls : Array Slot) (H : Heap) (locs : List Loc) (i y z : Nat), (pc, Instr.new i, 3, 1000, y, z) ∈ mj.2.2.2.2.2.2 → n.2.2.2 = false → st.length ≤ 4 → st.all am_c1 = true → res = (am_thrown, (n.1, n.2.1 + 1, n.2.2.1 + 6, n.2.2.2), M) → b0 ≤ n.2.1 → b1 ≤ n.2.2.1 → am_Rel D ca bs sp XL xs s nL L n M ls H locs (n.2.1 - b0) → W p l e R s m args below meth c H locs (n.2.1 - b0) (n.2.2.1 - b1) Q (F0 m pc ls (st.map (am_v (am_ad bs sp)))))
    (hcatch : ∀ (pc : Nat) (L st : List Value) (n : am_N) (M : am_M) (ls : Array Slot) (H : Heap) (locs : List Loc) (q : am_X) (j : Nat) (as rest : List Value) (n' : am_N) (M' : am_M), (pc, q) ∈ mj.2.2.2.2.2.2 → am_isK q = 2 → q.2.2.2.2 ≠ 0 → am_actC q st M = some (j, as, rest) → cal j as n M = some (am_thrown, n', M') → am_mono n n' = true → res = (some (.int 1), n', M') → b0 ≤ n.2.1 → b1 ≤ n.2.2.1 → am_Rel D ca bs sp XL xs s nL L n M ls H locs (n.2.1 - b0) → W p l e R s m args below meth c H locs (n.2.1 - b0) (n.2.2.1 - b1) Q (F0 m pc ls (st.map (am_v (am_ad bs sp)))))
    (hret : ∀ pc' ls' H' locs' L' i, decode mj.2.2.1 pc' = .ok (i, 1) → am_retOK mj i res.1 → am_Rel D ca bs sp XL xs s nL L' res.2.1 res.2.2 ls' H' locs' (res.2.1.2.1 - b0) → W p l e R s m args below meth c H' locs' (res.2.1.2.1 - b0) (res.2.1.2.2.1 - b1) Q (F0 m pc' ls' (res.1.toList.map (am_v (am_ad bs sp))))) :
    ∀ (k pc : Nat) (L st : List Value) (n : am_N) (M : am_M) (ls : Array Slot) (H : Heap) (locs : List Loc), am_run (am_cd mj) cal k (pc, L, st, n, M) = some res → b0 ≤ n.2.1 → b1 ≤ n.2.2.1 → am_Rel D ca bs sp XL xs s nL L n M ls H locs (n.2.1 - b0) →
      W p l e R s m args below meth c H locs (n.2.1 - b0) (n.2.2.1 - b1) Q (F0 m pc ls (st.map (am_v (am_ad bs sp)))) := by
  intro k
  induction k with
  | zero => intro pc L st n M ls H locs h; cases h
  | succ k ih =>
    intro pc L st n M ls H locs h h0 h1 hR
    unfold am_run at h
    split at h
    · cases h
    · rename_i q hq
      obtain ⟨hdec, hln, hlk, hlC, hl3, h2000, h2001, hcases, hir, har, hvr⟩ := hok.1 _ (am_cd_mem hq)
      split at h
      · split at h
        · cases h
        · rename_i g' ha
          split at h
          · rename_i hm
            obtain ⟨m1, m2, -⟩ := am_mono_iff.mp hm
            obtain ⟨r1, r2, -⟩ := am_mono_iff.mp (am_run_mono h)
            have m1 : n.2.1 ≤ g'.2.2.2.1.2.1 := m1
            have m2 : n.2.2.1 ≤ g'.2.2.2.1.2.2.1 := m2
            have e1 : n.2.1 - b0 + (g'.2.2.2.1.2.1 - n.2.1) = g'.2.2.2.1.2.1 - b0 := by omega
            have e2 : n.2.2.1 - b1 + (g'.2.2.2.1.2.2.1 - n.2.2.1) = g'.2.2.2.1.2.2.1 - b1 := by omega
            refine am_step hx hb (fun w hw => hts w (hTB w hw)) hown hini hdec hln hlk ha hR (by rw [e1]; omega) (by rw [e2]; omega) ?_
            intro ls' H' locs' hR'
            rw [e1] at hR' ⊢
            rw [e2]
            obtain ⟨pc', L', st', n', M'⟩ := g'
            exact ih pc' L' st' n' M' ls' H' locs' h (Nat.le_trans h0 m1) (Nat.le_trans h1 m2) hR'
          · cases h
      · split at h
        · cases h
        · rename_i rv ha
          split at h
          · rename_i hm
            cases h
            rcases am_actR_inv ⟨hir, har, hvr⟩ hln ha with ⟨hl1, hn, hst, hro⟩ | ⟨i, hi, hl3', hx1, hal0, h4, hc4, hrv⟩
            · obtain ⟨rv1, rv2⟩ := rv
              obtain rfl : rv2 = n := hn
              subst hst
              rw [hl1] at hdec
              exact hret pc ls H locs L _ hdec hro hR
            · obtain ⟨i0, len, x, y, z⟩ := q
              have hi : i0 = .new i := hi
              have hl3' : len = 3 := hl3'
              have hx1 : x = 1000 := hx1
              subst hi; subst hl3'; subst hx1
              subst hrv
              exact hthr pc L st n M ls H locs i y z (am_cd_mem hq) hal0 h4 hc4 rfl h0 h1 hR
          · cases h
      · rename_i hk0 hk1
        have hk2 : am_isK q = 2 := by
          rcases am_isK_cases q with h2 | h2 | h2
          · exact absurd h2 hk0
          · exact absurd h2 hk1
          · exact h2
        split at h
        · cases h
        · rename_i j as rest ha
          split at h
          · cases h
          · rename_i r n' M' hr
            split at h
            · rename_i hm
              split at h
              · rename_i hth
                split at h
                · cases h
                · rename_i hz
                  cases h
                  subst hth
                  exact hcatch pc L st n M ls H locs q j as rest n' M' (am_cd_mem hq) hk2 hz ha hr hm rfl h0 h1 hR
              · rename_i hth
                obtain ⟨m1, m2, -⟩ := am_mono_iff.mp hm
                obtain ⟨r1, r2, -⟩ := am_mono_iff.mp (am_run_mono h)
                have hTB' : ∀ w ∈ am_TB, w.before args s = true := fun w hw => hts w (hTB w hw)
                have hlen := hl3 hk2
                have hj : q.2.2.1 = j := am_actC_j ha
                rcases hcases hk2 with hc | hc | hc
                · obtain ⟨i, hi, hlnk, hy1⟩ := h2000 hc hk2
                  obtain rfl : j = 2000 := hj.symm.trans hc
                  obtain ⟨i0, len, x, y, z⟩ := q
                  cases hi
                  cases hlen
                  cases hy1
                  have he := hc0 _ _ _ _ hr
                  cases he
                  obtain ⟨h1', rfl, hr8, hcr⟩ := am_actC_0 ha
                  exact am_prim0 hx hb hml hTB' hbase hown hlnk hdec hr8 hcr (by omega) (by omega) hR (ih _ _ _ _ _ _ _ _ h h0 h1 hR)
                · obtain ⟨i, hi, hlnk⟩ := h2001 hc hk2
                  obtain rfl : j = 2001 := hj.symm.trans hc
                  obtain ⟨i0, len, x, y, z⟩ := q
                  cases hi
                  cases hlen
                  obtain ⟨rfl, hr8, hcr⟩ := am_actC_1 ha
                  refine am_prim1 hx hb hml hTB' hbase hown hlnk hdec hr8 hcr (by omega) (by omega) hR (hc1 _ _ _ _ hr) ?_
                  intro e1 e2 H' locs' hR'
                  have e1 : r = none := e1
                  have e2 : n' = n := e2
                  subst e1; subst e2
                  exact ih _ _ _ _ _ _ _ _ h h0 h1 hR'
                · have hjl : j < 2000 := by rw [← hj]; exact hc
                  have hMet := hcal j as n M (r, n', M') hr (by rw [← hj]; exact hPc _ (am_cd_mem hq) hk2 hc) hth
                  have e1 : n.2.1 - b0 + (n'.2.1 - n.2.1) = n'.2.1 - b0 := by
                    have m1 : n.2.1 ≤ n'.2.1 := m1
                    omega
                  have e2 : n.2.2.1 - b1 + (n'.2.2.1 - n.2.2.1) = n'.2.2.1 - b1 := by
                    have m2 : n.2.2.1 ≤ n'.2.2.1 := m2
                    omega
                  have m1 : n.2.1 ≤ n'.2.1 := m1
                  have m2 : n.2.2.1 ≤ n'.2.2.1 := m2
                  have r1 : n'.2.1 ≤ res.2.1.2.1 := r1
                  have r2 : n'.2.2.1 ≤ res.2.1.2.2.1 := r2
                  obtain ⟨a, hrun⟩ := am_call (e := e) (below := below) (meth := meth) (slots := n.2.2.1 - b1) (mc := n'.2.1 - n.2.1) (ms := n'.2.2.1 - n.2.2.1) hx hb hml hts hTB hgood hown hlen hdec (hlC hc) ha hR hMet rfl rfl hRf hRl ⟨by rw [e1]; omega, by rw [e2]; omega⟩
                  refine am_back hrun hR rfl hm ?_
                  intro H' locs' hR'
                  rw [e1] at hR' ⊢
                  rw [e2]
                  exact ih _ _ _ _ _ _ _ _ h (by omega) (by omega) hR'
            · cases h
end AMZ
