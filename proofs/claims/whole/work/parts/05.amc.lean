/-- a method: own class, name, bytes, locals, return type, is it a constructor, its code -/
abbrev am_MD : Type := String × MethodName × ByteArray × Nat × Option FieldType × Bool × List (Nat × am_X)
def am_cd (md : am_MD) (pc : Nat) : Option am_X := (md.2.2.2.2.2.2.find? (fun q => q.1 == pc)).map (fun q => q.2)
theorem am_cd_mem {md : am_MD} {pc : Nat} {q : am_X} (h : am_cd md pc = some q) : (pc, q) ∈ md.2.2.2.2.2.2 := by
  unfold am_cd at h
  cases hf : md.2.2.2.2.2.2.find? (fun q => q.1 == pc) with
  | none => rw [hf] at h; cases h
  | some a =>
    rw [hf] at h
    obtain ⟨a0, a1⟩ := a
    cases h
    have h1 := List.find?_some hf
    obtain rfl : a0 = pc := eq_of_beq h1
    exact List.mem_of_find?_eq_some hf
def am_ent (mL : Nat) (as : List Value) : List Value := as ++ List.replicate (mL - as.length) am_junk
def am_rm (d mc ms : Nat) : Room := { frames := d + 8, cells := mc, slots := ms, locals := 48 * d + 120 }
section AMC
variable (D : va_G) (ca : Nat → ClassId) (bs : Nat) (sp : Nat → Nat) (XL : Nat) (xs : Nat → Int32)
def am_Pc (as : List Value) (n : am_N) (M : am_M) : Array Value → State → Prop := fun v U => v = (as.map (am_v (am_ad bs sp))).toArray ∧ as.all am_c1 = true ∧ am_W D ca bs sp XL xs n M U.heap ∧ am_S D ca bs sp XL xs U U.heap ∧ bs ≤ U.heap.size
def am_Qc (n : am_N) (res : am_Res) : Array Value → State → Outcome → State → Prop := fun _ st oc t => oc = .returned (res.1.map (am_v (am_ad bs sp))) ∧ am_W D ca bs sp XL xs res.2.1 res.2.2 t.heap ∧ va_F (am_A0 bs) st t ∧ (res.2.1.2.2.2 = true → t.heap.size = st.heap.size + (res.2.1.2.1 - n.2.1))
def am_wsm (md : am_MD) : List Cond := Cond.code md.2.1 md.2.2.1 md.2.2.2.1 md.2.2.2.2.1 :: am_TB
def am_Met (l : Launch) (d : Nat) (md : am_MD) (as : List Value) (n : am_N) (M : am_M) (res : am_Res) : Prop :=
  Met l md.2.1 (am_wsm md) (am_rm d (res.2.1.2.1 - n.2.1) (res.2.1.2.2.1 - n.2.2.1)) (am_Pc D ca bs sp XL xs as n M) (am_Qc D ca bs sp XL xs n res) (res.2.1.2.1 - n.2.1) (res.2.1.2.2.1 - n.2.2.1) (am_A0 bs)
end AMC
theorem am_S.same {D : va_G} {ca : Nat → ClassId} {bs : Nat} {sp : Nat → Nat} {XL : Nat} {xs : Nat → Int32} {u U : State} {H : Heap} (hvm : u.vm = U.vm) (h : am_S D ca bs sp XL xs u H) : am_S D ca bs sp XL xs U H := by
  have ha : u.vm.Alike U.vm := by rw [hvm]; exact Vm.Alike.refl _
  refine ⟨h.1.moved ha, h.2.1.moved ha, h.2.2.1.moved ha, h.2.2.2.1.moved ha, fun w hw => ?_, h.2.2.2.2.2.1.moved ha, h.2.2.2.2.2.2.moved ha⟩
  have hn := (List.mem_filter.mp hw).2
  have h1 := h.2.2.2.2.1 w hw
  cases w with
  | fieldLinkNest a i b n d h => exact h1.same rfl hvm
  | methodLinkNest a i x h => exact h1.same rfl hvm
  | declares x => exact h1.same rfl hvm
  | castable a b => exact h1.same rfl hvm
  | arrayOver ty =>
    cases ty with
    | object C => exact va_AO.moved ha h1
    | _ => cases hn
  | _ => cases hn
theorem am_S.warm {D : va_G} {ca : Nat → ClassId} {bs : Nat} {sp : Nat → Nat} {XL : Nat} {xs : Nat → Int32} {u U : State} {H : Heap} (hW : u.WarmedH U.vm) (h : am_S D ca bs sp XL xs u H) : am_S D ca bs sp XL xs U H := by
  have ha := hW.alike
  refine ⟨h.1.moved ha, h.2.1.moved ha, h.2.2.1.moved ha, h.2.2.2.1.moved ha, fun w hw => ?_, h.2.2.2.2.2.1.moved ha, h.2.2.2.2.2.2.moved ha⟩
  have hn := (List.mem_filter.mp hw).2
  have h1 := h.2.2.2.2.1 w hw
  cases w with
  | fieldLinkNest a i b n d h => exact va_Nw.warmF hW h1
  | methodLinkNest a i x h => exact va_Nw.warmM hW h1
  | declares x => exact va_Nw.warmD hW h1
  | castable a b => exact va_Nw.warmC hW h1
  | arrayOver ty =>
    cases ty with
    | object C => exact va_AO.moved ha h1
    | _ => cases hn
  | _ => cases hn
theorem am_lv_args {ad : Nat → Nat} : ∀ (as : List Value) (k : Nat), as.all am_c1 = true → ∀ q ∈ am_lv ad k as, q ∈ lv_args k (as.map (am_v ad))
  | [], _, _, q, hq => by cases hq
  | a :: as, k, h, q, hq => by
    simp only [List.all_cons, Bool.and_eq_true] at h
    have hc : (am_v ad a).category = 1 := am_c1_cat h.1
    have hj : a ≠ am_junk := fun e => by rw [e] at h; exact absurd h.1 (by decide)
    unfold am_lv at hq
    rw [if_neg hj] at hq
    show q ∈ (k, am_v ad a) :: lv_args (if (am_v ad a).category = 2 then k + 2 else k + 1) (as.map (am_v ad))
    rw [if_neg (by omega)]
    rcases List.mem_cons.mp hq with h1 | h1
    · rw [h1]; exact List.mem_cons_self
    · exact List.mem_cons_of_mem _ (am_lv_args as (k + 1) h.2 q h1)
theorem am_lv_junk {ad : Nat → Nat} : ∀ (as : List Value) (k r : Nat), am_lv ad k (as ++ List.replicate r am_junk) = am_lv ad k as
  | [], k, 0 => rfl
  | [], k, r + 1 => by
    show am_lv ad k (am_junk :: List.replicate r am_junk) = []
    unfold am_lv
    rw [if_pos rfl]
    exact am_lv_junk [] (k + 1) r
  | a :: as, k, r => by
    show am_lv ad k (a :: (as ++ List.replicate r am_junk)) = am_lv ad k (a :: as)
    unfold am_lv
    rw [am_lv_junk as (k + 1) r]
theorem am_sl_len {ad : Nat → Nat} : ∀ (as : List Value), as.all am_c1 = true → (lg_sl (as.map (am_v ad))).length = as.length
  | [], _ => rfl
  | a :: as, h => by
    simp only [List.all_cons, Bool.and_eq_true] at h
    have hc : (am_v ad a).category = 1 := am_c1_cat h.1
    have ih := am_sl_len (ad := ad) as h.2
    simp only [lg_sl, List.map_cons, List.flatMap_cons] at ih ⊢
    rw [if_neg (by omega), List.length_append, ih]
    simp only [List.length_cons, List.length_nil]
    omega
theorem am_entL {ad : Nat → Nat} {mL : Nat} {as : List Value} (h : as.all am_c1 = true) (hl : as.length ≤ mL) : am_L ad ((lg_sl (as.map (am_v ad)) ++ List.replicate (mL - (lg_sl (as.map (am_v ad))).length) Slot.unset).toArray) mL (am_ent mL as) := by
  have h1 := lv_entry (as.map (am_v ad)) (n := mL) (by rw [am_sl_len as h]; exact hl)
  refine ⟨⟨h1.1, h1.2.1, fun q hq => h1.2.2 q ?_⟩, ?_, fun v hv => ?_⟩
  · rw [am_ent, am_lv_junk] at hq
    exact am_lv_args as 0 h q hq
  · simp only [am_ent, List.length_append, List.length_replicate]; omega
  · rcases List.mem_append.mp hv with h2 | h2
    · have h3 := List.all_eq_true.mp h v h2
      cases v <;> first | rfl | cases h3
    · rw [List.eq_of_mem_replicate h2]; rfl
/-- the words of a call -/
def am_lkC (Ts : List Cond) (own : String) (md : Nat → am_MD) (q : am_X) : Prop :=
  let y := (md q.2.2.1).2.1
  let base := Cond.code y (md q.2.2.1).2.2.1 (md q.2.2.1).2.2.2.1 (md q.2.2.1).2.2.2.2.1 ∈ Ts ∧ Cond.initialized y.cls ∈ Ts ∧ (y.cls ≠ "java/lang/invoke/MethodHandle" ∧ y.cls ≠ "java/lang/invoke/VarHandle") ∧ (md q.2.2.1).2.2.2.1 ≤ 29
  match q.1 with
  | .invokevirtual i => base ∧ Cond.instanceMethod y ∈ Ts ∧ Cond.selects y.cls y y ∈ Ts ∧ (parseMethodDescriptor y.desc).map (fun d => d.parameters.length + 1) = some (q.2.2.2.1 % 100) ∧ (∃ T N, am_cl[q.2.2.2.1 / 100]? = some (y.cls, T, N)) ∧ (Cond.methodLink own i y ∈ Ts ∨ ∃ host, Cond.methodLinkNest own i y host ∈ am_NB)
  | .invokestatic i => base ∧ Cond.static y ∈ Ts ∧ (parseMethodDescriptor y.desc).map (fun d => d.parameters.length) = some q.2.2.2.1 ∧ (Cond.methodLink own i y ∈ Ts ∨ ∃ host, Cond.methodLinkNest own i y host ∈ am_NB)
  | .invokespecial i => base ∧ Cond.instanceMethod y ∈ Ts ∧ (md q.2.2.1).2.2.2.2.1 = none ∧ y.name = "<init>" ∧ (parseMethodDescriptor y.desc).map (fun d => d.parameters.length + 1) = some q.2.2.2.1 ∧ (Cond.methodLink own i y ∈ Ts ∨ ∃ host, Cond.methodLinkNest own i y host ∈ am_NB)
  | _ => True
theorem am_args_inv {k : Nat} {st as r : List Value} (h : am_args k st = some (as, r)) : st = as.reverse ++ r ∧ as.length = k ∧ r.length ≤ 8 ∧ as.all am_c1 = true ∧ r.all am_c1 = true := by
  unfold am_args at h
  split at h
  · rename_i hc
    cases h
    obtain ⟨h1, h2, h3⟩ := hc
    have h4 : (st.take k ++ st.drop k).all am_c1 = true := by rw [List.take_append_drop]; exact h3
    rw [List.all_append, Bool.and_eq_true] at h4
    refine ⟨by rw [List.reverse_reverse, List.take_append_drop], by rw [List.length_reverse, List.length_take]; omega, h2, ?_, h4.2⟩
    rw [List.all_reverse]; exact h4.1
  · cases h
theorem am_cats {ad : Nat → Nat} : ∀ {r : List Value}, r.all am_c1 = true → ((r.map (am_v ad)).map fun v => v.category).sum = r.length
  | [], _ => rfl
  | a :: r, h => by
    simp only [List.all_cons, Bool.and_eq_true] at h
    simp only [List.map_cons, List.sum_cons, List.length_cons, am_c1_cat h.1, am_cats h.2]
    omega
section AMR
variable {p : Program} {l : Launch} {e : Env} {R : Room} {s : State} {m : MethodId} {args : Array Value} {below : List Frame} {meth : Method} {c : Code} {H : Heap} {locs : List Loc} {cells slots : Nat} {Q : State → Prop}
variable {cc : ByteArray} {D : va_G} {ca : Nat → ClassId} {bs : Nat} {sp : Nat → Nat} {XL : Nat} {xs : Nat → Int32} {nL pc : Nat} {L : List Value} {n : am_N} {M : am_M} {ls : Array Slot}
theorem am_blind {as : List Value} : FrameBlind (am_Pc D ca bs sp XL xs as n M) := fun a U g mk q => ⟨q.1, q.2.1, q.2.2.1, (am_S.same (u := U) (U := U.calling g mk a) (H := U.heap) rfl q.2.2.2.1 : am_S D ca bs sp XL xs (U.calling g mk a) U.heap), q.2.2.2.2⟩
/-- behind a call -/
theorem am_back {mc ms : Nat} {rest : List Value} {st0 : List Value} {a : Array Value} {res : am_Res} (hr : va_Run p l e R s m args below meth c H locs cells slots mc ms (F0 m pc ls st0) (rest.map (am_v (am_ad bs sp))) (am_Qc D ca bs sp XL xs n res a) (am_A0 bs)) (hR : am_Rel D ca bs sp XL xs s nL L n M ls H locs cells) (hmc : mc = res.2.1.2.1 - n.2.1) (hmo : am_mono n res.2.1 = true)
    (kk : ∀ H' locs', am_Rel D ca bs sp XL xs s nL L res.2.1 res.2.2 ls H' locs' (cells + mc) → W p l e R s m args below meth c H' locs' (cells + mc) (slots + ms) Q (F0 m (pc + 3) ls ((res.1.toList ++ rest).map (am_v (am_ad bs sp))))) : W p l e R s m args below meth c H locs cells slots Q (F0 m pc ls st0) := by
  intro T hT X
  obtain ⟨v, st₀, t, T', L', h0, X', hL, e1, e2, ⟨hv, hW, ⟨hz, hk⟩, hal⟩, st⟩ := hr T hT X
  rw [h0] at hz hk hal
  have hv : v = res.1.map (am_v (am_ad bs sp)) := by injection hv
  subst hv
  have hS : va_S (am_A0 bs) s.heap T'.heap (locs ++ L') := ⟨Nat.le_trans hR.2.2.1.1 (by rw [e1]; exact hz), fun q h1 h2 => by rw [e1, hk q (Nat.lt_of_lt_of_le h1 hR.2.2.1.1) h2]; exact hR.2.2.1.2.1 q h1 h2, fun q hq => by
      rcases List.mem_append.mp hq with h | h
      · exact hR.2.2.1.2.2 q h
      · exact hL q h⟩
  have hrel : am_Rel D ca bs sp XL xs s nL L res.2.1 res.2.2 ls T'.heap (locs ++ L') (cells + mc) := ⟨hR.1, by rw [e1]; exact hW, hS, hR.2.2.2.1, hR.2.2.2.2.1, fun q => by
    rw [e1, hal q, hR.2.2.2.2.2 ((am_mono_iff.mp hmo).2.2 q), hmc]; omega⟩
  obtain ⟨t2, a1, b1⟩ := kk T'.heap (locs ++ L') hrel T' rfl X'
  refine ⟨t2, st t2 ?_, b1⟩
  have he : (res.1.map (am_v (am_ad bs sp))).toList ++ rest.map (am_v (am_ad bs sp)) = (res.1.toList ++ rest).map (am_v (am_ad bs sp)) := by
    rw [List.map_append]
    cases res.1 <;> rfl
  show Steps p.tables e below (T'.setTop (F0 m (pc + 3) ls ((res.1.map (am_v (am_ad bs sp))).toList ++ rest.map (am_v (am_ad bs sp))))) t2
  rw [he]
  exact a1
theorem am_desc {y : MethodName} {k : Nat} (h : (parseMethodDescriptor y.desc).map (fun d => d.parameters.length + 1) = some k) : ∃ j, k = j + 1 ∧ (parseMethodDescriptor y.desc).map (fun d => d.parameters.length) = some j := by
  cases hd : parseMethodDescriptor y.desc with
  | none => rw [hd] at h; cases h
  | some d => rw [hd] at h; cases h; exact ⟨d.parameters.length, rfl, rfl⟩
/-- a call, by the callee's contract -/
theorem am_call {md : Nat → am_MD} {q : am_X} {j d mc ms : Nat} {st as rest : List Value} {res : am_Res} (hx : p.tables.exec = Jvm.exec) (hb : c.code = cc) (hml : c.maxLocals = nL) {Ts : List Cond} (hts : ∀ w ∈ Ts, w.before args s = true) (hTB : ∀ w ∈ am_TB, w ∈ Ts) (hgood : ∀ w ∈ am_TB, (w.onTables && w.keeps) = true ∨ ∃ ty, w = .arrayClass ty)
    {own : String} (hown : s.vm.findClass own = some m.cls) (hlen : q.2.1 = 3) (hdec : decode cc pc = .ok (q.1, q.2.1)) (hlk : am_lkC am_TB own md q) (ha : am_actC q st M = some (j, as, rest)) (hR : am_Rel D ca bs sp XL xs s nL L n M ls H locs cells)
    (hM : am_Met D ca bs sp XL xs l d (md j) as n M res) (hmc : mc = res.2.1.2.1 - n.2.1) (hms : ms = res.2.1.2.2.1 - n.2.2.1) (hRf : d + 9 ≤ R.frames) (hRl : 48 * d + 168 ≤ R.locals) (hf : cells + mc ≤ R.cells ∧ slots + ms ≤ R.slots) :
    ∃ a, va_Run p l e R s m args below meth c H locs cells slots mc ms (F0 m pc ls (st.map (am_v (am_ad bs sp)))) (rest.map (am_v (am_ad bs sp))) (am_Qc D ca bs sp XL xs n res a) (am_A0 bs) := by
  obtain ⟨i, len, x, y, z⟩ := q
  obtain rfl : len = 3 := hlen
  subst hmc; subst hms
  have hS : CallFix p m c cc nL s args Ts own := ⟨hx, hb, hml, hown, hts⟩
  have hpre : ∀ U : State, U.heap = H → s.WarmedH U.vm → as.all am_c1 = true → am_Pc D ca bs sp XL xs as n M (as.map (am_v (am_ad bs sp))).toArray U := by
    intro U hU hW hc1
    have hk : ∀ a : Nat, a < s.heap.size → ¬ am_A0 bs a → H[a]? = s.heap[a]? := hR.2.2.1.2.1
    refine ⟨rfl, hc1, by rw [hU]; exact hR.2.1, am_S.warm hW ?_, by rw [hU]; exact Nat.le_trans hR.2.2.2.2.1 hR.2.2.1.1⟩
    rw [hU]
    exact ⟨hR.2.2.2.1.1, hR.2.2.2.1.2.1.kept hk, hR.2.2.2.1.2.2.1.kept hk, hR.2.2.2.1.2.2.2.1.kept hk, hR.2.2.2.1.2.2.2.2.1, hR.2.2.2.1.2.2.2.2.2.1.kept hk, hR.2.2.2.1.2.2.2.2.2.2.kept hk⟩
  have hrs : ∀ {ws : List Value}, ws.length ≤ 8 → ws.all am_c1 = true → 2 * (F0 m pc ls (st.map (am_v (am_ad bs sp)))).monitorRoom + ((ws.map (am_v (am_ad bs sp))).map fun v => v.category).sum ≤ 8 := by
    intro ws h1 h2
    rw [am_cats h2]
    show 2 * 0 + ws.length ≤ 8
    omega
  have hGI : Cond.code (md x).2.1 (md x).2.2.1 (md x).2.2.2.1 (md x).2.2.2.2.1 ∈ am_TB → GoodIn Ts (am_wsm (md x)) := by
    intro hcw w hw
    rcases List.mem_cons.mp hw with rfl | hw
    · exact ⟨hTB _ hcw, hgood _ hcw⟩
    · exact ⟨hTB _ hw, hgood _ hw⟩
  have hrm : (md x).2.2.2.1 ≤ 29 → (am_rm d (res.2.1.2.1 - n.2.1) (res.2.1.2.2.1 - n.2.2.1)).frames + 1 ≤ R.frames ∧ 8 + ((md x).2.2.2.1 + 11) + (am_rm d (res.2.1.2.1 - n.2.1) (res.2.1.2.2.1 - n.2.2.1)).locals ≤ R.locals := by
    intro h29
    refine ⟨hRf, ?_⟩
    show 8 + ((md x).2.2.2.1 + 11) + (48 * d + 120) ≤ R.locals
    omega
  cases i with
  | invokevirtual i =>
    obtain ⟨⟨hcw, hini, hy, h29⟩, hinst, hsel, hdesc, ⟨T0, N0, hcl⟩, hl⟩ := hlk
    obtain ⟨k, hk, hdesc⟩ := am_desc hdesc
    have hk : y % 100 = k + 1 := hk
    have h29 : (md x).2.2.2.1 ≤ 29 := h29
    replace ha : ((am_args (y % 100) st).bind (fun r => if am_isO M r.1 (y / 100) = true then some (x, r.1, r.2) else none) : Option (Nat × List Value × List Value)) = some (j, as, rest) := ha
    cases hag : am_args (y % 100) st with
    | none => rw [hag] at ha; cases ha
    | some r =>
      obtain ⟨as', rest'⟩ := r
      rw [hag] at ha
      replace ha : (if am_isO M as' (y / 100) = true then some (x, as', rest') else none : Option (Nat × List Value × List Value)) = some (j, as, rest) := ha
      split at ha
      · rename_i hO
        cases ha
        obtain ⟨rfl, hlen, hr8, hc1, hc2⟩ := am_args_inv hag
        rcases as with _ | ⟨a0, as⟩
        · cases hO
        · cases a0 with
          | ref h =>
            have hO2 : ∃ fs, M h = some (am_O (y / 100) fs) := by
              unfold am_isO at hO
              simp only at hO
              split at hO
              · rename_i c0 fs hM0
                obtain rfl : c0 = y / 100 := eq_of_beq hO
                exact ⟨fs, hM0⟩
              · cases hO
            obtain ⟨fs, hMh⟩ := hO2
            obtain ⟨hw1, hw2, -⟩ := hR.2.1.at hMh (fun t f N q => by cases q)
            have hrecv := va_recv hR.2.2.2.1.1 hR.2.1.1 hcl hw1
            have hlen2 : (as.map (am_v (am_ad bs sp))).length = k := by rw [List.length_map]; simp only [List.length_cons] at hlen; omega
            have hp : PreV s H (md j).2.1.cls (am_ad bs sp h) (am_Pc D ca bs sp XL xs (.ref h :: as) n M) (as.map (am_v (am_ad bs sp))) := ⟨am_blind, hrecv, fun U hU hW => hpre U hU hW hc1⟩
            have hst : (((Value.ref h :: as).reverse ++ rest).map (am_v (am_ad bs sp))) = (as.map (am_v (am_ad bs sp))).reverse ++ .ref (am_ad bs sp h) :: rest.map (am_v (am_ad bs sp)) := by
              simp only [List.reverse_cons, List.append_assoc, List.map_append, List.map_reverse, List.map_cons, List.map_nil, List.singleton_append]
              rfl
            rcases hl with hl | ⟨host, hl⟩
            · have cb : CallB R s args own i (md j).2.1 (md j).2.2.1 (md j).2.2.2.1 (md j).2.2.2.2.1 (am_wsm (md j)) _ _ _ k := callB_of k hts (hGI hcw) rfl rfl rfl (hts _ (hTB _ hini)) (hts _ (hTB _ hl)) ⟨hy.1, hy.2, hdesc⟩ (hrm h29)
              exact ⟨_, va_runV hS hM ⟨cb, hts _ (hTB _ hinst), hts _ (hTB _ hsel)⟩ hp rfl hlen2 hR.1.1.1 hst (hrs hr8 hc2) hdec hf⟩
            · have cb : va_CN R s args own i (md j).2.1 host (md j).2.2.1 (md j).2.2.2.1 (md j).2.2.2.2.1 (am_wsm (md j)) _ _ _ k := va_cnB k hts (hGI hcw) rfl rfl rfl (hR.2.2.2.1.2.2.2.2.1 _ hl) (hts _ (hTB _ hini)) ⟨hy.1, hy.2, hdesc⟩ (hrm h29)
              exact ⟨_, va_runVN hS hM ⟨cb, hts _ (hTB _ hinst), hts _ (hTB _ hsel)⟩ hp rfl hlen2 hR.1.1.1 hst (hrs hr8 hc2) hdec hf⟩
          | _ => cases hO
      · cases ha
  | invokestatic i =>
    obtain ⟨⟨hcw, hini, hy, h29⟩, hstt, hdesc, hl⟩ := hlk
    replace ha : ((am_args y st).map (fun r => (x, r.1, r.2)) : Option (Nat × List Value × List Value)) = some (j, as, rest) := ha
    cases hag : am_args y st with
    | none => rw [hag] at ha; cases ha
    | some r =>
      obtain ⟨as', rest'⟩ := r
      rw [hag] at ha
      cases ha
      obtain ⟨rfl, hlen, hr8, hc1, hc2⟩ := am_args_inv hag
      have hlen2 : (as'.map (am_v (am_ad bs sp))).length = y := by rw [List.length_map]; exact hlen
      have hp : PreS s H (am_Pc D ca bs sp XL xs as' n M) (as'.map (am_v (am_ad bs sp))) := ⟨am_blind, fun U hU hW => hpre U hU hW hc1⟩
      have hst : ((as'.reverse ++ rest').map (am_v (am_ad bs sp))) = (as'.map (am_v (am_ad bs sp))).reverse ++ rest'.map (am_v (am_ad bs sp)) := by
        rw [List.map_append, List.map_reverse]
      rcases hl with hl | ⟨host, hl⟩
      · have cb : CallB R s args own i (md j).2.1 (md j).2.2.1 (md j).2.2.2.1 (md j).2.2.2.2.1 (am_wsm (md j)) _ _ _ y := callB_of y hts (hGI hcw) rfl rfl rfl (hts _ (hTB _ hini)) (hts _ (hTB _ hl)) ⟨hy.1, hy.2, hdesc⟩ (hrm h29)
        exact ⟨_, va_runS hS hM ⟨cb, hts _ (hTB _ hstt)⟩ hp rfl hlen2 hR.1.1.1 hst (hrs hr8 hc2) hdec hf⟩
      · have cb : va_CN R s args own i (md j).2.1 host (md j).2.2.1 (md j).2.2.2.1 (md j).2.2.2.2.1 (am_wsm (md j)) _ _ _ y := va_cnB y hts (hGI hcw) rfl rfl rfl (hR.2.2.2.1.2.2.2.2.1 _ hl) (hts _ (hTB _ hini)) ⟨hy.1, hy.2, hdesc⟩ (hrm h29)
        exact ⟨_, va_runSN hS hM ⟨cb, hts _ (hTB _ hstt), trivial⟩ hp rfl hlen2 hR.1.1.1 hst (hrs hr8 hc2) hdec hf⟩
  | invokespecial i =>
    obtain ⟨⟨hcw, hini, hy, h29⟩, hinst, hret, hyn, hdesc, hl⟩ := hlk
    obtain ⟨k, hk, hdesc⟩ := am_desc hdesc
    have hk : y = k + 1 := hk
    replace ha : ((am_args y st).bind (fun r => if am_isR r.1 = true then some (x, r.1, r.2) else none) : Option (Nat × List Value × List Value)) = some (j, as, rest) := ha
    cases hag : am_args y st with
    | none => rw [hag] at ha; cases ha
    | some r =>
      obtain ⟨as', rest'⟩ := r
      rw [hag] at ha
      replace ha : (if am_isR as' = true then some (x, as', rest') else none : Option (Nat × List Value × List Value)) = some (j, as, rest) := ha
      split at ha
      · rename_i hO
        cases ha
        obtain ⟨rfl, hlen, hr8, hc1, hc2⟩ := am_args_inv hag
        rcases as with _ | ⟨a0, as⟩
        · cases hO
        · cases a0 with
          | ref h =>
            have hlen2 : (as.map (am_v (am_ad bs sp))).length = k := by rw [List.length_map]; simp only [List.length_cons] at hlen; omega
            have hp : PreS s H (am_Pc D ca bs sp XL xs (.ref h :: as) n M) (.ref (am_ad bs sp h) :: as.map (am_v (am_ad bs sp))) := ⟨am_blind, fun U hU hW => hpre U hU hW hc1⟩
            have hst : (((Value.ref h :: as).reverse ++ rest).map (am_v (am_ad bs sp))) = (as.map (am_v (am_ad bs sp))).reverse ++ .ref (am_ad bs sp h) :: rest.map (am_v (am_ad bs sp)) := by
              simp only [List.reverse_cons, List.append_assoc, List.map_append, List.map_reverse, List.map_cons, List.map_nil, List.singleton_append]
              rfl
            have hwm : am_wsm (md j) = Cond.code (md j).2.1 (md j).2.2.1 (md j).2.2.2.1 none :: am_TB := by unfold am_wsm; rw [hret]
            rcases hl with hl | ⟨host, hl⟩
            · have cb : CallB R s args own i (md j).2.1 (md j).2.2.1 (md j).2.2.2.1 none (am_wsm (md j)) _ _ _ k := callB_of k hts (hGI hcw) hwm rfl rfl (hts _ (hTB _ hini)) (hts _ (hTB _ hl)) ⟨hy.1, hy.2, hdesc⟩ (hrm h29)
              exact ⟨_, va_runI hS hM ⟨cb, hyn, hts _ (hTB _ hinst)⟩ hp rfl hlen2 hR.1.1.1 hst (hrs hr8 hc2) hdec hf⟩
            · have cb : va_CN R s args own i (md j).2.1 host (md j).2.2.1 (md j).2.2.2.1 none (am_wsm (md j)) _ _ _ k := va_cnB k hts (hGI hcw) hwm rfl rfl (hR.2.2.2.1.2.2.2.2.1 _ hl) (hts _ (hTB _ hini)) ⟨hy.1, hy.2, hdesc⟩ (hrm h29)
              exact ⟨_, va_runIN hS hM ⟨cb, hyn, hts _ (hTB _ hinst)⟩ hp rfl hlen2 hR.1.1.1 hst (hrs hr8 hc2) hdec hf⟩
          | _ => cases hO
      · cases ha
  | _ => exact (Option.some_ne_none _ (show (none : Option (Nat × List Value × List Value)) = some (j, as, rest) from ha).symm).elim
end AMR
