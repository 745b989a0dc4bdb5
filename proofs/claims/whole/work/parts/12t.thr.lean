/-! a method that throws -/
def am_thN : List String := ["java/lang/RuntimeException", "java/lang/Exception"]
def am_thH0 : List Nat := [87, 745, 754, 757, 760, 762, 746, 747, 100, 101, 748, 753, 758, 774, 735, 775, 737, 776, 739, 749, 750, 751, 752, 741, 764, 765, 766, 767, 726, 767, 768, 769, 770, 728, 770, 771, 772, 746, 730, 763, 724, 725, 732, 733, 734, 736, 738, 740, 0, 0, 744, 743, 742]
def am_thH1 : List Nat := [87, 745, 754, 757, 760, 762, 746, 747, 100, 101, 748, 753, 758, 774, 735, 775, 737, 776, 739, 749, 750, 751, 752, 741, 807, 808, 809, 767, 726, 767, 768, 769, 770, 728, 770, 771, 772, 746, 730, 806, 798, 799, 800, 756, 801, 802, 803, 804, 0, 0, 744, 743, 805]
def am_ckO (w : Cond) (i : Nat) : Bool := match w with
  | .isRef (.static C n d) => (C == "java/lang/Throwable" && n == "UNASSIGNED_STACK" && d == "[Ljava/lang/StackTraceElement;") || (C == "java/lang/Throwable" && n == "SUPPRESSED_SENTINEL" && d == "Ljava/util/List;")
  | .laysStatic C n d => (C == "java/lang/Throwable" && n == "UNASSIGNED_STACK" && d == "[Ljava/lang/StackTraceElement;") || (C == "java/lang/Throwable" && n == "SUPPRESSED_SENTINEL" && d == "Ljava/util/List;")
  | .arrayClass _ => false
  | .arrayOver _ => false
  | w => am_has i w || am_hasN i w
def am_thC (y : Nat) : String := if y = 0 then "java/lang/IllegalStateException" else "java/lang/IllegalArgumentException"
def am_thI (y : Nat) : Nat := if y = 0 then 90 else 96
def am_thL (y : Nat) : Nat := if y = 0 then 88 else 94
def am_thH (y : Nat) : List Nat := if y = 0 then am_thH0 else am_thH1
set_option maxRecDepth 100000 in
theorem am_th0 : (((Bundle.ownAtoms0 "ProofLine" (am_thI 0) (am_thC 0) am_thN).zip (am_thH 0)).all (fun q => am_ckO q.1 q.2) && decide ((Bundle.ownAtoms0 "ProofLine" (am_thI 0) (am_thC 0) am_thN).length = (am_thH 0).length)) = true := by decide +kernel
set_option maxRecDepth 100000 in
theorem am_th1 : (((Bundle.ownAtoms0 "ProofLine" (am_thI 1) (am_thC 1) am_thN).zip (am_thH 1)).all (fun q => am_ckO q.1 q.2) && decide ((Bundle.ownAtoms0 "ProofLine" (am_thI 1) (am_thC 1) am_thN).length = (am_thH 1).length)) = true := by decide +kernel
theorem am_zref {C n d : String} {A : Nat → Prop} {U : State} {args : Array Value} (h : va_Zq C n d A U U.heap) : (Cond.isRef (.static C n d)).before args U = true := by
  rcases h with h | ⟨t, h⟩
  · obtain ⟨cf, kf, fi, f, a, cell, h1, h2, h3, h4, h5, h6, h7, h8⟩ := h
    have hv := Term.static_eval (args := args) (first := U) (o := none) (idx := []) h1 h2 h4 h5 h6 h7
    simp [Cond.before, Cond.holds, Cond.value, hv, Value.isRef]
  · obtain ⟨cf, kf, fi, f, a, cell, h1, h2, h3, h4, h5, h6, h7, h8⟩ := h
    have hv := Term.static_eval (args := args) (first := U) (o := none) (idx := []) h1 h2 h4 h5 h6 h7
    simp [Cond.before, Cond.holds, Cond.value, hv, Value.isRef]
theorem am_ownOK {y : Nat} (hy : y = 0 ∨ y = 1) {args : Array Value} {s s' : State} {A : Nat → Prop} (hts : ∀ w ∈ am_TB, w.before args s = true) (hNB : ∀ w ∈ am_NB, va_Nw w s) (hvm : s.vm = s'.vm)
    (hz1 : am_ZL "java/lang/Throwable" "UNASSIGNED_STACK" "[Ljava/lang/StackTraceElement;" A s' s'.heap) (hz2 : am_ZL "java/lang/Throwable" "SUPPRESSED_SENTINEL" "Ljava/util/List;" A s' s'.heap) : ∀ a ∈ Bundle.ownAtoms0 "ProofLine" (am_thI y) (am_thC y) am_thN, a.before args s' = true := by
  intro w hw
  have hck : (((Bundle.ownAtoms0 "ProofLine" (am_thI y) (am_thC y) am_thN).zip (am_thH y)).all (fun q => am_ckO q.1 q.2) && decide ((Bundle.ownAtoms0 "ProofLine" (am_thI y) (am_thC y) am_thN).length = (am_thH y).length)) = true := by
    rcases hy with rfl | rfl
    · exact am_th0
    · exact am_th1
  obtain ⟨h2, h3⟩ := (Bool.and_eq_true _ _).mp hck
  have h3 := of_decide_eq_true h3
  obtain ⟨i, hi⟩ := List.getElem?_of_mem hw
  have hil := (List.getElem?_eq_some_iff.mp hi).1
  have hz : ((Bundle.ownAtoms0 "ProofLine" (am_thI y) (am_thC y) am_thN).zip (am_thH y))[i]? = some (w, (am_thH y)[i]'(by omega)) := by
    rw [List.getElem?_zip_eq_some]
    exact ⟨hi, List.getElem?_eq_getElem _⟩
  have h4 := List.all_eq_true.mp h2 _ (List.mem_of_getElem? hz)
  generalize (am_thH y)[i]'(by omega) = k at h4
  have gen : (am_has k w || am_hasN k w) = true → (∀ ty, w ≠ .arrayClass ty) → (∀ ty, w ≠ .arrayOver ty) → w.before args s' = true := by
    intro h5 hno hno2
    rcases (Bool.or_eq_true _ _).mp h5 with h6 | h6
    · have hm := am_has_mem h6
      rcases am_goodTB w hm with h7 | ⟨ty, h7⟩
      · exact va_tabs ((Bool.and_eq_true _ _).mp h7).1 hvm (hts w hm)
      · exact absurd h7 (hno ty)
    · have hm := am_hasN_mem h6
      have hn := (List.mem_filter.mp hm).2
      have h1 := hNB w hm
      cases w with
      | fieldLinkNest a i b n d h => exact va_tabs rfl hvm h1
      | methodLinkNest a i x h => exact va_tabs rfl hvm h1
      | declares x => exact va_tabs rfl hvm h1
      | castable a b => exact va_tabs rfl hvm h1
      | arrayOver ty => exact absurd rfl (hno2 ty)
      | _ => cases hn
  unfold am_ckO at h4
  split at h4
  · rename_i C n d hq
    have hq : w = .isRef (.static C n d) := hq
    subst hq
    rcases (Bool.or_eq_true _ _).mp h4 with h5 | h5
    · simp only [Bool.and_eq_true, beq_iff_eq] at h5
      obtain ⟨⟨rfl, rfl⟩, rfl⟩ := h5
      exact am_zref hz1.1
    · simp only [Bool.and_eq_true, beq_iff_eq] at h5
      obtain ⟨⟨rfl, rfl⟩, rfl⟩ := h5
      exact am_zref hz2.1
  · rename_i C n d hq
    have hq : w = .laysStatic C n d := hq
    subst hq
    rcases (Bool.or_eq_true _ _).mp h4 with h5 | h5
    · simp only [Bool.and_eq_true, beq_iff_eq] at h5
      obtain ⟨⟨rfl, rfl⟩, rfl⟩ := h5
      exact hz1.2.back
    · simp only [Bool.and_eq_true, beq_iff_eq] at h5
      obtain ⟨⟨rfl, rfl⟩, rfl⟩ := h5
      exact hz2.2.back
  · cases h4
  · cases h4
  · rename_i w0 n1 n0 n2 n3
    exact gen h4 (fun ty q => n2 ty q) (fun ty q => n3 ty q)
section AMT
variable {p : Program} {l : Launch} {e : Env} {R : Room} {s : State} {m : MethodId} {args : Array Value} {below : List Frame} {meth : Method} {c : Code} {T : State} {locs : List Loc} {cells slots : Nat}
/-- the same invocation, as if it began with the heap that stands now -/
def am_now (s T : State) : State := { s with heap := T.heap, slotsUsed := T.slotsUsed }
theorem am_rebase (X : Stand p l e R s m args below meth c T locs cells slots) {R' : Room} (hf : R'.frames ≤ R.frames) (hl : R'.locals ≤ R.locals) (hc : cells + R'.cells ≤ R.cells) (hs : slots + R'.slots ≤ R.slots) :
    Stand p l e R' (am_now s T) m args below meth c T [] 0 0 := by
  have h1 := X.heapSize
  have h2 := X.used
  have hb := X.book
  refine ⟨X.admits, X.cas, X.clock, X.frames, ?_, X.hears, X.method, X.code, X.here, X.tail, X.warmed, X.limits, X.bytes, ?_⟩
  · have h := X.room
    simp only [State.hasRoom, Bool.and_eq_true, decide_eq_true_eq] at h ⊢
    obtain ⟨⟨⟨⟨r1, r2, r3, r4, r5, r6⟩, r7⟩, r8⟩, r9⟩ := h
    have e1 : (am_now s T).localsInUse = s.localsInUse := rfl
    have e2 : (am_now s T).frames = s.frames := rfl
    have e3 : (am_now s T).me = s.me := rfl
    rw [e1, e2, e3]
    have e4 : (am_now s T).heap.size = T.heap.size := rfl
    have e5 : (am_now s T).slotsUsed = T.slotsUsed := rfl
    rw [e4, e5]
    exact ⟨⟨⟨⟨by omega, by omega, by omega, by omega, by omega, r6⟩, by omega⟩, by omega⟩, hb⟩
  · have h := X.same
    refine ⟨h.1, Nat.le_refl _, Nat.le_refl _, ?_, ?_, fun a cl hcl => ⟨cl, hcl, rfl, rfl, fun _ _ => rfl⟩⟩
    · show T.slotsUsed = T.slotsUsed + ((T.heap.toList.drop T.heap.size).map (·.slots.size)).sum
      rw [List.drop_eq_nil_of_le (by rw [Array.length_toList]; exact Nat.le_refl _)]
      rfl
    · show ((T.heap.toList.drop T.heap.size).map (·.slots.size)).sum ≤ 0
      rw [List.drop_eq_nil_of_le (by rw [Array.length_toList]; exact Nat.le_refl _)]
      exact Nat.le_refl _
theorem am_cell_eq {c c' : Cell} (h1 : c' = { c with slots := c'.slots }) (h2 : c'.slots.size = c.slots.size) (h3 : ∀ i : Nat, c'.slots[i]? = c.slots[i]?) : c' = c := by
  have h4 : c'.slots = c.slots := Array.ext_getElem? h3
  rw [h1, h4]
theorem am_kept {s U : State} {k n : Nat} (h : s.sameButNew U [] k n) : ∀ q : Nat, q < s.heap.size → U.heap[q]? = s.heap[q]? := by
  intro q hq
  obtain ⟨c, hc⟩ : ∃ c, s.heap[q]? = some c := ⟨_, Array.getElem?_eq_getElem hq⟩
  obtain ⟨c', h1, h2, h3, h4⟩ := h.2.2.2.2.2 q c hc
  rw [h1, hc, am_cell_eq h2 h3 (fun i => h4 i List.not_mem_nil)]
variable {Q : State → Prop} {D : va_G} {ca : Nat → ClassId} {bs : Nat} {sp : Nat → Nat} {XL : Nat} {xs : Nat → Int32}
theorem am_throw0 {cc : ByteArray} {nL pc y : Nat} {st : List Value} {ls : Array Slot} {H : Heap} (htr : e.platform.stackTraces = false) (hx : p.tables.exec = Jvm.exec) (hb : c.code = cc) (hml : c.maxLocals = nL) (hexc : c.exceptionTable.isEmpty = true) (hlocks : meth.locks = false) (hown : s.vm.findClass "ProofLine" = some m.cls)
    (hat : ∀ a ∈ Bundle.ownAtoms0 "ProofLine" (am_thI y) (am_thC y) am_thN, a.before args s = true) (hfit : Bundle.fit (am_thC y) = true) (hd0 : decode cc pc = .ok (.new (am_thL y), 3)) (hd3 : decode cc (pc + 3) = .ok (.dup, 1)) (hd4 : decode cc (pc + 4) = .ok (.invokespecial (am_thI y), 3)) (hd7 : decode cc (pc + 7) = .ok (.athrow, 1))
    (hcl : (Cond.classLink "ProofLine" (am_thL y) (am_thC y)).before args s = true) (hinst : (Cond.instantiable (am_thC y) 6).before args s = true) (hini : (Cond.initialized (am_thC y)).before args s = true) (h4 : st.length ≤ 4) (hsum : (st.map fun v => v.category).sum ≤ 4) (hsz : ls.size = nL) (hRf : 8 ≤ R.frames) (hRl : 168 ≤ R.locals) (hRc : 1 ≤ R.cells) (hRs : 6 ≤ R.slots) (hH : s.heap = H) :
    W p l e R s m args below meth c H [] 0 0 (fun U => U.status = .running ∧ Ended U below (.threw H.size) ∧ s.WarmedH U.vm ∧ s.sameButNew ({ U with vm := s.vm } : State) [] 1 6 ∧ ∃ ce, U.heap[H.size]? = some ce ∧ Bundle.OwnCell args s (am_thC y) H.size .null ce) (F0 m pc ls st) := by
  refine W.newc (own := "ProofLine") (C := am_thC y) (n := 6) hx hb hown hcl hinst hini rfl hd0 hRc hRs fun cC kC hf hkc hord hsz6 => ?_
  refine W.eq (g2 := F0 m (pc + 3) ls (.ref H.size :: st)) rfl ?_
  refine lv_dup hx hb hd3 rfl ?_
  intro T2 hT2 X2
  have hlen : am_thN.length = 2 := rfl
  obtain ⟨U, st1, hrun, hend, hW, hsame, ce, hce, hoc⟩ := X2.ctorThrow0 (own := "ProofLine") (cls := am_thC y) (names := am_thN) (ic := am_thI y) hx htr hown hfit (by decide +kernel) hat (fun x hx => by cases hx) hf hkc (a := H.size) (by rw [hT2, Array.getElem?_push_size]) (by rw [hH]; exact Nat.le_refl _)
    (g := F0 m (pc + 4) ls (.ref H.size :: .ref H.size :: st)) rfl (by rw [hml]; exact hsz) rfl rfl rfl (by rw [hb]; exact hd4) (by rw [hb]; exact hd7)
    (fun x hx => by rw [Array.isEmpty_iff] at hexc; rw [hexc] at hx; cases hx) (by rw [hlen]; omega)
    (by
      rw [hlen, List.map_cons, List.sum_cons]
      show 2 * 0 + (1 + (st.map fun v => v.category).sum) + (13 * (2 + 1) + 41) ≤ R.locals
      omega) hlocks
  have hsame : s.sameButNew ({ U with vm := s.vm } : State) [] 1 6 := hsame
  exact ⟨U, st1, hrun, hend, hW, hsame, ce, hce, hoc⟩
set_option maxHeartbeats 4000000 in
theorem am_throwW {cc : ByteArray} {nL pc y : Nat} {L st : List Value} {n : am_N} {M : am_M} {ls : Array Slot} {H : Heap} (hl : l.stackTraces = false) (hx : p.tables.exec = Jvm.exec) (hb : c.code = cc) (hml : c.maxLocals = nL) (hexc : c.exceptionTable.isEmpty = true) (hlocks : meth.locks = false) (hown : s.vm.findClass "ProofLine" = some m.cls)
    (hts : ∀ w ∈ am_TB, w.before args s = true) (hy : y = 0 ∨ y = 1) (hd0 : decode cc pc = .ok (.new (am_thL y), 3)) (hd3 : decode cc (pc + 3) = .ok (.dup, 1)) (hd4 : decode cc (pc + 4) = .ok (.invokespecial (am_thI y), 3)) (hd7 : decode cc (pc + 7) = .ok (.athrow, 1))
    (hcl : Cond.classLink "ProofLine" (am_thL y) (am_thC y) ∈ am_TB) (hinst : Cond.instantiable (am_thC y) 6 ∈ am_TB) (hini : Cond.initialized (am_thC y) ∈ am_TB) (hal : n.2.2.2 = false) (h4 : st.length ≤ 4) (hc4 : st.all am_c1 = true)
    (hR : am_Rel D ca bs sp XL xs s nL L n M ls H locs cells) (hRf : 8 ≤ R.frames) (hRl : 168 ≤ R.locals) (hRc : cells + 1 ≤ R.cells) (hRs : slots + 6 ≤ R.slots)
    (hQ : ∀ (U : State) (x : Addr), U.status = .running → Ended U below (.threw x) → s.WarmedH U.vm → s.sameButNew ({ U with vm := s.vm } : State) locs (cells + 1) (slots + 6) → am_W D ca bs sp XL xs (n.1, n.2.1 + 1, n.2.2.1 + 6, n.2.2.2) M U.heap → va_F (am_A0 bs) s U → (∃ ce, U.heap[x]? = some ce ∧ ce.vm = .none ∧ s.vm.findClass (am_thC y) = some ce.cls) → Q U) :
    W p l e R s m args below meth c H locs cells slots Q (F0 m pc ls (st.map (am_v (am_ad bs sp)))) := by
  intro T hT X
  have X' := am_rebase X (R' := { frames := R.frames, cells := 1, slots := 6, locals := R.locals }) (Nat.le_refl _) (Nat.le_refl _) hRc hRs
  have htr : e.platform.stackTraces = false := by rw [X.admits.platform]; exact hl
  have hvm : s.vm = (am_now s T).vm := rfl
  have hH : (am_now s T).heap = H := hT
  have hk : ∀ a : Nat, a < s.heap.size → ¬ am_A0 bs a → H[a]? = s.heap[a]? := hR.2.2.1.2.1
  have hz1 := (hR.2.2.2.1.2.2.2.2.2.1.kept hk)
  have hz2 := (hR.2.2.2.1.2.2.2.2.2.2.kept hk)
  have al1 : s.vm.Alike (am_now s T).vm := Vm.Alike.refl _
  have hat := am_ownOK (s := s) (s' := am_now s T) (A := am_A0 bs) hy hts hR.2.2.2.1.2.2.2.2.1 hvm (by rw [hH]; exact hz1.moved al1) (by rw [hH]; exact hz2.moved al1)
  have w0 : ∀ w ∈ am_TB, w.onTables = true → w.before args (am_now s T) = true := fun w hw ho => va_tabs ho hvm (hts w hw)
  have hfit : Bundle.fit (am_thC y) = true := by rcases hy with rfl | rfl <;> decide +kernel
  have hsum : ((st.map (am_v (am_ad bs sp))).map fun v => v.category).sum = st.length := am_cats hc4
  have hown' : (am_now s T).vm.findClass "ProofLine" = some m.cls := hown
  have key := am_throw0 (p := p) (l := l) (e := e) (R := { frames := R.frames, cells := 1, slots := 6, locals := R.locals }) (s := am_now s T) (m := m) (args := args) (below := below) (meth := meth) (c := c) (st := st.map (am_v (am_ad bs sp))) htr hx hb hml hexc hlocks hown' hat hfit hd0 hd3 hd4 hd7 (w0 _ hcl rfl) (w0 _ hinst rfl) (w0 _ hini rfl) (by rw [List.length_map]; exact h4) (by rw [hsum]; exact h4) hR.1.1.1 hRf hRl (Nat.le_refl _) (Nat.le_refl _) hH
  obtain ⟨U, hst, hrun, hend, hWm, hsame, ce, hce, hoc⟩ := key T hT X'
  have hkeep : ∀ q : Nat, q < H.size → U.heap[q]? = H[q]? := by
    intro q hq
    have := am_kept hsame q (by rw [hH]; exact hq)
    rw [hH] at this
    exact this
  have hge : H.size ≤ U.heap.size := by have := hsame.2.1; rw [hH] at this; exact this
  refine ⟨U, hst, hQ U H.size hrun hend hWm ?_ ?_ ?_ ⟨ce, hce, hoc.vm, hoc.cls⟩⟩
  · have hs2 : (T.setVm s.vm).sameButNew ({ U with vm := s.vm } : State) [] 1 6 := by
      refine ⟨?_, hsame.2⟩
      have e1 := X.same.1
      have e2 : (T.setVm s.vm).setFrames U.frames = ({ s.setFrames U.frames with heap := T.heap, slotsUsed := T.slotsUsed } : State) := by
        rw [e1]
        show ({ (s.setFrames T.frames).setFrames U.frames with heap := T.heap, slotsUsed := T.slotsUsed } : State) = _
        rw [State.setFrames_setFrames]
      show _ = ({ (T.setVm s.vm).setFrames U.frames with heap := U.heap, slotsUsed := U.slotsUsed } : State)
      rw [e2]
      exact hsame.1
    have h9 := X.same.trans hs2
    rw [List.append_nil] at h9
    exact h9
  · refine ⟨hR.2.1.1.kept (fun k q hq => hkeep _ (hR.2.1.1 k q hq).lt), hR.2.1.2.1, hR.2.1.2.2.1, Nat.le_trans hR.2.1.2.2.2.1 hge, fun q => ?_⟩
    have q : n.2.2.2 = true := q
    rw [hal] at q
    cases q
  · exact ⟨Nat.le_trans hR.2.2.1.1 hge, fun q h1 h2 => by rw [hkeep q (Nat.lt_of_lt_of_le h1 hR.2.2.1.1)]; exact hk q h1 h2⟩
end AMT
