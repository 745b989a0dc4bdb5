def am_ln (i : Instr) : Nat := match i with
  | .bipush _ => 2 | .sipush _ => 3 | .ldc _ => 2 | .iload _ => 2 | .aload _ => 2 | .istore _ => 2 | .astore _ => 2 | .iinc _ _ => 3
  | .goto _ => 3 | .ifCond _ _ => 3 | .if_icmp _ _ => 3 | .getfield _ => 3 | .putfield _ => 3 | .getstatic _ => 3 | .new _ => 3 | .newarray _ => 2 | .anewarray _ => 3
  | .invokevirtual _ => 3 | .invokestatic _ => 3 | .invokespecial _ => 3
  | _ => 1
def am_lnok (pc : Nat) (i : Instr) (k : Nat) : Bool := match i with
  | .tableswitch d lo hi offs => decide (0 ≤ (pc : Int) + d) && offs.toList.all (fun o => decide (0 ≤ (pc : Int) + o))
  | .lookupswitch d ps => (ps.toList.zip (ps.toList.drop 1)).all (fun (a, next) => a.1 < next.1) && decide (0 ≤ (pc : Int) + d) && ps.toList.all (fun o => decide (0 ≤ (pc : Int) + o.2))
  | .goto o => k == 3 && decide (0 ≤ (pc : Int) + o)
  | .ifCond _ o => k == 3 && decide (0 ≤ (pc : Int) + o)
  | .if_icmp _ o => k == 3 && decide (0 ≤ (pc : Int) + o)
  | i => k == am_ln i
section AMX
variable {p : Program} {l : Launch} {e : Env} {R : Room} {s : State} {m : MethodId} {args : Array Value} {below : List Frame} {meth : Method} {c : Code} {H : Heap} {locs : List Loc} {cells slots : Nat} {Q : State → Prop}
variable {cc : ByteArray} {D : va_G} {ca : Nat → ClassId} {bs : Nat} {sp : Nat → Nat} {XL : Nat} {xs : Nat → Int32} {nL pc : Nat} {L : List Value} {n : am_N} {M : am_M} {ls : Array Slot} {r : List Value}
theorem am_s_load (hx : p.tables.exec = Jvm.exec) (hb : c.code = cc) {k : Nat} {v : Value} {i : Instr} {b : Bool} (hi : (b = false ∧ (i = .iload k ∨ ∃ j : Fin 4, i = .iload_n j ∧ j.val = k)) ∨ (b = true ∧ (i = .aload k ∨ ∃ j : Fin 4, i = .aload_n j ∧ j.val = k)))
    (hdec : decode cc pc = .ok (i, am_ln i)) (hR : am_Rel D ca bs sp XL xs s nL L n M ls H locs cells) (hv : L[k]? = some v) (hj : v ≠ am_junk) (hb2 : (b = false ∧ ∃ x, v = .int x) ∨ (b = true ∧ ((∃ x, v = .ref x) ∨ v = .null)))
    (kk : W p l e R s m args below meth c H locs cells slots Q (F0 m (pc + am_ln i) ls (am_v (am_ad bs sp) v :: r))) : W p l e R s m args below meth c H locs cells slots Q (F0 m pc ls r) := by
  have hl := hR.1.get hv hj
  rcases hb2 with ⟨rfl, x, rfl⟩ | ⟨rfl, ⟨x, rfl⟩ | rfl⟩
  · rcases hi with ⟨-, rfl | ⟨j, rfl, hj2⟩⟩ | ⟨h0, -⟩
    · exact lv_iload hx hb hdec hl kk
    · exact lv_iload_n hx hb hdec hj2 hl kk
    · cases h0
  · rcases hi with ⟨h0, -⟩ | ⟨-, rfl | ⟨j, rfl, hj2⟩⟩
    · cases h0
    · exact lv_aload hx hb hdec hl kk
    · exact lv_aload_n hx hb hdec hj2 hl kk
  · rcases hi with ⟨h0, -⟩ | ⟨-, rfl | ⟨j, rfl, hj2⟩⟩
    · cases h0
    · exact lv_aloadN hx hb hdec hl kk
    · exact lv_aload_nN hx hb hdec hj2 hl kk
theorem am_s_store (hx : p.tables.exec = Jvm.exec) (hb : c.code = cc) {k : Nat} {v : Value} {i : Instr} {b : Bool} (hi : (b = false ∧ (i = .istore k ∨ ∃ j : Fin 4, i = .istore_n j ∧ j.val = k)) ∨ (b = true ∧ (i = .astore k ∨ ∃ j : Fin 4, i = .astore_n j ∧ j.val = k)))
    (hdec : decode cc pc = .ok (i, am_ln i)) (hR : am_Rel D ca bs sp XL xs s nL L n M ls H locs cells) (hk : k < L.length) (hb2 : (b = false ∧ ∃ x, v = .int x) ∨ (b = true ∧ ∃ x, v = .ref x))
    (kk : ∀ ls', am_Rel D ca bs sp XL xs s nL (L.set k v) n M ls' H locs cells → W p l e R s m args below meth c H locs cells slots Q (F0 m (pc + am_ln i) ls' r)) : W p l e R s m args below meth c H locs cells slots Q (F0 m pc ls (am_v (am_ad bs sp) v :: r)) := by
  have hn : k < nL := Nat.lt_of_lt_of_le hk hR.1.2.1
  rcases hb2 with ⟨rfl, x, rfl⟩ | ⟨rfl, x, rfl⟩
  · rcases hi with ⟨-, rfl | ⟨j, rfl, hj2⟩⟩ | ⟨h0, -⟩
    · exact lv_istore hx hb hdec hR.1.1 hn rfl (fun ls' h' => kk ls' ⟨hR.1.set rfl h', hR.2⟩)
    · exact lv_istore_n hx hb hdec hj2 hR.1.1 hn rfl (fun ls' h' => kk ls' ⟨hR.1.set rfl h', hR.2⟩)
    · cases h0
  · rcases hi with ⟨h0, -⟩ | ⟨-, rfl | ⟨j, rfl, hj2⟩⟩
    · cases h0
    · exact lv_astore hx hb hdec hR.1.1 hn rfl (fun ls' h' => kk ls' ⟨hR.1.set rfl h', hR.2⟩)
    · exact lv_astore_n hx hb hdec hj2 hR.1.1 hn rfl (fun ls' h' => kk ls' ⟨hR.1.set rfl h', hR.2⟩)
theorem am_s_iinc (hx : p.tables.exec = Jvm.exec) (hb : c.code = cc) {k : Nat} {z : Int} {x : Int32} (hdec : decode cc pc = .ok (.iinc k z, 3)) (hR : am_Rel D ca bs sp XL xs s nL L n M ls H locs cells) (hv : L[k]? = some (.int x))
    (kk : ∀ ls', am_Rel D ca bs sp XL xs s nL (L.set k (.int (x + Int32.ofInt z))) n M ls' H locs cells → W p l e R s m args below meth c H locs cells slots Q (F0 m (pc + 3) ls' r)) : W p l e R s m args below meth c H locs cells slots Q (F0 m pc ls r) := by
  have hk : k < L.length := (List.getElem?_eq_some_iff.mp hv).1
  have hn : k < nL := Nat.lt_of_lt_of_le hk hR.1.2.1
  obtain ⟨q, hq⟩ := List.getElem?_of_mem (am_lv_mem (ad := am_ad bs sp) (i := k) (w := .int x) (L := L) (k := 0) |>.mpr ⟨.int x, Nat.zero_le _, by simpa using hv, (fun q => by cases q), rfl⟩)
  exact lv_iinc hx hb hdec hR.1.1 hq rfl hn rfl (fun ls' h' => kk ls' ⟨hR.1.set (v := .int (x + Int32.ofInt z)) rfl h', hR.2⟩)
theorem am_s_tgt {pc : Nat} {o : Int} (h : 0 ≤ (pc : Int) + o) : (pc : Int) + o = ((am_tgt pc o : Nat) : Int) := by
  unfold am_tgt; omega
theorem am_s_if (hx : p.tables.exec = Jvm.exec) (hb : c.code = cc) {k : ClassFile.Cond} {o : Int} {x : Int32} (hdec : decode cc pc = .ok (.ifCond k o, 3)) (hp : 0 ≤ (pc : Int) + o)
    (kk : W p l e R s m args below meth c H locs cells slots Q (F0 m (if am_cond k x 0 = true then am_tgt pc o else pc + 3) ls r)) : W p l e R s m args below meth c H locs cells slots Q (F0 m pc ls (.int x :: r)) := by
  cases k with
  | eq => exact lv_if_eq hx hb hdec (am_s_tgt hp) (fun h => by rw [if_pos (show am_cond .eq x 0 = true from decide_eq_true h)] at kk; exact kk) (fun h => by rw [if_neg (show ¬ am_cond .eq x 0 = true from fun q => h (of_decide_eq_true q))] at kk; exact kk)
  | ne => exact lv_if_ne hx hb hdec (am_s_tgt hp) (fun h => by rw [if_pos (show am_cond .ne x 0 = true from decide_eq_true h)] at kk; exact kk) (fun h => by rw [if_neg (show ¬ am_cond .ne x 0 = true from fun q => (of_decide_eq_true q) h)] at kk; exact kk)
  | lt => exact lv_if_lt hx hb hdec (am_s_tgt hp) (fun h => by rw [if_pos (show am_cond .lt x 0 = true from decide_eq_true h)] at kk; exact kk) (fun h => by rw [if_neg (show ¬ am_cond .lt x 0 = true from fun q => h (of_decide_eq_true q))] at kk; exact kk)
  | ge => exact lv_if_ge hx hb hdec (am_s_tgt hp) (fun h => by rw [if_pos (show am_cond .ge x 0 = true from decide_eq_true h)] at kk; exact kk) (fun h => by rw [if_neg (show ¬ am_cond .ge x 0 = true from fun q => h (of_decide_eq_true q))] at kk; exact kk)
  | gt => exact lv_if_gt hx hb hdec (am_s_tgt hp) (fun h => by rw [if_pos (show am_cond .gt x 0 = true from decide_eq_true h)] at kk; exact kk) (fun h => by rw [if_neg (show ¬ am_cond .gt x 0 = true from fun q => h (of_decide_eq_true q))] at kk; exact kk)
  | le => exact lv_if_le hx hb hdec (am_s_tgt hp) (fun h => by rw [if_pos (show am_cond .le x 0 = true from decide_eq_true h)] at kk; exact kk) (fun h => by rw [if_neg (show ¬ am_cond .le x 0 = true from fun q => h (of_decide_eq_true q))] at kk; exact kk)
theorem am_s_icmp (hx : p.tables.exec = Jvm.exec) (hb : c.code = cc) {k : ClassFile.Cond} {o : Int} {x y : Int32} (hdec : decode cc pc = .ok (.if_icmp k o, 3)) (hp : 0 ≤ (pc : Int) + o)
    (kk : W p l e R s m args below meth c H locs cells slots Q (F0 m (if am_cond k x y = true then am_tgt pc o else pc + 3) ls r)) : W p l e R s m args below meth c H locs cells slots Q (F0 m pc ls (.int y :: .int x :: r)) := by
  cases k with
  | eq => exact lv_icmp_eq hx hb hdec (am_s_tgt hp) (fun h => by rw [if_pos (show am_cond .eq x y = true from decide_eq_true h)] at kk; exact kk) (fun h => by rw [if_neg (show ¬ am_cond .eq x y = true from fun q => h (of_decide_eq_true q))] at kk; exact kk)
  | ne => exact lv_icmp_ne hx hb hdec (am_s_tgt hp) (fun h => by rw [if_pos (show am_cond .ne x y = true from decide_eq_true h)] at kk; exact kk) (fun h => by rw [if_neg (show ¬ am_cond .ne x y = true from fun q => (of_decide_eq_true q) h)] at kk; exact kk)
  | lt => exact lv_icmp_lt hx hb hdec (am_s_tgt hp) (fun h => by rw [if_pos (show am_cond .lt x y = true from decide_eq_true h)] at kk; exact kk) (fun h => by rw [if_neg (show ¬ am_cond .lt x y = true from fun q => h (of_decide_eq_true q))] at kk; exact kk)
  | ge => exact lv_icmp_ge hx hb hdec (am_s_tgt hp) (fun h => by rw [if_pos (show am_cond .ge x y = true from decide_eq_true h)] at kk; exact kk) (fun h => by rw [if_neg (show ¬ am_cond .ge x y = true from fun q => h (of_decide_eq_true q))] at kk; exact kk)
  | gt => exact lv_icmp_gt hx hb hdec (am_s_tgt hp) (fun h => by rw [if_pos (show am_cond .gt x y = true from decide_eq_true h)] at kk; exact kk) (fun h => by rw [if_neg (show ¬ am_cond .gt x y = true from fun q => h (of_decide_eq_true q))] at kk; exact kk)
  | le => exact lv_icmp_le hx hb hdec (am_s_tgt hp) (fun h => by rw [if_pos (show am_cond .le x y = true from decide_eq_true h)] at kk; exact kk) (fun h => by rw [if_neg (show ¬ am_cond .le x y = true from fun q => h (of_decide_eq_true q))] at kk; exact kk)
theorem am_size {g : JFrame} (k : H.size ≤ s.heap.size + cells → W p l e R s m args below meth c H locs cells slots Q g) : W p l e R s m args below meth c H locs cells slots Q g :=
  fun T hT X => k (by have h := X.same.2.2.1; rw [← hT]; exact h) T hT X
/-- the words of a field's instruction: in the class itself, or by a nest mate -/
def am_lkF (Ts : List Cond) (own : String) (idx ci k : Nat) : Prop := ∃ (C : String) (T : u_T) (N : Nat), am_cl[ci]? = some (C, T, N) ∧ k < N ∧ (T k).1 = C ∧ (∀ w ∈ u_ws C T N, w ∈ Ts) ∧
  (Cond.fieldLink own idx C (T k).2.1 (T k).2.2.1 ∈ Ts ∨ ∃ host, Cond.fieldLinkNest own idx C (T k).2.1 (T k).2.2.1 host ∈ am_NB)
def am_fty (z : Nat) (ty : FieldType) : Bool := match z with
  | 0 => decide (ty = .int)
  | 1 => decide (ty = .boolean)
  | 2 => decide (ty = .char)
  | _ => match ty with | .object _ => true | .array _ => true | _ => false
theorem am_fit_ok {z : Nat} {ty : FieldType} {v : Value} {ad : Nat → Nat} (h1 : am_fty z ty = true) (h2 : am_fit z v = true) : narrow ty (am_v ad v) = am_v ad v ∧ fits ty (am_v ad v) = true := by
  match z with
  | 0 =>
    obtain rfl : ty = .int := of_decide_eq_true h1
    cases v <;> first | exact ⟨rfl, rfl⟩ | cases h2
  | 1 =>
    obtain rfl : ty = .boolean := of_decide_eq_true h1
    cases v with
    | int x =>
      simp only [am_fit, Bool.or_eq_true, beq_iff_eq] at h2
      rcases h2 with rfl | rfl <;> exact ⟨rfl, rfl⟩
    | _ => cases h2
  | 2 =>
    obtain rfl : ty = .char := of_decide_eq_true h1
    cases v with
    | int x =>
      simp only [am_fit, Bool.and_eq_true, decide_eq_true_eq] at h2
      have hx : ¬ x < 0 := Int32.not_lt.mpr h2.1
      obtain ⟨j, hj, rfl⟩ := nI_of hx
      have h3 : j < 65536 := by
        have h4 : nI j ≤ nI 65535 := h2.2
        have := (nI_leI hj (by decide)).mp h4
        omega
      exact pk_charN h3
    | _ => cases h2
  | n + 3 =>
    cases v <;> first | cases h2 | skip
    all_goals (cases ty <;> first | exact ⟨rfl, rfl⟩ | cases h1)
/-- the words for a write: the field's type too; final only in the class's own constructor -/
def am_lkP (Ts : List Cond) (own : String) (init : Bool) (idx ci k z : Nat) : Prop := am_lkF Ts own idx ci k ∧ ∀ C T N, am_cl[ci]? = some (C, T, N) → ∃ ty0 : Nat → FieldType, (∀ j, j < N → parseFieldDescriptor (T j).2.2.1 = some (ty0 j)) ∧ (∀ a, a < N → ∀ b, b < N → a ≠ b → (T a).2.1 ≠ (T b).2.1) ∧ am_fty z (ty0 k) = true ∧
  ((T k).2.2.2 = false ∨ (init = true ∧ own = C ∧ Cond.fieldLink own idx C (T k).2.1 (T k).2.2.1 ∈ Ts))
theorem am_s_get (hx : p.tables.exec = Jvm.exec) (hb : c.code = cc) {Ts : List Cond} (hts : ∀ w ∈ Ts, w.before args s = true) {own : String} (hown : s.vm.findClass own = some m.cls) {idx ci k h : Nat} {v : Value} (hlk : am_lkF Ts own idx ci k)
    (hdec : decode cc pc = .ok (.getfield idx, 3)) (hR : am_Rel D ca bs sp XL xs s nL L n M ls H locs cells) (hv : am_fld M h ci k = some v)
    (kk : W p l e R s m args below meth c H locs cells slots Q (F0 m (pc + 3) ls (am_v (am_ad bs sp) v :: r))) : W p l e R s m args below meth c H locs cells slots Q (F0 m pc ls (.ref (am_ad bs sp h) :: r)) := by
  obtain ⟨fs, hM, hfk⟩ := am_fld_inv hv
  obtain ⟨C, T, N, hc, hk, hT, hin, hl⟩ := hlk
  obtain ⟨h1, h2, h3⟩ := hR.2.1.at hM (fun t f N q => by cases q)
  have hfk' : (fs.map (am_v (am_ad bs sp)))[k]? = some (am_v (am_ad bs sp) v) := by rw [List.getElem?_map, hfk]; rfl
  rcases hl with hl | ⟨host, hl⟩
  · exact va_get (ref := C) hx hb hts hin hown hR.2.2.2.1.1 hR.2.1.1 h h1 hc k hk (hts _ hl) (fun x q => by rw [hT] at q; exact q) hfk' hdec kk
  · exact va_getN (ref := C) hx hb hts hin hown hR.2.2.2.1.1 hR.2.1.1 h h1 hc k hk (va_Nw.use rfl (hR.2.2.2.1.2.2.2.2.1 _ hl)) (fun x q => by rw [hT] at q; exact q) hfk' hdec kk
theorem am_s_put (hx : p.tables.exec = Jvm.exec) (hb : c.code = cc) {Ts : List Cond} (hts : ∀ w ∈ Ts, w.before args s = true) {own : String} (hown : s.vm.findClass own = some m.cls) {init : Bool} (hini : init = true → meth.name = "<init>") {idx ci k h z : Nat} {v : Value} {M' : am_M} (hlk : am_lkP Ts own init idx ci k z)
    (hdec : decode cc pc = .ok (.putfield idx, 3)) (hR : am_Rel D ca bs sp XL xs s nL L n M ls H locs cells) (hv : am_setf M h ci k v = some M') (hf : am_fit z v = true)
    (kk : ∀ H' locs', am_Rel D ca bs sp XL xs s nL L n M' ls H' locs' cells → W p l e R s m args below meth c H' locs' cells slots Q (F0 m (pc + 3) ls r)) : W p l e R s m args below meth c H locs cells slots Q (F0 m pc ls (am_v (am_ad bs sp) v :: .ref (am_ad bs sp h) :: r)) := by
  obtain ⟨fs, hM, hkf, rfl⟩ := am_setf_inv hv
  obtain ⟨⟨C, T, N, hc, hk, hT, hin, hl⟩, hw⟩ := hlk
  obtain ⟨ty0, hty, hnm, hfty, hfin⟩ := hw C T N hc
  obtain ⟨h1, h2, h3⟩ := hR.2.1.at hM (fun t f N q => by cases q)
  obtain ⟨hn1, hn2⟩ := am_fit_ok (ad := am_ad bs sp) hfty hf
  have hD := am_D (ca := ca) (bs := bs) (sp := sp) (M := M) hR.2.1.2.2.1
  have hlen : k < (fs.map (am_v (am_ad bs sp))).length := by rw [List.length_map]; exact hkf
  have fin : ∀ (H1 : Heap) (locs1 : List Loc), va_P D am_cl ((am_ws ca (am_ad bs sp) n.1 M).set h (am_ad bs sp h, .inr (ci, (fs.map (am_v (am_ad bs sp))).set k (am_v (am_ad bs sp) v)))) H1 → va_D (am_A0 bs) ((am_ws ca (am_ad bs sp) n.1 M).set h (am_ad bs sp h, .inr (ci, (fs.map (am_v (am_ad bs sp))).set k (am_v (am_ad bs sp) v)))) → va_S (am_A0 bs) s.heap H1 locs1 → W p l e R s m args below meth c H1 locs1 cells slots Q (F0 m (pc + 3) ls r) := by
    intro H1 locs1 hP1 _ hS1
    refine am_size fun hz => ?_
    have hP2 : va_P D am_cl ((am_ws ca (am_ad bs sp) n.1 M).set h (am_ad bs sp h, am_e ca (am_ad bs sp) (am_O ci (fs.set k v)))) H1 := by
      have he : am_e ca (am_ad bs sp) (am_O ci (fs.set k v)) = .inr (ci, (fs.map (am_v (am_ad bs sp))).set k (am_v (am_ad bs sp) v)) := by
        show Sum.inr (ci, (fs.set k v).map _) = _
        rw [List.map_set]
      rw [he]; exact hP1
    obtain ⟨h5, h6⟩ := hR.2.1.put hR.2.2.2.2.2 h2 (c := am_O ci (fs.set k v)) trivial hP2 hz
    exact kk H1 locs1 ⟨hR.1, h5, hS1, hR.2.2.2.1, hR.2.2.2.2.1, h6⟩
  have hsame : ∀ x, s.fieldFound? (T k).1 (T k).2.1 (T k).2.2.1 = some x → s.fieldFound? C (T k).2.1 (T k).2.2.1 = some x := fun x q => by rw [hT] at q; exact q
  rcases hfin with hfin | ⟨hi, rfl, hlF⟩
  · rcases hl with hl | ⟨host, hl⟩
    · exact va_put (ref := C) hx hb hts hin ty0 hty hnm hown hR.2.2.2.1.1 hR.2.1.1 hD hR.2.2.1 h h1 hc k hk (hts _ hl) hsame hfin (hty k hk) hn1 hn2 hlen hdec fin
    · exact va_putN (ref := C) hx hb hts hin ty0 hty hnm hown hR.2.2.2.1.1 hR.2.1.1 hD hR.2.2.1 h h1 hc k hk (va_Nw.use rfl (hR.2.2.2.1.2.2.2.2.1 _ hl)) hsame hfin (hty k hk) hn1 hn2 hlen hdec fin
  · by_cases hff : (T k).2.2.2 = true
    · exact va_putF (ref := own) hx hb hts hin ty0 hty hnm hown hR.2.2.2.1.1 hR.2.1.1 hD hR.2.2.1 h h1 hc k hk (hts _ hlF) hsame hff (hini hi) hT (hty k hk) hn1 hn2 hlen hdec fin
    · exact va_put (ref := own) hx hb hts hin ty0 hty hnm hown hR.2.2.2.1.1 hR.2.1.1 hD hR.2.2.1 h h1 hc k hk (hts _ hlF) hsame (by simpa using hff) (hty k hk) hn1 hn2 hlen hdec fin
theorem am_s_iald (hx : p.tables.exec = Jvm.exec) (hb : c.code = cc) {t h : Nat} {i x : Int32} (ht : t = 0 ∨ 5 ≤ t) (hdec : decode cc pc = .ok (.iaload, 1)) (hR : am_Rel D ca bs sp XL xs s nL L n M ls H locs cells) (hv : am_ald t M h i = some x)
    (kk : W p l e R s m args below meth c H locs cells slots Q (F0 m (pc + 1) ls (.int x :: r))) : W p l e R s m args below meth c H locs cells slots Q (F0 m pc ls (.int i :: .ref (am_ad bs sp h) :: r)) := by
  obtain ⟨N, f, hM, hi, rfl⟩ := am_ald_inv hv
  rcases hR.2.1.2.1 h _ hM with ⟨h1, h2⟩ | ⟨rfl, h2⟩ | ⟨rfl, h2⟩
  · have h3 : t < 3 := h2
    obtain rfl : t = 0 := by omega
    exact va_iald hx hb hR.2.2.2.1.1 hR.2.1.1 h 0 (am_ws_get h1 hM) rfl hi hdec kk
  · cases h2
    exact va_ti hx hb hR.2.2.2.1.2.2.1 hR.2.2.1 hi rfl hdec kk
  · cases h2
    exact va_ti hx hb hR.2.2.2.1.2.2.2.1 hR.2.2.1 hi rfl hdec kk
theorem am_s_cald (hx : p.tables.exec = Jvm.exec) (hb : c.code = cc) {h : Nat} {i x : Int32} (hdec : decode cc pc = .ok (.caload, 1)) (hR : am_Rel D ca bs sp XL xs s nL L n M ls H locs cells) (hv : am_ald 1 M h i = some x)
    (kk : W p l e R s m args below meth c H locs cells slots Q (F0 m (pc + 1) ls (.int x :: r))) : W p l e R s m args below meth c H locs cells slots Q (F0 m pc ls (.int i :: .ref (am_ad bs sp h) :: r)) := by
  obtain ⟨N, f, hM, hi, rfl⟩ := am_ald_inv hv
  obtain ⟨h1, -, -⟩ := hR.2.1.at hM (fun t f N q => by cases q; decide)
  exact va_cald hx hb hR.2.2.2.1.1 hR.2.1.1 h 1 h1 rfl hi hdec kk
theorem am_s_zald (hx : p.tables.exec = Jvm.exec) (hb : c.code = cc) {h : Nat} {i x : Int32} (hdec : decode cc pc = .ok (.baload, 1)) (hR : am_Rel D ca bs sp XL xs s nL L n M ls H locs cells) (hv : am_ald 2 M h i = some x)
    (kk : W p l e R s m args below meth c H locs cells slots Q (F0 m (pc + 1) ls (.int x :: r))) : W p l e R s m args below meth c H locs cells slots Q (F0 m pc ls (.int i :: .ref (am_ad bs sp h) :: r)) := by
  obtain ⟨N, f, hM, hi, rfl⟩ := am_ald_inv hv
  obtain ⟨h1, -, -⟩ := hR.2.1.at hM (fun t f N q => by cases q; decide)
  exact va_zald hx hb hR.2.2.2.1.1 hR.2.1.1 h 2 h1 rfl hi hdec kk
theorem am_s_lald (hx : p.tables.exec = Jvm.exec) (hb : c.code = cc) {h : Nat} {i : Int32} {x : Int64} (hdec : decode cc pc = .ok (.laload, 1)) (hR : am_Rel D ca bs sp XL xs s nL L n M ls H locs cells) (hv : am_lald M h i = some x)
    (kk : W p l e R s m args below meth c H locs cells slots Q (F0 m (pc + 1) ls (.long x :: r))) : W p l e R s m args below meth c H locs cells slots Q (F0 m pc ls (.int i :: .ref (am_ad bs sp h) :: r)) := by
  obtain ⟨N, f, hM, hi, rfl⟩ := am_lald_inv hv
  obtain ⟨h1, -, -⟩ := hR.2.1.at hM (fun t f N q => by cases q)
  exact va_lald hx hb hR.2.2.2.1.1 hR.2.1.1 h 3 h1 rfl hi hdec kk
theorem am_rf {ad : Nat → Nat} {o : Option Nat} : va_rf (o.map ad) = am_v ad (va_rf o) := by cases o <;> rfl
theorem am_s_aald (hx : p.tables.exec = Jvm.exec) (hb : c.code = cc) {h : Nat} {i : Int32} {v : Value} (hdec : decode cc pc = .ok (.aaload, 1)) (hR : am_Rel D ca bs sp XL xs s nL L n M ls H locs cells) (hv : am_aald M h i = some v)
    (kk : W p l e R s m args below meth c H locs cells slots Q (F0 m (pc + 1) ls (am_v (am_ad bs sp) v :: r))) : W p l e R s m args below meth c H locs cells slots Q (F0 m pc ls (.int i :: .ref (am_ad bs sp h) :: r)) := by
  obtain ⟨t, N, f, hM, hi, rfl⟩ := am_aald_inv hv
  obtain ⟨h1, -, h3⟩ := hR.2.1.at hM (fun t f N q => by cases q)
  obtain rfl : t = 4 := h3
  rw [← am_rf] at kk
  exact va_aldq hx hb hR.2.2.2.1.1 hR.2.1.1 h 4 h1 rfl hi hdec kk
theorem am_s_len (hx : p.tables.exec = Jvm.exec) (hb : c.code = cc) {h : Nat} {v : Int32} (hdec : decode cc pc = .ok (.arraylength, 1)) (hR : am_Rel D ca bs sp XL xs s nL L n M ls H locs cells) (hv : am_len M h = some v)
    (kk : W p l e R s m args below meth c H locs cells slots Q (F0 m (pc + 1) ls (.int v :: r))) : W p l e R s m args below meth c H locs cells slots Q (F0 m pc ls (.ref (am_ad bs sp h) :: r)) := by
  unfold am_len at hv
  split at hv
  · rename_i t N f hM
    cases hv
    rcases hR.2.1.2.1 h _ hM with ⟨h1, h2⟩ | ⟨rfl, h2⟩ | ⟨rfl, h2⟩
    · have h3 : t < 3 := h2
      rcases (show t = 0 ∨ t = 1 ∨ t = 2 by omega) with rfl | rfl | rfl
      · exact va_alen hx hb hR.2.2.2.1.1 hR.2.1.1 h 0 (am_ws_get h1 hM) rfl rfl hdec kk
      · exact va_alen hx hb hR.2.2.2.1.1 hR.2.1.1 h 1 (am_ws_get h1 hM) rfl rfl hdec kk
      · exact va_alen hx hb hR.2.2.2.1.1 hR.2.1.1 h 2 (am_ws_get h1 hM) rfl rfl hdec kk
    · cases h2
      exact va_tlen hx hb hR.2.2.2.1.2.2.1 hR.2.2.1 rfl hdec kk
    · cases h2
      exact va_tlen hx hb hR.2.2.2.1.2.2.2.1 hR.2.2.1 rfl hdec kk
  · rename_i N f hM
    cases hv
    obtain ⟨h1, -, h3⟩ := hR.2.1.at hM (fun t f N q => by cases q)
    exact va_alen hx hb hR.2.2.2.1.1 hR.2.1.1 h 3 h1 rfl rfl hdec kk
  · rename_i t N f hM
    cases hv
    obtain ⟨h1, -, h3⟩ := hR.2.1.at hM (fun t f N q => by cases q)
    obtain rfl : t = 4 := h3
    exact va_alen hx hb hR.2.2.2.1.1 hR.2.1.1 h 4 h1 rfl rfl hdec kk
  · cases hv
theorem am_fit_nar {z : Nat} {x : Int32} : (am_fit 1 (.int x) = true → vp_nar .boolean x = x) ∧ (am_fit 2 (.int x) = true → vp_nar .char x = x) := by
  refine ⟨fun h => ?_, fun h => ?_⟩
  · have := (am_fit_ok (z := 1) (ty := .boolean) (ad := id) (v := .int x) rfl h).1
    unfold vp_nar
    rw [show narrow .boolean (.int x) = .int x from this]
  · have := (am_fit_ok (z := 2) (ty := .char) (ad := id) (v := .int x) rfl h).1
    unfold vp_nar
    rw [show narrow .char (.int x) = .int x from this]
theorem am_s_ast (hx : p.tables.exec = Jvm.exec) (hb : c.code = cc) {t h : Nat} {i x : Int32} {M' : am_M} {q : Instr} (hq : (t = 0 ∧ q = .iastore) ∨ (t = 1 ∧ q = .castore ∧ am_fit 2 (.int x) = true) ∨ (t = 2 ∧ q = .bastore ∧ am_fit 1 (.int x) = true))
    (hdec : decode cc pc = .ok (q, 1)) (hR : am_Rel D ca bs sp XL xs s nL L n M ls H locs cells) (hv : am_ast t M h i x = some M')
    (kk : ∀ H' locs', am_Rel D ca bs sp XL xs s nL L n M' ls H' locs' cells → W p l e R s m args below meth c H' locs' cells slots Q (F0 m (pc + 1) ls r)) : W p l e R s m args below meth c H locs cells slots Q (F0 m pc ls (.int x :: .int i :: .ref (am_ad bs sp h) :: r)) := by
  obtain ⟨N, f, hM, hi, rfl⟩ := am_ast_inv hv
  have ht : t < 3 := by omega
  obtain ⟨h1, h2, h3⟩ := hR.2.1.at hM (fun t' f N q => by cases q; exact ht)
  have hD := am_D (ca := ca) (bs := bs) (sp := sp) (M := M) hR.2.1.2.2.1
  have fin : ∀ (H1 : Heap) (locs1 : List Loc), va_P D am_cl ((am_ws ca (am_ad bs sp) n.1 M).set h (am_ad bs sp h, .inl (ca t, N, .inl (upd f i.toNatClampNeg x)))) H1 → va_D (am_A0 bs) ((am_ws ca (am_ad bs sp) n.1 M).set h (am_ad bs sp h, .inl (ca t, N, .inl (upd f i.toNatClampNeg x)))) → va_S (am_A0 bs) s.heap H1 locs1 → W p l e R s m args below meth c H1 locs1 cells slots Q (F0 m (pc + 1) ls r) := by
    intro H1 locs1 hP1 _ hS1
    refine am_size fun hz => ?_
    obtain ⟨h5, h6⟩ := hR.2.1.put hR.2.2.2.2.2 h2 (c := am_I t N (upd f i.toNatClampNeg x)) ht hP1 hz
    exact kk H1 locs1 ⟨hR.1, h5, hS1, hR.2.2.2.1, hR.2.2.2.2.1, h6⟩
  rcases hq with ⟨rfl, rfl⟩ | ⟨rfl, rfl, hf⟩ | ⟨rfl, rfl, hf⟩
  · exact va_iast hx hb hR.2.2.2.1.1 hR.2.1.1 hD hR.2.2.1 h 0 h1 rfl hi hdec fin
  · have hn := (am_fit_nar (z := 0)).2 hf
    refine va_cast hx hb hR.2.2.2.1.1 hR.2.1.1 hD hR.2.2.1 h 1 h1 rfl hi hdec ?_
    rw [hn]; exact fin
  · have hn := (am_fit_nar (z := 0)).1 hf
    refine va_zast hx hb hR.2.2.2.1.1 hR.2.1.1 hD hR.2.2.1 h 2 h1 rfl hi hdec ?_
    rw [hn]; exact fin
theorem am_s_last (hx : p.tables.exec = Jvm.exec) (hb : c.code = cc) {h : Nat} {i : Int32} {x : Int64} {M' : am_M} (hdec : decode cc pc = .ok (.lastore, 1)) (hR : am_Rel D ca bs sp XL xs s nL L n M ls H locs cells) (hv : am_last M h i x = some M')
    (kk : ∀ H' locs', am_Rel D ca bs sp XL xs s nL L n M' ls H' locs' cells → W p l e R s m args below meth c H' locs' cells slots Q (F0 m (pc + 1) ls r)) : W p l e R s m args below meth c H locs cells slots Q (F0 m pc ls (.long x :: .int i :: .ref (am_ad bs sp h) :: r)) := by
  obtain ⟨N, f, hM, hi, rfl⟩ := am_last_inv hv
  obtain ⟨h1, h2, h3⟩ := hR.2.1.at hM (fun t' f N q => by cases q)
  have hD := am_D (ca := ca) (bs := bs) (sp := sp) (M := M) hR.2.1.2.2.1
  refine va_last hx hb hR.2.2.2.1.1 hR.2.1.1 hD hR.2.2.1 h 3 h1 rfl hi hdec fun H1 locs1 hP1 _ hS1 => am_size fun hz => ?_
  obtain ⟨h5, h6⟩ := hR.2.1.put hR.2.2.2.2.2 h2 (c := am_J N (vp_updL f i.toNatClampNeg x)) trivial hP1 hz
  exact kk H1 locs1 ⟨hR.1, h5, hS1, hR.2.2.2.1, hR.2.2.2.2.1, h6⟩
theorem am_s_aast (hx : p.tables.exec = Jvm.exec) (hb : c.code = cc) {h v : Nat} {i : Int32} {M' : am_M} (hdec : decode cc pc = .ok (.aastore, 1)) (hR : am_Rel D ca bs sp XL xs s nL L n M ls H locs cells) (hv : am_aast M h i v = some M')
    (kk : ∀ H' locs', am_Rel D ca bs sp XL xs s nL L n M' ls H' locs' cells → W p l e R s m args below meth c H' locs' cells slots Q (F0 m (pc + 1) ls r)) : W p l e R s m args below meth c H locs cells slots Q (F0 m pc ls (.ref (am_ad bs sp v) :: .int i :: .ref (am_ad bs sp h) :: r)) := by
  obtain ⟨t, N, f, fs, hM, hMv, hi, rfl⟩ := am_aast_inv hv
  obtain ⟨h1, h2, h3⟩ := hR.2.1.at hM (fun t' f N q => by cases q)
  obtain ⟨g1, g2, g3⟩ := hR.2.1.at hMv (fun t' f N q => by cases q)
  obtain rfl : t = 4 := h3
  have hD := am_D (ca := ca) (bs := bs) (sp := sp) (M := M) hR.2.1.2.2.1
  obtain ⟨T, N2, hc⟩ := am_rowOk
  refine va_astq (r := (am_rowN, T, N2)) hx hb hR.2.2.2.1.1 hR.2.1.1 hD hR.2.2.1 h 4 v am_rowC h1 rfl g1 hc hi hdec fun H1 locs1 hP1 _ hS1 => am_size fun hz => ?_
  have he : (fun j => (va_up f i.toNatClampNeg (some v) j).map (am_ad bs sp)) = va_up (fun j => (f j).map (am_ad bs sp)) i.toNatClampNeg (some (am_ad bs sp v)) := by
    funext j
    unfold va_up
    split <;> rfl
  have hP2 : va_P D am_cl ((am_ws ca (am_ad bs sp) n.1 M).set h (am_ad bs sp h, am_e ca (am_ad bs sp) (am_R 4 N (va_up f i.toNatClampNeg (some v))))) H1 := by
    show va_P D am_cl ((am_ws ca (am_ad bs sp) n.1 M).set h (am_ad bs sp h, .inl (ca 4, N, .inr (.inr (.inr (.inr (fun j => (va_up f i.toNatClampNeg (some v) j).map (am_ad bs sp)))))))) H1
    rw [he]; exact hP1
  obtain ⟨h5, h6⟩ := hR.2.1.put hR.2.2.2.2.2 h2 (c := am_R 4 N (va_up f i.toNatClampNeg (some v))) rfl hP2 hz
  exact kk H1 locs1 ⟨hR.1, h5, hS1, hR.2.2.2.1, hR.2.2.2.2.1, h6⟩
theorem am_W.push {n' : am_N} {H1 : Heap} {z q : Nat} {d : am_C} (hW : am_W D ca bs sp XL xs n M H) (hal : n.2.2.2 = true) (hz0 : H.size = z) (hlt : n.1 < 100000) (hk : am_kind d) (h1 : n'.1 = n.1 + 1)
    (hP : va_P D am_cl (am_ws ca (am_ad bs sp) n.1 M ++ [(q, am_e ca (am_ad bs sp) d)]) H1) (hDq : va_D (am_A0 bs) (am_ws ca (am_ad bs sp) n.1 M ++ [(q, am_e ca (am_ad bs sp) d)])) (hz : H1.size ≤ z + 1) :
    q = am_ad bs sp n.1 ∧ am_W D ca bs sp XL xs n' (am_up M n.1 d) H1 ∧ H1.size = z + 1 := by
  have hsz : H.size = bs + n.1 := hW.2.2.2.2 hal
  have hl : (am_ws ca (am_ad bs sp) n.1 M).length = n.1 := am_ws_len
  have hg : (am_ws ca (am_ad bs sp) n.1 M ++ [(q, am_e ca (am_ad bs sp) d)])[n.1]? = some (q, am_e ca (am_ad bs sp) d) := by
    rw [List.getElem?_append_right (by omega), hl, Nat.sub_self]; rfl
  have hq1 : q < H1.size := (hP n.1 _ hg).lt
  have hq2 : bs ≤ q := hDq.2 n.1 _ hg
  have hq : q = bs + n.1 := by
    refine Classical.byContradiction fun hne => ?_
    have hlt2 : q - bs < n.1 := by omega
    have hg2 : (am_ws ca (am_ad bs sp) n.1 M ++ [(q, am_e ca (am_ad bs sp) d)])[q - bs]? = some ((am_ad bs sp) (q - bs), am_e ca (am_ad bs sp) ((M (q - bs)).getD (am_O 0 []))) := by
      rw [List.getElem?_append_left (by omega)]
      simp [am_ws, List.getElem?_map, List.getElem?_range hlt2]
    have := hDq.1 _ _ _ _ hg2 hg (by simp only [am_ad, if_pos (show q - bs < 100000 by omega)]; omega)
    omega
  have had : q = am_ad bs sp n.1 := by simp only [am_ad, if_pos hlt]; exact hq
  rw [had, am_ws_push] at hP
  refine ⟨had, ⟨by rw [h1]; exact hP, by rw [h1]; exact hW.2.1.push hk, by omega, by omega, fun _ => by omega⟩, by omega⟩
def am_lkN (Ts : List Cond) (own : String) (idx ci : Nat) : Prop := ∃ (C : String) (T : u_T) (N : Nat), am_cl[ci]? = some (C, T, N) ∧ (∀ w ∈ u_ws C T N, w ∈ Ts) ∧ Cond.classLink own idx C ∈ Ts ∧ Cond.instantiable C N ∈ Ts ∧ Cond.initialized C ∈ Ts ∧ (am_df ci).length = N ∧
  ∃ ty0 : Nat → FieldType, (∀ j, j < N → parseFieldDescriptor (T j).2.2.1 = some (ty0 j)) ∧ ∀ j, j < N → defaultValue (ty0 j) = vp_V (am_df ci) j ∧ am_c1 (vp_V (am_df ci) j) = true ∧ (∀ a, vp_V (am_df ci) j ≠ .ref a)
theorem am_s_new (hx : p.tables.exec = Jvm.exec) (hb : c.code = cc) {Ts : List Cond} (hts : ∀ w ∈ Ts, w.before args s = true) {own : String} (hown : s.vm.findClass own = some m.cls) {idx ci : Nat} (hlk : am_lkN Ts own idx ci)
    (hdec : decode cc pc = .ok (.new idx, 3)) (hR : am_Rel D ca bs sp XL xs s nL L n M ls H locs cells) (hal : n.2.2.2 = true) (hlt : n.1 < 100000) (hc1 : cells + 1 ≤ R.cells) (hs1 : slots + (am_df ci).length ≤ R.slots)
    (kk : ∀ H' : Heap, am_Rel D ca bs sp XL xs s nL L (n.1 + 1, n.2.1 + 1, n.2.2.1 + (am_df ci).length, true) (am_up M n.1 (am_O ci (am_df ci))) ls H' locs (cells + 1) → W p l e R s m args below meth c H' locs (cells + 1) (slots + (am_df ci).length) Q (F0 m (pc + 3) ls (.ref (am_ad bs sp n.1) :: r))) : W p l e R s m args below meth c H locs cells slots Q (F0 m pc ls r) := by
  obtain ⟨C, T, N, hc, hin, h1, h2, h3, hN, ty0, hty, hdf⟩ := hlk
  have hD := am_D (ca := ca) (bs := bs) (sp := sp) (M := M) hR.2.1.2.2.1
  have hA : ∀ q, s.heap.size ≤ q → am_A0 bs q := fun q hq => Nat.le_trans hR.2.2.2.2.1 hq
  have hmap : (am_df ci).map (am_v (am_ad bs sp)) = am_df ci := by
    apply List.ext_getElem?
    intro j
    rw [List.getElem?_map]
    cases hj : (am_df ci)[j]? with
    | none => rfl
    | some v =>
      have hjl := (List.getElem?_eq_some_iff.mp hj).1
      have h4 := (hdf j (by omega)).2
      have h5 : vp_V (am_df ci) j = v := by
        show (am_df ci).getD j .null = v
        rw [List.getD_eq_getElem?_getD, hj]; rfl
      rw [h5] at h4
      cases v with
      | ref a => exact absurd rfl (h4.2 a)
      | _ => rfl
  refine va_new (ci := ci) (fs := am_df ci) hx hb hts hin ty0 hty hown (hts _ h1) (hts _ h2) (hts _ h3) hR.2.2.2.1.1 hR.2.1.1 hD hR.2.2.1 hA hc (fun j hj => (hdf j hj).1) hc1 (by rw [← hN]; exact hs1) hdec fun q H1 hP1 hD1 hS1 => ?_
  refine am_size fun hz => ?_
  have he : am_e ca (am_ad bs sp) (am_O ci (am_df ci)) = .inr (ci, am_df ci) := by
    show Sum.inr (ci, (am_df ci).map _) = _
    rw [hmap]
  rw [← he] at hP1 hD1
  obtain ⟨h5, h6, h7⟩ := hR.2.1.push (n' := (n.1 + 1, n.2.1 + 1, n.2.2.1 + (am_df ci).length, true)) (d := am_O ci (am_df ci)) hal (hR.2.2.2.2.2 hal) hlt trivial rfl hP1 hD1 (by omega)
  subst h5
  rw [← hN]
  exact kk H1 ⟨hR.1, h6, hS1, hR.2.2.2.1, hR.2.2.2.2.1, fun _ => by omega⟩
theorem am_s_newa (hx : p.tables.exec = Jvm.exec) (hb : c.code = cc) {t : ClassFile.ArrayType} {k : Int32} {d : am_C} {n' : am_N} (harr : (Cond.arrayClass (Op.newarray.typeOf t)).before args s = true) (hd : am_newa t k.toNatClampNeg = some d) (hk0 : ¬ k < 0) (hkb : k.toNatClampNeg ≤ 100000)
    (hdec : decode cc pc = .ok (.newarray t, 2)) (hR : am_Rel D ca bs sp XL xs s nL L n M ls H locs cells) (hal : n.2.2.2 = true) (hlt : n.1 < 100000) (hn' : n'.1 = n.1 + 1) (hc1 : cells + 1 ≤ R.cells) (hs1 : slots + k.toNatClampNeg ≤ R.slots)
    (kk : ∀ H' : Heap, am_Rel D ca bs sp XL xs s nL L n' (am_up M n.1 d) ls H' locs (cells + 1) → W p l e R s m args below meth c H' locs (cells + 1) (slots + k.toNatClampNeg) Q (F0 m (pc + 2) ls (.ref (am_ad bs sp n.1) :: r))) : W p l e R s m args below meth c H locs cells slots Q (F0 m pc ls (.int k :: r)) := by
  have hD := am_D (ca := ca) (bs := bs) (sp := sp) (M := M) hR.2.1.2.2.1
  have hA : ∀ q, s.heap.size ≤ q → am_A0 bs q := fun q hq => Nat.le_trans hR.2.2.2.2.1 hq
  have key : ∀ (ty : FieldType) (t0 : Nat) (a0 : vp_A), Op.newarray.typeOf t = ty → (am_tys ca)[t0]? = some (ca t0, ty) → (∀ C, ty ≠ .object C) → am_e ca (am_ad bs sp) d = .inl (ca t0, a0) → (∀ cA : ClassId, vp_cell cA a0 = arrV cA k.toNatClampNeg (fun _ => defaultValue ty)) → k.toNatClampNeg * componentBytes ty ≤ 536870912 → am_kind d →
      W p l e R s m args below meth c H locs cells slots Q (F0 m pc ls (.int k :: r)) := by
    intro ty t0 a0 hty ht0 hno he ha hby hkd
    refine va_newa hx hb harr hty hR.2.2.2.1.1 hR.2.1.1 hD hR.2.2.1 hA ha hk0 rfl hby hc1 hs1 hdec fun q cA H1 hK1 hP1 hD1 hS1 => ?_
    refine am_size fun hz => ?_
    have hca : cA = ca t0 := by
      have e1 := (hK1.2 5 (cA, ty) rfl).2
      have e2 := (hR.2.2.2.1.1.2 t0 _ ht0).2
      have e3 : s.vm.findClass ("[" ++ ty.toString) = some cA := by
        cases ty with
        | object C => exact absurd rfl (hno C)
        | _ => exact e1
      have e4 : s.vm.findClass ("[" ++ ty.toString) = some (ca t0) := by
        cases ty with
        | object C => exact absurd rfl (hno C)
        | _ => exact e2
      exact Option.some.inj (e3.symm.trans e4)
    subst hca
    rw [← he] at hP1 hD1
    obtain ⟨h5, h6, h7⟩ := hR.2.1.push (n' := n') (d := d) hal (hR.2.2.2.2.2 hal) hlt hkd hn' hP1 hD1 (by omega)
    subst h5
    exact kk H1 ⟨hR.1, h6, hS1, hR.2.2.2.1, hR.2.2.2.2.1, fun _ => by omega⟩
  cases t with
  | int => cases hd; exact key .int 0 (k.toNatClampNeg, .inl (fun _ => 0)) rfl rfl (fun _ q => by cases q) rfl (fun _ => rfl) (by simp only [componentBytes]; omega) (by decide : 0 < 3)
  | char => cases hd; exact key .char 1 (k.toNatClampNeg, .inl (fun _ => 0)) rfl rfl (fun _ q => by cases q) rfl (fun _ => rfl) (by simp only [componentBytes]; omega) (by decide : 1 < 3)
  | boolean => cases hd; exact key .boolean 2 (k.toNatClampNeg, .inl (fun _ => 0)) rfl rfl (fun _ q => by cases q) rfl (fun _ => rfl) (by simp only [componentBytes]; omega) (by decide : 2 < 3)
  | long => cases hd; exact key .long 3 (k.toNatClampNeg, .inr (.inl (fun _ => 0))) rfl rfl (fun _ q => by cases q) rfl (fun _ => rfl) (by simp only [componentBytes]; omega) trivial
  | _ => cases hd
theorem am_s_anew (hx : p.tables.exec = Jvm.exec) (hb : c.code = cc) {own : String} (hown : s.vm.findClass own = some m.cls) {idx : Nat} {k : Int32} (hl : (Cond.classLink own idx am_rowN).before args s = true) (hov : va_AO am_rowN s) (hk0 : ¬ k < 0) (hkb : k.toNatClampNeg ≤ 100000)
    (hdec : decode cc pc = .ok (.anewarray idx, 3)) (hR : am_Rel D ca bs sp XL xs s nL L n M ls H locs cells) (hal : n.2.2.2 = true) (hlt : n.1 < 100000) (hc1 : cells + 1 ≤ R.cells) (hs1 : slots + k.toNatClampNeg ≤ R.slots)
    (kk : ∀ H' : Heap, am_Rel D ca bs sp XL xs s nL L (n.1 + 1, n.2.1 + 1, n.2.2.1 + k.toNatClampNeg, true) (am_up M n.1 (am_R 4 k.toNatClampNeg (fun _ => none))) ls H' locs (cells + 1) → W p l e R s m args below meth c H' locs (cells + 1) (slots + k.toNatClampNeg) Q (F0 m (pc + 3) ls (.ref (am_ad bs sp n.1) :: r))) : W p l e R s m args below meth c H locs cells slots Q (F0 m pc ls (.int k :: r)) := by
  have hD := am_D (ca := ca) (bs := bs) (sp := sp) (M := M) hR.2.1.2.2.1
  have hA : ∀ q, s.heap.size ≤ q → am_A0 bs q := fun q hq => Nat.le_trans hR.2.2.2.2.1 hq
  refine va_newq hx hb hown hl hov hR.2.2.2.1.1 hR.2.1.1 hD hR.2.2.1 hA hk0 rfl (by omega) hc1 hs1 hdec fun q cA H1 hK1 hP1 hD1 hS1 => ?_
  refine am_size fun hz => ?_
  have hca : cA = ca 4 := by
    obtain ⟨_, _, _, _, _, e3⟩ := (hK1.2 5 (cA, .object am_rowN) rfl).2
    obtain ⟨_, _, _, _, _, e4⟩ := (hR.2.2.2.1.1.2 4 (ca 4, .object am_rowN) rfl).2
    exact Option.some.inj (e3.symm.trans e4)
  subst hca
  have he : am_e ca (am_ad bs sp) (am_R 4 k.toNatClampNeg (fun _ => none)) = .inl (ca 4, k.toNatClampNeg, .inr (.inr (.inr (.inr (fun _ => none))))) := rfl
  rw [← he] at hP1 hD1
  obtain ⟨h5, h6, h7⟩ := hR.2.1.push (n' := (n.1 + 1, n.2.1 + 1, n.2.2.1 + k.toNatClampNeg, true)) (d := am_R 4 k.toNatClampNeg (fun _ => none)) hal (hR.2.2.2.2.2 hal) hlt rfl rfl hP1 hD1 (by omega)
  subst h5
  exact kk H1 ⟨hR.1, h6, hS1, hR.2.2.2.1, hR.2.2.2.2.1, fun _ => by omega⟩
theorem am_lo {pc : Nat} {d : Int} : ∀ (l : List (Int × Int)) (k : Int), 0 ≤ (pc : Int) + d → (∀ o ∈ l, 0 ≤ (pc : Int) + o.2) → 0 ≤ (pc : Int) + Op.lookupswitch.offset l d k
  | [], _, h, _ => h
  | (a, o) :: r, k, h, h2 => by
    rw [Op.lookupswitch.offset_cons]
    split
    · exact h2 (a, o) List.mem_cons_self
    · exact am_lo r k h (fun q hq => h2 q (List.mem_cons_of_mem _ hq))
theorem am_c1_cat {v : Value} {ad : Nat → Nat} (h : am_c1 v = true) : (am_v ad v).category = 1 := by cases v <;> first | rfl | cases h
/-- the words that an instruction needs -/
def am_lk (Ts : List Cond) (own : String) (init : Bool) (q : am_X) : Prop := match q.1 with
  | .getfield i => am_lkF Ts own i q.2.2.1 q.2.2.2.1
  | .putfield i => am_lkP Ts own init i q.2.2.1 q.2.2.2.1 q.2.2.2.2
  | .new i => q.2.2.1 ≠ 1000 → am_lkN Ts own i q.2.2.1
  | .newarray t => Cond.arrayClass (Op.newarray.typeOf t) ∈ Ts
  | .anewarray i => Cond.classLink own i am_rowN ∈ Ts ∧ Cond.arrayOver (.object am_rowN) ∈ am_NB
  | .getstatic i => Cond.fieldLink own i am_recO am_recF "[I" ∈ Ts ∨ ∃ host, Cond.fieldLinkNest own i am_recO am_recF "[I" host ∈ am_NB
  | .ldc i => Cond.constant own i (Int32.ofNat q.2.2.1) ∈ Ts
  | _ => True
set_option maxHeartbeats 4000000 in
theorem am_step (hx : p.tables.exec = Jvm.exec) (hb : c.code = cc) {Ts : List Cond} (hts : ∀ w ∈ Ts, w.before args s = true) {own : String} (hown : s.vm.findClass own = some m.cls) {init : Bool} (hini : init = true → meth.name = "<init>") {q : am_X} {st : List Value} {g' : am_G}
    (hdec : decode cc pc = .ok (q.1, q.2.1)) (hln : am_lnok pc q.1 q.2.1 = true) (hlk : am_lk Ts own init q) (ha : am_act0 q (pc, L, st, n, M) = some g') (hR : am_Rel D ca bs sp XL xs s nL L n M ls H locs cells)
    (hcr : cells + (g'.2.2.2.1.2.1 - n.2.1) ≤ R.cells) (hsr : slots + (g'.2.2.2.1.2.2.1 - n.2.2.1) ≤ R.slots)
    (kk : ∀ ls' H' locs', am_Rel D ca bs sp XL xs s nL g'.2.1 g'.2.2.2.1 g'.2.2.2.2 ls' H' locs' (cells + (g'.2.2.2.1.2.1 - n.2.1)) → W p l e R s m args below meth c H' locs' (cells + (g'.2.2.2.1.2.1 - n.2.1)) (slots + (g'.2.2.2.1.2.2.1 - n.2.2.1)) Q (F0 m g'.1 ls' (g'.2.2.1.map (am_v (am_ad bs sp))))) :
    W p l e R s m args below meth c H locs cells slots Q (F0 m pc ls (st.map (am_v (am_ad bs sp)))) := by
  obtain ⟨i, len, x, y, z⟩ := q
  cases i with
  | iadd =>
    obtain rfl : len = 1 := eq_of_beq hln
    obtain ⟨x1, y1, r1, z1, rfl, hz, hg⟩ := am_bin_inv ha
    cases hz; cases hg
    simp only [Nat.sub_self, Nat.add_zero] at kk
    exact lv_iadd hx hb hdec (kk ls H locs hR)
  | isub =>
    obtain rfl : len = 1 := eq_of_beq hln
    obtain ⟨x1, y1, r1, z1, rfl, hz, hg⟩ := am_bin_inv ha
    cases hz; cases hg
    simp only [Nat.sub_self, Nat.add_zero] at kk
    exact lv_isub hx hb hdec (kk ls H locs hR)
  | imul =>
    obtain rfl : len = 1 := eq_of_beq hln
    obtain ⟨x1, y1, r1, z1, rfl, hz, hg⟩ := am_bin_inv ha
    cases hz; cases hg
    simp only [Nat.sub_self, Nat.add_zero] at kk
    exact lv_imul hx hb hdec (kk ls H locs hR)
  | iand =>
    obtain rfl : len = 1 := eq_of_beq hln
    obtain ⟨x1, y1, r1, z1, rfl, hz, hg⟩ := am_bin_inv ha
    cases hz; cases hg
    simp only [Nat.sub_self, Nat.add_zero] at kk
    exact lv_iand hx hb hdec (kk ls H locs hR)
  | ixor =>
    obtain rfl : len = 1 := eq_of_beq hln
    obtain ⟨x1, y1, r1, z1, rfl, hz, hg⟩ := am_bin_inv ha
    cases hz; cases hg
    simp only [Nat.sub_self, Nat.add_zero] at kk
    exact lv_ixor hx hb hdec (kk ls H locs hR)
  | ishr =>
    obtain rfl : len = 1 := eq_of_beq hln
    obtain ⟨x1, y1, r1, z1, rfl, hz, hg⟩ := am_bin_inv ha
    cases hz; cases hg
    simp only [Nat.sub_self, Nat.add_zero] at kk
    exact lv_ishr hx hb hdec (kk ls H locs hR)
  | iushr =>
    obtain rfl : len = 1 := eq_of_beq hln
    obtain ⟨x1, y1, r1, z1, rfl, hz, hg⟩ := am_bin_inv ha
    cases hz; cases hg
    simp only [Nat.sub_self, Nat.add_zero] at kk
    exact lv_iushr hx hb hdec rfl (kk ls H locs hR)
  | idiv =>
    obtain rfl : len = 1 := eq_of_beq hln
    obtain ⟨x1, y1, r1, z1, rfl, hz, hg⟩ := am_bin_inv ha
    by_cases h0 : y1 = 0
    · rw [if_pos h0] at hz; cases hz
    · rw [if_neg h0] at hz
      cases hz; cases hg
      simp only [Nat.sub_self, Nat.add_zero] at kk
      exact lv_idiv hx hb hdec h0 (kk ls H locs hR)
  | irem =>
    obtain rfl : len = 1 := eq_of_beq hln
    obtain ⟨x1, y1, r1, z1, rfl, hz, hg⟩ := am_bin_inv ha
    by_cases h0 : y1 = 0
    · rw [if_pos h0] at hz; cases hz
    · rw [if_neg h0] at hz
      cases hz; cases hg
      simp only [Nat.sub_self, Nat.add_zero] at kk
      exact lv_irem hx hb hdec h0 (kk ls H locs hR)
  | i2c =>
    obtain rfl : len = 1 := eq_of_beq hln
    obtain ⟨x1, r1, rfl, hg⟩ := am_un_inv ha
    cases hg
    simp only [Nat.sub_self, Nat.add_zero] at kk
    exact lv_i2c hx hb hdec rfl (kk ls H locs hR)
  | i2l =>
    obtain rfl : len = 1 := eq_of_beq hln
    obtain ⟨x1, r1, rfl, hg⟩ := am_un_inv ha
    cases hg
    simp only [Nat.sub_self, Nat.add_zero] at kk
    exact lv_i2l hx hb hdec rfl (kk ls H locs hR)
  | iconst v =>
    obtain rfl : len = 1 := eq_of_beq hln
    cases ha
    simp only [Nat.sub_self, Nat.add_zero] at kk
    exact lv_iconst hx hb hdec rfl (kk ls H locs hR)
  | bipush v =>
    obtain rfl : len = 2 := eq_of_beq hln
    cases ha
    simp only [Nat.sub_self, Nat.add_zero] at kk
    exact lv_bipush hx hb hdec rfl (kk ls H locs hR)
  | sipush v =>
    obtain rfl : len = 3 := eq_of_beq hln
    cases ha
    simp only [Nat.sub_self, Nat.add_zero] at kk
    exact lv_sipush hx hb hdec rfl (kk ls H locs hR)
  | ldc i =>
    obtain rfl : len = 2 := eq_of_beq hln
    cases ha
    simp only [Nat.sub_self, Nat.add_zero] at kk
    exact lv_ldc hx hb hown (hts _ hlk) hdec (kk ls H locs hR)
  | iload_n k =>
    obtain rfl : len = 1 := eq_of_beq hln
    obtain ⟨v, hv, hj, hg, hb2⟩ := am_ld_inv ha
    cases hg
    simp only [Nat.sub_self, Nat.add_zero] at kk
    exact am_s_load hx hb (Or.inl ⟨rfl, Or.inr ⟨k, rfl, rfl⟩⟩) hdec hR hv hj hb2 (kk ls H locs hR)
  | iload k =>
    obtain rfl : len = 2 := eq_of_beq hln
    obtain ⟨v, hv, hj, hg, hb2⟩ := am_ld_inv ha
    cases hg
    simp only [Nat.sub_self, Nat.add_zero] at kk
    exact am_s_load hx hb (Or.inl ⟨rfl, Or.inl rfl⟩) hdec hR hv hj hb2 (kk ls H locs hR)
  | aload_n k =>
    obtain rfl : len = 1 := eq_of_beq hln
    obtain ⟨v, hv, hj, hg, hb2⟩ := am_ld_inv ha
    cases hg
    simp only [Nat.sub_self, Nat.add_zero] at kk
    exact am_s_load hx hb (Or.inr ⟨rfl, Or.inr ⟨k, rfl, rfl⟩⟩) hdec hR hv hj hb2 (kk ls H locs hR)
  | aload k =>
    obtain rfl : len = 2 := eq_of_beq hln
    obtain ⟨v, hv, hj, hg, hb2⟩ := am_ld_inv ha
    cases hg
    simp only [Nat.sub_self, Nat.add_zero] at kk
    exact am_s_load hx hb (Or.inr ⟨rfl, Or.inl rfl⟩) hdec hR hv hj hb2 (kk ls H locs hR)
  | istore_n k =>
    obtain rfl : len = 1 := eq_of_beq hln
    obtain ⟨v, r1, rfl, hk, hg, hb2⟩ := am_st_inv ha
    cases hg
    simp only [Nat.sub_self, Nat.add_zero] at kk
    exact am_s_store hx hb (Or.inl ⟨rfl, Or.inr ⟨k, rfl, rfl⟩⟩) hdec hR hk hb2 (fun ls' h => kk ls' H locs h)
  | istore k =>
    obtain rfl : len = 2 := eq_of_beq hln
    obtain ⟨v, r1, rfl, hk, hg, hb2⟩ := am_st_inv ha
    cases hg
    simp only [Nat.sub_self, Nat.add_zero] at kk
    exact am_s_store hx hb (Or.inl ⟨rfl, Or.inl rfl⟩) hdec hR hk hb2 (fun ls' h => kk ls' H locs h)
  | astore_n k =>
    obtain rfl : len = 1 := eq_of_beq hln
    obtain ⟨v, r1, rfl, hk, hg, hb2⟩ := am_st_inv ha
    cases hg
    simp only [Nat.sub_self, Nat.add_zero] at kk
    exact am_s_store hx hb (Or.inr ⟨rfl, Or.inr ⟨k, rfl, rfl⟩⟩) hdec hR hk hb2 (fun ls' h => kk ls' H locs h)
  | astore k =>
    obtain rfl : len = 2 := eq_of_beq hln
    obtain ⟨v, r1, rfl, hk, hg, hb2⟩ := am_st_inv ha
    cases hg
    simp only [Nat.sub_self, Nat.add_zero] at kk
    exact am_s_store hx hb (Or.inr ⟨rfl, Or.inl rfl⟩) hdec hR hk hb2 (fun ls' h => kk ls' H locs h)
  | iinc k v =>
    obtain rfl : len = 3 := eq_of_beq hln
    replace ha : (match L[k]? with
      | some (.int x) => some ((pc + 3, L.set k (.int (x + Int32.ofInt v)), st, n, M))
      | _ => none : Option am_G) = some g' := ha
    split at ha
    · rename_i x1 hv
      cases ha
      simp only [Nat.sub_self, Nat.add_zero] at kk
      exact am_s_iinc hx hb hdec hR hv (fun ls' h => kk ls' H locs h)
    · cases ha
  | dup =>
    obtain rfl : len = 1 := eq_of_beq hln
    rcases st with _ | ⟨v, r1⟩
    · cases ha
    · replace ha : (if am_c1 v = true then some ((pc + 1, L, v :: v :: r1, n, M)) else none : Option am_G) = some g' := ha
      split at ha
      · rename_i h1
        cases ha
        simp only [Nat.sub_self, Nat.add_zero] at kk
        exact lv_dup hx hb hdec (am_c1_cat h1) (kk ls H locs hR)
      · cases ha
  | dup_x1 =>
    obtain rfl : len = 1 := eq_of_beq hln
    rcases st with _ | ⟨v, _ | ⟨w, r1⟩⟩
    · cases ha
    · cases ha
    · replace ha : (if am_c1 v = true ∧ am_c1 w = true then some ((pc + 1, L, v :: w :: v :: r1, n, M)) else none : Option am_G) = some g' := ha
      split at ha
      · rename_i h1
        cases ha
        simp only [Nat.sub_self, Nat.add_zero] at kk
        exact lv_dup_x1 hx hb hdec (am_c1_cat h1.1) (am_c1_cat h1.2) (kk ls H locs hR)
      · cases ha
  | dup2 =>
    obtain rfl : len = 1 := eq_of_beq hln
    rcases st with _ | ⟨v, _ | ⟨w, r1⟩⟩
    · cases ha
    · cases ha
    · replace ha : (if am_c1 v = true ∧ am_c1 w = true then some ((pc + 1, L, v :: w :: v :: w :: r1, n, M)) else none : Option am_G) = some g' := ha
      split at ha
      · rename_i h1
        cases ha
        simp only [Nat.sub_self, Nat.add_zero] at kk
        exact lv_dup2_11 hx hb hdec (am_c1_cat h1.1) (am_c1_cat h1.2) (kk ls H locs hR)
      · cases ha
  | pop =>
    obtain rfl : len = 1 := eq_of_beq hln
    rcases st with _ | ⟨v, r1⟩
    · cases ha
    · replace ha : (if am_c1 v = true then some ((pc + 1, L, r1, n, M)) else none : Option am_G) = some g' := ha
      split at ha
      · rename_i h1
        cases ha
        simp only [Nat.sub_self, Nat.add_zero] at kk
        exact lv_pop hx hb hdec (am_c1_cat h1) (kk ls H locs hR)
      · cases ha
  | goto o =>
    obtain ⟨h1, h2⟩ := (Bool.and_eq_true _ _).mp hln
    obtain rfl : len = 3 := eq_of_beq h1
    cases ha
    simp only [Nat.sub_self, Nat.add_zero] at kk
    exact lv_goto hx hb hdec (am_s_tgt (of_decide_eq_true h2)) (kk ls H locs hR)
  | ifCond k o =>
    obtain ⟨h1, h2⟩ := (Bool.and_eq_true _ _).mp hln
    obtain rfl : len = 3 := eq_of_beq h1
    rcases st with _ | ⟨v, r1⟩
    · cases ha
    · cases v with
      | int x =>
        cases ha
        simp only [Nat.sub_self, Nat.add_zero] at kk
        exact am_s_if hx hb hdec (of_decide_eq_true h2) (kk ls H locs hR)
      | _ => cases ha
  | if_icmp k o =>
    obtain ⟨h1, h2⟩ := (Bool.and_eq_true _ _).mp hln
    obtain rfl : len = 3 := eq_of_beq h1
    rcases st with _ | ⟨v, _ | ⟨w, r1⟩⟩
    · cases ha
    · cases v <;> cases ha
    · cases v with
      | int y =>
        cases w with
        | int x =>
          cases ha
          simp only [Nat.sub_self, Nat.add_zero] at kk
          exact am_s_icmp hx hb hdec (of_decide_eq_true h2) (kk ls H locs hR)
        | _ => cases ha
      | _ => cases ha
  | tableswitch d lo hi offs =>
    obtain ⟨h1, h2⟩ := (Bool.and_eq_true _ _).mp hln
    rcases st with _ | ⟨v, r1⟩
    · cases ha
    · cases v with
      | int x =>
        replace ha : ((if x.toInt < lo ∨ hi < x.toInt then some (am_tgt pc d) else (offs[(x.toInt - lo).toNat]?).map (am_tgt pc)).map (fun t => (t, L, r1, n, M)) : Option am_G) = some g' := ha
        split at ha
        · rename_i h3
          cases ha
          simp only [Nat.sub_self, Nat.add_zero] at kk
          exact lv_tableOut hx hb hdec h3 (am_s_tgt (of_decide_eq_true h1)) (kk ls H locs hR)
        · rename_i h3
          cases ho : offs[(x.toInt - lo).toNat]? with
          | none => rw [ho] at ha; cases ha
          | some o =>
            rw [ho] at ha
            cases ha
            simp only [Nat.sub_self, Nat.add_zero] at kk
            have h4 : o ∈ offs.toList := by rw [← Array.getElem?_toList] at ho; exact List.mem_of_getElem? ho
            exact lv_tableIn hx hb hdec (fun q => h3 (Or.inl q)) (fun q => h3 (Or.inr q)) ho (am_s_tgt (of_decide_eq_true (List.all_eq_true.mp h2 o h4))) (kk ls H locs hR)
      | _ => cases ha
  | lookupswitch d ps =>
    obtain ⟨h0, h2⟩ := (Bool.and_eq_true _ _).mp hln
    obtain ⟨h1, h3⟩ := (Bool.and_eq_true _ _).mp h0
    rcases st with _ | ⟨v, r1⟩
    · cases ha
    · cases v with
      | int x =>
        cases ha
        simp only [Nat.sub_self, Nat.add_zero] at kk
        exact lv_lookup hx hb hdec h1 rfl (am_s_tgt (am_lo _ _ (of_decide_eq_true h3) (fun o ho => of_decide_eq_true (List.all_eq_true.mp h2 o ho)))) (kk ls H locs hR)
      | _ => cases ha
  | getfield i =>
    obtain rfl : len = 3 := eq_of_beq hln
    rcases st with _ | ⟨v, r1⟩
    · cases ha
    · cases v with
      | ref h =>
        replace ha : (am_fld M h x y).bind (fun v => some ((pc + 3, L, v :: r1, n, M)) : Value → Option am_G) = some g' := ha
        cases hv : am_fld M h x y with
        | none => rw [hv] at ha; cases ha
        | some v =>
          rw [hv] at ha
          cases ha
          simp only [Nat.sub_self, Nat.add_zero] at kk
          exact am_s_get hx hb hts hown hlk hdec hR hv (kk ls H locs hR)
      | _ => cases ha
  | putfield i =>
    obtain rfl : len = 3 := eq_of_beq hln
    rcases st with _ | ⟨v, _ | ⟨w, r1⟩⟩
    · cases ha
    · cases ha
    · cases w with
      | ref h =>
        replace ha : (if am_fit z v = true then (am_setf M h x y v).map (fun M' => (pc + 3, L, r1, n, M')) else none : Option am_G) = some g' := ha
        split at ha
        · rename_i hf
          cases hv : am_setf M h x y v with
          | none => rw [hv] at ha; cases ha
          | some M' =>
            rw [hv] at ha
            cases ha
            simp only [Nat.sub_self, Nat.add_zero] at kk
            exact am_s_put hx hb hts hown hini hlk hdec hR hv hf (fun H' locs' h => kk ls H' locs' h)
        · cases ha
      | _ => cases ha
  | getstatic i =>
    obtain rfl : len = 3 := eq_of_beq hln
    cases ha
    simp only [Nat.sub_self, Nat.add_zero] at kk
    rcases hlk with hl | ⟨host, hl⟩
    · exact va_gets (ref := am_recO) hx hb hR.2.2.2.1.2.1 hR.2.2.1 hown (hts _ hl) (fun x q => q) hdec (kk ls H locs hR)
    · exact va_getsN (ref := am_recO) hx hb hR.2.2.2.1.2.1 hR.2.2.1 hown (va_Nw.use rfl (hR.2.2.2.1.2.2.2.2.1 _ hl)) (fun x q => q) hdec (kk ls H locs hR)
  | iaload =>
    obtain rfl : len = 1 := eq_of_beq hln
    replace ha : (if x = 0 ∨ 5 ≤ x then (am_cald st (fun h i => (am_ald x M h i).map .int)).bind (fun st' => some ((pc + 1, L, st', n, M))) else none : Option am_G) = some g' := ha
    split at ha
    · rename_i ht
      obtain ⟨i1, b1, r1, v1, rfl, ho, hg⟩ := am_cald_inv ha
      cases hv : am_ald x M b1 i1 with
      | none => rw [hv] at ho; cases ho
      | some x1 =>
        rw [hv] at ho
        cases ho; cases hg
        simp only [Nat.sub_self, Nat.add_zero] at kk
        exact am_s_iald hx hb ht hdec hR hv (kk ls H locs hR)
    · cases ha
  | caload =>
    obtain rfl : len = 1 := eq_of_beq hln
    obtain ⟨i1, b1, r1, v1, rfl, ho, hg⟩ := am_cald_inv ha
    cases hv : am_ald 1 M b1 i1 with
    | none => rw [hv] at ho; cases ho
    | some x1 =>
      rw [hv] at ho
      cases ho; cases hg
      simp only [Nat.sub_self, Nat.add_zero] at kk
      exact am_s_cald hx hb hdec hR hv (kk ls H locs hR)
  | baload =>
    obtain rfl : len = 1 := eq_of_beq hln
    obtain ⟨i1, b1, r1, v1, rfl, ho, hg⟩ := am_cald_inv ha
    cases hv : am_ald 2 M b1 i1 with
    | none => rw [hv] at ho; cases ho
    | some x1 =>
      rw [hv] at ho
      cases ho; cases hg
      simp only [Nat.sub_self, Nat.add_zero] at kk
      exact am_s_zald hx hb hdec hR hv (kk ls H locs hR)
  | laload =>
    obtain rfl : len = 1 := eq_of_beq hln
    obtain ⟨i1, b1, r1, v1, rfl, ho, hg⟩ := am_cald_inv ha
    cases hv : am_lald M b1 i1 with
    | none => rw [hv] at ho; cases ho
    | some x1 =>
      rw [hv] at ho
      cases ho; cases hg
      simp only [Nat.sub_self, Nat.add_zero] at kk
      exact am_s_lald hx hb hdec hR hv (kk ls H locs hR)
  | aaload =>
    obtain rfl : len = 1 := eq_of_beq hln
    obtain ⟨i1, b1, r1, v1, rfl, ho, hg⟩ := am_cald_inv ha
    cases hg
    simp only [Nat.sub_self, Nat.add_zero] at kk
    exact am_s_aald hx hb hdec hR ho (kk ls H locs hR)
  | iastore =>
    obtain rfl : len = 1 := eq_of_beq hln
    obtain ⟨x1, i1, b1, r1, M1, rfl, hf, hv, hg⟩ := am_cast_inv ha
    cases hg
    simp only [Nat.sub_self, Nat.add_zero] at kk
    exact am_s_ast hx hb (Or.inl ⟨rfl, rfl⟩) hdec hR hv (fun H' locs' h => kk ls H' locs' h)
  | castore =>
    obtain rfl : len = 1 := eq_of_beq hln
    obtain ⟨x1, i1, b1, r1, M1, rfl, hf, hv, hg⟩ := am_cast_inv ha
    cases hg
    simp only [Nat.sub_self, Nat.add_zero] at kk
    exact am_s_ast hx hb (Or.inr (Or.inl ⟨rfl, rfl, hf⟩)) hdec hR hv (fun H' locs' h => kk ls H' locs' h)
  | bastore =>
    obtain rfl : len = 1 := eq_of_beq hln
    obtain ⟨x1, i1, b1, r1, M1, rfl, hf, hv, hg⟩ := am_cast_inv ha
    cases hg
    simp only [Nat.sub_self, Nat.add_zero] at kk
    exact am_s_ast hx hb (Or.inr (Or.inr ⟨rfl, rfl, hf⟩)) hdec hR hv (fun H' locs' h => kk ls H' locs' h)
  | arraylength =>
    obtain rfl : len = 1 := eq_of_beq hln
    rcases st with _ | ⟨v, r1⟩
    · cases ha
    · cases v with
      | ref h =>
        replace ha : (am_len M h).bind (fun v => some ((pc + 1, L, .int v :: r1, n, M)) : Int32 → Option am_G) = some g' := ha
        cases hv : am_len M h with
        | none => rw [hv] at ha; cases ha
        | some v =>
          rw [hv] at ha
          cases ha
          simp only [Nat.sub_self, Nat.add_zero] at kk
          exact am_s_len hx hb hdec hR hv (kk ls H locs hR)
      | _ => cases ha
  | lcmp =>
    obtain rfl : len = 1 := eq_of_beq hln
    rcases st with _ | ⟨v, _ | ⟨w, r1⟩⟩
    · cases ha
    · cases v <;> cases ha
    · cases v with
      | long y1 =>
        cases w with
        | long x1 =>
          cases ha
          simp only [Nat.sub_self, Nat.add_zero] at kk
          exact W.lcmp hx hb hdec (kk ls H locs hR)
        | _ => cases ha
      | _ => cases ha
  | lastore =>
    obtain rfl : len = 1 := eq_of_beq hln
    rcases st with _ | ⟨v, _ | ⟨w, _ | ⟨u, r1⟩⟩⟩
    · cases ha
    · cases v <;> cases ha
    · cases v <;> first | cases ha | (cases w <;> cases ha)
    · cases v with
      | long x1 =>
        cases w with
        | int i1 =>
          cases u with
          | ref h =>
            replace ha : ((am_last M h i1 x1).map (fun M' => (pc + 1, L, r1, n, M')) : Option am_G) = some g' := ha
            cases hv : am_last M h i1 x1 with
            | none => rw [hv] at ha; cases ha
            | some M' =>
              rw [hv] at ha
              cases ha
              simp only [Nat.sub_self, Nat.add_zero] at kk
              exact am_s_last hx hb hdec hR hv (fun H' locs' h => kk ls H' locs' h)
          | _ => cases ha
        | _ => cases ha
      | _ => cases ha
  | aastore =>
    obtain rfl : len = 1 := eq_of_beq hln
    rcases st with _ | ⟨v, _ | ⟨w, _ | ⟨u, r1⟩⟩⟩
    · cases ha
    · cases v <;> cases ha
    · cases v <;> first | cases ha | (cases w <;> cases ha)
    · cases v with
      | ref v1 =>
        cases w with
        | int i1 =>
          cases u with
          | ref h =>
            replace ha : ((am_aast M h i1 v1).map (fun M' => (pc + 1, L, r1, n, M')) : Option am_G) = some g' := ha
            cases hv : am_aast M h i1 v1 with
            | none => rw [hv] at ha; cases ha
            | some M' =>
              rw [hv] at ha
              cases ha
              simp only [Nat.sub_self, Nat.add_zero] at kk
              exact am_s_aast hx hb hdec hR hv (fun H' locs' h => kk ls H' locs' h)
          | _ => cases ha
        | _ => cases ha
      | _ => cases ha
  | new i =>
    obtain rfl : len = 3 := eq_of_beq hln
    replace ha : (if x = 1000 then none else if n.2.2.2 = true ∧ n.1 < 100000 then some ((pc + 3, L, .ref n.1 :: st, (n.1 + 1, n.2.1 + 1, n.2.2.1 + (am_df x).length, true), am_up M n.1 (am_O x (am_df x)))) else none : Option am_G) = some g' := ha
    split at ha
    · cases ha
    · rename_i hx0
      split at ha
      · rename_i hal
        cases ha
        simp only [Nat.add_sub_cancel_left] at kk hcr hsr
        exact am_s_new hx hb hts hown (hlk hx0) hdec hR hal.1 hal.2 (by omega) (by omega) (fun H' h => kk ls H' locs h)
      · cases ha
  | newarray t =>
    obtain rfl : len = 2 := eq_of_beq hln
    rcases st with _ | ⟨v, r1⟩
    · cases ha
    · cases v with
      | int k =>
        replace ha : (if n.2.2.2 = true ∧ n.1 < 100000 ∧ ¬ k < 0 ∧ k.toNatClampNeg ≤ 100000 then (am_newa t k.toNatClampNeg).map (fun c => (pc + 2, L, .ref n.1 :: r1, (n.1 + 1, n.2.1 + 1, n.2.2.1 + k.toNatClampNeg, !(am_isJ c)), am_up M n.1 c)) else none : Option am_G) = some g' := ha
        split at ha
        · rename_i hal
          cases hv : am_newa t k.toNatClampNeg with
          | none => rw [hv] at ha; cases ha
          | some d =>
            rw [hv] at ha
            cases ha
            simp only [Nat.add_sub_cancel_left] at kk hcr hsr
            exact am_s_newa (n' := (n.1 + 1, n.2.1 + 1, n.2.2.1 + k.toNatClampNeg, !(am_isJ d))) hx hb (hts _ hlk) hv hal.2.2.1 hal.2.2.2 hdec hR hal.1 hal.2.1 rfl (by omega) (by omega) (fun H' h => kk ls H' locs h)
        · cases ha
      | _ => cases ha
  | anewarray i =>
    obtain rfl : len = 3 := eq_of_beq hln
    rcases st with _ | ⟨v, r1⟩
    · cases ha
    · cases v with
      | int k =>
        replace ha : (if n.2.2.2 = true ∧ n.1 < 100000 ∧ ¬ k < 0 ∧ k.toNatClampNeg ≤ 100000 then some ((pc + 3, L, .ref n.1 :: r1, (n.1 + 1, n.2.1 + 1, n.2.2.1 + k.toNatClampNeg, true), am_up M n.1 (am_R 4 k.toNatClampNeg (fun _ => none)))) else none : Option am_G) = some g' := ha
        split at ha
        · rename_i hal
          cases ha
          simp only [Nat.add_sub_cancel_left] at kk hcr hsr
          exact am_s_anew hx hb hown (hts _ hlk.1) (hR.2.2.2.1.2.2.2.2.1 _ hlk.2) hal.2.2.1 hal.2.2.2 hdec hR hal.1 hal.2.1 (by omega) (by omega) (fun H' h => kk ls H' locs h)
        · cases ha
      | _ => cases ha
  | _ => exact (Option.some_ne_none _ (show (none : Option am_G) = some g' from ha).symm).elim
end AMX
