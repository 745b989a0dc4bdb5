/-! what a method does, as a predicate transformer; one equation an instruction -/
def am_AW (d j : Nat) (g : am_G) (Q : Option Value → am_N → am_M → Prop) : Prop := ∃ k res, am_run (am_cd (am_md j)) (am_ex am_md d) k g = some res ∧ Q res.1 res.2.1 res.2.2
def am_Do (d j : Nat) (as : List Value) (n : am_N) (M : am_M) (Q : Option Value → am_N → am_M → Prop) : Prop := ∃ res, am_ex am_md d j as n M = some res ∧ Q res.1 res.2.1 res.2.2
theorem am_Do.mono {d d' j : Nat} {as : List Value} {n : am_N} {M : am_M} {Q Q' : Option Value → am_N → am_M → Prop} (h : am_Do d j as n M Q) (hd : d ≤ d') (hQ : ∀ r n' M', Q r n' M' → Q' r n' M') : am_Do d' j as n M Q' := by
  obtain ⟨res, h1, h2⟩ := h
  exact ⟨res, am_ex_le hd h1, hQ _ _ _ h2⟩
theorem am_AW.mono {d d' j : Nat} {g : am_G} {Q Q' : Option Value → am_N → am_M → Prop} (h : am_AW d j g Q) (hd : d ≤ d') (hQ : ∀ r n' M', Q r n' M' → Q' r n' M') : am_AW d' j g Q' := by
  obtain ⟨k, res, h1, h2⟩ := h
  exact ⟨k, res, am_run_more (fun _ _ _ _ _ q => am_ex_le hd q) (Nat.le_refl _) h1, hQ _ _ _ h2⟩
theorem am_ex_succ {d j : Nat} {as : List Value} {n : am_N} {M : am_M} : am_ex am_md (d + 1) j as n M = if j = 2000 then some (none, n, M) else if j = 2001 then am_acopy as n M else
    if as.all am_c1 = true ∧ as.length ≤ (am_md j).2.2.2.1 then am_fin (am_cd (am_md j)) (am_ex am_md d) (0, am_ent (am_md j).2.2.2.1 as, [], n, M) else none := rfl
theorem am_Do_eq {d j : Nat} {as : List Value} {n : am_N} {M : am_M} {Q : Option Value → am_N → am_M → Prop} (h0 : j ≠ 2000) (h1 : j ≠ 2001) (h2 : as.all am_c1 = true ∧ as.length ≤ (am_md j).2.2.2.1) : am_Do (d + 1) j as n M Q = am_AW d j (0, am_ent (am_md j).2.2.2.1 as, [], n, M) Q := by
  apply propext
  unfold am_Do am_AW
  rw [am_ex_succ, if_neg h0, if_neg h1, if_pos h2]
  constructor
  · rintro ⟨res, h, hq⟩
    obtain ⟨k, hk⟩ := am_fin_iff.mp h
    exact ⟨k, res, hk, hq⟩
  · rintro ⟨k, res, h, hq⟩
    exact ⟨res, am_fin_iff.mpr ⟨k, h⟩, hq⟩
theorem am_Do_2000 {d : Nat} {as : List Value} {n : am_N} {M : am_M} {Q : Option Value → am_N → am_M → Prop} : am_Do (d + 1) 2000 as n M Q = Q none n M := by
  apply propext
  unfold am_Do
  rw [am_ex_succ, if_pos rfl]
  constructor
  · rintro ⟨res, h, hq⟩
    cases h
    exact hq
  · intro h
    exact ⟨_, rfl, h⟩
theorem am_Do_2001 {d : Nat} {as : List Value} {n : am_N} {M : am_M} {Q : Option Value → am_N → am_M → Prop} : am_Do (d + 1) 2001 as n M Q = ∃ res, am_acopy as n M = some res ∧ Q res.1 res.2.1 res.2.2 := by
  unfold am_Do
  rw [am_ex_succ, if_neg (by decide), if_pos rfl]
theorem am_AW_go {d j pc : Nat} {L st : List Value} {n : am_N} {M : am_M} {q : am_X} {g' : am_G} {Q : Option Value → am_N → am_M → Prop} (hc : am_cd (am_md j) pc = some q) (hk : am_isK q = 0) (ha : am_act0 q (pc, L, st, n, M) = some g') (hn : g'.2.2.2.1 = n) : am_AW d j (pc, L, st, n, M) Q = am_AW d j g' Q := by
  have hm : am_mono n g'.2.2.2.1 = true := by rw [hn]; exact am_mono_self n
  apply propext
  constructor
  · rintro ⟨k, res, h, hq⟩
    cases k with
    | zero => cases h
    | succ k =>
      unfold am_run at h
      simp only [hc, hk, ha, hm, if_true] at h
      exact ⟨k, res, h, hq⟩
  · rintro ⟨k, res, h, hq⟩
    refine ⟨k + 1, res, ?_, hq⟩
    unfold am_run
    simp only [hc, hk, ha, hm, if_true]
    exact h
/-- an instruction that goes on if it can -/
theorem am_AW_op {d j pc : Nat} {L st : List Value} {n : am_N} {M : am_M} {q : am_X} {α : Type} {o : Option α} {f : α → am_G} {Q : Option Value → am_N → am_M → Prop} (hc : am_cd (am_md j) pc = some q) (hk : am_isK q = 0) (ha : am_act0 q (pc, L, st, n, M) = o.map f) (hn : ∀ v, (f v).2.2.2.1 = n) : am_AW d j (pc, L, st, n, M) Q = ∃ v, o = some v ∧ am_AW d j (f v) Q := by
  cases ho : o with
  | none =>
    apply propext
    constructor
    · rintro ⟨k, res, h, hq⟩
      cases k with
      | zero => cases h
      | succ k =>
        unfold am_run at h
        simp only [hc, hk, ha, ho, Option.map_none] at h
        cases h
    · rintro ⟨v, h, -⟩
      cases h
  | some v =>
    rw [ho] at ha
    rw [am_AW_go hc hk ha (hn v)]
    apply propext
    constructor
    · intro h; exact ⟨v, rfl, h⟩
    · rintro ⟨w, h, hq⟩
      cases h
      exact hq
theorem am_AW_ret {d j pc : Nat} {L st : List Value} {n : am_N} {M : am_M} {q : am_X} {rv : Option Value × am_N} {Q : Option Value → am_N → am_M → Prop} (hc : am_cd (am_md j) pc = some q) (hk : am_isK q = 1) (ha : am_actR q st n = some rv) (hm : am_mono n rv.2 = true) : am_AW d j (pc, L, st, n, M) Q = Q rv.1 rv.2 M := by
  apply propext
  constructor
  · rintro ⟨k, res, h, hq⟩
    cases k with
    | zero => cases h
    | succ k =>
      unfold am_run at h
      simp only [hc, hk, ha, hm, if_true] at h
      cases h
      exact hq
  · intro hq
    refine ⟨1, (rv.1, rv.2, M), ?_, hq⟩
    unfold am_run
    simp only [hc, hk, ha, hm, if_true]
theorem am_AW_call {d j pc i : Nat} {L st as rest : List Value} {n : am_N} {M : am_M} {q : am_X} {Q : Option Value → am_N → am_M → Prop} (hc : am_cd (am_md j) pc = some q) (hk : am_isK q = 2) (ha : am_actC q st M = some (i, as, rest)) :
    am_AW d j (pc, L, st, n, M) Q = am_Do d i as n M (fun r n' M' => am_mono n n' = true ∧ ((r = am_thrown ∧ q.2.2.2.2 ≠ 0 ∧ Q (some (.int 1)) n' M') ∨ (r ≠ am_thrown ∧ am_AW d j (pc + 3, L, r.toList ++ rest, n', M') Q))) := by
  apply propext
  constructor
  · rintro ⟨k, res, h, hq⟩
    cases k with
    | zero => cases h
    | succ k =>
      unfold am_run at h
      simp only [hc, hk, ha] at h
      split at h
      · cases h
      · rename_i r n' M' hr
        refine ⟨(r, n', M'), hr, ?_⟩
        split at h
        · rename_i hm
          refine ⟨hm, ?_⟩
          split at h
          · rename_i ht
            split at h
            · cases h
            · rename_i hz
              cases h
              exact Or.inl ⟨ht, hz, hq⟩
          · rename_i ht
            exact Or.inr ⟨ht, k, res, h, hq⟩
        · cases h
  · rintro ⟨⟨r, n', M'⟩, hr, hm, h⟩
    rcases h with ⟨ht, hz, hq⟩ | ⟨ht, k, res, h, hq⟩
    · refine ⟨1, (some (.int 1), n', M'), ?_, hq⟩
      unfold am_run
      simp only [hc, hk, ha, hr]
      rw [if_pos hm, if_pos ht, if_neg hz]
    · refine ⟨k + 1, res, ?_, hq⟩
      unfold am_run
      simp only [hc, hk, ha, hr]
      rw [if_pos hm, if_neg ht]
      exact h
section AWS
variable {d j pc : Nat} {L st : List Value} {n : am_N} {M : am_M} {Q : Option Value → am_N → am_M → Prop}
theorem am_AW_put {i x y z h : Nat} {v : Value} (hc : am_cd (am_md j) pc = some (.putfield i, 3, x, y, z)) : am_AW d j (pc, L, v :: .ref h :: st, n, M) Q = (am_fit z v = true ∧ ∃ M', am_setf M h x y v = some M' ∧ am_AW d j (pc + 3, L, st, n, M') Q) := by
  by_cases hf : am_fit z v = true
  · rw [am_AW_op (o := am_setf M h x y v) (f := fun M' => (pc + 3, L, st, n, M')) (L := L) (st := v :: .ref h :: st) (n := n) (M := M) hc rfl (show (if am_fit z v = true then (am_setf M h x y v).map (fun M' => (pc + 3, L, st, n, M')) else none) = _ from if_pos hf) (fun _ => rfl)]
    simp only [hf, true_and]
  · apply propext
    constructor
    · rintro ⟨k, res, h1, hq⟩
      cases k with
      | zero => cases h1
      | succ k =>
        unfold am_run at h1
        simp only [hc, show am_isK (Instr.putfield i, 3, x, y, z) = 0 from rfl, show am_act0 (.putfield i, 3, x, y, z) (pc, L, v :: .ref h :: st, n, M) = none from if_neg hf] at h1
        cases h1
    · rintro ⟨h1, -⟩
      exact absurd h1 hf
theorem am_AW_ast {ins : Instr} {z t x h : Nat} {i v : Int32} (hc : am_cd (am_md j) pc = some (ins, 1, x, 0, 0)) (hi : (ins = .iastore ∧ z = 0 ∧ t = 0) ∨ (ins = .castore ∧ z = 2 ∧ t = 1) ∨ (ins = .bastore ∧ z = 1 ∧ t = 2)) : am_AW d j (pc, L, .int v :: .int i :: .ref h :: st, n, M) Q = (am_fit z (.int v) = true ∧ ∃ M', am_ast t M h i v = some M' ∧ am_AW d j (pc + 1, L, st, n, M') Q) := by
  have hk : am_isK (ins, 1, x, 0, 0) = 0 := by rcases hi with ⟨rfl, -⟩ | ⟨rfl, -⟩ | ⟨rfl, -⟩ <;> rfl
  have ha : am_act0 (ins, 1, x, 0, 0) (pc, L, .int v :: .int i :: .ref h :: st, n, M) = (if am_fit z (.int v) = true then (am_ast t M h i v).map (fun M' => (st, M')) else none).map (fun r => (pc + 1, L, r.1, n, r.2)) := by
    rcases hi with ⟨rfl, rfl, rfl⟩ | ⟨rfl, rfl, rfl⟩ | ⟨rfl, rfl, rfl⟩ <;> rfl
  by_cases hf : am_fit z (.int v) = true
  · rw [if_pos hf, Option.map_map] at ha
    rw [am_AW_op (o := am_ast t M h i v) (f := (fun r : List Value × am_M => (pc + 1, L, r.1, n, r.2)) ∘ (fun M' => (st, M'))) hc hk ha (fun _ => rfl)]
    simp only [hf, true_and]
    rfl
  · rw [if_neg hf] at ha
    apply propext
    constructor
    · rintro ⟨k, res, h1, hq⟩
      cases k with
      | zero => cases h1
      | succ k =>
        unfold am_run at h1
        simp only [hc, hk, ha, Option.map_none] at h1
        cases h1
    · rintro ⟨h1, -⟩
      exact absurd h1 hf
theorem am_AW_if {k : ClassFile.Cond} {o : Int} {x : Int32} (hc : am_cd (am_md j) pc = some (.ifCond k o, 3, 0, 0, 0)) : am_AW d j (pc, L, .int x :: st, n, M) Q = if am_cond k x 0 = true then am_AW d j (am_tgt pc o, L, st, n, M) Q else am_AW d j (pc + 3, L, st, n, M) Q := by
  rw [am_AW_go (g' := (if am_cond k x 0 = true then am_tgt pc o else pc + 3, L, st, n, M)) hc rfl rfl rfl]
  split <;> rfl
theorem am_AW_icmp {k : ClassFile.Cond} {o : Int} {x y : Int32} (hc : am_cd (am_md j) pc = some (.if_icmp k o, 3, 0, 0, 0)) : am_AW d j (pc, L, .int y :: .int x :: st, n, M) Q = if am_cond k x y = true then am_AW d j (am_tgt pc o, L, st, n, M) Q else am_AW d j (pc + 3, L, st, n, M) Q := by
  rw [am_AW_go (g' := (if am_cond k x y = true then am_tgt pc o else pc + 3, L, st, n, M)) hc rfl rfl rfl]
  split <;> rfl
theorem am_ite_eq {x y : Int32} {A B : Prop} : (if am_cond .eq x y = true then A else B) = if x = y then A else B := by
  by_cases h : x = y
  · rw [if_pos h, if_pos (show am_cond .eq x y = true from decide_eq_true h)]
  · rw [if_neg h, if_neg (show ¬ am_cond .eq x y = true from fun q => h (of_decide_eq_true q))]
theorem am_ite_ne {x y : Int32} {A B : Prop} : (if am_cond .ne x y = true then A else B) = if x = y then B else A := by
  by_cases h : x = y
  · rw [if_pos h, if_neg (show ¬ am_cond .ne x y = true from fun q => of_decide_eq_true q h)]
  · rw [if_neg h, if_pos (show am_cond .ne x y = true from decide_eq_true h)]
theorem am_ite_lt {x y : Int32} {A B : Prop} : (if am_cond .lt x y = true then A else B) = if x < y then A else B := by
  by_cases h : x < y
  · rw [if_pos h, if_pos (show am_cond .lt x y = true from decide_eq_true h)]
  · rw [if_neg h, if_neg (show ¬ am_cond .lt x y = true from fun q => h (of_decide_eq_true q))]
theorem am_ite_ge {x y : Int32} {A B : Prop} : (if am_cond .ge x y = true then A else B) = if x < y then B else A := by
  by_cases h : x < y
  · rw [if_pos h, if_neg (show ¬ am_cond .ge x y = true from fun q => Int32.not_le.mpr h (of_decide_eq_true q))]
  · rw [if_neg h, if_pos (show am_cond .ge x y = true from decide_eq_true (Int32.not_lt.mp h))]
theorem am_ite_gt {x y : Int32} {A B : Prop} : (if am_cond .gt x y = true then A else B) = if x ≤ y then B else A := by
  by_cases h : x ≤ y
  · rw [if_pos h, if_neg (show ¬ am_cond .gt x y = true from fun q => Int32.not_lt.mpr h (of_decide_eq_true q))]
  · rw [if_neg h, if_pos (show am_cond .gt x y = true from decide_eq_true (Int32.not_le.mp h))]
theorem am_ite_le {x y : Int32} {A B : Prop} : (if am_cond .le x y = true then A else B) = if x ≤ y then A else B := by
  by_cases h : x ≤ y
  · rw [if_pos h, if_pos (show am_cond .le x y = true from decide_eq_true h)]
  · rw [if_neg h, if_neg (show ¬ am_cond .le x y = true from fun q => h (of_decide_eq_true q))]
/-- the stack at a call -/
def am_okA (k : Nat) (st : List Value) : Bool := decide (k ≤ st.length) && decide ((st.drop k).length ≤ 8) && st.all am_c1
theorem am_args_ok {k : Nat} {s0 : List Value} (h : am_okA k s0 = true) : am_args k s0 = some ((s0.take k).reverse, s0.drop k) := by
  unfold am_okA at h
  simp only [Bool.and_eq_true, decide_eq_true_eq] at h
  unfold am_args
  rw [if_pos ⟨h.1.1, h.1.2, h.2⟩]
theorem am_args_no {k : Nat} {s0 : List Value} (h : ¬ am_okA k s0 = true) : am_args k s0 = none := by
  unfold am_args
  rw [if_neg]
  intro q
  apply h
  unfold am_okA
  simp only [Bool.and_eq_true, decide_eq_true_eq]
  exact ⟨⟨q.1, q.2.1⟩, q.2.2⟩
theorem am_AW_none {q : am_X} (hc : am_cd (am_md j) pc = some q) (hk : am_isK q = 2) (ha : am_actC q st M = none) : am_AW d j (pc, L, st, n, M) Q = False := by
  apply propext
  constructor
  · rintro ⟨k, res, h1, hq⟩
    cases k with
    | zero => cases h1
    | succ k =>
      unfold am_run at h1
      simp only [hc, hk, ha] at h1
      cases h1
  · exact False.elim
/-- what goes on behind a call -/
def am_then (d j pc z : Nat) (L rest : List Value) (n : am_N) (Q : Option Value → am_N → am_M → Prop) : Option Value → am_N → am_M → Prop := fun r n' M' => am_mono n n' = true ∧ ((r = am_thrown ∧ z ≠ 0 ∧ Q (some (.int 1)) n' M') ∨ (r ≠ am_thrown ∧ am_AW d j (pc, L, r.toList ++ rest, n', M') Q))
theorem am_AW_cs {i x y z : Nat} (hc : am_cd (am_md j) pc = some (.invokestatic i, 3, x, y, z)) : am_AW d j (pc, L, st, n, M) Q = (am_okA y st = true ∧ am_Do d x (st.take y).reverse n M (am_then d j (pc + 3) z L (st.drop y) n Q)) := by
  by_cases h : am_okA y st = true
  · rw [am_AW_call hc rfl (show (am_args y st).map _ = _ by rw [am_args_ok h]; rfl)]
    simp only [h, true_and]
    rfl
  · rw [am_AW_none hc rfl (show (am_args y st).map _ = _ by rw [am_args_no h]; rfl)]
    simp only [h, Bool.false_eq_true, false_and]
theorem am_AW_ci {i x y z : Nat} (hc : am_cd (am_md j) pc = some (.invokespecial i, 3, x, y, z)) : am_AW d j (pc, L, st, n, M) Q = (am_okA y st = true ∧ am_isR (st.take y).reverse = true ∧ am_Do d x (st.take y).reverse n M (am_then d j (pc + 3) z L (st.drop y) n Q)) := by
  by_cases h : am_okA y st = true
  · by_cases h2 : am_isR (st.take y).reverse = true
    · rw [am_AW_call hc rfl (show (am_args y st).bind _ = _ by rw [am_args_ok h]; exact if_pos h2)]
      simp only [h, h2, true_and]
      rfl
    · rw [am_AW_none hc rfl (show (am_args y st).bind _ = _ by rw [am_args_ok h]; exact if_neg h2)]
      simp only [h2, Bool.false_eq_true, false_and, and_false]
  · rw [am_AW_none hc rfl (show (am_args y st).bind _ = _ by rw [am_args_no h]; rfl)]
    simp only [h, Bool.false_eq_true, false_and]
theorem am_AW_cv {i x y z : Nat} (hc : am_cd (am_md j) pc = some (.invokevirtual i, 3, x, y, z)) : am_AW d j (pc, L, st, n, M) Q = (am_okA (y % 100) st = true ∧ am_isO M (st.take (y % 100)).reverse (y / 100) = true ∧ am_Do d x (st.take (y % 100)).reverse n M (am_then d j (pc + 3) z L (st.drop (y % 100)) n Q)) := by
  by_cases h : am_okA (y % 100) st = true
  · by_cases h2 : am_isO M (st.take (y % 100)).reverse (y / 100) = true
    · rw [am_AW_call hc rfl (show (am_args (y % 100) st).bind _ = _ by rw [am_args_ok h]; exact if_pos h2)]
      simp only [h, h2, true_and]
      rfl
    · rw [am_AW_none hc rfl (show (am_args (y % 100) st).bind _ = _ by rw [am_args_ok h]; exact if_neg h2)]
      simp only [h2, Bool.false_eq_true, false_and, and_false]
  · rw [am_AW_none hc rfl (show (am_args (y % 100) st).bind _ = _ by rw [am_args_no h]; rfl)]
    simp only [h, Bool.false_eq_true, false_and]
/-- a callee that only answers -/
theorem am_then_id {d j pc : Nat} {L rest : List Value} {n : am_N} {M : am_M} {r : Option Value} (h : r ≠ am_thrown) : am_then d j pc 0 L rest n Q r n M = am_AW d j (pc, L, r.toList ++ rest, n, M) Q := by
  apply propext
  unfold am_then
  constructor
  · rintro ⟨-, ⟨h1, h2, -⟩ | ⟨-, h1⟩⟩
    · exact absurd rfl h2
    · exact h1
  · intro h1
    exact ⟨am_mono_self n, Or.inr ⟨h, h1⟩⟩
theorem am_then_i {d j pc : Nat} {L rest : List Value} {n : am_N} {M : am_M} {x : Int32} : am_then d j pc 0 L rest n Q (some (.int x)) n M = am_AW d j (pc, L, .int x :: rest, n, M) Q := am_then_id (fun q => by cases q)
theorem am_then_r {d j pc : Nat} {L rest : List Value} {n : am_N} {M : am_M} {x : Nat} : am_then d j pc 0 L rest n Q (some (.ref x)) n M = am_AW d j (pc, L, .ref x :: rest, n, M) Q := am_then_id (fun q => by cases q)
theorem am_then_v {d j pc : Nat} {L rest : List Value} {n : am_N} {M : am_M} : am_then d j pc 0 L rest n Q none n M = am_AW d j (pc, L, rest, n, M) Q := am_then_id (fun q => by cases q)
end AWS
theorem am_bm {α β : Type} (o : Option α) (f : α → β) : o.bind (fun v => some (f v)) = o.map f := by cases o <;> rfl
theorem am_bm2 {α : Type} {pc : Nat} {L st : List Value} {n : am_N} {M : am_M} (o : Option α) (c : α → Value) (a b : Unit) : ((o.map c).map (fun v => v :: st)).bind (fun st' => some (pc, L, st', n, M)) = o.map (fun v => ((pc, L, c v :: st, n, M) : am_G)) := by cases o <;> rfl
theorem am_bm3 {pc : Nat} {L st : List Value} {n : am_N} {M : am_M} (o : Option Value) (a b : Unit) : (o.map (fun v => v :: st)).bind (fun st' => some (pc, L, st', n, M)) = o.map (fun v => ((pc, L, v :: st, n, M) : am_G)) := by cases o <;> rfl
theorem am_fit_b0 : am_fit 1 (.int 0) = true := rfl
theorem am_fit_b1 : am_fit 1 (.int 1) = true := rfl
theorem am_fit_i {x : Int32} : am_fit 0 (.int x) = true := rfl
theorem am_fit_r {x : Nat} : am_fit 3 (.ref x) = true := rfl
theorem am_fit_n : am_fit 3 .null = true := rfl
