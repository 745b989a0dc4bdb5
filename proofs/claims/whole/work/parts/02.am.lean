/-! an abstract machine over handles: what a method does, as a function of locals, stack and memory; no addresses, no tables -/
abbrev am_C : Type := (Nat × Nat × (Nat → Int32)) ⊕ (Nat × (Nat → Int64)) ⊕ (Nat × Nat × (Nat → Option Nat)) ⊕ (Nat × List Value)
abbrev am_M : Type := Nat → Option am_C
abbrev am_I (t n : Nat) (f : Nat → Int32) : am_C := .inl (t, n, f)
abbrev am_J (n : Nat) (f : Nat → Int64) : am_C := .inr (.inl (n, f))
abbrev am_R (t n : Nat) (f : Nat → Option Nat) : am_C := .inr (.inr (.inl (t, n, f)))
abbrev am_O (ci : Nat) (fs : List Value) : am_C := .inr (.inr (.inr (ci, fs)))
def am_up (M : am_M) (h : Nat) (c : am_C) : am_M := fun j => if j = h then some c else M j
/-- the next new handle; cells made, slots made so far; may cells be made -/
abbrev am_N : Type := Nat × Nat × Nat × Bool
/-- pc, locals, stack, counters, memory -/
abbrev am_G : Type := Nat × List Value × List Value × am_N × am_M
/-- an instruction, its length, three static operands -/
abbrev am_X : Type := Instr × Nat × Nat × Nat × Nat
abbrev am_Res : Type := Option Value × am_N × am_M
def am_junk : Value := .retAddr 0
def am_thrown : Option Value := some (.retAddr 1)
def am_fld (M : am_M) (h ci k : Nat) : Option Value := match M h with
  | some (.inr (.inr (.inr (c, fs)))) => if c = ci then fs[k]? else none
  | _ => none
def am_setf (M : am_M) (h ci k : Nat) (v : Value) : Option am_M := match M h with
  | some (.inr (.inr (.inr (c, fs)))) => if c = ci ∧ k < fs.length then some (am_up M h (am_O c (fs.set k v))) else none
  | _ => none
def am_in (i : Int32) (n : Nat) : Bool := decide (¬ (i < 0 ∨ n ≤ i.toNatClampNeg))
def am_ald (t : Nat) (M : am_M) (h : Nat) (i : Int32) : Option Int32 := match M h with
  | some (.inl (t', n, f)) => if t' = t ∧ am_in i n = true then some (f i.toNatClampNeg) else none
  | _ => none
def am_ast (t : Nat) (M : am_M) (h : Nat) (i x : Int32) : Option am_M := match M h with
  | some (.inl (t', n, f)) => if t' = t ∧ am_in i n = true then some (am_up M h (am_I t' n (upd f i.toNatClampNeg x))) else none
  | _ => none
def am_lald (M : am_M) (h : Nat) (i : Int32) : Option Int64 := match M h with
  | some (.inr (.inl (n, f))) => if am_in i n = true then some (f i.toNatClampNeg) else none
  | _ => none
def am_last (M : am_M) (h : Nat) (i : Int32) (x : Int64) : Option am_M := match M h with
  | some (.inr (.inl (n, f))) => if am_in i n = true then some (am_up M h (am_J n (vp_updL f i.toNatClampNeg x))) else none
  | _ => none
def am_aast (M : am_M) (h : Nat) (i : Int32) (v : Nat) : Option am_M := match M h, M v with
  | some (.inr (.inr (.inl (t, n, f)))), some (.inr (.inr (.inr (c, _)))) => if c = am_rowC ∧ am_in i n = true then some (am_up M h (am_R t n (va_up f i.toNatClampNeg (some v)))) else none
  | _, _ => none
def am_newa (t : ClassFile.ArrayType) (k : Nat) : Option am_C := match t with
  | .int => some (am_I 0 k (fun _ => 0))
  | .char => some (am_I 1 k (fun _ => 0))
  | .boolean => some (am_I 2 k (fun _ => 0))
  | .long => some (am_J k (fun _ => 0))
  | _ => none
def am_isJ (c : am_C) : Bool := match c with
  | .inr (.inl _) => true
  | _ => false
def am_aald (M : am_M) (h : Nat) (i : Int32) : Option Value := match M h with
  | some (.inr (.inr (.inl (_, n, f)))) => if am_in i n = true then some (va_rf (f i.toNatClampNeg)) else none
  | _ => none
def am_len (M : am_M) (h : Nat) : Option Int32 := match M h with
  | some (.inl (_, n, _)) => some (Int32.ofNat n)
  | some (.inr (.inl (n, _))) => some (Int32.ofNat n)
  | some (.inr (.inr (.inl (_, n, _)))) => some (Int32.ofNat n)
  | _ => none
/-- does a value go into a field or array of this type as it is -/
def am_fit (z : Nat) (v : Value) : Bool := match z with
  | 0 => match v with | .int _ => true | _ => false
  | 1 => match v with | .int x => x == 0 || x == 1 | _ => false
  | 2 => match v with | .int x => decide (0 ≤ x) && decide (x ≤ 65535) | _ => false
  | _ => match v with | .null => true | .ref _ => true | _ => false
def am_tgt (pc : Nat) (off : Int) : Nat := ((pc : Int) + off).toNat
def am_cond (c : ClassFile.Cond) (x y : Int32) : Bool := match c with
  | .eq => decide (x = y)
  | .ne => decide (¬ x = y)
  | .lt => decide (x < y)
  | .ge => decide (y ≤ x)
  | .gt => decide (y < x)
  | .le => decide (x ≤ y)
def am_bin (o : Int32 → Int32 → Option Int32) (st : List Value) : Option (List Value) := match st with
  | .int y :: .int x :: r => (o x y).map (fun z => .int z :: r)
  | _ => none
def am_un (o : Int32 → Value) (st : List Value) : Option (List Value) := match st with
  | .int x :: r => some (o x :: r)
  | _ => none
def am_cast (st : List Value) (z : Nat) (o : Nat → Int32 → Int32 → Option am_M) : Option (List Value × am_M) := match st with
  | .int x :: .int i :: .ref h :: r => if am_fit z (.int x) = true then (o h i x).map (fun M => (r, M)) else none
  | _ => none
def am_cald (st : List Value) (o : Nat → Int32 → Option Value) : Option (List Value) := match st with
  | .int i :: .ref h :: r => (o h i).map (fun v => v :: r)
  | _ => none
def am_ld (L : List Value) (k : Nat) (ref : Bool) : Option Value := match L[k]? with
  | some (.int x) => if ref then none else some (.int x)
  | some (.ref a) => if ref then some (.ref a) else none
  | some .null => if ref then some .null else none
  | _ => none
def am_st (L : List Value) (k : Nat) (ref : Bool) (st : List Value) : Option (List Value × List Value) := match st with
  | .int x :: r => if ref = false ∧ k < L.length then some (L.set k (.int x), r) else none
  | .ref a :: r => if ref = true ∧ k < L.length then some (L.set k (.ref a), r) else none
  | _ => none
def am_c1 (v : Value) : Bool := match v with
  | .int _ => true
  | .ref _ => true
  | .null => true
  | _ => false
def am_sw (q : Instr) (pc : Nat) (x : Int32) : Option Nat := match q with
  | .tableswitch d lo hi offs => if x.toInt < lo ∨ hi < x.toInt then some (am_tgt pc d) else (offs[(x.toInt - lo).toNat]?).map (am_tgt pc)
  | .lookupswitch d ps => some (am_tgt pc (Op.lookupswitch.offset ps.toList d x.toInt))
  | _ => none
/-- the default fields of a class of the world -/
def am_df (ci : Nat) : List Value := (am_dfs.getD ci [])
def am_args (k : Nat) (st : List Value) : Option (List Value × List Value) := if k ≤ st.length ∧ (st.drop k).length ≤ 8 ∧ st.all am_c1 = true then some ((st.take k).reverse, st.drop k) else none
/-- the receiver is an object of this class -/
def am_isO (M : am_M) (as : List Value) (ci : Nat) : Bool := match as with
  | .ref h :: _ => match M h with
    | some (.inr (.inr (.inr (c, _)))) => c == ci
    | _ => false
  | _ => false
def am_isR (as : List Value) : Bool := match as with
  | .ref _ :: _ => true
  | _ => false
/-- an instruction that goes on -/
def am_act0 (q : am_X) (g : am_G) : Option am_G :=
  match g with
  | (pc, L, st, n, M) =>
    let go := fun (st' : List Value) => (some (pc + q.2.1, L, st', n, M) : Option am_G)
    match q.1 with
    | .iconst v => go (.int (Int32.ofInt v) :: st)
    | .bipush v => go (.int (Int8.ofInt v).toInt32 :: st)
    | .sipush v => go (.int (Int16.ofInt v).toInt32 :: st)
    | .ldc _ => go (.int (Int32.ofNat q.2.2.1) :: st)
    | .iload_n k => (am_ld L k.val false).bind (fun v => go (v :: st))
    | .iload k => (am_ld L k false).bind (fun v => go (v :: st))
    | .aload_n k => (am_ld L k.val true).bind (fun v => go (v :: st))
    | .aload k => (am_ld L k true).bind (fun v => go (v :: st))
    | .istore_n k => (am_st L k.val false st).map (fun r => (pc + q.2.1, r.1, r.2, n, M))
    | .istore k => (am_st L k false st).map (fun r => (pc + q.2.1, r.1, r.2, n, M))
    | .astore_n k => (am_st L k.val true st).map (fun r => (pc + q.2.1, r.1, r.2, n, M))
    | .astore k => (am_st L k true st).map (fun r => (pc + q.2.1, r.1, r.2, n, M))
    | .iinc k v => match L[k]? with
      | some (.int x) => some ((pc + q.2.1, L.set k (.int (x + Int32.ofInt v)), st, n, M))
      | _ => none
    | .iadd => (am_bin (fun x y => some (x + y)) st).bind go
    | .isub => (am_bin (fun x y => some (x - y)) st).bind go
    | .imul => (am_bin (fun x y => some (x * y)) st).bind go
    | .idiv => (am_bin (fun x y => if y = 0 then none else some (x / y)) st).bind go
    | .irem => (am_bin (fun x y => if y = 0 then none else some (x - x / y * y)) st).bind go
    | .iand => (am_bin (fun x y => some (x &&& y)) st).bind go
    | .ixor => (am_bin (fun x y => some (x ^^^ y)) st).bind go
    | .ishr => (am_bin (fun x y => some (x >>> (y &&& 31))) st).bind go
    | .iushr => (am_bin (fun x y => some (x.toUInt32 >>> (y.toUInt32 &&& Int32.toUInt32 31)).toInt32) st).bind go
    | .i2c => (am_un (fun x => .int (x.toUInt32 % 65536).toInt32) st).bind go
    | .i2l => (am_un (fun x => .long x.toInt64) st).bind go
    | .dup => match st with
      | v :: r => if am_c1 v = true then go (v :: v :: r) else none
      | _ => none
    | .dup_x1 => match st with
      | v :: w :: r => if am_c1 v = true ∧ am_c1 w = true then go (v :: w :: v :: r) else none
      | _ => none
    | .dup2 => match st with
      | v :: w :: r => if am_c1 v = true ∧ am_c1 w = true then go (v :: w :: v :: w :: r) else none
      | _ => none
    | .pop => match st with
      | v :: r => if am_c1 v = true then go r else none
      | _ => none
    | .goto o => some ((am_tgt pc o, L, st, n, M))
    | .ifCond c o => match st with
      | .int x :: r => some ((if am_cond c x 0 = true then am_tgt pc o else pc + q.2.1, L, r, n, M))
      | _ => none
    | .if_icmp c o => match st with
      | .int y :: .int x :: r => some ((if am_cond c x y = true then am_tgt pc o else pc + q.2.1, L, r, n, M))
      | _ => none
    | .tableswitch d lo hi offs => match st with
      | .int x :: r => (am_sw (.tableswitch d lo hi offs) pc x).map (fun t => (t, L, r, n, M))
      | _ => none
    | .lookupswitch d ps => match st with
      | .int x :: r => (am_sw (.lookupswitch d ps) pc x).map (fun t => (t, L, r, n, M))
      | _ => none
    | .getfield _ => match st with
      | .ref h :: r => (am_fld M h q.2.2.1 q.2.2.2.1).bind (fun v => go (v :: r))
      | _ => none
    | .putfield _ => match st with
      | v :: .ref h :: r => if am_fit q.2.2.2.2 v = true then (am_setf M h q.2.2.1 q.2.2.2.1 v).map (fun M' => (pc + q.2.1, L, r, n, M')) else none
      | _ => none
    | .getstatic _ => go (.ref 100000 :: st)
    | .iaload => if q.2.2.1 = 0 ∨ 5 ≤ q.2.2.1 then (am_cald st (fun h i => (am_ald q.2.2.1 M h i).map .int)).bind go else none
    | .caload => (am_cald st (fun h i => (am_ald 1 M h i).map .int)).bind go
    | .baload => (am_cald st (fun h i => (am_ald 2 M h i).map .int)).bind go
    | .aaload => (am_cald st (fun h i => am_aald M h i)).bind go
    | .iastore => (am_cast st 0 (fun h i x => am_ast 0 M h i x)).map (fun r => (pc + q.2.1, L, r.1, n, r.2))
    | .castore => (am_cast st 2 (fun h i x => am_ast 1 M h i x)).map (fun r => (pc + q.2.1, L, r.1, n, r.2))
    | .bastore => (am_cast st 1 (fun h i x => am_ast 2 M h i x)).map (fun r => (pc + q.2.1, L, r.1, n, r.2))
    | .arraylength => match st with
      | .ref h :: r => (am_len M h).bind (fun v => go (.int v :: r))
      | _ => none
    | .new _ => if q.2.2.1 = 1000 then none else if n.2.2.2 = true ∧ n.1 < 100000 then some ((pc + q.2.1, L, .ref n.1 :: st, (n.1 + 1, n.2.1 + 1, n.2.2.1 + (am_df q.2.2.1).length, true), am_up M n.1 (am_O q.2.2.1 (am_df q.2.2.1)))) else none
    | .newarray t => match st with
      | .int k :: r => if n.2.2.2 = true ∧ n.1 < 100000 ∧ ¬ k < 0 ∧ k.toNatClampNeg ≤ 100000 then (am_newa t k.toNatClampNeg).map (fun c => (pc + q.2.1, L, .ref n.1 :: r, (n.1 + 1, n.2.1 + 1, n.2.2.1 + k.toNatClampNeg, !(am_isJ c)), am_up M n.1 c)) else none
      | _ => none
    | .anewarray _ => match st with
      | .int k :: r => if n.2.2.2 = true ∧ n.1 < 100000 ∧ ¬ k < 0 ∧ k.toNatClampNeg ≤ 100000 then some ((pc + q.2.1, L, .ref n.1 :: r, (n.1 + 1, n.2.1 + 1, n.2.2.1 + k.toNatClampNeg, true), am_up M n.1 (am_R 4 k.toNatClampNeg (fun _ => none)))) else none
      | _ => none
    | .aastore => match st with
      | .ref v :: .int i :: .ref h :: r => (am_aast M h i v).map (fun M' => (pc + q.2.1, L, r, n, M'))
      | _ => none
    | .laload => (am_cald st (fun h i => (am_lald M h i).map .long)).bind go
    | .lastore => match st with
      | .long x :: .int i :: .ref h :: r => (am_last M h i x).map (fun M' => (pc + q.2.1, L, r, n, M'))
      | _ => none
    | .lcmp => match st with
      | .long y :: .long x :: r => go (.int (lg_cmp x y) :: r)
      | _ => none
    | _ => none
/-- a return, or a throw -/
def am_actR (q : am_X) (st : List Value) (n : am_N) : Option (Option Value × am_N) :=
    match q.1 with
    | .new _ => if q.2.2.1 = 1000 ∧ n.2.2.2 = false ∧ st.length ≤ 4 ∧ st.all am_c1 = true then some (am_thrown, (n.1, n.2.1 + 1, n.2.2.1 + 6, n.2.2.2)) else none
    | .ireturn => match st with
      | [.int x] => if am_fit q.2.2.1 (.int x) = true then some (some (.int x), n) else none
      | _ => none
    | .areturn => match st with
      | [.ref a] => some (some (.ref a), n)
      | _ => none
    | .return_ => match st with
      | [] => some (none, n)
      | _ => none
    | _ => none
/-- a call -/
def am_actC (q : am_X) (st : List Value) (M : am_M) : Option (Nat × List Value × List Value) :=
    match q.1 with
    | .invokevirtual _ => (am_args (q.2.2.2.1 % 100) st).bind (fun r => if am_isO M r.1 (q.2.2.2.1 / 100) = true then some (q.2.2.1, r.1, r.2) else none)
    | .invokestatic _ => (am_args q.2.2.2.1 st).map (fun r => (q.2.2.1, r.1, r.2))
    | .invokespecial _ => (am_args q.2.2.2.1 st).bind (fun r => if am_isR r.1 = true then some (q.2.2.1, r.1, r.2) else none)
    | _ => none
def am_isK (q : am_X) : Nat := match q.1 with
  | .ireturn => 1
  | .areturn => 1
  | .return_ => 1
  | .new _ => if q.2.2.1 = 1000 then 1 else 0
  | .invokevirtual _ => 2
  | .invokestatic _ => 2
  | .invokespecial _ => 2
  | _ => 0
/-- counters only grow; leave to make cells is only taken away -/
def am_mono (a b : am_N) : Bool := decide (a.2.1 ≤ b.2.1) && decide (a.2.2.1 ≤ b.2.2.1) && (!b.2.2.2 || a.2.2.2)
theorem am_mono_iff {a b : am_N} : am_mono a b = true ↔ a.2.1 ≤ b.2.1 ∧ a.2.2.1 ≤ b.2.2.1 ∧ (b.2.2.2 = true → a.2.2.2 = true) := by
  obtain ⟨a0, a1, a2, a3⟩ := a
  obtain ⟨b0, b1, b2, b3⟩ := b
  cases a3 <;> cases b3 <;> simp [am_mono]
theorem am_mono_self (a : am_N) : am_mono a a = true := am_mono_iff.mpr ⟨Nat.le_refl _, Nat.le_refl _, id⟩
theorem am_mono_trans {a b d : am_N} (h1 : am_mono a b = true) (h2 : am_mono b d = true) : am_mono a d = true := by
  obtain ⟨p1, p2, p3⟩ := am_mono_iff.mp h1
  obtain ⟨q1, q2, q3⟩ := am_mono_iff.mp h2
  exact am_mono_iff.mpr ⟨Nat.le_trans p1 q1, Nat.le_trans p2 q2, fun h => p3 (q3 h)⟩
/-- a run of a method's code, the callees given -/
def am_run (cd : Nat → Option am_X) (cal : Nat → List Value → am_N → am_M → Option am_Res) : Nat → am_G → Option am_Res
  | 0, _ => none
  | k + 1, g => match cd g.1 with
    | none => none
    | some q => match am_isK q with
      | 0 => match am_act0 q g with
        | none => none
        | some g' => if am_mono g.2.2.2.1 g'.2.2.2.1 = true then am_run cd cal k g' else none
      | 1 => match am_actR q g.2.2.1 g.2.2.2.1 with
        | none => none
        | some rv => if am_mono g.2.2.2.1 rv.2 = true then some (rv.1, rv.2, g.2.2.2.2) else none
      | _ => match am_actC q g.2.2.1 g.2.2.2.2 with
        | none => none
        | some (j, as, st) => match cal j as g.2.2.2.1 g.2.2.2.2 with
          | none => none
          | some (r, n', M') => if am_mono g.2.2.2.1 n' = true then (if r = am_thrown then (if q.2.2.2.2 = 0 then none else some (some (.int 1), n', M')) else am_run cd cal k (g.1 + 3, g.2.1, r.toList ++ st, n', M')) else none
theorem am_run_mono {cd : Nat → Option am_X} {cal : Nat → List Value → am_N → am_M → Option am_Res} : ∀ {k : Nat} {g : am_G} {res : am_Res}, am_run cd cal k g = some res → am_mono g.2.2.2.1 res.2.1 = true
  | 0, _, _, h => by cases h
  | k + 1, g, res, h => by
    unfold am_run at h
    split at h
    · cases h
    · split at h
      · split at h
        · cases h
        · split at h
          · rename_i hm
            exact am_mono_trans hm (am_run_mono h)
          · cases h
      · split at h
        · cases h
        · split at h
          · rename_i hm
            cases h
            exact hm
          · cases h
      · split at h
        · cases h
        · split at h
          · cases h
          · split at h
            · rename_i hm
              split at h
              · split at h
                · cases h
                · cases h
                  exact hm
              · exact am_mono_trans hm (am_run_mono h)
            · cases h
theorem am_run_more {cd : Nat → Option am_X} {cal cal' : Nat → List Value → am_N → am_M → Option am_Res} (hc : ∀ j as n M r, cal j as n M = some r → cal' j as n M = some r) : ∀ {k k' : Nat} {g : am_G} {res : am_Res}, k ≤ k' → am_run cd cal k g = some res → am_run cd cal' k' g = some res
  | 0, _, _, _, _, h => by cases h
  | k + 1, 0, _, _, hk, _ => by omega
  | k + 1, k' + 1, g, res, hk, h => by
    unfold am_run at h ⊢
    split at h
    · cases h
    · rename_i q hq
      split at h
      · split at h
        · cases h
        · split at h
          · rename_i hm
            first | rw [if_pos hm] | skip
            exact am_run_more hc (by omega) h
          · cases h
      · exact h
      · split at h
        · cases h
        · rename_i j as st ha
          split at h
          · cases h
          · rename_i r n' M' hr
            rw [hc _ _ _ _ _ hr]
            simp only
            split at h
            · rename_i hm
              rw [if_pos hm]
              split at h
              · rename_i ht
                rw [if_pos ht]
                exact h
              · rename_i ht
                rw [if_neg ht]
                exact am_run_more hc (by omega) h
            · cases h
theorem am_run_det {cd : Nat → Option am_X} {cal : Nat → List Value → am_N → am_M → Option am_Res} {k k' : Nat} {g : am_G} {a b : am_Res} (h1 : am_run cd cal k g = some a) (h2 : am_run cd cal k' g = some b) : a = b := by
  rcases Nat.le_total k k' with h | h
  · exact Option.some.inj ((am_run_more (fun _ _ _ _ _ q => q) h h1).symm.trans h2)
  · exact Option.some.inj (h1.symm.trans (am_run_more (fun _ _ _ _ _ q => q) h h2))
