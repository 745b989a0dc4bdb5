/-! the abstract machine is sound, instruction by instruction: addresses for handles -/
def am_ad (bs : Nat) (sp : Nat → Nat) (h : Nat) : Nat := if h < 100000 then bs + h else sp (h - 100000)
def am_v (ad : Nat → Nat) (v : Value) : Value := match v with
  | .ref h => .ref (ad h)
  | .int x => .int x
  | .long x => .long x
  | .float x => .float x
  | .double x => .double x
  | .null => .null
  | .retAddr x => .retAddr x
def am_e (ca : Nat → ClassId) (ad : Nat → Nat) (c : am_C) : va_E := match c with
  | .inl (t, n, f) => .inl (ca t, n, .inl f)
  | .inr (.inl (n, f)) => .inl (ca 3, n, .inr (.inl f))
  | .inr (.inr (.inl (t, n, f))) => .inl (ca t, n, .inr (.inr (.inr (.inr (fun i => (f i).map ad)))))
  | .inr (.inr (.inr (ci, fs))) => .inr (ci, fs.map (am_v ad))
def am_ws (ca : Nat → ClassId) (ad : Nat → Nat) (n : Nat) (M : am_M) : va_W := (List.range n).map (fun h => (ad h, am_e ca ad ((M h).getD (am_O 0 []))))
theorem am_v_cat (ad : Nat → Nat) (v : Value) : (am_v ad v).category = v.category := by cases v <;> rfl
theorem am_up_self {M : am_M} {h : Nat} {c : am_C} : am_up M h c h = some c := if_pos rfl
theorem am_up_ne {M : am_M} {h j : Nat} {c : am_C} (hj : j ≠ h) : am_up M h c j = M j := if_neg hj
theorem am_ws_get {ca : Nat → ClassId} {ad : Nat → Nat} {n : Nat} {M : am_M} {h : Nat} {c : am_C} (hn : h < n) (hM : M h = some c) : (am_ws ca ad n M)[h]? = some (ad h, am_e ca ad c) := by
  simp [am_ws, List.getElem?_map, List.getElem?_range hn, hM]
theorem am_ws_len {ca : Nat → ClassId} {ad : Nat → Nat} {n : Nat} {M : am_M} : (am_ws ca ad n M).length = n := by simp [am_ws]
theorem am_ws_at {ca : Nat → ClassId} {ad : Nat → Nat} {n : Nat} {M : am_M} {k : Nat} {q : Nat × va_E} (h : (am_ws ca ad n M)[k]? = some q) : k < n ∧ q = (ad k, am_e ca ad ((M k).getD (am_O 0 []))) := by
  have hk : k < n := by
    have := (List.getElem?_eq_some_iff.mp h).1
    rwa [am_ws_len] at this
  refine ⟨hk, ?_⟩
  simp [am_ws, List.getElem?_map, List.getElem?_range hk] at h
  exact h.symm
theorem am_ws_set {ca : Nat → ClassId} {ad : Nat → Nat} {n : Nat} {M : am_M} {h : Nat} {c : am_C} : (am_ws ca ad n M).set h (ad h, am_e ca ad c) = am_ws ca ad n (am_up M h c) := by
  apply List.ext_getElem?
  intro k
  by_cases hk : k < n
  · by_cases hkh : h = k
    · subst hkh
      rw [List.getElem?_set_self (by rw [am_ws_len]; exact hk), am_ws_get hk am_up_self]
    · rw [List.getElem?_set_ne hkh]
      simp [am_ws, List.getElem?_map, List.getElem?_range hk, am_up_ne (Ne.symm hkh)]
  · rw [List.getElem?_eq_none (by rw [List.length_set, am_ws_len]; omega), List.getElem?_eq_none (by rw [am_ws_len]; omega)]
theorem am_ws_push {ca : Nat → ClassId} {ad : Nat → Nat} {n : Nat} {M : am_M} {c : am_C} : am_ws ca ad n M ++ [(ad n, am_e ca ad c)] = am_ws ca ad (n + 1) (am_up M n c) := by
  unfold am_ws
  rw [List.range_succ, List.map_append]
  congr 1
  · apply List.map_congr_left
    intro h hh
    rw [am_up_ne (Nat.ne_of_lt (List.mem_range.mp hh))]
  · simp [am_up_self]
/-- the locals -/
def am_lv (ad : Nat → Nat) : Nat → List Value → List (Nat × Value)
  | _, [] => []
  | i, v :: L => if v = am_junk then am_lv ad (i + 1) L else (i, am_v ad v) :: am_lv ad (i + 1) L
theorem am_lv_mem {ad : Nat → Nat} {i : Nat} {w : Value} : ∀ {L : List Value} {k : Nat}, (i, w) ∈ am_lv ad k L ↔ ∃ v, k ≤ i ∧ L[i - k]? = some v ∧ v ≠ am_junk ∧ w = am_v ad v
  | [], k => by simp [am_lv]
  | u :: L, k => by
    have ih := @am_lv_mem ad i w L (k + 1)
    constructor
    · intro h
      unfold am_lv at h
      split at h
      · obtain ⟨v, h1, h2, h3, h4⟩ := ih.mp h
        exact ⟨v, by omega, by rw [show i - k = (i - (k + 1)) + 1 by omega, List.getElem?_cons_succ]; exact h2, h3, h4⟩
      · rcases List.mem_cons.mp h with h | h
        · cases h
          exact ⟨u, Nat.le_refl _, by rw [Nat.sub_self]; rfl, by assumption, rfl⟩
        · obtain ⟨v, h1, h2, h3, h4⟩ := ih.mp h
          exact ⟨v, by omega, by rw [show i - k = (i - (k + 1)) + 1 by omega, List.getElem?_cons_succ]; exact h2, h3, h4⟩
    · rintro ⟨v, h1, h2, h3, h4⟩
      unfold am_lv
      by_cases hik : i = k
      · subst hik
        rw [Nat.sub_self, List.getElem?_cons_zero] at h2
        cases h2
        rw [if_neg h3, h4]
        exact List.mem_cons_self
      · rw [show i - k = (i - (k + 1)) + 1 by omega, List.getElem?_cons_succ] at h2
        have := ih.mpr ⟨v, by omega, h2, h3, h4⟩
        split
        · exact this
        · exact List.mem_cons_of_mem _ this
def am_L (ad : Nat → Nat) (ls : Array Slot) (nL : Nat) (L : List Value) : Prop := lv_has ls nL (am_lv ad 0 L) ∧ L.length ≤ nL ∧ ∀ v ∈ L, v.category = 1
theorem am_L.get {ad : Nat → Nat} {ls : Array Slot} {nL : Nat} {L : List Value} {i : Nat} {v : Value} (h : am_L ad ls nL L) (hv : L[i]? = some v) (hj : v ≠ am_junk) : ls[i]? = some (.val (am_v ad v)) :=
  h.1.2.2 (i, am_v ad v) (am_lv_mem.mpr ⟨v, Nat.zero_le _, by simpa using hv, hj, rfl⟩)
theorem am_L.set {ad : Nat → Nat} {ls ls' : Array Slot} {nL : Nat} {L : List Value} {i : Nat} {v : Value} (h : am_L ad ls nL L) (hc : v.category = 1)
    (h2 : lv_has ls' nL ((i, am_v ad v) :: (am_lv ad 0 L).filter (fun q => !(q.1 == i) && !(q.1 + 1 == i && q.2.category == 2)))) : am_L ad ls' nL (L.set i v) := by
  refine ⟨⟨h2.1, h2.2.1, fun q hq => h2.2.2 q ?_⟩, by simpa using h.2.1, fun w hw => ?_⟩
  · obtain ⟨j, w⟩ := q
    obtain ⟨u, -, h3, h4, rfl⟩ := am_lv_mem.mp hq
    rw [Nat.sub_zero] at h3
    by_cases hj : i = j
    · subst hj
      have hl : i < (L.set i v).length := (List.getElem?_eq_some_iff.mp h3).1
      rw [List.getElem?_set_self (by simpa using hl)] at h3
      cases h3
      exact List.mem_cons_self
    · rw [List.getElem?_set_ne hj] at h3
      refine List.mem_cons_of_mem _ (List.mem_filter.mpr ⟨am_lv_mem.mpr ⟨u, Nat.zero_le _, by simpa using h3, h4, rfl⟩, ?_⟩)
      have hu : u.category = 1 := h.2.2 u (List.mem_of_getElem? h3)
      have hne : (j == i) = false := by simp; omega
      simp [hne, am_v_cat, hu]
  · rcases List.mem_or_eq_of_mem_set hw with h5 | h5
    · exact h.2.2 w h5
    · rw [h5]; exact hc
def am_tys (ca : Nat → ClassId) : List (ClassId × FieldType) := [(ca 0, .int), (ca 1, .char), (ca 2, .boolean), (ca 3, .long), (ca 4, .object am_rowN)]
def am_kind (c : am_C) : Prop := match c with
  | .inl (t, _, _) => t < 3
  | .inr (.inl _) => True
  | .inr (.inr (.inl (t, _, _))) => t = 4
  | .inr (.inr (.inr _)) => True
def am_Dom (XL : Nat) (xs : Nat → Int32) (n : Nat) (M : am_M) : Prop := ∀ h c, M h = some c → (h < n ∧ am_kind c) ∨ (h = 100000 ∧ c = am_I 5 25 am_rec) ∨ (h = 100001 ∧ c = am_I 6 XL xs)
theorem am_Dom.lt {XL : Nat} {xs : Nat → Int32} {n : Nat} {M : am_M} {h : Nat} {c : am_C} (hD : am_Dom XL xs n M) (hM : M h = some c) (hk : ∀ t f N, c = am_I t N f → t < 3) : h < n ∧ am_kind c := by
  rcases hD h c hM with h1 | ⟨-, h1⟩ | ⟨-, h1⟩
  · exact h1
  · exact absurd (hk _ _ _ h1) (by decide)
  · exact absurd (hk _ _ _ h1) (by decide)
theorem am_Dom.up {XL : Nat} {xs : Nat → Int32} {n : Nat} {M : am_M} {h : Nat} {c : am_C} (hD : am_Dom XL xs n M) (hn : h < n) (hk : am_kind c) : am_Dom XL xs n (am_up M h c) := by
  intro j d hj
  by_cases hjh : j = h
  · subst hjh
    rw [am_up_self] at hj
    cases hj
    exact Or.inl ⟨hn, hk⟩
  · rw [am_up_ne hjh] at hj
    exact hD j d hj
theorem am_Dom.push {XL : Nat} {xs : Nat → Int32} {n : Nat} {M : am_M} {c : am_C} (hD : am_Dom XL xs n M) (hk : am_kind c) : am_Dom XL xs (n + 1) (am_up M n c) := by
  intro j d hj
  by_cases hjh : j = n
  · subst hjh
    rw [am_up_self] at hj
    cases hj
    exact Or.inl ⟨Nat.lt_succ_self _, hk⟩
  · rw [am_up_ne hjh] at hj
    rcases hD j d hj with ⟨h1, h2⟩ | h1 | h1
    · exact Or.inl ⟨by omega, h2⟩
    · exact Or.inr (Or.inl h1)
    · exact Or.inr (Or.inr h1)
def am_A0 (bs : Nat) : Nat → Prop := fun q => bs ≤ q
theorem am_D {ca : Nat → ClassId} {bs : Nat} {sp : Nat → Nat} {n : Nat} {M : am_M} (hn : n ≤ 100000) : va_D (am_A0 bs) (am_ws ca (am_ad bs sp) n M) := by
  refine ⟨fun i j x y hi hj hxy => ?_, fun k q hk => ?_⟩
  · obtain ⟨h1, rfl⟩ := am_ws_at hi
    obtain ⟨h2, rfl⟩ := am_ws_at hj
    simp only [am_ad, if_pos (show i < 100000 by omega), if_pos (show j < 100000 by omega)] at hxy
    omega
  · obtain ⟨h1, rfl⟩ := am_ws_at hk
    simp only [am_ad, if_pos (show k < 100000 by omega)]
    exact Nat.le_add_right _ _
/-- where a static of the JDK lies -/
def am_LS (C n d : String) (A : Nat → Prop) (U : State) (H : Heap) : Prop := ∃ (c : ClassId) (k : Class) (i : Nat) (f : Field) (a : Nat) (cell : Cell), U.vm.findClass C = some c ∧ U.fieldFound? C n d = some (c, k, i, f) ∧ f.isStatic = true ∧ k.statics = some a ∧ H[a]? = some cell ∧ cell.vm.isStatics = true ∧ cell.cls = c ∧ f.slot < cell.slots.size ∧ k.staticTypes[f.slot]? = some f.type ∧ ¬ A a
def am_ZL (C n d : String) (A : Nat → Prop) (U : State) (H : Heap) : Prop := va_Zq C n d A U H ∧ am_LS C n d A U H
theorem am_ZL.moved {C n d : String} {A : Nat → Prop} {u U : State} {H : Heap} (hvm : u.vm.Alike U.vm) (h : am_ZL C n d A u H) : am_ZL C n d A U H := by
  refine ⟨h.1.moved hvm, ?_⟩
  obtain ⟨c, k, i, f, a, cell, h0, h1, h2, h3, h4, h5, h6, h7, h8, h9⟩ := h.2
  obtain ⟨k', hi', he⟩ := State.fieldFound?_setVm hvm h1
  exact ⟨c, k', i, f, a, cell, by rw [hvm.findClass]; exact h0, hi', h2, by rw [he]; exact h3, h4, h5, h6, h7, by rw [he]; exact h8, h9⟩
theorem am_ZL.kept {C n d : String} {A : Nat → Prop} {U : State} {H H1 : Heap} (h : am_ZL C n d A U H) (hq : ∀ a : Nat, a < H.size → ¬ A a → H1[a]? = H[a]?) : am_ZL C n d A U H1 := by
  refine ⟨h.1.kept hq, ?_⟩
  obtain ⟨c, k, i, f, a, cell, h0, h1, h2, h3, h4, h5, h6, h7, h8, h9⟩ := h.2
  exact ⟨c, k, i, f, a, cell, h0, h1, h2, h3, by rw [hq a (Array.getElem?_eq_some_iff.mp h4).1 h9]; exact h4, h5, h6, h7, h8, h9⟩
theorem am_LS.back {C n d : String} {A : Nat → Prop} {U : State} {args : Array Value} (h : am_LS C n d A U U.heap) : (Cond.laysStatic C n d).before args U = true := by
  obtain ⟨c, k, i, f, a, cell, h0, h1, h2, h3, h4, h5, h6, h7, h8, h9⟩ := h
  simp [Cond.before, Cond.holds, Cond.value, h0, h1, h2, h3, h4, h5, h6, h7, h8]
theorem am_LS.of {C n d : String} {A : Nat → Prop} {U : State} {args : Array Value} (h : (Cond.laysStatic C n d).before args U = true) (hA : ∀ a : Nat, a < U.heap.size → ¬ A a) : am_LS C n d A U U.heap := by
  obtain ⟨c, k, i, f, a, cell, hc, hi, hst, ha, hcell, hs, hcls, hlt, hty⟩ := Cond.laysStatic_spec h
  exact ⟨c, k, i, f, a, cell, hc, hi, hst, ha, hcell, hs, hcls, hlt, hty, hA a (Array.getElem?_eq_some_iff.mp hcell).1⟩
/-- memory and heap -/
def am_W (D : va_G) (ca : Nat → ClassId) (bs : Nat) (sp : Nat → Nat) (XL : Nat) (xs : Nat → Int32) (n : am_N) (M : am_M) (H : Heap) : Prop :=
  va_P D am_cl (am_ws ca (am_ad bs sp) n.1 M) H ∧ am_Dom XL xs n.1 M ∧ n.1 ≤ 100000 ∧ bs + n.1 ≤ H.size ∧ (n.2.2.2 = true → H.size = bs + n.1)
/-- what the tables and the old cells say -/
def am_S (D : va_G) (ca : Nat → ClassId) (bs : Nat) (sp : Nat → Nat) (XL : Nat) (xs : Nat → Int32) (U : State) (H : Heap) : Prop :=
  va_K D am_cl (am_tys ca) U ∧ va_Z am_recO am_recF "[I" (.ref (sp 0)) (am_A0 bs) U H ∧ va_T .int (sp 0) 25 (fun j => .int (am_rec j)) (am_A0 bs) U H ∧ va_T .int (sp 1) XL (fun j => .int (xs j)) (am_A0 bs) U H ∧ (∀ w ∈ am_NB, va_Nw w U) ∧ am_ZL "java/lang/Throwable" "UNASSIGNED_STACK" "[Ljava/lang/StackTraceElement;" (am_A0 bs) U H ∧ am_ZL "java/lang/Throwable" "SUPPRESSED_SENTINEL" "Ljava/util/List;" (am_A0 bs) U H
def am_Rel (D : va_G) (ca : Nat → ClassId) (bs : Nat) (sp : Nat → Nat) (XL : Nat) (xs : Nat → Int32) (s : State) (nL : Nat) (L : List Value) (n : am_N) (M : am_M) (ls : Array Slot) (H : Heap) (locs : List Loc) (cells : Nat) : Prop :=
  am_L (am_ad bs sp) ls nL L ∧ am_W D ca bs sp XL xs n M H ∧ va_S (am_A0 bs) s.heap H locs ∧ am_S D ca bs sp XL xs s s.heap ∧ bs ≤ s.heap.size ∧ (n.2.2.2 = true → H.size = s.heap.size + cells)
theorem am_in_of {i : Int32} {n : Nat} (h : am_in i n = true) : vp_in i n := by
  have h1 : ¬ (i < 0 ∨ n ≤ i.toNatClampNeg) := by simpa only [am_in, decide_eq_true_eq] using h
  exact h1
theorem am_fld_inv {M : am_M} {h ci k : Nat} {v : Value} (hf : am_fld M h ci k = some v) : ∃ fs, M h = some (am_O ci fs) ∧ fs[k]? = some v := by
  unfold am_fld at hf
  split at hf
  · rename_i c fs hM
    split at hf
    · rename_i hc
      subst hc
      exact ⟨fs, hM, hf⟩
    · cases hf
  · cases hf
theorem am_setf_inv {M M' : am_M} {h ci k : Nat} {v : Value} (hf : am_setf M h ci k v = some M') : ∃ fs, M h = some (am_O ci fs) ∧ k < fs.length ∧ M' = am_up M h (am_O ci (fs.set k v)) := by
  unfold am_setf at hf
  split at hf
  · rename_i c fs hM
    split at hf
    · rename_i hc
      obtain ⟨rfl, hk⟩ := hc
      cases hf
      exact ⟨fs, hM, hk, rfl⟩
    · cases hf
  · cases hf
theorem am_ald_inv {M : am_M} {t h : Nat} {i x : Int32} (hf : am_ald t M h i = some x) : ∃ N f, M h = some (am_I t N f) ∧ vp_in i N ∧ x = f i.toNatClampNeg := by
  unfold am_ald at hf
  split at hf
  · rename_i t' N f hM
    split at hf
    · rename_i hc
      obtain ⟨rfl, hk⟩ := hc
      cases hf
      exact ⟨N, f, hM, am_in_of hk, rfl⟩
    · cases hf
  · cases hf
theorem am_ast_inv {M M' : am_M} {t h : Nat} {i x : Int32} (hf : am_ast t M h i x = some M') : ∃ N f, M h = some (am_I t N f) ∧ vp_in i N ∧ M' = am_up M h (am_I t N (upd f i.toNatClampNeg x)) := by
  unfold am_ast at hf
  split at hf
  · rename_i t' N f hM
    split at hf
    · rename_i hc
      obtain ⟨rfl, hk⟩ := hc
      cases hf
      exact ⟨N, f, hM, am_in_of hk, rfl⟩
    · cases hf
  · cases hf
theorem am_lald_inv {M : am_M} {h : Nat} {i : Int32} {x : Int64} (hf : am_lald M h i = some x) : ∃ N f, M h = some (am_J N f) ∧ vp_in i N ∧ x = f i.toNatClampNeg := by
  unfold am_lald at hf
  split at hf
  · rename_i N f hM
    split at hf
    · rename_i hk
      cases hf
      exact ⟨N, f, hM, am_in_of hk, rfl⟩
    · cases hf
  · cases hf
theorem am_last_inv {M M' : am_M} {h : Nat} {i : Int32} {x : Int64} (hf : am_last M h i x = some M') : ∃ N f, M h = some (am_J N f) ∧ vp_in i N ∧ M' = am_up M h (am_J N (vp_updL f i.toNatClampNeg x)) := by
  unfold am_last at hf
  split at hf
  · rename_i N f hM
    split at hf
    · rename_i hk
      cases hf
      exact ⟨N, f, hM, am_in_of hk, rfl⟩
    · cases hf
  · cases hf
theorem am_aald_inv {M : am_M} {h : Nat} {i : Int32} {v : Value} (hf : am_aald M h i = some v) : ∃ t N f, M h = some (am_R t N f) ∧ vp_in i N ∧ v = va_rf (f i.toNatClampNeg) := by
  unfold am_aald at hf
  split at hf
  · rename_i t N f hM
    split at hf
    · rename_i hk
      cases hf
      exact ⟨t, N, f, hM, am_in_of hk, rfl⟩
    · cases hf
  · cases hf
theorem am_aast_inv {M M' : am_M} {h v : Nat} {i : Int32} (hf : am_aast M h i v = some M') : ∃ t N f fs, M h = some (am_R t N f) ∧ M v = some (am_O am_rowC fs) ∧ vp_in i N ∧ M' = am_up M h (am_R t N (va_up f i.toNatClampNeg (some v))) := by
  unfold am_aast at hf
  split at hf
  · rename_i t N f c fs hM hv
    split at hf
    · rename_i hk
      obtain ⟨rfl, hk⟩ := hk
      cases hf
      exact ⟨t, N, f, fs, hM, hv, am_in_of hk, rfl⟩
    · cases hf
  · cases hf
theorem am_bin_inv {f : Int32 → Int32 → Option Int32} {st : List Value} {go : List Value → Option am_G} {a : am_G} (h : (am_bin f st).bind go = some a) : ∃ x y r z, st = .int y :: .int x :: r ∧ f x y = some z ∧ go (.int z :: r) = some a := by
  unfold am_bin at h
  split at h
  · rename_i y x r
    cases hz : f x y with
    | none => rw [hz] at h; cases h
    | some z => rw [hz] at h; exact ⟨x, y, r, z, rfl, hz, h⟩
  · cases h
theorem am_un_inv {f : Int32 → Value} {st : List Value} {go : List Value → Option am_G} {a : am_G} (h : (am_un f st).bind go = some a) : ∃ x r, st = .int x :: r ∧ go (f x :: r) = some a := by
  unfold am_un at h
  split at h
  · rename_i x r
    exact ⟨x, r, rfl, h⟩
  · cases h
theorem am_cald_inv {st : List Value} {o : Nat → Int32 → Option Value} {go : List Value → Option am_G} {a : am_G} (h : (am_cald st o).bind go = some a) : ∃ i b r v, st = .int i :: .ref b :: r ∧ o b i = some v ∧ go (v :: r) = some a := by
  unfold am_cald at h
  split at h
  · rename_i i b r
    cases hz : o b i with
    | none => rw [hz] at h; cases h
    | some z => rw [hz] at h; exact ⟨i, b, r, z, rfl, hz, h⟩
  · cases h
theorem am_cast_inv {st : List Value} {z : Nat} {o : Nat → Int32 → Int32 → Option am_M} {go : List Value × am_M → am_G} {a : am_G} (h : (am_cast st z o).map go = some a) : ∃ x i b r M, st = .int x :: .int i :: .ref b :: r ∧ am_fit z (.int x) = true ∧ o b i x = some M ∧ a = go (r, M) := by
  unfold am_cast at h
  split at h
  · rename_i x i b r
    split at h
    · rename_i hf
      cases hz : o b i x with
      | none => rw [hz] at h; cases h
      | some M => rw [hz] at h; exact ⟨x, i, b, r, M, rfl, hf, hz, (Option.some.inj h).symm⟩
    · cases h
  · cases h
theorem am_ld_inv {L : List Value} {k : Nat} {b : Bool} {go : Value → Option am_G} {a : am_G} (h : (am_ld L k b).bind go = some a) : ∃ v, L[k]? = some v ∧ v ≠ am_junk ∧ go v = some a ∧ ((b = false ∧ ∃ x, v = .int x) ∨ (b = true ∧ ((∃ x, v = .ref x) ∨ v = .null))) := by
  unfold am_ld at h
  split at h
  · rename_i x hv
    cases b with
    | true => cases h
    | false => exact ⟨_, hv, (fun q => by cases q), h, Or.inl ⟨rfl, _, rfl⟩⟩
  · rename_i x hv
    cases b with
    | true => exact ⟨_, hv, (fun q => by cases q), h, Or.inr ⟨rfl, Or.inl ⟨_, rfl⟩⟩⟩
    | false => cases h
  · rename_i hv
    cases b with
    | true => exact ⟨_, hv, (fun q => by cases q), h, Or.inr ⟨rfl, Or.inr rfl⟩⟩
    | false => cases h
  · cases h
theorem am_st_inv {L st : List Value} {k : Nat} {b : Bool} {go : List Value × List Value → am_G} {a : am_G} (h : (am_st L k b st).map go = some a) : ∃ v r, st = v :: r ∧ k < L.length ∧ a = go (L.set k v, r) ∧ ((b = false ∧ ∃ x, v = .int x) ∨ (b = true ∧ ∃ x, v = .ref x)) := by
  unfold am_st at h
  split at h
  · rename_i x r
    split at h
    · rename_i hc
      exact ⟨_, r, rfl, hc.2, (Option.some.inj h).symm, Or.inl ⟨hc.1, x, rfl⟩⟩
    · cases h
  · rename_i x r
    split at h
    · rename_i hc
      exact ⟨_, r, rfl, hc.2, (Option.some.inj h).symm, Or.inr ⟨hc.1, x, rfl⟩⟩
    · cases h
  · cases h
theorem am_W.at {D : va_G} {ca : Nat → ClassId} {bs : Nat} {sp : Nat → Nat} {XL : Nat} {xs : Nat → Int32} {n : am_N} {M : am_M} {H : Heap} {h : Nat} {c : am_C} (hW : am_W D ca bs sp XL xs n M H) (hM : M h = some c) (hk : ∀ t f N, c = am_I t N f → t < 3) :
    (am_ws ca (am_ad bs sp) n.1 M)[h]? = some (am_ad bs sp h, am_e ca (am_ad bs sp) c) ∧ h < n.1 ∧ am_kind c := by
  obtain ⟨h1, h2⟩ := hW.2.1.lt hM hk
  exact ⟨am_ws_get h1 hM, h1, h2⟩
theorem am_W.put {D : va_G} {ca : Nat → ClassId} {bs : Nat} {sp : Nat → Nat} {XL : Nat} {xs : Nat → Int32} {n : am_N} {M : am_M} {H H1 : Heap} {h z : Nat} {c : am_C} (hW : am_W D ca bs sp XL xs n M H) (hal : n.2.2.2 = true → H.size = z) (hn : h < n.1) (hk : am_kind c)
    (hP : va_P D am_cl ((am_ws ca (am_ad bs sp) n.1 M).set h (am_ad bs sp h, am_e ca (am_ad bs sp) c)) H1) (hz : H1.size ≤ z) : am_W D ca bs sp XL xs n (am_up M h c) H1 ∧ (n.2.2.2 = true → H1.size = z) := by
  rw [am_ws_set] at hP
  have h1 : bs + n.1 ≤ H1.size := by
    have h2 : n.1 - 1 < (am_ws ca (am_ad bs sp) n.1 (am_up M h c)).length := by rw [am_ws_len]; omega
    have h3 := (hP (n.1 - 1) _ (List.getElem?_eq_getElem h2)).lt
    obtain ⟨-, h4⟩ := am_ws_at (List.getElem?_eq_getElem h2)
    rw [h4] at h3
    have h5 : n.1 - 1 < 100000 := by have := hW.2.2.1; omega
    simp only [am_ad, if_pos h5] at h3
    omega
  refine ⟨⟨hP, hW.2.1.up hn hk, hW.2.2.1, h1, fun q => ?_⟩, fun q => ?_⟩
  · have := hW.2.2.2.2 q
    have := hal q
    omega
  · have := hW.2.2.2.2 q
    have := hal q
    omega
