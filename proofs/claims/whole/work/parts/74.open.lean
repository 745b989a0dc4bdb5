/-! the reference opens a frame -/
def am_opS (S : am_St) (a b c e f : Int) : am_St := am_set (am_set (am_set (am_set (am_set (am_set S 191 (S 179 18) a) 192 (S 179 18) b) 193 (S 179 18) c) 194 (S 179 18) e) 195 (S 179 18) f) 179 18 (S 179 18 + 1)
theorem am_opS_fk {S : am_St} {a b c e f : Int} : am_fk [12, 17, 18, 24] [187, 188, 189, 190, 191, 192, 193, 194, 195, 196] S (am_opS S a b c e f) := am_fk_trans (am_fk_trans (am_fk_trans (am_fk_trans (am_fk_trans (am_fk_arr (by decide) (by decide)) (am_fk_arr (by decide) (by decide))) (am_fk_arr (by decide) (by decide))) (am_fk_arr (by decide) (by decide))) (am_fk_arr (by decide) (by decide))) (am_fk_set (by decide))
theorem am_opS_at {S : am_St} {a b c e f : Int} : am_opS S a b c e f 191 (S 179 18) = a ∧ am_opS S a b c e f 192 (S 179 18) = b ∧ am_opS S a b c e f 193 (S 179 18) = c ∧ am_opS S a b c e f 194 (S 179 18) = e ∧ am_opS S a b c e f 195 (S 179 18) = f ∧ am_opS S a b c e f 179 18 = S 179 18 + 1 ∧ am_opS S a b c e f 179 24 = S 179 24 ∧ am_opS S a b c e f 179 12 = S 179 12 ∧ am_opS S a b c e f 196 = S 196 := by
  unfold am_opS
  refine ⟨?_, ?_, ?_, ?_, ?_, am_set_se, ?_, ?_, ?_⟩ <;> simp (disch := omega) only [am_set_sh, am_set_se, am_set_sk]
theorem am_opS_old {S : am_St} {a b c e f : Int} : (∀ h, 187 ≤ h → h ≤ 190 → am_opS S a b c e f h = S h) ∧ ∀ h, 191 ≤ h → h ≤ 195 → ∀ j, j < S 179 18 → am_opS S a b c e f h j = S h j := by
  unfold am_opS
  refine ⟨fun h h1 h2 => ?_, fun h h1 h2 j hj => ?_⟩
  · simp (disch := omega) only [am_set_sh]
  · rw [am_set_sh (by omega), am_set_at, if_neg (by omega), am_set_at, if_neg (by omega), am_set_at, if_neg (by omega), am_set_at, if_neg (by omega), am_set_at, if_neg (by omega)]
theorem am_RR_br {S : am_St} {F : List am_Fr} {now : Option am_U} {x p e f : Int} (hr : am_RR S F now x) : am_RR (am_opS S 1 x p e f) ((0, 0, p, 0, now) :: F) none (-1) := by
  obtain ⟨r18, r24, r196, r12, lo, rF, rlo, rnow⟩ := hr
  obtain ⟨o1, o2, o3, o4, o5, o6, o7, o8, o9⟩ := am_opS_at (S := S) (a := 1) (b := x) (c := p) (e := e) (f := f)
  obtain ⟨n1, n2⟩ := am_opS_old (S := S) (a := 1) (b := x) (c := p) (e := e) (f := f)
  rw [r18] at o1 o2 o3 o4 o5 o6 n2
  have ebs : am_bs ((0, 0, p, 0, now) :: F) = am_bs F := if_neg (by omega)
  have ekc : am_kc ((0, 0, p, 0, now) :: F) = am_kc F := rfl
  have eT : (am_tF ((0, 0, p, 0, now) :: F)).length = (am_tF F).length + am_nl now := by
    cases now with
    | none => show (am_tF F ++ ([] ++ [])).length = _; rw [List.append_nil, List.append_nil]; rfl
    | some w => show (am_tF F ++ ([] ++ am_lay w.1)).length = _; rw [List.nil_append, List.length_append, am_lay_len]; rfl
  refine ⟨by rw [o6, List.length_cons]; rfl, by rw [o7, ebs]; exact r24, by rw [o9, ebs]; exact r196, ?_, S 179 12, ⟨lo, am_rF_fr (fun h a b j _ hj => n2 h a b j hj) (fun h a b j _ _ => by rw [n1 h a b]) rF, rlo, o1, o3, fun q => absurd q (by omega), fun q => absurd q (by omega), ?_⟩, by rw [o8]; exact Int.le_refl _, rfl⟩
  · rw [ekc, o8, eT]
    have e0 : (am_nl (none : Option am_U) : Int) = 0 := rfl
    omega
  · cases now with
    | none =>
      show 0 = 0 → am_opS S 1 x p e f 192 F.length = -1
      intro _
      rw [o2]
      exact rnow
    | some w =>
      show am_opS S 1 x p e f 192 F.length < S 179 12 ∧ am_rq _ lo (am_opS S 1 x p e f 192 F.length) w.1 w.2
      rw [o2]
      exact ⟨rnow.1, am_rq_fr (fun h a b j _ _ => by rw [n1 h a b]) rnow.2⟩
theorem am_RR_ty {S : am_St} {F : List am_Fr} {x p l : Int} {k : Nat} (hk : k = 1 ∨ k = 2) (hr : am_RR S F none x) : am_RR (am_opS S 2 (-1) p ((k + 1 : Nat) : Int) (l - 97)) ((1, l, p, k, none) :: F) none (-1) := by
  obtain ⟨r18, r24, r196, r12, lo, rF, rlo, rnow⟩ := hr
  obtain ⟨o1, o2, o3, o4, o5, o6, o7, o8, o9⟩ := am_opS_at (S := S) (a := 2) (b := -1) (c := p) (e := ((k + 1 : Nat) : Int)) (f := l - 97)
  obtain ⟨n1, n2⟩ := am_opS_old (S := S) (a := 2) (b := -1) (c := p) (e := ((k + 1 : Nat) : Int)) (f := l - 97)
  rw [r18] at o1 o2 o3 o4 o5 o6 n2
  have ebs : am_bs ((1, l, p, k, none) :: F) = am_bs F := if_neg (by omega)
  have ekc : am_kc ((1, l, p, k, none) :: F) = am_kc F + 1 := by show am_kc F + (if k = 0 then 0 else 1) = _; rw [if_neg (by omega)]
  have eT : (am_tF ((1, l, p, k, none) :: F)).length = (am_tF F).length + 1 := by
    show (am_tF F ++ ((if k = 0 then [] else [(k : Int)]) ++ [])).length = _
    rw [if_neg (by omega), List.append_nil, List.length_append, List.length_singleton]
  refine ⟨by rw [o6, List.length_cons]; rfl, by rw [o7, ebs]; exact r24, by rw [o9, ebs]; exact r196, ?_, S 179 12, ⟨lo, am_rF_fr (fun h a b j _ hj => n2 h a b j hj) (fun h a b j _ _ => by rw [n1 h a b]) rF, rlo, o1, o3, fun _ => o4, fun _ => o5, fun q => absurd q (by omega)⟩, by rw [o8]; exact Int.le_refl _, rfl⟩
  rw [ekc, o8, eT]
  have e0 : (am_nl (none : Option am_U) : Int) = 0 := rfl
  omega
/-- an arrow: a frame, and a letter that nobody has -/
theorem am_RR_ar {S : am_St} {F : List am_Fr} {u : am_U} {x : Int} (hr : am_RR S F (some u) x) : am_RR (am_set (am_set (am_opS S 4 x (S 190 x) 3 (-1)) 196 (S 179 24) (-1)) 179 24 (S 179 24 + 1)) ((3, 0, u.2.headD 0, 2, some u) :: F) none (-1) := by
  obtain ⟨r18, r24, r196, r12, lo, rF, rlo, rx, rq⟩ := hr
  have px := am_rq_p rq
  obtain ⟨o1, o2, o3, o4, o5, o6, o7, o8, o9⟩ := am_opS_at (S := S) (a := 4) (b := x) (c := S 190 x) (e := 3) (f := -1)
  obtain ⟨n1, n2⟩ := am_opS_old (S := S) (a := 4) (b := x) (c := S 190 x) (e := 3) (f := -1)
  rw [r18] at o1 o2 o3 o4 o5 o6 n2
  have ebs : am_bs ((3, 0, u.2.headD 0, 2, some u) :: F) = 0 :: am_bs F := if_pos (by omega)
  have ekc : am_kc ((3, 0, u.2.headD 0, 2, some u) :: F) = am_kc F + 1 := rfl
  have eT : (am_tF ((3, 0, u.2.headD 0, 2, some u) :: F)).length = (am_tF F).length + 1 + am_sz u.1 := by
    show (am_tF F ++ ([(2 : Int)] ++ am_lay u.1)).length = _
    rw [List.length_append, List.length_append, List.length_singleton, am_lay_len]
    omega
  have z : ∀ h, h ≠ 179 → h ≠ 196 → am_set (am_set (am_opS S 4 x (S 190 x) 3 (-1)) 196 (S 179 24) (-1)) 179 24 (S 179 24 + 1) h = am_opS S 4 x (S 190 x) 3 (-1) h := fun h a b => by rw [am_set_sh a, am_set_sh b]
  refine ⟨?_, ?_, ?_, ?_, S 179 12, ⟨lo, am_rF_fr (fun h a b j _ hj => by rw [z h (by omega) (by omega)]; exact n2 h a b j hj) (fun h a b j _ _ => by rw [z h (by omega) (by omega), n1 h a b]) rF, rlo, by rw [z 191 (by omega) (by omega)]; exact o1, by rw [z 193 (by omega) (by omega), px.2.2.1]; exact o3, fun _ => by rw [z 194 (by omega) (by omega)]; exact o4, fun q => absurd q (by omega), ?_⟩, ?_, rfl⟩
  · rw [am_set_sk (by omega), am_set_sh (by omega), o6, List.length_cons]
    rfl
  · rw [am_set_se, r24, ebs, List.length_cons]
    rfl
  · rw [ebs, List.map_cons, List.reverse_cons, am_set_sh (by omega)]
    have s := am_sg_snoc (S := am_opS S 4 x (S 190 x) 3 (-1)) (a := 196) (v := -1) (l := ((am_bs F).map am_lm).reverse) (o := 0) (by rw [o9]; exact r196)
    rw [Int.zero_add, List.length_reverse, List.length_map] at s
    rw [r24]
    exact s
  · rw [ekc, eT, am_set_sk (by omega), am_set_sh (by omega), o8]
    have e0 : (am_nl (none : Option am_U) : Int) = 0 := rfl
    have e1 : (am_nl (some u) : Int) = am_sz u.1 := rfl
    omega
  · show am_set _ 179 24 _ 192 F.length < S 179 12 ∧ am_rq _ lo (am_set _ 179 24 _ 192 F.length) u.1 u.2
    rw [z 192 (by omega) (by omega), o2]
    exact ⟨rx, am_rq_fr (fun h a b j _ _ => by rw [z h (by omega) (by omega), n1 h a b]) rq⟩
  · rw [am_set_sk (by omega), am_set_sh (by omega), o8]
    exact Int.le_refl _
/-- an atom is added and joined: what the machine does with it stands in rr_join -/
theorem am_RR_jn {S S' : am_St} {F : List am_Fr} {now : Option am_U} {v : am_U} {x x' lo : Int} (hr : am_RR S F now x) (hv : am_sz v.1 = 1) (f : am_fk [12] [187, 188, 189, 190] S S') (hF : am_rF S' F lo) (hlo : lo ≤ S' 179 12) (hx : x' < S' 179 12) (hq : am_rq S' lo x' (am_jn now v).1 (am_jn now v).2) (h12 : S' 179 12 ≤ S 179 12 + am_nl (some (am_jn now v)) - am_nl now) : am_RR S' F (some (am_jn now v)) x' := by
  obtain ⟨r18, r24, r196, r12, -⟩ := hr
  refine ⟨by rw [f.2 18 (by decide)]; exact r18, by rw [f.2 24 (by decide)]; exact r24, by rw [f.1 196 (by decide) (by decide)]; exact r196, by omega, lo, hF, hlo, hx, hq⟩
