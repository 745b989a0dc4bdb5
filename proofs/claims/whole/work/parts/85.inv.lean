/-! what holds between two calls -/
theorem am_dg_ch {n : Nat} (h : n ≤ 60000) : ∀ c ∈ am_dg n, 0 ≤ c ∧ c ≤ 65535 := by
  intro c hc
  unfold am_dg at hc
  split at hc
  · rcases List.mem_cons.mp hc with rfl | hc
    · omega
    · rw [List.mem_singleton.mp hc]
      omega
  · rw [List.mem_singleton.mp hc]
    omega
theorem am_br_ch {b : Bool} {l : List Int} (h : ∀ c ∈ l, 0 ≤ c ∧ c ≤ 65535) : ∀ c ∈ am_br b l, 0 ≤ c ∧ c ≤ 65535 := by
  intro c hc
  unfold am_br at hc
  split at hc
  · rcases List.mem_cons.mp hc with rfl | hc
    · omega
    · rcases List.mem_append.mp hc with hc | hc
      · exact h c hc
      · rw [List.mem_singleton.mp hc]
        omega
  · exact h c hc
theorem am_show_ch : ∀ {K : Nat} {t : am_T}, am_sz t ≤ 1000 → ∀ c ∈ am_show K t, 0 ≤ c ∧ c ≤ 65535
  | K, .leaf z, hs, c, hc => by
    unfold am_show at hc
    split at hc
    · exact am_dg_ch (by omega) c hc
    · split at hc
      · rw [List.mem_singleton.mp hc]
        have := am_ltr_b (x := (K : Int) - 1 - (z - 50))
        omega
      · rw [List.mem_singleton.mp hc]
        have := am_sig_b (z := z)
        omega
  | K, .branch k a b, hs, c, hc => by
    have e : am_sz (.branch k a b) = am_sz a + am_sz b + 1 := rfl
    unfold am_show at hc
    split at hc
    · rename_i m hm
      have := am_nv_sz hm
      exact am_dg_ch (by omega) c hc
    · split at hc
      · rcases List.mem_append.mp hc with hc | hc
        · exact am_br_ch (am_show_ch (by omega)) c hc
        · rcases List.mem_cons.mp hc with rfl | hc
          · omega
          · exact am_br_ch (am_show_ch (by omega)) c hc
      · split at hc
        · rcases List.mem_append.mp hc with hc | hc
          · exact am_br_ch (am_show_ch (by omega)) c hc
          · rcases List.mem_cons.mp hc with rfl | hc
            · omega
            · exact am_show_ch (by omega) c hc
        · rcases List.mem_cons.mp hc with rfl | hc
          · split <;> omega
          · rcases List.mem_cons.mp hc with rfl | hc
            · have := am_ltr_b (x := (K : Int))
              omega
            · rcases List.mem_cons.mp hc with rfl | hc
              · omega
              · rcases List.mem_append.mp hc with hc | hc
                · exact am_show_ch (by omega) c hc
                · rcases List.mem_cons.mp hc with rfl | hc
                  · omega
                  · exact am_show_ch (by omega) c hc
def am_Ix (S : am_St) (l : List Int) : Prop := S 8 3 = am_cn (S 184) 8 ∧ S 2 1 = S 179 4 ∧ am_wot S l ∧ am_ro S l ∧ (∀ c ∈ l, 0 ≤ c ∧ c ≤ 65535) ∧ S 44 2 = S 179 7
def am_Inv (S : am_St) : Prop := ∃ tl NM TP cs l, am_Ig tl cs ∧ am_Ic S tl NM TP cs ∧ am_Ir S tl NM TP cs ∧ am_Ix S l
theorem am_wot_fr {S S' : am_St} {l : List Int} (h : am_wot S l) (h1 : S' 44 = S 44) (h2 : S' 45 = S 45) : am_wot S' l := by
  unfold am_wot
  rw [h1, h2]
  exact h
theorem am_Ix_fr {S S' : am_St} {l : List Int} (h : am_Ix S l) (h8 : S' 8 = S 8) (h184 : S' 184 = S 184) (h2 : S' 2 1 = S' 179 4) (h44 : S' 44 = S 44) (h45 : S' 45 = S 45) (h182 : S' 182 = S 182) (h6 : S' 179 6 = S 179 6) (h7 : S' 179 7 = S 179 7) : am_Ix S' l := by
  obtain ⟨a1, a2, a3, a4, a5, a6⟩ := h
  exact ⟨by rw [h8, h184]; exact a1, h2, am_wot_fr a3 h44 h45, am_ro_fr a4 h6 h182, a5, by rw [h44, h7]; exact a6⟩
theorem am_Ic_lt {S S' : am_St} {tl : Nat → Bool} {NM TP : Nat → Option am_T} {cs : List Int} (h : am_Ic S tl NM TP cs) (hf : ∀ h, h < 179 → S' h = S h) : am_Ic S' tl NM TP cs := am_Ic_fr h (fun x _ => hf x (by omega)) (am_sane_fr h.2.2.2.2.2.1 (fun x _ _ => hf x (by omega))) (by rw [hf 52 (by omega)]; exact h.2.2.2.2.2.2.1) (by rw [hf 52 (by omega)]; exact h.2.2.2.2.2.2.2)
theorem am_Inv_fr {S S' : am_St} (h : am_Inv S) (hf : ∀ h, h ≠ 179 → h ≠ 210 → S' h = S h) (hj : ∀ j, j ≠ 1 → S' 179 j = S 179 j) : am_Inv S' := by
  obtain ⟨tl, NM, TP, cs, l, hg, hc, hr, hx⟩ := h
  exact ⟨tl, NM, TP, cs, l, hg, am_Ic_lt hc (fun x q => hf x (by omega) (by omega)), am_Ir_fr2 hr (fun x q => hf x (by omega) (by omega)) (hj 3 (by omega)), am_Ix_fr hx (hf 8 (by omega) (by omega)) (hf 184 (by omega) (by omega)) (by rw [hf 2 (by omega) (by omega), hj 4 (by omega)]; exact hx.2.1) (hf 44 (by omega) (by omega)) (hf 45 (by omega) (by omega)) (hf 182 (by omega) (by omega)) (hj 6 (by omega)) (hj 7 (by omega))⟩
theorem am_Inv_1 {S : am_St} {v : Int} (h : am_Inv S) : am_Inv (am_set S 179 1 v) := am_Inv_fr h (fun x p _ => am_set_sh p) (fun j p => am_set_sk p)
/-- a call on either side that names nothing -/
theorem am_Inv_cr {S S1 S2 : am_St} {tl : Nat → Bool} {NM TP : Nat → Option am_T} {cs l : List Int} {u : Option am_T} {p : Int} (hg : am_Ig tl cs) (hc : am_Ic S tl NM TP cs) (hr : am_Ir S tl NM TP cs) (hx : am_Ix S l) (f1 : am_fE S S1) (s1 : am_sane S1) (b0 : 0 ≤ S1 52 9) (b1 : S1 52 9 < 256) (p1 : S1 2 1 = p) (o1 : am_oC S S1 u) (f2 : am_fR S1 S2) (p2 : S2 179 4 = p) (o2 : am_oR S1 S2 u) : am_Inv S2 := by
  have hc2 : am_Ic S2 tl NM TP cs := am_Ic_lt (am_Ic_fr hc (fun h hh => f1 h (by omega)) s1 b0 b1) (fun h hh => f2.1 h (by omega))
  have hr2 : am_Ir S2 tl NM TP cs := am_Ir_fr (am_Ir_fr2 hr (fun h hh => f1 h (by omega)) (by rw [f1 179 (by omega)])) f2
  have e8 : S2 8 = S 8 := (f2.1 8 (by omega)).trans (f1 8 (by omega))
  have e184 : S2 184 = S 184 := (f2.1 184 (by omega)).trans (f1 184 (by omega))
  have e2 : S2 2 1 = S2 179 4 := by rw [f2.1 2 (by omega), p1, p2]
  have e44 : S2 44 = S1 44 := f2.1 44 (by omega)
  have e45 : S2 45 = S1 45 := f2.1 45 (by omega)
  cases u with
  | none =>
    obtain ⟨q1, q2⟩ := o1
    obtain ⟨q3, q4, q5⟩ := o2
    exact ⟨tl, NM, TP, cs, l, hg, hc2, hr2, am_Ix_fr hx e8 e184 e2 (e44.trans q1) (e45.trans q2) (q3.trans (f1 182 (by omega))) (q4.trans (by rw [f1 179 (by omega)])) (q5.trans (by rw [f1 179 (by omega)]))⟩
  | some u =>
    obtain ⟨q1, q2, q3, q4⟩ := o1
    obtain ⟨q5, q6⟩ := o2
    exact ⟨tl, NM, TP, cs, am_show 0 u, hg, hc2, hr2, by rw [e8, e184]; exact hx.1, e2, am_wot_fr q2 e44 e45, q6, am_show_ch (by omega), by rw [e44, q1, q5]⟩
/-! the calls -/
theorem H_check : am_one am_Inv am_Inv 4 [.ref 0] 65 [.ref 179] := by
  intro d n X S hd hI
  obtain ⟨tl, NM, TP, cs, l, hg, hc, hr, hx⟩ := hI
  refine do_checkC (tl := tl) (NM := NM) (TP := TP) (cs := cs) (by omega) hg hc (fun S1 f1 rd s1 b0 b1 p1 o1 => ⟨_, S1, rfl, rfl, rfl, ?_⟩)
  have hr1 : am_Ir S1 tl NM TP cs := am_Ir_fr2 hr (fun h hh => f1 h (by omega)) (by rw [f1 179 (by omega)])
  exact do_checkR (tl := tl) (NM := NM) (TP := TP) (cs := cs) (by omega) hg rd hr1 (fun S2 f2 p2 o2 => ⟨S2, rfl, rfl, rfl, am_Inv_cr hg hc hr hx f1 s1 b0 b1 p1 o1 f2 p2 o2⟩)
theorem H_normal : am_one am_Inv am_Inv 5 [.ref 0] 66 [.ref 179] := by
  intro d n X S hd hI
  obtain ⟨tl, NM, TP, cs, l, hg, hc, hr, hx⟩ := hI
  refine do_normalC (tl := tl) (NM := NM) (TP := TP) (cs := cs) (by omega) hg hc (fun S1 f1 rd s1 b0 b1 p1 o1 => ⟨_, S1, rfl, rfl, rfl, ?_⟩)
  have hr1 : am_Ir S1 tl NM TP cs := am_Ir_fr2 hr (fun h hh => f1 h (by omega)) (by rw [f1 179 (by omega)])
  exact do_normalR (tl := tl) (NM := NM) (TP := TP) (cs := cs) (by omega) hg rd hr1 (fun S2 f2 p2 o2 => ⟨S2, rfl, rfl, rfl, am_Inv_cr hg hc hr hx f1 s1 b0 b1 p1 o1 f2 p2 o2⟩)
theorem H_erase : am_one am_Inv am_Inv 2 [.ref 0] 23 [.ref 179] := by
  intro d n X S hd hI
  obtain ⟨tl, NM, TP, cs, l, hg, hc, hr, hx⟩ := hI
  rw [do_erase (by omega)]
  refine ⟨_, _, rfl, rfl, rfl, ?_⟩
  rw [do_rerase (by omega)]
  refine ⟨_, ?_, rfl, rfl, tl, NM, TP, [], l, ⟨by rw [List.length_nil]; omega, (fun c q => by cases q), hg.2.2⟩, ?_, ?_, ?_⟩
  · rw [am_set_sh (by omega), hr.1, hc.1]
  · obtain ⟨a1, a2, a3, a4, a5, a6, a7, a8⟩ := hc
    have f : ∀ h, h ≠ 0 → h ≠ 179 → am_set (am_set (am_set S 0 1 0) 179 1 0) 179 3 0 h = S h := fun h p q => by rw [am_set_sh q, am_set_sh q, am_set_sh p]
    exact ⟨by rw [am_set_sh (by omega), am_set_sh (by omega), am_set_se]; rfl, am_sg_nil, fun k hk => by rw [f 11 (by omega) (by omega)]; exact a3 k hk, am_nms_fr a4 (fun x p q => f x (by omega) (by omega)), am_nmt_fr a5 (fun x p q => f x (by omega) (by omega)), am_sane_fr a6 (fun x p q => f x (by omega) (by omega)), by rw [f 52 (by omega) (by omega)]; exact a7, by rw [f 52 (by omega) (by omega)]; exact a8⟩
  · obtain ⟨a1, a2, a3, a4, a5, a6⟩ := hr
    have f : ∀ h, h ≠ 0 → h ≠ 179 → am_set (am_set (am_set S 0 1 0) 179 1 0) 179 3 0 h = S h := fun h p q => by rw [am_set_sh q, am_set_sh q, am_set_sh p]
    refine ⟨by rw [am_set_se]; rfl, am_sg_nil, fun k hk => by rw [f 184 (by omega) (by omega)]; exact a3 k hk, am_nmr_fr a4 (f 183 (by omega) (by omega)) (f 184 (by omega) (by omega)), ?_, by rw [f 180 (by omega) (by omega)]; exact a6⟩
    unfold am_nmq
    rw [f 185 (by omega) (by omega), f 186 (by omega) (by omega)]
    exact a5
  · have f : ∀ h, h ≠ 0 → h ≠ 179 → am_set (am_set (am_set S 0 1 0) 179 1 0) 179 3 0 h = S h := fun h p q => by rw [am_set_sh q, am_set_sh q, am_set_sh p]
    have g : ∀ j, j ≠ 1 → j ≠ 3 → am_set (am_set (am_set S 0 1 0) 179 1 0) 179 3 0 179 j = S 179 j := fun j p q => by rw [am_set_sk q, am_set_sk p, am_set_sh (by omega)]
    exact am_Ix_fr hx (f 8 (by omega) (by omega)) (f 184 (by omega) (by omega)) (by rw [f 2 (by omega) (by omega), g 4 (by omega) (by omega)]; exact hx.2.1) (f 44 (by omega) (by omega)) (f 45 (by omega) (by omega)) (f 182 (by omega) (by omega)) (g 6 (by omega) (by omega)) (g 7 (by omega) (by omega))
theorem H_place : am_one am_Inv am_Inv 7 [.ref 0] 69 [.ref 179] := by
  intro d n X S hd hI
  have hI' := hI
  obtain ⟨tl, NM, TP, cs, l, hg, hc, hr, hx⟩ := hI
  rw [do_place (by omega)]
  refine ⟨_, _, rfl, rfl, rfl, ?_⟩
  rw [do_rplace (by omega)]
  exact ⟨_, by rw [hx.2.1], rfl, rfl, am_Inv_1 hI'⟩
theorem H_output (k : Int) (k0 : -2147483648 ≤ k) (k1 : k < 2147483648) : am_one am_Inv am_Inv 8 [.ref 0, .int (am_z k)] 70 [.ref 179, .int (am_z k)] := by
  intro d n X S hd hI
  have hI' := hI
  obtain ⟨tl, NM, TP, cs, l, hg, hc, hr, hx1, hx2, ⟨w1, w2, w3⟩, ⟨r1, r2, r3⟩, hch, -⟩ := hI
  have ch : ∀ (f : Int → Int), am_sg f 0 l → ∀ i : Int, 0 ≤ i → i < l.length → ∃ v ∈ l, f i = v ∧ l[i.toNat]? = some v := fun f hf i i0 i1 => by
    have hi : i.toNat < l.length := by omega
    refine ⟨_, List.getElem_mem hi, ?_, List.getElem?_eq_getElem hi⟩
    have q := hf i.toNat _ (List.getElem?_eq_getElem hi)
    rw [show (0 : Int) + (i.toNat : Int) = i by omega] at q
    exact q
  have b1 : ∀ i, 0 ≤ i → i < S 44 1 → 0 ≤ S 45 i ∧ S 45 i ≤ 65535 := fun i i0 i1 => by
    obtain ⟨v, hv, e, -⟩ := ch _ w2 i i0 (by omega)
    rw [e]
    exact hch v hv
  have b2 : ∀ i, 0 ≤ i → i < S 179 6 → 0 ≤ S 182 i ∧ S 182 i ≤ 65535 := fun i i0 i1 => by
    obtain ⟨v, hv, e, -⟩ := ch _ r2 i i0 (by omega)
    rw [e]
    exact hch v hv
  rw [do_output (by omega) k0 k1 (by omega) (by omega) b1]
  refine ⟨_, _, rfl, rfl, rfl, ?_⟩
  rw [do_routput (by omega) k0 k1 (by omega) (by omega) b2]
  refine ⟨_, ?_, rfl, rfl, am_Inv_1 hI'⟩
  rw [w1, r1]
  by_cases c : 0 ≤ k ∧ k < (l.length : Int)
  · obtain ⟨v, -, e1, e2⟩ := ch _ w2 k c.1 c.2
    obtain ⟨v', -, e3, e4⟩ := ch _ r2 k c.1 c.2
    rw [e2] at e4
    rw [if_pos c, if_pos c, e1, e3, Option.some.inj e4]
  · rw [if_neg c, if_neg c]
theorem H_count (k : Int) (k0 : -2147483648 ≤ k) (k1 : k < 2147483648) : am_one am_Inv am_Inv 9 [.ref 0, .int (am_z k)] 71 [.ref 179, .int (am_z k)] := by
  intro d n X S hd hI
  have hI' := hI
  obtain ⟨tl, NM, TP, cs, l, hg, hc, hr, hx1, hx2, ⟨w1, w2, w3⟩, ⟨r1, r2, r3⟩, hch, hx6⟩ := hI
  rw [do_count (by omega) k0 k1]
  refine ⟨_, _, rfl, rfl, rfl, ?_⟩
  rw [do_rcount (by omega) k0 k1 (fun j hj => by have := (hr.2.2.1 j hj).2.2; omega)]
  exact ⟨_, by rw [hx1, w1, r1, hx6], rfl, rfl, am_Inv_1 hI'⟩
theorem H_type (a b e f g : Int32) : am_two am_Inv am_Inv 1 [.ref 0, .int a, .int b, .int e, .int f, .int g] 22 [.ref 179, .int a, .int b, .int e, .int f, .int g] := by
  intro d N c s X S hd hI
  have hI' := hI
  obtain ⟨tl, NM, TP, cs, l, hg, hc, hr, hx⟩ := hI
  by_cases h : cs.length + (am_ch5 a b e f g).length ≤ 100
  · refine do_type (by omega) hc.1 hc.2.1 hg.1 h (fun S1 f1 k1 s1 => ⟨S1, rfl, Or.inr ⟨_, rfl, rfl, ?_⟩⟩)
    have z1 : ∀ (v : Int) h, h ≠ 0 → h ≠ 1 → h ≠ 210 → am_set S1 210 0 v h = S h := fun v h p q u => by rw [am_set_sh u, f1 h p q]
    refine do_rtype (l := cs) (by omega) (by rw [z1 _ 179 (by omega) (by omega) (by omega)]; exact hr.1) (by rw [z1 _ 181 (by omega) (by omega) (by omega)]; exact hr.2.1) hg.1 h (fun S2 f2 g2 w2 k2 s2 => ?_)
    have z2 : ∀ h, h ≠ 0 → h ≠ 1 → h ≠ 179 → h ≠ 181 → h ≠ 210 → S2 h = S h := fun h p q u v w => (f2 h u v).trans (z1 _ h p q w)
    have g3 : ∀ j, j ≠ 1 → j ≠ 3 → S2 179 j = S 179 j := fun j p q => (g2 j p q).trans (by rw [z1 _ 179 (by omega) (by omega) (by omega)])
    refine ⟨S2, rfl, rfl, rfl, ⟨tl, NM, TP, cs ++ am_ch5 a b e f g, l, ⟨by rw [List.length_append]; exact h, fun c q => ?_, hg.2.2⟩, ?_, ?_, ?_⟩, w2, by rw [f2 210 (by omega) (by omega), am_set_se]⟩
    · rcases List.mem_append.mp q with q | q
      · exact hg.2.1 c q
      · exact am_ch5_ok q
    · obtain ⟨a1, a2, a3, a4, a5, a6, a7, a8⟩ := hc
      exact ⟨by rw [f2 0 (by omega) (by omega), am_set_sh (by omega)]; exact k1, by rw [f2 1 (by omega) (by omega), am_set_sh (by omega)]; exact s1, fun k hk => by rw [z2 11 (by omega) (by omega) (by omega) (by omega) (by omega)]; exact a3 k hk, am_nms_fr a4 (fun x p q => z2 x (by omega) (by omega) (by omega) (by omega) (by omega)), am_nmt_fr a5 (fun x p q => z2 x (by omega) (by omega) (by omega) (by omega) (by omega)), am_sane_fr a6 (fun x p q => z2 x (by omega) (by omega) (by omega) (by omega) (by omega)), by rw [z2 52 (by omega) (by omega) (by omega) (by omega) (by omega)]; exact a7, by rw [z2 52 (by omega) (by omega) (by omega) (by omega) (by omega)]; exact a8⟩
    · obtain ⟨a1, a2, a3, a4, a5, a6⟩ := hr
      refine ⟨k2, s2, fun k hk => by rw [z2 184 (by omega) (by omega) (by omega) (by omega) (by omega)]; exact a3 k hk, am_nmr_fr a4 (z2 183 (by omega) (by omega) (by omega) (by omega) (by omega)) (z2 184 (by omega) (by omega) (by omega) (by omega) (by omega)), ?_, by rw [z2 180 (by omega) (by omega) (by omega) (by omega) (by omega)]; exact a6⟩
      unfold am_nmq
      rw [z2 185 (by omega) (by omega) (by omega) (by omega) (by omega), z2 186 (by omega) (by omega) (by omega) (by omega) (by omega)]
      exact a5
    · exact am_Ix_fr hx (z2 8 (by omega) (by omega) (by omega) (by omega) (by omega)) (z2 184 (by omega) (by omega) (by omega) (by omega) (by omega)) (by rw [z2 2 (by omega) (by omega) (by omega) (by omega) (by omega), g3 4 (by omega) (by omega)]; exact hx.2.1) (z2 44 (by omega) (by omega) (by omega) (by omega) (by omega)) (z2 45 (by omega) (by omega) (by omega) (by omega) (by omega)) (z2 182 (by omega) (by omega) (by omega) (by omega) (by omega)) (g3 6 (by omega) (by omega)) (g3 7 (by omega) (by omega))
  · rw [do_type_no (by omega) hc.1 hc.2.1 hg.1 (by omega)]
    refine ⟨S, rfl, Or.inl ⟨rfl, rfl, ?_⟩⟩
    refine do_rtype_no (l := cs) (by omega) hr.1 hr.2.1 hg.1 (by omega) (fun S2 f2 g2 w2 k2 s2 => ⟨0, S2, rfl, rfl, rfl, ?_, w2⟩)
    refine ⟨tl, NM, TP, cs, l, hg, am_Ic_lt hc (fun x q => f2 x (by omega) (by omega)), ?_, am_Ix_fr hx (f2 8 (by omega) (by omega)) (f2 184 (by omega) (by omega)) (by rw [f2 2 (by omega) (by omega), g2 4 (by omega) (by omega)]; exact hx.2.1) (f2 44 (by omega) (by omega)) (f2 45 (by omega) (by omega)) (f2 182 (by omega) (by omega)) (g2 6 (by omega) (by omega)) (g2 7 (by omega) (by omega))⟩
    obtain ⟨a1, a2, a3, a4, a5, a6⟩ := hr
    refine ⟨k2, s2, fun k hk => by rw [f2 184 (by omega) (by omega)]; exact a3 k hk, am_nmr_fr a4 (f2 183 (by omega) (by omega)) (f2 184 (by omega) (by omega)), ?_, by rw [f2 180 (by omega) (by omega)]; exact a6⟩
    unfold am_nmq
    rw [f2 185 (by omega) (by omega), f2 186 (by omega) (by omega)]
    exact a5
theorem H_define (k : Int) (k0 : -2147483648 ≤ k) (k1 : k < 2147483648) : am_two am_Inv am_Inv 3 [.ref 0, .int (am_z k)] 64 [.ref 179, .int (am_z k)] := by
  intro d N c s X S hd hI
  have hI' := hI
  obtain ⟨tl, NM, TP, cs, l, hg, hc, hr, hx⟩ := hI
  by_cases hk : k < 0 ∨ 8 ≤ k
  · rw [do_defC_no (by omega) k0 k1 hk]
    refine ⟨S, rfl, Or.inl ⟨rfl, rfl, ?_⟩⟩
    rw [do_defR_no (by omega) k0 k1 hk]
    exact ⟨0, _, rfl, rfl, rfl, am_Inv_1 hI', am_set_se⟩
  · obtain ⟨j, rfl⟩ : ∃ j : Nat, k = j := ⟨k.toNat, by omega⟩
    have hj : j < 8 := by omega
    by_cases ht : tl j = true
    · rw [do_defC_taken (tl := tl) (by omega) hj hc.2.2.1 hg.2.2 ht]
      refine ⟨_, rfl, Or.inr ⟨_, rfl, rfl, ?_⟩⟩
      obtain ⟨t1, t2, t3, t4⟩ := hr.2.2.1 j hj
      have t5 := t1 ht
      rw [do_defR_taken (by omega) hj (by rw [am_set_sh (by omega), am_set_sh (by omega), am_set_sh (by omega)]; omega) (by rw [am_set_sh (by omega), am_set_sh (by omega), am_set_sh (by omega)]; omega)]
      refine ⟨_, rfl, rfl, rfl, ⟨tl, NM, TP, cs, l, hg, ?_, ?_, ?_⟩, by rw [am_set_sk (by omega), am_set_se], by rw [am_set_sh (by omega), am_set_sh (by omega), am_set_se]⟩
      · have f : ∀ h, h ≠ 2 → h ≠ 179 → h ≠ 210 → am_set (am_set (am_set (am_set (am_set S 2 0 0) 2 1 (-1)) 210 0 (-8)) 179 1 0) 179 4 (-1) h = S h := fun h p q u => by rw [am_set_sh q, am_set_sh q, am_set_sh u, am_set_sh p, am_set_sh p]
        exact am_Ic_fr hc (fun h hh => f h (by omega) (by omega) (by omega)) (am_sane_fr hc.2.2.2.2.2.1 (fun x p q => f x (by omega) (by omega) (by omega))) (by rw [f 52 (by omega) (by omega) (by omega)]; exact hc.2.2.2.2.2.2.1) (by rw [f 52 (by omega) (by omega) (by omega)]; exact hc.2.2.2.2.2.2.2)
      · have f : ∀ h, h ≠ 2 → h ≠ 179 → h ≠ 210 → am_set (am_set (am_set (am_set (am_set S 2 0 0) 2 1 (-1)) 210 0 (-8)) 179 1 0) 179 4 (-1) h = S h := fun h p q u => by rw [am_set_sh q, am_set_sh q, am_set_sh u, am_set_sh p, am_set_sh p]
        exact am_Ir_fr2 hr (fun h hh => f h (by omega) (by omega) (by omega)) (by rw [am_set_sk (by omega), am_set_sk (by omega), am_set_sh (by omega), am_set_sh (by omega), am_set_sh (by omega)])
      · have f : ∀ h, h ≠ 2 → h ≠ 179 → h ≠ 210 → am_set (am_set (am_set (am_set (am_set S 2 0 0) 2 1 (-1)) 210 0 (-8)) 179 1 0) 179 4 (-1) h = S h := fun h p q u => by rw [am_set_sh q, am_set_sh q, am_set_sh u, am_set_sh p, am_set_sh p]
        have g : ∀ j, j ≠ 1 → j ≠ 4 → am_set (am_set (am_set (am_set (am_set S 2 0 0) 2 1 (-1)) 210 0 (-8)) 179 1 0) 179 4 (-1) 179 j = S 179 j := fun j p q => by rw [am_set_sk q, am_set_sk p, am_set_sh (by omega), am_set_sh (by omega), am_set_sh (by omega)]
        refine am_Ix_fr hx (f 8 (by omega) (by omega) (by omega)) (f 184 (by omega) (by omega) (by omega)) ?_ (f 44 (by omega) (by omega) (by omega)) (f 45 (by omega) (by omega) (by omega)) (f 182 (by omega) (by omega) (by omega)) (g 6 (by omega) (by omega)) (g 7 (by omega) (by omega))
        rw [am_set_se, am_set_sh (by omega), am_set_sh (by omega), am_set_sh (by omega), am_set_se]
    · refine do_defC (tl := tl) (NM := NM) (TP := TP) (cs := cs) (by omega) hj hg hc ht (fun S1 t o f1 rd e1 hc1 m1 p1 => ⟨S1, rfl, Or.inr ⟨_, rfl, rfl, ?_⟩⟩) (fun S1 e p f1 rd e1 hc1 p1 => ⟨S1, rfl, Or.inr ⟨_, rfl, rfl, ?_⟩⟩)
      · have z1 : ∀ (v : Int) h, (h < 2 ∨ h = 3 ∨ (44 ≤ h ∧ h < 48) ∨ 179 ≤ h) → h ≠ 210 → am_set S1 210 0 v h = S h := fun v h p q => by rw [am_set_sh q, f1 h p]
        have hr1 : am_Ir (am_set S1 210 0 0) tl NM TP cs := am_Ir_fr2 hr (fun h hh => z1 _ h (by omega) (by omega)) (by rw [z1 _ 179 (by omega) (by omega)])
        refine do_defR (tl := tl) (NM := NM) (TP := TP) (cs := cs) (by omega) hj hg rd hr1 ht (fun S2 t' o' f2 g6 g7 e2 hr2 cn2 p2 w2 => ?_) (fun S2 e p f2 o2 e2 p2 w2 => by rw [e1] at e2; cases e2)
        rw [e1] at e2
        cases e2
        refine ⟨S2, rfl, rfl, rfl, ⟨am_tlu tl j, am_nup NM j (am_cap (am_xp t)), am_nup TP j o, cs, l, ⟨hg.1, hg.2.1, am_tlu_8 hj hg.2.2⟩, ?_, hr2, ?_⟩, w2, by rw [f2 210 (by omega), am_set_se]⟩
        · exact am_Ic_lt hc1 (fun x q => by rw [f2 x (by omega), am_set_sh (by omega)])
        · obtain ⟨x1, x2, x3, x4, x5, x6⟩ := hx
          have e44 : S2 44 = S 44 := (f2 44 (by omega)).trans (z1 _ 44 (by omega) (by omega))
          have e45 : S2 45 = S 45 := (f2 45 (by omega)).trans (z1 _ 45 (by omega) (by omega))
          have e182 : S2 182 = S 182 := (f2 182 (by omega)).trans (z1 _ 182 (by omega) (by omega))
          have e6 : S2 179 6 = S 179 6 := g6.trans (by rw [z1 _ 179 (by omega) (by omega)])
          have e7 : S2 179 7 = S 179 7 := g7.trans (by rw [z1 _ 179 (by omega) (by omega)])
          refine ⟨?_, by rw [f2 2 (by omega), am_set_sh (by omega), p1, p2], am_wot_fr x3 e44 e45, am_ro_fr x4 e6 e182, x5, by rw [e44, e7]; exact x6⟩
          rw [f2 8 (by omega), am_set_sh (by omega), m1, cn2, z1 _ 184 (by omega) (by omega), x1]
      · have z1 : ∀ (v : Int) h, (h < 2 ∨ h = 3 ∨ (8 ≤ h ∧ h < 52) ∨ 179 ≤ h) → h ≠ 210 → am_set S1 210 0 v h = S h := fun v h p q => by rw [am_set_sh q, f1 h p]
        have hr1 : am_Ir (am_set S1 210 0 e) tl NM TP cs := am_Ir_fr2 hr (fun h hh => z1 _ h (by omega) (by omega)) (by rw [z1 _ 179 (by omega) (by omega)])
        refine do_defR (tl := tl) (NM := NM) (TP := TP) (cs := cs) (by omega) hj hg rd hr1 ht (fun S2 t' o' f2 g6 g7 e2 hr2 cn2 p2 w2 => by rw [e1] at e2; cases e2) (fun S2 e' p' f2 o2 e2 p2 w2 => ?_)
        rw [e1] at e2
        cases e2
        obtain ⟨q1, q2, q3⟩ := o2
        refine ⟨S2, rfl, rfl, rfl, ⟨tl, NM, TP, cs, l, hg, am_Ic_lt hc1 (fun x q => by rw [f2.1 x (by omega), am_set_sh (by omega)]), am_Ir_fr hr1 f2, ?_⟩, w2, by rw [f2.1 210 (by omega), am_set_se]⟩
        exact am_Ix_fr hx ((f2.1 8 (by omega)).trans (z1 _ 8 (by omega) (by omega))) ((f2.1 184 (by omega)).trans (z1 _ 184 (by omega) (by omega))) (by rw [f2.1 2 (by omega), am_set_sh (by omega), p1, p2]) ((f2.1 44 (by omega)).trans (z1 _ 44 (by omega) (by omega))) ((f2.1 45 (by omega)).trans (z1 _ 45 (by omega) (by omega))) (q1.trans (z1 _ 182 (by omega) (by omega))) (q2.trans (by rw [z1 _ 179 (by omega) (by omega)])) (q3.trans (by rw [z1 _ 179 (by omega) (by omega)]))
theorem H_same (k m : Int) (k0 : -2147483648 ≤ k) (k1 : k < 2147483648) (m0 : -2147483648 ≤ m) (m1 : m < 2147483648) : am_two am_Inv am_Inv 6 [.ref 0, .int (am_z k), .int (am_z m)] 68 [.ref 179, .int (am_z k), .int (am_z m)] := by
  intro d N c s X S hd hI
  have hI' := hI
  obtain ⟨tl, NM, TP, cs, l, hg, hc, hr, hx⟩ := hI
  by_cases h : (0 ≤ k ∧ tl k.toNat = true) ∧ (0 ≤ m ∧ tl m.toNat = true)
  · obtain ⟨⟨h1, h2⟩, h3, h4⟩ := h
    obtain ⟨a, rfl⟩ : ∃ j : Nat, k = j := ⟨k.toNat, by omega⟩
    obtain ⟨b, rfl⟩ : ∃ j : Nat, m = j := ⟨m.toNat, by omega⟩
    rw [Int.toNat_natCast] at h2 h4
    refine do_sameC (tl := tl) (NM := NM) (TP := TP) (cs := cs) (by omega) hg hc h2 h4 (fun S1 f1 p1 => ⟨S1, rfl, Or.inr ⟨_, rfl, rfl, ?_⟩⟩)
    have z1 : ∀ (v : Int) h, h ≠ 2 → (h < 4 ∨ (8 ≤ h ∧ h < 48) ∨ (52 ≤ h ∧ h < 64) ∨ 66 ≤ h) → h ≠ 210 → am_set S1 210 0 v h = S h := fun v h p q u => by rw [am_set_sh u, f1 h p q]
    generalize hv : (am_sam NM a b).1 = v
    have hr1 : am_Ir (am_set S1 210 0 v) tl NM TP cs := am_Ir_fr2 hr (fun h hh => z1 _ h (by omega) (by omega) (by omega)) (by rw [z1 _ 179 (by omega) (by omega) (by omega)])
    refine do_sameR (tl := tl) (NM := NM) (TP := TP) (cs := cs) (by omega) hg hr1 h2 h4 (fun S2 f2 o2 p2 w2 => ?_)
    obtain ⟨q1, q2, q3⟩ := o2
    have y : ∀ h, h ≠ 2 → h < 179 → (h < 4 ∨ (8 ≤ h ∧ h < 48) ∨ (52 ≤ h ∧ h < 64) ∨ 66 ≤ h) → S2 h = S h := fun h p u q => (f2.1 h (by omega)).trans (z1 _ h p q (by omega))
    refine ⟨S2, by rw [hv], rfl, rfl, ⟨tl, NM, TP, cs, l, hg, ?_, am_Ir_fr hr1 f2, ?_⟩, w2, by rw [f2.1 210 (by omega), am_set_se]⟩
    · exact am_Ic_fr hc (fun h hh => y h (by omega) (by omega) (by omega)) (am_sane_fr hc.2.2.2.2.2.1 (fun x p q => y x (by omega) (by omega) (by omega))) (by rw [y 52 (by omega) (by omega) (by omega)]; exact hc.2.2.2.2.2.2.1) (by rw [y 52 (by omega) (by omega) (by omega)]; exact hc.2.2.2.2.2.2.2)
    · exact am_Ix_fr hx (y 8 (by omega) (by omega) (by omega)) ((f2.1 184 (by omega)).trans (z1 _ 184 (by omega) (by omega) (by omega))) (by rw [f2.1 2 (by omega), am_set_sh (by omega), p1, p2]) (y 44 (by omega) (by omega) (by omega)) (y 45 (by omega) (by omega) (by omega)) (q1.trans (z1 _ 182 (by omega) (by omega) (by omega))) (q2.trans (by rw [z1 _ 179 (by omega) (by omega) (by omega)])) (q3.trans (by rw [z1 _ 179 (by omega) (by omega) (by omega)]))
  · rw [do_sameC_no (tl := tl) (by omega) k0 k1 m0 m1 hc.2.2.1 hg.2.2 h]
    refine ⟨S, rfl, Or.inl ⟨rfl, rfl, ?_⟩⟩
    rw [do_sameR_no (tl := tl) (by omega) k0 k1 m0 m1 hr.2.2.1 hg.2.2 h]
    exact ⟨0, _, rfl, rfl, rfl, am_Inv_1 hI', am_set_se⟩
/-! all calls -/
def am_qf (C Z : Nat) : Option Value → am_N → am_M → Prop := fun r n _ => r = some (.int 1) ∧ n.2.1 ≤ C ∧ n.2.2.1 ≤ Z
theorem law_loop {N L C Z : Nat} {xs : Nat → Int32} (hL : L ≤ 3072) : ∀ (m : Nat) {i : Int} {c s : Nat} {S : am_St} {v5 v6 : Value}, 0 ≤ i → (L : Int) < i + 6 * m + 6 → i ≤ L → c + m ≤ C → s + 6 * m ≤ Z → am_Inv S → am_AW 400 149 (23, [.ref 100001, .ref 0, .ref 179, .ref 210, .int (am_z i), v5, v6], [], (N, c, s, false), am_m (L, xs) S) (am_qf C Z) := by
  have fin : ∀ {i : Int} {c s : Nat} {S : am_St} {v5 v6 : Value}, 0 ≤ i → i ≤ L → (L : Int) < i + 6 → c ≤ C → s ≤ Z → am_AW 400 149 (23, [.ref 100001, .ref 0, .ref 179, .ref 210, .int (am_z i), v5, v6], [], (N, c, s, false), am_m (L, xs) S) (am_qf C Z) := by
    intro i c s S v5 v6 h0 h1 h2 h3 h4
    have hq : am_qf C Z (some (.int (am_z 1))) (N, c, s, false) (am_m (L, xs) S) := ⟨rfl, h3, h4⟩
    rw [w149_23]
    simp (disch := first | omega | exact am_fit_z0 | exact am_fit_z1 | (apply am_fit_zc <;> omega)) only [w149_0, w149_3, w149_3i, w149_4, w149_7, w149_8, w149_11, w149_11i, w149_12, w149_15, w149_16, w149_17, w149_19, w149_20, w149_21, w149_25, w149_26, w149_27, w149_29, w149_30, w149_33, w149_34, w149_36, w149_37, w149_39, w149_40, w149_92, w149_93, w149_94, w149_96, w149_97, w149_98, w149_99, w149_100, w149_102, w149_103, w149_104, w149_105, w149_106, w149_108, w149_109, w149_110, w149_111, w149_112, w149_114, w149_115, w149_116, w149_117, w149_118, w149_120, w149_121, w149_122, w149_123, w149_124, w149_127, w149_129, w149_130, w149_131, w149_133, w149_134, w149_135, w149_136, w149_137, w149_139, w149_140, w149_141, w149_142, w149_143, w149_145, w149_146, w149_147, w149_148, w149_149, w149_151, w149_152, w149_153, w149_154, w149_155, w149_157, w149_158, w149_159, w149_160, w149_163, w149_165, w149_166, w149_169, w149_171, w149_174, w149_175, w149_176, w149_178, w149_181, w149_182, w149_183, w149_184, w149_186, w149_187, w149_188, w149_191, w149_192, w149_193, w149_196, w149_197, w149_200, w149_201, w149_204, w149_207, w149_208, w149_209, w149_210, w149_211, w149_213, w149_214, w149_215, w149_216, w149_217, w149_220, w149_222, w149_223, w149_224, w149_226, w149_227, w149_228, w149_229, w149_232, w149_234, w149_235, w149_238, w149_240, w149_243, w149_244, w149_245, w149_247, w149_250, w149_251, w149_252, w149_253, w149_255, w149_256, w149_257, w149_260, w149_261, w149_262, w149_265, w149_266, w149_269, w149_270, w149_273, w149_276, w149_277, w149_278, w149_279, w149_282, w149_283, w149_286, w149_289, w149_290, w149_291, w149_292, w149_293, w149_295, w149_296, w149_297, w149_298, w149_299, w149_301, w149_302, w149_303, w149_304, w149_305, w149_308, w149_310, w149_311, w149_312, w149_314, w149_315, w149_316, w149_317, w149_318, w149_320, w149_321, w149_322, w149_323, w149_326, w149_328, w149_329, w149_332, w149_334, w149_337, w149_338, w149_339, w149_341, w149_344, w149_345, w149_346, w149_347, w149_349, w149_350, w149_351, w149_354, w149_355, w149_356, w149_359, w149_360, w149_363, w149_364, w149_367, w149_370, w149_371, w149_372, w149_373, w149_374, w149_376, w149_377, w149_378, w149_379, w149_382, w149_383, w149_384, w149_386, w149_387, w149_388, w149_389, w149_392, w149_395, w149_396, w149_397, w149_398, w149_399, w149_401, w149_402, w149_403, w149_404, w149_407, w149_408, w149_409, w149_411, w149_412, w149_413, w149_414, w149_417, w149_420, w149_421, w149_422, w149_425, w149_428, w149_429, am_fit_i, am_isR, am_okA, exists_eq_left', exists_eq_left, Option.some.injEq, true_and, and_true, List.length_cons, List.length_nil, List.drop_succ_cons, List.drop_zero, List.all_cons, List.all_nil, am_c1, Bool.and_true, Bool.true_and, Bool.and_self, decide_true, decide_false, if_true, if_false, beq_self_eq_true, Nat.reduceAdd, Nat.reduceLeDiff, Nat.reduceLT, Nat.reduceEqDiff, Nat.reduceSub, ite_true, ite_false, and_self, eq_self, am_z_add, am_z_sub, am_z_mul, Int.reduceAdd, Int.reduceSub, Int.reduceMul, Int.reduceLT, Int.reduceLE, Int.reduceEq, Int.reduceNeg, am_then_i, am_then_r, am_then_v, Nat.add_eq, Nat.zero_add, Nat.add_zero, am_fit_z0, am_fit_z1, am_fit_zc, ↓reduceIte, am_lt_T, am_lt_F, am_le_T, am_le_F, am_eq_T, am_eq_F, am_z_lt, am_z_le, am_z_eq, am_z_char, am_set_se, am_set_sk, am_set_sh, am_x_n]
    exact hq
  intro m
  induction m with
  | zero =>
    intro i c s S v5 v6 h0 h1 h2 h3 h4 hI
    exact fin h0 h2 (by omega) (by omega) (by omega)
  | succ m ih =>
    intro i c s S v5 v6 h0 h1 h2 h3 h4 hI
    by_cases h : i + 6 ≤ L
    · exact law_step H_type H_erase H_define H_check H_normal H_same H_place H_output H_count (fun S h => h) (by omega) hI h0 (show i + 6 ≤ ((L : Nat) : Int) from h) (show L ≤ 100000 by omega) (fun S' c' s' v5' v6' hJ a1 a2 a3 a4 => ih (by omega) (by omega) (by omega) (by omega) (by omega) hJ)
    · exact fin h0 h2 (by omega) (by omega) (by omega)
def am_S1 : am_St := fun h k => if h = 2 ∧ k = 1 then -1 else if h = 52 ∧ k = 8 then -1 else if h = 179 ∧ k = 4 then -1 else if h = 180 then am_rc.getD k.toNat 0 else 0
theorem am_S1_eq : (fun (h : Nat) (k : Nat) => am_S1 h (k : Int)) = am_S0 := by
  funext h k
  unfold am_S1 am_S0
  rw [Int.toNat_natCast]
  have e1 : ((k : Int) = 1) = (k = 1) := propext ⟨fun q => by omega, fun q => by omega⟩
  have e8 : ((k : Int) = 8) = (k = 8) := propext ⟨fun q => by omega, fun q => by omega⟩
  have e4 : ((k : Int) = 4) = (k = 4) := propext ⟨fun q => by omega, fun q => by omega⟩
  simp only [e1, e8, e4]
theorem am_S1_0 {h : Nat} {k : Int} (h2 : h ≠ 2) (h52 : h ≠ 52 ∨ k ≠ 8) (h179 : h ≠ 179 ∨ k ≠ 4) (h180 : h ≠ 180) : am_S1 h k = 0 := by
  unfold am_S1
  rw [if_neg (fun q => h2 q.1), if_neg (by omega), if_neg (by omega), if_neg h180]
theorem am_rc_lay : am_lay (am_en am_rty) = am_rc := by decide
theorem am_Inv_0 : am_Inv am_S1 := by
  refine ⟨fun _ => false, fun _ => none, fun _ => none, [], [], ⟨by rw [List.length_nil]; omega, (fun c q => by cases q), (fun k q => by cases q)⟩, ⟨am_S1_0 (by omega) (by omega) (by omega) (by omega), am_sg_nil, fun k hk => am_S1_0 (by omega) (by omega) (by omega) (by omega), (fun k hk q => by cases q), (fun k hk q => by cases q), fun j hj => ⟨some [], by rw [List.length_nil]; omega, am_S1_0 (by omega) (by omega) (by omega) (by omega), am_S1_0 (by omega) (by omega) (by omega) (by omega), am_sg_nil⟩, by rw [am_S1_0 (by omega) (by omega) (by omega) (by omega)]; omega, by rw [am_S1_0 (by omega) (by omega) (by omega) (by omega)]; omega⟩, ⟨am_S1_0 (by omega) (by omega) (by omega) (by omega), am_sg_nil, fun k hk => ?_, (fun k hk q => by cases q), (fun k hk q => by cases q), ?_⟩, ?_, ?_, ⟨am_S1_0 (by omega) (by omega) (by omega) (by omega), am_sg_nil, by rw [List.length_nil]; omega⟩, ⟨am_S1_0 (by omega) (by omega) (by omega) (by omega), am_sg_nil, by rw [List.length_nil]; omega⟩, (fun c q => by cases q), ?_⟩
  · rw [am_S1_0 (by omega) (by omega) (by omega) (by omega)]
    exact ⟨(fun q => by cases q), fun _ => rfl, by omega, by omega⟩
  · rw [am_rc_lay]
    intro i v hi
    unfold am_S1
    rw [if_neg (by omega), if_neg (by omega), if_neg (by omega), if_pos rfl, show ((0 : Int) + (i : Int)).toNat = i by omega, List.getD_eq_getElem?_getD, hi]
    rfl
  · rw [am_S1_0 (by omega) (by omega) (by omega) (by omega)]
    have z : ∀ m, am_cn (am_S1 184) m = 0 := fun m => by
      induction m with
      | zero => rfl
      | succ m ih =>
        show am_cn (am_S1 184) m + (if 0 < am_S1 184 (m : Int) then 1 else 0) = 0
        rw [ih, am_S1_0 (by omega) (by omega) (by omega) (by omega), if_neg (by omega)]
        rfl
    exact (z 8).symm
  · unfold am_S1
    rw [if_pos ⟨rfl, rfl⟩, if_neg (by omega), if_neg (by omega), if_pos ⟨rfl, rfl⟩]
  · rw [am_S1_0 (by omega) (by omega) (by omega) (by omega), am_S1_0 (by omega) (by omega) (by omega) (by omega)]
theorem law_all {L : Nat} {xs : Nat → Int32} (hL : L ≤ 3072) {C Z : Nat} (hC : 211 + 512 ≤ C) (hZ : 66674 + 6 * 512 ≤ Z) : am_law 400 L xs C Z := by
  have h : am_AW 400 149 (0, am_ent 7 [.ref 100001], [], am_n0, am_M0 L xs) (am_qf C Z) := by
    rw [law_start (by omega), ← am_S1_eq]
    exact law_loop (N := 211) hL 512 (Int.le_refl 0) (by omega) (by omega) (by omega) (by omega) am_Inv_0
  obtain ⟨k, res, h1, h2, h3, h4⟩ := h
  exact ⟨k, res, h1, h2, h3, h4⟩
