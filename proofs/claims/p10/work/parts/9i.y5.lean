/-! THE CLASS, 14: descriptors that are there; arrays; constants. -/
section Y5
variable {E : Nat → Value} {d x d0 dp : Nat} {h : gm_H} {ca : Nat → Nat} {K : gs_K} {F G : Nat → Prop} {s : gs_S} {rc : gs_M Int32}
theorem x_readDescriptor (C : gx_RC E x ca K d0 (dp + 1) rc) (hK : gs_rst K = false) (hdp : dp < 1000) : ∀ f, f ≤ 8 → gx_DC E x ca K (d0 + 6 + f) dp (9 - f) (gs_desc K rc f)
  | 0, _ => by
    intro d h s F G hd R hF
    exact x_readDescriptor1 (up := none) C hK hdp (by decide) (by show 8 < 9; decide) (by omega) (by omega) R hF
  | f + 1, hf => by
    intro d h s F G hd R hF
    refine x_readDescriptor1 (up := some (gs_desc K rc f)) C hK hdp (by omega) ⟨by omega, ?_⟩ (by omega) (by omega) R hF
    have e : 9 - (f + 1) + 1 = 9 - f := by omega
    rw [e]
    intro d' h' s' F' G' hd' R' hF''
    exact x_readDescriptor C hK hdp f (by omega) d' h' s' F' G' (by omega) R' hF''
def gs_pres (K : gs_K) (rc : gs_M Int32) : gs_M (gs_L × List gs_L) := gs_have (gs_desc K rc 8) (fun l L => gs_r (l, L))
theorem gs_have_ok {α : Type} {f : gs_L → List gs_L → gs_M α} {l : gs_L} {L : List gs_L} {s1 : gs_S} (e : gs_pres K rc s = .ok ((l, L), s1)) : gs_have (gs_desc K rc 8) f s = f l L s1 := by
  unfold gs_pres gs_have gs_b at e
  unfold gs_have gs_b
  cases q : gs_desc K rc 8 s with
  | error c => rw [q] at e; cases e
  | ok p =>
    obtain ⟨L0, s0⟩ := p
    rw [q] at e
    cases L0 with
    | nil => cases e
    | cons l0 L0 => cases e; rfl
theorem gs_have_er {α : Type} {f : gs_L → List gs_L → gs_M α} {c : Int32} (e : gs_pres K rc s = .error c) : gs_have (gs_desc K rc 8) f s = .error c := by
  unfold gs_pres gs_have gs_b at e
  unfold gs_have gs_b
  cases q : gs_desc K rc 8 s with
  | error c => rw [q] at e; cases e; rfl
  | ok p =>
    obtain ⟨L0, s0⟩ := p
    rw [q] at e
    cases L0 with
    | nil => cases e; rfl
    | cons l0 L0 => cases e
theorem x_readPresent (C : gx_RC E x ca K d0 (dp + 1) rc) (hK : gs_rst K = false) (hdp : dp < 1000) (hd : d0 + 15 ≤ d) (R : gx_R E h x ca K F s) (hF : ∀ a, F a → a < h.1) : gm_Ca E d 96 [.ref x, .int (nI dp)] h (gx_P E h x ca K F G s (fun q h' v => (∃ a, v = some (.ref a) ∧ gx_ds h' x ca K F (q.1 :: q.2) (.ref a)) ∧ ∀ s', gs_pres K rc s = .ok (q, s') → (h'.1 + 3 + gs_pl s ≤ h.1 + gs_pl s' ∧ h'.2.1 + 29 + 8 * gs_pl s ≤ h.2.1 + 8 * gs_pl s') ∧ q.2.length + 1 ≤ gs_dn s') (gs_pres K rc s)) := by
  show gm_W E d 96 0 [.ref x, .int (nI dp), gm_u] [] h _
  simp only [r96_0, r96_0n, r96_1, r96_2, r96_6, r96_6n, r96_7, r96_7n, r96_8n, r96_8, r96_11, r96_11n, r96_12, r96_17, r96_17a, r96_17n, r96_18, r96_18n, r96_19, r96_19n, i32_10, reduceIte, gm_cmp1, gm_cmp3, gm_cmp4, gm_kd_sf, gm_ln_sf, gm_sf_1, gm_sf_2, gm_nw_1, gm_nw_2, gm_k_int, gm_k_ref, gm_k_null, gm_k_u, gm_k_long, and_true, true_and, true_or, or_true, or_false, false_or, and_self, or_self, if_true, if_false, List.map_nil, List.map_cons, List.sum_nil, List.sum_cons, Nat.zero_le, Option.toList_some, Option.toList_none, List.cons_append, List.nil_append, ne_eq, not_false_eq_true, not_true_eq_false, nI_1, nI_add, Value.category, Nat.reduceAdd, Nat.reduceMod, Nat.reduceLeDiff, Nat.reduceLT, Nat.reduceEqDiff, Nat.reducePow, Nat.le_refl, Nat.add_left_cancel_iff, Nat.add_eq_left, Nat.left_eq_add, Nat.add_zero]
  refine c96_3 (by simp) R.1.1 (by omega) (x_readDescriptor C hK hdp 8 (by decide) (d - 1) h s F G (by omega) R hF) (fun v h1 q => ?_) (fun _ _ q => q.er (fun f e => by unfold gs_pres gs_have; exact gs_b_er e) ⟨gx_mv.refl, gx_le.refl, gx_co.refl⟩ (fun _ z => Or.inr z))
  obtain ⟨L, s1, e, ⟨⟨w, rfl, ds⟩, sur⟩, R1, mv, le, co⟩ := q
  cases L with
  | nil =>
    have ds : w = .null := ds
    subst ds
    simp only [r96_0, r96_0n, r96_1, r96_2, r96_6, r96_6n, r96_7, r96_7n, r96_8n, r96_8, r96_11, r96_11n, r96_12, r96_17, r96_17a, r96_17n, r96_18, r96_18n, r96_19, r96_19n, i32_10, reduceIte, gm_cmp1, gm_cmp3, gm_cmp4, gm_kd_sf, gm_ln_sf, gm_sf_1, gm_sf_2, gm_nw_1, gm_nw_2, gm_k_int, gm_k_ref, gm_k_null, gm_k_u, gm_k_long, and_true, true_and, true_or, or_true, or_false, false_or, and_self, or_self, if_true, if_false, List.map_nil, List.map_cons, List.sum_nil, List.sum_cons, Nat.zero_le, Option.toList_some, Option.toList_none, List.cons_append, List.nil_append, ne_eq, not_false_eq_true, not_true_eq_false, nI_1, nI_add, Value.category, Nat.reduceAdd, Nat.reduceMod, Nat.reduceLeDiff, Nat.reduceLT, Nat.reduceEqDiff, Nat.reducePow, Nat.le_refl, Nat.add_left_cancel_iff, Nat.add_eq_left, Nat.left_eq_add, Nat.add_zero]
    refine c96_14 (by simp) R1.1.1 (by omega) (x_fail (G := G) (α := Unit) (val := fun _ _ _ => True) R1) gx_fn (fun _ _ q => q.er (fun f e2 => ?_) ⟨mv, le, co⟩ (fun _ z => Or.inr z))
    cases e2
    unfold gs_pres gs_have
    rw [gs_b_ok e]
    rfl
  | cons l L =>
    have ds' := ds
    obtain ⟨a, _, _, rfl, _⟩ := ds'
    simp only [r96_0, r96_0n, r96_1, r96_2, r96_6, r96_6n, r96_7, r96_7n, r96_8n, r96_8, r96_11, r96_11n, r96_12, r96_17, r96_17a, r96_17n, r96_18, r96_18n, r96_19, r96_19n, i32_10, reduceIte, gm_cmp1, gm_cmp3, gm_cmp4, gm_kd_sf, gm_ln_sf, gm_sf_1, gm_sf_2, gm_nw_1, gm_nw_2, gm_k_int, gm_k_ref, gm_k_null, gm_k_u, gm_k_long, and_true, true_and, true_or, or_true, or_false, false_or, and_self, or_self, if_true, if_false, List.map_nil, List.map_cons, List.sum_nil, List.sum_cons, Nat.zero_le, Option.toList_some, Option.toList_none, List.cons_append, List.nil_append, ne_eq, not_false_eq_true, not_true_eq_false, nI_1, nI_add, Value.category, Nat.reduceAdd, Nat.reduceMod, Nat.reduceLeDiff, Nat.reduceLT, Nat.reduceEqDiff, Nat.reducePow, Nat.le_refl, Nat.add_left_cancel_iff, Nat.add_eq_left, Nat.left_eq_add, Nat.add_zero]
    have ep : gs_pres K rc s = .ok ((l, L), s1) := by
      unfold gs_pres gs_have
      rw [gs_b_ok e]
      rfl
    refine ⟨(l, L), s1, ep, ⟨⟨a, rfl, ds⟩, fun s' es => ?_⟩, R1, mv, le, co⟩
    rw [ep] at es
    cases es
    exact ⟨(sur s1 e).1 (by simp), (sur s1 e).2⟩
/-- objects of the heap lie below -/
theorem gx_R.below (R : gx_R E h x ca K F s) : ∀ i u, i < (gs_hp s).length → gm_fv h (x + 3) i = .ref u → u + 1 < h.1 := by
  intro i u hi hu
  obtain ⟨ta, T⟩ := R.2.2.2.2.1
  obtain ⟨b1, b2, -⟩ := T.2 i _ (List.getElem?_eq_getElem hi)
  rw [b1] at hu
  cases hu
  exact b2.2.2.1
/-- the object of a number -/
theorem gx_R.thing {i : Nat} {o : gs_O} (R : gx_R E h x ca K F s) (hi : (gs_hp s)[i]? = some o) : ∃ t, gm_fv h (x + 3) i = .ref t ∧ gx_ok h x F t ∧ gx_ok h x F (t + 1) ∧ gx_th h ca o t := by
  obtain ⟨ta, T⟩ := R.2.2.2.2.1
  obtain ⟨b1, b2, b3⟩ := T.2 i _ hi
  exact ⟨ta i, b1, b2.1, b2.2, b3⟩
/-- a value set in the object at t -/
theorem gx_R.setv {i t j : Nat} {o : gs_O} {v : Int64} (R : gx_R E h x ca K F s) (hi : (gs_hp s)[i]? = some o) (ht : gm_fv h (x + 3) i = .ref t) (hj : j < o.2.2.1.length) : gx_R E (gm_sf h (t + 1) j (.long v)) x ca K F (s.1, (gs_hp s).modify i (fun ob => (ob.1, ob.2.1, ob.2.2.1.set j v, ob.2.2.2)), s.2.2) := by
  refine R.modT ht hi ⟨gm_sf_1, fun a _ h2 => gm_rd_sfn h2⟩ (fun q => ?_) rfl
  obtain ⟨q1, q2, q3, q4, q5, q6, q7, q8, q9, q10⟩ := q
  have n1 : t ≠ t + 1 := by omega
  refine ⟨by rw [gm_kd_sf]; exact q1, by rw [gm_fv_sfa n1]; exact q2, by rw [gm_fv_sfa n1]; exact q3, by rw [gm_fv_sfa n1]; exact q4, by rw [gm_fv_sfa n1]; exact q5, by rw [gm_fv_sfa n1]; exact q6, by rw [gm_kd_sf]; exact q7, by rw [gm_ln_sf]; simpa using q8, by simpa using q9, fun i v' hv => ?_⟩
  by_cases e : i = j
  · subst e
    simp [hj] at hv
    subst hv
    exact gm_fv_sf (by rw [q8]; exact hj)
  · rw [gm_fv_sfj e]
    refine q10 i v' ?_
    rw [← hv]
    simp [Ne.symm e]
end Y5
/-! THE CLASS, 15: arrays. -/
/-- what the class's reader has: no read where a rest has no byte left, rows of zeros, lengths to 20 -/
def gs_kok (K : gs_K) : Prop := gs_rst K = false ∧ gs_fill K = 0 ∧ K.1.2.2.1 ≤ 20
section Y6
variable {E : Nat → Value} {d x d0 dp : Nat} {h : gm_H} {ca : Nat → Nat} {K : gs_K} {F G : Nat → Prop} {s : gs_S} {rc : gs_M Int32}
theorem gx_st.md {h1 : gm_H} {s1 : gs_S} {b k i : Nat} {v : Value} {f : gs_O → gs_O} (p : gx_st h s x G h1 s1) (hb : h.1 ≤ b ∨ G b) (hx : b < x ∨ x + 6 < b) : gx_st h s x G (gm_sf h1 b k v) (s1.1, (gs_hp s1).modify i f, s1.2.2) := by
  have q := p.sf (k := k) (v := v) hb hx
  exact ⟨q.1, ⟨by have := q.2.1.1; simpa [gs_hp] using this, q.2.1.2⟩, q.2.2⟩
/-- the object at hand -/
theorem gx_R.hand {o t : Nat} (R : gx_R E h x ca K F s) (ho : o < (gs_hp s).length) (ht : gm_fv h (x + 3) o = .ref t) : gx_ok h x F t ∧ gx_ok h x F (t + 1) ∧ gx_th h ca (gs_hp s)[o] t := by
  obtain ⟨t', e, o1, o2, q⟩ := R.thing (List.getElem?_eq_getElem ho)
  rw [ht] at e
  cases e
  exact ⟨o1, o2, q⟩
theorem x_readArray (C : gx_RC E x ca K d0 (dp + 1) rc) (hK : gs_kok K) (hdp : dp < 1000) (hd : d0 + 16 ≤ d) (R : gx_R E h x ca K F s) (hF : ∀ a, F a → a < h.1) : gm_Ca E d 86 [.ref x, .int (nI dp)] h (gx_P E h x ca K F G s (fun a _ v => v = some (.int a)) (gs_arr K rc dp s)) := by
  obtain ⟨res, hres⟩ : ∃ res, res = gs_arr K rc dp s := ⟨_, rfl⟩
  rw [← hres]
  unfold gs_arr at hres
  show gm_W E d 86 0 [.ref x, .int (nI dp), gm_u, gm_u, gm_u, gm_u, gm_u, gm_u] [] h _
  simp only [r86_0, r86_0n, r86_1, r86_5, r86_5n, r86_6, r86_6n, r86_7, r86_7n, r86_8, r86_11, r86_11n, r86_12, r86_15, r86_20, r86_21, r86_22, r86_25, r86_25n, r86_26, r86_26n, r86_27, r86_30, r86_30n, r86_31, r86_34, r86_39, r86_42, r86_42n, r86_43, r86_48, r86_49, r86_49n, r86_53, r86_55, r86_57, r86_60, r86_60n, r86_61, r86_66, r86_67, r86_67n, r86_68, r86_68n, r86_69, r86_70, r86_75, r86_78, r86_78i, r86_79, r86_80, r86_83, r86_84, r86_87, r86_88, r86_89, r86_94, r86_94n, r86_96, r86_96n, r86_97, r86_97n, r86_102, r86_104, r86_104n, r86_105, r86_110, r86_110a, r86_110n, r86_111, r86_112, r86_114, r86_116, r86_118, r86_121, r86_121n, r86_123, r86_126, r86_128, r86_129, r86_132, r86_132n, r86_136, r86_137, r86_140, r86_140n, r86_141, r86_142, r86_143, r86_147, r86_148, r86_149, r86_152, r86_155, r86_157, i32_10, reduceIte, gm_cmp1, gm_cmp3, gm_cmp4, gm_kd_sf, gm_ln_sf, gm_sf_1, gm_sf_2, gm_nw_1, gm_nw_2, gm_k_int, gm_k_ref, gm_k_null, gm_k_u, gm_k_long, and_true, true_and, true_or, or_true, or_false, false_or, and_self, or_self, if_true, if_false, List.map_nil, List.map_cons, List.sum_nil, List.sum_cons, Nat.zero_le, Option.toList_some, Option.toList_none, List.cons_append, List.nil_append, ne_eq, not_false_eq_true, not_true_eq_false, nI_1, nI_add, Value.category, Nat.reduceAdd, Nat.reduceMod, Nat.reduceLeDiff, Nat.reduceLT, Nat.reduceEqDiff, Nat.reducePow, Nat.le_refl, Nat.add_left_cancel_iff, Nat.add_eq_left, Nat.left_eq_add, Nat.add_zero]
  refine c86_2 (by simp) R.1.1 (by omega) (x_readPresent (G := fun _ => False) C hK.1 hdp (by omega) R hF) (fun v h1 q => ?_) (fun _ _ q => q.er (s := s) (h := h) (fun f e => by rw [hres]; exact gs_have_er e) ⟨gx_mv.refl, gx_le.refl, gx_co.refl⟩ (fun _ z => z.elim))
  obtain ⟨⟨l, L⟩, s1, e1, ⟨⟨a, rfl, ds⟩, sur⟩, R1, mv1, le1, co1⟩ := q
  rw [gs_have_ok e1] at hres
  have st1 : gx_st h s x G h1 s1 := ⟨mv1.wk (fun _ z => z.elim), le1, co1⟩
  have ds' := ds
  obtain ⟨a', u, w, ea, o1, o2, o3, d1, d2, d3, d4, d5, d6, d7, d8, d9, d10, d11, d12, d13, d14, d15, d16, d17, d18, d19⟩ := ds'
  cases ea
  have hF1 : ∀ a, F a → a < h1.1 := fun a z => by have := hF a z; have := mv1.1.1; omega
  obtain ⟨-, -, g⟩ := R1.2.2.1.1.1
  have e2I : E (2 + 2) = E 4 := rfl
  have e2R : E (2 + 1) = E 3 := rfl
  have enI : (gm_en1 [.ref x, .int (nI (gs_nf l)), .int (nI (gs_nl l)), E 4]).length ≤ 5 := by
    obtain ⟨q, _, e, _⟩ := g 2 (by decide)
    rw [e2I] at e
    rw [e]; simp [gm_en1]
  have enR : (gm_en1 [.ref x, .int (nI (gs_nf l)), .int (nI (gs_nl l)), E 3]).length ≤ 5 := by
    obtain ⟨q, _, e, _⟩ := g 1 (by decide)
    rw [e2R] at e
    rw [e]; simp [gm_en1]
  -- behind the two questions
  obtain ⟨b, hb⟩ : ∃ b, b = gs_spelt K (gs_nf l) (gs_nl l) gs_tI := ⟨_, rfl⟩
  rw [← hb] at hres
  have after : ∀ res' : Except Int32 (Int32 × gs_S), res' = gs_b (gs_u4 K) (fun n => if n < 0 then gs_x (-6) else gs_b (gs_lim K l dp n) fun _ => gs_b (gs_addT (if b = true then 2 else 3, none, List.replicate n.toNatClampNeg (if b = true then 0 else gs_fill K), 0, 0)) fun o => gs_b (gs_addE (nI o)) fun _ => gs_b (if b = true then gs_ints K o n.toNatClampNeg 0 else gs_refs rc o n.toNatClampNeg 0) fun _ => gs_r (nI o)) s1 →
      gm_W E d 86 49 [.ref x, .int (nI dp), .ref a, .int (if b = true then 1 else 0), gm_u, gm_u, gm_u, gm_u] [] h1 (gx_P E h x ca K F G s (fun a _ v => v = some (.int a)) res') := by
    intro res hres
    simp only [r86_0, r86_0n, r86_1, r86_5, r86_5n, r86_6, r86_6n, r86_7, r86_7n, r86_8, r86_11, r86_11n, r86_12, r86_15, r86_20, r86_21, r86_22, r86_25, r86_25n, r86_26, r86_26n, r86_27, r86_30, r86_30n, r86_31, r86_34, r86_39, r86_42, r86_42n, r86_43, r86_48, r86_49, r86_49n, r86_53, r86_55, r86_57, r86_60, r86_60n, r86_61, r86_66, r86_67, r86_67n, r86_68, r86_68n, r86_69, r86_70, r86_75, r86_78, r86_78i, r86_79, r86_80, r86_83, r86_84, r86_87, r86_88, r86_89, r86_94, r86_94n, r86_96, r86_96n, r86_97, r86_97n, r86_102, r86_104, r86_104n, r86_105, r86_110, r86_110a, r86_110n, r86_111, r86_112, r86_114, r86_116, r86_118, r86_121, r86_121n, r86_123, r86_126, r86_128, r86_129, r86_132, r86_132n, r86_136, r86_137, r86_140, r86_140n, r86_141, r86_142, r86_143, r86_147, r86_148, r86_149, r86_152, r86_155, r86_157, i32_10, reduceIte, gm_cmp1, gm_cmp3, gm_cmp4, gm_kd_sf, gm_ln_sf, gm_sf_1, gm_sf_2, gm_nw_1, gm_nw_2, gm_k_int, gm_k_ref, gm_k_null, gm_k_u, gm_k_long, and_true, true_and, true_or, or_true, or_false, false_or, and_self, or_self, if_true, if_false, List.map_nil, List.map_cons, List.sum_nil, List.sum_cons, Nat.zero_le, Option.toList_some, Option.toList_none, List.cons_append, List.nil_append, ne_eq, not_false_eq_true, not_true_eq_false, nI_1, nI_add, Value.category, Nat.reduceAdd, Nat.reduceMod, Nat.reduceLeDiff, Nat.reduceLT, Nat.reduceEqDiff, Nat.reducePow, Nat.le_refl, Nat.add_left_cancel_iff, Nat.add_eq_left, Nat.left_eq_add, Nat.add_zero]
    refine c86_50 (by simp) R1.1.1 (by omega) (x_nextInt (G := fun _ => False) (by omega) R1) (fun v h2 q => ?_) (fun _ _ q => q.er (fun f e => by rw [hres]; exact gs_b_er e) st1 (fun _ z => z.elim))
    obtain ⟨n, s2, e2, ⟨rfl, na2⟩, R2, mv2, le2, co2⟩ := q
    rw [gs_b_ok e2] at hres
    have st2 := st1.trans mv2 le2 co2 (fun _ z => z.elim)
    have ep2 : gs_pl s2 = gs_pl s1 + 4 := by
      unfold gs_u4 at e2
      cases q : gs_nxt K 4 s1 with
      | error c => rw [gs_b_er q] at e2; cases e2
      | ok p =>
        rw [gs_b_ok (a := p.1) (s1 := p.2) q] at e2
        have := (gs_nxt_eq (v := p.1) (s1 := p.2) q).2
        cases e2
        rw [this]
        rfl
    by_cases hn0 : n < 0
    · have hn0' : ¬ 0 ≤ n := Int32.not_le.mpr hn0
      rw [if_pos hn0] at hres
      simp only [r86_0, r86_0n, r86_1, r86_5, r86_5n, r86_6, r86_6n, r86_7, r86_7n, r86_8, r86_11, r86_11n, r86_12, r86_15, r86_20, r86_21, r86_22, r86_25, r86_25n, r86_26, r86_26n, r86_27, r86_30, r86_30n, r86_31, r86_34, r86_39, r86_42, r86_42n, r86_43, r86_48, r86_49, r86_49n, r86_53, r86_55, r86_57, r86_60, r86_60n, r86_61, r86_66, r86_67, r86_67n, r86_68, r86_68n, r86_69, r86_70, r86_75, r86_78, r86_78i, r86_79, r86_80, r86_83, r86_84, r86_87, r86_88, r86_89, r86_94, r86_94n, r86_96, r86_96n, r86_97, r86_97n, r86_102, r86_104, r86_104n, r86_105, r86_110, r86_110a, r86_110n, r86_111, r86_112, r86_114, r86_116, r86_118, r86_121, r86_121n, r86_123, r86_126, r86_128, r86_129, r86_132, r86_132n, r86_136, r86_137, r86_140, r86_140n, r86_141, r86_142, r86_143, r86_147, r86_148, r86_149, r86_152, r86_155, r86_157, i32_10, reduceIte, gm_cmp1, gm_cmp3, gm_cmp4, gm_kd_sf, gm_ln_sf, gm_sf_1, gm_sf_2, gm_nw_1, gm_nw_2, gm_k_int, gm_k_ref, gm_k_null, gm_k_u, gm_k_long, and_true, true_and, true_or, or_true, or_false, false_or, and_self, or_self, if_true, if_false, List.map_nil, List.map_cons, List.sum_nil, List.sum_cons, Nat.zero_le, Option.toList_some, Option.toList_none, List.cons_append, List.nil_append, ne_eq, not_false_eq_true, not_true_eq_false, nI_1, nI_add, Value.category, Nat.reduceAdd, Nat.reduceMod, Nat.reduceLeDiff, Nat.reduceLT, Nat.reduceEqDiff, Nat.reducePow, Nat.le_refl, Nat.add_left_cancel_iff, Nat.add_eq_left, Nat.left_eq_add, Nat.add_zero, hn0']
      exact c86_63 (by simp) R2.1.1 (by omega) (x_fail (G := G) (α := Unit) (val := fun _ _ _ => True) R2) gx_fn (fun _ _ q => q.er (fun f e => by cases e; rw [hres]; rfl) st2 (fun _ z => Or.inr z))
    obtain ⟨m, hm, rfl⟩ := nI_of hn0
    rw [if_neg hn0, nI_clamp hm] at hres
    have hn0' : 0 ≤ nI m := nI_pos' hm
    have ds2 : gx_ds h2 x ca K F (l :: L) (.ref a) := ds.tr (mv2.1.wk (fun _ z => z.elim))
    simp only [r86_0, r86_0n, r86_1, r86_5, r86_5n, r86_6, r86_6n, r86_7, r86_7n, r86_8, r86_11, r86_11n, r86_12, r86_15, r86_20, r86_21, r86_22, r86_25, r86_25n, r86_26, r86_26n, r86_27, r86_30, r86_30n, r86_31, r86_34, r86_39, r86_42, r86_42n, r86_43, r86_48, r86_49, r86_49n, r86_53, r86_55, r86_57, r86_60, r86_60n, r86_61, r86_66, r86_67, r86_67n, r86_68, r86_68n, r86_69, r86_70, r86_75, r86_78, r86_78i, r86_79, r86_80, r86_83, r86_84, r86_87, r86_88, r86_89, r86_94, r86_94n, r86_96, r86_96n, r86_97, r86_97n, r86_102, r86_104, r86_104n, r86_105, r86_110, r86_110a, r86_110n, r86_111, r86_112, r86_114, r86_116, r86_118, r86_121, r86_121n, r86_123, r86_126, r86_128, r86_129, r86_132, r86_132n, r86_136, r86_137, r86_140, r86_140n, r86_141, r86_142, r86_143, r86_147, r86_148, r86_149, r86_152, r86_155, r86_157, i32_10, reduceIte, gm_cmp1, gm_cmp3, gm_cmp4, gm_kd_sf, gm_ln_sf, gm_sf_1, gm_sf_2, gm_nw_1, gm_nw_2, gm_k_int, gm_k_ref, gm_k_null, gm_k_u, gm_k_long, and_true, true_and, true_or, or_true, or_false, false_or, and_self, or_self, if_true, if_false, List.map_nil, List.map_cons, List.sum_nil, List.sum_cons, Nat.zero_le, Option.toList_some, Option.toList_none, List.cons_append, List.nil_append, ne_eq, not_false_eq_true, not_true_eq_false, nI_1, nI_add, Value.category, Nat.reduceAdd, Nat.reduceMod, Nat.reduceLeDiff, Nat.reduceLT, Nat.reduceEqDiff, Nat.reducePow, Nat.le_refl, Nat.add_left_cancel_iff, Nat.add_eq_left, Nat.left_eq_add, Nat.add_zero, hn0']
    refine c86_72 (by simp) (by simp [gm_en1]) R2.1.1 (by omega) (x_askLimits (G := fun _ => False) (by omega) hdp R2 ds2) (fun v h3 q => ?_) (fun _ _ q => q.er (fun f e => by rw [hres]; exact gs_b_er e) st2 (fun _ z => z.elim))
    obtain ⟨_, s3, e3, ⟨rfl, na3⟩, R3, mv3, le3, co3⟩ := q
    rw [gs_b_ok e3] at hres
    have st3 := st2.trans mv3 le3 co3 (fun _ z => z.elim)
    have hm20 : m ≤ 20 ∧ s3 = s2 := by
      unfold gs_lim at e3
      split at e3
      · cases e3
      · rename_i hz
        cases e3
        refine ⟨?_, rfl⟩
        have z1 : ¬ K.1.2.2.1 < nI m := fun z => hz (Or.inr (Or.inr (Or.inr (Or.inl z))))
        have z2 : nI m ≤ 20 := Int32.le_trans (Int32.not_lt.mp z1) hK.2.2
        exact (nI_leI (b := 20) hm (by decide)).mp z2
    obtain ⟨hm20, es3⟩ := hm20
    have hF3 : ∀ a, F a → a < h3.1 := fun a z => by have := hF1 a z; have := mv2.1.1; have := mv3.1.1; omega
    have ht3 := R3.top
    have hm1 : m < 1000 := by omega
    -- the new array
    obtain ⟨so, hso⟩ : ∃ so : Int32, so = if b = true then 2 else 3 := ⟨_, rfl⟩
    obtain ⟨h4, h4e⟩ : ∃ h4, h4 = gx_mk (gx_n1 h3) h3.1 so (gx_ow ca none) m := ⟨_, rfl⟩
    have r4 : ∀ b, b < h3.1 → gm_rd h4 b = gm_rd h3 b := by rw [h4e]; exact gx_mk_rd
    have t4 : gx_th h4 ca (so, none, List.replicate m 0, 0, 0) h3.1 := by rw [h4e]; exact gx_mk_th hm1
    have c4 : h4.1 = h3.1 + 2 ∧ h4.2.1 = h3.2.1 + 5 + m := by rw [h4e]; exact gx_mk_1
    have R4 : gx_R E h4 x ca K F s3 := R3.far (by omega) r4
    have hok : gx_ok h4 x F h3.1 ∧ gx_ok h4 x F (h3.1 + 1) := ⟨⟨Or.inr ht3, by omega, fun z => by have := hF3 _ z; omega⟩, ⟨Or.inr (by omega), by omega, fun z => by have := hF3 _ z; omega⟩⟩
    have hbt : ∀ i u, i < (gs_hp s3).length → gm_fv h4 (x + 3) i = .ref u → u + 1 < h3.1 := by
      intro i u hi hu
      rw [gv_fv (r4 (x + 3) (by omega))] at hu
      exact R3.below i u hi hu
    have st4 : gx_st h s x G h4 s3 := by
      refine ⟨st3.1.trans (G1 := G) (gx_mv.far ht3 (by omega) r4) st3.2.1 (fun _ z => Or.inr z), st3.2.1, ?_⟩
      obtain ⟨a1, b1⟩ := co1
      obtain ⟨a2, b2⟩ := na2
      obtain ⟨a3, b3⟩ := na3
      unfold gx_co
      rw [es3]
      omega
    have hres4 : res = gs_b (gs_addT (so, none, List.replicate m 0, 0, 0)) (fun o => gs_b (gs_addE (nI o)) fun _ => gs_b (if b = true then gs_ints K o m 0 else gs_refs rc o m 0) fun _ => gs_r (nI o)) s3 := by
      rw [hres, hso, hK.2.1]
      cases b <;> rfl
    clear hres
    have walk : gm_W E d 86 94 [.ref x, .int (nI dp), .ref a, .int (if b = true then 1 else 0), .int (nI m), gm_u, gm_u, gm_u] [.ref h3.1] h4 (gx_P E h x ca K F G s (fun a _ v => v = some (.int a)) res) := by
      simp only [r86_0, r86_0n, r86_1, r86_5, r86_5n, r86_6, r86_6n, r86_7, r86_7n, r86_8, r86_11, r86_11n, r86_12, r86_15, r86_20, r86_21, r86_22, r86_25, r86_25n, r86_26, r86_26n, r86_27, r86_30, r86_30n, r86_31, r86_34, r86_39, r86_42, r86_42n, r86_43, r86_48, r86_49, r86_49n, r86_53, r86_55, r86_57, r86_60, r86_60n, r86_61, r86_66, r86_67, r86_67n, r86_68, r86_68n, r86_69, r86_70, r86_75, r86_78, r86_78i, r86_79, r86_80, r86_83, r86_84, r86_87, r86_88, r86_89, r86_94, r86_94n, r86_96, r86_96n, r86_97, r86_97n, r86_102, r86_104, r86_104n, r86_105, r86_110, r86_110a, r86_110n, r86_111, r86_112, r86_114, r86_116, r86_118, r86_121, r86_121n, r86_123, r86_126, r86_128, r86_129, r86_132, r86_132n, r86_136, r86_137, r86_140, r86_140n, r86_141, r86_142, r86_143, r86_147, r86_148, r86_149, r86_152, r86_155, r86_157, i32_10, reduceIte, gm_cmp1, gm_cmp3, gm_cmp4, gm_kd_sf, gm_ln_sf, gm_sf_1, gm_sf_2, gm_nw_1, gm_nw_2, gm_k_int, gm_k_ref, gm_k_null, gm_k_u, gm_k_long, and_true, true_and, true_or, or_true, or_false, false_or, and_self, or_self, if_true, if_false, List.map_nil, List.map_cons, List.sum_nil, List.sum_cons, Nat.zero_le, Option.toList_some, Option.toList_none, List.cons_append, List.nil_append, ne_eq, not_false_eq_true, not_true_eq_false, nI_1, nI_add, Value.category, Nat.reduceAdd, Nat.reduceMod, Nat.reduceLeDiff, Nat.reduceLT, Nat.reduceEqDiff, Nat.reducePow, Nat.le_refl, Nat.add_left_cancel_iff, Nat.add_eq_left, Nat.left_eq_add, Nat.add_zero]
      refine c86_99 (by simp) (by simp [gm_en1]) R4.1.1 (by omega) (x_addThing (G := fun _ => False) (by omega) R4 (fun c e => by cases e) t4 hok hbt) (fun v h5 q => ?_) (fun _ _ q => q.er (fun f e => by rw [hres4]; exact gs_b_er e) st4 (fun _ z => z.elim))
      obtain ⟨o, s5, e5, ⟨⟨rfl, na5⟩, f5⟩, R5, mv5, le5, co5⟩ := q
      rw [gs_b_ok e5] at hres4
      obtain ⟨eo, es5⟩ := gs_addT_ok e5
      have st5 := st4.trans mv5 le5 co5 (fun _ z => z.elim)
      simp only [r86_0, r86_0n, r86_1, r86_5, r86_5n, r86_6, r86_6n, r86_7, r86_7n, r86_8, r86_11, r86_11n, r86_12, r86_15, r86_20, r86_21, r86_22, r86_25, r86_25n, r86_26, r86_26n, r86_27, r86_30, r86_30n, r86_31, r86_34, r86_39, r86_42, r86_42n, r86_43, r86_48, r86_49, r86_49n, r86_53, r86_55, r86_57, r86_60, r86_60n, r86_61, r86_66, r86_67, r86_67n, r86_68, r86_68n, r86_69, r86_70, r86_75, r86_78, r86_78i, r86_79, r86_80, r86_83, r86_84, r86_87, r86_88, r86_89, r86_94, r86_94n, r86_96, r86_96n, r86_97, r86_97n, r86_102, r86_104, r86_104n, r86_105, r86_110, r86_110a, r86_110n, r86_111, r86_112, r86_114, r86_116, r86_118, r86_121, r86_121n, r86_123, r86_126, r86_128, r86_129, r86_132, r86_132n, r86_136, r86_137, r86_140, r86_140n, r86_141, r86_142, r86_143, r86_147, r86_148, r86_149, r86_152, r86_155, r86_157, i32_10, reduceIte, gm_cmp1, gm_cmp3, gm_cmp4, gm_kd_sf, gm_ln_sf, gm_sf_1, gm_sf_2, gm_nw_1, gm_nw_2, gm_k_int, gm_k_ref, gm_k_null, gm_k_u, gm_k_long, and_true, true_and, true_or, or_true, or_false, false_or, and_self, or_self, if_true, if_false, List.map_nil, List.map_cons, List.sum_nil, List.sum_cons, Nat.zero_le, Option.toList_some, Option.toList_none, List.cons_append, List.nil_append, ne_eq, not_false_eq_true, not_true_eq_false, nI_1, nI_add, Value.category, Nat.reduceAdd, Nat.reduceMod, Nat.reduceLeDiff, Nat.reduceLT, Nat.reduceEqDiff, Nat.reducePow, Nat.le_refl, Nat.add_left_cancel_iff, Nat.add_eq_left, Nat.left_eq_add, Nat.add_zero]
      refine c86_107 (by simp) R5.1.1 (by omega) (x_addEntry (G := fun _ => False) (by omega) R5) (fun v h6 q => ?_) (fun _ _ q => q.er (fun f e => by rw [hres4]; exact gs_b_er e) st5 (fun _ z => z.elim))
      obtain ⟨e, s6, e6, ⟨rfl, na6⟩, R6, mv6, le6, co6⟩ := q
      rw [gs_b_ok e6] at hres4
      obtain ⟨ee, es6⟩ := gs_addE_ok e6
      have st6 := st5.trans mv6 le6 co6 (fun _ z => z.elim)
      have ho5 : o < (gs_hp s5).length := by rw [es5, eo]; simp [gs_hp]
      have ho6 : o < (gs_hp s6).length := Nat.lt_of_lt_of_le ho5 le6.1
      have f6 : gm_fv h6 (x + 3) o = .ref h3.1 := (mv6.2.2.2.1 o ho5).trans f5
      have h45 : h4.1 ≤ h5.1 := mv5.1.1
      have h56 : h5.1 ≤ h6.1 := mv6.1.1
      have l6 : gm_ln h6 (h3.1 + 1) = m := by
        rw [gv_ln (mv6.1.2 _ ⟨Or.inr (by omega), by omega, fun z => z⟩), gv_ln (mv5.1.2 _ ⟨Or.inr (by omega), by omega, fun z => z⟩), t4.2.2.2.2.2.2.2.1]
        simp
      have hF6 : ∀ a, F a → a < h6.1 := fun a z => by have := hF3 a z; omega
      have hh3 : h.1 ≤ h3.1 := st3.1.1.1
      have fin : ∀ (sk : gs_S) (hk : gm_H) (w3 : Value), gx_R E hk x ca K F sk → gx_st h s x G hk sk → res = .ok (nI o, sk) → gm_W E d 86 114 [.ref x, .int (nI dp), .ref a, w3, .int (nI m), .ref h3.1, .int (nI o), .int (nI m)] [] hk (gx_P E h x ca K F G s (fun a _ v => v = some (.int a)) res) := by
        intro sk hk w3 Rk stk e
        simp only [r86_0, r86_0n, r86_1, r86_5, r86_5n, r86_6, r86_6n, r86_7, r86_7n, r86_8, r86_11, r86_11n, r86_12, r86_15, r86_20, r86_21, r86_22, r86_25, r86_25n, r86_26, r86_26n, r86_27, r86_30, r86_30n, r86_31, r86_34, r86_39, r86_42, r86_42n, r86_43, r86_48, r86_49, r86_49n, r86_53, r86_55, r86_57, r86_60, r86_60n, r86_61, r86_66, r86_67, r86_67n, r86_68, r86_68n, r86_69, r86_70, r86_75, r86_78, r86_78i, r86_79, r86_80, r86_83, r86_84, r86_87, r86_88, r86_89, r86_94, r86_94n, r86_96, r86_96n, r86_97, r86_97n, r86_102, r86_104, r86_104n, r86_105, r86_110, r86_110a, r86_110n, r86_111, r86_112, r86_114, r86_116, r86_118, r86_121, r86_121n, r86_123, r86_126, r86_128, r86_129, r86_132, r86_132n, r86_136, r86_137, r86_140, r86_140n, r86_141, r86_142, r86_143, r86_147, r86_148, r86_149, r86_152, r86_155, r86_157, i32_10, reduceIte, gm_cmp1, gm_cmp3, gm_cmp4, gm_kd_sf, gm_ln_sf, gm_sf_1, gm_sf_2, gm_nw_1, gm_nw_2, gm_k_int, gm_k_ref, gm_k_null, gm_k_u, gm_k_long, and_true, true_and, true_or, or_true, or_false, false_or, and_self, or_self, if_true, if_false, List.map_nil, List.map_cons, List.sum_nil, List.sum_cons, Nat.zero_le, Option.toList_some, Option.toList_none, List.cons_append, List.nil_append, ne_eq, not_false_eq_true, not_true_eq_false, nI_1, nI_add, Value.category, Nat.reduceAdd, Nat.reduceMod, Nat.reduceLeDiff, Nat.reduceLT, Nat.reduceEqDiff, Nat.reducePow, Nat.le_refl, Nat.add_left_cancel_iff, Nat.add_eq_left, Nat.left_eq_add, Nat.add_zero, nI_leT (Nat.le_refl m) (show m < 2 ^ 31 by omega)]
        rw [e]
        exact ⟨nI o, sk, rfl, rfl, Rk, stk.1, stk.2.1, stk.2.2⟩
      cases b with
      | true =>
        have loop : ∀ (j k : Nat) (sk : gs_S) (hk : gm_H), k + j = m → gx_R E hk x ca K F sk → o < (gs_hp sk).length → gm_fv hk (x + 3) o = .ref h3.1 → gm_ln hk (h3.1 + 1) = m → gx_st h s x G hk sk → res = gs_b (gs_ints K o j k) (fun _ => gs_r (nI o)) sk →
            gm_W E d 86 114 [.ref x, .int (nI dp), .ref a, .int 1, .int (nI m), .ref h3.1, .int (nI o), .int (nI k)] [] hk (gx_P E h x ca K F G s (fun a _ v => v = some (.int a)) res) := by
          intro j
          induction j with
          | zero =>
            intro k sk hk hkj Rk ho ht hl stk hr
            have hkj : k = m := by omega
            subst hkj
            exact fin sk hk _ Rk stk hr
          | succ j ih =>
            intro k sk hk hkj Rk ho ht hl stk hr
            have hkm : k < m := by omega
            obtain ⟨p1, p2, q⟩ := Rk.hand ho ht
            obtain ⟨q1, q2, q3, q4, q5, q6, q7, q8, q9, q10⟩ := q
            rw [r86_114]
            simp only [r86_0, r86_0n, r86_1, r86_5, r86_5n, r86_6, r86_6n, r86_7, r86_7n, r86_8, r86_11, r86_11n, r86_12, r86_15, r86_20, r86_21, r86_22, r86_25, r86_25n, r86_26, r86_26n, r86_27, r86_30, r86_30n, r86_31, r86_34, r86_39, r86_42, r86_42n, r86_43, r86_48, r86_49, r86_49n, r86_53, r86_55, r86_57, r86_60, r86_60n, r86_61, r86_66, r86_67, r86_67n, r86_68, r86_68n, r86_69, r86_70, r86_75, r86_78, r86_78i, r86_79, r86_80, r86_83, r86_84, r86_87, r86_88, r86_89, r86_94, r86_94n, r86_96, r86_96n, r86_97, r86_97n, r86_102, r86_104, r86_104n, r86_105, r86_110, r86_110a, r86_110n, r86_111, r86_112, r86_116, r86_118, r86_121, r86_121n, r86_123, r86_126, r86_128, r86_129, r86_132, r86_132n, r86_136, r86_137, r86_140, r86_140n, r86_141, r86_142, r86_143, r86_147, r86_148, r86_149, r86_152, r86_155, r86_157, i32_10, reduceIte, gm_cmp1, gm_cmp3, gm_cmp4, gm_kd_sf, gm_ln_sf, gm_sf_1, gm_sf_2, gm_nw_1, gm_nw_2, gm_k_int, gm_k_ref, gm_k_null, gm_k_u, gm_k_long, and_true, true_and, true_or, or_true, or_false, false_or, and_self, or_self, if_true, if_false, List.map_nil, List.map_cons, List.sum_nil, List.sum_cons, Nat.zero_le, Option.toList_some, Option.toList_none, List.cons_append, List.nil_append, ne_eq, not_false_eq_true, not_true_eq_false, nI_1, nI_add, Value.category, Nat.reduceAdd, Nat.reduceMod, Nat.reduceLeDiff, Nat.reduceLT, Nat.reduceEqDiff, Nat.reducePow, Nat.le_refl, Nat.add_left_cancel_iff, Nat.add_eq_left, Nat.left_eq_add, Nat.add_zero, nI_leF hkm (show m < 2 ^ 31 by omega), q1, q4]
            refine c86_133 (by simp [Value.category]) Rk.1.1 (by omega) (x_nextInt (G := fun _ => False) (by omega) Rk) (fun v h7 q => ?_) (fun _ _ q => q.er (fun f e => by rw [hr]; exact gs_b_er (gs_b_er e)) stk (fun _ z => z.elim))
            obtain ⟨v, s7, e7, ⟨rfl, na7⟩, R7, mv7, le7, co7⟩ := q
            have st7 := stk.trans mv7 le7 co7 (fun _ z => z.elim)
            have ht7 : gm_fv h7 (x + 3) o = .ref h3.1 := (mv7.2.2.2.1 o ho).trans ht
            have ho7 : o < (gs_hp s7).length := Nat.lt_of_lt_of_le ho le7.1
            have rl7 : gm_rd h7 (h3.1 + 1) = gm_rd hk (h3.1 + 1) := mv7.1.2 _ ⟨p2.1, p2.2.1, fun z => z⟩
            have hl7 : gm_ln h7 (h3.1 + 1) = m := (gv_ln rl7).trans hl
            have k7 : gm_kd h7 (h3.1 + 1) = 101 := (gv_kd rl7).trans q7
            obtain ⟨-, -, qq⟩ := R7.hand ho7 ht7
            have lv7 : (gs_hp s7)[o].2.2.1.length = m := by rw [← qq.2.2.2.2.2.2.2.1]; exact hl7
            have hm31 : m < 2147483648 := by omega
            simp only [r86_0, r86_0n, r86_1, r86_5, r86_5n, r86_6, r86_6n, r86_7, r86_7n, r86_8, r86_11, r86_11n, r86_12, r86_15, r86_20, r86_21, r86_22, r86_25, r86_25n, r86_26, r86_26n, r86_27, r86_30, r86_30n, r86_31, r86_34, r86_39, r86_42, r86_42n, r86_43, r86_48, r86_49, r86_49n, r86_53, r86_55, r86_57, r86_60, r86_60n, r86_61, r86_66, r86_67, r86_67n, r86_68, r86_68n, r86_69, r86_70, r86_75, r86_78, r86_78i, r86_79, r86_80, r86_83, r86_84, r86_87, r86_88, r86_89, r86_94, r86_94n, r86_96, r86_96n, r86_97, r86_97n, r86_102, r86_104, r86_104n, r86_105, r86_110, r86_110a, r86_110n, r86_111, r86_112, r86_116, r86_118, r86_121, r86_121n, r86_123, r86_126, r86_128, r86_129, r86_132, r86_132n, r86_136, r86_137, r86_140, r86_140n, r86_141, r86_142, r86_143, r86_147, r86_148, r86_149, r86_152, r86_155, r86_157, i32_10, reduceIte, gm_cmp1, gm_cmp3, gm_cmp4, gm_kd_sf, gm_ln_sf, gm_sf_1, gm_sf_2, gm_nw_1, gm_nw_2, gm_k_int, gm_k_ref, gm_k_null, gm_k_u, gm_k_long, and_true, true_and, true_or, or_true, or_false, false_or, and_self, or_self, if_true, if_false, List.map_nil, List.map_cons, List.sum_nil, List.sum_cons, Nat.zero_le, Option.toList_some, Option.toList_none, List.cons_append, List.nil_append, ne_eq, not_false_eq_true, not_true_eq_false, nI_1, nI_add, Value.category, Nat.reduceAdd, Nat.reduceMod, Nat.reduceLeDiff, Nat.reduceLT, Nat.reduceEqDiff, Nat.reducePow, Nat.le_refl, Nat.add_left_cancel_iff, Nat.add_eq_left, Nat.left_eq_add, Nat.add_zero, k7, hl7, hkm, hm31]
            refine ih (k + 1) _ _ (by omega) (R7.setv (List.getElem?_eq_getElem ho7) ht7 (by rw [lv7]; exact hkm)) ?_ ?_ ?_ (st7.md (Or.inl (by omega)) (Or.inr (by omega))) ?_
            · simpa [gs_hp] using ho7
            · rw [gm_fv_sfa (by omega)]; exact ht7
            · rw [gm_ln_sf]; exact hl7
            · rw [hr]
              refine gs_b_cg ?_
              show gs_b (gs_u4 K) _ sk = _
              rw [gs_b_ok e7]
              rfl
        simp only [r86_0, r86_0n, r86_1, r86_5, r86_5n, r86_6, r86_6n, r86_7, r86_7n, r86_8, r86_11, r86_11n, r86_12, r86_15, r86_20, r86_21, r86_22, r86_25, r86_25n, r86_26, r86_26n, r86_27, r86_30, r86_30n, r86_31, r86_34, r86_39, r86_42, r86_42n, r86_43, r86_48, r86_49, r86_49n, r86_53, r86_55, r86_57, r86_60, r86_60n, r86_61, r86_66, r86_67, r86_67n, r86_68, r86_68n, r86_69, r86_70, r86_75, r86_78, r86_78i, r86_79, r86_80, r86_83, r86_84, r86_87, r86_88, r86_89, r86_94, r86_94n, r86_96, r86_96n, r86_97, r86_97n, r86_102, r86_104, r86_104n, r86_105, r86_110, r86_110a, r86_110n, r86_111, r86_112, r86_116, r86_118, r86_121, r86_121n, r86_123, r86_126, r86_128, r86_129, r86_132, r86_132n, r86_136, r86_137, r86_140, r86_140n, r86_141, r86_142, r86_143, r86_147, r86_148, r86_149, r86_152, r86_155, r86_157, i32_10, reduceIte, gm_cmp1, gm_cmp3, gm_cmp4, gm_kd_sf, gm_ln_sf, gm_sf_1, gm_sf_2, gm_nw_1, gm_nw_2, gm_k_int, gm_k_ref, gm_k_null, gm_k_u, gm_k_long, and_true, true_and, true_or, or_true, or_false, false_or, and_self, or_self, if_true, if_false, List.map_nil, List.map_cons, List.sum_nil, List.sum_cons, Nat.zero_le, Option.toList_some, Option.toList_none, List.cons_append, List.nil_append, ne_eq, not_false_eq_true, not_true_eq_false, nI_1, nI_add, Value.category, Nat.reduceAdd, Nat.reduceMod, Nat.reduceLeDiff, Nat.reduceLT, Nat.reduceEqDiff, Nat.reducePow, Nat.le_refl, Nat.add_left_cancel_iff, Nat.add_eq_left, Nat.left_eq_add, Nat.add_zero]
        exact loop m 0 s6 h6 (by omega) R6 ho6 f6 l6 st6 hres4
      | false =>
        have loop : ∀ (j k : Nat) (sk : gs_S) (hk : gm_H), k + j = m → gx_R E hk x ca K F sk → (∀ a, F a → a < hk.1) → o < (gs_hp sk).length → gm_fv hk (x + 3) o = .ref h3.1 → gm_ln hk (h3.1 + 1) = m → gx_st h s x G hk sk → res = gs_b (gs_refs rc o j k) (fun _ => gs_r (nI o)) sk →
            gm_W E d 86 114 [.ref x, .int (nI dp), .ref a, .int 0, .int (nI m), .ref h3.1, .int (nI o), .int (nI k)] [] hk (gx_P E h x ca K F G s (fun a _ v => v = some (.int a)) res) := by
          intro j
          induction j with
          | zero =>
            intro k sk hk hkj Rk hFk ho ht hl stk hr
            have hkj : k = m := by omega
            subst hkj
            exact fin sk hk _ Rk stk hr
          | succ j ih =>
            intro k sk hk hkj Rk hFk ho ht hl stk hr
            have hkm : k < m := by omega
            obtain ⟨p1, p2, q⟩ := Rk.hand ho ht
            obtain ⟨q1, q2, q3, q4, q5, q6, q7, q8, q9, q10⟩ := q
            rw [r86_114]
            simp only [r86_0, r86_0n, r86_1, r86_5, r86_5n, r86_6, r86_6n, r86_7, r86_7n, r86_8, r86_11, r86_11n, r86_12, r86_15, r86_20, r86_21, r86_22, r86_25, r86_25n, r86_26, r86_26n, r86_27, r86_30, r86_30n, r86_31, r86_34, r86_39, r86_42, r86_42n, r86_43, r86_48, r86_49, r86_49n, r86_53, r86_55, r86_57, r86_60, r86_60n, r86_61, r86_66, r86_67, r86_67n, r86_68, r86_68n, r86_69, r86_70, r86_75, r86_78, r86_78i, r86_79, r86_80, r86_83, r86_84, r86_87, r86_88, r86_89, r86_94, r86_94n, r86_96, r86_96n, r86_97, r86_97n, r86_102, r86_104, r86_104n, r86_105, r86_110, r86_110a, r86_110n, r86_111, r86_112, r86_116, r86_118, r86_121, r86_121n, r86_123, r86_126, r86_128, r86_129, r86_132, r86_132n, r86_136, r86_137, r86_140, r86_140n, r86_141, r86_142, r86_143, r86_147, r86_148, r86_149, r86_152, r86_155, r86_157, i32_10, reduceIte, gm_cmp1, gm_cmp3, gm_cmp4, gm_kd_sf, gm_ln_sf, gm_sf_1, gm_sf_2, gm_nw_1, gm_nw_2, gm_k_int, gm_k_ref, gm_k_null, gm_k_u, gm_k_long, and_true, true_and, true_or, or_true, or_false, false_or, and_self, or_self, if_true, if_false, List.map_nil, List.map_cons, List.sum_nil, List.sum_cons, Nat.zero_le, Option.toList_some, Option.toList_none, List.cons_append, List.nil_append, ne_eq, not_false_eq_true, not_true_eq_false, nI_1, nI_add, Value.category, Nat.reduceAdd, Nat.reduceMod, Nat.reduceLeDiff, Nat.reduceLT, Nat.reduceEqDiff, Nat.reducePow, Nat.le_refl, Nat.add_left_cancel_iff, Nat.add_eq_left, Nat.left_eq_add, Nat.add_zero, nI_leF hkm (show m < 2 ^ 31 by omega), q1, q4]
            refine c86_144 (by simp [Value.category]) Rk.1.1 (by omega) (C (d - 1) hk sk F (fun _ => False) (by omega) Rk hFk) (fun v h7 q => ?_) (fun _ _ q => q.er (fun f e => by rw [hr]; exact gs_b_er (gs_b_er e)) stk (fun _ z => z.elim))
            obtain ⟨v, s7, e7, rfl, R7, mv7, le7, co7⟩ := q
            have st7 := stk.trans mv7 le7 co7 (fun _ z => z.elim)
            have ht7 : gm_fv h7 (x + 3) o = .ref h3.1 := (mv7.2.2.2.1 o ho).trans ht
            have ho7 : o < (gs_hp s7).length := Nat.lt_of_lt_of_le ho le7.1
            have rl7 : gm_rd h7 (h3.1 + 1) = gm_rd hk (h3.1 + 1) := mv7.1.2 _ ⟨p2.1, p2.2.1, fun z => z⟩
            have hl7 : gm_ln h7 (h3.1 + 1) = m := (gv_ln rl7).trans hl
            have k7 : gm_kd h7 (h3.1 + 1) = 101 := (gv_kd rl7).trans q7
            obtain ⟨-, -, qq⟩ := R7.hand ho7 ht7
            have lv7 : (gs_hp s7)[o].2.2.1.length = m := by rw [← qq.2.2.2.2.2.2.2.1]; exact hl7
            have hm31 : m < 2147483648 := by omega
            simp only [r86_0, r86_0n, r86_1, r86_5, r86_5n, r86_6, r86_6n, r86_7, r86_7n, r86_8, r86_11, r86_11n, r86_12, r86_15, r86_20, r86_21, r86_22, r86_25, r86_25n, r86_26, r86_26n, r86_27, r86_30, r86_30n, r86_31, r86_34, r86_39, r86_42, r86_42n, r86_43, r86_48, r86_49, r86_49n, r86_53, r86_55, r86_57, r86_60, r86_60n, r86_61, r86_66, r86_67, r86_67n, r86_68, r86_68n, r86_69, r86_70, r86_75, r86_78, r86_78i, r86_79, r86_80, r86_83, r86_84, r86_87, r86_88, r86_89, r86_94, r86_94n, r86_96, r86_96n, r86_97, r86_97n, r86_102, r86_104, r86_104n, r86_105, r86_110, r86_110a, r86_110n, r86_111, r86_112, r86_116, r86_118, r86_121, r86_121n, r86_123, r86_126, r86_128, r86_129, r86_132, r86_132n, r86_136, r86_137, r86_140, r86_140n, r86_141, r86_142, r86_143, r86_147, r86_148, r86_149, r86_152, r86_155, r86_157, i32_10, reduceIte, gm_cmp1, gm_cmp3, gm_cmp4, gm_kd_sf, gm_ln_sf, gm_sf_1, gm_sf_2, gm_nw_1, gm_nw_2, gm_k_int, gm_k_ref, gm_k_null, gm_k_u, gm_k_long, and_true, true_and, true_or, or_true, or_false, false_or, and_self, or_self, if_true, if_false, List.map_nil, List.map_cons, List.sum_nil, List.sum_cons, Nat.zero_le, Option.toList_some, Option.toList_none, List.cons_append, List.nil_append, ne_eq, not_false_eq_true, not_true_eq_false, nI_1, nI_add, Value.category, Nat.reduceAdd, Nat.reduceMod, Nat.reduceLeDiff, Nat.reduceLT, Nat.reduceEqDiff, Nat.reducePow, Nat.le_refl, Nat.add_left_cancel_iff, Nat.add_eq_left, Nat.left_eq_add, Nat.add_zero, k7, hl7, hkm, hm31]
            refine ih (k + 1) _ _ (by omega) (R7.setv (List.getElem?_eq_getElem ho7) ht7 (by rw [lv7]; exact hkm)) (fun a z => by rw [gm_sf_1]; have := hFk a z; have := mv7.1.1; omega) ?_ ?_ ?_ (st7.md (Or.inl (by omega)) (Or.inr (by omega))) ?_
            · simpa [gs_hp] using ho7
            · rw [gm_fv_sfa (by omega)]; exact ht7
            · rw [gm_ln_sf]; exact hl7
            · rw [hr]
              refine gs_b_cg ?_
              show gs_b rc _ sk = _
              rw [gs_b_ok e7]
              rfl
        simp only [r86_0, r86_0n, r86_1, r86_5, r86_5n, r86_6, r86_6n, r86_7, r86_7n, r86_8, r86_11, r86_11n, r86_12, r86_15, r86_20, r86_21, r86_22, r86_25, r86_25n, r86_26, r86_26n, r86_27, r86_30, r86_30n, r86_31, r86_34, r86_39, r86_42, r86_42n, r86_43, r86_48, r86_49, r86_49n, r86_53, r86_55, r86_57, r86_60, r86_60n, r86_61, r86_66, r86_67, r86_67n, r86_68, r86_68n, r86_69, r86_70, r86_75, r86_78, r86_78i, r86_79, r86_80, r86_83, r86_84, r86_87, r86_88, r86_89, r86_94, r86_94n, r86_96, r86_96n, r86_97, r86_97n, r86_102, r86_104, r86_104n, r86_105, r86_110, r86_110a, r86_110n, r86_111, r86_112, r86_116, r86_118, r86_121, r86_121n, r86_123, r86_126, r86_128, r86_129, r86_132, r86_132n, r86_136, r86_137, r86_140, r86_140n, r86_141, r86_142, r86_143, r86_147, r86_148, r86_149, r86_152, r86_155, r86_157, i32_10, reduceIte, gm_cmp1, gm_cmp3, gm_cmp4, gm_kd_sf, gm_ln_sf, gm_sf_1, gm_sf_2, gm_nw_1, gm_nw_2, gm_k_int, gm_k_ref, gm_k_null, gm_k_u, gm_k_long, and_true, true_and, true_or, or_true, or_false, false_or, and_self, or_self, if_true, if_false, List.map_nil, List.map_cons, List.sum_nil, List.sum_cons, Nat.zero_le, Option.toList_some, Option.toList_none, List.cons_append, List.nil_append, ne_eq, not_false_eq_true, not_true_eq_false, nI_1, nI_add, Value.category, Nat.reduceAdd, Nat.reduceMod, Nat.reduceLeDiff, Nat.reduceLT, Nat.reduceEqDiff, Nat.reducePow, Nat.le_refl, Nat.add_left_cancel_iff, Nat.add_eq_left, Nat.left_eq_add, Nat.add_zero]
        exact loop m 0 s6 h6 (by omega) R6 hF6 ho6 f6 l6 st6 hres4
    cases b with
    | true =>
      simp only [r86_0, r86_0n, r86_1, r86_5, r86_5n, r86_6, r86_6n, r86_7, r86_7n, r86_8, r86_11, r86_11n, r86_12, r86_15, r86_20, r86_21, r86_22, r86_25, r86_25n, r86_26, r86_26n, r86_27, r86_30, r86_30n, r86_31, r86_34, r86_39, r86_42, r86_42n, r86_43, r86_48, r86_49, r86_49n, r86_53, r86_55, r86_57, r86_60, r86_60n, r86_61, r86_66, r86_67, r86_67n, r86_68, r86_68n, r86_69, r86_70, r86_75, r86_78, r86_78i, r86_79, r86_80, r86_83, r86_84, r86_87, r86_88, r86_89, r86_96, r86_96n, r86_97, r86_97n, r86_102, r86_104, r86_104n, r86_105, r86_110, r86_110a, r86_110n, r86_111, r86_112, r86_114, r86_116, r86_118, r86_121, r86_121n, r86_123, r86_126, r86_128, r86_129, r86_132, r86_132n, r86_136, r86_137, r86_140, r86_140n, r86_141, r86_142, r86_143, r86_147, r86_148, r86_149, r86_152, r86_155, r86_157, i32_10, reduceIte, gm_cmp1, gm_cmp3, gm_cmp4, gm_kd_sf, gm_ln_sf, gm_sf_1, gm_sf_2, gm_nw_1, gm_nw_2, gm_k_int, gm_k_ref, gm_k_null, gm_k_u, gm_k_long, and_true, true_and, true_or, or_true, or_false, false_or, and_self, or_self, if_true, if_false, List.map_nil, List.map_cons, List.sum_nil, List.sum_cons, Nat.zero_le, Option.toList_some, Option.toList_none, List.cons_append, List.nil_append, ne_eq, not_false_eq_true, not_true_eq_false, nI_1, nI_add, Value.category, Nat.reduceAdd, Nat.reduceMod, Nat.reduceLeDiff, Nat.reduceLT, Nat.reduceEqDiff, Nat.reducePow, Nat.le_refl, Nat.add_left_cancel_iff, Nat.add_eq_left, Nat.left_eq_add, Nat.add_zero] at walk ⊢
      refine c86_91 (by simp [Value.category]) (by simp [gm_en1]) (by omega) (x_Thing (h := h3) (ca := ca) (o := none) (so := 2) hm1) (gx_kn ?_) gx_kx
      have e2 : so = 2 := by rw [hso]; rfl
      rw [e2] at h4e
      rw [← h4e]
      exact walk
    | false =>
      simp only [r86_0, r86_0n, r86_1, r86_5, r86_5n, r86_6, r86_6n, r86_7, r86_7n, r86_8, r86_11, r86_11n, r86_12, r86_15, r86_20, r86_21, r86_22, r86_25, r86_25n, r86_26, r86_26n, r86_27, r86_30, r86_30n, r86_31, r86_34, r86_39, r86_42, r86_42n, r86_43, r86_48, r86_49, r86_49n, r86_53, r86_55, r86_57, r86_60, r86_60n, r86_61, r86_66, r86_67, r86_67n, r86_68, r86_68n, r86_69, r86_70, r86_75, r86_78, r86_78i, r86_79, r86_80, r86_83, r86_84, r86_87, r86_88, r86_89, r86_96, r86_96n, r86_97, r86_97n, r86_102, r86_104, r86_104n, r86_105, r86_110, r86_110a, r86_110n, r86_111, r86_112, r86_114, r86_116, r86_118, r86_121, r86_121n, r86_123, r86_126, r86_128, r86_129, r86_132, r86_132n, r86_136, r86_137, r86_140, r86_140n, r86_141, r86_142, r86_143, r86_147, r86_148, r86_149, r86_152, r86_155, r86_157, i32_10, reduceIte, gm_cmp1, gm_cmp3, gm_cmp4, gm_kd_sf, gm_ln_sf, gm_sf_1, gm_sf_2, gm_nw_1, gm_nw_2, gm_k_int, gm_k_ref, gm_k_null, gm_k_u, gm_k_long, and_true, true_and, true_or, or_true, or_false, false_or, and_self, or_self, if_true, if_false, List.map_nil, List.map_cons, List.sum_nil, List.sum_cons, Nat.zero_le, Option.toList_some, Option.toList_none, List.cons_append, List.nil_append, ne_eq, not_false_eq_true, not_true_eq_false, nI_1, nI_add, Value.category, Nat.reduceAdd, Nat.reduceMod, Nat.reduceLeDiff, Nat.reduceLT, Nat.reduceEqDiff, Nat.reducePow, Nat.le_refl, Nat.add_left_cancel_iff, Nat.add_eq_left, Nat.left_eq_add, Nat.add_zero, Bool.false_eq_true] at walk ⊢
      refine c86_91 (by simp [Value.category]) (by simp [gm_en1]) (by omega) (x_Thing (h := h3) (ca := ca) (o := none) (so := 3) hm1) (gx_kn ?_) gx_kx
      have e2 : so = 3 := by rw [hso]; rfl
      rw [e2] at h4e
      rw [← h4e]
      exact walk
  simp only [r86_0, r86_0n, r86_1, r86_5, r86_5n, r86_6, r86_6n, r86_7, r86_7n, r86_8, r86_11, r86_11n, r86_12, r86_15, r86_20, r86_21, r86_22, r86_25, r86_25n, r86_26, r86_26n, r86_27, r86_30, r86_30n, r86_31, r86_34, r86_39, r86_42, r86_42n, r86_43, r86_48, r86_53, r86_55, r86_57, r86_60, r86_60n, r86_61, r86_66, r86_67, r86_67n, r86_68, r86_68n, r86_69, r86_70, r86_75, r86_78, r86_78i, r86_79, r86_80, r86_83, r86_84, r86_87, r86_88, r86_89, r86_94, r86_94n, r86_96, r86_96n, r86_97, r86_97n, r86_102, r86_104, r86_104n, r86_105, r86_110, r86_110a, r86_110n, r86_111, r86_112, r86_114, r86_116, r86_118, r86_121, r86_121n, r86_123, r86_126, r86_128, r86_129, r86_132, r86_132n, r86_136, r86_137, r86_140, r86_140n, r86_141, r86_142, r86_143, r86_147, r86_148, r86_149, r86_152, r86_155, r86_157, i32_10, reduceIte, gm_cmp1, gm_cmp3, gm_cmp4, gm_kd_sf, gm_ln_sf, gm_sf_1, gm_sf_2, gm_nw_1, gm_nw_2, gm_k_int, gm_k_ref, gm_k_null, gm_k_u, gm_k_long, and_true, true_and, true_or, or_true, or_false, false_or, and_self, or_self, if_true, if_false, List.map_nil, List.map_cons, List.sum_nil, List.sum_cons, Nat.zero_le, Option.toList_some, Option.toList_none, List.cons_append, List.nil_append, ne_eq, not_false_eq_true, not_true_eq_false, nI_1, nI_add, Value.category, Nat.reduceAdd, Nat.reduceMod, Nat.reduceLeDiff, Nat.reduceLT, Nat.reduceEqDiff, Nat.reducePow, Nat.le_refl, Nat.add_left_cancel_iff, Nat.add_eq_left, Nat.left_eq_add, Nat.add_zero, d1, d2, d3]
  refine c86_17 (by simp) enI R1.1.1 (by omega) (x_isSpelt (i := 2) (by omega) (by decide) R1 d16) (gx_kn ?_) gx_kx
  have eI : gs_spelt K (gs_nf l) (gs_nl l) (gx_str 2) = b := hb.symm
  rw [eI]
  cases b with
  | true =>
    simp only [r86_0, r86_0n, r86_1, r86_5, r86_5n, r86_6, r86_6n, r86_7, r86_7n, r86_8, r86_11, r86_11n, r86_12, r86_15, r86_20, r86_21, r86_22, r86_25, r86_25n, r86_26, r86_26n, r86_27, r86_30, r86_30n, r86_31, r86_34, r86_39, r86_42, r86_42n, r86_43, r86_48, r86_53, r86_55, r86_57, r86_60, r86_60n, r86_61, r86_66, r86_67, r86_67n, r86_68, r86_68n, r86_69, r86_70, r86_75, r86_78, r86_78i, r86_79, r86_80, r86_83, r86_84, r86_87, r86_88, r86_89, r86_94, r86_94n, r86_96, r86_96n, r86_97, r86_97n, r86_102, r86_104, r86_104n, r86_105, r86_110, r86_110a, r86_110n, r86_111, r86_112, r86_114, r86_116, r86_118, r86_121, r86_121n, r86_123, r86_126, r86_128, r86_129, r86_132, r86_132n, r86_136, r86_137, r86_140, r86_140n, r86_141, r86_142, r86_143, r86_147, r86_148, r86_149, r86_152, r86_155, r86_157, i32_10, reduceIte, gm_cmp1, gm_cmp3, gm_cmp4, gm_kd_sf, gm_ln_sf, gm_sf_1, gm_sf_2, gm_nw_1, gm_nw_2, gm_k_int, gm_k_ref, gm_k_null, gm_k_u, gm_k_long, and_true, true_and, true_or, or_true, or_false, false_or, and_self, or_self, if_true, if_false, List.map_nil, List.map_cons, List.sum_nil, List.sum_cons, Nat.zero_le, Option.toList_some, Option.toList_none, List.cons_append, List.nil_append, ne_eq, not_false_eq_true, not_true_eq_false, nI_1, nI_add, Value.category, Nat.reduceAdd, Nat.reduceMod, Nat.reduceLeDiff, Nat.reduceLT, Nat.reduceEqDiff, Nat.reducePow, Nat.le_refl, Nat.add_left_cancel_iff, Nat.add_eq_left, Nat.left_eq_add, Nat.add_zero]
    refine after res ?_
    rw [hres]
    simp
  | false =>
    simp only [r86_0, r86_0n, r86_1, r86_5, r86_5n, r86_6, r86_6n, r86_7, r86_7n, r86_8, r86_11, r86_11n, r86_12, r86_15, r86_20, r86_21, r86_22, r86_25, r86_25n, r86_26, r86_26n, r86_27, r86_30, r86_30n, r86_31, r86_34, r86_39, r86_42, r86_42n, r86_43, r86_48, r86_53, r86_55, r86_57, r86_60, r86_60n, r86_61, r86_66, r86_67, r86_67n, r86_68, r86_68n, r86_69, r86_70, r86_75, r86_78, r86_78i, r86_79, r86_80, r86_83, r86_84, r86_87, r86_88, r86_89, r86_94, r86_94n, r86_96, r86_96n, r86_97, r86_97n, r86_102, r86_104, r86_104n, r86_105, r86_110, r86_110a, r86_110n, r86_111, r86_112, r86_114, r86_116, r86_118, r86_121, r86_121n, r86_123, r86_126, r86_128, r86_129, r86_132, r86_132n, r86_136, r86_137, r86_140, r86_140n, r86_141, r86_142, r86_143, r86_147, r86_148, r86_149, r86_152, r86_155, r86_157, i32_10, reduceIte, gm_cmp1, gm_cmp3, gm_cmp4, gm_kd_sf, gm_ln_sf, gm_sf_1, gm_sf_2, gm_nw_1, gm_nw_2, gm_k_int, gm_k_ref, gm_k_null, gm_k_u, gm_k_long, and_true, true_and, true_or, or_true, or_false, false_or, and_self, or_self, if_true, if_false, List.map_nil, List.map_cons, List.sum_nil, List.sum_cons, Nat.zero_le, Option.toList_some, Option.toList_none, List.cons_append, List.nil_append, ne_eq, not_false_eq_true, not_true_eq_false, nI_1, nI_add, Value.category, Nat.reduceAdd, Nat.reduceMod, Nat.reduceLeDiff, Nat.reduceLT, Nat.reduceEqDiff, Nat.reducePow, Nat.le_refl, Nat.add_left_cancel_iff, Nat.add_eq_left, Nat.left_eq_add, Nat.add_zero, d1, d2, d3, Bool.false_eq_true]
    refine c86_36 (by simp) enR R1.1.1 (by omega) (x_isSpelt (i := 1) (by omega) (by decide) R1 d16) (gx_kn ?_) gx_kx
    have eR : gs_spelt K (gs_nf l) (gs_nl l) (gx_str 1) = gs_spelt K (gs_nf l) (gs_nl l) gs_tR := rfl
    rw [eR]
    cases hR : gs_spelt K (gs_nf l) (gs_nl l) gs_tR with
    | true =>
      rw [hR] at hres
      simp only [r86_0, r86_0n, r86_1, r86_5, r86_5n, r86_6, r86_6n, r86_7, r86_7n, r86_8, r86_11, r86_11n, r86_12, r86_15, r86_20, r86_21, r86_22, r86_25, r86_25n, r86_26, r86_26n, r86_27, r86_30, r86_30n, r86_31, r86_34, r86_39, r86_42, r86_42n, r86_43, r86_48, r86_53, r86_55, r86_57, r86_60, r86_60n, r86_61, r86_66, r86_67, r86_67n, r86_68, r86_68n, r86_69, r86_70, r86_75, r86_78, r86_78i, r86_79, r86_80, r86_83, r86_84, r86_87, r86_88, r86_89, r86_94, r86_94n, r86_96, r86_96n, r86_97, r86_97n, r86_102, r86_104, r86_104n, r86_105, r86_110, r86_110a, r86_110n, r86_111, r86_112, r86_114, r86_116, r86_118, r86_121, r86_121n, r86_123, r86_126, r86_128, r86_129, r86_132, r86_132n, r86_136, r86_137, r86_140, r86_140n, r86_141, r86_142, r86_143, r86_147, r86_148, r86_149, r86_152, r86_155, r86_157, i32_10, reduceIte, gm_cmp1, gm_cmp3, gm_cmp4, gm_kd_sf, gm_ln_sf, gm_sf_1, gm_sf_2, gm_nw_1, gm_nw_2, gm_k_int, gm_k_ref, gm_k_null, gm_k_u, gm_k_long, and_true, true_and, true_or, or_true, or_false, false_or, and_self, or_self, if_true, if_false, List.map_nil, List.map_cons, List.sum_nil, List.sum_cons, Nat.zero_le, Option.toList_some, Option.toList_none, List.cons_append, List.nil_append, ne_eq, not_false_eq_true, not_true_eq_false, nI_1, nI_add, Value.category, Nat.reduceAdd, Nat.reduceMod, Nat.reduceLeDiff, Nat.reduceLT, Nat.reduceEqDiff, Nat.reducePow, Nat.le_refl, Nat.add_left_cancel_iff, Nat.add_eq_left, Nat.left_eq_add, Nat.add_zero]
      refine after res ?_
      rw [hres]
      simp
    | false =>
      rw [hR] at hres
      simp only [r86_0, r86_0n, r86_1, r86_5, r86_5n, r86_6, r86_6n, r86_7, r86_7n, r86_8, r86_11, r86_11n, r86_12, r86_15, r86_20, r86_21, r86_22, r86_25, r86_25n, r86_26, r86_26n, r86_27, r86_30, r86_30n, r86_31, r86_34, r86_39, r86_42, r86_42n, r86_43, r86_48, r86_53, r86_55, r86_57, r86_60, r86_60n, r86_61, r86_66, r86_67, r86_67n, r86_68, r86_68n, r86_69, r86_70, r86_75, r86_78, r86_78i, r86_79, r86_80, r86_83, r86_84, r86_87, r86_88, r86_89, r86_94, r86_94n, r86_96, r86_96n, r86_97, r86_97n, r86_102, r86_104, r86_104n, r86_105, r86_110, r86_110a, r86_110n, r86_111, r86_112, r86_114, r86_116, r86_118, r86_121, r86_121n, r86_123, r86_126, r86_128, r86_129, r86_132, r86_132n, r86_136, r86_137, r86_140, r86_140n, r86_141, r86_142, r86_143, r86_147, r86_148, r86_149, r86_152, r86_155, r86_157, i32_10, reduceIte, gm_cmp1, gm_cmp3, gm_cmp4, gm_kd_sf, gm_ln_sf, gm_sf_1, gm_sf_2, gm_nw_1, gm_nw_2, gm_k_int, gm_k_ref, gm_k_null, gm_k_u, gm_k_long, and_true, true_and, true_or, or_true, or_false, false_or, and_self, or_self, if_true, if_false, List.map_nil, List.map_cons, List.sum_nil, List.sum_cons, Nat.zero_le, Option.toList_some, Option.toList_none, List.cons_append, List.nil_append, ne_eq, not_false_eq_true, not_true_eq_false, nI_1, nI_add, Value.category, Nat.reduceAdd, Nat.reduceMod, Nat.reduceLeDiff, Nat.reduceLT, Nat.reduceEqDiff, Nat.reducePow, Nat.le_refl, Nat.add_left_cancel_iff, Nat.add_eq_left, Nat.left_eq_add, Nat.add_zero, Bool.false_eq_true]
      exact c86_45 (by simp) R1.1.1 (by omega) (x_fail (G := G) (α := Unit) (val := fun _ _ _ => True) R1) gx_fn (fun _ _ q => q.er (fun f e => by cases e; rw [hres]; simp [gs_x]) st1 (fun _ z => Or.inr z))
end Y6
/-! THE CLASS, 16: constants. -/
section Y7
variable {E : Nat → Value} {d x d0 dp : Nat} {h : gm_H} {ca : Nat → Nat} {K : gs_K} {F G : Nat → Prop} {s : gs_S} {rc : gs_M Int32}
def gs_isC (c : Nat) (nm : Int32) (ob : gs_O) : Bool := ob.1 == 4 && ob.2.1 == some c && ob.2.2.2.1 == nm
theorem x_onlyConstant {c : Nat} {Cc : gs_C} {nm : Int32} (hd : 2 ≤ d) (R : gx_R E h x ca K F s) (hC : gs_cls K c = some Cc) (hF : ∀ a, F a → a < h.1) : gm_Ca E d 89 [.ref x, .ref (ca c), .int nm] h (fun r h' => match gs_only c nm s with
    | .ok q => r = .inl (some (.int (nI q.1))) ∧ gx_R E h' x ca K F q.2 ∧ gx_mv h h' x G s ∧ gx_le s q.2 ∧ h'.1 ≤ h.1 + 2 ∧ h'.2.1 ≤ h.2.1 + 5 ∧ gs_pl q.2 = gs_pl s ∧ gs_hs q.2 = gs_hs s
    | .error f => (∃ a, r = .inr a) ∧ gx_E h' x K f ∧ gx_mv h h' x G s ∧ h'.1 + gs_pl s ≤ h.1 + gs_n K + 5 ∧ h'.2.1 + 8 * gs_pl s ≤ h.2.1 + 8 * gs_n K + 65) := by
  obtain ⟨A0, -, -, A8, -, -, -, -, -, A3, A3l, -⟩ := R.1
  obtain ⟨z1, z2, z3, z4, z5, z6, z7, z8, z9⟩ := R.2.2.2.1
  have ht := R.top
  have ho := R.2.2.2.2.2.2.1
  obtain ⟨Q, hQ⟩ : ∃ Q : gm_R → gm_H → Prop, Q = (fun r h' => match gs_only c nm s with
    | .ok q => r = .inl (some (.int (nI q.1))) ∧ gx_R E h' x ca K F q.2 ∧ gx_mv h h' x G s ∧ gx_le s q.2 ∧ h'.1 ≤ h.1 + 2 ∧ h'.2.1 ≤ h.2.1 + 5 ∧ gs_pl q.2 = gs_pl s ∧ gs_hs q.2 = gs_hs s
    | .error f => (∃ a, r = .inr a) ∧ gx_E h' x K f ∧ gx_mv h h' x G s ∧ h'.1 + gs_pl s ≤ h.1 + gs_n K + 5 ∧ h'.2.1 + 8 * gs_pl s ≤ h.2.1 + 8 * gs_n K + 65) := ⟨_, rfl⟩
  rw [← hQ]
  have loop : ∀ (m k : Nat) (w : Value), k + m = (gs_hp s).length → (∀ i (hi : i < (gs_hp s).length), i < k → gs_isC c nm (gs_hp s)[i] = false) → gm_W E d 89 2 [.ref x, .ref (ca c), .int nm, .int (nI k)] [] h Q := by
    intro m
    induction m with
    | zero =>
      intro k w hk hn
      have hk : k = (gs_hp s).length := by omega
      subst hk
      have eo : gs_only c nm s = gs_addT (4, some c, [], nm, 0) s := by
        unfold gs_only
        have : (gs_hp s).findIdx? (fun ob => ob.1 == 4 && ob.2.1 == some c && ob.2.2.2.1 == nm) = none := by
          rw [List.findIdx?_eq_none_iff]
          intro q hq
          obtain ⟨i, hi, rfl⟩ := List.getElem_of_mem hq
          exact hn i hi hi
        rw [this]
      -- a new one
      obtain ⟨h1, h1e⟩ : ∃ h1, h1 = gx_mk (gx_n1 h) h.1 4 (gx_ow ca (some c)) 0 := ⟨_, rfl⟩
      have r1 : ∀ b, b < h.1 → gm_rd h1 b = gm_rd h b := by rw [h1e]; exact gx_mk_rd
      have t1 : gx_th h1 ca (4, some c, List.replicate 0 0, 0, 0) h.1 := by rw [h1e]; exact gx_mk_th (by decide)
      have c1 : h1.1 = h.1 + 2 ∧ h1.2.1 = h.2.1 + 5 + 0 := by rw [h1e]; exact gx_mk_1
      have kn : gm_kd (gx_n1 h) x = 0 := by unfold gx_n1; rw [gm_kd_nw (by omega)]; exact A0
      simp only [r89_0, r89_1, r89_2, r89_3, r89_3n, r89_4, r89_7, r89_10, r89_10n, r89_11, r89_14, r89_15, r89_16, r89_19, r89_20, r89_23, r89_23n, r89_24, r89_27, r89_28, r89_29, r89_32, r89_32n, r89_33, r89_33n, r89_33m, r89_33o, r89_36, r89_36n, r89_37, r89_40, r89_41, r89_42, r89_45, r89_46, r89_49, r89_50, r89_51, r89_54, r89_57, r89_60, r89_60i, r89_61, r89_62, r89_62n, r89_63, r89_67, r89_67n, r89_68, r89_68n, r89_69, r89_70, r89_73, r89_73n, r89_74, r89_74n, r89_78, i32_10, reduceIte, gm_cmp1, gm_cmp3, gm_cmp4, gm_kd_sf, gm_ln_sf, gm_sf_1, gm_sf_2, gm_nw_1, gm_nw_2, gm_k_int, gm_k_ref, gm_k_null, gm_k_u, gm_k_long, and_true, true_and, true_or, or_true, or_false, false_or, and_self, or_self, if_true, if_false, List.map_nil, List.map_cons, List.sum_nil, List.sum_cons, Nat.zero_le, Option.toList_some, Option.toList_none, List.cons_append, List.nil_append, ne_eq, not_false_eq_true, not_true_eq_false, nI_1, nI_add, Value.category, Nat.reduceAdd, Nat.reduceMod, Nat.reduceLeDiff, Nat.reduceLT, Nat.reduceEqDiff, Nat.reducePow, Nat.le_refl, Nat.add_left_cancel_iff, Nat.add_eq_left, Nat.left_eq_add, Nat.add_zero, A0, z3, nI_leT (Nat.le_refl (gs_hp s).length) (show (gs_hp s).length < 2 ^ 31 by omega)]
      refine c89_64 (by simp [Value.category]) (by simp [gm_en1]) (by omega) (x_Thing (h := h) (ca := ca) (o := some c) (n := 0) (so := 4) (by decide)) (gx_kn ?_) gx_kx
      rw [← h1e]
      obtain ⟨h2, h2e⟩ : ∃ h2, h2 = gm_sf h1 h.1 3 (.int nm) := ⟨_, rfl⟩
      have l1 : gm_ln h1 h.1 = 5 := gm_kd_ln t1.1 (by decide)
      have r2 : ∀ b, b < h.1 → gm_rd h2 b = gm_rd h b := fun b hb => by rw [h2e, gm_rd_sfn (by omega)]; exact r1 b hb
      have t2 : gx_th h2 ca (4, some c, [], nm, 0) h.1 := by
        obtain ⟨q1, q2, q3, q4, q5, q6, q7, q8, q9, q10⟩ := t1
        have n1 : h.1 + 1 ≠ h.1 := by omega
        rw [h2e]
        exact ⟨by rw [gm_kd_sf]; exact q1, by rw [gm_fv_sfj (by decide)]; exact q2, by rw [gm_fv_sfj (by decide)]; exact q3, by rw [gm_fv_sfj (by decide)]; exact q4, gm_fv_sf (by rw [l1]; decide), by rw [gm_fv_sfj (by decide)]; exact q6, by rw [gm_kd_sf]; exact q7, by rw [gm_ln_sf]; exact q8, by show 0 < 1000; decide, fun j v e => by simp at e⟩
      have h21 : h2.1 = h.1 + 2 ∧ h2.2.1 = h.2.1 + 5 := by rw [h2e]; simp only [gm_sf_1, gm_sf_2]; omega
      have R2 : gx_R E h2 x ca K F s := R.far (by omega) r2
      simp only [r89_0, r89_1, r89_2, r89_3, r89_3n, r89_4, r89_7, r89_10, r89_10n, r89_11, r89_14, r89_15, r89_16, r89_19, r89_20, r89_23, r89_23n, r89_24, r89_27, r89_28, r89_29, r89_32, r89_32n, r89_33, r89_33n, r89_33m, r89_33o, r89_36, r89_36n, r89_37, r89_40, r89_41, r89_42, r89_45, r89_46, r89_49, r89_50, r89_51, r89_54, r89_57, r89_60, r89_60i, r89_61, r89_62, r89_62n, r89_63, r89_67, r89_67n, r89_68, r89_68n, r89_69, r89_70, r89_73, r89_73n, r89_74, r89_74n, r89_78, i32_10, reduceIte, gm_cmp1, gm_cmp3, gm_cmp4, gm_kd_sf, gm_ln_sf, gm_sf_1, gm_sf_2, gm_nw_1, gm_nw_2, gm_k_int, gm_k_ref, gm_k_null, gm_k_u, gm_k_long, and_true, true_and, true_or, or_true, or_false, false_or, and_self, or_self, if_true, if_false, List.map_nil, List.map_cons, List.sum_nil, List.sum_cons, Nat.zero_le, Option.toList_some, Option.toList_none, List.cons_append, List.nil_append, ne_eq, not_false_eq_true, not_true_eq_false, nI_1, nI_add, Value.category, Nat.reduceAdd, Nat.reduceMod, Nat.reduceLeDiff, Nat.reduceLT, Nat.reduceEqDiff, Nat.reducePow, Nat.le_refl, Nat.add_left_cancel_iff, Nat.add_eq_left, Nat.left_eq_add, Nat.add_zero, t1.1]
      rw [← h2e]
      refine c89_75 (by simp) (by simp [gm_en1]) R2.1.1 (by omega) (x_addThing (G := G) (by omega) R2 (fun c' e => by cases e; rw [hC]; rfl) t2 ⟨⟨Or.inr ht, by omega, fun z => by have := hF _ z; omega⟩, ⟨Or.inr (by omega), by omega, fun z => by have := hF _ z; omega⟩⟩ (fun i u hi hu => R.below i u hi (by rw [← gv_fv (r2 (x + 3) (by omega))]; exact hu))) (fun v h3 q => ?_) (fun v h3 q => ?_)
      · obtain ⟨o, s3, e3, ⟨⟨rfl, na3⟩, -⟩, R3, mv3, le3, co3⟩ := q
        simp only [r89_0, r89_1, r89_2, r89_3, r89_3n, r89_4, r89_7, r89_10, r89_10n, r89_11, r89_14, r89_15, r89_16, r89_19, r89_20, r89_23, r89_23n, r89_24, r89_27, r89_28, r89_29, r89_32, r89_32n, r89_33, r89_33n, r89_33m, r89_33o, r89_36, r89_36n, r89_37, r89_40, r89_41, r89_42, r89_45, r89_46, r89_49, r89_50, r89_51, r89_54, r89_57, r89_60, r89_60i, r89_61, r89_62, r89_62n, r89_63, r89_67, r89_67n, r89_68, r89_68n, r89_69, r89_70, r89_73, r89_73n, r89_74, r89_74n, r89_78, i32_10, reduceIte, gm_cmp1, gm_cmp3, gm_cmp4, gm_kd_sf, gm_ln_sf, gm_sf_1, gm_sf_2, gm_nw_1, gm_nw_2, gm_k_int, gm_k_ref, gm_k_null, gm_k_u, gm_k_long, and_true, true_and, true_or, or_true, or_false, false_or, and_self, or_self, if_true, if_false, List.map_nil, List.map_cons, List.sum_nil, List.sum_cons, Nat.zero_le, Option.toList_some, Option.toList_none, List.cons_append, List.nil_append, ne_eq, not_false_eq_true, not_true_eq_false, nI_1, nI_add, Value.category, Nat.reduceAdd, Nat.reduceMod, Nat.reduceLeDiff, Nat.reduceLT, Nat.reduceEqDiff, Nat.reducePow, Nat.le_refl, Nat.add_left_cancel_iff, Nat.add_eq_left, Nat.left_eq_add, Nat.add_zero]
        rw [hQ]
        obtain ⟨-, es3⟩ := gs_addT_ok e3
        rw [eo, e3]
        refine ⟨rfl, R3, (gx_mv.far (G := G) (s := s) ht (by omega) r2).tr mv3, le3, by have := na3.1; omega, by have := na3.2; omega, by rw [es3]; rfl, by rw [es3]; rfl⟩
      · obtain ⟨f, e3, E3, mv3, cx3⟩ := q
        rw [hQ, eo, e3]
        refine ⟨⟨v, rfl⟩, E3, (gx_mv.far (G := G) (s := s) ht (by omega) r2).tr mv3, ?_⟩
        obtain ⟨a3, b3⟩ := cx3
        omega
    | succ m ih =>
      intro k w hk hn
      have hkl : k < (gs_hp s).length := by omega
      have hk234 : k < 234 := by omega
      obtain ⟨t, ft, -, -, q⟩ := R.thing (List.getElem?_eq_getElem hkl)
      obtain ⟨q1, q2, q3, q4, q5, q6, q7, q8, q9, q10⟩ := q
      have nx : gs_isC c nm (gs_hp s)[k] = false → gm_W E d 89 51 [.ref x, .ref (ca c), .int nm, .int (nI k)] [] h Q := by
        intro e
        simp only [r89_0, r89_1, r89_3, r89_3n, r89_4, r89_7, r89_10, r89_10n, r89_11, r89_14, r89_15, r89_16, r89_19, r89_20, r89_23, r89_23n, r89_24, r89_27, r89_28, r89_29, r89_32, r89_32n, r89_33, r89_33n, r89_33m, r89_33o, r89_36, r89_36n, r89_37, r89_40, r89_41, r89_42, r89_45, r89_46, r89_49, r89_50, r89_51, r89_54, r89_57, r89_60, r89_60i, r89_61, r89_62, r89_62n, r89_63, r89_67, r89_67n, r89_68, r89_68n, r89_69, r89_70, r89_73, r89_73n, r89_74, r89_74n, r89_78, i32_10, reduceIte, gm_cmp1, gm_cmp3, gm_cmp4, gm_kd_sf, gm_ln_sf, gm_sf_1, gm_sf_2, gm_nw_1, gm_nw_2, gm_k_int, gm_k_ref, gm_k_null, gm_k_u, gm_k_long, and_true, true_and, true_or, or_true, or_false, false_or, and_self, or_self, if_true, if_false, List.map_nil, List.map_cons, List.sum_nil, List.sum_cons, Nat.zero_le, Option.toList_some, Option.toList_none, List.cons_append, List.nil_append, ne_eq, not_false_eq_true, not_true_eq_false, nI_1, nI_add, Value.category, Nat.reduceAdd, Nat.reduceMod, Nat.reduceLeDiff, Nat.reduceLT, Nat.reduceEqDiff, Nat.reducePow, Nat.le_refl, Nat.add_left_cancel_iff, Nat.add_eq_left, Nat.left_eq_add, Nat.add_zero]
        refine ih (k + 1) w (by omega) (fun i hi hik => ?_)
        by_cases ei : i = k
        · subst ei; exact e
        · exact hn i hi (by omega)
      have yes : gs_isC c nm (gs_hp s)[k] = true → Q (.inl (some (.int (nI k)))) h := by
        intro e
        have eo : gs_only c nm s = .ok (k, s) := by
          unfold gs_only
          have : (gs_hp s).findIdx? (fun ob => ob.1 == 4 && ob.2.1 == some c && ob.2.2.2.1 == nm) = some k := by
            rw [List.findIdx?_eq_some_iff_getElem]
            exact ⟨hkl, e, fun i hi => by have := hn i (by omega) hi; unfold gs_isC at this; rw [this]; simp⟩
          rw [this]
        rw [hQ, eo]
        exact ⟨rfl, R, gx_mv.refl, gx_le.refl, by omega, by omega, rfl, rfl⟩
      rw [r89_2]
      simp only [r89_0, r89_1, r89_3, r89_3n, r89_4, r89_7, r89_10, r89_10n, r89_11, r89_14, r89_15, r89_16, r89_19, r89_20, r89_23, r89_23n, r89_24, r89_27, r89_28, r89_29, r89_32, r89_32n, r89_33, r89_33n, r89_33m, r89_33o, r89_36, r89_36n, r89_37, r89_40, r89_41, r89_42, r89_45, r89_46, r89_49, r89_50, r89_54, r89_57, r89_60, r89_60i, r89_61, r89_62, r89_62n, r89_63, r89_67, r89_67n, r89_68, r89_68n, r89_69, r89_70, r89_73, r89_73n, r89_74, r89_74n, r89_78, i32_10, reduceIte, gm_cmp1, gm_cmp3, gm_cmp4, gm_kd_sf, gm_ln_sf, gm_sf_1, gm_sf_2, gm_nw_1, gm_nw_2, gm_k_int, gm_k_ref, gm_k_null, gm_k_u, gm_k_long, and_true, true_and, true_or, or_true, or_false, false_or, and_self, or_self, if_true, if_false, List.map_nil, List.map_cons, List.sum_nil, List.sum_cons, Nat.zero_le, Option.toList_some, Option.toList_none, List.cons_append, List.nil_append, ne_eq, not_false_eq_true, not_true_eq_false, nI_1, nI_add, Value.category, Nat.reduceAdd, Nat.reduceMod, Nat.reduceLeDiff, Nat.reduceLT, Nat.reduceEqDiff, Nat.reducePow, Nat.le_refl, Nat.add_left_cancel_iff, Nat.add_eq_left, Nat.left_eq_add, Nat.add_zero, A0, z3, nI_leF hkl (show (gs_hp s).length < 2 ^ 31 by omega), A8, A3, A3l, hk234, ft, q1, q2]
      by_cases e4 : (gs_hp s)[k].1 = 4
      · cases hw : (gs_hp s)[k].2.1 with
        | none =>
          rw [hw] at q3
          have q3 : gm_fv h t 1 = .null := q3
          simp only [r89_0, r89_1, r89_3, r89_3n, r89_4, r89_7, r89_10, r89_10n, r89_11, r89_14, r89_15, r89_16, r89_19, r89_20, r89_23, r89_23n, r89_24, r89_27, r89_28, r89_29, r89_32, r89_32n, r89_33, r89_33n, r89_33m, r89_33o, r89_36, r89_36n, r89_37, r89_40, r89_41, r89_42, r89_45, r89_46, r89_49, r89_50, r89_54, r89_57, r89_60, r89_60i, r89_61, r89_62, r89_62n, r89_63, r89_67, r89_67n, r89_68, r89_68n, r89_69, r89_70, r89_73, r89_73n, r89_74, r89_74n, r89_78, i32_10, reduceIte, gm_cmp1, gm_cmp3, gm_cmp4, gm_kd_sf, gm_ln_sf, gm_sf_1, gm_sf_2, gm_nw_1, gm_nw_2, gm_k_int, gm_k_ref, gm_k_null, gm_k_u, gm_k_long, and_true, true_and, true_or, or_true, or_false, false_or, and_self, or_self, if_true, if_false, List.map_nil, List.map_cons, List.sum_nil, List.sum_cons, Nat.zero_le, Option.toList_some, Option.toList_none, List.cons_append, List.nil_append, ne_eq, not_false_eq_true, not_true_eq_false, nI_1, nI_add, Value.category, Nat.reduceAdd, Nat.reduceMod, Nat.reduceLeDiff, Nat.reduceLT, Nat.reduceEqDiff, Nat.reducePow, Nat.le_refl, Nat.add_left_cancel_iff, Nat.add_eq_left, Nat.left_eq_add, Nat.add_zero, e4, A0, A8, A3, A3l, hk234, ft, q1, q3]
          exact nx (by unfold gs_isC; rw [hw]; simp)
        | some c' =>
          rw [hw] at q3
          have q3 : gm_fv h t 1 = .ref (ca c') := q3
          simp only [r89_0, r89_1, r89_3, r89_3n, r89_4, r89_7, r89_10, r89_10n, r89_11, r89_14, r89_15, r89_16, r89_19, r89_20, r89_23, r89_23n, r89_24, r89_27, r89_28, r89_29, r89_32, r89_32n, r89_33, r89_33n, r89_33m, r89_33o, r89_36, r89_36n, r89_37, r89_40, r89_41, r89_42, r89_45, r89_46, r89_49, r89_50, r89_54, r89_57, r89_60, r89_60i, r89_61, r89_62, r89_62n, r89_63, r89_67, r89_67n, r89_68, r89_68n, r89_69, r89_70, r89_73, r89_73n, r89_74, r89_74n, r89_78, i32_10, reduceIte, gm_cmp1, gm_cmp3, gm_cmp4, gm_kd_sf, gm_ln_sf, gm_sf_1, gm_sf_2, gm_nw_1, gm_nw_2, gm_k_int, gm_k_ref, gm_k_null, gm_k_u, gm_k_long, and_true, true_and, true_or, or_true, or_false, false_or, and_self, or_self, if_true, if_false, List.map_nil, List.map_cons, List.sum_nil, List.sum_cons, Nat.zero_le, Option.toList_some, Option.toList_none, List.cons_append, List.nil_append, ne_eq, not_false_eq_true, not_true_eq_false, nI_1, nI_add, Value.category, Nat.reduceAdd, Nat.reduceMod, Nat.reduceLeDiff, Nat.reduceLT, Nat.reduceEqDiff, Nat.reducePow, Nat.le_refl, Nat.add_left_cancel_iff, Nat.add_eq_left, Nat.left_eq_add, Nat.add_zero, e4, A0, A8, A3, A3l, hk234, ft, q1, q3, q5]
          obtain ⟨C', hC'⟩ := Option.isSome_iff_exists.mp (ho k _ c' (List.getElem?_eq_getElem hkl) hw)
          by_cases ec : c' = c
          · subst ec
            simp only [reduceIte]
            by_cases en : (gs_hp s)[k].2.2.2.1 = nm
            · simp only [en, reduceIte]
              exact yes (by unfold gs_isC; rw [hw, e4, en]; simp)
            · simp only [en, reduceIte]
              exact nx (by unfold gs_isC; simp [en])
          · have ec' : ca c' ≠ ca c := fun z => ec (R.2.2.1.inj hC' hC z)
            simp only [ec', reduceIte]
            exact nx (by unfold gs_isC; rw [hw]; simp [ec])
      · simp only [e4, reduceIte]
        exact nx (by unfold gs_isC; simp [e4])
  show gm_W E d 89 0 [.ref x, .ref (ca c), .int nm, gm_u] [] h Q
  simp only [r89_0, r89_1, r89_3, r89_3n, r89_4, r89_7, r89_10, r89_10n, r89_11, r89_14, r89_15, r89_16, r89_19, r89_20, r89_23, r89_23n, r89_24, r89_27, r89_28, r89_29, r89_32, r89_32n, r89_33, r89_33n, r89_33m, r89_33o, r89_36, r89_36n, r89_37, r89_40, r89_41, r89_42, r89_45, r89_46, r89_49, r89_50, r89_51, r89_54, r89_57, r89_60, r89_60i, r89_61, r89_62, r89_62n, r89_63, r89_67, r89_67n, r89_68, r89_68n, r89_69, r89_70, r89_73, r89_73n, r89_74, r89_74n, r89_78, i32_10, reduceIte, gm_cmp1, gm_cmp3, gm_cmp4, gm_kd_sf, gm_ln_sf, gm_sf_1, gm_sf_2, gm_nw_1, gm_nw_2, gm_k_int, gm_k_ref, gm_k_null, gm_k_u, gm_k_long, and_true, true_and, true_or, or_true, or_false, false_or, and_self, or_self, if_true, if_false, List.map_nil, List.map_cons, List.sum_nil, List.sum_cons, Nat.zero_le, Option.toList_some, Option.toList_none, List.cons_append, List.nil_append, ne_eq, not_false_eq_true, not_true_eq_false, nI_1, nI_add, Value.category, Nat.reduceAdd, Nat.reduceMod, Nat.reduceLeDiff, Nat.reduceLT, Nat.reduceEqDiff, Nat.reducePow, Nat.le_refl, Nat.add_left_cancel_iff, Nat.add_eq_left, Nat.left_eq_add, Nat.add_zero]
  exact loop (gs_hp s).length 0 gm_u (by omega) (fun i hi z => by omega)
theorem gs_addE_hp {v : Int32} {e : Nat} {s1 : gs_S} (w : gs_addE v s = .ok (e, s1)) : gs_hp s1 = gs_hp s := by rw [(gs_addE_ok w).2]; rfl
theorem x_readConstant (C : gx_RC E x ca K d0 (dp + 1) rc) (hK : gs_kok K) (hdp : dp < 1000) (hd : d0 + 16 ≤ d) (R : gx_R E h x ca K F s) (hF : ∀ a, F a → a < h.1) :
    gm_Ca E d 87 [.ref x, .int (nI dp)] h (gx_P E h x ca K F G s (fun a _ v => v = some (.int a)) (gs_con1 K rc dp s)) := by
  obtain ⟨res, hres⟩ : ∃ res, res = gs_con1 K rc dp s := ⟨_, rfl⟩
  rw [← hres]
  unfold gs_con1 at hres
  show gm_W E d 87 0 [.ref x, .int (nI dp), gm_u, gm_u, gm_u] [] h _
  simp only [r87_0, r87_0n, r87_1, r87_5, r87_5n, r87_6, r87_6n, r87_7, r87_7n, r87_8, r87_9, r87_13, r87_13n, r87_17, r87_20, r87_20n, r87_21, r87_26, r87_27, r87_27n, r87_28, r87_31n, r87_31, r87_34, r87_34n, r87_35, r87_40, r87_41, r87_41n, r87_42, r87_47, r87_48, r87_48n, r87_49, r87_49n, r87_50, r87_51, r87_52, r87_59, r87_61, r87_66, r87_69, r87_69n, r87_70, r87_73, r87_76, r87_78, r87_79, r87_80, r87_81, r87_84, r87_84n, r87_85, r87_90, r87_91, r87_91n, r87_92, r87_95, r87_98, r87_99, r87_99n, r87_100, r87_100n, r87_101, r87_104, r87_109, r87_110, r87_110n, r87_111, r87_114, r87_117, r87_118, r87_119, i32_10, reduceIte, gm_cmp1, gm_cmp3, gm_cmp4, gm_kd_sf, gm_ln_sf, gm_sf_1, gm_sf_2, gm_nw_1, gm_nw_2, gm_k_int, gm_k_ref, gm_k_null, gm_k_u, gm_k_long, and_true, true_and, true_or, or_true, or_false, false_or, and_self, or_self, if_true, if_false, List.map_nil, List.map_cons, List.sum_nil, List.sum_cons, Nat.zero_le, Option.toList_some, Option.toList_none, List.cons_append, List.nil_append, ne_eq, not_false_eq_true, not_true_eq_false, nI_1, nI_add, Value.category, Nat.reduceAdd, Nat.reduceMod, Nat.reduceLeDiff, Nat.reduceLT, Nat.reduceEqDiff, Nat.reducePow, Nat.le_refl, Nat.add_left_cancel_iff, Nat.add_eq_left, Nat.left_eq_add, Nat.add_zero]
  refine c87_2 (by simp) R.1.1 (by omega) (x_readPresent (G := fun _ => False) C hK.1 hdp (by omega) R hF) (fun v h1 q => ?_) (fun _ _ q => q.er (s := s) (h := h) (fun f e => by rw [hres]; exact gs_have_er e) ⟨gx_mv.refl, gx_le.refl, gx_co.refl⟩ (fun _ z => z.elim))
  obtain ⟨⟨l, L⟩, s1, e1, ⟨⟨a, rfl, ds⟩, sur⟩, R1, mv1, le1, co1⟩ := q
  have sur1 := (sur s1 e1).1
  rw [gs_have_ok e1] at hres
  have st1 : gx_st h s x G h1 s1 := ⟨mv1.wk (fun _ z => z.elim), le1, co1⟩
  have hF1 : ∀ a, F a → a < h1.1 := fun a z => by have := hF a z; have := mv1.1.1; omega
  simp only [r87_0, r87_0n, r87_1, r87_5, r87_5n, r87_6, r87_6n, r87_7, r87_7n, r87_8, r87_9, r87_13, r87_13n, r87_17, r87_20, r87_20n, r87_21, r87_26, r87_27, r87_27n, r87_28, r87_31n, r87_31, r87_34, r87_34n, r87_35, r87_40, r87_41, r87_41n, r87_42, r87_47, r87_48, r87_48n, r87_49, r87_49n, r87_50, r87_51, r87_52, r87_59, r87_61, r87_66, r87_69, r87_69n, r87_70, r87_73, r87_76, r87_78, r87_79, r87_80, r87_81, r87_84, r87_84n, r87_85, r87_90, r87_91, r87_91n, r87_92, r87_95, r87_98, r87_99, r87_99n, r87_100, r87_100n, r87_101, r87_104, r87_109, r87_110, r87_110n, r87_111, r87_114, r87_117, r87_118, r87_119, i32_10, reduceIte, gm_cmp1, gm_cmp3, gm_cmp4, gm_kd_sf, gm_ln_sf, gm_sf_1, gm_sf_2, gm_nw_1, gm_nw_2, gm_k_int, gm_k_ref, gm_k_null, gm_k_u, gm_k_long, and_true, true_and, true_or, or_true, or_false, false_or, and_self, or_self, if_true, if_false, List.map_nil, List.map_cons, List.sum_nil, List.sum_cons, Nat.zero_le, Option.toList_some, Option.toList_none, List.cons_append, List.nil_append, ne_eq, not_false_eq_true, not_true_eq_false, nI_1, nI_add, Value.category, Nat.reduceAdd, Nat.reduceMod, Nat.reduceLeDiff, Nat.reduceLT, Nat.reduceEqDiff, Nat.reducePow, Nat.le_refl, Nat.add_left_cancel_iff, Nat.add_eq_left, Nat.left_eq_add, Nat.add_zero]
  refine c87_10 (by simp) (by simp [gm_en1]) R1.1.1 (by omega) (x_askLimits (G := fun _ => False) (by omega) hdp R1 ds) (fun v h2 q => ?_) (fun _ _ q => q.er (fun f e => by rw [hres]; exact gs_b_er e) st1 (fun _ z => z.elim))
  obtain ⟨_, s2, e2, ⟨rfl, na2⟩, R2, mv2, le2, co2⟩ := q
  rw [gs_b_ok e2] at hres
  have st2 := st1.trans mv2 le2 co2 (fun _ z => z.elim)
  have es2 : s2 = s1 := by
    unfold gs_lim at e2
    split at e2
    · cases e2
    · cases e2; rfl
  subst es2
  have ds2 : gx_ds h2 x ca K F (l :: L) (.ref a) := ds.tr (mv2.1.wk (fun _ z => z.elim))
  have ds2' := ds2
  obtain ⟨a', u, w, ea, o1, o2, o3, d1, d2, d3, d4, d5, d6, d7, d8, d9, d10, d11, d12, d13, d14, d15, d16, d17, d18, d19⟩ := ds2'
  cases ea
  have fail : ∀ (f : Int32) (pc : Nat), res = .error f → True := fun _ _ _ => trivial
  clear fail
  simp only [r87_0, r87_0n, r87_1, r87_5, r87_5n, r87_6, r87_6n, r87_7, r87_7n, r87_8, r87_9, r87_13, r87_13n, r87_17, r87_20, r87_20n, r87_21, r87_26, r87_27, r87_27n, r87_28, r87_31n, r87_31, r87_34, r87_34n, r87_35, r87_40, r87_41, r87_41n, r87_42, r87_47, r87_48, r87_48n, r87_49, r87_49n, r87_50, r87_51, r87_52, r87_59, r87_61, r87_66, r87_69, r87_69n, r87_70, r87_73, r87_76, r87_78, r87_79, r87_80, r87_81, r87_84, r87_84n, r87_85, r87_90, r87_91, r87_91n, r87_92, r87_95, r87_98, r87_99, r87_99n, r87_100, r87_100n, r87_101, r87_104, r87_109, r87_110, r87_110n, r87_111, r87_114, r87_117, r87_118, r87_119, i32_10, reduceIte, gm_cmp1, gm_cmp3, gm_cmp4, gm_kd_sf, gm_ln_sf, gm_sf_1, gm_sf_2, gm_nw_1, gm_nw_2, gm_k_int, gm_k_ref, gm_k_null, gm_k_u, gm_k_long, and_true, true_and, true_or, or_true, or_false, false_or, and_self, or_self, if_true, if_false, List.map_nil, List.map_cons, List.sum_nil, List.sum_cons, Nat.zero_le, Option.toList_some, Option.toList_none, List.cons_append, List.nil_append, ne_eq, not_false_eq_true, not_true_eq_false, nI_1, nI_add, Value.category, Nat.reduceAdd, Nat.reduceMod, Nat.reduceLeDiff, Nat.reduceLT, Nat.reduceEqDiff, Nat.reducePow, Nat.le_refl, Nat.add_left_cancel_iff, Nat.add_eq_left, Nat.left_eq_add, Nat.add_zero]
  refine c87_14 (by simp) d1 (by omega) (x_isConstant (by omega) d1 d5) (gx_kn ?_) gx_kx
  have el : gs_fl (l, L).fst = gs_fl l := rfl
  rw [el]
  by_cases h16 : gs_fl l &&& 16 = 0
  · rw [if_pos h16] at hres
    simp only [r87_0, r87_0n, r87_1, r87_5, r87_5n, r87_6, r87_6n, r87_7, r87_7n, r87_8, r87_9, r87_13, r87_13n, r87_17, r87_20, r87_20n, r87_21, r87_26, r87_27, r87_27n, r87_28, r87_31n, r87_31, r87_34, r87_34n, r87_35, r87_40, r87_41, r87_41n, r87_42, r87_47, r87_48, r87_48n, r87_49, r87_49n, r87_50, r87_51, r87_52, r87_59, r87_61, r87_66, r87_69, r87_69n, r87_70, r87_73, r87_76, r87_78, r87_79, r87_80, r87_81, r87_84, r87_84n, r87_85, r87_90, r87_91, r87_91n, r87_92, r87_95, r87_98, r87_99, r87_99n, r87_100, r87_100n, r87_101, r87_104, r87_109, r87_110, r87_110n, r87_111, r87_114, r87_117, r87_118, r87_119, i32_10, reduceIte, gm_cmp1, gm_cmp3, gm_cmp4, gm_kd_sf, gm_ln_sf, gm_sf_1, gm_sf_2, gm_nw_1, gm_nw_2, gm_k_int, gm_k_ref, gm_k_null, gm_k_u, gm_k_long, and_true, true_and, true_or, or_true, or_false, false_or, and_self, or_self, if_true, if_false, List.map_nil, List.map_cons, List.sum_nil, List.sum_cons, Nat.zero_le, Option.toList_some, Option.toList_none, List.cons_append, List.nil_append, ne_eq, not_false_eq_true, not_true_eq_false, nI_1, nI_add, Value.category, Nat.reduceAdd, Nat.reduceMod, Nat.reduceLeDiff, Nat.reduceLT, Nat.reduceEqDiff, Nat.reducePow, Nat.le_refl, Nat.add_left_cancel_iff, Nat.add_eq_left, Nat.left_eq_add, Nat.add_zero, h16]
    exact c87_23 (by simp) R2.1.1 (by omega) (x_fail (G := G) (α := Unit) (val := fun _ _ _ => True) R2) gx_fn (fun _ _ q => q.er (fun f e => by cases e; rw [hres]; rfl) st2 (fun _ z => Or.inr z))
  rw [if_neg h16] at hres
  cases how : gs_own l with
  | none =>
    rw [how] at hres
    have d10 : gm_fv h2 a 9 = .null := by rw [d10]; show gx_ow ca (gs_own l) = _; rw [how]; rfl
    simp only [r87_0, r87_0n, r87_1, r87_5, r87_5n, r87_6, r87_6n, r87_7, r87_7n, r87_8, r87_9, r87_13, r87_13n, r87_17, r87_20, r87_20n, r87_21, r87_26, r87_27, r87_27n, r87_28, r87_31n, r87_31, r87_34, r87_34n, r87_35, r87_40, r87_41, r87_41n, r87_42, r87_47, r87_48, r87_48n, r87_49, r87_49n, r87_50, r87_51, r87_52, r87_59, r87_61, r87_66, r87_69, r87_69n, r87_70, r87_73, r87_76, r87_78, r87_79, r87_80, r87_81, r87_84, r87_84n, r87_85, r87_90, r87_91, r87_91n, r87_92, r87_95, r87_98, r87_99, r87_99n, r87_100, r87_100n, r87_101, r87_104, r87_109, r87_110, r87_110n, r87_111, r87_114, r87_117, r87_118, r87_119, i32_10, reduceIte, gm_cmp1, gm_cmp3, gm_cmp4, gm_kd_sf, gm_ln_sf, gm_sf_1, gm_sf_2, gm_nw_1, gm_nw_2, gm_k_int, gm_k_ref, gm_k_null, gm_k_u, gm_k_long, and_true, true_and, true_or, or_true, or_false, false_or, and_self, or_self, if_true, if_false, List.map_nil, List.map_cons, List.sum_nil, List.sum_cons, Nat.zero_le, Option.toList_some, Option.toList_none, List.cons_append, List.nil_append, ne_eq, not_false_eq_true, not_true_eq_false, nI_1, nI_add, Value.category, Nat.reduceAdd, Nat.reduceMod, Nat.reduceLeDiff, Nat.reduceLT, Nat.reduceEqDiff, Nat.reducePow, Nat.le_refl, Nat.add_left_cancel_iff, Nat.add_eq_left, Nat.left_eq_add, Nat.add_zero, h16, d1, d10]
    exact c87_37 (by simp) R2.1.1 (by omega) (x_fail (G := G) (α := Unit) (val := fun _ _ _ => True) R2) gx_fn (fun _ _ q => q.er (fun f e => by cases e; rw [hres]; rfl) st2 (fun _ z => Or.inr z))
  | some c =>
    rw [how] at hres
    have d10 : gm_fv h2 a 9 = .ref (ca c) := by rw [d10]; show gx_ow ca (gs_own l) = _; rw [how]; rfl
    obtain ⟨hc6, hcs⟩ := d17 c how
    obtain ⟨Cc, hC⟩ := Option.isSome_iff_exists.mp hcs
    simp only [r87_0, r87_0n, r87_1, r87_5, r87_5n, r87_6, r87_6n, r87_7, r87_7n, r87_8, r87_9, r87_13, r87_13n, r87_17, r87_20, r87_20n, r87_21, r87_26, r87_27, r87_27n, r87_28, r87_31n, r87_31, r87_34, r87_34n, r87_35, r87_40, r87_41, r87_41n, r87_42, r87_47, r87_48, r87_48n, r87_49, r87_49n, r87_50, r87_51, r87_52, r87_59, r87_61, r87_66, r87_69, r87_69n, r87_70, r87_73, r87_76, r87_78, r87_79, r87_80, r87_81, r87_84, r87_84n, r87_85, r87_90, r87_91, r87_91n, r87_92, r87_95, r87_98, r87_99, r87_99n, r87_100, r87_100n, r87_101, r87_104, r87_109, r87_110, r87_110n, r87_111, r87_114, r87_117, r87_118, r87_119, i32_10, reduceIte, gm_cmp1, gm_cmp3, gm_cmp4, gm_kd_sf, gm_ln_sf, gm_sf_1, gm_sf_2, gm_nw_1, gm_nw_2, gm_k_int, gm_k_ref, gm_k_null, gm_k_u, gm_k_long, and_true, true_and, true_or, or_true, or_false, false_or, and_self, or_self, if_true, if_false, List.map_nil, List.map_cons, List.sum_nil, List.sum_cons, Nat.zero_le, Option.toList_some, Option.toList_none, List.cons_append, List.nil_append, ne_eq, not_false_eq_true, not_true_eq_false, nI_1, nI_add, Value.category, Nat.reduceAdd, Nat.reduceMod, Nat.reduceLeDiff, Nat.reduceLT, Nat.reduceEqDiff, Nat.reducePow, Nat.le_refl, Nat.add_left_cancel_iff, Nat.add_eq_left, Nat.left_eq_add, Nat.add_zero, h16, d1, d10]
    refine c87_44 (by simp) R2.1.1 (by omega) (x_addEntry (G := fun _ => False) (by omega) R2) (fun v h3 q => ?_) (fun _ _ q => q.er (fun f e => by rw [hres]; exact gs_b_er e) st2 (fun _ z => z.elim))
    obtain ⟨e, s3, e3, ⟨rfl, na3⟩, R3, mv3, le3, co3⟩ := q
    try dsimp only at hres
    rw [gs_b_ok e3] at hres
    obtain ⟨ee, es3⟩ := gs_addE_ok e3
    have st3 := st2.trans mv3 le3 co3 (fun _ z => z.elim)
    have h12 : h1.1 ≤ h2.1 := mv2.1.1
    have h23 : h2.1 ≤ h3.1 := mv3.1.1
    have hF3 : ∀ a, F a → a < h3.1 := fun a z => by have := hF1 a z; omega
    simp only [r87_0, r87_0n, r87_1, r87_5, r87_5n, r87_6, r87_6n, r87_7, r87_7n, r87_8, r87_9, r87_13, r87_13n, r87_17, r87_20, r87_20n, r87_21, r87_26, r87_27, r87_27n, r87_28, r87_31n, r87_31, r87_34, r87_34n, r87_35, r87_40, r87_41, r87_41n, r87_42, r87_47, r87_48, r87_48n, r87_49, r87_49n, r87_50, r87_51, r87_52, r87_59, r87_61, r87_66, r87_69, r87_69n, r87_70, r87_73, r87_76, r87_78, r87_79, r87_80, r87_81, r87_84, r87_84n, r87_85, r87_90, r87_91, r87_91n, r87_92, r87_95, r87_98, r87_99, r87_99n, r87_100, r87_100n, r87_101, r87_104, r87_109, r87_110, r87_110n, r87_111, r87_114, r87_117, r87_118, r87_119, i32_10, reduceIte, gm_cmp1, gm_cmp3, gm_cmp4, gm_kd_sf, gm_ln_sf, gm_sf_1, gm_sf_2, gm_nw_1, gm_nw_2, gm_k_int, gm_k_ref, gm_k_null, gm_k_u, gm_k_long, and_true, true_and, true_or, or_true, or_false, false_or, and_self, or_self, if_true, if_false, List.map_nil, List.map_cons, List.sum_nil, List.sum_cons, Nat.zero_le, Option.toList_some, Option.toList_none, List.cons_append, List.nil_append, ne_eq, not_false_eq_true, not_true_eq_false, nI_1, nI_add, Value.category, Nat.reduceAdd, Nat.reduceMod, Nat.reduceLeDiff, Nat.reduceLT, Nat.reduceEqDiff, Nat.reducePow, Nat.le_refl, Nat.add_left_cancel_iff, Nat.add_eq_left, Nat.left_eq_add, Nat.add_zero]
    refine c87_53 (by simp [Value.category]) R3.1.1 (by omega) (C (d - 1) h3 s3 F (fun _ => False) (by omega) R3 hF3) (fun v h4 q => ?_) (fun _ _ q => q.er (fun f e => by rw [hres]; exact gs_b_er e) st3 (fun _ z => z.elim))
    obtain ⟨v, s4, e4, rfl, R4, mv4, le4, co4⟩ := q
    rw [gs_b_ok e4] at hres
    have st4 := st3.trans mv4 le4 co4 (fun _ z => z.elim)
    have h34 : h3.1 ≤ h4.1 := mv4.1.1
    have hF4 : ∀ a, F a → a < h4.1 := fun a z => by have := hF3 a z; omega
    have ds4 : gx_ds h4 x ca K F (l :: L) (.ref a) := (ds2.tr (mv3.1.wk (fun _ z => z.elim))).tr (mv4.1.wk (fun _ z => z.elim))
    obtain ⟨a', u4, w4, ea, -, -, -, k4, -, -, -, -, -, -, -, -, f49, -⟩ := ds4
    cases ea
    have f49 : gm_fv h4 a 9 = .ref (ca c) := by rw [f49]; show gx_ow ca (gs_own l) = _; rw [how]; rfl
    obtain ⟨-, -, -, kc, -, -, -, -, -, -, -, -, fc8, -⟩ := R4.2.2.1.at hC
    simp only [i32_10, reduceIte, gm_cmp1, gm_cmp3, gm_cmp4, gm_kd_sf, gm_ln_sf, gm_sf_1, gm_sf_2, gm_nw_1, gm_nw_2, gm_k_int, gm_k_ref, gm_k_null, gm_k_u, gm_k_long, and_true, true_and, true_or, or_true, or_false, false_or, and_self, or_self, if_true, if_false, List.map_nil, List.map_cons, List.sum_nil, List.sum_cons, Nat.zero_le, Option.toList_some, Option.toList_none, List.cons_append, List.nil_append, ne_eq, not_false_eq_true, not_true_eq_false, nI_1, nI_add, Value.category, Nat.reduceAdd, Nat.reduceMod, Nat.reduceLeDiff, Nat.reduceLT, Nat.reduceEqDiff, Nat.reducePow, Nat.le_refl, Nat.add_left_cancel_iff, Nat.add_eq_left, Nat.left_eq_add, Nat.add_zero]
    refine c87_56 (by simp) R4.1.1 (by omega) (x_constantName (by omega) R4) (gx_kn ?_) gx_kx
    obtain ⟨nm, hnm⟩ : ∃ nm, nm = gs_cname s4 v := ⟨_, rfl⟩
    rw [← hnm]
    try dsimp only at hres
    rw [← hnm, hC, show (some Cc).elim 0 gs_con = gs_con Cc from rfl] at hres
    simp only [r87_0, r87_0n, r87_1, r87_5, r87_5n, r87_6, r87_6n, r87_7, r87_7n, r87_8, r87_9, r87_13, r87_13n, r87_17, r87_20, r87_20n, r87_21, r87_26, r87_27, r87_27n, r87_28, r87_31n, r87_31, r87_34, r87_34n, r87_35, r87_40, r87_41, r87_41n, r87_42, r87_47, r87_48, r87_48n, r87_49, r87_49n, r87_50, r87_51, r87_52, r87_59, r87_61, r87_66, r87_69, r87_69n, r87_70, r87_73, r87_76, r87_78, r87_79, r87_80, r87_81, r87_84, r87_84n, r87_85, r87_90, r87_91, r87_91n, r87_92, r87_95, r87_98, r87_99, r87_99n, r87_100, r87_100n, r87_101, r87_104, r87_109, r87_110, r87_110n, r87_111, r87_114, r87_117, r87_118, r87_119, i32_10, reduceIte, gm_cmp1, gm_cmp3, gm_cmp4, gm_kd_sf, gm_ln_sf, gm_sf_1, gm_sf_2, gm_nw_1, gm_nw_2, gm_k_int, gm_k_ref, gm_k_null, gm_k_u, gm_k_long, and_true, true_and, true_or, or_true, or_false, false_or, and_self, or_self, if_true, if_false, List.map_nil, List.map_cons, List.sum_nil, List.sum_cons, Nat.zero_le, Option.toList_some, Option.toList_none, List.cons_append, List.nil_append, ne_eq, not_false_eq_true, not_true_eq_false, nI_1, nI_add, Value.category, Nat.reduceAdd, Nat.reduceMod, Nat.reduceLeDiff, Nat.reduceLT, Nat.reduceEqDiff, Nat.reducePow, Nat.le_refl, Nat.add_left_cancel_iff, Nat.add_eq_left, Nat.left_eq_add, Nat.add_zero]
    refine c87_63 (by simp) (by omega) (x_isName nm) (gx_kn ?_) gx_kx
    have bad : res = .error (-6) → gm_W E d 87 84 [.ref x, .int (nI dp), .ref a, .int (nI e), .int nm] [] h4 (gx_P E h x ca K F G s (fun a _ v => v = some (.int a)) res) := by
      intro er
      simp only [r87_0, r87_0n, r87_1, r87_5, r87_5n, r87_6, r87_6n, r87_7, r87_7n, r87_8, r87_9, r87_13, r87_13n, r87_17, r87_20, r87_20n, r87_21, r87_26, r87_27, r87_27n, r87_28, r87_31n, r87_31, r87_34, r87_34n, r87_35, r87_40, r87_41, r87_41n, r87_42, r87_47, r87_48, r87_48n, r87_49, r87_49n, r87_50, r87_51, r87_52, r87_59, r87_61, r87_66, r87_69, r87_69n, r87_70, r87_73, r87_76, r87_78, r87_79, r87_80, r87_81, r87_84, r87_84n, r87_85, r87_90, r87_91, r87_91n, r87_92, r87_95, r87_98, r87_99, r87_99n, r87_100, r87_100n, r87_101, r87_104, r87_109, r87_110, r87_110n, r87_111, r87_114, r87_117, r87_118, r87_119, i32_10, reduceIte, gm_cmp1, gm_cmp3, gm_cmp4, gm_kd_sf, gm_ln_sf, gm_sf_1, gm_sf_2, gm_nw_1, gm_nw_2, gm_k_int, gm_k_ref, gm_k_null, gm_k_u, gm_k_long, and_true, true_and, true_or, or_true, or_false, false_or, and_self, or_self, if_true, if_false, List.map_nil, List.map_cons, List.sum_nil, List.sum_cons, Nat.zero_le, Option.toList_some, Option.toList_none, List.cons_append, List.nil_append, ne_eq, not_false_eq_true, not_true_eq_false, nI_1, nI_add, Value.category, Nat.reduceAdd, Nat.reduceMod, Nat.reduceLeDiff, Nat.reduceLT, Nat.reduceEqDiff, Nat.reducePow, Nat.le_refl, Nat.add_left_cancel_iff, Nat.add_eq_left, Nat.left_eq_add, Nat.add_zero]
      exact c87_87 (by simp) R4.1.1 (by omega) (x_fail (G := G) (α := Unit) (val := fun _ _ _ => True) R4) gx_fn (fun _ _ q => q.er (fun f e => by cases e; exact er) st4 (fun _ z => Or.inr z))
    by_cases n1 : nm < 0
    · rw [if_pos (Or.inl n1)] at hres
      simp only [r87_0, r87_0n, r87_1, r87_5, r87_5n, r87_6, r87_6n, r87_7, r87_7n, r87_8, r87_9, r87_13, r87_13n, r87_17, r87_20, r87_20n, r87_21, r87_26, r87_27, r87_27n, r87_28, r87_31n, r87_31, r87_34, r87_34n, r87_35, r87_40, r87_41, r87_41n, r87_42, r87_47, r87_48, r87_48n, r87_49, r87_49n, r87_50, r87_51, r87_52, r87_59, r87_61, r87_66, r87_69, r87_69n, r87_70, r87_73, r87_76, r87_78, r87_79, r87_80, r87_81, r87_85, r87_90, r87_91, r87_91n, r87_92, r87_95, r87_98, r87_99, r87_99n, r87_100, r87_100n, r87_101, r87_104, r87_109, r87_110, r87_110n, r87_111, r87_114, r87_117, r87_118, r87_119, i32_10, reduceIte, gm_cmp1, gm_cmp3, gm_cmp4, gm_kd_sf, gm_ln_sf, gm_sf_1, gm_sf_2, gm_nw_1, gm_nw_2, gm_k_int, gm_k_ref, gm_k_null, gm_k_u, gm_k_long, and_true, true_and, true_or, or_true, or_false, false_or, and_self, or_self, if_true, if_false, List.map_nil, List.map_cons, List.sum_nil, List.sum_cons, Nat.zero_le, Option.toList_some, Option.toList_none, List.cons_append, List.nil_append, ne_eq, not_false_eq_true, not_true_eq_false, nI_1, nI_add, Value.category, Nat.reduceAdd, Nat.reduceMod, Nat.reduceLeDiff, Nat.reduceLT, Nat.reduceEqDiff, Nat.reducePow, Nat.le_refl, Nat.add_left_cancel_iff, Nat.add_eq_left, Nat.left_eq_add, Nat.add_zero, n1]
      exact bad hres
    by_cases n2 : 26 ≤ nm
    · rw [if_pos (Or.inr (Or.inl n2))] at hres
      simp only [r87_0, r87_0n, r87_1, r87_5, r87_5n, r87_6, r87_6n, r87_7, r87_7n, r87_8, r87_9, r87_13, r87_13n, r87_17, r87_20, r87_20n, r87_21, r87_26, r87_27, r87_27n, r87_28, r87_31n, r87_31, r87_34, r87_34n, r87_35, r87_40, r87_41, r87_41n, r87_42, r87_47, r87_48, r87_48n, r87_49, r87_49n, r87_50, r87_51, r87_52, r87_59, r87_61, r87_66, r87_69, r87_69n, r87_70, r87_73, r87_76, r87_78, r87_79, r87_80, r87_81, r87_85, r87_90, r87_91, r87_91n, r87_92, r87_95, r87_98, r87_99, r87_99n, r87_100, r87_100n, r87_101, r87_104, r87_109, r87_110, r87_110n, r87_111, r87_114, r87_117, r87_118, r87_119, i32_10, reduceIte, gm_cmp1, gm_cmp3, gm_cmp4, gm_kd_sf, gm_ln_sf, gm_sf_1, gm_sf_2, gm_nw_1, gm_nw_2, gm_k_int, gm_k_ref, gm_k_null, gm_k_u, gm_k_long, and_true, true_and, true_or, or_true, or_false, false_or, and_self, or_self, if_true, if_false, List.map_nil, List.map_cons, List.sum_nil, List.sum_cons, Nat.zero_le, Option.toList_some, Option.toList_none, List.cons_append, List.nil_append, ne_eq, not_false_eq_true, not_true_eq_false, nI_1, nI_add, Value.category, Nat.reduceAdd, Nat.reduceMod, Nat.reduceLeDiff, Nat.reduceLT, Nat.reduceEqDiff, Nat.reducePow, Nat.le_refl, Nat.add_left_cancel_iff, Nat.add_eq_left, Nat.left_eq_add, Nat.add_zero, n1, n2]
      exact bad hres
    by_cases n3 : (gs_con Cc >>> (nm &&& 31)) &&& 1 = 0
    · rw [if_pos (Or.inr (Or.inr n3))] at hres
      simp only [r87_0, r87_0n, r87_1, r87_5, r87_5n, r87_6, r87_6n, r87_7, r87_7n, r87_8, r87_9, r87_13, r87_13n, r87_17, r87_20, r87_20n, r87_21, r87_26, r87_27, r87_27n, r87_28, r87_31n, r87_31, r87_34, r87_34n, r87_35, r87_40, r87_41, r87_41n, r87_42, r87_47, r87_48, r87_48n, r87_49, r87_49n, r87_50, r87_51, r87_52, r87_59, r87_61, r87_66, r87_69, r87_69n, r87_70, r87_73, r87_76, r87_78, r87_79, r87_80, r87_81, r87_85, r87_90, r87_91, r87_91n, r87_92, r87_95, r87_98, r87_99, r87_99n, r87_100, r87_100n, r87_101, r87_104, r87_109, r87_110, r87_110n, r87_111, r87_114, r87_117, r87_118, r87_119, i32_10, reduceIte, gm_cmp1, gm_cmp3, gm_cmp4, gm_kd_sf, gm_ln_sf, gm_sf_1, gm_sf_2, gm_nw_1, gm_nw_2, gm_k_int, gm_k_ref, gm_k_null, gm_k_u, gm_k_long, and_true, true_and, true_or, or_true, or_false, false_or, and_self, or_self, if_true, if_false, List.map_nil, List.map_cons, List.sum_nil, List.sum_cons, Nat.zero_le, Option.toList_some, Option.toList_none, List.cons_append, List.nil_append, ne_eq, not_false_eq_true, not_true_eq_false, nI_1, nI_add, Value.category, Nat.reduceAdd, Nat.reduceMod, Nat.reduceLeDiff, Nat.reduceLT, Nat.reduceEqDiff, Nat.reducePow, Nat.le_refl, Nat.add_left_cancel_iff, Nat.add_eq_left, Nat.left_eq_add, Nat.add_zero, n1, n2, k4, f49, kc, fc8, n3]
      exact bad hres
    rw [if_neg (fun z => z.elim n1 (fun y => y.elim n2 n3))] at hres
    obtain ⟨A0, -, -, -, A10, -, -, -, -, -, -, A4, A40, -⟩ := R4.1
    simp only [r87_0, r87_0n, r87_1, r87_5, r87_5n, r87_6, r87_6n, r87_7, r87_7n, r87_8, r87_9, r87_13, r87_13n, r87_17, r87_20, r87_20n, r87_21, r87_26, r87_27, r87_27n, r87_28, r87_31n, r87_31, r87_34, r87_34n, r87_35, r87_40, r87_41, r87_41n, r87_42, r87_47, r87_48, r87_48n, r87_49, r87_49n, r87_50, r87_51, r87_52, r87_59, r87_61, r87_66, r87_69, r87_69n, r87_70, r87_73, r87_76, r87_78, r87_79, r87_80, r87_81, r87_85, r87_90, r87_91, r87_91n, r87_92, r87_95, r87_98, r87_99, r87_99n, r87_100, r87_100n, r87_101, r87_104, r87_109, r87_110, r87_110n, r87_111, r87_114, r87_117, r87_118, r87_119, i32_10, reduceIte, gm_cmp1, gm_cmp3, gm_cmp4, gm_kd_sf, gm_ln_sf, gm_sf_1, gm_sf_2, gm_nw_1, gm_nw_2, gm_k_int, gm_k_ref, gm_k_null, gm_k_u, gm_k_long, and_true, true_and, true_or, or_true, or_false, false_or, and_self, or_self, if_true, if_false, List.map_nil, List.map_cons, List.sum_nil, List.sum_cons, Nat.zero_le, Option.toList_some, Option.toList_none, List.cons_append, List.nil_append, ne_eq, not_false_eq_true, not_true_eq_false, nI_1, nI_add, Value.category, Nat.reduceAdd, Nat.reduceMod, Nat.reduceLeDiff, Nat.reduceLT, Nat.reduceEqDiff, Nat.reducePow, Nat.le_refl, Nat.add_left_cancel_iff, Nat.add_eq_left, Nat.left_eq_add, Nat.add_zero, n1, n2, k4, f49, kc, fc8, n3, A0, A10, A4, A40]
    refine c87_106 (by simp [Value.category]) (by simp [gm_en1]) A0 (by omega) (x_onlyConstant (G := fun _ => False) (by omega) R4 hC hF4) (fun v h5 q => ?_) (fun v h5 q => ?_)
    · cases eo : gs_only c nm s4 with
      | error f =>
        rw [eo] at q
        obtain ⟨⟨_, q⟩, _⟩ := q
        cases q
      | ok p =>
        obtain ⟨o, s5⟩ := p
        rw [eo] at q
        dsimp only at q
        obtain ⟨q1, R5, mv5, le5, c5, c5', p5, hs5⟩ := q
        cases q1
        rw [gs_b_ok eo] at hres
        have hle : (gs_hs s).length ≤ e := by have := st2.2.1.2; omega
        have hlt : e < (gs_hs s5).length := by
          have h1 := le4.2
          have h5 : (gs_hs s3).length = (gs_hs s2).length + 1 := by rw [es3]; simp [gs_hs]
          rw [hs5]
          omega
        obtain ⟨A0, -, -, -, A10, -, -, -, -, -, -, A4, A40, -, A5, A5l, -⟩ := R5.1
        have h234 := R5.2.2.2.1.2.2.2.2.2.2.2.1
        have he2 : e < 234 := by omega
        have n05 : x ≠ x + 5 := by omega
        have n45 : x + 4 ≠ x + 5 := by omega
        have e55 : gm_fv (gm_sf h5 (x + 5) e (.int (nI o))) (x + 5) e = .int (nI o) := gm_fv_sf (by omega)
        simp only [r87_0, r87_0n, r87_1, r87_5, r87_5n, r87_6, r87_6n, r87_7, r87_7n, r87_8, r87_9, r87_13, r87_13n, r87_17, r87_20, r87_20n, r87_21, r87_26, r87_27, r87_27n, r87_28, r87_31n, r87_31, r87_34, r87_34n, r87_35, r87_40, r87_41, r87_41n, r87_42, r87_47, r87_48, r87_48n, r87_49, r87_49n, r87_50, r87_51, r87_52, r87_59, r87_61, r87_66, r87_69, r87_69n, r87_70, r87_73, r87_76, r87_78, r87_79, r87_80, r87_81, r87_84, r87_84n, r87_85, r87_90, r87_91, r87_91n, r87_92, r87_95, r87_98, r87_99, r87_99n, r87_100, r87_100n, r87_101, r87_104, r87_109, r87_110, r87_110n, r87_111, r87_114, r87_117, r87_118, r87_119, i32_10, reduceIte, gm_cmp1, gm_cmp3, gm_cmp4, gm_kd_sf, gm_ln_sf, gm_sf_1, gm_sf_2, gm_nw_1, gm_nw_2, gm_k_int, gm_k_ref, gm_k_null, gm_k_u, gm_k_long, and_true, true_and, true_or, or_true, or_false, false_or, and_self, or_self, if_true, if_false, List.map_nil, List.map_cons, List.sum_nil, List.sum_cons, Nat.zero_le, Option.toList_some, Option.toList_none, List.cons_append, List.nil_append, ne_eq, not_false_eq_true, not_true_eq_false, nI_1, nI_add, Value.category, Nat.reduceAdd, Nat.reduceMod, Nat.reduceLeDiff, Nat.reduceLT, Nat.reduceEqDiff, Nat.reducePow, Nat.le_refl, Nat.add_left_cancel_iff, Nat.add_eq_left, Nat.left_eq_add, Nat.add_zero, A5, A5l, he2, gm_fv_sfa n05, gm_fv_sfa n45, A0, A10, A4, A40, e55]
        rw [hres]
        refine ⟨nI o, _, rfl, rfl, R5.setE hlt, ?_, ?_, ?_⟩
        · exact (st4.1.trans mv5 st4.2.1 (fun _ z => z.elim)).tr (gx_mv.obj hle)
        · refine st4.2.1.trans (le5.trans ⟨Nat.le_refl _, ?_⟩)
          simp [gs_hs]
        · obtain ⟨b1, b2⟩ := na2
          obtain ⟨b3, b4⟩ := co3
          obtain ⟨b5, b6⟩ := co4
          obtain ⟨b7, b8⟩ := sur1
          unfold gx_co
          simp only [gm_sf_1, gm_sf_2]
          show h5.1 + gs_pl s ≤ h.1 + gs_pl s5 ∧ h5.2.1 + 8 * gs_pl s ≤ h.2.1 + 8 * gs_pl s5
          omega
    · cases eo : gs_only c nm s4 with
      | ok p =>
        rw [eo] at q
        obtain ⟨q, _⟩ := q
        cases q
      | error f =>
        rw [eo] at q
        obtain ⟨-, E5, mv5, c5, c5'⟩ := q
        rw [hres]
        refine ⟨f, gs_b_er eo, E5, st4.1.trans mv5 st4.2.1 (fun _ z => z.elim), ?_⟩
        obtain ⟨b1, b2⟩ := na2
        obtain ⟨b3, b4⟩ := co3
        obtain ⟨b5, b6⟩ := co4
        obtain ⟨b7, b8⟩ := sur1
        unfold gx_cx
        omega
end Y7
/-! THE CLASS, 17: the data of an instance. -/
section Y8
variable {E : Nat → Value} {d x d0 dp : Nat} {h : gm_H} {ca : Nat → Nat} {K : gs_K} {F G : Nat → Prop} {s : gs_S} {rc : gs_M Int32}
/-- the instance o at t: of class c, as long as its slots -/
def gx_in (h : gm_H) (x : Nat) (K : gs_K) (s : gs_S) (o t c : Nat) : Prop := gm_fv h (x + 3) o = .ref t ∧ ∃ ob, (gs_hp s)[o]? = some ob ∧ ob.2.1 = some c ∧ ob.2.2.1.length = gs_slots K (some c)
theorem gx_in.mv {h1 : gm_H} {s1 : gs_S} {o t c : Nat} {G1 : Nat → Prop} (p : gx_in h x K s o t c) (R : gx_R E h x ca K F s) (R1 : gx_R E h1 x ca K F s1) (mv : gx_mv h h1 x G1 s) (le : gx_le s s1) (h1G : ¬ G1 t ∧ ¬ G1 (t + 1)) (hcs : (gs_cls K c).isSome = true) : gx_in h1 x K s1 o t c := by
  obtain ⟨p1, ob, p2, p3, p4⟩ := p
  have ho := (List.getElem?_eq_some_iff.mp p2).1
  have ho1 : o < (gs_hp s1).length := Nat.lt_of_lt_of_le ho le.1
  have f1 : gm_fv h1 (x + 3) o = .ref t := (mv.2.2.2.1 o ho).trans p1
  obtain ⟨t', e, o1, o2, q⟩ := R.thing p2
  rw [p1] at e
  cases e
  obtain ⟨-, -, q1⟩ := R1.hand ho1 f1
  have r0 : gm_rd h1 t = gm_rd h t := mv.1.2 t ⟨o1.1, o1.2.1, h1G.1⟩
  have r1 : gm_rd h1 (t + 1) = gm_rd h (t + 1) := mv.1.2 _ ⟨o2.1, o2.2.1, h1G.2⟩
  refine ⟨f1, _, List.getElem?_eq_getElem ho1, ?_, ?_⟩
  · have e1 := q1.2.2.1
    rw [gv_fv r0, q.2.2.1, p3] at e1
    cases hw : (gs_hp s1)[o].2.1 with
    | none => rw [hw] at e1; cases e1
    | some c' =>
      rw [hw] at e1
      have e1 : Value.ref (ca c) = .ref (ca c') := e1
      injection e1 with e1
      obtain ⟨C, hC⟩ := Option.isSome_iff_exists.mp hcs
      obtain ⟨C', hC'⟩ := Option.isSome_iff_exists.mp (R1.2.2.2.2.2.2.1 o _ c' (List.getElem?_eq_getElem ho1) hw)
      rw [R1.2.2.1.inj hC hC' e1]
  · have e1 := q1.2.2.2.2.2.2.2.1
    rw [gv_ln r1, q.2.2.2.2.2.2.2.1, p4] at e1
    exact e1.symm
theorem gm_k_ow {u : Option Nat} : gm_k (gx_ow ca u) = gx_ow ca u := by cases u <;> rfl
theorem gs_inch_slots {c c' : Nat} {Cc : gs_C} (hw : gs_wf K) : ∀ (m : Nat) (u : Option Nat), (∀ q, u = some q → q < m ∧ (gs_cls K q).isSome = true) → gs_inch K (some c) u = true → gs_cls K c = some Cc → gs_first K Cc + (gs_fs Cc).length ≤ gs_slots K u
  | _, none, _, h, _ => by cases h
  | 0, some q, hu, _, _ => absurd (hu q rfl).1 (by omega)
  | m + 1, some q, hu, h, hC => by
    obtain ⟨h1, h2⟩ := hu q rfl
    obtain ⟨Q, hQ⟩ := Option.isSome_iff_exists.mp h2
    rw [gs_inch_cons hw hQ] at h
    rw [gs_slots_cons hw hQ]
    by_cases e : q = c
    · subst e
      rw [hQ] at hC
      cases hC
      omega
    · have e2 : (some q == some c) = false := by simp [e]
      rw [e2, Bool.false_or] at h
      have := gs_inch_slots (c' := c') hw m (gs_sup Q) (fun r hr => ⟨by have := ((hw q Q hQ).2 r hr).1; omega, ((hw q Q hQ).2 r hr).2⟩) h hC
      unfold gs_first at this ⊢
      omega
theorem gs_sloti_of {Cc : gs_C} {q : Int32 × Int32} {tg : Option Nat} (e : tg.bind (gs_cls K) = some Cc) (hn : (gs_fs Cc).length ≤ 4) (hf : gs_first K Cc ≤ 24) : (gs_slot K tg q = none ∧ gs_sloti K Cc q.1 q.2 = -1) ∨ ∃ j, gs_slot K tg q = some j ∧ gs_sloti K Cc q.1 q.2 = nI j ∧ j < gs_first K Cc + (gs_fs Cc).length := by
  unfold gs_slot gs_sloti
  rw [e]
  dsimp only
  cases e2 : gs_ix (gs_fs Cc) q.1 with
  | none => exact Or.inl ⟨rfl, rfl⟩
  | some j =>
    have := gs_ix_lt e2
    dsimp only
    by_cases ht : ((gs_fs Cc).getD j (0, 0)).2 = q.2
    · rw [if_pos ht, if_pos ht]
      exact Or.inr ⟨_, rfl, rfl, by omega⟩
    · rw [if_neg ht, if_neg ht]
      exact Or.inl ⟨rfl, rfl⟩
theorem x_readData {o t c a : Nat} {Cc : gs_C} {l : gs_L} {L : List gs_L} (C : gx_RC E x ca K d0 (dp + 1) rc) (hK : gs_kok K) (hdp : dp < 1000) (hd : d0 + 2 ≤ d) (hd6 : 6 ≤ d) (R : gx_R E h x ca K F s) (hF : ∀ a, F a → a < h.1) (I : gx_in h x K s o t c) (hC : gs_cls K c = some Cc) (ds : gx_ds h x ca K F (l :: L) (.ref a)) (hG : G t ∧ G (t + 1)) (hGa : ∀ b, G b → b = t ∨ b = t + 1) :
    gm_Ca E d 92 [.ref x, .ref a, .ref t, .int (nI dp)] h (gx_P E h x ca K F G s (fun _ h' v => v = none ∧ ∀ s', gs_data K rc (some c) o l s = .ok ((), s') → gx_in h' x K s' o t c) (gs_data K rc (some c) o l s)) := by
  have hcs : (gs_cls K c).isSome = true := by rw [hC]; rfl
  have hw := R.2.2.1.wf
  have I' := I
  obtain ⟨i1, ob, i2, i3, i4⟩ := I'
  obtain ⟨t', et, ok1, ok2, q⟩ := R.thing i2
  rw [i1] at et
  cases et
  obtain ⟨q1, q2, q3, q4, q5, q6, q7, q8, q9, q10⟩ := q
  rw [i3] at q3
  have q3 : gm_fv h t 1 = .ref (ca c) := q3
  have ds' := ds
  obtain ⟨a', u, w, ea, o1, o2, o3, d1, d2, d3, d4, d5, d6, d7, d8, d9, d10, d11, d12, d13, d14, d15, d16, d17, d18, d19⟩ := ds'
  cases ea
  obtain ⟨-, -, -, kc, -⟩ := R.2.2.1.at hC
  have hns : ∀ b, (b = a ∨ b = u ∨ b = w) → ¬ (b = t ∨ b = t + 1) := by
    intro b hb z
    rcases hb with rfl | rfl | rfl <;> rcases z with rfl | rfl <;> omega
  show gm_W E d 92 0 [.ref x, .ref a, .ref t, .int (nI dp), gm_u, gm_u, gm_u, gm_u, gm_u, gm_u] [] h _
  simp only [r92_0, r92_0n, r92_1, r92_4, r92_4n, r92_5, r92_11, r92_14, r92_14n, r92_15, r92_18, r92_21, r92_22, r92_22n, r92_24, r92_25, r92_27, r92_29, r92_29n, r92_30, r92_33, r92_36, r92_36n, r92_37, r92_40, r92_42, r92_43, r92_45, r92_47, r92_49, r92_52, r92_52n, r92_53, r92_58, r92_61, r92_61n, r92_62, r92_63, r92_64, r92_68, r92_69, r92_71, r92_71n, r92_73n, r92_73, r92_76, r92_77, r92_80, r92_80n, r92_82, r92_82n, r92_83, r92_86, r92_88, r92_89, r92_94, r92_96, r92_98, r92_101, r92_103, r92_105, r92_108, r92_108n, r92_109, r92_111, r92_115, r92_118, r92_118n, r92_119, r92_124, r92_124a, r92_124n, r92_125, r92_125n, r92_126, r92_129, r92_131, r92_133, r92_134, r92_137, r92_140, r92_140n, r92_141, r92_145, r92_148, r92_148n, r92_150n, r92_150, r92_153, r92_153n, r92_155, r92_158, r92_159, r92_162, r92_162n, r92_163, r92_163n, r92_167, r92_167n, r92_168, r92_172, i32_10, reduceIte, gm_cmp1, gm_cmp3, gm_cmp4, gm_kd_sf, gm_ln_sf, gm_sf_1, gm_sf_2, gm_nw_1, gm_nw_2, gm_k_int, gm_k_ref, gm_k_null, gm_k_u, gm_k_long, and_true, true_and, true_or, or_true, or_false, false_or, and_self, or_self, if_true, if_false, List.map_nil, List.map_cons, List.sum_nil, List.sum_cons, Nat.zero_le, Option.toList_some, Option.toList_none, List.cons_append, List.nil_append, ne_eq, not_false_eq_true, not_true_eq_false, nI_1, nI_add, Value.category, Nat.reduceAdd, Nat.reduceMod, Nat.reduceLeDiff, Nat.reduceLT, Nat.reduceEqDiff, Nat.reducePow, Nat.le_refl, Nat.add_left_cancel_iff, Nat.add_eq_left, Nat.left_eq_add, Nat.add_zero, q1, q3, d1, d10]
  have eno : (gm_en1 [.ref (ca c), gx_ow ca (gs_own l)]).length ≤ 3 := by
    cases gs_own l <;> simp [gx_ow, gm_en1]
  refine c92_8 (by simp) eno kc (by omega) (x_chainHas R.2.2.1 hC (fun c' e => (d17 c' e).2)) (gx_kn ?_) gx_kx
  obtain ⟨res, hres⟩ : ∃ res, res = gs_data K rc (some c) o l s := ⟨_, rfl⟩
  rw [← hres]
  unfold gs_data at hres
  obtain ⟨tg, htg⟩ : ∃ tg, tg = (if gs_inch K (gs_own l) (some c) = true then gs_own l else none) := ⟨_, rfl⟩
  rw [← htg] at hres
  -- the target: a class of the chain, or none
  have htgs : tg = none ∨ ∃ c' C', tg = some c' ∧ gs_cls K c' = some C' ∧ gs_first K C' + (gs_fs C').length ≤ gs_slots K (some c) := by
    by_cases hi : gs_inch K (gs_own l) (some c) = true
    · rw [if_pos hi] at htg
      cases how : gs_own l with
      | none => rw [how] at htg; exact Or.inl htg
      | some c' =>
        rw [how] at htg hi
        obtain ⟨C', hC'⟩ := Option.isSome_iff_exists.mp (d17 c' how).2
        exact Or.inr ⟨c', C', htg, hC', gs_inch_slots (c' := c') hw 6 (some c) (fun q e => by cases e; exact ⟨(hw c Cc hC).1, hcs⟩) hi hC'⟩
    · rw [if_neg hi] at htg; exact Or.inl htg
  have main : gm_W E d 92 27 [.ref x, .ref a, .ref t, .int (nI dp), gx_ow ca tg, .int (nI 0), gm_u, gm_u, gm_u, gm_u] [] h (gx_P E h x ca K F G s (fun _ h' v => v = none ∧ ∀ s', res = .ok ((), s') → gx_in h' x K s' o t c) res) := by
    have hG1 : ∀ b, (fun _ : Nat => False) b → h.1 ≤ b ∨ G b := fun _ z => z.elim
    -- behind the fields
    have last : ∀ (sk : gs_S) (hk : gm_H) (w5 w6 w7 w8 w9 : Value), gx_R E hk x ca K F sk → (∀ a, F a → a < hk.1) → gx_in hk x K sk o t c → gx_ds hk x ca K F (l :: L) (.ref a) → gx_st h s x G hk sk → res = (if gs_fl l &&& 1 = 0 then gs_r () else gs_b (if (tg.bind (gs_cls K)).any (fun C => gs_kind C == 2) = true then gs_extra K o else gs_r ()) fun _ => gs_rest K rc 701) sk →
        gm_W E d 92 140 [.ref x, .ref a, .ref t, .int (nI dp), gx_ow ca tg, w5, w6, w7, w8, w9] [] hk (gx_P E h x ca K F G s (fun _ h' v => v = none ∧ ∀ s', res = .ok ((), s') → gx_in h' x K s' o t c) res) := by
      intro sk hk w5 w6 w7 w8 w9 Rk hFk Ik dk stk hr
      obtain ⟨a', _, _, ea, -, -, -, k1, -, -, -, f3, -⟩ := dk
      cases ea
      simp only [r92_0, r92_0n, r92_1, r92_4, r92_4n, r92_5, r92_11, r92_14, r92_14n, r92_15, r92_18, r92_21, r92_22, r92_22n, r92_24, r92_25, r92_27, r92_29, r92_29n, r92_30, r92_33, r92_36, r92_36n, r92_37, r92_40, r92_42, r92_43, r92_45, r92_47, r92_49, r92_52, r92_52n, r92_53, r92_58, r92_61, r92_61n, r92_62, r92_63, r92_64, r92_68, r92_69, r92_71, r92_71n, r92_73n, r92_73, r92_76, r92_77, r92_80, r92_80n, r92_82, r92_82n, r92_83, r92_86, r92_88, r92_89, r92_94, r92_96, r92_98, r92_101, r92_103, r92_105, r92_108, r92_108n, r92_109, r92_111, r92_115, r92_118, r92_118n, r92_119, r92_124, r92_124a, r92_124n, r92_125, r92_125n, r92_126, r92_129, r92_131, r92_133, r92_134, r92_137, r92_140, r92_140n, r92_141, r92_145, r92_148, r92_148n, r92_150n, r92_150, r92_153, r92_153n, r92_155, r92_158, r92_159, r92_162, r92_162n, r92_163, r92_163n, r92_167, r92_167n, r92_168, r92_172, i32_10, reduceIte, gm_cmp1, gm_cmp3, gm_cmp4, gm_kd_sf, gm_ln_sf, gm_sf_1, gm_sf_2, gm_nw_1, gm_nw_2, gm_k_int, gm_k_ref, gm_k_null, gm_k_u, gm_k_long, and_true, true_and, true_or, or_true, or_false, false_or, and_self, or_self, if_true, if_false, List.map_nil, List.map_cons, List.sum_nil, List.sum_cons, Nat.zero_le, Option.toList_some, Option.toList_none, List.cons_append, List.nil_append, ne_eq, not_false_eq_true, not_true_eq_false, nI_1, nI_add, Value.category, Nat.reduceAdd, Nat.reduceMod, Nat.reduceLeDiff, Nat.reduceLT, Nat.reduceEqDiff, Nat.reducePow, Nat.le_refl, Nat.add_left_cancel_iff, Nat.add_eq_left, Nat.left_eq_add, Nat.add_zero]
      refine c92_142 (by simp) k1 (by omega) (x_has k1 f3) (gx_kn ?_) gx_kx
      by_cases g1 : gs_fl l &&& 1 = 0
      · rw [if_pos g1] at hr
        simp only [r92_0, r92_0n, r92_1, r92_4, r92_4n, r92_5, r92_11, r92_14, r92_14n, r92_15, r92_18, r92_21, r92_22, r92_22n, r92_24, r92_25, r92_27, r92_29, r92_29n, r92_30, r92_33, r92_36, r92_36n, r92_37, r92_40, r92_42, r92_43, r92_45, r92_47, r92_49, r92_52, r92_52n, r92_53, r92_58, r92_61, r92_61n, r92_62, r92_63, r92_64, r92_68, r92_69, r92_71, r92_71n, r92_73n, r92_73, r92_76, r92_77, r92_80, r92_80n, r92_82, r92_82n, r92_83, r92_86, r92_88, r92_89, r92_94, r92_96, r92_98, r92_101, r92_103, r92_105, r92_108, r92_108n, r92_109, r92_111, r92_115, r92_118, r92_118n, r92_119, r92_124, r92_124a, r92_124n, r92_125, r92_125n, r92_126, r92_129, r92_131, r92_133, r92_134, r92_137, r92_140, r92_140n, r92_141, r92_145, r92_148, r92_148n, r92_150n, r92_150, r92_153, r92_153n, r92_155, r92_158, r92_159, r92_162, r92_162n, r92_163, r92_163n, r92_167, r92_167n, r92_168, r92_172, i32_10, reduceIte, gm_cmp1, gm_cmp3, gm_cmp4, gm_kd_sf, gm_ln_sf, gm_sf_1, gm_sf_2, gm_nw_1, gm_nw_2, gm_k_int, gm_k_ref, gm_k_null, gm_k_u, gm_k_long, and_true, true_and, true_or, or_true, or_false, false_or, and_self, or_self, if_true, if_false, List.map_nil, List.map_cons, List.sum_nil, List.sum_cons, Nat.zero_le, Option.toList_some, Option.toList_none, List.cons_append, List.nil_append, ne_eq, not_false_eq_true, not_true_eq_false, nI_1, nI_add, Value.category, Nat.reduceAdd, Nat.reduceMod, Nat.reduceLeDiff, Nat.reduceLT, Nat.reduceEqDiff, Nat.reducePow, Nat.le_refl, Nat.add_left_cancel_iff, Nat.add_eq_left, Nat.left_eq_add, Nat.add_zero, g1]
        rw [hr]
        exact ⟨(), sk, rfl, ⟨rfl, fun s' e => by cases e; exact Ik⟩, Rk, stk.1, stk.2.1, stk.2.2⟩
      rw [if_neg g1] at hr
      have rest : ∀ (s2 : gs_S) (h2 : gm_H), gx_R E h2 x ca K F s2 → (∀ a, F a → a < h2.1) → gx_in h2 x K s2 o t c → gx_st h s x G h2 s2 → res = gs_rest K rc 701 s2 → gm_W E d 92 167 [.ref x, .ref a, .ref t, .int (nI dp), gx_ow ca tg, w5, w6, w7, w8, w9] [] h2 (gx_P E h x ca K F G s (fun _ h' v => v = none ∧ ∀ s', res = .ok ((), s') → gx_in h' x K s' o t c) res) := by
        intro s2 h2 R2 hF2 I2 st2 hr2
        simp only [r92_0, r92_0n, r92_1, r92_4, r92_4n, r92_5, r92_11, r92_14, r92_14n, r92_15, r92_18, r92_21, r92_22, r92_22n, r92_24, r92_25, r92_27, r92_29, r92_29n, r92_30, r92_33, r92_36, r92_36n, r92_37, r92_40, r92_42, r92_43, r92_45, r92_47, r92_49, r92_52, r92_52n, r92_53, r92_58, r92_61, r92_61n, r92_62, r92_63, r92_64, r92_68, r92_69, r92_71, r92_71n, r92_73n, r92_73, r92_76, r92_77, r92_80, r92_80n, r92_82, r92_82n, r92_83, r92_86, r92_88, r92_89, r92_94, r92_96, r92_98, r92_101, r92_103, r92_105, r92_108, r92_108n, r92_109, r92_111, r92_115, r92_118, r92_118n, r92_119, r92_124, r92_124a, r92_124n, r92_125, r92_125n, r92_126, r92_129, r92_131, r92_133, r92_134, r92_137, r92_140, r92_140n, r92_141, r92_145, r92_148, r92_148n, r92_150n, r92_150, r92_153, r92_153n, r92_155, r92_158, r92_159, r92_162, r92_162n, r92_163, r92_163n, r92_167, r92_167n, r92_168, r92_172, i32_10, reduceIte, gm_cmp1, gm_cmp3, gm_cmp4, gm_kd_sf, gm_ln_sf, gm_sf_1, gm_sf_2, gm_nw_1, gm_nw_2, gm_k_int, gm_k_ref, gm_k_null, gm_k_u, gm_k_long, and_true, true_and, true_or, or_true, or_false, false_or, and_self, or_self, if_true, if_false, List.map_nil, List.map_cons, List.sum_nil, List.sum_cons, Nat.zero_le, Option.toList_some, Option.toList_none, List.cons_append, List.nil_append, ne_eq, not_false_eq_true, not_true_eq_false, nI_1, nI_add, Value.category, Nat.reduceAdd, Nat.reduceMod, Nat.reduceLeDiff, Nat.reduceLT, Nat.reduceEqDiff, Nat.reducePow, Nat.le_refl, Nat.add_left_cancel_iff, Nat.add_eq_left, Nat.left_eq_add, Nat.add_zero]
        refine c92_169 (by simp) R2.1.1 (by omega) (x_passRest (G := fun _ => False) C hK.1 hdp (by omega) (by omega) R2 hF2) (fun v h3 q => ?_) (fun _ _ q => q.er (fun f e => by rw [hr2]; exact e) st2 hG1)
        obtain ⟨_, s3, e3, rfl, R3, mv3, le3, co3⟩ := q
        have st3 := st2.trans mv3 le3 co3 hG1
        simp only [r92_0, r92_0n, r92_1, r92_4, r92_4n, r92_5, r92_11, r92_14, r92_14n, r92_15, r92_18, r92_21, r92_22, r92_22n, r92_24, r92_25, r92_27, r92_29, r92_29n, r92_30, r92_33, r92_36, r92_36n, r92_37, r92_40, r92_42, r92_43, r92_45, r92_47, r92_49, r92_52, r92_52n, r92_53, r92_58, r92_61, r92_61n, r92_62, r92_63, r92_64, r92_68, r92_69, r92_71, r92_71n, r92_73n, r92_73, r92_76, r92_77, r92_80, r92_80n, r92_82, r92_82n, r92_83, r92_86, r92_88, r92_89, r92_94, r92_96, r92_98, r92_101, r92_103, r92_105, r92_108, r92_108n, r92_109, r92_111, r92_115, r92_118, r92_118n, r92_119, r92_124, r92_124a, r92_124n, r92_125, r92_125n, r92_126, r92_129, r92_131, r92_133, r92_134, r92_137, r92_140, r92_140n, r92_141, r92_145, r92_148, r92_148n, r92_150n, r92_150, r92_153, r92_153n, r92_155, r92_158, r92_159, r92_162, r92_162n, r92_163, r92_163n, r92_167, r92_167n, r92_168, r92_172, i32_10, reduceIte, gm_cmp1, gm_cmp3, gm_cmp4, gm_kd_sf, gm_ln_sf, gm_sf_1, gm_sf_2, gm_nw_1, gm_nw_2, gm_k_int, gm_k_ref, gm_k_null, gm_k_u, gm_k_long, and_true, true_and, true_or, or_true, or_false, false_or, and_self, or_self, if_true, if_false, List.map_nil, List.map_cons, List.sum_nil, List.sum_cons, Nat.zero_le, Option.toList_some, Option.toList_none, List.cons_append, List.nil_append, ne_eq, not_false_eq_true, not_true_eq_false, nI_1, nI_add, Value.category, Nat.reduceAdd, Nat.reduceMod, Nat.reduceLeDiff, Nat.reduceLT, Nat.reduceEqDiff, Nat.reducePow, Nat.le_refl, Nat.add_left_cancel_iff, Nat.add_eq_left, Nat.left_eq_add, Nat.add_zero]
        rw [hr2]
        exact ⟨(), s3, e3, ⟨rfl, fun s' e => by rw [e3] at e; cases e; exact I2.mv R2 R3 mv3 le3 ⟨fun z => z, fun z => z⟩ hcs⟩, R3, st3.1, st3.2.1, st3.2.2⟩
      rcases htgs with e0 | ⟨c', C', e0, hC', hle⟩
      · have rst := rest sk hk Rk hFk Ik stk (by rw [hr, e0]; rfl)
        rw [e0] at rst ⊢
        simp only [r92_0, r92_0n, r92_1, r92_4, r92_4n, r92_5, r92_11, r92_14, r92_14n, r92_15, r92_18, r92_21, r92_22, r92_22n, r92_24, r92_25, r92_27, r92_29, r92_29n, r92_30, r92_33, r92_36, r92_36n, r92_37, r92_40, r92_42, r92_43, r92_45, r92_47, r92_49, r92_52, r92_52n, r92_53, r92_58, r92_61, r92_61n, r92_62, r92_63, r92_64, r92_68, r92_69, r92_71, r92_71n, r92_73n, r92_73, r92_76, r92_77, r92_80, r92_80n, r92_82, r92_82n, r92_83, r92_86, r92_88, r92_89, r92_94, r92_96, r92_98, r92_101, r92_103, r92_105, r92_108, r92_108n, r92_109, r92_111, r92_115, r92_118, r92_118n, r92_119, r92_124, r92_124a, r92_124n, r92_125, r92_125n, r92_126, r92_129, r92_131, r92_133, r92_134, r92_137, r92_140, r92_140n, r92_141, r92_145, r92_148, r92_148n, r92_150n, r92_150, r92_153, r92_153n, r92_155, r92_158, r92_159, r92_162, r92_162n, r92_163, r92_163n, r92_168, r92_172, i32_10, reduceIte, gm_cmp1, gm_cmp3, gm_cmp4, gm_kd_sf, gm_ln_sf, gm_sf_1, gm_sf_2, gm_nw_1, gm_nw_2, gm_k_int, gm_k_ref, gm_k_null, gm_k_u, gm_k_long, and_true, true_and, true_or, or_true, or_false, false_or, and_self, or_self, if_true, if_false, List.map_nil, List.map_cons, List.sum_nil, List.sum_cons, Nat.zero_le, Option.toList_some, Option.toList_none, List.cons_append, List.nil_append, ne_eq, not_false_eq_true, not_true_eq_false, nI_1, nI_add, Value.category, Nat.reduceAdd, Nat.reduceMod, Nat.reduceLeDiff, Nat.reduceLT, Nat.reduceEqDiff, Nat.reducePow, Nat.le_refl, Nat.add_left_cancel_iff, Nat.add_eq_left, Nat.left_eq_add, Nat.add_zero, g1, gx_ow] at rst ⊢
        exact rst
      · obtain ⟨-, -, -, kc', -, fk', -⟩ := Rk.2.2.1.at hC'
        by_cases k2 : gs_kind C' = 2
        · have hr' : res = gs_b (gs_extra K o) (fun _ => gs_rest K rc 701) sk := by
            rw [hr, e0]
            simp [hC', k2]
          have Ik' := Ik
          obtain ⟨j1, obk, j2, j3, j4⟩ := Ik'
          rw [e0]
          have rest' := rest
          rw [e0] at rest'
          simp only [r92_0, r92_0n, r92_1, r92_4, r92_4n, r92_5, r92_11, r92_14, r92_14n, r92_15, r92_18, r92_21, r92_22, r92_22n, r92_24, r92_25, r92_27, r92_29, r92_29n, r92_30, r92_33, r92_36, r92_36n, r92_37, r92_40, r92_42, r92_43, r92_45, r92_47, r92_49, r92_52, r92_52n, r92_53, r92_58, r92_61, r92_61n, r92_62, r92_63, r92_64, r92_68, r92_69, r92_71, r92_71n, r92_73n, r92_73, r92_76, r92_77, r92_80, r92_80n, r92_82, r92_82n, r92_83, r92_86, r92_88, r92_89, r92_94, r92_96, r92_98, r92_101, r92_103, r92_105, r92_108, r92_108n, r92_109, r92_111, r92_115, r92_118, r92_118n, r92_119, r92_124, r92_124a, r92_124n, r92_125, r92_125n, r92_126, r92_129, r92_131, r92_133, r92_134, r92_137, r92_140, r92_140n, r92_141, r92_145, r92_148, r92_148n, r92_150n, r92_150, r92_153, r92_153n, r92_155, r92_158, r92_159, r92_162, r92_162n, r92_163, r92_163n, r92_168, r92_172, i32_10, reduceIte, gm_cmp1, gm_cmp3, gm_cmp4, gm_kd_sf, gm_ln_sf, gm_sf_1, gm_sf_2, gm_nw_1, gm_nw_2, gm_k_int, gm_k_ref, gm_k_null, gm_k_u, gm_k_long, and_true, true_and, true_or, or_true, or_false, false_or, and_self, or_self, if_true, if_false, List.map_nil, List.map_cons, List.sum_nil, List.sum_cons, Nat.zero_le, Option.toList_some, Option.toList_none, List.cons_append, List.nil_append, ne_eq, not_false_eq_true, not_true_eq_false, nI_1, nI_add, Value.category, Nat.reduceAdd, Nat.reduceMod, Nat.reduceLeDiff, Nat.reduceLT, Nat.reduceEqDiff, Nat.reducePow, Nat.le_refl, Nat.add_left_cancel_iff, Nat.add_eq_left, Nat.left_eq_add, Nat.add_zero, g1, gx_ow, kc', fk', k2] at rest' ⊢
          refine c92_164 (by simp) (by simp [gm_en1]) Rk.1.1 (by omega) (x_takeExtra (G := G) (by omega) Rk j2 j1 hG.1) (fun v h2 q => ?_) (fun _ _ q => q.er (fun f e => by rw [hr']; exact gs_b_er e) stk (fun _ z => Or.inr z))
          obtain ⟨_, s2, e2, ⟨rfl, na2⟩, R2, mv2, le2, co2⟩ := q
          rw [gs_b_ok e2] at hr'
          have I2 : gx_in h2 x K s2 o t c := by
            refine ⟨(mv2.2.2.2.1 o (List.getElem?_eq_some_iff.mp j2).1).trans j1, ?_⟩
            unfold gs_extra at e2
            split at e2
            · cases e2; exact ⟨obk, j2, j3, j4⟩
            · split at e2
              · cases e2; exact ⟨obk, j2, j3, j4⟩
              · split at e2
                · cases e2; exact ⟨obk, j2, j3, j4⟩
                · cases e2
                  refine ⟨_, by rw [gs_hp]; simp only [List.getElem?_modify, j2]; rfl, ?_, ?_⟩
                  · simp [j3]
                  · simp [j4]
          exact rest' s2 h2 R2 (fun b z => by have := hFk b z; have := mv2.1.1; omega) I2 (stk.trans mv2 le2 co2 (fun _ z => Or.inr z)) hr'
        · have rst := rest sk hk Rk hFk Ik stk (by rw [hr, e0]; simp [hC', k2]; rfl)
          rw [e0] at rst ⊢
          simp only [r92_0, r92_0n, r92_1, r92_4, r92_4n, r92_5, r92_11, r92_14, r92_14n, r92_15, r92_18, r92_21, r92_22, r92_22n, r92_24, r92_25, r92_27, r92_29, r92_29n, r92_30, r92_33, r92_36, r92_36n, r92_37, r92_40, r92_42, r92_43, r92_45, r92_47, r92_49, r92_52, r92_52n, r92_53, r92_58, r92_61, r92_61n, r92_62, r92_63, r92_64, r92_68, r92_69, r92_71, r92_71n, r92_73n, r92_73, r92_76, r92_77, r92_80, r92_80n, r92_82, r92_82n, r92_83, r92_86, r92_88, r92_89, r92_94, r92_96, r92_98, r92_101, r92_103, r92_105, r92_108, r92_108n, r92_109, r92_111, r92_115, r92_118, r92_118n, r92_119, r92_124, r92_124a, r92_124n, r92_125, r92_125n, r92_126, r92_129, r92_131, r92_133, r92_134, r92_137, r92_140, r92_140n, r92_141, r92_145, r92_148, r92_148n, r92_150n, r92_150, r92_153, r92_153n, r92_155, r92_158, r92_159, r92_162, r92_162n, r92_163, r92_163n, r92_168, r92_172, i32_10, reduceIte, gm_cmp1, gm_cmp3, gm_cmp4, gm_kd_sf, gm_ln_sf, gm_sf_1, gm_sf_2, gm_nw_1, gm_nw_2, gm_k_int, gm_k_ref, gm_k_null, gm_k_u, gm_k_long, and_true, true_and, true_or, or_true, or_false, false_or, and_self, or_self, if_true, if_false, List.map_nil, List.map_cons, List.sum_nil, List.sum_cons, Nat.zero_le, Option.toList_some, Option.toList_none, List.cons_append, List.nil_append, ne_eq, not_false_eq_true, not_true_eq_false, nI_1, nI_add, Value.category, Nat.reduceAdd, Nat.reduceMod, Nat.reduceLeDiff, Nat.reduceLT, Nat.reduceEqDiff, Nat.reducePow, Nat.le_refl, Nat.add_left_cancel_iff, Nat.add_eq_left, Nat.left_eq_add, Nat.add_zero, g1, gx_ow, kc', fk', k2] at rst ⊢
          exact rst
    obtain ⟨RST, hRST⟩ : ∃ RST : gs_M Unit, RST = (if gs_fl l &&& 1 = 0 then gs_r () else gs_b (if (tg.bind (gs_cls K)).any (fun C => gs_kind C == 2) = true then gs_extra K o else gs_r ()) fun _ => gs_rest K rc 701) := ⟨_, rfl⟩
    rw [← hRST] at last
    rw [← hRST] at hres
    have loop : ∀ (m k : Nat) (sk : gs_S) (hk : gm_H) (w6 w7 w8 w9 : Value), k + m = (gs_df l).length → gx_R E hk x ca K F sk → (∀ a, F a → a < hk.1) → gx_in hk x K sk o t c → gx_ds hk x ca K F (l :: L) (.ref a) → gx_st h s x G hk sk → res = gs_b (gs_vals K rc tg o ((gs_df l).drop k)) (fun _ => RST) sk →
        gm_W E d 92 27 [.ref x, .ref a, .ref t, .int (nI dp), gx_ow ca tg, .int (nI k), w6, w7, w8, w9] [] hk (gx_P E h x ca K F G s (fun _ h' v => v = none ∧ ∀ s', res = .ok ((), s') → gx_in h' x K s' o t c) res) := by
      intro m
      induction m with
      | zero =>
        intro k sk hk w6 w7 w8 w9 hkm Rk hFk Ik dk stk hr
        have hkm : k = (gs_df l).length := by omega
        subst hkm
        have la := last sk hk (.int (nI (gs_df l).length)) w6 w7 w8 w9 Rk hFk Ik dk stk (by rw [hr, List.drop_length]; rfl)
        obtain ⟨a', _, _, ea, -, -, -, k1, -, -, -, -, f4, -, -, -, -, -, -, -, -, l8, -⟩ := dk
        cases ea
        simp only [r92_0, r92_0n, r92_1, r92_4, r92_4n, r92_5, r92_11, r92_14, r92_14n, r92_15, r92_18, r92_21, r92_22, r92_22n, r92_24, r92_25, r92_27, r92_29, r92_29n, r92_30, r92_33, r92_36, r92_36n, r92_37, r92_40, r92_42, r92_43, r92_45, r92_47, r92_49, r92_52, r92_52n, r92_53, r92_58, r92_61, r92_61n, r92_62, r92_63, r92_64, r92_68, r92_69, r92_71, r92_71n, r92_73n, r92_73, r92_76, r92_77, r92_80, r92_80n, r92_82, r92_82n, r92_83, r92_86, r92_88, r92_89, r92_94, r92_96, r92_98, r92_101, r92_103, r92_105, r92_108, r92_108n, r92_109, r92_111, r92_115, r92_118, r92_118n, r92_119, r92_124, r92_124a, r92_124n, r92_125, r92_125n, r92_126, r92_129, r92_131, r92_133, r92_134, r92_137, r92_141, r92_145, r92_148, r92_148n, r92_150n, r92_150, r92_153, r92_153n, r92_155, r92_158, r92_159, r92_162, r92_162n, r92_163, r92_163n, r92_167, r92_167n, r92_168, r92_172, i32_10, reduceIte, gm_cmp1, gm_cmp3, gm_cmp4, gm_kd_sf, gm_ln_sf, gm_sf_1, gm_sf_2, gm_nw_1, gm_nw_2, gm_k_int, gm_k_ref, gm_k_null, gm_k_u, gm_k_long, and_true, true_and, true_or, or_true, or_false, false_or, and_self, or_self, if_true, if_false, List.map_nil, List.map_cons, List.sum_nil, List.sum_cons, Nat.zero_le, Option.toList_some, Option.toList_none, List.cons_append, List.nil_append, ne_eq, not_false_eq_true, not_true_eq_false, nI_1, nI_add, Value.category, Nat.reduceAdd, Nat.reduceMod, Nat.reduceLeDiff, Nat.reduceLT, Nat.reduceEqDiff, Nat.reducePow, Nat.le_refl, Nat.add_left_cancel_iff, Nat.add_eq_left, Nat.left_eq_add, Nat.add_zero, k1, f4, nI_leT (Nat.le_refl (gs_df l).length) (show (gs_df l).length < 2 ^ 31 by omega)]
        exact la
      | succ m ih =>
        intro k sk hk w6 w7 w8 w9 hkm Rk hFk Ik dk stk hr
        have hkl : k < (gs_df l).length := by omega
        have dk' := dk
        obtain ⟨a', uk, wk, ea, p1, p2, p3, k1, f0, f1, f2, f3, f4, f5, f6, f8, f9, ku, lu, kw, lw, l8, nfl, own, ent, abv⟩ := dk'
        cases ea
        obtain ⟨n1, n2, n3, n4⟩ := ent k _ (List.getElem?_eq_getElem hkl)
        obtain ⟨q, hq⟩ : ∃ q, q = (gs_df l)[k] := ⟨_, rfl⟩
        rw [← hq] at n1 n2 n3 n4
        obtain ⟨i, hi, e2⟩ := nI_of (Int32.not_lt.mpr n3)
        have hi8 : i < 8 := by rw [e2] at n4; exact (nI_ltI (b := 8) hi (by decide)).mp n4
        have hl31 : (gs_df l).length < 2147483648 := by omega
        have hdrop : (gs_df l).drop k = q :: (gs_df l).drop (k + 1) := by rw [hq]; exact List.drop_eq_getElem_cons hkl
        rw [hdrop] at hr
        -- behind the value
        have tail : ∀ (v : Int64) (s1 : gs_S) (h1 : gm_H) (w7 w8 w9 : Value), gx_R E h1 x ca K F s1 → (∀ a, F a → a < h1.1) → gx_in h1 x K s1 o t c → gx_ds h1 x ca K F (l :: L) (.ref a) → gx_st h s x G h1 s1 → res = gs_b (gs_b (gs_wrt K tg o q v) (fun _ => gs_vals K rc tg o ((gs_df l).drop (k + 1)))) (fun _ => RST) s1 →
            gm_W E d 92 69 [.ref x, .ref a, .ref t, .int (nI dp), gx_ow ca tg, .int (nI k), .int (nI i), w7, w8, w9] [.long v] h1 (gx_P E h x ca K F G s (fun _ h' v => v = none ∧ ∀ s', res = .ok ((), s') → gx_in h' x K s' o t c) res) := by
          intro v s1 h1 w7 w8 w9 R1 hF1 I1 ds1 st1 hr1
          have nx : ∀ (s2 : gs_S) (h2 : gm_H) (w9 : Value), gx_R E h2 x ca K F s2 → (∀ a, F a → a < h2.1) → gx_in h2 x K s2 o t c → gx_ds h2 x ca K F (l :: L) (.ref a) → gx_st h s x G h2 s2 → gs_wrt K tg o q v s1 = .ok ((), s2) → gm_W E d 92 134 [.ref x, .ref a, .ref t, .int (nI dp), gx_ow ca tg, .int (nI k), .int (nI i), .long v, gm_u, w9] [] h2 (gx_P E h x ca K F G s (fun _ h' v => v = none ∧ ∀ s', res = .ok ((), s') → gx_in h' x K s' o t c) res) := by
            intro s2 h2 w9 R2 hF2 I2 ds2 st2 e
            simp only [r92_0, r92_0n, r92_1, r92_4, r92_4n, r92_5, r92_11, r92_14, r92_14n, r92_15, r92_18, r92_21, r92_22, r92_22n, r92_24, r92_25, r92_29, r92_29n, r92_30, r92_33, r92_36, r92_36n, r92_37, r92_40, r92_42, r92_43, r92_45, r92_47, r92_49, r92_52, r92_52n, r92_53, r92_58, r92_61, r92_61n, r92_62, r92_63, r92_64, r92_68, r92_69, r92_71, r92_71n, r92_73n, r92_73, r92_76, r92_77, r92_80, r92_80n, r92_82, r92_82n, r92_83, r92_86, r92_88, r92_89, r92_94, r92_96, r92_98, r92_101, r92_103, r92_105, r92_108, r92_108n, r92_109, r92_111, r92_115, r92_118, r92_118n, r92_119, r92_124, r92_124a, r92_124n, r92_125, r92_125n, r92_126, r92_129, r92_131, r92_133, r92_134, r92_137, r92_140, r92_140n, r92_141, r92_145, r92_148, r92_148n, r92_150n, r92_150, r92_153, r92_153n, r92_155, r92_158, r92_159, r92_162, r92_162n, r92_163, r92_163n, r92_167, r92_167n, r92_168, r92_172, i32_10, reduceIte, gm_cmp1, gm_cmp3, gm_cmp4, gm_kd_sf, gm_ln_sf, gm_sf_1, gm_sf_2, gm_nw_1, gm_nw_2, gm_k_int, gm_k_ref, gm_k_null, gm_k_u, gm_k_long, and_true, true_and, true_or, or_true, or_false, false_or, and_self, or_self, if_true, if_false, List.map_nil, List.map_cons, List.sum_nil, List.sum_cons, Nat.zero_le, Option.toList_some, Option.toList_none, List.cons_append, List.nil_append, ne_eq, not_false_eq_true, not_true_eq_false, nI_1, nI_add, Value.category, Nat.reduceAdd, Nat.reduceMod, Nat.reduceLeDiff, Nat.reduceLT, Nat.reduceEqDiff, Nat.reducePow, Nat.le_refl, Nat.add_left_cancel_iff, Nat.add_eq_left, Nat.left_eq_add, Nat.add_zero, gm_k_ow]
            refine ih (k + 1) s2 h2 _ _ _ _ (by omega) R2 hF2 I2 ds2 st2 ?_
            rw [hr1]
            exact gs_b_cg (gs_b_ok e)
          rcases htgs with e0 | ⟨c', C', e0, hC', hle⟩
          · have ew : gs_wrt K tg o q v s1 = .ok ((), s1) := by
              unfold gs_wrt gs_slot
              rw [e0]
              rfl
            have nx' := nx s1 h1 (.int (-1)) R1 hF1 I1 ds1 st1 ew
            rw [e0] at nx' ⊢
            have m1 : (-1 : Int32) < 0 := by decide
            simp only [r92_0, r92_0n, r92_1, r92_4, r92_4n, r92_5, r92_11, r92_14, r92_14n, r92_15, r92_18, r92_21, r92_22, r92_22n, r92_24, r92_25, r92_27, r92_29, r92_29n, r92_30, r92_33, r92_36, r92_36n, r92_37, r92_40, r92_42, r92_43, r92_45, r92_47, r92_49, r92_52, r92_52n, r92_53, r92_58, r92_61, r92_61n, r92_62, r92_63, r92_64, r92_68, r92_69, r92_71, r92_71n, r92_73n, r92_73, r92_76, r92_77, r92_80, r92_80n, r92_82, r92_82n, r92_83, r92_86, r92_88, r92_89, r92_94, r92_96, r92_98, r92_101, r92_103, r92_105, r92_108, r92_108n, r92_109, r92_111, r92_115, r92_118, r92_118n, r92_119, r92_124, r92_124a, r92_124n, r92_125, r92_125n, r92_126, r92_129, r92_131, r92_133, r92_137, r92_140, r92_140n, r92_141, r92_145, r92_148, r92_148n, r92_150n, r92_150, r92_153, r92_153n, r92_155, r92_158, r92_159, r92_162, r92_162n, r92_163, r92_163n, r92_167, r92_167n, r92_168, r92_172, i32_10, reduceIte, gm_cmp1, gm_cmp3, gm_cmp4, gm_kd_sf, gm_ln_sf, gm_sf_1, gm_sf_2, gm_nw_1, gm_nw_2, gm_k_int, gm_k_ref, gm_k_null, gm_k_u, gm_k_long, and_true, true_and, true_or, or_true, or_false, false_or, and_self, or_self, if_true, if_false, List.map_nil, List.map_cons, List.sum_nil, List.sum_cons, Nat.zero_le, Option.toList_some, Option.toList_none, List.cons_append, List.nil_append, ne_eq, not_false_eq_true, not_true_eq_false, nI_1, nI_add, Value.category, Nat.reduceAdd, Nat.reduceMod, Nat.reduceLeDiff, Nat.reduceLT, Nat.reduceEqDiff, Nat.reducePow, Nat.le_refl, Nat.add_left_cancel_iff, Nat.add_eq_left, Nat.left_eq_add, Nat.add_zero, gx_ow, m1] at nx' ⊢
            exact nx'
          · have ds1' := ds1
            obtain ⟨a', u1, v1, ea, -, -, -, k11, -, -, -, -, -, f15, f16, -, -, ku1, lu1, -, -, -, -, -, ent1, -⟩ := ds1'
            cases ea
            obtain ⟨m1, -, -, -⟩ := ent1 k _ (List.getElem?_eq_getElem hkl)
            rw [← hq] at m1
            obtain ⟨-, -, -, kc', -⟩ := R1.2.2.1.at hC'
            have l4 := R1.2.2.1.le4 hC'
            have h24 : gs_slots K (some c) ≤ 24 := R1.2.2.1.slots
            rw [e0]
            rw [e0] at nx
            have eb : (some c').bind (gs_cls K) = some C' := hC'
            simp only [r92_0, r92_0n, r92_1, r92_4, r92_4n, r92_5, r92_11, r92_14, r92_14n, r92_15, r92_18, r92_21, r92_22, r92_22n, r92_24, r92_25, r92_27, r92_29, r92_29n, r92_30, r92_33, r92_36, r92_36n, r92_37, r92_40, r92_42, r92_43, r92_45, r92_47, r92_49, r92_52, r92_52n, r92_53, r92_58, r92_61, r92_61n, r92_62, r92_63, r92_64, r92_68, r92_69, r92_71, r92_71n, r92_73n, r92_73, r92_76, r92_77, r92_80, r92_80n, r92_82, r92_82n, r92_83, r92_86, r92_88, r92_89, r92_94, r92_96, r92_98, r92_101, r92_103, r92_105, r92_108, r92_108n, r92_109, r92_111, r92_115, r92_118, r92_118n, r92_119, r92_124, r92_124a, r92_124n, r92_125, r92_125n, r92_126, r92_129, r92_131, r92_133, r92_137, r92_140, r92_140n, r92_141, r92_145, r92_148, r92_148n, r92_150n, r92_150, r92_153, r92_153n, r92_155, r92_158, r92_159, r92_162, r92_162n, r92_163, r92_163n, r92_167, r92_167n, r92_168, r92_172, i32_10, reduceIte, gm_cmp1, gm_cmp3, gm_cmp4, gm_kd_sf, gm_ln_sf, gm_sf_1, gm_sf_2, gm_nw_1, gm_nw_2, gm_k_int, gm_k_ref, gm_k_null, gm_k_u, gm_k_long, and_true, true_and, true_or, or_true, or_false, false_or, and_self, or_self, if_true, if_false, List.map_nil, List.map_cons, List.sum_nil, List.sum_cons, Nat.zero_le, Option.toList_some, Option.toList_none, List.cons_append, List.nil_append, ne_eq, not_false_eq_true, not_true_eq_false, nI_1, nI_add, Value.category, Nat.reduceAdd, Nat.reduceMod, Nat.reduceLeDiff, Nat.reduceLT, Nat.reduceEqDiff, Nat.reducePow, Nat.le_refl, Nat.add_left_cancel_iff, Nat.add_eq_left, Nat.left_eq_add, Nat.add_zero, gx_ow, k11, f15, ku1, lu1, hkl, hl31, m1] at nx ⊢
            refine c92_91 (by simp) kc' (by omega) (x_slotOf (by omega) R1.2.2.1 hC') (gx_kn ?_) gx_kx
            rcases gs_sloti_of (q := q) eb l4 (by omega) with ⟨g1, g2⟩ | ⟨j, g1, g2, g3⟩
            · have ew : gs_wrt K tg o q v s1 = .ok ((), s1) := by
                unfold gs_wrt
                rw [e0, g1]
              rw [e0] at ew
              have m1 : (-1 : Int32) < 0 := by decide
              rw [e2] at g2
              simp only [r92_0, r92_0n, r92_1, r92_4, r92_4n, r92_5, r92_11, r92_14, r92_14n, r92_15, r92_18, r92_21, r92_22, r92_22n, r92_24, r92_25, r92_27, r92_29, r92_29n, r92_30, r92_33, r92_36, r92_36n, r92_37, r92_40, r92_42, r92_43, r92_45, r92_47, r92_49, r92_52, r92_52n, r92_53, r92_58, r92_61, r92_61n, r92_62, r92_63, r92_64, r92_68, r92_69, r92_71, r92_71n, r92_73n, r92_73, r92_76, r92_77, r92_80, r92_80n, r92_82, r92_82n, r92_83, r92_86, r92_88, r92_89, r92_94, r92_96, r92_98, r92_101, r92_103, r92_105, r92_108, r92_108n, r92_109, r92_111, r92_115, r92_118, r92_118n, r92_119, r92_124, r92_124a, r92_124n, r92_125, r92_125n, r92_126, r92_129, r92_131, r92_133, r92_137, r92_140, r92_140n, r92_141, r92_145, r92_148, r92_148n, r92_150n, r92_150, r92_153, r92_153n, r92_155, r92_158, r92_159, r92_162, r92_162n, r92_163, r92_163n, r92_167, r92_167n, r92_168, r92_172, i32_10, reduceIte, gm_cmp1, gm_cmp3, gm_cmp4, gm_kd_sf, gm_ln_sf, gm_sf_1, gm_sf_2, gm_nw_1, gm_nw_2, gm_k_int, gm_k_ref, gm_k_null, gm_k_u, gm_k_long, and_true, true_and, true_or, or_true, or_false, false_or, and_self, or_self, if_true, if_false, List.map_nil, List.map_cons, List.sum_nil, List.sum_cons, Nat.zero_le, Option.toList_some, Option.toList_none, List.cons_append, List.nil_append, ne_eq, not_false_eq_true, not_true_eq_false, nI_1, nI_add, Value.category, Nat.reduceAdd, Nat.reduceMod, Nat.reduceLeDiff, Nat.reduceLT, Nat.reduceEqDiff, Nat.reducePow, Nat.le_refl, Nat.add_left_cancel_iff, Nat.add_eq_left, Nat.left_eq_add, Nat.add_zero, g2, m1]
              exact nx s1 h1 _ R1 hF1 I1 ds1 st1 ew
            · have g1' : gs_slot K tg q = some j := by rw [e0]; exact g1
              rw [e2] at g2
              have hj : ¬ nI j < 0 := nI_pos (by omega)
              obtain ⟨i11, ob1, i12, i13, i14⟩ := I1
              obtain ⟨t', et, ok11, ok12, qq⟩ := R1.thing i12
              rw [i11] at et
              cases et
              obtain ⟨y1, y2, y3, y4, y5, y6, y7, y8, y9, y10⟩ := qq
              have hjl : j < gm_ln h1 (t + 1) := by rw [y8, i14]; omega
              have hjl2 : j < ob1.2.2.1.length := by rw [i14]; omega
              have hl31' : gm_ln h1 (t + 1) < 2147483648 := by rw [y8]; omega
              -- the value laid
              have lay : (¬ (q.2 = 6 ∧ v.toInt32 ≠ -2 ∧ gs_sort s1 v.toInt32 ≠ 2)) → gm_W E d 92 125 [.ref x, .ref a, .ref t, .int (nI dp), .ref (ca c'), .int (nI k), .int (nI i), .long v, gm_u, .int (nI j)] [] h1 (gx_P E h x ca K F G s (fun _ h' v => v = none ∧ ∀ s', res = .ok ((), s') → gx_in h' x K s' o t c) res) := by
                intro hno
                simp only [r92_0, r92_0n, r92_1, r92_4, r92_4n, r92_5, r92_11, r92_14, r92_14n, r92_15, r92_18, r92_21, r92_22, r92_22n, r92_24, r92_25, r92_27, r92_29, r92_29n, r92_30, r92_33, r92_36, r92_36n, r92_37, r92_40, r92_42, r92_43, r92_45, r92_47, r92_49, r92_52, r92_52n, r92_53, r92_58, r92_61, r92_61n, r92_62, r92_63, r92_64, r92_68, r92_69, r92_71, r92_71n, r92_73n, r92_73, r92_76, r92_77, r92_80, r92_80n, r92_82, r92_82n, r92_83, r92_86, r92_88, r92_89, r92_94, r92_96, r92_98, r92_101, r92_103, r92_105, r92_108, r92_108n, r92_109, r92_111, r92_115, r92_118, r92_118n, r92_119, r92_124, r92_124a, r92_124n, r92_125, r92_125n, r92_126, r92_129, r92_131, r92_133, r92_137, r92_140, r92_140n, r92_141, r92_145, r92_148, r92_148n, r92_150n, r92_150, r92_153, r92_153n, r92_155, r92_158, r92_159, r92_162, r92_162n, r92_163, r92_163n, r92_167, r92_167n, r92_168, r92_172, i32_10, reduceIte, gm_cmp1, gm_cmp3, gm_cmp4, gm_kd_sf, gm_ln_sf, gm_sf_1, gm_sf_2, gm_nw_1, gm_nw_2, gm_k_int, gm_k_ref, gm_k_null, gm_k_u, gm_k_long, and_true, true_and, true_or, or_true, or_false, false_or, and_self, or_self, if_true, if_false, List.map_nil, List.map_cons, List.sum_nil, List.sum_cons, Nat.zero_le, Option.toList_some, Option.toList_none, List.cons_append, List.nil_append, ne_eq, not_false_eq_true, not_true_eq_false, nI_1, nI_add, Value.category, Nat.reduceAdd, Nat.reduceMod, Nat.reduceLeDiff, Nat.reduceLT, Nat.reduceEqDiff, Nat.reducePow, Nat.le_refl, Nat.add_left_cancel_iff, Nat.add_eq_left, Nat.left_eq_add, Nat.add_zero, y1, y4, y7, hjl, hl31']
                have ew : gs_wrt K tg o q v s1 = .ok ((), (s1.1, (gs_hp s1).modify o (fun ob => (ob.1, ob.2.1, ob.2.2.1.set j v, ob.2.2.2)), s1.2.2)) := by
                  unfold gs_wrt
                  rw [g1']
                  dsimp only
                  rw [if_neg hno]
                  rfl
                rw [e0] at ew
                refine nx _ _ _ (R1.setv i12 i11 hjl2) (fun b z => by rw [gm_sf_1]; exact hF1 b z) ?_ ?_ (st1.md (Or.inr hG.2) ok12.1) ew
                · refine ⟨by rw [gm_fv_sfa (by have := ok12.1; omega)]; exact i11, _, by rw [gs_hp]; simp only [List.getElem?_modify, i12]; rfl, ?_, ?_⟩
                  · simp [i13]
                  · simp [i14]
                · exact gx_ds.md (t := t) ⟨gm_sf_1, fun b _ hb => gm_rd_sfn hb⟩ y1 y7 ds1
              simp only [r92_0, r92_0n, r92_1, r92_4, r92_4n, r92_5, r92_11, r92_14, r92_14n, r92_15, r92_18, r92_21, r92_22, r92_22n, r92_24, r92_25, r92_27, r92_29, r92_29n, r92_30, r92_33, r92_36, r92_36n, r92_37, r92_40, r92_42, r92_43, r92_45, r92_47, r92_49, r92_52, r92_52n, r92_53, r92_58, r92_61, r92_61n, r92_62, r92_63, r92_64, r92_68, r92_69, r92_71, r92_71n, r92_73n, r92_73, r92_76, r92_77, r92_80, r92_80n, r92_82, r92_82n, r92_83, r92_86, r92_88, r92_89, r92_94, r92_96, r92_98, r92_101, r92_103, r92_105, r92_108, r92_108n, r92_109, r92_111, r92_115, r92_118, r92_118n, r92_119, r92_124, r92_124a, r92_124n, r92_126, r92_129, r92_131, r92_133, r92_137, r92_140, r92_140n, r92_141, r92_145, r92_148, r92_148n, r92_150n, r92_150, r92_153, r92_153n, r92_155, r92_158, r92_159, r92_162, r92_162n, r92_163, r92_163n, r92_167, r92_167n, r92_168, r92_172, i32_10, reduceIte, gm_cmp1, gm_cmp3, gm_cmp4, gm_kd_sf, gm_ln_sf, gm_sf_1, gm_sf_2, gm_nw_1, gm_nw_2, gm_k_int, gm_k_ref, gm_k_null, gm_k_u, gm_k_long, and_true, true_and, true_or, or_true, or_false, false_or, and_self, or_self, if_true, if_false, List.map_nil, List.map_cons, List.sum_nil, List.sum_cons, Nat.zero_le, Option.toList_some, Option.toList_none, List.cons_append, List.nil_append, ne_eq, not_false_eq_true, not_true_eq_false, nI_1, nI_add, Value.category, Nat.reduceAdd, Nat.reduceMod, Nat.reduceLeDiff, Nat.reduceLT, Nat.reduceEqDiff, Nat.reducePow, Nat.le_refl, Nat.add_left_cancel_iff, Nat.add_eq_left, Nat.left_eq_add, Nat.add_zero, g2, hj]
              by_cases h6 : q.2 = 6
              · have i6 : nI i = 6 := by rw [← e2]; exact h6
                simp only [r92_0, r92_0n, r92_1, r92_4, r92_4n, r92_5, r92_11, r92_14, r92_14n, r92_15, r92_18, r92_21, r92_22, r92_22n, r92_24, r92_25, r92_27, r92_29, r92_29n, r92_30, r92_33, r92_36, r92_36n, r92_37, r92_40, r92_42, r92_43, r92_45, r92_47, r92_49, r92_52, r92_52n, r92_53, r92_58, r92_61, r92_61n, r92_62, r92_63, r92_64, r92_68, r92_69, r92_71, r92_71n, r92_73n, r92_73, r92_76, r92_77, r92_80, r92_80n, r92_82, r92_82n, r92_83, r92_86, r92_88, r92_89, r92_94, r92_96, r92_98, r92_101, r92_103, r92_105, r92_108, r92_108n, r92_109, r92_111, r92_115, r92_118, r92_118n, r92_119, r92_124, r92_124a, r92_124n, r92_126, r92_129, r92_131, r92_133, r92_137, r92_140, r92_140n, r92_141, r92_145, r92_148, r92_148n, r92_150n, r92_150, r92_153, r92_153n, r92_155, r92_158, r92_159, r92_162, r92_162n, r92_163, r92_163n, r92_167, r92_167n, r92_168, r92_172, i32_10, reduceIte, gm_cmp1, gm_cmp3, gm_cmp4, gm_kd_sf, gm_ln_sf, gm_sf_1, gm_sf_2, gm_nw_1, gm_nw_2, gm_k_int, gm_k_ref, gm_k_null, gm_k_u, gm_k_long, and_true, true_and, true_or, or_true, or_false, false_or, and_self, or_self, if_true, if_false, List.map_nil, List.map_cons, List.sum_nil, List.sum_cons, Nat.zero_le, Option.toList_some, Option.toList_none, List.cons_append, List.nil_append, ne_eq, not_false_eq_true, not_true_eq_false, nI_1, nI_add, Value.category, Nat.reduceAdd, Nat.reduceMod, Nat.reduceLeDiff, Nat.reduceLT, Nat.reduceEqDiff, Nat.reducePow, Nat.le_refl, Nat.add_left_cancel_iff, Nat.add_eq_left, Nat.left_eq_add, Nat.add_zero, i6] at lay ⊢
                refine c92_112 (by simp) R1.1.1 (by omega) (x_isIntsOrNull (by omega) R1) (gx_kn ?_) gx_kx
                by_cases hv : v.toInt32 = -2
                · simp only [r92_0, r92_0n, r92_1, r92_4, r92_4n, r92_5, r92_11, r92_14, r92_14n, r92_15, r92_18, r92_21, r92_22, r92_22n, r92_24, r92_25, r92_27, r92_29, r92_29n, r92_30, r92_33, r92_36, r92_36n, r92_37, r92_40, r92_42, r92_43, r92_45, r92_47, r92_49, r92_52, r92_52n, r92_53, r92_58, r92_61, r92_61n, r92_62, r92_63, r92_64, r92_68, r92_69, r92_71, r92_71n, r92_73n, r92_73, r92_76, r92_77, r92_80, r92_80n, r92_82, r92_82n, r92_83, r92_86, r92_88, r92_89, r92_94, r92_96, r92_98, r92_101, r92_103, r92_105, r92_108, r92_108n, r92_109, r92_111, r92_115, r92_118, r92_118n, r92_119, r92_124, r92_124a, r92_124n, r92_126, r92_129, r92_131, r92_133, r92_137, r92_140, r92_140n, r92_141, r92_145, r92_148, r92_148n, r92_150n, r92_150, r92_153, r92_153n, r92_155, r92_158, r92_159, r92_162, r92_162n, r92_163, r92_163n, r92_167, r92_167n, r92_168, r92_172, i32_10, reduceIte, gm_cmp1, gm_cmp3, gm_cmp4, gm_kd_sf, gm_ln_sf, gm_sf_1, gm_sf_2, gm_nw_1, gm_nw_2, gm_k_int, gm_k_ref, gm_k_null, gm_k_u, gm_k_long, and_true, true_and, true_or, or_true, or_false, false_or, and_self, or_self, if_true, if_false, List.map_nil, List.map_cons, List.sum_nil, List.sum_cons, Nat.zero_le, Option.toList_some, Option.toList_none, List.cons_append, List.nil_append, ne_eq, not_false_eq_true, not_true_eq_false, nI_1, nI_add, Value.category, Nat.reduceAdd, Nat.reduceMod, Nat.reduceLeDiff, Nat.reduceLT, Nat.reduceEqDiff, Nat.reducePow, Nat.le_refl, Nat.add_left_cancel_iff, Nat.add_eq_left, Nat.left_eq_add, Nat.add_zero, hv]
                  exact lay (fun z => z.2.1 hv)
                · by_cases hv2 : gs_sort s1 v.toInt32 = 2
                  · simp only [r92_0, r92_0n, r92_1, r92_4, r92_4n, r92_5, r92_11, r92_14, r92_14n, r92_15, r92_18, r92_21, r92_22, r92_22n, r92_24, r92_25, r92_27, r92_29, r92_29n, r92_30, r92_33, r92_36, r92_36n, r92_37, r92_40, r92_42, r92_43, r92_45, r92_47, r92_49, r92_52, r92_52n, r92_53, r92_58, r92_61, r92_61n, r92_62, r92_63, r92_64, r92_68, r92_69, r92_71, r92_71n, r92_73n, r92_73, r92_76, r92_77, r92_80, r92_80n, r92_82, r92_82n, r92_83, r92_86, r92_88, r92_89, r92_94, r92_96, r92_98, r92_101, r92_103, r92_105, r92_108, r92_108n, r92_109, r92_111, r92_115, r92_118, r92_118n, r92_119, r92_124, r92_124a, r92_124n, r92_126, r92_129, r92_131, r92_133, r92_137, r92_140, r92_140n, r92_141, r92_145, r92_148, r92_148n, r92_150n, r92_150, r92_153, r92_153n, r92_155, r92_158, r92_159, r92_162, r92_162n, r92_163, r92_163n, r92_167, r92_167n, r92_168, r92_172, i32_10, reduceIte, gm_cmp1, gm_cmp3, gm_cmp4, gm_kd_sf, gm_ln_sf, gm_sf_1, gm_sf_2, gm_nw_1, gm_nw_2, gm_k_int, gm_k_ref, gm_k_null, gm_k_u, gm_k_long, and_true, true_and, true_or, or_true, or_false, false_or, and_self, or_self, if_true, if_false, List.map_nil, List.map_cons, List.sum_nil, List.sum_cons, Nat.zero_le, Option.toList_some, Option.toList_none, List.cons_append, List.nil_append, ne_eq, not_false_eq_true, not_true_eq_false, nI_1, nI_add, Value.category, Nat.reduceAdd, Nat.reduceMod, Nat.reduceLeDiff, Nat.reduceLT, Nat.reduceEqDiff, Nat.reducePow, Nat.le_refl, Nat.add_left_cancel_iff, Nat.add_eq_left, Nat.left_eq_add, Nat.add_zero, hv, hv2]
                    exact lay (fun z => z.2.2 hv2)
                  · simp only [r92_0, r92_0n, r92_1, r92_4, r92_4n, r92_5, r92_11, r92_14, r92_14n, r92_15, r92_18, r92_21, r92_22, r92_22n, r92_24, r92_25, r92_27, r92_29, r92_29n, r92_30, r92_33, r92_36, r92_36n, r92_37, r92_40, r92_42, r92_43, r92_45, r92_47, r92_49, r92_52, r92_52n, r92_53, r92_58, r92_61, r92_61n, r92_62, r92_63, r92_64, r92_68, r92_69, r92_71, r92_71n, r92_73n, r92_73, r92_76, r92_77, r92_80, r92_80n, r92_82, r92_82n, r92_83, r92_86, r92_88, r92_89, r92_94, r92_96, r92_98, r92_101, r92_103, r92_105, r92_108, r92_108n, r92_109, r92_111, r92_115, r92_118, r92_118n, r92_119, r92_124, r92_124a, r92_124n, r92_126, r92_129, r92_131, r92_133, r92_137, r92_140, r92_140n, r92_141, r92_145, r92_148, r92_148n, r92_150n, r92_150, r92_153, r92_153n, r92_155, r92_158, r92_159, r92_162, r92_162n, r92_163, r92_163n, r92_167, r92_167n, r92_168, r92_172, i32_10, reduceIte, gm_cmp1, gm_cmp3, gm_cmp4, gm_kd_sf, gm_ln_sf, gm_sf_1, gm_sf_2, gm_nw_1, gm_nw_2, gm_k_int, gm_k_ref, gm_k_null, gm_k_u, gm_k_long, and_true, true_and, true_or, or_true, or_false, false_or, and_self, or_self, if_true, if_false, List.map_nil, List.map_cons, List.sum_nil, List.sum_cons, Nat.zero_le, Option.toList_some, Option.toList_none, List.cons_append, List.nil_append, ne_eq, not_false_eq_true, not_true_eq_false, nI_1, nI_add, Value.category, Nat.reduceAdd, Nat.reduceMod, Nat.reduceLeDiff, Nat.reduceLT, Nat.reduceEqDiff, Nat.reducePow, Nat.le_refl, Nat.add_left_cancel_iff, Nat.add_eq_left, Nat.left_eq_add, Nat.add_zero, hv, hv2]
                    refine c92_121 (by simp) R1.1.1 (by omega) (x_fail (G := G) (α := Unit) (val := fun _ _ _ => True) R1) gx_fn (fun _ _ q => q.er (fun f e => ?_) st1 (fun _ z => Or.inr z))
                    cases e
                    rw [hr1]
                    refine gs_b_er (gs_b_er ?_)
                    unfold gs_wrt
                    rw [g1']
                    dsimp only
                    rw [if_pos ⟨h6, hv, hv2⟩]
              · have i6 : ¬ nI i = 6 := by rw [← e2]; exact h6
                simp only [r92_0, r92_0n, r92_1, r92_4, r92_4n, r92_5, r92_11, r92_14, r92_14n, r92_15, r92_18, r92_21, r92_22, r92_22n, r92_24, r92_25, r92_27, r92_29, r92_29n, r92_30, r92_33, r92_36, r92_36n, r92_37, r92_40, r92_42, r92_43, r92_45, r92_47, r92_49, r92_52, r92_52n, r92_53, r92_58, r92_61, r92_61n, r92_62, r92_63, r92_64, r92_68, r92_69, r92_71, r92_71n, r92_73n, r92_73, r92_76, r92_77, r92_80, r92_80n, r92_82, r92_82n, r92_83, r92_86, r92_88, r92_89, r92_94, r92_96, r92_98, r92_101, r92_103, r92_105, r92_108, r92_108n, r92_109, r92_111, r92_115, r92_118, r92_118n, r92_119, r92_124, r92_124a, r92_124n, r92_126, r92_129, r92_131, r92_133, r92_137, r92_140, r92_140n, r92_141, r92_145, r92_148, r92_148n, r92_150n, r92_150, r92_153, r92_153n, r92_155, r92_158, r92_159, r92_162, r92_162n, r92_163, r92_163n, r92_167, r92_167n, r92_168, r92_172, i32_10, reduceIte, gm_cmp1, gm_cmp3, gm_cmp4, gm_kd_sf, gm_ln_sf, gm_sf_1, gm_sf_2, gm_nw_1, gm_nw_2, gm_k_int, gm_k_ref, gm_k_null, gm_k_u, gm_k_long, and_true, true_and, true_or, or_true, or_false, false_or, and_self, or_self, if_true, if_false, List.map_nil, List.map_cons, List.sum_nil, List.sum_cons, Nat.zero_le, Option.toList_some, Option.toList_none, List.cons_append, List.nil_append, ne_eq, not_false_eq_true, not_true_eq_false, nI_1, nI_add, Value.category, Nat.reduceAdd, Nat.reduceMod, Nat.reduceLeDiff, Nat.reduceLT, Nat.reduceEqDiff, Nat.reducePow, Nat.le_refl, Nat.add_left_cancel_iff, Nat.add_eq_left, Nat.left_eq_add, Nat.add_zero, i6] at lay ⊢
                exact lay (fun z => h6 z.1)
        -- the value itself
        have hGf : ∀ b, (fun _ : Nat => False) b → b = b := fun _ _ => rfl
        rw [r92_27]
        have f6' : gm_fv hk wk k = .int (nI i) := by rw [← e2]; exact n2
        by_cases h6 : i < 6
        · have i6 : ¬ (6 : Int32) ≤ nI i := nI_ge (b := 6) (a := i) h6 (by decide)
          have q6 : q.2 < 6 := by rw [e2]; exact nI_lt (b := 6) h6 (by decide)
          have hr' : res = gs_b (gs_b (gs_prim K q.2) (fun v => gs_b (gs_wrt K tg o q v) fun _ => gs_vals K rc tg o ((gs_df l).drop (k + 1)))) (fun _ => RST) sk := by
            rw [hr]
            show gs_b (gs_b (if q.2 < 6 then gs_prim K q.2 else _) _) _ sk = _
            rw [if_pos q6]
          simp only [r92_0, r92_0n, r92_1, r92_4, r92_4n, r92_5, r92_11, r92_14, r92_14n, r92_15, r92_18, r92_21, r92_22, r92_22n, r92_24, r92_25, r92_29, r92_29n, r92_30, r92_33, r92_36, r92_36n, r92_37, r92_40, r92_42, r92_43, r92_45, r92_47, r92_49, r92_52, r92_52n, r92_53, r92_58, r92_61, r92_61n, r92_62, r92_63, r92_64, r92_68, r92_71, r92_71n, r92_73n, r92_73, r92_76, r92_77, r92_80, r92_80n, r92_82, r92_82n, r92_83, r92_86, r92_88, r92_89, r92_94, r92_96, r92_98, r92_101, r92_103, r92_105, r92_108, r92_108n, r92_109, r92_111, r92_115, r92_118, r92_118n, r92_119, r92_124, r92_124a, r92_124n, r92_125, r92_125n, r92_126, r92_129, r92_131, r92_133, r92_134, r92_137, r92_140, r92_140n, r92_141, r92_145, r92_148, r92_148n, r92_150n, r92_150, r92_153, r92_153n, r92_155, r92_158, r92_159, r92_162, r92_162n, r92_163, r92_163n, r92_167, r92_167n, r92_168, r92_172, i32_10, reduceIte, gm_cmp1, gm_cmp3, gm_cmp4, gm_kd_sf, gm_ln_sf, gm_sf_1, gm_sf_2, gm_nw_1, gm_nw_2, gm_k_int, gm_k_ref, gm_k_null, gm_k_u, gm_k_long, and_true, true_and, true_or, or_true, or_false, false_or, and_self, or_self, if_true, if_false, List.map_nil, List.map_cons, List.sum_nil, List.sum_cons, Nat.zero_le, Option.toList_some, Option.toList_none, List.cons_append, List.nil_append, ne_eq, not_false_eq_true, not_true_eq_false, nI_1, nI_add, Value.category, Nat.reduceAdd, Nat.reduceMod, Nat.reduceLeDiff, Nat.reduceLT, Nat.reduceEqDiff, Nat.reducePow, Nat.le_refl, Nat.add_left_cancel_iff, Nat.add_eq_left, Nat.left_eq_add, Nat.add_zero, k1, f4, nI_leF hkl (show (gs_df l).length < 2 ^ 31 by omega), f6, kw, lw, hkl, hl31, f6', i6, gm_k_ow]
          refine c92_55 (by simp) Rk.1.1 (by omega) (x_nextPrimitive (G := fun _ => False) (by omega) h6 Rk) (fun v h1 q => ?_) (fun _ _ q => q.er (fun f e => by rw [hr', e2]; exact gs_b_er (gs_b_er e)) stk hG1)
          obtain ⟨v, s1, e1, ⟨rfl, na1⟩, R1, mv1, le1, co1⟩ := q
          simp only [r92_0, r92_0n, r92_1, r92_4, r92_4n, r92_5, r92_11, r92_14, r92_14n, r92_15, r92_18, r92_21, r92_22, r92_22n, r92_24, r92_25, r92_29, r92_29n, r92_30, r92_33, r92_36, r92_36n, r92_37, r92_40, r92_42, r92_43, r92_45, r92_47, r92_49, r92_52, r92_52n, r92_53, r92_58, r92_61, r92_61n, r92_62, r92_63, r92_64, r92_68, r92_71, r92_71n, r92_73n, r92_73, r92_76, r92_77, r92_80, r92_80n, r92_82, r92_82n, r92_83, r92_86, r92_88, r92_89, r92_94, r92_96, r92_98, r92_101, r92_103, r92_105, r92_108, r92_108n, r92_109, r92_111, r92_115, r92_118, r92_118n, r92_119, r92_124, r92_124a, r92_124n, r92_125, r92_125n, r92_126, r92_129, r92_131, r92_133, r92_134, r92_137, r92_140, r92_140n, r92_141, r92_145, r92_148, r92_148n, r92_150n, r92_150, r92_153, r92_153n, r92_155, r92_158, r92_159, r92_162, r92_162n, r92_163, r92_163n, r92_167, r92_167n, r92_168, r92_172, i32_10, reduceIte, gm_cmp1, gm_cmp3, gm_cmp4, gm_kd_sf, gm_ln_sf, gm_sf_1, gm_sf_2, gm_nw_1, gm_nw_2, gm_k_int, gm_k_ref, gm_k_null, gm_k_u, gm_k_long, and_true, true_and, true_or, or_true, or_false, false_or, and_self, or_self, if_true, if_false, List.map_nil, List.map_cons, List.sum_nil, List.sum_cons, Nat.zero_le, Option.toList_some, Option.toList_none, List.cons_append, List.nil_append, ne_eq, not_false_eq_true, not_true_eq_false, nI_1, nI_add, Value.category, Nat.reduceAdd, Nat.reduceMod, Nat.reduceLeDiff, Nat.reduceLT, Nat.reduceEqDiff, Nat.reducePow, Nat.le_refl, Nat.add_left_cancel_iff, Nat.add_eq_left, Nat.left_eq_add, Nat.add_zero]
          refine tail v s1 h1 _ _ _ R1 (fun b z => by have := hFk b z; have := mv1.1.1; omega) (Ik.mv Rk R1 mv1 le1 ⟨fun z => z, fun z => z⟩ hcs) (dk.tr (mv1.1.wk (fun _ z => z.elim))) (stk.trans mv1 le1 co1 hG1) ?_
          rw [hr', e2]
          exact gs_b_cg (gs_b_ok e1)
        · have i6 : (6 : Int32) ≤ nI i := nI_le (a := 6) (by omega) (by omega)
          have q6 : ¬ q.2 < 6 := by rw [e2]; exact nI_nlt (b := 6) (by omega) (by omega)
          have hr' : res = gs_b (gs_b (gs_b rc fun v => gs_r v.toInt64) (fun v => gs_b (gs_wrt K tg o q v) fun _ => gs_vals K rc tg o ((gs_df l).drop (k + 1)))) (fun _ => RST) sk := by
            rw [hr]
            show gs_b (gs_b (if q.2 < 6 then gs_prim K q.2 else _) _) _ sk = _
            rw [if_neg q6]
          simp only [r92_0, r92_0n, r92_1, r92_4, r92_4n, r92_5, r92_11, r92_14, r92_14n, r92_15, r92_18, r92_21, r92_22, r92_22n, r92_24, r92_25, r92_29, r92_29n, r92_30, r92_33, r92_36, r92_36n, r92_37, r92_40, r92_42, r92_43, r92_45, r92_47, r92_49, r92_52, r92_52n, r92_53, r92_58, r92_61, r92_61n, r92_62, r92_63, r92_64, r92_68, r92_71, r92_71n, r92_73n, r92_73, r92_76, r92_77, r92_80, r92_80n, r92_82, r92_82n, r92_83, r92_86, r92_88, r92_89, r92_94, r92_96, r92_98, r92_101, r92_103, r92_105, r92_108, r92_108n, r92_109, r92_111, r92_115, r92_118, r92_118n, r92_119, r92_124, r92_124a, r92_124n, r92_125, r92_125n, r92_126, r92_129, r92_131, r92_133, r92_134, r92_137, r92_140, r92_140n, r92_141, r92_145, r92_148, r92_148n, r92_150n, r92_150, r92_153, r92_153n, r92_155, r92_158, r92_159, r92_162, r92_162n, r92_163, r92_163n, r92_167, r92_167n, r92_168, r92_172, i32_10, reduceIte, gm_cmp1, gm_cmp3, gm_cmp4, gm_kd_sf, gm_ln_sf, gm_sf_1, gm_sf_2, gm_nw_1, gm_nw_2, gm_k_int, gm_k_ref, gm_k_null, gm_k_u, gm_k_long, and_true, true_and, true_or, or_true, or_false, false_or, and_self, or_self, if_true, if_false, List.map_nil, List.map_cons, List.sum_nil, List.sum_cons, Nat.zero_le, Option.toList_some, Option.toList_none, List.cons_append, List.nil_append, ne_eq, not_false_eq_true, not_true_eq_false, nI_1, nI_add, Value.category, Nat.reduceAdd, Nat.reduceMod, Nat.reduceLeDiff, Nat.reduceLT, Nat.reduceEqDiff, Nat.reducePow, Nat.le_refl, Nat.add_left_cancel_iff, Nat.add_eq_left, Nat.left_eq_add, Nat.add_zero, k1, f4, nI_leF hkl (show (gs_df l).length < 2 ^ 31 by omega), f6, kw, lw, hkl, hl31, f6', i6, gm_k_ow]
          refine c92_65 (by simp) Rk.1.1 (by omega) (C (d - 1) hk sk F (fun _ => False) (by omega) Rk hFk) (fun v h1 q => ?_) (fun _ _ q => q.er (fun f e => by rw [hr']; exact gs_b_er (gs_b_er (gs_b_er e))) stk hG1)
          obtain ⟨v, s1, e1, rfl, R1, mv1, le1, co1⟩ := q
          simp only [r92_0, r92_0n, r92_1, r92_4, r92_4n, r92_5, r92_11, r92_14, r92_14n, r92_15, r92_18, r92_21, r92_22, r92_22n, r92_24, r92_25, r92_29, r92_29n, r92_30, r92_33, r92_36, r92_36n, r92_37, r92_40, r92_42, r92_43, r92_45, r92_47, r92_49, r92_52, r92_52n, r92_53, r92_58, r92_61, r92_61n, r92_62, r92_63, r92_64, r92_68, r92_71, r92_71n, r92_73n, r92_73, r92_76, r92_77, r92_80, r92_80n, r92_82, r92_82n, r92_83, r92_86, r92_88, r92_89, r92_94, r92_96, r92_98, r92_101, r92_103, r92_105, r92_108, r92_108n, r92_109, r92_111, r92_115, r92_118, r92_118n, r92_119, r92_124, r92_124a, r92_124n, r92_125, r92_125n, r92_126, r92_129, r92_131, r92_133, r92_134, r92_137, r92_140, r92_140n, r92_141, r92_145, r92_148, r92_148n, r92_150n, r92_150, r92_153, r92_153n, r92_155, r92_158, r92_159, r92_162, r92_162n, r92_163, r92_163n, r92_167, r92_167n, r92_168, r92_172, i32_10, reduceIte, gm_cmp1, gm_cmp3, gm_cmp4, gm_kd_sf, gm_ln_sf, gm_sf_1, gm_sf_2, gm_nw_1, gm_nw_2, gm_k_int, gm_k_ref, gm_k_null, gm_k_u, gm_k_long, and_true, true_and, true_or, or_true, or_false, false_or, and_self, or_self, if_true, if_false, List.map_nil, List.map_cons, List.sum_nil, List.sum_cons, Nat.zero_le, Option.toList_some, Option.toList_none, List.cons_append, List.nil_append, ne_eq, not_false_eq_true, not_true_eq_false, nI_1, nI_add, Value.category, Nat.reduceAdd, Nat.reduceMod, Nat.reduceLeDiff, Nat.reduceLT, Nat.reduceEqDiff, Nat.reducePow, Nat.le_refl, Nat.add_left_cancel_iff, Nat.add_eq_left, Nat.left_eq_add, Nat.add_zero]
          refine tail v.toInt64 s1 h1 _ _ _ R1 (fun b z => by have := hFk b z; have := mv1.1.1; omega) (Ik.mv Rk R1 mv1 le1 ⟨fun z => z, fun z => z⟩ hcs) (dk.tr (mv1.1.wk (fun _ z => z.elim))) (stk.trans mv1 le1 co1 hG1) ?_
          rw [hr']
          have eb2 : gs_b rc (fun v => gs_r v.toInt64) sk = .ok (v.toInt64, s1) := by rw [gs_b_ok e1]; rfl
          exact gs_b_cg (gs_b_ok eb2)
    have e0 : (.int (nI 0) : Value) = .int 0 := rfl
    exact loop (gs_df l).length 0 s h gm_u gm_u gm_u gm_u (by omega) R hF I ds ⟨gx_mv.refl, gx_le.refl, gx_co.refl⟩ (by rw [hres, List.drop_zero])
  by_cases hi : gs_inch K (gs_own l) (some c) = true
  · rw [if_pos hi] at htg
    cases how : gs_own l with
    | none =>
      rw [how] at htg d10 hi
      have d10 : gm_fv h a 9 = .null := d10
      subst htg
      simp only [r92_0, r92_0n, r92_1, r92_4, r92_4n, r92_5, r92_11, r92_14, r92_14n, r92_15, r92_18, r92_21, r92_22, r92_22n, r92_24, r92_25, r92_29, r92_29n, r92_30, r92_33, r92_36, r92_36n, r92_37, r92_40, r92_42, r92_43, r92_45, r92_47, r92_49, r92_52, r92_52n, r92_53, r92_58, r92_61, r92_61n, r92_62, r92_63, r92_64, r92_68, r92_69, r92_71, r92_71n, r92_73n, r92_73, r92_76, r92_77, r92_80, r92_80n, r92_82, r92_82n, r92_83, r92_86, r92_88, r92_89, r92_94, r92_96, r92_98, r92_101, r92_103, r92_105, r92_108, r92_108n, r92_109, r92_111, r92_115, r92_118, r92_118n, r92_119, r92_124, r92_124a, r92_124n, r92_125, r92_125n, r92_126, r92_129, r92_131, r92_133, r92_134, r92_137, r92_140, r92_140n, r92_141, r92_145, r92_148, r92_148n, r92_150n, r92_150, r92_153, r92_153n, r92_155, r92_158, r92_159, r92_162, r92_162n, r92_163, r92_163n, r92_167, r92_167n, r92_168, r92_172, i32_10, reduceIte, gm_cmp1, gm_cmp3, gm_cmp4, gm_kd_sf, gm_ln_sf, gm_sf_1, gm_sf_2, gm_nw_1, gm_nw_2, gm_k_int, gm_k_ref, gm_k_null, gm_k_u, gm_k_long, and_true, true_and, true_or, or_true, or_false, false_or, and_self, or_self, if_true, if_false, List.map_nil, List.map_cons, List.sum_nil, List.sum_cons, Nat.zero_le, Option.toList_some, Option.toList_none, List.cons_append, List.nil_append, ne_eq, not_false_eq_true, not_true_eq_false, nI_1, nI_add, Value.category, Nat.reduceAdd, Nat.reduceMod, Nat.reduceLeDiff, Nat.reduceLT, Nat.reduceEqDiff, Nat.reducePow, Nat.le_refl, Nat.add_left_cancel_iff, Nat.add_eq_left, Nat.left_eq_add, Nat.add_zero, hi, d1, d10]
      exact main
    | some c' =>
      rw [how] at htg d10 hi
      have d10 : gm_fv h a 9 = .ref (ca c') := d10
      subst htg
      simp only [r92_0, r92_0n, r92_1, r92_4, r92_4n, r92_5, r92_11, r92_14, r92_14n, r92_15, r92_18, r92_21, r92_22, r92_22n, r92_24, r92_25, r92_29, r92_29n, r92_30, r92_33, r92_36, r92_36n, r92_37, r92_40, r92_42, r92_43, r92_45, r92_47, r92_49, r92_52, r92_52n, r92_53, r92_58, r92_61, r92_61n, r92_62, r92_63, r92_64, r92_68, r92_69, r92_71, r92_71n, r92_73n, r92_73, r92_76, r92_77, r92_80, r92_80n, r92_82, r92_82n, r92_83, r92_86, r92_88, r92_89, r92_94, r92_96, r92_98, r92_101, r92_103, r92_105, r92_108, r92_108n, r92_109, r92_111, r92_115, r92_118, r92_118n, r92_119, r92_124, r92_124a, r92_124n, r92_125, r92_125n, r92_126, r92_129, r92_131, r92_133, r92_134, r92_137, r92_140, r92_140n, r92_141, r92_145, r92_148, r92_148n, r92_150n, r92_150, r92_153, r92_153n, r92_155, r92_158, r92_159, r92_162, r92_162n, r92_163, r92_163n, r92_167, r92_167n, r92_168, r92_172, i32_10, reduceIte, gm_cmp1, gm_cmp3, gm_cmp4, gm_kd_sf, gm_ln_sf, gm_sf_1, gm_sf_2, gm_nw_1, gm_nw_2, gm_k_int, gm_k_ref, gm_k_null, gm_k_u, gm_k_long, and_true, true_and, true_or, or_true, or_false, false_or, and_self, or_self, if_true, if_false, List.map_nil, List.map_cons, List.sum_nil, List.sum_cons, Nat.zero_le, Option.toList_some, Option.toList_none, List.cons_append, List.nil_append, ne_eq, not_false_eq_true, not_true_eq_false, nI_1, nI_add, Value.category, Nat.reduceAdd, Nat.reduceMod, Nat.reduceLeDiff, Nat.reduceLT, Nat.reduceEqDiff, Nat.reducePow, Nat.le_refl, Nat.add_left_cancel_iff, Nat.add_eq_left, Nat.left_eq_add, Nat.add_zero, hi, d1, d10]
      exact main
  · rw [if_neg hi] at htg
    subst htg
    simp only [r92_0, r92_0n, r92_1, r92_4, r92_4n, r92_5, r92_11, r92_14, r92_14n, r92_15, r92_18, r92_21, r92_22, r92_22n, r92_24, r92_25, r92_29, r92_29n, r92_30, r92_33, r92_36, r92_36n, r92_37, r92_40, r92_42, r92_43, r92_45, r92_47, r92_49, r92_52, r92_52n, r92_53, r92_58, r92_61, r92_61n, r92_62, r92_63, r92_64, r92_68, r92_69, r92_71, r92_71n, r92_73n, r92_73, r92_76, r92_77, r92_80, r92_80n, r92_82, r92_82n, r92_83, r92_86, r92_88, r92_89, r92_94, r92_96, r92_98, r92_101, r92_103, r92_105, r92_108, r92_108n, r92_109, r92_111, r92_115, r92_118, r92_118n, r92_119, r92_124, r92_124a, r92_124n, r92_125, r92_125n, r92_126, r92_129, r92_131, r92_133, r92_134, r92_137, r92_140, r92_140n, r92_141, r92_145, r92_148, r92_148n, r92_150n, r92_150, r92_153, r92_153n, r92_155, r92_158, r92_159, r92_162, r92_162n, r92_163, r92_163n, r92_167, r92_167n, r92_168, r92_172, i32_10, reduceIte, gm_cmp1, gm_cmp3, gm_cmp4, gm_kd_sf, gm_ln_sf, gm_sf_1, gm_sf_2, gm_nw_1, gm_nw_2, gm_k_int, gm_k_ref, gm_k_null, gm_k_u, gm_k_long, and_true, true_and, true_or, or_true, or_false, false_or, and_self, or_self, if_true, if_false, List.map_nil, List.map_cons, List.sum_nil, List.sum_cons, Nat.zero_le, Option.toList_some, Option.toList_none, List.cons_append, List.nil_append, ne_eq, not_false_eq_true, not_true_eq_false, nI_1, nI_add, Value.category, Nat.reduceAdd, Nat.reduceMod, Nat.reduceLeDiff, Nat.reduceLT, Nat.reduceEqDiff, Nat.reducePow, Nat.le_refl, Nat.add_left_cancel_iff, Nat.add_eq_left, Nat.left_eq_add, Nat.add_zero, hi]
    exact main
end Y8
/-! THE CLASS, 18: instances. -/
section Z1
variable {E : Nat → Value} {d x d0 dp : Nat} {h : gm_H} {ca : Nat → Nat} {K : gs_K} {F G : Nat → Prop} {s : gs_S} {rc : gs_M Int32}
theorem nI_dn {m : Nat} : nI (m + 1) - 1 + (-1) = nI m - 1 := by
  have e : nI (m + 1) - 1 = nI m := nI_sub (b := 1) (by omega)
  rw [e, Int32.sub_eq_add_neg]
theorem x_readInstance (C : gx_RC E x ca K d0 (dp + 1) rc) (hK : gs_kok K) (hdp : dp < 1000) (hd : d0 + 16 ≤ d) (R : gx_R E h x ca K F s) (hF : ∀ a, F a → a < h.1) : gm_Ca E d 90 [.ref x, .int (nI dp)] h (gx_P E h x ca K F G s (fun a _ v => v = some (.int a)) (gs_inst K rc dp s)) := by
  obtain ⟨res, hres⟩ : ∃ res, res = gs_inst K rc dp s := ⟨_, rfl⟩
  rw [← hres]
  unfold gs_inst at hres
  show gm_W E d 90 0 [.ref x, .int (nI dp), gm_u, gm_u, gm_u, gm_u, gm_u, gm_u] [] h _
  simp only [r90_0, r90_0n, r90_1, r90_5, r90_5n, r90_6, r90_6n, r90_7, r90_7n, r90_8, r90_9, r90_13, r90_13n, r90_17, r90_20, r90_20n, r90_21, r90_26, r90_27, r90_27n, r90_28, r90_31, r90_31n, r90_32, r90_32n, r90_33n, r90_33, r90_36, r90_36n, r90_37, r90_42, r90_43, r90_43n, r90_44, r90_47, r90_50, r90_50n, r90_51, r90_54, r90_55, r90_58, r90_58n, r90_59, r90_64, r90_65, r90_68, r90_68i, r90_69, r90_70, r90_70n, r90_71, r90_71n, r90_78, r90_78n, r90_80, r90_80n, r90_81, r90_81n, r90_83, r90_89, r90_89n, r90_90, r90_90n, r90_95, r90_97, r90_97n, r90_98, r90_98n, r90_99, r90_102, r90_103, r90_106, r90_108, r90_111, r90_116, r90_118, r90_118n, r90_119, r90_122, r90_124, r90_126, r90_129, r90_129n, r90_130, r90_130n, r90_131, r90_136, r90_136n, r90_138, r90_142, r90_145, r90_148, r90_148n, r90_149, r90_152, r90_153, r90_156, r90_156n, r90_161, r90_164, r90_164n, r90_165, r90_170, r90_171, r90_171n, r90_172, r90_175, r90_178, r90_180, r90_182, r90_183, r90_185, i32_10, reduceIte, gm_cmp1, gm_cmp3, gm_cmp4, gm_kd_sf, gm_ln_sf, gm_sf_1, gm_sf_2, gm_nw_1, gm_nw_2, gm_k_int, gm_k_ref, gm_k_null, gm_k_u, gm_k_long, and_true, true_and, true_or, or_true, or_false, false_or, and_self, or_self, if_true, if_false, List.map_nil, List.map_cons, List.sum_nil, List.sum_cons, Nat.zero_le, Option.toList_some, Option.toList_none, List.cons_append, List.nil_append, ne_eq, not_false_eq_true, not_true_eq_false, nI_1, nI_add, Value.category, Nat.reduceAdd, Nat.reduceMod, Nat.reduceLeDiff, Nat.reduceLT, Nat.reduceEqDiff, Nat.reducePow, Nat.le_refl, Nat.add_left_cancel_iff, Nat.add_eq_left, Nat.left_eq_add, Nat.add_zero]
  refine c90_2 (by simp) R.1.1 (by omega) (x_readPresent (G := fun _ => False) C hK.1 hdp (by omega) R hF) (fun v h1 q => ?_) (fun _ _ q => q.er (s := s) (h := h) (fun f e => by rw [hres]; exact gs_have_er e) ⟨gx_mv.refl, gx_le.refl, gx_co.refl⟩ (fun _ z => z.elim))
  obtain ⟨⟨l, L⟩, s1, e1, ⟨⟨a, rfl, ds⟩, sur⟩, R1, mv1, le1, co1⟩ := q
  obtain ⟨sur1, hLn⟩ := sur s1 e1
  have hL234 : L.length + 1 ≤ 234 := by
    have h1 : gs_dn s1 ≤ (gs_hs s1).length := List.countP_le_length
    have h2 := R1.2.2.2.1.2.2.2.2.2.2.2.1
    have h3 : L.length + 1 ≤ gs_dn s1 := hLn
    omega
  rw [gs_have_ok e1] at hres
  have st1 : gx_st h s x G h1 s1 := ⟨mv1.wk (fun _ z => z.elim), le1, co1⟩
  have hF1 : ∀ a, F a → a < h1.1 := fun a z => by have := hF a z; have := mv1.1.1; omega
  simp only [r90_0, r90_0n, r90_1, r90_5, r90_5n, r90_6, r90_6n, r90_7, r90_7n, r90_8, r90_9, r90_13, r90_13n, r90_17, r90_20, r90_20n, r90_21, r90_26, r90_27, r90_27n, r90_28, r90_31, r90_31n, r90_32, r90_32n, r90_33n, r90_33, r90_36, r90_36n, r90_37, r90_42, r90_43, r90_43n, r90_44, r90_47, r90_50, r90_50n, r90_51, r90_54, r90_55, r90_58, r90_58n, r90_59, r90_64, r90_65, r90_68, r90_68i, r90_69, r90_70, r90_70n, r90_71, r90_71n, r90_78, r90_78n, r90_80, r90_80n, r90_81, r90_81n, r90_83, r90_89, r90_89n, r90_90, r90_90n, r90_95, r90_97, r90_97n, r90_98, r90_98n, r90_99, r90_102, r90_103, r90_106, r90_108, r90_111, r90_116, r90_118, r90_118n, r90_119, r90_122, r90_124, r90_126, r90_129, r90_129n, r90_130, r90_130n, r90_131, r90_136, r90_136n, r90_138, r90_142, r90_145, r90_148, r90_148n, r90_149, r90_152, r90_153, r90_156, r90_156n, r90_161, r90_164, r90_164n, r90_165, r90_170, r90_171, r90_171n, r90_172, r90_175, r90_178, r90_180, r90_182, r90_183, r90_185, i32_10, reduceIte, gm_cmp1, gm_cmp3, gm_cmp4, gm_kd_sf, gm_ln_sf, gm_sf_1, gm_sf_2, gm_nw_1, gm_nw_2, gm_k_int, gm_k_ref, gm_k_null, gm_k_u, gm_k_long, and_true, true_and, true_or, or_true, or_false, false_or, and_self, or_self, if_true, if_false, List.map_nil, List.map_cons, List.sum_nil, List.sum_cons, Nat.zero_le, Option.toList_some, Option.toList_none, List.cons_append, List.nil_append, ne_eq, not_false_eq_true, not_true_eq_false, nI_1, nI_add, Value.category, Nat.reduceAdd, Nat.reduceMod, Nat.reduceLeDiff, Nat.reduceLT, Nat.reduceEqDiff, Nat.reducePow, Nat.le_refl, Nat.add_left_cancel_iff, Nat.add_eq_left, Nat.left_eq_add, Nat.add_zero]
  refine c90_10 (by simp) (by simp [gm_en1]) R1.1.1 (by omega) (x_askLimits (G := fun _ => False) (by omega) hdp R1 ds) (fun v h2 q => ?_) (fun _ _ q => q.er (fun f e => by rw [hres]; exact gs_b_er e) st1 (fun _ z => z.elim))
  obtain ⟨_, s2, e2, ⟨rfl, na2⟩, R2, mv2, le2, co2⟩ := q
  rw [gs_b_ok e2] at hres
  have st2 := st1.trans mv2 le2 co2 (fun _ z => z.elim)
  have es2 : s2 = s1 := by
    unfold gs_lim at e2
    split at e2
    · cases e2
    · cases e2; rfl
  subst es2
  have ds2 : gx_ds h2 x ca K F (l :: L) (.ref a) := ds.tr (mv2.1.wk (fun _ z => z.elim))
  have ds2' := ds2
  obtain ⟨a', u, w, ea, o1, o2, o3, d1, d2, d3, d4, d5, d6, d7, d8, d9, d10, d11, d12, d13, d14, d15, d16, d17, d18, d19⟩ := ds2'
  cases ea
  have hF2 : ∀ a, F a → a < h2.1 := fun a z => by have := hF1 a z; have := mv2.1.1; omega
  have fl : ∀ (f : Int32) (pc1 : Nat), True := fun _ _ => trivial
  clear fl
  simp only [r90_0, r90_0n, r90_1, r90_5, r90_5n, r90_6, r90_6n, r90_7, r90_7n, r90_8, r90_9, r90_13, r90_13n, r90_17, r90_20, r90_20n, r90_21, r90_26, r90_27, r90_27n, r90_28, r90_31, r90_31n, r90_32, r90_32n, r90_33n, r90_33, r90_36, r90_36n, r90_37, r90_42, r90_43, r90_43n, r90_44, r90_47, r90_50, r90_50n, r90_51, r90_54, r90_55, r90_58, r90_58n, r90_59, r90_64, r90_65, r90_68, r90_68i, r90_69, r90_70, r90_70n, r90_71, r90_71n, r90_78, r90_78n, r90_80, r90_80n, r90_81, r90_81n, r90_83, r90_89, r90_89n, r90_90, r90_90n, r90_95, r90_97, r90_97n, r90_98, r90_98n, r90_99, r90_102, r90_103, r90_106, r90_108, r90_111, r90_116, r90_118, r90_118n, r90_119, r90_122, r90_124, r90_126, r90_129, r90_129n, r90_130, r90_130n, r90_131, r90_136, r90_136n, r90_138, r90_142, r90_145, r90_148, r90_148n, r90_149, r90_152, r90_153, r90_156, r90_156n, r90_161, r90_164, r90_164n, r90_165, r90_170, r90_171, r90_171n, r90_172, r90_175, r90_178, r90_180, r90_182, r90_183, r90_185, i32_10, reduceIte, gm_cmp1, gm_cmp3, gm_cmp4, gm_kd_sf, gm_ln_sf, gm_sf_1, gm_sf_2, gm_nw_1, gm_nw_2, gm_k_int, gm_k_ref, gm_k_null, gm_k_u, gm_k_long, and_true, true_and, true_or, or_true, or_false, false_or, and_self, or_self, if_true, if_false, List.map_nil, List.map_cons, List.sum_nil, List.sum_cons, Nat.zero_le, Option.toList_some, Option.toList_none, List.cons_append, List.nil_append, ne_eq, not_false_eq_true, not_true_eq_false, nI_1, nI_add, Value.category, Nat.reduceAdd, Nat.reduceMod, Nat.reduceLeDiff, Nat.reduceLT, Nat.reduceEqDiff, Nat.reducePow, Nat.le_refl, Nat.add_left_cancel_iff, Nat.add_eq_left, Nat.left_eq_add, Nat.add_zero]
  refine c90_14 (by simp) d1 (by omega) (x_isConstant (by omega) d1 d5) (gx_kn ?_) gx_kx
  have el : gs_fl (l, L).fst = gs_fl l := rfl
  rw [el]
  by_cases h16 : gs_fl l &&& 16 ≠ 0
  · have h16 : ¬ gs_fl l &&& 16 = 0 := h16
    rw [if_pos h16] at hres
    simp only [r90_0, r90_0n, r90_1, r90_5, r90_5n, r90_6, r90_6n, r90_7, r90_7n, r90_8, r90_9, r90_13, r90_13n, r90_17, r90_20, r90_20n, r90_21, r90_26, r90_27, r90_27n, r90_28, r90_31, r90_31n, r90_32, r90_32n, r90_33n, r90_33, r90_36, r90_36n, r90_37, r90_42, r90_43, r90_43n, r90_44, r90_47, r90_50, r90_50n, r90_51, r90_54, r90_55, r90_58, r90_58n, r90_59, r90_64, r90_65, r90_68, r90_68i, r90_69, r90_70, r90_70n, r90_71, r90_71n, r90_78, r90_78n, r90_80, r90_80n, r90_81, r90_81n, r90_83, r90_89, r90_89n, r90_90, r90_90n, r90_95, r90_97, r90_97n, r90_98, r90_98n, r90_99, r90_102, r90_103, r90_106, r90_108, r90_111, r90_116, r90_118, r90_118n, r90_119, r90_122, r90_124, r90_126, r90_129, r90_129n, r90_130, r90_130n, r90_131, r90_136, r90_136n, r90_138, r90_142, r90_145, r90_148, r90_148n, r90_149, r90_152, r90_153, r90_156, r90_156n, r90_161, r90_164, r90_164n, r90_165, r90_170, r90_171, r90_171n, r90_172, r90_175, r90_178, r90_180, r90_182, r90_183, r90_185, i32_10, reduceIte, gm_cmp1, gm_cmp3, gm_cmp4, gm_kd_sf, gm_ln_sf, gm_sf_1, gm_sf_2, gm_nw_1, gm_nw_2, gm_k_int, gm_k_ref, gm_k_null, gm_k_u, gm_k_long, and_true, true_and, true_or, or_true, or_false, false_or, and_self, or_self, if_true, if_false, List.map_nil, List.map_cons, List.sum_nil, List.sum_cons, Nat.zero_le, Option.toList_some, Option.toList_none, List.cons_append, List.nil_append, ne_eq, not_false_eq_true, not_true_eq_false, nI_1, nI_add, Value.category, Nat.reduceAdd, Nat.reduceMod, Nat.reduceLeDiff, Nat.reduceLT, Nat.reduceEqDiff, Nat.reducePow, Nat.le_refl, Nat.add_left_cancel_iff, Nat.add_eq_left, Nat.left_eq_add, Nat.add_zero, h16]
    exact c90_23 (by simp) R2.1.1 (by omega) (x_fail (G := G) (α := Unit) (val := fun _ _ _ => True) R2) gx_fn (fun _ _ q => q.er (fun f e => by cases e; rw [hres]; rfl) st2 (fun _ z => Or.inr z))
  rw [if_neg h16] at hres
  have h16 : gs_fl l &&& 16 = 0 := Decidable.of_not_not h16
  cases how : gs_own l with
  | none =>
    rw [how] at hres
    have d10 : gm_fv h2 a 9 = .null := by rw [d10]; show gx_ow ca (gs_own l) = _; rw [how]; rfl
    simp only [r90_0, r90_0n, r90_1, r90_5, r90_5n, r90_6, r90_6n, r90_7, r90_7n, r90_8, r90_9, r90_13, r90_13n, r90_17, r90_20, r90_20n, r90_21, r90_26, r90_27, r90_27n, r90_28, r90_31, r90_31n, r90_32, r90_32n, r90_33n, r90_33, r90_36, r90_36n, r90_37, r90_42, r90_43, r90_43n, r90_44, r90_47, r90_50, r90_50n, r90_51, r90_54, r90_55, r90_58, r90_58n, r90_59, r90_64, r90_65, r90_68, r90_68i, r90_69, r90_70, r90_70n, r90_71, r90_71n, r90_78, r90_78n, r90_80, r90_80n, r90_81, r90_81n, r90_83, r90_89, r90_89n, r90_90, r90_90n, r90_95, r90_97, r90_97n, r90_98, r90_98n, r90_99, r90_102, r90_103, r90_106, r90_108, r90_111, r90_116, r90_118, r90_118n, r90_119, r90_122, r90_124, r90_126, r90_129, r90_129n, r90_130, r90_130n, r90_131, r90_136, r90_136n, r90_138, r90_142, r90_145, r90_148, r90_148n, r90_149, r90_152, r90_153, r90_156, r90_156n, r90_161, r90_164, r90_164n, r90_165, r90_170, r90_171, r90_171n, r90_172, r90_175, r90_178, r90_180, r90_182, r90_183, r90_185, i32_10, reduceIte, gm_cmp1, gm_cmp3, gm_cmp4, gm_kd_sf, gm_ln_sf, gm_sf_1, gm_sf_2, gm_nw_1, gm_nw_2, gm_k_int, gm_k_ref, gm_k_null, gm_k_u, gm_k_long, and_true, true_and, true_or, or_true, or_false, false_or, and_self, or_self, if_true, if_false, List.map_nil, List.map_cons, List.sum_nil, List.sum_cons, Nat.zero_le, Option.toList_some, Option.toList_none, List.cons_append, List.nil_append, ne_eq, not_false_eq_true, not_true_eq_false, nI_1, nI_add, Value.category, Nat.reduceAdd, Nat.reduceMod, Nat.reduceLeDiff, Nat.reduceLT, Nat.reduceEqDiff, Nat.reducePow, Nat.le_refl, Nat.add_left_cancel_iff, Nat.add_eq_left, Nat.left_eq_add, Nat.add_zero, h16, d1, d10]
    exact c90_39 (by simp) R2.1.1 (by omega) (x_fail (G := G) (α := Unit) (val := fun _ _ _ => True) R2) gx_fn (fun _ _ q => q.er (fun f e => by cases e; rw [hres]; rfl) st2 (fun _ z => Or.inr z))
  | some c =>
    rw [how] at hres
    have d10 : gm_fv h2 a 9 = .ref (ca c) := by rw [d10]; show gx_ow ca (gs_own l) = _; rw [how]; rfl
    obtain ⟨hc6, hcs⟩ := d17 c how
    obtain ⟨Cc, hC⟩ := Option.isSome_iff_exists.mp hcs
    dsimp only at hres
    rw [hC] at hres
    dsimp only at hres
    obtain ⟨-, -, -, kc, -, fk, -⟩ := R2.2.2.1.at hC
    by_cases hk03 : gs_kind Cc = 0 ∨ gs_kind Cc = 3
    · rw [if_pos hk03] at hres
      have bad : gm_W E d 90 58 [.ref x, .int (nI dp), .ref a, .ref (ca c), gm_u, gm_u, gm_u, gm_u] [] h2 (gx_P E h x ca K F G s (fun a _ v => v = some (.int a)) res) := by
        simp only [r90_0, r90_0n, r90_1, r90_5, r90_5n, r90_6, r90_6n, r90_7, r90_7n, r90_8, r90_9, r90_13, r90_13n, r90_17, r90_20, r90_20n, r90_21, r90_26, r90_27, r90_27n, r90_28, r90_31, r90_31n, r90_32, r90_32n, r90_33n, r90_33, r90_36, r90_36n, r90_37, r90_42, r90_43, r90_43n, r90_44, r90_47, r90_50, r90_50n, r90_51, r90_54, r90_55, r90_58, r90_58n, r90_59, r90_64, r90_65, r90_68, r90_68i, r90_69, r90_70, r90_70n, r90_71, r90_71n, r90_78, r90_78n, r90_80, r90_80n, r90_81, r90_81n, r90_83, r90_89, r90_89n, r90_90, r90_90n, r90_95, r90_97, r90_97n, r90_98, r90_98n, r90_99, r90_102, r90_103, r90_106, r90_108, r90_111, r90_116, r90_118, r90_118n, r90_119, r90_122, r90_124, r90_126, r90_129, r90_129n, r90_130, r90_130n, r90_131, r90_136, r90_136n, r90_138, r90_142, r90_145, r90_148, r90_148n, r90_149, r90_152, r90_153, r90_156, r90_156n, r90_161, r90_164, r90_164n, r90_165, r90_170, r90_171, r90_171n, r90_172, r90_175, r90_178, r90_180, r90_182, r90_183, r90_185, i32_10, reduceIte, gm_cmp1, gm_cmp3, gm_cmp4, gm_kd_sf, gm_ln_sf, gm_sf_1, gm_sf_2, gm_nw_1, gm_nw_2, gm_k_int, gm_k_ref, gm_k_null, gm_k_u, gm_k_long, and_true, true_and, true_or, or_true, or_false, false_or, and_self, or_self, if_true, if_false, List.map_nil, List.map_cons, List.sum_nil, List.sum_cons, Nat.zero_le, Option.toList_some, Option.toList_none, List.cons_append, List.nil_append, ne_eq, not_false_eq_true, not_true_eq_false, nI_1, nI_add, Value.category, Nat.reduceAdd, Nat.reduceMod, Nat.reduceLeDiff, Nat.reduceLT, Nat.reduceEqDiff, Nat.reducePow, Nat.le_refl, Nat.add_left_cancel_iff, Nat.add_eq_left, Nat.left_eq_add, Nat.add_zero]
        exact c90_61 (by simp) R2.1.1 (by omega) (x_fail (G := G) (α := Unit) (val := fun _ _ _ => True) R2) gx_fn (fun _ _ q => q.er (fun f e => by cases e; rw [hres]; rfl) st2 (fun _ z => Or.inr z))
      by_cases k0 : gs_kind Cc = 0
      · simp only [r90_0, r90_0n, r90_1, r90_5, r90_5n, r90_6, r90_6n, r90_7, r90_7n, r90_8, r90_9, r90_13, r90_13n, r90_17, r90_20, r90_20n, r90_21, r90_26, r90_27, r90_27n, r90_28, r90_31, r90_31n, r90_32, r90_32n, r90_33n, r90_33, r90_36, r90_36n, r90_37, r90_42, r90_43, r90_43n, r90_44, r90_47, r90_50, r90_50n, r90_51, r90_54, r90_55, r90_59, r90_64, r90_65, r90_68, r90_68i, r90_69, r90_70, r90_70n, r90_71, r90_71n, r90_78, r90_78n, r90_80, r90_80n, r90_81, r90_81n, r90_83, r90_89, r90_89n, r90_90, r90_90n, r90_95, r90_97, r90_97n, r90_98, r90_98n, r90_99, r90_102, r90_103, r90_106, r90_108, r90_111, r90_116, r90_118, r90_118n, r90_119, r90_122, r90_124, r90_126, r90_129, r90_129n, r90_130, r90_130n, r90_131, r90_136, r90_136n, r90_138, r90_142, r90_145, r90_148, r90_148n, r90_149, r90_152, r90_153, r90_156, r90_156n, r90_161, r90_164, r90_164n, r90_165, r90_170, r90_171, r90_171n, r90_172, r90_175, r90_178, r90_180, r90_182, r90_183, r90_185, i32_10, reduceIte, gm_cmp1, gm_cmp3, gm_cmp4, gm_kd_sf, gm_ln_sf, gm_sf_1, gm_sf_2, gm_nw_1, gm_nw_2, gm_k_int, gm_k_ref, gm_k_null, gm_k_u, gm_k_long, and_true, true_and, true_or, or_true, or_false, false_or, and_self, or_self, if_true, if_false, List.map_nil, List.map_cons, List.sum_nil, List.sum_cons, Nat.zero_le, Option.toList_some, Option.toList_none, List.cons_append, List.nil_append, ne_eq, not_false_eq_true, not_true_eq_false, nI_1, nI_add, Value.category, Nat.reduceAdd, Nat.reduceMod, Nat.reduceLeDiff, Nat.reduceLT, Nat.reduceEqDiff, Nat.reducePow, Nat.le_refl, Nat.add_left_cancel_iff, Nat.add_eq_left, Nat.left_eq_add, Nat.add_zero, h16, d1, d10, kc, fk, k0]
        exact bad
      · have k3 : gs_kind Cc = 3 := hk03.resolve_left k0
        simp only [r90_0, r90_0n, r90_1, r90_5, r90_5n, r90_6, r90_6n, r90_7, r90_7n, r90_8, r90_9, r90_13, r90_13n, r90_17, r90_20, r90_20n, r90_21, r90_26, r90_27, r90_27n, r90_28, r90_31, r90_31n, r90_32, r90_32n, r90_33n, r90_33, r90_36, r90_36n, r90_37, r90_42, r90_43, r90_43n, r90_44, r90_47, r90_50, r90_50n, r90_51, r90_54, r90_55, r90_59, r90_64, r90_65, r90_68, r90_68i, r90_69, r90_70, r90_70n, r90_71, r90_71n, r90_78, r90_78n, r90_80, r90_80n, r90_81, r90_81n, r90_83, r90_89, r90_89n, r90_90, r90_90n, r90_95, r90_97, r90_97n, r90_98, r90_98n, r90_99, r90_102, r90_103, r90_106, r90_108, r90_111, r90_116, r90_118, r90_118n, r90_119, r90_122, r90_124, r90_126, r90_129, r90_129n, r90_130, r90_130n, r90_131, r90_136, r90_136n, r90_138, r90_142, r90_145, r90_148, r90_148n, r90_149, r90_152, r90_153, r90_156, r90_156n, r90_161, r90_164, r90_164n, r90_165, r90_170, r90_171, r90_171n, r90_172, r90_175, r90_178, r90_180, r90_182, r90_183, r90_185, i32_10, reduceIte, gm_cmp1, gm_cmp3, gm_cmp4, gm_kd_sf, gm_ln_sf, gm_sf_1, gm_sf_2, gm_nw_1, gm_nw_2, gm_k_int, gm_k_ref, gm_k_null, gm_k_u, gm_k_long, and_true, true_and, true_or, or_true, or_false, false_or, and_self, or_self, if_true, if_false, List.map_nil, List.map_cons, List.sum_nil, List.sum_cons, Nat.zero_le, Option.toList_some, Option.toList_none, List.cons_append, List.nil_append, ne_eq, not_false_eq_true, not_true_eq_false, nI_1, nI_add, Value.category, Nat.reduceAdd, Nat.reduceMod, Nat.reduceLeDiff, Nat.reduceLT, Nat.reduceEqDiff, Nat.reducePow, Nat.le_refl, Nat.add_left_cancel_iff, Nat.add_eq_left, Nat.left_eq_add, Nat.add_zero, h16, d1, d10, kc, fk, k0, k3]
        exact bad
    rw [if_neg hk03] at hres
    have k0 : ¬ gs_kind Cc = 0 := fun z => hk03 (Or.inl z)
    have k3 : ¬ gs_kind Cc = 3 := fun z => hk03 (Or.inr z)
    have ht2 := R2.top
    have h24 : gs_slots K (some c) ≤ 24 := R2.2.2.1.slots
    -- the new instance
    obtain ⟨n, hn⟩ : ∃ n, n = gs_slots K (some c) := ⟨_, rfl⟩
    have Cn : gx_C E (gx_n1 h2) x ca K F := (R2.new (c := (4, [.int 0, .null, .null, .int 0, .int 0])) (n := 5)).2.2.1
    simp only [r90_0, r90_0n, r90_1, r90_5, r90_5n, r90_6, r90_6n, r90_7, r90_7n, r90_8, r90_9, r90_13, r90_13n, r90_17, r90_20, r90_20n, r90_21, r90_26, r90_27, r90_27n, r90_28, r90_31, r90_31n, r90_32, r90_32n, r90_33n, r90_33, r90_36, r90_36n, r90_37, r90_42, r90_43, r90_43n, r90_44, r90_47, r90_50, r90_50n, r90_51, r90_54, r90_55, r90_58, r90_58n, r90_59, r90_64, r90_65, r90_68, r90_68i, r90_69, r90_70, r90_70n, r90_71, r90_71n, r90_78, r90_78n, r90_80, r90_80n, r90_81, r90_81n, r90_83, r90_89, r90_89n, r90_90, r90_90n, r90_95, r90_97, r90_97n, r90_98, r90_98n, r90_99, r90_102, r90_103, r90_106, r90_108, r90_111, r90_116, r90_118, r90_118n, r90_119, r90_122, r90_124, r90_126, r90_129, r90_129n, r90_130, r90_130n, r90_131, r90_136, r90_136n, r90_138, r90_142, r90_145, r90_148, r90_148n, r90_149, r90_152, r90_153, r90_156, r90_156n, r90_161, r90_164, r90_164n, r90_165, r90_170, r90_171, r90_171n, r90_172, r90_175, r90_178, r90_180, r90_182, r90_183, r90_185, i32_10, reduceIte, gm_cmp1, gm_cmp3, gm_cmp4, gm_kd_sf, gm_ln_sf, gm_sf_1, gm_sf_2, gm_nw_1, gm_nw_2, gm_k_int, gm_k_ref, gm_k_null, gm_k_u, gm_k_long, and_true, true_and, true_or, or_true, or_false, false_or, and_self, or_self, if_true, if_false, List.map_nil, List.map_cons, List.sum_nil, List.sum_cons, Nat.zero_le, Option.toList_some, Option.toList_none, List.cons_append, List.nil_append, ne_eq, not_false_eq_true, not_true_eq_false, nI_1, nI_add, Value.category, Nat.reduceAdd, Nat.reduceMod, Nat.reduceLeDiff, Nat.reduceLT, Nat.reduceEqDiff, Nat.reducePow, Nat.le_refl, Nat.add_left_cancel_iff, Nat.add_eq_left, Nat.left_eq_add, Nat.add_zero, h16, d1, d10, kc, fk, k0, k3]
    have kcn : gm_kd (gx_n1 h2) (ca c) = 3 := by obtain ⟨-, -, -, q, -⟩ := Cn.at hC; exact q
    refine c90_72 (by simp [Value.category]) kcn (by omega) (x_slotCount Cn hC) (gx_kn ?_) gx_kx
    rw [← hn]
    simp only [i32_10, reduceIte, gm_cmp1, gm_cmp3, gm_cmp4, gm_kd_sf, gm_ln_sf, gm_sf_1, gm_sf_2, gm_nw_1, gm_nw_2, gm_k_int, gm_k_ref, gm_k_null, gm_k_u, gm_k_long, and_true, true_and, true_or, or_true, or_false, false_or, and_self, or_self, if_true, if_false, List.map_nil, List.map_cons, List.sum_nil, List.sum_cons, Nat.zero_le, Option.toList_some, Option.toList_none, List.cons_append, List.nil_append, ne_eq, not_false_eq_true, not_true_eq_false, nI_1, nI_add, Value.category, Nat.reduceAdd, Nat.reduceMod, Nat.reduceLeDiff, Nat.reduceLT, Nat.reduceEqDiff, Nat.reducePow, Nat.le_refl, Nat.add_left_cancel_iff, Nat.add_eq_left, Nat.left_eq_add, Nat.add_zero]
    refine c90_75 (by simp [Value.category]) (by simp [gm_en1]) (by omega) (x_Thing (h := h2) (ca := ca) (o := some c) (so := 0) (n := n) (by omega)) (gx_kn ?_) gx_kx
    obtain ⟨h3, h3e⟩ : ∃ h3, h3 = gx_mk (gx_n1 h2) h2.1 0 (gx_ow ca (some c)) n := ⟨_, rfl⟩
    rw [← h3e]
    have r3 : ∀ b, b < h2.1 → gm_rd h3 b = gm_rd h2 b := by rw [h3e]; exact gx_mk_rd
    have t3 : gx_th h3 ca (0, some c, List.replicate n 0, 0, 0) h2.1 := by rw [h3e]; exact gx_mk_th (by omega)
    have c3 : h3.1 = h2.1 + 2 ∧ h3.2.1 = h2.2.1 + 5 + n := by rw [h3e]; exact gx_mk_1
    have R3 : gx_R E h3 x ca K F s2 := R2.far (by omega) r3
    clear h3e
    obtain ⟨t, ht⟩ : ∃ t, t = h2.1 := ⟨_, rfl⟩
    rw [← ht] at t3 ⊢
    obtain ⟨-, -, -, kc3, -⟩ := R3.2.2.1.at hC
    have t3' := t3
    obtain ⟨y1, y2, y3, y4, y5, y6, y7, y8, y9, y10⟩ := t3'
    simp only [r90_0, r90_0n, r90_1, r90_5, r90_5n, r90_6, r90_6n, r90_7, r90_7n, r90_8, r90_9, r90_13, r90_13n, r90_17, r90_20, r90_20n, r90_21, r90_26, r90_27, r90_27n, r90_28, r90_31, r90_31n, r90_32, r90_32n, r90_33n, r90_33, r90_36, r90_36n, r90_37, r90_42, r90_43, r90_43n, r90_44, r90_47, r90_50, r90_50n, r90_51, r90_54, r90_55, r90_58, r90_58n, r90_59, r90_64, r90_65, r90_68, r90_68i, r90_69, r90_70, r90_70n, r90_71, r90_71n, r90_78, r90_78n, r90_80, r90_80n, r90_81, r90_81n, r90_83, r90_89, r90_89n, r90_90, r90_90n, r90_95, r90_97, r90_97n, r90_98, r90_98n, r90_99, r90_102, r90_103, r90_106, r90_108, r90_111, r90_116, r90_118, r90_118n, r90_119, r90_122, r90_124, r90_126, r90_129, r90_129n, r90_130, r90_130n, r90_131, r90_136, r90_136n, r90_138, r90_142, r90_145, r90_148, r90_148n, r90_149, r90_152, r90_153, r90_156, r90_156n, r90_161, r90_164, r90_164n, r90_165, r90_170, r90_171, r90_171n, r90_172, r90_175, r90_178, r90_180, r90_182, r90_183, r90_185, i32_10, reduceIte, gm_cmp1, gm_cmp3, gm_cmp4, gm_kd_sf, gm_ln_sf, gm_sf_1, gm_sf_2, gm_nw_1, gm_nw_2, gm_k_int, gm_k_ref, gm_k_null, gm_k_u, gm_k_long, and_true, true_and, true_or, or_true, or_false, false_or, and_self, or_self, if_true, if_false, List.map_nil, List.map_cons, List.sum_nil, List.sum_cons, Nat.zero_le, Option.toList_some, Option.toList_none, List.cons_append, List.nil_append, ne_eq, not_false_eq_true, not_true_eq_false, nI_1, nI_add, Value.category, Nat.reduceAdd, Nat.reduceMod, Nat.reduceLeDiff, Nat.reduceLT, Nat.reduceEqDiff, Nat.reducePow, Nat.le_refl, Nat.add_left_cancel_iff, Nat.add_eq_left, Nat.left_eq_add, Nat.add_zero, y1, y4]
    refine c90_86 (by simp) (by simp [gm_en1]) kc3 (by omega) (x_fillSlots (t := t) (by omega) R3.2.2.1 hC (by omega) y1 y7 (by rw [y8]; simp; exact hn)) (fun v h4 q => ?_) (fun v h4 q => by obtain ⟨q, -⟩ := q; cases q)
    obtain ⟨qv, fil⟩ := q
    cases qv
    obtain ⟨⟨f1, f2⟩, f3, f4, f5, f6⟩ := fil
    have r4 : ∀ b, b < h2.1 → gm_rd h4 b = gm_rd h2 b := fun b hb => (f3 b (by omega)).trans (r3 b hb)
    have R4 : gx_R E h4 x ca K F s2 := R2.far (by omega) r4
    have t4 : gx_th h4 ca (0, some c, gs_slot0 K (some c), 0, 0) t := by
      have et := f3 t (by omega)
      refine ⟨(gv_kd et).trans y1, (gv_fv et).trans y2, (gv_fv et).trans y3, (gv_fv et).trans y4, (gv_fv et).trans y5, (gv_fv et).trans y6, f4, f5, ?_, f6⟩
      show (gs_slot0 K (some c)).length < 1000
      rw [gs_slot0_len]
      omega
    have st4 : gx_st h s x G h4 s2 := by
      refine ⟨st2.1.trans (G1 := G) (gx_mv.far ht2 (by omega) r4) st2.2.1 (fun _ z => Or.inr z), st2.2.1, ?_⟩
      obtain ⟨a1, b1⟩ := sur1
      obtain ⟨a2, b2⟩ := na2
      unfold gx_co
      omega
    have hF4 : ∀ a, F a → a < h4.1 := fun a z => by have := hF2 a z; omega
    have hok : gx_ok h4 x F t ∧ gx_ok h4 x F (t + 1) := ⟨⟨Or.inr (by omega), by omega, fun z => by have := hF2 _ z; omega⟩, ⟨Or.inr (by omega), by omega, fun z => by have := hF2 _ z; omega⟩⟩
    have hbt : ∀ i u, i < (gs_hp s2).length → gm_fv h4 (x + 3) i = .ref u → u + 1 < t := by
      intro i u hi hu
      rw [gv_fv (r4 (x + 3) (by omega))] at hu
      rw [ht]
      exact R2.below i u hi hu
    have ds4 : gx_ds h4 x ca K F (l :: L) (.ref a) := ds2.tr ⟨by omega, fun b o => r4 b o.2.1⟩
    simp only [r90_0, r90_0n, r90_1, r90_5, r90_5n, r90_6, r90_6n, r90_7, r90_7n, r90_8, r90_9, r90_13, r90_13n, r90_17, r90_20, r90_20n, r90_21, r90_26, r90_27, r90_27n, r90_28, r90_31, r90_31n, r90_32, r90_32n, r90_33n, r90_33, r90_36, r90_36n, r90_37, r90_42, r90_43, r90_43n, r90_44, r90_47, r90_50, r90_50n, r90_51, r90_54, r90_55, r90_58, r90_58n, r90_59, r90_64, r90_65, r90_68, r90_68i, r90_69, r90_70, r90_70n, r90_71, r90_71n, r90_78, r90_78n, r90_80, r90_80n, r90_81, r90_81n, r90_83, r90_89, r90_89n, r90_90, r90_90n, r90_95, r90_97, r90_97n, r90_98, r90_98n, r90_99, r90_102, r90_103, r90_106, r90_108, r90_111, r90_116, r90_118, r90_118n, r90_119, r90_122, r90_124, r90_126, r90_129, r90_129n, r90_130, r90_130n, r90_131, r90_136, r90_136n, r90_138, r90_142, r90_145, r90_148, r90_148n, r90_149, r90_152, r90_153, r90_156, r90_156n, r90_161, r90_164, r90_164n, r90_165, r90_170, r90_171, r90_171n, r90_172, r90_175, r90_178, r90_180, r90_182, r90_183, r90_185, i32_10, reduceIte, gm_cmp1, gm_cmp3, gm_cmp4, gm_kd_sf, gm_ln_sf, gm_sf_1, gm_sf_2, gm_nw_1, gm_nw_2, gm_k_int, gm_k_ref, gm_k_null, gm_k_u, gm_k_long, and_true, true_and, true_or, or_true, or_false, false_or, and_self, or_self, if_true, if_false, List.map_nil, List.map_cons, List.sum_nil, List.sum_cons, Nat.zero_le, Option.toList_some, Option.toList_none, List.cons_append, List.nil_append, ne_eq, not_false_eq_true, not_true_eq_false, nI_1, nI_add, Value.category, Nat.reduceAdd, Nat.reduceMod, Nat.reduceLeDiff, Nat.reduceLT, Nat.reduceEqDiff, Nat.reducePow, Nat.le_refl, Nat.add_left_cancel_iff, Nat.add_eq_left, Nat.left_eq_add, Nat.add_zero]
    refine c90_92 (by simp) (by simp [gm_en1]) R4.1.1 (by omega) (x_addThing (G := fun _ => False) (by omega) R4 (fun c' e => by cases e; exact hcs) t4 hok hbt) (fun v h5 q => ?_) (fun _ _ q => q.er (fun f e => by rw [hres]; exact gs_b_er e) st4 (fun _ z => z.elim))
    obtain ⟨o, s5, e5, ⟨⟨rfl, na5⟩, f5o⟩, R5, mv5, le5, co5⟩ := q
    rw [gs_b_ok e5] at hres
    obtain ⟨eo, es5⟩ := gs_addT_ok e5
    have st5 := st4.trans mv5 le5 co5 (fun _ z => z.elim)
    have h45 : h4.1 ≤ h5.1 := mv5.1.1
    have I5 : gx_in h5 x K s5 o t c := by
      refine ⟨f5o, (0, some c, gs_slot0 K (some c), 0, 0), ?_, rfl, gs_slot0_len⟩
      rw [es5, eo]
      simp [gs_hp]
    have ds5 : gx_ds h5 x ca K F (l :: L) (.ref a) := ds4.tr (mv5.1.wk (fun _ z => z.elim))
    obtain ⟨-, -, -, kc5, -, fk5, -⟩ := R5.2.2.1.at hC
    -- behind the entry
    have walk : ∀ (ev : Int32), res = gs_b (gs_addE ev) (fun e => gs_b (gs_dats K rc (some c) o (l :: L).reverse) fun _ => gs_b gs_g fun s => if gs_kind Cc = 4 ∧ (gs_fs Cc).head?.any (fun q => decide (q.2 < 6)) = true ∧ (((gs_hp s).getD o (0, none, [], 0, 0)).2.2.1.getD 0 0) < 0 then gs_x (-6) else gs_b (gs_setE e (nI o)) fun _ => gs_r (nI o)) s5 →
        gm_W E d 90 113 [.ref x, .int (nI dp), .ref a, .ref (ca c), .ref t, .int (nI o), gm_u, gm_u] [.int ev, .ref x] h5 (gx_P E h x ca K F G s (fun a _ v => v = some (.int a)) res) := by
      intro ev hres
      refine c90_113 (by simp) R5.1.1 (by omega) (x_addEntry (G := fun _ => False) (by omega) R5) (fun v h6 q => ?_) (fun _ _ q => q.er (fun f e => by rw [hres]; exact gs_b_er e) st5 (fun _ z => z.elim))
      obtain ⟨e, s6, e6, ⟨rfl, na6⟩, R6, mv6, le6, co6⟩ := q
      rw [gs_b_ok e6] at hres
      obtain ⟨ee, es6⟩ := gs_addE_ok e6
      have st6 := st5.trans mv6 le6 co6 (fun _ z => z.elim)
      have h56 : h5.1 ≤ h6.1 := mv6.1.1
      have I6 := I5.mv R5 R6 mv6 le6 ⟨fun z => z, fun z => z⟩ hcs
      have ds6 : gx_ds h6 x ca K F (l :: L) (.ref a) := ds5.tr (mv6.1.wk (fun _ z => z.elim))
      have hF6 : ∀ a, F a → a < h6.1 := fun a z => by have := hF4 a z; omega
      have hle : (gs_hs s).length ≤ e := by have := st5.2.1.2; omega
      have hlt6 : e < (gs_hs s6).length := by rw [es6, ee]; simp [gs_hs]
      have hht : h.1 ≤ t := by have := st2.1.1.1; omega
      obtain ⟨FIN, hFIN⟩ : ∃ FIN : gs_M Int32, FIN = (gs_b gs_g fun s => if gs_kind Cc = 4 ∧ (gs_fs Cc).head?.any (fun q => decide (q.2 < 6)) = true ∧ (((gs_hp s).getD o (0, none, [], 0, 0)).2.2.1.getD 0 0) < 0 then gs_x (-6) else gs_b (gs_setE e (nI o)) fun _ => gs_r (nI o)) := ⟨_, rfl⟩
      rw [← hFIN] at hres
      have fin : ∀ (sk : gs_S) (hk : gm_H) (w7 : Value), gx_R E hk x ca K F sk → gx_in hk x K sk o t c → e < (gs_hs sk).length → gx_st h s x G hk sk → res = FIN sk → gm_W E d 90 148 [.ref x, .int (nI dp), .ref a, .ref (ca c), .ref t, .int (nI o), .int (nI e), w7] [] hk (gx_P E h x ca K F G s (fun a _ v => v = some (.int a)) res) := by
        intro sk hk w7 Rk Ik hlt stk hr
        obtain ⟨-, -, -, kck, -, fkk, -⟩ := Rk.2.2.1.at hC
        obtain ⟨i1, ob, i2, i3, i4⟩ := Ik
        obtain ⟨t', et, -, -, q⟩ := Rk.thing i2
        rw [i1] at et
        cases et
        have eg : (gs_hp sk).getD o (0, none, [], 0, 0) = ob := by rw [List.getD_eq_getElem?_getD, i2]; rfl
        have hfv : (gs_fs Cc).length ≤ ob.2.2.1.length := by
          rw [i4, gs_slots_cons Rk.2.2.1.wf hC]
          omega
        have hr2 : res = (if gs_kind Cc = 4 ∧ (gs_fs Cc).head?.any (fun q => decide (q.2 < 6)) = true ∧ ob.2.2.1.getD 0 0 < 0 then gs_x (-6) else gs_b (gs_setE e (nI o)) fun _ => gs_r (nI o)) sk := by
          rw [hr, hFIN, gs_b_ok (m := gs_g) rfl, eg]
        have good : res = gs_b (gs_setE e (nI o)) (fun _ => gs_r (nI o)) sk → gm_W E d 90 171 [.ref x, .int (nI dp), .ref a, .ref (ca c), .ref t, .int (nI o), .int (nI e), w7] [] hk (gx_P E h x ca K F G s (fun a _ v => v = some (.int a)) res) := by
          intro er
          obtain ⟨A0, -, -, -, A10, -, -, -, -, -, -, A4, A40, -, A5, A5l, -⟩ := Rk.1
          have h234 := Rk.2.2.2.1.2.2.2.2.2.2.2.1
          have he2 : e < 234 := by omega
          simp only [r90_0, r90_0n, r90_1, r90_5, r90_5n, r90_6, r90_6n, r90_7, r90_7n, r90_8, r90_9, r90_13, r90_13n, r90_17, r90_20, r90_20n, r90_21, r90_26, r90_27, r90_27n, r90_28, r90_31, r90_31n, r90_32, r90_32n, r90_33n, r90_33, r90_36, r90_36n, r90_37, r90_42, r90_43, r90_43n, r90_44, r90_47, r90_50, r90_50n, r90_51, r90_54, r90_55, r90_58, r90_58n, r90_59, r90_64, r90_65, r90_68, r90_68i, r90_69, r90_70, r90_70n, r90_71, r90_71n, r90_78, r90_78n, r90_80, r90_80n, r90_81, r90_81n, r90_83, r90_89, r90_89n, r90_90, r90_90n, r90_95, r90_97, r90_97n, r90_98, r90_98n, r90_99, r90_102, r90_103, r90_106, r90_108, r90_111, r90_116, r90_118, r90_118n, r90_119, r90_122, r90_124, r90_126, r90_129, r90_129n, r90_130, r90_130n, r90_131, r90_136, r90_136n, r90_138, r90_142, r90_145, r90_148, r90_148n, r90_149, r90_152, r90_153, r90_156, r90_156n, r90_161, r90_164, r90_164n, r90_165, r90_170, r90_171, r90_171n, r90_172, r90_175, r90_178, r90_180, r90_182, r90_183, r90_185, i32_10, reduceIte, gm_cmp1, gm_cmp3, gm_cmp4, gm_kd_sf, gm_ln_sf, gm_sf_1, gm_sf_2, gm_nw_1, gm_nw_2, gm_k_int, gm_k_ref, gm_k_null, gm_k_u, gm_k_long, and_true, true_and, true_or, or_true, or_false, false_or, and_self, or_self, if_true, if_false, List.map_nil, List.map_cons, List.sum_nil, List.sum_cons, Nat.zero_le, Option.toList_some, Option.toList_none, List.cons_append, List.nil_append, ne_eq, not_false_eq_true, not_true_eq_false, nI_1, nI_add, Value.category, Nat.reduceAdd, Nat.reduceMod, Nat.reduceLeDiff, Nat.reduceLT, Nat.reduceEqDiff, Nat.reducePow, Nat.le_refl, Nat.add_left_cancel_iff, Nat.add_eq_left, Nat.left_eq_add, Nat.add_zero, A0, A10, A4, A40, A5, A5l, he2]
          rw [er]
          refine ⟨nI o, _, rfl, rfl, Rk.setE hlt, stk.1.tr (gx_mv.obj hle), stk.2.1.trans ⟨Nat.le_refl _, by simp [gs_hs]⟩, stk.2.2.trans ⟨by simp only [gm_sf_1]; exact Nat.le_refl _, by simp only [gm_sf_2]; exact Nat.le_refl _⟩⟩
        by_cases k4 : gs_kind Cc = 4
        · simp only [r90_0, r90_0n, r90_1, r90_5, r90_5n, r90_6, r90_6n, r90_7, r90_7n, r90_8, r90_9, r90_13, r90_13n, r90_17, r90_20, r90_20n, r90_21, r90_26, r90_27, r90_27n, r90_28, r90_31, r90_31n, r90_32, r90_32n, r90_33n, r90_33, r90_36, r90_36n, r90_37, r90_42, r90_43, r90_43n, r90_44, r90_47, r90_50, r90_50n, r90_51, r90_54, r90_55, r90_58, r90_58n, r90_59, r90_64, r90_65, r90_68, r90_68i, r90_69, r90_70, r90_70n, r90_71, r90_71n, r90_78, r90_78n, r90_80, r90_80n, r90_81, r90_81n, r90_83, r90_89, r90_89n, r90_90, r90_90n, r90_95, r90_97, r90_97n, r90_98, r90_98n, r90_99, r90_102, r90_103, r90_106, r90_108, r90_111, r90_116, r90_118, r90_118n, r90_119, r90_122, r90_124, r90_126, r90_129, r90_129n, r90_130, r90_130n, r90_131, r90_136, r90_136n, r90_138, r90_142, r90_145, r90_148, r90_148n, r90_149, r90_152, r90_153, r90_156, r90_156n, r90_161, r90_164, r90_164n, r90_165, r90_170, r90_172, r90_175, r90_178, r90_180, r90_182, r90_183, r90_185, i32_10, reduceIte, gm_cmp1, gm_cmp3, gm_cmp4, gm_kd_sf, gm_ln_sf, gm_sf_1, gm_sf_2, gm_nw_1, gm_nw_2, gm_k_int, gm_k_ref, gm_k_null, gm_k_u, gm_k_long, and_true, true_and, true_or, or_true, or_false, false_or, and_self, or_self, if_true, if_false, List.map_nil, List.map_cons, List.sum_nil, List.sum_cons, Nat.zero_le, Option.toList_some, Option.toList_none, List.cons_append, List.nil_append, ne_eq, not_false_eq_true, not_true_eq_false, nI_1, nI_add, Value.category, Nat.reduceAdd, Nat.reduceMod, Nat.reduceLeDiff, Nat.reduceLT, Nat.reduceEqDiff, Nat.reducePow, Nat.le_refl, Nat.add_left_cancel_iff, Nat.add_eq_left, Nat.left_eq_add, Nat.add_zero, kck, fkk, k4]
          refine c90_158 (by simp) (by simp [gm_en1]) (by omega) (x_isValidRecord Rk.2.2.1 hC q i3 hfv) (gx_kn ?_) gx_kx
          by_cases hv : (gs_fs Cc).head?.any (fun q => decide (q.2 < 6)) = true ∧ ob.2.2.1.getD 0 0 < 0
          · rw [if_pos ⟨k4, hv.1, hv.2⟩] at hr2
            rw [if_pos hv]
            simp only [r90_0, r90_0n, r90_1, r90_5, r90_5n, r90_6, r90_6n, r90_7, r90_7n, r90_8, r90_9, r90_13, r90_13n, r90_17, r90_20, r90_20n, r90_21, r90_26, r90_27, r90_27n, r90_28, r90_31, r90_31n, r90_32, r90_32n, r90_33n, r90_33, r90_36, r90_36n, r90_37, r90_42, r90_43, r90_43n, r90_44, r90_47, r90_50, r90_50n, r90_51, r90_54, r90_55, r90_58, r90_58n, r90_59, r90_64, r90_65, r90_68, r90_68i, r90_69, r90_70, r90_70n, r90_71, r90_71n, r90_78, r90_78n, r90_80, r90_80n, r90_81, r90_81n, r90_83, r90_89, r90_89n, r90_90, r90_90n, r90_95, r90_97, r90_97n, r90_98, r90_98n, r90_99, r90_102, r90_103, r90_106, r90_108, r90_111, r90_116, r90_118, r90_118n, r90_119, r90_122, r90_124, r90_126, r90_129, r90_129n, r90_130, r90_130n, r90_131, r90_136, r90_136n, r90_138, r90_142, r90_145, r90_148, r90_148n, r90_149, r90_152, r90_153, r90_156, r90_156n, r90_161, r90_164, r90_164n, r90_165, r90_170, r90_172, r90_175, r90_178, r90_180, r90_182, r90_183, r90_185, i32_10, reduceIte, gm_cmp1, gm_cmp3, gm_cmp4, gm_kd_sf, gm_ln_sf, gm_sf_1, gm_sf_2, gm_nw_1, gm_nw_2, gm_k_int, gm_k_ref, gm_k_null, gm_k_u, gm_k_long, and_true, true_and, true_or, or_true, or_false, false_or, and_self, or_self, if_true, if_false, List.map_nil, List.map_cons, List.sum_nil, List.sum_cons, Nat.zero_le, Option.toList_some, Option.toList_none, List.cons_append, List.nil_append, ne_eq, not_false_eq_true, not_true_eq_false, nI_1, nI_add, Value.category, Nat.reduceAdd, Nat.reduceMod, Nat.reduceLeDiff, Nat.reduceLT, Nat.reduceEqDiff, Nat.reducePow, Nat.le_refl, Nat.add_left_cancel_iff, Nat.add_eq_left, Nat.left_eq_add, Nat.add_zero]
            exact c90_167 (by simp) Rk.1.1 (by omega) (x_fail (G := G) (α := Unit) (val := fun _ _ _ => True) Rk) gx_fn (fun _ _ q => q.er (fun f e => by cases e; rw [hr2]; rfl) stk (fun _ z => Or.inr z))
          · rw [if_neg (fun z => hv z.2)] at hr2
            rw [if_neg hv]
            simp only [r90_0, r90_0n, r90_1, r90_5, r90_5n, r90_6, r90_6n, r90_7, r90_7n, r90_8, r90_9, r90_13, r90_13n, r90_17, r90_20, r90_20n, r90_21, r90_26, r90_27, r90_27n, r90_28, r90_31, r90_31n, r90_32, r90_32n, r90_33n, r90_33, r90_36, r90_36n, r90_37, r90_42, r90_43, r90_43n, r90_44, r90_47, r90_50, r90_50n, r90_51, r90_54, r90_55, r90_58, r90_58n, r90_59, r90_64, r90_65, r90_68, r90_68i, r90_69, r90_70, r90_70n, r90_71, r90_71n, r90_78, r90_78n, r90_80, r90_80n, r90_81, r90_81n, r90_83, r90_89, r90_89n, r90_90, r90_90n, r90_95, r90_97, r90_97n, r90_98, r90_98n, r90_99, r90_102, r90_103, r90_106, r90_108, r90_111, r90_116, r90_118, r90_118n, r90_119, r90_122, r90_124, r90_126, r90_129, r90_129n, r90_130, r90_130n, r90_131, r90_136, r90_136n, r90_138, r90_142, r90_145, r90_148, r90_148n, r90_149, r90_152, r90_153, r90_156, r90_156n, r90_161, r90_164, r90_164n, r90_165, r90_170, r90_172, r90_175, r90_178, r90_180, r90_182, r90_183, r90_185, i32_10, reduceIte, gm_cmp1, gm_cmp3, gm_cmp4, gm_kd_sf, gm_ln_sf, gm_sf_1, gm_sf_2, gm_nw_1, gm_nw_2, gm_k_int, gm_k_ref, gm_k_null, gm_k_u, gm_k_long, and_true, true_and, true_or, or_true, or_false, false_or, and_self, or_self, if_true, if_false, List.map_nil, List.map_cons, List.sum_nil, List.sum_cons, Nat.zero_le, Option.toList_some, Option.toList_none, List.cons_append, List.nil_append, ne_eq, not_false_eq_true, not_true_eq_false, nI_1, nI_add, Value.category, Nat.reduceAdd, Nat.reduceMod, Nat.reduceLeDiff, Nat.reduceLT, Nat.reduceEqDiff, Nat.reducePow, Nat.le_refl, Nat.add_left_cancel_iff, Nat.add_eq_left, Nat.left_eq_add, Nat.add_zero]
            exact good hr2
        · rw [if_neg (fun z => k4 z.1)] at hr2
          simp only [r90_0, r90_0n, r90_1, r90_5, r90_5n, r90_6, r90_6n, r90_7, r90_7n, r90_8, r90_9, r90_13, r90_13n, r90_17, r90_20, r90_20n, r90_21, r90_26, r90_27, r90_27n, r90_28, r90_31, r90_31n, r90_32, r90_32n, r90_33n, r90_33, r90_36, r90_36n, r90_37, r90_42, r90_43, r90_43n, r90_44, r90_47, r90_50, r90_50n, r90_51, r90_54, r90_55, r90_58, r90_58n, r90_59, r90_64, r90_65, r90_68, r90_68i, r90_69, r90_70, r90_70n, r90_71, r90_71n, r90_78, r90_78n, r90_80, r90_80n, r90_81, r90_81n, r90_83, r90_89, r90_89n, r90_90, r90_90n, r90_95, r90_97, r90_97n, r90_98, r90_98n, r90_99, r90_102, r90_103, r90_106, r90_108, r90_111, r90_116, r90_118, r90_118n, r90_119, r90_122, r90_124, r90_126, r90_129, r90_129n, r90_130, r90_130n, r90_131, r90_136, r90_136n, r90_138, r90_142, r90_145, r90_148, r90_148n, r90_149, r90_152, r90_153, r90_156, r90_156n, r90_161, r90_164, r90_164n, r90_165, r90_170, r90_172, r90_175, r90_178, r90_180, r90_182, r90_183, r90_185, i32_10, reduceIte, gm_cmp1, gm_cmp3, gm_cmp4, gm_kd_sf, gm_ln_sf, gm_sf_1, gm_sf_2, gm_nw_1, gm_nw_2, gm_k_int, gm_k_ref, gm_k_null, gm_k_u, gm_k_long, and_true, true_and, true_or, or_true, or_false, false_or, and_self, or_self, if_true, if_false, List.map_nil, List.map_cons, List.sum_nil, List.sum_cons, Nat.zero_le, Option.toList_some, Option.toList_none, List.cons_append, List.nil_append, ne_eq, not_false_eq_true, not_true_eq_false, nI_1, nI_add, Value.category, Nat.reduceAdd, Nat.reduceMod, Nat.reduceLeDiff, Nat.reduceLT, Nat.reduceEqDiff, Nat.reducePow, Nat.le_refl, Nat.add_left_cancel_iff, Nat.add_eq_left, Nat.left_eq_add, Nat.add_zero, kck, fkk, k4]
          exact good hr2
      have loop : ∀ (m : Nat) (sk : gs_S) (hk : gm_H), m ≤ L.length + 1 → gx_R E hk x ca K F sk → (∀ a, F a → a < hk.1) → gx_in hk x K sk o t c → e < (gs_hs sk).length → gx_ds hk x ca K F (l :: L) (.ref a) → gx_st h s x G hk sk → res = gs_b (gs_dats K rc (some c) o ((l :: L).take m).reverse) (fun _ => FIN) sk →
          gm_W E d 90 124 [.ref x, .int (nI dp), .ref a, .ref (ca c), .ref t, .int (nI o), .int (nI e), .int (nI m - 1)] [] hk (gx_P E h x ca K F G s (fun a _ v => v = some (.int a)) res) := by
        intro m
        induction m with
        | zero =>
          intro sk hk hm Rk hFk Ik hlt dk stk hr
          have m1 : nI 0 - 1 < 0 := by decide
          simp only [r90_0, r90_0n, r90_1, r90_5, r90_5n, r90_6, r90_6n, r90_7, r90_7n, r90_8, r90_9, r90_13, r90_13n, r90_17, r90_20, r90_20n, r90_21, r90_26, r90_27, r90_27n, r90_28, r90_31, r90_31n, r90_32, r90_32n, r90_33n, r90_33, r90_36, r90_36n, r90_37, r90_42, r90_43, r90_43n, r90_44, r90_47, r90_50, r90_50n, r90_51, r90_54, r90_55, r90_58, r90_58n, r90_59, r90_64, r90_65, r90_68, r90_68i, r90_69, r90_70, r90_70n, r90_71, r90_71n, r90_78, r90_78n, r90_80, r90_80n, r90_81, r90_81n, r90_83, r90_89, r90_89n, r90_90, r90_90n, r90_95, r90_97, r90_97n, r90_98, r90_98n, r90_99, r90_102, r90_103, r90_106, r90_108, r90_111, r90_116, r90_118, r90_118n, r90_119, r90_122, r90_124, r90_126, r90_129, r90_129n, r90_130, r90_130n, r90_131, r90_136, r90_136n, r90_138, r90_142, r90_145, r90_149, r90_152, r90_153, r90_156, r90_156n, r90_161, r90_164, r90_164n, r90_165, r90_170, r90_171, r90_171n, r90_172, r90_175, r90_178, r90_180, r90_182, r90_183, r90_185, i32_10, reduceIte, gm_cmp1, gm_cmp3, gm_cmp4, gm_kd_sf, gm_ln_sf, gm_sf_1, gm_sf_2, gm_nw_1, gm_nw_2, gm_k_int, gm_k_ref, gm_k_null, gm_k_u, gm_k_long, and_true, true_and, true_or, or_true, or_false, false_or, and_self, or_self, if_true, if_false, List.map_nil, List.map_cons, List.sum_nil, List.sum_cons, Nat.zero_le, Option.toList_some, Option.toList_none, List.cons_append, List.nil_append, ne_eq, not_false_eq_true, not_true_eq_false, nI_1, nI_add, Value.category, Nat.reduceAdd, Nat.reduceMod, Nat.reduceLeDiff, Nat.reduceLT, Nat.reduceEqDiff, Nat.reducePow, Nat.le_refl, Nat.add_left_cancel_iff, Nat.add_eq_left, Nat.left_eq_add, Nat.add_zero, m1]
          exact fin sk hk _ Rk Ik hlt stk hr
        | succ m ih =>
          intro sk hk hm Rk hFk Ik hlt dk stk hr
          have em : nI (m + 1) - 1 = nI m := nI_sub (b := 1) (by omega)
          have dk' := dk
          obtain ⟨a', _, _, ea, -, -, -, k1, -⟩ := dk'
          cases ea
          have htk : (l :: L).take (m + 1) = (l :: L).take m ++ [(l :: L)[m]] := by
            rw [List.take_succ, List.getElem?_eq_getElem (by simp; omega)]
            rfl
          rw [htk, List.reverse_append] at hr
          rw [r90_124]
          simp only [r90_0, r90_0n, r90_1, r90_5, r90_5n, r90_6, r90_6n, r90_7, r90_7n, r90_8, r90_9, r90_13, r90_13n, r90_17, r90_20, r90_20n, r90_21, r90_26, r90_27, r90_27n, r90_28, r90_31, r90_31n, r90_32, r90_32n, r90_33n, r90_33, r90_36, r90_36n, r90_37, r90_42, r90_43, r90_43n, r90_44, r90_47, r90_50, r90_50n, r90_51, r90_54, r90_55, r90_58, r90_58n, r90_59, r90_64, r90_65, r90_68, r90_68i, r90_69, r90_70, r90_70n, r90_71, r90_71n, r90_78, r90_78n, r90_80, r90_80n, r90_81, r90_81n, r90_83, r90_89, r90_89n, r90_90, r90_90n, r90_95, r90_97, r90_97n, r90_98, r90_98n, r90_99, r90_102, r90_103, r90_106, r90_108, r90_111, r90_116, r90_118, r90_118n, r90_119, r90_122, r90_126, r90_129, r90_129n, r90_130, r90_130n, r90_131, r90_136, r90_136n, r90_138, r90_142, r90_145, r90_148, r90_148n, r90_149, r90_152, r90_153, r90_156, r90_156n, r90_161, r90_164, r90_164n, r90_165, r90_170, r90_171, r90_171n, r90_172, r90_175, r90_178, r90_180, r90_182, r90_183, r90_185, i32_10, reduceIte, gm_cmp1, gm_cmp3, gm_cmp4, gm_kd_sf, gm_ln_sf, gm_sf_1, gm_sf_2, gm_nw_1, gm_nw_2, gm_k_int, gm_k_ref, gm_k_null, gm_k_u, gm_k_long, and_true, true_and, true_or, or_true, or_false, false_or, and_self, or_self, if_true, if_false, List.map_nil, List.map_cons, List.sum_nil, List.sum_cons, Nat.zero_le, Option.toList_some, Option.toList_none, List.cons_append, List.nil_append, ne_eq, not_false_eq_true, not_true_eq_false, nI_1, nI_add, Value.category, Nat.reduceAdd, Nat.reduceMod, Nat.reduceLeDiff, Nat.reduceLT, Nat.reduceEqDiff, Nat.reducePow, Nat.le_refl, Nat.add_left_cancel_iff, Nat.add_eq_left, Nat.left_eq_add, Nat.add_zero, em, nI_pos (show m < 2 ^ 31 by omega)]
          refine c90_133 (by simp [Value.category]) k1 (by omega) (x_stepsUp dk (by simp; omega) (by simp; omega)) (fun v h7 q => ?_) (fun v h7 q => by obtain ⟨_, q, -⟩ := q; cases q)
          obtain ⟨b, qv, rfl, dsb⟩ := q
          cases qv
          have hdr : (l :: L).drop m = (l :: L)[m] :: (l :: L).drop (m + 1) := List.drop_eq_getElem_cons (by simp; omega)
          rw [hdr] at dsb
          simp only [r90_0, r90_0n, r90_1, r90_5, r90_5n, r90_6, r90_6n, r90_7, r90_7n, r90_8, r90_9, r90_13, r90_13n, r90_17, r90_20, r90_20n, r90_21, r90_26, r90_27, r90_27n, r90_28, r90_31, r90_31n, r90_32, r90_32n, r90_33n, r90_33, r90_36, r90_36n, r90_37, r90_42, r90_43, r90_43n, r90_44, r90_47, r90_50, r90_50n, r90_51, r90_54, r90_55, r90_58, r90_58n, r90_59, r90_64, r90_65, r90_68, r90_68i, r90_69, r90_70, r90_70n, r90_71, r90_71n, r90_78, r90_78n, r90_80, r90_80n, r90_81, r90_81n, r90_83, r90_89, r90_89n, r90_90, r90_90n, r90_95, r90_97, r90_97n, r90_98, r90_98n, r90_99, r90_102, r90_103, r90_106, r90_108, r90_111, r90_116, r90_118, r90_118n, r90_119, r90_122, r90_126, r90_129, r90_129n, r90_130, r90_130n, r90_131, r90_136, r90_136n, r90_138, r90_142, r90_145, r90_148, r90_148n, r90_149, r90_152, r90_153, r90_156, r90_156n, r90_161, r90_164, r90_164n, r90_165, r90_170, r90_171, r90_171n, r90_172, r90_175, r90_178, r90_180, r90_182, r90_183, r90_185, i32_10, reduceIte, gm_cmp1, gm_cmp3, gm_cmp4, gm_kd_sf, gm_ln_sf, gm_sf_1, gm_sf_2, gm_nw_1, gm_nw_2, gm_k_int, gm_k_ref, gm_k_null, gm_k_u, gm_k_long, and_true, true_and, true_or, or_true, or_false, false_or, and_self, or_self, if_true, if_false, List.map_nil, List.map_cons, List.sum_nil, List.sum_cons, Nat.zero_le, Option.toList_some, Option.toList_none, List.cons_append, List.nil_append, ne_eq, not_false_eq_true, not_true_eq_false, nI_1, nI_add, Value.category, Nat.reduceAdd, Nat.reduceMod, Nat.reduceLeDiff, Nat.reduceLT, Nat.reduceEqDiff, Nat.reducePow, Nat.le_refl, Nat.add_left_cancel_iff, Nat.add_eq_left, Nat.left_eq_add, Nat.add_zero]
          refine c90_139 (by simp) (by simp [gm_en1]) Rk.1.1 (by omega) (x_readData (G := fun b => b = t ∨ b = t + 1) C hK hdp (by omega) (by omega) Rk hFk Ik hC dsb ⟨Or.inl rfl, Or.inr rfl⟩ (fun _ z => z)) (fun v h8 q => ?_) (fun _ _ q => q.er (fun f e => by rw [hr]; exact gs_b_er (gs_b_er e)) stk (fun b z => Or.inl (by omega)))
          obtain ⟨_, s8, e8, ⟨rfl, I8⟩, R8, mv8, le8, co8⟩ := q
          have I8 := I8 s8 e8
          have ds8 : gx_ds h8 x ca K F (l :: L) (.ref a) := by
            obtain ⟨i1, ob, i2, i3, i4⟩ := Ik
            obtain ⟨t', et, ok1, ok2, qk⟩ := Rk.thing i2
            rw [i1] at et
            cases et
            have kk1 := qk.1
            have kk2 := qk.2.2.2.2.2.2.1
            exact gx_ds.mdG (G := G) mv8.1 kk1 kk2 dk
          have htt : ∀ b, (b = t ∨ b = t + 1) → h.1 ≤ b ∨ G b := fun b z => Or.inl (by omega)
          simp only [r90_0, r90_0n, r90_1, r90_5, r90_5n, r90_6, r90_6n, r90_7, r90_7n, r90_8, r90_9, r90_13, r90_13n, r90_17, r90_20, r90_20n, r90_21, r90_26, r90_27, r90_27n, r90_28, r90_31, r90_31n, r90_32, r90_32n, r90_33n, r90_33, r90_36, r90_36n, r90_37, r90_42, r90_43, r90_43n, r90_44, r90_47, r90_50, r90_50n, r90_51, r90_54, r90_55, r90_58, r90_58n, r90_59, r90_64, r90_65, r90_68, r90_68i, r90_69, r90_70, r90_70n, r90_71, r90_71n, r90_78, r90_78n, r90_80, r90_80n, r90_81, r90_81n, r90_83, r90_89, r90_89n, r90_90, r90_90n, r90_95, r90_97, r90_97n, r90_98, r90_98n, r90_99, r90_102, r90_103, r90_106, r90_108, r90_111, r90_116, r90_118, r90_118n, r90_119, r90_122, r90_126, r90_129, r90_129n, r90_130, r90_130n, r90_131, r90_136, r90_136n, r90_138, r90_142, r90_145, r90_148, r90_148n, r90_149, r90_152, r90_153, r90_156, r90_156n, r90_161, r90_164, r90_164n, r90_165, r90_170, r90_171, r90_171n, r90_172, r90_175, r90_178, r90_180, r90_182, r90_183, r90_185, i32_10, reduceIte, gm_cmp1, gm_cmp3, gm_cmp4, gm_kd_sf, gm_ln_sf, gm_sf_1, gm_sf_2, gm_nw_1, gm_nw_2, gm_k_int, gm_k_ref, gm_k_null, gm_k_u, gm_k_long, and_true, true_and, true_or, or_true, or_false, false_or, and_self, or_self, if_true, if_false, List.map_nil, List.map_cons, List.sum_nil, List.sum_cons, Nat.zero_le, Option.toList_some, Option.toList_none, List.cons_append, List.nil_append, ne_eq, not_false_eq_true, not_true_eq_false, nI_1, nI_add, Value.category, Nat.reduceAdd, Nat.reduceMod, Nat.reduceLeDiff, Nat.reduceLT, Nat.reduceEqDiff, Nat.reducePow, Nat.le_refl, Nat.add_left_cancel_iff, Nat.add_eq_left, Nat.left_eq_add, Nat.add_zero]
          rw [← em, nI_dn]
          refine ih s8 h8 (by omega) R8 (fun b z => by have := hFk b z; have := mv8.1.1; omega) I8 (Nat.lt_of_lt_of_le hlt le8.2) ds8 (stk.trans mv8 le8 co8 htt) ?_
          rw [hr]
          exact gs_b_cg (gs_b_ok e8)
      have ds6' := ds6
      obtain ⟨_, _, _, ea6, -, -, -, k61, -, -, -, -, -, -, -, f68, -⟩ := ds6'
      cases ea6
      have eL : nI (L.length + 1) - 1 = nI L.length := nI_sub (b := 1) (by omega)
      simp only [r90_0, r90_0n, r90_1, r90_5, r90_5n, r90_6, r90_6n, r90_7, r90_7n, r90_8, r90_9, r90_13, r90_13n, r90_17, r90_20, r90_20n, r90_21, r90_26, r90_27, r90_27n, r90_28, r90_31, r90_31n, r90_32, r90_32n, r90_33n, r90_33, r90_36, r90_36n, r90_37, r90_42, r90_43, r90_43n, r90_44, r90_47, r90_50, r90_50n, r90_51, r90_54, r90_55, r90_58, r90_58n, r90_59, r90_64, r90_65, r90_68, r90_68i, r90_69, r90_70, r90_70n, r90_71, r90_71n, r90_78, r90_78n, r90_80, r90_80n, r90_81, r90_81n, r90_83, r90_89, r90_89n, r90_90, r90_90n, r90_95, r90_97, r90_97n, r90_98, r90_98n, r90_99, r90_102, r90_103, r90_106, r90_108, r90_111, r90_116, r90_118, r90_118n, r90_119, r90_122, r90_126, r90_129, r90_129n, r90_130, r90_130n, r90_131, r90_136, r90_136n, r90_138, r90_142, r90_145, r90_148, r90_148n, r90_149, r90_152, r90_153, r90_156, r90_156n, r90_161, r90_164, r90_164n, r90_165, r90_170, r90_171, r90_171n, r90_172, r90_175, r90_178, r90_180, r90_182, r90_183, r90_185, i32_10, reduceIte, gm_cmp1, gm_cmp3, gm_cmp4, gm_kd_sf, gm_ln_sf, gm_sf_1, gm_sf_2, gm_nw_1, gm_nw_2, gm_k_int, gm_k_ref, gm_k_null, gm_k_u, gm_k_long, and_true, true_and, true_or, or_true, or_false, false_or, and_self, or_self, if_true, if_false, List.map_nil, List.map_cons, List.sum_nil, List.sum_cons, Nat.zero_le, Option.toList_some, Option.toList_none, List.cons_append, List.nil_append, ne_eq, not_false_eq_true, not_true_eq_false, nI_1, nI_add, Value.category, Nat.reduceAdd, Nat.reduceMod, Nat.reduceLeDiff, Nat.reduceLT, Nat.reduceEqDiff, Nat.reducePow, Nat.le_refl, Nat.add_left_cancel_iff, Nat.add_eq_left, Nat.left_eq_add, Nat.add_zero, k61, f68]
      rw [← eL]
      refine loop (L.length + 1) s6 h6 (Nat.le_refl _) R6 hF6 I6 hlt6 ds6 st6 ?_
      rw [hres]
      have : (l :: L).take (L.length + 1) = l :: L := List.take_of_length_le (by simp)
      rw [this]
    by_cases k4 : gs_kind Cc = 4
    · rw [if_pos k4] at hres
      simp only [r90_0, r90_0n, r90_1, r90_5, r90_5n, r90_6, r90_6n, r90_7, r90_7n, r90_8, r90_9, r90_13, r90_13n, r90_17, r90_20, r90_20n, r90_21, r90_26, r90_27, r90_27n, r90_28, r90_31, r90_31n, r90_32, r90_32n, r90_33n, r90_33, r90_36, r90_36n, r90_37, r90_42, r90_43, r90_43n, r90_44, r90_47, r90_50, r90_50n, r90_51, r90_54, r90_55, r90_58, r90_58n, r90_59, r90_64, r90_65, r90_68, r90_68i, r90_69, r90_70, r90_70n, r90_71, r90_71n, r90_78, r90_78n, r90_80, r90_80n, r90_81, r90_81n, r90_83, r90_89, r90_89n, r90_90, r90_90n, r90_95, r90_97, r90_97n, r90_98, r90_98n, r90_99, r90_102, r90_103, r90_106, r90_108, r90_111, r90_116, r90_118, r90_118n, r90_119, r90_122, r90_124, r90_126, r90_129, r90_129n, r90_130, r90_130n, r90_131, r90_136, r90_136n, r90_138, r90_142, r90_145, r90_148, r90_148n, r90_149, r90_152, r90_153, r90_156, r90_156n, r90_161, r90_164, r90_164n, r90_165, r90_170, r90_171, r90_171n, r90_172, r90_175, r90_178, r90_180, r90_182, r90_183, r90_185, i32_10, reduceIte, gm_cmp1, gm_cmp3, gm_cmp4, gm_kd_sf, gm_ln_sf, gm_sf_1, gm_sf_2, gm_nw_1, gm_nw_2, gm_k_int, gm_k_ref, gm_k_null, gm_k_u, gm_k_long, and_true, true_and, true_or, or_true, or_false, false_or, and_self, or_self, if_true, if_false, List.map_nil, List.map_cons, List.sum_nil, List.sum_cons, Nat.zero_le, Option.toList_some, Option.toList_none, List.cons_append, List.nil_append, ne_eq, not_false_eq_true, not_true_eq_false, nI_1, nI_add, Value.category, Nat.reduceAdd, Nat.reduceMod, Nat.reduceLeDiff, Nat.reduceLT, Nat.reduceEqDiff, Nat.reducePow, Nat.le_refl, Nat.add_left_cancel_iff, Nat.add_eq_left, Nat.left_eq_add, Nat.add_zero, kc5, fk5, k4]
      exact walk (-2) hres
    · rw [if_neg k4] at hres
      simp only [r90_0, r90_0n, r90_1, r90_5, r90_5n, r90_6, r90_6n, r90_7, r90_7n, r90_8, r90_9, r90_13, r90_13n, r90_17, r90_20, r90_20n, r90_21, r90_26, r90_27, r90_27n, r90_28, r90_31, r90_31n, r90_32, r90_32n, r90_33n, r90_33, r90_36, r90_36n, r90_37, r90_42, r90_43, r90_43n, r90_44, r90_47, r90_50, r90_50n, r90_51, r90_54, r90_55, r90_58, r90_58n, r90_59, r90_64, r90_65, r90_68, r90_68i, r90_69, r90_70, r90_70n, r90_71, r90_71n, r90_78, r90_78n, r90_80, r90_80n, r90_81, r90_81n, r90_83, r90_89, r90_89n, r90_90, r90_90n, r90_95, r90_97, r90_97n, r90_98, r90_98n, r90_99, r90_102, r90_103, r90_106, r90_108, r90_111, r90_116, r90_118, r90_118n, r90_119, r90_122, r90_124, r90_126, r90_129, r90_129n, r90_130, r90_130n, r90_131, r90_136, r90_136n, r90_138, r90_142, r90_145, r90_148, r90_148n, r90_149, r90_152, r90_153, r90_156, r90_156n, r90_161, r90_164, r90_164n, r90_165, r90_170, r90_171, r90_171n, r90_172, r90_175, r90_178, r90_180, r90_182, r90_183, r90_185, i32_10, reduceIte, gm_cmp1, gm_cmp3, gm_cmp4, gm_kd_sf, gm_ln_sf, gm_sf_1, gm_sf_2, gm_nw_1, gm_nw_2, gm_k_int, gm_k_ref, gm_k_null, gm_k_u, gm_k_long, and_true, true_and, true_or, or_true, or_false, false_or, and_self, or_self, if_true, if_false, List.map_nil, List.map_cons, List.sum_nil, List.sum_cons, Nat.zero_le, Option.toList_some, Option.toList_none, List.cons_append, List.nil_append, ne_eq, not_false_eq_true, not_true_eq_false, nI_1, nI_add, Value.category, Nat.reduceAdd, Nat.reduceMod, Nat.reduceLeDiff, Nat.reduceLT, Nat.reduceEqDiff, Nat.reducePow, Nat.le_refl, Nat.add_left_cancel_iff, Nat.add_eq_left, Nat.left_eq_add, Nat.add_zero, kc5, fk5, k4]
      exact walk (nI o) hres
end Z1
