/-! THE CLASS, 15: arrays. -/
/-- what the class's reader has: no read where a rest has no byte left, rows of zeros, lengths to 20 -/
def gs_kok (K : gs_K) : Prop := gs_rst K = false ∧ gs_fill K = 0 ∧ K.1.2.2.1 ≤ 20
section Y6
variable {E : Nat → Value} {d x d0 dp : Nat} {h : gm_H} {ca : Nat → Nat} {K : gs_K} {F G : Nat → Prop} {s : gs_S} {rc : gs_M Int32}
theorem gx_st.md {h1 : gm_H} {s1 : gs_S} {b k i : Nat} {v : Value} {f : gs_O → gs_O} (p : gx_st h s x G h1 s1) (hb : h.1 ≤ b ∨ G b) (hx : b < x ∨ x + 6 < b) : gx_st h s x G (gm_sf h1 b k v) (s1.1, (gs_hp s1).modify i f, s1.2.2) := by
  have q := p.sf (k := k) (v := v) hb hx
  exact ⟨q.1, ⟨by have := q.2.1.1; simpa [gs_hp] using this, q.2.1.2⟩, q.2.2⟩
/-- the object at hand -/
theorem gx_R.hand {o t : Nat} (R : gx_R E h x ca K F s) (ho : o < (gs_hp s).length) (ht : gm_fv h (x + 3) o = .ref t) : gx_ok h x F t ∧ gx_ok h x F (t + 1) ∧ gx_th h ca (gs_hp s)[o] t := by
  obtain ⟨t', e, o1, o2, q⟩ := R.thing (List.getElem?_eq_getElem ho)
  rw [ht] at e
  cases e
  exact ⟨o1, o2, q⟩
theorem x_readArray (C : gx_RC E x ca K d0 (dp + 1) rc) (hK : gs_kok K) (hdp : dp < 1000) (hd : d0 + 16 ≤ d) (R : gx_R E h x ca K F s) (hF : ∀ a, F a → a < h.1) : gm_Ca E d 86 [.ref x, .int (nI dp)] h (gx_P E h x ca K F G s (fun a _ v => v = some (.int a)) (gs_arr K rc dp s)) := by
  obtain ⟨res, hres⟩ : ∃ res, res = gs_arr K rc dp s := ⟨_, rfl⟩
  rw [← hres]
  unfold gs_arr at hres
  show gm_W E d 86 0 [.ref x, .int (nI dp), gm_u, gm_u, gm_u, gm_u, gm_u, gm_u] [] h _
  simp only [r86_0, r86_0n, r86_1, r86_5, r86_5n, r86_6, r86_6n, r86_7, r86_7n, r86_8, r86_11, r86_11n, r86_12, r86_15, r86_20, r86_21, r86_22, r86_25, r86_25n, r86_26, r86_26n, r86_27, r86_30, r86_30n, r86_31, r86_34, r86_39, r86_42, r86_42n, r86_43, r86_48, r86_49, r86_49n, r86_53, r86_55, r86_57, r86_60, r86_60n, r86_61, r86_66, r86_67, r86_67n, r86_68, r86_68n, r86_69, r86_70, r86_75, r86_78, r86_78i, r86_79, r86_80, r86_83, r86_84, r86_87, r86_88, r86_89, r86_94, r86_94n, r86_96, r86_96n, r86_97, r86_97n, r86_102, r86_104, r86_104n, r86_105, r86_110, r86_110a, r86_110n, r86_111, r86_112, r86_114, r86_116, r86_118, r86_121, r86_121n, r86_123, r86_126, r86_128, r86_129, r86_132, r86_132n, r86_136, r86_137, r86_140, r86_140n, r86_141, r86_142, r86_143, r86_147, r86_148, r86_149, r86_152, r86_155, r86_157, i32_10, reduceIte, gm_cmp1, gm_cmp3, gm_cmp4, gm_kd_sf, gm_ln_sf, gm_sf_1, gm_sf_2, gm_nw_1, gm_nw_2, gm_k_int, gm_k_ref, gm_k_null, gm_k_u, gm_k_long, and_true, true_and, true_or, or_true, or_false, false_or, and_self, or_self, if_true, if_false, List.map_nil, List.map_cons, List.sum_nil, List.sum_cons, Nat.zero_le, Option.toList_some, Option.toList_none, List.cons_append, List.nil_append, ne_eq, not_false_eq_true, not_true_eq_false, nI_1, nI_add, Value.category, Nat.reduceAdd, Nat.reduceMod, Nat.reduceLeDiff, Nat.reduceLT, Nat.reduceEqDiff, Nat.reducePow, Nat.le_refl, Nat.add_left_cancel_iff, Nat.add_eq_left, Nat.left_eq_add, Nat.add_zero]
  refine c86_2 (by simp) R.1.1 (by omega) (x_readPresent (G := fun _ => False) C hK.1 hdp (by omega) R hF) (fun v h1 q => ?_) (fun _ _ q => q.er (s := s) (h := h) (fun f e => by rw [hres]; exact gs_have_er e) ⟨gx_mv.refl, gx_le.refl, gx_co.refl⟩ (fun _ z => z.elim))
  obtain ⟨⟨l, L⟩, s1, e1, ⟨⟨a, rfl, ds⟩, sur⟩, R1, mv1, le1, co1⟩ := q
  rw [gs_have_ok e1] at hres
  have st1 : gx_st h s x G h1 s1 := ⟨mv1.wk (fun _ z => z.elim), le1, co1⟩
  have ds' := ds
  obtain ⟨a', u, w, ea, o1, o2, o3, d1, d2, d3, d4, d5, d6, d7, d8, d9, d10, d11, d12, d13, d14, d15, d16, d17, d18, d19⟩ := ds'
  cases ea
  have hF1 : ∀ a, F a → a < h1.1 := fun a z => by have := hF a z; have := mv1.1.1; omega
  obtain ⟨-, -, g⟩ := R1.2.2.1.1.1
  have e2I : E (2 + 2) = E 4 := rfl
  have e2R : E (2 + 1) = E 3 := rfl
  have enI : (gm_en1 [.ref x, .int (nI (gs_nf l)), .int (nI (gs_nl l)), E 4]).length ≤ 5 := by
    obtain ⟨q, _, e, _⟩ := g 2 (by decide)
    rw [e2I] at e
    rw [e]; simp [gm_en1]
  have enR : (gm_en1 [.ref x, .int (nI (gs_nf l)), .int (nI (gs_nl l)), E 3]).length ≤ 5 := by
    obtain ⟨q, _, e, _⟩ := g 1 (by decide)
    rw [e2R] at e
    rw [e]; simp [gm_en1]
  -- behind the two questions
  obtain ⟨b, hb⟩ : ∃ b, b = gs_spelt K (gs_nf l) (gs_nl l) gs_tI := ⟨_, rfl⟩
  rw [← hb] at hres
  have after : ∀ res' : Except Int32 (Int32 × gs_S), res' = gs_b (gs_u4 K) (fun n => if n < 0 then gs_x (-6) else gs_b (gs_lim K l dp n) fun _ => gs_b (gs_addT (if b = true then 2 else 3, none, List.replicate n.toNatClampNeg (if b = true then 0 else gs_fill K), 0, 0)) fun o => gs_b (gs_addE (nI o)) fun _ => gs_b (if b = true then gs_ints K o n.toNatClampNeg 0 else gs_refs rc o n.toNatClampNeg 0) fun _ => gs_r (nI o)) s1 →
      gm_W E d 86 49 [.ref x, .int (nI dp), .ref a, .int (if b = true then 1 else 0), gm_u, gm_u, gm_u, gm_u] [] h1 (gx_P E h x ca K F G s (fun a _ v => v = some (.int a)) res') := by
    intro res hres
    simp only [r86_0, r86_0n, r86_1, r86_5, r86_5n, r86_6, r86_6n, r86_7, r86_7n, r86_8, r86_11, r86_11n, r86_12, r86_15, r86_20, r86_21, r86_22, r86_25, r86_25n, r86_26, r86_26n, r86_27, r86_30, r86_30n, r86_31, r86_34, r86_39, r86_42, r86_42n, r86_43, r86_48, r86_49, r86_49n, r86_53, r86_55, r86_57, r86_60, r86_60n, r86_61, r86_66, r86_67, r86_67n, r86_68, r86_68n, r86_69, r86_70, r86_75, r86_78, r86_78i, r86_79, r86_80, r86_83, r86_84, r86_87, r86_88, r86_89, r86_94, r86_94n, r86_96, r86_96n, r86_97, r86_97n, r86_102, r86_104, r86_104n, r86_105, r86_110, r86_110a, r86_110n, r86_111, r86_112, r86_114, r86_116, r86_118, r86_121, r86_121n, r86_123, r86_126, r86_128, r86_129, r86_132, r86_132n, r86_136, r86_137, r86_140, r86_140n, r86_141, r86_142, r86_143, r86_147, r86_148, r86_149, r86_152, r86_155, r86_157, i32_10, reduceIte, gm_cmp1, gm_cmp3, gm_cmp4, gm_kd_sf, gm_ln_sf, gm_sf_1, gm_sf_2, gm_nw_1, gm_nw_2, gm_k_int, gm_k_ref, gm_k_null, gm_k_u, gm_k_long, and_true, true_and, true_or, or_true, or_false, false_or, and_self, or_self, if_true, if_false, List.map_nil, List.map_cons, List.sum_nil, List.sum_cons, Nat.zero_le, Option.toList_some, Option.toList_none, List.cons_append, List.nil_append, ne_eq, not_false_eq_true, not_true_eq_false, nI_1, nI_add, Value.category, Nat.reduceAdd, Nat.reduceMod, Nat.reduceLeDiff, Nat.reduceLT, Nat.reduceEqDiff, Nat.reducePow, Nat.le_refl, Nat.add_left_cancel_iff, Nat.add_eq_left, Nat.left_eq_add, Nat.add_zero]
    refine c86_50 (by simp) R1.1.1 (by omega) (x_nextInt (G := fun _ => False) (by omega) R1) (fun v h2 q => ?_) (fun _ _ q => q.er (fun f e => by rw [hres]; exact gs_b_er e) st1 (fun _ z => z.elim))
    obtain ⟨n, s2, e2, ⟨rfl, na2⟩, R2, mv2, le2, co2⟩ := q
    rw [gs_b_ok e2] at hres
    have st2 := st1.trans mv2 le2 co2 (fun _ z => z.elim)
    have ep2 : gs_pl s2 = gs_pl s1 + 4 := by
      unfold gs_u4 at e2
      cases q : gs_nxt K 4 s1 with
      | error c => rw [gs_b_er q] at e2; cases e2
      | ok p =>
        rw [gs_b_ok (a := p.1) (s1 := p.2) q] at e2
        have := (gs_nxt_eq (v := p.1) (s1 := p.2) q).2
        cases e2
        rw [this]
        rfl
    by_cases hn0 : n < 0
    · have hn0' : ¬ 0 ≤ n := Int32.not_le.mpr hn0
      rw [if_pos hn0] at hres
      simp only [r86_0, r86_0n, r86_1, r86_5, r86_5n, r86_6, r86_6n, r86_7, r86_7n, r86_8, r86_11, r86_11n, r86_12, r86_15, r86_20, r86_21, r86_22, r86_25, r86_25n, r86_26, r86_26n, r86_27, r86_30, r86_30n, r86_31, r86_34, r86_39, r86_42, r86_42n, r86_43, r86_48, r86_49, r86_49n, r86_53, r86_55, r86_57, r86_60, r86_60n, r86_61, r86_66, r86_67, r86_67n, r86_68, r86_68n, r86_69, r86_70, r86_75, r86_78, r86_78i, r86_79, r86_80, r86_83, r86_84, r86_87, r86_88, r86_89, r86_94, r86_94n, r86_96, r86_96n, r86_97, r86_97n, r86_102, r86_104, r86_104n, r86_105, r86_110, r86_110a, r86_110n, r86_111, r86_112, r86_114, r86_116, r86_118, r86_121, r86_121n, r86_123, r86_126, r86_128, r86_129, r86_132, r86_132n, r86_136, r86_137, r86_140, r86_140n, r86_141, r86_142, r86_143, r86_147, r86_148, r86_149, r86_152, r86_155, r86_157, i32_10, reduceIte, gm_cmp1, gm_cmp3, gm_cmp4, gm_kd_sf, gm_ln_sf, gm_sf_1, gm_sf_2, gm_nw_1, gm_nw_2, gm_k_int, gm_k_ref, gm_k_null, gm_k_u, gm_k_long, and_true, true_and, true_or, or_true, or_false, false_or, and_self, or_self, if_true, if_false, List.map_nil, List.map_cons, List.sum_nil, List.sum_cons, Nat.zero_le, Option.toList_some, Option.toList_none, List.cons_append, List.nil_append, ne_eq, not_false_eq_true, not_true_eq_false, nI_1, nI_add, Value.category, Nat.reduceAdd, Nat.reduceMod, Nat.reduceLeDiff, Nat.reduceLT, Nat.reduceEqDiff, Nat.reducePow, Nat.le_refl, Nat.add_left_cancel_iff, Nat.add_eq_left, Nat.left_eq_add, Nat.add_zero, hn0']
      exact c86_63 (by simp) R2.1.1 (by omega) (x_fail (G := G) (α := Unit) (val := fun _ _ _ => True) R2) gx_fn (fun _ _ q => q.er (fun f e => by cases e; rw [hres]; rfl) st2 (fun _ z => Or.inr z))
    obtain ⟨m, hm, rfl⟩ := nI_of hn0
    rw [if_neg hn0, nI_clamp hm] at hres
    have hn0' : 0 ≤ nI m := nI_pos' hm
    have ds2 : gx_ds h2 x ca K F (l :: L) (.ref a) := ds.tr (mv2.1.wk (fun _ z => z.elim))
    simp only [r86_0, r86_0n, r86_1, r86_5, r86_5n, r86_6, r86_6n, r86_7, r86_7n, r86_8, r86_11, r86_11n, r86_12, r86_15, r86_20, r86_21, r86_22, r86_25, r86_25n, r86_26, r86_26n, r86_27, r86_30, r86_30n, r86_31, r86_34, r86_39, r86_42, r86_42n, r86_43, r86_48, r86_49, r86_49n, r86_53, r86_55, r86_57, r86_60, r86_60n, r86_61, r86_66, r86_67, r86_67n, r86_68, r86_68n, r86_69, r86_70, r86_75, r86_78, r86_78i, r86_79, r86_80, r86_83, r86_84, r86_87, r86_88, r86_89, r86_94, r86_94n, r86_96, r86_96n, r86_97, r86_97n, r86_102, r86_104, r86_104n, r86_105, r86_110, r86_110a, r86_110n, r86_111, r86_112, r86_114, r86_116, r86_118, r86_121, r86_121n, r86_123, r86_126, r86_128, r86_129, r86_132, r86_132n, r86_136, r86_137, r86_140, r86_140n, r86_141, r86_142, r86_143, r86_147, r86_148, r86_149, r86_152, r86_155, r86_157, i32_10, reduceIte, gm_cmp1, gm_cmp3, gm_cmp4, gm_kd_sf, gm_ln_sf, gm_sf_1, gm_sf_2, gm_nw_1, gm_nw_2, gm_k_int, gm_k_ref, gm_k_null, gm_k_u, gm_k_long, and_true, true_and, true_or, or_true, or_false, false_or, and_self, or_self, if_true, if_false, List.map_nil, List.map_cons, List.sum_nil, List.sum_cons, Nat.zero_le, Option.toList_some, Option.toList_none, List.cons_append, List.nil_append, ne_eq, not_false_eq_true, not_true_eq_false, nI_1, nI_add, Value.category, Nat.reduceAdd, Nat.reduceMod, Nat.reduceLeDiff, Nat.reduceLT, Nat.reduceEqDiff, Nat.reducePow, Nat.le_refl, Nat.add_left_cancel_iff, Nat.add_eq_left, Nat.left_eq_add, Nat.add_zero, hn0']
    refine c86_72 (by simp) (by simp [gm_en1]) R2.1.1 (by omega) (x_askLimits (G := fun _ => False) (by omega) hdp R2 ds2) (fun v h3 q => ?_) (fun _ _ q => q.er (fun f e => by rw [hres]; exact gs_b_er e) st2 (fun _ z => z.elim))
    obtain ⟨_, s3, e3, ⟨rfl, na3⟩, R3, mv3, le3, co3⟩ := q
    rw [gs_b_ok e3] at hres
    have st3 := st2.trans mv3 le3 co3 (fun _ z => z.elim)
    have hm20 : m ≤ 20 ∧ s3 = s2 := by
      unfold gs_lim at e3
      split at e3
      · cases e3
      · rename_i hz
        cases e3
        refine ⟨?_, rfl⟩
        have z1 : ¬ K.1.2.2.1 < nI m := fun z => hz (Or.inr (Or.inr (Or.inr (Or.inl z))))
        have z2 : nI m ≤ 20 := Int32.le_trans (Int32.not_lt.mp z1) hK.2.2
        exact (nI_leI (b := 20) hm (by decide)).mp z2
    obtain ⟨hm20, es3⟩ := hm20
    have hF3 : ∀ a, F a → a < h3.1 := fun a z => by have := hF1 a z; have := mv2.1.1; have := mv3.1.1; omega
    have ht3 := R3.top
    have hm1 : m < 1000 := by omega
    -- the new array
    obtain ⟨so, hso⟩ : ∃ so : Int32, so = if b = true then 2 else 3 := ⟨_, rfl⟩
    obtain ⟨h4, h4e⟩ : ∃ h4, h4 = gx_mk (gx_n1 h3) h3.1 so (gx_ow ca none) m := ⟨_, rfl⟩
    have r4 : ∀ b, b < h3.1 → gm_rd h4 b = gm_rd h3 b := by rw [h4e]; exact gx_mk_rd
    have t4 : gx_th h4 ca (so, none, List.replicate m 0, 0, 0) h3.1 := by rw [h4e]; exact gx_mk_th hm1
    have c4 : h4.1 = h3.1 + 2 ∧ h4.2.1 = h3.2.1 + 5 + m := by rw [h4e]; exact gx_mk_1
    have R4 : gx_R E h4 x ca K F s3 := R3.far (by omega) r4
    have hok : gx_ok h4 x F h3.1 ∧ gx_ok h4 x F (h3.1 + 1) := ⟨⟨Or.inr ht3, by omega, fun z => by have := hF3 _ z; omega⟩, ⟨Or.inr (by omega), by omega, fun z => by have := hF3 _ z; omega⟩⟩
    have hbt : ∀ i u, i < (gs_hp s3).length → gm_fv h4 (x + 3) i = .ref u → u + 1 < h3.1 := by
      intro i u hi hu
      rw [gv_fv (r4 (x + 3) (by omega))] at hu
      exact R3.below i u hi hu
    have st4 : gx_st h s x G h4 s3 := by
      refine ⟨st3.1.trans (G1 := G) (gx_mv.far ht3 (by omega) r4) st3.2.1 (fun _ z => Or.inr z), st3.2.1, ?_⟩
      obtain ⟨a1, b1⟩ := co1
      obtain ⟨a2, b2⟩ := na2
      obtain ⟨a3, b3⟩ := na3
      unfold gx_co
      rw [es3]
      omega
    have hres4 : res = gs_b (gs_addT (so, none, List.replicate m 0, 0, 0)) (fun o => gs_b (gs_addE (nI o)) fun _ => gs_b (if b = true then gs_ints K o m 0 else gs_refs rc o m 0) fun _ => gs_r (nI o)) s3 := by
      rw [hres, hso, hK.2.1]
      cases b <;> rfl
    clear hres
    have walk : gm_W E d 86 94 [.ref x, .int (nI dp), .ref a, .int (if b = true then 1 else 0), .int (nI m), gm_u, gm_u, gm_u] [.ref h3.1] h4 (gx_P E h x ca K F G s (fun a _ v => v = some (.int a)) res) := by
      simp only [r86_0, r86_0n, r86_1, r86_5, r86_5n, r86_6, r86_6n, r86_7, r86_7n, r86_8, r86_11, r86_11n, r86_12, r86_15, r86_20, r86_21, r86_22, r86_25, r86_25n, r86_26, r86_26n, r86_27, r86_30, r86_30n, r86_31, r86_34, r86_39, r86_42, r86_42n, r86_43, r86_48, r86_49, r86_49n, r86_53, r86_55, r86_57, r86_60, r86_60n, r86_61, r86_66, r86_67, r86_67n, r86_68, r86_68n, r86_69, r86_70, r86_75, r86_78, r86_78i, r86_79, r86_80, r86_83, r86_84, r86_87, r86_88, r86_89, r86_94, r86_94n, r86_96, r86_96n, r86_97, r86_97n, r86_102, r86_104, r86_104n, r86_105, r86_110, r86_110a, r86_110n, r86_111, r86_112, r86_114, r86_116, r86_118, r86_121, r86_121n, r86_123, r86_126, r86_128, r86_129, r86_132, r86_132n, r86_136, r86_137, r86_140, r86_140n, r86_141, r86_142, r86_143, r86_147, r86_148, r86_149, r86_152, r86_155, r86_157, i32_10, reduceIte, gm_cmp1, gm_cmp3, gm_cmp4, gm_kd_sf, gm_ln_sf, gm_sf_1, gm_sf_2, gm_nw_1, gm_nw_2, gm_k_int, gm_k_ref, gm_k_null, gm_k_u, gm_k_long, and_true, true_and, true_or, or_true, or_false, false_or, and_self, or_self, if_true, if_false, List.map_nil, List.map_cons, List.sum_nil, List.sum_cons, Nat.zero_le, Option.toList_some, Option.toList_none, List.cons_append, List.nil_append, ne_eq, not_false_eq_true, not_true_eq_false, nI_1, nI_add, Value.category, Nat.reduceAdd, Nat.reduceMod, Nat.reduceLeDiff, Nat.reduceLT, Nat.reduceEqDiff, Nat.reducePow, Nat.le_refl, Nat.add_left_cancel_iff, Nat.add_eq_left, Nat.left_eq_add, Nat.add_zero]
      refine c86_99 (by simp) (by simp [gm_en1]) R4.1.1 (by omega) (x_addThing (G := fun _ => False) (by omega) R4 (fun c e => by cases e) t4 hok hbt) (fun v h5 q => ?_) (fun _ _ q => q.er (fun f e => by rw [hres4]; exact gs_b_er e) st4 (fun _ z => z.elim))
      obtain ⟨o, s5, e5, ⟨⟨rfl, na5⟩, f5⟩, R5, mv5, le5, co5⟩ := q
      rw [gs_b_ok e5] at hres4
      obtain ⟨eo, es5⟩ := gs_addT_ok e5
      have st5 := st4.trans mv5 le5 co5 (fun _ z => z.elim)
      simp only [r86_0, r86_0n, r86_1, r86_5, r86_5n, r86_6, r86_6n, r86_7, r86_7n, r86_8, r86_11, r86_11n, r86_12, r86_15, r86_20, r86_21, r86_22, r86_25, r86_25n, r86_26, r86_26n, r86_27, r86_30, r86_30n, r86_31, r86_34, r86_39, r86_42, r86_42n, r86_43, r86_48, r86_49, r86_49n, r86_53, r86_55, r86_57, r86_60, r86_60n, r86_61, r86_66, r86_67, r86_67n, r86_68, r86_68n, r86_69, r86_70, r86_75, r86_78, r86_78i, r86_79, r86_80, r86_83, r86_84, r86_87, r86_88, r86_89, r86_94, r86_94n, r86_96, r86_96n, r86_97, r86_97n, r86_102, r86_104, r86_104n, r86_105, r86_110, r86_110a, r86_110n, r86_111, r86_112, r86_114, r86_116, r86_118, r86_121, r86_121n, r86_123, r86_126, r86_128, r86_129, r86_132, r86_132n, r86_136, r86_137, r86_140, r86_140n, r86_141, r86_142, r86_143, r86_147, r86_148, r86_149, r86_152, r86_155, r86_157, i32_10, reduceIte, gm_cmp1, gm_cmp3, gm_cmp4, gm_kd_sf, gm_ln_sf, gm_sf_1, gm_sf_2, gm_nw_1, gm_nw_2, gm_k_int, gm_k_ref, gm_k_null, gm_k_u, gm_k_long, and_true, true_and, true_or, or_true, or_false, false_or, and_self, or_self, if_true, if_false, List.map_nil, List.map_cons, List.sum_nil, List.sum_cons, Nat.zero_le, Option.toList_some, Option.toList_none, List.cons_append, List.nil_append, ne_eq, not_false_eq_true, not_true_eq_false, nI_1, nI_add, Value.category, Nat.reduceAdd, Nat.reduceMod, Nat.reduceLeDiff, Nat.reduceLT, Nat.reduceEqDiff, Nat.reducePow, Nat.le_refl, Nat.add_left_cancel_iff, Nat.add_eq_left, Nat.left_eq_add, Nat.add_zero]
      refine c86_107 (by simp) R5.1.1 (by omega) (x_addEntry (G := fun _ => False) (by omega) R5) (fun v h6 q => ?_) (fun _ _ q => q.er (fun f e => by rw [hres4]; exact gs_b_er e) st5 (fun _ z => z.elim))
      obtain ⟨e, s6, e6, ⟨rfl, na6⟩, R6, mv6, le6, co6⟩ := q
      rw [gs_b_ok e6] at hres4
      obtain ⟨ee, es6⟩ := gs_addE_ok e6
      have st6 := st5.trans mv6 le6 co6 (fun _ z => z.elim)
      have ho5 : o < (gs_hp s5).length := by rw [es5, eo]; simp [gs_hp]
      have ho6 : o < (gs_hp s6).length := Nat.lt_of_lt_of_le ho5 le6.1
      have f6 : gm_fv h6 (x + 3) o = .ref h3.1 := (mv6.2.2.2.1 o ho5).trans f5
      have h45 : h4.1 ≤ h5.1 := mv5.1.1
      have h56 : h5.1 ≤ h6.1 := mv6.1.1
      have l6 : gm_ln h6 (h3.1 + 1) = m := by
        rw [gv_ln (mv6.1.2 _ ⟨Or.inr (by omega), by omega, fun z => z⟩), gv_ln (mv5.1.2 _ ⟨Or.inr (by omega), by omega, fun z => z⟩), t4.2.2.2.2.2.2.2.1]
        simp
      have hF6 : ∀ a, F a → a < h6.1 := fun a z => by have := hF3 a z; omega
      have hh3 : h.1 ≤ h3.1 := st3.1.1.1
      have fin : ∀ (sk : gs_S) (hk : gm_H) (w3 : Value), gx_R E hk x ca K F sk → gx_st h s x G hk sk → res = .ok (nI o, sk) → gm_W E d 86 114 [.ref x, .int (nI dp), .ref a, w3, .int (nI m), .ref h3.1, .int (nI o), .int (nI m)] [] hk (gx_P E h x ca K F G s (fun a _ v => v = some (.int a)) res) := by
        intro sk hk w3 Rk stk e
        simp only [r86_0, r86_0n, r86_1, r86_5, r86_5n, r86_6, r86_6n, r86_7, r86_7n, r86_8, r86_11, r86_11n, r86_12, r86_15, r86_20, r86_21, r86_22, r86_25, r86_25n, r86_26, r86_26n, r86_27, r86_30, r86_30n, r86_31, r86_34, r86_39, r86_42, r86_42n, r86_43, r86_48, r86_49, r86_49n, r86_53, r86_55, r86_57, r86_60, r86_60n, r86_61, r86_66, r86_67, r86_67n, r86_68, r86_68n, r86_69, r86_70, r86_75, r86_78, r86_78i, r86_79, r86_80, r86_83, r86_84, r86_87, r86_88, r86_89, r86_94, r86_94n, r86_96, r86_96n, r86_97, r86_97n, r86_102, r86_104, r86_104n, r86_105, r86_110, r86_110a, r86_110n, r86_111, r86_112, r86_114, r86_116, r86_118, r86_121, r86_121n, r86_123, r86_126, r86_128, r86_129, r86_132, r86_132n, r86_136, r86_137, r86_140, r86_140n, r86_141, r86_142, r86_143, r86_147, r86_148, r86_149, r86_152, r86_155, r86_157, i32_10, reduceIte, gm_cmp1, gm_cmp3, gm_cmp4, gm_kd_sf, gm_ln_sf, gm_sf_1, gm_sf_2, gm_nw_1, gm_nw_2, gm_k_int, gm_k_ref, gm_k_null, gm_k_u, gm_k_long, and_true, true_and, true_or, or_true, or_false, false_or, and_self, or_self, if_true, if_false, List.map_nil, List.map_cons, List.sum_nil, List.sum_cons, Nat.zero_le, Option.toList_some, Option.toList_none, List.cons_append, List.nil_append, ne_eq, not_false_eq_true, not_true_eq_false, nI_1, nI_add, Value.category, Nat.reduceAdd, Nat.reduceMod, Nat.reduceLeDiff, Nat.reduceLT, Nat.reduceEqDiff, Nat.reducePow, Nat.le_refl, Nat.add_left_cancel_iff, Nat.add_eq_left, Nat.left_eq_add, Nat.add_zero, nI_leT (Nat.le_refl m) (show m < 2 ^ 31 by omega)]
        rw [e]
        exact ⟨nI o, sk, rfl, rfl, Rk, stk.1, stk.2.1, stk.2.2⟩
      cases b with
      | true =>
        have loop : ∀ (j k : Nat) (sk : gs_S) (hk : gm_H), k + j = m → gx_R E hk x ca K F sk → o < (gs_hp sk).length → gm_fv hk (x + 3) o = .ref h3.1 → gm_ln hk (h3.1 + 1) = m → gx_st h s x G hk sk → res = gs_b (gs_ints K o j k) (fun _ => gs_r (nI o)) sk →
            gm_W E d 86 114 [.ref x, .int (nI dp), .ref a, .int 1, .int (nI m), .ref h3.1, .int (nI o), .int (nI k)] [] hk (gx_P E h x ca K F G s (fun a _ v => v = some (.int a)) res) := by
          intro j
          induction j with
          | zero =>
            intro k sk hk hkj Rk ho ht hl stk hr
            have hkj : k = m := by omega
            subst hkj
            exact fin sk hk _ Rk stk hr
          | succ j ih =>
            intro k sk hk hkj Rk ho ht hl stk hr
            have hkm : k < m := by omega
            obtain ⟨p1, p2, q⟩ := Rk.hand ho ht
            obtain ⟨q1, q2, q3, q4, q5, q6, q7, q8, q9, q10⟩ := q
            rw [r86_114]
            simp only [r86_0, r86_0n, r86_1, r86_5, r86_5n, r86_6, r86_6n, r86_7, r86_7n, r86_8, r86_11, r86_11n, r86_12, r86_15, r86_20, r86_21, r86_22, r86_25, r86_25n, r86_26, r86_26n, r86_27, r86_30, r86_30n, r86_31, r86_34, r86_39, r86_42, r86_42n, r86_43, r86_48, r86_49, r86_49n, r86_53, r86_55, r86_57, r86_60, r86_60n, r86_61, r86_66, r86_67, r86_67n, r86_68, r86_68n, r86_69, r86_70, r86_75, r86_78, r86_78i, r86_79, r86_80, r86_83, r86_84, r86_87, r86_88, r86_89, r86_94, r86_94n, r86_96, r86_96n, r86_97, r86_97n, r86_102, r86_104, r86_104n, r86_105, r86_110, r86_110a, r86_110n, r86_111, r86_112, r86_116, r86_118, r86_121, r86_121n, r86_123, r86_126, r86_128, r86_129, r86_132, r86_132n, r86_136, r86_137, r86_140, r86_140n, r86_141, r86_142, r86_143, r86_147, r86_148, r86_149, r86_152, r86_155, r86_157, i32_10, reduceIte, gm_cmp1, gm_cmp3, gm_cmp4, gm_kd_sf, gm_ln_sf, gm_sf_1, gm_sf_2, gm_nw_1, gm_nw_2, gm_k_int, gm_k_ref, gm_k_null, gm_k_u, gm_k_long, and_true, true_and, true_or, or_true, or_false, false_or, and_self, or_self, if_true, if_false, List.map_nil, List.map_cons, List.sum_nil, List.sum_cons, Nat.zero_le, Option.toList_some, Option.toList_none, List.cons_append, List.nil_append, ne_eq, not_false_eq_true, not_true_eq_false, nI_1, nI_add, Value.category, Nat.reduceAdd, Nat.reduceMod, Nat.reduceLeDiff, Nat.reduceLT, Nat.reduceEqDiff, Nat.reducePow, Nat.le_refl, Nat.add_left_cancel_iff, Nat.add_eq_left, Nat.left_eq_add, Nat.add_zero, nI_leF hkm (show m < 2 ^ 31 by omega), q1, q4]
            refine c86_133 (by simp [Value.category]) Rk.1.1 (by omega) (x_nextInt (G := fun _ => False) (by omega) Rk) (fun v h7 q => ?_) (fun _ _ q => q.er (fun f e => by rw [hr]; exact gs_b_er (gs_b_er e)) stk (fun _ z => z.elim))
            obtain ⟨v, s7, e7, ⟨rfl, na7⟩, R7, mv7, le7, co7⟩ := q
            have st7 := stk.trans mv7 le7 co7 (fun _ z => z.elim)
            have ht7 : gm_fv h7 (x + 3) o = .ref h3.1 := (mv7.2.2.2.1 o ho).trans ht
            have ho7 : o < (gs_hp s7).length := Nat.lt_of_lt_of_le ho le7.1
            have rl7 : gm_rd h7 (h3.1 + 1) = gm_rd hk (h3.1 + 1) := mv7.1.2 _ ⟨p2.1, p2.2.1, fun z => z⟩
            have hl7 : gm_ln h7 (h3.1 + 1) = m := (gv_ln rl7).trans hl
            have k7 : gm_kd h7 (h3.1 + 1) = 101 := (gv_kd rl7).trans q7
            obtain ⟨-, -, qq⟩ := R7.hand ho7 ht7
            have lv7 : (gs_hp s7)[o].2.2.1.length = m := by rw [← qq.2.2.2.2.2.2.2.1]; exact hl7
            have hm31 : m < 2147483648 := by omega
            simp only [r86_0, r86_0n, r86_1, r86_5, r86_5n, r86_6, r86_6n, r86_7, r86_7n, r86_8, r86_11, r86_11n, r86_12, r86_15, r86_20, r86_21, r86_22, r86_25, r86_25n, r86_26, r86_26n, r86_27, r86_30, r86_30n, r86_31, r86_34, r86_39, r86_42, r86_42n, r86_43, r86_48, r86_49, r86_49n, r86_53, r86_55, r86_57, r86_60, r86_60n, r86_61, r86_66, r86_67, r86_67n, r86_68, r86_68n, r86_69, r86_70, r86_75, r86_78, r86_78i, r86_79, r86_80, r86_83, r86_84, r86_87, r86_88, r86_89, r86_94, r86_94n, r86_96, r86_96n, r86_97, r86_97n, r86_102, r86_104, r86_104n, r86_105, r86_110, r86_110a, r86_110n, r86_111, r86_112, r86_116, r86_118, r86_121, r86_121n, r86_123, r86_126, r86_128, r86_129, r86_132, r86_132n, r86_136, r86_137, r86_140, r86_140n, r86_141, r86_142, r86_143, r86_147, r86_148, r86_149, r86_152, r86_155, r86_157, i32_10, reduceIte, gm_cmp1, gm_cmp3, gm_cmp4, gm_kd_sf, gm_ln_sf, gm_sf_1, gm_sf_2, gm_nw_1, gm_nw_2, gm_k_int, gm_k_ref, gm_k_null, gm_k_u, gm_k_long, and_true, true_and, true_or, or_true, or_false, false_or, and_self, or_self, if_true, if_false, List.map_nil, List.map_cons, List.sum_nil, List.sum_cons, Nat.zero_le, Option.toList_some, Option.toList_none, List.cons_append, List.nil_append, ne_eq, not_false_eq_true, not_true_eq_false, nI_1, nI_add, Value.category, Nat.reduceAdd, Nat.reduceMod, Nat.reduceLeDiff, Nat.reduceLT, Nat.reduceEqDiff, Nat.reducePow, Nat.le_refl, Nat.add_left_cancel_iff, Nat.add_eq_left, Nat.left_eq_add, Nat.add_zero, k7, hl7, hkm, hm31]
            refine ih (k + 1) _ _ (by omega) (R7.setv (List.getElem?_eq_getElem ho7) ht7 (by rw [lv7]; exact hkm)) ?_ ?_ ?_ (st7.md (Or.inl (by omega)) (Or.inr (by omega))) ?_
            · simpa [gs_hp] using ho7
            · rw [gm_fv_sfa (by omega)]; exact ht7
            · rw [gm_ln_sf]; exact hl7
            · rw [hr]
              refine gs_b_cg ?_
              show gs_b (gs_u4 K) _ sk = _
              rw [gs_b_ok e7]
              rfl
        simp only [r86_0, r86_0n, r86_1, r86_5, r86_5n, r86_6, r86_6n, r86_7, r86_7n, r86_8, r86_11, r86_11n, r86_12, r86_15, r86_20, r86_21, r86_22, r86_25, r86_25n, r86_26, r86_26n, r86_27, r86_30, r86_30n, r86_31, r86_34, r86_39, r86_42, r86_42n, r86_43, r86_48, r86_49, r86_49n, r86_53, r86_55, r86_57, r86_60, r86_60n, r86_61, r86_66, r86_67, r86_67n, r86_68, r86_68n, r86_69, r86_70, r86_75, r86_78, r86_78i, r86_79, r86_80, r86_83, r86_84, r86_87, r86_88, r86_89, r86_94, r86_94n, r86_96, r86_96n, r86_97, r86_97n, r86_102, r86_104, r86_104n, r86_105, r86_110, r86_110a, r86_110n, r86_111, r86_112, r86_116, r86_118, r86_121, r86_121n, r86_123, r86_126, r86_128, r86_129, r86_132, r86_132n, r86_136, r86_137, r86_140, r86_140n, r86_141, r86_142, r86_143, r86_147, r86_148, r86_149, r86_152, r86_155, r86_157, i32_10, reduceIte, gm_cmp1, gm_cmp3, gm_cmp4, gm_kd_sf, gm_ln_sf, gm_sf_1, gm_sf_2, gm_nw_1, gm_nw_2, gm_k_int, gm_k_ref, gm_k_null, gm_k_u, gm_k_long, and_true, true_and, true_or, or_true, or_false, false_or, and_self, or_self, if_true, if_false, List.map_nil, List.map_cons, List.sum_nil, List.sum_cons, Nat.zero_le, Option.toList_some, Option.toList_none, List.cons_append, List.nil_append, ne_eq, not_false_eq_true, not_true_eq_false, nI_1, nI_add, Value.category, Nat.reduceAdd, Nat.reduceMod, Nat.reduceLeDiff, Nat.reduceLT, Nat.reduceEqDiff, Nat.reducePow, Nat.le_refl, Nat.add_left_cancel_iff, Nat.add_eq_left, Nat.left_eq_add, Nat.add_zero]
        exact loop m 0 s6 h6 (by omega) R6 ho6 f6 l6 st6 hres4
      | false =>
        have loop : ∀ (j k : Nat) (sk : gs_S) (hk : gm_H), k + j = m → gx_R E hk x ca K F sk → (∀ a, F a → a < hk.1) → o < (gs_hp sk).length → gm_fv hk (x + 3) o = .ref h3.1 → gm_ln hk (h3.1 + 1) = m → gx_st h s x G hk sk → res = gs_b (gs_refs rc o j k) (fun _ => gs_r (nI o)) sk →
            gm_W E d 86 114 [.ref x, .int (nI dp), .ref a, .int 0, .int (nI m), .ref h3.1, .int (nI o), .int (nI k)] [] hk (gx_P E h x ca K F G s (fun a _ v => v = some (.int a)) res) := by
          intro j
          induction j with
          | zero =>
            intro k sk hk hkj Rk hFk ho ht hl stk hr
            have hkj : k = m := by omega
            subst hkj
            exact fin sk hk _ Rk stk hr
          | succ j ih =>
            intro k sk hk hkj Rk hFk ho ht hl stk hr
            have hkm : k < m := by omega
            obtain ⟨p1, p2, q⟩ := Rk.hand ho ht
            obtain ⟨q1, q2, q3, q4, q5, q6, q7, q8, q9, q10⟩ := q
            rw [r86_114]
            simp only [r86_0, r86_0n, r86_1, r86_5, r86_5n, r86_6, r86_6n, r86_7, r86_7n, r86_8, r86_11, r86_11n, r86_12, r86_15, r86_20, r86_21, r86_22, r86_25, r86_25n, r86_26, r86_26n, r86_27, r86_30, r86_30n, r86_31, r86_34, r86_39, r86_42, r86_42n, r86_43, r86_48, r86_49, r86_49n, r86_53, r86_55, r86_57, r86_60, r86_60n, r86_61, r86_66, r86_67, r86_67n, r86_68, r86_68n, r86_69, r86_70, r86_75, r86_78, r86_78i, r86_79, r86_80, r86_83, r86_84, r86_87, r86_88, r86_89, r86_94, r86_94n, r86_96, r86_96n, r86_97, r86_97n, r86_102, r86_104, r86_104n, r86_105, r86_110, r86_110a, r86_110n, r86_111, r86_112, r86_116, r86_118, r86_121, r86_121n, r86_123, r86_126, r86_128, r86_129, r86_132, r86_132n, r86_136, r86_137, r86_140, r86_140n, r86_141, r86_142, r86_143, r86_147, r86_148, r86_149, r86_152, r86_155, r86_157, i32_10, reduceIte, gm_cmp1, gm_cmp3, gm_cmp4, gm_kd_sf, gm_ln_sf, gm_sf_1, gm_sf_2, gm_nw_1, gm_nw_2, gm_k_int, gm_k_ref, gm_k_null, gm_k_u, gm_k_long, and_true, true_and, true_or, or_true, or_false, false_or, and_self, or_self, if_true, if_false, List.map_nil, List.map_cons, List.sum_nil, List.sum_cons, Nat.zero_le, Option.toList_some, Option.toList_none, List.cons_append, List.nil_append, ne_eq, not_false_eq_true, not_true_eq_false, nI_1, nI_add, Value.category, Nat.reduceAdd, Nat.reduceMod, Nat.reduceLeDiff, Nat.reduceLT, Nat.reduceEqDiff, Nat.reducePow, Nat.le_refl, Nat.add_left_cancel_iff, Nat.add_eq_left, Nat.left_eq_add, Nat.add_zero, nI_leF hkm (show m < 2 ^ 31 by omega), q1, q4]
            refine c86_144 (by simp [Value.category]) Rk.1.1 (by omega) (C (d - 1) hk sk F (fun _ => False) (by omega) Rk hFk) (fun v h7 q => ?_) (fun _ _ q => q.er (fun f e => by rw [hr]; exact gs_b_er (gs_b_er e)) stk (fun _ z => z.elim))
            obtain ⟨v, s7, e7, rfl, R7, mv7, le7, co7⟩ := q
            have st7 := stk.trans mv7 le7 co7 (fun _ z => z.elim)
            have ht7 : gm_fv h7 (x + 3) o = .ref h3.1 := (mv7.2.2.2.1 o ho).trans ht
            have ho7 : o < (gs_hp s7).length := Nat.lt_of_lt_of_le ho le7.1
            have rl7 : gm_rd h7 (h3.1 + 1) = gm_rd hk (h3.1 + 1) := mv7.1.2 _ ⟨p2.1, p2.2.1, fun z => z⟩
            have hl7 : gm_ln h7 (h3.1 + 1) = m := (gv_ln rl7).trans hl
            have k7 : gm_kd h7 (h3.1 + 1) = 101 := (gv_kd rl7).trans q7
            obtain ⟨-, -, qq⟩ := R7.hand ho7 ht7
            have lv7 : (gs_hp s7)[o].2.2.1.length = m := by rw [← qq.2.2.2.2.2.2.2.1]; exact hl7
            have hm31 : m < 2147483648 := by omega
            simp only [r86_0, r86_0n, r86_1, r86_5, r86_5n, r86_6, r86_6n, r86_7, r86_7n, r86_8, r86_11, r86_11n, r86_12, r86_15, r86_20, r86_21, r86_22, r86_25, r86_25n, r86_26, r86_26n, r86_27, r86_30, r86_30n, r86_31, r86_34, r86_39, r86_42, r86_42n, r86_43, r86_48, r86_49, r86_49n, r86_53, r86_55, r86_57, r86_60, r86_60n, r86_61, r86_66, r86_67, r86_67n, r86_68, r86_68n, r86_69, r86_70, r86_75, r86_78, r86_78i, r86_79, r86_80, r86_83, r86_84, r86_87, r86_88, r86_89, r86_94, r86_94n, r86_96, r86_96n, r86_97, r86_97n, r86_102, r86_104, r86_104n, r86_105, r86_110, r86_110a, r86_110n, r86_111, r86_112, r86_116, r86_118, r86_121, r86_121n, r86_123, r86_126, r86_128, r86_129, r86_132, r86_132n, r86_136, r86_137, r86_140, r86_140n, r86_141, r86_142, r86_143, r86_147, r86_148, r86_149, r86_152, r86_155, r86_157, i32_10, reduceIte, gm_cmp1, gm_cmp3, gm_cmp4, gm_kd_sf, gm_ln_sf, gm_sf_1, gm_sf_2, gm_nw_1, gm_nw_2, gm_k_int, gm_k_ref, gm_k_null, gm_k_u, gm_k_long, and_true, true_and, true_or, or_true, or_false, false_or, and_self, or_self, if_true, if_false, List.map_nil, List.map_cons, List.sum_nil, List.sum_cons, Nat.zero_le, Option.toList_some, Option.toList_none, List.cons_append, List.nil_append, ne_eq, not_false_eq_true, not_true_eq_false, nI_1, nI_add, Value.category, Nat.reduceAdd, Nat.reduceMod, Nat.reduceLeDiff, Nat.reduceLT, Nat.reduceEqDiff, Nat.reducePow, Nat.le_refl, Nat.add_left_cancel_iff, Nat.add_eq_left, Nat.left_eq_add, Nat.add_zero, k7, hl7, hkm, hm31]
            refine ih (k + 1) _ _ (by omega) (R7.setv (List.getElem?_eq_getElem ho7) ht7 (by rw [lv7]; exact hkm)) (fun a z => by rw [gm_sf_1]; have := hFk a z; have := mv7.1.1; omega) ?_ ?_ ?_ (st7.md (Or.inl (by omega)) (Or.inr (by omega))) ?_
            · simpa [gs_hp] using ho7
            · rw [gm_fv_sfa (by omega)]; exact ht7
            · rw [gm_ln_sf]; exact hl7
            · rw [hr]
              refine gs_b_cg ?_
              show gs_b rc _ sk = _
              rw [gs_b_ok e7]
              rfl
        simp only [r86_0, r86_0n, r86_1, r86_5, r86_5n, r86_6, r86_6n, r86_7, r86_7n, r86_8, r86_11, r86_11n, r86_12, r86_15, r86_20, r86_21, r86_22, r86_25, r86_25n, r86_26, r86_26n, r86_27, r86_30, r86_30n, r86_31, r86_34, r86_39, r86_42, r86_42n, r86_43, r86_48, r86_49, r86_49n, r86_53, r86_55, r86_57, r86_60, r86_60n, r86_61, r86_66, r86_67, r86_67n, r86_68, r86_68n, r86_69, r86_70, r86_75, r86_78, r86_78i, r86_79, r86_80, r86_83, r86_84, r86_87, r86_88, r86_89, r86_94, r86_94n, r86_96, r86_96n, r86_97, r86_97n, r86_102, r86_104, r86_104n, r86_105, r86_110, r86_110a, r86_110n, r86_111, r86_112, r86_116, r86_118, r86_121, r86_121n, r86_123, r86_126, r86_128, r86_129, r86_132, r86_132n, r86_136, r86_137, r86_140, r86_140n, r86_141, r86_142, r86_143, r86_147, r86_148, r86_149, r86_152, r86_155, r86_157, i32_10, reduceIte, gm_cmp1, gm_cmp3, gm_cmp4, gm_kd_sf, gm_ln_sf, gm_sf_1, gm_sf_2, gm_nw_1, gm_nw_2, gm_k_int, gm_k_ref, gm_k_null, gm_k_u, gm_k_long, and_true, true_and, true_or, or_true, or_false, false_or, and_self, or_self, if_true, if_false, List.map_nil, List.map_cons, List.sum_nil, List.sum_cons, Nat.zero_le, Option.toList_some, Option.toList_none, List.cons_append, List.nil_append, ne_eq, not_false_eq_true, not_true_eq_false, nI_1, nI_add, Value.category, Nat.reduceAdd, Nat.reduceMod, Nat.reduceLeDiff, Nat.reduceLT, Nat.reduceEqDiff, Nat.reducePow, Nat.le_refl, Nat.add_left_cancel_iff, Nat.add_eq_left, Nat.left_eq_add, Nat.add_zero]
        exact loop m 0 s6 h6 (by omega) R6 hF6 ho6 f6 l6 st6 hres4
    cases b with
    | true =>
      simp only [r86_0, r86_0n, r86_1, r86_5, r86_5n, r86_6, r86_6n, r86_7, r86_7n, r86_8, r86_11, r86_11n, r86_12, r86_15, r86_20, r86_21, r86_22, r86_25, r86_25n, r86_26, r86_26n, r86_27, r86_30, r86_30n, r86_31, r86_34, r86_39, r86_42, r86_42n, r86_43, r86_48, r86_49, r86_49n, r86_53, r86_55, r86_57, r86_60, r86_60n, r86_61, r86_66, r86_67, r86_67n, r86_68, r86_68n, r86_69, r86_70, r86_75, r86_78, r86_78i, r86_79, r86_80, r86_83, r86_84, r86_87, r86_88, r86_89, r86_96, r86_96n, r86_97, r86_97n, r86_102, r86_104, r86_104n, r86_105, r86_110, r86_110a, r86_110n, r86_111, r86_112, r86_114, r86_116, r86_118, r86_121, r86_121n, r86_123, r86_126, r86_128, r86_129, r86_132, r86_132n, r86_136, r86_137, r86_140, r86_140n, r86_141, r86_142, r86_143, r86_147, r86_148, r86_149, r86_152, r86_155, r86_157, i32_10, reduceIte, gm_cmp1, gm_cmp3, gm_cmp4, gm_kd_sf, gm_ln_sf, gm_sf_1, gm_sf_2, gm_nw_1, gm_nw_2, gm_k_int, gm_k_ref, gm_k_null, gm_k_u, gm_k_long, and_true, true_and, true_or, or_true, or_false, false_or, and_self, or_self, if_true, if_false, List.map_nil, List.map_cons, List.sum_nil, List.sum_cons, Nat.zero_le, Option.toList_some, Option.toList_none, List.cons_append, List.nil_append, ne_eq, not_false_eq_true, not_true_eq_false, nI_1, nI_add, Value.category, Nat.reduceAdd, Nat.reduceMod, Nat.reduceLeDiff, Nat.reduceLT, Nat.reduceEqDiff, Nat.reducePow, Nat.le_refl, Nat.add_left_cancel_iff, Nat.add_eq_left, Nat.left_eq_add, Nat.add_zero] at walk ⊢
      refine c86_91 (by simp [Value.category]) (by simp [gm_en1]) (by omega) (x_Thing (h := h3) (ca := ca) (o := none) (so := 2) hm1) (gx_kn ?_) gx_kx
      have e2 : so = 2 := by rw [hso]; rfl
      rw [e2] at h4e
      rw [← h4e]
      exact walk
    | false =>
      simp only [r86_0, r86_0n, r86_1, r86_5, r86_5n, r86_6, r86_6n, r86_7, r86_7n, r86_8, r86_11, r86_11n, r86_12, r86_15, r86_20, r86_21, r86_22, r86_25, r86_25n, r86_26, r86_26n, r86_27, r86_30, r86_30n, r86_31, r86_34, r86_39, r86_42, r86_42n, r86_43, r86_48, r86_49, r86_49n, r86_53, r86_55, r86_57, r86_60, r86_60n, r86_61, r86_66, r86_67, r86_67n, r86_68, r86_68n, r86_69, r86_70, r86_75, r86_78, r86_78i, r86_79, r86_80, r86_83, r86_84, r86_87, r86_88, r86_89, r86_96, r86_96n, r86_97, r86_97n, r86_102, r86_104, r86_104n, r86_105, r86_110, r86_110a, r86_110n, r86_111, r86_112, r86_114, r86_116, r86_118, r86_121, r86_121n, r86_123, r86_126, r86_128, r86_129, r86_132, r86_132n, r86_136, r86_137, r86_140, r86_140n, r86_141, r86_142, r86_143, r86_147, r86_148, r86_149, r86_152, r86_155, r86_157, i32_10, reduceIte, gm_cmp1, gm_cmp3, gm_cmp4, gm_kd_sf, gm_ln_sf, gm_sf_1, gm_sf_2, gm_nw_1, gm_nw_2, gm_k_int, gm_k_ref, gm_k_null, gm_k_u, gm_k_long, and_true, true_and, true_or, or_true, or_false, false_or, and_self, or_self, if_true, if_false, List.map_nil, List.map_cons, List.sum_nil, List.sum_cons, Nat.zero_le, Option.toList_some, Option.toList_none, List.cons_append, List.nil_append, ne_eq, not_false_eq_true, not_true_eq_false, nI_1, nI_add, Value.category, Nat.reduceAdd, Nat.reduceMod, Nat.reduceLeDiff, Nat.reduceLT, Nat.reduceEqDiff, Nat.reducePow, Nat.le_refl, Nat.add_left_cancel_iff, Nat.add_eq_left, Nat.left_eq_add, Nat.add_zero, Bool.false_eq_true] at walk ⊢
      refine c86_91 (by simp [Value.category]) (by simp [gm_en1]) (by omega) (x_Thing (h := h3) (ca := ca) (o := none) (so := 3) hm1) (gx_kn ?_) gx_kx
      have e2 : so = 3 := by rw [hso]; rfl
      rw [e2] at h4e
      rw [← h4e]
      exact walk
  simp only [r86_0, r86_0n, r86_1, r86_5, r86_5n, r86_6, r86_6n, r86_7, r86_7n, r86_8, r86_11, r86_11n, r86_12, r86_15, r86_20, r86_21, r86_22, r86_25, r86_25n, r86_26, r86_26n, r86_27, r86_30, r86_30n, r86_31, r86_34, r86_39, r86_42, r86_42n, r86_43, r86_48, r86_53, r86_55, r86_57, r86_60, r86_60n, r86_61, r86_66, r86_67, r86_67n, r86_68, r86_68n, r86_69, r86_70, r86_75, r86_78, r86_78i, r86_79, r86_80, r86_83, r86_84, r86_87, r86_88, r86_89, r86_94, r86_94n, r86_96, r86_96n, r86_97, r86_97n, r86_102, r86_104, r86_104n, r86_105, r86_110, r86_110a, r86_110n, r86_111, r86_112, r86_114, r86_116, r86_118, r86_121, r86_121n, r86_123, r86_126, r86_128, r86_129, r86_132, r86_132n, r86_136, r86_137, r86_140, r86_140n, r86_141, r86_142, r86_143, r86_147, r86_148, r86_149, r86_152, r86_155, r86_157, i32_10, reduceIte, gm_cmp1, gm_cmp3, gm_cmp4, gm_kd_sf, gm_ln_sf, gm_sf_1, gm_sf_2, gm_nw_1, gm_nw_2, gm_k_int, gm_k_ref, gm_k_null, gm_k_u, gm_k_long, and_true, true_and, true_or, or_true, or_false, false_or, and_self, or_self, if_true, if_false, List.map_nil, List.map_cons, List.sum_nil, List.sum_cons, Nat.zero_le, Option.toList_some, Option.toList_none, List.cons_append, List.nil_append, ne_eq, not_false_eq_true, not_true_eq_false, nI_1, nI_add, Value.category, Nat.reduceAdd, Nat.reduceMod, Nat.reduceLeDiff, Nat.reduceLT, Nat.reduceEqDiff, Nat.reducePow, Nat.le_refl, Nat.add_left_cancel_iff, Nat.add_eq_left, Nat.left_eq_add, Nat.add_zero, d1, d2, d3]
  refine c86_17 (by simp) enI R1.1.1 (by omega) (x_isSpelt (i := 2) (by omega) (by decide) R1 d16) (gx_kn ?_) gx_kx
  have eI : gs_spelt K (gs_nf l) (gs_nl l) (gx_str 2) = b := hb.symm
  rw [eI]
  cases b with
  | true =>
    simp only [r86_0, r86_0n, r86_1, r86_5, r86_5n, r86_6, r86_6n, r86_7, r86_7n, r86_8, r86_11, r86_11n, r86_12, r86_15, r86_20, r86_21, r86_22, r86_25, r86_25n, r86_26, r86_26n, r86_27, r86_30, r86_30n, r86_31, r86_34, r86_39, r86_42, r86_42n, r86_43, r86_48, r86_53, r86_55, r86_57, r86_60, r86_60n, r86_61, r86_66, r86_67, r86_67n, r86_68, r86_68n, r86_69, r86_70, r86_75, r86_78, r86_78i, r86_79, r86_80, r86_83, r86_84, r86_87, r86_88, r86_89, r86_94, r86_94n, r86_96, r86_96n, r86_97, r86_97n, r86_102, r86_104, r86_104n, r86_105, r86_110, r86_110a, r86_110n, r86_111, r86_112, r86_114, r86_116, r86_118, r86_121, r86_121n, r86_123, r86_126, r86_128, r86_129, r86_132, r86_132n, r86_136, r86_137, r86_140, r86_140n, r86_141, r86_142, r86_143, r86_147, r86_148, r86_149, r86_152, r86_155, r86_157, i32_10, reduceIte, gm_cmp1, gm_cmp3, gm_cmp4, gm_kd_sf, gm_ln_sf, gm_sf_1, gm_sf_2, gm_nw_1, gm_nw_2, gm_k_int, gm_k_ref, gm_k_null, gm_k_u, gm_k_long, and_true, true_and, true_or, or_true, or_false, false_or, and_self, or_self, if_true, if_false, List.map_nil, List.map_cons, List.sum_nil, List.sum_cons, Nat.zero_le, Option.toList_some, Option.toList_none, List.cons_append, List.nil_append, ne_eq, not_false_eq_true, not_true_eq_false, nI_1, nI_add, Value.category, Nat.reduceAdd, Nat.reduceMod, Nat.reduceLeDiff, Nat.reduceLT, Nat.reduceEqDiff, Nat.reducePow, Nat.le_refl, Nat.add_left_cancel_iff, Nat.add_eq_left, Nat.left_eq_add, Nat.add_zero]
    refine after res ?_
    rw [hres]
    simp
  | false =>
    simp only [r86_0, r86_0n, r86_1, r86_5, r86_5n, r86_6, r86_6n, r86_7, r86_7n, r86_8, r86_11, r86_11n, r86_12, r86_15, r86_20, r86_21, r86_22, r86_25, r86_25n, r86_26, r86_26n, r86_27, r86_30, r86_30n, r86_31, r86_34, r86_39, r86_42, r86_42n, r86_43, r86_48, r86_53, r86_55, r86_57, r86_60, r86_60n, r86_61, r86_66, r86_67, r86_67n, r86_68, r86_68n, r86_69, r86_70, r86_75, r86_78, r86_78i, r86_79, r86_80, r86_83, r86_84, r86_87, r86_88, r86_89, r86_94, r86_94n, r86_96, r86_96n, r86_97, r86_97n, r86_102, r86_104, r86_104n, r86_105, r86_110, r86_110a, r86_110n, r86_111, r86_112, r86_114, r86_116, r86_118, r86_121, r86_121n, r86_123, r86_126, r86_128, r86_129, r86_132, r86_132n, r86_136, r86_137, r86_140, r86_140n, r86_141, r86_142, r86_143, r86_147, r86_148, r86_149, r86_152, r86_155, r86_157, i32_10, reduceIte, gm_cmp1, gm_cmp3, gm_cmp4, gm_kd_sf, gm_ln_sf, gm_sf_1, gm_sf_2, gm_nw_1, gm_nw_2, gm_k_int, gm_k_ref, gm_k_null, gm_k_u, gm_k_long, and_true, true_and, true_or, or_true, or_false, false_or, and_self, or_self, if_true, if_false, List.map_nil, List.map_cons, List.sum_nil, List.sum_cons, Nat.zero_le, Option.toList_some, Option.toList_none, List.cons_append, List.nil_append, ne_eq, not_false_eq_true, not_true_eq_false, nI_1, nI_add, Value.category, Nat.reduceAdd, Nat.reduceMod, Nat.reduceLeDiff, Nat.reduceLT, Nat.reduceEqDiff, Nat.reducePow, Nat.le_refl, Nat.add_left_cancel_iff, Nat.add_eq_left, Nat.left_eq_add, Nat.add_zero, d1, d2, d3, Bool.false_eq_true]
    refine c86_36 (by simp) enR R1.1.1 (by omega) (x_isSpelt (i := 1) (by omega) (by decide) R1 d16) (gx_kn ?_) gx_kx
    have eR : gs_spelt K (gs_nf l) (gs_nl l) (gx_str 1) = gs_spelt K (gs_nf l) (gs_nl l) gs_tR := rfl
    rw [eR]
    cases hR : gs_spelt K (gs_nf l) (gs_nl l) gs_tR with
    | true =>
      rw [hR] at hres
      simp only [r86_0, r86_0n, r86_1, r86_5, r86_5n, r86_6, r86_6n, r86_7, r86_7n, r86_8, r86_11, r86_11n, r86_12, r86_15, r86_20, r86_21, r86_22, r86_25, r86_25n, r86_26, r86_26n, r86_27, r86_30, r86_30n, r86_31, r86_34, r86_39, r86_42, r86_42n, r86_43, r86_48, r86_53, r86_55, r86_57, r86_60, r86_60n, r86_61, r86_66, r86_67, r86_67n, r86_68, r86_68n, r86_69, r86_70, r86_75, r86_78, r86_78i, r86_79, r86_80, r86_83, r86_84, r86_87, r86_88, r86_89, r86_94, r86_94n, r86_96, r86_96n, r86_97, r86_97n, r86_102, r86_104, r86_104n, r86_105, r86_110, r86_110a, r86_110n, r86_111, r86_112, r86_114, r86_116, r86_118, r86_121, r86_121n, r86_123, r86_126, r86_128, r86_129, r86_132, r86_132n, r86_136, r86_137, r86_140, r86_140n, r86_141, r86_142, r86_143, r86_147, r86_148, r86_149, r86_152, r86_155, r86_157, i32_10, reduceIte, gm_cmp1, gm_cmp3, gm_cmp4, gm_kd_sf, gm_ln_sf, gm_sf_1, gm_sf_2, gm_nw_1, gm_nw_2, gm_k_int, gm_k_ref, gm_k_null, gm_k_u, gm_k_long, and_true, true_and, true_or, or_true, or_false, false_or, and_self, or_self, if_true, if_false, List.map_nil, List.map_cons, List.sum_nil, List.sum_cons, Nat.zero_le, Option.toList_some, Option.toList_none, List.cons_append, List.nil_append, ne_eq, not_false_eq_true, not_true_eq_false, nI_1, nI_add, Value.category, Nat.reduceAdd, Nat.reduceMod, Nat.reduceLeDiff, Nat.reduceLT, Nat.reduceEqDiff, Nat.reducePow, Nat.le_refl, Nat.add_left_cancel_iff, Nat.add_eq_left, Nat.left_eq_add, Nat.add_zero]
      refine after res ?_
      rw [hres]
      simp
    | false =>
      rw [hR] at hres
      simp only [r86_0, r86_0n, r86_1, r86_5, r86_5n, r86_6, r86_6n, r86_7, r86_7n, r86_8, r86_11, r86_11n, r86_12, r86_15, r86_20, r86_21, r86_22, r86_25, r86_25n, r86_26, r86_26n, r86_27, r86_30, r86_30n, r86_31, r86_34, r86_39, r86_42, r86_42n, r86_43, r86_48, r86_53, r86_55, r86_57, r86_60, r86_60n, r86_61, r86_66, r86_67, r86_67n, r86_68, r86_68n, r86_69, r86_70, r86_75, r86_78, r86_78i, r86_79, r86_80, r86_83, r86_84, r86_87, r86_88, r86_89, r86_94, r86_94n, r86_96, r86_96n, r86_97, r86_97n, r86_102, r86_104, r86_104n, r86_105, r86_110, r86_110a, r86_110n, r86_111, r86_112, r86_114, r86_116, r86_118, r86_121, r86_121n, r86_123, r86_126, r86_128, r86_129, r86_132, r86_132n, r86_136, r86_137, r86_140, r86_140n, r86_141, r86_142, r86_143, r86_147, r86_148, r86_149, r86_152, r86_155, r86_157, i32_10, reduceIte, gm_cmp1, gm_cmp3, gm_cmp4, gm_kd_sf, gm_ln_sf, gm_sf_1, gm_sf_2, gm_nw_1, gm_nw_2, gm_k_int, gm_k_ref, gm_k_null, gm_k_u, gm_k_long, and_true, true_and, true_or, or_true, or_false, false_or, and_self, or_self, if_true, if_false, List.map_nil, List.map_cons, List.sum_nil, List.sum_cons, Nat.zero_le, Option.toList_some, Option.toList_none, List.cons_append, List.nil_append, ne_eq, not_false_eq_true, not_true_eq_false, nI_1, nI_add, Value.category, Nat.reduceAdd, Nat.reduceMod, Nat.reduceLeDiff, Nat.reduceLT, Nat.reduceEqDiff, Nat.reducePow, Nat.le_refl, Nat.add_left_cancel_iff, Nat.add_eq_left, Nat.left_eq_add, Nat.add_zero, Bool.false_eq_true]
      exact c86_45 (by simp) R1.1.1 (by omega) (x_fail (G := G) (α := Unit) (val := fun _ _ _ => True) R1) gx_fn (fun _ _ q => q.er (fun f e => by cases e; rw [hres]; simp [gs_x]) st1 (fun _ z => Or.inr z))
end Y6
