/-! THE CLASS, 13: a descriptor. -/
section Y4
variable {E : Nat → Value} {d x d0 dp : Nat} {h : gm_H} {ca : Nat → Nat} {K : gs_K} {F G : Nat → Prop} {s : gs_S} {rc : gs_M Int32}
/-- reading a descriptor that is the k-th of those above one another does what m does -/
def gx_DC (E : Nat → Value) (x : Nat) (ca : Nat → Nat) (K : gs_K) (D0 dp k : Nat) (m : gs_M (List gs_L)) : Prop := ∀ (d : Nat) (h : gm_H) (s : gs_S) (F G : Nat → Prop), D0 ≤ d → gx_R E h x ca K F s → (∀ a, F a → a < h.1) →
  gm_Ca E d 97 [.ref x, .int (nI dp), .int (nI k)] h (gx_P E h x ca K F G s (fun L h' v => (∃ w, v = some w ∧ gx_ds h' x ca K F L w) ∧ ∀ s', m s = .ok (L, s') → (L ≠ [] → h'.1 + 3 + gs_pl s ≤ h.1 + gs_pl s' ∧ h'.2.1 + 29 + 8 * gs_pl s ≤ h.2.1 + 8 * gs_pl s') ∧ L.length ≤ gs_dn s') (m s))
theorem gs_ent_f1 {e : Nat} {s1 : gs_S} (w : gs_ent K s = .ok (e, s1)) : gs_hs s1 = gs_hs s := by
  unfold gs_ent gs_u4 gs_b at w
  unfold gs_nxt at w
  by_cases hc : gs_n K - gs_pl s < 4
  · simp [hc] at w
  · simp only [hc, if_false, gs_r] at w
    split at w
    · cases w
    · split at w
      · cases w
      · cases w; rfl
theorem x_readDescriptor1 {k : Nat} {up : Option (gs_M (List gs_L))} (C : gx_RC E x ca K d0 (dp + 1) rc) (hK : gs_rst K = false) (hdp : dp < 1000) (hk : k < 1000) (Hu : match up with
    | none => 8 < k
    | some m => k ≤ 8 ∧ gx_DC E x ca K (d - 1) dp (k + 1) m) (hd : d0 + 2 ≤ d) (hd6 : 6 ≤ d) (R : gx_R E h x ca K F s) (hF : ∀ a, F a → a < h.1) :
    gm_Ca E d 97 [.ref x, .int (nI dp), .int (nI k)] h (gx_P E h x ca K F G s (fun L h' v => (∃ w, v = some w ∧ gx_ds h' x ca K F L w) ∧ ∀ s', gs_dsc1 K rc up s = .ok (L, s') → (L ≠ [] → h'.1 + 3 + gs_pl s ≤ h.1 + gs_pl s' ∧ h'.2.1 + 29 + 8 * gs_pl s ≤ h.2.1 + 8 * gs_pl s') ∧ L.length ≤ gs_dn s') (gs_dsc1 K rc up s)) := by
  obtain ⟨res, hres⟩ : ∃ res, res = gs_dsc1 K rc up s := ⟨_, rfl⟩
  rw [← hres]
  unfold gs_dsc1 at hres
  show gm_W E d 97 0 [.ref x, .int (nI dp), .int (nI k), gm_u, gm_u, gm_u, gm_u, gm_u] [] h _
  simp only [r97_0, r97_0n, r97_4, r97_5, r97_6, r97_8, r97_11, r97_12, r97_12n, r97_13, r97_14, r97_16, r97_19, r97_19n, r97_20, r97_23, r97_26, r97_26n, r97_30, r97_31, r97_31n, r97_33, r97_33n, r97_35n, r97_35, r97_38, r97_38n, r97_39, r97_44, r97_44a, r97_44n, r97_45, r97_45n, r97_47, r97_47n, r97_48, r97_49, r97_51, r97_54, r97_55, r97_57, r97_60, r97_60n, r97_61, r97_66, r97_66a, r97_66n, r97_67, r97_67n, r97_71, r97_73, r97_73n, r97_74, r97_77, r97_79, r97_80, r97_82, r97_85, r97_85i, r97_86, r97_88, r97_90, r97_90n, r97_91, r97_99, r97_99n, r97_101, r97_101n, r97_102, r97_106, r97_108, r97_108n, r97_109, r97_109n, r97_114, r97_114n, r97_115, r97_115n, r97_117, r97_121, r97_121n, r97_122, r97_126, r97_126n, r97_128, r97_128n, r97_129, r97_130, r97_131, r97_132, r97_139, r97_139n, r97_140, r97_140n, r97_145, r97_145n, r97_146, r97_149, r97_152, r97_154, r97_154n, r97_156, r97_156n, r97_157, r97_157n, r97_159, r97_159n, i32_10, reduceIte, gm_cmp1, gm_cmp3, gm_cmp4, gm_kd_sf, gm_ln_sf, gm_sf_1, gm_sf_2, gm_nw_1, gm_nw_2, gm_k_int, gm_k_ref, gm_k_null, gm_k_u, gm_k_long, and_true, true_and, true_or, or_true, or_false, false_or, and_self, or_self, if_true, if_false, List.map_nil, List.map_cons, List.sum_nil, List.sum_cons, Nat.zero_le, Option.toList_some, Option.toList_none, List.cons_append, List.nil_append, ne_eq, not_false_eq_true, not_true_eq_false, nI_1, nI_add, Value.category, Nat.reduceAdd, Nat.reduceMod, Nat.reduceLeDiff, Nat.reduceLT, Nat.reduceEqDiff, Nat.reducePow, Nat.le_refl, Nat.add_left_cancel_iff, Nat.add_eq_left, Nat.left_eq_add, Nat.add_zero]
  refine c97_1 (by simp) R.1.1 (by omega) (x_nextByte (G := fun _ => False) (by omega) R) (fun v h1 q => ?_) (fun _ _ q => q.er (s := s) (h := h) (fun f e => by rw [hres]; exact gs_b_er e) ⟨gx_mv.refl, gx_le.refl, gx_co.refl⟩ (fun _ z => z.elim))
  obtain ⟨t, s1, e1, ⟨rfl, na1⟩, R1, mv1, le1, co1⟩ := q
  rw [gs_b_ok e1] at hres
  have st1 : gx_st h s x G h1 s1 := ⟨mv1.wk (fun _ z => z.elim), le1, co1⟩
  have hF1 : ∀ a, F a → a < h1.1 := fun a z => by have := hF a z; have := mv1.1.1; omega
  by_cases t0 : t = 112
  · rw [if_pos t0] at hres
    subst t0
    simp only [r97_0, r97_0n, r97_4, r97_5, r97_6, r97_8, r97_11, r97_12, r97_12n, r97_13, r97_14, r97_16, r97_19, r97_19n, r97_20, r97_23, r97_26, r97_26n, r97_30, r97_31, r97_31n, r97_33, r97_33n, r97_35n, r97_35, r97_38, r97_38n, r97_39, r97_44, r97_44a, r97_44n, r97_45, r97_45n, r97_47, r97_47n, r97_48, r97_49, r97_51, r97_54, r97_55, r97_57, r97_60, r97_60n, r97_61, r97_66, r97_66a, r97_66n, r97_67, r97_67n, r97_71, r97_73, r97_73n, r97_74, r97_77, r97_79, r97_80, r97_82, r97_85, r97_85i, r97_86, r97_88, r97_90, r97_90n, r97_91, r97_99, r97_99n, r97_101, r97_101n, r97_102, r97_106, r97_108, r97_108n, r97_109, r97_109n, r97_114, r97_114n, r97_115, r97_115n, r97_117, r97_121, r97_121n, r97_122, r97_126, r97_126n, r97_128, r97_128n, r97_129, r97_130, r97_131, r97_132, r97_139, r97_139n, r97_140, r97_140n, r97_145, r97_145n, r97_146, r97_149, r97_152, r97_154, r97_154n, r97_156, r97_156n, r97_157, r97_157n, r97_159, r97_159n, i32_10, reduceIte, gm_cmp1, gm_cmp3, gm_cmp4, gm_kd_sf, gm_ln_sf, gm_sf_1, gm_sf_2, gm_nw_1, gm_nw_2, gm_k_int, gm_k_ref, gm_k_null, gm_k_u, gm_k_long, and_true, true_and, true_or, or_true, or_false, false_or, and_self, or_self, if_true, if_false, List.map_nil, List.map_cons, List.sum_nil, List.sum_cons, Nat.zero_le, Option.toList_some, Option.toList_none, List.cons_append, List.nil_append, ne_eq, not_false_eq_true, not_true_eq_false, nI_1, nI_add, Value.category, Nat.reduceAdd, Nat.reduceMod, Nat.reduceLeDiff, Nat.reduceLT, Nat.reduceEqDiff, Nat.reducePow, Nat.le_refl, Nat.add_left_cancel_iff, Nat.add_eq_left, Nat.left_eq_add, Nat.add_zero]
    rw [hres]
    exact ⟨[], s1, rfl, ⟨⟨.null, rfl, rfl⟩, fun _ _ => ⟨fun z => absurd rfl z, Nat.zero_le _⟩⟩, R1, st1.1, st1.2.1, st1.2.2⟩
  rw [if_neg t0] at hres
  by_cases t1 : t = 113
  · rw [if_pos t1] at hres
    subst t1
    obtain ⟨A0, -, -, -, A10, -, -, -, -, -, -, A4, -, A41, -, -, A6, A6l, -⟩ := R1.1
    have m112 : ¬ (113 : Int32) = 112 := by decide
    simp only [r97_0, r97_0n, r97_4, r97_5, r97_6, r97_8, r97_11, r97_12, r97_12n, r97_13, r97_14, r97_16, r97_19, r97_19n, r97_20, r97_23, r97_26, r97_26n, r97_30, r97_31, r97_31n, r97_33, r97_33n, r97_35n, r97_35, r97_38, r97_38n, r97_39, r97_44, r97_44a, r97_44n, r97_45, r97_45n, r97_47, r97_47n, r97_48, r97_49, r97_51, r97_54, r97_55, r97_57, r97_60, r97_60n, r97_61, r97_66, r97_66a, r97_66n, r97_67, r97_67n, r97_71, r97_73, r97_73n, r97_74, r97_77, r97_79, r97_80, r97_82, r97_85, r97_85i, r97_86, r97_88, r97_90, r97_90n, r97_91, r97_99, r97_99n, r97_101, r97_101n, r97_102, r97_106, r97_108, r97_108n, r97_109, r97_109n, r97_114, r97_114n, r97_115, r97_115n, r97_117, r97_121, r97_121n, r97_122, r97_126, r97_126n, r97_128, r97_128n, r97_129, r97_130, r97_131, r97_132, r97_139, r97_139n, r97_140, r97_140n, r97_145, r97_145n, r97_146, r97_149, r97_152, r97_154, r97_154n, r97_156, r97_156n, r97_157, r97_157n, r97_159, r97_159n, i32_10, reduceIte, gm_cmp1, gm_cmp3, gm_cmp4, gm_kd_sf, gm_ln_sf, gm_sf_1, gm_sf_2, gm_nw_1, gm_nw_2, gm_k_int, gm_k_ref, gm_k_null, gm_k_u, gm_k_long, and_true, true_and, true_or, or_true, or_false, false_or, and_self, or_self, if_true, if_false, List.map_nil, List.map_cons, List.sum_nil, List.sum_cons, Nat.zero_le, Option.toList_some, Option.toList_none, List.cons_append, List.nil_append, ne_eq, not_false_eq_true, not_true_eq_false, nI_1, nI_add, Value.category, Nat.reduceAdd, Nat.reduceMod, Nat.reduceLeDiff, Nat.reduceLT, Nat.reduceEqDiff, Nat.reducePow, Nat.le_refl, Nat.add_left_cancel_iff, Nat.add_eq_left, Nat.left_eq_add, Nat.add_zero, m112, A0, A10, A4, A41]
    refine c97_27 (by simp [Value.category]) A0 (by omega) (x_nextEntry (G := fun _ => False) (by omega) R1) (fun v h2 q => ?_) (fun _ _ q => q.er (fun f e => by rw [hres]; exact gs_b_er e) st1 (fun _ z => z.elim))
    obtain ⟨e, s2, e2, ⟨rfl, na2⟩, R2, mv2, le2, co2⟩ := q
    rw [gs_b_ok e2] at hres
    have st2 := st1.trans mv2 le2 co2 (fun _ z => z.elim)
    obtain ⟨he, es2⟩ := gs_ent_ok e2 R1.2.2.2.1.2.2.2.2.2.2.1 R1.2.2.2.1.2.2.2.2.2.2.2.1
    obtain ⟨A0, -, -, -, A10, -, -, -, -, -, -, A4, -, A41, -, -, A6, A6l, -⟩ := R2.1
    have h234 := R2.2.2.2.1.2.2.2.2.2.2.2.1
    have he2 : e < 234 := by omega
    obtain ⟨H1, H2⟩ := R2.2.2.2.2.2.1 e _ (List.getElem?_eq_getElem he)
    have eg : (gs_hs s2).getD e (-1, []) = (gs_hs s2)[e] := by simp [List.getD, he]
    rw [eg] at hres
    cases hL : (gs_hs s2)[e].2 with
    | nil =>
      rw [hL] at H2
      have H2 : gm_fv h2 (x + 6) e = .null := H2
      simp only [hL] at hres
      simp only [r97_0, r97_0n, r97_4, r97_5, r97_6, r97_8, r97_11, r97_12, r97_12n, r97_13, r97_14, r97_16, r97_19, r97_19n, r97_20, r97_23, r97_26, r97_26n, r97_30, r97_31, r97_31n, r97_33, r97_33n, r97_35n, r97_35, r97_38, r97_38n, r97_39, r97_44, r97_44a, r97_44n, r97_45, r97_45n, r97_47, r97_47n, r97_48, r97_49, r97_51, r97_54, r97_55, r97_57, r97_60, r97_60n, r97_61, r97_66, r97_66a, r97_66n, r97_67, r97_67n, r97_71, r97_73, r97_73n, r97_74, r97_77, r97_79, r97_80, r97_82, r97_85, r97_85i, r97_86, r97_88, r97_90, r97_90n, r97_91, r97_99, r97_99n, r97_101, r97_101n, r97_102, r97_106, r97_108, r97_108n, r97_109, r97_109n, r97_114, r97_114n, r97_115, r97_115n, r97_117, r97_121, r97_121n, r97_122, r97_126, r97_126n, r97_128, r97_128n, r97_129, r97_130, r97_131, r97_132, r97_139, r97_139n, r97_140, r97_140n, r97_145, r97_145n, r97_146, r97_149, r97_152, r97_154, r97_154n, r97_156, r97_156n, r97_157, r97_157n, r97_159, r97_159n, i32_10, reduceIte, gm_cmp1, gm_cmp3, gm_cmp4, gm_kd_sf, gm_ln_sf, gm_sf_1, gm_sf_2, gm_nw_1, gm_nw_2, gm_k_int, gm_k_ref, gm_k_null, gm_k_u, gm_k_long, and_true, true_and, true_or, or_true, or_false, false_or, and_self, or_self, if_true, if_false, List.map_nil, List.map_cons, List.sum_nil, List.sum_cons, Nat.zero_le, Option.toList_some, Option.toList_none, List.cons_append, List.nil_append, ne_eq, not_false_eq_true, not_true_eq_false, nI_1, nI_add, Value.category, Nat.reduceAdd, Nat.reduceMod, Nat.reduceLeDiff, Nat.reduceLT, Nat.reduceEqDiff, Nat.reducePow, Nat.le_refl, Nat.add_left_cancel_iff, Nat.add_eq_left, Nat.left_eq_add, Nat.add_zero, A6, A6l, he2, H2]
      exact c97_41 (by simp) A0 (by omega) (x_fail (G := G) (α := Unit) (val := fun _ _ _ => True) R2) gx_fn (fun _ _ q => q.er (fun f e => by cases e; rw [hres]) st2 (fun _ z => Or.inr z))
    | cons l L =>
      rw [hL] at H2
      simp only [hL] at hres
      have H3 := H2
      obtain ⟨a, u, w, ea, -⟩ := H3
      simp only [r97_0, r97_0n, r97_4, r97_5, r97_6, r97_8, r97_11, r97_12, r97_12n, r97_13, r97_14, r97_16, r97_19, r97_19n, r97_20, r97_23, r97_26, r97_26n, r97_30, r97_31, r97_31n, r97_33, r97_33n, r97_35n, r97_35, r97_38, r97_38n, r97_39, r97_44, r97_44a, r97_44n, r97_45, r97_45n, r97_47, r97_47n, r97_48, r97_49, r97_51, r97_54, r97_55, r97_57, r97_60, r97_60n, r97_61, r97_66, r97_66a, r97_66n, r97_67, r97_67n, r97_71, r97_73, r97_73n, r97_74, r97_77, r97_79, r97_80, r97_82, r97_85, r97_85i, r97_86, r97_88, r97_90, r97_90n, r97_91, r97_99, r97_99n, r97_101, r97_101n, r97_102, r97_106, r97_108, r97_108n, r97_109, r97_109n, r97_114, r97_114n, r97_115, r97_115n, r97_117, r97_121, r97_121n, r97_122, r97_126, r97_126n, r97_128, r97_128n, r97_129, r97_130, r97_131, r97_132, r97_139, r97_139n, r97_140, r97_140n, r97_145, r97_145n, r97_146, r97_149, r97_152, r97_154, r97_154n, r97_156, r97_156n, r97_157, r97_157n, r97_159, r97_159n, i32_10, reduceIte, gm_cmp1, gm_cmp3, gm_cmp4, gm_kd_sf, gm_ln_sf, gm_sf_1, gm_sf_2, gm_nw_1, gm_nw_2, gm_k_int, gm_k_ref, gm_k_null, gm_k_u, gm_k_long, and_true, true_and, true_or, or_true, or_false, false_or, and_self, or_self, if_true, if_false, List.map_nil, List.map_cons, List.sum_nil, List.sum_cons, Nat.zero_le, Option.toList_some, Option.toList_none, List.cons_append, List.nil_append, ne_eq, not_false_eq_true, not_true_eq_false, nI_1, nI_add, Value.category, Nat.reduceAdd, Nat.reduceMod, Nat.reduceLeDiff, Nat.reduceLT, Nat.reduceEqDiff, Nat.reducePow, Nat.le_refl, Nat.add_left_cancel_iff, Nat.add_eq_left, Nat.left_eq_add, Nat.add_zero, A6, A6l, he2, ea]
      rw [hres]
      refine ⟨_, s2, rfl, ⟨⟨.ref a, rfl, by rw [← ea]; exact H2⟩, fun s' es => ?_⟩, R2, st2.1, st2.2.1, st2.2.2⟩
      cases es
      refine ⟨fun _ => ?_, by rw [← hL]; exact R2.2.2.2.2.2.2.2 e _ (List.getElem?_eq_getElem he)⟩
      obtain ⟨-, eu1, -⟩ := gs_u1_ok e1
      have p1 : gs_pl s1 = gs_pl s + 1 := by rw [eu1]; rfl
      have p2 : gs_pl s2 = gs_pl s1 + 4 := by rw [es2]; rfl
      have := na1.1; have := na1.2; have := na2.1; have := na2.2
      omega
  rw [if_neg t1] at hres
  have bad : ∀ (w3 w4 w5 w6 w7 : Value), res = .error (-4) → gm_W E d 97 60 [.ref x, .int (nI dp), .int (nI k), w3, w4, w5, w6, w7] [] h1 (gx_P E h x ca K F G s (fun L h' v => (∃ w, v = some w ∧ gx_ds h' x ca K F L w) ∧ ∀ s', res = .ok (L, s') → (L ≠ [] → h'.1 + 3 + gs_pl s ≤ h.1 + gs_pl s' ∧ h'.2.1 + 29 + 8 * gs_pl s ≤ h.2.1 + 8 * gs_pl s') ∧ L.length ≤ gs_dn s') res) := by
    intro w3 w4 w5 w6 w7 e
    simp only [r97_0, r97_0n, r97_4, r97_5, r97_6, r97_8, r97_11, r97_12, r97_12n, r97_13, r97_14, r97_16, r97_19, r97_19n, r97_20, r97_23, r97_26, r97_26n, r97_30, r97_31, r97_31n, r97_33, r97_33n, r97_35n, r97_35, r97_38, r97_38n, r97_39, r97_44, r97_44a, r97_44n, r97_45, r97_45n, r97_47, r97_47n, r97_48, r97_49, r97_51, r97_54, r97_55, r97_57, r97_60, r97_60n, r97_61, r97_66, r97_66a, r97_66n, r97_67, r97_67n, r97_71, r97_73, r97_73n, r97_74, r97_77, r97_79, r97_80, r97_82, r97_85, r97_85i, r97_86, r97_88, r97_90, r97_90n, r97_91, r97_99, r97_99n, r97_101, r97_101n, r97_102, r97_106, r97_108, r97_108n, r97_109, r97_109n, r97_114, r97_114n, r97_115, r97_115n, r97_117, r97_121, r97_121n, r97_122, r97_126, r97_126n, r97_128, r97_128n, r97_129, r97_130, r97_131, r97_132, r97_139, r97_139n, r97_140, r97_140n, r97_145, r97_145n, r97_146, r97_149, r97_152, r97_154, r97_154n, r97_156, r97_156n, r97_157, r97_157n, r97_159, r97_159n, i32_10, reduceIte, gm_cmp1, gm_cmp3, gm_cmp4, gm_kd_sf, gm_ln_sf, gm_sf_1, gm_sf_2, gm_nw_1, gm_nw_2, gm_k_int, gm_k_ref, gm_k_null, gm_k_u, gm_k_long, and_true, true_and, true_or, or_true, or_false, false_or, and_self, or_self, if_true, if_false, List.map_nil, List.map_cons, List.sum_nil, List.sum_cons, Nat.zero_le, Option.toList_some, Option.toList_none, List.cons_append, List.nil_append, ne_eq, not_false_eq_true, not_true_eq_false, nI_1, nI_add, Value.category, Nat.reduceAdd, Nat.reduceMod, Nat.reduceLeDiff, Nat.reduceLT, Nat.reduceEqDiff, Nat.reducePow, Nat.le_refl, Nat.add_left_cancel_iff, Nat.add_eq_left, Nat.left_eq_add, Nat.add_zero]
    exact c97_63 (by simp) R1.1.1 (by omega) (x_fail (G := G) (α := Unit) (val := fun _ _ _ => True) R1) gx_fn (fun _ _ q => q.er (fun f e2 => by cases e2; exact e) st1 (fun _ z => Or.inr z))
  by_cases t2 : t = 114
  · have t2' : ¬ t ≠ 114 := fun z => z t2
    rw [if_neg t2'] at hres
    subst t2
    have m112 : ¬ (114 : Int32) = 112 := by decide
    have m113 : ¬ (114 : Int32) = 113 := by decide
    cases up with
    | none =>
      have k8 : ¬ nI k ≤ 8 := nI_ge (a := 8) Hu (by omega)
      simp only [r97_0, r97_0n, r97_4, r97_5, r97_6, r97_8, r97_11, r97_12, r97_12n, r97_13, r97_14, r97_16, r97_19, r97_19n, r97_20, r97_23, r97_26, r97_26n, r97_30, r97_31, r97_31n, r97_33, r97_33n, r97_35n, r97_35, r97_38, r97_38n, r97_39, r97_44, r97_44a, r97_44n, r97_45, r97_45n, r97_47, r97_47n, r97_48, r97_49, r97_51, r97_54, r97_55, r97_57, r97_61, r97_66, r97_66a, r97_66n, r97_67, r97_67n, r97_71, r97_73, r97_73n, r97_74, r97_77, r97_79, r97_80, r97_82, r97_85, r97_85i, r97_86, r97_88, r97_90, r97_90n, r97_91, r97_99, r97_99n, r97_101, r97_101n, r97_102, r97_106, r97_108, r97_108n, r97_109, r97_109n, r97_114, r97_114n, r97_115, r97_115n, r97_117, r97_121, r97_121n, r97_122, r97_126, r97_126n, r97_128, r97_128n, r97_129, r97_130, r97_131, r97_132, r97_139, r97_139n, r97_140, r97_140n, r97_145, r97_145n, r97_146, r97_149, r97_152, r97_154, r97_154n, r97_156, r97_156n, r97_157, r97_157n, r97_159, r97_159n, i32_10, reduceIte, gm_cmp1, gm_cmp3, gm_cmp4, gm_kd_sf, gm_ln_sf, gm_sf_1, gm_sf_2, gm_nw_1, gm_nw_2, gm_k_int, gm_k_ref, gm_k_null, gm_k_u, gm_k_long, and_true, true_and, true_or, or_true, or_false, false_or, and_self, or_self, if_true, if_false, List.map_nil, List.map_cons, List.sum_nil, List.sum_cons, Nat.zero_le, Option.toList_some, Option.toList_none, List.cons_append, List.nil_append, ne_eq, not_false_eq_true, not_true_eq_false, nI_1, nI_add, Value.category, Nat.reduceAdd, Nat.reduceMod, Nat.reduceLeDiff, Nat.reduceLT, Nat.reduceEqDiff, Nat.reducePow, Nat.le_refl, Nat.add_left_cancel_iff, Nat.add_eq_left, Nat.left_eq_add, Nat.add_zero, m112, m113, k8]
      exact bad _ _ _ _ _ hres
    | some m =>
      obtain ⟨k8', DC⟩ := Hu
      have k8 : nI k ≤ 8 := nI_le (b := 8) k8' (by decide)
      simp only [r97_0, r97_0n, r97_4, r97_5, r97_6, r97_8, r97_11, r97_12, r97_12n, r97_13, r97_14, r97_16, r97_19, r97_19n, r97_20, r97_23, r97_26, r97_26n, r97_30, r97_31, r97_31n, r97_33, r97_33n, r97_35n, r97_35, r97_38, r97_38n, r97_39, r97_44, r97_44a, r97_44n, r97_45, r97_45n, r97_47, r97_47n, r97_48, r97_49, r97_51, r97_54, r97_55, r97_57, r97_61, r97_66, r97_66a, r97_66n, r97_67, r97_67n, r97_71, r97_73, r97_73n, r97_74, r97_77, r97_79, r97_80, r97_82, r97_85, r97_85i, r97_86, r97_88, r97_90, r97_90n, r97_91, r97_99, r97_99n, r97_101, r97_101n, r97_102, r97_106, r97_108, r97_108n, r97_109, r97_109n, r97_114, r97_114n, r97_115, r97_115n, r97_117, r97_121, r97_121n, r97_122, r97_126, r97_126n, r97_128, r97_128n, r97_129, r97_130, r97_131, r97_132, r97_139, r97_139n, r97_140, r97_140n, r97_145, r97_145n, r97_146, r97_149, r97_152, r97_154, r97_154n, r97_156, r97_156n, r97_157, r97_157n, r97_159, r97_159n, i32_10, reduceIte, gm_cmp1, gm_cmp3, gm_cmp4, gm_kd_sf, gm_ln_sf, gm_sf_1, gm_sf_2, gm_nw_1, gm_nw_2, gm_k_int, gm_k_ref, gm_k_null, gm_k_u, gm_k_long, and_true, true_and, true_or, or_true, or_false, false_or, and_self, or_self, if_true, if_false, List.map_nil, List.map_cons, List.sum_nil, List.sum_cons, Nat.zero_le, Option.toList_some, Option.toList_none, List.cons_append, List.nil_append, ne_eq, not_false_eq_true, not_true_eq_false, nI_1, nI_add, Value.category, Nat.reduceAdd, Nat.reduceMod, Nat.reduceLeDiff, Nat.reduceLT, Nat.reduceEqDiff, Nat.reducePow, Nat.le_refl, Nat.add_left_cancel_iff, Nat.add_eq_left, Nat.left_eq_add, Nat.add_zero, m112, m113, k8]
      refine c97_68 (by simp) R1.1.1 (by omega) (x_passUtf (G := fun _ => False) (by omega) R1) (fun v h2 q => ?_) (fun _ _ q => q.er (fun f e => by rw [hres]; exact gs_b_er e) st1 (fun _ z => z.elim))
      obtain ⟨nf, s2, e2, ⟨rfl, na2⟩, R2, mv2, le2, co2⟩ := q
      dsimp only at hres
      rw [gs_b_ok e2, gs_b_ok (m := gs_g) rfl] at hres
      obtain ⟨u1, u2, u3, u4⟩ := gs_utf_ok e2 R1.2.2.2.1.2.1
      obtain ⟨-, eu1, -⟩ := gs_u1_ok e1
      have st2 := st1.trans mv2 le2 co2 (fun _ z => z.elim)
      have hF2 : ∀ a, F a → a < h2.1 := fun a z => by have := hF1 a z; have := mv2.1.1; omega
      have ht2 := R2.top
      obtain ⟨nl, hnl⟩ : ∃ nl, nl = gs_pl s2 - nf := ⟨_, rfl⟩
      rw [← hnl] at hres
      -- the new descriptor
      obtain ⟨a, ha⟩ : ∃ a, a = h2.1 := ⟨_, rfl⟩
      obtain ⟨F', hF'⟩ : ∃ F' : Nat → Prop, F' = fun b => F b ∨ b = a := ⟨_, rfl⟩
      have hFa : F' a := by rw [hF']; exact Or.inr rfl
      have hFF : ∀ b, F b → F' b := fun b z => by rw [hF']; exact Or.inl z
      have naF : ¬ F a := fun z => by have := hF2 a z; omega
      obtain ⟨hn, hne⟩ : ∃ hn, hn = gm_nw h2 (1, [.int 0, .int 0, .long 0, .int 0, .int 0, .null, .null, .null, .int 0, .null]) 10 := ⟨_, rfl⟩
      have Rn : gx_R E hn x ca K F' s2 := by
        rw [hne]
        exact (R2.wk (F' := F') (fun b z => by
          rw [hF'] at z
          rcases z with z | z
          · exact Or.inr z
          · left; omega)).new
      have kn : gm_kd hn a = 1 := by rw [hne, ha, gm_kd_nw1]; rfl
      have hn1 : hn.1 = h2.1 + 1 ∧ hn.2.1 = h2.2.1 + 10 := by rw [hne]; exact ⟨rfl, rfl⟩
      have stn : gx_st h s x G hn s2 := by
        refine ⟨st2.1.trans (G1 := G) (by rw [hne]; exact gx_mv.new ht2) st2.2.1 (fun _ z => Or.inr z), st2.2.1, ?_⟩
        have := na1.1; have := na1.2; have := na2.1; have := na2.2
        have p1 : gs_pl s1 = gs_pl s + 1 := by rw [eu1]; rfl
        unfold gx_co
        omega
      have hFn : ∀ b, F' b → b < hn.1 := fun b z => by
        rw [hF'] at z
        rcases z with z | z
        · have := hF2 b z; omega
        · omega
      simp only [r97_0, r97_0n, r97_4, r97_5, r97_6, r97_8, r97_11, r97_12, r97_12n, r97_13, r97_14, r97_16, r97_19, r97_19n, r97_20, r97_23, r97_26, r97_26n, r97_30, r97_31, r97_31n, r97_33, r97_33n, r97_35n, r97_35, r97_38, r97_38n, r97_39, r97_44, r97_44a, r97_44n, r97_45, r97_45n, r97_47, r97_47n, r97_48, r97_49, r97_51, r97_54, r97_55, r97_57, r97_61, r97_66, r97_66a, r97_66n, r97_67, r97_67n, r97_71, r97_73, r97_73n, r97_74, r97_77, r97_79, r97_80, r97_82, r97_85, r97_85i, r97_86, r97_88, r97_90, r97_90n, r97_91, r97_99, r97_99n, r97_101, r97_101n, r97_102, r97_106, r97_108, r97_108n, r97_109, r97_109n, r97_114, r97_114n, r97_115, r97_115n, r97_117, r97_121, r97_121n, r97_122, r97_126, r97_126n, r97_128, r97_128n, r97_129, r97_130, r97_131, r97_132, r97_139, r97_139n, r97_140, r97_140n, r97_145, r97_145n, r97_146, r97_149, r97_152, r97_154, r97_154n, r97_156, r97_156n, r97_157, r97_157n, r97_159, r97_159n, i32_10, reduceIte, gm_cmp1, gm_cmp3, gm_cmp4, gm_kd_sf, gm_ln_sf, gm_sf_1, gm_sf_2, gm_nw_1, gm_nw_2, gm_k_int, gm_k_ref, gm_k_null, gm_k_u, gm_k_long, and_true, true_and, true_or, or_true, or_false, false_or, and_self, or_self, if_true, if_false, List.map_nil, List.map_cons, List.sum_nil, List.sum_cons, Nat.zero_le, Option.toList_some, Option.toList_none, List.cons_append, List.nil_append, ne_eq, not_false_eq_true, not_true_eq_false, nI_1, nI_add, Value.category, Nat.reduceAdd, Nat.reduceMod, Nat.reduceLeDiff, Nat.reduceLT, Nat.reduceEqDiff, Nat.reducePow, Nat.le_refl, Nat.add_left_cancel_iff, Nat.add_eq_left, Nat.left_eq_add, Nat.add_zero, R2.1.1, R2.2.2.2.1.1, nI_sub u2, ← hnl]
      rw [← hne, ← ha]
      refine c97_93 (by simp [Value.category]) Rn.1.1 (by omega) (x_nextNumber (G := fun _ => False) (z := 8) (by omega) Rn (by decide)) (fun v h3 q => ?_) (fun _ _ q => q.er (fun f e => by rw [hres]; exact gs_b_er e) stn (fun _ z => z.elim))
      obtain ⟨id, s3, e3, ⟨rfl, na3⟩, R3, mv3, le3, co3⟩ := q
      rw [gs_b_ok e3] at hres
      have st3 := stn.trans mv3 le3 co3 (fun _ z => z.elim)
      have r3a : gm_rd h3 a = gm_rd hn a := mv3.1.2 a ⟨Or.inr (by omega), by omega, fun z => z⟩
      have k3 : gm_kd h3 a = 1 := (gv_kd r3a).trans kn
      simp only [i32_10, reduceIte, gm_cmp1, gm_cmp3, gm_cmp4, gm_kd_sf, gm_ln_sf, gm_sf_1, gm_sf_2, gm_nw_1, gm_nw_2, gm_k_int, gm_k_ref, gm_k_null, gm_k_u, gm_k_long, and_true, true_and, true_or, or_true, or_false, false_or, and_self, or_self, if_true, if_false, List.map_nil, List.map_cons, List.sum_nil, List.sum_cons, Nat.zero_le, Option.toList_some, Option.toList_none, List.cons_append, List.nil_append, ne_eq, not_false_eq_true, not_true_eq_false, nI_1, nI_add, Value.category, Nat.reduceAdd, Nat.reduceMod, Nat.reduceLeDiff, Nat.reduceLT, Nat.reduceEqDiff, Nat.reducePow, Nat.le_refl, Nat.add_left_cancel_iff, Nat.add_eq_left, Nat.left_eq_add, Nat.add_zero]
      refine c97_96 (by simp [Value.category]) (by omega) (x_Descriptor k3) (gx_kn ?_) gx_kx
      obtain ⟨h4, h4e⟩ : ∃ h4, h4 = gm_sf (gm_sf (gm_sf h3 a 0 (.int (nI nf))) a 1 (.int (nI nl))) a 2 (.long id) := ⟨_, rfl⟩
      rw [← h4e]
      have la : gm_ln h3 a = 10 := gm_kd_ln k3 (by decide)
      have hxa : x + 6 < a := by omega
      have hGa : h.1 ≤ a := by have := st2.1.1.1; omega
      have R4 : gx_R E h4 x ca K F' s3 := by rw [h4e]; exact ((R3.out hFa hxa).out hFa hxa).out hFa hxa
      have st4 : gx_st h s x G h4 s3 := by rw [h4e]; exact ((st3.sf (Or.inl hGa) (Or.inr hxa)).sf (Or.inl hGa) (Or.inr hxa)).sf (Or.inl hGa) (Or.inr hxa)
      have h41 : h4.1 = h3.1 := by rw [h4e]; simp only [gm_sf_1]
      have k4 : gm_kd h4 a = 1 := by rw [h4e]; simp only [gm_kd_sf]; exact k3
      have f40 : gm_fv h4 a 0 = .int (nI nf) := by rw [h4e, gm_fv_sfj (by decide), gm_fv_sfj (by decide), gm_fv_sf (by rw [la]; decide)]
      have f41 : gm_fv h4 a 1 = .int (nI nl) := by rw [h4e, gm_fv_sfj (by decide), gm_fv_sf (by simp only [gm_ln_sf]; rw [la]; decide)]
      have f42 : gm_fv h4 a 2 = .long id := by rw [h4e, gm_fv_sf (by simp only [gm_ln_sf]; rw [la]; decide)]
      have h23 : hn.1 ≤ h3.1 := mv3.1.1
      simp only [r97_0, r97_0n, r97_4, r97_5, r97_6, r97_8, r97_11, r97_12, r97_12n, r97_13, r97_14, r97_16, r97_19, r97_19n, r97_20, r97_23, r97_26, r97_26n, r97_30, r97_31, r97_31n, r97_33, r97_33n, r97_35n, r97_35, r97_38, r97_38n, r97_39, r97_44, r97_44a, r97_44n, r97_45, r97_45n, r97_47, r97_47n, r97_48, r97_49, r97_51, r97_54, r97_55, r97_57, r97_61, r97_66, r97_66a, r97_66n, r97_67, r97_67n, r97_71, r97_73, r97_73n, r97_74, r97_77, r97_79, r97_80, r97_82, r97_85, r97_85i, r97_86, r97_88, r97_90, r97_90n, r97_91, r97_99, r97_99n, r97_101, r97_101n, r97_102, r97_106, r97_108, r97_108n, r97_109, r97_109n, r97_114, r97_114n, r97_115, r97_115n, r97_117, r97_121, r97_121n, r97_122, r97_126, r97_126n, r97_128, r97_128n, r97_129, r97_130, r97_131, r97_132, r97_139, r97_139n, r97_140, r97_140n, r97_145, r97_145n, r97_146, r97_149, r97_152, r97_154, r97_154n, r97_156, r97_156n, r97_157, r97_157n, r97_159, r97_159n, i32_10, reduceIte, gm_cmp1, gm_cmp3, gm_cmp4, gm_kd_sf, gm_ln_sf, gm_sf_1, gm_sf_2, gm_nw_1, gm_nw_2, gm_k_int, gm_k_ref, gm_k_null, gm_k_u, gm_k_long, and_true, true_and, true_or, or_true, or_false, false_or, and_self, or_self, if_true, if_false, List.map_nil, List.map_cons, List.sum_nil, List.sum_cons, Nat.zero_le, Option.toList_some, Option.toList_none, List.cons_append, List.nil_append, ne_eq, not_false_eq_true, not_true_eq_false, nI_1, nI_add, Value.category, Nat.reduceAdd, Nat.reduceMod, Nat.reduceLeDiff, Nat.reduceLT, Nat.reduceEqDiff, Nat.reducePow, Nat.le_refl, Nat.add_left_cancel_iff, Nat.add_eq_left, Nat.left_eq_add, Nat.add_zero]
      refine c97_103 (by simp) R4.1.1 (by omega) (x_addEntry (G := fun _ => False) (by omega) R4) (fun v h5 q => ?_) (fun _ _ q => q.er (fun f e => by rw [hres]; exact gs_b_er e) st4 (fun _ z => z.elim))
      obtain ⟨e, s5, e5, ⟨rfl, na5⟩, R5, mv5, le5, co5⟩ := q
      rw [gs_b_ok e5] at hres
      obtain ⟨ee, es5⟩ := gs_addE_ok e5
      have st5 := st4.trans mv5 le5 co5 (fun _ z => z.elim)
      have h45 : h4.1 ≤ h5.1 := mv5.1.1
      have r5a : gm_rd h5 a = gm_rd h4 a := mv5.1.2 a ⟨Or.inr hxa, by omega, fun z => z⟩
      have k5 : gm_kd h5 a = 1 := (gv_kd r5a).trans k4
      have f52 : gm_fv h5 a 2 = .long id := (gv_fv r5a).trans f42
      have la5 : gm_ln h5 a = 10 := gm_kd_ln k5 (by decide)
      simp only [r97_0, r97_0n, r97_4, r97_5, r97_6, r97_8, r97_11, r97_12, r97_12n, r97_13, r97_14, r97_16, r97_19, r97_19n, r97_20, r97_23, r97_26, r97_26n, r97_30, r97_31, r97_31n, r97_33, r97_33n, r97_35n, r97_35, r97_38, r97_38n, r97_39, r97_44, r97_44a, r97_44n, r97_45, r97_45n, r97_47, r97_47n, r97_48, r97_49, r97_51, r97_54, r97_55, r97_57, r97_61, r97_66, r97_66a, r97_66n, r97_67, r97_67n, r97_71, r97_73, r97_73n, r97_74, r97_77, r97_79, r97_80, r97_82, r97_85, r97_85i, r97_86, r97_88, r97_90, r97_90n, r97_91, r97_99, r97_99n, r97_101, r97_101n, r97_102, r97_106, r97_108, r97_108n, r97_109, r97_109n, r97_114, r97_114n, r97_115, r97_115n, r97_117, r97_121, r97_121n, r97_122, r97_126, r97_126n, r97_128, r97_128n, r97_129, r97_130, r97_131, r97_132, r97_139, r97_139n, r97_140, r97_140n, r97_145, r97_145n, r97_146, r97_149, r97_152, r97_154, r97_154n, r97_156, r97_156n, r97_157, r97_157n, r97_159, r97_159n, i32_10, reduceIte, gm_cmp1, gm_cmp3, gm_cmp4, gm_kd_sf, gm_ln_sf, gm_sf_1, gm_sf_2, gm_nw_1, gm_nw_2, gm_k_int, gm_k_ref, gm_k_null, gm_k_u, gm_k_long, and_true, true_and, true_or, or_true, or_false, false_or, and_self, or_self, if_true, if_false, List.map_nil, List.map_cons, List.sum_nil, List.sum_cons, Nat.zero_le, Option.toList_some, Option.toList_none, List.cons_append, List.nil_append, ne_eq, not_false_eq_true, not_true_eq_false, nI_1, nI_add, Value.category, Nat.reduceAdd, Nat.reduceMod, Nat.reduceLeDiff, Nat.reduceLT, Nat.reduceEqDiff, Nat.reducePow, Nat.le_refl, Nat.add_left_cancel_iff, Nat.add_eq_left, Nat.left_eq_add, Nat.add_zero]
      refine c97_111 (by simp) (by simp [gm_en1]) R5.1.1 (by omega) (x_readFlags (G := fun b => b = a) (by omega) R5 k5 f52 hFa hxa (by omega) rfl) (fun v h6 q => ?_) (fun _ _ q => q.er (fun f e => by rw [hres]; exact gs_b_er e) st5 (fun b z => Or.inl (by omega)))
      obtain ⟨fl, s6, e6, ⟨rfl, na6, rd6⟩, R6, mv6, le6, co6⟩ := q
      rw [gs_b_ok e6] at hres
      have st6 := st5.trans mv6 le6 co6 (fun b z => Or.inl (by omega))
      have h56 : h5.1 ≤ h6.1 := mv6.1.1
      have k6 : gm_kd h6 a = 1 := (gv_kd rd6).trans (by rw [gm_kd_sf]; exact k5)
      have f6 : ∀ j, j ≠ 3 → gm_fv h6 a j = gm_fv h5 a j := fun j hj => (gv_fv rd6).trans (gm_fv_sfj hj)
      have f63 : gm_fv h6 a 3 = .int fl := (gv_fv rd6).trans (gm_fv_sf (by rw [la5]; decide))
      have hF6 : ∀ b, F' b → b < h6.1 := fun b z => by have := hFn b z; omega
      simp only [r97_0, r97_0n, r97_4, r97_5, r97_6, r97_8, r97_11, r97_12, r97_12n, r97_13, r97_14, r97_16, r97_19, r97_19n, r97_20, r97_23, r97_26, r97_26n, r97_30, r97_31, r97_31n, r97_33, r97_33n, r97_35n, r97_35, r97_38, r97_38n, r97_39, r97_44, r97_44a, r97_44n, r97_45, r97_45n, r97_47, r97_47n, r97_48, r97_49, r97_51, r97_54, r97_55, r97_57, r97_61, r97_66, r97_66a, r97_66n, r97_67, r97_67n, r97_71, r97_73, r97_73n, r97_74, r97_77, r97_79, r97_80, r97_82, r97_85, r97_85i, r97_86, r97_88, r97_90, r97_90n, r97_91, r97_99, r97_99n, r97_101, r97_101n, r97_102, r97_106, r97_108, r97_108n, r97_109, r97_109n, r97_114, r97_114n, r97_115, r97_115n, r97_117, r97_121, r97_121n, r97_122, r97_126, r97_126n, r97_128, r97_128n, r97_129, r97_130, r97_131, r97_132, r97_139, r97_139n, r97_140, r97_140n, r97_145, r97_145n, r97_146, r97_149, r97_152, r97_154, r97_154n, r97_156, r97_156n, r97_157, r97_157n, r97_159, r97_159n, i32_10, reduceIte, gm_cmp1, gm_cmp3, gm_cmp4, gm_kd_sf, gm_ln_sf, gm_sf_1, gm_sf_2, gm_nw_1, gm_nw_2, gm_k_int, gm_k_ref, gm_k_null, gm_k_u, gm_k_long, and_true, true_and, true_or, or_true, or_false, false_or, and_self, or_self, if_true, if_false, List.map_nil, List.map_cons, List.sum_nil, List.sum_cons, Nat.zero_le, Option.toList_some, Option.toList_none, List.cons_append, List.nil_append, ne_eq, not_false_eq_true, not_true_eq_false, nI_1, nI_add, Value.category, Nat.reduceAdd, Nat.reduceMod, Nat.reduceLeDiff, Nat.reduceLT, Nat.reduceEqDiff, Nat.reducePow, Nat.le_refl, Nat.add_left_cancel_iff, Nat.add_eq_left, Nat.left_eq_add, Nat.add_zero]
      refine c97_118 (by simp) (by simp [gm_en1]) R6.1.1 (by omega) (x_readStreamFields (G := fun b => b = a) C (by omega) (by omega) R6 hF6 k6 f63 hFa hxa rfl) (fun v h7 q => ?_) (fun _ _ q => q.er (fun f e => by rw [hres]; exact gs_b_er e) st6 (fun b z => Or.inl (by omega)))
      obtain ⟨fs, s7, e7, ⟨rfl, fs8, u, w, ⟨hu1, hu2, hw1, hw2⟩, lp7⟩, R7, mv7, le7, co7⟩ := q
      rw [gs_b_ok e7] at hres
      have st7 := st6.trans mv7 le7 co7 (fun b z => Or.inl (by omega))
      have h67 : h6.1 ≤ h7.1 := mv7.1.1
      have hF7 : ∀ b, F' b → b < h7.1 := fun b z => by have := hF6 b z; omega
      simp only [r97_0, r97_0n, r97_4, r97_5, r97_6, r97_8, r97_11, r97_12, r97_12n, r97_13, r97_14, r97_16, r97_19, r97_19n, r97_20, r97_23, r97_26, r97_26n, r97_30, r97_31, r97_31n, r97_33, r97_33n, r97_35n, r97_35, r97_38, r97_38n, r97_39, r97_44, r97_44a, r97_44n, r97_45, r97_45n, r97_47, r97_47n, r97_48, r97_49, r97_51, r97_54, r97_55, r97_57, r97_61, r97_66, r97_66a, r97_66n, r97_67, r97_67n, r97_71, r97_73, r97_73n, r97_74, r97_77, r97_79, r97_80, r97_82, r97_85, r97_85i, r97_86, r97_88, r97_90, r97_90n, r97_91, r97_99, r97_99n, r97_101, r97_101n, r97_102, r97_106, r97_108, r97_108n, r97_109, r97_109n, r97_114, r97_114n, r97_115, r97_115n, r97_117, r97_121, r97_121n, r97_122, r97_126, r97_126n, r97_128, r97_128n, r97_129, r97_130, r97_131, r97_132, r97_139, r97_139n, r97_140, r97_140n, r97_145, r97_145n, r97_146, r97_149, r97_152, r97_154, r97_154n, r97_156, r97_156n, r97_157, r97_157n, r97_159, r97_159n, i32_10, reduceIte, gm_cmp1, gm_cmp3, gm_cmp4, gm_kd_sf, gm_ln_sf, gm_sf_1, gm_sf_2, gm_nw_1, gm_nw_2, gm_k_int, gm_k_ref, gm_k_null, gm_k_u, gm_k_long, and_true, true_and, true_or, or_true, or_false, false_or, and_self, or_self, if_true, if_false, List.map_nil, List.map_cons, List.sum_nil, List.sum_cons, Nat.zero_le, Option.toList_some, Option.toList_none, List.cons_append, List.nil_append, ne_eq, not_false_eq_true, not_true_eq_false, nI_1, nI_add, Value.category, Nat.reduceAdd, Nat.reduceMod, Nat.reduceLeDiff, Nat.reduceLT, Nat.reduceEqDiff, Nat.reducePow, Nat.le_refl, Nat.add_left_cancel_iff, Nat.add_eq_left, Nat.left_eq_add, Nat.add_zero]
      refine c97_123 (by simp) R7.1.1 (by omega) (x_passRest (G := fun _ => False) C hK hdp (by omega) (by omega) R7 hF7) (fun v h8 q => ?_) (fun _ _ q => q.er (fun f e => by rw [hres]; exact gs_b_er e) st7 (fun _ z => z.elim))
      obtain ⟨_, s8, e8, rfl, R8, mv8, le8, co8⟩ := q
      rw [gs_b_ok e8] at hres
      have st8 := st7.trans mv8 le8 co8 (fun _ z => z.elim)
      have h78 : h7.1 ≤ h8.1 := mv8.1.1
      have hF8 : ∀ b, F' b → b < h8.1 := fun b z => by have := hF7 b z; omega
      have lp8 := lp7.tr (mv8.1.2 a ⟨Or.inr hxa, by omega, fun z => z⟩) (mv8.1.2 u ⟨Or.inr (by omega), by omega, fun z => z⟩) (mv8.1.2 w ⟨Or.inr (by omega), by omega, fun z => z⟩)
      simp only [r97_0, r97_0n, r97_4, r97_5, r97_6, r97_8, r97_11, r97_12, r97_12n, r97_13, r97_14, r97_16, r97_19, r97_19n, r97_20, r97_23, r97_26, r97_26n, r97_30, r97_31, r97_31n, r97_33, r97_33n, r97_35n, r97_35, r97_38, r97_38n, r97_39, r97_44, r97_44a, r97_44n, r97_45, r97_45n, r97_47, r97_47n, r97_48, r97_49, r97_51, r97_54, r97_55, r97_57, r97_61, r97_66, r97_66a, r97_66n, r97_67, r97_67n, r97_71, r97_73, r97_73n, r97_74, r97_77, r97_79, r97_80, r97_82, r97_85, r97_85i, r97_86, r97_88, r97_90, r97_90n, r97_91, r97_99, r97_99n, r97_101, r97_101n, r97_102, r97_106, r97_108, r97_108n, r97_109, r97_109n, r97_114, r97_114n, r97_115, r97_115n, r97_117, r97_121, r97_121n, r97_122, r97_126, r97_126n, r97_128, r97_128n, r97_129, r97_130, r97_131, r97_132, r97_139, r97_139n, r97_140, r97_140n, r97_145, r97_145n, r97_146, r97_149, r97_152, r97_154, r97_154n, r97_156, r97_156n, r97_157, r97_157n, r97_159, r97_159n, i32_10, reduceIte, gm_cmp1, gm_cmp3, gm_cmp4, gm_kd_sf, gm_ln_sf, gm_sf_1, gm_sf_2, gm_nw_1, gm_nw_2, gm_k_int, gm_k_ref, gm_k_null, gm_k_u, gm_k_long, and_true, true_and, true_or, or_true, or_false, false_or, and_self, or_self, if_true, if_false, List.map_nil, List.map_cons, List.sum_nil, List.sum_cons, Nat.zero_le, Option.toList_some, Option.toList_none, List.cons_append, List.nil_append, ne_eq, not_false_eq_true, not_true_eq_false, nI_1, nI_add, Value.category, Nat.reduceAdd, Nat.reduceMod, Nat.reduceLeDiff, Nat.reduceLT, Nat.reduceEqDiff, Nat.reducePow, Nat.le_refl, Nat.add_left_cancel_iff, Nat.add_eq_left, Nat.left_eq_add, Nat.add_zero]
      refine c97_133 (by simp [Value.category]) R8.1.1 (by omega) (DC (d - 1) h8 s8 F' (fun _ => False) (Nat.le_refl _) R8 hF8) (fun v h9 q => ?_) (fun _ _ q => q.er (fun f e => by rw [hres]; exact gs_b_er e) st8 (fun _ z => z.elim))
      obtain ⟨L, s9, e9, ⟨⟨vp, rfl, ds9⟩, sur9⟩, R9, mv9, le9, co9⟩ := q
      rw [gs_b_ok e9] at hres
      have st9 := st8.trans mv9 le9 co9 (fun _ z => z.elim)
      have h89 : h8.1 ≤ h9.1 := mv9.1.1
      have lp9 := lp8.tr (mv9.1.2 a ⟨Or.inr hxa, by omega, fun z => z⟩) (mv9.1.2 u ⟨Or.inr (by omega), by omega, fun z => z⟩) (mv9.1.2 w ⟨Or.inr (by omega), by omega, fun z => z⟩)
      have lp9' := lp9
      obtain ⟨q1, q2, q3, q4, q5, q6, q7, q8, q9, q10⟩ := lp9'
      have la9 : gm_ln h9 a = 10 := gm_kd_ln q1 (by decide)
      obtain ⟨l, hl⟩ : ∃ l : gs_L, l = (nf, nl, id, fl, fs, gs_find K nf nl) := ⟨_, rfl⟩
      rw [← hl] at hres
      have D9 : gx_d0 h9 a u w l := by
        rw [hl]
        refine ⟨q1, ?_, ?_, ?_, ?_, q3, q4, q5, q6, q7, q8, q9, fs8, q10⟩
        · rw [q2 0 (by decide) (by decide) (by decide), f6 0 (by decide), gv_fv r5a]; exact f40
        · rw [q2 1 (by decide) (by decide) (by decide), f6 1 (by decide), gv_fv r5a]; exact f41
        · rw [q2 2 (by decide) (by decide) (by decide), f6 2 (by decide), gv_fv r5a]; exact f42
        · rw [q2 3 (by decide) (by decide) (by decide)]; exact f63
      simp only [i32_10, reduceIte, gm_cmp1, gm_cmp3, gm_cmp4, gm_kd_sf, gm_ln_sf, gm_sf_1, gm_sf_2, gm_nw_1, gm_nw_2, gm_k_int, gm_k_ref, gm_k_null, gm_k_u, gm_k_long, and_true, true_and, true_or, or_true, or_false, false_or, and_self, or_self, if_true, if_false, List.map_nil, List.map_cons, List.sum_nil, List.sum_cons, Nat.zero_le, Option.toList_some, Option.toList_none, List.cons_append, List.nil_append, ne_eq, not_false_eq_true, not_true_eq_false, nI_1, nI_add, Value.category, Nat.reduceAdd, Nat.reduceMod, Nat.reduceLeDiff, Nat.reduceLT, Nat.reduceEqDiff, Nat.reducePow, Nat.le_refl, Nat.add_left_cancel_iff, Nat.add_eq_left, Nat.left_eq_add, Nat.add_zero]
      have en1 : (gm_en1 [Value.ref a, vp]).length ≤ 2 := by
        cases L with
        | nil => have : vp = .null := ds9; rw [this]; simp [gm_en1]
        | cons l L => obtain ⟨b, _, _, e, _⟩ := ds9; rw [e]; simp [gm_en1]
      refine c97_136 (by simp) en1 q1 (by omega) (x_putUnder q1 ds9 hFa) (gx_kn ?_) gx_kx
      obtain ⟨h10, h10e⟩ : ∃ h10, h10 = gm_sf (gm_sf h9 a 7 vp) a 8 (.int (nI L.length)) := ⟨_, rfl⟩
      rw [← h10e]
      have ua : u ≠ a := by omega
      have wa : w ≠ a := by omega
      have R10 : gx_R E h10 x ca K F' s9 := by rw [h10e]; exact (R9.out hFa hxa).out hFa hxa
      have st10 : gx_st h s x G h10 s9 := by rw [h10e]; exact (st9.sf (Or.inl hGa) (Or.inr hxa)).sf (Or.inl hGa) (Or.inr hxa)
      have h101 : h10.1 = h9.1 := by rw [h10e]; simp only [gm_sf_1]
      have D10 : gx_d0 h10 a u w l := by rw [h10e]; exact (D9.sf (by decide) ua wa).sf (by decide) ua wa
      have f107 : gm_fv h10 a 7 = vp := by rw [h10e, gm_fv_sfj (by decide), gm_fv_sf (by rw [la9]; decide)]
      have f108 : gm_fv h10 a 8 = .int (nI L.length) := by rw [h10e, gm_fv_sf (by rw [gm_ln_sf, la9]; decide)]
      have ds10 : gx_ds h10 x ca K F' L vp := by rw [h10e]; exact (ds9.tr (gx_ag.sf fun z => z.2.2 hFa)).tr (gx_ag.sf fun z => z.2.2 hFa)
      have la10 : gm_ln h10 a = 10 := gm_kd_ln D10.1 (by decide)
      simp only [r97_0, r97_0n, r97_4, r97_5, r97_6, r97_8, r97_11, r97_12, r97_12n, r97_13, r97_14, r97_16, r97_19, r97_19n, r97_20, r97_23, r97_26, r97_26n, r97_30, r97_31, r97_31n, r97_33, r97_33n, r97_35n, r97_35, r97_38, r97_38n, r97_39, r97_44, r97_44a, r97_44n, r97_45, r97_45n, r97_47, r97_47n, r97_48, r97_49, r97_51, r97_54, r97_55, r97_57, r97_61, r97_66, r97_66a, r97_66n, r97_67, r97_67n, r97_71, r97_73, r97_73n, r97_74, r97_77, r97_79, r97_80, r97_82, r97_85, r97_85i, r97_86, r97_88, r97_90, r97_90n, r97_91, r97_99, r97_99n, r97_101, r97_101n, r97_102, r97_106, r97_108, r97_108n, r97_109, r97_109n, r97_114, r97_114n, r97_115, r97_115n, r97_117, r97_121, r97_121n, r97_122, r97_126, r97_126n, r97_128, r97_128n, r97_129, r97_130, r97_131, r97_132, r97_139, r97_139n, r97_140, r97_140n, r97_145, r97_145n, r97_146, r97_149, r97_152, r97_154, r97_154n, r97_156, r97_156n, r97_157, r97_157n, r97_159, r97_159n, i32_10, reduceIte, gm_cmp1, gm_cmp3, gm_cmp4, gm_kd_sf, gm_ln_sf, gm_sf_1, gm_sf_2, gm_nw_1, gm_nw_2, gm_k_int, gm_k_ref, gm_k_null, gm_k_u, gm_k_long, and_true, true_and, true_or, or_true, or_false, false_or, and_self, or_self, if_true, if_false, List.map_nil, List.map_cons, List.sum_nil, List.sum_cons, Nat.zero_le, Option.toList_some, Option.toList_none, List.cons_append, List.nil_append, ne_eq, not_false_eq_true, not_true_eq_false, nI_1, nI_add, Value.category, Nat.reduceAdd, Nat.reduceMod, Nat.reduceLeDiff, Nat.reduceLT, Nat.reduceEqDiff, Nat.reducePow, Nat.le_refl, Nat.add_left_cancel_iff, Nat.add_eq_left, Nat.left_eq_add, Nat.add_zero]
      refine c97_142 (by simp) (by simp [gm_en1]) R10.1.1 (by omega) (x_matchLocalClass (G := fun b => b = a) (by omega) R10 D10 hFa hxa ua wa (by rw [hl]; show nf + nl ≤ gs_n K; omega) rfl) (fun v h11 q => ?_) (fun _ _ q => q.er (fun f e => by rw [hres]; exact gs_b_er e) st10 (fun b z => Or.inl (by omega)))
      obtain ⟨_, s11, e11, ⟨rfl, eh11⟩, R11, mv11, le11, co11⟩ := q
      rw [gs_b_ok e11] at hres
      have st11 := st10.trans mv11 le11 co11 (fun b z => Or.inl (by omega))
      have es11 : s11 = s9 := by
        unfold gs_mch at e11
        split at e11
        · cases e11
        · split at e11
          · cases e11
          · cases e11; rfl
      have D11 : gx_d0 h11 a u w l := by rw [eh11]; exact D10.sf (by decide) ua wa
      have ds11 : gx_ds h11 x ca K F' L vp := by rw [eh11]; exact ds10.tr (gx_ag.sf fun z => z.2.2 hFa)
      have h111 : h11.1 = h10.1 := by rw [eh11, gm_sf_1]
      have f117 : gm_fv h11 a 7 = vp := by rw [eh11, gm_fv_sfj (by decide)]; exact f107
      have f118 : gm_fv h11 a 8 = .int (nI L.length) := by rw [eh11, gm_fv_sfj (by decide)]; exact f108
      have f119 : gm_fv h11 a 9 = gx_ow ca (gs_own l) := by
        rw [eh11, gm_fv_sf (by rw [la10]; decide), hl]
        rfl
      have RF : gx_R E h11 x ca K F s11 := R11.wk (fun b z => Or.inr (hFF b z))
      have okf : ∀ b, x + 6 < b → b < h11.1 → h.1 ≤ b → gx_ok h11 x F b := fun b z1 z2 z3 => ⟨Or.inr z1, z2, fun z => by have := hF b z; omega⟩
      have dsF : gx_ds h11 x ca K F (l :: L) (.ref a) := by
        obtain ⟨d1, d2, d3, d4, d5, d6, d7, d8, d9, d10, d11, d12, d13, d14⟩ := D11
        refine ⟨a, u, w, rfl, okf a hxa (by omega) hGa, okf u (by omega) (by omega) (by omega), okf w (by omega) (by omega) (by omega), d1, d2, d3, d4, d5, d6, d7, d8, f118, f119, d9, d10, d11, d12, ⟨d13, ?_⟩, ?_, ?_, d14, ?_⟩
        · intro c hc
          obtain ⟨C', hC'⟩ := Option.isSome_iff_exists.mp hc
          obtain ⟨-, -, ⟨-, -, o3⟩, -⟩ := R.2.2.1.at hC'
          have := o3.2.1
          have := st6.1.1.1
          omega
        · rw [hl]; show nf + nl ≤ gs_n K; omega
        · intro c hc
          rw [hl] at hc
          have hc : gs_find K nf nl = some c := hc
          rw [gs_cn_def] at hc
          split at hc
          · cases hc
          · split at hc
            · rename_i z
              cases hc
              obtain ⟨C', hC'⟩ := Option.isSome_iff_exists.mp z
              exact ⟨(R11.2.2.1.wf _ _ hC').1, z⟩
            · cases hc
        · rw [f117]
          exact ds11.wk (fun b z => Or.inr (hFF b z))
      obtain ⟨A0, -, -, -, A10, -, -, -, -, -, -, A4, -, A41, -, -, A6, A6l, -⟩ := R11.1
      have hle : (gs_hs s).length ≤ e := by
        have := st4.2.1.2
        omega
      have hlt : e < (gs_hs s11).length := by
        have h1 := le6.2
        have h2 := le7.2
        have h3 := le8.2
        have h4 := le9.2
        have h5 : (gs_hs s5).length = (gs_hs s3).length + 1 := by rw [es5]; simp [gs_hs]
        rw [es11]
        omega
      have h234 := R11.2.2.2.1.2.2.2.2.2.2.2.1
      have he2 : e < 234 := by omega
      have hLn : (l :: L).length ≤ gs_dn s11 + 1 := by
        have := (sur9 s9 e9).2
        rw [es11]
        simp
        omega
      have hee : (gs_hs s11)[e].2 = [] := by
        have hes : e < (gs_hs s5).length := by rw [es5]; simp [gs_hs] at ee ⊢; omega
        have e5n : gm_fv h5 (x + 6) e = .null := by
          obtain ⟨-, q⟩ := R5.2.2.2.2.2.1 e (-1, []) (by
            rw [es5]
            show (gs_hs s3 ++ [(-1, [])])[e]? = _
            rw [ee]
            simp)
          exact q
        have e6n := ((mv6.2.2.2.2 e hes).2).trans e5n
        have e7n := ((mv7.2.2.2.2 e (Nat.lt_of_lt_of_le hes le6.2)).2).trans e6n
        have e8n := ((mv8.2.2.2.2 e (Nat.lt_of_lt_of_le hes (Nat.le_trans le6.2 le7.2))).2).trans e7n
        have e9n := ((mv9.2.2.2.2 e (Nat.lt_of_lt_of_le hes (Nat.le_trans le6.2 (Nat.le_trans le7.2 le8.2)))).2).trans e8n
        have e10n : gm_fv h10 (x + 6) e = .null := by rw [h10e, gm_fv_sfa (by omega), gm_fv_sfa (by omega)]; exact e9n
        have e11n : gm_fv h11 (x + 6) e = .null := by rw [eh11, gm_fv_sfa (by omega)]; exact e10n
        obtain ⟨-, q⟩ := R11.2.2.2.2.2.1 e _ (List.getElem?_eq_getElem hlt)
        rw [e11n] at q
        cases hz : (gs_hs s11)[e].2 with
        | nil => rfl
        | cons l0 L0 =>
          rw [hz] at q
          obtain ⟨_, _, _, z, _⟩ := q
          cases z
      have l6 : (1 : Nat) < 6 := by decide
      simp only [r97_0, r97_0n, r97_4, r97_5, r97_6, r97_8, r97_11, r97_12, r97_12n, r97_13, r97_14, r97_16, r97_19, r97_19n, r97_20, r97_23, r97_26, r97_26n, r97_30, r97_31, r97_31n, r97_33, r97_33n, r97_35n, r97_35, r97_38, r97_38n, r97_39, r97_44, r97_44a, r97_44n, r97_45, r97_45n, r97_47, r97_47n, r97_48, r97_49, r97_51, r97_54, r97_55, r97_57, r97_61, r97_66, r97_66a, r97_66n, r97_67, r97_67n, r97_71, r97_73, r97_73n, r97_74, r97_77, r97_79, r97_80, r97_82, r97_85, r97_85i, r97_86, r97_88, r97_90, r97_90n, r97_91, r97_99, r97_99n, r97_101, r97_101n, r97_102, r97_106, r97_108, r97_108n, r97_109, r97_109n, r97_114, r97_114n, r97_115, r97_115n, r97_117, r97_121, r97_121n, r97_122, r97_126, r97_126n, r97_128, r97_128n, r97_129, r97_130, r97_131, r97_132, r97_139, r97_139n, r97_140, r97_140n, r97_145, r97_145n, r97_146, r97_149, r97_152, r97_154, r97_154n, r97_156, r97_156n, r97_157, r97_157n, r97_159, r97_159n, i32_10, reduceIte, gm_cmp1, gm_cmp3, gm_cmp4, gm_kd_sf, gm_ln_sf, gm_sf_1, gm_sf_2, gm_nw_1, gm_nw_2, gm_k_int, gm_k_ref, gm_k_null, gm_k_u, gm_k_long, and_true, true_and, true_or, or_true, or_false, false_or, and_self, or_self, if_true, if_false, List.map_nil, List.map_cons, List.sum_nil, List.sum_cons, Nat.zero_le, Option.toList_some, Option.toList_none, List.cons_append, List.nil_append, ne_eq, not_false_eq_true, not_true_eq_false, nI_1, nI_add, Value.category, Nat.reduceAdd, Nat.reduceMod, Nat.reduceLeDiff, Nat.reduceLT, Nat.reduceEqDiff, Nat.reducePow, Nat.le_refl, Nat.add_left_cancel_iff, Nat.add_eq_left, Nat.left_eq_add, Nat.add_zero, A0, A10, A4, A41, D11.1, A6, A6l, he2]
      rw [hres]
      have sur : h11.1 + 3 + gs_pl s ≤ h.1 + gs_pl s11 ∧ h11.2.1 + 29 + 8 * gs_pl s ≤ h.2.1 + 8 * gs_pl s11 := by
        have p1 : gs_pl s1 = gs_pl s + 1 := by rw [eu1]; rfl
        have p3 : gs_pl s3 = gs_pl s2 + 8 := by rw [(gs_nxt_eq e3).2]; rfl
        have z4 : h4.2.1 = h3.2.1 := by rw [h4e]; simp only [gm_sf_2]
        have z10 : h10.2.1 = h9.2.1 := by rw [h10e]; simp only [gm_sf_2]
        obtain ⟨a1, b1⟩ := na1
        obtain ⟨a2, b2⟩ := na2
        obtain ⟨a3, b3⟩ := na3
        obtain ⟨a5, b5⟩ := co5
        obtain ⟨a6, b6⟩ := co6
        obtain ⟨a7, b7⟩ := co7
        obtain ⟨a8, b8⟩ := co8
        obtain ⟨a9, b9⟩ := co9
        obtain ⟨a11, b11⟩ := co11
        omega
      refine ⟨l :: L, _, rfl, ⟨⟨.ref a, rfl, dsF.tr (gx_ag.sf (gx_ok.no (by omega)))⟩, fun s' es => by cases es; exact ⟨fun _ => by simp only [gm_sf_1, gm_sf_2]; exact sur, (RF.setD hlt dsF hee hLn).2.2.2.2.2.2.2 e (((gs_hs s11)[e]).1, l :: L) (by show ((gs_hs s11).modify e _)[e]? = _; rw [List.getElem?_modify, List.getElem?_eq_getElem hlt]; simp)⟩⟩, RF.setD hlt dsF hee hLn, st11.1.tr (gx_mv.dsc hle), ?_, ?_⟩
      · refine st11.2.1.trans ⟨Nat.le_refl _, ?_⟩
        simp [gs_hs]
      · exact st11.2.2.trans ⟨by simp only [gm_sf_1]; exact Nat.le_refl _, by simp only [gm_sf_2]; exact Nat.le_refl _⟩
  · rw [if_pos t2] at hres
    simp only [r97_0, r97_0n, r97_4, r97_5, r97_6, r97_8, r97_11, r97_12, r97_12n, r97_13, r97_14, r97_16, r97_19, r97_19n, r97_20, r97_23, r97_26, r97_26n, r97_30, r97_31, r97_31n, r97_33, r97_33n, r97_35n, r97_35, r97_38, r97_38n, r97_39, r97_44, r97_44a, r97_44n, r97_45, r97_45n, r97_47, r97_47n, r97_48, r97_49, r97_51, r97_54, r97_55, r97_57, r97_61, r97_66, r97_66a, r97_66n, r97_67, r97_67n, r97_71, r97_73, r97_73n, r97_74, r97_77, r97_79, r97_80, r97_82, r97_85, r97_85i, r97_86, r97_88, r97_90, r97_90n, r97_91, r97_99, r97_99n, r97_101, r97_101n, r97_102, r97_106, r97_108, r97_108n, r97_109, r97_109n, r97_114, r97_114n, r97_115, r97_115n, r97_117, r97_121, r97_121n, r97_122, r97_126, r97_126n, r97_128, r97_128n, r97_129, r97_130, r97_131, r97_132, r97_139, r97_139n, r97_140, r97_140n, r97_145, r97_145n, r97_146, r97_149, r97_152, r97_154, r97_154n, r97_156, r97_156n, r97_157, r97_157n, r97_159, r97_159n, i32_10, reduceIte, gm_cmp1, gm_cmp3, gm_cmp4, gm_kd_sf, gm_ln_sf, gm_sf_1, gm_sf_2, gm_nw_1, gm_nw_2, gm_k_int, gm_k_ref, gm_k_null, gm_k_u, gm_k_long, and_true, true_and, true_or, or_true, or_false, false_or, and_self, or_self, if_true, if_false, List.map_nil, List.map_cons, List.sum_nil, List.sum_cons, Nat.zero_le, Option.toList_some, Option.toList_none, List.cons_append, List.nil_append, ne_eq, not_false_eq_true, not_true_eq_false, nI_1, nI_add, Value.category, Nat.reduceAdd, Nat.reduceMod, Nat.reduceLeDiff, Nat.reduceLT, Nat.reduceEqDiff, Nat.reducePow, Nat.le_refl, Nat.add_left_cancel_iff, Nat.add_eq_left, Nat.left_eq_add, Nat.add_zero, t0, t1, t2]
    exact bad _ _ _ _ _ hres
end Y4
